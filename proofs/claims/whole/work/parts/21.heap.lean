/-! ===== fields, rows, making, calls ===== -/
section ZHEAP
variable {d : Nat} {mt : ZM} {cn : ZN} {pc : Nat} {ls : List (Option Value)} {st : List Value} {w : ZW} {Q : Option Value → ZW → Prop}
theorem zR.addr {g : ZG} {w : ZW} {H : Heap} {r : Nat} {e : ZE} (h : zR g w H) (hr : zat w r e) : za g r = g.1 + r := za_lt (Nat.lt_of_lt_of_le hr.1 h.2.1)
theorem zR.cell {g : ZG} {w : ZW} {H : Heap} {r : Nat} {e : ZE} (h : zR g w H) (hr : zat w r e) : (zl g w)[r]? = some (za g r, ze g e) := by
  rw [h.addr hr, zl_at hr.1, hr.2]
theorem zR.put {g : ZG} {w : ZW} {H H1 : Heap} {r : Nat} {e0 e : ZE} (h : zR g w H) (hr : zat w r e0) (hz : H1.size = H.size) (hP : va_P g.2.2.1 vwCl ((zl g w).set r (za g r, ze g e)) H1) : zR g (zput w r e) H1 := by
  rw [h.addr hr, zl_set e hr.1] at hP
  exact ⟨hz.trans h.1, h.2.1, hP⟩
theorem zw_get {idx ci k r : Nat} {fs : List Value} {v : Value} (hd : decode mt.2.1 pc = .ok (.getfield idx, 3)) (hF : zF mt.1.cls idx ci k) (h : zat w r (.inr (ci, fs))) (hv : fs[k]? = some v) (kk : Zw d mt cn (pc + 3) ls (v :: st) w Q) : Zw d mt cn pc ls (.ref r :: st) w Q := by
  intro g p l e R s m args below meth c Qm C H locs la hR hS hL
  obtain ⟨C0, T, N, hc, hk, hin, hl⟩ := hF
  have hv' : (fs.map (zv g))[k]? = some (zv g v) := by rw [List.getElem?_map, hv]; rfl
  have K := kk g p l e R s m args below meth c Qm C H locs la hR hS hL
  have e0 := C.2.2.2.2.2.2.2.1
  rcases hl with hl | ⟨host, hl⟩
  · exact va_get C.1 C.2.1 C.2.2.2.2.1 hin C.2.2.2.1 e0.1.1 hR.2.2 r (hR.cell h) hc k hk (C.2.2.2.2.1 _ hl) (fun _ q => q) hv' hd K
  · exact va_getN C.1 C.2.1 C.2.2.2.2.1 hin C.2.2.2.1 e0.1.1 hR.2.2 r (hR.cell h) hc k hk (va_Nw.use rfl (e0.1.2.2 _ hl)) (fun _ q => q) hv' hd K
theorem zw_put {idx ci k r : Nat} {fs : List Value} {v : Value} {ty : FieldType} (hd : decode mt.2.1 pc = .ok (.putfield idx, 3)) (hF : zP mt.1.cls idx ci k ty false) (h : zat w r (.inr (ci, fs))) (hn : ∀ g, narrow ty (zv g v) = zv g v) (hf : ∀ g, fits ty (zv g v) = true) (hl : k < fs.length) (kk : Zw d mt cn (pc + 3) ls st (zput w r (.inr (ci, fs.set k v))) Q) : Zw d mt cn pc ls (v :: .ref r :: st) w Q := by
  intro g p l e R s m args below meth c Qm C H locs la hR hS hL
  obtain ⟨C0, T, N, ty0, hc, hk, hin, hlk, hty, hnm, hdt, hfin, hdecl⟩ := hF
  have hts := C.2.2.2.2.1
  have hK := C.2.2.2.2.2.2.2.1.1.1
  have hP := hR.2.2
  have he := hR.cell h
  have hap := va_apart (own := mt.1.cls) hts hin ty0 hty hnm hK hc
  obtain ⟨r0, h1, cell, q1, q2, q3, q4⟩ := hP r _ he
  have hr0 : r0 = (C0, T, N) := Option.some.inj (h1.symm.trans hc)
  subst hr0
  obtain ⟨hSl, hfc, kC, hkC, hkind⟩ := hK.1 ci _ hc
  obtain ⟨cf, kf, fi, f, hi, hsl⟩ := hSl k hk
  have hlay := hts _ (hin _ (u_in_lay hk))
  unfold u_lay at hlay
  rw [if_neg (by rw [hfin]; decide)] at hlay
  have hst := (u_facts hfc hkC (u_lays hts hin hk) hi).1
  have h6 := u_store hfc hkC hkind hlay hi hdt (hn g) (hf g)
  refine W.putK C.1 C.2.1 (f := f) ⟨C.2.2.2.1, hts _ hlk, ⟨_, _, _, hi⟩, hst⟩ (by rw [q2]; exact h6) q1 q3 (by rw [hsl]; exact k2_hasslot (q4 k hk)) rfl rfl hd fun H' e1 e2 e3 => ?_
  rw [hsl] at e1 ⊢
  have hD := zl_D g w
  have e5 : (fs.map (zv g)).set k (zv g v) = (fs.set k v).map (zv g) := by rw [List.map_set]
  have hP' : va_P g.2.2.1 vwCl ((zl g w).set r (za g r, ze g (.inr (ci, fs.set k v)))) H' := hP.set hD he ⟨_, hc, t_OB.to (V := updV (vp_V (fs.map (zv g))) k (zv g v)) ⟨_, e1, q2, q3, t_set q4 hap hk (zv g v)⟩ (fun j _ => by rw [vp_updV_set (by simpa using hl), e5])⟩ e3
  exact kk g p l e R s m args below meth c Qm C H' _ la (hR.put h e2 hP') (hS.put e2 e3 (hD.2 r _ he)) hL
theorem zw_putF {idx ci k r : Nat} {fs : List Value} {v : Value} {ty : FieldType} (hd : decode mt.2.1 pc = .ok (.putfield idx, 3)) (hF : zP mt.1.cls idx ci k ty true) (hini : mt.1.name = "<init>") (h : zat w r (.inr (ci, fs))) (hn : ∀ g, narrow ty (zv g v) = zv g v) (hf : ∀ g, fits ty (zv g v) = true) (hl : k < fs.length) (kk : Zw d mt cn (pc + 3) ls st (zput w r (.inr (ci, fs.set k v))) Q) : Zw d mt cn pc ls (v :: .ref r :: st) w Q := by
  intro g p l e R s m args below meth c Qm C H locs la hR hS hL
  obtain ⟨C0, T, N, ty0, hc, hk, hin, hlk, hty, hnm, hdt, hfin, hdecl⟩ := hF
  have hts := C.2.2.2.2.1
  have hK := C.2.2.2.2.2.2.2.1.1.1
  have hP := hR.2.2
  have he := hR.cell h
  have hap := va_apart (own := mt.1.cls) hts hin ty0 hty hnm hK hc
  obtain ⟨r0, h1, cell, q1, q2, q3, q4⟩ := hP r _ he
  have hr0 : r0 = (C0, T, N) := Option.some.inj (h1.symm.trans hc)
  subst hr0
  obtain ⟨hSl, hfc, kC, hkC, hkind⟩ := hK.1 ci _ hc
  obtain ⟨cf, kf, fi, f, hi, hsl⟩ := hSl k hk
  have hlay := hts _ (hin _ (u_in_lay hk))
  unfold u_lay at hlay
  rw [if_pos hfin] at hlay
  have hst := (u_facts hfc hkC (u_lays hts hin hk) hi).1
  have hcf : m.cls = cf := by
    obtain ⟨_, _, c', _, _, _, -, -, hf', -, -, -, hown2, -⟩ := Cond.laysFinal_spec hlay
    have e1 : c' = cf := by have := hi.symm.trans hf'; simp at this; exact this.1.symm
    rw [hdecl] at hown2
    rw [← e1]; exact Option.some.inj (C.2.2.2.1.symm.trans hown2)
  have h6 := u_fits hfc hkC hkind (Or.inr hlay) hi hdt (hn g) (hf g)
  refine W.putFinK C.1 C.2.1 C.2.2.2.1 (hts _ hlk) hi hst hcf (C.2.2.2.2.2.1.trans hini) (by rw [q2]; exact h6) q1 q3 (by rw [hsl]; exact k2_hasslot (q4 k hk)) rfl rfl hd fun H' e1 e2 e3 => ?_
  rw [hsl] at e1 ⊢
  have hD := zl_D g w
  have e5 : (fs.map (zv g)).set k (zv g v) = (fs.set k v).map (zv g) := by rw [List.map_set]
  have hP' : va_P g.2.2.1 vwCl ((zl g w).set r (za g r, ze g (.inr (ci, fs.set k v)))) H' := hP.set hD he ⟨_, hc, t_OB.to (V := updV (vp_V (fs.map (zv g))) k (zv g v)) ⟨_, e1, q2, q3, t_set q4 hap hk (zv g v)⟩ (fun j _ => by rw [vp_updV_set (by simpa using hl), e5])⟩ e3
  exact kk g p l e R s m args below meth c Qm C H' _ la (hR.put h e2 hP') (hS.put e2 e3 (hD.2 r _ he)) hL
/-! rows -/
theorem zw_iald {a n : Nat} {f : Nat → Int32} {i : Int32} (hd : decode mt.2.1 pc = .ok (.iaload, 1)) (h : zat w a (.inl (0, n, f))) (hin : vp_in i n) (kk : Zw d mt cn (pc + 1) ls (.int (f i.toNatClampNeg) :: st) w Q) : Zw d mt cn pc ls (.int i :: .ref a :: st) w Q := by
  intro g p l e R s m args below meth c Qm C H locs la hR hS hL
  exact va_iald C.1 C.2.1 C.2.2.2.2.2.2.2.1.1.1 hR.2.2 a 0 (hR.cell h) rfl hin hd (kk g p l e R s m args below meth c Qm C H locs la hR hS hL)
theorem zw_bald {a n : Nat} {f : Nat → Int32} {i : Int32} (hd : decode mt.2.1 pc = .ok (.baload, 1)) (h : zat w a (.inl (1, n, f))) (hin : vp_in i n) (kk : Zw d mt cn (pc + 1) ls (.int (f i.toNatClampNeg) :: st) w Q) : Zw d mt cn pc ls (.int i :: .ref a :: st) w Q := by
  intro g p l e R s m args below meth c Qm C H locs la hR hS hL
  exact va_bald C.1 C.2.1 C.2.2.2.2.2.2.2.1.1.1 hR.2.2 a 1 (hR.cell h) rfl hin hd (kk g p l e R s m args below meth c Qm C H locs la hR hS hL)
theorem zw_zald {a n : Nat} {f : Nat → Int32} {i : Int32} (hd : decode mt.2.1 pc = .ok (.baload, 1)) (h : zat w a (.inl (2, n, f))) (hin : vp_in i n) (kk : Zw d mt cn (pc + 1) ls (.int (f i.toNatClampNeg) :: st) w Q) : Zw d mt cn pc ls (.int i :: .ref a :: st) w Q := by
  intro g p l e R s m args below meth c Qm C H locs la hR hS hL
  exact va_zald C.1 C.2.1 C.2.2.2.2.2.2.2.1.1.1 hR.2.2 a 2 (hR.cell h) rfl hin hd (kk g p l e R s m args below meth c Qm C H locs la hR hS hL)
theorem zcell_upd (cA : ClassId) (n : Nat) (f : Nat → Int32) (i : Nat) (x : Int32) : (vp_cell cA (n, .inl f)).setSlot i (.int x) = vp_cell cA (n, .inl (upd f i x)) := by
  rw [vp_cell_i, vp_cell_i, arrV_store]
  congr 1
  funext q
  by_cases hq : q = i
  · subst hq
    simp [updV, upd]
  · simp [updV, upd, hq]
theorem zw_iast {a n : Nat} {f : Nat → Int32} {i x : Int32} (hd : decode mt.2.1 pc = .ok (.iastore, 1)) (h : zat w a (.inl (0, n, f))) (hin : vp_in i n) (kk : Zw d mt cn (pc + 1) ls st (zput w a (.inl (0, n, upd f i.toNatClampNeg x))) Q) : Zw d mt cn pc ls (.int x :: .int i :: .ref a :: st) w Q := by
  intro g p l e R s m args below meth c Qm C H locs la hR hS hL
  have hP := hR.2.2
  have ha := hR.cell h
  have hD := zl_D g w
  have hK := C.2.2.2.2.2.2.2.1.1.1
  refine W.iast C.1 C.2.1 (hP a _ ha) ((hK.2 0 _ rfl).1 n (fun j => .int (f j))) (fun q => by cases q) (by show ¬ (i < 0 ∨ (arrV _ _ _).slots.size ≤ _); rw [arrV_size]; exact hin) rfl rfl hd fun H1 e1 z oq => ?_
  have hP' : va_P g.2.2.1 vwCl ((zl g w).set a (za g a, ze g (.inl (0, n, upd f i.toNatClampNeg x)))) H1 := hP.set hD ha (by
    show H1[za g a]? = some (vp_cell _ _)
    rw [← zcell_upd]
    exact e1) oq
  exact kk g p l e R s m args below meth c Qm C H1 _ la (hR.put h z hP') (hS.put z oq (hD.2 a _ ha)) hL
theorem zw_bast {a n : Nat} {f : Nat → Int32} {i x : Int32} (hd : decode mt.2.1 pc = .ok (.bastore, 1)) (h : zat w a (.inl (1, n, f))) (hin : vp_in i n) (kk : Zw d mt cn (pc + 1) ls st (zput w a (.inl (1, n, upd f i.toNatClampNeg (vp_nar .byte x)))) Q) : Zw d mt cn pc ls (.int x :: .int i :: .ref a :: st) w Q := by
  intro g p l e R s m args below meth c Qm C H locs la hR hS hL
  have hP := hR.2.2
  have ha := hR.cell h
  have hD := zl_D g w
  have hK := C.2.2.2.2.2.2.2.1.1.1
  refine W.bast C.1 C.2.1 (hP a _ ha) ((hK.2 1 _ rfl).1 n (fun j => .int (f j))) (fun q => by cases q) (by show ¬ (i < 0 ∨ (arrV _ _ _).slots.size ≤ _); rw [arrV_size]; exact hin) rfl rfl hd fun H1 e1 z oq => ?_
  have hP' : va_P g.2.2.1 vwCl ((zl g w).set a (za g a, ze g (.inl (1, n, upd f i.toNatClampNeg (vp_nar .byte x))))) H1 := hP.set hD ha (by
    show H1[za g a]? = some (vp_cell _ _)
    rw [← zcell_upd]
    exact e1) oq
  exact kk g p l e R s m args below meth c Qm C H1 _ la (hR.put h z hP') (hS.put z oq (hD.2 a _ ha)) hL
theorem zw_zast {a n : Nat} {f : Nat → Int32} {i x : Int32} (hd : decode mt.2.1 pc = .ok (.bastore, 1)) (h : zat w a (.inl (2, n, f))) (hin : vp_in i n) (kk : Zw d mt cn (pc + 1) ls st (zput w a (.inl (2, n, upd f i.toNatClampNeg (vp_nar .boolean x)))) Q) : Zw d mt cn pc ls (.int x :: .int i :: .ref a :: st) w Q := by
  intro g p l e R s m args below meth c Qm C H locs la hR hS hL
  have hP := hR.2.2
  have ha := hR.cell h
  have hD := zl_D g w
  have hK := C.2.2.2.2.2.2.2.1.1.1
  refine W.zast C.1 C.2.1 (hP a _ ha) ((hK.2 2 _ rfl).1 n (fun j => .int (f j))) (fun q => by cases q) (by show ¬ (i < 0 ∨ (arrV _ _ _).slots.size ≤ _); rw [arrV_size]; exact hin) rfl rfl hd fun H1 e1 z oq => ?_
  have hP' : va_P g.2.2.1 vwCl ((zl g w).set a (za g a, ze g (.inl (2, n, upd f i.toNatClampNeg (vp_nar .boolean x))))) H1 := hP.set hD ha (by
    show H1[za g a]? = some (vp_cell _ _)
    rw [← zcell_upd]
    exact e1) oq
  exact kk g p l e R s m args below meth c Qm C H1 _ la (hR.put h z hP') (hS.put z oq (hD.2 a _ ha)) hL
theorem zw_alen {a t n : Nat} {f : Nat → Int32} (hd : decode mt.2.1 pc = .ok (.arraylength, 1)) (h : zat w a (.inl (t, n, f))) (ht : t < 3) (kk : Zw d mt cn (pc + 1) ls (.int (Int32.ofNat n) :: st) w Q) : Zw d mt cn pc ls (.ref a :: st) w Q := by
  intro g p l e R s m args below meth c Qm C H locs la hR hS hL
  have K := kk g p l e R s m args below meth c Qm C H locs la hR hS hL
  have hK := C.2.2.2.2.2.2.2.1.1.1
  match t, ht with
  | 0, _ => exact va_alen C.1 C.2.1 hK hR.2.2 a 0 (hR.cell h) (ty := .int) rfl rfl hd K
  | 1, _ => exact va_alen C.1 C.2.1 hK hR.2.2 a 1 (hR.cell h) (ty := .byte) rfl rfl hd K
  | 2, _ => exact va_alen C.1 C.2.1 hK hR.2.2 a 2 (hR.cell h) (ty := .boolean) rfl rfl hd K
end ZHEAP
