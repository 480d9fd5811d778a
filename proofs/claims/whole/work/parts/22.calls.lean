/-! ===== making objects and rows, copying, calls, a method's entry ===== -/
section ZMAKE
variable {d : Nat} {mt : ZM} {pc k0 n0 mc ms : Nat} {ls : List (Option Value)} {st : List Value} {w : ZW} {Q : Option Value → ZW → Prop}
theorem zw_new {idx ci N : Nat} {fs : List Value} (hd : decode mt.2.1 pc = .ok (.new idx, 3)) (hN : zNew mt.1.cls idx ci N fs) (h1 : k0 + 1 ≤ mc) (h2 : n0 + N ≤ ms) (hw : w.1 < 1000000) (kk : Zw d mt (k0 + 1, n0 + N, mc, ms) (pc + 3) ls (.ref w.1 :: st) (zadd w (.inr (ci, fs))) Q) : Zw d mt (k0, n0, mc, ms) pc ls st w Q := by
  intro g p l e R s m args below meth c Qm C H locs la hR hS hL
  obtain ⟨C0, T, ty, hc, hin, hty, hcl, hinst, hini, hfs, hzz⟩ := hN
  have hts := C.2.2.2.2.1
  have e0 := C.2.2.2.2.2.2.2.1
  have hK := e0.1.1
  have hP := hR.2.2
  have hD := zl_D g w
  have hKn := hK.1 ci _ hc
  have rm := C.2.2.2.2.2.2.1
  refine W.newcK C.1 C.2.1 C.2.2.2.1 (hts _ hcl) (hts _ hinst) (hts _ hini) rfl hd (Nat.le_trans h1 rm.2.2.1) (Nat.le_trans h2 rm.2.2.2) hKn.2.1 rfl fun H1 kC hkC e1 z1 o1 => ?_
  have hk : ∀ (k : Nat) (x : Nat × va_E), (zl g w)[k]? = some x → H1[x.1]? = H[x.1]? := fun k x hx => o1 x.1 ((hP k x hx).lt)
  have hP1 : va_P g.2.2.1 vwCl (zl g w ++ [(g.1 + w.1, ze g (.inr (ci, fs)))]) H1 := (hP.kept hk).app (fun k x hx => by
    have hz : k < 1 := (List.getElem?_eq_some_iff.mp hx).1
    rw [show k = 0 by omega] at hx
    cases hx
    rw [← hR.1]
    exact ⟨_, hc, (u_born ty hts hin hKn hkC e1 hty).to (fun j hj => by rw [hfs j hj]; show vp_V fs j = vp_V (fs.map (zv g)) j; rw [hzz g])⟩)
  rw [zl_push] at hP1
  have ea : za g w.1 = H.size := by rw [za_lt hw, hR.1]
  have hst : (Value.ref w.1 :: st).map (zv g) = .ref H.size :: st.map (zv g) := by
    show Value.ref (za g w.1) :: _ = _
    rw [ea]
  have K := kk g p l e R s m args below meth c Qm C H1 locs la ⟨by rw [z1, hR.1]; rfl, hw, hP1⟩ ⟨Nat.le_trans hS.1 (by omega), fun x g1 g2 => (o1 x (Nat.lt_of_lt_of_le g1 hS.1)).trans (hS.2.1 x g1 g2), hS.2.2⟩ hL
  rw [hst] at K
  exact K
theorem zw_newa {t N : Nat} {n : Int32} {atype : ArrayType} {ty : FieldType} (hd : decode mt.2.1 pc = .ok (.newarray atype, 2)) (hty : newarray.typeOf atype = ty) (ht : t < 3) (hta : ∀ g : ZG, (ztys g)[t]? = some (g.2.2.2 t, ty)) (hv : defaultValue ty = .int 0) (hw0 : Cond.arrayClass ty ∈ zT) (hn : ¬ n < 0) (hN : n.toNatClampNeg = N) (hby : N * componentBytes ty ≤ 536870912) (h1 : k0 + 1 ≤ mc) (h2 : n0 + N ≤ ms) (hw : w.1 < 1000000) (kk : Zw d mt (k0 + 1, n0 + N, mc, ms) (pc + 2) ls (.ref w.1 :: st) (zadd w (.inl (t, N, fun _ => 0))) Q) : Zw d mt (k0, n0, mc, ms) pc ls (.int n :: st) w Q := by
  subst hty
  intro g p l e R s m args below meth c Qm C H locs la hR hS hL
  have hts := C.2.2.2.2.1
  have e0 := C.2.2.2.2.2.2.2.1
  have hK := e0.1.1
  have hP := hR.2.2
  have rm := C.2.2.2.2.2.2.1
  refine va_newaK C.1 C.2.1 (hts _ hw0) rfl hd rfl hn hN hby (Nat.le_trans h1 rm.2.2.1) (Nat.le_trans h2 rm.2.2.2) rfl fun H1 cA e1 z1 o1 hAr hNm => ?_
  have hcA : cA = g.2.2.2 t := by
    have q := (hK.2 t _ (hta g)).2
    have q2 : s.vm.findClass ("[" ++ (newarray.typeOf atype).toString) = some (g.2.2.2 t) := by
      cases atype <;> exact q
    exact Option.some.inj (hNm.symm.trans q2)
  have hk : ∀ (k : Nat) (x : Nat × va_E), (zl g w)[k]? = some x → H1[x.1]? = H[x.1]? := fun k x hx => o1 x.1 ((hP k x hx).lt)
  have hP1 : va_P g.2.2.1 vwCl (zl g w ++ [(g.1 + w.1, ze g (.inl (t, N, fun _ => 0)))]) H1 := (hP.kept hk).app (fun k x hx => by
    have hz : k < 1 := (List.getElem?_eq_some_iff.mp hx).1
    rw [show k = 0 by omega] at hx
    cases hx
    rw [← hR.1]
    show H1[H.size]? = some (vp_cell _ _)
    rw [e1, hcA, hv]
    rfl)
  rw [zl_push] at hP1
  have ea : za g w.1 = H.size := by rw [za_lt hw, hR.1]
  have hst : (Value.ref w.1 :: st).map (zv g) = .ref H.size :: st.map (zv g) := by
    show Value.ref (za g w.1) :: _ = _
    rw [ea]
  have K := kk g p l e R s m args below meth c Qm C H1 locs la ⟨by rw [z1, hR.1]; rfl, hw, hP1⟩ ⟨Nat.le_trans hS.1 (by omega), fun x g1 g2 => (o1 x (Nat.lt_of_lt_of_le g1 hS.1)).trans (hS.2.1 x g1 g2), hS.2.2⟩ hL
  rw [hst] at K
  exact K
end ZMAKE
theorem zRun_go {p : Program} {l : Launch} {e : Env} {R : Room} {s : State} {m : MethodId} {args : Array Value} {below : List Frame} {meth : Method} {c : Code} {H : Heap} {locs : List Loc} {cells slots mc ms pc : Nat} {Qm : State → Prop} {la : Array Slot} {st0 rest : List Value} {g : ZG} {Q : Option Value → ZW → Prop} {a : Array Value}
    (hr : va_Run p l e R s m args below meth c H locs cells slots mc ms (F0 m pc la st0) rest (zQc g Q a) (zA g)) (hS : va_S (zA g) s.heap H locs)
    (kk : ∀ (v : Option Value) (w : ZW) (H1 : Heap) (locs1 : List Loc), Q v w → zR g w H1 → va_S (zA g) s.heap H1 locs1 → W p l e R s m args below meth c H1 locs1 (cells + mc) (slots + ms) Qm (F0 m (pc + 3) la ((v.map (zv g)).toList ++ rest))) : W p l e R s m args below meth c H locs cells slots Qm (F0 m pc la st0) := by
  intro T hT X
  obtain ⟨v0, st₀, t, T', L, h0, X', hL, e1, e2, ⟨v, w, hv, hq, hR, hz, hk⟩, st⟩ := hr T hT X
  cases hv
  rw [h0] at hz hk
  obtain ⟨t2, a1, b1⟩ := kk v w T'.heap (locs ++ L) hq (by rw [e1]; exact hR)
    ⟨Nat.le_trans hS.1 (by rw [e1]; exact hz), fun q h1 h2 => by rw [e1, hk q (Nat.lt_of_lt_of_le h1 hS.1) h2]; exact hS.2.1 q h1 h2, fun q hq => by
      rcases List.mem_append.mp hq with h | h
      · exact hS.2.2 q h
      · exact hL q h⟩ T' rfl X'
  exact ⟨t2, st t2 a1, b1⟩
section ZCALL
variable {d : Nat} {mt : ZM} {pc k0 n0 mc ms : Nat} {ls : List (Option Value)} {st : List Value} {w : ZW} {Q : Option Value → ZW → Prop}
theorem zPre {g : ZG} {s : State} {H : Heap} {locs : List Loc} {as : List Value} (hE : zEnv g s) (hR : zR g w H) (hS : va_S (zA g) s.heap H locs) : PreS s H (zPc g as w) (as.map (zv g)) := ⟨zPc_blind g as w, fun U hU hW => ⟨rfl, by rw [hU]; exact hR, hE.go hU hW hS⟩⟩
theorem zroomOk {d mL : Nat} {R : Room} {c1 s1 : Nat} (h : mL ≤ 40) (hf : d + 1 ≤ R.frames) (hl : 64 * (d + 1) ≤ R.locals) : (zroom d c1 s1).frames + 1 ≤ R.frames ∧ 8 + (mL + 11) + (zroom d c1 s1).locals ≤ R.locals := ⟨hf, by show 8 + (mL + 11) + 64 * d ≤ R.locals; omega⟩
theorem zcats (g : ZG) (st : List Value) : ((st.map (zv g)).map fun v => v.category).sum = (st.map fun v => v.category).sum := by
  rw [List.map_map]
  congr 1
  apply List.map_congr_left
  intro v _
  exact zv_cat g v
theorem zBehind {g : ZG} {p : Program} {l : Launch} {e : Env} {R : Room} {s : State} {m : MethodId} {args : Array Value} {below : List Frame} {meth : Method} {c : Code} {Qm : State → Prop} {la : Array Slot} (k1 n1 : Nat) (C : zCx (d + 1) mt mc ms Q g p l e R s m args below meth c Qm) (hL : zL g ls la) (v : Option Value) (w' : ZW) (H1 : Heap) (locs1 : List Loc) (hz : Zw (d + 1) mt (k1, n1, mc, ms) (pc + 3) ls (v.toList ++ st) w' Q) (hR1 : zR g w' H1) (hS1 : va_S (zA g) s.heap H1 locs1) : W p l e R s m args below meth c H1 locs1 k1 n1 Qm (F0 m (pc + 3) la ((v.map (zv g)).toList ++ st.map (zv g))) := by
  have K := hz g p l e R s m args below meth c Qm C H1 locs1 la hR1 hS1 hL
  have es : (v.toList ++ st).map (zv g) = (v.map (zv g)).toList ++ st.map (zv g) := by cases v <;> rfl
  rw [es] at K
  exact K
theorem zw_callV {mt' : ZM} {idx n r ci mc' ms' : Nat} {as : List Value} {fs : List Value} (hd : decode mt.2.1 pc = .ok (.invokevirtual idx, 3)) (hok : zOk mt' n) (hv : zVirt mt') (hl : zLk mt.1.cls idx mt'.1) (hr : zat w r (.inr (ci, fs))) (hci : (vwCl[ci]?).map (fun q => q.1) = some mt'.1.cls) (hn : as.length = n) (hc : (st.map fun v => v.category).sum ≤ 8) (hll : ls.length = mt.2.2.1) (h1 : k0 + mc' ≤ mc) (h2 : n0 + ms' ≤ ms)
    (hM : Zm d mt' mc' ms' (.ref r :: as) w (fun v w' => Zw (d + 1) mt (k0 + mc', n0 + ms', mc, ms) (pc + 3) ls (v.toList ++ st) w' Q)) : Zw (d + 1) mt (k0, n0, mc, ms) pc ls (as.reverse ++ .ref r :: st) w Q := by
  intro g p l e R s m args below meth c Qm C H locs la hR hS hL
  have hts := C.2.2.2.2.1
  have e0 := C.2.2.2.2.2.2.2.1
  have rm := C.2.2.2.2.2.2.1
  obtain ⟨o1, o2, o3, o4, o5⟩ := hok
  have hpre := zPre (as := .ref r :: as) e0 hR hS
  have hrecv : ∃ cell : Cell, H[za g r]? = some cell ∧ cell.vm.isStatics = false ∧ s.vm.findClass mt'.1.cls = some cell.cls := by
    cases hq : vwCl[ci]? with
    | none => rw [hq] at hci; cases hci
    | some q =>
      rw [hq] at hci
      rw [← Option.some.inj hci]
      exact va_recv e0.1.1 hR.2.2 hq (hR.cell hr)
  have hstk : (as.reverse ++ .ref r :: st).map (zv g) = (as.map (zv g)).reverse ++ .ref (za g r) :: st.map (zv g) := by simp [zv]
  rw [hstk]
  have hroom : (F0 m pc la ((as.map (zv g)).reverse ++ .ref (za g r) :: st.map (zv g))).monitorRoom = 0 := rfl
  have hsz : la.size = c.maxLocals := by rw [hL.1, hll, C.2.2.1]
  rcases hl with hl | ⟨host, hl⟩
  · exact zRun_go (va_runV (As := as.map (zv g)) (rest := st.map (zv g)) (nL := c.maxLocals) ⟨C.1, C.2.1, rfl, C.2.2.2.1, hts⟩ (hM l g) ⟨callB_of n hts (zT_good o1) rfl rfl rfl (hts _ o2) (hts _ hl) o5 (zroomOk o4 rm.1 rm.2.1), hts _ hv.1, hts _ hv.2⟩ ⟨hpre.1, hrecv, hpre.2⟩ rfl (by rw [List.length_map]; exact hn) hsz rfl (by rw [hroom, zcats]; omega) hd ⟨Nat.le_trans h1 rm.2.2.1, Nat.le_trans h2 rm.2.2.2⟩) hS (zBehind (st := st) (k0 + mc') (n0 + ms') C hL)
  · exact zRun_go (va_runVN (As := as.map (zv g)) (rest := st.map (zv g)) (nL := c.maxLocals) ⟨C.1, C.2.1, rfl, C.2.2.2.1, hts⟩ (hM l g) ⟨va_cnB n hts (zT_good o1) rfl rfl rfl (e0.1.2.2 _ hl) (hts _ o2) o5 (zroomOk o4 rm.1 rm.2.1), hts _ hv.1, hts _ hv.2⟩ ⟨hpre.1, hrecv, hpre.2⟩ rfl (by rw [List.length_map]; exact hn) hsz rfl (by rw [hroom, zcats]; omega) hd ⟨Nat.le_trans h1 rm.2.2.1, Nat.le_trans h2 rm.2.2.2⟩) hS (zBehind (st := st) (k0 + mc') (n0 + ms') C hL)
theorem zw_callS {mt' : ZM} {idx n mc' ms' : Nat} {as : List Value} (hd : decode mt.2.1 pc = .ok (.invokestatic idx, 3)) (hok : zOk mt' n) (hv : zStat mt') (hl : zLk mt.1.cls idx mt'.1) (hn : as.length = n) (hc : (st.map fun v => v.category).sum ≤ 8) (hll : ls.length = mt.2.2.1) (h1 : k0 + mc' ≤ mc) (h2 : n0 + ms' ≤ ms)
    (hM : Zm d mt' mc' ms' as w (fun v w' => Zw (d + 1) mt (k0 + mc', n0 + ms', mc, ms) (pc + 3) ls (v.toList ++ st) w' Q)) : Zw (d + 1) mt (k0, n0, mc, ms) pc ls (as.reverse ++ st) w Q := by
  intro g p l e R s m args below meth c Qm C H locs la hR hS hL
  have hts := C.2.2.2.2.1
  have e0 := C.2.2.2.2.2.2.2.1
  have rm := C.2.2.2.2.2.2.1
  obtain ⟨o1, o2, o3, o4, o5⟩ := hok
  have hpre := zPre (as := as) e0 hR hS
  have hstk : (as.reverse ++ st).map (zv g) = (as.map (zv g)).reverse ++ st.map (zv g) := by simp
  rw [hstk]
  have hroom : (F0 m pc la ((as.map (zv g)).reverse ++ st.map (zv g))).monitorRoom = 0 := rfl
  have hsz : la.size = c.maxLocals := by rw [hL.1, hll, C.2.2.1]
  rcases hl with hl | ⟨host, hl⟩
  · exact zRun_go (va_runS (As := as.map (zv g)) (rest := st.map (zv g)) (nL := c.maxLocals) ⟨C.1, C.2.1, rfl, C.2.2.2.1, hts⟩ (hM l g) ⟨callB_of n hts (zT_good o1) rfl rfl rfl (hts _ o2) (hts _ hl) o5 (zroomOk o4 rm.1 rm.2.1), hts _ hv⟩ hpre rfl (by rw [List.length_map]; exact hn) hsz rfl (by rw [hroom, zcats]; omega) hd ⟨Nat.le_trans h1 rm.2.2.1, Nat.le_trans h2 rm.2.2.2⟩) hS (zBehind (st := st) (k0 + mc') (n0 + ms') C hL)
  · exact zRun_go (va_runSN (As := as.map (zv g)) (rest := st.map (zv g)) (nL := c.maxLocals) ⟨C.1, C.2.1, rfl, C.2.2.2.1, hts⟩ (hM l g) ⟨va_cnB n hts (zT_good o1) rfl rfl rfl (e0.1.2.2 _ hl) (hts _ o2) o5 (zroomOk o4 rm.1 rm.2.1), hts _ hv, trivial⟩ hpre rfl (by rw [List.length_map]; exact hn) hsz rfl (by rw [hroom, zcats]; omega) hd ⟨Nat.le_trans h1 rm.2.2.1, Nat.le_trans h2 rm.2.2.2⟩) hS (zBehind (st := st) (k0 + mc') (n0 + ms') C hL)
theorem zw_callI {mt' : ZM} {idx n r mc' ms' : Nat} {as : List Value} (hd : decode mt.2.1 pc = .ok (.invokespecial idx, 3)) (hok : zOk mt' n) (hv : zCtor mt') (hl : zLk mt.1.cls idx mt'.1) (hn : as.length = n) (hc : (st.map fun v => v.category).sum ≤ 8) (hll : ls.length = mt.2.2.1) (h1 : k0 + mc' ≤ mc) (h2 : n0 + ms' ≤ ms)
    (hM : Zm d mt' mc' ms' (.ref r :: as) w (fun v w' => Zw (d + 1) mt (k0 + mc', n0 + ms', mc, ms) (pc + 3) ls (v.toList ++ st) w' Q)) : Zw (d + 1) mt (k0, n0, mc, ms) pc ls (as.reverse ++ .ref r :: st) w Q := by
  intro g p l e R s m args below meth c Qm C H locs la hR hS hL
  have hts := C.2.2.2.2.1
  have e0 := C.2.2.2.2.2.2.2.1
  have rm := C.2.2.2.2.2.2.1
  obtain ⟨y, bc, mL, rt⟩ := mt'
  obtain ⟨hy1, hv, hnone⟩ := hv
  cases hnone
  obtain ⟨o1, o2, o3, o4, o5⟩ := hok
  have hpre := zPre (as := .ref r :: as) e0 hR hS
  have hstk : (as.reverse ++ .ref r :: st).map (zv g) = (as.map (zv g)).reverse ++ .ref (za g r) :: st.map (zv g) := by simp [zv]
  rw [hstk]
  have hroom : (F0 m pc la ((as.map (zv g)).reverse ++ .ref (za g r) :: st.map (zv g))).monitorRoom = 0 := rfl
  have hsz : la.size = c.maxLocals := by rw [hL.1, hll, C.2.2.1]
  rcases hl with hl | ⟨host, hl⟩
  · exact zRun_go (va_runI (As := as.map (zv g)) (rest := st.map (zv g)) (nL := c.maxLocals) ⟨C.1, C.2.1, rfl, C.2.2.2.1, hts⟩ (hM l g) ⟨callB_of n hts (zT_good o1) rfl rfl rfl (hts _ o2) (hts _ hl) o5 (zroomOk o4 rm.1 rm.2.1), hy1, hts _ hv⟩ hpre rfl (by rw [List.length_map]; exact hn) hsz rfl (by rw [hroom, zcats]; omega) hd ⟨Nat.le_trans h1 rm.2.2.1, Nat.le_trans h2 rm.2.2.2⟩) hS (zBehind (st := st) (k0 + mc') (n0 + ms') C hL)
  · exact zRun_go (va_runIN (As := as.map (zv g)) (rest := st.map (zv g)) (nL := c.maxLocals) ⟨C.1, C.2.1, rfl, C.2.2.2.1, hts⟩ (hM l g) ⟨va_cnB n hts (zT_good o1) rfl rfl rfl (e0.1.2.2 _ hl) (hts _ o2) o5 (zroomOk o4 rm.1 rm.2.1), hy1, hts _ hv⟩ hpre rfl (by rw [List.length_map]; exact hn) hsz rfl (by rw [hroom, zcats]; omega) hd ⟨Nat.le_trans h1 rm.2.2.1, Nat.le_trans h2 rm.2.2.2⟩) hS (zBehind (st := st) (k0 + mc') (n0 + ms') C hL)
theorem zw_objInit {cn : ZN} {idx r : Nat} (hd : decode mt.2.1 pc = .ok (.invokespecial idx, 3)) (hl : Cond.methodLink mt.1.cls idx Lib.objectInit ∈ zT) (hi : Cond.instanceMethod Lib.objectInit ∈ zT) (hcd : Cond.code Lib.objectInit ⟨#[0xb1]⟩ 1 none ∈ zT) (hll : ls.length = mt.2.2.1) (hc : (st.map fun v => v.category).sum ≤ 8) (kk : Zw (d + 1) mt cn (pc + 3) ls st w Q) : Zw (d + 1) mt cn pc ls (.ref r :: st) w Q := by
  intro g p l e R s m args below meth c Qm C H locs la hR hS hL
  have hts := C.2.2.2.2.1
  have rm := C.2.2.2.2.2.2.1
  have hsz : la.size = c.maxLocals := by rw [hL.1, hll, C.2.2.1]
  refine W.objInit C.1 C.2.1 C.2.2.2.1 (hts _ hl) (hts _ hi) (hts _ hcd) rfl hsz (a := za g r) (rest := st.map (zv g)) rfl hd (by omega) ?_ (kk g p l e R s m args below meth c Qm C H locs la hR hS hL)
  show 2 * 0 + ((st.map (zv g)).map fun v => v.category).sum + 12 ≤ R.locals
  rw [zcats]
  omega
theorem zw_copy {cn : ZN} {idx a0 a1 x0 x1 : Nat} {f f1 : Nat → Int32} {sp dp n : Int32} (hd : decode mt.2.1 pc = .ok (.invokestatic idx, 3)) (hl : Cond.methodLink mt.1.cls idx arraycopyName ∈ zT) (hna : Cond.native arraycopyName ∈ zT) (hst : Cond.static arraycopyName ∈ zT) (hin : Cond.initialized "java/lang/System" ∈ zT) (h0 : zat w a0 (.inl (0, x0, f))) (h1 : zat w a1 (.inl (0, x1, f1))) (q1 : ¬ sp < 0) (q2 : ¬ dp < 0) (q3 : ¬ n < 0) (q4 : sp.toNatClampNeg + n.toNatClampNeg ≤ x0) (q5 : dp.toNatClampNeg + n.toNatClampNeg ≤ x1) (hll : ls.length = mt.2.2.1) (hc : (st.map fun v => v.category).sum ≤ 8)
    (kk : Zw (d + 1) mt cn (pc + 3) ls st (zput w a1 (.inl (0, x1, va_cpy f f1 sp.toNatClampNeg dp.toNatClampNeg n.toNatClampNeg))) Q) : Zw (d + 1) mt cn pc ls (.int n :: .int dp :: .ref a1 :: .int sp :: .ref a0 :: st) w Q := by
  intro g p l e R s m args below meth c Qm C H locs la hR hS hL
  have hts := C.2.2.2.2.1
  have rm := C.2.2.2.2.2.2.1
  have hK := C.2.2.2.2.2.2.2.1.1.1
  have hsz : la.size = c.maxLocals := by rw [hL.1, hll, C.2.2.1]
  have nn : ∀ z : Int32, ¬ z < 0 → z.toInt = (z.toNatClampNeg : Int) := by
    intro z hz
    have hz0 : (0 : Int) ≤ z.toInt := by
      have := Int32.not_lt.mp hz
      simpa using Int32.le_iff_toInt_le.mp this
    show z.toInt = ((z.toInt.toNat : Nat) : Int)
    omega
  intro T hT X
  have hD := zl_D g w
  have hc0 : H[za g a0]? = some (vp_cell (g.2.2.2 0) (x0, .inl f)) := hR.2.2 a0 _ (hR.cell h0)
  have hc1 : H[za g a1]? = some (vp_cell (g.2.2.2 0) (x1, .inl f1)) := hR.2.2 a1 _ (hR.cell h1)
  obtain ⟨-, k0, hk0, cm0, hkk0⟩ := (hK.2 0 _ rfl).1 x0 (fun j => .int (f j))
  obtain ⟨-, k1, hk1, cm1, hkk1⟩ := (hK.2 0 _ rfl).1 x1 (fun j => .int (f1 j))
  obtain ⟨vm', X', step⟩ := X.arraycopy C.1 C.2.2.2.1 (hts _ hl) (hts _ hna) (hts _ hst) (hts _ hin) (src := za g a0) (dst := za g a1) (cs := vp_cell (g.2.2.2 0) (x0, .inl f)) (cd := vp_cell (g.2.2.2 0) (x1, .inl f1)) (srcPos := sp) (destPos := dp) (n := n) (by rw [hT]; exact hc0) (by rw [hT]; exact hc1)
    (fun _ h => by cases h) (fun _ h => by cases h) (fun h => by cases h) (fun h => by cases h) hk0 hk1 hkk0 hkk1 (by simp [refKind]) q1 q2 q3
    (by rw [nn sp q1, nn n q3]; show ¬ _ > ((arrV (g.2.2.2 0) x0 (fun j => .int (f j))).slots.size : Int); rw [arrV_size]; omega)
    (by rw [nn dp q2, nn n q3]; show ¬ _ > ((arrV (g.2.2.2 0) x1 (fun j => .int (f1 j))).slots.size : Int); rw [arrV_size]; omega)
    (fun vm₁ _ i hi => by
      have e : (vp_cell (g.2.2.2 0) (x0, .inl f)).slots.getD (sp.toNatClampNeg + i) .null = .int (f (sp.toNatClampNeg + i)) := by
        show (arrV (g.2.2.2 0) x0 (fun j => .int (f j))).slots.getD _ _ = _
        rw [Array.getD_eq_getD_getElem?, arrV_read _ _ (by omega)]
        rfl
      refine ⟨?_, ?_⟩
      · rw [e]
        rfl
      · rw [e]
        exact trivial)
    (g := F0 m pc la (.int n :: .int dp :: .ref (za g a1) :: .int sp :: .ref (za g a0) :: st.map (zv g))) rfl hsz (rest := st.map (zv g)) rfl (by rw [C.2.1]; exact hd) (by omega) (by
      show 2 * 0 + _ + _ ≤ _
      rw [zcats]
      have : nativeFrameWords "java/lang/System" "arraycopy" 5 ≤ 40 := by decide +kernel
      omega)
  have e1 : copied (vp_cell (g.2.2.2 0) (x0, .inl f)) (vp_cell (g.2.2.2 0) (x1, .inl f1)) sp dp n = vp_cell (g.2.2.2 0) (x1, .inl (va_cpy f f1 sp.toNatClampNeg dp.toNatClampNeg n.toNatClampNeg)) := va_copied (fun z => .int z) (g.2.2.2 0) (g.2.2.2 0) f f1 q4
  rw [e1] at X' step
  have hl1 : za g a1 < H.size := (Array.getElem?_eq_some_iff.mp hc1).1
  generalize hN : vp_cell (g.2.2.2 0) (x1, .inl (va_cpy f f1 sp.toNatClampNeg dp.toNatClampNeg n.toNatClampNeg)) = NC at X' step
  have hheap : ((T.setVm vm').setCell (za g a1) NC).heap = H.setIfInBounds (za g a1) NC := by rw [← hT]; rfl
  have oq : ∀ q : Nat, q ≠ za g a1 → (H.setIfInBounds (za g a1) NC)[q]? = H[q]? := fun q hq => by simp [Array.getElem?_setIfInBounds, Ne.symm hq]
  have hP' : va_P g.2.2.1 vwCl ((zl g w).set a1 (za g a1, ze g (.inl (0, x1, va_cpy f f1 sp.toNatClampNeg dp.toNatClampNeg n.toNatClampNeg)))) (H.setIfInBounds (za g a1) NC) := hR.2.2.set hD (hR.cell h1) (by
    show (H.setIfInBounds (za g a1) NC)[za g a1]? = some (vp_cell _ _)
    rw [← hN]
    simp [Array.getElem?_setIfInBounds, hl1]) oq
  obtain ⟨t, a1', b1⟩ := kk g p l e R s m args below meth c Qm C (H.setIfInBounds (za g a1) NC) _ la (hR.put h1 (by simp) hP') ⟨by simp; exact hS.1, fun q g1 g2 => by
      rw [oq q (fun e => g2 (by rw [e]; exact hD.2 a1 _ (hR.cell h1)))]
      exact hS.2.1 q g1 g2, fun q hq => by
      rcases List.mem_append.mp hq with h | h
      · exact hS.2.2 q h
      · obtain ⟨z, -, hz⟩ := List.mem_map.mp h
        rw [← hz]
        exact hD.2 a1 _ (hR.cell h1)⟩ hL _ hheap X'
  exact ⟨t, step t a1', b1⟩
theorem zw_max {idx : Nat} {x y : Int32} (hd : decode mt.2.1 pc = .ok (.invokestatic idx, 3)) (hl : Cond.methodLink mt.1.cls idx Lib.Math.max.name ∈ zT) (hs : Cond.static Lib.Math.max.name ∈ zT) (hi : Cond.initialized "java/lang/Math" ∈ zT) (hcd : Cond.code Lib.Math.max.name Lib.Math.max.code 2 (some .int) ∈ zT) (hll : ls.length = mt.2.2.1) (hc : (st.map fun v => v.category).sum ≤ 8) (h1 : k0 ≤ mc) (h2 : n0 ≤ ms) (kk : Zw (d + 1) mt (k0, n0, mc, ms) (pc + 3) ls (.int (if x < y then y else x) :: st) w Q) : Zw (d + 1) mt (k0, n0, mc, ms) pc ls (.int y :: .int x :: st) w Q := by
  intro g p l e R s m args below meth c Qm C H locs la hR hS hL
  have hts := C.2.2.2.2.1
  have rm := C.2.2.2.2.2.2.1
  have hsz : c.maxLocals = la.size := by rw [hL.1, hll, C.2.2.1]
  exact va_mmax C.1 C.2.1 hsz C.2.2.2.1 (hts _ hl) (hts _ hs) (hts _ hi) (hts _ hcd) (by omega) (by rw [zcats]; omega) (Nat.le_trans h1 rm.2.2.1) (Nat.le_trans h2 rm.2.2.2) hd (kk g p l e R s m args below meth c Qm C H locs la hR hS hL)
theorem zw_min {idx : Nat} {x y : Int32} (hd : decode mt.2.1 pc = .ok (.invokestatic idx, 3)) (hl : Cond.methodLink mt.1.cls idx Lib.Math.min.name ∈ zT) (hs : Cond.static Lib.Math.min.name ∈ zT) (hi : Cond.initialized "java/lang/Math" ∈ zT) (hcd : Cond.code Lib.Math.min.name Lib.Math.min.code 2 (some .int) ∈ zT) (hll : ls.length = mt.2.2.1) (hc : (st.map fun v => v.category).sum ≤ 8) (h1 : k0 ≤ mc) (h2 : n0 ≤ ms) (kk : Zw (d + 1) mt (k0, n0, mc, ms) (pc + 3) ls (.int (if y < x then y else x) :: st) w Q) : Zw (d + 1) mt (k0, n0, mc, ms) pc ls (.int y :: .int x :: st) w Q := by
  intro g p l e R s m args below meth c Qm C H locs la hR hS hL
  have hts := C.2.2.2.2.1
  have rm := C.2.2.2.2.2.2.1
  have hsz : c.maxLocals = la.size := by rw [hL.1, hll, C.2.2.1]
  exact va_mmin C.1 C.2.1 hsz C.2.2.2.1 (hts _ hl) (hts _ hs) (hts _ hi) (hts _ hcd) (by omega) (by rw [zcats]; omega) (Nat.le_trans h1 rm.2.2.1) (Nat.le_trans h2 rm.2.2.2) hd (kk g p l e R s m args below meth c Qm C H locs la hR hS hL)
/-- a method's entry -/
def zent (as : List Value) (n : Nat) : List (Option Value) := match as with
  | [] => List.replicate n none
  | v :: vs => if v.category = 2 then some v :: none :: zent vs (n - 2) else some v :: zent vs (n - 1)
theorem zent_len : ∀ (as : List Value) (n : Nat), (lg_sl as).length ≤ n → (zent as n).length = n
  | [], n, _ => by simp [zent]
  | v :: vs, n, h => by
    unfold zent
    have e : lg_sl (v :: vs) = (if v.category = 2 then [.val v, .second] else [.val v]) ++ lg_sl vs := rfl
    rw [e, List.length_append] at h
    by_cases hc : v.category = 2
    · rw [if_pos hc] at h ⊢
      simp only [List.length_cons, List.length_nil] at h ⊢
      rw [zent_len vs (n - 2) (by omega)]
      omega
    · rw [if_neg hc] at h ⊢
      simp only [List.length_cons, List.length_nil] at h ⊢
      rw [zent_len vs (n - 1) (by omega)]
      omega
theorem zent_in (g : ZG) : ∀ (as : List Value) (n off i : Nat) (v : Value), (zent as n)[i]? = some (some v) → (off + i, zv g v) ∈ lv_args off (as.map (zv g))
  | [], n, off, i, v, h => by
    unfold zent at h
    rw [List.getElem?_replicate] at h
    split at h <;> cases h
  | u :: vs, n, off, i, v, h => by
    unfold zent at h
    show (off + i, zv g v) ∈ (off, zv g u) :: lv_args (if (zv g u).category = 2 then off + 2 else off + 1) (vs.map (zv g))
    rw [zv_cat]
    by_cases hc : u.category = 2
    · rw [if_pos hc] at h ⊢
      match i, h with
      | 0, h => cases h; exact List.mem_cons_self
      | 1, h => cases h
      | i + 2, h =>
        refine List.mem_cons_of_mem _ ?_
        have := zent_in g vs (n - 2) (off + 2) i v h
        rwa [show off + 2 + i = off + (i + 2) by omega] at this
    · rw [if_neg hc] at h ⊢
      match i, h with
      | 0, h => cases h; exact List.mem_cons_self
      | i + 1, h =>
        refine List.mem_cons_of_mem _ ?_
        have := zent_in g vs (n - 1) (off + 1) i v h
        rwa [show off + 1 + i = off + (i + 1) by omega] at this
theorem lg_sl_zv (g : ZG) : ∀ as : List Value, (lg_sl (as.map (zv g))).length = (lg_sl as).length
  | [] => rfl
  | v :: vs => by
    have e : ∀ (u : Value) (us : List Value), (lg_sl (u :: us)).length = (if u.category = 2 then 2 else 1) + (lg_sl us).length := by
      intro u us
      show ((if u.category = 2 then [Slot.val u, .second] else [Slot.val u]) ++ lg_sl us).length = _
      rw [List.length_append]
      split <;> rfl
    rw [List.map_cons, e, e, zv_cat, lg_sl_zv g vs]
theorem zm_intro {d : Nat} {mt : ZM} {mc ms : Nat} {as : List Value} {w : ZW} {Q : Option Value → ZW → Prop} {n : Nat} (ls : List (Option Value)) (hok : zOk mt n) (hw : (lg_sl as).length ≤ mt.2.2.1) (hls : zent as mt.2.2.1 = ls) (h : Zw d mt (0, 0, mc, ms) 0 ls [] w Q) : Zm d mt mc ms as w Q := by
  subst hls
  intro l g
  refine Met.ofW (cc := mt.2.1) (maxL := mt.2.2.1) (ret := mt.2.2.2) hok.2.2.1 rfl ?_
  intro p e s m args below meth c s₁ B hml hv
  obtain ⟨rfl, hR, hE⟩ := hv
  have hts := atoms_spec (ws := Cond.code mt.1 mt.2.1 mt.2.2.1 mt.2.2.2 :: zT) B.pre
  have hr := B.returns
  have hlocks := B.notSynchronized
  have hl := lv_entry (as.map (zv g)) (n := mt.2.2.1) (by rw [lg_sl_zv]; exact hw)
  rw [lg_entry_eq]
  generalize (lg_sl (as.map (zv g)) ++ List.replicate (mt.2.2.1 - (lg_sl (as.map (zv g))).length) Slot.unset).toArray = la at hl ⊢
  have hL : zL g (zent as mt.2.2.1) la := ⟨by rw [hl.1, zent_len as _ hw], hl.2.1, fun i v hi => by
    have := hl.2.2 _ (zent_in g as _ 0 i v hi)
    simpa using this⟩
  refine h g p l e _ s m _ below meth c (MQ below (zQc g Q) (as.map (zv g)).toArray s mc ms (zA g)) ⟨B.exec, B.bytes, hml, findClass_of_methodNamed B.named, fun w hw => hts w (List.mem_cons_of_mem _ hw), (name_of_methodNamed B.named B.method).1, ⟨Nat.le_refl _, Nat.le_refl _, Nat.le_refl _, Nat.le_refl _⟩, hE, ?_⟩ s.heap [] la hR va_S.rf hL
  intro v w' H locs pc ls' ins hQ hret hdg hR' hS'
  have hfin : ∀ t : State, t.heap = H → s.WarmedH t.vm → zQc g Q (as.map (zv g)).toArray s (.returned (v.map (zv g))) t := fun t ht _ => ⟨v, w', rfl, hQ, by rw [ht]; exact hR', hS'.F ht⟩
  rcases hret with ⟨rfl, x, ty, rfl, hrt, hn⟩ | ⟨rfl, x, rfl, hrt⟩ | ⟨rfl, a, nm, rfl, hrt⟩ | ⟨rfl, rfl, hrt⟩
  · exact W.zret (ty := ty) B.exec B.bytes (hr.trans hrt) hn hfin hS'.2.2 hdg hlocks
  · exact W.lret B.exec B.bytes (hr.trans hrt) hfin hS'.2.2 hdg hlocks
  · exact W.aret B.exec B.bytes (hr.trans hrt) (Or.inl ⟨nm, rfl⟩) (Or.inr ⟨_, rfl⟩) hfin hS'.2.2 hdg hlocks
  · exact W.vret B.exec B.bytes (hr.trans hrt) hfin hS'.2.2 hdg hlocks
end ZCALL
