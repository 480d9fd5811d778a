/-! ===== the law's own frame: the judgement Zs, and its rules (by mklaw.py) ===== -/
/-- as Zw, where the script of L ints xs is the constant 1000200 -/
def Zs (L : Nat) (xs : Nat → Int32) (d : Nat) (mt : ZM) (cn : ZN) (pc : Nat) (ls : List (Option Value)) (st : List Value) (w : ZW) (Q : Option Value → ZW → Prop) : Prop :=
  ∀ (g : ZG) (p : Program) (l : Launch) (e : Env) (R : Room) (s : State) (m : MethodId) (args : Array Value) (below : List Frame) (meth : Method) (c : Code) (Qm : State → Prop), zCx d mt cn.2.2.1 cn.2.2.2 Q g p l e R s m args below meth c Qm → (va_X (g.2.1 200) L xs s s.heap ∧ g.2.1 200 < s.heap.size ∧ ¬ g.1 ≤ g.2.1 200) →
  ∀ (H : Heap) (locs : List Loc) (la : Array Slot), zR g w H → va_S (zA g) s.heap H locs → zL g ls la → W p l e R s m args below meth c H locs cn.1 cn.2.1 Qm (F0 m pc la (st.map (zv g)))
section ZLAW
variable {L : Nat} {xs : Nat → Int32} {d : Nat} {mt : ZM} {cn : ZN} {pc k0 n0 mc ms : Nat} {ls : List (Option Value)} {st : List Value} {w : ZW} {Q : Option Value → ZW → Prop}
theorem zs_iadd {x y : Int32} (hd : decode mt.2.1 pc = .ok (.iadd, 1)) (k : Zs L xs d mt cn (pc + 1) ls (.int (x + y) :: st) w Q) : Zs L xs d mt cn pc ls (.int y :: .int x :: st) w Q := by
  intro g p l e R s m args below meth c Qm C X H locs la hR hS hL
  exact lv_iadd C.1 C.2.1 hd (k g p l e R s m args below meth c Qm C X H locs la hR hS hL)
theorem zs_isub {x y : Int32} (hd : decode mt.2.1 pc = .ok (.isub, 1)) (k : Zs L xs d mt cn (pc + 1) ls (.int (x - y) :: st) w Q) : Zs L xs d mt cn pc ls (.int y :: .int x :: st) w Q := by
  intro g p l e R s m args below meth c Qm C X H locs la hR hS hL
  exact lv_isub C.1 C.2.1 hd (k g p l e R s m args below meth c Qm C X H locs la hR hS hL)
theorem zs_iand {x y : Int32} (hd : decode mt.2.1 pc = .ok (.iand, 1)) (k : Zs L xs d mt cn (pc + 1) ls (.int (x &&& y) :: st) w Q) : Zs L xs d mt cn pc ls (.int y :: .int x :: st) w Q := by
  intro g p l e R s m args below meth c Qm C X H locs la hR hS hL
  exact lv_iand C.1 C.2.1 hd (k g p l e R s m args below meth c Qm C X H locs la hR hS hL)
theorem zs_lcmp {x y : Int64} (hd : decode mt.2.1 pc = .ok (.lcmp, 1)) (k : Zs L xs d mt cn (pc + 1) ls (.int (lg_cmp x y) :: st) w Q) : Zs L xs d mt cn pc ls (.long y :: .long x :: st) w Q := by
  intro g p l e R s m args below meth c Qm C X H locs la hR hS hL
  exact W.lcmp C.1 C.2.1 hd (k g p l e R s m args below meth c Qm C X H locs la hR hS hL)
theorem zs_iconst {n : Int} (hd : decode mt.2.1 pc = .ok (.iconst n, 1)) (v : Int32) (hv : Int32.ofInt n = v) (k : Zs L xs d mt cn (pc + 1) ls (.int v :: st) w Q) : Zs L xs d mt cn pc ls (st) w Q := by
  intro g p l e R s m args below meth c Qm C X H locs la hR hS hL
  exact lv_iconst C.1 C.2.1 hd hv (k g p l e R s m args below meth c Qm C X H locs la hR hS hL)
theorem zs_bipush {n : Int} (hd : decode mt.2.1 pc = .ok (.bipush n, 2)) (v : Int32) (hv : (Int8.ofInt n).toInt32 = v) (k : Zs L xs d mt cn (pc + 2) ls (.int v :: st) w Q) : Zs L xs d mt cn pc ls (st) w Q := by
  intro g p l e R s m args below meth c Qm C X H locs la hR hS hL
  exact lv_bipush C.1 C.2.1 hd hv (k g p l e R s m args below meth c Qm C X H locs la hR hS hL)
theorem zs_dup {v : Value} (hd : decode mt.2.1 pc = .ok (.dup, 1)) (hc : v.category = 1) (k : Zs L xs d mt cn (pc + 1) ls (v :: v :: st) w Q) : Zs L xs d mt cn pc ls (v :: st) w Q := by
  intro g p l e R s m args below meth c Qm C X H locs la hR hS hL
  exact lv_dup C.1 C.2.1 hd (by rw [zv_cat]; exact hc) (k g p l e R s m args below meth c Qm C X H locs la hR hS hL)
theorem zs_goto {off : Int} (tgt : Nat) (hd : decode mt.2.1 pc = .ok (.goto off, 3)) (ht : (pc : Int) + off = (tgt : Int)) (k : Zs L xs d mt cn tgt ls st w Q) : Zs L xs d mt cn pc ls st w Q := by
  intro g p l e R s m args below meth c Qm C X H locs la hR hS hL
  exact lv_goto C.1 C.2.1 hd ht (k g p l e R s m args below meth c Qm C X H locs la hR hS hL)
theorem zs_iload_n {n : Fin 4} {x : Int32} (hd : decode mt.2.1 pc = .ok (.iload_n n, 1)) (hl : ls[(n : Nat)]? = some (some (.int x))) (k : Zs L xs d mt cn (pc + 1) ls (.int x :: st) w Q) : Zs L xs d mt cn pc ls (st) w Q := by
  intro g p l e R s m args below meth c Qm C X H locs la hR hS hL
  exact lv_iload_n C.1 C.2.1 hd rfl (hL.2.2 _ _ hl) (k g p l e R s m args below meth c Qm C X H locs la hR hS hL)
theorem zs_aload_n {n : Fin 4} {x : Nat} (hd : decode mt.2.1 pc = .ok (.aload_n n, 1)) (hl : ls[(n : Nat)]? = some (some (.ref x))) (k : Zs L xs d mt cn (pc + 1) ls (.ref x :: st) w Q) : Zs L xs d mt cn pc ls (st) w Q := by
  intro g p l e R s m args below meth c Qm C X H locs la hR hS hL
  exact lv_aload_n C.1 C.2.1 hd rfl (hL.2.2 _ _ hl) (k g p l e R s m args below meth c Qm C X H locs la hR hS hL)
theorem zs_istore_n {n : Fin 4} {x : Int32} (ls' : List (Option Value)) (hd : decode mt.2.1 pc = .ok (.istore_n n, 1)) (hn : (n : Nat) < ls.length) (hl : zst1 ls (n : Nat) (.int x) = ls') (k : Zs L xs d mt cn (pc + 1) ls' st w Q) : Zs L xs d mt cn pc ls (.int x :: st) w Q := by
  subst hl
  intro g p l e R s m args below meth c Qm C X H locs la hR hS hL
  exact lv_istore_n C.1 C.2.1 hd rfl hL.has hn rfl (fun la hl => k g p l e R s m args below meth c Qm C X H locs la hR hS (zL_st1 rfl rfl hl))
theorem zs_astore_n {n : Fin 4} {x : Nat} (ls' : List (Option Value)) (hd : decode mt.2.1 pc = .ok (.astore_n n, 1)) (hn : (n : Nat) < ls.length) (hl : zst1 ls (n : Nat) (.ref x) = ls') (k : Zs L xs d mt cn (pc + 1) ls' st w Q) : Zs L xs d mt cn pc ls (.ref x :: st) w Q := by
  subst hl
  intro g p l e R s m args below meth c Qm C X H locs la hR hS hL
  exact lv_astore_n C.1 C.2.1 hd rfl hL.has hn rfl (fun la hl => k g p l e R s m args below meth c Qm C X H locs la hR hS (zL_st1 rfl rfl hl))
theorem zs_icmp_gt {x y : Int32} {off : Int} (tgt : Nat) (hd : decode mt.2.1 pc = .ok (.if_icmp .gt off, 3)) (ht : (pc : Int) + off = (tgt : Int)) (kt : y < x → Zs L xs d mt cn tgt ls st w Q) (kf : ¬ (y < x) → Zs L xs d mt cn (pc + 3) ls st w Q) : Zs L xs d mt cn pc ls (.int y :: .int x :: st) w Q := by
  intro g p l e R s m args below meth c Qm C X H locs la hR hS hL
  exact lv_icmp_gt C.1 C.2.1 hd ht (fun h => kt h g p l e R s m args below meth c Qm C X H locs la hR hS hL) (fun h => kf h g p l e R s m args below meth c Qm C X H locs la hR hS hL)
theorem zs_icmp_eq {x y : Int32} {off : Int} (tgt : Nat) (hd : decode mt.2.1 pc = .ok (.if_icmp .eq off, 3)) (ht : (pc : Int) + off = (tgt : Int)) (kt : x = y → Zs L xs d mt cn tgt ls st w Q) (kf : ¬ (x = y) → Zs L xs d mt cn (pc + 3) ls st w Q) : Zs L xs d mt cn pc ls (.int y :: .int x :: st) w Q := by
  intro g p l e R s m args below meth c Qm C X H locs la hR hS hL
  exact lv_icmp_eq C.1 C.2.1 hd ht (fun h => kt h g p l e R s m args below meth c Qm C X H locs la hR hS hL) (fun h => kf h g p l e R s m args below meth c Qm C X H locs la hR hS hL)
theorem zs_if_eq {x : Int32} {off : Int} (tgt : Nat) (hd : decode mt.2.1 pc = .ok (.ifCond .eq off, 3)) (ht : (pc : Int) + off = (tgt : Int)) (kt : x = 0 → Zs L xs d mt cn tgt ls st w Q) (kf : ¬ (x = 0) → Zs L xs d mt cn (pc + 3) ls st w Q) : Zs L xs d mt cn pc ls (.int x :: st) w Q := by
  intro g p l e R s m args below meth c Qm C X H locs la hR hS hL
  exact lv_if_eq C.1 C.2.1 hd ht (fun h => kt h g p l e R s m args below meth c Qm C X H locs la hR hS hL) (fun h => kf h g p l e R s m args below meth c Qm C X H locs la hR hS hL)
theorem zs_iinc {n : Nat} {i : Int} {x : Int32} (v : Int32) (ls' : List (Option Value)) (hd : decode mt.2.1 pc = .ok (.iinc n i, 3)) (hx : ls[n]? = some (some (.int x))) (hv : x + Int32.ofInt i = v) (hl : zst1 ls n (.int v) = ls') (k : Zs L xs d mt cn (pc + 3) ls' st w Q) : Zs L xs d mt cn pc ls st w Q := by
  subst hl
  intro g p l e R s m args below meth c Qm C X H locs la hR hS hL
  have hn : n < ls.length := (List.getElem?_eq_some_iff.mp hx).1
  have hh : lv_has la ls.length ((n, Value.int x) :: zlv g ls) := ⟨hL.has.1, hL.has.2.1, fun q hq => by
    rcases List.mem_cons.mp hq with rfl | hq
    · exact hL.2.2 _ _ hx
    · exact hL.has.2.2 q hq⟩
  refine lv_iinc C.1 C.2.1 hd hh (k := 0) rfl hv hn rfl (fun la hl => ?_)
  rw [List.filter_cons_of_neg (by simp)] at hl
  exact k g p l e R s m args below meth c Qm C X H locs la hR hS (zL_st1 rfl rfl hl)
theorem zs_tableIn {dflt lo hi : Int} {offs : Array Int} {len : Nat} {x : Int32} {off : Int} (tgt : Nat) (hd : decode mt.2.1 pc = .ok (.tableswitch dflt lo hi offs, len)) (h1 : ¬ x.toInt < lo) (h2 : ¬ hi < x.toInt) (ho : offs[(x.toInt - lo).toNat]? = some off) (ht : (pc : Int) + off = (tgt : Int)) (k : Zs L xs d mt cn tgt ls st w Q) : Zs L xs d mt cn pc ls (.int x :: st) w Q := by
  intro g p l e R s m args below meth c Qm C X H locs la hR hS hL
  exact lv_tableIn C.1 C.2.1 hd h1 h2 ho ht (k g p l e R s m args below meth c Qm C X H locs la hR hS hL)
theorem zs_tableOut {dflt lo hi : Int} {offs : Array Int} {len : Nat} {x : Int32} (tgt : Nat) (hd : decode mt.2.1 pc = .ok (.tableswitch dflt lo hi offs, len)) (h : x.toInt < lo ∨ hi < x.toInt) (ht : (pc : Int) + dflt = (tgt : Int)) (k : Zs L xs d mt cn tgt ls st w Q) : Zs L xs d mt cn pc ls (.int x :: st) w Q := by
  intro g p l e R s m args below meth c Qm C X H locs la hR hS hL
  exact lv_tableOut C.1 C.2.1 hd h ht (k g p l e R s m args below meth c Qm C X H locs la hR hS hL)
theorem zs_ret {v : Option Value} (ins : Instr) (hd : decode mt.2.1 pc = .ok (ins, 1)) (hr : zRet ins v mt.2.2.2) (h1 : cn.1 ≤ cn.2.2.1) (h2 : cn.2.1 ≤ cn.2.2.2) (hQ : Q v w) : Zs L xs d mt cn pc ls v.toList w Q := by
  intro g p l e R s m args below meth c Qm C X H locs la hR hS hL
  have e : v.toList.map (zv g) = (v.map (zv g)).toList := by cases v <;> rfl
  rw [e]
  exact W.widen h1 h2 (C.2.2.2.2.2.2.2.2 v w H locs pc la ins hQ hr hd hR hS)
theorem zs_ireturn {x : Int32} (ty : FieldType) (hd : decode mt.2.1 pc = .ok (.ireturn, 1)) (ht : mt.2.2.2 = some ty) (hn : narrow ty (.int x) = .int x) (h1 : cn.1 ≤ cn.2.2.1) (h2 : cn.2.1 ≤ cn.2.2.2) (hQ : Q (some (.int x)) w) : Zs L xs d mt cn pc ls [.int x] w Q := zs_ret (v := some (.int x)) .ireturn hd (Or.inl ⟨rfl, x, ty, rfl, ht, hn⟩) h1 h2 hQ
theorem zs_new {idx ci N : Nat} {fs : List Value} (hd : decode mt.2.1 pc = .ok (.new idx, 3)) (hN : zNew mt.1.cls idx ci N fs) (h1 : k0 + 1 ≤ mc) (h2 : n0 + N ≤ ms) (hw : w.1 < 1000000) (kk : Zs L xs d mt (k0 + 1, n0 + N, mc, ms) (pc + 3) ls (.ref w.1 :: st) (zadd w (.inr (ci, fs))) Q) : Zs L xs d mt (k0, n0, mc, ms) pc ls st w Q := by
  intro g p l e R s m args below meth c Qm C X H locs la hR hS hL
  obtain ⟨C0, T, ty, hc, hin, hty, hcl, hinst, hini, hfs, hzz⟩ := hN
  have hts := C.2.2.2.2.1
  have e0 := C.2.2.2.2.2.2.2.1
  have hK := e0.1.1
  have hP := hR.2.2
  have hD := zl_D g w
  have hKn := hK.1 ci _ hc
  have rm := C.2.2.2.2.2.2.1
  refine W.newcK C.1 C.2.1 C.2.2.2.1 (hts _ hcl) (hts _ hinst) (hts _ hini) rfl hd (Nat.le_trans h1 rm.2.2.1) (Nat.le_trans h2 rm.2.2.2) hKn.2.1 rfl fun H1 kC hkC e1 z1 o1 => ?_
  have hk : ∀ (k : Nat) (x : Nat × va_E), (zl g w)[k]? = some x → H1[x.1]? = H[x.1]? := fun k x hx => o1 x.1 ((hP k x hx).lt)
  have hP1 : va_P g.2.2.1 vwCl (zl g w ++ [(g.1 + w.1, ze g (.inr (ci, fs)))]) H1 := (hP.kept hk).app (fun k x hx => by
    have hz : k < 1 := (List.getElem?_eq_some_iff.mp hx).1
    rw [show k = 0 by omega] at hx
    cases hx
    rw [← hR.1]
    exact ⟨_, hc, (u_born ty hts hin hKn hkC e1 hty).to (fun j hj => by rw [hfs j hj]; show vp_V fs j = vp_V (fs.map (zv g)) j; rw [hzz g])⟩)
  rw [zl_push] at hP1
  have ea : za g w.1 = H.size := by rw [za_lt hw, hR.1]
  have hst : (Value.ref w.1 :: st).map (zv g) = .ref H.size :: st.map (zv g) := by
    show Value.ref (za g w.1) :: _ = _
    rw [ea]
  have K := kk g p l e R s m args below meth c Qm C X H1 locs la ⟨by rw [z1, hR.1]; rfl, hw, hP1⟩ ⟨Nat.le_trans hS.1 (by omega), fun x g1 g2 => (o1 x (Nat.lt_of_lt_of_le g1 hS.1)).trans (hS.2.1 x g1 g2), hS.2.2⟩ hL
  rw [hst] at K
  exact K
theorem zBehindS {g : ZG} {p : Program} {l : Launch} {e : Env} {R : Room} {s : State} {m : MethodId} {args : Array Value} {below : List Frame} {meth : Method} {c : Code} {Qm : State → Prop} {la : Array Slot} (k1 n1 : Nat) (C : zCx (d + 1) mt mc ms Q g p l e R s m args below meth c Qm) (X : va_X (g.2.1 200) L xs s s.heap ∧ g.2.1 200 < s.heap.size ∧ ¬ g.1 ≤ g.2.1 200) (hL : zL g ls la) (v : Option Value) (w' : ZW) (H1 : Heap) (locs1 : List Loc) (hz : Zs L xs (d + 1) mt (k1, n1, mc, ms) (pc + 3) ls (v.toList ++ st) w' Q) (hR1 : zR g w' H1) (hS1 : va_S (zA g) s.heap H1 locs1) : W p l e R s m args below meth c H1 locs1 k1 n1 Qm (F0 m (pc + 3) la ((v.map (zv g)).toList ++ st.map (zv g))) := by
  have K := hz g p l e R s m args below meth c Qm C X H1 locs1 la hR1 hS1 hL
  have es : (v.toList ++ st).map (zv g) = (v.map (zv g)).toList ++ st.map (zv g) := by cases v <;> rfl
  rw [es] at K
  exact K
theorem zs_callV {mt' : ZM} {idx n r ci mc' ms' : Nat} {as : List Value} {fs : List Value} (hd : decode mt.2.1 pc = .ok (.invokevirtual idx, 3)) (hok : zOk mt' n) (hv : zVirt mt') (hl : zLk mt.1.cls idx mt'.1) (hr : zat w r (.inr (ci, fs))) (hci : (vwCl[ci]?).map (fun q => q.1) = some mt'.1.cls) (hn : as.length = n) (hc : (st.map fun v => v.category).sum ≤ 8) (hll : ls.length = mt.2.2.1) (h1 : k0 + mc' ≤ mc) (h2 : n0 + ms' ≤ ms)
    (hM : Zm d mt' mc' ms' (.ref r :: as) w (fun v w' => Zs L xs (d + 1) mt (k0 + mc', n0 + ms', mc, ms) (pc + 3) ls (v.toList ++ st) w' Q)) : Zs L xs (d + 1) mt (k0, n0, mc, ms) pc ls (as.reverse ++ .ref r :: st) w Q := by
  intro g p l e R s m args below meth c Qm C X H locs la hR hS hL
  have hts := C.2.2.2.2.1
  have e0 := C.2.2.2.2.2.2.2.1
  have rm := C.2.2.2.2.2.2.1
  obtain ⟨o1, o2, o3, o4, o5⟩ := hok
  have hpre := zPre (as := .ref r :: as) e0 hR hS
  have hrecv : ∃ cell : Cell, H[za g r]? = some cell ∧ cell.vm.isStatics = false ∧ s.vm.findClass mt'.1.cls = some cell.cls := by
    cases hq : vwCl[ci]? with
    | none => rw [hq] at hci; cases hci
    | some q =>
      rw [hq] at hci
      rw [← Option.some.inj hci]
      exact va_recv e0.1.1 hR.2.2 hq (hR.cell hr)
  have hstk : (as.reverse ++ .ref r :: st).map (zv g) = (as.map (zv g)).reverse ++ .ref (za g r) :: st.map (zv g) := by simp [zv]
  rw [hstk]
  have hroom : (F0 m pc la ((as.map (zv g)).reverse ++ .ref (za g r) :: st.map (zv g))).monitorRoom = 0 := rfl
  have hsz : la.size = c.maxLocals := by rw [hL.1, hll, C.2.2.1]
  rcases hl with hl | ⟨host, hl⟩
  · exact zRun_go (va_runV (As := as.map (zv g)) (rest := st.map (zv g)) (nL := c.maxLocals) ⟨C.1, C.2.1, rfl, C.2.2.2.1, hts⟩ (hM l g) ⟨callB_of n hts (zT_good o1) rfl rfl rfl (hts _ o2) (hts _ hl) o5 (zroomOk o4 rm.1 rm.2.1), hts _ hv.1, hts _ hv.2⟩ ⟨hpre.1, hrecv, hpre.2⟩ rfl (by rw [List.length_map]; exact hn) hsz rfl (by rw [hroom, zcats]; omega) hd ⟨Nat.le_trans h1 rm.2.2.1, Nat.le_trans h2 rm.2.2.2⟩) hS (zBehindS (st := st) (k0 + mc') (n0 + ms') C X hL)
  · exact zRun_go (va_runVN (As := as.map (zv g)) (rest := st.map (zv g)) (nL := c.maxLocals) ⟨C.1, C.2.1, rfl, C.2.2.2.1, hts⟩ (hM l g) ⟨va_cnB n hts (zT_good o1) rfl rfl rfl (e0.1.2.2 _ hl) (hts _ o2) o5 (zroomOk o4 rm.1 rm.2.1), hts _ hv.1, hts _ hv.2⟩ ⟨hpre.1, hrecv, hpre.2⟩ rfl (by rw [List.length_map]; exact hn) hsz rfl (by rw [hroom, zcats]; omega) hd ⟨Nat.le_trans h1 rm.2.2.1, Nat.le_trans h2 rm.2.2.2⟩) hS (zBehindS (st := st) (k0 + mc') (n0 + ms') C X hL)
theorem zs_callI {mt' : ZM} {idx n r mc' ms' : Nat} {as : List Value} (hd : decode mt.2.1 pc = .ok (.invokespecial idx, 3)) (hok : zOk mt' n) (hv : zCtor mt') (hl : zLk mt.1.cls idx mt'.1) (hn : as.length = n) (hc : (st.map fun v => v.category).sum ≤ 8) (hll : ls.length = mt.2.2.1) (h1 : k0 + mc' ≤ mc) (h2 : n0 + ms' ≤ ms)
    (hM : Zm d mt' mc' ms' (.ref r :: as) w (fun v w' => Zs L xs (d + 1) mt (k0 + mc', n0 + ms', mc, ms) (pc + 3) ls (v.toList ++ st) w' Q)) : Zs L xs (d + 1) mt (k0, n0, mc, ms) pc ls (as.reverse ++ .ref r :: st) w Q := by
  intro g p l e R s m args below meth c Qm C X H locs la hR hS hL
  have hts := C.2.2.2.2.1
  have e0 := C.2.2.2.2.2.2.2.1
  have rm := C.2.2.2.2.2.2.1
  obtain ⟨y, bc, mL, rt⟩ := mt'
  obtain ⟨hy1, hv, hnone⟩ := hv
  cases hnone
  obtain ⟨o1, o2, o3, o4, o5⟩ := hok
  have hpre := zPre (as := .ref r :: as) e0 hR hS
  have hstk : (as.reverse ++ .ref r :: st).map (zv g) = (as.map (zv g)).reverse ++ .ref (za g r) :: st.map (zv g) := by simp [zv]
  rw [hstk]
  have hroom : (F0 m pc la ((as.map (zv g)).reverse ++ .ref (za g r) :: st.map (zv g))).monitorRoom = 0 := rfl
  have hsz : la.size = c.maxLocals := by rw [hL.1, hll, C.2.2.1]
  rcases hl with hl | ⟨host, hl⟩
  · exact zRun_go (va_runI (As := as.map (zv g)) (rest := st.map (zv g)) (nL := c.maxLocals) ⟨C.1, C.2.1, rfl, C.2.2.2.1, hts⟩ (hM l g) ⟨callB_of n hts (zT_good o1) rfl rfl rfl (hts _ o2) (hts _ hl) o5 (zroomOk o4 rm.1 rm.2.1), hy1, hts _ hv⟩ hpre rfl (by rw [List.length_map]; exact hn) hsz rfl (by rw [hroom, zcats]; omega) hd ⟨Nat.le_trans h1 rm.2.2.1, Nat.le_trans h2 rm.2.2.2⟩) hS (zBehindS (st := st) (k0 + mc') (n0 + ms') C X hL)
  · exact zRun_go (va_runIN (As := as.map (zv g)) (rest := st.map (zv g)) (nL := c.maxLocals) ⟨C.1, C.2.1, rfl, C.2.2.2.1, hts⟩ (hM l g) ⟨va_cnB n hts (zT_good o1) rfl rfl rfl (e0.1.2.2 _ hl) (hts _ o2) o5 (zroomOk o4 rm.1 rm.2.1), hy1, hts _ hv⟩ hpre rfl (by rw [List.length_map]; exact hn) hsz rfl (by rw [hroom, zcats]; omega) hd ⟨Nat.le_trans h1 rm.2.2.1, Nat.le_trans h2 rm.2.2.2⟩) hS (zBehindS (st := st) (k0 + mc') (n0 + ms') C X hL)
theorem zs_top {cn : ZN} {x y : Int32} (h : x = y) (k : Zs L xs d mt cn pc ls (.int y :: st) w Q) : Zs L xs d mt cn pc ls (.int x :: st) w Q := h ▸ k
theorem za_s (g : ZG) : za g 1000200 = g.2.1 200 := if_neg (by decide)
theorem zs_sld {i : Int32} (hd : decode mt.2.1 pc = .ok (.iaload, 1)) (hin : vp_in i L) (k : Zs L xs d mt cn (pc + 1) ls (.int (xs i.toNatClampNeg) :: st) w Q) : Zs L xs d mt cn pc ls (.int i :: .ref 1000200 :: st) w Q := by
  intro g p l e R s m args below meth c Qm C X H locs la hR hS hL
  show W p l e R s m args below meth c H locs cn.1 cn.2.1 Qm (F0 m pc la (.int i :: .ref (za g 1000200) :: st.map (zv g)))
  rw [za_s]
  exact va_sld C.1 C.2.1 X.1 X.2.1 X.2.2 hS hin hd (k g p l e R s m args below meth c Qm C X H locs la hR hS hL)
theorem zs_slen (hd : decode mt.2.1 pc = .ok (.arraylength, 1)) (k : Zs L xs d mt cn (pc + 1) ls (.int (nI L) :: st) w Q) : Zs L xs d mt cn pc ls (.ref 1000200 :: st) w Q := by
  intro g p l e R s m args below meth c Qm C X H locs la hR hS hL
  show W p l e R s m args below meth c H locs cn.1 cn.2.1 Qm (F0 m pc la (.ref (za g 1000200) :: st.map (zv g)))
  rw [za_s]
  exact va_slen C.1 C.2.1 X.1 X.2.1 X.2.2 hS hd (k g p l e R s m args below meth c Qm C X H locs la hR hS hL)
end ZLAW
