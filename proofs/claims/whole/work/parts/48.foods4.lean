/-! ===== Foods: lookAt ===== -/
def hintAll (f4 : Nat → Int32) (i k : Nat) (m : HMs) : HMs := match k with
  | 0 => m
  | k + 1 => hintAll f4 (i + 1) k (heedM (f4 (i * 3)).toNatClampNeg (f4 (i * 3 + 1)).toNatClampNeg (f4 (i * 3 + 2)).toNatClampNeg m)
/-- the hints are as told -/
def okH (C : Nat → Nat × (Nat → Int32)) : Prop := ∀ u, u < (C 4).1 → ∃ s f b, s < 4 ∧ f < (C 0).1 ∧ b < (C 0).1 ∧ (C 4).2 (u * 3) = nI s ∧ (C 4).2 (u * 3 + 1) = nI f ∧ (C 4).2 (u * 3 + 2) = nI b
theorem zm_d {a b mc ms : Nat} {mt : ZM} {as : List Value} {w : ZW} {Q : Option Value → ZW → Prop} (e : a = b) (h : Zm a mt mc ms as w Q) : Zm b mt mc ms as w Q := e ▸ h
section ZFOODS4
variable {d n p : Nat} {w : ZW} {sz pl wy : Nat → Int32} {al le sm gr : Nat → Nat} {ways : Int32} {C : Nat → Nat × (Nat → Int32)} {Q : Option Value → ZW → Prop}
theorem fd_look1 {w0 : ZW} (hc : isC w0 p C) (hp : p + 13 ≤ 65) (hn : n = (C 0).1) (hK : ∀ w sz al le sm gr o2, isFd w n sz al le sm gr pl wy ways → zOff 65 73 w0 w → (∀ i, i < n → sz i = (C 0).2 (i * 5 + 1) ∧ al i = 127 ∧ le i = 0 ∧ sm i = 0 ∧ gr i = 0) → Zw (d + 20) mX2_lookAt z0 76 [some (.ref 65), some (.ref p), o2, none] [] w Q) : ∀ (k i : Nat) (w : ZW) (sz : Nat → Int32) (al le sm gr : Nat → Nat), i + k = n → isFd w n sz al le sm gr pl wy ways → zOff 65 73 w0 w → (∀ j, j < i → sz j = (C 0).2 (j * 5 + 1) ∧ al j = 127 ∧ le j = 0 ∧ sm j = 0 ∧ gr j = 0) → Zw (d + 20) mX2_lookAt z0 18 [some (.ref 65), some (.ref p), some (.int (nI i)), none] [] w Q := by
  intro k
  induction k with
  | zero =>
    intro i w sz al le sm gr hi h ho hz
    have h7 := h.2.2.2.2.2.2.2.2.1
    refine zw_iload_n dX2_lookAt_18 rfl ?_
    refine zw_aload_n dX2_lookAt_19 rfl ?_
    refine zw_get dX2_lookAt_20 fX2_51 h.1 rfl ?_
    refine zw_icmp_ge 76 dX2_lookAt_23 (by decide) (fun _ => ?_) (fun hz => absurd (nI_le (by omega) (by omega)) hz)
    exact hK w sz al le sm gr _ h ho (fun j hj => hz j (by omega))
  | succ k ih =>
    intro i w sz al le sm gr hi h ho hz
    have h7 := h.2.2.2.2.2.2.2.2.1
    have hm := h.2.2.2.2.2.2.2.2.2
    have hcw := hc.off ho (by omega)
    have hin : vp_in (nI i) 7 := vp_in_nI (by omega) (by decide)
    obtain ⟨q0, q1, q2, q3, q4, q5, q6, q7, q8, q9⟩ := h
    refine zw_iload_n dX2_lookAt_18 rfl ?_
    refine zw_aload_n dX2_lookAt_19 rfl ?_
    refine zw_get dX2_lookAt_20 fX2_51 q0 rfl ?_
    refine zw_icmp_ge 76 dX2_lookAt_23 (by decide) (fun hz => absurd hz (nI_ge (by omega) (by omega))) (fun _ => ?_)
    refine zw_aload_n dX2_lookAt_26 rfl ?_
    refine zw_get dX2_lookAt_27 fX2_9 q0 rfl ?_
    refine zw_iload_n dX2_lookAt_30 rfl ?_
    refine zw_aload_n dX2_lookAt_31 rfl ?_
    refine zw_get dX2_lookAt_32 fX2_33 hcw.1 rfl ?_
    refine zw_iload_n dX2_lookAt_35 rfl ?_
    refine zw_iconst dX2_lookAt_36 1 (by decide) ?_
    refine zw_cV2 dX2_lookAt_37 oX6_at kX6_at lX2_54 hcw.2.1.1 rfl (Nat.le_of_ble_eq_true rfl) rfl (t_at (c := 1) hcw.2.1 (by omega) (by decide) ?_)
    show Zw _ _ _ 40 [_, _, _, _] [_, _, _] _ _
    refine zw_iast dX2_lookAt_40 q1 hin ?_
    rw [nI_clamp (by omega)]
    obtain ⟨v1, hv1⟩ : ∃ v1, v1 = (Sum.inl (0, 7, upd sz i ((C 0).2 (i * 5 + 1))) : ZE) := ⟨_, rfl⟩
    rw [← hv1]
    have a0 := q0.put (i := 66) (e' := v1) (by decide)
    have a2 := q2.put (i := 66) (e' := v1) (by decide)
    have a3 := q3.put (i := 66) (e' := v1) (by decide)
    have a4 := q4.put (i := 66) (e' := v1) (by decide)
    have a5 := q5.put (i := 66) (e' := v1) (by decide)
    have a6 := q6.put (i := 66) (e' := v1) (by decide)
    have a7 := q7.put (i := 66) (e' := v1) (by decide)
    have a1 := q1.self (e' := v1)
    generalize hw1 : zput w 66 v1 = w1 at a0 a1 a2 a3 a4 a5 a6 a7 ⊢
    have o1 : zOff 65 73 w0 w1 := by rw [← hw1]; exact ho.tr (zOff.pt (by decide) (by decide))
    refine zw_aload_n dX2_lookAt_41 rfl ?_
    refine zw_get dX2_lookAt_42 fX2_15 a0 rfl ?_
    refine zw_iload_n dX2_lookAt_45 rfl ?_
    refine zw_bipush dX2_lookAt_46 127 (by decide) ?_
    refine zw_iast dX2_lookAt_48 a2 hin ?_
    rw [nI_clamp (by omega), show (127 : Int32) = nI 127 from rfl, up_I]
    obtain ⟨v2, hv2⟩ : ∃ v2, v2 = (Sum.inl (0, 7, fun j => nI (va_up al i 127 j)) : ZE) := ⟨_, rfl⟩
    rw [← hv2]
    have b0 := a0.put (i := 67) (e' := v2) (by decide)
    have b1 := a1.put (i := 67) (e' := v2) (by decide)
    have b2 := a2.self (e' := v2)
    have b3 := a3.put (i := 67) (e' := v2) (by decide)
    have b4 := a4.put (i := 67) (e' := v2) (by decide)
    have b5 := a5.put (i := 67) (e' := v2) (by decide)
    have b6 := a6.put (i := 67) (e' := v2) (by decide)
    have b7 := a7.put (i := 67) (e' := v2) (by decide)
    generalize hw2 : zput w1 67 v2 = w2 at b0 b1 b2 b3 b4 b5 b6 b7 ⊢
    have o2 : zOff 65 73 w0 w2 := by rw [← hw2]; exact o1.tr (zOff.pt (by decide) (by decide))
    refine zw_aload_n dX2_lookAt_49 rfl ?_
    refine zw_get dX2_lookAt_50 fX2_18 b0 rfl ?_
    refine zw_iload_n dX2_lookAt_53 rfl ?_
    refine zw_iconst dX2_lookAt_54 0 (by decide) ?_
    refine zw_iast dX2_lookAt_55 b3 hin ?_
    rw [nI_clamp (by omega), show (0 : Int32) = nI 0 from rfl, up_I]
    obtain ⟨v3, hv3⟩ : ∃ v3, v3 = (Sum.inl (0, 7, fun j => nI (va_up le i 0 j)) : ZE) := ⟨_, rfl⟩
    rw [← hv3]
    have c0 := b0.put (i := 68) (e' := v3) (by decide)
    have c1 := b1.put (i := 68) (e' := v3) (by decide)
    have c2 := b2.put (i := 68) (e' := v3) (by decide)
    have c3 := b3.self (e' := v3)
    have c4 := b4.put (i := 68) (e' := v3) (by decide)
    have c5 := b5.put (i := 68) (e' := v3) (by decide)
    have c6 := b6.put (i := 68) (e' := v3) (by decide)
    have c7 := b7.put (i := 68) (e' := v3) (by decide)
    generalize hw3 : zput w2 68 v3 = w3 at c0 c1 c2 c3 c4 c5 c6 c7 ⊢
    have o3 : zOff 65 73 w0 w3 := by rw [← hw3]; exact o2.tr (zOff.pt (by decide) (by decide))
    refine zw_aload_n dX2_lookAt_56 rfl ?_
    refine zw_get dX2_lookAt_57 fX2_21 c0 rfl ?_
    refine zw_iload_n dX2_lookAt_60 rfl ?_
    refine zw_iconst dX2_lookAt_61 0 (by decide) ?_
    refine zw_iast dX2_lookAt_62 c4 hin ?_
    rw [nI_clamp (by omega), show (0 : Int32) = nI 0 from rfl, up_I]
    obtain ⟨v4, hv4⟩ : ∃ v4, v4 = (Sum.inl (0, 7, fun j => nI (va_up sm i 0 j)) : ZE) := ⟨_, rfl⟩
    rw [← hv4]
    have d0 := c0.put (i := 69) (e' := v4) (by decide)
    have d1 := c1.put (i := 69) (e' := v4) (by decide)
    have d2 := c2.put (i := 69) (e' := v4) (by decide)
    have d3 := c3.put (i := 69) (e' := v4) (by decide)
    have d4 := c4.self (e' := v4)
    have d5 := c5.put (i := 69) (e' := v4) (by decide)
    have d6 := c6.put (i := 69) (e' := v4) (by decide)
    have d7 := c7.put (i := 69) (e' := v4) (by decide)
    generalize hw4 : zput w3 69 v4 = w4 at d0 d1 d2 d3 d4 d5 d6 d7 ⊢
    have o4 : zOff 65 73 w0 w4 := by rw [← hw4]; exact o3.tr (zOff.pt (by decide) (by decide))
    refine zw_aload_n dX2_lookAt_63 rfl ?_
    refine zw_get dX2_lookAt_64 fX2_24 d0 rfl ?_
    refine zw_iload_n dX2_lookAt_67 rfl ?_
    refine zw_iconst dX2_lookAt_68 0 (by decide) ?_
    refine zw_iast dX2_lookAt_69 d5 hin ?_
    rw [nI_clamp (by omega), show (0 : Int32) = nI 0 from rfl, up_I]
    obtain ⟨v5, hv5⟩ : ∃ v5, v5 = (Sum.inl (0, 7, fun j => nI (va_up gr i 0 j)) : ZE) := ⟨_, rfl⟩
    rw [← hv5]
    have e0 := d0.put (i := 70) (e' := v5) (by decide)
    have e1 := d1.put (i := 70) (e' := v5) (by decide)
    have e2 := d2.put (i := 70) (e' := v5) (by decide)
    have e3 := d3.put (i := 70) (e' := v5) (by decide)
    have e4 := d4.put (i := 70) (e' := v5) (by decide)
    have e5 := d5.self (e' := v5)
    have e6 := d6.put (i := 70) (e' := v5) (by decide)
    have e7 := d7.put (i := 70) (e' := v5) (by decide)
    generalize hw5 : zput w4 70 v5 = w5 at e0 e1 e2 e3 e4 e5 e6 e7 ⊢
    have o5 : zOff 65 73 w0 w5 := by rw [← hw5]; exact o4.tr (zOff.pt (by decide) (by decide))
    refine zw_iinc (nI (i + 1)) [_, _, _, _] dX2_lookAt_70 rfl (nI_1 i) rfl ?_
    refine zw_goto 18 dX2_lookAt_73 (by decide) ?_
    subst hv1 hv2 hv3 hv4 hv5
    refine ih (i + 1) w5 (upd sz i ((C 0).2 (i * 5 + 1))) (va_up al i 127) (va_up le i 0) (va_up sm i 0) (va_up gr i 0) (by omega) ⟨e0, e1, e2, e3, e4, e5, e6, e7, q8, fun j => ⟨up_lt (fun j => (hm j).1) (by decide) j, up_lt (fun j => (hm j).2.1) (by decide) j, up_lt (fun j => (hm j).2.2.1) (by decide) j, up_lt (fun j => (hm j).2.2.2) (by decide) j⟩⟩ o5 (fun j hj => ?_)
    by_cases e : j = i
    · subst e
      simp [upd, va_up]
    · simp only [upd, va_up, if_neg e]
      exact hz j (by omega)
theorem fd_look2 {w0 : ZW} (hc : isC w0 p C) (hp : p + 13 ≤ 65) (hn : n = (C 0).1) (hh : okH C) (hK : ∀ w m o3, isFd w n sz m.1 m.2.1 m.2.2.1 m.2.2.2 pl wy ways → zOff 65 73 w0 w → m = hintAll (C 4).2 0 (C 4).1 (al, le, sm, gr) → Zw (d + 20) mX2_lookAt z0 119 [some (.ref 65), some (.ref p), some (.ref (p + 9)), o3] [] w Q) : ∀ (k i : Nat) (w : ZW) (m : HMs), i + k = (C 4).1 → isFd w n sz m.1 m.2.1 m.2.2.1 m.2.2.2 pl wy ways → zOff 65 73 w0 w → hintAll (C 4).2 i k m = hintAll (C 4).2 0 (C 4).1 (al, le, sm, gr) → Zw (d + 20) mX2_lookAt z0 83 [some (.ref 65), some (.ref p), some (.ref (p + 9)), some (.int (nI i))] [] w Q := by
  have hb8 := hc.2.2.2.2.2.1.2.2.1
  have hn7 := hc.2.1.2.2.1
  intro k
  induction k with
  | zero =>
    intro i w m hi h ho hz
    have hcw := hc.off ho (by omega)
    refine zw_iload_n dX2_lookAt_83 rfl ?_
    refine zw_aload_n dX2_lookAt_84 rfl ?_
    refine zw_cV0 dX2_lookAt_85 oX6_size kX6_size lX2_39 hcw.2.2.2.2.2.1.1 rfl (Nat.le_of_ble_eq_true rfl) rfl (t_size hcw.2.2.2.2.2.1 ?_)
    show Zw _ _ _ 88 [_, _, _, _] [_, _] _ _
    refine zw_icmp_ge 119 dX2_lookAt_88 (by decide) (fun _ => ?_) (fun hz => absurd (nI_le (by omega) (by omega)) hz)
    exact hK w m _ h ho hz
  | succ k ih =>
    intro i w m hi h ho hz
    have hcw := hc.off ho (by omega)
    obtain ⟨s, f, b, hs, hf, hb, e1, e2, e3⟩ := hh i (by omega)
    have hz : hintAll (C 4).2 (i + 1) k (heedM ((C 4).2 (i * 3)).toNatClampNeg ((C 4).2 (i * 3 + 1)).toNatClampNeg ((C 4).2 (i * 3 + 2)).toNatClampNeg m) = hintAll (C 4).2 0 (C 4).1 (al, le, sm, gr) := hz
    rw [e1, e2, e3, nI_clamp (by omega), nI_clamp (by omega), nI_clamp (by omega)] at hz
    refine zw_iload_n dX2_lookAt_83 rfl ?_
    refine zw_aload_n dX2_lookAt_84 rfl ?_
    refine zw_cV0 dX2_lookAt_85 oX6_size kX6_size lX2_39 hcw.2.2.2.2.2.1.1 rfl (Nat.le_of_ble_eq_true rfl) rfl (t_size hcw.2.2.2.2.2.1 ?_)
    show Zw _ _ _ 88 [_, _, _, _] [_, _] _ _
    refine zw_icmp_ge 119 dX2_lookAt_88 (by decide) (fun hz => absurd hz (nI_ge (by omega) (by omega))) (fun _ => ?_)
    refine zw_aload_n dX2_lookAt_91 rfl ?_
    refine zw_aload_n dX2_lookAt_92 rfl ?_
    refine zw_iload_n dX2_lookAt_93 rfl ?_
    refine zw_iconst dX2_lookAt_94 0 (by decide) ?_
    refine zw_cV2 dX2_lookAt_95 oX6_at kX6_at lX2_54 hcw.2.2.2.2.2.1.1 rfl (Nat.le_of_ble_eq_true rfl) rfl (t_at0 hcw.2.2.2.2.2.1 (by omega) ?_)
    show Zw _ _ _ 98 [_, _, _, _] [_, _] _ _
    refine zw_aload_n dX2_lookAt_98 rfl ?_
    refine zw_iload_n dX2_lookAt_99 rfl ?_
    refine zw_iconst dX2_lookAt_100 1 (by decide) ?_
    refine zw_cV2 dX2_lookAt_101 oX6_at kX6_at lX2_54 hcw.2.2.2.2.2.1.1 rfl (Nat.le_of_ble_eq_true rfl) rfl (t_at (c := 1) hcw.2.2.2.2.2.1 (by omega) (by decide) ?_)
    show Zw _ _ _ 104 [_, _, _, _] [_, _, _] _ _
    refine zw_aload_n dX2_lookAt_104 rfl ?_
    refine zw_iload_n dX2_lookAt_105 rfl ?_
    refine zw_iconst dX2_lookAt_106 2 (by decide) ?_
    refine zw_cV2 dX2_lookAt_107 oX6_at kX6_at lX2_54 hcw.2.2.2.2.2.1.1 rfl (Nat.le_of_ble_eq_true rfl) rfl (t_at (c := 2) hcw.2.2.2.2.2.1 (by omega) (by decide) ?_)
    show Zw _ _ _ 110 [_, _, _, _] [_, _, _, _] _ _
    rw [e1, e2, e3]
    refine zw_cV3 dX2_lookAt_110 oX2_heed kX2_heed lX2_60 h.1 rfl (Nat.le_of_ble_eq_true rfl) rfl (fd_heed h hs (by omega) (by omega) (fun w2 h2 o2 => ?_))
    show Zw _ _ _ 113 [_, _, _, _] [] _ _
    refine zw_iinc (nI (i + 1)) [_, _, _, _] dX2_lookAt_113 rfl (nI_1 i) rfl ?_
    refine zw_goto 83 dX2_lookAt_116 (by decide) ?_
    exact ih (i + 1) w2 (heedM s f b m) (by omega) h2 (ho.tr o2) hz
theorem fd_lookAt {n0 : Nat} (h : isFd w n0 sz al le sm gr pl wy ways) (hc : isC w p C) (hp : p + 13 ≤ 65) (hh : okH C) (k : ∀ w' sz' pl' wy' m0 m, (∀ i, i < (C 0).1 → sz' i = (C 0).2 (i * 5 + 1) ∧ m0.1 i = 127 ∧ m0.2.1 i = 0 ∧ m0.2.2.1 i = 0 ∧ m0.2.2.2 i = 0) → (∀ j, j < 49 → wy' j = 0) → m = hintAll (C 4).2 0 (C 4).1 m0 → isFd w' (C 0).1 sz' m.1 m.2.1 m.2.2.1 m.2.2.2 (wF sz' m.1 m.2.1 m.2.2.1 m.2.2.2 (C 0).1 (C 0).1 0 0 pl' wy').2.1 (wF sz' m.1 m.2.1 m.2.2.1 m.2.2.2 (C 0).1 (C 0).1 0 0 pl' wy').2.2 (wF sz' m.1 m.2.1 m.2.2.1 m.2.2.2 (C 0).1 (C 0).1 0 0 pl' wy').1 → zOff 65 73 w w' → Q none w') : Zm (d + 20) mX2_lookAt 0 0 [.ref 65, .ref p] w Q := by
  have hn7 : (C 0).1 ≤ 7 := hc.2.1.2.2.1
  have hm := h.2.2.2.2.2.2.2.2.2
  obtain ⟨q0, q1, q2, q3, q4, q5, q6, q7, q8, q9⟩ := h
  refine zm_intro [_, _, _, _] oX2_lookAt (Nat.le_of_ble_eq_true rfl) rfl ?_
  refine zw_aload_n dX2_lookAt_0 rfl ?_
  refine zw_aload_n dX2_lookAt_1 rfl ?_
  refine zw_get dX2_lookAt_2 fX2_33 hc.1 rfl ?_
  refine zw_cV0 dX2_lookAt_5 oX6_size kX6_size lX2_39 hc.2.1.1 rfl (Nat.le_of_ble_eq_true rfl) rfl (t_size hc.2.1 ?_)
  show Zw _ _ _ 8 [_, _, _, _] [_, _] _ _
  refine zw_bipush dX2_lookAt_8 7 (by decide) ?_
  refine zw_min dX2_lookAt_10 lX2_45 w_stat_min iniJ9 w_code_min rfl (Nat.le_of_ble_eq_true rfl) (by decide) (by decide) ?_
  have e : ∀ n, n < 8 → (if (7 : Int32) < nI n then 7 else nI n) = nI n := by decide +kernel
  refine zw_top (e (C 0).1 (by omega)) ?_
  refine zw_put dX2_lookAt_13 pX2_51 q0 (fun _ => rfl) (fun _ => rfl) (Nat.le_of_ble_eq_true rfl) ?_
  have h1 : isFd (zput w 65 (.inr (2, [.ref 66, .ref 67, .ref 68, .ref 69, .ref 70, .ref 71, .ref 72, .int (nI (C 0).1), .int ways]))) (C 0).1 sz al le sm gr pl wy ways := ⟨q0.self, q1.put (by decide), q2.put (by decide), q3.put (by decide), q4.put (by decide), q5.put (by decide), q6.put (by decide), q7.put (by decide), hn7, hm⟩
  refine zw_iconst dX2_lookAt_16 0 (by decide) ?_
  refine zw_istore_n [_, _, _, _] dX2_lookAt_17 (Nat.le_of_ble_eq_true rfl) rfl ?_
  refine fd_look1 (w0 := w) (n := (C 0).1) (pl := pl) (wy := wy) (ways := ways) hc hp rfl (fun w sz al le sm gr o2 h ho hz => ?_) (C 0).1 0 _ sz al le sm gr (by omega) h1 (zOff.pt (by decide) (by decide)) (fun j hj => absurd hj (Nat.not_lt_zero _))
  have hcw := hc.off ho (by omega)
  refine zw_aload_n dX2_lookAt_76 rfl ?_
  refine zw_get dX2_lookAt_77 fX2_57 hcw.1 rfl ?_
  refine zw_astore_n [_, _, _, _] dX2_lookAt_80 (Nat.le_of_ble_eq_true rfl) rfl ?_
  refine zw_iconst dX2_lookAt_81 0 (by decide) ?_
  refine zw_istore_n [_, _, _, _] dX2_lookAt_82 (Nat.le_of_ble_eq_true rfl) rfl ?_
  refine fd_look2 (w0 := _) (n := (C 0).1) (al := al) (le := le) (sm := sm) (gr := gr) hc hp rfl hh (fun w m o3 h ho hm => ?_) (C 4).1 0 w (al, le, sm, gr) (by omega) h ho rfl
  refine zw_aload_n dX2_lookAt_119 rfl ?_
  refine zw_get dX2_lookAt_120 fX2_30 h.1 rfl ?_
  refine zw_iconst dX2_lookAt_123 0 (by decide) ?_
  refine zw_cS2 dX2_lookAt_124 oJ7_fill_53178 kJ7_fill_53178 lX2_64 (Nat.le_of_ble_eq_true rfl) rfl (j_fill (by decide) h.2.2.2.2.2.2.2.1 (fun w2 f2 g2 o2 hz2 => ?_))
  show Zw _ _ _ 127 [_, _, _, _] [] _ _
  have h2 : isFd w2 (C 0).1 sz m.1 m.2.1 m.2.2.1 m.2.2.2 pl f2 ways := by
    obtain ⟨p0, p1, p2, p3, p4, p5, p6, p7, p8⟩ := h
    exact ⟨p0.off o2 (by decide), p1.off o2 (by decide), p2.off o2 (by decide), p3.off o2 (by decide), p4.off o2 (by decide), p5.off o2 (by decide), p6.off o2 (by decide), g2, p8⟩
  refine zw_aload_n dX2_lookAt_127 rfl ?_
  refine zw_aload_n dX2_lookAt_128 rfl ?_
  refine zw_iconst dX2_lookAt_129 0 (by decide) ?_
  refine zw_iconst dX2_lookAt_130 0 (by decide) ?_
  refine zw_cS3 dX2_lookAt_131 oX2_waysFrom kX2_waysFrom lX2_70 (Nat.le_of_ble_eq_true rfl) rfl (zm_d (show d + 15 - (C 0).1 + (C 0).1 + 4 = d + 19 by omega) (fd_waysFrom (d := d + 15 - (C 0).1) (C 0).1 0 0 _ _ _ _ (by omega) (by decide) h2 (fun w3 h3 o3 => ?_)))
  show Zw _ _ _ 134 [_, _, _, _] [_, _] _ _
  refine zw_put dX2_lookAt_134 pX2_74 h3.1 (fun _ => rfl) (fun _ => rfl) (Nat.le_of_ble_eq_true rfl) ?_
  refine zw_return dX2_lookAt_137 rfl (Nat.le_refl _) (Nat.le_refl _) ?_
  refine k _ sz pl f2 (al, le, sm, gr) m hz hz2 hm ?_ ((ho.tr (o2.wd (by decide) (by decide))).tr (o3.tr (zOff.pt (by decide) (by decide))))
  obtain ⟨p0, p1, p2, p3, p4, p5, p6, p7, p8⟩ := h3
  exact ⟨p0.self, p1.put (by decide), p2.put (by decide), p3.put (by decide), p4.put (by decide), p5.put (by decide), p6.put (by decide), p7.put (by decide), p8⟩
end ZFOODS4
