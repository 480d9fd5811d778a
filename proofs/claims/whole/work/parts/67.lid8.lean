/-! ===== LidForEach: tries, labels ===== -/
section ZL8
variable {d : Nat} {w : ZW} {C I0 I1 : Cup} {len : Nat} {bt : Nat → Int32} {fa fb : Int64} {ki bd no fu : Int32} {Q : Option Value → ZW → Prop}
theorem x_rankL {w0 : ZW} (h0 : isS w0 C I0 I1 len bt fa fb ki bd no fu) (hK : ∀ w ks, isRk w (C 1).1 ks → zOff 63 65 w0 w → (∀ j, j < (C 1).1 → ks j = tK C j) → Q none w) : ∀ (k i : Nat) (w : ZW) (ks : Nat → Int32) (o : Option Value), i + k = (C 1).1 → isRk w i ks → zOff 63 65 w0 w → (∀ j, j < i → ks j = tK C j) → Zw (d + 3) mX8_rankTries z0 17 [some (.ref 0), some (.int (fSure C)), some (.int (nI i)), o] [] w Q := by
  have hl7 : (C 1).1 ≤ 7 := h0.2.1.2.2.1.2.2.1
  intro k
  induction k with
  | zero =>
    intro i w ks o hi hr ho hz
    have h := h0.rk ho hr
    have e : i = (C 1).1 := by omega
    subst e
    refine zw_iload_n dX8_rankTries_17 rfl ?_
    refine zw_aload_n dX8_rankTries_18 rfl ?_
    refine zw_get dX8_rankTries_19 fX8_12 h.1 rfl ?_
    refine zw_get dX8_rankTries_22 fX8_178 h.2.1.1 rfl ?_
    refine zw_cV0 dX8_rankTries_25 oX6_size kX6_size lX8_181 h.2.1.2.2.1.1 rfl (Nat.le_of_ble_eq_true rfl) rfl (t_size h.2.1.2.2.1 ?_)
    show Zw _ _ _ 28 [_, _, _, _] [_, _] _ _
    refine zw_icmp_ge 76 dX8_rankTries_28 (by decide) (fun _ => ?_) (fun hz => absurd (nI_le (Nat.le_refl _) (by omega)) hz)
    refine zw_return dX8_rankTries_76 rfl (Nat.le_refl _) (Nat.le_refl _) ?_
    exact hK w ks hr ho hz
  | succ k ih =>
    intro i w ks o hi hr ho hz
    have h := h0.rk ho hr
    have fin : ∀ x o, x = tK C i → Zw (d + 3) mX8_rankTries z0 67 [some (.ref 0), some (.int (fSure C)), some (.int (nI i)), o] [.int x, .ref 63] w Q := by
      intro x o e
      subst e
      refine zw_cV1 dX8_rankTries_67 oX5_add kX5_add lX8_200 hr.1 rfl (Nat.le_of_ble_eq_true rfl) rfl (r_add hr (by omega) (fun w1 r1 o1 => ?_))
      show Zw _ _ _ 70 [_, _, _, _] [] _ _
      refine zw_iinc (nI (i + 1)) [_, _, _, _] dX8_rankTries_70 rfl (nI_1 i) rfl ?_
      refine zw_goto 17 dX8_rankTries_73 (by decide) ?_
      refine ih (i + 1) w1 _ _ (by omega) r1 (ho.tr o1) (fun j hj => ?_)
      unfold upd
      split
      · rename_i q; rw [q]
      · exact hz j (by omega)
    refine zw_iload_n dX8_rankTries_17 rfl ?_
    refine zw_aload_n dX8_rankTries_18 rfl ?_
    refine zw_get dX8_rankTries_19 fX8_12 h.1 rfl ?_
    refine zw_get dX8_rankTries_22 fX8_178 h.2.1.1 rfl ?_
    refine zw_cV0 dX8_rankTries_25 oX6_size kX6_size lX8_181 h.2.1.2.2.1.1 rfl (Nat.le_of_ble_eq_true rfl) rfl (t_size h.2.1.2.2.1 ?_)
    show Zw _ _ _ 28 [_, _, _, _] [_, _] _ _
    refine zw_icmp_ge 76 dX8_rankTries_28 (by decide) (fun hz => absurd hz (nI_ge (by omega) (by omega))) (fun _ => ?_)
    refine zw_aload_n dX8_rankTries_31 rfl ?_
    refine zw_get dX8_rankTries_32 fX8_12 h.1 rfl ?_
    refine zw_get dX8_rankTries_35 fX8_178 h.2.1.1 rfl ?_
    refine zw_iload_n dX8_rankTries_38 rfl ?_
    refine zw_iconst dX8_rankTries_39 3 (by decide) ?_
    refine zw_cV2 dX8_rankTries_40 oX6_at kX6_at lX8_99 h.2.1.2.2.1.1 rfl (Nat.le_of_ble_eq_true rfl) rfl (t_at (r := i) (c := 3) h.2.1.2.2.1 (by omega) (by decide) ?_)
    show Zw _ _ _ 43 [_, _, _, _] [_] _ _
    refine zw_istore_n [_, _, _, _] dX8_rankTries_43 (Nat.le_of_ble_eq_true rfl) rfl ?_
    refine zw_aload_n dX8_rankTries_44 rfl ?_
    refine zw_get dX8_rankTries_45 fX8_49 h.1 rfl ?_
    refine zw_iload_n dX8_rankTries_48 rfl ?_
    refine zw_iconst dX8_rankTries_49 (-1) (by decide) ?_
    by_cases hs : fSure C = -1
    · refine zw_icmp_ne 57 dX8_rankTries_50 (by decide) (fun hz => absurd (hs) hz) (fun _ => ?_)
      refine zw_iload_n dX8_rankTries_53 rfl ?_
      refine zw_goto 67 dX8_rankTries_54 (by decide) ?_
      exact fin _ _ (by unfold tK; rw [if_pos hs])
    · refine zw_icmp_ne 57 dX8_rankTries_50 (by decide) (fun _ => ?_) (fun hz => absurd hz (hs))
      refine zw_iload_n dX8_rankTries_57 rfl ?_
      refine zw_iload_n dX8_rankTries_58 rfl ?_
      by_cases hi : nI i = fSure C
      · refine zw_icmp_ne 66 dX8_rankTries_59 (by decide) (fun hz => absurd (hi) hz) (fun _ => ?_)
        refine zw_iconst dX8_rankTries_62 1 (by decide) ?_
        refine zw_goto 67 dX8_rankTries_63 (by decide) ?_
        exact fin _ _ (by unfold tK; rw [if_neg hs, if_pos hi])
      · refine zw_icmp_ne 66 dX8_rankTries_59 (by decide) (fun _ => ?_) (fun hz => absurd hz (hi))
        refine zw_iconst dX8_rankTries_66 0 (by decide) ?_
        exact fin _ _ (by unfold tK; rw [if_neg hs, if_neg hi])
theorem x_rank (h : isS w C I0 I1 len bt fa fb ki bd no fu) (k : ∀ w' ks, isS w' C I0 I1 len bt fa fb ki bd no fu → isRk w' (C 1).1 ks → (∀ j, j < (C 1).1 → ks j = tK C j) → zOff 63 65 w w' → Q none w') : Zm (d + 3) mX8_rankTries 0 0 [.ref 0] w Q := by
  obtain ⟨n, ks, hr⟩ := h.2.2.2.2.2.2.2.2.1
  refine zm_intro [_, _, _, _] oX8_rankTries (Nat.le_of_ble_eq_true rfl) rfl ?_
  refine zw_aload_n dX8_rankTries_0 rfl ?_
  refine zw_get dX8_rankTries_1 fX8_12 h.1 rfl ?_
  refine zw_cV0 dX8_rankTries_4 oX1_firstSureLid kX1_firstSureLid lX8_315 h.2.1.1 rfl (Nat.le_of_ble_eq_true rfl) rfl (c_firstSure h.2.1 ?_)
  show Zw _ _ _ 7 [_, _, _, _] [_] _ _
  refine zw_istore_n [_, _, _, _] dX8_rankTries_7 (Nat.le_of_ble_eq_true rfl) rfl ?_
  refine zw_aload_n dX8_rankTries_8 rfl ?_
  refine zw_get dX8_rankTries_9 fX8_49 h.1 rfl ?_
  refine zw_cV0 dX8_rankTries_12 oX5_begin kX5_begin lX8_198 hr.1 rfl (Nat.le_of_ble_eq_true rfl) rfl (r_begin hr (fun w1 r1 o1 => ?_))
  show Zw _ _ _ 15 [_, _, _, _] [] _ _
  refine zw_iconst dX8_rankTries_15 0 (by decide) ?_
  refine zw_istore_n [_, _, _, _] dX8_rankTries_16 (Nat.le_of_ble_eq_true rfl) rfl ?_
  exact x_rankL (w0 := w) h (fun w2 ks2 r2 q2 z2 => k w2 ks2 (h.rk q2 r2) r2 z2 q2) (C 1).1 0 w1 ks _ (by omega) r1 o1 (fun j hj => absurd hj (Nat.not_lt_zero _))
theorem chN_ok {ks : Nat → Int32} {i : Nat} (hl : (C 1).1 ≤ 7) (hch : okCh C) (hi : i < (C 1).1) : chN C ks i ≤ 10 ∧ (C 1).2 (itS ks (C 1).1 i * 4 + 3) = nI (chN C ks i) := by
  obtain ⟨c, hc, e⟩ := hch _ (itS_ok (ks := ks) hl hi).1
  have : chN C ks i = c := by unfold chN; rw [e, nI_clamp (by omega)]
  rw [this]
  exact ⟨hc, e⟩
theorem ten_sub : ∀ c, c < 11 → (10 : Int32) - nI c = nI (10 - c) := by decide +kernel
theorem x_meanL {ks : Nat → Int32} (hch : okCh C) (h : isS w C I0 I1 len bt fa fb ki bd no fu) (hr : isRk w (C 1).1 ks) (hK : ∀ c, Zw (d + 3) mX8_meanOfTries z0 80 [some (.ref 0), some (.long (lN (mtF (chN C ks) 0 (C 1).1 (0, 1, 1)).1)), none, some (.long (lN (mtF (chN C ks) 0 (C 1).1 (0, 1, 1)).2.1)), none, some (.long c), none, some (.int (nI (C 1).1))] [] w Q) : ∀ (k i : Nat) (v : Nat × Nat × Nat), i + k = (C 1).1 → mtF (chN C ks) i k v = mtF (chN C ks) 0 (C 1).1 (0, 1, 1) → Zw (d + 3) mX8_meanOfTries z0 10 [some (.ref 0), some (.long (lN v.1)), none, some (.long (lN v.2.1)), none, some (.long (lN v.2.2)), none, some (.int (nI i))] [] w Q := by
  have hl7 : (C 1).1 ≤ 7 := h.2.1.2.2.1.2.2.1
  intro k
  induction k with
  | zero =>
    intro i v hi hv
    have e : i = (C 1).1 := by omega
    subst e
    have hv : v = mtF (chN C ks) 0 (C 1).1 (0, 1, 1) := hv
    subst hv
    refine zw_iload dX8_meanOfTries_10 rfl ?_
    refine zw_aload_n dX8_meanOfTries_12 rfl ?_
    refine zw_get dX8_meanOfTries_13 fX8_12 h.1 rfl ?_
    refine zw_get dX8_meanOfTries_16 fX8_178 h.2.1.1 rfl ?_
    refine zw_cV0 dX8_meanOfTries_19 oX6_size kX6_size lX8_181 h.2.1.2.2.1.1 rfl (Nat.le_of_ble_eq_true rfl) rfl (t_size h.2.1.2.2.1 ?_)
    show Zw _ _ _ 22 [_, _, _, _, _, _, _, _] [_, _] _ _
    refine zw_icmp_ge 80 dX8_meanOfTries_22 (by decide) (fun _ => ?_) (fun hz => absurd (nI_le (Nat.le_refl _) (by omega)) hz)
    exact hK _
  | succ k ih =>
    intro i v hi hv
    have hs := itS_ok (ks := ks) hl7 (i := i) (by omega)
    have hcn := chN_ok (ks := ks) hl7 hch (i := i) (by omega)
    have fin : ∀ b, b = (if i = 0 then v.2.1 else v.2.1 * 10) → Zw (d + 3) mX8_meanOfTries z0 36 [some (.ref 0), some (.long (lN v.1)), none, some (.long (lN b)), none, some (.long (lN v.2.2)), none, some (.int (nI i))] [] w Q := by
      intro b e
      subst e
      refine zw_lload_n dX8_meanOfTries_36 rfl ?_
      refine zw_ldc2 dX8_meanOfTries_37 qX8_318 ?_
      refine zw_lmul dX8_meanOfTries_40 ?_
      refine zw_lload dX8_meanOfTries_41 rfl ?_
      refine zw_ladd dX8_meanOfTries_43 ?_
      refine zw_topl (y := lN (v.1 * 10 + v.2.2)) (by rw [← lN_add, ← lN_mul]; rfl) ?_
      refine zw_lstore_n [_, _, _, _, _, _, _, _] dX8_meanOfTries_44 (Nat.le_of_ble_eq_true rfl) rfl ?_
      refine zw_lload dX8_meanOfTries_45 rfl ?_
      refine zw_bipush dX8_meanOfTries_47 10 (by decide) ?_
      refine zw_aload_n dX8_meanOfTries_49 rfl ?_
      refine zw_get dX8_meanOfTries_50 fX8_12 h.1 rfl ?_
      refine zw_get dX8_meanOfTries_53 fX8_178 h.2.1.1 rfl ?_
      refine zw_aload_n dX8_meanOfTries_56 rfl ?_
      refine zw_get dX8_meanOfTries_57 fX8_49 h.1 rfl ?_
      refine zw_iload dX8_meanOfTries_60 rfl ?_
      refine zw_cV1 dX8_meanOfTries_62 oX5_itemAt kX5_itemAt lX8_206 hr.1 rfl (Nat.le_of_ble_eq_true rfl) rfl (r_item hr ?_)
      show Zw _ _ _ 65 [_, _, _, _, _, _, _, _] [_, _, _, _] _ _
      refine zw_top (hs.2) ?_
      refine zw_iconst dX8_meanOfTries_65 3 (by decide) ?_
      refine zw_cV2 dX8_meanOfTries_66 oX6_at kX6_at lX8_99 h.2.1.2.2.1.1 rfl (Nat.le_of_ble_eq_true rfl) rfl (t_at (c := 3) h.2.1.2.2.1 hs.1 (by decide) ?_)
      show Zw _ _ _ 69 [_, _, _, _, _, _, _, _] [_, _, _] _ _
      refine zw_top (hcn.2) ?_
      refine zw_isub dX8_meanOfTries_69 ?_
      refine zw_top (ten_sub _ (by omega)) ?_
      refine zw_i2l dX8_meanOfTries_70 ?_
      refine zw_topl (nI_l (by omega)) ?_
      refine zw_lmul dX8_meanOfTries_71 ?_
      refine zw_topl (lN_mul ..) ?_
      refine zw_lstore [_, _, _, _, _, _, _, _] dX8_meanOfTries_72 (Nat.le_of_ble_eq_true rfl) rfl ?_
      refine zw_iinc (nI (i + 1)) [_, _, _, _, _, _, _, _] dX8_meanOfTries_74 rfl (nI_1 i) rfl ?_
      refine zw_goto 10 dX8_meanOfTries_77 (by decide) ?_
      exact ih (i + 1) (v.1 * 10 + v.2.2, (if i = 0 then v.2.1 else v.2.1 * 10), v.2.2 * (10 - chN C ks i)) (by omega) hv
    refine zw_iload dX8_meanOfTries_10 rfl ?_
    refine zw_aload_n dX8_meanOfTries_12 rfl ?_
    refine zw_get dX8_meanOfTries_13 fX8_12 h.1 rfl ?_
    refine zw_get dX8_meanOfTries_16 fX8_178 h.2.1.1 rfl ?_
    refine zw_cV0 dX8_meanOfTries_19 oX6_size kX6_size lX8_181 h.2.1.2.2.1.1 rfl (Nat.le_of_ble_eq_true rfl) rfl (t_size h.2.1.2.2.1 ?_)
    show Zw _ _ _ 22 [_, _, _, _, _, _, _, _] [_, _] _ _
    refine zw_icmp_ge 80 dX8_meanOfTries_22 (by decide) (fun hz => absurd hz (nI_ge (by omega) (by omega))) (fun _ => ?_)
    refine zw_iload dX8_meanOfTries_25 rfl ?_
    by_cases h0 : i = 0
    · subst h0
      refine zw_if_le 36 dX8_meanOfTries_27 (by decide) (fun _ => ?_) (fun hz => absurd (by decide) hz)
      exact fin _ rfl
    · refine zw_if_le 36 dX8_meanOfTries_27 (by decide) (fun hz => absurd hz (nI_nle (by omega) (by omega))) (fun _ => ?_)
      refine zw_lload_n dX8_meanOfTries_30 rfl ?_
      refine zw_ldc2 dX8_meanOfTries_31 qX8_318 ?_
      refine zw_lmul dX8_meanOfTries_34 ?_
      refine zw_topl (y := lN (v.2.1 * 10)) (by rw [← lN_mul]; rfl) ?_
      refine zw_lstore_n [_, _, _, _, _, _, _, _] dX8_meanOfTries_35 (Nat.le_of_ble_eq_true rfl) rfl ?_
      exact fin _ (by rw [if_neg h0])
/-- the mean of the tries: above, below -/
def mT (C : Cup) (ks : Nat → Int32) : Nat × Nat := ((mtF (chN C ks) 0 (C 1).1 (0, 1, 1)).1, (mtF (chN C ks) 0 (C 1).1 (0, 1, 1)).2.1)
theorem x_mean {ks : Nat → Int32} (hch : okCh C) (h : isS w C I0 I1 len bt fa fb ki bd no fu) (hr : isRk w (C 1).1 ks) (k : ∀ w', isS w' C I0 I1 len bt (lN ((mT C ks).1 / gcdF 128 (mT C ks).1 (mT C ks).2)) (lN ((mT C ks).2 / gcdF 128 (mT C ks).1 (mT C ks).2)) ki bd no fu → zOff 73 74 w w' → Q none w') : Zm (d + 3) mX8_meanOfTries 0 0 [.ref 0] w Q := by
  have hl7 : (C 1).1 ≤ 7 := h.2.1.2.2.1.2.2.1
  have hf := h.2.2.2.2.2.2.2.2.2.2
  obtain ⟨b1, b2, b3⟩ := mtF_bd (c := chN C ks) (C 1).1 0 (0, 1, 1)
  have p11 : 11 ^ (C 1).1 ≤ 11 ^ 7 := Nat.pow_le_pow_right (by decide) hl7
  have p10 : 10 ^ (C 1).1 ≤ 10 ^ 7 := Nat.pow_le_pow_right (by decide) hl7
  simp only [Nat.zero_add, Nat.one_mul] at b1 b2
  refine zm_intro [_, _, _, _, _, _, _, _] oX8_meanOfTries (Nat.le_of_ble_eq_true rfl) rfl ?_
  refine zw_lconst dX8_meanOfTries_0 0 (by decide) ?_
  refine zw_lstore_n [_, _, _, _, _, _, _, _] dX8_meanOfTries_1 (Nat.le_of_ble_eq_true rfl) rfl ?_
  refine zw_lconst dX8_meanOfTries_2 1 (by decide) ?_
  refine zw_lstore_n [_, _, _, _, _, _, _, _] dX8_meanOfTries_3 (Nat.le_of_ble_eq_true rfl) rfl ?_
  refine zw_lconst dX8_meanOfTries_4 1 (by decide) ?_
  refine zw_lstore [_, _, _, _, _, _, _, _] dX8_meanOfTries_5 (Nat.le_of_ble_eq_true rfl) rfl ?_
  refine zw_iconst dX8_meanOfTries_7 0 (by decide) ?_
  refine zw_istore [_, _, _, _, _, _, _, _] dX8_meanOfTries_8 (Nat.le_of_ble_eq_true rfl) rfl ?_
  refine x_meanL hch h hr (fun c => ?_) (C 1).1 0 (0, 1, 1) (by omega) rfl
  refine zw_aload_n dX8_meanOfTries_80 rfl ?_
  refine zw_get dX8_meanOfTries_81 fX8_63 h.1 rfl ?_
  refine zw_lload_n dX8_meanOfTries_84 rfl ?_
  refine zw_lload_n dX8_meanOfTries_85 rfl ?_
  refine zw_cV2 dX8_meanOfTries_86 oX3_become kX3_become lX8_320 hf rfl (Nat.le_of_ble_eq_true rfl) rfl (f_become hf (by omega) (by omega) (gcdF_posy (b3 (by decide))) (fun w1 h1 o1 => ?_))
  show Zw _ _ _ 89 [_, _, _, _, _, _, _, _] [] _ _
  refine zw_return dX8_meanOfTries_89 rfl (Nat.le_refl _) (Nat.le_refl _) ?_
  exact k w1 (h.fr o1 h1) o1
theorem mT_congr {ks ks' : Nat → Int32} (h : ∀ i, i < (C 1).1 → ks i = ks' i) : mT C ks = mT C ks' := by
  have : chN C ks = chN C ks' := by
    funext i
    unfold chN itS
    rw [item_congr h]
  unfold mT
  rw [this]
theorem l_tries {x : Int32} (hch : okCh C) (h : isS w C I0 I1 len bt fa fb ki bd no fu) (kB : ¬ -1 ≤ x → ∀ w', isS w' C I0 I1 len bt fa fb ki (bd + 1) no fu → zOff 0 74 w w' → Q (some (.int (-10))) w') (k5 : -1 ≤ x → ¬ x < nI (C 1).1 → Q (some (.int (-5))) w) (kN : x = -1 → ∀ w', isS w' C I0 I1 len bt (lN ((mT C (tK C)).1 / gcdF 128 (mT C (tK C)).1 (mT C (tK C)).2)) (lN ((mT C (tK C)).2 / gcdF 128 (mT C (tK C)).1 (mT C (tK C)).2)) ki bd no fu → zOff 0 74 w w' → Q (some (.int 1)) w') (kA : -1 ≤ x → ¬ x = -1 → x < nI (C 1).1 → ∀ w', isS w' C I0 I1 len bt fa fb ki bd no fu → zOff 0 74 w w' → Q (some (.int (itemN (tK C) (C 1).1 x))) w') : Zm (d + 4) mX8_tries 0 0 [.ref 0, .int x] w Q := by
  refine zm_intro [_, _] oX8_tries (Nat.le_of_ble_eq_true rfl) rfl ?_
  refine zw_iload_n dX8_tries_0 rfl ?_
  refine zw_iconst dX8_tries_1 (-1) (by decide) ?_
  by_cases hx : -1 ≤ x
  · refine zw_icmp_ge 10 dX8_tries_2 (by decide) (fun _ => ?_) (fun hz => absurd (hx) hz)
    refine zw_iload_n dX8_tries_10 rfl ?_
    refine zw_aload_n dX8_tries_11 rfl ?_
    refine zw_get dX8_tries_12 fX8_12 h.1 rfl ?_
    refine zw_get dX8_tries_15 fX8_178 h.2.1.1 rfl ?_
    refine zw_cV0 dX8_tries_18 oX6_size kX6_size lX8_181 h.2.1.2.2.1.1 rfl (Nat.le_of_ble_eq_true rfl) rfl (t_size h.2.1.2.2.1 ?_)
    show Zw _ _ _ 21 [_, _] [_, _] _ _
    by_cases hy : x < nI (C 1).1
    · refine zw_icmp_lt 27 dX8_tries_21 (by decide) (fun _ => ?_) (fun hz => absurd (hy) hz)
      refine zw_aload_n dX8_tries_27 rfl ?_
      refine zw_cV0 dX8_tries_28 oX8_rankTries kX8_rankTries lX8_219 h.1 rfl (Nat.le_of_ble_eq_true rfl) rfl (x_rank h (fun w1 ks1 h1 r1 z1 o1 => ?_))
      show Zw _ _ _ 31 [_, _] [] _ _
      refine zw_iload_n dX8_tries_31 rfl ?_
      refine zw_iconst dX8_tries_32 (-1) (by decide) ?_
      by_cases he : x = -1
      · refine zw_icmp_eq 45 dX8_tries_33 (by decide) (fun _ => ?_) (fun hz => absurd (he) hz)
        refine zw_aload_n dX8_tries_45 rfl ?_
        refine zw_cV0 dX8_tries_46 oX8_meanOfTries kX8_meanOfTries lX8_222 h1.1 rfl (Nat.le_of_ble_eq_true rfl) rfl (x_mean hch h1 r1 (fun w2 h2 o2 => ?_))
        show Zw _ _ _ 49 [_, _] [] _ _
        refine zw_iconst dX8_tries_49 1 (by decide) ?_
        refine zw_ireturn .int dX8_tries_50 rfl rfl (Nat.le_refl _) (Nat.le_refl _) ?_
        rw [mT_congr z1] at h2
        exact kN he w2 h2 ((o1.wd (by decide) (by decide)).tr (o2.wd (by decide) (by decide)))
      · refine zw_icmp_eq 45 dX8_tries_33 (by decide) (fun hz => absurd hz (he)) (fun _ => ?_)
        refine zw_aload_n dX8_tries_36 rfl ?_
        refine zw_get dX8_tries_37 fX8_49 h1.1 rfl ?_
        refine zw_iload_n dX8_tries_40 rfl ?_
        refine zw_cV1 dX8_tries_41 oX5_itemAt kX5_itemAt lX8_206 r1.1 rfl (Nat.le_of_ble_eq_true rfl) rfl (r_item r1 ?_)
        show Zw _ _ _ 44 [_, _] [_] _ _
        refine zw_ireturn .int dX8_tries_44 rfl rfl (Nat.le_refl _) (Nat.le_refl _) ?_
        rw [item_congr z1]
        exact kA hx he hy w1 h1 (o1.wd (by decide) (by decide))
    · refine zw_icmp_lt 27 dX8_tries_21 (by decide) (fun hz => absurd hz (hy)) (fun _ => ?_)
      refine zw_bipush dX8_tries_24 (-5) (by decide) ?_
      refine zw_ireturn .int dX8_tries_26 rfl rfl (Nat.le_refl _) (Nat.le_refl _) ?_
      exact k5 hx hy
  · refine zw_icmp_ge 10 dX8_tries_2 (by decide) (fun hz => absurd hz (hx)) (fun _ => ?_)
    refine zw_aload_n dX8_tries_5 rfl ?_
    refine zw_cV0 dX8_tries_6 oX8_badToldApart kX8_badToldApart lX8_102 h.1 rfl (Nat.le_of_ble_eq_true rfl) rfl (x_bad10 h (fun w1 h1 o1 => ?_))
    show Zw _ _ _ 9 [_, _] [_] _ _
    refine zw_ireturn .int dX8_tries_9 rfl rfl (Nat.le_refl _) (Nat.le_refl _) ?_
    exact kB hx w1 h1 o1
/-- the ways to place the foods, all of them and by box and food -/
def labOk (C : Cup) (ways : Int32) (wy : Nat → Int32) : Prop := ∃ (sz' pl' wy' : Nat → Int32) (m0 m : HMs), (∀ i, i < (C 0).1 → sz' i = (C 0).2 (i * 5 + 1) ∧ m0.1 i = 127 ∧ m0.2.1 i = 0 ∧ m0.2.2.1 i = 0 ∧ m0.2.2.2 i = 0) ∧ (∀ j, j < 49 → wy' j = 0) ∧ m = hintAll (C 4).2 0 (C 4).1 m0 ∧ ways = (wF sz' m.1 m.2.1 m.2.2.1 m.2.2.2 (C 0).1 (C 0).1 0 0 pl' wy').1 ∧ wy = (wF sz' m.1 m.2.1 m.2.2.1 m.2.2.2 (C 0).1 (C 0).1 0 0 pl' wy').2.2
theorem l_labelsM {x y : Int32} {o : Value} (hh : okH C) (h : isS w C I0 I1 len bt fa fb ki bd no fu) (k : ∀ w' n sz al le sm gr pl wy ways, n = (C 0).1 → isFd w' n sz al le sm gr pl wy ways → labOk C ways wy → isS w' C I0 I1 len bt fa fb ki bd no fu → zOff 0 74 w w' → (y = 0 ∧ Q (some (.int ways)) w') ∨ (y = 1 ∧ ∃ r, r < (C 0).1 ∧ x = nI r ∧ Q (some (.int (nI (mskF (fun b => decide (0 < wy (b * 7 + r))) 0 (C 0).1 0)))) w') ∨ (y = 2 ∧ Q (some (.int (openF wy (C 0).1 0 (C 0).1 (-1) 1073741824))) w')) : Zw (d + 21) mX8_labels z0 47 [some (.ref 0), some (.int x), some (.int y), some o] [] w Q := by
  have hn7 : (C 0).1 ≤ 7 := h.2.1.2.1.2.2.1
  obtain ⟨n, sz, al, le, sm, gr, pl, wy, ways, hf⟩ := h.2.2.2.2.2.2.2.2.2.1
  refine zw_aload_n dX8_labels_47 rfl ?_
  refine zw_get dX8_labels_48 fX8_56 h.1 rfl ?_
  refine zw_aload_n dX8_labels_51 rfl ?_
  refine zw_get dX8_labels_52 fX8_12 h.1 rfl ?_
  refine zw_cV1 dX8_labels_55 oX2_lookAt kX2_lookAt lX8_250 hf.1 rfl (Nat.le_of_ble_eq_true rfl) rfl (fd_lookAt hf h.2.1 (by decide) hh (fun w1 sz1 pl1 wy1 m0 m e1 e2 e3 f1 o1 => ?_))
  show Zw _ _ _ 58 [_, _, _, _] [] _ _
  have g := h.fd o1 f1
  have kk := k w1 _ _ _ _ _ _ _ _ _ rfl f1 ⟨sz1, pl1, wy1, m0, m, e1, e2, e3, rfl, rfl⟩ g (o1.wd (by decide) (by decide))
  refine zw_iload_n dX8_labels_58 rfl ?_
  rcases kk with ⟨ey, q⟩ | ⟨ey, r, hr, er, q⟩ | ⟨ey, q⟩
  · subst ey
    refine zw_lookup 84 dX8_labels_59 (by decide) (off := 25) (by decide) (by decide) ?_
    refine zw_aload_n dX8_labels_84 rfl ?_
    refine zw_get dX8_labels_85 fX8_56 g.1 rfl ?_
    refine zw_cV0 dX8_labels_88 oX2_allWays kX2_allWays lX8_251 f1.1 rfl (Nat.le_of_ble_eq_true rfl) rfl (fd_allWays f1 ?_)
    show Zw _ _ _ 91 [_, _, _, _] [_] _ _
    refine zw_ireturn .int dX8_labels_91 rfl rfl (Nat.le_refl _) (Nat.le_refl _) ?_
    exact q
  · subst ey
    refine zw_lookup 92 dX8_labels_59 (by decide) (off := 33) (by decide) (by decide) ?_
    subst er
    refine zw_aload_n dX8_labels_92 rfl ?_
    refine zw_get dX8_labels_93 fX8_56 g.1 rfl ?_
    refine zw_iload_n dX8_labels_96 rfl ?_
    refine zw_cV1 dX8_labels_97 oX2_boxesOf kX2_boxesOf lX8_254 f1.1 rfl (Nat.le_of_ble_eq_true rfl) rfl (fd_boxesOf (f := r) f1 (by omega) ?_)
    show Zw _ _ _ 100 [_, _, _, _] [_] _ _
    refine zw_ireturn .int dX8_labels_100 rfl rfl (Nat.le_refl _) (Nat.le_refl _) ?_
    exact q
  · subst ey
    refine zw_lookup 101 dX8_labels_59 (by decide) (off := 42) (by decide) (by decide) ?_
    refine zw_aload_n dX8_labels_101 rfl ?_
    refine zw_get dX8_labels_102 fX8_56 g.1 rfl ?_
    refine zw_cV0 dX8_labels_105 oX2_boxToOpen kX2_boxToOpen lX8_257 f1.1 rfl (Nat.le_of_ble_eq_true rfl) rfl (fd_open f1 ?_)
    show Zw _ _ _ 108 [_, _, _, _] [_] _ _
    refine zw_ireturn .int dX8_labels_108 rfl rfl (Nat.le_refl _) (Nat.le_refl _) ?_
    exact q
theorem l_labels {x y : Int32} (hh : okH C) (h : isS w C I0 I1 len bt fa fb ki bd no fu) (kB : ¬ ((y = 1 ∧ ∃ r, r < (C 0).1 ∧ x = nI r) ∨ (x = 0 ∧ (y = 0 ∨ y = 2))) → ∀ w', isS w' C I0 I1 len bt fa fb ki (bd + 1) no fu → zOff 0 74 w w' → Q (some (.int (-10))) w') (k0 : x = 0 → y = 0 → ∀ w' wy ways, labOk C ways wy → isS w' C I0 I1 len bt fa fb ki bd no fu → zOff 0 74 w w' → Q (some (.int ways)) w') (k1 : ∀ r, r < (C 0).1 → x = nI r → y = 1 → ∀ w' wy ways, labOk C ways wy → isS w' C I0 I1 len bt fa fb ki bd no fu → zOff 0 74 w w' → Q (some (.int (nI (mskF (fun b => decide (0 < wy (b * 7 + r))) 0 (C 0).1 0)))) w') (k2 : x = 0 → y = 2 → ∀ w' wy ways, labOk C ways wy → isS w' C I0 I1 len bt fa fb ki bd no fu → zOff 0 74 w w' → Q (some (.int (openF wy (C 0).1 0 (C 0).1 (-1) 1073741824))) w') : Zm (d + 21) mX8_labels 0 0 [.ref 0, .int x, .int y] w Q := by
  have bad : ¬ ((y = 1 ∧ ∃ r, r < (C 0).1 ∧ x = nI r) ∨ (x = 0 ∧ (y = 0 ∨ y = 2))) → Zw (d + 21) mX8_labels z0 37 [some (.ref 0), some (.int x), some (.int y), none] [.int 0] w Q := by
    intro q
    refine zw_istore_n [_, _, _, _] dX8_labels_37 (Nat.le_of_ble_eq_true rfl) rfl ?_
    refine zw_iload_n dX8_labels_38 rfl ?_
    refine zw_if_ne 47 dX8_labels_39 (by decide) (fun hz => absurd (by decide) hz) (fun _ => ?_)
    refine zw_aload_n dX8_labels_42 rfl ?_
    refine zw_cV0 dX8_labels_43 oX8_badToldApart kX8_badToldApart lX8_102 h.1 rfl (Nat.le_of_ble_eq_true rfl) rfl (x_bad10 h (fun w1 h1 o1 => ?_))
    show Zw _ _ _ 46 [_, _, _, _] [_] _ _
    refine zw_ireturn .int dX8_labels_46 rfl rfl (Nat.le_refl _) (Nat.le_refl _) ?_
    exact kB q w1 h1 o1
  have good : (∀ w' wy ways, labOk C ways wy → isS w' C I0 I1 len bt fa fb ki bd no fu → zOff 0 74 w w' → (y = 0 ∧ Q (some (.int ways)) w') ∨ (y = 1 ∧ ∃ r, r < (C 0).1 ∧ x = nI r ∧ Q (some (.int (nI (mskF (fun b => decide (0 < wy (b * 7 + r))) 0 (C 0).1 0)))) w') ∨ (y = 2 ∧ Q (some (.int (openF wy (C 0).1 0 (C 0).1 (-1) 1073741824))) w')) → Zw (d + 21) mX8_labels z0 37 [some (.ref 0), some (.int x), some (.int y), none] [.int 1] w Q := by
    intro q
    refine zw_istore_n [_, _, _, _] dX8_labels_37 (Nat.le_of_ble_eq_true rfl) rfl ?_
    refine zw_iload_n dX8_labels_38 rfl ?_
    refine zw_if_ne 47 dX8_labels_39 (by decide) (fun _ => ?_) (fun hz => absurd hz (by decide))
    exact l_labelsM hh h (fun w' n sz al le sm gr pl wy ways _ _ z1 z2 z3 => q w' wy ways z1 z2 z3)
  refine zm_intro [_, _, _, _] oX8_labels (Nat.le_of_ble_eq_true rfl) rfl ?_
  refine zw_iload_n dX8_labels_0 rfl ?_
  refine zw_iconst dX8_labels_1 1 (by decide) ?_
  by_cases hy : y = 1
  · refine zw_icmp_ne 19 dX8_labels_2 (by decide) (fun hz => absurd (hy) hz) (fun _ => ?_)
    refine zw_aload_n dX8_labels_5 rfl ?_
    refine zw_get dX8_labels_6 fX8_12 h.1 rfl ?_
    refine zw_get dX8_labels_9 fX8_89 h.2.1.1 rfl ?_
    refine zw_iload_n dX8_labels_12 rfl ?_
    refine zw_cV1 dX8_labels_13 oX6_contains kX6_contains lX8_93 h.2.1.2.1.1 rfl (Nat.le_of_ble_eq_true rfl) rfl (t_contains h.2.1.2.1 (fun r hr e => ?_) (fun hx => ?_))
    · show Zw _ _ _ 16 [_, _, _, _] [_] _ _
      refine zw_goto 37 dX8_labels_16 (by decide) ?_
      exact good (fun w' wy ways z1 z2 z3 => Or.inr (Or.inl ⟨hy, r, hr, e, k1 r hr e hy w' wy ways z1 z2 z3⟩))
    · show Zw _ _ _ 16 [_, _, _, _] [_] _ _
      refine zw_goto 37 dX8_labels_16 (by decide) ?_
      refine bad (fun z => ?_)
      rcases z with ⟨_, r, hr, e⟩ | ⟨_, z | z⟩
      · exact hx r hr e
      · rw [hy] at z; exact absurd z (by decide)
      · rw [hy] at z; exact absurd z (by decide)
  · refine zw_icmp_ne 19 dX8_labels_2 (by decide) (fun _ => ?_) (fun hz => absurd hz (hy))
    refine zw_iload_n dX8_labels_19 rfl ?_
    by_cases hx : x = 0
    · refine zw_if_ne 36 dX8_labels_20 (by decide) (fun hz => absurd (hx) hz) (fun _ => ?_)
      refine zw_iload_n dX8_labels_23 rfl ?_
      by_cases h0 : y = 0
      · refine zw_if_eq 32 dX8_labels_24 (by decide) (fun _ => ?_) (fun hz => absurd (h0) hz)
        refine zw_iconst dX8_labels_32 1 (by decide) ?_
        refine zw_goto 37 dX8_labels_33 (by decide) ?_
        exact good (fun w' wy ways z1 z2 z3 => Or.inl ⟨h0, k0 hx h0 w' wy ways z1 z2 z3⟩)
      · refine zw_if_eq 32 dX8_labels_24 (by decide) (fun hz => absurd hz (h0)) (fun _ => ?_)
        refine zw_iload_n dX8_labels_27 rfl ?_
        refine zw_iconst dX8_labels_28 2 (by decide) ?_
        by_cases h2 : y = 2
        · refine zw_icmp_ne 36 dX8_labels_29 (by decide) (fun hz => absurd (h2) hz) (fun _ => ?_)
          refine zw_iconst dX8_labels_32 1 (by decide) ?_
          refine zw_goto 37 dX8_labels_33 (by decide) ?_
          exact good (fun w' wy ways z1 z2 z3 => Or.inr (Or.inr ⟨h2, k2 hx h2 w' wy ways z1 z2 z3⟩))
        · refine zw_icmp_ne 36 dX8_labels_29 (by decide) (fun _ => ?_) (fun hz => absurd hz (h2))
          refine zw_iconst dX8_labels_36 0 (by decide) ?_
          refine bad (fun z => ?_)
          rcases z with ⟨z, _⟩ | ⟨_, z | z⟩
          · exact hy z
          · exact h0 z
          · exact h2 z
    · refine zw_if_ne 36 dX8_labels_20 (by decide) (fun _ => ?_) (fun hz => absurd hz (hx))
      refine zw_iconst dX8_labels_36 0 (by decide) ?_
      refine bad (fun z => ?_)
      rcases z with ⟨z, _⟩ | ⟨z, _⟩
      · exact hy z
      · exact hx z
end ZL8
