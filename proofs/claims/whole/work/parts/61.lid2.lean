/-! ===== LidForEach: the calls, second part ===== -/
section ZL2
variable {d : Nat} {w : ZW} {C I0 I1 : Cup} {len : Nat} {bt : Nat → Int32} {fa fb : Int64} {ki bd no fu : Int32} {Q : Option Value → ZW → Prop}
theorem l_on {x : Int32} (h : isS w C I0 I1 len bt fa fb ki bd no fu) (kB : (∀ r, r < (C 0).1 → ¬ x = nI r) → ∀ w', isS w' C I0 I1 len bt fa fb ki (bd + 1) no fu → zOff 0 74 w w' → Q (some (.int (-10))) w') (kA : ∀ r, r < (C 0).1 → x = nI r → Q (some (.int ((C 0).2 (r * 5 + 4)))) w) : Zm (d + 2) mX8_on 0 0 [.ref 0, .int x] w Q := by
  refine zm_intro [_, _] oX8_on (Nat.le_of_ble_eq_true rfl) rfl ?_
  refine zw_aload_n dX8_on_0 rfl ?_
  refine zw_get dX8_on_1 fX8_12 h.1 rfl ?_
  refine zw_get dX8_on_4 fX8_89 h.2.1.1 rfl ?_
  refine zw_iload_n dX8_on_7 rfl ?_
  refine zw_cV1 dX8_on_8 oX6_contains kX6_contains lX8_93 h.2.1.2.1.1 rfl (Nat.le_of_ble_eq_true rfl) rfl (t_contains h.2.1.2.1 (fun r hr e => ?_) (fun hx => ?_))
  · show Zw _ _ _ 11 [_, _] [_] _ _
    subst e
    refine zw_if_eq 29 dX8_on_11 (by decide) (fun hz => absurd hz (by decide)) (fun _ => ?_)
    refine zw_aload_n dX8_on_14 rfl ?_
    refine zw_get dX8_on_15 fX8_12 h.1 rfl ?_
    refine zw_get dX8_on_18 fX8_89 h.2.1.1 rfl ?_
    refine zw_iload_n dX8_on_21 rfl ?_
    refine zw_iconst dX8_on_22 4 (by decide) ?_
    refine zw_cV2 dX8_on_23 oX6_at kX6_at lX8_99 h.2.1.2.1.1 rfl (Nat.le_of_ble_eq_true rfl) rfl (t_at (c := 4) h.2.1.2.1 hr (by decide) ?_)
    show Zw _ _ _ 26 [_, _] [_] _ _
    refine zw_goto 33 dX8_on_26 (by decide) ?_
    refine zw_ireturn .int dX8_on_33 rfl rfl (Nat.le_refl _) (Nat.le_refl _) ?_
    exact kA r hr rfl
  · show Zw _ _ _ 11 [_, _] [_] _ _
    refine zw_if_eq 29 dX8_on_11 (by decide) (fun _ => ?_) (fun hz => absurd (rfl) hz)
    refine zw_aload_n dX8_on_29 rfl ?_
    refine zw_cV0 dX8_on_30 oX8_badToldApart kX8_badToldApart lX8_102 h.1 rfl (Nat.le_of_ble_eq_true rfl) rfl (x_bad10 h (fun w1 h1 o1 => ?_))
    show Zw _ _ _ 33 [_, _] [_] _ _
    refine zw_ireturn .int dX8_on_33 rfl rfl (Nat.le_refl _) (Nat.le_refl _) ?_
    exact kB hx w1 h1 o1
theorem l_fits {x : Int32} (h : isS w C I0 I1 len bt fa fb ki bd no fu) (hk : okK (C 1)) (kB : (∀ r, r < (C 0).1 → ¬ x = nI r) → ∀ w', isS w' C I0 I1 len bt fa fb ki (bd + 1) no fu → zOff 0 74 w w' → Q (some (.int (-2))) w') (kA : ∀ r, r < (C 0).1 → x = nI r → Q (some (.int (nI (cMask C r)))) w) : Zm (d + 4) mX8_fits 0 0 [.ref 0, .int x] w Q := by
  refine zm_intro [_, _] oX8_fits (Nat.le_of_ble_eq_true rfl) rfl ?_
  refine zw_aload_n dX8_fits_0 rfl ?_
  refine zw_get dX8_fits_1 fX8_12 h.1 rfl ?_
  refine zw_get dX8_fits_4 fX8_89 h.2.1.1 rfl ?_
  refine zw_iload_n dX8_fits_7 rfl ?_
  refine zw_cV1 dX8_fits_8 oX6_contains kX6_contains lX8_93 h.2.1.2.1.1 rfl (Nat.le_of_ble_eq_true rfl) rfl (t_contains h.2.1.2.1 (fun r hr e => ?_) (fun hx => ?_))
  · show Zw _ _ _ 11 [_, _] [_] _ _
    subst e
    refine zw_if_eq 25 dX8_fits_11 (by decide) (fun hz => absurd hz (by decide)) (fun _ => ?_)
    refine zw_aload_n dX8_fits_14 rfl ?_
    refine zw_get dX8_fits_15 fX8_12 h.1 rfl ?_
    refine zw_iload_n dX8_fits_18 rfl ?_
    refine zw_cV1 dX8_fits_19 oX1_lidsFor kX1_lidsFor lX8_148 h.2.1.1 rfl (Nat.le_of_ble_eq_true rfl) rfl (c_lidsFor h.2.1 hk hr ?_)
    show Zw _ _ _ 22 [_, _] [_] _ _
    refine zw_goto 31 dX8_fits_22 (by decide) ?_
    refine zw_ireturn .int dX8_fits_31 rfl rfl (Nat.le_refl _) (Nat.le_refl _) ?_
    exact kA r hr rfl
  · show Zw _ _ _ 11 [_, _] [_] _ _
    refine zw_if_eq 25 dX8_fits_11 (by decide) (fun _ => ?_) (fun hz => absurd (rfl) hz)
    refine zw_aload_n dX8_fits_25 rfl ?_
    refine zw_bipush dX8_fits_26 (-2) (by decide) ?_
    refine zw_cV1 dX8_fits_28 oX8_told kX8_told lX8_71 h.1 rfl (Nat.le_of_ble_eq_true rfl) rfl (x_toldB h (fun w1 h1 o1 => ?_))
    show Zw _ _ _ 31 [_, _] [_] _ _
    refine zw_ireturn .int dX8_fits_31 rfl rfl (Nat.le_refl _) (Nat.le_refl _) ?_
    exact kB hx w1 h1 o1
theorem l_has {x : Int32} (h : isS w C I0 I1 len bt fa fb ki bd no fu) (kB : (∀ r, r < (C 1).1 → ¬ x = nI r) → ∀ w', isS w' C I0 I1 len bt fa fb ki (bd + 1) no fu → zOff 0 74 w w' → Q (some (.int (-2))) w') (kA : ∀ r, r < (C 1).1 → x = nI r → Q (some (.int (hold (C 3).2 (nI r) 0 (C 3).1 0))) w) : Zm (d + 3) mX8_has 0 0 [.ref 0, .int x] w Q := by
  refine zm_intro [_, _] oX8_has (Nat.le_of_ble_eq_true rfl) rfl ?_
  refine zw_aload_n dX8_has_0 rfl ?_
  refine zw_get dX8_has_1 fX8_12 h.1 rfl ?_
  refine zw_get dX8_has_4 fX8_178 h.2.1.1 rfl ?_
  refine zw_iload_n dX8_has_7 rfl ?_
  refine zw_cV1 dX8_has_8 oX6_contains kX6_contains lX8_93 h.2.1.2.2.1.1 rfl (Nat.le_of_ble_eq_true rfl) rfl (t_contains h.2.1.2.2.1 (fun r hr e => ?_) (fun hx => ?_))
  · show Zw _ _ _ 11 [_, _] [_] _ _
    subst e
    refine zw_if_eq 35 dX8_has_11 (by decide) (fun hz => absurd hz (by decide)) (fun _ => ?_)
    refine zw_aload_n dX8_has_14 rfl ?_
    refine zw_get dX8_has_15 fX8_12 h.1 rfl ?_
    refine zw_aload_n dX8_has_18 rfl ?_
    refine zw_get dX8_has_19 fX8_12 h.1 rfl ?_
    refine zw_get dX8_has_22 fX8_234 h.2.1.1 rfl ?_
    refine zw_cV0 dX8_has_25 oX6_size kX6_size lX8_181 h.2.1.2.2.2.2.1.1 rfl (Nat.le_of_ble_eq_true rfl) rfl (t_size h.2.1.2.2.2.2.1 ?_)
    show Zw _ _ _ 28 [_, _] [_, _] _ _
    refine zw_iload_n dX8_has_28 rfl ?_
    refine zw_cV2 dX8_has_29 oX1_holderAfter kX1_holderAfter lX8_237 h.2.1.1 rfl (Nat.le_of_ble_eq_true rfl) rfl (c_holder h.2.1 (Nat.le_refl _) ?_)
    show Zw _ _ _ 32 [_, _] [_] _ _
    refine zw_goto 41 dX8_has_32 (by decide) ?_
    refine zw_ireturn .int dX8_has_41 rfl rfl (Nat.le_refl _) (Nat.le_refl _) ?_
    exact kA r hr rfl
  · show Zw _ _ _ 11 [_, _] [_] _ _
    refine zw_if_eq 35 dX8_has_11 (by decide) (fun _ => ?_) (fun hz => absurd (rfl) hz)
    refine zw_aload_n dX8_has_35 rfl ?_
    refine zw_bipush dX8_has_36 (-2) (by decide) ?_
    refine zw_cV1 dX8_has_38 oX8_told kX8_told lX8_71 h.1 rfl (Nat.le_of_ble_eq_true rfl) rfl (x_toldB h (fun w1 h1 o1 => ?_))
    show Zw _ _ _ 41 [_, _] [_] _ _
    refine zw_ireturn .int dX8_has_41 rfl rfl (Nat.le_refl _) (Nat.le_refl _) ?_
    exact kB hx w1 h1 o1
theorem l_wrong (h : isS w C I0 I1 len bt fa fb ki bd no fu) (k : Q (some (.int (fnd (wrongF (C 3).2) 0 (C 3).1))) w) : Zm (d + 4) mX8_wrong 0 0 [.ref 0] w Q := by
  refine zm_intro [_] oX8_wrong (Nat.le_of_ble_eq_true rfl) rfl ?_
  refine zw_aload_n dX8_wrong_0 rfl ?_
  refine zw_get dX8_wrong_1 fX8_12 h.1 rfl ?_
  refine zw_cV0 dX8_wrong_4 oX1_firstWrongTale kX1_firstWrongTale lX8_240 h.2.1.1 rfl (Nat.le_of_ble_eq_true rfl) rfl (c_wrong h.2.1 ?_)
  show Zw _ _ _ 7 [_] [_] _ _
  refine zw_ireturn .int dX8_wrong_7 rfl rfl (Nat.le_refl _) (Nat.le_refl _) ?_
  exact k
theorem l_type {x : Int32} (h : isS w C I0 I1 len bt fa fb ki bd no fu) (kB : ¬ (0 ≤ x ∧ x ≤ 127) → ∀ w', isS w' C I0 I1 len bt fa fb ki (bd + 1) no fu → zOff 0 74 w w' → Q (some (.int (-2))) w') (kF : 0 ≤ x → x ≤ 127 → len = 150 → ∀ w', isS w' C I0 I1 len bt fa fb ki bd no (fu + 1) → zOff 0 74 w w' → Q (some (.int (-4))) w') (kA : 0 ≤ x → x ≤ 127 → len < 150 → ∀ w', isS w' C I0 I1 (len + 1) (upd bt len x) fa fb ki bd no fu → zOff 0 74 w w' → Q (some (.int (nI (len + 1)))) w') : Zm (d + 2) mX8_type 0 0 [.ref 0, .int x] w Q := by
  obtain ⟨nm, st, en, tk, va, iw, ht⟩ := h.2.2.2.2.2.1
  refine zm_intro [_, _] oX8_type (Nat.le_of_ble_eq_true rfl) rfl ?_
  refine zw_aload_n dX8_type_0 rfl ?_
  refine zw_aload_n dX8_type_1 rfl ?_
  refine zw_get dX8_type_2 fX8_28 h.1 rfl ?_
  refine zw_iload_n dX8_type_5 rfl ?_
  refine zw_cV1 dX8_type_6 oX7_append kX7_append lX8_115 ht.1 rfl (Nat.le_of_ble_eq_true rfl) rfl (x_append ht (fun e => ?_) (fun e1 e2 e3 => ?_) (fun e1 e2 e3 w1 h1 o1 => ?_))
  · show Zw _ _ _ 9 [_, _] [_, _] _ _
    refine zw_cV1 dX8_type_9 oX8_told kX8_told lX8_71 h.1 rfl (Nat.le_of_ble_eq_true rfl) rfl (x_toldB h (fun w1 h1 o1 => ?_))
    show Zw _ _ _ 12 [_, _] [_] _ _
    refine zw_ireturn .int dX8_type_12 rfl rfl (Nat.le_refl _) (Nat.le_refl _) ?_
    exact kB e w1 h1 o1
  · show Zw _ _ _ 9 [_, _] [_, _] _ _
    refine zw_cV1 dX8_type_9 oX8_told kX8_told lX8_71 h.1 rfl (Nat.le_of_ble_eq_true rfl) rfl (x_toldF h (fun w1 h1 o1 => ?_))
    show Zw _ _ _ 12 [_, _] [_] _ _
    refine zw_ireturn .int dX8_type_12 rfl rfl (Nat.le_refl _) (Nat.le_refl _) ?_
    exact kF e1 e2 e3 w1 h1 o1
  · show Zw _ _ _ 9 [_, _] [_, _] _ _
    have g := h.tx o1 h1
    refine zw_cV1 dX8_type_9 oX8_told kX8_told lX8_71 g.1 rfl (Nat.le_of_ble_eq_true rfl) rfl (x_told0 (nI_pos' (by omega)) ?_)
    show Zw _ _ _ 12 [_, _] [_] _ _
    refine zw_ireturn .int dX8_type_12 rfl rfl (Nat.le_refl _) (Nat.le_refl _) ?_
    exact kA e1 e2 e3 w1 g (o1.wd (by decide) (by decide))
theorem l_clear (h : isS w C I0 I1 len bt fa fb ki bd no fu) (k : ∀ w', isS w' C I0 I1 0 bt fa fb ki bd no fu → zOff 0 74 w w' → Q (some (.int (nI len))) w') : Zm (d + 1) mX8_clear 0 0 [.ref 0] w Q := by
  obtain ⟨nm, st, en, tk, va, iw, ht⟩ := h.2.2.2.2.2.1
  refine zm_intro [_] oX8_clear (Nat.le_of_ble_eq_true rfl) rfl ?_
  refine zw_aload_n dX8_clear_0 rfl ?_
  refine zw_get dX8_clear_1 fX8_28 h.1 rfl ?_
  refine zw_cV0 dX8_clear_4 oX7_drop kX7_drop lX8_118 ht.1 rfl (Nat.le_of_ble_eq_true rfl) rfl (x_drop ht (fun w1 h1 o1 => ?_))
  show Zw _ _ _ 7 [_] [_] _ _
  refine zw_ireturn .int dX8_clear_7 rfl rfl (Nat.le_refl _) (Nat.le_refl _) ?_
  exact k w1 (h.tx o1 h1) (o1.wd (by decide) (by decide))
theorem l_forget {x : Int32} (h : isS w C I0 I1 len bt fa fb ki bd no fu) (kB : ¬ (0 ≤ x ∧ x ≤ 2) → ∀ w', isS w' C I0 I1 len bt fa fb ki (bd + 1) no fu → zOff 0 74 w w' → Q (some (.int (-2))) w') (k0 : x = 0 → ∀ w', isS w' (va_up C 3 (0, (C 3).2)) I0 I1 len bt fa fb ki bd no fu → zOff 0 74 w w' → Q (some (.int (nI (C 3).1))) w') (k1 : x = 1 → ∀ w', isS w' (va_up C 4 (0, (C 4).2)) I0 I1 len bt fa fb ki bd no fu → zOff 0 74 w w' → Q (some (.int (nI (C 4).1))) w') (k2 : x = 2 → ∀ w', isS w' (va_up C 2 (0, (C 2).2)) I0 I1 len bt fa fb ki bd no fu → zOff 0 74 w w' → Q (some (.int (nI (C 2).1))) w') : Zm (d + 1) mX8_forget 0 0 [.ref 0, .int x] w Q := by
  refine zm_intro [_, _] oX8_forget (Nat.le_of_ble_eq_true rfl) rfl ?_
  refine zw_iload_n dX8_forget_0 rfl ?_
  by_cases h0 : x = 0
  · have kk0 := k0 h0
    subst h0
    refine zw_tableIn 28 dX8_forget_1 (by decide) (by decide) (off := 27) (by decide) (by decide) ?_
    refine zw_aload_n dX8_forget_28 rfl ?_
    refine zw_get dX8_forget_29 fX8_12 h.1 rfl ?_
    refine zw_get dX8_forget_32 fX8_234 h.2.1.1 rfl ?_
    refine zw_cV0 dX8_forget_35 oX6_drop kX6_drop lX8_246 h.2.1.2.2.2.2.1.1 rfl (Nat.le_of_ble_eq_true rfl) rfl (t_drop h.2.1.2.2.2.2.1 (fun w1 t1 o1 => ?_))
    show Zw _ _ _ 38 [_, _] [_] _ _
    refine zw_ireturn .int dX8_forget_38 rfl rfl (Nat.le_refl _) (Nat.le_refl _) ?_
    exact kk0 w1 (h.now (o1.wd (by decide) (by decide)) (h.2.1.s3 o1 t1)) (o1.wd (by decide) (by decide))
  · by_cases h1 : x = 1
    · have kk1 := k1 h1
      subst h1
      refine zw_tableIn 39 dX8_forget_1 (by decide) (by decide) (off := 38) (by decide) (by decide) ?_
      refine zw_aload_n dX8_forget_39 rfl ?_
      refine zw_get dX8_forget_40 fX8_12 h.1 rfl ?_
      refine zw_get dX8_forget_43 fX8_247 h.2.1.1 rfl ?_
      refine zw_cV0 dX8_forget_46 oX6_drop kX6_drop lX8_246 h.2.1.2.2.2.2.2.1.1 rfl (Nat.le_of_ble_eq_true rfl) rfl (t_drop h.2.1.2.2.2.2.2.1 (fun w1 t1 o1 => ?_))
      show Zw _ _ _ 49 [_, _] [_] _ _
      refine zw_ireturn .int dX8_forget_49 rfl rfl (Nat.le_refl _) (Nat.le_refl _) ?_
      exact kk1 w1 (h.now (o1.wd (by decide) (by decide)) (h.2.1.s4 o1 t1)) (o1.wd (by decide) (by decide))
    · by_cases h2 : x = 2
      · have kk2 := k2 h2
        subst h2
        refine zw_tableIn 50 dX8_forget_1 (by decide) (by decide) (off := 49) (by decide) (by decide) ?_
        refine zw_aload_n dX8_forget_50 rfl ?_
        refine zw_get dX8_forget_51 fX8_12 h.1 rfl ?_
        refine zw_get dX8_forget_54 fX8_209 h.2.1.1 rfl ?_
        refine zw_cV0 dX8_forget_57 oX6_drop kX6_drop lX8_246 h.2.1.2.2.2.1.1 rfl (Nat.le_of_ble_eq_true rfl) rfl (t_drop h.2.1.2.2.2.1 (fun w1 t1 o1 => ?_))
        show Zw _ _ _ 60 [_, _] [_] _ _
        refine zw_ireturn .int dX8_forget_60 rfl rfl (Nat.le_refl _) (Nat.le_refl _) ?_
        exact kk2 w1 (h.now (o1.wd (by decide) (by decide)) (h.2.1.s2 o1 t1)) (o1.wd (by decide) (by decide))
      · have hb : ¬ (0 ≤ x ∧ x ≤ 2) := by
          intro z
          obtain ⟨j, hj, e⟩ := nI_of2 (M := 2) (n := 2) (by decide) (Int32.not_lt.mpr z.1) z.2
          have : j = 0 ∨ j = 1 ∨ j = 2 := by omega
          rcases this with rfl | rfl | rfl
          · exact h0 e
          · exact h1 e
          · exact h2 e
        have hr : x.toInt < 0 ∨ 2 < x.toInt := by
          rcases Int.lt_or_le x.toInt 0 with q | q
          · exact Or.inl q
          · rcases Int.lt_or_le 2 x.toInt with r | r
            · exact Or.inr r
            · exact absurd ⟨Int32.le_iff_toInt_le.mpr (by simpa using q), Int32.le_iff_toInt_le.mpr (by simpa using r)⟩ hb
        refine zw_tableOut 61 dX8_forget_1 hr (by decide) ?_
        refine zw_aload_n dX8_forget_61 rfl ?_
        refine zw_bipush dX8_forget_62 (-2) (by decide) ?_
        refine zw_cV1 dX8_forget_64 oX8_told kX8_told lX8_71 h.1 rfl (Nat.le_of_ble_eq_true rfl) rfl (x_toldB h (fun w1 h1 o1 => ?_))
        show Zw _ _ _ 67 [_, _] [_] _ _
        refine zw_ireturn .int dX8_forget_67 rfl rfl (Nat.le_refl _) (Nat.le_refl _) ?_
        exact kB hb w1 h1 o1
theorem l_part {x : Int32} (h : isS w C I0 I1 len bt fa fb ki bd no fu) (kB : ¬ x = 0 → ¬ x = 1 → ∀ w', isS w' C I0 I1 len bt fa fb ki (bd + 1) no fu → zOff 0 74 w w' → Q (some (.long (-2))) w') (k0 : x = 0 → Q (some (.long fa)) w) (k1 : x = 1 → Q (some (.long fb)) w) : Zm (d + 1) mX8_part 0 0 [.ref 0, .int x] w Q := by
  have hf := h.2.2.2.2.2.2.2.2.2.2
  refine zm_intro [_, _] oX8_part (Nat.le_of_ble_eq_true rfl) rfl ?_
  refine zw_iload_n dX8_part_0 rfl ?_
  by_cases h0 : x = 0
  · have kk0 := k0 h0
    subst h0
    refine zw_lookup 28 dX8_part_1 (by decide) (off := 27) (by decide) (by decide) ?_
    refine zw_aload_n dX8_part_28 rfl ?_
    refine zw_get dX8_part_29 fX8_63 h.1 rfl ?_
    refine zw_get dX8_part_32 fX8_264 hf rfl ?_
    refine zw_lreturn dX8_part_35 rfl (Nat.le_refl _) (Nat.le_refl _) ?_
    exact kk0
  · by_cases h1 : x = 1
    · have kk1 := k1 h1
      subst h1
      refine zw_lookup 36 dX8_part_1 (by decide) (off := 35) (by decide) (by decide) ?_
      refine zw_aload_n dX8_part_36 rfl ?_
      refine zw_get dX8_part_37 fX8_63 h.1 rfl ?_
      refine zw_get dX8_part_40 fX8_268 hf rfl ?_
      refine zw_lreturn dX8_part_43 rfl (Nat.le_refl _) (Nat.le_refl _) ?_
      exact kk1
    · have ho : Op.lookupswitch.offset [((0 : Int), (27 : Int)), (1, 35)] 43 x.toInt = 43 := by
        rw [lv_osw (k := 0) h0 (by decide), lv_osw (k := 1) h1 (by decide)]
        rfl
      refine zw_lookup 44 dX8_part_1 (by decide) (off := 43) ho (by decide) ?_
      refine zw_aload_n dX8_part_44 rfl ?_
      refine zw_bipush dX8_part_45 (-2) (by decide) ?_
      refine zw_cV1 dX8_part_47 oX8_told kX8_told lX8_71 h.1 rfl (Nat.le_of_ble_eq_true rfl) rfl (x_toldB h (fun w1 h1 o1 => ?_))
      show Zw _ _ _ 50 [_, _] [_] _ _
      refine zw_i2l dX8_part_50 ?_
      refine zw_lreturn dX8_part_51 rfl (Nat.le_refl _) (Nat.le_refl _) ?_
      exact kB h0 (by assumption) w1 h1 o1
theorem l_status {x : Int32} (h : isS w C I0 I1 len bt fa fb ki bd no fu) (kB : ¬ (0 ≤ x ∧ x ≤ 2) → ∀ w', isS w' C I0 I1 len bt fa fb ki (bd + 1) no fu → zOff 0 74 w w' → Q (some (.int (-1))) w') (k0 : x = 0 → Q (some (.int bd)) w) (k1 : x = 1 → Q (some (.int no)) w) (k2 : x = 2 → Q (some (.int fu)) w) : Zm (d + 1) mX8_status 0 0 [.ref 0, .int x] w Q := by
  refine zm_intro [_, _] oX8_status (Nat.le_of_ble_eq_true rfl) rfl ?_
  refine zw_iload_n dX8_status_0 rfl ?_
  by_cases h0 : x = 0
  · have kk0 := k0 h0
    subst h0
    refine zw_tableIn 28 dX8_status_1 (by decide) (by decide) (off := 27) (by decide) (by decide) ?_
    refine zw_aload_n dX8_status_28 rfl ?_
    refine zw_get dX8_status_29 fX8_279 h.1 rfl ?_
    refine zw_ireturn .int dX8_status_32 rfl rfl (Nat.le_refl _) (Nat.le_refl _) ?_
    exact kk0
  · by_cases h1 : x = 1
    · have kk1 := k1 h1
      subst h1
      refine zw_tableIn 33 dX8_status_1 (by decide) (by decide) (off := 32) (by decide) (by decide) ?_
      refine zw_aload_n dX8_status_33 rfl ?_
      refine zw_get dX8_status_34 fX8_282 h.1 rfl ?_
      refine zw_ireturn .int dX8_status_37 rfl rfl (Nat.le_refl _) (Nat.le_refl _) ?_
      exact kk1
    · by_cases h2 : x = 2
      · have kk2 := k2 h2
        subst h2
        refine zw_tableIn 38 dX8_status_1 (by decide) (by decide) (off := 37) (by decide) (by decide) ?_
        refine zw_aload_n dX8_status_38 rfl ?_
        refine zw_get dX8_status_39 fX8_285 h.1 rfl ?_
        refine zw_ireturn .int dX8_status_42 rfl rfl (Nat.le_refl _) (Nat.le_refl _) ?_
        exact kk2
      · have hb : ¬ (0 ≤ x ∧ x ≤ 2) := by
          intro z
          obtain ⟨j, hj, e⟩ := nI_of2 (M := 2) (n := 2) (by decide) (Int32.not_lt.mpr z.1) z.2
          have : j = 0 ∨ j = 1 ∨ j = 2 := by omega
          rcases this with rfl | rfl | rfl
          · exact h0 e
          · exact h1 e
          · exact h2 e
        have hr : x.toInt < 0 ∨ 2 < x.toInt := by
          rcases Int.lt_or_le x.toInt 0 with q | q
          · exact Or.inl q
          · rcases Int.lt_or_le 2 x.toInt with r | r
            · exact Or.inr r
            · exact absurd ⟨Int32.le_iff_toInt_le.mpr (by simpa using q), Int32.le_iff_toInt_le.mpr (by simpa using r)⟩ hb
        refine zw_tableOut 43 dX8_status_1 hr (by decide) ?_
        refine zw_aload_n dX8_status_43 rfl ?_
        refine zw_bipush dX8_status_44 (-2) (by decide) ?_
        refine zw_cV1 dX8_status_46 oX8_told kX8_told lX8_71 h.1 rfl (Nat.le_of_ble_eq_true rfl) rfl (x_toldB h (fun w1 h1 o1 => ?_))
        show Zw _ _ _ 49 [_, _] [_] _ _
        refine zw_pop dX8_status_49 rfl ?_
        refine zw_iconst dX8_status_50 (-1) (by decide) ?_
        refine zw_ireturn .int dX8_status_51 rfl rfl (Nat.le_refl _) (Nat.le_refl _) ?_
        exact kB hb w1 h1 o1
/-- how many there are of each -/
def howN (C : Cup) (len j : Nat) : Nat := match j with
  | 0 => (C 0).1
  | 1 => (C 1).1
  | 2 => cnt (fun b => !decide ((C 0).2 (b * 5 + 4) = -1)) 0 (C 0).1
  | 3 => (C 2).1
  | 4 => (C 3).1
  | 5 => (C 4).1
  | 6 => (C 5).1
  | _ => len
theorem x_howMany {j : Nat} (hj : j < 8) (h : isS w C I0 I1 len bt fa fb ki bd no fu) (k : Q (some (.int (nI (howN C len j)))) w) : Zm (d + 3) mX8_howMany 0 0 [.ref 0, .int (nI j)] w Q := by
  obtain ⟨nm, st, en, tk, va, iw, ht⟩ := h.2.2.2.2.2.1
  refine zm_intro [_, _] oX8_howMany (Nat.le_of_ble_eq_true rfl) rfl ?_
  refine zw_iload_n dX8_howMany_0 rfl ?_
  have h8 : j = 0 ∨ j = 1 ∨ j = 2 ∨ j = 3 ∨ j = 4 ∨ j = 5 ∨ j = 6 ∨ j = 7 := by omega
  rcases h8 with rfl | rfl | rfl | rfl | rfl | rfl | rfl | rfl
  · refine zw_tableIn 48 dX8_howMany_1 (by decide) (by decide) (off := 47) (by decide) (by decide) ?_
    refine zw_aload_n dX8_howMany_48 rfl ?_
    refine zw_get dX8_howMany_49 fX8_12 h.1 rfl ?_
    refine zw_get dX8_howMany_52 fX8_89 h.2.1.1 rfl ?_
    refine zw_cV0 dX8_howMany_55 oX6_size kX6_size lX8_181 h.2.1.2.1.1 rfl (Nat.le_of_ble_eq_true rfl) rfl (t_size h.2.1.2.1 ?_)
    show Zw _ _ _ 58 [_, _] [_] _ _
    refine zw_ireturn .int dX8_howMany_58 rfl rfl (Nat.le_refl _) (Nat.le_refl _) ?_
    exact k
  · refine zw_tableIn 59 dX8_howMany_1 (by decide) (by decide) (off := 58) (by decide) (by decide) ?_
    refine zw_aload_n dX8_howMany_59 rfl ?_
    refine zw_get dX8_howMany_60 fX8_12 h.1 rfl ?_
    refine zw_get dX8_howMany_63 fX8_178 h.2.1.1 rfl ?_
    refine zw_cV0 dX8_howMany_66 oX6_size kX6_size lX8_181 h.2.1.2.2.1.1 rfl (Nat.le_of_ble_eq_true rfl) rfl (t_size h.2.1.2.2.1 ?_)
    show Zw _ _ _ 69 [_, _] [_] _ _
    refine zw_ireturn .int dX8_howMany_69 rfl rfl (Nat.le_refl _) (Nat.le_refl _) ?_
    exact k
  · refine zw_tableIn 70 dX8_howMany_1 (by decide) (by decide) (off := 69) (by decide) (by decide) ?_
    refine zw_aload_n dX8_howMany_70 rfl ?_
    refine zw_get dX8_howMany_71 fX8_12 h.1 rfl ?_
    refine zw_cV0 dX8_howMany_74 oX1_lidsInUse kX1_lidsInUse lX8_299 h.2.1.1 rfl (Nat.le_of_ble_eq_true rfl) rfl (c_lidsInUse h.2.1 ?_)
    show Zw _ _ _ 77 [_, _] [_] _ _
    refine zw_ireturn .int dX8_howMany_77 rfl rfl (Nat.le_refl _) (Nat.le_refl _) ?_
    exact k
  · refine zw_tableIn 78 dX8_howMany_1 (by decide) (by decide) (off := 77) (by decide) (by decide) ?_
    refine zw_aload_n dX8_howMany_78 rfl ?_
    refine zw_get dX8_howMany_79 fX8_12 h.1 rfl ?_
    refine zw_get dX8_howMany_82 fX8_209 h.2.1.1 rfl ?_
    refine zw_cV0 dX8_howMany_85 oX6_size kX6_size lX8_181 h.2.1.2.2.2.1.1 rfl (Nat.le_of_ble_eq_true rfl) rfl (t_size h.2.1.2.2.2.1 ?_)
    show Zw _ _ _ 88 [_, _] [_] _ _
    refine zw_ireturn .int dX8_howMany_88 rfl rfl (Nat.le_refl _) (Nat.le_refl _) ?_
    exact k
  · refine zw_tableIn 89 dX8_howMany_1 (by decide) (by decide) (off := 88) (by decide) (by decide) ?_
    refine zw_aload_n dX8_howMany_89 rfl ?_
    refine zw_get dX8_howMany_90 fX8_12 h.1 rfl ?_
    refine zw_get dX8_howMany_93 fX8_234 h.2.1.1 rfl ?_
    refine zw_cV0 dX8_howMany_96 oX6_size kX6_size lX8_181 h.2.1.2.2.2.2.1.1 rfl (Nat.le_of_ble_eq_true rfl) rfl (t_size h.2.1.2.2.2.2.1 ?_)
    show Zw _ _ _ 99 [_, _] [_] _ _
    refine zw_ireturn .int dX8_howMany_99 rfl rfl (Nat.le_refl _) (Nat.le_refl _) ?_
    exact k
  · refine zw_tableIn 100 dX8_howMany_1 (by decide) (by decide) (off := 99) (by decide) (by decide) ?_
    refine zw_aload_n dX8_howMany_100 rfl ?_
    refine zw_get dX8_howMany_101 fX8_12 h.1 rfl ?_
    refine zw_get dX8_howMany_104 fX8_247 h.2.1.1 rfl ?_
    refine zw_cV0 dX8_howMany_107 oX6_size kX6_size lX8_181 h.2.1.2.2.2.2.2.1.1 rfl (Nat.le_of_ble_eq_true rfl) rfl (t_size h.2.1.2.2.2.2.2.1 ?_)
    show Zw _ _ _ 110 [_, _] [_] _ _
    refine zw_ireturn .int dX8_howMany_110 rfl rfl (Nat.le_refl _) (Nat.le_refl _) ?_
    exact k
  · refine zw_tableIn 111 dX8_howMany_1 (by decide) (by decide) (off := 110) (by decide) (by decide) ?_
    refine zw_aload_n dX8_howMany_111 rfl ?_
    refine zw_get dX8_howMany_112 fX8_12 h.1 rfl ?_
    refine zw_get dX8_howMany_115 fX8_302 h.2.1.1 rfl ?_
    refine zw_cV0 dX8_howMany_118 oX6_size kX6_size lX8_181 h.2.1.2.2.2.2.2.2.1 rfl (Nat.le_of_ble_eq_true rfl) rfl (t_size h.2.1.2.2.2.2.2.2 ?_)
    show Zw _ _ _ 121 [_, _] [_] _ _
    refine zw_ireturn .int dX8_howMany_121 rfl rfl (Nat.le_refl _) (Nat.le_refl _) ?_
    exact k
  · refine zw_tableIn 122 dX8_howMany_1 (by decide) (by decide) (off := 121) (by decide) (by decide) ?_
    refine zw_aload_n dX8_howMany_122 rfl ?_
    refine zw_get dX8_howMany_123 fX8_28 h.1 rfl ?_
    refine zw_cV0 dX8_howMany_126 oX7_size kX7_size lX8_305 ht.1 rfl (Nat.le_of_ble_eq_true rfl) rfl (x_size ht ?_)
    show Zw _ _ _ 129 [_, _] [_] _ _
    refine zw_ireturn .int dX8_howMany_129 rfl rfl (Nat.le_refl _) (Nat.le_refl _) ?_
    exact k
theorem l_count {x : Int32} (h : isS w C I0 I1 len bt fa fb ki bd no fu) (kB : (∀ j, j < 8 → ¬ x = nI j) → ∀ w', isS w' C I0 I1 len bt fa fb ki (bd + 1) no fu → zOff 0 74 w w' → Q (some (.int (-2))) w') (hsm : ∀ j, j < 8 → howN C len j < 1000) (kA : ∀ j, j < 8 → x = nI j → Q (some (.int (nI (howN C len j)))) w) : Zm (d + 4) mX8_count 0 0 [.ref 0, .int x] w Q := by
  refine zm_intro [_, _] oX8_count (Nat.le_of_ble_eq_true rfl) rfl ?_
  refine zw_aload_n dX8_count_0 rfl ?_
  refine zw_aload_n dX8_count_1 rfl ?_
  refine zw_iload_n dX8_count_2 rfl ?_
  by_cases hx : ∃ j, j < 8 ∧ x = nI j
  · obtain ⟨j, hj, e⟩ := hx
    have kkA := kA j hj e
    have hs := hsm j hj
    subst e
    refine zw_cV1 dX8_count_3 oX8_howMany kX8_howMany lX8_288 h.1 rfl (Nat.le_of_ble_eq_true rfl) rfl (x_howMany hj h ?_)
    show Zw _ _ _ 6 [_, _] [_, _] _ _
    refine zw_cV1 dX8_count_6 oX8_told kX8_told lX8_71 h.1 rfl (Nat.le_of_ble_eq_true rfl) rfl (x_told0 (nI_pos' (by omega)) ?_)
    show Zw _ _ _ 9 [_, _] [_] _ _
    refine zw_ireturn .int dX8_count_9 rfl rfl (Nat.le_refl _) (Nat.le_refl _) ?_
    exact kkA
  · have hb : ∀ j, j < 8 → ¬ x = nI j := fun j hj e => hx ⟨j, hj, e⟩
    have hr : x.toInt < 0 ∨ 7 < x.toInt := by
      rcases Int.lt_or_le x.toInt 0 with q | q
      · exact Or.inl q
      · rcases Int.lt_or_le 7 x.toInt with r | r
        · exact Or.inr r
        · obtain ⟨j, hj, e⟩ := nI_of2 (x := x) (M := 7) (n := 7) (by decide) (Int32.not_lt.mpr (Int32.le_iff_toInt_le.mpr (by simpa using q))) (Int32.le_iff_toInt_le.mpr (by simpa using r))
          exact absurd e (hb j (by omega))
    have hm : ∀ Q, Q (some (.int (-2))) w → Zm (d + 3) mX8_howMany 0 0 [.ref 0, .int x] w Q := by
      intro Q k
      refine zm_intro [_, _] oX8_howMany (Nat.le_of_ble_eq_true rfl) rfl ?_
      refine zw_iload_n dX8_howMany_0 rfl ?_
      refine zw_tableOut 130 dX8_howMany_1 hr (by decide) ?_
      refine zw_bipush dX8_howMany_130 (-2) (by decide) ?_
      refine zw_ireturn .int dX8_howMany_132 rfl rfl (Nat.le_refl _) (Nat.le_refl _) ?_
      exact k
    refine zw_cV1 dX8_count_3 oX8_howMany kX8_howMany lX8_288 h.1 rfl (Nat.le_of_ble_eq_true rfl) rfl (hm _ ?_)
    show Zw _ _ _ 6 [_, _] [_, _] _ _
    refine zw_cV1 dX8_count_6 oX8_told kX8_told lX8_71 h.1 rfl (Nat.le_of_ble_eq_true rfl) rfl (x_toldB h (fun w1 h1 o1 => ?_))
    show Zw _ _ _ 9 [_, _] [_] _ _
    refine zw_ireturn .int dX8_count_9 rfl rfl (Nat.le_refl _) (Nat.le_refl _) ?_
    exact kB hb w1 h1 o1
def digF (C : Cup) (len j k : Nat) (h : Int64) : Int64 := match k with
  | 0 => h
  | k + 1 => digF C len (j + 1) k (31 * h + (nI (howN C len j)).toInt64)
theorem l_digestL (h : isS w C I0 I1 len bt fa fb ki bd no fu) : ∀ (k j : Nat) (x : Int64), j + k = 8 → Zw (d + 4) mX8_digest z0 31 [some (.ref 0), some (.long (digF C len j k x)), none, some (.int (nI 8))] [] w Q → Zw (d + 4) mX8_digest z0 6 [some (.ref 0), some (.long x), none, some (.int (nI j))] [] w Q := by
  intro k
  induction k with
  | zero =>
    intro j x hj kk
    have e : j = 8 := by omega
    subst e
    refine zw_iload_n dX8_digest_6 rfl ?_
    refine zw_bipush dX8_digest_7 7 (by decide) ?_
    refine zw_icmp_gt 31 dX8_digest_9 (by decide) (fun _ => ?_) (fun hz => absurd (by decide) hz)
    exact kk
  | succ k ih =>
    intro j x hj kk
    refine zw_iload_n dX8_digest_6 rfl ?_
    refine zw_bipush dX8_digest_7 7 (by decide) ?_
    refine zw_icmp_gt 31 dX8_digest_9 (by decide) (fun hz => absurd hz (nI_nlt (a := 7) (b := j) (by omega) (by decide))) (fun _ => ?_)
    refine zw_ldc2 dX8_digest_12 qX8_293 ?_
    refine zw_lload_n dX8_digest_15 rfl ?_
    refine zw_lmul dX8_digest_16 ?_
    refine zw_aload_n dX8_digest_17 rfl ?_
    refine zw_iload_n dX8_digest_18 rfl ?_
    refine zw_cV1 dX8_digest_19 oX8_howMany kX8_howMany lX8_288 h.1 rfl (Nat.le_of_ble_eq_true rfl) rfl (x_howMany (by omega) h ?_)
    show Zw _ _ _ 22 [_, _, _, _] [_, _] _ _
    refine zw_i2l dX8_digest_22 ?_
    refine zw_ladd dX8_digest_23 ?_
    refine zw_lstore_n [_, _, _, _] dX8_digest_24 (Nat.le_of_ble_eq_true rfl) rfl ?_
    refine zw_iinc (nI (j + 1)) [_, _, _, _] dX8_digest_25 rfl (nI_1 j) rfl ?_
    refine zw_goto 6 dX8_digest_28 (by decide) ?_
    exact ih (j + 1) _ (by omega) kk
def cDig (C : Cup) (len : Nat) (fa fb : Int64) : Int64 := 31 * (31 * mixL (C 4).2 0 ((C 4).1 * 3) (mixL (C 3).2 0 ((C 3).1 * 3) (mixL (C 2).2 0 ((C 2).1 * 4) (mixL (C 1).2 0 ((C 1).1 * 4) (mixL (C 0).2 0 ((C 0).1 * 5) (digF C len 0 8 857))))) + fa) + fb
theorem l_digest (h : isS w C I0 I1 len bt fa fb ki bd no fu) (k : Q (some (.long (cDig C len fa fb))) w) : Zm (d + 4) mX8_digest 0 0 [.ref 0] w Q := by
  have hf := h.2.2.2.2.2.2.2.2.2.2
  refine zm_intro [_, _, _, _] oX8_digest (Nat.le_of_ble_eq_true rfl) rfl ?_
  refine zw_ldc2 dX8_digest_0 qX8_291 ?_
  refine zw_lstore_n [_, _, _, _] dX8_digest_3 (Nat.le_of_ble_eq_true rfl) rfl ?_
  refine zw_iconst dX8_digest_4 0 (by decide) ?_
  refine zw_istore_n [_, _, _, _] dX8_digest_5 (Nat.le_of_ble_eq_true rfl) rfl ?_
  refine l_digestL h 8 0 857 (by decide) ?_
  refine zw_aload_n dX8_digest_31 rfl ?_
  refine zw_get dX8_digest_32 fX8_12 h.1 rfl ?_
  refine zw_get dX8_digest_35 fX8_89 h.2.1.1 rfl ?_
  refine zw_lload_n dX8_digest_38 rfl ?_
  refine zw_cV1 dX8_digest_39 oX6_mixedInto kX6_mixedInto lX8_295 h.2.1.2.1.1 rfl (Nat.le_of_ble_eq_true rfl) rfl (t_mixedInto h.2.1.2.1 ?_)
  show Zw _ _ _ 42 [_, _, _, _] [_] _ _
  refine zw_lstore_n [_, _, _, _] dX8_digest_42 (Nat.le_of_ble_eq_true rfl) rfl ?_
  refine zw_aload_n dX8_digest_43 rfl ?_
  refine zw_get dX8_digest_44 fX8_12 h.1 rfl ?_
  refine zw_get dX8_digest_47 fX8_178 h.2.1.1 rfl ?_
  refine zw_lload_n dX8_digest_50 rfl ?_
  refine zw_cV1 dX8_digest_51 oX6_mixedInto kX6_mixedInto lX8_295 h.2.1.2.2.1.1 rfl (Nat.le_of_ble_eq_true rfl) rfl (t_mixedInto h.2.1.2.2.1 ?_)
  show Zw _ _ _ 54 [_, _, _, _] [_] _ _
  refine zw_lstore_n [_, _, _, _] dX8_digest_54 (Nat.le_of_ble_eq_true rfl) rfl ?_
  refine zw_aload_n dX8_digest_55 rfl ?_
  refine zw_get dX8_digest_56 fX8_12 h.1 rfl ?_
  refine zw_get dX8_digest_59 fX8_209 h.2.1.1 rfl ?_
  refine zw_lload_n dX8_digest_62 rfl ?_
  refine zw_cV1 dX8_digest_63 oX6_mixedInto kX6_mixedInto lX8_295 h.2.1.2.2.2.1.1 rfl (Nat.le_of_ble_eq_true rfl) rfl (t_mixedInto h.2.1.2.2.2.1 ?_)
  show Zw _ _ _ 66 [_, _, _, _] [_] _ _
  refine zw_lstore_n [_, _, _, _] dX8_digest_66 (Nat.le_of_ble_eq_true rfl) rfl ?_
  refine zw_aload_n dX8_digest_67 rfl ?_
  refine zw_get dX8_digest_68 fX8_12 h.1 rfl ?_
  refine zw_get dX8_digest_71 fX8_234 h.2.1.1 rfl ?_
  refine zw_lload_n dX8_digest_74 rfl ?_
  refine zw_cV1 dX8_digest_75 oX6_mixedInto kX6_mixedInto lX8_295 h.2.1.2.2.2.2.1.1 rfl (Nat.le_of_ble_eq_true rfl) rfl (t_mixedInto h.2.1.2.2.2.2.1 ?_)
  show Zw _ _ _ 78 [_, _, _, _] [_] _ _
  refine zw_lstore_n [_, _, _, _] dX8_digest_78 (Nat.le_of_ble_eq_true rfl) rfl ?_
  refine zw_aload_n dX8_digest_79 rfl ?_
  refine zw_get dX8_digest_80 fX8_12 h.1 rfl ?_
  refine zw_get dX8_digest_83 fX8_247 h.2.1.1 rfl ?_
  refine zw_lload_n dX8_digest_86 rfl ?_
  refine zw_cV1 dX8_digest_87 oX6_mixedInto kX6_mixedInto lX8_295 h.2.1.2.2.2.2.2.1.1 rfl (Nat.le_of_ble_eq_true rfl) rfl (t_mixedInto h.2.1.2.2.2.2.2.1 ?_)
  show Zw _ _ _ 90 [_, _, _, _] [_] _ _
  refine zw_lstore_n [_, _, _, _] dX8_digest_90 (Nat.le_of_ble_eq_true rfl) rfl ?_
  refine zw_ldc2 dX8_digest_91 qX8_293 ?_
  refine zw_lload_n dX8_digest_94 rfl ?_
  refine zw_lmul dX8_digest_95 ?_
  refine zw_aload_n dX8_digest_96 rfl ?_
  refine zw_get dX8_digest_97 fX8_63 h.1 rfl ?_
  refine zw_get dX8_digest_100 fX8_264 hf rfl ?_
  refine zw_ladd dX8_digest_103 ?_
  refine zw_lstore_n [_, _, _, _] dX8_digest_104 (Nat.le_of_ble_eq_true rfl) rfl ?_
  refine zw_ldc2 dX8_digest_105 qX8_293 ?_
  refine zw_lload_n dX8_digest_108 rfl ?_
  refine zw_lmul dX8_digest_109 ?_
  refine zw_aload_n dX8_digest_110 rfl ?_
  refine zw_get dX8_digest_111 fX8_63 h.1 rfl ?_
  refine zw_get dX8_digest_114 fX8_268 hf rfl ?_
  refine zw_ladd dX8_digest_117 ?_
  refine zw_lreturn dX8_digest_118 rfl (Nat.le_refl _) (Nat.le_refl _) ?_
  exact k
end ZL2
