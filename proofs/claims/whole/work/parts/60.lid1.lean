/-! ===== LidForEach: the calls, first part ===== -/
section ZL1
variable {d : Nat} {w : ZW} {C I0 I1 : Cup} {len : Nat} {bt : Nat → Int32} {fa fb : Int64} {ki bd no fu : Int32} {Q : Option Value → ZW → Prop}
theorem x_toldB (h : isS w C I0 I1 len bt fa fb ki bd no fu) (k : ∀ w', isS w' C I0 I1 len bt fa fb ki (bd + 1) no fu → zOff 0 74 w w' → Q (some (.int (-2))) w') : Zm d mX8_told 0 0 [.ref 0, .int (-2)] w Q := by
  refine zm_intro [_, _] oX8_told (Nat.le_of_ble_eq_true rfl) rfl ?_
  refine zw_iload_n dX8_told_0 rfl ?_
  refine zw_tableIn 28 dX8_told_1 (by decide) (by decide) (off := 27) (by decide) (by decide) ?_
  refine zw_aload_n dX8_told_28 rfl ?_
  refine zw_dup dX8_told_29 rfl ?_
  refine zw_get dX8_told_30 fX8_279 h.1 rfl ?_
  refine zw_iconst dX8_told_33 1 (by decide) ?_
  refine zw_iadd dX8_told_34 ?_
  refine zw_put dX8_told_35 pX8_279 h.1 (fun _ => rfl) (fun _ => rfl) (Nat.le_of_ble_eq_true rfl) ?_
  refine zw_goto 67 dX8_told_38 (by decide) ?_
  refine zw_iload_n dX8_told_67 rfl ?_
  refine zw_ireturn .int dX8_told_68 rfl rfl (Nat.le_refl _) (Nat.le_refl _) ?_
  exact k _ (h.obj (zOff.pt (by decide) (by decide)) h.1.self) (zOff.pt (by decide) (by decide))
theorem x_toldN (h : isS w C I0 I1 len bt fa fb ki bd no fu) (k : ∀ w', isS w' C I0 I1 len bt fa fb ki bd (no + 1) fu → zOff 0 74 w w' → Q (some (.int (-3))) w') : Zm d mX8_told 0 0 [.ref 0, .int (-3)] w Q := by
  refine zm_intro [_, _] oX8_told (Nat.le_of_ble_eq_true rfl) rfl ?_
  refine zw_iload_n dX8_told_0 rfl ?_
  refine zw_tableIn 41 dX8_told_1 (by decide) (by decide) (off := 40) (by decide) (by decide) ?_
  refine zw_aload_n dX8_told_41 rfl ?_
  refine zw_dup dX8_told_42 rfl ?_
  refine zw_get dX8_told_43 fX8_282 h.1 rfl ?_
  refine zw_iconst dX8_told_46 1 (by decide) ?_
  refine zw_iadd dX8_told_47 ?_
  refine zw_put dX8_told_48 pX8_282 h.1 (fun _ => rfl) (fun _ => rfl) (Nat.le_of_ble_eq_true rfl) ?_
  refine zw_goto 67 dX8_told_51 (by decide) ?_
  refine zw_iload_n dX8_told_67 rfl ?_
  refine zw_ireturn .int dX8_told_68 rfl rfl (Nat.le_refl _) (Nat.le_refl _) ?_
  exact k _ (h.obj (zOff.pt (by decide) (by decide)) h.1.self) (zOff.pt (by decide) (by decide))
theorem x_toldF (h : isS w C I0 I1 len bt fa fb ki bd no fu) (k : ∀ w', isS w' C I0 I1 len bt fa fb ki bd no (fu + 1) → zOff 0 74 w w' → Q (some (.int (-4))) w') : Zm d mX8_told 0 0 [.ref 0, .int (-4)] w Q := by
  refine zm_intro [_, _] oX8_told (Nat.le_of_ble_eq_true rfl) rfl ?_
  refine zw_iload_n dX8_told_0 rfl ?_
  refine zw_tableIn 54 dX8_told_1 (by decide) (by decide) (off := 53) (by decide) (by decide) ?_
  refine zw_aload_n dX8_told_54 rfl ?_
  refine zw_dup dX8_told_55 rfl ?_
  refine zw_get dX8_told_56 fX8_285 h.1 rfl ?_
  refine zw_iconst dX8_told_59 1 (by decide) ?_
  refine zw_iadd dX8_told_60 ?_
  refine zw_put dX8_told_61 pX8_285 h.1 (fun _ => rfl) (fun _ => rfl) (Nat.le_of_ble_eq_true rfl) ?_
  refine zw_goto 67 dX8_told_64 (by decide) ?_
  refine zw_iload_n dX8_told_67 rfl ?_
  refine zw_ireturn .int dX8_told_68 rfl rfl (Nat.le_refl _) (Nat.le_refl _) ?_
  exact k _ (h.obj (zOff.pt (by decide) (by decide)) h.1.self) (zOff.pt (by decide) (by decide))
theorem x_told0 {v : Int32} (hv : 0 ≤ v) (k : Q (some (.int v)) w) : Zm d mX8_told 0 0 [.ref 0, .int v] w Q := by
  refine zm_intro [_, _] oX8_told (Nat.le_of_ble_eq_true rfl) rfl ?_
  refine zw_iload_n dX8_told_0 rfl ?_
  refine zw_tableOut 67 dX8_told_1 (Or.inr (by have := Int32.le_iff_toInt_le.mp hv; simp at this; omega)) (by decide) ?_
  refine zw_iload_n dX8_told_67 rfl ?_
  refine zw_ireturn .int dX8_told_68 rfl rfl (Nat.le_refl _) (Nat.le_refl _) ?_
  exact k
theorem x_bad10 (h : isS w C I0 I1 len bt fa fb ki bd no fu) (k : ∀ w', isS w' C I0 I1 len bt fa fb ki (bd + 1) no fu → zOff 0 74 w w' → Q (some (.int (-10))) w') : Zm (d + 1) mX8_badToldApart 0 0 [.ref 0] w Q := by
  refine zm_intro [_] oX8_badToldApart (Nat.le_of_ble_eq_true rfl) rfl ?_
  refine zw_aload_n dX8_badToldApart_0 rfl ?_
  refine zw_bipush dX8_badToldApart_1 (-2) (by decide) ?_
  refine zw_cV1 dX8_badToldApart_3 oX8_told kX8_told lX8_71 h.1 rfl (Nat.le_of_ble_eq_true rfl) rfl (x_toldB h (fun w1 h1 o1 => ?_))
  show Zw _ _ _ 6 [_] [_] _ _
  refine zw_pop dX8_badToldApart_6 rfl ?_
  refine zw_bipush dX8_badToldApart_7 (-10) (by decide) ?_
  refine zw_ireturn .int dX8_badToldApart_9 rfl rfl (Nat.le_refl _) (Nat.le_refl _) ?_
  exact k w1 h1 o1
theorem l_box {x y z : Int32} (h : isS w C I0 I1 len bt fa fb ki bd no fu) (kB : ¬ okBox x y z → ∀ w', isS w' C I0 I1 len bt fa fb ki (bd + 1) no fu → zOff 0 74 w w' → Q (some (.int (-2))) w') (kF : okBox x y z → (C 0).1 = 7 → ∀ w', isS w' C I0 I1 len bt fa fb ki bd no (fu + 1) → zOff 0 74 w w' → Q (some (.int (-4))) w') (kA : okBox x y z → (C 0).1 < 7 → ∀ w', isS w' (va_up (va_up C 0 ((C 0).1 + 1, row5 (C 0).2 (C 0).1 x y z 1 (-1))) 5 (0, (C 5).2)) I0 I1 len bt fa fb ki bd no fu → zOff 0 74 w w' → Q (some (.int (nI (C 0).1))) w') : Zm (d + 4) mX8_box 0 0 [.ref 0, .int x, .int y, .int z] w Q := by
  refine zm_intro [_, _, _, _] oX8_box (Nat.le_of_ble_eq_true rfl) rfl ?_
  refine zw_aload_n dX8_box_0 rfl ?_
  refine zw_aload_n dX8_box_1 rfl ?_
  refine zw_get dX8_box_2 fX8_12 h.1 rfl ?_
  refine zw_iload_n dX8_box_5 rfl ?_
  refine zw_iload_n dX8_box_6 rfl ?_
  refine zw_iload_n dX8_box_7 rfl ?_
  refine zw_cV3 dX8_box_8 oX1_addBox kX1_addBox lX8_67 h.2.1.1 rfl (Nat.le_of_ble_eq_true rfl) rfl (c_addBox h.2.1 (fun e => ?_) (fun e e2 => ?_) (fun e e2 w1 h1 o1 => ?_))
  · show Zw _ _ _ 11 [_, _, _, _] [_, _] _ _
    refine zw_cV1 dX8_box_11 oX8_told kX8_told lX8_71 h.1 rfl (Nat.le_of_ble_eq_true rfl) rfl (x_toldB h (fun w1 h1 o1 => ?_))
    show Zw _ _ _ 14 [_, _, _, _] [_] _ _
    refine zw_ireturn .int dX8_box_14 rfl rfl (Nat.le_refl _) (Nat.le_refl _) ?_
    exact kB e w1 h1 o1
  · show Zw _ _ _ 11 [_, _, _, _] [_, _] _ _
    refine zw_cV1 dX8_box_11 oX8_told kX8_told lX8_71 h.1 rfl (Nat.le_of_ble_eq_true rfl) rfl (x_toldF h (fun w1 h1 o1 => ?_))
    show Zw _ _ _ 14 [_, _, _, _] [_] _ _
    refine zw_ireturn .int dX8_box_14 rfl rfl (Nat.le_refl _) (Nat.le_refl _) ?_
    exact kF e e2 w1 h1 o1
  · show Zw _ _ _ 11 [_, _, _, _] [_, _] _ _
    have g := h.now o1 h1
    refine zw_cV1 dX8_box_11 oX8_told kX8_told lX8_71 g.1 rfl (Nat.le_of_ble_eq_true rfl) rfl (x_told0 (nI_pos' (by omega)) ?_)
    show Zw _ _ _ 14 [_, _, _, _] [_] _ _
    refine zw_ireturn .int dX8_box_14 rfl rfl (Nat.le_refl _) (Nat.le_refl _) ?_
    exact kA e e2 w1 g (o1.wd (by decide) (by decide))
theorem l_lid {x y z : Int32} (h : isS w C I0 I1 len bt fa fb ki bd no fu) (kB : ¬ okLid x y z → ∀ w', isS w' C I0 I1 len bt fa fb ki (bd + 1) no fu → zOff 0 74 w w' → Q (some (.int (-2))) w') (kF : okLid x y z → (C 1).1 = 7 → ∀ w', isS w' C I0 I1 len bt fa fb ki bd no (fu + 1) → zOff 0 74 w w' → Q (some (.int (-4))) w') (kA : okLid x y z → (C 1).1 < 7 → ∀ w', isS w' (va_up (va_up C 1 ((C 1).1 + 1, row4 (C 1).2 (C 1).1 x y z 5)) 5 (0, (C 5).2)) I0 I1 len bt fa fb ki bd no fu → zOff 0 74 w w' → Q (some (.int (nI (C 1).1))) w') : Zm (d + 4) mX8_lid 0 0 [.ref 0, .int x, .int y, .int z] w Q := by
  refine zm_intro [_, _, _, _] oX8_lid (Nat.le_of_ble_eq_true rfl) rfl ?_
  refine zw_aload_n dX8_lid_0 rfl ?_
  refine zw_aload_n dX8_lid_1 rfl ?_
  refine zw_get dX8_lid_2 fX8_12 h.1 rfl ?_
  refine zw_iload_n dX8_lid_5 rfl ?_
  refine zw_iload_n dX8_lid_6 rfl ?_
  refine zw_iload_n dX8_lid_7 rfl ?_
  refine zw_cV3 dX8_lid_8 oX1_addLid kX1_addLid lX8_75 h.2.1.1 rfl (Nat.le_of_ble_eq_true rfl) rfl (c_addLid h.2.1 (fun e => ?_) (fun e e2 => ?_) (fun e e2 w1 h1 o1 => ?_))
  · show Zw _ _ _ 11 [_, _, _, _] [_, _] _ _
    refine zw_cV1 dX8_lid_11 oX8_told kX8_told lX8_71 h.1 rfl (Nat.le_of_ble_eq_true rfl) rfl (x_toldB h (fun w1 h1 o1 => ?_))
    show Zw _ _ _ 14 [_, _, _, _] [_] _ _
    refine zw_ireturn .int dX8_lid_14 rfl rfl (Nat.le_refl _) (Nat.le_refl _) ?_
    exact kB e w1 h1 o1
  · show Zw _ _ _ 11 [_, _, _, _] [_, _] _ _
    refine zw_cV1 dX8_lid_11 oX8_told kX8_told lX8_71 h.1 rfl (Nat.le_of_ble_eq_true rfl) rfl (x_toldF h (fun w1 h1 o1 => ?_))
    show Zw _ _ _ 14 [_, _, _, _] [_] _ _
    refine zw_ireturn .int dX8_lid_14 rfl rfl (Nat.le_refl _) (Nat.le_refl _) ?_
    exact kF e e2 w1 h1 o1
  · show Zw _ _ _ 11 [_, _, _, _] [_, _] _ _
    have g := h.now o1 h1
    refine zw_cV1 dX8_lid_11 oX8_told kX8_told lX8_71 g.1 rfl (Nat.le_of_ble_eq_true rfl) rfl (x_told0 (nI_pos' (by omega)) ?_)
    show Zw _ _ _ 14 [_, _, _, _] [_] _ _
    refine zw_ireturn .int dX8_lid_14 rfl rfl (Nat.le_refl _) (Nat.le_refl _) ?_
    exact kA e e2 w1 g (o1.wd (by decide) (by decide))
theorem l_sort {x y z u : Int32} (h : isS w C I0 I1 len bt fa fb ki bd no fu) (kB : ¬ okSort x y z u → ∀ w', isS w' C I0 I1 len bt fa fb ki (bd + 1) no fu → zOff 0 74 w w' → Q (some (.int (-2))) w') (kF : okSort x y z u → (C 2).1 = 4 → ∀ w', isS w' C I0 I1 len bt fa fb ki bd no (fu + 1) → zOff 0 74 w w' → Q (some (.int (-4))) w') (kA : okSort x y z u → (C 2).1 < 4 → ∀ w', isS w' (va_up C 2 ((C 2).1 + 1, row4 (C 2).2 (C 2).1 x y z u)) I0 I1 len bt fa fb ki bd no fu → zOff 0 74 w w' → Q (some (.int (nI (C 2).1))) w') : Zm (d + 4) mX8_sort 0 0 [.ref 0, .int x, .int y, .int z, .int u] w Q := by
  refine zm_intro [_, _, _, _, _] oX8_sort (Nat.le_of_ble_eq_true rfl) rfl ?_
  refine zw_aload_n dX8_sort_0 rfl ?_
  refine zw_aload_n dX8_sort_1 rfl ?_
  refine zw_get dX8_sort_2 fX8_12 h.1 rfl ?_
  refine zw_iload_n dX8_sort_5 rfl ?_
  refine zw_iload_n dX8_sort_6 rfl ?_
  refine zw_iload_n dX8_sort_7 rfl ?_
  refine zw_iload dX8_sort_8 rfl ?_
  refine zw_cV4 dX8_sort_10 oX1_addSort kX1_addSort lX8_108 h.2.1.1 rfl (Nat.le_of_ble_eq_true rfl) rfl (c_addSort h.2.1 (fun e => ?_) (fun e e2 => ?_) (fun e e2 w1 h1 o1 => ?_))
  · show Zw _ _ _ 13 [_, _, _, _, _] [_, _] _ _
    refine zw_cV1 dX8_sort_13 oX8_told kX8_told lX8_71 h.1 rfl (Nat.le_of_ble_eq_true rfl) rfl (x_toldB h (fun w1 h1 o1 => ?_))
    show Zw _ _ _ 16 [_, _, _, _, _] [_] _ _
    refine zw_ireturn .int dX8_sort_16 rfl rfl (Nat.le_refl _) (Nat.le_refl _) ?_
    exact kB e w1 h1 o1
  · show Zw _ _ _ 13 [_, _, _, _, _] [_, _] _ _
    refine zw_cV1 dX8_sort_13 oX8_told kX8_told lX8_71 h.1 rfl (Nat.le_of_ble_eq_true rfl) rfl (x_toldF h (fun w1 h1 o1 => ?_))
    show Zw _ _ _ 16 [_, _, _, _, _] [_] _ _
    refine zw_ireturn .int dX8_sort_16 rfl rfl (Nat.le_refl _) (Nat.le_refl _) ?_
    exact kF e e2 w1 h1 o1
  · show Zw _ _ _ 13 [_, _, _, _, _] [_, _] _ _
    have g := h.now o1 h1
    refine zw_cV1 dX8_sort_13 oX8_told kX8_told lX8_71 g.1 rfl (Nat.le_of_ble_eq_true rfl) rfl (x_told0 (nI_pos' (by omega)) ?_)
    show Zw _ _ _ 16 [_, _, _, _, _] [_] _ _
    refine zw_ireturn .int dX8_sort_16 rfl rfl (Nat.le_refl _) (Nat.le_refl _) ?_
    exact kA e e2 w1 g (o1.wd (by decide) (by decide))
theorem l_lend {x y z : Int32} (h : isS w C I0 I1 len bt fa fb ki bd no fu) (kB : ¬ okTale (C 1).1 x y z → ∀ w', isS w' C I0 I1 len bt fa fb ki (bd + 1) no fu → zOff 0 74 w w' → Q (some (.int (-2))) w') (kF : okTale (C 1).1 x y z → (C 3).1 = 8 → ∀ w', isS w' C I0 I1 len bt fa fb ki bd no (fu + 1) → zOff 0 74 w w' → Q (some (.int (-4))) w') (kA : okTale (C 1).1 x y z → (C 3).1 < 8 → ∀ w', isS w' (va_up C 3 ((C 3).1 + 1, row3 (C 3).2 (C 3).1 x y z)) I0 I1 len bt fa fb ki bd no fu → zOff 0 74 w w' → Q (some (.int (nI (C 3).1))) w') : Zm (d + 4) mX8_lend 0 0 [.ref 0, .int x, .int y, .int z] w Q := by
  refine zm_intro [_, _, _, _] oX8_lend (Nat.le_of_ble_eq_true rfl) rfl ?_
  refine zw_aload_n dX8_lend_0 rfl ?_
  refine zw_aload_n dX8_lend_1 rfl ?_
  refine zw_get dX8_lend_2 fX8_12 h.1 rfl ?_
  refine zw_iload_n dX8_lend_5 rfl ?_
  refine zw_iload_n dX8_lend_6 rfl ?_
  refine zw_iload_n dX8_lend_7 rfl ?_
  refine zw_cV3 dX8_lend_8 oX1_addTale kX1_addTale lX8_231 h.2.1.1 rfl (Nat.le_of_ble_eq_true rfl) rfl (c_addTale h.2.1 (fun e => ?_) (fun e e2 => ?_) (fun e e2 w1 h1 o1 => ?_))
  · show Zw _ _ _ 11 [_, _, _, _] [_, _] _ _
    refine zw_cV1 dX8_lend_11 oX8_told kX8_told lX8_71 h.1 rfl (Nat.le_of_ble_eq_true rfl) rfl (x_toldB h (fun w1 h1 o1 => ?_))
    show Zw _ _ _ 14 [_, _, _, _] [_] _ _
    refine zw_ireturn .int dX8_lend_14 rfl rfl (Nat.le_refl _) (Nat.le_refl _) ?_
    exact kB e w1 h1 o1
  · show Zw _ _ _ 11 [_, _, _, _] [_, _] _ _
    refine zw_cV1 dX8_lend_11 oX8_told kX8_told lX8_71 h.1 rfl (Nat.le_of_ble_eq_true rfl) rfl (x_toldF h (fun w1 h1 o1 => ?_))
    show Zw _ _ _ 14 [_, _, _, _] [_] _ _
    refine zw_ireturn .int dX8_lend_14 rfl rfl (Nat.le_refl _) (Nat.le_refl _) ?_
    exact kF e e2 w1 h1 o1
  · show Zw _ _ _ 11 [_, _, _, _] [_, _] _ _
    have g := h.now o1 h1
    refine zw_cV1 dX8_lend_11 oX8_told kX8_told lX8_71 g.1 rfl (Nat.le_of_ble_eq_true rfl) rfl (x_told0 (nI_pos' (by omega)) ?_)
    show Zw _ _ _ 14 [_, _, _, _] [_] _ _
    refine zw_ireturn .int dX8_lend_14 rfl rfl (Nat.le_refl _) (Nat.le_refl _) ?_
    exact kA e e2 w1 g (o1.wd (by decide) (by decide))
theorem l_hint {x y z : Int32} (h : isS w C I0 I1 len bt fa fb ki bd no fu) (kB : ¬ okHint (C 0).1 x y z → ∀ w', isS w' C I0 I1 len bt fa fb ki (bd + 1) no fu → zOff 0 74 w w' → Q (some (.int (-2))) w') (kF : okHint (C 0).1 x y z → (C 4).1 = 8 → ∀ w', isS w' C I0 I1 len bt fa fb ki bd no (fu + 1) → zOff 0 74 w w' → Q (some (.int (-4))) w') (kA : okHint (C 0).1 x y z → (C 4).1 < 8 → ∀ w', isS w' (va_up C 4 ((C 4).1 + 1, row3 (C 4).2 (C 4).1 x y z)) I0 I1 len bt fa fb ki bd no fu → zOff 0 74 w w' → Q (some (.int (nI (C 4).1))) w') : Zm (d + 4) mX8_hint 0 0 [.ref 0, .int x, .int y, .int z] w Q := by
  refine zm_intro [_, _, _, _] oX8_hint (Nat.le_of_ble_eq_true rfl) rfl ?_
  refine zw_aload_n dX8_hint_0 rfl ?_
  refine zw_aload_n dX8_hint_1 rfl ?_
  refine zw_get dX8_hint_2 fX8_12 h.1 rfl ?_
  refine zw_iload_n dX8_hint_5 rfl ?_
  refine zw_iload_n dX8_hint_6 rfl ?_
  refine zw_iload_n dX8_hint_7 rfl ?_
  refine zw_cV3 dX8_hint_8 oX1_addHint kX1_addHint lX8_243 h.2.1.1 rfl (Nat.le_of_ble_eq_true rfl) rfl (c_addHint h.2.1 (fun e => ?_) (fun e e2 => ?_) (fun e e2 w1 h1 o1 => ?_))
  · show Zw _ _ _ 11 [_, _, _, _] [_, _] _ _
    refine zw_cV1 dX8_hint_11 oX8_told kX8_told lX8_71 h.1 rfl (Nat.le_of_ble_eq_true rfl) rfl (x_toldB h (fun w1 h1 o1 => ?_))
    show Zw _ _ _ 14 [_, _, _, _] [_] _ _
    refine zw_ireturn .int dX8_hint_14 rfl rfl (Nat.le_refl _) (Nat.le_refl _) ?_
    exact kB e w1 h1 o1
  · show Zw _ _ _ 11 [_, _, _, _] [_, _] _ _
    refine zw_cV1 dX8_hint_11 oX8_told kX8_told lX8_71 h.1 rfl (Nat.le_of_ble_eq_true rfl) rfl (x_toldF h (fun w1 h1 o1 => ?_))
    show Zw _ _ _ 14 [_, _, _, _] [_] _ _
    refine zw_ireturn .int dX8_hint_14 rfl rfl (Nat.le_refl _) (Nat.le_refl _) ?_
    exact kF e e2 w1 h1 o1
  · show Zw _ _ _ 11 [_, _, _, _] [_, _] _ _
    have g := h.now o1 h1
    refine zw_cV1 dX8_hint_11 oX8_told kX8_told lX8_71 g.1 rfl (Nat.le_of_ble_eq_true rfl) rfl (x_told0 (nI_pos' (by omega)) ?_)
    show Zw _ _ _ 14 [_, _, _, _] [_] _ _
    refine zw_ireturn .int dX8_hint_14 rfl rfl (Nat.le_refl _) (Nat.le_refl _) ?_
    exact kA e e2 w1 g (o1.wd (by decide) (by decide))
theorem l_grasp {x y : Int32} (h : isS w C I0 I1 len bt fa fb ki bd no fu) (hv : ∀ r, r < (C 0).1 → 0 ≤ (C 0).2 (r * 5 + 3)) (kB : ((∀ r, r < (C 0).1 → ¬ x = nI r) ∨ ¬ (0 ≤ y ∧ y ≤ 9)) → ∀ w', isS w' C I0 I1 len bt fa fb ki (bd + 1) no fu → zOff 0 74 w w' → Q (some (.int (-2))) w') (kA : ∀ r, r < (C 0).1 → x = nI r → 0 ≤ y → y ≤ 9 → ∀ w', isS w' (va_up C 0 ((C 0).1, upd (C 0).2 (r * 5 + 3) y)) I0 I1 len bt fa fb ki bd no fu → zOff 0 74 w w' → Q (some (.int ((C 0).2 (r * 5 + 3)))) w') : Zm (d + 4) mX8_grasp 0 0 [.ref 0, .int x, .int y] w Q := by
  refine zm_intro [_, _, _] oX8_grasp (Nat.le_of_ble_eq_true rfl) rfl ?_
  refine zw_aload_n dX8_grasp_0 rfl ?_
  refine zw_aload_n dX8_grasp_1 rfl ?_
  refine zw_get dX8_grasp_2 fX8_12 h.1 rfl ?_
  refine zw_iload_n dX8_grasp_5 rfl ?_
  refine zw_iload_n dX8_grasp_6 rfl ?_
  refine zw_cV2 dX8_grasp_7 oX1_changeGrasps kX1_changeGrasps lX8_105 h.2.1.1 rfl (Nat.le_of_ble_eq_true rfl) rfl (c_changeGrasps h.2.1 (fun e => ?_) (fun r hr e1 e2 e3 w1 h1 o1 => ?_))
  · show Zw _ _ _ 10 [_, _, _] [_, _] _ _
    refine zw_cV1 dX8_grasp_10 oX8_told kX8_told lX8_71 h.1 rfl (Nat.le_of_ble_eq_true rfl) rfl (x_toldB h (fun w1 h1 o1 => ?_))
    show Zw _ _ _ 13 [_, _, _] [_] _ _
    refine zw_ireturn .int dX8_grasp_13 rfl rfl (Nat.le_refl _) (Nat.le_refl _) ?_
    exact kB e w1 h1 o1
  · show Zw _ _ _ 10 [_, _, _] [_, _] _ _
    have g := h.now o1 h1
    refine zw_cV1 dX8_grasp_10 oX8_told kX8_told lX8_71 g.1 rfl (Nat.le_of_ble_eq_true rfl) rfl (x_told0 (hv r hr) ?_)
    show Zw _ _ _ 13 [_, _, _] [_] _ _
    refine zw_ireturn .int dX8_grasp_13 rfl rfl (Nat.le_refl _) (Nat.le_refl _) ?_
    exact kA r hr e1 e2 e3 w1 g (o1.wd (by decide) (by decide))
theorem l_eye {x y : Int32} (h : isS w C I0 I1 len bt fa fb ki bd no fu) (hv : ∀ r, r < (C 1).1 → 0 ≤ (C 1).2 (r * 4 + 3)) (kB : ((∀ r, r < (C 1).1 → ¬ x = nI r) ∨ ¬ (0 ≤ y ∧ y ≤ 10)) → ∀ w', isS w' C I0 I1 len bt fa fb ki (bd + 1) no fu → zOff 0 74 w w' → Q (some (.int (-2))) w') (kA : ∀ r, r < (C 1).1 → x = nI r → 0 ≤ y → y ≤ 10 → ∀ w', isS w' (va_up C 1 ((C 1).1, upd (C 1).2 (r * 4 + 3) y)) I0 I1 len bt fa fb ki bd no fu → zOff 0 74 w w' → Q (some (.int ((C 1).2 (r * 4 + 3)))) w') : Zm (d + 4) mX8_eye 0 0 [.ref 0, .int x, .int y] w Q := by
  refine zm_intro [_, _, _] oX8_eye (Nat.le_of_ble_eq_true rfl) rfl ?_
  refine zw_aload_n dX8_eye_0 rfl ?_
  refine zw_aload_n dX8_eye_1 rfl ?_
  refine zw_get dX8_eye_2 fX8_12 h.1 rfl ?_
  refine zw_iload_n dX8_eye_5 rfl ?_
  refine zw_iload_n dX8_eye_6 rfl ?_
  refine zw_cV2 dX8_eye_7 oX1_changeChance kX1_changeChance lX8_112 h.2.1.1 rfl (Nat.le_of_ble_eq_true rfl) rfl (c_changeChance h.2.1 (fun e => ?_) (fun r hr e1 e2 e3 w1 h1 o1 => ?_))
  · show Zw _ _ _ 10 [_, _, _] [_, _] _ _
    refine zw_cV1 dX8_eye_10 oX8_told kX8_told lX8_71 h.1 rfl (Nat.le_of_ble_eq_true rfl) rfl (x_toldB h (fun w1 h1 o1 => ?_))
    show Zw _ _ _ 13 [_, _, _] [_] _ _
    refine zw_ireturn .int dX8_eye_13 rfl rfl (Nat.le_refl _) (Nat.le_refl _) ?_
    exact kB e w1 h1 o1
  · show Zw _ _ _ 10 [_, _, _] [_, _] _ _
    have g := h.now o1 h1
    refine zw_cV1 dX8_eye_10 oX8_told kX8_told lX8_71 g.1 rfl (Nat.le_of_ble_eq_true rfl) rfl (x_told0 (hv r hr) ?_)
    show Zw _ _ _ 13 [_, _, _] [_] _ _
    refine zw_ireturn .int dX8_eye_13 rfl rfl (Nat.le_refl _) (Nat.le_refl _) ?_
    exact kA r hr e1 e2 e3 w1 g (o1.wd (by decide) (by decide))
theorem l_put {x y : Int32} (h : isS w C I0 I1 len bt fa fb ki bd no fu) (hk : okK (C 1)) (kB : ((∀ r, r < (C 1).1 → ¬ x = nI r) ∨ ∀ r, r < (C 0).1 → ¬ y = nI r) → ∀ w', isS w' C I0 I1 len bt fa fb ki (bd + 1) no fu → zOff 0 74 w w' → Q (some (.int (-2))) w')
    (kN : ∀ l b, l < (C 1).1 → b < (C 0).1 → x = nI l → y = nI b → ¬ (cFit C l b = true ∧ onBox C (nI l) = -1 ∧ (C 0).2 (b * 5 + 4) = -1) → ∀ w', isS w' C I0 I1 len bt fa fb ki bd (no + 1) fu → zOff 0 74 w w' → Q (some (.int (-3))) w')
    (kA : ∀ l b, l < (C 1).1 → b < (C 0).1 → x = nI l → y = nI b → cFit C l b = true → onBox C (nI l) = -1 → (C 0).2 (b * 5 + 4) = -1 → ∀ w' q', deeds (C 5) q' → isS w' (va_up (va_up C 0 ((C 0).1, upd (C 0).2 (b * 5 + 4) (nI l))) 5 (q'.1 + 1, row3 q'.2 q'.1 (nI l) (nI b) 1)) I0 I1 len bt fa fb ki bd no fu → zOff 0 74 w w' → Q (some (.int 1)) w') : Zm (d + 5) mX8_put 0 0 [.ref 0, .int x, .int y] w Q := by
  refine zm_intro [_, _, _] oX8_put (Nat.le_of_ble_eq_true rfl) rfl ?_
  refine zw_aload_n dX8_put_0 rfl ?_
  refine zw_aload_n dX8_put_1 rfl ?_
  refine zw_get dX8_put_2 fX8_12 h.1 rfl ?_
  refine zw_iload_n dX8_put_5 rfl ?_
  refine zw_iload_n dX8_put_6 rfl ?_
  refine zw_cV2 dX8_put_7 oX1_putOn kX1_putOn lX8_78 h.2.1.1 rfl (Nat.le_of_ble_eq_true rfl) rfl (c_putOn h.2.1 hk (fun e => ?_) (fun l b e1 e2 e3 e4 e5 => ?_) (fun l b e1 e2 e3 e4 e5 e6 e7 w1 q1 e8 h1 o1 => ?_))
  · show Zw _ _ _ 10 [_, _, _] [_, _] _ _
    refine zw_cV1 dX8_put_10 oX8_told kX8_told lX8_71 h.1 rfl (Nat.le_of_ble_eq_true rfl) rfl (x_toldB h (fun w1 h1 o1 => ?_))
    show Zw _ _ _ 13 [_, _, _] [_] _ _
    refine zw_ireturn .int dX8_put_13 rfl rfl (Nat.le_refl _) (Nat.le_refl _) ?_
    exact kB e w1 h1 o1
  · show Zw _ _ _ 10 [_, _, _] [_, _] _ _
    refine zw_cV1 dX8_put_10 oX8_told kX8_told lX8_71 h.1 rfl (Nat.le_of_ble_eq_true rfl) rfl (x_toldN h (fun w1 h1 o1 => ?_))
    show Zw _ _ _ 13 [_, _, _] [_] _ _
    refine zw_ireturn .int dX8_put_13 rfl rfl (Nat.le_refl _) (Nat.le_refl _) ?_
    exact kN l b e1 e2 e3 e4 e5 w1 h1 o1
  · show Zw _ _ _ 10 [_, _, _] [_, _] _ _
    have g := h.now o1 h1
    refine zw_cV1 dX8_put_10 oX8_told kX8_told lX8_71 g.1 rfl (Nat.le_of_ble_eq_true rfl) rfl (x_told0 (by decide) ?_)
    show Zw _ _ _ 13 [_, _, _] [_] _ _
    refine zw_ireturn .int dX8_put_13 rfl rfl (Nat.le_refl _) (Nat.le_refl _) ?_
    exact kA l b e1 e2 e3 e4 e5 e6 e7 w1 q1 e8 g (o1.wd (by decide) (by decide))
theorem l_off {x : Int32} (h : isS w C I0 I1 len bt fa fb ki bd no fu) (kB : (∀ r, r < (C 1).1 → ¬ x = nI r) → ∀ w', isS w' C I0 I1 len bt fa fb ki (bd + 1) no fu → zOff 0 74 w w' → Q (some (.int (-2))) w') (kN : ∀ l, l < (C 1).1 → x = nI l → onBox C (nI l) = -1 → ∀ w', isS w' C I0 I1 len bt fa fb ki bd (no + 1) fu → zOff 0 74 w w' → Q (some (.int (-3))) w')
    (kA : ∀ l b, l < (C 1).1 → b < (C 0).1 → x = nI l → onBox C (nI l) = nI b → (C 0).2 (b * 5 + 4) = nI l → ∀ w' q', deeds (C 5) q' → isS w' (va_up (va_up C 0 ((C 0).1, upd (C 0).2 (b * 5 + 4) (-1))) 5 (q'.1 + 1, row3 q'.2 q'.1 (nI l) (nI b) 0)) I0 I1 len bt fa fb ki bd no fu → zOff 0 74 w w' → Q (some (.int (nI b))) w') : Zm (d + 5) mX8_off 0 0 [.ref 0, .int x] w Q := by
  have h7 := h.2.1.2.1.2.2.1
  refine zm_intro [_, _] oX8_off (Nat.le_of_ble_eq_true rfl) rfl ?_
  refine zw_aload_n dX8_off_0 rfl ?_
  refine zw_aload_n dX8_off_1 rfl ?_
  refine zw_get dX8_off_2 fX8_12 h.1 rfl ?_
  refine zw_iload_n dX8_off_5 rfl ?_
  refine zw_cV1 dX8_off_6 oX1_takeOff kX1_takeOff lX8_82 h.2.1.1 rfl (Nat.le_of_ble_eq_true rfl) rfl (c_takeOff h.2.1 (fun e => ?_) (fun l e1 e2 e3 => ?_) (fun l b e1 e2 e3 e4 e5 w1 q1 e8 h1 o1 => ?_))
  · show Zw _ _ _ 9 [_, _] [_, _] _ _
    refine zw_cV1 dX8_off_9 oX8_told kX8_told lX8_71 h.1 rfl (Nat.le_of_ble_eq_true rfl) rfl (x_toldB h (fun w1 h1 o1 => ?_))
    show Zw _ _ _ 12 [_, _] [_] _ _
    refine zw_ireturn .int dX8_off_12 rfl rfl (Nat.le_refl _) (Nat.le_refl _) ?_
    exact kB e w1 h1 o1
  · show Zw _ _ _ 9 [_, _] [_, _] _ _
    refine zw_cV1 dX8_off_9 oX8_told kX8_told lX8_71 h.1 rfl (Nat.le_of_ble_eq_true rfl) rfl (x_toldN h (fun w1 h1 o1 => ?_))
    show Zw _ _ _ 12 [_, _] [_] _ _
    refine zw_ireturn .int dX8_off_12 rfl rfl (Nat.le_refl _) (Nat.le_refl _) ?_
    exact kN l e1 e2 e3 w1 h1 o1
  · show Zw _ _ _ 9 [_, _] [_, _] _ _
    have g := h.now o1 h1
    refine zw_cV1 dX8_off_9 oX8_told kX8_told lX8_71 g.1 rfl (Nat.le_of_ble_eq_true rfl) rfl (x_told0 (nI_pos' (by omega)) ?_)
    show Zw _ _ _ 12 [_, _] [_] _ _
    refine zw_ireturn .int dX8_off_12 rfl rfl (Nat.le_refl _) (Nat.le_refl _) ?_
    exact kA l b e1 e2 e3 e4 e5 w1 q1 e8 g (o1.wd (by decide) (by decide))
theorem l_undo (h : isS w C I0 I1 len bt fa fb ki bd no fu) (hv : ∀ u, u < (C 5).1 → ∃ b, b < (C 0).1 ∧ (C 5).2 (u * 3 + 1) = nI b) (kN : (C 5).1 = 0 → ∀ w', isS w' C I0 I1 len bt fa fb ki bd (no + 1) fu → zOff 0 74 w w' → Q (some (.int (-3))) w')
    (kA : ∀ n b, (C 5).1 = n + 1 → b < (C 0).1 → (C 5).2 (n * 3 + 1) = nI b → ∀ w', isS w' (va_up (va_up C 0 ((C 0).1, upd (C 0).2 (b * 5 + 4) (if (C 5).2 (n * 3 + 2) = 1 then -1 else (C 5).2 (n * 3)))) 5 (n, (C 5).2)) I0 I1 len bt fa fb ki bd no fu → zOff 0 74 w w' → Q (some (.int 1)) w') : Zm (d + 3) mX8_undo 0 0 [.ref 0] w Q := by
  refine zm_intro [_] oX8_undo (Nat.le_of_ble_eq_true rfl) rfl ?_
  refine zw_aload_n dX8_undo_0 rfl ?_
  refine zw_aload_n dX8_undo_1 rfl ?_
  refine zw_get dX8_undo_2 fX8_12 h.1 rfl ?_
  refine zw_cV0 dX8_undo_5 oX1_stepBack kX1_stepBack lX8_85 h.2.1.1 rfl (Nat.le_of_ble_eq_true rfl) rfl (c_stepBack h.2.1 hv (fun e => ?_) (fun n b e1 e2 e3 w1 h1 o1 => ?_))
  · show Zw _ _ _ 8 [_] [_, _] _ _
    refine zw_cV1 dX8_undo_8 oX8_told kX8_told lX8_71 h.1 rfl (Nat.le_of_ble_eq_true rfl) rfl (x_toldN h (fun w1 h1 o1 => ?_))
    show Zw _ _ _ 11 [_] [_] _ _
    refine zw_ireturn .int dX8_undo_11 rfl rfl (Nat.le_refl _) (Nat.le_refl _) ?_
    exact kN e w1 h1 o1
  · show Zw _ _ _ 8 [_] [_, _] _ _
    have g := h.now o1 h1
    refine zw_cV1 dX8_undo_8 oX8_told kX8_told lX8_71 g.1 rfl (Nat.le_of_ble_eq_true rfl) rfl (x_told0 (by decide) ?_)
    show Zw _ _ _ 11 [_] [_] _ _
    refine zw_ireturn .int dX8_undo_11 rfl rfl (Nat.le_refl _) (Nat.le_refl _) ?_
    exact kA n b e1 e2 e3 w1 g (o1.wd (by decide) (by decide))
end ZL1
