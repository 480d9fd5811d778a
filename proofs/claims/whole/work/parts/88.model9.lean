/-! ===== the Model: box, lid, sort, put, type ===== -/
theorem told_pos {v : Int32} (h : 0 ≤ v) : ¬ (-4 ≤ v ∧ v ≤ -2) := fun z => absurd (Int32.le_trans h z.2) (by decide)
section ZMOD9
variable {d : Nat} {w w' : ZW} {A : Nat → Nat → Int32} {I : Nat → Int32} {ab be : Int64} {Q : Option Value → ZW → Prop}
theorem m_box {n : Nat} {x y z : Int32} (h : isM w A I ab be) (hb : I 0 = nI 0) (hn : A 0 (0 + 0) = nI n) (hn7 : n ≤ 7) (kB : ¬ okBox x y z → ∀ w', isM w' (toldI A 0 0) I ab be → zOff 74 89 w w' → Q (some (.int (-2))) w') (kF : okBox x y z → n = 7 → ∀ w', isM w' (toldI A 0 2) I ab be → zOff 74 89 w w' → Q (some (.int (-4))) w') (kA : okBox x y z → n < 7 → ∀ w', isM w' (mp (mp (mp (mp (mp (mp (mp A 0 (6 + 5 * n + 0) x) 0 (6 + 5 * n + 1) y) 0 (6 + 5 * n + 2) z) 0 (6 + 5 * n + 3) 1) 0 (6 + 5 * n + 4) (-1)) 0 0 (nI (n + 1))) 0 5 0) I ab be → zOff 74 89 w w' → Q (some (.int (nI n))) w') : Zm (d + 2) mX9_box 0 0 [.ref 74, .int x, .int y, .int z] w Q := by
  refine zm_intro [_, _, _, _] oX9_box (Nat.le_of_ble_eq_true rfl) rfl ?_
  refine zw_aload_n dX9_box_0 rfl ?_
  refine zw_aload_n dX9_box_1 rfl ?_
  refine zw_iload_n dX9_box_2 rfl ?_
  refine zw_iload_n dX9_box_3 rfl ?_
  refine zw_iload_n dX9_box_4 rfl ?_
  refine zw_cV3 dX9_box_5 oX9_addBox kX9_addBox lX9_108 h.1 rfl (Nat.le_of_ble_eq_true rfl) rfl (m_addBox (b := 0) h hb (by decide) hn hn7 (fun e => ?_) (fun e1 e2 => ?_) (fun e1 e2 w1 h1 o1 => ?_))
  · show Zw _ _ _ 8 [_, _, _, _] [_, _] _ _
    refine zw_cV1 dX9_box_8 oX9_told kX9_told lX9_70 h.1 rfl (Nat.le_of_ble_eq_true rfl) rfl (m_toldR (j := 0) (by decide) hb (by decide) h (fun w1 h1 o1 => ?_))
    show Zw _ _ _ 11 [_, _, _, _] [_] _ _
    refine zw_ireturn .int dX9_box_11 rfl rfl (Nat.le_refl _) (Nat.le_refl _) ?_
    exact kB e w1 h1 o1
  · show Zw _ _ _ 8 [_, _, _, _] [_, _] _ _
    refine zw_cV1 dX9_box_8 oX9_told kX9_told lX9_70 h.1 rfl (Nat.le_of_ble_eq_true rfl) rfl (m_toldR (j := 2) (by decide) hb (by decide) h (fun w1 h1 o1 => ?_))
    show Zw _ _ _ 11 [_, _, _, _] [_] _ _
    refine zw_ireturn .int dX9_box_11 rfl rfl (Nat.le_refl _) (Nat.le_refl _) ?_
    exact kF e1 e2 w1 h1 o1
  · show Zw _ _ _ 8 [_, _, _, _] [_, _] _ _
    refine zw_cV1 dX9_box_8 oX9_told kX9_told lX9_70 h1.1 rfl (Nat.le_of_ble_eq_true rfl) rfl (m_told0 (told_pos (nI_pos' (by omega))) h1 ?_)
    show Zw _ _ _ 11 [_, _, _, _] [_] _ _
    refine zw_ireturn .int dX9_box_11 rfl rfl (Nat.le_refl _) (Nat.le_refl _) ?_
    exact kA e1 e2 w1 h1 o1
theorem m_lid {n : Nat} {x y z : Int32} (h : isM w A I ab be) (hb : I 0 = nI 0) (hn : A 0 (0 + 1) = nI n) (hn7 : n ≤ 7) (kB : ¬ okLid x y z → ∀ w', isM w' (toldI A 0 0) I ab be → zOff 74 89 w w' → Q (some (.int (-2))) w') (kF : okLid x y z → n = 7 → ∀ w', isM w' (toldI A 0 2) I ab be → zOff 74 89 w w' → Q (some (.int (-4))) w') (kA : okLid x y z → n < 7 → ∀ w', isM w' (mp (mp (mp (mp (mp (mp A 0 (41 + 4 * n) x) 0 (41 + 4 * n + 1) y) 0 (41 + 4 * n + 2) z) 0 (41 + 4 * n + 3) 5) 0 1 (nI (n + 1))) 0 5 0) I ab be → zOff 74 89 w w' → Q (some (.int (nI n))) w') : Zm (d + 2) mX9_lid 0 0 [.ref 74, .int x, .int y, .int z] w Q := by
  refine zm_intro [_, _, _, _] oX9_lid (Nat.le_of_ble_eq_true rfl) rfl ?_
  refine zw_aload_n dX9_lid_0 rfl ?_
  refine zw_aload_n dX9_lid_1 rfl ?_
  refine zw_iload_n dX9_lid_2 rfl ?_
  refine zw_iload_n dX9_lid_3 rfl ?_
  refine zw_iload_n dX9_lid_4 rfl ?_
  refine zw_cV3 dX9_lid_5 oX9_addLid kX9_addLid lX9_112 h.1 rfl (Nat.le_of_ble_eq_true rfl) rfl (m_addLid (b := 0) h hb (by decide) hn hn7 (fun e => ?_) (fun e1 e2 => ?_) (fun e1 e2 w1 h1 o1 => ?_))
  · show Zw _ _ _ 8 [_, _, _, _] [_, _] _ _
    refine zw_cV1 dX9_lid_8 oX9_told kX9_told lX9_70 h.1 rfl (Nat.le_of_ble_eq_true rfl) rfl (m_toldR (j := 0) (by decide) hb (by decide) h (fun w1 h1 o1 => ?_))
    show Zw _ _ _ 11 [_, _, _, _] [_] _ _
    refine zw_ireturn .int dX9_lid_11 rfl rfl (Nat.le_refl _) (Nat.le_refl _) ?_
    exact kB e w1 h1 o1
  · show Zw _ _ _ 8 [_, _, _, _] [_, _] _ _
    refine zw_cV1 dX9_lid_8 oX9_told kX9_told lX9_70 h.1 rfl (Nat.le_of_ble_eq_true rfl) rfl (m_toldR (j := 2) (by decide) hb (by decide) h (fun w1 h1 o1 => ?_))
    show Zw _ _ _ 11 [_, _, _, _] [_] _ _
    refine zw_ireturn .int dX9_lid_11 rfl rfl (Nat.le_refl _) (Nat.le_refl _) ?_
    exact kF e1 e2 w1 h1 o1
  · show Zw _ _ _ 8 [_, _, _, _] [_, _] _ _
    refine zw_cV1 dX9_lid_8 oX9_told kX9_told lX9_70 h1.1 rfl (Nat.le_of_ble_eq_true rfl) rfl (m_told0 (told_pos (nI_pos' (by omega))) h1 ?_)
    show Zw _ _ _ 11 [_, _, _, _] [_] _ _
    refine zw_ireturn .int dX9_lid_11 rfl rfl (Nat.le_refl _) (Nat.le_refl _) ?_
    exact kA e1 e2 w1 h1 o1
theorem m_sort {n : Nat} {x y z u : Int32} (h : isM w A I ab be) (hb : I 0 = nI 0) (hn : A 0 (0 + 2) = nI n) (hn7 : n ≤ 4) (kB : ¬ okSort x y z u → ∀ w', isM w' (toldI A 0 0) I ab be → zOff 74 89 w w' → Q (some (.int (-2))) w') (kF : okSort x y z u → n = 4 → ∀ w', isM w' (toldI A 0 2) I ab be → zOff 74 89 w w' → Q (some (.int (-4))) w') (kA : okSort x y z u → n < 4 → ∀ w', isM w' (mp (mp (mp (mp (mp A 0 (69 + 4 * n) x) 0 (69 + 4 * n + 1) y) 0 (69 + 4 * n + 2) z) 0 (69 + 4 * n + 3) u) 0 2 (nI (n + 1))) I ab be → zOff 74 89 w w' → Q (some (.int (nI n))) w') : Zm (d + 2) mX9_sort 0 0 [.ref 74, .int x, .int y, .int z, .int u] w Q := by
  refine zm_intro [_, _, _, _, _] oX9_sort (Nat.le_of_ble_eq_true rfl) rfl ?_
  refine zw_aload_n dX9_sort_0 rfl ?_
  refine zw_aload_n dX9_sort_1 rfl ?_
  refine zw_iload_n dX9_sort_2 rfl ?_
  refine zw_iload_n dX9_sort_3 rfl ?_
  refine zw_iload_n dX9_sort_4 rfl ?_
  refine zw_iload dX9_sort_5 rfl ?_
  refine zw_cV4 dX9_sort_7 oX9_addSort kX9_addSort lX9_125 h.1 rfl (Nat.le_of_ble_eq_true rfl) rfl (m_addSort (b := 0) h hb (by decide) hn hn7 (fun e => ?_) (fun e1 e2 => ?_) (fun e1 e2 w1 h1 o1 => ?_))
  · show Zw _ _ _ 10 [_, _, _, _, _] [_, _] _ _
    refine zw_cV1 dX9_sort_10 oX9_told kX9_told lX9_70 h.1 rfl (Nat.le_of_ble_eq_true rfl) rfl (m_toldR (j := 0) (by decide) hb (by decide) h (fun w1 h1 o1 => ?_))
    show Zw _ _ _ 13 [_, _, _, _, _] [_] _ _
    refine zw_ireturn .int dX9_sort_13 rfl rfl (Nat.le_refl _) (Nat.le_refl _) ?_
    exact kB e w1 h1 o1
  · show Zw _ _ _ 10 [_, _, _, _, _] [_, _] _ _
    refine zw_cV1 dX9_sort_10 oX9_told kX9_told lX9_70 h.1 rfl (Nat.le_of_ble_eq_true rfl) rfl (m_toldR (j := 2) (by decide) hb (by decide) h (fun w1 h1 o1 => ?_))
    show Zw _ _ _ 13 [_, _, _, _, _] [_] _ _
    refine zw_ireturn .int dX9_sort_13 rfl rfl (Nat.le_refl _) (Nat.le_refl _) ?_
    exact kF e1 e2 w1 h1 o1
  · show Zw _ _ _ 10 [_, _, _, _, _] [_, _] _ _
    refine zw_cV1 dX9_sort_10 oX9_told kX9_told lX9_70 h1.1 rfl (Nat.le_of_ble_eq_true rfl) rfl (m_told0 (told_pos (nI_pos' (by omega))) h1 ?_)
    show Zw _ _ _ 13 [_, _, _, _, _] [_] _ _
    refine zw_ireturn .int dX9_sort_13 rfl rfl (Nat.le_refl _) (Nat.le_refl _) ?_
    exact kA e1 e2 w1 h1 o1
theorem m_put {n l u : Nat} {x y : Int32} (h : isM w A I ab be) (hb : I 0 = nI 0) (hn : A 0 0 = nI n) (hn7 : n ≤ 7) (hl : A 0 (0 + 1) = nI l) (hl7 : l ≤ 7) (hu : A 0 (0 + 5) = nI u) (hu12 : u ≤ 12) (hk : ∀ i, i < l → ∃ j, j < 6 ∧ mLd A 0 i 0 = nI j) (kB : ((∀ r, r < l → ¬ x = nI r) ∨ ∀ r, r < n → ¬ y = nI r) → ∀ w', isM w' (toldI A 0 0) I ab be → zOff 74 89 w w' → Q (some (.int (-2))) w') (kN : ∀ i r, i < l → r < n → x = nI i → y = nI r → ¬ (mFit A 0 r (mLd A 0 i 0) (mLd A 0 i 1) (mLd A 0 i 2) = true ∧ lstF (fun r => decide (mB A 0 r 4 = nI i)) 0 n (-1) = -1 ∧ mB A 0 r 4 = -1) → ∀ w', isM w' (toldI A 0 1) I ab be → zOff 74 89 w w' → Q (some (.int (-3))) w') (kA : ∀ i r, i < l → r < n → x = nI i → y = nI r → mFit A 0 r (mLd A 0 i 0) (mLd A 0 i 1) (mLd A 0 i 2) = true → lstF (fun r => decide (mB A 0 r 4 = nI i)) 0 n (-1) = -1 → mB A 0 r 4 = -1 → ∀ w', isM w' (mp (knA A 0 u n) 0 (6 + 5 * r + 4) (nI i)) I ab be → zOff 74 89 w w' → Q (some (.int 1)) w') : Zm (d + 6) mX9_put 0 0 [.ref 74, .int x, .int y] w Q := by
  refine zm_intro [_, _, _] oX9_put (Nat.le_of_ble_eq_true rfl) rfl ?_
  refine zw_aload_n dX9_put_0 rfl ?_
  refine zw_aload_n dX9_put_1 rfl ?_
  refine zw_iload_n dX9_put_2 rfl ?_
  refine zw_iload_n dX9_put_3 rfl ?_
  refine zw_cV2 dX9_put_4 oX9_putOn kX9_putOn lX9_115 h.1 rfl (Nat.le_of_ble_eq_true rfl) rfl (m_putOn (b := 0) h hb (by decide) hn hn7 hl hl7 hu hu12 hk (fun e => ?_) (fun i r e1 e2 e3 e4 e5 => ?_) (fun i r e1 e2 e3 e4 e5 e6 e7 w1 h1 o1 => ?_))
  · show Zw _ _ _ 7 [_, _, _] [_, _] _ _
    refine zw_cV1 dX9_put_7 oX9_told kX9_told lX9_70 h.1 rfl (Nat.le_of_ble_eq_true rfl) rfl (m_toldR (j := 0) (by decide) hb (by decide) h (fun w1 h1 o1 => ?_))
    show Zw _ _ _ 10 [_, _, _] [_] _ _
    refine zw_ireturn .int dX9_put_10 rfl rfl (Nat.le_refl _) (Nat.le_refl _) ?_
    exact kB e w1 h1 o1
  · show Zw _ _ _ 7 [_, _, _] [_, _] _ _
    refine zw_cV1 dX9_put_7 oX9_told kX9_told lX9_70 h.1 rfl (Nat.le_of_ble_eq_true rfl) rfl (m_toldR (j := 1) (by decide) hb (by decide) h (fun w1 h1 o1 => ?_))
    show Zw _ _ _ 10 [_, _, _] [_] _ _
    refine zw_ireturn .int dX9_put_10 rfl rfl (Nat.le_refl _) (Nat.le_refl _) ?_
    exact kN i r e1 e2 e3 e4 e5 w1 h1 o1
  · show Zw _ _ _ 7 [_, _, _] [_, _] _ _
    refine zw_cV1 dX9_put_7 oX9_told kX9_told lX9_70 h1.1 rfl (Nat.le_of_ble_eq_true rfl) rfl (m_told0 (told_pos (by decide)) h1 ?_)
    show Zw _ _ _ 10 [_, _, _] [_] _ _
    refine zw_ireturn .int dX9_put_10 rfl rfl (Nat.le_refl _) (Nat.le_refl _) ?_
    exact kA i r e1 e2 e3 e4 e5 e6 e7 w1 h1 o1
end ZMOD9
