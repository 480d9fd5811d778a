/-! ===== the Model: count, type; told of a deed ===== -/
section ZMOD8
variable {d : Nat} {w w' : ZW} {A : Nat → Nat → Int32} {I : Nat → Int32} {ab be : Int64} {Q : Option Value → ZW → Prop}
theorem m_counted {n j : Nat} (hj : j < 8) (h : isM w A I ab be) (hb : I 0 = nI 0) (hn : A 0 0 = nI n) (hn7 : n ≤ 7) (k : Q (some (.int (mHow A I n j))) w) : Zm (d + 2) mX9_counted 0 0 [.ref 74, .int (nI j)] w Q := by
  refine zm_intro [_, _, _, _] oX9_counted (Nat.le_of_ble_eq_true rfl) rfl ?_
  refine zw_iconst dX9_counted_0 0 (by decide) ?_
  refine zw_istore_n [_, _, _, _] dX9_counted_1 (Nat.le_of_ble_eq_true rfl) rfl ?_
  refine zw_iconst dX9_counted_2 0 (by decide) ?_
  refine zw_istore_n [_, _, _, _] dX9_counted_3 (Nat.le_of_ble_eq_true rfl) rfl ?_
  refine m_cntL h hb hn hn7 ?_ n 0 0 (by omega) (Nat.zero_add _)
  refine zw_iload_n dX9_counted_37 rfl ?_
  have h8 : j = 0 ∨ j = 1 ∨ j = 2 ∨ j = 3 ∨ j = 4 ∨ j = 5 ∨ j = 6 ∨ j = 7 := by omega
  rcases h8 with rfl | rfl | rfl | rfl | rfl | rfl | rfl | rfl
  · refine zw_tableIn 80 dX9_counted_38 (by decide) (by decide) (off := 42) (by decide) (by decide) ?_
    refine zw_aload_n dX9_counted_80 rfl ?_
    refine zw_iconst dX9_counted_81 0 (by decide) ?_
    refine zw_cV1 dX9_counted_82 oX9_get kX9_get lX9_62 h.1 rfl (Nat.le_of_ble_eq_true rfl) rfl (m_get (b := 0) (j := 0) h hb (by decide) ?_)
    show Zw _ _ _ 85 [_, _, _, _] [_] _ _
    refine zw_ireturn .int dX9_counted_85 rfl rfl (Nat.le_refl _) (Nat.le_refl _) ?_
    exact k
  · refine zw_tableIn 86 dX9_counted_38 (by decide) (by decide) (off := 48) (by decide) (by decide) ?_
    refine zw_aload_n dX9_counted_86 rfl ?_
    refine zw_iconst dX9_counted_87 1 (by decide) ?_
    refine zw_cV1 dX9_counted_88 oX9_get kX9_get lX9_62 h.1 rfl (Nat.le_of_ble_eq_true rfl) rfl (m_get (b := 0) (j := 1) h hb (by decide) ?_)
    show Zw _ _ _ 91 [_, _, _, _] [_] _ _
    refine zw_ireturn .int dX9_counted_91 rfl rfl (Nat.le_refl _) (Nat.le_refl _) ?_
    exact k
  · refine zw_tableIn 92 dX9_counted_38 (by decide) (by decide) (off := 54) (by decide) (by decide) ?_
    refine zw_iload_n dX9_counted_92 rfl ?_
    refine zw_ireturn .int dX9_counted_93 rfl rfl (Nat.le_refl _) (Nat.le_refl _) ?_
    exact k
  · refine zw_tableIn 94 dX9_counted_38 (by decide) (by decide) (off := 56) (by decide) (by decide) ?_
    refine zw_aload_n dX9_counted_94 rfl ?_
    refine zw_iconst dX9_counted_95 2 (by decide) ?_
    refine zw_cV1 dX9_counted_96 oX9_get kX9_get lX9_62 h.1 rfl (Nat.le_of_ble_eq_true rfl) rfl (m_get (b := 0) (j := 2) h hb (by decide) ?_)
    show Zw _ _ _ 99 [_, _, _, _] [_] _ _
    refine zw_ireturn .int dX9_counted_99 rfl rfl (Nat.le_refl _) (Nat.le_refl _) ?_
    exact k
  · refine zw_tableIn 100 dX9_counted_38 (by decide) (by decide) (off := 62) (by decide) (by decide) ?_
    refine zw_aload_n dX9_counted_100 rfl ?_
    refine zw_iconst dX9_counted_101 3 (by decide) ?_
    refine zw_cV1 dX9_counted_102 oX9_get kX9_get lX9_62 h.1 rfl (Nat.le_of_ble_eq_true rfl) rfl (m_get (b := 0) (j := 3) h hb (by decide) ?_)
    show Zw _ _ _ 105 [_, _, _, _] [_] _ _
    refine zw_ireturn .int dX9_counted_105 rfl rfl (Nat.le_refl _) (Nat.le_refl _) ?_
    exact k
  · refine zw_tableIn 106 dX9_counted_38 (by decide) (by decide) (off := 68) (by decide) (by decide) ?_
    refine zw_aload_n dX9_counted_106 rfl ?_
    refine zw_iconst dX9_counted_107 4 (by decide) ?_
    refine zw_cV1 dX9_counted_108 oX9_get kX9_get lX9_62 h.1 rfl (Nat.le_of_ble_eq_true rfl) rfl (m_get (b := 0) (j := 4) h hb (by decide) ?_)
    show Zw _ _ _ 111 [_, _, _, _] [_] _ _
    refine zw_ireturn .int dX9_counted_111 rfl rfl (Nat.le_refl _) (Nat.le_refl _) ?_
    exact k
  · refine zw_tableIn 112 dX9_counted_38 (by decide) (by decide) (off := 74) (by decide) (by decide) ?_
    refine zw_aload_n dX9_counted_112 rfl ?_
    refine zw_iconst dX9_counted_113 5 (by decide) ?_
    refine zw_cV1 dX9_counted_114 oX9_get kX9_get lX9_62 h.1 rfl (Nat.le_of_ble_eq_true rfl) rfl (m_get (b := 0) (j := 5) h hb (by decide) ?_)
    show Zw _ _ _ 117 [_, _, _, _] [_] _ _
    refine zw_ireturn .int dX9_counted_117 rfl rfl (Nat.le_refl _) (Nat.le_refl _) ?_
    exact k
  · refine zw_tableOut 118 dX9_counted_38 (Or.inr (by decide)) (by decide) ?_
    refine zw_aload_n dX9_counted_118 rfl ?_
    refine zw_get dX9_counted_119 fX9_129 h.1 rfl ?_
    refine zw_ireturn .int dX9_counted_122 rfl rfl (Nat.le_refl _) (Nat.le_refl _) ?_
    exact k
theorem m_count {n : Nat} {x : Int32} (h : isM w A I ab be) (hb : I 0 = nI 0) (hn : A 0 0 = nI n) (hn7 : n ≤ 7) (kB : ¬ (0 ≤ x ∧ x ≤ 7) → ∀ w', isM w' (toldI A 0 0) I ab be → zOff 74 89 w w' → Q (some (.int (-2))) w') (kA : ∀ j, j < 8 → x = nI j → Q (some (.int (mHow A I n j))) w) : Zm (d + 3) mX9_count 0 0 [.ref 74, .int x] w Q := by
  refine zm_intro [_, _] oX9_count (Nat.le_of_ble_eq_true rfl) rfl ?_
  refine zw_iload_n dX9_count_0 rfl ?_
  refine zw_iconst dX9_count_1 0 (by decide) ?_
  refine zw_bipush dX9_count_2 7 (by decide) ?_
  refine zw_cS3 dX9_count_4 oX9_in kX9_in lX9_66 (Nat.le_of_ble_eq_true rfl) rfl (m_in (fun q1 q2 => ?_) (fun q => ?_))
  · obtain ⟨j, hj, e⟩ := nI_of2 (M := 7) (n := 7) (by decide) (Int32.not_lt.mpr q1) q2
    have kk := kA j (by omega) e
    subst e
    show Zw _ _ _ 7 [_, _] [_] _ _
    refine zw_if_eq 18 dX9_count_7 (by decide) (fun hz => absurd hz (by decide)) (fun _ => ?_)
    refine zw_aload_n dX9_count_10 rfl ?_
    refine zw_iload_n dX9_count_11 rfl ?_
    refine zw_cV1 dX9_count_12 oX9_counted kX9_counted lX9_250 h.1 rfl (Nat.le_of_ble_eq_true rfl) rfl (m_counted (by omega) h hb hn hn7 ?_)
    show Zw _ _ _ 15 [_, _] [_] _ _
    refine zw_goto 24 dX9_count_15 (by decide) ?_
    refine zw_ireturn .int dX9_count_24 rfl rfl (Nat.le_refl _) (Nat.le_refl _) ?_
    exact kk
  · show Zw _ _ _ 7 [_, _] [_] _ _
    refine zw_if_eq 18 dX9_count_7 (by decide) (fun _ => ?_) (fun hz => absurd (by decide) hz)
    refine zw_aload_n dX9_count_18 rfl ?_
    refine zw_bipush dX9_count_19 (-2) (by decide) ?_
    refine zw_cV1 dX9_count_21 oX9_told kX9_told lX9_70 h.1 rfl (Nat.le_of_ble_eq_true rfl) rfl (m_toldR (j := 0) (by decide) hb (by decide) h (fun w1 h1 o1 => ?_))
    show Zw _ _ _ 24 [_, _] [_] _ _
    refine zw_ireturn .int dX9_count_24 rfl rfl (Nat.le_refl _) (Nat.le_refl _) ?_
    exact kB q w1 h1 o1
theorem m_grasp {n : Nat} {x y : Int32} (h : isM w A I ab be) (hb : I 0 = nI 0) (hn : A 0 0 = nI n) (hn7 : n ≤ 7) (hg : ∀ r, r < n → ¬ (-4 ≤ mB A 0 r 3 ∧ mB A 0 r 3 ≤ -2)) (kB : ((∀ r, r < n → ¬ x = nI r) ∨ ¬ (0 ≤ y ∧ y ≤ 9)) → ∀ w', isM w' (toldI A 0 0) I ab be → zOff 74 89 w w' → Q (some (.int (-2))) w') (kA : ∀ r, r < n → x = nI r → 0 ≤ y → y ≤ 9 → ∀ w', isM w' (mp A 0 (6 + 5 * r + 3) y) I ab be → zOff 74 89 w w' → Q (some (.int (mB A 0 r 3))) w') : Zm (d + 3) mX9_grasp 0 0 [.ref 74, .int x, .int y] w Q := by
  refine zm_intro [_, _, _] oX9_grasp (Nat.le_of_ble_eq_true rfl) rfl ?_
  refine zw_aload_n dX9_grasp_0 rfl ?_
  refine zw_aload_n dX9_grasp_1 rfl ?_
  refine zw_iload_n dX9_grasp_2 rfl ?_
  refine zw_iload_n dX9_grasp_3 rfl ?_
  refine zw_cV2 dX9_grasp_4 oX9_setGrasp kX9_setGrasp lX9_122 h.1 rfl (Nat.le_of_ble_eq_true rfl) rfl (m_setGrasp (b := 0) h hb (by decide) hn hn7 (fun e => ?_) (fun r hr e1 e2 e3 w1 h1 o1 => ?_))
  · show Zw _ _ _ 7 [_, _, _] [_, _] _ _
    refine zw_cV1 dX9_grasp_7 oX9_told kX9_told lX9_70 h.1 rfl (Nat.le_of_ble_eq_true rfl) rfl (m_toldR (j := 0) (by decide) hb (by decide) h (fun w1 h1 o1 => ?_))
    show Zw _ _ _ 10 [_, _, _] [_] _ _
    refine zw_ireturn .int dX9_grasp_10 rfl rfl (Nat.le_refl _) (Nat.le_refl _) ?_
    exact kB e w1 h1 o1
  · show Zw _ _ _ 7 [_, _, _] [_, _] _ _
    refine zw_cV1 dX9_grasp_7 oX9_told kX9_told lX9_70 h1.1 rfl (Nat.le_of_ble_eq_true rfl) rfl (m_told0 (hg r hr) h1 ?_)
    show Zw _ _ _ 10 [_, _, _] [_] _ _
    refine zw_ireturn .int dX9_grasp_10 rfl rfl (Nat.le_refl _) (Nat.le_refl _) ?_
    exact kA r hr e1 e2 e3 w1 h1 o1
end ZMOD8
