/-! ===== the Model: lend, hint, has ===== -/
section ZMOD11
variable {d : Nat} {w w' : ZW} {A : Nat → Nat → Int32} {I : Nat → Int32} {ab be : Int64} {Q : Option Value → ZW → Prop}
theorem m_lendT {n : Nat} {x y z : Int32} (h : isM w A I ab be) (hb : I 0 = nI 0) (hn : A 0 (0 + 3) = nI n) (hn8 : n ≤ 8) (kF : n = 8 → ∀ w', isM w' (toldI A 0 2) I ab be → zOff 74 89 w w' → Q (some (.int (-4))) w') (kA : n < 8 → ∀ w', isM w' (mp (mp (mp (mp A 0 (85 + 3 * n) x) 0 (85 + 3 * n + 1) y) 0 (85 + 3 * n + 2) z) 0 3 (nI (n + 1))) I ab be → zOff 74 89 w w' → Q (some (.int (nI n))) w') : Zw (d + 2) mX9_lend z0 38 [some (.ref 74), some (.int x), some (.int y), some (.int z), none] [] w Q := by
  refine zw_aload_n dX9_lend_38 rfl ?_
  refine zw_iconst dX9_lend_39 3 (by decide) ?_
  refine zw_cV1 dX9_lend_40 oX9_get kX9_get lX9_62 h.1 rfl (Nat.le_of_ble_eq_true rfl) rfl (m_get (b := 0) (j := 3) h hb (by omega) ?_)
  show Zw _ _ _ 43 [_, _, _, _, _] [_] _ _
  refine zw_top (hn) ?_
  refine zw_istore [_, _, _, _, _] dX9_lend_43 (Nat.le_of_ble_eq_true rfl) rfl ?_
  refine zw_iload dX9_lend_45 rfl ?_
  refine zw_bipush dX9_lend_47 8 (by decide) ?_
  by_cases e8 : n = 8
  · have e9 : nI n = 8 := by rw [e8]; rfl
    refine zw_icmp_ne 59 dX9_lend_49 (by decide) (fun hz => absurd (e9) hz) (fun _ => ?_)
    refine zw_aload_n dX9_lend_52 rfl ?_
    refine zw_bipush dX9_lend_53 (-4) (by decide) ?_
    refine zw_cV1 dX9_lend_55 oX9_told kX9_told lX9_70 h.1 rfl (Nat.le_of_ble_eq_true rfl) rfl (m_toldR (j := 2) (by decide) hb (by decide) h (fun w1 h1 o1 => ?_))
    show Zw _ _ _ 58 [_, _, _, _, _] [_] _ _
    refine zw_ireturn .int dX9_lend_58 rfl rfl (Nat.le_refl _) (Nat.le_refl _) ?_
    exact kF e8 w1 h1 o1
  · have e9 : ¬ nI n = 8 := fun q => e8 ((nI_eq (b := 8) (by omega) (by decide)).mp q)
    refine zw_icmp_ne 59 dX9_lend_49 (by decide) (fun _ => ?_) (fun hz => absurd hz (e9))
    refine zw_aload_n dX9_lend_59 rfl ?_
    refine zw_bipush dX9_lend_60 85 (by decide) ?_
    refine zw_iconst dX9_lend_62 3 (by decide) ?_
    refine zw_iload dX9_lend_63 rfl ?_
    refine zw_imul dX9_lend_65 ?_
    refine zw_iadd dX9_lend_66 ?_
    refine zw_top (y := nI (85 + 3 * n)) (by rw [← nI_add, ← pk_mul]; rfl) ?_
    refine zw_iload_n dX9_lend_67 rfl ?_
    refine zw_cV2 dX9_lend_68 oX9_put1 kX9_put1 lX9_73 h.1 rfl (Nat.le_of_ble_eq_true rfl) rfl (m_put1 (b := 0) (j := 85 + 3 * n) h hb (by omega) (fun w1 h1 o1 => ?_))
    show Zw _ _ _ 71 [_, _, _, _, _] [] _ _
    refine zw_aload_n dX9_lend_71 rfl ?_
    refine zw_bipush dX9_lend_72 85 (by decide) ?_
    refine zw_iconst dX9_lend_74 3 (by decide) ?_
    refine zw_iload dX9_lend_75 rfl ?_
    refine zw_imul dX9_lend_77 ?_
    refine zw_iadd dX9_lend_78 ?_
    refine zw_iconst dX9_lend_79 1 (by decide) ?_
    refine zw_iadd dX9_lend_80 ?_
    refine zw_top (y := nI (85 + 3 * n + 1)) (by rw [← nI_add, ← nI_add, ← pk_mul]; rfl) ?_
    refine zw_iload_n dX9_lend_81 rfl ?_
    refine zw_cV2 dX9_lend_82 oX9_put1 kX9_put1 lX9_73 h1.1 rfl (Nat.le_of_ble_eq_true rfl) rfl (m_put1 (b := 0) (j := 85 + 3 * n + 1) h1 hb (by omega) (fun w2 h2 o2 => ?_))
    show Zw _ _ _ 85 [_, _, _, _, _] [] _ _
    refine zw_aload_n dX9_lend_85 rfl ?_
    refine zw_bipush dX9_lend_86 85 (by decide) ?_
    refine zw_iconst dX9_lend_88 3 (by decide) ?_
    refine zw_iload dX9_lend_89 rfl ?_
    refine zw_imul dX9_lend_91 ?_
    refine zw_iadd dX9_lend_92 ?_
    refine zw_iconst dX9_lend_93 2 (by decide) ?_
    refine zw_iadd dX9_lend_94 ?_
    refine zw_top (y := nI (85 + 3 * n + 2)) (by rw [← nI_add, ← nI_add, ← pk_mul]; rfl) ?_
    refine zw_iload_n dX9_lend_95 rfl ?_
    refine zw_cV2 dX9_lend_96 oX9_put1 kX9_put1 lX9_73 h2.1 rfl (Nat.le_of_ble_eq_true rfl) rfl (m_put1 (b := 0) (j := 85 + 3 * n + 2) h2 hb (by omega) (fun w3 h3 o3 => ?_))
    show Zw _ _ _ 99 [_, _, _, _, _] [] _ _
    refine zw_aload_n dX9_lend_99 rfl ?_
    refine zw_iconst dX9_lend_100 3 (by decide) ?_
    refine zw_iload dX9_lend_101 rfl ?_
    refine zw_iconst dX9_lend_103 1 (by decide) ?_
    refine zw_iadd dX9_lend_104 ?_
    refine zw_top (y := nI (n + 1)) (nI_1 n) ?_
    refine zw_cV2 dX9_lend_105 oX9_put1 kX9_put1 lX9_73 h3.1 rfl (Nat.le_of_ble_eq_true rfl) rfl (m_put1 (b := 0) (j := 3) h3 hb (by omega) (fun w4 h4 o4 => ?_))
    show Zw _ _ _ 108 [_, _, _, _, _] [] _ _
    refine zw_iload dX9_lend_108 rfl ?_
    refine zw_ireturn .int dX9_lend_110 rfl rfl (Nat.le_refl _) (Nat.le_refl _) ?_
    exact kA (by omega) w4 h4 (((o1.tr o2).tr o3).tr o4)
theorem m_hintT {n : Nat} {x y z : Int32} (h : isM w A I ab be) (hb : I 0 = nI 0) (hn : A 0 (0 + 4) = nI n) (hn8 : n ≤ 8) (kF : n = 8 → ∀ w', isM w' (toldI A 0 2) I ab be → zOff 74 89 w w' → Q (some (.int (-4))) w') (kA : n < 8 → ∀ w', isM w' (mp (mp (mp (mp A 0 (109 + 3 * n) x) 0 (109 + 3 * n + 1) y) 0 (109 + 3 * n + 2) z) 0 4 (nI (n + 1))) I ab be → zOff 74 89 w w' → Q (some (.int (nI n))) w') : Zw (d + 2) mX9_hint z0 32 [some (.ref 74), some (.int x), some (.int y), some (.int z), none] [] w Q := by
  refine zw_aload_n dX9_hint_32 rfl ?_
  refine zw_iconst dX9_hint_33 4 (by decide) ?_
  refine zw_cV1 dX9_hint_34 oX9_get kX9_get lX9_62 h.1 rfl (Nat.le_of_ble_eq_true rfl) rfl (m_get (b := 0) (j := 4) h hb (by omega) ?_)
  show Zw _ _ _ 37 [_, _, _, _, _] [_] _ _
  refine zw_top (hn) ?_
  refine zw_istore [_, _, _, _, _] dX9_hint_37 (Nat.le_of_ble_eq_true rfl) rfl ?_
  refine zw_iload dX9_hint_39 rfl ?_
  refine zw_bipush dX9_hint_41 8 (by decide) ?_
  by_cases e8 : n = 8
  · have e9 : nI n = 8 := by rw [e8]; rfl
    refine zw_icmp_ne 53 dX9_hint_43 (by decide) (fun hz => absurd (e9) hz) (fun _ => ?_)
    refine zw_aload_n dX9_hint_46 rfl ?_
    refine zw_bipush dX9_hint_47 (-4) (by decide) ?_
    refine zw_cV1 dX9_hint_49 oX9_told kX9_told lX9_70 h.1 rfl (Nat.le_of_ble_eq_true rfl) rfl (m_toldR (j := 2) (by decide) hb (by decide) h (fun w1 h1 o1 => ?_))
    show Zw _ _ _ 52 [_, _, _, _, _] [_] _ _
    refine zw_ireturn .int dX9_hint_52 rfl rfl (Nat.le_refl _) (Nat.le_refl _) ?_
    exact kF e8 w1 h1 o1
  · have e9 : ¬ nI n = 8 := fun q => e8 ((nI_eq (b := 8) (by omega) (by decide)).mp q)
    refine zw_icmp_ne 53 dX9_hint_43 (by decide) (fun _ => ?_) (fun hz => absurd hz (e9))
    refine zw_aload_n dX9_hint_53 rfl ?_
    refine zw_bipush dX9_hint_54 109 (by decide) ?_
    refine zw_iconst dX9_hint_56 3 (by decide) ?_
    refine zw_iload dX9_hint_57 rfl ?_
    refine zw_imul dX9_hint_59 ?_
    refine zw_iadd dX9_hint_60 ?_
    refine zw_top (y := nI (109 + 3 * n)) (by rw [← nI_add, ← pk_mul]; rfl) ?_
    refine zw_iload_n dX9_hint_61 rfl ?_
    refine zw_cV2 dX9_hint_62 oX9_put1 kX9_put1 lX9_73 h.1 rfl (Nat.le_of_ble_eq_true rfl) rfl (m_put1 (b := 0) (j := 109 + 3 * n) h hb (by omega) (fun w1 h1 o1 => ?_))
    show Zw _ _ _ 65 [_, _, _, _, _] [] _ _
    refine zw_aload_n dX9_hint_65 rfl ?_
    refine zw_bipush dX9_hint_66 109 (by decide) ?_
    refine zw_iconst dX9_hint_68 3 (by decide) ?_
    refine zw_iload dX9_hint_69 rfl ?_
    refine zw_imul dX9_hint_71 ?_
    refine zw_iadd dX9_hint_72 ?_
    refine zw_iconst dX9_hint_73 1 (by decide) ?_
    refine zw_iadd dX9_hint_74 ?_
    refine zw_top (y := nI (109 + 3 * n + 1)) (by rw [← nI_add, ← nI_add, ← pk_mul]; rfl) ?_
    refine zw_iload_n dX9_hint_75 rfl ?_
    refine zw_cV2 dX9_hint_76 oX9_put1 kX9_put1 lX9_73 h1.1 rfl (Nat.le_of_ble_eq_true rfl) rfl (m_put1 (b := 0) (j := 109 + 3 * n + 1) h1 hb (by omega) (fun w2 h2 o2 => ?_))
    show Zw _ _ _ 79 [_, _, _, _, _] [] _ _
    refine zw_aload_n dX9_hint_79 rfl ?_
    refine zw_bipush dX9_hint_80 109 (by decide) ?_
    refine zw_iconst dX9_hint_82 3 (by decide) ?_
    refine zw_iload dX9_hint_83 rfl ?_
    refine zw_imul dX9_hint_85 ?_
    refine zw_iadd dX9_hint_86 ?_
    refine zw_iconst dX9_hint_87 2 (by decide) ?_
    refine zw_iadd dX9_hint_88 ?_
    refine zw_top (y := nI (109 + 3 * n + 2)) (by rw [← nI_add, ← nI_add, ← pk_mul]; rfl) ?_
    refine zw_iload_n dX9_hint_89 rfl ?_
    refine zw_cV2 dX9_hint_90 oX9_put1 kX9_put1 lX9_73 h2.1 rfl (Nat.le_of_ble_eq_true rfl) rfl (m_put1 (b := 0) (j := 109 + 3 * n + 2) h2 hb (by omega) (fun w3 h3 o3 => ?_))
    show Zw _ _ _ 93 [_, _, _, _, _] [] _ _
    refine zw_aload_n dX9_hint_93 rfl ?_
    refine zw_iconst dX9_hint_94 4 (by decide) ?_
    refine zw_iload dX9_hint_95 rfl ?_
    refine zw_iconst dX9_hint_97 1 (by decide) ?_
    refine zw_iadd dX9_hint_98 ?_
    refine zw_top (y := nI (n + 1)) (nI_1 n) ?_
    refine zw_cV2 dX9_hint_99 oX9_put1 kX9_put1 lX9_73 h3.1 rfl (Nat.le_of_ble_eq_true rfl) rfl (m_put1 (b := 0) (j := 4) h3 hb (by omega) (fun w4 h4 o4 => ?_))
    show Zw _ _ _ 102 [_, _, _, _, _] [] _ _
    refine zw_iload dX9_hint_102 rfl ?_
    refine zw_ireturn .int dX9_hint_104 rfl rfl (Nat.le_refl _) (Nat.le_refl _) ?_
    exact kA (by omega) w4 h4 (((o1.tr o2).tr o3).tr o4)
end ZMOD11
