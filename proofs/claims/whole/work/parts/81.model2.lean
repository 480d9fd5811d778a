/-! ===== the Model: boxes, lids, sorts; what fits (by mkmodel2.py) ===== -/
/-- the last of k places from i on where p holds; f: none -/
def lstF (p : Nat → Bool) (i k : Nat) (f : Int32) : Int32 := match k with
  | 0 => f
  | k + 1 => lstF p (i + 1) k (if p i = true then nI i else f)
abbrev mp (A : Nat → Nat → Int32) (b j : Nat) (v : Int32) : Nat → Nat → Int32 := va_up A 0 (upd (A 0) (b + j) v)
section ZMOD2
variable {d : Nat} {w w' : ZW} {A : Nat → Nat → Int32} {I : Nat → Int32} {ab be : Int64} {Q : Option Value → ZW → Prop}
theorem m_addBox {b n : Nat} {x y z : Int32} (h : isM w A I ab be) (hb : I 0 = nI b) (hb8 : b ≤ 651) (hn : A 0 (b + 0) = nI n) (hn7 : n ≤ 7) (kB : ¬ okBox x y z → Q (some (.int (-2))) w) (kF : okBox x y z → n = 7 → Q (some (.int (-4))) w) (kA : okBox x y z → n < 7 → ∀ w', isM w' (mp (mp (mp (mp (mp (mp (mp A b (6 + 5 * n + 0) x) b (6 + 5 * n + 1) y) b (6 + 5 * n + 2) z) b (6 + 5 * n + 3) 1) b (6 + 5 * n + 4) (-1)) b 0 (nI (n + 1))) b 5 0) I ab be → zOff 74 89 w w' → Q (some (.int (nI n))) w') : Zm (d + 1) mX9_addBox 0 0 [.ref 74, .int x, .int y, .int z] w Q := by
  refine zm_intro [_, _, _, _, _] oX9_addBox (Nat.le_of_ble_eq_true rfl) rfl ?_
  refine zw_iload_n dX9_addBox_0 rfl ?_
  refine zw_iconst dX9_addBox_1 0 (by decide) ?_
  refine zw_iconst dX9_addBox_2 2 (by decide) ?_
  refine zw_cS3 dX9_addBox_3 oX9_in kX9_in lX9_66 (Nat.le_of_ble_eq_true rfl) rfl (m_in (fun p0 r0 => ?_) (fun q => ?_))
  · show Zw _ _ _ 6 [_, _, _, _, _] [_] _ _
    refine zw_if_eq 29 dX9_addBox_6 (by decide) (fun hz => absurd hz (by decide)) (fun _ => ?_)
    refine zw_iload_n dX9_addBox_9 rfl ?_
    refine zw_iconst dX9_addBox_10 1 (by decide) ?_
    refine zw_bipush dX9_addBox_11 9 (by decide) ?_
    refine zw_cS3 dX9_addBox_13 oX9_in kX9_in lX9_66 (Nat.le_of_ble_eq_true rfl) rfl (m_in (fun p1 r1 => ?_) (fun q => ?_))
    · show Zw _ _ _ 16 [_, _, _, _, _] [_] _ _
      refine zw_if_eq 29 dX9_addBox_16 (by decide) (fun hz => absurd hz (by decide)) (fun _ => ?_)
      refine zw_iload_n dX9_addBox_19 rfl ?_
      refine zw_iconst dX9_addBox_20 0 (by decide) ?_
      refine zw_bipush dX9_addBox_21 20 (by decide) ?_
      refine zw_cS3 dX9_addBox_23 oX9_in kX9_in lX9_66 (Nat.le_of_ble_eq_true rfl) rfl (m_in (fun p2 r2 => ?_) (fun q => ?_))
      · show Zw _ _ _ 26 [_, _, _, _, _] [_] _ _
        refine zw_if_ne 32 dX9_addBox_26 (by decide) (fun _ => ?_) (fun hz => absurd hz (by decide))
        refine zw_aload_n dX9_addBox_32 rfl ?_
        refine zw_iconst dX9_addBox_33 0 (by decide) ?_
        have ok : okBox x y z := ⟨⟨p0, r0⟩, ⟨p1, r1⟩, ⟨p2, r2⟩⟩
        refine zw_cV1 dX9_addBox_34 oX9_get kX9_get lX9_62 h.1 rfl (Nat.le_of_ble_eq_true rfl) rfl (m_get (j := 0) h hb (by omega) ?_)
        show Zw _ _ _ 37 [_, _, _, _, _] [_] _ _
        refine zw_top (hn) ?_
        refine zw_istore [_, _, _, _, _] dX9_addBox_37 (Nat.le_of_ble_eq_true rfl) rfl ?_
        refine zw_iload dX9_addBox_39 rfl ?_
        refine zw_bipush dX9_addBox_41 7 (by decide) ?_
        by_cases e7 : n = 7
        · have e8 : nI n = 7 := by rw [e7]; rfl
          refine zw_icmp_ne 49 dX9_addBox_43 (by decide) (fun hz => absurd (e8) hz) (fun _ => ?_)
          refine zw_bipush dX9_addBox_46 (-4) (by decide) ?_
          refine zw_ireturn .int dX9_addBox_48 rfl rfl (Nat.le_refl _) (Nat.le_refl _) ?_
          exact kF ok e7
        · have e8 : ¬ nI n = 7 := fun z => e7 ((nI_eq (b := 7) (by omega) (by decide)).mp z)
          refine zw_icmp_ne 49 dX9_addBox_43 (by decide) (fun _ => ?_) (fun hz => absurd hz (e8))
          refine zw_aload_n dX9_addBox_49 rfl ?_
          refine zw_bipush dX9_addBox_50 6 (by decide) ?_
          refine zw_iconst dX9_addBox_52 5 (by decide) ?_
          refine zw_iload dX9_addBox_53 rfl ?_
          refine zw_imul dX9_addBox_55 ?_
          refine zw_iadd dX9_addBox_56 ?_
          refine zw_iconst dX9_addBox_57 0 (by decide) ?_
          refine zw_iadd dX9_addBox_58 ?_
          refine zw_top (y := nI (6 + 5 * n + 0)) (by rw [← nI_add, ← nI_add, ← pk_mul]; rfl) ?_
          refine zw_iload_n dX9_addBox_59 rfl ?_
          refine zw_cV2 dX9_addBox_60 oX9_put1 kX9_put1 lX9_73 h.1 rfl (Nat.le_of_ble_eq_true rfl) rfl (m_put1 (j := 6 + 5 * n + 0) h hb (by omega) (fun w1 h1 o1 => ?_))
          show Zw _ _ _ 63 [_, _, _, _, _] [] _ _
          refine zw_aload_n dX9_addBox_63 rfl ?_
          refine zw_bipush dX9_addBox_64 6 (by decide) ?_
          refine zw_iconst dX9_addBox_66 5 (by decide) ?_
          refine zw_iload dX9_addBox_67 rfl ?_
          refine zw_imul dX9_addBox_69 ?_
          refine zw_iadd dX9_addBox_70 ?_
          refine zw_iconst dX9_addBox_71 1 (by decide) ?_
          refine zw_iadd dX9_addBox_72 ?_
          refine zw_top (y := nI (6 + 5 * n + 1)) (by rw [← nI_add, ← nI_add, ← pk_mul]; rfl) ?_
          refine zw_iload_n dX9_addBox_73 rfl ?_
          refine zw_cV2 dX9_addBox_74 oX9_put1 kX9_put1 lX9_73 h1.1 rfl (Nat.le_of_ble_eq_true rfl) rfl (m_put1 (j := 6 + 5 * n + 1) h1 hb (by omega) (fun w2 h2 o2 => ?_))
          show Zw _ _ _ 77 [_, _, _, _, _] [] _ _
          refine zw_aload_n dX9_addBox_77 rfl ?_
          refine zw_bipush dX9_addBox_78 6 (by decide) ?_
          refine zw_iconst dX9_addBox_80 5 (by decide) ?_
          refine zw_iload dX9_addBox_81 rfl ?_
          refine zw_imul dX9_addBox_83 ?_
          refine zw_iadd dX9_addBox_84 ?_
          refine zw_iconst dX9_addBox_85 2 (by decide) ?_
          refine zw_iadd dX9_addBox_86 ?_
          refine zw_top (y := nI (6 + 5 * n + 2)) (by rw [← nI_add, ← nI_add, ← pk_mul]; rfl) ?_
          refine zw_iload_n dX9_addBox_87 rfl ?_
          refine zw_cV2 dX9_addBox_88 oX9_put1 kX9_put1 lX9_73 h2.1 rfl (Nat.le_of_ble_eq_true rfl) rfl (m_put1 (j := 6 + 5 * n + 2) h2 hb (by omega) (fun w3 h3 o3 => ?_))
          show Zw _ _ _ 91 [_, _, _, _, _] [] _ _
          refine zw_aload_n dX9_addBox_91 rfl ?_
          refine zw_bipush dX9_addBox_92 6 (by decide) ?_
          refine zw_iconst dX9_addBox_94 5 (by decide) ?_
          refine zw_iload dX9_addBox_95 rfl ?_
          refine zw_imul dX9_addBox_97 ?_
          refine zw_iadd dX9_addBox_98 ?_
          refine zw_iconst dX9_addBox_99 3 (by decide) ?_
          refine zw_iadd dX9_addBox_100 ?_
          refine zw_top (y := nI (6 + 5 * n + 3)) (by rw [← nI_add, ← nI_add, ← pk_mul]; rfl) ?_
          refine zw_iconst dX9_addBox_101 1 (by decide) ?_
          refine zw_cV2 dX9_addBox_102 oX9_put1 kX9_put1 lX9_73 h3.1 rfl (Nat.le_of_ble_eq_true rfl) rfl (m_put1 (j := 6 + 5 * n + 3) h3 hb (by omega) (fun w4 h4 o4 => ?_))
          show Zw _ _ _ 105 [_, _, _, _, _] [] _ _
          refine zw_aload_n dX9_addBox_105 rfl ?_
          refine zw_bipush dX9_addBox_106 6 (by decide) ?_
          refine zw_iconst dX9_addBox_108 5 (by decide) ?_
          refine zw_iload dX9_addBox_109 rfl ?_
          refine zw_imul dX9_addBox_111 ?_
          refine zw_iadd dX9_addBox_112 ?_
          refine zw_iconst dX9_addBox_113 4 (by decide) ?_
          refine zw_iadd dX9_addBox_114 ?_
          refine zw_top (y := nI (6 + 5 * n + 4)) (by rw [← nI_add, ← nI_add, ← pk_mul]; rfl) ?_
          refine zw_iconst dX9_addBox_115 (-1) (by decide) ?_
          refine zw_cV2 dX9_addBox_116 oX9_put1 kX9_put1 lX9_73 h4.1 rfl (Nat.le_of_ble_eq_true rfl) rfl (m_put1 (j := 6 + 5 * n + 4) h4 hb (by omega) (fun w5 h5 o5 => ?_))
          show Zw _ _ _ 119 [_, _, _, _, _] [] _ _
          refine zw_aload_n dX9_addBox_119 rfl ?_
          refine zw_iconst dX9_addBox_120 0 (by decide) ?_
          refine zw_iload dX9_addBox_121 rfl ?_
          refine zw_iconst dX9_addBox_123 1 (by decide) ?_
          refine zw_iadd dX9_addBox_124 ?_
          refine zw_top (y := nI (n + 1)) (nI_1 n) ?_
          refine zw_cV2 dX9_addBox_125 oX9_put1 kX9_put1 lX9_73 h5.1 rfl (Nat.le_of_ble_eq_true rfl) rfl (m_put1 (j := 0) h5 hb (by omega) (fun w6 h6 o6 => ?_))
          show Zw _ _ _ 128 [_, _, _, _, _] [] _ _
          refine zw_aload_n dX9_addBox_128 rfl ?_
          refine zw_iconst dX9_addBox_129 5 (by decide) ?_
          refine zw_iconst dX9_addBox_130 0 (by decide) ?_
          refine zw_cV2 dX9_addBox_131 oX9_put1 kX9_put1 lX9_73 h6.1 rfl (Nat.le_of_ble_eq_true rfl) rfl (m_put1 (j := 5) h6 hb (by omega) (fun w7 h7 o7 => ?_))
          show Zw _ _ _ 134 [_, _, _, _, _] [] _ _
          refine zw_iload dX9_addBox_134 rfl ?_
          refine zw_ireturn .int dX9_addBox_136 rfl rfl (Nat.le_refl _) (Nat.le_refl _) ?_
          exact kA ok (by omega) _ h7 ((((((o1.tr o2).tr o3).tr o4).tr o5).tr o6).tr o7)
      · show Zw _ _ _ 26 [_, _, _, _, _] [_] _ _
        refine zw_if_ne 32 dX9_addBox_26 (by decide) (fun hz => absurd (by decide) hz) (fun _ => ?_)
        refine zw_bipush dX9_addBox_29 (-2) (by decide) ?_
        refine zw_ireturn .int dX9_addBox_31 rfl rfl (Nat.le_refl _) (Nat.le_refl _) ?_
        exact kB (fun z => q z.2.2)
    · show Zw _ _ _ 16 [_, _, _, _, _] [_] _ _
      refine zw_if_eq 29 dX9_addBox_16 (by decide) (fun _ => ?_) (fun hz => absurd (by decide) hz)
      refine zw_bipush dX9_addBox_29 (-2) (by decide) ?_
      refine zw_ireturn .int dX9_addBox_31 rfl rfl (Nat.le_refl _) (Nat.le_refl _) ?_
      exact kB (fun z => q z.2.1)
  · show Zw _ _ _ 6 [_, _, _, _, _] [_] _ _
    refine zw_if_eq 29 dX9_addBox_6 (by decide) (fun _ => ?_) (fun hz => absurd (by decide) hz)
    refine zw_bipush dX9_addBox_29 (-2) (by decide) ?_
    refine zw_ireturn .int dX9_addBox_31 rfl rfl (Nat.le_refl _) (Nat.le_refl _) ?_
    exact kB (fun z => q z.1)
theorem m_addLid {b n : Nat} {x y z : Int32} (h : isM w A I ab be) (hb : I 0 = nI b) (hb8 : b ≤ 651) (hn : A 0 (b + 1) = nI n) (hn7 : n ≤ 7) (kB : ¬ okLid x y z → Q (some (.int (-2))) w) (kF : okLid x y z → n = 7 → Q (some (.int (-4))) w) (kA : okLid x y z → n < 7 → ∀ w', isM w' (mp (mp (mp (mp (mp (mp A b (41 + 4 * n) x) b (41 + 4 * n + 1) y) b (41 + 4 * n + 2) z) b (41 + 4 * n + 3) 5) b 1 (nI (n + 1))) b 5 0) I ab be → zOff 74 89 w w' → Q (some (.int (nI n))) w') : Zm (d + 1) mX9_addLid 0 0 [.ref 74, .int x, .int y, .int z] w Q := by
  refine zm_intro [_, _, _, _, _] oX9_addLid (Nat.le_of_ble_eq_true rfl) rfl ?_
  refine zw_iload_n dX9_addLid_0 rfl ?_
  refine zw_iconst dX9_addLid_1 0 (by decide) ?_
  refine zw_iconst dX9_addLid_2 5 (by decide) ?_
  refine zw_cS3 dX9_addLid_3 oX9_in kX9_in lX9_66 (Nat.le_of_ble_eq_true rfl) rfl (m_in (fun p0 r0 => ?_) (fun q => ?_))
  · show Zw _ _ _ 6 [_, _, _, _, _] [_] _ _
    refine zw_if_eq 28 dX9_addLid_6 (by decide) (fun hz => absurd hz (by decide)) (fun _ => ?_)
    refine zw_iload_n dX9_addLid_9 rfl ?_
    refine zw_iconst dX9_addLid_10 0 (by decide) ?_
    refine zw_iconst dX9_addLid_11 2 (by decide) ?_
    refine zw_cS3 dX9_addLid_12 oX9_in kX9_in lX9_66 (Nat.le_of_ble_eq_true rfl) rfl (m_in (fun p1 r1 => ?_) (fun q => ?_))
    · show Zw _ _ _ 15 [_, _, _, _, _] [_] _ _
      refine zw_if_eq 28 dX9_addLid_15 (by decide) (fun hz => absurd hz (by decide)) (fun _ => ?_)
      refine zw_iload_n dX9_addLid_18 rfl ?_
      refine zw_iconst dX9_addLid_19 1 (by decide) ?_
      refine zw_bipush dX9_addLid_20 9 (by decide) ?_
      refine zw_cS3 dX9_addLid_22 oX9_in kX9_in lX9_66 (Nat.le_of_ble_eq_true rfl) rfl (m_in (fun p2 r2 => ?_) (fun q => ?_))
      · show Zw _ _ _ 25 [_, _, _, _, _] [_] _ _
        refine zw_if_ne 31 dX9_addLid_25 (by decide) (fun _ => ?_) (fun hz => absurd hz (by decide))
        refine zw_aload_n dX9_addLid_31 rfl ?_
        refine zw_iconst dX9_addLid_32 1 (by decide) ?_
        have ok : okLid x y z := ⟨⟨p0, r0⟩, ⟨p1, r1⟩, ⟨p2, r2⟩⟩
        refine zw_cV1 dX9_addLid_33 oX9_get kX9_get lX9_62 h.1 rfl (Nat.le_of_ble_eq_true rfl) rfl (m_get (j := 1) h hb (by omega) ?_)
        show Zw _ _ _ 36 [_, _, _, _, _] [_] _ _
        refine zw_top (hn) ?_
        refine zw_istore [_, _, _, _, _] dX9_addLid_36 (Nat.le_of_ble_eq_true rfl) rfl ?_
        refine zw_iload dX9_addLid_38 rfl ?_
        refine zw_bipush dX9_addLid_40 7 (by decide) ?_
        by_cases e7 : n = 7
        · have e8 : nI n = 7 := by rw [e7]; rfl
          refine zw_icmp_ne 48 dX9_addLid_42 (by decide) (fun hz => absurd (e8) hz) (fun _ => ?_)
          refine zw_bipush dX9_addLid_45 (-4) (by decide) ?_
          refine zw_ireturn .int dX9_addLid_47 rfl rfl (Nat.le_refl _) (Nat.le_refl _) ?_
          exact kF ok e7
        · have e8 : ¬ nI n = 7 := fun z => e7 ((nI_eq (b := 7) (by omega) (by decide)).mp z)
          refine zw_icmp_ne 48 dX9_addLid_42 (by decide) (fun _ => ?_) (fun hz => absurd hz (e8))
          refine zw_aload_n dX9_addLid_48 rfl ?_
          refine zw_bipush dX9_addLid_49 41 (by decide) ?_
          refine zw_iconst dX9_addLid_51 4 (by decide) ?_
          refine zw_iload dX9_addLid_52 rfl ?_
          refine zw_imul dX9_addLid_54 ?_
          refine zw_iadd dX9_addLid_55 ?_
          refine zw_top (y := nI (41 + 4 * n)) (by rw [← nI_add, ← pk_mul]; rfl) ?_
          refine zw_iload_n dX9_addLid_56 rfl ?_
          refine zw_cV2 dX9_addLid_57 oX9_put1 kX9_put1 lX9_73 h.1 rfl (Nat.le_of_ble_eq_true rfl) rfl (m_put1 (j := 41 + 4 * n) h hb (by omega) (fun w1 h1 o1 => ?_))
          show Zw _ _ _ 60 [_, _, _, _, _] [] _ _
          refine zw_aload_n dX9_addLid_60 rfl ?_
          refine zw_bipush dX9_addLid_61 41 (by decide) ?_
          refine zw_iconst dX9_addLid_63 4 (by decide) ?_
          refine zw_iload dX9_addLid_64 rfl ?_
          refine zw_imul dX9_addLid_66 ?_
          refine zw_iadd dX9_addLid_67 ?_
          refine zw_iconst dX9_addLid_68 1 (by decide) ?_
          refine zw_iadd dX9_addLid_69 ?_
          refine zw_top (y := nI (41 + 4 * n + 1)) (by rw [← nI_add, ← nI_add, ← pk_mul]; rfl) ?_
          refine zw_iload_n dX9_addLid_70 rfl ?_
          refine zw_cV2 dX9_addLid_71 oX9_put1 kX9_put1 lX9_73 h1.1 rfl (Nat.le_of_ble_eq_true rfl) rfl (m_put1 (j := 41 + 4 * n + 1) h1 hb (by omega) (fun w2 h2 o2 => ?_))
          show Zw _ _ _ 74 [_, _, _, _, _] [] _ _
          refine zw_aload_n dX9_addLid_74 rfl ?_
          refine zw_bipush dX9_addLid_75 41 (by decide) ?_
          refine zw_iconst dX9_addLid_77 4 (by decide) ?_
          refine zw_iload dX9_addLid_78 rfl ?_
          refine zw_imul dX9_addLid_80 ?_
          refine zw_iadd dX9_addLid_81 ?_
          refine zw_iconst dX9_addLid_82 2 (by decide) ?_
          refine zw_iadd dX9_addLid_83 ?_
          refine zw_top (y := nI (41 + 4 * n + 2)) (by rw [← nI_add, ← nI_add, ← pk_mul]; rfl) ?_
          refine zw_iload_n dX9_addLid_84 rfl ?_
          refine zw_cV2 dX9_addLid_85 oX9_put1 kX9_put1 lX9_73 h2.1 rfl (Nat.le_of_ble_eq_true rfl) rfl (m_put1 (j := 41 + 4 * n + 2) h2 hb (by omega) (fun w3 h3 o3 => ?_))
          show Zw _ _ _ 88 [_, _, _, _, _] [] _ _
          refine zw_aload_n dX9_addLid_88 rfl ?_
          refine zw_bipush dX9_addLid_89 41 (by decide) ?_
          refine zw_iconst dX9_addLid_91 4 (by decide) ?_
          refine zw_iload dX9_addLid_92 rfl ?_
          refine zw_imul dX9_addLid_94 ?_
          refine zw_iadd dX9_addLid_95 ?_
          refine zw_iconst dX9_addLid_96 3 (by decide) ?_
          refine zw_iadd dX9_addLid_97 ?_
          refine zw_top (y := nI (41 + 4 * n + 3)) (by rw [← nI_add, ← nI_add, ← pk_mul]; rfl) ?_
          refine zw_iconst dX9_addLid_98 5 (by decide) ?_
          refine zw_cV2 dX9_addLid_99 oX9_put1 kX9_put1 lX9_73 h3.1 rfl (Nat.le_of_ble_eq_true rfl) rfl (m_put1 (j := 41 + 4 * n + 3) h3 hb (by omega) (fun w4 h4 o4 => ?_))
          show Zw _ _ _ 102 [_, _, _, _, _] [] _ _
          refine zw_aload_n dX9_addLid_102 rfl ?_
          refine zw_iconst dX9_addLid_103 1 (by decide) ?_
          refine zw_iload dX9_addLid_104 rfl ?_
          refine zw_iconst dX9_addLid_106 1 (by decide) ?_
          refine zw_iadd dX9_addLid_107 ?_
          refine zw_top (y := nI (n + 1)) (nI_1 n) ?_
          refine zw_cV2 dX9_addLid_108 oX9_put1 kX9_put1 lX9_73 h4.1 rfl (Nat.le_of_ble_eq_true rfl) rfl (m_put1 (j := 1) h4 hb (by omega) (fun w5 h5 o5 => ?_))
          show Zw _ _ _ 111 [_, _, _, _, _] [] _ _
          refine zw_aload_n dX9_addLid_111 rfl ?_
          refine zw_iconst dX9_addLid_112 5 (by decide) ?_
          refine zw_iconst dX9_addLid_113 0 (by decide) ?_
          refine zw_cV2 dX9_addLid_114 oX9_put1 kX9_put1 lX9_73 h5.1 rfl (Nat.le_of_ble_eq_true rfl) rfl (m_put1 (j := 5) h5 hb (by omega) (fun w6 h6 o6 => ?_))
          show Zw _ _ _ 117 [_, _, _, _, _] [] _ _
          refine zw_iload dX9_addLid_117 rfl ?_
          refine zw_ireturn .int dX9_addLid_119 rfl rfl (Nat.le_refl _) (Nat.le_refl _) ?_
          exact kA ok (by omega) _ h6 (((((o1.tr o2).tr o3).tr o4).tr o5).tr o6)
      · show Zw _ _ _ 25 [_, _, _, _, _] [_] _ _
        refine zw_if_ne 31 dX9_addLid_25 (by decide) (fun hz => absurd (by decide) hz) (fun _ => ?_)
        refine zw_bipush dX9_addLid_28 (-2) (by decide) ?_
        refine zw_ireturn .int dX9_addLid_30 rfl rfl (Nat.le_refl _) (Nat.le_refl _) ?_
        exact kB (fun z => q z.2.2)
    · show Zw _ _ _ 15 [_, _, _, _, _] [_] _ _
      refine zw_if_eq 28 dX9_addLid_15 (by decide) (fun _ => ?_) (fun hz => absurd (by decide) hz)
      refine zw_bipush dX9_addLid_28 (-2) (by decide) ?_
      refine zw_ireturn .int dX9_addLid_30 rfl rfl (Nat.le_refl _) (Nat.le_refl _) ?_
      exact kB (fun z => q z.2.1)
  · show Zw _ _ _ 6 [_, _, _, _, _] [_] _ _
    refine zw_if_eq 28 dX9_addLid_6 (by decide) (fun _ => ?_) (fun hz => absurd (by decide) hz)
    refine zw_bipush dX9_addLid_28 (-2) (by decide) ?_
    refine zw_ireturn .int dX9_addLid_30 rfl rfl (Nat.le_refl _) (Nat.le_refl _) ?_
    exact kB (fun z => q z.1)
theorem m_addSort {b n : Nat} {x y z u : Int32} (h : isM w A I ab be) (hb : I 0 = nI b) (hb8 : b ≤ 651) (hn : A 0 (b + 2) = nI n) (hn7 : n ≤ 4) (kB : ¬ okSort x y z u → Q (some (.int (-2))) w) (kF : okSort x y z u → n = 4 → Q (some (.int (-4))) w) (kA : okSort x y z u → n < 4 → ∀ w', isM w' (mp (mp (mp (mp (mp A b (69 + 4 * n) x) b (69 + 4 * n + 1) y) b (69 + 4 * n + 2) z) b (69 + 4 * n + 3) u) b 2 (nI (n + 1))) I ab be → zOff 74 89 w w' → Q (some (.int (nI n))) w') : Zm (d + 1) mX9_addSort 0 0 [.ref 74, .int x, .int y, .int z, .int u] w Q := by
  refine zm_intro [_, _, _, _, _, _] oX9_addSort (Nat.le_of_ble_eq_true rfl) rfl ?_
  refine zw_iload_n dX9_addSort_0 rfl ?_
  refine zw_iconst dX9_addSort_1 0 (by decide) ?_
  refine zw_iconst dX9_addSort_2 5 (by decide) ?_
  refine zw_cS3 dX9_addSort_3 oX9_in kX9_in lX9_66 (Nat.le_of_ble_eq_true rfl) rfl (m_in (fun p0 r0 => ?_) (fun q => ?_))
  · show Zw _ _ _ 6 [_, _, _, _, _, _] [_] _ _
    refine zw_if_eq 39 dX9_addSort_6 (by decide) (fun hz => absurd hz (by decide)) (fun _ => ?_)
    refine zw_iload_n dX9_addSort_9 rfl ?_
    refine zw_iconst dX9_addSort_10 0 (by decide) ?_
    refine zw_iconst dX9_addSort_11 2 (by decide) ?_
    refine zw_cS3 dX9_addSort_12 oX9_in kX9_in lX9_66 (Nat.le_of_ble_eq_true rfl) rfl (m_in (fun p1 r1 => ?_) (fun q => ?_))
    · show Zw _ _ _ 15 [_, _, _, _, _, _] [_] _ _
      refine zw_if_eq 39 dX9_addSort_15 (by decide) (fun hz => absurd hz (by decide)) (fun _ => ?_)
      refine zw_iload_n dX9_addSort_18 rfl ?_
      refine zw_iconst dX9_addSort_19 1 (by decide) ?_
      refine zw_bipush dX9_addSort_20 9 (by decide) ?_
      refine zw_cS3 dX9_addSort_22 oX9_in kX9_in lX9_66 (Nat.le_of_ble_eq_true rfl) rfl (m_in (fun p2 r2 => ?_) (fun q => ?_))
      · show Zw _ _ _ 25 [_, _, _, _, _, _] [_] _ _
        refine zw_if_eq 39 dX9_addSort_25 (by decide) (fun hz => absurd hz (by decide)) (fun _ => ?_)
        refine zw_iload dX9_addSort_28 rfl ?_
        refine zw_iconst dX9_addSort_30 1 (by decide) ?_
        refine zw_bipush dX9_addSort_31 50 (by decide) ?_
        refine zw_cS3 dX9_addSort_33 oX9_in kX9_in lX9_66 (Nat.le_of_ble_eq_true rfl) rfl (m_in (fun p3 r3 => ?_) (fun q => ?_))
        · show Zw _ _ _ 36 [_, _, _, _, _, _] [_] _ _
          refine zw_if_ne 42 dX9_addSort_36 (by decide) (fun _ => ?_) (fun hz => absurd hz (by decide))
          refine zw_aload_n dX9_addSort_42 rfl ?_
          refine zw_iconst dX9_addSort_43 2 (by decide) ?_
          have ok : okSort x y z u := ⟨⟨⟨p0, r0⟩, ⟨p1, r1⟩, p2, r2⟩, p3, r3⟩
          refine zw_cV1 dX9_addSort_44 oX9_get kX9_get lX9_62 h.1 rfl (Nat.le_of_ble_eq_true rfl) rfl (m_get (j := 2) h hb (by omega) ?_)
          show Zw _ _ _ 47 [_, _, _, _, _, _] [_] _ _
          refine zw_top (hn) ?_
          refine zw_istore [_, _, _, _, _, _] dX9_addSort_47 (Nat.le_of_ble_eq_true rfl) rfl ?_
          refine zw_iload dX9_addSort_49 rfl ?_
          refine zw_iconst dX9_addSort_51 4 (by decide) ?_
          by_cases e7 : n = 4
          · have e8 : nI n = 4 := by rw [e7]; rfl
            refine zw_icmp_ne 58 dX9_addSort_52 (by decide) (fun hz => absurd (e8) hz) (fun _ => ?_)
            refine zw_bipush dX9_addSort_55 (-4) (by decide) ?_
            refine zw_ireturn .int dX9_addSort_57 rfl rfl (Nat.le_refl _) (Nat.le_refl _) ?_
            exact kF ok e7
          · have e8 : ¬ nI n = 4 := fun z => e7 ((nI_eq (b := 4) (by omega) (by decide)).mp z)
            refine zw_icmp_ne 58 dX9_addSort_52 (by decide) (fun _ => ?_) (fun hz => absurd hz (e8))
            refine zw_aload_n dX9_addSort_58 rfl ?_
            refine zw_bipush dX9_addSort_59 69 (by decide) ?_
            refine zw_iconst dX9_addSort_61 4 (by decide) ?_
            refine zw_iload dX9_addSort_62 rfl ?_
            refine zw_imul dX9_addSort_64 ?_
            refine zw_iadd dX9_addSort_65 ?_
            refine zw_top (y := nI (69 + 4 * n)) (by rw [← nI_add, ← pk_mul]; rfl) ?_
            refine zw_iload_n dX9_addSort_66 rfl ?_
            refine zw_cV2 dX9_addSort_67 oX9_put1 kX9_put1 lX9_73 h.1 rfl (Nat.le_of_ble_eq_true rfl) rfl (m_put1 (j := 69 + 4 * n) h hb (by omega) (fun w1 h1 o1 => ?_))
            show Zw _ _ _ 70 [_, _, _, _, _, _] [] _ _
            refine zw_aload_n dX9_addSort_70 rfl ?_
            refine zw_bipush dX9_addSort_71 69 (by decide) ?_
            refine zw_iconst dX9_addSort_73 4 (by decide) ?_
            refine zw_iload dX9_addSort_74 rfl ?_
            refine zw_imul dX9_addSort_76 ?_
            refine zw_iadd dX9_addSort_77 ?_
            refine zw_iconst dX9_addSort_78 1 (by decide) ?_
            refine zw_iadd dX9_addSort_79 ?_
            refine zw_top (y := nI (69 + 4 * n + 1)) (by rw [← nI_add, ← nI_add, ← pk_mul]; rfl) ?_
            refine zw_iload_n dX9_addSort_80 rfl ?_
            refine zw_cV2 dX9_addSort_81 oX9_put1 kX9_put1 lX9_73 h1.1 rfl (Nat.le_of_ble_eq_true rfl) rfl (m_put1 (j := 69 + 4 * n + 1) h1 hb (by omega) (fun w2 h2 o2 => ?_))
            show Zw _ _ _ 84 [_, _, _, _, _, _] [] _ _
            refine zw_aload_n dX9_addSort_84 rfl ?_
            refine zw_bipush dX9_addSort_85 69 (by decide) ?_
            refine zw_iconst dX9_addSort_87 4 (by decide) ?_
            refine zw_iload dX9_addSort_88 rfl ?_
            refine zw_imul dX9_addSort_90 ?_
            refine zw_iadd dX9_addSort_91 ?_
            refine zw_iconst dX9_addSort_92 2 (by decide) ?_
            refine zw_iadd dX9_addSort_93 ?_
            refine zw_top (y := nI (69 + 4 * n + 2)) (by rw [← nI_add, ← nI_add, ← pk_mul]; rfl) ?_
            refine zw_iload_n dX9_addSort_94 rfl ?_
            refine zw_cV2 dX9_addSort_95 oX9_put1 kX9_put1 lX9_73 h2.1 rfl (Nat.le_of_ble_eq_true rfl) rfl (m_put1 (j := 69 + 4 * n + 2) h2 hb (by omega) (fun w3 h3 o3 => ?_))
            show Zw _ _ _ 98 [_, _, _, _, _, _] [] _ _
            refine zw_aload_n dX9_addSort_98 rfl ?_
            refine zw_bipush dX9_addSort_99 69 (by decide) ?_
            refine zw_iconst dX9_addSort_101 4 (by decide) ?_
            refine zw_iload dX9_addSort_102 rfl ?_
            refine zw_imul dX9_addSort_104 ?_
            refine zw_iadd dX9_addSort_105 ?_
            refine zw_iconst dX9_addSort_106 3 (by decide) ?_
            refine zw_iadd dX9_addSort_107 ?_
            refine zw_top (y := nI (69 + 4 * n + 3)) (by rw [← nI_add, ← nI_add, ← pk_mul]; rfl) ?_
            refine zw_iload dX9_addSort_108 rfl ?_
            refine zw_cV2 dX9_addSort_110 oX9_put1 kX9_put1 lX9_73 h3.1 rfl (Nat.le_of_ble_eq_true rfl) rfl (m_put1 (j := 69 + 4 * n + 3) h3 hb (by omega) (fun w4 h4 o4 => ?_))
            show Zw _ _ _ 113 [_, _, _, _, _, _] [] _ _
            refine zw_aload_n dX9_addSort_113 rfl ?_
            refine zw_iconst dX9_addSort_114 2 (by decide) ?_
            refine zw_iload dX9_addSort_115 rfl ?_
            refine zw_iconst dX9_addSort_117 1 (by decide) ?_
            refine zw_iadd dX9_addSort_118 ?_
            refine zw_top (y := nI (n + 1)) (nI_1 n) ?_
            refine zw_cV2 dX9_addSort_119 oX9_put1 kX9_put1 lX9_73 h4.1 rfl (Nat.le_of_ble_eq_true rfl) rfl (m_put1 (j := 2) h4 hb (by omega) (fun w5 h5 o5 => ?_))
            show Zw _ _ _ 122 [_, _, _, _, _, _] [] _ _
            refine zw_iload dX9_addSort_122 rfl ?_
            refine zw_ireturn .int dX9_addSort_124 rfl rfl (Nat.le_refl _) (Nat.le_refl _) ?_
            exact kA ok (by omega) _ h5 ((((o1.tr o2).tr o3).tr o4).tr o5)
        · show Zw _ _ _ 36 [_, _, _, _, _, _] [_] _ _
          refine zw_if_ne 42 dX9_addSort_36 (by decide) (fun hz => absurd (by decide) hz) (fun _ => ?_)
          refine zw_bipush dX9_addSort_39 (-2) (by decide) ?_
          refine zw_ireturn .int dX9_addSort_41 rfl rfl (Nat.le_refl _) (Nat.le_refl _) ?_
          exact kB (fun z => q z.2)
      · show Zw _ _ _ 25 [_, _, _, _, _, _] [_] _ _
        refine zw_if_eq 39 dX9_addSort_25 (by decide) (fun _ => ?_) (fun hz => absurd (by decide) hz)
        refine zw_bipush dX9_addSort_39 (-2) (by decide) ?_
        refine zw_ireturn .int dX9_addSort_41 rfl rfl (Nat.le_refl _) (Nat.le_refl _) ?_
        exact kB (fun z => q z.1.2.2)
    · show Zw _ _ _ 15 [_, _, _, _, _, _] [_] _ _
      refine zw_if_eq 39 dX9_addSort_15 (by decide) (fun _ => ?_) (fun hz => absurd (by decide) hz)
      refine zw_bipush dX9_addSort_39 (-2) (by decide) ?_
      refine zw_ireturn .int dX9_addSort_41 rfl rfl (Nat.le_refl _) (Nat.le_refl _) ?_
      exact kB (fun z => q z.1.2.1)
  · show Zw _ _ _ 6 [_, _, _, _, _, _] [_] _ _
    refine zw_if_eq 39 dX9_addSort_6 (by decide) (fun _ => ?_) (fun hz => absurd (by decide) hz)
    refine zw_bipush dX9_addSort_39 (-2) (by decide) ?_
    refine zw_ireturn .int dX9_addSort_41 rfl rfl (Nat.le_refl _) (Nat.le_refl _) ?_
    exact kB (fun z => q z.1.1)
/-- how the Model reads box r's cell c -/
abbrev mB (A : Nat → Nat → Int32) (b r c : Nat) : Int32 := A 0 (b + (6 + 5 * r + c))
abbrev mLd (A : Nat → Nat → Int32) (b r c : Nat) : Int32 := A 0 (b + (41 + 4 * r + c))
theorem m_isPlain {b r : Nat} {f s : Int32} (h : isM w A I ab be) (hb : I 0 = nI b) (hb8 : b ≤ 651) (hr : r < 7) (k : Q (some (.int (bI (decide (mB A b r 0 = f) && decide (mB A b r 1 = s))))) w) : Zm (d + 2) mX9_isPlain 0 0 [.ref 74, .int f, .int s, .int (nI r)] w Q := by
  refine zm_intro [_, _, _, _] oX9_isPlain (Nat.le_of_ble_eq_true rfl) rfl ?_
  refine zw_aload_n dX9_isPlain_0 rfl ?_
  refine zw_iload_n dX9_isPlain_1 rfl ?_
  refine zw_iconst dX9_isPlain_2 0 (by decide) ?_
  refine zw_cV2 dX9_isPlain_3 oX9_ofBox kX9_ofBox lX9_77 h.1 rfl (Nat.le_of_ble_eq_true rfl) rfl (m_ofBox (c := 0) h hb hb8 hr (by decide) ?_)
  show Zw _ _ _ 6 [_, _, _, _] [_] _ _
  refine zw_iload_n dX9_isPlain_6 rfl ?_
  by_cases h1 : mB A b r 0 = f
  · refine zw_icmp_ne 24 dX9_isPlain_7 (by decide) (fun hz => absurd (h1) hz) (fun _ => ?_)
    refine zw_aload_n dX9_isPlain_10 rfl ?_
    refine zw_iload_n dX9_isPlain_11 rfl ?_
    refine zw_iconst dX9_isPlain_12 1 (by decide) ?_
    refine zw_cV2 dX9_isPlain_13 oX9_ofBox kX9_ofBox lX9_77 h.1 rfl (Nat.le_of_ble_eq_true rfl) rfl (m_ofBox (c := 1) h hb hb8 hr (by decide) ?_)
    show Zw _ _ _ 16 [_, _, _, _] [_] _ _
    refine zw_iload_n dX9_isPlain_16 rfl ?_
    by_cases h2 : mB A b r 1 = s
    · rw [decide_eq_true h1, decide_eq_true h2] at k
      refine zw_icmp_ne 24 dX9_isPlain_17 (by decide) (fun hz => absurd (h2) hz) (fun _ => ?_)
      refine zw_iconst dX9_isPlain_20 1 (by decide) ?_
      refine zw_goto 25 dX9_isPlain_21 (by decide) ?_
      refine zw_ireturn .boolean dX9_isPlain_25 rfl rfl (Nat.le_refl _) (Nat.le_refl _) ?_
      exact k
    · rw [decide_eq_true h1, decide_eq_false h2] at k
      refine zw_icmp_ne 24 dX9_isPlain_17 (by decide) (fun _ => ?_) (fun hz => absurd hz (h2))
      refine zw_iconst dX9_isPlain_24 0 (by decide) ?_
      refine zw_ireturn .boolean dX9_isPlain_25 rfl rfl (Nat.le_refl _) (Nat.le_refl _) ?_
      exact k
  · rw [decide_eq_false h1] at k
    refine zw_icmp_ne 24 dX9_isPlain_7 (by decide) (fun _ => ?_) (fun hz => absurd hz (h1))
    refine zw_iconst dX9_isPlain_24 0 (by decide) ?_
    refine zw_ireturn .boolean dX9_isPlain_25 rfl rfl (Nat.le_refl _) (Nat.le_refl _) ?_
    exact k
theorem m_boxOfL {b n : Nat} {x : Int32} (h : isM w A I ab be) (hb : I 0 = nI b) (hb8 : b ≤ 651) (hn : A 0 b = nI n) (hn7 : n ≤ 7) : ∀ (k i : Nat) (f : Int32), i + k = n → Q (some (.int (lstF (fun r => decide (mB A b r 4 = x)) i k f))) w → Zw (d + 2) mX9_boxOf z0 4 [some (.ref 74), some (.int x), some (.int f), some (.int (nI i))] [] w Q := by
  intro k
  induction k with
  | zero =>
    intro i f hi kk
    refine zw_iload_n dX9_boxOf_4 rfl ?_
    refine zw_aload_n dX9_boxOf_5 rfl ?_
    refine zw_iconst dX9_boxOf_6 0 (by decide) ?_
    refine zw_cV1 dX9_boxOf_7 oX9_get kX9_get lX9_62 h.1 rfl (Nat.le_of_ble_eq_true rfl) rfl (m_get (j := 0) h hb (by omega) ?_)
    show Zw _ _ _ 10 [_, _, _, _] [_, _] _ _
    refine zw_top (hn) ?_
    refine zw_icmp_ge 35 dX9_boxOf_10 (by decide) (fun _ => ?_) (fun hz => absurd (nI_le (by omega) (by omega)) hz)
    refine zw_iload_n dX9_boxOf_35 rfl ?_
    refine zw_ireturn .int dX9_boxOf_36 rfl rfl (Nat.le_refl _) (Nat.le_refl _) ?_
    exact kk
  | succ k ih =>
    intro i f hi kk
    refine zw_iload_n dX9_boxOf_4 rfl ?_
    refine zw_aload_n dX9_boxOf_5 rfl ?_
    refine zw_iconst dX9_boxOf_6 0 (by decide) ?_
    refine zw_cV1 dX9_boxOf_7 oX9_get kX9_get lX9_62 h.1 rfl (Nat.le_of_ble_eq_true rfl) rfl (m_get (j := 0) h hb (by omega) ?_)
    show Zw _ _ _ 10 [_, _, _, _] [_, _] _ _
    refine zw_top (hn) ?_
    refine zw_icmp_ge 35 dX9_boxOf_10 (by decide) (fun hz => absurd hz (nI_ge (by omega) (by omega))) (fun _ => ?_)
    refine zw_aload_n dX9_boxOf_13 rfl ?_
    refine zw_iload_n dX9_boxOf_14 rfl ?_
    refine zw_iconst dX9_boxOf_15 4 (by decide) ?_
    refine zw_cV2 dX9_boxOf_16 oX9_ofBox kX9_ofBox lX9_77 h.1 rfl (Nat.le_of_ble_eq_true rfl) rfl (m_ofBox (c := 4) h hb hb8 (by omega) (by decide) ?_)
    show Zw _ _ _ 19 [_, _, _, _] [_] _ _
    refine zw_iload_n dX9_boxOf_19 rfl ?_
    unfold lstF at kk
    by_cases h1 : mB A b i 4 = x
    · rw [if_pos (decide_eq_true h1)] at kk
      refine zw_icmp_ne 27 dX9_boxOf_20 (by decide) (fun hz => absurd (h1) hz) (fun _ => ?_)
      refine zw_iload_n dX9_boxOf_23 rfl ?_
      refine zw_goto 28 dX9_boxOf_24 (by decide) ?_
      refine zw_istore_n [_, _, _, _] dX9_boxOf_28 (Nat.le_of_ble_eq_true rfl) rfl ?_
      refine zw_iinc (nI (i + 1)) [_, _, _, _] dX9_boxOf_29 rfl (nI_1 i) rfl ?_
      refine zw_goto 4 dX9_boxOf_32 (by decide) ?_
      exact ih (i + 1) _ (by omega) kk
    · rw [if_neg (by simpa using h1)] at kk
      refine zw_icmp_ne 27 dX9_boxOf_20 (by decide) (fun _ => ?_) (fun hz => absurd hz (h1))
      refine zw_iload_n dX9_boxOf_27 rfl ?_
      refine zw_istore_n [_, _, _, _] dX9_boxOf_28 (Nat.le_of_ble_eq_true rfl) rfl ?_
      refine zw_iinc (nI (i + 1)) [_, _, _, _] dX9_boxOf_29 rfl (nI_1 i) rfl ?_
      refine zw_goto 4 dX9_boxOf_32 (by decide) ?_
      exact ih (i + 1) _ (by omega) kk
theorem m_boxOf {b n : Nat} {x : Int32} (h : isM w A I ab be) (hb : I 0 = nI b) (hb8 : b ≤ 651) (hn : A 0 b = nI n) (hn7 : n ≤ 7) (k : Q (some (.int (lstF (fun r => decide (mB A b r 4 = x)) 0 n (-1)))) w) : Zm (d + 2) mX9_boxOf 0 0 [.ref 74, .int x] w Q := by
  refine zm_intro [_, _, _, _] oX9_boxOf (Nat.le_of_ble_eq_true rfl) rfl ?_
  refine zw_iconst dX9_boxOf_0 (-1) (by decide) ?_
  refine zw_istore_n [_, _, _, _] dX9_boxOf_1 (Nat.le_of_ble_eq_true rfl) rfl ?_
  refine zw_iconst dX9_boxOf_2 0 (by decide) ?_
  refine zw_istore_n [_, _, _, _] dX9_boxOf_3 (Nat.le_of_ble_eq_true rfl) rfl ?_
  exact m_boxOfL h hb hb8 hn hn7 n 0 (-1) (by omega) k
end ZMOD2
