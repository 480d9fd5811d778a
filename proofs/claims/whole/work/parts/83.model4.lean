/-! ===== the Model: know, put on, take off, step back ===== -/
theorem mp_ne {A : Nat → Nat → Int32} {b i j : Nat} {v : Int32} (h : ¬ i = j) : mp A b j v 0 (b + i) = A 0 (b + i) := by
  show upd (A 0) (b + j) v (b + i) = _
  unfold upd
  rw [if_neg (by omega)]
theorem mp_eq {A : Nat → Nat → Int32} {b j : Nat} {v : Int32} : mp A b j v 0 (b + j) = v := by
  show upd (A 0) (b + j) v (b + j) = _
  unfold upd
  rw [if_pos rfl]
/-- the deeds moved down by one -/
def shA (A : Nat → Nat → Int32) (b i k : Nat) : Nat → Nat → Int32 := match k with
  | 0 => A
  | k + 1 => shA (mp A b (133 + i) (A 0 (b + (140 + i)))) b (i + 1) k
def kn1 (A : Nat → Nat → Int32) (b u : Nat) : Nat → Nat → Int32 := if u = 12 then mp (shA A b 0 77) b 5 11 else A
/-- what is on the boxes, written as deed u -/
def kn2 (A : Nat → Nat → Int32) (b u i k : Nat) : Nat → Nat → Int32 := match k with
  | 0 => A
  | k + 1 => kn2 (mp A b (133 + 7 * u + i) (mB A b i 4)) b u (i + 1) k
def kn3 (A : Nat → Nat → Int32) (b u n : Nat) : Nat → Nat → Int32 := mp (kn2 A b u 0 n) b 5 (nI (u + 1))
def knA (A : Nat → Nat → Int32) (b u n : Nat) : Nat → Nat → Int32 := kn3 (kn1 A b u) b (if u = 12 then 11 else u) n
theorem shA_lo {b j : Nat} (hj : j < 133) : ∀ (k i : Nat) (A : Nat → Nat → Int32), shA A b i k 0 (b + j) = A 0 (b + j) := by
  intro k
  induction k with
  | zero => intro i A; rfl
  | succ k ih => intro i A; unfold shA; rw [ih, mp_ne (by omega)]
theorem kn2_lo {b j u : Nat} (hj : j < 133) : ∀ (k i : Nat) (A : Nat → Nat → Int32), kn2 A b u i k 0 (b + j) = A 0 (b + j) := by
  intro k
  induction k with
  | zero => intro i A; rfl
  | succ k ih => intro i A; unfold kn2; rw [ih, mp_ne (by omega)]
section ZMOD4
variable {d : Nat} {w w' : ZW} {A : Nat → Nat → Int32} {I : Nat → Int32} {ab be : Int64} {Q : Option Value → ZW → Prop}
theorem m_know2 {b n u : Nat} {w0 : ZW} {R : Nat → Nat → Int32} (hb : I 0 = nI b) (hb8 : b ≤ 651) (hn7 : n ≤ 7) (hu : u < 12) (hK : ∀ w', isM w' (mp R b 5 (nI (u + 1))) I ab be → zOff 74 89 w0 w' → Q none w') : ∀ (k i : Nat) (A : Nat → Nat → Int32) (w : ZW), i + k = n → A 0 b = nI n → A 0 (b + 5) = nI u → kn2 A b u i k = R → isM w A I ab be → zOff 74 89 w0 w → Zw (d + 2) mX9_know z0 51 [some (.ref 74), some (.int (nI i))] [] w Q := by
  intro k
  induction k with
  | zero =>
    intro i A w hi hn h5 hR h ho
    have hR : A = R := hR
    subst hR
    refine zw_iload_n dX9_know_51 rfl ?_
    refine zw_aload_n dX9_know_52 rfl ?_
    refine zw_iconst dX9_know_53 0 (by decide) ?_
    refine zw_cV1 dX9_know_54 oX9_get kX9_get lX9_62 h.1 rfl (Nat.le_of_ble_eq_true rfl) rfl (m_get (j := 0) h hb (by omega) ?_)
    show Zw _ _ _ 57 [_, _] [_, _] _ _
    refine zw_top (hn) ?_
    refine zw_icmp_ge 90 dX9_know_57 (by decide) (fun _ => ?_) (fun hz => absurd (nI_le (by omega) (by omega)) hz)
    refine zw_aload_n dX9_know_90 rfl ?_
    refine zw_iconst dX9_know_91 5 (by decide) ?_
    refine zw_aload_n dX9_know_92 rfl ?_
    refine zw_iconst dX9_know_93 5 (by decide) ?_
    refine zw_cV1 dX9_know_94 oX9_get kX9_get lX9_62 h.1 rfl (Nat.le_of_ble_eq_true rfl) rfl (m_get (j := 5) h hb (by omega) ?_)
    show Zw _ _ _ 97 [_, _] [_, _, _] _ _
    refine zw_top (h5) ?_
    refine zw_iconst dX9_know_97 1 (by decide) ?_
    refine zw_iadd dX9_know_98 ?_
    refine zw_top (nI_1 u) ?_
    refine zw_cV2 dX9_know_99 oX9_put1 kX9_put1 lX9_73 h.1 rfl (Nat.le_of_ble_eq_true rfl) rfl (m_put1 (j := 5) h hb (by omega) (fun w1 h1 o1 => ?_))
    show Zw _ _ _ 102 [_, _] [] _ _
    refine zw_return dX9_know_102 rfl (Nat.le_refl _) (Nat.le_refl _) ?_
    exact hK w1 h1 (ho.tr o1)
  | succ k ih =>
    intro i A w hi hn h5 hR h ho
    refine zw_iload_n dX9_know_51 rfl ?_
    refine zw_aload_n dX9_know_52 rfl ?_
    refine zw_iconst dX9_know_53 0 (by decide) ?_
    refine zw_cV1 dX9_know_54 oX9_get kX9_get lX9_62 h.1 rfl (Nat.le_of_ble_eq_true rfl) rfl (m_get (j := 0) h hb (by omega) ?_)
    show Zw _ _ _ 57 [_, _] [_, _] _ _
    refine zw_top (hn) ?_
    refine zw_icmp_ge 90 dX9_know_57 (by decide) (fun hz => absurd hz (nI_ge (by omega) (by omega))) (fun _ => ?_)
    refine zw_aload_n dX9_know_60 rfl ?_
    refine zw_sipush dX9_know_61 133 (by decide) ?_
    refine zw_bipush dX9_know_64 7 (by decide) ?_
    refine zw_aload_n dX9_know_66 rfl ?_
    refine zw_iconst dX9_know_67 5 (by decide) ?_
    refine zw_cV1 dX9_know_68 oX9_get kX9_get lX9_62 h.1 rfl (Nat.le_of_ble_eq_true rfl) rfl (m_get (j := 5) h hb (by omega) ?_)
    show Zw _ _ _ 71 [_, _] [_, _, _, _] _ _
    refine zw_top (h5) ?_
    refine zw_imul dX9_know_71 ?_
    refine zw_iadd dX9_know_72 ?_
    refine zw_iload_n dX9_know_73 rfl ?_
    refine zw_iadd dX9_know_74 ?_
    refine zw_top (y := nI (133 + 7 * u + i)) (by rw [← nI_add, ← nI_add, ← pk_mul]; rfl) ?_
    refine zw_aload_n dX9_know_75 rfl ?_
    refine zw_iload_n dX9_know_76 rfl ?_
    refine zw_iconst dX9_know_77 4 (by decide) ?_
    refine zw_cV2 dX9_know_78 oX9_ofBox kX9_ofBox lX9_77 h.1 rfl (Nat.le_of_ble_eq_true rfl) rfl (m_ofBox (c := 4) h hb hb8 (by omega) (by decide) ?_)
    show Zw _ _ _ 81 [_, _] [_, _, _] _ _
    refine zw_cV2 dX9_know_81 oX9_put1 kX9_put1 lX9_73 h.1 rfl (Nat.le_of_ble_eq_true rfl) rfl (m_put1 (j := 133 + 7 * u + i) h hb (by omega) (fun w1 h1 o1 => ?_))
    show Zw _ _ _ 84 [_, _] [] _ _
    refine zw_iinc (nI (i + 1)) [_, _] dX9_know_84 rfl (nI_1 i) rfl ?_
    refine zw_goto 51 dX9_know_87 (by decide) ?_
    exact ih (i + 1) _ w1 (by omega) ((mp_ne (i := 0) (by omega)).trans hn) ((mp_ne (by omega)).trans h5) hR h1 (ho.tr o1)
theorem m_know1 {b : Nat} {w0 : ZW} {R : Nat → Nat → Int32} (hb : I 0 = nI b) (hb8 : b ≤ 651) (hK : ∀ w o, isM w R I ab be → zOff 74 89 w0 w → Zw (d + 2) mX9_know z0 42 [some (.ref 74), o] [] w Q) : ∀ (k i : Nat) (A : Nat → Nat → Int32) (w : ZW), i + k = 77 → shA A b i k = R → isM w A I ab be → zOff 74 89 w0 w → Zw (d + 2) mX9_know z0 12 [some (.ref 74), some (.int (nI i))] [] w Q := by
  intro k
  induction k with
  | zero =>
    intro i A w hi hR h ho
    have hR : A = R := hR
    subst hR
    refine zw_iload_n dX9_know_12 rfl ?_
    refine zw_bipush dX9_know_13 77 (by decide) ?_
    refine zw_icmp_ge 42 dX9_know_15 (by decide) (fun _ => ?_) (fun hz => absurd (nI_le (a := 77) (by omega) (by omega)) hz)
    exact hK w _ h ho
  | succ k ih =>
    intro i A w hi hR h ho
    refine zw_iload_n dX9_know_12 rfl ?_
    refine zw_bipush dX9_know_13 77 (by decide) ?_
    refine zw_icmp_ge 42 dX9_know_15 (by decide) (fun hz => absurd hz (nI_ge (b := 77) (by omega) (by omega))) (fun _ => ?_)
    refine zw_aload_n dX9_know_18 rfl ?_
    refine zw_sipush dX9_know_19 133 (by decide) ?_
    refine zw_iload_n dX9_know_22 rfl ?_
    refine zw_iadd dX9_know_23 ?_
    refine zw_top (y := nI (133 + i)) (by rw [← nI_add]; rfl) ?_
    refine zw_aload_n dX9_know_24 rfl ?_
    refine zw_sipush dX9_know_25 140 (by decide) ?_
    refine zw_iload_n dX9_know_28 rfl ?_
    refine zw_iadd dX9_know_29 ?_
    refine zw_top (y := nI (140 + i)) (by rw [← nI_add]; rfl) ?_
    refine zw_cV1 dX9_know_30 oX9_get kX9_get lX9_62 h.1 rfl (Nat.le_of_ble_eq_true rfl) rfl (m_get (j := 140 + i) h hb (by omega) ?_)
    show Zw _ _ _ 33 [_, _] [_, _, _] _ _
    refine zw_cV2 dX9_know_33 oX9_put1 kX9_put1 lX9_73 h.1 rfl (Nat.le_of_ble_eq_true rfl) rfl (m_put1 (j := 133 + i) h hb (by omega) (fun w1 h1 o1 => ?_))
    show Zw _ _ _ 36 [_, _] [] _ _
    refine zw_iinc (nI (i + 1)) [_, _] dX9_know_36 rfl (nI_1 i) rfl ?_
    refine zw_goto 12 dX9_know_39 (by decide) ?_
    exact ih (i + 1) _ w1 (by omega) hR h1 (ho.tr o1)
theorem m_know {b n u : Nat} (h : isM w A I ab be) (hb : I 0 = nI b) (hb8 : b ≤ 651) (hn : A 0 b = nI n) (hn7 : n ≤ 7) (hu : A 0 (b + 5) = nI u) (hu12 : u ≤ 12) (k : ∀ w', isM w' (knA A b u n) I ab be → zOff 74 89 w w' → Q none w') : Zm (d + 2) mX9_know 0 0 [.ref 74] w Q := by
  unfold knA kn3 at k
  refine zm_intro [_, _] oX9_know (Nat.le_of_ble_eq_true rfl) rfl ?_
  refine zw_aload_n dX9_know_0 rfl ?_
  refine zw_iconst dX9_know_1 5 (by decide) ?_
  refine zw_cV1 dX9_know_2 oX9_get kX9_get lX9_62 h.1 rfl (Nat.le_of_ble_eq_true rfl) rfl (m_get (j := 5) h hb (by omega) ?_)
  show Zw _ _ _ 5 [_, _] [_] _ _
  refine zw_top (hu) ?_
  refine zw_bipush dX9_know_5 12 (by decide) ?_
  by_cases h12 : u = 12
  · have e8 : nI u = 12 := by rw [h12]; rfl
    rw [if_pos h12] at k
    have e1 : kn1 A b u = mp (shA A b 0 77) b 5 11 := by unfold kn1; rw [if_pos h12]
    rw [e1] at k
    refine zw_icmp_ne 49 dX9_know_7 (by decide) (fun hz => absurd (e8) hz) (fun _ => ?_)
    refine zw_iconst dX9_know_10 0 (by decide) ?_
    refine zw_istore_n [_, _] dX9_know_11 (Nat.le_of_ble_eq_true rfl) rfl ?_
    refine m_know1 (w0 := w) hb hb8 (fun w1 o h1 o1 => ?_) 77 0 A w (by omega) rfl h zOff.rf
    refine zw_aload_n dX9_know_42 rfl ?_
    refine zw_iconst dX9_know_43 5 (by decide) ?_
    refine zw_bipush dX9_know_44 11 (by decide) ?_
    refine zw_cV2 dX9_know_46 oX9_put1 kX9_put1 lX9_73 h1.1 rfl (Nat.le_of_ble_eq_true rfl) rfl (m_put1 (j := 5) h1 hb (by omega) (fun w2 h2 o2 => ?_))
    show Zw _ _ _ 49 [_, _] [] _ _
    refine zw_iconst dX9_know_49 0 (by decide) ?_
    refine zw_istore_n [_, _] dX9_know_50 (Nat.le_of_ble_eq_true rfl) rfl ?_
    exact m_know2 (w0 := w) (u := 11) hb hb8 hn7 (by decide) k n 0 _ w2 (by omega) (((mp_ne (i := 0) (by decide)).trans (shA_lo (j := 0) (by decide) 77 0 A)).trans hn) mp_eq rfl h2 (o1.tr o2)
  · have e8 : ¬ nI u = 12 := fun z => h12 ((nI_eq (b := 12) (by omega) (by decide)).mp z)
    rw [if_neg h12] at k
    have e1 : kn1 A b u = A := by unfold kn1; rw [if_neg h12]
    rw [e1] at k
    refine zw_icmp_ne 49 dX9_know_7 (by decide) (fun _ => ?_) (fun hz => absurd hz (e8))
    refine zw_iconst dX9_know_49 0 (by decide) ?_
    refine zw_istore_n [_, _] dX9_know_50 (Nat.le_of_ble_eq_true rfl) rfl ?_
    exact m_know2 (w0 := w) (u := u) hb hb8 hn7 (by omega) k n 0 A w (by omega) hn hu rfl h zOff.rf
theorem m_putOn {b n l u : Nat} {x y : Int32} (h : isM w A I ab be) (hb : I 0 = nI b) (hb8 : b ≤ 651) (hn : A 0 b = nI n) (hn7 : n ≤ 7) (hl : A 0 (b + 1) = nI l) (hl7 : l ≤ 7) (hu : A 0 (b + 5) = nI u) (hu12 : u ≤ 12) (hk : ∀ i, i < l → ∃ j, j < 6 ∧ mLd A b i 0 = nI j) (kB : ((∀ r, r < l → ¬ x = nI r) ∨ ∀ r, r < n → ¬ y = nI r) → Q (some (.int (-2))) w) (kN : ∀ i r, i < l → r < n → x = nI i → y = nI r → ¬ (mFit A b r (mLd A b i 0) (mLd A b i 1) (mLd A b i 2) = true ∧ lstF (fun r => decide (mB A b r 4 = nI i)) 0 n (-1) = -1 ∧ mB A b r 4 = -1) → Q (some (.int (-3))) w) (kA : ∀ i r, i < l → r < n → x = nI i → y = nI r → mFit A b r (mLd A b i 0) (mLd A b i 1) (mLd A b i 2) = true → lstF (fun r => decide (mB A b r 4 = nI i)) 0 n (-1) = -1 → mB A b r 4 = -1 → ∀ w', isM w' (mp (knA A b u n) b (6 + 5 * r + 4) (nI i)) I ab be → zOff 74 89 w w' → Q (some (.int 1)) w') : Zm (d + 5) mX9_putOn 0 0 [.ref 74, .int x, .int y] w Q := by
  refine zm_intro [_, _, _] oX9_putOn (Nat.le_of_ble_eq_true rfl) rfl ?_
  refine zw_aload_n dX9_putOn_0 rfl ?_
  refine zw_iload_n dX9_putOn_1 rfl ?_
  refine zw_cV1 dX9_putOn_2 oX9_isLid kX9_isLid lX9_91 h.1 rfl (Nat.le_of_ble_eq_true rfl) rfl (m_isLid h hb hb8 hl (by omega) (fun i hi ei => ?_) (fun q => ?_))
  · show Zw _ _ _ 5 [_, _, _] [_] _ _
    refine zw_if_eq 16 dX9_putOn_5 (by decide) (fun hz => absurd hz (by decide)) (fun _ => ?_)
    refine zw_aload_n dX9_putOn_8 rfl ?_
    refine zw_iload_n dX9_putOn_9 rfl ?_
    refine zw_cV1 dX9_putOn_10 oX9_isBox kX9_isBox lX9_95 h.1 rfl (Nat.le_of_ble_eq_true rfl) rfl (m_isBox h hb hb8 hn (by omega) (fun r hr er => ?_) (fun q => ?_))
    · have kN' := kN i r hi hr ei er
      have kA' := kA i r hi hr ei er
      subst ei
      subst er
      show Zw _ _ _ 13 [_, _, _] [_] _ _
      refine zw_if_ne 19 dX9_putOn_13 (by decide) (fun _ => ?_) (fun hz => absurd hz (by decide))
      refine zw_aload_n dX9_putOn_19 rfl ?_
      refine zw_iload_n dX9_putOn_20 rfl ?_
      refine zw_iload_n dX9_putOn_21 rfl ?_
      refine zw_cV2 dX9_putOn_22 oX9_doesFit kX9_doesFit lX9_98 h.1 rfl (Nat.le_of_ble_eq_true rfl) rfl (m_doesFit h hb hb8 (by omega) (by omega) (hk i hi) ?_)
      show Zw _ _ _ 25 [_, _, _] [_] _ _
      by_cases hf : mFit A b r (mLd A b i 0) (mLd A b i 1) (mLd A b i 2) = true
      · rw [hf]
        refine zw_if_eq 47 dX9_putOn_25 (by decide) (fun hz => absurd hz (by decide)) (fun _ => ?_)
        refine zw_aload_n dX9_putOn_28 rfl ?_
        refine zw_iload_n dX9_putOn_29 rfl ?_
        refine zw_cV1 dX9_putOn_30 oX9_boxOf kX9_boxOf lX9_102 h.1 rfl (Nat.le_of_ble_eq_true rfl) rfl (m_boxOf h hb hb8 hn hn7 ?_)
        show Zw _ _ _ 33 [_, _, _] [_] _ _
        refine zw_iconst dX9_putOn_33 (-1) (by decide) ?_
        by_cases hx : lstF (fun r => decide (mB A b r 4 = nI i)) 0 n (-1) = -1
        · refine zw_icmp_ne 47 dX9_putOn_34 (by decide) (fun hz => absurd (hx) hz) (fun _ => ?_)
          refine zw_aload_n dX9_putOn_37 rfl ?_
          refine zw_iload_n dX9_putOn_38 rfl ?_
          refine zw_iconst dX9_putOn_39 4 (by decide) ?_
          refine zw_cV2 dX9_putOn_40 oX9_ofBox kX9_ofBox lX9_77 h.1 rfl (Nat.le_of_ble_eq_true rfl) rfl (m_ofBox (c := 4) h hb hb8 (by omega) (by decide) ?_)
          show Zw _ _ _ 43 [_, _, _] [_] _ _
          refine zw_iconst dX9_putOn_43 (-1) (by decide) ?_
          by_cases hy : mB A b r 4 = -1
          · refine zw_icmp_eq 50 dX9_putOn_44 (by decide) (fun _ => ?_) (fun hz => absurd (hy) hz)
            refine zw_aload_n dX9_putOn_50 rfl ?_
            refine zw_cV0 dX9_putOn_51 oX9_know kX9_know lX9_105 h.1 rfl (Nat.le_of_ble_eq_true rfl) rfl (m_know h hb hb8 hn hn7 hu hu12 (fun w1 h1 o1 => ?_))
            show Zw _ _ _ 54 [_, _, _] [] _ _
            refine zw_aload_n dX9_putOn_54 rfl ?_
            refine zw_bipush dX9_putOn_55 6 (by decide) ?_
            refine zw_iconst dX9_putOn_57 5 (by decide) ?_
            refine zw_iload_n dX9_putOn_58 rfl ?_
            refine zw_imul dX9_putOn_59 ?_
            refine zw_iadd dX9_putOn_60 ?_
            refine zw_iconst dX9_putOn_61 4 (by decide) ?_
            refine zw_iadd dX9_putOn_62 ?_
            refine zw_top (y := nI (6 + 5 * r + 4)) (by rw [← nI_add, ← nI_add, ← pk_mul]; rfl) ?_
            refine zw_iload_n dX9_putOn_63 rfl ?_
            refine zw_cV2 dX9_putOn_64 oX9_put1 kX9_put1 lX9_73 h1.1 rfl (Nat.le_of_ble_eq_true rfl) rfl (m_put1 (j := 6 + 5 * r + 4) h1 hb (by omega) (fun w2 h2 o2 => ?_))
            show Zw _ _ _ 67 [_, _, _] [] _ _
            refine zw_iconst dX9_putOn_67 1 (by decide) ?_
            refine zw_ireturn .int dX9_putOn_68 rfl rfl (Nat.le_refl _) (Nat.le_refl _) ?_
            exact kA' hf hx hy w2 h2 (o1.tr o2)
          · refine zw_icmp_eq 50 dX9_putOn_44 (by decide) (fun hz => absurd hz (hy)) (fun _ => ?_)
            refine zw_bipush dX9_putOn_47 (-3) (by decide) ?_
            refine zw_ireturn .int dX9_putOn_49 rfl rfl (Nat.le_refl _) (Nat.le_refl _) ?_
            exact kN' (fun z => hy z.2.2)
        · refine zw_icmp_ne 47 dX9_putOn_34 (by decide) (fun _ => ?_) (fun hz => absurd hz (hx))
          refine zw_bipush dX9_putOn_47 (-3) (by decide) ?_
          refine zw_ireturn .int dX9_putOn_49 rfl rfl (Nat.le_refl _) (Nat.le_refl _) ?_
          exact kN' (fun z => hx z.2.1)
      · have hf' : mFit A b r (mLd A b i 0) (mLd A b i 1) (mLd A b i 2) = false := by simpa using hf
        rw [hf']
        refine zw_if_eq 47 dX9_putOn_25 (by decide) (fun _ => ?_) (fun hz => absurd (by decide) hz)
        refine zw_bipush dX9_putOn_47 (-3) (by decide) ?_
        refine zw_ireturn .int dX9_putOn_49 rfl rfl (Nat.le_refl _) (Nat.le_refl _) ?_
        exact kN' (fun z => hf z.1)
    · show Zw _ _ _ 13 [_, _, _] [_] _ _
      refine zw_if_ne 19 dX9_putOn_13 (by decide) (fun hz => absurd (by decide) hz) (fun _ => ?_)
      refine zw_bipush dX9_putOn_16 (-2) (by decide) ?_
      refine zw_ireturn .int dX9_putOn_18 rfl rfl (Nat.le_refl _) (Nat.le_refl _) ?_
      exact kB (Or.inr q)
  · show Zw _ _ _ 5 [_, _, _] [_] _ _
    refine zw_if_eq 16 dX9_putOn_5 (by decide) (fun _ => ?_) (fun hz => absurd (by decide) hz)
    refine zw_bipush dX9_putOn_16 (-2) (by decide) ?_
    refine zw_ireturn .int dX9_putOn_18 rfl rfl (Nat.le_refl _) (Nat.le_refl _) ?_
    exact kB (Or.inl q)
end ZMOD4
