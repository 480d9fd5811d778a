/-! ===== the Model: off, undo, grasp, eye, type, clear, on ===== -/
/-- deed u put back on the boxes -/
def unA (A : Nat → Nat → Int32) (b u i k : Nat) : Nat → Nat → Int32 := match k with
  | 0 => A
  | k + 1 => unA (mp A b (6 + 5 * i + 4) (A 0 (b + (133 + 7 * u + i)))) b u (i + 1) k
theorem lstF_is {p : Nat → Bool} {n : Nat} : ∀ (k i : Nat) (f : Int32), i + k ≤ n → (f = -1 ∨ ∃ s, s < n ∧ f = nI s) → (lstF p i k f = -1 ∨ ∃ s, s < n ∧ lstF p i k f = nI s) := by
  intro k
  induction k with
  | zero => intro i f _ h; exact h
  | succ k ih =>
    intro i f hi h
    unfold lstF
    split
    · exact ih _ _ (by omega) (Or.inr ⟨i, by omega, rfl⟩)
    · exact ih _ _ (by omega) h
section ZMOD5
variable {d : Nat} {w w' : ZW} {A : Nat → Nat → Int32} {I : Nat → Int32} {ab be : Int64} {Q : Option Value → ZW → Prop}
theorem m_setGrasp {b n : Nat} {x y : Int32} (h : isM w A I ab be) (hb : I 0 = nI b) (hb8 : b ≤ 651) (hn : A 0 b = nI n) (hn7 : n ≤ 7) (kB : ((∀ r, r < n → ¬ x = nI r) ∨ ¬ (0 ≤ y ∧ y ≤ 9)) → Q (some (.int (-2))) w) (kA : ∀ r, r < n → x = nI r → 0 ≤ y → y ≤ 9 → ∀ w', isM w' (mp A b (6 + 5 * r + 3) y) I ab be → zOff 74 89 w w' → Q (some (.int (mB A b r 3))) w') : Zm (d + 2) mX9_setGrasp 0 0 [.ref 74, .int x, .int y] w Q := by
  refine zm_intro [_, _, _, _] oX9_setGrasp (Nat.le_of_ble_eq_true rfl) rfl ?_
  refine zw_aload_n dX9_setGrasp_0 rfl ?_
  refine zw_iload_n dX9_setGrasp_1 rfl ?_
  refine zw_cV1 dX9_setGrasp_2 oX9_isBox kX9_isBox lX9_95 h.1 rfl (Nat.le_of_ble_eq_true rfl) rfl (m_isBox h hb hb8 hn (by omega) (fun r hr e => ?_) (fun q => ?_))
  · show Zw _ _ _ 5 [_, _, _, _] [_] _ _
    refine zw_if_eq 18 dX9_setGrasp_5 (by decide) (fun hz => absurd hz (by decide)) (fun _ => ?_)
    refine zw_iload_n dX9_setGrasp_8 rfl ?_
    refine zw_iconst dX9_setGrasp_9 0 (by decide) ?_
    refine zw_bipush dX9_setGrasp_10 9 (by decide) ?_
    refine zw_cS3 dX9_setGrasp_12 oX9_in kX9_in lX9_66 (Nat.le_of_ble_eq_true rfl) rfl (m_in (fun p1 p2 => ?_) (fun q => ?_))
    · have kk := kA r hr e p1 p2
      subst e
      show Zw _ _ _ 15 [_, _, _, _] [_] _ _
      refine zw_if_ne 21 dX9_setGrasp_15 (by decide) (fun _ => ?_) (fun hz => absurd hz (by decide))
      refine zw_aload_n dX9_setGrasp_21 rfl ?_
      refine zw_iload_n dX9_setGrasp_22 rfl ?_
      refine zw_iconst dX9_setGrasp_23 3 (by decide) ?_
      refine zw_cV2 dX9_setGrasp_24 oX9_ofBox kX9_ofBox lX9_77 h.1 rfl (Nat.le_of_ble_eq_true rfl) rfl (m_ofBox (c := 3) h hb hb8 (by omega) (by decide) ?_)
      show Zw _ _ _ 27 [_, _, _, _] [_] _ _
      refine zw_istore_n [_, _, _, _] dX9_setGrasp_27 (Nat.le_of_ble_eq_true rfl) rfl ?_
      refine zw_aload_n dX9_setGrasp_28 rfl ?_
      refine zw_bipush dX9_setGrasp_29 6 (by decide) ?_
      refine zw_iconst dX9_setGrasp_31 5 (by decide) ?_
      refine zw_iload_n dX9_setGrasp_32 rfl ?_
      refine zw_imul dX9_setGrasp_33 ?_
      refine zw_iadd dX9_setGrasp_34 ?_
      refine zw_iconst dX9_setGrasp_35 3 (by decide) ?_
      refine zw_iadd dX9_setGrasp_36 ?_
      refine zw_top (y := nI (6 + 5 * r + 3)) (by rw [← nI_add, ← nI_add, ← pk_mul]; rfl) ?_
      refine zw_iload_n dX9_setGrasp_37 rfl ?_
      refine zw_cV2 dX9_setGrasp_38 oX9_put1 kX9_put1 lX9_73 h.1 rfl (Nat.le_of_ble_eq_true rfl) rfl (m_put1 (j := 6 + 5 * r + 3) h hb (by omega) (fun w1 h1 o1 => ?_))
      show Zw _ _ _ 41 [_, _, _, _] [] _ _
      refine zw_iload_n dX9_setGrasp_41 rfl ?_
      refine zw_ireturn .int dX9_setGrasp_42 rfl rfl (Nat.le_refl _) (Nat.le_refl _) ?_
      exact kk w1 h1 o1
    · show Zw _ _ _ 15 [_, _, _, _] [_] _ _
      refine zw_if_ne 21 dX9_setGrasp_15 (by decide) (fun hz => absurd (by decide) hz) (fun _ => ?_)
      refine zw_bipush dX9_setGrasp_18 (-2) (by decide) ?_
      refine zw_ireturn .int dX9_setGrasp_20 rfl rfl (Nat.le_refl _) (Nat.le_refl _) ?_
      exact kB (Or.inr q)
  · show Zw _ _ _ 5 [_, _, _, _] [_] _ _
    refine zw_if_eq 18 dX9_setGrasp_5 (by decide) (fun _ => ?_) (fun hz => absurd (by decide) hz)
    refine zw_bipush dX9_setGrasp_18 (-2) (by decide) ?_
    refine zw_ireturn .int dX9_setGrasp_20 rfl rfl (Nat.le_refl _) (Nat.le_refl _) ?_
    exact kB (Or.inl q)
theorem m_eye {l : Nat} {x y : Int32} (h : isM w A I ab be) (hb : I 0 = nI 0) (hl : A 0 (0 + 1) = nI l) (hl7 : l ≤ 7) (kB : ((∀ r, r < l → ¬ x = nI r) ∨ ¬ (0 ≤ y ∧ y ≤ 10)) → ∀ w', isM w' (toldI A 0 0) I ab be → zOff 74 89 w w' → Q (some (.int (-2))) w') (kA : ∀ r, r < l → x = nI r → 0 ≤ y → y ≤ 10 → ∀ w', isM w' (mp A 0 (41 + 4 * r + 3) y) I ab be → zOff 74 89 w w' → Q (some (.int (mLd A 0 r 3))) w') : Zm (d + 2) mX9_eye 0 0 [.ref 74, .int x, .int y] w Q := by
  refine zm_intro [_, _, _, _] oX9_eye (Nat.le_of_ble_eq_true rfl) rfl ?_
  refine zw_aload_n dX9_eye_0 rfl ?_
  refine zw_iload_n dX9_eye_1 rfl ?_
  refine zw_cV1 dX9_eye_2 oX9_isLid kX9_isLid lX9_91 h.1 rfl (Nat.le_of_ble_eq_true rfl) rfl (m_isLid h hb (by decide) hl (by omega) (fun r hr e => ?_) (fun q => ?_))
  · show Zw _ _ _ 5 [_, _, _, _] [_] _ _
    refine zw_if_eq 18 dX9_eye_5 (by decide) (fun hz => absurd hz (by decide)) (fun _ => ?_)
    refine zw_iload_n dX9_eye_8 rfl ?_
    refine zw_iconst dX9_eye_9 0 (by decide) ?_
    refine zw_bipush dX9_eye_10 10 (by decide) ?_
    refine zw_cS3 dX9_eye_12 oX9_in kX9_in lX9_66 (Nat.le_of_ble_eq_true rfl) rfl (m_in (fun p1 p2 => ?_) (fun q => ?_))
    · have kk := kA r hr e p1 p2
      subst e
      show Zw _ _ _ 15 [_, _, _, _] [_] _ _
      refine zw_if_ne 25 dX9_eye_15 (by decide) (fun _ => ?_) (fun hz => absurd hz (by decide))
      refine zw_aload_n dX9_eye_25 rfl ?_
      refine zw_iload_n dX9_eye_26 rfl ?_
      refine zw_iconst dX9_eye_27 3 (by decide) ?_
      refine zw_cV2 dX9_eye_28 oX9_ofLid kX9_ofLid lX9_84 h.1 rfl (Nat.le_of_ble_eq_true rfl) rfl (m_ofLid (c := 3) h hb (by decide) (by omega) (by decide) ?_)
      show Zw _ _ _ 31 [_, _, _, _] [_] _ _
      refine zw_istore_n [_, _, _, _] dX9_eye_31 (Nat.le_of_ble_eq_true rfl) rfl ?_
      refine zw_aload_n dX9_eye_32 rfl ?_
      refine zw_bipush dX9_eye_33 41 (by decide) ?_
      refine zw_iconst dX9_eye_35 4 (by decide) ?_
      refine zw_iload_n dX9_eye_36 rfl ?_
      refine zw_imul dX9_eye_37 ?_
      refine zw_iadd dX9_eye_38 ?_
      refine zw_iconst dX9_eye_39 3 (by decide) ?_
      refine zw_iadd dX9_eye_40 ?_
      refine zw_top (y := nI (41 + 4 * r + 3)) (by rw [← nI_add, ← nI_add, ← pk_mul]; rfl) ?_
      refine zw_iload_n dX9_eye_41 rfl ?_
      refine zw_cV2 dX9_eye_42 oX9_put1 kX9_put1 lX9_73 h.1 rfl (Nat.le_of_ble_eq_true rfl) rfl (m_put1 (j := 41 + 4 * r + 3) h hb (by omega) (fun w1 h1 o1 => ?_))
      show Zw _ _ _ 45 [_, _, _, _] [] _ _
      refine zw_iload_n dX9_eye_45 rfl ?_
      refine zw_ireturn .int dX9_eye_46 rfl rfl (Nat.le_refl _) (Nat.le_refl _) ?_
      exact kk w1 h1 o1
    · show Zw _ _ _ 15 [_, _, _, _] [_] _ _
      refine zw_if_ne 25 dX9_eye_15 (by decide) (fun hz => absurd (by decide) hz) (fun _ => ?_)
      refine zw_aload_n dX9_eye_18 rfl ?_
      refine zw_bipush dX9_eye_19 (-2) (by decide) ?_
      refine zw_cV1 dX9_eye_21 oX9_told kX9_told lX9_70 h.1 rfl (Nat.le_of_ble_eq_true rfl) rfl (m_toldR (j := 0) (by decide) hb (by decide) h (fun w1 h1 o1 => ?_))
      show Zw _ _ _ 24 [_, _, _, _] [_] _ _
      refine zw_ireturn .int dX9_eye_24 rfl rfl (Nat.le_refl _) (Nat.le_refl _) ?_
      exact kB (Or.inr q) w1 h1 o1
  · show Zw _ _ _ 5 [_, _, _, _] [_] _ _
    refine zw_if_eq 18 dX9_eye_5 (by decide) (fun _ => ?_) (fun hz => absurd (by decide) hz)
    refine zw_aload_n dX9_eye_18 rfl ?_
    refine zw_bipush dX9_eye_19 (-2) (by decide) ?_
    refine zw_cV1 dX9_eye_21 oX9_told kX9_told lX9_70 h.1 rfl (Nat.le_of_ble_eq_true rfl) rfl (m_toldR (j := 0) (by decide) hb (by decide) h (fun w1 h1 o1 => ?_))
    show Zw _ _ _ 24 [_, _, _, _] [_] _ _
    refine zw_ireturn .int dX9_eye_24 rfl rfl (Nat.le_refl _) (Nat.le_refl _) ?_
    exact kB (Or.inl q) w1 h1 o1
theorem m_on {n : Nat} {x : Int32} (h : isM w A I ab be) (hb : I 0 = nI 0) (hn : A 0 0 = nI n) (hn7 : n ≤ 7) (kB : (∀ r, r < n → ¬ x = nI r) → ∀ w', isM w' (toldI A 0 0) I ab be → zOff 74 89 w w' → Q (some (.int (-10))) w') (kA : ∀ r, r < n → x = nI r → Q (some (.int (mB A 0 r 4))) w) : Zm (d + 3) mX9_on 0 0 [.ref 74, .int x] w Q := by
  refine zm_intro [_, _] oX9_on (Nat.le_of_ble_eq_true rfl) rfl ?_
  refine zw_aload_n dX9_on_0 rfl ?_
  refine zw_iload_n dX9_on_1 rfl ?_
  refine zw_cV1 dX9_on_2 oX9_isBox kX9_isBox lX9_95 h.1 rfl (Nat.le_of_ble_eq_true rfl) rfl (m_isBox (b := 0) h hb (by decide) hn (by omega) (fun r hr e => ?_) (fun q => ?_))
  · have kk := kA r hr e
    subst e
    show Zw _ _ _ 5 [_, _] [_] _ _
    refine zw_if_eq 17 dX9_on_5 (by decide) (fun hz => absurd hz (by decide)) (fun _ => ?_)
    refine zw_aload_n dX9_on_8 rfl ?_
    refine zw_iload_n dX9_on_9 rfl ?_
    refine zw_iconst dX9_on_10 4 (by decide) ?_
    refine zw_cV2 dX9_on_11 oX9_ofBox kX9_ofBox lX9_77 h.1 rfl (Nat.le_of_ble_eq_true rfl) rfl (m_ofBox (c := 4) h hb (by decide) (by omega) (by decide) ?_)
    show Zw _ _ _ 14 [_, _] [_] _ _
    refine zw_goto 21 dX9_on_14 (by decide) ?_
    refine zw_ireturn .int dX9_on_21 rfl rfl (Nat.le_refl _) (Nat.le_refl _) ?_
    exact kk
  · show Zw _ _ _ 5 [_, _] [_] _ _
    refine zw_if_eq 17 dX9_on_5 (by decide) (fun _ => ?_) (fun hz => absurd (by decide) hz)
    refine zw_aload_n dX9_on_17 rfl ?_
    refine zw_cV0 dX9_on_18 oX9_bad10 kX9_bad10 lX9_118 h.1 rfl (Nat.le_of_ble_eq_true rfl) rfl (m_bad10 hb (by decide) h (fun w1 h1 o1 => ?_))
    show Zw _ _ _ 21 [_, _] [_] _ _
    refine zw_ireturn .int dX9_on_21 rfl rfl (Nat.le_refl _) (Nat.le_refl _) ?_
    exact kB q w1 h1 o1
theorem m_off {n l u : Nat} {x : Int32} (h : isM w A I ab be) (hb : I 0 = nI 0) (hn : A 0 0 = nI n) (hn7 : n ≤ 7) (hl : A 0 (0 + 1) = nI l) (hl7 : l ≤ 7) (hu : A 0 (0 + 5) = nI u) (hu12 : u ≤ 12) (kB : (∀ r, r < l → ¬ x = nI r) → ∀ w', isM w' (toldI A 0 0) I ab be → zOff 74 89 w w' → Q (some (.int (-2))) w') (kN : ∀ i, i < l → x = nI i → lstF (fun r => decide (mB A 0 r 4 = nI i)) 0 n (-1) = -1 → ∀ w', isM w' (toldI A 0 1) I ab be → zOff 74 89 w w' → Q (some (.int (-3))) w') (kA : ∀ i r, i < l → r < n → x = nI i → lstF (fun r => decide (mB A 0 r 4 = nI i)) 0 n (-1) = nI r → ∀ w', isM w' (mp (knA A 0 u n) 0 (6 + 5 * r + 4) (-1)) I ab be → zOff 74 89 w w' → Q (some (.int (nI r))) w') : Zm (d + 3) mX9_off 0 0 [.ref 74, .int x] w Q := by
  refine zm_intro [_, _, _] oX9_off (Nat.le_of_ble_eq_true rfl) rfl ?_
  refine zw_aload_n dX9_off_0 rfl ?_
  refine zw_iload_n dX9_off_1 rfl ?_
  refine zw_cV1 dX9_off_2 oX9_isLid kX9_isLid lX9_91 h.1 rfl (Nat.le_of_ble_eq_true rfl) rfl (m_isLid h hb (by decide) hl (by omega) (fun i hi e => ?_) (fun q => ?_))
  · have kN' := kN i hi e
    have kA' := fun r hr => kA i r hi hr e
    subst e
    show Zw _ _ _ 5 [_, _, _] [_] _ _
    refine zw_if_ne 15 dX9_off_5 (by decide) (fun _ => ?_) (fun hz => absurd hz (by decide))
    refine zw_aload_n dX9_off_15 rfl ?_
    refine zw_iload_n dX9_off_16 rfl ?_
    refine zw_cV1 dX9_off_17 oX9_boxOf kX9_boxOf lX9_102 h.1 rfl (Nat.le_of_ble_eq_true rfl) rfl (m_boxOf (b := 0) h hb (by decide) hn hn7 ?_)
    show Zw _ _ _ 20 [_, _, _] [_] _ _
    rcases lstF_is (p := fun r => decide (mB A 0 r 4 = nI i)) (n := n) n 0 (-1) (by omega) (Or.inl rfl) with e | ⟨r, hr, e⟩
    · rw [e]
      refine zw_istore_n [_, _, _] dX9_off_20 (Nat.le_of_ble_eq_true rfl) rfl ?_
      refine zw_iload_n dX9_off_21 rfl ?_
      refine zw_iconst dX9_off_22 (-1) (by decide) ?_
      refine zw_icmp_ne 33 dX9_off_23 (by decide) (fun hz => absurd (rfl) hz) (fun _ => ?_)
      refine zw_aload_n dX9_off_26 rfl ?_
      refine zw_bipush dX9_off_27 (-3) (by decide) ?_
      refine zw_cV1 dX9_off_29 oX9_told kX9_told lX9_70 h.1 rfl (Nat.le_of_ble_eq_true rfl) rfl (m_toldR (j := 1) (by decide) hb (by decide) h (fun w1 h1 o1 => ?_))
      show Zw _ _ _ 32 [_, _, _] [_] _ _
      refine zw_ireturn .int dX9_off_32 rfl rfl (Nat.le_refl _) (Nat.le_refl _) ?_
      exact kN' e w1 h1 o1
    · rw [e]
      have hne : ∀ r, r < 7 → ¬ nI r = -1 := by decide
      refine zw_istore_n [_, _, _] dX9_off_20 (Nat.le_of_ble_eq_true rfl) rfl ?_
      refine zw_iload_n dX9_off_21 rfl ?_
      refine zw_iconst dX9_off_22 (-1) (by decide) ?_
      refine zw_icmp_ne 33 dX9_off_23 (by decide) (fun _ => ?_) (fun hz => absurd hz (hne r (by omega)))
      refine zw_aload_n dX9_off_33 rfl ?_
      refine zw_cV0 dX9_off_34 oX9_know kX9_know lX9_105 h.1 rfl (Nat.le_of_ble_eq_true rfl) rfl (m_know (b := 0) h hb (by decide) hn hn7 hu hu12 (fun w1 h1 o1 => ?_))
      show Zw _ _ _ 37 [_, _, _] [] _ _
      refine zw_aload_n dX9_off_37 rfl ?_
      refine zw_bipush dX9_off_38 6 (by decide) ?_
      refine zw_iconst dX9_off_40 5 (by decide) ?_
      refine zw_iload_n dX9_off_41 rfl ?_
      refine zw_imul dX9_off_42 ?_
      refine zw_iadd dX9_off_43 ?_
      refine zw_iconst dX9_off_44 4 (by decide) ?_
      refine zw_iadd dX9_off_45 ?_
      refine zw_top (y := nI (6 + 5 * r + 4)) (by rw [← nI_add, ← nI_add, ← pk_mul]; rfl) ?_
      refine zw_iconst dX9_off_46 (-1) (by decide) ?_
      refine zw_cV2 dX9_off_47 oX9_put1 kX9_put1 lX9_73 h1.1 rfl (Nat.le_of_ble_eq_true rfl) rfl (m_put1 (j := 6 + 5 * r + 4) h1 hb (by omega) (fun w2 h2 o2 => ?_))
      show Zw _ _ _ 50 [_, _, _] [] _ _
      refine zw_iload_n dX9_off_50 rfl ?_
      refine zw_ireturn .int dX9_off_51 rfl rfl (Nat.le_refl _) (Nat.le_refl _) ?_
      exact kA' r hr e w2 h2 (o1.tr o2)
  · show Zw _ _ _ 5 [_, _, _] [_] _ _
    refine zw_if_ne 15 dX9_off_5 (by decide) (fun hz => absurd (by decide) hz) (fun _ => ?_)
    refine zw_aload_n dX9_off_8 rfl ?_
    refine zw_bipush dX9_off_9 (-2) (by decide) ?_
    refine zw_cV1 dX9_off_11 oX9_told kX9_told lX9_70 h.1 rfl (Nat.le_of_ble_eq_true rfl) rfl (m_toldR (j := 0) (by decide) hb (by decide) h (fun w1 h1 o1 => ?_))
    show Zw _ _ _ 14 [_, _, _] [_] _ _
    refine zw_ireturn .int dX9_off_14 rfl rfl (Nat.le_refl _) (Nat.le_refl _) ?_
    exact kB q w1 h1 o1
theorem m_undoL {n u : Nat} {w0 : ZW} {R : Nat → Nat → Int32} (hb : I 0 = nI 0) (hn7 : n ≤ 7) (hu : u < 12) (hK : ∀ w', isM w' R I ab be → zOff 74 89 w0 w' → Q (some (.int 1)) w') : ∀ (k i : Nat) (A : Nat → Nat → Int32) (w : ZW), i + k = n → A 0 0 = nI n → A 0 (0 + 5) = nI u → unA A 0 u i k = R → isM w A I ab be → zOff 74 89 w0 w → Zw (d + 1) mX9_undo z0 29 [some (.ref 74), some (.int (nI i))] [] w Q := by
  intro k
  induction k with
  | zero =>
    intro i A w hi hn h5 hR h ho
    have hR : A = R := hR
    subst hR
    refine zw_iload_n dX9_undo_29 rfl ?_
    refine zw_aload_n dX9_undo_30 rfl ?_
    refine zw_iconst dX9_undo_31 0 (by decide) ?_
    refine zw_cV1 dX9_undo_32 oX9_get kX9_get lX9_62 h.1 rfl (Nat.le_of_ble_eq_true rfl) rfl (m_get (b := 0) (j := 0) h hb (by omega) ?_)
    show Zw _ _ _ 35 [_, _] [_, _] _ _
    refine zw_top (hn) ?_
    refine zw_icmp_ge 74 dX9_undo_35 (by decide) (fun _ => ?_) (fun hz => absurd (nI_le (by omega) (by omega)) hz)
    refine zw_iconst dX9_undo_74 1 (by decide) ?_
    refine zw_ireturn .int dX9_undo_75 rfl rfl (Nat.le_refl _) (Nat.le_refl _) ?_
    exact hK w h ho
  | succ k ih =>
    intro i A w hi hn h5 hR h ho
    refine zw_iload_n dX9_undo_29 rfl ?_
    refine zw_aload_n dX9_undo_30 rfl ?_
    refine zw_iconst dX9_undo_31 0 (by decide) ?_
    refine zw_cV1 dX9_undo_32 oX9_get kX9_get lX9_62 h.1 rfl (Nat.le_of_ble_eq_true rfl) rfl (m_get (b := 0) (j := 0) h hb (by omega) ?_)
    show Zw _ _ _ 35 [_, _] [_, _] _ _
    refine zw_top (hn) ?_
    refine zw_icmp_ge 74 dX9_undo_35 (by decide) (fun hz => absurd hz (nI_ge (by omega) (by omega))) (fun _ => ?_)
    refine zw_aload_n dX9_undo_38 rfl ?_
    refine zw_bipush dX9_undo_39 6 (by decide) ?_
    refine zw_iconst dX9_undo_41 5 (by decide) ?_
    refine zw_iload_n dX9_undo_42 rfl ?_
    refine zw_imul dX9_undo_43 ?_
    refine zw_iadd dX9_undo_44 ?_
    refine zw_iconst dX9_undo_45 4 (by decide) ?_
    refine zw_iadd dX9_undo_46 ?_
    refine zw_top (y := nI (6 + 5 * i + 4)) (by rw [← nI_add, ← nI_add, ← pk_mul]; rfl) ?_
    refine zw_aload_n dX9_undo_47 rfl ?_
    refine zw_sipush dX9_undo_48 133 (by decide) ?_
    refine zw_bipush dX9_undo_51 7 (by decide) ?_
    refine zw_aload_n dX9_undo_53 rfl ?_
    refine zw_iconst dX9_undo_54 5 (by decide) ?_
    refine zw_cV1 dX9_undo_55 oX9_get kX9_get lX9_62 h.1 rfl (Nat.le_of_ble_eq_true rfl) rfl (m_get (b := 0) (j := 5) h hb (by omega) ?_)
    show Zw _ _ _ 58 [_, _] [_, _, _, _, _, _] _ _
    refine zw_top (h5) ?_
    refine zw_imul dX9_undo_58 ?_
    refine zw_iadd dX9_undo_59 ?_
    refine zw_iload_n dX9_undo_60 rfl ?_
    refine zw_iadd dX9_undo_61 ?_
    refine zw_top (y := nI (133 + 7 * u + i)) (by rw [← nI_add, ← nI_add, ← pk_mul]; rfl) ?_
    refine zw_cV1 dX9_undo_62 oX9_get kX9_get lX9_62 h.1 rfl (Nat.le_of_ble_eq_true rfl) rfl (m_get (b := 0) (j := 133 + 7 * u + i) h hb (by omega) ?_)
    show Zw _ _ _ 65 [_, _] [_, _, _] _ _
    refine zw_cV2 dX9_undo_65 oX9_put1 kX9_put1 lX9_73 h.1 rfl (Nat.le_of_ble_eq_true rfl) rfl (m_put1 (b := 0) (j := 6 + 5 * i + 4) h hb (by omega) (fun w1 h1 o1 => ?_))
    show Zw _ _ _ 68 [_, _] [] _ _
    refine zw_iinc (nI (i + 1)) [_, _] dX9_undo_68 rfl (nI_1 i) rfl ?_
    refine zw_goto 29 dX9_undo_71 (by decide) ?_
    exact ih (i + 1) _ w1 (by omega) ((mp_ne (b := 0) (i := 0) (by omega)).trans hn) ((mp_ne (b := 0) (i := 5) (by omega)).trans h5) hR h1 (ho.tr o1)
theorem m_undo {n u : Nat} (h : isM w A I ab be) (hb : I 0 = nI 0) (hn : A 0 0 = nI n) (hn7 : n ≤ 7) (hu : A 0 (0 + 5) = nI u) (hu12 : u ≤ 12) (kN : u = 0 → ∀ w', isM w' (toldI A 0 1) I ab be → zOff 74 89 w w' → Q (some (.int (-3))) w') (kA : 0 < u → ∀ w', isM w' (unA (mp A 0 5 (nI (u - 1))) 0 (u - 1) 0 n) I ab be → zOff 74 89 w w' → Q (some (.int 1)) w') : Zm (d + 2) mX9_undo 0 0 [.ref 74] w Q := by
  refine zm_intro [_, _] oX9_undo (Nat.le_of_ble_eq_true rfl) rfl ?_
  refine zw_aload_n dX9_undo_0 rfl ?_
  refine zw_iconst dX9_undo_1 5 (by decide) ?_
  refine zw_cV1 dX9_undo_2 oX9_get kX9_get lX9_62 h.1 rfl (Nat.le_of_ble_eq_true rfl) rfl (m_get (b := 0) (j := 5) h hb (by omega) ?_)
  show Zw _ _ _ 5 [_, _] [_] _ _
  refine zw_top (hu) ?_
  by_cases h0 : u = 0
  · have e8 : nI u = 0 := by rw [h0]; rfl
    refine zw_if_ne 15 dX9_undo_5 (by decide) (fun hz => absurd (e8) hz) (fun _ => ?_)
    refine zw_aload_n dX9_undo_8 rfl ?_
    refine zw_bipush dX9_undo_9 (-3) (by decide) ?_
    refine zw_cV1 dX9_undo_11 oX9_told kX9_told lX9_70 h.1 rfl (Nat.le_of_ble_eq_true rfl) rfl (m_toldR (j := 1) (by decide) hb (by decide) h (fun w1 h1 o1 => ?_))
    show Zw _ _ _ 14 [_, _] [_] _ _
    refine zw_ireturn .int dX9_undo_14 rfl rfl (Nat.le_refl _) (Nat.le_refl _) ?_
    exact kN h0 w1 h1 o1
  · refine zw_if_ne 15 dX9_undo_5 (by decide) (fun _ => ?_) (fun hz => absurd hz (nI_ne0 (by omega) (by omega)))
    refine zw_aload_n dX9_undo_15 rfl ?_
    refine zw_iconst dX9_undo_16 5 (by decide) ?_
    refine zw_aload_n dX9_undo_17 rfl ?_
    refine zw_iconst dX9_undo_18 5 (by decide) ?_
    refine zw_cV1 dX9_undo_19 oX9_get kX9_get lX9_62 h.1 rfl (Nat.le_of_ble_eq_true rfl) rfl (m_get (b := 0) (j := 5) h hb (by omega) ?_)
    show Zw _ _ _ 22 [_, _] [_, _, _] _ _
    refine zw_top (hu) ?_
    refine zw_iconst dX9_undo_22 1 (by decide) ?_
    refine zw_isub dX9_undo_23 ?_
    refine zw_top (y := nI (u - 1)) (by obtain ⟨v, rfl⟩ : ∃ v, u = v + 1 := ⟨u - 1, by omega⟩; exact nI_pred v) ?_
    refine zw_cV2 dX9_undo_24 oX9_put1 kX9_put1 lX9_73 h.1 rfl (Nat.le_of_ble_eq_true rfl) rfl (m_put1 (b := 0) (j := 5) h hb (by omega) (fun w1 h1 o1 => ?_))
    show Zw _ _ _ 27 [_, _] [] _ _
    refine zw_iconst dX9_undo_27 0 (by decide) ?_
    refine zw_istore_n [_, _] dX9_undo_28 (Nat.le_of_ble_eq_true rfl) rfl ?_
    exact m_undoL (w0 := w) (u := u - 1) hb hn7 (by omega) (kA (by omega)) n 0 _ w1 (by omega) ((mp_ne (b := 0) (i := 0) (by decide)).trans hn) (mp_eq (b := 0)) rfl h1 o1
end ZMOD5
