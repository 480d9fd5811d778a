/-! ===== the Model: copy, image, from, status, part, forget, clear ===== -/
def cpA (A : Nat → Nat → Int32) (f t i k : Nat) : Nat → Nat → Int32 := match k with
  | 0 => A
  | k + 1 => cpA (va_up A 0 (upd (A 0) (t + i) (A 0 (f + i)))) f t (i + 1) k
section ZMOD6
variable {d : Nat} {w w' : ZW} {A : Nat → Nat → Int32} {I : Nat → Int32} {ab be : Int64} {Q : Option Value → ZW → Prop}
theorem m_copyL {f t : Nat} {w0 : ZW} {R : Nat → Nat → Int32} (hf : f ≤ 651) (ht : t ≤ 651) (hK : ∀ w', isM w' R I ab be → zOff 74 89 w0 w' → Q none w') : ∀ (k i : Nat) (A : Nat → Nat → Int32) (w : ZW), i + k = 217 → cpA A f t i k = R → isM w A I ab be → zOff 74 89 w0 w → Zw d mX9_copy z0 2 [some (.ref 74), some (.int (nI f)), some (.int (nI t)), some (.int (nI i))] [] w Q := by
  intro k
  induction k with
  | zero =>
    intro i A w hi hR h ho
    have hR : A = R := hR
    subst hR
    refine zw_iload_n dX9_copy_2 rfl ?_
    refine zw_sipush dX9_copy_3 217 (by decide) ?_
    refine zw_icmp_ge 31 dX9_copy_6 (by decide) (fun _ => ?_) (fun hz => absurd (nI_le (a := 217) (by omega) (by omega)) hz)
    refine zw_return dX9_copy_31 rfl (Nat.le_refl _) (Nat.le_refl _) ?_
    exact hK w h ho
  | succ k ih =>
    intro i A w hi hR h ho
    refine zw_iload_n dX9_copy_2 rfl ?_
    refine zw_sipush dX9_copy_3 217 (by decide) ?_
    refine zw_icmp_ge 31 dX9_copy_6 (by decide) (fun hz => absurd hz (nI_ge (b := 217) (by omega) (by omega))) (fun _ => ?_)
    refine zw_aload_n dX9_copy_9 rfl ?_
    refine zw_get dX9_copy_10 fX9_7 h.1 rfl ?_
    refine zw_iload_n dX9_copy_13 rfl ?_
    refine zw_iload_n dX9_copy_14 rfl ?_
    refine zw_iadd dX9_copy_15 ?_
    refine zw_top (nI_add ..) ?_
    refine zw_aload_n dX9_copy_16 rfl ?_
    refine zw_get dX9_copy_17 fX9_7 h.1 rfl ?_
    refine zw_iload_n dX9_copy_20 rfl ?_
    refine zw_iload_n dX9_copy_21 rfl ?_
    refine zw_iadd dX9_copy_22 ?_
    refine zw_top (nI_add ..) ?_
    refine zw_iald dX9_copy_23 h.2.1 (vp_in_nI (n := f + i) (by omega) (by decide)) ?_
    rw [nI_clamp (by omega)]
    refine zw_iast dX9_copy_24 h.2.1 (vp_in_nI (n := t + i) (by omega) (by decide)) ?_
    rw [nI_clamp (by omega)]
    refine zw_iinc (nI (i + 1)) [_, _, _, _] dX9_copy_25 rfl (nI_1 i) rfl ?_
    refine zw_goto 2 dX9_copy_28 (by decide) ?_
    exact ih (i + 1) _ _ (by omega) hR h.a0 (ho.tr (zOff.pt (by decide) (by decide)))
theorem m_copy {f t : Nat} (hf : f ≤ 651) (ht : t ≤ 651) (h : isM w A I ab be) (k : ∀ w', isM w' (cpA A f t 0 217) I ab be → zOff 74 89 w w' → Q none w') : Zm d mX9_copy 0 0 [.ref 74, .int (nI f), .int (nI t)] w Q := by
  refine zm_intro [_, _, _, _] oX9_copy (Nat.le_of_ble_eq_true rfl) rfl ?_
  refine zw_iconst dX9_copy_0 0 (by decide) ?_
  refine zw_istore_n [_, _, _, _] dX9_copy_1 (Nat.le_of_ble_eq_true rfl) rfl ?_
  exact m_copyL (w0 := w) hf ht k 217 0 A w (by omega) rfl h zOff.rf
theorem m_status {x : Int32} (h : isM w A I ab be) (hb : I 0 = nI 0) (kB : ¬ (0 ≤ x ∧ x ≤ 2) → ∀ w', isM w' (toldI A 0 0) I ab be → zOff 74 89 w w' → Q (some (.int (-1))) w') (kA : ∀ j, j < 3 → x = nI j → Q (some (.int (A 2 j))) w) : Zm (d + 2) mX9_status 0 0 [.ref 74, .int x] w Q := by
  refine zm_intro [_, _] oX9_status (Nat.le_of_ble_eq_true rfl) rfl ?_
  refine zw_iload_n dX9_status_0 rfl ?_
  refine zw_iconst dX9_status_1 0 (by decide) ?_
  refine zw_iconst dX9_status_2 2 (by decide) ?_
  refine zw_cS3 dX9_status_3 oX9_in kX9_in lX9_66 (Nat.le_of_ble_eq_true rfl) rfl (m_in (fun q1 q2 => ?_) (fun q => ?_))
  · obtain ⟨j, hj, e⟩ := nI_of2 (M := 2) (n := 2) (by decide) (Int32.not_lt.mpr q1) q2
    have kk := kA j (by omega) e
    subst e
    show Zw _ _ _ 6 [_, _] [_] _ _
    refine zw_if_ne 18 dX9_status_6 (by decide) (fun _ => ?_) (fun hz => absurd hz (by decide))
    refine zw_aload_n dX9_status_18 rfl ?_
    refine zw_get dX9_status_19 fX9_17 h.1 rfl ?_
    refine zw_iload_n dX9_status_22 rfl ?_
    refine zw_iald dX9_status_23 h.2.2.2.1 (vp_in_nI (n := j) (by omega) (by decide)) ?_
    rw [nI_clamp (by omega)]
    refine zw_ireturn .int dX9_status_24 rfl rfl (Nat.le_refl _) (Nat.le_refl _) ?_
    exact kk
  · show Zw _ _ _ 6 [_, _] [_] _ _
    refine zw_if_ne 18 dX9_status_6 (by decide) (fun hz => absurd (by decide) hz) (fun _ => ?_)
    refine zw_aload_n dX9_status_9 rfl ?_
    refine zw_bipush dX9_status_10 (-2) (by decide) ?_
    refine zw_cV1 dX9_status_12 oX9_told kX9_told lX9_70 h.1 rfl (Nat.le_of_ble_eq_true rfl) rfl (m_toldR (j := 0) (by decide) hb (by decide) h (fun w1 h1 o1 => ?_))
    show Zw _ _ _ 15 [_, _] [_] _ _
    refine zw_pop dX9_status_15 rfl ?_
    refine zw_iconst dX9_status_16 (-1) (by decide) ?_
    refine zw_ireturn .int dX9_status_17 rfl rfl (Nat.le_refl _) (Nat.le_refl _) ?_
    exact kB q w1 h1 o1
theorem m_part {x : Int32} (h : isM w A I ab be) (hb : I 0 = nI 0) (kB : ¬ (0 ≤ x ∧ x ≤ 1) → ∀ w', isM w' (toldI A 0 0) I ab be → zOff 74 89 w w' → Q (some (.long (-2))) w') (k0 : x = 0 → Q (some (.long ab)) w) (k1 : x = 1 → Q (some (.long be)) w) : Zm (d + 2) mX9_part 0 0 [.ref 74, .int x] w Q := by
  refine zm_intro [_, _] oX9_part (Nat.le_of_ble_eq_true rfl) rfl ?_
  refine zw_iload_n dX9_part_0 rfl ?_
  refine zw_iconst dX9_part_1 0 (by decide) ?_
  refine zw_iconst dX9_part_2 1 (by decide) ?_
  refine zw_cS3 dX9_part_3 oX9_in kX9_in lX9_66 (Nat.le_of_ble_eq_true rfl) rfl (m_in (fun q1 q2 => ?_) (fun q => ?_))
  · obtain ⟨j, hj, e⟩ := nI_of2 (M := 1) (n := 1) (by decide) (Int32.not_lt.mpr q1) q2
    show Zw _ _ _ 6 [_, _] [_] _ _
    refine zw_if_ne 17 dX9_part_6 (by decide) (fun _ => ?_) (fun hz => absurd hz (by decide))
    refine zw_iload_n dX9_part_17 rfl ?_
    have : j = 0 ∨ j = 1 := by omega
    rcases this with rfl | rfl
    · refine zw_if_ne 28 dX9_part_18 (by decide) (fun hz => absurd (e) hz) (fun _ => ?_)
      refine zw_aload_n dX9_part_21 rfl ?_
      refine zw_get dX9_part_22 fX9_210 h.1 rfl ?_
      refine zw_goto 32 dX9_part_25 (by decide) ?_
      refine zw_lreturn dX9_part_32 rfl (Nat.le_refl _) (Nat.le_refl _) ?_
      exact k0 e
    · have ne : ¬ x = 0 := by rw [e]; decide
      refine zw_if_ne 28 dX9_part_18 (by decide) (fun _ => ?_) (fun hz => absurd hz (ne))
      refine zw_aload_n dX9_part_28 rfl ?_
      refine zw_get dX9_part_29 fX9_54 h.1 rfl ?_
      refine zw_lreturn dX9_part_32 rfl (Nat.le_refl _) (Nat.le_refl _) ?_
      exact k1 e
  · show Zw _ _ _ 6 [_, _] [_] _ _
    refine zw_if_ne 17 dX9_part_6 (by decide) (fun hz => absurd (by decide) hz) (fun _ => ?_)
    refine zw_aload_n dX9_part_9 rfl ?_
    refine zw_bipush dX9_part_10 (-2) (by decide) ?_
    refine zw_cV1 dX9_part_12 oX9_told kX9_told lX9_70 h.1 rfl (Nat.le_of_ble_eq_true rfl) rfl (m_toldR (j := 0) (by decide) hb (by decide) h (fun w1 h1 o1 => ?_))
    show Zw _ _ _ 15 [_, _] [_] _ _
    refine zw_i2l dX9_part_15 ?_
    refine zw_lreturn dX9_part_16 rfl (Nat.le_refl _) (Nat.le_refl _) ?_
    exact kB q w1 h1 o1
theorem m_clear (h : isM w A I ab be) (k : ∀ w' I', I' 1 = 0 → (∀ i, ¬ i = 1 → I' i = I i) → isM w' A I' ab be → zOff 74 89 w w' → Q (some (.int (I 1))) w') : Zm d mX9_clear 0 0 [.ref 74] w Q := by
  refine zm_intro [_, _] oX9_clear (Nat.le_of_ble_eq_true rfl) rfl ?_
  refine zw_aload_n dX9_clear_0 rfl ?_
  refine zw_get dX9_clear_1 fX9_129 h.1 rfl ?_
  refine zw_istore_n [_, _] dX9_clear_4 (Nat.le_of_ble_eq_true rfl) rfl ?_
  refine zw_aload_n dX9_clear_5 rfl ?_
  refine zw_iconst dX9_clear_6 0 (by decide) ?_
  refine zw_put dX9_clear_7 pX9_129 h.1 (fun _ => rfl) (fun _ => rfl) (Nat.le_of_ble_eq_true rfl) ?_
  refine zw_iload_n dX9_clear_10 rfl ?_
  refine zw_ireturn .int dX9_clear_11 rfl rfl (Nat.le_refl _) (Nat.le_refl _) ?_
  exact k _ (va_up I 1 0) rfl (fun i hi => by unfold va_up; rw [if_neg hi]) (h.ob (I' := va_up I 1 0)) (zOff.pt (by decide) (by decide))
theorem m_image {x : Int32} (h : isM w A I ab be) (hb : I 0 = nI 0) (kB : ¬ (0 ≤ x ∧ x ≤ 1) → ∀ w', isM w' (toldI A 0 0) I ab be → zOff 74 89 w w' → Q (some (.int (-2))) w') (kA : ∀ j, j < 2 → x = nI j → ∀ w', isM w' (va_up (cpA A 0 (217 * (1 + j)) 0 217) 1 (upd (cpA A 0 (217 * (1 + j)) 0 217 1) j 1)) I ab be → zOff 74 89 w w' → Q (some (.int 1)) w') : Zm (d + 2) mX9_image 0 0 [.ref 74, .int x] w Q := by
  refine zm_intro [_, _] oX9_image (Nat.le_of_ble_eq_true rfl) rfl ?_
  refine zw_iload_n dX9_image_0 rfl ?_
  refine zw_iconst dX9_image_1 0 (by decide) ?_
  refine zw_iconst dX9_image_2 1 (by decide) ?_
  refine zw_cS3 dX9_image_3 oX9_in kX9_in lX9_66 (Nat.le_of_ble_eq_true rfl) rfl (m_in (fun q1 q2 => ?_) (fun q => ?_))
  · obtain ⟨j, hj, e⟩ := nI_of2 (M := 1) (n := 1) (by decide) (Int32.not_lt.mpr q1) q2
    have kk := kA j (by omega) e
    subst e
    show Zw _ _ _ 6 [_, _] [_] _ _
    refine zw_if_ne 16 dX9_image_6 (by decide) (fun _ => ?_) (fun hz => absurd hz (by decide))
    refine zw_aload_n dX9_image_16 rfl ?_
    refine zw_iconst dX9_image_17 0 (by decide) ?_
    refine zw_sipush dX9_image_18 217 (by decide) ?_
    refine zw_iconst dX9_image_21 1 (by decide) ?_
    refine zw_iload_n dX9_image_22 rfl ?_
    refine zw_iadd dX9_image_23 ?_
    refine zw_imul dX9_image_24 ?_
    refine zw_top (y := nI (217 * (1 + j))) (by rw [← pk_mul, ← nI_add]; rfl) ?_
    refine zw_cV2 dX9_image_25 oX9_copy kX9_copy lX9_166 h.1 rfl (Nat.le_of_ble_eq_true rfl) rfl (m_copy (f := 0) (t := 217 * (1 + j)) (by decide) (by omega) h (fun w1 h1 o1 => ?_))
    show Zw _ _ _ 28 [_, _] [] _ _
    refine zw_aload_n dX9_image_28 rfl ?_
    refine zw_get dX9_image_29 fX9_13 h1.1 rfl ?_
    refine zw_iload_n dX9_image_32 rfl ?_
    refine zw_iconst dX9_image_33 1 (by decide) ?_
    refine zw_zast dX9_image_34 h1.2.2.1 (vp_in_nI (n := j) (by omega) (by decide)) ?_
    have e1 : vp_nar .boolean (1 : Int32) = 1 := by decide
    rw [nI_clamp (by omega), e1]
    refine zw_iconst dX9_image_35 1 (by decide) ?_
    refine zw_ireturn .int dX9_image_36 rfl rfl (Nat.le_refl _) (Nat.le_refl _) ?_
    exact kk _ h1.a1 (o1.tr (zOff.pt (by decide) (by decide)))
  · show Zw _ _ _ 6 [_, _] [_] _ _
    refine zw_if_ne 16 dX9_image_6 (by decide) (fun hz => absurd (by decide) hz) (fun _ => ?_)
    refine zw_aload_n dX9_image_9 rfl ?_
    refine zw_bipush dX9_image_10 (-2) (by decide) ?_
    refine zw_cV1 dX9_image_12 oX9_told kX9_told lX9_70 h.1 rfl (Nat.le_of_ble_eq_true rfl) rfl (m_toldR (j := 0) (by decide) hb (by decide) h (fun w1 h1 o1 => ?_))
    show Zw _ _ _ 15 [_, _] [_] _ _
    refine zw_ireturn .int dX9_image_15 rfl rfl (Nat.le_refl _) (Nat.le_refl _) ?_
    exact kB q w1 h1 o1
end ZMOD6
