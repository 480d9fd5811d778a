/-! ===== LidForEach: images, crowds, spare, piles ===== -/
theorem lfF_is {f : Nat → Int32} {nb : Nat} {li : Nat → Int32} {am : Int32} {n : Nat} : ∀ (k i : Nat) (fo le : Int32), i + k ≤ n → (fo = -1 ∨ ∃ s, s < n ∧ fo = nI s) → (lfF f nb li am i k fo le = -1 ∨ ∃ s, s < n ∧ lfF f nb li am i k fo le = nI s) := by
  intro k
  induction k with
  | zero => intro i fo le _ h; exact h
  | succ k ih =>
    intro i fo le hi h
    unfold lfF
    split
    · exact ih _ _ _ (by omega) (Or.inr ⟨i, by omega, rfl⟩)
    · exact ih _ _ _ (by omega) h
/-- the lids that can be spared -/
def cSpare (C : Cup) : Nat := mskF (fun l => decide (cBest C 0 (2 ^ l) = cBest C 0 0)) 0 (C 1).1 0
def cPBest (C : Cup) (t : Nat) : Int32 := bstR (cAround C) (fun _ => 1) (C 0).1 (C 0).1 (C 0).1 t
def cPPart (C : Cup) (a : Nat) : Int32 := prtF (cAround C) (fun _ => 1) (C 0).1 (C 0).1 0 (a + 1) 0 (-1)
section ZL4
variable {d : Nat} {w : ZW} {C I0 I1 : Cup} {len : Nat} {bt : Nat → Int32} {fa fb : Int64} {ki bd no fu : Int32} {Q : Option Value → ZW → Prop}
theorem x_imageAt {x : Int32} (h : isS w C I0 I1 len bt fa fb ki bd no fu) (k0 : x = 0 → Q (some (.ref 27)) w) (k1 : ¬ x = 0 → Q (some (.ref 40)) w) : Zm d mX8_imageAt 0 0 [.ref 0, .int x] w Q := by
  refine zm_intro [_, _] oX8_imageAt (Nat.le_of_ble_eq_true rfl) rfl ?_
  refine zw_iload_n dX8_imageAt_0 rfl ?_
  by_cases hx : x = 0
  · refine zw_if_ne 11 dX8_imageAt_1 (by decide) (fun hz => absurd (hx) hz) (fun _ => ?_)
    refine zw_aload_n dX8_imageAt_4 rfl ?_
    refine zw_get dX8_imageAt_5 fX8_19 h.1 rfl ?_
    refine zw_goto 15 dX8_imageAt_8 (by decide) ?_
    refine zw_areturn _ dX8_imageAt_15 rfl (Nat.le_refl _) (Nat.le_refl _) ?_
    exact k0 hx
  · refine zw_if_ne 11 dX8_imageAt_1 (by decide) (fun _ => ?_) (fun hz => absurd hz (hx))
    refine zw_aload_n dX8_imageAt_11 rfl ?_
    refine zw_get dX8_imageAt_12 fX8_22 h.1 rfl ?_
    refine zw_areturn _ dX8_imageAt_15 rfl (Nat.le_refl _) (Nat.le_refl _) ?_
    exact k1 hx
theorem l_image {x : Int32} (h : isS w C I0 I1 len bt fa fb ki bd no fu) (kB : ¬ (0 ≤ x ∧ x ≤ 1) → ∀ w', isS w' C I0 I1 len bt fa fb ki (bd + 1) no fu → zOff 0 74 w w' → Q (some (.int (-2))) w') (k0 : x = 0 → ∀ w' C', cSame C' C → isS w' C C' I1 len bt fa fb (ki ||| 1) bd no fu → zOff 0 74 w w' → Q (some (.int 1)) w') (k1 : x = 1 → ∀ w' C', cSame C' C → isS w' C I0 C' len bt fa fb (ki ||| 2) bd no fu → zOff 0 74 w w' → Q (some (.int 1)) w') : Zm (d + 3) mX8_image 0 0 [.ref 0, .int x] w Q := by
  refine zm_intro [_, _] oX8_image (Nat.le_of_ble_eq_true rfl) rfl ?_
  refine zw_iload_n dX8_image_0 rfl ?_
  refine zw_iconst dX8_image_1 0 (by decide) ?_
  refine zw_iconst dX8_image_2 1 (by decide) ?_
  refine zw_cS3 dX8_image_3 oX8_within kX8_within lX8_167 (Nat.le_of_ble_eq_true rfl) rfl (x_within (fun q1 q2 => ?_) (fun q => ?_))
  · show Zw _ _ _ 6 [_, _] [_] _ _
    refine zw_if_ne 16 dX8_image_6 (by decide) (fun _ => ?_) (fun hz => absurd hz (by decide))
    refine zw_aload_n dX8_image_16 rfl ?_
    refine zw_iload_n dX8_image_17 rfl ?_
    have h01 : x = 0 ∨ x = 1 := by
      obtain ⟨j, hj, e⟩ := nI_of2 (M := 1) (n := 1) (by decide) (Int32.not_lt.mpr q1) q2
      have : j = 0 ∨ j = 1 := by omega
      rcases this with rfl | rfl
      · exact Or.inl e
      · exact Or.inr e
    rcases h01 with e | e
    · have kk := k0 e
      subst e
      refine zw_cV1 dX8_image_18 oX8_imageAt kX8_imageAt lX8_271 h.1 rfl (Nat.le_of_ble_eq_true rfl) rfl (x_imageAt h (fun _ => ?_) (fun z => absurd rfl z))
      show Zw _ _ _ 21 [_, _] [_] _ _
      refine zw_aload_n dX8_image_21 rfl ?_
      refine zw_get dX8_image_22 fX8_12 h.1 rfl ?_
      refine zw_cV1 dX8_image_25 oX1_become kX1_become lX8_144 h.2.2.2.1.1 rfl (Nat.le_of_ble_eq_true rfl) rfl (c_become h.2.2.2.1 h.2.1 (by decide) (fun w1 C1 s1 c1 o1 => ?_))
      show Zw _ _ _ 28 [_, _] [] _ _
      have g := h.i0 o1 c1
      refine zw_aload_n dX8_image_28 rfl ?_
      refine zw_dup dX8_image_29 rfl ?_
      refine zw_get dX8_image_30 fX8_275 g.1 rfl ?_
      refine zw_iconst dX8_image_33 1 (by decide) ?_
      refine zw_iload_n dX8_image_34 rfl ?_
      refine zw_ishl dX8_image_35 ?_
      refine zw_ior dX8_image_36 ?_
      refine zw_put dX8_image_37 pX8_275 g.1 (fun _ => rfl) (fun _ => rfl) (Nat.le_of_ble_eq_true rfl) ?_
      refine zw_iconst dX8_image_40 1 (by decide) ?_
      refine zw_ireturn .int dX8_image_41 rfl rfl (Nat.le_refl _) (Nat.le_refl _) ?_
      exact kk _ C1 s1 (g.obj (zOff.pt (by decide) (by decide)) g.1.self) ((o1.wd (by decide) (by decide)).tr (zOff.pt (by decide) (by decide)))
    · have kk := k1 e
      subst e
      refine zw_cV1 dX8_image_18 oX8_imageAt kX8_imageAt lX8_271 h.1 rfl (Nat.le_of_ble_eq_true rfl) rfl (x_imageAt h (fun z => absurd z (by decide)) (fun _ => ?_))
      show Zw _ _ _ 21 [_, _] [_] _ _
      refine zw_aload_n dX8_image_21 rfl ?_
      refine zw_get dX8_image_22 fX8_12 h.1 rfl ?_
      refine zw_cV1 dX8_image_25 oX1_become kX1_become lX8_144 h.2.2.2.2.1.1 rfl (Nat.le_of_ble_eq_true rfl) rfl (c_become h.2.2.2.2.1 h.2.1 (by decide) (fun w1 C1 s1 c1 o1 => ?_))
      show Zw _ _ _ 28 [_, _] [] _ _
      have g := h.i1 o1 c1
      refine zw_aload_n dX8_image_28 rfl ?_
      refine zw_dup dX8_image_29 rfl ?_
      refine zw_get dX8_image_30 fX8_275 g.1 rfl ?_
      refine zw_iconst dX8_image_33 1 (by decide) ?_
      refine zw_iload_n dX8_image_34 rfl ?_
      refine zw_ishl dX8_image_35 ?_
      refine zw_ior dX8_image_36 ?_
      refine zw_put dX8_image_37 pX8_275 g.1 (fun _ => rfl) (fun _ => rfl) (Nat.le_of_ble_eq_true rfl) ?_
      refine zw_iconst dX8_image_40 1 (by decide) ?_
      refine zw_ireturn .int dX8_image_41 rfl rfl (Nat.le_refl _) (Nat.le_refl _) ?_
      exact kk _ C1 s1 (g.obj (zOff.pt (by decide) (by decide)) g.1.self) ((o1.wd (by decide) (by decide)).tr (zOff.pt (by decide) (by decide)))
  · show Zw _ _ _ 6 [_, _] [_] _ _
    refine zw_if_ne 16 dX8_image_6 (by decide) (fun hz => absurd (by decide) hz) (fun _ => ?_)
    refine zw_aload_n dX8_image_9 rfl ?_
    refine zw_bipush dX8_image_10 (-2) (by decide) ?_
    refine zw_cV1 dX8_image_12 oX8_told kX8_told lX8_71 h.1 rfl (Nat.le_of_ble_eq_true rfl) rfl (x_toldB h (fun w1 h1 o1 => ?_))
    show Zw _ _ _ 15 [_, _] [_] _ _
    refine zw_ireturn .int dX8_image_15 rfl rfl (Nat.le_refl _) (Nat.le_refl _) ?_
    exact kB q w1 h1 o1
theorem l_from {x : Int32} {m : Nat} (hm : m < 4) (h : isS w C I0 I1 len bt fa fb (nI m) bd no fu) (kB : ¬ (0 ≤ x ∧ x ≤ 1) → ∀ w', isS w' C I0 I1 len bt fa fb (nI m) (bd + 1) no fu → zOff 0 74 w w' → Q (some (.int (-2))) w') (kN : ∀ j, j < 2 → x = nI j → m.testBit j = false → ∀ w', isS w' C I0 I1 len bt fa fb (nI m) bd (no + 1) fu → zOff 0 74 w w' → Q (some (.int (-3))) w') (k0 : x = 0 → m.testBit 0 = true → ∀ w' C', cSame C' I0 → isS w' C' I0 I1 len bt fa fb (nI m) bd no fu → zOff 0 74 w w' → Q (some (.int 1)) w') (k1 : x = 1 → m.testBit 1 = true → ∀ w' C', cSame C' I1 → isS w' C' I0 I1 len bt fa fb (nI m) bd no fu → zOff 0 74 w w' → Q (some (.int 1)) w') : Zm (d + 3) mX8_from 0 0 [.ref 0, .int x] w Q := by
  refine zm_intro [_, _] oX8_from (Nat.le_of_ble_eq_true rfl) rfl ?_
  refine zw_iload_n dX8_from_0 rfl ?_
  refine zw_iconst dX8_from_1 0 (by decide) ?_
  refine zw_iconst dX8_from_2 1 (by decide) ?_
  refine zw_cS3 dX8_from_3 oX8_within kX8_within lX8_167 (Nat.le_of_ble_eq_true rfl) rfl (x_within (fun q1 q2 => ?_) (fun q => ?_))
  · show Zw _ _ _ 6 [_, _] [_] _ _
    refine zw_if_ne 16 dX8_from_6 (by decide) (fun _ => ?_) (fun hz => absurd hz (by decide))
    obtain ⟨j, hj, e⟩ := nI_of2 (M := 1) (n := 1) (by decide) (Int32.not_lt.mpr q1) q2
    have kkN := kN j (by omega) e
    subst e
    refine zw_aload_n dX8_from_16 rfl ?_
    refine zw_get dX8_from_17 fX8_275 h.1 rfl ?_
    refine zw_iload_n dX8_from_20 rfl ?_
    refine zw_ishr dX8_from_21 ?_
    refine zw_iconst dX8_from_22 1 (by decide) ?_
    refine zw_iand dX8_from_23 ?_
    refine zw_top (bit_t m (by omega) j (by omega)) ?_
    by_cases hb : m.testBit j = true
    · rw [if_pos hb]
      refine zw_if_ne 34 dX8_from_24 (by decide) (fun _ => ?_) (fun hz => absurd hz (by decide))
      refine zw_aload_n dX8_from_34 rfl ?_
      refine zw_get dX8_from_35 fX8_12 h.1 rfl ?_
      refine zw_aload_n dX8_from_38 rfl ?_
      refine zw_iload_n dX8_from_39 rfl ?_
      have : j = 0 ∨ j = 1 := by omega
      rcases this with rfl | rfl
      · refine zw_cV1 dX8_from_40 oX8_imageAt kX8_imageAt lX8_271 h.1 rfl (Nat.le_of_ble_eq_true rfl) rfl (x_imageAt h (fun _ => ?_) (fun z => absurd rfl z))
        show Zw _ _ _ 43 [_, _] [_, _] _ _
        refine zw_cV1 dX8_from_43 oX1_become kX1_become lX8_144 h.2.1.1 rfl (Nat.le_of_ble_eq_true rfl) rfl (c_become h.2.1 h.2.2.2.1 (by decide) (fun w1 C1 s1 c1 o1 => ?_))
        show Zw _ _ _ 46 [_, _] [] _ _
        refine zw_iconst dX8_from_46 1 (by decide) ?_
        refine zw_ireturn .int dX8_from_47 rfl rfl (Nat.le_refl _) (Nat.le_refl _) ?_
        exact k0 rfl hb w1 C1 s1 (h.now o1 c1) (o1.wd (by decide) (by decide))
      · refine zw_cV1 dX8_from_40 oX8_imageAt kX8_imageAt lX8_271 h.1 rfl (Nat.le_of_ble_eq_true rfl) rfl (x_imageAt h (fun z => absurd z (by decide)) (fun _ => ?_))
        show Zw _ _ _ 43 [_, _] [_, _] _ _
        refine zw_cV1 dX8_from_43 oX1_become kX1_become lX8_144 h.2.1.1 rfl (Nat.le_of_ble_eq_true rfl) rfl (c_become h.2.1 h.2.2.2.2.1 (by decide) (fun w1 C1 s1 c1 o1 => ?_))
        show Zw _ _ _ 46 [_, _] [] _ _
        refine zw_iconst dX8_from_46 1 (by decide) ?_
        refine zw_ireturn .int dX8_from_47 rfl rfl (Nat.le_refl _) (Nat.le_refl _) ?_
        exact k1 rfl hb w1 C1 s1 (h.now o1 c1) (o1.wd (by decide) (by decide))
    · rw [if_neg hb]
      refine zw_if_ne 34 dX8_from_24 (by decide) (fun hz => absurd (by decide) hz) (fun _ => ?_)
      refine zw_aload_n dX8_from_27 rfl ?_
      refine zw_bipush dX8_from_28 (-3) (by decide) ?_
      refine zw_cV1 dX8_from_30 oX8_told kX8_told lX8_71 h.1 rfl (Nat.le_of_ble_eq_true rfl) rfl (x_toldN h (fun w1 h1 o1 => ?_))
      show Zw _ _ _ 33 [_, _] [_] _ _
      refine zw_ireturn .int dX8_from_33 rfl rfl (Nat.le_refl _) (Nat.le_refl _) ?_
      exact kkN (by simpa using hb) w1 h1 o1
  · show Zw _ _ _ 6 [_, _] [_] _ _
    refine zw_if_ne 16 dX8_from_6 (by decide) (fun hz => absurd (by decide) hz) (fun _ => ?_)
    refine zw_aload_n dX8_from_9 rfl ?_
    refine zw_bipush dX8_from_10 (-2) (by decide) ?_
    refine zw_cV1 dX8_from_12 oX8_told kX8_told lX8_71 h.1 rfl (Nat.le_of_ble_eq_true rfl) rfl (x_toldB h (fun w1 h1 o1 => ?_))
    show Zw _ _ _ 15 [_, _] [_] _ _
    refine zw_ireturn .int dX8_from_15 rfl rfl (Nat.le_refl _) (Nat.le_refl _) ?_
    exact kB q w1 h1 o1
theorem l_lacking (h : isS w C I0 I1 len bt fa fb ki bd no fu) (hk : okK (C 1)) (k : ∀ w' re li, okCr (C 0).1 (cMask C) re li → isS w' C I0 I1 len bt fa fb ki bd no fu → zOff 0 74 w w' → Q (some (.int (nI (shF re 1 (2 ^ (C 0).1 - 1) 0)))) w') : Zm (d + 5) mX8_lacking 0 0 [.ref 0] w Q := by
  obtain ⟨n, re, li, hc⟩ := h.2.2.2.2.2.2.2.1
  refine zm_intro [_] oX8_lacking (Nat.le_of_ble_eq_true rfl) rfl ?_
  refine zw_aload_n dX8_lacking_0 rfl ?_
  refine zw_get dX8_lacking_1 fX8_42 h.1 rfl ?_
  refine zw_aload_n dX8_lacking_4 rfl ?_
  refine zw_get dX8_lacking_5 fX8_12 h.1 rfl ?_
  refine zw_cV1 dX8_lacking_8 oX0_lookAt kX0_lookAt lX8_161 hc.1 rfl (Nat.le_of_ble_eq_true rfl) rfl (cr_lookAt hc h.2.1 (by decide) hk (fun w1 re1 li1 c1 k1 o1 => ?_))
  show Zw _ _ _ 11 [_] [] _ _
  have g := h.cr o1 c1
  refine zw_aload_n dX8_lacking_11 rfl ?_
  refine zw_get dX8_lacking_12 fX8_42 g.1 rfl ?_
  refine zw_cV0 dX8_lacking_15 oX0_shortest kX0_shortest lX8_164 c1.1 rfl (Nat.le_of_ble_eq_true rfl) rfl (cr_shortest c1 k1.2.1 ?_)
  show Zw _ _ _ 18 [_] [_] _ _
  refine zw_ireturn .int dX8_lacking_18 rfl rfl (Nat.le_refl _) (Nat.le_refl _) ?_
  exact k w1 re1 li1 k1 g (o1.wd (by decide) (by decide))
theorem l_soup {x y : Int32} (h : isS w C I0 I1 len bt fa fb ki bd no fu) (hk : okK (C 1)) (kB : ¬ ((0 ≤ x ∧ x ≤ 99) ∧ (0 ≤ y ∧ y ≤ 1)) → ∀ w', isS w' C I0 I1 len bt fa fb ki (bd + 1) no fu → zOff 0 74 w w' → Q (some (.int (-10))) w') (kA : (0 ≤ x ∧ x ≤ 99) → (0 ≤ y ∧ y ≤ 1) → ∀ w' re li, okCr (C 0).1 (cMask C) re li → isS w' C I0 I1 len bt fa fb ki bd no fu → zOff 0 74 w w' → (∀ v, lfF (C 0).2 (C 0).1 li x 0 (2 ^ (C 0).1) (-1) 1073741824 = v → v = -1 ∨ y = 1 → Q (some (.int v)) w') ∧ (∀ s, s < 2 ^ (C 0).1 → lfF (C 0).2 (C 0).1 li x 0 (2 ^ (C 0).1) (-1) 1073741824 = nI s → ¬ y = 1 → Q (some (.int (sumF (C 0).2 s 1 0 (C 0).1 0))) w')) : Zm (d + 5) mX8_soup 0 0 [.ref 0, .int x, .int y] w Q := by
  have hn7 : (C 0).1 ≤ 7 := h.2.1.2.1.2.2.1
  obtain ⟨n, re, li, hc⟩ := h.2.2.2.2.2.2.2.1
  refine zm_intro [_, _, _, _] oX8_soup (Nat.le_of_ble_eq_true rfl) rfl ?_
  refine zw_iload_n dX8_soup_0 rfl ?_
  refine zw_iconst dX8_soup_1 0 (by decide) ?_
  refine zw_bipush dX8_soup_2 99 (by decide) ?_
  refine zw_cS3 dX8_soup_4 oX8_within kX8_within lX8_167 (Nat.le_of_ble_eq_true rfl) rfl (x_within (fun a1 a2 => ?_) (fun q => ?_))
  · show Zw _ _ _ 7 [_, _, _, _] [_] _ _
    refine zw_if_eq 19 dX8_soup_7 (by decide) (fun hz => absurd hz (by decide)) (fun _ => ?_)
    refine zw_iload_n dX8_soup_10 rfl ?_
    refine zw_iconst dX8_soup_11 0 (by decide) ?_
    refine zw_iconst dX8_soup_12 1 (by decide) ?_
    refine zw_cS3 dX8_soup_13 oX8_within kX8_within lX8_167 (Nat.le_of_ble_eq_true rfl) rfl (x_within (fun b1 b2 => ?_) (fun q => ?_))
    · show Zw _ _ _ 16 [_, _, _, _] [_] _ _
      refine zw_if_ne 24 dX8_soup_16 (by decide) (fun _ => ?_) (fun hz => absurd hz (by decide))
      refine zw_aload_n dX8_soup_24 rfl ?_
      refine zw_get dX8_soup_25 fX8_42 h.1 rfl ?_
      refine zw_aload_n dX8_soup_28 rfl ?_
      refine zw_get dX8_soup_29 fX8_12 h.1 rfl ?_
      refine zw_cV1 dX8_soup_32 oX0_lookAt kX0_lookAt lX8_161 hc.1 rfl (Nat.le_of_ble_eq_true rfl) rfl (cr_lookAt hc h.2.1 (by decide) hk (fun w1 re1 li1 c1 k1 o1 => ?_))
      show Zw _ _ _ 35 [_, _, _, _] [] _ _
      have g := h.cr o1 c1
      have kk := kA ⟨a1, a2⟩ ⟨b1, b2⟩ w1 re1 li1 k1 g (o1.wd (by decide) (by decide))
      refine zw_aload_n dX8_soup_35 rfl ?_
      refine zw_get dX8_soup_36 fX8_42 g.1 rfl ?_
      refine zw_aload_n dX8_soup_39 rfl ?_
      refine zw_get dX8_soup_40 fX8_12 g.1 rfl ?_
      refine zw_iload_n dX8_soup_43 rfl ?_
      refine zw_cV2 dX8_soup_44 oX0_leastFor kX0_leastFor lX8_171 c1.1 rfl (Nat.le_of_ble_eq_true rfl) rfl (cr_leastFor c1 g.2.1 ?_)
      show Zw _ _ _ 47 [_, _, _, _] [_] _ _
      refine zw_istore_n [_, _, _, _] dX8_soup_47 (Nat.le_of_ble_eq_true rfl) rfl ?_
      refine zw_iload_n dX8_soup_48 rfl ?_
      refine zw_iconst dX8_soup_49 (-1) (by decide) ?_
      by_cases hv : lfF (C 0).2 (C 0).1 li1 x 0 (2 ^ (C 0).1) (-1) 1073741824 = -1
      · refine zw_icmp_eq 58 dX8_soup_50 (by decide) (fun _ => ?_) (fun hz => absurd (hv) hz)
        refine zw_iload_n dX8_soup_58 rfl ?_
        refine zw_ireturn .int dX8_soup_59 rfl rfl (Nat.le_refl _) (Nat.le_refl _) ?_
        exact kk.1 _ rfl (Or.inl hv)
      · refine zw_icmp_eq 58 dX8_soup_50 (by decide) (fun hz => absurd hz (hv)) (fun _ => ?_)
        refine zw_iload_n dX8_soup_53 rfl ?_
        refine zw_iconst dX8_soup_54 1 (by decide) ?_
        by_cases hy : y = 1
        · refine zw_icmp_ne 60 dX8_soup_55 (by decide) (fun hz => absurd (hy) hz) (fun _ => ?_)
          refine zw_iload_n dX8_soup_58 rfl ?_
          refine zw_ireturn .int dX8_soup_59 rfl rfl (Nat.le_refl _) (Nat.le_refl _) ?_
          exact kk.1 _ rfl (Or.inr hy)
        · refine zw_icmp_ne 60 dX8_soup_55 (by decide) (fun _ => ?_) (fun hz => absurd hz (hy))
          rcases lfF_is (f := (C 0).2) (nb := (C 0).1) (li := li1) (am := x) (n := 2 ^ (C 0).1) (2 ^ (C 0).1) 0 (-1) 1073741824 (by omega) (Or.inl rfl) with z | ⟨s, hs, z⟩
          · exact absurd z hv
          · have hp := pow_c hn7
            have k2 := kk.2 s hs z hy
            rw [z]
            refine zw_aload_n dX8_soup_60 rfl ?_
            refine zw_get dX8_soup_61 fX8_12 g.1 rfl ?_
            refine zw_iload_n dX8_soup_64 rfl ?_
            refine zw_iconst dX8_soup_65 1 (by decide) ?_
            refine zw_cV2 dX8_soup_66 oX1_sumOver kX1_sumOver lX8_175 g.2.1.1 rfl (Nat.le_of_ble_eq_true rfl) rfl (c_sumOver (s := s) (c := 1) g.2.1 (by omega) (by decide) ?_)
            show Zw _ _ _ 69 [_, _, _, _] [_] _ _
            refine zw_ireturn .int dX8_soup_69 rfl rfl (Nat.le_refl _) (Nat.le_refl _) ?_
            exact k2
    · show Zw _ _ _ 16 [_, _, _, _] [_] _ _
      refine zw_if_ne 24 dX8_soup_16 (by decide) (fun hz => absurd (by decide) hz) (fun _ => ?_)
      refine zw_aload_n dX8_soup_19 rfl ?_
      refine zw_cV0 dX8_soup_20 oX8_badToldApart kX8_badToldApart lX8_102 h.1 rfl (Nat.le_of_ble_eq_true rfl) rfl (x_bad10 h (fun w1 h1 o1 => ?_))
      show Zw _ _ _ 23 [_, _, _, _] [_] _ _
      refine zw_ireturn .int dX8_soup_23 rfl rfl (Nat.le_refl _) (Nat.le_refl _) ?_
      exact kB (fun z => q z.2) w1 h1 o1
  · show Zw _ _ _ 7 [_, _, _, _] [_] _ _
    refine zw_if_eq 19 dX8_soup_7 (by decide) (fun _ => ?_) (fun hz => absurd (by decide) hz)
    refine zw_aload_n dX8_soup_19 rfl ?_
    refine zw_cV0 dX8_soup_20 oX8_badToldApart kX8_badToldApart lX8_102 h.1 rfl (Nat.le_of_ble_eq_true rfl) rfl (x_bad10 h (fun w1 h1 o1 => ?_))
    show Zw _ _ _ 23 [_, _, _, _] [_] _ _
    refine zw_ireturn .int dX8_soup_23 rfl rfl (Nat.le_refl _) (Nat.le_refl _) ?_
    exact kB (fun z => q z.1) w1 h1 o1
theorem l_spareL (h : isS w C I0 I1 len bt fa fb ki bd no fu) (hp : pOk w C 0) : ∀ (k i m : Nat), i + k = (C 1).1 → m < 2 ^ i → Q (some (.int (nI (mskF (fun l => decide (cBest C 0 (2 ^ l) = cBest C 0 0)) i k m)))) w → Zw (d + 6) mX8_spare z0 9 [some (.ref 0), some (.int (nI m)), some (.int (nI i))] [] w Q := by
  have hl7 : (C 1).1 ≤ 7 := h.2.1.2.2.1.2.2.1
  obtain ⟨r', c', hz⟩ := hp.at
  intro k
  induction k with
  | zero =>
    intro i m hi hm kk
    refine zw_iload_n dX8_spare_9 rfl ?_
    refine zw_aload_n dX8_spare_10 rfl ?_
    refine zw_get dX8_spare_11 fX8_12 h.1 rfl ?_
    refine zw_get dX8_spare_14 fX8_178 h.2.1.1 rfl ?_
    refine zw_cV0 dX8_spare_17 oX6_size kX6_size lX8_181 h.2.1.2.2.1.1 rfl (Nat.le_of_ble_eq_true rfl) rfl (t_size h.2.1.2.2.1 ?_)
    show Zw _ _ _ 20 [_, _, _] [_, _] _ _
    refine zw_icmp_ge 56 dX8_spare_20 (by decide) (fun _ => ?_) (fun hz => absurd (nI_le (by omega) (by omega)) hz)
    refine zw_iload_n dX8_spare_56 rfl ?_
    refine zw_ireturn .int dX8_spare_57 rfl rfl (Nat.le_refl _) (Nat.le_refl _) ?_
    exact kk
  | succ k ih =>
    intro i m hi hm kk
    refine zw_iload_n dX8_spare_9 rfl ?_
    refine zw_aload_n dX8_spare_10 rfl ?_
    refine zw_get dX8_spare_11 fX8_12 h.1 rfl ?_
    refine zw_get dX8_spare_14 fX8_178 h.2.1.1 rfl ?_
    refine zw_cV0 dX8_spare_17 oX6_size kX6_size lX8_181 h.2.1.2.2.1.1 rfl (Nat.le_of_ble_eq_true rfl) rfl (t_size h.2.1.2.2.1 ?_)
    show Zw _ _ _ 20 [_, _, _] [_, _] _ _
    refine zw_icmp_ge 56 dX8_spare_20 (by decide) (fun hz => absurd hz (nI_ge (by omega) (by omega))) (fun _ => ?_)
    refine zw_aload_n dX8_spare_23 rfl ?_
    refine zw_get dX8_spare_24 fX8_35 h.1 rfl ?_
    refine zw_iconst dX8_spare_27 1 (by decide) ?_
    refine zw_iload_n dX8_spare_28 rfl ?_
    refine zw_ishl dX8_spare_29 ?_
    refine zw_top (shl_I i (by omega)) ?_
    refine zw_cV1 dX8_spare_30 oX4_bestWithout kX4_bestWithout lX8_155 hz rfl (Nat.le_of_ble_eq_true rfl) rfl (p_without (t := 2 ^ i) hp (Nat.pow_lt_pow_right (by decide) (by omega)) ?_)
    show Zw _ _ _ 33 [_, _, _] [_] _ _
    refine zw_aload_n dX8_spare_33 rfl ?_
    refine zw_get dX8_spare_34 fX8_35 h.1 rfl ?_
    refine zw_iconst dX8_spare_37 0 (by decide) ?_
    refine zw_cV1 dX8_spare_38 oX4_bestWithout kX4_bestWithout lX8_155 hz rfl (Nat.le_of_ble_eq_true rfl) rfl (p_without (t := 0) hp (Nat.two_pow_pos _) ?_)
    show Zw _ _ _ 41 [_, _, _] [_, _] _ _
    by_cases hb : cBest C 0 (2 ^ i) = cBest C 0 0
    · have kk : Q (some (.int (nI (mskF (fun l => decide (cBest C 0 (2 ^ l) = cBest C 0 0)) (i + 1) k (m + 2 ^ i))))) w := by
        have z : mskF (fun l => decide (cBest C 0 (2 ^ l) = cBest C 0 0)) i (k + 1) m = mskF (fun l => decide (cBest C 0 (2 ^ l) = cBest C 0 0)) (i + 1) k (if decide (cBest C 0 (2 ^ i) = cBest C 0 0) = true then m + 2 ^ i else m) := rfl
        rw [z, if_pos (decide_eq_true hb)] at kk
        exact kk
      refine zw_icmp_ne 50 dX8_spare_41 (by decide) (fun hz => absurd (hb) hz) (fun _ => ?_)
      refine zw_iload_n dX8_spare_44 rfl ?_
      refine zw_iconst dX8_spare_45 1 (by decide) ?_
      refine zw_iload_n dX8_spare_46 rfl ?_
      refine zw_ishl dX8_spare_47 ?_
      refine zw_ior dX8_spare_48 ?_
      refine zw_top (or_bit i (by omega) m hm) ?_
      refine zw_istore_n [_, _, _] dX8_spare_49 (Nat.le_of_ble_eq_true rfl) rfl ?_
      refine zw_iinc (nI (i + 1)) [_, _, _] dX8_spare_50 rfl (nI_1 i) rfl ?_
      refine zw_goto 9 dX8_spare_53 (by decide) ?_
      exact ih (i + 1) (m + 2 ^ i) (by omega) (by rw [Nat.pow_succ]; omega) kk
    · have kk : Q (some (.int (nI (mskF (fun l => decide (cBest C 0 (2 ^ l) = cBest C 0 0)) (i + 1) k m)))) w := by
        have z : mskF (fun l => decide (cBest C 0 (2 ^ l) = cBest C 0 0)) i (k + 1) m = mskF (fun l => decide (cBest C 0 (2 ^ l) = cBest C 0 0)) (i + 1) k (if decide (cBest C 0 (2 ^ i) = cBest C 0 0) = true then m + 2 ^ i else m) := rfl
        rw [z, if_neg (by simpa using hb)] at kk
        exact kk
      refine zw_icmp_ne 50 dX8_spare_41 (by decide) (fun _ => ?_) (fun hz => absurd hz (hb))
      refine zw_iinc (nI (i + 1)) [_, _, _] dX8_spare_50 rfl (nI_1 i) rfl ?_
      refine zw_goto 9 dX8_spare_53 (by decide) ?_
      exact ih (i + 1) m (by omega) (by rw [Nat.pow_succ]; omega) kk
theorem l_spare (h : isS w C I0 I1 len bt fa fb ki bd no fu) (hk : okK (C 1)) (k : ∀ w', isS w' C I0 I1 len bt fa fb ki bd no fu → zOff 0 74 w w' → Q (some (.int (nI (cSpare C)))) w') : Zm (d + 6) mX8_spare 0 0 [.ref 0] w Q := by
  refine zm_intro [_, _, _] oX8_spare (Nat.le_of_ble_eq_true rfl) rfl ?_
  refine zw_aload_n dX8_spare_0 rfl ?_
  refine zw_iconst dX8_spare_1 0 (by decide) ?_
  refine zw_cV1 dX8_spare_2 oX8_pairLids kX8_pairLids lX8_151 h.1 rfl (Nat.le_of_ble_eq_true rfl) rfl (x_pairLids h hk (fun w1 h1 p1 o1 => ?_))
  show Zw _ _ _ 5 [_, _, _] [] _ _
  refine zw_iconst dX8_spare_5 0 (by decide) ?_
  refine zw_istore_n [_, _, _] dX8_spare_6 (Nat.le_of_ble_eq_true rfl) rfl ?_
  refine zw_iconst dX8_spare_7 0 (by decide) ?_
  refine zw_istore_n [_, _, _] dX8_spare_8 (Nat.le_of_ble_eq_true rfl) rfl ?_
  exact l_spareL h1 p1 (C 1).1 0 0 (by omega) (by decide) (k w1 h1 (o1.wd (by decide) (by decide)))
end ZL4
