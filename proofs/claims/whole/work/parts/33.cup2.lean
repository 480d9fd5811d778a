/-! ===== Cupboard: lids, sorts, tales, hints, what is on ===== -/
/-- the first of k places from i on where p holds; -1: none -/
def fnd (p : Nat → Bool) (i k : Nat) : Int32 := match k with
  | 0 => -1
  | k + 1 => if p i = true then nI i else fnd p (i + 1) k
def cnt (p : Nat → Bool) (i k : Nat) : Nat := match k with
  | 0 => 0
  | k + 1 => (if p i = true then 1 else 0) + cnt p (i + 1) k
section ZCUPB
variable {d p : Nat} {w w' : ZW} {C : Nat → Nat × (Nat → Int32)} {q : Nat × (Nat → Int32)} {Q : Option Value → ZW → Prop}
theorem c_addLid {x y z : Int32} (h : isC w p C) (kB : ¬ okLid x y z → Q (some (.int (-2))) w) (kF : okLid x y z → (C 1).1 = 7 → Q (some (.int (-4))) w) (kA : okLid x y z → (C 1).1 < 7 → ∀ w', isC w' p (va_up (va_up C 1 ((C 1).1 + 1, row4 (C 1).2 (C 1).1 x y z 5)) 5 (0, (C 5).2)) → zOff p (p + 13) w w' → Q (some (.int (nI (C 1).1))) w') : Zm (d + 3) mX1_addLid 0 0 [.ref p, .int x, .int y, .int z] w Q := by
  have hb := h.2.2.1.2.2.1
  refine zm_intro [_, _, _, _, _] oX1_addLid (Nat.le_of_ble_eq_true rfl) rfl ?_
  refine zw_iload_n dX1_addLid_0 rfl ?_
  refine zw_cS1 dX1_addLid_1 oX1_isKind kX1_isKind lX1_59 (Nat.le_of_ble_eq_true rfl) rfl (c_isKind (fun h5 h6 => ?_) (fun h5 => ?_))
  · show Zw _ _ _ _ [_, _, _, _, _] [_] _ _
    refine zw_if_eq 15 dX1_addLid_4 (by decide) (fun hz => absurd hz (by decide)) (fun _ => ?_)
    refine zw_iload_n dX1_addLid_7 rfl ?_
    refine zw_iload_n dX1_addLid_8 rfl ?_
    refine zw_cS2 dX1_addLid_9 oX1_isFormAndSize kX1_isFormAndSize lX1_43 (Nat.le_of_ble_eq_true rfl) rfl (c_isFS (fun h1 h2 h3 h4 => ?_) (fun h1 => ?_))
    · show Zw _ _ _ _ [_, _, _, _, _] [_] _ _
      refine zw_if_ne 18 dX1_addLid_12 (by decide) (fun _ => ?_) (fun hz => absurd hz (by decide))
      refine zw_aload_n dX1_addLid_18 rfl ?_
      refine zw_get dX1_addLid_19 fX1_20 h.1 rfl ?_
      refine zw_iload_n dX1_addLid_22 rfl ?_
      refine zw_iload_n dX1_addLid_23 rfl ?_
      refine zw_iload_n dX1_addLid_24 rfl ?_
      have hok : okLid x y z := ⟨⟨h5, h6⟩, ⟨h1, h2⟩, h3, h4⟩
      rcases Nat.lt_or_ge (C 1).1 7 with hq | hq
      · refine zw_cV3 dX1_addLid_25 oX6_add kX6_add lX1_51 h.2.2.1.1 rfl (Nat.le_of_ble_eq_true rfl) rfl (t_add h.2.2.1 hq (fun w1 t1 o1 => ?_))
        show Zw _ _ _ _ [_, _, _, _, _] [_] _ _
        have g := h.s1 o1 t1
        refine zw_istore [_, _, _, _, _] dX1_addLid_28 (Nat.le_of_ble_eq_true rfl) rfl ?_
        refine zw_iload dX1_addLid_30 rfl ?_
        refine zw_if_lt 54 dX1_addLid_32 (by decide) (fun hz => absurd hz (nI_pos (by omega))) (fun _ => ?_)
        refine zw_aload_n dX1_addLid_35 rfl ?_
        refine zw_get dX1_addLid_36 fX1_20 g.1 rfl ?_
        refine zw_iload dX1_addLid_39 rfl ?_
        refine zw_iconst dX1_addLid_41 3 (by decide) ?_
        refine zw_iconst dX1_addLid_42 5 (by decide) ?_
        refine zw_cV3 dX1_addLid_43 oX6_change kX6_change lX1_55 g.2.2.1.1 rfl (Nat.le_of_ble_eq_true rfl) rfl (t_change (r := (C 1).1) (c := 3) g.2.2.1 (Nat.lt_succ_self _) (by decide) (fun w2 t2 o2 => ?_))
        show Zw _ _ _ _ [_, _, _, _, _] [] _ _
        have g := g.s1 o2 t2
        refine zw_aload_n dX1_addLid_46 rfl ?_
        refine zw_get dX1_addLid_47 fX1_32 g.1 rfl ?_
        refine zw_cV0 dX1_addLid_50 oX6_drop kX6_drop lX1_35 g.2.2.2.2.2.2.1 rfl (Nat.le_of_ble_eq_true rfl) rfl (t_drop g.2.2.2.2.2.2 (fun w4 t4 o4 => ?_))
        show Zw _ _ _ _ [_, _, _, _, _] [_] _ _
        have g := g.s5 o4 t4
        refine zw_pop dX1_addLid_53 rfl ?_
        refine zw_iload dX1_addLid_54 rfl ?_
        refine zw_ireturn .int dX1_addLid_56 rfl rfl (Nat.le_refl _) (Nat.le_refl _) ?_
        refine kA hok hq w4 ?_ ((o1.wd (by omega) (by omega)).tr ((o2.wd (by omega) (by omega)).tr (o4.wd (by omega) (by omega))))
        exact ⟨g.1, g.2.1, g.2.2.1, g.2.2.2.1, g.2.2.2.2.1, g.2.2.2.2.2.1, g.2.2.2.2.2.2⟩
      · refine zw_cV3 dX1_addLid_25 oX6_add kX6_add lX1_51 h.2.2.1.1 rfl (Nat.le_of_ble_eq_true rfl) rfl (t_addN h.2.2.1 (by omega) ?_)
        show Zw _ _ _ _ [_, _, _, _, _] [_] _ _
        refine zw_istore [_, _, _, _, _] dX1_addLid_28 (Nat.le_of_ble_eq_true rfl) rfl ?_
        refine zw_iload dX1_addLid_30 rfl ?_
        refine zw_if_lt 54 dX1_addLid_32 (by decide) (fun _ => ?_) (fun hz => absurd (by decide) hz)
        refine zw_iload dX1_addLid_54 rfl ?_
        refine zw_ireturn .int dX1_addLid_56 rfl rfl (Nat.le_refl _) (Nat.le_refl _) ?_
        exact kF hok (by omega)
    · show Zw _ _ _ _ [_, _, _, _, _] [_] _ _
      refine zw_if_ne 18 dX1_addLid_12 (by decide) (fun hz => absurd (rfl) hz) (fun _ => ?_)
      refine zw_bipush dX1_addLid_15 (-2) (by decide) ?_
      refine zw_ireturn .int dX1_addLid_17 rfl rfl (Nat.le_refl _) (Nat.le_refl _) ?_
      exact kB (fun z => h1 ⟨z.2.1, z.2.2⟩)
  · show Zw _ _ _ _ [_, _, _, _, _] [_] _ _
    refine zw_if_eq 15 dX1_addLid_4 (by decide) (fun _ => ?_) (fun hz => absurd (rfl) hz)
    refine zw_bipush dX1_addLid_15 (-2) (by decide) ?_
    refine zw_ireturn .int dX1_addLid_17 rfl rfl (Nat.le_refl _) (Nat.le_refl _) ?_
    exact kB (fun z => h5 z.1)
theorem c_addSort {x y z u : Int32} (h : isC w p C) (kB : ¬ okSort x y z u → Q (some (.int (-2))) w) (kF : okSort x y z u → (C 2).1 = 4 → Q (some (.int (-4))) w) (kA : okSort x y z u → (C 2).1 < 4 → ∀ w', isC w' p (va_up C 2 ((C 2).1 + 1, row4 (C 2).2 (C 2).1 x y z u)) → zOff p (p + 13) w w' → Q (some (.int (nI (C 2).1))) w') : Zm (d + 3) mX1_addSort 0 0 [.ref p, .int x, .int y, .int z, .int u] w Q := by
  have hb := h.2.2.2.1.2.2.1
  refine zm_intro [_, _, _, _, _, _] oX1_addSort (Nat.le_of_ble_eq_true rfl) rfl ?_
  refine zw_iload_n dX1_addSort_0 rfl ?_
  refine zw_cS1 dX1_addSort_1 oX1_isKind kX1_isKind lX1_59 (Nat.le_of_ble_eq_true rfl) rfl (c_isKind (fun h5 h6 => ?_) (fun h5 => ?_))
  · show Zw _ _ _ _ [_, _, _, _, _, _] [_] _ _
    refine zw_if_eq 26 dX1_addSort_4 (by decide) (fun hz => absurd hz (by decide)) (fun _ => ?_)
    refine zw_iload_n dX1_addSort_7 rfl ?_
    refine zw_iload_n dX1_addSort_8 rfl ?_
    refine zw_cS2 dX1_addSort_9 oX1_isFormAndSize kX1_isFormAndSize lX1_43 (Nat.le_of_ble_eq_true rfl) rfl (c_isFS (fun h1 h2 h3 h4 => ?_) (fun h1 => ?_))
    · show Zw _ _ _ _ [_, _, _, _, _, _] [_] _ _
      refine zw_if_eq 26 dX1_addSort_12 (by decide) (fun hz => absurd hz (by decide)) (fun _ => ?_)
      refine zw_iload dX1_addSort_15 rfl ?_
      refine zw_iconst dX1_addSort_17 1 (by decide) ?_
      refine zw_bipush dX1_addSort_18 50 (by decide) ?_
      refine zw_cS3 dX1_addSort_20 oX8_within kX8_within lX1_47 (Nat.le_of_ble_eq_true rfl) rfl (x_within (fun h7 h8 => ?_) (fun h7 => ?_))
      · show Zw _ _ _ _ [_, _, _, _, _, _] [_] _ _
        refine zw_if_ne 29 dX1_addSort_23 (by decide) (fun _ => ?_) (fun hz => absurd hz (by decide))
        refine zw_aload_n dX1_addSort_29 rfl ?_
        refine zw_get dX1_addSort_30 fX1_23 h.1 rfl ?_
        refine zw_iload_n dX1_addSort_33 rfl ?_
        refine zw_iload_n dX1_addSort_34 rfl ?_
        refine zw_iload_n dX1_addSort_35 rfl ?_
        have hok : okSort x y z u := ⟨⟨⟨h5, h6⟩, ⟨h1, h2⟩, h3, h4⟩, h7, h8⟩
        rcases Nat.lt_or_ge (C 2).1 4 with hq | hq
        · refine zw_cV3 dX1_addSort_36 oX6_add kX6_add lX1_51 h.2.2.2.1.1 rfl (Nat.le_of_ble_eq_true rfl) rfl (t_add h.2.2.2.1 hq (fun w1 t1 o1 => ?_))
          show Zw _ _ _ _ [_, _, _, _, _, _] [_] _ _
          have g := h.s2 o1 t1
          refine zw_istore [_, _, _, _, _, _] dX1_addSort_39 (Nat.le_of_ble_eq_true rfl) rfl ?_
          refine zw_aload_n dX1_addSort_41 rfl ?_
          refine zw_get dX1_addSort_42 fX1_23 g.1 rfl ?_
          refine zw_iload dX1_addSort_45 rfl ?_
          refine zw_iconst dX1_addSort_47 3 (by decide) ?_
          refine zw_iload dX1_addSort_48 rfl ?_
          refine zw_cV3 dX1_addSort_50 oX6_change kX6_change lX1_55 g.2.2.2.1.1 rfl (Nat.le_of_ble_eq_true rfl) rfl (t_change (r := (C 2).1) (c := 3) g.2.2.2.1 (Nat.lt_succ_self _) (by decide) (fun w2 t2 o2 => ?_))
          show Zw _ _ _ _ [_, _, _, _, _, _] [] _ _
          have g := g.s2 o2 t2
          refine zw_iload dX1_addSort_53 rfl ?_
          refine zw_ireturn .int dX1_addSort_55 rfl rfl (Nat.le_refl _) (Nat.le_refl _) ?_
          refine kA hok hq w2 ?_ ((o1.wd (by omega) (by omega)).tr (o2.wd (by omega) (by omega)))
          exact ⟨g.1, g.2.1, g.2.2.1, g.2.2.2.1, g.2.2.2.2.1, g.2.2.2.2.2.1, g.2.2.2.2.2.2⟩
        · refine zw_cV3 dX1_addSort_36 oX6_add kX6_add lX1_51 h.2.2.2.1.1 rfl (Nat.le_of_ble_eq_true rfl) rfl (t_addN h.2.2.2.1 (by omega) ?_)
          show Zw _ _ _ _ [_, _, _, _, _, _] [_] _ _
          refine zw_istore [_, _, _, _, _, _] dX1_addSort_39 (Nat.le_of_ble_eq_true rfl) rfl ?_
          refine zw_aload_n dX1_addSort_41 rfl ?_
          refine zw_get dX1_addSort_42 fX1_23 h.1 rfl ?_
          refine zw_iload dX1_addSort_45 rfl ?_
          refine zw_iconst dX1_addSort_47 3 (by decide) ?_
          refine zw_iload dX1_addSort_48 rfl ?_
          refine zw_cV3 dX1_addSort_50 oX6_change kX6_change lX1_55 h.2.2.2.1.1 rfl (Nat.le_of_ble_eq_true rfl) rfl (t_changeN h.2.2.2.1 (fun r hr e => nI_pos (n := r) (by omega) (e ▸ by decide)) ?_)
          show Zw _ _ _ _ [_, _, _, _, _, _] [] _ _
          refine zw_iload dX1_addSort_53 rfl ?_
          refine zw_ireturn .int dX1_addSort_55 rfl rfl (Nat.le_refl _) (Nat.le_refl _) ?_
          exact kF hok (by omega)
      · show Zw _ _ _ _ [_, _, _, _, _, _] [_] _ _
        refine zw_if_ne 29 dX1_addSort_23 (by decide) (fun hz => absurd (rfl) hz) (fun _ => ?_)
        refine zw_bipush dX1_addSort_26 (-2) (by decide) ?_
        refine zw_ireturn .int dX1_addSort_28 rfl rfl (Nat.le_refl _) (Nat.le_refl _) ?_
        exact kB (fun z => h7 z.2)
    · show Zw _ _ _ _ [_, _, _, _, _, _] [_] _ _
      refine zw_if_eq 26 dX1_addSort_12 (by decide) (fun _ => ?_) (fun hz => absurd (rfl) hz)
      refine zw_bipush dX1_addSort_26 (-2) (by decide) ?_
      refine zw_ireturn .int dX1_addSort_28 rfl rfl (Nat.le_refl _) (Nat.le_refl _) ?_
      exact kB (fun z => h1 ⟨z.1.2.1, z.1.2.2⟩)
  · show Zw _ _ _ _ [_, _, _, _, _, _] [_] _ _
    refine zw_if_eq 26 dX1_addSort_4 (by decide) (fun _ => ?_) (fun hz => absurd (rfl) hz)
    refine zw_bipush dX1_addSort_26 (-2) (by decide) ?_
    refine zw_ireturn .int dX1_addSort_28 rfl rfl (Nat.le_refl _) (Nat.le_refl _) ?_
    exact kB (fun z => h5 z.1.1)
theorem c_changeGrasps {x y : Int32} (h : isC w p C) (kB : ((∀ r, r < (C 0).1 → ¬ x = nI r) ∨ ¬ (0 ≤ y ∧ y ≤ 9)) → Q (some (.int (-2))) w) (kA : ∀ r, r < (C 0).1 → x = nI r → 0 ≤ y → y ≤ 9 → ∀ w', isC w' p (va_up C 0 ((C 0).1, upd (C 0).2 (r * 5 + 3) y)) → zOff p (p + 13) w w' → Q (some (.int ((C 0).2 (r * 5 + 3)))) w') : Zm (d + 2) mX1_changeGrasps 0 0 [.ref p, .int x, .int y] w Q := by
  refine zm_intro [_, _, _, _] oX1_changeGrasps (Nat.le_of_ble_eq_true rfl) rfl ?_
  refine zw_aload_n dX1_changeGrasps_0 rfl ?_
  refine zw_get dX1_changeGrasps_1 fX1_14 h.1 rfl ?_
  refine zw_iload_n dX1_changeGrasps_4 rfl ?_
  refine zw_cV1 dX1_changeGrasps_5 oX6_contains kX6_contains lX1_63 h.2.1.1 rfl (Nat.le_of_ble_eq_true rfl) rfl (t_contains h.2.1 (fun r hr e => ?_) (fun hx => ?_))
  · subst e
    show Zw _ _ _ _ [_, _, _, _] [_] _ _
    refine zw_if_eq 21 dX1_changeGrasps_8 (by decide) (fun hz => absurd hz (by decide)) (fun _ => ?_)
    refine zw_iload_n dX1_changeGrasps_11 rfl ?_
    refine zw_iconst dX1_changeGrasps_12 0 (by decide) ?_
    refine zw_bipush dX1_changeGrasps_13 9 (by decide) ?_
    refine zw_cS3 dX1_changeGrasps_15 oX8_within kX8_within lX1_47 (Nat.le_of_ble_eq_true rfl) rfl (x_within (fun h1 h2 => ?_) (fun h1 => ?_))
    · show Zw _ _ _ _ [_, _, _, _] [_] _ _
      refine zw_if_ne 24 dX1_changeGrasps_18 (by decide) (fun _ => ?_) (fun hz => absurd hz (by decide))
      refine zw_aload_n dX1_changeGrasps_24 rfl ?_
      refine zw_get dX1_changeGrasps_25 fX1_14 h.1 rfl ?_
      refine zw_iload_n dX1_changeGrasps_28 rfl ?_
      refine zw_iconst dX1_changeGrasps_29 3 (by decide) ?_
      refine zw_cV2 dX1_changeGrasps_30 oX6_at kX6_at lX1_74 h.2.1.1 rfl (Nat.le_of_ble_eq_true rfl) rfl (t_at (c := 3) h.2.1 hr (by decide) ?_)
      show Zw _ _ _ _ [_, _, _, _] [_] _ _
      refine zw_istore_n [_, _, _, _] dX1_changeGrasps_33 (Nat.le_of_ble_eq_true rfl) rfl ?_
      refine zw_aload_n dX1_changeGrasps_34 rfl ?_
      refine zw_get dX1_changeGrasps_35 fX1_14 h.1 rfl ?_
      refine zw_iload_n dX1_changeGrasps_38 rfl ?_
      refine zw_iconst dX1_changeGrasps_39 3 (by decide) ?_
      refine zw_iload_n dX1_changeGrasps_40 rfl ?_
      refine zw_cV3 dX1_changeGrasps_41 oX6_change kX6_change lX1_55 h.2.1.1 rfl (Nat.le_of_ble_eq_true rfl) rfl (t_change (c := 3) h.2.1 hr (by decide) (fun w2 t2 o2 => ?_))
      show Zw _ _ _ _ [_, _, _, _] [] _ _
      have g := h.s0 o2 t2
      refine zw_iload_n dX1_changeGrasps_44 rfl ?_
      refine zw_ireturn .int dX1_changeGrasps_45 rfl rfl (Nat.le_refl _) (Nat.le_refl _) ?_
      exact kA r hr rfl h1 h2 w2 g (o2.wd (by omega) (by omega))
    · show Zw _ _ _ _ [_, _, _, _] [_] _ _
      refine zw_if_ne 24 dX1_changeGrasps_18 (by decide) (fun hz => absurd (rfl) hz) (fun _ => ?_)
      refine zw_bipush dX1_changeGrasps_21 (-2) (by decide) ?_
      refine zw_ireturn .int dX1_changeGrasps_23 rfl rfl (Nat.le_refl _) (Nat.le_refl _) ?_
      exact kB (Or.inr h1)
  · show Zw _ _ _ _ [_, _, _, _] [_] _ _
    refine zw_if_eq 21 dX1_changeGrasps_8 (by decide) (fun _ => ?_) (fun hz => absurd (rfl) hz)
    refine zw_bipush dX1_changeGrasps_21 (-2) (by decide) ?_
    refine zw_ireturn .int dX1_changeGrasps_23 rfl rfl (Nat.le_refl _) (Nat.le_refl _) ?_
    exact kB (Or.inl hx)
theorem c_changeChance {x y : Int32} (h : isC w p C) (kB : ((∀ r, r < (C 1).1 → ¬ x = nI r) ∨ ¬ (0 ≤ y ∧ y ≤ 10)) → Q (some (.int (-2))) w) (kA : ∀ r, r < (C 1).1 → x = nI r → 0 ≤ y → y ≤ 10 → ∀ w', isC w' p (va_up C 1 ((C 1).1, upd (C 1).2 (r * 4 + 3) y)) → zOff p (p + 13) w w' → Q (some (.int ((C 1).2 (r * 4 + 3)))) w') : Zm (d + 2) mX1_changeChance 0 0 [.ref p, .int x, .int y] w Q := by
  refine zm_intro [_, _, _, _] oX1_changeChance (Nat.le_of_ble_eq_true rfl) rfl ?_
  refine zw_aload_n dX1_changeChance_0 rfl ?_
  refine zw_get dX1_changeChance_1 fX1_20 h.1 rfl ?_
  refine zw_iload_n dX1_changeChance_4 rfl ?_
  refine zw_cV1 dX1_changeChance_5 oX6_contains kX6_contains lX1_63 h.2.2.1.1 rfl (Nat.le_of_ble_eq_true rfl) rfl (t_contains h.2.2.1 (fun r hr e => ?_) (fun hx => ?_))
  · subst e
    show Zw _ _ _ _ [_, _, _, _] [_] _ _
    refine zw_if_eq 21 dX1_changeChance_8 (by decide) (fun hz => absurd hz (by decide)) (fun _ => ?_)
    refine zw_iload_n dX1_changeChance_11 rfl ?_
    refine zw_iconst dX1_changeChance_12 0 (by decide) ?_
    refine zw_bipush dX1_changeChance_13 10 (by decide) ?_
    refine zw_cS3 dX1_changeChance_15 oX8_within kX8_within lX1_47 (Nat.le_of_ble_eq_true rfl) rfl (x_within (fun h1 h2 => ?_) (fun h1 => ?_))
    · show Zw _ _ _ _ [_, _, _, _] [_] _ _
      refine zw_if_ne 24 dX1_changeChance_18 (by decide) (fun _ => ?_) (fun hz => absurd hz (by decide))
      refine zw_aload_n dX1_changeChance_24 rfl ?_
      refine zw_get dX1_changeChance_25 fX1_20 h.1 rfl ?_
      refine zw_iload_n dX1_changeChance_28 rfl ?_
      refine zw_iconst dX1_changeChance_29 3 (by decide) ?_
      refine zw_cV2 dX1_changeChance_30 oX6_at kX6_at lX1_74 h.2.2.1.1 rfl (Nat.le_of_ble_eq_true rfl) rfl (t_at (c := 3) h.2.2.1 hr (by decide) ?_)
      show Zw _ _ _ _ [_, _, _, _] [_] _ _
      refine zw_istore_n [_, _, _, _] dX1_changeChance_33 (Nat.le_of_ble_eq_true rfl) rfl ?_
      refine zw_aload_n dX1_changeChance_34 rfl ?_
      refine zw_get dX1_changeChance_35 fX1_20 h.1 rfl ?_
      refine zw_iload_n dX1_changeChance_38 rfl ?_
      refine zw_iconst dX1_changeChance_39 3 (by decide) ?_
      refine zw_iload_n dX1_changeChance_40 rfl ?_
      refine zw_cV3 dX1_changeChance_41 oX6_change kX6_change lX1_55 h.2.2.1.1 rfl (Nat.le_of_ble_eq_true rfl) rfl (t_change (c := 3) h.2.2.1 hr (by decide) (fun w2 t2 o2 => ?_))
      show Zw _ _ _ _ [_, _, _, _] [] _ _
      have g := h.s1 o2 t2
      refine zw_iload_n dX1_changeChance_44 rfl ?_
      refine zw_ireturn .int dX1_changeChance_45 rfl rfl (Nat.le_refl _) (Nat.le_refl _) ?_
      exact kA r hr rfl h1 h2 w2 g (o2.wd (by omega) (by omega))
    · show Zw _ _ _ _ [_, _, _, _] [_] _ _
      refine zw_if_ne 24 dX1_changeChance_18 (by decide) (fun hz => absurd (rfl) hz) (fun _ => ?_)
      refine zw_bipush dX1_changeChance_21 (-2) (by decide) ?_
      refine zw_ireturn .int dX1_changeChance_23 rfl rfl (Nat.le_refl _) (Nat.le_refl _) ?_
      exact kB (Or.inr h1)
  · show Zw _ _ _ _ [_, _, _, _] [_] _ _
    refine zw_if_eq 21 dX1_changeChance_8 (by decide) (fun _ => ?_) (fun hz => absurd (rfl) hz)
    refine zw_bipush dX1_changeChance_21 (-2) (by decide) ?_
    refine zw_ireturn .int dX1_changeChance_23 rfl rfl (Nat.le_refl _) (Nat.le_refl _) ?_
    exact kB (Or.inl hx)
/-- tales: a, the lid, b -/
def okTale (n : Nat) (a l b : Int32) : Prop := (0 ≤ a ∧ a ≤ 4) ∧ (∃ r, r < n ∧ l = nI r) ∧ (0 ≤ b ∧ b ≤ 4) ∧ ¬ a = b
theorem c_addTale {x y z : Int32} (h : isC w p C) (kB : ¬ okTale (C 1).1 x y z → Q (some (.int (-2))) w) (kF : okTale (C 1).1 x y z → (C 3).1 = 8 → Q (some (.int (-4))) w) (kA : okTale (C 1).1 x y z → (C 3).1 < 8 → ∀ w', isC w' p (va_up C 3 ((C 3).1 + 1, row3 (C 3).2 (C 3).1 x y z)) → zOff p (p + 13) w w' → Q (some (.int (nI (C 3).1))) w') : Zm (d + 3) mX1_addTale 0 0 [.ref p, .int x, .int y, .int z] w Q := by
  have hb := h.2.2.2.2.1.2.2.1
  refine zm_intro [_, _, _, _] oX1_addTale (Nat.le_of_ble_eq_true rfl) rfl ?_
  refine zw_iload_n dX1_addTale_0 rfl ?_
  refine zw_iconst dX1_addTale_1 0 (by decide) ?_
  refine zw_iconst dX1_addTale_2 4 (by decide) ?_
  refine zw_cS3 dX1_addTale_3 oX8_within kX8_within lX1_47 (Nat.le_of_ble_eq_true rfl) rfl (x_within (fun h1 h2 => ?_) (fun h1 => ?_))
  · show Zw _ _ _ _ [_, _, _, _] [_] _ _
    refine zw_if_eq 34 dX1_addTale_6 (by decide) (fun hz => absurd hz (by decide)) (fun _ => ?_)
    refine zw_aload_n dX1_addTale_9 rfl ?_
    refine zw_get dX1_addTale_10 fX1_20 h.1 rfl ?_
    refine zw_iload_n dX1_addTale_13 rfl ?_
    refine zw_cV1 dX1_addTale_14 oX6_contains kX6_contains lX1_63 h.2.2.1.1 rfl (Nat.le_of_ble_eq_true rfl) rfl (t_contains h.2.2.1 (fun r hr e => ?_) (fun hx => ?_))
    · show Zw _ _ _ _ [_, _, _, _] [_] _ _
      refine zw_if_eq 34 dX1_addTale_17 (by decide) (fun hz => absurd hz (by decide)) (fun _ => ?_)
      refine zw_iload_n dX1_addTale_20 rfl ?_
      refine zw_iconst dX1_addTale_21 0 (by decide) ?_
      refine zw_iconst dX1_addTale_22 4 (by decide) ?_
      refine zw_cS3 dX1_addTale_23 oX8_within kX8_within lX1_47 (Nat.le_of_ble_eq_true rfl) rfl (x_within (fun h3 h4 => ?_) (fun h3 => ?_))
      · show Zw _ _ _ _ [_, _, _, _] [_] _ _
        refine zw_if_eq 34 dX1_addTale_26 (by decide) (fun hz => absurd hz (by decide)) (fun _ => ?_)
        refine zw_iload_n dX1_addTale_29 rfl ?_
        refine zw_iload_n dX1_addTale_30 rfl ?_
        refine zw_icmp_ne 37 dX1_addTale_31 (by decide) (fun hab => ?_) (fun hab => ?_)
        · refine zw_aload_n dX1_addTale_37 rfl ?_
          refine zw_get dX1_addTale_38 fX1_26 h.1 rfl ?_
          refine zw_iload_n dX1_addTale_41 rfl ?_
          refine zw_iload_n dX1_addTale_42 rfl ?_
          refine zw_iload_n dX1_addTale_43 rfl ?_
          have hok : okTale (C 1).1 x y z := ⟨⟨h1, h2⟩, ⟨r, hr, e⟩, ⟨h3, h4⟩, hab⟩
          rcases Nat.lt_or_ge (C 3).1 8 with hq | hq
          · refine zw_cV3 dX1_addTale_44 oX6_add kX6_add lX1_51 h.2.2.2.2.1.1 rfl (Nat.le_of_ble_eq_true rfl) rfl (t_add h.2.2.2.2.1 hq (fun w1 t1 o1 => ?_))
            show Zw _ _ _ _ [_, _, _, _] [_] _ _
            have g := h.s3 o1 t1
            refine zw_ireturn .int dX1_addTale_47 rfl rfl (Nat.le_refl _) (Nat.le_refl _) ?_
            exact kA hok hq w1 g (o1.wd (by omega) (by omega))
          · refine zw_cV3 dX1_addTale_44 oX6_add kX6_add lX1_51 h.2.2.2.2.1.1 rfl (Nat.le_of_ble_eq_true rfl) rfl (t_addN h.2.2.2.2.1 (by omega) ?_)
            show Zw _ _ _ _ [_, _, _, _] [_] _ _
            refine zw_ireturn .int dX1_addTale_47 rfl rfl (Nat.le_refl _) (Nat.le_refl _) ?_
            exact kF hok (by omega)
        · refine zw_bipush dX1_addTale_34 (-2) (by decide) ?_
          refine zw_ireturn .int dX1_addTale_36 rfl rfl (Nat.le_refl _) (Nat.le_refl _) ?_
          exact kB (fun q => q.2.2.2 hab)
      · show Zw _ _ _ _ [_, _, _, _] [_] _ _
        refine zw_if_eq 34 dX1_addTale_26 (by decide) (fun _ => ?_) (fun hz => absurd (rfl) hz)
        refine zw_bipush dX1_addTale_34 (-2) (by decide) ?_
        refine zw_ireturn .int dX1_addTale_36 rfl rfl (Nat.le_refl _) (Nat.le_refl _) ?_
        exact kB (fun q => h3 q.2.2.1)
    · show Zw _ _ _ _ [_, _, _, _] [_] _ _
      refine zw_if_eq 34 dX1_addTale_17 (by decide) (fun _ => ?_) (fun hz => absurd (rfl) hz)
      refine zw_bipush dX1_addTale_34 (-2) (by decide) ?_
      refine zw_ireturn .int dX1_addTale_36 rfl rfl (Nat.le_refl _) (Nat.le_refl _) ?_
      exact kB (fun q => by obtain ⟨-, ⟨r, hr, e⟩, -⟩ := q; exact hx r hr e)
  · show Zw _ _ _ _ [_, _, _, _] [_] _ _
    refine zw_if_eq 34 dX1_addTale_6 (by decide) (fun _ => ?_) (fun hz => absurd (rfl) hz)
    refine zw_bipush dX1_addTale_34 (-2) (by decide) ?_
    refine zw_ireturn .int dX1_addTale_36 rfl rfl (Nat.le_refl _) (Nat.le_refl _) ?_
    exact kB (fun q => h1 q.1)
def okHint (n : Nat) (s f b : Int32) : Prop := (0 ≤ s ∧ s ≤ 3) ∧ (∃ r, r < n ∧ f = nI r) ∧ ∃ r, r < n ∧ b = nI r
theorem c_addHint {x y z : Int32} (h : isC w p C) (kB : ¬ okHint (C 0).1 x y z → Q (some (.int (-2))) w) (kF : okHint (C 0).1 x y z → (C 4).1 = 8 → Q (some (.int (-4))) w) (kA : okHint (C 0).1 x y z → (C 4).1 < 8 → ∀ w', isC w' p (va_up C 4 ((C 4).1 + 1, row3 (C 4).2 (C 4).1 x y z)) → zOff p (p + 13) w w' → Q (some (.int (nI (C 4).1))) w') : Zm (d + 3) mX1_addHint 0 0 [.ref p, .int x, .int y, .int z] w Q := by
  have hb := h.2.2.2.2.2.1.2.2.1
  refine zm_intro [_, _, _, _] oX1_addHint (Nat.le_of_ble_eq_true rfl) rfl ?_
  refine zw_iload_n dX1_addHint_0 rfl ?_
  refine zw_iconst dX1_addHint_1 0 (by decide) ?_
  refine zw_iconst dX1_addHint_2 3 (by decide) ?_
  refine zw_cS3 dX1_addHint_3 oX8_within kX8_within lX1_47 (Nat.le_of_ble_eq_true rfl) rfl (x_within (fun h1 h2 => ?_) (fun h1 => ?_))
  · show Zw _ _ _ _ [_, _, _, _] [_] _ _
    refine zw_if_eq 31 dX1_addHint_6 (by decide) (fun hz => absurd hz (by decide)) (fun _ => ?_)
    refine zw_aload_n dX1_addHint_9 rfl ?_
    refine zw_get dX1_addHint_10 fX1_14 h.1 rfl ?_
    refine zw_iload_n dX1_addHint_13 rfl ?_
    refine zw_cV1 dX1_addHint_14 oX6_contains kX6_contains lX1_63 h.2.1.1 rfl (Nat.le_of_ble_eq_true rfl) rfl (t_contains h.2.1 (fun r hr e => ?_) (fun hx => ?_))
    · show Zw _ _ _ _ [_, _, _, _] [_] _ _
      refine zw_if_eq 31 dX1_addHint_17 (by decide) (fun hz => absurd hz (by decide)) (fun _ => ?_)
      refine zw_aload_n dX1_addHint_20 rfl ?_
      refine zw_get dX1_addHint_21 fX1_14 h.1 rfl ?_
      refine zw_iload_n dX1_addHint_24 rfl ?_
      refine zw_cV1 dX1_addHint_25 oX6_contains kX6_contains lX1_63 h.2.1.1 rfl (Nat.le_of_ble_eq_true rfl) rfl (t_contains h.2.1 (fun r2 hr2 e2 => ?_) (fun hx => ?_))
      · show Zw _ _ _ _ [_, _, _, _] [_] _ _
        refine zw_if_ne 34 dX1_addHint_28 (by decide) (fun _ => ?_) (fun hz => absurd hz (by decide))
        refine zw_aload_n dX1_addHint_34 rfl ?_
        refine zw_get dX1_addHint_35 fX1_29 h.1 rfl ?_
        refine zw_iload_n dX1_addHint_38 rfl ?_
        refine zw_iload_n dX1_addHint_39 rfl ?_
        refine zw_iload_n dX1_addHint_40 rfl ?_
        have hok : okHint (C 0).1 x y z := ⟨⟨h1, h2⟩, ⟨r, hr, e⟩, ⟨r2, hr2, e2⟩⟩
        rcases Nat.lt_or_ge (C 4).1 8 with hq | hq
        · refine zw_cV3 dX1_addHint_41 oX6_add kX6_add lX1_51 h.2.2.2.2.2.1.1 rfl (Nat.le_of_ble_eq_true rfl) rfl (t_add h.2.2.2.2.2.1 hq (fun w1 t1 o1 => ?_))
          show Zw _ _ _ _ [_, _, _, _] [_] _ _
          have g := h.s4 o1 t1
          refine zw_ireturn .int dX1_addHint_44 rfl rfl (Nat.le_refl _) (Nat.le_refl _) ?_
          exact kA hok hq w1 g (o1.wd (by omega) (by omega))
        · refine zw_cV3 dX1_addHint_41 oX6_add kX6_add lX1_51 h.2.2.2.2.2.1.1 rfl (Nat.le_of_ble_eq_true rfl) rfl (t_addN h.2.2.2.2.2.1 (by omega) ?_)
          show Zw _ _ _ _ [_, _, _, _] [_] _ _
          refine zw_ireturn .int dX1_addHint_44 rfl rfl (Nat.le_refl _) (Nat.le_refl _) ?_
          exact kF hok (by omega)
      · show Zw _ _ _ _ [_, _, _, _] [_] _ _
        refine zw_if_ne 34 dX1_addHint_28 (by decide) (fun hz => absurd (rfl) hz) (fun _ => ?_)
        refine zw_bipush dX1_addHint_31 (-2) (by decide) ?_
        refine zw_ireturn .int dX1_addHint_33 rfl rfl (Nat.le_refl _) (Nat.le_refl _) ?_
        exact kB (fun q => by obtain ⟨-, -, r, hr, e⟩ := q; exact hx r hr e)
    · show Zw _ _ _ _ [_, _, _, _] [_] _ _
      refine zw_if_eq 31 dX1_addHint_17 (by decide) (fun _ => ?_) (fun hz => absurd (rfl) hz)
      refine zw_bipush dX1_addHint_31 (-2) (by decide) ?_
      refine zw_ireturn .int dX1_addHint_33 rfl rfl (Nat.le_refl _) (Nat.le_refl _) ?_
      exact kB (fun q => by obtain ⟨-, ⟨r, hr, e⟩, -⟩ := q; exact hx r hr e)
  · show Zw _ _ _ _ [_, _, _, _] [_] _ _
    refine zw_if_eq 31 dX1_addHint_6 (by decide) (fun _ => ?_) (fun hz => absurd (rfl) hz)
    refine zw_bipush dX1_addHint_31 (-2) (by decide) ?_
    refine zw_ireturn .int dX1_addHint_33 rfl rfl (Nat.le_refl _) (Nat.le_refl _) ?_
    exact kB (fun q => h1 q.1)
/-! what is on -/
theorem c_boxUnderL {x : Int32} (h : isC w p C) : ∀ (k i : Nat), i + k = (C 0).1 → Q (some (.int (fnd (fun b => decide ((C 0).2 (b * 5 + 4) = x)) i k))) w → Zw (d + 2) mX1_boxUnder z0 2 [some (.ref p), some (.int x), some (.int (nI i))] [] w Q := by
  have hb := h.2.1.2.2.1
  intro k
  induction k with
  | zero =>
    intro i hi kk
    refine zw_iload_n dX1_boxUnder_2 rfl ?_
    refine zw_aload_n dX1_boxUnder_3 rfl ?_
    refine zw_get dX1_boxUnder_4 fX1_14 h.1 rfl ?_
    refine zw_cV0 dX1_boxUnder_7 oX6_size kX6_size lX1_81 h.2.1.1 rfl (Nat.le_of_ble_eq_true rfl) rfl (t_size h.2.1 ?_)
    show Zw _ _ _ _ [_, _, _] [_, _] _ _
    refine zw_icmp_ge 34 dX1_boxUnder_10 (by decide) (fun _ => ?_) (fun hz => absurd (nI_le (by omega) (by omega)) hz)
    refine zw_iconst dX1_boxUnder_34 (-1) (by decide) ?_
    refine zw_ireturn .int dX1_boxUnder_35 rfl rfl (Nat.le_refl _) (Nat.le_refl _) ?_
    exact kk
  | succ k ih =>
    intro i hi kk
    refine zw_iload_n dX1_boxUnder_2 rfl ?_
    refine zw_aload_n dX1_boxUnder_3 rfl ?_
    refine zw_get dX1_boxUnder_4 fX1_14 h.1 rfl ?_
    refine zw_cV0 dX1_boxUnder_7 oX6_size kX6_size lX1_81 h.2.1.1 rfl (Nat.le_of_ble_eq_true rfl) rfl (t_size h.2.1 ?_)
    show Zw _ _ _ _ [_, _, _] [_, _] _ _
    refine zw_icmp_ge 34 dX1_boxUnder_10 (by decide) (fun hz => absurd hz (nI_ge (by omega) (by omega))) (fun _ => ?_)
    refine zw_aload_n dX1_boxUnder_13 rfl ?_
    refine zw_get dX1_boxUnder_14 fX1_14 h.1 rfl ?_
    refine zw_iload_n dX1_boxUnder_17 rfl ?_
    refine zw_iconst dX1_boxUnder_18 4 (by decide) ?_
    refine zw_cV2 dX1_boxUnder_19 oX6_at kX6_at lX1_74 h.2.1.1 rfl (Nat.le_of_ble_eq_true rfl) rfl (t_at (c := 4) h.2.1 (by omega) (by decide) ?_)
    show Zw _ _ _ _ [_, _, _] [_] _ _
    refine zw_iload_n dX1_boxUnder_22 rfl ?_
    refine zw_icmp_ne 28 dX1_boxUnder_23 (by decide) (fun hx => ?_) (fun hx => ?_)
    · refine zw_iinc (nI (i + 1)) [_, _, _] dX1_boxUnder_28 rfl (nI_1 i) rfl ?_
      refine zw_goto 2 dX1_boxUnder_31 (by decide) ?_
      refine ih (i + 1) (by omega) ?_
      simpa [fnd, hx] using kk
    · refine zw_iload_n dX1_boxUnder_26 rfl ?_
      refine zw_ireturn .int dX1_boxUnder_27 rfl rfl (Nat.le_refl _) (Nat.le_refl _) ?_
      simpa [fnd, hx] using kk
theorem c_boxUnder {x : Int32} (h : isC w p C) (k : Q (some (.int (fnd (fun b => decide ((C 0).2 (b * 5 + 4) = x)) 0 (C 0).1))) w) : Zm (d + 2) mX1_boxUnder 0 0 [.ref p, .int x] w Q := by
  refine zm_intro [_, _, _] oX1_boxUnder (Nat.le_of_ble_eq_true rfl) rfl ?_
  refine zw_iconst dX1_boxUnder_0 0 (by decide) ?_
  refine zw_istore_n [_, _, _] dX1_boxUnder_1 (Nat.le_of_ble_eq_true rfl) rfl ?_
  exact c_boxUnderL h (C 0).1 0 (by omega) k
theorem c_firstSureL (h : isC w p C) : ∀ (k i : Nat), i + k = (C 1).1 → Q (some (.int (fnd (fun b => decide ((C 1).2 (b * 4 + 3) = 10)) i k))) w → Zw (d + 2) mX1_firstSureLid z0 2 [some (.ref p), some (.int (nI i))] [] w Q := by
  have hb := h.2.2.1.2.2.1
  intro k
  induction k with
  | zero =>
    intro i hi kk
    refine zw_iload_n dX1_firstSureLid_2 rfl ?_
    refine zw_aload_n dX1_firstSureLid_3 rfl ?_
    refine zw_get dX1_firstSureLid_4 fX1_20 h.1 rfl ?_
    refine zw_cV0 dX1_firstSureLid_7 oX6_size kX6_size lX1_81 h.2.2.1.1 rfl (Nat.le_of_ble_eq_true rfl) rfl (t_size h.2.2.1 ?_)
    show Zw _ _ _ _ [_, _] [_, _] _ _
    refine zw_icmp_ge 35 dX1_firstSureLid_10 (by decide) (fun _ => ?_) (fun hz => absurd (nI_le (by omega) (by omega)) hz)
    refine zw_iconst dX1_firstSureLid_35 (-1) (by decide) ?_
    refine zw_ireturn .int dX1_firstSureLid_36 rfl rfl (Nat.le_refl _) (Nat.le_refl _) ?_
    exact kk
  | succ k ih =>
    intro i hi kk
    refine zw_iload_n dX1_firstSureLid_2 rfl ?_
    refine zw_aload_n dX1_firstSureLid_3 rfl ?_
    refine zw_get dX1_firstSureLid_4 fX1_20 h.1 rfl ?_
    refine zw_cV0 dX1_firstSureLid_7 oX6_size kX6_size lX1_81 h.2.2.1.1 rfl (Nat.le_of_ble_eq_true rfl) rfl (t_size h.2.2.1 ?_)
    show Zw _ _ _ _ [_, _] [_, _] _ _
    refine zw_icmp_ge 35 dX1_firstSureLid_10 (by decide) (fun hz => absurd hz (nI_ge (by omega) (by omega))) (fun _ => ?_)
    refine zw_aload_n dX1_firstSureLid_13 rfl ?_
    refine zw_get dX1_firstSureLid_14 fX1_20 h.1 rfl ?_
    refine zw_iload_n dX1_firstSureLid_17 rfl ?_
    refine zw_iconst dX1_firstSureLid_18 3 (by decide) ?_
    refine zw_cV2 dX1_firstSureLid_19 oX6_at kX6_at lX1_74 h.2.2.1.1 rfl (Nat.le_of_ble_eq_true rfl) rfl (t_at (c := 3) h.2.2.1 (by omega) (by decide) ?_)
    show Zw _ _ _ _ [_, _] [_] _ _
    refine zw_bipush dX1_firstSureLid_22 10 (by decide) ?_
    refine zw_icmp_ne 29 dX1_firstSureLid_24 (by decide) (fun hx => ?_) (fun hx => ?_)
    · refine zw_iinc (nI (i + 1)) [_, _] dX1_firstSureLid_29 rfl (nI_1 i) rfl ?_
      refine zw_goto 2 dX1_firstSureLid_32 (by decide) ?_
      refine ih (i + 1) (by omega) ?_
      simpa [fnd, hx] using kk
    · refine zw_iload_n dX1_firstSureLid_27 rfl ?_
      refine zw_ireturn .int dX1_firstSureLid_28 rfl rfl (Nat.le_refl _) (Nat.le_refl _) ?_
      simpa [fnd, hx] using kk
theorem c_firstSure (h : isC w p C) (k : Q (some (.int (fnd (fun b => decide ((C 1).2 (b * 4 + 3) = 10)) 0 (C 1).1))) w) : Zm (d + 2) mX1_firstSureLid 0 0 [.ref p] w Q := by
  refine zm_intro [_, _] oX1_firstSureLid (Nat.le_of_ble_eq_true rfl) rfl ?_
  refine zw_iconst dX1_firstSureLid_0 0 (by decide) ?_
  refine zw_istore_n [_, _] dX1_firstSureLid_1 (Nat.le_of_ble_eq_true rfl) rfl ?_
  exact c_firstSureL h (C 1).1 0 (by omega) k
theorem c_lidsInUseL (h : isC w p C) : ∀ (k i n : Nat), i + k = (C 0).1 → Q (some (.int (nI (n + cnt (fun b => !decide ((C 0).2 (b * 5 + 4) = -1)) i k)))) w → Zw (d + 2) mX1_lidsInUse z0 4 [some (.ref p), some (.int (nI n)), some (.int (nI i))] [] w Q := by
  have hb := h.2.1.2.2.1
  intro k
  induction k with
  | zero =>
    intro i n hi kk
    refine zw_iload_n dX1_lidsInUse_4 rfl ?_
    refine zw_aload_n dX1_lidsInUse_5 rfl ?_
    refine zw_get dX1_lidsInUse_6 fX1_14 h.1 rfl ?_
    refine zw_cV0 dX1_lidsInUse_9 oX6_size kX6_size lX1_81 h.2.1.1 rfl (Nat.le_of_ble_eq_true rfl) rfl (t_size h.2.1 ?_)
    show Zw _ _ _ _ [_, _, _] [_, _] _ _
    refine zw_icmp_ge 37 dX1_lidsInUse_12 (by decide) (fun _ => ?_) (fun hz => absurd (nI_le (by omega) (by omega)) hz)
    refine zw_iload_n dX1_lidsInUse_37 rfl ?_
    refine zw_ireturn .int dX1_lidsInUse_38 rfl rfl (Nat.le_refl _) (Nat.le_refl _) ?_
    exact kk
  | succ k ih =>
    intro i n hi kk
    refine zw_iload_n dX1_lidsInUse_4 rfl ?_
    refine zw_aload_n dX1_lidsInUse_5 rfl ?_
    refine zw_get dX1_lidsInUse_6 fX1_14 h.1 rfl ?_
    refine zw_cV0 dX1_lidsInUse_9 oX6_size kX6_size lX1_81 h.2.1.1 rfl (Nat.le_of_ble_eq_true rfl) rfl (t_size h.2.1 ?_)
    show Zw _ _ _ _ [_, _, _] [_, _] _ _
    refine zw_icmp_ge 37 dX1_lidsInUse_12 (by decide) (fun hz => absurd hz (nI_ge (by omega) (by omega))) (fun _ => ?_)
    refine zw_aload_n dX1_lidsInUse_15 rfl ?_
    refine zw_get dX1_lidsInUse_16 fX1_14 h.1 rfl ?_
    refine zw_iload_n dX1_lidsInUse_19 rfl ?_
    refine zw_iconst dX1_lidsInUse_20 4 (by decide) ?_
    refine zw_cV2 dX1_lidsInUse_21 oX6_at kX6_at lX1_74 h.2.1.1 rfl (Nat.le_of_ble_eq_true rfl) rfl (t_at (c := 4) h.2.1 (by omega) (by decide) ?_)
    show Zw _ _ _ _ [_, _, _] [_] _ _
    refine zw_iconst dX1_lidsInUse_24 (-1) (by decide) ?_
    refine zw_icmp_eq 31 dX1_lidsInUse_25 (by decide) (fun hx => ?_) (fun hx => ?_)
    · refine zw_iinc (nI (i + 1)) [_, _, _] dX1_lidsInUse_31 rfl (nI_1 i) rfl ?_
      refine zw_goto 4 dX1_lidsInUse_34 (by decide) ?_
      refine ih (i + 1) n (by omega) ?_
      simpa [cnt, hx] using kk
    · refine zw_iinc (nI (n + 1)) [_, _, _] dX1_lidsInUse_28 rfl (nI_1 n) rfl ?_
      refine zw_iinc (nI (i + 1)) [_, _, _] dX1_lidsInUse_31 rfl (nI_1 i) rfl ?_
      refine zw_goto 4 dX1_lidsInUse_34 (by decide) ?_
      refine ih (i + 1) (n + 1) (by omega) ?_
      rw [Nat.add_assoc]
      simpa [cnt, hx] using kk
theorem c_lidsInUse (h : isC w p C) (k : Q (some (.int (nI (cnt (fun b => !decide ((C 0).2 (b * 5 + 4) = -1)) 0 (C 0).1)))) w) : Zm (d + 2) mX1_lidsInUse 0 0 [.ref p] w Q := by
  refine zm_intro [_, _, _] oX1_lidsInUse (Nat.le_of_ble_eq_true rfl) rfl ?_
  refine zw_iconst dX1_lidsInUse_0 0 (by decide) ?_
  refine zw_istore_n [_, _, _] dX1_lidsInUse_1 (Nat.le_of_ble_eq_true rfl) rfl ?_
  refine zw_iconst dX1_lidsInUse_2 0 (by decide) ?_
  refine zw_istore_n [_, _, _] dX1_lidsInUse_3 (Nat.le_of_ble_eq_true rfl) rfl ?_
  exact c_lidsInUseL h (C 0).1 0 0 (by omega) (by rw [Nat.zero_add]; exact k)
end ZCUPB
