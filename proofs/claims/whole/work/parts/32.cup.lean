/-! ===== Cupboard: its cells; the methods that change it ===== -/
/-- a cupboard at p: its six tables (boxes, lids, sorts, tales, hints, undos) -/
def isC (w : ZW) (p : Nat) (C : Nat → Nat × (Nat → Int32)) : Prop := zat w p (.inr (1, [.ref (p + 1), .ref (p + 3), .ref (p + 5), .ref (p + 7), .ref (p + 9), .ref (p + 11)])) ∧ isT w (p + 1) 5 7 (C 0) ∧ isT w (p + 3) 4 7 (C 1) ∧ isT w (p + 5) 4 4 (C 2) ∧ isT w (p + 7) 3 8 (C 3) ∧ isT w (p + 9) 3 8 (C 4) ∧ isT w (p + 11) 3 12 (C 5)
section ZCUPA
variable {d p : Nat} {w w' : ZW} {C : Nat → Nat × (Nat → Int32)} {q : Nat × (Nat → Int32)} {Q : Option Value → ZW → Prop}
theorem isC.off {lo hi : Nat} (h : isC w p C) (ho : zOff lo hi w w') (ht : p + 13 ≤ lo ∨ hi ≤ p) : isC w' p C := ⟨h.1.off ho (by omega), h.2.1.off ho (by omega), h.2.2.1.off ho (by omega), h.2.2.2.1.off ho (by omega), h.2.2.2.2.1.off ho (by omega), h.2.2.2.2.2.1.off ho (by omega), h.2.2.2.2.2.2.off ho (by omega)⟩
theorem isC.s0 (h : isC w p C) (ho : zOff (p + 1) (p + 1 + 2) w w') (ht : isT w' (p + 1) 5 7 q) : isC w' p (va_up C 0 q) := ⟨h.1.off ho (by omega), ht, h.2.2.1.off ho (by omega), h.2.2.2.1.off ho (by omega), h.2.2.2.2.1.off ho (by omega), h.2.2.2.2.2.1.off ho (by omega), h.2.2.2.2.2.2.off ho (by omega)⟩
theorem isC.s1 (h : isC w p C) (ho : zOff (p + 3) (p + 3 + 2) w w') (ht : isT w' (p + 3) 4 7 q) : isC w' p (va_up C 1 q) := ⟨h.1.off ho (by omega), h.2.1.off ho (by omega), ht, h.2.2.2.1.off ho (by omega), h.2.2.2.2.1.off ho (by omega), h.2.2.2.2.2.1.off ho (by omega), h.2.2.2.2.2.2.off ho (by omega)⟩
theorem isC.s2 (h : isC w p C) (ho : zOff (p + 5) (p + 5 + 2) w w') (ht : isT w' (p + 5) 4 4 q) : isC w' p (va_up C 2 q) := ⟨h.1.off ho (by omega), h.2.1.off ho (by omega), h.2.2.1.off ho (by omega), ht, h.2.2.2.2.1.off ho (by omega), h.2.2.2.2.2.1.off ho (by omega), h.2.2.2.2.2.2.off ho (by omega)⟩
theorem isC.s3 (h : isC w p C) (ho : zOff (p + 7) (p + 7 + 2) w w') (ht : isT w' (p + 7) 3 8 q) : isC w' p (va_up C 3 q) := ⟨h.1.off ho (by omega), h.2.1.off ho (by omega), h.2.2.1.off ho (by omega), h.2.2.2.1.off ho (by omega), ht, h.2.2.2.2.2.1.off ho (by omega), h.2.2.2.2.2.2.off ho (by omega)⟩
theorem isC.s4 (h : isC w p C) (ho : zOff (p + 9) (p + 9 + 2) w w') (ht : isT w' (p + 9) 3 8 q) : isC w' p (va_up C 4 q) := ⟨h.1.off ho (by omega), h.2.1.off ho (by omega), h.2.2.1.off ho (by omega), h.2.2.2.1.off ho (by omega), h.2.2.2.2.1.off ho (by omega), ht, h.2.2.2.2.2.2.off ho (by omega)⟩
theorem isC.s5 (h : isC w p C) (ho : zOff (p + 11) (p + 11 + 2) w w') (ht : isT w' (p + 11) 3 12 q) : isC w' p (va_up C 5 q) := ⟨h.1.off ho (by omega), h.2.1.off ho (by omega), h.2.2.1.off ho (by omega), h.2.2.2.1.off ho (by omega), h.2.2.2.2.1.off ho (by omega), h.2.2.2.2.2.1.off ho (by omega), ht⟩
theorem c_isKind {x : Int32} (k1 : 0 ≤ x → x ≤ 5 → Q (some (.int 1)) w) (k0 : ¬ (0 ≤ x ∧ x ≤ 5) → Q (some (.int 0)) w) : Zm (d + 1) mX1_isKind 0 0 [.int x] w Q := by
  refine zm_intro [_] oX1_isKind (Nat.le_of_ble_eq_true rfl) rfl ?_
  refine zw_iload_n dX1_isKind_0 rfl ?_
  refine zw_iconst dX1_isKind_1 0 (by decide) ?_
  refine zw_iconst dX1_isKind_2 5 (by decide) ?_
  refine zw_cS3 dX1_isKind_3 oX8_within kX8_within lX1_47 (Nat.le_of_ble_eq_true rfl) rfl (x_within (fun h1 h2 => ?_) (fun h1 => ?_))
  show Zw _ _ _ _ [_] [_] _ _
  · show Zw _ _ _ _ [_] [_] _ _
    refine zw_ireturn .boolean dX1_isKind_6 rfl rfl (Nat.le_refl _) (Nat.le_refl _) ?_
    exact k1 h1 h2
  · show Zw _ _ _ _ [_] [_] _ _
    refine zw_ireturn .boolean dX1_isKind_6 rfl rfl (Nat.le_refl _) (Nat.le_refl _) ?_
    exact k0 h1
theorem c_isFS {x y : Int32} (k1 : 0 ≤ x → x ≤ 2 → 1 ≤ y → y ≤ 9 → Q (some (.int 1)) w) (k0 : ¬ ((0 ≤ x ∧ x ≤ 2) ∧ 1 ≤ y ∧ y ≤ 9) → Q (some (.int 0)) w) : Zm (d + 1) mX1_isFormAndSize 0 0 [.int x, .int y] w Q := by
  refine zm_intro [_, _] oX1_isFormAndSize (Nat.le_of_ble_eq_true rfl) rfl ?_
  refine zw_iload_n dX1_isFormAndSize_0 rfl ?_
  refine zw_iconst dX1_isFormAndSize_1 0 (by decide) ?_
  refine zw_iconst dX1_isFormAndSize_2 2 (by decide) ?_
  refine zw_cS3 dX1_isFormAndSize_3 oX8_within kX8_within lX1_47 (Nat.le_of_ble_eq_true rfl) rfl (x_within (fun h1 h2 => ?_) (fun h1 => ?_))
  · show Zw _ _ _ _ [_, _] [_] _ _
    refine zw_if_eq 23 dX1_isFormAndSize_6 (by decide) (fun hz => absurd hz (by decide)) (fun _ => ?_)
    refine zw_iload_n dX1_isFormAndSize_9 rfl ?_
    refine zw_iconst dX1_isFormAndSize_10 1 (by decide) ?_
    refine zw_bipush dX1_isFormAndSize_11 9 (by decide) ?_
    refine zw_cS3 dX1_isFormAndSize_13 oX8_within kX8_within lX1_47 (Nat.le_of_ble_eq_true rfl) rfl (x_within (fun h3 h4 => ?_) (fun h3 => ?_))
    · show Zw _ _ _ _ [_, _] [_] _ _
      refine zw_if_eq 23 dX1_isFormAndSize_16 (by decide) (fun hz => absurd hz (by decide)) (fun _ => ?_)
      refine zw_iconst dX1_isFormAndSize_19 1 (by decide) ?_
      refine zw_goto 24 dX1_isFormAndSize_20 (by decide) ?_
      refine zw_ireturn .boolean dX1_isFormAndSize_24 rfl rfl (Nat.le_refl _) (Nat.le_refl _) ?_
      exact k1 h1 h2 h3 h4
    · show Zw _ _ _ _ [_, _] [_] _ _
      refine zw_if_eq 23 dX1_isFormAndSize_16 (by decide) (fun _ => ?_) (fun hz => absurd (rfl) hz)
      refine zw_iconst dX1_isFormAndSize_23 0 (by decide) ?_
      refine zw_ireturn .boolean dX1_isFormAndSize_24 rfl rfl (Nat.le_refl _) (Nat.le_refl _) ?_
      exact k0 (fun z => h3 z.2)
  · show Zw _ _ _ _ [_, _] [_] _ _
    refine zw_if_eq 23 dX1_isFormAndSize_6 (by decide) (fun _ => ?_) (fun hz => absurd (rfl) hz)
    refine zw_iconst dX1_isFormAndSize_23 0 (by decide) ?_
    refine zw_ireturn .boolean dX1_isFormAndSize_24 rfl rfl (Nat.le_refl _) (Nat.le_refl _) ?_
    exact k0 (fun z => h1 z.1)
theorem c_empty (h : isC w p C) (k : ∀ w', isC w' p (fun i => (0, (C i).2)) → zOff p (p + 13) w w' → Q none w') : Zm (d + 1) mX1_empty 0 0 [.ref p] w Q := by
  refine zm_intro [_] oX1_empty (Nat.le_of_ble_eq_true rfl) rfl ?_
  refine zw_aload_n dX1_empty_0 rfl ?_
  refine zw_get dX1_empty_1 fX1_14 h.1 rfl ?_
  refine zw_cV0 dX1_empty_4 oX6_drop kX6_drop lX1_35 h.2.1.1 rfl (Nat.le_of_ble_eq_true rfl) rfl (t_drop h.2.1 (fun w1 t1 o1 => ?_))
  show Zw _ _ _ _ [_] [_] _ _
  have h := h.s0 o1 t1
  refine zw_pop dX1_empty_7 rfl ?_
  refine zw_aload_n dX1_empty_8 rfl ?_
  refine zw_get dX1_empty_9 fX1_20 h.1 rfl ?_
  refine zw_cV0 dX1_empty_12 oX6_drop kX6_drop lX1_35 h.2.2.1.1 rfl (Nat.le_of_ble_eq_true rfl) rfl (t_drop h.2.2.1 (fun w2 t2 o2 => ?_))
  show Zw _ _ _ _ [_] [_] _ _
  have h := h.s1 o2 t2
  refine zw_pop dX1_empty_15 rfl ?_
  refine zw_aload_n dX1_empty_16 rfl ?_
  refine zw_get dX1_empty_17 fX1_23 h.1 rfl ?_
  refine zw_cV0 dX1_empty_20 oX6_drop kX6_drop lX1_35 h.2.2.2.1.1 rfl (Nat.le_of_ble_eq_true rfl) rfl (t_drop h.2.2.2.1 (fun w3 t3 o3 => ?_))
  show Zw _ _ _ _ [_] [_] _ _
  have h := h.s2 o3 t3
  refine zw_pop dX1_empty_23 rfl ?_
  refine zw_aload_n dX1_empty_24 rfl ?_
  refine zw_get dX1_empty_25 fX1_26 h.1 rfl ?_
  refine zw_cV0 dX1_empty_28 oX6_drop kX6_drop lX1_35 h.2.2.2.2.1.1 rfl (Nat.le_of_ble_eq_true rfl) rfl (t_drop h.2.2.2.2.1 (fun w4 t4 o4 => ?_))
  show Zw _ _ _ _ [_] [_] _ _
  have h := h.s3 o4 t4
  refine zw_pop dX1_empty_31 rfl ?_
  refine zw_aload_n dX1_empty_32 rfl ?_
  refine zw_get dX1_empty_33 fX1_29 h.1 rfl ?_
  refine zw_cV0 dX1_empty_36 oX6_drop kX6_drop lX1_35 h.2.2.2.2.2.1.1 rfl (Nat.le_of_ble_eq_true rfl) rfl (t_drop h.2.2.2.2.2.1 (fun w5 t5 o5 => ?_))
  show Zw _ _ _ _ [_] [_] _ _
  have h := h.s4 o5 t5
  refine zw_pop dX1_empty_39 rfl ?_
  refine zw_aload_n dX1_empty_40 rfl ?_
  refine zw_get dX1_empty_41 fX1_32 h.1 rfl ?_
  refine zw_cV0 dX1_empty_44 oX6_drop kX6_drop lX1_35 h.2.2.2.2.2.2.1 rfl (Nat.le_of_ble_eq_true rfl) rfl (t_drop h.2.2.2.2.2.2 (fun w6 t6 o6 => ?_))
  show Zw _ _ _ _ [_] [_] _ _
  have h := h.s5 o6 t6
  refine zw_pop dX1_empty_47 rfl ?_
  refine zw_return dX1_empty_48 rfl (Nat.le_refl _) (Nat.le_refl _) ?_
  refine k w6 ⟨h.1, h.2.1, h.2.2.1, h.2.2.2.1, h.2.2.2.2.1, h.2.2.2.2.2.1, h.2.2.2.2.2.2⟩ ?_
  exact (o1.wd (by omega) (by omega)).tr ((o2.wd (by omega) (by omega)).tr ((o3.wd (by omega) (by omega)).tr ((o4.wd (by omega) (by omega)).tr ((o5.wd (by omega) (by omega)).tr (o6.wd (by omega) (by omega))))))
/-- the lengths of the six tables -/
def cLen (i : Nat) : Nat := match i with
  | 0 => 35
  | 1 => 28
  | 2 => 16
  | 3 => 24
  | 4 => 24
  | _ => 36
/-- the same cupboard, cell by cell -/
def cSame (C C' : Nat → Nat × (Nat → Int32)) : Prop := ∀ i, i < 6 → (C i).1 = (C' i).1 ∧ ∀ j, j < cLen i → (C i).2 j = (C' i).2 j
theorem c_become {p2 : Nat} {C2 : Nat → Nat × (Nat → Int32)} (h : isC w p C) (g : isC w p2 C2) (hne : p + 13 ≤ p2 ∨ p2 + 13 ≤ p) (k : ∀ w' C', cSame C' C2 → isC w' p C' → zOff p (p + 13) w w' → Q none w') : Zm (d + 2) mX1_become 0 0 [.ref p, .ref p2] w Q := by
  refine zm_intro [_, _] oX1_become (Nat.le_of_ble_eq_true rfl) rfl ?_
  refine zw_aload_n dX1_become_0 rfl ?_
  refine zw_get dX1_become_1 fX1_14 h.1 rfl ?_
  refine zw_aload_n dX1_become_4 rfl ?_
  refine zw_get dX1_become_5 fX1_14 g.1 rfl ?_
  refine zw_cV1 dX1_become_8 oX6_become kX6_become lX1_39 h.2.1.1 rfl (Nat.le_of_ble_eq_true rfl) rfl (t_become h.2.1 g.2.1 (by omega) (fun w1 f1 e1 t1 o1 => ?_))
  show Zw _ _ _ _ [_, _] [] _ _
  have h := h.s0 o1 t1
  have g := g.off o1 (by omega)
  refine zw_aload_n dX1_become_11 rfl ?_
  refine zw_get dX1_become_12 fX1_20 h.1 rfl ?_
  refine zw_aload_n dX1_become_15 rfl ?_
  refine zw_get dX1_become_16 fX1_20 g.1 rfl ?_
  refine zw_cV1 dX1_become_19 oX6_become kX6_become lX1_39 h.2.2.1.1 rfl (Nat.le_of_ble_eq_true rfl) rfl (t_become h.2.2.1 g.2.2.1 (by omega) (fun w2 f2 e2 t2 o2 => ?_))
  show Zw _ _ _ _ [_, _] [] _ _
  have h := h.s1 o2 t2
  have g := g.off o2 (by omega)
  refine zw_aload_n dX1_become_22 rfl ?_
  refine zw_get dX1_become_23 fX1_23 h.1 rfl ?_
  refine zw_aload_n dX1_become_26 rfl ?_
  refine zw_get dX1_become_27 fX1_23 g.1 rfl ?_
  refine zw_cV1 dX1_become_30 oX6_become kX6_become lX1_39 h.2.2.2.1.1 rfl (Nat.le_of_ble_eq_true rfl) rfl (t_become h.2.2.2.1 g.2.2.2.1 (by omega) (fun w3 f3 e3 t3 o3 => ?_))
  show Zw _ _ _ _ [_, _] [] _ _
  have h := h.s2 o3 t3
  have g := g.off o3 (by omega)
  refine zw_aload_n dX1_become_33 rfl ?_
  refine zw_get dX1_become_34 fX1_26 h.1 rfl ?_
  refine zw_aload_n dX1_become_37 rfl ?_
  refine zw_get dX1_become_38 fX1_26 g.1 rfl ?_
  refine zw_cV1 dX1_become_41 oX6_become kX6_become lX1_39 h.2.2.2.2.1.1 rfl (Nat.le_of_ble_eq_true rfl) rfl (t_become h.2.2.2.2.1 g.2.2.2.2.1 (by omega) (fun w4 f4 e4 t4 o4 => ?_))
  show Zw _ _ _ _ [_, _] [] _ _
  have h := h.s3 o4 t4
  have g := g.off o4 (by omega)
  refine zw_aload_n dX1_become_44 rfl ?_
  refine zw_get dX1_become_45 fX1_29 h.1 rfl ?_
  refine zw_aload_n dX1_become_48 rfl ?_
  refine zw_get dX1_become_49 fX1_29 g.1 rfl ?_
  refine zw_cV1 dX1_become_52 oX6_become kX6_become lX1_39 h.2.2.2.2.2.1.1 rfl (Nat.le_of_ble_eq_true rfl) rfl (t_become h.2.2.2.2.2.1 g.2.2.2.2.2.1 (by omega) (fun w5 f5 e5 t5 o5 => ?_))
  show Zw _ _ _ _ [_, _] [] _ _
  have h := h.s4 o5 t5
  have g := g.off o5 (by omega)
  refine zw_aload_n dX1_become_55 rfl ?_
  refine zw_get dX1_become_56 fX1_32 h.1 rfl ?_
  refine zw_aload_n dX1_become_59 rfl ?_
  refine zw_get dX1_become_60 fX1_32 g.1 rfl ?_
  refine zw_cV1 dX1_become_63 oX6_become kX6_become lX1_39 h.2.2.2.2.2.2.1 rfl (Nat.le_of_ble_eq_true rfl) rfl (t_become h.2.2.2.2.2.2 g.2.2.2.2.2.2 (by omega) (fun w6 f6 e6 t6 o6 => ?_))
  show Zw _ _ _ _ [_, _] [] _ _
  have h := h.s5 o6 t6
  refine zw_return dX1_become_66 rfl (Nat.le_refl _) (Nat.le_refl _) ?_
  refine k w6 _ ?_ h ((o1.wd (by omega) (by omega)).tr ((o2.wd (by omega) (by omega)).tr ((o3.wd (by omega) (by omega)).tr ((o4.wd (by omega) (by omega)).tr ((o5.wd (by omega) (by omega)).tr (o6.wd (by omega) (by omega)))))))
  intro i hi
  match i, hi with
  | 0, _ => exact ⟨rfl, e1⟩
  | 1, _ => exact ⟨rfl, e2⟩
  | 2, _ => exact ⟨rfl, e3⟩
  | 3, _ => exact ⟨rfl, e4⟩
  | 4, _ => exact ⟨rfl, e5⟩
  | 5, _ => exact ⟨rfl, e6⟩
/-- a box as told -/
def okBox (form size holds : Int32) : Prop := (0 ≤ form ∧ form ≤ 2) ∧ (1 ≤ size ∧ size ≤ 9) ∧ 0 ≤ holds ∧ holds ≤ 20
def okLid (kind form size : Int32) : Prop := (0 ≤ kind ∧ kind ≤ 5) ∧ (0 ≤ form ∧ form ≤ 2) ∧ 1 ≤ size ∧ size ≤ 9
def okSort (kind form size price : Int32) : Prop := okLid kind form size ∧ 1 ≤ price ∧ price ≤ 50
/-- a row of five behind n others -/
def row5 (f : Nat → Int32) (n : Nat) (a b c e g : Int32) : Nat → Int32 := upd (upd (upd (upd (upd f (n * 5) a) (n * 5 + 1) b) (n * 5 + 2) c) (n * 5 + 3) e) (n * 5 + 4) g
def row4 (f : Nat → Int32) (n : Nat) (a b c e : Int32) : Nat → Int32 := upd (upd (upd (upd f (n * 4) a) (n * 4 + 1) b) (n * 4 + 2) c) (n * 4 + 3) e
def row3 (f : Nat → Int32) (n : Nat) (a b c : Int32) : Nat → Int32 := upd (upd (upd f (n * 3) a) (n * 3 + 1) b) (n * 3 + 2) c
theorem c_addBox {x y z : Int32} (h : isC w p C) (kB : ¬ okBox x y z → Q (some (.int (-2))) w) (kF : okBox x y z → (C 0).1 = 7 → Q (some (.int (-4))) w) (kA : okBox x y z → (C 0).1 < 7 → ∀ w', isC w' p (va_up (va_up C 0 ((C 0).1 + 1, row5 (C 0).2 (C 0).1 x y z 1 (-1))) 5 (0, (C 5).2)) → zOff p (p + 13) w w' → Q (some (.int (nI (C 0).1))) w') : Zm (d + 3) mX1_addBox 0 0 [.ref p, .int x, .int y, .int z] w Q := by
  have hb := h.2.1.2.2.1
  refine zm_intro [_, _, _, _, _] oX1_addBox (Nat.le_of_ble_eq_true rfl) rfl ?_
  refine zw_iload_n dX1_addBox_0 rfl ?_
  refine zw_iload_n dX1_addBox_1 rfl ?_
  refine zw_cS2 dX1_addBox_2 oX1_isFormAndSize kX1_isFormAndSize lX1_43 (Nat.le_of_ble_eq_true rfl) rfl (c_isFS (fun h1 h2 h3 h4 => ?_) (fun h1 => ?_))
  · show Zw _ _ _ _ [_, _, _, _, _] [_] _ _
    refine zw_if_eq 18 dX1_addBox_5 (by decide) (fun hz => absurd hz (by decide)) (fun _ => ?_)
    refine zw_iload_n dX1_addBox_8 rfl ?_
    refine zw_iconst dX1_addBox_9 0 (by decide) ?_
    refine zw_bipush dX1_addBox_10 20 (by decide) ?_
    refine zw_cS3 dX1_addBox_12 oX8_within kX8_within lX1_47 (Nat.le_of_ble_eq_true rfl) rfl (x_within (fun h5 h6 => ?_) (fun h5 => ?_))
    · show Zw _ _ _ _ [_, _, _, _, _] [_] _ _
      refine zw_if_ne 21 dX1_addBox_15 (by decide) (fun _ => ?_) (fun hz => absurd hz (by decide))
      refine zw_aload_n dX1_addBox_21 rfl ?_
      refine zw_get dX1_addBox_22 fX1_14 h.1 rfl ?_
      refine zw_iload_n dX1_addBox_25 rfl ?_
      refine zw_iload_n dX1_addBox_26 rfl ?_
      refine zw_iload_n dX1_addBox_27 rfl ?_
      have hok : okBox x y z := ⟨⟨h1, h2⟩, ⟨h3, h4⟩, h5, h6⟩
      rcases Nat.lt_or_ge (C 0).1 7 with hq | hq
      · refine zw_cV3 dX1_addBox_28 oX6_add kX6_add lX1_51 h.2.1.1 rfl (Nat.le_of_ble_eq_true rfl) rfl (t_add h.2.1 hq (fun w1 t1 o1 => ?_))
        show Zw _ _ _ _ [_, _, _, _, _] [_] _ _
        have g := h.s0 o1 t1
        refine zw_istore [_, _, _, _, _] dX1_addBox_31 (Nat.le_of_ble_eq_true rfl) rfl ?_
        refine zw_iload dX1_addBox_33 rfl ?_
        refine zw_if_lt 68 dX1_addBox_35 (by decide) (fun hz => absurd hz (nI_pos (by omega))) (fun _ => ?_)
        refine zw_aload_n dX1_addBox_38 rfl ?_
        refine zw_get dX1_addBox_39 fX1_14 g.1 rfl ?_
        refine zw_iload dX1_addBox_42 rfl ?_
        refine zw_iconst dX1_addBox_44 3 (by decide) ?_
        refine zw_iconst dX1_addBox_45 1 (by decide) ?_
        refine zw_cV3 dX1_addBox_46 oX6_change kX6_change lX1_55 g.2.1.1 rfl (Nat.le_of_ble_eq_true rfl) rfl (t_change (r := (C 0).1) (c := 3) g.2.1 (Nat.lt_succ_self _) (by decide) (fun w2 t2 o2 => ?_))
        show Zw _ _ _ _ [_, _, _, _, _] [] _ _
        have g := g.s0 o2 t2
        refine zw_aload_n dX1_addBox_49 rfl ?_
        refine zw_get dX1_addBox_50 fX1_14 g.1 rfl ?_
        refine zw_iload dX1_addBox_53 rfl ?_
        refine zw_iconst dX1_addBox_55 4 (by decide) ?_
        refine zw_iconst dX1_addBox_56 (-1) (by decide) ?_
        refine zw_cV3 dX1_addBox_57 oX6_change kX6_change lX1_55 g.2.1.1 rfl (Nat.le_of_ble_eq_true rfl) rfl (t_change (r := (C 0).1) (c := 4) g.2.1 (Nat.lt_succ_self _) (by decide) (fun w3 t3 o3 => ?_))
        show Zw _ _ _ _ [_, _, _, _, _] [] _ _
        have g := g.s0 o3 t3
        refine zw_aload_n dX1_addBox_60 rfl ?_
        refine zw_get dX1_addBox_61 fX1_32 g.1 rfl ?_
        refine zw_cV0 dX1_addBox_64 oX6_drop kX6_drop lX1_35 g.2.2.2.2.2.2.1 rfl (Nat.le_of_ble_eq_true rfl) rfl (t_drop g.2.2.2.2.2.2 (fun w4 t4 o4 => ?_))
        show Zw _ _ _ _ [_, _, _, _, _] [_] _ _
        have g := g.s5 o4 t4
        refine zw_pop dX1_addBox_67 rfl ?_
        refine zw_iload dX1_addBox_68 rfl ?_
        refine zw_ireturn .int dX1_addBox_70 rfl rfl (Nat.le_refl _) (Nat.le_refl _) ?_
        refine kA hok hq w4 ?_ ((o1.wd (by omega) (by omega)).tr ((o2.wd (by omega) (by omega)).tr ((o3.wd (by omega) (by omega)).tr (o4.wd (by omega) (by omega)))))
        exact ⟨g.1, g.2.1, g.2.2.1, g.2.2.2.1, g.2.2.2.2.1, g.2.2.2.2.2.1, g.2.2.2.2.2.2⟩
      · refine zw_cV3 dX1_addBox_28 oX6_add kX6_add lX1_51 h.2.1.1 rfl (Nat.le_of_ble_eq_true rfl) rfl (t_addN h.2.1 (by omega) ?_)
        show Zw _ _ _ _ [_, _, _, _, _] [_] _ _
        refine zw_istore [_, _, _, _, _] dX1_addBox_31 (Nat.le_of_ble_eq_true rfl) rfl ?_
        refine zw_iload dX1_addBox_33 rfl ?_
        refine zw_if_lt 68 dX1_addBox_35 (by decide) (fun _ => ?_) (fun hz => absurd (by decide) hz)
        refine zw_iload dX1_addBox_68 rfl ?_
        refine zw_ireturn .int dX1_addBox_70 rfl rfl (Nat.le_refl _) (Nat.le_refl _) ?_
        exact kF hok (by omega)
    · show Zw _ _ _ _ [_, _, _, _, _] [_] _ _
      refine zw_if_ne 21 dX1_addBox_15 (by decide) (fun hz => absurd (rfl) hz) (fun _ => ?_)
      refine zw_bipush dX1_addBox_18 (-2) (by decide) ?_
      refine zw_ireturn .int dX1_addBox_20 rfl rfl (Nat.le_refl _) (Nat.le_refl _) ?_
      exact kB (fun z => h5 z.2.2)
  · show Zw _ _ _ _ [_, _, _, _, _] [_] _ _
    refine zw_if_eq 18 dX1_addBox_5 (by decide) (fun _ => ?_) (fun hz => absurd (rfl) hz)
    refine zw_bipush dX1_addBox_18 (-2) (by decide) ?_
    refine zw_ireturn .int dX1_addBox_20 rfl rfl (Nat.le_refl _) (Nat.le_refl _) ?_
    exact kB (fun z => h1 ⟨z.1, z.2.1⟩)
end ZCUPA
