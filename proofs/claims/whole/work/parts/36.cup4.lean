/-! ===== Cupboard: lids on and off, undo; evenings; bits of the JDK ===== -/
section ZCUPD
variable {d p : Nat} {w w' : ZW} {C : Nat → Nat × (Nat → Int32)} {q : Nat × (Nat → Int32)} {Q : Option Value → ZW → Prop}
/-- the deeds ahead of a new one: twelve are one too many -/
def deeds (q q' : Nat × (Nat → Int32)) : Prop := (q.1 < 12 ∧ q' = q) ∨ (q.1 = 12 ∧ q'.1 = 11 ∧ ∀ j, j < 33 → q'.2 j = q.2 (3 + j))
theorem c_remember {a b e : Int32} (h : isC w p C) (k : ∀ w' q', deeds (C 5) q' → isC w' p (va_up C 5 (q'.1 + 1, row3 q'.2 q'.1 a b e)) → zOff p (p + 13) w w' → Q none w') : Zm (d + 3) mX1_remember 0 0 [.ref p, .int a, .int b, .int e] w Q := by
  have hb1 := h.2.2.2.2.2.2.2.2.1
  refine zm_intro [_, _, _, _] oX1_remember (Nat.le_of_ble_eq_true rfl) rfl ?_
  refine zw_aload_n dX1_remember_0 rfl ?_
  refine zw_get dX1_remember_1 fX1_32 h.1 rfl ?_
  refine zw_cV0 dX1_remember_4 oX6_size kX6_size lX1_81 h.2.2.2.2.2.2.1 rfl (Nat.le_of_ble_eq_true rfl) rfl (t_size h.2.2.2.2.2.2 ?_)
  show Zw _ _ _ 7 [_, _, _, _] [_] _ _
  refine zw_bipush dX1_remember_7 12 (by decide) ?_
  rcases Nat.lt_or_ge (C 5).1 12 with hn | hn
  · refine zw_icmp_lt 19 dX1_remember_9 (by decide) (fun _ => ?_) (fun hz => absurd (nI_lt (b := 12) hn (by decide)) hz)
    refine zw_aload_n dX1_remember_19 rfl ?_
    refine zw_get dX1_remember_20 fX1_32 h.1 rfl ?_
    refine zw_iload_n dX1_remember_23 rfl ?_
    refine zw_iload_n dX1_remember_24 rfl ?_
    refine zw_iload_n dX1_remember_25 rfl ?_
    refine zw_cV3 dX1_remember_26 oX6_add kX6_add lX1_51 h.2.2.2.2.2.2.1 rfl (Nat.le_of_ble_eq_true rfl) rfl (t_add h.2.2.2.2.2.2 hn (fun w1 t1 o1 => ?_))
    show Zw _ _ _ 29 [_, _, _, _] [_] _ _
    have g := h.s5 o1 t1
    refine zw_pop dX1_remember_29 rfl ?_
    refine zw_return dX1_remember_30 rfl (Nat.le_refl _) (Nat.le_refl _) ?_
    exact k w1 (C 5) (Or.inl ⟨hn, rfl⟩) g (o1.wd (by omega) (by omega))
  · have h12 : (C 5).1 = 12 := by omega
    refine zw_icmp_lt 19 dX1_remember_9 (by decide) (fun hz => absurd hz (nI_nlt (a := (C 5).1) (b := 12) hn (by omega))) (fun _ => ?_)
    have e5 : C 5 = (11 + 1, (C 5).2) := Prod.ext h12 rfl
    have ht := h.2.2.2.2.2.2
    rw [e5] at ht
    refine zw_aload_n dX1_remember_12 rfl ?_
    refine zw_get dX1_remember_13 fX1_32 h.1 rfl ?_
    refine zw_cV0 dX1_remember_16 oX6_dropFirst kX6_dropFirst lX1_84 ht.1 rfl (Nat.le_of_ble_eq_true rfl) rfl (t_dropFirst ht (fun w1 f1 e1 t1 o1 => ?_))
    show Zw _ _ _ 19 [_, _, _, _] [] _ _
    have g := h.s5 o1 t1
    refine zw_aload_n dX1_remember_19 rfl ?_
    refine zw_get dX1_remember_20 fX1_32 g.1 rfl ?_
    refine zw_iload_n dX1_remember_23 rfl ?_
    refine zw_iload_n dX1_remember_24 rfl ?_
    refine zw_iload_n dX1_remember_25 rfl ?_
    refine zw_cV3 dX1_remember_26 oX6_add kX6_add lX1_51 g.2.2.2.2.2.2.1 rfl (Nat.le_of_ble_eq_true rfl) rfl (t_add g.2.2.2.2.2.2 (show 11 < 12 by decide) (fun w2 t2 o2 => ?_))
    show Zw _ _ _ 29 [_, _, _, _] [_] _ _
    have g2 := g.s5 o2 t2
    refine zw_pop dX1_remember_29 rfl ?_
    refine zw_return dX1_remember_30 rfl (Nat.le_refl _) (Nat.le_refl _) ?_
    refine k w2 (11, f1) (Or.inr ⟨h12, rfl, e1⟩) ?_ ((o1.wd (by omega) (by omega)).tr (o2.wd (by omega) (by omega)))
    exact ⟨g2.1, g2.2.1, g2.2.2.1, g2.2.2.2.1, g2.2.2.2.2.1, g2.2.2.2.2.2.1, g2.2.2.2.2.2.2⟩
/-- the box that lid l is on -/
def onBox (C : Nat → Nat × (Nat → Int32)) (x : Int32) : Int32 := fnd (fun b => decide ((C 0).2 (b * 5 + 4) = x)) 0 (C 0).1
theorem c_putOn {x y : Int32} (h : isC w p C) (hk : okK (C 1)) (kB : ((∀ r, r < (C 1).1 → ¬ x = nI r) ∨ ∀ r, r < (C 0).1 → ¬ y = nI r) → Q (some (.int (-2))) w)
    (kN : ∀ l b, l < (C 1).1 → b < (C 0).1 → x = nI l → y = nI b → ¬ (cFit C l b = true ∧ onBox C (nI l) = -1 ∧ (C 0).2 (b * 5 + 4) = -1) → Q (some (.int (-3))) w)
    (kA : ∀ l b, l < (C 1).1 → b < (C 0).1 → x = nI l → y = nI b → cFit C l b = true → onBox C (nI l) = -1 → (C 0).2 (b * 5 + 4) = -1 → ∀ w' q', deeds (C 5) q' → isC w' p (va_up (va_up C 0 ((C 0).1, upd (C 0).2 (b * 5 + 4) (nI l))) 5 (q'.1 + 1, row3 q'.2 q'.1 (nI l) (nI b) 1)) → zOff p (p + 13) w w' → Q (some (.int 1)) w') : Zm (d + 4) mX1_putOn 0 0 [.ref p, .int x, .int y] w Q := by
  refine zm_intro [_, _, _] oX1_putOn (Nat.le_of_ble_eq_true rfl) rfl ?_
  refine zw_aload_n dX1_putOn_0 rfl ?_
  refine zw_get dX1_putOn_1 fX1_20 h.1 rfl ?_
  refine zw_iload_n dX1_putOn_4 rfl ?_
  refine zw_cV1 dX1_putOn_5 oX6_contains kX6_contains lX1_63 h.2.2.1.1 rfl (Nat.le_of_ble_eq_true rfl) rfl (t_contains h.2.2.1 (fun l hl e1 => ?_) (fun hx => ?_))
  · show Zw _ _ _ 8 [_, _, _] [_] _ _
    refine zw_if_eq 22 dX1_putOn_8 (by decide) (fun hz => absurd hz (by decide)) (fun _ => ?_)
    refine zw_aload_n dX1_putOn_11 rfl ?_
    refine zw_get dX1_putOn_12 fX1_14 h.1 rfl ?_
    refine zw_iload_n dX1_putOn_15 rfl ?_
    refine zw_cV1 dX1_putOn_16 oX6_contains kX6_contains lX1_63 h.2.1.1 rfl (Nat.le_of_ble_eq_true rfl) rfl (t_contains h.2.1 (fun b hb e2 => ?_) (fun hx => ?_))
    · show Zw _ _ _ 19 [_, _, _] [_] _ _
      subst e1
      subst e2
      refine zw_if_ne 25 dX1_putOn_19 (by decide) (fun _ => ?_) (fun hz => absurd hz (by decide))
      refine zw_aload_n dX1_putOn_25 rfl ?_
      refine zw_aload_n dX1_putOn_26 rfl ?_
      refine zw_get dX1_putOn_27 fX1_20 h.1 rfl ?_
      refine zw_iload_n dX1_putOn_30 rfl ?_
      refine zw_iload_n dX1_putOn_31 rfl ?_
      refine zw_cV3 dX1_putOn_32 oX1_rowFits kX1_rowFits lX1_66 h.1 rfl (Nat.le_of_ble_eq_true rfl) rfl (c_rowFits h h.2.2.1 hl hb (hk l hl) ?_)
      show Zw _ _ _ 35 [_, _, _] [_] _ _
      refine zw_if_eq 60 dX1_putOn_35 (by decide) (fun hf => ?_) (fun hf => ?_)
      · refine zw_bipush dX1_putOn_60 (-3) (by decide) ?_
        refine zw_ireturn .int dX1_putOn_62 rfl rfl (Nat.le_refl _) (Nat.le_refl _) ?_
        exact kN l b hl hb rfl rfl (fun z => by rw [show cFit C l b = false from bI_f hf] at z; cases z.1)
      · refine zw_aload_n dX1_putOn_38 rfl ?_
        refine zw_iload_n dX1_putOn_39 rfl ?_
        refine zw_cV1 dX1_putOn_40 oX1_boxUnder kX1_boxUnder lX1_70 h.1 rfl (Nat.le_of_ble_eq_true rfl) rfl (c_boxUnder h ?_)
        show Zw _ _ _ 43 [_, _, _] [_] _ _
        refine zw_iconst dX1_putOn_43 (-1) (by decide) ?_
        refine zw_icmp_ne 60 dX1_putOn_44 (by decide) (fun ho => ?_) (fun ho => ?_)
        · refine zw_bipush dX1_putOn_60 (-3) (by decide) ?_
          refine zw_ireturn .int dX1_putOn_62 rfl rfl (Nat.le_refl _) (Nat.le_refl _) ?_
          exact kN l b hl hb rfl rfl (fun z => ho z.2.1)
        · refine zw_aload_n dX1_putOn_47 rfl ?_
          refine zw_get dX1_putOn_48 fX1_14 h.1 rfl ?_
          refine zw_iload_n dX1_putOn_51 rfl ?_
          refine zw_iconst dX1_putOn_52 4 (by decide) ?_
          refine zw_cV2 dX1_putOn_53 oX6_at kX6_at lX1_74 h.2.1.1 rfl (Nat.le_of_ble_eq_true rfl) rfl (t_at (c := 4) h.2.1 hb (by decide) ?_)
          show Zw _ _ _ 56 [_, _, _] [_] _ _
          refine zw_iconst dX1_putOn_56 (-1) (by decide) ?_
          refine zw_icmp_eq 63 dX1_putOn_57 (by decide) (fun hn => ?_) (fun hn => ?_)
          · refine zw_aload_n dX1_putOn_63 rfl ?_
            refine zw_get dX1_putOn_64 fX1_14 h.1 rfl ?_
            refine zw_iload_n dX1_putOn_67 rfl ?_
            refine zw_iconst dX1_putOn_68 4 (by decide) ?_
            refine zw_iload_n dX1_putOn_69 rfl ?_
            refine zw_cV3 dX1_putOn_70 oX6_change kX6_change lX1_55 h.2.1.1 rfl (Nat.le_of_ble_eq_true rfl) rfl (t_change (c := 4) h.2.1 hb (by decide) (fun w1 t1 o1 => ?_))
            show Zw _ _ _ 73 [_, _, _] [] _ _
            have g := h.s0 o1 t1
            refine zw_aload_n dX1_putOn_73 rfl ?_
            refine zw_iload_n dX1_putOn_74 rfl ?_
            refine zw_iload_n dX1_putOn_75 rfl ?_
            refine zw_iconst dX1_putOn_76 1 (by decide) ?_
            refine zw_cV3 dX1_putOn_77 oX1_remember kX1_remember lX1_78 g.1 rfl (Nat.le_of_ble_eq_true rfl) rfl (c_remember g (fun w2 q2 e2 g2 o2 => ?_))
            show Zw _ _ _ 80 [_, _, _] [] _ _
            refine zw_iconst dX1_putOn_80 1 (by decide) ?_
            refine zw_ireturn .int dX1_putOn_81 rfl rfl (Nat.le_refl _) (Nat.le_refl _) ?_
            exact kA l b hl hb rfl rfl (bI_t hf) ho hn w2 q2 e2 g2 ((o1.wd (by omega) (by omega)).tr o2)
          · refine zw_bipush dX1_putOn_60 (-3) (by decide) ?_
            refine zw_ireturn .int dX1_putOn_62 rfl rfl (Nat.le_refl _) (Nat.le_refl _) ?_
            exact kN l b hl hb rfl rfl (fun z => hn z.2.2)
    · show Zw _ _ _ 19 [_, _, _] [_] _ _
      refine zw_if_ne 25 dX1_putOn_19 (by decide) (fun hz => absurd (rfl) hz) (fun _ => ?_)
      refine zw_bipush dX1_putOn_22 (-2) (by decide) ?_
      refine zw_ireturn .int dX1_putOn_24 rfl rfl (Nat.le_refl _) (Nat.le_refl _) ?_
      exact kB (Or.inr hx)
  · show Zw _ _ _ 8 [_, _, _] [_] _ _
    refine zw_if_eq 22 dX1_putOn_8 (by decide) (fun _ => ?_) (fun hz => absurd (rfl) hz)
    refine zw_bipush dX1_putOn_22 (-2) (by decide) ?_
    refine zw_ireturn .int dX1_putOn_24 rfl rfl (Nat.le_refl _) (Nat.le_refl _) ?_
    exact kB (Or.inl hx)
theorem c_takeOff {x : Int32} (h : isC w p C) (kB : (∀ r, r < (C 1).1 → ¬ x = nI r) → Q (some (.int (-2))) w) (kN : ∀ l, l < (C 1).1 → x = nI l → onBox C (nI l) = -1 → Q (some (.int (-3))) w)
    (kA : ∀ l b, l < (C 1).1 → b < (C 0).1 → x = nI l → onBox C (nI l) = nI b → (C 0).2 (b * 5 + 4) = nI l → ∀ w' q', deeds (C 5) q' → isC w' p (va_up (va_up C 0 ((C 0).1, upd (C 0).2 (b * 5 + 4) (-1))) 5 (q'.1 + 1, row3 q'.2 q'.1 (nI l) (nI b) 0)) → zOff p (p + 13) w w' → Q (some (.int (nI b))) w') : Zm (d + 4) mX1_takeOff 0 0 [.ref p, .int x] w Q := by
  have hb0 := h.2.1.2.2.1
  refine zm_intro [_, _, _] oX1_takeOff (Nat.le_of_ble_eq_true rfl) rfl ?_
  refine zw_aload_n dX1_takeOff_0 rfl ?_
  refine zw_get dX1_takeOff_1 fX1_20 h.1 rfl ?_
  refine zw_iload_n dX1_takeOff_4 rfl ?_
  refine zw_cV1 dX1_takeOff_5 oX6_contains kX6_contains lX1_63 h.2.2.1.1 rfl (Nat.le_of_ble_eq_true rfl) rfl (t_contains h.2.2.1 (fun l hl e1 => ?_) (fun hx => ?_))
  · show Zw _ _ _ 8 [_, _, _] [_] _ _
    subst e1
    refine zw_if_ne 14 dX1_takeOff_8 (by decide) (fun _ => ?_) (fun hz => absurd hz (by decide))
    refine zw_aload_n dX1_takeOff_14 rfl ?_
    refine zw_iload_n dX1_takeOff_15 rfl ?_
    refine zw_cV1 dX1_takeOff_16 oX1_boxUnder kX1_boxUnder lX1_70 h.1 rfl (Nat.le_of_ble_eq_true rfl) rfl (c_boxUnder h ?_)
    show Zw _ _ _ 19 [_, _, _] [_] _ _
    refine zw_istore_n [_, _, _] dX1_takeOff_19 (Nat.le_of_ble_eq_true rfl) rfl ?_
    refine zw_iload_n dX1_takeOff_20 rfl ?_
    refine zw_iconst dX1_takeOff_21 (-1) (by decide) ?_
    have hc := fnd_cases (fun b => decide ((C 0).2 (b * 5 + 4) = nI l)) (C 0).1 0
    rcases hc with ⟨e, -⟩ | ⟨b, -, hb, hp, e, -⟩
    · refine zw_icmp_ne 28 dX1_takeOff_22 (by decide) (fun hz => absurd (e) hz) (fun _ => ?_)
      refine zw_bipush dX1_takeOff_25 (-3) (by decide) ?_
      refine zw_ireturn .int dX1_takeOff_27 rfl rfl (Nat.le_refl _) (Nat.le_refl _) ?_
      exact kN l hl rfl e
    · rw [e]
      refine zw_icmp_ne 28 dX1_takeOff_22 (by decide) (fun _ => ?_) (fun hz => absurd hz (fun z => nI_pos (n := b) (by omega) (z ▸ by decide)))
      refine zw_aload_n dX1_takeOff_28 rfl ?_
      refine zw_get dX1_takeOff_29 fX1_14 h.1 rfl ?_
      refine zw_iload_n dX1_takeOff_32 rfl ?_
      refine zw_iconst dX1_takeOff_33 4 (by decide) ?_
      refine zw_iconst dX1_takeOff_34 (-1) (by decide) ?_
      refine zw_cV3 dX1_takeOff_35 oX6_change kX6_change lX1_55 h.2.1.1 rfl (Nat.le_of_ble_eq_true rfl) rfl (t_change (c := 4) h.2.1 (by omega) (by decide) (fun w1 t1 o1 => ?_))
      show Zw _ _ _ 38 [_, _, _] [] _ _
      have g := h.s0 o1 t1
      refine zw_aload_n dX1_takeOff_38 rfl ?_
      refine zw_iload_n dX1_takeOff_39 rfl ?_
      refine zw_iload_n dX1_takeOff_40 rfl ?_
      refine zw_iconst dX1_takeOff_41 0 (by decide) ?_
      refine zw_cV3 dX1_takeOff_42 oX1_remember kX1_remember lX1_78 g.1 rfl (Nat.le_of_ble_eq_true rfl) rfl (c_remember g (fun w2 q2 e2 g2 o2 => ?_))
      show Zw _ _ _ 45 [_, _, _] [] _ _
      refine zw_iload_n dX1_takeOff_45 rfl ?_
      refine zw_ireturn .int dX1_takeOff_46 rfl rfl (Nat.le_refl _) (Nat.le_refl _) ?_
      exact kA l b hl (by omega) rfl e (of_decide_eq_true hp) w2 q2 e2 g2 ((o1.wd (by omega) (by omega)).tr o2)
  · show Zw _ _ _ 8 [_, _, _] [_] _ _
    refine zw_if_ne 14 dX1_takeOff_8 (by decide) (fun hz => absurd (rfl) hz) (fun _ => ?_)
    refine zw_bipush dX1_takeOff_11 (-2) (by decide) ?_
    refine zw_ireturn .int dX1_takeOff_13 rfl rfl (Nat.le_refl _) (Nat.le_refl _) ?_
    exact kB hx
theorem c_stepBack (h : isC w p C) (hv : ∀ u, u < (C 5).1 → ∃ b, b < (C 0).1 ∧ (C 5).2 (u * 3 + 1) = nI b) (kN : (C 5).1 = 0 → Q (some (.int (-3))) w)
    (kA : ∀ n b, (C 5).1 = n + 1 → b < (C 0).1 → (C 5).2 (n * 3 + 1) = nI b → ∀ w', isC w' p (va_up (va_up C 0 ((C 0).1, upd (C 0).2 (b * 5 + 4) (if (C 5).2 (n * 3 + 2) = 1 then -1 else (C 5).2 (n * 3)))) 5 (n, (C 5).2)) → zOff p (p + 13) w w' → Q (some (.int 1)) w') : Zm (d + 2) mX1_stepBack 0 0 [.ref p] w Q := by
  have hb1 := h.2.2.2.2.2.2.2.2.1
  refine zm_intro [_, _, _] oX1_stepBack (Nat.le_of_ble_eq_true rfl) rfl ?_
  refine zw_aload_n dX1_stepBack_0 rfl ?_
  refine zw_get dX1_stepBack_1 fX1_32 h.1 rfl ?_
  refine zw_cV0 dX1_stepBack_4 oX6_size kX6_size lX1_81 h.2.2.2.2.2.2.1 rfl (Nat.le_of_ble_eq_true rfl) rfl (t_size h.2.2.2.2.2.2 ?_)
  show Zw _ _ _ 7 [_, _, _] [_] _ _
  refine zw_iconst dX1_stepBack_7 1 (by decide) ?_
  refine zw_isub dX1_stepBack_8 ?_
  refine zw_istore_n [_, _, _] dX1_stepBack_9 (Nat.le_of_ble_eq_true rfl) rfl ?_
  refine zw_iload_n dX1_stepBack_10 rfl ?_
  cases hn : (C 5).1 with
  | zero =>
    refine zw_if_ge 17 dX1_stepBack_11 (by decide) (fun hz => absurd hz (by decide)) (fun _ => ?_)
    refine zw_bipush dX1_stepBack_14 (-3) (by decide) ?_
    refine zw_ireturn .int dX1_stepBack_16 rfl rfl (Nat.le_refl _) (Nat.le_refl _) ?_
    exact kN hn
  | succ n =>
    obtain ⟨b, hb, eb⟩ := hv n (by omega)
    rw [nI_pred]
    have ht := h.2.2.2.2.2.2
    have hlt : n < (C 5).1 := by omega
    refine zw_if_ge 17 dX1_stepBack_11 (by decide) (fun _ => ?_) (fun hz => absurd (nI_pos' (by omega)) hz)
    refine zw_aload_n dX1_stepBack_17 rfl ?_
    refine zw_get dX1_stepBack_18 fX1_32 h.1 rfl ?_
    refine zw_iload_n dX1_stepBack_21 rfl ?_
    refine zw_iconst dX1_stepBack_22 2 (by decide) ?_
    refine zw_cV2 dX1_stepBack_23 oX6_at kX6_at lX1_74 ht.1 rfl (Nat.le_of_ble_eq_true rfl) rfl (t_at (c := 2) ht hlt (by decide) ?_)
    show Zw _ _ _ 26 [_, _, _] [_] _ _
    refine zw_iconst dX1_stepBack_26 1 (by decide) ?_
    refine zw_icmp_ne 34 dX1_stepBack_27 (by decide) (fun h1 => ?_) (fun h1 => ?_)
    · refine zw_iconst dX1_stepBack_34 0 (by decide) ?_
      refine zw_istore_n [_, _, _] dX1_stepBack_35 (Nat.le_of_ble_eq_true rfl) rfl ?_
      refine zw_aload_n dX1_stepBack_36 rfl ?_
      refine zw_get dX1_stepBack_37 fX1_14 h.1 rfl ?_
      refine zw_aload_n dX1_stepBack_40 rfl ?_
      refine zw_get dX1_stepBack_41 fX1_32 h.1 rfl ?_
      refine zw_iload_n dX1_stepBack_44 rfl ?_
      refine zw_iconst dX1_stepBack_45 1 (by decide) ?_
      refine zw_cV2 dX1_stepBack_46 oX6_at kX6_at lX1_74 ht.1 rfl (Nat.le_of_ble_eq_true rfl) rfl (t_at (c := 1) ht hlt (by decide) ?_)
      show Zw _ _ _ 49 [_, _, _] [_, _] _ _
      rw [eb]
      refine zw_iconst dX1_stepBack_49 4 (by decide) ?_
      refine zw_iload_n dX1_stepBack_50 rfl ?_
      refine zw_if_eq 58 dX1_stepBack_51 (by decide) (fun _ => ?_) (fun hz => absurd (rfl) hz)
      refine zw_aload_n dX1_stepBack_58 rfl ?_
      refine zw_get dX1_stepBack_59 fX1_32 h.1 rfl ?_
      refine zw_iload_n dX1_stepBack_62 rfl ?_
      refine zw_iconst dX1_stepBack_63 0 (by decide) ?_
      refine zw_cV2 dX1_stepBack_64 oX6_at kX6_at lX1_74 ht.1 rfl (Nat.le_of_ble_eq_true rfl) rfl (t_at0 ht hlt ?_)
      show Zw _ _ _ 67 [_, _, _] [_, _, _, _] _ _
      refine zw_cV3 dX1_stepBack_67 oX6_change kX6_change lX1_55 h.2.1.1 rfl (Nat.le_of_ble_eq_true rfl) rfl (t_change (c := 4) h.2.1 hb (by decide) (fun w1 t1 o1 => ?_))
      show Zw _ _ _ 70 [_, _, _] [] _ _
      have g := h.s0 o1 t1
      have e5 : va_up C 0 ((C 0).1, upd (C 0).2 (b * 5 + 4) ((C 5).2 (n * 3))) 5 = (n + 1, (C 5).2) := by rw [← hn]; rfl
      have gt := g.2.2.2.2.2.2
      rw [e5] at gt
      refine zw_aload_n dX1_stepBack_70 rfl ?_
      refine zw_get dX1_stepBack_71 fX1_32 g.1 rfl ?_
      refine zw_cV0 dX1_stepBack_74 oX6_dropLast kX6_dropLast lX1_87 gt.1 rfl (Nat.le_of_ble_eq_true rfl) rfl (t_dropLast gt (fun w2 t2 o2 => ?_))
      show Zw _ _ _ 77 [_, _, _] [] _ _
      have g2 := g.s5 o2 t2
      refine zw_iconst dX1_stepBack_77 1 (by decide) ?_
      refine zw_ireturn .int dX1_stepBack_78 rfl rfl (Nat.le_refl _) (Nat.le_refl _) ?_
      refine kA n b hn hb eb w2 ?_ ((o1.wd (by omega) (by omega)).tr (o2.wd (by omega) (by omega)))
      rw [if_neg h1]
      exact g2
    · refine zw_iconst dX1_stepBack_30 1 (by decide) ?_
      refine zw_goto 35 dX1_stepBack_31 (by decide) ?_
      refine zw_istore_n [_, _, _] dX1_stepBack_35 (Nat.le_of_ble_eq_true rfl) rfl ?_
      refine zw_aload_n dX1_stepBack_36 rfl ?_
      refine zw_get dX1_stepBack_37 fX1_14 h.1 rfl ?_
      refine zw_aload_n dX1_stepBack_40 rfl ?_
      refine zw_get dX1_stepBack_41 fX1_32 h.1 rfl ?_
      refine zw_iload_n dX1_stepBack_44 rfl ?_
      refine zw_iconst dX1_stepBack_45 1 (by decide) ?_
      refine zw_cV2 dX1_stepBack_46 oX6_at kX6_at lX1_74 ht.1 rfl (Nat.le_of_ble_eq_true rfl) rfl (t_at (c := 1) ht hlt (by decide) ?_)
      show Zw _ _ _ 49 [_, _, _] [_, _] _ _
      rw [eb]
      refine zw_iconst dX1_stepBack_49 4 (by decide) ?_
      refine zw_iload_n dX1_stepBack_50 rfl ?_
      refine zw_if_eq 58 dX1_stepBack_51 (by decide) (fun hz => absurd hz (by decide)) (fun _ => ?_)
      refine zw_iconst dX1_stepBack_54 (-1) (by decide) ?_
      refine zw_goto 67 dX1_stepBack_55 (by decide) ?_
      refine zw_cV3 dX1_stepBack_67 oX6_change kX6_change lX1_55 h.2.1.1 rfl (Nat.le_of_ble_eq_true rfl) rfl (t_change (c := 4) h.2.1 hb (by decide) (fun w1 t1 o1 => ?_))
      show Zw _ _ _ 70 [_, _, _] [] _ _
      have g := h.s0 o1 t1
      have e5 : va_up C 0 ((C 0).1, upd (C 0).2 (b * 5 + 4) (-1)) 5 = (n + 1, (C 5).2) := by rw [← hn]; rfl
      have gt := g.2.2.2.2.2.2
      rw [e5] at gt
      refine zw_aload_n dX1_stepBack_70 rfl ?_
      refine zw_get dX1_stepBack_71 fX1_32 g.1 rfl ?_
      refine zw_cV0 dX1_stepBack_74 oX6_dropLast kX6_dropLast lX1_87 gt.1 rfl (Nat.le_of_ble_eq_true rfl) rfl (t_dropLast gt (fun w2 t2 o2 => ?_))
      show Zw _ _ _ 77 [_, _, _] [] _ _
      have g2 := g.s5 o2 t2
      refine zw_iconst dX1_stepBack_77 1 (by decide) ?_
      refine zw_ireturn .int dX1_stepBack_78 rfl rfl (Nat.le_refl _) (Nat.le_refl _) ?_
      refine kA n b hn hb eb w2 ?_ ((o1.wd (by omega) (by omega)).tr (o2.wd (by omega) (by omega)))
      rw [if_pos h1]
      exact g2
theorem j_lowest {x : Int32} (k : Q (some (.int (x &&& -x))) w) : Zm d mJ6_lowestOneBit_0f7a4 0 0 [.int x] w Q := by
  refine zm_intro [_] oJ6_lowestOneBit_0f7a4 (Nat.le_of_ble_eq_true rfl) rfl ?_
  refine zw_iload_n dJ6_lowestOneBit_0f7a4_0 rfl ?_
  refine zw_iload_n dJ6_lowestOneBit_0f7a4_1 rfl ?_
  refine zw_ineg dJ6_lowestOneBit_0f7a4_2 ?_
  refine zw_iand dJ6_lowestOneBit_0f7a4_3 ?_
  refine zw_ireturn .int dJ6_lowestOneBit_0f7a4_4 rfl rfl (Nat.le_refl _) (Nat.le_refl _) ?_
  exact k
def pop7 (s : Nat) : Nat := s % 2 + s / 2 % 2 + s / 4 % 2 + s / 8 % 2 + s / 16 % 2 + s / 32 % 2 + s / 64 % 2
theorem j_bitCount {s : Nat} (hs : s < 128) (k : Q (some (.int (nI (pop7 s)))) w) : Zm d mJ6_bitCount_0f7a4 0 0 [.int (nI s)] w Q := by
  refine zm_intro [_] oJ6_bitCount_0f7a4 (Nat.le_of_ble_eq_true rfl) rfl ?_
  refine zw_iload_n dJ6_bitCount_0f7a4_0 rfl ?_
  refine zw_iload_n dJ6_bitCount_0f7a4_1 rfl ?_
  refine zw_iconst dJ6_bitCount_0f7a4_2 1 (by decide) ?_
  refine zw_iushr dJ6_bitCount_0f7a4_3 ?_
  refine zw_ldcw dJ6_bitCount_0f7a4_4 qJ6_265 ?_
  refine zw_iand dJ6_bitCount_0f7a4_7 ?_
  refine zw_isub dJ6_bitCount_0f7a4_8 ?_
  refine zw_istore_n [_] dJ6_bitCount_0f7a4_9 (Nat.le_of_ble_eq_true rfl) rfl ?_
  refine zw_iload_n dJ6_bitCount_0f7a4_10 rfl ?_
  refine zw_ldcw dJ6_bitCount_0f7a4_11 qJ6_266 ?_
  refine zw_iand dJ6_bitCount_0f7a4_14 ?_
  refine zw_iload_n dJ6_bitCount_0f7a4_15 rfl ?_
  refine zw_iconst dJ6_bitCount_0f7a4_16 2 (by decide) ?_
  refine zw_iushr dJ6_bitCount_0f7a4_17 ?_
  refine zw_ldcw dJ6_bitCount_0f7a4_18 qJ6_266 ?_
  refine zw_iand dJ6_bitCount_0f7a4_21 ?_
  refine zw_iadd dJ6_bitCount_0f7a4_22 ?_
  refine zw_istore_n [_] dJ6_bitCount_0f7a4_23 (Nat.le_of_ble_eq_true rfl) rfl ?_
  refine zw_iload_n dJ6_bitCount_0f7a4_24 rfl ?_
  refine zw_iload_n dJ6_bitCount_0f7a4_25 rfl ?_
  refine zw_iconst dJ6_bitCount_0f7a4_26 4 (by decide) ?_
  refine zw_iushr dJ6_bitCount_0f7a4_27 ?_
  refine zw_iadd dJ6_bitCount_0f7a4_28 ?_
  refine zw_ldcw dJ6_bitCount_0f7a4_29 qJ6_267 ?_
  refine zw_iand dJ6_bitCount_0f7a4_32 ?_
  refine zw_istore_n [_] dJ6_bitCount_0f7a4_33 (Nat.le_of_ble_eq_true rfl) rfl ?_
  refine zw_iload_n dJ6_bitCount_0f7a4_34 rfl ?_
  refine zw_iload_n dJ6_bitCount_0f7a4_35 rfl ?_
  refine zw_bipush dJ6_bitCount_0f7a4_36 8 (by decide) ?_
  refine zw_iushr dJ6_bitCount_0f7a4_38 ?_
  refine zw_iadd dJ6_bitCount_0f7a4_39 ?_
  refine zw_istore_n [_] dJ6_bitCount_0f7a4_40 (Nat.le_of_ble_eq_true rfl) rfl ?_
  refine zw_iload_n dJ6_bitCount_0f7a4_41 rfl ?_
  refine zw_iload_n dJ6_bitCount_0f7a4_42 rfl ?_
  refine zw_bipush dJ6_bitCount_0f7a4_43 16 (by decide) ?_
  refine zw_iushr dJ6_bitCount_0f7a4_45 ?_
  refine zw_iadd dJ6_bitCount_0f7a4_46 ?_
  refine zw_istore_n [_] dJ6_bitCount_0f7a4_47 (Nat.le_of_ble_eq_true rfl) rfl ?_
  refine zw_iload_n dJ6_bitCount_0f7a4_48 rfl ?_
  refine zw_bipush dJ6_bitCount_0f7a4_49 63 (by decide) ?_
  refine zw_iand dJ6_bitCount_0f7a4_51 ?_
  refine zw_ireturn .int dJ6_bitCount_0f7a4_52 rfl rfl (Nat.le_refl _) (Nat.le_refl _) ?_
  have e : ∀ s, s < 128 → (fun (x : Int32) => (fun (y : Int32) => (fun (z : Int32) => (fun (u : Int32) => (u + (u.toUInt32 >>> ((16 : Int32).toUInt32 &&& Int32.toUInt32 31)).toInt32) &&& 63) (z + (z.toUInt32 >>> ((8 : Int32).toUInt32 &&& Int32.toUInt32 31)).toInt32)) ((y + (y.toUInt32 >>> ((4 : Int32).toUInt32 &&& Int32.toUInt32 31)).toInt32) &&& 252645135)) ((x &&& 858993459) + ((x.toUInt32 >>> ((2 : Int32).toUInt32 &&& Int32.toUInt32 31)).toInt32 &&& 858993459))) (nI s - (((nI s).toUInt32 >>> ((1 : Int32).toUInt32 &&& Int32.toUInt32 31)).toInt32 &&& 1431655765)) = nI (pop7 s) := by decide +kernel
  exact (congrArg (fun z => Q (some (.int z)) w) (e s hs)).mpr k
end ZCUPD
