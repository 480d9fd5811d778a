/-! ===== Pairs: the table worked out, partners ===== -/
section ZPAIRS2
variable {d r c : Nat} {w : ZW} {op : Nat → Nat} {wo be : Nat → Int32} {Q : Option Value → ZW → Prop}
theorem b_solve1 {K : ZW → (Nat → Int32) → Prop} {w0 : ZW} (hK : ∀ w be o2, isP w r c op wo be → zOff 56 60 w0 w → okP r c r op wo be → Zw (d + 4) mX4_solve z0 34 [some (.ref 56), o2, none] [] w Q) : ∀ (k t : Nat) (w : ZW) (be : Nat → Int32), t + k = 2 ^ c → isP w r c op wo be → zOff 56 60 w0 w → (∀ j, j < t → be (r * 128 + j) = 0) → Zw (d + 4) mX4_solve z0 2 [some (.ref 56), some (.int (nI t)), none] [] w Q := by
  intro k
  induction k with
  | zero =>
    intro t w be ht h ho hz
    have hc7 := h.2.2.2.2.2.1
    have hp := pow_c hc7
    refine zw_iload_n dX4_solve_2 rfl ?_
    refine zw_iconst dX4_solve_3 1 (by decide) ?_
    refine zw_aload_n dX4_solve_4 rfl ?_
    refine zw_get dX4_solve_5 fX4_34 h.1 rfl ?_
    refine zw_ishl dX4_solve_8 ?_
    refine zw_top (shl_I c (by omega)) ?_
    refine zw_icmp_ge 34 dX4_solve_9 (by decide) (fun _ => ?_) (fun hz => absurd (nI_le (by omega) (by omega)) hz)
    refine hK w be _ h ho (fun row h1 h2 t' ht' => ?_)
    have e : row = r := by omega
    subst e
    rw [hz t' (by omega), Nat.sub_self]
    rfl
  | succ k ih =>
    intro t w be ht h ho hz
    have hr7 := h.2.2.2.2.1
    have hc7 := h.2.2.2.2.2.1
    have hp := pow_c hc7
    refine zw_iload_n dX4_solve_2 rfl ?_
    refine zw_iconst dX4_solve_3 1 (by decide) ?_
    refine zw_aload_n dX4_solve_4 rfl ?_
    refine zw_get dX4_solve_5 fX4_34 h.1 rfl ?_
    refine zw_ishl dX4_solve_8 ?_
    refine zw_top (shl_I c (by omega)) ?_
    refine zw_icmp_ge 34 dX4_solve_9 (by decide) (fun hz => absurd hz (nI_ge (by omega) (by omega))) (fun _ => ?_)
    refine zw_aload_n dX4_solve_12 rfl ?_
    refine zw_get dX4_solve_13 fX4_18 h.1 rfl ?_
    refine zw_aload_n dX4_solve_16 rfl ?_
    refine zw_get dX4_solve_17 fX4_21 h.1 rfl ?_
    refine zw_sipush dX4_solve_20 128 (by decide) ?_
    refine zw_imul dX4_solve_23 ?_
    refine zw_iload_n dX4_solve_24 rfl ?_
    refine zw_iadd dX4_solve_25 ?_
    refine zw_top (isT_ix (W := 128)) ?_
    refine zw_iconst dX4_solve_26 0 (by decide) ?_
    refine zw_iast dX4_solve_27 h.2.2.2.1 (vp_in_nI (by omega) (by decide)) ?_
    rw [nI_clamp (by omega)]
    refine zw_iinc (nI (t + 1)) [_, _, _] dX4_solve_28 rfl (nI_1 t) rfl ?_
    refine zw_goto 2 dX4_solve_31 (by decide) ?_
    refine ih (t + 1) _ _ (by omega) h.best (ho.tr (zOff.pt (by decide) (by decide))) (fun j hj => ?_)
    by_cases e : j = t
    · subst e; simp [upd]
    · have : r * 128 + j ≠ r * 128 + t := by omega
      simp only [upd, if_neg this]
      exact hz j (by omega)
theorem b_solve2 {w0 : ZW} {row : Nat} (hrow : row < r) (hK : ∀ w be o2, isP w r c op wo be → zOff 56 60 w0 w → okP r c row op wo be → Zw (d + 4) mX4_solve z0 81 [some (.ref 56), some (.int (nI row)), o2] [] w Q) : ∀ (k t : Nat) (w : ZW) (be : Nat → Int32), t + k = 2 ^ c → isP w r c op wo be → zOff 56 60 w0 w → okP r c (row + 1) op wo be → (∀ j, j < t → be (row * 128 + j) = bstR op wo c r (r - row) j) → Zw (d + 4) mX4_solve z0 47 [some (.ref 56), some (.int (nI row)), some (.int (nI t))] [] w Q := by
  intro k
  induction k with
  | zero =>
    intro t w be ht h ho hok hz
    have hc7 := h.2.2.2.2.2.1
    have hp := pow_c hc7
    refine zw_iload_n dX4_solve_47 rfl ?_
    refine zw_iconst dX4_solve_48 1 (by decide) ?_
    refine zw_aload_n dX4_solve_49 rfl ?_
    refine zw_get dX4_solve_50 fX4_34 h.1 rfl ?_
    refine zw_ishl dX4_solve_53 ?_
    refine zw_top (shl_I c (by omega)) ?_
    refine zw_icmp_ge 81 dX4_solve_54 (by decide) (fun _ => ?_) (fun hz => absurd (nI_le (by omega) (by omega)) hz)
    refine hK w be _ h ho (fun row' h1 h2 t' ht' => ?_)
    by_cases e : row' = row
    · subst e; exact hz t' (by omega)
    · exact hok row' (by omega) h2 t' ht'
  | succ k ih =>
    intro t w be ht h ho hok hz
    have hr7 := h.2.2.2.2.1
    have hc7 := h.2.2.2.2.2.1
    have hp := pow_c hc7
    refine zw_iload_n dX4_solve_47 rfl ?_
    refine zw_iconst dX4_solve_48 1 (by decide) ?_
    refine zw_aload_n dX4_solve_49 rfl ?_
    refine zw_get dX4_solve_50 fX4_34 h.1 rfl ?_
    refine zw_ishl dX4_solve_53 ?_
    refine zw_top (shl_I c (by omega)) ?_
    refine zw_icmp_ge 81 dX4_solve_54 (by decide) (fun hz => absurd hz (nI_ge (by omega) (by omega))) (fun _ => ?_)
    refine zw_aload_n dX4_solve_57 rfl ?_
    refine zw_get dX4_solve_58 fX4_18 h.1 rfl ?_
    refine zw_iload_n dX4_solve_61 rfl ?_
    refine zw_sipush dX4_solve_62 128 (by decide) ?_
    refine zw_imul dX4_solve_65 ?_
    refine zw_iload_n dX4_solve_66 rfl ?_
    refine zw_iadd dX4_solve_67 ?_
    refine zw_top (isT_ix (W := 128)) ?_
    refine zw_aload_n dX4_solve_68 rfl ?_
    refine zw_iload_n dX4_solve_69 rfl ?_
    refine zw_iload_n dX4_solve_70 rfl ?_
    refine zw_cV2 dX4_solve_71 oX4_bestOf kX4_bestOf lX4_37 h.1 rfl (Nat.le_of_ble_eq_true rfl) rfl (b_of h hrow (by omega) ?_)
    show Zw _ _ _ 74 [_, _, _] [_, _, _] _ _
    refine zw_iast dX4_solve_74 h.2.2.2.1 (vp_in_nI (by omega) (by decide)) ?_
    rw [nI_clamp (by omega)]
    refine zw_iinc (nI (t + 1)) [_, _, _] dX4_solve_75 rfl (nI_1 t) rfl ?_
    refine zw_goto 47 dX4_solve_78 (by decide) ?_
    have hv : colF (andn (op row) t) (fun i => wo row + be ((row + 1) * 128 + (t ||| 2 ^ i))) 0 c (be ((row + 1) * 128 + t)) = bstR op wo c r (r - row) t := by
      rw [show r - row = (r - (row + 1)) + 1 by omega]
      unfold bstR
      rw [show r - (r - (row + 1) + 1) = row by omega, hok (row + 1) (Nat.le_refl _) (by omega) t (by omega)]
      have hcol : ∀ (k i : Nat) (a : Int32), i + k = c → colF (andn (op row) t) (fun i => wo row + be ((row + 1) * 128 + (t ||| 2 ^ i))) i k a = colF (andn (op row) t) (fun i => wo row + bstR op wo c r (r - (row + 1)) (t ||| 2 ^ i)) i k a := by
        intro k
        induction k with
        | zero => intro i a _; rfl
        | succ k ih2 =>
          intro i a hi
          unfold colF
          rw [hok (row + 1) (Nat.le_refl _) (by omega) (t ||| 2 ^ i) (orb_lt (by omega) (by omega))]
          exact ih2 (i + 1) _ (by omega)
      exact hcol c 0 _ (by omega)
    rw [hv]
    refine ih (t + 1) _ _ (by omega) h.best (ho.tr (zOff.pt (by decide) (by decide))) (fun row' h1 h2 t' ht' => ?_) (fun j hj => ?_)
    · have : row' * 128 + t' ≠ row * 128 + t := by omega
      simp only [upd, if_neg this]
      exact hok row' h1 h2 t' ht'
    · by_cases e : j = t
      · subst e; simp [upd]
      · have : row * 128 + j ≠ row * 128 + t := by omega
        simp only [upd, if_neg this]
        exact hz j (by omega)
theorem b_solve3 {w0 : ZW} (hK : ∀ w be, isP w r c op wo be → zOff 56 60 w0 w → okP r c 0 op wo be → Q none w) : ∀ (n : Nat) (w : ZW) (be : Nat → Int32) (o2 : Option Value), n ≤ r → isP w r c op wo be → zOff 56 60 w0 w → okP r c n op wo be → Zw (d + 4) mX4_solve z0 41 [some (.ref 56), some (.int (nI n - 1)), o2] [] w Q := by
  intro n
  induction n with
  | zero =>
    intro w be o2 hn h ho hok
    refine zw_iload_n dX4_solve_41 rfl ?_
    refine zw_if_lt 87 dX4_solve_42 (by decide) (fun _ => ?_) (fun hz => absurd (by decide) hz)
    refine zw_return dX4_solve_87 rfl (Nat.le_refl _) (Nat.le_refl _) ?_
    exact hK w be h ho hok
  | succ n ih =>
    intro w be o2 hn h ho hok
    have hr7 := h.2.2.2.2.1
    rw [nI_pred]
    refine zw_iload_n dX4_solve_41 rfl ?_
    refine zw_if_lt 87 dX4_solve_42 (by decide) (fun hz => absurd hz (nI_pos (by omega))) (fun _ => ?_)
    refine zw_iconst dX4_solve_45 0 (by decide) ?_
    refine zw_istore_n [_, _, _] dX4_solve_46 (Nat.le_of_ble_eq_true rfl) rfl ?_
    refine b_solve2 (w0 := w0) (row := n) (by omega) (fun w be o2 h ho hok => ?_) (2 ^ c) 0 w be (by omega) h ho hok (fun j hj => absurd hj (Nat.not_lt_zero _))
    refine zw_iinc (nI n - 1) [_, _, _] dX4_solve_81 rfl (by rw [show Int32.ofInt (-1) = -1 from by decide, Int32.sub_eq_add_neg]) rfl ?_
    refine zw_goto 41 dX4_solve_84 (by decide) ?_
    exact ih w be _ (by omega) h ho hok
theorem b_solve (h : isP w r c op wo be) (k : ∀ w' be', isP w' r c op wo be' → zOff 56 60 w w' → okP r c 0 op wo be' → Q none w') : Zm (d + 4) mX4_solve 0 0 [.ref 56] w Q := by
  refine zm_intro [_, _, _] oX4_solve (Nat.le_of_ble_eq_true rfl) rfl ?_
  refine zw_iconst dX4_solve_0 0 (by decide) ?_
  refine zw_istore_n [_, _, _] dX4_solve_1 (Nat.le_of_ble_eq_true rfl) rfl ?_
  refine b_solve1 (K := fun _ _ => True) (w0 := w) (fun w1 be1 o2 h1 o1 ok1 => ?_) (2 ^ c) 0 w be (by omega) h zOff.rf (fun j hj => absurd hj (Nat.not_lt_zero _))
  refine zw_aload_n dX4_solve_34 rfl ?_
  refine zw_get dX4_solve_35 fX4_21 h1.1 rfl ?_
  refine zw_iconst dX4_solve_38 1 (by decide) ?_
  refine zw_isub dX4_solve_39 ?_
  refine zw_istore_n [_, _, _] dX4_solve_40 (Nat.le_of_ble_eq_true rfl) rfl ?_
  exact b_solve3 (w0 := w) k r w1 be1 _ (Nat.le_refl _) h1 o1 ok1
theorem b_without {t : Nat} (h : isP w r c op wo be) (hok : okP r c 0 op wo be) (ht : t < 2 ^ c) (k : Q (some (.int (bstR op wo c r r t))) w) : Zm (d + 2) mX4_bestWithout 0 0 [.ref 56, .int (nI t)] w Q := by
  have hp := pow_c h.2.2.2.2.2.1
  refine zm_intro [_, _] oX4_bestWithout (Nat.le_of_ble_eq_true rfl) rfl ?_
  refine zw_aload_n dX4_bestWithout_0 rfl ?_
  refine zw_iconst dX4_bestWithout_1 0 (by decide) ?_
  refine zw_iload_n dX4_bestWithout_2 rfl ?_
  refine zw_cV2 dX4_bestWithout_3 oX4_bestFrom kX4_bestFrom lX4_40 h.1 rfl (Nat.le_of_ble_eq_true rfl) rfl (b_from (row := 0) h (Nat.zero_le _) (by omega) ?_)
  show Zw _ _ _ 6 [_, _] [_] _ _
  refine zw_ireturn .int dX4_bestWithout_6 rfl rfl (Nat.le_refl _) (Nat.le_refl _) ?_
  rw [hok 0 (Nat.le_refl _) (Nat.zero_le _) t ht]
  exact k
theorem b_leastL {row t o6 : Nat} (h : isP w r c op wo be) (hok : okP r c 0 op wo be) (hr : row < r) (ht : t < 2 ^ c) (ho6 : o6 = andn (op row) t) : ∀ (k i : Nat), i + k = c → Q (some (.int (fnd (fun i => (andn (op row) t).testBit i && decide (wo row + bstR op wo c r (r - (row + 1)) (t ||| 2 ^ i) = bstR op wo c r (r - row) t)) i k))) w → Zw (d + 3) mX4_leastColumn z0 14 [some (.ref 56), some (.int (nI row)), some (.int (nI t)), some (.int (nI o6)), some (.int (nI i))] [] w Q := by
  have hr7 := h.2.2.2.2.1
  have hc7 := h.2.2.2.2.2.1
  have hp := pow_c hc7
  have hl : o6 < 128 := by rw [ho6]; exact andn_lt (h.2.2.2.2.2.2 row hr)
  intro k
  induction k with
  | zero =>
    intro i hi kk
    refine zw_iload dX4_leastColumn_14 rfl ?_
    refine zw_aload_n dX4_leastColumn_16 rfl ?_
    refine zw_get dX4_leastColumn_17 fX4_34 h.1 rfl ?_
    refine zw_icmp_ge 59 dX4_leastColumn_20 (by decide) (fun _ => ?_) (fun hz => absurd (nI_le (by omega) (by omega)) hz)
    refine zw_iconst dX4_leastColumn_59 (-1) (by decide) ?_
    refine zw_ireturn .int dX4_leastColumn_60 rfl rfl (Nat.le_refl _) (Nat.le_refl _) ?_
    exact kk
  | succ k ih =>
    intro i hi kk
    unfold fnd at kk
    rw [← ho6] at kk
    refine zw_iload dX4_leastColumn_14 rfl ?_
    refine zw_aload_n dX4_leastColumn_16 rfl ?_
    refine zw_get dX4_leastColumn_17 fX4_34 h.1 rfl ?_
    refine zw_icmp_ge 59 dX4_leastColumn_20 (by decide) (fun hz => absurd hz (nI_ge (by omega) (by omega))) (fun _ => ?_)
    refine zw_iload_n dX4_leastColumn_23 rfl ?_
    refine zw_iload dX4_leastColumn_24 rfl ?_
    refine zw_ishr dX4_leastColumn_26 ?_
    refine zw_iconst dX4_leastColumn_27 1 (by decide) ?_
    refine zw_iand dX4_leastColumn_28 ?_
    refine zw_top (bit_t o6 hl i (by omega)) ?_
    refine zw_iconst dX4_leastColumn_29 1 (by decide) ?_
    refine zw_icmp_ne 53 dX4_leastColumn_30 (by decide) (fun hf => ?_) (fun hf => ?_)
    · refine zw_iinc (nI (i + 1)) [_, _, _, _, _] dX4_leastColumn_53 rfl (nI_1 i) rfl ?_
      refine zw_goto 14 dX4_leastColumn_56 (by decide) ?_
      refine ih (i + 1) (by omega) ?_
      have z : o6.testBit i = false := by
        cases hb : o6.testBit i with
        | false => rfl
        | true => exact absurd (by rw [hb]; rfl) hf
      rw [z, Bool.false_and] at kk
      rw [← ho6]
      simpa using kk
    · have z : o6.testBit i = true := by
        cases hb : o6.testBit i with
        | true => rfl
        | false => rw [hb] at hf; exact absurd hf (by decide)
      rw [z, Bool.true_and] at kk
      refine zw_aload_n dX4_leastColumn_33 rfl ?_
      refine zw_iload_n dX4_leastColumn_34 rfl ?_
      refine zw_iload_n dX4_leastColumn_35 rfl ?_
      refine zw_iload dX4_leastColumn_36 rfl ?_
      refine zw_cV3 dX4_leastColumn_38 oX4_bestWith kX4_bestWith lX4_43 h.1 rfl (Nat.le_of_ble_eq_true rfl) rfl (b_with h hr ht (by omega) ?_)
      show Zw _ _ _ 41 [_, _, _, _, _] [_] _ _
      rw [hok (row + 1) (Nat.zero_le _) (by omega) (t ||| 2 ^ i) (orb_lt ht (by omega))]
      refine zw_aload_n dX4_leastColumn_41 rfl ?_
      refine zw_iload_n dX4_leastColumn_42 rfl ?_
      refine zw_iload_n dX4_leastColumn_43 rfl ?_
      refine zw_cV2 dX4_leastColumn_44 oX4_bestFrom kX4_bestFrom lX4_40 h.1 rfl (Nat.le_of_ble_eq_true rfl) rfl (b_from h (row := row) (by omega) (by omega) ?_)
      show Zw _ _ _ 47 [_, _, _, _, _] [_, _] _ _
      rw [hok row (Nat.zero_le _) (by omega) t ht]
      refine zw_icmp_ne 53 dX4_leastColumn_47 (by decide) (fun he => ?_) (fun he => ?_)
      · refine zw_iinc (nI (i + 1)) [_, _, _, _, _] dX4_leastColumn_53 rfl (nI_1 i) rfl ?_
        refine zw_goto 14 dX4_leastColumn_56 (by decide) ?_
        refine ih (i + 1) (by omega) ?_
        rw [if_neg (by simpa using he)] at kk
        rw [← ho6]
        exact kk
      · refine zw_iload dX4_leastColumn_50 rfl ?_
        refine zw_ireturn .int dX4_leastColumn_52 rfl rfl (Nat.le_refl _) (Nat.le_refl _) ?_
        rwa [if_pos (by simpa using he)] at kk
theorem b_least {row t : Nat} (h : isP w r c op wo be) (hok : okP r c 0 op wo be) (hr : row < r) (ht : t < 2 ^ c) (k : Q (some (.int (leastC op wo c r row t))) w) : Zm (d + 3) mX4_leastColumn 0 0 [.ref 56, .int (nI row), .int (nI t)] w Q := by
  have hr7 := h.2.2.2.2.1
  have hp := pow_c h.2.2.2.2.2.1
  refine zm_intro [_, _, _, _, _] oX4_leastColumn (Nat.le_of_ble_eq_true rfl) rfl ?_
  refine zw_aload_n dX4_leastColumn_0 rfl ?_
  refine zw_get dX4_leastColumn_1 fX4_9 h.1 rfl ?_
  refine zw_iload_n dX4_leastColumn_4 rfl ?_
  refine zw_iald dX4_leastColumn_5 h.2.1 (vp_in_nI (by omega) (by decide)) ?_
  rw [nI_clamp (by omega)]
  refine zw_iload_n dX4_leastColumn_6 rfl ?_
  refine zw_iconst dX4_leastColumn_7 (-1) (by decide) ?_
  refine zw_ixor dX4_leastColumn_8 ?_
  refine zw_iand dX4_leastColumn_9 ?_
  refine zw_top (andn_I (op row) (h.2.2.2.2.2.2 row hr) t (by omega)) ?_
  refine zw_istore_n [_, _, _, _, _] dX4_leastColumn_10 (Nat.le_of_ble_eq_true rfl) rfl ?_
  refine zw_iconst dX4_leastColumn_11 0 (by decide) ?_
  refine zw_istore [_, _, _, _, _] dX4_leastColumn_12 (Nat.le_of_ble_eq_true rfl) rfl ?_
  exact b_leastL h hok hr ht rfl c 0 (by omega) k
theorem leastC_or {row t : Nat} : leastC op wo c r row t = -1 ∨ ∃ i, i < c ∧ leastC op wo c r row t = nI i := by
  rcases fnd_cases (fun i => (andn (op row) t).testBit i && decide (wo row + bstR op wo c r (r - (row + 1)) (t ||| 2 ^ i) = bstR op wo c r (r - row) t)) c 0 with ⟨e, -⟩ | ⟨i, -, hi, -, e, -⟩
  · exact Or.inl e
  · exact Or.inr ⟨i, by omega, e⟩
theorem b_partnerL {a : Nat} (h : isP w r c op wo be) (hok : okP r c 0 op wo be) (ha : a < r) : ∀ (k row t : Nat) (last : Int32), row + k = a + 1 → t < 2 ^ c → Q (some (.int (prtF op wo c r row k t last))) w → Zw (d + 4) mX4_partner z0 7 [some (.ref 56), some (.int (nI a)), some (.int (nI t)), some (.int last), some (.int (nI row))] [] w Q := by
  have hr7 := h.2.2.2.2.1
  have hc7 := h.2.2.2.2.2.1
  have hp := pow_c hc7
  intro k
  induction k with
  | zero =>
    intro row t last hi ht kk
    refine zw_iload dX4_partner_7 rfl ?_
    refine zw_iload_n dX4_partner_9 rfl ?_
    refine zw_icmp_gt 51 dX4_partner_10 (by decide) (fun _ => ?_) (fun hz => absurd (nI_lt (by omega) (by omega)) hz)
    refine zw_iload_n dX4_partner_51 rfl ?_
    refine zw_ireturn .int dX4_partner_52 rfl rfl (Nat.le_refl _) (Nat.le_refl _) ?_
    exact kk
  | succ k ih =>
    intro row t last hi ht kk
    unfold prtF at kk
    refine zw_iload dX4_partner_7 rfl ?_
    refine zw_iload_n dX4_partner_9 rfl ?_
    refine zw_icmp_gt 51 dX4_partner_10 (by decide) (fun hz => absurd hz (nI_nlt (by omega) (by omega))) (fun _ => ?_)
    refine zw_iload dX4_partner_13 rfl ?_
    refine zw_aload_n dX4_partner_15 rfl ?_
    refine zw_get dX4_partner_16 fX4_21 h.1 rfl ?_
    refine zw_icmp_ge 51 dX4_partner_19 (by decide) (fun hz => absurd hz (nI_ge (by omega) (by omega))) (fun _ => ?_)
    refine zw_aload_n dX4_partner_22 rfl ?_
    refine zw_iload dX4_partner_23 rfl ?_
    refine zw_iload_n dX4_partner_25 rfl ?_
    refine zw_cV2 dX4_partner_26 oX4_leastColumn kX4_leastColumn lX4_51 h.1 rfl (Nat.le_of_ble_eq_true rfl) rfl (b_least h hok (by omega) ht ?_)
    show Zw _ _ _ 29 [_, _, _, _, _] [_] _ _
    refine zw_istore_n [_, _, _, _, _] dX4_partner_29 (Nat.le_of_ble_eq_true rfl) rfl ?_
    refine zw_iload_n dX4_partner_30 rfl ?_
    refine zw_iload_n dX4_partner_31 rfl ?_
    refine zw_iconst dX4_partner_32 (-1) (by decide) ?_
    rcases leastC_or (op := op) (wo := wo) (c := c) (r := r) (row := row) (t := t) with e | ⟨i, hi2, e⟩
    · refine zw_icmp_ne 40 dX4_partner_33 (by decide) (fun hz => absurd (e) hz) (fun _ => ?_)
      refine zw_iconst dX4_partner_36 0 (by decide) ?_
      refine zw_goto 43 dX4_partner_37 (by decide) ?_
      refine zw_ior dX4_partner_43 ?_
      refine zw_top (show nI t ||| 0 = nI t from by simp) ?_
      refine zw_istore_n [_, _, _, _, _] dX4_partner_44 (Nat.le_of_ble_eq_true rfl) rfl ?_
      refine zw_iinc (nI (row + 1)) [_, _, _, _, _] dX4_partner_45 rfl (nI_1 row) rfl ?_
      refine zw_goto 7 dX4_partner_48 (by decide) ?_
      refine ih (row + 1) t _ (by omega) ht ?_
      rwa [if_pos e] at kk
    · rw [e] at kk ⊢
      have hne : ¬ nI i = -1 := fun z => nI_pos (n := i) (by omega) (z ▸ by decide)
      refine zw_icmp_ne 40 dX4_partner_33 (by decide) (fun _ => ?_) (fun hz => absurd hz (hne))
      refine zw_iconst dX4_partner_40 1 (by decide) ?_
      refine zw_iload_n dX4_partner_41 rfl ?_
      refine zw_ishl dX4_partner_42 ?_
      refine zw_ior dX4_partner_43 ?_
      refine zw_top (orb_I t (by omega) i (by omega)) ?_
      refine zw_istore_n [_, _, _, _, _] dX4_partner_44 (Nat.le_of_ble_eq_true rfl) rfl ?_
      refine zw_iinc (nI (row + 1)) [_, _, _, _, _] dX4_partner_45 rfl (nI_1 row) rfl ?_
      refine zw_goto 7 dX4_partner_48 (by decide) ?_
      refine ih (row + 1) _ _ (by omega) (orb_lt ht hi2) ?_
      rwa [if_neg hne, nI_clamp (by omega)] at kk
theorem b_partner {a : Nat} (h : isP w r c op wo be) (hok : okP r c 0 op wo be) (ha : a < r) (k : Q (some (.int (prtF op wo c r 0 (a + 1) 0 (-1)))) w) : Zm (d + 4) mX4_partner 0 0 [.ref 56, .int (nI a)] w Q := by
  refine zm_intro [_, _, _, _, _] oX4_partner (Nat.le_of_ble_eq_true rfl) rfl ?_
  refine zw_iconst dX4_partner_0 0 (by decide) ?_
  refine zw_istore_n [_, _, _, _, _] dX4_partner_1 (Nat.le_of_ble_eq_true rfl) rfl ?_
  refine zw_iconst dX4_partner_2 (-1) (by decide) ?_
  refine zw_istore_n [_, _, _, _, _] dX4_partner_3 (Nat.le_of_ble_eq_true rfl) rfl ?_
  refine zw_iconst dX4_partner_4 0 (by decide) ?_
  refine zw_istore [_, _, _, _, _] dX4_partner_5 (Nat.le_of_ble_eq_true rfl) rfl ?_
  exact b_partnerL h hok ha (a + 1) 0 0 (-1) (by omega) (Nat.two_pow_pos c) k
end ZPAIRS2
