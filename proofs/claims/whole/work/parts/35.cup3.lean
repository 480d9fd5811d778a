/-! ===== Cupboard: masks, sums, tales, evenings, lids on and off ===== -/
def mskF (p : Nat → Bool) (i k m : Nat) : Nat := match k with
  | 0 => m
  | k + 1 => mskF p (i + 1) k (if p i = true then m + 2 ^ i else m)
theorem or_bit : ∀ i, i < 7 → ∀ m, m < 2 ^ i → nI m ||| ((1 : Int32) <<< (nI i &&& 31)) = nI (m + 2 ^ i) := by decide +kernel
theorem bit_t : ∀ s, s < 128 → ∀ i, i < 7 → (nI s >>> (nI i &&& 31)) &&& 1 = if s.testBit i = true then 1 else 0 := by decide +kernel
theorem mskF_lt (p : Nat → Bool) : ∀ (k i m : Nat), m < 2 ^ i → mskF p i k m < 2 ^ (i + k)
  | 0, i, m, h => h
  | k + 1, i, m, h => by
    show mskF p (i + 1) k _ < _
    rw [show i + (k + 1) = i + 1 + k by omega]
    refine mskF_lt p k (i + 1) _ ?_
    rw [Nat.pow_succ]
    split <;> omega
/-- the box that a deed of the table f is about -/
def hold (f : Nat → Int32) (l : Int32) (i k : Nat) (h : Int32) : Int32 := match k with
  | 0 => h
  | k + 1 => hold f l (i + 1) k (if f (i * 3 + 1) = l ∧ f (i * 3) = h then f (i * 3 + 2) else h)
def sumF (f : Nat → Int32) (s c i k : Nat) (a : Int32) : Int32 := match k with
  | 0 => a
  | k + 1 => sumF f s c (i + 1) k (if s.testBit i = true then a + f (i * 5 + c) else a)
theorem fnd_cases (p : Nat → Bool) : ∀ (k i : Nat), (fnd p i k = -1 ∧ ∀ j, i ≤ j → j < i + k → p j = false) ∨ ∃ j, i ≤ j ∧ j < i + k ∧ p j = true ∧ fnd p i k = nI j ∧ ∀ j', i ≤ j' → j' < j → p j' = false
  | 0, i => Or.inl ⟨rfl, fun j h1 h2 => by omega⟩
  | k + 1, i => by
    unfold fnd
    by_cases hp : p i = true
    · rw [if_pos hp]
      exact Or.inr ⟨i, Nat.le_refl _, by omega, hp, rfl, fun j' h1 h2 => by omega⟩
    · rw [if_neg hp]
      have hp' : p i = false := by simpa using hp
      rcases fnd_cases p k (i + 1) with ⟨h1, h2⟩ | ⟨j, h1, h2, h3, h4, h5⟩
      · refine Or.inl ⟨h1, fun j a b => ?_⟩
        by_cases e : j = i
        · rw [e]; exact hp'
        · exact h2 j (by omega) (by omega)
      · refine Or.inr ⟨j, by omega, by omega, h3, h4, fun j' a b => ?_⟩
        by_cases e : j' = i
        · rw [e]; exact hp'
        · exact h5 j' (by omega) b
section ZCUPC
variable {d p : Nat} {w w' : ZW} {C : Nat → Nat × (Nat → Int32)} {q : Nat × (Nat → Int32)} {Q : Option Value → ZW → Prop}
/-- lid l of the cupboard fits its box b -/
def cFit (C : Nat → Nat × (Nat → Int32)) (l b : Nat) : Bool := fitB ((C 1).2 (l * 4)) ((C 1).2 (l * 4 + 1)) ((C 1).2 (l * 4 + 2)) ((C 0).2 (b * 5)) ((C 0).2 (b * 5 + 1)) ((C 0).2 (b * 5 + 2))
/-- sort l of the cupboard fits its box b -/
def cFitS (C : Nat → Nat × (Nat → Int32)) (l b : Nat) : Bool := fitB ((C 2).2 (l * 4)) ((C 2).2 (l * 4 + 1)) ((C 2).2 (l * 4 + 2)) ((C 0).2 (b * 5)) ((C 0).2 (b * 5 + 1)) ((C 0).2 (b * 5 + 2))
/-- the kinds of a table are kinds -/
def okK (q : Nat × (Nat → Int32)) : Prop := ∀ r, r < q.1 → ∃ j, j < 6 ∧ q.2 (r * 4) = nI j
theorem c_lidsForL {b : Nat} (h : isC w p C) (hk : okK (C 1)) (hb : b < (C 0).1) : ∀ (k i m : Nat), i + k = (C 1).1 → m < 2 ^ i → Q (some (.int (nI (mskF (fun l => cFit C l b) i k m)))) w → Zw (d + 3) mX1_lidsFor z0 4 [some (.ref p), some (.int (nI b)), some (.int (nI m)), some (.int (nI i))] [] w Q := by
  have hb1 := h.2.2.1.2.2.1
  intro k
  induction k with
  | zero =>
    intro i m hi hm kk
    refine zw_iload_n dX1_lidsFor_4 rfl ?_
    refine zw_aload_n dX1_lidsFor_5 rfl ?_
    refine zw_get dX1_lidsFor_6 fX1_20 h.1 rfl ?_
    refine zw_cV0 dX1_lidsFor_9 oX6_size kX6_size lX1_81 h.2.2.1.1 rfl (Nat.le_of_ble_eq_true rfl) rfl (t_size h.2.2.1 ?_)
    show Zw _ _ _ 12 [_, _, _, _] [_, _] _ _
    refine zw_icmp_ge 40 dX1_lidsFor_12 (by decide) (fun _ => ?_) (fun hz => absurd (nI_le (by omega) (by omega)) hz)
    refine zw_iload_n dX1_lidsFor_40 rfl ?_
    refine zw_ireturn .int dX1_lidsFor_41 rfl rfl (Nat.le_refl _) (Nat.le_refl _) ?_
    exact kk
  | succ k ih =>
    intro i m hi hm kk
    have hm2 : m + 2 ^ i < 2 ^ (i + 1) := by rw [Nat.pow_succ]; omega
    refine zw_iload_n dX1_lidsFor_4 rfl ?_
    refine zw_aload_n dX1_lidsFor_5 rfl ?_
    refine zw_get dX1_lidsFor_6 fX1_20 h.1 rfl ?_
    refine zw_cV0 dX1_lidsFor_9 oX6_size kX6_size lX1_81 h.2.2.1.1 rfl (Nat.le_of_ble_eq_true rfl) rfl (t_size h.2.2.1 ?_)
    show Zw _ _ _ 12 [_, _, _, _] [_, _] _ _
    refine zw_icmp_ge 40 dX1_lidsFor_12 (by decide) (fun hz => absurd hz (nI_ge (by omega) (by omega))) (fun _ => ?_)
    refine zw_aload_n dX1_lidsFor_15 rfl ?_
    refine zw_aload_n dX1_lidsFor_16 rfl ?_
    refine zw_get dX1_lidsFor_17 fX1_20 h.1 rfl ?_
    refine zw_iload_n dX1_lidsFor_20 rfl ?_
    refine zw_iload_n dX1_lidsFor_21 rfl ?_
    refine zw_cV3 dX1_lidsFor_22 oX1_rowFits kX1_rowFits lX1_66 h.1 rfl (Nat.le_of_ble_eq_true rfl) rfl (c_rowFits h h.2.2.1 (r := i) (by omega) hb (hk i (by omega)) ?_)
    show Zw _ _ _ 25 [_, _, _, _] [_] _ _
    refine zw_if_eq 34 dX1_lidsFor_25 (by decide) (fun hf => ?_) (fun hf => ?_)
    · refine zw_iinc (nI (i + 1)) [_, _, _, _] dX1_lidsFor_34 rfl (nI_1 i) rfl ?_
      refine zw_goto 4 dX1_lidsFor_37 (by decide) ?_
      refine ih (i + 1) m (by omega) (by omega) ?_
      unfold mskF at kk
      rwa [if_neg (by rw [show cFit C i b = false from bI_f hf]; decide)] at kk
    · refine zw_iload_n dX1_lidsFor_28 rfl ?_
      refine zw_iconst dX1_lidsFor_29 1 (by decide) ?_
      refine zw_iload_n dX1_lidsFor_30 rfl ?_
      refine zw_ishl dX1_lidsFor_31 ?_
      refine zw_ior dX1_lidsFor_32 ?_
      refine zw_top (or_bit i (by omega) m hm) ?_
      refine zw_istore_n [_, _, _, _] dX1_lidsFor_33 (Nat.le_of_ble_eq_true rfl) rfl ?_
      refine zw_iinc (nI (i + 1)) [_, _, _, _] dX1_lidsFor_34 rfl (nI_1 i) rfl ?_
      refine zw_goto 4 dX1_lidsFor_37 (by decide) ?_
      refine ih (i + 1) (m + 2 ^ i) (by omega) hm2 ?_
      unfold mskF at kk
      rwa [if_pos (show cFit C i b = true from bI_t hf)] at kk
/-- the lids that fit a box, as bits -/
def cMask (C : Nat → Nat × (Nat → Int32)) (b : Nat) : Nat := mskF (fun l => cFit C l b) 0 (C 1).1 0
theorem c_lidsFor {b : Nat} (h : isC w p C) (hk : okK (C 1)) (hb : b < (C 0).1) (k : Q (some (.int (nI (cMask C b)))) w) : Zm (d + 3) mX1_lidsFor 0 0 [.ref p, .int (nI b)] w Q := by
  refine zm_intro [_, _, _, _] oX1_lidsFor (Nat.le_of_ble_eq_true rfl) rfl ?_
  refine zw_iconst dX1_lidsFor_0 0 (by decide) ?_
  refine zw_istore_n [_, _, _, _] dX1_lidsFor_1 (Nat.le_of_ble_eq_true rfl) rfl ?_
  refine zw_iconst dX1_lidsFor_2 0 (by decide) ?_
  refine zw_istore_n [_, _, _, _] dX1_lidsFor_3 (Nat.le_of_ble_eq_true rfl) rfl ?_
  exact c_lidsForL h hk hb (C 1).1 0 0 (by omega) (by decide) k
/-- box a goes into box b -/
def cNest (C : Nat → Nat × (Nat → Int32)) (a b : Nat) : Bool := decide ((C 0).2 (a * 5 + 1) < (C 0).2 (b * 5 + 1)) && (decide ((C 0).2 (a * 5) = (C 0).2 (b * 5)) || (decide ((C 0).2 (a * 5) = 0) && decide ((C 0).2 (b * 5) = 2)))
theorem c_goesInto {a b : Nat} (h : isC w p C) (ha : a < (C 0).1) (hb : b < (C 0).1) (k : Q (some (.int (bI (cNest C a b)))) w) : Zm (d + 2) mX1_goesInto 0 0 [.ref p, .int (nI a), .int (nI b)] w Q := by
  unfold cNest at k
  refine zm_intro [_, _, _, _, _] oX1_goesInto (Nat.le_of_ble_eq_true rfl) rfl ?_
  refine zw_aload_n dX1_goesInto_0 rfl ?_
  refine zw_get dX1_goesInto_1 fX1_14 h.1 rfl ?_
  refine zw_iload_n dX1_goesInto_4 rfl ?_
  refine zw_iconst dX1_goesInto_5 0 (by decide) ?_
  refine zw_cV2 dX1_goesInto_6 oX6_at kX6_at lX1_74 h.2.1.1 rfl (Nat.le_of_ble_eq_true rfl) rfl (t_at0 h.2.1 ha ?_)
  show Zw _ _ _ 9 [_, _, _, _, _] [_] _ _
  refine zw_istore_n [_, _, _, _, _] dX1_goesInto_9 (Nat.le_of_ble_eq_true rfl) rfl ?_
  refine zw_aload_n dX1_goesInto_10 rfl ?_
  refine zw_get dX1_goesInto_11 fX1_14 h.1 rfl ?_
  refine zw_iload_n dX1_goesInto_14 rfl ?_
  refine zw_iconst dX1_goesInto_15 0 (by decide) ?_
  refine zw_cV2 dX1_goesInto_16 oX6_at kX6_at lX1_74 h.2.1.1 rfl (Nat.le_of_ble_eq_true rfl) rfl (t_at0 h.2.1 hb ?_)
  show Zw _ _ _ 19 [_, _, _, _, _] [_] _ _
  refine zw_istore [_, _, _, _, _] dX1_goesInto_19 (Nat.le_of_ble_eq_true rfl) rfl ?_
  refine zw_aload_n dX1_goesInto_21 rfl ?_
  refine zw_get dX1_goesInto_22 fX1_14 h.1 rfl ?_
  refine zw_iload_n dX1_goesInto_25 rfl ?_
  refine zw_iconst dX1_goesInto_26 1 (by decide) ?_
  refine zw_cV2 dX1_goesInto_27 oX6_at kX6_at lX1_74 h.2.1.1 rfl (Nat.le_of_ble_eq_true rfl) rfl (t_at (c := 1) h.2.1 ha (by decide) ?_)
  show Zw _ _ _ 30 [_, _, _, _, _] [_] _ _
  refine zw_aload_n dX1_goesInto_30 rfl ?_
  refine zw_get dX1_goesInto_31 fX1_14 h.1 rfl ?_
  refine zw_iload_n dX1_goesInto_34 rfl ?_
  refine zw_iconst dX1_goesInto_35 1 (by decide) ?_
  refine zw_cV2 dX1_goesInto_36 oX6_at kX6_at lX1_74 h.2.1.1 rfl (Nat.le_of_ble_eq_true rfl) rfl (t_at (c := 1) h.2.1 hb (by decide) ?_)
  show Zw _ _ _ 39 [_, _, _, _, _] [_, _] _ _
  refine zw_icmp_ge 62 dX1_goesInto_39 (by decide) (fun h1 => ?_) (fun h1 => ?_)
  · refine zw_iconst dX1_goesInto_62 0 (by decide) ?_
    refine zw_ireturn .boolean dX1_goesInto_63 rfl rfl (Nat.le_refl _) (Nat.le_refl _) ?_
    rw [decide_eq_false (Int32.not_lt.mpr h1)] at k
    exact k
  · rw [decide_eq_true (Int32.not_le.mp h1), Bool.true_and] at k
    refine zw_iload_n dX1_goesInto_42 rfl ?_
    refine zw_iload dX1_goesInto_43 rfl ?_
    refine zw_icmp_eq 58 dX1_goesInto_45 (by decide) (fun h2 => ?_) (fun h2 => ?_)
    · refine zw_iconst dX1_goesInto_58 1 (by decide) ?_
      refine zw_goto 63 dX1_goesInto_59 (by decide) ?_
      refine zw_ireturn .boolean dX1_goesInto_63 rfl rfl (Nat.le_refl _) (Nat.le_refl _) ?_
      rw [decide_eq_true h2] at k
      exact k
    · rw [decide_eq_false h2, Bool.false_or] at k
      refine zw_iload_n dX1_goesInto_48 rfl ?_
      refine zw_if_ne 62 dX1_goesInto_49 (by decide) (fun h3 => ?_) (fun h3 => ?_)
      · refine zw_iconst dX1_goesInto_62 0 (by decide) ?_
        refine zw_ireturn .boolean dX1_goesInto_63 rfl rfl (Nat.le_refl _) (Nat.le_refl _) ?_
        rw [decide_eq_false h3] at k
        exact k
      · rw [decide_eq_true h3, Bool.true_and] at k
        refine zw_iload dX1_goesInto_52 rfl ?_
        refine zw_iconst dX1_goesInto_54 2 (by decide) ?_
        refine zw_icmp_ne 62 dX1_goesInto_55 (by decide) (fun h4 => ?_) (fun h4 => ?_)
        · refine zw_iconst dX1_goesInto_62 0 (by decide) ?_
          refine zw_ireturn .boolean dX1_goesInto_63 rfl rfl (Nat.le_refl _) (Nat.le_refl _) ?_
          rw [decide_eq_false h4] at k
          exact k
        · refine zw_iconst dX1_goesInto_58 1 (by decide) ?_
          refine zw_goto 63 dX1_goesInto_59 (by decide) ?_
          refine zw_ireturn .boolean dX1_goesInto_63 rfl rfl (Nat.le_refl _) (Nat.le_refl _) ?_
          rw [decide_eq_true h4] at k
          exact k
theorem c_boxesAroundL {a : Nat} (h : isC w p C) (ha : a < (C 0).1) : ∀ (k i m : Nat), i + k = (C 0).1 → m < 2 ^ i → Q (some (.int (nI (mskF (fun b => cNest C a b) i k m)))) w → Zw (d + 3) mX1_boxesAround z0 4 [some (.ref p), some (.int (nI a)), some (.int (nI m)), some (.int (nI i))] [] w Q := by
  have hb1 := h.2.1.2.2.1
  intro k
  induction k with
  | zero =>
    intro i m hi hm kk
    refine zw_iload_n dX1_boxesAround_4 rfl ?_
    refine zw_aload_n dX1_boxesAround_5 rfl ?_
    refine zw_get dX1_boxesAround_6 fX1_14 h.1 rfl ?_
    refine zw_cV0 dX1_boxesAround_9 oX6_size kX6_size lX1_81 h.2.1.1 rfl (Nat.le_of_ble_eq_true rfl) rfl (t_size h.2.1 ?_)
    show Zw _ _ _ 12 [_, _, _, _] [_, _] _ _
    refine zw_icmp_ge 36 dX1_boxesAround_12 (by decide) (fun _ => ?_) (fun hz => absurd (nI_le (by omega) (by omega)) hz)
    refine zw_iload_n dX1_boxesAround_36 rfl ?_
    refine zw_ireturn .int dX1_boxesAround_37 rfl rfl (Nat.le_refl _) (Nat.le_refl _) ?_
    exact kk
  | succ k ih =>
    intro i m hi hm kk
    have hm2 : m + 2 ^ i < 2 ^ (i + 1) := by rw [Nat.pow_succ]; omega
    refine zw_iload_n dX1_boxesAround_4 rfl ?_
    refine zw_aload_n dX1_boxesAround_5 rfl ?_
    refine zw_get dX1_boxesAround_6 fX1_14 h.1 rfl ?_
    refine zw_cV0 dX1_boxesAround_9 oX6_size kX6_size lX1_81 h.2.1.1 rfl (Nat.le_of_ble_eq_true rfl) rfl (t_size h.2.1 ?_)
    show Zw _ _ _ 12 [_, _, _, _] [_, _] _ _
    refine zw_icmp_ge 36 dX1_boxesAround_12 (by decide) (fun hz => absurd hz (nI_ge (by omega) (by omega))) (fun _ => ?_)
    refine zw_aload_n dX1_boxesAround_15 rfl ?_
    refine zw_iload_n dX1_boxesAround_16 rfl ?_
    refine zw_iload_n dX1_boxesAround_17 rfl ?_
    refine zw_cV2 dX1_boxesAround_18 oX1_goesInto kX1_goesInto lX1_90 h.1 rfl (Nat.le_of_ble_eq_true rfl) rfl (c_goesInto h ha (by omega) ?_)
    show Zw _ _ _ 21 [_, _, _, _] [_] _ _
    refine zw_if_eq 30 dX1_boxesAround_21 (by decide) (fun hf => ?_) (fun hf => ?_)
    · refine zw_iinc (nI (i + 1)) [_, _, _, _] dX1_boxesAround_30 rfl (nI_1 i) rfl ?_
      refine zw_goto 4 dX1_boxesAround_33 (by decide) ?_
      refine ih (i + 1) m (by omega) (by omega) ?_
      unfold mskF at kk
      rwa [if_neg (by rw [show cNest C a i = false from bI_f hf]; decide)] at kk
    · refine zw_iload_n dX1_boxesAround_24 rfl ?_
      refine zw_iconst dX1_boxesAround_25 1 (by decide) ?_
      refine zw_iload_n dX1_boxesAround_26 rfl ?_
      refine zw_ishl dX1_boxesAround_27 ?_
      refine zw_ior dX1_boxesAround_28 ?_
      refine zw_top (or_bit i (by omega) m hm) ?_
      refine zw_istore_n [_, _, _, _] dX1_boxesAround_29 (Nat.le_of_ble_eq_true rfl) rfl ?_
      refine zw_iinc (nI (i + 1)) [_, _, _, _] dX1_boxesAround_30 rfl (nI_1 i) rfl ?_
      refine zw_goto 4 dX1_boxesAround_33 (by decide) ?_
      refine ih (i + 1) (m + 2 ^ i) (by omega) hm2 ?_
      unfold mskF at kk
      rwa [if_pos (show cNest C a i = true from bI_t hf)] at kk
def cAround (C : Nat → Nat × (Nat → Int32)) (a : Nat) : Nat := mskF (fun b => cNest C a b) 0 (C 0).1 0
theorem c_boxesAround {a : Nat} (h : isC w p C) (ha : a < (C 0).1) (k : Q (some (.int (nI (cAround C a)))) w) : Zm (d + 3) mX1_boxesAround 0 0 [.ref p, .int (nI a)] w Q := by
  refine zm_intro [_, _, _, _] oX1_boxesAround (Nat.le_of_ble_eq_true rfl) rfl ?_
  refine zw_iconst dX1_boxesAround_0 0 (by decide) ?_
  refine zw_istore_n [_, _, _, _] dX1_boxesAround_1 (Nat.le_of_ble_eq_true rfl) rfl ?_
  refine zw_iconst dX1_boxesAround_2 0 (by decide) ?_
  refine zw_istore_n [_, _, _, _] dX1_boxesAround_3 (Nat.le_of_ble_eq_true rfl) rfl ?_
  exact c_boxesAroundL h ha (C 0).1 0 0 (by omega) (by decide) k
theorem x_sortShift {i : Nat} (hi : i < 4) (k : Q (some (.int (nI (3 * (3 - i))))) w) : Zm (d + 1) mX8_sortShift 0 0 [.int (nI i)] w Q := by
  refine zm_intro [_] oX8_sortShift (Nat.le_of_ble_eq_true rfl) rfl ?_
  refine zw_iload_n dX8_sortShift_0 rfl ?_
  refine zw_iconst dX8_sortShift_1 0 (by decide) ?_
  refine zw_iconst dX8_sortShift_2 3 (by decide) ?_
  refine zw_cS3 dX8_sortShift_3 oX8_within kX8_within lX8_167 (Nat.le_of_ble_eq_true rfl) rfl (x_within (fun h1 h2 => ?_) (fun h1 => ?_))
  · show Zw _ _ _ 6 [_] [_] _ _
    refine zw_if_eq 17 dX8_sortShift_6 (by decide) (fun hz => absurd hz (by decide)) (fun _ => ?_)
    refine zw_iconst dX8_sortShift_9 3 (by decide) ?_
    refine zw_iconst dX8_sortShift_10 3 (by decide) ?_
    refine zw_iload_n dX8_sortShift_11 rfl ?_
    refine zw_isub dX8_sortShift_12 ?_
    refine zw_imul dX8_sortShift_13 ?_
    refine zw_goto 18 dX8_sortShift_14 (by decide) ?_
    refine zw_ireturn .int dX8_sortShift_18 rfl rfl (Nat.le_refl _) (Nat.le_refl _) ?_
    have e : ∀ i, i < 4 → (3 : Int32) * (3 - nI i) = nI (3 * (3 - i)) := by decide +kernel
    rw [e i hi]
    exact k
  · exact absurd ⟨nI_pos' (by omega), nI_le (b := 3) (by omega) (by decide)⟩ h1
/-- the price and place of sort l, as one number -/
def cPur (C : Nat → Nat × (Nat → Int32)) (l : Nat) : Int32 := ((C 2).2 (l * 4 + 3) <<< ((12 : Int32) &&& 31)) + ((1 : Int32) <<< (nI (3 * (3 - l)) &&& 31))
def purF (C : Nat → Nat × (Nat → Int32)) (b i k : Nat) (a : Int32) : Int32 := match k with
  | 0 => a
  | k + 1 => purF C b (i + 1) k (if cFitS C i b = true then (if cPur C i < a then cPur C i else a) else a)
theorem c_purchaseForL {b : Nat} (h : isC w p C) (hk : okK (C 2)) (hb : b < (C 0).1) : ∀ (k i : Nat) (a : Int32), i + k = (C 2).1 → Q (some (.int (purF C b i k a))) w → Zw (d + 3) mX1_purchaseFor z0 5 [some (.ref p), some (.int (nI b)), some (.int a), some (.int (nI i))] [] w Q := by
  have hb1 := h.2.2.2.1.2.2.1
  intro k
  induction k with
  | zero =>
    intro i a hi kk
    refine zw_iload_n dX1_purchaseFor_5 rfl ?_
    refine zw_aload_n dX1_purchaseFor_6 rfl ?_
    refine zw_get dX1_purchaseFor_7 fX1_23 h.1 rfl ?_
    refine zw_cV0 dX1_purchaseFor_10 oX6_size kX6_size lX1_81 h.2.2.2.1.1 rfl (Nat.le_of_ble_eq_true rfl) rfl (t_size h.2.2.2.1 ?_)
    show Zw _ _ _ 13 [_, _, _, _] [_, _] _ _
    refine zw_icmp_ge 59 dX1_purchaseFor_13 (by decide) (fun _ => ?_) (fun hz => absurd (nI_le (by omega) (by omega)) hz)
    refine zw_iload_n dX1_purchaseFor_59 rfl ?_
    refine zw_ireturn .int dX1_purchaseFor_60 rfl rfl (Nat.le_refl _) (Nat.le_refl _) ?_
    exact kk
  | succ k ih =>
    intro i a hi kk
    refine zw_iload_n dX1_purchaseFor_5 rfl ?_
    refine zw_aload_n dX1_purchaseFor_6 rfl ?_
    refine zw_get dX1_purchaseFor_7 fX1_23 h.1 rfl ?_
    refine zw_cV0 dX1_purchaseFor_10 oX6_size kX6_size lX1_81 h.2.2.2.1.1 rfl (Nat.le_of_ble_eq_true rfl) rfl (t_size h.2.2.2.1 ?_)
    show Zw _ _ _ 13 [_, _, _, _] [_, _] _ _
    refine zw_icmp_ge 59 dX1_purchaseFor_13 (by decide) (fun hz => absurd hz (nI_ge (by omega) (by omega))) (fun _ => ?_)
    refine zw_aload_n dX1_purchaseFor_16 rfl ?_
    refine zw_aload_n dX1_purchaseFor_17 rfl ?_
    refine zw_get dX1_purchaseFor_18 fX1_23 h.1 rfl ?_
    refine zw_iload_n dX1_purchaseFor_21 rfl ?_
    refine zw_iload_n dX1_purchaseFor_22 rfl ?_
    refine zw_cV3 dX1_purchaseFor_23 oX1_rowFits kX1_rowFits lX1_66 h.1 rfl (Nat.le_of_ble_eq_true rfl) rfl (c_rowFits h h.2.2.2.1 (r := i) (by omega) hb (hk i (by omega)) ?_)
    show Zw _ _ _ 26 [_, _, _, _] [_] _ _
    refine zw_if_eq 53 dX1_purchaseFor_26 (by decide) (fun hf => ?_) (fun hf => ?_)
    · refine zw_iinc (nI (i + 1)) [_, _, _, _] dX1_purchaseFor_53 rfl (nI_1 i) rfl ?_
      refine zw_goto 5 dX1_purchaseFor_56 (by decide) ?_
      refine ih (i + 1) a (by omega) ?_
      unfold purF at kk
      rwa [if_neg (by rw [show cFitS C i b = false from bI_f hf]; decide)] at kk
    · refine zw_iload_n dX1_purchaseFor_29 rfl ?_
      refine zw_aload_n dX1_purchaseFor_30 rfl ?_
      refine zw_get dX1_purchaseFor_31 fX1_23 h.1 rfl ?_
      refine zw_iload_n dX1_purchaseFor_34 rfl ?_
      refine zw_iconst dX1_purchaseFor_35 3 (by decide) ?_
      refine zw_cV2 dX1_purchaseFor_36 oX6_at kX6_at lX1_74 h.2.2.2.1.1 rfl (Nat.le_of_ble_eq_true rfl) rfl (t_at (c := 3) h.2.2.2.1 (by omega) (by decide) ?_)
      show Zw _ _ _ 39 [_, _, _, _] [_, _] _ _
      refine zw_bipush dX1_purchaseFor_39 12 (by decide) ?_
      refine zw_ishl dX1_purchaseFor_41 ?_
      refine zw_iconst dX1_purchaseFor_42 1 (by decide) ?_
      refine zw_iload_n dX1_purchaseFor_43 rfl ?_
      refine zw_cS1 dX1_purchaseFor_44 oX8_sortShift kX8_sortShift lX1_94 (Nat.le_of_ble_eq_true rfl) rfl (x_sortShift (by omega) ?_)
      show Zw _ _ _ 47 [_, _, _, _] [_, _, _, _] _ _
      refine zw_ishl dX1_purchaseFor_47 ?_
      refine zw_iadd dX1_purchaseFor_48 ?_
      refine zw_min dX1_purchaseFor_49 lX1_97 w_stat_min iniJ9 w_code_min rfl (Nat.le_of_ble_eq_true rfl) (by decide) (by decide) ?_
      refine zw_istore_n [_, _, _, _] dX1_purchaseFor_52 (Nat.le_of_ble_eq_true rfl) rfl ?_
      refine zw_iinc (nI (i + 1)) [_, _, _, _] dX1_purchaseFor_53 rfl (nI_1 i) rfl ?_
      refine zw_goto 5 dX1_purchaseFor_56 (by decide) ?_
      refine ih (i + 1) _ (by omega) ?_
      unfold purF at kk
      rwa [if_pos (show cFitS C i b = true from bI_t hf)] at kk
theorem c_purchaseFor {b : Nat} (h : isC w p C) (hk : okK (C 2)) (hb : b < (C 0).1) (k : Q (some (.int (purF C b 0 (C 2).1 67108864))) w) : Zm (d + 3) mX1_purchaseFor 0 0 [.ref p, .int (nI b)] w Q := by
  refine zm_intro [_, _, _, _] oX1_purchaseFor (Nat.le_of_ble_eq_true rfl) rfl ?_
  refine zw_ldc dX1_purchaseFor_0 qX1_93 ?_
  refine zw_istore_n [_, _, _, _] dX1_purchaseFor_2 (Nat.le_of_ble_eq_true rfl) rfl ?_
  refine zw_iconst dX1_purchaseFor_3 0 (by decide) ?_
  refine zw_istore_n [_, _, _, _] dX1_purchaseFor_4 (Nat.le_of_ble_eq_true rfl) rfl ?_
  exact c_purchaseForL h hk hb (C 2).1 0 _ (by omega) k
theorem c_sumOverL {s c : Nat} (h : isC w p C) (hs : s < 128) (hc : c < 5) : ∀ (k i : Nat) (a : Int32), i + k = (C 0).1 → Q (some (.int (sumF (C 0).2 s c i k a))) w → Zw (d + 2) mX1_sumOver z0 5 [some (.ref p), some (.int (nI s)), some (.int (nI c)), some (.int a), some (.int (nI i))] [] w Q := by
  have hb1 := h.2.1.2.2.1
  intro k
  induction k with
  | zero =>
    intro i a hi kk
    refine zw_iload dX1_sumOver_5 rfl ?_
    refine zw_aload_n dX1_sumOver_7 rfl ?_
    refine zw_get dX1_sumOver_8 fX1_14 h.1 rfl ?_
    refine zw_cV0 dX1_sumOver_11 oX6_size kX6_size lX1_81 h.2.1.1 rfl (Nat.le_of_ble_eq_true rfl) rfl (t_size h.2.1 ?_)
    show Zw _ _ _ 14 [_, _, _, _, _] [_, _] _ _
    refine zw_icmp_ge 46 dX1_sumOver_14 (by decide) (fun _ => ?_) (fun hz => absurd (nI_le (by omega) (by omega)) hz)
    refine zw_iload_n dX1_sumOver_46 rfl ?_
    refine zw_ireturn .int dX1_sumOver_47 rfl rfl (Nat.le_refl _) (Nat.le_refl _) ?_
    exact kk
  | succ k ih =>
    intro i a hi kk
    unfold sumF at kk
    refine zw_iload dX1_sumOver_5 rfl ?_
    refine zw_aload_n dX1_sumOver_7 rfl ?_
    refine zw_get dX1_sumOver_8 fX1_14 h.1 rfl ?_
    refine zw_cV0 dX1_sumOver_11 oX6_size kX6_size lX1_81 h.2.1.1 rfl (Nat.le_of_ble_eq_true rfl) rfl (t_size h.2.1 ?_)
    show Zw _ _ _ 14 [_, _, _, _, _] [_, _] _ _
    refine zw_icmp_ge 46 dX1_sumOver_14 (by decide) (fun hz => absurd hz (nI_ge (by omega) (by omega))) (fun _ => ?_)
    refine zw_iload_n dX1_sumOver_17 rfl ?_
    refine zw_iload dX1_sumOver_18 rfl ?_
    refine zw_ishr dX1_sumOver_20 ?_
    refine zw_iconst dX1_sumOver_21 1 (by decide) ?_
    refine zw_iand dX1_sumOver_22 ?_
    refine zw_top (bit_t s hs i (by omega)) ?_
    refine zw_iconst dX1_sumOver_23 1 (by decide) ?_
    refine zw_icmp_ne 40 dX1_sumOver_24 (by decide) (fun hf => ?_) (fun hf => ?_)
    · refine zw_iinc (nI (i + 1)) [_, _, _, _, _] dX1_sumOver_40 rfl (nI_1 i) rfl ?_
      refine zw_goto 5 dX1_sumOver_43 (by decide) ?_
      refine ih (i + 1) a (by omega) ?_
      rwa [if_neg (fun z => hf (if_pos z))] at kk
    · refine zw_iload_n dX1_sumOver_27 rfl ?_
      refine zw_aload_n dX1_sumOver_28 rfl ?_
      refine zw_get dX1_sumOver_29 fX1_14 h.1 rfl ?_
      refine zw_iload dX1_sumOver_32 rfl ?_
      refine zw_iload_n dX1_sumOver_34 rfl ?_
      refine zw_cV2 dX1_sumOver_35 oX6_at kX6_at lX1_74 h.2.1.1 rfl (Nat.le_of_ble_eq_true rfl) rfl (t_at h.2.1 (by omega) hc ?_)
      show Zw _ _ _ 38 [_, _, _, _, _] [_, _] _ _
      refine zw_iadd dX1_sumOver_38 ?_
      refine zw_istore_n [_, _, _, _, _] dX1_sumOver_39 (Nat.le_of_ble_eq_true rfl) rfl ?_
      refine zw_iinc (nI (i + 1)) [_, _, _, _, _] dX1_sumOver_40 rfl (nI_1 i) rfl ?_
      refine zw_goto 5 dX1_sumOver_43 (by decide) ?_
      refine ih (i + 1) _ (by omega) ?_
      rwa [if_pos (by by_cases z : s.testBit i = true; exact z; rw [if_neg z] at hf; exact absurd hf (by decide))] at kk
theorem c_sumOver {s c : Nat} (h : isC w p C) (hs : s < 128) (hc : c < 5) (k : Q (some (.int (sumF (C 0).2 s c 0 (C 0).1 0))) w) : Zm (d + 2) mX1_sumOver 0 0 [.ref p, .int (nI s), .int (nI c)] w Q := by
  refine zm_intro [_, _, _, _, _] oX1_sumOver (Nat.le_of_ble_eq_true rfl) rfl ?_
  refine zw_iconst dX1_sumOver_0 0 (by decide) ?_
  refine zw_istore_n [_, _, _, _, _] dX1_sumOver_1 (Nat.le_of_ble_eq_true rfl) rfl ?_
  refine zw_iconst dX1_sumOver_2 0 (by decide) ?_
  refine zw_istore [_, _, _, _, _] dX1_sumOver_3 (Nat.le_of_ble_eq_true rfl) rfl ?_
  exact c_sumOverL h hs hc (C 0).1 0 _ (by omega) k
theorem c_holderL {m : Nat} {l : Int32} (h : isC w p C) (hm : m ≤ (C 3).1) : ∀ (k i : Nat) (a : Int32), i + k = m → Q (some (.int (hold (C 3).2 l i k a))) w → Zw (d + 2) mX1_holderAfter z0 5 [some (.ref p), some (.int (nI m)), some (.int l), some (.int a), some (.int (nI i))] [] w Q := by
  have hb1 := h.2.2.2.2.1.2.2.1
  intro k
  induction k with
  | zero =>
    intro i a hi kk
    refine zw_iload dX1_holderAfter_5 rfl ?_
    refine zw_iload_n dX1_holderAfter_7 rfl ?_
    refine zw_icmp_ge 68 dX1_holderAfter_8 (by decide) (fun _ => ?_) (fun hz => absurd (nI_le (by omega) (by omega)) hz)
    refine zw_iload_n dX1_holderAfter_68 rfl ?_
    refine zw_ireturn .int dX1_holderAfter_69 rfl rfl (Nat.le_refl _) (Nat.le_refl _) ?_
    exact kk
  | succ k ih =>
    intro i a hi kk
    unfold hold at kk
    refine zw_iload dX1_holderAfter_5 rfl ?_
    refine zw_iload_n dX1_holderAfter_7 rfl ?_
    refine zw_icmp_ge 68 dX1_holderAfter_8 (by decide) (fun hz => absurd hz (nI_ge (by omega) (by omega))) (fun _ => ?_)
    refine zw_iload dX1_holderAfter_11 rfl ?_
    refine zw_aload_n dX1_holderAfter_13 rfl ?_
    refine zw_get dX1_holderAfter_14 fX1_26 h.1 rfl ?_
    refine zw_cV0 dX1_holderAfter_17 oX6_size kX6_size lX1_81 h.2.2.2.2.1.1 rfl (Nat.le_of_ble_eq_true rfl) rfl (t_size h.2.2.2.2.1 ?_)
    show Zw _ _ _ 20 [_, _, _, _, _] [_, _] _ _
    refine zw_icmp_ge 68 dX1_holderAfter_20 (by decide) (fun hz => absurd hz (nI_ge (by omega) (by omega))) (fun _ => ?_)
    refine zw_aload_n dX1_holderAfter_23 rfl ?_
    refine zw_get dX1_holderAfter_24 fX1_26 h.1 rfl ?_
    refine zw_iload dX1_holderAfter_27 rfl ?_
    refine zw_iconst dX1_holderAfter_29 1 (by decide) ?_
    refine zw_cV2 dX1_holderAfter_30 oX6_at kX6_at lX1_74 h.2.2.2.2.1.1 rfl (Nat.le_of_ble_eq_true rfl) rfl (t_at (c := 1) h.2.2.2.2.1 (by omega) (by decide) ?_)
    show Zw _ _ _ 33 [_, _, _, _, _] [_] _ _
    refine zw_iload_n dX1_holderAfter_33 rfl ?_
    refine zw_icmp_ne 62 dX1_holderAfter_34 (by decide) (fun h1 => ?_) (fun h1 => ?_)
    · refine zw_iinc (nI (i + 1)) [_, _, _, _, _] dX1_holderAfter_62 rfl (nI_1 i) rfl ?_
      refine zw_goto 5 dX1_holderAfter_65 (by decide) ?_
      refine ih (i + 1) a (by omega) ?_
      rwa [if_neg (fun z => h1 z.1)] at kk
    · refine zw_aload_n dX1_holderAfter_37 rfl ?_
      refine zw_get dX1_holderAfter_38 fX1_26 h.1 rfl ?_
      refine zw_iload dX1_holderAfter_41 rfl ?_
      refine zw_iconst dX1_holderAfter_43 0 (by decide) ?_
      refine zw_cV2 dX1_holderAfter_44 oX6_at kX6_at lX1_74 h.2.2.2.2.1.1 rfl (Nat.le_of_ble_eq_true rfl) rfl (t_at0 h.2.2.2.2.1 (by omega) ?_)
      show Zw _ _ _ 47 [_, _, _, _, _] [_] _ _
      refine zw_iload_n dX1_holderAfter_47 rfl ?_
      refine zw_icmp_ne 62 dX1_holderAfter_48 (by decide) (fun h2 => ?_) (fun h2 => ?_)
      · refine zw_iinc (nI (i + 1)) [_, _, _, _, _] dX1_holderAfter_62 rfl (nI_1 i) rfl ?_
        refine zw_goto 5 dX1_holderAfter_65 (by decide) ?_
        refine ih (i + 1) a (by omega) ?_
        rwa [if_neg (fun z => h2 z.2)] at kk
      · refine zw_aload_n dX1_holderAfter_51 rfl ?_
        refine zw_get dX1_holderAfter_52 fX1_26 h.1 rfl ?_
        refine zw_iload dX1_holderAfter_55 rfl ?_
        refine zw_iconst dX1_holderAfter_57 2 (by decide) ?_
        refine zw_cV2 dX1_holderAfter_58 oX6_at kX6_at lX1_74 h.2.2.2.2.1.1 rfl (Nat.le_of_ble_eq_true rfl) rfl (t_at (c := 2) h.2.2.2.2.1 (by omega) (by decide) ?_)
        show Zw _ _ _ 61 [_, _, _, _, _] [_] _ _
        refine zw_istore_n [_, _, _, _, _] dX1_holderAfter_61 (Nat.le_of_ble_eq_true rfl) rfl ?_
        refine zw_iinc (nI (i + 1)) [_, _, _, _, _] dX1_holderAfter_62 rfl (nI_1 i) rfl ?_
        refine zw_goto 5 dX1_holderAfter_65 (by decide) ?_
        refine ih (i + 1) _ (by omega) ?_
        rwa [if_pos ⟨h1, h2⟩] at kk
theorem c_holder {m : Nat} {l : Int32} (h : isC w p C) (hm : m ≤ (C 3).1) (k : Q (some (.int (hold (C 3).2 l 0 m 0))) w) : Zm (d + 2) mX1_holderAfter 0 0 [.ref p, .int (nI m), .int l] w Q := by
  refine zm_intro [_, _, _, _, _] oX1_holderAfter (Nat.le_of_ble_eq_true rfl) rfl ?_
  refine zw_iconst dX1_holderAfter_0 0 (by decide) ?_
  refine zw_istore_n [_, _, _, _, _] dX1_holderAfter_1 (Nat.le_of_ble_eq_true rfl) rfl ?_
  refine zw_iconst dX1_holderAfter_2 0 (by decide) ?_
  refine zw_istore [_, _, _, _, _] dX1_holderAfter_3 (Nat.le_of_ble_eq_true rfl) rfl ?_
  exact c_holderL h hm m 0 _ (by omega) k
def wrongF (f : Nat → Int32) (i : Nat) : Bool := !decide (hold f (f (i * 3 + 1)) 0 i 0 = f (i * 3))
theorem c_wrongL (h : isC w p C) : ∀ (k i : Nat), i + k = (C 3).1 → Q (some (.int (fnd (wrongF (C 3).2) i k))) w → Zw (d + 3) mX1_firstWrongTale z0 2 [some (.ref p), some (.int (nI i))] [] w Q := by
  have hb1 := h.2.2.2.2.1.2.2.1
  intro k
  induction k with
  | zero =>
    intro i hi kk
    refine zw_iload_n dX1_firstWrongTale_2 rfl ?_
    refine zw_aload_n dX1_firstWrongTale_3 rfl ?_
    refine zw_get dX1_firstWrongTale_4 fX1_26 h.1 rfl ?_
    refine zw_cV0 dX1_firstWrongTale_7 oX6_size kX6_size lX1_81 h.2.2.2.2.1.1 rfl (Nat.le_of_ble_eq_true rfl) rfl (t_size h.2.2.2.2.1 ?_)
    show Zw _ _ _ 10 [_, _] [_, _] _ _
    refine zw_icmp_ge 47 dX1_firstWrongTale_10 (by decide) (fun _ => ?_) (fun hz => absurd (nI_le (by omega) (by omega)) hz)
    refine zw_iconst dX1_firstWrongTale_47 (-1) (by decide) ?_
    refine zw_ireturn .int dX1_firstWrongTale_48 rfl rfl (Nat.le_refl _) (Nat.le_refl _) ?_
    exact kk
  | succ k ih =>
    intro i hi kk
    refine zw_iload_n dX1_firstWrongTale_2 rfl ?_
    refine zw_aload_n dX1_firstWrongTale_3 rfl ?_
    refine zw_get dX1_firstWrongTale_4 fX1_26 h.1 rfl ?_
    refine zw_cV0 dX1_firstWrongTale_7 oX6_size kX6_size lX1_81 h.2.2.2.2.1.1 rfl (Nat.le_of_ble_eq_true rfl) rfl (t_size h.2.2.2.2.1 ?_)
    show Zw _ _ _ 10 [_, _] [_, _] _ _
    refine zw_icmp_ge 47 dX1_firstWrongTale_10 (by decide) (fun hz => absurd hz (nI_ge (by omega) (by omega))) (fun _ => ?_)
    refine zw_aload_n dX1_firstWrongTale_13 rfl ?_
    refine zw_iload_n dX1_firstWrongTale_14 rfl ?_
    refine zw_aload_n dX1_firstWrongTale_15 rfl ?_
    refine zw_get dX1_firstWrongTale_16 fX1_26 h.1 rfl ?_
    refine zw_iload_n dX1_firstWrongTale_19 rfl ?_
    refine zw_iconst dX1_firstWrongTale_20 1 (by decide) ?_
    refine zw_cV2 dX1_firstWrongTale_21 oX6_at kX6_at lX1_74 h.2.2.2.2.1.1 rfl (Nat.le_of_ble_eq_true rfl) rfl (t_at (c := 1) h.2.2.2.2.1 (by omega) (by decide) ?_)
    show Zw _ _ _ 24 [_, _] [_, _, _] _ _
    refine zw_cV2 dX1_firstWrongTale_24 oX1_holderAfter kX1_holderAfter lX1_102 h.1 rfl (Nat.le_of_ble_eq_true rfl) rfl (c_holder h (by omega) ?_)
    show Zw _ _ _ 27 [_, _] [_] _ _
    refine zw_aload_n dX1_firstWrongTale_27 rfl ?_
    refine zw_get dX1_firstWrongTale_28 fX1_26 h.1 rfl ?_
    refine zw_iload_n dX1_firstWrongTale_31 rfl ?_
    refine zw_iconst dX1_firstWrongTale_32 0 (by decide) ?_
    refine zw_cV2 dX1_firstWrongTale_33 oX6_at kX6_at lX1_74 h.2.2.2.2.1.1 rfl (Nat.le_of_ble_eq_true rfl) rfl (t_at0 h.2.2.2.2.1 (by omega) ?_)
    show Zw _ _ _ 36 [_, _] [_, _] _ _
    refine zw_icmp_eq 41 dX1_firstWrongTale_36 (by decide) (fun hx => ?_) (fun hx => ?_)
    · refine zw_iinc (nI (i + 1)) [_, _] dX1_firstWrongTale_41 rfl (nI_1 i) rfl ?_
      refine zw_goto 2 dX1_firstWrongTale_44 (by decide) ?_
      refine ih (i + 1) (by omega) ?_
      simpa [fnd, wrongF, hx] using kk
    · refine zw_iload_n dX1_firstWrongTale_39 rfl ?_
      refine zw_ireturn .int dX1_firstWrongTale_40 rfl rfl (Nat.le_refl _) (Nat.le_refl _) ?_
      simpa [fnd, wrongF, hx] using kk
theorem c_wrong (h : isC w p C) (k : Q (some (.int (fnd (wrongF (C 3).2) 0 (C 3).1))) w) : Zm (d + 3) mX1_firstWrongTale 0 0 [.ref p] w Q := by
  refine zm_intro [_, _] oX1_firstWrongTale (Nat.le_of_ble_eq_true rfl) rfl ?_
  refine zw_iconst dX1_firstWrongTale_0 0 (by decide) ?_
  refine zw_istore_n [_, _] dX1_firstWrongTale_1 (Nat.le_of_ble_eq_true rfl) rfl ?_
  exact c_wrongL h (C 3).1 0 (by omega) k
end ZCUPC
