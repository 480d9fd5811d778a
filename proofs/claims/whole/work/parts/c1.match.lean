/-! ===== pairs: what the Model's most is, what the class's best is ===== -/
/-- each row of S has a column of its own, one that it may have -/
def Asg (g : Nat → Nat) (S : Nat) (a : Nat → Nat) : Prop := (∀ i, i < 7 → S.testBit i = true → a i < 7 ∧ (g i).testBit (a i) = true) ∧ ∀ i j, i < 7 → j < 7 → S.testBit i = true → S.testBit j = true → a i = a j → i = j
theorem cR_iff {m s t : Nat} : ∀ (k c : Nat) (R : Nat → Bool), cR m s c k R t = true ↔ R t = true ∨ ∃ i, c ≤ i ∧ i < c + k ∧ (andn m s).testBit i = true ∧ t = s ||| 2 ^ i := by
  intro k
  induction k with
  | zero =>
    intro c R
    show R t = true ↔ _
    exact ⟨Or.inl, fun h => h.elim id (fun ⟨i, h1, h2, _⟩ => absurd h1 (by omega))⟩
  | succ k ih =>
    intro c R
    unfold cR
    rw [ih]
    by_cases hb : (andn m s).testBit c = true
    · rw [if_pos hb]
      unfold bup
      constructor
      · rintro (h | ⟨i, h1, h2, h3⟩)
        · rcases Bool.or_eq_true_iff.mp h with h | h
          · exact Or.inr ⟨c, by omega, by omega, hb, of_decide_eq_true h⟩
          · exact Or.inl h
        · exact Or.inr ⟨i, by omega, by omega, h3⟩
      · rintro (h | ⟨i, h1, h2, h3, h4⟩)
        · exact Or.inl (by rw [h, Bool.or_true])
        · by_cases e : i = c
          · subst e
            exact Or.inl (by rw [decide_eq_true h4, Bool.true_or])
          · exact Or.inr ⟨i, by omega, by omega, h3, h4⟩
    · rw [if_neg hb]
      constructor
      · rintro (h | ⟨i, h1, h2, h3⟩)
        · exact Or.inl h
        · exact Or.inr ⟨i, by omega, by omega, h3⟩
      · rintro (h | ⟨i, h1, h2, h3, h4⟩)
        · exact Or.inl h
        · by_cases e : i = c
          · subst e; exact absurd h3 hb
          · exact Or.inr ⟨i, by omega, by omega, h3, h4⟩
theorem sR_iff {m t : Nat} : ∀ (k : Nat) (R : Nat → Bool), sR m k R t = true ↔ R t = true ∨ ∃ j, j < k ∧ R j = true ∧ ∃ c, c < 7 ∧ (andn m j).testBit c = true ∧ t = j ||| 2 ^ c := by
  intro k
  induction k with
  | zero =>
    intro R
    show R t = true ↔ _
    exact ⟨Or.inl, fun h => h.elim id (fun ⟨i, h1, _⟩ => absurd h1 (by omega))⟩
  | succ k ih =>
    intro R
    unfold sR
    rw [ih]
    by_cases hk : R k = true
    · rw [if_pos hk]
      have low : ∀ j, j < k → (cR m k 0 7 R j = true ↔ R j = true) := by
        intro j hj
        rw [cR_iff]
        constructor
        · rintro (h | ⟨i, _, _, _, h⟩)
          · exact h
          · have := Nat.left_le_or (n := k) (m := 2 ^ i)
            omega
        · exact Or.inl
      constructor
      · rintro (h | ⟨j, h1, h2, h3⟩)
        · rcases (cR_iff 7 0 R).mp h with h | ⟨i, _, h1, h2, h3⟩
          · exact Or.inl h
          · exact Or.inr ⟨k, by omega, hk, i, by omega, h2, h3⟩
        · exact Or.inr ⟨j, by omega, (low j h1).mp h2, h3⟩
      · rintro (h | ⟨j, h1, h2, c, h3, h4, h5⟩)
        · exact Or.inl ((cR_iff 7 0 R).mpr (Or.inl h))
        · by_cases e : j = k
          · subst e
            exact Or.inl ((cR_iff 7 0 R).mpr (Or.inr ⟨c, by omega, by omega, h4, h5⟩))
          · exact Or.inr ⟨j, by omega, (low j (by omega)).mpr h2, c, h3, h4, h5⟩
    · rw [if_neg hk]
      constructor
      · rintro (h | ⟨j, h1, h2, h3⟩)
        · exact Or.inl h
        · exact Or.inr ⟨j, by omega, h2, h3⟩
      · rintro (h | ⟨j, h1, h2, h3⟩)
        · exact Or.inl h
        · by_cases e : j = k
          · subst e; exact absurd h2 hk
          · exact Or.inr ⟨j, by omega, h2, h3⟩
theorem tb_or {S r i : Nat} : (S ||| 2 ^ r).testBit i = (S.testBit i || decide (r = i)) := by rw [Nat.testBit_or, Nat.testBit_two_pow]
/-- what is used up -/
def imgF (S : Nat) (a : Nat → Nat) (r : Nat) : Nat := match r with
  | 0 => 0
  | r + 1 => if S.testBit r = true then imgF S a r ||| 2 ^ a r else imgF S a r
theorem imgF_bit {S c : Nat} {a : Nat → Nat} : ∀ r, (imgF S a r).testBit c = true ↔ ∃ i, i < r ∧ S.testBit i = true ∧ a i = c := by
  intro r
  induction r with
  | zero => exact ⟨fun h => absurd h (by show ¬ (0 : Nat).testBit c = true; rw [Nat.zero_testBit]; decide), fun ⟨i, h, _⟩ => absurd h (by omega)⟩
  | succ r ih =>
    unfold imgF
    split
    · next h =>
      rw [tb_or, Bool.or_eq_true_iff, ih, decide_eq_true_iff]
      constructor
      · rintro (⟨i, h1, h2⟩ | h1)
        · exact ⟨i, by omega, h2⟩
        · exact ⟨r, by omega, h, h1⟩
      · rintro ⟨i, h1, h2, h3⟩
        by_cases e : i = r
        · subst e; exact Or.inr h3
        · exact Or.inl ⟨i, by omega, h2, h3⟩
    · next h =>
      rw [ih]
      constructor
      · rintro ⟨i, h1, h2⟩
        exact ⟨i, by omega, h2⟩
      · rintro ⟨i, h1, h2, h3⟩
        by_cases e : i = r
        · subst e; exact absurd h2 h
        · exact ⟨i, by omega, h2, h3⟩
theorem imgF_lt {S : Nat} {a : Nat → Nat} : ∀ r, (∀ i, i < r → S.testBit i = true → a i < 7) → imgF S a r < 128 := by
  intro r
  induction r with
  | zero => intro _; show 0 < 128; decide
  | succ r ih =>
    intro h
    unfold imgF
    have := ih (fun i hi => h i (by omega))
    split
    · next hr => exact orb_lt (c := 7) this (h r (by omega) hr)
    · exact this
/-- how many rows of S there are ahead of r -/
def nB (S r : Nat) : Nat := match r with
  | 0 => 0
  | r + 1 => nB S r + if S.testBit r = true then 1 else 0
theorem nB_pop : ∀ S, S < 128 → nB S 7 = pop7 S := by decide +kernel
theorem imgF_pop {S : Nat} {a : Nat → Nat} : ∀ r, (∀ i, i < r → S.testBit i = true → a i < 7) → (∀ i j, i < r → j < r → S.testBit i = true → S.testBit j = true → a i = a j → i = j) → pop7 (imgF S a r) = nB S r := by
  intro r
  induction r with
  | zero => intro _ _; show pop7 0 = 0; decide
  | succ r ih =>
    intro h1 h2
    have i1 := ih (fun i hi => h1 i (by omega)) (fun i j hi hj => h2 i j (by omega) (by omega))
    have i2 := imgF_lt (S := S) (a := a) r (fun i hi => h1 i (by omega))
    unfold imgF nB
    split
    · next hr =>
      rw [pop_up _ i2 _ (h1 r (by omega) hr), i1]
      cases hb : (imgF S a r).testBit (a r) with
      | false => rfl
      | true =>
        obtain ⟨i, g1, g2, g3⟩ := (imgF_bit r).mp hb
        have := h2 i r (by omega) (by omega) g2 hr g3
        omega
    · exact i1
/-- every way of using up columns is found -/
theorem rR_cmp {g : Nat → Nat} {cols rows S : Nat} {a : Nat → Nat} (hS : ∀ i, i < 7 → S.testBit i = true → rows.testBit i = true) (hA : Asg (fun i => g i &&& cols) S a) (hg : ∀ i, i < 7 → g i < 128) : ∀ (k r : Nat) (R : Nat → Bool), r + k = 7 → R (imgF S a r) = true → rR g cols rows r k R (imgF S a 7) = true := by
  intro k
  induction k with
  | zero =>
    intro r R hr h
    have : r = 7 := by omega
    subst this
    exact h
  | succ k ih =>
    intro r R hr h
    unfold rR
    have hl := imgF_lt (S := S) (a := a) r (fun i hi hs => (hA.1 i (by omega) hs).1)
    refine ih (r + 1) _ (by omega) ?_
    show (if rows.testBit r = true then sR (g r &&& cols) 128 R else R) (if S.testBit r = true then imgF S a r ||| 2 ^ a r else imgF S a r) = true
    by_cases hs : S.testBit r = true
    · rw [if_pos hs, if_pos (hS r (by omega) hs), sR_iff]
      obtain ⟨a1, a2⟩ := hA.1 r (by omega) hs
      refine Or.inr ⟨imgF S a r, hl, h, a r, a1, ?_, rfl⟩
      rw [andn_bit _ (and_lt (hg r (by omega))) _ hl _ a1, a2]
      cases hb : (imgF S a r).testBit (a r) with
      | false => rfl
      | true =>
        obtain ⟨i, g1, g2, g3⟩ := (imgF_bit r).mp hb
        have := hA.2 i r (by omega) (by omega) g2 hs g3
        omega
    · rw [if_neg hs]
      by_cases hr' : rows.testBit r = true
      · rw [if_pos hr', sR_iff]; exact Or.inl h
      · rw [if_neg hr']; exact h
/-- what is found is a way -/
def isWay (g : Nat → Nat) (cols rows r t : Nat) : Prop := ∃ S a, S < 2 ^ r ∧ (∀ i, i < 7 → S.testBit i = true → rows.testBit i = true) ∧ Asg (fun i => g i &&& cols) S a ∧ (∀ i, i < 7 → S.testBit i = true → t.testBit (a i) = true) ∧ pop7 t = pop7 S
theorem tb_lt {S r i : Nat} (h : S < 2 ^ r) (hi : r ≤ i) : S.testBit i = false := Nat.testBit_lt_two_pow (Nat.lt_of_lt_of_le h (Nat.pow_le_pow_right (by decide) hi))
theorem rR_snd {g : Nat → Nat} {cols rows : Nat} (hg : ∀ i, i < 7 → g i < 128) : ∀ (k r : Nat) (R : Nat → Bool), r + k = 7 → (∀ t, t < 128 → R t = true → isWay g cols rows r t) → ∀ t, t < 128 → rR g cols rows r k R t = true → isWay g cols rows 7 t := by
  intro k
  induction k with
  | zero =>
    intro r R hr h t ht hR
    have : r = 7 := by omega
    subst this
    exact h t ht hR
  | succ k ih =>
    intro r R hr h t ht hR
    unfold rR at hR
    have keep : ∀ t, t < 128 → R t = true → isWay g cols rows (r + 1) t := by
      intro t ht hR
      obtain ⟨S, a, h1, h2⟩ := h t ht hR
      exact ⟨S, a, Nat.lt_of_lt_of_le h1 (Nat.pow_le_pow_right (by decide) (by omega)), h2⟩
    refine ih (r + 1) _ (by omega) (fun t ht hR => ?_) t ht hR
    by_cases hr' : rows.testBit r = true
    · rw [if_pos hr', sR_iff] at hR
      rcases hR with hR | ⟨j, hj, hRj, c, hc, hb, rfl⟩
      · exact keep t ht hR
      · obtain ⟨S, a, h1, h2, ⟨h3, h3'⟩, h4, h5⟩ := h j hj hRj
        rw [andn_bit _ (and_lt (hg r (by omega))) _ hj _ hc] at hb
        obtain ⟨hb1, hb2⟩ := Bool.and_eq_true_iff.mp hb
        have hb2 : j.testBit c = false := by simpa using hb2
        have hS7 : S < 128 := Nat.lt_of_lt_of_le h1 (Nat.pow_le_pow_right (n := 2) (by decide) (show r ≤ 7 by omega))
        have hSr : S.testBit r = false := tb_lt h1 (Nat.le_refl _)
        have sp : ∀ i, (S ||| 2 ^ r).testBit i = true → i = r ∨ (i ≠ r ∧ S.testBit i = true) := by
          intro i hi
          rw [tb_or] at hi
          by_cases e : i = r
          · exact Or.inl e
          · rcases Bool.or_eq_true_iff.mp hi with hi | hi
            · exact Or.inr ⟨e, hi⟩
            · exact absurd (of_decide_eq_true hi).symm e
        refine ⟨S ||| 2 ^ r, fun i => if i = r then c else a i, ?_, ?_, ⟨?_, ?_⟩, ?_, ?_⟩
        · exact Nat.or_lt_two_pow (Nat.lt_of_lt_of_le h1 (Nat.pow_le_pow_right (by decide) (by omega))) (Nat.pow_lt_pow_right (by decide) (by omega))
        · intro i hi hs
          rcases sp i hs with rfl | ⟨_, hs⟩
          · exact hr'
          · exact h2 i hi hs
        · intro i hi hs
          show (if i = r then c else a i) < 7 ∧ (g i &&& cols).testBit (if i = r then c else a i) = true
          rcases sp i hs with e | ⟨e, hs⟩
          · rw [if_pos e, e]; exact ⟨hc, hb1⟩
          · rw [if_neg e]; exact h3 i hi hs
        · intro i i' hi hi' hs hs' he
          have he : (if i = r then c else a i) = (if i' = r then c else a i') := he
          rcases sp i hs with e | ⟨e, hs⟩
          · rcases sp i' hs' with e' | ⟨e', hs'⟩
            · rw [e, e']
            · rw [if_pos e, if_neg e'] at he
              have := h4 i' hi' hs'
              rw [← he, hb2] at this
              exact absurd this (by decide)
          · rcases sp i' hs' with e' | ⟨e', hs'⟩
            · rw [if_neg e, if_pos e'] at he
              have := h4 i hi hs
              rw [he, hb2] at this
              exact absurd this (by decide)
            · rw [if_neg e, if_neg e'] at he
              exact h3' i i' hi hi' hs hs' he
        · intro i hi hs
          show (j ||| 2 ^ c).testBit (if i = r then c else a i) = true
          rcases sp i hs with e | ⟨e, hs⟩
          · rw [if_pos e, tb_or, decide_eq_true rfl, Bool.or_true]
          · rw [if_neg e, tb_or, h4 i hi hs, Bool.true_or]
        · rw [pop_up _ hj _ hc hb2, pop_up _ hS7 _ (by omega) hSr, h5]
    · rw [if_neg hr'] at hR
      exact keep t ht hR
theorem maxR_ub {R : Nat → Bool} : ∀ (k i m : Nat), m ≤ maxR R i k m ∧ ∀ t, i ≤ t → t < i + k → R t = true → pop7 t ≤ maxR R i k m := by
  intro k
  induction k with
  | zero => intro i m; exact ⟨Nat.le_refl _, fun t h1 h2 => absurd h1 (by omega)⟩
  | succ k ih =>
    intro i m
    unfold maxR
    obtain ⟨h1, h2⟩ := ih (i + 1) (if R i = true ∧ m < pop7 i then pop7 i else m)
    constructor
    · refine Nat.le_trans ?_ h1
      split <;> omega
    · intro t g1 g2 g3
      by_cases e : t = i
      · subst e
        refine Nat.le_trans ?_ h1
        split
        · exact Nat.le_refl _
        · next h => have : ¬ m < pop7 t := fun z => h ⟨g3, z⟩; omega
      · exact h2 t (by omega) (by omega) g3
theorem maxR_at {R : Nat → Bool} : ∀ (k i m : Nat), maxR R i k m = m ∨ ∃ t, i ≤ t ∧ t < i + k ∧ R t = true ∧ maxR R i k m = pop7 t := by
  intro k
  induction k with
  | zero => intro i m; exact Or.inl rfl
  | succ k ih =>
    intro i m
    unfold maxR
    rcases ih (i + 1) (if R i = true ∧ m < pop7 i then pop7 i else m) with h | ⟨t, h1, h2, h3⟩
    · by_cases e : R i = true ∧ m < pop7 i
      · exact Or.inr ⟨i, by omega, by omega, e.1, by rw [h, if_pos e]⟩
      · exact Or.inl (by rw [h, if_neg e])
    · exact Or.inr ⟨t, by omega, by omega, h3⟩
/-- no way has more pairs -/
theorem mostN_ub {g : Nat → Nat} {rows cols S : Nat} {a : Nat → Nat} (hS7 : S < 128) (hS : ∀ i, i < 7 → S.testBit i = true → rows.testBit i = true) (hA : Asg (fun i => g i &&& cols) S a) (hg : ∀ i, i < 7 → g i < 128) : pop7 S ≤ mostN g rows cols := by
  have h1 := rR_cmp hS hA hg 7 0 (fun s => decide (s = 0)) (by decide) (by show decide ((0 : Nat) = 0) = true; decide)
  have h2 := imgF_pop (S := S) (a := a) 7 (fun i hi hs => (hA.1 i hi hs).1) (fun i j hi hj => hA.2 i j hi hj)
  have h3 := imgF_lt (S := S) (a := a) 7 (fun i hi hs => (hA.1 i hi hs).1)
  rw [← nB_pop S hS7, ← h2]
  exact (maxR_ub 128 0 0).2 _ (by omega) (by omega) h1
theorem Asg_0 {g : Nat → Nat} : Asg g 0 (fun _ => 0) := ⟨fun i _ h => absurd h (by rw [Nat.zero_testBit]; decide), fun i j _ _ h => absurd h (by rw [Nat.zero_testBit]; decide)⟩
/-- there is a way that has as many -/
theorem mostN_at {g : Nat → Nat} {rows cols : Nat} (hg : ∀ i, i < 7 → g i < 128) : ∃ S a, S < 128 ∧ (∀ i, i < 7 → S.testBit i = true → rows.testBit i = true) ∧ Asg (fun i => g i &&& cols) S a ∧ pop7 S = mostN g rows cols := by
  have h0 : ∀ t, t < 128 → decide (t = 0) = true → isWay g cols rows 0 t := by
    intro t _ h
    have e : t = 0 := of_decide_eq_true h
    subst e
    exact ⟨0, fun _ => 0, by decide, fun i _ h => absurd h (by rw [Nat.zero_testBit]; decide), Asg_0, fun i _ h => absurd h (by rw [Nat.zero_testBit]; decide), rfl⟩
  rcases maxR_at (R := rR g cols rows 0 7 (fun s => decide (s = 0))) 128 0 0 with h | ⟨t, _, h2, h3, h4⟩
  · exact ⟨0, fun _ => 0, by decide, fun i _ h => absurd h (by rw [Nat.zero_testBit]; decide), Asg_0, by unfold mostN; rw [h]; decide⟩
  · obtain ⟨S, a, g1, g2, g3, _, g5⟩ := rR_snd hg 7 0 _ (by decide) h0 t (by omega) h3
    exact ⟨S, a, g1, g2, g3, by unfold mostN; rw [h4, g5]⟩
