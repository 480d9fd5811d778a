/-! ===== buy: the mathematics ===== -/
theorem bR_iff {fit : Nat → Bool} {s t : Nat} : ∀ (k c : Nat) (R : Nat → Bool), bR fit s c k R t = true ↔ R t = true ∨ ∃ i, c ≤ i ∧ i < c + k ∧ (!s.testBit i && fit i) = true ∧ t = s ||| 2 ^ i := by
  intro k
  induction k with
  | zero =>
    intro c R
    show R t = true ↔ _
    exact ⟨Or.inl, fun h => h.elim id (fun ⟨i, h1, h2, _⟩ => absurd h1 (by omega))⟩
  | succ k ih =>
    intro c R
    unfold bR
    rw [ih]
    by_cases hb : (!s.testBit c && fit c) = true
    · rw [if_pos hb]
      unfold bup
      constructor
      · rintro (h | ⟨i, h1, h2, h3⟩)
        · rcases Bool.or_eq_true_iff.mp h with h | h
          · exact Or.inr ⟨c, by omega, by omega, hb, of_decide_eq_true h⟩
          · exact Or.inl h
        · exact Or.inr ⟨i, by omega, by omega, h3⟩
      · rintro (h | ⟨i, h1, h2, h3, h4⟩)
        · exact Or.inl (by rw [h, Bool.or_true])
        · by_cases e : i = c
          · subst e
            exact Or.inl (by rw [decide_eq_true h4, Bool.true_or])
          · exact Or.inr ⟨i, by omega, by omega, h3, h4⟩
    · rw [if_neg hb]
      constructor
      · rintro (h | ⟨i, h1, h2, h3⟩)
        · exact Or.inl h
        · exact Or.inr ⟨i, by omega, by omega, h3⟩
      · rintro (h | ⟨i, h1, h2, h3, h4⟩)
        · exact Or.inl h
        · by_cases e : i = c
          · subst e; exact absurd h3 hb
          · exact Or.inr ⟨i, by omega, by omega, h3, h4⟩
theorem obR_iff {fit : Nat → Bool} {n t : Nat} : ∀ (k : Nat) (R : Nat → Bool), obR fit n k R t = true ↔ R t = true ∨ ∃ j, j < k ∧ R j = true ∧ ∃ c, c < n ∧ (!j.testBit c && fit c) = true ∧ t = j ||| 2 ^ c := by
  intro k
  induction k with
  | zero =>
    intro R
    show R t = true ↔ _
    exact ⟨Or.inl, fun h => h.elim id (fun ⟨i, h1, _⟩ => absurd h1 (by omega))⟩
  | succ k ih =>
    intro R
    unfold obR
    rw [ih]
    by_cases hk : R k = true
    · rw [if_pos hk]
      have low : ∀ j, j < k → (bR fit k 0 n R j = true ↔ R j = true) := by
        intro j hj
        rw [bR_iff]
        constructor
        · rintro (h | ⟨i, _, _, _, h⟩)
          · exact h
          · have := Nat.left_le_or (n := k) (m := 2 ^ i)
            omega
        · exact Or.inl
      constructor
      · rintro (h | ⟨j, h1, h2, h3⟩)
        · rcases (bR_iff n 0 R).mp h with h | ⟨i, _, h1, h2, h3⟩
          · exact Or.inl h
          · exact Or.inr ⟨k, by omega, hk, i, by omega, h2, h3⟩
        · exact Or.inr ⟨j, by omega, (low j h1).mp h2, h3⟩
      · rintro (h | ⟨j, h1, h2, c, h3, h4, h5⟩)
        · exact Or.inl ((bR_iff n 0 R).mpr (Or.inl h))
        · by_cases e : j = k
          · subst e
            exact Or.inl ((bR_iff n 0 R).mpr (Or.inr ⟨c, by omega, by omega, h4, h5⟩))
          · exact Or.inr ⟨j, by omega, (low j (by omega)).mpr h2, c, h3, h4, h5⟩
    · rw [if_neg hk]
      constructor
      · rintro (h | ⟨j, h1, h2, h3⟩)
        · exact Or.inl h
        · exact Or.inr ⟨j, by omega, h2, h3⟩
      · rintro (h | ⟨j, h1, h2, h3⟩)
        · exact Or.inl h
        · by_cases e : j = k
          · subst e; exact absurd h2 hk
          · exact Or.inr ⟨j, by omega, h2, h3⟩
/-- what a code is worth, by its digits -/
def qs (q : Nat → Nat) (k v : Nat) : Nat := match k with
  | 0 => 0
  | k + 1 => v % 8 * q k + qs q k (v / 8)
section ZBUY
variable {n s : Nat} {c : Nat → Nat}
theorem ob_A {fit : Nat → Bool} {q M : Nat} {R : Nat → Bool} (hn : n ≤ 7) (hc : ∀ b, b < n → fit b = true → c b ≤ q) (h : ∀ T, R T = true → T < 2 ^ n ∧ wS c T 7 ≤ M) : ∀ T, obR fit n 128 R T = true → T < 2 ^ n ∧ wS c T 7 ≤ M + q := by
  intro T hT
  rcases (obR_iff 128 R).mp hT with hT | ⟨j, hj, hR, b, hb, hf, rfl⟩
  · have := h T hT
    exact ⟨this.1, by omega⟩
  · obtain ⟨h1, h2⟩ := h j hR
    rw [Bool.and_eq_true_iff] at hf
    have jb : j.testBit b = false := by simpa using hf.1
    have hcb := hc b hb hf.2
    refine ⟨Nat.or_lt_two_pow h1 (Nat.pow_lt_pow_right (by decide) hb), ?_⟩
    rw [wS_add (S := j ||| 2 ^ b) jb (by rw [tb_or, decide_eq_true rfl, Bool.or_true]) (fun i hi => by rw [tb_or, decide_eq_false (fun e => hi e.symm), Bool.or_false]) 7, if_pos (by omega)]
    omega
theorem it_A {fit : Nat → Bool} {q : Nat} (hn : n ≤ 7) (hc : ∀ b, b < n → fit b = true → c b ≤ q) : ∀ (k M : Nat) (R : Nat → Bool), (∀ T, R T = true → T < 2 ^ n ∧ wS c T 7 ≤ M) → ∀ T, itB fit n k R T = true → T < 2 ^ n ∧ wS c T 7 ≤ M + k * q := by
  intro k
  induction k with
  | zero => intro M R h T hT; have := h T hT; exact ⟨this.1, by omega⟩
  | succ k ih =>
    intro M R h T hT
    unfold itB at hT
    have := ih (M + q) _ (ob_A hn hc h) T hT
    refine ⟨this.1, Nat.le_trans this.2 ?_⟩
    rw [Nat.succ_mul]
    omega
theorem en_A {fit : Nat → Nat → Bool} {q : Nat → Nat} (hn : n ≤ 7) (hc : ∀ k, k < s → ∀ b, b < n → fit k b = true → c b ≤ q k) : ∀ (k v M : Nat) (R : Nat → Bool), okE s k v → (∀ T, R T = true → T < 2 ^ n ∧ wS c T 7 ≤ M) → ∀ T, enR fit n k v R T = true → T < 2 ^ n ∧ wS c T 7 ≤ M + qs q k v := by
  intro k
  induction k with
  | zero => intro v M R _ h T hT; have := h T hT; exact ⟨this.1, by omega⟩
  | succ k ih =>
    intro v M R ho h T hT
    unfold enR at hT
    obtain ⟨ho1, ho2⟩ := ho
    have hM : ∀ T, itB (fit k) n (v % 8) R T = true → T < 2 ^ n ∧ wS c T 7 ≤ M + v % 8 * q k := by
      rcases ho1 with hk | hz
      · exact it_A hn (hc k hk) (v % 8) M R h
      · intro T hT
        rw [hz] at hT
        have := h T hT
        exact ⟨this.1, by omega⟩
    have := ih (v / 8) (M + v % 8 * q k) _ ho2 hM T hT
    refine ⟨this.1, ?_⟩
    unfold qs
    omega
theorem wS_dis {f : Nat → Nat} {X Y Z : Nat} : ∀ r, (∀ i, i < r → X.testBit i = (Y.testBit i || Z.testBit i) ∧ ¬ (Y.testBit i = true ∧ Z.testBit i = true)) → wS f X r = wS f Y r + wS f Z r := by
  intro r
  induction r with
  | zero => intro _; rfl
  | succ r ih =>
    intro h
    unfold wS
    obtain ⟨h1, h2⟩ := h r (by omega)
    rw [ih (fun i hi => h i (by omega)), h1]
    cases hy : Y.testBit r <;> cases hz : Z.testBit r
    · simp
    · simp; omega
    · simp; omega
    · exact absurd ⟨hy, hz⟩ h2
theorem wS_mul {f g : Nat → Nat} {X a : Nat} : ∀ r, (∀ i, i < r → X.testBit i = true → f i = a * g i) → wS f X r = a * wS g X r := by
  intro r
  induction r with
  | zero => intro _; rfl
  | succ r ih =>
    intro h
    unfold wS
    rw [ih (fun i hi => h i (by omega)), Nat.mul_add]
    by_cases e : X.testBit r = true
    · rw [if_pos e, if_pos e, h r (by omega) e]
    · rw [if_neg e, if_neg e]; rfl
theorem wS_k {f : Nat → Nat} {X a : Nat} : ∀ r, (∀ i, i < r → X.testBit i = true → f i = a) → wS f X r = nB X r * a := by
  intro r
  induction r with
  | zero => intro _; exact (Nat.zero_mul _).symm
  | succ r ih =>
    intro h
    unfold wS nB
    rw [ih (fun i hi => h i (by omega)), Nat.add_mul]
    by_cases e : X.testBit r = true
    · rw [if_pos e, if_pos e, h r (by omega) e, Nat.one_mul]
    · rw [if_neg e, if_neg e, Nat.zero_mul]
theorem pop_rm1 : ∀ s, s < 128 → ∀ b, b < 7 → s.testBit b = true → pop7 (andn s (2 ^ b)) + 1 = pop7 s := by decide +kernel
theorem pop_le7 : ∀ s, s < 128 → pop7 s ≤ 7 := by decide +kernel
theorem it_B {fit : Nat → Bool} (hn : n ≤ 7) : ∀ (k S S1 : Nat) (R : Nat → Bool), S < 128 → S1 < 2 ^ n → (∀ i, i < 7 → S.testBit i = true → S1.testBit i = true) → R S = true → (∀ b, b < 7 → S1.testBit b = true → S.testBit b = false → fit b = true) → pop7 (andn S1 S) ≤ k → itB fit n k R S1 = true := by
  have pn := pow_c hn
  intro k
  induction k with
  | zero =>
    intro S S1 R hS hS1 hsub hR hf hp
    have h1 : S1 < 128 := by omega
    have hz := pop_0 _ (andn_lt h1) (Nat.le_zero.mp hp)
    have e : S1 = S := eq_of7 h1 hS (fun i hi => ⟨fun h => by
      have hb := andn_bit S1 h1 S hS i hi
      rw [hz, Nat.zero_testBit, h] at hb
      simpa using hb, hsub i hi⟩)
    rw [e]
    exact hR
  | succ k ih =>
    intro S S1 R hS hS1 hsub hR hf hp
    have h1 : S1 < 128 := by omega
    unfold itB
    by_cases hz : pop7 (andn S1 S) = 0
    · exact ih S S1 _ hS hS1 hsub ((obR_iff 128 R).mpr (Or.inl hR)) hf (by omega)
    · obtain ⟨b, hb, hbit⟩ := pop_bit _ (andn_lt (t := S) h1) (by omega)
      have hbb := hbit
      rw [andn_bit S1 h1 S hS b hb, Bool.and_eq_true_iff] at hbb
      have sb : S.testBit b = false := by simpa using hbb.2
      have bn : b < n := by
        refine Nat.lt_of_not_le (fun z => ?_)
        rw [tb_lt hS1 z] at hbb
        exact absurd hbb.1 (by decide)
      have h2 : S ||| 2 ^ b < 128 := Nat.or_lt_two_pow (n := 7) hS (pow_7 b hb)
      refine ih (S ||| 2 ^ b) S1 _ h2 hS1 (fun i hi h => ?_) ((obR_iff 128 R).mpr (Or.inr ⟨S, hS, hR, b, bn, by rw [sb, hf b hb hbb.1 sb]; rfl, rfl⟩)) (fun i hi h h' => ?_) ?_
      · rw [tb_or, Bool.or_eq_true_iff] at h
        rcases h with h | h
        · exact hsub i hi h
        · rw [← of_decide_eq_true h]; exact hbb.1
      · rw [tb_or, Bool.or_eq_false_iff] at h'
        exact hf i hi h h'.1
      · have e : andn S1 (S ||| 2 ^ b) = andn (andn S1 S) (2 ^ b) := eq_of7 (andn_lt h1) (andn_lt (andn_lt h1)) (fun i hi => by
          rw [andn_bit S1 h1 _ h2 i hi, andn_2 (andn_lt h1) hb, andn_bit S1 h1 S hS i hi, tb_or]
          cases S1.testBit i <;> cases S.testBit i <;> simp)
        rw [e]
        have := pop_rm1 _ (andn_lt (t := S) h1) b hb hbit
        omega
/-- the set of a word -/
def pmk (p : Nat → Bool) (r : Nat) : Nat := match r with
  | 0 => 0
  | r + 1 => if p r = true then pmk p r ||| 2 ^ r else pmk p r
theorem pmk_lt {p : Nat → Bool} : ∀ r, pmk p r < 2 ^ r := by
  intro r
  induction r with
  | zero => exact Nat.two_pow_pos 0
  | succ r ih =>
    unfold pmk
    have : pmk p r < 2 ^ (r + 1) := Nat.lt_of_lt_of_le ih (Nat.pow_le_pow_right (by decide) (by omega))
    split
    · exact Nat.or_lt_two_pow this (Nat.pow_lt_pow_right (by decide) (by omega))
    · exact this
theorem pmk_bit {p : Nat → Bool} {i : Nat} : ∀ r, (pmk p r).testBit i = (decide (i < r) && p i) := by
  intro r
  induction r with
  | zero => show (0 : Nat).testBit i = _; rw [Nat.zero_testBit, decide_eq_false (Nat.not_lt_zero i)]; rfl
  | succ r ih =>
    unfold pmk
    by_cases e : i = r
    · subst e
      rw [decide_eq_true (Nat.lt_succ_self i), Bool.true_and]
      split
      · next h => rw [tb_or, decide_eq_true rfl, Bool.or_true, h]
      · next h => rw [ih, decide_eq_false (Nat.lt_irrefl i), Bool.false_and]; simpa using h
    · have e2 : decide (i < r + 1) = decide (i < r) := decide_eq_decide.mpr (by omega)
      rw [e2]
      split
      · rw [tb_or, ih, decide_eq_false (p := r = i) (fun z => e z.symm), Bool.or_false]
      · exact ih
theorem en_B {fit : Nat → Nat → Bool} (hn : n ≤ 7) {σ : Nat → Nat} {T : Nat} (hT : T < 2 ^ n) : ∀ (k v S : Nat) (R : Nat → Bool), S < 128 → (∀ i, i < 7 → S.testBit i = true → T.testBit i = true) → R S = true → (∀ b, b < 7 → T.testBit b = true → S.testBit b = false → σ b < k ∧ fit (σ b) b = true) → v = wS (fun b => 8 ^ (k - 1 - σ b)) (andn T S) 7 → enR fit n k v R T = true ∧ ∀ f : Nat → Nat, qs f k v = wS (fun b => f (σ b)) (andn T S) 7 := by
  have pn := pow_c hn
  have hT7 : T < 128 := by omega
  intro k
  induction k with
  | zero =>
    intro v S R hS hsub hR hσ hv
    have e : andn T S = 0 := eq_of7 (andn_lt hT7) (by decide) (fun i hi => ⟨fun h => by
      rw [andn_bit T hT7 S hS i hi, Bool.and_eq_true_iff] at h
      exact absurd (hσ i hi h.1 (by simpa using h.2)).1 (Nat.not_lt_zero _), fun h => by rw [Nat.zero_testBit] at h; exact absurd h (by decide)⟩)
    have e2 : T = S := eq_of7 hT7 hS (fun i hi => ⟨fun h => by
      have hb := andn_bit T hT7 S hS i hi
      rw [e, Nat.zero_testBit, h] at hb
      simpa using hb, hsub i hi⟩)
    refine ⟨?_, fun f => ?_⟩
    · show R T = true
      rw [e2]; exact hR
    · rw [e, wS_0]; rfl
  | succ k ih =>
    intro v S R hS hsub hR hσ hv
    have hU : pmk (fun b => T.testBit b && !S.testBit b && decide (σ b = k)) 7 < 128 := pmk_lt 7
    have hUb : ∀ i, i < 7 → (pmk (fun b => T.testBit b && !S.testBit b && decide (σ b = k)) 7).testBit i = (T.testBit i && !S.testBit i && decide (σ i = k)) := fun i hi => by rw [pmk_bit, decide_eq_true hi, Bool.true_and]
    generalize pmk (fun b => T.testBit b && !S.testBit b && decide (σ b = k)) 7 = U at hU hUb
    have h1 : S ||| U < 128 := Nat.or_lt_two_pow (n := 7) hS hU
    have b1 : ∀ i, i < 7 → (S ||| U).testBit i = (S.testBit i || (T.testBit i && !S.testBit i && decide (σ i = k))) := fun i hi => by rw [Nat.testBit_or, hUb i hi]
    generalize S ||| U = S1 at h1 b1
    have sub1 : ∀ i, i < 7 → S1.testBit i = true → T.testBit i = true := fun i hi h => by
      rw [b1 i hi] at h
      rcases Bool.or_eq_true_iff.mp h with h | h
      · exact hsub i hi h
      · rw [Bool.and_eq_true_iff, Bool.and_eq_true_iff] at h; exact h.1.1
    have aS : ∀ i, i < 7 → (andn S1 S).testBit i = (T.testBit i && !S.testBit i && decide (σ i = k)) := fun i hi => by
      rw [andn_bit S1 h1 S hS i hi, b1 i hi]
      cases T.testBit i <;> cases S.testBit i <;> simp
    have aT : ∀ i, i < 7 → (andn T S1).testBit i = (T.testBit i && !S.testBit i && !decide (σ i = k)) := fun i hi => by
      rw [andn_bit T hT7 S1 h1 i hi, b1 i hi]
      cases T.testBit i <;> cases S.testBit i <;> simp
    have dis : ∀ i, i < 7 → (andn T S).testBit i = ((andn S1 S).testBit i || (andn T S1).testBit i) ∧ ¬ ((andn S1 S).testBit i = true ∧ (andn T S1).testBit i = true) := fun i hi => by
      rw [aS i hi, aT i hi, andn_bit T hT7 S hS i hi]
      cases T.testBit i <;> cases S.testBit i <;> cases decide (σ i = k) <;> simp
    have lt1 : ∀ i, i < 7 → (andn T S1).testBit i = true → σ i < k := fun i hi h => by
      rw [aT i hi, Bool.and_eq_true_iff, Bool.and_eq_true_iff] at h
      have h3 := (hσ i hi h.1.1 (by simpa using h.1.2)).1
      have h4 : ¬ σ i = k := by simpa using h.2
      omega
    have eq1 : ∀ i, i < 7 → (andn S1 S).testBit i = true → σ i = k := fun i hi h => by
      rw [aS i hi, Bool.and_eq_true_iff] at h
      exact of_decide_eq_true h.2
    have pS : pop7 (andn S1 S) ≤ 7 := pop_le7 _ (andn_lt h1)
    have nbS := nB_pop (andn S1 S) (andn_lt h1)
    have hv2 : v = pop7 (andn S1 S) + 8 * wS (fun b => 8 ^ (k - 1 - σ b)) (andn T S1) 7 := by
      rw [hv, wS_dis 7 dis, wS_k (X := andn S1 S) (a := 1) 7 (fun i hi h => by show 8 ^ (k + 1 - 1 - σ i) = 1; rw [eq1 i hi h, Nat.add_sub_cancel, Nat.sub_self]), nbS, Nat.mul_one, wS_mul (X := andn T S1) (a := 8) (g := fun b => 8 ^ (k - 1 - σ b)) 7 (fun i hi h => by
        have := lt1 i hi h
        show 8 ^ (k + 1 - 1 - σ i) = 8 * 8 ^ (k - 1 - σ i)
        rw [show k + 1 - 1 - σ i = (k - 1 - σ i) + 1 by omega, Nat.pow_succ, Nat.mul_comm])]
    have d1 : v % 8 = pop7 (andn S1 S) := by omega
    have d2 : v / 8 = wS (fun b => 8 ^ (k - 1 - σ b)) (andn T S1) 7 := by omega
    obtain ⟨i1, i2⟩ := ih (v / 8) S1 (itB (fit k) n (v % 8) R) h1 sub1 (by
      refine it_B hn (v % 8) S S1 R hS ?_ (fun i hi h => by rw [b1 i hi, h, Bool.true_or]) hR (fun b hb h h' => ?_) (by omega)
      · have : S1 &&& T = S1 := sub_of h1 sub1
        rw [← this]
        exact Nat.lt_of_le_of_lt Nat.and_le_right hT
      · have e1 : σ b = k := eq1 b hb (by rw [andn_bit S1 h1 S hS b hb, h, h']; rfl)
        have := (hσ b hb (sub1 b hb h) h').2
        rw [e1] at this
        exact this) (fun b hb h h' => by
      have hs : S.testBit b = false := by
        rw [b1 b hb, Bool.or_eq_false_iff] at h'
        exact h'.1
      exact ⟨lt1 b hb (by rw [andn_bit T hT7 S1 h1 b hb, h, h']; rfl), (hσ b hb h hs).2⟩) d2
    refine ⟨i1, fun f => ?_⟩
    unfold qs
    rw [i2 f, d1, wS_dis 7 dis, wS_k (X := andn S1 S) (a := f k) 7 (fun i hi h => by show f (σ i) = f k; rw [eq1 i hi h]), nbS]
end ZBUY
section ZBUY2
variable {n s l : Nat} {c pr g : Nat → Nat} {fit : Nat → Nat → Bool}
def pP (pr : Nat → Nat) (s k : Nat) : Nat := if k < s then pr k else 100000
theorem prN_qs {k v a : Nat} : prN pr s k v a = a + qs (pP pr s) k v := by
  induction k generalizing v a with
  | zero => rfl
  | succ k ih =>
    unfold prN qs
    rw [ih]
    unfold pP
    omega
/-- price and code as one number -/
def pkN (pr : Nat → Nat) (s v : Nat) : Nat := prN pr s 4 v 0 * 4096 + v
theorem qs_lin {f h : Nat → Nat} {a : Nat} : ∀ k v, qs (fun j => f j * a + h j) k v = qs f k v * a + qs h k v := by
  intro k
  induction k with
  | zero => intro v; unfold qs; omega
  | succ k ih =>
    intro v
    unfold qs
    rw [ih, Nat.mul_add, Nat.add_mul, Nat.mul_assoc]
    omega
theorem qs_id {v : Nat} (hv : v < 4096) : qs (fun j => 8 ^ (3 - j)) 4 v = v := by
  unfold qs qs qs qs qs
  show v % 8 * 8 ^ (3 - 3) + (v / 8 % 8 * 8 ^ (3 - 2) + (v / 8 / 8 % 8 * 8 ^ (3 - 1) + (v / 8 / 8 / 8 % 8 * 8 ^ (3 - 0) + 0))) = v
  rw [show (8 : Nat) ^ (3 - 3) = 1 from rfl, show (8 : Nat) ^ (3 - 2) = 8 from rfl, show (8 : Nat) ^ (3 - 1) = 64 from rfl, show (8 : Nat) ^ (3 - 0) = 512 from rfl]
  omega
theorem qs_1 {v : Nat} (hv : v < 4096) : qs (fun _ => 1) 4 v = manyN v := by
  unfold qs qs qs qs qs manyN
  omega
theorem pkN_qs {v : Nat} (hv : v < 4096) : pkN pr s v = qs (fun j => pP pr s j * 4096 + 8 ^ (3 - j)) 4 v := by
  unfold pkN
  rw [qs_lin, prN_qs, Nat.zero_add, qs_id hv]
def Cd (fit : Nat → Nat → Bool) (pr : Nat → Nat) (s n : Nat) (R : Nat → Bool) (v : Nat) : Prop := manyN v ≤ 7 ∧ prN pr s 4 v 0 < 100000 ∧ enR fit n 4 v R (2 ^ n - 1) = true
def bySt (fit : Nat → Nat → Bool) (pr : Nat → Nat) (s n : Nat) (R : Nat → Bool) (i : Nat) (fo : Int32) : Prop := (fo = -1 ∧ ∀ u, u < i → ¬ Cd fit pr s n R u) ∨ ∃ f, f < i ∧ fo = nI f ∧ Cd fit pr s n R f ∧ ∀ u, u < i → Cd fit pr s n R u → pkN pr s f ≤ pkN pr s u
theorem nI_nm1 {f : Nat} (h : f < 2 ^ 31) : ¬ nI f = -1 := fun e => by
  have := nI_pos h
  rw [e] at this
  exact this (by decide)
theorem byF_spec {R : Nat → Bool} : ∀ (k i : Nat) (fo : Int32), i + k = 4096 → bySt fit pr s n R i fo → bySt fit pr s n R 4096 (byF fit pr s n R i k fo) := by
  intro k
  induction k with
  | zero => intro i fo hi h; rw [← hi]; exact h
  | succ k ih =>
    intro i fo hi h
    unfold byF
    refine ih (i + 1) _ (by omega) ?_
    rcases h with ⟨rfl, hno⟩ | ⟨f, hf, rfl, hC, hle⟩
    · by_cases e : Cd fit pr s n R i
      · rw [if_pos ⟨⟨e.1, e.2.1, Or.inl rfl⟩, e.2.2⟩]
        refine Or.inr ⟨i, by omega, rfl, e, fun u hu hc => ?_⟩
        by_cases e' : u = i
        · rw [e']; exact Nat.le_refl _
        · exact absurd hc (hno u (by omega))
      · rw [if_neg (fun z => e ⟨z.1.1, z.1.2.1, z.2⟩)]
        refine Or.inl ⟨rfl, fun u hu hc => ?_⟩
        by_cases e' : u = i
        · rw [e'] at hc; exact e hc
        · exact hno u (by omega) hc
    · have hcl : (nI f).toNatClampNeg = f := nI_clamp (by omega)
      by_cases e : Cd fit pr s n R i ∧ prN pr s 4 i 0 < prN pr s 4 f 0
      · rw [if_pos ⟨⟨e.1.1, e.1.2.1, Or.inr (by rw [hcl]; exact e.2)⟩, e.1.2.2⟩]
        refine Or.inr ⟨i, by omega, rfl, e.1, fun u hu hc => ?_⟩
        by_cases e' : u = i
        · rw [e']; exact Nat.le_refl _
        · refine Nat.le_trans ?_ (hle u (by omega) hc)
          unfold pkN
          have := e.2
          omega
      · rw [if_neg (fun z => e ⟨⟨z.1.1, z.1.2.1, z.2⟩, by
          have := z.1.2.2
          rw [hcl] at this
          exact this.resolve_left (nI_nm1 (by omega))⟩)]
        refine Or.inr ⟨f, by omega, rfl, hC, fun u hu hc => ?_⟩
        by_cases e' : u = i
        · subst e'
          have : ¬ prN pr s 4 u 0 < prN pr s 4 f 0 := fun z => e ⟨hc, z⟩
          unfold pkN
          omega
        · exact hle u (by omega) hc
theorem qs_le {f : Nat → Nat} {a : Nat} (hf : ∀ k, k < s → f k ≤ a) : ∀ k v, okE s k v → qs f k v ≤ qs (fun _ => 1) k v * a := by
  intro k
  induction k with
  | zero => intro v _; exact Nat.zero_le _
  | succ k ih =>
    intro v h
    obtain ⟨h1, h2⟩ := h
    unfold qs
    rw [Nat.add_mul, Nat.mul_one]
    have := ih (v / 8) h2
    have : v % 8 * f k ≤ v % 8 * a := by
      rcases h1 with h1 | h1
      · exact Nat.mul_le_mul_left _ (hf k h1)
      · rw [h1, Nat.zero_mul, Nat.zero_mul]; exact Nat.le_refl _
    omega
theorem wS_full {X : Nat} (hX : X < 2 ^ n) (hn : n ≤ 7) : wS c (2 ^ n - 1) 7 = wS c X 7 + wS c (andn (2 ^ n - 1) X) 7 := by
  have pn := pow_c hn
  have p0 := Nat.two_pow_pos n
  refine wS_dis 7 (fun i hi => ?_)
  rw [andn_bit (2 ^ n - 1) (by omega) X (by omega) i hi, tb_m1]
  by_cases e : i < n
  · rw [decide_eq_true e]; cases X.testBit i <;> simp
  · rw [tb_lt hX (by omega), decide_eq_false e]; simp
theorem buy_main (hn : n ≤ 7) (hs : s ≤ 4) (hpr : ∀ k, k < s → pr k ≤ 50) (hg7 : ∀ i, i < 7 → g i < 128) (hc1 : ∀ k, k < s → ∀ b, b < n → fit k b = true → c b ≤ pr k * 4096 + 8 ^ (3 - k)) (hc2 : ∀ b, b < n → c b = 67108864 ∨ ∃ k, k < s ∧ fit k b = true ∧ c b = pr k * 4096 + 8 ^ (3 - k)) {B D : Nat} (hB1 : ∀ S a, S < 2 ^ n → Asg (fun i => g i &&& (2 ^ l - 1)) S a → wS c S 7 ≤ B) (hB2 : ∃ S a, S < 2 ^ n ∧ Asg (fun i => g i &&& (2 ^ l - 1)) S a ∧ wS c S 7 = B) (hD : D = wS c (2 ^ n - 1) 7) : B ≤ D ∧ ((67108864 ≤ D - B ∧ byF fit pr s n (lidR g n l) 0 4096 (-1) = -1) ∨ (D - B < 67108864 ∧ ∃ v, v < 4096 ∧ byF fit pr s n (lidR g n l) 0 4096 (-1) = nI v ∧ prN pr s 4 v 0 * 4096 + v = D - B)) := by
  have pn := pow_c hn
  have p0 := Nat.two_pow_pos n
  obtain ⟨S, a, hS, hA, hw⟩ := hB2
  have hDB : D = B + wS c (andn (2 ^ n - 1) S) 7 := by rw [hD, wS_full hS hn, hw]
  have claimA : ∀ v, v < 4096 → Cd fit pr s n (lidR g n l) v → D - B ≤ pkN pr s v ∧ pkN pr s v < 67108864 := by
    intro v hv hC
    have hok := prN_ok 4 v 0 hC.2.1
    have h1 := en_A (c := c) (q := fun j => pP pr s j * 4096 + 8 ^ (3 - j)) hn (fun k hk b hb hf => by
      have := hc1 k hk b hb hf
      unfold pP
      rw [if_pos hk]
      exact this) 4 v B (lidR g n l) hok (fun T hT => by
      unfold lidR at hT
      rw [Bool.and_eq_true_iff] at hT
      have h2 := of_decide_eq_true hT.1
      have h3 : T < 2 ^ n := by omega
      obtain ⟨a', ha'⟩ := (cov_iff (by omega) hg7).mp hT.2
      exact ⟨h3, hB1 T a' h3 ha'⟩) (2 ^ n - 1) hC.2.2
    rw [← hD, ← pkN_qs hv] at h1
    refine ⟨by omega, ?_⟩
    have h4 := qs_le (s := s) (f := pP pr s) (a := 50) (fun k hk => by unfold pP; rw [if_pos hk]; exact hpr k hk) 4 v hok
    rw [qs_1 hv] at h4
    have h5 := hC.1
    have h6 : prN pr s 4 v 0 = qs (pP pr s) 4 v := by rw [prN_qs, Nat.zero_add]
    unfold pkN
    omega
  have hby := byF_spec (fit := fit) (pr := pr) (s := s) (n := n) (R := lidR g n l) 4096 0 (-1) rfl (Or.inl ⟨rfl, fun u hu => absurd hu (Nat.not_lt_zero _)⟩)
  refine ⟨by omega, ?_⟩
  by_cases hlt : D - B < 67108864
  · right
    refine ⟨hlt, ?_⟩
    have hX : ∀ b, b < 7 → (2 ^ n - 1).testBit b = true → S.testBit b = false → ∃ k, k < s ∧ fit k b = true ∧ c b = pr k * 4096 + 8 ^ (3 - k) := by
      intro b hb h1 h2
      rw [tb_m1] at h1
      rcases hc2 b (of_decide_eq_true h1) with e | e
      · exfalso
        have h3 : c b ≤ wS c (andn (2 ^ n - 1) S) 7 := by
          have hbit : (andn (2 ^ n - 1) S).testBit b = true := by rw [andn_bit _ (by omega) S (by omega) b hb, tb_m1, h1, h2]; rfl
          rw [wS_add (S := andn (2 ^ n - 1) S) (S' := andn (andn (2 ^ n - 1) S) (2 ^ b)) (p := b) (by rw [andn_2 (andn_lt (by omega)) hb, decide_eq_true rfl]; simp) hbit (fun i hi => by rw [andn_2 (andn_lt (by omega)) hb, decide_eq_false (fun z => hi z.symm)]; simp) 7, if_pos hb]
          exact Nat.le_add_left _ _
        omega
      · exact e
    obtain ⟨σ, hσ⟩ : ∃ σ : Nat → Nat, ∀ b, b < 7 → (2 ^ n - 1).testBit b = true → S.testBit b = false → σ b < s ∧ fit (σ b) b = true ∧ c b = pr (σ b) * 4096 + 8 ^ (3 - σ b) := by
      have hall : ∀ b, ∃ k, b < 7 → (2 ^ n - 1).testBit b = true → S.testBit b = false → k < s ∧ fit k b = true ∧ c b = pr k * 4096 + 8 ^ (3 - k) := by
        intro b
        by_cases hb : b < 7 ∧ (2 ^ n - 1).testBit b = true ∧ S.testBit b = false
        · obtain ⟨k, hk⟩ := hX b hb.1 hb.2.1 hb.2.2
          exact ⟨k, fun _ _ _ => hk⟩
        · exact ⟨0, fun h1 h2 h3 => absurd ⟨h1, h2, h3⟩ hb⟩
      exact ⟨fun b => (hall b).choose, fun b => (hall b).choose_spec⟩
    have hS7 : S < 128 := by omega
    have hN7 : 2 ^ n - 1 < 128 := by omega
    have hsb : ∀ i, i < 7 → S.testBit i = true → (2 ^ n - 1).testBit i = true := fun i _ h => by
      rw [tb_m1]
      refine decide_eq_true (Nat.lt_of_not_le (fun z => ?_))
      rw [tb_lt hS z] at h
      exact absurd h (by decide)
    have hin : ∀ i, i < 7 → (andn (2 ^ n - 1) S).testBit i = true → (2 ^ n - 1).testBit i = true ∧ S.testBit i = false := fun i hi h => by
      rw [andn_bit _ hN7 S hS7 i hi, Bool.and_eq_true_iff] at h
      exact ⟨h.1, by simpa using h.2⟩
    obtain ⟨e1, e2⟩ := en_B (fit := fit) (σ := σ) hn (T := 2 ^ n - 1) (by omega) 4 _ S (lidR g n l) hS7 hsb (by
      unfold lidR
      rw [decide_eq_true (by omega), Bool.true_and]
      exact (cov_iff hS7 hg7).mpr ⟨a, hA⟩) (fun b hb h h' => ⟨Nat.lt_of_lt_of_le (hσ b hb h h').1 hs, (hσ b hb h h').2.1⟩) rfl
    have hvl : wS (fun b => 8 ^ (4 - 1 - σ b)) (andn (2 ^ n - 1) S) 7 < 4096 := by
      have := wS_le (v := fun b => 8 ^ (4 - 1 - σ b)) (s := andn (2 ^ n - 1) S) (M := 512) 7 (fun i _ => Nat.pow_le_pow_right (by decide) (show 4 - 1 - σ i ≤ 3 by omega))
      omega
    generalize hvd : wS (fun b => 8 ^ (4 - 1 - σ b)) (andn (2 ^ n - 1) S) 7 = v at e1 e2 hvl
    have hpk : pkN pr s v = D - B := by
      rw [pkN_qs hvl, e2, hDB, Nat.add_sub_cancel_left]
      refine wS_congr 7 (fun i hi => ⟨rfl, fun h => ?_⟩)
      obtain ⟨h1, h2⟩ := hin i hi h
      obtain ⟨h3, -, h4⟩ := hσ i hi h1 h2
      rw [h4]
      unfold pP
      rw [if_pos h3]
    have hC : Cd fit pr s n (lidR g n l) v := by
      refine ⟨?_, ?_, e1⟩
      · rw [← qs_1 hvl, e2]
        have := wS_le (v := fun _ => 1) (s := andn (2 ^ n - 1) S) (M := 1) 7 (fun _ _ => Nat.le_refl _)
        omega
      · have : prN pr s 4 v 0 * 4096 + v = D - B := hpk
        omega
    rcases hby with ⟨-, hno⟩ | ⟨f, hf, hfe, hCf, hle⟩
    · exact absurd hC (hno v hvl)
    · refine ⟨f, hf, hfe, ?_⟩
      have h1 := hle v hvl hC
      have h2 := (claimA f hf hCf).1
      have : pkN pr s f = D - B := by omega
      exact this
  · left
    refine ⟨by omega, ?_⟩
    rcases hby with ⟨h, -⟩ | ⟨f, hf, -, hCf, -⟩
    · exact h
    · have := claimA f hf hCf
      omega
end ZBUY2
