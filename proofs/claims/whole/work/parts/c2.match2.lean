/-! ===== the class's best, and that it is the Model's most ===== -/
def colN (m : Nat) (v : Nat → Nat) (i k a : Nat) : Nat := match k with
  | 0 => a
  | k + 1 => colN m v (i + 1) k (if m.testBit i = true then (if a < v i then v i else a) else a)
def bstN (op v : Nat → Nat) (c r k t : Nat) : Nat := match k with
  | 0 => 0
  | k + 1 => colN (andn (op (r - (k + 1))) t) (fun i => v (r - (k + 1)) + bstN op v c r k (t ||| 2 ^ i)) 0 c (bstN op v c r k t)
theorem colN_ub {m : Nat} {v : Nat → Nat} : ∀ (k i a : Nat), a ≤ colN m v i k a ∧ ∀ j, i ≤ j → j < i + k → m.testBit j = true → v j ≤ colN m v i k a := by
  intro k
  induction k with
  | zero => intro i a; exact ⟨Nat.le_refl _, fun t h1 h2 => absurd h1 (by omega)⟩
  | succ k ih =>
    intro i a
    unfold colN
    obtain ⟨h1, h2⟩ := ih (i + 1) (if m.testBit i = true then (if a < v i then v i else a) else a)
    constructor
    · refine Nat.le_trans ?_ h1
      split
      · split <;> omega
      · exact Nat.le_refl _
    · intro j g1 g2 g3
      by_cases e : j = i
      · subst e
        refine Nat.le_trans ?_ h1
        rw [if_pos g3]
        split <;> omega
      · exact h2 j (by omega) (by omega) g3
theorem colN_at {m : Nat} {v : Nat → Nat} : ∀ (k i a : Nat), colN m v i k a = a ∨ ∃ j, i ≤ j ∧ j < i + k ∧ m.testBit j = true ∧ colN m v i k a = v j := by
  intro k
  induction k with
  | zero => intro i a; exact Or.inl rfl
  | succ k ih =>
    intro i a
    unfold colN
    rcases ih (i + 1) (if m.testBit i = true then (if a < v i then v i else a) else a) with h | ⟨t, h1, h2, h3⟩
    · by_cases e : m.testBit i = true
      · by_cases e' : a < v i
        · exact Or.inr ⟨i, by omega, by omega, e, by rw [h, if_pos e, if_pos e']⟩
        · exact Or.inl (by rw [h, if_pos e, if_neg e'])
      · exact Or.inl (by rw [h, if_neg e])
    · exact Or.inr ⟨t, by omega, by omega, h3⟩
theorem colN_I {m : Nat} {v : Nat → Nat} {vI : Nat → Int32} {M : Nat} (hM : M < 2 ^ 31) : ∀ (k i a : Nat), a ≤ M → (∀ j, i ≤ j → j < i + k → vI j = nI (v j) ∧ v j ≤ M) → colF m vI i k (nI a) = nI (colN m v i k a) ∧ colN m v i k a ≤ M := by
  intro k
  induction k with
  | zero => intro i a ha _; exact ⟨rfl, ha⟩
  | succ k ih =>
    intro i a ha h
    obtain ⟨e1, e2⟩ := h i (by omega) (by omega)
    unfold colF colN
    by_cases hb : m.testBit i = true
    · rw [if_pos hb, if_pos hb, e1]
      by_cases hl : a < v i
      · rw [if_pos hl, if_pos (nI_lt hl (by omega))]
        exact ih _ _ e2 (fun j h1 h2 => h j (by omega) (by omega))
      · rw [if_neg hl, if_neg (nI_nlt (by omega) (by omega))]
        exact ih _ _ ha (fun j h1 h2 => h j (by omega) (by omega))
    · rw [if_neg hb, if_neg hb]
      exact ih _ _ ha (fun j h1 h2 => h j (by omega) (by omega))
theorem bstR_N {op v : Nat → Nat} {wo : Nat → Int32} {c r : Nat} (hr : r ≤ 7) (hw : ∀ i, i < r → wo i = nI (v i) ∧ v i ≤ 67108864) : ∀ (k t : Nat), k ≤ r → bstR op wo c r k t = nI (bstN op v c r k t) ∧ bstN op v c r k t ≤ k * 67108864 := by
  intro k
  induction k with
  | zero => intro t _; exact ⟨rfl, Nat.le_refl _⟩
  | succ k ih =>
    intro t hk
    obtain ⟨w1, w2⟩ := hw (r - (k + 1)) (by omega)
    unfold bstR bstN
    rw [(ih t (by omega)).1]
    refine colN_I (M := (k + 1) * 67108864) (by omega) c 0 (bstN op v c r k t) (Nat.le_trans (ih t (by omega)).2 (Nat.mul_le_mul_right _ (by omega))) (fun j _ _ => ?_)
    obtain ⟨i1, i2⟩ := ih (t ||| 2 ^ j) (by omega)
    exact ⟨by rw [w1, i1, nI_add], by omega⟩
/-- what the rows of S ahead of r are worth together -/
def wS (v : Nat → Nat) (S r : Nat) : Nat := match r with
  | 0 => 0
  | r + 1 => wS v S r + if S.testBit r = true then v r else 0
theorem wS_1 {S : Nat} : ∀ r, wS (fun _ => 1) S r = nB S r := by
  intro r
  induction r with
  | zero => rfl
  | succ r ih => unfold wS nB; rw [ih]
theorem wS_0 {v : Nat → Nat} : ∀ r, wS v 0 r = 0 := by
  intro r
  induction r with
  | zero => rfl
  | succ r ih => unfold wS; rw [ih, Nat.zero_testBit]; rfl
theorem wS_congr {v v' : Nat → Nat} {S S' : Nat} : ∀ r, (∀ i, i < r → S.testBit i = S'.testBit i ∧ (S.testBit i = true → v i = v' i)) → wS v S r = wS v' S' r := by
  intro r
  induction r with
  | zero => intro _; rfl
  | succ r ih =>
    intro h
    unfold wS
    obtain ⟨h1, h2⟩ := h r (by omega)
    rw [ih (fun i hi => h i (by omega)), ← h1]
    split
    · next e => rw [h2 e]
    · rfl
theorem wS_add {v : Nat → Nat} {S S' p : Nat} (hp : S'.testBit p = false) (hp1 : S.testBit p = true) (he : ∀ i, ¬ i = p → S.testBit i = S'.testBit i) : ∀ r, wS v S r = wS v S' r + if p < r then v p else 0 := by
  intro r
  induction r with
  | zero => rfl
  | succ r ih =>
    unfold wS
    rw [ih]
    by_cases e : r = p
    · subst e
      rw [if_neg (Nat.lt_irrefl _), if_pos hp1, if_neg (by rw [hp]; decide), if_pos (by omega)]
    · rw [he r e]
      by_cases e' : p < r
      · rw [if_pos e', if_pos (show p < r + 1 by omega)]; omega
      · rw [if_neg e', if_neg (show ¬ p < r + 1 by omega)]; omega
theorem andn_2 {S p i : Nat} (hS : S < 128) (hp : p < 7) : (andn S (2 ^ p)).testBit i = (S.testBit i && !decide (p = i)) := by
  by_cases hi : i < 7
  · rw [andn_bit S hS _ (pow_7 p hp) i hi, Nat.testBit_two_pow]
  · rw [tb_lt (r := 7) (andn_lt hS) (by omega), tb_lt (r := 7) hS (by omega)]; rfl
theorem bst_ub {op v : Nat → Nat} {c r : Nat} (hr : r ≤ 7) (hc : c ≤ 7) (hop : ∀ i, i < r → op i < 2 ^ c) : ∀ (k t S : Nat) (a : Nat → Nat), k ≤ r → t < 128 → S < 128 → (∀ i, i < 7 → S.testBit i = true → r - k ≤ i ∧ i < r) → Asg (fun i => andn (op i) t) S a → wS v S 7 ≤ bstN op v c r k t := by
  have pc := pow_c hc
  intro k
  induction k with
  | zero =>
    intro t S a hk ht hS hin hA
    have e : wS v S 7 = wS v 0 7 := by
      refine wS_congr 7 (fun i hi => ?_)
      have : S.testBit i = false := by
        cases hb : S.testBit i with
        | false => rfl
        | true => have := hin i hi hb; omega
      exact ⟨by rw [this, Nat.zero_testBit], fun z => absurd (this.symm.trans z) (by decide)⟩
    rw [e, wS_0]
    exact Nat.zero_le _
  | succ k ih =>
    intro t S a hk ht hS hin hA
    unfold bstN
    obtain ⟨u1, u2⟩ := colN_ub (m := andn (op (r - (k + 1))) t) (v := fun i => v (r - (k + 1)) + bstN op v c r k (t ||| 2 ^ i)) c 0 (bstN op v c r k t)
    generalize hp : r - (k + 1) = p at u1 u2 hin ⊢
    have hp7 : p < 7 := by omega
    have hpr : p < r := by omega
    cases hb : S.testBit p with
    | false =>
      refine Nat.le_trans (ih t S a (by omega) ht hS (fun i hi hs => ?_) hA) u1
      have h1 := hin i hi hs
      have h2 : i ≠ p := fun z => absurd (hb.symm.trans (z ▸ hs)) (by decide)
      omega
    | true =>
      obtain ⟨a1, a2⟩ := hA.1 p hp7 hb
      have hop7 : op p < 128 := Nat.lt_of_lt_of_le (hop p hpr) pc
      have a2' : (andn (op p) t).testBit (a p) = true := a2
      have hac : a p < c := by
        refine Nat.lt_of_not_le (fun h => ?_)
        have a3 := a2'
        rw [andn_bit _ hop7 _ ht _ a1, tb_lt (hop p hpr) h] at a3
        exact Bool.false_ne_true a3
      refine Nat.le_trans ?_ (u2 (a p) (by omega) (by omega) a2')
      have hS' : andn S (2 ^ p) < 128 := andn_lt hS
      have sb : ∀ i, (andn S (2 ^ p)).testBit i = true → S.testBit i = true ∧ i ≠ p := by
        intro i hi
        rw [andn_2 hS hp7] at hi
        obtain ⟨z1, z2⟩ := Bool.and_eq_true_iff.mp hi
        exact ⟨z1, fun z => by rw [z, decide_eq_true rfl] at z2; exact absurd z2 (by decide)⟩
      have ha : wS v S 7 = wS v (andn S (2 ^ p)) 7 + v p := by
        have := wS_add (v := v) (S := S) (S' := andn S (2 ^ p)) (p := p) (by rw [andn_2 hS hp7, decide_eq_true rfl, Bool.and_comm]; rfl) hb (fun i hi => by rw [andn_2 hS hp7, decide_eq_false (fun z => hi z.symm)]; exact (Bool.and_true _).symm) 7
        rw [this, if_pos hp7]
      have hi := ih (t ||| 2 ^ a p) (andn S (2 ^ p)) a (by omega) (orb_lt (c := 7) ht a1) hS' (fun i hi hs => ?_) ⟨fun i hi hs => ?_, fun i j hi hj hs hs' => hA.2 i j hi hj (sb i hs).1 (sb j hs').1⟩
      · show wS v S 7 ≤ v p + bstN op v c r k (t ||| 2 ^ a p)
        omega
      · obtain ⟨z1, z2⟩ := sb i hs
        have := hin i hi z1
        omega
      · obtain ⟨z1, z2⟩ := sb i hs
        obtain ⟨y1, y2⟩ := hA.1 i hi z1
        have hir := (hin i hi z1).2
        have hoi : op i < 128 := Nat.lt_of_lt_of_le (hop i hir) pc
        refine ⟨y1, ?_⟩
        have y2 : (andn (op i) t).testBit (a i) = true := y2
        rw [andn_bit _ hoi _ ht _ y1] at y2
        obtain ⟨x1, x2⟩ := Bool.and_eq_true_iff.mp y2
        show (andn (op i) (t ||| 2 ^ a p)).testBit (a i) = true
        rw [andn_bit _ hoi _ (orb_lt (c := 7) ht a1) _ y1, tb_or, x1]
        have x2 : t.testBit (a i) = false := by simpa using x2
        rw [x2, decide_eq_false (fun z => z2 (hA.2 i p hi hp7 z1 hb z.symm))]
        rfl
theorem bst_at {op v : Nat → Nat} {c r : Nat} (hr : r ≤ 7) (hc : c ≤ 7) (hop : ∀ i, i < r → op i < 2 ^ c) : ∀ (k t : Nat), k ≤ r → t < 128 → ∃ S a, S < 128 ∧ (∀ i, i < 7 → S.testBit i = true → r - k ≤ i ∧ i < r) ∧ Asg (fun i => andn (op i) t) S a ∧ wS v S 7 = bstN op v c r k t := by
  have pc := pow_c hc
  intro k
  induction k with
  | zero =>
    intro t hk ht
    exact ⟨0, fun _ => 0, by decide, fun i _ h => absurd h (by rw [Nat.zero_testBit]; decide), Asg_0, wS_0 7⟩
  | succ k ih =>
    intro t hk ht
    unfold bstN
    rcases colN_at (m := andn (op (r - (k + 1))) t) (v := fun i => v (r - (k + 1)) + bstN op v c r k (t ||| 2 ^ i)) c 0 (bstN op v c r k t) with h | ⟨j, _, hj, hb, h⟩
    · obtain ⟨S, a, h1, h2, h3, h4⟩ := ih t (by omega) ht
      exact ⟨S, a, h1, fun i hi hs => by have := h2 i hi hs; omega, h3, by rw [h, h4]⟩
    · generalize hp : r - (k + 1) = p at hb h ⊢
      have hp7 : p < 7 := by omega
      have hpr : p < r := by omega
      have hj7 : j < 7 := by omega
      obtain ⟨S, a, h1, h2, ⟨h3, h3'⟩, h4⟩ := ih (t ||| 2 ^ j) (by omega) (orb_lt (c := 7) ht hj7)
      have hSp : S.testBit p = false := by
        cases hz : S.testBit p with
        | false => rfl
        | true => have := h2 p hp7 hz; omega
      have sp : ∀ i, (S ||| 2 ^ p).testBit i = true → i = p ∨ (i ≠ p ∧ S.testBit i = true) := by
        intro i hi
        rw [tb_or] at hi
        by_cases e : i = p
        · exact Or.inl e
        · rcases Bool.or_eq_true_iff.mp hi with hi | hi
          · exact Or.inr ⟨e, hi⟩
          · exact absurd (of_decide_eq_true hi).symm e
      have hoi : ∀ i, i < r → op i < 128 := fun i hi => Nat.lt_of_lt_of_le (hop i hi) pc
      have nj : ∀ i, i < 7 → S.testBit i = true → (andn (op i) t).testBit (a i) = true ∧ a i ≠ j := by
        intro i hi hs
        obtain ⟨y1, y2⟩ := h3 i hi hs
        have hir := (h2 i hi hs).2
        have y2 : (andn (op i) (t ||| 2 ^ j)).testBit (a i) = true := y2
        rw [andn_bit _ (hoi i hir) _ (orb_lt (c := 7) ht hj7) _ y1, tb_or] at y2
        obtain ⟨x1, x2⟩ := Bool.and_eq_true_iff.mp y2
        have x2 : (t.testBit (a i) || decide (j = a i)) = false := by simpa using x2
        obtain ⟨x3, x4⟩ := Bool.or_eq_false_iff.mp x2
        rw [andn_bit _ (hoi i hir) _ ht _ y1, x1, x3]
        exact ⟨rfl, fun z => of_decide_eq_false x4 z.symm⟩
      refine ⟨S ||| 2 ^ p, fun i => if i = p then j else a i, orb_lt (c := 7) h1 hp7, ?_, ⟨?_, ?_⟩, ?_⟩
      · intro i hi hs
        rcases sp i hs with rfl | ⟨_, hs⟩
        · omega
        · have := h2 i hi hs; omega
      · intro i hi hs
        show (if i = p then j else a i) < 7 ∧ (andn (op i) t).testBit (if i = p then j else a i) = true
        rcases sp i hs with e | ⟨e, hs⟩
        · rw [if_pos e, e]; exact ⟨hj7, hb⟩
        · rw [if_neg e]; exact ⟨(h3 i hi hs).1, (nj i hi hs).1⟩
      · intro i i' hi hi' hs hs' he
        have he : (if i = p then j else a i) = (if i' = p then j else a i') := he
        rcases sp i hs with e | ⟨e, hs⟩
        · rcases sp i' hs' with e' | ⟨e', hs'⟩
          · rw [e, e']
          · rw [if_pos e, if_neg e'] at he
            exact absurd he.symm (nj i' hi' hs').2
        · rcases sp i' hs' with e' | ⟨e', hs'⟩
          · rw [if_neg e, if_pos e'] at he
            exact absurd he (nj i hi hs).2
          · rw [if_neg e, if_neg e'] at he
            exact h3' i i' hi hi' hs hs' he
      · rw [h]
        have := wS_add (v := v) (S := S ||| 2 ^ p) (S' := S) (p := p) hSp (by rw [tb_or, decide_eq_true rfl, Bool.or_true]) (fun i hi => by rw [tb_or, decide_eq_false (fun z => hi z.symm), Bool.or_false]) 7
        rw [this, if_pos hp7, h4]
        show _ = v p + bstN op v c r k (t ||| 2 ^ j)
        omega
theorem Asg_congr {g g' : Nat → Nat} {S : Nat} {a : Nat → Nat} (h : Asg g S a) (e : ∀ i c, i < 7 → c < 7 → S.testBit i = true → (g i).testBit c = true → (g' i).testBit c = true) : Asg g' S a := ⟨fun i hi hs => ⟨(h.1 i hi hs).1, e i (a i) hi (h.1 i hi hs).1 hs (h.1 i hi hs).2⟩, h.2⟩
/-- the Model's most of the rows from r - k on is the class's best -/
theorem most_bst {g op : Nat → Nat} {rows cols c r k t : Nat} (hr : r ≤ 7) (hc : c ≤ 7) (hk : k ≤ r) (ht : t < 128) (hrows : ∀ i, i < 7 → (rows.testBit i = true ↔ r - k ≤ i ∧ i < r)) (hg : ∀ i, i < r → g i = op i) (hg7 : ∀ i, i < 7 → g i < 128) (hop : ∀ i, i < r → op i < 2 ^ c) (hcols : ∀ j, j < c → cols.testBit j = !t.testBit j) : mostN g rows cols = bstN op (fun _ => 1) c r k t := by
  have pc := pow_c hc
  have eq : ∀ i j, i < r → j < 7 → ((g i &&& cols).testBit j = true ↔ (andn (op i) t).testBit j = true) := by
    intro i j hi hj
    rw [hg i hi, andn_bit _ (Nat.lt_of_lt_of_le (hop i hi) pc) _ ht _ hj, Nat.testBit_and]
    by_cases e : j < c
    · rw [hcols j e]
    · rw [tb_lt (hop i hi) (by omega), Bool.false_and, Bool.false_and]
  obtain ⟨S, a, h1, h2, h3, h4⟩ := mostN_at (g := g) (rows := rows) (cols := cols) hg7
  obtain ⟨S', a', g1, g2, g3, g4⟩ := bst_at (v := fun _ => 1) hr hc hop k t hk ht
  have u1 := bst_ub (v := fun _ => 1) hr hc hop k t S a hk ht h1 (fun i hi hs => (hrows i hi).mp (h2 i hi hs)) (Asg_congr h3 (fun i j hi hj hs hb => (eq i j ((hrows i hi).mp (h2 i hi hs)).2 hj).mp hb))
  have u2 := mostN_ub (g := g) (rows := rows) (cols := cols) g1 (fun i hi hs => (hrows i hi).mpr (g2 i hi hs)) (Asg_congr g3 (fun i j hi hj hs hb => (eq i j (g2 i hi hs).2 hj).mpr hb)) hg7
  rw [wS_1, nB_pop _ h1, h4] at u1
  rw [wS_1, nB_pop _ g1] at g4
  rw [g4] at u2
  omega
theorem sub_pop : ∀ s, s < 128 → ∀ t, t < 128 → (s &&& t = s) → pop7 s = pop7 t → s = t := by decide +kernel
/-- a set is covered if its boxes can be paired -/
theorem cov_iff {g : Nat → Nat} {S cols : Nat} (hS : S < 128) (hg7 : ∀ i, i < 7 → g i < 128) : covB g S cols = true ↔ ∃ a, Asg (fun i => g i &&& cols) S a := by
  unfold covB
  rw [decide_eq_true_iff]
  constructor
  · intro h
    obtain ⟨S', a, h1, h2, h3, h4⟩ := mostN_at (g := g) (rows := S) (cols := cols) hg7
    have e : S' = S := by
      refine sub_pop S' h1 S hS ?_ (h4.trans h)
      refine Nat.eq_of_testBit_eq (fun i => ?_)
      rw [Nat.testBit_and]
      cases hb : S'.testBit i with
      | false => rfl
      | true =>
        by_cases hi : i < 7
        · rw [h2 i hi hb]; rfl
        · rw [tb_lt (r := 7) h1 (by omega)] at hb; exact absurd hb (by decide)
    rw [e] at h3
    exact ⟨a, h3⟩
  · rintro ⟨a, h⟩
    have u1 := mostN_ub (rows := S) hS (fun _ _ h => h) h hg7
    obtain ⟨S', a', h1, h2, h3, h4⟩ := mostN_at (g := g) (rows := S) (cols := cols) hg7
    have : pop7 S' ≤ pop7 S := by
      have sp : ∀ s, s < 128 → ∀ t, t < 128 → (s &&& t = s) → pop7 s ≤ pop7 t := by decide +kernel
      refine sp S' h1 S hS ?_
      refine Nat.eq_of_testBit_eq (fun i => ?_)
      rw [Nat.testBit_and]
      cases hb : S'.testBit i with
      | false => rfl
      | true =>
        by_cases hi : i < 7
        · rw [h2 i hi hb]; rfl
        · rw [tb_lt (r := 7) h1 (by omega)] at hb; exact absurd hb (by decide)
    omega
