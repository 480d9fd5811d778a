/-! ===== what the Model's loops over its cells do ===== -/
theorem shA_hi {b m : Nat} : ∀ (k i : Nat) (A : Nat → Nat → Int32), shA A b i k 0 (b + m) = if 133 + i ≤ m ∧ m < 133 + i + k then A 0 (b + (m + 7)) else A 0 (b + m) := by
  intro k
  induction k with
  | zero => intro i A; rw [if_neg (by omega)]; rfl
  | succ k ih =>
    intro i A
    unfold shA
    rw [ih]
    by_cases e : m = 133 + i
    · rw [if_neg (by omega), if_pos (by omega), e, mp_eq]
      congr 1
      omega
    · by_cases e1 : 133 + (i + 1) ≤ m ∧ m < 133 + (i + 1) + k
      · rw [if_pos e1, if_pos (by omega), mp_ne (by omega)]
      · rw [if_neg e1, if_neg (by omega), mp_ne e]
theorem kn2_hi {b m u : Nat} : ∀ (k i : Nat) (A : Nat → Nat → Int32), i + k ≤ 7 → kn2 A b u i k 0 (b + m) = if 133 + 7 * u + i ≤ m ∧ m < 133 + 7 * u + i + k then A 0 (b + (6 + 5 * (m - (133 + 7 * u)) + 4)) else A 0 (b + m) := by
  intro k
  induction k with
  | zero => intro i A _; rw [if_neg (by omega)]; rfl
  | succ k ih =>
    intro i A hi
    unfold kn2
    rw [ih _ _ (by omega)]
    by_cases e : m = 133 + 7 * u + i
    · rw [if_neg (by omega), if_pos (by omega), e, mp_eq]
      unfold mB
      congr 1
      omega
    · by_cases e1 : 133 + 7 * u + (i + 1) ≤ m ∧ m < 133 + 7 * u + (i + 1) + k
      · rw [if_pos e1, if_pos (by omega), mp_ne (by omega)]
      · rw [if_neg e1, if_neg (by omega), mp_ne e]
theorem shA_row {b j : Nat} (hj : ¬ j = 0) : ∀ (k i : Nat) (A : Nat → Nat → Int32), shA A b i k j = A j := by
  intro k
  induction k with
  | zero => intro i A; rfl
  | succ k ih => intro i A; unfold shA; rw [ih]; unfold mp va_up; rw [if_neg hj]
theorem kn2_row {b j u : Nat} (hj : ¬ j = 0) : ∀ (k i : Nat) (A : Nat → Nat → Int32), kn2 A b u i k j = A j := by
  intro k
  induction k with
  | zero => intro i A; rfl
  | succ k ih => intro i A; unfold kn2; rw [ih]; unfold mp va_up; rw [if_neg hj]
theorem mp_row {A : Nat → Nat → Int32} {b i j : Nat} {v : Int32} (hj : ¬ j = 0) : mp A b i v j = A j := by unfold mp va_up; rw [if_neg hj]
theorem kn1_row {A : Nat → Nat → Int32} {b u j : Nat} (hj : ¬ j = 0) : kn1 A b u j = A j := by
  unfold kn1
  split
  · rw [mp_row hj, shA_row hj]
  · rfl
theorem knA_row {A : Nat → Nat → Int32} {b u n j : Nat} (hj : ¬ j = 0) : knA A b u n j = A j := by
  unfold knA kn3
  rw [mp_row hj, kn2_row hj, kn1_row hj]
theorem knA_view {A : Nat → Nat → Int32} {b u n : Nat} (hu : u ≤ 12) (hn : n ≤ 7) : knR n u (vw A b) (vw (knA A b u n) b) := by
  have k1lo : ∀ m, m < 133 → ¬ m = 5 → kn1 A b u 0 (b + m) = A 0 (b + m) := by
    intro m hm h5
    unfold kn1
    split
    · rw [mp_ne h5, shA_hi, if_neg (by omega)]
    · rfl
  refine ⟨fun j hj h5 => ?_, ?_, fun j hj r hr => ?_, fun r hr => ?_⟩
  · show knA A b u n 0 (b + j) = A 0 (b + j)
    unfold knA kn3
    rw [mp_ne h5, kn2_hi _ _ _ (by omega), if_neg (by omega), k1lo j hj h5]
  · show knA A b u n 0 (b + 5) = _
    unfold knA kn3
    rw [mp_eq]
  · show knA A b u n 0 (b + (133 + 7 * j + r)) = A 0 (b + (133 + 7 * (j + _) + r))
    unfold knA kn3
    rw [mp_ne (by omega), kn2_hi _ _ _ (by omega), if_neg (by split at hj <;> split <;> omega)]
    unfold kn1
    by_cases e : u = 12
    · rw [if_pos e] at hj ⊢
      rw [mp_ne (by omega), shA_hi, if_pos (by omega), if_pos e]
      congr 1
      omega
    · rw [if_neg e, if_neg e, Nat.add_zero]
  · show knA A b u n 0 (b + (133 + 7 * _ + r)) = A 0 (b + (6 + 5 * r + 4))
    unfold knA kn3
    rw [mp_ne (by omega), kn2_hi _ _ _ (by omega), if_pos (by omega)]
    have e : 133 + 7 * (if u = 12 then 11 else u) + r - (133 + 7 * (if u = 12 then 11 else u)) = r := by omega
    rw [e, k1lo _ (by omega) (by omega)]
theorem unA_row {b j u : Nat} (hj : ¬ j = 0) : ∀ (k i : Nat) (A : Nat → Nat → Int32), unA A b u i k j = A j := by
  intro k
  induction k with
  | zero => intro i A; rfl
  | succ k ih => intro i A; unfold unA; rw [ih, mp_row hj]
theorem unA_ne {b m u : Nat} : ∀ (k i : Nat) (A : Nat → Nat → Int32), (∀ r, i ≤ r → r < i + k → ¬ m = 6 + 5 * r + 4) → unA A b u i k 0 (b + m) = A 0 (b + m) := by
  intro k
  induction k with
  | zero => intro i A _; rfl
  | succ k ih => intro i A h; unfold unA; rw [ih _ _ (fun r h1 h2 => h r (by omega) (by omega)), mp_ne (h i (by omega) (by omega))]
theorem unA_on {b u r : Nat} : ∀ (k i : Nat) (A : Nat → Nat → Int32), i ≤ r → r < i + k → i + k ≤ 7 → unA A b u i k 0 (b + (6 + 5 * r + 4)) = A 0 (b + (133 + 7 * u + r)) := by
  intro k
  induction k with
  | zero => intro i A h1 h2; omega
  | succ k ih =>
    intro i A h1 h2 h3
    unfold unA
    by_cases e : r = i
    · subst e
      rw [unA_ne _ _ _ (fun s _ _ => by omega), mp_eq]
    · rw [ih _ _ (by omega) (by omega) (by omega), mp_ne (by omega)]
theorem unA_view {A : Nat → Nat → Int32} {u n : Nat} (hn : n ≤ 7) : unR n u (vw A 0) (vw (unA (mp A 0 5 (nI u)) 0 u 0 n) 0) := by
  refine ⟨fun r hr => ?_, ?_, fun j hj h5 hne => ?_⟩
  · show unA (mp A 0 5 (nI u)) 0 u 0 n 0 (0 + (6 + 5 * r + 4)) = A 0 (0 + (133 + 7 * u + r))
    rw [unA_on _ _ _ (by omega) (by omega) (by omega), mp_ne (by omega)]
  · show unA (mp A 0 5 (nI u)) 0 u 0 n 0 (0 + 5) = nI u
    rw [unA_ne _ _ _ (fun r _ _ => by omega), mp_eq]
  · show unA (mp A 0 5 (nI u)) 0 u 0 n 0 (0 + j) = A 0 (0 + j)
    rw [unA_ne _ _ _ (fun r h1 h2 => hne r (by omega)), mp_ne h5]
theorem cpA_row {f t j : Nat} (hj : ¬ j = 0) : ∀ (k i : Nat) (A : Nat → Nat → Int32), cpA A f t i k j = A j := by
  intro k
  induction k with
  | zero => intro i A; rfl
  | succ k ih => intro i A; unfold cpA; rw [ih]; unfold va_up; rw [if_neg hj]
theorem cpA_at {f t m : Nat} (hd : f + 217 ≤ t ∨ t + 217 ≤ f) : ∀ (k i : Nat) (A : Nat → Nat → Int32), i + k ≤ 217 → cpA A f t i k 0 m = if t + i ≤ m ∧ m < t + i + k then A 0 (f + (m - t)) else A 0 m := by
  intro k
  induction k with
  | zero => intro i A _; rw [if_neg (by omega)]; rfl
  | succ k ih =>
    intro i A hi
    unfold cpA
    rw [ih _ _ (by omega)]
    by_cases e : m = t + i
    · rw [if_neg (by omega), if_pos (by omega)]
      show upd (A 0) (t + i) (A 0 (f + i)) m = _
      rw [e, pk_us]
      congr 1
      omega
    · by_cases e1 : t + (i + 1) ≤ m ∧ m < t + (i + 1) + k
      · rw [if_pos e1, if_pos (by omega)]
        show upd (A 0) (t + i) (A 0 (f + i)) (f + (m - t)) = _
        rw [pk_un (by omega)]
      · rw [if_neg e1, if_neg (by omega)]
        show upd (A 0) (t + i) (A 0 (f + i)) m = _
        rw [pk_un e]
/-- the copied cells, and the others -/
theorem cp_to {f t j : Nat} {A : Nat → Nat → Int32} (hd : f + 217 ≤ t ∨ t + 217 ≤ f) (hj : j < 217) : vw (cpA A f t 0 217) t j = vw A f j := by
  show cpA A f t 0 217 0 (t + j) = A 0 (f + j)
  rw [cpA_at hd _ _ _ (by omega), if_pos (by omega)]
  congr 1
  omega
theorem cp_off {f t b j : Nat} {A : Nat → Nat → Int32} (hd : f + 217 ≤ t ∨ t + 217 ≤ f) (hb : b + 217 ≤ t ∨ t + 217 ≤ b) (hj : j < 217) : vw (cpA A f t 0 217) b j = vw A b j := by
  show cpA A f t 0 217 0 (b + j) = A 0 (b + j)
  rw [cpA_at hd _ _ _ (by omega), if_neg (by omega)]
/-! ===== what fits, on both sides ===== -/
theorem sub_eq0 : ∀ a, a < 10 → ∀ b, b < 10 → (decide (nI a - nI b = 0) = decide (nI b = nI a) ∧ decide (nI a - nI b = 1) = decide (nI b = nI a - 1)) ∧ decide (0 < nI a - nI b) = decide (nI b < nI a) := by decide +kernel
theorem n10 {x lo hi : Int32} {m : Nat} (h0 : 0 ≤ lo) (hm : hi.toInt = m) (h : lo ≤ x ∧ x ≤ hi) : ∃ j, j ≤ m ∧ x = nI j := nI_of2 hm (Int32.not_lt.mpr (Int32.le_trans h0 h.1)) h.2
theorem nle {a b : Int32} : (!decide (b < a)) = decide (a ≤ b) := by
  by_cases h : a ≤ b
  · rw [decide_eq_true h, decide_eq_false (Int32.not_lt.mpr h)]; rfl
  · rw [decide_eq_false h, decide_eq_true (Int32.not_le.mp h)]; rfl
theorem fit_eq {A : Nat → Nat → Int32} {b : Nat} {kd f s bf bs bh : Int32} (hl : okLid kd f s) (h0 : mB A 0 b 0 = bf) (h1 : mB A 0 b 1 = bs) (h2 : mB A 0 b 2 = bh) (hb : okBox bf bs bh) : mFit A 0 b kd f s = fitB kd f s bf bs bh := by
  obtain ⟨j, hj, ej⟩ := n10 (m := 5) (by decide) (by decide) hl.1
  obtain ⟨a, ha, ea⟩ := n10 (m := 9) (by decide) (by decide) hl.2.2
  obtain ⟨c, hc, ec⟩ := n10 (m := 9) (by decide) (by decide) hb.2.1
  obtain ⟨⟨e1, e2⟩, e3⟩ := sub_eq0 a (by omega) c (by omega)
  have ef : decide (bf = f) = decide (f = bf) := by
    by_cases h : f = bf
    · rw [decide_eq_true h, decide_eq_true h.symm]
    · rw [decide_eq_false h, decide_eq_false (fun z => h z.symm)]
  unfold mFit mPl fitB
  rw [h0, h1, h2, nle]
  subst ej
  subst ea
  subst ec
  rw [e1, e2, ef]
  have : j = 0 ∨ j = 1 ∨ j = 2 ∨ j = 3 ∨ j = 4 ∨ j = 5 := by omega
  rcases this with rfl | rfl | rfl | rfl | rfl | rfl
  · rfl
  · rfl
  · rfl
  · rfl
  · show (_ || (decide (bf = 0) && decide (nI c = nI a - 1))) = (_ || (decide (bf = 0) && decide (nI a - nI c = 1)))
    rw [e2]
  · show (_ || decide (nI c < nI a)) = (_ || decide (0 < nI a - nI c))
    rw [e3]
