/-! ===== read: the tokens are the same ===== -/
/-- the Model's sort of a token, out of the class's -/
def sorM (tk va : Int32) : Int32 := if tk = 0 then va else if tk = 1 then 5 else if tk = 2 then 6 else if tk = 3 then 7 else 8
theorem endF_all {p : Int32 → Bool} {bt : Nat → Int32} : ∀ (k e i : Nat), e ≤ i → i < endF p bt e k → p (bt i) = true
  | 0, e, i, h1, h2 => by unfold endF at h2; omega
  | k + 1, e, i, h1, h2 => by
    unfold endF at h2
    by_cases q : p (bt e) = true
    · rw [if_pos q] at h2
      by_cases e' : i = e
      · rw [e']; exact q
      · exact endF_all k (e + 1) i (by omega) h2
    · rw [if_neg q] at h2; omega
theorem endF_st {p : Int32 → Bool} {bt : Nat → Int32} {s len : Nat} (h : p (bt s) = true) (hs : s < len) : endF p bt s (len - s) = endF p bt (s + 1) (len - (s + 1)) := by
  rw [show len - s = (len - (s + 1)) + 1 by omega]
  show (if p (bt s) = true then endF p bt (s + 1) (len - (s + 1)) else s) = _
  rw [if_pos h]
theorem let_N {c : Nat} (hc : c < 128) (h : letB (nI c) = true) : ∃ x, 1 ≤ x ∧ x ≤ 26 ∧ c = 96 + x := by
  unfold letB at h
  rw [Bool.and_eq_true_iff, decide_eq_true_iff, decide_eq_true_iff] at h
  have h1 := (nI_leI (a := 97) (by decide) (by omega)).mp h.1
  have h2 := (nI_leI (b := 122) (by omega) (by decide)).mp h.2
  exact ⟨c - 96, by omega, by omega, by omega⟩
theorem mcd_st {v y : Nat} (hy : 1 ≤ y) : (27 : Int32) * nI v + nI (96 + y) - 96 = nI (27 * v + y) := by
  have e : (27 : Int32) * nI v = nI (27 * v) := (Int32.ofNat_mul 27 v).symm
  rw [e, nI_add, show 27 * v + (96 + y) = (27 * v + y) + 96 by omega, ← nI_add]
  exact Int32.add_sub_cancel _ _
def cdN (x : Nat → Nat) (a k v : Nat) : Nat := match k with
  | 0 => v
  | k + 1 => cdN x (a + 1) k (27 * v + x a)
theorem mcd_N {bt : Nat → Int32} {s : Nat} {x : Nat → Nat} : ∀ (k a v : Nat), (∀ i, a ≤ i → i < a + k → bt (s + i) = nI (96 + x i) ∧ 1 ≤ x i) → a + k ≤ 5 → mcd bt s (s + a) k (nI v) = nI (cdN x a k v) := by
  intro k
  induction k with
  | zero => intro a v _ _; rfl
  | succ k ih =>
    intro a v h ha
    unfold mcd cdN
    obtain ⟨e, h1⟩ := h a (Nat.le_refl _) (by omega)
    rw [if_pos (by omega), e, mcd_st h1]
    exact ih (a + 1) _ (fun i g1 g2 => h i (by omega) (by omega)) (by omega)
def zch (k i : Nat) : Nat := ((zbyt.getD k []).getD i 0).toNatClampNeg
theorem zch_I : ∀ k, k < 5 → ∀ i, i < 5 → ((zbyt.getD k []).getD i 0 &&& 255) = nI (zch k i) ∧ zch k i < 128 := by decide +kernel
theorem zlen_5 : ∀ k, k < 5 → zlen.getD k 0 ≤ 5 := by decide
theorem spl_iff {bt : Nat → Int32} {len s w k : Nat} {x : Nat → Nat} (hk : k < 5) (hq : s + w ≤ len) (hx : ∀ i, i < w → bt (s + i) = nI (96 + x i) ∧ x i ≤ 26) : splB bt len s (s + w) k = true ↔ w = zlen.getD k 0 ∧ ∀ i, i < w → 96 + x i = zch k i := by
  have h5 := zlen_5 k hk
  unfold splB
  rw [Bool.and_eq_true_iff, decide_eq_true_iff, allF_iff, Nat.add_sub_cancel_left]
  refine and_congr_right (fun hw => ?_)
  have e : ∀ i, i < w → (decide (byA bt len (s + i) = (zbyt.getD k []).getD i 0 &&& 255) = true ↔ 96 + x i = zch k i) := fun i hi => by
    obtain ⟨h1, h2⟩ := hx i hi
    obtain ⟨g1, g2⟩ := zch_I k hk i (by omega)
    unfold byA
    rw [decide_eq_true_iff, if_pos (by omega), h1, g1]
    exact nI_eq (by omega) (by omega)
  constructor
  · intro h i hi
    exact (e i hi).mp (h i (Nat.zero_le _) (by omega))
  · intro h i _ hi
    exact (e i (by omega)).mpr (h i (by omega))
theorem mean_N {c : Nat} (h : c < 2 ^ 31) : meanW (nI c) = if c = 419 then 2 else if c = 1887 then 0 else if c = 8995 then 1 else if c = 385418 then 4 else if c = 4075639 then 3 else 8 := by
  unfold meanW
  have f419 : nI c = 419 ↔ c = 419 := nI_eq h (b := 419) (by decide)
  have f1887 : nI c = 1887 ↔ c = 1887 := nI_eq h (b := 1887) (by decide)
  have f8995 : nI c = 8995 ↔ c = 8995 := nI_eq h (b := 8995) (by decide)
  have f385418 : nI c = 385418 ↔ c = 385418 := nI_eq h (b := 385418) (by decide)
  have f4075639 : nI c = 4075639 ↔ c = 4075639 := nI_eq h (b := 4075639) (by decide)
  by_cases e1 : c = 419
  · rw [if_pos e1, if_pos (f419.mpr e1)]
  · rw [if_neg e1, if_neg (fun z => e1 (f419.mp z))]
    by_cases e2 : c = 1887
    · rw [if_pos e2, if_pos (f1887.mpr e2)]
    · rw [if_neg e2, if_neg (fun z => e2 (f1887.mp z))]
      by_cases e3 : c = 8995
      · rw [if_pos e3, if_pos (f8995.mpr e3)]
      · rw [if_neg e3, if_neg (fun z => e3 (f8995.mp z))]
        by_cases e4 : c = 385418
        · rw [if_pos e4, if_pos (f385418.mpr e4)]
        · rw [if_neg e4, if_neg (fun z => e4 (f385418.mp z))]
          by_cases e5 : c = 4075639
          · rw [if_pos e5, if_pos (f4075639.mpr e5)]
          · rw [if_neg e5, if_neg (fun z => e5 (f4075639.mp z))]
/-- which word a word of w letters is, by its number -/
theorem word_k {w : Nat} {x : Nat → Nat} (h0 : 0 < w) (h5 : w ≤ 5) (hx : ∀ i, i < w → 1 ≤ x i ∧ x i ≤ 26) : cdN x 0 w 0 < 2 ^ 31 ∧ (cdN x 0 w 0 = 1887 ↔ w = 3 ∧ x 0 = 2 ∧ x 1 = 15 ∧ x 2 = 24) ∧ (cdN x 0 w 0 = 8995 ↔ w = 3 ∧ x 0 = 12 ∧ x 1 = 9 ∧ x 2 = 4) ∧ (cdN x 0 w 0 = 419 ↔ w = 2 ∧ x 0 = 15 ∧ x 1 = 14) ∧ (cdN x 0 w 0 = 4075639 ↔ w = 5 ∧ x 0 = 7 ∧ x 1 = 18 ∧ x 2 = 1 ∧ x 3 = 19 ∧ x 4 = 16) ∧ (cdN x 0 w 0 = 385418 ↔ w = 4 ∧ x 0 = 19 ∧ x 1 = 15 ∧ x 2 = 18 ∧ x 3 = 20) := by
  have a0 := hx 0 h0
  rcases (show w = 1 ∨ w = 2 ∨ w = 3 ∨ w = 4 ∨ w = 5 by omega) with rfl | rfl | rfl | rfl | rfl
  · show 27 * 0 + x 0 < 2 ^ 31 ∧ (27 * 0 + x 0 = 1887 ↔ _) ∧ (27 * 0 + x 0 = 8995 ↔ _) ∧ (27 * 0 + x 0 = 419 ↔ _) ∧ (27 * 0 + x 0 = 4075639 ↔ _) ∧ (27 * 0 + x 0 = 385418 ↔ _)
    omega
  · have a1 := hx 1 (by decide)
    have e : cdN x 0 2 0 = 27 * (27 * 0 + x 0) + x 1 := rfl
    rw [e]
    omega
  · have a1 := hx 1 (by decide)
    have a2 := hx 2 (by decide)
    have e : cdN x 0 3 0 = 27 * (27 * (27 * 0 + x 0) + x 1) + x 2 := rfl
    rw [e]
    omega
  · have a1 := hx 1 (by decide)
    have a2 := hx 2 (by decide)
    have a3 := hx 3 (by decide)
    have e : cdN x 0 4 0 = 27 * (27 * (27 * (27 * 0 + x 0) + x 1) + x 2) + x 3 := rfl
    rw [e]
    omega
  · have a1 := hx 1 (by decide)
    have a2 := hx 2 (by decide)
    have a3 := hx 3 (by decide)
    have a4 := hx 4 (by decide)
    have e : cdN x 0 5 0 = 27 * (27 * (27 * (27 * (27 * 0 + x 0) + x 1) + x 2) + x 3) + x 4 := rfl
    rw [e]
    omega
theorem word_eq {bt : Nat → Int32} {len s w : Nat} {x : Nat → Nat} (h0 : 0 < w) (hq : s + w ≤ len) (hx : ∀ i, i < w → bt (s + i) = nI (96 + x i) ∧ 1 ≤ x i ∧ x i ≤ 26) : (if 5 < w then (8 : Int32) else meanW (mcd bt s s w 0)) = sorM (if wnF bt len s (s + w) = -1 then 4 else 0) (wnF bt len s (s + w)) := by
  have sp : ∀ k, k < 5 → (splB bt len s (s + w) k = true ↔ w = zlen.getD k 0 ∧ ∀ i, i < w → 96 + x i = zch k i) := fun k hk => spl_iff hk hq (fun i hi => ⟨(hx i hi).1, (hx i hi).2.2⟩)
  have s0 : splB bt len s (s + w) 0 = true ↔ w = 3 ∧ x 0 = 2 ∧ x 1 = 15 ∧ x 2 = 24 := by
    rw [sp 0 (by decide)]
    constructor
    · rintro ⟨rfl, h⟩
      have g0 : 96 + x 0 = 98 := h 0 (by decide)
      have g1 : 96 + x 1 = 111 := h 1 (by decide)
      have g2 : 96 + x 2 = 120 := h 2 (by decide)
      exact ⟨rfl, by omega, by omega, by omega⟩
    · rintro ⟨rfl, g0, g1, g2⟩
      refine ⟨rfl, fun i hi => ?_⟩
      rcases (show i = 0 ∨ i = 1 ∨ i = 2 by omega) with rfl | rfl | rfl
      · rw [g0]; rfl
      · rw [g1]; rfl
      · rw [g2]; rfl
  have s1 : splB bt len s (s + w) 1 = true ↔ w = 3 ∧ x 0 = 12 ∧ x 1 = 9 ∧ x 2 = 4 := by
    rw [sp 1 (by decide)]
    constructor
    · rintro ⟨rfl, h⟩
      have g0 : 96 + x 0 = 108 := h 0 (by decide)
      have g1 : 96 + x 1 = 105 := h 1 (by decide)
      have g2 : 96 + x 2 = 100 := h 2 (by decide)
      exact ⟨rfl, by omega, by omega, by omega⟩
    · rintro ⟨rfl, g0, g1, g2⟩
      refine ⟨rfl, fun i hi => ?_⟩
      rcases (show i = 0 ∨ i = 1 ∨ i = 2 by omega) with rfl | rfl | rfl
      · rw [g0]; rfl
      · rw [g1]; rfl
      · rw [g2]; rfl
  have s2 : splB bt len s (s + w) 2 = true ↔ w = 2 ∧ x 0 = 15 ∧ x 1 = 14 := by
    rw [sp 2 (by decide)]
    constructor
    · rintro ⟨rfl, h⟩
      have g0 : 96 + x 0 = 111 := h 0 (by decide)
      have g1 : 96 + x 1 = 110 := h 1 (by decide)
      exact ⟨rfl, by omega, by omega⟩
    · rintro ⟨rfl, g0, g1⟩
      refine ⟨rfl, fun i hi => ?_⟩
      rcases (show i = 0 ∨ i = 1 by omega) with rfl | rfl
      · rw [g0]; rfl
      · rw [g1]; rfl
  have s3 : splB bt len s (s + w) 3 = true ↔ w = 5 ∧ x 0 = 7 ∧ x 1 = 18 ∧ x 2 = 1 ∧ x 3 = 19 ∧ x 4 = 16 := by
    rw [sp 3 (by decide)]
    constructor
    · rintro ⟨rfl, h⟩
      have g0 : 96 + x 0 = 103 := h 0 (by decide)
      have g1 : 96 + x 1 = 114 := h 1 (by decide)
      have g2 : 96 + x 2 = 97 := h 2 (by decide)
      have g3 : 96 + x 3 = 115 := h 3 (by decide)
      have g4 : 96 + x 4 = 112 := h 4 (by decide)
      exact ⟨rfl, by omega, by omega, by omega, by omega, by omega⟩
    · rintro ⟨rfl, g0, g1, g2, g3, g4⟩
      refine ⟨rfl, fun i hi => ?_⟩
      rcases (show i = 0 ∨ i = 1 ∨ i = 2 ∨ i = 3 ∨ i = 4 by omega) with rfl | rfl | rfl | rfl | rfl
      · rw [g0]; rfl
      · rw [g1]; rfl
      · rw [g2]; rfl
      · rw [g3]; rfl
      · rw [g4]; rfl
  have s4 : splB bt len s (s + w) 4 = true ↔ w = 4 ∧ x 0 = 19 ∧ x 1 = 15 ∧ x 2 = 18 ∧ x 3 = 20 := by
    rw [sp 4 (by decide)]
    constructor
    · rintro ⟨rfl, h⟩
      have g0 : 96 + x 0 = 115 := h 0 (by decide)
      have g1 : 96 + x 1 = 111 := h 1 (by decide)
      have g2 : 96 + x 2 = 114 := h 2 (by decide)
      have g3 : 96 + x 3 = 116 := h 3 (by decide)
      exact ⟨rfl, by omega, by omega, by omega, by omega⟩
    · rintro ⟨rfl, g0, g1, g2, g3⟩
      refine ⟨rfl, fun i hi => ?_⟩
      rcases (show i = 0 ∨ i = 1 ∨ i = 2 ∨ i = 3 by omega) with rfl | rfl | rfl | rfl
      · rw [g0]; rfl
      · rw [g1]; rfl
      · rw [g2]; rfl
      · rw [g3]; rfl
  have ew : wnF bt len s (s + w) = if splB bt len s (s + w) 0 = true then 0 else if splB bt len s (s + w) 1 = true then 1 else if splB bt len s (s + w) 2 = true then 2 else if splB bt len s (s + w) 3 = true then 3 else if splB bt len s (s + w) 4 = true then 4 else -1 := rfl
  by_cases h5 : 5 < w
  · rw [if_pos h5, ew, if_neg (fun z => absurd (s0.mp z).1 (by omega)), if_neg (fun z => absurd (s1.mp z).1 (by omega)), if_neg (fun z => absurd (s2.mp z).1 (by omega)), if_neg (fun z => absurd (s3.mp z).1 (by omega)), if_neg (fun z => absurd (s4.mp z).1 (by omega))]
    rfl
  · obtain ⟨k0, k1, k2, k3, k4, k5⟩ := word_k (x := x) h0 (by omega) (fun i hi => (hx i hi).2)
    have em : mcd bt s s w 0 = nI (cdN x 0 w 0) := mcd_N (x := x) w 0 0 (fun i _ hi => ⟨(hx i (by omega)).1, (hx i (by omega)).2.1⟩) (by omega)
    rw [if_neg h5, em, mean_N k0, ew]
    by_cases q0 : splB bt len s (s + w) 0 = true
    · rw [if_pos q0]
      have c := k1.mpr (s0.mp q0)
      rw [c]; rfl
    · rw [if_neg q0]
      by_cases q1 : splB bt len s (s + w) 1 = true
      · rw [if_pos q1]
        have c := k2.mpr (s1.mp q1)
        rw [c]; rfl
      · rw [if_neg q1]
        by_cases q2 : splB bt len s (s + w) 2 = true
        · rw [if_pos q2]
          have c := k3.mpr (s2.mp q2)
          rw [c]; rfl
        · rw [if_neg q2]
          by_cases q3 : splB bt len s (s + w) 3 = true
          · rw [if_pos q3]
            have c := k4.mpr (s3.mp q3)
            rw [c]; rfl
          · rw [if_neg q3]
            by_cases q4 : splB bt len s (s + w) 4 = true
            · rw [if_pos q4]
              have c := k5.mpr (s4.mp q4)
              rw [c]; rfl
            · rw [if_neg q4, if_neg (fun z => q2 (s2.mpr (k3.mp z))), if_neg (fun z => q0 (s0.mpr (k1.mp z))), if_neg (fun z => q1 (s1.mpr (k2.mp z))), if_neg (fun z => q4 (s4.mpr (k5.mp z))), if_neg (fun z => q3 (s3.mpr (k4.mp z)))]
              rfl
theorem fig_N {c : Nat} (hc : c < 128) (h : figB (nI c) = true) : 48 ≤ c ∧ c ≤ 57 := by
  unfold figB at h
  rw [Bool.and_eq_true_iff, decide_eq_true_iff, decide_eq_true_iff] at h
  exact ⟨(nI_leI (a := 48) (by decide) (by omega)).mp h.1, (nI_leI (b := 57) (by omega) (by decide)).mp h.2⟩
theorem num_eq {bt : Nat → Int32} {s w : Nat} (h0 : 0 < w) (h2 : w ≤ 2) : mnv bt s s w 0 = nvF bt s (min w 2) 0 := by
  rcases (show w = 1 ∨ w = 2 by omega) with rfl | rfl
  · show mnv bt s (s + 1) 0 (if s - s < 2 then 10 * 0 + bt s - 48 else 0) = nvF bt (s + 1) 0 (0 * 10 + bt s - 48)
    rw [if_pos (by omega)]
    rfl
  · show mnv bt s (s + 1 + 1) 0 (if s + 1 - s < 2 then 10 * (if s - s < 2 then 10 * 0 + bt s - 48 else 0) + bt (s + 1) - 48 else 0) = nvF bt (s + 1 + 1) 0 ((0 * 10 + bt s - 48) * 10 + bt (s + 1) - 48)
    rw [if_pos (by omega), if_pos (by omega), Int32.mul_comm 10]
    rfl
/-- the Model's token is the class's -/
theorem tok_eq {A : Nat → Nat → Int32} {I : Nat → Int32} {bt : Nat → Int32} {len e : Nat} {va : Int32} (ht : txtM A I bt len) (he : e ≤ len) : (mTk bt len e).1 = (tokS bt len e va).1 ∧ (mTk bt len e).2.1 = (tokS bt len e va).2.1 ∧ (mTk bt len e).2.2.1 = sorM (tokS bt len e va).2.2.1 (tokS bt len e va).2.2.2 ∧ ((tokS bt len e va).2.2.1 = 1 → (mTk bt len e).2.2.2 = (tokS bt len e va).2.2.2) := by
  unfold mTk tokS
  have es : endF spB bt e (len - e) = endF (fun c => decide (c = 32)) bt e (len - e) := rfl
  rw [es]
  have hle := endF_le (fun c => decide (c = 32)) bt (len - e) e
  generalize endF (fun c => decide (c = 32)) bt e (len - e) = s at hle
  by_cases hl : len ≤ s
  · rw [if_pos hl, if_pos hl]
    exact ⟨rfl, rfl, rfl, fun z => absurd (show (3 : Int32) = 1 from z) (by decide)⟩
  · rw [if_neg hl, if_neg hl]
    dsimp only
    obtain ⟨c0, hc0, ec0⟩ := (ht.2.2 s (by omega)).2
    by_cases h1 : letB (bt s) = true
    · rw [if_pos h1, if_pos h1, endF_st h1 (by omega)]
      have hq := endF_le letB bt (len - (s + 1)) (s + 1)
      have hall : ∀ i, s ≤ i → i < endF letB bt (s + 1) (len - (s + 1)) → letB (bt i) = true := fun i g1 g2 => by
        by_cases e1 : i = s
        · rw [e1]; exact h1
        · exact endF_all _ (s + 1) i (by omega) g2
      generalize endF letB bt (s + 1) (len - (s + 1)) = q at hq hall
      obtain ⟨w, rfl⟩ : ∃ w, q = s + w := ⟨q - s, by omega⟩
      rw [Nat.add_sub_cancel_left]
      have hx : ∀ i, ∃ y, i < w → bt (s + i) = nI (96 + y) ∧ 1 ≤ y ∧ y ≤ 26 := fun i => by
        by_cases hi : i < w
        · obtain ⟨c, hc, ec⟩ := (ht.2.2 (s + i) (by omega)).2
          have := hall (s + i) (by omega) (by omega)
          rw [ec] at this
          obtain ⟨y, y1, y2, rfl⟩ := let_N hc this
          exact ⟨y, fun _ => ⟨ec, y1, y2⟩⟩
        · exact ⟨0, fun z => absurd z hi⟩
      have hw := word_eq (bt := bt) (len := len) (s := s) (w := w) (x := fun i => (hx i).choose) (by omega) (by omega) (fun i hi => (hx i).choose_spec hi)
      refine ⟨rfl, rfl, hw, fun z => ?_⟩
      exfalso
      have z : (if wnF bt len s (s + w) = -1 then (4 : Int32) else 0) = 1 := z
      split at z <;> exact absurd z (by decide)
    · rw [if_neg h1, if_neg h1]
      by_cases h2 : figB (bt s) = true
      · rw [if_pos h2, if_pos h2, endF_st h2 (by omega)]
        have hq := endF_le figB bt (len - (s + 1)) (s + 1)
        generalize endF figB bt (s + 1) (len - (s + 1)) = q at hq
        refine ⟨rfl, rfl, ?_, fun z => ?_⟩
        · show (if 2 < q - s then (8 : Int32) else 5) = sorM (if 2 < q - s then 4 else 1) _
          split <;> rfl
        · have z : (if 2 < q - s then (4 : Int32) else 1) = 1 := z
          have h3 : ¬ 2 < q - s := fun g => by rw [if_pos g] at z; exact absurd z (by decide)
          exact num_eq (by omega) (by omega)
      · rw [if_neg h2, if_neg h2]
        refine ⟨rfl, rfl, ?_, fun z => ?_⟩
        · show (if bt s = 59 then (6 : Int32) else 8) = sorM (if bt s = 59 then 2 else 4) va
          split <;> rfl
        · have z : (if bt s = 59 then (2 : Int32) else 4) = 1 := z
          split at z <;> exact absurd z (by decide)
