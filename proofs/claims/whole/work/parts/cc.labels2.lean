/-! ===== labels: the hints, the count of the Model ===== -/
theorem upb {g : Nat → Nat} {i j p o : Nat} : (va_up g i (g i ||| 2 ^ p) j).testBit o = true ↔ (g j).testBit o = true ∨ (j = i ∧ o = p) := by
  unfold va_up
  by_cases e : j = i
  · rw [if_pos e, tb_or, Bool.or_eq_true_iff, decide_eq_true_iff, e]
    exact ⟨fun z => z.elim Or.inl (fun q => Or.inr ⟨rfl, q.symm⟩), fun z => z.elim Or.inl (fun q => Or.inr q.2.symm)⟩
  · rw [if_neg e]
    exact ⟨Or.inl, fun z => z.elim id (fun q => absurd q.1 e)⟩
theorem ag_lem {S G E : Bool} {p q : Prop} [Decidable p] [Decidable q] : (!((S && E && !decide p) || (G && E && !decide q))) = true ↔ (E = true → (S = true → p) ∧ (G = true → q)) := by cases S <;> cases G <;> cases E <;> simp
section ZLAB2
variable {sz : Nat → Int32} {al le sm gr : Nat → Nat} {n : Nat} {l : List Nat} {m : HMs}
theorem szA_I {j : Nat} (h : j < 7) : szA sz (nI j) = sz j := by
  unfold szA
  rw [if_pos ⟨nI_pos' (by omega), nI_le (b := 6) (by omega) (by decide)⟩, nI_clamp (by omega)]
theorem cd_iff {f : Nat} (hn : n ≤ 7) (hle : le f < 128) (hl : l ∈ orders n) (hf : f < n) : cdB sz al le sm gr n l f = true ↔ (al f).testBit (lg l f) = true ∧ (∀ o, o < 7 → (le f).testBit o = true → o < n ∧ lg l o < lg l f) ∧ (sm f).testBit f = false ∧ ∀ o, o < n → lg l o < lg l f → ((sm f).testBit o = true → sz (lg l o) < sz (lg l f)) ∧ ((gr f).testBit o = true → sz (lg l f) < sz (lg l o)) := by
  have pn := pow_c hn
  obtain ⟨o1, o2, o3, o4⟩ := ord_p hl
  have pl : pmk (fun o => decide (lg l o < lg l f)) n < 128 := Nat.lt_of_lt_of_le (pmk_lt n) pn
  unfold cdB mayB
  rw [Bool.and_eq_true_iff, Bool.and_eq_true_iff, Bool.and_eq_true_iff, decide_eq_true_iff, allF_iff]
  have a1 : andn (le f) (pmk (fun o => decide (lg l o < lg l f)) n) = 0 ↔ ∀ o, o < 7 → (le f).testBit o = true → o < n ∧ lg l o < lg l f := by
    constructor
    · intro h o ho hb
      have := andn_bit (le f) hle _ pl o ho
      rw [h, Nat.zero_testBit, hb, pmk_bit] at this
      have : (decide (o < n) && decide (lg l o < lg l f)) = true := by simpa using this
      rw [Bool.and_eq_true_iff, decide_eq_true_iff, decide_eq_true_iff] at this
      exact this
    · intro h
      refine eq_of7 (andn_lt hle) (by decide) (fun o ho => ⟨fun hb => ?_, fun hb => by rw [Nat.zero_testBit] at hb; exact absurd hb (by decide)⟩)
      rw [andn_bit (le f) hle _ pl o ho, Bool.and_eq_true_iff] at hb
      obtain ⟨g1, g2⟩ := h o ho hb.1
      rw [pmk_bit, decide_eq_true g1, decide_eq_true g2] at hb
      exact absurd hb.2 (by decide)
  have a2 : (!(sm f).testBit f) = true ↔ (sm f).testBit f = false := by cases (sm f).testBit f <;> simp
  rw [a1, a2]
  refine and_congr_right (fun _ => and_congr_right (fun _ => and_congr_right (fun _ => ?_)))
  have ag : ∀ o, o < n → (agB sz (fun o => nI (lg l o)) (lg l f) (sm f &&& pmk (fun o => decide (lg l o < lg l f)) n) (gr f &&& pmk (fun o => decide (lg l o < lg l f)) n) o = true ↔ (lg l o < lg l f → ((sm f).testBit o = true → sz (lg l o) < sz (lg l f)) ∧ ((gr f).testBit o = true → sz (lg l f) < sz (lg l o)))) := by
    intro o ho
    unfold agB
    rw [Nat.testBit_and, Nat.testBit_and, pmk_bit, decide_eq_true ho, Bool.true_and, szA_I (by have := o2 o ho; omega), szA_I (by have := o2 f hf; omega)]
    rw [ag_lem, decide_eq_true_iff]
  exact ⟨fun h o ho => (ag o ho).mp (h o (Nat.zero_le _) (by omega)), fun h o _ ho => (ag o (by omega)).mpr (h o (by omega))⟩
/-- the order keeps to the masks -/
def CP (sz : Nat → Int32) (n : Nat) (l : List Nat) (m : HMs) : Prop := ∀ f, f < n → (m.1 f).testBit (lg l f) = true ∧ (∀ o, o < 7 → (m.2.1 f).testBit o = true → o < n ∧ lg l o < lg l f) ∧ (m.2.2.1 f).testBit f = false ∧ ∀ o, o < n → lg l o < lg l f → ((m.2.2.1 f).testBit o = true → sz (lg l o) < sz (lg l f)) ∧ ((m.2.2.2 f).testBit o = true → sz (lg l f) < sz (lg l o))
def hP (sz : Nat → Int32) (l : List Nat) (s f b : Nat) : Prop := if s = 0 then lg l f = b else if s = 1 then ¬ lg l f = b else if s = 2 then lg l f < lg l b else sz (lg l f) < sz (lg l b)
def bdM (n : Nat) (m : HMs) : Prop := ∀ i, i < n → m.1 i < 128 ∧ m.2.1 i < 128
theorem bd_heed {s f b : Nat} (hf : f < 7) (h : bdM n m) : bdM n (heedM s f b m) := by
  intro i hi
  obtain ⟨h1, h2⟩ := h i hi
  match s with
  | 0 =>
    refine ⟨?_, h2⟩
    show va_up m.1 f (m.1 f &&& 2 ^ b) i < 128
    unfold va_up
    split
    · next e => rw [← e]; exact Nat.lt_of_le_of_lt Nat.and_le_left h1
    · exact h1
  | 1 =>
    refine ⟨?_, h2⟩
    show va_up m.1 f (andn (m.1 f) (2 ^ b)) i < 128
    unfold va_up
    split
    · next e => rw [← e]; exact andn_lt h1
    · exact h1
  | 2 =>
    refine ⟨h1, ?_⟩
    show va_up m.2.1 b (m.2.1 b ||| 2 ^ f) i < 128
    unfold va_up
    split
    · next e => rw [← e]; exact Nat.or_lt_two_pow (n := 7) h2 (pow_7 f hf)
    · exact h2
  | s + 3 => exact ⟨h1, h2⟩
theorem CP_heed {s f b : Nat} (hn : n ≤ 7) (hl : l ∈ orders n) (hs : s < 4) (hf : f < n) (hb : b < n) (h : bdM n m) : CP sz n l (heedM s f b m) ↔ CP sz n l m ∧ hP sz l s f b := by
  obtain ⟨o1, o2, o3, o4⟩ := ord_p hl
  rcases (show s = 0 ∨ s = 1 ∨ s = 2 ∨ s = 3 by omega) with rfl | rfl | rfl | rfl
  · have key : ∀ i, i < n → ((va_up m.1 f (m.1 f &&& 2 ^ b) i).testBit (lg l i) = true ↔ (m.1 i).testBit (lg l i) = true ∧ (i = f → lg l f = b)) := by
      intro i hi
      unfold va_up
      by_cases e : i = f
      · subst e
        rw [if_pos rfl, Nat.testBit_and, Nat.testBit_two_pow, Bool.and_eq_true_iff, decide_eq_true_iff]
        exact ⟨fun z => ⟨z.1, fun _ => z.2.symm⟩, fun z => ⟨z.1, (z.2 rfl).symm⟩⟩
      · rw [if_neg e]
        exact ⟨fun z => ⟨z, fun q => absurd q e⟩, fun z => z.1⟩
    unfold hP
    rw [if_pos rfl]
    constructor
    · intro z
      exact ⟨fun i hi => ⟨((key i hi).mp (z i hi).1).1, (z i hi).2⟩, ((key f hf).mp (z f hf).1).2 rfl⟩
    · rintro ⟨z, q⟩ i hi
      exact ⟨(key i hi).mpr ⟨(z i hi).1, fun _ => q⟩, (z i hi).2⟩
  · have key : ∀ i, i < n → ((va_up m.1 f (andn (m.1 f) (2 ^ b)) i).testBit (lg l i) = true ↔ (m.1 i).testBit (lg l i) = true ∧ (i = f → ¬ lg l f = b)) := by
      intro i hi
      unfold va_up
      by_cases e : i = f
      · subst e
        rw [if_pos rfl, andn_2 (h i hi).1 (by omega), Bool.and_eq_true_iff]
        have e2 : (!decide (b = lg l i)) = true ↔ ¬ lg l i = b := by
          rw [Bool.not_eq_true', decide_eq_false_iff_not]
          exact ⟨fun z q => z q.symm, fun z q => z q.symm⟩
        rw [e2]
        exact ⟨fun z => ⟨z.1, fun _ => z.2⟩, fun z => ⟨z.1, z.2 rfl⟩⟩
      · rw [if_neg e]
        exact ⟨fun z => ⟨z, fun q => absurd q e⟩, fun z => z.1⟩
    unfold hP
    rw [if_neg (by decide), if_pos rfl]
    constructor
    · intro z
      exact ⟨fun i hi => ⟨((key i hi).mp (z i hi).1).1, (z i hi).2⟩, ((key f hf).mp (z f hf).1).2 rfl⟩
    · rintro ⟨z, q⟩ i hi
      exact ⟨(key i hi).mpr ⟨(z i hi).1, fun _ => q⟩, (z i hi).2⟩
  · unfold hP
    rw [if_neg (by decide), if_neg (by decide), if_pos rfl]
    constructor
    · intro z
      refine ⟨fun i hi => ⟨(z i hi).1, fun o ho hb' => (z i hi).2.1 o ho (upb.mpr (Or.inl hb')), (z i hi).2.2⟩, ?_⟩
      exact ((z b hb).2.1 f (by omega) (upb.mpr (Or.inr ⟨rfl, rfl⟩))).2
    · rintro ⟨z, q⟩ i hi
      refine ⟨(z i hi).1, fun o ho hb' => ?_, (z i hi).2.2⟩
      rcases upb.mp hb' with g | ⟨g1, g2⟩
      · exact (z i hi).2.1 o ho g
      · subst g1; subst g2; exact ⟨hf, q⟩
  · unfold hP
    rw [if_neg (by decide), if_neg (by decide), if_neg (by decide)]
    constructor
    · intro z
      refine ⟨fun i hi => ⟨(z i hi).1, (z i hi).2.1, ?_, fun o ho hlt => ⟨fun g => ((z i hi).2.2.2 o ho hlt).1 (upb.mpr (Or.inl g)), fun g => ((z i hi).2.2.2 o ho hlt).2 (upb.mpr (Or.inl g))⟩⟩, ?_⟩
      · cases e : (m.2.2.1 i).testBit i with
        | false => rfl
        | true =>
          have h1 := (z i hi).2.2.1
          rw [show ((heedM 3 f b m).2.2.1 i).testBit i = true from upb.mpr (Or.inl e)] at h1
          exact absurd h1 (by decide)
      · have hne : ¬ f = b := by
          intro e
          have h1 := (z b hb).2.2.1
          rw [show ((heedM 3 f b m).2.2.1 b).testBit b = true from upb.mpr (Or.inr ⟨rfl, e.symm⟩)] at h1
          exact absurd h1 (by decide)
        by_cases e : lg l f < lg l b
        · exact ((z b hb).2.2.2 f hf e).1 (upb.mpr (Or.inr ⟨rfl, rfl⟩))
        · have e2 : lg l b < lg l f := Nat.lt_of_le_of_ne (by omega) (fun q => hne (o3 f b hf hb q.symm))
          exact ((z f hf).2.2.2 b hb e2).2 (upb.mpr (Or.inr ⟨rfl, rfl⟩))
    · rintro ⟨z, q⟩ i hi
      refine ⟨(z i hi).1, (z i hi).2.1, ?_, fun o ho hlt => ⟨fun g => ?_, fun g => ?_⟩⟩
      · cases e : ((heedM 3 f b m).2.2.1 i).testBit i with
        | false => rfl
        | true =>
          rcases upb.mp e with g | ⟨g1, g2⟩
          · have := (z i hi).2.2.1
            rw [g] at this
            exact absurd this (by decide)
          · have e3 : f = b := g2.symm.trans g1
            rw [e3] at q
            first
              | exact absurd q Int32.lt_irrefl
              | exact absurd q (Int32.lt_irrefl _)
      · rcases upb.mp g with g | ⟨g1, g2⟩
        · exact ((z i hi).2.2.2 o ho hlt).1 g
        · rw [g1, g2]; exact q
      · rcases upb.mp g with g | ⟨g1, g2⟩
        · exact ((z i hi).2.2.2 o ho hlt).2 g
        · rw [g1, g2]; exact q
theorem CP_all {f4 : Nat → Int32} {H : Nat} (hn : n ≤ 7) (hl : l ∈ orders n) (hH : ∀ k, k < H → (f4 (k * 3)).toNatClampNeg < 4 ∧ (f4 (k * 3 + 1)).toNatClampNeg < n ∧ (f4 (k * 3 + 2)).toNatClampNeg < n) : ∀ (k i : Nat) (m : HMs), i + k = H → bdM n m → bdM n (hintAll f4 i k m) ∧ (CP sz n l (hintAll f4 i k m) ↔ CP sz n l m ∧ ∀ j, i ≤ j → j < H → hP sz l (f4 (j * 3)).toNatClampNeg (f4 (j * 3 + 1)).toNatClampNeg (f4 (j * 3 + 2)).toNatClampNeg) := by
  intro k
  induction k with
  | zero => intro i m hi h; exact ⟨h, ⟨fun z => ⟨z, fun j h1 h2 => absurd h1 (by omega)⟩, fun z => z.1⟩⟩
  | succ k ih =>
    intro i m hi h
    unfold hintAll
    obtain ⟨q1, q2, q3⟩ := hH i (by omega)
    obtain ⟨i1, i2⟩ := ih (i + 1) _ (by omega) (bd_heed (s := (f4 (i * 3)).toNatClampNeg) (f := (f4 (i * 3 + 1)).toNatClampNeg) (b := (f4 (i * 3 + 2)).toNatClampNeg) (by omega) h)
    refine ⟨i1, i2.trans ?_⟩
    rw [CP_heed hn hl q1 q2 q3 h]
    constructor
    · rintro ⟨⟨z1, z2⟩, z3⟩
      refine ⟨z1, fun j h1 h2 => ?_⟩
      by_cases e : j = i
      · rw [e]; exact z2
      · exact z3 j (by omega) h2
    · rintro ⟨z1, z2⟩
      exact ⟨⟨z1, z2 i (Nat.le_refl _) (by omega)⟩, fun j h1 h2 => z2 j (by omega) h2⟩
theorem CP_0 (hn : n ≤ 7) (hl : l ∈ orders n) (h : ∀ i, i < n → m.1 i = 127 ∧ m.2.1 i = 0 ∧ m.2.2.1 i = 0 ∧ m.2.2.2 i = 0) : CP sz n l m := by
  obtain ⟨o1, o2, o3, o4⟩ := ord_p hl
  intro f hf
  obtain ⟨h1, h2, h3, h4⟩ := h f hf
  rw [h1, h2, h3, h4]
  refine ⟨?_, fun o _ z => absurd z (by rw [Nat.zero_testBit]; decide), Nat.zero_testBit _, fun o _ _ => ⟨fun z => absurd z (by rw [Nat.zero_testBit]; decide), fun z => absurd z (by rw [Nat.zero_testBit]; decide)⟩⟩
  have := o2 f hf
  show (2 ^ 7 - 1).testBit (lg l f) = true
  rw [tb_m1]
  exact decide_eq_true (by omega)
theorem ofI_at {o : Nat → Nat} {f b : Nat} (hb : b < 7) : ∀ (k i : Nat) (o : Nat → Nat), (∀ j, i ≤ j → j < i + k → lg l j < 7) → ofI l i k o (7 * f + b) = o (7 * f + b) + if i ≤ f ∧ f < i + k ∧ lg l f = b then 1 else 0 := by
  intro k
  induction k with
  | zero => intro i o _; rw [if_neg (by omega)]; rfl
  | succ k ih =>
    intro i o h
    unfold ofI
    rw [ih (i + 1) _ (fun j h1 h2 => h j (by omega) (by omega))]
    unfold updN
    have h0 := h i (Nat.le_refl _) (by omega)
    have h0 : l.getD i 0 < 7 := h0
    by_cases e : 7 * f + b = 7 * i + l.getD i 0
    · have e1 : f = i := by omega
      have e2 : lg l f = b := by rw [e1]; show l.getD i 0 = b; omega
      rw [if_pos e, if_neg (by omega), if_pos ⟨by omega, by omega, e2⟩]
    · rw [if_neg e]
      congr 1
      by_cases e1 : f = i
      · have e2 : ¬ lg l f = b := fun z => e (by rw [e1] at z ⊢; have z : l.getD i 0 = b := z; omega)
        rw [if_neg (fun z => e2 z.2.2), if_neg (fun z => e2 z.2.2)]
      · by_cases e3 : i + 1 ≤ f ∧ f < i + 1 + k ∧ lg l f = b
        · rw [if_pos e3, if_pos ⟨by omega, by omega, e3.2.2⟩]
        · rw [if_neg e3, if_neg (fun z => e3 ⟨by omega, by omega, z.2.2⟩)]
end ZLAB2
theorem fwF_cn {P : List Nat → Bool} {n f b : Nat} (hf : f < n) (hb : b < 7) : ∀ (X : List (List Nat)) (v : Nat × (Nat → Nat)), (∀ l, l ∈ X → ∀ j, j < n → lg l j < 7) → (fwF P n X v).1 = v.1 + cn X (fun l => P l = true) ∧ (fwF P n X v).2 (7 * f + b) = v.2 (7 * f + b) + cn X (fun l => P l = true ∧ lg l f = b) := by
  intro X
  induction X with
  | nil => intro v _; exact ⟨rfl, rfl⟩
  | cons l X ih =>
    intro v h
    unfold fwF cn
    obtain ⟨i1, i2⟩ := ih (if P l = true then (v.1 + 1, ofI l 0 n v.2) else v) (fun m hm => h m (List.mem_cons_of_mem _ hm))
    rw [i1, i2]
    by_cases e : P l = true
    · rw [if_pos e, if_pos e]
      refine ⟨by omega, ?_⟩
      show ofI l 0 n v.2 (7 * f + b) + _ = _
      rw [ofI_at (o := v.2) hb n 0 v.2 (fun j _ hj => h l List.mem_cons_self j (by omega))]
      by_cases e2 : lg l f = b
      · rw [if_pos ⟨Nat.zero_le _, by omega, e2⟩, if_pos (show P l = true ∧ lg l f = b from ⟨e, e2⟩)]; omega
      · rw [if_neg (fun z => e2 z.2.2), if_neg (show ¬ (P l = true ∧ lg l f = b) from fun z => e2 z.2)]; omega
    · rw [if_neg e, if_neg e, if_neg (show ¬ (P l = true ∧ lg l f = b) from fun z => e z.1)]
      exact ⟨by omega, by omega⟩
