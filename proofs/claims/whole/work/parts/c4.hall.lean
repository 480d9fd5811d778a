/-! ===== Hall's theorem, for seven rows and seven columns ===== -/
abbrev Nb (g : Nat → Nat) (T : Nat) : Nat := anyF g T 0 7 0
theorem anyF_bit {g : Nat → Nat} {T c : Nat} : ∀ (k b a : Nat), (anyF g T b k a).testBit c = true ↔ a.testBit c = true ∨ ∃ i, b ≤ i ∧ i < b + k ∧ T.testBit i = true ∧ (g i).testBit c = true := by
  intro k
  induction k with
  | zero => intro b a; exact ⟨Or.inl, fun h => h.elim id (fun ⟨i, h1, h2, _⟩ => absurd h1 (by omega))⟩
  | succ k ih =>
    intro b a
    unfold anyF
    rw [ih, Nat.testBit_or, Bool.or_eq_true_iff]
    constructor
    · rintro ((h | h) | ⟨i, h1, h2, h3⟩)
      · exact Or.inl h
      · split at h
        · next hb => exact Or.inr ⟨b, by omega, by omega, hb, h⟩
        · rw [Nat.zero_testBit] at h; exact absurd h (by decide)
      · exact Or.inr ⟨i, by omega, by omega, h3⟩
    · rintro (h | ⟨i, h1, h2, h3, h4⟩)
      · exact Or.inl (Or.inl h)
      · by_cases e : i = b
        · subst e; exact Or.inl (Or.inr (by rw [if_pos h3]; exact h4))
        · exact Or.inr ⟨i, by omega, by omega, h3, h4⟩
theorem Nb_bit {g : Nat → Nat} {T c : Nat} : (Nb g T).testBit c = true ↔ ∃ i, i < 7 ∧ T.testBit i = true ∧ (g i).testBit c = true := by
  rw [anyF_bit]
  constructor
  · rintro (h | ⟨i, h1, h2, h3⟩)
    · rw [Nat.zero_testBit] at h; exact absurd h (by decide)
    · exact ⟨i, by omega, h3⟩
  · rintro ⟨i, h1, h2⟩
    exact Or.inr ⟨i, by omega, by omega, h2⟩
theorem Nb_lt {g : Nat → Nat} {T : Nat} (hg : ∀ i, i < 7 → g i < 128) : Nb g T < 128 := anyF_lt 7 0 0 (by decide) hg (by decide)
theorem pop_or : ∀ s, s < 128 → ∀ t, t < 128 → pop7 (s ||| t) = pop7 (andn s t) + pop7 t := by decide +kernel
theorem pop_mono : ∀ s, s < 128 → ∀ t, t < 128 → (s &&& t = s) → pop7 s ≤ pop7 t := by decide +kernel
theorem pop_sub : ∀ s, s < 128 → ∀ t, t < 128 → (t &&& s = t) → pop7 (andn s t) + pop7 t = pop7 s := by decide +kernel
theorem pop_0 : ∀ s, s < 128 → pop7 s = 0 → s = 0 := by decide +kernel
theorem pop_rm : ∀ s, s < 128 → ∀ c, c < 7 → pop7 s ≤ pop7 (andn s (2 ^ c)) + 1 := by decide +kernel
theorem pop_bit : ∀ s, s < 128 → 0 < pop7 s → ∃ i, i < 7 ∧ s.testBit i = true := by decide +kernel
theorem sub_of {s t : Nat} (hs : s < 128) (h : ∀ i, i < 7 → s.testBit i = true → t.testBit i = true) : s &&& t = s := by
  refine Nat.eq_of_testBit_eq (fun i => ?_)
  rw [Nat.testBit_and]
  cases hb : s.testBit i with
  | false => rfl
  | true =>
    by_cases hi : i < 7
    · rw [h i hi hb]; rfl
    · rw [tb_lt (r := 7) hs (by omega)] at hb; exact absurd hb (by decide)
theorem sub_bit {s t i : Nat} (h : s &&& t = s) (hb : s.testBit i = true) : t.testBit i = true := by
  rw [← h, Nat.testBit_and] at hb
  exact (Bool.and_eq_true_iff.mp hb).2
theorem eq_of7 {s t : Nat} (hs : s < 128) (ht : t < 128) (h : ∀ i, i < 7 → (s.testBit i = true ↔ t.testBit i = true)) : s = t := by
  refine Nat.eq_of_testBit_eq (fun i => ?_)
  by_cases hi : i < 7
  · exact Bool.eq_iff_iff.mpr (h i hi)
  · rw [tb_lt (r := 7) hs (by omega), tb_lt (r := 7) ht (by omega)]
theorem Nb_or {g : Nat → Nat} {X T : Nat} (hg : ∀ i, i < 7 → g i < 128) : Nb g (X ||| T) = Nb g X ||| Nb g T := by
  refine eq_of7 (Nb_lt hg) (or_lt (Nb_lt hg) (Nb_lt hg)) (fun c _ => ?_)
  rw [Nat.testBit_or, Bool.or_eq_true_iff, Nb_bit, Nb_bit, Nb_bit]
  constructor
  · rintro ⟨i, h1, h2, h3⟩
    rw [Nat.testBit_or] at h2
    rcases Bool.or_eq_true_iff.mp h2 with h2 | h2
    · exact Or.inl ⟨i, h1, h2, h3⟩
    · exact Or.inr ⟨i, h1, h2, h3⟩
  · rintro (⟨i, h1, h2, h3⟩ | ⟨i, h1, h2, h3⟩)
    · exact ⟨i, h1, by rw [Nat.testBit_or, h2, Bool.true_or], h3⟩
    · exact ⟨i, h1, by rw [Nat.testBit_or, h2, Bool.or_true], h3⟩
theorem Nb_andn {g : Nat → Nat} {X M : Nat} (hg : ∀ i, i < 7 → g i < 128) (hM : M < 128) : Nb (fun i => andn (g i) M) X = andn (Nb g X) M := by
  refine eq_of7 (Nb_lt (fun i hi => andn_lt (hg i hi))) (andn_lt (Nb_lt hg)) (fun c hc => ?_)
  rw [andn_bit _ (Nb_lt hg) _ hM _ hc, Bool.and_eq_true_iff, Nb_bit, Nb_bit]
  constructor
  · rintro ⟨i, h1, h2, h3⟩
    have h3 : (andn (g i) M).testBit c = true := h3
    rw [andn_bit _ (hg i h1) _ hM _ hc] at h3
    obtain ⟨h4, h5⟩ := Bool.and_eq_true_iff.mp h3
    exact ⟨⟨i, h1, h2, h4⟩, h5⟩
  · rintro ⟨⟨i, h1, h2, h3⟩, h4⟩
    refine ⟨i, h1, h2, ?_⟩
    show (andn (g i) M).testBit c = true
    rw [andn_bit _ (hg i h1) _ hM _ hc, h3, h4]
    rfl
/-- no set within s has too few columns -/
def Hl (g : Nat → Nat) (s : Nat) : Prop := ∀ T, T < 128 → T &&& s = T → pop7 T ≤ pop7 (Nb g T)
theorem sub_tr {a b c : Nat} (h1 : a &&& b = a) (h2 : b &&& c = b) : a &&& c = a := by
  refine Nat.eq_of_testBit_eq (fun i => ?_)
  rw [Nat.testBit_and]
  cases hb : a.testBit i with
  | false => rfl
  | true => rw [sub_bit h2 (sub_bit h1 hb)]; rfl
theorem hall : ∀ (N s : Nat) (g : Nat → Nat), s < 128 → pop7 s ≤ N → (∀ i, i < 7 → g i < 128) → Hl g s → ∃ a, Asg g s a := by
  intro N
  induction N with
  | zero =>
    intro s g hs hp hg hH
    have : s = 0 := pop_0 s hs (by omega)
    subst this
    exact ⟨fun _ => 0, Asg_0⟩
  | succ N ih =>
    intro s g hs hp hg hH
    by_cases h0 : pop7 s = 0
    · have : s = 0 := pop_0 s hs h0
      subst this
      exact ⟨fun _ => 0, Asg_0⟩
    · by_cases ht : ∃ T, T < 128 ∧ T &&& s = T ∧ T ≠ 0 ∧ T ≠ s ∧ pop7 T = pop7 (Nb g T)
      · obtain ⟨T, t1, t2, t3, t4, t5⟩ := ht
        have hU : andn s T < 128 := andn_lt hs
        have pU := pop_sub s hs T t1 t2
        have pT : 0 < pop7 T := Nat.pos_of_ne_zero (fun z => t3 (pop_0 T t1 z))
        have pT2 : pop7 T < pop7 s := by
          refine Nat.lt_of_le_of_ne (pop_mono T t1 s hs t2) (fun z => t4 (sub_pop T t1 s hs t2 z))
        have hNT := Nb_lt (T := T) hg
        obtain ⟨a1, A1⟩ := ih T g t1 (by omega) hg (fun X hX hXT => hH X hX (sub_tr hXT t2))
        obtain ⟨a2, A2⟩ := ih (andn s T) (fun i => andn (g i) (Nb g T)) hU (by omega) (fun i hi => andn_lt (hg i hi)) (by
          intro X hX hXU
          have e1 : andn X T = X := eq_of7 (andn_lt hX) hX (fun i hi => by
            rw [andn_bit _ hX _ t1 _ hi]
            constructor
            · intro h; exact (Bool.and_eq_true_iff.mp h).1
            · intro h
              have := sub_bit hXU h
              rw [andn_bit _ hs _ t1 _ hi] at this
              rw [h, (Bool.and_eq_true_iff.mp this).2]; rfl)
          have e2 : (X ||| T) &&& s = X ||| T := by
            refine sub_of (or_lt hX t1) (fun i hi hb => ?_)
            rw [Nat.testBit_or] at hb
            rcases Bool.or_eq_true_iff.mp hb with hb | hb
            · have := sub_bit hXU hb
              rw [andn_bit _ hs _ t1 _ hi] at this
              exact (Bool.and_eq_true_iff.mp this).1
            · exact sub_bit t2 hb
          have h1 := hH (X ||| T) (or_lt hX t1) e2
          rw [Nb_or hg, pop_or _ hX _ t1, e1, pop_or _ (Nb_lt hg) _ hNT] at h1
          rw [Nb_andn hg hNT]
          omega)
        have inT : ∀ i, i < 7 → T.testBit i = true → (Nb g T).testBit (a1 i) = true := fun i hi hb => Nb_bit.mpr ⟨i, hi, hb, (A1.1 i hi hb).2⟩
        have inU : ∀ i, i < 7 → s.testBit i = true → ¬ T.testBit i = true → (andn s T).testBit i = true := by
          intro i hi hb hn
          rw [andn_bit _ hs _ t1 _ hi, hb]
          have : T.testBit i = false := by simpa using hn
          rw [this]; rfl
        have noT : ∀ i, i < 7 → s.testBit i = true → ¬ T.testBit i = true → a2 i < 7 ∧ (g i).testBit (a2 i) = true ∧ (Nb g T).testBit (a2 i) = false := by
          intro i hi hb hn
          obtain ⟨y1, y2⟩ := A2.1 i hi (inU i hi hb hn)
          have y2 : (andn (g i) (Nb g T)).testBit (a2 i) = true := y2
          rw [andn_bit _ (hg i hi) _ hNT _ y1] at y2
          obtain ⟨y3, y4⟩ := Bool.and_eq_true_iff.mp y2
          exact ⟨y1, y3, by simpa using y4⟩
        refine ⟨fun i => if T.testBit i = true then a1 i else a2 i, fun i hi hb => ?_, fun i j hi hj hb hb' he => ?_⟩
        · show (if T.testBit i = true then a1 i else a2 i) < 7 ∧ (g i).testBit (if T.testBit i = true then a1 i else a2 i) = true
          by_cases e : T.testBit i = true
          · rw [if_pos e]; exact A1.1 i hi e
          · rw [if_neg e]; exact ⟨(noT i hi hb e).1, (noT i hi hb e).2.1⟩
        · have he : (if T.testBit i = true then a1 i else a2 i) = (if T.testBit j = true then a1 j else a2 j) := he
          by_cases e : T.testBit i = true
          · by_cases e' : T.testBit j = true
            · rw [if_pos e, if_pos e'] at he
              exact A1.2 i j hi hj e e' he
            · rw [if_pos e, if_neg e'] at he
              have h1 := inT i hi e
              rw [he, (noT j hj hb' e').2.2] at h1
              exact absurd h1 (by decide)
          · by_cases e' : T.testBit j = true
            · rw [if_neg e, if_pos e'] at he
              have h1 := inT j hj e'
              rw [← he, (noT i hi hb e).2.2] at h1
              exact absurd h1 (by decide)
            · rw [if_neg e, if_neg e'] at he
              exact A2.2 i j hi hj (inU i hi hb e) (inU j hj hb' e') he
      · obtain ⟨i0, hi0, hb0⟩ := pop_bit s hs (Nat.pos_of_ne_zero h0)
        have p0 := pow_7 i0 hi0
        have s0 : 2 ^ i0 &&& s = 2 ^ i0 := sub_of p0 (fun i hi hb => by
          rw [Nat.testBit_two_pow] at hb
          rw [← of_decide_eq_true hb]; exact hb0)
        have q1 : ∀ i, i < 7 → pop7 (2 ^ i) = 1 := by decide
        have h1 := hH _ p0 s0
        rw [q1 i0 hi0] at h1
        obtain ⟨c0, hc0, hcb⟩ := pop_bit _ (Nb_lt hg) h1
        obtain ⟨i1, hi1, hb1, hg1⟩ := Nb_bit.mp hcb
        rw [Nat.testBit_two_pow] at hb1
        have e1 := of_decide_eq_true hb1
        subst e1
        have hU : andn s (2 ^ i0) < 128 := andn_lt hs
        have pU := pop_sub s hs _ p0 s0
        rw [q1 i0 hi0] at pU
        have ub : ∀ i, (andn s (2 ^ i0)).testBit i = true ↔ s.testBit i = true ∧ i ≠ i0 := by
          intro i
          rw [andn_2 hs hi0, Bool.and_eq_true_iff]
          constructor
          · rintro ⟨z1, z2⟩
            exact ⟨z1, fun z => by rw [z, decide_eq_true rfl] at z2; exact absurd z2 (by decide)⟩
          · rintro ⟨z1, z2⟩
            exact ⟨z1, by rw [decide_eq_false (fun z => z2 z.symm)]; rfl⟩
        obtain ⟨a2, A2⟩ := ih (andn s (2 ^ i0)) (fun i => andn (g i) (2 ^ c0)) hU (by omega) (fun i hi => andn_lt (hg i hi)) (by
          intro X hX hXU
          rw [Nb_andn hg (pow_7 c0 hc0)]
          by_cases hX0 : X = 0
          · rw [hX0]; exact Nat.zero_le _
          · have hXs : X &&& s = X := sub_of hX (fun i _ hb => ((ub i).mp (sub_bit hXU hb)).1)
            have hne : X ≠ s := by
              intro z
              rw [z] at hXU
              exact ((ub i0).mp (sub_bit hXU hb0)).2 rfl
            have h2 := hH X hX hXs
            have h3 : pop7 X ≠ pop7 (Nb g X) := fun z => ht ⟨X, hX, hXs, hX0, hne, z⟩
            have h4 := pop_rm _ (Nb_lt (T := X) hg) c0 hc0
            omega)
        have no : ∀ i, i < 7 → s.testBit i = true → i ≠ i0 → a2 i < 7 ∧ (g i).testBit (a2 i) = true ∧ a2 i ≠ c0 := by
          intro i hi hb hn
          obtain ⟨y1, y2⟩ := A2.1 i hi ((ub i).mpr ⟨hb, hn⟩)
          have y2 : (andn (g i) (2 ^ c0)).testBit (a2 i) = true := y2
          rw [andn_2 (hg i hi) hc0] at y2
          obtain ⟨y3, y4⟩ := Bool.and_eq_true_iff.mp y2
          exact ⟨y1, y3, fun z => by rw [z, decide_eq_true rfl] at y4; exact absurd y4 (by decide)⟩
        refine ⟨fun i => if i = i0 then c0 else a2 i, fun i hi hb => ?_, fun i j hi hj hb hb' he => ?_⟩
        · show (if i = i0 then c0 else a2 i) < 7 ∧ (g i).testBit (if i = i0 then c0 else a2 i) = true
          by_cases e : i = i0
          · rw [if_pos e, e]; exact ⟨hc0, hg1⟩
          · rw [if_neg e]; exact ⟨(no i hi hb e).1, (no i hi hb e).2.1⟩
        · have he : (if i = i0 then c0 else a2 i) = (if j = i0 then c0 else a2 j) := he
          by_cases e : i = i0
          · by_cases e' : j = i0
            · rw [e, e']
            · rw [if_pos e, if_neg e'] at he
              exact absurd he.symm (no j hj hb' e').2.2
          · by_cases e' : j = i0
            · rw [if_neg e, if_pos e'] at he
              exact absurd he (no i hi hb e).2.2
            · rw [if_neg e, if_neg e'] at he
              exact A2.2 i j hi hj ((ub i).mpr ⟨hb, e⟩) ((ub j).mpr ⟨hb', e'⟩) he
/-- Hall's theorem, both ways -/
theorem hall_iff {g : Nat → Nat} {s : Nat} (hs : s < 128) (hg : ∀ i, i < 7 → g i < 128) : Hl g s ↔ ∃ a, Asg g s a := by
  constructor
  · exact hall (pop7 s) s g hs (Nat.le_refl _) hg
  · rintro ⟨a, h⟩ T hT hTs
    have hT1 : ∀ i, i < 7 → T.testBit i = true → a i < 7 := fun i hi hb => (h.1 i hi (sub_bit hTs hb)).1
    have e := imgF_pop (S := T) (a := a) 7 hT1 (fun i j hi hj h1 h2 => h.2 i j hi hj (sub_bit hTs h1) (sub_bit hTs h2))
    rw [nB_pop T hT] at e
    rw [← e]
    refine pop_mono _ (imgF_lt 7 hT1) _ (Nb_lt hg) (sub_of (imgF_lt 7 hT1) (fun c hc hb => ?_))
    obtain ⟨i, h1, h2, h3⟩ := (imgF_bit 7).mp hb
    exact Nb_bit.mpr ⟨i, h1, h2, by rw [← h3]; exact (h.1 i h1 (sub_bit hTs h2)).2⟩
