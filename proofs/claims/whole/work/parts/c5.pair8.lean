/-! ===== lacking, soup, much, worth: both sides are the same ===== -/
theorem reachN_bit {g : Nat → Nat} {c : Nat} : ∀ (n s : Nat), s < 2 ^ n → ((reachN g n s).testBit c = true ↔ ∃ i, i < n ∧ s.testBit i = true ∧ (g i).testBit c = true) := by
  intro n
  induction n with
  | zero =>
    intro s _
    exact ⟨fun h => absurd h (by show ¬ (0 : Nat).testBit c = true; rw [Nat.zero_testBit]; decide), fun ⟨i, h, _⟩ => absurd h (by omega)⟩
  | succ n ih =>
    intro s hs
    unfold reachN
    by_cases e : 2 ^ n ≤ s
    · rw [if_pos e]
      obtain ⟨t, rfl⟩ : ∃ t, s = 2 ^ n + t := ⟨s - 2 ^ n, by omega⟩
      have ht : t < 2 ^ n := by rw [Nat.pow_succ] at hs; omega
      rw [Nat.add_sub_cancel_left, Nat.testBit_or, Bool.or_eq_true_iff, ih t ht]
      have bn : (2 ^ n + t).testBit n = true := by rw [Nat.testBit_two_pow_add_eq, tb_lt ht (Nat.le_refl _)]; rfl
      constructor
      · rintro (⟨i, h1, h2, h3⟩ | h)
        · exact ⟨i, by omega, by rw [Nat.testBit_two_pow_add_gt h1]; exact h2, h3⟩
        · exact ⟨n, by omega, bn, h⟩
      · rintro ⟨i, h1, h2, h3⟩
        by_cases e' : i = n
        · subst e'; exact Or.inr h3
        · rw [Nat.testBit_two_pow_add_gt (by omega)] at h2
          exact Or.inl ⟨i, by omega, h2, h3⟩
    · rw [if_neg e, ih s (by omega)]
      constructor
      · rintro ⟨i, h1, h2⟩
        exact ⟨i, by omega, h2⟩
      · rintro ⟨i, h1, h2, h3⟩
        by_cases e' : i = n
        · subst e'
          rw [tb_lt (r := i) (by omega) (Nat.le_refl _)] at h2
          exact absurd h2 (by decide)
        · exact ⟨i, by omega, h2, h3⟩
theorem reach_Nb {g g' : Nat → Nat} {n s : Nat} (hn : n ≤ 7) (hs : s < 2 ^ n) (hg : ∀ i, i < 7 → g' i < 128) (e : ∀ i, i < n → g' i = g i) : reachN g n s = Nb g' s := by
  have pn := pow_c hn
  refine eq_of7 (reachN_lt n s (fun i hi => by rw [← e i hi]; exact hg i (by omega))) (Nb_lt hg) (fun c _ => ?_)
  rw [reachN_bit n s hs, Nb_bit]
  constructor
  · rintro ⟨i, h1, h2, h3⟩
    exact ⟨i, by omega, h2, by rw [e i h1]; exact h3⟩
  · rintro ⟨i, h1, h2, h3⟩
    have : i < n := by
      refine Nat.lt_of_not_le (fun z => ?_)
      rw [tb_lt hs z] at h2
      exact absurd h2 (by decide)
    exact ⟨i, this, h2, by rw [← e i this]; exact h3⟩
theorem allF_iff {p : Nat → Bool} : ∀ (k i : Nat), allF p i k = true ↔ ∀ j, i ≤ j → j < i + k → p j = true := by
  intro k
  induction k with
  | zero => intro i; exact ⟨fun _ j h1 h2 => absurd h1 (by omega), fun _ => rfl⟩
  | succ k ih =>
    intro i
    unfold allF
    rw [Bool.and_eq_true_iff, ih]
    constructor
    · rintro ⟨h1, h2⟩ j h3 h4
      by_cases e : j = i
      · subst e; exact h1
      · exact h2 j (by omega) (by omega)
    · intro h
      exact ⟨h i (by omega) (by omega), fun j h1 h2 => h j (by omega) (by omega)⟩
theorem xor_rm : ∀ s, s < 128 → ∀ b, b < 7 → s.testBit b = true → s ^^^ 2 ^ b = andn s (2 ^ b) ∧ andn s (2 ^ b) < s := by decide +kernel
theorem bI_ne {b : Bool} : ¬ bI b = 0 ↔ b = true := by cases b <;> decide
/-- lidded, by the class: no set within lacks lids -/
theorem li_iff {g g' : Nat → Nat} {n : Nat} {re : Nat → Nat} {li : Nat → Int32} (hn : n ≤ 7) (hg : ∀ i, i < 7 → g' i < 128) (e : ∀ i, i < n → g' i = g i) (h : okCr n g re li) : ∀ s, s < 2 ^ n → (¬ li s = 0 ↔ Hl g' s) := by
  have pn := pow_c hn
  obtain ⟨h1, h2, h3⟩ := h
  intro s
  induction s using Nat.strongRecOn with
  | _ s ih =>
    intro hs
    have hs7 : s < 128 := by omega
    rw [h3 s hs, bI_ne]
    unfold hallS
    rw [Bool.and_eq_true_iff, decide_eq_true_iff, allF_iff, h1 s hs, reach_Nb hn hs hg e]
    have sub : ∀ b, b < 7 → s.testBit b = true → (¬ li (s ^^^ 2 ^ b) = 0 ↔ Hl g' (andn s (2 ^ b))) := by
      intro b hb hsb
      obtain ⟨x1, x2⟩ := xor_rm s hs7 b hb hsb
      rw [x1]
      exact ih _ x2 (by omega)
    constructor
    · rintro ⟨a1, a2⟩ T hT hTs
      by_cases eT : T = s
      · rw [eT]; exact a1
      · have : ∃ b, b < 7 ∧ s.testBit b = true ∧ T.testBit b = false := by
          refine Classical.byContradiction (fun z => eT ?_)
          refine eq_of7 hT hs7 (fun i hi => ⟨fun hb => sub_bit hTs hb, fun hb => ?_⟩)
          cases hq : T.testBit i with
          | true => rfl
          | false => exact absurd ⟨i, hi, hb, hq⟩ z
        obtain ⟨b, hb, hsb, hTb⟩ := this
        have a3 := a2 b (by omega) (by omega)
        rw [hsb] at a3
        have a4 : ¬ li (s ^^^ 2 ^ b) = 0 := by
          intro z
          rw [z] at a3
          exact absurd a3 (by decide)
        refine (sub b hb hsb).mp a4 T hT (sub_of hT (fun i hi hq => ?_))
        rw [andn_2 hs7 hb, sub_bit hTs hq]
        rw [decide_eq_false (fun z => by rw [← z, hTb] at hq; exact absurd hq (by decide))]
        rfl
    · intro hH
      refine ⟨hH s hs7 (Nat.and_self s), fun b _ hb => ?_⟩
      cases hsb : s.testBit b with
      | false => rfl
      | true =>
        have : ¬ li (s ^^^ 2 ^ b) = 0 := by
          refine (sub b (by omega) hsb).mpr (fun T hT hTs => hH T hT (sub_tr hTs ?_))
          refine sub_of (andn_lt hs7) (fun i hi hq => ?_)
          rw [andn_2 hs7 (by omega)] at hq
          exact (Bool.and_eq_true_iff.mp hq).1
        rw [decide_eq_false this]
        rfl
theorem lack4 : ∀ p, p < 8 → ∀ q, q < 8 → ∀ p', p' < 8 → ∀ q', q' < 8 → (0 < (nI p - nI q) - (nI p' - nI q') ↔ nI p' - nI q' < nI p - nI q) ∧ ((nI p - nI q) - (nI p' - nI q') = 0 ↔ nI p - nI q = nI p' - nI q') := by decide +kernel
section ZPAIR8
variable {d : Nat} {w w1 w2 : ZW} {C C' I0 I1 : Cup} {len : Nat} {bt : Nat → Int32} {fa fb : Int64} {m : Nat} {bd no fu : Int32} {A A' : Nat → Nat → Int32} {I : Nat → Int32} {Q : Option Value → ZW → Prop}
theorem la_sh {g' : Nat → Nat} {n : Nat} {re : Nat → Nat} (hn : n ≤ 7) (hg : ∀ i, i < 7 → g' i < 128) (hre : ∀ s, s < 2 ^ n → re s = Nb g' s) : ∀ (k i f : Nat), i + k = 2 ^ n → f < 2 ^ n → ((f = 0 ∧ laN g' 0 = 0) ∨ 0 < laN g' f) → laF g' i k f (laN g' f) = shF re i k f := by
  have pn := pow_c hn
  have eL : ∀ s, s < 2 ^ n → lackI re s = laN g' s := fun s hs => by unfold lackI laN; rw [hre s hs]
  have l4 : ∀ s f, s < 2 ^ n → f < 2 ^ n → (0 < laN g' s - laN g' f ↔ laN g' f < laN g' s) ∧ (laN g' s - laN g' f = 0 ↔ laN g' s = laN g' f) := by
    intro s f hs hf
    unfold laN
    exact lack4 _ (Nat.lt_succ_of_le (pop_le s (by omega))) _ (Nat.lt_succ_of_le (pop_le _ (Nb_lt hg))) _ (Nat.lt_succ_of_le (pop_le f (by omega))) _ (Nat.lt_succ_of_le (pop_le _ (Nb_lt hg)))
  intro k
  induction k with
  | zero => intro i f _ _ _; rfl
  | succ k ih =>
    intro i f hi hf hI
    unfold laF shF
    obtain ⟨l1, l2⟩ := l4 i f (by omega) hf
    rw [eL i (by omega), eL f hf]
    by_cases q : laN g' f < laN g' i ∨ (laN g' i = laN g' f ∧ 0 < laN g' i ∧ nI (pop7 i) < nI (pop7 f))
    · rw [if_pos q, if_pos (by rcases q with q | q; exact Or.inl (l1.mpr q); exact Or.inr ⟨l2.mpr q.1, q.2.2⟩)]
      refine ih (i + 1) i (by omega) (by omega) (Or.inr ?_)
      rcases q with q | q
      · rcases hI with ⟨e1, e2⟩ | h
        · rw [e1, e2] at q; exact q
        · exact Int32.lt_trans h q
      · exact q.2.1
    · rw [if_neg q, if_neg (fun z => q (by
        rcases z with z | z
        · exact Or.inl (l1.mp z)
        · refine Or.inr ⟨l2.mp z.1, ?_, z.2⟩
          rcases hI with ⟨e1, e2⟩ | h
          · exfalso
            have z2 := z.2
            rw [e1] at z2
            have hp := pop_le i (by omega)
            have := (nI_ltI (by omega) (by have := pop_le 0 (by decide); omega)).mp z2
            have p0 : pop7 0 = 0 := by decide
            omega
          · rw [l2.mp z.1]; exact h))]
      exact ih (i + 1) f (by omega) hf hI
theorem p_lacking (h : LI w) (hK : ∀ v w1, MR (d + 21) mX9_lacking [] (.int v) w1 → Q (some (.int v)) w1) : Zm (d + 21) mX8_lacking 0 0 [.ref 0] w Q := by
  obtain ⟨C, I0, I1, len, bt, fa, fb, m, bd, no, fu, A, I, hs, hm, hr⟩ := h
  obtain ⟨c0, c1, c2, c3, c4, c5⟩ := hr.cts
  obtain ⟨b0, b1, b2, b3, b4, b5⟩ := hr.bnd
  have pn0 : 0 < 2 ^ (C 0).1 := Nat.two_pow_pos _
  refine l_lacking hs hr.kL (fun w1 re li hok h1 o1 => ?_)
  have hm1 := hm.off o1 (Or.inr (by decide))
  refine hK _ _ ⟨⟨_, hm1.1⟩, fun Q' k => m_lacking hm1 hr.1 c0 b0 c1 b1 hr.mk (fun w2 B hS h2 o2 => ?_)⟩
  have z0 : laN (mG A (C 0).1 (C 1).1) 0 = 0 := by
    have : anyF (mG A (C 0).1 (C 1).1) 0 0 7 0 = 0 := eq_of7 (Nb_lt (fun i _ => mG_lt b1)) (by decide) (fun c _ => by
      rw [Nb_bit, Nat.zero_testBit]
      exact ⟨fun ⟨i, _, z, _⟩ => by rw [Nat.zero_testBit] at z; exact z, fun z => absurd z (by decide)⟩)
    unfold laN
    rw [this]
    decide
  have := la_sh (g' := mG A (C 0).1 (C 1).1) (re := re) b0 (fun i _ => mG_lt b1) (fun s hs' => by rw [hok.1 s hs']; exact reach_Nb b0 hs' (fun i _ => mG_lt b1) (fun i hi => hr.mask hi)) (2 ^ (C 0).1 - 1) 1 0 (by omega) pn0 (Or.inl ⟨rfl, z0⟩)
  rw [z0] at this
  rw [this]
  exact k w2 (LI.mk (h1.off o2 (by decide)) h2 (hr.same hS))
theorem LR.sum (h : LR C I0 I1 len bt m bd no fu A I) {s c : Nat} (hc : c < 5) : ∀ (k i : Nat) (a : Int32), i + k ≤ (C 0).1 → mSum A s c i k a = sumF (C 0).2 s c i k a := by
  intro k
  induction k with
  | zero => intro i a _; rfl
  | succ k ih =>
    intro i a hi
    unfold mSum sumF
    rw [h.box (by omega) hc, ih _ _ (by omega)]
    congr 1
    split
    · rw [Int32.one_mul]
    · rw [Int32.zero_mul, Int32.add_zero]
/-- what a box holds, its size -/
def vB (C : Cup) (c i : Nat) : Nat := ((C 0).2 (i * 5 + c)).toNatClampNeg
theorem LR.vb (h : LR C I0 I1 len bt m bd no fu A I) {i : Nat} (hi : i < (C 0).1) : ((C 0).2 (i * 5 + 1) = nI (vB C 1 i) ∧ vB C 1 i ≤ 9) ∧ (C 0).2 (i * 5 + 2) = nI (vB C 2 i) ∧ vB C 2 i ≤ 20 := by
  have w0 := (h.2.2.1.2.2.2.1.1 i hi).1
  obtain ⟨j, hj, e⟩ := n10 (m := 9) (by decide) (by decide) w0.2.1
  obtain ⟨j', hj', e'⟩ := n10 (m := 20) (by decide) (by decide) w0.2.2
  unfold vB
  rw [e, e', nI_clamp (by omega), nI_clamp (by omega)]
  exact ⟨⟨rfl, hj⟩, rfl, hj'⟩
theorem sumF_N {f : Nat → Int32} {v : Nat → Nat} {s c n : Nat} (e : ∀ i, i < n → f (i * 5 + c) = nI (v i)) : ∀ (k i : Nat), i + k ≤ n → sumF f s c i k (nI (wS v s i)) = nI (wS v s (i + k)) := by
  intro k
  induction k with
  | zero => intro i _; rfl
  | succ k ih =>
    intro i hi
    unfold sumF
    have := ih (i + 1) (by omega)
    rw [show i + 1 + k = i + (k + 1) by omega] at this
    rw [← this]
    congr 1
    show (if s.testBit i = true then nI (wS v s i) + f (i * 5 + c) else nI (wS v s i)) = nI (wS v s i + if s.testBit i = true then v i else 0)
    split
    · rw [e i (by omega), nI_add]
    · rw [Nat.add_zero]
theorem wS_le {v : Nat → Nat} {s M : Nat} : ∀ r, (∀ i, i < r → v i ≤ M) → wS v s r ≤ r * M := by
  intro r
  induction r with
  | zero => intro _; exact Nat.zero_le _
  | succ r ih =>
    intro h
    unfold wS
    have h1 := ih (fun i hi => h i (by omega))
    have h2 := h r (by omega)
    rw [Nat.succ_mul]
    split <;> omega
theorem wS_hi {v : Nat → Nat} {s n : Nat} (hs : s < 2 ^ n) : ∀ k, wS v s (n + k) = wS v s n := by
  intro k
  induction k with
  | zero => rfl
  | succ k ih =>
    show wS v s (n + k) + (if s.testBit (n + k) = true then v (n + k) else 0) = _
    rw [ih, tb_lt hs (by omega)]
    rfl
theorem LR.sm1 (h : LR C I0 I1 len bt m bd no fu A I) {s : Nat} : sumF (C 0).2 s 1 0 (C 0).1 0 = nI (wS (vB C 1) s (C 0).1) ∧ wS (vB C 1) s (C 0).1 ≤ 63 := by
  obtain ⟨b0, _⟩ := h.bnd
  have := sumF_N (f := (C 0).2) (v := vB C 1) (s := s) (c := 1) (n := (C 0).1) (fun i hi => (h.vb hi).1.1) (C 0).1 0 (by omega)
  rw [Nat.zero_add] at this
  refine ⟨this, ?_⟩
  have h2 := wS_le (v := vB C 1) (s := s) (M := 9) (C 0).1 (fun i hi => (h.vb hi).1.2)
  omega
theorem LR.sm2 (h : LR C I0 I1 len bt m bd no fu A I) {s : Nat} : sumF (C 0).2 s 2 0 (C 0).1 0 = nI (wS (vB C 2) s (C 0).1) ∧ wS (vB C 2) s (C 0).1 ≤ 140 := by
  obtain ⟨b0, _⟩ := h.bnd
  have := sumF_N (f := (C 0).2) (v := vB C 2) (s := s) (c := 2) (n := (C 0).1) (fun i hi => (h.vb hi).2.1) (C 0).1 0 (by omega)
  rw [Nat.zero_add] at this
  refine ⟨this, ?_⟩
  have h2 := wS_le (v := vB C 2) (s := s) (M := 20) (C 0).1 (fun i hi => (h.vb hi).2.2)
  omega
theorem and_full {x l : Nat} (h : x < 2 ^ l) : x &&& (2 ^ l - 1) = x := by
  rw [Nat.and_two_pow_sub_one_eq_mod, Nat.mod_eq_of_lt h]
theorem mG_lt2 {n l b : Nat} : mG A n l b < 2 ^ l := by
  unfold mG
  split
  · have := mskF_lt (fun i => mFit A 0 b (mLd A 0 i 0) (mLd A 0 i 1) (mLd A 0 i 2)) l 0 0 (by decide)
    rwa [Nat.zero_add] at this
  · exact Nat.two_pow_pos l
theorem LR.cov (h : LR C I0 I1 len bt m bd no fu A I) {s : Nat} {re : Nat → Nat} {li : Nat → Int32} (hok : okCr (C 0).1 (cMask C) re li) (hs : s < 2 ^ (C 0).1) : covB (mG A (C 0).1 (C 1).1) s (2 ^ (C 1).1 - 1) = true ↔ ¬ li s = 0 := by
  obtain ⟨b0, b1, _⟩ := h.bnd
  have pn := pow_c b0
  rw [cov_iff (by omega) (fun i _ => mG_lt b1), li_iff b0 (fun i _ => mG_lt b1) (fun i hi => h.mask hi) hok s hs, hall_iff (by omega) (fun i _ => mG_lt b1)]
  have e : (fun i => mG A (C 0).1 (C 1).1 i &&& (2 ^ (C 1).1 - 1)) = mG A (C 0).1 (C 1).1 := by
    funext i
    exact and_full mG_lt2
  rw [e]
theorem LR.soup (h : LR C I0 I1 len bt m bd no fu A I) {re : Nat → Nat} {li : Nat → Int32} {am : Int32} (hok : okCr (C 0).1 (cMask C) re li) : ∀ (k i : Nat) (fo le : Int32), i + k = 2 ^ (C 0).1 → ((fo = -1 ∧ le = 1073741824) ∨ ∃ j, j < 2 ^ (C 0).1 ∧ fo = nI j ∧ le = sumF (C 0).2 j 1 0 (C 0).1 0) → soF A (mG A (C 0).1 (C 1).1) (C 0).1 (2 ^ (C 1).1 - 1) am i k fo = lfF (C 0).2 (C 0).1 li am i k fo le := by
  obtain ⟨b0, b1, _⟩ := h.bnd
  have pn := pow_c b0
  intro k
  induction k with
  | zero => intro i fo le _ _; rfl
  | succ k ih =>
    intro i fo le hi hI
    have hc := h.cov hok (s := i) (by omega)
    unfold soF lfF
    rw [h.sum (by decide) _ _ _ (by omega), h.sum (by decide) _ _ _ (by omega), h.sum (by decide) _ _ _ (by omega)]
    have eq : ((am ≤ sumF (C 0).2 i 2 0 (C 0).1 0 ∧ (fo = -1 ∨ sumF (C 0).2 i 1 0 (C 0).1 0 < sumF (C 0).2 fo.toNatClampNeg 1 0 (C 0).1 0)) ∧ covB (mG A (C 0).1 (C 1).1) i (2 ^ (C 1).1 - 1) = true) ↔ (¬ li i = 0 ∧ sumF (C 0).2 i 1 0 (C 0).1 0 < le ∧ am ≤ sumF (C 0).2 i 2 0 (C 0).1 0) := by
      have key : (fo = -1 ∨ sumF (C 0).2 i 1 0 (C 0).1 0 < sumF (C 0).2 fo.toNatClampNeg 1 0 (C 0).1 0) ↔ sumF (C 0).2 i 1 0 (C 0).1 0 < le := by
        rcases hI with ⟨e1, e2⟩ | ⟨j, hj, e1, e2⟩
        · obtain ⟨s1, s2⟩ := h.sm1 (s := i)
          rw [e2, s1]
          exact ⟨fun _ => nI_lt (b := 1073741824) (by omega) (by decide), fun _ => Or.inl e1⟩
        · rw [e2, e1, nI_clamp (by omega)]
          have ne : ¬ nI j = -1 := by
            intro z
            have := congrArg Int32.toInt z
            rw [nI_toInt (by omega)] at this
            simp at this
          exact ⟨fun z => z.elim (fun z => absurd z ne) id, Or.inr⟩
      rw [key, hc]
      exact ⟨fun ⟨⟨a, b⟩, c⟩ => ⟨c, b, a⟩, fun ⟨c, b, a⟩ => ⟨⟨a, b⟩, c⟩⟩
    by_cases q : ¬ li i = 0 ∧ sumF (C 0).2 i 1 0 (C 0).1 0 < le ∧ am ≤ sumF (C 0).2 i 2 0 (C 0).1 0
    · rw [if_pos (eq.mpr q), if_pos q]
      exact ih (i + 1) _ _ (by omega) (Or.inr ⟨i, by omega, rfl, rfl⟩)
    · rw [if_neg (fun z => q (eq.mp z)), if_neg q]
      exact ih (i + 1) _ _ (by omega) hI
theorem p_soup {x y : Int32} (h : LI w) (hK : ∀ v w1, MR (d + 21) mX9_soup [.int x, .int y] (.int v) w1 → Q (some (.int v)) w1) : Zm (d + 21) mX8_soup 0 0 [.ref 0, .int x, .int y] w Q := by
  obtain ⟨C, I0, I1, len, bt, fa, fb, m, bd, no, fu, A, I, hs, hm, hr⟩ := h
  obtain ⟨c0, c1, c2, c3, c4, c5⟩ := hr.cts
  obtain ⟨b0, b1, b2, b3, b4, b5⟩ := hr.bnd
  have pn := pow_c b0
  refine l_soup hs hr.kL (fun q w1 h1 o1 => ?_) (fun q1 q2 w1 re li hok h1 o1 => ?_)
  · have hm1 := hm.off o1 (Or.inr (by decide))
    exact hK _ _ ⟨⟨_, hm1.1⟩, fun Q' k => m_soup hm1 hr.1 c0 b0 c1 b1 hr.mk (fun _ w2 h2 o2 => k w2 (LI.mk (h1.off o2 (by decide)) h2 hr.bad)) (fun z1 z2 => absurd ⟨z1, z2⟩ q)⟩
  · have hm1 := hm.off o1 (Or.inr (by decide))
    have eS := hr.soup (am := x) hok (2 ^ (C 0).1) 0 (-1) 1073741824 (by omega) (Or.inl ⟨rfl, rfl⟩)
    have hne : ∀ s, s < 2 ^ (C 0).1 → ¬ nI s = -1 := by
      intro s hs' z
      have := congrArg Int32.toInt z
      rw [nI_toInt (by omega)] at this
      simp at this
    refine ⟨fun v hv hc => hK _ _ ⟨⟨_, hm1.1⟩, fun Q' k => m_soup hm1 hr.1 c0 b0 c1 b1 hr.mk (fun z => absurd ⟨q1, q2⟩ z) (fun _ _ w2 B v' hv' hS h2 o2 => ⟨fun _ => ?_, fun s hs' e hy => ?_⟩)⟩, fun s hs' hv hy => hK _ _ ⟨⟨_, hm1.1⟩, fun Q' k => m_soup hm1 hr.1 c0 b0 c1 b1 hr.mk (fun z => absurd ⟨q1, q2⟩ z) (fun _ _ w2 B v' hv' hS h2 o2 => ⟨fun hc => ?_, fun t ht e _ => ?_⟩)⟩⟩
    · rw [hv', eS, hv]
      exact k w2 (LI.mk (h1.off o2 (by decide)) h2 (hr.same hS))
    · exfalso
      rw [hv', eS, hv] at e
      rcases hc with hc | hc
      · rw [hc] at e
        have := congrArg Int32.toInt e
        rw [nI_toInt (by omega)] at this
        simp at this
      · exact hy hc
    · exfalso
      rw [hv', eS, hv] at hc
      rcases hc with hc | hc
      · exact hne s hs' hc
      · exact hy hc
    · rw [hv', eS, hv] at e
      have e1 : s = t := (nI_eq (by omega) (by omega)).mp e
      subst e1
      rw [hr.sum (by decide) _ _ _ (by omega)]
      exact k w2 (LI.mk (h1.off o2 (by decide)) h2 (hr.same hS))
end ZPAIR8
