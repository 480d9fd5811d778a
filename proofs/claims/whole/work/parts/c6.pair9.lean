/-! ===== much, worth, shelf: both sides are the same ===== -/
section ZPAIR9
variable {d : Nat} {w w1 w2 : ZW} {C C' I0 I1 : Cup} {len : Nat} {bt : Nat → Int32} {fa fb : Int64} {m : Nat} {bd no fu : Int32} {A A' : Nat → Nat → Int32} {I : Nat → Int32} {Q : Option Value → ZW → Prop}
theorem muF_spec {g : Nat → Nat} {n cols : Nat} {W : Nat → Nat} (hW : ∀ s, s < 2 ^ n → mSum A s 2 0 n 0 = nI (W s) ∧ W s ≤ 140) : ∀ (k i m : Nat), i + k ≤ 2 ^ n → m ≤ 140 → ∃ M, muF A g n cols i k (nI m) = nI M ∧ m ≤ M ∧ (∀ s, i ≤ s → s < i + k → covB g s cols = true → W s ≤ M) ∧ (M = m ∨ ∃ s, i ≤ s ∧ s < i + k ∧ covB g s cols = true ∧ W s = M) := by
  intro k
  induction k with
  | zero => intro i m _ _; exact ⟨m, rfl, Nat.le_refl _, fun s h1 h2 => absurd h1 (by omega), Or.inl rfl⟩
  | succ k ih =>
    intro i m hi hm
    obtain ⟨e1, e2⟩ := hW i (by omega)
    unfold muF
    rw [e1]
    by_cases q : m < W i ∧ covB g i cols = true
    · rw [if_pos ⟨nI_lt q.1 (by omega), q.2⟩]
      obtain ⟨M, g1, g2, g3, g4⟩ := ih (i + 1) (W i) (by omega) e2
      refine ⟨M, g1, by omega, fun s h1 h2 h3 => ?_, ?_⟩
      · by_cases e : s = i
        · subst e; exact g2
        · exact g3 s (by omega) (by omega) h3
      · rcases g4 with g4 | ⟨s, h1, h2, h3⟩
        · exact Or.inr ⟨i, by omega, by omega, q.2, g4.symm⟩
        · exact Or.inr ⟨s, by omega, by omega, h3⟩
    · rw [if_neg (fun z => q ⟨(nI_ltI (by omega) (by omega)).mp z.1, z.2⟩)]
      obtain ⟨M, g1, g2, g3, g4⟩ := ih (i + 1) m (by omega) hm
      refine ⟨M, g1, g2, fun s h1 h2 h3 => ?_, ?_⟩
      · by_cases e : s = i
        · subst e
          have : ¬ m < W s := fun z => q ⟨z, h3⟩
          omega
        · exact g3 s (by omega) (by omega) h3
      · rcases g4 with g4 | ⟨s, h1, h2, h3⟩
        · exact Or.inl g4
        · exact Or.inr ⟨s, by omega, by omega, h3⟩
theorem LR.mch (h : LR C I0 I1 len bt m bd no fu A I) {t cols : Nat} (ht : t < 128) (hc : ∀ j, j < (C 1).1 → cols.testBit j = !t.testBit j) : muF A (mG A (C 0).1 (C 1).1) (C 0).1 cols 0 (2 ^ (C 0).1) 0 = cBest C 1 t := by
  obtain ⟨b0, b1, _⟩ := h.bnd
  have pn := pow_c b0
  have pl := pow_c b1
  have hop : ∀ i, i < (C 0).1 → cMask C i < 2 ^ (C 1).1 := fun i _ => cMask_lt2
  have eB : cBest C 1 t = nI (bstN (cMask C) (vB C 2) (C 1).1 (C 0).1 (C 0).1 t) := (bstR_N (v := vB C 2) b0 (fun i hi => ⟨(h.vb hi).2.1, by have := (h.vb hi).2.2; omega⟩) (C 0).1 t (Nat.le_refl _)).1
  obtain ⟨M, m1, m2, m3, m4⟩ := muF_spec (A := A) (g := mG A (C 0).1 (C 1).1) (n := (C 0).1) (cols := cols) (W := fun s => wS (vB C 2) s (C 0).1) (fun s hs => by
    rw [h.sum (by decide) _ _ _ (by omega)]
    exact h.sm2) (2 ^ (C 0).1) 0 0 (by omega) (by omega)
  have eq : ∀ i j, i < (C 0).1 → j < 7 → ((mG A (C 0).1 (C 1).1 i &&& cols).testBit j = true ↔ (andn (cMask C i) t).testBit j = true) := by
    intro i j hi hj
    rw [h.mask hi, andn_bit _ (Nat.lt_of_lt_of_le (hop i hi) pl) _ ht _ hj, Nat.testBit_and]
    by_cases e : j < (C 1).1
    · rw [hc j e]
    · rw [tb_lt (hop i hi) (by omega), Bool.false_and, Bool.false_and]
  have w7 : ∀ s, s < 2 ^ (C 0).1 → wS (vB C 2) s 7 = wS (vB C 2) s (C 0).1 := by
    intro s hs
    have := wS_hi (v := vB C 2) hs (7 - (C 0).1)
    rwa [show (C 0).1 + (7 - (C 0).1) = 7 by omega] at this
  have inN : ∀ s i, s < 2 ^ (C 0).1 → s.testBit i = true → i < (C 0).1 := by
    intro s i hs hb
    refine Nat.lt_of_not_le (fun z => ?_)
    rw [tb_lt hs z] at hb
    exact absurd hb (by decide)
  obtain ⟨S, a, g1, g2, g3, g4⟩ := bst_at (v := vB C 2) b0 b1 hop (C 0).1 t (Nat.le_refl _) ht
  have hS : S < 2 ^ (C 0).1 := by
    refine Nat.lt_pow_two_of_testBit S (fun i hi => ?_)
    cases hb : S.testBit i with
    | false => rfl
    | true =>
      by_cases h7 : i < 7
      · have := g2 i h7 hb; omega
      · rw [tb_lt (r := 7) g1 (by omega)] at hb; exact absurd hb (by decide)
  have l1 := m3 S (by omega) (by omega) ((cov_iff g1 (fun i _ => mG_lt b1)).mpr ⟨a, Asg_congr g3 (fun i j hi hj hs hb => (eq i j (inN S i hS hs) hj).mpr hb)⟩)
  have l1 : wS (vB C 2) S (C 0).1 ≤ M := l1
  rw [w7 S hS] at g4
  have l2 : M ≤ bstN (cMask C) (vB C 2) (C 1).1 (C 0).1 (C 0).1 t := by
    rcases m4 with m4 | ⟨s, h1, h2, h3, h4⟩
    · omega
    · obtain ⟨a', ha'⟩ := (cov_iff (by omega) (fun i _ => mG_lt b1)).mp h3
      have hs : s < 2 ^ (C 0).1 := by omega
      have := bst_ub (v := vB C 2) b0 b1 hop (C 0).1 t s a' (Nat.le_refl _) ht (by omega) (fun i hi hb => by have := inN s i hs hb; omega) (Asg_congr ha' (fun i j hi hj hb hz => (eq i j (inN s i hs hb) hj).mp hz))
      rw [w7 s hs] at this
      have h4 : wS (vB C 2) s (C 0).1 = M := h4
      omega
  rw [eB]
  refine m1.trans (congrArg nI ?_)
  omega
theorem p_much (h : LI w) (hK : ∀ v w1, MR (d + 21) mX9_much [] (.int v) w1 → Q (some (.int v)) w1) : Zm (d + 21) mX8_much 0 0 [.ref 0] w Q := by
  obtain ⟨C, I0, I1, len, bt, fa, fb, m, bd, no, fu, A, I, hs, hm, hr⟩ := h
  obtain ⟨c0, c1, c2, c3, c4, c5⟩ := hr.cts
  obtain ⟨b0, b1, b2, b3, b4, b5⟩ := hr.bnd
  refine l_much hs hr.kL (fun w1 h1 o1 => ?_)
  have hm1 := hm.off o1 (Or.inr (by decide))
  refine hK _ _ ⟨⟨_, hm1.1⟩, fun Q' k => m_much hm1 hr.1 c0 b0 c1 b1 hr.mk (fun w2 B hS h2 o2 => ?_)⟩
  rw [hr.mch (t := 0) (by decide) (fun j hj => by rw [tb_m1, decide_eq_true hj, Nat.zero_testBit]; rfl)]
  exact k w2 (LI.mk (h1.off o2 (by decide)) h2 (hr.same hS))
theorem p_worth {x : Int32} (h : LI w) (hK : ∀ v w1, MR (d + 21) mX9_worth [.int x] (.int v) w1 → Q (some (.int v)) w1) : Zm (d + 21) mX8_worth 0 0 [.ref 0, .int x] w Q := by
  obtain ⟨C, I0, I1, len, bt, fa, fb, m, bd, no, fu, A, I, hs, hm, hr⟩ := h
  obtain ⟨c0, c1, c2, c3, c4, c5⟩ := hr.cts
  obtain ⟨b0, b1, b2, b3, b4, b5⟩ := hr.bnd
  have pl := pow_c b1
  have pl0 : 0 < 2 ^ (C 1).1 := Nat.two_pow_pos _
  refine l_worth hs hr.kL (fun q w1 h1 o1 => ?_) (fun r hr' ex w1 h1 o1 => ?_)
  · have hm1 := hm.off o1 (Or.inr (by decide))
    exact hK _ _ ⟨⟨_, hm1.1⟩, fun Q' k => m_worth hm1 hr.1 c0 b0 c1 b1 hr.mk (fun _ w2 h2 o2 => k w2 (LI.mk (h1.off o2 (by decide)) h2 hr.bad)) (fun r hr' e => absurd e (q r hr'))⟩
  · have hm1 := hm.off o1 (Or.inr (by decide))
    refine hK _ _ ⟨⟨_, hm1.1⟩, fun Q' k => m_worth hm1 hr.1 c0 b0 c1 b1 hr.mk (fun q => absurd ex (q r hr')) (fun s hs' e w2 B hS h2 o2 => ?_)⟩
    have e1 : s = r := (nI_eq (by omega) (by omega)).mp (e.symm.trans ex)
    subst e1
    rw [hr.mch (t := 0) (by decide) (fun j hj => by rw [tb_m1, decide_eq_true hj, Nat.zero_testBit]; rfl), hr.mch (t := 2 ^ s) (pow_7 s (by omega)) (fun j hj => by rw [andn_2 (by omega) (by omega), tb_m1, decide_eq_true hj, Nat.testBit_two_pow]; rfl)]
    exact k w2 (LI.mk (h1.off o2 (by decide)) h2 (hr.same hS))
/-- the best box is the one that is ahead of all others that don't stand yet -/
theorem bestF_s {st n s : Nat} (hn : n ≤ 7) (hs : s < n) (hst : st.testBit s = false) (hb : ∀ b, b < n → st.testBit b = false → ¬ b = s → mB A 0 b 3 < mB A 0 s 3 ∨ (mB A 0 b 3 = mB A 0 s 3 ∧ s < b)) : ∀ (k b : Nat) (best : Int32), b + k = n → ((b ≤ s ∧ (best = -1 ∨ ∃ j, j < b ∧ st.testBit j = false ∧ best = nI j)) ∨ (s < b ∧ best = nI s)) → bestF A st b k best = nI s := by
  intro k
  induction k with
  | zero =>
    intro b best hk h
    rcases h with ⟨h1, _⟩ | ⟨_, h2⟩
    · omega
    · exact h2
  | succ k ih =>
    intro b best hk h
    unfold bestF
    rcases h with ⟨h1, h2⟩ | ⟨h1, h2⟩
    · by_cases e : b = s
      · subst e
        have q : st.testBit b = false ∧ (best = -1 ∨ mB A 0 best.toNatClampNeg 3 < mB A 0 b 3) := by
          refine ⟨hst, ?_⟩
          rcases h2 with h2 | ⟨j, hj, hj2, h2⟩
          · exact Or.inl h2
          · right
            rw [h2, nI_clamp (by omega)]
            rcases hb j (by omega) hj2 (by omega) with z | ⟨_, z⟩
            · exact z
            · omega
        rw [if_pos q]
        exact ih _ _ (by omega) (Or.inr ⟨by omega, rfl⟩)
      · refine ih _ _ (by omega) (Or.inl ⟨by omega, ?_⟩)
        split
        · next q => exact Or.inr ⟨b, by omega, q.1, rfl⟩
        · rcases h2 with h2 | ⟨j, hj, h3⟩
          · exact Or.inl h2
          · exact Or.inr ⟨j, by omega, h3⟩
    · rw [if_neg (fun q => by
        rcases q.2 with z | z
        · rw [h2] at z; exact nI_m1 s (by omega) z
        · rw [h2, nI_clamp (by omega)] at z
          rcases hb b (by omega) q.1 (by omega) with y | ⟨y, _⟩
          · exact absurd (Int32.lt_trans z y) Int32.lt_irrefl
          · rw [y] at z; exact Int32.lt_irrefl z)]
      exact ih _ _ (by omega) (Or.inr ⟨by omega, h2⟩)
theorem LR.shelf (h : LR C I0 I1 len bt m bd no fu A I) : ∀ p, p ≤ (C 0).1 → (∀ b, b < (C 0).1 → ((stS A (C 0).1 p).testBit b = true ↔ placeN (gK C) (C 0).1 b < p)) ∧ (p < (C 0).1 → itM A (C 0).1 p = itS (gK C) (C 0).1 p) := by
  obtain ⟨b0, _⟩ := h.bnd
  have kk : ∀ i, i < (C 0).1 → mB A 0 i 3 = gK C i := fun i hi => h.box hi (by decide)
  have item : ∀ p, p < (C 0).1 → (∀ b, b < (C 0).1 → ((stS A (C 0).1 p).testBit b = true ↔ placeN (gK C) (C 0).1 b < p)) → ∃ s, s < (C 0).1 ∧ placeN (gK C) (C 0).1 s = p ∧ itM A (C 0).1 p = s ∧ itS (gK C) (C 0).1 p = s := by
    intro p hp hst
    obtain ⟨s, hs, hpl, e⟩ := item_ok (ks := gK C) b0 hp
    have st0 : ∀ b, b < (C 0).1 → p ≤ placeN (gK C) (C 0).1 b → (stS A (C 0).1 p).testBit b = false := by
      intro b hb hq
      cases z : (stS A (C 0).1 p).testBit b with
      | false => rfl
      | true => have := (hst b hb).mp z; omega
    refine ⟨s, hs, hpl, ?_, by unfold itS; rw [e, nI_clamp (by omega)]⟩
    unfold itM bsN
    rw [bestF_s (A := A) (st := stS A (C 0).1 p) b0 hs (st0 s hs (by omega)) (fun b hb hz hne => ?_) (C 0).1 0 (-1) (by omega) (Or.inl ⟨by omega, Or.inl rfl⟩), nI_clamp (by omega)]
    rw [kk b hb, kk s hs]
    have hpb : ¬ placeN (gK C) (C 0).1 b < p := fun z => by rw [(hst b hb).mpr z] at hz; exact absurd hz (by decide)
    rcases ahead_tot (ks := gK C) hne with q | q
    · rcases ahead_iff.mp q with z | ⟨z1, z2⟩
      · exact Or.inl z
      · exact Or.inr ⟨z1.symm, z2⟩
    · have := place_lt hb q
      omega
  intro p
  induction p with
  | zero =>
    intro hp
    have h0 : ∀ b, b < (C 0).1 → ((stS A (C 0).1 0).testBit b = true ↔ placeN (gK C) (C 0).1 b < 0) := fun b _ => ⟨fun z => absurd z (by show ¬ (0 : Nat).testBit b = true; rw [Nat.zero_testBit]; decide), fun z => absurd z (Nat.not_lt_zero _)⟩
    refine ⟨h0, fun hp => ?_⟩
    obtain ⟨s, _, _, e1, e2⟩ := item 0 hp h0
    rw [e1, e2]
  | succ p ih =>
    intro hp
    obtain ⟨i1, _⟩ := ih (by omega)
    obtain ⟨s, hs, hpl, e1, e2⟩ := item p (by omega) i1
    have h0 : ∀ b, b < (C 0).1 → ((stS A (C 0).1 (p + 1)).testBit b = true ↔ placeN (gK C) (C 0).1 b < p + 1) := by
      intro b hb
      show (stS A (C 0).1 p ||| 2 ^ itM A (C 0).1 p).testBit b = true ↔ _
      rw [tb_or, Bool.or_eq_true_iff, i1 b hb, decide_eq_true_iff, e1]
      constructor
      · rintro (z | z)
        · omega
        · rw [← z]; omega
      · intro z
        by_cases e : placeN (gK C) (C 0).1 b = p
        · exact Or.inr (place_inj hs hb (hpl.trans e.symm))
        · exact Or.inl (by omega)
    refine ⟨h0, fun hp => ?_⟩
    obtain ⟨s', _, _, e1', e2'⟩ := item (p + 1) hp h0
    rw [e1', e2']
theorem LR.cost (h : LR C I0 I1 len bt m bd no fu A I) : ∀ (k i : Nat) (a : Int32), i + k ≤ (C 0).1 → csM A (C 0).1 i k a = shC C (gK C) i k a := by
  obtain ⟨b0, _⟩ := h.bnd
  intro k
  induction k with
  | zero => intro i a _; rfl
  | succ k ih =>
    intro i a hi
    unfold csM shC
    obtain ⟨_, e⟩ := h.shelf i (by omega)
    have e := e (by omega)
    have hl := (itS_ok (ks := gK C) b0 (show i < (C 0).1 by omega)).1
    rw [e, h.box hl (by decide), Int32.mul_comm]
    exact ih _ _ (by omega)
theorem p_shelf {x : Int32} (h : LI w) (hK : ∀ v w1, MR (d + 21) mX9_shelf [.int x] (.int v) w1 → Q (some (.int v)) w1) : Zm (d + 21) mX8_shelf 0 0 [.ref 0, .int x] w Q := by
  obtain ⟨C, I0, I1, len, bt, fa, fb, m, bd, no, fu, A, I, hs, hm, hr⟩ := h
  obtain ⟨c0, c1, c2, c3, c4, c5⟩ := hr.cts
  obtain ⟨b0, b1, b2, b3, b4, b5⟩ := hr.bnd
  refine l_shelf hs (fun q w1 h1 o1 => ?_) (fun q q2 => ?_) (fun ex w1 h1 o1 => ?_) (fun q ne q2 w1 h1 o1 => ?_)
  · have hm1 := hm.off o1 (Or.inr (by decide))
    refine hK _ _ ⟨⟨_, hm1.1⟩, fun Q' k => m_shelf hm1 hr.1 c0 b0 (fun _ w2 h2 o2 => k w2 (LI.mk (h1.off o2 (by decide)) h2 hr.bad)) (fun z => absurd z q) (fun e => absurd (by rw [e]; decide) q) (fun j hj e => absurd ?_ q)⟩
    rw [e]
    exact Int32.le_trans (by decide) (nI_pos' (by omega))
  · exact hK _ _ ⟨⟨_, hm.1⟩, fun Q' k => m_shelf hm hr.1 c0 b0 (fun z => absurd q z) (fun _ _ => k w (LI.mk hs hm hr)) (fun e => absurd (by rw [e]; exact Int32.lt_of_lt_of_le (by decide) (nI_pos' (by omega))) q2) (fun j hj e => absurd (by rw [e]; exact nI_lt hj (by omega)) q2)⟩
  · have hm1 := hm.off o1 (Or.inr (by decide))
    refine hK _ _ ⟨⟨_, hm1.1⟩, fun Q' k => m_shelf hm1 hr.1 c0 b0 (fun z => absurd (by rw [ex]; decide) z) (fun _ z => absurd (by rw [ex]; exact Int32.lt_of_lt_of_le (by decide) (nI_pos' (by omega))) z) (fun _ => ?_) (fun j hj e => absurd (e.symm.trans ex) (nI_m1 j (by omega)))⟩
    rw [hr.cost _ _ _ (by omega)]
    exact k w1 (LI.mk h1 hm1 hr)
  · have hm1 := hm.off o1 (Or.inr (by decide))
    refine hK _ _ ⟨⟨_, hm1.1⟩, fun Q' k => m_shelf hm1 hr.1 c0 b0 (fun z => absurd q z) (fun _ z => absurd q2 z) (fun e => absurd e ne) (fun j hj e => ?_)⟩
    rw [((hr.shelf j (by omega)).2 hj), ← (itS_ok (ks := gK C) b0 hj).2, ← e]
    exact k w1 (LI.mk h1 hm1 hr)
end ZPAIR9
