/-! ===== labels: both sides are the same ===== -/
theorem fwF_1 {P : List Nat → Bool} {n : Nat} : ∀ (X : List (List Nat)) (v : Nat × (Nat → Nat)), (fwF P n X v).1 = v.1 + cn X (fun l => P l = true) := by
  intro X
  induction X with
  | nil => intro v; rfl
  | cons l X ih =>
    intro v
    unfold fwF cn
    rw [ih]
    by_cases e : P l = true
    · rw [if_pos e, if_pos e]; exact Nat.add_assoc _ _ _
    · rw [if_neg e, if_neg e, Nat.zero_add]
theorem cn_0 {p : List Nat → Prop} : ∀ X : List (List Nat), cn X p = 0 → ∀ l, l ∈ X → ¬ p l := by
  intro X
  induction X with
  | nil => intro _ l hl; exact absurd hl List.not_mem_nil
  | cons l X ih =>
    intro h m hm hp
    unfold cn at h
    rcases List.mem_cons.mp hm with rfl | hm
    · rw [if_pos hp] at h; omega
    · exact ih (by omega) m hm hp
theorem wsF_spec {o : Nat → Nat} {b : Nat} : ∀ (m k a : Nat), a ≤ wsF o b k m a ∧ (∀ f, k ≤ f → f < k + m → o (7 * f + b) ≤ wsF o b k m a) ∧ ((∀ f, k ≤ f → f < k + m → o (7 * f + b) ≤ 35280) → a ≤ 35280 → wsF o b k m a ≤ 35280) := by
  intro m
  induction m with
  | zero => intro k a; exact ⟨Nat.le_refl _, fun f h1 h2 => absurd h1 (by omega), fun _ h => h⟩
  | succ m ih =>
    intro k a
    unfold wsF
    obtain ⟨i1, i2, i3⟩ := ih (k + 1) (if a < o (7 * k + b) then o (7 * k + b) else a)
    have hm : a ≤ (if a < o (7 * k + b) then o (7 * k + b) else a) ∧ o (7 * k + b) ≤ (if a < o (7 * k + b) then o (7 * k + b) else a) := by split <;> omega
    refine ⟨by omega, fun f h1 h2 => ?_, fun h1 h2 => i3 (fun f g1 g2 => h1 f (by omega) (by omega)) ?_⟩
    · by_cases e : f = k
      · subst e; omega
      · exact i2 f (by omega) (by omega)
    · have := h1 k (by omega) (by omega)
      split <;> omega
section ZLAB3
variable {o : Nat → Nat} {wy : Nat → Int32} {n : Nat}
theorem worst_N {b : Nat} (h : ∀ f, f < n → wy (b * 7 + f) = nI (o (7 * f + b)) ∧ o (7 * f + b) ≤ 35280) : ∀ (k i a : Nat), i + k ≤ n → a ≤ 35280 → worstF wy b i k (nI a) = nI (wsF o b i k a) := by
  intro k
  induction k with
  | zero => intro i a _ _; rfl
  | succ k ih =>
    intro i a hi ha
    unfold worstF wsF
    obtain ⟨e, hl⟩ := h i (by omega)
    rw [e]
    by_cases q : a < o (7 * i + b)
    · rw [if_pos q, if_pos ((nI_ltI (by omega) (by omega)).mpr q)]
      exact ih (i + 1) _ (by omega) hl
    · rw [if_neg q, if_neg (fun z => q ((nI_ltI (by omega) (by omega)).mp z))]
      exact ih (i + 1) _ (by omega) ha
theorem open_0 (h : ∀ i, i < n → worstF wy i 0 n 0 = 0) : ∀ (k i : Nat) (fo fe : Int32), i + k = n → openF wy n i k fo fe = fo := by
  intro k
  induction k with
  | zero => intro i fo fe _; rfl
  | succ k ih =>
    intro i fo fe hi
    unfold openF
    rw [if_neg (fun z => by rw [h i (by omega)] at z; exact absurd z.1 (by decide))]
    exact ih (i + 1) fo fe (by omega)
theorem open_lb (h : ∀ b, b < n → worstF wy b 0 n 0 = nI (wsF o b 0 n 0) ∧ 0 < wsF o b 0 n 0 ∧ wsF o b 0 n 0 ≤ 35280) (hn : n ≤ 7) : ∀ (k i : Nat) (fo fe : Int32) (le : Nat), i + k = n → ((fo = -1 ∧ fe = 1073741824) ∨ (¬ fo = -1 ∧ fe = nI le ∧ le ≤ 35280)) → openF wy n i k fo fe = lbF o n i k fo le := by
  intro k
  induction k with
  | zero => intro i fo fe le _ _; rfl
  | succ k ih =>
    intro i fo fe le hi hc
    unfold openF lbF
    obtain ⟨h1, h2, h3⟩ := h i (by omega)
    rw [h1]
    have p0 : 0 < nI (wsF o i 0 n 0) := nI_lt (a := 0) h2 (by omega)
    rcases hc with ⟨e1, e2⟩ | ⟨e1, e2, e3⟩
    · rw [if_pos ⟨p0, by rw [e2]; exact nI_lt (b := 1073741824) (by omega) (by decide)⟩, if_pos (Or.inl e1)]
      exact ih (i + 1) _ _ _ (by omega) (Or.inr ⟨nI_nm1 (by omega), rfl, h3⟩)
    · by_cases q : wsF o i 0 n 0 < le
      · rw [if_pos ⟨p0, by rw [e2]; exact nI_lt q (by omega)⟩, if_pos (Or.inr q)]
        exact ih (i + 1) _ _ _ (by omega) (Or.inr ⟨nI_nm1 (by omega), rfl, h3⟩)
      · rw [if_neg (fun z => q (by rw [e2] at z; exact (nI_ltI (by omega) (by omega)).mp z.2)), if_neg (fun z => z.elim e1 q)]
        exact ih (i + 1) _ _ _ (by omega) (Or.inr ⟨e1, e2, e3⟩)
end ZLAB3
section ZPAIR12
variable {d : Nat} {w w1 w2 : ZW} {C C' I0 I1 : Cup} {len : Nat} {bt : Nat → Int32} {fa fb : Int64} {m : Nat} {bd no fu : Int32} {A A' : Nat → Nat → Int32} {I : Nat → Int32} {Q : Option Value → ZW → Prop}
abbrev hN (C : Cup) (c k : Nat) : Nat := ((C 4).2 (k * 3 + c)).toNatClampNeg
theorem LR.hin (h : LR C I0 I1 len bt m bd no fu A I) {k : Nat} (hk : k < (C 4).1) : ((C 4).2 (k * 3) = nI (hN C 0 k) ∧ hN C 0 k ≤ 3) ∧ ((C 4).2 (k * 3 + 1) = nI (hN C 1 k) ∧ hN C 1 k < (C 0).1) ∧ (C 4).2 (k * 3 + 2) = nI (hN C 2 k) ∧ hN C 2 k < (C 0).1 := by
  obtain ⟨b0, _⟩ := h.bnd
  obtain ⟨w0, ⟨r1, w1, e1⟩, r2, w2, e2⟩ := h.2.2.1.2.2.2.1.2.2.2 k hk
  obtain ⟨j, hj, e⟩ := n10 (m := 3) (by decide) (by decide) w0
  unfold hN
  rw [show k * 3 + 0 = k * 3 from rfl, e, e1, e2, nI_clamp (by omega), nI_clamp (by omega), nI_clamp (by omega)]
  exact ⟨⟨rfl, hj⟩, ⟨rfl, w1⟩, rfl, w2⟩
theorem LR.okH (h : LR C I0 I1 len bt m bd no fu A I) : okH C := fun u hu => by
  obtain ⟨⟨a1, a2⟩, ⟨a3, a4⟩, a5, a6⟩ := h.hin hu
  exact ⟨hN C 0 u, hN C 1 u, hN C 2 u, by omega, a4, a6, a1, a3, a5⟩
theorem LR.hok (h : LR C I0 I1 len bt m bd no fu A I) {sz : Nat → Int32} {l : List Nat} (hl : l ∈ orders (C 0).1) (hs : ∀ i, i < (C 0).1 → sz i = (C 0).2 (i * 5 + 1)) {k : Nat} (hk : k < (C 4).1) : hOk A (hN C 0) (hN C 1) (hN C 2) l k = true ↔ hP sz l (hN C 0 k) (hN C 1 k) (hN C 2 k) := by
  obtain ⟨o1, o2, o3, o4⟩ := ord_p hl
  obtain ⟨⟨a1, a2⟩, ⟨a3, a4⟩, a5, a6⟩ := h.hin hk
  unfold hOk hP
  have e : ∀ f, f < (C 0).1 → mB A 0 (l.getD f 0) 1 = sz (lg l f) := fun f hf => by
    rw [hs _ (o2 f hf), h.box (o2 f hf) (by decide)]
  rw [e _ a4, e _ a6]
  by_cases q0 : hN C 0 k = 0
  · rw [if_pos q0, if_pos q0, decide_eq_true_iff]
  · rw [if_neg q0, if_neg q0]
    by_cases q1 : hN C 0 k = 1
    · rw [if_pos q1, if_pos q1, Bool.not_eq_true', decide_eq_false_iff_not]
    · rw [if_neg q1, if_neg q1]
      by_cases q2 : hN C 0 k = 2
      · rw [if_pos q2, if_pos q2, decide_eq_true_iff]
      · rw [if_neg q2, if_neg q2, decide_eq_true_iff]
theorem LR.lab (h : LR C I0 I1 len bt m bd no fu A I) {ways : Int32} {wy : Nat → Int32} (hL : labOk C ways wy) : ways = nI (fwO A (hN C 0) (hN C 1) (hN C 2) (C 4).1 (C 0).1).1 ∧ ∀ b f, b < (C 0).1 → f < (C 0).1 → wy (b * 7 + f) = nI ((fwO A (hN C 0) (hN C 1) (hN C 2) (C 4).1 (C 0).1).2 (7 * f + b)) := by
  obtain ⟨b0, _⟩ := h.bnd
  obtain ⟨sz, pl, wy', m0, mm, z1, z2, rfl, z4, z5⟩ := hL
  have hW : Wy (C 0).1 0 0 pl := ⟨fun _ => 0, fun f hf => absurd hf (by rw [Nat.zero_testBit]; decide), fun f _ hf => absurd hf (by rw [Nat.zero_testBit]; decide), fun b hb => absurd hb (Nat.not_lt_zero _)⟩
  obtain ⟨w1, -, w3⟩ := wF_cn (sz := sz) (al := (hintAll (C 4).2 0 (C 4).1 m0).1) (le := (hintAll (C 4).2 0 (C 4).1 m0).2.1) (sm := (hintAll (C 4).2 0 (C 4).1 m0).2.2.1) (gr := (hintAll (C 4).2 0 (C 4).1 m0).2.2.2) b0 (C 0).1 0 0 pl wy' (by omega) (Nat.two_pow_pos _) hW
  have bd0 : bdM (C 0).1 m0 := fun i hi => by
    obtain ⟨-, q1, q2, -⟩ := z1 i hi
    rw [q1, q2]
    exact ⟨by decide, by decide⟩
  have eqP : ∀ l, l ∈ orders (C 0).1 → (St sz (hintAll (C 4).2 0 (C 4).1 m0).1 (hintAll (C 4).2 0 (C 4).1 m0).2.1 (hintAll (C 4).2 0 (C 4).1 m0).2.2.1 (hintAll (C 4).2 0 (C 4).1 m0).2.2.2 (C 0).1 0 0 pl l ↔ allF (hOk A (hN C 0) (hN C 1) (hN C 2) l) 0 (C 4).1 = true) := by
    intro l hl
    obtain ⟨c1, c2⟩ := CP_all (sz := sz) (f4 := (C 4).2) (H := (C 4).1) b0 hl (fun k hk => by
      obtain ⟨⟨a1, a2⟩, ⟨a3, a4⟩, a5, a6⟩ := h.hin hk
      exact ⟨Nat.lt_succ_of_le a2, a4, a6⟩) (C 4).1 0 m0 (by omega) bd0
    have s1 : St sz (hintAll (C 4).2 0 (C 4).1 m0).1 (hintAll (C 4).2 0 (C 4).1 m0).2.1 (hintAll (C 4).2 0 (C 4).1 m0).2.2.1 (hintAll (C 4).2 0 (C 4).1 m0).2.2.2 (C 0).1 0 0 pl l ↔ CP sz (C 0).1 l (hintAll (C 4).2 0 (C 4).1 m0) := by
      constructor
      · intro z f hf
        exact (cd_iff b0 (c1 f hf).2 hl hf).mp (z.2 f hf (Nat.zero_le _))
      · intro z
        refine ⟨fun f _ => ⟨⟨fun q => absurd q (by rw [Nat.zero_testBit]; decide), fun q => absurd q (Nat.not_lt_zero _)⟩, fun q => absurd q (by rw [Nat.zero_testBit]; decide)⟩, fun f hf _ => (cd_iff b0 (c1 f hf).2 hl hf).mpr (z f hf)⟩
    rw [s1, c2, allF_iff]
    constructor
    · rintro ⟨-, z⟩ j _ hj
      exact (h.hok hl (fun i hi => (z1 i hi).1) (by omega)).mpr (z j (Nat.zero_le _) (by omega))
    · intro z
      exact ⟨CP_0 b0 hl (fun i hi => (z1 i hi).2), fun j _ hj => (h.hok hl (fun i hi => (z1 i hi).1) hj).mp (z j (Nat.zero_le _) (by omega))⟩
  have e1 := cn_congr (orders (C 0).1) eqP
  refine ⟨?_, fun b f hb hf => ?_⟩
  · rw [z4, w1, e1]
    unfold fwO
    rw [fwF_1, Nat.zero_add]
  · obtain ⟨-, g2⟩ := fwF_cn (P := fun l => allF (hOk A (hN C 0) (hN C 1) (hN C 2) l) 0 (C 4).1) (b := b) hf (by omega) (orders (C 0).1) (0, fun _ => 0) (fun l hl j hj => by have := (ord_p hl).2.1 j hj; omega)
    rw [z5, w3 b f hb hf, z2 _ (by omega), if_pos (Nat.zero_le _), Int32.zero_add]
    unfold fwO
    rw [g2]
    show _ = nI (0 + _)
    rw [Nat.zero_add]
    congr 1
    exact cn_congr (orders (C 0).1) (fun l hl => and_congr_left (fun _ => eqP l hl))
theorem msk_eq {p q : Nat → Bool} {n : Nat} (h : ∀ b, b < n → p b = q b) : ∀ (k i a : Nat), i + k = n → mskF p i k a = mskF q i k a := by
  intro k
  induction k with
  | zero => intro i a _; rfl
  | succ k ih =>
    intro i a hi
    unfold mskF
    rw [h i (by omega)]
    exact ih (i + 1) _ (by omega)
theorem LR.lab2 (h : LR C I0 I1 len bt m bd no fu A I) {ways : Int32} {wy : Nat → Int32} (hL : labOk C ways wy) : openF wy (C 0).1 0 (C 0).1 (-1) 1073741824 = if (fwO A (hN C 0) (hN C 1) (hN C 2) (C 4).1 (C 0).1).1 = 0 then -1 else lbF (fwO A (hN C 0) (hN C 1) (hN C 2) (C 4).1 (C 0).1).2 (C 0).1 0 (C 0).1 (-1) 0 := by
  obtain ⟨b0, _⟩ := h.bnd
  obtain ⟨-, e2⟩ := h.lab hL
  have le : ∀ j, (fwO A (hN C 0) (hN C 1) (hN C 2) (C 4).1 (C 0).1).2 j ≤ 35280 := fun j => (fwO_le b0).2
  have wN : ∀ b, b < (C 0).1 → worstF wy b 0 (C 0).1 0 = nI (wsF (fwO A (hN C 0) (hN C 1) (hN C 2) (C 4).1 (C 0).1).2 b 0 (C 0).1 0) := fun b hb => worst_N (n := (C 0).1) (fun f hf => ⟨e2 b f hb hf, le _⟩) (C 0).1 0 0 (by omega) (by decide)
  have cnt : ∀ b f, b < (C 0).1 → f < (C 0).1 → (fwO A (hN C 0) (hN C 1) (hN C 2) (C 4).1 (C 0).1).2 (7 * f + b) = cn (orders (C 0).1) (fun l => allF (hOk A (hN C 0) (hN C 1) (hN C 2) l) 0 (C 4).1 = true ∧ lg l f = b) := fun b f hb hf => by
    obtain ⟨-, g2⟩ := fwF_cn (P := fun l => allF (hOk A (hN C 0) (hN C 1) (hN C 2) l) 0 (C 4).1) (b := b) hf (by omega) (orders (C 0).1) (0, fun _ => 0) (fun l hl j hj => by have := (ord_p hl).2.1 j hj; omega)
    unfold fwO
    rw [g2]
    exact Nat.zero_add _
  have c1 : (fwO A (hN C 0) (hN C 1) (hN C 2) (C 4).1 (C 0).1).1 = cn (orders (C 0).1) (fun l => allF (hOk A (hN C 0) (hN C 1) (hN C 2) l) 0 (C 4).1 = true) := by
    unfold fwO
    rw [fwF_1]
    exact Nat.zero_add _
  by_cases e : (fwO A (hN C 0) (hN C 1) (hN C 2) (C 4).1 (C 0).1).1 = 0
  · rw [if_pos e]
    refine open_0 (fun i hi => ?_) _ _ _ _ (by omega)
    rw [wN i hi]
    have hz : ∀ f, f < (C 0).1 → (fwO A (hN C 0) (hN C 1) (hN C 2) (C 4).1 (C 0).1).2 (7 * f + i) = 0 := fun f hf => by
      rw [cnt i f hi hf]
      exact cn_none _ (fun l hl z => cn_0 _ (c1.symm.trans e) l hl z.1)
    have ws0 : ∀ (o : Nat → Nat) (b n : Nat), (∀ f, f < n → o (7 * f + b) = 0) → ∀ m k, k + m = n → wsF o b k m 0 = 0 := by
      intro o b n ho m
      induction m with
      | zero => intro k _; rfl
      | succ m ih =>
        intro k hk
        unfold wsF
        rw [ho k (by omega), if_neg (Nat.lt_irrefl 0)]
        exact ih (k + 1) (by omega)
    rw [ws0 _ i (C 0).1 hz (C 0).1 0 (by omega)]
    rfl
  · rw [if_neg e]
    refine open_lb (fun b hb => ⟨wN b hb, ?_, (wsF_spec (C 0).1 0 0).2.2 (fun f _ _ => le _) (by decide)⟩) b0 _ _ _ _ _ (by omega) (Or.inl ⟨rfl, rfl⟩)
    refine Nat.pos_of_ne_zero (fun z => e ?_)
    rw [c1, cn_split (r := fun l f => lg l f = b) (n := (C 0).1) (orders (C 0).1) (fun l hl => by
      obtain ⟨o1, o2, o3, o4⟩ := ord_p hl
      obtain ⟨j, j1, j2⟩ := o4 b hb
      exact ⟨j, j1, j2, fun i hi q => o3 i j hi j1 (q.trans j2.symm)⟩)]
    refine sumN_0 _ (fun f hf => ?_)
    rw [← cnt b f hb hf]
    have := (wsF_spec (o := (fwO A (hN C 0) (hN C 1) (hN C 2) (C 4).1 (C 0).1).2) (b := b) (C 0).1 0 0).2.1 f (Nat.zero_le _) (by omega)
    omega
theorem p_labels {x y : Int32} (h : LI w) (hK : ∀ v w1, MR (d + 21) mX9_labels [.int x, .int y] (.int v) w1 → Q (some (.int v)) w1) : Zm (d + 21) mX8_labels 0 0 [.ref 0, .int x, .int y] w Q := by
  obtain ⟨C, I0, I1, len, bt, fa, fb, m, bd, no, fu, A, I, hs, hm, hr⟩ := h
  obtain ⟨c0, c1, c2, c3, c4, c5⟩ := hr.cts
  obtain ⟨b0, b1, b2, b3, b4, b5⟩ := hr.bnd
  have hH : ∀ k, k < (C 4).1 → A 0 (0 + (109 + 3 * k)) = nI (hN C 0 k) ∧ hN C 0 k ≤ 3 ∧ A 0 (0 + (109 + 3 * k + 1)) = nI (hN C 1 k) ∧ hN C 1 k < (C 0).1 ∧ A 0 (0 + (109 + 3 * k + 2)) = nI (hN C 2 k) ∧ hN C 2 k < (C 0).1 := fun k hk => by
    obtain ⟨⟨a1, a2⟩, ⟨a3, a4⟩, a5, a6⟩ := hr.hin hk
    exact ⟨(hr.hnt (c := 0) hk (by decide)).trans a1, a2, (hr.hnt hk (by decide)).trans a3, a4, (hr.hnt hk (by decide)).trans a5, a6⟩
  refine l_labels hr.okH hs (fun q w1 h1 o1 => ?_) (fun e1 e2 w1 wy ways hL h1 o1 => ?_) (fun r hr' e1 e2 w1 wy ways hL h1 o1 => ?_) (fun e1 e2 w1 wy ways hL h1 o1 => ?_)
  · have hm1 := hm.off o1 (Or.inr (by decide))
    exact hK _ _ ⟨⟨_, hm1.1⟩, fun Q' k => m_labels hm1 hr.1 c0 b0 c4 b4 hH (fun _ w2 h2 o2 => k w2 (LI.mk (h1.off o2 (by decide)) h2 hr.bad)) (fun z1 z2 => absurd (Or.inr ⟨z1, Or.inl z2⟩) q) (fun r g1 g2 g3 => absurd (Or.inl ⟨g3, r, g1, g2⟩) q) (fun z1 z2 => absurd (Or.inr ⟨z1, Or.inr z2⟩) q)⟩
  · have hm1 := hm.off o1 (Or.inr (by decide))
    rw [(hr.lab hL).1]
    exact hK _ _ ⟨⟨_, hm1.1⟩, fun Q' k => m_labels hm1 hr.1 c0 b0 c4 b4 hH (fun z => absurd (Or.inr ⟨e1, Or.inl e2⟩) z) (fun _ _ w2 B hS h2 o2 => k w2 (LI.mk (h1.off o2 (by decide)) h2 (hr.same hS))) (fun r g1 g2 g3 => absurd (e2.symm.trans g3) (by decide)) (fun _ g3 => absurd (e2.symm.trans g3) (by decide))⟩
  · have hm1 := hm.off o1 (Or.inr (by decide))
    refine hK _ _ ⟨⟨_, hm1.1⟩, fun Q' k => m_labels hm1 hr.1 c0 b0 c4 b4 hH (fun z => absurd (Or.inl ⟨e2, r, hr', e1⟩) z) (fun _ g3 => absurd (e2.symm.trans g3) (by decide)) (fun r2 g1 g2 g3 w2 B hS h2 o2 => ?_) (fun _ g3 => absurd (e2.symm.trans g3) (by decide))⟩
    have e3 : r2 = r := (nI_eq (by omega) (by omega)).mp (g2.symm.trans e1)
    subst e3
    have e4 : mskF (fun b => decide (0 < (fwO A (hN C 0) (hN C 1) (hN C 2) (C 4).1 (C 0).1).2 (7 * r2 + b))) 0 (C 0).1 0 = mskF (fun b => decide (0 < wy (b * 7 + r2))) 0 (C 0).1 0 := msk_eq (n := (C 0).1) (fun b hb => by
      rw [(hr.lab hL).2 b r2 hb g1]
      have := (fwO_le (A := A) (hs := hN C 0) (hf := hN C 1) (hx := hN C 2) (hm := (C 4).1) (j := 7 * r2 + b) b0).2
      exact decide_eq_decide.mpr (nI_ltI (a := 0) (by decide) (by omega)).symm) _ _ _ (by omega)
    rw [e4]
    exact k w2 (LI.mk (h1.off o2 (by decide)) h2 (hr.same hS))
  · have hm1 := hm.off o1 (Or.inr (by decide))
    rw [hr.lab2 hL]
    exact hK _ _ ⟨⟨_, hm1.1⟩, fun Q' k => m_labels hm1 hr.1 c0 b0 c4 b4 hH (fun z => absurd (Or.inr ⟨e1, Or.inr e2⟩) z) (fun _ g3 => absurd (e2.symm.trans g3) (by decide)) (fun r g1 g2 g3 => absurd (e2.symm.trans g3) (by decide)) (fun _ _ w2 B hS h2 o2 => k w2 (LI.mk (h1.off o2 (by decide)) h2 (hr.same hS)))⟩
end ZPAIR12
