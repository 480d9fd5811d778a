/-! ===== tries, nuts: both sides are the same ===== -/
theorem FM_congr {V V' : List Nat → Nat} {ls : List (List Nat)} {r : List Nat} (h : FM V ls r) (e : ∀ l, l ∈ ls → V l = V' l) : FM V' ls r := by
  obtain ⟨p, q, rfl, h1, h2⟩ := h
  have er := e r (List.mem_append_right _ List.mem_cons_self)
  refine ⟨p, q, rfl, fun l hl => ?_, fun l hl => ?_⟩
  · rw [← er, ← e l (List.mem_append_left _ hl)]; exact h1 l hl
  · rw [← er, ← e l (List.mem_append_right _ (List.mem_cons_of_mem _ hl))]; exact h2 l hl
theorem opt_sub {c : Nat → Nat} : ∀ (n : Nat) (L r : List Nat), Opt c n L r → ∀ y, y ∈ r → y ∈ L := by
  intro n
  induction n with
  | zero =>
    intro L r h y hy
    have h : r = [] := h
    rw [h] at hy
    exact absurd hy (by simp)
  | succ n ih =>
    intro L r h y hy
    obtain ⟨L1, x, L2, t, rfl, h1, h2, rfl, h3⟩ := h
    have up : ∀ z, z ∈ L1 ++ L2 → z ∈ L1 ++ x :: L2 := by
      intro z hz
      rcases List.mem_append.mp hz with hz | hz
      · exact List.mem_append_left _ hz
      · exact List.mem_append_right _ (List.mem_cons_of_mem _ hz)
    rcases List.mem_cons.mp hy with rfl | hy
    · exact List.mem_append_right _ List.mem_cons_self
    · rcases h3 with ⟨_, ht⟩ | ⟨_, ht⟩
      · exact up y (ih _ _ ht y hy)
      · rw [ht] at hy; exact up y hy
theorem pw_mid {L1 L2 : List Nat} {x : Nat} (h : (L1 ++ x :: L2).Pairwise (· < ·)) : (L1 ++ L2).Pairwise (· < ·) ∧ ∀ b, b ∈ L2 → x < b := by
  obtain ⟨h1, h2, h3⟩ := List.pairwise_append.mp h
  obtain ⟨h4, h5⟩ := List.pairwise_cons.mp h2
  exact ⟨List.pairwise_append.mpr ⟨h1, h5, fun a ha b hb => h3 a ha b (List.mem_cons_of_mem _ hb)⟩, h4⟩
theorem opt_sorted {c : Nat → Nat} : ∀ (n : Nat) (L r : List Nat), L.Pairwise (· < ·) → (∀ y, y ∈ L → c y < 10) → Opt c n L r → r.Pairwise (fun a b => c b < c a ∨ (c a = c b ∧ a < b)) := by
  intro n
  induction n with
  | zero =>
    intro L r _ _ h
    have h : r = [] := h
    subst h
    exact List.Pairwise.nil
  | succ n ih =>
    intro L r hs hc h
    obtain ⟨L1, x, L2, t, rfl, h1, h2, rfl, h3⟩ := h
    obtain ⟨s1, s2⟩ := pw_mid hs
    have hx := hc x (List.mem_append_right _ List.mem_cons_self)
    rcases h3 with ⟨_, ht⟩ | ⟨e, _⟩
    · refine List.pairwise_cons.mpr ⟨fun b hb => ?_, ih _ _ s1 (fun y hy => hc y ?_) ht⟩
      · rcases List.mem_append.mp (opt_sub _ _ _ ht b hb) with q | q
        · exact Or.inl (h1 b q)
        · have := h2 b q
          have := s2 b q
          omega
      · rcases List.mem_append.mp hy with hy | hy
        · exact List.mem_append_left _ hy
        · exact List.mem_append_right _ (List.mem_cons_of_mem _ hy)
    · exact absurd hx e
/-- an order that goes by rank is the ranking -/
theorem rank_of {ks : Nat → Int32} {n : Nat} {r : List Nat} (hn : n ≤ 7) (hl : r.length = n) (hr : ∀ i, i < n → r.getD i 0 < n) (hs : ∀ i j, i < j → j < n → aheadB ks (r.getD j 0) (r.getD i 0) = true) : ∀ i, i < n → itemN ks n (nI i) = nI (r.getD i 0) ∧ itS ks n i = r.getD i 0 := by
  have inc : ∀ i j, i < j → j < n → placeN ks n (r.getD i 0) < placeN ks n (r.getD j 0) := fun i j hij hj => place_lt (hr i (by omega)) (hs i j hij hj)
  have lo : ∀ i, i < n → i ≤ placeN ks n (r.getD i 0) := by
    intro i
    induction i with
    | zero => intro _; exact Nat.zero_le _
    | succ i ih =>
      intro hi
      have := ih (by omega)
      have := inc i (i + 1) (by omega) hi
      omega
  have hi' : ∀ d i, i + d + 1 = n → placeN ks n (r.getD i 0) + d < n := by
    intro d
    induction d with
    | zero =>
      intro i hi
      have := place_bd (ks := ks) (hr i (by omega))
      omega
    | succ d ih =>
      intro i hi
      have := ih (i + 1) (by omega)
      have := inc i (i + 1) (by omega) (by omega)
      omega
  intro i hi
  have e : placeN ks n (r.getD i 0) = i := by
    have h1 := lo i hi
    have h2 := hi' (n - 1 - i) i (by omega)
    omega
  obtain ⟨s, hs', hp, e2⟩ := item_ok (ks := ks) hn hi
  have : s = r.getD i 0 := place_inj hs' (hr i hi) (hp.trans e.symm)
  rw [← this]
  exact ⟨e2, by unfold itS; rw [e2, nI_clamp (by omega)]⟩
theorem mb_mt {c : Nat → Nat} : ∀ (k i A B R : Nat), mbF c i k (A * 10 ^ (k + 1)) (R * 10 ^ k) = 10 * (mtF c i k (A, B, R)).1 := by
  intro k
  induction k with
  | zero => intro i A B R; show A * 10 ^ 1 = 10 * A; omega
  | succ k ih =>
    intro i A B R
    unfold mbF mtF
    have e1 : A * 10 ^ (k + 1 + 1) + R * 10 ^ (k + 1) = (A * 10 + R) * 10 ^ (k + 1) := by
      rw [Nat.add_mul, Nat.pow_succ 10 (k + 1), Nat.mul_comm (10 ^ (k + 1)) 10, ← Nat.mul_assoc]
    have e2 : R * 10 ^ (k + 1) / 10 * (10 - c i) = R * (10 - c i) * 10 ^ k := by
      rw [Nat.pow_succ, ← Nat.mul_assoc, Nat.mul_div_cancel _ (by decide), Nat.mul_assoc, Nat.mul_comm (10 ^ k), ← Nat.mul_assoc]
    rw [e1, e2]
    exact ih (i + 1) _ _ _
theorem mt_below {c : Nat → Nat} : ∀ (k i : Nat) (v : Nat × Nat × Nat), 0 < i → (mtF c i k v).2.1 = v.2.1 * 10 ^ k := by
  intro k
  induction k with
  | zero => intro i v _; show v.2.1 = _; rw [Nat.pow_zero, Nat.mul_one]
  | succ k ih =>
    intro i v hi
    unfold mtF
    rw [ih _ _ (by omega)]
    show (if i = 0 then v.2.1 else v.2.1 * 10) * 10 ^ k = _
    rw [if_neg (by omega), Nat.pow_succ, Nat.mul_assoc, Nat.mul_comm 10]
theorem mtF_cg {c c' : Nat → Nat} : ∀ (k i : Nat) (v : Nat × Nat × Nat), (∀ j, i ≤ j → j < i + k → c j = c' j) → mtF c i k v = mtF c' i k v := by
  intro k
  induction k with
  | zero => intro i v _; rfl
  | succ k ih =>
    intro i v h
    unfold mtF
    rw [h i (by omega) (by omega)]
    exact ih _ _ (fun j h1 h2 => h j (by omega) (by omega))
theorem frac10 {a b : Nat} : 10 * a / Nat.gcd (10 * a) (10 * b) = a / Nat.gcd a b ∧ 10 * b / Nat.gcd (10 * a) (10 * b) = b / Nat.gcd a b := by
  rw [Nat.gcd_mul_left]
  exact ⟨Nat.mul_div_mul_left _ _ (by decide), Nat.mul_div_mul_left _ _ (by decide)⟩
section ZPAIR10
variable {d : Nat} {w w1 w2 : ZW} {C C' I0 I1 : Cup} {len : Nat} {bt : Nat → Int32} {fa fb : Int64} {m : Nat} {bd no fu : Int32} {A A' : Nat → Nat → Int32} {I : Nat → Int32} {Q : Option Value → ZW → Prop}
def cC (C : Cup) (i : Nat) : Nat := ((C 1).2 (i * 4 + 3)).toNatClampNeg
theorem LR.ch (h : LR C I0 I1 len bt m bd no fu A I) {i : Nat} (hi : i < (C 1).1) : (C 1).2 (i * 4 + 3) = nI (cC C i) ∧ cC C i ≤ 10 := by
  have w1 := (h.2.2.1.2.2.2.1.2.1 i hi).2
  obtain ⟨j, hj, e⟩ := n10 (m := 10) (by decide) (by decide) w1
  unfold cC
  rw [e, nI_clamp (by omega)]
  exact ⟨rfl, hj⟩
theorem LR.okCh (h : LR C I0 I1 len bt m bd no fu A I) : okCh C := fun r hr => ⟨cC C r, (h.ch hr).2, (h.ch hr).1⟩
/-- the Model's order is the class's ranking -/
theorem LR.rank (h : LR C I0 I1 len bt m bd no fu A I) : ∃ r, r.length = (C 1).1 ∧ tryF (vL (cC C) (C 1).1) (orders (C 1).1) none = some r ∧ ∀ i, i < (C 1).1 → itemN (tK C) (C 1).1 (nI i) = nI (r.getD i 0) ∧ itS (tK C) (C 1).1 i = r.getD i 0 := by
  obtain ⟨b0, b1, _⟩ := h.bnd
  have hnd : (List.range (C 1).1).Nodup := List.nodup_range
  have hpw : (List.range (C 1).1).Pairwise (· < ·) := List.pairwise_lt_range
  have hlen : (List.range (C 1).1).length = (C 1).1 := List.length_range
  obtain ⟨r, ho⟩ := opt_ex (c := cC C) (C 1).1 (List.range (C 1).1) hlen
  have hc : ∀ y, y ∈ List.range (C 1).1 → cC C y ≤ 10 := fun y hy => (h.ch (List.mem_range.mp hy)).2
  have hF := opt_FM (C 1).1 _ r hnd hlen hc ho
  have hm := opt_mem (C 1).1 _ r hnd hlen ho
  obtain ⟨rl, rs⟩ := lexp_len (C 1).1 _ hlen hm
  refine ⟨r, rl, (FM_congr hF (fun l hl => ?_)).try, ?_⟩
  · have := (lexp_len (C 1).1 _ hlen hl).1
    rw [← vL_vR, this]
  · have hg : ∀ i (hi : i < r.length), r.getD i 0 = r[i] := fun i hi => by
      rw [List.getD_eq_getElem?_getD, List.getElem?_eq_getElem hi]; rfl
    have hr : ∀ i, i < (C 1).1 → r.getD i 0 < (C 1).1 := fun i hi => by
      rw [hg i (by omega)]
      exact List.mem_range.mp (rs _ (List.getElem_mem _))
    refine rank_of b1 rl hr (fun i j hij hj => ?_)
    have key : r.Pairwise (fun a b => aheadB (tK C) b a = true) := by
      by_cases hsure : fSure C = -1
      · have all : ∀ y, y ∈ List.range (C 1).1 → cC C y < 10 := by
          intro y hy
          have hy := List.mem_range.mp hy
          obtain ⟨e1, e2⟩ := h.ch hy
          rcases fnd_cases (fun b => decide ((C 1).2 (b * 4 + 3) = 10)) (C 1).1 0 with ⟨_, q⟩ | ⟨s, _, hs, _, q, _⟩
          · have := of_decide_eq_false (q y (by omega) (by omega))
            refine Nat.lt_of_le_of_ne e2 (fun z => this ?_)
            rw [e1, z]
            rfl
          · unfold fSure at hsure
            rw [hsure] at q
            exact absurd q.symm (nI_m1 s (by omega))
        refine (opt_sorted (C 1).1 _ r hpw all ho).imp_of_mem (fun {a b} ha hb hab => ?_)
        have ha := List.mem_range.mp (rs a ha)
        have hb := List.mem_range.mp (rs b hb)
        have ka : tK C a = nI (cC C a) := by unfold tK; rw [if_pos hsure]; exact (h.ch ha).1
        have kb : tK C b = nI (cC C b) := by unfold tK; rw [if_pos hsure]; exact (h.ch hb).1
        have := (h.ch ha).2
        have := (h.ch hb).2
        rw [ahead_iff, ka, kb]
        rcases hab with q | ⟨q1, q2⟩
        · exact Or.inl (nI_lt q (by omega))
        · exact Or.inr ⟨by rw [q1], q2⟩
      · -- a sure one
        rcases fnd_cases (fun b => decide ((C 1).2 (b * 4 + 3) = 10)) (C 1).1 0 with ⟨q, _⟩ | ⟨s, _, hs, hp, q, hmin⟩
        · exact absurd q hsure
        · have hs : s < (C 1).1 := by omega
          have hs10 : cC C s = 10 := by
            have := of_decide_eq_true hp
            unfold cC
            rw [this]
            rfl
          obtain ⟨n', hn'⟩ : ∃ n', (C 1).1 = n' + 1 := ⟨(C 1).1 - 1, by omega⟩
          have ho' : Opt (cC C) (n' + 1) (List.range (C 1).1) r := by rw [← hn']; exact ho
          obtain ⟨L1, x, L2, t, eL, h1, h2, rfl, h3⟩ := ho'
          rw [eL] at hpw hc
          obtain ⟨s1, s2⟩ := pw_mid hpw
          have smem : s ∈ L1 ++ x :: L2 := by rw [← eL]; exact List.mem_range.mpr hs
          have hx10 : cC C x = 10 := by
            have hxc := hc x (List.mem_append_right _ List.mem_cons_self)
            rcases List.mem_append.mp smem with z | z
            · have := h1 s z; omega
            · rcases List.mem_cons.mp z with z | z
              · rw [← z]; exact hs10
              · have := h2 s z; omega
          have xr : x < (C 1).1 := List.mem_range.mp (by rw [eL]; exact List.mem_append_right _ List.mem_cons_self)
          have exs : x = s := by
            rcases List.mem_append.mp smem with z | z
            · have := h1 s z; omega
            · rcases List.mem_cons.mp z with z | z
              · exact z.symm
              · have hlt := s2 s z
                have := of_decide_eq_false (hmin x (by omega) hlt)
                exfalso
                refine this ?_
                rw [(h.ch xr).1, hx10]
                rfl
          subst exs
          have hf : fSure C = nI x := q
          have ht : t = L1 ++ L2 := by
            rcases h3 with ⟨z, _⟩ | ⟨_, z⟩
            · omega
            · exact z
          have up : ∀ z, z ∈ L1 ++ L2 → z < (C 1).1 ∧ ¬ z = x := by
            intro z hz
            have hnd2 := hnd
            rw [eL] at hnd2
            have hnd' := List.nodup_append.mp hnd2
            have hx2 := List.nodup_cons.mp hnd'.2.1
            rcases List.mem_append.mp hz with hz | hz
            · exact ⟨List.mem_range.mp (by rw [eL]; exact List.mem_append_left _ hz), fun q => hnd'.2.2 z hz x List.mem_cons_self q⟩
            · exact ⟨List.mem_range.mp (by rw [eL]; exact List.mem_append_right _ (List.mem_cons_of_mem _ hz)), fun q => hx2.1 (q ▸ hz)⟩
          have kx : tK C x = 1 := by unfold tK; rw [if_neg hsure, if_pos hf.symm]
          have kz : ∀ z, z ∈ L1 ++ L2 → tK C z = 0 := by
            intro z hz
            obtain ⟨u1, u2⟩ := up z hz
            unfold tK
            rw [if_neg hsure, if_neg (fun q => u2 ((nI_eq (by omega) (by omega)).mp (q.trans hf)))]
          rw [ht]
          refine List.pairwise_cons.mpr ⟨fun b hb => ?_, s1.imp_of_mem (fun {a b} ha hb hab => ?_)⟩
          · rw [ahead_iff, kx, kz b hb]
            exact Or.inl (by decide)
          · rw [ahead_iff, kz a ha, kz b hb]
            exact Or.inr ⟨rfl, hab⟩
    rw [hg i (by omega), hg j (by omega)]
    exact List.pairwise_iff_getElem.mp key i j (by omega) (by omega) hij
theorem p_tries {x : Int32} (h : LI w) (hK : ∀ v w1, MR (d + 21) mX9_tries [.int x] (.int v) w1 → Q (some (.int v)) w1) : Zm (d + 21) mX8_tries 0 0 [.ref 0, .int x] w Q := by
  obtain ⟨C, I0, I1, len, bt, fa, fb, m, bd, no, fu, A, I, hs, hm, hr⟩ := h
  obtain ⟨c0, c1, c2, c3, c4, c5⟩ := hr.cts
  obtain ⟨b0, b1, b2, b3, b4, b5⟩ := hr.bnd
  obtain ⟨r, rl, rt, ri⟩ := hr.rank
  have hc : ∀ i, i < (C 1).1 → mLd A 0 i 3 = nI (cC C i) ∧ cC C i ≤ 10 := fun i hi => ⟨(hr.lid hi (by decide)).trans (hr.ch hi).1, (hr.ch hi).2⟩
  refine l_tries hr.okCh hs (fun q w1 h1 o1 => ?_) (fun q q2 => ?_) (fun ex w1 h1 o1 => ?_) (fun q ne q2 w1 h1 o1 => ?_)
  · have hm1 := hm.off o1 (Or.inr (by decide))
    refine hK _ _ ⟨⟨_, hm1.1⟩, fun Q' k => m_tries hm1 hr.1 c1 b1 hc (fun _ w2 h2 o2 => k w2 (LI.mk (h1.off o2 (by decide)) h2 hr.bad)) (fun z => absurd z q) (fun _ _ e => absurd (by rw [e]; decide) q) (fun _ j _ hj e => absurd ?_ q)⟩
    rw [e]
    exact Int32.le_trans (by decide) (nI_pos' (by omega))
  · exact hK _ _ ⟨⟨_, hm.1⟩, fun Q' k => m_tries hm hr.1 c1 b1 hc (fun z => absurd q z) (fun _ _ => k w (LI.mk hs hm hr)) (fun _ _ e => absurd (by rw [e]; exact Int32.lt_of_lt_of_le (by decide) (nI_pos' (by omega))) q2) (fun _ j _ hj e => absurd (by rw [e]; exact nI_lt hj (by omega)) q2)⟩
  · have hm1 := hm.off o1 (Or.inr (by decide))
    refine hK _ _ ⟨⟨_, hm1.1⟩, fun Q' k => m_tries hm1 hr.1 c1 b1 hc (fun z => absurd (by rw [ex]; decide) z) (fun _ z => absurd (by rw [ex]; exact Int32.lt_of_lt_of_le (by decide) (nI_pos' (by omega))) z) (fun l hl _ w2 B hS h2 o2 => ?_) (fun _ j _ hj e => absurd (e.symm.trans ex) (nI_m1 j (by omega)))⟩
    rw [rt] at hl
    have hl := Option.some.inj hl
    subst hl
    -- the mean is the same
    have eA : vL (cC C) (C 1).1 r = 10 * (mT C (tK C)).1 := by
      have := mb_mt (c := fun i => cC C (r.getD i 0)) (C 1).1 0 0 1 1
      rw [Nat.zero_mul, Nat.one_mul] at this
      refine this.trans ?_
      show 10 * (mtF (fun i => cC C (r.getD i 0)) 0 (C 1).1 (0, 1, 1)).1 = 10 * (mtF (chN C (tK C)) 0 (C 1).1 (0, 1, 1)).1
      rw [mtF_cg (c' := chN C (tK C)) (C 1).1 0 (0, 1, 1) (fun j _ hj => by unfold chN; rw [(ri j (by omega)).2]; rfl)]
    have g1 : gcdF 128 (mT C (tK C)).1 (mT C (tK C)).2 = Nat.gcd (mT C (tK C)).1 (mT C (tK C)).2 := by
      refine gcdF_gcd 63 128 _ _ ?_ (by decide)
      have hb := (mtF_bd (c := chN C (tK C)) (C 1).1 0 (0, 1, 1)).2.1
      have h10 := p10 (C 1).1 b1
      have hb : (mT C (tK C)).2 ≤ 1 * 10 ^ (C 1).1 := hb
      rw [Nat.one_mul] at hb
      exact Nat.lt_of_le_of_lt (Nat.le_trans hb h10) (by decide)
    rw [g1] at h1
    by_cases e0 : (C 1).1 = 0
    · have z1 : (mT C (tK C)).1 = 0 := by unfold mT; rw [e0]; rfl
      have z2 : (mT C (tK C)).2 = 1 := by unfold mT; rw [e0]; rfl
      rw [eA, z1, e0] at h2
      rw [z1, z2] at h1
      exact k w2 (LI.mk (h1.off o2 (by decide)) h2 (hr.same hS))
    · obtain ⟨n', hn'⟩ : ∃ n', (C 1).1 = n' + 1 := ⟨(C 1).1 - 1, by omega⟩
      have eB : 10 ^ (C 1).1 = 10 * (mT C (tK C)).2 := by
        have : (mT C (tK C)).2 = 10 ^ n' := by
          show (mtF (chN C (tK C)) 0 (C 1).1 (0, 1, 1)).2.1 = 10 ^ n'
          rw [hn']
          show (mtF (chN C (tK C)) (0 + 1) n' _).2.1 = 10 ^ n'
          rw [mt_below n' (0 + 1) _ (by decide)]
          exact Nat.one_mul _
        rw [this, hn', Nat.pow_succ, Nat.mul_comm]
      rw [eA, eB, frac10.1, frac10.2] at h2
      exact k w2 (LI.mk (h1.off o2 (by decide)) h2 (hr.same hS))
  · have hm1 := hm.off o1 (Or.inr (by decide))
    refine hK _ _ ⟨⟨_, hm1.1⟩, fun Q' k => m_tries hm1 hr.1 c1 b1 hc (fun z => absurd q z) (fun _ z => absurd q2 z) (fun _ _ e => absurd e ne) (fun l j hl hj e w2 B hS h2 o2 => ?_)⟩
    rw [rt] at hl
    have hl := Option.some.inj hl
    subst hl
    rw [← (ri j hj).1, ← e]
    exact k w2 (LI.mk (h1.off o2 (by decide)) h2 (hr.same hS))
theorem p_nuts {x y : Int32} (h : LI w) (hK : ∀ v w1, MR (d + 21) mX9_nuts [.int x, .int y] (.int v) w1 → Q (some (.int v)) w1) : Zm (d + 21) mX8_nuts 0 0 [.ref 0, .int x, .int y] w Q := by
  obtain ⟨C, I0, I1, len, bt, fa, fb, m, bd, no, fu, A, I, hs, hm, hr⟩ := h
  have inR : ∀ n, 1 ≤ n → n < 7 → (1 : Int32) ≤ nI n ∧ nI n ≤ 6 := fun n h1 h2 => ⟨nI_le (a := 1) h1 (by omega), nI_le (b := 6) (by omega) (by decide)⟩
  have inj : ∀ n n', n < 7 → n' < 7 → nI n = nI n' → n = n' := fun n n' h1 h2 e => (nI_eq (by omega) (by omega)).mp e
  refine l_nuts hs (fun q w1 h1 o1 => ?_) (fun n n1 n7 ex ey => ?_) (fun n n1 n7 ex ey => ?_) (fun n n1 n7 ex ey w1 h1 o1 => ?_)
  · have hm1 := hm.off o1 (Or.inr (by decide))
    refine hK _ _ ⟨⟨_, hm1.1⟩, fun Q' k => m_nuts hm1 hr.1 (fun _ w2 h2 o2 => k w2 (LI.mk (h1.off o2 (by decide)) h2 hr.bad)) (fun n z1 z2 e1 e2 => ?_) (fun n z1 z2 e1 e2 => ?_) (fun n z1 z2 e1 e2 => ?_)⟩
    · exact absurd ⟨e1 ▸ inR n z1 z2, by rw [e2]; decide⟩ q
    · exact absurd ⟨e1 ▸ inR n z1 z2, by rw [e2]; decide⟩ q
    · exact absurd ⟨e1 ▸ inR n z1 z2, by rw [e2]; decide⟩ q
  · refine hK _ _ ⟨⟨_, hm.1⟩, fun Q' k => m_nuts hm hr.1 (fun z => absurd ⟨ex ▸ inR n n1 n7, by rw [ey]; decide⟩ z) (fun n' z1 z2 e1 e2 w2 B hS h2 o2 => ?_) (fun n' z1 z2 e1 e2 => absurd (ey.symm.trans e2) (by decide)) (fun n' z1 z2 e1 e2 => absurd (ey.symm.trans e2) (by decide))⟩
    have := inj n' n z2 n7 (e1.symm.trans ex)
    subst this
    exact k w2 (LI.mk (hs.off o2 (by decide)) h2 (hr.same hS))
  · refine hK _ _ ⟨⟨_, hm.1⟩, fun Q' k => m_nuts hm hr.1 (fun z => absurd ⟨ex ▸ inR n n1 n7, by rw [ey]; decide⟩ z) (fun n' z1 z2 e1 e2 => absurd (ey.symm.trans e2) (by decide)) (fun n' z1 z2 e1 e2 w2 B hS h2 o2 => ?_) (fun n' z1 z2 e1 e2 => absurd (ey.symm.trans e2) (by decide))⟩
    have := inj n' n z2 n7 (e1.symm.trans ex)
    subst this
    exact k w2 (LI.mk (hs.off o2 (by decide)) h2 (hr.same hS))
  · have hm1 := hm.off o1 (Or.inr (by decide))
    refine hK _ _ ⟨⟨_, hm1.1⟩, fun Q' k => m_nuts hm1 hr.1 (fun z => absurd ⟨ex ▸ inR n n1 n7, by rw [ey]; decide⟩ z) (fun n' z1 z2 e1 e2 => absurd (ey.symm.trans e2) (by decide)) (fun n' z1 z2 e1 e2 => absurd (ey.symm.trans e2) (by decide)) (fun n' z1 z2 e1 e2 w2 B hS h2 o2 => ?_)⟩
    have := inj n' n z2 n7 (e1.symm.trans ex)
    subst this
    have hb := mnN_bd n' z2
    rw [gcdF_gcd 63 128 _ _ (by omega) (by decide)] at h1
    exact k w2 (LI.mk (h1.off o2 (by decide)) h2 (hr.same hS))
end ZPAIR10
