/-! ===== most, spare, piles, much, worth: both sides are the same ===== -/
theorem tb_m1 {n i : Nat} : (2 ^ n - 1).testBit i = decide (i < n) := Nat.testBit_two_pow_sub_one n i
theorem fnd_ext {p : Nat → Bool} : ∀ (k i c : Nat), (∀ j, i + k ≤ j → j < i + k + c → p j = false) → fnd p i (k + c) = fnd p i k := by
  intro k
  induction k with
  | zero =>
    intro i c h
    rw [Nat.zero_add]
    rcases fnd_cases p c i with ⟨e, _⟩ | ⟨j, h1, h2, h3, _⟩
    · exact e
    · rw [h j (by omega) (by omega)] at h3
      exact absurd h3 (by decide)
  | succ k ih =>
    intro i c h
    rw [show k + 1 + c = (k + c) + 1 by omega]
    unfold fnd
    rw [ih (i + 1) c (fun j h1 h2 => h j (by omega) (by omega))]
theorem sub_1_iff {x y : Int32} : x = y - 1 ↔ 1 + x = y := by
  rw [← Int32.toBitVec_inj, ← Int32.toBitVec_inj, Int32.toBitVec_sub, Int32.toBitVec_add]
  constructor
  · intro h
    rw [h]
    bv_omega
  · intro h
    rw [← h]
    bv_omega
section ZMATE
variable {g op : Nat → Nat} {wo : Nat → Int32} {c r : Nat}
/-- the mates, one behind the other -/
theorem mates (hr : r ≤ 7) (hc : c ≤ 7) (hg : ∀ i, i < r → g i = op i) (hg7 : ∀ i, i < 7 → g i < 128) (hop : ∀ i, i < r → op i < 2 ^ c) (hwo : ∀ i, i < r → wo i = 1) : ∀ (i row t left : Nat) (last : Int32), row + i < r → t < 128 → left < 128 → (∀ j, j < c → left.testBit j = !t.testBit j) → prtF op wo c r row (i + 1) t last = mtA g (2 ^ r - 1) row left (nI (bstN op (fun _ => 1) c r (r - row) t)) i := by
  have pr := pow_c hr
  have pr0 : 0 < 2 ^ r := Nat.two_pow_pos r
  have pc := pow_c hc
  have hN : ∀ k t, k ≤ r → bstR op wo c r k t = nI (bstN op (fun _ => 1) c r k t) ∧ bstN op (fun _ => 1) c r k t ≤ k * 67108864 := fun k t hk => bstR_N (v := fun _ => 1) hr (fun i hi => ⟨hwo i hi, by decide⟩) k t hk
  have step : ∀ row t left, row < r → t < 128 → left < 128 → (∀ j, j < c → left.testBit j = !t.testBit j) → leastC op wo c r row t = mtR g (2 ^ r - 1) row left (nI (bstN op (fun _ => 1) c r (r - row) t)) ∧ ((leastC op wo c r row t = -1 ∧ bstN op (fun _ => 1) c r (r - row) t = bstN op (fun _ => 1) c r (r - (row + 1)) t) ∨ ∃ s, s < c ∧ leastC op wo c r row t = nI s ∧ nI (bstN op (fun _ => 1) c r (r - row) t) - 1 = nI (bstN op (fun _ => 1) c r (r - (row + 1)) (t ||| 2 ^ s))) := by
    intro row t left hrow ht hleft hcl
    have hopr : op row < 128 := Nat.lt_of_lt_of_le (hop row hrow) pc
    have pe : ∀ j, j < c → ((andn (op row) t).testBit j && decide (wo row + bstR op wo c r (r - (row + 1)) (t ||| 2 ^ j) = bstR op wo c r (r - row) t)) = ((g row &&& left).testBit j && decide (nI (mostN g (andn (2 ^ r - 1) (2 ^ (row + 1) - 1)) (andn left (2 ^ j))) = nI (bstN op (fun _ => 1) c r (r - row) t) - 1)) := by
      intro j hj
      have hj7 : j < 7 := by omega
      have e1 : (g row &&& left).testBit j = (andn (op row) t).testBit j := by
        rw [hg row hrow, Nat.testBit_and, andn_bit _ hopr _ ht _ hj7, hcl j hj]
      have e2 : mostN g (andn (2 ^ r - 1) (2 ^ (row + 1) - 1)) (andn left (2 ^ j)) = bstN op (fun _ => 1) c r (r - (row + 1)) (t ||| 2 ^ j) := by
        refine most_bst hr hc (by omega) (orb_lt (c := 7) ht hj7) (fun i hi => ?_) hg hg7 hop (fun i hi => ?_)
        · rw [andn_bit _ (by omega) _ (pow_71 row (by omega)) _ hi, tb_m1, tb_m1, Bool.and_eq_true_iff, decide_eq_true_iff]
          constructor
          · rintro ⟨h1, h2⟩
            have h2 : decide (i < row + 1) = false := by simpa using h2
            have := of_decide_eq_false h2
            omega
          · rintro ⟨h1, h2⟩
            exact ⟨h2, by rw [decide_eq_false (by omega)]; rfl⟩
        · rw [andn_2 hleft hj7, tb_or, hcl i hi]
          cases t.testBit i <;> cases decide (j = i) <;> rfl
      rw [e1, e2, hwo row hrow, (hN _ _ (by omega)).1, (hN _ _ (by omega)).1]
      congr 1
      exact decide_eq_decide.mpr sub_1_iff.symm
    have eF : leastC op wo c r row t = mtR g (2 ^ r - 1) row left (nI (bstN op (fun _ => 1) c r (r - row) t)) := by
      unfold leastC mtR
      rw [if_pos (by rw [tb_m1]; exact decide_eq_true hrow)]
      have e7 : (7 : Nat) = c + (7 - c) := by omega
      rw [fnd_congr c 0 (fun j _ hj => pe j (by omega))]
      have := fnd_ext (p := fun j => (g row &&& left).testBit j && decide (nI (mostN g (andn (2 ^ r - 1) (2 ^ (row + 1) - 1)) (andn left (2 ^ j))) = nI (bstN op (fun _ => 1) c r (r - row) t) - 1)) c 0 (7 - c) (fun j h1 h2 => by
        show ((g row &&& left).testBit j && _) = false
        rw [Nat.testBit_and, hg row hrow, tb_lt (hop row hrow) (by omega)]; rfl)
      rw [← e7] at this
      exact this.symm
    refine ⟨eF, ?_⟩
    unfold leastC
    rcases fnd_cases (fun i => (andn (op row) t).testBit i && decide (wo row + bstR op wo c r (r - (row + 1)) (t ||| 2 ^ i) = bstR op wo c r (r - row) t)) c 0 with ⟨e, h1⟩ | ⟨j, _, hj, hp, e, _⟩
    · refine Or.inl ⟨e, ?_⟩
      have hk : r - row = (r - (row + 1)) + 1 := by omega
      have hk2 : r - ((r - (row + 1)) + 1) = row := by omega
      rcases colN_at (m := andn (op row) t) (v := fun i => 1 + bstN op (fun _ => 1) c r (r - (row + 1)) (t ||| 2 ^ i)) c 0 (bstN op (fun _ => 1) c r (r - (row + 1)) t) with h | ⟨j, _, hj, hb, h⟩
      · rw [hk]
        conv => lhs; unfold bstN
        rw [hk2]
        exact h
      · exfalso
        have hB : bstN op (fun _ => 1) c r (r - row) t = 1 + bstN op (fun _ => 1) c r (r - (row + 1)) (t ||| 2 ^ j) := by
          rw [hk]
          conv => lhs; unfold bstN
          rw [hk2]
          exact h
        have := h1 j (by omega) hj
        rw [hb, hwo row hrow, (hN _ _ (by omega)).1, (hN _ _ (by omega)).1, hB, ← nI_add] at this
        have z : false = true := this.symm.trans (decide_eq_true (show (1 : Int32) + nI (bstN op (fun _ => 1) c r (r - (row + 1)) (t ||| 2 ^ j)) = nI 1 + nI (bstN op (fun _ => 1) c r (r - (row + 1)) (t ||| 2 ^ j)) from rfl))
        exact Bool.false_ne_true z
    · refine Or.inr ⟨j, by omega, e, ?_⟩
      have h2 := of_decide_eq_true (Bool.and_eq_true_iff.mp hp).2
      rw [hwo row hrow, (hN _ _ (by omega)).1, (hN _ _ (by omega)).1] at h2
      exact (sub_1_iff.mpr h2).symm
  intro i
  induction i with
  | zero =>
    intro row t left last hrow ht hleft hcl
    exact (step row t left (by omega) ht hleft hcl).1
  | succ i ih =>
    intro row t left last hrow ht hleft hcl
    obtain ⟨s1, s2⟩ := step row t left (by omega) ht hleft hcl
    unfold mtA
    rw [← s1]
    show prtF op wo c r (row + 1) (i + 1) (if leastC op wo c r row t = -1 then t else t ||| 2 ^ (leastC op wo c r row t).toNatClampNeg) (leastC op wo c r row t) = _
    rcases s2 with ⟨e, hB⟩ | ⟨s, hs, e, hB⟩
    · rw [if_pos e, if_pos e, if_pos e, hB]
      exact ih (row + 1) t left _ (by omega) ht hleft hcl
    · have hne : ¬ leastC op wo c r row t = -1 := by rw [e]; exact nI_m1 s (by omega)
      rw [if_neg hne, if_neg hne, if_neg hne, hB, e, nI_clamp (by omega)]
      refine ih (row + 1) (t ||| 2 ^ s) (andn left (2 ^ s)) _ (by omega) (orb_lt (c := 7) ht (by omega)) (andn_lt hleft) (fun j hj => ?_)
      rw [andn_2 hleft (by omega), tb_or, hcl j hj]
      cases t.testBit j <;> cases decide (s = j) <;> rfl
end ZMATE
theorem cMask_lt2 {C : Cup} {i : Nat} : cMask C i < 2 ^ (C 1).1 := by
  have := mskF_lt (fun l => cFit C l i) (C 1).1 0 0 (by decide)
  rwa [Nat.zero_add] at this
theorem cAround_lt2 {C : Cup} {i : Nat} : cAround C i < 2 ^ (C 0).1 := by
  have := mskF_lt (fun b => cNest C i b) (C 0).1 0 0 (by decide)
  rwa [Nat.zero_add] at this
section ZPAIR7
variable {d : Nat} {w w1 w2 : ZW} {C C' I0 I1 : Cup} {len : Nat} {bt : Nat → Int32} {fa fb : Int64} {m : Nat} {bd no fu : Int32} {A A' : Nat → Nat → Int32} {I : Nat → Int32} {Q : Option Value → ZW → Prop}
theorem cBest_N (h7 : (C 0).1 ≤ 7) {t : Nat} : cBest C 0 t = nI (bstN (cMask C) (fun _ => 1) (C 1).1 (C 0).1 (C 0).1 t) := (bstR_N (v := fun _ => 1) h7 (fun i _ => ⟨rfl, by decide⟩) (C 0).1 t (Nat.le_refl _)).1
theorem LR.mst (h : LR C I0 I1 len bt m bd no fu A I) {t cols : Nat} (ht : t < 128) (hc : ∀ j, j < (C 1).1 → cols.testBit j = !t.testBit j) : nI (mostN (mG A (C 0).1 (C 1).1) (2 ^ (C 0).1 - 1) cols) = cBest C 0 t := by
  obtain ⟨b0, b1, _⟩ := h.bnd
  rw [cBest_N b0, most_bst (g := mG A (C 0).1 (C 1).1) (op := cMask C) (c := (C 1).1) (t := t) b0 b1 (Nat.le_refl _) ht (fun i _ => ?_) (fun i hi => h.mask hi) (fun i _ => mG_lt b1) (fun i _ => cMask_lt2) hc]
  rw [tb_m1, decide_eq_true_iff]
  omega
theorem p_most {x : Int32} (h : LI w) (hK : ∀ v w1, MR (d + 21) mX9_most [.int x] (.int v) w1 → Q (some (.int v)) w1) : Zm (d + 21) mX8_most 0 0 [.ref 0, .int x] w Q := by
  obtain ⟨C, I0, I1, len, bt, fa, fb, m, bd, no, fu, A, I, hs, hm, hr⟩ := h
  obtain ⟨c0, c1, c2, c3, c4, c5⟩ := hr.cts
  obtain ⟨b0, b1, b2, b3, b4, b5⟩ := hr.bnd
  have pl := pow_c b1
  have pl0 : 0 < 2 ^ (C 1).1 := Nat.two_pow_pos _
  have full : ∀ j, j < (C 1).1 → (2 ^ (C 1).1 - 1).testBit j = !(0 : Nat).testBit j := fun j hj => by rw [tb_m1, decide_eq_true hj, Nat.zero_testBit]; rfl
  have eN := hr.mst (t := 0) (by decide) full
  refine l_most hs hr.kL (fun q q' w1 h1 o1 => ?_) (fun ex w1 h1 o1 => ?_) (fun r hr' ex w1 h1 o1 => ?_)
  · have hm1 := hm.off o1 (Or.inr (by decide))
    exact hK _ _ ⟨⟨_, hm1.1⟩, fun Q' k => m_most hm1 hr.1 c0 b0 c1 b1 hr.mk (fun _ _ w2 h2 o2 => k w2 (LI.mk (h1.off o2 (by decide)) h2 hr.bad)) (fun e => absurd e q) (fun r hr' e => absurd e (q' r hr'))⟩
  · have hm1 := hm.off o1 (Or.inr (by decide))
    refine hK _ _ ⟨⟨_, hm1.1⟩, fun Q' k => m_most hm1 hr.1 c0 b0 c1 b1 hr.mk (fun e => absurd ex e) (fun _ w2 B hS h2 o2 => ?_) (fun r hr' e => absurd (e.symm.trans ex) (nI_m1 r (by omega)))⟩
    rw [eN]
    exact k w2 (LI.mk (h1.off o2 (by decide)) h2 (hr.same hS))
  · have hm1 := hm.off o1 (Or.inr (by decide))
    refine hK _ _ ⟨⟨_, hm1.1⟩, fun Q' k => m_most hm1 hr.1 c0 b0 c1 b1 hr.mk (fun _ e => absurd ex (e r hr')) (fun e => absurd (ex.symm.trans e) (nI_m1 r (by omega))) (fun s hs' e w2 B hS h2 o2 => ?_)⟩
    have e1 : s = r := (nI_eq (by omega) (by omega)).mp (e.symm.trans ex)
    subst e1
    have := mates (g := mG A (C 0).1 (C 1).1) (op := cMask C) (wo := pW C 0) (c := (C 1).1) b0 b1 (fun i hi => hr.mask hi) (fun i _ => mG_lt b1) (fun i _ => cMask_lt2) (fun i _ => rfl) s 0 0 (2 ^ (C 1).1 - 1) (-1) (by omega) (by decide) (by omega) full
    rw [Nat.sub_zero, ← cBest_N b0, ← eN] at this
    rw [← this]
    exact k w2 (LI.mk (h1.off o2 (by decide)) h2 (hr.same hS))
theorem p_spare (h : LI w) (hK : ∀ v w1, MR (d + 21) mX9_spare [] (.int v) w1 → Q (some (.int v)) w1) : Zm (d + 21) mX8_spare 0 0 [.ref 0] w Q := by
  obtain ⟨C, I0, I1, len, bt, fa, fb, m, bd, no, fu, A, I, hs, hm, hr⟩ := h
  obtain ⟨c0, c1, c2, c3, c4, c5⟩ := hr.cts
  obtain ⟨b0, b1, b2, b3, b4, b5⟩ := hr.bnd
  have pl := pow_c b1
  have pl0 : 0 < 2 ^ (C 1).1 := Nat.two_pow_pos _
  refine l_spare hs hr.kL (fun w1 h1 o1 => ?_)
  have hm1 := hm.off o1 (Or.inr (by decide))
  refine hK _ _ ⟨⟨_, hm1.1⟩, fun Q' k => m_spare hm1 hr.1 c0 b0 c1 b1 hr.mk (fun w2 B hS h2 o2 => ?_)⟩
  have e : mskF (mSpB (mG A (C 0).1 (C 1).1) (C 0).1 (C 1).1) 0 (C 1).1 0 = cSpare C := by
    unfold cSpare
    refine mskF_congr _ _ _ (fun j _ hj => ?_)
    unfold mSpB
    rw [← hr.mst (t := 2 ^ j) (cols := andn (2 ^ (C 1).1 - 1) (2 ^ j)) (pow_7 j (by omega)) (fun i hi => ?_), ← hr.mst (t := 0) (cols := 2 ^ (C 1).1 - 1) (by decide) (fun i hi => by rw [tb_m1, decide_eq_true hi, Nat.zero_testBit]; rfl)]
    · have n1 := mostN_le (g := mG A (C 0).1 (C 1).1) (r := 2 ^ (C 0).1 - 1) (c := andn (2 ^ (C 1).1 - 1) (2 ^ j))
      have n2 := mostN_le (g := mG A (C 0).1 (C 1).1) (r := 2 ^ (C 0).1 - 1) (c := 2 ^ (C 1).1 - 1)
      exact decide_eq_decide.mpr ⟨fun z => by rw [z], fun z => (nI_eq (by omega) (by omega)).mp z⟩
    · rw [andn_2 (by omega) (by omega), tb_m1, decide_eq_true hi, Nat.testBit_two_pow]
      rfl
  rw [e]
  exact k w2 (LI.mk (h1.off o2 (by decide)) h2 (hr.same hS))
theorem p_piles {x : Int32} (h : LI w) (hK : ∀ v w1, MR (d + 21) mX9_piles [.int x] (.int v) w1 → Q (some (.int v)) w1) : Zm (d + 21) mX8_piles 0 0 [.ref 0, .int x] w Q := by
  obtain ⟨C, I0, I1, len, bt, fa, fb, m, bd, no, fu, A, I, hs, hm, hr⟩ := h
  obtain ⟨c0, c1, c2, c3, c4, c5⟩ := hr.cts
  obtain ⟨b0, b1, b2, b3, b4, b5⟩ := hr.bnd
  have pl := pow_c b0
  have pl0 : 0 < 2 ^ (C 0).1 := Nat.two_pow_pos _
  have full : ∀ j, j < (C 0).1 → (2 ^ (C 0).1 - 1).testBit j = !(0 : Nat).testBit j := fun j hj => by rw [tb_m1, decide_eq_true hj, Nat.zero_testBit]; rfl
  have eB : cPBest C 0 = nI (bstN (cAround C) (fun _ => 1) (C 0).1 (C 0).1 (C 0).1 0) := (bstR_N (v := fun _ => 1) b0 (fun i _ => ⟨rfl, by decide⟩) (C 0).1 0 (Nat.le_refl _)).1
  have eN : nI (mostN (mP A (C 0).1) (2 ^ (C 0).1 - 1) (2 ^ (C 0).1 - 1)) = cPBest C 0 := by
    rw [eB, most_bst (g := mP A (C 0).1) (op := cAround C) (c := (C 0).1) (t := 0) b0 b0 (Nat.le_refl _) (by decide) (fun i _ => ?_) (fun i hi => hr.nest hi) (fun i _ => mP_lt b0) (fun i _ => cAround_lt2) full]
    rw [tb_m1, decide_eq_true_iff]
    omega
  refine l_piles hs (fun q q' w1 h1 o1 => ?_) (fun ex w1 h1 o1 => ?_) (fun r hr' ex w1 h1 o1 => ?_)
  · have hm1 := hm.off o1 (Or.inr (by decide))
    exact hK _ _ ⟨⟨_, hm1.1⟩, fun Q' k => m_piles hm1 hr.1 c0 b0 (fun _ _ w2 h2 o2 => k w2 (LI.mk (h1.off o2 (by decide)) h2 hr.bad)) (fun e => absurd e q) (fun r hr' e => absurd e (q' r hr'))⟩
  · have hm1 := hm.off o1 (Or.inr (by decide))
    refine hK _ _ ⟨⟨_, hm1.1⟩, fun Q' k => m_piles hm1 hr.1 c0 b0 (fun e => absurd ex e) (fun _ w2 B hS h2 o2 => ?_) (fun r hr' e => absurd (e.symm.trans ex) (nI_m1 r (by omega)))⟩
    rw [eN]
    exact k w2 (LI.mk (h1.off o2 (by decide)) h2 (hr.same hS))
  · have hm1 := hm.off o1 (Or.inr (by decide))
    refine hK _ _ ⟨⟨_, hm1.1⟩, fun Q' k => m_piles hm1 hr.1 c0 b0 (fun _ e => absurd ex (e r hr')) (fun e => absurd (ex.symm.trans e) (nI_m1 r (by omega))) (fun s hs' e w2 B hS h2 o2 => ?_)⟩
    have e1 : s = r := (nI_eq (by omega) (by omega)).mp (e.symm.trans ex)
    subst e1
    have := mates (g := mP A (C 0).1) (op := cAround C) (wo := fun _ => 1) (c := (C 0).1) b0 b0 (fun i hi => hr.nest hi) (fun i _ => mP_lt b0) (fun i _ => cAround_lt2) (fun i _ => rfl) s 0 0 (2 ^ (C 0).1 - 1) (-1) (by omega) (by decide) (by omega) full
    rw [Nat.sub_zero, ← eB, ← eN] at this
    rw [← this]
    exact k w2 (LI.mk (h1.off o2 (by decide)) h2 (hr.same hS))
end ZPAIR7
