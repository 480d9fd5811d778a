/-! ===== buy: both sides are the same ===== -/
def vS (C : Cup) (k : Nat) : Nat := ((C 2).2 (k * 4 + 3)).toNatClampNeg
def qN (C : Cup) (k : Nat) : Nat := vS C k * 4096 + 8 ^ (3 - k)
def purN (C : Cup) (b i k a : Nat) : Nat := match k with
  | 0 => a
  | k + 1 => purN C b (i + 1) k (if cFitS C i b = true then (if qN C i < a then qN C i else a) else a)
def pN (C : Cup) (b : Nat) : Nat := purN C b 0 (C 2).1 67108864
theorem cPur_N : ∀ p, p < 51 → ∀ i, i < 4 → ((nI p) <<< ((12 : Int32) &&& 31)) + ((1 : Int32) <<< (nI (3 * (3 - i)) &&& 31)) = nI (p * 4096 + 8 ^ (3 - i)) := by decide +kernel
section ZPAIR11
variable {d : Nat} {w w1 w2 : ZW} {C C' I0 I1 : Cup} {len : Nat} {bt : Nat → Int32} {fa fb : Int64} {m : Nat} {bd no fu : Int32} {A A' : Nat → Nat → Int32} {I : Nat → Int32} {Q : Option Value → ZW → Prop}
theorem LR.pri (h : LR C I0 I1 len bt m bd no fu A I) {k : Nat} (hk : k < (C 2).1) : (C 2).2 (k * 4 + 3) = nI (vS C k) ∧ vS C k ≤ 50 := by
  have w0 := (h.2.2.1.2.2.2.1.2.2.1 k hk).2
  obtain ⟨j, hj, e⟩ := n10 (m := 50) (by decide) (by decide) w0
  unfold vS
  rw [e, nI_clamp (by omega)]
  exact ⟨rfl, hj⟩
theorem LR.mpr (h : LR C I0 I1 len bt m bd no fu A I) {k : Nat} (hk : k < (C 2).1) : mPr A k = vS C k := by
  unfold mPr vS
  rw [h.srt hk (by decide)]
theorem LR.cpur (h : LR C I0 I1 len bt m bd no fu A I) {k : Nat} (hk : k < (C 2).1) : cPur C k = nI (qN C k) ∧ qN C k ≤ 205312 := by
  obtain ⟨e, hp⟩ := h.pri hk
  obtain ⟨_, _, b2, _⟩ := h.bnd
  unfold cPur qN
  rw [e]
  refine ⟨cPur_N _ (by omega) k (by omega), ?_⟩
  have : 8 ^ (3 - k) ≤ 8 ^ 3 := Nat.pow_le_pow_right (by decide) (by omega)
  omega
theorem LR.pur (h : LR C I0 I1 len bt m bd no fu A I) {b : Nat} : ∀ (k i a : Nat), i + k ≤ (C 2).1 → a ≤ 67108864 → purF C b i k (nI a) = nI (purN C b i k a) := by
  intro k
  induction k with
  | zero => intro i a _ _; rfl
  | succ k ih =>
    intro i a hi ha
    unfold purF purN
    obtain ⟨e, hq⟩ := h.cpur (k := i) (by omega)
    by_cases hf : cFitS C i b = true
    · rw [if_pos hf, if_pos hf, e]
      by_cases hl : qN C i < a
      · rw [if_pos hl, if_pos ((nI_ltI (by omega) (by omega)).mpr hl)]
        exact ih (i + 1) _ (by omega) (by omega)
      · rw [if_neg hl, if_neg (fun z => hl ((nI_ltI (by omega) (by omega)).mp z))]
        exact ih (i + 1) _ (by omega) ha
    · rw [if_neg hf, if_neg hf]
      exact ih (i + 1) _ (by omega) ha
theorem purN_spec {b : Nat} : ∀ (k i a : Nat), purN C b i k a ≤ a ∧ (∀ j, i ≤ j → j < i + k → cFitS C j b = true → purN C b i k a ≤ qN C j) ∧ (purN C b i k a = a ∨ ∃ j, i ≤ j ∧ j < i + k ∧ cFitS C j b = true ∧ purN C b i k a = qN C j) := by
  intro k
  induction k with
  | zero => intro i a; exact ⟨Nat.le_refl _, fun j h1 h2 => absurd h1 (by omega), Or.inl rfl⟩
  | succ k ih =>
    intro i a
    unfold purN
    by_cases hf : cFitS C i b = true
    · rw [if_pos hf]
      by_cases hl : qN C i < a
      · rw [if_pos hl]
        obtain ⟨h1, h2, h3⟩ := ih (i + 1) (qN C i)
        refine ⟨by omega, fun j g1 g2 g3 => ?_, ?_⟩
        · by_cases e : j = i
          · rw [e]; exact h1
          · exact h2 j (by omega) (by omega) g3
        · rcases h3 with h3 | ⟨j, g1, g2, g3⟩
          · exact Or.inr ⟨i, by omega, by omega, hf, h3⟩
          · exact Or.inr ⟨j, by omega, by omega, g3⟩
      · rw [if_neg hl]
        obtain ⟨h1, h2, h3⟩ := ih (i + 1) a
        refine ⟨h1, fun j g1 g2 g3 => ?_, ?_⟩
        · by_cases e : j = i
          · rw [e]; omega
          · exact h2 j (by omega) (by omega) g3
        · rcases h3 with h3 | ⟨j, g1, g2, g3⟩
          · exact Or.inl h3
          · exact Or.inr ⟨j, by omega, by omega, g3⟩
    · rw [if_neg hf]
      obtain ⟨h1, h2, h3⟩ := ih (i + 1) a
      refine ⟨h1, fun j g1 g2 g3 => ?_, ?_⟩
      · by_cases e : j = i
        · rw [e] at g3; exact absurd g3 hf
        · exact h2 j (by omega) (by omega) g3
      · rcases h3 with h3 | ⟨j, g1, g2, g3⟩
        · exact Or.inl h3
        · exact Or.inr ⟨j, by omega, by omega, g3⟩
theorem LR.pu (h : LR C I0 I1 len bt m bd no fu A I) {b : Nat} : pU C b = nI (pN C b) ∧ pN C b ≤ 67108864 := ⟨h.pur (C 2).1 0 67108864 (by omega) (by decide), (purN_spec (C 2).1 0 67108864).1⟩
theorem LR.sp (h : LR C I0 I1 len bt m bd no fu A I) : ∀ (k i : Nat), i + k = (C 0).1 → sP C i k (nI (wS (pN C) (2 ^ (C 0).1 - 1) i)) = nI (wS (pN C) (2 ^ (C 0).1 - 1) (C 0).1) := by
  intro k
  induction k with
  | zero => intro i hi; rw [← hi]; rfl
  | succ k ih =>
    intro i hi
    unfold sP
    rw [h.pu.1, nI_add]
    have : wS (pN C) (2 ^ (C 0).1 - 1) i + pN C i = wS (pN C) (2 ^ (C 0).1 - 1) (i + 1) := by
      show _ = _ + (if (2 ^ (C 0).1 - 1).testBit i = true then pN C i else 0)
      rw [if_pos (by rw [tb_m1]; exact decide_eq_true (by omega))]
    rw [this]
    exact ih (i + 1) (by omega)
theorem LR.buy (h : LR C I0 I1 len bt m bd no fu A I) : ∃ X, lP C = nI X ∧ X < 2 ^ 31 ∧ ((67108864 ≤ X ∧ byF (mFS A) (mPr A) (C 2).1 (C 0).1 (lidR (mG A (C 0).1 (C 1).1) (C 0).1 (C 1).1) 0 4096 (-1) = -1) ∨ (X < 67108864 ∧ ∃ v, v < 4096 ∧ byF (mFS A) (mPr A) (C 2).1 (C 0).1 (lidR (mG A (C 0).1 (C 1).1) (C 0).1 (C 1).1) 0 4096 (-1) = nI v ∧ prN (mPr A) (C 2).1 4 v 0 * 4096 + v = X)) := by
  obtain ⟨b0, b1, b2, _⟩ := h.bnd
  have pn := pow_c b0
  have pl := pow_c b1
  have p0 := Nat.two_pow_pos (C 0).1
  have hop : ∀ i, i < (C 0).1 → cMask C i < 2 ^ (C 1).1 := fun i _ => cMask_lt2
  obtain ⟨eB, lB⟩ := bstR_N (op := cMask C) (v := pN C) (wo := pU C) (c := (C 1).1) b0 (fun i _ => h.pu) (C 0).1 0 (Nat.le_refl _)
  have eD : sP C 0 (C 0).1 0 = nI (wS (pN C) (2 ^ (C 0).1 - 1) (C 0).1) := h.sp (C 0).1 0 (by omega)
  have w7 : wS (pN C) (2 ^ (C 0).1 - 1) 7 = wS (pN C) (2 ^ (C 0).1 - 1) (C 0).1 := by
    have := wS_hi (v := pN C) (s := 2 ^ (C 0).1 - 1) (n := (C 0).1) (by omega) (7 - (C 0).1)
    rwa [show (C 0).1 + (7 - (C 0).1) = 7 by omega] at this
  have lD := wS_le (v := pN C) (s := 2 ^ (C 0).1 - 1) (M := 67108864) 7 (fun i _ => h.pu.2)
  have eq : ∀ i j, i < (C 0).1 → j < 7 → ((mG A (C 0).1 (C 1).1 i &&& (2 ^ (C 1).1 - 1)).testBit j = true ↔ (andn (cMask C i) 0).testBit j = true) := by
    intro i j hi hj
    rw [h.mask hi, andn_bit _ (Nat.lt_of_lt_of_le (hop i hi) pl) _ (by decide) _ hj, Nat.testBit_and, tb_m1, Nat.zero_testBit]
    by_cases e : j < (C 1).1
    · rw [decide_eq_true e]; rfl
    · rw [tb_lt (hop i hi) (by omega), Bool.false_and, Bool.false_and]
  have inN : ∀ s i, s < 2 ^ (C 0).1 → s.testBit i = true → i < (C 0).1 := by
    intro s i hs hb
    refine Nat.lt_of_not_le (fun z => ?_)
    rw [tb_lt hs z] at hb
    exact absurd hb (by decide)
  obtain ⟨S, a, g1, g2, g3, g4⟩ := bst_at (v := pN C) b0 b1 hop (C 0).1 0 (Nat.le_refl _) (by decide)
  have hS : S < 2 ^ (C 0).1 := by
    refine Nat.lt_pow_two_of_testBit S (fun i hi => ?_)
    by_cases h7 : i < 7
    · cases hb : S.testBit i with
      | false => rfl
      | true => exact absurd (g2 i h7 hb).2 (by omega)
    · exact tb_lt (r := 7) g1 (by omega)
  obtain ⟨hle, hmain⟩ := buy_main (n := (C 0).1) (s := (C 2).1) (l := (C 1).1) (c := pN C) (pr := mPr A) (g := mG A (C 0).1 (C 1).1) (fit := mFS A) b0 b2 (fun k hk => by rw [h.mpr hk]; exact (h.pri hk).2) (fun i _ => mG_lt b1)
    (fun k hk b hb hf => by
      rw [h.fitS hk hb] at hf
      rw [h.mpr hk]
      exact (purN_spec (C := C) (b := b) (C 2).1 0 67108864).2.1 k (by omega) (by omega) hf)
    (fun b hb => by
      rcases (purN_spec (C := C) (b := b) (C 2).1 0 67108864).2.2 with e | ⟨k, -, hk, hf, e⟩
      · exact Or.inl e
      · have hk : k < (C 2).1 := by omega
        exact Or.inr ⟨k, hk, by rw [h.fitS hk hb]; exact hf, by rw [h.mpr hk]; exact e⟩)
    (B := bstN (cMask C) (pN C) (C 1).1 (C 0).1 (C 0).1 0) (D := wS (pN C) (2 ^ (C 0).1 - 1) 7)
    (fun T a' hT ha' => bst_ub (v := pN C) b0 b1 hop (C 0).1 0 T a' (Nat.le_refl _) (by decide) (by omega) (fun i _ hb => ⟨by omega, inN T i hT hb⟩) (Asg_congr ha' (fun i j hi hj hs hb => (eq i j (inN T i hT hs) hj).mp hb)))
    ⟨S, a, hS, Asg_congr g3 (fun i j hi hj hs hb => (eq i j (inN S i hS hs) hj).mpr hb), g4⟩ rfl
  refine ⟨_, ?_, ?_, hmain⟩
  · unfold lP
    rw [eB, eD, ← w7]
    generalize wS (pN C) (2 ^ (C 0).1 - 1) 7 = D at hle
    generalize bstN (cMask C) (pN C) (C 1).1 (C 0).1 (C 0).1 0 = B at hle
    obtain ⟨x, rfl⟩ : ∃ x, D = x + B := ⟨D - B, by omega⟩
    rw [← nI_add, Nat.add_sub_cancel]
    exact Int32.add_sub_cancel _ _
  · omega
theorem dig_eq {P v : Nat} (hv : v < 4096) : ∀ r, r < 4 → (P * 4096 + v) / 2 ^ (3 * (3 - r)) % 2 ^ 3 = dgN v r := by
  intro r hr
  unfold dgN
  rcases (show r = 0 ∨ r = 1 ∨ r = 2 ∨ r = 3 by omega) with rfl | rfl | rfl | rfl
  · show (P * 4096 + v) / 512 % 8 = v / 512 % 8; omega
  · show (P * 4096 + v) / 64 % 8 = v / 64 % 8; omega
  · show (P * 4096 + v) / 8 % 8 = v / 8 % 8; omega
  · show (P * 4096 + v) / 1 % 8 = v / 1 % 8; omega
theorem sm_3 : ∀ r, r < 4 → ((nI (3 * (3 - r)) &&& 31).toBitVec.smod 32).toNat = 3 * (3 - r) := by decide +kernel
theorem p_buy {x : Int32} (h : LI w) (hK : ∀ v w1, MR (d + 21) mX9_buy [.int x] (.int v) w1 → Q (some (.int v)) w1) : Zm (d + 21) mX8_buy 0 0 [.ref 0, .int x] w Q := by
  obtain ⟨C, I0, I1, len, bt, fa, fb, m, bd, no, fu, A, I, hs, hm, hr⟩ := h
  obtain ⟨c0, c1, c2, c3, c4, c5⟩ := hr.cts
  obtain ⟨b0, b1, b2, b3, b4, b5⟩ := hr.bnd
  have hks : ∀ k, k < (C 2).1 → ∃ j, j < 6 ∧ A 0 (0 + (69 + 4 * k)) = nI j := fun k hk => by
    obtain ⟨j, hj, e⟩ := hr.kS k hk
    exact ⟨j, hj, (hr.srt (c := 0) hk (by decide)).trans e⟩
  have hp : ∀ k, k < (C 2).1 → A 0 (0 + (69 + 4 * k + 3)) = nI (mPr A k) ∧ mPr A k ≤ 50 := fun k hk => by
    rw [hr.mpr hk]
    exact ⟨(hr.srt hk (by decide)).trans (hr.pri hk).1, (hr.pri hk).2⟩
  obtain ⟨X, eX, lX, hX⟩ := hr.buy
  have hlt : lP C < 67108864 ↔ X < 67108864 := by
    rw [eX]
    exact nI_ltI (b := 67108864) lX (by decide)
  refine l_buy hs hr.kL hr.kS (fun q q' w1 h1 o1 => ?_) (fun q q' w1 h1 o1 => ?_) (fun q ex w1 h1 o1 => ?_) (fun r q hr' ex w1 h1 o1 => ?_)
  · have hm1 := hm.off o1 (Or.inr (by decide))
    exact hK _ _ ⟨⟨_, hm1.1⟩, fun Q' k => m_buy hm1 hr.1 c0 b0 c1 b1 hr.mk c2 b2 hks hp (fun _ _ w2 h2 o2 => k w2 (LI.mk (h1.off o2 (by decide)) h2 hr.bad)) (fun e => absurd e (fun z => z.elim q (fun ⟨r, g1, g2⟩ => q' r g1 g2))) (fun _ _ _ e => absurd e q) (fun _ r _ _ g1 g2 => absurd g2 (q' r g1))⟩
  · have hm1 := hm.off o1 (Or.inr (by decide))
    rw [hlt] at q'
    rcases hX with ⟨_, hby⟩ | ⟨z, _⟩
    · refine hK _ _ ⟨⟨_, hm1.1⟩, fun Q' k => m_buy hm1 hr.1 c0 b0 c1 b1 hr.mk c2 b2 hks hp (fun g1 g2 => absurd q (fun z => z.elim g1 (fun ⟨r, z1, z2⟩ => g2 r z1 z2))) (fun _ _ w2 B hS h2 o2 => k w2 (LI.mk (h1.off o2 (by decide)) h2 (hr.same hS))) (fun v hv e => absurd (e.symm.trans hby) (nI_nm1 (by omega))) (fun v r hv e => absurd (e.symm.trans hby) (nI_nm1 (by omega)))⟩
    · exact absurd z q'
  · have hm1 := hm.off o1 (Or.inr (by decide))
    rw [hlt] at q
    rcases hX with ⟨z, _⟩ | ⟨_, v, hv, hby, hpk⟩
    · omega
    · refine hK _ _ ⟨⟨_, hm1.1⟩, fun Q' k => m_buy hm1 hr.1 c0 b0 c1 b1 hr.mk c2 b2 hks hp (fun g1 => absurd ex g1) (fun _ e => absurd (hby.symm.trans e) (nI_nm1 (by omega))) (fun v' hv' e _ w2 B hS h2 o2 => ?_) (fun v' r hv' e g1 g2 => absurd (g2.symm.trans ex) (nI_nm1 (by omega)))⟩
      have e1 : v' = v := (nI_eq (by omega) (by omega)).mp (e.symm.trans hby)
      subst e1
      have e2 : lP C >>> ((12 : Int32) &&& 31) = nI (prN (mPr A) (C 2).1 4 v' 0) := by
        have e4 : X / 2 ^ 12 = prN (mPr A) (C 2).1 4 v' 0 := by
          show X / 4096 = _
          omega
        rw [eX, pk_shrN lX _ 12 (by decide), e4]
      rw [← e2]
      exact k w2 (LI.mk (h1.off o2 (by decide)) h2 (hr.same hS))
  · have hm1 := hm.off o1 (Or.inr (by decide))
    rw [hlt] at q
    rcases hX with ⟨z, _⟩ | ⟨_, v, hv, hby, hpk⟩
    · omega
    · refine hK _ _ ⟨⟨_, hm1.1⟩, fun Q' k => m_buy hm1 hr.1 c0 b0 c1 b1 hr.mk c2 b2 hks hp (fun _ g2 => absurd ex (g2 r hr')) (fun _ e => absurd (hby.symm.trans e) (nI_nm1 (by omega))) (fun v' hv' e g2 => absurd (ex.symm.trans g2) (nI_nm1 (by omega))) (fun v' r' hv' e g1 g2 w2 B hS h2 o2 => ?_)⟩
      have e1 : v' = v := (nI_eq (by omega) (by omega)).mp (e.symm.trans hby)
      have e3 : r' = r := (nI_eq (by omega) (by omega)).mp (g2.symm.trans ex)
      subst e1
      subst e3
      have e2 : (lP C >>> (nI (3 * (3 - r')) &&& 31)) &&& 7 = nI (dgN v' r') := by
        rw [eX, pk_shrN lX _ (3 * (3 - r')) (sm_3 r' (by omega)), pk_andN (Nat.lt_of_le_of_lt (Nat.div_le_self _ _) (by omega)) 3 (by decide), ← hpk, dig_eq hv r' (by omega)]
      rw [← e2]
      exact k w2 (LI.mk (h1.off o2 (by decide)) h2 (hr.same hS))
end ZPAIR11
