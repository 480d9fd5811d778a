/-! ===== LidForEach: tries, nuts, labels, evening ===== -/
theorem evL_is {g : Nat → Int32} {n : Nat} : ∀ (k x j : Nat) (f u : Int32), ∃ j', j' ≤ j + k ∧ evL g n k x f u (nI j) = nI j' := by
  intro k
  induction k with
  | zero => intro x j f u; exact ⟨j, Nat.le_refl _, rfl⟩
  | succ k ih =>
    intro x j f u
    unfold evL
    split
    · split
      · rw [nI_1]
        obtain ⟨j', h, e⟩ := ih (evX x) (j + 1) (f ||| ((1 : Int32) <<< (nI (evX x / 65536 % n) &&& 31))) (u ||| ((g (evX x / 65536 % n) &&& (u ^^^ -1)) &&& -(g (evX x / 65536 % n) &&& (u ^^^ -1))))
        exact ⟨j', by omega, e⟩
      · have z : nI j + 0 = nI j := by rw [show (0 : Int32) = nI 0 from rfl, nI_add]; rfl
        rw [z]
        obtain ⟨j', h, e⟩ := ih (evX x) j (f ||| ((1 : Int32) <<< (nI (evX x / 65536 % n) &&& 31))) (u ||| ((g (evX x / 65536 % n) &&& (u ^^^ -1)) &&& -(g (evX x / 65536 % n) &&& (u ^^^ -1))))
        exact ⟨j', by omega, e⟩
    · obtain ⟨j', h, e⟩ := ih (evX x) j f u
      exact ⟨j', by omega, e⟩
theorem gcdF_pos : ∀ (n x y : Nat), 0 < x → 0 < gcdF n x y := by
  intro n
  induction n with
  | zero => intro x y h; exact h
  | succ n ih =>
    intro x y h
    unfold gcdF
    split
    · exact h
    · exact ih y (x % y) (by omega)
theorem gcdF_posy {n x y : Nat} (h : 0 < y) : 0 < gcdF (n + 1) x y := by
  unfold gcdF
  rw [if_neg (by omega)]
  exact gcdF_pos n y _ h
/-- the first sure lid -/
def fSure (C : Cup) : Int32 := fnd (fun b => decide ((C 1).2 (b * 4 + 3) = 10)) 0 (C 1).1
/-- how soon a lid is tried -/
def tK (C : Cup) (i : Nat) : Int32 := if fSure C = -1 then (C 1).2 (i * 4 + 3) else if nI i = fSure C then 1 else 0
/-- all chances are tenths -/
def okCh (C : Cup) : Prop := ∀ r, r < (C 1).1 → ∃ c, c ≤ 10 ∧ (C 1).2 (r * 4 + 3) = nI c
def chN (C : Cup) (ks : Nat → Int32) (i : Nat) : Nat := ((C 1).2 (itS ks (C 1).1 i * 4 + 3)).toNatClampNeg
def mtF (c : Nat → Nat) (i k : Nat) (v : Nat × Nat × Nat) : Nat × Nat × Nat := match k with
  | 0 => v
  | k + 1 => mtF c (i + 1) k (v.1 * 10 + v.2.2, (if i = 0 then v.2.1 else v.2.1 * 10), v.2.2 * (10 - c i))
theorem mtF_bd {c : Nat → Nat} : ∀ (k i : Nat) (v : Nat × Nat × Nat), (mtF c i k v).1 + (mtF c i k v).2.2 ≤ (v.1 + v.2.2) * 11 ^ k ∧ (mtF c i k v).2.1 ≤ v.2.1 * 10 ^ k ∧ (0 < v.2.1 → 0 < (mtF c i k v).2.1) := by
  intro k
  induction k with
  | zero => intro i v; exact ⟨by show v.1 + v.2.2 ≤ _; omega, by show v.2.1 ≤ _; omega, fun h => h⟩
  | succ k ih =>
    intro i v
    obtain ⟨h1, h2, h3⟩ := ih (i + 1) (v.1 * 10 + v.2.2, (if i = 0 then v.2.1 else v.2.1 * 10), v.2.2 * (10 - c i))
    refine ⟨Nat.le_trans h1 ?_, Nat.le_trans h2 ?_, fun h => h3 ?_⟩
    · have a : v.2.2 * (10 - c i) ≤ v.2.2 * 10 := Nat.mul_le_mul_left _ (by omega)
      have b : v.1 * 10 + v.2.2 + v.2.2 * (10 - c i) ≤ (v.1 + v.2.2) * 11 := by omega
      have e : (v.1 + v.2.2) * 11 ^ (k + 1) = (v.1 + v.2.2) * 11 * 11 ^ k := by rw [Nat.pow_succ, Nat.mul_assoc, Nat.mul_comm 11]
      rw [e]
      exact Nat.mul_le_mul_right _ b
    · have e : v.2.1 * 10 ^ (k + 1) = v.2.1 * 10 * 10 ^ k := by rw [Nat.pow_succ, Nat.mul_assoc, Nat.mul_comm 10]
      rw [e]
      refine Nat.mul_le_mul_right _ ?_
      show (if i = 0 then v.2.1 else v.2.1 * 10) ≤ _
      split <;> omega
    · show 0 < (if i = 0 then v.2.1 else v.2.1 * 10)
      split <;> omega
theorem mtF_congr {c c' : Nat → Nat} (h : ∀ i, c i = c' i) : c = c' := funext h
def facN (n : Nat) : Nat := match n with
  | 0 => 1
  | n + 1 => (n + 1) * facN n
def mnF (wa : Int32) (i k : Nat) (a : Int64) : Int64 := match k with
  | 0 => a
  | k + 1 => mnF wa (i + 1) k (a + (((nI i - 1) * (nI i + 2) / 2) * (wa / nI i)).toInt64)
def mnN (wa i k a : Nat) : Nat := match k with
  | 0 => a
  | k + 1 => mnN wa (i + 1) k (a + (i - 1) * (i + 2) / 2 * (wa / i))
theorem mnF_eq : ∀ n, n < 7 → mnF (nI (facN n)) 1 n 0 = lN (mnN (facN n) 1 n 0) := by decide +kernel
theorem mnN_bd : ∀ n, n < 7 → mnN (facN n) 1 n 0 < 2 ^ 31 ∧ facN n < 2 ^ 31 ∧ 0 < facN n := by decide +kernel
theorem nuts_mid : ∀ n, n < 7 → nI n * (nI n - 1) / 2 = nI (n * (n - 1) / 2) := by decide +kernel
section ZL7
variable {d : Nat} {w : ZW} {C I0 I1 : Cup} {len : Nat} {bt : Nat → Int32} {fa fb : Int64} {ki bd no fu : Int32} {Q : Option Value → ZW → Prop}
theorem l_evening {x y : Int32} (h : isS w C I0 I1 len bt fa fb ki bd no fu) (hk : okK (C 1)) (kB : ¬ ((0 ≤ x ∧ x ≤ 60) ∧ (0 ≤ y ∧ y ≤ 999999)) → ∀ w', isS w' C I0 I1 len bt fa fb ki (bd + 1) no fu → zOff 0 74 w w' → Q (some (.int (-2))) w') (kN : (0 ≤ x ∧ x ≤ 60) → (0 ≤ y ∧ y ≤ 999999) → (C 0).1 = 0 → ∀ w', isS w' C I0 I1 len bt fa fb ki bd (no + 1) fu → zOff 0 74 w w' → Q (some (.int (-3))) w') (kA : ∀ m sd, m ≤ 60 → sd ≤ 999999 → x = nI m → y = nI sd → 0 < (C 0).1 → Q (some (.int (evL (fun b => nI (cMask C b)) (C 0).1 m sd 0 0 0))) w) : Zm (d + 5) mX8_evening 0 0 [.ref 0, .int x, .int y] w Q := by
  refine zm_intro [_, _, _] oX8_evening (Nat.le_of_ble_eq_true rfl) rfl ?_
  refine zw_iload_n dX8_evening_0 rfl ?_
  refine zw_iconst dX8_evening_1 0 (by decide) ?_
  refine zw_bipush dX8_evening_2 60 (by decide) ?_
  refine zw_cS3 dX8_evening_4 oX8_within kX8_within lX8_167 (Nat.le_of_ble_eq_true rfl) rfl (x_within (fun a1 a2 => ?_) (fun q => ?_))
  · show Zw _ _ _ 7 [_, _, _] [_] _ _
    refine zw_if_eq 21 dX8_evening_7 (by decide) (fun hz => absurd hz (by decide)) (fun _ => ?_)
    refine zw_iload_n dX8_evening_10 rfl ?_
    refine zw_iconst dX8_evening_11 0 (by decide) ?_
    refine zw_ldcw dX8_evening_12 qX8_260 ?_
    refine zw_cS3 dX8_evening_15 oX8_within kX8_within lX8_167 (Nat.le_of_ble_eq_true rfl) rfl (x_within (fun b1 b2 => ?_) (fun q => ?_))
    · show Zw _ _ _ 18 [_, _, _] [_] _ _
      refine zw_if_ne 28 dX8_evening_18 (by decide) (fun _ => ?_) (fun hz => absurd hz (by decide))
      obtain ⟨m, hm, e1⟩ := nI_of2 (M := 60) (n := 60) (by decide) (Int32.not_lt.mpr a1) a2
      obtain ⟨sd, hs, e2⟩ := nI_of2 (M := 999999) (n := 999999) (by decide) (Int32.not_lt.mpr b1) b2
      have kkN := kN ⟨a1, a2⟩ ⟨b1, b2⟩
      have kkA := kA m sd hm hs e1 e2
      subst e1
      subst e2
      refine zw_aload_n dX8_evening_28 rfl ?_
      refine zw_aload_n dX8_evening_29 rfl ?_
      refine zw_get dX8_evening_30 fX8_12 h.1 rfl ?_
      refine zw_iload_n dX8_evening_33 rfl ?_
      refine zw_iload_n dX8_evening_34 rfl ?_
      refine zw_cV2 dX8_evening_35 oX1_openAfter kX1_openAfter lX8_261 h.2.1.1 rfl (Nat.le_of_ble_eq_true rfl) rfl (c_openAfter h.2.1 hk (by omega) (by omega) (fun q => ?_) (fun q => ?_))
      · show Zw _ _ _ 38 [_, _, _] [_, _] _ _
        refine zw_cV1 dX8_evening_38 oX8_told kX8_told lX8_71 h.1 rfl (Nat.le_of_ble_eq_true rfl) rfl (x_toldN h (fun w1 h1 o1 => ?_))
        show Zw _ _ _ 41 [_, _, _] [_] _ _
        refine zw_ireturn .int dX8_evening_41 rfl rfl (Nat.le_refl _) (Nat.le_refl _) ?_
        exact kkN q w1 h1 o1
      · obtain ⟨j', hj, e⟩ := evL_is (g := fun b => nI (cMask C b)) (n := (C 0).1) m sd 0 0 0
        have e0 : 0 ≤ evL (fun b => nI (cMask C b)) (C 0).1 m sd 0 0 (nI 0) := by rw [e]; exact nI_pos' (by omega)
        show Zw _ _ _ 38 [_, _, _] [_, _] _ _
        refine zw_cV1 dX8_evening_38 oX8_told kX8_told lX8_71 h.1 rfl (Nat.le_of_ble_eq_true rfl) rfl (x_told0 e0 ?_)
        show Zw _ _ _ 41 [_, _, _] [_] _ _
        refine zw_ireturn .int dX8_evening_41 rfl rfl (Nat.le_refl _) (Nat.le_refl _) ?_
        exact kkA q
    · show Zw _ _ _ 18 [_, _, _] [_] _ _
      refine zw_if_ne 28 dX8_evening_18 (by decide) (fun hz => absurd (by decide) hz) (fun _ => ?_)
      refine zw_aload_n dX8_evening_21 rfl ?_
      refine zw_bipush dX8_evening_22 (-2) (by decide) ?_
      refine zw_cV1 dX8_evening_24 oX8_told kX8_told lX8_71 h.1 rfl (Nat.le_of_ble_eq_true rfl) rfl (x_toldB h (fun w1 h1 o1 => ?_))
      show Zw _ _ _ 27 [_, _, _] [_] _ _
      refine zw_ireturn .int dX8_evening_27 rfl rfl (Nat.le_refl _) (Nat.le_refl _) ?_
      exact kB (fun z => q z.2) w1 h1 o1
  · show Zw _ _ _ 7 [_, _, _] [_] _ _
    refine zw_if_eq 21 dX8_evening_7 (by decide) (fun _ => ?_) (fun hz => absurd (by decide) hz)
    refine zw_aload_n dX8_evening_21 rfl ?_
    refine zw_bipush dX8_evening_22 (-2) (by decide) ?_
    refine zw_cV1 dX8_evening_24 oX8_told kX8_told lX8_71 h.1 rfl (Nat.le_of_ble_eq_true rfl) rfl (x_toldB h (fun w1 h1 o1 => ?_))
    show Zw _ _ _ 27 [_, _, _] [_] _ _
    refine zw_ireturn .int dX8_evening_27 rfl rfl (Nat.le_refl _) (Nat.le_refl _) ?_
    exact kB (fun z => q z.1) w1 h1 o1
theorem x_facL {n : Nat} (hn : n < 7) : ∀ (k i a : Nat), i + k = n + 1 → 2 ≤ i → Q (some (.int (nI (a * (facN n / facN (i - 1)))))) w → Zw d mX8_factorial z0 4 [some (.int (nI n)), some (.int (nI a)), some (.int (nI i))] [] w Q := by
  intro k
  induction k with
  | zero =>
    intro i a hi h2 kk
    have e : i - 1 = n := by omega
    rw [e, Nat.div_self (mnN_bd n hn).2.2, Nat.mul_one] at kk
    refine zw_iload_n dX8_factorial_4 rfl ?_
    refine zw_iload_n dX8_factorial_5 rfl ?_
    refine zw_icmp_gt 19 dX8_factorial_6 (by decide) (fun _ => ?_) (fun hz => absurd (nI_lt (by omega) (by omega)) hz)
    refine zw_iload_n dX8_factorial_19 rfl ?_
    refine zw_ireturn .int dX8_factorial_20 rfl rfl (Nat.le_refl _) (Nat.le_refl _) ?_
    exact kk
  | succ k ih =>
    intro i a hi h2 kk
    refine zw_iload_n dX8_factorial_4 rfl ?_
    refine zw_iload_n dX8_factorial_5 rfl ?_
    refine zw_icmp_gt 19 dX8_factorial_6 (by decide) (fun hz => absurd hz (nI_nlt (by omega) (by omega))) (fun _ => ?_)
    refine zw_iload_n dX8_factorial_9 rfl ?_
    refine zw_iload_n dX8_factorial_10 rfl ?_
    refine zw_imul dX8_factorial_11 ?_
    refine zw_top (pk_mul ..) ?_
    refine zw_istore_n [_, _, _] dX8_factorial_12 (Nat.le_of_ble_eq_true rfl) rfl ?_
    refine zw_iinc (nI (i + 1)) [_, _, _] dX8_factorial_13 rfl (nI_1 i) rfl ?_
    refine zw_goto 4 dX8_factorial_16 (by decide) ?_
    refine ih (i + 1) (a * i) (by omega) (by omega) ?_
    have z : ∀ n, n < 7 → ∀ i, i < 8 → 2 ≤ i → i ≤ n → facN n / facN (i - 1) = i * (facN n / facN i) := by decide +kernel
    rw [z n hn i (by omega) h2 (by omega), ← Nat.mul_assoc] at kk
    exact kk
theorem x_fac {n : Nat} (hn : n < 7) (h1 : 1 ≤ n) (k : Q (some (.int (nI (facN n)))) w) : Zm d mX8_factorial 0 0 [.int (nI n)] w Q := by
  refine zm_intro [_, _, _] oX8_factorial (Nat.le_of_ble_eq_true rfl) rfl ?_
  refine zw_iconst dX8_factorial_0 1 (by decide) ?_
  refine zw_istore_n [_, _, _] dX8_factorial_1 (Nat.le_of_ble_eq_true rfl) rfl ?_
  refine zw_iconst dX8_factorial_2 2 (by decide) ?_
  refine zw_istore_n [_, _, _] dX8_factorial_3 (Nat.le_of_ble_eq_true rfl) rfl ?_
  refine x_facL (a := 1) hn (n - 1) 2 (by omega) (by omega) ?_
  rw [Nat.one_mul, show facN (2 - 1) = 1 from rfl, Nat.div_one]
  exact k
theorem x_mnL {n : Nat} {wa : Int32} (hn : n < 7) (hK : Zw (d + 2) mX8_meanOfNuts z0 37 [some (.ref 0), some (.int (nI n)), some (.int wa), some (.long (mnF wa 1 n 0)), none, some (.int (nI (n + 1)))] [] w Q) : ∀ (k i : Nat) (a : Int64), i + k = n + 1 → 1 ≤ i → mnF wa i k a = mnF wa 1 n 0 → Zw (d + 2) mX8_meanOfNuts z0 5 [some (.ref 0), some (.int (nI n)), some (.int wa), some (.long a), none, some (.int (nI i))] [] w Q := by
  intro k
  induction k with
  | zero =>
    intro i a hi h1 ha
    have e : i = n + 1 := by omega
    subst e
    have ha : a = mnF wa 1 n 0 := ha
    subst ha
    refine zw_iload dX8_meanOfNuts_5 rfl ?_
    refine zw_iload_n dX8_meanOfNuts_7 rfl ?_
    refine zw_icmp_gt 37 dX8_meanOfNuts_8 (by decide) (fun _ => ?_) (fun hz => absurd (nI_lt (by omega) (by omega)) hz)
    exact hK
  | succ k ih =>
    intro i a hi h1 ha
    refine zw_iload dX8_meanOfNuts_5 rfl ?_
    refine zw_iload_n dX8_meanOfNuts_7 rfl ?_
    refine zw_icmp_gt 37 dX8_meanOfNuts_8 (by decide) (fun hz => absurd hz (nI_nlt (by omega) (by omega))) (fun _ => ?_)
    refine zw_lload_n dX8_meanOfNuts_11 rfl ?_
    refine zw_iload dX8_meanOfNuts_12 rfl ?_
    refine zw_iconst dX8_meanOfNuts_14 1 (by decide) ?_
    refine zw_isub dX8_meanOfNuts_15 ?_
    refine zw_iload dX8_meanOfNuts_16 rfl ?_
    refine zw_iconst dX8_meanOfNuts_18 2 (by decide) ?_
    refine zw_iadd dX8_meanOfNuts_19 ?_
    refine zw_imul dX8_meanOfNuts_20 ?_
    refine zw_iconst dX8_meanOfNuts_21 2 (by decide) ?_
    refine zw_idiv dX8_meanOfNuts_22 (by decide) ?_
    refine zw_iload_n dX8_meanOfNuts_23 rfl ?_
    refine zw_iload dX8_meanOfNuts_24 rfl ?_
    refine zw_idiv dX8_meanOfNuts_26 (nI_ne0 (by omega) (by omega)) ?_
    refine zw_imul dX8_meanOfNuts_27 ?_
    refine zw_i2l dX8_meanOfNuts_28 ?_
    refine zw_ladd dX8_meanOfNuts_29 ?_
    refine zw_lstore_n [_, _, _, _, _, _] dX8_meanOfNuts_30 (Nat.le_of_ble_eq_true rfl) rfl ?_
    refine zw_iinc (nI (i + 1)) [_, _, _, _, _, _] dX8_meanOfNuts_31 rfl (nI_1 i) rfl ?_
    refine zw_goto 5 dX8_meanOfNuts_34 (by decide) ?_
    exact ih (i + 1) _ (by omega) (by omega) ha
theorem x_mn {n : Nat} (hn : n < 7) (h : isS w C I0 I1 len bt fa fb ki bd no fu) (k : ∀ w', isS w' C I0 I1 len bt (lN (mnN (facN n) 1 n 0 / gcdF 128 (mnN (facN n) 1 n 0) (facN n))) (lN (facN n / gcdF 128 (mnN (facN n) 1 n 0) (facN n))) ki bd no fu → zOff 73 74 w w' → Q none w') : Zm (d + 2) mX8_meanOfNuts 0 0 [.ref 0, .int (nI n), .int (nI (facN n))] w Q := by
  obtain ⟨b1, b2, b3⟩ := mnN_bd n hn
  have hf := h.2.2.2.2.2.2.2.2.2.2
  refine zm_intro [_, _, _, _, _, _] oX8_meanOfNuts (Nat.le_of_ble_eq_true rfl) rfl ?_
  refine zw_lconst dX8_meanOfNuts_0 0 (by decide) ?_
  refine zw_lstore_n [_, _, _, _, _, _] dX8_meanOfNuts_1 (Nat.le_of_ble_eq_true rfl) rfl ?_
  refine zw_iconst dX8_meanOfNuts_2 1 (by decide) ?_
  refine zw_istore [_, _, _, _, _, _] dX8_meanOfNuts_3 (Nat.le_of_ble_eq_true rfl) rfl ?_
  refine x_mnL hn ?_ n 1 0 (by omega) (by omega) rfl
  rw [mnF_eq n hn]
  refine zw_aload_n dX8_meanOfNuts_37 rfl ?_
  refine zw_get dX8_meanOfNuts_38 fX8_63 h.1 rfl ?_
  refine zw_lload_n dX8_meanOfNuts_41 rfl ?_
  refine zw_iload_n dX8_meanOfNuts_42 rfl ?_
  refine zw_i2l dX8_meanOfNuts_43 ?_
  refine zw_topl (nI_l b2) ?_
  refine zw_cV2 dX8_meanOfNuts_44 oX3_become kX3_become lX8_320 hf rfl (Nat.le_of_ble_eq_true rfl) rfl (f_become hf (by omega) (by omega) (gcdF_posy b3) (fun w1 h1 o1 => ?_))
  show Zw _ _ _ 47 [_, _, _, _, _, _] [] _ _
  refine zw_return dX8_meanOfNuts_47 rfl (Nat.le_refl _) (Nat.le_refl _) ?_
  exact k w1 (h.fr o1 h1) o1
theorem l_nuts {x y : Int32} (h : isS w C I0 I1 len bt fa fb ki bd no fu) (kB : ¬ ((1 ≤ x ∧ x ≤ 6) ∧ (0 ≤ y ∧ y ≤ 2)) → ∀ w', isS w' C I0 I1 len bt fa fb ki (bd + 1) no fu → zOff 0 74 w w' → Q (some (.int (-2))) w') (k0 : ∀ n, 1 ≤ n → n < 7 → x = nI n → y = 0 → Q (some (.int (nI (facN n)))) w) (k1 : ∀ n, 1 ≤ n → n < 7 → x = nI n → y = 1 → Q (some (.int (nI (n * (n - 1) / 2)))) w) (k2 : ∀ n, 1 ≤ n → n < 7 → x = nI n → y = 2 → ∀ w', isS w' C I0 I1 len bt (lN (mnN (facN n) 1 n 0 / gcdF 128 (mnN (facN n) 1 n 0) (facN n))) (lN (facN n / gcdF 128 (mnN (facN n) 1 n 0) (facN n))) ki bd no fu → zOff 0 74 w w' → Q (some (.int 1)) w') : Zm (d + 3) mX8_nuts 0 0 [.ref 0, .int x, .int y] w Q := by
  refine zm_intro [_, _, _, _] oX8_nuts (Nat.le_of_ble_eq_true rfl) rfl ?_
  refine zw_iload_n dX8_nuts_0 rfl ?_
  refine zw_iconst dX8_nuts_1 1 (by decide) ?_
  refine zw_bipush dX8_nuts_2 6 (by decide) ?_
  refine zw_cS3 dX8_nuts_4 oX8_within kX8_within lX8_167 (Nat.le_of_ble_eq_true rfl) rfl (x_within (fun a1 a2 => ?_) (fun q => ?_))
  · show Zw _ _ _ 7 [_, _, _, _] [_] _ _
    refine zw_if_eq 19 dX8_nuts_7 (by decide) (fun hz => absurd hz (by decide)) (fun _ => ?_)
    refine zw_iload_n dX8_nuts_10 rfl ?_
    refine zw_iconst dX8_nuts_11 0 (by decide) ?_
    refine zw_iconst dX8_nuts_12 2 (by decide) ?_
    refine zw_cS3 dX8_nuts_13 oX8_within kX8_within lX8_167 (Nat.le_of_ble_eq_true rfl) rfl (x_within (fun b1 b2 => ?_) (fun q => ?_))
    · show Zw _ _ _ 16 [_, _, _, _] [_] _ _
      refine zw_if_ne 26 dX8_nuts_16 (by decide) (fun _ => ?_) (fun hz => absurd hz (by decide))
      have a0 : ¬ x < 0 := Int32.not_lt.mpr (Int32.le_trans (by decide) a1)
      obtain ⟨n, hn, e1⟩ := nI_of2 (M := 6) (n := 6) (by decide) a0 a2
      obtain ⟨j, hj, e2⟩ := nI_of2 (M := 2) (n := 2) (by decide) (Int32.not_lt.mpr b1) b2
      have n1 : 1 ≤ n := by
        rcases Nat.eq_zero_or_pos n with z | z
        · subst z
          subst e1
          exact absurd a1 (by decide)
        · exact z
      have kk0 := k0 n n1 (by omega) e1
      have kk1 := k1 n n1 (by omega) e1
      have kk2 := k2 n n1 (by omega) e1
      subst e1
      subst e2
      refine zw_iload_n dX8_nuts_26 rfl ?_
      refine zw_iconst dX8_nuts_27 1 (by decide) ?_
      have : j = 1 ∨ j = 0 ∨ j = 2 := by omega
      rcases this with rfl | rfl | rfl
      · refine zw_icmp_ne 39 dX8_nuts_28 (by decide) (fun hz => absurd (rfl) hz) (fun _ => ?_)
        refine zw_iload_n dX8_nuts_31 rfl ?_
        refine zw_iload_n dX8_nuts_32 rfl ?_
        refine zw_iconst dX8_nuts_33 1 (by decide) ?_
        refine zw_isub dX8_nuts_34 ?_
        refine zw_imul dX8_nuts_35 ?_
        refine zw_iconst dX8_nuts_36 2 (by decide) ?_
        refine zw_idiv dX8_nuts_37 (by decide) ?_
        refine zw_top (nuts_mid n (by omega)) ?_
        refine zw_ireturn .int dX8_nuts_38 rfl rfl (Nat.le_refl _) (Nat.le_refl _) ?_
        exact kk1 rfl
      · refine zw_icmp_ne 39 dX8_nuts_28 (by decide) (fun _ => ?_) (fun hz => absurd hz (by decide))
        refine zw_iload_n dX8_nuts_39 rfl ?_
        refine zw_cS1 dX8_nuts_40 oX8_factorial kX8_factorial lX8_225 (Nat.le_of_ble_eq_true rfl) rfl (x_fac (n := n) (by omega) n1 ?_)
        show Zw _ _ _ 43 [_, _, _, _] [_] _ _
        refine zw_istore_n [_, _, _, _] dX8_nuts_43 (Nat.le_of_ble_eq_true rfl) rfl ?_
        refine zw_iload_n dX8_nuts_44 rfl ?_
        refine zw_if_ne 50 dX8_nuts_45 (by decide) (fun hz => absurd (rfl) hz) (fun _ => ?_)
        refine zw_iload_n dX8_nuts_48 rfl ?_
        refine zw_ireturn .int dX8_nuts_49 rfl rfl (Nat.le_refl _) (Nat.le_refl _) ?_
        exact kk0 rfl
      · refine zw_icmp_ne 39 dX8_nuts_28 (by decide) (fun _ => ?_) (fun hz => absurd hz (by decide))
        refine zw_iload_n dX8_nuts_39 rfl ?_
        refine zw_cS1 dX8_nuts_40 oX8_factorial kX8_factorial lX8_225 (Nat.le_of_ble_eq_true rfl) rfl (x_fac (n := n) (by omega) n1 ?_)
        show Zw _ _ _ 43 [_, _, _, _] [_] _ _
        refine zw_istore_n [_, _, _, _] dX8_nuts_43 (Nat.le_of_ble_eq_true rfl) rfl ?_
        refine zw_iload_n dX8_nuts_44 rfl ?_
        refine zw_if_ne 50 dX8_nuts_45 (by decide) (fun _ => ?_) (fun hz => absurd hz (by decide))
        refine zw_aload_n dX8_nuts_50 rfl ?_
        refine zw_iload_n dX8_nuts_51 rfl ?_
        refine zw_iload_n dX8_nuts_52 rfl ?_
        refine zw_cV2 dX8_nuts_53 oX8_meanOfNuts kX8_meanOfNuts lX8_228 h.1 rfl (Nat.le_of_ble_eq_true rfl) rfl (x_mn (n := n) (by omega) h (fun w1 h1 o1 => ?_))
        show Zw _ _ _ 56 [_, _, _, _] [] _ _
        refine zw_iconst dX8_nuts_56 1 (by decide) ?_
        refine zw_ireturn .int dX8_nuts_57 rfl rfl (Nat.le_refl _) (Nat.le_refl _) ?_
        exact kk2 rfl w1 h1 (o1.wd (by decide) (by decide))
    · show Zw _ _ _ 16 [_, _, _, _] [_] _ _
      refine zw_if_ne 26 dX8_nuts_16 (by decide) (fun hz => absurd (by decide) hz) (fun _ => ?_)
      refine zw_aload_n dX8_nuts_19 rfl ?_
      refine zw_bipush dX8_nuts_20 (-2) (by decide) ?_
      refine zw_cV1 dX8_nuts_22 oX8_told kX8_told lX8_71 h.1 rfl (Nat.le_of_ble_eq_true rfl) rfl (x_toldB h (fun w1 h1 o1 => ?_))
      show Zw _ _ _ 25 [_, _, _, _] [_] _ _
      refine zw_ireturn .int dX8_nuts_25 rfl rfl (Nat.le_refl _) (Nat.le_refl _) ?_
      exact kB (fun z => q z.2) w1 h1 o1
  · show Zw _ _ _ 7 [_, _, _, _] [_] _ _
    refine zw_if_eq 19 dX8_nuts_7 (by decide) (fun _ => ?_) (fun hz => absurd (by decide) hz)
    refine zw_aload_n dX8_nuts_19 rfl ?_
    refine zw_bipush dX8_nuts_20 (-2) (by decide) ?_
    refine zw_cV1 dX8_nuts_22 oX8_told kX8_told lX8_71 h.1 rfl (Nat.le_of_ble_eq_true rfl) rfl (x_toldB h (fun w1 h1 o1 => ?_))
    show Zw _ _ _ 25 [_, _, _, _] [_] _ _
    refine zw_ireturn .int dX8_nuts_25 rfl rfl (Nat.le_refl _) (Nat.le_refl _) ?_
    exact kB (fun z => q z.1) w1 h1 o1
end ZL7
