/-! ===== Crowds ===== -/
theorem or_I : ∀ a, a < 128 → ∀ b, b < 128 → nI a ||| nI b = nI (a ||| b) := by decide +kernel
theorem xor_I : ∀ s, s < 128 → ∀ i, i < 7 → (nI s &&& 127) ^^^ ((1 : Int32) <<< (nI i &&& 31)) = nI (s ^^^ 2 ^ i) := by decide +kernel
theorem xor_lt : ∀ s, s < 128 → ∀ i, i < 7 → s.testBit i = true → s ^^^ 2 ^ i < s := by decide +kernel
theorem pop7_le : ∀ s, s < 128 → pop7 s ≤ 7 := by decide +kernel
/-- the union of the masks of the boxes of a set -/
def reachN (g : Nat → Nat) (n s : Nat) : Nat := match n with
  | 0 => 0
  | n + 1 => if 2 ^ n ≤ s then reachN g n (s - 2 ^ n) ||| g n else reachN g n s
theorem reachN_lt {g : Nat → Nat} : ∀ (n s : Nat), (∀ i, i < n → g i < 128) → reachN g n s < 128
  | 0, s, _ => by show 0 < 128; decide
  | n + 1, s, h => by
    unfold reachN
    split
    · exact Nat.or_lt_two_pow (n := 7) (reachN_lt n _ (fun i hi => h i (by omega))) (h n (by omega))
    · exact reachN_lt n _ (fun i hi => h i (by omega))
def allF (p : Nat → Bool) (i k : Nat) : Bool := match k with
  | 0 => true
  | k + 1 => p i && allF p (i + 1) k
theorem allF_congr {p q : Nat → Bool} : ∀ (k i : Nat), (∀ j, i ≤ j → j < i + k → p j = q j) → allF p i k = allF q i k
  | 0, i, _ => rfl
  | k + 1, i, h => by
    unfold allF
    rw [h i (Nat.le_refl _) (by omega), allF_congr k (i + 1) (fun j h1 h2 => h j (by omega) (by omega))]
/-- can a set be lidded, by the sets below it -/
def hallS (re : Nat → Nat) (li : Nat → Int32) (s : Nat) : Bool := decide (pop7 s ≤ pop7 (re s)) && allF (fun b => !(s.testBit b) || !decide (li (s ^^^ 2 ^ b) = 0)) 0 7
theorem hallS_congr {re : Nat → Nat} {li li' : Nat → Int32} {s : Nat} (hs : s < 128) (h : ∀ i, i < s → li i = li' i) : hallS re li s = hallS re li' s := by
  unfold hallS
  congr 1
  refine allF_congr 7 0 (fun j _ hj => ?_)
  cases hb : s.testBit j with
  | false => rfl
  | true => rw [h _ (xor_lt s hs j (by omega) hb)]
def isCr (w : ZW) (n : Nat) (re : Nat → Nat) (li : Nat → Int32) : Prop := zat w 60 (.inr (0, [.ref 61, .ref 62, .int (nI (2 ^ n))])) ∧ zat w 61 (.inl (0, 128, fun i => nI (re i))) ∧ zat w 62 (.inl (2, 128, li)) ∧ n ≤ 7
def okCr (n : Nat) (g : Nat → Nat) (re : Nat → Nat) (li : Nat → Int32) : Prop := (∀ s, s < 2 ^ n → re s = reachN g n s) ∧ (∀ s, s < 2 ^ n → re s < 128) ∧ ∀ s, s < 2 ^ n → li s = bI (hallS re li s)
section ZCROWD
variable {d n p : Nat} {w : ZW} {re : Nat → Nat} {li : Nat → Int32} {C : Nat → Nat × (Nat → Int32)} {Q : Option Value → ZW → Prop}
theorem isCr.off {w' : ZW} {lo hi : Nat} (h : isCr w n re li) (ho : zOff lo hi w w') (ht : 63 ≤ lo ∨ hi ≤ 60) : isCr w' n re li := ⟨h.1.off ho (by omega), h.2.1.off ho (by omega), h.2.2.1.off ho (by omega), h.2.2.2⟩
theorem cr_lack {s : Nat} (h : isCr w n re li) (hs : s < 128) (hr : re s < 128) (k : Q (some (.int (nI (pop7 s) - nI (pop7 (re s))))) w) : Zm (d + 1) mX0_lackOf 0 0 [.ref 60, .int (nI s)] w Q := by
  refine zm_intro [_, _] oX0_lackOf (Nat.le_of_ble_eq_true rfl) rfl ?_
  refine zw_iload_n dX0_lackOf_0 rfl ?_
  refine zw_iconst dX0_lackOf_1 0 (by decide) ?_
  refine zw_bipush dX0_lackOf_2 127 (by decide) ?_
  refine zw_cS3 dX0_lackOf_4 oX8_within kX8_within lX0_52 (Nat.le_of_ble_eq_true rfl) rfl (x_within (fun h1 h2 => ?_) (fun h1 => ?_))
  · show Zw _ _ _ 7 [_, _] [_] _ _
    refine zw_if_eq 27 dX0_lackOf_7 (by decide) (fun hz => absurd hz (by decide)) (fun _ => ?_)
    refine zw_iload_n dX0_lackOf_10 rfl ?_
    refine zw_cS1 dX0_lackOf_11 oJ6_bitCount_0f7a4 kJ6_bitCount_0f7a4 lX0_56 (Nat.le_of_ble_eq_true rfl) rfl (j_bitCount hs ?_)
    show Zw _ _ _ 14 [_, _] [_] _ _
    refine zw_aload_n dX0_lackOf_14 rfl ?_
    refine zw_get dX0_lackOf_15 fX0_9 h.1 rfl ?_
    refine zw_iload_n dX0_lackOf_18 rfl ?_
    refine zw_iald dX0_lackOf_19 h.2.1 (vp_in_nI hs (by decide)) ?_
    rw [nI_clamp (by omega)]
    refine zw_cS1 dX0_lackOf_20 oJ6_bitCount_0f7a4 kJ6_bitCount_0f7a4 lX0_56 (Nat.le_of_ble_eq_true rfl) rfl (j_bitCount hr ?_)
    show Zw _ _ _ 23 [_, _] [_, _] _ _
    refine zw_isub dX0_lackOf_23 ?_
    refine zw_goto 28 dX0_lackOf_24 (by decide) ?_
    refine zw_ireturn .int dX0_lackOf_28 rfl rfl (Nat.le_refl _) (Nat.le_refl _) ?_
    exact k
  · exact absurd ⟨nI_pos' (by omega), nI_le (b := 127) (by omega) (by decide)⟩ h1
theorem cr_withoutL {s : Nat} (h : isCr w n re li) (hs : s < 128) : ∀ (k i : Nat), i + k = 7 → Q (some (.int (bI (allF (fun b => !(s.testBit b) || !decide (li (s ^^^ 2 ^ b) = 0)) i k)))) w → Zw d mX0_areLiddedWithoutOne z0 2 [some (.ref 60), some (.int (nI s)), some (.int (nI i))] [] w Q := by
  intro k
  induction k with
  | zero =>
    intro i hi kk
    refine zw_iload_n dX0_areLiddedWithoutOne_2 rfl ?_
    refine zw_bipush dX0_areLiddedWithoutOne_3 7 (by decide) ?_
    refine zw_icmp_ge 41 dX0_areLiddedWithoutOne_5 (by decide) (fun _ => ?_) (fun hz => absurd (nI_le (a := 7) (b := i) (by omega) (by omega)) hz)
    refine zw_iconst dX0_areLiddedWithoutOne_41 1 (by decide) ?_
    refine zw_ireturn .boolean dX0_areLiddedWithoutOne_42 rfl rfl (Nat.le_refl _) (Nat.le_refl _) ?_
    exact kk
  | succ k ih =>
    intro i hi kk
    unfold allF at kk
    refine zw_iload_n dX0_areLiddedWithoutOne_2 rfl ?_
    refine zw_bipush dX0_areLiddedWithoutOne_3 7 (by decide) ?_
    refine zw_icmp_ge 41 dX0_areLiddedWithoutOne_5 (by decide) (fun hz => absurd hz (nI_ge (b := 7) (by omega) (by decide))) (fun _ => ?_)
    refine zw_iload_n dX0_areLiddedWithoutOne_8 rfl ?_
    refine zw_iload_n dX0_areLiddedWithoutOne_9 rfl ?_
    refine zw_ishr dX0_areLiddedWithoutOne_10 ?_
    refine zw_iconst dX0_areLiddedWithoutOne_11 1 (by decide) ?_
    refine zw_iand dX0_areLiddedWithoutOne_12 ?_
    refine zw_top (bit_t s hs i (by omega)) ?_
    refine zw_iconst dX0_areLiddedWithoutOne_13 1 (by decide) ?_
    refine zw_icmp_ne 35 dX0_areLiddedWithoutOne_14 (by decide) (fun hf => ?_) (fun hf => ?_)
    · refine zw_iinc (nI (i + 1)) [_, _, _] dX0_areLiddedWithoutOne_35 rfl (nI_1 i) rfl ?_
      refine zw_goto 2 dX0_areLiddedWithoutOne_38 (by decide) ?_
      refine ih (i + 1) (by omega) ?_
      have z : s.testBit i = false := by
        cases hb : s.testBit i with
        | false => rfl
        | true => exact absurd (by rw [hb]; rfl) hf
      rw [z] at kk
      simpa using kk
    · have z : s.testBit i = true := by
        cases hb : s.testBit i with
        | true => rfl
        | false => rw [hb] at hf; exact absurd hf (by decide)
      rw [z] at kk
      have hx := xor_lt s hs i (by omega) z
      refine zw_aload_n dX0_areLiddedWithoutOne_17 rfl ?_
      refine zw_get dX0_areLiddedWithoutOne_18 fX0_15 h.1 rfl ?_
      refine zw_iload_n dX0_areLiddedWithoutOne_21 rfl ?_
      refine zw_bipush dX0_areLiddedWithoutOne_22 127 (by decide) ?_
      refine zw_iand dX0_areLiddedWithoutOne_24 ?_
      refine zw_iconst dX0_areLiddedWithoutOne_25 1 (by decide) ?_
      refine zw_iload_n dX0_areLiddedWithoutOne_26 rfl ?_
      refine zw_ishl dX0_areLiddedWithoutOne_27 ?_
      refine zw_ixor dX0_areLiddedWithoutOne_28 ?_
      refine zw_top (xor_I s hs i (by omega)) ?_
      refine zw_zald dX0_areLiddedWithoutOne_29 h.2.2.1 (vp_in_nI (by omega) (by decide)) ?_
      rw [nI_clamp (by omega)]
      refine zw_if_ne 35 dX0_areLiddedWithoutOne_30 (by decide) (fun hl => ?_) (fun hl => ?_)
      · refine zw_iinc (nI (i + 1)) [_, _, _] dX0_areLiddedWithoutOne_35 rfl (nI_1 i) rfl ?_
        refine zw_goto 2 dX0_areLiddedWithoutOne_38 (by decide) ?_
        refine ih (i + 1) (by omega) ?_
        simpa [hl] using kk
      · refine zw_iconst dX0_areLiddedWithoutOne_33 0 (by decide) ?_
        refine zw_ireturn .boolean dX0_areLiddedWithoutOne_34 rfl rfl (Nat.le_refl _) (Nat.le_refl _) ?_
        simpa [hl, bI] using kk
theorem cr_without {s : Nat} (h : isCr w n re li) (hs : s < 128) (k : Q (some (.int (bI (allF (fun b => !(s.testBit b) || !decide (li (s ^^^ 2 ^ b) = 0)) 0 7)))) w) : Zm d mX0_areLiddedWithoutOne 0 0 [.ref 60, .int (nI s)] w Q := by
  refine zm_intro [_, _, _] oX0_areLiddedWithoutOne (Nat.le_of_ble_eq_true rfl) rfl ?_
  refine zw_iconst dX0_areLiddedWithoutOne_0 0 (by decide) ?_
  refine zw_istore_n [_, _, _] dX0_areLiddedWithoutOne_1 (Nat.le_of_ble_eq_true rfl) rfl ?_
  exact cr_withoutL h hs 7 0 (by decide) k
theorem vn_bI (b : Bool) : vp_nar .boolean (bI b) = bI b := by cases b <;> rfl
theorem sub_le0 {a b : Nat} (ha : a ≤ 7) (hb : b ≤ 7) : 0 < nI a - nI b ↔ b < a := by
  have : ∀ a, a < 8 → ∀ b, b < 8 → (0 < nI a - nI b ↔ b < a) := by decide +kernel
  exact this a (by omega) b (by omega)
theorem cr_look3 {w0 : ZW} {o4 o5 : Option Value} (hr : ∀ s, s < 2 ^ n → re s < 128) (hK : ∀ w li, isCr w n re li → zOff 60 63 w0 w → (∀ s, s < 2 ^ n → li s = bI (hallS re li s)) → Q none w) : ∀ (k s : Nat) (w : ZW) (li : Nat → Int32), s + k = 2 ^ n → isCr w n re li → zOff 60 63 w0 w → (∀ j, j < s → li j = bI (hallS re li j)) → Zw (d + 2) mX0_lookAt z0 94 [some (.ref 60), some (.ref p), some (.int (nI s)), o4, o5] [] w Q := by
  intro k
  induction k with
  | zero =>
    intro s w li hs h ho hz
    have hp := pow_c h.2.2.2
    refine zw_iload_n dX0_lookAt_94 rfl ?_
    refine zw_aload_n dX0_lookAt_95 rfl ?_
    refine zw_get dX0_lookAt_96 fX0_37 h.1 rfl ?_
    refine zw_icmp_ge 135 dX0_lookAt_99 (by decide) (fun _ => ?_) (fun hz => absurd (nI_le (by omega) (by omega)) hz)
    refine zw_return dX0_lookAt_135 rfl (Nat.le_refl _) (Nat.le_refl _) ?_
    exact hK w li h ho (fun j hj => hz j (by omega))
  | succ k ih =>
    intro s w li hs h ho hz
    have hp := pow_c h.2.2.2
    have h7 := pop7_le s (by omega)
    have h8 := pop7_le (re s) (hr s (by omega))
    have fin : ∀ v : Bool, v = hallS re li s → Zw (d + 2) mX0_lookAt z0 128 [some (.ref 60), some (.ref p), some (.int (nI s)), o4, o5] [.int (bI v), .int (nI s), .ref 62] w Q := by
      intro v hv
      refine zw_zast dX0_lookAt_128 h.2.2.1 (vp_in_nI (by omega) (by decide)) ?_
      rw [nI_clamp (by omega), vn_bI]
      refine zw_iinc (nI (s + 1)) [_, _, _, _, _] dX0_lookAt_129 rfl (nI_1 s) rfl ?_
      refine zw_goto 94 dX0_lookAt_132 (by decide) ?_
      refine ih (s + 1) _ _ (by omega) ⟨h.1.put (by decide), h.2.1.put (by decide), h.2.2.1.self, h.2.2.2⟩ (ho.tr (zOff.pt (by decide) (by decide))) (fun j hj => ?_)
      have hc : hallS re (upd li s (bI v)) j = hallS re li j := hallS_congr (by omega) (fun i hi => by
        have : i ≠ s := by omega
        simp [upd, this])
      rw [hc]
      by_cases e : j = s
      · subst e
        rw [← hv]
        simp [upd]
      · simp only [upd, if_neg e]
        exact hz j (by omega)
    refine zw_iload_n dX0_lookAt_94 rfl ?_
    refine zw_aload_n dX0_lookAt_95 rfl ?_
    refine zw_get dX0_lookAt_96 fX0_37 h.1 rfl ?_
    refine zw_icmp_ge 135 dX0_lookAt_99 (by decide) (fun hz => absurd hz (nI_ge (by omega) (by omega))) (fun _ => ?_)
    refine zw_aload_n dX0_lookAt_102 rfl ?_
    refine zw_get dX0_lookAt_103 fX0_15 h.1 rfl ?_
    refine zw_iload_n dX0_lookAt_106 rfl ?_
    refine zw_aload_n dX0_lookAt_107 rfl ?_
    refine zw_iload_n dX0_lookAt_108 rfl ?_
    refine zw_cV1 dX0_lookAt_109 oX0_lackOf kX0_lackOf lX0_45 h.1 rfl (Nat.le_of_ble_eq_true rfl) rfl (cr_lack h (by omega) (hr s (by omega)) ?_)
    show Zw _ _ _ 112 [_, _, _, _, _] [_, _, _] _ _
    refine zw_if_gt 127 dX0_lookAt_112 (by decide) (fun hl => ?_) (fun hl => ?_)
    · refine zw_iconst dX0_lookAt_127 0 (by decide) ?_
      refine fin false ?_
      unfold hallS
      rw [decide_eq_false (Nat.not_le.mpr ((sub_le0 h7 h8).mp hl)), Bool.false_and]
    · refine zw_aload_n dX0_lookAt_115 rfl ?_
      refine zw_iload_n dX0_lookAt_116 rfl ?_
      refine zw_cV1 dX0_lookAt_117 oX0_areLiddedWithoutOne kX0_areLiddedWithoutOne lX0_48 h.1 rfl (Nat.le_of_ble_eq_true rfl) rfl (cr_without h (by omega) ?_)
      show Zw _ _ _ 120 [_, _, _, _, _] [_, _, _] _ _
      have hle : decide (pop7 s ≤ pop7 (re s)) = true := decide_eq_true (Nat.not_lt.mp (fun z => hl ((sub_le0 h7 h8).mpr z)))
      refine zw_if_eq 127 dX0_lookAt_120 (by decide) (fun ha => ?_) (fun ha => ?_)
      · refine zw_iconst dX0_lookAt_127 0 (by decide) ?_
        refine fin false ?_
        unfold hallS
        rw [bI_f ha, Bool.and_false]
      · refine zw_iconst dX0_lookAt_123 1 (by decide) ?_
        refine zw_goto 128 dX0_lookAt_124 (by decide) ?_
        refine fin true ?_
        unfold hallS
        rw [bI_t ha, hle]
        rfl
end ZCROWD
