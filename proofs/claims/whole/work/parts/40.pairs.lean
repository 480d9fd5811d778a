/-! ===== Pairs ===== -/
def andn (o t : Nat) : Nat := o &&& (127 ^^^ t)
theorem andn_I : ∀ o, o < 128 → ∀ t, t < 128 → nI o &&& (nI t ^^^ -1) = nI (andn o t) := by decide +kernel
theorem andn_lt {o t : Nat} (ho : o < 128) : andn o t < 128 := Nat.lt_of_le_of_lt Nat.and_le_left ho
theorem orb_I : ∀ t, t < 128 → ∀ i, i < 7 → nI t ||| ((1 : Int32) <<< (nI i &&& 31)) = nI (t ||| 2 ^ i) := by decide +kernel
theorem orb_lt {t i c : Nat} (ht : t < 2 ^ c) (hi : i < c) : t ||| 2 ^ i < 2 ^ c := Nat.or_lt_two_pow ht (Nat.pow_lt_pow_right (by decide) hi)
theorem shl_I : ∀ c, c < 8 → (1 : Int32) <<< (nI c &&& 31) = nI (2 ^ c) := by decide +kernel
theorem pow_c {c : Nat} (h : c ≤ 7) : 2 ^ c ≤ 128 := Nat.pow_le_pow_right (by decide) h
def colF (m : Nat) (v : Nat → Int32) (i k : Nat) (a : Int32) : Int32 := match k with
  | 0 => a
  | k + 1 => colF m v (i + 1) k (if m.testBit i = true then (if a < v i then v i else a) else a)
/-- the most that the last k of r rows are worth, when t is taken -/
def bstR (op : Nat → Nat) (wo : Nat → Int32) (c r k t : Nat) : Int32 := match k with
  | 0 => 0
  | k + 1 => colF (andn (op (r - (k + 1))) t) (fun i => wo (r - (k + 1)) + bstR op wo c r k (t ||| 2 ^ i)) 0 c (bstR op wo c r k t)
def leastC (op : Nat → Nat) (wo : Nat → Int32) (c r row t : Nat) : Int32 := fnd (fun i => (andn (op row) t).testBit i && decide (wo row + bstR op wo c r (r - (row + 1)) (t ||| 2 ^ i) = bstR op wo c r (r - row) t)) 0 c
def prtF (op : Nat → Nat) (wo : Nat → Int32) (c r row k t : Nat) (last : Int32) : Int32 := match k with
  | 0 => last
  | k + 1 => prtF op wo c r (row + 1) k (if leastC op wo c r row t = -1 then t else t ||| 2 ^ (leastC op wo c r row t).toNatClampNeg) (leastC op wo c r row t)
def isP (w : ZW) (r c : Nat) (op : Nat → Nat) (wo be : Nat → Int32) : Prop := zat w 56 (.inr (4, [.ref 57, .ref 58, .ref 59, .int (nI r), .int (nI c)])) ∧ zat w 57 (.inl (0, 7, fun i => nI (op i))) ∧ zat w 58 (.inl (0, 7, wo)) ∧ zat w 59 (.inl (0, 1024, be)) ∧ r ≤ 7 ∧ c ≤ 7 ∧ ∀ i, i < r → op i < 128
/-- the table is worked out for the rows from lo on -/
def okP (r c lo : Nat) (op : Nat → Nat) (wo be : Nat → Int32) : Prop := ∀ row, lo ≤ row → row ≤ r → ∀ t, t < 2 ^ c → be (row * 128 + t) = bstR op wo c r (r - row) t
section ZPAIRS
variable {d r c : Nat} {w : ZW} {op : Nat → Nat} {wo be : Nat → Int32} {Q : Option Value → ZW → Prop}
theorem isP.off {w' : ZW} {lo hi : Nat} (h : isP w r c op wo be) (ho : zOff lo hi w w') (ht : 60 ≤ lo ∨ hi ≤ 56) : isP w' r c op wo be := ⟨h.1.off ho (by omega), h.2.1.off ho (by omega), h.2.2.1.off ho (by omega), h.2.2.2.1.off ho (by omega), h.2.2.2.2⟩
theorem isP.best {be' : Nat → Int32} (h : isP w r c op wo be) : isP (zput w 59 (.inl (0, 1024, be'))) r c op wo be' := ⟨h.1.put (by decide), h.2.1.put (by decide), h.2.2.1.put (by decide), h.2.2.2.1.self, h.2.2.2.2⟩
theorem b_begin {n : Nat} (h : isP w r c op wo be) (hn : n ≤ 7) (k : ∀ w', isP w' 0 n op wo be → zOff 56 60 w w' → Q none w') : Zm (d + 1) mX4_begin 0 0 [.ref 56, .int (nI n)] w Q := by
  refine zm_intro [_, _] oX4_begin (Nat.le_of_ble_eq_true rfl) rfl ?_
  refine zw_aload_n dX4_begin_0 rfl ?_
  refine zw_iconst dX4_begin_1 0 (by decide) ?_
  refine zw_put dX4_begin_2 pX4_21 h.1 (fun _ => rfl) (fun _ => rfl) (Nat.le_of_ble_eq_true rfl) ?_
  refine zw_aload_n dX4_begin_5 rfl ?_
  refine zw_iconst dX4_begin_6 0 (by decide) ?_
  refine zw_iload_n dX4_begin_7 rfl ?_
  refine zw_bipush dX4_begin_8 7 (by decide) ?_
  refine zw_min dX4_begin_10 lX4_25 w_stat_min iniJ9 w_code_min rfl (Nat.le_of_ble_eq_true rfl) (by decide) (by decide) ?_
  refine zw_max dX4_begin_13 lX4_31 w_stat_max iniJ9 w_code_max rfl (Nat.le_of_ble_eq_true rfl) (by decide) (by decide) ?_
  have e : ∀ n, n < 8 → (if (0 : Int32) < (if (7 : Int32) < nI n then 7 else nI n) then (if (7 : Int32) < nI n then 7 else nI n) else 0) = nI n := by decide +kernel
  refine zw_top (e n (by omega)) ?_
  refine zw_put dX4_begin_16 pX4_34 h.1.self (fun _ => rfl) (fun _ => rfl) (Nat.le_of_ble_eq_true rfl) ?_
  refine zw_return dX4_begin_19 rfl (Nat.le_refl _) (Nat.le_refl _) ?_
  refine k _ ⟨h.1.self.self, (h.2.1.put (by decide)).put (by decide), (h.2.2.1.put (by decide)).put (by decide), (h.2.2.2.1.put (by decide)).put (by decide), Nat.zero_le _, hn, fun i hi => absurd hi (Nat.not_lt_zero _)⟩ ((zOff.pt (by decide) (by decide)).tr (zOff.pt (by decide) (by decide)))
theorem b_addRow {m : Nat} {x : Int32} (h : isP w r c op wo be) (hr : r < 7) (hm : m < 128) (k : ∀ w', isP w' (r + 1) c (va_up op r m) (upd wo r x) be → zOff 56 60 w w' → Q none w') : Zm d mX4_addRow 0 0 [.ref 56, .int (nI m), .int x] w Q := by
  have hin : vp_in (nI r) 7 := vp_in_nI hr (by decide)
  refine zm_intro [_, _, _] oX4_addRow (Nat.le_of_ble_eq_true rfl) rfl ?_
  refine zw_aload_n dX4_addRow_0 rfl ?_
  refine zw_get dX4_addRow_1 fX4_21 h.1 rfl ?_
  refine zw_bipush dX4_addRow_4 7 (by decide) ?_
  refine zw_icmp_ge 39 dX4_addRow_6 (by decide) (fun hz => absurd hz (nI_ge (b := 7) hr (by decide))) (fun _ => ?_)
  refine zw_aload_n dX4_addRow_9 rfl ?_
  refine zw_get dX4_addRow_10 fX4_9 h.1 rfl ?_
  refine zw_aload_n dX4_addRow_13 rfl ?_
  refine zw_get dX4_addRow_14 fX4_21 h.1 rfl ?_
  refine zw_iload_n dX4_addRow_17 rfl ?_
  refine zw_iast dX4_addRow_18 h.2.1 hin ?_
  have g0 := h.1.put (i := 57) (e' := .inl (0, 7, upd (fun i => nI (op i)) (nI r).toNatClampNeg (nI m))) (by decide)
  have g1 := h.2.1.self (e' := .inl (0, 7, upd (fun i => nI (op i)) (nI r).toNatClampNeg (nI m)))
  have g2 := h.2.2.1.put (i := 57) (e' := .inl (0, 7, upd (fun i => nI (op i)) (nI r).toNatClampNeg (nI m))) (by decide)
  have g3 := h.2.2.2.1.put (i := 57) (e' := .inl (0, 7, upd (fun i => nI (op i)) (nI r).toNatClampNeg (nI m))) (by decide)
  rw [nI_clamp (by omega)] at g0 g1 g2 g3 ⊢
  refine zw_aload_n dX4_addRow_19 rfl ?_
  refine zw_get dX4_addRow_20 fX4_15 g0 rfl ?_
  refine zw_aload_n dX4_addRow_23 rfl ?_
  refine zw_get dX4_addRow_24 fX4_21 g0 rfl ?_
  refine zw_iload_n dX4_addRow_27 rfl ?_
  refine zw_iast dX4_addRow_28 g2 hin ?_
  rw [nI_clamp (by omega)]
  have f0 := g0.put (i := 58) (e' := .inl (0, 7, upd wo r x)) (by decide)
  refine zw_aload_n dX4_addRow_29 rfl ?_
  refine zw_dup dX4_addRow_30 rfl ?_
  refine zw_get dX4_addRow_31 fX4_21 f0 rfl ?_
  refine zw_iconst dX4_addRow_34 1 (by decide) ?_
  refine zw_iadd dX4_addRow_35 ?_
  refine zw_top (nI_1 r) ?_
  refine zw_put dX4_addRow_36 pX4_21 f0 (fun _ => rfl) (fun _ => rfl) (Nat.le_of_ble_eq_true rfl) ?_
  refine zw_return dX4_addRow_39 rfl (Nat.le_refl _) (Nat.le_refl _) ?_
  refine k _ ⟨f0.self, ?_, (g2.self).put (by decide), (g3.put (by decide)).put (by decide), hr, h.2.2.2.2.2.1, fun i hi => ?_⟩ ((zOff.pt (by decide) (by decide)).tr ((zOff.pt (by decide) (by decide)).tr (zOff.pt (by decide) (by decide))))
  · have e : (fun i => nI (va_up op r m i)) = upd (fun i => nI (op i)) r (nI m) := by
      funext i
      by_cases hi : i = r
      · subst hi; simp [va_up, upd]
      · simp [va_up, upd, hi]
    rw [e]
    exact (g1.put (by decide)).put (by decide)
  · by_cases e : i = r
    · subst e; simp only [va_up, if_pos]; exact hm
    · simp only [va_up, if_neg e]; exact h.2.2.2.2.2.2 i (by omega)
theorem b_from {row t : Nat} (h : isP w r c op wo be) (hr : row ≤ r) (ht : t < 128) (k : Q (some (.int (be (row * 128 + t)))) w) : Zm (d + 1) mX4_bestFrom 0 0 [.ref 56, .int (nI row), .int (nI t)] w Q := by
  have hr7 := h.2.2.2.2.1
  refine zm_intro [_, _, _, _] oX4_bestFrom (Nat.le_of_ble_eq_true rfl) rfl ?_
  refine zw_iload_n dX4_bestFrom_0 rfl ?_
  refine zw_iconst dX4_bestFrom_1 0 (by decide) ?_
  refine zw_aload_n dX4_bestFrom_2 rfl ?_
  refine zw_get dX4_bestFrom_3 fX4_21 h.1 rfl ?_
  refine zw_cS3 dX4_bestFrom_6 oX8_within kX8_within lX4_47 (Nat.le_of_ble_eq_true rfl) rfl (x_within (fun h1 h2 => ?_) (fun h1 => ?_))
  · show Zw _ _ _ 9 [_, _, _, _] [_] _ _
    refine zw_if_eq 26 dX4_bestFrom_9 (by decide) (fun hz => absurd hz (by decide)) (fun _ => ?_)
    refine zw_iload_n dX4_bestFrom_12 rfl ?_
    refine zw_iconst dX4_bestFrom_13 0 (by decide) ?_
    refine zw_bipush dX4_bestFrom_14 127 (by decide) ?_
    refine zw_cS3 dX4_bestFrom_16 oX8_within kX8_within lX4_47 (Nat.le_of_ble_eq_true rfl) rfl (x_within (fun h3 h4 => ?_) (fun h3 => ?_))
    · show Zw _ _ _ 19 [_, _, _, _] [_] _ _
      refine zw_if_eq 26 dX4_bestFrom_19 (by decide) (fun hz => absurd hz (by decide)) (fun _ => ?_)
      refine zw_iconst dX4_bestFrom_22 1 (by decide) ?_
      refine zw_goto 27 dX4_bestFrom_23 (by decide) ?_
      refine zw_istore_n [_, _, _, _] dX4_bestFrom_27 (Nat.le_of_ble_eq_true rfl) rfl ?_
      refine zw_iload_n dX4_bestFrom_28 rfl ?_
      refine zw_if_eq 47 dX4_bestFrom_29 (by decide) (fun hz => absurd hz (by decide)) (fun _ => ?_)
      refine zw_aload_n dX4_bestFrom_32 rfl ?_
      refine zw_get dX4_bestFrom_33 fX4_18 h.1 rfl ?_
      refine zw_iload_n dX4_bestFrom_36 rfl ?_
      refine zw_sipush dX4_bestFrom_37 128 (by decide) ?_
      refine zw_imul dX4_bestFrom_40 ?_
      refine zw_iload_n dX4_bestFrom_41 rfl ?_
      refine zw_iadd dX4_bestFrom_42 ?_
      refine zw_top (isT_ix (W := 128)) ?_
      refine zw_iald dX4_bestFrom_43 h.2.2.2.1 (vp_in_nI (by omega) (by decide)) ?_
      refine zw_goto 48 dX4_bestFrom_44 (by decide) ?_
      refine zw_ireturn .int dX4_bestFrom_48 rfl rfl (Nat.le_refl _) (Nat.le_refl _) ?_
      rw [nI_clamp (by omega)]
      exact k
    · exact absurd ⟨nI_pos' (by omega), nI_le (b := 127) (by omega) (by decide)⟩ h3
  · exact absurd ⟨nI_pos' (by omega), nI_le hr (by omega)⟩ h1
theorem b_with {row t i : Nat} (h : isP w r c op wo be) (hr : row < r) (ht : t < 2 ^ c) (hi : i < c) (k : Q (some (.int (wo row + be ((row + 1) * 128 + (t ||| 2 ^ i))))) w) : Zm (d + 2) mX4_bestWith 0 0 [.ref 56, .int (nI row), .int (nI t), .int (nI i)] w Q := by
  have hr7 := h.2.2.2.2.1
  have hc7 := h.2.2.2.2.2.1
  have hp := pow_c hc7
  have ho := orb_lt ht hi
  refine zm_intro [_, _, _, _] oX4_bestWith (Nat.le_of_ble_eq_true rfl) rfl ?_
  refine zw_aload_n dX4_bestWith_0 rfl ?_
  refine zw_get dX4_bestWith_1 fX4_15 h.1 rfl ?_
  refine zw_iload_n dX4_bestWith_4 rfl ?_
  refine zw_iald dX4_bestWith_5 h.2.2.1 (vp_in_nI (by omega) (by decide)) ?_
  refine zw_aload_n dX4_bestWith_6 rfl ?_
  refine zw_iload_n dX4_bestWith_7 rfl ?_
  refine zw_iconst dX4_bestWith_8 1 (by decide) ?_
  refine zw_iadd dX4_bestWith_9 ?_
  refine zw_top (nI_1 row) ?_
  refine zw_iload_n dX4_bestWith_10 rfl ?_
  refine zw_iconst dX4_bestWith_11 1 (by decide) ?_
  refine zw_iload_n dX4_bestWith_12 rfl ?_
  refine zw_ishl dX4_bestWith_13 ?_
  refine zw_ior dX4_bestWith_14 ?_
  refine zw_top (orb_I t (by omega) i (by omega)) ?_
  refine zw_cV2 dX4_bestWith_15 oX4_bestFrom kX4_bestFrom lX4_40 h.1 rfl (Nat.le_of_ble_eq_true rfl) rfl (b_from h (row := row + 1) (by omega) (by omega) ?_)
  show Zw _ _ _ 18 [_, _, _, _] [_, _] _ _
  refine zw_iadd dX4_bestWith_18 ?_
  refine zw_ireturn .int dX4_bestWith_19 rfl rfl (Nat.le_refl _) (Nat.le_refl _) ?_
  rw [nI_clamp (by omega)]
  exact k
theorem b_ofL {row t : Nat} {o6 : Nat} (h : isP w r c op wo be) (hr : row < r) (ht : t < 2 ^ c) (ho6 : o6 = andn (op row) t) : ∀ (k i : Nat) (a : Int32), i + k = c → Q (some (.int (colF o6 (fun i => wo row + be ((row + 1) * 128 + (t ||| 2 ^ i))) i k a))) w → Zw (d + 3) mX4_bestOf z0 24 [some (.ref 56), some (.int (nI row)), some (.int (nI t)), some (.int a), some (.int (nI o6)), some (.int (nI i))] [] w Q := by
  have hr7 := h.2.2.2.2.1
  have hc7 := h.2.2.2.2.2.1
  have hp := pow_c hc7
  have hl : o6 < 128 := by rw [ho6]; exact andn_lt (h.2.2.2.2.2.2 row hr)
  intro k
  induction k with
  | zero =>
    intro i a hi kk
    refine zw_iload dX4_bestOf_24 rfl ?_
    refine zw_aload_n dX4_bestOf_26 rfl ?_
    refine zw_get dX4_bestOf_27 fX4_34 h.1 rfl ?_
    refine zw_icmp_ge 63 dX4_bestOf_30 (by decide) (fun _ => ?_) (fun hz => absurd (nI_le (by omega) (by omega)) hz)
    refine zw_iload_n dX4_bestOf_63 rfl ?_
    refine zw_ireturn .int dX4_bestOf_64 rfl rfl (Nat.le_refl _) (Nat.le_refl _) ?_
    exact kk
  | succ k ih =>
    intro i a hi kk
    unfold colF at kk
    refine zw_iload dX4_bestOf_24 rfl ?_
    refine zw_aload_n dX4_bestOf_26 rfl ?_
    refine zw_get dX4_bestOf_27 fX4_34 h.1 rfl ?_
    refine zw_icmp_ge 63 dX4_bestOf_30 (by decide) (fun hz => absurd hz (nI_ge (by omega) (by omega))) (fun _ => ?_)
    refine zw_iload dX4_bestOf_33 rfl ?_
    refine zw_iload dX4_bestOf_35 rfl ?_
    refine zw_ishr dX4_bestOf_37 ?_
    refine zw_iconst dX4_bestOf_38 1 (by decide) ?_
    refine zw_iand dX4_bestOf_39 ?_
    refine zw_top (bit_t o6 hl i (by omega)) ?_
    refine zw_iconst dX4_bestOf_40 1 (by decide) ?_
    refine zw_icmp_ne 57 dX4_bestOf_41 (by decide) (fun hf => ?_) (fun hf => ?_)
    · refine zw_iinc (nI (i + 1)) [_, _, _, _, _, _] dX4_bestOf_57 rfl (nI_1 i) rfl ?_
      refine zw_goto 24 dX4_bestOf_60 (by decide) ?_
      refine ih (i + 1) a (by omega) ?_
      rwa [if_neg (fun z => hf (if_pos z))] at kk
    · refine zw_iload_n dX4_bestOf_44 rfl ?_
      refine zw_aload_n dX4_bestOf_45 rfl ?_
      refine zw_iload_n dX4_bestOf_46 rfl ?_
      refine zw_iload_n dX4_bestOf_47 rfl ?_
      refine zw_iload dX4_bestOf_48 rfl ?_
      refine zw_cV3 dX4_bestOf_50 oX4_bestWith kX4_bestWith lX4_43 h.1 rfl (Nat.le_of_ble_eq_true rfl) rfl (b_with h hr ht (by omega) ?_)
      show Zw _ _ _ 53 [_, _, _, _, _, _] [_, _] _ _
      refine zw_max dX4_bestOf_53 lX4_31 w_stat_max iniJ9 w_code_max rfl (Nat.le_of_ble_eq_true rfl) (by decide) (by decide) ?_
      refine zw_istore_n [_, _, _, _, _, _] dX4_bestOf_56 (Nat.le_of_ble_eq_true rfl) rfl ?_
      refine zw_iinc (nI (i + 1)) [_, _, _, _, _, _] dX4_bestOf_57 rfl (nI_1 i) rfl ?_
      refine zw_goto 24 dX4_bestOf_60 (by decide) ?_
      refine ih (i + 1) _ (by omega) ?_
      rwa [if_pos (by by_cases z : o6.testBit i = true; exact z; rw [if_neg z] at hf; exact absurd hf (by decide))] at kk
theorem b_of {row t : Nat} (h : isP w r c op wo be) (hr : row < r) (ht : t < 2 ^ c) (k : Q (some (.int (colF (andn (op row) t) (fun i => wo row + be ((row + 1) * 128 + (t ||| 2 ^ i))) 0 c (be ((row + 1) * 128 + t))))) w) : Zm (d + 3) mX4_bestOf 0 0 [.ref 56, .int (nI row), .int (nI t)] w Q := by
  have hr7 := h.2.2.2.2.1
  have hc7 := h.2.2.2.2.2.1
  have hp := pow_c hc7
  refine zm_intro [_, _, _, _, _, _] oX4_bestOf (Nat.le_of_ble_eq_true rfl) rfl ?_
  refine zw_aload_n dX4_bestOf_0 rfl ?_
  refine zw_iload_n dX4_bestOf_1 rfl ?_
  refine zw_iconst dX4_bestOf_2 1 (by decide) ?_
  refine zw_iadd dX4_bestOf_3 ?_
  refine zw_top (nI_1 row) ?_
  refine zw_iload_n dX4_bestOf_4 rfl ?_
  refine zw_cV2 dX4_bestOf_5 oX4_bestFrom kX4_bestFrom lX4_40 h.1 rfl (Nat.le_of_ble_eq_true rfl) rfl (b_from h (row := row + 1) (by omega) (by omega) ?_)
  show Zw _ _ _ 8 [_, _, _, _, _, _] [_] _ _
  refine zw_istore_n [_, _, _, _, _, _] dX4_bestOf_8 (Nat.le_of_ble_eq_true rfl) rfl ?_
  refine zw_aload_n dX4_bestOf_9 rfl ?_
  refine zw_get dX4_bestOf_10 fX4_9 h.1 rfl ?_
  refine zw_iload_n dX4_bestOf_13 rfl ?_
  refine zw_iald dX4_bestOf_14 h.2.1 (vp_in_nI (by omega) (by decide)) ?_
  rw [nI_clamp (by omega)]
  refine zw_iload_n dX4_bestOf_15 rfl ?_
  refine zw_iconst dX4_bestOf_16 (-1) (by decide) ?_
  refine zw_ixor dX4_bestOf_17 ?_
  refine zw_iand dX4_bestOf_18 ?_
  refine zw_top (andn_I (op row) (h.2.2.2.2.2.2 row hr) t (by omega)) ?_
  refine zw_istore [_, _, _, _, _, _] dX4_bestOf_19 (Nat.le_of_ble_eq_true rfl) rfl ?_
  refine zw_iconst dX4_bestOf_21 0 (by decide) ?_
  refine zw_istore [_, _, _, _, _, _] dX4_bestOf_22 (Nat.le_of_ble_eq_true rfl) rfl ?_
  exact b_ofL h hr ht rfl c 0 _ (by omega) k
end ZPAIRS
