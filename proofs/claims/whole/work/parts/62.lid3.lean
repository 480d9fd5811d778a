/-! ===== LidForEach: pairs and crowds ===== -/
theorem colF_congr {m : Nat} {v v' : Nat → Int32} : ∀ (k i : Nat) (a : Int32), (∀ j, i ≤ j → j < i + k → v j = v' j) → colF m v i k a = colF m v' i k a := by
  intro k
  induction k with
  | zero => intro i a _; rfl
  | succ k ih =>
    intro i a h
    show colF m v (i + 1) k _ = colF m v' (i + 1) k _
    rw [h i (Nat.le_refl _) (by omega)]
    exact ih (i + 1) _ (fun j h1 h2 => h j (by omega) (by omega))
theorem bstR_congr {op op' : Nat → Nat} {wo wo' : Nat → Int32} {c r : Nat} (h1 : ∀ i, i < r → op i = op' i) (h2 : ∀ i, i < r → wo i = wo' i) : ∀ (k t : Nat), k ≤ r → bstR op wo c r k t = bstR op' wo' c r k t := by
  intro k
  induction k with
  | zero => intro t _; rfl
  | succ k ih =>
    intro t hk
    show colF (andn (op (r - (k + 1))) t) _ 0 c _ = colF (andn (op' (r - (k + 1))) t) _ 0 c _
    rw [h1 _ (by omega), h2 _ (by omega), ih t (by omega)]
    exact colF_congr c 0 _ (fun j _ _ => by rw [ih _ (by omega)])
theorem leastC_congr {op op' : Nat → Nat} {wo wo' : Nat → Int32} {c r : Nat} (h1 : ∀ i, i < r → op i = op' i) (h2 : ∀ i, i < r → wo i = wo' i) (row t : Nat) (hr : row < r) : leastC op wo c r row t = leastC op' wo' c r row t := by
  unfold leastC
  congr 1
  funext i
  rw [h1 _ hr, h2 _ hr, bstR_congr h1 h2 _ _ (by omega), bstR_congr h1 h2 _ _ (by omega)]
theorem prtF_congr {op op' : Nat → Nat} {wo wo' : Nat → Int32} {c r : Nat} (h1 : ∀ i, i < r → op i = op' i) (h2 : ∀ i, i < r → wo i = wo' i) : ∀ (k row t : Nat) (last : Int32), row + k ≤ r → prtF op wo c r row k t last = prtF op' wo' c r row k t last := by
  intro k
  induction k with
  | zero => intro row t last _; rfl
  | succ k ih =>
    intro row t last hk
    show prtF op wo c r (row + 1) k _ _ = prtF op' wo' c r (row + 1) k _ _
    rw [leastC_congr h1 h2 row t (by omega)]
    exact ih _ _ _ (by omega)
/-- what a pair is worth: one, or what the box holds -/
def pW (C : Cup) (y : Int32) (i : Nat) : Int32 := if y = 0 then 1 else (C 0).2 (i * 5 + 2)
/-- the most that can be paired when the lids of t are away -/
def cBest (C : Cup) (y : Int32) (t : Nat) : Int32 := bstR (cMask C) (pW C y) (C 1).1 (C 0).1 (C 0).1 t
def cPart (C : Cup) (a : Nat) : Int32 := prtF (cMask C) (pW C 0) (C 1).1 (C 0).1 0 (a + 1) 0 (-1)
section ZL3
variable {d : Nat} {w : ZW} {C I0 I1 : Cup} {len : Nat} {bt : Nat → Int32} {fa fb : Int64} {ki bd no fu : Int32} {Q : Option Value → ZW → Prop}
theorem x_pairL {y : Int32} {w0 : ZW} (hk : okK (C 1)) (hc : isS w0 C I0 I1 len bt fa fb ki bd no fu) (hK : ∀ w op wo be o, isP w (C 0).1 (C 1).1 op wo be → zOff 56 60 w0 w → (∀ i, i < (C 0).1 → op i = cMask C i) → (∀ i, i < (C 0).1 → wo i = pW C y i) → Zw (d + 5) mX8_pairLids z0 74 [some (.ref 0), some (.int y), o] [] w Q) : ∀ (k i : Nat) (w : ZW) (op : Nat → Nat) (wo be : Nat → Int32), i + k = (C 0).1 → isP w i (C 1).1 op wo be → zOff 56 60 w0 w → (∀ j, j < i → op j = cMask C j) → (∀ j, j < i → wo j = pW C y j) → Zw (d + 5) mX8_pairLids z0 19 [some (.ref 0), some (.int y), some (.int (nI i))] [] w Q := by
  have hn7 : (C 0).1 ≤ 7 := hc.2.1.2.1.2.2.1
  have hl7 : (C 1).1 ≤ 7 := hc.2.1.2.2.1.2.2.1
  intro k
  induction k with
  | zero =>
    intro i w op wo be hi hp ho h1 h2
    have h := hc.pr ho hp
    have e : i = (C 0).1 := by omega
    subst e
    refine zw_iload_n dX8_pairLids_19 rfl ?_
    refine zw_aload_n dX8_pairLids_20 rfl ?_
    refine zw_get dX8_pairLids_21 fX8_12 h.1 rfl ?_
    refine zw_get dX8_pairLids_24 fX8_89 h.2.1.1 rfl ?_
    refine zw_cV0 dX8_pairLids_27 oX6_size kX6_size lX8_181 h.2.1.2.1.1 rfl (Nat.le_of_ble_eq_true rfl) rfl (t_size h.2.1.2.1 ?_)
    show Zw _ _ _ 30 [_, _, _] [_, _] _ _
    refine zw_icmp_ge 74 dX8_pairLids_30 (by decide) (fun _ => ?_) (fun hz => absurd (nI_le (Nat.le_refl _) (by omega)) hz)
    exact hK w op wo be _ hp ho h1 h2
  | succ k ih =>
    intro i w op wo be hi hp ho h1 h2
    have h := hc.pr ho hp
    refine zw_iload_n dX8_pairLids_19 rfl ?_
    refine zw_aload_n dX8_pairLids_20 rfl ?_
    refine zw_get dX8_pairLids_21 fX8_12 h.1 rfl ?_
    refine zw_get dX8_pairLids_24 fX8_89 h.2.1.1 rfl ?_
    refine zw_cV0 dX8_pairLids_27 oX6_size kX6_size lX8_181 h.2.1.2.1.1 rfl (Nat.le_of_ble_eq_true rfl) rfl (t_size h.2.1.2.1 ?_)
    show Zw _ _ _ 30 [_, _, _] [_, _] _ _
    refine zw_icmp_ge 74 dX8_pairLids_30 (by decide) (fun hz => absurd hz (nI_ge (by omega) (by omega))) (fun _ => ?_)
    refine zw_aload_n dX8_pairLids_33 rfl ?_
    refine zw_get dX8_pairLids_34 fX8_35 h.1 rfl ?_
    refine zw_aload_n dX8_pairLids_37 rfl ?_
    refine zw_get dX8_pairLids_38 fX8_12 h.1 rfl ?_
    refine zw_iload_n dX8_pairLids_41 rfl ?_
    refine zw_cV1 dX8_pairLids_42 oX1_lidsFor kX1_lidsFor lX8_148 h.2.1.1 rfl (Nat.le_of_ble_eq_true rfl) rfl (c_lidsFor h.2.1 hk (by omega) ?_)
    show Zw _ _ _ 45 [_, _, _] [_, _] _ _
    refine zw_iload_n dX8_pairLids_45 rfl ?_
    by_cases hy : y = 0
    · refine zw_if_eq 64 dX8_pairLids_46 (by decide) (fun _ => ?_) (fun hz => absurd (hy) hz)
      refine zw_iconst dX8_pairLids_64 1 (by decide) ?_
      refine zw_cV2 dX8_pairLids_65 oX4_addRow kX4_addRow lX8_191 hp.1 rfl (Nat.le_of_ble_eq_true rfl) rfl (b_addRow (r := i) hp (by omega) (cMask_lt hl7) (fun w1 p1 o1 => ?_))
      show Zw _ _ _ 68 [_, _, _] [] _ _
      refine zw_iinc (nI (i + 1)) [_, _, _] dX8_pairLids_68 rfl (nI_1 i) rfl ?_
      refine zw_goto 19 dX8_pairLids_71 (by decide) ?_
      refine ih (i + 1) w1 _ _ be (by omega) p1 (ho.tr o1) (fun j hj => ?_) (fun j hj => ?_)
      · unfold va_up
        split
        · rename_i q; rw [q]
        · exact h1 j (by omega)
      · unfold upd
        split
        · rename_i q; rw [q]; unfold pW; rw [if_pos hy]
        · exact h2 j (by omega)
    · refine zw_if_eq 64 dX8_pairLids_46 (by decide) (fun hz => absurd hz (hy)) (fun _ => ?_)
      refine zw_aload_n dX8_pairLids_49 rfl ?_
      refine zw_get dX8_pairLids_50 fX8_12 h.1 rfl ?_
      refine zw_get dX8_pairLids_53 fX8_89 h.2.1.1 rfl ?_
      refine zw_iload_n dX8_pairLids_56 rfl ?_
      refine zw_iconst dX8_pairLids_57 2 (by decide) ?_
      refine zw_cV2 dX8_pairLids_58 oX6_at kX6_at lX8_99 h.2.1.2.1.1 rfl (Nat.le_of_ble_eq_true rfl) rfl (t_at (r := i) (c := 2) h.2.1.2.1 (by omega) (by decide) ?_)
      show Zw _ _ _ 61 [_, _, _] [_, _, _] _ _
      refine zw_goto 65 dX8_pairLids_61 (by decide) ?_
      refine zw_cV2 dX8_pairLids_65 oX4_addRow kX4_addRow lX8_191 hp.1 rfl (Nat.le_of_ble_eq_true rfl) rfl (b_addRow (r := i) hp (by omega) (cMask_lt hl7) (fun w1 p1 o1 => ?_))
      show Zw _ _ _ 68 [_, _, _] [] _ _
      refine zw_iinc (nI (i + 1)) [_, _, _] dX8_pairLids_68 rfl (nI_1 i) rfl ?_
      refine zw_goto 19 dX8_pairLids_71 (by decide) ?_
      refine ih (i + 1) w1 _ _ be (by omega) p1 (ho.tr o1) (fun j hj => ?_) (fun j hj => ?_)
      · unfold va_up
        split
        · rename_i q; rw [q]
        · exact h1 j (by omega)
      · unfold upd
        split
        · rename_i q; rw [q]; unfold pW; rw [if_neg hy]
        · exact h2 j (by omega)
/-- the pairs are worked out for this cupboard -/
def pOk (w : ZW) (C : Cup) (y : Int32) : Prop := ∃ op wo be, isP w (C 0).1 (C 1).1 op wo be ∧ okP (C 0).1 (C 1).1 0 op wo be ∧ (∀ i, i < (C 0).1 → op i = cMask C i) ∧ ∀ i, i < (C 0).1 → wo i = pW C y i
theorem x_pairLids {y : Int32} (h : isS w C I0 I1 len bt fa fb ki bd no fu) (hk : okK (C 1)) (k : ∀ w', isS w' C I0 I1 len bt fa fb ki bd no fu → pOk w' C y → zOff 56 60 w w' → Q none w') : Zm (d + 5) mX8_pairLids 0 0 [.ref 0, .int y] w Q := by
  have hl7 : (C 1).1 ≤ 7 := h.2.1.2.2.1.2.2.1
  obtain ⟨r, c, op, wo, be, hp⟩ := h.2.2.2.2.2.2.1
  refine zm_intro [_, _, _] oX8_pairLids (Nat.le_of_ble_eq_true rfl) rfl ?_
  refine zw_aload_n dX8_pairLids_0 rfl ?_
  refine zw_get dX8_pairLids_1 fX8_35 h.1 rfl ?_
  refine zw_aload_n dX8_pairLids_4 rfl ?_
  refine zw_get dX8_pairLids_5 fX8_12 h.1 rfl ?_
  refine zw_get dX8_pairLids_8 fX8_178 h.2.1.1 rfl ?_
  refine zw_cV0 dX8_pairLids_11 oX6_size kX6_size lX8_181 h.2.1.2.2.1.1 rfl (Nat.le_of_ble_eq_true rfl) rfl (t_size h.2.1.2.2.1 ?_)
  show Zw _ _ _ 14 [_, _, _] [_, _] _ _
  refine zw_cV1 dX8_pairLids_14 oX4_begin kX4_begin lX8_184 hp.1 rfl (Nat.le_of_ble_eq_true rfl) rfl (b_begin hp hl7 (fun w1 p1 o1 => ?_))
  show Zw _ _ _ 17 [_, _, _] [] _ _
  refine zw_iconst dX8_pairLids_17 0 (by decide) ?_
  refine zw_istore_n [_, _, _] dX8_pairLids_18 (Nat.le_of_ble_eq_true rfl) rfl ?_
  refine x_pairL (w0 := w) hk h (fun w2 op2 wo2 be2 o p2 q2 e1 e2 => ?_) (C 0).1 0 w1 op wo be (by omega) p1 o1 (fun j hj => absurd hj (Nat.not_lt_zero _)) (fun j hj => absurd hj (Nat.not_lt_zero _))
  have g := h.pr q2 p2
  refine zw_aload_n dX8_pairLids_74 rfl ?_
  refine zw_get dX8_pairLids_75 fX8_35 g.1 rfl ?_
  refine zw_cV0 dX8_pairLids_78 oX4_solve kX4_solve lX8_195 p2.1 rfl (Nat.le_of_ble_eq_true rfl) rfl (b_solve p2 (fun w3 be3 p3 o3 k3 => ?_))
  show Zw _ _ _ 81 [_, _, _] [] _ _
  refine zw_return dX8_pairLids_81 rfl (Nat.le_refl _) (Nat.le_refl _) ?_
  exact k w3 (h.pr (q2.tr o3) p3) ⟨op2, wo2, be3, p3, k3, e1, e2⟩ (q2.tr o3)
theorem p_without {y : Int32} {t : Nat} (h : pOk w C y) (ht : t < 2 ^ (C 1).1) (k : Q (some (.int (cBest C y t))) w) : Zm (d + 2) mX4_bestWithout 0 0 [.ref 56, .int (nI t)] w Q := by
  obtain ⟨op, wo, be, hp, hk, e1, e2⟩ := h
  refine b_without hp hk ht ?_
  rw [bstR_congr e1 e2 _ _ (Nat.le_refl _)]
  exact k
theorem p_partner {a : Nat} (h : pOk w C 0) (ha : a < (C 0).1) (k : Q (some (.int (cPart C a))) w) : Zm (d + 4) mX4_partner 0 0 [.ref 56, .int (nI a)] w Q := by
  obtain ⟨op, wo, be, hp, hk, e1, e2⟩ := h
  refine b_partner hp hk ha ?_
  rw [prtF_congr e1 e2 _ _ _ _ (by omega)]
  exact k
theorem pOk.at {y : Int32} (h : pOk w C y) : ∃ r c, zat w 56 (.inr (4, [.ref 57, .ref 58, .ref 59, .int (nI r), .int (nI c)])) := by
  obtain ⟨op, wo, be, hp, _⟩ := h
  exact ⟨_, _, hp.1⟩
theorem l_much (h : isS w C I0 I1 len bt fa fb ki bd no fu) (hk : okK (C 1)) (k : ∀ w', isS w' C I0 I1 len bt fa fb ki bd no fu → zOff 0 74 w w' → Q (some (.int (cBest C 1 0))) w') : Zm (d + 6) mX8_much 0 0 [.ref 0] w Q := by
  refine zm_intro [_] oX8_much (Nat.le_of_ble_eq_true rfl) rfl ?_
  refine zw_aload_n dX8_much_0 rfl ?_
  refine zw_iconst dX8_much_1 1 (by decide) ?_
  refine zw_cV1 dX8_much_2 oX8_pairLids kX8_pairLids lX8_151 h.1 rfl (Nat.le_of_ble_eq_true rfl) rfl (x_pairLids h hk (fun w1 h1 p1 o1 => ?_))
  show Zw _ _ _ 5 [_] [] _ _
  obtain ⟨r, c, hz⟩ := p1.at
  refine zw_aload_n dX8_much_5 rfl ?_
  refine zw_get dX8_much_6 fX8_35 h1.1 rfl ?_
  refine zw_iconst dX8_much_9 0 (by decide) ?_
  refine zw_cV1 dX8_much_10 oX4_bestWithout kX4_bestWithout lX8_155 hz rfl (Nat.le_of_ble_eq_true rfl) rfl (p_without (t := 0) p1 (Nat.two_pow_pos _) ?_)
  show Zw _ _ _ 13 [_] [_] _ _
  refine zw_ireturn .int dX8_much_13 rfl rfl (Nat.le_refl _) (Nat.le_refl _) ?_
  exact k w1 h1 (o1.wd (by decide) (by decide))
theorem l_worth {x : Int32} (h : isS w C I0 I1 len bt fa fb ki bd no fu) (hk : okK (C 1)) (kB : (∀ r, r < (C 1).1 → ¬ x = nI r) → ∀ w', isS w' C I0 I1 len bt fa fb ki (bd + 1) no fu → zOff 0 74 w w' → Q (some (.int (-2))) w') (kA : ∀ r, r < (C 1).1 → x = nI r → ∀ w', isS w' C I0 I1 len bt fa fb ki bd no fu → zOff 0 74 w w' → Q (some (.int (cBest C 1 0 - cBest C 1 (2 ^ r)))) w') : Zm (d + 6) mX8_worth 0 0 [.ref 0, .int x] w Q := by
  have hl7 : (C 1).1 ≤ 7 := h.2.1.2.2.1.2.2.1
  refine zm_intro [_, _] oX8_worth (Nat.le_of_ble_eq_true rfl) rfl ?_
  refine zw_aload_n dX8_worth_0 rfl ?_
  refine zw_get dX8_worth_1 fX8_12 h.1 rfl ?_
  refine zw_get dX8_worth_4 fX8_178 h.2.1.1 rfl ?_
  refine zw_iload_n dX8_worth_7 rfl ?_
  refine zw_cV1 dX8_worth_8 oX6_contains kX6_contains lX8_93 h.2.1.2.2.1.1 rfl (Nat.le_of_ble_eq_true rfl) rfl (t_contains h.2.1.2.2.1 (fun r hr e => ?_) (fun hx => ?_))
  · show Zw _ _ _ 11 [_, _] [_] _ _
    have kk := kA r hr e
    subst e
    refine zw_if_ne 21 dX8_worth_11 (by decide) (fun _ => ?_) (fun hz => absurd hz (by decide))
    refine zw_aload_n dX8_worth_21 rfl ?_
    refine zw_iconst dX8_worth_22 1 (by decide) ?_
    refine zw_cV1 dX8_worth_23 oX8_pairLids kX8_pairLids lX8_151 h.1 rfl (Nat.le_of_ble_eq_true rfl) rfl (x_pairLids h hk (fun w1 h1 p1 o1 => ?_))
    show Zw _ _ _ 26 [_, _] [] _ _
    obtain ⟨r', c', hz⟩ := p1.at
    refine zw_aload_n dX8_worth_26 rfl ?_
    refine zw_get dX8_worth_27 fX8_35 h1.1 rfl ?_
    refine zw_iconst dX8_worth_30 0 (by decide) ?_
    refine zw_cV1 dX8_worth_31 oX4_bestWithout kX4_bestWithout lX8_155 hz rfl (Nat.le_of_ble_eq_true rfl) rfl (p_without (t := 0) p1 (Nat.two_pow_pos _) ?_)
    show Zw _ _ _ 34 [_, _] [_] _ _
    refine zw_aload_n dX8_worth_34 rfl ?_
    refine zw_get dX8_worth_35 fX8_35 h1.1 rfl ?_
    refine zw_iconst dX8_worth_38 1 (by decide) ?_
    refine zw_iload_n dX8_worth_39 rfl ?_
    refine zw_ishl dX8_worth_40 ?_
    refine zw_top (shl_I r (by omega)) ?_
    refine zw_cV1 dX8_worth_41 oX4_bestWithout kX4_bestWithout lX8_155 hz rfl (Nat.le_of_ble_eq_true rfl) rfl (p_without (t := 2 ^ r) p1 (Nat.pow_lt_pow_right (by decide) hr) ?_)
    show Zw _ _ _ 44 [_, _] [_, _] _ _
    refine zw_isub dX8_worth_44 ?_
    refine zw_ireturn .int dX8_worth_45 rfl rfl (Nat.le_refl _) (Nat.le_refl _) ?_
    exact kk w1 h1 (o1.wd (by decide) (by decide))
  · show Zw _ _ _ 11 [_, _] [_] _ _
    refine zw_if_ne 21 dX8_worth_11 (by decide) (fun hz => absurd (by decide) hz) (fun _ => ?_)
    refine zw_aload_n dX8_worth_14 rfl ?_
    refine zw_bipush dX8_worth_15 (-2) (by decide) ?_
    refine zw_cV1 dX8_worth_17 oX8_told kX8_told lX8_71 h.1 rfl (Nat.le_of_ble_eq_true rfl) rfl (x_toldB h (fun w1 h1 o1 => ?_))
    show Zw _ _ _ 20 [_, _] [_] _ _
    refine zw_ireturn .int dX8_worth_20 rfl rfl (Nat.le_refl _) (Nat.le_refl _) ?_
    exact kB hx w1 h1 o1
theorem l_most {x : Int32} (h : isS w C I0 I1 len bt fa fb ki bd no fu) (hk : okK (C 1)) (kB : ¬ x = -1 → (∀ r, r < (C 0).1 → ¬ x = nI r) → ∀ w', isS w' C I0 I1 len bt fa fb ki (bd + 1) no fu → zOff 0 74 w w' → Q (some (.int (-10))) w') (kN : x = -1 → ∀ w', isS w' C I0 I1 len bt fa fb ki bd no fu → zOff 0 74 w w' → Q (some (.int (cBest C 0 0))) w') (kA : ∀ r, r < (C 0).1 → x = nI r → ∀ w', isS w' C I0 I1 len bt fa fb ki bd no fu → zOff 0 74 w w' → Q (some (.int (cPart C r))) w') : Zm (d + 6) mX8_most 0 0 [.ref 0, .int x] w Q := by
  have hn7 : (C 0).1 ≤ 7 := h.2.1.2.1.2.2.1
  refine zm_intro [_, _] oX8_most (Nat.le_of_ble_eq_true rfl) rfl ?_
  refine zw_iload_n dX8_most_0 rfl ?_
  refine zw_iconst dX8_most_1 (-1) (by decide) ?_
  by_cases hx : x = -1
  · refine zw_icmp_eq 24 dX8_most_2 (by decide) (fun _ => ?_) (fun hz => absurd (hx) hz)
    refine zw_aload_n dX8_most_24 rfl ?_
    refine zw_iconst dX8_most_25 0 (by decide) ?_
    refine zw_cV1 dX8_most_26 oX8_pairLids kX8_pairLids lX8_151 h.1 rfl (Nat.le_of_ble_eq_true rfl) rfl (x_pairLids h hk (fun w1 h1 p1 o1 => ?_))
    show Zw _ _ _ 29 [_, _] [] _ _
    obtain ⟨r', c', hz⟩ := p1.at
    refine zw_iload_n dX8_most_29 rfl ?_
    refine zw_iconst dX8_most_30 (-1) (by decide) ?_
    refine zw_icmp_ne 45 dX8_most_31 (by decide) (fun hz => absurd (hx) hz) (fun _ => ?_)
    refine zw_aload_n dX8_most_34 rfl ?_
    refine zw_get dX8_most_35 fX8_35 h1.1 rfl ?_
    refine zw_iconst dX8_most_38 0 (by decide) ?_
    refine zw_cV1 dX8_most_39 oX4_bestWithout kX4_bestWithout lX8_155 hz rfl (Nat.le_of_ble_eq_true rfl) rfl (p_without (t := 0) p1 (Nat.two_pow_pos _) ?_)
    show Zw _ _ _ 42 [_, _] [_] _ _
    refine zw_goto 53 dX8_most_42 (by decide) ?_
    refine zw_ireturn .int dX8_most_53 rfl rfl (Nat.le_refl _) (Nat.le_refl _) ?_
    exact kN hx w1 h1 (o1.wd (by decide) (by decide))
  · refine zw_icmp_eq 24 dX8_most_2 (by decide) (fun hz => absurd hz (hx)) (fun _ => ?_)
    refine zw_aload_n dX8_most_5 rfl ?_
    refine zw_get dX8_most_6 fX8_12 h.1 rfl ?_
    refine zw_get dX8_most_9 fX8_89 h.2.1.1 rfl ?_
    refine zw_iload_n dX8_most_12 rfl ?_
    refine zw_cV1 dX8_most_13 oX6_contains kX6_contains lX8_93 h.2.1.2.1.1 rfl (Nat.le_of_ble_eq_true rfl) rfl (t_contains h.2.1.2.1 (fun r hr e => ?_) (fun hy => ?_))
    · show Zw _ _ _ 16 [_, _] [_] _ _
      have kk := kA r hr e
      refine zw_if_ne 24 dX8_most_16 (by decide) (fun _ => ?_) (fun hz => absurd hz (by decide))
      refine zw_aload_n dX8_most_24 rfl ?_
      refine zw_iconst dX8_most_25 0 (by decide) ?_
      refine zw_cV1 dX8_most_26 oX8_pairLids kX8_pairLids lX8_151 h.1 rfl (Nat.le_of_ble_eq_true rfl) rfl (x_pairLids h hk (fun w1 h1 p1 o1 => ?_))
      show Zw _ _ _ 29 [_, _] [] _ _
      obtain ⟨r', c', hz⟩ := p1.at
      refine zw_iload_n dX8_most_29 rfl ?_
      refine zw_iconst dX8_most_30 (-1) (by decide) ?_
      refine zw_icmp_ne 45 dX8_most_31 (by decide) (fun _ => ?_) (fun hz => absurd hz (hx))
      refine zw_aload_n dX8_most_45 rfl ?_
      refine zw_get dX8_most_46 fX8_35 h1.1 rfl ?_
      refine zw_iload_n dX8_most_49 rfl ?_
      subst e
      refine zw_cV1 dX8_most_50 oX4_partner kX4_partner lX8_158 hz rfl (Nat.le_of_ble_eq_true rfl) rfl (p_partner (a := r) p1 hr ?_)
      show Zw _ _ _ 53 [_, _] [_] _ _
      refine zw_ireturn .int dX8_most_53 rfl rfl (Nat.le_refl _) (Nat.le_refl _) ?_
      exact kk w1 h1 (o1.wd (by decide) (by decide))
    · show Zw _ _ _ 16 [_, _] [_] _ _
      refine zw_if_ne 24 dX8_most_16 (by decide) (fun hz => absurd (by decide) hz) (fun _ => ?_)
      refine zw_aload_n dX8_most_19 rfl ?_
      refine zw_cV0 dX8_most_20 oX8_badToldApart kX8_badToldApart lX8_102 h.1 rfl (Nat.le_of_ble_eq_true rfl) rfl (x_bad10 h (fun w1 h1 o1 => ?_))
      show Zw _ _ _ 23 [_, _] [_] _ _
      refine zw_ireturn .int dX8_most_23 rfl rfl (Nat.le_refl _) (Nat.le_refl _) ?_
      exact kB hx hy w1 h1 o1
end ZL3
