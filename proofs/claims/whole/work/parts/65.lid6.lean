/-! ===== LidForEach: piles, buy ===== -/
/-- what it costs to have a lid for box b -/
def pU (C : Cup) (b : Nat) : Int32 := purF C b 0 (C 2).1 67108864
def sP (C : Cup) (i k : Nat) (a : Int32) : Int32 := match k with
  | 0 => a
  | k + 1 => sP C (i + 1) k (a + pU C i)
def lP (C : Cup) : Int32 := sP C 0 (C 0).1 0 - bstR (cMask C) (pU C) (C 1).1 (C 0).1 (C 0).1 0
theorem cAround_lt {C : Cup} {a : Nat} (h : (C 0).1 ≤ 7) : cAround C a < 128 := by
  have := mskF_lt (fun b => cNest C a b) (C 0).1 0 0 (by decide)
  rw [Nat.zero_add] at this
  exact Nat.lt_of_lt_of_le this (pow_c h)
section ZL6
variable {d : Nat} {w : ZW} {C I0 I1 : Cup} {len : Nat} {bt : Nat → Int32} {fa fb : Int64} {ki bd no fu : Int32} {Q : Option Value → ZW → Prop}
theorem l_pilesL {x : Int32} {w0 : ZW} (hc : isS w0 C I0 I1 len bt fa fb ki bd no fu) (hK : ∀ w op wo be o, isP w (C 0).1 (C 0).1 op wo be → zOff 56 60 w0 w → (∀ i, i < (C 0).1 → op i = cAround C i) → (∀ i, i < (C 0).1 → wo i = 1) → Zw (d + 5) mX8_piles z0 72 [some (.ref 0), some (.int x), some (.int (nI (C 0).1)), o] [] w Q) : ∀ (k i : Nat) (w : ZW) (op : Nat → Nat) (wo be : Nat → Int32), i + k = (C 0).1 → isP w i (C 0).1 op wo be → zOff 56 60 w0 w → (∀ j, j < i → op j = cAround C j) → (∀ j, j < i → wo j = 1) → Zw (d + 5) mX8_piles z0 45 [some (.ref 0), some (.int x), some (.int (nI (C 0).1)), some (.int (nI i))] [] w Q := by
  have hn7 : (C 0).1 ≤ 7 := hc.2.1.2.1.2.2.1
  intro k
  induction k with
  | zero =>
    intro i w op wo be hi hp ho h1 h2
    have e : i = (C 0).1 := by omega
    subst e
    refine zw_iload_n dX8_piles_45 rfl ?_
    refine zw_iload_n dX8_piles_46 rfl ?_
    refine zw_icmp_ge 72 dX8_piles_47 (by decide) (fun _ => ?_) (fun hz => absurd (nI_le (Nat.le_refl _) (by omega)) hz)
    exact hK w op wo be _ hp ho h1 h2
  | succ k ih =>
    intro i w op wo be hi hp ho h1 h2
    have h := hc.pr ho hp
    refine zw_iload_n dX8_piles_45 rfl ?_
    refine zw_iload_n dX8_piles_46 rfl ?_
    refine zw_icmp_ge 72 dX8_piles_47 (by decide) (fun hz => absurd hz (nI_ge (by omega) (by omega))) (fun _ => ?_)
    refine zw_aload_n dX8_piles_50 rfl ?_
    refine zw_get dX8_piles_51 fX8_35 h.1 rfl ?_
    refine zw_aload_n dX8_piles_54 rfl ?_
    refine zw_get dX8_piles_55 fX8_12 h.1 rfl ?_
    refine zw_iload_n dX8_piles_58 rfl ?_
    refine zw_cV1 dX8_piles_59 oX1_boxesAround kX1_boxesAround lX8_188 h.2.1.1 rfl (Nat.le_of_ble_eq_true rfl) rfl (c_boxesAround (a := i) h.2.1 (by omega) ?_)
    show Zw _ _ _ 62 [_, _, _, _] [_, _] _ _
    refine zw_iconst dX8_piles_62 1 (by decide) ?_
    refine zw_cV2 dX8_piles_63 oX4_addRow kX4_addRow lX8_191 hp.1 rfl (Nat.le_of_ble_eq_true rfl) rfl (b_addRow (r := i) hp (by omega) (cAround_lt hn7) (fun w1 p1 o1 => ?_))
    show Zw _ _ _ 66 [_, _, _, _] [] _ _
    refine zw_iinc (nI (i + 1)) [_, _, _, _] dX8_piles_66 rfl (nI_1 i) rfl ?_
    refine zw_goto 45 dX8_piles_69 (by decide) ?_
    refine ih (i + 1) w1 _ _ be (by omega) p1 (ho.tr o1) (fun j hj => ?_) (fun j hj => ?_)
    · unfold va_up
      split
      · rename_i q; rw [q]
      · exact h1 j (by omega)
    · unfold upd
      split
      · rfl
      · exact h2 j (by omega)
theorem l_pilesM {x : Int32} (h : isS w C I0 I1 len bt fa fb ki bd no fu) (kN : x = -1 → ∀ w', isS w' C I0 I1 len bt fa fb ki bd no fu → zOff 0 74 w w' → Q (some (.int (nI (C 0).1 - cPBest C 0))) w') (kA : ¬ x = -1 → ∃ r, r < (C 0).1 ∧ x = nI r ∧ ∀ w', isS w' C I0 I1 len bt fa fb ki bd no fu → zOff 0 74 w w' → Q (some (.int (cPPart C r))) w') : Zw (d + 5) mX8_piles z0 24 [some (.ref 0), some (.int x), none, none] [] w Q := by
  have hn7 : (C 0).1 ≤ 7 := h.2.1.2.1.2.2.1
  obtain ⟨r, c, op, wo, be, hp⟩ := h.2.2.2.2.2.2.1
  refine zw_aload_n dX8_piles_24 rfl ?_
  refine zw_get dX8_piles_25 fX8_12 h.1 rfl ?_
  refine zw_get dX8_piles_28 fX8_89 h.2.1.1 rfl ?_
  refine zw_cV0 dX8_piles_31 oX6_size kX6_size lX8_181 h.2.1.2.1.1 rfl (Nat.le_of_ble_eq_true rfl) rfl (t_size h.2.1.2.1 ?_)
  show Zw _ _ _ 34 [_, _, _, _] [_] _ _
  refine zw_istore_n [_, _, _, _] dX8_piles_34 (Nat.le_of_ble_eq_true rfl) rfl ?_
  refine zw_aload_n dX8_piles_35 rfl ?_
  refine zw_get dX8_piles_36 fX8_35 h.1 rfl ?_
  refine zw_iload_n dX8_piles_39 rfl ?_
  refine zw_cV1 dX8_piles_40 oX4_begin kX4_begin lX8_184 hp.1 rfl (Nat.le_of_ble_eq_true rfl) rfl (b_begin hp hn7 (fun w1 p1 o1 => ?_))
  show Zw _ _ _ 43 [_, _, _, _] [] _ _
  refine zw_iconst dX8_piles_43 0 (by decide) ?_
  refine zw_istore_n [_, _, _, _] dX8_piles_44 (Nat.le_of_ble_eq_true rfl) rfl ?_
  refine l_pilesL (w0 := w) h (fun w2 op2 wo2 be2 o p2 q2 e1 e2 => ?_) (C 0).1 0 w1 op wo be (by omega) p1 o1 (fun j hj => absurd hj (Nat.not_lt_zero _)) (fun j hj => absurd hj (Nat.not_lt_zero _))
  have g := h.pr q2 p2
  refine zw_aload_n dX8_piles_72 rfl ?_
  refine zw_get dX8_piles_73 fX8_35 g.1 rfl ?_
  refine zw_cV0 dX8_piles_76 oX4_solve kX4_solve lX8_195 p2.1 rfl (Nat.le_of_ble_eq_true rfl) rfl (b_solve p2 (fun w3 be3 p3 o3 k3 => ?_))
  show Zw _ _ _ 79 [_, _, _, _] [] _ _
  have g3 := h.pr (q2.tr o3) p3
  refine zw_iload_n dX8_piles_79 rfl ?_
  refine zw_iconst dX8_piles_80 (-1) (by decide) ?_
  by_cases hx : x = -1
  · refine zw_icmp_ne 97 dX8_piles_81 (by decide) (fun hz => absurd (hx) hz) (fun _ => ?_)
    refine zw_iload_n dX8_piles_84 rfl ?_
    refine zw_aload_n dX8_piles_85 rfl ?_
    refine zw_get dX8_piles_86 fX8_35 g3.1 rfl ?_
    refine zw_iconst dX8_piles_89 0 (by decide) ?_
    refine zw_cV1 dX8_piles_90 oX4_bestWithout kX4_bestWithout lX8_155 p3.1 rfl (Nat.le_of_ble_eq_true rfl) rfl (b_without (t := 0) p3 k3 (Nat.two_pow_pos _) ?_)
    show Zw _ _ _ 93 [_, _, _, _] [_, _] _ _
    refine zw_isub dX8_piles_93 ?_
    refine zw_goto 105 dX8_piles_94 (by decide) ?_
    refine zw_ireturn .int dX8_piles_105 rfl rfl (Nat.le_refl _) (Nat.le_refl _) ?_
    rw [bstR_congr e1 e2 _ _ (Nat.le_refl _)]
    exact kN hx w3 g3 ((q2.tr o3).wd (by decide) (by decide))
  · obtain ⟨a, ha, e, kk⟩ := kA hx
    refine zw_icmp_ne 97 dX8_piles_81 (by decide) (fun _ => ?_) (fun hz => absurd hz (hx))
    subst e
    refine zw_aload_n dX8_piles_97 rfl ?_
    refine zw_get dX8_piles_98 fX8_35 g3.1 rfl ?_
    refine zw_iload_n dX8_piles_101 rfl ?_
    refine zw_cV1 dX8_piles_102 oX4_partner kX4_partner lX8_158 p3.1 rfl (Nat.le_of_ble_eq_true rfl) rfl (b_partner (a := a) p3 k3 ha ?_)
    show Zw _ _ _ 105 [_, _, _, _] [_] _ _
    refine zw_ireturn .int dX8_piles_105 rfl rfl (Nat.le_refl _) (Nat.le_refl _) ?_
    rw [prtF_congr e1 e2 _ _ _ _ (by omega)]
    exact kk w3 g3 ((q2.tr o3).wd (by decide) (by decide))
theorem l_piles {x : Int32} (h : isS w C I0 I1 len bt fa fb ki bd no fu) (kB : ¬ x = -1 → (∀ r, r < (C 0).1 → ¬ x = nI r) → ∀ w', isS w' C I0 I1 len bt fa fb ki (bd + 1) no fu → zOff 0 74 w w' → Q (some (.int (-10))) w') (kN : x = -1 → ∀ w', isS w' C I0 I1 len bt fa fb ki bd no fu → zOff 0 74 w w' → Q (some (.int (nI (C 0).1 - cPBest C 0))) w') (kA : ∀ r, r < (C 0).1 → x = nI r → ∀ w', isS w' C I0 I1 len bt fa fb ki bd no fu → zOff 0 74 w w' → Q (some (.int (cPPart C r))) w') : Zm (d + 5) mX8_piles 0 0 [.ref 0, .int x] w Q := by
  refine zm_intro [_, _, _, _] oX8_piles (Nat.le_of_ble_eq_true rfl) rfl ?_
  refine zw_iload_n dX8_piles_0 rfl ?_
  refine zw_iconst dX8_piles_1 (-1) (by decide) ?_
  by_cases hx : x = -1
  · refine zw_icmp_eq 24 dX8_piles_2 (by decide) (fun _ => ?_) (fun hz => absurd (hx) hz)
    exact l_pilesM h kN (fun z => absurd hx z)
  · refine zw_icmp_eq 24 dX8_piles_2 (by decide) (fun hz => absurd hz (hx)) (fun _ => ?_)
    refine zw_aload_n dX8_piles_5 rfl ?_
    refine zw_get dX8_piles_6 fX8_12 h.1 rfl ?_
    refine zw_get dX8_piles_9 fX8_89 h.2.1.1 rfl ?_
    refine zw_iload_n dX8_piles_12 rfl ?_
    refine zw_cV1 dX8_piles_13 oX6_contains kX6_contains lX8_93 h.2.1.2.1.1 rfl (Nat.le_of_ble_eq_true rfl) rfl (t_contains h.2.1.2.1 (fun r hr e => ?_) (fun hy => ?_))
    · show Zw _ _ _ 16 [_, _, _, _] [_] _ _
      refine zw_if_ne 24 dX8_piles_16 (by decide) (fun _ => ?_) (fun hz => absurd hz (by decide))
      exact l_pilesM h kN (fun _ => ⟨r, hr, e, kA r hr e⟩)
    · show Zw _ _ _ 16 [_, _, _, _] [_] _ _
      refine zw_if_ne 24 dX8_piles_16 (by decide) (fun hz => absurd (by decide) hz) (fun _ => ?_)
      refine zw_aload_n dX8_piles_19 rfl ?_
      refine zw_cV0 dX8_piles_20 oX8_badToldApart kX8_badToldApart lX8_102 h.1 rfl (Nat.le_of_ble_eq_true rfl) rfl (x_bad10 h (fun w1 h1 o1 => ?_))
      show Zw _ _ _ 23 [_, _, _, _] [_] _ _
      refine zw_ireturn .int dX8_piles_23 rfl rfl (Nat.le_refl _) (Nat.le_refl _) ?_
      exact kB hx hy w1 h1 o1
theorem x_leastL {w0 : ZW} (hk : okK (C 1)) (hk2 : okK (C 2)) (hc : isS w0 C I0 I1 len bt fa fb ki bd no fu) (hK : ∀ w op wo be o3 o4, isP w (C 0).1 (C 1).1 op wo be → zOff 56 60 w0 w → (∀ i, i < (C 0).1 → op i = cMask C i) → (∀ i, i < (C 0).1 → wo i = pU C i) → Zw (d + 5) mX8_leastPurchase z0 70 [some (.ref 0), some (.int (sP C 0 (C 0).1 0)), o3, o4] [] w Q) : ∀ (k i : Nat) (w : ZW) (op : Nat → Nat) (wo be : Nat → Int32) (a : Int32) (o : Option Value), i + k = (C 0).1 → sP C i k a = sP C 0 (C 0).1 0 → isP w i (C 1).1 op wo be → zOff 56 60 w0 w → (∀ j, j < i → op j = cMask C j) → (∀ j, j < i → wo j = pU C j) → Zw (d + 5) mX8_leastPurchase z0 21 [some (.ref 0), some (.int a), some (.int (nI i)), o] [] w Q := by
  have hn7 : (C 0).1 ≤ 7 := hc.2.1.2.1.2.2.1
  have hl7 : (C 1).1 ≤ 7 := hc.2.1.2.2.1.2.2.1
  intro k
  induction k with
  | zero =>
    intro i w op wo be a o hi ha hp ho h1 h2
    have h := hc.pr ho hp
    have e : i = (C 0).1 := by omega
    subst e
    have ha : a = sP C 0 (C 0).1 0 := ha
    subst ha
    refine zw_iload_n dX8_leastPurchase_21 rfl ?_
    refine zw_aload_n dX8_leastPurchase_22 rfl ?_
    refine zw_get dX8_leastPurchase_23 fX8_12 h.1 rfl ?_
    refine zw_get dX8_leastPurchase_26 fX8_89 h.2.1.1 rfl ?_
    refine zw_cV0 dX8_leastPurchase_29 oX6_size kX6_size lX8_181 h.2.1.2.1.1 rfl (Nat.le_of_ble_eq_true rfl) rfl (t_size h.2.1.2.1 ?_)
    show Zw _ _ _ 32 [_, _, _, _] [_, _] _ _
    refine zw_icmp_ge 70 dX8_leastPurchase_32 (by decide) (fun _ => ?_) (fun hz => absurd (nI_le (Nat.le_refl _) (by omega)) hz)
    exact hK w op wo be _ _ hp ho h1 h2
  | succ k ih =>
    intro i w op wo be a o hi ha hp ho h1 h2
    have h := hc.pr ho hp
    refine zw_iload_n dX8_leastPurchase_21 rfl ?_
    refine zw_aload_n dX8_leastPurchase_22 rfl ?_
    refine zw_get dX8_leastPurchase_23 fX8_12 h.1 rfl ?_
    refine zw_get dX8_leastPurchase_26 fX8_89 h.2.1.1 rfl ?_
    refine zw_cV0 dX8_leastPurchase_29 oX6_size kX6_size lX8_181 h.2.1.2.1.1 rfl (Nat.le_of_ble_eq_true rfl) rfl (t_size h.2.1.2.1 ?_)
    show Zw _ _ _ 32 [_, _, _, _] [_, _] _ _
    refine zw_icmp_ge 70 dX8_leastPurchase_32 (by decide) (fun hz => absurd hz (nI_ge (by omega) (by omega))) (fun _ => ?_)
    refine zw_aload_n dX8_leastPurchase_35 rfl ?_
    refine zw_get dX8_leastPurchase_36 fX8_12 h.1 rfl ?_
    refine zw_iload_n dX8_leastPurchase_39 rfl ?_
    refine zw_cV1 dX8_leastPurchase_40 oX1_purchaseFor kX1_purchaseFor lX8_312 h.2.1.1 rfl (Nat.le_of_ble_eq_true rfl) rfl (c_purchaseFor (b := i) h.2.1 hk2 (by omega) ?_)
    show Zw _ _ _ 43 [_, _, _, _] [_] _ _
    refine zw_istore_n [_, _, _, _] dX8_leastPurchase_43 (Nat.le_of_ble_eq_true rfl) rfl ?_
    refine zw_iload_n dX8_leastPurchase_44 rfl ?_
    refine zw_iload_n dX8_leastPurchase_45 rfl ?_
    refine zw_iadd dX8_leastPurchase_46 ?_
    refine zw_istore_n [_, _, _, _] dX8_leastPurchase_47 (Nat.le_of_ble_eq_true rfl) rfl ?_
    refine zw_aload_n dX8_leastPurchase_48 rfl ?_
    refine zw_get dX8_leastPurchase_49 fX8_35 h.1 rfl ?_
    refine zw_aload_n dX8_leastPurchase_52 rfl ?_
    refine zw_get dX8_leastPurchase_53 fX8_12 h.1 rfl ?_
    refine zw_iload_n dX8_leastPurchase_56 rfl ?_
    refine zw_cV1 dX8_leastPurchase_57 oX1_lidsFor kX1_lidsFor lX8_148 h.2.1.1 rfl (Nat.le_of_ble_eq_true rfl) rfl (c_lidsFor (b := i) h.2.1 hk (by omega) ?_)
    show Zw _ _ _ 60 [_, _, _, _] [_, _] _ _
    refine zw_iload_n dX8_leastPurchase_60 rfl ?_
    refine zw_cV2 dX8_leastPurchase_61 oX4_addRow kX4_addRow lX8_191 hp.1 rfl (Nat.le_of_ble_eq_true rfl) rfl (b_addRow (r := i) hp (by omega) (cMask_lt hl7) (fun w1 p1 o1 => ?_))
    show Zw _ _ _ 64 [_, _, _, _] [] _ _
    refine zw_iinc (nI (i + 1)) [_, _, _, _] dX8_leastPurchase_64 rfl (nI_1 i) rfl ?_
    refine zw_goto 21 dX8_leastPurchase_67 (by decide) ?_
    refine ih (i + 1) w1 _ _ be (a + pU C i) _ (by omega) ha p1 (ho.tr o1) (fun j hj => ?_) (fun j hj => ?_)
    · unfold va_up
      split
      · rename_i q; rw [q]
      · exact h1 j (by omega)
    · unfold upd
      split
      · rename_i q; rw [q]; rfl
      · exact h2 j (by omega)
theorem x_least (h : isS w C I0 I1 len bt fa fb ki bd no fu) (hk : okK (C 1)) (hk2 : okK (C 2)) (k : ∀ w', isS w' C I0 I1 len bt fa fb ki bd no fu → zOff 56 60 w w' → Q (some (.int (lP C))) w') : Zm (d + 5) mX8_leastPurchase 0 0 [.ref 0] w Q := by
  have hl7 : (C 1).1 ≤ 7 := h.2.1.2.2.1.2.2.1
  obtain ⟨r, c, op, wo, be, hp⟩ := h.2.2.2.2.2.2.1
  refine zm_intro [_, _, _, _] oX8_leastPurchase (Nat.le_of_ble_eq_true rfl) rfl ?_
  refine zw_iconst dX8_leastPurchase_0 0 (by decide) ?_
  refine zw_istore_n [_, _, _, _] dX8_leastPurchase_1 (Nat.le_of_ble_eq_true rfl) rfl ?_
  refine zw_aload_n dX8_leastPurchase_2 rfl ?_
  refine zw_get dX8_leastPurchase_3 fX8_35 h.1 rfl ?_
  refine zw_aload_n dX8_leastPurchase_6 rfl ?_
  refine zw_get dX8_leastPurchase_7 fX8_12 h.1 rfl ?_
  refine zw_get dX8_leastPurchase_10 fX8_178 h.2.1.1 rfl ?_
  refine zw_cV0 dX8_leastPurchase_13 oX6_size kX6_size lX8_181 h.2.1.2.2.1.1 rfl (Nat.le_of_ble_eq_true rfl) rfl (t_size h.2.1.2.2.1 ?_)
  show Zw _ _ _ 16 [_, _, _, _] [_, _] _ _
  refine zw_cV1 dX8_leastPurchase_16 oX4_begin kX4_begin lX8_184 hp.1 rfl (Nat.le_of_ble_eq_true rfl) rfl (b_begin hp hl7 (fun w1 p1 o1 => ?_))
  show Zw _ _ _ 19 [_, _, _, _] [] _ _
  refine zw_iconst dX8_leastPurchase_19 0 (by decide) ?_
  refine zw_istore_n [_, _, _, _] dX8_leastPurchase_20 (Nat.le_of_ble_eq_true rfl) rfl ?_
  refine x_leastL (w0 := w) hk hk2 h (fun w2 op2 wo2 be2 o3 o4 p2 q2 e1 e2 => ?_) (C 0).1 0 w1 op wo be 0 _ (by omega) rfl p1 o1 (fun j hj => absurd hj (Nat.not_lt_zero _)) (fun j hj => absurd hj (Nat.not_lt_zero _))
  have g := h.pr q2 p2
  refine zw_aload_n dX8_leastPurchase_70 rfl ?_
  refine zw_get dX8_leastPurchase_71 fX8_35 g.1 rfl ?_
  refine zw_cV0 dX8_leastPurchase_74 oX4_solve kX4_solve lX8_195 p2.1 rfl (Nat.le_of_ble_eq_true rfl) rfl (b_solve p2 (fun w3 be3 p3 o3 k3 => ?_))
  show Zw _ _ _ 77 [_, _, _, _] [] _ _
  have g3 := h.pr (q2.tr o3) p3
  refine zw_iload_n dX8_leastPurchase_77 rfl ?_
  refine zw_aload_n dX8_leastPurchase_78 rfl ?_
  refine zw_get dX8_leastPurchase_79 fX8_35 g3.1 rfl ?_
  refine zw_iconst dX8_leastPurchase_82 0 (by decide) ?_
  refine zw_cV1 dX8_leastPurchase_83 oX4_bestWithout kX4_bestWithout lX8_155 p3.1 rfl (Nat.le_of_ble_eq_true rfl) rfl (b_without (t := 0) p3 k3 (Nat.two_pow_pos _) ?_)
  show Zw _ _ _ 86 [_, _, _, _] [_, _] _ _
  refine zw_isub dX8_leastPurchase_86 ?_
  refine zw_ireturn .int dX8_leastPurchase_87 rfl rfl (Nat.le_refl _) (Nat.le_refl _) ?_
  rw [bstR_congr e1 e2 _ _ (Nat.le_refl _)]
  exact k w3 g3 (q2.tr o3)
theorem l_buyM {x : Int32} (h : isS w C I0 I1 len bt fa fb ki bd no fu) (hk : okK (C 1)) (hk2 : okK (C 2)) (k1 : ¬ lP C < 67108864 → ∀ w', isS w' C I0 I1 len bt fa fb ki bd no fu → zOff 0 74 w w' → Q (some (.int (-1))) w') (kN : lP C < 67108864 → x = -1 → ∀ w', isS w' C I0 I1 len bt fa fb ki bd no fu → zOff 0 74 w w' → Q (some (.int (lP C >>> (12 &&& 31)))) w') (kA : lP C < 67108864 → ¬ x = -1 → ∃ r, r < (C 2).1 ∧ x = nI r ∧ ∀ w', isS w' C I0 I1 len bt fa fb ki bd no fu → zOff 0 74 w w' → Q (some (.int ((lP C >>> (nI (3 * (3 - r)) &&& 31)) &&& 7))) w') : Zw (d + 6) mX8_buy z0 24 [some (.ref 0), some (.int x), none] [] w Q := by
  have hs4 : (C 2).1 ≤ 4 := h.2.1.2.2.2.1.2.2.1
  refine zw_aload_n dX8_buy_24 rfl ?_
  refine zw_cV0 dX8_buy_25 oX8_leastPurchase kX8_leastPurchase lX8_212 h.1 rfl (Nat.le_of_ble_eq_true rfl) rfl (x_least h hk hk2 (fun w1 h1 o1 => ?_))
  show Zw _ _ _ 28 [_, _, _] [_] _ _
  refine zw_istore_n [_, _, _] dX8_buy_28 (Nat.le_of_ble_eq_true rfl) rfl ?_
  refine zw_iload_n dX8_buy_29 rfl ?_
  refine zw_ldc dX8_buy_30 qX8_215 ?_
  by_cases hv : lP C < 67108864
  · refine zw_icmp_lt 37 dX8_buy_32 (by decide) (fun _ => ?_) (fun hz => absurd (hv) hz)
    refine zw_iload_n dX8_buy_37 rfl ?_
    refine zw_iconst dX8_buy_38 (-1) (by decide) ?_
    by_cases hx : x = -1
    · refine zw_icmp_ne 49 dX8_buy_39 (by decide) (fun hz => absurd (hx) hz) (fun _ => ?_)
      refine zw_iload_n dX8_buy_42 rfl ?_
      refine zw_bipush dX8_buy_43 12 (by decide) ?_
      refine zw_ishr dX8_buy_45 ?_
      refine zw_goto 58 dX8_buy_46 (by decide) ?_
      refine zw_ireturn .int dX8_buy_58 rfl rfl (Nat.le_refl _) (Nat.le_refl _) ?_
      exact kN hv hx w1 h1 (o1.wd (by decide) (by decide))
    · obtain ⟨r, hr, e, kk⟩ := kA hv hx
      refine zw_icmp_ne 49 dX8_buy_39 (by decide) (fun _ => ?_) (fun hz => absurd hz (hx))
      subst e
      refine zw_iload_n dX8_buy_49 rfl ?_
      refine zw_iload_n dX8_buy_50 rfl ?_
      refine zw_cS1 dX8_buy_51 oX8_sortShift kX8_sortShift lX8_216 (Nat.le_of_ble_eq_true rfl) rfl (x_sortShift (i := r) (by omega) ?_)
      show Zw _ _ _ 54 [_, _, _] [_, _] _ _
      refine zw_ishr dX8_buy_54 ?_
      refine zw_bipush dX8_buy_55 7 (by decide) ?_
      refine zw_iand dX8_buy_57 ?_
      refine zw_ireturn .int dX8_buy_58 rfl rfl (Nat.le_refl _) (Nat.le_refl _) ?_
      exact kk w1 h1 (o1.wd (by decide) (by decide))
  · refine zw_icmp_lt 37 dX8_buy_32 (by decide) (fun hz => absurd hz (hv)) (fun _ => ?_)
    refine zw_iconst dX8_buy_35 (-1) (by decide) ?_
    refine zw_ireturn .int dX8_buy_36 rfl rfl (Nat.le_refl _) (Nat.le_refl _) ?_
    exact k1 hv w1 h1 (o1.wd (by decide) (by decide))
theorem l_buy {x : Int32} (h : isS w C I0 I1 len bt fa fb ki bd no fu) (hk : okK (C 1)) (hk2 : okK (C 2)) (kB : ¬ x = -1 → (∀ r, r < (C 2).1 → ¬ x = nI r) → ∀ w', isS w' C I0 I1 len bt fa fb ki (bd + 1) no fu → zOff 0 74 w w' → Q (some (.int (-10))) w') (k1 : (x = -1 ∨ ∃ r, r < (C 2).1 ∧ x = nI r) → ¬ lP C < 67108864 → ∀ w', isS w' C I0 I1 len bt fa fb ki bd no fu → zOff 0 74 w w' → Q (some (.int (-1))) w') (kN : lP C < 67108864 → x = -1 → ∀ w', isS w' C I0 I1 len bt fa fb ki bd no fu → zOff 0 74 w w' → Q (some (.int (lP C >>> (12 &&& 31)))) w') (kA : ∀ r, lP C < 67108864 → r < (C 2).1 → x = nI r → ∀ w', isS w' C I0 I1 len bt fa fb ki bd no fu → zOff 0 74 w w' → Q (some (.int ((lP C >>> (nI (3 * (3 - r)) &&& 31)) &&& 7))) w') : Zm (d + 6) mX8_buy 0 0 [.ref 0, .int x] w Q := by
  refine zm_intro [_, _, _] oX8_buy (Nat.le_of_ble_eq_true rfl) rfl ?_
  refine zw_iload_n dX8_buy_0 rfl ?_
  refine zw_iconst dX8_buy_1 (-1) (by decide) ?_
  by_cases hx : x = -1
  · refine zw_icmp_eq 24 dX8_buy_2 (by decide) (fun _ => ?_) (fun hz => absurd (hx) hz)
    exact l_buyM h hk hk2 (k1 (Or.inl hx)) kN (fun _ z => absurd hx z)
  · refine zw_icmp_eq 24 dX8_buy_2 (by decide) (fun hz => absurd hz (hx)) (fun _ => ?_)
    refine zw_aload_n dX8_buy_5 rfl ?_
    refine zw_get dX8_buy_6 fX8_12 h.1 rfl ?_
    refine zw_get dX8_buy_9 fX8_209 h.2.1.1 rfl ?_
    refine zw_iload_n dX8_buy_12 rfl ?_
    refine zw_cV1 dX8_buy_13 oX6_contains kX6_contains lX8_93 h.2.1.2.2.2.1.1 rfl (Nat.le_of_ble_eq_true rfl) rfl (t_contains h.2.1.2.2.2.1 (fun r hr e => ?_) (fun hy => ?_))
    · show Zw _ _ _ 16 [_, _, _] [_] _ _
      refine zw_if_ne 24 dX8_buy_16 (by decide) (fun _ => ?_) (fun hz => absurd hz (by decide))
      exact l_buyM h hk hk2 (k1 (Or.inr ⟨r, hr, e⟩)) kN (fun hv _ => ⟨r, hr, e, kA r hv hr e⟩)
    · show Zw _ _ _ 16 [_, _, _] [_] _ _
      refine zw_if_ne 24 dX8_buy_16 (by decide) (fun hz => absurd (by decide) hz) (fun _ => ?_)
      refine zw_aload_n dX8_buy_19 rfl ?_
      refine zw_cV0 dX8_buy_20 oX8_badToldApart kX8_badToldApart lX8_102 h.1 rfl (Nat.le_of_ble_eq_true rfl) rfl (x_bad10 h (fun w1 h1 o1 => ?_))
      show Zw _ _ _ 23 [_, _, _] [_] _ _
      refine zw_ireturn .int dX8_buy_23 rfl rfl (Nat.le_refl _) (Nat.le_refl _) ?_
      exact kB hx hy w1 h1 o1
end ZL6
