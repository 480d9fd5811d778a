/-! ===== Text: tokens and items ===== -/
section ZTEXT2
variable {d len st en : Nat} {w : ZW} {bt nm : Nat → Int32} {tk va iw : Int32} {Q : Option Value → ZW → Prop}
theorem x_overWordL {w0 : ZW} (hK : ∀ w en', isTx w len bt nm st en' tk va iw → zOff 53 56 w0 w → en' = endF letB bt en (len - en) → Zw (d + 6) mX7_advanceOverWord z0 38 [some (.ref 53)] [] w Q) : ∀ (k e : Nat) (w : ZW), e + k = len → endF letB bt e k = endF letB bt en (len - en) → isTx w len bt nm st e tk va iw → zOff 53 56 w0 w → Zw (d + 6) mX7_advanceOverWord z0 0 [some (.ref 53)] [] w Q := by
  intro k
  induction k with
  | zero =>
    intro e w he hz h ho
    have hl := h.2.2.2
    refine zw_aload_n dX7_advanceOverWord_0 rfl ?_
    refine zw_get dX7_advanceOverWord_1 fX7_30 h.1 rfl ?_
    refine zw_aload_n dX7_advanceOverWord_4 rfl ?_
    refine zw_get dX7_advanceOverWord_5 fX7_19 h.1 rfl ?_
    refine zw_icmp_ge 38 dX7_advanceOverWord_8 (by decide) (fun _ => ?_) (fun hz => absurd (nI_le (by omega) (by omega)) hz)
    exact hK w e h ho hz
  | succ k ih =>
    intro e w he hz h ho
    have hl := h.2.2.2
    have hz : (if letB (bt e) = true then endF letB bt (e + 1) k else e) = endF letB bt en (len - en) := hz
    refine zw_aload_n dX7_advanceOverWord_0 rfl ?_
    refine zw_get dX7_advanceOverWord_1 fX7_30 h.1 rfl ?_
    refine zw_aload_n dX7_advanceOverWord_4 rfl ?_
    refine zw_get dX7_advanceOverWord_5 fX7_19 h.1 rfl ?_
    refine zw_icmp_ge 38 dX7_advanceOverWord_8 (by decide) (fun hz => absurd hz (nI_ge (by omega) (by omega))) (fun _ => ?_)
    refine zw_aload_n dX7_advanceOverWord_11 rfl ?_
    refine zw_aload_n dX7_advanceOverWord_12 rfl ?_
    refine zw_get dX7_advanceOverWord_13 fX7_30 h.1 rfl ?_
    refine zw_cV1 dX7_advanceOverWord_16 oX7_byteAt kX7_byteAt lX7_49 h.1 rfl (Nat.le_of_ble_eq_true rfl) rfl (x_byteAt (by omega) h ?_)
    show Zw _ _ _ 19 [_] [_] _ _
    rw [show byA bt len e = bt e from if_pos (by omega)]
    refine zw_cS1 dX7_advanceOverWord_19 oX7_isLetter kX7_isLetter lX7_52 (Nat.le_of_ble_eq_true rfl) rfl (x_isLetter ?_)
    show Zw _ _ _ 22 [_] [_] _ _
    refine zw_if_eq 38 dX7_advanceOverWord_22 (by decide) (fun hb => ?_) (fun hb => ?_)
    · rw [bI_f hb] at hz
      exact hK w e h ho hz
    · refine zw_aload_n dX7_advanceOverWord_25 rfl ?_
      refine zw_dup dX7_advanceOverWord_26 rfl ?_
      refine zw_get dX7_advanceOverWord_27 fX7_30 h.1 rfl ?_
      refine zw_iconst dX7_advanceOverWord_30 1 (by decide) ?_
      refine zw_iadd dX7_advanceOverWord_31 ?_
      refine zw_top (nI_1 e) ?_
      refine zw_put dX7_advanceOverWord_32 pX7_30 h.1 (fun _ => rfl) (fun _ => rfl) (Nat.le_of_ble_eq_true rfl) ?_
      refine zw_goto 0 dX7_advanceOverWord_35 (by decide) ?_
      rw [if_pos (bI_t hb)] at hz
      exact ih (e + 1) _ (by omega) hz h.set (ho.tr (zOff.pt (by decide) (by decide)))
theorem x_overWord (h : isTx w len bt nm st en tk va iw) (hse : st ≤ en) (hen : en ≤ len) (k : ∀ w' q, q = endF letB bt en (len - en) → isTx w' len bt nm st q (if wnF bt len st q = -1 then 4 else 0) (wnF bt len st q) iw → zOff 53 56 w w' → Q none w') : Zm (d + 6) mX7_advanceOverWord 0 0 [.ref 53] w Q := by
  refine zm_intro [_] oX7_advanceOverWord (Nat.le_of_ble_eq_true rfl) rfl ?_
  refine x_overWordL (w0 := w) (en := en) (fun w1 q h1 o1 eq => ?_) (len - en) en w (by omega) rfl h zOff.rf
  have hq := endF_le letB bt (len - en) en
  refine zw_aload_n dX7_advanceOverWord_38 rfl ?_
  refine zw_aload_n dX7_advanceOverWord_39 rfl ?_
  refine zw_cV0 dX7_advanceOverWord_40 oX7_wordNumber kX7_wordNumber lX7_65 h1.1 rfl (Nat.le_of_ble_eq_true rfl) rfl (x_wordNumber h1 (by omega) (by omega) ?_)
  show Zw _ _ _ 43 [_] [_, _] _ _
  refine zw_put dX7_advanceOverWord_43 pX7_36 h1.1 (fun _ => rfl) (fun _ => rfl) (Nat.le_of_ble_eq_true rfl) ?_
  have h2 := h1.set (st' := st) (en' := q) (tk' := tk) (va' := wnF bt len st q) (iw' := iw)
  refine zw_aload_n dX7_advanceOverWord_46 rfl ?_
  refine zw_aload_n dX7_advanceOverWord_47 rfl ?_
  refine zw_get dX7_advanceOverWord_48 fX7_36 h2.1 rfl ?_
  refine zw_iconst dX7_advanceOverWord_51 (-1) (by decide) ?_
  refine zw_icmp_ne 59 dX7_advanceOverWord_52 (by decide) (fun hb => ?_) (fun hb => ?_)
  · refine zw_iconst dX7_advanceOverWord_59 0 (by decide) ?_
    refine zw_put dX7_advanceOverWord_60 pX7_33 h2.1 (fun _ => rfl) (fun _ => rfl) (Nat.le_of_ble_eq_true rfl) ?_
    refine zw_return dX7_advanceOverWord_63 rfl (Nat.le_refl _) (Nat.le_refl _) ?_
    refine k _ q eq ?_ (o1.tr ((zOff.pt (by decide) (by decide)).tr (zOff.pt (by decide) (by decide))))
    rw [if_neg hb]
    exact h2.set
  · refine zw_iconst dX7_advanceOverWord_55 4 (by decide) ?_
    refine zw_goto 60 dX7_advanceOverWord_56 (by decide) ?_
    refine zw_put dX7_advanceOverWord_60 pX7_33 h2.1 (fun _ => rfl) (fun _ => rfl) (Nat.le_of_ble_eq_true rfl) ?_
    refine zw_return dX7_advanceOverWord_63 rfl (Nat.le_refl _) (Nat.le_refl _) ?_
    refine k _ q eq ?_ (o1.tr ((zOff.pt (by decide) (by decide)).tr (zOff.pt (by decide) (by decide))))
    rw [if_pos hb]
    exact h2.set
theorem x_overNumL {w0 : ZW} (hK : ∀ w en', isTx w len bt nm st en' tk va iw → zOff 53 56 w0 w → en' = endF figB bt en (len - en) → Zw (d + 6) mX7_advanceOverNumber z0 38 [some (.ref 53), none] [] w Q) : ∀ (k e : Nat) (w : ZW), e + k = len → endF figB bt e k = endF figB bt en (len - en) → isTx w len bt nm st e tk va iw → zOff 53 56 w0 w → Zw (d + 6) mX7_advanceOverNumber z0 0 [some (.ref 53), none] [] w Q := by
  intro k
  induction k with
  | zero =>
    intro e w he hz h ho
    have hl := h.2.2.2
    refine zw_aload_n dX7_advanceOverNumber_0 rfl ?_
    refine zw_get dX7_advanceOverNumber_1 fX7_30 h.1 rfl ?_
    refine zw_aload_n dX7_advanceOverNumber_4 rfl ?_
    refine zw_get dX7_advanceOverNumber_5 fX7_19 h.1 rfl ?_
    refine zw_icmp_ge 38 dX7_advanceOverNumber_8 (by decide) (fun _ => ?_) (fun hz => absurd (nI_le (by omega) (by omega)) hz)
    exact hK w e h ho hz
  | succ k ih =>
    intro e w he hz h ho
    have hl := h.2.2.2
    have hz : (if figB (bt e) = true then endF figB bt (e + 1) k else e) = endF figB bt en (len - en) := hz
    refine zw_aload_n dX7_advanceOverNumber_0 rfl ?_
    refine zw_get dX7_advanceOverNumber_1 fX7_30 h.1 rfl ?_
    refine zw_aload_n dX7_advanceOverNumber_4 rfl ?_
    refine zw_get dX7_advanceOverNumber_5 fX7_19 h.1 rfl ?_
    refine zw_icmp_ge 38 dX7_advanceOverNumber_8 (by decide) (fun hz => absurd hz (nI_ge (by omega) (by omega))) (fun _ => ?_)
    refine zw_aload_n dX7_advanceOverNumber_11 rfl ?_
    refine zw_aload_n dX7_advanceOverNumber_12 rfl ?_
    refine zw_get dX7_advanceOverNumber_13 fX7_30 h.1 rfl ?_
    refine zw_cV1 dX7_advanceOverNumber_16 oX7_byteAt kX7_byteAt lX7_49 h.1 rfl (Nat.le_of_ble_eq_true rfl) rfl (x_byteAt (by omega) h ?_)
    show Zw _ _ _ 19 [_, _] [_] _ _
    rw [show byA bt len e = bt e from if_pos (by omega)]
    refine zw_cS1 dX7_advanceOverNumber_19 oX7_isFigure kX7_isFigure lX7_59 (Nat.le_of_ble_eq_true rfl) rfl (x_isFigure ?_)
    show Zw _ _ _ 22 [_, _] [_] _ _
    refine zw_if_eq 38 dX7_advanceOverNumber_22 (by decide) (fun hb => ?_) (fun hb => ?_)
    · rw [bI_f hb] at hz
      exact hK w e h ho hz
    · refine zw_aload_n dX7_advanceOverNumber_25 rfl ?_
      refine zw_dup dX7_advanceOverNumber_26 rfl ?_
      refine zw_get dX7_advanceOverNumber_27 fX7_30 h.1 rfl ?_
      refine zw_iconst dX7_advanceOverNumber_30 1 (by decide) ?_
      refine zw_iadd dX7_advanceOverNumber_31 ?_
      refine zw_top (nI_1 e) ?_
      refine zw_put dX7_advanceOverNumber_32 pX7_30 h.1 (fun _ => rfl) (fun _ => rfl) (Nat.le_of_ble_eq_true rfl) ?_
      refine zw_goto 0 dX7_advanceOverNumber_35 (by decide) ?_
      rw [if_pos (bI_t hb)] at hz
      exact ih (e + 1) _ (by omega) hz h.set (ho.tr (zOff.pt (by decide) (by decide)))
theorem x_overNum2 {w0 : ZW} {q : Nat} (hsq : st < q) (hq : q ≤ len) (hK : ∀ w v o, isTx w len bt nm st q tk v iw → zOff 53 56 w0 w → v = nvF bt st (min (q - st) 2) 0 → Zw (d + 6) mX7_advanceOverNumber z0 92 [some (.ref 53), o] [] w Q) : ∀ (k i : Nat) (v : Int32) (w : ZW), i + k = st + min (q - st) 2 → nvF bt i k v = nvF bt st (min (q - st) 2) 0 → isTx w len bt nm st q tk v iw → zOff 53 56 w0 w → Zw (d + 6) mX7_advanceOverNumber z0 48 [some (.ref 53), some (.int (nI i))] [] w Q := by
  intro k
  induction k with
  | zero =>
    intro i v w hi hz h ho
    have hl := h.2.2.2
    have h2 : (i = q) ∨ (i = st + 2 ∧ i < q) := by omega
    refine zw_iload_n dX7_advanceOverNumber_48 rfl ?_
    refine zw_aload_n dX7_advanceOverNumber_49 rfl ?_
    refine zw_get dX7_advanceOverNumber_50 fX7_30 h.1 rfl ?_
    rcases h2 with e | ⟨e, e'⟩
    · refine zw_icmp_ge 92 dX7_advanceOverNumber_53 (by decide) (fun _ => ?_) (fun hz => absurd (nI_le (by omega) (by omega)) hz)
      exact hK w v _ h ho hz
    · refine zw_icmp_ge 92 dX7_advanceOverNumber_53 (by decide) (fun hz => absurd hz (nI_ge e' (by omega))) (fun _ => ?_)
      refine zw_iload_n dX7_advanceOverNumber_56 rfl ?_
      refine zw_aload_n dX7_advanceOverNumber_57 rfl ?_
      refine zw_get dX7_advanceOverNumber_58 fX7_27 h.1 rfl ?_
      refine zw_iconst dX7_advanceOverNumber_61 2 (by decide) ?_
      refine zw_iadd dX7_advanceOverNumber_62 ?_
      refine zw_top (nI_add st 2) ?_
      refine zw_icmp_ge 92 dX7_advanceOverNumber_63 (by decide) (fun _ => ?_) (fun hz => absurd (nI_le (by omega) (by omega)) hz)
      exact hK w v _ h ho hz
  | succ k ih =>
    intro i v w hi hz h ho
    have hl := h.2.2.2
    have hz : nvF bt (i + 1) k (v * 10 + bt i - 48) = nvF bt st (min (q - st) 2) 0 := hz
    refine zw_iload_n dX7_advanceOverNumber_48 rfl ?_
    refine zw_aload_n dX7_advanceOverNumber_49 rfl ?_
    refine zw_get dX7_advanceOverNumber_50 fX7_30 h.1 rfl ?_
    refine zw_icmp_ge 92 dX7_advanceOverNumber_53 (by decide) (fun hz => absurd hz (nI_ge (by omega) (by omega))) (fun _ => ?_)
    refine zw_iload_n dX7_advanceOverNumber_56 rfl ?_
    refine zw_aload_n dX7_advanceOverNumber_57 rfl ?_
    refine zw_get dX7_advanceOverNumber_58 fX7_27 h.1 rfl ?_
    refine zw_iconst dX7_advanceOverNumber_61 2 (by decide) ?_
    refine zw_iadd dX7_advanceOverNumber_62 ?_
    refine zw_top (nI_add st 2) ?_
    refine zw_icmp_ge 92 dX7_advanceOverNumber_63 (by decide) (fun hz => absurd hz (nI_ge (by omega) (by omega))) (fun _ => ?_)
    refine zw_aload_n dX7_advanceOverNumber_66 rfl ?_
    refine zw_aload_n dX7_advanceOverNumber_67 rfl ?_
    refine zw_get dX7_advanceOverNumber_68 fX7_36 h.1 rfl ?_
    refine zw_bipush dX7_advanceOverNumber_71 10 (by decide) ?_
    refine zw_imul dX7_advanceOverNumber_73 ?_
    refine zw_aload_n dX7_advanceOverNumber_74 rfl ?_
    refine zw_iload_n dX7_advanceOverNumber_75 rfl ?_
    refine zw_cV1 dX7_advanceOverNumber_76 oX7_byteAt kX7_byteAt lX7_49 h.1 rfl (Nat.le_of_ble_eq_true rfl) rfl (x_byteAt (by omega) h ?_)
    show Zw _ _ _ 79 [_, _] [_, _, _] _ _
    rw [show byA bt len i = bt i from if_pos (by omega)]
    refine zw_iadd dX7_advanceOverNumber_79 ?_
    refine zw_bipush dX7_advanceOverNumber_80 48 (by decide) ?_
    refine zw_isub dX7_advanceOverNumber_82 ?_
    refine zw_put dX7_advanceOverNumber_83 pX7_36 h.1 (fun _ => rfl) (fun _ => rfl) (Nat.le_of_ble_eq_true rfl) ?_
    refine zw_iinc (nI (i + 1)) [_, _] dX7_advanceOverNumber_86 rfl (nI_1 i) rfl ?_
    refine zw_goto 48 dX7_advanceOverNumber_89 (by decide) ?_
    exact ih (i + 1) _ _ (by omega) hz h.set (ho.tr (zOff.pt (by decide) (by decide)))
theorem x_overNum (h : isTx w len bt nm st en tk va iw) (hse : st < en) (hen : en ≤ len) (k : ∀ w' q, q = endF figB bt en (len - en) → isTx w' len bt nm st q (if 2 < q - st then 4 else 1) (nvF bt st (min (q - st) 2) 0) iw → zOff 53 56 w w' → Q none w') : Zm (d + 6) mX7_advanceOverNumber 0 0 [.ref 53] w Q := by
  refine zm_intro [_, _] oX7_advanceOverNumber (Nat.le_of_ble_eq_true rfl) rfl ?_
  refine x_overNumL (w0 := w) (en := en) (fun w1 q h1 o1 eq => ?_) (len - en) en w (by omega) rfl h zOff.rf
  have hq := endF_le figB bt (len - en) en
  have hl := h1.2.2.2
  refine zw_aload_n dX7_advanceOverNumber_38 rfl ?_
  refine zw_iconst dX7_advanceOverNumber_39 0 (by decide) ?_
  refine zw_put dX7_advanceOverNumber_40 pX7_36 h1.1 (fun _ => rfl) (fun _ => rfl) (Nat.le_of_ble_eq_true rfl) ?_
  have h2 := h1.set (st' := st) (en' := q) (tk' := tk) (va' := 0) (iw' := iw)
  refine zw_aload_n dX7_advanceOverNumber_43 rfl ?_
  refine zw_get dX7_advanceOverNumber_44 fX7_27 h2.1 rfl ?_
  refine zw_istore_n [_, _] dX7_advanceOverNumber_47 (Nat.le_of_ble_eq_true rfl) rfl ?_
  refine x_overNum2 (w0 := w) (q := q) (by omega) (by omega) (fun w3 v o h3 o3 ev => ?_) (min (q - st) 2) st 0 _ rfl rfl h2 (o1.tr (zOff.pt (by decide) (by decide)))
  subst ev
  refine zw_aload_n dX7_advanceOverNumber_92 rfl ?_
  refine zw_aload_n dX7_advanceOverNumber_93 rfl ?_
  refine zw_get dX7_advanceOverNumber_94 fX7_30 h3.1 rfl ?_
  refine zw_aload_n dX7_advanceOverNumber_97 rfl ?_
  refine zw_get dX7_advanceOverNumber_98 fX7_27 h3.1 rfl ?_
  refine zw_isub dX7_advanceOverNumber_101 ?_
  refine zw_top (pk_sub (show st ≤ q by omega)) ?_
  refine zw_iconst dX7_advanceOverNumber_102 2 (by decide) ?_
  rcases Nat.lt_or_ge 2 (q - st) with hb | hb
  · refine zw_icmp_le 110 dX7_advanceOverNumber_103 (by decide) (fun hz => absurd hz (nI_ge (a := 2) (b := q - st) hb (by omega))) (fun _ => ?_)
    refine zw_iconst dX7_advanceOverNumber_106 4 (by decide) ?_
    refine zw_goto 111 dX7_advanceOverNumber_107 (by decide) ?_
    refine zw_put dX7_advanceOverNumber_111 pX7_33 h3.1 (fun _ => rfl) (fun _ => rfl) (Nat.le_of_ble_eq_true rfl) ?_
    refine zw_return dX7_advanceOverNumber_114 rfl (Nat.le_refl _) (Nat.le_refl _) ?_
    refine k _ q eq ?_ (o3.tr (zOff.pt (by decide) (by decide)))
    rw [if_pos hb]
    exact h3.set
  · refine zw_icmp_le 110 dX7_advanceOverNumber_103 (by decide) (fun _ => ?_) (fun hz => absurd (nI_le (b := 2) hb (by decide)) hz)
    refine zw_iconst dX7_advanceOverNumber_110 1 (by decide) ?_
    refine zw_put dX7_advanceOverNumber_111 pX7_33 h3.1 (fun _ => rfl) (fun _ => rfl) (Nat.le_of_ble_eq_true rfl) ?_
    refine zw_return dX7_advanceOverNumber_114 rfl (Nat.le_refl _) (Nat.le_refl _) ?_
    refine k _ q eq ?_ (o3.tr (zOff.pt (by decide) (by decide)))
    rw [if_neg (by omega)]
    exact h3.set
theorem x_advL {w0 : ZW} {e0 : Nat} (hK : ∀ w s, isTx w len bt nm s e0 tk va iw → zOff 53 56 w0 w → s = endF (fun c => decide (c = 32)) bt e0 (len - e0) → Zw (d + 7) mX7_advance z0 45 [some (.ref 53), none] [] w Q) : ∀ (k s : Nat) (w : ZW), s + k = len → endF (fun c => decide (c = 32)) bt s k = endF (fun c => decide (c = 32)) bt e0 (len - e0) → isTx w len bt nm s e0 tk va iw → zOff 53 56 w0 w → Zw (d + 7) mX7_advance z0 8 [some (.ref 53), none] [] w Q := by
  intro k
  induction k with
  | zero =>
    intro s w hs hz h ho
    have hl := h.2.2.2
    refine zw_aload_n dX7_advance_8 rfl ?_
    refine zw_get dX7_advance_9 fX7_27 h.1 rfl ?_
    refine zw_aload_n dX7_advance_12 rfl ?_
    refine zw_get dX7_advance_13 fX7_19 h.1 rfl ?_
    refine zw_icmp_ge 45 dX7_advance_16 (by decide) (fun _ => ?_) (fun hz => absurd (nI_le (by omega) (by omega)) hz)
    exact hK w s h ho hz
  | succ k ih =>
    intro s w hs hz h ho
    have hl := h.2.2.2
    have hz : (if decide (bt s = 32) = true then endF (fun c => decide (c = 32)) bt (s + 1) k else s) = endF (fun c => decide (c = 32)) bt e0 (len - e0) := hz
    refine zw_aload_n dX7_advance_8 rfl ?_
    refine zw_get dX7_advance_9 fX7_27 h.1 rfl ?_
    refine zw_aload_n dX7_advance_12 rfl ?_
    refine zw_get dX7_advance_13 fX7_19 h.1 rfl ?_
    refine zw_icmp_ge 45 dX7_advance_16 (by decide) (fun hz => absurd hz (nI_ge (by omega) (by omega))) (fun _ => ?_)
    refine zw_aload_n dX7_advance_19 rfl ?_
    refine zw_aload_n dX7_advance_20 rfl ?_
    refine zw_get dX7_advance_21 fX7_27 h.1 rfl ?_
    refine zw_cV1 dX7_advance_24 oX7_byteAt kX7_byteAt lX7_49 h.1 rfl (Nat.le_of_ble_eq_true rfl) rfl (x_byteAt (by omega) h ?_)
    show Zw _ _ _ 27 [_, _] [_] _ _
    rw [show byA bt len s = bt s from if_pos (by omega)]
    refine zw_bipush dX7_advance_27 32 (by decide) ?_
    refine zw_icmp_ne 45 dX7_advance_29 (by decide) (fun hb => ?_) (fun hb => ?_)
    · rw [if_neg (by simpa using hb)] at hz
      exact hK w s h ho hz
    · refine zw_aload_n dX7_advance_32 rfl ?_
      refine zw_dup dX7_advance_33 rfl ?_
      refine zw_get dX7_advance_34 fX7_27 h.1 rfl ?_
      refine zw_iconst dX7_advance_37 1 (by decide) ?_
      refine zw_iadd dX7_advance_38 ?_
      refine zw_top (nI_1 s) ?_
      refine zw_put dX7_advance_39 pX7_27 h.1 (fun _ => rfl) (fun _ => rfl) (Nat.le_of_ble_eq_true rfl) ?_
      refine zw_goto 8 dX7_advance_42 (by decide) ?_
      rw [if_pos (by simpa using hb)] at hz
      exact ih (s + 1) _ (by omega) hz h.set (ho.tr (zOff.pt (by decide) (by decide)))
theorem x_advance (h : isTx w len bt nm st en tk va iw) (hen : en ≤ len) (k : ∀ w', isTx w' len bt nm (tokS bt len en va).1 (tokS bt len en va).2.1 (tokS bt len en va).2.2.1 (tokS bt len en va).2.2.2 iw → zOff 53 56 w w' → Q none w') : Zm (d + 7) mX7_advance 0 0 [.ref 53] w Q := by
  refine zm_intro [_, _] oX7_advance (Nat.le_of_ble_eq_true rfl) rfl ?_
  refine zw_aload_n dX7_advance_0 rfl ?_
  refine zw_aload_n dX7_advance_1 rfl ?_
  refine zw_get dX7_advance_2 fX7_30 h.1 rfl ?_
  refine zw_put dX7_advance_5 pX7_27 h.1 (fun _ => rfl) (fun _ => rfl) (Nat.le_of_ble_eq_true rfl) ?_
  have h1 := h.set (st' := en) (en' := en) (tk' := tk) (va' := va) (iw' := iw)
  refine x_advL (w0 := w) (e0 := en) (fun w2 s h2 o2 es => ?_) (len - en) en _ (by omega) rfl h1 (zOff.pt (by decide) (by decide))
  have hs := endF_le (fun c => decide (c = 32)) bt (len - en) en
  have hl := h2.2.2.2
  unfold tokS at k
  rw [← es] at k
  rw [← es] at hs
  refine zw_aload_n dX7_advance_45 rfl ?_
  refine zw_aload_n dX7_advance_46 rfl ?_
  refine zw_get dX7_advance_47 fX7_27 h2.1 rfl ?_
  refine zw_iconst dX7_advance_50 1 (by decide) ?_
  refine zw_iadd dX7_advance_51 ?_
  refine zw_top (nI_1 s) ?_
  refine zw_put dX7_advance_52 pX7_30 h2.1 (fun _ => rfl) (fun _ => rfl) (Nat.le_of_ble_eq_true rfl) ?_
  have h3 := h2.set (st' := s) (en' := s + 1) (tk' := tk) (va' := va) (iw' := iw)
  refine zw_aload_n dX7_advance_55 rfl ?_
  refine zw_aload_n dX7_advance_56 rfl ?_
  refine zw_get dX7_advance_57 fX7_27 h3.1 rfl ?_
  refine zw_cV1 dX7_advance_60 oX7_byteAt kX7_byteAt lX7_49 h3.1 rfl (Nat.le_of_ble_eq_true rfl) rfl (x_byteAt (by omega) h3 ?_)
  show Zw _ _ _ 63 [_, _] [_] _ _
  refine zw_istore_n [_, _] dX7_advance_63 (Nat.le_of_ble_eq_true rfl) rfl ?_
  refine zw_aload_n dX7_advance_64 rfl ?_
  refine zw_get dX7_advance_65 fX7_27 h3.1 rfl ?_
  refine zw_aload_n dX7_advance_68 rfl ?_
  refine zw_get dX7_advance_69 fX7_19 h3.1 rfl ?_
  rcases Nat.lt_or_ge s len with hq | hq
  · rw [if_neg (by omega)] at k
    dsimp only at k
    rw [show byA bt len s = bt s from if_pos hq]
    refine zw_icmp_lt 91 dX7_advance_72 (by decide) (fun _ => ?_) (fun hz => absurd (nI_lt hq (by omega)) hz)
    refine zw_iload_n dX7_advance_91 rfl ?_
    refine zw_cS1 dX7_advance_92 oX7_isLetter kX7_isLetter lX7_52 (Nat.le_of_ble_eq_true rfl) rfl (x_isLetter ?_)
    show Zw _ _ _ 95 [_, _] [_] _ _
    refine zw_if_eq 105 dX7_advance_95 (by decide) (fun hb => ?_) (fun hb => ?_)
    · rw [if_neg (by rw [bI_f hb]; decide)] at k
      refine zw_iload_n dX7_advance_105 rfl ?_
      refine zw_cS1 dX7_advance_106 oX7_isFigure kX7_isFigure lX7_59 (Nat.le_of_ble_eq_true rfl) rfl (x_isFigure ?_)
      show Zw _ _ _ 109 [_, _] [_] _ _
      refine zw_if_eq 119 dX7_advance_109 (by decide) (fun hc => ?_) (fun hc => ?_)
      · rw [if_neg (by rw [bI_f hc]; decide)] at k
        refine zw_aload_n dX7_advance_119 rfl ?_
        refine zw_iload_n dX7_advance_120 rfl ?_
        refine zw_bipush dX7_advance_121 59 (by decide) ?_
        refine zw_icmp_ne 130 dX7_advance_123 (by decide) (fun he => ?_) (fun he => ?_)
        · refine zw_iconst dX7_advance_130 4 (by decide) ?_
          refine zw_put dX7_advance_131 pX7_33 h3.1 (fun _ => rfl) (fun _ => rfl) (Nat.le_of_ble_eq_true rfl) ?_
          refine zw_return dX7_advance_134 rfl (Nat.le_refl _) (Nat.le_refl _) ?_
          refine k _ ?_ (o2.tr ((zOff.pt (by decide) (by decide)).tr (zOff.pt (by decide) (by decide))))
          dsimp only
          rw [if_neg he]
          exact h3.set
        · refine zw_iconst dX7_advance_126 2 (by decide) ?_
          refine zw_goto 131 dX7_advance_127 (by decide) ?_
          refine zw_put dX7_advance_131 pX7_33 h3.1 (fun _ => rfl) (fun _ => rfl) (Nat.le_of_ble_eq_true rfl) ?_
          refine zw_return dX7_advance_134 rfl (Nat.le_refl _) (Nat.le_refl _) ?_
          refine k _ ?_ (o2.tr ((zOff.pt (by decide) (by decide)).tr (zOff.pt (by decide) (by decide))))
          dsimp only
          rw [if_pos he]
          exact h3.set
      · rw [if_pos (bI_t hc)] at k
        refine zw_aload_n dX7_advance_112 rfl ?_
        refine zw_cV0 dX7_advance_113 oX7_advanceOverNumber kX7_advanceOverNumber lX7_62 h3.1 rfl (Nat.le_of_ble_eq_true rfl) rfl (x_overNum h3 (by omega) (by omega) (fun w4 q eq h4 o4 => ?_))
        show Zw _ _ _ 116 [_, _] [] _ _
        refine zw_goto 134 dX7_advance_116 (by decide) ?_
        refine zw_return dX7_advance_134 rfl (Nat.le_refl _) (Nat.le_refl _) ?_
        subst eq
        exact k _ h4 (o2.tr ((zOff.pt (by decide) (by decide)).tr o4))
    · rw [if_pos (bI_t hb)] at k
      refine zw_aload_n dX7_advance_98 rfl ?_
      refine zw_cV0 dX7_advance_99 oX7_advanceOverWord kX7_advanceOverWord lX7_56 h3.1 rfl (Nat.le_of_ble_eq_true rfl) rfl (x_overWord h3 (by omega) (by omega) (fun w4 q eq h4 o4 => ?_))
      show Zw _ _ _ 102 [_, _] [] _ _
      refine zw_goto 134 dX7_advance_102 (by decide) ?_
      refine zw_return dX7_advance_134 rfl (Nat.le_refl _) (Nat.le_refl _) ?_
      subst eq
      exact k _ h4 (o2.tr ((zOff.pt (by decide) (by decide)).tr o4))
  · rw [if_pos hq] at k
    refine zw_icmp_lt 91 dX7_advance_72 (by decide) (fun hz => absurd hz (nI_nlt hq (by omega))) (fun _ => ?_)
    refine zw_aload_n dX7_advance_75 rfl ?_
    refine zw_aload_n dX7_advance_76 rfl ?_
    refine zw_get dX7_advance_77 fX7_27 h3.1 rfl ?_
    refine zw_put dX7_advance_80 pX7_30 h3.1 (fun _ => rfl) (fun _ => rfl) (Nat.le_of_ble_eq_true rfl) ?_
    have h4 := h3.set (st' := s) (en' := s) (tk' := tk) (va' := va) (iw' := iw)
    refine zw_aload_n dX7_advance_83 rfl ?_
    refine zw_iconst dX7_advance_84 3 (by decide) ?_
    refine zw_put dX7_advance_85 pX7_33 h4.1 (fun _ => rfl) (fun _ => rfl) (Nat.le_of_ble_eq_true rfl) ?_
    refine zw_goto 134 dX7_advance_88 (by decide) ?_
    refine zw_return dX7_advance_134 rfl (Nat.le_refl _) (Nat.le_refl _) ?_
    exact k _ h4.set (o2.tr ((zOff.pt (by decide) (by decide)).tr ((zOff.pt (by decide) (by decide)).tr (zOff.pt (by decide) (by decide)))))
theorem tokS_le {e : Nat} (he : e ≤ len) : (tokS bt len e va).1 ≤ (tokS bt len e va).2.1 ∧ (tokS bt len e va).2.1 ≤ len ∧ e ≤ (tokS bt len e va).1 := by
  have hs := endF_le (fun c => decide (c = 32)) bt (len - e) e
  unfold tokS
  split
  · exact ⟨Nat.le_refl _, by dsimp only; omega, hs.1⟩
  · dsimp only
    generalize endF (fun c => decide (c = 32)) bt e (len - e) = s at *
    have h1 := endF_le letB bt (len - (s + 1)) (s + 1)
    have h2 := endF_le figB bt (len - (s + 1)) (s + 1)
    split
    · dsimp only; omega
    · split
      · dsimp only; omega
      · dsimp only; omega
theorem x_due {i : Nat} (hi : i < 5) (k : Q (some (.int (nI (if i = 2 ∨ i = 3 then 2 else if i = 4 then 4 else 3)))) w) : Zm d mX7_numbersDue 0 0 [.int (nI i)] w Q := by
  refine zm_intro [_] oX7_numbersDue (Nat.le_of_ble_eq_true rfl) rfl ?_
  refine zw_iload_n dX7_numbersDue_0 rfl ?_
  have h5 : i = 0 ∨ i = 1 ∨ i = 2 ∨ i = 3 ∨ i = 4 := by omega
  rcases h5 with rfl | rfl | rfl | rfl | rfl
  · refine zw_tableOut 32 dX7_numbersDue_1 (by decide) (by decide) ?_
    refine zw_iconst dX7_numbersDue_32 3 (by decide) ?_
    refine zw_ireturn .int dX7_numbersDue_33 rfl rfl (Nat.le_refl _) (Nat.le_refl _) ?_
    exact k
  · refine zw_tableOut 32 dX7_numbersDue_1 (by decide) (by decide) ?_
    refine zw_iconst dX7_numbersDue_32 3 (by decide) ?_
    refine zw_ireturn .int dX7_numbersDue_33 rfl rfl (Nat.le_refl _) (Nat.le_refl _) ?_
    exact k
  · refine zw_tableIn 28 dX7_numbersDue_1 (by decide) (by decide) (off := 27) (by decide) (by decide) ?_
    refine zw_iconst dX7_numbersDue_28 2 (by decide) ?_
    refine zw_ireturn .int dX7_numbersDue_29 rfl rfl (Nat.le_refl _) (Nat.le_refl _) ?_
    exact k
  · refine zw_tableIn 28 dX7_numbersDue_1 (by decide) (by decide) (off := 27) (by decide) (by decide) ?_
    refine zw_iconst dX7_numbersDue_28 2 (by decide) ?_
    refine zw_ireturn .int dX7_numbersDue_29 rfl rfl (Nat.le_refl _) (Nat.le_refl _) ?_
    exact k
  · refine zw_tableIn 30 dX7_numbersDue_1 (by decide) (by decide) (off := 29) (by decide) (by decide) ?_
    refine zw_iconst dX7_numbersDue_30 4 (by decide) ?_
    refine zw_ireturn .int dX7_numbersDue_31 rfl rfl (Nat.le_refl _) (Nat.le_refl _) ?_
    exact k
/-- the numbers of an item: k more from the i-th on; what is at hand behind them -/
abbrev TSt : Type := TTk × (Nat → Int32)
def numsF (bt : Nat → Int32) (len i k : Nat) (s : TSt) : Bool × TSt := match k with
  | 0 => (true, s)
  | k + 1 => if (tokS bt len s.1.2.1 s.1.2.2.2).2.2.1 = 1 then numsF bt len (i + 1) k (tokS bt len s.1.2.1 s.1.2.2.2, upd s.2 i (tokS bt len s.1.2.1 s.1.2.2.2).2.2.2) else (false, (tokS bt len s.1.2.1 s.1.2.2.2, s.2))
def dueN (i : Nat) : Nat := if i = 2 ∨ i = 3 then 2 else if i = 4 then 4 else 3
def takeF (bt : Nat → Int32) (len : Nat) (i : Nat) (s : TSt) : Bool × TSt :=
  if (numsF bt len 0 (dueN i) s).1 = true then (decide ((tokS bt len (numsF bt len 0 (dueN i) s).2.1.2.1 (numsF bt len 0 (dueN i) s).2.1.2.2.2).2.2.1 = 2), (tokS bt len (numsF bt len 0 (dueN i) s).2.1.2.1 (numsF bt len 0 (dueN i) s).2.1.2.2.2, (numsF bt len 0 (dueN i) s).2.2)) else numsF bt len 0 (dueN i) s
theorem numsF_le : ∀ (k i : Nat) (s : TSt), s.1.2.1 ≤ len → (numsF bt len i k s).2.1.2.1 ≤ len
  | 0, i, s, h => h
  | k + 1, i, s, h => by
    unfold numsF
    have := tokS_le (bt := bt) (va := s.1.2.2.2) h
    split
    · exact numsF_le k (i + 1) _ this.2.1
    · exact this.2.1
theorem x_takeL {w0 : ZW} {wd : Nat} (hwd : wd < 5) {r : Bool × TSt} (hK1 : ∀ w o, isTx w len bt r.2.2 r.2.1.1 r.2.1.2.1 r.2.1.2.2.1 r.2.1.2.2.2 (nI wd) → zOff 53 56 w0 w → r.1 = true → Zw (d + 8) mX7_takeItem z0 67 [some (.ref 53), some (.int (nI (dueN wd))), o] [] w Q) (hK0 : ∀ w, isTx w len bt r.2.2 r.2.1.1 r.2.1.2.1 r.2.1.2.2.1 r.2.1.2.2.2 (nI wd) → zOff 53 56 w0 w → r.1 = false → Q (some (.int 0)) w) : ∀ (k i : Nat) (s : TSt) (w : ZW), i + k = dueN wd → s.1.2.1 ≤ len → numsF bt len i k s = r → isTx w len bt s.2 s.1.1 s.1.2.1 s.1.2.2.1 s.1.2.2.2 (nI wd) → zOff 53 56 w0 w → Zw (d + 8) mX7_takeItem z0 27 [some (.ref 53), some (.int (nI (dueN wd))), some (.int (nI i))] [] w Q := by
  have hd4 : dueN wd ≤ 4 := by unfold dueN; split; omega; split <;> omega
  intro k
  induction k with
  | zero =>
    intro i s w hi hs hz h ho
    have hz : (true, s) = r := hz
    subst hz
    refine zw_iload_n dX7_takeItem_27 rfl ?_
    refine zw_iload_n dX7_takeItem_28 rfl ?_
    refine zw_icmp_ge 67 dX7_takeItem_29 (by decide) (fun _ => ?_) (fun hz => absurd (nI_le (by omega) (by omega)) hz)
    exact hK1 w _ h ho rfl
  | succ k ih =>
    intro i s w hi hs hz h ho
    unfold numsF at hz
    refine zw_iload_n dX7_takeItem_27 rfl ?_
    refine zw_iload_n dX7_takeItem_28 rfl ?_
    refine zw_icmp_ge 67 dX7_takeItem_29 (by decide) (fun hz => absurd hz (nI_ge (by omega) (by omega))) (fun _ => ?_)
    refine zw_iload_n dX7_takeItem_32 rfl ?_
    refine zw_iconst dX7_takeItem_33 4 (by decide) ?_
    refine zw_icmp_ge 67 dX7_takeItem_34 (by decide) (fun hz => absurd hz (nI_ge (b := 4) (by omega) (by decide))) (fun _ => ?_)
    refine zw_aload_n dX7_takeItem_37 rfl ?_
    refine zw_cV0 dX7_takeItem_38 oX7_advance kX7_advance lX7_46 h.1 rfl (Nat.le_of_ble_eq_true rfl) rfl (x_advance h hs (fun w1 h1 o1 => ?_))
    show Zw _ _ _ 41 [_, _, _] [] _ _
    refine zw_aload_n dX7_takeItem_41 rfl ?_
    refine zw_get dX7_takeItem_42 fX7_33 h1.1 rfl ?_
    refine zw_iconst dX7_takeItem_45 1 (by decide) ?_
    refine zw_icmp_eq 51 dX7_takeItem_46 (by decide) (fun hb => ?_) (fun hb => ?_)
    · rw [if_pos hb] at hz
      refine zw_aload_n dX7_takeItem_51 rfl ?_
      refine zw_get dX7_takeItem_52 fX7_15 h1.1 rfl ?_
      refine zw_iload_n dX7_takeItem_55 rfl ?_
      refine zw_aload_n dX7_takeItem_56 rfl ?_
      refine zw_get dX7_takeItem_57 fX7_36 h1.1 rfl ?_
      refine zw_iast dX7_takeItem_60 h1.2.2.1 (vp_in_nI (by omega) (by decide)) ?_
      rw [nI_clamp (by omega)]
      refine zw_iinc (nI (i + 1)) [_, _, _] dX7_takeItem_61 rfl (nI_1 i) rfl ?_
      refine zw_goto 27 dX7_takeItem_64 (by decide) ?_
      refine ih (i + 1) (tokS bt len s.1.2.1 s.1.2.2.2, upd s.2 i (tokS bt len s.1.2.1 s.1.2.2.2).2.2.2) _ (by omega) (tokS_le hs).2.1 hz ⟨h1.1.put (by decide), h1.2.1.put (by decide), h1.2.2.1.self, h1.2.2.2⟩ (ho.tr (o1.tr (zOff.pt (by decide) (by decide))))
    · rw [if_neg hb] at hz
      subst hz
      refine zw_iconst dX7_takeItem_49 0 (by decide) ?_
      refine zw_ireturn .boolean dX7_takeItem_50 rfl rfl (Nat.le_refl _) (Nat.le_refl _) ?_
      exact hK0 _ h1 (ho.tr o1) rfl
theorem x_takeItem (h : isTx w len bt nm st en tk va iw) (hen : en ≤ len) (kN : ¬ tk = 0 → Q (some (.int 0)) w) (k : ∀ wd, tk = 0 → va = nI wd → wd < 5 → ∀ w', isTx w' len bt (takeF bt len wd ((st, en, tk, va), nm)).2.2 (takeF bt len wd ((st, en, tk, va), nm)).2.1.1 (takeF bt len wd ((st, en, tk, va), nm)).2.1.2.1 (takeF bt len wd ((st, en, tk, va), nm)).2.1.2.2.1 (takeF bt len wd ((st, en, tk, va), nm)).2.1.2.2.2 (nI wd) → zOff 53 56 w w' → Q (some (.int (bI (takeF bt len wd ((st, en, tk, va), nm)).1))) w') (hva : tk = 0 → ∃ wd, wd < 5 ∧ va = nI wd) : Zm (d + 8) mX7_takeItem 0 0 [.ref 53] w Q := by
  refine zm_intro [_, _, _] oX7_takeItem (Nat.le_of_ble_eq_true rfl) rfl ?_
  refine zw_aload_n dX7_takeItem_0 rfl ?_
  refine zw_get dX7_takeItem_1 fX7_33 h.1 rfl ?_
  by_cases h0 : tk = 0
  · obtain ⟨wd, hwd, ev⟩ := hva h0
    have k := k wd h0 ev hwd
    refine zw_if_eq 9 dX7_takeItem_4 (by decide) (fun _ => ?_) (fun hz => absurd (h0) hz)
    refine zw_aload_n dX7_takeItem_9 rfl ?_
    refine zw_aload_n dX7_takeItem_10 rfl ?_
    refine zw_get dX7_takeItem_11 fX7_36 h.1 rfl ?_
    refine zw_put dX7_takeItem_14 pX7_39 h.1 (fun _ => rfl) (fun _ => rfl) (Nat.le_of_ble_eq_true rfl) ?_
    have h1 := h.set (st' := st) (en' := en) (tk' := tk) (va' := va) (iw' := va)
    refine zw_aload_n dX7_takeItem_17 rfl ?_
    refine zw_get dX7_takeItem_18 fX7_39 h1.1 rfl ?_
    rw [ev] at h1 ⊢
    refine zw_cS1 dX7_takeItem_21 oX7_numbersDue kX7_numbersDue lX7_42 (Nat.le_of_ble_eq_true rfl) rfl (x_due hwd ?_)
    show Zw _ _ _ 24 [_, _, _] [_] _ _
    refine zw_istore_n [_, _, _] dX7_takeItem_24 (Nat.le_of_ble_eq_true rfl) rfl ?_
    refine zw_iconst dX7_takeItem_25 0 (by decide) ?_
    refine zw_istore_n [_, _, _] dX7_takeItem_26 (Nat.le_of_ble_eq_true rfl) rfl ?_
    have hd := dueN wd
    refine x_takeL (w0 := w) (len := len) (bt := bt) hwd (r := numsF bt len 0 (dueN wd) ((st, en, tk, va), nm)) (fun w2 o h2 o2 e2 => ?_) (fun w2 h2 o2 e2 => ?_) (dueN wd) 0 ((st, en, tk, va), nm) _ (by omega) hen rfl (by rw [ev]; exact h1) (zOff.pt (by decide) (by decide))
    · unfold takeF at k
      rw [if_pos e2] at k
      refine zw_aload_n dX7_takeItem_67 rfl ?_
      refine zw_cV0 dX7_takeItem_68 oX7_advance kX7_advance lX7_46 h2.1 rfl (Nat.le_of_ble_eq_true rfl) rfl (x_advance h2 (numsF_le _ _ _ hen) (fun w3 h3 o3 => ?_))
      show Zw _ _ _ 71 [_, _, _] [] _ _
      refine zw_aload_n dX7_takeItem_71 rfl ?_
      refine zw_get dX7_takeItem_72 fX7_33 h3.1 rfl ?_
      refine zw_iconst dX7_takeItem_75 2 (by decide) ?_
      refine zw_icmp_ne 83 dX7_takeItem_76 (by decide) (fun hb => ?_) (fun hb => ?_)
      · refine zw_iconst dX7_takeItem_83 0 (by decide) ?_
        refine zw_ireturn .boolean dX7_takeItem_84 rfl rfl (Nat.le_refl _) (Nat.le_refl _) ?_
        have := k w3 h3 (o2.tr o3)
        dsimp only at this
        rw [decide_eq_false hb] at this
        exact this
      · refine zw_iconst dX7_takeItem_79 1 (by decide) ?_
        refine zw_goto 84 dX7_takeItem_80 (by decide) ?_
        refine zw_ireturn .boolean dX7_takeItem_84 rfl rfl (Nat.le_refl _) (Nat.le_refl _) ?_
        have := k w3 h3 (o2.tr o3)
        dsimp only at this
        rw [decide_eq_true hb] at this
        exact this
    · unfold takeF at k
      rw [if_neg (by rw [e2]; decide)] at k
      have := k w2 h2 o2
      rw [e2] at this
      exact this
  · refine zw_if_eq 9 dX7_takeItem_4 (by decide) (fun hz => absurd hz (h0)) (fun _ => ?_)
    refine zw_iconst dX7_takeItem_7 0 (by decide) ?_
    refine zw_ireturn .boolean dX7_takeItem_8 rfl rfl (Nat.le_refl _) (Nat.le_refl _) ?_
    exact kN h0
end ZTEXT2
