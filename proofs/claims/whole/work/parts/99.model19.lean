/-! ===== the Model: much, worth, spare, lacking ===== -/
theorem muF_0 {A B : Nat → Nat → Int32} {g : Nat → Nat} {n cols : Nat} (e : B 0 = A 0) : ∀ (k i : Nat) (m : Int32), muF B g n cols i k m = muF A g n cols i k m := by
  intro k
  induction k with
  | zero => intro i m; rfl
  | succ k ih =>
    intro i m
    unfold muF
    rw [ih, mSum_0 e]
section ZMOD19
variable {d : Nat} {w w' : ZW} {A : Nat → Nat → Int32} {I : Nat → Int32} {ab be : Int64} {Q : Option Value → ZW → Prop}
theorem m_muL {g : Nat → Nat} {n cols : Nat} {w0 : ZW} {V : Int32} (hb : I 0 = nI 0) (hn : A 0 0 = nI n) (hn7 : n ≤ 7) (hc : cols < 128) (hg : ∀ r, r < 7 → A 5 r = nI (g r)) (hgl : ∀ r, r < 7 → g r < 128) (hK : ∀ w f, isM w (va_up A 6 f) I ab be → zOff 74 89 w0 w → Q (some (.int V)) w) : ∀ (k i : Nat) (m : Int32) (f : Nat → Int32) (w : ZW) (o4 : Option Value), i + k = 2 ^ n → muF A g n cols i k m = V → isM w (va_up A 6 f) I ab be → zOff 74 89 w0 w → Zw (d + 3) mX9_muchBy z0 4 [some (.ref 74), some (.int (nI cols)), some (.int m), some (.int (nI i)), o4] [] w Q := by
  have pn := pow_c hn7
  have pn0 : 0 < 2 ^ n := Nat.two_pow_pos n
  intro k
  induction k with
  | zero =>
    intro i m f w o4 hi hE h ho
    have hE : m = V := hE
    subst hE
    refine zw_iload_n dX9_muchBy_4 rfl ?_
    refine zw_aload_n dX9_muchBy_5 rfl ?_
    refine zw_cV0 dX9_muchBy_6 oX9_boxes kX9_boxes lX9_175 h.1 rfl (Nat.le_of_ble_eq_true rfl) rfl (m_boxes h hb hn hn7 ?_)
    show Zw _ _ _ 9 [_, _, _, _, _] [_, _] _ _
    refine zw_icmp_gt 48 dX9_muchBy_9 (by decide) (fun _ => ?_) (fun hz => absurd (nI_lt (by omega) (by omega)) hz)
    refine zw_iload_n dX9_muchBy_48 rfl ?_
    refine zw_ireturn .int dX9_muchBy_49 rfl rfl (Nat.le_refl _) (Nat.le_refl _) ?_
    exact hK w f h ho
  | succ k ih =>
    intro i m f w o4 hi hE h ho
    have hi7 : i < 128 := by omega
    unfold muF at hE
    have keep : ∀ (w : ZW) f o4, ¬ (m < mSum A i 2 0 n 0 ∧ covB g i cols = true) → isM w (va_up A 6 f) I ab be → zOff 74 89 w0 w → Zw (d + 3) mX9_muchBy z0 40 [some (.ref 74), some (.int (nI cols)), some (.int m), some (.int (nI i)), o4] [] w Q := by
      intro w f o4 hq h ho
      rw [if_neg hq] at hE
      refine zw_iload_n dX9_muchBy_40 rfl ?_
      refine zw_istore_n [_, _, _, _, _] dX9_muchBy_41 (Nat.le_of_ble_eq_true rfl) rfl ?_
      refine zw_iinc (nI (i + 1)) [_, _, _, _, _] dX9_muchBy_42 rfl (nI_1 i) rfl ?_
      refine zw_goto 4 dX9_muchBy_45 (by decide) ?_
      exact ih (i + 1) m f w _ (by omega) hE h ho
    refine zw_iload_n dX9_muchBy_4 rfl ?_
    refine zw_aload_n dX9_muchBy_5 rfl ?_
    refine zw_cV0 dX9_muchBy_6 oX9_boxes kX9_boxes lX9_175 h.1 rfl (Nat.le_of_ble_eq_true rfl) rfl (m_boxes h hb hn hn7 ?_)
    show Zw _ _ _ 9 [_, _, _, _, _] [_, _] _ _
    refine zw_icmp_gt 48 dX9_muchBy_9 (by decide) (fun hz => absurd hz (nI_nlt (by omega) (by omega))) (fun _ => ?_)
    refine zw_aload_n dX9_muchBy_12 rfl ?_
    refine zw_iload_n dX9_muchBy_13 rfl ?_
    refine zw_iconst dX9_muchBy_14 2 (by decide) ?_
    refine zw_cV2 dX9_muchBy_15 oX9_sumOf kX9_sumOf lX9_187 h.1 rfl (Nat.le_of_ble_eq_true rfl) rfl (m_sumOf (s := i) (c := 2) h hb hn hn7 hi7 (by decide) ?_)
    show Zw _ _ _ 18 [_, _, _, _, _] [_] _ _
    rw [mSum_0 (A := A) (B := va_up A 6 f) rfl]
    refine zw_istore [_, _, _, _, _] dX9_muchBy_18 (Nat.le_of_ble_eq_true rfl) rfl ?_
    refine zw_iload dX9_muchBy_20 rfl ?_
    refine zw_iload_n dX9_muchBy_22 rfl ?_
    by_cases e1 : m < mSum A i 2 0 n 0
    · refine zw_icmp_le 40 dX9_muchBy_23 (by decide) (fun hz => absurd hz (Int32.not_le.mpr e1)) (fun _ => ?_)
      refine zw_aload_n dX9_muchBy_26 rfl ?_
      refine zw_iload_n dX9_muchBy_27 rfl ?_
      refine zw_iload_n dX9_muchBy_28 rfl ?_
      refine zw_cV2 dX9_muchBy_29 oX9_isCovered kX9_isCovered lX9_190 h.1 rfl (Nat.le_of_ble_eq_true rfl) rfl (m_isCovered (A := va_up A 6 f) (g := g) hi7 hc hg hgl h (fun w1 f1 h1 o1 => ?_))
      show Zw _ _ _ 32 [_, _, _, _, _] [_] _ _
      rw [va_uu] at h1
      by_cases e : covB g i cols = true
      · rw [if_pos ⟨e1, e⟩] at hE
        rw [e]
        refine zw_if_eq 40 dX9_muchBy_32 (by decide) (fun hz => absurd hz (by decide)) (fun _ => ?_)
        refine zw_iload dX9_muchBy_35 rfl ?_
        refine zw_goto 41 dX9_muchBy_37 (by decide) ?_
        refine zw_istore_n [_, _, _, _, _] dX9_muchBy_41 (Nat.le_of_ble_eq_true rfl) rfl ?_
        refine zw_iinc (nI (i + 1)) [_, _, _, _, _] dX9_muchBy_42 rfl (nI_1 i) rfl ?_
        refine zw_goto 4 dX9_muchBy_45 (by decide) ?_
        exact ih (i + 1) _ f1 w1 _ (by omega) hE h1 (ho.tr o1)
      · have e' : covB g i cols = false := by simpa using e
        rw [e']
        refine zw_if_eq 40 dX9_muchBy_32 (by decide) (fun _ => ?_) (fun hz => absurd (by decide) hz)
        exact keep w1 f1 _ (fun z => e z.2) h1 (ho.tr o1)
    · refine zw_icmp_le 40 dX9_muchBy_23 (by decide) (fun _ => ?_) (fun hz => absurd (Int32.not_lt.mp e1) hz)
      exact keep w f _ (fun z => e1 z.1) h ho
theorem m_muchBy {g : Nat → Nat} {n cols : Nat} (hb : I 0 = nI 0) (hn : A 0 0 = nI n) (hn7 : n ≤ 7) (hc : cols < 128) (hg : ∀ r, r < 7 → A 5 r = nI (g r)) (hgl : ∀ r, r < 7 → g r < 128) (h : isM w A I ab be) (k : ∀ w' f, isM w' (va_up A 6 f) I ab be → zOff 74 89 w w' → Q (some (.int (muF A g n cols 0 (2 ^ n) 0))) w') : Zm (d + 3) mX9_muchBy 0 0 [.ref 74, .int (nI cols)] w Q := by
  refine zm_intro [_, _, _, _, _] oX9_muchBy (Nat.le_of_ble_eq_true rfl) rfl ?_
  refine zw_iconst dX9_muchBy_0 0 (by decide) ?_
  refine zw_istore_n [_, _, _, _, _] dX9_muchBy_1 (Nat.le_of_ble_eq_true rfl) rfl ?_
  refine zw_iconst dX9_muchBy_2 0 (by decide) ?_
  refine zw_istore_n [_, _, _, _, _] dX9_muchBy_3 (Nat.le_of_ble_eq_true rfl) rfl ?_
  exact m_muL (w0 := w) hb hn hn7 hc hg hgl k (2 ^ n) 0 0 _ w _ (by omega) rfl (h.sf 6) zOff.rf
theorem m_much {n l : Nat} (h : isM w A I ab be) (hb : I 0 = nI 0) (hn : A 0 0 = nI n) (hn7 : n ≤ 7) (hl : A 0 (0 + 1) = nI l) (hl7 : l ≤ 7) (hk : ∀ i, i < l → ∃ j, j < 6 ∧ mLd A 0 i 0 = nI j) (k : ∀ w' B, mS 4 A B → isM w' B I ab be → zOff 74 89 w w' → Q (some (.int (muF A (mG A n l) n (2 ^ l - 1) 0 (2 ^ n) 0))) w') : Zm (d + 6) mX9_much 0 0 [.ref 74] w Q := by
  have pl := pow_c hl7
  have pl0 : 0 < 2 ^ l := Nat.two_pow_pos l
  refine zm_intro [_] oX9_much (Nat.le_of_ble_eq_true rfl) rfl ?_
  refine zw_aload_n dX9_much_0 rfl ?_
  refine zw_cV0 dX9_much_1 oX9_findFits kX9_findFits lX9_172 h.1 rfl (Nat.le_of_ble_eq_true rfl) rfl (m_findFits h hb hn hn7 hl hl7 hk (fun w1 f hf h1 o1 => ?_))
  show Zw _ _ _ 4 [_] [] _ _
  refine zw_aload_n dX9_much_4 rfl ?_
  refine zw_aload_n dX9_much_5 rfl ?_
  refine zw_cV0 dX9_much_6 oX9_lids kX9_lids lX9_178 h1.1 rfl (Nat.le_of_ble_eq_true rfl) rfl (m_lids h1 hb hl hl7 ?_)
  show Zw _ _ _ 9 [_] [_, _] _ _
  refine zw_cV1 dX9_much_9 oX9_muchBy kX9_muchBy lX9_193 h1.1 rfl (Nat.le_of_ble_eq_true rfl) rfl (m_muchBy (A := va_up A 5 f) (g := mG A n l) hb hn hn7 (by omega) hf (fun r _ => mG_lt hl7) h1 (fun w2 f2 h2 o2 => ?_))
  show Zw _ _ _ 12 [_] [_] _ _
  rw [muF_0 (A := A) (B := va_up A 5 f) rfl]
  refine zw_ireturn .int dX9_much_12 rfl rfl (Nat.le_refl _) (Nat.le_refl _) ?_
  exact k w2 _ ((mS.up (by decide)).tr (mS.up (by decide))) h2 (o1.tr o2)
theorem m_worth {n l : Nat} {x : Int32} (h : isM w A I ab be) (hb : I 0 = nI 0) (hn : A 0 0 = nI n) (hn7 : n ≤ 7) (hl : A 0 (0 + 1) = nI l) (hl7 : l ≤ 7) (hk : ∀ i, i < l → ∃ j, j < 6 ∧ mLd A 0 i 0 = nI j) (kB : (∀ r, r < l → ¬ x = nI r) → ∀ w', isM w' (toldI A 0 0) I ab be → zOff 74 89 w w' → Q (some (.int (-2))) w') (kA : ∀ r, r < l → x = nI r → ∀ w' B, mS 4 A B → isM w' B I ab be → zOff 74 89 w w' → Q (some (.int (muF A (mG A n l) n (2 ^ l - 1) 0 (2 ^ n) 0 - muF A (mG A n l) n (andn (2 ^ l - 1) (2 ^ r)) 0 (2 ^ n) 0))) w') : Zm (d + 6) mX9_worth 0 0 [.ref 74, .int x] w Q := by
  have pl := pow_c hl7
  have pl0 : 0 < 2 ^ l := Nat.two_pow_pos l
  refine zm_intro [_, _] oX9_worth (Nat.le_of_ble_eq_true rfl) rfl ?_
  refine zw_aload_n dX9_worth_0 rfl ?_
  refine zw_iload_n dX9_worth_1 rfl ?_
  refine zw_cV1 dX9_worth_2 oX9_isLid kX9_isLid lX9_91 h.1 rfl (Nat.le_of_ble_eq_true rfl) rfl (m_isLid (b := 0) h hb (by decide) hl (by omega) (fun r hr e => ?_) (fun q => ?_))
  · have kk := kA r hr e
    subst e
    show Zw _ _ _ 5 [_, _] [_] _ _
    refine zw_if_ne 15 dX9_worth_5 (by decide) (fun _ => ?_) (fun hz => absurd hz (by decide))
    refine zw_aload_n dX9_worth_15 rfl ?_
    refine zw_cV0 dX9_worth_16 oX9_findFits kX9_findFits lX9_172 h.1 rfl (Nat.le_of_ble_eq_true rfl) rfl (m_findFits h hb hn hn7 hl hl7 hk (fun w1 f hf h1 o1 => ?_))
    show Zw _ _ _ 19 [_, _] [] _ _
    refine zw_aload_n dX9_worth_19 rfl ?_
    refine zw_aload_n dX9_worth_20 rfl ?_
    refine zw_cV0 dX9_worth_21 oX9_lids kX9_lids lX9_178 h1.1 rfl (Nat.le_of_ble_eq_true rfl) rfl (m_lids h1 hb hl hl7 ?_)
    show Zw _ _ _ 24 [_, _] [_, _] _ _
    refine zw_cV1 dX9_worth_24 oX9_muchBy kX9_muchBy lX9_193 h1.1 rfl (Nat.le_of_ble_eq_true rfl) rfl (m_muchBy (A := va_up A 5 f) (g := mG A n l) hb hn hn7 (by omega) hf (fun r _ => mG_lt hl7) h1 (fun w2 f2 h2 o2 => ?_))
    show Zw _ _ _ 27 [_, _] [_] _ _
    rw [muF_0 (A := A) (B := va_up A 5 f) rfl]
    refine zw_aload_n dX9_worth_27 rfl ?_
    refine zw_aload_n dX9_worth_28 rfl ?_
    refine zw_cV0 dX9_worth_29 oX9_lids kX9_lids lX9_178 h2.1 rfl (Nat.le_of_ble_eq_true rfl) rfl (m_lids h2 hb hl hl7 ?_)
    show Zw _ _ _ 32 [_, _] [_, _, _] _ _
    refine zw_iconst dX9_worth_32 1 (by decide) ?_
    refine zw_iload_n dX9_worth_33 rfl ?_
    refine zw_ishl dX9_worth_34 ?_
    refine zw_iconst dX9_worth_35 (-1) (by decide) ?_
    refine zw_ixor dX9_worth_36 ?_
    refine zw_iand dX9_worth_37 ?_
    refine zw_top (y := nI (andn (2 ^ l - 1) (2 ^ r))) (by rw [shl_I r (by omega)]; exact andn_I _ (by omega) _ (pow_7 r (by omega))) ?_
    refine zw_cV1 dX9_worth_38 oX9_muchBy kX9_muchBy lX9_193 h2.1 rfl (Nat.le_of_ble_eq_true rfl) rfl (m_muchBy (A := va_up (va_up A 5 f) 6 f2) (g := mG A n l) hb hn hn7 (andn_lt (by omega)) hf (fun r _ => mG_lt hl7) h2 (fun w3 f3 h3 o3 => ?_))
    show Zw _ _ _ 41 [_, _] [_, _] _ _
    rw [muF_0 (A := A) (B := va_up (va_up A 5 f) 6 f2) rfl]
    refine zw_isub dX9_worth_41 ?_
    refine zw_ireturn .int dX9_worth_42 rfl rfl (Nat.le_refl _) (Nat.le_refl _) ?_
    exact kk w3 _ (((mS.up (by decide)).tr (mS.up (by decide))).tr (mS.up (by decide))) h3 ((o1.tr o2).tr o3)
  · show Zw _ _ _ 5 [_, _] [_] _ _
    refine zw_if_ne 15 dX9_worth_5 (by decide) (fun hz => absurd (by decide) hz) (fun _ => ?_)
    refine zw_aload_n dX9_worth_8 rfl ?_
    refine zw_bipush dX9_worth_9 (-2) (by decide) ?_
    refine zw_cV1 dX9_worth_11 oX9_told kX9_told lX9_70 h.1 rfl (Nat.le_of_ble_eq_true rfl) rfl (m_toldR (j := 0) (by decide) hb (by decide) h (fun w1 h1 o1 => ?_))
    show Zw _ _ _ 14 [_, _] [_] _ _
    refine zw_ireturn .int dX9_worth_14 rfl rfl (Nat.le_refl _) (Nat.le_refl _) ?_
    exact kB q w1 h1 o1
/-- lid i can be spared -/
def mSpB (g : Nat → Nat) (n l i : Nat) : Bool := decide (mostN g (2 ^ n - 1) (andn (2 ^ l - 1) (2 ^ i)) = mostN g (2 ^ n - 1) (2 ^ l - 1))
theorem m_spL {g : Nat → Nat} {n l : Nat} {w0 : ZW} {V : Nat} (hb : I 0 = nI 0) (hn : A 0 0 = nI n) (hn7 : n ≤ 7) (hl : A 0 (0 + 1) = nI l) (hl7 : l ≤ 7) (hg : ∀ r, r < 7 → A 5 r = nI (g r)) (hgl : ∀ r, r < 7 → g r < 128) (hK : ∀ w f, isM w (va_up A 6 f) I ab be → zOff 74 89 w0 w → Q (some (.int (nI V))) w) : ∀ (k i m : Nat) (f : Nat → Int32) (w : ZW), i + k = l → m < 2 ^ i → mskF (mSpB g n l) i k m = V → isM w (va_up A 6 f) I ab be → zOff 74 89 w0 w → Zw (d + 2) mX9_spare z0 21 [some (.ref 74), some (.int (nI (mostN g (2 ^ n - 1) (2 ^ l - 1)))), some (.int (nI m)), some (.int (nI i))] [] w Q := by
  have pn := pow_c hn7
  have pl := pow_c hl7
  have pn0 : 0 < 2 ^ n := Nat.two_pow_pos n
  have pl0 : 0 < 2 ^ l := Nat.two_pow_pos l
  intro k
  induction k with
  | zero =>
    intro i m f w hi hm hE h ho
    have hE : m = V := hE
    subst hE
    refine zw_iload_n dX9_spare_21 rfl ?_
    refine zw_aload_n dX9_spare_22 rfl ?_
    refine zw_iconst dX9_spare_23 1 (by decide) ?_
    refine zw_cV1 dX9_spare_24 oX9_get kX9_get lX9_62 h.1 rfl (Nat.le_of_ble_eq_true rfl) rfl (m_get (b := 0) (j := 1) h hb (by omega) ?_)
    show Zw _ _ _ 27 [_, _, _, _] [_, _] _ _
    refine zw_top (y := nI l) hl ?_
    refine zw_icmp_ge 68 dX9_spare_27 (by decide) (fun _ => ?_) (fun hz => absurd (nI_le (by omega) (by omega)) hz)
    refine zw_iload_n dX9_spare_68 rfl ?_
    refine zw_ireturn .int dX9_spare_69 rfl rfl (Nat.le_refl _) (Nat.le_refl _) ?_
    exact hK w f h ho
  | succ k ih =>
    intro i m f w hi hm hE h ho
    unfold mskF at hE
    have p2 : 2 ^ (i + 1) = 2 ^ i + 2 ^ i := by rw [Nat.pow_succ]; omega
    refine zw_iload_n dX9_spare_21 rfl ?_
    refine zw_aload_n dX9_spare_22 rfl ?_
    refine zw_iconst dX9_spare_23 1 (by decide) ?_
    refine zw_cV1 dX9_spare_24 oX9_get kX9_get lX9_62 h.1 rfl (Nat.le_of_ble_eq_true rfl) rfl (m_get (b := 0) (j := 1) h hb (by omega) ?_)
    show Zw _ _ _ 27 [_, _, _, _] [_, _] _ _
    refine zw_top (y := nI l) hl ?_
    refine zw_icmp_ge 68 dX9_spare_27 (by decide) (fun hz => absurd hz (nI_ge (by omega) (by omega))) (fun _ => ?_)
    refine zw_iload_n dX9_spare_30 rfl ?_
    refine zw_aload_n dX9_spare_31 rfl ?_
    refine zw_aload_n dX9_spare_32 rfl ?_
    refine zw_cV0 dX9_spare_33 oX9_boxes kX9_boxes lX9_175 h.1 rfl (Nat.le_of_ble_eq_true rfl) rfl (m_boxes h hb hn hn7 ?_)
    show Zw _ _ _ 36 [_, _, _, _] [_, _, _] _ _
    refine zw_aload_n dX9_spare_36 rfl ?_
    refine zw_cV0 dX9_spare_37 oX9_lids kX9_lids lX9_178 h.1 rfl (Nat.le_of_ble_eq_true rfl) rfl (m_lids h hb hl hl7 ?_)
    show Zw _ _ _ 40 [_, _, _, _] [_, _, _, _] _ _
    refine zw_iconst dX9_spare_40 1 (by decide) ?_
    refine zw_iload_n dX9_spare_41 rfl ?_
    refine zw_ishl dX9_spare_42 ?_
    refine zw_iconst dX9_spare_43 (-1) (by decide) ?_
    refine zw_ixor dX9_spare_44 ?_
    refine zw_iand dX9_spare_45 ?_
    refine zw_top (y := nI (andn (2 ^ l - 1) (2 ^ i))) (by rw [shl_I i (by omega)]; exact andn_I _ (by omega) _ (pow_7 i (by omega))) ?_
    refine zw_cV2 dX9_spare_46 oX9_mostOf kX9_mostOf lX9_169 h.1 rfl (Nat.le_of_ble_eq_true rfl) rfl (m_mostOf (A := va_up A 6 f) (g := g) (by omega) (andn_lt (by omega)) hg hgl h (fun w1 f1 h1 o1 => ?_))
    show Zw _ _ _ 49 [_, _, _, _] [_, _] _ _
    rw [va_uu] at h1
    refine zw_iload_n dX9_spare_49 rfl ?_
    by_cases e : mostN g (2 ^ n - 1) (andn (2 ^ l - 1) (2 ^ i)) = mostN g (2 ^ n - 1) (2 ^ l - 1)
    · have eb : mSpB g n l i = true := decide_eq_true e
      rw [if_pos eb] at hE
      have e' := congrArg nI e
      refine zw_icmp_ne 59 dX9_spare_50 (by decide) (fun hz => absurd (e') hz) (fun _ => ?_)
      refine zw_iconst dX9_spare_53 1 (by decide) ?_
      refine zw_iload_n dX9_spare_54 rfl ?_
      refine zw_ishl dX9_spare_55 ?_
      refine zw_goto 60 dX9_spare_56 (by decide) ?_
      refine zw_ior dX9_spare_60 ?_
      refine zw_top (or_bit i (by omega) m hm) ?_
      refine zw_istore_n [_, _, _, _] dX9_spare_61 (Nat.le_of_ble_eq_true rfl) rfl ?_
      refine zw_iinc (nI (i + 1)) [_, _, _, _] dX9_spare_62 rfl (nI_1 i) rfl ?_
      refine zw_goto 21 dX9_spare_65 (by decide) ?_
      exact ih (i + 1) _ f1 w1 (by omega) (by omega) hE h1 (ho.tr o1)
    · have eb : mSpB g n l i = false := decide_eq_false e
      rw [if_neg (by rw [eb]; decide)] at hE
      have b1 := mostN_le (g := g) (r := 2 ^ n - 1) (c := andn (2 ^ l - 1) (2 ^ i))
      have b2 := mostN_le (g := g) (r := 2 ^ n - 1) (c := 2 ^ l - 1)
      have e' : ¬ nI (mostN g (2 ^ n - 1) (andn (2 ^ l - 1) (2 ^ i))) = nI (mostN g (2 ^ n - 1) (2 ^ l - 1)) := fun z => e ((nI_eq (by omega) (by omega)).mp z)
      refine zw_icmp_ne 59 dX9_spare_50 (by decide) (fun _ => ?_) (fun hz => absurd hz (e'))
      refine zw_iconst dX9_spare_59 0 (by decide) ?_
      refine zw_ior dX9_spare_60 ?_
      refine zw_top (y := nI m) (by simp) ?_
      refine zw_istore_n [_, _, _, _] dX9_spare_61 (Nat.le_of_ble_eq_true rfl) rfl ?_
      refine zw_iinc (nI (i + 1)) [_, _, _, _] dX9_spare_62 rfl (nI_1 i) rfl ?_
      refine zw_goto 21 dX9_spare_65 (by decide) ?_
      exact ih (i + 1) _ f1 w1 (by omega) (by omega) hE h1 (ho.tr o1)
theorem m_spare {n l : Nat} (h : isM w A I ab be) (hb : I 0 = nI 0) (hn : A 0 0 = nI n) (hn7 : n ≤ 7) (hl : A 0 (0 + 1) = nI l) (hl7 : l ≤ 7) (hk : ∀ i, i < l → ∃ j, j < 6 ∧ mLd A 0 i 0 = nI j) (k : ∀ w' B, mS 4 A B → isM w' B I ab be → zOff 74 89 w w' → Q (some (.int (nI (mskF (mSpB (mG A n l) n l) 0 l 0)))) w') : Zm (d + 6) mX9_spare 0 0 [.ref 74] w Q := by
  have pn := pow_c hn7
  have pl := pow_c hl7
  have pn0 : 0 < 2 ^ n := Nat.two_pow_pos n
  have pl0 : 0 < 2 ^ l := Nat.two_pow_pos l
  refine zm_intro [_, _, _, _] oX9_spare (Nat.le_of_ble_eq_true rfl) rfl ?_
  refine zw_aload_n dX9_spare_0 rfl ?_
  refine zw_cV0 dX9_spare_1 oX9_findFits kX9_findFits lX9_172 h.1 rfl (Nat.le_of_ble_eq_true rfl) rfl (m_findFits h hb hn hn7 hl hl7 hk (fun w1 f hf h1 o1 => ?_))
  show Zw _ _ _ 4 [_, _, _, _] [] _ _
  refine zw_aload_n dX9_spare_4 rfl ?_
  refine zw_aload_n dX9_spare_5 rfl ?_
  refine zw_cV0 dX9_spare_6 oX9_boxes kX9_boxes lX9_175 h1.1 rfl (Nat.le_of_ble_eq_true rfl) rfl (m_boxes h1 hb hn hn7 ?_)
  show Zw _ _ _ 9 [_, _, _, _] [_, _] _ _
  refine zw_aload_n dX9_spare_9 rfl ?_
  refine zw_cV0 dX9_spare_10 oX9_lids kX9_lids lX9_178 h1.1 rfl (Nat.le_of_ble_eq_true rfl) rfl (m_lids h1 hb hl hl7 ?_)
  show Zw _ _ _ 13 [_, _, _, _] [_, _, _] _ _
  refine zw_cV2 dX9_spare_13 oX9_mostOf kX9_mostOf lX9_169 h1.1 rfl (Nat.le_of_ble_eq_true rfl) rfl (m_mostOf (A := va_up A 5 f) (g := mG A n l) (by omega) (by omega) hf (fun r _ => mG_lt hl7) h1 (fun w2 f2 h2 o2 => ?_))
  show Zw _ _ _ 16 [_, _, _, _] [_] _ _
  refine zw_istore_n [_, _, _, _] dX9_spare_16 (Nat.le_of_ble_eq_true rfl) rfl ?_
  refine zw_iconst dX9_spare_17 0 (by decide) ?_
  refine zw_istore_n [_, _, _, _] dX9_spare_18 (Nat.le_of_ble_eq_true rfl) rfl ?_
  refine zw_iconst dX9_spare_19 0 (by decide) ?_
  refine zw_istore_n [_, _, _, _] dX9_spare_20 (Nat.le_of_ble_eq_true rfl) rfl ?_
  exact m_spL (A := va_up A 5 f) (g := mG A n l) (w0 := w) hb hn hn7 hl hl7 hf (fun r _ => mG_lt hl7) (fun w3 f3 h3 o3 => k w3 _ ((mS.up (by decide)).tr (mS.up (by decide))) h3 o3) l 0 0 f2 w2 (by omega) (by decide) rfl h2 (o1.tr o2)
theorem m_laI {g : Nat → Nat} {s fo : Nat} {la : Int32} (hs : s < 128) (hg : ∀ r, r < 7 → A 5 r = nI (g r)) (hgl : ∀ r, r < 7 → g r < 128) (h : isM w A I ab be) (hK : ∀ o5, Zw (d + 3) mX9_lacking z0 63 [some (.ref 74), some (.int (nI fo)), some (.int la), some (.int (nI s)), some (.int (nI (anyF g s 0 7 0))), o5] [] w Q) : ∀ (k b a : Nat), b + k = 7 → a < 128 → anyF g s b k a = anyF g s 0 7 0 → Zw (d + 3) mX9_lacking z0 24 [some (.ref 74), some (.int (nI fo)), some (.int la), some (.int (nI s)), some (.int (nI a)), some (.int (nI b))] [] w Q := by
  intro k
  induction k with
  | zero =>
    intro b a hi ha hE
    have hE : a = anyF g s 0 7 0 := hE
    refine zw_iload dX9_lacking_24 rfl ?_
    refine zw_bipush dX9_lacking_26 7 (by decide) ?_
    refine zw_icmp_ge 63 dX9_lacking_28 (by decide) (fun _ => ?_) (fun hz => absurd (nI_le (a := 7) (by omega) (by omega)) hz)
    rw [hE]
    exact hK _
  | succ k ih =>
    intro b a hi ha hE
    unfold anyF at hE
    refine zw_iload dX9_lacking_24 rfl ?_
    refine zw_bipush dX9_lacking_26 7 (by decide) ?_
    refine zw_icmp_ge 63 dX9_lacking_28 (by decide) (fun hz => absurd hz (nI_ge (b := 7) (by omega) (by omega))) (fun _ => ?_)
    refine zw_iload dX9_lacking_31 rfl ?_
    refine zw_iload_n dX9_lacking_33 rfl ?_
    refine zw_iload dX9_lacking_34 rfl ?_
    refine zw_ishr dX9_lacking_36 ?_
    refine zw_iconst dX9_lacking_37 1 (by decide) ?_
    refine zw_iand dX9_lacking_38 ?_
    refine zw_top (bit_t s hs b (by omega)) ?_
    refine zw_iconst dX9_lacking_39 1 (by decide) ?_
    by_cases e : s.testBit b = true
    · rw [if_pos e] at hE ⊢
      refine zw_icmp_ne 53 dX9_lacking_40 (by decide) (fun hz => absurd (rfl) hz) (fun _ => ?_)
      refine zw_aload_n dX9_lacking_43 rfl ?_
      refine zw_get dX9_lacking_44 fX9_27 h.1 rfl ?_
      refine zw_iload dX9_lacking_47 rfl ?_
      refine zw_iald dX9_lacking_49 h.q5 (vp_in_nI (n := b) (N := 7) (by omega) (by decide)) ?_
      rw [nI_clamp (by omega), hg b (by omega)]
      refine zw_goto 54 dX9_lacking_50 (by decide) ?_
      refine zw_ior dX9_lacking_54 ?_
      refine zw_top (or_I a ha _ (hgl b (by omega))) ?_
      refine zw_istore [_, _, _, _, _, _] dX9_lacking_55 (Nat.le_of_ble_eq_true rfl) rfl ?_
      refine zw_iinc (nI (b + 1)) [_, _, _, _, _, _] dX9_lacking_57 rfl (nI_1 b) rfl ?_
      refine zw_goto 24 dX9_lacking_60 (by decide) ?_
      exact ih (b + 1) _ (by omega) (or_lt ha (hgl b (by omega))) hE
    · rw [if_neg e] at hE ⊢
      refine zw_icmp_ne 53 dX9_lacking_40 (by decide) (fun _ => ?_) (fun hz => absurd hz (by decide))
      refine zw_iconst dX9_lacking_53 0 (by decide) ?_
      refine zw_ior dX9_lacking_54 ?_
      refine zw_top (y := nI (a ||| 0)) (or_I a ha 0 (by decide)) ?_
      refine zw_istore [_, _, _, _, _, _] dX9_lacking_55 (Nat.le_of_ble_eq_true rfl) rfl ?_
      refine zw_iinc (nI (b + 1)) [_, _, _, _, _, _] dX9_lacking_57 rfl (nI_1 b) rfl ?_
      refine zw_goto 24 dX9_lacking_60 (by decide) ?_
      exact ih (b + 1) _ (by omega) (or_lt ha (by decide)) hE
theorem m_laL {g : Nat → Nat} {n : Nat} (hb : I 0 = nI 0) (hn : A 0 0 = nI n) (hn7 : n ≤ 7) (hg : ∀ r, r < 7 → A 5 r = nI (g r)) (hgl : ∀ r, r < 7 → g r < 128) (h : isM w A I ab be) : ∀ (k i fo : Nat) (la : Int32) (o4 o5 : Option Value), i + k = 2 ^ n → fo < 128 → Q (some (.int (nI (laF g i k fo la)))) w → Zw (d + 3) mX9_lacking z0 10 [some (.ref 74), some (.int (nI fo)), some (.int la), some (.int (nI i)), o4, o5] [] w Q := by
  have pn := pow_c hn7
  have pn0 : 0 < 2 ^ n := Nat.two_pow_pos n
  intro k
  induction k with
  | zero =>
    intro i fo la o4 o5 hi hfo kk
    refine zw_iload_n dX9_lacking_10 rfl ?_
    refine zw_aload_n dX9_lacking_11 rfl ?_
    refine zw_cV0 dX9_lacking_12 oX9_boxes kX9_boxes lX9_175 h.1 rfl (Nat.le_of_ble_eq_true rfl) rfl (m_boxes h hb hn hn7 ?_)
    show Zw _ _ _ 15 [_, _, _, _, _, _] [_, _] _ _
    refine zw_icmp_gt 114 dX9_lacking_15 (by decide) (fun _ => ?_) (fun hz => absurd (nI_lt (by omega) (by omega)) hz)
    refine zw_iload_n dX9_lacking_114 rfl ?_
    refine zw_ireturn .int dX9_lacking_115 rfl rfl (Nat.le_refl _) (Nat.le_refl _) ?_
    exact kk
  | succ k ih =>
    intro i fo la o4 o5 hi hfo kk
    have hi7 : i < 128 := by omega
    have hany := anyF_lt (s := i) 7 0 0 (by omega) hgl (by decide)
    unfold laF at kk
    refine zw_iload_n dX9_lacking_10 rfl ?_
    refine zw_aload_n dX9_lacking_11 rfl ?_
    refine zw_cV0 dX9_lacking_12 oX9_boxes kX9_boxes lX9_175 h.1 rfl (Nat.le_of_ble_eq_true rfl) rfl (m_boxes h hb hn hn7 ?_)
    show Zw _ _ _ 15 [_, _, _, _, _, _] [_, _] _ _
    refine zw_icmp_gt 114 dX9_lacking_15 (by decide) (fun hz => absurd hz (nI_nlt (by omega) (by omega))) (fun _ => ?_)
    refine zw_iconst dX9_lacking_18 0 (by decide) ?_
    refine zw_istore [_, _, _, _, _, _] dX9_lacking_19 (Nat.le_of_ble_eq_true rfl) rfl ?_
    refine zw_iconst dX9_lacking_21 0 (by decide) ?_
    refine zw_istore [_, _, _, _, _, _] dX9_lacking_22 (Nat.le_of_ble_eq_true rfl) rfl ?_
    refine m_laI hi7 hg hgl h (fun o5 => ?_) 7 0 0 (by omega) (by decide) rfl
    refine zw_iload_n dX9_lacking_63 rfl ?_
    refine zw_cS1 dX9_lacking_64 oX9_manyOf kX9_manyOf lX9_184 (Nat.le_of_ble_eq_true rfl) rfl (m_manyOf hi7 ?_)
    show Zw _ _ _ 67 [_, _, _, _, _, _] [_] _ _
    refine zw_top (mMany_pop i hi7) ?_
    refine zw_iload dX9_lacking_67 rfl ?_
    refine zw_cS1 dX9_lacking_69 oX9_manyOf kX9_manyOf lX9_184 (Nat.le_of_ble_eq_true rfl) rfl (m_manyOf hany ?_)
    show Zw _ _ _ 72 [_, _, _, _, _, _] [_, _] _ _
    refine zw_top (mMany_pop _ hany) ?_
    refine zw_isub dX9_lacking_72 ?_
    refine zw_top (y := laN g i) rfl ?_
    have yes : (la < laN g i ∨ (laN g i = la ∧ 0 < laN g i ∧ nI (pop7 i) < nI (pop7 fo))) → Zw (d + 3) mX9_lacking z0 103 [some (.ref 74), some (.int (nI fo)), some (.int la), some (.int (nI i)), some (.int (nI (anyF g i 0 7 0))), some (.int (laN g i))] [] w Q := by
      intro hq
      rw [if_pos hq] at kk
      refine zw_iload_n dX9_lacking_103 rfl ?_
      refine zw_istore_n [_, _, _, _, _, _] dX9_lacking_104 (Nat.le_of_ble_eq_true rfl) rfl ?_
      refine zw_iload dX9_lacking_105 rfl ?_
      refine zw_istore_n [_, _, _, _, _, _] dX9_lacking_107 (Nat.le_of_ble_eq_true rfl) rfl ?_
      refine zw_iinc (nI (i + 1)) [_, _, _, _, _, _] dX9_lacking_108 rfl (nI_1 i) rfl ?_
      refine zw_goto 10 dX9_lacking_111 (by decide) ?_
      exact ih (i + 1) i _ _ _ (by omega) hi7 kk
    have no : ¬ (la < laN g i ∨ (laN g i = la ∧ 0 < laN g i ∧ nI (pop7 i) < nI (pop7 fo))) → Zw (d + 3) mX9_lacking z0 108 [some (.ref 74), some (.int (nI fo)), some (.int la), some (.int (nI i)), some (.int (nI (anyF g i 0 7 0))), some (.int (laN g i))] [] w Q := by
      intro hq
      rw [if_neg hq] at kk
      refine zw_iinc (nI (i + 1)) [_, _, _, _, _, _] dX9_lacking_108 rfl (nI_1 i) rfl ?_
      refine zw_goto 10 dX9_lacking_111 (by decide) ?_
      exact ih (i + 1) fo _ _ _ (by omega) hfo kk
    refine zw_istore [_, _, _, _, _, _] dX9_lacking_73 (Nat.le_of_ble_eq_true rfl) rfl ?_
    refine zw_iload dX9_lacking_75 rfl ?_
    refine zw_iload_n dX9_lacking_77 rfl ?_
    by_cases e1 : la < laN g i
    · refine zw_icmp_gt 103 dX9_lacking_78 (by decide) (fun _ => ?_) (fun hz => absurd (e1) hz)
      exact yes (Or.inl e1)
    · refine zw_icmp_gt 103 dX9_lacking_78 (by decide) (fun hz => absurd hz (e1)) (fun _ => ?_)
      refine zw_iload dX9_lacking_81 rfl ?_
      refine zw_iload_n dX9_lacking_83 rfl ?_
      by_cases e2 : laN g i = la
      · refine zw_icmp_ne 108 dX9_lacking_84 (by decide) (fun hz => absurd (e2) hz) (fun _ => ?_)
        refine zw_iload dX9_lacking_87 rfl ?_
        by_cases e3 : 0 < laN g i
        · refine zw_if_le 108 dX9_lacking_89 (by decide) (fun hz => absurd hz (Int32.not_le.mpr e3)) (fun _ => ?_)
          refine zw_iload_n dX9_lacking_92 rfl ?_
          refine zw_cS1 dX9_lacking_93 oX9_manyOf kX9_manyOf lX9_184 (Nat.le_of_ble_eq_true rfl) rfl (m_manyOf hi7 ?_)
          show Zw _ _ _ 96 [_, _, _, _, _, _] [_] _ _
          refine zw_top (mMany_pop i hi7) ?_
          refine zw_iload_n dX9_lacking_96 rfl ?_
          refine zw_cS1 dX9_lacking_97 oX9_manyOf kX9_manyOf lX9_184 (Nat.le_of_ble_eq_true rfl) rfl (m_manyOf hfo ?_)
          show Zw _ _ _ 100 [_, _, _, _, _, _] [_, _] _ _
          refine zw_top (mMany_pop fo hfo) ?_
          by_cases e4 : nI (pop7 i) < nI (pop7 fo)
          · refine zw_icmp_ge 108 dX9_lacking_100 (by decide) (fun hz => absurd hz (Int32.not_le.mpr e4)) (fun _ => ?_)
            exact yes (Or.inr ⟨e2, e3, e4⟩)
          · refine zw_icmp_ge 108 dX9_lacking_100 (by decide) (fun _ => ?_) (fun hz => absurd (Int32.not_lt.mp e4) hz)
            exact no (fun z => by rcases z with z | z; exact e1 z; exact e4 z.2.2)
        · refine zw_if_le 108 dX9_lacking_89 (by decide) (fun _ => ?_) (fun hz => absurd (Int32.not_lt.mp e3) hz)
          exact no (fun z => by rcases z with z | z; exact e1 z; exact e3 z.2.1)
      · refine zw_icmp_ne 108 dX9_lacking_84 (by decide) (fun _ => ?_) (fun hz => absurd hz (e2))
        exact no (fun z => by rcases z with z | z; exact e1 z; exact e2 z.1)
theorem m_lacking {n l : Nat} (h : isM w A I ab be) (hb : I 0 = nI 0) (hn : A 0 0 = nI n) (hn7 : n ≤ 7) (hl : A 0 (0 + 1) = nI l) (hl7 : l ≤ 7) (hk : ∀ i, i < l → ∃ j, j < 6 ∧ mLd A 0 i 0 = nI j) (k : ∀ w' B, mS 4 A B → isM w' B I ab be → zOff 74 89 w w' → Q (some (.int (nI (laF (mG A n l) 1 (2 ^ n - 1) 0 0)))) w') : Zm (d + 6) mX9_lacking 0 0 [.ref 74] w Q := by
  have pn0 : 0 < 2 ^ n := Nat.two_pow_pos n
  refine zm_intro [_, _, _, _, _, _] oX9_lacking (Nat.le_of_ble_eq_true rfl) rfl ?_
  refine zw_aload_n dX9_lacking_0 rfl ?_
  refine zw_cV0 dX9_lacking_1 oX9_findFits kX9_findFits lX9_172 h.1 rfl (Nat.le_of_ble_eq_true rfl) rfl (m_findFits h hb hn hn7 hl hl7 hk (fun w1 f hf h1 o1 => ?_))
  show Zw _ _ _ 4 [_, _, _, _, _, _] [] _ _
  refine zw_iconst dX9_lacking_4 0 (by decide) ?_
  refine zw_istore_n [_, _, _, _, _, _] dX9_lacking_5 (Nat.le_of_ble_eq_true rfl) rfl ?_
  refine zw_iconst dX9_lacking_6 0 (by decide) ?_
  refine zw_istore_n [_, _, _, _, _, _] dX9_lacking_7 (Nat.le_of_ble_eq_true rfl) rfl ?_
  refine zw_iconst dX9_lacking_8 1 (by decide) ?_
  refine zw_istore_n [_, _, _, _, _, _] dX9_lacking_9 (Nat.le_of_ble_eq_true rfl) rfl ?_
  exact m_laL (A := va_up A 5 f) (g := mG A n l) hb hn hn7 hf (fun r _ => mG_lt hl7) h1 (2 ^ n - 1) 1 0 0 _ _ (by omega) (by decide) (k w1 _ (mS.up (by decide)) h1 o1)
end ZMOD19
