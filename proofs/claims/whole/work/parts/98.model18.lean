/-! ===== the Model: what is covered, soup, much, worth, spare, lacking ===== -/
theorem mSum_0 {A B : Nat → Nat → Int32} {s c : Nat} (e : B 0 = A 0) : ∀ (k i : Nat) (a : Int32), mSum B s c i k a = mSum A s c i k a := by
  intro k
  induction k with
  | zero => intro i a; rfl
  | succ k ih =>
    intro i a
    unfold mSum
    rw [ih]
    unfold mB
    rw [e]
section ZMOD18
variable {d : Nat} {w w' : ZW} {A : Nat → Nat → Int32} {I : Nat → Int32} {ab be : Int64} {Q : Option Value → ZW → Prop}
theorem m_isCovered {g : Nat → Nat} {s cols : Nat} (hs : s < 128) (hc : cols < 128) (hg : ∀ r, r < 7 → A 5 r = nI (g r)) (hgl : ∀ r, r < 7 → g r < 128) (h : isM w A I ab be) (k : ∀ w' f, isM w' (va_up A 6 f) I ab be → zOff 74 89 w w' → Q (some (.int (bI (covB g s cols)))) w') : Zm (d + 1) mX9_isCovered 0 0 [.ref 74, .int (nI s), .int (nI cols)] w Q := by
  have hp := pop_le s hs
  have hm := mostN_le (g := g) (r := s) (c := cols)
  unfold covB at k
  refine zm_intro [_, _, _] oX9_isCovered (Nat.le_of_ble_eq_true rfl) rfl ?_
  refine zw_aload_n dX9_isCovered_0 rfl ?_
  refine zw_iload_n dX9_isCovered_1 rfl ?_
  refine zw_iload_n dX9_isCovered_2 rfl ?_
  refine zw_cV2 dX9_isCovered_3 oX9_mostOf kX9_mostOf lX9_169 h.1 rfl (Nat.le_of_ble_eq_true rfl) rfl (m_mostOf (g := g) hs hc hg hgl h (fun w1 f h1 o1 => ?_))
  show Zw _ _ _ 6 [_, _, _] [_] _ _
  refine zw_iload_n dX9_isCovered_6 rfl ?_
  refine zw_cS1 dX9_isCovered_7 oX9_manyOf kX9_manyOf lX9_184 (Nat.le_of_ble_eq_true rfl) rfl (m_manyOf hs ?_)
  show Zw _ _ _ 10 [_, _, _] [_, _] _ _
  refine zw_top (mMany_pop s hs) ?_
  by_cases e : mostN g s cols = pop7 s
  · have e' : nI (mostN g s cols) = nI (pop7 s) := by rw [e]
    have kk := k w1 f h1 o1
    rw [decide_eq_true e] at kk
    refine zw_icmp_ne 17 dX9_isCovered_10 (by decide) (fun hz => absurd (e') hz) (fun _ => ?_)
    refine zw_iconst dX9_isCovered_13 1 (by decide) ?_
    refine zw_goto 18 dX9_isCovered_14 (by decide) ?_
    refine zw_ireturn .boolean dX9_isCovered_18 rfl rfl (Nat.le_refl _) (Nat.le_refl _) ?_
    exact kk
  · have e' : ¬ nI (mostN g s cols) = nI (pop7 s) := fun z => e ((nI_eq (by omega) (by omega)).mp z)
    have kk := k w1 f h1 o1
    rw [decide_eq_false e] at kk
    refine zw_icmp_ne 17 dX9_isCovered_10 (by decide) (fun _ => ?_) (fun hz => absurd hz (e'))
    refine zw_iconst dX9_isCovered_17 0 (by decide) ?_
    refine zw_ireturn .boolean dX9_isCovered_18 rfl rfl (Nat.le_refl _) (Nat.le_refl _) ?_
    exact kk
theorem m_soL {g : Nat → Nat} {n l : Nat} {x y : Int32} {w0 : ZW} {V : Int32} (hb : I 0 = nI 0) (hn : A 0 0 = nI n) (hn7 : n ≤ 7) (hl : A 0 (0 + 1) = nI l) (hl7 : l ≤ 7) (hg : ∀ r, r < 7 → A 5 r = nI (g r)) (hgl : ∀ r, r < 7 → g r < 128) (hK : ∀ w f o4 o5, (V = -1 ∨ ∃ s, s < 128 ∧ V = nI s) → isM w (va_up A 6 f) I ab be → zOff 74 89 w0 w → Zw (d + 3) mX9_soup z0 112 [some (.ref 74), some (.int x), some (.int y), some (.int V), o4, o5] [] w Q) : ∀ (k i : Nat) (fo : Int32) (f : Nat → Int32) (w : ZW) (o5 : Option Value), i + k = 2 ^ n → (fo = -1 ∨ ∃ s, s < 128 ∧ fo = nI s) → soF A g n (2 ^ l - 1) x i k fo = V → isM w (va_up A 6 f) I ab be → zOff 74 89 w0 w → Zw (d + 3) mX9_soup z0 33 [some (.ref 74), some (.int x), some (.int y), some (.int fo), some (.int (nI i)), o5] [] w Q := by
  have pn := pow_c hn7
  have pl := pow_c hl7
  have pn0 : 0 < 2 ^ n := Nat.two_pow_pos n
  have pl0 : 0 < 2 ^ l := Nat.two_pow_pos l
  intro k
  induction k with
  | zero =>
    intro i fo f w o5 hi hfo hE h ho
    have hE : fo = V := hE
    subst hE
    refine zw_iload dX9_soup_33 rfl ?_
    refine zw_aload_n dX9_soup_35 rfl ?_
    refine zw_cV0 dX9_soup_36 oX9_boxes kX9_boxes lX9_175 h.1 rfl (Nat.le_of_ble_eq_true rfl) rfl (m_boxes h hb hn hn7 ?_)
    show Zw _ _ _ 39 [_, _, _, _, _, _] [_, _] _ _
    refine zw_icmp_gt 112 dX9_soup_39 (by decide) (fun _ => ?_) (fun hz => absurd (nI_lt (by omega) (by omega)) hz)
    exact hK w f _ _ hfo h ho
  | succ k ih =>
    intro i fo f w o5 hi hfo hE h ho
    have hi7 : i < 128 := by omega
    unfold soF at hE
    have keep : ∀ (w : ZW) f o5, ¬ ((x ≤ mSum A i 2 0 n 0 ∧ (fo = -1 ∨ mSum A i 1 0 n 0 < mSum A fo.toNatClampNeg 1 0 n 0)) ∧ covB g i (2 ^ l - 1) = true) → isM w (va_up A 6 f) I ab be → zOff 74 89 w0 w → Zw (d + 3) mX9_soup z0 104 [some (.ref 74), some (.int x), some (.int y), some (.int fo), some (.int (nI i)), o5] [] w Q := by
      intro w f o5 hq h ho
      rw [if_neg hq] at hE
      refine zw_iload_n dX9_soup_104 rfl ?_
      refine zw_istore_n [_, _, _, _, _, _] dX9_soup_105 (Nat.le_of_ble_eq_true rfl) rfl ?_
      refine zw_iinc (nI (i + 1)) [_, _, _, _, _, _] dX9_soup_106 rfl (nI_1 i) rfl ?_
      refine zw_goto 33 dX9_soup_109 (by decide) ?_
      exact ih (i + 1) fo f w _ (by omega) hfo hE h ho
    have yes : (x ≤ mSum A i 2 0 n 0 ∧ (fo = -1 ∨ mSum A i 1 0 n 0 < mSum A fo.toNatClampNeg 1 0 n 0)) → ∀ (w : ZW) f o5, isM w (va_up A 6 f) I ab be → zOff 74 89 w0 w → Zw (d + 3) mX9_soup z0 74 [some (.ref 74), some (.int x), some (.int y), some (.int fo), some (.int (nI i)), o5] [] w Q := by
      intro hq w f o5 h ho
      refine zw_iconst dX9_soup_74 1 (by decide) ?_
      refine zw_goto 79 dX9_soup_75 (by decide) ?_
      refine zw_istore [_, _, _, _, _, _] dX9_soup_79 (Nat.le_of_ble_eq_true rfl) rfl ?_
      refine zw_iload dX9_soup_81 rfl ?_
      refine zw_if_eq 104 dX9_soup_83 (by decide) (fun hz => absurd hz (by decide)) (fun _ => ?_)
      refine zw_aload_n dX9_soup_86 rfl ?_
      refine zw_iload dX9_soup_87 rfl ?_
      refine zw_aload_n dX9_soup_89 rfl ?_
      refine zw_cV0 dX9_soup_90 oX9_lids kX9_lids lX9_178 h.1 rfl (Nat.le_of_ble_eq_true rfl) rfl (m_lids h hb hl hl7 ?_)
      show Zw _ _ _ 93 [_, _, _, _, _, _] [_, _, _] _ _
      refine zw_cV2 dX9_soup_93 oX9_isCovered kX9_isCovered lX9_190 h.1 rfl (Nat.le_of_ble_eq_true rfl) rfl (m_isCovered (A := va_up A 6 f) (g := g) hi7 (by omega) hg hgl h (fun w1 f1 h1 o1 => ?_))
      show Zw _ _ _ 96 [_, _, _, _, _, _] [_] _ _
      rw [va_uu] at h1
      by_cases e : covB g i (2 ^ l - 1) = true
      · rw [if_pos ⟨hq, e⟩] at hE
        rw [e]
        refine zw_if_eq 104 dX9_soup_96 (by decide) (fun hz => absurd hz (by decide)) (fun _ => ?_)
        refine zw_iload dX9_soup_99 rfl ?_
        refine zw_goto 105 dX9_soup_101 (by decide) ?_
        refine zw_istore_n [_, _, _, _, _, _] dX9_soup_105 (Nat.le_of_ble_eq_true rfl) rfl ?_
        refine zw_iinc (nI (i + 1)) [_, _, _, _, _, _] dX9_soup_106 rfl (nI_1 i) rfl ?_
        refine zw_goto 33 dX9_soup_109 (by decide) ?_
        exact ih (i + 1) _ f1 w1 _ (by omega) (Or.inr ⟨i, hi7, rfl⟩) hE h1 (ho.tr o1)
      · have e' : covB g i (2 ^ l - 1) = false := by simpa using e
        rw [e']
        refine zw_if_eq 104 dX9_soup_96 (by decide) (fun _ => ?_) (fun hz => absurd (by decide) hz)
        exact keep w1 f1 _ (fun z => e z.2) h1 (ho.tr o1)
    have no : ¬ (x ≤ mSum A i 2 0 n 0 ∧ (fo = -1 ∨ mSum A i 1 0 n 0 < mSum A fo.toNatClampNeg 1 0 n 0)) → Zw (d + 3) mX9_soup z0 78 [some (.ref 74), some (.int x), some (.int y), some (.int fo), some (.int (nI i)), o5] [] w Q := by
      intro hq
      refine zw_iconst dX9_soup_78 0 (by decide) ?_
      refine zw_istore [_, _, _, _, _, _] dX9_soup_79 (Nat.le_of_ble_eq_true rfl) rfl ?_
      refine zw_iload dX9_soup_81 rfl ?_
      refine zw_if_eq 104 dX9_soup_83 (by decide) (fun _ => ?_) (fun hz => absurd (by decide) hz)
      exact keep w f _ (fun z => hq z.1) h ho
    refine zw_iload dX9_soup_33 rfl ?_
    refine zw_aload_n dX9_soup_35 rfl ?_
    refine zw_cV0 dX9_soup_36 oX9_boxes kX9_boxes lX9_175 h.1 rfl (Nat.le_of_ble_eq_true rfl) rfl (m_boxes h hb hn hn7 ?_)
    show Zw _ _ _ 39 [_, _, _, _, _, _] [_, _] _ _
    refine zw_icmp_gt 112 dX9_soup_39 (by decide) (fun hz => absurd hz (nI_nlt (by omega) (by omega))) (fun _ => ?_)
    refine zw_aload_n dX9_soup_42 rfl ?_
    refine zw_iload dX9_soup_43 rfl ?_
    refine zw_iconst dX9_soup_45 2 (by decide) ?_
    refine zw_cV2 dX9_soup_46 oX9_sumOf kX9_sumOf lX9_187 h.1 rfl (Nat.le_of_ble_eq_true rfl) rfl (m_sumOf (s := i) (c := 2) h hb hn hn7 hi7 (by decide) ?_)
    show Zw _ _ _ 49 [_, _, _, _, _, _] [_] _ _
    rw [mSum_0 (A := A) (B := va_up A 6 f) rfl]
    refine zw_iload_n dX9_soup_49 rfl ?_
    by_cases e1 : x ≤ mSum A i 2 0 n 0
    · refine zw_icmp_lt 78 dX9_soup_50 (by decide) (fun hz => absurd hz (Int32.not_lt.mpr e1)) (fun _ => ?_)
      refine zw_iload_n dX9_soup_53 rfl ?_
      refine zw_iconst dX9_soup_54 (-1) (by decide) ?_
      by_cases e2 : fo = -1
      · refine zw_icmp_eq 74 dX9_soup_55 (by decide) (fun _ => ?_) (fun hz => absurd (e2) hz)
        exact yes ⟨e1, Or.inl e2⟩ w f _ h ho
      · obtain ⟨s, hs, es⟩ := hfo.resolve_left e2
        refine zw_icmp_eq 74 dX9_soup_55 (by decide) (fun hz => absurd hz (e2)) (fun _ => ?_)
        refine zw_aload_n dX9_soup_58 rfl ?_
        refine zw_iload dX9_soup_59 rfl ?_
        refine zw_iconst dX9_soup_61 1 (by decide) ?_
        refine zw_cV2 dX9_soup_62 oX9_sumOf kX9_sumOf lX9_187 h.1 rfl (Nat.le_of_ble_eq_true rfl) rfl (m_sumOf (s := i) (c := 1) h hb hn hn7 hi7 (by decide) ?_)
        show Zw _ _ _ 65 [_, _, _, _, _, _] [_] _ _
        rw [mSum_0 (A := A) (B := va_up A 6 f) rfl]
        refine zw_aload_n dX9_soup_65 rfl ?_
        refine zw_iload_n dX9_soup_66 rfl ?_
        refine zw_iconst dX9_soup_67 1 (by decide) ?_
        refine zw_top (y := 1) rfl ?_
        have ec : mSum A fo.toNatClampNeg 1 0 n 0 = mSum A s 1 0 n 0 := by rw [es, nI_clamp (by omega)]
        rw [show (Value.int fo) = Value.int (nI s) from congrArg Value.int es]
        refine zw_cV2 dX9_soup_68 oX9_sumOf kX9_sumOf lX9_187 h.1 rfl (Nat.le_of_ble_eq_true rfl) rfl (m_sumOf (s := s) (c := 1) h hb hn hn7 hs (by decide) ?_)
        show Zw _ _ _ 71 [_, _, _, _, _, _] [_, _] _ _
        rw [mSum_0 (A := A) (B := va_up A 6 f) rfl, ← es]
        by_cases e3 : mSum A i 1 0 n 0 < mSum A s 1 0 n 0
        · refine zw_icmp_ge 78 dX9_soup_71 (by decide) (fun hz => absurd hz (Int32.not_le.mpr e3)) (fun _ => ?_)
          exact yes ⟨e1, Or.inr (by rw [ec]; exact e3)⟩ w f _ h ho
        · refine zw_icmp_ge 78 dX9_soup_71 (by decide) (fun _ => ?_) (fun hz => absurd (Int32.not_lt.mp e3) hz)
          exact no (fun z => by rcases z.2 with q | q; exact e2 q; rw [ec] at q; exact e3 q)
    · refine zw_icmp_lt 78 dX9_soup_50 (by decide) (fun _ => ?_) (fun hz => absurd (Int32.not_le.mp e1) hz)
      exact no (fun z => e1 z.1)
theorem m_soup {n l : Nat} {x y : Int32} (h : isM w A I ab be) (hb : I 0 = nI 0) (hn : A 0 0 = nI n) (hn7 : n ≤ 7) (hl : A 0 (0 + 1) = nI l) (hl7 : l ≤ 7) (hk : ∀ i, i < l → ∃ j, j < 6 ∧ mLd A 0 i 0 = nI j) (kB : ¬ ((0 ≤ x ∧ x ≤ 99) ∧ (0 ≤ y ∧ y ≤ 1)) → ∀ w', isM w' (toldI A 0 0) I ab be → zOff 74 89 w w' → Q (some (.int (-10))) w') (kA : (0 ≤ x ∧ x ≤ 99) → (0 ≤ y ∧ y ≤ 1) → ∀ w' B v, v = soF A (mG A n l) n (2 ^ l - 1) x 0 (2 ^ n) (-1) → mS 4 A B → isM w' B I ab be → zOff 74 89 w w' → (v = -1 ∨ y = 1 → Q (some (.int v)) w') ∧ (∀ s, s < 128 → v = nI s → ¬ y = 1 → Q (some (.int (mSum A s 1 0 n 0))) w')) : Zm (d + 6) mX9_soup 0 0 [.ref 74, .int x, .int y] w Q := by
  have bad : ¬ ((0 ≤ x ∧ x ≤ 99) ∧ (0 ≤ y ∧ y ≤ 1)) → Zw (d + 6) mX9_soup z0 19 [some (.ref 74), some (.int x), some (.int y), none, none, none] [] w Q := by
    intro q
    refine zw_aload_n dX9_soup_19 rfl ?_
    refine zw_cV0 dX9_soup_20 oX9_bad10 kX9_bad10 lX9_118 h.1 rfl (Nat.le_of_ble_eq_true rfl) rfl (m_bad10 hb (by decide) h (fun w1 h1 o1 => ?_))
    show Zw _ _ _ 23 [_, _, _, _, _, _] [_] _ _
    refine zw_ireturn .int dX9_soup_23 rfl rfl (Nat.le_refl _) (Nat.le_refl _) ?_
    exact kB q w1 h1 o1
  refine zm_intro [_, _, _, _, _, _] oX9_soup (Nat.le_of_ble_eq_true rfl) rfl ?_
  refine zw_iload_n dX9_soup_0 rfl ?_
  refine zw_iconst dX9_soup_1 0 (by decide) ?_
  refine zw_bipush dX9_soup_2 99 (by decide) ?_
  refine zw_cS3 dX9_soup_4 oX9_in kX9_in lX9_66 (Nat.le_of_ble_eq_true rfl) rfl (m_in (fun p1 p2 => ?_) (fun q => ?_))
  · show Zw _ _ _ 7 [_, _, _, _, _, _] [_] _ _
    refine zw_if_eq 19 dX9_soup_7 (by decide) (fun hz => absurd hz (by decide)) (fun _ => ?_)
    refine zw_iload_n dX9_soup_10 rfl ?_
    refine zw_iconst dX9_soup_11 0 (by decide) ?_
    refine zw_iconst dX9_soup_12 1 (by decide) ?_
    refine zw_cS3 dX9_soup_13 oX9_in kX9_in lX9_66 (Nat.le_of_ble_eq_true rfl) rfl (m_in (fun p3 p4 => ?_) (fun q => ?_))
    · show Zw _ _ _ 16 [_, _, _, _, _, _] [_] _ _
      refine zw_if_ne 24 dX9_soup_16 (by decide) (fun _ => ?_) (fun hz => absurd hz (by decide))
      refine zw_aload_n dX9_soup_24 rfl ?_
      refine zw_cV0 dX9_soup_25 oX9_findFits kX9_findFits lX9_172 h.1 rfl (Nat.le_of_ble_eq_true rfl) rfl (m_findFits h hb hn hn7 hl hl7 hk (fun w1 f hf h1 o1 => ?_))
      show Zw _ _ _ 28 [_, _, _, _, _, _] [] _ _
      refine zw_iconst dX9_soup_28 (-1) (by decide) ?_
      refine zw_istore_n [_, _, _, _, _, _] dX9_soup_29 (Nat.le_of_ble_eq_true rfl) rfl ?_
      refine zw_iconst dX9_soup_30 0 (by decide) ?_
      refine zw_istore [_, _, _, _, _, _] dX9_soup_31 (Nat.le_of_ble_eq_true rfl) rfl ?_
      refine m_soL (A := va_up A 5 f) (g := mG A n l) (w0 := w) (V := soF A (mG A n l) n (2 ^ l - 1) x 0 (2 ^ n) (-1)) hb hn hn7 hl hl7 hf (fun r _ => mG_lt hl7) (fun w2 f2 o4 o5 hV h2 o2 => ?_) (2 ^ n) 0 (-1) _ w1 _ (by omega) (Or.inl rfl) ?_ (h1.sf 6) o1
      · have hS4 : mS 4 A (va_up (va_up A 5 f) 6 f2) := (mS.up (by decide)).tr (mS.up (by decide))
        obtain ⟨ka, kb⟩ := kA ⟨p1, p2⟩ ⟨p3, p4⟩ w2 _ _ rfl hS4 h2 o2
        generalize soF A (mG A n l) n (2 ^ l - 1) x 0 (2 ^ n) (-1) = v at hV ka kb ⊢
        refine zw_iload_n dX9_soup_112 rfl ?_
        refine zw_iconst dX9_soup_113 (-1) (by decide) ?_
        by_cases e1 : v = -1
        · refine zw_icmp_eq 122 dX9_soup_114 (by decide) (fun _ => ?_) (fun hz => absurd (e1) hz)
          refine zw_iload_n dX9_soup_122 rfl ?_
          refine zw_goto 132 dX9_soup_123 (by decide) ?_
          refine zw_ireturn .int dX9_soup_132 rfl rfl (Nat.le_refl _) (Nat.le_refl _) ?_
          exact ka (Or.inl e1)
        · obtain ⟨s, hs, es⟩ := hV.resolve_left e1
          refine zw_icmp_eq 122 dX9_soup_114 (by decide) (fun hz => absurd hz (e1)) (fun _ => ?_)
          refine zw_iload_n dX9_soup_117 rfl ?_
          refine zw_iconst dX9_soup_118 1 (by decide) ?_
          by_cases e2 : y = 1
          · refine zw_icmp_ne 126 dX9_soup_119 (by decide) (fun hz => absurd (e2) hz) (fun _ => ?_)
            refine zw_iload_n dX9_soup_122 rfl ?_
            refine zw_goto 132 dX9_soup_123 (by decide) ?_
            refine zw_ireturn .int dX9_soup_132 rfl rfl (Nat.le_refl _) (Nat.le_refl _) ?_
            exact ka (Or.inr e2)
          · have kk := kb s hs es e2
            subst es
            refine zw_icmp_ne 126 dX9_soup_119 (by decide) (fun _ => ?_) (fun hz => absurd hz (e2))
            refine zw_aload_n dX9_soup_126 rfl ?_
            refine zw_iload_n dX9_soup_127 rfl ?_
            refine zw_iconst dX9_soup_128 1 (by decide) ?_
            refine zw_cV2 dX9_soup_129 oX9_sumOf kX9_sumOf lX9_187 h2.1 rfl (Nat.le_of_ble_eq_true rfl) rfl (m_sumOf (s := s) (c := 1) h2 hb hn hn7 hs (by decide) ?_)
            show Zw _ _ _ 132 [_, _, _, _, _, _] [_] _ _
            rw [mSum_0 (A := A) (B := va_up (va_up A 5 f) 6 f2) rfl]
            refine zw_ireturn .int dX9_soup_132 rfl rfl (Nat.le_refl _) (Nat.le_refl _) ?_
            exact kk
      · have : ∀ (k i : Nat) (fo : Int32), soF (va_up A 5 f) (mG A n l) n (2 ^ l - 1) x i k fo = soF A (mG A n l) n (2 ^ l - 1) x i k fo := by
          intro k
          induction k with
          | zero => intro i fo; rfl
          | succ k ih =>
            intro i fo
            unfold soF
            rw [ih, mSum_0 (A := A) (B := va_up A 5 f) (s := i) (c := 2) rfl, mSum_0 (A := A) (B := va_up A 5 f) (s := i) (c := 1) rfl, mSum_0 (A := A) (B := va_up A 5 f) (s := fo.toNatClampNeg) (c := 1) rfl]
        exact this _ _ _
    · show Zw _ _ _ 16 [_, _, _, _, _, _] [_] _ _
      refine zw_if_ne 24 dX9_soup_16 (by decide) (fun hz => absurd (by decide) hz) (fun _ => ?_)
      exact bad (fun z => q z.2)
  · show Zw _ _ _ 7 [_, _, _, _, _, _] [_] _ _
    refine zw_if_eq 19 dX9_soup_7 (by decide) (fun _ => ?_) (fun hz => absurd (by decide) hz)
    exact bad (fun z => q z.1)
end ZMOD18
