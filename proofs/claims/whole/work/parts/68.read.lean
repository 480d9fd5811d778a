/-! ===== LidForEach: read ===== -/
/-- what an item with word wd and numbers nm does to a cupboard: answer v, then C' -/
def telR (C : Cup) (wd : Nat) (nm : Nat → Int32) (v : Int32) (C' : Cup) : Prop :=
  (wd = 0 ∧ ((¬ okBox (nm 0) (nm 1) (nm 2) ∧ v = -2 ∧ C' = C) ∨ (okBox (nm 0) (nm 1) (nm 2) ∧ (C 0).1 = 7 ∧ v = -4 ∧ C' = C) ∨ (okBox (nm 0) (nm 1) (nm 2) ∧ (C 0).1 < 7 ∧ v = nI (C 0).1 ∧ C' = va_up (va_up C 0 ((C 0).1 + 1, row5 (C 0).2 (C 0).1 (nm 0) (nm 1) (nm 2) 1 (-1))) 5 (0, (C 5).2))))
  ∨ (wd = 1 ∧ ((¬ okLid (nm 0) (nm 1) (nm 2) ∧ v = -2 ∧ C' = C) ∨ (okLid (nm 0) (nm 1) (nm 2) ∧ (C 1).1 = 7 ∧ v = -4 ∧ C' = C) ∨ (okLid (nm 0) (nm 1) (nm 2) ∧ (C 1).1 < 7 ∧ v = nI (C 1).1 ∧ C' = va_up (va_up C 1 ((C 1).1 + 1, row4 (C 1).2 (C 1).1 (nm 0) (nm 1) (nm 2) 5)) 5 (0, (C 5).2))))
  ∨ (wd = 2 ∧ ((((∀ r, r < (C 1).1 → ¬ nm 0 = nI r) ∨ ∀ r, r < (C 0).1 → ¬ nm 1 = nI r) ∧ v = -2 ∧ C' = C) ∨ (∃ l b, l < (C 1).1 ∧ b < (C 0).1 ∧ nm 0 = nI l ∧ nm 1 = nI b ∧ ¬ (cFit C l b = true ∧ onBox C (nI l) = -1 ∧ (C 0).2 (b * 5 + 4) = -1) ∧ v = -3 ∧ C' = C) ∨ (∃ l b q', l < (C 1).1 ∧ b < (C 0).1 ∧ nm 0 = nI l ∧ nm 1 = nI b ∧ cFit C l b = true ∧ onBox C (nI l) = -1 ∧ (C 0).2 (b * 5 + 4) = -1 ∧ v = 1 ∧ deeds (C 5) q' ∧ C' = va_up (va_up C 0 ((C 0).1, upd (C 0).2 (b * 5 + 4) (nI l))) 5 (q'.1 + 1, row3 q'.2 q'.1 (nI l) (nI b) 1))))
  ∨ (wd = 3 ∧ ((((∀ r, r < (C 0).1 → ¬ nm 0 = nI r) ∨ ¬ (0 ≤ nm 1 ∧ nm 1 ≤ 9)) ∧ v = -2 ∧ C' = C) ∨ (∃ r, r < (C 0).1 ∧ nm 0 = nI r ∧ 0 ≤ nm 1 ∧ nm 1 ≤ 9 ∧ v = (C 0).2 (r * 5 + 3) ∧ C' = va_up C 0 ((C 0).1, upd (C 0).2 (r * 5 + 3) (nm 1)))))
  ∨ (wd = 4 ∧ ((¬ okSort (nm 0) (nm 1) (nm 2) (nm 3) ∧ v = -2 ∧ C' = C) ∨ (okSort (nm 0) (nm 1) (nm 2) (nm 3) ∧ (C 2).1 = 4 ∧ v = -4 ∧ C' = C) ∨ (okSort (nm 0) (nm 1) (nm 2) (nm 3) ∧ (C 2).1 < 4 ∧ v = nI (C 2).1 ∧ C' = va_up C 2 ((C 2).1 + 1, row4 (C 2).2 (C 2).1 (nm 0) (nm 1) (nm 2) (nm 3)))))
theorem okK_add {q : Nat × (Nat → Int32)} {a b c e : Int32} (h : okK q) (ha : 0 ≤ a ∧ a ≤ 5) : okK (q.1 + 1, row4 q.2 q.1 a b c e) := by
  intro r hr
  have hr : r < q.1 + 1 := hr
  by_cases z : r = q.1
  · obtain ⟨j, hj, e⟩ := nI_of2 (M := 5) (n := 5) (by decide) (Int32.not_lt.mpr ha.1) ha.2
    refine ⟨j, by omega, ?_⟩
    subst z
    show row4 q.2 q.1 a b c _ (q.1 * 4) = _
    unfold row4 upd
    rw [if_neg (by omega), if_neg (by omega), if_neg (by omega), if_pos rfl]
    exact e
  · obtain ⟨j, hj, e⟩ := h r (by omega)
    refine ⟨j, hj, ?_⟩
    show row4 q.2 q.1 a b c _ (r * 4) = _
    unfold row4 upd
    rw [if_neg (by omega), if_neg (by omega), if_neg (by omega), if_neg (by omega)]
    exact e
theorem telR_okK {C C' : Cup} {wd : Nat} {nm : Nat → Int32} {v : Int32} (h : telR C wd nm v C') (hk : okK (C 1)) : okK (C' 1) := by
  rcases h with ⟨_, ⟨_, _, e⟩ | ⟨_, _, _, e⟩ | ⟨_, _, _, e⟩⟩ | ⟨_, ⟨_, _, e⟩ | ⟨_, _, _, e⟩ | ⟨z, _, _, e⟩⟩ | ⟨_, ⟨_, _, e⟩ | ⟨_, _, _, _, _, _, _, _, e⟩ | ⟨_, _, _, _, _, _, _, _, _, _, _, _, e⟩⟩ | ⟨_, ⟨_, _, e⟩ | ⟨_, _, _, _, _, _, e⟩⟩ | ⟨_, ⟨_, _, e⟩ | ⟨_, _, _, e⟩ | ⟨_, _, _, e⟩⟩ <;> subst e
  · exact hk
  · exact hk
  · exact hk
  · exact hk
  · exact hk
  · exact okK_add hk z.1
  · exact hk
  · exact hk
  · exact hk
  · exact hk
  · exact hk
  · exact hk
  · exact hk
  · exact hk
theorem fnd_lt {p : Nat → Bool} {n : Nat} (h : ¬ fnd p 0 n = -1) : ∃ j, j < n ∧ fnd p 0 n = nI j := by
  rcases fnd_cases p n 0 with ⟨e, _⟩ | ⟨j, _, h2, _, e, _⟩
  · exact absurd e h
  · exact ⟨j, by omega, e⟩
theorem tokS_wd {bt : Nat → Int32} {len e : Nat} {va : Int32} (h : (tokS bt len e va).2.2.1 = 0) : ∃ wd, wd < 5 ∧ (tokS bt len e va).2.2.2 = nI wd := by
  unfold tokS at *
  split at h
  · have h : (3 : Int32) = 0 := h
    exact absurd h (by decide)
  · rename_i q
    rw [if_neg q]
    dsimp only at *
    generalize endF (fun c => decide (c = 32)) bt e (len - e) = s at *
    split at h
    · rename_i q
      rw [if_pos q]
      dsimp only at *
      split at h
      · exact absurd h (by decide)
      · rename_i q
        exact fnd_lt q
    · split at h
      · dsimp only at h
        split at h <;> exact absurd h (by decide)
      · dsimp only at h
        split at h <;> exact absurd h (by decide)
/-- what reading comes to: with k items more at most, i read, rf the first refused, D the draft, s the token at hand and the numbers -/
def rdR (bt : Nat → Int32) (len : Nat) (k i : Nat) (rf : Int32) (D : Cup) (s : TSt) (r : Option Cup × Int32) : Prop := match k with
  | 0 => r = if rf = -1 then (some D, nI i) else (none, -1000 - rf)
  | k + 1 => (s.1.2.2.1 = 3 ∧ r = if rf = -1 then (some D, nI i) else (none, -1000 - rf)) ∨ (¬ s.1.2.2.1 = 3 ∧ ((¬ s.1.2.2.1 = 0 ∧ r = (none, -10 - nI s.1.1)) ∨ (s.1.2.2.1 = 0 ∧ ∃ wd, wd < 5 ∧ s.1.2.2.2 = nI wd ∧ (((takeF bt len wd s).1 = false ∧ r = (none, -10 - nI (takeF bt len wd s).2.1.1)) ∨ ((takeF bt len wd s).1 = true ∧ ((¬ rf = -1 ∧ rdR bt len k (i + 1) rf D (tokS bt len (takeF bt len wd s).2.1.2.1 (takeF bt len wd s).2.1.2.2.2, (takeF bt len wd s).2.2) r) ∨ (rf = -1 ∧ ∃ v D', telR D wd (takeF bt len wd s).2.2 v D' ∧ rdR bt len k (i + 1) (if v < 0 then nI i else -1) D' (tokS bt len (takeF bt len wd s).2.1.2.1 (takeF bt len wd s).2.1.2.2.2, (takeF bt len wd s).2.2) r)))))))
section ZREAD
variable {d : Nat} {w : ZW} {C I0 I1 : Cup} {len : Nat} {bt : Nat → Int32} {fa fb : Int64} {ki bd no fu : Int32} {Q : Option Value → ZW → Prop}
theorem x_tell {D : Cup} {nm : Nat → Int32} {st en wd : Nat} {tk va : Int32} (hwd : wd < 5) (h : isS w C I0 I1 len bt fa fb ki bd no fu) (hD : isC w 14 D) (hk : okK (D 1)) (ht : isTx w len bt nm st en tk va (nI wd)) (k : ∀ w' v D', telR D wd nm v D' → isC w' 14 D' → zOff 14 27 w w' → Q (some (.int v)) w') : Zm (d + 5) mX8_tellItem 0 0 [.ref 0, .ref 14] w Q := by
  refine zm_intro [_, _, _, _, _] oX8_tellItem (Nat.le_of_ble_eq_true rfl) rfl ?_
  refine zw_aload_n dX8_tellItem_0 rfl ?_
  refine zw_get dX8_tellItem_1 fX8_28 h.1 rfl ?_
  refine zw_iconst dX8_tellItem_4 0 (by decide) ?_
  refine zw_cV1 dX8_tellItem_5 oX7_numberAt kX7_numberAt lX8_306 ht.1 rfl (Nat.le_of_ble_eq_true rfl) rfl (x_numberAt (i := 0) (by decide) ht ?_)
  show Zw _ _ _ 8 [_, _, _, _, _] [_] _ _
  refine zw_istore_n [_, _, _, _, _] dX8_tellItem_8 (Nat.le_of_ble_eq_true rfl) rfl ?_
  refine zw_aload_n dX8_tellItem_9 rfl ?_
  refine zw_get dX8_tellItem_10 fX8_28 h.1 rfl ?_
  refine zw_iconst dX8_tellItem_13 1 (by decide) ?_
  refine zw_cV1 dX8_tellItem_14 oX7_numberAt kX7_numberAt lX8_306 ht.1 rfl (Nat.le_of_ble_eq_true rfl) rfl (x_numberAt (i := 1) (by decide) ht ?_)
  show Zw _ _ _ 17 [_, _, _, _, _] [_] _ _
  refine zw_istore_n [_, _, _, _, _] dX8_tellItem_17 (Nat.le_of_ble_eq_true rfl) rfl ?_
  refine zw_aload_n dX8_tellItem_18 rfl ?_
  refine zw_get dX8_tellItem_19 fX8_28 h.1 rfl ?_
  refine zw_iconst dX8_tellItem_22 2 (by decide) ?_
  refine zw_cV1 dX8_tellItem_23 oX7_numberAt kX7_numberAt lX8_306 ht.1 rfl (Nat.le_of_ble_eq_true rfl) rfl (x_numberAt (i := 2) (by decide) ht ?_)
  show Zw _ _ _ 26 [_, _, _, _, _] [_] _ _
  refine zw_istore [_, _, _, _, _] dX8_tellItem_26 (Nat.le_of_ble_eq_true rfl) rfl ?_
  refine zw_aload_n dX8_tellItem_28 rfl ?_
  refine zw_get dX8_tellItem_29 fX8_28 h.1 rfl ?_
  refine zw_cV0 dX8_tellItem_32 oX7_word kX7_word lX8_309 ht.1 rfl (Nat.le_of_ble_eq_true rfl) rfl (x_word ht ?_)
  show Zw _ _ _ 35 [_, _, _, _, _] [_] _ _
  have h5 : wd = 0 ∨ wd = 1 ∨ wd = 2 ∨ wd = 3 ∨ wd = 4 := by omega
  rcases h5 with rfl | rfl | rfl | rfl | rfl
  · refine zw_tableIn 68 dX8_tellItem_35 (by decide) (by decide) (off := 33) (by decide) (by decide) ?_
    refine zw_aload_n dX8_tellItem_68 rfl ?_
    refine zw_iload_n dX8_tellItem_69 rfl ?_
    refine zw_iload_n dX8_tellItem_70 rfl ?_
    refine zw_iload dX8_tellItem_71 rfl ?_
    refine zw_cV3 dX8_tellItem_73 oX1_addBox kX1_addBox lX8_67 hD.1 rfl (Nat.le_of_ble_eq_true rfl) rfl (c_addBox hD (fun e => ?_) (fun e1 e2 => ?_) (fun e1 e2 w1 h1 o1 => ?_))
    · show Zw _ _ _ 76 [_, _, _, _, _] [_] _ _
      refine zw_ireturn .int dX8_tellItem_76 rfl rfl (Nat.le_refl _) (Nat.le_refl _) ?_
      exact k _ _ _ (Or.inl ⟨rfl, Or.inl ⟨e, rfl, rfl⟩⟩) hD zOff.rf
    · show Zw _ _ _ 76 [_, _, _, _, _] [_] _ _
      refine zw_ireturn .int dX8_tellItem_76 rfl rfl (Nat.le_refl _) (Nat.le_refl _) ?_
      exact k _ _ _ (Or.inl ⟨rfl, Or.inr (Or.inl ⟨e1, e2, rfl, rfl⟩)⟩) hD zOff.rf
    · show Zw _ _ _ 76 [_, _, _, _, _] [_] _ _
      refine zw_ireturn .int dX8_tellItem_76 rfl rfl (Nat.le_refl _) (Nat.le_refl _) ?_
      exact k _ _ _ (Or.inl ⟨rfl, Or.inr (Or.inr ⟨e1, e2, rfl, rfl⟩)⟩) h1 o1
  · refine zw_tableIn 77 dX8_tellItem_35 (by decide) (by decide) (off := 42) (by decide) (by decide) ?_
    refine zw_aload_n dX8_tellItem_77 rfl ?_
    refine zw_iload_n dX8_tellItem_78 rfl ?_
    refine zw_iload_n dX8_tellItem_79 rfl ?_
    refine zw_iload dX8_tellItem_80 rfl ?_
    refine zw_cV3 dX8_tellItem_82 oX1_addLid kX1_addLid lX8_75 hD.1 rfl (Nat.le_of_ble_eq_true rfl) rfl (c_addLid hD (fun e => ?_) (fun e1 e2 => ?_) (fun e1 e2 w1 h1 o1 => ?_))
    · show Zw _ _ _ 85 [_, _, _, _, _] [_] _ _
      refine zw_ireturn .int dX8_tellItem_85 rfl rfl (Nat.le_refl _) (Nat.le_refl _) ?_
      exact k _ _ _ (Or.inr (Or.inl ⟨rfl, Or.inl ⟨e, rfl, rfl⟩⟩)) hD zOff.rf
    · show Zw _ _ _ 85 [_, _, _, _, _] [_] _ _
      refine zw_ireturn .int dX8_tellItem_85 rfl rfl (Nat.le_refl _) (Nat.le_refl _) ?_
      exact k _ _ _ (Or.inr (Or.inl ⟨rfl, Or.inr (Or.inl ⟨e1, e2, rfl, rfl⟩)⟩)) hD zOff.rf
    · show Zw _ _ _ 85 [_, _, _, _, _] [_] _ _
      refine zw_ireturn .int dX8_tellItem_85 rfl rfl (Nat.le_refl _) (Nat.le_refl _) ?_
      exact k _ _ _ (Or.inr (Or.inl ⟨rfl, Or.inr (Or.inr ⟨e1, e2, rfl, rfl⟩)⟩)) h1 o1
  · refine zw_tableIn 86 dX8_tellItem_35 (by decide) (by decide) (off := 51) (by decide) (by decide) ?_
    refine zw_aload_n dX8_tellItem_86 rfl ?_
    refine zw_iload_n dX8_tellItem_87 rfl ?_
    refine zw_iload_n dX8_tellItem_88 rfl ?_
    refine zw_cV2 dX8_tellItem_89 oX1_putOn kX1_putOn lX8_78 hD.1 rfl (Nat.le_of_ble_eq_true rfl) rfl (c_putOn hD hk (fun e => ?_) (fun l b e1 e2 e3 e4 e5 => ?_) (fun l b e1 e2 e3 e4 e5 e6 e7 w1 q1 e8 h1 o1 => ?_))
    · show Zw _ _ _ 92 [_, _, _, _, _] [_] _ _
      refine zw_ireturn .int dX8_tellItem_92 rfl rfl (Nat.le_refl _) (Nat.le_refl _) ?_
      exact k _ _ _ (Or.inr (Or.inr (Or.inl ⟨rfl, Or.inl ⟨e, rfl, rfl⟩⟩))) hD zOff.rf
    · show Zw _ _ _ 92 [_, _, _, _, _] [_] _ _
      refine zw_ireturn .int dX8_tellItem_92 rfl rfl (Nat.le_refl _) (Nat.le_refl _) ?_
      exact k _ _ _ (Or.inr (Or.inr (Or.inl ⟨rfl, Or.inr (Or.inl ⟨l, b, e1, e2, e3, e4, e5, rfl, rfl⟩)⟩))) hD zOff.rf
    · show Zw _ _ _ 92 [_, _, _, _, _] [_] _ _
      refine zw_ireturn .int dX8_tellItem_92 rfl rfl (Nat.le_refl _) (Nat.le_refl _) ?_
      exact k _ _ _ (Or.inr (Or.inr (Or.inl ⟨rfl, Or.inr (Or.inr ⟨l, b, q1, e1, e2, e3, e4, e5, e6, e7, rfl, e8, rfl⟩)⟩))) h1 o1
  · refine zw_tableIn 93 dX8_tellItem_35 (by decide) (by decide) (off := 58) (by decide) (by decide) ?_
    refine zw_aload_n dX8_tellItem_93 rfl ?_
    refine zw_iload_n dX8_tellItem_94 rfl ?_
    refine zw_iload_n dX8_tellItem_95 rfl ?_
    refine zw_cV2 dX8_tellItem_96 oX1_changeGrasps kX1_changeGrasps lX8_105 hD.1 rfl (Nat.le_of_ble_eq_true rfl) rfl (c_changeGrasps hD (fun e => ?_) (fun r e1 e2 e3 e4 w1 h1 o1 => ?_))
    · show Zw _ _ _ 99 [_, _, _, _, _] [_] _ _
      refine zw_ireturn .int dX8_tellItem_99 rfl rfl (Nat.le_refl _) (Nat.le_refl _) ?_
      exact k _ _ _ (Or.inr (Or.inr (Or.inr (Or.inl ⟨rfl, Or.inl ⟨e, rfl, rfl⟩⟩)))) hD zOff.rf
    · show Zw _ _ _ 99 [_, _, _, _, _] [_] _ _
      refine zw_ireturn .int dX8_tellItem_99 rfl rfl (Nat.le_refl _) (Nat.le_refl _) ?_
      exact k _ _ _ (Or.inr (Or.inr (Or.inr (Or.inl ⟨rfl, Or.inr ⟨r, e1, e2, e3, e4, rfl, rfl⟩⟩)))) h1 o1
  · refine zw_tableIn 100 dX8_tellItem_35 (by decide) (by decide) (off := 65) (by decide) (by decide) ?_
    refine zw_aload_n dX8_tellItem_100 rfl ?_
    refine zw_iload_n dX8_tellItem_101 rfl ?_
    refine zw_iload_n dX8_tellItem_102 rfl ?_
    refine zw_iload dX8_tellItem_103 rfl ?_
    refine zw_aload_n dX8_tellItem_105 rfl ?_
    refine zw_get dX8_tellItem_106 fX8_28 h.1 rfl ?_
    refine zw_iconst dX8_tellItem_109 3 (by decide) ?_
    refine zw_cV1 dX8_tellItem_110 oX7_numberAt kX7_numberAt lX8_306 ht.1 rfl (Nat.le_of_ble_eq_true rfl) rfl (x_numberAt (i := 3) (by decide) ht ?_)
    show Zw _ _ _ 113 [_, _, _, _, _] [_, _, _, _, _] _ _
    refine zw_cV4 dX8_tellItem_113 oX1_addSort kX1_addSort lX8_108 hD.1 rfl (Nat.le_of_ble_eq_true rfl) rfl (c_addSort hD (fun e => ?_) (fun e1 e2 => ?_) (fun e1 e2 w1 h1 o1 => ?_))
    · show Zw _ _ _ 116 [_, _, _, _, _] [_] _ _
      refine zw_ireturn .int dX8_tellItem_116 rfl rfl (Nat.le_refl _) (Nat.le_refl _) ?_
      exact k _ _ _ (Or.inr (Or.inr (Or.inr (Or.inr ⟨rfl, Or.inl ⟨e, rfl, rfl⟩⟩)))) hD zOff.rf
    · show Zw _ _ _ 116 [_, _, _, _, _] [_] _ _
      refine zw_ireturn .int dX8_tellItem_116 rfl rfl (Nat.le_refl _) (Nat.le_refl _) ?_
      exact k _ _ _ (Or.inr (Or.inr (Or.inr (Or.inr ⟨rfl, Or.inr (Or.inl ⟨e1, e2, rfl, rfl⟩)⟩)))) hD zOff.rf
    · show Zw _ _ _ 116 [_, _, _, _, _] [_] _ _
      refine zw_ireturn .int dX8_tellItem_116 rfl rfl (Nat.le_refl _) (Nat.le_refl _) ?_
      exact k _ _ _ (Or.inr (Or.inr (Or.inr (Or.inr ⟨rfl, Or.inr (Or.inr ⟨e1, e2, rfl, rfl⟩)⟩)))) h1 o1
theorem takeF_le {wd : Nat} {s : TSt} (h : s.1.2.1 ≤ len) : (takeF bt len wd s).2.1.2.1 ≤ len := by
  have h1 := numsF_le (bt := bt) (dueN wd) 0 s h
  unfold takeF
  split
  · exact (tokS_le h1).2.1
  · exact h1
theorem l_readF {w0 : ZW} {D : Cup} {rf : Int32} {i : Nat} (h : isS w C I0 I1 len bt fa fb ki bd no fu) (hD : isC w 14 D) (ho : zOff 0 74 w0 w) (k : ∀ w' C' oc v, (oc, v) = (if rf = -1 then (some D, nI i) else (none, -1000 - rf)) → (oc = none → C' = C) → (∀ D', oc = some D' → cSame C' D') → isS w' C' I0 I1 len bt fa fb ki bd no fu → zOff 0 74 w0 w' → Q (some (.int v)) w') : Zw (d + 9) mX8_read z0 94 [some (.ref 0), some (.int rf), some (.int (nI i))] [] w Q := by
  refine zw_iload_n dX8_read_94 rfl ?_
  refine zw_iconst dX8_read_95 (-1) (by decide) ?_
  by_cases hr : rf = -1
  · refine zw_icmp_eq 105 dX8_read_96 (by decide) (fun _ => ?_) (fun hz => absurd (hr) hz)
    refine zw_aload_n dX8_read_105 rfl ?_
    refine zw_get dX8_read_106 fX8_12 h.1 rfl ?_
    refine zw_aload_n dX8_read_109 rfl ?_
    refine zw_get dX8_read_110 fX8_16 h.1 rfl ?_
    refine zw_cV1 dX8_read_113 oX1_become kX1_become lX8_144 h.2.1.1 rfl (Nat.le_of_ble_eq_true rfl) rfl (c_become h.2.1 hD (by decide) (fun w1 C1 s1 c1 o1 => ?_))
    show Zw _ _ _ 116 [_, _, _] [] _ _
    refine zw_iload_n dX8_read_116 rfl ?_
    refine zw_ireturn .int dX8_read_117 rfl rfl (Nat.le_refl _) (Nat.le_refl _) ?_
    exact k w1 C1 (some D) (nI i) (by rw [if_pos hr]) (fun z => nomatch z) (fun D' e => by cases e; exact s1) (h.now o1 c1) (ho.tr (o1.wd (by decide) (by decide)))
  · refine zw_icmp_eq 105 dX8_read_96 (by decide) (fun hz => absurd hz (hr)) (fun _ => ?_)
    refine zw_sipush dX8_read_99 (-1000) (by decide) ?_
    refine zw_iload_n dX8_read_102 rfl ?_
    refine zw_isub dX8_read_103 ?_
    refine zw_ireturn .int dX8_read_104 rfl rfl (Nat.le_refl _) (Nat.le_refl _) ?_
    exact k w C none (-1000 - rf) (by rw [if_neg hr]) (fun _ => rfl) (fun D' e => nomatch e) h ho
theorem l_readL {w0 : ZW} : ∀ (k i : Nat) (rf : Int32) (D : Cup) (s : TSt) (iw : Int32) (w : ZW), i + k = 150 → okK (D 1) → s.1.2.1 ≤ len → (s.1.2.2.1 = 0 → ∃ wd, wd < 5 ∧ s.1.2.2.2 = nI wd) → isS w C I0 I1 len bt fa fb ki bd no fu → isC w 14 D → isTx w len bt s.2 s.1.1 s.1.2.1 s.1.2.2.1 s.1.2.2.2 iw → zOff 0 74 w0 w → (∀ w' C' oc v, rdR bt len k i rf D s (oc, v) → (oc = none → C' = C) → (∀ D', oc = some D' → cSame C' D') → isS w' C' I0 I1 len bt fa fb ki bd no fu → zOff 0 74 w0 w' → Q (some (.int v)) w') → Zw (d + 9) mX8_read z0 25 [some (.ref 0), some (.int rf), some (.int (nI i))] [] w Q := by
  intro k
  induction k with
  | zero =>
    intro i rf D s iw w hi hk hs hw h hD ht ho kk
    have e : i = 150 := by omega
    subst e
    refine zw_aload_n dX8_read_25 rfl ?_
    refine zw_get dX8_read_26 fX8_28 h.1 rfl ?_
    refine zw_cV0 dX8_read_29 oX7_isAtEnd kX7_isAtEnd lX8_130 ht.1 rfl (Nat.le_of_ble_eq_true rfl) rfl (x_isAtEnd ht ?_)
    show Zw _ _ _ 32 [_, _, _] [_] _ _
    by_cases h3 : s.1.2.2.1 = 3
    · rw [show bI (decide (s.1.2.2.1 = 3)) = 1 by rw [decide_eq_true h3]; rfl]
      refine zw_if_ne 94 dX8_read_32 (by decide) (fun _ => ?_) (fun hz => absurd hz (by decide))
      exact l_readF h hD ho kk
    · rw [show bI (decide (s.1.2.2.1 = 3)) = 0 by rw [decide_eq_false h3]; rfl]
      refine zw_if_ne 94 dX8_read_32 (by decide) (fun hz => absurd (by decide) hz) (fun _ => ?_)
      refine zw_iload_n dX8_read_35 rfl ?_
      refine zw_sipush dX8_read_36 150 (by decide) ?_
      refine zw_icmp_ge 94 dX8_read_39 (by decide) (fun _ => ?_) (fun hz => absurd (by decide) hz)
      exact l_readF h hD ho kk
  | succ k ih =>
    intro i rf D s iw w hi hk hs hw h hD ht ho kk
    refine zw_aload_n dX8_read_25 rfl ?_
    refine zw_get dX8_read_26 fX8_28 h.1 rfl ?_
    refine zw_cV0 dX8_read_29 oX7_isAtEnd kX7_isAtEnd lX8_130 ht.1 rfl (Nat.le_of_ble_eq_true rfl) rfl (x_isAtEnd ht ?_)
    show Zw _ _ _ 32 [_, _, _] [_] _ _
    by_cases h3 : s.1.2.2.1 = 3
    · rw [show bI (decide (s.1.2.2.1 = 3)) = 1 by rw [decide_eq_true h3]; rfl]
      refine zw_if_ne 94 dX8_read_32 (by decide) (fun _ => ?_) (fun hz => absurd hz (by decide))
      exact l_readF h hD ho (fun w' C' oc v e => kk w' C' oc v (Or.inl ⟨h3, e⟩))
    · rw [show bI (decide (s.1.2.2.1 = 3)) = 0 by rw [decide_eq_false h3]; rfl]
      refine zw_if_ne 94 dX8_read_32 (by decide) (fun hz => absurd (by decide) hz) (fun _ => ?_)
      refine zw_iload_n dX8_read_35 rfl ?_
      refine zw_sipush dX8_read_36 150 (by decide) ?_
      refine zw_icmp_ge 94 dX8_read_39 (by decide) (fun hz => absurd hz (nI_ge (b := 150) (by omega) (by decide))) (fun _ => ?_)
      refine zw_aload_n dX8_read_42 rfl ?_
      refine zw_get dX8_read_43 fX8_28 h.1 rfl ?_
      refine zw_cV0 dX8_read_46 oX7_takeItem kX7_takeItem lX8_134 ht.1 rfl (Nat.le_of_ble_eq_true rfl) rfl (x_takeItem ht hs (fun e => ?_) (fun wd e0 e1 e2 w1 t1 o1 => ?_) hw)
      · show Zw _ _ _ 49 [_, _, _] [_] _ _
        refine zw_if_ne 63 dX8_read_49 (by decide) (fun hz => absurd (by decide) hz) (fun _ => ?_)
        refine zw_bipush dX8_read_52 (-10) (by decide) ?_
        refine zw_aload_n dX8_read_54 rfl ?_
        refine zw_get dX8_read_55 fX8_28 h.1 rfl ?_
        refine zw_cV0 dX8_read_58 oX7_place kX7_place lX8_137 ht.1 rfl (Nat.le_of_ble_eq_true rfl) rfl (x_place ht ?_)
        show Zw _ _ _ 61 [_, _, _] [_, _] _ _
        refine zw_isub dX8_read_61 ?_
        refine zw_ireturn .int dX8_read_62 rfl rfl (Nat.le_refl _) (Nat.le_refl _) ?_
        exact kk w C none _ (Or.inr ⟨h3, Or.inl ⟨e, rfl⟩⟩) (fun _ => rfl) (fun D' e => nomatch e) h ho
      · have t1 : isTx w1 len bt (takeF bt len wd s).2.2 (takeF bt len wd s).2.1.1 (takeF bt len wd s).2.1.2.1 (takeF bt len wd s).2.1.2.2.1 (takeF bt len wd s).2.1.2.2.2 (nI wd) := t1
        have kk' := fun w' C' oc v z => kk w' C' oc v (Or.inr ⟨h3, Or.inr ⟨e0, wd, e2, e1, z⟩⟩)
        have hle := takeF_le (bt := bt) (wd := wd) hs
        have g1 := h.tx o1 t1
        have q1 := ho.tr (o1.wd (lo' := 0) (hi' := 74) (by decide) (by decide))
        have D1 := hD.off o1 (by omega)
        change Zw _ _ _ _ _ [.int (bI (takeF bt len wd s).1)] _ _
        generalize hT : takeF bt len wd s = T at *
        have fin : ∀ (rf' : Int32) (D' : Cup) (w2 : ZW), isS w2 C I0 I1 len bt fa fb ki bd no fu → isC w2 14 D' → okK (D' 1) → isTx w2 len bt T.2.2 T.2.1.1 T.2.1.2.1 T.2.1.2.2.1 T.2.1.2.2.2 (nI wd) → zOff 0 74 w0 w2 → (∀ w' C' oc v, rdR bt len k (i + 1) rf' D' (tokS bt len T.2.1.2.1 T.2.1.2.2.2, T.2.2) (oc, v) → (oc = none → C' = C) → (∀ D', oc = some D' → cSame C' D') → isS w' C' I0 I1 len bt fa fb ki bd no fu → zOff 0 74 w0 w' → Q (some (.int v)) w') → Zw (d + 9) mX8_read z0 81 [some (.ref 0), some (.int rf'), some (.int (nI i))] [] w2 Q := by
          intro rf' D' w2 g2 c2 hk2 t2 q2 k2
          refine zw_iinc (nI (i + 1)) [_, _, _] dX8_read_81 rfl (nI_1 i) rfl ?_
          refine zw_aload_n dX8_read_84 rfl ?_
          refine zw_get dX8_read_85 fX8_28 g2.1 rfl ?_
          refine zw_cV0 dX8_read_88 oX7_advance kX7_advance lX8_127 t2.1 rfl (Nat.le_of_ble_eq_true rfl) rfl (x_advance t2 hle (fun w3 t3 o3 => ?_))
          show Zw _ _ _ 91 [_, _, _] [] _ _
          refine zw_goto 25 dX8_read_91 (by decide) ?_
          exact ih (i + 1) rf' D' (tokS bt len T.2.1.2.1 T.2.1.2.2.2, T.2.2) _ w3 (by omega) hk2 (tokS_le hle).2.1 tokS_wd (g2.tx o3 t3) (c2.off o3 (by omega)) t3 (q2.tr (o3.wd (by decide) (by decide))) k2
        by_cases hT1 : T.1 = true
        · rw [show bI T.1 = 1 by rw [hT1]; rfl]
          refine zw_if_ne 63 dX8_read_49 (by decide) (fun _ => ?_) (fun hz => absurd hz (by decide))
          refine zw_iload_n dX8_read_63 rfl ?_
          refine zw_iconst dX8_read_64 (-1) (by decide) ?_
          by_cases hr : rf = -1
          · refine zw_icmp_ne 81 dX8_read_65 (by decide) (fun hz => absurd (hr) hz) (fun _ => ?_)
            refine zw_aload_n dX8_read_68 rfl ?_
            refine zw_aload_n dX8_read_69 rfl ?_
            refine zw_get dX8_read_70 fX8_16 g1.1 rfl ?_
            refine zw_cV1 dX8_read_73 oX8_tellItem kX8_tellItem lX8_140 g1.1 rfl (Nat.le_of_ble_eq_true rfl) rfl (x_tell e2 g1 D1 hk t1 (fun w2 v D2 r2 c2 o2 => ?_))
            show Zw _ _ _ 76 [_, _, _] [_] _ _
            have g2 := g1.dr o2 c2
            have t2 := t1.off o2 (by omega)
            have q2 := q1.tr (o2.wd (lo' := 0) (hi' := 74) (by decide) (by decide))
            have kk2 := fun w' C' oc v' z => kk' w' C' oc v' (Or.inr ⟨hT1, Or.inr ⟨hr, v, D2, r2, z⟩⟩)
            by_cases hv : v < 0
            · rw [if_pos hv] at kk2
              refine zw_if_ge 81 dX8_read_76 (by decide) (fun hz => absurd hz (Int32.not_le.mpr hv)) (fun _ => ?_)
              refine zw_iload_n dX8_read_79 rfl ?_
              refine zw_istore_n [_, _, _] dX8_read_80 (Nat.le_of_ble_eq_true rfl) rfl ?_
              exact fin (nI i) D2 w2 g2 c2 (telR_okK r2 hk) t2 q2 kk2
            · rw [if_neg hv] at kk2
              refine zw_if_ge 81 dX8_read_76 (by decide) (fun _ => ?_) (fun hz => absurd (Int32.not_lt.mp hv) hz)
              rw [hr]
              exact fin (-1) D2 w2 g2 c2 (telR_okK r2 hk) t2 q2 kk2
          · refine zw_icmp_ne 81 dX8_read_65 (by decide) (fun _ => ?_) (fun hz => absurd hz (hr))
            exact fin rf D w1 g1 D1 hk t1 q1 (fun w' C' oc v' z => kk' w' C' oc v' (Or.inr ⟨hT1, Or.inl ⟨hr, z⟩⟩))
        · have hT0 : T.1 = false := by simpa using hT1
          rw [show bI T.1 = 0 by rw [hT0]; rfl]
          refine zw_if_ne 63 dX8_read_49 (by decide) (fun hz => absurd (by decide) hz) (fun _ => ?_)
          refine zw_bipush dX8_read_52 (-10) (by decide) ?_
          refine zw_aload_n dX8_read_54 rfl ?_
          refine zw_get dX8_read_55 fX8_28 g1.1 rfl ?_
          refine zw_cV0 dX8_read_58 oX7_place kX7_place lX8_137 t1.1 rfl (Nat.le_of_ble_eq_true rfl) rfl (x_place t1 ?_)
          show Zw _ _ _ 61 [_, _, _] [_, _] _ _
          refine zw_isub dX8_read_61 ?_
          refine zw_ireturn .int dX8_read_62 rfl rfl (Nat.le_refl _) (Nat.le_refl _) ?_
          exact kk' w1 C none _ (Or.inl ⟨hT0, rfl⟩) (fun _ => rfl) (fun D' e => nomatch e) g1 q1
theorem l_read (h : isS w C I0 I1 len bt fa fb ki bd no fu) (k : ∀ w' C' oc v D0 nm0, (∀ i, (D0 i).1 = 0) → rdR bt len 150 0 (-1) D0 (tokS bt len 0 0, nm0) (oc, v) → (oc = none → C' = C) → (∀ D', oc = some D' → cSame C' D') → isS w' C' I0 I1 len bt fa fb ki bd no fu → zOff 0 74 w w' → Q (some (.int v)) w') : Zm (d + 9) mX8_read 0 0 [.ref 0] w Q := by
  obtain ⟨D, hD⟩ := h.2.2.1
  refine zm_intro [_, _, _] oX8_read (Nat.le_of_ble_eq_true rfl) rfl ?_
  refine zw_iconst dX8_read_0 (-1) (by decide) ?_
  refine zw_istore_n [_, _, _] dX8_read_1 (Nat.le_of_ble_eq_true rfl) rfl ?_
  refine zw_iconst dX8_read_2 0 (by decide) ?_
  refine zw_istore_n [_, _, _] dX8_read_3 (Nat.le_of_ble_eq_true rfl) rfl ?_
  refine zw_aload_n dX8_read_4 rfl ?_
  refine zw_get dX8_read_5 fX8_16 h.1 rfl ?_
  refine zw_cV0 dX8_read_8 oX1_empty kX1_empty lX8_121 hD.1 rfl (Nat.le_of_ble_eq_true rfl) rfl (c_empty hD (fun w1 c1 o1 => ?_))
  show Zw _ _ _ 11 [_, _, _] [] _ _
  have g1 := h.dr o1 c1
  obtain ⟨nm, st, en, tk, va, iw, ht⟩ := g1.2.2.2.2.2.1
  refine zw_aload_n dX8_read_11 rfl ?_
  refine zw_get dX8_read_12 fX8_28 g1.1 rfl ?_
  refine zw_cV0 dX8_read_15 oX7_rewind kX7_rewind lX8_124 ht.1 rfl (Nat.le_of_ble_eq_true rfl) rfl (x_rewind ht (fun w2 t2 o2 => ?_))
  show Zw _ _ _ 18 [_, _, _] [] _ _
  have g2 := g1.tx o2 t2
  refine zw_aload_n dX8_read_18 rfl ?_
  refine zw_get dX8_read_19 fX8_28 g2.1 rfl ?_
  refine zw_cV0 dX8_read_22 oX7_advance kX7_advance lX8_127 t2.1 rfl (Nat.le_of_ble_eq_true rfl) rfl (x_advance t2 (Nat.zero_le _) (fun w3 t3 o3 => ?_))
  show Zw _ _ _ 25 [_, _, _] [] _ _
  have q : zOff 0 74 w w3 := (o1.wd (by decide) (by decide)).tr ((o2.wd (by decide) (by decide)).tr (o3.wd (by decide) (by decide)))
  exact l_readL (w0 := w) 150 0 (-1) (fun i => (0, (D i).2)) (tokS bt len 0 0, nm) iw w3 (by omega) (fun r hr => absurd hr (Nat.not_lt_zero _)) (tokS_le (Nat.zero_le _)).2.1 tokS_wd (g2.tx o3 t3) ((c1.off o2 (by omega)).off o3 (by omega)) t3 q (fun w' C' oc v z => k w' C' oc v _ nm (fun _ => rfl) z)
end ZREAD
