/-! ===== LidForEach: ranks, piles, shelf, buy ===== -/
theorem fnd_congr {p q : Nat → Bool} : ∀ (k i : Nat), (∀ j, i ≤ j → j < i + k → p j = q j) → fnd p i k = fnd q i k := by
  intro k
  induction k with
  | zero => intro i _; rfl
  | succ k ih =>
    intro i h
    unfold fnd
    rw [h i (Nat.le_refl _) (by omega), ih (i + 1) (fun j h1 h2 => h j (by omega) (by omega))]
theorem cnt_congr {p q : Nat → Bool} : ∀ (k i : Nat), (∀ j, i ≤ j → j < i + k → p j = q j) → cnt p i k = cnt q i k := by
  intro k
  induction k with
  | zero => intro i _; rfl
  | succ k ih =>
    intro i h
    unfold cnt
    rw [h i (Nat.le_refl _) (by omega), ih (i + 1) (fun j h1 h2 => h j (by omega) (by omega))]
theorem cnt_le {p q : Nat → Bool} : ∀ (k i : Nat), (∀ j, i ≤ j → j < i + k → p j = true → q j = true) → cnt p i k ≤ cnt q i k := by
  intro k
  induction k with
  | zero => intro i _; exact Nat.le_refl _
  | succ k ih =>
    intro i h
    have := ih (i + 1) (fun j h1 h2 => h j (by omega) (by omega))
    have z := h i (Nat.le_refl _) (by omega)
    unfold cnt
    by_cases hp : p i = true
    · rw [if_pos hp, if_pos (z hp)]; omega
    · rw [if_neg hp]; omega
theorem cnt_lt {p q : Nat → Bool} {a : Nat} : ∀ (k i : Nat), (∀ j, i ≤ j → j < i + k → p j = true → q j = true) → i ≤ a → a < i + k → p a = false → q a = true → cnt p i k < cnt q i k := by
  intro k
  induction k with
  | zero => intro i _ h1 h2; omega
  | succ k ih =>
    intro i h h1 h2 hp hq
    unfold cnt
    by_cases e : i = a
    · subst e
      have := cnt_le (p := p) (q := q) k (i + 1) (fun j h1 h2 => h j (by omega) (by omega))
      rw [if_neg (by rw [hp]; decide), if_pos hq]; omega
    · have := ih (i + 1) (fun j h1 h2 => h j (by omega) (by omega)) (by omega) (by omega) hp hq
      have z := h i (Nat.le_refl _) (by omega)
      by_cases hp : p i = true
      · rw [if_pos hp, if_pos (z hp)]; omega
      · rw [if_neg hp]; omega
theorem cnt_bound {p : Nat → Bool} : ∀ (k i : Nat), cnt p i k ≤ k := by
  intro k
  induction k with
  | zero => intro i; exact Nat.le_refl _
  | succ k ih =>
    intro i
    have := ih (i + 1)
    unfold cnt
    split <;> omega
theorem ahead_iff {ks : Nat → Int32} {a b : Nat} : aheadB ks a b = true ↔ ks a < ks b ∨ (ks b = ks a ∧ b < a) := by
  unfold aheadB
  simp
theorem ahead_tr {ks : Nat → Int32} {a b c : Nat} (h1 : aheadB ks a b = true) (h2 : aheadB ks b c = true) : aheadB ks a c = true := by
  rw [ahead_iff] at *
  rcases h1 with h1 | ⟨h1, g1⟩
  · rcases h2 with h2 | ⟨h2, g2⟩
    · exact Or.inl (Int32.lt_trans h1 h2)
    · rw [h2]; exact Or.inl h1
  · rcases h2 with h2 | ⟨h2, g2⟩
    · rw [h1] at h2; exact Or.inl h2
    · exact Or.inr ⟨h2.trans h1, by omega⟩
theorem ahead_irr {ks : Nat → Int32} {a : Nat} : aheadB ks a a = false := by
  unfold aheadB
  simp
theorem ahead_tot {ks : Nat → Int32} {a b : Nat} (h : ¬ a = b) : aheadB ks a b = true ∨ aheadB ks b a = true := by
  rw [ahead_iff, ahead_iff]
  by_cases e : ks a = ks b
  · rcases Nat.lt_or_gt_of_ne h with q | q
    · exact Or.inr (Or.inr ⟨e, q⟩)
    · exact Or.inl (Or.inr ⟨e.symm, q⟩)
  · rcases Int.lt_or_gt_of_ne (fun z => e (Int32.toInt_inj.mp z)) with q | q
    · exact Or.inl (Or.inl (Int32.lt_iff_toInt_lt.mpr q))
    · exact Or.inr (Or.inl (Int32.lt_iff_toInt_lt.mpr q))
theorem place_lt {ks : Nat → Int32} {n a b : Nat} (hb : b < n) (h : aheadB ks a b = true) : placeN ks n b < placeN ks n a := by
  refine cnt_lt (a := b) n 0 (fun j _ _ z => ahead_tr h z) (Nat.zero_le _) (by omega) ahead_irr h
theorem place_inj {ks : Nat → Int32} {n a b : Nat} (ha : a < n) (hb : b < n) (h : placeN ks n a = placeN ks n b) : a = b := by
  by_cases e : a = b
  · exact e
  · rcases ahead_tot (ks := ks) e with q | q
    · have := place_lt hb q; omega
    · have := place_lt ha q; omega
theorem place_bd {ks : Nat → Int32} {n a : Nat} (ha : a < n) : placeN ks n a < n := by
  have h : placeN ks n a < cnt (fun _ => true) 0 n := cnt_lt (a := a) n 0 (fun _ _ _ _ => rfl) (Nat.zero_le _) (by omega) ahead_irr rfl
  exact Nat.lt_of_lt_of_le h (cnt_bound n 0)
theorem inj_sur : ∀ (n : Nat) (f : Nat → Nat), (∀ i, i < n → f i < n) → (∀ i j, i < n → j < n → f i = f j → i = j) → ∀ j, j < n → ∃ i, i < n ∧ f i = j := by
  intro n
  induction n with
  | zero => intro f _ _ j hj; omega
  | succ n ih =>
    intro f h1 h2 j hj
    by_cases e : f n = j
    · exact ⟨n, by omega, e⟩
    · have hg := ih (fun i => if f i = n then f n else f i) (fun i hi => by
        show (if f i = n then f n else f i) < n
        have a1 := h1 i (by omega)
        have a2 := h1 n (by omega)
        have a3 := h2 i n (by omega) (by omega)
        split
        · rename_i z
          rcases Nat.lt_or_ge (f n) n with q | q
          · exact q
          · have : i = n := a3 (by omega)
            omega
        · omega) (fun a b ha hb z => by
        have a1 := h2 a b (by omega) (by omega)
        have a2 := h2 a n (by omega) (by omega)
        have a3 := h2 b n (by omega) (by omega)
        have z' : (if f a = n then f n else f a) = (if f b = n then f n else f b) := z
        by_cases q1 : f a = n
        · by_cases q2 : f b = n
          · exact a1 (by omega)
          · rw [if_pos q1, if_neg q2] at z'
            have := a3 z'.symm
            omega
        · by_cases q2 : f b = n
          · rw [if_neg q1, if_pos q2] at z'
            have := a2 z'
            omega
          · rw [if_neg q1, if_neg q2] at z'
            exact a1 z')
      by_cases ej : j = n
      · subst ej
        by_cases q : f j < j
        · obtain ⟨i, hi, z⟩ := hg (f j) q
          have z' : (if f i = j then f j else f i) = f j := z
          by_cases q1 : f i = j
          · exact ⟨i, by omega, q1⟩
          · rw [if_neg q1] at z'
            have := h2 i j (by omega) (by omega) z'
            omega
        · have := h1 j (by omega)
          omega
      · obtain ⟨i, hi, z⟩ := hg j (by omega)
        have z' : (if f i = n then f n else f i) = j := z
        by_cases q1 : f i = n
        · rw [if_pos q1] at z'
          exact absurd z' e
        · rw [if_neg q1] at z'
          exact ⟨i, by omega, z'⟩
theorem item_ok {ks : Nat → Int32} {n i : Nat} (hn : n ≤ 7) (hi : i < n) : ∃ s, s < n ∧ placeN ks n s = i ∧ itemN ks n (nI i) = nI s := by
  obtain ⟨s, hs, e⟩ := inj_sur n (placeN ks n) (fun a ha => place_bd ha) (fun a b ha hb z => place_inj ha hb z) i hi
  refine ⟨s, hs, e, ?_⟩
  rcases fnd_cases (fun it => decide (nI (placeN ks n it) = nI i)) n 0 with ⟨_, h⟩ | ⟨j, h1, h2, h3, h4, h5⟩
  · have := h s (Nat.zero_le _) (by omega)
    rw [e] at this
    simp at this
  · have hj : j < n := by omega
    have b1 := place_bd (ks := ks) hj
    have : placeN ks n j = i := (nI_eq (by omega) (by omega)).mp (of_decide_eq_true h3)
    have : j = s := place_inj hj hs (this.trans e.symm)
    subst this
    exact h4
theorem item_congr {ks ks' : Nat → Int32} {n : Nat} {x : Int32} (h : ∀ i, i < n → ks i = ks' i) : itemN ks n x = itemN ks' n x := by
  refine fnd_congr n 0 (fun j _ hj => ?_)
  have : placeN ks n j = placeN ks' n j := cnt_congr n 0 (fun i _ hi => by unfold aheadB; rw [h i (by omega), h j (by omega)])
  rw [this]
/-- the boxes' grasps -/
def gK (C : Cup) (i : Nat) : Int32 := (C 0).2 (i * 5 + 3)
def itS (ks : Nat → Int32) (n i : Nat) : Nat := (itemN ks n (nI i)).toNatClampNeg
theorem itS_ok {ks : Nat → Int32} {n i : Nat} (hn : n ≤ 7) (hi : i < n) : itS ks n i < n ∧ itemN ks n (nI i) = nI (itS ks n i) := by
  obtain ⟨s, hs, _, e⟩ := item_ok (ks := ks) hn hi
  have : itS ks n i = s := by unfold itS; rw [e, nI_clamp (by omega)]
  rw [this]
  exact ⟨hs, e⟩
def shC (C : Cup) (ks : Nat → Int32) (i k : Nat) (a : Int32) : Int32 := match k with
  | 0 => a
  | k + 1 => shC C ks (i + 1) k (a + (C 0).2 (itS ks (C 0).1 i * 5 + 3) * (nI i + 1))
theorem shC_congr {C : Cup} {ks ks' : Nat → Int32} (h : ∀ i, i < (C 0).1 → ks i = ks' i) : ∀ (k i : Nat) (a : Int32), shC C ks i k a = shC C ks' i k a := by
  intro k
  induction k with
  | zero => intro i a; rfl
  | succ k ih =>
    intro i a
    unfold shC
    have : itS ks (C 0).1 i = itS ks' (C 0).1 i := by unfold itS; rw [item_congr h]
    rw [this]
    exact ih _ _
section ZL5
variable {d : Nat} {w : ZW} {C I0 I1 : Cup} {len : Nat} {bt : Nat → Int32} {fa fb : Int64} {ki bd no fu : Int32} {Q : Option Value → ZW → Prop}
theorem x_shelfCostL {ks : Nat → Int32} (h : isS w C I0 I1 len bt fa fb ki bd no fu) (hr : isRk w (C 0).1 ks) : ∀ (k i : Nat) (a : Int32), i + k = (C 0).1 → Q (some (.int (shC C ks i k a))) w → Zw (d + 2) mX8_shelfCost z0 4 [some (.ref 0), some (.int (nI (C 0).1)), some (.int a), some (.int (nI i))] [] w Q := by
  have hn7 : (C 0).1 ≤ 7 := h.2.1.2.1.2.2.1
  intro k
  induction k with
  | zero =>
    intro i a hi kk
    refine zw_iload_n dX8_shelfCost_4 rfl ?_
    refine zw_iload_n dX8_shelfCost_5 rfl ?_
    refine zw_icmp_ge 41 dX8_shelfCost_6 (by decide) (fun _ => ?_) (fun hz => absurd (nI_le (by omega) (by omega)) hz)
    refine zw_iload_n dX8_shelfCost_41 rfl ?_
    refine zw_ireturn .int dX8_shelfCost_42 rfl rfl (Nat.le_refl _) (Nat.le_refl _) ?_
    exact kk
  | succ k ih =>
    intro i a hi kk
    have hs := itS_ok (ks := ks) hn7 (i := i) (by omega)
    refine zw_iload_n dX8_shelfCost_4 rfl ?_
    refine zw_iload_n dX8_shelfCost_5 rfl ?_
    refine zw_icmp_ge 41 dX8_shelfCost_6 (by decide) (fun hz => absurd hz (nI_ge (by omega) (by omega))) (fun _ => ?_)
    refine zw_iload_n dX8_shelfCost_9 rfl ?_
    refine zw_aload_n dX8_shelfCost_10 rfl ?_
    refine zw_get dX8_shelfCost_11 fX8_12 h.1 rfl ?_
    refine zw_get dX8_shelfCost_14 fX8_89 h.2.1.1 rfl ?_
    refine zw_aload_n dX8_shelfCost_17 rfl ?_
    refine zw_get dX8_shelfCost_18 fX8_49 h.1 rfl ?_
    refine zw_iload_n dX8_shelfCost_21 rfl ?_
    refine zw_cV1 dX8_shelfCost_22 oX5_itemAt kX5_itemAt lX8_206 hr.1 rfl (Nat.le_of_ble_eq_true rfl) rfl (r_item hr ?_)
    show Zw _ _ _ 25 [_, _, _, _] [_, _, _] _ _
    refine zw_top (hs.2) ?_
    refine zw_iconst dX8_shelfCost_25 3 (by decide) ?_
    refine zw_cV2 dX8_shelfCost_26 oX6_at kX6_at lX8_99 h.2.1.2.1.1 rfl (Nat.le_of_ble_eq_true rfl) rfl (t_at (c := 3) h.2.1.2.1 hs.1 (by decide) ?_)
    show Zw _ _ _ 29 [_, _, _, _] [_, _] _ _
    refine zw_iload_n dX8_shelfCost_29 rfl ?_
    refine zw_iconst dX8_shelfCost_30 1 (by decide) ?_
    refine zw_iadd dX8_shelfCost_31 ?_
    refine zw_imul dX8_shelfCost_32 ?_
    refine zw_iadd dX8_shelfCost_33 ?_
    refine zw_istore_n [_, _, _, _] dX8_shelfCost_34 (Nat.le_of_ble_eq_true rfl) rfl ?_
    refine zw_iinc (nI (i + 1)) [_, _, _, _] dX8_shelfCost_35 rfl (nI_1 i) rfl ?_
    refine zw_goto 4 dX8_shelfCost_38 (by decide) ?_
    exact ih (i + 1) _ (by omega) kk
theorem x_shelfCost {ks : Nat → Int32} (h : isS w C I0 I1 len bt fa fb ki bd no fu) (hr : isRk w (C 0).1 ks) (k : Q (some (.int (shC C ks 0 (C 0).1 0))) w) : Zm (d + 2) mX8_shelfCost 0 0 [.ref 0, .int (nI (C 0).1)] w Q := by
  refine zm_intro [_, _, _, _] oX8_shelfCost (Nat.le_of_ble_eq_true rfl) rfl ?_
  refine zw_iconst dX8_shelfCost_0 0 (by decide) ?_
  refine zw_istore_n [_, _, _, _] dX8_shelfCost_1 (Nat.le_of_ble_eq_true rfl) rfl ?_
  refine zw_iconst dX8_shelfCost_2 0 (by decide) ?_
  refine zw_istore_n [_, _, _, _] dX8_shelfCost_3 (Nat.le_of_ble_eq_true rfl) rfl ?_
  exact x_shelfCostL h hr (C 0).1 0 0 (by omega) k
theorem l_shelfL {x : Int32} {w0 : ZW} (h0 : isS w0 C I0 I1 len bt fa fb ki bd no fu) (hK : ∀ w ks o, isRk w (C 0).1 ks → zOff 63 65 w0 w → (∀ j, j < (C 0).1 → ks j = gK C j) → Zw (d + 3) mX8_shelf z0 68 [some (.ref 0), some (.int x), some (.int (nI (C 0).1)), o] [] w Q) : ∀ (k i : Nat) (w : ZW) (ks : Nat → Int32), i + k = (C 0).1 → isRk w i ks → zOff 63 65 w0 w → (∀ j, j < i → ks j = gK C j) → Zw (d + 3) mX8_shelf z0 38 [some (.ref 0), some (.int x), some (.int (nI (C 0).1)), some (.int (nI i))] [] w Q := by
  have hn7 : (C 0).1 ≤ 7 := h0.2.1.2.1.2.2.1
  intro k
  induction k with
  | zero =>
    intro i w ks hi hr ho hz
    have e : i = (C 0).1 := by omega
    subst e
    refine zw_iload_n dX8_shelf_38 rfl ?_
    refine zw_iload_n dX8_shelf_39 rfl ?_
    refine zw_icmp_ge 68 dX8_shelf_40 (by decide) (fun _ => ?_) (fun hz => absurd (nI_le (Nat.le_refl _) (by omega)) hz)
    exact hK w ks _ hr ho hz
  | succ k ih =>
    intro i w ks hi hr ho hz
    have h := h0.rk ho hr
    refine zw_iload_n dX8_shelf_38 rfl ?_
    refine zw_iload_n dX8_shelf_39 rfl ?_
    refine zw_icmp_ge 68 dX8_shelf_40 (by decide) (fun hz => absurd hz (nI_ge (by omega) (by omega))) (fun _ => ?_)
    refine zw_aload_n dX8_shelf_43 rfl ?_
    refine zw_get dX8_shelf_44 fX8_49 h.1 rfl ?_
    refine zw_aload_n dX8_shelf_47 rfl ?_
    refine zw_get dX8_shelf_48 fX8_12 h.1 rfl ?_
    refine zw_get dX8_shelf_51 fX8_89 h.2.1.1 rfl ?_
    refine zw_iload_n dX8_shelf_54 rfl ?_
    refine zw_iconst dX8_shelf_55 3 (by decide) ?_
    refine zw_cV2 dX8_shelf_56 oX6_at kX6_at lX8_99 h.2.1.2.1.1 rfl (Nat.le_of_ble_eq_true rfl) rfl (t_at (r := i) (c := 3) h.2.1.2.1 (by omega) (by decide) ?_)
    show Zw _ _ _ 59 [_, _, _, _] [_, _] _ _
    refine zw_cV1 dX8_shelf_59 oX5_add kX5_add lX8_200 hr.1 rfl (Nat.le_of_ble_eq_true rfl) rfl (r_add hr (by omega) (fun w1 r1 o1 => ?_))
    show Zw _ _ _ 62 [_, _, _, _] [] _ _
    refine zw_iinc (nI (i + 1)) [_, _, _, _] dX8_shelf_62 rfl (nI_1 i) rfl ?_
    refine zw_goto 38 dX8_shelf_65 (by decide) ?_
    refine ih (i + 1) w1 _ (by omega) r1 (ho.tr o1) (fun j hj => ?_)
    unfold upd
    split
    · rename_i q; rw [q]; rfl
    · exact hz j (by omega)
theorem l_shelf {x : Int32} (h : isS w C I0 I1 len bt fa fb ki bd no fu) (kB : ¬ -1 ≤ x → ∀ w', isS w' C I0 I1 len bt fa fb ki (bd + 1) no fu → zOff 0 74 w w' → Q (some (.int (-10))) w') (k5 : -1 ≤ x → ¬ x < nI (C 0).1 → Q (some (.int (-5))) w) (kN : x = -1 → ∀ w', isS w' C I0 I1 len bt fa fb ki bd no fu → zOff 0 74 w w' → Q (some (.int (shC C (gK C) 0 (C 0).1 0))) w') (kA : -1 ≤ x → ¬ x = -1 → x < nI (C 0).1 → ∀ w', isS w' C I0 I1 len bt fa fb ki bd no fu → zOff 0 74 w w' → Q (some (.int (itemN (gK C) (C 0).1 x))) w') : Zm (d + 3) mX8_shelf 0 0 [.ref 0, .int x] w Q := by
  obtain ⟨n, ks, hr⟩ := h.2.2.2.2.2.2.2.2.1
  refine zm_intro [_, _, _, _] oX8_shelf (Nat.le_of_ble_eq_true rfl) rfl ?_
  refine zw_iload_n dX8_shelf_0 rfl ?_
  refine zw_iconst dX8_shelf_1 (-1) (by decide) ?_
  by_cases hx : -1 ≤ x
  · refine zw_icmp_ge 10 dX8_shelf_2 (by decide) (fun _ => ?_) (fun hz => absurd (hx) hz)
    refine zw_aload_n dX8_shelf_10 rfl ?_
    refine zw_get dX8_shelf_11 fX8_12 h.1 rfl ?_
    refine zw_get dX8_shelf_14 fX8_89 h.2.1.1 rfl ?_
    refine zw_cV0 dX8_shelf_17 oX6_size kX6_size lX8_181 h.2.1.2.1.1 rfl (Nat.le_of_ble_eq_true rfl) rfl (t_size h.2.1.2.1 ?_)
    show Zw _ _ _ 20 [_, _, _, _] [_] _ _
    refine zw_istore_n [_, _, _, _] dX8_shelf_20 (Nat.le_of_ble_eq_true rfl) rfl ?_
    refine zw_iload_n dX8_shelf_21 rfl ?_
    refine zw_iload_n dX8_shelf_22 rfl ?_
    by_cases hy : x < nI (C 0).1
    · refine zw_icmp_lt 29 dX8_shelf_23 (by decide) (fun _ => ?_) (fun hz => absurd (hy) hz)
      refine zw_aload_n dX8_shelf_29 rfl ?_
      refine zw_get dX8_shelf_30 fX8_49 h.1 rfl ?_
      refine zw_cV0 dX8_shelf_33 oX5_begin kX5_begin lX8_198 hr.1 rfl (Nat.le_of_ble_eq_true rfl) rfl (r_begin hr (fun w1 r1 o1 => ?_))
      show Zw _ _ _ 36 [_, _, _, _] [] _ _
      refine zw_iconst dX8_shelf_36 0 (by decide) ?_
      refine zw_istore_n [_, _, _, _] dX8_shelf_37 (Nat.le_of_ble_eq_true rfl) rfl ?_
      refine l_shelfL (w0 := w) h (fun w2 ks2 o2 r2 q2 z2 => ?_) (C 0).1 0 w1 ks (by omega) r1 o1 (fun j hj => absurd hj (Nat.not_lt_zero _))
      have g := h.rk q2 r2
      refine zw_iload_n dX8_shelf_68 rfl ?_
      refine zw_iconst dX8_shelf_69 (-1) (by decide) ?_
      by_cases he : x = -1
      · refine zw_icmp_ne 81 dX8_shelf_70 (by decide) (fun hz => absurd (he) hz) (fun _ => ?_)
        refine zw_aload_n dX8_shelf_73 rfl ?_
        refine zw_iload_n dX8_shelf_74 rfl ?_
        refine zw_cV1 dX8_shelf_75 oX8_shelfCost kX8_shelfCost lX8_203 g.1 rfl (Nat.le_of_ble_eq_true rfl) rfl (x_shelfCost g r2 ?_)
        show Zw _ _ _ 78 [_, _, _, _] [_] _ _
        refine zw_goto 89 dX8_shelf_78 (by decide) ?_
        refine zw_ireturn .int dX8_shelf_89 rfl rfl (Nat.le_refl _) (Nat.le_refl _) ?_
        rw [shC_congr z2]
        exact kN he w2 g (q2.wd (by decide) (by decide))
      · refine zw_icmp_ne 81 dX8_shelf_70 (by decide) (fun _ => ?_) (fun hz => absurd hz (he))
        refine zw_aload_n dX8_shelf_81 rfl ?_
        refine zw_get dX8_shelf_82 fX8_49 g.1 rfl ?_
        refine zw_iload_n dX8_shelf_85 rfl ?_
        refine zw_cV1 dX8_shelf_86 oX5_itemAt kX5_itemAt lX8_206 r2.1 rfl (Nat.le_of_ble_eq_true rfl) rfl (r_item r2 ?_)
        show Zw _ _ _ 89 [_, _, _, _] [_] _ _
        refine zw_ireturn .int dX8_shelf_89 rfl rfl (Nat.le_refl _) (Nat.le_refl _) ?_
        rw [item_congr z2]
        exact kA hx he hy w2 g (q2.wd (by decide) (by decide))
    · refine zw_icmp_lt 29 dX8_shelf_23 (by decide) (fun hz => absurd hz (hy)) (fun _ => ?_)
      refine zw_bipush dX8_shelf_26 (-5) (by decide) ?_
      refine zw_ireturn .int dX8_shelf_28 rfl rfl (Nat.le_refl _) (Nat.le_refl _) ?_
      exact k5 hx hy
  · refine zw_icmp_ge 10 dX8_shelf_2 (by decide) (fun hz => absurd hz (hx)) (fun _ => ?_)
    refine zw_aload_n dX8_shelf_5 rfl ?_
    refine zw_cV0 dX8_shelf_6 oX8_badToldApart kX8_badToldApart lX8_102 h.1 rfl (Nat.le_of_ble_eq_true rfl) rfl (x_bad10 h (fun w1 h1 o1 => ?_))
    show Zw _ _ _ 9 [_, _, _, _] [_] _ _
    refine zw_ireturn .int dX8_shelf_9 rfl rfl (Nat.le_refl _) (Nat.le_refl _) ?_
    exact kB hx w1 h1 o1
end ZL5
