/-! ===== Ranking, Fraction, Arrays.fill ===== -/
def isRk (w : ZW) (n : Nat) (ks : Nat → Int32) : Prop := zat w 63 (.inr (5, [.ref 64, .int (nI n)])) ∧ zat w 64 (.inl (0, 7, ks)) ∧ n ≤ 7
/-- which items are ahead of it -/
def aheadB (ks : Nat → Int32) (it o : Nat) : Bool := decide (ks it < ks o) || (decide (ks o = ks it) && decide (o < it))
def isFr (w : ZW) (a b : Int64) : Prop := zat w 73 (.inr (3, [.long a, .long b]))
section ZRANK
variable {d n : Nat} {w : ZW} {ks : Nat → Int32} {Q : Option Value → ZW → Prop}
theorem isRk.off {w' : ZW} {lo hi : Nat} (h : isRk w n ks) (ho : zOff lo hi w w') (ht : 65 ≤ lo ∨ hi ≤ 63) : isRk w' n ks := ⟨h.1.off ho (by omega), h.2.1.off ho (by omega), h.2.2⟩
theorem r_begin (h : isRk w n ks) (k : ∀ w', isRk w' 0 ks → zOff 63 65 w w' → Q none w') : Zm d mX5_begin 0 0 [.ref 63] w Q := by
  refine zm_intro [_] oX5_begin (Nat.le_of_ble_eq_true rfl) rfl ?_
  refine zw_aload_n dX5_begin_0 rfl ?_
  refine zw_iconst dX5_begin_1 0 (by decide) ?_
  refine zw_put dX5_begin_2 pX5_15 h.1 (fun _ => rfl) (fun _ => rfl) (Nat.le_of_ble_eq_true rfl) ?_
  refine zw_return dX5_begin_5 rfl (Nat.le_refl _) (Nat.le_refl _) ?_
  exact k _ ⟨h.1.self, h.2.1.put (by decide), Nat.zero_le _⟩ (zOff.pt (by decide) (by decide))
theorem r_add {x : Int32} (h : isRk w n ks) (hn : n < 7) (k : ∀ w', isRk w' (n + 1) (upd ks n x) → zOff 63 65 w w' → Q none w') : Zm d mX5_add 0 0 [.ref 63, .int x] w Q := by
  refine zm_intro [_, _] oX5_add (Nat.le_of_ble_eq_true rfl) rfl ?_
  refine zw_aload_n dX5_add_0 rfl ?_
  refine zw_get dX5_add_1 fX5_15 h.1 rfl ?_
  refine zw_bipush dX5_add_4 7 (by decide) ?_
  refine zw_icmp_ge 29 dX5_add_6 (by decide) (fun hz => absurd hz (nI_ge (b := 7) hn (by decide))) (fun _ => ?_)
  refine zw_aload_n dX5_add_9 rfl ?_
  refine zw_get dX5_add_10 fX5_9 h.1 rfl ?_
  refine zw_aload_n dX5_add_13 rfl ?_
  refine zw_get dX5_add_14 fX5_15 h.1 rfl ?_
  refine zw_iload_n dX5_add_17 rfl ?_
  refine zw_iast dX5_add_18 h.2.1 (vp_in_nI hn (by decide)) ?_
  rw [nI_clamp (by omega)]
  have g := h.1.put (i := 64) (e' := .inl (0, 7, upd ks n x)) (by decide)
  refine zw_aload_n dX5_add_19 rfl ?_
  refine zw_dup dX5_add_20 rfl ?_
  refine zw_get dX5_add_21 fX5_15 g rfl ?_
  refine zw_iconst dX5_add_24 1 (by decide) ?_
  refine zw_iadd dX5_add_25 ?_
  refine zw_top (nI_1 n) ?_
  refine zw_put dX5_add_26 pX5_15 g (fun _ => rfl) (fun _ => rfl) (Nat.le_of_ble_eq_true rfl) ?_
  refine zw_return dX5_add_29 rfl (Nat.le_refl _) (Nat.le_refl _) ?_
  exact k _ ⟨g.self, h.2.1.self.put (by decide), hn⟩ ((zOff.pt (by decide) (by decide)).tr (zOff.pt (by decide) (by decide)))
theorem r_placeL {it : Nat} (h : isRk w n ks) (hit : it < n) : ∀ (k i a : Nat), i + k = n → Q (some (.int (nI (a + cnt (aheadB ks it) i k)))) w → Zw d mX5_placeOf z0 4 [some (.ref 63), some (.int (nI it)), some (.int (nI a)), some (.int (nI i))] [] w Q := by
  have h7 := h.2.2
  intro k
  induction k with
  | zero =>
    intro i a hi kk
    refine zw_iload_n dX5_placeOf_4 rfl ?_
    refine zw_aload_n dX5_placeOf_5 rfl ?_
    refine zw_get dX5_placeOf_6 fX5_15 h.1 rfl ?_
    refine zw_icmp_ge 56 dX5_placeOf_9 (by decide) (fun _ => ?_) (fun hz => absurd (nI_le (by omega) (by omega)) hz)
    refine zw_iload_n dX5_placeOf_56 rfl ?_
    refine zw_ireturn .int dX5_placeOf_57 rfl rfl (Nat.le_refl _) (Nat.le_refl _) ?_
    exact kk
  | succ k ih =>
    intro i a hi kk
    unfold cnt at kk
    have fin1 : aheadB ks it i = true → Zw d mX5_placeOf z0 47 [some (.ref 63), some (.int (nI it)), some (.int (nI a)), some (.int (nI i))] [] w Q := by
      intro hc
      rw [if_pos hc] at kk
      refine zw_iinc (nI (a + 1)) [_, _, _, _] dX5_placeOf_47 rfl (nI_1 a) rfl ?_
      refine zw_iinc (nI (i + 1)) [_, _, _, _] dX5_placeOf_50 rfl (nI_1 i) rfl ?_
      refine zw_goto 4 dX5_placeOf_53 (by decide) ?_
      refine ih (i + 1) (a + 1) (by omega) ?_
      rwa [Nat.add_assoc]
    have fin0 : aheadB ks it i = false → Zw d mX5_placeOf z0 50 [some (.ref 63), some (.int (nI it)), some (.int (nI a)), some (.int (nI i))] [] w Q := by
      intro hc
      rw [if_neg (by rw [hc]; decide), Nat.zero_add] at kk
      refine zw_iinc (nI (i + 1)) [_, _, _, _] dX5_placeOf_50 rfl (nI_1 i) rfl ?_
      refine zw_goto 4 dX5_placeOf_53 (by decide) ?_
      exact ih (i + 1) a (by omega) kk
    refine zw_iload_n dX5_placeOf_4 rfl ?_
    refine zw_aload_n dX5_placeOf_5 rfl ?_
    refine zw_get dX5_placeOf_6 fX5_15 h.1 rfl ?_
    refine zw_icmp_ge 56 dX5_placeOf_9 (by decide) (fun hz => absurd hz (nI_ge (by omega) (by omega))) (fun _ => ?_)
    refine zw_aload_n dX5_placeOf_12 rfl ?_
    refine zw_get dX5_placeOf_13 fX5_9 h.1 rfl ?_
    refine zw_iload_n dX5_placeOf_16 rfl ?_
    refine zw_iald dX5_placeOf_17 h.2.1 (vp_in_nI (by omega) (by decide)) ?_
    rw [nI_clamp (by omega)]
    refine zw_aload_n dX5_placeOf_18 rfl ?_
    refine zw_get dX5_placeOf_19 fX5_9 h.1 rfl ?_
    refine zw_iload_n dX5_placeOf_22 rfl ?_
    refine zw_iald dX5_placeOf_23 h.2.1 (vp_in_nI (by omega) (by decide)) ?_
    rw [nI_clamp (by omega)]
    refine zw_icmp_gt 47 dX5_placeOf_24 (by decide) (fun h1 => ?_) (fun h1 => ?_)
    · exact fin1 (by simp [aheadB, h1])
    · refine zw_aload_n dX5_placeOf_27 rfl ?_
      refine zw_get dX5_placeOf_28 fX5_9 h.1 rfl ?_
      refine zw_iload_n dX5_placeOf_31 rfl ?_
      refine zw_iald dX5_placeOf_32 h.2.1 (vp_in_nI (by omega) (by decide)) ?_
      rw [nI_clamp (by omega)]
      refine zw_aload_n dX5_placeOf_33 rfl ?_
      refine zw_get dX5_placeOf_34 fX5_9 h.1 rfl ?_
      refine zw_iload_n dX5_placeOf_37 rfl ?_
      refine zw_iald dX5_placeOf_38 h.2.1 (vp_in_nI (by omega) (by decide)) ?_
      rw [nI_clamp (by omega)]
      refine zw_icmp_ne 50 dX5_placeOf_39 (by decide) (fun h2 => ?_) (fun h2 => ?_)
      · exact fin0 (by simp only [aheadB, decide_eq_false h1, decide_eq_false h2, Bool.false_or, Bool.false_and])
      · refine zw_iload_n dX5_placeOf_42 rfl ?_
        refine zw_iload_n dX5_placeOf_43 rfl ?_
        refine zw_icmp_ge 50 dX5_placeOf_44 (by decide) (fun h3 => ?_) (fun h3 => ?_)
        · exact fin0 (by simp only [aheadB, decide_eq_false h1, Bool.false_or, decide_eq_false (fun z => nI_ge (a := i) (b := it) z (by omega) h3), Bool.and_false])
        · exact fin1 (by simp only [aheadB, decide_eq_true h2, decide_eq_true (show i < it from by rcases Nat.lt_or_ge i it with q | q; exact q; exact absurd (nI_le q (by omega)) h3), Bool.and_true, Bool.or_true])
def placeN (ks : Nat → Int32) (n it : Nat) : Nat := cnt (aheadB ks it) 0 n
theorem r_place {it : Nat} (h : isRk w n ks) (hit : it < n) (k : Q (some (.int (nI (placeN ks n it)))) w) : Zm d mX5_placeOf 0 0 [.ref 63, .int (nI it)] w Q := by
  refine zm_intro [_, _, _, _] oX5_placeOf (Nat.le_of_ble_eq_true rfl) rfl ?_
  refine zw_iconst dX5_placeOf_0 0 (by decide) ?_
  refine zw_istore_n [_, _, _, _] dX5_placeOf_1 (Nat.le_of_ble_eq_true rfl) rfl ?_
  refine zw_iconst dX5_placeOf_2 0 (by decide) ?_
  refine zw_istore_n [_, _, _, _] dX5_placeOf_3 (Nat.le_of_ble_eq_true rfl) rfl ?_
  exact r_placeL h hit n 0 0 (by omega) (by rw [Nat.zero_add]; exact k)
theorem r_itemL {x : Int32} (h : isRk w n ks) : ∀ (k i : Nat), i + k = n → Q (some (.int (fnd (fun it => decide (nI (placeN ks n it) = x)) i k))) w → Zw (d + 1) mX5_itemAt z0 2 [some (.ref 63), some (.int x), some (.int (nI i))] [] w Q := by
  have h7 := h.2.2
  intro k
  induction k with
  | zero =>
    intro i hi kk
    refine zw_iload_n dX5_itemAt_2 rfl ?_
    refine zw_aload_n dX5_itemAt_3 rfl ?_
    refine zw_get dX5_itemAt_4 fX5_15 h.1 rfl ?_
    refine zw_icmp_ge 27 dX5_itemAt_7 (by decide) (fun _ => ?_) (fun hz => absurd (nI_le (by omega) (by omega)) hz)
    refine zw_iconst dX5_itemAt_27 (-1) (by decide) ?_
    refine zw_ireturn .int dX5_itemAt_28 rfl rfl (Nat.le_refl _) (Nat.le_refl _) ?_
    exact kk
  | succ k ih =>
    intro i hi kk
    refine zw_iload_n dX5_itemAt_2 rfl ?_
    refine zw_aload_n dX5_itemAt_3 rfl ?_
    refine zw_get dX5_itemAt_4 fX5_15 h.1 rfl ?_
    refine zw_icmp_ge 27 dX5_itemAt_7 (by decide) (fun hz => absurd hz (nI_ge (by omega) (by omega))) (fun _ => ?_)
    refine zw_aload_n dX5_itemAt_10 rfl ?_
    refine zw_iload_n dX5_itemAt_11 rfl ?_
    refine zw_cV1 dX5_itemAt_12 oX5_placeOf kX5_placeOf lX5_19 h.1 rfl (Nat.le_of_ble_eq_true rfl) rfl (r_place h (by omega) ?_)
    show Zw _ _ _ 15 [_, _, _] [_] _ _
    refine zw_iload_n dX5_itemAt_15 rfl ?_
    refine zw_icmp_ne 21 dX5_itemAt_16 (by decide) (fun hx => ?_) (fun hx => ?_)
    · refine zw_iinc (nI (i + 1)) [_, _, _] dX5_itemAt_21 rfl (nI_1 i) rfl ?_
      refine zw_goto 2 dX5_itemAt_24 (by decide) ?_
      refine ih (i + 1) (by omega) ?_
      simpa [fnd, hx] using kk
    · refine zw_iload_n dX5_itemAt_19 rfl ?_
      refine zw_ireturn .int dX5_itemAt_20 rfl rfl (Nat.le_refl _) (Nat.le_refl _) ?_
      simpa [fnd, hx] using kk
def itemN (ks : Nat → Int32) (n : Nat) (x : Int32) : Int32 := fnd (fun it => decide (nI (placeN ks n it) = x)) 0 n
theorem r_item {x : Int32} (h : isRk w n ks) (k : Q (some (.int (itemN ks n x))) w) : Zm (d + 1) mX5_itemAt 0 0 [.ref 63, .int x] w Q := by
  refine zm_intro [_, _, _] oX5_itemAt (Nat.le_of_ble_eq_true rfl) rfl ?_
  refine zw_iconst dX5_itemAt_0 0 (by decide) ?_
  refine zw_istore_n [_, _, _] dX5_itemAt_1 (Nat.le_of_ble_eq_true rfl) rfl ?_
  exact r_itemL h n 0 (by omega) k
/-! the greatest divisor -/
def gcdF (n x y : Nat) : Nat := match n with
  | 0 => x
  | n + 1 => if y = 0 then x else gcdF n y (x % y)
theorem lcmp_eq {x y : Int64} : lg_cmp x y = 0 ↔ x = y := by
  unfold lg_cmp
  constructor
  · intro h
    split at h
    · exact absurd h (by decide)
    · split at h
      · assumption
      · exact absurd h (by decide)
  · intro h
    subst h
    rw [if_neg (Int64.lt_irrefl), if_pos rfl]
theorem f_gcdL : ∀ (k i x y : Nat) (o : Option Value), i + k = 128 → x < 2 ^ 63 → y < 2 ^ 63 → Q (some (.long (lN (gcdF k x y)))) w → Zw d mX3_greatestDivisor z0 3 [some (.long (lN x)), none, some (.long (lN y)), none, some (.int (nI i)), o, none] [] w Q := by
  intro k
  induction k with
  | zero =>
    intro i x y o hi hx hy kk
    refine zw_iload dX3_greatestDivisor_3 rfl ?_
    refine zw_sipush dX3_greatestDivisor_5 128 (by decide) ?_
    refine zw_icmp_ge 33 dX3_greatestDivisor_8 (by decide) (fun _ => ?_) (fun hz => absurd (nI_le (a := 128) (b := i) (by omega) (by omega)) hz)
    refine zw_lload_n dX3_greatestDivisor_33 rfl ?_
    refine zw_lreturn dX3_greatestDivisor_34 rfl (Nat.le_refl _) (Nat.le_refl _) ?_
    exact kk
  | succ k ih =>
    intro i x y o hi hx hy kk
    unfold gcdF at kk
    refine zw_iload dX3_greatestDivisor_3 rfl ?_
    refine zw_sipush dX3_greatestDivisor_5 128 (by decide) ?_
    refine zw_icmp_ge 33 dX3_greatestDivisor_8 (by decide) (fun hz => absurd hz (nI_ge (b := 128) (by omega) (by decide))) (fun _ => ?_)
    refine zw_lload_n dX3_greatestDivisor_11 rfl ?_
    refine zw_lconst dX3_greatestDivisor_12 0 (by decide) ?_
    refine zw_lcmp dX3_greatestDivisor_13 ?_
    refine zw_if_eq 33 dX3_greatestDivisor_14 (by decide) (fun hz => ?_) (fun hz => ?_)
    · refine zw_lload_n dX3_greatestDivisor_33 rfl ?_
      refine zw_lreturn dX3_greatestDivisor_34 rfl (Nat.le_refl _) (Nat.le_refl _) ?_
      have e : y = 0 := (pk_lEQ (b := 0) hy (by decide)).mp (lcmp_eq.mp hz)
      rwa [if_pos e] at kk
    · have hne : ¬ lN y = 0 := fun z => hz (lcmp_eq.mpr z)
      have e : ¬ y = 0 := fun z => hne ((pk_lEQ (b := 0) hy (by decide)).mpr z)
      rw [if_neg e] at kk
      refine zw_lload_n dX3_greatestDivisor_17 rfl ?_
      refine zw_lload_n dX3_greatestDivisor_18 rfl ?_
      refine zw_lrem dX3_greatestDivisor_19 (hne) ?_
      refine zw_topl (pk_lRem hx (by omega) hy) ?_
      refine zw_lstore [_, _, _, _, _, _, _] dX3_greatestDivisor_20 (Nat.le_of_ble_eq_true rfl) rfl ?_
      refine zw_lload_n dX3_greatestDivisor_22 rfl ?_
      refine zw_lstore_n [_, _, _, _, _, _, _] dX3_greatestDivisor_23 (Nat.le_of_ble_eq_true rfl) rfl ?_
      refine zw_lload dX3_greatestDivisor_24 rfl ?_
      refine zw_lstore_n [_, _, _, _, _, _, _] dX3_greatestDivisor_26 (Nat.le_of_ble_eq_true rfl) rfl ?_
      refine zw_iinc (nI (i + 1)) [_, _, _, _, _, _, _] dX3_greatestDivisor_27 rfl (nI_1 i) rfl ?_
      refine zw_goto 3 dX3_greatestDivisor_30 (by decide) ?_
      exact ih (i + 1) y (x % y) _ (by omega) hy (Nat.lt_of_lt_of_le (Nat.mod_lt _ (by omega)) (by omega)) kk
theorem f_gcd {x y : Nat} (hx : x < 2 ^ 63) (hy : y < 2 ^ 63) (k : Q (some (.long (lN (gcdF 128 x y)))) w) : Zm d mX3_greatestDivisor 0 0 [.long (lN x), .long (lN y)] w Q := by
  refine zm_intro [_, _, _, _, _, _, _] oX3_greatestDivisor (Nat.le_of_ble_eq_true rfl) rfl ?_
  refine zw_iconst dX3_greatestDivisor_0 0 (by decide) ?_
  refine zw_istore [_, _, _, _, _, _, _] dX3_greatestDivisor_1 (Nat.le_of_ble_eq_true rfl) rfl ?_
  exact f_gcdL 128 0 x y _ (by decide) hx hy k
theorem gcdF_le : ∀ (n x y : Nat), x < 2 ^ 63 → y < 2 ^ 63 → gcdF n x y < 2 ^ 63
  | 0, x, y, hx, _ => hx
  | n + 1, x, y, hx, hy => by
    unfold gcdF
    split
    · exact hx
    · exact gcdF_le n y (x % y) hy (Nat.lt_of_le_of_lt (Nat.mod_le _ _) hx)
theorem f_become {a b : Int64} {x y : Nat} (h : isFr w a b) (hx : x < 2 ^ 63) (hy : y < 2 ^ 63) (hg : 0 < gcdF 128 x y) (k : ∀ w', isFr w' (lN (x / gcdF 128 x y)) (lN (y / gcdF 128 x y)) → zOff 73 74 w w' → Q none w') : Zm (d + 1) mX3_become 0 0 [.ref 73, .long (lN x), .long (lN y)] w Q := by
  have hl := gcdF_le 128 x y hx hy
  have hne : ¬ lN (gcdF 128 x y) = 0 := fun z => by
    have := (pk_lEQ (b := 0) hl (by decide)).mp z
    omega
  refine zm_intro [_, _, _, _, _, _, _] oX3_become (Nat.le_of_ble_eq_true rfl) rfl ?_
  refine zw_lload_n dX3_become_0 rfl ?_
  refine zw_lload_n dX3_become_1 rfl ?_
  refine zw_cS2 dX3_become_2 oX3_greatestDivisor kX3_greatestDivisor lX3_13 (Nat.le_of_ble_eq_true rfl) rfl (f_gcd hx hy ?_)
  show Zw _ _ _ 5 [_, _, _, _, _, _, _] [_] _ _
  refine zw_lstore [_, _, _, _, _, _, _] dX3_become_5 (Nat.le_of_ble_eq_true rfl) rfl ?_
  refine zw_lload dX3_become_7 rfl ?_
  refine zw_lconst dX3_become_9 0 (by decide) ?_
  refine zw_lcmp dX3_become_10 ?_
  refine zw_if_le 30 dX3_become_11 (by decide) (fun hz => absurd hz (fun z => by have := (lg_cmp_le _ _).mp z; have := (pk_lLE (b := 0) hl (by decide)).mp this; omega)) (fun _ => ?_)
  refine zw_aload_n dX3_become_14 rfl ?_
  refine zw_lload_n dX3_become_15 rfl ?_
  refine zw_lload dX3_become_16 rfl ?_
  refine zw_ldiv dX3_become_18 (hne) ?_
  refine zw_topl (pk_lDiv hx hg hl) ?_
  refine zw_put dX3_become_19 pX3_17 h (fun _ => rfl) (fun _ => rfl) (Nat.le_of_ble_eq_true rfl) ?_
  have g := h.self (e' := .inr (3, [.long (lN (x / gcdF 128 x y)), .long b]))
  refine zw_aload_n dX3_become_22 rfl ?_
  refine zw_lload_n dX3_become_23 rfl ?_
  refine zw_lload dX3_become_24 rfl ?_
  refine zw_ldiv dX3_become_26 (hne) ?_
  refine zw_topl (pk_lDiv hy hg hl) ?_
  refine zw_put dX3_become_27 pX3_7 g (fun _ => rfl) (fun _ => rfl) (Nat.le_of_ble_eq_true rfl) ?_
  refine zw_return dX3_become_30 rfl (Nat.le_refl _) (Nat.le_refl _) ?_
  exact k _ g.self ((zOff.pt (by decide) (by decide)).tr (zOff.pt (by decide) (by decide)))
theorem j_fillL {a n : Nat} {x : Int32} (hn : n < 1000) {w0 : ZW} (hK : ∀ w f, zat w a (.inl (0, n, f)) → zOff a (a + 1) w0 w → (∀ j, j < n → f j = x) → Q none w) : ∀ (k i : Nat) (w : ZW) (f : Nat → Int32), i + k = n → zat w a (.inl (0, n, f)) → zOff a (a + 1) w0 w → (∀ j, j < i → f j = x) → Zw d mJ7_fill_53178 z0 5 [some (.ref a), some (.int x), some (.int (nI i)), some (.int (nI n))] [] w Q := by
  intro k
  induction k with
  | zero =>
    intro i w f hi h ho hz
    refine zw_iload_n dJ7_fill_53178_5 rfl ?_
    refine zw_iload_n dJ7_fill_53178_6 rfl ?_
    refine zw_icmp_ge 20 dJ7_fill_53178_7 (by decide) (fun _ => ?_) (fun hz => absurd (nI_le (by omega) (by omega)) hz)
    refine zw_return dJ7_fill_53178_20 rfl (Nat.le_refl _) (Nat.le_refl _) ?_
    exact hK w f h ho (fun j hj => hz j (by omega))
  | succ k ih =>
    intro i w f hi h ho hz
    refine zw_iload_n dJ7_fill_53178_5 rfl ?_
    refine zw_iload_n dJ7_fill_53178_6 rfl ?_
    refine zw_icmp_ge 20 dJ7_fill_53178_7 (by decide) (fun hz => absurd hz (nI_ge (by omega) (by omega))) (fun _ => ?_)
    refine zw_aload_n dJ7_fill_53178_10 rfl ?_
    refine zw_iload_n dJ7_fill_53178_11 rfl ?_
    refine zw_iload_n dJ7_fill_53178_12 rfl ?_
    refine zw_iast dJ7_fill_53178_13 h (vp_in_nI (by omega) (by omega)) ?_
    rw [nI_clamp (by omega)]
    refine zw_iinc (nI (i + 1)) [_, _, _, _] dJ7_fill_53178_14 rfl (nI_1 i) rfl ?_
    refine zw_goto 5 dJ7_fill_53178_17 (by decide) ?_
    refine ih (i + 1) _ _ (by omega) h.self (ho.tr (zOff.pt (Nat.le_refl _) (Nat.lt_succ_self _))) (fun j hj => ?_)
    by_cases e : j = i
    · subst e; simp [upd]
    · simp only [upd, if_neg e]; exact hz j (by omega)
theorem j_fill {a n : Nat} {x : Int32} {f : Nat → Int32} (hn : n < 1000) (h : zat w a (.inl (0, n, f))) (hK : ∀ w' f', zat w' a (.inl (0, n, f')) → zOff a (a + 1) w w' → (∀ j, j < n → f' j = x) → Q none w') : Zm d mJ7_fill_53178 0 0 [.ref a, .int x] w Q := by
  refine zm_intro [_, _, _, _] oJ7_fill_53178 (Nat.le_of_ble_eq_true rfl) rfl ?_
  refine zw_iconst dJ7_fill_53178_0 0 (by decide) ?_
  refine zw_istore_n [_, _, _, _] dJ7_fill_53178_1 (Nat.le_of_ble_eq_true rfl) rfl ?_
  refine zw_aload_n dJ7_fill_53178_2 rfl ?_
  refine zw_alen dJ7_fill_53178_3 h (by decide) ?_
  refine zw_istore_n [_, _, _, _] dJ7_fill_53178_4 (Nat.le_of_ble_eq_true rfl) rfl ?_
  exact j_fillL hn hK n 0 w f (by omega) h zOff.rf (fun j hj => absurd hj (Nat.not_lt_zero _))
end ZRANK
