/-! ===== Table ===== -/
/-- a table at t: so wide, with room for R rows; how many rows it has, and its cells -/
def isT (w : ZW) (t W R : Nat) (q : Nat × (Nat → Int32)) : Prop := zat w t (.inr (6, [.int (nI W), .int (nI R), .ref (t + 1), .int (nI q.1)])) ∧ zat w (t + 1) (.inl (0, W * R, q.2)) ∧ q.1 ≤ R ∧ 3 ≤ W ∧ W ≤ 5 ∧ R ≤ 12
theorem isT.off {w w' : ZW} {t W R lo hi : Nat} {q : Nat × (Nat → Int32)} (h : isT w t W R q) (ho : zOff lo hi w w') (ht : t + 1 < lo ∨ hi ≤ t) : isT w' t W R q := ⟨h.1.off ho (by omega), h.2.1.off ho (by omega), h.2.2⟩
theorem isT_cell {W R r c n : Nat} (hr : r < n) (hc : c < W) (hn : n ≤ R) : r * W + c < W * R := by
  have h1 : (r + 1) * W ≤ R * W := Nat.mul_le_mul_right W (by omega)
  rw [Nat.succ_mul] at h1
  rw [Nat.mul_comm W R]
  omega
theorem isT_small {W R : Nat} (h1 : W ≤ 5) (h2 : R ≤ 12) : W * R ≤ 60 := Nat.mul_le_mul h1 h2
theorem isT_ix {W r c : Nat} : nI r * nI W + nI c = nI (r * W + c) := by rw [pk_mul, nI_add]
section ZTAB
variable {d t W R : Nat} {w : ZW} {q : Nat × (Nat → Int32)} {Q : Option Value → ZW → Prop}
theorem t_size (h : isT w t W R q) (k : Q (some (.int (nI q.1))) w) : Zm d mX6_size 0 0 [.ref t] w Q := by
  refine zm_intro [_] oX6_size (Nat.le_of_ble_eq_true rfl) rfl ?_
  refine zw_aload_n dX6_size_0 rfl ?_
  refine zw_get dX6_size_1 fX6_28 h.1 rfl ?_
  refine zw_ireturn .int dX6_size_4 rfl rfl (Nat.le_refl _) (Nat.le_refl _) ?_
  exact k
theorem t_contains {x : Int32} (h : isT w t W R q) (k1 : ∀ r, r < q.1 → x = nI r → Q (some (.int 1)) w) (k0 : (∀ r, r < q.1 → ¬ x = nI r) → Q (some (.int 0)) w) : Zm d mX6_contains 0 0 [.ref t, .int x] w Q := by
  obtain ⟨-, -, hb1, hb2⟩ := id h
  refine zm_intro [_, _] oX6_contains (Nat.le_of_ble_eq_true rfl) rfl ?_
  refine zw_iconst dX6_contains_0 0 (by decide) ?_
  refine zw_iload_n dX6_contains_1 rfl ?_
  refine zw_icmp_gt 17 dX6_contains_2 (by decide) (fun hb => ?_) (fun hb => ?_)
  · refine zw_iconst dX6_contains_17 0 (by decide) ?_
    refine zw_ireturn .boolean dX6_contains_18 rfl rfl (Nat.le_refl _) (Nat.le_refl _) ?_
    exact k0 (fun r hr e => nI_pos (by omega) (e ▸ hb))
  · refine zw_iload_n dX6_contains_5 rfl ?_
    refine zw_aload_n dX6_contains_6 rfl ?_
    refine zw_get dX6_contains_7 fX6_28 h.1 rfl ?_
    refine zw_icmp_ge 17 dX6_contains_10 (by decide) (fun hc => ?_) (fun hc => ?_)
    · refine zw_iconst dX6_contains_17 0 (by decide) ?_
      refine zw_ireturn .boolean dX6_contains_18 rfl rfl (Nat.le_refl _) (Nat.le_refl _) ?_
      exact k0 (fun r hr e => nI_ge hr (by omega) (e ▸ hc))
    · refine zw_iconst dX6_contains_13 1 (by decide) ?_
      refine zw_goto 18 dX6_contains_14 (by decide) ?_
      refine zw_ireturn .boolean dX6_contains_18 rfl rfl (Nat.le_refl _) (Nat.le_refl _) ?_
      rcases pk_ix x (n := q.1) (by omega) with h1 | h1 | ⟨j, hj, e⟩
      · exact absurd h1 hb
      · exact absurd h1 hc
      · exact k1 j hj e
theorem t_isCell {r c : Nat} (h : isT w t W R q) (hr : r < q.1) (hc : c < W) (k : Q (some (.int 1)) w) : Zm d mX6_isCell 0 0 [.ref t, .int (nI r), .int (nI c)] w Q := by
  obtain ⟨-, -, hb1, hb0, hb2, hb3⟩ := id h
  refine zm_intro [_, _, _] oX6_isCell (Nat.le_of_ble_eq_true rfl) rfl ?_
  refine zw_iconst dX6_isCell_0 0 (by decide) ?_
  refine zw_iload_n dX6_isCell_1 rfl ?_
  refine zw_icmp_gt 30 dX6_isCell_2 (by decide) (fun hz => absurd hz (nI_pos (by omega))) (fun _ => ?_)
  refine zw_iload_n dX6_isCell_5 rfl ?_
  refine zw_aload_n dX6_isCell_6 rfl ?_
  refine zw_get dX6_isCell_7 fX6_28 h.1 rfl ?_
  refine zw_icmp_ge 30 dX6_isCell_10 (by decide) (fun hz => absurd hz (nI_ge hr (by omega))) (fun _ => ?_)
  refine zw_iconst dX6_isCell_13 0 (by decide) ?_
  refine zw_iload_n dX6_isCell_14 rfl ?_
  refine zw_icmp_gt 30 dX6_isCell_15 (by decide) (fun hz => absurd hz (nI_pos (by omega))) (fun _ => ?_)
  refine zw_iload_n dX6_isCell_18 rfl ?_
  refine zw_aload_n dX6_isCell_19 rfl ?_
  refine zw_get dX6_isCell_20 fX6_15 h.1 rfl ?_
  refine zw_icmp_ge 30 dX6_isCell_23 (by decide) (fun hz => absurd hz (nI_ge hc (by omega))) (fun _ => ?_)
  refine zw_iconst dX6_isCell_26 1 (by decide) ?_
  refine zw_goto 31 dX6_isCell_27 (by decide) ?_
  refine zw_ireturn .boolean dX6_isCell_31 rfl rfl (Nat.le_refl _) (Nat.le_refl _) ?_
  exact k
theorem t_isCellN {x y : Int32} (h : isT w t W R q) (hx : ∀ r, r < q.1 → ¬ x = nI r) (k : Q (some (.int 0)) w) : Zm d mX6_isCell 0 0 [.ref t, .int x, .int y] w Q := by
  obtain ⟨-, -, hb1, hb0, hb2, hb3⟩ := id h
  refine zm_intro [_, _, _] oX6_isCell (Nat.le_of_ble_eq_true rfl) rfl ?_
  refine zw_iconst dX6_isCell_0 0 (by decide) ?_
  refine zw_iload_n dX6_isCell_1 rfl ?_
  refine zw_icmp_gt 30 dX6_isCell_2 (by decide) (fun hb => ?_) (fun hb => ?_)
  · refine zw_iconst dX6_isCell_30 0 (by decide) ?_
    refine zw_ireturn .boolean dX6_isCell_31 rfl rfl (Nat.le_refl _) (Nat.le_refl _) ?_
    exact k
  · refine zw_iload_n dX6_isCell_5 rfl ?_
    refine zw_aload_n dX6_isCell_6 rfl ?_
    refine zw_get dX6_isCell_7 fX6_28 h.1 rfl ?_
    refine zw_icmp_ge 30 dX6_isCell_10 (by decide) (fun hc => ?_) (fun hc => ?_)
    · refine zw_iconst dX6_isCell_30 0 (by decide) ?_
      refine zw_ireturn .boolean dX6_isCell_31 rfl rfl (Nat.le_refl _) (Nat.le_refl _) ?_
      exact k
    · rcases pk_ix x (n := q.1) (by omega) with h1 | h1 | ⟨j, hj, e⟩
      · exact absurd h1 hb
      · exact absurd h1 hc
      · exact absurd e (hx j hj)
theorem t_at {r c : Nat} (h : isT w t W R q) (hr : r < q.1) (hc : c < W) (k : Q (some (.int (q.2 (r * W + c)))) w) : Zm (d + 1) mX6_at 0 0 [.ref t, .int (nI r), .int (nI c)] w Q := by
  obtain ⟨-, -, hb1, hb0, hb2, hb3⟩ := id h
  have hs := isT_small hb2 hb3
  have hx := isT_cell hr hc hb1
  refine zm_intro [_, _, _] oX6_at (Nat.le_of_ble_eq_true rfl) rfl ?_
  refine zw_aload_n dX6_at_0 rfl ?_
  refine zw_iload_n dX6_at_1 rfl ?_
  refine zw_iload_n dX6_at_2 rfl ?_
  refine zw_cV2 dX6_at_3 oX6_isCell kX6_isCell lX6_31 h.1 rfl (Nat.le_of_ble_eq_true rfl) rfl (t_isCell h hr hc ?_)
  show Zw _ _ _ _ [_, _, _] [_] _ _
  refine zw_if_eq 25 dX6_at_6 (by decide) (fun hz => absurd hz (by decide)) (fun _ => ?_)
  refine zw_aload_n dX6_at_9 rfl ?_
  refine zw_get dX6_at_10 fX6_24 h.1 rfl ?_
  refine zw_iload_n dX6_at_13 rfl ?_
  refine zw_aload_n dX6_at_14 rfl ?_
  refine zw_get dX6_at_15 fX6_15 h.1 rfl ?_
  refine zw_imul dX6_at_18 ?_
  refine zw_iload_n dX6_at_19 rfl ?_
  refine zw_iadd dX6_at_20 ?_
  refine zw_top (isT_ix) ?_
  refine zw_iald dX6_at_21 h.2.1 (vp_in_nI hx (by omega)) ?_
  refine zw_goto 26 dX6_at_22 (by decide) ?_
  refine zw_ireturn .int dX6_at_26 rfl rfl (Nat.le_refl _) (Nat.le_refl _) ?_
  rw [nI_clamp (by omega)]
  exact k
theorem t_change {r c : Nat} {x : Int32} (h : isT w t W R q) (hr : r < q.1) (hc : c < W) (k : ∀ w', isT w' t W R (q.1, upd q.2 (r * W + c) x) → zOff t (t + 2) w w' → Q none w') : Zm (d + 1) mX6_change 0 0 [.ref t, .int (nI r), .int (nI c), .int x] w Q := by
  obtain ⟨-, -, hb1, hb0, hb2, hb3⟩ := id h
  have hs := isT_small hb2 hb3
  have hx := isT_cell hr hc hb1
  refine zm_intro [_, _, _, _] oX6_change (Nat.le_of_ble_eq_true rfl) rfl ?_
  refine zw_aload_n dX6_change_0 rfl ?_
  refine zw_iload_n dX6_change_1 rfl ?_
  refine zw_iload_n dX6_change_2 rfl ?_
  refine zw_cV2 dX6_change_3 oX6_isCell kX6_isCell lX6_31 h.1 rfl (Nat.le_of_ble_eq_true rfl) rfl (t_isCell h hr hc ?_)
  show Zw _ _ _ _ [_, _, _, _] [_] _ _
  refine zw_if_eq 23 dX6_change_6 (by decide) (fun hz => absurd hz (by decide)) (fun _ => ?_)
  refine zw_aload_n dX6_change_9 rfl ?_
  refine zw_get dX6_change_10 fX6_24 h.1 rfl ?_
  refine zw_iload_n dX6_change_13 rfl ?_
  refine zw_aload_n dX6_change_14 rfl ?_
  refine zw_get dX6_change_15 fX6_15 h.1 rfl ?_
  refine zw_imul dX6_change_18 ?_
  refine zw_iload_n dX6_change_19 rfl ?_
  refine zw_iadd dX6_change_20 ?_
  refine zw_top (isT_ix) ?_
  refine zw_iload_n dX6_change_21 rfl ?_
  refine zw_iast dX6_change_22 h.2.1 (vp_in_nI hx (by omega)) ?_
  refine zw_return dX6_change_23 rfl (Nat.le_refl _) (Nat.le_refl _) ?_
  rw [nI_clamp (by omega)]
  exact k _ ⟨h.1.put (by omega), h.2.1.self, h.2.2⟩ (zOff.pt (by omega) (by omega))
theorem t_changeN {x y z : Int32} (h : isT w t W R q) (hx : ∀ r, r < q.1 → ¬ x = nI r) (k : Q none w) : Zm (d + 1) mX6_change 0 0 [.ref t, .int x, .int y, .int z] w Q := by
  refine zm_intro [_, _, _, _] oX6_change (Nat.le_of_ble_eq_true rfl) rfl ?_
  refine zw_aload_n dX6_change_0 rfl ?_
  refine zw_iload_n dX6_change_1 rfl ?_
  refine zw_iload_n dX6_change_2 rfl ?_
  refine zw_cV2 dX6_change_3 oX6_isCell kX6_isCell lX6_31 h.1 rfl (Nat.le_of_ble_eq_true rfl) rfl (t_isCellN h hx ?_)
  show Zw _ _ _ _ [_, _, _, _] [_] _ _
  refine zw_if_eq 23 dX6_change_6 (by decide) (fun _ => ?_) (fun hz => absurd (rfl) hz)
  refine zw_return dX6_change_23 rfl (Nat.le_refl _) (Nat.le_refl _) ?_
  exact k
theorem t_drop (h : isT w t W R q) (k : ∀ w', isT w' t W R (0, q.2) → zOff t (t + 2) w w' → Q (some (.int (nI q.1))) w') : Zm d mX6_drop 0 0 [.ref t] w Q := by
  refine zm_intro [_, _] oX6_drop (Nat.le_of_ble_eq_true rfl) rfl ?_
  refine zw_aload_n dX6_drop_0 rfl ?_
  refine zw_get dX6_drop_1 fX6_28 h.1 rfl ?_
  refine zw_istore_n [_, _] dX6_drop_4 (Nat.le_of_ble_eq_true rfl) rfl ?_
  refine zw_aload_n dX6_drop_5 rfl ?_
  refine zw_iconst dX6_drop_6 0 (by decide) ?_
  refine zw_put dX6_drop_7 pX6_28 h.1 (fun _ => rfl) (fun _ => rfl) (Nat.le_of_ble_eq_true rfl) ?_
  refine zw_iload_n dX6_drop_10 rfl ?_
  refine zw_ireturn .int dX6_drop_11 rfl rfl (Nat.le_refl _) (Nat.le_refl _) ?_
  exact k _ ⟨h.1.self, h.2.1.put (by omega), Nat.zero_le _, h.2.2.2⟩ (zOff.pt (by omega) (by omega))
theorem t_dropLast {n : Nat} {f : Nat → Int32} (h : isT w t W R (n + 1, f)) (k : ∀ w', isT w' t W R (n, f) → zOff t (t + 2) w w' → Q none w') : Zm d mX6_dropLast 0 0 [.ref t] w Q := by
  obtain ⟨-, -, hb1, hb0, hb2, hb3⟩ := id h
  dsimp only at hb1
  refine zm_intro [_] oX6_dropLast (Nat.le_of_ble_eq_true rfl) rfl ?_
  refine zw_aload_n dX6_dropLast_0 rfl ?_
  refine zw_get dX6_dropLast_1 fX6_28 h.1 rfl ?_
  refine zw_if_le 17 dX6_dropLast_4 (by decide) (fun hz => absurd hz (nI_nle (by omega) (by omega))) (fun _ => ?_)
  refine zw_aload_n dX6_dropLast_7 rfl ?_
  refine zw_dup dX6_dropLast_8 rfl ?_
  refine zw_get dX6_dropLast_9 fX6_28 h.1 rfl ?_
  refine zw_iconst dX6_dropLast_12 1 (by decide) ?_
  refine zw_isub dX6_dropLast_13 ?_
  refine zw_top (nI_pred n) ?_
  refine zw_put dX6_dropLast_14 pX6_28 h.1 (fun _ => rfl) (fun _ => rfl) (Nat.le_of_ble_eq_true rfl) ?_
  refine zw_return dX6_dropLast_17 rfl (Nat.le_refl _) (Nat.le_refl _) ?_
  exact k _ ⟨h.1.self, h.2.1.put (by omega), by show n ≤ R; omega, h.2.2.2⟩ (zOff.pt (by omega) (by omega))
theorem t_add {x y z : Int32} (h : isT w t W R q) (hq : q.1 < R) (k : ∀ w', isT w' t W R (q.1 + 1, upd (upd (upd q.2 (q.1 * W) x) (q.1 * W + 1) y) (q.1 * W + 2) z) → zOff t (t + 2) w w' → Q (some (.int (nI q.1))) w') : Zm (d + 2) mX6_add 0 0 [.ref t, .int x, .int y, .int z] w Q := by
  obtain ⟨-, -, hb1, hb0, hb2, hb3⟩ := id h
  refine zm_intro [_, _, _, _, _] oX6_add (Nat.le_of_ble_eq_true rfl) rfl ?_
  refine zw_aload_n dX6_add_0 rfl ?_
  refine zw_get dX6_add_1 fX6_28 h.1 rfl ?_
  refine zw_aload_n dX6_add_4 rfl ?_
  refine zw_get dX6_add_5 fX6_21 h.1 rfl ?_
  refine zw_icmp_lt 14 dX6_add_8 (by decide) (fun _ => ?_) (fun hz => absurd (nI_lt hq (by omega)) hz)
  refine zw_aload_n dX6_add_14 rfl ?_
  refine zw_dup dX6_add_15 rfl ?_
  refine zw_get dX6_add_16 fX6_28 h.1 rfl ?_
  refine zw_dup_x1 dX6_add_19 rfl rfl ?_
  refine zw_iconst dX6_add_20 1 (by decide) ?_
  refine zw_iadd dX6_add_21 ?_
  refine zw_top (nI_1 _) ?_
  refine zw_put dX6_add_22 pX6_28 h.1 (fun _ => rfl) (fun _ => rfl) (Nat.le_of_ble_eq_true rfl) ?_
  obtain ⟨w1, hw1⟩ : ∃ w1, w1 = zput w t (.inr (6, [.int (nI W), .int (nI R), .ref (t + 1), .int (nI (q.1 + 1))])) := ⟨_, rfl⟩
  have h1 : isT w1 t W R (q.1 + 1, q.2) := by rw [hw1]; exact ⟨h.1.self, h.2.1.put (by omega), hq, h.2.2.2⟩
  have o1 : zOff t (t + 2) w w1 := by rw [hw1]; exact zOff.pt (by omega) (by omega)
  refine (show Zw _ _ _ _ _ _ w1 _ from ?_) |> (fun z => by rw [hw1] at z; exact z)
  refine zw_istore [_, _, _, _, _] dX6_add_25 (Nat.le_of_ble_eq_true rfl) rfl ?_
  refine zw_aload_n dX6_add_27 rfl ?_
  refine zw_iload dX6_add_28 rfl ?_
  refine zw_iconst dX6_add_30 0 (by decide) ?_
  refine zw_iload_n dX6_add_31 rfl ?_
  refine zw_cV3 dX6_add_32 oX6_change kX6_change lX6_35 h1.1 rfl (Nat.le_of_ble_eq_true rfl) rfl (t_change (r := q.1) (c := 0) h1 (Nat.lt_succ_self _) (by omega) (fun w2 h2 o2 => ?_))
  show Zw _ _ _ _ [_, _, _, _, _] [] _ _
  refine zw_aload_n dX6_add_35 rfl ?_
  refine zw_iload dX6_add_36 rfl ?_
  refine zw_iconst dX6_add_38 1 (by decide) ?_
  refine zw_iload_n dX6_add_39 rfl ?_
  refine zw_cV3 dX6_add_40 oX6_change kX6_change lX6_35 h2.1 rfl (Nat.le_of_ble_eq_true rfl) rfl (t_change (r := q.1) (c := 1) h2 (Nat.lt_succ_self _) (by omega) (fun w3 h3 o3 => ?_))
  show Zw _ _ _ _ [_, _, _, _, _] [] _ _
  refine zw_aload_n dX6_add_43 rfl ?_
  refine zw_iload dX6_add_44 rfl ?_
  refine zw_iconst dX6_add_46 2 (by decide) ?_
  refine zw_iload_n dX6_add_47 rfl ?_
  refine zw_cV3 dX6_add_48 oX6_change kX6_change lX6_35 h3.1 rfl (Nat.le_of_ble_eq_true rfl) rfl (t_change (r := q.1) (c := 2) h3 (Nat.lt_succ_self _) (by omega) (fun w4 h4 o4 => ?_))
  show Zw _ _ _ _ [_, _, _, _, _] [] _ _
  refine zw_iload dX6_add_51 rfl ?_
  refine zw_ireturn .int dX6_add_53 rfl rfl (Nat.le_refl _) (Nat.le_refl _) ?_
  exact k w4 h4 (o1.tr (o2.tr (o3.tr o4)))
theorem t_addN {x y z : Int32} (h : isT w t W R q) (hq : q.1 = R) (k : Q (some (.int (-4))) w) : Zm (d + 2) mX6_add 0 0 [.ref t, .int x, .int y, .int z] w Q := by
  obtain ⟨-, -, hb1, hb0, hb2, hb3⟩ := id h
  refine zm_intro [_, _, _, _, _] oX6_add (Nat.le_of_ble_eq_true rfl) rfl ?_
  refine zw_aload_n dX6_add_0 rfl ?_
  refine zw_get dX6_add_1 fX6_28 h.1 rfl ?_
  refine zw_aload_n dX6_add_4 rfl ?_
  refine zw_get dX6_add_5 fX6_21 h.1 rfl ?_
  refine zw_icmp_lt 14 dX6_add_8 (by decide) (fun hz => absurd hz (nI_nlt (by omega) (by omega))) (fun _ => ?_)
  refine zw_bipush dX6_add_11 (-4) (by decide) ?_
  refine zw_ireturn .int dX6_add_13 rfl rfl (Nat.le_refl _) (Nat.le_refl _) ?_
  exact k
end ZTAB
