/-! ===== Table: the rest; within ===== -/
/-- the digest's step over k cells from i on -/
def mixL (f : Nat → Int32) (i k : Nat) (h : Int64) : Int64 := match k with
  | 0 => h
  | k + 1 => mixL f (i + 1) k (31 * h + (f i).toInt64)
theorem mixL_app (f : Nat → Int32) : ∀ (a b i : Nat) (h : Int64), mixL f i (a + b) h = mixL f (i + a) b (mixL f i a h)
  | 0, b, i, h => by simp [mixL]
  | a + 1, b, i, h => by
    rw [show a + 1 + b = (a + b) + 1 by omega]
    show mixL f (i + 1) (a + b) _ = mixL f (i + (a + 1)) b (mixL f (i + 1) a _)
    rw [mixL_app f a b (i + 1), show i + 1 + a = i + (a + 1) by omega]
section ZTAB2
variable {d t W R : Nat} {w : ZW} {q : Nat × (Nat → Int32)} {Q : Option Value → ZW → Prop}
theorem t_mixIn (h : isT w t W R q) {r : Nat} (hr : r < q.1) : ∀ (k c : Nat) (x : Int64), c + k = W → Zw (d + 2) mX6_mixedInto z0 43 [some (.ref t), some (.long (mixL q.2 (r * W + c) k x)), none, some (.int (nI r)), some (.int (nI W))] [] w Q → Zw (d + 2) mX6_mixedInto z0 13 [some (.ref t), some (.long x), none, some (.int (nI r)), some (.int (nI c))] [] w Q := by
  obtain ⟨-, -, hb1, hb0, hb2, hb3⟩ := id h
  intro k
  induction k with
  | zero =>
    intro c x hc kk
    have e : c = W := by omega
    subst e
    refine zw_iload dX6_mixedInto_13 rfl ?_
    refine zw_aload_n dX6_mixedInto_15 rfl ?_
    refine zw_get dX6_mixedInto_16 fX6_15 h.1 rfl ?_
    refine zw_icmp_ge 43 dX6_mixedInto_19 (by decide) (fun _ => ?_) (fun hz => absurd (nI_le (Nat.le_refl _) (by omega)) hz)
    exact kk
  | succ k ih =>
    intro c x hc kk
    refine zw_iload dX6_mixedInto_13 rfl ?_
    refine zw_aload_n dX6_mixedInto_15 rfl ?_
    refine zw_get dX6_mixedInto_16 fX6_15 h.1 rfl ?_
    refine zw_icmp_ge 43 dX6_mixedInto_19 (by decide) (fun hz => absurd hz (nI_ge (by omega) (by omega))) (fun _ => ?_)
    refine zw_ldc2 dX6_mixedInto_22 qX6_45 ?_
    refine zw_lload_n dX6_mixedInto_25 rfl ?_
    refine zw_lmul dX6_mixedInto_26 ?_
    refine zw_aload_n dX6_mixedInto_27 rfl ?_
    refine zw_iload_n dX6_mixedInto_28 rfl ?_
    refine zw_iload dX6_mixedInto_29 rfl ?_
    refine zw_cV2 dX6_mixedInto_31 oX6_at kX6_at lX6_47 h.1 rfl (Nat.le_of_ble_eq_true rfl) rfl (t_at h hr (by omega) ?_)
    show Zw _ _ _ _ [_, _, _, _, _] [_, _] _ _
    refine zw_i2l dX6_mixedInto_34 ?_
    refine zw_ladd dX6_mixedInto_35 ?_
    refine zw_lstore_n [_, _, _, _, _] dX6_mixedInto_36 (Nat.le_of_ble_eq_true rfl) rfl ?_
    refine zw_iinc (nI (c + 1)) [_, _, _, _, _] dX6_mixedInto_37 rfl (nI_1 c) rfl ?_
    refine zw_goto 13 dX6_mixedInto_40 (by decide) ?_
    exact ih (c + 1) _ (by omega) kk
theorem t_mixOut (h : isT w t W R q) : ∀ (k r : Nat) (x : Int64) (o : Option Value), r + k = q.1 → Q (some (.long (mixL q.2 (r * W) (k * W) x))) w → Zw (d + 2) mX6_mixedInto z0 2 [some (.ref t), some (.long x), none, some (.int (nI r)), o] [] w Q := by
  obtain ⟨-, -, hb1, hb0, hb2, hb3⟩ := id h
  intro k
  induction k with
  | zero =>
    intro r x o hc kk
    have e : r = q.1 := by omega
    subst e
    refine zw_iload_n dX6_mixedInto_2 rfl ?_
    refine zw_aload_n dX6_mixedInto_3 rfl ?_
    refine zw_get dX6_mixedInto_4 fX6_28 h.1 rfl ?_
    refine zw_icmp_ge 49 dX6_mixedInto_7 (by decide) (fun _ => ?_) (fun hz => absurd (nI_le (Nat.le_refl _) (by omega)) hz)
    refine zw_lload_n dX6_mixedInto_49 rfl ?_
    refine zw_lreturn dX6_mixedInto_50 rfl (Nat.le_refl _) (Nat.le_refl _) ?_
    simpa [mixL] using kk
  | succ k ih =>
    intro r x o hc kk
    refine zw_iload_n dX6_mixedInto_2 rfl ?_
    refine zw_aload_n dX6_mixedInto_3 rfl ?_
    refine zw_get dX6_mixedInto_4 fX6_28 h.1 rfl ?_
    refine zw_icmp_ge 49 dX6_mixedInto_7 (by decide) (fun hz => absurd hz (nI_ge (by omega) (by omega))) (fun _ => ?_)
    refine zw_iconst dX6_mixedInto_10 0 (by decide) ?_
    refine zw_istore [_, _, _, _, _] dX6_mixedInto_11 (Nat.le_of_ble_eq_true rfl) rfl ?_
    refine t_mixIn h (by omega) W 0 x (by omega) ?_
    refine zw_iinc (nI (r + 1)) [_, _, _, _, _] dX6_mixedInto_43 rfl (nI_1 r) rfl ?_
    refine zw_goto 2 dX6_mixedInto_46 (by decide) ?_
    refine ih (r + 1) _ _ (by omega) ?_
    rw [Nat.succ_mul, Nat.add_comm (k * W) W, mixL_app] at kk
    rwa [Nat.succ_mul]
theorem t_mixedInto {x : Int64} (h : isT w t W R q) (k : Q (some (.long (mixL q.2 0 (q.1 * W) x))) w) : Zm (d + 2) mX6_mixedInto 0 0 [.ref t, .long x] w Q := by
  refine zm_intro [_, _, _, _, _] oX6_mixedInto (Nat.le_of_ble_eq_true rfl) rfl ?_
  refine zw_iconst dX6_mixedInto_0 0 (by decide) ?_
  refine zw_istore_n [_, _, _, _, _] dX6_mixedInto_1 (Nat.le_of_ble_eq_true rfl) rfl ?_
  refine t_mixOut h q.1 0 x _ (by omega) ?_
  simpa using k
theorem t_dropFirst {n : Nat} {f : Nat → Int32} (h : isT w t W R (n + 1, f)) (k : ∀ w' f', (∀ j, j < n * W → f' j = f (W + j)) → isT w' t W R (n, f') → zOff t (t + 2) w w' → Q none w') : Zm (d + 1) mX6_dropFirst 0 0 [.ref t] w Q := by
  obtain ⟨-, -, hb1, hb0, hb2, hb3⟩ := id h
  dsimp only at hb1
  have hs := isT_small hb2 hb3
  have hm : (n + 1) * W ≤ R * W := Nat.mul_le_mul_right W hb1
  rw [Nat.succ_mul, Nat.mul_comm R W] at hm
  refine zm_intro [_] oX6_dropFirst (Nat.le_of_ble_eq_true rfl) rfl ?_
  refine zw_aload_n dX6_dropFirst_0 rfl ?_
  refine zw_get dX6_dropFirst_1 fX6_28 h.1 rfl ?_
  refine zw_if_le 42 dX6_dropFirst_4 (by decide) (fun hz => absurd hz (nI_nle (by omega) (by omega))) (fun _ => ?_)
  refine zw_aload_n dX6_dropFirst_7 rfl ?_
  refine zw_dup dX6_dropFirst_8 rfl ?_
  refine zw_get dX6_dropFirst_9 fX6_28 h.1 rfl ?_
  refine zw_iconst dX6_dropFirst_12 1 (by decide) ?_
  refine zw_isub dX6_dropFirst_13 ?_
  refine zw_top (nI_pred n) ?_
  refine zw_put dX6_dropFirst_14 pX6_28 h.1 (fun _ => rfl) (fun _ => rfl) (Nat.le_of_ble_eq_true rfl) ?_
  obtain ⟨w1, hw1⟩ : ∃ w1, w1 = zput w t (.inr (6, [.int (nI W), .int (nI R), .ref (t + 1), .int (nI n)])) := ⟨_, rfl⟩
  have h1 : isT w1 t W R (n, f) := by rw [hw1]; exact ⟨h.1.self, h.2.1.put (by omega), by show n ≤ R; omega, h.2.2.2⟩
  have o1 : zOff t (t + 2) w w1 := by rw [hw1]; exact zOff.pt (by omega) (by omega)
  refine (show Zw _ _ _ _ _ _ w1 _ from ?_) |> (fun z => by rw [hw1] at z; exact z)
  refine zw_aload_n dX6_dropFirst_17 rfl ?_
  refine zw_get dX6_dropFirst_18 fX6_24 h1.1 rfl ?_
  refine zw_aload_n dX6_dropFirst_21 rfl ?_
  refine zw_get dX6_dropFirst_22 fX6_15 h1.1 rfl ?_
  refine zw_aload_n dX6_dropFirst_25 rfl ?_
  refine zw_get dX6_dropFirst_26 fX6_24 h1.1 rfl ?_
  refine zw_iconst dX6_dropFirst_29 0 (by decide) ?_
  refine zw_aload_n dX6_dropFirst_30 rfl ?_
  refine zw_get dX6_dropFirst_31 fX6_28 h1.1 rfl ?_
  refine zw_aload_n dX6_dropFirst_34 rfl ?_
  refine zw_get dX6_dropFirst_35 fX6_15 h1.1 rfl ?_
  refine zw_imul dX6_dropFirst_38 ?_
  refine zw_top (pk_mul n W) ?_
  refine zw_copy dX6_dropFirst_39 lX6_39 w_native w_copyStat w_copyIni h1.2.1 h1.2.1 (nI_pos (by omega)) (by decide) (nI_pos (by omega)) (by rw [nI_clamp (by omega), nI_clamp (by omega)]; omega) (by rw [nI_clamp (n := n * W) (by omega)]; show 0 + n * W ≤ W * R; omega) rfl (Nat.le_of_ble_eq_true rfl) ?_
  refine zw_return dX6_dropFirst_42 rfl (Nat.le_refl _) (Nat.le_refl _) ?_
  refine k _ (va_cpy f f (nI W).toNatClampNeg (Int32.toNatClampNeg 0) (nI (n * W)).toNatClampNeg) (fun j hj => ?_) ⟨h1.1.put (by omega), h1.2.1.self, h1.2.2⟩ (o1.tr (zOff.pt (by omega) (by omega)))
  rw [nI_clamp (n := W) (by omega), nI_clamp (n := n * W) (by omega)]
  show va_cpy f f W 0 (n * W) j = f (W + j)
  rw [pk_cpy_in (by omega) (by omega)]
  rfl
theorem t_become {t2 : Nat} {q2 : Nat × (Nat → Int32)} (h : isT w t W R q) (h2 : isT w t2 W R q2) (hne : t + 2 ≤ t2 ∨ t2 + 2 ≤ t) (k : ∀ w' f', (∀ j, j < W * R → f' j = q2.2 j) → isT w' t W R (q2.1, f') → zOff t (t + 2) w w' → Q none w') : Zm (d + 1) mX6_become 0 0 [.ref t, .ref t2] w Q := by
  obtain ⟨-, -, hb1, hb0, hb2, hb3⟩ := id h
  have hs := isT_small hb2 hb3
  refine zm_intro [_, _] oX6_become (Nat.le_of_ble_eq_true rfl) rfl ?_
  refine zw_aload_n dX6_become_0 rfl ?_
  refine zw_get dX6_become_1 fX6_24 h.1 rfl ?_
  refine zw_alen dX6_become_4 h.2.1 (by decide) ?_
  refine zw_aload_n dX6_become_5 rfl ?_
  refine zw_get dX6_become_6 fX6_24 h2.1 rfl ?_
  refine zw_alen dX6_become_9 h2.2.1 (by decide) ?_
  refine zw_icmp_ne 39 dX6_become_10 (by decide) (fun hz => absurd (rfl) hz) (fun _ => ?_)
  refine zw_aload_n dX6_become_13 rfl ?_
  refine zw_get dX6_become_14 fX6_24 h2.1 rfl ?_
  refine zw_iconst dX6_become_17 0 (by decide) ?_
  refine zw_aload_n dX6_become_18 rfl ?_
  refine zw_get dX6_become_19 fX6_24 h.1 rfl ?_
  refine zw_iconst dX6_become_22 0 (by decide) ?_
  refine zw_aload_n dX6_become_23 rfl ?_
  refine zw_get dX6_become_24 fX6_24 h.1 rfl ?_
  refine zw_alen dX6_become_27 h.2.1 (by decide) ?_
  refine zw_copy dX6_become_28 lX6_39 w_native w_copyStat w_copyIni h2.2.1 h.2.1 (by decide) (by decide) (nI_pos (by omega)) (by show 0 + (nI (W * R)).toNatClampNeg ≤ W * R; rw [nI_clamp (by omega)]; omega) (by show 0 + (nI (W * R)).toNatClampNeg ≤ W * R; rw [nI_clamp (by omega)]; omega) rfl (Nat.le_of_ble_eq_true rfl) ?_
  obtain ⟨w1, hw1⟩ : ∃ w1, w1 = zput w (t + 1) (.inl (0, W * R, va_cpy q2.2 q.2 (0 : Int32).toNatClampNeg (0 : Int32).toNatClampNeg (Int32.ofNat (W * R)).toNatClampNeg)) := ⟨_, rfl⟩
  have g0 := h.1.put (i := t + 1) (e' := .inl (0, W * R, va_cpy q2.2 q.2 (0 : Int32).toNatClampNeg (0 : Int32).toNatClampNeg (Int32.ofNat (W * R)).toNatClampNeg)) (by omega)
  have g1 := h.2.1.self (e' := .inl (0, W * R, va_cpy q2.2 q.2 (0 : Int32).toNatClampNeg (0 : Int32).toNatClampNeg (Int32.ofNat (W * R)).toNatClampNeg))
  have g2 := h2.1.put (i := t + 1) (e' := .inl (0, W * R, va_cpy q2.2 q.2 (0 : Int32).toNatClampNeg (0 : Int32).toNatClampNeg (Int32.ofNat (W * R)).toNatClampNeg)) (by omega)
  rw [← hw1] at g0 g1 g2
  refine (show Zw _ _ _ _ _ _ w1 _ from ?_) |> (fun z => by rw [hw1] at z; exact z)
  have o1 : zOff t (t + 2) w w1 := by rw [hw1]; exact zOff.pt (by omega) (by omega)
  refine zw_aload_n dX6_become_31 rfl ?_
  refine zw_aload_n dX6_become_32 rfl ?_
  refine zw_get dX6_become_33 fX6_28 g2 rfl ?_
  refine zw_put dX6_become_36 pX6_28 g0 (fun _ => rfl) (fun _ => rfl) (Nat.le_of_ble_eq_true rfl) ?_
  refine zw_return dX6_become_39 rfl (Nat.le_refl _) (Nat.le_refl _) ?_
  refine k _ (va_cpy q2.2 q.2 (0 : Int32).toNatClampNeg (0 : Int32).toNatClampNeg (Int32.ofNat (W * R)).toNatClampNeg) (fun j hj => ?_) ⟨g0.self, g1.put (i := t) (by omega), h2.2.2⟩ (o1.tr (zOff.pt (Nat.le_refl _) (by omega)))
  show va_cpy q2.2 q.2 0 0 (nI (W * R)).toNatClampNeg j = q2.2 j
  rw [nI_clamp (n := W * R) (by omega), pk_cpy_in (by omega) (by omega)]
  simp
theorem x_within {x a b : Int32} (k1 : a ≤ x → x ≤ b → Q (some (.int 1)) w) (k0 : ¬ (a ≤ x ∧ x ≤ b) → Q (some (.int 0)) w) : Zm d mX8_within 0 0 [.int x, .int a, .int b] w Q := by
  refine zm_intro [_, _, _] oX8_within (Nat.le_of_ble_eq_true rfl) rfl ?_
  refine zw_iload_n dX8_within_0 rfl ?_
  refine zw_iload_n dX8_within_1 rfl ?_
  refine zw_icmp_gt 14 dX8_within_2 (by decide) (fun hb => ?_) (fun hb => ?_)
  · refine zw_iconst dX8_within_14 0 (by decide) ?_
    refine zw_ireturn .boolean dX8_within_15 rfl rfl (Nat.le_refl _) (Nat.le_refl _) ?_
    exact k0 (fun z => Int32.not_le.mpr hb z.1)
  · refine zw_iload_n dX8_within_5 rfl ?_
    refine zw_iload_n dX8_within_6 rfl ?_
    refine zw_icmp_gt 14 dX8_within_7 (by decide) (fun hc => ?_) (fun hc => ?_)
    · refine zw_iconst dX8_within_14 0 (by decide) ?_
      refine zw_ireturn .boolean dX8_within_15 rfl rfl (Nat.le_refl _) (Nat.le_refl _) ?_
      exact k0 (fun z => Int32.not_le.mpr hc z.2)
    · refine zw_iconst dX8_within_10 1 (by decide) ?_
      refine zw_goto 15 dX8_within_11 (by decide) ?_
      refine zw_ireturn .boolean dX8_within_15 rfl rfl (Nat.le_refl _) (Nat.le_refl _) ?_
      exact k1 (Int32.not_lt.mp hb) (Int32.not_lt.mp hc)
end ZTAB2
