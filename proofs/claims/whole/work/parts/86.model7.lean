/-! ===== the Model: from, forget, type, count ===== -/
/-- how many there are of each, by the Model -/
def mHow (A : Nat → Nat → Int32) (I : Nat → Int32) (n j : Nat) : Int32 := match j with
  | 0 => A 0 0
  | 1 => A 0 1
  | 2 => nI (cnt (fun r => !decide (mB A 0 r 4 = -1)) 0 n)
  | 3 => A 0 2
  | 4 => A 0 3
  | 5 => A 0 4
  | 6 => A 0 5
  | _ => I 1
section ZMOD7
variable {d : Nat} {w w' : ZW} {A : Nat → Nat → Int32} {I : Nat → Int32} {ab be : Int64} {Q : Option Value → ZW → Prop}
theorem m_from {x : Int32} (h : isM w A I ab be) (hb : I 0 = nI 0) (kB : ¬ (0 ≤ x ∧ x ≤ 1) → ∀ w', isM w' (toldI A 0 0) I ab be → zOff 74 89 w w' → Q (some (.int (-2))) w') (kN : ∀ j, j < 2 → x = nI j → A 1 j = 0 → ∀ w', isM w' (toldI A 0 1) I ab be → zOff 74 89 w w' → Q (some (.int (-3))) w') (kA : ∀ j, j < 2 → x = nI j → ¬ A 1 j = 0 → ∀ w', isM w' (cpA A (217 * (1 + j)) 0 0 217) I ab be → zOff 74 89 w w' → Q (some (.int 1)) w') : Zm (d + 2) mX9_from 0 0 [.ref 74, .int x] w Q := by
  refine zm_intro [_, _] oX9_from (Nat.le_of_ble_eq_true rfl) rfl ?_
  refine zw_iload_n dX9_from_0 rfl ?_
  refine zw_iconst dX9_from_1 0 (by decide) ?_
  refine zw_iconst dX9_from_2 1 (by decide) ?_
  refine zw_cS3 dX9_from_3 oX9_in kX9_in lX9_66 (Nat.le_of_ble_eq_true rfl) rfl (m_in (fun q1 q2 => ?_) (fun q => ?_))
  · obtain ⟨j, hj, e⟩ := nI_of2 (M := 1) (n := 1) (by decide) (Int32.not_lt.mpr q1) q2
    have kN' := kN j (by omega) e
    have kA' := kA j (by omega) e
    subst e
    show Zw _ _ _ 6 [_, _] [_] _ _
    refine zw_if_ne 16 dX9_from_6 (by decide) (fun _ => ?_) (fun hz => absurd hz (by decide))
    refine zw_aload_n dX9_from_16 rfl ?_
    refine zw_get dX9_from_17 fX9_13 h.1 rfl ?_
    refine zw_iload_n dX9_from_20 rfl ?_
    refine zw_zald dX9_from_21 h.2.2.1 (vp_in_nI (n := j) (by omega) (by decide)) ?_
    rw [nI_clamp (by omega)]
    by_cases h0 : A 1 j = 0
    · refine zw_if_ne 32 dX9_from_22 (by decide) (fun hz => absurd (h0) hz) (fun _ => ?_)
      refine zw_aload_n dX9_from_25 rfl ?_
      refine zw_bipush dX9_from_26 (-3) (by decide) ?_
      refine zw_cV1 dX9_from_28 oX9_told kX9_told lX9_70 h.1 rfl (Nat.le_of_ble_eq_true rfl) rfl (m_toldR (j := 1) (by decide) hb (by decide) h (fun w1 h1 o1 => ?_))
      show Zw _ _ _ 31 [_, _] [_] _ _
      refine zw_ireturn .int dX9_from_31 rfl rfl (Nat.le_refl _) (Nat.le_refl _) ?_
      exact kN' h0 w1 h1 o1
    · refine zw_if_ne 32 dX9_from_22 (by decide) (fun _ => ?_) (fun hz => absurd hz (h0))
      refine zw_aload_n dX9_from_32 rfl ?_
      refine zw_sipush dX9_from_33 217 (by decide) ?_
      refine zw_iconst dX9_from_36 1 (by decide) ?_
      refine zw_iload_n dX9_from_37 rfl ?_
      refine zw_iadd dX9_from_38 ?_
      refine zw_imul dX9_from_39 ?_
      refine zw_top (y := nI (217 * (1 + j))) (by rw [← pk_mul, ← nI_add]; rfl) ?_
      refine zw_iconst dX9_from_40 0 (by decide) ?_
      refine zw_cV2 dX9_from_41 oX9_copy kX9_copy lX9_166 h.1 rfl (Nat.le_of_ble_eq_true rfl) rfl (m_copy (f := 217 * (1 + j)) (t := 0) (by omega) (by decide) h (fun w1 h1 o1 => ?_))
      show Zw _ _ _ 44 [_, _] [] _ _
      refine zw_iconst dX9_from_44 1 (by decide) ?_
      refine zw_ireturn .int dX9_from_45 rfl rfl (Nat.le_refl _) (Nat.le_refl _) ?_
      exact kA' h0 w1 h1 o1
  · show Zw _ _ _ 6 [_, _] [_] _ _
    refine zw_if_ne 16 dX9_from_6 (by decide) (fun hz => absurd (by decide) hz) (fun _ => ?_)
    refine zw_aload_n dX9_from_9 rfl ?_
    refine zw_bipush dX9_from_10 (-2) (by decide) ?_
    refine zw_cV1 dX9_from_12 oX9_told kX9_told lX9_70 h.1 rfl (Nat.le_of_ble_eq_true rfl) rfl (m_toldR (j := 0) (by decide) hb (by decide) h (fun w1 h1 o1 => ?_))
    show Zw _ _ _ 15 [_, _] [_] _ _
    refine zw_ireturn .int dX9_from_15 rfl rfl (Nat.le_refl _) (Nat.le_refl _) ?_
    exact kB q w1 h1 o1
theorem m_forget {x : Int32} (h : isM w A I ab be) (hb : I 0 = nI 0) (kB : ¬ (0 ≤ x ∧ x ≤ 2) → ∀ w', isM w' (toldI A 0 0) I ab be → zOff 74 89 w w' → Q (some (.int (-2))) w') (k0 : x = 0 → ∀ w', isM w' (mp A 0 3 0) I ab be → zOff 74 89 w w' → Q (some (.int (A 0 (0 + 3)))) w') (k1 : x = 1 → ∀ w', isM w' (mp A 0 4 0) I ab be → zOff 74 89 w w' → Q (some (.int (A 0 (0 + 4)))) w') (k2 : x = 2 → ∀ w', isM w' (mp A 0 2 0) I ab be → zOff 74 89 w w' → Q (some (.int (A 0 (0 + 2)))) w') : Zm (d + 2) mX9_forget 0 0 [.ref 74, .int x] w Q := by
  have fin : ∀ c, c < 6 → (∀ w', isM w' (mp A 0 c 0) I ab be → zOff 74 89 w w' → Q (some (.int (A 0 (0 + c)))) w') → Zw (d + 2) mX9_forget z0 34 [some (.ref 74), some (.int x), none, none] [.int (nI c)] w Q := by
    intro c hc k
    refine zw_istore_n [_, _, _, _] dX9_forget_34 (Nat.le_of_ble_eq_true rfl) rfl ?_
    refine zw_aload_n dX9_forget_35 rfl ?_
    refine zw_iload_n dX9_forget_36 rfl ?_
    refine zw_cV1 dX9_forget_37 oX9_get kX9_get lX9_62 h.1 rfl (Nat.le_of_ble_eq_true rfl) rfl (m_get (b := 0) (j := c) h hb (by omega) ?_)
    show Zw _ _ _ 40 [_, _, _, _] [_] _ _
    refine zw_istore_n [_, _, _, _] dX9_forget_40 (Nat.le_of_ble_eq_true rfl) rfl ?_
    refine zw_aload_n dX9_forget_41 rfl ?_
    refine zw_iload_n dX9_forget_42 rfl ?_
    refine zw_iconst dX9_forget_43 0 (by decide) ?_
    refine zw_cV2 dX9_forget_44 oX9_put1 kX9_put1 lX9_73 h.1 rfl (Nat.le_of_ble_eq_true rfl) rfl (m_put1 (b := 0) (j := c) h hb (by omega) (fun w1 h1 o1 => ?_))
    show Zw _ _ _ 47 [_, _, _, _] [] _ _
    refine zw_iload_n dX9_forget_47 rfl ?_
    refine zw_ireturn .int dX9_forget_48 rfl rfl (Nat.le_refl _) (Nat.le_refl _) ?_
    exact k w1 h1 o1
  refine zm_intro [_, _, _, _] oX9_forget (Nat.le_of_ble_eq_true rfl) rfl ?_
  refine zw_iload_n dX9_forget_0 rfl ?_
  refine zw_iconst dX9_forget_1 0 (by decide) ?_
  refine zw_iconst dX9_forget_2 2 (by decide) ?_
  refine zw_cS3 dX9_forget_3 oX9_in kX9_in lX9_66 (Nat.le_of_ble_eq_true rfl) rfl (m_in (fun q1 q2 => ?_) (fun q => ?_))
  · obtain ⟨j, hj, e⟩ := nI_of2 (M := 2) (n := 2) (by decide) (Int32.not_lt.mpr q1) q2
    show Zw _ _ _ 6 [_, _, _, _] [_] _ _
    refine zw_if_ne 16 dX9_forget_6 (by decide) (fun _ => ?_) (fun hz => absurd hz (by decide))
    refine zw_iload_n dX9_forget_16 rfl ?_
    have : j = 0 ∨ j = 1 ∨ j = 2 := by omega
    rcases this with rfl | rfl | rfl
    · refine zw_if_ne 24 dX9_forget_17 (by decide) (fun hz => absurd (e) hz) (fun _ => ?_)
      refine zw_iconst dX9_forget_20 3 (by decide) ?_
      refine zw_goto 34 dX9_forget_21 (by decide) ?_
      exact fin 3 (by decide) (k0 e)
    · have ne : ¬ x = 0 := by rw [e]; decide
      refine zw_if_ne 24 dX9_forget_17 (by decide) (fun _ => ?_) (fun hz => absurd hz (ne))
      refine zw_iload_n dX9_forget_24 rfl ?_
      refine zw_iconst dX9_forget_25 1 (by decide) ?_
      refine zw_icmp_ne 33 dX9_forget_26 (by decide) (fun hz => absurd (e) hz) (fun _ => ?_)
      refine zw_iconst dX9_forget_29 4 (by decide) ?_
      refine zw_goto 34 dX9_forget_30 (by decide) ?_
      exact fin 4 (by decide) (k1 e)
    · have ne : ¬ x = 0 := by rw [e]; decide
      have ne1 : ¬ x = 1 := by rw [e]; decide
      refine zw_if_ne 24 dX9_forget_17 (by decide) (fun _ => ?_) (fun hz => absurd hz (ne))
      refine zw_iload_n dX9_forget_24 rfl ?_
      refine zw_iconst dX9_forget_25 1 (by decide) ?_
      refine zw_icmp_ne 33 dX9_forget_26 (by decide) (fun _ => ?_) (fun hz => absurd hz (ne1))
      refine zw_iconst dX9_forget_33 2 (by decide) ?_
      exact fin 2 (by decide) (k2 e)
  · show Zw _ _ _ 6 [_, _, _, _] [_] _ _
    refine zw_if_ne 16 dX9_forget_6 (by decide) (fun hz => absurd (by decide) hz) (fun _ => ?_)
    refine zw_aload_n dX9_forget_9 rfl ?_
    refine zw_bipush dX9_forget_10 (-2) (by decide) ?_
    refine zw_cV1 dX9_forget_12 oX9_told kX9_told lX9_70 h.1 rfl (Nat.le_of_ble_eq_true rfl) rfl (m_toldR (j := 0) (by decide) hb (by decide) h (fun w1 h1 o1 => ?_))
    show Zw _ _ _ 15 [_, _, _, _] [_] _ _
    refine zw_ireturn .int dX9_forget_15 rfl rfl (Nat.le_refl _) (Nat.le_refl _) ?_
    exact kB q w1 h1 o1
theorem m_cntL {n : Nat} {x : Int32} (h : isM w A I ab be) (hb : I 0 = nI 0) (hn : A 0 0 = nI n) (hn7 : n ≤ 7) (hK : Zw (d + 2) mX9_counted z0 37 [some (.ref 74), some (.int x), some (.int (nI (cnt (fun r => !decide (mB A 0 r 4 = -1)) 0 n))), some (.int (nI n))] [] w Q) : ∀ (k i m : Nat), i + k = n → m + cnt (fun r => !decide (mB A 0 r 4 = -1)) i k = cnt (fun r => !decide (mB A 0 r 4 = -1)) 0 n → Zw (d + 2) mX9_counted z0 4 [some (.ref 74), some (.int x), some (.int (nI m)), some (.int (nI i))] [] w Q := by
  intro k
  induction k with
  | zero =>
    intro i m hi hm
    have e : i = n := by omega
    subst e
    have hm : m = cnt (fun r => !decide (mB A 0 r 4 = -1)) 0 i := hm
    subst hm
    refine zw_iload_n dX9_counted_4 rfl ?_
    refine zw_aload_n dX9_counted_5 rfl ?_
    refine zw_iconst dX9_counted_6 0 (by decide) ?_
    refine zw_cV1 dX9_counted_7 oX9_get kX9_get lX9_62 h.1 rfl (Nat.le_of_ble_eq_true rfl) rfl (m_get (b := 0) (j := 0) h hb (by omega) ?_)
    show Zw _ _ _ 10 [_, _, _, _] [_, _] _ _
    refine zw_top (hn) ?_
    refine zw_icmp_ge 37 dX9_counted_10 (by decide) (fun _ => ?_) (fun hz => absurd (nI_le (Nat.le_refl _) (by omega)) hz)
    exact hK
  | succ k ih =>
    intro i m hi hm
    have hm : m + ((if (!decide (mB A 0 i 4 = -1)) = true then 1 else 0) + cnt (fun r => !decide (mB A 0 r 4 = -1)) (i + 1) k) = _ := hm
    refine zw_iload_n dX9_counted_4 rfl ?_
    refine zw_aload_n dX9_counted_5 rfl ?_
    refine zw_iconst dX9_counted_6 0 (by decide) ?_
    refine zw_cV1 dX9_counted_7 oX9_get kX9_get lX9_62 h.1 rfl (Nat.le_of_ble_eq_true rfl) rfl (m_get (b := 0) (j := 0) h hb (by omega) ?_)
    show Zw _ _ _ 10 [_, _, _, _] [_, _] _ _
    refine zw_top (hn) ?_
    refine zw_icmp_ge 37 dX9_counted_10 (by decide) (fun hz => absurd hz (nI_ge (by omega) (by omega))) (fun _ => ?_)
    refine zw_iload_n dX9_counted_13 rfl ?_
    refine zw_aload_n dX9_counted_14 rfl ?_
    refine zw_iload_n dX9_counted_15 rfl ?_
    refine zw_iconst dX9_counted_16 4 (by decide) ?_
    refine zw_cV2 dX9_counted_17 oX9_ofBox kX9_ofBox lX9_77 h.1 rfl (Nat.le_of_ble_eq_true rfl) rfl (m_ofBox (b := 0) (c := 4) h hb (by decide) (by omega) (by decide) ?_)
    show Zw _ _ _ 20 [_, _, _, _] [_, _] _ _
    refine zw_iconst dX9_counted_20 (-1) (by decide) ?_
    by_cases h1 : mB A 0 i 4 = -1
    · rw [if_neg (by simpa using h1)] at hm
      refine zw_icmp_ne 28 dX9_counted_21 (by decide) (fun hz => absurd (h1) hz) (fun _ => ?_)
      refine zw_iconst dX9_counted_24 0 (by decide) ?_
      refine zw_goto 29 dX9_counted_25 (by decide) ?_
      refine zw_iadd dX9_counted_29 ?_
      refine zw_top (y := nI m) (by rw [show (0 : Int32) = nI 0 from rfl, nI_add]; rfl) ?_
      refine zw_istore_n [_, _, _, _] dX9_counted_30 (Nat.le_of_ble_eq_true rfl) rfl ?_
      refine zw_iinc (nI (i + 1)) [_, _, _, _] dX9_counted_31 rfl (nI_1 i) rfl ?_
      refine zw_goto 4 dX9_counted_34 (by decide) ?_
      exact ih (i + 1) m (by omega) (by omega)
    · rw [if_pos (by simpa using h1)] at hm
      refine zw_icmp_ne 28 dX9_counted_21 (by decide) (fun _ => ?_) (fun hz => absurd hz (h1))
      refine zw_iconst dX9_counted_28 1 (by decide) ?_
      refine zw_iadd dX9_counted_29 ?_
      refine zw_top (nI_1 m) ?_
      refine zw_istore_n [_, _, _, _] dX9_counted_30 (Nat.le_of_ble_eq_true rfl) rfl ?_
      refine zw_iinc (nI (i + 1)) [_, _, _, _] dX9_counted_31 rfl (nI_1 i) rfl ?_
      refine zw_goto 4 dX9_counted_34 (by decide) ?_
      exact ih (i + 1) (m + 1) (by omega) (by omega)
end ZMOD7
