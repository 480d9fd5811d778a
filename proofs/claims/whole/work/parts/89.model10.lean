/-! ===== the Model: sums, who has a lid ===== -/
def mWho (A : Nat → Nat → Int32) (x : Int32) (i k : Nat) (h : Int32) : Int32 := match k with
  | 0 => h
  | k + 1 => mWho A x (i + 1) k (if A 0 (0 + (85 + 3 * i + 1)) = x ∧ A 0 (0 + (85 + 3 * i)) = h then A 0 (0 + (85 + 3 * i + 2)) else h)
def mSum (A : Nat → Nat → Int32) (s c i k : Nat) (a : Int32) : Int32 := match k with
  | 0 => a
  | k + 1 => mSum A s c (i + 1) k (a + (if s.testBit i = true then 1 else 0) * mB A 0 i c)
section ZMOD10
variable {d : Nat} {w w' : ZW} {A : Nat → Nat → Int32} {I : Nat → Int32} {ab be : Int64} {Q : Option Value → ZW → Prop}
theorem m_whoL {x : Int32} {n : Nat} (h : isM w A I ab be) (hb : I 0 = nI 0) (hn : n ≤ 8) : ∀ (k i : Nat) (v : Int32) (o : Option Value), i + k = n → Q (some (.int (mWho A x i k v))) w → Zw (d + 1) mX9_whoHas z0 5 [some (.ref 74), some (.int x), some (.int (nI n)), some (.int v), some (.int (nI i)), o] [] w Q := by
  intro k
  induction k with
  | zero =>
    intro i v o hi kk
    refine zw_iload dX9_whoHas_5 rfl ?_
    refine zw_iload_n dX9_whoHas_7 rfl ?_
    refine zw_icmp_ge 79 dX9_whoHas_8 (by decide) (fun _ => ?_) (fun hz => absurd (nI_le (by omega) (by omega)) hz)
    refine zw_iload_n dX9_whoHas_79 rfl ?_
    refine zw_ireturn .int dX9_whoHas_80 rfl rfl (Nat.le_refl _) (Nat.le_refl _) ?_
    exact kk
  | succ k ih =>
    intro i v o hi kk
    unfold mWho at kk
    refine zw_iload dX9_whoHas_5 rfl ?_
    refine zw_iload_n dX9_whoHas_7 rfl ?_
    refine zw_icmp_ge 79 dX9_whoHas_8 (by decide) (fun hz => absurd hz (nI_ge (by omega) (by omega))) (fun _ => ?_)
    refine zw_aload_n dX9_whoHas_11 rfl ?_
    refine zw_bipush dX9_whoHas_12 85 (by decide) ?_
    refine zw_iconst dX9_whoHas_14 3 (by decide) ?_
    refine zw_iload dX9_whoHas_15 rfl ?_
    refine zw_imul dX9_whoHas_17 ?_
    refine zw_iadd dX9_whoHas_18 ?_
    refine zw_iconst dX9_whoHas_19 1 (by decide) ?_
    refine zw_iadd dX9_whoHas_20 ?_
    refine zw_top (y := nI (85 + 3 * i + 1)) (by rw [← nI_add, ← nI_add, ← pk_mul]; rfl) ?_
    refine zw_cV1 dX9_whoHas_21 oX9_get kX9_get lX9_62 h.1 rfl (Nat.le_of_ble_eq_true rfl) rfl (m_get (b := 0) (j := 85 + 3 * i + 1) h hb (by omega) ?_)
    show Zw _ _ _ 24 [_, _, _, _, _, _] [_] _ _
    refine zw_iload_n dX9_whoHas_24 rfl ?_
    by_cases h1 : A 0 (0 + (85 + 3 * i + 1)) = x
    · refine zw_icmp_ne 47 dX9_whoHas_25 (by decide) (fun hz => absurd (h1) hz) (fun _ => ?_)
      refine zw_aload_n dX9_whoHas_28 rfl ?_
      refine zw_bipush dX9_whoHas_29 85 (by decide) ?_
      refine zw_iconst dX9_whoHas_31 3 (by decide) ?_
      refine zw_iload dX9_whoHas_32 rfl ?_
      refine zw_imul dX9_whoHas_34 ?_
      refine zw_iadd dX9_whoHas_35 ?_
      refine zw_top (y := nI (85 + 3 * i)) (by rw [← nI_add, ← pk_mul]; rfl) ?_
      refine zw_cV1 dX9_whoHas_36 oX9_get kX9_get lX9_62 h.1 rfl (Nat.le_of_ble_eq_true rfl) rfl (m_get (b := 0) (j := 85 + 3 * i) h hb (by omega) ?_)
      show Zw _ _ _ 39 [_, _, _, _, _, _] [_] _ _
      refine zw_iload_n dX9_whoHas_39 rfl ?_
      by_cases h2 : A 0 (0 + (85 + 3 * i)) = v
      · rw [if_pos ⟨h1, h2⟩] at kk
        refine zw_icmp_ne 47 dX9_whoHas_40 (by decide) (fun hz => absurd (h2) hz) (fun _ => ?_)
        refine zw_iconst dX9_whoHas_43 1 (by decide) ?_
        refine zw_goto 48 dX9_whoHas_44 (by decide) ?_
        refine zw_istore [_, _, _, _, _, _] dX9_whoHas_48 (Nat.le_of_ble_eq_true rfl) rfl ?_
        refine zw_iload dX9_whoHas_50 rfl ?_
        refine zw_if_eq 71 dX9_whoHas_52 (by decide) (fun hz => absurd hz (by decide)) (fun _ => ?_)
        refine zw_aload_n dX9_whoHas_55 rfl ?_
        refine zw_bipush dX9_whoHas_56 85 (by decide) ?_
        refine zw_iconst dX9_whoHas_58 3 (by decide) ?_
        refine zw_iload dX9_whoHas_59 rfl ?_
        refine zw_imul dX9_whoHas_61 ?_
        refine zw_iadd dX9_whoHas_62 ?_
        refine zw_iconst dX9_whoHas_63 2 (by decide) ?_
        refine zw_iadd dX9_whoHas_64 ?_
        refine zw_top (y := nI (85 + 3 * i + 2)) (by rw [← nI_add, ← nI_add, ← pk_mul]; rfl) ?_
        refine zw_cV1 dX9_whoHas_65 oX9_get kX9_get lX9_62 h.1 rfl (Nat.le_of_ble_eq_true rfl) rfl (m_get (b := 0) (j := 85 + 3 * i + 2) h hb (by omega) ?_)
        show Zw _ _ _ 68 [_, _, _, _, _, _] [_] _ _
        refine zw_goto 72 dX9_whoHas_68 (by decide) ?_
        refine zw_istore_n [_, _, _, _, _, _] dX9_whoHas_72 (Nat.le_of_ble_eq_true rfl) rfl ?_
        refine zw_iinc (nI (i + 1)) [_, _, _, _, _, _] dX9_whoHas_73 rfl (nI_1 i) rfl ?_
        refine zw_goto 5 dX9_whoHas_76 (by decide) ?_
        exact ih (i + 1) _ _ (by omega) kk
      · rw [if_neg (fun z => h2 z.2)] at kk
        refine zw_icmp_ne 47 dX9_whoHas_40 (by decide) (fun _ => ?_) (fun hz => absurd hz (h2))
        refine zw_iconst dX9_whoHas_47 0 (by decide) ?_
        refine zw_istore [_, _, _, _, _, _] dX9_whoHas_48 (Nat.le_of_ble_eq_true rfl) rfl ?_
        refine zw_iload dX9_whoHas_50 rfl ?_
        refine zw_if_eq 71 dX9_whoHas_52 (by decide) (fun _ => ?_) (fun hz => absurd (by decide) hz)
        refine zw_iload_n dX9_whoHas_71 rfl ?_
        refine zw_istore_n [_, _, _, _, _, _] dX9_whoHas_72 (Nat.le_of_ble_eq_true rfl) rfl ?_
        refine zw_iinc (nI (i + 1)) [_, _, _, _, _, _] dX9_whoHas_73 rfl (nI_1 i) rfl ?_
        refine zw_goto 5 dX9_whoHas_76 (by decide) ?_
        exact ih (i + 1) _ _ (by omega) kk
    · rw [if_neg (fun z => h1 z.1)] at kk
      refine zw_icmp_ne 47 dX9_whoHas_25 (by decide) (fun _ => ?_) (fun hz => absurd hz (h1))
      refine zw_iconst dX9_whoHas_47 0 (by decide) ?_
      refine zw_istore [_, _, _, _, _, _] dX9_whoHas_48 (Nat.le_of_ble_eq_true rfl) rfl ?_
      refine zw_iload dX9_whoHas_50 rfl ?_
      refine zw_if_eq 71 dX9_whoHas_52 (by decide) (fun _ => ?_) (fun hz => absurd (by decide) hz)
      refine zw_iload_n dX9_whoHas_71 rfl ?_
      refine zw_istore_n [_, _, _, _, _, _] dX9_whoHas_72 (Nat.le_of_ble_eq_true rfl) rfl ?_
      refine zw_iinc (nI (i + 1)) [_, _, _, _, _, _] dX9_whoHas_73 rfl (nI_1 i) rfl ?_
      refine zw_goto 5 dX9_whoHas_76 (by decide) ?_
      exact ih (i + 1) _ _ (by omega) kk
theorem m_whoHas {x : Int32} {n : Nat} (h : isM w A I ab be) (hb : I 0 = nI 0) (hn : n ≤ 8) (k : Q (some (.int (mWho A x 0 n 0))) w) : Zm (d + 1) mX9_whoHas 0 0 [.ref 74, .int x, .int (nI n)] w Q := by
  refine zm_intro [_, _, _, _, _, _] oX9_whoHas (Nat.le_of_ble_eq_true rfl) rfl ?_
  refine zw_iconst dX9_whoHas_0 0 (by decide) ?_
  refine zw_istore_n [_, _, _, _, _, _] dX9_whoHas_1 (Nat.le_of_ble_eq_true rfl) rfl ?_
  refine zw_iconst dX9_whoHas_2 0 (by decide) ?_
  refine zw_istore [_, _, _, _, _, _] dX9_whoHas_3 (Nat.le_of_ble_eq_true rfl) rfl ?_
  exact m_whoL h hb hn n 0 0 _ (by omega) k
theorem m_sumL {s c n : Nat} (h : isM w A I ab be) (hb : I 0 = nI 0) (hn : A 0 0 = nI n) (hn7 : n ≤ 7) (hs : s < 128) (hc : c < 5) : ∀ (k i : Nat) (a : Int32), i + k = n → Q (some (.int (mSum A s c i k a))) w → Zw (d + 2) mX9_sumOf z0 5 [some (.ref 74), some (.int (nI s)), some (.int (nI c)), some (.int a), some (.int (nI i))] [] w Q := by
  intro k
  induction k with
  | zero =>
    intro i a hi kk
    refine zw_iload dX9_sumOf_5 rfl ?_
    refine zw_aload_n dX9_sumOf_7 rfl ?_
    refine zw_iconst dX9_sumOf_8 0 (by decide) ?_
    refine zw_cV1 dX9_sumOf_9 oX9_get kX9_get lX9_62 h.1 rfl (Nat.le_of_ble_eq_true rfl) rfl (m_get (b := 0) (j := 0) h hb (by omega) ?_)
    show Zw _ _ _ 12 [_, _, _, _, _] [_, _] _ _
    refine zw_top (hn) ?_
    refine zw_icmp_ge 38 dX9_sumOf_12 (by decide) (fun _ => ?_) (fun hz => absurd (nI_le (by omega) (by omega)) hz)
    refine zw_iload_n dX9_sumOf_38 rfl ?_
    refine zw_ireturn .int dX9_sumOf_39 rfl rfl (Nat.le_refl _) (Nat.le_refl _) ?_
    exact kk
  | succ k ih =>
    intro i a hi kk
    refine zw_iload dX9_sumOf_5 rfl ?_
    refine zw_aload_n dX9_sumOf_7 rfl ?_
    refine zw_iconst dX9_sumOf_8 0 (by decide) ?_
    refine zw_cV1 dX9_sumOf_9 oX9_get kX9_get lX9_62 h.1 rfl (Nat.le_of_ble_eq_true rfl) rfl (m_get (b := 0) (j := 0) h hb (by omega) ?_)
    show Zw _ _ _ 12 [_, _, _, _, _] [_, _] _ _
    refine zw_top (hn) ?_
    refine zw_icmp_ge 38 dX9_sumOf_12 (by decide) (fun hz => absurd hz (nI_ge (by omega) (by omega))) (fun _ => ?_)
    refine zw_iload_n dX9_sumOf_15 rfl ?_
    refine zw_iload_n dX9_sumOf_16 rfl ?_
    refine zw_iload dX9_sumOf_17 rfl ?_
    refine zw_ishr dX9_sumOf_19 ?_
    refine zw_iconst dX9_sumOf_20 1 (by decide) ?_
    refine zw_iand dX9_sumOf_21 ?_
    refine zw_top (bit_t s hs i (by omega)) ?_
    refine zw_aload_n dX9_sumOf_22 rfl ?_
    refine zw_iload dX9_sumOf_23 rfl ?_
    refine zw_iload_n dX9_sumOf_25 rfl ?_
    refine zw_cV2 dX9_sumOf_26 oX9_ofBox kX9_ofBox lX9_77 h.1 rfl (Nat.le_of_ble_eq_true rfl) rfl (m_ofBox (b := 0) (c := c) h hb (by decide) (by omega) hc ?_)
    show Zw _ _ _ 29 [_, _, _, _, _] [_, _, _] _ _
    refine zw_imul dX9_sumOf_29 ?_
    refine zw_iadd dX9_sumOf_30 ?_
    refine zw_istore_n [_, _, _, _, _] dX9_sumOf_31 (Nat.le_of_ble_eq_true rfl) rfl ?_
    refine zw_iinc (nI (i + 1)) [_, _, _, _, _] dX9_sumOf_32 rfl (nI_1 i) rfl ?_
    refine zw_goto 5 dX9_sumOf_35 (by decide) ?_
    exact ih (i + 1) _ (by omega) kk
theorem m_sumOf {s c n : Nat} (h : isM w A I ab be) (hb : I 0 = nI 0) (hn : A 0 0 = nI n) (hn7 : n ≤ 7) (hs : s < 128) (hc : c < 5) (k : Q (some (.int (mSum A s c 0 n 0))) w) : Zm (d + 2) mX9_sumOf 0 0 [.ref 74, .int (nI s), .int (nI c)] w Q := by
  refine zm_intro [_, _, _, _, _] oX9_sumOf (Nat.le_of_ble_eq_true rfl) rfl ?_
  refine zw_iconst dX9_sumOf_0 0 (by decide) ?_
  refine zw_istore_n [_, _, _, _, _] dX9_sumOf_1 (Nat.le_of_ble_eq_true rfl) rfl ?_
  refine zw_iconst dX9_sumOf_2 0 (by decide) ?_
  refine zw_istore [_, _, _, _, _] dX9_sumOf_3 (Nat.le_of_ble_eq_true rfl) rfl ?_
  exact m_sumL h hb hn hn7 hs hc n 0 0 (by omega) k
end ZMOD10
