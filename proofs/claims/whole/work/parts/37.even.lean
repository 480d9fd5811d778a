/-! ===== Cupboard: an evening ===== -/
def evX (x : Nat) : Nat := (x * 1103515245 + 12345) % 2147483648
def evL (g : Nat → Int32) (n k x : Nat) (f u o : Int32) : Int32 := match k with
  | 0 => o
  | k + 1 => if (f >>> (nI (evX x / 65536 % n) &&& 31)) &&& 1 = 0 then evL g n k (evX x) (f ||| ((1 : Int32) <<< (nI (evX x / 65536 % n) &&& 31))) (u ||| ((g (evX x / 65536 % n) &&& (u ^^^ -1)) &&& -(g (evX x / 65536 % n) &&& (u ^^^ -1)))) (o + if g (evX x / 65536 % n) &&& (u ^^^ -1) = 0 then 1 else 0) else evL g n k (evX x) f u o
section ZEVE
variable {d p : Nat} {w w' : ZW} {C : Nat → Nat × (Nat → Int32)} {q : Nat × (Nat → Int32)} {Q : Option Value → ZW → Prop}
theorem ev_x {x : Nat} (hx : x < 2147483648) : lN x * 1103515245 + 12345 - (lN x * 1103515245 + 12345) / 2147483648 * 2147483648 = lN (evX x) := by
  have e1 : (1103515245 : Int64) = lN 1103515245 := rfl
  have e2 : (12345 : Int64) = lN 12345 := rfl
  have e3 : (2147483648 : Int64) = lN 2147483648 := rfl
  rw [e1, e2, e3, lN_mul, lN_add, pk_lRem (by omega) (by decide) (by decide)]
  rfl
theorem ev_lt (x : Nat) : evX x < 2147483648 := Nat.mod_lt _ (by decide)
theorem ev_b {x n : Nat} (hx : x < 2147483648) (hn : 0 < n) (hn2 : n < 8) : (lN x / 65536 - lN x / 65536 / (nI n).toInt64 * (nI n).toInt64).toInt32 = nI (x / 65536 % n) := by
  have e1 : (65536 : Int64) = lN 65536 := rfl
  rw [e1, pk_lDiv (by omega) (by decide) (by decide), nI_l (by omega), pk_lRem (by omega) hn (by omega), lN_i]
theorem c_openL {m n : Nat} {sd : Int32} (h : isC w p C) (hk : okK (C 1)) (hn : n = (C 0).1) (h0 : 0 < n) (hm : m < 100) : ∀ (k i x : Nat) (f u o : Int32) (o1 o2 : Option Value), i + k = m → x < 2147483648 → Q (some (.int (evL (fun b => nI (cMask C b)) n k x f u o))) w → Zw (d + 4) mX1_openAfter z0 31 [some (.ref p), some (.int (nI m)), some (.int sd), some (.int (nI n)), some (.long (lN x)), none, some (.int f), some (.int u), some (.int o), some (.int (nI i)), o1, o2] [] w Q := by
  have hb1 := h.2.1.2.2.1
  intro k
  induction k with
  | zero =>
    intro i x f u o o1 o2 hi hx kk
    refine zw_iload dX1_openAfter_31 rfl ?_
    refine zw_iload_n dX1_openAfter_33 rfl ?_
    refine zw_icmp_ge 128 dX1_openAfter_34 (by decide) (fun _ => ?_) (fun hz => absurd (nI_le (by omega) (by omega)) hz)
    refine zw_iload dX1_openAfter_128 rfl ?_
    refine zw_ireturn .int dX1_openAfter_130 rfl rfl (Nat.le_refl _) (Nat.le_refl _) ?_
    exact kk
  | succ k ih =>
    intro i x f u o o1 o2 hi hx kk
    unfold evL at kk
    have hlt := ev_lt x
    have hbn : evX x / 65536 % n < n := Nat.mod_lt _ h0
    refine zw_iload dX1_openAfter_31 rfl ?_
    refine zw_iload_n dX1_openAfter_33 rfl ?_
    refine zw_icmp_ge 128 dX1_openAfter_34 (by decide) (fun hz => absurd hz (nI_ge (by omega) (by omega))) (fun _ => ?_)
    refine zw_lload dX1_openAfter_37 rfl ?_
    refine zw_ldc2 dX1_openAfter_39 qX1_105 ?_
    refine zw_lmul dX1_openAfter_42 ?_
    refine zw_ldc2 dX1_openAfter_43 qX1_107 ?_
    refine zw_ladd dX1_openAfter_46 ?_
    refine zw_ldc2 dX1_openAfter_47 qX1_109 ?_
    refine zw_lrem dX1_openAfter_50 (by decide) ?_
    refine zw_topl (ev_x hx) ?_
    refine zw_lstore [_, _, _, _, _, _, _, _, _, _, _, _] dX1_openAfter_51 (Nat.le_of_ble_eq_true rfl) rfl ?_
    refine zw_lload dX1_openAfter_53 rfl ?_
    refine zw_ldc2 dX1_openAfter_55 qX1_111 ?_
    refine zw_ldiv dX1_openAfter_58 (by decide) ?_
    refine zw_iload_n dX1_openAfter_59 rfl ?_
    refine zw_i2l dX1_openAfter_60 ?_
    refine zw_lrem dX1_openAfter_61 (by rw [nI_l (by omega)]; intro z; have := (pk_lEQ (a := n) (b := 0) (by omega) (by decide)).mp z; omega) ?_
    refine zw_l2i dX1_openAfter_62 ?_
    refine zw_top (ev_b hlt h0 (by omega)) ?_
    refine zw_istore [_, _, _, _, _, _, _, _, _, _, _, _] dX1_openAfter_63 (Nat.le_of_ble_eq_true rfl) rfl ?_
    refine zw_iload dX1_openAfter_65 rfl ?_
    refine zw_iload dX1_openAfter_67 rfl ?_
    refine zw_ishr dX1_openAfter_69 ?_
    refine zw_iconst dX1_openAfter_70 1 (by decide) ?_
    refine zw_iand dX1_openAfter_71 ?_
    refine zw_if_ne 122 dX1_openAfter_72 (by decide) (fun hf => ?_) (fun hf => ?_)
    · refine zw_iinc (nI (i + 1)) [_, _, _, _, _, _, _, _, _, _, _, _] dX1_openAfter_122 rfl (nI_1 i) rfl ?_
      refine zw_goto 31 dX1_openAfter_125 (by decide) ?_
      refine ih (i + 1) _ _ _ _ _ _ (by omega) hlt ?_
      rwa [if_neg hf] at kk
    · rw [if_pos hf] at kk
      refine zw_iload dX1_openAfter_75 rfl ?_
      refine zw_iconst dX1_openAfter_77 1 (by decide) ?_
      refine zw_iload dX1_openAfter_78 rfl ?_
      refine zw_ishl dX1_openAfter_80 ?_
      refine zw_ior dX1_openAfter_81 ?_
      refine zw_istore [_, _, _, _, _, _, _, _, _, _, _, _] dX1_openAfter_82 (Nat.le_of_ble_eq_true rfl) rfl ?_
      refine zw_aload_n dX1_openAfter_84 rfl ?_
      refine zw_iload dX1_openAfter_85 rfl ?_
      refine zw_cV1 dX1_openAfter_87 oX1_lidsFor kX1_lidsFor lX1_113 h.1 rfl (Nat.le_of_ble_eq_true rfl) rfl (c_lidsFor h hk (by omega) ?_)
      show Zw _ _ _ 90 [_, _, _, _, _, _, _, _, _, _, _, _] [_] _ _
      refine zw_iload dX1_openAfter_90 rfl ?_
      refine zw_iconst dX1_openAfter_92 (-1) (by decide) ?_
      refine zw_ixor dX1_openAfter_93 ?_
      refine zw_iand dX1_openAfter_94 ?_
      refine zw_istore [_, _, _, _, _, _, _, _, _, _, _, _] dX1_openAfter_95 (Nat.le_of_ble_eq_true rfl) rfl ?_
      refine zw_iload dX1_openAfter_97 rfl ?_
      refine zw_iload dX1_openAfter_99 rfl ?_
      refine zw_cS1 dX1_openAfter_101 oJ6_lowestOneBit_0f7a4 kJ6_lowestOneBit_0f7a4 lX1_116 (Nat.le_of_ble_eq_true rfl) rfl (j_lowest ?_)
      show Zw _ _ _ 104 [_, _, _, _, _, _, _, _, _, _, _, _] [_, _] _ _
      refine zw_ior dX1_openAfter_104 ?_
      refine zw_istore [_, _, _, _, _, _, _, _, _, _, _, _] dX1_openAfter_105 (Nat.le_of_ble_eq_true rfl) rfl ?_
      refine zw_iload dX1_openAfter_107 rfl ?_
      refine zw_iload dX1_openAfter_109 rfl ?_
      refine zw_if_ne 118 dX1_openAfter_111 (by decide) (fun hz => ?_) (fun hz => ?_)
      · refine zw_iconst dX1_openAfter_118 0 (by decide) ?_
        refine zw_iadd dX1_openAfter_119 ?_
        refine zw_istore [_, _, _, _, _, _, _, _, _, _, _, _] dX1_openAfter_120 (Nat.le_of_ble_eq_true rfl) rfl ?_
        refine zw_iinc (nI (i + 1)) [_, _, _, _, _, _, _, _, _, _, _, _] dX1_openAfter_122 rfl (nI_1 i) rfl ?_
        refine zw_goto 31 dX1_openAfter_125 (by decide) ?_
        refine ih (i + 1) _ _ _ _ _ _ (by omega) hlt ?_
        rwa [if_neg hz] at kk
      · refine zw_iconst dX1_openAfter_114 1 (by decide) ?_
        refine zw_goto 119 dX1_openAfter_115 (by decide) ?_
        refine zw_iadd dX1_openAfter_119 ?_
        refine zw_istore [_, _, _, _, _, _, _, _, _, _, _, _] dX1_openAfter_120 (Nat.le_of_ble_eq_true rfl) rfl ?_
        refine zw_iinc (nI (i + 1)) [_, _, _, _, _, _, _, _, _, _, _, _] dX1_openAfter_122 rfl (nI_1 i) rfl ?_
        refine zw_goto 31 dX1_openAfter_125 (by decide) ?_
        refine ih (i + 1) _ _ _ _ _ _ (by omega) hlt ?_
        rwa [if_pos hz] at kk
theorem c_openAfter {m sd : Nat} (h : isC w p C) (hk : okK (C 1)) (hm : m < 100) (hs : sd < 1000000) (kN : (C 0).1 = 0 → Q (some (.int (-3))) w) (k : 0 < (C 0).1 → Q (some (.int (evL (fun b => nI (cMask C b)) (C 0).1 m sd 0 0 0))) w) : Zm (d + 4) mX1_openAfter 0 0 [.ref p, .int (nI m), .int (nI sd)] w Q := by
  have hb1 := h.2.1.2.2.1
  refine zm_intro [_, _, _, _, _, _, _, _, _, _, _, _] oX1_openAfter (Nat.le_of_ble_eq_true rfl) rfl ?_
  refine zw_aload_n dX1_openAfter_0 rfl ?_
  refine zw_get dX1_openAfter_1 fX1_14 h.1 rfl ?_
  refine zw_cV0 dX1_openAfter_4 oX6_size kX6_size lX1_81 h.2.1.1 rfl (Nat.le_of_ble_eq_true rfl) rfl (t_size h.2.1 ?_)
  show Zw _ _ _ 7 [_, _, _, _, _, _, _, _, _, _, _, _] [_] _ _
  refine zw_istore_n [_, _, _, _, _, _, _, _, _, _, _, _] dX1_openAfter_7 (Nat.le_of_ble_eq_true rfl) rfl ?_
  refine zw_iload_n dX1_openAfter_8 rfl ?_
  rcases Nat.eq_zero_or_pos (C 0).1 with h0 | h0
  · refine zw_if_ne 15 dX1_openAfter_9 (by decide) (fun hz => absurd (by rw [h0]; rfl) hz) (fun _ => ?_)
    refine zw_bipush dX1_openAfter_12 (-3) (by decide) ?_
    refine zw_ireturn .int dX1_openAfter_14 rfl rfl (Nat.le_refl _) (Nat.le_refl _) ?_
    exact kN h0
  · refine zw_if_ne 15 dX1_openAfter_9 (by decide) (fun _ => ?_) (fun hz => absurd hz (nI_ne0 h0 (by omega)))
    refine zw_iload_n dX1_openAfter_15 rfl ?_
    refine zw_i2l dX1_openAfter_16 ?_
    refine zw_topl (nI_l (by omega)) ?_
    refine zw_lstore [_, _, _, _, _, _, _, _, _, _, _, _] dX1_openAfter_17 (Nat.le_of_ble_eq_true rfl) rfl ?_
    refine zw_iconst dX1_openAfter_19 0 (by decide) ?_
    refine zw_istore [_, _, _, _, _, _, _, _, _, _, _, _] dX1_openAfter_20 (Nat.le_of_ble_eq_true rfl) rfl ?_
    refine zw_iconst dX1_openAfter_22 0 (by decide) ?_
    refine zw_istore [_, _, _, _, _, _, _, _, _, _, _, _] dX1_openAfter_23 (Nat.le_of_ble_eq_true rfl) rfl ?_
    refine zw_iconst dX1_openAfter_25 0 (by decide) ?_
    refine zw_istore [_, _, _, _, _, _, _, _, _, _, _, _] dX1_openAfter_26 (Nat.le_of_ble_eq_true rfl) rfl ?_
    refine zw_iconst dX1_openAfter_28 0 (by decide) ?_
    refine zw_istore [_, _, _, _, _, _, _, _, _, _, _, _] dX1_openAfter_29 (Nat.le_of_ble_eq_true rfl) rfl ?_
    exact c_openL h hk rfl h0 hm m 0 sd 0 0 0 _ _ (by omega) (by omega) (k h0)
end ZEVE
