/-! ===== the Model: lend, hint, has, manyOf ===== -/
def mMany (s i k : Nat) (a : Int32) : Int32 := match k with
  | 0 => a
  | k + 1 => mMany s (i + 1) k (a + if s.testBit i = true then 1 else 0)
section ZMOD12
variable {d : Nat} {w w' : ZW} {A : Nat → Nat → Int32} {I : Nat → Int32} {ab be : Int64} {Q : Option Value → ZW → Prop}
theorem m_manyL {s : Nat} (hs : s < 128) : ∀ (k i : Nat) (a : Int32), i + k = 7 → Q (some (.int (mMany s i k a))) w → Zw d mX9_manyOf z0 4 [some (.int (nI s)), some (.int a), some (.int (nI i))] [] w Q := by
  intro k
  induction k with
  | zero =>
    intro i a hi kk
    refine zw_iload_n dX9_manyOf_4 rfl ?_
    refine zw_bipush dX9_manyOf_5 7 (by decide) ?_
    refine zw_icmp_ge 24 dX9_manyOf_7 (by decide) (fun _ => ?_) (fun hz => absurd (nI_le (a := 7) (by omega) (by omega)) hz)
    refine zw_iload_n dX9_manyOf_24 rfl ?_
    refine zw_ireturn .int dX9_manyOf_25 rfl rfl (Nat.le_refl _) (Nat.le_refl _) ?_
    exact kk
  | succ k ih =>
    intro i a hi kk
    refine zw_iload_n dX9_manyOf_4 rfl ?_
    refine zw_bipush dX9_manyOf_5 7 (by decide) ?_
    refine zw_icmp_ge 24 dX9_manyOf_7 (by decide) (fun hz => absurd hz (nI_ge (b := 7) (by omega) (by omega))) (fun _ => ?_)
    refine zw_iload_n dX9_manyOf_10 rfl ?_
    refine zw_iload_n dX9_manyOf_11 rfl ?_
    refine zw_iload_n dX9_manyOf_12 rfl ?_
    refine zw_ishr dX9_manyOf_13 ?_
    refine zw_iconst dX9_manyOf_14 1 (by decide) ?_
    refine zw_iand dX9_manyOf_15 ?_
    refine zw_top (bit_t s hs i (by omega)) ?_
    refine zw_iadd dX9_manyOf_16 ?_
    refine zw_istore_n [_, _, _] dX9_manyOf_17 (Nat.le_of_ble_eq_true rfl) rfl ?_
    refine zw_iinc (nI (i + 1)) [_, _, _] dX9_manyOf_18 rfl (nI_1 i) rfl ?_
    refine zw_goto 4 dX9_manyOf_21 (by decide) ?_
    exact ih (i + 1) _ (by omega) kk
theorem m_manyOf {s : Nat} (hs : s < 128) (k : Q (some (.int (mMany s 0 7 0))) w) : Zm d mX9_manyOf 0 0 [.int (nI s)] w Q := by
  refine zm_intro [_, _, _] oX9_manyOf (Nat.le_of_ble_eq_true rfl) rfl ?_
  refine zw_iconst dX9_manyOf_0 0 (by decide) ?_
  refine zw_istore_n [_, _, _] dX9_manyOf_1 (Nat.le_of_ble_eq_true rfl) rfl ?_
  refine zw_iconst dX9_manyOf_2 0 (by decide) ?_
  refine zw_istore_n [_, _, _] dX9_manyOf_3 (Nat.le_of_ble_eq_true rfl) rfl ?_
  exact m_manyL hs 7 0 0 (by omega) k
theorem m_has {l t : Nat} {x : Int32} (h : isM w A I ab be) (hb : I 0 = nI 0) (hl : A 0 (0 + 1) = nI l) (hl7 : l ≤ 7) (ht : A 0 (0 + 3) = nI t) (ht8 : t ≤ 8) (kB : (∀ r, r < l → ¬ x = nI r) → ∀ w', isM w' (toldI A 0 0) I ab be → zOff 74 89 w w' → Q (some (.int (-2))) w') (kA : ∀ r, r < l → x = nI r → Q (some (.int (mWho A x 0 t 0))) w) : Zm (d + 2) mX9_has 0 0 [.ref 74, .int x] w Q := by
  refine zm_intro [_, _] oX9_has (Nat.le_of_ble_eq_true rfl) rfl ?_
  refine zw_aload_n dX9_has_0 rfl ?_
  refine zw_iload_n dX9_has_1 rfl ?_
  refine zw_cV1 dX9_has_2 oX9_isLid kX9_isLid lX9_91 h.1 rfl (Nat.le_of_ble_eq_true rfl) rfl (m_isLid h hb (by decide) hl (by omega) (fun r hr e => ?_) (fun q => ?_))
  · show Zw _ _ _ 5 [_, _] [_] _ _
    refine zw_if_eq 21 dX9_has_5 (by decide) (fun hz => absurd hz (by decide)) (fun _ => ?_)
    refine zw_aload_n dX9_has_8 rfl ?_
    refine zw_iload_n dX9_has_9 rfl ?_
    refine zw_aload_n dX9_has_10 rfl ?_
    refine zw_iconst dX9_has_11 3 (by decide) ?_
    refine zw_cV1 dX9_has_12 oX9_get kX9_get lX9_62 h.1 rfl (Nat.le_of_ble_eq_true rfl) rfl (m_get (b := 0) (j := 3) h hb (by omega) ?_)
    show Zw _ _ _ 15 [_, _] [_, _, _] _ _
    refine zw_top (ht) ?_
    refine zw_cV2 dX9_has_15 oX9_whoHas kX9_whoHas lX9_231 h.1 rfl (Nat.le_of_ble_eq_true rfl) rfl (m_whoHas h hb ht8 ?_)
    show Zw _ _ _ 18 [_, _] [_] _ _
    refine zw_goto 27 dX9_has_18 (by decide) ?_
    refine zw_ireturn .int dX9_has_27 rfl rfl (Nat.le_refl _) (Nat.le_refl _) ?_
    exact kA r hr e
  · show Zw _ _ _ 5 [_, _] [_] _ _
    refine zw_if_eq 21 dX9_has_5 (by decide) (fun _ => ?_) (fun hz => absurd (by decide) hz)
    refine zw_aload_n dX9_has_21 rfl ?_
    refine zw_bipush dX9_has_22 (-2) (by decide) ?_
    refine zw_cV1 dX9_has_24 oX9_told kX9_told lX9_70 h.1 rfl (Nat.le_of_ble_eq_true rfl) rfl (m_toldR (j := 0) (by decide) hb (by decide) h (fun w1 h1 o1 => ?_))
    show Zw _ _ _ 27 [_, _] [_] _ _
    refine zw_ireturn .int dX9_has_27 rfl rfl (Nat.le_refl _) (Nat.le_refl _) ?_
    exact kB q w1 h1 o1
end ZMOD12
