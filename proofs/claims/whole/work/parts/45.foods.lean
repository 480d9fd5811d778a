/-! ===== Foods ===== -/
theorem and_I : ∀ a, a < 128 → ∀ b, b < 128 → nI a &&& nI b = nI (a &&& b) := by decide +kernel
theorem shr_I : ∀ s, s < 128 → ∀ i, i < 7 → nI s >>> (nI i &&& 31) = nI (s >>> i) := by decide +kernel
theorem shr_z : ∀ s, s < 128 → ∀ i, i < 7 → s >>> i = 0 → ∀ j, j < 7 → i ≤ j → s.testBit j = false := by decide +kernel
def szA (sz : Nat → Int32) (x : Int32) : Int32 := if 0 ≤ x ∧ x ≤ 6 then sz x.toNatClampNeg else 0
def isFd (w : ZW) (n : Nat) (sz : Nat → Int32) (al le sm gr : Nat → Nat) (pl wy : Nat → Int32) (ways : Int32) : Prop := zat w 65 (.inr (2, [.ref 66, .ref 67, .ref 68, .ref 69, .ref 70, .ref 71, .ref 72, .int (nI n), .int ways])) ∧ zat w 66 (.inl (0, 7, sz)) ∧ zat w 67 (.inl (0, 7, fun i => nI (al i))) ∧ zat w 68 (.inl (0, 7, fun i => nI (le i))) ∧ zat w 69 (.inl (0, 7, fun i => nI (sm i))) ∧ zat w 70 (.inl (0, 7, fun i => nI (gr i))) ∧ zat w 71 (.inl (0, 7, pl)) ∧ zat w 72 (.inl (0, 49, wy)) ∧ n ≤ 7 ∧ ∀ i, al i < 128 ∧ le i < 128 ∧ sm i < 128 ∧ gr i < 128
/-- what a food's place says of the sizes -/
def agB (sz pl : Nat → Int32) (box s g o : Nat) : Bool := !((s.testBit o && !decide (szA sz (pl o) < szA sz (nI box))) || (g.testBit o && !decide (szA sz (nI box) < szA sz (pl o))))
def mayB (sz : Nat → Int32) (al le sm gr : Nat → Nat) (pl : Nat → Int32) (n box f placed : Nat) : Bool := (al f).testBit box && (decide (andn (le f) placed = 0) && (!(sm f).testBit f && allF (agB sz pl box (sm f &&& placed) (gr f &&& placed)) 0 n))
section ZFOODS
variable {d n : Nat} {w : ZW} {sz pl wy : Nat → Int32} {al le sm gr : Nat → Nat} {ways : Int32} {Q : Option Value → ZW → Prop}
theorem isFd.off {w' : ZW} {lo hi : Nat} (h : isFd w n sz al le sm gr pl wy ways) (ho : zOff lo hi w w') (ht : 73 ≤ lo ∨ hi ≤ 65) : isFd w' n sz al le sm gr pl wy ways := by
  obtain ⟨h0, h1, h2, h3, h4, h5, h6, h7, h8⟩ := h
  exact ⟨h0.off ho (by omega), h1.off ho (by omega), h2.off ho (by omega), h3.off ho (by omega), h4.off ho (by omega), h5.off ho (by omega), h6.off ho (by omega), h7.off ho (by omega), h8⟩
theorem isFd.setPl (h : isFd w n sz al le sm gr pl wy ways) (pl' : Nat → Int32) : isFd (zput w 71 (.inl (0, 7, pl'))) n sz al le sm gr pl' wy ways := by
  obtain ⟨h0, h1, h2, h3, h4, h5, h6, h7, h8⟩ := h
  exact ⟨h0.put (by decide), h1.put (by decide), h2.put (by decide), h3.put (by decide), h4.put (by decide), h5.put (by decide), h6.self, h7.put (by decide), h8⟩
theorem isFd.setWy (h : isFd w n sz al le sm gr pl wy ways) (wy' : Nat → Int32) : isFd (zput w 72 (.inl (0, 49, wy'))) n sz al le sm gr pl wy' ways := by
  obtain ⟨h0, h1, h2, h3, h4, h5, h6, h7, h8⟩ := h
  exact ⟨h0.put (by decide), h1.put (by decide), h2.put (by decide), h3.put (by decide), h4.put (by decide), h5.put (by decide), h6.put (by decide), h7.self, h8⟩
theorem fd_sizeAt {x : Int32} (h : isFd w n sz al le sm gr pl wy ways) (k : Q (some (.int (szA sz x))) w) : Zm (d + 1) mX2_sizeAt 0 0 [.ref 65, .int x] w Q := by
  unfold szA at k
  refine zm_intro [_, _] oX2_sizeAt (Nat.le_of_ble_eq_true rfl) rfl ?_
  refine zw_iload_n dX2_sizeAt_0 rfl ?_
  refine zw_iconst dX2_sizeAt_1 0 (by decide) ?_
  refine zw_bipush dX2_sizeAt_2 6 (by decide) ?_
  refine zw_cS3 dX2_sizeAt_4 oX8_within kX8_within lX2_77 (Nat.le_of_ble_eq_true rfl) rfl (x_within (fun h1 h2 => ?_) (fun h1 => ?_))
  · show Zw _ _ _ 7 [_, _] [_] _ _
    rw [if_pos ⟨h1, h2⟩] at k
    obtain ⟨j, hj, e⟩ := nI_of2 (M := 6) (n := 6) (by decide) (Int32.not_lt.mpr h1) h2
    subst e
    refine zw_if_eq 19 dX2_sizeAt_7 (by decide) (fun hz => absurd hz (by decide)) (fun _ => ?_)
    refine zw_aload_n dX2_sizeAt_10 rfl ?_
    refine zw_get dX2_sizeAt_11 fX2_9 h.1 rfl ?_
    refine zw_iload_n dX2_sizeAt_14 rfl ?_
    refine zw_iald dX2_sizeAt_15 h.2.1 (vp_in_nI (by omega) (by decide)) ?_
    refine zw_goto 20 dX2_sizeAt_16 (by decide) ?_
    refine zw_ireturn .int dX2_sizeAt_20 rfl rfl (Nat.le_refl _) (Nat.le_refl _) ?_
    exact k
  · show Zw _ _ _ 7 [_, _] [_] _ _
    rw [if_neg h1] at k
    refine zw_if_eq 19 dX2_sizeAt_7 (by decide) (fun _ => ?_) (fun hz => absurd (rfl) hz)
    refine zw_iconst dX2_sizeAt_19 0 (by decide) ?_
    refine zw_ireturn .int dX2_sizeAt_20 rfl rfl (Nat.le_refl _) (Nat.le_refl _) ?_
    exact k
theorem fd_agL {box f placed s g : Nat} (h : isFd w n sz al le sm gr pl wy ways) (hs : s < 128) (hg : g < 128) : ∀ (k i : Nat) (o7 o8 o9 : Option Value), i + k = n → Q (some (.int (bI (allF (agB sz pl box s g) i k)))) w → Zw (d + 2) mX2_agreesBySize z0 23 [some (.ref 65), some (.int (nI box)), some (.int (nI f)), some (.int (nI placed)), some (.int (nI s)), some (.int (nI g)), some (.int (nI i)), o7, o8, o9] [] w Q := by
  have h7 := h.2.2.2.2.2.2.2.2.1
  intro k
  induction k with
  | zero =>
    intro i o7 o8 o9 hi kk
    refine zw_iload dX2_agreesBySize_23 rfl ?_
    refine zw_aload_n dX2_agreesBySize_25 rfl ?_
    refine zw_get dX2_agreesBySize_26 fX2_51 h.1 rfl ?_
    refine zw_icmp_ge 130 dX2_agreesBySize_29 (by decide) (fun _ => ?_) (fun hz => absurd (nI_le (by omega) (by omega)) hz)
    refine zw_iconst dX2_agreesBySize_130 1 (by decide) ?_
    refine zw_ireturn .boolean dX2_agreesBySize_131 rfl rfl (Nat.le_refl _) (Nat.le_refl _) ?_
    exact kk
  | succ k ih =>
    intro i o7 o8 o9 hi kk
    have hor : s ||| g < 128 := Nat.or_lt_two_pow (n := 7) hs hg
    have nxt : agB sz pl box s g i = true → ∀ o7 o8 o9, Zw (d + 2) mX2_agreesBySize z0 124 [some (.ref 65), some (.int (nI box)), some (.int (nI f)), some (.int (nI placed)), some (.int (nI s)), some (.int (nI g)), some (.int (nI i)), o7, o8, o9] [] w Q := by
      intro hp o7 o8 o9
      unfold allF at kk
      rw [hp, Bool.true_and] at kk
      refine zw_iinc (nI (i + 1)) [_, _, _, _, _, _, _, _, _, _] dX2_agreesBySize_124 rfl (nI_1 i) rfl ?_
      refine zw_goto 23 dX2_agreesBySize_127 (by decide) ?_
      exact ih (i + 1) _ _ _ (by omega) kk
    have bad : agB sz pl box s g i = false → ∀ o7 o8 o9, Zw (d + 2) mX2_agreesBySize z0 122 [some (.ref 65), some (.int (nI box)), some (.int (nI f)), some (.int (nI placed)), some (.int (nI s)), some (.int (nI g)), some (.int (nI i)), o7, o8, o9] [] w Q := by
      intro hp o7 o8 o9
      unfold allF at kk
      rw [hp, Bool.false_and] at kk
      refine zw_iconst dX2_agreesBySize_122 0 (by decide) ?_
      refine zw_ireturn .boolean dX2_agreesBySize_123 rfl rfl (Nat.le_refl _) (Nat.le_refl _) ?_
      exact kk
    -- from 112 on: the two findings tg, ts
    have p112 : ∀ tg ts : Bool, (!(tg || ts)) = agB sz pl box s g i → ∀ o7, Zw (d + 2) mX2_agreesBySize z0 112 [some (.ref 65), some (.int (nI box)), some (.int (nI f)), some (.int (nI placed)), some (.int (nI s)), some (.int (nI g)), some (.int (nI i)), o7, some (.int (bI tg)), some (.int (bI ts))] [] w Q := by
      intro tg ts hp o7
      refine zw_iload dX2_agreesBySize_112 rfl ?_
      refine zw_if_ne 122 dX2_agreesBySize_114 (by decide) (fun h1 => ?_) (fun h1 => ?_)
      · refine bad ?_ _ _ _
        rw [← hp, bI_t h1]
        rfl
      · refine zw_iload dX2_agreesBySize_117 rfl ?_
        refine zw_if_eq 124 dX2_agreesBySize_119 (by decide) (fun h2 => ?_) (fun h2 => ?_)
        · refine nxt ?_ _ _ _
          rw [← hp, bI_f h1, bI_f h2]
          rfl
        · refine bad ?_ _ _ _
          rw [← hp, bI_t h2, Bool.or_true]
          rfl
    have p84 : ∀ tg : Bool, tg = (s.testBit i && !decide (szA sz (pl i) < szA sz (nI box))) → ∀ o9, Zw (d + 2) mX2_agreesBySize z0 84 [some (.ref 65), some (.int (nI box)), some (.int (nI f)), some (.int (nI placed)), some (.int (nI s)), some (.int (nI g)), some (.int (nI i)), some (.int (szA sz (pl i))), some (.int (bI tg)), o9] [] w Q := by
      intro tg htg o9
      refine zw_iload dX2_agreesBySize_84 rfl ?_
      refine zw_iload dX2_agreesBySize_86 rfl ?_
      refine zw_ishr dX2_agreesBySize_88 ?_
      refine zw_iconst dX2_agreesBySize_89 1 (by decide) ?_
      refine zw_iand dX2_agreesBySize_90 ?_
      refine zw_top (bit_t g hg i (by omega)) ?_
      refine zw_iconst dX2_agreesBySize_91 1 (by decide) ?_
      refine zw_icmp_ne 109 dX2_agreesBySize_92 (by decide) (fun h1 => ?_) (fun h1 => ?_)
      · refine zw_iconst dX2_agreesBySize_109 0 (by decide) ?_
        refine zw_istore [_, _, _, _, _, _, _, _, _, _] dX2_agreesBySize_110 (Nat.le_of_ble_eq_true rfl) rfl ?_
        refine p112 tg false ?_ _
        have z : g.testBit i = false := by
          cases hb : g.testBit i with
          | false => rfl
          | true => exact absurd (by rw [hb]; rfl) h1
        unfold agB
        rw [z, htg, Bool.false_and]
      · have z : g.testBit i = true := by
          cases hb : g.testBit i with
          | true => rfl
          | false => rw [hb] at h1; exact absurd h1 (by decide)
        refine zw_iload dX2_agreesBySize_95 rfl ?_
        refine zw_aload_n dX2_agreesBySize_97 rfl ?_
        refine zw_iload_n dX2_agreesBySize_98 rfl ?_
        refine zw_cV1 dX2_agreesBySize_99 oX2_sizeAt kX2_sizeAt lX2_87 h.1 rfl (Nat.le_of_ble_eq_true rfl) rfl (fd_sizeAt h ?_)
        show Zw _ _ _ 102 [_, _, _, _, _, _, _, _, _, _] [_, _] _ _
        refine zw_icmp_gt 109 dX2_agreesBySize_102 (by decide) (fun h2 => ?_) (fun h2 => ?_)
        · refine zw_iconst dX2_agreesBySize_109 0 (by decide) ?_
          refine zw_istore [_, _, _, _, _, _, _, _, _, _] dX2_agreesBySize_110 (Nat.le_of_ble_eq_true rfl) rfl ?_
          refine p112 tg false ?_ _
          unfold agB
          rw [z, htg, decide_eq_true h2]
          simp
        · refine zw_iconst dX2_agreesBySize_105 1 (by decide) ?_
          refine zw_goto 110 dX2_agreesBySize_106 (by decide) ?_
          refine zw_istore [_, _, _, _, _, _, _, _, _, _] dX2_agreesBySize_110 (Nat.le_of_ble_eq_true rfl) rfl ?_
          refine p112 tg true ?_ _
          unfold agB
          rw [z, htg, decide_eq_false h2]
          simp
    refine zw_iload dX2_agreesBySize_23 rfl ?_
    refine zw_aload_n dX2_agreesBySize_25 rfl ?_
    refine zw_get dX2_agreesBySize_26 fX2_51 h.1 rfl ?_
    refine zw_icmp_ge 130 dX2_agreesBySize_29 (by decide) (fun hz => absurd hz (nI_ge (by omega) (by omega))) (fun _ => ?_)
    refine zw_iload dX2_agreesBySize_32 rfl ?_
    refine zw_iload dX2_agreesBySize_34 rfl ?_
    refine zw_ior dX2_agreesBySize_36 ?_
    refine zw_top (or_I s hs g hg) ?_
    refine zw_iload dX2_agreesBySize_37 rfl ?_
    refine zw_ishr dX2_agreesBySize_39 ?_
    refine zw_top (shr_I (s ||| g) hor i (by omega)) ?_
    refine zw_if_eq 130 dX2_agreesBySize_40 (by decide) (fun h0 => ?_) (fun h0 => ?_)
    · refine zw_iconst dX2_agreesBySize_130 1 (by decide) ?_
      refine zw_ireturn .boolean dX2_agreesBySize_131 rfl rfl (Nat.le_refl _) (Nat.le_refl _) ?_
      have hz : (s ||| g) >>> i = 0 := by
        have hlt : (s ||| g) >>> i < 128 := Nat.lt_of_le_of_lt (Nat.shiftRight_le _ _) hor
        exact (nI_eq (by omega) (by decide)).mp h0
      have hall : allF (agB sz pl box s g) i (k + 1) = true := by
        rw [allF_congr (q := fun _ => true) (k + 1) i (fun j h1 h2 => ?_)]
        · have : ∀ (k i : Nat), allF (fun _ => true) i k = true := by
            intro k
            induction k with
            | zero => intro i; rfl
            | succ k ih => intro i; exact ih (i + 1)
          exact this (k + 1) i
        · have hb := shr_z (s ||| g) hor i (by omega) hz j (by omega) h1
          rw [Nat.testBit_or, Bool.or_eq_false_iff] at hb
          simp [agB, hb.1, hb.2]
      rw [hall] at kk
      exact kk
    · refine zw_aload_n dX2_agreesBySize_43 rfl ?_
      refine zw_aload_n dX2_agreesBySize_44 rfl ?_
      refine zw_get dX2_agreesBySize_45 fX2_27 h.1 rfl ?_
      refine zw_iload dX2_agreesBySize_48 rfl ?_
      refine zw_iald dX2_agreesBySize_50 h.2.2.2.2.2.2.1 (vp_in_nI (by omega) (by decide)) ?_
      rw [nI_clamp (by omega)]
      refine zw_cV1 dX2_agreesBySize_51 oX2_sizeAt kX2_sizeAt lX2_87 h.1 rfl (Nat.le_of_ble_eq_true rfl) rfl (fd_sizeAt h ?_)
      show Zw _ _ _ 54 [_, _, _, _, _, _, _, _, _, _] [_] _ _
      refine zw_istore [_, _, _, _, _, _, _, _, _, _] dX2_agreesBySize_54 (Nat.le_of_ble_eq_true rfl) rfl ?_
      refine zw_iload dX2_agreesBySize_56 rfl ?_
      refine zw_iload dX2_agreesBySize_58 rfl ?_
      refine zw_ishr dX2_agreesBySize_60 ?_
      refine zw_iconst dX2_agreesBySize_61 1 (by decide) ?_
      refine zw_iand dX2_agreesBySize_62 ?_
      refine zw_top (bit_t s hs i (by omega)) ?_
      refine zw_iconst dX2_agreesBySize_63 1 (by decide) ?_
      refine zw_icmp_ne 81 dX2_agreesBySize_64 (by decide) (fun h1 => ?_) (fun h1 => ?_)
      · refine zw_iconst dX2_agreesBySize_81 0 (by decide) ?_
        refine zw_istore [_, _, _, _, _, _, _, _, _, _] dX2_agreesBySize_82 (Nat.le_of_ble_eq_true rfl) rfl ?_
        refine p84 false ?_ _
        have z : s.testBit i = false := by
          cases hb : s.testBit i with
          | false => rfl
          | true => exact absurd (by rw [hb]; rfl) h1
        rw [z, Bool.false_and]
      · have z : s.testBit i = true := by
          cases hb : s.testBit i with
          | true => rfl
          | false => rw [hb] at h1; exact absurd h1 (by decide)
        refine zw_iload dX2_agreesBySize_67 rfl ?_
        refine zw_aload_n dX2_agreesBySize_69 rfl ?_
        refine zw_iload_n dX2_agreesBySize_70 rfl ?_
        refine zw_cV1 dX2_agreesBySize_71 oX2_sizeAt kX2_sizeAt lX2_87 h.1 rfl (Nat.le_of_ble_eq_true rfl) rfl (fd_sizeAt h ?_)
        show Zw _ _ _ 74 [_, _, _, _, _, _, _, _, _, _] [_, _] _ _
        refine zw_icmp_lt 81 dX2_agreesBySize_74 (by decide) (fun h2 => ?_) (fun h2 => ?_)
        · refine zw_iconst dX2_agreesBySize_81 0 (by decide) ?_
          refine zw_istore [_, _, _, _, _, _, _, _, _, _] dX2_agreesBySize_82 (Nat.le_of_ble_eq_true rfl) rfl ?_
          refine p84 false ?_ _
          rw [z, decide_eq_true h2]
          rfl
        · refine zw_iconst dX2_agreesBySize_77 1 (by decide) ?_
          refine zw_goto 82 dX2_agreesBySize_78 (by decide) ?_
          refine zw_istore [_, _, _, _, _, _, _, _, _, _] dX2_agreesBySize_82 (Nat.le_of_ble_eq_true rfl) rfl ?_
          refine p84 true ?_ _
          rw [z, decide_eq_false h2]
          rfl
theorem fd_agrees {box f placed : Nat} (h : isFd w n sz al le sm gr pl wy ways) (hf : f < 7) (hp : placed < 128) (k : Q (some (.int (bI (allF (agB sz pl box (sm f &&& placed) (gr f &&& placed)) 0 n)))) w) : Zm (d + 2) mX2_agreesBySize 0 0 [.ref 65, .int (nI box), .int (nI f), .int (nI placed)] w Q := by
  have hm := h.2.2.2.2.2.2.2.2.2 f
  refine zm_intro [_, _, _, _, _, _, _, _, _, _] oX2_agreesBySize (Nat.le_of_ble_eq_true rfl) rfl ?_
  refine zw_aload_n dX2_agreesBySize_0 rfl ?_
  refine zw_get dX2_agreesBySize_1 fX2_21 h.1 rfl ?_
  refine zw_iload_n dX2_agreesBySize_4 rfl ?_
  refine zw_iald dX2_agreesBySize_5 h.2.2.2.2.1 (vp_in_nI hf (by decide)) ?_
  rw [nI_clamp (by omega)]
  refine zw_iload_n dX2_agreesBySize_6 rfl ?_
  refine zw_iand dX2_agreesBySize_7 ?_
  refine zw_top (and_I (sm f) hm.2.2.1 placed hp) ?_
  refine zw_istore [_, _, _, _, _, _, _, _, _, _] dX2_agreesBySize_8 (Nat.le_of_ble_eq_true rfl) rfl ?_
  refine zw_aload_n dX2_agreesBySize_10 rfl ?_
  refine zw_get dX2_agreesBySize_11 fX2_24 h.1 rfl ?_
  refine zw_iload_n dX2_agreesBySize_14 rfl ?_
  refine zw_iald dX2_agreesBySize_15 h.2.2.2.2.2.1 (vp_in_nI hf (by decide)) ?_
  rw [nI_clamp (by omega)]
  refine zw_iload_n dX2_agreesBySize_16 rfl ?_
  refine zw_iand dX2_agreesBySize_17 ?_
  refine zw_top (and_I (gr f) hm.2.2.2 placed hp) ?_
  refine zw_istore [_, _, _, _, _, _, _, _, _, _] dX2_agreesBySize_18 (Nat.le_of_ble_eq_true rfl) rfl ?_
  refine zw_iconst dX2_agreesBySize_20 0 (by decide) ?_
  refine zw_istore [_, _, _, _, _, _, _, _, _, _] dX2_agreesBySize_21 (Nat.le_of_ble_eq_true rfl) rfl ?_
  exact fd_agL h (Nat.lt_of_le_of_lt Nat.and_le_left hm.2.2.1) (Nat.lt_of_le_of_lt Nat.and_le_left hm.2.2.2) n 0 _ _ _ (by omega) k
theorem fd_may {box f placed : Nat} (h : isFd w n sz al le sm gr pl wy ways) (hb : box < 7) (hf : f < 7) (hp : placed < 128) (k : Q (some (.int (bI (mayB sz al le sm gr pl n box f placed)))) w) : Zm (d + 3) mX2_mayBeIn 0 0 [.ref 65, .int (nI box), .int (nI f), .int (nI placed)] w Q := by
  have hm := h.2.2.2.2.2.2.2.2.2 f
  unfold mayB at k
  refine zm_intro [_, _, _, _] oX2_mayBeIn (Nat.le_of_ble_eq_true rfl) rfl ?_
  refine zw_aload_n dX2_mayBeIn_0 rfl ?_
  refine zw_get dX2_mayBeIn_1 fX2_15 h.1 rfl ?_
  refine zw_iload_n dX2_mayBeIn_4 rfl ?_
  refine zw_iald dX2_mayBeIn_5 h.2.2.1 (vp_in_nI hf (by decide)) ?_
  rw [nI_clamp (by omega)]
  refine zw_iload_n dX2_mayBeIn_6 rfl ?_
  refine zw_ishr dX2_mayBeIn_7 ?_
  refine zw_iconst dX2_mayBeIn_8 1 (by decide) ?_
  refine zw_iand dX2_mayBeIn_9 ?_
  refine zw_top (bit_t (al f) hm.1 box hb) ?_
  refine zw_iconst dX2_mayBeIn_10 1 (by decide) ?_
  refine zw_icmp_ne 54 dX2_mayBeIn_11 (by decide) (fun h1 => ?_) (fun h1 => ?_)
  · refine zw_iconst dX2_mayBeIn_54 0 (by decide) ?_
    refine zw_ireturn .boolean dX2_mayBeIn_55 rfl rfl (Nat.le_refl _) (Nat.le_refl _) ?_
    have z : (al f).testBit box = false := by
      cases hb : (al f).testBit box with
      | false => rfl
      | true => exact absurd (by rw [hb]; rfl) h1
    rw [z, Bool.false_and] at k
    exact k
  · have z : (al f).testBit box = true := by
      cases hb : (al f).testBit box with
      | true => rfl
      | false => rw [hb] at h1; exact absurd h1 (by decide)
    rw [z, Bool.true_and] at k
    refine zw_aload_n dX2_mayBeIn_14 rfl ?_
    refine zw_get dX2_mayBeIn_15 fX2_18 h.1 rfl ?_
    refine zw_iload_n dX2_mayBeIn_18 rfl ?_
    refine zw_iald dX2_mayBeIn_19 h.2.2.2.1 (vp_in_nI hf (by decide)) ?_
    rw [nI_clamp (by omega)]
    refine zw_iload_n dX2_mayBeIn_20 rfl ?_
    refine zw_iconst dX2_mayBeIn_21 (-1) (by decide) ?_
    refine zw_ixor dX2_mayBeIn_22 ?_
    refine zw_iand dX2_mayBeIn_23 ?_
    refine zw_top (andn_I (le f) hm.2.1 placed hp) ?_
    have hlt : andn (le f) placed < 128 := andn_lt hm.2.1
    refine zw_if_ne 54 dX2_mayBeIn_24 (by decide) (fun h2 => ?_) (fun h2 => ?_)
    · refine zw_iconst dX2_mayBeIn_54 0 (by decide) ?_
      refine zw_ireturn .boolean dX2_mayBeIn_55 rfl rfl (Nat.le_refl _) (Nat.le_refl _) ?_
      rw [decide_eq_false (fun z => h2 (by rw [z]; rfl)), Bool.false_and] at k
      exact k
    · rw [decide_eq_true ((nI_eq (b := 0) (by omega) (by decide)).mp h2), Bool.true_and] at k
      refine zw_aload_n dX2_mayBeIn_27 rfl ?_
      refine zw_get dX2_mayBeIn_28 fX2_21 h.1 rfl ?_
      refine zw_iload_n dX2_mayBeIn_31 rfl ?_
      refine zw_iald dX2_mayBeIn_32 h.2.2.2.2.1 (vp_in_nI hf (by decide)) ?_
      rw [nI_clamp (by omega)]
      refine zw_iload_n dX2_mayBeIn_33 rfl ?_
      refine zw_ishr dX2_mayBeIn_34 ?_
      refine zw_iconst dX2_mayBeIn_35 1 (by decide) ?_
      refine zw_iand dX2_mayBeIn_36 ?_
      refine zw_top (bit_t (sm f) hm.2.2.1 f hf) ?_
      refine zw_if_ne 54 dX2_mayBeIn_37 (by decide) (fun h3 => ?_) (fun h3 => ?_)
      · refine zw_iconst dX2_mayBeIn_54 0 (by decide) ?_
        refine zw_ireturn .boolean dX2_mayBeIn_55 rfl rfl (Nat.le_refl _) (Nat.le_refl _) ?_
        have z : (sm f).testBit f = true := by
          cases hb : (sm f).testBit f with
          | true => rfl
          | false => rw [hb] at h3; exact absurd rfl h3
        rw [z] at k
        exact k
      · have z : (sm f).testBit f = false := by
          cases hb : (sm f).testBit f with
          | false => rfl
          | true => rw [hb] at h3; exact absurd h3 (by decide)
        rw [z] at k
        refine zw_aload_n dX2_mayBeIn_40 rfl ?_
        refine zw_iload_n dX2_mayBeIn_41 rfl ?_
        refine zw_iload_n dX2_mayBeIn_42 rfl ?_
        refine zw_iload_n dX2_mayBeIn_43 rfl ?_
        refine zw_cV3 dX2_mayBeIn_44 oX2_agreesBySize kX2_agreesBySize lX2_84 h.1 rfl (Nat.le_of_ble_eq_true rfl) rfl (fd_agrees h hf hp ?_)
        show Zw _ _ _ 47 [_, _, _, _] [_] _ _
        refine zw_if_eq 54 dX2_mayBeIn_47 (by decide) (fun h4 => ?_) (fun h4 => ?_)
        · refine zw_iconst dX2_mayBeIn_54 0 (by decide) ?_
          refine zw_ireturn .boolean dX2_mayBeIn_55 rfl rfl (Nat.le_refl _) (Nat.le_refl _) ?_
          rw [bI_f h4] at k
          exact k
        · refine zw_iconst dX2_mayBeIn_50 1 (by decide) ?_
          refine zw_goto 55 dX2_mayBeIn_51 (by decide) ?_
          refine zw_ireturn .boolean dX2_mayBeIn_55 rfl rfl (Nat.le_refl _) (Nat.le_refl _) ?_
          rw [bI_t h4] at k
          exact k
end ZFOODS
