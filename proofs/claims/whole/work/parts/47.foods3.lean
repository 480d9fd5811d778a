/-! ===== Foods: hints, lookAt, answers ===== -/
/-- the four rows of masks behind a hint -/
abbrev HMs : Type := (Nat → Nat) × (Nat → Nat) × (Nat → Nat) × (Nat → Nat)
def heedM (s f b : Nat) (m : HMs) : HMs := match s with
  | 0 => (va_up m.1 f (m.1 f &&& 2 ^ b), m.2)
  | 1 => (va_up m.1 f (andn (m.1 f) (2 ^ b)), m.2)
  | 2 => (m.1, va_up m.2.1 b (m.2.1 b ||| 2 ^ f), m.2.2)
  | _ => (m.1, m.2.1, va_up m.2.2.1 b (m.2.2.1 b ||| 2 ^ f), va_up m.2.2.2 f (m.2.2.2 f ||| 2 ^ b))
theorem up_I (f : Nat → Nat) (i v : Nat) : upd (fun j => nI (f j)) i (nI v) = fun j => nI (va_up f i v j) := by
  funext j
  by_cases hj : j = i
  · subst hj; simp [va_up, upd]
  · simp [va_up, upd, hj]
theorem up_lt {f : Nat → Nat} {i v : Nat} (h : ∀ j, f j < 128) (hv : v < 128) : ∀ j, va_up f i v j < 128 := by
  intro j
  by_cases hj : j = i
  · simp only [va_up, if_pos hj]; exact hv
  · simp only [va_up, if_neg hj]; exact h j
theorem nbit_I : ∀ a, a < 128 → ∀ i, i < 7 → nI a &&& (((1 : Int32) <<< (nI i &&& 31)) ^^^ -1) = nI (andn a (2 ^ i)) := by decide +kernel
theorem abit_I : ∀ a, a < 128 → ∀ i, i < 7 → nI a &&& ((1 : Int32) <<< (nI i &&& 31)) = nI (a &&& 2 ^ i) := by decide +kernel
section ZFOODS3
variable {d n : Nat} {w : ZW} {sz pl wy : Nat → Int32} {al le sm gr : Nat → Nat} {ways : Int32} {Q : Option Value → ZW → Prop}
theorem fd_heed {s f b : Nat} (h : isFd w n sz al le sm gr pl wy ways) (hs : s < 4) (hf : f < 7) (hb : b < 7) (k : ∀ w', isFd w' n sz (heedM s f b (al, le, sm, gr)).1 (heedM s f b (al, le, sm, gr)).2.1 (heedM s f b (al, le, sm, gr)).2.2.1 (heedM s f b (al, le, sm, gr)).2.2.2 pl wy ways → zOff 65 73 w w' → Q none w') : Zm (d + 1) mX2_heed 0 0 [.ref 65, .int (nI s), .int (nI f), .int (nI b)] w Q := by
  have hm := h.2.2.2.2.2.2.2.2.2
  refine zm_intro [_, _, _, _] oX2_heed (Nat.le_of_ble_eq_true rfl) rfl ?_
  refine zw_iload_n dX2_heed_0 rfl ?_
  refine zw_iconst dX2_heed_1 0 (by decide) ?_
  refine zw_bipush dX2_heed_2 6 (by decide) ?_
  refine zw_cS3 dX2_heed_4 oX8_within kX8_within lX2_77 (Nat.le_of_ble_eq_true rfl) rfl (x_within (fun h1 h2 => ?_) (fun h1 => ?_))
  · show Zw _ _ _ 7 [_, _, _, _] [_] _ _
    refine zw_if_eq 20 dX2_heed_7 (by decide) (fun hz => absurd hz (by decide)) (fun _ => ?_)
    refine zw_iload_n dX2_heed_10 rfl ?_
    refine zw_iconst dX2_heed_11 0 (by decide) ?_
    refine zw_bipush dX2_heed_12 6 (by decide) ?_
    refine zw_cS3 dX2_heed_14 oX8_within kX8_within lX2_77 (Nat.le_of_ble_eq_true rfl) rfl (x_within (fun h3 h4 => ?_) (fun h3 => ?_))
    · show Zw _ _ _ 17 [_, _, _, _] [_] _ _
      refine zw_if_ne 21 dX2_heed_17 (by decide) (fun _ => ?_) (fun hz => absurd hz (by decide))
      refine zw_iload_n dX2_heed_21 rfl ?_
      have h6 : s = 0 ∨ s = 1 ∨ s = 2 ∨ s = 3 := by omega
      rcases h6 with rfl | rfl | rfl | rfl
      · refine zw_tableIn 52 dX2_heed_22 (by decide) (by decide) (off := 30) (by decide) (by decide) ?_
        refine zw_aload_n dX2_heed_52 rfl ?_
        refine zw_get dX2_heed_53 fX2_15 h.1 rfl ?_
        refine zw_iload_n dX2_heed_56 rfl ?_
        refine zw_dup2 dX2_heed_57 rfl rfl ?_
        refine zw_iald dX2_heed_58 h.2.2.1 (vp_in_nI hf (by decide)) ?_
        rw [nI_clamp (by omega)]
        refine zw_iconst dX2_heed_59 1 (by decide) ?_
        refine zw_iload_n dX2_heed_60 rfl ?_
        refine zw_ishl dX2_heed_61 ?_
        refine zw_iand dX2_heed_62 ?_
        refine zw_top (abit_I (al f) (hm f).1 b hb) ?_
        refine zw_iast dX2_heed_63 h.2.2.1 (vp_in_nI hf (by decide)) ?_
        rw [nI_clamp (by omega), up_I]
        refine zw_goto 126 dX2_heed_64 (by decide) ?_
        refine zw_return dX2_heed_126 rfl (Nat.le_refl _) (Nat.le_refl _) ?_
        obtain ⟨q0, q1, q2, q3, q4, q5, q6, q7, q8, q9⟩ := h
        exact k _ ⟨q0.put (by decide), q1.put (by decide), q2.self, q3.put (by decide), q4.put (by decide), q5.put (by decide), q6.put (by decide), q7.put (by decide), q8, fun i => ⟨up_lt (fun j => (hm j).1) (Nat.lt_of_le_of_lt Nat.and_le_left (hm f).1) i, (hm i).2⟩⟩ (zOff.pt (by decide) (by decide))
      · refine zw_tableIn 67 dX2_heed_22 (by decide) (by decide) (off := 45) (by decide) (by decide) ?_
        refine zw_aload_n dX2_heed_67 rfl ?_
        refine zw_get dX2_heed_68 fX2_15 h.1 rfl ?_
        refine zw_iload_n dX2_heed_71 rfl ?_
        refine zw_dup2 dX2_heed_72 rfl rfl ?_
        refine zw_iald dX2_heed_73 h.2.2.1 (vp_in_nI hf (by decide)) ?_
        rw [nI_clamp (by omega)]
        refine zw_iconst dX2_heed_74 1 (by decide) ?_
        refine zw_iload_n dX2_heed_75 rfl ?_
        refine zw_ishl dX2_heed_76 ?_
        refine zw_iconst dX2_heed_77 (-1) (by decide) ?_
        refine zw_ixor dX2_heed_78 ?_
        refine zw_iand dX2_heed_79 ?_
        refine zw_top (nbit_I (al f) (hm f).1 b hb) ?_
        refine zw_iast dX2_heed_80 h.2.2.1 (vp_in_nI hf (by decide)) ?_
        rw [nI_clamp (by omega), up_I]
        refine zw_goto 126 dX2_heed_81 (by decide) ?_
        refine zw_return dX2_heed_126 rfl (Nat.le_refl _) (Nat.le_refl _) ?_
        obtain ⟨q0, q1, q2, q3, q4, q5, q6, q7, q8, q9⟩ := h
        exact k _ ⟨q0.put (by decide), q1.put (by decide), q2.self, q3.put (by decide), q4.put (by decide), q5.put (by decide), q6.put (by decide), q7.put (by decide), q8, fun i => ⟨up_lt (fun j => (hm j).1) (andn_lt (hm f).1) i, (hm i).2⟩⟩ (zOff.pt (by decide) (by decide))
      · refine zw_tableIn 84 dX2_heed_22 (by decide) (by decide) (off := 62) (by decide) (by decide) ?_
        refine zw_aload_n dX2_heed_84 rfl ?_
        refine zw_get dX2_heed_85 fX2_18 h.1 rfl ?_
        refine zw_iload_n dX2_heed_88 rfl ?_
        refine zw_dup2 dX2_heed_89 rfl rfl ?_
        refine zw_iald dX2_heed_90 h.2.2.2.1 (vp_in_nI hb (by decide)) ?_
        rw [nI_clamp (by omega)]
        refine zw_iconst dX2_heed_91 1 (by decide) ?_
        refine zw_iload_n dX2_heed_92 rfl ?_
        refine zw_ishl dX2_heed_93 ?_
        refine zw_ior dX2_heed_94 ?_
        refine zw_top (orb_I (le b) (hm b).2.1 f hf) ?_
        refine zw_iast dX2_heed_95 h.2.2.2.1 (vp_in_nI hb (by decide)) ?_
        rw [nI_clamp (by omega), up_I]
        refine zw_goto 126 dX2_heed_96 (by decide) ?_
        refine zw_return dX2_heed_126 rfl (Nat.le_refl _) (Nat.le_refl _) ?_
        obtain ⟨q0, q1, q2, q3, q4, q5, q6, q7, q8, q9⟩ := h
        exact k _ ⟨q0.put (by decide), q1.put (by decide), q2.put (by decide), q3.self, q4.put (by decide), q5.put (by decide), q6.put (by decide), q7.put (by decide), q8, fun i => ⟨(hm i).1, up_lt (fun j => (hm j).2.1) (orb_lt (c := 7) (hm b).2.1 hf) i, (hm i).2.2⟩⟩ (zOff.pt (by decide) (by decide))
      · refine zw_tableIn 99 dX2_heed_22 (by decide) (by decide) (off := 77) (by decide) (by decide) ?_
        refine zw_aload_n dX2_heed_99 rfl ?_
        refine zw_get dX2_heed_100 fX2_21 h.1 rfl ?_
        refine zw_iload_n dX2_heed_103 rfl ?_
        refine zw_dup2 dX2_heed_104 rfl rfl ?_
        refine zw_iald dX2_heed_105 h.2.2.2.2.1 (vp_in_nI hb (by decide)) ?_
        rw [nI_clamp (by omega)]
        refine zw_iconst dX2_heed_106 1 (by decide) ?_
        refine zw_iload_n dX2_heed_107 rfl ?_
        refine zw_ishl dX2_heed_108 ?_
        refine zw_ior dX2_heed_109 ?_
        refine zw_top (orb_I (sm b) (hm b).2.2.1 f hf) ?_
        refine zw_iast dX2_heed_110 h.2.2.2.2.1 (vp_in_nI hb (by decide)) ?_
        rw [nI_clamp (by omega), up_I]
        obtain ⟨q0, q1, q2, q3, q4, q5, q6, q7, q8, q9⟩ := h
        have g0 := q0.put (i := 69) (e' := .inl (0, 7, fun j => nI (va_up sm b (sm b ||| 2 ^ f) j))) (by decide)
        have g5 := q5.put (i := 69) (e' := .inl (0, 7, fun j => nI (va_up sm b (sm b ||| 2 ^ f) j))) (by decide)
        refine zw_aload_n dX2_heed_111 rfl ?_
        refine zw_get dX2_heed_112 fX2_24 g0 rfl ?_
        refine zw_iload_n dX2_heed_115 rfl ?_
        refine zw_dup2 dX2_heed_116 rfl rfl ?_
        refine zw_iald dX2_heed_117 g5 (vp_in_nI hf (by decide)) ?_
        rw [nI_clamp (by omega)]
        refine zw_iconst dX2_heed_118 1 (by decide) ?_
        refine zw_iload_n dX2_heed_119 rfl ?_
        refine zw_ishl dX2_heed_120 ?_
        refine zw_ior dX2_heed_121 ?_
        refine zw_top (orb_I (gr f) (hm f).2.2.2 b hb) ?_
        refine zw_iast dX2_heed_122 g5 (vp_in_nI hf (by decide)) ?_
        rw [nI_clamp (by omega), up_I]
        refine zw_goto 126 dX2_heed_123 (by decide) ?_
        refine zw_return dX2_heed_126 rfl (Nat.le_refl _) (Nat.le_refl _) ?_
        exact k _ ⟨g0.put (by decide), (q1.put (by decide)).put (by decide), (q2.put (by decide)).put (by decide), (q3.put (by decide)).put (by decide), q4.self.put (by decide), g5.self, (q6.put (by decide)).put (by decide), (q7.put (by decide)).put (by decide), q8, fun i => ⟨(hm i).1, (hm i).2.1, up_lt (fun j => (hm j).2.2.1) (orb_lt (c := 7) (hm b).2.2.1 hf) i, up_lt (fun j => (hm j).2.2.2) (orb_lt (c := 7) (hm f).2.2.2 hb) i⟩⟩ ((zOff.pt (by decide) (by decide)).tr (zOff.pt (by decide) (by decide)))
    · exact absurd ⟨nI_pos' (by omega), nI_le (b := 6) (by omega) (by decide)⟩ h3
  · exact absurd ⟨nI_pos' (by omega), nI_le (b := 6) (by omega) (by decide)⟩ h1
theorem fd_waysWith {b f : Nat} (h : isFd w n sz al le sm gr pl wy ways) (hb : b < 7) (hf : f < 7) (k : Q (some (.int (wy (b * 7 + f)))) w) : Zm (d + 1) mX2_waysWith 0 0 [.ref 65, .int (nI b), .int (nI f)] w Q := by
  refine zm_intro [_, _, _, _] oX2_waysWith (Nat.le_of_ble_eq_true rfl) rfl ?_
  refine zw_iload_n dX2_waysWith_0 rfl ?_
  refine zw_iconst dX2_waysWith_1 0 (by decide) ?_
  refine zw_bipush dX2_waysWith_2 6 (by decide) ?_
  refine zw_cS3 dX2_waysWith_4 oX8_within kX8_within lX2_77 (Nat.le_of_ble_eq_true rfl) rfl (x_within (fun h1 h2 => ?_) (fun h1 => ?_))
  · show Zw _ _ _ 7 [_, _, _, _] [_] _ _
    refine zw_if_eq 24 dX2_waysWith_7 (by decide) (fun hz => absurd hz (by decide)) (fun _ => ?_)
    refine zw_iload_n dX2_waysWith_10 rfl ?_
    refine zw_iconst dX2_waysWith_11 0 (by decide) ?_
    refine zw_bipush dX2_waysWith_12 6 (by decide) ?_
    refine zw_cS3 dX2_waysWith_14 oX8_within kX8_within lX2_77 (Nat.le_of_ble_eq_true rfl) rfl (x_within (fun h3 h4 => ?_) (fun h3 => ?_))
    · show Zw _ _ _ 17 [_, _, _, _] [_] _ _
      refine zw_if_eq 24 dX2_waysWith_17 (by decide) (fun hz => absurd hz (by decide)) (fun _ => ?_)
      refine zw_iconst dX2_waysWith_20 1 (by decide) ?_
      refine zw_goto 25 dX2_waysWith_21 (by decide) ?_
      refine zw_istore_n [_, _, _, _] dX2_waysWith_25 (Nat.le_of_ble_eq_true rfl) rfl ?_
      refine zw_iload_n dX2_waysWith_26 rfl ?_
      refine zw_if_eq 44 dX2_waysWith_27 (by decide) (fun hz => absurd hz (by decide)) (fun _ => ?_)
      refine zw_aload_n dX2_waysWith_30 rfl ?_
      refine zw_get dX2_waysWith_31 fX2_30 h.1 rfl ?_
      refine zw_iload_n dX2_waysWith_34 rfl ?_
      refine zw_bipush dX2_waysWith_35 7 (by decide) ?_
      refine zw_imul dX2_waysWith_37 ?_
      refine zw_iload_n dX2_waysWith_38 rfl ?_
      refine zw_iadd dX2_waysWith_39 ?_
      refine zw_top (isT_ix (W := 7)) ?_
      refine zw_iald dX2_waysWith_40 h.2.2.2.2.2.2.2.1 (vp_in_nI (by omega) (by decide)) ?_
      rw [nI_clamp (by omega)]
      refine zw_goto 45 dX2_waysWith_41 (by decide) ?_
      refine zw_ireturn .int dX2_waysWith_45 rfl rfl (Nat.le_refl _) (Nat.le_refl _) ?_
      exact k
    · exact absurd ⟨nI_pos' (by omega), nI_le (b := 6) (by omega) (by decide)⟩ h3
  · exact absurd ⟨nI_pos' (by omega), nI_le (b := 6) (by omega) (by decide)⟩ h1
theorem fd_boxesOfL {f : Nat} (h : isFd w n sz al le sm gr pl wy ways) (hf : f < 7) : ∀ (k i m : Nat), i + k = n → m < 2 ^ i → Q (some (.int (nI (mskF (fun b => decide (0 < wy (b * 7 + f))) i k m)))) w → Zw (d + 2) mX2_boxesOf z0 4 [some (.ref 65), some (.int (nI f)), some (.int (nI m)), some (.int (nI i))] [] w Q := by
  have h7 := h.2.2.2.2.2.2.2.2.1
  intro k
  induction k with
  | zero =>
    intro i m hi hm kk
    refine zw_iload_n dX2_boxesOf_4 rfl ?_
    refine zw_aload_n dX2_boxesOf_5 rfl ?_
    refine zw_get dX2_boxesOf_6 fX2_51 h.1 rfl ?_
    refine zw_icmp_ge 33 dX2_boxesOf_9 (by decide) (fun _ => ?_) (fun hz => absurd (nI_le (by omega) (by omega)) hz)
    refine zw_iload_n dX2_boxesOf_33 rfl ?_
    refine zw_ireturn .int dX2_boxesOf_34 rfl rfl (Nat.le_refl _) (Nat.le_refl _) ?_
    exact kk
  | succ k ih =>
    intro i m hi hm kk
    unfold mskF at kk
    have hm2 : m + 2 ^ i < 2 ^ (i + 1) := by rw [Nat.pow_succ]; omega
    refine zw_iload_n dX2_boxesOf_4 rfl ?_
    refine zw_aload_n dX2_boxesOf_5 rfl ?_
    refine zw_get dX2_boxesOf_6 fX2_51 h.1 rfl ?_
    refine zw_icmp_ge 33 dX2_boxesOf_9 (by decide) (fun hz => absurd hz (nI_ge (by omega) (by omega))) (fun _ => ?_)
    refine zw_aload_n dX2_boxesOf_12 rfl ?_
    refine zw_iload_n dX2_boxesOf_13 rfl ?_
    refine zw_iload_n dX2_boxesOf_14 rfl ?_
    refine zw_cV2 dX2_boxesOf_15 oX2_waysWith kX2_waysWith lX2_91 h.1 rfl (Nat.le_of_ble_eq_true rfl) rfl (fd_waysWith h (by omega) hf ?_)
    show Zw _ _ _ 18 [_, _, _, _] [_] _ _
    refine zw_if_le 27 dX2_boxesOf_18 (by decide) (fun hx => ?_) (fun hx => ?_)
    · refine zw_iinc (nI (i + 1)) [_, _, _, _] dX2_boxesOf_27 rfl (nI_1 i) rfl ?_
      refine zw_goto 4 dX2_boxesOf_30 (by decide) ?_
      refine ih (i + 1) m (by omega) (by omega) ?_
      rwa [if_neg (by simpa using hx)] at kk
    · refine zw_iload_n dX2_boxesOf_21 rfl ?_
      refine zw_iconst dX2_boxesOf_22 1 (by decide) ?_
      refine zw_iload_n dX2_boxesOf_23 rfl ?_
      refine zw_ishl dX2_boxesOf_24 ?_
      refine zw_ior dX2_boxesOf_25 ?_
      refine zw_top (or_bit i (by omega) m hm) ?_
      refine zw_istore_n [_, _, _, _] dX2_boxesOf_26 (Nat.le_of_ble_eq_true rfl) rfl ?_
      refine zw_iinc (nI (i + 1)) [_, _, _, _] dX2_boxesOf_27 rfl (nI_1 i) rfl ?_
      refine zw_goto 4 dX2_boxesOf_30 (by decide) ?_
      refine ih (i + 1) _ (by omega) hm2 ?_
      rwa [if_pos (by simpa using hx)] at kk
theorem fd_boxesOf {f : Nat} (h : isFd w n sz al le sm gr pl wy ways) (hf : f < 7) (k : Q (some (.int (nI (mskF (fun b => decide (0 < wy (b * 7 + f))) 0 n 0)))) w) : Zm (d + 2) mX2_boxesOf 0 0 [.ref 65, .int (nI f)] w Q := by
  refine zm_intro [_, _, _, _] oX2_boxesOf (Nat.le_of_ble_eq_true rfl) rfl ?_
  refine zw_iconst dX2_boxesOf_0 0 (by decide) ?_
  refine zw_istore_n [_, _, _, _] dX2_boxesOf_1 (Nat.le_of_ble_eq_true rfl) rfl ?_
  refine zw_iconst dX2_boxesOf_2 0 (by decide) ?_
  refine zw_istore_n [_, _, _, _] dX2_boxesOf_3 (Nat.le_of_ble_eq_true rfl) rfl ?_
  exact fd_boxesOfL h hf n 0 0 (by omega) (by decide) k
def worstF (wy : Nat → Int32) (b i k : Nat) (a : Int32) : Int32 := match k with
  | 0 => a
  | k + 1 => worstF wy b (i + 1) k (if a < wy (b * 7 + i) then wy (b * 7 + i) else a)
theorem fd_worstL {b : Nat} (h : isFd w n sz al le sm gr pl wy ways) (hb : b < 7) : ∀ (k i : Nat) (a : Int32), i + k = n → Q (some (.int (worstF wy b i k a))) w → Zw (d + 2) mX2_worstBehind z0 4 [some (.ref 65), some (.int (nI b)), some (.int a), some (.int (nI i))] [] w Q := by
  have h7 := h.2.2.2.2.2.2.2.2.1
  intro k
  induction k with
  | zero =>
    intro i a hi kk
    refine zw_iload_n dX2_worstBehind_4 rfl ?_
    refine zw_aload_n dX2_worstBehind_5 rfl ?_
    refine zw_get dX2_worstBehind_6 fX2_51 h.1 rfl ?_
    refine zw_icmp_ge 29 dX2_worstBehind_9 (by decide) (fun _ => ?_) (fun hz => absurd (nI_le (by omega) (by omega)) hz)
    refine zw_iload_n dX2_worstBehind_29 rfl ?_
    refine zw_ireturn .int dX2_worstBehind_30 rfl rfl (Nat.le_refl _) (Nat.le_refl _) ?_
    exact kk
  | succ k ih =>
    intro i a hi kk
    refine zw_iload_n dX2_worstBehind_4 rfl ?_
    refine zw_aload_n dX2_worstBehind_5 rfl ?_
    refine zw_get dX2_worstBehind_6 fX2_51 h.1 rfl ?_
    refine zw_icmp_ge 29 dX2_worstBehind_9 (by decide) (fun hz => absurd hz (nI_ge (by omega) (by omega))) (fun _ => ?_)
    refine zw_iload_n dX2_worstBehind_12 rfl ?_
    refine zw_aload_n dX2_worstBehind_13 rfl ?_
    refine zw_iload_n dX2_worstBehind_14 rfl ?_
    refine zw_iload_n dX2_worstBehind_15 rfl ?_
    refine zw_cV2 dX2_worstBehind_16 oX2_waysWith kX2_waysWith lX2_91 h.1 rfl (Nat.le_of_ble_eq_true rfl) rfl (fd_waysWith h hb (by omega) ?_)
    show Zw _ _ _ 19 [_, _, _, _] [_, _] _ _
    refine zw_max dX2_worstBehind_19 lX2_98 w_stat_max iniJ9 w_code_max rfl (Nat.le_of_ble_eq_true rfl) (by decide) (by decide) ?_
    refine zw_istore_n [_, _, _, _] dX2_worstBehind_22 (Nat.le_of_ble_eq_true rfl) rfl ?_
    refine zw_iinc (nI (i + 1)) [_, _, _, _] dX2_worstBehind_23 rfl (nI_1 i) rfl ?_
    refine zw_goto 4 dX2_worstBehind_26 (by decide) ?_
    exact ih (i + 1) _ (by omega) kk
theorem fd_worst {b : Nat} (h : isFd w n sz al le sm gr pl wy ways) (hb : b < 7) (k : Q (some (.int (worstF wy b 0 n 0))) w) : Zm (d + 2) mX2_worstBehind 0 0 [.ref 65, .int (nI b)] w Q := by
  refine zm_intro [_, _, _, _] oX2_worstBehind (Nat.le_of_ble_eq_true rfl) rfl ?_
  refine zw_iconst dX2_worstBehind_0 0 (by decide) ?_
  refine zw_istore_n [_, _, _, _] dX2_worstBehind_1 (Nat.le_of_ble_eq_true rfl) rfl ?_
  refine zw_iconst dX2_worstBehind_2 0 (by decide) ?_
  refine zw_istore_n [_, _, _, _] dX2_worstBehind_3 (Nat.le_of_ble_eq_true rfl) rfl ?_
  exact fd_worstL h hb n 0 _ (by omega) k
def openF (wy : Nat → Int32) (n i k : Nat) (fo fe : Int32) : Int32 := match k with
  | 0 => fo
  | k + 1 => if 0 < worstF wy i 0 n 0 ∧ worstF wy i 0 n 0 < fe then openF wy n (i + 1) k (nI i) (worstF wy i 0 n 0) else openF wy n (i + 1) k fo fe
theorem fd_openL (h : isFd w n sz al le sm gr pl wy ways) : ∀ (k i : Nat) (fo fe : Int32) (o : Option Value), i + k = n → Q (some (.int (openF wy n i k fo fe))) w → Zw (d + 3) mX2_boxToOpen z0 7 [some (.ref 65), some (.int fo), some (.int fe), some (.int (nI i)), o] [] w Q := by
  have h7 := h.2.2.2.2.2.2.2.2.1
  intro k
  induction k with
  | zero =>
    intro i fo fe o hi kk
    refine zw_iload_n dX2_boxToOpen_7 rfl ?_
    refine zw_aload_n dX2_boxToOpen_8 rfl ?_
    refine zw_get dX2_boxToOpen_9 fX2_51 h.1 rfl ?_
    refine zw_icmp_ge 44 dX2_boxToOpen_12 (by decide) (fun _ => ?_) (fun hz => absurd (nI_le (by omega) (by omega)) hz)
    refine zw_iload_n dX2_boxToOpen_44 rfl ?_
    refine zw_ireturn .int dX2_boxToOpen_45 rfl rfl (Nat.le_refl _) (Nat.le_refl _) ?_
    exact kk
  | succ k ih =>
    intro i fo fe o hi kk
    unfold openF at kk
    have skip : ¬ (0 < worstF wy i 0 n 0 ∧ worstF wy i 0 n 0 < fe) → ∀ o, Zw (d + 3) mX2_boxToOpen z0 38 [some (.ref 65), some (.int fo), some (.int fe), some (.int (nI i)), o] [] w Q := by
      intro hc o
      rw [if_neg hc] at kk
      refine zw_iinc (nI (i + 1)) [_, _, _, _, _] dX2_boxToOpen_38 rfl (nI_1 i) rfl ?_
      refine zw_goto 7 dX2_boxToOpen_41 (by decide) ?_
      exact ih (i + 1) fo fe _ (by omega) kk
    refine zw_iload_n dX2_boxToOpen_7 rfl ?_
    refine zw_aload_n dX2_boxToOpen_8 rfl ?_
    refine zw_get dX2_boxToOpen_9 fX2_51 h.1 rfl ?_
    refine zw_icmp_ge 44 dX2_boxToOpen_12 (by decide) (fun hz => absurd hz (nI_ge (by omega) (by omega))) (fun _ => ?_)
    refine zw_aload_n dX2_boxToOpen_15 rfl ?_
    refine zw_iload_n dX2_boxToOpen_16 rfl ?_
    refine zw_cV1 dX2_boxToOpen_17 oX2_worstBehind kX2_worstBehind lX2_95 h.1 rfl (Nat.le_of_ble_eq_true rfl) rfl (fd_worst h (by omega) ?_)
    show Zw _ _ _ 20 [_, _, _, _, _] [_] _ _
    refine zw_istore [_, _, _, _, _] dX2_boxToOpen_20 (Nat.le_of_ble_eq_true rfl) rfl ?_
    refine zw_iload dX2_boxToOpen_22 rfl ?_
    refine zw_if_le 38 dX2_boxToOpen_24 (by decide) (fun h1 => ?_) (fun h1 => ?_)
    · exact skip (fun z => Int32.not_lt.mpr h1 z.1) _
    · refine zw_iload dX2_boxToOpen_27 rfl ?_
      refine zw_iload_n dX2_boxToOpen_29 rfl ?_
      refine zw_icmp_ge 38 dX2_boxToOpen_30 (by decide) (fun h2 => ?_) (fun h2 => ?_)
      · exact skip (fun z => Int32.not_lt.mpr h2 z.2) _
      · refine zw_iload_n dX2_boxToOpen_33 rfl ?_
        refine zw_istore_n [_, _, _, _, _] dX2_boxToOpen_34 (Nat.le_of_ble_eq_true rfl) rfl ?_
        refine zw_iload dX2_boxToOpen_35 rfl ?_
        refine zw_istore_n [_, _, _, _, _] dX2_boxToOpen_37 (Nat.le_of_ble_eq_true rfl) rfl ?_
        refine zw_iinc (nI (i + 1)) [_, _, _, _, _] dX2_boxToOpen_38 rfl (nI_1 i) rfl ?_
        refine zw_goto 7 dX2_boxToOpen_41 (by decide) ?_
        rw [if_pos ⟨Int32.not_le.mp h1, Int32.not_le.mp h2⟩] at kk
        exact ih (i + 1) _ _ _ (by omega) kk
theorem fd_open (h : isFd w n sz al le sm gr pl wy ways) (k : Q (some (.int (openF wy n 0 n (-1) 1073741824))) w) : Zm (d + 3) mX2_boxToOpen 0 0 [.ref 65] w Q := by
  refine zm_intro [_, _, _, _, _] oX2_boxToOpen (Nat.le_of_ble_eq_true rfl) rfl ?_
  refine zw_iconst dX2_boxToOpen_0 (-1) (by decide) ?_
  refine zw_istore_n [_, _, _, _, _] dX2_boxToOpen_1 (Nat.le_of_ble_eq_true rfl) rfl ?_
  refine zw_ldc dX2_boxToOpen_2 qX2_94 ?_
  refine zw_istore_n [_, _, _, _, _] dX2_boxToOpen_4 (Nat.le_of_ble_eq_true rfl) rfl ?_
  refine zw_iconst dX2_boxToOpen_5 0 (by decide) ?_
  refine zw_istore_n [_, _, _, _, _] dX2_boxToOpen_6 (Nat.le_of_ble_eq_true rfl) rfl ?_
  exact fd_openL h n 0 _ _ _ (by omega) k
theorem fd_allWays (h : isFd w n sz al le sm gr pl wy ways) (k : Q (some (.int ways)) w) : Zm d mX2_allWays 0 0 [.ref 65] w Q := by
  refine zm_intro [_] oX2_allWays (Nat.le_of_ble_eq_true rfl) rfl ?_
  refine zw_aload_n dX2_allWays_0 rfl ?_
  refine zw_get dX2_allWays_1 fX2_74 h.1 rfl ?_
  refine zw_ireturn .int dX2_allWays_4 rfl rfl (Nat.le_refl _) (Nat.le_refl _) ?_
  exact k
end ZFOODS3
