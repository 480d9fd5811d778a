/-! ===== Foods: the ways ===== -/
abbrev FSt : Type := Int32 × (Nat → Int32) × (Nat → Int32)
def foldF (g : Nat → FSt → FSt) (i k : Nat) (s : FSt) : FSt := match k with
  | 0 => s
  | k + 1 => foldF g (i + 1) k (g i s)
/-- the ways from a box on (k boxes are left): how many, and the two rows behind it -/
def wF (sz : Nat → Int32) (al le sm gr : Nat → Nat) (n k box placed : Nat) (pl wy : Nat → Int32) : FSt := match k with
  | 0 => (1, pl, wy)
  | k + 1 => foldF (fun f s => if placed.testBit f = false ∧ mayB sz al le sm gr s.2.1 n box f placed = true then
      (s.1 + (wF sz al le sm gr n k (box + 1) (placed ||| 2 ^ f) (upd s.2.1 f (nI box)) s.2.2).1, (wF sz al le sm gr n k (box + 1) (placed ||| 2 ^ f) (upd s.2.1 f (nI box)) s.2.2).2.1, upd (wF sz al le sm gr n k (box + 1) (placed ||| 2 ^ f) (upd s.2.1 f (nI box)) s.2.2).2.2 (box * 7 + f) ((wF sz al le sm gr n k (box + 1) (placed ||| 2 ^ f) (upd s.2.1 f (nI box)) s.2.2).2.2 (box * 7 + f) + (wF sz al le sm gr n k (box + 1) (placed ||| 2 ^ f) (upd s.2.1 f (nI box)) s.2.2).1)) else s) 0 n (0, pl, wy)
section ZFOODS2
variable {d n : Nat} {sz : Nat → Int32} {al le sm gr : Nat → Nat} {ways : Int32} {Q : Option Value → ZW → Prop}
theorem fd_waysFrom : ∀ (k box placed : Nat) (w : ZW) (pl wy : Nat → Int32) (Q : Option Value → ZW → Prop), box + k = n → placed < 128 → isFd w n sz al le sm gr pl wy ways → (∀ w', isFd w' n sz al le sm gr (wF sz al le sm gr n k box placed pl wy).2.1 (wF sz al le sm gr n k box placed pl wy).2.2 ways → zOff 65 73 w w' → Q (some (.int (wF sz al le sm gr n k box placed pl wy).1)) w') → Zm (d + k + 4) mX2_waysFrom 0 0 [.ref 65, .int (nI box), .int (nI placed)] w Q := by
  intro k
  induction k with
  | zero =>
    intro box placed w pl wy Q hb hp h kk
    have h7 := h.2.2.2.2.2.2.2.2.1
    refine zm_intro [_, _, _, _, _, _] oX2_waysFrom (Nat.le_of_ble_eq_true rfl) rfl ?_
    refine zw_iload_n dX2_waysFrom_0 rfl ?_
    refine zw_aload_n dX2_waysFrom_1 rfl ?_
    refine zw_get dX2_waysFrom_2 fX2_51 h.1 rfl ?_
    refine zw_icmp_ge 14 dX2_waysFrom_5 (by decide) (fun _ => ?_) (fun hz => absurd (nI_le (by omega) (by omega)) hz)
    refine zw_iconst dX2_waysFrom_14 1 (by decide) ?_
    refine zw_ireturn .int dX2_waysFrom_15 rfl rfl (Nat.le_refl _) (Nat.le_refl _) ?_
    exact kk w h zOff.rf
  | succ k ih =>
    intro box placed w0 pl0 wy0 Q hb hp h kk
    have h7 := h.2.2.2.2.2.2.2.2.1
    refine zm_intro [_, _, _, _, _, _] oX2_waysFrom (Nat.le_of_ble_eq_true rfl) rfl ?_
    refine zw_iload_n dX2_waysFrom_0 rfl ?_
    refine zw_aload_n dX2_waysFrom_1 rfl ?_
    refine zw_get dX2_waysFrom_2 fX2_51 h.1 rfl ?_
    refine zw_icmp_ge 14 dX2_waysFrom_5 (by decide) (fun hz => absurd hz (nI_ge (by omega) (by omega))) (fun _ => ?_)
    refine zw_iload_n dX2_waysFrom_8 rfl ?_
    refine zw_bipush dX2_waysFrom_9 7 (by decide) ?_
    refine zw_icmp_lt 16 dX2_waysFrom_11 (by decide) (fun _ => ?_) (fun hz => absurd (nI_lt (b := 7) (by omega) (by decide)) hz)
    refine zw_iconst dX2_waysFrom_16 0 (by decide) ?_
    refine zw_istore_n [_, _, _, _, _, _] dX2_waysFrom_17 (Nat.le_of_ble_eq_true rfl) rfl ?_
    refine zw_iconst dX2_waysFrom_18 0 (by decide) ?_
    refine zw_istore [_, _, _, _, _, _] dX2_waysFrom_19 (Nat.le_of_ble_eq_true rfl) rfl ?_
    have loop : ∀ (j f : Nat) (s : FSt) (w : ZW) (o5 : Option Value), f + j = n → isFd w n sz al le sm gr s.2.1 s.2.2 ways → zOff 65 73 w0 w → wF sz al le sm gr n (k + 1) box placed pl0 wy0 = foldF (fun f s => if placed.testBit f = false ∧ mayB sz al le sm gr s.2.1 n box f placed = true then
      (s.1 + (wF sz al le sm gr n k (box + 1) (placed ||| 2 ^ f) (upd s.2.1 f (nI box)) s.2.2).1, (wF sz al le sm gr n k (box + 1) (placed ||| 2 ^ f) (upd s.2.1 f (nI box)) s.2.2).2.1, upd (wF sz al le sm gr n k (box + 1) (placed ||| 2 ^ f) (upd s.2.1 f (nI box)) s.2.2).2.2 (box * 7 + f) ((wF sz al le sm gr n k (box + 1) (placed ||| 2 ^ f) (upd s.2.1 f (nI box)) s.2.2).2.2 (box * 7 + f) + (wF sz al le sm gr n k (box + 1) (placed ||| 2 ^ f) (upd s.2.1 f (nI box)) s.2.2).1)) else s) f j s → Zw (d + k + 5) mX2_waysFrom z0 21 [some (.ref 65), some (.int (nI box)), some (.int (nI placed)), some (.int s.1), some (.int (nI f)), o5] [] w Q := by
      intro j
      induction j with
      | zero =>
        intro f s w o5 hf h ho e
        refine zw_iload dX2_waysFrom_21 rfl ?_
        refine zw_aload_n dX2_waysFrom_23 rfl ?_
        refine zw_get dX2_waysFrom_24 fX2_51 h.1 rfl ?_
        refine zw_icmp_ge 101 dX2_waysFrom_27 (by decide) (fun _ => ?_) (fun hz => absurd (nI_le (by omega) (by omega)) hz)
        refine zw_iload_n dX2_waysFrom_101 rfl ?_
        refine zw_ireturn .int dX2_waysFrom_102 rfl rfl (Nat.le_refl _) (Nat.le_refl _) ?_
        have e : wF sz al le sm gr n (k + 1) box placed pl0 wy0 = s := e
        have := kk w
        rw [e] at this
        exact this h ho
      | succ j ihj =>
        intro f s w o5 hf h ho e
        unfold foldF at e
        have skip : ¬ (placed.testBit f = false ∧ mayB sz al le sm gr s.2.1 n box f placed = true) → ∀ o5, Zw (d + k + 5) mX2_waysFrom z0 95 [some (.ref 65), some (.int (nI box)), some (.int (nI placed)), some (.int s.1), some (.int (nI f)), o5] [] w Q := by
          intro hc o5
          rw [if_neg hc] at e
          refine zw_iinc (nI (f + 1)) [_, _, _, _, _, _] dX2_waysFrom_95 rfl (nI_1 f) rfl ?_
          refine zw_goto 21 dX2_waysFrom_98 (by decide) ?_
          exact ihj (f + 1) s w _ (by omega) h ho e
        refine zw_iload dX2_waysFrom_21 rfl ?_
        refine zw_aload_n dX2_waysFrom_23 rfl ?_
        refine zw_get dX2_waysFrom_24 fX2_51 h.1 rfl ?_
        refine zw_icmp_ge 101 dX2_waysFrom_27 (by decide) (fun hz => absurd hz (nI_ge (by omega) (by omega))) (fun _ => ?_)
        refine zw_iload_n dX2_waysFrom_30 rfl ?_
        refine zw_iload dX2_waysFrom_31 rfl ?_
        refine zw_ishr dX2_waysFrom_33 ?_
        refine zw_iconst dX2_waysFrom_34 1 (by decide) ?_
        refine zw_iand dX2_waysFrom_35 ?_
        refine zw_top (bit_t placed hp f (by omega)) ?_
        refine zw_if_ne 95 dX2_waysFrom_36 (by decide) (fun h1 => ?_) (fun h1 => ?_)
        · refine skip (fun z => ?_) _
          rw [z.1] at h1
          exact absurd rfl h1
        · have z1 : placed.testBit f = false := by
            cases hb : placed.testBit f with
            | false => rfl
            | true => rw [hb] at h1; exact absurd h1 (by decide)
          refine zw_aload_n dX2_waysFrom_39 rfl ?_
          refine zw_iload_n dX2_waysFrom_40 rfl ?_
          refine zw_iload dX2_waysFrom_41 rfl ?_
          refine zw_iload_n dX2_waysFrom_43 rfl ?_
          refine zw_cV3 dX2_waysFrom_44 oX2_mayBeIn kX2_mayBeIn lX2_81 h.1 rfl (Nat.le_of_ble_eq_true rfl) rfl (fd_may h (by omega) (by omega) hp ?_)
          show Zw _ _ _ 47 [_, _, _, _, _, _] [_] _ _
          refine zw_if_eq 95 dX2_waysFrom_47 (by decide) (fun h2 => ?_) (fun h2 => ?_)
          · refine skip (fun z => ?_) _
            rw [z.2] at h2
            exact absurd h2 (by decide)
          · rw [if_pos ⟨z1, bI_t h2⟩] at e
            have hlt : placed ||| 2 ^ f < 128 := orb_lt (c := 7) hp (by omega)
            refine zw_aload_n dX2_waysFrom_50 rfl ?_
            refine zw_get dX2_waysFrom_51 fX2_27 h.1 rfl ?_
            refine zw_iload dX2_waysFrom_54 rfl ?_
            refine zw_iload_n dX2_waysFrom_56 rfl ?_
            refine zw_iast dX2_waysFrom_57 h.2.2.2.2.2.2.1 (vp_in_nI (by omega) (by decide)) ?_
            rw [nI_clamp (by omega)]
            have g := h.setPl (upd s.2.1 f (nI box))
            refine zw_aload_n dX2_waysFrom_58 rfl ?_
            refine zw_iload_n dX2_waysFrom_59 rfl ?_
            refine zw_iconst dX2_waysFrom_60 1 (by decide) ?_
            refine zw_iadd dX2_waysFrom_61 ?_
            refine zw_top (nI_1 box) ?_
            refine zw_iload_n dX2_waysFrom_62 rfl ?_
            refine zw_iconst dX2_waysFrom_63 1 (by decide) ?_
            refine zw_iload dX2_waysFrom_64 rfl ?_
            refine zw_ishl dX2_waysFrom_66 ?_
            refine zw_ior dX2_waysFrom_67 ?_
            refine zw_top (orb_I placed hp f (by omega)) ?_
            refine zw_cS3 dX2_waysFrom_68 oX2_waysFrom kX2_waysFrom lX2_70 (Nat.le_of_ble_eq_true rfl) rfl (ih (box + 1) (placed ||| 2 ^ f) _ _ _ _ (by omega) hlt g (fun w2 g2 o2 => ?_))
            show Zw _ _ _ 71 [_, _, _, _, _, _] [_] _ _
            refine zw_istore [_, _, _, _, _, _] dX2_waysFrom_71 (Nat.le_of_ble_eq_true rfl) rfl ?_
            refine zw_aload_n dX2_waysFrom_73 rfl ?_
            refine zw_get dX2_waysFrom_74 fX2_30 g2.1 rfl ?_
            refine zw_iload_n dX2_waysFrom_77 rfl ?_
            refine zw_bipush dX2_waysFrom_78 7 (by decide) ?_
            refine zw_imul dX2_waysFrom_80 ?_
            refine zw_iload dX2_waysFrom_81 rfl ?_
            refine zw_iadd dX2_waysFrom_83 ?_
            refine zw_top (isT_ix (W := 7)) ?_
            refine zw_dup2 dX2_waysFrom_84 rfl rfl ?_
            refine zw_iald dX2_waysFrom_85 g2.2.2.2.2.2.2.2.1 (vp_in_nI (by omega) (by decide)) ?_
            rw [nI_clamp (by omega)]
            refine zw_iload dX2_waysFrom_86 rfl ?_
            refine zw_iadd dX2_waysFrom_88 ?_
            refine zw_iast dX2_waysFrom_89 g2.2.2.2.2.2.2.2.1 (vp_in_nI (by omega) (by decide)) ?_
            rw [nI_clamp (by omega)]
            refine zw_iload_n dX2_waysFrom_90 rfl ?_
            refine zw_iload dX2_waysFrom_91 rfl ?_
            refine zw_iadd dX2_waysFrom_93 ?_
            refine zw_istore_n [_, _, _, _, _, _] dX2_waysFrom_94 (Nat.le_of_ble_eq_true rfl) rfl ?_
            refine zw_iinc (nI (f + 1)) [_, _, _, _, _, _] dX2_waysFrom_95 rfl (nI_1 f) rfl ?_
            refine zw_goto 21 dX2_waysFrom_98 (by decide) ?_
            refine ihj (f + 1) (s.1 + (wF sz al le sm gr n k (box + 1) (placed ||| 2 ^ f) (upd s.2.1 f (nI box)) s.2.2).1, (wF sz al le sm gr n k (box + 1) (placed ||| 2 ^ f) (upd s.2.1 f (nI box)) s.2.2).2.1, upd (wF sz al le sm gr n k (box + 1) (placed ||| 2 ^ f) (upd s.2.1 f (nI box)) s.2.2).2.2 (box * 7 + f) ((wF sz al le sm gr n k (box + 1) (placed ||| 2 ^ f) (upd s.2.1 f (nI box)) s.2.2).2.2 (box * 7 + f) + (wF sz al le sm gr n k (box + 1) (placed ||| 2 ^ f) (upd s.2.1 f (nI box)) s.2.2).1)) _ _ (by omega) (g2.setWy _) (ho.tr ((zOff.pt (by decide) (by decide)).tr (o2.tr (zOff.pt (by decide) (by decide))))) e
    exact loop n 0 (0, pl0, wy0) w0 _ (by omega) h zOff.rf rfl
end ZFOODS2
