/-! ===== the Model: lend, hint ===== -/
section ZMOD13
variable {d : Nat} {w w' : ZW} {A : Nat → Nat → Int32} {I : Nat → Int32} {ab be : Int64} {Q : Option Value → ZW → Prop}
theorem m_hint {n m : Nat} {x y z : Int32} (h : isM w A I ab be) (hb : I 0 = nI 0) (hm : A 0 0 = nI m) (hm7 : m ≤ 7) (hn : A 0 (0 + 4) = nI n) (hn8 : n ≤ 8) (kB : ¬ okHint m x y z → ∀ w', isM w' (toldI A 0 0) I ab be → zOff 74 89 w w' → Q (some (.int (-2))) w') (kF : okHint m x y z → n = 8 → ∀ w', isM w' (toldI A 0 2) I ab be → zOff 74 89 w w' → Q (some (.int (-4))) w') (kA : okHint m x y z → n < 8 → ∀ w', isM w' (mp (mp (mp (mp A 0 (109 + 3 * n) x) 0 (109 + 3 * n + 1) y) 0 (109 + 3 * n + 2) z) 0 4 (nI (n + 1))) I ab be → zOff 74 89 w w' → Q (some (.int (nI n))) w') : Zm (d + 2) mX9_hint 0 0 [.ref 74, .int x, .int y, .int z] w Q := by
  refine zm_intro [_, _, _, _, _] oX9_hint (Nat.le_of_ble_eq_true rfl) rfl ?_
  refine zw_iload_n dX9_hint_0 rfl ?_
  refine zw_iconst dX9_hint_1 0 (by decide) ?_
  refine zw_iconst dX9_hint_2 3 (by decide) ?_
  refine zw_cS3 dX9_hint_3 oX9_in kX9_in lX9_66 (Nat.le_of_ble_eq_true rfl) rfl (m_in (fun p1 p2 => ?_) (fun q => ?_))
  · show Zw _ _ _ 6 [_, _, _, _, _] [_] _ _
    refine zw_if_eq 25 dX9_hint_6 (by decide) (fun hz => absurd hz (by decide)) (fun _ => ?_)
    refine zw_aload_n dX9_hint_9 rfl ?_
    refine zw_iload_n dX9_hint_10 rfl ?_
    refine zw_cV1 dX9_hint_11 oX9_isBox kX9_isBox lX9_95 h.1 rfl (Nat.le_of_ble_eq_true rfl) rfl (m_isBox (b := 0) h hb (by decide) hm (by omega) (fun r hr er => ?_) (fun q => ?_))
    · show Zw _ _ _ 14 [_, _, _, _, _] [_] _ _
      refine zw_if_eq 25 dX9_hint_14 (by decide) (fun hz => absurd hz (by decide)) (fun _ => ?_)
      refine zw_aload_n dX9_hint_17 rfl ?_
      refine zw_iload_n dX9_hint_18 rfl ?_
      refine zw_cV1 dX9_hint_19 oX9_isBox kX9_isBox lX9_95 h.1 rfl (Nat.le_of_ble_eq_true rfl) rfl (m_isBox (b := 0) h hb (by decide) hm (by omega) (fun s hs es => ?_) (fun q => ?_))
      · have ok : okHint m x y z := ⟨⟨p1, p2⟩, ⟨r, hr, er⟩, s, hs, es⟩
        show Zw _ _ _ 22 [_, _, _, _, _] [_] _ _
        refine zw_if_ne 32 dX9_hint_22 (by decide) (fun _ => ?_) (fun hz => absurd hz (by decide))
        exact m_hintT h hb hn hn8 (kF ok) (kA ok)
      · show Zw _ _ _ 22 [_, _, _, _, _] [_] _ _
        refine zw_if_ne 32 dX9_hint_22 (by decide) (fun hz => absurd (by decide) hz) (fun _ => ?_)
        refine zw_aload_n dX9_hint_25 rfl ?_
        refine zw_bipush dX9_hint_26 (-2) (by decide) ?_
        refine zw_cV1 dX9_hint_28 oX9_told kX9_told lX9_70 h.1 rfl (Nat.le_of_ble_eq_true rfl) rfl (m_toldR (j := 0) (by decide) hb (by decide) h (fun w1 h1 o1 => ?_))
        show Zw _ _ _ 31 [_, _, _, _, _] [_] _ _
        refine zw_ireturn .int dX9_hint_31 rfl rfl (Nat.le_refl _) (Nat.le_refl _) ?_
        exact kB (fun o => by obtain ⟨_, _, s, hs, es⟩ := o; exact q s hs es) w1 h1 o1
    · show Zw _ _ _ 14 [_, _, _, _, _] [_] _ _
      refine zw_if_eq 25 dX9_hint_14 (by decide) (fun _ => ?_) (fun hz => absurd (by decide) hz)
      refine zw_aload_n dX9_hint_25 rfl ?_
      refine zw_bipush dX9_hint_26 (-2) (by decide) ?_
      refine zw_cV1 dX9_hint_28 oX9_told kX9_told lX9_70 h.1 rfl (Nat.le_of_ble_eq_true rfl) rfl (m_toldR (j := 0) (by decide) hb (by decide) h (fun w1 h1 o1 => ?_))
      show Zw _ _ _ 31 [_, _, _, _, _] [_] _ _
      refine zw_ireturn .int dX9_hint_31 rfl rfl (Nat.le_refl _) (Nat.le_refl _) ?_
      exact kB (fun o => by obtain ⟨_, ⟨s, hs, es⟩, _⟩ := o; exact q s hs es) w1 h1 o1
  · show Zw _ _ _ 6 [_, _, _, _, _] [_] _ _
    refine zw_if_eq 25 dX9_hint_6 (by decide) (fun _ => ?_) (fun hz => absurd (by decide) hz)
    refine zw_aload_n dX9_hint_25 rfl ?_
    refine zw_bipush dX9_hint_26 (-2) (by decide) ?_
    refine zw_cV1 dX9_hint_28 oX9_told kX9_told lX9_70 h.1 rfl (Nat.le_of_ble_eq_true rfl) rfl (m_toldR (j := 0) (by decide) hb (by decide) h (fun w1 h1 o1 => ?_))
    show Zw _ _ _ 31 [_, _, _, _, _] [_] _ _
    refine zw_ireturn .int dX9_hint_31 rfl rfl (Nat.le_refl _) (Nat.le_refl _) ?_
    exact kB (fun o => q o.1) w1 h1 o1
end ZMOD13
