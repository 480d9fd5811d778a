/-! ===== the law from its first instruction on ===== -/
section ZLAW3
variable {L : Nat} {xs : Nat → Int32} {d : Nat} {w w' : ZW} {C I0 I1 : Cup} {len : Nat} {bt : Nat → Int32} {fa fb : Int64} {ki bd no fu : Int32} {Q : Option Value → ZW → Prop}
theorem isS.grow (h : isS w C I0 I1 len bt fa fb ki bd no fu) (u : zUp 74 w w') : isS w' C I0 I1 len bt fa fb ki bd no fu := by
  have q : zKp 1 74 w w' := ⟨u.1, fun i _ h2 => u.2 i h2⟩
  obtain ⟨h0, h1, ⟨a1, h2⟩, h3, h4, ⟨b1, b2, b3, b4, b5, b6, h5⟩, ⟨c1, c2, c3, c4, c5, h6⟩, ⟨d1, d2, d3, h7⟩, ⟨e1, e2, h8⟩, ⟨f1, f2, f3, f4, f5, f6, f7, f8, f9, h9⟩, h10⟩ := h
  exact ⟨h0.up u (by decide), h1.kp q (by decide), ⟨_, h2.kp q (by decide)⟩, h3.kp q (by decide), h4.kp q (by decide), ⟨_, _, _, _, _, _, h5.kp q (by decide)⟩, ⟨_, _, _, _, _, h6.kp q (by decide)⟩, ⟨_, _, _, h7.kp q (by decide)⟩, ⟨_, _, h8.kp q (by decide)⟩, ⟨_, _, _, _, _, _, _, _, _, h9.kp q (by decide)⟩, zat.kp h10 q (by decide)⟩
theorem LR_0 : LR cE cE cE 0 (fun _ => 0) 0 0 0 0 (fun _ _ => 0) (fun _ => 0) := by
  refine ⟨rfl, by decide, rel_0 (fun _ _ => rfl) (fun _ _ => rfl), ⟨rfl, rfl⟩, fun h => absurd h (by decide), fun h => absurd h (by decide), ⟨rfl, rfl, rfl⟩, rfl, by decide, fun i hi => absurd hi (Nat.not_lt_zero _)⟩
theorem law_start (hL : L ≤ 320) (hw : w.1 = 0) (hQ : ∀ w, Q (some (.int 1)) w) : Zs L xs (d + 22) mL_law (0, 0, 89, 3877) 0 [some (.ref 1000200), none, none, none] [] w Q := by
  refine zs_new dL_law_0 nL_7 (by decide) (by decide) (by omega) ?_
  rw [hw]
  refine zs_dup dL_law_3 rfl ?_
  refine zs_callI (as := []) (mc' := 73) (ms' := 2347) dL_law_4 oX8_init kX8_init lL_9 rfl (Nat.le_of_ble_eq_true rfl) rfl (by decide) (by decide) (i_X8 (zat_new hw) (by show w.1 + 1 = _; omega) (fun w1 n1 h1 => ?_))
  refine zs_astore_n [some (.ref 1000200), some (.ref 0), none, none] dL_law_7 (by decide) rfl ?_
  refine zs_new dL_law_8 nL_10 (by decide) (by decide) (by omega) ?_
  rw [n1]
  refine zs_dup dL_law_11 rfl ?_
  refine zs_callI (as := []) (mc' := 14) (ms' := 1492) dL_law_12 oX9_init kX9_init lL_12 rfl (Nat.le_of_ble_eq_true rfl) rfl (by decide) (by decide) (i_X9 (zat_new n1) (by show w1.1 + 1 = _; omega) (fun w2 n2 h2 u2 => ?_))
  have h3 := (h1.grow (zUp.ad (by omega))).grow u2
  refine zs_astore_n [some (.ref 1000200), some (.ref 0), some (.ref 74), none] dL_law_15 (by decide) rfl ?_
  refine zs_iconst dL_law_16 0 (by decide) ?_
  refine zs_istore_n [some (.ref 1000200), some (.ref 0), some (.ref 74), some (.int (nI 0))] dL_law_17 (by decide) rfl ?_
  exact law_loop hL rfl rfl hQ 64 0 w2 (by omega) (by decide) (LI.mk (m := 0) h3 h2 LR_0)
end ZLAW3
