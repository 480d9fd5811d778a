/-! ===== read: an item with a fault, by the Model ===== -/
section ZRF
variable {d : Nat} {w w' : ZW} {A : Nat → Nat → Int32} {I : Nat → Int32} {ab be : Int64} {Q : Option Value → ZW → Prop} {bt : Nat → Int32} {len : Nat}
theorem m_rdF {i f e : Nat} {x2 x3 : Int32} {o4 : Option Value} {w0 : ZW} {A0 : Nat → Nat → Int32} {I0 : Nat → Int32} {r : Option Cup × Int32} (hK : ∀ w' A' I', I' 0 = nI 0 → I' 1 = I0 1 → (∀ r, ¬ r = 0 → ¬ r = 4 → A' r = A0 r) → (∀ j, 217 ≤ j → j < 651 → A' 0 j = A0 0 j) → (r.1 = none → ∀ j, j < 217 → A' 0 j = A0 0 j) → (∀ D', r.1 = some D' → rel D' (vw A' 0)) → isM w' A' I' ab be → zOff 74 89 w0 w' → Q (some (.int r.2)) w') (ht0 : txtM A0 I0 bt len) (hA : ∀ j, j < 651 → A 0 j = A0 0 j) (hR : ∀ r, ¬ r = 0 → ¬ r = 4 → A r = A0 r) (h1 : I 1 = I0 1) (h : isM w A I ab be) (ho : zOff 74 89 w0 w) (hf : f < 1000) (e6 : I 6 = nI f) (h2 : I 2 = nI e) (he : e ≤ len) (er : r = (none, -10 - nI f)) : Zw (d + 8) mX9_read z0 147 [some (.ref 74), some (.int (nI i)), some (.int x2), some (.int x3), o4] [] w Q := by
  have n6 : ¬ I 6 = -1 := by rw [e6]; exact nI_nm1 (by omega)
  have ht : txtM A I bt len := ⟨h1.trans ht0.1, ht0.2.1, fun i hi => by rw [hR 3 (by decide) (by decide)]; exact ht0.2.2 i hi⟩
  have fin : Zw (d + 8) mX9_read z0 165 [some (.ref 74), some (.int (nI i)), some (.int x2), some (.int x3), o4] [] w Q := by
    refine zw_aload_n dX9_read_165 rfl ?_
    refine zw_get dX9_read_166 fX9_150 h.1 rfl ?_
    refine zw_iconst dX9_read_169 (-1) (by decide) ?_
    refine zw_icmp_ne 195 dX9_read_170 (by decide) (fun _ => ?_) (fun hz => absurd hz (n6))
    refine zw_iinc (nI (i + 1)) [_, _, _, _, _] dX9_read_195 rfl (nI_1 i) rfl ?_
    refine zw_goto 48 dX9_read_198 (by decide) ?_
    refine zw_aload_n dX9_read_48 rfl ?_
    refine zw_get dX9_read_49 fX9_150 h.1 rfl ?_
    refine zw_iconst dX9_read_52 (-1) (by decide) ?_
    refine zw_icmp_ne 201 dX9_read_53 (by decide) (fun _ => ?_) (fun hz => absurd hz (n6))
    exact m_rdE (D := fun _ => (0, fun _ => 0)) (rf := 0) hK hA hR h1 h ho (Or.inl ⟨f, hf, e6, er⟩)
  refine zw_aload_n dX9_read_147 rfl ?_
  refine zw_aload_n dX9_read_148 rfl ?_
  refine zw_get dX9_read_149 fX9_144 h.1 rfl ?_
  refine zw_bipush dX9_read_152 6 (by decide) ?_
  by_cases q : I 4 = 6
  · refine zw_icmp_ne 161 dX9_read_154 (by decide) (fun hz => absurd (q) hz) (fun _ => ?_)
    refine zw_iconst dX9_read_157 1 (by decide) ?_
    refine zw_goto 162 dX9_read_158 (by decide) ?_
    refine zw_cV1 dX9_read_162 oX9_due kX9_due lX9_159 h.1 rfl (Nat.le_of_ble_eq_true rfl) rfl (m_due (p := true) 0 h ht h2 he (fun _ => ?_) (fun z => absurd z n6) (fun z => absurd z n6))
    exact fin
  · refine zw_icmp_ne 161 dX9_read_154 (by decide) (fun _ => ?_) (fun hz => absurd hz (q))
    refine zw_iconst dX9_read_161 0 (by decide) ?_
    refine zw_cV1 dX9_read_162 oX9_due kX9_due lX9_159 h.1 rfl (Nat.le_of_ble_eq_true rfl) rfl (m_due (p := false) 0 h ht h2 he (fun _ => ?_) (fun z => absurd z n6) (fun z => absurd z n6))
    exact fin
end ZRF
