/-! ===== read: its end, by the Model ===== -/
/-- the cells of the draft, copied to where the cupboard is -/
def cpD (A A1 : Nat → Nat → Int32) : Prop := (∀ i, i < 217 → vw A1 0 i = vw A 651 i) ∧ (∀ b, 217 ≤ b → ∀ i, i < 217 → vw A1 b i = vw A b i) ∧ ∀ k, ¬ k = 0 → A1 k = A k
theorem cpD_of {A : Nat → Nat → Int32} : cpD A (cpA A 651 0 0 217) := ⟨fun _ hi => cp_to (by omega) hi, fun _ hb _ hi => cp_off (by omega) (by omega) hi, fun _ hk => cpA_row hk _ _ _⟩
section ZRE
variable {d : Nat} {w w' : ZW} {A : Nat → Nat → Int32} {I : Nat → Int32} {ab be : Int64} {Q : Option Value → ZW → Prop}
theorem m_rdE {i : Nat} {o2 o3 o4 : Option Value} {w0 : ZW} {A0 : Nat → Nat → Int32} {I0 : Nat → Int32} {D : Cup} {rf : Int32} {r : Option Cup × Int32} (hK : ∀ w' A' I', I' 0 = nI 0 → I' 1 = I0 1 → (∀ r, ¬ r = 0 → ¬ r = 4 → A' r = A0 r) → (∀ j, 217 ≤ j → j < 651 → A' 0 j = A0 0 j) → (r.1 = none → ∀ j, j < 217 → A' 0 j = A0 0 j) → (∀ D', r.1 = some D' → rel D' (vw A' 0)) → isM w' A' I' ab be → zOff 74 89 w0 w' → Q (some (.int r.2)) w') (hA : ∀ j, j < 651 → A 0 j = A0 0 j) (hR : ∀ r, ¬ r = 0 → ¬ r = 4 → A r = A0 r) (h1 : I 1 = I0 1) (h : isM w A I ab be) (ho : zOff 74 89 w0 w) (hc : (∃ f, f < 1000 ∧ I 6 = nI f ∧ r = (none, -10 - nI f)) ∨ (I 6 = -1 ∧ I 7 = rf ∧ r = (if rf = -1 then (some D, nI i) else (none, -1000 - rf)) ∧ (rf = -1 → rel D (vw A 651)))) : Zw (d + 8) mX9_read z0 201 [some (.ref 74), some (.int (nI i)), o2, o3, o4] [] w Q := by
  refine zw_aload_n dX9_read_201 rfl ?_
  refine zw_iconst dX9_read_202 0 (by decide) ?_
  refine zw_put dX9_read_203 pX9_58 h.1 (fun _ => rfl) (fun _ => rfl) (Nat.le_of_ble_eq_true rfl) ?_
  have g := h.ob (I' := va_up I 0 0) (ab' := ab) (be' := be)
  have o1 : zOff 74 89 w (zput w 74 (.inr (9, [.long ab, .long be, .ref 75, .int (va_up I 0 0 0), .ref 76, .ref 77, .ref 78, .int (va_up I 0 0 1), .int (va_up I 0 0 2), .int (va_up I 0 0 3), .int (va_up I 0 0 4), .int (va_up I 0 0 5), .int (va_up I 0 0 6), .int (va_up I 0 0 7), .ref 79, .ref 80, .ref 81, .ref 82, .ref 83, .ref 84, .ref 85, .ref 86, .ref 87, .ref 88]))) := zOff.pt (by decide) (by decide)
  refine zw_aload_n dX9_read_206 rfl ?_
  refine zw_get dX9_read_207 fX9_150 g.1 rfl ?_
  refine zw_iconst dX9_read_210 (-1) (by decide) ?_
  rcases hc with ⟨f, hf, e6, rfl⟩ | ⟨e6, e7, er, hrel⟩
  · have n6 : ¬ I 6 = -1 := by rw [e6]; exact nI_nm1 (by omega)
    refine zw_icmp_eq 222 dX9_read_211 (by decide) (fun hz => absurd hz (n6)) (fun _ => ?_)
    refine zw_bipush dX9_read_214 (-10) (by decide) ?_
    refine zw_aload_n dX9_read_216 rfl ?_
    refine zw_get dX9_read_217 fX9_150 g.1 rfl ?_
    refine zw_isub dX9_read_220 ?_
    refine zw_ireturn .int dX9_read_221 rfl rfl (Nat.le_refl _) (Nat.le_refl _) ?_
    have e : (-10 : Int32) - I 6 = -10 - nI f := by rw [e6]
    show Q (some (.int (-10 - I 6))) _
    rw [e]
    exact hK _ A (va_up I 0 0) rfl h1 hR (fun j _ hj => hA j hj) (fun _ j hj => hA j (by omega)) (fun D' z => absurd z (by simp)) g (ho.tr o1)
  · refine zw_icmp_eq 222 dX9_read_211 (by decide) (fun _ => ?_) (fun hz => absurd (e6) hz)
    refine zw_aload_n dX9_read_222 rfl ?_
    refine zw_get dX9_read_223 fX9_156 g.1 rfl ?_
    refine zw_iconst dX9_read_226 (-1) (by decide) ?_
    by_cases q : rf = -1
    · rw [if_pos q] at er
      subst er
      refine zw_icmp_eq 239 dX9_read_227 (by decide) (fun _ => ?_) (fun hz => absurd ((e7.trans q)) hz)
      refine zw_aload_n dX9_read_239 rfl ?_
      refine zw_sipush dX9_read_240 651 (by decide) ?_
      refine zw_iconst dX9_read_243 0 (by decide) ?_
      refine zw_cV2 dX9_read_244 oX9_copy kX9_copy lX9_166 g.1 rfl (Nat.le_of_ble_eq_true rfl) rfl (m_copy (f := 651) (t := 0) (by decide) (by decide) g (fun w1 h2 o2 => ?_))
      show Zw _ _ _ 247 [_, _, _, _, _] [] _ _
      refine zw_iload_n dX9_read_247 rfl ?_
      refine zw_ireturn .int dX9_read_248 rfl rfl (Nat.le_refl _) (Nat.le_refl _) ?_
      have hc := cpD_of (A := A)
      generalize cpA A 651 0 0 217 = A1 at h2 hc
      refine hK w1 A1 (va_up I 0 0) rfl h1 (fun r a1 a2 => (hc.2.2 r a1).trans (hR r a1 a2)) (fun j g1 g2 => ?_) (fun z => absurd z (by simp)) (fun D' z => ?_) h2 ((ho.tr o1).tr o2)
      · by_cases g3 : j < 434
        · have := hc.2.1 217 (by decide) (j - 217) (by omega)
          have e : 217 + (j - 217) = j := by omega
          rw [← hA j g2]
          have this : A1 0 (217 + (j - 217)) = A 0 (217 + (j - 217)) := this
          rw [e] at this
          exact this
        · have := hc.2.1 434 (by decide) (j - 434) (by omega)
          have e : 434 + (j - 434) = j := by omega
          rw [← hA j g2]
          have this : A1 0 (434 + (j - 434)) = A 0 (434 + (j - 434)) := this
          rw [e] at this
          exact this
      · have e : D' = D := (Option.some.inj z).symm
        rw [e]
        exact rel_go (hrel q) (fun j hj => hc.1 j hj)
    · rw [if_neg q] at er
      subst er
      refine zw_icmp_eq 239 dX9_read_227 (by decide) (fun hz => absurd hz ((fun z => q (e7.symm.trans z)))) (fun _ => ?_)
      refine zw_sipush dX9_read_230 (-1000) (by decide) ?_
      refine zw_aload_n dX9_read_233 rfl ?_
      refine zw_get dX9_read_234 fX9_156 g.1 rfl ?_
      refine zw_isub dX9_read_237 ?_
      refine zw_ireturn .int dX9_read_238 rfl rfl (Nat.le_refl _) (Nat.le_refl _) ?_
      have e : (-1000 : Int32) - I 7 = -1000 - rf := by rw [e7]
      show Q (some (.int (-1000 - I 7))) _
      rw [e]
      exact hK _ A (va_up I 0 0) rfl h1 hR (fun j _ hj => hA j hj) (fun _ j hj => hA j (by omega)) (fun D' z => absurd z (by simp)) g (ho.tr o1)
end ZRE
