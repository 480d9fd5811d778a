/-! ===== the calls on both sides: from ===== -/
section ZPAIR5
variable {d : Nat} {w w1 w2 : ZW} {C C' I0 I1 : Cup} {len : Nat} {bt : Nat → Int32} {fa fb : Int64} {m : Nat} {bd no fu : Int32} {A A' : Nat → Nat → Int32} {I : Nat → Int32} {Q : Option Value → ZW → Prop}
theorem p_from {x : Int32} (h : LI w) (hK : ∀ v w1, MR (d + 21) mX9_from [.int x] (.int v) w1 → Q (some (.int v)) w1) : Zm (d + 21) mX8_from 0 0 [.ref 0, .int x] w Q := by
  obtain ⟨C, I0, I1, len, bt, fa, fb, m, bd, no, fu, A, I, hs, hm, hr⟩ := h
  have e2 : ∀ j, j < 2 → ∀ i, i < 2 → nI i = nI j → i = j := by decide +kernel
  have kept : ∀ j, j < 2 → A 1 j = bI (m.testBit j) := by
    intro j hj
    have : j = 0 ∨ j = 1 := by omega
    rcases this with rfl | rfl
    · exact hr.2.2.2.1.1
    · exact hr.2.2.2.1.2
  refine l_from hr.2.1 hs (fun q w1 h1 o1 => ?_) (fun j hj ex q w1 h1 o1 => ?_) (fun ex q w1 C' hC h1 o1 => ?_) (fun ex q w1 C' hC h1 o1 => ?_)
  · have hm1 := hm.off o1 (Or.inr (by decide))
    refine hK _ _ ⟨⟨_, hm1.1⟩, fun Q' k => m_from hm1 hr.1 (fun _ w2 h2 o2 => k w2 (LI.mk (h1.off o2 (by decide)) h2 hr.bad)) (fun j hj e _ => ?_) (fun j hj e _ => ?_)⟩
    · exfalso
      exact q (by rw [e]; exact ⟨nI_pos' (by omega), nI_le (b := 1) (by omega) (by decide)⟩)
    · exfalso
      exact q (by rw [e]; exact ⟨nI_pos' (by omega), nI_le (b := 1) (by omega) (by decide)⟩)
  · have hm1 := hm.off o1 (Or.inr (by decide))
    refine hK _ _ ⟨⟨_, hm1.1⟩, fun Q' k => m_from hm1 hr.1 (fun z => ?_) (fun i hi e _ w2 h2 o2 => k w2 (LI.mk (h1.off o2 (by decide)) h2 hr.not)) (fun i hi e z => ?_)⟩
    · exfalso
      exact z (by rw [ex]; exact ⟨nI_pos' (by omega), nI_le (b := 1) (by omega) (by decide)⟩)
    · have := e2 j hj i hi (e.symm.trans ex)
      subst this
      rw [kept i hi, q] at z
      exact absurd rfl z
  · have hm1 := hm.off o1 (Or.inr (by decide))
    subst ex
    refine hK _ _ ⟨⟨_, hm1.1⟩, fun Q' k => m_from hm1 hr.1 (fun z => absurd (by decide) z) (fun i hi e z => ?_) (fun i hi e z w2 h2 o2 => ?_)⟩
    · have := e2 i hi 0 (by decide) e
      subst this
      rw [kept 0 hi, q] at z
      exact absurd z (by decide)
    · skip
      have qt : ∀ j, j < 217 → vw (cpA A (217 * (1 + i)) 0 0 217) 0 j = vw A (217 * (1 + i)) j := fun j hj => cp_to (by omega) hj
      have qh : ∀ j, 217 ≤ j → cpA A (217 * (1 + i)) 0 0 217 0 j = A 0 j := fun j hj => by rw [cpA_at (by omega) _ _ _ (by omega), if_neg (by omega)]
      have qr : ∀ k, ¬ k = 0 → cpA A (217 * (1 + i)) 0 0 217 k = A k := fun k hk => cpA_row hk _ _ _
      generalize cpA A (217 * (1 + i)) 0 0 217 = A1 at h2 qt qh qr
      have := e2 i hi 0 (by decide) e
      subst this
      exact k w2 (LI.mk (h1.off o2 (by decide)) h2 (hr.now (rel_same (rel_go (hr.2.2.2.2.1 q) qt) hC) qh qr))
  · have hm1 := hm.off o1 (Or.inr (by decide))
    subst ex
    refine hK _ _ ⟨⟨_, hm1.1⟩, fun Q' k => m_from hm1 hr.1 (fun z => absurd (by decide) z) (fun i hi e z => ?_) (fun i hi e z w2 h2 o2 => ?_)⟩
    · have := e2 i hi 1 (by decide) e
      subst this
      rw [kept 1 hi, q] at z
      exact absurd z (by decide)
    · skip
      have qt : ∀ j, j < 217 → vw (cpA A (217 * (1 + i)) 0 0 217) 0 j = vw A (217 * (1 + i)) j := fun j hj => cp_to (by omega) hj
      have qh : ∀ j, 217 ≤ j → cpA A (217 * (1 + i)) 0 0 217 0 j = A 0 j := fun j hj => by rw [cpA_at (by omega) _ _ _ (by omega), if_neg (by omega)]
      have qr : ∀ k, ¬ k = 0 → cpA A (217 * (1 + i)) 0 0 217 k = A k := fun k hk => cpA_row hk _ _ _
      generalize cpA A (217 * (1 + i)) 0 0 217 = A1 at h2 qt qh qr
      have := e2 i hi 1 (by decide) e
      subst this
      exact k w2 (LI.mk (h1.off o2 (by decide)) h2 (hr.now (rel_same (rel_go (hr.2.2.2.2.2.1 q) qt) hC) qh qr))
end ZPAIR5
