/-! ===== read: both sides are the same ===== -/
section ZPAIR13
variable {d : Nat} {w : ZW} {Q : Option Value → ZW → Prop}
theorem p_read (h : LI w) (hK : ∀ v w1, MR (d + 21) mX9_read [] (.int v) w1 → Q (some (.int v)) w1) : Zm (d + 21) mX8_read 0 0 [.ref 0] w Q := by
  obtain ⟨C, I0, I1, len, bt, fa, fb, m, bd, no, fu, A, I, hs, hm, hr⟩ := h
  refine l_read hs (fun w1 C' oc v D0 nm0 hD hrd hn hs' h1 o1 => ?_)
  have hm1 := hm.off o1 (Or.inr (by decide))
  refine hK _ _ ⟨⟨_, hm1.1⟩, fun Q' k => m_read hm1 hr.2.2.2.2.2.2.2 hD hrd (fun w2 A' I' i0 i1 r1 r2 r3 r4 h2 o2 => k w2 (LI.mk (h1.off o2 (by decide)) h2 ?_))⟩
  obtain ⟨g0, g1, g2, g3, g4, g5, g6, g7⟩ := hr
  refine ⟨i0, g1, ?_, ?_, fun q => rel_go (g4 q) (fun j hj => r2 (217 + j) (by omega) (by omega)), fun q => rel_go (g5 q) (fun j hj => r2 (434 + j) (by omega) (by omega)), ?_, i1.trans g7.1, g7.2.1, ?_⟩
  · cases oc with
    | none =>
      rw [hn rfl]
      exact rel_go g2 (fun j hj => r3 rfl (0 + j) (by omega))
    | some D' => exact rel_same (r4 D' rfl) (hs' D' rfl)
  · rw [r1 1 (by decide) (by decide)]; exact g3
  · rw [r1 2 (by decide) (by decide)]; exact g6
  · rw [r1 3 (by decide) (by decide)]; exact g7.2.2
end ZPAIR13
