/-! ===== read: the token at hand, due ===== -/
/-- the Model holds the token s -/
def tkM (I : Nat → Int32) (len : Nat) (s : TTk) : Prop := I 2 = nI s.2.1 ∧ I 3 = nI s.1 ∧ I 4 = sorM s.2.2.1 s.2.2.2 ∧ (s.2.2.1 = 1 → I 5 = s.2.2.2) ∧ s.2.1 ≤ len
section ZDUE
variable {d : Nat} {w w' : ZW} {A : Nat → Nat → Int32} {I : Nat → Int32} {ab be : Int64} {Q : Option Value → ZW → Prop} {bt : Nat → Int32} {len : Nat}
theorem m_nx {e : Nat} (va : Int32) (h : isM w A I ab be) (ht : txtM A I bt len) (h2 : I 2 = nI e) (he : e ≤ len) (k : ∀ w' I', sI I I' → tkM I' len (tokS bt len e va) → isM w' A I' ab be → zOff 74 89 w w' → Q none w') : Zm (d + 1) mX9_next 0 0 [.ref 74] w Q := by
  obtain ⟨t1, t2, t3, t4⟩ := tok_eq (va := va) ht he
  refine m_next h ht h2 he (fun w' I' g1 g2 g3 g4 g5 h' o' => k w' I' g1 ⟨?_, ?_, ?_, fun z => ?_, (tokS_le he).2.1⟩ h' o')
  · rw [g2, t2]
  · rw [g3, t1]
  · rw [g4, t3]
  · rw [g5, t4 z]
theorem m_due {e : Nat} {p : Bool} (va : Int32) (h : isM w A I ab be) (ht : txtM A I bt len) (h2 : I 2 = nI e) (he : e ≤ len) (kF : ¬ I 6 = -1 → Q none w) (kN : I 6 = -1 → p = true → ∀ w' I', sI I I' → tkM I' len (tokS bt len e va) → isM w' A I' ab be → zOff 74 89 w w' → Q none w') (kZ : I 6 = -1 → p = false → ∀ w', isM w' A (va_up I 6 (I 3)) ab be → zOff 74 89 w w' → Q none w') : Zm (d + 2) mX9_due 0 0 [.ref 74, .int (bI p)] w Q := by
  refine zm_intro [_, _] oX9_due (Nat.le_of_ble_eq_true rfl) rfl ?_
  refine zw_aload_n dX9_due_0 rfl ?_
  refine zw_get dX9_due_1 fX9_150 h.1 rfl ?_
  refine zw_iconst dX9_due_4 (-1) (by decide) ?_
  by_cases hf : I 6 = -1
  · refine zw_icmp_ne 27 dX9_due_5 (by decide) (fun hz => absurd (hf) hz) (fun _ => ?_)
    refine zw_iload_n dX9_due_8 rfl ?_
    cases p with
    | true =>
      refine zw_if_eq 19 dX9_due_9 (by decide) (fun z => absurd z (by decide)) (fun _ => ?_)
      refine zw_aload_n dX9_due_12 rfl ?_
      refine zw_cV0 dX9_due_13 oX9_next kX9_next lX9_153 h.1 rfl (Nat.le_of_ble_eq_true rfl) rfl (m_nx va h ht h2 he (fun w1 I1 g1 g2 h1 o1 => ?_))
      show Zw _ _ _ 16 [_, _] [] _ _
      refine zw_goto 27 dX9_due_16 (by decide) ?_
      refine zw_return dX9_due_27 rfl (Nat.le_refl _) (Nat.le_refl _) ?_
      exact kN hf rfl w1 I1 g1 g2 h1 o1
    | false =>
      refine zw_if_eq 19 dX9_due_9 (by decide) (fun _ => ?_) (fun z => absurd rfl z)
      refine zw_aload_n dX9_due_19 rfl ?_
      refine zw_aload_n dX9_due_20 rfl ?_
      refine zw_get dX9_due_21 fX9_138 h.1 rfl ?_
      refine zw_put dX9_due_24 pX9_150 h.1 (fun _ => rfl) (fun _ => rfl) (Nat.le_of_ble_eq_true rfl) ?_
      refine zw_return dX9_due_27 rfl (Nat.le_refl _) (Nat.le_refl _) ?_
      exact kZ hf rfl _ (h.ob (I' := va_up I 6 (I 3))) (zOff.pt (by decide) (by decide))
  · refine zw_icmp_ne 27 dX9_due_5 (by decide) (fun _ => ?_) (fun hz => absurd hz (hf))
    refine zw_return dX9_due_27 rfl (Nat.le_refl _) (Nat.le_refl _) ?_
    exact kF hf
theorem tok_go {e : Nat} {va : Int32} (he : e ≤ len) : ((tokS bt len e va).2.2.1 = 3 ∨ (tokS bt len e va).1 < (tokS bt len e va).2.1) ∧ (len ≤ (tokS bt len e va).1 → (tokS bt len e va).2.2.1 = 3) := by
  unfold tokS
  generalize endF (fun c => decide (c = 32)) bt e (len - e) = s
  by_cases hl : len ≤ s
  · rw [if_pos hl]
    exact ⟨Or.inl rfl, fun _ => rfl⟩
  · rw [if_neg hl]
    dsimp only
    by_cases h1 : letB (bt s) = true
    · rw [if_pos h1]
      have hq := endF_le letB bt (len - (s + 1)) (s + 1)
      exact ⟨Or.inr (show s < endF letB bt (s + 1) (len - (s + 1)) by omega), fun z => absurd z hl⟩
    · rw [if_neg h1]
      by_cases h2 : figB (bt s) = true
      · rw [if_pos h2]
        have hq := endF_le figB bt (len - (s + 1)) (s + 1)
        exact ⟨Or.inr (show s < endF figB bt (s + 1) (len - (s + 1)) by omega), fun z => absurd z hl⟩
      · rw [if_neg h2]
        exact ⟨Or.inr (Nat.lt_succ_self s), fun z => absurd z hl⟩
end ZDUE
