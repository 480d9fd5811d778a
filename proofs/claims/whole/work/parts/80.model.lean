/-! ===== the Model: its cells, its smallest methods (by mkmodel.py) ===== -/
/-- the Model at 74: the rows A 0 (now), A 1 (isKept), A 2 (refused), A 3 (text), A 4 (given), A 5 (goes), A 6 (pairs), A 7 (mate), A 8 (isLidded), A 9 (isBought), A 10 (bought), A 11 (order), A 12 (bestOrder), A 13 (often); the numbers I 0 (base), I 1 (typed), I 2 (at), I 3 (start), I 4 (sort), I 5 (value), I 6 (fault), I 7 (refusedItem) -/
def isM (w : ZW) (A : Nat → Nat → Int32) (I : Nat → Int32) (ab be : Int64) : Prop := zat w 74 (.inr (9, [.long ab, .long be, .ref 75, .int (I 0), .ref 76, .ref 77, .ref 78, .int (I 1), .int (I 2), .int (I 3), .int (I 4), .int (I 5), .int (I 6), .int (I 7), .ref 79, .ref 80, .ref 81, .ref 82, .ref 83, .ref 84, .ref 85, .ref 86, .ref 87, .ref 88])) ∧ zat w 75 (.inl (0, 868, A 0)) ∧ zat w 76 (.inl (2, 2, A 1)) ∧ zat w 77 (.inl (0, 3, A 2)) ∧ zat w 78 (.inl (1, 150, A 3)) ∧ zat w 79 (.inl (0, 4, A 4)) ∧ zat w 80 (.inl (0, 7, A 5)) ∧ zat w 81 (.inl (0, 128, A 6)) ∧ zat w 82 (.inl (0, 7, A 7)) ∧ zat w 83 (.inl (2, 128, A 8)) ∧ zat w 84 (.inl (2, 128, A 9)) ∧ zat w 85 (.inl (0, 4, A 10)) ∧ zat w 86 (.inl (0, 7, A 11)) ∧ zat w 87 (.inl (0, 7, A 12)) ∧ zat w 88 (.inl (0, 49, A 13))
section ZMOD
variable {d : Nat} {w w' : ZW} {A : Nat → Nat → Int32} {I : Nat → Int32} {ab be : Int64} {Q : Option Value → ZW → Prop}
theorem isM.off {lo hi : Nat} (h : isM w A I ab be) (ho : zOff lo hi w w') (ht : 89 ≤ lo ∨ hi ≤ 74) : isM w' A I ab be := by
  obtain ⟨o, a0, a1, a2, a3, a4, a5, a6, a7, a8, a9, a10, a11, a12, a13⟩ := h
  exact ⟨o.off ho (by omega), a0.off ho (by omega), a1.off ho (by omega), a2.off ho (by omega), a3.off ho (by omega), a4.off ho (by omega), a5.off ho (by omega), a6.off ho (by omega), a7.off ho (by omega), a8.off ho (by omega), a9.off ho (by omega), a10.off ho (by omega), a11.off ho (by omega), a12.off ho (by omega), a13.off ho (by omega)⟩
theorem isM.a0 {f : Nat → Int32} (h : isM w A I ab be) : isM (zput w 75 (.inl (0, 868, f))) (va_up A 0 f) I ab be := by
  obtain ⟨o, a0, a1, a2, a3, a4, a5, a6, a7, a8, a9, a10, a11, a12, a13⟩ := h
  exact ⟨o.put (by decide), a0.self, a1.put (by decide), a2.put (by decide), a3.put (by decide), a4.put (by decide), a5.put (by decide), a6.put (by decide), a7.put (by decide), a8.put (by decide), a9.put (by decide), a10.put (by decide), a11.put (by decide), a12.put (by decide), a13.put (by decide)⟩
theorem isM.a1 {f : Nat → Int32} (h : isM w A I ab be) : isM (zput w 76 (.inl (2, 2, f))) (va_up A 1 f) I ab be := by
  obtain ⟨o, a0, a1, a2, a3, a4, a5, a6, a7, a8, a9, a10, a11, a12, a13⟩ := h
  exact ⟨o.put (by decide), a0.put (by decide), a1.self, a2.put (by decide), a3.put (by decide), a4.put (by decide), a5.put (by decide), a6.put (by decide), a7.put (by decide), a8.put (by decide), a9.put (by decide), a10.put (by decide), a11.put (by decide), a12.put (by decide), a13.put (by decide)⟩
theorem isM.a2 {f : Nat → Int32} (h : isM w A I ab be) : isM (zput w 77 (.inl (0, 3, f))) (va_up A 2 f) I ab be := by
  obtain ⟨o, a0, a1, a2, a3, a4, a5, a6, a7, a8, a9, a10, a11, a12, a13⟩ := h
  exact ⟨o.put (by decide), a0.put (by decide), a1.put (by decide), a2.self, a3.put (by decide), a4.put (by decide), a5.put (by decide), a6.put (by decide), a7.put (by decide), a8.put (by decide), a9.put (by decide), a10.put (by decide), a11.put (by decide), a12.put (by decide), a13.put (by decide)⟩
theorem isM.a3 {f : Nat → Int32} (h : isM w A I ab be) : isM (zput w 78 (.inl (1, 150, f))) (va_up A 3 f) I ab be := by
  obtain ⟨o, a0, a1, a2, a3, a4, a5, a6, a7, a8, a9, a10, a11, a12, a13⟩ := h
  exact ⟨o.put (by decide), a0.put (by decide), a1.put (by decide), a2.put (by decide), a3.self, a4.put (by decide), a5.put (by decide), a6.put (by decide), a7.put (by decide), a8.put (by decide), a9.put (by decide), a10.put (by decide), a11.put (by decide), a12.put (by decide), a13.put (by decide)⟩
theorem isM.a4 {f : Nat → Int32} (h : isM w A I ab be) : isM (zput w 79 (.inl (0, 4, f))) (va_up A 4 f) I ab be := by
  obtain ⟨o, a0, a1, a2, a3, a4, a5, a6, a7, a8, a9, a10, a11, a12, a13⟩ := h
  exact ⟨o.put (by decide), a0.put (by decide), a1.put (by decide), a2.put (by decide), a3.put (by decide), a4.self, a5.put (by decide), a6.put (by decide), a7.put (by decide), a8.put (by decide), a9.put (by decide), a10.put (by decide), a11.put (by decide), a12.put (by decide), a13.put (by decide)⟩
theorem isM.a5 {f : Nat → Int32} (h : isM w A I ab be) : isM (zput w 80 (.inl (0, 7, f))) (va_up A 5 f) I ab be := by
  obtain ⟨o, a0, a1, a2, a3, a4, a5, a6, a7, a8, a9, a10, a11, a12, a13⟩ := h
  exact ⟨o.put (by decide), a0.put (by decide), a1.put (by decide), a2.put (by decide), a3.put (by decide), a4.put (by decide), a5.self, a6.put (by decide), a7.put (by decide), a8.put (by decide), a9.put (by decide), a10.put (by decide), a11.put (by decide), a12.put (by decide), a13.put (by decide)⟩
theorem isM.a6 {f : Nat → Int32} (h : isM w A I ab be) : isM (zput w 81 (.inl (0, 128, f))) (va_up A 6 f) I ab be := by
  obtain ⟨o, a0, a1, a2, a3, a4, a5, a6, a7, a8, a9, a10, a11, a12, a13⟩ := h
  exact ⟨o.put (by decide), a0.put (by decide), a1.put (by decide), a2.put (by decide), a3.put (by decide), a4.put (by decide), a5.put (by decide), a6.self, a7.put (by decide), a8.put (by decide), a9.put (by decide), a10.put (by decide), a11.put (by decide), a12.put (by decide), a13.put (by decide)⟩
theorem isM.a7 {f : Nat → Int32} (h : isM w A I ab be) : isM (zput w 82 (.inl (0, 7, f))) (va_up A 7 f) I ab be := by
  obtain ⟨o, a0, a1, a2, a3, a4, a5, a6, a7, a8, a9, a10, a11, a12, a13⟩ := h
  exact ⟨o.put (by decide), a0.put (by decide), a1.put (by decide), a2.put (by decide), a3.put (by decide), a4.put (by decide), a5.put (by decide), a6.put (by decide), a7.self, a8.put (by decide), a9.put (by decide), a10.put (by decide), a11.put (by decide), a12.put (by decide), a13.put (by decide)⟩
theorem isM.a8 {f : Nat → Int32} (h : isM w A I ab be) : isM (zput w 83 (.inl (2, 128, f))) (va_up A 8 f) I ab be := by
  obtain ⟨o, a0, a1, a2, a3, a4, a5, a6, a7, a8, a9, a10, a11, a12, a13⟩ := h
  exact ⟨o.put (by decide), a0.put (by decide), a1.put (by decide), a2.put (by decide), a3.put (by decide), a4.put (by decide), a5.put (by decide), a6.put (by decide), a7.put (by decide), a8.self, a9.put (by decide), a10.put (by decide), a11.put (by decide), a12.put (by decide), a13.put (by decide)⟩
theorem isM.a9 {f : Nat → Int32} (h : isM w A I ab be) : isM (zput w 84 (.inl (2, 128, f))) (va_up A 9 f) I ab be := by
  obtain ⟨o, a0, a1, a2, a3, a4, a5, a6, a7, a8, a9, a10, a11, a12, a13⟩ := h
  exact ⟨o.put (by decide), a0.put (by decide), a1.put (by decide), a2.put (by decide), a3.put (by decide), a4.put (by decide), a5.put (by decide), a6.put (by decide), a7.put (by decide), a8.put (by decide), a9.self, a10.put (by decide), a11.put (by decide), a12.put (by decide), a13.put (by decide)⟩
theorem isM.a10 {f : Nat → Int32} (h : isM w A I ab be) : isM (zput w 85 (.inl (0, 4, f))) (va_up A 10 f) I ab be := by
  obtain ⟨o, a0, a1, a2, a3, a4, a5, a6, a7, a8, a9, a10, a11, a12, a13⟩ := h
  exact ⟨o.put (by decide), a0.put (by decide), a1.put (by decide), a2.put (by decide), a3.put (by decide), a4.put (by decide), a5.put (by decide), a6.put (by decide), a7.put (by decide), a8.put (by decide), a9.put (by decide), a10.self, a11.put (by decide), a12.put (by decide), a13.put (by decide)⟩
theorem isM.a11 {f : Nat → Int32} (h : isM w A I ab be) : isM (zput w 86 (.inl (0, 7, f))) (va_up A 11 f) I ab be := by
  obtain ⟨o, a0, a1, a2, a3, a4, a5, a6, a7, a8, a9, a10, a11, a12, a13⟩ := h
  exact ⟨o.put (by decide), a0.put (by decide), a1.put (by decide), a2.put (by decide), a3.put (by decide), a4.put (by decide), a5.put (by decide), a6.put (by decide), a7.put (by decide), a8.put (by decide), a9.put (by decide), a10.put (by decide), a11.self, a12.put (by decide), a13.put (by decide)⟩
theorem isM.a12 {f : Nat → Int32} (h : isM w A I ab be) : isM (zput w 87 (.inl (0, 7, f))) (va_up A 12 f) I ab be := by
  obtain ⟨o, a0, a1, a2, a3, a4, a5, a6, a7, a8, a9, a10, a11, a12, a13⟩ := h
  exact ⟨o.put (by decide), a0.put (by decide), a1.put (by decide), a2.put (by decide), a3.put (by decide), a4.put (by decide), a5.put (by decide), a6.put (by decide), a7.put (by decide), a8.put (by decide), a9.put (by decide), a10.put (by decide), a11.put (by decide), a12.self, a13.put (by decide)⟩
theorem isM.a13 {f : Nat → Int32} (h : isM w A I ab be) : isM (zput w 88 (.inl (0, 49, f))) (va_up A 13 f) I ab be := by
  obtain ⟨o, a0, a1, a2, a3, a4, a5, a6, a7, a8, a9, a10, a11, a12, a13⟩ := h
  exact ⟨o.put (by decide), a0.put (by decide), a1.put (by decide), a2.put (by decide), a3.put (by decide), a4.put (by decide), a5.put (by decide), a6.put (by decide), a7.put (by decide), a8.put (by decide), a9.put (by decide), a10.put (by decide), a11.put (by decide), a12.put (by decide), a13.self⟩
theorem isM.ob {I' : Nat → Int32} {ab' be' : Int64} (h : isM w A I ab be) : isM (zput w 74 (.inr (9, [.long ab', .long be', .ref 75, .int (I' 0), .ref 76, .ref 77, .ref 78, .int (I' 1), .int (I' 2), .int (I' 3), .int (I' 4), .int (I' 5), .int (I' 6), .int (I' 7), .ref 79, .ref 80, .ref 81, .ref 82, .ref 83, .ref 84, .ref 85, .ref 86, .ref 87, .ref 88]))) A I' ab' be' := by
  obtain ⟨o, a0, a1, a2, a3, a4, a5, a6, a7, a8, a9, a10, a11, a12, a13⟩ := h
  exact ⟨o.self, a0.put (by decide), a1.put (by decide), a2.put (by decide), a3.put (by decide), a4.put (by decide), a5.put (by decide), a6.put (by decide), a7.put (by decide), a8.put (by decide), a9.put (by decide), a10.put (by decide), a11.put (by decide), a12.put (by decide), a13.put (by decide)⟩
theorem m_in {x a b : Int32} (k1 : a ≤ x → x ≤ b → Q (some (.int 1)) w) (k0 : ¬ (a ≤ x ∧ x ≤ b) → Q (some (.int 0)) w) : Zm d mX9_in 0 0 [.int x, .int a, .int b] w Q := by
  refine zm_intro [_, _, _] oX9_in (Nat.le_of_ble_eq_true rfl) rfl ?_
  refine zw_iload_n dX9_in_0 rfl ?_
  refine zw_iload_n dX9_in_1 rfl ?_
  by_cases h1 : x < a
  · refine zw_icmp_lt 14 dX9_in_2 (by decide) (fun _ => ?_) (fun hz => absurd (h1) hz)
    refine zw_iconst dX9_in_14 0 (by decide) ?_
    refine zw_ireturn .boolean dX9_in_15 rfl rfl (Nat.le_refl _) (Nat.le_refl _) ?_
    exact k0 (fun z => Int32.not_lt.mpr z.1 h1)
  · refine zw_icmp_lt 14 dX9_in_2 (by decide) (fun hz => absurd hz (h1)) (fun _ => ?_)
    refine zw_iload_n dX9_in_5 rfl ?_
    refine zw_iload_n dX9_in_6 rfl ?_
    by_cases h2 : b < x
    · refine zw_icmp_gt 14 dX9_in_7 (by decide) (fun _ => ?_) (fun hz => absurd (h2) hz)
      refine zw_iconst dX9_in_14 0 (by decide) ?_
      refine zw_ireturn .boolean dX9_in_15 rfl rfl (Nat.le_refl _) (Nat.le_refl _) ?_
      exact k0 (fun z => Int32.not_lt.mpr z.2 h2)
    · refine zw_icmp_gt 14 dX9_in_7 (by decide) (fun hz => absurd hz (h2)) (fun _ => ?_)
      refine zw_iconst dX9_in_10 1 (by decide) ?_
      refine zw_goto 15 dX9_in_11 (by decide) ?_
      refine zw_ireturn .boolean dX9_in_15 rfl rfl (Nat.le_refl _) (Nat.le_refl _) ?_
      exact k1 (Int32.not_lt.mp h1) (Int32.not_lt.mp h2)
theorem m_get {b j : Nat} (h : isM w A I ab be) (hb : I 0 = nI b) (hj : b + j < 868) (k : Q (some (.int (A 0 (b + j)))) w) : Zm d mX9_get 0 0 [.ref 74, .int (nI j)] w Q := by
  refine zm_intro [_, _] oX9_get (Nat.le_of_ble_eq_true rfl) rfl ?_
  refine zw_aload_n dX9_get_0 rfl ?_
  refine zw_get dX9_get_1 fX9_7 h.1 rfl ?_
  refine zw_aload_n dX9_get_4 rfl ?_
  refine zw_get dX9_get_5 fX9_58 h.1 rfl ?_
  refine zw_iload_n dX9_get_8 rfl ?_
  refine zw_iadd dX9_get_9 ?_
  refine zw_top (y := nI (b + j)) (by rw [hb, nI_add]) ?_
  refine zw_iald dX9_get_10 h.2.1 (vp_in_nI hj (by decide)) ?_
  rw [nI_clamp (by omega)]
  refine zw_ireturn .int dX9_get_11 rfl rfl (Nat.le_refl _) (Nat.le_refl _) ?_
  exact k
theorem m_put1 {b j : Nat} {v : Int32} (h : isM w A I ab be) (hb : I 0 = nI b) (hj : b + j < 868) (k : ∀ w', isM w' (va_up A 0 (upd (A 0) (b + j) v)) I ab be → zOff 74 89 w w' → Q none w') : Zm d mX9_put1 0 0 [.ref 74, .int (nI j), .int v] w Q := by
  refine zm_intro [_, _, _] oX9_put1 (Nat.le_of_ble_eq_true rfl) rfl ?_
  refine zw_aload_n dX9_put1_0 rfl ?_
  refine zw_get dX9_put1_1 fX9_7 h.1 rfl ?_
  refine zw_aload_n dX9_put1_4 rfl ?_
  refine zw_get dX9_put1_5 fX9_58 h.1 rfl ?_
  refine zw_iload_n dX9_put1_8 rfl ?_
  refine zw_iadd dX9_put1_9 ?_
  refine zw_top (y := nI (b + j)) (by rw [hb, nI_add]) ?_
  refine zw_iload_n dX9_put1_10 rfl ?_
  refine zw_iast dX9_put1_11 h.2.1 (vp_in_nI hj (by decide)) ?_
  rw [nI_clamp (by omega)]
  refine zw_return dX9_put1_12 rfl (Nat.le_refl _) (Nat.le_refl _) ?_
  exact k _ h.a0 (zOff.pt (by decide) (by decide))
/-- the refusals counted: only outside of reading -/
def toldI (A : Nat → Nat → Int32) (b : Nat) (j : Nat) : Nat → Nat → Int32 := if b = 0 then va_up A 2 (upd (A 2) j (A 2 j + 1)) else A
theorem m_told0 {v : Int32} (hv : ¬ (-4 ≤ v ∧ v ≤ -2)) (h : isM w A I ab be) (k : Q (some (.int v)) w) : Zm (d + 1) mX9_told 0 0 [.ref 74, .int v] w Q := by
  refine zm_intro [_, _] oX9_told (Nat.le_of_ble_eq_true rfl) rfl ?_
  refine zw_aload_n dX9_told_0 rfl ?_
  refine zw_get dX9_told_1 fX9_58 h.1 rfl ?_
  by_cases h0 : I 0 = 0
  · refine zw_if_ne 31 dX9_told_4 (by decide) (fun hz => absurd (h0) hz) (fun _ => ?_)
    refine zw_iload_n dX9_told_7 rfl ?_
    refine zw_bipush dX9_told_8 (-4) (by decide) ?_
    refine zw_bipush dX9_told_10 (-2) (by decide) ?_
    refine zw_cS3 dX9_told_12 oX9_in kX9_in lX9_66 (Nat.le_of_ble_eq_true rfl) rfl (m_in (fun q1 q2 => absurd ⟨q1, q2⟩ hv) (fun _ => ?_))
    show Zw _ _ _ 15 [_, _] [_] _ _
    refine zw_if_eq 31 dX9_told_15 (by decide) (fun _ => ?_) (fun hz => absurd (by decide) hz)
    refine zw_iload_n dX9_told_31 rfl ?_
    refine zw_ireturn .int dX9_told_32 rfl rfl (Nat.le_refl _) (Nat.le_refl _) ?_
    exact k
  · refine zw_if_ne 31 dX9_told_4 (by decide) (fun _ => ?_) (fun hz => absurd hz (h0))
    refine zw_iload_n dX9_told_31 rfl ?_
    refine zw_ireturn .int dX9_told_32 rfl rfl (Nat.le_refl _) (Nat.le_refl _) ?_
    exact k
theorem m_toldR {b j : Nat} (hj : j < 3) (hb : I 0 = nI b) (hb8 : b < 868) (h : isM w A I ab be) (k : ∀ w', isM w' (toldI A b j) I ab be → zOff 74 89 w w' → Q (some (.int (-2 - nI j))) w') : Zm (d + 1) mX9_told 0 0 [.ref 74, .int (-2 - nI j)] w Q := by
  have e3 : ∀ j, j < 3 → (-4 ≤ (-2 : Int32) - nI j ∧ (-2 : Int32) - nI j ≤ -2) ∧ (-2 : Int32) - (-2 - nI j) = nI j := by decide +kernel
  refine zm_intro [_, _] oX9_told (Nat.le_of_ble_eq_true rfl) rfl ?_
  refine zw_aload_n dX9_told_0 rfl ?_
  refine zw_get dX9_told_1 fX9_58 h.1 rfl ?_
  by_cases h0 : b = 0
  · have hI : I 0 = 0 := by rw [hb, h0]; rfl
    have e : toldI A b j = va_up A 2 (upd (A 2) j (A 2 j + 1)) := by unfold toldI; rw [if_pos h0]
    refine zw_if_ne 31 dX9_told_4 (by decide) (fun hz => absurd (hI) hz) (fun _ => ?_)
    refine zw_iload_n dX9_told_7 rfl ?_
    refine zw_bipush dX9_told_8 (-4) (by decide) ?_
    refine zw_bipush dX9_told_10 (-2) (by decide) ?_
    refine zw_cS3 dX9_told_12 oX9_in kX9_in lX9_66 (Nat.le_of_ble_eq_true rfl) rfl (m_in (fun _ _ => ?_) (fun q => absurd (e3 j hj).1 q))
    show Zw _ _ _ 15 [_, _] [_] _ _
    refine zw_if_eq 31 dX9_told_15 (by decide) (fun hz => absurd hz (by decide)) (fun _ => ?_)
    refine zw_aload_n dX9_told_18 rfl ?_
    refine zw_get dX9_told_19 fX9_17 h.1 rfl ?_
    refine zw_bipush dX9_told_22 (-2) (by decide) ?_
    refine zw_iload_n dX9_told_24 rfl ?_
    refine zw_isub dX9_told_25 ?_
    refine zw_top ((e3 j hj).2) ?_
    refine zw_dup2 dX9_told_26 rfl rfl ?_
    refine zw_iald dX9_told_27 h.2.2.2.1 (vp_in_nI hj (by decide)) ?_
    rw [nI_clamp (by omega)]
    refine zw_iconst dX9_told_28 1 (by decide) ?_
    refine zw_iadd dX9_told_29 ?_
    refine zw_iast dX9_told_30 h.2.2.2.1 (vp_in_nI hj (by decide)) ?_
    rw [nI_clamp (by omega)]
    refine zw_iload_n dX9_told_31 rfl ?_
    refine zw_ireturn .int dX9_told_32 rfl rfl (Nat.le_refl _) (Nat.le_refl _) ?_
    exact k _ (by rw [e]; exact h.a2) (zOff.pt (by decide) (by decide))
  · have e : toldI A b j = A := by unfold toldI; rw [if_neg h0]
    have hI : ¬ I 0 = 0 := by rw [hb]; exact nI_ne0 (by omega) (by omega)
    refine zw_if_ne 31 dX9_told_4 (by decide) (fun _ => ?_) (fun hz => absurd hz (hI))
    refine zw_iload_n dX9_told_31 rfl ?_
    refine zw_ireturn .int dX9_told_32 rfl rfl (Nat.le_refl _) (Nat.le_refl _) ?_
    exact k _ (by rw [e]; exact h) zOff.rf
theorem m_isX {y n : Nat} {x : Int32} (hn : n < 100) (k1 : ∀ r, r < n → x = nI r → Q (some (.int 1)) w) (k0 : (∀ r, r < n → ¬ x = nI r) → Q (some (.int 0)) w) : Zm d mX9_in 0 0 [.int x, .int 0, .int (nI n - 1)] w Q := by
  refine m_in (fun q1 q2 => ?_) (fun q => k0 (fun r hr e => q ?_))
  · obtain ⟨r, hr, e⟩ := nI_of (Int32.not_lt.mpr q1)
    subst e
    refine k1 r ?_ rfl
    rcases n with _ | m
    · exact absurd (Int32.le_trans q1 q2) (by decide)
    · rw [nI_pred] at q2
      have := (nI_leI hr (by omega)).mp q2
      omega
  · subst e
    rcases n with _ | m
    · omega
    · rw [nI_pred]
      exact ⟨nI_pos' (by omega), nI_le (by omega) (by omega)⟩
theorem m_isBox {b n : Nat} {x : Int32} (h : isM w A I ab be) (hb : I 0 = nI b) (hb8 : b ≤ 651) (hn : A 0 b = nI n) (hn9 : n < 100) (k1 : ∀ r, r < n → x = nI r → Q (some (.int 1)) w) (k0 : (∀ r, r < n → ¬ x = nI r) → Q (some (.int 0)) w) : Zm (d + 1) mX9_isBox 0 0 [.ref 74, .int x] w Q := by
  refine zm_intro [_, _] oX9_isBox (Nat.le_of_ble_eq_true rfl) rfl ?_
  refine zw_iload_n dX9_isBox_0 rfl ?_
  refine zw_iconst dX9_isBox_1 0 (by decide) ?_
  refine zw_aload_n dX9_isBox_2 rfl ?_
  refine zw_iconst dX9_isBox_3 0 (by decide) ?_
  refine zw_cV1 dX9_isBox_4 oX9_get kX9_get lX9_62 h.1 rfl (Nat.le_of_ble_eq_true rfl) rfl (m_get (j := 0) h hb (by omega) ?_)
  show Zw _ _ _ 7 [_, _] [_, _, _] _ _
  refine zw_top (hn) ?_
  refine zw_iconst dX9_isBox_7 1 (by decide) ?_
  refine zw_isub dX9_isBox_8 ?_
  refine zw_cS3 dX9_isBox_9 oX9_in kX9_in lX9_66 (Nat.le_of_ble_eq_true rfl) rfl (m_isX (y := 0) hn9 (fun r hr e => ?_) (fun q => ?_))
  · show Zw _ _ _ 12 [_, _] [_] _ _
    refine zw_ireturn .boolean dX9_isBox_12 rfl rfl (Nat.le_refl _) (Nat.le_refl _) ?_
    exact k1 r hr e
  · show Zw _ _ _ 12 [_, _] [_] _ _
    refine zw_ireturn .boolean dX9_isBox_12 rfl rfl (Nat.le_refl _) (Nat.le_refl _) ?_
    exact k0 q
theorem m_isLid {b n : Nat} {x : Int32} (h : isM w A I ab be) (hb : I 0 = nI b) (hb8 : b ≤ 651) (hn : A 0 (b + 1) = nI n) (hn9 : n < 100) (k1 : ∀ r, r < n → x = nI r → Q (some (.int 1)) w) (k0 : (∀ r, r < n → ¬ x = nI r) → Q (some (.int 0)) w) : Zm (d + 1) mX9_isLid 0 0 [.ref 74, .int x] w Q := by
  refine zm_intro [_, _] oX9_isLid (Nat.le_of_ble_eq_true rfl) rfl ?_
  refine zw_iload_n dX9_isLid_0 rfl ?_
  refine zw_iconst dX9_isLid_1 0 (by decide) ?_
  refine zw_aload_n dX9_isLid_2 rfl ?_
  refine zw_iconst dX9_isLid_3 1 (by decide) ?_
  refine zw_cV1 dX9_isLid_4 oX9_get kX9_get lX9_62 h.1 rfl (Nat.le_of_ble_eq_true rfl) rfl (m_get (j := 1) h hb (by omega) ?_)
  show Zw _ _ _ 7 [_, _] [_, _, _] _ _
  refine zw_top (hn) ?_
  refine zw_iconst dX9_isLid_7 1 (by decide) ?_
  refine zw_isub dX9_isLid_8 ?_
  refine zw_cS3 dX9_isLid_9 oX9_in kX9_in lX9_66 (Nat.le_of_ble_eq_true rfl) rfl (m_isX (y := 0) hn9 (fun r hr e => ?_) (fun q => ?_))
  · show Zw _ _ _ 12 [_, _] [_] _ _
    refine zw_ireturn .boolean dX9_isLid_12 rfl rfl (Nat.le_refl _) (Nat.le_refl _) ?_
    exact k1 r hr e
  · show Zw _ _ _ 12 [_, _] [_] _ _
    refine zw_ireturn .boolean dX9_isLid_12 rfl rfl (Nat.le_refl _) (Nat.le_refl _) ?_
    exact k0 q
theorem m_ofBox {b r c : Nat} (h : isM w A I ab be) (hb : I 0 = nI b) (hb8 : b ≤ 651) (hr : r < 7) (hc : c < 5) (k : Q (some (.int (A 0 (b + (6 + 5 * r + c))))) w) : Zm (d + 1) mX9_ofBox 0 0 [.ref 74, .int (nI r), .int (nI c)] w Q := by
  refine zm_intro [_, _, _] oX9_ofBox (Nat.le_of_ble_eq_true rfl) rfl ?_
  refine zw_aload_n dX9_ofBox_0 rfl ?_
  refine zw_bipush dX9_ofBox_1 6 (by decide) ?_
  refine zw_iconst dX9_ofBox_3 5 (by decide) ?_
  refine zw_iload_n dX9_ofBox_4 rfl ?_
  refine zw_imul dX9_ofBox_5 ?_
  refine zw_iadd dX9_ofBox_6 ?_
  refine zw_iload_n dX9_ofBox_7 rfl ?_
  refine zw_iadd dX9_ofBox_8 ?_
  refine zw_top (y := nI (6 + 5 * r + c)) (by rw [← nI_add, ← nI_add, ← pk_mul]; rfl) ?_
  refine zw_cV1 dX9_ofBox_9 oX9_get kX9_get lX9_62 h.1 rfl (Nat.le_of_ble_eq_true rfl) rfl (m_get (j := 6 + 5 * r + c) h hb (by omega) ?_)
  show Zw _ _ _ 12 [_, _, _] [_] _ _
  refine zw_ireturn .int dX9_ofBox_12 rfl rfl (Nat.le_refl _) (Nat.le_refl _) ?_
  exact k
theorem m_ofLid {b r c : Nat} (h : isM w A I ab be) (hb : I 0 = nI b) (hb8 : b ≤ 651) (hr : r < 7) (hc : c < 4) (k : Q (some (.int (A 0 (b + (41 + 4 * r + c))))) w) : Zm (d + 1) mX9_ofLid 0 0 [.ref 74, .int (nI r), .int (nI c)] w Q := by
  refine zm_intro [_, _, _] oX9_ofLid (Nat.le_of_ble_eq_true rfl) rfl ?_
  refine zw_aload_n dX9_ofLid_0 rfl ?_
  refine zw_bipush dX9_ofLid_1 41 (by decide) ?_
  refine zw_iconst dX9_ofLid_3 4 (by decide) ?_
  refine zw_iload_n dX9_ofLid_4 rfl ?_
  refine zw_imul dX9_ofLid_5 ?_
  refine zw_iadd dX9_ofLid_6 ?_
  refine zw_iload_n dX9_ofLid_7 rfl ?_
  refine zw_iadd dX9_ofLid_8 ?_
  refine zw_top (y := nI (41 + 4 * r + c)) (by rw [← nI_add, ← nI_add, ← pk_mul]; rfl) ?_
  refine zw_cV1 dX9_ofLid_9 oX9_get kX9_get lX9_62 h.1 rfl (Nat.le_of_ble_eq_true rfl) rfl (m_get (j := 41 + 4 * r + c) h hb (by omega) ?_)
  show Zw _ _ _ 12 [_, _, _] [_] _ _
  refine zw_ireturn .int dX9_ofLid_12 rfl rfl (Nat.le_refl _) (Nat.le_refl _) ?_
  exact k
theorem m_bad10 {b : Nat} (hb : I 0 = nI b) (hb8 : b < 868) (h : isM w A I ab be) (k : ∀ w', isM w' (toldI A b 0) I ab be → zOff 74 89 w w' → Q (some (.int (-10))) w') : Zm (d + 2) mX9_bad10 0 0 [.ref 74] w Q := by
  refine zm_intro [_] oX9_bad10 (Nat.le_of_ble_eq_true rfl) rfl ?_
  refine zw_aload_n dX9_bad10_0 rfl ?_
  refine zw_bipush dX9_bad10_1 (-2) (by decide) ?_
  refine zw_cV1 dX9_bad10_3 oX9_told kX9_told lX9_70 h.1 rfl (Nat.le_of_ble_eq_true rfl) rfl (m_toldR (j := 0) (by decide) hb hb8 h (fun w1 h1 o1 => ?_))
  show Zw _ _ _ 6 [_] [_] _ _
  refine zw_pop dX9_bad10_6 rfl ?_
  refine zw_bipush dX9_bad10_7 (-10) (by decide) ?_
  refine zw_ireturn .int dX9_bad10_9 rfl rfl (Nat.le_refl _) (Nat.le_refl _) ?_
  exact k w1 h1 o1
end ZMOD
