/-! ===== read: the numbers of an item ===== -/
theorem sor_w : ∀ wd, wd < 5 → ¬ nI wd = 5 ∧ ¬ nI wd = 6 ∧ ¬ nI wd = 7 ∧ nI wd ≤ 4 := by decide +kernel
section ZGIVEN
variable {d : Nat} {w w' : ZW} {A : Nat → Nat → Int32} {I : Nat → Int32} {ab be : Int64} {Q : Option Value → ZW → Prop} {bt : Nat → Int32} {len : Nat}
theorem sor_all {e : Nat} {va : Int32} : (sorM (tokS bt len e va).2.2.1 (tokS bt len e va).2.2.2 = 5 ↔ (tokS bt len e va).2.2.1 = 1) ∧ (sorM (tokS bt len e va).2.2.1 (tokS bt len e va).2.2.2 = 6 ↔ (tokS bt len e va).2.2.1 = 2) ∧ (sorM (tokS bt len e va).2.2.1 (tokS bt len e va).2.2.2 = 7 ↔ (tokS bt len e va).2.2.1 = 3) ∧ (sorM (tokS bt len e va).2.2.1 (tokS bt len e va).2.2.2 ≤ 4 ↔ (tokS bt len e va).2.2.1 = 0) := by
  have hw := tokS_wd (bt := bt) (len := len) (e := e) (va := va)
  generalize (tokS bt len e va).2.2.1 = tk at *
  generalize (tokS bt len e va).2.2.2 = v at *
  unfold sorM
  by_cases e0 : tk = 0
  · obtain ⟨wd, h1, h2⟩ := hw e0
    obtain ⟨g1, g2, g3, g4⟩ := sor_w wd h1
    rw [if_pos e0, h2, e0]
    exact ⟨⟨fun z => absurd z g1, fun z => absurd z (by decide)⟩, ⟨fun z => absurd z g2, fun z => absurd z (by decide)⟩, ⟨fun z => absurd z g3, fun z => absurd z (by decide)⟩, ⟨fun _ => rfl, fun _ => g4⟩⟩
  · rw [if_neg e0]
    by_cases e1 : tk = 1
    · rw [if_pos e1, e1]; decide
    · rw [if_neg e1]
      by_cases e2 : tk = 2
      · rw [if_pos e2, e2]; decide
      · rw [if_neg e2]
        by_cases e3 : tk = 3
        · rw [if_pos e3, e3]; decide
        · rw [if_neg e3]
          exact ⟨⟨fun z => absurd z (by decide), fun z => absurd z e1⟩, ⟨fun z => absurd z (by decide), fun z => absurd z e2⟩, ⟨fun z => absurd z (by decide), fun z => absurd z e3⟩, ⟨fun z => absurd z (by decide), fun z => absurd z e0⟩⟩
/-- there is a fault: nothing but the numbers changes -/
theorem m_gvF {N e : Nat} {x1 x2 : Int32} {w0 : ZW} {A0 : Nat → Nat → Int32} (hN : N ≤ 4) (hf : ¬ I 6 = -1) (h2 : I 2 = nI e) (he : e ≤ len) (hK : ∀ w' A' o4, (∀ r, ¬ r = 4 → A' r = A0 r) → isM w' A' I ab be → zOff 74 89 w0 w' → Zw (d + 8) mX9_read z0 147 [some (.ref 74), some (.int x1), some (.int x2), some (.int (nI N)), o4] [] w' Q) : ∀ (k j : Nat) (A : Nat → Nat → Int32) (w : ZW), j + k = N → txtM A0 I bt len → (∀ r, ¬ r = 4 → A r = A0 r) → isM w A I ab be → zOff 74 89 w0 w → Zw (d + 8) mX9_read z0 107 [some (.ref 74), some (.int x1), some (.int x2), some (.int (nI N)), some (.int (nI j))] [] w Q := by
  intro k
  induction k with
  | zero =>
    intro j A w hj ht hA h ho
    have hj : j = N := hj
    subst hj
    refine zw_iload dX9_read_107 rfl ?_
    refine zw_iload_n dX9_read_109 rfl ?_
    refine zw_icmp_ge 147 dX9_read_110 (by decide) (fun _ => ?_) (fun hz => absurd (nI_le (Nat.le_refl _) (by omega)) hz)
    exact hK w A _ hA h ho
  | succ k ih =>
    intro j A w hj ht hA h ho
    refine zw_iload dX9_read_107 rfl ?_
    refine zw_iload_n dX9_read_109 rfl ?_
    refine zw_icmp_ge 147 dX9_read_110 (by decide) (fun hz => absurd hz (nI_ge (by omega) (by omega))) (fun _ => ?_)
    refine zw_aload_n dX9_read_113 rfl ?_
    refine zw_get dX9_read_114 fX9_24 h.1 rfl ?_
    refine zw_iload dX9_read_117 rfl ?_
    refine zw_aload_n dX9_read_119 rfl ?_
    refine zw_get dX9_read_120 fX9_141 h.1 rfl ?_
    refine zw_iast dX9_read_123 h.q4 (vp_in_nI (n := j) (N := 4) (by omega) (by decide)) ?_
    have h1 := h.a4 (f := upd (A 4) (nI j).toNatClampNeg (I 5))
    have hA1 : ∀ r, ¬ r = 4 → va_up A 4 (upd (A 4) (nI j).toNatClampNeg (I 5)) r = A0 r := fun r hr => by
      show (if r = 4 then _ else A r) = A0 r
      rw [if_neg hr]; exact hA r hr
    have ht1 : txtM (va_up A 4 (upd (A 4) (nI j).toNatClampNeg (I 5))) I bt len := ⟨ht.1, ht.2.1, fun i hi => by rw [hA1 3 (by decide)]; exact ht.2.2 i hi⟩
    have o1 : zOff 74 89 w (zput w 79 (.inl (0, 4, upd (A 4) (nI j).toNatClampNeg (I 5)))) := zOff.pt (by decide) (by decide)
    have fin : Zw (d + 8) mX9_read z0 141 [some (.ref 74), some (.int x1), some (.int x2), some (.int (nI N)), some (.int (nI j))] [] (zput w 79 (.inl (0, 4, upd (A 4) (nI j).toNatClampNeg (I 5)))) Q := by
      refine zw_iinc (nI (j + 1)) [_, _, _, _, _] dX9_read_141 rfl (nI_1 j) rfl ?_
      refine zw_goto 107 dX9_read_144 (by decide) ?_
      exact ih (j + 1) _ _ (by omega) ht hA1 h1 (ho.tr o1)
    refine zw_aload_n dX9_read_124 rfl ?_
    refine zw_aload_n dX9_read_125 rfl ?_
    refine zw_get dX9_read_126 fX9_144 h1.1 rfl ?_
    refine zw_iconst dX9_read_129 5 (by decide) ?_
    by_cases q : I 4 = 5
    · refine zw_icmp_ne 137 dX9_read_130 (by decide) (fun hz => absurd (q) hz) (fun _ => ?_)
      refine zw_iconst dX9_read_133 1 (by decide) ?_
      refine zw_goto 138 dX9_read_134 (by decide) ?_
      refine zw_cV1 dX9_read_138 oX9_due kX9_due lX9_159 h1.1 rfl (Nat.le_of_ble_eq_true rfl) rfl (m_due (p := true) 0 h1 ht1 h2 he (fun _ => ?_) (fun z => absurd z hf) (fun z => absurd z hf))
      exact fin
    · refine zw_icmp_ne 137 dX9_read_130 (by decide) (fun _ => ?_) (fun hz => absurd hz (q))
      refine zw_iconst dX9_read_137 0 (by decide) ?_
      refine zw_cV1 dX9_read_138 oX9_due kX9_due lX9_159 h1.1 rfl (Nat.le_of_ble_eq_true rfl) rfl (m_due (p := false) 0 h1 ht1 h2 he (fun _ => ?_) (fun z => absurd z hf) (fun z => absurd z hf))
      exact fin
/-- no fault so far: the numbers are taken as the class takes them -/
theorem m_gv {N : Nat} {x1 x2 : Int32} {w0 : ZW} {A0 : Nat → Nat → Int32} {I0 : Nat → Int32} {R : Bool × TSt} (hN : N ≤ 4) (ht0 : txtM A0 I0 bt len) (hK1 : R.1 = true → ∀ w' A' I' o4, I' 6 = -1 → tkM I' len (tokS bt len R.2.1.2.1 R.2.1.2.2.2) → R.2.1.2.1 ≤ len → (∀ i, i < N → A' 4 i = R.2.2 i) → (∀ r, ¬ r = 4 → A' r = A0 r) → (∀ i, ¬ i = 6 → ¬ i = 2 → ¬ i = 3 → ¬ i = 4 → ¬ i = 5 → I' i = I0 i) → isM w' A' I' ab be → zOff 74 89 w0 w' → Zw (d + 8) mX9_read z0 147 [some (.ref 74), some (.int x1), some (.int x2), some (.int (nI N)), o4] [] w' Q) (hK2 : R.1 = false → ∀ w' A' I' o4 e, I' 6 = nI R.2.1.1 → R.2.1.1 ≤ len → I' 2 = nI e → e ≤ len → (∀ r, ¬ r = 4 → A' r = A0 r) → (∀ i, ¬ i = 6 → ¬ i = 2 → ¬ i = 3 → ¬ i = 4 → ¬ i = 5 → I' i = I0 i) → isM w' A' I' ab be → zOff 74 89 w0 w' → Zw (d + 8) mX9_read z0 147 [some (.ref 74), some (.int x1), some (.int x2), some (.int (nI N)), o4] [] w' Q) : ∀ (k j : Nat) (s : TSt) (A : Nat → Nat → Int32) (I : Nat → Int32) (w : ZW), j + k = N → numsF bt len j k s = R → I 6 = -1 → s.1.2.1 ≤ len → tkM I len (tokS bt len s.1.2.1 s.1.2.2.2) → (∀ i, i < j → A 4 i = s.2 i) → (∀ r, ¬ r = 4 → A r = A0 r) → (∀ i, ¬ i = 6 → ¬ i = 2 → ¬ i = 3 → ¬ i = 4 → ¬ i = 5 → I i = I0 i) → isM w A I ab be → zOff 74 89 w0 w → Zw (d + 8) mX9_read z0 107 [some (.ref 74), some (.int x1), some (.int x2), some (.int (nI N)), some (.int (nI j))] [] w Q := by
  intro k
  induction k with
  | zero =>
    intro j s A I w hj hR hf hs hT h4 hA hI h ho
    have hj : j = N := hj
    subst hj
    have hR : (true, s) = R := hR
    subst hR
    refine zw_iload dX9_read_107 rfl ?_
    refine zw_iload_n dX9_read_109 rfl ?_
    refine zw_icmp_ge 147 dX9_read_110 (by decide) (fun _ => ?_) (fun hz => absurd (nI_le (Nat.le_refl _) (by omega)) hz)
    exact hK1 rfl w A I _ hf hT hs h4 hA hI h ho
  | succ k ih =>
    intro j s A I w hj hR hf hs hT h4 hA hI h ho
    obtain ⟨T1, T2, T3, T4, T5⟩ := hT
    refine zw_iload dX9_read_107 rfl ?_
    refine zw_iload_n dX9_read_109 rfl ?_
    refine zw_icmp_ge 147 dX9_read_110 (by decide) (fun hz => absurd hz (nI_ge (by omega) (by omega))) (fun _ => ?_)
    refine zw_aload_n dX9_read_113 rfl ?_
    refine zw_get dX9_read_114 fX9_24 h.1 rfl ?_
    refine zw_iload dX9_read_117 rfl ?_
    refine zw_aload_n dX9_read_119 rfl ?_
    refine zw_get dX9_read_120 fX9_141 h.1 rfl ?_
    refine zw_iast dX9_read_123 h.q4 (vp_in_nI (n := j) (N := 4) (by omega) (by decide)) ?_
    have h1 := h.a4 (f := upd (A 4) (nI j).toNatClampNeg (I 5))
    have ej : (nI j).toNatClampNeg = j := nI_clamp (by omega)
    rw [ej] at h1 ⊢
    have hA1 : ∀ r, ¬ r = 4 → va_up A 4 (upd (A 4) j (I 5)) r = A0 r := fun r hr => by
      show (if r = 4 then _ else A r) = A0 r
      rw [if_neg hr]; exact hA r hr
    have ht1 : txtM (va_up A 4 (upd (A 4) j (I 5))) I bt len := ⟨(hI 1 (by decide) (by decide) (by decide) (by decide) (by decide)).trans ht0.1, ht0.2.1, fun i hi => by rw [hA1 3 (by decide)]; exact ht0.2.2 i hi⟩
    have o1 : zOff 74 89 w (zput w 79 (.inl (0, 4, upd (A 4) j (I 5)))) := zOff.pt (by decide) (by decide)
    have sA := sor_all (bt := bt) (len := len) (e := s.1.2.1) (va := s.1.2.2.2)
    refine zw_aload_n dX9_read_124 rfl ?_
    refine zw_aload_n dX9_read_125 rfl ?_
    refine zw_get dX9_read_126 fX9_144 h1.1 rfl ?_
    refine zw_iconst dX9_read_129 5 (by decide) ?_
    unfold numsF at hR
    by_cases q : (tokS bt len s.1.2.1 s.1.2.2.2).2.2.1 = 1
    · rw [if_pos q] at hR
      refine zw_icmp_ne 137 dX9_read_130 (by decide) (fun hz => absurd ((T3.trans (sA.1.mpr q))) hz) (fun _ => ?_)
      refine zw_iconst dX9_read_133 1 (by decide) ?_
      refine zw_goto 138 dX9_read_134 (by decide) ?_
      refine zw_cV1 dX9_read_138 oX9_due kX9_due lX9_159 h1.1 rfl (Nat.le_of_ble_eq_true rfl) rfl (m_due (p := true) (tokS bt len s.1.2.1 s.1.2.2.2).2.2.2 h1 ht1 T1 T5 (fun z => absurd hf z) (fun _ _ w2 I2 g1 g2 h2 o2 => ?_) (fun _ z => absurd z (by decide)))
      refine zw_iinc (nI (j + 1)) [_, _, _, _, _] dX9_read_141 rfl (nI_1 j) rfl ?_
      refine zw_goto 107 dX9_read_144 (by decide) ?_
      refine ih (j + 1) _ _ I2 w2 (by omega) hR ((g1 6 (by decide) (by decide) (by decide) (by decide)).trans hf) T5 g2 (fun i hi => ?_) hA1 (fun i a1 a2 a3 a4 a5 => (g1 i a2 a3 a4 a5).trans (hI i a1 a2 a3 a4 a5)) h2 ((ho.tr o1).tr o2)
      show upd (A 4) j (I 5) i = upd s.2 j _ i
      by_cases e : i = j
      · rw [e, pk_us, pk_us]; exact T4 q
      · rw [pk_un e, pk_un e]; exact h4 i (by omega)
    · rw [if_neg q] at hR
      subst hR
      refine zw_icmp_ne 137 dX9_read_130 (by decide) (fun _ => ?_) (fun hz => absurd hz ((fun z => q (sA.1.mp (T3.symm.trans z)))))
      refine zw_iconst dX9_read_137 0 (by decide) ?_
      refine zw_cV1 dX9_read_138 oX9_due kX9_due lX9_159 h1.1 rfl (Nat.le_of_ble_eq_true rfl) rfl (m_due (p := false) 0 h1 ht1 T1 T5 (fun z => absurd hf z) (fun _ z => absurd z (by decide)) (fun _ _ w2 h2 o2 => ?_))
      refine zw_iinc (nI (j + 1)) [_, _, _, _, _] dX9_read_141 rfl (nI_1 j) rfl ?_
      refine zw_goto 107 dX9_read_144 (by decide) ?_
      have hle := (tokS_le (bt := bt) (va := s.1.2.2.2) hs)
      refine m_gvF (I := va_up I 6 (I 3)) (A0 := A0) hN (show ¬ I 3 = -1 by rw [T2]; exact nI_nm1 (by have := ht0.2.1; omega)) T1 T5 (fun w' A' o4 z1 z2 z3 => ?_) k (j + 1) _ w2 (by omega) ⟨(hI 1 (by decide) (by decide) (by decide) (by decide) (by decide)).trans ht0.1, ht0.2⟩ hA1 h2 ((ho.tr o1).tr o2)
      exact hK2 rfl w' A' (va_up I 6 (I 3)) o4 _ T2 (by show (tokS bt len s.1.2.1 s.1.2.2.2).1 ≤ len; omega) T1 T5 z1 (fun i a1 a2 a3 a4 a5 => by show (if i = 6 then _ else I i) = I0 i; rw [if_neg a1]; exact hI i a1 a2 a3 a4 a5) z2 z3
end ZGIVEN
