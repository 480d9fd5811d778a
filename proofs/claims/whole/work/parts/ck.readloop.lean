/-! ===== read: the loop, by the Model ===== -/
theorem tel_neg {D D' : Cup} {wd : Nat} {nm : Nat → Int32} {v : Int32} {f : Nat → Int32} (hr : rel D f) (h : telR D wd nm v D') : v < 0 ↔ v < -1 := by
  have big : ∀ n, n < 2 ^ 31 → (nI n < 0 ↔ nI n < -1) := fun n hn => ⟨fun z => absurd z (nI_pos hn), fun z => absurd (Int32.lt_trans z (by decide)) (nI_pos hn)⟩
  obtain ⟨b0, b1, b2, _⟩ := hr.1
  rcases h with ⟨_, ⟨_, e, _⟩ | ⟨_, _, e, _⟩ | ⟨_, _, e, _⟩⟩ | ⟨_, ⟨_, e, _⟩ | ⟨_, _, e, _⟩ | ⟨_, _, e, _⟩⟩ | ⟨_, ⟨_, e, _⟩ | ⟨_, _, _, _, _, _, _, e, _⟩ | ⟨_, _, _, _, _, _, _, _, _, _, e, _⟩⟩ | ⟨_, ⟨_, e, _⟩ | ⟨r, hr', _, _, _, e, _⟩⟩ | ⟨_, ⟨_, e, _⟩ | ⟨_, _, e, _⟩ | ⟨_, _, e, _⟩⟩
  · rw [e]; decide
  · rw [e]; decide
  · rw [e]; exact big _ (by omega)
  · rw [e]; decide
  · rw [e]; decide
  · rw [e]; exact big _ (by omega)
  · rw [e]; decide
  · rw [e]; decide
  · rw [e]; decide
  · rw [e]; decide
  · have := (hr.2.2.2.1.1 r hr').2
    obtain ⟨j, hj, e2⟩ := n10 (m := 9) (by decide) (by decide) this
    rw [e, e2]; exact big _ (by omega)
  · rw [e]; decide
  · rw [e]; decide
  · rw [e]; exact big _ (by omega)
theorem tel_m1 {D D' : Cup} {wd : Nat} {nm : Nat → Int32} {v : Int32} {f : Nat → Int32} (hr : rel D f) (h : telR D wd nm v D') : (-1 ≤ v) ↔ ¬ v < 0 := by
  rw [tel_neg hr h]
  exact Int32.not_lt.symm
section ZRL
variable {d : Nat} {w w' : ZW} {A : Nat → Nat → Int32} {I : Nat → Int32} {ab be : Int64} {Q : Option Value → ZW → Prop} {bt : Nat → Int32} {len : Nat}
theorem m_rd84 {N : Nat} {x1 x2 : Int32} {o3 o4 : Option Value} (hN : N = (if x2 = 4 then 4 else if 2 ≤ x2 then 2 else 3)) (k : Zw (d + 8) mX9_read z0 107 [some (.ref 74), some (.int x1), some (.int x2), some (.int (nI N)), some (.int (nI 0))] [] w Q) : Zw (d + 8) mX9_read z0 84 [some (.ref 74), some (.int x1), some (.int x2), o3, o4] [] w Q := by
  refine zw_iload_n dX9_read_84 rfl ?_
  refine zw_iconst dX9_read_85 4 (by decide) ?_
  by_cases q : x2 = 4
  · rw [if_pos q] at hN
    subst hN
    refine zw_icmp_ne 93 dX9_read_86 (by decide) (fun hz => absurd (q) hz) (fun _ => ?_)
    refine zw_iconst dX9_read_89 4 (by decide) ?_
    refine zw_goto 103 dX9_read_90 (by decide) ?_
    refine zw_istore_n [_, _, _, _, _] dX9_read_103 (Nat.le_of_ble_eq_true rfl) rfl ?_
    refine zw_iconst dX9_read_104 0 (by decide) ?_
    refine zw_istore [_, _, _, _, _] dX9_read_105 (Nat.le_of_ble_eq_true rfl) rfl ?_
    exact k
  · rw [if_neg q] at hN
    refine zw_icmp_ne 93 dX9_read_86 (by decide) (fun _ => ?_) (fun hz => absurd hz (q))
    refine zw_iload_n dX9_read_93 rfl ?_
    refine zw_iconst dX9_read_94 2 (by decide) ?_
    by_cases q2 : 2 ≤ x2
    · rw [if_pos q2] at hN
      subst hN
      refine zw_icmp_ge 102 dX9_read_95 (by decide) (fun _ => ?_) (fun hz => absurd (q2) hz)
      refine zw_iconst dX9_read_102 2 (by decide) ?_
      refine zw_istore_n [_, _, _, _, _] dX9_read_103 (Nat.le_of_ble_eq_true rfl) rfl ?_
      refine zw_iconst dX9_read_104 0 (by decide) ?_
      refine zw_istore [_, _, _, _, _] dX9_read_105 (Nat.le_of_ble_eq_true rfl) rfl ?_
      exact k
    · rw [if_neg q2] at hN
      subst hN
      refine zw_icmp_ge 102 dX9_read_95 (by decide) (fun hz => absurd hz (q2)) (fun _ => ?_)
      refine zw_iconst dX9_read_98 3 (by decide) ?_
      refine zw_goto 103 dX9_read_99 (by decide) ?_
      refine zw_istore_n [_, _, _, _, _] dX9_read_103 (Nat.le_of_ble_eq_true rfl) rfl ?_
      refine zw_iconst dX9_read_104 0 (by decide) ?_
      refine zw_istore [_, _, _, _, _] dX9_read_105 (Nat.le_of_ble_eq_true rfl) rfl ?_
      exact k
theorem m_rdG {i f : Nat} {x2 x3 : Int32} {o4 : Option Value} {w0 : ZW} {A0 : Nat → Nat → Int32} {I0 : Nat → Int32} {r : Option Cup × Int32} (hK : ∀ w' A' I', I' 0 = nI 0 → I' 1 = I0 1 → (∀ r, ¬ r = 0 → ¬ r = 4 → A' r = A0 r) → (∀ j, 217 ≤ j → j < 651 → A' 0 j = A0 0 j) → (r.1 = none → ∀ j, j < 217 → A' 0 j = A0 0 j) → (∀ D', r.1 = some D' → rel D' (vw A' 0)) → isM w' A' I' ab be → zOff 74 89 w0 w' → Q (some (.int r.2)) w') (hA : ∀ j, j < 651 → A 0 j = A0 0 j) (hR : ∀ r, ¬ r = 0 → ¬ r = 4 → A r = A0 r) (h1 : I 1 = I0 1) (h : isM w A I ab be) (ho : zOff 74 89 w0 w) (hf : f < 1000) (e6 : I 6 = nI f) (er : r = (none, -10 - nI f)) : Zw (d + 8) mX9_read z0 165 [some (.ref 74), some (.int (nI i)), some (.int x2), some (.int x3), o4] [] w Q := by
  have n6 : ¬ I 6 = -1 := by rw [e6]; exact nI_nm1 (by omega)
  refine zw_aload_n dX9_read_165 rfl ?_
  refine zw_get dX9_read_166 fX9_150 h.1 rfl ?_
  refine zw_iconst dX9_read_169 (-1) (by decide) ?_
  refine zw_icmp_ne 195 dX9_read_170 (by decide) (fun _ => ?_) (fun hz => absurd hz (n6))
  refine zw_iinc (nI (i + 1)) [_, _, _, _, _] dX9_read_195 rfl (nI_1 i) rfl ?_
  refine zw_goto 48 dX9_read_198 (by decide) ?_
  refine zw_aload_n dX9_read_48 rfl ?_
  refine zw_get dX9_read_49 fX9_150 h.1 rfl ?_
  refine zw_iconst dX9_read_52 (-1) (by decide) ?_
  refine zw_icmp_ne 201 dX9_read_53 (by decide) (fun _ => ?_) (fun hz => absurd hz (n6))
  exact m_rdE (D := fun _ => (0, fun _ => 0)) (rf := 0) hK hA hR h1 h ho (Or.inl ⟨f, hf, e6, er⟩)
theorem numsF_ge : ∀ (k i : Nat) (s : TSt), s.1.2.1 ≤ len → s.1.2.1 ≤ (numsF bt len i k s).2.1.2.1
  | 0, i, s, h => Nat.le_refl _
  | k + 1, i, s, h => by
    unfold numsF
    have t := tokS_le (bt := bt) (va := s.1.2.2.2) h
    split
    · have := numsF_ge k (i + 1) (tokS bt len s.1.2.1 s.1.2.2.2, upd s.2 i (tokS bt len s.1.2.1 s.1.2.2.2).2.2.2) t.2.1
      dsimp only at this ⊢
      omega
    · dsimp only
      omega
theorem due_w : ∀ wd, wd < 5 → dueN wd = (if nI wd = 4 then 4 else if 2 ≤ nI wd then 2 else 3) := by decide +kernel
theorem m_rdL {w0 : ZW} {A0 : Nat → Nat → Int32} {I0 : Nat → Int32} {r : Option Cup × Int32} (ht0 : txtM A0 I0 bt len) (hK : ∀ w' A' I', I' 0 = nI 0 → I' 1 = I0 1 → (∀ r, ¬ r = 0 → ¬ r = 4 → A' r = A0 r) → (∀ j, 217 ≤ j → j < 651 → A' 0 j = A0 0 j) → (r.1 = none → ∀ j, j < 217 → A' 0 j = A0 0 j) → (∀ D', r.1 = some D' → rel D' (vw A' 0)) → isM w' A' I' ab be → zOff 74 89 w0 w' → Q (some (.int r.2)) w') : ∀ (k i : Nat) (rf : Int32) (D : Cup) (s : TSt) (A : Nat → Nat → Int32) (I : Nat → Int32) (w : ZW) (o2 o3 o4 : Option Value), i + k = 150 → rdR bt len k i rf D s r → I 0 = nI 651 → I 6 = -1 → I 7 = rf → (∃ e va, e ≤ len ∧ s.1 = tokS bt len e va) → i ≤ s.1.1 → tkM I len s.1 → (rf = -1 → rel D (vw A 651)) → (∀ j, j < 651 → A 0 j = A0 0 j) → (∀ r, ¬ r = 0 → ¬ r = 4 → A r = A0 r) → I 1 = I0 1 → isM w A I ab be → zOff 74 89 w0 w → Zw (d + 8) mX9_read z0 48 [some (.ref 74), some (.int (nI i)), o2, o3, o4] [] w Q := by
  have hl150 := ht0.2.1
  intro k
  induction k with
  | zero =>
    intro i rf D s A I w o2 o3 o4 hi hrd e0 e6 e7 ⟨e, va, he, es⟩ hp hT hrel hA hR h1 h ho
    have h3 : s.1.2.2.1 = 3 := by
      rw [es]
      refine (tok_go he).2 ?_
      rw [← es]
      omega
    obtain ⟨T1, T2, T3, T4, T5⟩ := hT
    refine zw_aload_n dX9_read_48 rfl ?_
    refine zw_get dX9_read_49 fX9_150 h.1 rfl ?_
    refine zw_iconst dX9_read_52 (-1) (by decide) ?_
    refine zw_icmp_ne 201 dX9_read_53 (by decide) (fun hz => absurd (e6) hz) (fun _ => ?_)
    refine zw_aload_n dX9_read_56 rfl ?_
    refine zw_get dX9_read_57 fX9_144 h.1 rfl ?_
    refine zw_bipush dX9_read_60 7 (by decide) ?_
    refine zw_icmp_eq 201 dX9_read_62 (by decide) (fun _ => ?_) (fun hz => absurd ((by rw [T3, h3]; rfl)) hz)
    exact m_rdE (D := D) (rf := rf) hK hA hR h1 h ho (Or.inr ⟨e6, e7, hrd, hrel⟩)
  | succ k ih =>
    intro i rf D s A I w o2 o3 o4 hi hrd e0 e6 e7 ⟨e, va, he, es⟩ hp hT hrel hA hR h1 h ho
    have hT0 := hT
    obtain ⟨T1, T2, T3, T4, T5⟩ := hT
    have sA := sor_all (bt := bt) (len := len) (e := e) (va := va)
    rw [← es] at sA
    have ht : txtM A I bt len := ⟨h1.trans ht0.1, ht0.2.1, fun i hi => by rw [hR 3 (by decide) (by decide)]; exact ht0.2.2 i hi⟩
    refine zw_aload_n dX9_read_48 rfl ?_
    refine zw_get dX9_read_49 fX9_150 h.1 rfl ?_
    refine zw_iconst dX9_read_52 (-1) (by decide) ?_
    refine zw_icmp_ne 201 dX9_read_53 (by decide) (fun hz => absurd (e6) hz) (fun _ => ?_)
    refine zw_aload_n dX9_read_56 rfl ?_
    refine zw_get dX9_read_57 fX9_144 h.1 rfl ?_
    refine zw_bipush dX9_read_60 7 (by decide) ?_
    rcases hrd with ⟨h3, er⟩ | ⟨h3, hrd⟩
    · refine zw_icmp_eq 201 dX9_read_62 (by decide) (fun _ => ?_) (fun hz => absurd ((T3.trans (sA.2.2.1.mpr h3))) hz)
      exact m_rdE (D := D) (rf := rf) hK hA hR h1 h ho (Or.inr ⟨e6, e7, er, hrel⟩)
    · refine zw_icmp_eq 201 dX9_read_62 (by decide) (fun hz => absurd hz ((fun z => h3 (sA.2.2.1.mp (T3.symm.trans z))))) (fun _ => ?_)
      refine zw_aload_n dX9_read_65 rfl ?_
      refine zw_get dX9_read_66 fX9_144 h.1 rfl ?_
      refine zw_istore_n [_, _, _, _, _] dX9_read_69 (Nat.le_of_ble_eq_true rfl) rfl ?_
      refine zw_aload_n dX9_read_70 rfl ?_
      refine zw_iload_n dX9_read_71 rfl ?_
      refine zw_iconst dX9_read_72 4 (by decide) ?_
      rcases hrd with ⟨hn0, er⟩ | ⟨h0, wd, hwd, ewd, hrd⟩
      · have hgt : ¬ I 4 ≤ 4 := fun z => hn0 (sA.2.2.2.mp (by rw [← T3]; exact z))
        refine zw_icmp_gt 80 dX9_read_73 (by decide) (fun _ => ?_) (fun hz => absurd ((Int32.not_le.mp hgt)) hz)
        refine zw_iconst dX9_read_80 0 (by decide) ?_
        refine zw_cV1 dX9_read_81 oX9_due kX9_due lX9_159 h.1 rfl (Nat.le_of_ble_eq_true rfl) rfl (m_due (p := false) 0 h ht T1 T5 (fun z => absurd e6 z) (fun _ z => absurd z (by decide)) (fun _ _ w1 g1 o1 => ?_))
        refine m_rd84 (N := 2) (by rw [if_neg (fun z => hgt (by rw [z]; decide)), if_pos (Int32.le_trans (by decide) (Int32.le_of_lt (Int32.not_le.mp hgt)))]) ?_
        have n3 : ¬ I 3 = -1 := by rw [T2]; exact nI_nm1 (by have := (tokS_le (bt := bt) (va := va) he); rw [← es] at this; omega)
        refine m_gvF (I := va_up I 6 (I 3)) (A0 := A) (by decide) n3 T1 T5 (fun w2 A2 o4 z1 z2 z3 => ?_) 2 0 A w1 (by decide) ⟨h1.trans ht0.1, ht.2⟩ (fun _ _ => rfl) g1 (ho.tr o1)
        exact m_rdF (I := va_up I 6 (I 3)) (f := s.1.1) hK ht0 (fun j hj => by rw [z1 0 (by decide)]; exact hA j hj) (fun r a1 a2 => (z1 r a2).trans (hR r a1 a2)) h1 z2 z3 (by have := (tokS_le (bt := bt) (va := va) he); rw [← es] at this; omega) T2 T1 T5 er
      · have nt3 : ¬ s.1.2.2.1 = 3 := h3
        have hle : I 4 ≤ 4 := by rw [T3]; exact sA.2.2.2.mpr h0
        have x4 : I 4 = nI wd := by
          rw [T3]
          unfold sorM
          rw [if_pos h0]
          exact ewd
        refine zw_icmp_gt 80 dX9_read_73 (by decide) (fun hz => absurd hz ((Int32.not_lt.mpr hle))) (fun _ => ?_)
        refine zw_iconst dX9_read_76 1 (by decide) ?_
        refine zw_goto 81 dX9_read_77 (by decide) ?_
        refine zw_cV1 dX9_read_81 oX9_due kX9_due lX9_159 h.1 rfl (Nat.le_of_ble_eq_true rfl) rfl (m_due (p := true) s.1.2.2.2 h ht T1 T5 (fun z => absurd e6 z) (fun _ _ w1 I1 g1 gT h2 o1 => ?_) (fun _ z => absurd z (by decide)))
        have i1 : I1 1 = I0 1 := (g1 1 (by decide) (by decide) (by decide) (by decide)).trans h1
        refine m_rd84 (N := dueN wd) (by rw [x4]; exact due_w wd hwd) ?_
        refine m_gv (A0 := A) (I0 := I1) (R := numsF bt len 0 (dueN wd) s) (by unfold dueN; split; decide; split <;> decide) ⟨i1.trans ht0.1, ht.2⟩ (fun hR1 w2 A2 I2 o4 q6 qT qle q4 qA qI h3 o2 => ?_) (fun hR1 w2 A2 I2 o4 e2 q6 qle q2 qe qA qI h3 o2 => ?_) (dueN wd) 0 s A I1 w1 (by omega) rfl ((g1 6 (by decide) (by decide) (by decide) (by decide)).trans e6) T5 gT (fun i hi => absurd hi (Nat.not_lt_zero _)) (fun _ _ => rfl) (fun _ _ _ _ _ _ => rfl) h2 (ho.tr o1)
        · have et : takeF bt len wd s = (decide ((tokS bt len (numsF bt len 0 (dueN wd) s).2.1.2.1 (numsF bt len 0 (dueN wd) s).2.1.2.2.2).2.2.1 = 2), (tokS bt len (numsF bt len 0 (dueN wd) s).2.1.2.1 (numsF bt len 0 (dueN wd) s).2.1.2.2.2, (numsF bt len 0 (dueN wd) s).2.2)) := by
            unfold takeF
            rw [if_pos hR1]
          rw [et] at hrd
          have sB := sor_all (bt := bt) (len := len) (e := (numsF bt len 0 (dueN wd) s).2.1.2.1) (va := (numsF bt len 0 (dueN wd) s).2.1.2.2.2)
          have tl := tokS_le (bt := bt) (va := (numsF bt len 0 (dueN wd) s).2.1.2.2.2) qle
          obtain ⟨U1, U2, U3, U4, U5⟩ := qT
          have hA2 : ∀ j, j < 651 → A2 0 j = A0 0 j := fun j hj => by rw [qA 0 (by decide)]; exact hA j hj
          have hR2 : ∀ r, ¬ r = 0 → ¬ r = 4 → A2 r = A0 r := fun r a1 a2 => (qA r a2).trans (hR r a1 a2)
          have i2 : I2 1 = I0 1 := (qI 1 (by decide) (by decide) (by decide) (by decide) (by decide)).trans i1
          have ht2 : txtM A2 I2 bt len := ⟨i2.trans ht0.1, ht0.2.1, fun i hi => by rw [hR2 3 (by decide) (by decide)]; exact ht0.2.2 i hi⟩
          refine zw_aload_n dX9_read_147 rfl ?_
          refine zw_aload_n dX9_read_148 rfl ?_
          refine zw_get dX9_read_149 fX9_144 h3.1 rfl ?_
          refine zw_bipush dX9_read_152 6 (by decide) ?_
          by_cases q : (tokS bt len (numsF bt len 0 (dueN wd) s).2.1.2.1 (numsF bt len 0 (dueN wd) s).2.1.2.2.2).2.2.1 = 2
          · refine zw_icmp_ne 161 dX9_read_154 (by decide) (fun hz => absurd ((U3.trans (sB.2.1.mpr q))) hz) (fun _ => ?_)
            refine zw_iconst dX9_read_157 1 (by decide) ?_
            refine zw_goto 162 dX9_read_158 (by decide) ?_
            refine zw_cV1 dX9_read_162 oX9_due kX9_due lX9_159 h3.1 rfl (Nat.le_of_ble_eq_true rfl) rfl (m_due (p := true) (tokS bt len (numsF bt len 0 (dueN wd) s).2.1.2.1 (numsF bt len 0 (dueN wd) s).2.1.2.2.2).2.2.2 h3 ht2 U1 U5 (fun z => absurd q6 z) (fun _ _ w3 I3 g3 gU h4 o3 => ?_) (fun _ z => absurd z (by decide)))
            have i36 : I3 6 = -1 := (g3 6 (by decide) (by decide) (by decide) (by decide)).trans q6
            have i37 : I3 7 = rf := (g3 7 (by decide) (by decide) (by decide) (by decide)).trans ((qI 7 (by decide) (by decide) (by decide) (by decide) (by decide)).trans ((g1 7 (by decide) (by decide) (by decide) (by decide)).trans e7))
            have i30 : I3 0 = nI 651 := (g3 0 (by decide) (by decide) (by decide) (by decide)).trans ((qI 0 (by decide) (by decide) (by decide) (by decide) (by decide)).trans ((g1 0 (by decide) (by decide) (by decide) (by decide)).trans e0))
            have i31 : I3 1 = I0 1 := (g3 1 (by decide) (by decide) (by decide) (by decide)).trans i2
            have ge := numsF_ge (bt := bt) (len := len) (dueN wd) 0 s T5
            have nt := tokS_le (bt := bt) (va := (tokS bt len (numsF bt len 0 (dueN wd) s).2.1.2.1 (numsF bt len 0 (dueN wd) s).2.1.2.2.2).2.2.2) U5
            have go := (tok_go (bt := bt) (va := va) he).1
            rw [← es] at go
            have prog : i + 1 ≤ (tokS bt len (tokS bt len (numsF bt len 0 (dueN wd) s).2.1.2.1 (numsF bt len 0 (dueN wd) s).2.1.2.2.2).2.1 (tokS bt len (numsF bt len 0 (dueN wd) s).2.1.2.1 (numsF bt len 0 (dueN wd) s).2.1.2.2.2).2.2.2).1 := by
              have := go.resolve_left nt3
              omega
            have hrel2 : rf = -1 → rel D (vw A2 651) := fun z => by
              show rel D (fun j => A2 0 (651 + j))
              rw [qA 0 (by decide)]
              exact hrel z
            rcases hrd with ⟨z, _⟩ | ⟨_, hrd⟩
            · rw [decide_eq_true q] at z; exact absurd (show true = false from z) (by decide)
            · refine zw_aload_n dX9_read_165 rfl ?_
              refine zw_get dX9_read_166 fX9_150 h4.1 rfl ?_
              refine zw_iconst dX9_read_169 (-1) (by decide) ?_
              refine zw_icmp_ne 195 dX9_read_170 (by decide) (fun hz => absurd (i36) hz) (fun _ => ?_)
              refine zw_aload_n dX9_read_173 rfl ?_
              refine zw_get dX9_read_174 fX9_156 h4.1 rfl ?_
              refine zw_iconst dX9_read_177 (-1) (by decide) ?_
              rcases hrd with ⟨hrf, hrd⟩ | ⟨hrf, v, D', htel, hrd⟩
              · refine zw_icmp_ne 195 dX9_read_178 (by decide) (fun _ => ?_) (fun hz => absurd hz ((fun z => hrf (i37.symm.trans z))))
                refine zw_iinc (nI (i + 1)) [_, _, _, _, _] dX9_read_195 rfl (nI_1 i) rfl ?_
                refine zw_goto 48 dX9_read_198 (by decide) ?_
                exact ih (i + 1) rf D _ A2 I3 w3 _ _ _ (by omega) hrd i30 i36 i37 ⟨_, _, U5, rfl⟩ prog gU hrel2 hA2 hR2 i31 h4 (o2.tr o3)
              · refine zw_icmp_ne 195 dX9_read_178 (by decide) (fun hz => absurd ((i37.trans hrf)) hz) (fun _ => ?_)
                refine zw_aload_n dX9_read_181 rfl ?_
                refine zw_iload_n dX9_read_182 rfl ?_
                refine zw_top (y := nI wd) x4 ?_
                refine zw_cV1 dX9_read_183 oX9_doItem kX9_doItem lX9_163 h4.1 rfl (Nat.le_of_ble_eq_true rfl) rfl (m_item (D := D) h4 i30 (hrel2 hrf) htel q4 (fun w4 A4 r4 a4 b4 h5 o5 => ?_))
                have tm := tel_m1 (hrel2 hrf) htel
                have hA4 : ∀ j, j < 651 → A4 0 j = A0 0 j := fun j hj => (a4 j hj).trans (hA2 j hj)
                have hR4 : ∀ r, ¬ r = 0 → ¬ r = 4 → A4 r = A0 r := fun r a1 a2 => (b4 r a1).trans (hR2 r a1 a2)
                refine zw_iconst dX9_read_186 (-1) (by decide) ?_
                by_cases hv : v < 0
                · rw [if_pos hv] at hrd
                  refine zw_icmp_ge 195 dX9_read_187 (by decide) (fun hz => absurd hz ((fun z => tm.mp z hv))) (fun _ => ?_)
                  refine zw_aload_n dX9_read_190 rfl ?_
                  refine zw_iload_n dX9_read_191 rfl ?_
                  refine zw_put dX9_read_192 pX9_156 h5.1 (fun _ => rfl) (fun _ => rfl) (Nat.le_of_ble_eq_true rfl) ?_
                  refine zw_iinc (nI (i + 1)) [_, _, _, _, _] dX9_read_195 rfl (nI_1 i) rfl ?_
                  refine zw_goto 48 dX9_read_198 (by decide) ?_
                  exact ih (i + 1) (nI i) D' _ A4 (va_up I3 7 (nI i)) _ _ _ _ (by omega) hrd i30 i36 rfl ⟨_, _, U5, rfl⟩ prog gU (fun z => absurd z (nI_nm1 (by omega))) hA4 hR4 i31 (h5.ob (I' := va_up I3 7 (nI i))) (((o2.tr o3).tr o5).tr (zOff.pt (by decide) (by decide)))
                · rw [if_neg hv] at hrd
                  refine zw_icmp_ge 195 dX9_read_187 (by decide) (fun _ => ?_) (fun hz => absurd ((tm.mpr hv)) hz)
                  refine zw_iinc (nI (i + 1)) [_, _, _, _, _] dX9_read_195 rfl (nI_1 i) rfl ?_
                  refine zw_goto 48 dX9_read_198 (by decide) ?_
                  exact ih (i + 1) (-1) D' _ A4 I3 w4 _ _ _ (by omega) hrd i30 i36 (i37.trans hrf) ⟨_, _, U5, rfl⟩ prog gU (fun _ => r4) hA4 hR4 i31 h5 ((o2.tr o3).tr o5)
          · refine zw_icmp_ne 161 dX9_read_154 (by decide) (fun _ => ?_) (fun hz => absurd hz ((fun z => q (sB.2.1.mp (U3.symm.trans z)))))
            refine zw_iconst dX9_read_161 0 (by decide) ?_
            refine zw_cV1 dX9_read_162 oX9_due kX9_due lX9_159 h3.1 rfl (Nat.le_of_ble_eq_true rfl) rfl (m_due (p := false) 0 h3 ht2 U1 U5 (fun z => absurd q6 z) (fun _ z => absurd z (by decide)) (fun _ _ w3 h4 o3 => ?_))
            rcases hrd with ⟨_, er⟩ | ⟨z, _⟩
            · exact m_rdG (I := va_up I2 6 (I2 3)) (f := (tokS bt len (numsF bt len 0 (dueN wd) s).2.1.2.1 (numsF bt len 0 (dueN wd) s).2.1.2.2.2).1) hK hA2 hR2 i2 h4 (o2.tr o3) (by omega) U2 er
            · exact absurd (of_decide_eq_true z) q
        · have et : takeF bt len wd s = numsF bt len 0 (dueN wd) s := by
            unfold takeF
            rw [if_neg (by rw [hR1]; decide)]
          rw [et] at hrd
          rcases hrd with ⟨_, er⟩ | ⟨z, _⟩
          · exact m_rdF (I := I2) (f := (numsF bt len 0 (dueN wd) s).2.1.1) hK ht0 (fun j hj => by rw [qA 0 (by decide)]; exact hA j hj) (fun r a1 a2 => (qA r a2).trans (hR r a1 a2)) ((qI 1 (by decide) (by decide) (by decide) (by decide) (by decide)).trans i1) h3 o2 (by omega) q6 q2 qe er
          · rw [hR1] at z; exact absurd z (by decide)
end ZRL
