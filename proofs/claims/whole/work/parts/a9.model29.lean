/-! ===== the Model: the next token ===== -/
def spB (c : Int32) : Bool := decide (c = 32)
def mcd (bt : Nat → Int32) (s a k : Nat) (cd : Int32) : Int32 := match k with
  | 0 => cd
  | k + 1 => mcd bt s (a + 1) k (if a - s < 5 then 27 * cd + bt a - 96 else 0)
def mnv (bt : Nat → Int32) (s a k : Nat) (v : Int32) : Int32 := match k with
  | 0 => v
  | k + 1 => mnv bt s (a + 1) k (if a - s < 2 then 10 * v + bt a - 48 else 0)
def meanW (c : Int32) : Int32 := if c = 419 then 2 else if c = 1887 then 0 else if c = 8995 then 1 else if c = 385418 then 4 else if c = 4075639 then 3 else 8
/-- the token behind place e, by the Model: where it begins, where it ends, its sort, its value -/
def mTk (bt : Nat → Int32) (len e : Nat) : Nat × Nat × Int32 × Int32 :=
  if len ≤ endF spB bt e (len - e) then (endF spB bt e (len - e), endF spB bt e (len - e), 7, 0)
  else (fun s => if letB (bt s) = true then (fun q => (s, q, if 5 < q - s then 8 else meanW (mcd bt s s (q - s) 0), 0)) (endF letB bt s (len - s))
    else if figB (bt s) = true then (fun q => (s, q, if 2 < q - s then 8 else 5, mnv bt s s (q - s) 0)) (endF figB bt s (len - s))
    else (s, s + 1, if bt s = 59 then 6 else 8, 0)) (endF spB bt e (len - e))
/-- the text, as the Model has it -/
def txtM (A : Nat → Nat → Int32) (I : Nat → Int32) (bt : Nat → Int32) (len : Nat) : Prop := I 1 = nI len ∧ len ≤ 150 ∧ ∀ i, i < len → A 3 i = bt i ∧ ∃ c, c < 128 ∧ bt i = nI c
theorem and255 : ∀ c, c < 128 → nI c &&& 255 = nI c := by decide +kernel
section ZMOD29
variable {d : Nat} {w w' : ZW} {A : Nat → Nat → Int32} {I : Nat → Int32} {ab be : Int64} {Q : Option Value → ZW → Prop} {bt : Nat → Int32} {len : Nat}
theorem txtM.go {I' : Nat → Int32} (h : txtM A I bt len) (e : I' 1 = I 1) : txtM A I' bt len := ⟨e.trans h.1, h.2⟩
theorem m_here {e : Nat} (h : isM w A I ab be) (ht : txtM A I bt len) (h2 : I 2 = nI e) (he : e ≤ len) (k : Q (some (.int (byA bt len e))) w) : Zm d mX9_here 0 0 [.ref 74] w Q := by
  obtain ⟨t1, t2, t3⟩ := ht
  unfold byA at k
  refine zm_intro [_] oX9_here (Nat.le_of_ble_eq_true rfl) rfl ?_
  refine zw_aload_n dX9_here_0 rfl ?_
  refine zw_get dX9_here_1 fX9_132 h.1 rfl ?_
  refine zw_top (h2) ?_
  refine zw_aload_n dX9_here_4 rfl ?_
  refine zw_get dX9_here_5 fX9_129 h.1 rfl ?_
  refine zw_top (t1) ?_
  by_cases hl : e < len
  · rw [if_pos hl] at k
    obtain ⟨q1, c, q2, q3⟩ := t3 e hl
    refine zw_icmp_ge 27 dX9_here_8 (by decide) (fun hz => absurd hz (nI_ge hl (by omega))) (fun _ => ?_)
    refine zw_aload_n dX9_here_11 rfl ?_
    refine zw_get dX9_here_12 fX9_20 h.1 rfl ?_
    refine zw_aload_n dX9_here_15 rfl ?_
    refine zw_get dX9_here_16 fX9_132 h.1 rfl ?_
    refine zw_top (h2) ?_
    refine zw_bald dX9_here_19 h.q3 (vp_in_nI (n := e) (N := 150) (by omega) (by decide)) ?_
    rw [nI_clamp (by omega), q1, q3]
    rw [q3] at k
    refine zw_sipush dX9_here_20 255 (by decide) ?_
    refine zw_iand dX9_here_23 ?_
    refine zw_top (and255 c q2) ?_
    refine zw_goto 28 dX9_here_24 (by decide) ?_
    refine zw_ireturn .int dX9_here_28 rfl rfl (Nat.le_refl _) (Nat.le_refl _) ?_
    exact k
  · rw [if_neg hl] at k
    refine zw_icmp_ge 27 dX9_here_8 (by decide) (fun _ => ?_) (fun hz => absurd (nI_le (by omega) (by omega)) hz)
    refine zw_iconst dX9_here_27 (-1) (by decide) ?_
    refine zw_ireturn .int dX9_here_28 rfl rfl (Nat.le_refl _) (Nat.le_refl _) ?_
    exact k
theorem m_meaning {x : Int32} (k : Q (some (.int (meanW x))) w) : Zm d mX9_meaning 0 0 [.int x] w Q := by
  unfold meanW at k
  refine zm_intro [_] oX9_meaning (Nat.le_of_ble_eq_true rfl) rfl ?_
  refine zw_iload_n dX9_meaning_0 rfl ?_
  by_cases e1 : x = 419
  · rw [if_pos e1] at k
    subst e1
    refine zw_lookup 56 dX9_meaning_1 (by decide) (off := 55) (by decide) (by decide) ?_
    refine zw_iconst dX9_meaning_56 2 (by decide) ?_
    refine zw_ireturn .int dX9_meaning_57 rfl rfl (Nat.le_refl _) (Nat.le_refl _) ?_
    exact k
  · rw [if_neg e1] at k
    by_cases e2 : x = 1887
    · rw [if_pos e2] at k
      subst e2
      refine zw_lookup 52 dX9_meaning_1 (by decide) (off := 51) (by decide) (by decide) ?_
      refine zw_iconst dX9_meaning_52 0 (by decide) ?_
      refine zw_ireturn .int dX9_meaning_53 rfl rfl (Nat.le_refl _) (Nat.le_refl _) ?_
      exact k
    · rw [if_neg e2] at k
      by_cases e3 : x = 8995
      · rw [if_pos e3] at k
        subst e3
        refine zw_lookup 54 dX9_meaning_1 (by decide) (off := 53) (by decide) (by decide) ?_
        refine zw_iconst dX9_meaning_54 1 (by decide) ?_
        refine zw_ireturn .int dX9_meaning_55 rfl rfl (Nat.le_refl _) (Nat.le_refl _) ?_
        exact k
      · rw [if_neg e3] at k
        by_cases e4 : x = 385418
        · rw [if_pos e4] at k
          subst e4
          refine zw_lookup 60 dX9_meaning_1 (by decide) (off := 59) (by decide) (by decide) ?_
          refine zw_iconst dX9_meaning_60 4 (by decide) ?_
          refine zw_ireturn .int dX9_meaning_61 rfl rfl (Nat.le_refl _) (Nat.le_refl _) ?_
          exact k
        · rw [if_neg e4] at k
          by_cases e5 : x = 4075639
          · rw [if_pos e5] at k
            subst e5
            refine zw_lookup 58 dX9_meaning_1 (by decide) (off := 57) (by decide) (by decide) ?_
            refine zw_iconst dX9_meaning_58 3 (by decide) ?_
            refine zw_ireturn .int dX9_meaning_59 rfl rfl (Nat.le_refl _) (Nat.le_refl _) ?_
            exact k
          · rw [if_neg e5] at k
            have ho : Op.lookupswitch.offset [((419 : Int), (55 : Int)), (1887, 51), (8995, 53), (385418, 59), (4075639, 57)] 61 x.toInt = 61 := by
              rw [lv_osw (k := 419) e1 (by decide), lv_osw (k := 1887) e2 (by decide), lv_osw (k := 8995) e3 (by decide), lv_osw (k := 385418) e4 (by decide), lv_osw (k := 4075639) e5 (by decide)]
              rfl
            refine zw_lookup 62 dX9_meaning_1 (by decide) (off := 61) ho (by decide) ?_
            refine zw_bipush dX9_meaning_62 8 (by decide) ?_
            refine zw_ireturn .int dX9_meaning_64 rfl rfl (Nat.le_refl _) (Nat.le_refl _) ?_
            exact k
/-- the numbers of the Model, but those of the token -/
def sI (I I' : Nat → Int32) : Prop := ∀ i, ¬ i = 2 → ¬ i = 3 → ¬ i = 4 → ¬ i = 5 → I' i = I i
theorem m_nx1 {s : Nat} {w0 : ZW} {I0 : Nat → Int32} (hK : ∀ w I, sI I0 I → I 2 = nI s → isM w A I ab be → zOff 74 89 w0 w → Zw (d + 1) mX9_next z0 22 [some (.ref 74), none, none] [] w Q) (ht : txtM A I0 bt len) : ∀ (k a : Nat) (I : Nat → Int32) (w : ZW), a + k = len → endF spB bt a k = s → sI I0 I → I 2 = nI a → isM w A I ab be → zOff 74 89 w0 w → Zw (d + 1) mX9_next z0 0 [some (.ref 74), none, none] [] w Q := by
  intro k
  induction k with
  | zero =>
    intro a I w hi hE hI h2 h ho
    have hE : a = s := hE
    subst hE
    refine zw_aload_n dX9_next_0 rfl ?_
    refine zw_cV0 dX9_next_1 oX9_here kX9_here lX9_135 h.1 rfl (Nat.le_of_ble_eq_true rfl) rfl (m_here h (ht.go (hI 1 (by decide) (by decide) (by decide) (by decide))) h2 (by omega) ?_)
    show Zw _ _ _ 4 [_, _, _] [_] _ _
    have e : byA bt len a = -1 := by unfold byA; rw [if_neg (by omega)]
    rw [e]
    refine zw_bipush dX9_next_4 32 (by decide) ?_
    refine zw_icmp_ne 22 dX9_next_6 (by decide) (fun _ => ?_) (fun hz => absurd hz (by decide))
    exact hK w I hI h2 h ho
  | succ k ih =>
    intro a I w hi hE hI h2 h ho
    unfold endF at hE
    refine zw_aload_n dX9_next_0 rfl ?_
    refine zw_cV0 dX9_next_1 oX9_here kX9_here lX9_135 h.1 rfl (Nat.le_of_ble_eq_true rfl) rfl (m_here h (ht.go (hI 1 (by decide) (by decide) (by decide) (by decide))) h2 (by omega) ?_)
    show Zw _ _ _ 4 [_, _, _] [_] _ _
    have e : byA bt len a = bt a := by unfold byA; rw [if_pos (by omega)]
    rw [e]
    refine zw_bipush dX9_next_4 32 (by decide) ?_
    by_cases e1 : bt a = 32
    · rw [if_pos (show spB (bt a) = true from decide_eq_true e1)] at hE
      refine zw_icmp_ne 22 dX9_next_6 (by decide) (fun hz => absurd (e1) hz) (fun _ => ?_)
      refine zw_aload_n dX9_next_9 rfl ?_
      refine zw_dup dX9_next_10 rfl ?_
      refine zw_get dX9_next_11 fX9_132 h.1 rfl ?_
      refine zw_iconst dX9_next_14 1 (by decide) ?_
      refine zw_iadd dX9_next_15 ?_
      refine zw_top (y := nI (a + 1)) (by rw [h2, nI_1]) ?_
      refine zw_put dX9_next_16 pX9_132 h.1 (fun _ => rfl) (fun _ => rfl) (Nat.le_of_ble_eq_true rfl) ?_
      refine zw_goto 0 dX9_next_19 (by decide) ?_
      exact ih (a + 1) (va_up I 2 (nI (a + 1))) _ (by omega) hE (fun i a1 a2 a3 a4 => by show va_up I 2 (nI (a + 1)) i = _; unfold va_up; rw [if_neg a1]; exact hI i a1 a2 a3 a4) rfl (h.ob (I' := va_up I 2 (nI (a + 1)))) (ho.tr (zOff.pt (by decide) (by decide)))
    · rw [if_neg (by unfold spB; simpa using e1)] at hE
      subst hE
      refine zw_icmp_ne 22 dX9_next_6 (by decide) (fun _ => ?_) (fun hz => absurd hz (e1))
      exact hK w I hI h2 h ho
theorem m_nx2 {s q : Nat} {w0 : ZW} {I0 : Nat → Int32} {c V : Int32} (hsl : s ≤ len) (hK : ∀ w I, sI I0 I → I 2 = nI q → I 3 = nI s → I 5 = 0 → isM w A I ab be → zOff 74 89 w0 w → Zw (d + 1) mX9_next z0 123 [some (.ref 74), some (.int c), some (.int V)] [] w Q) (ht : txtM A I0 bt len) : ∀ (k a : Nat) (cd : Int32) (I : Nat → Int32) (w : ZW), a + k = len → s ≤ a → endF letB bt a k = q → mcd bt s a (q - a) cd = V → sI I0 I → I 2 = nI a → I 3 = nI s → I 5 = 0 → isM w A I ab be → zOff 74 89 w0 w → Zw (d + 1) mX9_next z0 66 [some (.ref 74), some (.int c), some (.int cd)] [] w Q := by
  intro k
  induction k with
  | zero =>
    intro a cd I w hi hsa hE hV hI h2 h3 h5 h ho
    have hE : a = q := hE
    subst hE
    rw [Nat.sub_self] at hV
    have hV : cd = V := hV
    subst hV
    refine zw_aload_n dX9_next_66 rfl ?_
    refine zw_cV0 dX9_next_67 oX9_here kX9_here lX9_135 h.1 rfl (Nat.le_of_ble_eq_true rfl) rfl (m_here h (ht.go (hI 1 (by decide) (by decide) (by decide) (by decide))) h2 (by omega) ?_)
    show Zw _ _ _ 70 [_, _, _] [_] _ _
    have e : byA bt len a = -1 := by unfold byA; rw [if_neg (by omega)]
    rw [e]
    refine zw_bipush dX9_next_70 97 (by decide) ?_
    refine zw_bipush dX9_next_72 122 (by decide) ?_
    refine zw_cS3 dX9_next_74 oX9_in kX9_in lX9_66 (Nat.le_of_ble_eq_true rfl) rfl (m_in (fun q1 q2 => absurd q1 (by decide)) (fun _ => ?_))
    show Zw _ _ _ 77 [_, _, _] [_] _ _
    refine zw_if_eq 123 dX9_next_77 (by decide) (fun _ => ?_) (fun hz => absurd (by decide) hz)
    exact hK w I hI h2 h3 h5 h ho
  | succ k ih =>
    intro a cd I w hi hsa hE hV hI h2 h3 h5 h ho
    unfold endF at hE
    have ht' := ht.go (hI 1 (by decide) (by decide) (by decide) (by decide))
    have e : byA bt len a = bt a := by unfold byA; rw [if_pos (by omega)]
    refine zw_aload_n dX9_next_66 rfl ?_
    refine zw_cV0 dX9_next_67 oX9_here kX9_here lX9_135 h.1 rfl (Nat.le_of_ble_eq_true rfl) rfl (m_here h ht' h2 (by omega) ?_)
    show Zw _ _ _ 70 [_, _, _] [_] _ _
    rw [e]
    refine zw_bipush dX9_next_70 97 (by decide) ?_
    refine zw_bipush dX9_next_72 122 (by decide) ?_
    refine zw_cS3 dX9_next_74 oX9_in kX9_in lX9_66 (Nat.le_of_ble_eq_true rfl) rfl (m_in (fun q1 q2 => ?_) (fun z => ?_))
    · have el : letB (bt a) = true := by unfold letB; rw [decide_eq_true q1, decide_eq_true q2]; rfl
      rw [if_pos el] at hE
      have hle := endF_le letB bt k (a + 1)
      have hq1 : q - a = (q - (a + 1)) + 1 := by omega
      rw [hq1] at hV
      unfold mcd at hV
      have fin : ∀ y, y = (if a - s < 5 then 27 * cd + bt a - 96 else 0) → Zw (d + 1) mX9_next z0 109 [some (.ref 74), some (.int c), some (.int cd)] [.int y] w Q := by
        intro y hy
        rw [← hy] at hV
        refine zw_istore_n [_, _, _] dX9_next_109 (Nat.le_of_ble_eq_true rfl) rfl ?_
        refine zw_aload_n dX9_next_110 rfl ?_
        refine zw_dup dX9_next_111 rfl ?_
        refine zw_get dX9_next_112 fX9_132 h.1 rfl ?_
        refine zw_iconst dX9_next_115 1 (by decide) ?_
        refine zw_iadd dX9_next_116 ?_
        refine zw_top (y := nI (a + 1)) (by rw [h2, nI_1]) ?_
        refine zw_put dX9_next_117 pX9_132 h.1 (fun _ => rfl) (fun _ => rfl) (Nat.le_of_ble_eq_true rfl) ?_
        refine zw_goto 66 dX9_next_120 (by decide) ?_
        exact ih (a + 1) y (va_up I 2 (nI (a + 1))) _ (by omega) (by omega) hE hV (fun i a1 a2 a3 a4 => by show va_up I 2 (nI (a + 1)) i = _; unfold va_up; rw [if_neg a1]; exact hI i a1 a2 a3 a4) rfl h3 h5 (h.ob (I' := va_up I 2 (nI (a + 1)))) (ho.tr (zOff.pt (by decide) (by decide)))
      show Zw _ _ _ 77 [_, _, _] [_] _ _
      refine zw_if_eq 123 dX9_next_77 (by decide) (fun hz => absurd hz (by decide)) (fun _ => ?_)
      refine zw_aload_n dX9_next_80 rfl ?_
      refine zw_get dX9_next_81 fX9_132 h.1 rfl ?_
      refine zw_aload_n dX9_next_84 rfl ?_
      refine zw_get dX9_next_85 fX9_138 h.1 rfl ?_
      refine zw_isub dX9_next_88 ?_
      refine zw_top (y := nI (a - s)) (by rw [h2, h3, pk_sub hsa]) ?_
      refine zw_iconst dX9_next_89 5 (by decide) ?_
      have hal : len ≤ 150 := ht.2.1
      by_cases e5 : a - s < 5
      · rw [if_pos e5] at fin
        refine zw_icmp_ge 108 dX9_next_90 (by decide) (fun hz => absurd hz (nI_ge (b := 5) e5 (by decide))) (fun _ => ?_)
        refine zw_bipush dX9_next_93 27 (by decide) ?_
        refine zw_iload_n dX9_next_95 rfl ?_
        refine zw_imul dX9_next_96 ?_
        refine zw_aload_n dX9_next_97 rfl ?_
        refine zw_cV0 dX9_next_98 oX9_here kX9_here lX9_135 h.1 rfl (Nat.le_of_ble_eq_true rfl) rfl (m_here h ht' h2 (by omega) ?_)
        show Zw _ _ _ 101 [_, _, _] [_, _] _ _
        rw [e]
        refine zw_iadd dX9_next_101 ?_
        refine zw_bipush dX9_next_102 96 (by decide) ?_
        refine zw_isub dX9_next_104 ?_
        refine zw_goto 109 dX9_next_105 (by decide) ?_
        exact fin _ rfl
      · rw [if_neg e5] at fin
        refine zw_icmp_ge 108 dX9_next_90 (by decide) (fun _ => ?_) (fun hz => absurd (nI_le (a := 5) (by omega) (by omega)) hz)
        refine zw_iconst dX9_next_108 0 (by decide) ?_
        exact fin _ rfl
    · have el : ¬ letB (bt a) = true := by
        unfold letB
        intro z'
        have z' := Bool.and_eq_true_iff.mp z'
        exact z ⟨of_decide_eq_true z'.1, of_decide_eq_true z'.2⟩
      rw [if_neg el] at hE
      subst hE
      rw [Nat.sub_self] at hV
      have hV : cd = V := hV
      subst hV
      show Zw _ _ _ 77 [_, _, _] [_] _ _
      refine zw_if_eq 123 dX9_next_77 (by decide) (fun _ => ?_) (fun hz => absurd (by decide) hz)
      exact hK w I hI h2 h3 h5 h ho
theorem m_nx3 {s q : Nat} {w0 : ZW} {I0 : Nat → Int32} {c V : Int32} {o2 : Option Value} (hsl : s ≤ len) (hK : ∀ w I, sI I0 I → I 2 = nI q → I 3 = nI s → I 5 = V → isM w A I ab be → zOff 74 89 w0 w → Zw (d + 1) mX9_next z0 226 [some (.ref 74), some (.int c), o2] [] w Q) (ht : txtM A I0 bt len) : ∀ (k a : Nat) (v : Int32) (I : Nat → Int32) (w : ZW), a + k = len → s ≤ a → endF figB bt a k = q → mnv bt s a (q - a) v = V → sI I0 I → I 2 = nI a → I 3 = nI s → I 5 = v → isM w A I ab be → zOff 74 89 w0 w → Zw (d + 1) mX9_next z0 163 [some (.ref 74), some (.int c), o2] [] w Q := by
  intro k
  induction k with
  | zero =>
    intro a v I w hi hsa hE hV hI h2 h3 h5 h ho
    have hE : a = q := hE
    subst hE
    rw [Nat.sub_self] at hV
    have hV : v = V := hV
    subst hV
    refine zw_aload_n dX9_next_163 rfl ?_
    refine zw_cV0 dX9_next_164 oX9_here kX9_here lX9_135 h.1 rfl (Nat.le_of_ble_eq_true rfl) rfl (m_here h (ht.go (hI 1 (by decide) (by decide) (by decide) (by decide))) h2 (by omega) ?_)
    show Zw _ _ _ 167 [_, _, _] [_] _ _
    have e : byA bt len a = -1 := by unfold byA; rw [if_neg (by omega)]
    rw [e]
    refine zw_bipush dX9_next_167 48 (by decide) ?_
    refine zw_bipush dX9_next_169 57 (by decide) ?_
    refine zw_cS3 dX9_next_171 oX9_in kX9_in lX9_66 (Nat.le_of_ble_eq_true rfl) rfl (m_in (fun q1 q2 => absurd q1 (by decide)) (fun _ => ?_))
    show Zw _ _ _ 174 [_, _, _] [_] _ _
    refine zw_if_eq 226 dX9_next_174 (by decide) (fun _ => ?_) (fun hz => absurd (by decide) hz)
    exact hK w I hI h2 h3 h5 h ho
  | succ k ih =>
    intro a v I w hi hsa hE hV hI h2 h3 h5 h ho
    unfold endF at hE
    have ht' := ht.go (hI 1 (by decide) (by decide) (by decide) (by decide))
    have e : byA bt len a = bt a := by unfold byA; rw [if_pos (by omega)]
    refine zw_aload_n dX9_next_163 rfl ?_
    refine zw_cV0 dX9_next_164 oX9_here kX9_here lX9_135 h.1 rfl (Nat.le_of_ble_eq_true rfl) rfl (m_here h ht' h2 (by omega) ?_)
    show Zw _ _ _ 167 [_, _, _] [_] _ _
    rw [e]
    refine zw_bipush dX9_next_167 48 (by decide) ?_
    refine zw_bipush dX9_next_169 57 (by decide) ?_
    refine zw_cS3 dX9_next_171 oX9_in kX9_in lX9_66 (Nat.le_of_ble_eq_true rfl) rfl (m_in (fun q1 q2 => ?_) (fun z => ?_))
    · have el : figB (bt a) = true := by unfold figB; rw [decide_eq_true q1, decide_eq_true q2]; rfl
      rw [if_pos el] at hE
      have hle := endF_le figB bt k (a + 1)
      have hq1 : q - a = (q - (a + 1)) + 1 := by omega
      rw [hq1] at hV
      unfold mnv at hV
      have fin : ∀ y, y = (if a - s < 2 then 10 * v + bt a - 48 else 0) → Zw (d + 1) mX9_next z0 210 [some (.ref 74), some (.int c), o2] [.int y, .ref 74] w Q := by
        intro y hy
        rw [← hy] at hV
        refine zw_put dX9_next_210 pX9_141 h.1 (fun _ => rfl) (fun _ => rfl) (Nat.le_of_ble_eq_true rfl) ?_
        have h' := h.ob (I' := va_up I 5 y) (ab' := ab) (be' := be)
        refine zw_aload_n dX9_next_213 rfl ?_
        refine zw_dup dX9_next_214 rfl ?_
        refine zw_get dX9_next_215 fX9_132 h'.1 rfl ?_
        refine zw_iconst dX9_next_218 1 (by decide) ?_
        refine zw_iadd dX9_next_219 ?_
        refine zw_top (y := nI (a + 1)) (by show va_up I 5 y 2 + 1 = _; rw [show va_up I 5 y 2 = I 2 from rfl, h2, nI_1]) ?_
        refine zw_put dX9_next_220 pX9_132 h'.1 (fun _ => rfl) (fun _ => rfl) (Nat.le_of_ble_eq_true rfl) ?_
        refine zw_goto 163 dX9_next_223 (by decide) ?_
        exact ih (a + 1) y (va_up (va_up I 5 y) 2 (nI (a + 1))) _ (by omega) (by omega) hE hV (fun i a1 a2 a3 a4 => by show va_up (va_up I 5 y) 2 (nI (a + 1)) i = _; unfold va_up; rw [if_neg a1, if_neg a4]; exact hI i a1 a2 a3 a4) rfl h3 rfl (h'.ob (I' := va_up (va_up I 5 y) 2 (nI (a + 1)))) ((ho.tr (zOff.pt (by decide) (by decide))).tr (zOff.pt (by decide) (by decide)))
      show Zw _ _ _ 174 [_, _, _] [_] _ _
      refine zw_if_eq 226 dX9_next_174 (by decide) (fun hz => absurd hz (by decide)) (fun _ => ?_)
      refine zw_aload_n dX9_next_177 rfl ?_
      refine zw_aload_n dX9_next_178 rfl ?_
      refine zw_get dX9_next_179 fX9_132 h.1 rfl ?_
      refine zw_aload_n dX9_next_182 rfl ?_
      refine zw_get dX9_next_183 fX9_138 h.1 rfl ?_
      refine zw_isub dX9_next_186 ?_
      refine zw_top (y := nI (a - s)) (by rw [h2, h3, pk_sub hsa]) ?_
      refine zw_iconst dX9_next_187 2 (by decide) ?_
      have hal : len ≤ 150 := ht.2.1
      by_cases e5 : a - s < 2
      · rw [if_pos e5] at fin
        refine zw_icmp_ge 209 dX9_next_188 (by decide) (fun hz => absurd hz (nI_ge (b := 2) e5 (by decide))) (fun _ => ?_)
        refine zw_bipush dX9_next_191 10 (by decide) ?_
        refine zw_aload_n dX9_next_193 rfl ?_
        refine zw_get dX9_next_194 fX9_141 h.1 rfl ?_
        refine zw_top (y := v) h5 ?_
        refine zw_imul dX9_next_197 ?_
        refine zw_aload_n dX9_next_198 rfl ?_
        refine zw_cV0 dX9_next_199 oX9_here kX9_here lX9_135 h.1 rfl (Nat.le_of_ble_eq_true rfl) rfl (m_here h ht' h2 (by omega) ?_)
        show Zw _ _ _ 202 [_, _, _] [_, _, _] _ _
        rw [e]
        refine zw_iadd dX9_next_202 ?_
        refine zw_bipush dX9_next_203 48 (by decide) ?_
        refine zw_isub dX9_next_205 ?_
        refine zw_goto 210 dX9_next_206 (by decide) ?_
        exact fin _ rfl
      · rw [if_neg e5] at fin
        refine zw_icmp_ge 209 dX9_next_188 (by decide) (fun _ => ?_) (fun hz => absurd (nI_le (a := 2) (by omega) (by omega)) hz)
        refine zw_iconst dX9_next_209 0 (by decide) ?_
        exact fin _ rfl
    · have el : ¬ figB (bt a) = true := by
        unfold figB
        intro z'
        have z' := Bool.and_eq_true_iff.mp z'
        exact z ⟨of_decide_eq_true z'.1, of_decide_eq_true z'.2⟩
      rw [if_neg el] at hE
      subst hE
      rw [Nat.sub_self] at hV
      have hV : v = V := hV
      subst hV
      show Zw _ _ _ 174 [_, _, _] [_] _ _
      refine zw_if_eq 226 dX9_next_174 (by decide) (fun _ => ?_) (fun hz => absurd (by decide) hz)
      exact hK w I hI h2 h3 h5 h ho
end ZMOD29
