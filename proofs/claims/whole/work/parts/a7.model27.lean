/-! ===== the Model: labels ===== -/
/-- hint k holds in the order l -/
def hOk (A : Nat → Nat → Int32) (hs hf hx : Nat → Nat) (l : List Nat) (k : Nat) : Bool := if hs k = 0 then decide (l.getD (hf k) 0 = hx k) else if hs k = 1 then !decide (l.getD (hf k) 0 = hx k) else if hs k = 2 then decide (l.getD (hf k) 0 < l.getD (hx k) 0) else decide (mB A 0 (l.getD (hf k) 0) 1 < mB A 0 (l.getD (hx k) 0) 1)
def updN (o : Nat → Nat) (j : Nat) : Nat → Nat := fun i => if i = j then o i + 1 else o i
def ofI (l : List Nat) (f k : Nat) (o : Nat → Nat) : Nat → Nat := match k with
  | 0 => o
  | k + 1 => ofI l (f + 1) k (updN o (7 * f + l.getD f 0))
def fwF (P : List Nat → Bool) (n : Nat) (ls : List (List Nat)) (v : Nat × (Nat → Nat)) : Nat × (Nat → Nat) := match ls with
  | [] => v
  | l :: ls => fwF P n ls (if P l = true then (v.1 + 1, ofI l 0 n v.2) else v)
def wsF (o : Nat → Nat) (b k m a : Nat) : Nat := match m with
  | 0 => a
  | m + 1 => wsF o b (k + 1) m (if a < o (7 * k + b) then o (7 * k + b) else a)
def lbF (o : Nat → Nat) (n b m : Nat) (fo : Int32) (le : Nat) : Int32 := match m with
  | 0 => fo
  | m + 1 => if fo = -1 ∨ wsF o b 0 n 0 < le then lbF o n (b + 1) m (nI b) (wsF o b 0 n 0) else lbF o n (b + 1) m fo le
theorem ofI_le {l : List Nat} {j : Nat} : ∀ (k f : Nat) (o : Nat → Nat), ofI l f k o j ≤ o j + k := by
  intro k
  induction k with
  | zero => intro f o; exact Nat.le_refl _
  | succ k ih =>
    intro f o
    unfold ofI
    have h1 := ih (f + 1) (updN o (7 * f + l.getD f 0))
    have h2 : updN o (7 * f + l.getD f 0) j ≤ o j + 1 := by unfold updN; split <;> omega
    omega
theorem fwF_le {P : List Nat → Bool} {n j : Nat} : ∀ (ls : List (List Nat)) (v : Nat × (Nat → Nat)), (fwF P n ls v).1 ≤ v.1 + ls.length ∧ (fwF P n ls v).2 j ≤ v.2 j + ls.length * n := by
  intro ls
  induction ls with
  | nil => intro v; exact ⟨Nat.le_refl _, Nat.le_add_right _ _⟩
  | cons l ls ih =>
    intro v
    unfold fwF
    obtain ⟨h1, h2⟩ := ih (if P l = true then (v.1 + 1, ofI l 0 n v.2) else v)
    have h3 := ofI_le (l := l) (j := j) n 0 v.2
    rw [List.length_cons, Nat.succ_mul]
    split at h1
    · next e => rw [if_pos e] at h2; rw [if_pos e]; simp only at h1 h2; exact ⟨by omega, by omega⟩
    · next e => rw [if_neg e] at h2; rw [if_neg e]; exact ⟨by omega, by omega⟩
theorem ord_len : ∀ n, n < 8 → (orders n).length ≤ 5040 := by decide +kernel
theorem wsF_le {o : Nat → Nat} {b M : Nat} (ho : ∀ k, k < 7 → o (7 * k + b) ≤ M) : ∀ (m k a : Nat), k + m ≤ 7 → a ≤ M → wsF o b k m a ≤ M := by
  intro m
  induction m with
  | zero => intro k a _ h; exact h
  | succ m ih =>
    intro k a hk h
    unfold wsF
    refine ih _ _ (by omega) ?_
    split
    · exact ho k (by omega)
    · exact h
section ZMOD27
variable {d : Nat} {w w' : ZW} {A : Nat → Nat → Int32} {I : Nat → Int32} {ab be : Int64} {Q : Option Value → ZW → Prop}
theorem m_isL {hs hf hx : Nat → Nat} {n hm : Nat} {l : List Nat} (hb : I 0 = nI 0) (hn7 : n ≤ 7) (hh : A 0 (0 + 4) = nI hm) (hm8 : hm ≤ 8) (hH : ∀ k, k < hm → A 0 (0 + (109 + 3 * k)) = nI (hs k) ∧ hs k ≤ 3 ∧ A 0 (0 + (109 + 3 * k + 1)) = nI (hf k) ∧ hf k < n ∧ A 0 (0 + (109 + 3 * k + 2)) = nI (hx k) ∧ hx k < n) (hl : ∀ i, i < n → A 11 i = nI (l.getD i 0)) (hl7 : ∀ i, i < n → l.getD i 0 < n) (h : isM w A I ab be) : ∀ (m k : Nat) (is : Bool) (o3 o4 o5 : Option Value), k + m = hm → Q (some (.int (bI (is && allF (hOk A hs hf hx l) k m)))) w → Zw (d + 2) mX9_isSo z0 4 [some (.ref 74), some (.int (bI is)), some (.int (nI k)), o3, o4, o5] [] w Q := by
  intro m
  induction m with
  | zero =>
    intro k is o3 o4 o5 hi kk
    refine zw_iload_n dX9_isSo_4 rfl ?_
    refine zw_aload_n dX9_isSo_5 rfl ?_
    refine zw_iconst dX9_isSo_6 4 (by decide) ?_
    refine zw_cV1 dX9_isSo_7 oX9_get kX9_get lX9_62 h.1 rfl (Nat.le_of_ble_eq_true rfl) rfl (m_get (b := 0) (j := 4) h hb (by omega) ?_)
    show Zw _ _ _ 10 [_, _, _, _, _, _] [_, _] _ _
    refine zw_top (hh) ?_
    refine zw_icmp_ge 159 dX9_isSo_10 (by decide) (fun _ => ?_) (fun hz => absurd (nI_le (by omega) (by omega)) hz)
    refine zw_iload_n dX9_isSo_159 rfl ?_
    refine zw_ireturn .boolean dX9_isSo_160 rfl (bI_01 _) (Nat.le_refl _) (Nat.le_refl _) ?_
    have e : (is && allF (hOk A hs hf hx l) k 0) = is := by show (is && true) = is; rw [Bool.and_true]
    rwa [e] at kk
  | succ m ih =>
    intro k is o3 o4 o5 hi kk
    obtain ⟨s1, s2, f1, f2, b1, b2⟩ := hH k (by omega)
    have d1 := hl7 (hf k) f2
    have d2 := hl7 (hx k) b2
    refine zw_iload_n dX9_isSo_4 rfl ?_
    refine zw_aload_n dX9_isSo_5 rfl ?_
    refine zw_iconst dX9_isSo_6 4 (by decide) ?_
    refine zw_cV1 dX9_isSo_7 oX9_get kX9_get lX9_62 h.1 rfl (Nat.le_of_ble_eq_true rfl) rfl (m_get (b := 0) (j := 4) h hb (by omega) ?_)
    show Zw _ _ _ 10 [_, _, _, _, _, _] [_, _] _ _
    refine zw_top (hh) ?_
    refine zw_icmp_ge 159 dX9_isSo_10 (by decide) (fun hz => absurd hz (nI_ge (by omega) (by omega))) (fun _ => ?_)
    refine zw_iload_n dX9_isSo_13 rfl ?_
    cases is with
    | false =>
      refine zw_if_eq 159 dX9_isSo_14 (by decide) (fun _ => ?_) (fun hz => absurd (by decide) hz)
      refine zw_iload_n dX9_isSo_159 rfl ?_
      refine zw_ireturn .boolean dX9_isSo_160 rfl rfl (Nat.le_refl _) (Nat.le_refl _) ?_
      exact kk
    | true =>
      have e : (true && allF (hOk A hs hf hx l) k (m + 1)) = (hOk A hs hf hx l k && allF (hOk A hs hf hx l) (k + 1) m) := rfl
      rw [e] at kk
      have fin : ∀ v o3 o4 o5, v = hOk A hs hf hx l k → Zw (d + 2) mX9_isSo z0 152 [some (.ref 74), some (.int (bI true)), some (.int (nI k)), o3, o4, o5] [.int (bI v)] w Q := by
        intro v o3 o4 o5 hv
        subst hv
        refine zw_istore_n [_, _, _, _, _, _] dX9_isSo_152 (Nat.le_of_ble_eq_true rfl) rfl ?_
        refine zw_iinc (nI (k + 1)) [_, _, _, _, _, _] dX9_isSo_153 rfl (nI_1 k) rfl ?_
        refine zw_goto 4 dX9_isSo_156 (by decide) ?_
        exact ih (k + 1) _ _ _ _ (by omega) kk
      unfold hOk at fin
      refine zw_if_eq 159 dX9_isSo_14 (by decide) (fun hz => absurd hz (by decide)) (fun _ => ?_)
      refine zw_aload_n dX9_isSo_17 rfl ?_
      refine zw_bipush dX9_isSo_18 109 (by decide) ?_
      refine zw_iconst dX9_isSo_20 3 (by decide) ?_
      refine zw_iload_n dX9_isSo_21 rfl ?_
      refine zw_imul dX9_isSo_22 ?_
      refine zw_iadd dX9_isSo_23 ?_
      refine zw_top (y := nI (109 + 3 * k)) (by rw [← nI_add, ← pk_mul]; rfl) ?_
      refine zw_cV1 dX9_isSo_24 oX9_get kX9_get lX9_62 h.1 rfl (Nat.le_of_ble_eq_true rfl) rfl (m_get (b := 0) (j := 109 + 3 * k) h hb (by omega) ?_)
      show Zw _ _ _ 27 [_, _, _, _, _, _] [_] _ _
      refine zw_top (s1) ?_
      refine zw_istore_n [_, _, _, _, _, _] dX9_isSo_27 (Nat.le_of_ble_eq_true rfl) rfl ?_
      refine zw_aload_n dX9_isSo_28 rfl ?_
      refine zw_get dX9_isSo_29 fX9_45 h.1 rfl ?_
      refine zw_aload_n dX9_isSo_32 rfl ?_
      refine zw_bipush dX9_isSo_33 109 (by decide) ?_
      refine zw_iconst dX9_isSo_35 3 (by decide) ?_
      refine zw_iload_n dX9_isSo_36 rfl ?_
      refine zw_imul dX9_isSo_37 ?_
      refine zw_iadd dX9_isSo_38 ?_
      refine zw_iconst dX9_isSo_39 1 (by decide) ?_
      refine zw_iadd dX9_isSo_40 ?_
      refine zw_top (y := nI (109 + 3 * k + 1)) (by rw [← nI_add, ← nI_add, ← pk_mul]; rfl) ?_
      refine zw_cV1 dX9_isSo_41 oX9_get kX9_get lX9_62 h.1 rfl (Nat.le_of_ble_eq_true rfl) rfl (m_get (b := 0) (j := 109 + 3 * k + 1) h hb (by omega) ?_)
      show Zw _ _ _ 44 [_, _, _, _, _, _] [_, _] _ _
      refine zw_top (f1) ?_
      refine zw_iald dX9_isSo_44 h.q11 (vp_in_nI (n := hf k) (N := 7) (by omega) (by decide)) ?_
      rw [nI_clamp (by omega), hl (hf k) f2]
      refine zw_istore [_, _, _, _, _, _] dX9_isSo_45 (Nat.le_of_ble_eq_true rfl) rfl ?_
      refine zw_aload_n dX9_isSo_47 rfl ?_
      refine zw_bipush dX9_isSo_48 109 (by decide) ?_
      refine zw_iconst dX9_isSo_50 3 (by decide) ?_
      refine zw_iload_n dX9_isSo_51 rfl ?_
      refine zw_imul dX9_isSo_52 ?_
      refine zw_iadd dX9_isSo_53 ?_
      refine zw_iconst dX9_isSo_54 2 (by decide) ?_
      refine zw_iadd dX9_isSo_55 ?_
      refine zw_top (y := nI (109 + 3 * k + 2)) (by rw [← nI_add, ← nI_add, ← pk_mul]; rfl) ?_
      refine zw_cV1 dX9_isSo_56 oX9_get kX9_get lX9_62 h.1 rfl (Nat.le_of_ble_eq_true rfl) rfl (m_get (b := 0) (j := 109 + 3 * k + 2) h hb (by omega) ?_)
      show Zw _ _ _ 59 [_, _, _, _, _, _] [_] _ _
      refine zw_top (b1) ?_
      refine zw_istore [_, _, _, _, _, _] dX9_isSo_59 (Nat.le_of_ble_eq_true rfl) rfl ?_
      refine zw_iload_n dX9_isSo_61 rfl ?_
      by_cases e0 : hs k = 0
      · rw [if_pos e0] at fin
        refine zw_if_ne 80 dX9_isSo_62 (by decide) (fun hz => absurd (congrArg nI e0) hz) (fun _ => ?_)
        refine zw_iload dX9_isSo_65 rfl ?_
        refine zw_iload dX9_isSo_67 rfl ?_
        by_cases e1 : l.getD (hf k) 0 = hx k
        · refine zw_icmp_ne 76 dX9_isSo_69 (by decide) (fun hz => absurd (congrArg nI e1) hz) (fun _ => ?_)
          refine zw_iconst dX9_isSo_72 1 (by decide) ?_
          refine zw_goto 152 dX9_isSo_73 (by decide) ?_
          exact fin true _ _ _ (decide_eq_true e1).symm
        · refine zw_icmp_ne 76 dX9_isSo_69 (by decide) (fun _ => ?_) (fun hz => absurd hz ((fun z => e1 ((nI_eq (by omega) (by omega)).mp z))))
          refine zw_iconst dX9_isSo_76 0 (by decide) ?_
          refine zw_goto 152 dX9_isSo_77 (by decide) ?_
          exact fin false _ _ _ (decide_eq_false e1).symm
      · rw [if_neg e0] at fin
        refine zw_if_ne 80 dX9_isSo_62 (by decide) (fun _ => ?_) (fun hz => absurd hz (nI_ne0 (by omega) (by omega)))
        refine zw_iload_n dX9_isSo_80 rfl ?_
        refine zw_iconst dX9_isSo_81 1 (by decide) ?_
        by_cases e1 : hs k = 1
        · rw [if_pos e1] at fin
          refine zw_icmp_ne 100 dX9_isSo_82 (by decide) (fun hz => absurd (congrArg nI e1) hz) (fun _ => ?_)
          refine zw_iload dX9_isSo_85 rfl ?_
          refine zw_iload dX9_isSo_87 rfl ?_
          by_cases e2 : l.getD (hf k) 0 = hx k
          · refine zw_icmp_eq 96 dX9_isSo_89 (by decide) (fun _ => ?_) (fun hz => absurd (congrArg nI e2) hz)
            refine zw_iconst dX9_isSo_96 0 (by decide) ?_
            refine zw_goto 152 dX9_isSo_97 (by decide) ?_
            exact fin false _ _ _ (by rw [decide_eq_true e2]; rfl)
          · refine zw_icmp_eq 96 dX9_isSo_89 (by decide) (fun hz => absurd hz ((fun z => e2 ((nI_eq (by omega) (by omega)).mp z)))) (fun _ => ?_)
            refine zw_iconst dX9_isSo_92 1 (by decide) ?_
            refine zw_goto 152 dX9_isSo_93 (by decide) ?_
            exact fin true _ _ _ (by rw [decide_eq_false e2]; rfl)
        · rw [if_neg e1] at fin
          refine zw_icmp_ne 100 dX9_isSo_82 (by decide) (fun _ => ?_) (fun hz => absurd hz ((fun z => e1 ((nI_eq (b := 1) (by omega) (by decide)).mp z))))
          refine zw_iload_n dX9_isSo_100 rfl ?_
          refine zw_iconst dX9_isSo_101 2 (by decide) ?_
          by_cases e2 : hs k = 2
          · rw [if_pos e2] at fin
            refine zw_icmp_ne 125 dX9_isSo_102 (by decide) (fun hz => absurd (congrArg nI e2) hz) (fun _ => ?_)
            refine zw_iload dX9_isSo_105 rfl ?_
            refine zw_aload_n dX9_isSo_107 rfl ?_
            refine zw_get dX9_isSo_108 fX9_45 h.1 rfl ?_
            refine zw_iload dX9_isSo_111 rfl ?_
            refine zw_iald dX9_isSo_113 h.q11 (vp_in_nI (n := hx k) (N := 7) (by omega) (by decide)) ?_
            rw [nI_clamp (by omega), hl (hx k) b2]
            by_cases e3 : l.getD (hf k) 0 < l.getD (hx k) 0
            · refine zw_icmp_ge 121 dX9_isSo_114 (by decide) (fun hz => absurd hz (nI_ge e3 (by omega))) (fun _ => ?_)
              refine zw_iconst dX9_isSo_117 1 (by decide) ?_
              refine zw_goto 152 dX9_isSo_118 (by decide) ?_
              exact fin true _ _ _ (decide_eq_true e3).symm
            · refine zw_icmp_ge 121 dX9_isSo_114 (by decide) (fun _ => ?_) (fun hz => absurd (nI_le (by omega) (by omega)) hz)
              refine zw_iconst dX9_isSo_121 0 (by decide) ?_
              refine zw_goto 152 dX9_isSo_122 (by decide) ?_
              exact fin false _ _ _ (decide_eq_false e3).symm
          · rw [if_neg e2] at fin
            refine zw_icmp_ne 125 dX9_isSo_102 (by decide) (fun _ => ?_) (fun hz => absurd hz ((fun z => e2 ((nI_eq (b := 2) (by omega) (by decide)).mp z))))
            refine zw_aload_n dX9_isSo_125 rfl ?_
            refine zw_iload dX9_isSo_126 rfl ?_
            refine zw_iconst dX9_isSo_128 1 (by decide) ?_
            refine zw_cV2 dX9_isSo_129 oX9_ofBox kX9_ofBox lX9_77 h.1 rfl (Nat.le_of_ble_eq_true rfl) rfl (m_ofBox (b := 0) (r := l.getD (hf k) 0) (c := 1) h hb (by decide) (by omega) (by decide) ?_)
            show Zw _ _ _ 132 [_, _, _, _, _, _] [_] _ _
            refine zw_aload_n dX9_isSo_132 rfl ?_
            refine zw_aload_n dX9_isSo_133 rfl ?_
            refine zw_get dX9_isSo_134 fX9_45 h.1 rfl ?_
            refine zw_iload dX9_isSo_137 rfl ?_
            refine zw_iald dX9_isSo_139 h.q11 (vp_in_nI (n := hx k) (N := 7) (by omega) (by decide)) ?_
            rw [nI_clamp (by omega), hl (hx k) b2]
            refine zw_iconst dX9_isSo_140 1 (by decide) ?_
            refine zw_cV2 dX9_isSo_141 oX9_ofBox kX9_ofBox lX9_77 h.1 rfl (Nat.le_of_ble_eq_true rfl) rfl (m_ofBox (b := 0) (r := l.getD (hx k) 0) (c := 1) h hb (by decide) (by omega) (by decide) ?_)
            show Zw _ _ _ 144 [_, _, _, _, _, _] [_, _] _ _
            by_cases e3 : mB A 0 (l.getD (hf k) 0) 1 < mB A 0 (l.getD (hx k) 0) 1
            · refine zw_icmp_ge 151 dX9_isSo_144 (by decide) (fun hz => absurd hz (Int32.not_le.mpr e3)) (fun _ => ?_)
              refine zw_iconst dX9_isSo_147 1 (by decide) ?_
              refine zw_goto 152 dX9_isSo_148 (by decide) ?_
              exact fin true _ _ _ (decide_eq_true e3).symm
            · refine zw_icmp_ge 151 dX9_isSo_144 (by decide) (fun _ => ?_) (fun hz => absurd (Int32.not_lt.mp e3) hz)
              refine zw_iconst dX9_isSo_151 0 (by decide) ?_
              exact fin false _ _ _ (decide_eq_false e3).symm
theorem m_isSo {hs hf hx : Nat → Nat} {n hm : Nat} {l : List Nat} (hb : I 0 = nI 0) (hn7 : n ≤ 7) (hh : A 0 (0 + 4) = nI hm) (hm8 : hm ≤ 8) (hH : ∀ k, k < hm → A 0 (0 + (109 + 3 * k)) = nI (hs k) ∧ hs k ≤ 3 ∧ A 0 (0 + (109 + 3 * k + 1)) = nI (hf k) ∧ hf k < n ∧ A 0 (0 + (109 + 3 * k + 2)) = nI (hx k) ∧ hx k < n) (hl : ∀ i, i < n → A 11 i = nI (l.getD i 0)) (hl7 : ∀ i, i < n → l.getD i 0 < n) (h : isM w A I ab be) (k : Q (some (.int (bI (allF (hOk A hs hf hx l) 0 hm)))) w) : Zm (d + 2) mX9_isSo 0 0 [.ref 74] w Q := by
  refine zm_intro [_, _, _, _, _, _] oX9_isSo (Nat.le_of_ble_eq_true rfl) rfl ?_
  refine zw_iconst dX9_isSo_0 1 (by decide) ?_
  refine zw_istore_n [_, _, _, _, _, _] dX9_isSo_1 (Nat.le_of_ble_eq_true rfl) rfl ?_
  refine zw_iconst dX9_isSo_2 0 (by decide) ?_
  refine zw_istore_n [_, _, _, _, _, _] dX9_isSo_3 (Nat.le_of_ble_eq_true rfl) rfl ?_
  exact m_isL hb hn7 hh hm8 hH hl hl7 h hm 0 true _ _ _ (by omega) k
theorem m_fwO {n : Nat} {wa mo : Int32} {l : List Nat} {w0 : ZW} {O : Nat → Nat} (hn7 : n ≤ 7) (hl : ∀ i, i < n → A 11 i = nI (l.getD i 0)) (hl7 : ∀ i, i < n → l.getD i 0 < n) (hK : ∀ w f o4, (∀ j, j < 49 → f j = nI (O j)) → isM w (va_up A 13 f) I ab be → zOff 74 89 w0 w → Zw (d + 3) mX9_findWays z0 87 [some (.ref 74), some (.int (nI n)), some (.int wa), some (.int mo), o4] [] w Q) : ∀ (k i : Nat) (o : Nat → Nat) (f : Nat → Int32) (w : ZW), i + k = n → ofI l i k o = O → (∀ j, j < 49 → f j = nI (o j)) → isM w (va_up A 13 f) I ab be → zOff 74 89 w0 w → Zw (d + 3) mX9_findWays z0 53 [some (.ref 74), some (.int (nI n)), some (.int wa), some (.int mo), some (.int (nI i))] [] w Q := by
  intro k
  induction k with
  | zero =>
    intro i o f w hi hE hf h ho
    have hE : o = O := hE
    subst hE
    refine zw_iload dX9_findWays_53 rfl ?_
    refine zw_iload_n dX9_findWays_55 rfl ?_
    refine zw_icmp_ge 87 dX9_findWays_56 (by decide) (fun _ => ?_) (fun hz => absurd (nI_le (by omega) (by omega)) hz)
    exact hK w f _ hf h ho
  | succ k ih =>
    intro i o f w hi hE hf h ho
    unfold ofI at hE
    have d1 := hl7 i (by omega)
    have hjn : 7 * i + l.getD i 0 < 49 := by omega
    have hin := vp_in_nI (n := 7 * i + l.getD i 0) (N := 49) hjn (by decide)
    refine zw_iload dX9_findWays_53 rfl ?_
    refine zw_iload_n dX9_findWays_55 rfl ?_
    refine zw_icmp_ge 87 dX9_findWays_56 (by decide) (fun hz => absurd hz (nI_ge (by omega) (by omega))) (fun _ => ?_)
    refine zw_aload_n dX9_findWays_59 rfl ?_
    refine zw_get dX9_findWays_60 fX9_51 h.1 rfl ?_
    refine zw_bipush dX9_findWays_63 7 (by decide) ?_
    refine zw_iload dX9_findWays_65 rfl ?_
    refine zw_imul dX9_findWays_67 ?_
    refine zw_aload_n dX9_findWays_68 rfl ?_
    refine zw_get dX9_findWays_69 fX9_45 h.1 rfl ?_
    refine zw_iload dX9_findWays_72 rfl ?_
    refine zw_iald dX9_findWays_74 h.q11 (vp_in_nI (n := i) (N := 7) (by omega) (by decide)) ?_
    rw [nI_clamp (by omega), show va_up A 13 f 11 i = nI (l.getD i 0) from hl i (by omega)]
    refine zw_iadd dX9_findWays_75 ?_
    refine zw_top (y := nI (7 * i + l.getD i 0)) (by rw [← nI_add, ← pk_mul]; rfl) ?_
    refine zw_dup2 dX9_findWays_76 rfl rfl ?_
    refine zw_iald dX9_findWays_77 h.q13 hin ?_
    rw [nI_clamp (by omega), show va_up A 13 f 13 (7 * i + l.getD i 0) = nI (o (7 * i + l.getD i 0)) from hf _ hjn]
    refine zw_iconst dX9_findWays_78 1 (by decide) ?_
    refine zw_iadd dX9_findWays_79 ?_
    refine zw_top (nI_1 _) ?_
    refine zw_iast dX9_findWays_80 h.q13 hin ?_
    rw [nI_clamp (by omega)]
    refine zw_iinc (nI (i + 1)) [_, _, _, _, _] dX9_findWays_81 rfl (nI_1 i) rfl ?_
    refine zw_goto 53 dX9_findWays_84 (by decide) ?_
    refine ih (i + 1) _ _ _ (by omega) hE (fun j hj => ?_) h.b13 (ho.tr (zOff.pt (by decide) (by decide)))
    show upd f (7 * i + l.getD i 0) (nI (o (7 * i + l.getD i 0) + 1)) j = nI (updN o (7 * i + l.getD i 0) j)
    unfold upd updN
    by_cases e : j = 7 * i + l.getD i 0
    · rw [if_pos e, if_pos e, e]
    · rw [if_neg e, if_neg e]; exact hf j hj
theorem m_fwZ {n : Int32} {w0 : ZW} (hK : ∀ w f o2, (∀ j, j < 49 → f j = 0) → isM w (va_up A 13 f) I ab be → zOff 74 89 w0 w → Zw d mX9_findWays z0 27 [some (.ref 74), some (.int n), o2, none, none] [] w Q) : ∀ (k i : Nat) (f : Nat → Int32) (w : ZW), i + k = 49 → (∀ j, j < i → f j = 0) → isM w (va_up A 13 f) I ab be → zOff 74 89 w0 w → Zw d mX9_findWays z0 8 [some (.ref 74), some (.int n), some (.int (nI i)), none, none] [] w Q := by
  intro k
  induction k with
  | zero =>
    intro i f w hi hf h ho
    refine zw_iload_n dX9_findWays_8 rfl ?_
    refine zw_bipush dX9_findWays_9 49 (by decide) ?_
    refine zw_icmp_ge 27 dX9_findWays_11 (by decide) (fun _ => ?_) (fun hz => absurd (nI_le (a := 49) (by omega) (by omega)) hz)
    exact hK w f _ (fun j hj => hf j (by omega)) h ho
  | succ k ih =>
    intro i f w hi hf h ho
    refine zw_iload_n dX9_findWays_8 rfl ?_
    refine zw_bipush dX9_findWays_9 49 (by decide) ?_
    refine zw_icmp_ge 27 dX9_findWays_11 (by decide) (fun hz => absurd hz (nI_ge (b := 49) (by omega) (by omega))) (fun _ => ?_)
    refine zw_aload_n dX9_findWays_14 rfl ?_
    refine zw_get dX9_findWays_15 fX9_51 h.1 rfl ?_
    refine zw_iload_n dX9_findWays_18 rfl ?_
    refine zw_iconst dX9_findWays_19 0 (by decide) ?_
    refine zw_iast dX9_findWays_20 h.q13 (vp_in_nI (n := i) (N := 49) (by omega) (by decide)) ?_
    rw [nI_clamp (by omega)]
    refine zw_iinc (nI (i + 1)) [_, _, _, _, _] dX9_findWays_21 rfl (nI_1 i) rfl ?_
    refine zw_goto 8 dX9_findWays_24 (by decide) ?_
    refine ih (i + 1) _ _ (by omega) (fun j hj => ?_) h.b13 (ho.tr (zOff.pt (by decide) (by decide)))
    by_cases e : j = i
    · subst e; exact pk_us
    · exact (pk_un e).trans (hf j (by omega))
end ZMOD27
