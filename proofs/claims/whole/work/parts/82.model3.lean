/-! ===== the Model: fits, put on, take off, step back ===== -/
/-- what the Model says of kind kd, given the box's cells -/
def mSel (kd : Int32) (p1 p2 p3 p4 lo ho : Bool) : Bool := if kd = 0 then p1 else if kd = 1 then p2 else if kd = 2 then p3 else if kd = 3 then p1 && ho else if kd = 4 then p1 || p4 else p3 || lo
def mPl (A : Nat → Nat → Int32) (b r : Nat) (f s : Int32) : Bool := decide (mB A b r 0 = f) && decide (mB A b r 1 = s)
def mFit (A : Nat → Nat → Int32) (b r : Nat) (kd f s : Int32) : Bool := mSel kd (mPl A b r f s) (mPl A b r f s || mPl A b r f (s - 1)) ((mPl A b r f s || mPl A b r f (s - 1)) || decide (mB A b r 1 = s)) (mPl A b r 0 (s - 1)) (decide (mB A b r 1 < s)) (!decide (9 < mB A b r 2))
theorem bI_01 : ∀ p, narrow .boolean (.int (bI p)) = .int (bI p) := by decide
section ZMOD3
variable {d : Nat} {w w' : ZW} {A : Nat → Nat → Int32} {I : Nat → Int32} {ab be : Int64} {Q : Option Value → ZW → Prop}
theorem m_fa62 {b r j : Nat} {f s hs : Int32} {p1 p2 p3 : Bool} (hj : j < 6) (h : isM w A I ab be) (hb : I 0 = nI b) (hb8 : b ≤ 651) (hr : r < 7) (e1 : p1 = mPl A b r f s) (hhs : hs = mB A b r 1) (k : Q (some (.int (bI (mSel (nI j) p1 p2 p3 (mPl A b r 0 (s - 1)) (decide (hs < s)) (!decide (9 < mB A b r 2)))))) w) : Zw (d + 3) mX9_fitsAs z0 62 [some (.ref 74), some (.int (nI j)), some (.int f), some (.int s), some (.int (nI r)), some (.int hs), some (.int (bI p1)), some (.int (bI p2)), some (.int (bI p3))] [] w Q := by
  have h6 : j = 0 ∨ j = 1 ∨ j = 2 ∨ j = 3 ∨ j = 4 ∨ j = 5 := by omega
  refine zw_iload_n dX9_fitsAs_62 rfl ?_
  rcases h6 with rfl | rfl | rfl | rfl | rfl | rfl
  · refine zw_tableIn 96 dX9_fitsAs_63 (by decide) (by decide) (off := 33) (by decide) (by decide) ?_
    refine zw_iload dX9_fitsAs_96 rfl ?_
    refine zw_ireturn .boolean dX9_fitsAs_98 rfl (bI_01 _) (Nat.le_refl _) (Nat.le_refl _) ?_
    exact k
  · refine zw_tableIn 99 dX9_fitsAs_63 (by decide) (by decide) (off := 36) (by decide) (by decide) ?_
    refine zw_iload dX9_fitsAs_99 rfl ?_
    refine zw_ireturn .boolean dX9_fitsAs_101 rfl (bI_01 _) (Nat.le_refl _) (Nat.le_refl _) ?_
    exact k
  · refine zw_tableIn 102 dX9_fitsAs_63 (by decide) (by decide) (off := 39) (by decide) (by decide) ?_
    refine zw_iload dX9_fitsAs_102 rfl ?_
    refine zw_ireturn .boolean dX9_fitsAs_104 rfl (bI_01 _) (Nat.le_refl _) (Nat.le_refl _) ?_
    exact k
  · refine zw_tableIn 105 dX9_fitsAs_63 (by decide) (by decide) (off := 42) (by decide) (by decide) ?_
    have k : Q (some (.int (bI (p1 && !decide (9 < mB A b r 2))))) w := k
    refine zw_iload dX9_fitsAs_105 rfl ?_
    by_cases hp : p1 = true
    · rw [hp] at k ⊢
      refine zw_if_eq 126 dX9_fitsAs_107 (by decide) (fun hz => absurd hz (by decide)) (fun _ => ?_)
      refine zw_aload_n dX9_fitsAs_110 rfl ?_
      refine zw_iload dX9_fitsAs_111 rfl ?_
      refine zw_iconst dX9_fitsAs_113 2 (by decide) ?_
      refine zw_cV2 dX9_fitsAs_114 oX9_ofBox kX9_ofBox lX9_77 h.1 rfl (Nat.le_of_ble_eq_true rfl) rfl (m_ofBox (c := 2) h hb hb8 hr (by decide) ?_)
      show Zw _ _ _ 117 [_, _, _, _, _, _, _, _, _] [_] _ _
      refine zw_bipush dX9_fitsAs_117 9 (by decide) ?_
      by_cases hh : 9 < mB A b r 2
      · rw [decide_eq_true hh] at k
        refine zw_icmp_gt 126 dX9_fitsAs_119 (by decide) (fun _ => ?_) (fun hz => absurd (hh) hz)
        refine zw_iconst dX9_fitsAs_126 0 (by decide) ?_
        refine zw_ireturn .boolean dX9_fitsAs_127 rfl rfl (Nat.le_refl _) (Nat.le_refl _) ?_
        exact k
      · rw [decide_eq_false hh] at k
        refine zw_icmp_gt 126 dX9_fitsAs_119 (by decide) (fun hz => absurd hz (hh)) (fun _ => ?_)
        refine zw_iconst dX9_fitsAs_122 1 (by decide) ?_
        refine zw_goto 127 dX9_fitsAs_123 (by decide) ?_
        refine zw_ireturn .boolean dX9_fitsAs_127 rfl rfl (Nat.le_refl _) (Nat.le_refl _) ?_
        exact k
    · have hp : p1 = false := by simpa using hp
      rw [hp] at k ⊢
      refine zw_if_eq 126 dX9_fitsAs_107 (by decide) (fun _ => ?_) (fun hz => absurd (by decide) hz)
      refine zw_iconst dX9_fitsAs_126 0 (by decide) ?_
      refine zw_ireturn .boolean dX9_fitsAs_127 rfl rfl (Nat.le_refl _) (Nat.le_refl _) ?_
      exact k
  · refine zw_tableIn 128 dX9_fitsAs_63 (by decide) (by decide) (off := 65) (by decide) (by decide) ?_
    have k : Q (some (.int (bI (p1 || mPl A b r 0 (s - 1))))) w := k
    refine zw_iload dX9_fitsAs_128 rfl ?_
    by_cases hp : p1 = true
    · rw [hp] at k ⊢
      refine zw_if_ne 146 dX9_fitsAs_130 (by decide) (fun _ => ?_) (fun hz => absurd hz (by decide))
      refine zw_iconst dX9_fitsAs_146 1 (by decide) ?_
      refine zw_goto 151 dX9_fitsAs_147 (by decide) ?_
      refine zw_ireturn .boolean dX9_fitsAs_151 rfl rfl (Nat.le_refl _) (Nat.le_refl _) ?_
      exact k
    · have hp : p1 = false := by simpa using hp
      rw [hp] at k ⊢
      refine zw_if_ne 146 dX9_fitsAs_130 (by decide) (fun hz => absurd (by decide) hz) (fun _ => ?_)
      refine zw_aload_n dX9_fitsAs_133 rfl ?_
      refine zw_iconst dX9_fitsAs_134 0 (by decide) ?_
      refine zw_iload_n dX9_fitsAs_135 rfl ?_
      refine zw_iconst dX9_fitsAs_136 1 (by decide) ?_
      refine zw_isub dX9_fitsAs_137 ?_
      refine zw_iload dX9_fitsAs_138 rfl ?_
      refine zw_cV3 dX9_fitsAs_140 oX9_isPlain kX9_isPlain lX9_81 h.1 rfl (Nat.le_of_ble_eq_true rfl) rfl (m_isPlain h hb hb8 hr ?_)
      show Zw _ _ _ 143 [_, _, _, _, _, _, _, _, _] [_] _ _
      change Zw _ _ _ _ _ [.int (bI (mPl A b r 0 (s - 1)))] _ _
      by_cases hq : mPl A b r 0 (s - 1) = true
      · rw [hq] at k ⊢
        refine zw_if_eq 150 dX9_fitsAs_143 (by decide) (fun hz => absurd hz (by decide)) (fun _ => ?_)
        refine zw_iconst dX9_fitsAs_146 1 (by decide) ?_
        refine zw_goto 151 dX9_fitsAs_147 (by decide) ?_
        refine zw_ireturn .boolean dX9_fitsAs_151 rfl rfl (Nat.le_refl _) (Nat.le_refl _) ?_
        exact k
      · have hq : mPl A b r 0 (s - 1) = false := by simpa using hq
        rw [hq] at k ⊢
        refine zw_if_eq 150 dX9_fitsAs_143 (by decide) (fun _ => ?_) (fun hz => absurd (by decide) hz)
        refine zw_iconst dX9_fitsAs_150 0 (by decide) ?_
        refine zw_ireturn .boolean dX9_fitsAs_151 rfl rfl (Nat.le_refl _) (Nat.le_refl _) ?_
        exact k
  · refine zw_tableOut 152 dX9_fitsAs_63 (Or.inr (by decide)) (by decide) ?_
    have k : Q (some (.int (bI (p3 || decide (hs < s))))) w := k
    refine zw_iload dX9_fitsAs_152 rfl ?_
    by_cases hp : p3 = true
    · rw [hp] at k ⊢
      refine zw_if_ne 163 dX9_fitsAs_154 (by decide) (fun _ => ?_) (fun hz => absurd hz (by decide))
      refine zw_iconst dX9_fitsAs_163 1 (by decide) ?_
      refine zw_goto 168 dX9_fitsAs_164 (by decide) ?_
      refine zw_ireturn .boolean dX9_fitsAs_168 rfl rfl (Nat.le_refl _) (Nat.le_refl _) ?_
      exact k
    · have hp : p3 = false := by simpa using hp
      rw [hp] at k ⊢
      refine zw_if_ne 163 dX9_fitsAs_154 (by decide) (fun hz => absurd (by decide) hz) (fun _ => ?_)
      refine zw_iload dX9_fitsAs_157 rfl ?_
      refine zw_iload_n dX9_fitsAs_159 rfl ?_
      by_cases hq : hs < s
      · rw [decide_eq_true hq] at k
        refine zw_icmp_ge 167 dX9_fitsAs_160 (by decide) (fun hz => absurd hz (Int32.not_le.mpr hq)) (fun _ => ?_)
        refine zw_iconst dX9_fitsAs_163 1 (by decide) ?_
        refine zw_goto 168 dX9_fitsAs_164 (by decide) ?_
        refine zw_ireturn .boolean dX9_fitsAs_168 rfl rfl (Nat.le_refl _) (Nat.le_refl _) ?_
        exact k
      · rw [decide_eq_false hq] at k
        refine zw_icmp_ge 167 dX9_fitsAs_160 (by decide) (fun _ => ?_) (fun hz => absurd (Int32.not_lt.mp hq) hz)
        refine zw_iconst dX9_fitsAs_167 0 (by decide) ?_
        refine zw_ireturn .boolean dX9_fitsAs_168 rfl rfl (Nat.le_refl _) (Nat.le_refl _) ?_
        exact k
theorem m_fitsAs {b r j : Nat} {f s : Int32} (hj : j < 6) (h : isM w A I ab be) (hb : I 0 = nI b) (hb8 : b ≤ 651) (hr : r < 7) (k : Q (some (.int (bI (mFit A b r (nI j) f s)))) w) : Zm (d + 3) mX9_fitsAs 0 0 [.ref 74, .int (nI j), .int f, .int s, .int (nI r)] w Q := by
  have fin : ∀ p2 p3, p2 = (mPl A b r f s || mPl A b r f (s - 1)) → p3 = (p2 || decide (mB A b r 1 = s)) → Zw (d + 3) mX9_fitsAs z0 62 [some (.ref 74), some (.int (nI j)), some (.int f), some (.int s), some (.int (nI r)), some (.int (mB A b r 1)), some (.int (bI (mPl A b r f s))), some (.int (bI p2)), some (.int (bI p3))] [] w Q := by
    intro p2 p3 e2 e3
    subst e2
    subst e3
    exact m_fa62 hj h hb hb8 hr rfl rfl k
  have mid : ∀ p2, p2 = (mPl A b r f s || mPl A b r f (s - 1)) → Zw (d + 3) mX9_fitsAs z0 42 [some (.ref 74), some (.int (nI j)), some (.int f), some (.int s), some (.int (nI r)), some (.int (mB A b r 1)), some (.int (bI (mPl A b r f s))), none, none] [.int (bI p2)] w Q := by
    intro p2 e2
    refine zw_istore [_, _, _, _, _, _, _, _, _] dX9_fitsAs_42 (Nat.le_of_ble_eq_true rfl) rfl ?_
    refine zw_iload dX9_fitsAs_44 rfl ?_
    by_cases hp : p2 = true
    · have f3 := fin p2 true e2 (by rw [hp]; rfl)
      rw [hp] at f3 ⊢
      refine zw_if_ne 55 dX9_fitsAs_46 (by decide) (fun _ => ?_) (fun hz => absurd hz (by decide))
      refine zw_iconst dX9_fitsAs_55 1 (by decide) ?_
      refine zw_goto 60 dX9_fitsAs_56 (by decide) ?_
      refine zw_istore [_, _, _, _, _, _, _, _, _] dX9_fitsAs_60 (Nat.le_of_ble_eq_true rfl) rfl ?_
      exact f3
    · have hp : p2 = false := by simpa using hp
      by_cases hq : mB A b r 1 = s
      · have f3 := fin p2 true e2 (by rw [hp, decide_eq_true hq]; rfl)
        rw [hp] at f3 ⊢
        refine zw_if_ne 55 dX9_fitsAs_46 (by decide) (fun hz => absurd (by decide) hz) (fun _ => ?_)
        refine zw_iload dX9_fitsAs_49 rfl ?_
        refine zw_iload_n dX9_fitsAs_51 rfl ?_
        refine zw_icmp_ne 59 dX9_fitsAs_52 (by decide) (fun hz => absurd (hq) hz) (fun _ => ?_)
        refine zw_iconst dX9_fitsAs_55 1 (by decide) ?_
        refine zw_goto 60 dX9_fitsAs_56 (by decide) ?_
        refine zw_istore [_, _, _, _, _, _, _, _, _] dX9_fitsAs_60 (Nat.le_of_ble_eq_true rfl) rfl ?_
        exact f3
      · have f3 := fin p2 false e2 (by rw [hp, decide_eq_false hq]; rfl)
        rw [hp] at f3 ⊢
        refine zw_if_ne 55 dX9_fitsAs_46 (by decide) (fun hz => absurd (by decide) hz) (fun _ => ?_)
        refine zw_iload dX9_fitsAs_49 rfl ?_
        refine zw_iload_n dX9_fitsAs_51 rfl ?_
        refine zw_icmp_ne 59 dX9_fitsAs_52 (by decide) (fun _ => ?_) (fun hz => absurd hz (hq))
        refine zw_iconst dX9_fitsAs_59 0 (by decide) ?_
        refine zw_istore [_, _, _, _, _, _, _, _, _] dX9_fitsAs_60 (Nat.le_of_ble_eq_true rfl) rfl ?_
        exact f3
  refine zm_intro [_, _, _, _, _, _, _, _, _] oX9_fitsAs (Nat.le_of_ble_eq_true rfl) rfl ?_
  refine zw_aload_n dX9_fitsAs_0 rfl ?_
  refine zw_iload dX9_fitsAs_1 rfl ?_
  refine zw_iconst dX9_fitsAs_3 1 (by decide) ?_
  refine zw_cV2 dX9_fitsAs_4 oX9_ofBox kX9_ofBox lX9_77 h.1 rfl (Nat.le_of_ble_eq_true rfl) rfl (m_ofBox (c := 1) h hb hb8 hr (by decide) ?_)
  show Zw _ _ _ 7 [_, _, _, _, _, _, _, _, _] [_] _ _
  refine zw_istore [_, _, _, _, _, _, _, _, _] dX9_fitsAs_7 (Nat.le_of_ble_eq_true rfl) rfl ?_
  refine zw_aload_n dX9_fitsAs_9 rfl ?_
  refine zw_iload_n dX9_fitsAs_10 rfl ?_
  refine zw_iload_n dX9_fitsAs_11 rfl ?_
  refine zw_iload dX9_fitsAs_12 rfl ?_
  refine zw_cV3 dX9_fitsAs_14 oX9_isPlain kX9_isPlain lX9_81 h.1 rfl (Nat.le_of_ble_eq_true rfl) rfl (m_isPlain h hb hb8 hr ?_)
  show Zw _ _ _ 17 [_, _, _, _, _, _, _, _, _] [_] _ _
  change Zw _ _ _ _ _ [.int (bI (mPl A b r f s))] _ _
  refine zw_istore [_, _, _, _, _, _, _, _, _] dX9_fitsAs_17 (Nat.le_of_ble_eq_true rfl) rfl ?_
  refine zw_iload dX9_fitsAs_19 rfl ?_
  by_cases hp : mPl A b r f s = true
  · have m2 := mid true (by rw [hp]; rfl)
    rw [hp] at m2 ⊢
    refine zw_if_ne 37 dX9_fitsAs_21 (by decide) (fun _ => ?_) (fun hz => absurd hz (by decide))
    refine zw_iconst dX9_fitsAs_37 1 (by decide) ?_
    refine zw_goto 42 dX9_fitsAs_38 (by decide) ?_
    exact m2
  · have hp : mPl A b r f s = false := by simpa using hp
    by_cases hq : mPl A b r f (s - 1) = true
    · have m2 := mid true (by rw [hp, hq]; rfl)
      rw [hp] at m2 ⊢
      refine zw_if_ne 37 dX9_fitsAs_21 (by decide) (fun hz => absurd (by decide) hz) (fun _ => ?_)
      refine zw_aload_n dX9_fitsAs_24 rfl ?_
      refine zw_iload_n dX9_fitsAs_25 rfl ?_
      refine zw_iload_n dX9_fitsAs_26 rfl ?_
      refine zw_iconst dX9_fitsAs_27 1 (by decide) ?_
      refine zw_isub dX9_fitsAs_28 ?_
      refine zw_iload dX9_fitsAs_29 rfl ?_
      refine zw_cV3 dX9_fitsAs_31 oX9_isPlain kX9_isPlain lX9_81 h.1 rfl (Nat.le_of_ble_eq_true rfl) rfl (m_isPlain h hb hb8 hr ?_)
      show Zw _ _ _ 34 [_, _, _, _, _, _, _, _, _] [_] _ _
      change Zw _ _ _ _ _ [.int (bI (mPl A b r f (s - 1)))] _ _
      rw [hq]
      refine zw_if_eq 41 dX9_fitsAs_34 (by decide) (fun hz => absurd hz (by decide)) (fun _ => ?_)
      refine zw_iconst dX9_fitsAs_37 1 (by decide) ?_
      refine zw_goto 42 dX9_fitsAs_38 (by decide) ?_
      exact m2
    · have hq : mPl A b r f (s - 1) = false := by simpa using hq
      have m2 := mid false (by rw [hp, hq]; rfl)
      rw [hp] at m2 ⊢
      refine zw_if_ne 37 dX9_fitsAs_21 (by decide) (fun hz => absurd (by decide) hz) (fun _ => ?_)
      refine zw_aload_n dX9_fitsAs_24 rfl ?_
      refine zw_iload_n dX9_fitsAs_25 rfl ?_
      refine zw_iload_n dX9_fitsAs_26 rfl ?_
      refine zw_iconst dX9_fitsAs_27 1 (by decide) ?_
      refine zw_isub dX9_fitsAs_28 ?_
      refine zw_iload dX9_fitsAs_29 rfl ?_
      refine zw_cV3 dX9_fitsAs_31 oX9_isPlain kX9_isPlain lX9_81 h.1 rfl (Nat.le_of_ble_eq_true rfl) rfl (m_isPlain h hb hb8 hr ?_)
      show Zw _ _ _ 34 [_, _, _, _, _, _, _, _, _] [_] _ _
      change Zw _ _ _ _ _ [.int (bI (mPl A b r f (s - 1)))] _ _
      rw [hq]
      refine zw_if_eq 41 dX9_fitsAs_34 (by decide) (fun _ => ?_) (fun hz => absurd (by decide) hz)
      refine zw_iconst dX9_fitsAs_41 0 (by decide) ?_
      exact m2
theorem m_doesFit {b l r : Nat} (h : isM w A I ab be) (hb : I 0 = nI b) (hb8 : b ≤ 651) (hl : l < 7) (hr : r < 7) (hk : ∃ j, j < 6 ∧ mLd A b l 0 = nI j) (k : Q (some (.int (bI (mFit A b r (mLd A b l 0) (mLd A b l 1) (mLd A b l 2))))) w) : Zm (d + 4) mX9_doesFit 0 0 [.ref 74, .int (nI l), .int (nI r)] w Q := by
  obtain ⟨j, hj, ej⟩ := hk
  rw [ej] at k
  refine zm_intro [_, _, _] oX9_doesFit (Nat.le_of_ble_eq_true rfl) rfl ?_
  refine zw_aload_n dX9_doesFit_0 rfl ?_
  refine zw_aload_n dX9_doesFit_1 rfl ?_
  refine zw_iload_n dX9_doesFit_2 rfl ?_
  refine zw_iconst dX9_doesFit_3 0 (by decide) ?_
  refine zw_cV2 dX9_doesFit_4 oX9_ofLid kX9_ofLid lX9_84 h.1 rfl (Nat.le_of_ble_eq_true rfl) rfl (m_ofLid (c := 0) h hb hb8 hl (by decide) ?_)
  show Zw _ _ _ 7 [_, _, _] [_, _] _ _
  refine zw_top (ej) ?_
  refine zw_aload_n dX9_doesFit_7 rfl ?_
  refine zw_iload_n dX9_doesFit_8 rfl ?_
  refine zw_iconst dX9_doesFit_9 1 (by decide) ?_
  refine zw_cV2 dX9_doesFit_10 oX9_ofLid kX9_ofLid lX9_84 h.1 rfl (Nat.le_of_ble_eq_true rfl) rfl (m_ofLid (c := 1) h hb hb8 hl (by decide) ?_)
  show Zw _ _ _ 13 [_, _, _] [_, _, _] _ _
  refine zw_aload_n dX9_doesFit_13 rfl ?_
  refine zw_iload_n dX9_doesFit_14 rfl ?_
  refine zw_iconst dX9_doesFit_15 2 (by decide) ?_
  refine zw_cV2 dX9_doesFit_16 oX9_ofLid kX9_ofLid lX9_84 h.1 rfl (Nat.le_of_ble_eq_true rfl) rfl (m_ofLid (c := 2) h hb hb8 hl (by decide) ?_)
  show Zw _ _ _ 19 [_, _, _] [_, _, _, _] _ _
  refine zw_iload_n dX9_doesFit_19 rfl ?_
  refine zw_cV4 dX9_doesFit_20 oX9_fitsAs kX9_fitsAs lX9_87 h.1 rfl (Nat.le_of_ble_eq_true rfl) rfl (m_fitsAs hj h hb hb8 hr ?_)
  show Zw _ _ _ 23 [_, _, _] [_] _ _
  refine zw_ireturn .boolean dX9_doesFit_23 rfl (bI_01 _) (Nat.le_refl _) (Nat.le_refl _) ?_
  exact k
end ZMOD3
