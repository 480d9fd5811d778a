/-! ===== the Model: type, lend, wrong, boxes, lids, what fits ===== -/
theorem va_uu {α : Type} {A : Nat → α} {k : Nat} {f g : α} : va_up (va_up A k f) k g = va_up A k g := by
  funext j
  unfold va_up
  split <;> rfl
theorem va_us {α : Type} {A : Nat → α} {k : Nat} : va_up A k (A k) = A := by
  funext j
  unfold va_up
  split
  · next h => rw [h]
  · rfl
/-- the mask of what fits box b, by the Model -/
def mG (A : Nat → Nat → Int32) (n l b : Nat) : Nat := if b < n then mskF (fun i => mFit A 0 b (mLd A 0 i 0) (mLd A 0 i 1) (mLd A 0 i 2)) 0 l 0 else 0
theorem mG_lt {A : Nat → Nat → Int32} {n l b : Nat} (hl : l ≤ 7) : mG A n l b < 128 := by
  unfold mG
  split
  · have := mskF_lt (fun i => mFit A 0 b (mLd A 0 i 0) (mLd A 0 i 1) (mLd A 0 i 2)) l 0 0 (by decide)
    rw [Nat.zero_add] at this
    exact Nat.lt_of_lt_of_le this (pow_c hl)
  · decide
section ZMOD14
variable {d : Nat} {w w' : ZW} {A : Nat → Nat → Int32} {I : Nat → Int32} {ab be : Int64} {Q : Option Value → ZW → Prop}
theorem isM.q3 (h : isM w A I ab be) : zat w 78 (.inl (1, 150, A 3)) := h.2.2.2.2.1
theorem isM.q4 (h : isM w A I ab be) : zat w 79 (.inl (0, 4, A 4)) := h.2.2.2.2.2.1
theorem isM.q5 (h : isM w A I ab be) : zat w 80 (.inl (0, 7, A 5)) := h.2.2.2.2.2.2.1
theorem isM.q6 (h : isM w A I ab be) : zat w 81 (.inl (0, 128, A 6)) := h.2.2.2.2.2.2.2.1
theorem isM.q7 (h : isM w A I ab be) : zat w 82 (.inl (0, 7, A 7)) := h.2.2.2.2.2.2.2.2.1
theorem isM.q8 (h : isM w A I ab be) : zat w 83 (.inl (2, 128, A 8)) := h.2.2.2.2.2.2.2.2.2.1
theorem isM.q9 (h : isM w A I ab be) : zat w 84 (.inl (2, 128, A 9)) := h.2.2.2.2.2.2.2.2.2.2.1
theorem isM.q10 (h : isM w A I ab be) : zat w 85 (.inl (0, 4, A 10)) := h.2.2.2.2.2.2.2.2.2.2.2.1
theorem isM.q11 (h : isM w A I ab be) : zat w 86 (.inl (0, 7, A 11)) := h.2.2.2.2.2.2.2.2.2.2.2.2.1
theorem isM.q12 (h : isM w A I ab be) : zat w 87 (.inl (0, 7, A 12)) := h.2.2.2.2.2.2.2.2.2.2.2.2.2.1
theorem isM.q13 (h : isM w A I ab be) : zat w 88 (.inl (0, 49, A 13)) := h.2.2.2.2.2.2.2.2.2.2.2.2.2.2
theorem isM.b5 {f g : Nat → Int32} (h : isM w (va_up A 5 f) I ab be) : isM (zput w 80 (.inl (0, 7, g))) (va_up A 5 g) I ab be := by
  have := h.a5 (f := g)
  rwa [va_uu] at this
theorem isM.b6 {f g : Nat → Int32} (h : isM w (va_up A 6 f) I ab be) : isM (zput w 81 (.inl (0, 128, g))) (va_up A 6 g) I ab be := by
  have := h.a6 (f := g)
  rwa [va_uu] at this
theorem isM.b7 {f g : Nat → Int32} (h : isM w (va_up A 7 f) I ab be) : isM (zput w 82 (.inl (0, 7, g))) (va_up A 7 g) I ab be := by
  have := h.a7 (f := g)
  rwa [va_uu] at this
theorem isM.b8 {f g : Nat → Int32} (h : isM w (va_up A 8 f) I ab be) : isM (zput w 83 (.inl (2, 128, g))) (va_up A 8 g) I ab be := by
  have := h.a8 (f := g)
  rwa [va_uu] at this
theorem isM.b9 {f g : Nat → Int32} (h : isM w (va_up A 9 f) I ab be) : isM (zput w 84 (.inl (2, 128, g))) (va_up A 9 g) I ab be := by
  have := h.a9 (f := g)
  rwa [va_uu] at this
theorem isM.b10 {f g : Nat → Int32} (h : isM w (va_up A 10 f) I ab be) : isM (zput w 85 (.inl (0, 4, g))) (va_up A 10 g) I ab be := by
  have := h.a10 (f := g)
  rwa [va_uu] at this
theorem isM.b11 {f g : Nat → Int32} (h : isM w (va_up A 11 f) I ab be) : isM (zput w 86 (.inl (0, 7, g))) (va_up A 11 g) I ab be := by
  have := h.a11 (f := g)
  rwa [va_uu] at this
theorem isM.b12 {f g : Nat → Int32} (h : isM w (va_up A 12 f) I ab be) : isM (zput w 87 (.inl (0, 7, g))) (va_up A 12 g) I ab be := by
  have := h.a12 (f := g)
  rwa [va_uu] at this
theorem isM.b13 {f g : Nat → Int32} (h : isM w (va_up A 13 f) I ab be) : isM (zput w 88 (.inl (0, 49, g))) (va_up A 13 g) I ab be := by
  have := h.a13 (f := g)
  rwa [va_uu] at this
theorem isM.sf (h : isM w A I ab be) (k : Nat) : isM w (va_up A k (A k)) I ab be := by rw [va_us]; exact h
theorem m_type {t : Nat} {x : Int32} (h : isM w A I ab be) (hb : I 0 = nI 0) (ht : I 1 = nI t) (ht8 : t ≤ 150) (kB : ¬ (0 ≤ x ∧ x ≤ 127) → ∀ w', isM w' (toldI A 0 0) I ab be → zOff 74 89 w w' → Q (some (.int (-2))) w') (kF : 0 ≤ x → x ≤ 127 → t = 150 → ∀ w', isM w' (toldI A 0 2) I ab be → zOff 74 89 w w' → Q (some (.int (-4))) w') (kA : 0 ≤ x → x ≤ 127 → t < 150 → ∀ w' I', I' 1 = nI (t + 1) → (∀ i, ¬ i = 1 → I' i = I i) → isM w' (va_up A 3 (upd (A 3) t x)) I' ab be → zOff 74 89 w w' → Q (some (.int (nI (t + 1)))) w') : Zm (d + 2) mX9_type 0 0 [.ref 74, .int x] w Q := by
  refine zm_intro [_, _] oX9_type (Nat.le_of_ble_eq_true rfl) rfl ?_
  refine zw_iload_n dX9_type_0 rfl ?_
  refine zw_iconst dX9_type_1 0 (by decide) ?_
  refine zw_bipush dX9_type_2 127 (by decide) ?_
  refine zw_cS3 dX9_type_4 oX9_in kX9_in lX9_66 (Nat.le_of_ble_eq_true rfl) rfl (m_in (fun p1 p2 => ?_) (fun q => ?_))
  · show Zw _ _ _ 7 [_, _] [_] _ _
    refine zw_if_ne 17 dX9_type_7 (by decide) (fun _ => ?_) (fun hz => absurd hz (by decide))
    refine zw_aload_n dX9_type_17 rfl ?_
    refine zw_get dX9_type_18 fX9_129 h.1 rfl ?_
    refine zw_top (ht) ?_
    refine zw_sipush dX9_type_21 150 (by decide) ?_
    by_cases e8 : t = 150
    · have e9 : nI t = 150 := by rw [e8]; rfl
      refine zw_icmp_ne 34 dX9_type_24 (by decide) (fun hz => absurd (e9) hz) (fun _ => ?_)
      refine zw_aload_n dX9_type_27 rfl ?_
      refine zw_bipush dX9_type_28 (-4) (by decide) ?_
      refine zw_cV1 dX9_type_30 oX9_told kX9_told lX9_70 h.1 rfl (Nat.le_of_ble_eq_true rfl) rfl (m_toldR (j := 2) (by decide) hb (by decide) h (fun w1 h1 o1 => ?_))
      show Zw _ _ _ 33 [_, _] [_] _ _
      refine zw_ireturn .int dX9_type_33 rfl rfl (Nat.le_refl _) (Nat.le_refl _) ?_
      exact kF p1 p2 e8 w1 h1 o1
    · have e9 : ¬ nI t = 150 := fun q => e8 ((nI_eq (b := 150) (by omega) (by decide)).mp q)
      have eb : vp_nar .byte x.toInt8.toInt32 = x := by
        obtain ⟨j, hj, e⟩ := nI_of2 (M := 127) (n := 127) (by decide) (Int32.not_lt.mpr p1) p2
        subst e
        have : ∀ j, j < 128 → vp_nar .byte (nI j).toInt8.toInt32 = nI j := by decide +kernel
        exact this j (by omega)
      refine zw_icmp_ne 34 dX9_type_24 (by decide) (fun _ => ?_) (fun hz => absurd hz (e9))
      refine zw_aload_n dX9_type_34 rfl ?_
      refine zw_get dX9_type_35 fX9_20 h.1 rfl ?_
      refine zw_aload_n dX9_type_38 rfl ?_
      refine zw_get dX9_type_39 fX9_129 h.1 rfl ?_
      refine zw_top (ht) ?_
      refine zw_iload_n dX9_type_42 rfl ?_
      refine zw_i2b dX9_type_43 ?_
      refine zw_bast dX9_type_44 h.q3 (vp_in_nI (n := t) (by omega) (by decide)) ?_
      rw [nI_clamp (by omega), eb]
      have h1 := h.a3 (f := upd (A 3) t x)
      refine zw_aload_n dX9_type_45 rfl ?_
      refine zw_dup dX9_type_46 rfl ?_
      refine zw_get dX9_type_47 fX9_129 h1.1 rfl ?_
      refine zw_top (ht) ?_
      refine zw_iconst dX9_type_50 1 (by decide) ?_
      refine zw_iadd dX9_type_51 ?_
      refine zw_top (nI_1 t) ?_
      refine zw_put dX9_type_52 pX9_129 h1.1 (fun _ => rfl) (fun _ => rfl) (Nat.le_of_ble_eq_true rfl) ?_
      have h2 := h1.ob (I' := va_up I 1 (nI (t + 1))) (ab' := ab) (be' := be)
      refine zw_aload_n dX9_type_55 rfl ?_
      refine zw_get dX9_type_56 fX9_129 h2.1 rfl ?_
      refine zw_ireturn .int dX9_type_59 rfl rfl (Nat.le_refl _) (Nat.le_refl _) ?_
      exact kA p1 p2 (by omega) _ (va_up I 1 (nI (t + 1))) rfl (fun i hi => by unfold va_up; rw [if_neg hi]) h2 ((zOff.pt (by decide) (by decide)).tr (zOff.pt (by decide) (by decide)))
  · show Zw _ _ _ 7 [_, _] [_] _ _
    refine zw_if_ne 17 dX9_type_7 (by decide) (fun hz => absurd (by decide) hz) (fun _ => ?_)
    refine zw_aload_n dX9_type_10 rfl ?_
    refine zw_bipush dX9_type_11 (-2) (by decide) ?_
    refine zw_cV1 dX9_type_13 oX9_told kX9_told lX9_70 h.1 rfl (Nat.le_of_ble_eq_true rfl) rfl (m_toldR (j := 0) (by decide) hb (by decide) h (fun w1 h1 o1 => ?_))
    show Zw _ _ _ 16 [_, _] [_] _ _
    refine zw_ireturn .int dX9_type_16 rfl rfl (Nat.le_refl _) (Nat.le_refl _) ?_
    exact kB q w1 h1 o1
theorem m_lend {n m : Nat} {x y z : Int32} (h : isM w A I ab be) (hb : I 0 = nI 0) (hm : A 0 (0 + 1) = nI m) (hm7 : m ≤ 7) (hn : A 0 (0 + 3) = nI n) (hn8 : n ≤ 8) (kB : ¬ okTale m x y z → ∀ w', isM w' (toldI A 0 0) I ab be → zOff 74 89 w w' → Q (some (.int (-2))) w') (kF : okTale m x y z → n = 8 → ∀ w', isM w' (toldI A 0 2) I ab be → zOff 74 89 w w' → Q (some (.int (-4))) w') (kA : okTale m x y z → n < 8 → ∀ w', isM w' (mp (mp (mp (mp A 0 (85 + 3 * n) x) 0 (85 + 3 * n + 1) y) 0 (85 + 3 * n + 2) z) 0 3 (nI (n + 1))) I ab be → zOff 74 89 w w' → Q (some (.int (nI n))) w') : Zm (d + 2) mX9_lend 0 0 [.ref 74, .int x, .int y, .int z] w Q := by
  have bad : ¬ okTale m x y z → Zw (d + 2) mX9_lend z0 31 [some (.ref 74), some (.int x), some (.int y), some (.int z), none] [] w Q := by
    intro q
    refine zw_aload_n dX9_lend_31 rfl ?_
    refine zw_bipush dX9_lend_32 (-2) (by decide) ?_
    refine zw_cV1 dX9_lend_34 oX9_told kX9_told lX9_70 h.1 rfl (Nat.le_of_ble_eq_true rfl) rfl (m_toldR (j := 0) (by decide) hb (by decide) h (fun w1 h1 o1 => ?_))
    show Zw _ _ _ 37 [_, _, _, _, _] [_] _ _
    refine zw_ireturn .int dX9_lend_37 rfl rfl (Nat.le_refl _) (Nat.le_refl _) ?_
    exact kB q w1 h1 o1
  refine zm_intro [_, _, _, _, _] oX9_lend (Nat.le_of_ble_eq_true rfl) rfl ?_
  refine zw_iload_n dX9_lend_0 rfl ?_
  refine zw_iconst dX9_lend_1 0 (by decide) ?_
  refine zw_iconst dX9_lend_2 4 (by decide) ?_
  refine zw_cS3 dX9_lend_3 oX9_in kX9_in lX9_66 (Nat.le_of_ble_eq_true rfl) rfl (m_in (fun p1 p2 => ?_) (fun q => ?_))
  · show Zw _ _ _ 6 [_, _, _, _, _] [_] _ _
    refine zw_if_eq 31 dX9_lend_6 (by decide) (fun hz => absurd hz (by decide)) (fun _ => ?_)
    refine zw_aload_n dX9_lend_9 rfl ?_
    refine zw_iload_n dX9_lend_10 rfl ?_
    refine zw_cV1 dX9_lend_11 oX9_isLid kX9_isLid lX9_91 h.1 rfl (Nat.le_of_ble_eq_true rfl) rfl (m_isLid (b := 0) h hb (by decide) hm (by omega) (fun r hr er => ?_) (fun q => ?_))
    · show Zw _ _ _ 14 [_, _, _, _, _] [_] _ _
      refine zw_if_eq 31 dX9_lend_14 (by decide) (fun hz => absurd hz (by decide)) (fun _ => ?_)
      refine zw_iload_n dX9_lend_17 rfl ?_
      refine zw_iconst dX9_lend_18 0 (by decide) ?_
      refine zw_iconst dX9_lend_19 4 (by decide) ?_
      refine zw_cS3 dX9_lend_20 oX9_in kX9_in lX9_66 (Nat.le_of_ble_eq_true rfl) rfl (m_in (fun p3 p4 => ?_) (fun q => ?_))
      · show Zw _ _ _ 23 [_, _, _, _, _] [_] _ _
        refine zw_if_eq 31 dX9_lend_23 (by decide) (fun hz => absurd hz (by decide)) (fun _ => ?_)
        refine zw_iload_n dX9_lend_26 rfl ?_
        refine zw_iload_n dX9_lend_27 rfl ?_
        by_cases e : x = z
        · refine zw_icmp_ne 38 dX9_lend_28 (by decide) (fun hz => absurd (e) hz) (fun _ => ?_)
          exact bad (fun o => o.2.2.2 e)
        · refine zw_icmp_ne 38 dX9_lend_28 (by decide) (fun _ => ?_) (fun hz => absurd hz (e))
          have ok : okTale m x y z := ⟨⟨p1, p2⟩, ⟨r, hr, er⟩, ⟨p3, p4⟩, e⟩
          exact m_lendT h hb hn hn8 (kF ok) (kA ok)
      · show Zw _ _ _ 23 [_, _, _, _, _] [_] _ _
        refine zw_if_eq 31 dX9_lend_23 (by decide) (fun _ => ?_) (fun hz => absurd (by decide) hz)
        exact bad (fun o => q o.2.2.1)
    · show Zw _ _ _ 14 [_, _, _, _, _] [_] _ _
      refine zw_if_eq 31 dX9_lend_14 (by decide) (fun _ => ?_) (fun hz => absurd (by decide) hz)
      exact bad (fun o => by obtain ⟨_, ⟨s, hs, es⟩, _⟩ := o; exact q s hs es)
  · show Zw _ _ _ 6 [_, _, _, _, _] [_] _ _
    refine zw_if_eq 31 dX9_lend_6 (by decide) (fun _ => ?_) (fun hz => absurd (by decide) hz)
    exact bad (fun o => q o.1)
/-- tale i isn't so -/
def mWr (A : Nat → Nat → Int32) (i : Nat) : Bool := !decide (mWho A (A 0 (0 + (85 + 3 * i + 1))) 0 i 0 = A 0 (0 + (85 + 3 * i)))
theorem m_wrongL {n : Nat} (h : isM w A I ab be) (hb : I 0 = nI 0) (hn : A 0 (0 + 3) = nI n) (hn8 : n ≤ 8) : ∀ (k i : Nat), i + k = n → Q (some (.int (fnd (mWr A) i k))) w → Zw (d + 2) mX9_wrong z0 2 [some (.ref 74), some (.int (nI i))] [] w Q := by
  intro k
  induction k with
  | zero =>
    intro i hi kk
    refine zw_iload_n dX9_wrong_2 rfl ?_
    refine zw_aload_n dX9_wrong_3 rfl ?_
    refine zw_iconst dX9_wrong_4 3 (by decide) ?_
    refine zw_cV1 dX9_wrong_5 oX9_get kX9_get lX9_62 h.1 rfl (Nat.le_of_ble_eq_true rfl) rfl (m_get (b := 0) (j := 3) h hb (by omega) ?_)
    show Zw _ _ _ 8 [_, _] [_, _] _ _
    refine zw_top (hn) ?_
    refine zw_icmp_ge 49 dX9_wrong_8 (by decide) (fun _ => ?_) (fun hz => absurd (nI_le (by omega) (by omega)) hz)
    refine zw_iconst dX9_wrong_49 (-1) (by decide) ?_
    refine zw_ireturn .int dX9_wrong_50 rfl rfl (Nat.le_refl _) (Nat.le_refl _) ?_
    exact kk
  | succ k ih =>
    intro i hi kk
    unfold fnd at kk
    refine zw_iload_n dX9_wrong_2 rfl ?_
    refine zw_aload_n dX9_wrong_3 rfl ?_
    refine zw_iconst dX9_wrong_4 3 (by decide) ?_
    refine zw_cV1 dX9_wrong_5 oX9_get kX9_get lX9_62 h.1 rfl (Nat.le_of_ble_eq_true rfl) rfl (m_get (b := 0) (j := 3) h hb (by omega) ?_)
    show Zw _ _ _ 8 [_, _] [_, _] _ _
    refine zw_top (hn) ?_
    refine zw_icmp_ge 49 dX9_wrong_8 (by decide) (fun hz => absurd hz (nI_ge (by omega) (by omega))) (fun _ => ?_)
    refine zw_aload_n dX9_wrong_11 rfl ?_
    refine zw_aload_n dX9_wrong_12 rfl ?_
    refine zw_bipush dX9_wrong_13 85 (by decide) ?_
    refine zw_iconst dX9_wrong_15 3 (by decide) ?_
    refine zw_iload_n dX9_wrong_16 rfl ?_
    refine zw_imul dX9_wrong_17 ?_
    refine zw_iadd dX9_wrong_18 ?_
    refine zw_iconst dX9_wrong_19 1 (by decide) ?_
    refine zw_iadd dX9_wrong_20 ?_
    refine zw_top (y := nI (85 + 3 * i + 1)) (by rw [← nI_add, ← nI_add, ← pk_mul]; rfl) ?_
    refine zw_cV1 dX9_wrong_21 oX9_get kX9_get lX9_62 h.1 rfl (Nat.le_of_ble_eq_true rfl) rfl (m_get (b := 0) (j := 85 + 3 * i + 1) h hb (by omega) ?_)
    show Zw _ _ _ 24 [_, _] [_, _] _ _
    refine zw_iload_n dX9_wrong_24 rfl ?_
    refine zw_cV2 dX9_wrong_25 oX9_whoHas kX9_whoHas lX9_231 h.1 rfl (Nat.le_of_ble_eq_true rfl) rfl (m_whoHas h hb (by omega) ?_)
    show Zw _ _ _ 28 [_, _] [_] _ _
    refine zw_aload_n dX9_wrong_28 rfl ?_
    refine zw_bipush dX9_wrong_29 85 (by decide) ?_
    refine zw_iconst dX9_wrong_31 3 (by decide) ?_
    refine zw_iload_n dX9_wrong_32 rfl ?_
    refine zw_imul dX9_wrong_33 ?_
    refine zw_iadd dX9_wrong_34 ?_
    refine zw_top (y := nI (85 + 3 * i)) (by rw [← nI_add, ← pk_mul]; rfl) ?_
    refine zw_cV1 dX9_wrong_35 oX9_get kX9_get lX9_62 h.1 rfl (Nat.le_of_ble_eq_true rfl) rfl (m_get (b := 0) (j := 85 + 3 * i) h hb (by omega) ?_)
    show Zw _ _ _ 38 [_, _] [_, _] _ _
    by_cases e : mWho A (A 0 (0 + (85 + 3 * i + 1))) 0 i 0 = A 0 (0 + (85 + 3 * i))
    · have e1 : mWr A i = false := by unfold mWr; rw [decide_eq_true e]; rfl
      rw [if_neg (by rw [e1]; decide)] at kk
      refine zw_icmp_eq 43 dX9_wrong_38 (by decide) (fun _ => ?_) (fun hz => absurd (e) hz)
      refine zw_iinc (nI (i + 1)) [_, _] dX9_wrong_43 rfl (nI_1 i) rfl ?_
      refine zw_goto 2 dX9_wrong_46 (by decide) ?_
      exact ih (i + 1) (by omega) kk
    · have e1 : mWr A i = true := by unfold mWr; rw [decide_eq_false e]; rfl
      rw [if_pos e1] at kk
      refine zw_icmp_eq 43 dX9_wrong_38 (by decide) (fun hz => absurd hz (e)) (fun _ => ?_)
      refine zw_iload_n dX9_wrong_41 rfl ?_
      refine zw_ireturn .int dX9_wrong_42 rfl rfl (Nat.le_refl _) (Nat.le_refl _) ?_
      exact kk
theorem m_wrong {n : Nat} (h : isM w A I ab be) (hb : I 0 = nI 0) (hn : A 0 (0 + 3) = nI n) (hn8 : n ≤ 8) (k : Q (some (.int (fnd (mWr A) 0 n))) w) : Zm (d + 2) mX9_wrong 0 0 [.ref 74] w Q := by
  refine zm_intro [_, _] oX9_wrong (Nat.le_of_ble_eq_true rfl) rfl ?_
  refine zw_iconst dX9_wrong_0 0 (by decide) ?_
  refine zw_istore_n [_, _] dX9_wrong_1 (Nat.le_of_ble_eq_true rfl) rfl ?_
  exact m_wrongL h hb hn hn8 n 0 (by omega) k
theorem shl_m1 : ∀ c, c < 8 → (1 : Int32) <<< (nI c &&& 31) - 1 = nI (2 ^ c - 1) := by decide +kernel
theorem m_boxes {n : Nat} (h : isM w A I ab be) (hb : I 0 = nI 0) (hn : A 0 0 = nI n) (hn7 : n ≤ 7) (k : Q (some (.int (nI (2 ^ n - 1)))) w) : Zm (d + 1) mX9_boxes 0 0 [.ref 74] w Q := by
  refine zm_intro [_] oX9_boxes (Nat.le_of_ble_eq_true rfl) rfl ?_
  refine zw_iconst dX9_boxes_0 1 (by decide) ?_
  refine zw_aload_n dX9_boxes_1 rfl ?_
  refine zw_iconst dX9_boxes_2 0 (by decide) ?_
  refine zw_cV1 dX9_boxes_3 oX9_get kX9_get lX9_62 h.1 rfl (Nat.le_of_ble_eq_true rfl) rfl (m_get (b := 0) (j := 0) h hb (by omega) ?_)
  show Zw _ _ _ 6 [_] [_, _] _ _
  refine zw_top (hn) ?_
  refine zw_ishl dX9_boxes_6 ?_
  refine zw_iconst dX9_boxes_7 1 (by decide) ?_
  refine zw_isub dX9_boxes_8 ?_
  refine zw_top (shl_m1 n (by omega)) ?_
  refine zw_ireturn .int dX9_boxes_9 rfl rfl (Nat.le_refl _) (Nat.le_refl _) ?_
  exact k
theorem m_lids {n : Nat} (h : isM w A I ab be) (hb : I 0 = nI 0) (hn : A 0 (0 + 1) = nI n) (hn7 : n ≤ 7) (k : Q (some (.int (nI (2 ^ n - 1)))) w) : Zm (d + 1) mX9_lids 0 0 [.ref 74] w Q := by
  refine zm_intro [_] oX9_lids (Nat.le_of_ble_eq_true rfl) rfl ?_
  refine zw_iconst dX9_lids_0 1 (by decide) ?_
  refine zw_aload_n dX9_lids_1 rfl ?_
  refine zw_iconst dX9_lids_2 1 (by decide) ?_
  refine zw_cV1 dX9_lids_3 oX9_get kX9_get lX9_62 h.1 rfl (Nat.le_of_ble_eq_true rfl) rfl (m_get (b := 0) (j := 1) h hb (by omega) ?_)
  show Zw _ _ _ 6 [_] [_, _] _ _
  refine zw_top (hn) ?_
  refine zw_ishl dX9_lids_6 ?_
  refine zw_iconst dX9_lids_7 1 (by decide) ?_
  refine zw_isub dX9_lids_8 ?_
  refine zw_top (shl_m1 n (by omega)) ?_
  refine zw_ireturn .int dX9_lids_9 rfl rfl (Nat.le_refl _) (Nat.le_refl _) ?_
  exact k
theorem m_ffI {n l b : Nat} {w0 : ZW} (hb : I 0 = nI 0) (hn : A 0 0 = nI n) (hn7 : n ≤ 7) (hl : A 0 (0 + 1) = nI l) (hl7 : l ≤ 7) (hk : ∀ i, i < l → ∃ j, j < 6 ∧ mLd A 0 i 0 = nI j) (hbn : b < n) (hK : ∀ w f o, (∀ j, j < b + 1 → f j = nI (mG A n l j)) → isM w (va_up A 5 f) I ab be → zOff 74 89 w0 w → Zw (d + 5) mX9_findFits z0 66 [some (.ref 74), some (.int (nI b)), o] [] w Q) : ∀ (k i m : Nat) (f : Nat → Int32) (w : ZW), i + k = l → m < 2 ^ i → f b = nI m → (∀ j, j < b → f j = nI (mG A n l j)) → mskF (fun i => mFit A 0 b (mLd A 0 i 0) (mLd A 0 i 1) (mLd A 0 i 2)) i k m = mG A n l b → isM w (va_up A 5 f) I ab be → zOff 74 89 w0 w → Zw (d + 5) mX9_findFits z0 17 [some (.ref 74), some (.int (nI b)), some (.int (nI i))] [] w Q := by
  intro k
  induction k with
  | zero =>
    intro i m f w hi hm hf hj hR h ho
    refine zw_iload_n dX9_findFits_17 rfl ?_
    refine zw_aload_n dX9_findFits_18 rfl ?_
    refine zw_iconst dX9_findFits_19 1 (by decide) ?_
    refine zw_cV1 dX9_findFits_20 oX9_get kX9_get lX9_62 h.1 rfl (Nat.le_of_ble_eq_true rfl) rfl (m_get (b := 0) (j := 1) h hb (by omega) ?_)
    show Zw _ _ _ 23 [_, _, _] [_, _] _ _
    refine zw_top (y := nI l) hl ?_
    refine zw_icmp_ge 66 dX9_findFits_23 (by decide) (fun _ => ?_) (fun hz => absurd (nI_le (by omega) (by omega)) hz)
    refine hK w f _ (fun j hj' => ?_) h ho
    by_cases e : j = b
    · rw [e, hf]
      exact congrArg nI hR
    · exact hj j (by omega)
  | succ k ih =>
    intro i m f w hi hm hf hj hR h ho
    unfold mskF at hR
    have hin := vp_in_nI (n := b) (N := 7) (by omega) (by decide)
    refine zw_iload_n dX9_findFits_17 rfl ?_
    refine zw_aload_n dX9_findFits_18 rfl ?_
    refine zw_iconst dX9_findFits_19 1 (by decide) ?_
    refine zw_cV1 dX9_findFits_20 oX9_get kX9_get lX9_62 h.1 rfl (Nat.le_of_ble_eq_true rfl) rfl (m_get (b := 0) (j := 1) h hb (by omega) ?_)
    show Zw _ _ _ 23 [_, _, _] [_, _] _ _
    refine zw_top (y := nI l) hl ?_
    refine zw_icmp_ge 66 dX9_findFits_23 (by decide) (fun hz => absurd hz (nI_ge (by omega) (by omega))) (fun _ => ?_)
    refine zw_iload_n dX9_findFits_26 rfl ?_
    refine zw_aload_n dX9_findFits_27 rfl ?_
    refine zw_iconst dX9_findFits_28 0 (by decide) ?_
    refine zw_cV1 dX9_findFits_29 oX9_get kX9_get lX9_62 h.1 rfl (Nat.le_of_ble_eq_true rfl) rfl (m_get (b := 0) (j := 0) h hb (by omega) ?_)
    show Zw _ _ _ 32 [_, _, _] [_, _] _ _
    refine zw_top (y := nI n) hn ?_
    refine zw_icmp_ge 66 dX9_findFits_32 (by decide) (fun hz => absurd hz (nI_ge (by omega) (by omega))) (fun _ => ?_)
    refine zw_aload_n dX9_findFits_35 rfl ?_
    refine zw_get dX9_findFits_36 fX9_27 h.1 rfl ?_
    refine zw_iload_n dX9_findFits_39 rfl ?_
    refine zw_dup2 dX9_findFits_40 rfl rfl ?_
    refine zw_iald dX9_findFits_41 h.q5 hin ?_
    rw [nI_clamp (by omega)]
    refine zw_top (y := nI m) hf ?_
    refine zw_aload_n dX9_findFits_42 rfl ?_
    refine zw_iload_n dX9_findFits_43 rfl ?_
    refine zw_iload_n dX9_findFits_44 rfl ?_
    refine zw_cV2 dX9_findFits_45 oX9_doesFit kX9_doesFit lX9_98 h.1 rfl (Nat.le_of_ble_eq_true rfl) rfl (m_doesFit (b := 0) (l := i) (r := b) h hb (by decide) (by omega) (by omega) (hk i (by omega)) ?_)
    show Zw _ _ _ 48 [_, _, _] [_, _, _, _] _ _
    by_cases hq : mFit A 0 b (mLd A 0 i 0) (mLd A 0 i 1) (mLd A 0 i 2) = true
    · have hq' : mFit (va_up A 5 f) 0 b (mLd (va_up A 5 f) 0 i 0) (mLd (va_up A 5 f) 0 i 1) (mLd (va_up A 5 f) 0 i 2) = true := hq
      rw [hq']
      rw [if_pos hq] at hR
      refine zw_if_eq 57 dX9_findFits_48 (by decide) (fun hz => absurd hz (by decide)) (fun _ => ?_)
      refine zw_iconst dX9_findFits_51 1 (by decide) ?_
      refine zw_iload_n dX9_findFits_52 rfl ?_
      refine zw_ishl dX9_findFits_53 ?_
      refine zw_goto 58 dX9_findFits_54 (by decide) ?_
      refine zw_ior dX9_findFits_58 ?_
      refine zw_top (or_bit i (by omega) m hm) ?_
      refine zw_iast dX9_findFits_59 h.q5 hin ?_
      rw [nI_clamp (by omega)]
      refine zw_iinc (nI (i + 1)) [_, _, _] dX9_findFits_60 rfl (nI_1 i) rfl ?_
      refine zw_goto 17 dX9_findFits_63 (by decide) ?_
      refine ih (i + 1) (m + 2 ^ i) _ _ (by omega) (by rw [Nat.pow_succ]; omega) pk_us (fun j hj' => ?_) hR h.b5 (ho.tr (zOff.pt (by decide) (by decide)))
      exact (pk_un (by omega)).trans (hj j hj')
    · have hq' : mFit (va_up A 5 f) 0 b (mLd (va_up A 5 f) 0 i 0) (mLd (va_up A 5 f) 0 i 1) (mLd (va_up A 5 f) 0 i 2) = false := by
        have : mFit A 0 b (mLd A 0 i 0) (mLd A 0 i 1) (mLd A 0 i 2) = false := by simpa using hq
        exact this
      rw [hq']
      rw [if_neg hq] at hR
      refine zw_if_eq 57 dX9_findFits_48 (by decide) (fun _ => ?_) (fun hz => absurd (by decide) hz)
      refine zw_iconst dX9_findFits_57 0 (by decide) ?_
      refine zw_ior dX9_findFits_58 ?_
      refine zw_top (y := nI m) (by simp) ?_
      refine zw_iast dX9_findFits_59 h.q5 hin ?_
      rw [nI_clamp (by omega)]
      refine zw_iinc (nI (i + 1)) [_, _, _] dX9_findFits_60 rfl (nI_1 i) rfl ?_
      refine zw_goto 17 dX9_findFits_63 (by decide) ?_
      refine ih (i + 1) m _ _ (by omega) (by rw [Nat.pow_succ]; omega) pk_us (fun j hj' => ?_) hR h.b5 (ho.tr (zOff.pt (by decide) (by decide)))
      exact (pk_un (by omega)).trans (hj j hj')
theorem m_ffO {n l : Nat} {w0 : ZW} (hb : I 0 = nI 0) (hn : A 0 0 = nI n) (hn7 : n ≤ 7) (hl : A 0 (0 + 1) = nI l) (hl7 : l ≤ 7) (hk : ∀ i, i < l → ∃ j, j < 6 ∧ mLd A 0 i 0 = nI j) (hK : ∀ w' f, (∀ j, j < 7 → f j = nI (mG A n l j)) → isM w' (va_up A 5 f) I ab be → zOff 74 89 w0 w' → Q none w') : ∀ (k b : Nat) (f : Nat → Int32) (w : ZW) (o : Option Value), b + k = 7 → (∀ j, j < b → f j = nI (mG A n l j)) → isM w (va_up A 5 f) I ab be → zOff 74 89 w0 w → Zw (d + 5) mX9_findFits z0 2 [some (.ref 74), some (.int (nI b)), o] [] w Q := by
  intro k
  induction k with
  | zero =>
    intro b f w o hi hj h ho
    refine zw_iload_n dX9_findFits_2 rfl ?_
    refine zw_bipush dX9_findFits_3 7 (by decide) ?_
    refine zw_icmp_ge 72 dX9_findFits_5 (by decide) (fun _ => ?_) (fun hz => absurd (nI_le (a := 7) (by omega) (by omega)) hz)
    refine zw_return dX9_findFits_72 rfl (Nat.le_refl _) (Nat.le_refl _) ?_
    exact hK w f (fun j hj' => hj j (by omega)) h ho
  | succ k ih =>
    intro b f w o hi hj h ho
    have hin := vp_in_nI (n := b) (N := 7) (by omega) (by decide)
    refine zw_iload_n dX9_findFits_2 rfl ?_
    refine zw_bipush dX9_findFits_3 7 (by decide) ?_
    refine zw_icmp_ge 72 dX9_findFits_5 (by decide) (fun hz => absurd hz (nI_ge (b := 7) (by omega) (by omega))) (fun _ => ?_)
    refine zw_aload_n dX9_findFits_8 rfl ?_
    refine zw_get dX9_findFits_9 fX9_27 h.1 rfl ?_
    refine zw_iload_n dX9_findFits_12 rfl ?_
    refine zw_iconst dX9_findFits_13 0 (by decide) ?_
    refine zw_iast dX9_findFits_14 h.q5 hin ?_
    rw [nI_clamp (by omega)]
    refine zw_iconst dX9_findFits_15 0 (by decide) ?_
    refine zw_istore_n [_, _, _] dX9_findFits_16 (Nat.le_of_ble_eq_true rfl) rfl ?_
    have h1 : isM _ (va_up A 5 (upd f b 0)) I ab be := h.b5
    have o1 := ho.tr (zOff.pt (w := w) (i := 80) (e := .inl (0, 7, upd f b 0)) (lo := 74) (hi := 89) (by decide) (by decide))
    have hj1 : ∀ j, j < b → upd f b 0 j = nI (mG A n l j) := fun j hj' => (pk_un (by omega)).trans (hj j hj')
    have hK1 : ∀ w f o, (∀ j, j < b + 1 → f j = nI (mG A n l j)) → isM w (va_up A 5 f) I ab be → zOff 74 89 w0 w → Zw (d + 5) mX9_findFits z0 66 [some (.ref 74), some (.int (nI b)), o] [] w Q := by
      intro w f o hj h ho
      refine zw_iinc (nI (b + 1)) [_, _, _] dX9_findFits_66 rfl (nI_1 b) rfl ?_
      refine zw_goto 2 dX9_findFits_69 (by decide) ?_
      exact ih (b + 1) f w o (by omega) hj h ho
    by_cases hbn : b < n
    · exact m_ffI hb hn hn7 hl hl7 hk hbn hK1 l 0 0 _ _ (by omega) (by decide) pk_us hj1 (by unfold mG; rw [if_pos hbn]) h1 o1
    · have hz : ∀ j, j < b + 1 → upd f b 0 j = nI (mG A n l j) := by
        intro j hj'
        by_cases e : j = b
        · subst e
          refine pk_us.trans ?_
          unfold mG
          rw [if_neg hbn]
          rfl
        · exact hj1 j (by omega)
      have hs := hK1 _ _ (some (.int (nI 0))) hz h1 o1
      refine zw_iload_n dX9_findFits_17 rfl ?_
      refine zw_aload_n dX9_findFits_18 rfl ?_
      refine zw_iconst dX9_findFits_19 1 (by decide) ?_
      refine zw_cV1 dX9_findFits_20 oX9_get kX9_get lX9_62 h1.1 rfl (Nat.le_of_ble_eq_true rfl) rfl (m_get (b := 0) (j := 1) h1 hb (by omega) ?_)
      show Zw _ _ _ 23 [_, _, _] [_, _] _ _
      refine zw_top (y := nI l) hl ?_
      by_cases h0 : l = 0
      · refine zw_icmp_ge 66 dX9_findFits_23 (by decide) (fun _ => ?_) (fun hz => absurd (nI_le (b := 0) (by omega) (by omega)) hz)
        exact hs
      · refine zw_icmp_ge 66 dX9_findFits_23 (by decide) (fun hz => absurd hz (nI_ge (a := 0) (by omega) (by omega))) (fun _ => ?_)
        refine zw_iload_n dX9_findFits_26 rfl ?_
        refine zw_aload_n dX9_findFits_27 rfl ?_
        refine zw_iconst dX9_findFits_28 0 (by decide) ?_
        refine zw_cV1 dX9_findFits_29 oX9_get kX9_get lX9_62 h1.1 rfl (Nat.le_of_ble_eq_true rfl) rfl (m_get (b := 0) (j := 0) h1 hb (by omega) ?_)
        show Zw _ _ _ 32 [_, _, _] [_, _] _ _
        refine zw_top (y := nI n) hn ?_
        refine zw_icmp_ge 66 dX9_findFits_32 (by decide) (fun _ => ?_) (fun hz => absurd (nI_le (by omega) (by omega)) hz)
        exact hs
theorem m_findFits {n l : Nat} (h : isM w A I ab be) (hb : I 0 = nI 0) (hn : A 0 0 = nI n) (hn7 : n ≤ 7) (hl : A 0 (0 + 1) = nI l) (hl7 : l ≤ 7) (hk : ∀ i, i < l → ∃ j, j < 6 ∧ mLd A 0 i 0 = nI j) (k : ∀ w' f, (∀ j, j < 7 → f j = nI (mG A n l j)) → isM w' (va_up A 5 f) I ab be → zOff 74 89 w w' → Q none w') : Zm (d + 5) mX9_findFits 0 0 [.ref 74] w Q := by
  refine zm_intro [_, _, _] oX9_findFits (Nat.le_of_ble_eq_true rfl) rfl ?_
  refine zw_iconst dX9_findFits_0 0 (by decide) ?_
  refine zw_istore_n [_, _, _] dX9_findFits_1 (Nat.le_of_ble_eq_true rfl) rfl ?_
  exact m_ffO (w0 := w) hb hn hn7 hl hl7 hk k 7 0 _ w _ (by omega) (fun j hj => absurd hj (by omega)) (h.sf 5) zOff.rf
theorem m_fits {n l : Nat} {x : Int32} (h : isM w A I ab be) (hb : I 0 = nI 0) (hn : A 0 0 = nI n) (hn7 : n ≤ 7) (hl : A 0 (0 + 1) = nI l) (hl7 : l ≤ 7) (hk : ∀ i, i < l → ∃ j, j < 6 ∧ mLd A 0 i 0 = nI j) (kB : (∀ r, r < n → ¬ x = nI r) → ∀ w', isM w' (toldI A 0 0) I ab be → zOff 74 89 w w' → Q (some (.int (-2))) w') (kA : ∀ r, r < n → x = nI r → ∀ w' f, isM w' (va_up A 5 f) I ab be → zOff 74 89 w w' → Q (some (.int (nI (mG A n l r)))) w') : Zm (d + 6) mX9_fits 0 0 [.ref 74, .int x] w Q := by
  refine zm_intro [_, _] oX9_fits (Nat.le_of_ble_eq_true rfl) rfl ?_
  refine zw_aload_n dX9_fits_0 rfl ?_
  refine zw_iload_n dX9_fits_1 rfl ?_
  refine zw_cV1 dX9_fits_2 oX9_isBox kX9_isBox lX9_95 h.1 rfl (Nat.le_of_ble_eq_true rfl) rfl (m_isBox (b := 0) h hb (by decide) hn (by omega) (fun r hr e => ?_) (fun q => ?_))
  · have kk := kA r hr e
    subst e
    show Zw _ _ _ 5 [_, _] [_] _ _
    refine zw_if_ne 15 dX9_fits_5 (by decide) (fun _ => ?_) (fun hz => absurd hz (by decide))
    refine zw_aload_n dX9_fits_15 rfl ?_
    refine zw_cV0 dX9_fits_16 oX9_findFits kX9_findFits lX9_172 h.1 rfl (Nat.le_of_ble_eq_true rfl) rfl (m_findFits h hb hn hn7 hl hl7 hk (fun w1 f hf h1 o1 => ?_))
    show Zw _ _ _ 19 [_, _] [] _ _
    refine zw_aload_n dX9_fits_19 rfl ?_
    refine zw_get dX9_fits_20 fX9_27 h1.1 rfl ?_
    refine zw_iload_n dX9_fits_23 rfl ?_
    refine zw_iald dX9_fits_24 h1.q5 (vp_in_nI (n := r) (by omega) (by decide)) ?_
    rw [nI_clamp (by omega)]
    refine zw_top (y := nI (mG A n l r)) (hf r (by omega)) ?_
    refine zw_ireturn .int dX9_fits_25 rfl rfl (Nat.le_refl _) (Nat.le_refl _) ?_
    exact kk w1 f h1 o1
  · show Zw _ _ _ 5 [_, _] [_] _ _
    refine zw_if_ne 15 dX9_fits_5 (by decide) (fun hz => absurd (by decide) hz) (fun _ => ?_)
    refine zw_aload_n dX9_fits_8 rfl ?_
    refine zw_bipush dX9_fits_9 (-2) (by decide) ?_
    refine zw_cV1 dX9_fits_11 oX9_told kX9_told lX9_70 h.1 rfl (Nat.le_of_ble_eq_true rfl) rfl (m_toldR (j := 0) (by decide) hb (by decide) h (fun w1 h1 o1 => ?_))
    show Zw _ _ _ 14 [_, _] [_] _ _
    refine zw_ireturn .int dX9_fits_14 rfl rfl (Nat.le_refl _) (Nat.le_refl _) ?_
    exact kB q w1 h1 o1
end ZMOD14
