/-! ===== the Model: piles, what is covered, soup, much, worth, spare, lacking ===== -/
def mNest (A : Nat → Nat → Int32) (a b : Nat) : Bool := (decide (mB A 0 a 0 = mB A 0 b 0) || (decide (mB A 0 a 0 = 0) && decide (mB A 0 b 0 = 2))) && decide (mB A 0 a 1 < mB A 0 b 1)
def mP (A : Nat → Nat → Int32) (n a : Nat) : Nat := if a < n then mskF (fun b => mNest A a b) 0 n 0 else 0
theorem mP_lt {A : Nat → Nat → Int32} {n a : Nat} (hl : n ≤ 7) : mP A n a < 128 := by
  unfold mP
  split
  · have := mskF_lt (fun b => mNest A a b) n 0 0 (by decide)
    rw [Nat.zero_add] at this
    exact Nat.lt_of_lt_of_le this (pow_c hl)
  · decide
theorem mMany_pop : ∀ s, s < 128 → mMany s 0 7 0 = nI (pop7 s) := by decide +kernel
theorem maxR_le {R : Nat → Bool} : ∀ (k i m : Nat), i + k ≤ 128 → m ≤ 7 → maxR R i k m ≤ 7 := by
  intro k
  induction k with
  | zero => intro i m _ h; exact h
  | succ k ih =>
    intro i m hi h
    unfold maxR
    split
    · exact ih _ _ (by omega) (pop_le i (by omega))
    · exact ih _ _ (by omega) h
theorem mostN_le {g : Nat → Nat} {r c : Nat} : mostN g r c ≤ 7 := maxR_le 128 0 0 (by decide) (by decide)
/-- the boxes of s can all have lids at once -/
def covB (g : Nat → Nat) (s cols : Nat) : Bool := decide (mostN g s cols = pop7 s)
theorem mSum_up {A : Nat → Nat → Int32} {f : Nat → Int32} {s c j : Nat} : ∀ (k i : Nat) (a : Int32), mSum (va_up A (j + 1) f) s c i k a = mSum A s c i k a := by
  intro k
  induction k with
  | zero => intro i a; rfl
  | succ k ih => intro i a; unfold mSum; rw [ih]; rfl
def soF (A : Nat → Nat → Int32) (g : Nat → Nat) (n cols : Nat) (am : Int32) (i k : Nat) (fo : Int32) : Int32 := match k with
  | 0 => fo
  | k + 1 => soF A g n cols am (i + 1) k (if (am ≤ mSum A i 2 0 n 0 ∧ (fo = -1 ∨ mSum A i 1 0 n 0 < mSum A fo.toNatClampNeg 1 0 n 0)) ∧ covB g i cols = true then nI i else fo)
def muF (A : Nat → Nat → Int32) (g : Nat → Nat) (n cols i k : Nat) (m : Int32) : Int32 := match k with
  | 0 => m
  | k + 1 => muF A g n cols (i + 1) k (if m < mSum A i 2 0 n 0 ∧ covB g i cols = true then mSum A i 2 0 n 0 else m)
def anyF (g : Nat → Nat) (s b k a : Nat) : Nat := match k with
  | 0 => a
  | k + 1 => anyF g s (b + 1) k (a ||| if s.testBit b = true then g b else 0)
theorem or_lt {a b : Nat} (ha : a < 128) (hb : b < 128) : a ||| b < 128 := Nat.or_lt_two_pow (n := 7) ha hb
theorem anyF_lt {g : Nat → Nat} {s : Nat} : ∀ (k b a : Nat), b + k ≤ 7 → (∀ r, r < 7 → g r < 128) → a < 128 → anyF g s b k a < 128 := by
  intro k
  induction k with
  | zero => intro b a _ _ h; exact h
  | succ k ih =>
    intro b a hb hg h
    unfold anyF
    refine ih _ _ (by omega) hg (or_lt h ?_)
    split
    · exact hg b (by omega)
    · decide
def laN (g : Nat → Nat) (s : Nat) : Int32 := nI (pop7 s) - nI (pop7 (anyF g s 0 7 0))
def laF (g : Nat → Nat) (i k fo : Nat) (la : Int32) : Nat := match k with
  | 0 => fo
  | k + 1 => if la < laN g i ∨ (laN g i = la ∧ 0 < laN g i ∧ nI (pop7 i) < nI (pop7 fo)) then laF g (i + 1) k i (laN g i) else laF g (i + 1) k fo la
section ZMOD17
variable {d : Nat} {w w' : ZW} {A : Nat → Nat → Int32} {I : Nat → Int32} {ab be : Int64} {Q : Option Value → ZW → Prop}
theorem m_piI {n b : Nat} {x : Int32} {w0 : ZW} (hb : I 0 = nI 0) (hn : A 0 0 = nI n) (hn7 : n ≤ 7) (hbn : b < n) (hK : ∀ w f o o', (∀ j, j < b + 1 → f j = nI (mP A n j)) → isM w (va_up A 5 f) I ab be → zOff 74 89 w0 w → Zw (d + 5) mX9_piles z0 136 [some (.ref 74), some (.int x), some (.int (nI b)), o, o'] [] w Q) : ∀ (k i m : Nat) (f : Nat → Int32) (w : ZW) (o : Option Value), i + k = n → m < 2 ^ i → f b = nI m → (∀ j, j < b → f j = nI (mP A n j)) → mskF (fun i => mNest A b i) i k m = mP A n b → isM w (va_up A 5 f) I ab be → zOff 74 89 w0 w → Zw (d + 5) mX9_piles z0 35 [some (.ref 74), some (.int x), some (.int (nI b)), some (.int (nI i)), o] [] w Q := by
  intro k
  induction k with
  | zero =>
    intro i m f w o hi hm hf hj hR h ho
    refine zw_iload_n dX9_piles_35 rfl ?_
    refine zw_aload_n dX9_piles_36 rfl ?_
    refine zw_iconst dX9_piles_37 0 (by decide) ?_
    refine zw_cV1 dX9_piles_38 oX9_get kX9_get lX9_62 h.1 rfl (Nat.le_of_ble_eq_true rfl) rfl (m_get (b := 0) (j := 0) h hb (by omega) ?_)
    show Zw _ _ _ 41 [_, _, _, _, _] [_, _] _ _
    refine zw_top (y := nI n) hn ?_
    refine zw_icmp_ge 136 dX9_piles_41 (by decide) (fun _ => ?_) (fun hz => absurd (nI_le (by omega) (by omega)) hz)
    refine hK w f _ _ (fun j hj' => ?_) h ho
    by_cases e : j = b
    · rw [e, hf]
      exact congrArg nI hR
    · exact hj j (by omega)
  | succ k ih =>
    intro i m f w o hi hm hf hj hR h ho
    unfold mskF at hR
    have hin := vp_in_nI (n := b) (N := 7) (by omega) (by decide)
    have go : ∀ y m' o, (y ||| 0 = y) → m' < 2 ^ (i + 1) → nI m ||| y = nI m' → mskF (fun i => mNest A b i) (i + 1) k m' = mP A n b → Zw (d + 5) mX9_piles z0 128 [some (.ref 74), some (.int x), some (.int (nI b)), some (.int (nI i)), o] [.int y, .int (nI m), .int (nI b), .ref 80] w Q := by
      intro y m' o _ hm' hy hR'
      refine zw_ior dX9_piles_128 ?_
      refine zw_top (hy) ?_
      refine zw_iast dX9_piles_129 h.q5 hin ?_
      rw [nI_clamp (by omega)]
      refine zw_iinc (nI (i + 1)) [_, _, _, _, _] dX9_piles_130 rfl (nI_1 i) rfl ?_
      refine zw_goto 35 dX9_piles_133 (by decide) ?_
      exact ih (i + 1) m' _ _ _ (by omega) hm' pk_us (fun j hj' => (pk_un (by omega)).trans (hj j hj')) hR' h.b5 (ho.tr (zOff.pt (by decide) (by decide)))
    have p2 : 2 ^ (i + 1) = 2 ^ i + 2 ^ i := by rw [Nat.pow_succ]; omega
    have mid : ∀ lk, lk = (decide (mB A 0 b 0 = mB A 0 i 0) || (decide (mB A 0 b 0 = 0) && decide (mB A 0 i 0 = 2))) → Zw (d + 5) mX9_piles z0 92 [some (.ref 74), some (.int x), some (.int (nI b)), some (.int (nI i)), o] [.int (bI lk)] w Q := by
      intro lk hlk
      refine zw_istore [_, _, _, _, _] dX9_piles_92 (Nat.le_of_ble_eq_true rfl) rfl ?_
      refine zw_aload_n dX9_piles_94 rfl ?_
      refine zw_get dX9_piles_95 fX9_27 h.1 rfl ?_
      refine zw_iload_n dX9_piles_98 rfl ?_
      refine zw_dup2 dX9_piles_99 rfl rfl ?_
      refine zw_iald dX9_piles_100 h.q5 hin ?_
      rw [nI_clamp (by omega)]
      refine zw_top (y := nI m) hf ?_
      refine zw_iload dX9_piles_101 rfl ?_
      by_cases e1 : lk = true
      · rw [e1]
        refine zw_if_eq 127 dX9_piles_103 (by decide) (fun hz => absurd hz (by decide)) (fun _ => ?_)
        refine zw_aload_n dX9_piles_106 rfl ?_
        refine zw_iload_n dX9_piles_107 rfl ?_
        refine zw_iconst dX9_piles_108 1 (by decide) ?_
        refine zw_cV2 dX9_piles_109 oX9_ofBox kX9_ofBox lX9_77 h.1 rfl (Nat.le_of_ble_eq_true rfl) rfl (m_ofBox (b := 0) (r := b) (c := 1) h hb (by decide) (by omega) (by decide) ?_)
        show Zw _ _ _ 112 [_, _, _, _, _] [_, _, _, _] _ _
        refine zw_aload_n dX9_piles_112 rfl ?_
        refine zw_iload_n dX9_piles_113 rfl ?_
        refine zw_iconst dX9_piles_114 1 (by decide) ?_
        refine zw_cV2 dX9_piles_115 oX9_ofBox kX9_ofBox lX9_77 h.1 rfl (Nat.le_of_ble_eq_true rfl) rfl (m_ofBox (b := 0) (r := i) (c := 1) h hb (by decide) (by omega) (by decide) ?_)
        show Zw _ _ _ 118 [_, _, _, _, _] [_, _, _, _, _] _ _
        by_cases e2 : mB A 0 b 1 < mB A 0 i 1
        · have hq : mNest A b i = true := by unfold mNest; rw [← hlk, e1, decide_eq_true e2]; rfl
          rw [if_pos hq] at hR
          have e2' : ¬ va_up A 5 f 0 (0 + (6 + 5 * i + 1)) ≤ va_up A 5 f 0 (0 + (6 + 5 * b + 1)) := Int32.not_le.mpr e2
          refine zw_icmp_ge 127 dX9_piles_118 (by decide) (fun hz => absurd hz (e2')) (fun _ => ?_)
          refine zw_iconst dX9_piles_121 1 (by decide) ?_
          refine zw_iload_n dX9_piles_122 rfl ?_
          refine zw_ishl dX9_piles_123 ?_
          refine zw_goto 128 dX9_piles_124 (by decide) ?_
          exact go _ (m + 2 ^ i) _ (by simp) (by omega) (or_bit i (by omega) m hm) hR
        · have hq : mNest A b i = false := by unfold mNest; rw [← hlk, e1, decide_eq_false e2]; rfl
          rw [if_neg (by rw [hq]; decide)] at hR
          have e2' : va_up A 5 f 0 (0 + (6 + 5 * i + 1)) ≤ va_up A 5 f 0 (0 + (6 + 5 * b + 1)) := Int32.not_lt.mp e2
          refine zw_icmp_ge 127 dX9_piles_118 (by decide) (fun _ => ?_) (fun hz => absurd (e2') hz)
          refine zw_iconst dX9_piles_127 0 (by decide) ?_
          exact go 0 m _ (by simp) (by omega) (by simp) hR
      · have e1 : lk = false := by simpa using e1
        have hq : mNest A b i = false := by unfold mNest; rw [← hlk, e1]; rfl
        rw [if_neg (by rw [hq]; decide)] at hR
        rw [e1]
        refine zw_if_eq 127 dX9_piles_103 (by decide) (fun _ => ?_) (fun hz => absurd (by decide) hz)
        refine zw_iconst dX9_piles_127 0 (by decide) ?_
        exact go 0 m _ (by simp) (by omega) (by simp) hR
    refine zw_iload_n dX9_piles_35 rfl ?_
    refine zw_aload_n dX9_piles_36 rfl ?_
    refine zw_iconst dX9_piles_37 0 (by decide) ?_
    refine zw_cV1 dX9_piles_38 oX9_get kX9_get lX9_62 h.1 rfl (Nat.le_of_ble_eq_true rfl) rfl (m_get (b := 0) (j := 0) h hb (by omega) ?_)
    show Zw _ _ _ 41 [_, _, _, _, _] [_, _] _ _
    refine zw_top (y := nI n) hn ?_
    refine zw_icmp_ge 136 dX9_piles_41 (by decide) (fun hz => absurd hz (nI_ge (by omega) (by omega))) (fun _ => ?_)
    refine zw_iload_n dX9_piles_44 rfl ?_
    refine zw_aload_n dX9_piles_45 rfl ?_
    refine zw_iconst dX9_piles_46 0 (by decide) ?_
    refine zw_cV1 dX9_piles_47 oX9_get kX9_get lX9_62 h.1 rfl (Nat.le_of_ble_eq_true rfl) rfl (m_get (b := 0) (j := 0) h hb (by omega) ?_)
    show Zw _ _ _ 50 [_, _, _, _, _] [_, _] _ _
    refine zw_top (y := nI n) hn ?_
    refine zw_icmp_ge 136 dX9_piles_50 (by decide) (fun hz => absurd hz (nI_ge (by omega) (by omega))) (fun _ => ?_)
    refine zw_aload_n dX9_piles_53 rfl ?_
    refine zw_iload_n dX9_piles_54 rfl ?_
    refine zw_iconst dX9_piles_55 0 (by decide) ?_
    refine zw_cV2 dX9_piles_56 oX9_ofBox kX9_ofBox lX9_77 h.1 rfl (Nat.le_of_ble_eq_true rfl) rfl (m_ofBox (b := 0) (r := b) (c := 0) h hb (by decide) (by omega) (by decide) ?_)
    show Zw _ _ _ 59 [_, _, _, _, _] [_] _ _
    refine zw_aload_n dX9_piles_59 rfl ?_
    refine zw_iload_n dX9_piles_60 rfl ?_
    refine zw_iconst dX9_piles_61 0 (by decide) ?_
    refine zw_cV2 dX9_piles_62 oX9_ofBox kX9_ofBox lX9_77 h.1 rfl (Nat.le_of_ble_eq_true rfl) rfl (m_ofBox (b := 0) (r := i) (c := 0) h hb (by decide) (by omega) (by decide) ?_)
    show Zw _ _ _ 65 [_, _, _, _, _] [_, _] _ _
    by_cases e1 : mB A 0 b 0 = mB A 0 i 0
    · have m1 := mid true (by rw [decide_eq_true e1]; rfl)
      have e1' : va_up A 5 f 0 (0 + (6 + 5 * b + 0)) = va_up A 5 f 0 (0 + (6 + 5 * i + 0)) := e1
      refine zw_icmp_eq 87 dX9_piles_65 (by decide) (fun _ => ?_) (fun hz => absurd (e1') hz)
      refine zw_iconst dX9_piles_87 1 (by decide) ?_
      refine zw_goto 92 dX9_piles_88 (by decide) ?_
      exact m1
    · have e1' : ¬ va_up A 5 f 0 (0 + (6 + 5 * b + 0)) = va_up A 5 f 0 (0 + (6 + 5 * i + 0)) := e1
      refine zw_icmp_eq 87 dX9_piles_65 (by decide) (fun hz => absurd hz (e1')) (fun _ => ?_)
      refine zw_aload_n dX9_piles_68 rfl ?_
      refine zw_iload_n dX9_piles_69 rfl ?_
      refine zw_iconst dX9_piles_70 0 (by decide) ?_
      refine zw_cV2 dX9_piles_71 oX9_ofBox kX9_ofBox lX9_77 h.1 rfl (Nat.le_of_ble_eq_true rfl) rfl (m_ofBox (b := 0) (r := b) (c := 0) h hb (by decide) (by omega) (by decide) ?_)
      show Zw _ _ _ 74 [_, _, _, _, _] [_] _ _
      by_cases e2 : mB A 0 b 0 = 0
      · have e2' : va_up A 5 f 0 (0 + (6 + 5 * b + 0)) = 0 := e2
        refine zw_if_ne 91 dX9_piles_74 (by decide) (fun hz => absurd (e2') hz) (fun _ => ?_)
        refine zw_aload_n dX9_piles_77 rfl ?_
        refine zw_iload_n dX9_piles_78 rfl ?_
        refine zw_iconst dX9_piles_79 0 (by decide) ?_
        refine zw_cV2 dX9_piles_80 oX9_ofBox kX9_ofBox lX9_77 h.1 rfl (Nat.le_of_ble_eq_true rfl) rfl (m_ofBox (b := 0) (r := i) (c := 0) h hb (by decide) (by omega) (by decide) ?_)
        show Zw _ _ _ 83 [_, _, _, _, _] [_] _ _
        refine zw_iconst dX9_piles_83 2 (by decide) ?_
        by_cases e3 : mB A 0 i 0 = 2
        · have e3' : va_up A 5 f 0 (0 + (6 + 5 * i + 0)) = 2 := e3
          have m1 := mid true (by rw [decide_eq_false e1, decide_eq_true e2, decide_eq_true e3]; rfl)
          refine zw_icmp_ne 91 dX9_piles_84 (by decide) (fun hz => absurd (e3') hz) (fun _ => ?_)
          refine zw_iconst dX9_piles_87 1 (by decide) ?_
          refine zw_goto 92 dX9_piles_88 (by decide) ?_
          exact m1
        · have e3' : ¬ va_up A 5 f 0 (0 + (6 + 5 * i + 0)) = 2 := e3
          have m1 := mid false (by rw [decide_eq_false e1, decide_eq_true e2, decide_eq_false e3]; rfl)
          refine zw_icmp_ne 91 dX9_piles_84 (by decide) (fun _ => ?_) (fun hz => absurd hz (e3'))
          refine zw_iconst dX9_piles_91 0 (by decide) ?_
          exact m1
      · have e2' : ¬ va_up A 5 f 0 (0 + (6 + 5 * b + 0)) = 0 := e2
        have m1 := mid false (by rw [decide_eq_false e1, decide_eq_false e2]; rfl)
        refine zw_if_ne 91 dX9_piles_74 (by decide) (fun _ => ?_) (fun hz => absurd hz (e2'))
        refine zw_iconst dX9_piles_91 0 (by decide) ?_
        exact m1
theorem m_piO {n : Nat} {x : Int32} {w0 : ZW} (hb : I 0 = nI 0) (hn : A 0 0 = nI n) (hn7 : n ≤ 7) (hK : ∀ w f o o' o'', (∀ j, j < 7 → f j = nI (mP A n j)) → isM w (va_up A 5 f) I ab be → zOff 74 89 w0 w → Zw (d + 5) mX9_piles z0 142 [some (.ref 74), some (.int x), o, o', o''] [] w Q) : ∀ (k b : Nat) (f : Nat → Int32) (w : ZW) (o o' : Option Value), b + k = 7 → (∀ j, j < b → f j = nI (mP A n j)) → isM w (va_up A 5 f) I ab be → zOff 74 89 w0 w → Zw (d + 5) mX9_piles z0 20 [some (.ref 74), some (.int x), some (.int (nI b)), o, o'] [] w Q := by
  intro k
  induction k with
  | zero =>
    intro b f w o o' hi hj h ho
    refine zw_iload_n dX9_piles_20 rfl ?_
    refine zw_bipush dX9_piles_21 7 (by decide) ?_
    refine zw_icmp_ge 142 dX9_piles_23 (by decide) (fun _ => ?_) (fun hz => absurd (nI_le (a := 7) (by omega) (by omega)) hz)
    exact hK w f _ _ _ (fun j hj' => hj j (by omega)) h ho
  | succ k ih =>
    intro b f w o o' hi hj h ho
    have hin := vp_in_nI (n := b) (N := 7) (by omega) (by decide)
    refine zw_iload_n dX9_piles_20 rfl ?_
    refine zw_bipush dX9_piles_21 7 (by decide) ?_
    refine zw_icmp_ge 142 dX9_piles_23 (by decide) (fun hz => absurd hz (nI_ge (b := 7) (by omega) (by omega))) (fun _ => ?_)
    refine zw_aload_n dX9_piles_26 rfl ?_
    refine zw_get dX9_piles_27 fX9_27 h.1 rfl ?_
    refine zw_iload_n dX9_piles_30 rfl ?_
    refine zw_iconst dX9_piles_31 0 (by decide) ?_
    refine zw_iast dX9_piles_32 h.q5 hin ?_
    rw [nI_clamp (by omega)]
    refine zw_iconst dX9_piles_33 0 (by decide) ?_
    refine zw_istore_n [_, _, _, _, _] dX9_piles_34 (Nat.le_of_ble_eq_true rfl) rfl ?_
    have h1 : isM _ (va_up A 5 (upd f b 0)) I ab be := h.b5
    have o1 := ho.tr (zOff.pt (w := w) (i := 80) (e := .inl (0, 7, upd f b 0)) (lo := 74) (hi := 89) (by decide) (by decide))
    have hj1 : ∀ j, j < b → upd f b 0 j = nI (mP A n j) := fun j hj' => (pk_un (by omega)).trans (hj j hj')
    have hK1 : ∀ w f o o', (∀ j, j < b + 1 → f j = nI (mP A n j)) → isM w (va_up A 5 f) I ab be → zOff 74 89 w0 w → Zw (d + 5) mX9_piles z0 136 [some (.ref 74), some (.int x), some (.int (nI b)), o, o'] [] w Q := by
      intro w f o o' hj h ho
      refine zw_iinc (nI (b + 1)) [_, _, _, _, _] dX9_piles_136 rfl (nI_1 b) rfl ?_
      refine zw_goto 20 dX9_piles_139 (by decide) ?_
      exact ih (b + 1) f w o o' (by omega) hj h ho
    by_cases hbn : b < n
    · exact m_piI hb hn hn7 hbn hK1 n 0 0 _ _ _ (by omega) (by decide) pk_us hj1 (by unfold mP; rw [if_pos hbn]) h1 o1
    · have hz : ∀ j, j < b + 1 → upd f b 0 j = nI (mP A n j) := by
        intro j hj'
        by_cases e : j = b
        · subst e
          refine pk_us.trans ?_
          unfold mP
          rw [if_neg hbn]
          rfl
        · exact hj1 j (by omega)
      have hs := hK1 _ _ (some (.int (nI 0))) o' hz h1 o1
      refine zw_iload_n dX9_piles_35 rfl ?_
      refine zw_aload_n dX9_piles_36 rfl ?_
      refine zw_iconst dX9_piles_37 0 (by decide) ?_
      refine zw_cV1 dX9_piles_38 oX9_get kX9_get lX9_62 h1.1 rfl (Nat.le_of_ble_eq_true rfl) rfl (m_get (b := 0) (j := 0) h1 hb (by omega) ?_)
      show Zw _ _ _ 41 [_, _, _, _, _] [_, _] _ _
      refine zw_top (y := nI n) hn ?_
      by_cases h0 : n = 0
      · refine zw_icmp_ge 136 dX9_piles_41 (by decide) (fun _ => ?_) (fun hz => absurd (nI_le (b := 0) (by omega) (by omega)) hz)
        exact hs
      · refine zw_icmp_ge 136 dX9_piles_41 (by decide) (fun hz => absurd hz (nI_ge (a := 0) (by omega) (by omega))) (fun _ => ?_)
        refine zw_iload_n dX9_piles_44 rfl ?_
        refine zw_aload_n dX9_piles_45 rfl ?_
        refine zw_iconst dX9_piles_46 0 (by decide) ?_
        refine zw_cV1 dX9_piles_47 oX9_get kX9_get lX9_62 h1.1 rfl (Nat.le_of_ble_eq_true rfl) rfl (m_get (b := 0) (j := 0) h1 hb (by omega) ?_)
        show Zw _ _ _ 50 [_, _, _, _, _] [_, _] _ _
        refine zw_top (y := nI n) hn ?_
        refine zw_icmp_ge 136 dX9_piles_50 (by decide) (fun _ => ?_) (fun hz => absurd (nI_le (by omega) (by omega)) hz)
        exact hs
theorem m_piles {n : Nat} {x : Int32} (h : isM w A I ab be) (hb : I 0 = nI 0) (hn : A 0 0 = nI n) (hn7 : n ≤ 7) (kB : ¬ x = -1 → (∀ r, r < n → ¬ x = nI r) → ∀ w', isM w' (toldI A 0 0) I ab be → zOff 74 89 w w' → Q (some (.int (-10))) w') (kN : x = -1 → ∀ w' B, mS 4 A B → isM w' B I ab be → zOff 74 89 w w' → Q (some (.int (nI n - nI (mostN (mP A n) (2 ^ n - 1) (2 ^ n - 1))))) w') (kA : ∀ r, r < n → x = nI r → ∀ w' B, mS 4 A B → isM w' B I ab be → zOff 74 89 w w' → Q (some (.int (mtA (mP A n) (2 ^ n - 1) 0 (2 ^ n - 1) (nI (mostN (mP A n) (2 ^ n - 1) (2 ^ n - 1))) r))) w') : Zm (d + 5) mX9_piles 0 0 [.ref 74, .int x] w Q := by
  have pn := pow_c hn7
  have pn0 : 0 < 2 ^ n := Nat.two_pow_pos n
  have go : (x = -1 ∨ ∃ r, r < n ∧ x = nI r) → Zw (d + 5) mX9_piles z0 18 [some (.ref 74), some (.int x), none, none, none] [] w Q := by
    intro hx
    refine zw_iconst dX9_piles_18 0 (by decide) ?_
    refine zw_istore_n [_, _, _, _, _] dX9_piles_19 (Nat.le_of_ble_eq_true rfl) rfl ?_
    refine m_piO (w0 := w) hb hn hn7 (fun w1 f o o' o'' hf h1 o1 => ?_) 7 0 _ w _ _ (by omega) (fun j hj => absurd hj (by omega)) (h.sf 5) zOff.rf
    refine zw_aload_n dX9_piles_142 rfl ?_
    refine zw_aload_n dX9_piles_143 rfl ?_
    refine zw_cV0 dX9_piles_144 oX9_boxes kX9_boxes lX9_175 h1.1 rfl (Nat.le_of_ble_eq_true rfl) rfl (m_boxes h1 hb hn hn7 ?_)
    show Zw _ _ _ 147 [_, _, _, _, _] [_, _] _ _
    refine zw_aload_n dX9_piles_147 rfl ?_
    refine zw_cV0 dX9_piles_148 oX9_boxes kX9_boxes lX9_175 h1.1 rfl (Nat.le_of_ble_eq_true rfl) rfl (m_boxes h1 hb hn hn7 ?_)
    show Zw _ _ _ 151 [_, _, _, _, _] [_, _, _] _ _
    refine zw_cV2 dX9_piles_151 oX9_findFirst kX9_findFirst lX9_181 h1.1 rfl (Nat.le_of_ble_eq_true rfl) rfl (m_findFirst (g := mP A n) (by omega) (by omega) hf (fun r _ => mP_lt hn7) h1 (fun w2 B hS hB h2 o2 => ?_))
    show Zw _ _ _ 154 [_, _, _, _, _] [_] _ _
    refine zw_istore_n [_, _, _, _, _] dX9_piles_154 (Nat.le_of_ble_eq_true rfl) rfl ?_
    refine zw_iload_n dX9_piles_155 rfl ?_
    refine zw_iconst dX9_piles_156 (-1) (by decide) ?_
    have hS4 : mS 4 A B := (mS.up (A := A) (f := f) (k := 5) (by decide)).tr (hS.dn (by decide))
    rcases hx with e | ⟨r, hr, e⟩
    · refine zw_icmp_ne 170 dX9_piles_157 (by decide) (fun hz => absurd (e) hz) (fun _ => ?_)
      refine zw_aload_n dX9_piles_160 rfl ?_
      refine zw_iconst dX9_piles_161 0 (by decide) ?_
      refine zw_cV1 dX9_piles_162 oX9_get kX9_get lX9_62 h2.1 rfl (Nat.le_of_ble_eq_true rfl) rfl (m_get (b := 0) (j := 0) h2 hb (by omega) ?_)
      show Zw _ _ _ 165 [_, _, _, _, _] [_] _ _
      refine zw_top (y := nI n) ((congrFun (hS4 0 (by decide)) _).trans hn) ?_
      refine zw_iload_n dX9_piles_165 rfl ?_
      refine zw_isub dX9_piles_166 ?_
      refine zw_goto 176 dX9_piles_167 (by decide) ?_
      refine zw_ireturn .int dX9_piles_176 rfl rfl (Nat.le_refl _) (Nat.le_refl _) ?_
      exact kN e w2 B hS4 h2 (o1.tr o2)
    · have kk := kA r hr e
      have hne : ¬ x = -1 := by rw [e]; exact nI_m1 r (by omega)
      subst e
      refine zw_icmp_ne 170 dX9_piles_157 (by decide) (fun _ => ?_) (fun hz => absurd hz (hne))
      refine zw_aload_n dX9_piles_170 rfl ?_
      refine zw_get dX9_piles_171 fX9_33 h2.1 rfl ?_
      refine zw_iload_n dX9_piles_174 rfl ?_
      refine zw_iald dX9_piles_175 h2.q7 (vp_in_nI (n := r) (N := 7) (by omega) (by decide)) ?_
      rw [nI_clamp (by omega), hB r (by omega)]
      refine zw_ireturn .int dX9_piles_176 rfl rfl (Nat.le_refl _) (Nat.le_refl _) ?_
      exact kk w2 B hS4 h2 (o1.tr o2)
  refine zm_intro [_, _, _, _, _] oX9_piles (Nat.le_of_ble_eq_true rfl) rfl ?_
  refine zw_iload_n dX9_piles_0 rfl ?_
  refine zw_iconst dX9_piles_1 (-1) (by decide) ?_
  by_cases e1 : x = -1
  · refine zw_icmp_eq 18 dX9_piles_2 (by decide) (fun _ => ?_) (fun hz => absurd (e1) hz)
    exact go (Or.inl e1)
  · refine zw_icmp_eq 18 dX9_piles_2 (by decide) (fun hz => absurd hz (e1)) (fun _ => ?_)
    refine zw_aload_n dX9_piles_5 rfl ?_
    refine zw_iload_n dX9_piles_6 rfl ?_
    refine zw_cV1 dX9_piles_7 oX9_isBox kX9_isBox lX9_95 h.1 rfl (Nat.le_of_ble_eq_true rfl) rfl (m_isBox (b := 0) h hb (by decide) hn (by omega) (fun r hr e => ?_) (fun q => ?_))
    · show Zw _ _ _ 10 [_, _, _, _, _] [_] _ _
      refine zw_if_ne 18 dX9_piles_10 (by decide) (fun _ => ?_) (fun hz => absurd hz (by decide))
      exact go (Or.inr ⟨r, hr, e⟩)
    · show Zw _ _ _ 10 [_, _, _, _, _] [_] _ _
      refine zw_if_ne 18 dX9_piles_10 (by decide) (fun hz => absurd (by decide) hz) (fun _ => ?_)
      refine zw_aload_n dX9_piles_13 rfl ?_
      refine zw_cV0 dX9_piles_14 oX9_bad10 kX9_bad10 lX9_118 h.1 rfl (Nat.le_of_ble_eq_true rfl) rfl (m_bad10 hb (by decide) h (fun w1 h1 o1 => ?_))
      show Zw _ _ _ 17 [_, _, _, _, _] [_] _ _
      refine zw_ireturn .int dX9_piles_17 rfl rfl (Nat.le_refl _) (Nat.le_refl _) ?_
      exact kB e1 q w1 h1 o1
end ZMOD17
