/-! ===== the Model: a shelf, an evening, the digest ===== -/
def bestF (A : Nat → Nat → Int32) (st b k : Nat) (best : Int32) : Int32 := match k with
  | 0 => best
  | k + 1 => bestF A st (b + 1) k (if st.testBit b = false ∧ (best = -1 ∨ mB A 0 best.toNatClampNeg 3 < mB A 0 b 3) then nI b else best)
def bsN (A : Nat → Nat → Int32) (n st : Nat) : Nat := (bestF A st 0 n (-1)).toNatClampNeg
def stS (A : Nat → Nat → Int32) (n p : Nat) : Nat := match p with
  | 0 => 0
  | p + 1 => stS A n p ||| 2 ^ bsN A n (stS A n p)
/-- what stands at the place p -/
def itM (A : Nat → Nat → Int32) (n p : Nat) : Nat := bsN A n (stS A n p)
def csM (A : Nat → Nat → Int32) (n i k : Nat) (a : Int32) : Int32 := match k with
  | 0 => a
  | k + 1 => csM A n (i + 1) k (a + (nI i + 1) * mB A 0 (itM A n i) 3)
theorem free_b : ∀ n, n < 8 → ∀ s, s < 2 ^ n → pop7 s < n → ∃ b, b < n ∧ s.testBit b = false := by decide +kernel
/-- the best is a box that doesn't stand yet, if there is one -/
theorem bestF_is {A : Nat → Nat → Int32} {st n : Nat} : ∀ (k b : Nat) (best : Int32), b + k = n → ((best = -1 ∧ ∀ j, j < b → st.testBit j = true) ∨ ∃ s, s < n ∧ st.testBit s = false ∧ best = nI s) → (bestF A st b k best = -1 ∧ ∀ j, j < n → st.testBit j = true) ∨ ∃ s, s < n ∧ st.testBit s = false ∧ bestF A st b k best = nI s := by
  intro k
  induction k with
  | zero =>
    intro b best hb h
    rcases h with ⟨h1, h2⟩ | h
    · exact Or.inl ⟨h1, fun j hj => h2 j (by omega)⟩
    · exact Or.inr h
  | succ k ih =>
    intro b best hb h
    unfold bestF
    split
    · next hq => exact ih _ _ (by omega) (Or.inr ⟨b, by omega, hq.1, rfl⟩)
    · next hq =>
      refine ih _ _ (by omega) ?_
      rcases h with ⟨h1, h2⟩ | h
      · refine Or.inl ⟨h1, fun j hj => ?_⟩
        by_cases e : j = b
        · subst e
          cases hs : st.testBit j with
          | true => rfl
          | false => exact absurd ⟨hs, Or.inl h1⟩ hq
        · exact h2 j (by omega)
      · exact Or.inr h
theorem bsN_ok {A : Nat → Nat → Int32} {n st : Nat} (hn : n ≤ 7) (hs : st < 2 ^ n) (hp : pop7 st < n) : bsN A n st < n ∧ st.testBit (bsN A n st) = false ∧ bestF A st 0 n (-1) = nI (bsN A n st) := by
  rcases bestF_is (A := A) (st := st) (n := n) n 0 (-1) (by omega) (Or.inl ⟨rfl, fun j hj => absurd hj (by omega)⟩) with ⟨_, h2⟩ | ⟨s, h1, h2, h3⟩
  · obtain ⟨b, hb, e⟩ := free_b n (by omega) st hs hp
    rw [h2 b hb] at e
    exact absurd e (by decide)
  · have : bsN A n st = s := by unfold bsN; rw [h3, nI_clamp (by omega)]
    rw [this]
    exact ⟨h1, h2, h3⟩
theorem stS_ok {A : Nat → Nat → Int32} {n : Nat} (hn : n ≤ 7) : ∀ p, p ≤ n → stS A n p < 2 ^ n ∧ pop7 (stS A n p) = p := by
  have pn := pow_c hn
  intro p
  induction p with
  | zero => intro _; exact ⟨Nat.two_pow_pos n, by show pop7 0 = 0; decide⟩
  | succ p ih =>
    intro hp
    obtain ⟨i1, i2⟩ := ih (by omega)
    obtain ⟨b1, b2, _⟩ := bsN_ok (A := A) hn i1 (by omega)
    unfold stS
    exact ⟨orb_lt i1 b1, by rw [pop_up _ (by omega) _ (by omega) b2, i2]⟩
def dgM (A : Nat → Nat → Int32) (I : Nat → Int32) (n j k : Nat) (h : Int64) : Int64 := match k with
  | 0 => h
  | k + 1 => dgM A I n (j + 1) k (31 * h + (mHow A I n j).toInt64)
section ZMOD20
variable {d : Nat} {w w' : ZW} {A : Nat → Nat → Int32} {I : Nat → Int32} {ab be : Int64} {Q : Option Value → ZW → Prop}
theorem m_shI {n st p : Nat} {x cost th V : Int32} (h : isM w A I ab be) (hb : I 0 = nI 0) (hn7 : n ≤ 7) (hst : st < 128) (hK : Zw (d + 2) mX9_shelf z0 96 [some (.ref 74), some (.int x), some (.int (nI n)), some (.int cost), some (.int (nI st)), some (.int th), some (.int (nI p)), some (.int V), some (.int (nI n))] [] w Q) : ∀ (k b : Nat) (best : Int32), b + k = n → (best = -1 ∨ ∃ s, s < n ∧ best = nI s) → bestF A st b k best = V → Zw (d + 2) mX9_shelf z0 47 [some (.ref 74), some (.int x), some (.int (nI n)), some (.int cost), some (.int (nI st)), some (.int th), some (.int (nI p)), some (.int best), some (.int (nI b))] [] w Q := by
  intro k
  induction k with
  | zero =>
    intro b best hi hbe hE
    have hE : best = V := hE
    have e : b = n := by omega
    subst e
    subst hE
    refine zw_iload dX9_shelf_47 rfl ?_
    refine zw_iload_n dX9_shelf_49 rfl ?_
    refine zw_icmp_ge 96 dX9_shelf_50 (by decide) (fun _ => ?_) (fun hz => absurd (nI_le (by omega) (by omega)) hz)
    exact hK
  | succ k ih =>
    intro b best hi hbe hE
    unfold bestF at hE
    have go : ¬ (st.testBit b = false ∧ (best = -1 ∨ mB A 0 best.toNatClampNeg 3 < mB A 0 b 3)) → Zw (d + 2) mX9_shelf z0 90 [some (.ref 74), some (.int x), some (.int (nI n)), some (.int cost), some (.int (nI st)), some (.int th), some (.int (nI p)), some (.int best), some (.int (nI b))] [] w Q := by
      intro hq
      rw [if_neg hq] at hE
      refine zw_iinc (nI (b + 1)) [_, _, _, _, _, _, _, _, _] dX9_shelf_90 rfl (nI_1 b) rfl ?_
      refine zw_goto 47 dX9_shelf_93 (by decide) ?_
      exact ih (b + 1) _ (by omega) hbe hE
    have up : (st.testBit b = false ∧ (best = -1 ∨ mB A 0 best.toNatClampNeg 3 < mB A 0 b 3)) → Zw (d + 2) mX9_shelf z0 86 [some (.ref 74), some (.int x), some (.int (nI n)), some (.int cost), some (.int (nI st)), some (.int th), some (.int (nI p)), some (.int best), some (.int (nI b))] [] w Q := by
      intro hq
      rw [if_pos hq] at hE
      refine zw_iload dX9_shelf_86 rfl ?_
      refine zw_istore [_, _, _, _, _, _, _, _, _] dX9_shelf_88 (Nat.le_of_ble_eq_true rfl) rfl ?_
      refine zw_iinc (nI (b + 1)) [_, _, _, _, _, _, _, _, _] dX9_shelf_90 rfl (nI_1 b) rfl ?_
      refine zw_goto 47 dX9_shelf_93 (by decide) ?_
      exact ih (b + 1) _ (by omega) (Or.inr ⟨b, by omega, rfl⟩) hE
    refine zw_iload dX9_shelf_47 rfl ?_
    refine zw_iload_n dX9_shelf_49 rfl ?_
    refine zw_icmp_ge 96 dX9_shelf_50 (by decide) (fun hz => absurd hz (nI_ge (by omega) (by omega))) (fun _ => ?_)
    refine zw_iload dX9_shelf_53 rfl ?_
    refine zw_iload dX9_shelf_55 rfl ?_
    refine zw_ishr dX9_shelf_57 ?_
    refine zw_iconst dX9_shelf_58 1 (by decide) ?_
    refine zw_iand dX9_shelf_59 ?_
    refine zw_top (bit_t st hst b (by omega)) ?_
    by_cases e1 : st.testBit b = true
    · rw [if_pos e1]
      refine zw_if_ne 90 dX9_shelf_60 (by decide) (fun _ => ?_) (fun hz => absurd hz (by decide))
      exact go (fun z => by rw [e1] at z; exact absurd z.1 (by decide))
    · have e1' : st.testBit b = false := by simpa using e1
      rw [if_neg e1]
      refine zw_if_ne 90 dX9_shelf_60 (by decide) (fun hz => absurd (rfl) hz) (fun _ => ?_)
      refine zw_iload dX9_shelf_63 rfl ?_
      refine zw_iconst dX9_shelf_65 (-1) (by decide) ?_
      by_cases e2 : best = -1
      · refine zw_icmp_eq 86 dX9_shelf_66 (by decide) (fun _ => ?_) (fun hz => absurd (e2) hz)
        exact up ⟨e1', Or.inl e2⟩
      · obtain ⟨s, hs, es⟩ := hbe.resolve_left e2
        have ec : mB A 0 best.toNatClampNeg 3 = mB A 0 s 3 := by rw [es, nI_clamp (by omega)]
        refine zw_icmp_eq 86 dX9_shelf_66 (by decide) (fun hz => absurd hz (e2)) (fun _ => ?_)
        refine zw_aload_n dX9_shelf_69 rfl ?_
        refine zw_iload dX9_shelf_70 rfl ?_
        refine zw_iconst dX9_shelf_72 3 (by decide) ?_
        refine zw_cV2 dX9_shelf_73 oX9_ofBox kX9_ofBox lX9_77 h.1 rfl (Nat.le_of_ble_eq_true rfl) rfl (m_ofBox (b := 0) (r := b) (c := 3) h hb (by decide) (by omega) (by decide) ?_)
        show Zw _ _ _ 76 [_, _, _, _, _, _, _, _, _] [_] _ _
        refine zw_aload_n dX9_shelf_76 rfl ?_
        refine zw_iload dX9_shelf_77 rfl ?_
        refine zw_iconst dX9_shelf_79 3 (by decide) ?_
        rw [show (Value.int best) = Value.int (nI s) from congrArg Value.int es]
        refine zw_cV2 dX9_shelf_80 oX9_ofBox kX9_ofBox lX9_77 h.1 rfl (Nat.le_of_ble_eq_true rfl) rfl (m_ofBox (b := 0) (r := s) (c := 3) h hb (by decide) (by omega) (by decide) ?_)
        show Zw _ _ _ 83 [_, _, _, _, _, _, _, _, _] [_, _] _ _
        rw [← es]
        by_cases e3 : mB A 0 s 3 < mB A 0 b 3
        · refine zw_icmp_le 90 dX9_shelf_83 (by decide) (fun hz => absurd hz (Int32.not_le.mpr e3)) (fun _ => ?_)
          exact up ⟨e1', Or.inr (by rw [ec]; exact e3)⟩
        · refine zw_icmp_le 90 dX9_shelf_83 (by decide) (fun _ => ?_) (fun hz => absurd (Int32.not_lt.mp e3) hz)
          exact go (fun z => by rcases z.2 with q | q; exact e2 q; rw [ec] at q; exact e3 q)
theorem m_shO {n : Nat} {x V : Int32} (h : isM w A I ab be) (hb : I 0 = nI 0) (hn7 : n ≤ 7) (hK : ∀ th o6 o7 o8, (∀ j, j < n → x = nI j → th = nI (itM A n j)) → Zw (d + 2) mX9_shelf z0 141 [some (.ref 74), some (.int x), some (.int (nI n)), some (.int V), some (.int (nI (stS A n n))), some (.int th), o6, o7, o8] [] w Q) : ∀ (k p : Nat) (cost th : Int32) (o7 o8 : Option Value), p + k = n → csM A n p k cost = V → (∀ j, j < p → x = nI j → th = nI (itM A n j)) → Zw (d + 2) mX9_shelf z0 35 [some (.ref 74), some (.int x), some (.int (nI n)), some (.int cost), some (.int (nI (stS A n p))), some (.int th), some (.int (nI p)), o7, o8] [] w Q := by
  have pn := pow_c hn7
  intro k
  induction k with
  | zero =>
    intro p cost th o7 o8 hi hE ht
    have e : p = n := by omega
    subst e
    have hE : cost = V := hE
    subst hE
    refine zw_iload dX9_shelf_35 rfl ?_
    refine zw_iload_n dX9_shelf_37 rfl ?_
    refine zw_icmp_ge 141 dX9_shelf_38 (by decide) (fun _ => ?_) (fun hz => absurd (nI_le (by omega) (by omega)) hz)
    exact hK _ _ _ _ ht
  | succ k ih =>
    intro p cost th o7 o8 hi hE ht
    unfold csM at hE
    obtain ⟨s1, s2⟩ := stS_ok (A := A) hn7 p (by omega)
    obtain ⟨b1, b2, b3⟩ := bsN_ok (A := A) hn7 s1 (by omega)
    refine zw_iload dX9_shelf_35 rfl ?_
    refine zw_iload_n dX9_shelf_37 rfl ?_
    refine zw_icmp_ge 141 dX9_shelf_38 (by decide) (fun hz => absurd hz (nI_ge (by omega) (by omega))) (fun _ => ?_)
    refine zw_iconst dX9_shelf_41 (-1) (by decide) ?_
    refine zw_istore [_, _, _, _, _, _, _, _, _] dX9_shelf_42 (Nat.le_of_ble_eq_true rfl) rfl ?_
    refine zw_iconst dX9_shelf_44 0 (by decide) ?_
    refine zw_istore [_, _, _, _, _, _, _, _, _] dX9_shelf_45 (Nat.le_of_ble_eq_true rfl) rfl ?_
    refine m_shI h hb hn7 (by omega) ?_ n 0 (-1) (by omega) (Or.inl rfl) rfl
    rw [b3]
    have fin : ∀ th', (∀ j, j < p + 1 → x = nI j → th' = nI (itM A n j)) → Zw (d + 2) mX9_shelf z0 118 [some (.ref 74), some (.int x), some (.int (nI n)), some (.int cost), some (.int (nI (stS A n (p + 1)))), some (.int th), some (.int (nI p)), some (.int (nI (bsN A n (stS A n p)))), some (.int (nI n))] [.int th'] w Q := by
      intro th' ht'
      refine zw_istore [_, _, _, _, _, _, _, _, _] dX9_shelf_118 (Nat.le_of_ble_eq_true rfl) rfl ?_
      refine zw_iload_n dX9_shelf_120 rfl ?_
      refine zw_iload dX9_shelf_121 rfl ?_
      refine zw_iconst dX9_shelf_123 1 (by decide) ?_
      refine zw_iadd dX9_shelf_124 ?_
      refine zw_aload_n dX9_shelf_125 rfl ?_
      refine zw_iload dX9_shelf_126 rfl ?_
      refine zw_iconst dX9_shelf_128 3 (by decide) ?_
      refine zw_cV2 dX9_shelf_129 oX9_ofBox kX9_ofBox lX9_77 h.1 rfl (Nat.le_of_ble_eq_true rfl) rfl (m_ofBox (b := 0) (c := 3) h hb (by decide) (by omega) (by decide) ?_)
      show Zw _ _ _ 132 [_, _, _, _, _, _, _, _, _] [_, _, _] _ _
      refine zw_imul dX9_shelf_132 ?_
      refine zw_iadd dX9_shelf_133 ?_
      refine zw_istore_n [_, _, _, _, _, _, _, _, _] dX9_shelf_134 (Nat.le_of_ble_eq_true rfl) rfl ?_
      refine zw_iinc (nI (p + 1)) [_, _, _, _, _, _, _, _, _] dX9_shelf_135 rfl (nI_1 p) rfl ?_
      refine zw_goto 35 dX9_shelf_138 (by decide) ?_
      exact ih (p + 1) _ _ _ _ (by omega) hE ht'
    refine zw_iload dX9_shelf_96 rfl ?_
    refine zw_iconst dX9_shelf_98 1 (by decide) ?_
    refine zw_iload dX9_shelf_99 rfl ?_
    refine zw_ishl dX9_shelf_101 ?_
    refine zw_ior dX9_shelf_102 ?_
    refine zw_top (y := nI (stS A n (p + 1))) (orb_I _ (by omega) _ (by omega)) ?_
    refine zw_istore [_, _, _, _, _, _, _, _, _] dX9_shelf_103 (Nat.le_of_ble_eq_true rfl) rfl ?_
    refine zw_iload dX9_shelf_105 rfl ?_
    refine zw_iload_n dX9_shelf_107 rfl ?_
    by_cases e : x = nI p
    · refine zw_icmp_ne 116 dX9_shelf_108 (by decide) (fun hz => absurd (e.symm) hz) (fun _ => ?_)
      refine zw_iload dX9_shelf_111 rfl ?_
      refine zw_goto 118 dX9_shelf_113 (by decide) ?_
      exact fin _ (fun j hj ej => by rw [e] at ej; have := (nI_eq (by omega) (by omega)).mp ej; subst this; rfl)
    · refine zw_icmp_ne 116 dX9_shelf_108 (by decide) (fun _ => ?_) (fun hz => absurd hz ((fun z => e z.symm)))
      refine zw_iload dX9_shelf_116 rfl ?_
      refine fin _ (fun j hj ej => ?_)
      by_cases e' : j = p
      · subst e'; exact absurd ej e
      · exact ht j (by omega) ej
theorem m_shelf {n : Nat} {x : Int32} (h : isM w A I ab be) (hb : I 0 = nI 0) (hn : A 0 0 = nI n) (hn7 : n ≤ 7) (kB : ¬ -1 ≤ x → ∀ w', isM w' (toldI A 0 0) I ab be → zOff 74 89 w w' → Q (some (.int (-10))) w') (k5 : -1 ≤ x → ¬ x < nI n → Q (some (.int (-5))) w) (kN : x = -1 → Q (some (.int (csM A n 0 n 0))) w) (kA : ∀ j, j < n → x = nI j → Q (some (.int (nI (itM A n j)))) w) : Zm (d + 3) mX9_shelf 0 0 [.ref 74, .int x] w Q := by
  refine zm_intro [_, _, _, _, _, _, _, _, _] oX9_shelf (Nat.le_of_ble_eq_true rfl) rfl ?_
  refine zw_iload_n dX9_shelf_0 rfl ?_
  refine zw_iconst dX9_shelf_1 (-1) (by decide) ?_
  by_cases e1 : -1 ≤ x
  · refine zw_icmp_ge 10 dX9_shelf_2 (by decide) (fun _ => ?_) (fun hz => absurd (e1) hz)
    refine zw_aload_n dX9_shelf_10 rfl ?_
    refine zw_iconst dX9_shelf_11 0 (by decide) ?_
    refine zw_cV1 dX9_shelf_12 oX9_get kX9_get lX9_62 h.1 rfl (Nat.le_of_ble_eq_true rfl) rfl (m_get (b := 0) (j := 0) h hb (by omega) ?_)
    show Zw _ _ _ 15 [_, _, _, _, _, _, _, _, _] [_] _ _
    refine zw_top (hn) ?_
    refine zw_istore_n [_, _, _, _, _, _, _, _, _] dX9_shelf_15 (Nat.le_of_ble_eq_true rfl) rfl ?_
    refine zw_iload_n dX9_shelf_16 rfl ?_
    refine zw_iload_n dX9_shelf_17 rfl ?_
    by_cases e2 : x < nI n
    · refine zw_icmp_lt 24 dX9_shelf_18 (by decide) (fun _ => ?_) (fun hz => absurd (e2) hz)
      refine zw_iconst dX9_shelf_24 0 (by decide) ?_
      refine zw_istore_n [_, _, _, _, _, _, _, _, _] dX9_shelf_25 (Nat.le_of_ble_eq_true rfl) rfl ?_
      refine zw_iconst dX9_shelf_26 0 (by decide) ?_
      refine zw_istore [_, _, _, _, _, _, _, _, _] dX9_shelf_27 (Nat.le_of_ble_eq_true rfl) rfl ?_
      refine zw_iconst dX9_shelf_29 (-1) (by decide) ?_
      refine zw_istore [_, _, _, _, _, _, _, _, _] dX9_shelf_30 (Nat.le_of_ble_eq_true rfl) rfl ?_
      refine zw_iconst dX9_shelf_32 0 (by decide) ?_
      refine zw_istore [_, _, _, _, _, _, _, _, _] dX9_shelf_33 (Nat.le_of_ble_eq_true rfl) rfl ?_
      refine m_shO (V := csM A n 0 n 0) (d := d + 1) h hb hn7 (fun th o6 o7 o8 hth => ?_) n 0 0 (-1) _ _ (by omega) rfl (fun j hj => absurd hj (by omega))
      refine zw_iload_n dX9_shelf_141 rfl ?_
      refine zw_iconst dX9_shelf_142 (-1) (by decide) ?_
      by_cases e3 : x = -1
      · refine zw_icmp_ne 150 dX9_shelf_143 (by decide) (fun hz => absurd (e3) hz) (fun _ => ?_)
        refine zw_iload_n dX9_shelf_146 rfl ?_
        refine zw_goto 152 dX9_shelf_147 (by decide) ?_
        refine zw_ireturn .int dX9_shelf_152 rfl rfl (Nat.le_refl _) (Nat.le_refl _) ?_
        exact kN e3
      · have hx0 : ¬ x < 0 := by
          intro z
          have h1 := Int32.le_iff_toInt_le.mp e1
          have h2 := Int32.lt_iff_toInt_lt.mp z
          have : x.toInt = -1 := by simp at h1 h2; omega
          exact e3 (Int32.toInt_inj.mp this)
        obtain ⟨j, hj, ej⟩ := nI_of hx0
        have hjn : j < n := by rw [ej] at e2; exact (nI_ltI hj (by omega)).mp e2
        have := hth j hjn ej
        refine zw_icmp_ne 150 dX9_shelf_143 (by decide) (fun _ => ?_) (fun hz => absurd hz (e3))
        refine zw_iload dX9_shelf_150 rfl ?_
        refine zw_ireturn .int dX9_shelf_152 rfl rfl (Nat.le_refl _) (Nat.le_refl _) ?_
        rw [this]
        exact kA j hjn ej
    · refine zw_icmp_lt 24 dX9_shelf_18 (by decide) (fun hz => absurd hz (e2)) (fun _ => ?_)
      refine zw_bipush dX9_shelf_21 (-5) (by decide) ?_
      refine zw_ireturn .int dX9_shelf_23 rfl rfl (Nat.le_refl _) (Nat.le_refl _) ?_
      exact k5 e1 e2
  · refine zw_icmp_ge 10 dX9_shelf_2 (by decide) (fun hz => absurd hz (e1)) (fun _ => ?_)
    refine zw_aload_n dX9_shelf_5 rfl ?_
    refine zw_cV0 dX9_shelf_6 oX9_bad10 kX9_bad10 lX9_118 h.1 rfl (Nat.le_of_ble_eq_true rfl) rfl (m_bad10 hb (by decide) h (fun w1 h1 o1 => ?_))
    show Zw _ _ _ 9 [_, _, _, _, _, _, _, _, _] [_] _ _
    refine zw_ireturn .int dX9_shelf_9 rfl rfl (Nat.le_refl _) (Nat.le_refl _) ?_
    exact kB e1 w1 h1 o1
theorem m_evL {g : Nat → Nat} {m n : Nat} {sd : Int32} (h : isM w A I ab be) (hb : I 0 = nI 0) (hn : A 0 0 = nI n) (hn7 : n ≤ 7) (h0 : 0 < n) (hm : m < 100) (hg : ∀ r, r < 7 → A 5 r = nI (g r)) : ∀ (k i x : Nat) (f u o : Int32) (o1 o2 : Option Value), i + k = m → x < 2147483648 → Q (some (.int (evL (fun b => nI (g b)) n k x f u o))) w → Zw (d + 1) mX9_evening z0 61 [some (.ref 74), some (.int (nI m)), some (.int sd), some (.long (lN x)), none, some (.int f), some (.int u), some (.int o), some (.int (nI i)), o1, o2] [] w Q := by
  intro k
  induction k with
  | zero =>
    intro i x f u o o1 o2 hi hx kk
    refine zw_iload dX9_evening_61 rfl ?_
    refine zw_iload_n dX9_evening_63 rfl ?_
    refine zw_icmp_ge 161 dX9_evening_64 (by decide) (fun _ => ?_) (fun hz => absurd (nI_le (by omega) (by omega)) hz)
    refine zw_iload dX9_evening_161 rfl ?_
    refine zw_ireturn .int dX9_evening_163 rfl rfl (Nat.le_refl _) (Nat.le_refl _) ?_
    exact kk
  | succ k ih =>
    intro i x f u o o1 o2 hi hx kk
    unfold evL at kk
    have hlt := ev_lt x
    have hbn : evX x / 65536 % n < n := Nat.mod_lt _ h0
    refine zw_iload dX9_evening_61 rfl ?_
    refine zw_iload_n dX9_evening_63 rfl ?_
    refine zw_icmp_ge 161 dX9_evening_64 (by decide) (fun hz => absurd hz (nI_ge (by omega) (by omega))) (fun _ => ?_)
    refine zw_lload_n dX9_evening_67 rfl ?_
    refine zw_ldc2 dX9_evening_68 qX9_242 ?_
    refine zw_lmul dX9_evening_71 ?_
    refine zw_ldc2 dX9_evening_72 qX9_244 ?_
    refine zw_ladd dX9_evening_75 ?_
    refine zw_ldc2 dX9_evening_76 qX9_246 ?_
    refine zw_lrem dX9_evening_79 (by decide) ?_
    refine zw_topl (ev_x hx) ?_
    refine zw_lstore_n [_, _, _, _, _, _, _, _, _, _, _] dX9_evening_80 (Nat.le_of_ble_eq_true rfl) rfl ?_
    refine zw_lload_n dX9_evening_81 rfl ?_
    refine zw_ldc2 dX9_evening_82 qX9_248 ?_
    refine zw_ldiv dX9_evening_85 (by decide) ?_
    refine zw_aload_n dX9_evening_86 rfl ?_
    refine zw_iconst dX9_evening_87 0 (by decide) ?_
    refine zw_cV1 dX9_evening_88 oX9_get kX9_get lX9_62 h.1 rfl (Nat.le_of_ble_eq_true rfl) rfl (m_get (b := 0) (j := 0) h hb (by omega) ?_)
    show Zw _ _ _ 91 [_, _, _, _, _, _, _, _, _, _, _] [_, _] _ _
    refine zw_top (hn) ?_
    refine zw_i2l dX9_evening_91 ?_
    refine zw_lrem dX9_evening_92 (by rw [nI_l (by omega)]; intro z; have := (pk_lEQ (a := n) (b := 0) (by omega) (by decide)).mp z; omega) ?_
    refine zw_l2i dX9_evening_93 ?_
    refine zw_top (ev_b hlt h0 (by omega)) ?_
    refine zw_istore [_, _, _, _, _, _, _, _, _, _, _] dX9_evening_94 (Nat.le_of_ble_eq_true rfl) rfl ?_
    refine zw_iload dX9_evening_96 rfl ?_
    refine zw_iload dX9_evening_98 rfl ?_
    refine zw_ishr dX9_evening_100 ?_
    refine zw_iconst dX9_evening_101 1 (by decide) ?_
    refine zw_iand dX9_evening_102 ?_
    refine zw_if_ne 155 dX9_evening_103 (by decide) (fun hf => ?_) (fun hf => ?_)
    · refine zw_iinc (nI (i + 1)) [_, _, _, _, _, _, _, _, _, _, _] dX9_evening_155 rfl (nI_1 i) rfl ?_
      refine zw_goto 61 dX9_evening_158 (by decide) ?_
      refine ih (i + 1) _ _ _ _ _ _ (by omega) hlt ?_
      rwa [if_neg hf] at kk
    · rw [if_pos hf] at kk
      refine zw_iload dX9_evening_106 rfl ?_
      refine zw_iconst dX9_evening_108 1 (by decide) ?_
      refine zw_iload dX9_evening_109 rfl ?_
      refine zw_ishl dX9_evening_111 ?_
      refine zw_ior dX9_evening_112 ?_
      refine zw_istore [_, _, _, _, _, _, _, _, _, _, _] dX9_evening_113 (Nat.le_of_ble_eq_true rfl) rfl ?_
      refine zw_aload_n dX9_evening_115 rfl ?_
      refine zw_get dX9_evening_116 fX9_27 h.1 rfl ?_
      refine zw_iload dX9_evening_119 rfl ?_
      refine zw_iald dX9_evening_121 h.q5 (vp_in_nI (n := evX x / 65536 % n) (N := 7) (by omega) (by decide)) ?_
      rw [nI_clamp (by omega), hg _ (by omega)]
      refine zw_iload dX9_evening_122 rfl ?_
      refine zw_iconst dX9_evening_124 (-1) (by decide) ?_
      refine zw_ixor dX9_evening_125 ?_
      refine zw_iand dX9_evening_126 ?_
      refine zw_istore [_, _, _, _, _, _, _, _, _, _, _] dX9_evening_127 (Nat.le_of_ble_eq_true rfl) rfl ?_
      refine zw_iload dX9_evening_129 rfl ?_
      refine zw_iload dX9_evening_131 rfl ?_
      refine zw_if_ne 140 dX9_evening_133 (by decide) (fun hz => ?_) (fun hz => ?_)
      · refine zw_iconst dX9_evening_140 0 (by decide) ?_
        refine zw_iadd dX9_evening_141 ?_
        refine zw_istore [_, _, _, _, _, _, _, _, _, _, _] dX9_evening_142 (Nat.le_of_ble_eq_true rfl) rfl ?_
        refine zw_iload dX9_evening_144 rfl ?_
        refine zw_iload dX9_evening_146 rfl ?_
        refine zw_iload dX9_evening_148 rfl ?_
        refine zw_ineg dX9_evening_150 ?_
        refine zw_iand dX9_evening_151 ?_
        refine zw_ior dX9_evening_152 ?_
        refine zw_istore [_, _, _, _, _, _, _, _, _, _, _] dX9_evening_153 (Nat.le_of_ble_eq_true rfl) rfl ?_
        refine zw_iinc (nI (i + 1)) [_, _, _, _, _, _, _, _, _, _, _] dX9_evening_155 rfl (nI_1 i) rfl ?_
        refine zw_goto 61 dX9_evening_158 (by decide) ?_
        refine ih (i + 1) _ _ _ _ _ _ (by omega) hlt ?_
        rwa [if_neg hz] at kk
      · refine zw_iconst dX9_evening_136 1 (by decide) ?_
        refine zw_goto 141 dX9_evening_137 (by decide) ?_
        refine zw_iadd dX9_evening_141 ?_
        refine zw_istore [_, _, _, _, _, _, _, _, _, _, _] dX9_evening_142 (Nat.le_of_ble_eq_true rfl) rfl ?_
        refine zw_iload dX9_evening_144 rfl ?_
        refine zw_iload dX9_evening_146 rfl ?_
        refine zw_iload dX9_evening_148 rfl ?_
        refine zw_ineg dX9_evening_150 ?_
        refine zw_iand dX9_evening_151 ?_
        refine zw_ior dX9_evening_152 ?_
        refine zw_istore [_, _, _, _, _, _, _, _, _, _, _] dX9_evening_153 (Nat.le_of_ble_eq_true rfl) rfl ?_
        refine zw_iinc (nI (i + 1)) [_, _, _, _, _, _, _, _, _, _, _] dX9_evening_155 rfl (nI_1 i) rfl ?_
        refine zw_goto 61 dX9_evening_158 (by decide) ?_
        refine ih (i + 1) _ _ _ _ _ _ (by omega) hlt ?_
        rwa [if_pos hz] at kk
theorem m_evening {n l : Nat} {x y : Int32} (h : isM w A I ab be) (hb : I 0 = nI 0) (hn : A 0 0 = nI n) (hn7 : n ≤ 7) (hl : A 0 (0 + 1) = nI l) (hl7 : l ≤ 7) (hk : ∀ i, i < l → ∃ j, j < 6 ∧ mLd A 0 i 0 = nI j) (kB : ¬ ((0 ≤ x ∧ x ≤ 60) ∧ (0 ≤ y ∧ y ≤ 999999)) → ∀ w', isM w' (toldI A 0 0) I ab be → zOff 74 89 w w' → Q (some (.int (-2))) w') (kN : (0 ≤ x ∧ x ≤ 60) → (0 ≤ y ∧ y ≤ 999999) → n = 0 → ∀ w', isM w' (toldI A 0 1) I ab be → zOff 74 89 w w' → Q (some (.int (-3))) w') (kA : ∀ m sd, m ≤ 60 → sd ≤ 999999 → x = nI m → y = nI sd → 0 < n → ∀ w' B, mS 4 A B → isM w' B I ab be → zOff 74 89 w w' → Q (some (.int (evL (fun b => nI (mG A n l b)) n m sd 0 0 0))) w') : Zm (d + 6) mX9_evening 0 0 [.ref 74, .int x, .int y] w Q := by
  have bad : ¬ ((0 ≤ x ∧ x ≤ 60) ∧ (0 ≤ y ∧ y ≤ 999999)) → Zw (d + 6) mX9_evening z0 20 [some (.ref 74), some (.int x), some (.int y), none, none, none, none, none, none, none, none] [] w Q := by
    intro q
    refine zw_aload_n dX9_evening_20 rfl ?_
    refine zw_bipush dX9_evening_21 (-2) (by decide) ?_
    refine zw_cV1 dX9_evening_23 oX9_told kX9_told lX9_70 h.1 rfl (Nat.le_of_ble_eq_true rfl) rfl (m_toldR (j := 0) (by decide) hb (by decide) h (fun w1 h1 o1 => ?_))
    show Zw _ _ _ 26 [_, _, _, _, _, _, _, _, _, _, _] [_] _ _
    refine zw_ireturn .int dX9_evening_26 rfl rfl (Nat.le_refl _) (Nat.le_refl _) ?_
    exact kB q w1 h1 o1
  refine zm_intro [_, _, _, _, _, _, _, _, _, _, _] oX9_evening (Nat.le_of_ble_eq_true rfl) rfl ?_
  refine zw_iload_n dX9_evening_0 rfl ?_
  refine zw_iconst dX9_evening_1 0 (by decide) ?_
  refine zw_bipush dX9_evening_2 60 (by decide) ?_
  refine zw_cS3 dX9_evening_4 oX9_in kX9_in lX9_66 (Nat.le_of_ble_eq_true rfl) rfl (m_in (fun p1 p2 => ?_) (fun q => ?_))
  · show Zw _ _ _ 7 [_, _, _, _, _, _, _, _, _, _, _] [_] _ _
    refine zw_if_eq 20 dX9_evening_7 (by decide) (fun hz => absurd hz (by decide)) (fun _ => ?_)
    refine zw_iload_n dX9_evening_10 rfl ?_
    refine zw_iconst dX9_evening_11 0 (by decide) ?_
    refine zw_ldc dX9_evening_12 qX9_241 ?_
    refine zw_cS3 dX9_evening_14 oX9_in kX9_in lX9_66 (Nat.le_of_ble_eq_true rfl) rfl (m_in (fun p3 p4 => ?_) (fun q => ?_))
    · obtain ⟨m, hm, em⟩ := nI_of2 (M := 60) (n := 60) (by decide) (Int32.not_lt.mpr p1) p2
      obtain ⟨sd, hs, es⟩ := nI_of2 (M := 999999) (n := 999999) (by decide) (Int32.not_lt.mpr p3) p4
      have kk := kA m sd hm hs em es
      have kN' := kN ⟨p1, p2⟩ ⟨p3, p4⟩
      subst em
      subst es
      show Zw _ _ _ 17 [_, _, _, _, _, _, _, _, _, _, _] [_] _ _
      refine zw_if_ne 27 dX9_evening_17 (by decide) (fun _ => ?_) (fun hz => absurd hz (by decide))
      refine zw_aload_n dX9_evening_27 rfl ?_
      refine zw_iconst dX9_evening_28 0 (by decide) ?_
      refine zw_cV1 dX9_evening_29 oX9_get kX9_get lX9_62 h.1 rfl (Nat.le_of_ble_eq_true rfl) rfl (m_get (b := 0) (j := 0) h hb (by omega) ?_)
      show Zw _ _ _ 32 [_, _, _, _, _, _, _, _, _, _, _] [_] _ _
      refine zw_top (hn) ?_
      rcases Nat.eq_zero_or_pos n with h0 | h0
      · refine zw_if_ne 42 dX9_evening_32 (by decide) (fun hz => absurd (by rw [h0]; rfl) hz) (fun _ => ?_)
        refine zw_aload_n dX9_evening_35 rfl ?_
        refine zw_bipush dX9_evening_36 (-3) (by decide) ?_
        refine zw_cV1 dX9_evening_38 oX9_told kX9_told lX9_70 h.1 rfl (Nat.le_of_ble_eq_true rfl) rfl (m_toldR (j := 1) (by decide) hb (by decide) h (fun w1 h1 o1 => ?_))
        show Zw _ _ _ 41 [_, _, _, _, _, _, _, _, _, _, _] [_] _ _
        refine zw_ireturn .int dX9_evening_41 rfl rfl (Nat.le_refl _) (Nat.le_refl _) ?_
        exact kN' h0 w1 h1 o1
      · refine zw_if_ne 42 dX9_evening_32 (by decide) (fun _ => ?_) (fun hz => absurd hz (nI_ne0 h0 (by omega)))
        refine zw_aload_n dX9_evening_42 rfl ?_
        refine zw_cV0 dX9_evening_43 oX9_findFits kX9_findFits lX9_172 h.1 rfl (Nat.le_of_ble_eq_true rfl) rfl (m_findFits h hb hn hn7 hl hl7 hk (fun w1 f hf h1 o1 => ?_))
        show Zw _ _ _ 46 [_, _, _, _, _, _, _, _, _, _, _] [] _ _
        refine zw_iload_n dX9_evening_46 rfl ?_
        refine zw_i2l dX9_evening_47 ?_
        refine zw_topl (nI_l (by omega)) ?_
        refine zw_lstore_n [_, _, _, _, _, _, _, _, _, _, _] dX9_evening_48 (Nat.le_of_ble_eq_true rfl) rfl ?_
        refine zw_iconst dX9_evening_49 0 (by decide) ?_
        refine zw_istore [_, _, _, _, _, _, _, _, _, _, _] dX9_evening_50 (Nat.le_of_ble_eq_true rfl) rfl ?_
        refine zw_iconst dX9_evening_52 0 (by decide) ?_
        refine zw_istore [_, _, _, _, _, _, _, _, _, _, _] dX9_evening_53 (Nat.le_of_ble_eq_true rfl) rfl ?_
        refine zw_iconst dX9_evening_55 0 (by decide) ?_
        refine zw_istore [_, _, _, _, _, _, _, _, _, _, _] dX9_evening_56 (Nat.le_of_ble_eq_true rfl) rfl ?_
        refine zw_iconst dX9_evening_58 0 (by decide) ?_
        refine zw_istore [_, _, _, _, _, _, _, _, _, _, _] dX9_evening_59 (Nat.le_of_ble_eq_true rfl) rfl ?_
        exact m_evL (A := va_up A 5 f) (g := mG A n l) h1 hb hn hn7 h0 (by omega) hf m 0 sd 0 0 0 _ _ (by omega) (by omega) (kk h0 w1 _ (mS.up (by decide)) h1 o1)
    · show Zw _ _ _ 17 [_, _, _, _, _, _, _, _, _, _, _] [_] _ _
      refine zw_if_ne 27 dX9_evening_17 (by decide) (fun hz => absurd (by decide) hz) (fun _ => ?_)
      exact bad (fun z => q z.2)
  · show Zw _ _ _ 7 [_, _, _, _, _, _, _, _, _, _, _] [_] _ _
    refine zw_if_eq 20 dX9_evening_7 (by decide) (fun _ => ?_) (fun hz => absurd (by decide) hz)
    exact bad (fun z => q z.1)
theorem m_digedL {f0 m : Nat} {x0 : Value} (h : isM w A I ab be) (hb : I 0 = nI 0) (hf : f0 + m ≤ 217) : ∀ (k i : Nat) (x : Int64), i + k = m → Q (some (.long (mixL (A 0) (f0 + i) k x))) w → Zw (d + 1) mX9_digested z0 6 [some (.ref 74), some x0, none, some (.int (nI f0)), some (.int (nI m)), some (.long x), none, some (.int (nI i))] [] w Q := by
  intro k
  induction k with
  | zero =>
    intro i x hi kk
    refine zw_iload dX9_digested_6 rfl ?_
    refine zw_iload dX9_digested_8 rfl ?_
    refine zw_icmp_ge 37 dX9_digested_10 (by decide) (fun _ => ?_) (fun hz => absurd (nI_le (by omega) (by omega)) hz)
    refine zw_lload dX9_digested_37 rfl ?_
    refine zw_lreturn dX9_digested_39 rfl (Nat.le_refl _) (Nat.le_refl _) ?_
    exact kk
  | succ k ih =>
    intro i x hi kk
    unfold mixL at kk
    refine zw_iload dX9_digested_6 rfl ?_
    refine zw_iload dX9_digested_8 rfl ?_
    refine zw_icmp_ge 37 dX9_digested_10 (by decide) (fun hz => absurd hz (nI_ge (by omega) (by omega))) (fun _ => ?_)
    refine zw_ldc2 dX9_digested_13 qX9_253 ?_
    refine zw_lload dX9_digested_16 rfl ?_
    refine zw_lmul dX9_digested_18 ?_
    refine zw_aload_n dX9_digested_19 rfl ?_
    refine zw_iload_n dX9_digested_20 rfl ?_
    refine zw_iload dX9_digested_21 rfl ?_
    refine zw_iadd dX9_digested_23 ?_
    refine zw_top (nI_add ..) ?_
    refine zw_cV1 dX9_digested_24 oX9_get kX9_get lX9_62 h.1 rfl (Nat.le_of_ble_eq_true rfl) rfl (m_get (b := 0) (j := f0 + i) h hb (by omega) ?_)
    show Zw _ _ _ 27 [_, _, _, _, _, _, _, _] [_, _] _ _
    refine zw_top (y := A 0 (f0 + i)) (congrArg (A 0) (Nat.zero_add _)) ?_
    refine zw_i2l dX9_digested_27 ?_
    refine zw_ladd dX9_digested_28 ?_
    refine zw_lstore [_, _, _, _, _, _, _, _] dX9_digested_29 (Nat.le_of_ble_eq_true rfl) rfl ?_
    refine zw_iinc (nI (i + 1)) [_, _, _, _, _, _, _, _] dX9_digested_31 rfl (nI_1 i) rfl ?_
    refine zw_goto 6 dX9_digested_34 (by decide) ?_
    exact ih (i + 1) _ (by omega) kk
theorem m_digested {f0 m : Nat} {x : Int64} (h : isM w A I ab be) (hb : I 0 = nI 0) (hf : f0 + m ≤ 217) (k : Q (some (.long (mixL (A 0) f0 m x))) w) : Zm (d + 1) mX9_digested 0 0 [.ref 74, .long x, .int (nI f0), .int (nI m)] w Q := by
  refine zm_intro [_, _, _, _, _, _, _, _] oX9_digested (Nat.le_of_ble_eq_true rfl) rfl ?_
  refine zw_lload_n dX9_digested_0 rfl ?_
  refine zw_lstore [_, _, _, _, _, _, _, _] dX9_digested_1 (Nat.le_of_ble_eq_true rfl) rfl ?_
  refine zw_iconst dX9_digested_3 0 (by decide) ?_
  refine zw_istore [_, _, _, _, _, _, _, _] dX9_digested_4 (Nat.le_of_ble_eq_true rfl) rfl ?_
  exact m_digedL h hb hf m 0 x (by omega) k
theorem m_digL {n : Nat} (h : isM w A I ab be) (hb : I 0 = nI 0) (hn : A 0 0 = nI n) (hn7 : n ≤ 7) : ∀ (k j : Nat) (x : Int64), j + k = 8 → Zw (d + 3) mX9_digest z0 31 [some (.ref 74), some (.long (dgM A I n j k x)), none, some (.int (nI 8))] [] w Q → Zw (d + 3) mX9_digest z0 6 [some (.ref 74), some (.long x), none, some (.int (nI j))] [] w Q := by
  intro k
  induction k with
  | zero =>
    intro j x hj kk
    have e : j = 8 := by omega
    subst e
    refine zw_iload_n dX9_digest_6 rfl ?_
    refine zw_bipush dX9_digest_7 8 (by decide) ?_
    refine zw_icmp_ge 31 dX9_digest_9 (by decide) (fun _ => ?_) (fun hz => absurd (by decide) hz)
    exact kk
  | succ k ih =>
    intro j x hj kk
    refine zw_iload_n dX9_digest_6 rfl ?_
    refine zw_bipush dX9_digest_7 8 (by decide) ?_
    refine zw_icmp_ge 31 dX9_digest_9 (by decide) (fun hz => absurd hz (nI_ge (b := 8) (by omega) (by decide))) (fun _ => ?_)
    refine zw_ldc2 dX9_digest_12 qX9_253 ?_
    refine zw_lload_n dX9_digest_15 rfl ?_
    refine zw_lmul dX9_digest_16 ?_
    refine zw_aload_n dX9_digest_17 rfl ?_
    refine zw_iload_n dX9_digest_18 rfl ?_
    refine zw_cV1 dX9_digest_19 oX9_counted kX9_counted lX9_250 h.1 rfl (Nat.le_of_ble_eq_true rfl) rfl (m_counted (by omega) h hb hn hn7 ?_)
    show Zw _ _ _ 22 [_, _, _, _] [_, _] _ _
    refine zw_i2l dX9_digest_22 ?_
    refine zw_ladd dX9_digest_23 ?_
    refine zw_lstore_n [_, _, _, _] dX9_digest_24 (Nat.le_of_ble_eq_true rfl) rfl ?_
    refine zw_iinc (nI (j + 1)) [_, _, _, _] dX9_digest_25 rfl (nI_1 j) rfl ?_
    refine zw_goto 6 dX9_digest_28 (by decide) ?_
    exact ih (j + 1) _ (by omega) kk
def mDig (A : Nat → Nat → Int32) (I : Nat → Int32) (ab be : Int64) (n l s t c : Nat) : Int64 := 31 * (31 * mixL (A 0) 109 (3 * c) (mixL (A 0) 85 (3 * t) (mixL (A 0) 69 (4 * s) (mixL (A 0) 41 (4 * l) (mixL (A 0) 6 (5 * n) (dgM A I n 0 8 857))))) + ab) + be
theorem m_digest {n l s t c : Nat} (h : isM w A I ab be) (hb : I 0 = nI 0) (hn : A 0 0 = nI n) (hn7 : n ≤ 7) (hl : A 0 (0 + 1) = nI l) (hl7 : l ≤ 7) (hs : A 0 (0 + 2) = nI s) (hs4 : s ≤ 4) (ht : A 0 (0 + 3) = nI t) (ht8 : t ≤ 8) (hc : A 0 (0 + 4) = nI c) (hc8 : c ≤ 8) (k : Q (some (.long (mDig A I ab be n l s t c))) w) : Zm (d + 4) mX9_digest 0 0 [.ref 74] w Q := by
  refine zm_intro [_, _, _, _] oX9_digest (Nat.le_of_ble_eq_true rfl) rfl ?_
  refine zw_ldc2 dX9_digest_0 qX9_255 ?_
  refine zw_lstore_n [_, _, _, _] dX9_digest_3 (Nat.le_of_ble_eq_true rfl) rfl ?_
  refine zw_iconst dX9_digest_4 0 (by decide) ?_
  refine zw_istore_n [_, _, _, _] dX9_digest_5 (Nat.le_of_ble_eq_true rfl) rfl ?_
  refine m_digL (d := d + 1) h hb hn hn7 8 0 857 (by decide) ?_
  refine zw_aload_n dX9_digest_31 rfl ?_
  refine zw_lload_n dX9_digest_32 rfl ?_
  refine zw_bipush dX9_digest_33 6 (by decide) ?_
  refine zw_iconst dX9_digest_35 5 (by decide) ?_
  refine zw_aload_n dX9_digest_36 rfl ?_
  refine zw_iconst dX9_digest_37 0 (by decide) ?_
  refine zw_cV1 dX9_digest_38 oX9_get kX9_get lX9_62 h.1 rfl (Nat.le_of_ble_eq_true rfl) rfl (m_get (b := 0) (j := 0) h hb (by omega) ?_)
  show Zw _ _ _ 41 [_, _, _, _] [_, _, _, _, _] _ _
  refine zw_top (hn) ?_
  refine zw_imul dX9_digest_41 ?_
  refine zw_top (y := nI (5 * n)) (pk_mul 5 n) ?_
  refine zw_cV3 dX9_digest_42 oX9_digested kX9_digested lX9_257 h.1 rfl (Nat.le_of_ble_eq_true rfl) rfl (m_digested (f0 := 6) (m := 5 * n) h hb (by omega) ?_)
  show Zw _ _ _ 45 [_, _, _, _] [_] _ _
  refine zw_lstore_n [_, _, _, _] dX9_digest_45 (Nat.le_of_ble_eq_true rfl) rfl ?_
  refine zw_aload_n dX9_digest_46 rfl ?_
  refine zw_lload_n dX9_digest_47 rfl ?_
  refine zw_bipush dX9_digest_48 41 (by decide) ?_
  refine zw_iconst dX9_digest_50 4 (by decide) ?_
  refine zw_aload_n dX9_digest_51 rfl ?_
  refine zw_iconst dX9_digest_52 1 (by decide) ?_
  refine zw_cV1 dX9_digest_53 oX9_get kX9_get lX9_62 h.1 rfl (Nat.le_of_ble_eq_true rfl) rfl (m_get (b := 0) (j := 1) h hb (by omega) ?_)
  show Zw _ _ _ 56 [_, _, _, _] [_, _, _, _, _] _ _
  refine zw_top (hl) ?_
  refine zw_imul dX9_digest_56 ?_
  refine zw_top (y := nI (4 * l)) (pk_mul 4 l) ?_
  refine zw_cV3 dX9_digest_57 oX9_digested kX9_digested lX9_257 h.1 rfl (Nat.le_of_ble_eq_true rfl) rfl (m_digested (f0 := 41) (m := 4 * l) h hb (by omega) ?_)
  show Zw _ _ _ 60 [_, _, _, _] [_] _ _
  refine zw_lstore_n [_, _, _, _] dX9_digest_60 (Nat.le_of_ble_eq_true rfl) rfl ?_
  refine zw_aload_n dX9_digest_61 rfl ?_
  refine zw_lload_n dX9_digest_62 rfl ?_
  refine zw_bipush dX9_digest_63 69 (by decide) ?_
  refine zw_iconst dX9_digest_65 4 (by decide) ?_
  refine zw_aload_n dX9_digest_66 rfl ?_
  refine zw_iconst dX9_digest_67 2 (by decide) ?_
  refine zw_cV1 dX9_digest_68 oX9_get kX9_get lX9_62 h.1 rfl (Nat.le_of_ble_eq_true rfl) rfl (m_get (b := 0) (j := 2) h hb (by omega) ?_)
  show Zw _ _ _ 71 [_, _, _, _] [_, _, _, _, _] _ _
  refine zw_top (hs) ?_
  refine zw_imul dX9_digest_71 ?_
  refine zw_top (y := nI (4 * s)) (pk_mul 4 s) ?_
  refine zw_cV3 dX9_digest_72 oX9_digested kX9_digested lX9_257 h.1 rfl (Nat.le_of_ble_eq_true rfl) rfl (m_digested (f0 := 69) (m := 4 * s) h hb (by omega) ?_)
  show Zw _ _ _ 75 [_, _, _, _] [_] _ _
  refine zw_lstore_n [_, _, _, _] dX9_digest_75 (Nat.le_of_ble_eq_true rfl) rfl ?_
  refine zw_aload_n dX9_digest_76 rfl ?_
  refine zw_lload_n dX9_digest_77 rfl ?_
  refine zw_bipush dX9_digest_78 85 (by decide) ?_
  refine zw_iconst dX9_digest_80 3 (by decide) ?_
  refine zw_aload_n dX9_digest_81 rfl ?_
  refine zw_iconst dX9_digest_82 3 (by decide) ?_
  refine zw_cV1 dX9_digest_83 oX9_get kX9_get lX9_62 h.1 rfl (Nat.le_of_ble_eq_true rfl) rfl (m_get (b := 0) (j := 3) h hb (by omega) ?_)
  show Zw _ _ _ 86 [_, _, _, _] [_, _, _, _, _] _ _
  refine zw_top (ht) ?_
  refine zw_imul dX9_digest_86 ?_
  refine zw_top (y := nI (3 * t)) (pk_mul 3 t) ?_
  refine zw_cV3 dX9_digest_87 oX9_digested kX9_digested lX9_257 h.1 rfl (Nat.le_of_ble_eq_true rfl) rfl (m_digested (f0 := 85) (m := 3 * t) h hb (by omega) ?_)
  show Zw _ _ _ 90 [_, _, _, _] [_] _ _
  refine zw_lstore_n [_, _, _, _] dX9_digest_90 (Nat.le_of_ble_eq_true rfl) rfl ?_
  refine zw_aload_n dX9_digest_91 rfl ?_
  refine zw_lload_n dX9_digest_92 rfl ?_
  refine zw_bipush dX9_digest_93 109 (by decide) ?_
  refine zw_iconst dX9_digest_95 3 (by decide) ?_
  refine zw_aload_n dX9_digest_96 rfl ?_
  refine zw_iconst dX9_digest_97 4 (by decide) ?_
  refine zw_cV1 dX9_digest_98 oX9_get kX9_get lX9_62 h.1 rfl (Nat.le_of_ble_eq_true rfl) rfl (m_get (b := 0) (j := 4) h hb (by omega) ?_)
  show Zw _ _ _ 101 [_, _, _, _] [_, _, _, _, _] _ _
  refine zw_top (hc) ?_
  refine zw_imul dX9_digest_101 ?_
  refine zw_top (y := nI (3 * c)) (pk_mul 3 c) ?_
  refine zw_cV3 dX9_digest_102 oX9_digested kX9_digested lX9_257 h.1 rfl (Nat.le_of_ble_eq_true rfl) rfl (m_digested (f0 := 109) (m := 3 * c) h hb (by omega) ?_)
  show Zw _ _ _ 105 [_, _, _, _] [_] _ _
  refine zw_lstore_n [_, _, _, _] dX9_digest_105 (Nat.le_of_ble_eq_true rfl) rfl ?_
  refine zw_ldc2 dX9_digest_106 qX9_253 ?_
  refine zw_lload_n dX9_digest_109 rfl ?_
  refine zw_lmul dX9_digest_110 ?_
  refine zw_aload_n dX9_digest_111 rfl ?_
  refine zw_get dX9_digest_112 fX9_210 h.1 rfl ?_
  refine zw_ladd dX9_digest_115 ?_
  refine zw_lstore_n [_, _, _, _] dX9_digest_116 (Nat.le_of_ble_eq_true rfl) rfl ?_
  refine zw_ldc2 dX9_digest_117 qX9_253 ?_
  refine zw_lload_n dX9_digest_120 rfl ?_
  refine zw_lmul dX9_digest_121 ?_
  refine zw_aload_n dX9_digest_122 rfl ?_
  refine zw_get dX9_digest_123 fX9_54 h.1 rfl ?_
  refine zw_ladd dX9_digest_126 ?_
  refine zw_lreturn dX9_digest_127 rfl (Nat.le_refl _) (Nat.le_refl _) ?_
  exact k
end ZMOD20
