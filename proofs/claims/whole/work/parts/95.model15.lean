/-! ===== the Model: the most pairs, by the sets of columns that can be used up ===== -/
theorem and_lt {a b : Nat} (h : a < 128) : a &&& b < 128 := Nat.lt_of_le_of_lt Nat.and_le_left h
theorem andb_0 : ∀ m, m < 128 → ∀ c, c < 7 → m.testBit c = false → nI m &&& ((1 : Int32) <<< (nI c &&& 31)) = 0 := by decide +kernel
theorem andb_1 : ∀ m, m < 128 → ∀ c, c < 7 → m.testBit c = true → ¬ nI m &&& ((1 : Int32) <<< (nI c &&& 31)) = 0 := by decide +kernel
theorem pop_ne : ∀ s, s < 128 → ¬ nI (pop7 s) = -1 := by decide +kernel
theorem pop_le : ∀ s, s < 128 → pop7 s ≤ 7 := by decide +kernel
theorem pop_up : ∀ s, s < 128 → ∀ c, c < 7 → s.testBit c = false → pop7 (s ||| 2 ^ c) = pop7 s + 1 := by decide +kernel
theorem andn_bit : ∀ a, a < 128 → ∀ s, s < 128 → ∀ c, c < 7 → (andn a s).testBit c = (a.testBit c && !s.testBit c) := by
  intro a _ s _ c hc
  unfold andn
  rw [Nat.testBit_and, Nat.testBit_xor]
  have : ∀ c, c < 7 → (127 : Nat).testBit c = true := by decide
  rw [this c hc, Bool.true_xor]
def bup (R : Nat → Bool) (i : Nat) : Nat → Bool := fun j => decide (j = i) || R j
/-- from the set s: one column more -/
def cR (m s c k : Nat) (R : Nat → Bool) : Nat → Bool := match k with
  | 0 => R
  | k + 1 => cR m s (c + 1) k (if (andn m s).testBit c = true then bup R (s ||| 2 ^ c) else R)
/-- a row is given its column, from the greatest set down -/
def sR (m k : Nat) (R : Nat → Bool) : Nat → Bool := match k with
  | 0 => R
  | k + 1 => sR m k (if R k = true then cR m k 0 7 R else R)
def rR (g : Nat → Nat) (cols rows r k : Nat) (R : Nat → Bool) : Nat → Bool := match k with
  | 0 => R
  | k + 1 => rR g cols rows (r + 1) k (if rows.testBit r = true then sR (g r &&& cols) 128 R else R)
def maxR (R : Nat → Bool) (i k m : Nat) : Nat := match k with
  | 0 => m
  | k + 1 => maxR R (i + 1) k (if R i = true ∧ m < pop7 i then pop7 i else m)
def mostN (g : Nat → Nat) (rows cols : Nat) : Nat := maxR (rR g cols rows 0 7 (fun s => decide (s = 0))) 0 128 0
def rep (R : Nat → Bool) (f : Nat → Int32) : Prop := ∀ s, s < 128 → f s = if R s = true then nI (pop7 s) else -1
section ZMOD15
variable {d : Nat} {w w' : ZW} {A : Nat → Nat → Int32} {I : Nat → Int32} {ab be : Int64} {Q : Option Value → ZW → Prop}
theorem m_moC {g : Nat → Nat} {rows cols r s : Nat} {w0 : ZW} {R1 : Nat → Bool} (hs : s < 128) (hr7 : r < 7) (hc : cols < 128) (hg : A 5 r = nI (g r)) (hgl : g r < 128) (hK : ∀ w f o5 o6 o7, rep R1 f → isM w (va_up A 6 f) I ab be → zOff 74 89 w0 w → Zw d mX9_mostOf z0 160 [some (.ref 74), some (.int (nI rows)), some (.int (nI cols)), some (.int (nI r)), some (.int (nI s)), o5, o6, o7] [] w Q) : ∀ (k c : Nat) (R : Nat → Bool) (f : Nat → Int32) (w : ZW) (o6 o7 : Option Value), c + k = 7 → rep R f → R s = true → cR (g r &&& cols) s c k R = R1 → isM w (va_up A 6 f) I ab be → zOff 74 89 w0 w → Zw d mX9_mostOf z0 59 [some (.ref 74), some (.int (nI rows)), some (.int (nI cols)), some (.int (nI r)), some (.int (nI s)), some (.int (nI c)), o6, o7] [] w Q := by
  intro k
  induction k with
  | zero =>
    intro c R f w o6 o7 hi hR hs1 hE h ho
    have hE : R = R1 := hE
    subst hE
    refine zw_iload dX9_mostOf_59 rfl ?_
    refine zw_bipush dX9_mostOf_61 7 (by decide) ?_
    refine zw_icmp_ge 160 dX9_mostOf_63 (by decide) (fun _ => ?_) (fun hz => absurd (nI_le (a := 7) (by omega) (by omega)) hz)
    exact hK w f _ _ _ hR h ho
  | succ k ih =>
    intro c R f w o6 o7 hi hR hs1 hE h ho
    unfold cR at hE
    have hin := vp_in_nI (n := s) (N := 128) hs (by decide)
    have hfs : f s = nI (pop7 s) := by rw [hR s hs, if_pos hs1]
    have hm : g r &&& cols < 128 := and_lt hgl
    have ht : s ||| 2 ^ c < 128 := orb_lt (c := 7) hs (by omega)
    refine zw_iload dX9_mostOf_59 rfl ?_
    refine zw_bipush dX9_mostOf_61 7 (by decide) ?_
    refine zw_icmp_ge 160 dX9_mostOf_63 (by decide) (fun hz => absurd hz (nI_ge (b := 7) (by omega) (by omega))) (fun _ => ?_)
    refine zw_aload_n dX9_mostOf_66 rfl ?_
    refine zw_get dX9_mostOf_67 fX9_30 h.1 rfl ?_
    refine zw_iload dX9_mostOf_70 rfl ?_
    refine zw_iald dX9_mostOf_72 h.q6 hin ?_
    rw [nI_clamp (by omega)]
    refine zw_top (y := nI (pop7 s)) hfs ?_
    refine zw_iconst dX9_mostOf_73 (-1) (by decide) ?_
    refine zw_icmp_eq 160 dX9_mostOf_74 (by decide) (fun hz => absurd hz (pop_ne s hs)) (fun _ => ?_)
    refine zw_iload dX9_mostOf_77 rfl ?_
    refine zw_iconst dX9_mostOf_79 1 (by decide) ?_
    refine zw_iload dX9_mostOf_80 rfl ?_
    refine zw_ishl dX9_mostOf_82 ?_
    refine zw_ior dX9_mostOf_83 ?_
    refine zw_top (orb_I s hs c (by omega)) ?_
    refine zw_istore [_, _, _, _, _, _, _, _] dX9_mostOf_84 (Nat.le_of_ble_eq_true rfl) rfl ?_
    refine zw_aload_n dX9_mostOf_86 rfl ?_
    refine zw_get dX9_mostOf_87 fX9_27 h.1 rfl ?_
    refine zw_iload_n dX9_mostOf_90 rfl ?_
    refine zw_iald dX9_mostOf_91 h.q5 (vp_in_nI (n := r) (N := 7) hr7 (by decide)) ?_
    rw [nI_clamp (by omega)]
    refine zw_top (y := nI (g r)) hg ?_
    refine zw_iload_n dX9_mostOf_92 rfl ?_
    refine zw_iand dX9_mostOf_93 ?_
    refine zw_top (and_I _ hgl _ hc) ?_
    refine zw_iload dX9_mostOf_94 rfl ?_
    refine zw_iconst dX9_mostOf_96 (-1) (by decide) ?_
    refine zw_ixor dX9_mostOf_97 ?_
    refine zw_iand dX9_mostOf_98 ?_
    refine zw_top (andn_I _ hm _ hs) ?_
    refine zw_iconst dX9_mostOf_99 1 (by decide) ?_
    refine zw_iload dX9_mostOf_100 rfl ?_
    refine zw_ishl dX9_mostOf_102 ?_
    refine zw_iand dX9_mostOf_103 ?_
    by_cases hb : (andn (g r &&& cols) s).testBit c = true
    · rw [if_pos hb] at hE
      have hsc : s.testBit c = false := by
        have := andn_bit _ hm s hs c (by omega)
        rw [this] at hb
        simpa using (Bool.and_eq_true_iff.mp hb).2
      have hpu := pop_up s hs c (by omega) hsc
      have hne : ¬ s = s ||| 2 ^ c := by
        intro e
        rw [← e] at hpu
        omega
      have hbs : bup R (s ||| 2 ^ c) s = true := by unfold bup; rw [hs1]; simp
      refine zw_if_eq 111 dX9_mostOf_104 (by decide) (fun hz => absurd hz (andb_1 _ (andn_lt hm) c (by omega) hb)) (fun _ => ?_)
      refine zw_iconst dX9_mostOf_107 1 (by decide) ?_
      refine zw_goto 112 dX9_mostOf_108 (by decide) ?_
      refine zw_istore [_, _, _, _, _, _, _, _] dX9_mostOf_112 (Nat.le_of_ble_eq_true rfl) rfl ?_
      refine zw_iload dX9_mostOf_114 rfl ?_
      refine zw_if_eq 154 dX9_mostOf_116 (by decide) (fun hz => absurd hz (by decide)) (fun _ => ?_)
      refine zw_aload_n dX9_mostOf_119 rfl ?_
      refine zw_get dX9_mostOf_120 fX9_30 h.1 rfl ?_
      refine zw_iload dX9_mostOf_123 rfl ?_
      refine zw_iald dX9_mostOf_125 h.q6 (vp_in_nI (n := s ||| 2 ^ c) (N := 128) ht (by decide)) ?_
      rw [nI_clamp (by omega)]
      refine zw_aload_n dX9_mostOf_126 rfl ?_
      refine zw_get dX9_mostOf_127 fX9_30 h.1 rfl ?_
      refine zw_iload dX9_mostOf_130 rfl ?_
      refine zw_iald dX9_mostOf_132 h.q6 hin ?_
      rw [nI_clamp (by omega)]
      refine zw_top (y := nI (pop7 s)) hfs ?_
      refine zw_iconst dX9_mostOf_133 1 (by decide) ?_
      refine zw_iadd dX9_mostOf_134 ?_
      refine zw_top (nI_1 (pop7 s)) ?_
      by_cases hRt : R (s ||| 2 ^ c) = true
      · have hft : f (s ||| 2 ^ c) = nI (pop7 s + 1) := by rw [hR _ ht, if_pos hRt, hpu]
        have hft' : va_up A 6 f 6 (s ||| 2 ^ c) = nI (pop7 s + 1) := hft
        rw [hft']
        refine zw_icmp_ge 154 dX9_mostOf_135 (by decide) (fun _ => ?_) (fun hz => absurd (Int32.le_refl _) hz)
        refine zw_iinc (nI (c + 1)) [_, _, _, _, _, _, _, _] dX9_mostOf_154 rfl (nI_1 c) rfl ?_
        refine zw_goto 59 dX9_mostOf_157 (by decide) ?_
        refine ih (c + 1) _ f w _ _ (by omega) (fun t ht' => ?_) hbs hE h ho
        unfold bup
        by_cases e : t = s ||| 2 ^ c
        · rw [e, hft, hpu]; simp
        · rw [decide_eq_false e]; exact hR t ht'
      · have hft : va_up A 6 f 6 (s ||| 2 ^ c) = -1 := by
          have := hR _ ht
          rw [if_neg hRt] at this
          exact this
        rw [hft]
        have hlt : ∀ p, p ≤ 7 → ¬ nI (p + 1) ≤ -1 := by decide +kernel
        refine zw_icmp_ge 154 dX9_mostOf_135 (by decide) (fun hz => absurd hz (hlt _ (pop_le s hs))) (fun _ => ?_)
        refine zw_aload_n dX9_mostOf_138 rfl ?_
        refine zw_get dX9_mostOf_139 fX9_30 h.1 rfl ?_
        refine zw_iload dX9_mostOf_142 rfl ?_
        refine zw_aload_n dX9_mostOf_144 rfl ?_
        refine zw_get dX9_mostOf_145 fX9_30 h.1 rfl ?_
        refine zw_iload dX9_mostOf_148 rfl ?_
        refine zw_iald dX9_mostOf_150 h.q6 hin ?_
        rw [nI_clamp (by omega)]
        refine zw_top (y := nI (pop7 s)) hfs ?_
        refine zw_iconst dX9_mostOf_151 1 (by decide) ?_
        refine zw_iadd dX9_mostOf_152 ?_
        refine zw_top (nI_1 (pop7 s)) ?_
        refine zw_iast dX9_mostOf_153 h.q6 (vp_in_nI (n := s ||| 2 ^ c) (N := 128) ht (by decide)) ?_
        rw [nI_clamp (by omega)]
        refine zw_iinc (nI (c + 1)) [_, _, _, _, _, _, _, _] dX9_mostOf_154 rfl (nI_1 c) rfl ?_
        refine zw_goto 59 dX9_mostOf_157 (by decide) ?_
        refine ih (c + 1) _ _ _ _ _ (by omega) (fun t ht' => ?_) hbs hE h.b6 (ho.tr (zOff.pt (by decide) (by decide)))
        show upd f (s ||| 2 ^ c) (nI (pop7 s + 1)) t = _
        unfold bup upd
        by_cases e : t = s ||| 2 ^ c
        · rw [if_pos e, e, hpu]; simp
        · rw [if_neg e, decide_eq_false e]; exact hR t ht'
    · rw [if_neg hb] at hE
      have hb' : (andn (g r &&& cols) s).testBit c = false := by simpa using hb
      refine zw_if_eq 111 dX9_mostOf_104 (by decide) (fun _ => ?_) (fun hz => absurd (andb_0 _ (andn_lt hm) c (by omega) hb') hz)
      refine zw_iconst dX9_mostOf_111 0 (by decide) ?_
      refine zw_istore [_, _, _, _, _, _, _, _] dX9_mostOf_112 (Nat.le_of_ble_eq_true rfl) rfl ?_
      refine zw_iload dX9_mostOf_114 rfl ?_
      refine zw_if_eq 154 dX9_mostOf_116 (by decide) (fun _ => ?_) (fun hz => absurd (by decide) hz)
      refine zw_iinc (nI (c + 1)) [_, _, _, _, _, _, _, _] dX9_mostOf_154 rfl (nI_1 c) rfl ?_
      refine zw_goto 59 dX9_mostOf_157 (by decide) ?_
      exact ih (c + 1) R f w _ _ (by omega) hR hs1 hE h ho
theorem m_moS {g : Nat → Nat} {rows cols r : Nat} {w0 : ZW} {R1 : Nat → Bool} (hr7 : r < 7) (hc : cols < 128) (hg : A 5 r = nI (g r)) (hgl : g r < 128) (hK : ∀ w f o4 o5 o6 o7, rep R1 f → isM w (va_up A 6 f) I ab be → zOff 74 89 w0 w → Zw d mX9_mostOf z0 166 [some (.ref 74), some (.int (nI rows)), some (.int (nI cols)), some (.int (nI r)), o4, o5, o6, o7] [] w Q) : ∀ (k : Nat) (R : Nat → Bool) (f : Nat → Int32) (w : ZW) (o5 o6 o7 : Option Value), k ≤ 128 → rep R f → sR (g r &&& cols) k R = R1 → isM w (va_up A 6 f) I ab be → zOff 74 89 w0 w → Zw d mX9_mostOf z0 51 [some (.ref 74), some (.int (nI rows)), some (.int (nI cols)), some (.int (nI r)), some (.int (nI k - 1)), o5, o6, o7] [] w Q := by
  intro k
  induction k with
  | zero =>
    intro R f w o5 o6 o7 hi hR hE h ho
    have hE : R = R1 := hE
    subst hE
    refine zw_iload dX9_mostOf_51 rfl ?_
    refine zw_if_lt 166 dX9_mostOf_53 (by decide) (fun _ => ?_) (fun hz => absurd (by decide) hz)
    exact hK w f _ _ _ _ hR h ho
  | succ k ih =>
    intro R f w o5 o6 o7 hi hR hE h ho
    unfold sR at hE
    rw [nI_pred]
    have hin := vp_in_nI (n := k) (N := 128) (by omega) (by decide)
    have hK1 : ∀ w f o5 o6 o7 (R2 : Nat → Bool), rep R2 f → sR (g r &&& cols) k R2 = R1 → isM w (va_up A 6 f) I ab be → zOff 74 89 w0 w → Zw d mX9_mostOf z0 160 [some (.ref 74), some (.int (nI rows)), some (.int (nI cols)), some (.int (nI r)), some (.int (nI k)), o5, o6, o7] [] w Q := by
      intro w f o5 o6 o7 R2 hR2 hE2 h ho
      refine zw_iinc (nI k - 1) [_, _, _, _, _, _, _, _] dX9_mostOf_160 rfl ((by rw [Int32.sub_eq_add_neg]; rfl)) rfl ?_
      refine zw_goto 51 dX9_mostOf_163 (by decide) ?_
      exact ih R2 f w _ _ _ (by omega) hR2 hE2 h ho
    refine zw_iload dX9_mostOf_51 rfl ?_
    refine zw_if_lt 166 dX9_mostOf_53 (by decide) (fun hz => absurd hz (nI_pos (by omega))) (fun _ => ?_)
    refine zw_iconst dX9_mostOf_56 0 (by decide) ?_
    refine zw_istore [_, _, _, _, _, _, _, _] dX9_mostOf_57 (Nat.le_of_ble_eq_true rfl) rfl ?_
    by_cases hRk : R k = true
    · rw [if_pos hRk] at hE
      exact m_moC (g := g) (by omega) hr7 hc hg hgl (fun w f o5 o6 o7 a b c => hK1 w f o5 o6 o7 _ a hE b c) 7 0 R f w _ _ (by omega) hR hRk rfl h ho
    · rw [if_neg hRk] at hE
      have hfs : va_up A 6 f 6 k = -1 := by
        have := hR k (by omega)
        rw [if_neg hRk] at this
        exact this
      refine zw_iload dX9_mostOf_59 rfl ?_
      refine zw_bipush dX9_mostOf_61 7 (by decide) ?_
      refine zw_icmp_ge 160 dX9_mostOf_63 (by decide) (fun hz => absurd hz (by decide)) (fun _ => ?_)
      refine zw_aload_n dX9_mostOf_66 rfl ?_
      refine zw_get dX9_mostOf_67 fX9_30 h.1 rfl ?_
      refine zw_iload dX9_mostOf_70 rfl ?_
      refine zw_iald dX9_mostOf_72 h.q6 hin ?_
      rw [nI_clamp (by omega), hfs]
      refine zw_iconst dX9_mostOf_73 (-1) (by decide) ?_
      refine zw_icmp_eq 160 dX9_mostOf_74 (by decide) (fun _ => ?_) (fun hz => absurd (rfl) hz)
      exact hK1 w f _ _ _ R hR hE h ho
theorem m_moR {g : Nat → Nat} {rows cols : Nat} {w0 : ZW} {R1 : Nat → Bool} (hrw : rows < 128) (hc : cols < 128) (hg : ∀ r, r < 7 → A 5 r = nI (g r)) (hgl : ∀ r, r < 7 → g r < 128) (hK : ∀ w f o3 o4 o5 o6 o7, rep R1 f → isM w (va_up A 6 f) I ab be → zOff 74 89 w0 w → Zw d mX9_mostOf z0 172 [some (.ref 74), some (.int (nI rows)), some (.int (nI cols)), o3, o4, o5, o6, o7] [] w Q) : ∀ (k r : Nat) (R : Nat → Bool) (f : Nat → Int32) (w : ZW) (o4 o5 o6 o7 : Option Value), r + k = 7 → rep R f → rR g cols rows r k R = R1 → isM w (va_up A 6 f) I ab be → zOff 74 89 w0 w → Zw d mX9_mostOf z0 32 [some (.ref 74), some (.int (nI rows)), some (.int (nI cols)), some (.int (nI r)), o4, o5, o6, o7] [] w Q := by
  intro k
  induction k with
  | zero =>
    intro r R f w o4 o5 o6 o7 hi hR hE h ho
    have hE : R = R1 := hE
    subst hE
    refine zw_iload_n dX9_mostOf_32 rfl ?_
    refine zw_bipush dX9_mostOf_33 7 (by decide) ?_
    refine zw_icmp_ge 172 dX9_mostOf_35 (by decide) (fun _ => ?_) (fun hz => absurd (nI_le (a := 7) (by omega) (by omega)) hz)
    exact hK w f _ _ _ _ _ hR h ho
  | succ k ih =>
    intro r R f w o4 o5 o6 o7 hi hR hE h ho
    unfold rR at hE
    have hK1 : ∀ w f o4 o5 o6 o7 (R2 : Nat → Bool), rep R2 f → rR g cols rows (r + 1) k R2 = R1 → isM w (va_up A 6 f) I ab be → zOff 74 89 w0 w → Zw d mX9_mostOf z0 166 [some (.ref 74), some (.int (nI rows)), some (.int (nI cols)), some (.int (nI r)), o4, o5, o6, o7] [] w Q := by
      intro w f o4 o5 o6 o7 R2 hR2 hE2 h ho
      refine zw_iinc (nI (r + 1)) [_, _, _, _, _, _, _, _] dX9_mostOf_166 rfl (nI_1 r) rfl ?_
      refine zw_goto 32 dX9_mostOf_169 (by decide) ?_
      exact ih (r + 1) R2 f w _ _ _ _ (by omega) hR2 hE2 h ho
    refine zw_iload_n dX9_mostOf_32 rfl ?_
    refine zw_bipush dX9_mostOf_33 7 (by decide) ?_
    refine zw_icmp_ge 172 dX9_mostOf_35 (by decide) (fun hz => absurd hz (nI_ge (b := 7) (by omega) (by omega))) (fun _ => ?_)
    refine zw_iload_n dX9_mostOf_38 rfl ?_
    refine zw_iload_n dX9_mostOf_39 rfl ?_
    refine zw_ishr dX9_mostOf_40 ?_
    refine zw_iconst dX9_mostOf_41 1 (by decide) ?_
    refine zw_iand dX9_mostOf_42 ?_
    refine zw_top (bit_t rows hrw r (by omega)) ?_
    refine zw_iconst dX9_mostOf_43 1 (by decide) ?_
    by_cases hb : rows.testBit r = true
    · rw [if_pos hb] at hE ⊢
      refine zw_icmp_ne 166 dX9_mostOf_44 (by decide) (fun hz => absurd (rfl) hz) (fun _ => ?_)
      refine zw_bipush dX9_mostOf_47 127 (by decide) ?_
      refine zw_istore [_, _, _, _, _, _, _, _] dX9_mostOf_49 (Nat.le_of_ble_eq_true rfl) rfl ?_
      exact m_moS (g := g) (by omega) hc (hg r (by omega)) (hgl r (by omega)) (fun w f o4 o5 o6 o7 a b c => hK1 w f o4 o5 o6 o7 _ a hE b c) 128 R f w _ _ _ (by omega) hR rfl h ho
    · rw [if_neg hb] at hE ⊢
      refine zw_icmp_ne 166 dX9_mostOf_44 (by decide) (fun _ => ?_) (fun hz => absurd hz (by decide))
      exact hK1 w f _ _ _ _ R hR hE h ho
theorem m_moM {R : Nat → Bool} {rows cols : Int32} {f : Nat → Int32} (hR : rep R f) (h : isM w (va_up A 6 f) I ab be) : ∀ (k i m : Nat) (o5 o6 o7 : Option Value), i + k = 128 → m ≤ 7 → Q (some (.int (nI (maxR R i k m)))) w → Zw d mX9_mostOf z0 177 [some (.ref 74), some (.int rows), some (.int cols), some (.int (nI m)), some (.int (nI i)), o5, o6, o7] [] w Q := by
  intro k
  induction k with
  | zero =>
    intro i m o5 o6 o7 hi hm kk
    refine zw_iload dX9_mostOf_177 rfl ?_
    refine zw_sipush dX9_mostOf_179 128 (by decide) ?_
    refine zw_icmp_ge 214 dX9_mostOf_182 (by decide) (fun _ => ?_) (fun hz => absurd (nI_le (a := 128) (by omega) (by omega)) hz)
    refine zw_iload_n dX9_mostOf_214 rfl ?_
    refine zw_ireturn .int dX9_mostOf_215 rfl rfl (Nat.le_refl _) (Nat.le_refl _) ?_
    exact kk
  | succ k ih =>
    intro i m o5 o6 o7 hi hm kk
    unfold maxR at kk
    have hin := vp_in_nI (n := i) (N := 128) (by omega) (by decide)
    have hp := pop_le i (by omega)
    refine zw_iload dX9_mostOf_177 rfl ?_
    refine zw_sipush dX9_mostOf_179 128 (by decide) ?_
    refine zw_icmp_ge 214 dX9_mostOf_182 (by decide) (fun hz => absurd hz (nI_ge (b := 128) (by omega) (by omega))) (fun _ => ?_)
    refine zw_aload_n dX9_mostOf_185 rfl ?_
    refine zw_get dX9_mostOf_186 fX9_30 h.1 rfl ?_
    refine zw_iload dX9_mostOf_189 rfl ?_
    refine zw_iald dX9_mostOf_191 h.q6 hin ?_
    rw [nI_clamp (by omega)]
    by_cases hq : R i = true ∧ m < pop7 i
    · rw [if_pos hq] at kk
      have hf : va_up A 6 f 6 i = nI (pop7 i) := by
        have := hR i (by omega)
        rw [if_pos hq.1] at this
        exact this
      rw [hf]
      refine zw_iload_n dX9_mostOf_192 rfl ?_
      refine zw_icmp_le 206 dX9_mostOf_193 (by decide) (fun hz => absurd hz (nI_ge hq.2 (by omega))) (fun _ => ?_)
      refine zw_aload_n dX9_mostOf_196 rfl ?_
      refine zw_get dX9_mostOf_197 fX9_30 h.1 rfl ?_
      refine zw_iload dX9_mostOf_200 rfl ?_
      refine zw_iald dX9_mostOf_202 h.q6 hin ?_
      rw [nI_clamp (by omega), hf]
      refine zw_goto 207 dX9_mostOf_203 (by decide) ?_
      refine zw_istore_n [_, _, _, _, _, _, _, _] dX9_mostOf_207 (Nat.le_of_ble_eq_true rfl) rfl ?_
      refine zw_iinc (nI (i + 1)) [_, _, _, _, _, _, _, _] dX9_mostOf_208 rfl (nI_1 i) rfl ?_
      refine zw_goto 177 dX9_mostOf_211 (by decide) ?_
      exact ih (i + 1) _ _ _ _ (by omega) hp kk
    · rw [if_neg hq] at kk
      have hf : va_up A 6 f 6 i ≤ nI m := by
        have := hR i (by omega)
        by_cases h1 : R i = true
        · rw [if_pos h1] at this
          rw [show va_up A 6 f 6 i = nI (pop7 i) from this]
          exact nI_le (by have : ¬ m < pop7 i := fun z => hq ⟨h1, z⟩; omega) (by omega)
        · rw [if_neg h1] at this
          rw [show va_up A 6 f 6 i = -1 from this]
          have : ∀ p, p ≤ 7 → (-1 : Int32) ≤ nI p := by decide +kernel
          exact this m hm
      refine zw_iload_n dX9_mostOf_192 rfl ?_
      refine zw_icmp_le 206 dX9_mostOf_193 (by decide) (fun _ => ?_) (fun hz => absurd (hf) hz)
      refine zw_iload_n dX9_mostOf_206 rfl ?_
      refine zw_istore_n [_, _, _, _, _, _, _, _] dX9_mostOf_207 (Nat.le_of_ble_eq_true rfl) rfl ?_
      refine zw_iinc (nI (i + 1)) [_, _, _, _, _, _, _, _] dX9_mostOf_208 rfl (nI_1 i) rfl ?_
      refine zw_goto 177 dX9_mostOf_211 (by decide) ?_
      exact ih (i + 1) _ _ _ _ (by omega) hm kk
theorem m_moI {rows cols : Int32} {w0 : ZW} (hK : ∀ w f o3, rep (fun s => decide (s = 0)) f → isM w (va_up A 6 f) I ab be → zOff 74 89 w0 w → Zw d mX9_mostOf z0 30 [some (.ref 74), some (.int rows), some (.int cols), o3, none, none, none, none] [] w Q) : ∀ (k i : Nat) (f : Nat → Int32) (w : ZW), i + k = 128 → (∀ s, s < i → f s = if decide (s = 0) = true then nI (pop7 s) else -1) → isM w (va_up A 6 f) I ab be → zOff 74 89 w0 w → Zw d mX9_mostOf z0 2 [some (.ref 74), some (.int rows), some (.int cols), some (.int (nI i)), none, none, none, none] [] w Q := by
  intro k
  induction k with
  | zero =>
    intro i f w hi hR h ho
    refine zw_iload_n dX9_mostOf_2 rfl ?_
    refine zw_sipush dX9_mostOf_3 128 (by decide) ?_
    refine zw_icmp_ge 30 dX9_mostOf_6 (by decide) (fun _ => ?_) (fun hz => absurd (nI_le (a := 128) (by omega) (by omega)) hz)
    exact hK w f _ (fun s hs => hR s (by omega)) h ho
  | succ k ih =>
    intro i f w hi hR h ho
    have hin := vp_in_nI (n := i) (N := 128) (by omega) (by decide)
    refine zw_iload_n dX9_mostOf_2 rfl ?_
    refine zw_sipush dX9_mostOf_3 128 (by decide) ?_
    refine zw_icmp_ge 30 dX9_mostOf_6 (by decide) (fun hz => absurd hz (nI_ge (b := 128) (by omega) (by omega))) (fun _ => ?_)
    refine zw_aload_n dX9_mostOf_9 rfl ?_
    refine zw_get dX9_mostOf_10 fX9_30 h.1 rfl ?_
    refine zw_iload_n dX9_mostOf_13 rfl ?_
    refine zw_iload_n dX9_mostOf_14 rfl ?_
    by_cases h0 : i = 0
    · subst h0
      refine zw_if_ne 22 dX9_mostOf_15 (by decide) (fun hz => absurd (rfl) hz) (fun _ => ?_)
      refine zw_iconst dX9_mostOf_18 0 (by decide) ?_
      refine zw_goto 23 dX9_mostOf_19 (by decide) ?_
      refine zw_iast dX9_mostOf_23 h.q6 hin ?_
      rw [nI_clamp (by omega)]
      refine zw_iinc (nI (0 + 1)) [_, _, _, _, _, _, _, _] dX9_mostOf_24 rfl (nI_1 0) rfl ?_
      refine zw_goto 2 dX9_mostOf_27 (by decide) ?_
      refine ih (0 + 1) _ _ (by omega) (fun s hs => ?_) h.b6 (ho.tr (zOff.pt (by decide) (by decide)))
      have : s = 0 := by omega
      subst this
      rfl
    · refine zw_if_ne 22 dX9_mostOf_15 (by decide) (fun _ => ?_) (fun hz => absurd hz (nI_ne0 (by omega) (by omega)))
      refine zw_iconst dX9_mostOf_22 (-1) (by decide) ?_
      refine zw_iast dX9_mostOf_23 h.q6 hin ?_
      rw [nI_clamp (by omega)]
      refine zw_iinc (nI (i + 1)) [_, _, _, _, _, _, _, _] dX9_mostOf_24 rfl (nI_1 i) rfl ?_
      refine zw_goto 2 dX9_mostOf_27 (by decide) ?_
      refine ih (i + 1) _ _ (by omega) (fun s hs => ?_) h.b6 (ho.tr (zOff.pt (by decide) (by decide)))
      by_cases e : s = i
      · subst e
        rw [decide_eq_false h0]
        exact pk_us
      · exact (pk_un e).trans (hR s (by omega))
theorem m_mostOf {g : Nat → Nat} {rows cols : Nat} (hrw : rows < 128) (hc : cols < 128) (hg : ∀ r, r < 7 → A 5 r = nI (g r)) (hgl : ∀ r, r < 7 → g r < 128) (h : isM w A I ab be) (k : ∀ w' f, isM w' (va_up A 6 f) I ab be → zOff 74 89 w w' → Q (some (.int (nI (mostN g rows cols)))) w') : Zm d mX9_mostOf 0 0 [.ref 74, .int (nI rows), .int (nI cols)] w Q := by
  refine zm_intro [_, _, _, _, _, _, _, _] oX9_mostOf (Nat.le_of_ble_eq_true rfl) rfl ?_
  refine zw_iconst dX9_mostOf_0 0 (by decide) ?_
  refine zw_istore_n [_, _, _, _, _, _, _, _] dX9_mostOf_1 (Nat.le_of_ble_eq_true rfl) rfl ?_
  refine m_moI (w0 := w) (fun w1 f1 o3 hR1 h1 o1 => ?_) 128 0 _ w (by omega) (fun s hs => absurd hs (by omega)) (h.sf 6) zOff.rf
  refine zw_iconst dX9_mostOf_30 0 (by decide) ?_
  refine zw_istore_n [_, _, _, _, _, _, _, _] dX9_mostOf_31 (Nat.le_of_ble_eq_true rfl) rfl ?_
  refine m_moR (g := g) (w0 := w) hrw hc hg hgl (fun w2 f2 o3 o4 o5 o6 o7 hR2 h2 o2 => ?_) 7 0 _ f1 w1 _ _ _ _ (by omega) hR1 rfl h1 o1
  refine zw_iconst dX9_mostOf_172 0 (by decide) ?_
  refine zw_istore_n [_, _, _, _, _, _, _, _] dX9_mostOf_173 (Nat.le_of_ble_eq_true rfl) rfl ?_
  refine zw_iconst dX9_mostOf_174 0 (by decide) ?_
  refine zw_istore [_, _, _, _, _, _, _, _] dX9_mostOf_175 (Nat.le_of_ble_eq_true rfl) rfl ?_
  exact m_moM hR2 h2 128 0 0 _ _ _ (by omega) (by omega) (k w2 f2 h2 o2)
end ZMOD15
