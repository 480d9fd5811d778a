/-! ===== the Model: buy ===== -/
theorem mFit_0 {A B : Nat → Nat → Int32} {r : Nat} {k f s : Int32} (e : B 0 = A 0) : mFit B 0 r k f s = mFit A 0 r k f s := by
  unfold mFit mPl mB
  rw [e]
theorem mFS_0 {A B : Nat → Nat → Int32} (e : B 0 = A 0) : mFS B = mFS A := by
  funext k b
  unfold mFS
  rw [mFit_0 e, e]
theorem mPr_0 {A B : Nat → Nat → Int32} (e : B 0 = A 0) : mPr B = mPr A := by
  funext k
  unfold mPr
  rw [e]
def byF (fit : Nat → Nat → Bool) (pr : Nat → Nat) (s n : Nat) (R : Nat → Bool) (i k : Nat) (fo : Int32) : Int32 := match k with
  | 0 => fo
  | k + 1 => byF fit pr s n R (i + 1) k (if (manyN i ≤ 7 ∧ prN pr s 4 i 0 < 100000 ∧ (fo = -1 ∨ prN pr s 4 i 0 < prN pr s 4 fo.toNatClampNeg 0)) ∧ enR fit n 4 i R (2 ^ n - 1) = true then nI i else fo)
/-- which sets of boxes the lids cover -/
def lidR (g : Nat → Nat) (n l s : Nat) : Bool := decide (s ≤ 2 ^ n - 1) && covB g s (2 ^ l - 1)
/-- digit k of a purchase -/
def dgN (v k : Nat) : Nat := v / 8 ^ (3 - k) % 8
section ZMOD22
variable {d : Nat} {w w' : ZW} {A : Nat → Nat → Int32} {I : Nat → Int32} {ab be : Int64} {Q : Option Value → ZW → Prop}
theorem m_byS {g : Nat → Nat} {n l : Nat} {x : Int32} {w0 : ZW} (hb : I 0 = nI 0) (hn : A 0 0 = nI n) (hn7 : n ≤ 7) (hl : A 0 (0 + 1) = nI l) (hl7 : l ≤ 7) (hg : ∀ r, r < 7 → A 5 r = nI (g r)) (hgl : ∀ r, r < 7 → g r < 128) (hK : ∀ w B o2, mS 6 A B → rep8 (lidR g n l) (B 8) → isM w B I ab be → zOff 74 89 w0 w → Zw (d + 2) mX9_buy z0 75 [some (.ref 74), some (.int x), o2, none, none] [] w Q) : ∀ (k i : Nat) (B : Nat → Nat → Int32) (w : ZW), i + k = 128 → mS 6 A B → (∀ s, s < i → B 8 s = bI (lidR g n l s)) → isM w B I ab be → zOff 74 89 w0 w → Zw (d + 2) mX9_buy z0 31 [some (.ref 74), some (.int x), some (.int (nI i)), none, none] [] w Q := by
  have pn := pow_c hn7
  have pl := pow_c hl7
  have pn0 : 0 < 2 ^ n := Nat.two_pow_pos n
  have pl0 : 0 < 2 ^ l := Nat.two_pow_pos l
  intro k
  induction k with
  | zero =>
    intro i B w hi hS hR h ho
    refine zw_iload_n dX9_buy_31 rfl ?_
    refine zw_sipush dX9_buy_32 128 (by decide) ?_
    refine zw_icmp_ge 75 dX9_buy_35 (by decide) (fun _ => ?_) (fun hz => absurd (nI_le (a := 128) (by omega) (by omega)) hz)
    exact hK w B _ hS (fun s hs => hR s (by omega)) h ho
  | succ k ih =>
    intro i B w hi hS hR h ho
    have hin := vp_in_nI (n := i) (N := 128) (by omega) (by decide)
    have e0 := hS 0 (by decide)
    have hnB : B 0 0 = nI n := by rw [e0]; exact hn
    have hlB : B 0 (0 + 1) = nI l := by rw [e0]; exact hl
    have hgB : ∀ r, r < 7 → B 5 r = nI (g r) := fun r hr => by rw [hS 5 (by decide)]; exact hg r hr
    have fin : ∀ (v : Bool) B (w : ZW), v = lidR g n l i → mS 6 A B → (∀ s, s < i → B 8 s = bI (lidR g n l s)) → isM w B I ab be → zOff 74 89 w0 w → Zw (d + 2) mX9_buy z0 68 [some (.ref 74), some (.int x), some (.int (nI i)), none, none] [.int (bI v), .int (nI i), .ref 83] w Q := by
      intro v B w hv hS hR h ho
      refine zw_zast dX9_buy_68 h.q8 hin ?_
      rw [nI_clamp (by omega), nar_b]
      refine zw_iinc (nI (i + 1)) [_, _, _, _, _] dX9_buy_69 rfl (nI_1 i) rfl ?_
      refine zw_goto 31 dX9_buy_72 (by decide) ?_
      refine ih (i + 1) _ _ (by omega) (hS.tr (mS.up (by decide))) (fun s hs => ?_) h.a8 (ho.tr (zOff.pt (by decide) (by decide)))
      by_cases e : s = i
      · subst e; exact pk_us.trans (by rw [hv])
      · exact (pk_un e).trans (hR s (by omega))
    refine zw_iload_n dX9_buy_31 rfl ?_
    refine zw_sipush dX9_buy_32 128 (by decide) ?_
    refine zw_icmp_ge 75 dX9_buy_35 (by decide) (fun hz => absurd hz (nI_ge (b := 128) (by omega) (by omega))) (fun _ => ?_)
    refine zw_aload_n dX9_buy_38 rfl ?_
    refine zw_get dX9_buy_39 fX9_36 h.1 rfl ?_
    refine zw_iload_n dX9_buy_42 rfl ?_
    refine zw_iload_n dX9_buy_43 rfl ?_
    refine zw_aload_n dX9_buy_44 rfl ?_
    refine zw_cV0 dX9_buy_45 oX9_boxes kX9_boxes lX9_175 h.1 rfl (Nat.le_of_ble_eq_true rfl) rfl (m_boxes h hb hnB hn7 ?_)
    show Zw _ _ _ 48 [_, _, _, _, _] [_, _, _, _] _ _
    by_cases e1 : i ≤ 2 ^ n - 1
    · refine zw_icmp_gt 67 dX9_buy_48 (by decide) (fun hz => absurd hz (nI_nlt e1 (by omega))) (fun _ => ?_)
      refine zw_aload_n dX9_buy_51 rfl ?_
      refine zw_iload_n dX9_buy_52 rfl ?_
      refine zw_aload_n dX9_buy_53 rfl ?_
      refine zw_cV0 dX9_buy_54 oX9_lids kX9_lids lX9_178 h.1 rfl (Nat.le_of_ble_eq_true rfl) rfl (m_lids h hb hlB hl7 ?_)
      show Zw _ _ _ 57 [_, _, _, _, _] [_, _, _, _, _] _ _
      refine zw_cV2 dX9_buy_57 oX9_isCovered kX9_isCovered lX9_190 h.1 rfl (Nat.le_of_ble_eq_true rfl) rfl (m_isCovered (g := g) (by omega) (by omega) hgB hgl h (fun w1 f1 h1 o1 => ?_))
      show Zw _ _ _ 60 [_, _, _, _, _] [_, _, _] _ _
      have f1' := fun v hv => fin v (va_up B 6 f1) w1 hv (hS.tr (mS.up (by decide))) hR h1 (ho.tr o1)
      by_cases e2 : covB g i (2 ^ l - 1) = true
      · rw [e2]
        refine zw_if_eq 67 dX9_buy_60 (by decide) (fun hz => absurd hz (by decide)) (fun _ => ?_)
        refine zw_iconst dX9_buy_63 1 (by decide) ?_
        refine zw_goto 68 dX9_buy_64 (by decide) ?_
        exact f1' true (by unfold lidR; rw [decide_eq_true e1, e2]; rfl)
      · have e2 : covB g i (2 ^ l - 1) = false := by simpa using e2
        rw [e2]
        refine zw_if_eq 67 dX9_buy_60 (by decide) (fun _ => ?_) (fun hz => absurd (by decide) hz)
        refine zw_iconst dX9_buy_67 0 (by decide) ?_
        exact f1' false (by unfold lidR; rw [e2, Bool.and_false])
    · refine zw_icmp_gt 67 dX9_buy_48 (by decide) (fun _ => ?_) (fun hz => absurd (nI_lt (by omega) (by omega)) hz)
      refine zw_iconst dX9_buy_67 0 (by decide) ?_
      exact fin false B w (by unfold lidR; rw [decide_eq_false e1]; rfl) hS hR h ho
theorem m_byC {R : Nat → Bool} {n s : Nat} {x : Int32} {w0 : ZW} {V : Int32} (hb : I 0 = nI 0) (hn : A 0 0 = nI n) (hn7 : n ≤ 7) (hs : A 0 (0 + 2) = nI s) (hs4 : s ≤ 4) (hks : ∀ k, k < s → ∃ j, j < 6 ∧ A 0 (0 + (69 + 4 * k)) = nI j) (hp : ∀ k, k < s → A 0 (0 + (69 + 4 * k + 3)) = nI (mPr A k) ∧ mPr A k ≤ 50) (hK : ∀ w B o3 o4, (V = -1 ∨ ∃ v, v < 4096 ∧ V = nI v) → mS 6 A B → isM w B I ab be → zOff 74 89 w0 w → Zw (d + 6) mX9_buy z0 155 [some (.ref 74), some (.int x), some (.int V), o3, o4] [] w Q) : ∀ (k i : Nat) (fo : Int32) (B : Nat → Nat → Int32) (w : ZW) (o4 : Option Value), i + k = 4096 → (fo = -1 ∨ ∃ v, v < 4096 ∧ fo = nI v) → byF (mFS A) (mPr A) s n R i k fo = V → mS 6 A B → rep8 R (B 8) → isM w B I ab be → zOff 74 89 w0 w → Zw (d + 6) mX9_buy z0 79 [some (.ref 74), some (.int x), some (.int fo), some (.int (nI i)), o4] [] w Q := by
  intro k
  induction k with
  | zero =>
    intro i fo B w o4 hi hfo hE hS hR h ho
    have hE : fo = V := hE
    subst hE
    refine zw_iload_n dX9_buy_79 rfl ?_
    refine zw_sipush dX9_buy_80 4096 (by decide) ?_
    refine zw_icmp_ge 155 dX9_buy_83 (by decide) (fun _ => ?_) (fun hz => absurd (nI_le (a := 4096) (by omega) (by omega)) hz)
    exact hK w B _ _ hfo hS h ho
  | succ k ih =>
    intro i fo B w o4 hi hfo hE hS hR h ho
    have hi7 : i < 4096 := by omega
    unfold byF at hE
    have e0 := hS 0 (by decide)
    have hnB : B 0 0 = nI n := by rw [e0]; exact hn
    have hsB : B 0 (0 + 2) = nI s := by rw [e0]; exact hs
    have hkB : ∀ k, k < s → ∃ j, j < 6 ∧ B 0 (0 + (69 + 4 * k)) = nI j := by rw [e0]; exact hks
    have hpB : ∀ k, k < s → B 0 (0 + (69 + 4 * k + 3)) = nI (mPr B k) ∧ mPr B k ≤ 50 := by rw [mPr_0 e0, e0]; exact hp
    have bd : ∀ v, prN (mPr A) s 4 v 0 < 2 ^ 31 := fun v => Nat.lt_of_le_of_lt (prN_le (fun k hk => (hp k hk).2) 4 v 0) (by decide)
    have hmn : ∀ v, v < 4096 → manyN v < 100 := by intro v hv; unfold manyN; omega
    have keep : ∀ (w : ZW) B o4, ¬ ((manyN i ≤ 7 ∧ prN (mPr A) s 4 i 0 < 100000 ∧ (fo = -1 ∨ prN (mPr A) s 4 i 0 < prN (mPr A) s 4 fo.toNatClampNeg 0)) ∧ enR (mFS A) n 4 i R (2 ^ n - 1) = true) → mS 6 A B → rep8 R (B 8) → isM w B I ab be → zOff 74 89 w0 w → Zw (d + 6) mX9_buy z0 147 [some (.ref 74), some (.int x), some (.int fo), some (.int (nI i)), o4] [] w Q := by
      intro w B o4 hq hS hR h ho
      rw [if_neg hq] at hE
      refine zw_iload_n dX9_buy_147 rfl ?_
      refine zw_istore_n [_, _, _, _, _] dX9_buy_148 (Nat.le_of_ble_eq_true rfl) rfl ?_
      refine zw_iinc (nI (i + 1)) [_, _, _, _, _] dX9_buy_149 rfl (nI_1 i) rfl ?_
      refine zw_goto 79 dX9_buy_152 (by decide) ?_
      exact ih (i + 1) fo B w _ (by omega) hfo hE hS hR h ho
    have yes : (manyN i ≤ 7 ∧ prN (mPr A) s 4 i 0 < 100000 ∧ (fo = -1 ∨ prN (mPr A) s 4 i 0 < prN (mPr A) s 4 fo.toNatClampNeg 0)) → Zw (d + 6) mX9_buy z0 123 [some (.ref 74), some (.int x), some (.int fo), some (.int (nI i)), o4] [] w Q := by
      intro hq
      refine zw_iconst dX9_buy_123 1 (by decide) ?_
      refine zw_goto 128 dX9_buy_124 (by decide) ?_
      refine zw_istore [_, _, _, _, _] dX9_buy_128 (Nat.le_of_ble_eq_true rfl) rfl ?_
      refine zw_iload dX9_buy_130 rfl ?_
      refine zw_if_eq 147 dX9_buy_132 (by decide) (fun hz => absurd hz (by decide)) (fun _ => ?_)
      refine zw_aload_n dX9_buy_135 rfl ?_
      refine zw_iload_n dX9_buy_136 rfl ?_
      refine zw_cV1 dX9_buy_137 oX9_isEnough kX9_isEnough lX9_207 h.1 rfl (Nat.le_of_ble_eq_true rfl) rfl (m_isEnough (A := B) hb hnB hn7 hkB hi7 (prN_ok 4 i 0 hq.2.1) hR h (fun w1 f1 h1 o1 => ?_))
      show Zw _ _ _ 140 [_, _, _, _, _] [_] _ _
      rw [mFS_0 e0]
      by_cases e : enR (mFS A) n 4 i R (2 ^ n - 1) = true
      · rw [if_pos ⟨hq, e⟩] at hE
        rw [e]
        refine zw_if_eq 147 dX9_buy_140 (by decide) (fun hz => absurd hz (by decide)) (fun _ => ?_)
        refine zw_iload_n dX9_buy_143 rfl ?_
        refine zw_goto 148 dX9_buy_144 (by decide) ?_
        refine zw_istore_n [_, _, _, _, _] dX9_buy_148 (Nat.le_of_ble_eq_true rfl) rfl ?_
        refine zw_iinc (nI (i + 1)) [_, _, _, _, _] dX9_buy_149 rfl (nI_1 i) rfl ?_
        refine zw_goto 79 dX9_buy_152 (by decide) ?_
        exact ih (i + 1) _ (va_up B 9 f1) w1 _ (by omega) (Or.inr ⟨i, hi7, rfl⟩) hE (hS.tr (mS.up (by decide))) hR h1 (ho.tr o1)
      · have e' : enR (mFS A) n 4 i R (2 ^ n - 1) = false := by simpa using e
        rw [e']
        refine zw_if_eq 147 dX9_buy_140 (by decide) (fun _ => ?_) (fun hz => absurd (by decide) hz)
        exact keep w1 (va_up B 9 f1) _ (fun z => e z.2) (hS.tr (mS.up (by decide))) hR h1 (ho.tr o1)
    have no : ¬ (manyN i ≤ 7 ∧ prN (mPr A) s 4 i 0 < 100000 ∧ (fo = -1 ∨ prN (mPr A) s 4 i 0 < prN (mPr A) s 4 fo.toNatClampNeg 0)) → Zw (d + 6) mX9_buy z0 127 [some (.ref 74), some (.int x), some (.int fo), some (.int (nI i)), o4] [] w Q := by
      intro hq
      refine zw_iconst dX9_buy_127 0 (by decide) ?_
      refine zw_istore [_, _, _, _, _] dX9_buy_128 (Nat.le_of_ble_eq_true rfl) rfl ?_
      refine zw_iload dX9_buy_130 rfl ?_
      refine zw_if_eq 147 dX9_buy_132 (by decide) (fun _ => ?_) (fun hz => absurd (by decide) hz)
      exact keep w B _ (fun z => hq z.1) hS hR h ho
    refine zw_iload_n dX9_buy_79 rfl ?_
    refine zw_sipush dX9_buy_80 4096 (by decide) ?_
    refine zw_icmp_ge 155 dX9_buy_83 (by decide) (fun hz => absurd hz (nI_ge (b := 4096) (by omega) (by omega))) (fun _ => ?_)
    refine zw_iload_n dX9_buy_86 rfl ?_
    refine zw_cS1 dX9_buy_87 oX9_manyIn kX9_manyIn lX9_201 (Nat.le_of_ble_eq_true rfl) rfl (m_manyIn hi7 ?_)
    show Zw _ _ _ 90 [_, _, _, _, _] [_] _ _
    refine zw_bipush dX9_buy_90 7 (by decide) ?_
    have := hmn i hi7
    by_cases e1 : manyN i ≤ 7
    · refine zw_icmp_gt 127 dX9_buy_92 (by decide) (fun hz => absurd hz (nI_nlt (a := 7) e1 (by omega))) (fun _ => ?_)
      refine zw_aload_n dX9_buy_95 rfl ?_
      refine zw_iload_n dX9_buy_96 rfl ?_
      refine zw_cV1 dX9_buy_97 oX9_priceOf kX9_priceOf lX9_204 h.1 rfl (Nat.le_of_ble_eq_true rfl) rfl (m_priceOf h hb hsB hs4 hpB hi7 ?_)
      show Zw _ _ _ 100 [_, _, _, _, _] [_] _ _
      rw [mPr_0 e0]
      refine zw_ldc dX9_buy_100 qX9_200 ?_
      by_cases e2 : prN (mPr A) s 4 i 0 < 100000
      · refine zw_icmp_ge 127 dX9_buy_102 (by decide) (fun hz => absurd hz (nI_ge (b := 100000) e2 (by decide))) (fun _ => ?_)
        refine zw_iload_n dX9_buy_105 rfl ?_
        refine zw_iconst dX9_buy_106 (-1) (by decide) ?_
        by_cases e3 : fo = -1
        · refine zw_icmp_eq 123 dX9_buy_107 (by decide) (fun _ => ?_) (fun hz => absurd (e3) hz)
          exact yes ⟨e1, e2, Or.inl e3⟩
        · obtain ⟨v, hv, ev⟩ := hfo.resolve_left e3
          have ec : fo.toNatClampNeg = v := by rw [ev, nI_clamp (by omega)]
          refine zw_icmp_eq 123 dX9_buy_107 (by decide) (fun hz => absurd hz (e3)) (fun _ => ?_)
          refine zw_aload_n dX9_buy_110 rfl ?_
          refine zw_iload_n dX9_buy_111 rfl ?_
          refine zw_cV1 dX9_buy_112 oX9_priceOf kX9_priceOf lX9_204 h.1 rfl (Nat.le_of_ble_eq_true rfl) rfl (m_priceOf h hb hsB hs4 hpB hi7 ?_)
          show Zw _ _ _ 115 [_, _, _, _, _] [_] _ _
          rw [mPr_0 e0]
          refine zw_aload_n dX9_buy_115 rfl ?_
          refine zw_iload_n dX9_buy_116 rfl ?_
          rw [show (Value.int fo) = Value.int (nI v) from congrArg Value.int ev]
          refine zw_cV1 dX9_buy_117 oX9_priceOf kX9_priceOf lX9_204 h.1 rfl (Nat.le_of_ble_eq_true rfl) rfl (m_priceOf h hb hsB hs4 hpB hv ?_)
          show Zw _ _ _ 120 [_, _, _, _, _] [_, _] _ _
          rw [mPr_0 e0, ← ev]
          by_cases e4 : prN (mPr A) s 4 i 0 < prN (mPr A) s 4 v 0
          · refine zw_icmp_ge 127 dX9_buy_120 (by decide) (fun hz => absurd hz (nI_ge e4 (bd v))) (fun _ => ?_)
            exact yes ⟨e1, e2, Or.inr (by rw [ec]; exact e4)⟩
          · refine zw_icmp_ge 127 dX9_buy_120 (by decide) (fun _ => ?_) (fun hz => absurd (nI_le (by omega) (bd i)) hz)
            exact no (fun z => by rcases z.2.2 with q | q; exact e3 q; rw [ec] at q; exact e4 q)
      · refine zw_icmp_ge 127 dX9_buy_102 (by decide) (fun _ => ?_) (fun hz => absurd (nI_le (a := 100000) (by omega) (bd i)) hz)
        exact no (fun z => e2 z.2.1)
    · refine zw_icmp_gt 127 dX9_buy_92 (by decide) (fun _ => ?_) (fun hz => absurd (nI_lt (a := 7) (by omega) (by omega)) hz)
      exact no (fun z => e1 z.1)
theorem m_byD {x V : Int32} {v0 : Nat} {w0 : ZW} (hK : ∀ w B o3 o4, mS 6 A B → (∀ j, j < 4 → B 10 j = nI (dgN v0 j)) → isM w B I ab be → zOff 74 89 w0 w → Zw (d + 6) mX9_buy z0 194 [some (.ref 74), some (.int x), some (.int V), o3, o4] [] w Q) : ∀ (k v : Nat) (B : Nat → Nat → Int32) (w : ZW), k ≤ 4 → v < 4096 → v = v0 / 8 ^ (4 - k) → mS 6 A B → (∀ j, k ≤ j → j < 4 → B 10 j = nI (dgN v0 j)) → isM w B I ab be → zOff 74 89 w0 w → Zw (d + 6) mX9_buy z0 167 [some (.ref 74), some (.int x), some (.int V), some (.int (nI v)), some (.int (nI k - 1))] [] w Q := by
  intro k
  induction k with
  | zero =>
    intro v B w hi hv hE hS hR h ho
    refine zw_iload dX9_buy_167 rfl ?_
    refine zw_if_lt 194 dX9_buy_169 (by decide) (fun _ => ?_) (fun hz => absurd (by decide) hz)
    exact hK w B _ _ hS (fun j hj => hR j (by omega) hj) h ho
  | succ k ih =>
    intro v B w hi hv hE hS hR h ho
    rw [nI_pred]
    have e4 : 4 - (k + 1) = 3 - k := by omega
    refine zw_iload dX9_buy_167 rfl ?_
    refine zw_if_lt 194 dX9_buy_169 (by decide) (fun hz => absurd hz (nI_pos (by omega))) (fun _ => ?_)
    refine zw_aload_n dX9_buy_172 rfl ?_
    refine zw_get dX9_buy_173 fX9_42 h.1 rfl ?_
    refine zw_iload dX9_buy_176 rfl ?_
    refine zw_iload_n dX9_buy_178 rfl ?_
    refine zw_bipush dX9_buy_179 8 (by decide) ?_
    refine zw_irem dX9_buy_181 (by decide) ?_
    refine zw_top (y := nI (v % 8)) (pk_rem (d := 8) (by omega) (by decide) (by decide)) ?_
    refine zw_iast dX9_buy_182 h.q10 (vp_in_nI (n := k) (N := 4) (by omega) (by decide)) ?_
    rw [nI_clamp (by omega)]
    refine zw_iload_n dX9_buy_183 rfl ?_
    refine zw_bipush dX9_buy_184 8 (by decide) ?_
    refine zw_idiv dX9_buy_186 (by decide) ?_
    refine zw_top (y := nI (v / 8)) (pk_div (d := 8) (by omega) (by decide) (by decide)) ?_
    refine zw_istore_n [_, _, _, _, _] dX9_buy_187 (Nat.le_of_ble_eq_true rfl) rfl ?_
    refine zw_iinc (nI k - 1) [_, _, _, _, _] dX9_buy_188 rfl (sub_1 _) rfl ?_
    refine zw_goto 167 dX9_buy_191 (by decide) ?_
    refine ih (v / 8) _ _ (by omega) (by omega) ?_ (hS.tr (mS.up (by decide))) (fun j hj hj4 => ?_) h.a10 (ho.tr (zOff.pt (by decide) (by decide)))
    · rw [hE, Nat.div_div_eq_div_mul, ← Nat.pow_succ]
      congr 2
      omega
    · by_cases e : j = k
      · subst e
        refine pk_us.trans ?_
        unfold dgN
        rw [hE, e4]
      · exact (pk_un e).trans (hR j (by omega) hj4)
theorem m_buy {n l s : Nat} {x : Int32} (h : isM w A I ab be) (hb : I 0 = nI 0) (hn : A 0 0 = nI n) (hn7 : n ≤ 7) (hl : A 0 (0 + 1) = nI l) (hl7 : l ≤ 7) (hk : ∀ i, i < l → ∃ j, j < 6 ∧ mLd A 0 i 0 = nI j) (hs : A 0 (0 + 2) = nI s) (hs4 : s ≤ 4) (hks : ∀ k, k < s → ∃ j, j < 6 ∧ A 0 (0 + (69 + 4 * k)) = nI j) (hp : ∀ k, k < s → A 0 (0 + (69 + 4 * k + 3)) = nI (mPr A k) ∧ mPr A k ≤ 50) (kB : ¬ x = -1 → (∀ r, r < s → ¬ x = nI r) → ∀ w', isM w' (toldI A 0 0) I ab be → zOff 74 89 w w' → Q (some (.int (-10))) w') (k1 : (x = -1 ∨ ∃ r, r < s ∧ x = nI r) → byF (mFS A) (mPr A) s n (lidR (mG A n l) n l) 0 4096 (-1) = -1 → ∀ w' B, mS 4 A B → isM w' B I ab be → zOff 74 89 w w' → Q (some (.int (-1))) w') (kN : ∀ v, v < 4096 → byF (mFS A) (mPr A) s n (lidR (mG A n l) n l) 0 4096 (-1) = nI v → x = -1 → ∀ w' B, mS 4 A B → isM w' B I ab be → zOff 74 89 w w' → Q (some (.int (nI (prN (mPr A) s 4 v 0)))) w') (kA : ∀ v r, v < 4096 → byF (mFS A) (mPr A) s n (lidR (mG A n l) n l) 0 4096 (-1) = nI v → r < s → x = nI r → ∀ w' B, mS 4 A B → isM w' B I ab be → zOff 74 89 w w' → Q (some (.int (nI (dgN v r)))) w') : Zm (d + 6) mX9_buy 0 0 [.ref 74, .int x] w Q := by
  have go : (x = -1 ∨ ∃ r, r < s ∧ x = nI r) → Zw (d + 6) mX9_buy z0 25 [some (.ref 74), some (.int x), none, none, none] [] w Q := by
    intro hx
    refine zw_aload_n dX9_buy_25 rfl ?_
    refine zw_cV0 dX9_buy_26 oX9_findFits kX9_findFits lX9_172 h.1 rfl (Nat.le_of_ble_eq_true rfl) rfl (m_findFits h hb hn hn7 hl hl7 hk (fun w1 f hf h1 o1 => ?_))
    show Zw _ _ _ 29 [_, _, _, _, _] [] _ _
    refine zw_iconst dX9_buy_29 0 (by decide) ?_
    refine zw_istore_n [_, _, _, _, _] dX9_buy_30 (Nat.le_of_ble_eq_true rfl) rfl ?_
    have hS1 : mS 4 A (va_up A 5 f) := mS.up (by decide)
    refine m_byS (A := va_up A 5 f) (g := mG A n l) (w0 := w) (d := d + 4) hb hn hn7 hl hl7 hf (fun r _ => mG_lt hl7) (fun w2 B2 o2 hS2 hR2 h2 o2' => ?_) 128 0 _ w1 (by omega) mS.rf (fun s hs => absurd hs (by omega)) h1 o1
    refine zw_iconst dX9_buy_75 (-1) (by decide) ?_
    refine zw_istore_n [_, _, _, _, _] dX9_buy_76 (Nat.le_of_ble_eq_true rfl) rfl ?_
    refine zw_iconst dX9_buy_77 0 (by decide) ?_
    refine zw_istore_n [_, _, _, _, _] dX9_buy_78 (Nat.le_of_ble_eq_true rfl) rfl ?_
    have e0 : (va_up A 5 f) 0 = A 0 := rfl
    refine m_byC (A := va_up A 5 f) (R := lidR (mG A n l) n l) (w0 := w) (V := byF (mFS A) (mPr A) s n (lidR (mG A n l) n l) 0 4096 (-1)) hb hn hn7 hs hs4 hks (by rw [mPr_0 e0]; exact hp) (fun w3 B3 o3 o4 hV hS3 h3 o3' => ?_) 4096 0 (-1) B2 w2 _ (by omega) (Or.inl rfl) (by rw [mPr_0 e0, mFS_0 e0]) hS2 hR2 h2 o2'
    have kk1 := k1 hx
    generalize byF (mFS A) (mPr A) s n (lidR (mG A n l) n l) 0 4096 (-1) = V at hV kk1 kN kA ⊢
    refine zw_iload_n dX9_buy_155 rfl ?_
    refine zw_iconst dX9_buy_156 (-1) (by decide) ?_
    rcases hV with e1 | ⟨v, hv, ev⟩
    · refine zw_icmp_ne 162 dX9_buy_157 (by decide) (fun hz => absurd (e1) hz) (fun _ => ?_)
      refine zw_iconst dX9_buy_160 (-1) (by decide) ?_
      refine zw_ireturn .int dX9_buy_161 rfl rfl (Nat.le_refl _) (Nat.le_refl _) ?_
      exact kk1 e1 w3 B3 (hS1.tr (hS3.dn (by decide))) h3 o3'
    · have hne : ∀ v, v < 4096 → ¬ nI v = -1 := by
        intro v hv z
        have := congrArg Int32.toInt z
        rw [nI_toInt (by omega)] at this
        simp at this
      refine zw_icmp_ne 162 dX9_buy_157 (by decide) (fun _ => ?_) (fun hz => absurd hz (by rw [ev]; exact hne v hv))
      subst ev
      refine zw_iload_n dX9_buy_162 rfl ?_
      refine zw_istore_n [_, _, _, _, _] dX9_buy_163 (Nat.le_of_ble_eq_true rfl) rfl ?_
      refine zw_iconst dX9_buy_164 3 (by decide) ?_
      refine zw_istore [_, _, _, _, _] dX9_buy_165 (Nat.le_of_ble_eq_true rfl) rfl ?_
      refine m_byD (A := va_up A 5 f) (V := nI v) (v0 := v) (w0 := w) (fun w4 B4 o3 o4 hS4 hD h4 o4' => ?_) 4 v B3 w3 (by omega) hv (by simp) hS3 (fun j h1 h2 => by omega) h3 o3'
      have hS' := hS1.tr (hS4.dn (m := 4) (by decide))
      have e4 := hS' 0 (by decide)
      refine zw_iload_n dX9_buy_194 rfl ?_
      refine zw_iconst dX9_buy_195 (-1) (by decide) ?_
      rcases hx with ex | ⟨r, hr, ex⟩
      · refine zw_icmp_ne 207 dX9_buy_196 (by decide) (fun hz => absurd (ex) hz) (fun _ => ?_)
        refine zw_aload_n dX9_buy_199 rfl ?_
        refine zw_iload_n dX9_buy_200 rfl ?_
        refine zw_cV1 dX9_buy_201 oX9_priceOf kX9_priceOf lX9_204 h4.1 rfl (Nat.le_of_ble_eq_true rfl) rfl (m_priceOf (A := B4) (s := s) h4 hb (by rw [e4]; exact hs) hs4 (by rw [mPr_0 e4, e4]; exact hp) hv ?_)
        show Zw _ _ _ 204 [_, _, _, _, _] [_] _ _
        rw [mPr_0 e4]
        refine zw_goto 213 dX9_buy_204 (by decide) ?_
        refine zw_ireturn .int dX9_buy_213 rfl rfl (Nat.le_refl _) (Nat.le_refl _) ?_
        exact kN v hv rfl ex w4 B4 hS' h4 o4'
      · have kk := kA v r hv rfl hr ex
        have hn1 : ¬ x = -1 := by rw [ex]; exact hne r (by omega)
        subst ex
        refine zw_icmp_ne 207 dX9_buy_196 (by decide) (fun _ => ?_) (fun hz => absurd hz (hn1))
        refine zw_aload_n dX9_buy_207 rfl ?_
        refine zw_get dX9_buy_208 fX9_42 h4.1 rfl ?_
        refine zw_iload_n dX9_buy_211 rfl ?_
        refine zw_iald dX9_buy_212 h4.q10 (vp_in_nI (n := r) (N := 4) (by omega) (by decide)) ?_
        rw [nI_clamp (by omega), hD r (by omega)]
        refine zw_ireturn .int dX9_buy_213 rfl rfl (Nat.le_refl _) (Nat.le_refl _) ?_
        exact kk w4 B4 hS' h4 o4'
  refine zm_intro [_, _, _, _, _] oX9_buy (Nat.le_of_ble_eq_true rfl) rfl ?_
  refine zw_iload_n dX9_buy_0 rfl ?_
  refine zw_iconst dX9_buy_1 (-1) (by decide) ?_
  by_cases e1 : x = -1
  · refine zw_icmp_eq 25 dX9_buy_2 (by decide) (fun _ => ?_) (fun hz => absurd (e1) hz)
    exact go (Or.inl e1)
  · refine zw_icmp_eq 25 dX9_buy_2 (by decide) (fun hz => absurd hz (e1)) (fun _ => ?_)
    refine zw_iload_n dX9_buy_5 rfl ?_
    refine zw_iconst dX9_buy_6 0 (by decide) ?_
    refine zw_aload_n dX9_buy_7 rfl ?_
    refine zw_iconst dX9_buy_8 2 (by decide) ?_
    refine zw_cV1 dX9_buy_9 oX9_get kX9_get lX9_62 h.1 rfl (Nat.le_of_ble_eq_true rfl) rfl (m_get (b := 0) (j := 2) h hb (by omega) ?_)
    show Zw _ _ _ 12 [_, _, _, _, _] [_, _, _] _ _
    refine zw_top (hs) ?_
    refine zw_iconst dX9_buy_12 1 (by decide) ?_
    refine zw_isub dX9_buy_13 ?_
    refine zw_cS3 dX9_buy_14 oX9_in kX9_in lX9_66 (Nat.le_of_ble_eq_true rfl) rfl (m_isX (y := 0) (n := s) (by omega) (fun r hr e => ?_) (fun q => ?_))
    · show Zw _ _ _ 17 [_, _, _, _, _] [_] _ _
      refine zw_if_ne 25 dX9_buy_17 (by decide) (fun _ => ?_) (fun hz => absurd hz (by decide))
      exact go (Or.inr ⟨r, hr, e⟩)
    · show Zw _ _ _ 17 [_, _, _, _, _] [_] _ _
      refine zw_if_ne 25 dX9_buy_17 (by decide) (fun hz => absurd (by decide) hz) (fun _ => ?_)
      refine zw_aload_n dX9_buy_20 rfl ?_
      refine zw_cV0 dX9_buy_21 oX9_bad10 kX9_bad10 lX9_118 h.1 rfl (Nat.le_of_ble_eq_true rfl) rfl (m_bad10 hb (by decide) h (fun w1 h1 o1 => ?_))
      show Zw _ _ _ 24 [_, _, _, _, _] [_] _ _
      refine zw_ireturn .int dX9_buy_24 rfl rfl (Nat.le_refl _) (Nat.le_refl _) ?_
      exact kB e1 q w1 h1 o1
end ZMOD22
