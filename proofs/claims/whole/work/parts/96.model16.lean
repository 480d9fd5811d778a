/-! ===== the Model: the first of the best ways, most, piles ===== -/
/-- the first n rows are as they were -/
def mS (n : Nat) (A B : Nat → Nat → Int32) : Prop := ∀ j, j < n → B j = A j
theorem mS.rf {n : Nat} {A : Nat → Nat → Int32} : mS n A A := fun _ _ => rfl
theorem mS.tr {n : Nat} {A B D : Nat → Nat → Int32} (h : mS n A B) (h' : mS n B D) : mS n A D := fun j hj => (h' j hj).trans (h j hj)
theorem mS.dn {n m : Nat} {A B : Nat → Nat → Int32} (h : mS n A B) (hm : m ≤ n) : mS m A B := fun j hj => h j (Nat.lt_of_lt_of_le hj hm)
theorem mS.up {n k : Nat} {A : Nat → Nat → Int32} {f : Nat → Int32} (h : n ≤ k) : mS n A (va_up A k f) := fun j hj => by unfold va_up; rw [if_neg (by omega)]
/-- the column of row r -/
def mtR (g : Nat → Nat) (rows r left : Nat) (x : Int32) : Int32 := if rows.testBit r = true then fnd (fun c => (g r &&& left).testBit c && decide (nI (mostN g (andn rows (2 ^ (r + 1) - 1)) (andn left (2 ^ c))) = x - 1)) 0 7 else -1
/-- the column of the row i behind r -/
def mtA (g : Nat → Nat) (rows r left : Nat) (x : Int32) (i : Nat) : Int32 := match i with
  | 0 => mtR g rows r left x
  | i + 1 => mtA g rows (r + 1) (if mtR g rows r left x = -1 then left else andn left (2 ^ (mtR g rows r left x).toNatClampNeg)) (if mtR g rows r left x = -1 then x else x - 1) i
theorem mtR_is (g : Nat → Nat) (rows r left : Nat) (x : Int32) : mtR g rows r left x = -1 ∨ ∃ s, s < 7 ∧ mtR g rows r left x = nI s := by
  unfold mtR
  split
  · rcases fnd_cases (fun c => (g r &&& left).testBit c && decide (nI (mostN g (andn rows (2 ^ (r + 1) - 1)) (andn left (2 ^ c))) = x - 1)) 7 0 with ⟨e, _⟩ | ⟨j, _, hj, _, e, _⟩
    · exact Or.inl e
    · exact Or.inr ⟨j, by omega, e⟩
  · exact Or.inl rfl
theorem nI_m1 : ∀ s, s < 7 → ¬ nI s = -1 := by decide +kernel
theorem pow_7 : ∀ c, c < 7 → 2 ^ c < 128 := by decide
theorem shl2_m1 : ∀ r, r < 7 → ((2 : Int32) <<< (nI r &&& 31)) - 1 = nI (2 ^ (r + 1) - 1) := by decide +kernel
theorem pow_71 : ∀ c, c < 7 → 2 ^ (c + 1) - 1 < 128 := by decide
theorem sub_1 (x : Int32) : x + Int32.ofInt (-1) = x - 1 := by rw [Int32.sub_eq_add_neg]; rfl
section ZMOD16
variable {d : Nat} {w w' : ZW} {A : Nat → Nat → Int32} {I : Nat → Int32} {ab be : Int64} {Q : Option Value → ZW → Prop}
theorem m_fiC {g : Nat → Nat} {rows r left : Nat} {x mo cols : Int32} {w0 : ZW} {T : Nat → Int32} {V : Int32} (hrw : rows < 128) (hl : left < 128) (hr7 : r < 7) (hrb : rows.testBit r = true) (hg : ∀ r, r < 7 → A 5 r = nI (g r)) (hgl : ∀ r, r < 7 → g r < 128) (hK : ∀ w B o8, mS 6 A B → (∀ j, j < r → B 7 j = T j) → B 7 r = V → isM w B I ab be → zOff 74 89 w0 w → Zw (d + 1) mX9_findFirst z0 129 [some (.ref 74), some (.int (nI rows)), some (.int cols), some (.int mo), some (.int (nI left)), some (.int x), some (.int (nI r)), some (.int (nI (andn rows (2 ^ (r + 1) - 1)))), o8] [] w Q) : ∀ (k c : Nat) (B : Nat → Nat → Int32) (w : ZW), c + k = 7 → mS 6 A B → (∀ j, j < r → B 7 j = T j) → B 7 r = -1 → fnd (fun c => (g r &&& left).testBit c && decide (nI (mostN g (andn rows (2 ^ (r + 1) - 1)) (andn left (2 ^ c))) = x - 1)) c k = V → isM w B I ab be → zOff 74 89 w0 w → Zw (d + 1) mX9_findFirst z0 46 [some (.ref 74), some (.int (nI rows)), some (.int cols), some (.int mo), some (.int (nI left)), some (.int x), some (.int (nI r)), some (.int (nI (andn rows (2 ^ (r + 1) - 1)))), some (.int (nI c))] [] w Q := by
  intro k
  induction k with
  | zero =>
    intro c B w hi hS hT hV hE h ho
    have hE : (-1 : Int32) = V := hE
    refine zw_iload dX9_findFirst_46 rfl ?_
    refine zw_bipush dX9_findFirst_48 7 (by decide) ?_
    refine zw_icmp_ge 129 dX9_findFirst_50 (by decide) (fun _ => ?_) (fun hz => absurd (nI_le (a := 7) (by omega) (by omega)) hz)
    exact hK w B _ hS hT (hV.trans hE) h ho
  | succ k ih =>
    intro c B w hi hS hT hV hE h ho
    unfold fnd at hE
    have hin := vp_in_nI (n := r) (N := 7) hr7 (by decide)
    have hgB : ∀ r, r < 7 → B 5 r = nI (g r) := fun r hr => (congrFun (hS 5 (by decide)) r).trans (hg r hr)
    have hm : g r &&& left < 128 := and_lt (hgl r hr7)
    refine zw_iload dX9_findFirst_46 rfl ?_
    refine zw_bipush dX9_findFirst_48 7 (by decide) ?_
    refine zw_icmp_ge 129 dX9_findFirst_50 (by decide) (fun hz => absurd hz (nI_ge (b := 7) (by omega) (by omega))) (fun _ => ?_)
    refine zw_aload_n dX9_findFirst_53 rfl ?_
    refine zw_get dX9_findFirst_54 fX9_33 h.1 rfl ?_
    refine zw_iload dX9_findFirst_57 rfl ?_
    refine zw_iald dX9_findFirst_59 h.q7 hin ?_
    rw [nI_clamp (by omega), hV]
    refine zw_iconst dX9_findFirst_60 (-1) (by decide) ?_
    refine zw_icmp_ne 129 dX9_findFirst_61 (by decide) (fun hz => absurd (rfl) hz) (fun _ => ?_)
    refine zw_iload_n dX9_findFirst_64 rfl ?_
    refine zw_iload dX9_findFirst_65 rfl ?_
    refine zw_ishr dX9_findFirst_67 ?_
    refine zw_iconst dX9_findFirst_68 1 (by decide) ?_
    refine zw_iand dX9_findFirst_69 ?_
    refine zw_top (bit_t rows hrw r (by omega)) ?_
    rw [if_pos hrb]
    refine zw_iconst dX9_findFirst_70 1 (by decide) ?_
    refine zw_icmp_ne 129 dX9_findFirst_71 (by decide) (fun hz => absurd (rfl) hz) (fun _ => ?_)
    refine zw_aload_n dX9_findFirst_74 rfl ?_
    refine zw_get dX9_findFirst_75 fX9_27 h.1 rfl ?_
    refine zw_iload dX9_findFirst_78 rfl ?_
    refine zw_iald dX9_findFirst_80 h.q5 hin ?_
    rw [nI_clamp (by omega), hgB r hr7]
    refine zw_iload dX9_findFirst_81 rfl ?_
    refine zw_iand dX9_findFirst_83 ?_
    refine zw_top (and_I _ (hgl r hr7) _ hl) ?_
    refine zw_iconst dX9_findFirst_84 1 (by decide) ?_
    refine zw_iload dX9_findFirst_85 rfl ?_
    refine zw_ishl dX9_findFirst_87 ?_
    refine zw_iand dX9_findFirst_88 ?_
    by_cases hb : (g r &&& left).testBit c = true
    · refine zw_if_eq 123 dX9_findFirst_89 (by decide) (fun hz => absurd hz (andb_1 _ hm c (by omega) hb)) (fun _ => ?_)
      refine zw_aload_n dX9_findFirst_92 rfl ?_
      refine zw_iload dX9_findFirst_93 rfl ?_
      refine zw_iload dX9_findFirst_95 rfl ?_
      refine zw_iconst dX9_findFirst_97 1 (by decide) ?_
      refine zw_iload dX9_findFirst_98 rfl ?_
      refine zw_ishl dX9_findFirst_100 ?_
      refine zw_iconst dX9_findFirst_101 (-1) (by decide) ?_
      refine zw_ixor dX9_findFirst_102 ?_
      refine zw_iand dX9_findFirst_103 ?_
      refine zw_top (y := nI (andn left (2 ^ c))) (by rw [shl_I c (by omega)]; exact andn_I left hl _ (pow_7 c (by omega))) ?_
      refine zw_cV2 dX9_findFirst_104 oX9_mostOf kX9_mostOf lX9_169 h.1 rfl (Nat.le_of_ble_eq_true rfl) rfl (m_mostOf (g := g) (andn_lt hrw) (andn_lt hl) hgB hgl h (fun w1 f h1 o1 => ?_))
      show Zw _ _ _ 107 [_, _, _, _, _, _, _, _, _] [_] _ _
      refine zw_iload dX9_findFirst_107 rfl ?_
      refine zw_iconst dX9_findFirst_109 1 (by decide) ?_
      refine zw_isub dX9_findFirst_110 ?_
      have hS1 : mS 6 A (va_up B 6 f) := hS.tr (mS.up (by decide))
      by_cases e : nI (mostN g (andn rows (2 ^ (r + 1) - 1)) (andn left (2 ^ c))) = x - 1
      · rw [if_pos (by rw [hb, decide_eq_true e]; rfl)] at hE
        refine zw_icmp_ne 123 dX9_findFirst_111 (by decide) (fun hz => absurd (e) hz) (fun _ => ?_)
        refine zw_aload_n dX9_findFirst_114 rfl ?_
        refine zw_get dX9_findFirst_115 fX9_33 h1.1 rfl ?_
        refine zw_iload dX9_findFirst_118 rfl ?_
        refine zw_iload dX9_findFirst_120 rfl ?_
        refine zw_iast dX9_findFirst_122 h1.q7 hin ?_
        rw [nI_clamp (by omega)]
        have h2 := h1.a7 (f := upd (va_up B 6 f 7) r (nI c))
        have hS2 : mS 6 A (va_up (va_up B 6 f) 7 (upd (va_up B 6 f 7) r (nI c))) := hS1.tr (mS.up (by decide))
        have hf := hK _ _ (some (.int (nI (c + 1)))) hS2 (fun j hj => (pk_un (f := B 7) (by omega)).trans (hT j hj)) (pk_us.trans hE) h2 ((ho.tr o1).tr (zOff.pt (by decide) (by decide)))
        refine zw_iinc (nI (c + 1)) [_, _, _, _, _, _, _, _, _] dX9_findFirst_123 rfl (nI_1 c) rfl ?_
        refine zw_goto 46 dX9_findFirst_126 (by decide) ?_
        by_cases h7 : c + 1 = 7
        · refine zw_iload dX9_findFirst_46 rfl ?_
          refine zw_bipush dX9_findFirst_48 7 (by decide) ?_
          refine zw_icmp_ge 129 dX9_findFirst_50 (by decide) (fun _ => ?_) (fun hz => absurd (nI_le (a := 7) (by omega) (by omega)) hz)
          exact hf
        · refine zw_iload dX9_findFirst_46 rfl ?_
          refine zw_bipush dX9_findFirst_48 7 (by decide) ?_
          refine zw_icmp_ge 129 dX9_findFirst_50 (by decide) (fun hz => absurd hz (nI_ge (b := 7) (by omega) (by omega))) (fun _ => ?_)
          refine zw_aload_n dX9_findFirst_53 rfl ?_
          refine zw_get dX9_findFirst_54 fX9_33 h2.1 rfl ?_
          refine zw_iload dX9_findFirst_57 rfl ?_
          refine zw_iald dX9_findFirst_59 h2.q7 hin ?_
          rw [nI_clamp (by omega)]
          refine zw_top (y := nI c) pk_us ?_
          refine zw_iconst dX9_findFirst_60 (-1) (by decide) ?_
          refine zw_icmp_ne 129 dX9_findFirst_61 (by decide) (fun _ => ?_) (fun hz => absurd hz (nI_m1 c (by omega)))
          exact hf
      · rw [if_neg (by rw [hb, decide_eq_false e]; decide)] at hE
        refine zw_icmp_ne 123 dX9_findFirst_111 (by decide) (fun _ => ?_) (fun hz => absurd hz (e))
        refine zw_iinc (nI (c + 1)) [_, _, _, _, _, _, _, _, _] dX9_findFirst_123 rfl (nI_1 c) rfl ?_
        refine zw_goto 46 dX9_findFirst_126 (by decide) ?_
        exact ih (c + 1) _ w1 (by omega) hS1 hT hV hE h1 (ho.tr o1)
    · have hb' : (g r &&& left).testBit c = false := by simpa using hb
      rw [if_neg (by rw [hb']; exact Bool.false_ne_true)] at hE
      refine zw_if_eq 123 dX9_findFirst_89 (by decide) (fun _ => ?_) (fun hz => absurd (andb_0 _ hm c (by omega) hb') hz)
      refine zw_iinc (nI (c + 1)) [_, _, _, _, _, _, _, _, _] dX9_findFirst_123 rfl (nI_1 c) rfl ?_
      refine zw_goto 46 dX9_findFirst_126 (by decide) ?_
      exact ih (c + 1) B w (by omega) hS hT hV hE h ho
theorem m_fiR {g : Nat → Nat} {rows : Nat} {mo cols : Int32} {w0 : ZW} {T : Nat → Int32} (hrw : rows < 128) (hg : ∀ r, r < 7 → A 5 r = nI (g r)) (hgl : ∀ r, r < 7 → g r < 128) (hK : ∀ w B, mS 6 A B → (∀ j, j < 7 → B 7 j = T j) → isM w B I ab be → zOff 74 89 w0 w → Q (some (.int mo)) w) : ∀ (k r left : Nat) (x : Int32) (B : Nat → Nat → Int32) (w : ZW) (o7 o8 : Option Value), r + k = 7 → left < 128 → mS 6 A B → (∀ j, j < r → B 7 j = T j) → (∀ i, mtA g rows r left x i = T (r + i)) → isM w B I ab be → zOff 74 89 w0 w → Zw (d + 1) mX9_findFirst z0 16 [some (.ref 74), some (.int (nI rows)), some (.int cols), some (.int mo), some (.int (nI left)), some (.int x), some (.int (nI r)), o7, o8] [] w Q := by
  intro k
  induction k with
  | zero =>
    intro r left x B w o7 o8 hi hl hS hT hM h ho
    refine zw_iload dX9_findFirst_16 rfl ?_
    refine zw_bipush dX9_findFirst_18 7 (by decide) ?_
    refine zw_icmp_ge 165 dX9_findFirst_20 (by decide) (fun _ => ?_) (fun hz => absurd (nI_le (a := 7) (by omega) (by omega)) hz)
    refine zw_iload_n dX9_findFirst_165 rfl ?_
    refine zw_ireturn .int dX9_findFirst_166 rfl rfl (Nat.le_refl _) (Nat.le_refl _) ?_
    exact hK w B hS (fun j hj => hT j (by omega)) h ho
  | succ k ih =>
    intro r left x B w o7 o8 hi hl hS hT hM h ho
    have hin := vp_in_nI (n := r) (N := 7) (by omega) (by decide)
    have hV : mtR g rows r left x = T r := hM 0
    have hK1 : ∀ w B o8, mS 6 A B → (∀ j, j < r → B 7 j = T j) → B 7 r = T r → isM w B I ab be → zOff 74 89 w0 w → Zw (d + 1) mX9_findFirst z0 129 [some (.ref 74), some (.int (nI rows)), some (.int cols), some (.int mo), some (.int (nI left)), some (.int x), some (.int (nI r)), some (.int (nI (andn rows (2 ^ (r + 1) - 1)))), o8] [] w Q := by
      intro w B o8 hS hT hTr h ho
      have hT' : ∀ j, j < r + 1 → B 7 j = T j := fun j hj => by
        by_cases e : j = r
        · rw [e]; exact hTr
        · exact hT j (by omega)
      refine zw_aload_n dX9_findFirst_129 rfl ?_
      refine zw_get dX9_findFirst_130 fX9_33 h.1 rfl ?_
      refine zw_iload dX9_findFirst_133 rfl ?_
      refine zw_iald dX9_findFirst_135 h.q7 hin ?_
      rw [nI_clamp (by omega)]
      rcases mtR_is g rows r left x with e | ⟨s, hs, e⟩
      · rw [hTr, ← hV, e]
        refine zw_iconst dX9_findFirst_136 (-1) (by decide) ?_
        refine zw_icmp_eq 159 dX9_findFirst_137 (by decide) (fun _ => ?_) (fun hz => absurd (rfl) hz)
        refine zw_iinc (nI (r + 1)) [_, _, _, _, _, _, _, _, _] dX9_findFirst_159 rfl (nI_1 r) rfl ?_
        refine zw_goto 16 dX9_findFirst_162 (by decide) ?_
        refine ih (r + 1) left x B w _ _ (by omega) hl hS hT' (fun i => ?_) h ho
        have := hM (i + 1)
        unfold mtA at this
        rw [if_pos e, if_pos e] at this
        rw [this]
        congr 1
        omega
      · rw [hTr, ← hV, e]
        refine zw_iconst dX9_findFirst_136 (-1) (by decide) ?_
        refine zw_icmp_eq 159 dX9_findFirst_137 (by decide) (fun hz => absurd hz (nI_m1 s hs)) (fun _ => ?_)
        refine zw_iload dX9_findFirst_140 rfl ?_
        refine zw_iconst dX9_findFirst_142 1 (by decide) ?_
        refine zw_aload_n dX9_findFirst_143 rfl ?_
        refine zw_get dX9_findFirst_144 fX9_33 h.1 rfl ?_
        refine zw_iload dX9_findFirst_147 rfl ?_
        refine zw_iald dX9_findFirst_149 h.q7 hin ?_
        rw [nI_clamp (by omega), hTr, ← hV, e]
        refine zw_ishl dX9_findFirst_150 ?_
        refine zw_iconst dX9_findFirst_151 (-1) (by decide) ?_
        refine zw_ixor dX9_findFirst_152 ?_
        refine zw_iand dX9_findFirst_153 ?_
        refine zw_top (y := nI (andn left (2 ^ s))) (by rw [shl_I s (by omega)]; exact andn_I left hl _ (pow_7 s hs)) ?_
        refine zw_istore [_, _, _, _, _, _, _, _, _] dX9_findFirst_154 (Nat.le_of_ble_eq_true rfl) rfl ?_
        refine zw_iinc (x - 1) [_, _, _, _, _, _, _, _, _] dX9_findFirst_156 rfl (sub_1 x) rfl ?_
        refine zw_iinc (nI (r + 1)) [_, _, _, _, _, _, _, _, _] dX9_findFirst_159 rfl (nI_1 r) rfl ?_
        refine zw_goto 16 dX9_findFirst_162 (by decide) ?_
        refine ih (r + 1) _ _ B w _ _ (by omega) (andn_lt hl) hS hT' (fun i => ?_) h ho
        have := hM (i + 1)
        unfold mtA at this
        have hne : ¬ mtR g rows r left x = -1 := by rw [e]; exact nI_m1 s hs
        rw [if_neg hne, if_neg hne, e, nI_clamp (by omega)] at this
        rw [this]
        congr 1
        omega
    refine zw_iload dX9_findFirst_16 rfl ?_
    refine zw_bipush dX9_findFirst_18 7 (by decide) ?_
    refine zw_icmp_ge 165 dX9_findFirst_20 (by decide) (fun hz => absurd hz (nI_ge (b := 7) (by omega) (by omega))) (fun _ => ?_)
    refine zw_aload_n dX9_findFirst_23 rfl ?_
    refine zw_get dX9_findFirst_24 fX9_33 h.1 rfl ?_
    refine zw_iload dX9_findFirst_27 rfl ?_
    refine zw_iconst dX9_findFirst_29 (-1) (by decide) ?_
    refine zw_iast dX9_findFirst_30 h.q7 hin ?_
    rw [nI_clamp (by omega)]
    have h1 := h.a7 (f := upd (B 7) r (-1))
    have hS1 : mS 6 A (va_up B 7 (upd (B 7) r (-1))) := hS.tr (mS.up (by decide))
    have o1 := ho.tr (zOff.pt (w := w) (i := 82) (e := .inl (0, 7, upd (B 7) r (-1))) (lo := 74) (hi := 89) (by decide) (by decide))
    have hT1 : ∀ j, j < r → upd (B 7) r (-1) j = T j := fun j hj => (pk_un (by omega)).trans (hT j hj)
    refine zw_iload_n dX9_findFirst_31 rfl ?_
    refine zw_iconst dX9_findFirst_32 2 (by decide) ?_
    refine zw_iload dX9_findFirst_33 rfl ?_
    refine zw_ishl dX9_findFirst_35 ?_
    refine zw_iconst dX9_findFirst_36 1 (by decide) ?_
    refine zw_isub dX9_findFirst_37 ?_
    refine zw_iconst dX9_findFirst_38 (-1) (by decide) ?_
    refine zw_ixor dX9_findFirst_39 ?_
    refine zw_iand dX9_findFirst_40 ?_
    refine zw_top (y := nI (andn rows (2 ^ (r + 1) - 1))) (by rw [shl2_m1 r (by omega)]; exact andn_I rows hrw _ (pow_71 r (by omega))) ?_
    refine zw_istore [_, _, _, _, _, _, _, _, _] dX9_findFirst_41 (Nat.le_of_ble_eq_true rfl) rfl ?_
    refine zw_iconst dX9_findFirst_43 0 (by decide) ?_
    refine zw_istore [_, _, _, _, _, _, _, _, _] dX9_findFirst_44 (Nat.le_of_ble_eq_true rfl) rfl ?_
    unfold mtR at hV
    by_cases hrb : rows.testBit r = true
    · rw [if_pos hrb] at hV
      exact m_fiC hrw hl (by omega) hrb hg hgl hK1 7 0 _ _ (by omega) hS1 hT1 pk_us hV h1 o1
    · rw [if_neg hrb] at hV
      refine zw_iload dX9_findFirst_46 rfl ?_
      refine zw_bipush dX9_findFirst_48 7 (by decide) ?_
      refine zw_icmp_ge 129 dX9_findFirst_50 (by decide) (fun hz => absurd hz (by decide)) (fun _ => ?_)
      refine zw_aload_n dX9_findFirst_53 rfl ?_
      refine zw_get dX9_findFirst_54 fX9_33 h1.1 rfl ?_
      refine zw_iload dX9_findFirst_57 rfl ?_
      refine zw_iald dX9_findFirst_59 h1.q7 hin ?_
      rw [nI_clamp (by omega)]
      refine zw_top (y := -1) pk_us ?_
      refine zw_iconst dX9_findFirst_60 (-1) (by decide) ?_
      refine zw_icmp_ne 129 dX9_findFirst_61 (by decide) (fun hz => absurd (rfl) hz) (fun _ => ?_)
      refine zw_iload_n dX9_findFirst_64 rfl ?_
      refine zw_iload dX9_findFirst_65 rfl ?_
      refine zw_ishr dX9_findFirst_67 ?_
      refine zw_iconst dX9_findFirst_68 1 (by decide) ?_
      refine zw_iand dX9_findFirst_69 ?_
      refine zw_top (bit_t rows hrw r (by omega)) ?_
      rw [if_neg hrb]
      refine zw_iconst dX9_findFirst_70 1 (by decide) ?_
      refine zw_icmp_ne 129 dX9_findFirst_71 (by decide) (fun _ => ?_) (fun hz => absurd hz (by decide))
      exact hK1 _ _ _ hS1 hT1 (pk_us.trans hV) h1 o1
theorem m_findFirst {g : Nat → Nat} {rows cols : Nat} (hrw : rows < 128) (hc : cols < 128) (hg : ∀ r, r < 7 → A 5 r = nI (g r)) (hgl : ∀ r, r < 7 → g r < 128) (h : isM w A I ab be) (k : ∀ w' B, mS 6 A B → (∀ j, j < 7 → B 7 j = mtA g rows 0 cols (nI (mostN g rows cols)) j) → isM w' B I ab be → zOff 74 89 w w' → Q (some (.int (nI (mostN g rows cols)))) w') : Zm (d + 1) mX9_findFirst 0 0 [.ref 74, .int (nI rows), .int (nI cols)] w Q := by
  refine zm_intro [_, _, _, _, _, _, _, _, _] oX9_findFirst (Nat.le_of_ble_eq_true rfl) rfl ?_
  refine zw_aload_n dX9_findFirst_0 rfl ?_
  refine zw_iload_n dX9_findFirst_1 rfl ?_
  refine zw_iload_n dX9_findFirst_2 rfl ?_
  refine zw_cV2 dX9_findFirst_3 oX9_mostOf kX9_mostOf lX9_169 h.1 rfl (Nat.le_of_ble_eq_true rfl) rfl (m_mostOf (g := g) hrw hc hg hgl h (fun w1 f h1 o1 => ?_))
  show Zw _ _ _ 6 [_, _, _, _, _, _, _, _, _] [_] _ _
  refine zw_istore_n [_, _, _, _, _, _, _, _, _] dX9_findFirst_6 (Nat.le_of_ble_eq_true rfl) rfl ?_
  refine zw_iload_n dX9_findFirst_7 rfl ?_
  refine zw_istore [_, _, _, _, _, _, _, _, _] dX9_findFirst_8 (Nat.le_of_ble_eq_true rfl) rfl ?_
  refine zw_iload_n dX9_findFirst_10 rfl ?_
  refine zw_istore [_, _, _, _, _, _, _, _, _] dX9_findFirst_11 (Nat.le_of_ble_eq_true rfl) rfl ?_
  refine zw_iconst dX9_findFirst_13 0 (by decide) ?_
  refine zw_istore [_, _, _, _, _, _, _, _, _] dX9_findFirst_14 (Nat.le_of_ble_eq_true rfl) rfl ?_
  exact m_fiR (w0 := w) (T := mtA g rows 0 cols (nI (mostN g rows cols))) (A := A) hrw hg hgl k 7 0 cols _ _ w1 _ _ (by omega) hc (mS.up (by decide)) (fun j hj => absurd hj (by omega)) (fun i => by rw [Nat.zero_add]) h1 o1
theorem m_most {n l : Nat} {x : Int32} (h : isM w A I ab be) (hb : I 0 = nI 0) (hn : A 0 0 = nI n) (hn7 : n ≤ 7) (hl : A 0 (0 + 1) = nI l) (hl7 : l ≤ 7) (hk : ∀ i, i < l → ∃ j, j < 6 ∧ mLd A 0 i 0 = nI j) (kB : ¬ x = -1 → (∀ r, r < n → ¬ x = nI r) → ∀ w', isM w' (toldI A 0 0) I ab be → zOff 74 89 w w' → Q (some (.int (-10))) w') (kN : x = -1 → ∀ w' B, mS 4 A B → isM w' B I ab be → zOff 74 89 w w' → Q (some (.int (nI (mostN (mG A n l) (2 ^ n - 1) (2 ^ l - 1))))) w') (kA : ∀ r, r < n → x = nI r → ∀ w' B, mS 4 A B → isM w' B I ab be → zOff 74 89 w w' → Q (some (.int (mtA (mG A n l) (2 ^ n - 1) 0 (2 ^ l - 1) (nI (mostN (mG A n l) (2 ^ n - 1) (2 ^ l - 1))) r))) w') : Zm (d + 6) mX9_most 0 0 [.ref 74, .int x] w Q := by
  have pn := pow_c hn7
  have pl := pow_c hl7
  have pn0 : 0 < 2 ^ n := Nat.two_pow_pos n
  have pl0 : 0 < 2 ^ l := Nat.two_pow_pos l
  have go : (x = -1 ∨ ∃ r, r < n ∧ x = nI r) → Zw (d + 6) mX9_most z0 18 [some (.ref 74), some (.int x), none] [] w Q := by
    intro hx
    refine zw_aload_n dX9_most_18 rfl ?_
    refine zw_cV0 dX9_most_19 oX9_findFits kX9_findFits lX9_172 h.1 rfl (Nat.le_of_ble_eq_true rfl) rfl (m_findFits h hb hn hn7 hl hl7 hk (fun w1 f hf h1 o1 => ?_))
    show Zw _ _ _ 22 [_, _, _] [] _ _
    refine zw_aload_n dX9_most_22 rfl ?_
    refine zw_aload_n dX9_most_23 rfl ?_
    refine zw_cV0 dX9_most_24 oX9_boxes kX9_boxes lX9_175 h1.1 rfl (Nat.le_of_ble_eq_true rfl) rfl (m_boxes h1 hb hn hn7 ?_)
    show Zw _ _ _ 27 [_, _, _] [_, _] _ _
    refine zw_aload_n dX9_most_27 rfl ?_
    refine zw_cV0 dX9_most_28 oX9_lids kX9_lids lX9_178 h1.1 rfl (Nat.le_of_ble_eq_true rfl) rfl (m_lids h1 hb hl hl7 ?_)
    show Zw _ _ _ 31 [_, _, _] [_, _, _] _ _
    refine zw_cV2 dX9_most_31 oX9_findFirst kX9_findFirst lX9_181 h1.1 rfl (Nat.le_of_ble_eq_true rfl) rfl (m_findFirst (g := mG A n l) (by omega) (by omega) hf (fun r _ => mG_lt hl7) h1 (fun w2 B hS hB h2 o2 => ?_))
    show Zw _ _ _ 34 [_, _, _] [_] _ _
    refine zw_istore_n [_, _, _] dX9_most_34 (Nat.le_of_ble_eq_true rfl) rfl ?_
    refine zw_iload_n dX9_most_35 rfl ?_
    refine zw_iconst dX9_most_36 (-1) (by decide) ?_
    have hS4 : mS 4 A B := (mS.up (A := A) (f := f) (k := 5) (by decide)).tr (hS.dn (by decide))
    rcases hx with e | ⟨r, hr, e⟩
    · refine zw_icmp_ne 44 dX9_most_37 (by decide) (fun hz => absurd (e) hz) (fun _ => ?_)
      refine zw_iload_n dX9_most_40 rfl ?_
      refine zw_goto 50 dX9_most_41 (by decide) ?_
      refine zw_ireturn .int dX9_most_50 rfl rfl (Nat.le_refl _) (Nat.le_refl _) ?_
      exact kN e w2 B hS4 h2 (o1.tr o2)
    · have kk := kA r hr e
      have hne : ¬ x = -1 := by rw [e]; exact nI_m1 r (by omega)
      subst e
      refine zw_icmp_ne 44 dX9_most_37 (by decide) (fun _ => ?_) (fun hz => absurd hz (hne))
      refine zw_aload_n dX9_most_44 rfl ?_
      refine zw_get dX9_most_45 fX9_33 h2.1 rfl ?_
      refine zw_iload_n dX9_most_48 rfl ?_
      refine zw_iald dX9_most_49 h2.q7 (vp_in_nI (n := r) (N := 7) (by omega) (by decide)) ?_
      rw [nI_clamp (by omega), hB r (by omega)]
      refine zw_ireturn .int dX9_most_50 rfl rfl (Nat.le_refl _) (Nat.le_refl _) ?_
      exact kk w2 B hS4 h2 (o1.tr o2)
  refine zm_intro [_, _, _] oX9_most (Nat.le_of_ble_eq_true rfl) rfl ?_
  refine zw_iload_n dX9_most_0 rfl ?_
  refine zw_iconst dX9_most_1 (-1) (by decide) ?_
  by_cases e1 : x = -1
  · refine zw_icmp_eq 18 dX9_most_2 (by decide) (fun _ => ?_) (fun hz => absurd (e1) hz)
    exact go (Or.inl e1)
  · refine zw_icmp_eq 18 dX9_most_2 (by decide) (fun hz => absurd hz (e1)) (fun _ => ?_)
    refine zw_aload_n dX9_most_5 rfl ?_
    refine zw_iload_n dX9_most_6 rfl ?_
    refine zw_cV1 dX9_most_7 oX9_isBox kX9_isBox lX9_95 h.1 rfl (Nat.le_of_ble_eq_true rfl) rfl (m_isBox (b := 0) h hb (by decide) hn (by omega) (fun r hr e => ?_) (fun q => ?_))
    · show Zw _ _ _ 10 [_, _, _] [_] _ _
      refine zw_if_ne 18 dX9_most_10 (by decide) (fun _ => ?_) (fun hz => absurd hz (by decide))
      exact go (Or.inr ⟨r, hr, e⟩)
    · show Zw _ _ _ 10 [_, _, _] [_] _ _
      refine zw_if_ne 18 dX9_most_10 (by decide) (fun hz => absurd (by decide) hz) (fun _ => ?_)
      refine zw_aload_n dX9_most_13 rfl ?_
      refine zw_cV0 dX9_most_14 oX9_bad10 kX9_bad10 lX9_118 h.1 rfl (Nat.le_of_ble_eq_true rfl) rfl (m_bad10 hb (by decide) h (fun w1 h1 o1 => ?_))
      show Zw _ _ _ 17 [_, _, _] [_] _ _
      refine zw_ireturn .int dX9_most_17 rfl rfl (Nat.le_refl _) (Nat.le_refl _) ?_
      exact kB e1 q w1 h1 o1
end ZMOD16
