/-! ===== the Model: nuts ===== -/
theorem nut_all : ∀ n, n < 7 → 1 ≤ n → nutF n (orders n) (0, 0, 0) = (facN n, n * (n - 1) / 2, mnN (facN n) 1 n 0) := by decide +kernel
theorem nutF_bd {n : Nat} (hn : n ≤ 6) : ∀ (ls : List (List Nat)) (v : Nat × Nat × Nat), (nutF n ls v).1 = v.1 + ls.length ∧ (v.2.1 ≤ 42 → (nutF n ls v).2.1 ≤ 42) ∧ (nutF n ls v).2.2 ≤ v.2.2 + ls.length * 42 := by
  intro ls
  induction ls with
  | nil => intro v; exact ⟨rfl, id, Nat.le_add_right _ _⟩
  | cons l ls ih =>
    intro v
    unfold nutF
    obtain ⟨h1, h2, h3⟩ := ih (v.1 + 1, (if v.2.1 < trdF n l 0 n 0 then trdF n l 0 n 0 else v.2.1), v.2.2 + trdF n l 0 n 0)
    have ht := trdF_le (n := n) (l := l) n 0 0
    have hm : n * (n + 1) ≤ 6 * 7 := Nat.mul_le_mul hn (by omega)
    refine ⟨by rw [h1, List.length_cons]; simp only; omega, fun hv => h2 ?_, ?_⟩
    · simp only
      split <;> omega
    · rw [List.length_cons, Nat.succ_mul]
      simp only at h3
      omega
section ZMOD26
variable {d : Nat} {w w' : ZW} {A : Nat → Nat → Int32} {I : Nat → Int32} {ab be : Int64} {Q : Option Value → ZW → Prop}
theorem m_nuJ {n k : Nat} {y wa wo tr : Int32} {su : Int64} {mo : Int32} {l : List Nat} {V : Nat} (hn7 : n ≤ 6) (hk : k < n) (hl : ∀ i, i < n → A 11 i = nI (l.getD i 0)) (hl7 : ∀ i, i < n → l.getD i 0 < n) (h : isM w A I ab be) (hK : ∀ o11, Zw d mX9_nuts z0 107 [some (.ref 74), some (.int (nI n)), some (.int y), some (.int wa), some (.int wo), some (.long su), none, some (.int mo), some (.int tr), some (.int (nI k)), some (.int (nI V)), o11] [] w Q) : ∀ (m j a : Nat), j + m = n → bfF l k j m a = V → Zw d mX9_nuts z0 68 [some (.ref 74), some (.int (nI n)), some (.int y), some (.int wa), some (.int wo), some (.long su), none, some (.int mo), some (.int tr), some (.int (nI k)), some (.int (nI a)), some (.int (nI j))] [] w Q := by
  intro m
  induction m with
  | zero =>
    intro j a hi hE
    have hE : a = V := hE
    subst hE
    refine zw_iload dX9_nuts_68 rfl ?_
    refine zw_iload_n dX9_nuts_70 rfl ?_
    refine zw_icmp_ge 107 dX9_nuts_71 (by decide) (fun _ => ?_) (fun hz => absurd (nI_le (by omega) (by omega)) hz)
    exact hK _
  | succ m ih =>
    intro j a hi hE
    unfold bfF at hE
    have b1 := hl7 j (by omega)
    have b2 := hl7 k (by omega)
    refine zw_iload dX9_nuts_68 rfl ?_
    refine zw_iload_n dX9_nuts_70 rfl ?_
    refine zw_icmp_ge 107 dX9_nuts_71 (by decide) (fun hz => absurd hz (nI_ge (by omega) (by omega))) (fun _ => ?_)
    refine zw_iload dX9_nuts_74 rfl ?_
    refine zw_aload_n dX9_nuts_76 rfl ?_
    refine zw_get dX9_nuts_77 fX9_45 h.1 rfl ?_
    refine zw_iload dX9_nuts_80 rfl ?_
    refine zw_iald dX9_nuts_82 h.q11 (vp_in_nI (n := j) (N := 7) (by omega) (by decide)) ?_
    rw [nI_clamp (by omega), hl j (by omega)]
    refine zw_aload_n dX9_nuts_83 rfl ?_
    refine zw_get dX9_nuts_84 fX9_45 h.1 rfl ?_
    refine zw_iload dX9_nuts_87 rfl ?_
    refine zw_iald dX9_nuts_89 h.q11 (vp_in_nI (n := k) (N := 7) (by omega) (by decide)) ?_
    rw [nI_clamp (by omega), hl k (by omega)]
    by_cases e : l.getD j 0 < l.getD k 0
    · rw [if_pos e] at hE
      refine zw_icmp_ge 97 dX9_nuts_90 (by decide) (fun hz => absurd hz (nI_ge e (by omega))) (fun _ => ?_)
      refine zw_iconst dX9_nuts_93 1 (by decide) ?_
      refine zw_goto 98 dX9_nuts_94 (by decide) ?_
      refine zw_iadd dX9_nuts_98 ?_
      refine zw_top (nI_1 a) ?_
      refine zw_istore [_, _, _, _, _, _, _, _, _, _, _, _] dX9_nuts_99 (Nat.le_of_ble_eq_true rfl) rfl ?_
      refine zw_iinc (nI (j + 1)) [_, _, _, _, _, _, _, _, _, _, _, _] dX9_nuts_101 rfl (nI_1 j) rfl ?_
      refine zw_goto 68 dX9_nuts_104 (by decide) ?_
      exact ih (j + 1) _ (by omega) hE
    · rw [if_neg e] at hE
      refine zw_icmp_ge 97 dX9_nuts_90 (by decide) (fun _ => ?_) (fun hz => absurd (nI_le (by omega) (by omega)) hz)
      refine zw_iconst dX9_nuts_97 0 (by decide) ?_
      refine zw_iadd dX9_nuts_98 ?_
      refine zw_top (y := nI (a + 0)) (nI_add a 0) ?_
      refine zw_istore [_, _, _, _, _, _, _, _, _, _, _, _] dX9_nuts_99 (Nat.le_of_ble_eq_true rfl) rfl ?_
      refine zw_iinc (nI (j + 1)) [_, _, _, _, _, _, _, _, _, _, _, _] dX9_nuts_101 rfl (nI_1 j) rfl ?_
      refine zw_goto 68 dX9_nuts_104 (by decide) ?_
      exact ih (j + 1) _ (by omega) hE
theorem m_nuK {n : Nat} {y wa wo : Int32} {su : Int64} {mo : Int32} {l : List Nat} {V : Nat} (hn7 : n ≤ 6) (hl : ∀ i, i < n → A 11 i = nI (l.getD i 0)) (hl7 : ∀ i, i < n → l.getD i 0 < n) (h : isM w A I ab be) (hK : ∀ o9 o10 o11, Zw d mX9_nuts z0 138 [some (.ref 74), some (.int (nI n)), some (.int y), some (.int wa), some (.int wo), some (.long su), none, some (.int mo), some (.int (nI V)), o9, o10, o11] [] w Q) : ∀ (m k a : Nat) (o10 o11 : Option Value), k + m = n → trdF n l k m a = V → Zw d mX9_nuts z0 53 [some (.ref 74), some (.int (nI n)), some (.int y), some (.int wa), some (.int wo), some (.long su), none, some (.int mo), some (.int (nI a)), some (.int (nI k)), o10, o11] [] w Q := by
  intro m
  induction m with
  | zero =>
    intro k a o10 o11 hi hE
    have hE : a = V := hE
    subst hE
    refine zw_iload dX9_nuts_53 rfl ?_
    refine zw_iload_n dX9_nuts_55 rfl ?_
    refine zw_icmp_ge 138 dX9_nuts_56 (by decide) (fun _ => ?_) (fun hz => absurd (nI_le (by omega) (by omega)) hz)
    exact hK _ _ _
  | succ m ih =>
    intro k a o10 o11 hi hE
    unfold trdF at hE
    have hbf := bfF_le (l := l) (k := k) (n - 1 - k) (k + 1) 0
    refine zw_iload dX9_nuts_53 rfl ?_
    refine zw_iload_n dX9_nuts_55 rfl ?_
    refine zw_icmp_ge 138 dX9_nuts_56 (by decide) (fun hz => absurd hz (nI_ge (by omega) (by omega))) (fun _ => ?_)
    refine zw_iconst dX9_nuts_59 0 (by decide) ?_
    refine zw_istore [_, _, _, _, _, _, _, _, _, _, _, _] dX9_nuts_60 (Nat.le_of_ble_eq_true rfl) rfl ?_
    refine zw_iload dX9_nuts_62 rfl ?_
    refine zw_iconst dX9_nuts_64 1 (by decide) ?_
    refine zw_iadd dX9_nuts_65 ?_
    refine zw_top (nI_1 k) ?_
    refine zw_istore [_, _, _, _, _, _, _, _, _, _, _, _] dX9_nuts_66 (Nat.le_of_ble_eq_true rfl) rfl ?_
    refine m_nuJ (V := bfF l k (k + 1) (n - 1 - k) 0) hn7 (by omega) hl hl7 h (fun o11 => ?_) (n - 1 - k) (k + 1) 0 (by omega) rfl
    generalize bfF l k (k + 1) (n - 1 - k) 0 = b at hE hbf ⊢
    refine zw_iload dX9_nuts_107 rfl ?_
    refine zw_iload dX9_nuts_109 rfl ?_
    refine zw_iload_n dX9_nuts_111 rfl ?_
    refine zw_iconst dX9_nuts_112 1 (by decide) ?_
    refine zw_isub dX9_nuts_113 ?_
    refine zw_iload dX9_nuts_114 rfl ?_
    refine zw_isub dX9_nuts_116 ?_
    refine zw_top (y := nI (n - 1 - k)) (by rw [show (1 : Int32) = nI 1 from rfl, pk_sub (by omega), pk_sub (by omega)]) ?_
    by_cases e : b = n - 1 - k
    · rw [if_pos e] at hE
      refine zw_icmp_ne 125 dX9_nuts_117 (by decide) (fun hz => absurd (congrArg nI e) hz) (fun _ => ?_)
      refine zw_iload dX9_nuts_120 rfl ?_
      refine zw_goto 129 dX9_nuts_122 (by decide) ?_
      refine zw_iadd dX9_nuts_129 ?_
      refine zw_top (nI_add a b) ?_
      refine zw_istore [_, _, _, _, _, _, _, _, _, _, _, _] dX9_nuts_130 (Nat.le_of_ble_eq_true rfl) rfl ?_
      refine zw_iinc (nI (k + 1)) [_, _, _, _, _, _, _, _, _, _, _, _] dX9_nuts_132 rfl (nI_1 k) rfl ?_
      refine zw_goto 53 dX9_nuts_135 (by decide) ?_
      exact ih (k + 1) _ _ _ (by omega) hE
    · rw [if_neg e] at hE
      refine zw_icmp_ne 125 dX9_nuts_117 (by decide) (fun _ => ?_) (fun hz => absurd hz ((fun z => e ((nI_eq (by omega) (by omega)).mp z))))
      refine zw_iload dX9_nuts_125 rfl ?_
      refine zw_iconst dX9_nuts_127 1 (by decide) ?_
      refine zw_iadd dX9_nuts_128 ?_
      refine zw_top (nI_1 b) ?_
      refine zw_iadd dX9_nuts_129 ?_
      refine zw_top (nI_add a (b + 1)) ?_
      refine zw_istore [_, _, _, _, _, _, _, _, _, _, _, _] dX9_nuts_130 (Nat.le_of_ble_eq_true rfl) rfl ?_
      refine zw_iinc (nI (k + 1)) [_, _, _, _, _, _, _, _, _, _, _, _] dX9_nuts_132 rfl (nI_1 k) rfl ?_
      refine zw_goto 53 dX9_nuts_135 (by decide) ?_
      exact ih (k + 1) _ _ _ (by omega) hE
theorem m_nuL {n : Nat} {y : Int32} {w0 : ZW} {F : Nat × Nat × Nat} (hn7 : n ≤ 6) (hK : ∀ w B o7 o8 o9 o10 o11, mS 11 A B → isM w B I ab be → zOff 74 89 w0 w → Zw (d + 2) mX9_nuts z0 175 [some (.ref 74), some (.int (nI n)), some (.int y), some (.int (nI F.1)), some (.int (nI F.2.1)), some (.long (lN F.2.2)), none, o7, o8, o9, o10, o11] [] w Q) : ∀ (rest : List (List Nat)) (l : List Nat) (v : Nat × Nat × Nat) (B : Nat → Nat → Int32) (w : ZW) (o8 o9 o10 o11 : Option Value), chk n l rest = true → v.2.1 ≤ 42 → nutF n (l :: rest) v = F → mS 11 A B → (∀ i, i < n → B 11 i = nI (l.getD i 0)) → isM w B I ab be → zOff 74 89 w0 w → Zw (d + 2) mX9_nuts z0 42 [some (.ref 74), some (.int (nI n)), some (.int y), some (.int (nI v.1)), some (.int (nI v.2.1)), some (.long (lN v.2.2)), none, some (.int 1), o8, o9, o10, o11] [] w Q := by
  intro rest
  induction rest with
  | nil =>
    intro l v B w o8 o9 o10 o11 hch hv42 hF hS hl h ho
    obtain ⟨c1, c2⟩ := chk_len hch
    have ht := trdF_le (n := n) (l := l) n 0 0
    have hm : n * (n + 1) ≤ 6 * 7 := Nat.mul_le_mul hn7 (by omega)
    have hF' : (v.1 + 1, (if v.2.1 < trdF n l 0 n 0 then trdF n l 0 n 0 else v.2.1), v.2.2 + trdF n l 0 n 0) = F := hF
    refine zw_iload dX9_nuts_42 rfl ?_
    refine zw_if_eq 175 dX9_nuts_44 (by decide) (fun hz => absurd hz (by decide)) (fun _ => ?_)
    refine zw_iconst dX9_nuts_47 0 (by decide) ?_
    refine zw_istore [_, _, _, _, _, _, _, _, _, _, _, _] dX9_nuts_48 (Nat.le_of_ble_eq_true rfl) rfl ?_
    refine zw_iconst dX9_nuts_50 0 (by decide) ?_
    refine zw_istore [_, _, _, _, _, _, _, _, _, _, _, _] dX9_nuts_51 (Nat.le_of_ble_eq_true rfl) rfl ?_
    refine m_nuK (V := trdF n l 0 n 0) (d := d + 2) hn7 hl c2 h (fun o9 o10 o11 => ?_) n 0 0 _ _ (by omega) rfl
    generalize trdF n l 0 n 0 = t at hF' ht ⊢
    have fin : ∀ wo, wo = F.2.1 → Zw (d + 2) mX9_nuts z0 155 [some (.ref 74), some (.int (nI n)), some (.int y), some (.int (nI (v.1 + 1))), some (.int (nI v.2.1)), some (.long (lN v.2.2)), none, some (.int 1), some (.int (nI t)), o9, o10, o11] [.int (nI wo)] w Q := by
      intro wo hwo
      refine zw_istore [_, _, _, _, _, _, _, _, _, _, _, _] dX9_nuts_155 (Nat.le_of_ble_eq_true rfl) rfl ?_
      refine zw_lload dX9_nuts_157 rfl ?_
      refine zw_iload dX9_nuts_159 rfl ?_
      refine zw_i2l dX9_nuts_161 ?_
      refine zw_ladd dX9_nuts_162 ?_
      refine zw_topl (y := lN (v.2.2 + t)) (by rw [nI_l (by omega), lN_add]) ?_
      refine zw_lstore [_, _, _, _, _, _, _, _, _, _, _, _] dX9_nuts_163 (Nat.le_of_ble_eq_true rfl) rfl ?_
      refine zw_aload_n dX9_nuts_165 rfl ?_
      refine zw_iload_n dX9_nuts_166 rfl ?_
      refine zw_cV1 dX9_nuts_167 oX9_nextOrder kX9_nextOrder lX9_224 h.1 rfl (Nat.le_of_ble_eq_true rfl) rfl (m_nextOrder (p := fun i => l.getD i 0) (by omega) (fun i hi => by have := c2 i hi; show l.getD i 0 < 100; omega) hl h (fun _ => ?_) (fun q hq => ?_))
      · show Zw _ _ _ 170 [_, _, _, _, _, _, _, _, _, _, _, _] [_] _ _
        refine zw_istore [_, _, _, _, _, _, _, _, _, _, _, _] dX9_nuts_170 (Nat.le_of_ble_eq_true rfl) rfl ?_
        refine zw_goto 42 dX9_nuts_172 (by decide) ?_
        refine zw_iload dX9_nuts_42 rfl ?_
        refine zw_if_eq 175 dX9_nuts_44 (by decide) (fun _ => ?_) (fun hz => absurd (rfl) hz)
        subst hF'
        subst hwo
        exact hK w B _ _ _ _ _ hS h ho
      · rw [chk_nil hch] at hq
        exact absurd hq (by simp)
    refine zw_iinc (nI (v.1 + 1)) [_, _, _, _, _, _, _, _, _, _, _, _] dX9_nuts_138 rfl (nI_1 _) rfl ?_
    refine zw_iload dX9_nuts_141 rfl ?_
    refine zw_iload dX9_nuts_143 rfl ?_
    by_cases e : v.2.1 < t
    · refine zw_icmp_le 153 dX9_nuts_145 (by decide) (fun hz => absurd hz (nI_ge e (by omega))) (fun _ => ?_)
      refine zw_iload dX9_nuts_148 rfl ?_
      refine zw_goto 155 dX9_nuts_150 (by decide) ?_
      exact fin t (by rw [← hF']; simp only; rw [if_pos e])
    · refine zw_icmp_le 153 dX9_nuts_145 (by decide) (fun _ => ?_) (fun hz => absurd (nI_le (by omega) (by omega)) hz)
      refine zw_iload dX9_nuts_153 rfl ?_
      exact fin v.2.1 (by rw [← hF']; simp only; rw [if_neg e])
  | cons r rs ih =>
    intro l v B w o8 o9 o10 o11 hch hv42 hF hS hl h ho
    obtain ⟨c1, c2⟩ := chk_len hch
    obtain ⟨hch', q0, hq0, hq1⟩ := chk_cons hch
    have ht := trdF_le (n := n) (l := l) n 0 0
    have hm : n * (n + 1) ≤ 6 * 7 := Nat.mul_le_mul hn7 (by omega)
    have hF' : nutF n (r :: rs) (v.1 + 1, (if v.2.1 < trdF n l 0 n 0 then trdF n l 0 n 0 else v.2.1), v.2.2 + trdF n l 0 n 0) = F := hF
    refine zw_iload dX9_nuts_42 rfl ?_
    refine zw_if_eq 175 dX9_nuts_44 (by decide) (fun hz => absurd hz (by decide)) (fun _ => ?_)
    refine zw_iconst dX9_nuts_47 0 (by decide) ?_
    refine zw_istore [_, _, _, _, _, _, _, _, _, _, _, _] dX9_nuts_48 (Nat.le_of_ble_eq_true rfl) rfl ?_
    refine zw_iconst dX9_nuts_50 0 (by decide) ?_
    refine zw_istore [_, _, _, _, _, _, _, _, _, _, _, _] dX9_nuts_51 (Nat.le_of_ble_eq_true rfl) rfl ?_
    refine m_nuK (V := trdF n l 0 n 0) (d := d + 2) hn7 hl c2 h (fun o9 o10 o11 => ?_) n 0 0 _ _ (by omega) rfl
    generalize trdF n l 0 n 0 = t at hF' ht ⊢
    have fin : ∀ wo, wo ≤ 42 → nutF n (r :: rs) (v.1 + 1, wo, v.2.2 + t) = F → Zw (d + 2) mX9_nuts z0 155 [some (.ref 74), some (.int (nI n)), some (.int y), some (.int (nI (v.1 + 1))), some (.int (nI v.2.1)), some (.long (lN v.2.2)), none, some (.int 1), some (.int (nI t)), o9, o10, o11] [.int (nI wo)] w Q := by
      intro wo hwo hE
      refine zw_istore [_, _, _, _, _, _, _, _, _, _, _, _] dX9_nuts_155 (Nat.le_of_ble_eq_true rfl) rfl ?_
      refine zw_lload dX9_nuts_157 rfl ?_
      refine zw_iload dX9_nuts_159 rfl ?_
      refine zw_i2l dX9_nuts_161 ?_
      refine zw_ladd dX9_nuts_162 ?_
      refine zw_topl (y := lN (v.2.2 + t)) (by rw [nI_l (by omega), lN_add]) ?_
      refine zw_lstore [_, _, _, _, _, _, _, _, _, _, _, _] dX9_nuts_163 (Nat.le_of_ble_eq_true rfl) rfl ?_
      refine zw_aload_n dX9_nuts_165 rfl ?_
      refine zw_iload_n dX9_nuts_166 rfl ?_
      refine zw_cV1 dX9_nuts_167 oX9_nextOrder kX9_nextOrder lX9_224 h.1 rfl (Nat.le_of_ble_eq_true rfl) rfl (m_nextOrder (p := fun i => l.getD i 0) (by omega) (fun i hi => by have := c2 i hi; show l.getD i 0 < 100; omega) hl h (fun hq => ?_) (fun q hq w1 f1 hf1 h1 o1 => ?_))
      · rw [hq0] at hq
        exact absurd hq (by simp)
      · rw [hq0] at hq
        have hq := Option.some.inj hq
        subst hq
        show Zw _ _ _ 170 [_, _, _, _, _, _, _, _, _, _, _, _] [_] _ _
        refine zw_istore [_, _, _, _, _, _, _, _, _, _, _, _] dX9_nuts_170 (Nat.le_of_ble_eq_true rfl) rfl ?_
        refine zw_goto 42 dX9_nuts_172 (by decide) ?_
        exact ih r (v.1 + 1, wo, v.2.2 + t) (va_up B 11 f1) w1 _ _ _ _ hch' hwo hE (hS.tr (mS.up (by decide))) (fun i hi => (hf1 i hi).trans (by rw [hq1 i hi])) h1 (ho.tr o1)
    refine zw_iinc (nI (v.1 + 1)) [_, _, _, _, _, _, _, _, _, _, _, _] dX9_nuts_138 rfl (nI_1 _) rfl ?_
    refine zw_iload dX9_nuts_141 rfl ?_
    refine zw_iload dX9_nuts_143 rfl ?_
    by_cases e : v.2.1 < t
    · rw [if_pos e] at hF'
      refine zw_icmp_le 153 dX9_nuts_145 (by decide) (fun hz => absurd hz (nI_ge e (by omega))) (fun _ => ?_)
      refine zw_iload dX9_nuts_148 rfl ?_
      refine zw_goto 155 dX9_nuts_150 (by decide) ?_
      exact fin t (by omega) hF'
    · rw [if_neg e] at hF'
      refine zw_icmp_le 153 dX9_nuts_145 (by decide) (fun _ => ?_) (fun hz => absurd (nI_le (by omega) (by omega)) hz)
      refine zw_iload dX9_nuts_153 rfl ?_
      exact fin v.2.1 hv42 hF'
theorem m_nuts {x y : Int32} (h : isM w A I ab be) (hb : I 0 = nI 0) (kB : ¬ ((1 ≤ x ∧ x ≤ 6) ∧ (0 ≤ y ∧ y ≤ 2)) → ∀ w', isM w' (toldI A 0 0) I ab be → zOff 74 89 w w' → Q (some (.int (-2))) w') (k0 : ∀ n, 1 ≤ n → n < 7 → x = nI n → y = 0 → ∀ w' B, mS 4 A B → isM w' B I ab be → zOff 74 89 w w' → Q (some (.int (nI (facN n)))) w') (k1 : ∀ n, 1 ≤ n → n < 7 → x = nI n → y = 1 → ∀ w' B, mS 4 A B → isM w' B I ab be → zOff 74 89 w w' → Q (some (.int (nI (n * (n - 1) / 2)))) w') (k2 : ∀ n, 1 ≤ n → n < 7 → x = nI n → y = 2 → ∀ w' B, mS 4 A B → isM w' B I (lN (mnN (facN n) 1 n 0 / Nat.gcd (mnN (facN n) 1 n 0) (facN n))) (lN (facN n / Nat.gcd (mnN (facN n) 1 n 0) (facN n))) → zOff 74 89 w w' → Q (some (.int 1)) w') : Zm (d + 2) mX9_nuts 0 0 [.ref 74, .int x, .int y] w Q := by
  have bad : ¬ ((1 ≤ x ∧ x ≤ 6) ∧ (0 ≤ y ∧ y ≤ 2)) → Zw (d + 2) mX9_nuts z0 19 [some (.ref 74), some (.int x), some (.int y), none, none, none, none, none, none, none, none, none] [] w Q := by
    intro q
    refine zw_aload_n dX9_nuts_19 rfl ?_
    refine zw_bipush dX9_nuts_20 (-2) (by decide) ?_
    refine zw_cV1 dX9_nuts_22 oX9_told kX9_told lX9_70 h.1 rfl (Nat.le_of_ble_eq_true rfl) rfl (m_toldR (j := 0) (by decide) hb (by decide) h (fun w1 h1 o1 => ?_))
    show Zw _ _ _ 25 [_, _, _, _, _, _, _, _, _, _, _, _] [_] _ _
    refine zw_ireturn .int dX9_nuts_25 rfl rfl (Nat.le_refl _) (Nat.le_refl _) ?_
    exact kB q w1 h1 o1
  refine zm_intro [_, _, _, _, _, _, _, _, _, _, _, _] oX9_nuts (Nat.le_of_ble_eq_true rfl) rfl ?_
  refine zw_iload_n dX9_nuts_0 rfl ?_
  refine zw_iconst dX9_nuts_1 1 (by decide) ?_
  refine zw_bipush dX9_nuts_2 6 (by decide) ?_
  refine zw_cS3 dX9_nuts_4 oX9_in kX9_in lX9_66 (Nat.le_of_ble_eq_true rfl) rfl (m_in (fun p1 p2 => ?_) (fun q => ?_))
  · show Zw _ _ _ 7 [_, _, _, _, _, _, _, _, _, _, _, _] [_] _ _
    refine zw_if_eq 19 dX9_nuts_7 (by decide) (fun hz => absurd hz (by decide)) (fun _ => ?_)
    refine zw_iload_n dX9_nuts_10 rfl ?_
    refine zw_iconst dX9_nuts_11 0 (by decide) ?_
    refine zw_iconst dX9_nuts_12 2 (by decide) ?_
    refine zw_cS3 dX9_nuts_13 oX9_in kX9_in lX9_66 (Nat.le_of_ble_eq_true rfl) rfl (m_in (fun p3 p4 => ?_) (fun q => ?_))
    · have p0 : ¬ x < 0 := Int32.not_lt.mpr (Int32.le_trans (by decide) p1)
      obtain ⟨n, hn, en⟩ := nI_of2 (M := 6) (n := 6) (by decide) p0 p2
      have hn1 : 1 ≤ n := by
        rw [en] at p1
        exact (nI_leI (a := 1) (by decide) (by omega)).mp p1
      obtain ⟨j, hj, ej⟩ := nI_of2 (M := 2) (n := 2) (by decide) (Int32.not_lt.mpr p3) p4
      obtain ⟨rest, eo, hch⟩ := ord_hd (n := n) (by omega)
      have hall := nut_all n (by omega) hn1
      have hbd := mnN_bd n (by omega)
      have kk0 := k0 n hn1 (by omega) en
      have kk1 := k1 n hn1 (by omega) en
      have kk2 := k2 n hn1 (by omega) en
      subst en
      show Zw _ _ _ 16 [_, _, _, _, _, _, _, _, _, _, _, _] [_] _ _
      refine zw_if_ne 26 dX9_nuts_16 (by decide) (fun _ => ?_) (fun hz => absurd hz (by decide))
      refine zw_iconst dX9_nuts_26 0 (by decide) ?_
      refine zw_istore_n [_, _, _, _, _, _, _, _, _, _, _, _] dX9_nuts_27 (Nat.le_of_ble_eq_true rfl) rfl ?_
      refine zw_iconst dX9_nuts_28 0 (by decide) ?_
      refine zw_istore [_, _, _, _, _, _, _, _, _, _, _, _] dX9_nuts_29 (Nat.le_of_ble_eq_true rfl) rfl ?_
      refine zw_lconst dX9_nuts_31 0 (by decide) ?_
      refine zw_lstore [_, _, _, _, _, _, _, _, _, _, _, _] dX9_nuts_32 (Nat.le_of_ble_eq_true rfl) rfl ?_
      refine zw_aload_n dX9_nuts_34 rfl ?_
      refine zw_iload_n dX9_nuts_35 rfl ?_
      refine zw_cV1 dX9_nuts_36 oX9_firstOrder kX9_firstOrder lX9_215 h.1 rfl (Nat.le_of_ble_eq_true rfl) rfl (m_firstOrder (by omega) h (fun w1 f hf h1 o1 => ?_))
      show Zw _ _ _ 39 [_, _, _, _, _, _, _, _, _, _, _, _] [] _ _
      refine zw_iconst dX9_nuts_39 1 (by decide) ?_
      refine zw_istore [_, _, _, _, _, _, _, _, _, _, _, _] dX9_nuts_40 (Nat.le_of_ble_eq_true rfl) rfl ?_
      refine m_nuL (A := A) (w0 := w) (F := (facN n, n * (n - 1) / 2, mnN (facN n) 1 n 0)) hn (fun w2 B o7 o8 o9 o10 o11 hS h2 o2 => ?_) rest (List.range n) (0, 0, 0) (va_up A 11 f) w1 _ _ _ _ hch (by decide) (by rw [← eo]; exact hall) (mS.up (by decide)) (fun i hi => (hf i hi).trans (by rw [range_D hi])) h1 o1
      have hS4 := hS.dn (m := 4) (by decide)
      refine zw_iload_n dX9_nuts_175 rfl ?_
      refine zw_iconst dX9_nuts_176 2 (by decide) ?_
      by_cases e2 : y = 2
      · refine zw_icmp_ne 190 dX9_nuts_177 (by decide) (fun hz => absurd (e2) hz) (fun _ => ?_)
        refine zw_aload_n dX9_nuts_180 rfl ?_
        refine zw_lload dX9_nuts_181 rfl ?_
        refine zw_iload_n dX9_nuts_183 rfl ?_
        refine zw_i2l dX9_nuts_184 ?_
        refine zw_topl (nI_l (by omega)) ?_
        refine zw_cV2 dX9_nuts_185 oX9_fraction kX9_fraction lX9_227 h2.1 rfl (Nat.le_of_ble_eq_true rfl) rfl (m_fraction (u := mnN (facN n) 1 n 0) (v := facN n) (by omega) (by omega) (by omega) h2 (fun w3 h3 o3 => ?_))
        show Zw _ _ _ 188 [_, _, _, _, _, _, _, _, _, _, _, _] [] _ _
        refine zw_iconst dX9_nuts_188 1 (by decide) ?_
        refine zw_ireturn .int dX9_nuts_189 rfl rfl (Nat.le_refl _) (Nat.le_refl _) ?_
        exact kk2 e2 w3 B hS4 h3 (o2.tr o3)
      · refine zw_icmp_ne 190 dX9_nuts_177 (by decide) (fun _ => ?_) (fun hz => absurd hz (e2))
        refine zw_iload_n dX9_nuts_190 rfl ?_
        by_cases e0 : y = 0
        · refine zw_if_ne 198 dX9_nuts_191 (by decide) (fun hz => absurd (e0) hz) (fun _ => ?_)
          refine zw_iload_n dX9_nuts_194 rfl ?_
          refine zw_goto 200 dX9_nuts_195 (by decide) ?_
          refine zw_ireturn .int dX9_nuts_200 rfl rfl (Nat.le_refl _) (Nat.le_refl _) ?_
          exact kk0 e0 w2 B hS4 h2 o2
        · have e1 : y = 1 := by
            have : j = 0 ∨ j = 1 ∨ j = 2 := by omega
            rcases this with rfl | rfl | rfl
            · exact absurd ej e0
            · exact ej
            · exact absurd ej e2
          refine zw_if_ne 198 dX9_nuts_191 (by decide) (fun _ => ?_) (fun hz => absurd hz (e0))
          refine zw_iload dX9_nuts_198 rfl ?_
          refine zw_ireturn .int dX9_nuts_200 rfl rfl (Nat.le_refl _) (Nat.le_refl _) ?_
          exact kk1 e1 w2 B hS4 h2 o2
    · show Zw _ _ _ 16 [_, _, _, _, _, _, _, _, _, _, _, _] [_] _ _
      refine zw_if_ne 26 dX9_nuts_16 (by decide) (fun hz => absurd (by decide) hz) (fun _ => ?_)
      exact bad (fun z => q z.2)
  · show Zw _ _ _ 7 [_, _, _, _, _, _, _, _, _, _, _, _] [_] _ _
    refine zw_if_eq 19 dX9_nuts_7 (by decide) (fun _ => ?_) (fun hz => absurd (by decide) hz)
    exact bad (fun z => q z.1)
end ZMOD26
