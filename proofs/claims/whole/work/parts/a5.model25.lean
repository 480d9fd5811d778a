/-! ===== the Model: tries, nuts ===== -/
def vL (c : Nat → Nat) (n : Nat) (l : List Nat) : Nat := mbF (fun i => c (l.getD i 0)) 0 n 0 (10 ^ n)
theorem vL_lt {c : Nat → Nat} {n : Nat} {l : List Nat} (hn : n ≤ 7) : vL c n l < 2 ^ 31 := by
  unfold vL
  have h1 := mbF_le (c := fun i => c (l.getD i 0)) (M := 10 ^ n) n 0 0 (10 ^ n) (Nat.le_refl _)
  have h2 := p10 n hn
  have h3 : n * 10 ^ n ≤ 7 * 10000000 := Nat.mul_le_mul hn h2
  omega
def tryF (V : List Nat → Nat) (ls : List (List Nat)) (b : Option (List Nat)) : Option (List Nat) := match ls with
  | [] => b
  | l :: ls => tryF V ls (some (match b with
    | none => l
    | some b0 => if V l < V b0 then l else b0))
def bstO (V : List Nat → Nat) (n : Nat) (b : Option (List Nat)) (least : Int64) (f : Nat → Int32) : Prop := match b with
  | none => least = -1
  | some l => least = lN (V l) ∧ ∀ i, i < n → f i = nI (l.getD i 0)
/-- how often is tried, in the order l -/
def bfF (l : List Nat) (k j m a : Nat) : Nat := match m with
  | 0 => a
  | m + 1 => bfF l k (j + 1) m (a + if l.getD j 0 < l.getD k 0 then 1 else 0)
def trdF (n : Nat) (l : List Nat) (k m a : Nat) : Nat := match m with
  | 0 => a
  | m + 1 => trdF n l (k + 1) m (a + if bfF l k (k + 1) (n - 1 - k) 0 = n - 1 - k then bfF l k (k + 1) (n - 1 - k) 0 else bfF l k (k + 1) (n - 1 - k) 0 + 1)
def nutF (n : Nat) (ls : List (List Nat)) (v : Nat × Nat × Nat) : Nat × Nat × Nat := match ls with
  | [] => v
  | l :: ls => nutF n ls (v.1 + 1, (if v.2.1 < trdF n l 0 n 0 then trdF n l 0 n 0 else v.2.1), v.2.2 + trdF n l 0 n 0)
theorem bfF_le {l : List Nat} {k : Nat} : ∀ (m j a : Nat), bfF l k j m a ≤ a + m := by
  intro m
  induction m with
  | zero => intro j a; exact Nat.le_refl _
  | succ m ih =>
    intro j a
    unfold bfF
    have := ih (j + 1) (a + if l.getD j 0 < l.getD k 0 then 1 else 0)
    have h2 : (if l.getD j 0 < l.getD k 0 then 1 else 0) ≤ 1 := by split <;> omega
    omega
theorem trdF_le {n : Nat} {l : List Nat} : ∀ (m k a : Nat), trdF n l k m a ≤ a + m * (n + 1) := by
  intro m
  induction m with
  | zero => intro k a; exact Nat.le_add_right _ _
  | succ m ih =>
    intro k a
    unfold trdF
    have h1 := bfF_le (l := l) (k := k) (n - 1 - k) (k + 1) 0
    refine Nat.le_trans (ih (k + 1) _) ?_
    rw [Nat.succ_mul]
    split <;> omega
section ZMOD25
variable {d : Nat} {w w' : ZW} {A : Nat → Nat → Int32} {I : Nat → Int32} {ab be : Int64} {Q : Option Value → ZW → Prop}
theorem m_trB {n : Nat} {x : Int32} {le : Int64} {mo : Value} {vv : Int64} {l : List Nat} {w0 : ZW} (hn7 : n ≤ 7) (hl : ∀ i, i < n → A 11 i = nI (l.getD i 0)) (hK : ∀ w f o8, (∀ i, i < n → f i = nI (l.getD i 0)) → isM w (va_up A 12 f) I ab be → zOff 74 89 w0 w → Zw (d + 3) mX9_tries z0 93 [some (.ref 74), some (.int x), some (.int (nI n)), some (.long le), none, some mo, some (.long vv), none, o8] [] w Q) : ∀ (k i : Nat) (f : Nat → Int32) (w : ZW), i + k = n → (∀ j, j < i → f j = nI (l.getD j 0)) → isM w (va_up A 12 f) I ab be → zOff 74 89 w0 w → Zw (d + 3) mX9_tries z0 67 [some (.ref 74), some (.int x), some (.int (nI n)), some (.long le), none, some mo, some (.long vv), none, some (.int (nI i))] [] w Q := by
  intro k
  induction k with
  | zero =>
    intro i f w hi hf h ho
    refine zw_iload dX9_tries_67 rfl ?_
    refine zw_iload_n dX9_tries_69 rfl ?_
    refine zw_icmp_ge 93 dX9_tries_70 (by decide) (fun _ => ?_) (fun hz => absurd (nI_le (by omega) (by omega)) hz)
    exact hK w f _ (fun j hj => hf j (by omega)) h ho
  | succ k ih =>
    intro i f w hi hf h ho
    have hin := vp_in_nI (n := i) (N := 7) (by omega) (by decide)
    refine zw_iload dX9_tries_67 rfl ?_
    refine zw_iload_n dX9_tries_69 rfl ?_
    refine zw_icmp_ge 93 dX9_tries_70 (by decide) (fun hz => absurd hz (nI_ge (by omega) (by omega))) (fun _ => ?_)
    refine zw_aload_n dX9_tries_73 rfl ?_
    refine zw_get dX9_tries_74 fX9_48 h.1 rfl ?_
    refine zw_iload dX9_tries_77 rfl ?_
    refine zw_aload_n dX9_tries_79 rfl ?_
    refine zw_get dX9_tries_80 fX9_45 h.1 rfl ?_
    refine zw_iload dX9_tries_83 rfl ?_
    refine zw_iald dX9_tries_85 h.q11 hin ?_
    rw [nI_clamp (by omega), show va_up A 12 f 11 i = nI (l.getD i 0) from hl i (by omega)]
    refine zw_iast dX9_tries_86 h.q12 hin ?_
    rw [nI_clamp (by omega)]
    refine zw_iinc (nI (i + 1)) [_, _, _, _, _, _, _, _, _] dX9_tries_87 rfl (nI_1 i) rfl ?_
    refine zw_goto 67 dX9_tries_90 (by decide) ?_
    refine ih (i + 1) _ _ (by omega) (fun j hj => ?_) h.b12 (ho.tr (zOff.pt (by decide) (by decide)))
    by_cases e : j = i
    · subst e; exact pk_us
    · exact (pk_un e).trans (hf j (by omega))
theorem m_trL {n : Nat} {x : Int32} {c : Nat → Nat} {w0 : ZW} {F : Option (List Nat)} (hn7 : n ≤ 7) (hb : I 0 = nI 0) (hc : ∀ i, i < n → mLd A 0 i 3 = nI (c i) ∧ c i ≤ 10) (hK : ∀ w B l le o5 o6 o7 o8, F = some l → mS 11 A B → le = lN (vL c n l) → (∀ i, i < n → B 12 i = nI (l.getD i 0)) → isM w B I ab be → zOff 74 89 w0 w → Zw (d + 3) mX9_tries z0 103 [some (.ref 74), some (.int x), some (.int (nI n)), some (.long le), none, some (.int o5), some (.long o6), o7, o8] [] w Q) : ∀ (rest : List (List Nat)) (l : List Nat) (b : Option (List Nat)) (le : Int64) (B : Nat → Nat → Int32) (w : ZW) (o6 o7 o8 : Option Value), chk n l rest = true → tryF (vL c n) (l :: rest) b = F → mS 11 A B → bstO (vL c n) n b le (B 12) → (∀ i, i < n → B 11 i = nI (l.getD i 0)) → isM w B I ab be → zOff 74 89 w0 w → Zw (d + 3) mX9_tries z0 36 [some (.ref 74), some (.int x), some (.int (nI n)), some (.long le), none, some (.int 1), o6, o7, o8] [] w Q := by
  intro rest
  induction rest with
  | nil =>
    intro l b le B w o6 o7 o8 hch hF hS hbo hl h ho
    obtain ⟨c1, c2⟩ := chk_len hch
    have e0 := hS 0 (by decide)
    have hv := vL_lt (c := c) (n := n) (l := l) hn7
    have nx : ∀ (w : ZW) B l' le o8, F = some l' → mS 11 A B → le = lN (vL c n l') → (∀ i, i < n → B 12 i = nI (l'.getD i 0)) → (∀ i, i < n → B 11 i = nI (l.getD i 0)) → isM w B I ab be → zOff 74 89 w0 w → Zw (d + 3) mX9_tries z0 93 [some (.ref 74), some (.int x), some (.int (nI n)), some (.long le), none, some (.int 1), some (.long (lN (vL c n l))), none, o8] [] w Q := by
      intro w B l' le o8 hF hS hle h12 h11 h ho
      refine zw_aload_n dX9_tries_93 rfl ?_
      refine zw_iload_n dX9_tries_94 rfl ?_
      refine zw_cV1 dX9_tries_95 oX9_nextOrder kX9_nextOrder lX9_224 h.1 rfl (Nat.le_of_ble_eq_true rfl) rfl (m_nextOrder (p := fun i => l.getD i 0) hn7 (fun i hi => by have := c2 i hi; show l.getD i 0 < 100; omega) h11 h (fun _ => ?_) (fun q hq => ?_))
      · show Zw _ _ _ 98 [_, _, _, _, _, _, _, _, _] [_] _ _
        refine zw_istore [_, _, _, _, _, _, _, _, _] dX9_tries_98 (Nat.le_of_ble_eq_true rfl) rfl ?_
        refine zw_goto 36 dX9_tries_100 (by decide) ?_
        refine zw_iload dX9_tries_36 rfl ?_
        refine zw_if_eq 103 dX9_tries_38 (by decide) (fun _ => ?_) (fun hz => absurd (rfl) hz)
        exact hK w B l' le _ _ _ _ hF hS hle h12 h ho
      · rw [chk_nil hch] at hq
        exact absurd hq (by simp)
    refine zw_iload dX9_tries_36 rfl ?_
    refine zw_if_eq 103 dX9_tries_38 (by decide) (fun hz => absurd hz (by decide)) (fun _ => ?_)
    refine zw_aload_n dX9_tries_41 rfl ?_
    refine zw_iload_n dX9_tries_42 rfl ?_
    refine zw_cV1 dX9_tries_43 oX9_meanBy kX9_meanBy lX9_220 h.1 rfl (Nat.le_of_ble_eq_true rfl) rfl (m_meanBy (p := fun i => l.getD i 0) (c := fun i => c (l.getD i 0)) hn7 hb h hl (fun i hi => by have := c2 i hi; show l.getD i 0 < 7; omega) (fun i hi => by unfold mLd; rw [e0]; exact hc _ (c2 i hi)) ?_)
    show Zw _ _ _ 46 [_, _, _, _, _, _, _, _, _] [_] _ _
    change Zw _ _ _ _ _ [.long (lN (vL c n l))] _ _
    refine zw_lstore [_, _, _, _, _, _, _, _, _] dX9_tries_46 (Nat.le_of_ble_eq_true rfl) rfl ?_
    refine zw_lload_n dX9_tries_48 rfl ?_
    refine zw_lconst dX9_tries_49 0 (by decide) ?_
    refine zw_lcmp dX9_tries_50 ?_
    have up : F = some l → ∀ o8, Zw (d + 3) mX9_tries z0 61 [some (.ref 74), some (.int x), some (.int (nI n)), some (.long le), none, some (.int 1), some (.long (lN (vL c n l))), none, o8] [] w Q := by
      intro hFl o8
      refine zw_lload dX9_tries_61 rfl ?_
      refine zw_lstore_n [_, _, _, _, _, _, _, _, _] dX9_tries_63 (Nat.le_of_ble_eq_true rfl) rfl ?_
      refine zw_iconst dX9_tries_64 0 (by decide) ?_
      refine zw_istore [_, _, _, _, _, _, _, _, _] dX9_tries_65 (Nat.le_of_ble_eq_true rfl) rfl ?_
      exact m_trB (l := l) (A := B) (w0 := w0) hn7 hl (fun w1 f o8 hf h1 o1 => nx w1 (va_up B 12 f) l _ _ hFl (hS.tr (mS.up (by decide))) rfl hf hl h1 o1) n 0 _ w (by omega) (fun j hj => absurd hj (by omega)) (h.sf 12) ho
    cases b with
    | none =>
      have hle : le = -1 := hbo
      subst hle
      refine zw_if_lt 61 dX9_tries_51 (by decide) (fun _ => ?_) (fun hz => absurd (by decide) hz)
      exact up hF.symm _
    | some b0 =>
      obtain ⟨hle, h12⟩ := hbo
      have hv0 := vL_lt (c := c) (n := n) (l := b0) hn7
      have hF' : some (if vL c n l < vL c n b0 then l else b0) = F := hF
      subst hle
      refine zw_if_lt 61 dX9_tries_51 (by decide) (fun hz => absurd hz ((fun z => absurd ((lg_cmp_lt _ _).mp z) (fun z' => by have := (pk_lLT (b := 0) (by omega) (by decide)).mp z'; omega)))) (fun _ => ?_)
      refine zw_lload dX9_tries_54 rfl ?_
      refine zw_lload_n dX9_tries_56 rfl ?_
      refine zw_lcmp dX9_tries_57 ?_
      by_cases e : vL c n l < vL c n b0
      · rw [if_pos e] at hF'
        refine zw_if_ge 93 dX9_tries_58 (by decide) (fun hz => absurd hz ((fun z => by have := (pk_lLE (by omega) (by omega)).mp ((lg_cmp_ge _ _).mp z); omega))) (fun _ => ?_)
        exact up hF'.symm _
      · rw [if_neg e] at hF'
        refine zw_if_ge 93 dX9_tries_58 (by decide) (fun _ => ?_) (fun hz => absurd ((lg_cmp_ge _ _).mpr ((pk_lLE (by omega) (by omega)).mpr (by omega))) hz)
        exact nx w B b0 _ _ hF'.symm hS rfl h12 hl h ho
  | cons r rs ih =>
    intro l b le B w o6 o7 o8 hch hF hS hbo hl h ho
    obtain ⟨c1, c2⟩ := chk_len hch
    obtain ⟨hch', q0, hq0, hq1⟩ := chk_cons hch
    have e0 := hS 0 (by decide)
    have hv := vL_lt (c := c) (n := n) (l := l) hn7
    have nx : ∀ (w : ZW) B l' le o8, tryF (vL c n) (r :: rs) (some l') = F → mS 11 A B → le = lN (vL c n l') → (∀ i, i < n → B 12 i = nI (l'.getD i 0)) → (∀ i, i < n → B 11 i = nI (l.getD i 0)) → isM w B I ab be → zOff 74 89 w0 w → Zw (d + 3) mX9_tries z0 93 [some (.ref 74), some (.int x), some (.int (nI n)), some (.long le), none, some (.int 1), some (.long (lN (vL c n l))), none, o8] [] w Q := by
      intro w B l' le o8 hF hS hle h12 h11 h ho
      refine zw_aload_n dX9_tries_93 rfl ?_
      refine zw_iload_n dX9_tries_94 rfl ?_
      refine zw_cV1 dX9_tries_95 oX9_nextOrder kX9_nextOrder lX9_224 h.1 rfl (Nat.le_of_ble_eq_true rfl) rfl (m_nextOrder (p := fun i => l.getD i 0) hn7 (fun i hi => by have := c2 i hi; show l.getD i 0 < 100; omega) h11 h (fun hq => ?_) (fun q hq w1 f1 hf1 h1 o1 => ?_))
      · rw [hq0] at hq
        exact absurd hq (by simp)
      · rw [hq0] at hq
        have hq := Option.some.inj hq
        subst hq
        show Zw _ _ _ 98 [_, _, _, _, _, _, _, _, _] [_] _ _
        refine zw_istore [_, _, _, _, _, _, _, _, _] dX9_tries_98 (Nat.le_of_ble_eq_true rfl) rfl ?_
        refine zw_goto 36 dX9_tries_100 (by decide) ?_
        exact ih r (some l') le (va_up B 11 f1) w1 _ _ _ hch' hF (hS.tr (mS.up (by decide))) ⟨hle, h12⟩ (fun i hi => (hf1 i hi).trans (by rw [hq1 i hi])) h1 (ho.tr o1)
    refine zw_iload dX9_tries_36 rfl ?_
    refine zw_if_eq 103 dX9_tries_38 (by decide) (fun hz => absurd hz (by decide)) (fun _ => ?_)
    refine zw_aload_n dX9_tries_41 rfl ?_
    refine zw_iload_n dX9_tries_42 rfl ?_
    refine zw_cV1 dX9_tries_43 oX9_meanBy kX9_meanBy lX9_220 h.1 rfl (Nat.le_of_ble_eq_true rfl) rfl (m_meanBy (p := fun i => l.getD i 0) (c := fun i => c (l.getD i 0)) hn7 hb h hl (fun i hi => by have := c2 i hi; show l.getD i 0 < 7; omega) (fun i hi => by unfold mLd; rw [e0]; exact hc _ (c2 i hi)) ?_)
    show Zw _ _ _ 46 [_, _, _, _, _, _, _, _, _] [_] _ _
    change Zw _ _ _ _ _ [.long (lN (vL c n l))] _ _
    refine zw_lstore [_, _, _, _, _, _, _, _, _] dX9_tries_46 (Nat.le_of_ble_eq_true rfl) rfl ?_
    refine zw_lload_n dX9_tries_48 rfl ?_
    refine zw_lconst dX9_tries_49 0 (by decide) ?_
    refine zw_lcmp dX9_tries_50 ?_
    have up : tryF (vL c n) (r :: rs) (some l) = F → ∀ o8, Zw (d + 3) mX9_tries z0 61 [some (.ref 74), some (.int x), some (.int (nI n)), some (.long le), none, some (.int 1), some (.long (lN (vL c n l))), none, o8] [] w Q := by
      intro hFl o8
      refine zw_lload dX9_tries_61 rfl ?_
      refine zw_lstore_n [_, _, _, _, _, _, _, _, _] dX9_tries_63 (Nat.le_of_ble_eq_true rfl) rfl ?_
      refine zw_iconst dX9_tries_64 0 (by decide) ?_
      refine zw_istore [_, _, _, _, _, _, _, _, _] dX9_tries_65 (Nat.le_of_ble_eq_true rfl) rfl ?_
      exact m_trB (l := l) (A := B) (w0 := w0) hn7 hl (fun w1 f o8 hf h1 o1 => nx w1 (va_up B 12 f) l _ _ hFl (hS.tr (mS.up (by decide))) rfl hf hl h1 o1) n 0 _ w (by omega) (fun j hj => absurd hj (by omega)) (h.sf 12) ho
    cases b with
    | none =>
      have hle : le = -1 := hbo
      subst hle
      refine zw_if_lt 61 dX9_tries_51 (by decide) (fun _ => ?_) (fun hz => absurd (by decide) hz)
      exact up hF _
    | some b0 =>
      obtain ⟨hle, h12⟩ := hbo
      have hv0 := vL_lt (c := c) (n := n) (l := b0) hn7
      have hF' : tryF (vL c n) (r :: rs) (some (if vL c n l < vL c n b0 then l else b0)) = F := hF
      subst hle
      refine zw_if_lt 61 dX9_tries_51 (by decide) (fun hz => absurd hz ((fun z => absurd ((lg_cmp_lt _ _).mp z) (fun z' => by have := (pk_lLT (b := 0) (by omega) (by decide)).mp z'; omega)))) (fun _ => ?_)
      refine zw_lload dX9_tries_54 rfl ?_
      refine zw_lload_n dX9_tries_56 rfl ?_
      refine zw_lcmp dX9_tries_57 ?_
      by_cases e : vL c n l < vL c n b0
      · rw [if_pos e] at hF'
        refine zw_if_ge 93 dX9_tries_58 (by decide) (fun hz => absurd hz ((fun z => by have := (pk_lLE (by omega) (by omega)).mp ((lg_cmp_ge _ _).mp z); omega))) (fun _ => ?_)
        exact up hF' _
      · rw [if_neg e] at hF'
        refine zw_if_ge 93 dX9_tries_58 (by decide) (fun _ => ?_) (fun hz => absurd ((lg_cmp_ge _ _).mpr ((pk_lLE (by omega) (by omega)).mpr (by omega))) hz)
        exact nx w B b0 _ _ hF' hS rfl h12 hl h ho
theorem m_trA {n : Nat} {x o5 : Int32} {le : Int64} (hn7 : n ≤ 7) (hK : ∀ o8, Zw (d + 3) mX9_tries z0 140 [some (.ref 74), some (.int x), some (.int (nI n)), some (.long le), none, some (.int o5), some (.long (lN (10 ^ n))), none, o8] [] w Q) : ∀ (k i : Nat), i + k = n → Zw (d + 3) mX9_tries z0 120 [some (.ref 74), some (.int x), some (.int (nI n)), some (.long le), none, some (.int o5), some (.long (lN (10 ^ i))), none, some (.int (nI i))] [] w Q := by
  intro k
  induction k with
  | zero =>
    intro i hi
    have e : i = n := by omega
    subst e
    refine zw_iload dX9_tries_120 rfl ?_
    refine zw_iload_n dX9_tries_122 rfl ?_
    refine zw_icmp_ge 140 dX9_tries_123 (by decide) (fun _ => ?_) (fun hz => absurd (nI_le (by omega) (by omega)) hz)
    exact hK _
  | succ k ih =>
    intro i hi
    refine zw_iload dX9_tries_120 rfl ?_
    refine zw_iload_n dX9_tries_122 rfl ?_
    refine zw_icmp_ge 140 dX9_tries_123 (by decide) (fun hz => absurd hz (nI_ge (by omega) (by omega))) (fun _ => ?_)
    refine zw_lload dX9_tries_126 rfl ?_
    refine zw_ldc2 dX9_tries_128 qX9_213 ?_
    refine zw_lmul dX9_tries_131 ?_
    refine zw_topl (y := lN (10 ^ (i + 1))) (by rw [Nat.pow_succ, ← lN_mul]; rfl) ?_
    refine zw_lstore [_, _, _, _, _, _, _, _, _] dX9_tries_132 (Nat.le_of_ble_eq_true rfl) rfl ?_
    refine zw_iinc (nI (i + 1)) [_, _, _, _, _, _, _, _, _] dX9_tries_134 rfl (nI_1 i) rfl ?_
    refine zw_goto 120 dX9_tries_137 (by decide) ?_
    exact ih (i + 1) (by omega)
/-- the orders, the first ahead -/
theorem ord_hd {n : Nat} (hn : n ≤ 7) : ∃ rest, orders n = List.range n :: rest ∧ chk n (List.range n) rest = true := by
  have h := chk_all n (by omega)
  cases e : orders n with
  | nil => rw [e] at h; exact absurd h (by simp)
  | cons l rest =>
    rw [e] at h
    have h := Bool.and_eq_true_iff.mp h
    have e1 : l = List.range n := eq_of_beq h.1
    subst e1
    exact ⟨rest, rfl, h.2⟩
theorem range_D {n i : Nat} (hi : i < n) : (List.range n).getD i 0 = i := by
  rw [List.getD_eq_getElem?_getD]
  simp [hi]
theorem m_tries {n : Nat} {x : Int32} {c : Nat → Nat} (h : isM w A I ab be) (hb : I 0 = nI 0) (hn : A 0 (0 + 1) = nI n) (hn7 : n ≤ 7) (hc : ∀ i, i < n → mLd A 0 i 3 = nI (c i) ∧ c i ≤ 10) (kB : ¬ -1 ≤ x → ∀ w', isM w' (toldI A 0 0) I ab be → zOff 74 89 w w' → Q (some (.int (-10))) w') (k5 : -1 ≤ x → ¬ x < nI n → Q (some (.int (-5))) w) (kN : ∀ l, tryF (vL c n) (orders n) none = some l → x = -1 → ∀ w' B, mS 4 A B → isM w' B I (lN (vL c n l / Nat.gcd (vL c n l) (10 ^ n))) (lN (10 ^ n / Nat.gcd (vL c n l) (10 ^ n))) → zOff 74 89 w w' → Q (some (.int 1)) w') (kA : ∀ l j, tryF (vL c n) (orders n) none = some l → j < n → x = nI j → ∀ w' B, mS 4 A B → isM w' B I ab be → zOff 74 89 w w' → Q (some (.int (nI (l.getD j 0)))) w') : Zm (d + 3) mX9_tries 0 0 [.ref 74, .int x] w Q := by
  obtain ⟨rest, eo, hch⟩ := ord_hd hn7
  have h10 := p10 n hn7
  refine zm_intro [_, _, _, _, _, _, _, _, _] oX9_tries (Nat.le_of_ble_eq_true rfl) rfl ?_
  refine zw_iload_n dX9_tries_0 rfl ?_
  refine zw_iconst dX9_tries_1 (-1) (by decide) ?_
  by_cases e1 : -1 ≤ x
  · refine zw_icmp_ge 10 dX9_tries_2 (by decide) (fun _ => ?_) (fun hz => absurd (e1) hz)
    refine zw_aload_n dX9_tries_10 rfl ?_
    refine zw_iconst dX9_tries_11 1 (by decide) ?_
    refine zw_cV1 dX9_tries_12 oX9_get kX9_get lX9_62 h.1 rfl (Nat.le_of_ble_eq_true rfl) rfl (m_get (b := 0) (j := 1) h hb (by omega) ?_)
    show Zw _ _ _ 15 [_, _, _, _, _, _, _, _, _] [_] _ _
    refine zw_top (hn) ?_
    refine zw_istore_n [_, _, _, _, _, _, _, _, _] dX9_tries_15 (Nat.le_of_ble_eq_true rfl) rfl ?_
    refine zw_iload_n dX9_tries_16 rfl ?_
    refine zw_iload_n dX9_tries_17 rfl ?_
    by_cases e2 : x < nI n
    · refine zw_icmp_lt 24 dX9_tries_18 (by decide) (fun _ => ?_) (fun hz => absurd (e2) hz)
      refine zw_aload_n dX9_tries_24 rfl ?_
      refine zw_iload_n dX9_tries_25 rfl ?_
      refine zw_cV1 dX9_tries_26 oX9_firstOrder kX9_firstOrder lX9_215 h.1 rfl (Nat.le_of_ble_eq_true rfl) rfl (m_firstOrder hn7 h (fun w1 f hf h1 o1 => ?_))
      show Zw _ _ _ 29 [_, _, _, _, _, _, _, _, _] [] _ _
      refine zw_ldc2 dX9_tries_29 qX9_218 ?_
      refine zw_lstore_n [_, _, _, _, _, _, _, _, _] dX9_tries_32 (Nat.le_of_ble_eq_true rfl) rfl ?_
      refine zw_iconst dX9_tries_33 1 (by decide) ?_
      refine zw_istore [_, _, _, _, _, _, _, _, _] dX9_tries_34 (Nat.le_of_ble_eq_true rfl) rfl ?_
      refine m_trL (A := A) (c := c) (w0 := w) (F := tryF (vL c n) (orders n) none) hn7 hb hc (fun w2 B l le o5 o6 o7 o8 hF hS hle h12 h2 o2 => ?_) rest (List.range n) none _ (va_up A 11 f) w1 _ _ _ hch (by rw [eo]) (mS.up (by decide)) rfl (fun i hi => (hf i hi).trans (by rw [range_D hi])) h1 o1
      subst hle
      have hv := vL_lt (c := c) (n := n) (l := l) hn7
      by_cases e3 : x = -1
      · have hx : x < 0 := by rw [e3]; decide
        refine zw_iload_n dX9_tries_103 rfl ?_
        refine zw_if_lt 114 dX9_tries_104 (by decide) (fun _ => ?_) (fun hz => absurd (hx) hz)
        refine zw_lconst dX9_tries_114 1 (by decide) ?_
        refine zw_lstore [_, _, _, _, _, _, _, _, _] dX9_tries_115 (Nat.le_of_ble_eq_true rfl) rfl ?_
        refine zw_iconst dX9_tries_117 0 (by decide) ?_
        refine zw_istore [_, _, _, _, _, _, _, _, _] dX9_tries_118 (Nat.le_of_ble_eq_true rfl) rfl ?_
        refine m_trA hn7 (fun o8 => ?_) n 0 (by omega)
        refine zw_aload_n dX9_tries_140 rfl ?_
        refine zw_lload_n dX9_tries_141 rfl ?_
        refine zw_lload dX9_tries_142 rfl ?_
        refine zw_cV2 dX9_tries_144 oX9_fraction kX9_fraction lX9_227 h2.1 rfl (Nat.le_of_ble_eq_true rfl) rfl (m_fraction (by omega) (by omega) (Nat.pow_pos (by decide)) h2 (fun w3 h3 o3 => ?_))
        show Zw _ _ _ 147 [_, _, _, _, _, _, _, _, _] [] _ _
        refine zw_iconst dX9_tries_147 1 (by decide) ?_
        refine zw_ireturn .int dX9_tries_148 rfl rfl (Nat.le_refl _) (Nat.le_refl _) ?_
        exact kN l hF e3 w3 B (hS.dn (by decide)) h3 (o2.tr o3)
      · have hx0 : ¬ x < 0 := by
          intro z
          have h1 := Int32.le_iff_toInt_le.mp e1
          have h2 := Int32.lt_iff_toInt_lt.mp z
          have : x.toInt = -1 := by simp at h1 h2; omega
          exact e3 (Int32.toInt_inj.mp this)
        obtain ⟨j, hj, ej⟩ := nI_of hx0
        have hjn : j < n := by rw [ej] at e2; exact (nI_ltI hj (by omega)).mp e2
        have kk := kA l j hF hjn ej
        refine zw_iload_n dX9_tries_103 rfl ?_
        refine zw_if_lt 114 dX9_tries_104 (by decide) (fun hz => absurd hz (hx0)) (fun _ => ?_)
        subst ej
        refine zw_aload_n dX9_tries_107 rfl ?_
        refine zw_get dX9_tries_108 fX9_48 h2.1 rfl ?_
        refine zw_iload_n dX9_tries_111 rfl ?_
        refine zw_iald dX9_tries_112 h2.q12 (vp_in_nI (n := j) (N := 7) (by omega) (by decide)) ?_
        rw [nI_clamp (by omega), h12 j hjn]
        refine zw_ireturn .int dX9_tries_113 rfl rfl (Nat.le_refl _) (Nat.le_refl _) ?_
        exact kk w2 B (hS.dn (by decide)) h2 o2
    · refine zw_icmp_lt 24 dX9_tries_18 (by decide) (fun hz => absurd hz (e2)) (fun _ => ?_)
      refine zw_bipush dX9_tries_21 (-5) (by decide) ?_
      refine zw_ireturn .int dX9_tries_23 rfl rfl (Nat.le_refl _) (Nat.le_refl _) ?_
      exact k5 e1 e2
  · refine zw_icmp_ge 10 dX9_tries_2 (by decide) (fun hz => absurd hz (e1)) (fun _ => ?_)
    refine zw_aload_n dX9_tries_5 rfl ?_
    refine zw_cV0 dX9_tries_6 oX9_bad10 kX9_bad10 lX9_118 h.1 rfl (Nat.le_of_ble_eq_true rfl) rfl (m_bad10 hb (by decide) h (fun w1 h1 o1 => ?_))
    show Zw _ _ _ 9 [_, _, _, _, _, _, _, _, _] [_] _ _
    refine zw_ireturn .int dX9_tries_9 rfl rfl (Nat.le_refl _) (Nat.le_refl _) ?_
    exact kB e1 w1 h1 o1
end ZMOD25
