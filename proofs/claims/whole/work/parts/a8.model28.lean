/-! ===== the Model: labels, the loops over the orders ===== -/
theorem hOk_0 {A B : Nat → Nat → Int32} {hs hf hx : Nat → Nat} {l : List Nat} (e : B 0 = A 0) : hOk B hs hf hx l = hOk A hs hf hx l := by
  funext k
  unfold hOk mB
  rw [e]
/-- what the ways are, and how often a food is in a box -/
def fwO (A : Nat → Nat → Int32) (hs hf hx : Nat → Nat) (hm n : Nat) : Nat × (Nat → Nat) := fwF (fun l => allF (hOk A hs hf hx l) 0 hm) n (orders n) (0, fun _ => 0)
theorem fwO_le {A : Nat → Nat → Int32} {hs hf hx : Nat → Nat} {hm n j : Nat} (hn : n ≤ 7) : (fwO A hs hf hx hm n).1 ≤ 5040 ∧ (fwO A hs hf hx hm n).2 j ≤ 35280 := by
  obtain ⟨h1, h2⟩ := fwF_le (P := fun l => allF (hOk A hs hf hx l) 0 hm) (n := n) (j := j) (orders n) (0, fun _ => 0)
  have h3 := ord_len n (by omega)
  have h4 : (orders n).length * n ≤ 5040 * 7 := Nat.mul_le_mul h3 hn
  unfold fwO
  exact ⟨by simp only at h1; omega, by simp only at h2; omega⟩
section ZMOD28
variable {d : Nat} {w w' : ZW} {A : Nat → Nat → Int32} {I : Nat → Int32} {ab be : Int64} {Q : Option Value → ZW → Prop}
theorem m_fwL {hs hf hx : Nat → Nat} {n hm : Nat} {w0 : ZW} {F : Nat × (Nat → Nat)} (hb : I 0 = nI 0) (hn7 : n ≤ 7) (hh : A 0 (0 + 4) = nI hm) (hm8 : hm ≤ 8) (hH : ∀ k, k < hm → A 0 (0 + (109 + 3 * k)) = nI (hs k) ∧ hs k ≤ 3 ∧ A 0 (0 + (109 + 3 * k + 1)) = nI (hf k) ∧ hf k < n ∧ A 0 (0 + (109 + 3 * k + 2)) = nI (hx k) ∧ hx k < n) (hK : ∀ w B, mS 11 A B → (∀ j, j < 49 → B 13 j = nI (F.2 j)) → isM w B I ab be → zOff 74 89 w0 w → Q (some (.int (nI F.1))) w) : ∀ (rest : List (List Nat)) (l : List Nat) (v : Nat × (Nat → Nat)) (B : Nat → Nat → Int32) (w : ZW) (o4 : Option Value), chk n l rest = true → fwF (fun l => allF (hOk A hs hf hx l) 0 hm) n (l :: rest) v = F → mS 11 A B → (∀ i, i < n → B 11 i = nI (l.getD i 0)) → (∀ j, j < 49 → B 13 j = nI (v.2 j)) → isM w B I ab be → zOff 74 89 w0 w → Zw (d + 3) mX9_findWays z0 36 [some (.ref 74), some (.int (nI n)), some (.int (nI v.1)), some (.int 1), o4] [] w Q := by
  intro rest
  induction rest with
  | nil =>
    intro l v B w o4 hch hF hS hl ho3 h ho
    obtain ⟨c1, c2⟩ := chk_len hch
    have e0 := hS 0 (by decide)
    have nx : ∀ (w : ZW) B v o4, v = F → mS 11 A B → (∀ i, i < n → B 11 i = nI (l.getD i 0)) → (∀ j, j < 49 → B 13 j = nI (v.2 j)) → isM w B I ab be → zOff 74 89 w0 w → Zw (d + 3) mX9_findWays z0 87 [some (.ref 74), some (.int (nI n)), some (.int (nI v.1)), some (.int 1), o4] [] w Q := by
      intro w B v o4 hF hS h11 h13 h ho
      subst hF
      refine zw_aload_n dX9_findWays_87 rfl ?_
      refine zw_iload_n dX9_findWays_88 rfl ?_
      refine zw_cV1 dX9_findWays_89 oX9_nextOrder kX9_nextOrder lX9_224 h.1 rfl (Nat.le_of_ble_eq_true rfl) rfl (m_nextOrder (p := fun i => l.getD i 0) hn7 (fun i hi => by have := c2 i hi; show l.getD i 0 < 100; omega) h11 h (fun _ => ?_) (fun q hq => ?_))
      · show Zw _ _ _ 92 [_, _, _, _, _] [_] _ _
        refine zw_istore_n [_, _, _, _, _] dX9_findWays_92 (Nat.le_of_ble_eq_true rfl) rfl ?_
        refine zw_goto 36 dX9_findWays_93 (by decide) ?_
        refine zw_iload_n dX9_findWays_36 rfl ?_
        refine zw_if_eq 96 dX9_findWays_37 (by decide) (fun _ => ?_) (fun hz => absurd (rfl) hz)
        refine zw_iload_n dX9_findWays_96 rfl ?_
        refine zw_ireturn .int dX9_findWays_97 rfl rfl (Nat.le_refl _) (Nat.le_refl _) ?_
        exact hK w B hS h13 h ho
      · rw [chk_nil hch] at hq
        exact absurd hq (by simp)
    have hF' : (if allF (hOk A hs hf hx l) 0 hm = true then (v.1 + 1, ofI l 0 n v.2) else v) = F := hF
    refine zw_iload_n dX9_findWays_36 rfl ?_
    refine zw_if_eq 96 dX9_findWays_37 (by decide) (fun hz => absurd hz (by decide)) (fun _ => ?_)
    refine zw_aload_n dX9_findWays_40 rfl ?_
    refine zw_cV0 dX9_findWays_41 oX9_isSo kX9_isSo lX9_234 h.1 rfl (Nat.le_of_ble_eq_true rfl) rfl (m_isSo (A := B) (hs := hs) (hf := hf) (hx := hx) (l := l) hb hn7 (by rw [e0]; exact hh) hm8 (by rw [e0]; exact hH) hl c2 h ?_)
    show Zw _ _ _ 44 [_, _, _, _, _] [_] _ _
    rw [hOk_0 e0]
    by_cases e : allF (hOk A hs hf hx l) 0 hm = true
    · rw [if_pos e] at hF'
      rw [e]
      refine zw_if_eq 87 dX9_findWays_44 (by decide) (fun hz => absurd hz (by decide)) (fun _ => ?_)
      refine zw_iinc (nI (v.1 + 1)) [_, _, _, _, _] dX9_findWays_47 rfl (nI_1 _) rfl ?_
      refine zw_iconst dX9_findWays_50 0 (by decide) ?_
      refine zw_istore [_, _, _, _, _] dX9_findWays_51 (Nat.le_of_ble_eq_true rfl) rfl ?_
      exact m_fwO (A := B) (l := l) (w0 := w0) hn7 hl c2 (fun w1 f o4 hf1 h1 o1 => nx w1 (va_up B 13 f) (v.1 + 1, ofI l 0 n v.2) _ hF' (hS.tr (mS.up (by decide))) hl hf1 h1 o1) n 0 v.2 _ w (by omega) rfl ho3 (h.sf 13) ho
    · have e' : allF (hOk A hs hf hx l) 0 hm = false := by simpa using e
      rw [if_neg e] at hF'
      rw [e']
      refine zw_if_eq 87 dX9_findWays_44 (by decide) (fun _ => ?_) (fun hz => absurd (by decide) hz)
      exact nx w B v _ hF' hS hl ho3 h ho
  | cons r rs ih =>
    intro l v B w o4 hch hF hS hl ho3 h ho
    obtain ⟨c1, c2⟩ := chk_len hch
    obtain ⟨hch', q0, hq0, hq1⟩ := chk_cons hch
    have e0 := hS 0 (by decide)
    have nx : ∀ (w : ZW) B v o4, fwF (fun l => allF (hOk A hs hf hx l) 0 hm) n (r :: rs) v = F → mS 11 A B → (∀ i, i < n → B 11 i = nI (l.getD i 0)) → (∀ j, j < 49 → B 13 j = nI (v.2 j)) → isM w B I ab be → zOff 74 89 w0 w → Zw (d + 3) mX9_findWays z0 87 [some (.ref 74), some (.int (nI n)), some (.int (nI v.1)), some (.int 1), o4] [] w Q := by
      intro w B v o4 hF hS h11 h13 h ho
      refine zw_aload_n dX9_findWays_87 rfl ?_
      refine zw_iload_n dX9_findWays_88 rfl ?_
      refine zw_cV1 dX9_findWays_89 oX9_nextOrder kX9_nextOrder lX9_224 h.1 rfl (Nat.le_of_ble_eq_true rfl) rfl (m_nextOrder (p := fun i => l.getD i 0) hn7 (fun i hi => by have := c2 i hi; show l.getD i 0 < 100; omega) h11 h (fun hq => ?_) (fun q hq w1 f1 hf1 h1 o1 => ?_))
      · rw [hq0] at hq
        exact absurd hq (by simp)
      · rw [hq0] at hq
        have hq := Option.some.inj hq
        subst hq
        show Zw _ _ _ 92 [_, _, _, _, _] [_] _ _
        refine zw_istore_n [_, _, _, _, _] dX9_findWays_92 (Nat.le_of_ble_eq_true rfl) rfl ?_
        refine zw_goto 36 dX9_findWays_93 (by decide) ?_
        exact ih r v (va_up B 11 f1) w1 _ hch' hF (hS.tr (mS.up (by decide))) (fun i hi => (hf1 i hi).trans (by rw [hq1 i hi])) h13 h1 (ho.tr o1)
    have hF' : fwF (fun l => allF (hOk A hs hf hx l) 0 hm) n (r :: rs) (if allF (hOk A hs hf hx l) 0 hm = true then (v.1 + 1, ofI l 0 n v.2) else v) = F := hF
    refine zw_iload_n dX9_findWays_36 rfl ?_
    refine zw_if_eq 96 dX9_findWays_37 (by decide) (fun hz => absurd hz (by decide)) (fun _ => ?_)
    refine zw_aload_n dX9_findWays_40 rfl ?_
    refine zw_cV0 dX9_findWays_41 oX9_isSo kX9_isSo lX9_234 h.1 rfl (Nat.le_of_ble_eq_true rfl) rfl (m_isSo (A := B) (hs := hs) (hf := hf) (hx := hx) (l := l) hb hn7 (by rw [e0]; exact hh) hm8 (by rw [e0]; exact hH) hl c2 h ?_)
    show Zw _ _ _ 44 [_, _, _, _, _] [_] _ _
    rw [hOk_0 e0]
    by_cases e : allF (hOk A hs hf hx l) 0 hm = true
    · rw [if_pos e] at hF'
      rw [e]
      refine zw_if_eq 87 dX9_findWays_44 (by decide) (fun hz => absurd hz (by decide)) (fun _ => ?_)
      refine zw_iinc (nI (v.1 + 1)) [_, _, _, _, _] dX9_findWays_47 rfl (nI_1 _) rfl ?_
      refine zw_iconst dX9_findWays_50 0 (by decide) ?_
      refine zw_istore [_, _, _, _, _] dX9_findWays_51 (Nat.le_of_ble_eq_true rfl) rfl ?_
      exact m_fwO (A := B) (l := l) (w0 := w0) hn7 hl c2 (fun w1 f o4 hf1 h1 o1 => nx w1 (va_up B 13 f) (v.1 + 1, ofI l 0 n v.2) _ hF' (hS.tr (mS.up (by decide))) hl hf1 h1 o1) n 0 v.2 _ w (by omega) rfl ho3 (h.sf 13) ho
    · have e' : allF (hOk A hs hf hx l) 0 hm = false := by simpa using e
      rw [if_neg e] at hF'
      rw [e']
      refine zw_if_eq 87 dX9_findWays_44 (by decide) (fun _ => ?_) (fun hz => absurd (by decide) hz)
      exact nx w B v _ hF' hS hl ho3 h ho
theorem m_findWays {hs hf hx : Nat → Nat} {n hm : Nat} (h : isM w A I ab be) (hb : I 0 = nI 0) (hn : A 0 0 = nI n) (hn7 : n ≤ 7) (hh : A 0 (0 + 4) = nI hm) (hm8 : hm ≤ 8) (hH : ∀ k, k < hm → A 0 (0 + (109 + 3 * k)) = nI (hs k) ∧ hs k ≤ 3 ∧ A 0 (0 + (109 + 3 * k + 1)) = nI (hf k) ∧ hf k < n ∧ A 0 (0 + (109 + 3 * k + 2)) = nI (hx k) ∧ hx k < n) (k : ∀ w' B, mS 4 A B → (∀ j, j < 49 → B 13 j = nI ((fwO A hs hf hx hm n).2 j)) → isM w' B I ab be → zOff 74 89 w w' → Q (some (.int (nI (fwO A hs hf hx hm n).1))) w') : Zm (d + 3) mX9_findWays 0 0 [.ref 74] w Q := by
  obtain ⟨rest, eo, hch⟩ := ord_hd hn7
  refine zm_intro [_, _, _, _, _] oX9_findWays (Nat.le_of_ble_eq_true rfl) rfl ?_
  refine zw_aload_n dX9_findWays_0 rfl ?_
  refine zw_iconst dX9_findWays_1 0 (by decide) ?_
  refine zw_cV1 dX9_findWays_2 oX9_get kX9_get lX9_62 h.1 rfl (Nat.le_of_ble_eq_true rfl) rfl (m_get (b := 0) (j := 0) h hb (by omega) ?_)
  show Zw _ _ _ 5 [_, _, _, _, _] [_] _ _
  refine zw_top (hn) ?_
  refine zw_istore_n [_, _, _, _, _] dX9_findWays_5 (Nat.le_of_ble_eq_true rfl) rfl ?_
  refine zw_iconst dX9_findWays_6 0 (by decide) ?_
  refine zw_istore_n [_, _, _, _, _] dX9_findWays_7 (Nat.le_of_ble_eq_true rfl) rfl ?_
  refine m_fwZ (w0 := w) (fun w1 f1 o2 hf1 h1 o1 => ?_) 49 0 _ w (by omega) (fun j hj => absurd hj (by omega)) (h.sf 13) zOff.rf
  refine zw_iconst dX9_findWays_27 0 (by decide) ?_
  refine zw_istore_n [_, _, _, _, _] dX9_findWays_28 (Nat.le_of_ble_eq_true rfl) rfl ?_
  refine zw_aload_n dX9_findWays_29 rfl ?_
  refine zw_iload_n dX9_findWays_30 rfl ?_
  refine zw_cV1 dX9_findWays_31 oX9_firstOrder kX9_firstOrder lX9_215 h1.1 rfl (Nat.le_of_ble_eq_true rfl) rfl (m_firstOrder hn7 h1 (fun w2 f2 hf2 h2 o2 => ?_))
  show Zw _ _ _ 34 [_, _, _, _, _] [] _ _
  refine zw_iconst dX9_findWays_34 1 (by decide) ?_
  refine zw_istore_n [_, _, _, _, _] dX9_findWays_35 (Nat.le_of_ble_eq_true rfl) rfl ?_
  exact m_fwL (A := va_up A 13 f1) (hs := hs) (hf := hf) (hx := hx) (w0 := w) (F := fwO A hs hf hx hm n) (hm := hm) hb hn7 hh hm8 hH (fun w3 B hS h13 h3 o3 => k w3 B ((mS.up (by decide)).tr (hS.dn (by decide))) h13 h3 o3) rest (List.range n) (0, fun _ => 0) (va_up (va_up A 13 f1) 11 f2) w2 _ hch (by unfold fwO; rw [eo]; rfl) (mS.up (by decide)) (fun i hi => (hf2 i hi).trans (by rw [range_D hi])) hf1 h2 (o1.tr o2)
theorem m_lb1 {o : Nat → Nat} {n r : Nat} {y wa : Int32} (hn7 : n ≤ 7) (hr : r < 7) (h13 : ∀ j, j < 49 → A 13 j = nI (o j)) (hol : ∀ j, o j ≤ 35280) (h : isM w A I ab be) : ∀ (k i m : Nat), i + k = n → m < 2 ^ i → Q (some (.int (nI (mskF (fun b => decide (0 < o (7 * r + b))) i k m)))) w → Zw d mX9_labels z0 63 [some (.ref 74), some (.int (nI r)), some (.int y), some (.int wa), some (.int (nI n)), some (.int (nI m)), some (.int (nI i)), none, none, none] [] w Q := by
  intro k
  induction k with
  | zero =>
    intro i m hi hm kk
    refine zw_iload dX9_labels_63 rfl ?_
    refine zw_iload dX9_labels_65 rfl ?_
    refine zw_icmp_ge 104 dX9_labels_67 (by decide) (fun _ => ?_) (fun hz => absurd (nI_le (by omega) (by omega)) hz)
    refine zw_iload dX9_labels_104 rfl ?_
    refine zw_ireturn .int dX9_labels_106 rfl rfl (Nat.le_refl _) (Nat.le_refl _) ?_
    exact kk
  | succ k ih =>
    intro i m hi hm kk
    unfold mskF at kk
    have p2 : 2 ^ (i + 1) = 2 ^ i + 2 ^ i := by rw [Nat.pow_succ]; omega
    have hjn : 7 * r + i < 49 := by omega
    have b1 := hol (7 * r + i)
    refine zw_iload dX9_labels_63 rfl ?_
    refine zw_iload dX9_labels_65 rfl ?_
    refine zw_icmp_ge 104 dX9_labels_67 (by decide) (fun hz => absurd hz (nI_ge (by omega) (by omega))) (fun _ => ?_)
    refine zw_iload dX9_labels_70 rfl ?_
    refine zw_aload_n dX9_labels_72 rfl ?_
    refine zw_get dX9_labels_73 fX9_51 h.1 rfl ?_
    refine zw_bipush dX9_labels_76 7 (by decide) ?_
    refine zw_iload_n dX9_labels_78 rfl ?_
    refine zw_imul dX9_labels_79 ?_
    refine zw_iload dX9_labels_80 rfl ?_
    refine zw_iadd dX9_labels_82 ?_
    refine zw_top (y := nI (7 * r + i)) (by rw [← nI_add, ← pk_mul]; rfl) ?_
    refine zw_iald dX9_labels_83 h.q13 (vp_in_nI (n := 7 * r + i) (N := 49) hjn (by decide)) ?_
    rw [nI_clamp (by omega), h13 _ hjn]
    by_cases e : 0 < o (7 * r + i)
    · rw [if_pos (decide_eq_true e)] at kk
      refine zw_if_le 94 dX9_labels_84 (by decide) (fun hz => absurd hz (nI_nle e (by omega))) (fun _ => ?_)
      refine zw_iconst dX9_labels_87 1 (by decide) ?_
      refine zw_iload dX9_labels_88 rfl ?_
      refine zw_ishl dX9_labels_90 ?_
      refine zw_goto 95 dX9_labels_91 (by decide) ?_
      refine zw_ior dX9_labels_95 ?_
      refine zw_top (or_bit i (by omega) m hm) ?_
      refine zw_istore [_, _, _, _, _, _, _, _, _, _] dX9_labels_96 (Nat.le_of_ble_eq_true rfl) rfl ?_
      refine zw_iinc (nI (i + 1)) [_, _, _, _, _, _, _, _, _, _] dX9_labels_98 rfl (nI_1 i) rfl ?_
      refine zw_goto 63 dX9_labels_101 (by decide) ?_
      exact ih (i + 1) _ (by omega) (by omega) kk
    · rw [if_neg (by simpa using e)] at kk
      have e' : o (7 * r + i) = 0 := by omega
      refine zw_if_le 94 dX9_labels_84 (by decide) (fun _ => ?_) (fun hz => absurd (by rw [e']; decide) hz)
      refine zw_iconst dX9_labels_94 0 (by decide) ?_
      refine zw_ior dX9_labels_95 ?_
      refine zw_top (y := nI m) (by simp) ?_
      refine zw_istore [_, _, _, _, _, _, _, _, _, _] dX9_labels_96 (Nat.le_of_ble_eq_true rfl) rfl ?_
      refine zw_iinc (nI (i + 1)) [_, _, _, _, _, _, _, _, _, _] dX9_labels_98 rfl (nI_1 i) rfl ?_
      refine zw_goto 63 dX9_labels_101 (by decide) ?_
      exact ih (i + 1) _ (by omega) (by omega) kk
theorem m_lb2 {o : Nat → Nat} {n b V : Nat} {x y wa fo le : Int32} (hn7 : n ≤ 7) (hbn : b < n) (h13 : ∀ j, j < 49 → A 13 j = nI (o j)) (hol : ∀ j, o j ≤ 35280) (h : isM w A I ab be) (hK : ∀ o9, Zw d mX9_labels z0 184 [some (.ref 74), some (.int x), some (.int y), some (.int wa), some (.int (nI n)), some (.int fo), some (.int le), some (.int (nI b)), some (.int (nI V)), o9] [] w Q) : ∀ (m k a : Nat), k + m = n → a ≤ 35280 → wsF o b k m a = V → Zw d mX9_labels z0 133 [some (.ref 74), some (.int x), some (.int y), some (.int wa), some (.int (nI n)), some (.int fo), some (.int le), some (.int (nI b)), some (.int (nI a)), some (.int (nI k))] [] w Q := by
  intro m
  induction m with
  | zero =>
    intro k a hi ha hE
    have hE : a = V := hE
    subst hE
    refine zw_iload dX9_labels_133 rfl ?_
    refine zw_iload dX9_labels_135 rfl ?_
    refine zw_icmp_ge 184 dX9_labels_137 (by decide) (fun _ => ?_) (fun hz => absurd (nI_le (by omega) (by omega)) hz)
    exact hK _
  | succ m ih =>
    intro k a hi ha hE
    unfold wsF at hE
    have hjn : 7 * k + b < 49 := by omega
    have b1 := hol (7 * k + b)
    have hin := vp_in_nI (n := 7 * k + b) (N := 49) hjn (by decide)
    refine zw_iload dX9_labels_133 rfl ?_
    refine zw_iload dX9_labels_135 rfl ?_
    refine zw_icmp_ge 184 dX9_labels_137 (by decide) (fun hz => absurd hz (nI_ge (by omega) (by omega))) (fun _ => ?_)
    refine zw_aload_n dX9_labels_140 rfl ?_
    refine zw_get dX9_labels_141 fX9_51 h.1 rfl ?_
    refine zw_bipush dX9_labels_144 7 (by decide) ?_
    refine zw_iload dX9_labels_146 rfl ?_
    refine zw_imul dX9_labels_148 ?_
    refine zw_iload dX9_labels_149 rfl ?_
    refine zw_iadd dX9_labels_151 ?_
    refine zw_top (y := nI (7 * k + b)) (by rw [← nI_add, ← pk_mul]; rfl) ?_
    refine zw_iald dX9_labels_152 h.q13 hin ?_
    rw [nI_clamp (by omega), h13 _ hjn]
    refine zw_iload dX9_labels_153 rfl ?_
    by_cases e : a < o (7 * k + b)
    · rw [if_pos e] at hE
      refine zw_icmp_le 174 dX9_labels_155 (by decide) (fun hz => absurd hz (nI_ge e (by omega))) (fun _ => ?_)
      refine zw_aload_n dX9_labels_158 rfl ?_
      refine zw_get dX9_labels_159 fX9_51 h.1 rfl ?_
      refine zw_bipush dX9_labels_162 7 (by decide) ?_
      refine zw_iload dX9_labels_164 rfl ?_
      refine zw_imul dX9_labels_166 ?_
      refine zw_iload dX9_labels_167 rfl ?_
      refine zw_iadd dX9_labels_169 ?_
      refine zw_top (y := nI (7 * k + b)) (by rw [← nI_add, ← pk_mul]; rfl) ?_
      refine zw_iald dX9_labels_170 h.q13 hin ?_
      rw [nI_clamp (by omega), h13 _ hjn]
      refine zw_goto 176 dX9_labels_171 (by decide) ?_
      refine zw_istore [_, _, _, _, _, _, _, _, _, _] dX9_labels_176 (Nat.le_of_ble_eq_true rfl) rfl ?_
      refine zw_iinc (nI (k + 1)) [_, _, _, _, _, _, _, _, _, _] dX9_labels_178 rfl (nI_1 k) rfl ?_
      refine zw_goto 133 dX9_labels_181 (by decide) ?_
      exact ih (k + 1) _ (by omega) b1 hE
    · rw [if_neg e] at hE
      refine zw_icmp_le 174 dX9_labels_155 (by decide) (fun _ => ?_) (fun hz => absurd (nI_le (by omega) (by omega)) hz)
      refine zw_iload dX9_labels_174 rfl ?_
      refine zw_istore [_, _, _, _, _, _, _, _, _, _] dX9_labels_176 (Nat.le_of_ble_eq_true rfl) rfl ?_
      refine zw_iinc (nI (k + 1)) [_, _, _, _, _, _, _, _, _, _] dX9_labels_178 rfl (nI_1 k) rfl ?_
      refine zw_goto 133 dX9_labels_181 (by decide) ?_
      exact ih (k + 1) _ (by omega) ha hE
theorem m_lb3 {o : Nat → Nat} {n wa : Nat} {x y : Int32} (hn7 : n ≤ 7) (hwa : 0 < wa) (hwl : wa ≤ 5040) (h13 : ∀ j, j < 49 → A 13 j = nI (o j)) (hol : ∀ j, o j ≤ 35280) (h : isM w A I ab be) : ∀ (m b : Nat) (fo : Int32) (le : Nat) (o8 o9 : Option Value), b + m = n → le ≤ 35280 → Q (some (.int (lbF o n b m fo le))) w → Zw d mX9_labels z0 116 [some (.ref 74), some (.int x), some (.int y), some (.int (nI wa)), some (.int (nI n)), some (.int fo), some (.int (nI le)), some (.int (nI b)), o8, o9] [] w Q := by
  intro m
  induction m with
  | zero =>
    intro b fo le o8 o9 hi hle kk
    refine zw_iload dX9_labels_116 rfl ?_
    refine zw_iload dX9_labels_118 rfl ?_
    refine zw_icmp_ge 211 dX9_labels_120 (by decide) (fun _ => ?_) (fun hz => absurd (nI_le (by omega) (by omega)) hz)
    refine zw_iload dX9_labels_211 rfl ?_
    refine zw_ireturn .int dX9_labels_213 rfl rfl (Nat.le_refl _) (Nat.le_refl _) ?_
    exact kk
  | succ m ih =>
    intro b fo le o8 o9 hi hle kk
    unfold lbF at kk
    have bw := wsF_le (o := o) (b := b) (M := 35280) (fun k _ => hol _) n 0 0 (by omega) (by omega)
    refine zw_iload dX9_labels_116 rfl ?_
    refine zw_iload dX9_labels_118 rfl ?_
    refine zw_icmp_ge 211 dX9_labels_120 (by decide) (fun hz => absurd hz (nI_ge (by omega) (by omega))) (fun _ => ?_)
    refine zw_iload_n dX9_labels_123 rfl ?_
    refine zw_if_le 211 dX9_labels_124 (by decide) (fun hz => absurd hz (nI_nle hwa (by omega))) (fun _ => ?_)
    refine zw_iconst dX9_labels_127 0 (by decide) ?_
    refine zw_istore [_, _, _, _, _, _, _, _, _, _] dX9_labels_128 (Nat.le_of_ble_eq_true rfl) rfl ?_
    refine zw_iconst dX9_labels_130 0 (by decide) ?_
    refine zw_istore [_, _, _, _, _, _, _, _, _, _] dX9_labels_131 (Nat.le_of_ble_eq_true rfl) rfl ?_
    refine m_lb2 (V := wsF o b 0 n 0) hn7 (by omega) h13 hol h (fun o9 => ?_) n 0 0 (by omega) (by omega) rfl
    generalize wsF o b 0 n 0 = ws at kk bw ⊢
    have yes : (fo = -1 ∨ ws < le) → Zw d mX9_labels z0 197 [some (.ref 74), some (.int x), some (.int y), some (.int (nI wa)), some (.int (nI n)), some (.int fo), some (.int (nI le)), some (.int (nI b)), some (.int (nI ws)), o9] [] w Q := by
      intro hq
      rw [if_pos hq] at kk
      refine zw_iload dX9_labels_197 rfl ?_
      refine zw_istore [_, _, _, _, _, _, _, _, _, _] dX9_labels_199 (Nat.le_of_ble_eq_true rfl) rfl ?_
      refine zw_iload dX9_labels_201 rfl ?_
      refine zw_istore [_, _, _, _, _, _, _, _, _, _] dX9_labels_203 (Nat.le_of_ble_eq_true rfl) rfl ?_
      refine zw_iinc (nI (b + 1)) [_, _, _, _, _, _, _, _, _, _] dX9_labels_205 rfl (nI_1 b) rfl ?_
      refine zw_goto 116 dX9_labels_208 (by decide) ?_
      exact ih (b + 1) _ _ _ _ (by omega) bw kk
    refine zw_iload dX9_labels_184 rfl ?_
    refine zw_iconst dX9_labels_186 (-1) (by decide) ?_
    by_cases e1 : fo = -1
    · refine zw_icmp_eq 197 dX9_labels_187 (by decide) (fun _ => ?_) (fun hz => absurd (e1) hz)
      exact yes (Or.inl e1)
    · refine zw_icmp_eq 197 dX9_labels_187 (by decide) (fun hz => absurd hz (e1)) (fun _ => ?_)
      refine zw_iload dX9_labels_190 rfl ?_
      refine zw_iload dX9_labels_192 rfl ?_
      by_cases e2 : ws < le
      · refine zw_icmp_ge 205 dX9_labels_194 (by decide) (fun hz => absurd hz (nI_ge e2 (by omega))) (fun _ => ?_)
        exact yes (Or.inr e2)
      · rw [if_neg (fun z => by rcases z with z | z; exact e1 z; exact e2 z)] at kk
        refine zw_icmp_ge 205 dX9_labels_194 (by decide) (fun _ => ?_) (fun hz => absurd (nI_le (by omega) (by omega)) hz)
        refine zw_iinc (nI (b + 1)) [_, _, _, _, _, _, _, _, _, _] dX9_labels_205 rfl (nI_1 b) rfl ?_
        refine zw_goto 116 dX9_labels_208 (by decide) ?_
        exact ih (b + 1) _ _ _ _ (by omega) hle kk
theorem m_labels {hs hf hx : Nat → Nat} {n hm : Nat} {x y : Int32} (h : isM w A I ab be) (hb : I 0 = nI 0) (hn : A 0 0 = nI n) (hn7 : n ≤ 7) (hh : A 0 (0 + 4) = nI hm) (hm8 : hm ≤ 8) (hH : ∀ k, k < hm → A 0 (0 + (109 + 3 * k)) = nI (hs k) ∧ hs k ≤ 3 ∧ A 0 (0 + (109 + 3 * k + 1)) = nI (hf k) ∧ hf k < n ∧ A 0 (0 + (109 + 3 * k + 2)) = nI (hx k) ∧ hx k < n) (kB : ¬ ((y = 1 ∧ ∃ r, r < n ∧ x = nI r) ∨ (x = 0 ∧ (y = 0 ∨ y = 2))) → ∀ w', isM w' (toldI A 0 0) I ab be → zOff 74 89 w w' → Q (some (.int (-10))) w') (k0 : x = 0 → y = 0 → ∀ w' B, mS 4 A B → isM w' B I ab be → zOff 74 89 w w' → Q (some (.int (nI (fwO A hs hf hx hm n).1))) w') (k1 : ∀ r, r < n → x = nI r → y = 1 → ∀ w' B, mS 4 A B → isM w' B I ab be → zOff 74 89 w w' → Q (some (.int (nI (mskF (fun b => decide (0 < (fwO A hs hf hx hm n).2 (7 * r + b))) 0 n 0)))) w') (k2 : x = 0 → y = 2 → ∀ w' B, mS 4 A B → isM w' B I ab be → zOff 74 89 w w' → Q (some (.int (if (fwO A hs hf hx hm n).1 = 0 then -1 else lbF (fwO A hs hf hx hm n).2 n 0 n (-1) 0))) w') : Zm (d + 4) mX9_labels 0 0 [.ref 74, .int x, .int y] w Q := by
  have bad : ¬ ((y = 1 ∧ ∃ r, r < n ∧ x = nI r) ∨ (x = 0 ∧ (y = 0 ∨ y = 2))) → Zw (d + 4) mX9_labels z0 29 [some (.ref 74), some (.int x), some (.int y), none, none, none, none, none, none, none] [] w Q := by
    intro q
    refine zw_aload_n dX9_labels_29 rfl ?_
    refine zw_cV0 dX9_labels_30 oX9_bad10 kX9_bad10 lX9_118 h.1 rfl (Nat.le_of_ble_eq_true rfl) rfl (m_bad10 hb (by decide) h (fun w1 h1 o1 => ?_))
    show Zw _ _ _ 33 [_, _, _, _, _, _, _, _, _, _] [_] _ _
    refine zw_ireturn .int dX9_labels_33 rfl rfl (Nat.le_refl _) (Nat.le_refl _) ?_
    exact kB q w1 h1 o1
  have go : ((y = 1 ∧ ∃ r, r < n ∧ x = nI r) ∨ (x = 0 ∧ (y = 0 ∨ y = 2))) → Zw (d + 4) mX9_labels z0 34 [some (.ref 74), some (.int x), some (.int y), none, none, none, none, none, none, none] [] w Q := by
    intro hq
    refine zw_aload_n dX9_labels_34 rfl ?_
    refine zw_cV0 dX9_labels_35 oX9_findWays kX9_findWays lX9_238 h.1 rfl (Nat.le_of_ble_eq_true rfl) rfl (m_findWays (hs := hs) (hf := hf) (hx := hx) h hb hn hn7 hh hm8 hH (fun w1 B hS h13 h1 o1 => ?_))
    show Zw _ _ _ 38 [_, _, _, _, _, _, _, _, _, _] [_] _ _
    have e0 := hS 0 (by decide)
    have hol : ∀ j, (fwO A hs hf hx hm n).2 j ≤ 35280 := fun j => (fwO_le hn7).2
    have hwl := (fwO_le (A := A) (hs := hs) (hf := hf) (hx := hx) (hm := hm) (j := 0) hn7).1
    have kk0 := fun a b => k0 a b w1 B hS h1 o1
    have kk1 := fun r a b c => k1 r a b c w1 B hS h1 o1
    have kk2 := fun a b => k2 a b w1 B hS h1 o1
    generalize fwO A hs hf hx hm n = F at h13 hol hwl kk0 kk1 kk2 ⊢
    refine zw_istore_n [_, _, _, _, _, _, _, _, _, _] dX9_labels_38 (Nat.le_of_ble_eq_true rfl) rfl ?_
    refine zw_aload_n dX9_labels_39 rfl ?_
    refine zw_iconst dX9_labels_40 0 (by decide) ?_
    refine zw_cV1 dX9_labels_41 oX9_get kX9_get lX9_62 h1.1 rfl (Nat.le_of_ble_eq_true rfl) rfl (m_get (b := 0) (j := 0) h1 hb (by omega) ?_)
    show Zw _ _ _ 44 [_, _, _, _, _, _, _, _, _, _] [_] _ _
    refine zw_top (y := nI n) (by rw [e0]; exact hn) ?_
    refine zw_istore [_, _, _, _, _, _, _, _, _, _] dX9_labels_44 (Nat.le_of_ble_eq_true rfl) rfl ?_
    refine zw_iload_n dX9_labels_46 rfl ?_
    rcases hq with ⟨ey, r, hr, ex⟩ | ⟨ex, ey | ey⟩
    · have hy0 : ¬ y = 0 := by rw [ey]; decide
      have kk := kk1 r hr ex ey
      subst ex
      refine zw_if_ne 52 dX9_labels_47 (by decide) (fun _ => ?_) (fun hz => absurd hz (hy0))
      refine zw_iload_n dX9_labels_52 rfl ?_
      refine zw_iconst dX9_labels_53 1 (by decide) ?_
      refine zw_icmp_ne 107 dX9_labels_54 (by decide) (fun hz => absurd (ey) hz) (fun _ => ?_)
      refine zw_iconst dX9_labels_57 0 (by decide) ?_
      refine zw_istore [_, _, _, _, _, _, _, _, _, _] dX9_labels_58 (Nat.le_of_ble_eq_true rfl) rfl ?_
      refine zw_iconst dX9_labels_60 0 (by decide) ?_
      refine zw_istore [_, _, _, _, _, _, _, _, _, _] dX9_labels_61 (Nat.le_of_ble_eq_true rfl) rfl ?_
      exact m_lb1 hn7 (by omega) h13 hol h1 n 0 0 (by omega) (by decide) kk
    · refine zw_if_ne 52 dX9_labels_47 (by decide) (fun hz => absurd (ey) hz) (fun _ => ?_)
      refine zw_iload_n dX9_labels_50 rfl ?_
      refine zw_ireturn .int dX9_labels_51 rfl rfl (Nat.le_refl _) (Nat.le_refl _) ?_
      exact kk0 ex ey
    · have hy0 : ¬ y = 0 := by rw [ey]; decide
      have hy1 : ¬ y = 1 := by rw [ey]; decide
      have kk := kk2 ex ey
      refine zw_if_ne 52 dX9_labels_47 (by decide) (fun _ => ?_) (fun hz => absurd hz (hy0))
      refine zw_iload_n dX9_labels_52 rfl ?_
      refine zw_iconst dX9_labels_53 1 (by decide) ?_
      refine zw_icmp_ne 107 dX9_labels_54 (by decide) (fun _ => ?_) (fun hz => absurd hz (hy1))
      refine zw_iconst dX9_labels_107 (-1) (by decide) ?_
      refine zw_istore [_, _, _, _, _, _, _, _, _, _] dX9_labels_108 (Nat.le_of_ble_eq_true rfl) rfl ?_
      refine zw_iconst dX9_labels_110 0 (by decide) ?_
      refine zw_istore [_, _, _, _, _, _, _, _, _, _] dX9_labels_111 (Nat.le_of_ble_eq_true rfl) rfl ?_
      refine zw_iconst dX9_labels_113 0 (by decide) ?_
      refine zw_istore [_, _, _, _, _, _, _, _, _, _] dX9_labels_114 (Nat.le_of_ble_eq_true rfl) rfl ?_
      by_cases ew : F.1 = 0
      · rw [if_pos ew] at kk
        by_cases en : n = 0
        · refine zw_iload dX9_labels_116 rfl ?_
          refine zw_iload dX9_labels_118 rfl ?_
          refine zw_icmp_ge 211 dX9_labels_120 (by decide) (fun _ => ?_) (fun hz => absurd (nI_le (b := 0) (by omega) (by omega)) hz)
          refine zw_iload dX9_labels_211 rfl ?_
          refine zw_ireturn .int dX9_labels_213 rfl rfl (Nat.le_refl _) (Nat.le_refl _) ?_
          exact kk
        · refine zw_iload dX9_labels_116 rfl ?_
          refine zw_iload dX9_labels_118 rfl ?_
          refine zw_icmp_ge 211 dX9_labels_120 (by decide) (fun hz => absurd hz (nI_ge (a := 0) (by omega) (by omega))) (fun _ => ?_)
          refine zw_iload_n dX9_labels_123 rfl ?_
          refine zw_if_le 211 dX9_labels_124 (by decide) (fun _ => ?_) (fun hz => absurd (by rw [ew]; decide) hz)
          refine zw_iload dX9_labels_211 rfl ?_
          refine zw_ireturn .int dX9_labels_213 rfl rfl (Nat.le_refl _) (Nat.le_refl _) ?_
          exact kk
      · rw [if_neg ew] at kk
        exact m_lb3 hn7 (by omega) hwl h13 hol h1 n 0 (-1) 0 _ _ (by omega) (by omega) kk
  refine zm_intro [_, _, _, _, _, _, _, _, _, _] oX9_labels (Nat.le_of_ble_eq_true rfl) rfl ?_
  refine zw_iload_n dX9_labels_0 rfl ?_
  refine zw_iconst dX9_labels_1 0 (by decide) ?_
  refine zw_iconst dX9_labels_2 2 (by decide) ?_
  refine zw_cS3 dX9_labels_3 oX9_in kX9_in lX9_66 (Nat.le_of_ble_eq_true rfl) rfl (m_in (fun p1 p2 => ?_) (fun q => ?_))
  · obtain ⟨j, hj, ej⟩ := nI_of2 (M := 2) (n := 2) (by decide) (Int32.not_lt.mpr p1) p2
    have hj3 : j = 0 ∨ j = 1 ∨ j = 2 := by omega
    show Zw _ _ _ 6 [_, _, _, _, _, _, _, _, _, _] [_] _ _
    refine zw_if_eq 29 dX9_labels_6 (by decide) (fun hz => absurd hz (by decide)) (fun _ => ?_)
    refine zw_iload_n dX9_labels_9 rfl ?_
    refine zw_iconst dX9_labels_10 1 (by decide) ?_
    by_cases ey : y = 1
    · refine zw_icmp_ne 25 dX9_labels_11 (by decide) (fun hz => absurd (ey) hz) (fun _ => ?_)
      refine zw_aload_n dX9_labels_14 rfl ?_
      refine zw_iload_n dX9_labels_15 rfl ?_
      refine zw_cV1 dX9_labels_16 oX9_isBox kX9_isBox lX9_95 h.1 rfl (Nat.le_of_ble_eq_true rfl) rfl (m_isBox (b := 0) h hb (by decide) hn (by omega) (fun r hr er => ?_) (fun q => ?_))
      · show Zw _ _ _ 19 [_, _, _, _, _, _, _, _, _, _] [_] _ _
        refine zw_if_ne 34 dX9_labels_19 (by decide) (fun _ => ?_) (fun hz => absurd hz (by decide))
        exact go (Or.inl ⟨ey, r, hr, er⟩)
      · show Zw _ _ _ 19 [_, _, _, _, _, _, _, _, _, _] [_] _ _
        refine zw_if_ne 34 dX9_labels_19 (by decide) (fun hz => absurd (by decide) hz) (fun _ => ?_)
        refine zw_goto 29 dX9_labels_22 (by decide) ?_
        refine bad (fun z => ?_)
        rcases z with ⟨_, r, hr, er⟩ | ⟨_, z | z⟩
        · exact q r hr er
        · rw [ey] at z; exact absurd z (by decide)
        · rw [ey] at z; exact absurd z (by decide)
    · have hy02 : y = 0 ∨ y = 2 := by
        rcases hj3 with rfl | rfl | rfl
        · exact Or.inl ej
        · exact absurd ej ey
        · exact Or.inr ej
      refine zw_icmp_ne 25 dX9_labels_11 (by decide) (fun _ => ?_) (fun hz => absurd hz (ey))
      refine zw_iload_n dX9_labels_25 rfl ?_
      by_cases ex : x = 0
      · refine zw_if_eq 34 dX9_labels_26 (by decide) (fun _ => ?_) (fun hz => absurd (ex) hz)
        exact go (Or.inr ⟨ex, hy02⟩)
      · refine zw_if_eq 34 dX9_labels_26 (by decide) (fun hz => absurd hz (ex)) (fun _ => ?_)
        exact bad (fun z => by rcases z with z | z; exact ey z.1; exact ex z.1)
  · show Zw _ _ _ 6 [_, _, _, _, _, _, _, _, _, _] [_] _ _
    refine zw_if_eq 29 dX9_labels_6 (by decide) (fun _ => ?_) (fun hz => absurd (by decide) hz)
    refine bad (fun z => q ?_)
    rcases z with ⟨z, _⟩ | ⟨_, z | z⟩
    · rw [z]; decide
    · rw [z]; decide
    · rw [z]; decide
end ZMOD28
