/-! ===== the Model: orders, fractions, means ===== -/
def swp (p : Nat → Nat) (a b : Nat) : Nat → Nat := fun i => if i = b then p a else if i = a then p b else p i
def kF (p : Nat → Nat) (j : Nat) : Nat := match j with
  | 0 => 0
  | j + 1 => if p (j + 1) < p j then kF p j else j + 1
def jF (p : Nat → Nat) (k j : Nat) : Nat := match j with
  | 0 => 0
  | j + 1 => if p (j + 1) < p k then jF p k j else j + 1
def rvF (m : Nat) (p : Nat → Nat) (lo hi : Nat) : Nat → Nat := match m with
  | 0 => p
  | m + 1 => if lo < hi then rvF m (swp p lo hi) (lo + 1) (hi - 1) else p
/-- the next order, if there is one -/
def nxtP (n : Nat) (p : Nat → Nat) : Option (Nat → Nat) := match kF p (n - 1) with
  | 0 => none
  | k + 1 => some (rvF 4 (swp p k (jF p k (n - 1))) (k + 1) (n - 1))
theorem kF_le {p : Nat → Nat} : ∀ j, kF p j ≤ j := by
  intro j
  induction j with
  | zero => exact Nat.le_refl _
  | succ j ih =>
    unfold kF
    split
    · omega
    · exact Nat.le_refl _
theorem jF_le {p : Nat → Nat} {k : Nat} : ∀ j, jF p k j ≤ j := by
  intro j
  induction j with
  | zero => exact Nat.le_refl _
  | succ j ih =>
    unfold jF
    split
    · omega
    · exact Nat.le_refl _
def mbF (c : Nat → Nat) (i k sum op : Nat) : Nat := match k with
  | 0 => sum
  | k + 1 => mbF c (i + 1) k (sum + op) (op / 10 * (10 - c i))
theorem mbF_le {c : Nat → Nat} {M : Nat} : ∀ (k i sum op : Nat), op ≤ M → mbF c i k sum op ≤ sum + k * M := by
  intro k
  induction k with
  | zero => intro i sum op _; exact Nat.le_add_right _ _
  | succ k ih =>
    intro i sum op h
    unfold mbF
    have h1 : op / 10 * (10 - c i) ≤ op := Nat.le_trans (Nat.mul_le_mul_left _ (Nat.sub_le _ _)) (Nat.div_mul_le_self op 10)
    have := ih (i + 1) (sum + op) _ (Nat.le_trans h1 h)
    rw [Nat.succ_mul]
    omega
theorem nI_m2 : ∀ m, m < 8 → nI (m + 1) - 2 = nI m - 1 := by decide +kernel
theorem p10 : ∀ n, n ≤ 7 → 10 ^ n ≤ 10000000 := by decide
section ZMOD23
variable {d : Nat} {w w' : ZW} {A : Nat → Nat → Int32} {I : Nat → Int32} {ab be : Int64} {Q : Option Value → ZW → Prop}
theorem m_firstL {n : Nat} {w0 : ZW} (hn7 : n ≤ 7) (hK : ∀ w' f, (∀ i, i < n → f i = nI i) → isM w' (va_up A 11 f) I ab be → zOff 74 89 w0 w' → Q none w') : ∀ (k i : Nat) (f : Nat → Int32) (w : ZW), i + k = n → (∀ j, j < i → f j = nI j) → isM w (va_up A 11 f) I ab be → zOff 74 89 w0 w → Zw d mX9_firstOrder z0 2 [some (.ref 74), some (.int (nI n)), some (.int (nI i))] [] w Q := by
  intro k
  induction k with
  | zero =>
    intro i f w hi hf h ho
    refine zw_iload_n dX9_firstOrder_2 rfl ?_
    refine zw_iload_n dX9_firstOrder_3 rfl ?_
    refine zw_icmp_ge 20 dX9_firstOrder_4 (by decide) (fun _ => ?_) (fun hz => absurd (nI_le (by omega) (by omega)) hz)
    refine zw_return dX9_firstOrder_20 rfl (Nat.le_refl _) (Nat.le_refl _) ?_
    exact hK w f (fun j hj => hf j (by omega)) h ho
  | succ k ih =>
    intro i f w hi hf h ho
    refine zw_iload_n dX9_firstOrder_2 rfl ?_
    refine zw_iload_n dX9_firstOrder_3 rfl ?_
    refine zw_icmp_ge 20 dX9_firstOrder_4 (by decide) (fun hz => absurd hz (nI_ge (by omega) (by omega))) (fun _ => ?_)
    refine zw_aload_n dX9_firstOrder_7 rfl ?_
    refine zw_get dX9_firstOrder_8 fX9_45 h.1 rfl ?_
    refine zw_iload_n dX9_firstOrder_11 rfl ?_
    refine zw_iload_n dX9_firstOrder_12 rfl ?_
    refine zw_iast dX9_firstOrder_13 h.q11 (vp_in_nI (n := i) (N := 7) (by omega) (by decide)) ?_
    rw [nI_clamp (by omega)]
    refine zw_iinc (nI (i + 1)) [_, _, _] dX9_firstOrder_14 rfl (nI_1 i) rfl ?_
    refine zw_goto 2 dX9_firstOrder_17 (by decide) ?_
    refine ih (i + 1) _ _ (by omega) (fun j hj => ?_) h.b11 (ho.tr (zOff.pt (by decide) (by decide)))
    by_cases e : j = i
    · subst e; exact pk_us
    · exact (pk_un e).trans (hf j (by omega))
theorem m_firstOrder {n : Nat} (hn7 : n ≤ 7) (h : isM w A I ab be) (k : ∀ w' f, (∀ i, i < n → f i = nI i) → isM w' (va_up A 11 f) I ab be → zOff 74 89 w w' → Q none w') : Zm d mX9_firstOrder 0 0 [.ref 74, .int (nI n)] w Q := by
  refine zm_intro [_, _, _] oX9_firstOrder (Nat.le_of_ble_eq_true rfl) rfl ?_
  refine zw_iconst dX9_firstOrder_0 0 (by decide) ?_
  refine zw_istore_n [_, _, _] dX9_firstOrder_1 (Nat.le_of_ble_eq_true rfl) rfl ?_
  exact m_firstL (w0 := w) hn7 k n 0 _ w (by omega) (fun j hj => absurd hj (by omega)) (h.sf 11) zOff.rf
theorem m_nxK {n : Nat} {p : Nat → Nat} {V : Nat} (hn7 : n ≤ 7) (hp : ∀ i, i < n → p i < 100) (hf : ∀ i, i < n → A 11 i = nI (p i)) (h : isM w A I ab be) (hK : Zw d mX9_nextOrder z0 31 [some (.ref 74), some (.int (nI n)), some (.int (nI V - 1)), none, none, none, none] [] w Q) : ∀ (j : Nat), j < n → kF p j = V → Zw d mX9_nextOrder z0 4 [some (.ref 74), some (.int (nI n)), some (.int (nI j - 1)), none, none, none, none] [] w Q := by
  intro j
  induction j with
  | zero =>
    intro hj hE
    have hE : 0 = V := hE
    subst hE
    refine zw_iload_n dX9_nextOrder_4 rfl ?_
    refine zw_if_lt 31 dX9_nextOrder_5 (by decide) (fun _ => ?_) (fun hz => absurd (by decide) hz)
    exact hK
  | succ j ih =>
    intro hj hE
    unfold kF at hE
    have b1 := hp j (by omega)
    have b2 := hp (j + 1) (by omega)
    rw [nI_pred]
    refine zw_iload_n dX9_nextOrder_4 rfl ?_
    refine zw_if_lt 31 dX9_nextOrder_5 (by decide) (fun hz => absurd hz (nI_pos (by omega))) (fun _ => ?_)
    refine zw_aload_n dX9_nextOrder_8 rfl ?_
    refine zw_get dX9_nextOrder_9 fX9_45 h.1 rfl ?_
    refine zw_iload_n dX9_nextOrder_12 rfl ?_
    refine zw_iald dX9_nextOrder_13 h.q11 (vp_in_nI (n := j) (N := 7) (by omega) (by decide)) ?_
    rw [nI_clamp (by omega), hf j (by omega)]
    refine zw_aload_n dX9_nextOrder_14 rfl ?_
    refine zw_get dX9_nextOrder_15 fX9_45 h.1 rfl ?_
    refine zw_iload_n dX9_nextOrder_18 rfl ?_
    refine zw_iconst dX9_nextOrder_19 1 (by decide) ?_
    refine zw_iadd dX9_nextOrder_20 ?_
    refine zw_top (nI_1 j) ?_
    refine zw_iald dX9_nextOrder_21 h.q11 (vp_in_nI (n := j + 1) (N := 7) (by omega) (by decide)) ?_
    rw [nI_clamp (by omega), hf (j + 1) (by omega)]
    by_cases e : p (j + 1) < p j
    · rw [if_pos e] at hE
      refine zw_icmp_le 31 dX9_nextOrder_22 (by decide) (fun hz => absurd hz (nI_ge e (by omega))) (fun _ => ?_)
      refine zw_iinc (nI j - 1) [_, _, _, _, _, _, _] dX9_nextOrder_25 rfl (sub_1 _) rfl ?_
      refine zw_goto 4 dX9_nextOrder_28 (by decide) ?_
      exact ih (by omega) hE
    · rw [if_neg e] at hE
      subst hE
      rw [nI_pred] at hK
      refine zw_icmp_le 31 dX9_nextOrder_22 (by decide) (fun _ => ?_) (fun hz => absurd (nI_le (by omega) (by omega)) hz)
      exact hK
theorem m_nxJ {n k : Nat} {p : Nat → Nat} {V : Nat} (hn7 : n ≤ 7) (hp : ∀ i, i < n → p i < 100) (hkn : k < n) (hf : ∀ i, i < n → A 11 i = nI (p i)) (h : isM w A I ab be) (hK : Zw d mX9_nextOrder z0 62 [some (.ref 74), some (.int (nI n)), some (.int (nI k)), some (.int (nI V)), none, none, none] [] w Q) : ∀ (j : Nat), j < n → k ≤ j → jF p k j = V → Zw d mX9_nextOrder z0 41 [some (.ref 74), some (.int (nI n)), some (.int (nI k)), some (.int (nI j)), none, none, none] [] w Q := by
  have b1 := hp k hkn
  intro j
  induction j with
  | zero =>
    intro hj hkj hE
    have hE : 0 = V := hE
    subst hE
    have e : k = 0 := by omega
    subst e
    refine zw_aload_n dX9_nextOrder_41 rfl ?_
    refine zw_get dX9_nextOrder_42 fX9_45 h.1 rfl ?_
    refine zw_iload_n dX9_nextOrder_45 rfl ?_
    refine zw_iald dX9_nextOrder_46 h.q11 (vp_in_nI (n := 0) (N := 7) (by omega) (by decide)) ?_
    rw [nI_clamp (by omega)]
    refine zw_aload_n dX9_nextOrder_47 rfl ?_
    refine zw_get dX9_nextOrder_48 fX9_45 h.1 rfl ?_
    refine zw_iload_n dX9_nextOrder_51 rfl ?_
    refine zw_iald dX9_nextOrder_52 h.q11 (vp_in_nI (n := 0) (N := 7) (by omega) (by decide)) ?_
    rw [nI_clamp (by omega)]
    refine zw_icmp_ge 62 dX9_nextOrder_53 (by decide) (fun _ => ?_) (fun hz => absurd (Int32.le_refl _) hz)
    exact hK
  | succ j ih =>
    intro hj hkj hE
    unfold jF at hE
    have b2 := hp (j + 1) (by omega)
    refine zw_aload_n dX9_nextOrder_41 rfl ?_
    refine zw_get dX9_nextOrder_42 fX9_45 h.1 rfl ?_
    refine zw_iload_n dX9_nextOrder_45 rfl ?_
    refine zw_iald dX9_nextOrder_46 h.q11 (vp_in_nI (n := j + 1) (N := 7) (by omega) (by decide)) ?_
    rw [nI_clamp (by omega), hf (j + 1) (by omega)]
    refine zw_aload_n dX9_nextOrder_47 rfl ?_
    refine zw_get dX9_nextOrder_48 fX9_45 h.1 rfl ?_
    refine zw_iload_n dX9_nextOrder_51 rfl ?_
    refine zw_iald dX9_nextOrder_52 h.q11 (vp_in_nI (n := k) (N := 7) (by omega) (by decide)) ?_
    rw [nI_clamp (by omega), hf k hkn]
    by_cases e : p (j + 1) < p k
    · rw [if_pos e] at hE
      have : k ≠ j + 1 := fun z => by rw [z] at e; omega
      refine zw_icmp_ge 62 dX9_nextOrder_53 (by decide) (fun hz => absurd hz (nI_ge e (by omega))) (fun _ => ?_)
      refine zw_iinc (nI j) [_, _, _, _, _, _, _] dX9_nextOrder_56 rfl ((sub_1 _).trans (nI_pred j)) rfl ?_
      refine zw_goto 41 dX9_nextOrder_59 (by decide) ?_
      exact ih (by omega) (by omega) hE
    · rw [if_neg e] at hE
      subst hE
      refine zw_icmp_ge 62 dX9_nextOrder_53 (by decide) (fun _ => ?_) (fun hz => absurd (nI_le (by omega) (by omega)) hz)
      exact hK
theorem m_nxR {n : Nat} {ok : Option Value} {xj : Int32} {w0 : ZW} {q1 : Nat → Nat} (hn7 : n ≤ 7) (hK : ∀ w' f, (∀ i, i < n → f i = nI (q1 i)) → isM w' (va_up A 11 f) I ab be → zOff 74 89 w0 w' → Q (some (.int 1)) w') : ∀ (m lo hi : Nat) (q : Nat → Nat) (f : Nat → Int32) (w : ZW) (ov : Option Value), hi < n → hi ≤ lo + 2 * m → lo ≤ n → rvF m q lo hi = q1 → (∀ i, i < n → f i = nI (q i)) → isM w (va_up A 11 f) I ab be → zOff 74 89 w0 w → Zw d mX9_nextOrder z0 100 [some (.ref 74), some (.int (nI n)), ok, some (.int xj), ov, some (.int (nI lo)), some (.int (nI hi))] [] w Q := by
  intro m
  induction m with
  | zero =>
    intro lo hi q f w ov hh hm hl hE hf h ho
    have hE : q = q1 := hE
    subst hE
    refine zw_iload dX9_nextOrder_100 rfl ?_
    refine zw_iload dX9_nextOrder_102 rfl ?_
    refine zw_icmp_ge 148 dX9_nextOrder_104 (by decide) (fun _ => ?_) (fun hz => absurd (nI_le (by omega) (by omega)) hz)
    refine zw_iconst dX9_nextOrder_148 1 (by decide) ?_
    refine zw_ireturn .boolean dX9_nextOrder_149 rfl rfl (Nat.le_refl _) (Nat.le_refl _) ?_
    exact hK w f hf h ho
  | succ m ih =>
    intro lo hi q f w ov hh hm hl hE hf h ho
    unfold rvF at hE
    by_cases e : lo < hi
    · rw [if_pos e] at hE
      have hlo := vp_in_nI (n := lo) (N := 7) (by omega) (by decide)
      have hhi := vp_in_nI (n := hi) (N := 7) (by omega) (by decide)
      refine zw_iload dX9_nextOrder_100 rfl ?_
      refine zw_iload dX9_nextOrder_102 rfl ?_
      refine zw_icmp_ge 148 dX9_nextOrder_104 (by decide) (fun hz => absurd hz (nI_ge e (by omega))) (fun _ => ?_)
      refine zw_aload_n dX9_nextOrder_107 rfl ?_
      refine zw_get dX9_nextOrder_108 fX9_45 h.1 rfl ?_
      refine zw_iload dX9_nextOrder_111 rfl ?_
      refine zw_iald dX9_nextOrder_113 h.q11 hlo ?_
      rw [nI_clamp (by omega)]
      refine zw_istore [_, _, _, _, _, _, _] dX9_nextOrder_114 (Nat.le_of_ble_eq_true rfl) rfl ?_
      refine zw_aload_n dX9_nextOrder_116 rfl ?_
      refine zw_get dX9_nextOrder_117 fX9_45 h.1 rfl ?_
      refine zw_iload dX9_nextOrder_120 rfl ?_
      refine zw_aload_n dX9_nextOrder_122 rfl ?_
      refine zw_get dX9_nextOrder_123 fX9_45 h.1 rfl ?_
      refine zw_iload dX9_nextOrder_126 rfl ?_
      refine zw_iald dX9_nextOrder_128 h.q11 hhi ?_
      rw [nI_clamp (by omega)]
      refine zw_iast dX9_nextOrder_129 h.q11 hlo ?_
      rw [nI_clamp (by omega)]
      have h1 : isM _ (va_up A 11 (upd f lo (f hi))) I ab be := h.b11
      refine zw_aload_n dX9_nextOrder_130 rfl ?_
      refine zw_get dX9_nextOrder_131 fX9_45 h1.1 rfl ?_
      refine zw_iload dX9_nextOrder_134 rfl ?_
      refine zw_iload dX9_nextOrder_136 rfl ?_
      refine zw_iast dX9_nextOrder_138 h1.q11 hhi ?_
      rw [nI_clamp (by omega)]
      refine zw_iinc (nI (lo + 1)) [_, _, _, _, _, _, _] dX9_nextOrder_139 rfl (nI_1 lo) rfl ?_
      refine zw_iinc (nI (hi - 1)) [_, _, _, _, _, _, _] dX9_nextOrder_142 rfl ((sub_1 _).trans (by obtain ⟨v, rfl⟩ : ∃ v, hi = v + 1 := ⟨hi - 1, by omega⟩; exact nI_pred v)) rfl ?_
      refine zw_goto 100 dX9_nextOrder_145 (by decide) ?_
      refine ih (lo + 1) (hi - 1) _ _ _ _ (by omega) (by omega) (by omega) hE (fun i hi' => ?_) h1.b11 ((ho.tr (zOff.pt (by decide) (by decide))).tr (zOff.pt (by decide) (by decide)))
      show upd (upd f lo (f hi)) hi (f lo) i = nI (swp q lo hi i)
      unfold swp upd
      by_cases e1 : i = hi
      · rw [if_pos e1, if_pos e1]; exact hf lo (by omega)
      · rw [if_neg e1, if_neg e1]
        by_cases e2 : i = lo
        · rw [if_pos e2, if_pos e2]; exact hf hi (by omega)
        · rw [if_neg e2, if_neg e2]; exact hf i hi'
    · rw [if_neg e] at hE
      subst hE
      refine zw_iload dX9_nextOrder_100 rfl ?_
      refine zw_iload dX9_nextOrder_102 rfl ?_
      refine zw_icmp_ge 148 dX9_nextOrder_104 (by decide) (fun _ => ?_) (fun hz => absurd (nI_le (by omega) (by omega)) hz)
      refine zw_iconst dX9_nextOrder_148 1 (by decide) ?_
      refine zw_ireturn .boolean dX9_nextOrder_149 rfl rfl (Nat.le_refl _) (Nat.le_refl _) ?_
      exact hK w f hf h ho
theorem m_nextOrder {n : Nat} {p : Nat → Nat} (hn7 : n ≤ 7) (hp : ∀ i, i < n → p i < 100) (hf : ∀ i, i < n → A 11 i = nI (p i)) (h : isM w A I ab be) (k0 : nxtP n p = none → Q (some (.int 0)) w) (k1 : ∀ q, nxtP n p = some q → ∀ w' f, (∀ i, i < n → f i = nI (q i)) → isM w' (va_up A 11 f) I ab be → zOff 74 89 w w' → Q (some (.int 1)) w') : Zm d mX9_nextOrder 0 0 [.ref 74, .int (nI n)] w Q := by
  rcases Nat.eq_zero_or_pos n with h0 | h0
  · subst h0
    refine zm_intro [_, _, _, _, _, _, _] oX9_nextOrder (Nat.le_of_ble_eq_true rfl) rfl ?_
    refine zw_iload_n dX9_nextOrder_0 rfl ?_
    refine zw_iconst dX9_nextOrder_1 2 (by decide) ?_
    refine zw_isub dX9_nextOrder_2 ?_
    refine zw_istore_n [_, _, _, _, _, _, _] dX9_nextOrder_3 (Nat.le_of_ble_eq_true rfl) rfl ?_
    refine zw_iload_n dX9_nextOrder_4 rfl ?_
    refine zw_if_lt 31 dX9_nextOrder_5 (by decide) (fun _ => ?_) (fun hz => absurd (by decide) hz)
    refine zw_iload_n dX9_nextOrder_31 rfl ?_
    refine zw_if_ge 37 dX9_nextOrder_32 (by decide) (fun hz => absurd hz (by decide)) (fun _ => ?_)
    refine zw_iconst dX9_nextOrder_35 0 (by decide) ?_
    refine zw_ireturn .boolean dX9_nextOrder_36 rfl rfl (Nat.le_refl _) (Nat.le_refl _) ?_
    exact k0 rfl
  · obtain ⟨m, rfl⟩ : ∃ m, n = m + 1 := ⟨n - 1, by omega⟩
    refine zm_intro [_, _, _, _, _, _, _] oX9_nextOrder (Nat.le_of_ble_eq_true rfl) rfl ?_
    refine zw_iload_n dX9_nextOrder_0 rfl ?_
    refine zw_iconst dX9_nextOrder_1 2 (by decide) ?_
    refine zw_isub dX9_nextOrder_2 ?_
    refine zw_top (nI_m2 m (by omega)) ?_
    refine zw_istore_n [_, _, _, _, _, _, _] dX9_nextOrder_3 (Nat.le_of_ble_eq_true rfl) rfl ?_
    refine m_nxK hn7 hp hf h ?_ m (by omega) rfl
    have hle := kF_le (p := p) m
    rcases hq : kF p m with _ | k
    · refine zw_iload_n dX9_nextOrder_31 rfl ?_
      refine zw_if_ge 37 dX9_nextOrder_32 (by decide) (fun hz => absurd hz (by decide)) (fun _ => ?_)
      refine zw_iconst dX9_nextOrder_35 0 (by decide) ?_
      refine zw_ireturn .boolean dX9_nextOrder_36 rfl rfl (Nat.le_refl _) (Nat.le_refl _) ?_
      exact k0 (by unfold nxtP; rw [Nat.add_sub_cancel, hq])
    · have hk1 := k1 (rvF 4 (swp p k (jF p k m)) (k + 1) m) (by unfold nxtP; rw [Nat.add_sub_cancel, hq])
      rw [nI_pred]
      have hjl := jF_le (p := p) (k := k) m
      refine zw_iload_n dX9_nextOrder_31 rfl ?_
      refine zw_if_ge 37 dX9_nextOrder_32 (by decide) (fun _ => ?_) (fun hz => absurd (nI_pos' (by omega)) hz)
      refine zw_iload_n dX9_nextOrder_37 rfl ?_
      refine zw_iconst dX9_nextOrder_38 1 (by decide) ?_
      refine zw_isub dX9_nextOrder_39 ?_
      refine zw_top (nI_pred m) ?_
      refine zw_istore_n [_, _, _, _, _, _, _] dX9_nextOrder_40 (Nat.le_of_ble_eq_true rfl) rfl ?_
      refine m_nxJ (k := k) (V := jF p k m) hn7 hp (by omega) hf h ?_ m (by omega) (by omega) rfl
      generalize jF p k m = j at hk1 hjl ⊢
      have hkk := vp_in_nI (n := k) (N := 7) (by omega) (by decide)
      have hjj := vp_in_nI (n := j) (N := 7) (by omega) (by decide)
      have hs := h.sf 11
      refine zw_aload_n dX9_nextOrder_62 rfl ?_
      refine zw_get dX9_nextOrder_63 fX9_45 h.1 rfl ?_
      refine zw_iload_n dX9_nextOrder_66 rfl ?_
      refine zw_iald dX9_nextOrder_67 h.q11 hkk ?_
      rw [nI_clamp (by omega)]
      refine zw_istore [_, _, _, _, _, _, _] dX9_nextOrder_68 (Nat.le_of_ble_eq_true rfl) rfl ?_
      refine zw_aload_n dX9_nextOrder_70 rfl ?_
      refine zw_get dX9_nextOrder_71 fX9_45 h.1 rfl ?_
      refine zw_iload_n dX9_nextOrder_74 rfl ?_
      refine zw_aload_n dX9_nextOrder_75 rfl ?_
      refine zw_get dX9_nextOrder_76 fX9_45 h.1 rfl ?_
      refine zw_iload_n dX9_nextOrder_79 rfl ?_
      refine zw_iald dX9_nextOrder_80 h.q11 hjj ?_
      rw [nI_clamp (by omega)]
      refine zw_iast dX9_nextOrder_81 h.q11 hkk ?_
      rw [nI_clamp (by omega)]
      have h1 : isM _ (va_up A 11 (upd (A 11) k (A 11 j))) I ab be := h.a11
      refine zw_aload_n dX9_nextOrder_82 rfl ?_
      refine zw_get dX9_nextOrder_83 fX9_45 h1.1 rfl ?_
      refine zw_iload_n dX9_nextOrder_86 rfl ?_
      refine zw_iload dX9_nextOrder_87 rfl ?_
      refine zw_iast dX9_nextOrder_89 h1.q11 hjj ?_
      rw [nI_clamp (by omega)]
      refine zw_iload_n dX9_nextOrder_90 rfl ?_
      refine zw_iconst dX9_nextOrder_91 1 (by decide) ?_
      refine zw_iadd dX9_nextOrder_92 ?_
      refine zw_top (nI_1 k) ?_
      refine zw_istore [_, _, _, _, _, _, _] dX9_nextOrder_93 (Nat.le_of_ble_eq_true rfl) rfl ?_
      refine zw_iload_n dX9_nextOrder_95 rfl ?_
      refine zw_iconst dX9_nextOrder_96 1 (by decide) ?_
      refine zw_isub dX9_nextOrder_97 ?_
      refine zw_top (nI_pred m) ?_
      refine zw_istore [_, _, _, _, _, _, _] dX9_nextOrder_98 (Nat.le_of_ble_eq_true rfl) rfl ?_
      refine m_nxR (w0 := w) (A := A) (q1 := rvF 4 (swp p k j) (k + 1) m) hn7 hk1 4 (k + 1) m (swp p k j) _ _ _ (by omega) (by omega) (by omega) rfl (fun i hi' => ?_) h1.b11 ((zOff.pt (by decide) (by decide)).tr (zOff.pt (by decide) (by decide)))
      show upd (upd (A 11) k (A 11 j)) j (A 11 k) i = nI (swp p k j i)
      unfold swp upd
      by_cases e1 : i = j
      · rw [if_pos e1, if_pos e1]; exact hf k (by omega)
      · rw [if_neg e1, if_neg e1]
        by_cases e2 : i = k
        · rw [if_pos e2, if_pos e2]; exact hf j (by omega)
        · rw [if_neg e2, if_neg e2]; exact hf i hi'
end ZMOD23
