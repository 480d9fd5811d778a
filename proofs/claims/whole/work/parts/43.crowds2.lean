/-! ===== Crowds: lookAt, shortest, leastFor ===== -/
section ZCROWD2
variable {d n p : Nat} {w : ZW} {re : Nat → Nat} {li : Nat → Int32} {C : Nat → Nat × (Nat → Int32)} {Q : Option Value → ZW → Prop}
theorem reachN_low {g : Nat → Nat} {i s : Nat} (h : s < 2 ^ i) : reachN g (i + 1) s = reachN g i s := by
  show (if 2 ^ i ≤ s then _ else _) = _
  rw [if_neg (by omega)]
theorem reachN_high {g : Nat → Nat} {i l : Nat} : reachN g (i + 1) (l + 2 ^ i) = reachN g i l ||| g i := by
  show (if 2 ^ i ≤ l + 2 ^ i then reachN g i (l + 2 ^ i - 2 ^ i) ||| g i else _) = _
  rw [if_pos (by omega), Nat.add_sub_cancel]
theorem cMask_lt {b : Nat} (h : (C 1).1 ≤ 7) : cMask C b < 128 := by
  have := mskF_lt (fun l => cFit C l b) (C 1).1 0 0 (by decide)
  rw [Nat.zero_add] at this
  exact Nat.lt_of_lt_of_le this (pow_c h)
theorem cr_look1 {w0 : ZW} {i m : Nat} (hm : m < 128) (hi : i < n) (hg : ∀ j, j < i → cMask C j < 128) (em : m = cMask C i) (hK : ∀ w re o4, isCr w n re li → zOff 60 63 w0 w → (∀ s, s < 2 ^ (i + 1) → re s = reachN (cMask C) (i + 1) s) → Zw (d + 4) mX0_lookAt z0 86 [some (.ref 60), some (.ref p), some (.int (nI i)), some (.int (nI m)), o4] [] w Q) : ∀ (k l : Nat) (w : ZW) (re : Nat → Nat), l + k = 2 ^ i → isCr w n re li → zOff 60 63 w0 w → (∀ s, s < 2 ^ i + l → re s = reachN (cMask C) (i + 1) s) → Zw (d + 4) mX0_lookAt z0 52 [some (.ref 60), some (.ref p), some (.int (nI i)), some (.int (nI m)), some (.int (nI l))] [] w Q := by
  intro k
  induction k with
  | zero =>
    intro l w re hl h ho hz
    have h7 := h.2.2.2
    have hp := pow_c (c := i) (by omega)
    refine zw_iload dX0_lookAt_52 rfl ?_
    refine zw_iconst dX0_lookAt_54 1 (by decide) ?_
    refine zw_iload_n dX0_lookAt_55 rfl ?_
    refine zw_ishl dX0_lookAt_56 ?_
    refine zw_top (shl_I i (by omega)) ?_
    refine zw_icmp_ge 86 dX0_lookAt_57 (by decide) (fun _ => ?_) (fun hz => absurd (nI_le (by omega) (by omega)) hz)
    refine hK w re _ h ho (fun s hs => hz s ?_)
    rw [Nat.pow_succ] at hs
    omega
  | succ k ih =>
    intro l w re hl h ho hz
    have h7 := h.2.2.2
    have hp := pow_c (c := i + 1) (by omega)
    rw [Nat.pow_succ] at hp
    have hr : re l = reachN (cMask C) i l := by rw [hz l (by omega), reachN_low (by omega)]
    have hr2 : re l < 128 := by rw [hr]; exact reachN_lt i l hg
    refine zw_iload dX0_lookAt_52 rfl ?_
    refine zw_iconst dX0_lookAt_54 1 (by decide) ?_
    refine zw_iload_n dX0_lookAt_55 rfl ?_
    refine zw_ishl dX0_lookAt_56 ?_
    refine zw_top (shl_I i (by omega)) ?_
    refine zw_icmp_ge 86 dX0_lookAt_57 (by decide) (fun hz => absurd hz (nI_ge (by omega) (by omega))) (fun _ => ?_)
    refine zw_aload_n dX0_lookAt_60 rfl ?_
    refine zw_get dX0_lookAt_61 fX0_9 h.1 rfl ?_
    refine zw_iload dX0_lookAt_64 rfl ?_
    refine zw_iconst dX0_lookAt_66 1 (by decide) ?_
    refine zw_iload_n dX0_lookAt_67 rfl ?_
    refine zw_ishl dX0_lookAt_68 ?_
    refine zw_ior dX0_lookAt_69 ?_
    refine zw_top (or_bit i (by omega) l (by omega)) ?_
    refine zw_aload_n dX0_lookAt_70 rfl ?_
    refine zw_get dX0_lookAt_71 fX0_9 h.1 rfl ?_
    refine zw_iload dX0_lookAt_74 rfl ?_
    refine zw_iald dX0_lookAt_76 h.2.1 (vp_in_nI (by omega) (by decide)) ?_
    rw [nI_clamp (by omega)]
    refine zw_iload_n dX0_lookAt_77 rfl ?_
    refine zw_ior dX0_lookAt_78 ?_
    refine zw_top (or_I (re l) hr2 m hm) ?_
    refine zw_iast dX0_lookAt_79 h.2.1 (vp_in_nI (by omega) (by decide)) ?_
    rw [nI_clamp (by omega)]
    refine zw_iinc (nI (l + 1)) [_, _, _, _, _] dX0_lookAt_80 rfl (nI_1 l) rfl ?_
    refine zw_goto 52 dX0_lookAt_83 (by decide) ?_
    have e : (upd (fun i => nI (re i)) (l + 2 ^ i) (nI (re l ||| m))) = fun j => nI (va_up re (l + 2 ^ i) (re l ||| m) j) := by
      funext j
      by_cases hj : j = l + 2 ^ i
      · subst hj; simp [va_up, upd]
      · simp [va_up, upd, hj]
    rw [e]
    refine ih (l + 1) _ (va_up re (l + 2 ^ i) (re l ||| m)) (by omega) ⟨h.1.put (by decide), h.2.1.self, h.2.2.1.put (by decide), h7⟩ (ho.tr (zOff.pt (by decide) (by decide))) (fun s hs => ?_)
    by_cases e2 : s = l + 2 ^ i
    · subst e2
      simp only [va_up, if_pos]
      rw [reachN_high, hr, em]
    · simp only [va_up, if_neg e2]
      exact hz s (by omega)
theorem cr_look2 {w0 : ZW} (hc : isC w0 p C) (hp13 : p + 13 ≤ 60) (hk : okK (C 1)) (hn : n = (C 0).1) (hK : ∀ w re o2 o3 o4, isCr w n re li → zOff 60 63 w0 w → (∀ s, s < 2 ^ n → re s = reachN (cMask C) n s) → Zw (d + 4) mX0_lookAt z0 92 [some (.ref 60), some (.ref p), o2, o3, o4] [] w Q) : ∀ (k i : Nat) (w : ZW) (re : Nat → Nat) (o3 o4 : Option Value), i + k = n → isCr w n re li → zOff 60 63 w0 w → (∀ s, s < 2 ^ i → re s = reachN (cMask C) i s) → Zw (d + 4) mX0_lookAt z0 27 [some (.ref 60), some (.ref p), some (.int (nI i)), o3, o4] [] w Q := by
  have hl7 : (C 1).1 ≤ 7 := hc.2.2.1.2.2.1
  intro k
  induction k with
  | zero =>
    intro i w re o3 o4 hi h ho hz
    have h7 := h.2.2.2
    have e : i = n := by omega
    subst e
    have hp := pow_c (c := i) (by omega)
    refine zw_iload_n dX0_lookAt_27 rfl ?_
    refine zw_bipush dX0_lookAt_28 7 (by decide) ?_
    refine zw_icmp_ge 92 dX0_lookAt_30 (by decide) (fun hb => ?_) (fun hb => ?_)
    · exact hK w re _ _ _ h ho hz
    · refine zw_iconst dX0_lookAt_33 1 (by decide) ?_
      refine zw_iload_n dX0_lookAt_34 rfl ?_
      refine zw_ishl dX0_lookAt_35 ?_
      have hi7 : i < 7 := by
        rcases Nat.lt_or_ge i 7 with q | q
        · exact q
        · exact absurd (nI_le (a := 7) (b := i) q (by omega)) hb
      refine zw_top (shl_I i (by omega)) ?_
      refine zw_aload_n dX0_lookAt_36 rfl ?_
      refine zw_get dX0_lookAt_37 fX0_37 h.1 rfl ?_
      refine zw_icmp_ge 92 dX0_lookAt_40 (by decide) (fun _ => ?_) (fun hz => absurd (nI_le (Nat.le_refl _) (by omega)) hz)
      exact hK w re _ _ _ h ho hz
  | succ k ih =>
    intro i w re o3 o4 hi h ho hz
    have h7 := h.2.2.2
    have hp := pow_c (c := n) (by omega)
    have hlt : 2 ^ i < 2 ^ n := Nat.pow_lt_pow_right (by decide) (by omega)
    have hcw := hc.off ho (by omega)
    refine zw_iload_n dX0_lookAt_27 rfl ?_
    refine zw_bipush dX0_lookAt_28 7 (by decide) ?_
    refine zw_icmp_ge 92 dX0_lookAt_30 (by decide) (fun hz => absurd hz (nI_ge (b := 7) (by omega) (by decide))) (fun _ => ?_)
    refine zw_iconst dX0_lookAt_33 1 (by decide) ?_
    refine zw_iload_n dX0_lookAt_34 rfl ?_
    refine zw_ishl dX0_lookAt_35 ?_
    refine zw_top (shl_I i (by omega)) ?_
    refine zw_aload_n dX0_lookAt_36 rfl ?_
    refine zw_get dX0_lookAt_37 fX0_37 h.1 rfl ?_
    refine zw_icmp_ge 92 dX0_lookAt_40 (by decide) (fun hz => absurd hz (nI_ge hlt (by omega))) (fun _ => ?_)
    refine zw_aload_n dX0_lookAt_43 rfl ?_
    refine zw_iload_n dX0_lookAt_44 rfl ?_
    refine zw_cV1 dX0_lookAt_45 oX1_lidsFor kX1_lidsFor lX0_41 hcw.1 rfl (Nat.le_of_ble_eq_true rfl) rfl (c_lidsFor hcw hk (by omega) ?_)
    show Zw _ _ _ 48 [_, _, _, _, _] [_] _ _
    refine zw_istore_n [_, _, _, _, _] dX0_lookAt_48 (Nat.le_of_ble_eq_true rfl) rfl ?_
    refine zw_iconst dX0_lookAt_49 0 (by decide) ?_
    refine zw_istore [_, _, _, _, _] dX0_lookAt_50 (Nat.le_of_ble_eq_true rfl) rfl ?_
    refine cr_look1 (w0 := w0) (m := cMask C i) (cMask_lt hl7) (by omega) (fun j _ => cMask_lt hl7) rfl (fun w re o4 h ho hz => ?_) (2 ^ i) 0 w re (by omega) h ho (fun s hs => by rw [hz s (by omega), reachN_low (by omega)])
    refine zw_iinc (nI (i + 1)) [_, _, _, _, _] dX0_lookAt_86 rfl (nI_1 i) rfl ?_
    refine zw_goto 27 dX0_lookAt_89 (by decide) ?_
    exact ih (i + 1) w re _ _ (by omega) h ho hz
/-- the crowds' cells, whatever they hold -/
def isCq (w : ZW) (v : Int32) (re : Nat → Nat) (li : Nat → Int32) : Prop := zat w 60 (.inr (0, [.ref 61, .ref 62, .int v])) ∧ zat w 61 (.inl (0, 128, fun i => nI (re i))) ∧ zat w 62 (.inl (2, 128, li))
theorem isCq.off {w w' : ZW} {v : Int32} {lo hi : Nat} (h : isCq w v re li) (ho : zOff lo hi w w') (ht : 63 ≤ lo ∨ hi ≤ 60) : isCq w' v re li := ⟨h.1.off ho (by omega), h.2.1.off ho (by omega), h.2.2.off ho (by omega)⟩
theorem isCr.q (h : isCr w n re li) : isCq w (nI (2 ^ n)) re li := ⟨h.1, h.2.1, h.2.2.1⟩
theorem cr_lookAt {v0 : Int32} (h : isCq w v0 re li) (hc : isC w p C) (hp13 : p + 13 ≤ 60) (hk : okK (C 1)) (k : ∀ w' re' li', isCr w' (C 0).1 re' li' → okCr (C 0).1 (cMask C) re' li' → zOff 60 63 w w' → Q none w') : Zm (d + 4) mX0_lookAt 0 0 [.ref 60, .ref p] w Q := by
  have hn7 : (C 0).1 ≤ 7 := hc.2.1.2.2.1
  have hl7 : (C 1).1 ≤ 7 := hc.2.2.1.2.2.1
  refine zm_intro [_, _, _, _, _] oX0_lookAt (Nat.le_of_ble_eq_true rfl) rfl ?_
  refine zw_aload_n dX0_lookAt_0 rfl ?_
  refine zw_iconst dX0_lookAt_1 1 (by decide) ?_
  refine zw_aload_n dX0_lookAt_2 rfl ?_
  refine zw_get dX0_lookAt_3 fX0_19 hc.1 rfl ?_
  refine zw_cV0 dX0_lookAt_6 oX6_size kX6_size lX0_25 hc.2.1.1 rfl (Nat.le_of_ble_eq_true rfl) rfl (t_size hc.2.1 ?_)
  show Zw _ _ _ 9 [_, _, _, _, _] [_, _, _] _ _
  refine zw_bipush dX0_lookAt_9 7 (by decide) ?_
  refine zw_min dX0_lookAt_11 lX0_31 w_stat_min iniJ9 w_code_min rfl (Nat.le_of_ble_eq_true rfl) (by first | decide | exact Nat.zero_le _) (by first | decide | exact Nat.zero_le _) ?_
  have e : ∀ n, n < 8 → (1 : Int32) <<< ((if (7 : Int32) < nI n then 7 else nI n) &&& 31) = nI (2 ^ n) := by decide +kernel
  refine zw_ishl dX0_lookAt_14 ?_
  refine zw_top (e (C 0).1 (by omega)) ?_
  refine zw_put dX0_lookAt_15 pX0_37 h.1 (fun _ => rfl) (fun _ => rfl) (Nat.le_of_ble_eq_true rfl) ?_
  obtain ⟨w1, hw1⟩ : ∃ w1, w1 = zput w 60 (.inr (0, [.ref 61, .ref 62, .int (nI (2 ^ (C 0).1))])) := ⟨_, rfl⟩
  have g0 : zat w1 60 (.inr (0, [.ref 61, .ref 62, .int (nI (2 ^ (C 0).1))])) := by rw [hw1]; exact h.1.self
  have g1 : zat w1 61 (.inl (0, 128, fun i => nI (re i))) := by rw [hw1]; exact h.2.1.put (by decide)
  have g2 : zat w1 62 (.inl (2, 128, li)) := by rw [hw1]; exact h.2.2.put (by decide)
  have o1 : zOff 60 63 w w1 := by rw [hw1]; exact zOff.pt (by decide) (by decide)
  refine (show Zw _ _ _ _ _ _ w1 _ from ?_) |> (fun z => by rw [hw1] at z; exact z)
  refine zw_aload_n dX0_lookAt_18 rfl ?_
  refine zw_get dX0_lookAt_19 fX0_9 g0 rfl ?_
  refine zw_iconst dX0_lookAt_22 0 (by decide) ?_
  refine zw_iconst dX0_lookAt_23 0 (by decide) ?_
  refine zw_iast dX0_lookAt_24 g1 (vp_in_nI (n := 0) (by decide) (by decide)) ?_
  obtain ⟨w2, hw2⟩ : ∃ w2, w2 = zput w1 61 (.inl (0, 128, upd (fun i => nI (re i)) (0 : Int32).toNatClampNeg 0)) := ⟨_, rfl⟩
  have e2 : upd (fun i => nI (re i)) (0 : Int32).toNatClampNeg 0 = fun j => nI (va_up re 0 0 j) := by
    funext j
    by_cases hj : j = 0
    · subst hj; simp [va_up, upd]; rfl
    · have : ¬ j = (0 : Int32).toNatClampNeg := hj
      simp only [va_up, upd, if_neg hj, if_neg this]
  have c2 : isCr w2 (C 0).1 (va_up re 0 0) li := by rw [hw2, e2]; exact ⟨g0.put (by decide), g1.self, g2.put (by decide), hn7⟩
  have o2 : zOff 60 63 w w2 := o1.tr (by rw [hw2]; exact zOff.pt (by decide) (by decide))
  refine (show Zw _ _ _ _ _ _ w2 _ from ?_) |> (fun z => by rw [hw2] at z; exact z)
  refine zw_iconst dX0_lookAt_25 0 (by decide) ?_
  refine zw_istore_n [_, _, _, _, _] dX0_lookAt_26 (Nat.le_of_ble_eq_true rfl) rfl ?_
  refine cr_look2 (w0 := w) (n := (C 0).1) (li := li) hc hp13 hk rfl (fun w re q2 q3 q4 h ho hz => ?_) (C 0).1 0 w2 (va_up re 0 0) _ _ (by omega) c2 o2 (fun s hs => ?_)
  · have hre : ∀ s, s < 2 ^ (C 0).1 → re s < 128 := fun s hs => by rw [hz s hs]; exact reachN_lt _ s (fun i _ => cMask_lt hl7)
    refine zw_iconst dX0_lookAt_92 0 (by decide) ?_
    refine zw_istore_n [_, _, _, _, _] dX0_lookAt_93 (Nat.le_of_ble_eq_true rfl) rfl ?_
    exact cr_look3 (w0 := _) (n := (C 0).1) hre (fun w' li' h' ho' hz' => k w' re li' h' ⟨hz, hre, hz'⟩ (ho.tr ho')) (2 ^ (C 0).1) 0 w li (by omega) h zOff.rf (fun j hj => absurd hj (Nat.not_lt_zero _))
  · have : s = 0 := by simpa using hs
    subst this
    rfl
/-- how much a set lacks -/
def lackI (re : Nat → Nat) (s : Nat) : Int32 := nI (pop7 s) - nI (pop7 (re s))
def shF (re : Nat → Nat) (i k f : Nat) : Nat := match k with
  | 0 => f
  | k + 1 => shF re (i + 1) k (if 0 < lackI re i - lackI re f ∨ (lackI re i - lackI re f = 0 ∧ nI (pop7 i) < nI (pop7 f)) then i else f)
theorem cr_shortestL (h : isCr w n re li) (hr : ∀ s, s < 2 ^ n → re s < 128) : ∀ (k i f : Nat) (o : Option Value), i + k = 2 ^ n → f < 2 ^ n → Q (some (.int (nI (shF re i k f)))) w → Zw (d + 2) mX0_shortest z0 4 [some (.ref 60), some (.int (nI f)), some (.int (nI i)), o] [] w Q := by
  have h7 := h.2.2.2
  have hp := pow_c (c := n) (by omega)
  intro k
  induction k with
  | zero =>
    intro i f o hi hf kk
    refine zw_iload_n dX0_shortest_4 rfl ?_
    refine zw_aload_n dX0_shortest_5 rfl ?_
    refine zw_get dX0_shortest_6 fX0_37 h.1 rfl ?_
    refine zw_icmp_ge 51 dX0_shortest_9 (by decide) (fun _ => ?_) (fun hz => absurd (nI_le (by omega) (by omega)) hz)
    refine zw_iload_n dX0_shortest_51 rfl ?_
    refine zw_ireturn .int dX0_shortest_52 rfl rfl (Nat.le_refl _) (Nat.le_refl _) ?_
    exact kk
  | succ k ih =>
    intro i f o hi hf kk
    unfold shF at kk
    have fin1 : (0 < lackI re i - lackI re f ∨ (lackI re i - lackI re f = 0 ∧ nI (pop7 i) < nI (pop7 f))) → ∀ o, Zw (d + 2) mX0_shortest z0 43 [some (.ref 60), some (.int (nI f)), some (.int (nI i)), o] [] w Q := by
      intro hc o
      rw [if_pos hc] at kk
      refine zw_iload_n dX0_shortest_43 rfl ?_
      refine zw_istore_n [_, _, _, _] dX0_shortest_44 (Nat.le_of_ble_eq_true rfl) rfl ?_
      refine zw_iinc (nI (i + 1)) [_, _, _, _] dX0_shortest_45 rfl (nI_1 i) rfl ?_
      refine zw_goto 4 dX0_shortest_48 (by decide) ?_
      exact ih (i + 1) i _ (by omega) (by omega) kk
    have fin0 : ¬ (0 < lackI re i - lackI re f ∨ (lackI re i - lackI re f = 0 ∧ nI (pop7 i) < nI (pop7 f))) → ∀ o, Zw (d + 2) mX0_shortest z0 45 [some (.ref 60), some (.int (nI f)), some (.int (nI i)), o] [] w Q := by
      intro hc o
      rw [if_neg hc] at kk
      refine zw_iinc (nI (i + 1)) [_, _, _, _] dX0_shortest_45 rfl (nI_1 i) rfl ?_
      refine zw_goto 4 dX0_shortest_48 (by decide) ?_
      exact ih (i + 1) f _ (by omega) (by omega) kk
    refine zw_iload_n dX0_shortest_4 rfl ?_
    refine zw_aload_n dX0_shortest_5 rfl ?_
    refine zw_get dX0_shortest_6 fX0_37 h.1 rfl ?_
    refine zw_icmp_ge 51 dX0_shortest_9 (by decide) (fun hz => absurd hz (nI_ge (by omega) (by omega))) (fun _ => ?_)
    refine zw_aload_n dX0_shortest_12 rfl ?_
    refine zw_iload_n dX0_shortest_13 rfl ?_
    refine zw_cV1 dX0_shortest_14 oX0_lackOf kX0_lackOf lX0_45 h.1 rfl (Nat.le_of_ble_eq_true rfl) rfl (cr_lack h (by omega) (hr i (by omega)) ?_)
    show Zw _ _ _ 17 [_, _, _, _] [_] _ _
    refine zw_aload_n dX0_shortest_17 rfl ?_
    refine zw_iload_n dX0_shortest_18 rfl ?_
    refine zw_cV1 dX0_shortest_19 oX0_lackOf kX0_lackOf lX0_45 h.1 rfl (Nat.le_of_ble_eq_true rfl) rfl (cr_lack h (by omega) (hr f (by omega)) ?_)
    show Zw _ _ _ 22 [_, _, _, _] [_, _] _ _
    refine zw_isub dX0_shortest_22 ?_
    refine zw_istore_n [_, _, _, _] dX0_shortest_23 (Nat.le_of_ble_eq_true rfl) rfl ?_
    refine zw_iload_n dX0_shortest_24 rfl ?_
    refine zw_if_gt 43 dX0_shortest_25 (by decide) (fun h1 => ?_) (fun h1 => ?_)
    · exact fin1 (Or.inl h1) _
    · refine zw_iload_n dX0_shortest_28 rfl ?_
      refine zw_if_ne 45 dX0_shortest_29 (by decide) (fun h2 => ?_) (fun h2 => ?_)
      · exact fin0 (fun z => z.elim h1 (fun q => h2 q.1)) _
      · refine zw_iload_n dX0_shortest_32 rfl ?_
        refine zw_cS1 dX0_shortest_33 oJ6_bitCount_0f7a4 kJ6_bitCount_0f7a4 lX0_56 (Nat.le_of_ble_eq_true rfl) rfl (j_bitCount (by omega) ?_)
        show Zw _ _ _ 36 [_, _, _, _] [_] _ _
        refine zw_iload_n dX0_shortest_36 rfl ?_
        refine zw_cS1 dX0_shortest_37 oJ6_bitCount_0f7a4 kJ6_bitCount_0f7a4 lX0_56 (Nat.le_of_ble_eq_true rfl) rfl (j_bitCount (by omega) ?_)
        show Zw _ _ _ 40 [_, _, _, _] [_, _] _ _
        refine zw_icmp_ge 45 dX0_shortest_40 (by decide) (fun h3 => ?_) (fun h3 => ?_)
        · exact fin0 (fun z => z.elim h1 (fun q => Int32.not_lt.mpr h3 q.2)) _
        · exact fin1 (Or.inr ⟨h2, Int32.not_le.mp h3⟩) _
theorem cr_shortest (h : isCr w n re li) (hr : ∀ s, s < 2 ^ n → re s < 128) (k : Q (some (.int (nI (shF re 1 (2 ^ n - 1) 0)))) w) : Zm (d + 2) mX0_shortest 0 0 [.ref 60] w Q := by
  have := Nat.two_pow_pos n
  refine zm_intro [_, _, _, _] oX0_shortest (Nat.le_of_ble_eq_true rfl) rfl ?_
  refine zw_iconst dX0_shortest_0 0 (by decide) ?_
  refine zw_istore_n [_, _, _, _] dX0_shortest_1 (Nat.le_of_ble_eq_true rfl) rfl ?_
  refine zw_iconst dX0_shortest_2 1 (by decide) ?_
  refine zw_istore_n [_, _, _, _] dX0_shortest_3 (Nat.le_of_ble_eq_true rfl) rfl ?_
  exact cr_shortestL h hr (2 ^ n - 1) 1 0 _ (by omega) this k
def lfF (f : Nat → Int32) (nb : Nat) (li : Nat → Int32) (am : Int32) (i k : Nat) (fo le : Int32) : Int32 := match k with
  | 0 => fo
  | k + 1 => if ¬ li i = 0 ∧ sumF f i 1 0 nb 0 < le ∧ am ≤ sumF f i 2 0 nb 0 then lfF f nb li am (i + 1) k (nI i) (sumF f i 1 0 nb 0) else lfF f nb li am (i + 1) k fo le
theorem cr_leastL {am : Int32} (h : isCr w n re li) (hc : isC w p C) : ∀ (k i : Nat) (fo le : Int32) (o : Option Value), i + k = 2 ^ n → Q (some (.int (lfF (C 0).2 (C 0).1 li am i k fo le))) w → Zw (d + 3) mX0_leastFor z0 9 [some (.ref 60), some (.ref p), some (.int am), some (.int fo), some (.int le), some (.int (nI i)), o] [] w Q := by
  have h7 := h.2.2.2
  have hp := pow_c (c := n) (by omega)
  intro k
  induction k with
  | zero =>
    intro i fo le o hi kk
    refine zw_iload dX0_leastFor_9 rfl ?_
    refine zw_aload_n dX0_leastFor_11 rfl ?_
    refine zw_get dX0_leastFor_12 fX0_37 h.1 rfl ?_
    refine zw_icmp_ge 76 dX0_leastFor_15 (by decide) (fun _ => ?_) (fun hz => absurd (nI_le (by omega) (by omega)) hz)
    refine zw_iload_n dX0_leastFor_76 rfl ?_
    refine zw_ireturn .int dX0_leastFor_77 rfl rfl (Nat.le_refl _) (Nat.le_refl _) ?_
    exact kk
  | succ k ih =>
    intro i fo le o hi kk
    unfold lfF at kk
    have fin0 : ¬ (¬ li i = 0 ∧ sumF (C 0).2 i 1 0 (C 0).1 0 < le ∧ am ≤ sumF (C 0).2 i 2 0 (C 0).1 0) → ∀ o, Zw (d + 3) mX0_leastFor z0 70 [some (.ref 60), some (.ref p), some (.int am), some (.int fo), some (.int le), some (.int (nI i)), o] [] w Q := by
      intro hz o
      rw [if_neg hz] at kk
      refine zw_iinc (nI (i + 1)) [_, _, _, _, _, _, _] dX0_leastFor_70 rfl (nI_1 i) rfl ?_
      refine zw_goto 9 dX0_leastFor_73 (by decide) ?_
      exact ih (i + 1) fo le _ (by omega) kk
    refine zw_iload dX0_leastFor_9 rfl ?_
    refine zw_aload_n dX0_leastFor_11 rfl ?_
    refine zw_get dX0_leastFor_12 fX0_37 h.1 rfl ?_
    refine zw_icmp_ge 76 dX0_leastFor_15 (by decide) (fun hz => absurd hz (nI_ge (by omega) (by omega))) (fun _ => ?_)
    refine zw_iload dX0_leastFor_18 rfl ?_
    refine zw_sipush dX0_leastFor_20 128 (by decide) ?_
    refine zw_icmp_ge 76 dX0_leastFor_23 (by decide) (fun hz => absurd hz (nI_ge (b := 128) (by omega) (by decide))) (fun _ => ?_)
    refine zw_aload_n dX0_leastFor_26 rfl ?_
    refine zw_iload dX0_leastFor_27 rfl ?_
    refine zw_iconst dX0_leastFor_29 1 (by decide) ?_
    refine zw_cV2 dX0_leastFor_30 oX1_sumOver kX1_sumOver lX0_62 hc.1 rfl (Nat.le_of_ble_eq_true rfl) rfl (c_sumOver (c := 1) hc (by omega) (by decide) ?_)
    show Zw _ _ _ 33 [_, _, _, _, _, _, _] [_] _ _
    refine zw_istore [_, _, _, _, _, _, _] dX0_leastFor_33 (Nat.le_of_ble_eq_true rfl) rfl ?_
    refine zw_aload_n dX0_leastFor_35 rfl ?_
    refine zw_get dX0_leastFor_36 fX0_15 h.1 rfl ?_
    refine zw_iload dX0_leastFor_39 rfl ?_
    refine zw_zald dX0_leastFor_41 h.2.2.1 (vp_in_nI (by omega) (by decide)) ?_
    rw [nI_clamp (by omega)]
    refine zw_if_eq 70 dX0_leastFor_42 (by decide) (fun h1 => ?_) (fun h1 => ?_)
    · exact fin0 (fun z => z.1 h1) _
    · refine zw_iload dX0_leastFor_45 rfl ?_
      refine zw_iload dX0_leastFor_47 rfl ?_
      refine zw_icmp_ge 70 dX0_leastFor_49 (by decide) (fun h2 => ?_) (fun h2 => ?_)
      · exact fin0 (fun z => Int32.not_lt.mpr h2 z.2.1) _
      · refine zw_aload_n dX0_leastFor_52 rfl ?_
        refine zw_iload dX0_leastFor_53 rfl ?_
        refine zw_iconst dX0_leastFor_55 2 (by decide) ?_
        refine zw_cV2 dX0_leastFor_56 oX1_sumOver kX1_sumOver lX0_62 hc.1 rfl (Nat.le_of_ble_eq_true rfl) rfl (c_sumOver (c := 2) hc (by omega) (by decide) ?_)
        show Zw _ _ _ 59 [_, _, _, _, _, _, _] [_] _ _
        refine zw_iload_n dX0_leastFor_59 rfl ?_
        refine zw_icmp_lt 70 dX0_leastFor_60 (by decide) (fun h3 => ?_) (fun h3 => ?_)
        · exact fin0 (fun z => Int32.not_le.mpr h3 z.2.2) _
        · refine zw_iload dX0_leastFor_63 rfl ?_
          refine zw_istore_n [_, _, _, _, _, _, _] dX0_leastFor_65 (Nat.le_of_ble_eq_true rfl) rfl ?_
          refine zw_iload dX0_leastFor_66 rfl ?_
          refine zw_istore [_, _, _, _, _, _, _] dX0_leastFor_68 (Nat.le_of_ble_eq_true rfl) rfl ?_
          refine zw_iinc (nI (i + 1)) [_, _, _, _, _, _, _] dX0_leastFor_70 rfl (nI_1 i) rfl ?_
          refine zw_goto 9 dX0_leastFor_73 (by decide) ?_
          rw [if_pos ⟨h1, Int32.not_le.mp h2, Int32.not_lt.mp h3⟩] at kk
          exact ih (i + 1) _ _ _ (by omega) kk
theorem cr_leastFor {am : Int32} (h : isCr w n re li) (hc : isC w p C) (k : Q (some (.int (lfF (C 0).2 (C 0).1 li am 0 (2 ^ n) (-1) 1073741824))) w) : Zm (d + 3) mX0_leastFor 0 0 [.ref 60, .ref p, .int am] w Q := by
  refine zm_intro [_, _, _, _, _, _, _] oX0_leastFor (Nat.le_of_ble_eq_true rfl) rfl ?_
  refine zw_iconst dX0_leastFor_0 (-1) (by decide) ?_
  refine zw_istore_n [_, _, _, _, _, _, _] dX0_leastFor_1 (Nat.le_of_ble_eq_true rfl) rfl ?_
  refine zw_ldc dX0_leastFor_2 qX0_61 ?_
  refine zw_istore [_, _, _, _, _, _, _] dX0_leastFor_4 (Nat.le_of_ble_eq_true rfl) rfl ?_
  refine zw_iconst dX0_leastFor_6 0 (by decide) ?_
  refine zw_istore [_, _, _, _, _, _, _] dX0_leastFor_7 (Nat.le_of_ble_eq_true rfl) rfl ?_
  exact cr_leastL h hc (2 ^ n) 0 _ _ _ (by omega) k
end ZCROWD2
