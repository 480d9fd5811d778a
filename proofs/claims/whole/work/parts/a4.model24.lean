/-! ===== the Model: fraction, meanBy; all orders, one behind the other ===== -/
def nxtL (l : List Nat) : Option (List Nat) := (nxtP l.length (fun i => l.getD i 0)).map (fun q => (List.range l.length).map q)
/-- l is an order of n, and behind it come just those of rest -/
def chk (n : Nat) (l : List Nat) (rest : List (List Nat)) : Bool := (decide (l.length = n) && l.all (fun x => decide (x < n))) && match rest with
  | [] => (nxtL l).isNone
  | r :: rs => (nxtL l == some r) && chk n r rs
def lexp (n : Nat) (L : List Nat) : List (List Nat) := match n with
  | 0 => [[]]
  | n + 1 => L.flatMap (fun x => (lexp n (L.erase x)).map (fun l => x :: l))
def orders (n : Nat) : List (List Nat) := lexp n (List.range n)
theorem chk_all : ∀ n, n < 8 → (match orders n with
  | [] => false
  | l :: rest => (l == List.range n) && chk n l rest) = true := by decide +kernel
theorem chk_len {n : Nat} {l : List Nat} {rest : List (List Nat)} (h : chk n l rest = true) : l.length = n ∧ ∀ i, i < n → l.getD i 0 < n := by
  unfold chk at h
  have h := (Bool.and_eq_true_iff.mp h).1
  have h1 : l.length = n := of_decide_eq_true (Bool.and_eq_true_iff.mp h).1
  have h2 := List.all_eq_true.mp (Bool.and_eq_true_iff.mp h).2
  refine ⟨h1, fun i hi => ?_⟩
  have hm : l.getD i 0 ∈ l := by
    rw [List.getD_eq_getElem?_getD, List.getElem?_eq_getElem (by omega)]
    exact List.getElem_mem _
  exact of_decide_eq_true (h2 _ hm)
theorem chk_nil {n : Nat} {l : List Nat} (h : chk n l [] = true) : nxtP n (fun i => l.getD i 0) = none := by
  have hl := (chk_len h).1
  unfold chk at h
  have h := (Bool.and_eq_true_iff.mp h).2
  unfold nxtL at h
  rw [hl] at h
  cases e : nxtP n (fun i => l.getD i 0) with
  | none => rfl
  | some q => rw [e] at h; exact absurd h (by simp)
theorem chk_cons {n : Nat} {l r : List Nat} {rs : List (List Nat)} (h : chk n l (r :: rs) = true) : chk n r rs = true ∧ ∃ q, nxtP n (fun i => l.getD i 0) = some q ∧ ∀ i, i < n → q i = r.getD i 0 := by
  have hl := (chk_len h).1
  unfold chk at h
  have h := Bool.and_eq_true_iff.mp (Bool.and_eq_true_iff.mp h).2
  refine ⟨h.2, ?_⟩
  have h1 : nxtL l = some r := eq_of_beq h.1
  unfold nxtL at h1
  rw [hl] at h1
  cases e : nxtP n (fun i => l.getD i 0) with
  | none => rw [e] at h1; exact absurd h1 (by simp)
  | some q =>
    rw [e] at h1
    refine ⟨q, rfl, fun i hi => ?_⟩
    have h2 : (List.range n).map q = r := by simpa using h1
    rw [← h2, List.getD_eq_getElem?_getD]
    simp [hi]
section ZMOD24
variable {d : Nat} {w w' : ZW} {A : Nat → Nat → Int32} {I : Nat → Int32} {ab be : Int64} {Q : Option Value → ZW → Prop}
theorem m_frL {u v : Int64} {G : Nat} (hG0 : 0 < G) (hK : ∀ o7 o8 o9 o10, Zw d mX9_fraction z0 31 [some (.ref 74), some (.long u), none, some (.long v), none, some (.long (lN G)), none, o7, o8, o9, o10] [] w Q) : ∀ (y x : Nat) (o9 o10 : Option Value), x < 2 ^ 63 → y < 2 ^ 63 → Nat.gcd x y = G → Zw d mX9_fraction z0 6 [some (.ref 74), some (.long u), none, some (.long v), none, some (.long (lN x)), none, some (.long (lN y)), none, o9, o10] [] w Q := by
  intro y
  induction y using Nat.strongRecOn with
  | _ y ih =>
    intro x o9 o10 hx hy hE
    refine zw_lload dX9_fraction_6 rfl ?_
    refine zw_lconst dX9_fraction_8 0 (by decide) ?_
    refine zw_lcmp dX9_fraction_9 ?_
    by_cases e : y = 0
    · subst e
      rw [Nat.gcd_zero_right] at hE
      subst hE
      refine zw_if_eq 31 dX9_fraction_10 (by decide) (fun _ => ?_) (fun hz => absurd (rfl) hz)
      exact hK _ _ _ _
    · have hne : ¬ lN y = 0 := fun z => e ((pk_lEQ (b := 0) hy (by decide)).mp z)
      refine zw_if_eq 31 dX9_fraction_10 (by decide) (fun hz => absurd hz ((fun z => hne (lcmp_eq.mp z)))) (fun _ => ?_)
      refine zw_lload dX9_fraction_13 rfl ?_
      refine zw_lload dX9_fraction_15 rfl ?_
      refine zw_lrem dX9_fraction_17 (hne) ?_
      refine zw_topl (pk_lRem hx (by omega) hy) ?_
      refine zw_lstore [_, _, _, _, _, _, _, _, _, _, _] dX9_fraction_18 (Nat.le_of_ble_eq_true rfl) rfl ?_
      refine zw_lload dX9_fraction_20 rfl ?_
      refine zw_lstore [_, _, _, _, _, _, _, _, _, _, _] dX9_fraction_22 (Nat.le_of_ble_eq_true rfl) rfl ?_
      refine zw_lload dX9_fraction_24 rfl ?_
      refine zw_lstore [_, _, _, _, _, _, _, _, _, _, _] dX9_fraction_26 (Nat.le_of_ble_eq_true rfl) rfl ?_
      refine zw_goto 6 dX9_fraction_28 (by decide) ?_
      have hm := Nat.mod_lt x (Nat.pos_of_ne_zero e)
      exact ih (x % y) hm y _ _ hy (by omega) (by rw [Nat.gcd_comm, ← Nat.gcd_rec, Nat.gcd_comm]; exact hE)
theorem m_fraction {u v : Nat} (hu : u < 2 ^ 63) (hv : v < 2 ^ 63) (hv0 : 0 < v) (h : isM w A I ab be) (k : ∀ w', isM w' A I (lN (u / Nat.gcd u v)) (lN (v / Nat.gcd u v)) → zOff 74 89 w w' → Q none w') : Zm d mX9_fraction 0 0 [.ref 74, .long (lN u), .long (lN v)] w Q := by
  have hG0 : 0 < Nat.gcd u v := Nat.gcd_pos_of_pos_right _ hv0
  have hGl : Nat.gcd u v < 2 ^ 63 := Nat.lt_of_le_of_lt (Nat.gcd_le_right _ hv0) hv
  have hne : ¬ lN (Nat.gcd u v) = 0 := fun z => by
    have := (pk_lEQ (b := 0) hGl (by decide)).mp z
    omega
  refine zm_intro [_, _, _, _, _, _, _, _, _, _, _] oX9_fraction (Nat.le_of_ble_eq_true rfl) rfl ?_
  refine zw_lload_n dX9_fraction_0 rfl ?_
  refine zw_lstore [_, _, _, _, _, _, _, _, _, _, _] dX9_fraction_1 (Nat.le_of_ble_eq_true rfl) rfl ?_
  refine zw_lload_n dX9_fraction_3 rfl ?_
  refine zw_lstore [_, _, _, _, _, _, _, _, _, _, _] dX9_fraction_4 (Nat.le_of_ble_eq_true rfl) rfl ?_
  refine m_frL (G := Nat.gcd u v) hG0 (fun o7 o8 o9 o10 => ?_) v u _ _ hu hv rfl
  refine zw_aload_n dX9_fraction_31 rfl ?_
  refine zw_lload_n dX9_fraction_32 rfl ?_
  refine zw_lload dX9_fraction_33 rfl ?_
  refine zw_ldiv dX9_fraction_35 (hne) ?_
  refine zw_topl (pk_lDiv hu hG0 hGl) ?_
  refine zw_put dX9_fraction_36 pX9_210 h.1 (fun _ => rfl) (fun _ => rfl) (Nat.le_of_ble_eq_true rfl) ?_
  have h1 := h.ob (I' := I) (ab' := lN (u / Nat.gcd u v)) (be' := be)
  refine zw_aload_n dX9_fraction_39 rfl ?_
  refine zw_lload_n dX9_fraction_40 rfl ?_
  refine zw_lload dX9_fraction_41 rfl ?_
  refine zw_ldiv dX9_fraction_43 (hne) ?_
  refine zw_topl (pk_lDiv hv hG0 hGl) ?_
  refine zw_put dX9_fraction_44 pX9_54 h1.1 (fun _ => rfl) (fun _ => rfl) (Nat.le_of_ble_eq_true rfl) ?_
  have h2 := h1.ob (I' := I) (ab' := lN (u / Nat.gcd u v)) (be' := lN (v / Nat.gcd u v))
  refine zw_return dX9_fraction_47 rfl (Nat.le_refl _) (Nat.le_refl _) ?_
  exact k _ h2 ((zOff.pt (by decide) (by decide)).tr (zOff.pt (by decide) (by decide)))
theorem m_mb1 {n : Nat} (hn7 : n ≤ 7) (hK : ∀ o, Zw (d + 2) mX9_meanBy z0 23 [some (.ref 74), some (.int (nI n)), some (.long (lN (10 ^ n))), none, o, none, none, none, none] [] w Q) : ∀ (k i : Nat), i + k = n → Zw (d + 2) mX9_meanBy z0 5 [some (.ref 74), some (.int (nI n)), some (.long (lN (10 ^ i))), none, some (.int (nI i)), none, none, none, none] [] w Q := by
  intro k
  induction k with
  | zero =>
    intro i hi
    have e : i = n := by omega
    subst e
    refine zw_iload dX9_meanBy_5 rfl ?_
    refine zw_iload_n dX9_meanBy_7 rfl ?_
    refine zw_icmp_ge 23 dX9_meanBy_8 (by decide) (fun _ => ?_) (fun hz => absurd (nI_le (by omega) (by omega)) hz)
    exact hK _
  | succ k ih =>
    intro i hi
    refine zw_iload dX9_meanBy_5 rfl ?_
    refine zw_iload_n dX9_meanBy_7 rfl ?_
    refine zw_icmp_ge 23 dX9_meanBy_8 (by decide) (fun hz => absurd hz (nI_ge (by omega) (by omega))) (fun _ => ?_)
    refine zw_lload_n dX9_meanBy_11 rfl ?_
    refine zw_ldc2 dX9_meanBy_12 qX9_213 ?_
    refine zw_lmul dX9_meanBy_15 ?_
    refine zw_topl (y := lN (10 ^ (i + 1))) (by rw [Nat.pow_succ, ← lN_mul]; rfl) ?_
    refine zw_lstore_n [_, _, _, _, _, _, _, _, _] dX9_meanBy_16 (Nat.le_of_ble_eq_true rfl) rfl ?_
    refine zw_iinc (nI (i + 1)) [_, _, _, _, _, _, _, _, _] dX9_meanBy_17 rfl (nI_1 i) rfl ?_
    refine zw_goto 5 dX9_meanBy_20 (by decide) ?_
    exact ih (i + 1) (by omega)
theorem m_mb2 {n : Nat} {p c : Nat → Nat} {all : Int64} (hn7 : n ≤ 7) (hb : I 0 = nI 0) (h : isM w A I ab be) (hf : ∀ i, i < n → A 11 i = nI (p i)) (hp : ∀ i, i < n → p i < 7) (hc : ∀ i, i < n → mLd A 0 (p i) 3 = nI (c i) ∧ c i ≤ 10) : ∀ (k i sum op : Nat), i + k = n → sum ≤ i * 10 ^ 7 → op ≤ 10 ^ 7 → Q (some (.long (lN (mbF c i k sum op)))) w → Zw (d + 2) mX9_meanBy z0 32 [some (.ref 74), some (.int (nI n)), some (.long all), none, some (.long (lN sum)), none, some (.long (lN op)), none, some (.int (nI i))] [] w Q := by
  intro k
  induction k with
  | zero =>
    intro i sum op hi hs ho kk
    refine zw_iload dX9_meanBy_32 rfl ?_
    refine zw_iload_n dX9_meanBy_34 rfl ?_
    refine zw_icmp_ge 76 dX9_meanBy_35 (by decide) (fun _ => ?_) (fun hz => absurd (nI_le (by omega) (by omega)) hz)
    refine zw_lload dX9_meanBy_76 rfl ?_
    refine zw_lreturn dX9_meanBy_78 rfl (Nat.le_refl _) (Nat.le_refl _) ?_
    exact kk
  | succ k ih =>
    intro i sum op hi hs ho kk
    unfold mbF at kk
    obtain ⟨c1, c2⟩ := hc i (by omega)
    refine zw_iload dX9_meanBy_32 rfl ?_
    refine zw_iload_n dX9_meanBy_34 rfl ?_
    refine zw_icmp_ge 76 dX9_meanBy_35 (by decide) (fun hz => absurd hz (nI_ge (by omega) (by omega))) (fun _ => ?_)
    refine zw_lload dX9_meanBy_38 rfl ?_
    refine zw_lload dX9_meanBy_40 rfl ?_
    refine zw_ladd dX9_meanBy_42 ?_
    refine zw_topl (lN_add ..) ?_
    refine zw_lstore [_, _, _, _, _, _, _, _, _] dX9_meanBy_43 (Nat.le_of_ble_eq_true rfl) rfl ?_
    refine zw_lload dX9_meanBy_45 rfl ?_
    refine zw_ldc2 dX9_meanBy_47 qX9_213 ?_
    refine zw_ldiv dX9_meanBy_50 (by decide) ?_
    refine zw_topl (y := lN (op / 10)) (pk_lDiv (b := 10) (by omega) (by decide) (by decide)) ?_
    refine zw_bipush dX9_meanBy_51 10 (by decide) ?_
    refine zw_aload_n dX9_meanBy_53 rfl ?_
    refine zw_aload_n dX9_meanBy_54 rfl ?_
    refine zw_get dX9_meanBy_55 fX9_45 h.1 rfl ?_
    refine zw_iload dX9_meanBy_58 rfl ?_
    refine zw_iald dX9_meanBy_60 h.q11 (vp_in_nI (n := i) (N := 7) (by omega) (by decide)) ?_
    rw [nI_clamp (by omega), hf i (by omega)]
    refine zw_iconst dX9_meanBy_61 3 (by decide) ?_
    refine zw_cV2 dX9_meanBy_62 oX9_ofLid kX9_ofLid lX9_84 h.1 rfl (Nat.le_of_ble_eq_true rfl) rfl (m_ofLid (b := 0) (r := p i) (c := 3) h hb (by decide) (hp i (by omega)) (by decide) ?_)
    show Zw _ _ _ 65 [_, _, _, _, _, _, _, _, _] [_, _, _] _ _
    refine zw_top (c1) ?_
    refine zw_isub dX9_meanBy_65 ?_
    refine zw_top (y := nI (10 - c i)) (pk_sub (a := 10) c2) ?_
    refine zw_i2l dX9_meanBy_66 ?_
    refine zw_topl (nI_l (by omega)) ?_
    refine zw_lmul dX9_meanBy_67 ?_
    refine zw_topl (lN_mul ..) ?_
    refine zw_lstore [_, _, _, _, _, _, _, _, _] dX9_meanBy_68 (Nat.le_of_ble_eq_true rfl) rfl ?_
    refine zw_iinc (nI (i + 1)) [_, _, _, _, _, _, _, _, _] dX9_meanBy_70 rfl (nI_1 i) rfl ?_
    refine zw_goto 32 dX9_meanBy_73 (by decide) ?_
    refine ih (i + 1) _ _ (by omega) (by rw [Nat.succ_mul]; omega) ?_ kk
    have : op / 10 * (10 - c i) ≤ op := Nat.le_trans (Nat.mul_le_mul_left _ (Nat.sub_le _ _)) (Nat.div_mul_le_self op 10)
    omega
theorem m_meanBy {n : Nat} {p c : Nat → Nat} (hn7 : n ≤ 7) (hb : I 0 = nI 0) (h : isM w A I ab be) (hf : ∀ i, i < n → A 11 i = nI (p i)) (hp : ∀ i, i < n → p i < 7) (hc : ∀ i, i < n → mLd A 0 (p i) 3 = nI (c i) ∧ c i ≤ 10) (k : Q (some (.long (lN (mbF c 0 n 0 (10 ^ n))))) w) : Zm (d + 2) mX9_meanBy 0 0 [.ref 74, .int (nI n)] w Q := by
  refine zm_intro [_, _, _, _, _, _, _, _, _] oX9_meanBy (Nat.le_of_ble_eq_true rfl) rfl ?_
  refine zw_lconst dX9_meanBy_0 1 (by decide) ?_
  refine zw_lstore_n [_, _, _, _, _, _, _, _, _] dX9_meanBy_1 (Nat.le_of_ble_eq_true rfl) rfl ?_
  refine zw_iconst dX9_meanBy_2 0 (by decide) ?_
  refine zw_istore [_, _, _, _, _, _, _, _, _] dX9_meanBy_3 (Nat.le_of_ble_eq_true rfl) rfl ?_
  refine m_mb1 hn7 (fun o => ?_) n 0 (by omega)
  refine zw_lconst dX9_meanBy_23 0 (by decide) ?_
  refine zw_lstore [_, _, _, _, _, _, _, _, _] dX9_meanBy_24 (Nat.le_of_ble_eq_true rfl) rfl ?_
  refine zw_lload_n dX9_meanBy_26 rfl ?_
  refine zw_lstore [_, _, _, _, _, _, _, _, _] dX9_meanBy_27 (Nat.le_of_ble_eq_true rfl) rfl ?_
  refine zw_iconst dX9_meanBy_29 0 (by decide) ?_
  refine zw_istore [_, _, _, _, _, _, _, _, _] dX9_meanBy_30 (Nat.le_of_ble_eq_true rfl) rfl ?_
  have := p10 n hn7
  exact m_mb2 hn7 hb h hf hp hc n 0 0 (10 ^ n) (by omega) (by omega) (by omega) k
end ZMOD24
