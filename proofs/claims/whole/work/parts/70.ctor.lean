/-! ===== constructors ===== -/
/-- what lies under t is as it was, and nothing is gone -/
def zUp (t : Nat) (w w' : ZW) : Prop := w.1 ≤ w'.1 ∧ ∀ i, i < t → w'.2 i = w.2 i
theorem zUp.rf {t : Nat} {w : ZW} : zUp t w w := ⟨Nat.le_refl _, fun _ _ => rfl⟩
theorem zUp.tr {t : Nat} {w w' w'' : ZW} (h : zUp t w w') (h' : zUp t w' w'') : zUp t w w'' := ⟨Nat.le_trans h.1 h'.1, fun i hi => (h'.2 i hi).trans (h.2 i hi)⟩
theorem zUp.dn {t t' : Nat} {w w' : ZW} (h : zUp t w w') (ht : t' ≤ t) : zUp t' w w' := ⟨h.1, fun i hi => h.2 i (by omega)⟩
theorem zUp.pt {t i : Nat} {w : ZW} {e : ZE} (h : t ≤ i) : zUp t w (zput w i e) := ⟨Nat.le_refl _, fun j hj => by show va_up w.2 i e j = w.2 j; unfold va_up; rw [if_neg (by omega)]⟩
theorem zUp.ad {t : Nat} {w : ZW} {e : ZE} (h : t ≤ w.1) : zUp t w (zadd w e) := ⟨Nat.le_succ _, fun j hj => by show va_up w.2 w.1 e j = w.2 j; unfold va_up; rw [if_neg (by omega)]⟩
theorem zat.up {t i : Nat} {w w' : ZW} {e : ZE} (h : zat w i e) (u : zUp t w w') (hi : i < t) : zat w' i e := ⟨Nat.lt_of_lt_of_le h.1 u.1, (u.2 i hi).trans h.2⟩
theorem zat.ad {i : Nat} {w : ZW} {e e' : ZE} (h : zat w i e) : zat (zadd w e') i e := h.up (zUp.ad (Nat.le_refl _)) h.1
theorem zat_new {w : ZW} {e : ZE} {n : Nat} (h : w.1 = n) : zat (zadd w e) n e := by
  subst h
  exact ⟨Nat.lt_succ_self _, by show va_up w.2 w.1 e w.1 = e; unfold va_up; rw [if_pos rfl]⟩
theorem isT.up {w w' : ZW} {t W R u : Nat} {q : Nat × (Nat → Int32)} (h : isT w t W R q) (ho : zUp u w w') (ht : t + 1 < u) : isT w' t W R q := ⟨h.1.up ho (by omega), h.2.1.up ho (by omega), h.2.2⟩
theorem isT_putP {w : ZW} {t W R i : Nat} {e' : ZE} {q : Nat × (Nat → Int32)} (h : isT w t W R q) (hi : i < t) : isT (zput w i e') t W R q := ⟨h.1.put (by omega), h.2.1.put (by omega), h.2.2⟩
theorem max0 : ∀ n, n < 16 → (if (0 : Int32) < nI n then nI n else 0) = nI n := by decide +kernel
section ZCTOR
variable {d : Nat} {w : ZW} {Q : Option Value → ZW → Prop}
theorem t_init {t W R : Nat} (h : zat w t (.inr (6, [.int 0, .int 0, .null, .int 0]))) (hw : w.1 = t + 1) (ht : t < 900000) (hW3 : 3 ≤ W) (hW5 : W ≤ 5) (hR : R ≤ 12) (k : ∀ w', w'.1 = t + 2 → isT w' t W R (0, fun _ => 0) → zUp t w w' → Q none w') : Zm (d + 1) mX6_init 1 (W * R) [.ref t, .int (nI W), .int (nI R)] w Q := by
  have hs := isT_small hW5 hR
  refine zm_intro [_, _, _] oX6_init (Nat.le_of_ble_eq_true rfl) rfl ?_
  refine zw_aload_n dX6_init_0 rfl ?_
  refine zw_objInit dX6_init_1 lX6_3 w_objInst w_objCode rfl (Nat.le_of_ble_eq_true rfl) ?_
  refine zw_aload_n dX6_init_4 rfl ?_
  refine zw_iconst dX6_init_5 0 (by decide) ?_
  refine zw_iload_n dX6_init_6 rfl ?_
  refine zw_max dX6_init_7 lX6_9 w_stat_max iniJ9 w_code_max rfl (Nat.le_of_ble_eq_true rfl) (by first | decide | exact Nat.zero_le _) (by first | decide | exact Nat.zero_le _) ?_
  refine zw_top (max0 W (by omega)) ?_
  refine zw_putF dX6_init_10 pX6_15 rfl h (fun _ => rfl) (fun _ => rfl) (Nat.le_of_ble_eq_true rfl) ?_
  have h1 := h.self (e' := .inr (6, [.int (nI W), .int 0, .null, .int 0]))
  refine zw_aload_n dX6_init_13 rfl ?_
  refine zw_iconst dX6_init_14 0 (by decide) ?_
  refine zw_iload_n dX6_init_15 rfl ?_
  refine zw_max dX6_init_16 lX6_9 w_stat_max iniJ9 w_code_max rfl (Nat.le_of_ble_eq_true rfl) (by first | decide | exact Nat.zero_le _) (by first | decide | exact Nat.zero_le _) ?_
  refine zw_top (max0 R (by omega)) ?_
  refine zw_putF dX6_init_19 pX6_21 rfl h1 (fun _ => rfl) (fun _ => rfl) (Nat.le_of_ble_eq_true rfl) ?_
  have h2 := h1.self (e' := .inr (6, [.int (nI W), .int (nI R), .null, .int 0]))
  refine zw_aload_n dX6_init_22 rfl ?_
  refine zw_aload_n dX6_init_23 rfl ?_
  refine zw_get dX6_init_24 fX6_15 h2 rfl ?_
  refine zw_aload_n dX6_init_27 rfl ?_
  refine zw_get dX6_init_28 fX6_21 h2 rfl ?_
  refine zw_imul dX6_init_31 ?_
  refine zw_top (pk_mul ..) ?_
  refine zw_newa (t := 0) (N := W * R) dX6_init_32 rfl (by decide) (fun _ => rfl) rfl w_arr_int (nI_pos (by omega)) (nI_clamp (by omega)) (by show W * R * 4 ≤ _; omega) (by omega) (by omega) (by show w.1 < _; omega) ?_
  refine zw_putF dX6_init_34 pX6_24 rfl h2.ad (fun _ => rfl) (fun _ => rfl) (Nat.le_of_ble_eq_true rfl) ?_
  refine zw_return dX6_init_37 rfl (Nat.le_refl _) (Nat.le_of_eq (Nat.zero_add _)) ?_
  have hn : w.1 = t + 1 := hw
  refine k _ ?_ ⟨?_, ?_, Nat.zero_le _, hW3, hW5, hR⟩ ?_
  · show w.1 + 1 = _
    omega
  · have := h2.ad (e' := .inl (0, W * R, fun _ => 0))
    have q := this.self (e' := .inr (6, [.int (nI W), .int (nI R), .ref w.1, .int 0]))
    rw [← hw]
    exact q
  · exact (zat_new (by exact hw)).put (by omega)
  · exact (zUp.pt (Nat.le_refl _)).tr ((zUp.pt (Nat.le_refl _)).tr ((zUp.ad (by show t ≤ w.1; omega)).tr (zUp.pt (Nat.le_refl _))))
theorem c_init {p : Nat} (h : zat w p (.inr (1, [.null, .null, .null, .null, .null, .null]))) (hw : w.1 = p + 1) (hp : p < 800000) (k : ∀ w', w'.1 = p + 13 → isC w' p (fun _ => (0, fun _ => 0)) → zUp p w w' → Q none w') : Zm (d + 2) mX1_init 12 187 [.ref p] w Q := by
  refine zm_intro [_] oX1_init (Nat.le_of_ble_eq_true rfl) rfl ?_
  refine zw_aload_n dX1_init_0 rfl ?_
  refine zw_objInit dX1_init_1 lX1_3 w_objInst w_objCode rfl (Nat.le_of_ble_eq_true rfl) ?_
  have u0 : zUp p w w := zUp.rf
  have c0 := hw
  have h0 := h
  refine zw_aload_n dX1_init_4 rfl ?_
  refine zw_new dX1_init_5 nX1_9 (by decide) (by decide) (by omega) ?_
  rw [c0]
  refine zw_dup dX1_init_8 rfl ?_
  refine zw_iconst dX1_init_9 5 (by decide) ?_
  refine zw_bipush dX1_init_10 7 (by decide) ?_
  refine zw_callI (as := [.int (nI 5), .int (nI 7)]) (mc' := 1) (ms' := 5 * 7) dX1_init_12 oX6_init kX6_init lX1_11 rfl (Nat.le_of_ble_eq_true rfl) rfl (by decide) (by decide) (t_init (t := p + 1) (zat_new c0) (by show w.1 + 1 = _; omega) (by omega) (by decide) (by decide) (by decide) (fun v0 n0 t0 y0 => ?_))
  show Zw _ _ _ 15 [_] [_, _] _ _
  have g0 : zat v0 p _ := (h0.ad).up y0 (by omega)
  refine zw_putF dX1_init_15 pX1_14 rfl g0 (fun _ => rfl) (fun _ => rfl) (Nat.le_of_ble_eq_true rfl) ?_
  change Zw _ _ _ _ _ _ (zput v0 p (.inr (1, [.ref (p + 1), .null, .null, .null, .null, .null]))) _
  have h1 := g0.self (e' := .inr (1, [.ref (p + 1), .null, .null, .null, .null, .null]))
  have t0 := isT_putP t0 (by omega) (i := p) (e' := .inr (1, [.ref (p + 1), .null, .null, .null, .null, .null]))
  have u1 := u0.tr (((zUp.ad (by omega)).tr (y0.dn (by omega))).tr (zUp.pt (i := p) (e := .inr (1, [.ref (p + 1), .null, .null, .null, .null, .null])) (Nat.le_refl _)))
  have c1 : (zput v0 p (.inr (1, [.ref (p + 1), .null, .null, .null, .null, .null]))).1 = p + 3 := n0
  generalize zput v0 p (.inr (1, [.ref (p + 1), .null, .null, .null, .null, .null])) = x0 at h1 u1 c1 t0 ⊢
  refine zw_aload_n dX1_init_18 rfl ?_
  refine zw_new dX1_init_19 nX1_9 (by decide) (by decide) (by omega) ?_
  rw [c1]
  refine zw_dup dX1_init_22 rfl ?_
  refine zw_iconst dX1_init_23 4 (by decide) ?_
  refine zw_bipush dX1_init_24 7 (by decide) ?_
  refine zw_callI (as := [.int (nI 4), .int (nI 7)]) (mc' := 1) (ms' := 4 * 7) dX1_init_26 oX6_init kX6_init lX1_11 rfl (Nat.le_of_ble_eq_true rfl) rfl (by decide) (by decide) (t_init (t := p + 3) (zat_new c1) (by show x0.1 + 1 = _; omega) (by omega) (by decide) (by decide) (by decide) (fun v1 n1 t1 y1 => ?_))
  show Zw _ _ _ 29 [_] [_, _] _ _
  have g1 : zat v1 p _ := (h1.ad).up y1 (by omega)
  refine zw_putF dX1_init_29 pX1_20 rfl g1 (fun _ => rfl) (fun _ => rfl) (Nat.le_of_ble_eq_true rfl) ?_
  change Zw _ _ _ _ _ _ (zput v1 p (.inr (1, [.ref (p + 1), .ref (p + 3), .null, .null, .null, .null]))) _
  have h2 := g1.self (e' := .inr (1, [.ref (p + 1), .ref (p + 3), .null, .null, .null, .null]))
  have t0 := isT_putP ((t0.up (zUp.ad (t := p + 3) (e := .inr (6, [.int 0, .int 0, .null, .int 0])) (by omega)) (by omega)).up y1 (by omega)) (by omega) (i := p) (e' := .inr (1, [.ref (p + 1), .ref (p + 3), .null, .null, .null, .null]))
  have t1 := isT_putP t1 (by omega) (i := p) (e' := .inr (1, [.ref (p + 1), .ref (p + 3), .null, .null, .null, .null]))
  have u2 := u1.tr (((zUp.ad (by omega)).tr (y1.dn (by omega))).tr (zUp.pt (i := p) (e := .inr (1, [.ref (p + 1), .ref (p + 3), .null, .null, .null, .null])) (Nat.le_refl _)))
  have c2 : (zput v1 p (.inr (1, [.ref (p + 1), .ref (p + 3), .null, .null, .null, .null]))).1 = p + 5 := n1
  generalize zput v1 p (.inr (1, [.ref (p + 1), .ref (p + 3), .null, .null, .null, .null])) = x1 at h2 u2 c2 t0 t1 ⊢
  refine zw_aload_n dX1_init_32 rfl ?_
  refine zw_new dX1_init_33 nX1_9 (by decide) (by decide) (by omega) ?_
  rw [c2]
  refine zw_dup dX1_init_36 rfl ?_
  refine zw_iconst dX1_init_37 4 (by decide) ?_
  refine zw_iconst dX1_init_38 4 (by decide) ?_
  refine zw_callI (as := [.int (nI 4), .int (nI 4)]) (mc' := 1) (ms' := 4 * 4) dX1_init_39 oX6_init kX6_init lX1_11 rfl (Nat.le_of_ble_eq_true rfl) rfl (by decide) (by decide) (t_init (t := p + 5) (zat_new c2) (by show x1.1 + 1 = _; omega) (by omega) (by decide) (by decide) (by decide) (fun v2 n2 t2 y2 => ?_))
  show Zw _ _ _ 42 [_] [_, _] _ _
  have g2 : zat v2 p _ := (h2.ad).up y2 (by omega)
  refine zw_putF dX1_init_42 pX1_23 rfl g2 (fun _ => rfl) (fun _ => rfl) (Nat.le_of_ble_eq_true rfl) ?_
  change Zw _ _ _ _ _ _ (zput v2 p (.inr (1, [.ref (p + 1), .ref (p + 3), .ref (p + 5), .null, .null, .null]))) _
  have h3 := g2.self (e' := .inr (1, [.ref (p + 1), .ref (p + 3), .ref (p + 5), .null, .null, .null]))
  have t0 := isT_putP ((t0.up (zUp.ad (t := p + 5) (e := .inr (6, [.int 0, .int 0, .null, .int 0])) (by omega)) (by omega)).up y2 (by omega)) (by omega) (i := p) (e' := .inr (1, [.ref (p + 1), .ref (p + 3), .ref (p + 5), .null, .null, .null]))
  have t1 := isT_putP ((t1.up (zUp.ad (t := p + 5) (e := .inr (6, [.int 0, .int 0, .null, .int 0])) (by omega)) (by omega)).up y2 (by omega)) (by omega) (i := p) (e' := .inr (1, [.ref (p + 1), .ref (p + 3), .ref (p + 5), .null, .null, .null]))
  have t2 := isT_putP t2 (by omega) (i := p) (e' := .inr (1, [.ref (p + 1), .ref (p + 3), .ref (p + 5), .null, .null, .null]))
  have u3 := u2.tr (((zUp.ad (by omega)).tr (y2.dn (by omega))).tr (zUp.pt (i := p) (e := .inr (1, [.ref (p + 1), .ref (p + 3), .ref (p + 5), .null, .null, .null])) (Nat.le_refl _)))
  have c3 : (zput v2 p (.inr (1, [.ref (p + 1), .ref (p + 3), .ref (p + 5), .null, .null, .null]))).1 = p + 7 := n2
  generalize zput v2 p (.inr (1, [.ref (p + 1), .ref (p + 3), .ref (p + 5), .null, .null, .null])) = x2 at h3 u3 c3 t0 t1 t2 ⊢
  refine zw_aload_n dX1_init_45 rfl ?_
  refine zw_new dX1_init_46 nX1_9 (by decide) (by decide) (by omega) ?_
  rw [c3]
  refine zw_dup dX1_init_49 rfl ?_
  refine zw_iconst dX1_init_50 3 (by decide) ?_
  refine zw_bipush dX1_init_51 8 (by decide) ?_
  refine zw_callI (as := [.int (nI 3), .int (nI 8)]) (mc' := 1) (ms' := 3 * 8) dX1_init_53 oX6_init kX6_init lX1_11 rfl (Nat.le_of_ble_eq_true rfl) rfl (by decide) (by decide) (t_init (t := p + 7) (zat_new c3) (by show x2.1 + 1 = _; omega) (by omega) (by decide) (by decide) (by decide) (fun v3 n3 t3 y3 => ?_))
  show Zw _ _ _ 56 [_] [_, _] _ _
  have g3 : zat v3 p _ := (h3.ad).up y3 (by omega)
  refine zw_putF dX1_init_56 pX1_26 rfl g3 (fun _ => rfl) (fun _ => rfl) (Nat.le_of_ble_eq_true rfl) ?_
  change Zw _ _ _ _ _ _ (zput v3 p (.inr (1, [.ref (p + 1), .ref (p + 3), .ref (p + 5), .ref (p + 7), .null, .null]))) _
  have h4 := g3.self (e' := .inr (1, [.ref (p + 1), .ref (p + 3), .ref (p + 5), .ref (p + 7), .null, .null]))
  have t0 := isT_putP ((t0.up (zUp.ad (t := p + 7) (e := .inr (6, [.int 0, .int 0, .null, .int 0])) (by omega)) (by omega)).up y3 (by omega)) (by omega) (i := p) (e' := .inr (1, [.ref (p + 1), .ref (p + 3), .ref (p + 5), .ref (p + 7), .null, .null]))
  have t1 := isT_putP ((t1.up (zUp.ad (t := p + 7) (e := .inr (6, [.int 0, .int 0, .null, .int 0])) (by omega)) (by omega)).up y3 (by omega)) (by omega) (i := p) (e' := .inr (1, [.ref (p + 1), .ref (p + 3), .ref (p + 5), .ref (p + 7), .null, .null]))
  have t2 := isT_putP ((t2.up (zUp.ad (t := p + 7) (e := .inr (6, [.int 0, .int 0, .null, .int 0])) (by omega)) (by omega)).up y3 (by omega)) (by omega) (i := p) (e' := .inr (1, [.ref (p + 1), .ref (p + 3), .ref (p + 5), .ref (p + 7), .null, .null]))
  have t3 := isT_putP t3 (by omega) (i := p) (e' := .inr (1, [.ref (p + 1), .ref (p + 3), .ref (p + 5), .ref (p + 7), .null, .null]))
  have u4 := u3.tr (((zUp.ad (by omega)).tr (y3.dn (by omega))).tr (zUp.pt (i := p) (e := .inr (1, [.ref (p + 1), .ref (p + 3), .ref (p + 5), .ref (p + 7), .null, .null])) (Nat.le_refl _)))
  have c4 : (zput v3 p (.inr (1, [.ref (p + 1), .ref (p + 3), .ref (p + 5), .ref (p + 7), .null, .null]))).1 = p + 9 := n3
  generalize zput v3 p (.inr (1, [.ref (p + 1), .ref (p + 3), .ref (p + 5), .ref (p + 7), .null, .null])) = x3 at h4 u4 c4 t0 t1 t2 t3 ⊢
  refine zw_aload_n dX1_init_59 rfl ?_
  refine zw_new dX1_init_60 nX1_9 (by decide) (by decide) (by omega) ?_
  rw [c4]
  refine zw_dup dX1_init_63 rfl ?_
  refine zw_iconst dX1_init_64 3 (by decide) ?_
  refine zw_bipush dX1_init_65 8 (by decide) ?_
  refine zw_callI (as := [.int (nI 3), .int (nI 8)]) (mc' := 1) (ms' := 3 * 8) dX1_init_67 oX6_init kX6_init lX1_11 rfl (Nat.le_of_ble_eq_true rfl) rfl (by decide) (by decide) (t_init (t := p + 9) (zat_new c4) (by show x3.1 + 1 = _; omega) (by omega) (by decide) (by decide) (by decide) (fun v4 n4 t4 y4 => ?_))
  show Zw _ _ _ 70 [_] [_, _] _ _
  have g4 : zat v4 p _ := (h4.ad).up y4 (by omega)
  refine zw_putF dX1_init_70 pX1_29 rfl g4 (fun _ => rfl) (fun _ => rfl) (Nat.le_of_ble_eq_true rfl) ?_
  change Zw _ _ _ _ _ _ (zput v4 p (.inr (1, [.ref (p + 1), .ref (p + 3), .ref (p + 5), .ref (p + 7), .ref (p + 9), .null]))) _
  have h5 := g4.self (e' := .inr (1, [.ref (p + 1), .ref (p + 3), .ref (p + 5), .ref (p + 7), .ref (p + 9), .null]))
  have t0 := isT_putP ((t0.up (zUp.ad (t := p + 9) (e := .inr (6, [.int 0, .int 0, .null, .int 0])) (by omega)) (by omega)).up y4 (by omega)) (by omega) (i := p) (e' := .inr (1, [.ref (p + 1), .ref (p + 3), .ref (p + 5), .ref (p + 7), .ref (p + 9), .null]))
  have t1 := isT_putP ((t1.up (zUp.ad (t := p + 9) (e := .inr (6, [.int 0, .int 0, .null, .int 0])) (by omega)) (by omega)).up y4 (by omega)) (by omega) (i := p) (e' := .inr (1, [.ref (p + 1), .ref (p + 3), .ref (p + 5), .ref (p + 7), .ref (p + 9), .null]))
  have t2 := isT_putP ((t2.up (zUp.ad (t := p + 9) (e := .inr (6, [.int 0, .int 0, .null, .int 0])) (by omega)) (by omega)).up y4 (by omega)) (by omega) (i := p) (e' := .inr (1, [.ref (p + 1), .ref (p + 3), .ref (p + 5), .ref (p + 7), .ref (p + 9), .null]))
  have t3 := isT_putP ((t3.up (zUp.ad (t := p + 9) (e := .inr (6, [.int 0, .int 0, .null, .int 0])) (by omega)) (by omega)).up y4 (by omega)) (by omega) (i := p) (e' := .inr (1, [.ref (p + 1), .ref (p + 3), .ref (p + 5), .ref (p + 7), .ref (p + 9), .null]))
  have t4 := isT_putP t4 (by omega) (i := p) (e' := .inr (1, [.ref (p + 1), .ref (p + 3), .ref (p + 5), .ref (p + 7), .ref (p + 9), .null]))
  have u5 := u4.tr (((zUp.ad (by omega)).tr (y4.dn (by omega))).tr (zUp.pt (i := p) (e := .inr (1, [.ref (p + 1), .ref (p + 3), .ref (p + 5), .ref (p + 7), .ref (p + 9), .null])) (Nat.le_refl _)))
  have c5 : (zput v4 p (.inr (1, [.ref (p + 1), .ref (p + 3), .ref (p + 5), .ref (p + 7), .ref (p + 9), .null]))).1 = p + 11 := n4
  generalize zput v4 p (.inr (1, [.ref (p + 1), .ref (p + 3), .ref (p + 5), .ref (p + 7), .ref (p + 9), .null])) = x4 at h5 u5 c5 t0 t1 t2 t3 t4 ⊢
  refine zw_aload_n dX1_init_73 rfl ?_
  refine zw_new dX1_init_74 nX1_9 (by decide) (by decide) (by omega) ?_
  rw [c5]
  refine zw_dup dX1_init_77 rfl ?_
  refine zw_iconst dX1_init_78 3 (by decide) ?_
  refine zw_bipush dX1_init_79 12 (by decide) ?_
  refine zw_callI (as := [.int (nI 3), .int (nI 12)]) (mc' := 1) (ms' := 3 * 12) dX1_init_81 oX6_init kX6_init lX1_11 rfl (Nat.le_of_ble_eq_true rfl) rfl (by decide) (by decide) (t_init (t := p + 11) (zat_new c5) (by show x4.1 + 1 = _; omega) (by omega) (by decide) (by decide) (by decide) (fun v5 n5 t5 y5 => ?_))
  show Zw _ _ _ 84 [_] [_, _] _ _
  have g5 : zat v5 p _ := (h5.ad).up y5 (by omega)
  refine zw_putF dX1_init_84 pX1_32 rfl g5 (fun _ => rfl) (fun _ => rfl) (Nat.le_of_ble_eq_true rfl) ?_
  change Zw _ _ _ _ _ _ (zput v5 p (.inr (1, [.ref (p + 1), .ref (p + 3), .ref (p + 5), .ref (p + 7), .ref (p + 9), .ref (p + 11)]))) _
  have h6 := g5.self (e' := .inr (1, [.ref (p + 1), .ref (p + 3), .ref (p + 5), .ref (p + 7), .ref (p + 9), .ref (p + 11)]))
  have t0 := isT_putP ((t0.up (zUp.ad (t := p + 11) (e := .inr (6, [.int 0, .int 0, .null, .int 0])) (by omega)) (by omega)).up y5 (by omega)) (by omega) (i := p) (e' := .inr (1, [.ref (p + 1), .ref (p + 3), .ref (p + 5), .ref (p + 7), .ref (p + 9), .ref (p + 11)]))
  have t1 := isT_putP ((t1.up (zUp.ad (t := p + 11) (e := .inr (6, [.int 0, .int 0, .null, .int 0])) (by omega)) (by omega)).up y5 (by omega)) (by omega) (i := p) (e' := .inr (1, [.ref (p + 1), .ref (p + 3), .ref (p + 5), .ref (p + 7), .ref (p + 9), .ref (p + 11)]))
  have t2 := isT_putP ((t2.up (zUp.ad (t := p + 11) (e := .inr (6, [.int 0, .int 0, .null, .int 0])) (by omega)) (by omega)).up y5 (by omega)) (by omega) (i := p) (e' := .inr (1, [.ref (p + 1), .ref (p + 3), .ref (p + 5), .ref (p + 7), .ref (p + 9), .ref (p + 11)]))
  have t3 := isT_putP ((t3.up (zUp.ad (t := p + 11) (e := .inr (6, [.int 0, .int 0, .null, .int 0])) (by omega)) (by omega)).up y5 (by omega)) (by omega) (i := p) (e' := .inr (1, [.ref (p + 1), .ref (p + 3), .ref (p + 5), .ref (p + 7), .ref (p + 9), .ref (p + 11)]))
  have t4 := isT_putP ((t4.up (zUp.ad (t := p + 11) (e := .inr (6, [.int 0, .int 0, .null, .int 0])) (by omega)) (by omega)).up y5 (by omega)) (by omega) (i := p) (e' := .inr (1, [.ref (p + 1), .ref (p + 3), .ref (p + 5), .ref (p + 7), .ref (p + 9), .ref (p + 11)]))
  have t5 := isT_putP t5 (by omega) (i := p) (e' := .inr (1, [.ref (p + 1), .ref (p + 3), .ref (p + 5), .ref (p + 7), .ref (p + 9), .ref (p + 11)]))
  have u6 := u5.tr (((zUp.ad (by omega)).tr (y5.dn (by omega))).tr (zUp.pt (i := p) (e := .inr (1, [.ref (p + 1), .ref (p + 3), .ref (p + 5), .ref (p + 7), .ref (p + 9), .ref (p + 11)])) (Nat.le_refl _)))
  have c6 : (zput v5 p (.inr (1, [.ref (p + 1), .ref (p + 3), .ref (p + 5), .ref (p + 7), .ref (p + 9), .ref (p + 11)]))).1 = p + 13 := n5
  generalize zput v5 p (.inr (1, [.ref (p + 1), .ref (p + 3), .ref (p + 5), .ref (p + 7), .ref (p + 9), .ref (p + 11)])) = x5 at h6 u6 c6 t0 t1 t2 t3 t4 t5 ⊢
  refine zw_return dX1_init_87 rfl (by decide) (by decide) ?_
  exact k _ c6 ⟨h6, t0, t1, t2, t3, t4, t5⟩ u6
end ZCTOR
