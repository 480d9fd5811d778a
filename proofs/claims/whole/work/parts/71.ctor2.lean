/-! ===== constructors, second part (by mkctor.py) ===== -/
section ZCTOR2
variable {d : Nat} {w : ZW} {Q : Option Value → ZW → Prop}
theorem i_X7 (h : zat w 53 (.inr (7, [.null, .null, .int 0, .int 0, .int 0, .int 0, .int 0, .int 0]))) (hw : w.1 = 54) (k : ∀ w', w'.1 = 56 → isTx w' 0 (fun _ => 0) (fun _ => 0) 0 0 0 0 0 → zUp 53 w w' → Q none w') : Zm (d + 1) mX7_init 2 154 [.ref 53] w Q := by
  refine zm_intro [_] oX7_init (Nat.le_of_ble_eq_true rfl) rfl ?_
  refine zw_aload_n dX7_init_0 rfl ?_
  refine zw_objInit dX7_init_1 lX7_3 w_objInst w_objCode rfl (Nat.le_of_ble_eq_true rfl) ?_
  have u0 : zUp 53 w w := zUp.rf
  have c0 := hw
  have h0 := h
  refine zw_aload_n dX7_init_4 rfl ?_
  refine zw_sipush dX7_init_5 150 (by decide) ?_
  refine zw_newa (t := 1) (N := 150) dX7_init_8 rfl (by decide) (fun _ => rfl) rfl w_arr_byte (by decide) (by decide) (by decide) (by decide) (by decide) (by omega) ?_
  rw [c0]
  refine zw_putF dX7_init_10 pX7_9 rfl h0.ad (fun _ => rfl) (fun _ => rfl) (Nat.le_of_ble_eq_true rfl) ?_
  change Zw _ _ _ _ _ _ (zput (zadd w (.inl (1, 150, fun _ => 0))) 53 (.inr (7, [.ref 54, .null, .int 0, .int 0, .int 0, .int 0, .int 0, .int 0]))) _
  have h1 := (h0.ad (e' := .inl (1, 150, fun _ => 0))).self (e' := .inr (7, [.ref 54, .null, .int 0, .int 0, .int 0, .int 0, .int 0, .int 0]))
  have a0 := (zat_new (e := .inl (1, 150, fun _ => 0)) c0).put (i := 53) (e' := .inr (7, [.ref 54, .null, .int 0, .int 0, .int 0, .int 0, .int 0, .int 0])) (by decide)
  have u1 := u0.tr ((zUp.ad (e := .inl (1, 150, fun _ => 0)) (by omega)).tr (zUp.pt (i := 53) (e := .inr (7, [.ref 54, .null, .int 0, .int 0, .int 0, .int 0, .int 0, .int 0])) (Nat.le_refl _)))
  have c1 : (zput (zadd w (.inl (1, 150, fun _ => 0))) 53 (.inr (7, [.ref 54, .null, .int 0, .int 0, .int 0, .int 0, .int 0, .int 0]))).1 = 55 := by show w.1 + 1 = _; omega
  generalize zput (zadd w (.inl (1, 150, fun _ => 0))) 53 (.inr (7, [.ref 54, .null, .int 0, .int 0, .int 0, .int 0, .int 0, .int 0])) = x0 at h1 u1 c1 a0 ⊢
  refine zw_aload_n dX7_init_13 rfl ?_
  refine zw_iconst dX7_init_14 4 (by decide) ?_
  refine zw_newa (t := 0) (N := 4) dX7_init_15 rfl (by decide) (fun _ => rfl) rfl w_arr_int (by decide) (by decide) (by decide) (by decide) (by decide) (by omega) ?_
  rw [c1]
  refine zw_putF dX7_init_17 pX7_15 rfl h1.ad (fun _ => rfl) (fun _ => rfl) (Nat.le_of_ble_eq_true rfl) ?_
  change Zw _ _ _ _ _ _ (zput (zadd x0 (.inl (0, 4, fun _ => 0))) 53 (.inr (7, [.ref 54, .ref 55, .int 0, .int 0, .int 0, .int 0, .int 0, .int 0]))) _
  have h2 := (h1.ad (e' := .inl (0, 4, fun _ => 0))).self (e' := .inr (7, [.ref 54, .ref 55, .int 0, .int 0, .int 0, .int 0, .int 0, .int 0]))
  have a0 := (a0.ad (e' := .inl (0, 4, fun _ => 0))).put (i := 53) (e' := .inr (7, [.ref 54, .ref 55, .int 0, .int 0, .int 0, .int 0, .int 0, .int 0])) (by decide)
  have a1 := (zat_new (e := .inl (0, 4, fun _ => 0)) c1).put (i := 53) (e' := .inr (7, [.ref 54, .ref 55, .int 0, .int 0, .int 0, .int 0, .int 0, .int 0])) (by decide)
  have u2 := u1.tr ((zUp.ad (e := .inl (0, 4, fun _ => 0)) (by omega)).tr (zUp.pt (i := 53) (e := .inr (7, [.ref 54, .ref 55, .int 0, .int 0, .int 0, .int 0, .int 0, .int 0])) (Nat.le_refl _)))
  have c2 : (zput (zadd x0 (.inl (0, 4, fun _ => 0))) 53 (.inr (7, [.ref 54, .ref 55, .int 0, .int 0, .int 0, .int 0, .int 0, .int 0]))).1 = 56 := by show x0.1 + 1 = _; omega
  generalize zput (zadd x0 (.inl (0, 4, fun _ => 0))) 53 (.inr (7, [.ref 54, .ref 55, .int 0, .int 0, .int 0, .int 0, .int 0, .int 0])) = x1 at h2 u2 c2 a0 a1 ⊢
  refine zw_return dX7_init_20 rfl (by decide) (by decide) ?_
  exact k _ c2 ⟨h2, a0, a1, Nat.zero_le _⟩ u2
theorem i_X4 (h : zat w 56 (.inr (4, [.null, .null, .null, .int 0, .int 0]))) (hw : w.1 = 57) (k : ∀ w', w'.1 = 60 → isP w' 0 0 (fun _ => 0) (fun _ => 0) (fun _ => 0) → zUp 56 w w' → Q none w') : Zm (d + 1) mX4_init 3 1038 [.ref 56] w Q := by
  refine zm_intro [_] oX4_init (Nat.le_of_ble_eq_true rfl) rfl ?_
  refine zw_aload_n dX4_init_0 rfl ?_
  refine zw_objInit dX4_init_1 lX4_3 w_objInst w_objCode rfl (Nat.le_of_ble_eq_true rfl) ?_
  have u0 : zUp 56 w w := zUp.rf
  have c0 := hw
  have h0 := h
  refine zw_aload_n dX4_init_4 rfl ?_
  refine zw_bipush dX4_init_5 7 (by decide) ?_
  refine zw_newa (t := 0) (N := 7) dX4_init_7 rfl (by decide) (fun _ => rfl) rfl w_arr_int (by decide) (by decide) (by decide) (by decide) (by decide) (by omega) ?_
  rw [c0]
  refine zw_putF dX4_init_9 pX4_9 rfl h0.ad (fun _ => rfl) (fun _ => rfl) (Nat.le_of_ble_eq_true rfl) ?_
  change Zw _ _ _ _ _ _ (zput (zadd w (.inl (0, 7, fun _ => 0))) 56 (.inr (4, [.ref 57, .null, .null, .int 0, .int 0]))) _
  have h1 := (h0.ad (e' := .inl (0, 7, fun _ => 0))).self (e' := .inr (4, [.ref 57, .null, .null, .int 0, .int 0]))
  have a0 := (zat_new (e := .inl (0, 7, fun _ => 0)) c0).put (i := 56) (e' := .inr (4, [.ref 57, .null, .null, .int 0, .int 0])) (by decide)
  have u1 := u0.tr ((zUp.ad (e := .inl (0, 7, fun _ => 0)) (by omega)).tr (zUp.pt (i := 56) (e := .inr (4, [.ref 57, .null, .null, .int 0, .int 0])) (Nat.le_refl _)))
  have c1 : (zput (zadd w (.inl (0, 7, fun _ => 0))) 56 (.inr (4, [.ref 57, .null, .null, .int 0, .int 0]))).1 = 58 := by show w.1 + 1 = _; omega
  generalize zput (zadd w (.inl (0, 7, fun _ => 0))) 56 (.inr (4, [.ref 57, .null, .null, .int 0, .int 0])) = x0 at h1 u1 c1 a0 ⊢
  refine zw_aload_n dX4_init_12 rfl ?_
  refine zw_bipush dX4_init_13 7 (by decide) ?_
  refine zw_newa (t := 0) (N := 7) dX4_init_15 rfl (by decide) (fun _ => rfl) rfl w_arr_int (by decide) (by decide) (by decide) (by decide) (by decide) (by omega) ?_
  rw [c1]
  refine zw_putF dX4_init_17 pX4_15 rfl h1.ad (fun _ => rfl) (fun _ => rfl) (Nat.le_of_ble_eq_true rfl) ?_
  change Zw _ _ _ _ _ _ (zput (zadd x0 (.inl (0, 7, fun _ => 0))) 56 (.inr (4, [.ref 57, .ref 58, .null, .int 0, .int 0]))) _
  have h2 := (h1.ad (e' := .inl (0, 7, fun _ => 0))).self (e' := .inr (4, [.ref 57, .ref 58, .null, .int 0, .int 0]))
  have a0 := (a0.ad (e' := .inl (0, 7, fun _ => 0))).put (i := 56) (e' := .inr (4, [.ref 57, .ref 58, .null, .int 0, .int 0])) (by decide)
  have a1 := (zat_new (e := .inl (0, 7, fun _ => 0)) c1).put (i := 56) (e' := .inr (4, [.ref 57, .ref 58, .null, .int 0, .int 0])) (by decide)
  have u2 := u1.tr ((zUp.ad (e := .inl (0, 7, fun _ => 0)) (by omega)).tr (zUp.pt (i := 56) (e := .inr (4, [.ref 57, .ref 58, .null, .int 0, .int 0])) (Nat.le_refl _)))
  have c2 : (zput (zadd x0 (.inl (0, 7, fun _ => 0))) 56 (.inr (4, [.ref 57, .ref 58, .null, .int 0, .int 0]))).1 = 59 := by show x0.1 + 1 = _; omega
  generalize zput (zadd x0 (.inl (0, 7, fun _ => 0))) 56 (.inr (4, [.ref 57, .ref 58, .null, .int 0, .int 0])) = x1 at h2 u2 c2 a0 a1 ⊢
  refine zw_aload_n dX4_init_20 rfl ?_
  refine zw_sipush dX4_init_21 1024 (by decide) ?_
  refine zw_newa (t := 0) (N := 1024) dX4_init_24 rfl (by decide) (fun _ => rfl) rfl w_arr_int (by decide) (by decide) (by decide) (by decide) (by decide) (by omega) ?_
  rw [c2]
  refine zw_putF dX4_init_26 pX4_18 rfl h2.ad (fun _ => rfl) (fun _ => rfl) (Nat.le_of_ble_eq_true rfl) ?_
  change Zw _ _ _ _ _ _ (zput (zadd x1 (.inl (0, 1024, fun _ => 0))) 56 (.inr (4, [.ref 57, .ref 58, .ref 59, .int 0, .int 0]))) _
  have h3 := (h2.ad (e' := .inl (0, 1024, fun _ => 0))).self (e' := .inr (4, [.ref 57, .ref 58, .ref 59, .int 0, .int 0]))
  have a0 := (a0.ad (e' := .inl (0, 1024, fun _ => 0))).put (i := 56) (e' := .inr (4, [.ref 57, .ref 58, .ref 59, .int 0, .int 0])) (by decide)
  have a1 := (a1.ad (e' := .inl (0, 1024, fun _ => 0))).put (i := 56) (e' := .inr (4, [.ref 57, .ref 58, .ref 59, .int 0, .int 0])) (by decide)
  have a2 := (zat_new (e := .inl (0, 1024, fun _ => 0)) c2).put (i := 56) (e' := .inr (4, [.ref 57, .ref 58, .ref 59, .int 0, .int 0])) (by decide)
  have u3 := u2.tr ((zUp.ad (e := .inl (0, 1024, fun _ => 0)) (by omega)).tr (zUp.pt (i := 56) (e := .inr (4, [.ref 57, .ref 58, .ref 59, .int 0, .int 0])) (Nat.le_refl _)))
  have c3 : (zput (zadd x1 (.inl (0, 1024, fun _ => 0))) 56 (.inr (4, [.ref 57, .ref 58, .ref 59, .int 0, .int 0]))).1 = 60 := by show x1.1 + 1 = _; omega
  generalize zput (zadd x1 (.inl (0, 1024, fun _ => 0))) 56 (.inr (4, [.ref 57, .ref 58, .ref 59, .int 0, .int 0])) = x2 at h3 u3 c3 a0 a1 a2 ⊢
  refine zw_return dX4_init_29 rfl (by decide) (by decide) ?_
  exact k _ c3 ⟨h3, a0, a1, a2, Nat.zero_le _, Nat.zero_le _, fun _ _ => Nat.succ_pos 127⟩ u3
theorem i_X0 (h : zat w 60 (.inr (0, [.null, .null, .int 0]))) (hw : w.1 = 61) (k : ∀ w', w'.1 = 63 → isCq w' 0 (fun _ => 0) (fun _ => 0) → zUp 60 w w' → Q none w') : Zm (d + 1) mX0_init 2 256 [.ref 60] w Q := by
  refine zm_intro [_] oX0_init (Nat.le_of_ble_eq_true rfl) rfl ?_
  refine zw_aload_n dX0_init_0 rfl ?_
  refine zw_objInit dX0_init_1 lX0_3 w_objInst w_objCode rfl (Nat.le_of_ble_eq_true rfl) ?_
  have u0 : zUp 60 w w := zUp.rf
  have c0 := hw
  have h0 := h
  refine zw_aload_n dX0_init_4 rfl ?_
  refine zw_sipush dX0_init_5 128 (by decide) ?_
  refine zw_newa (t := 0) (N := 128) dX0_init_8 rfl (by decide) (fun _ => rfl) rfl w_arr_int (by decide) (by decide) (by decide) (by decide) (by decide) (by omega) ?_
  rw [c0]
  refine zw_putF dX0_init_10 pX0_9 rfl h0.ad (fun _ => rfl) (fun _ => rfl) (Nat.le_of_ble_eq_true rfl) ?_
  change Zw _ _ _ _ _ _ (zput (zadd w (.inl (0, 128, fun _ => 0))) 60 (.inr (0, [.ref 61, .null, .int 0]))) _
  have h1 := (h0.ad (e' := .inl (0, 128, fun _ => 0))).self (e' := .inr (0, [.ref 61, .null, .int 0]))
  have a0 := (zat_new (e := .inl (0, 128, fun _ => 0)) c0).put (i := 60) (e' := .inr (0, [.ref 61, .null, .int 0])) (by decide)
  have u1 := u0.tr ((zUp.ad (e := .inl (0, 128, fun _ => 0)) (by omega)).tr (zUp.pt (i := 60) (e := .inr (0, [.ref 61, .null, .int 0])) (Nat.le_refl _)))
  have c1 : (zput (zadd w (.inl (0, 128, fun _ => 0))) 60 (.inr (0, [.ref 61, .null, .int 0]))).1 = 62 := by show w.1 + 1 = _; omega
  generalize zput (zadd w (.inl (0, 128, fun _ => 0))) 60 (.inr (0, [.ref 61, .null, .int 0])) = x0 at h1 u1 c1 a0 ⊢
  refine zw_aload_n dX0_init_13 rfl ?_
  refine zw_sipush dX0_init_14 128 (by decide) ?_
  refine zw_newa (t := 2) (N := 128) dX0_init_17 rfl (by decide) (fun _ => rfl) rfl w_arr_boolean (by decide) (by decide) (by decide) (by decide) (by decide) (by omega) ?_
  rw [c1]
  refine zw_putF dX0_init_19 pX0_15 rfl h1.ad (fun _ => rfl) (fun _ => rfl) (Nat.le_of_ble_eq_true rfl) ?_
  change Zw _ _ _ _ _ _ (zput (zadd x0 (.inl (2, 128, fun _ => 0))) 60 (.inr (0, [.ref 61, .ref 62, .int 0]))) _
  have h2 := (h1.ad (e' := .inl (2, 128, fun _ => 0))).self (e' := .inr (0, [.ref 61, .ref 62, .int 0]))
  have a0 := (a0.ad (e' := .inl (2, 128, fun _ => 0))).put (i := 60) (e' := .inr (0, [.ref 61, .ref 62, .int 0])) (by decide)
  have a1 := (zat_new (e := .inl (2, 128, fun _ => 0)) c1).put (i := 60) (e' := .inr (0, [.ref 61, .ref 62, .int 0])) (by decide)
  have u2 := u1.tr ((zUp.ad (e := .inl (2, 128, fun _ => 0)) (by omega)).tr (zUp.pt (i := 60) (e := .inr (0, [.ref 61, .ref 62, .int 0])) (Nat.le_refl _)))
  have c2 : (zput (zadd x0 (.inl (2, 128, fun _ => 0))) 60 (.inr (0, [.ref 61, .ref 62, .int 0]))).1 = 63 := by show x0.1 + 1 = _; omega
  generalize zput (zadd x0 (.inl (2, 128, fun _ => 0))) 60 (.inr (0, [.ref 61, .ref 62, .int 0])) = x1 at h2 u2 c2 a0 a1 ⊢
  refine zw_return dX0_init_22 rfl (by decide) (by decide) ?_
  exact k _ c2 ⟨h2, a0, a1⟩ u2
theorem i_X5 (h : zat w 63 (.inr (5, [.null, .int 0]))) (hw : w.1 = 64) (k : ∀ w', w'.1 = 65 → isRk w' 0 (fun _ => 0) → zUp 63 w w' → Q none w') : Zm (d + 1) mX5_init 1 7 [.ref 63] w Q := by
  refine zm_intro [_] oX5_init (Nat.le_of_ble_eq_true rfl) rfl ?_
  refine zw_aload_n dX5_init_0 rfl ?_
  refine zw_objInit dX5_init_1 lX5_3 w_objInst w_objCode rfl (Nat.le_of_ble_eq_true rfl) ?_
  have u0 : zUp 63 w w := zUp.rf
  have c0 := hw
  have h0 := h
  refine zw_aload_n dX5_init_4 rfl ?_
  refine zw_bipush dX5_init_5 7 (by decide) ?_
  refine zw_newa (t := 0) (N := 7) dX5_init_7 rfl (by decide) (fun _ => rfl) rfl w_arr_int (by decide) (by decide) (by decide) (by decide) (by decide) (by omega) ?_
  rw [c0]
  refine zw_putF dX5_init_9 pX5_9 rfl h0.ad (fun _ => rfl) (fun _ => rfl) (Nat.le_of_ble_eq_true rfl) ?_
  change Zw _ _ _ _ _ _ (zput (zadd w (.inl (0, 7, fun _ => 0))) 63 (.inr (5, [.ref 64, .int 0]))) _
  have h1 := (h0.ad (e' := .inl (0, 7, fun _ => 0))).self (e' := .inr (5, [.ref 64, .int 0]))
  have a0 := (zat_new (e := .inl (0, 7, fun _ => 0)) c0).put (i := 63) (e' := .inr (5, [.ref 64, .int 0])) (by decide)
  have u1 := u0.tr ((zUp.ad (e := .inl (0, 7, fun _ => 0)) (by omega)).tr (zUp.pt (i := 63) (e := .inr (5, [.ref 64, .int 0])) (Nat.le_refl _)))
  have c1 : (zput (zadd w (.inl (0, 7, fun _ => 0))) 63 (.inr (5, [.ref 64, .int 0]))).1 = 65 := by show w.1 + 1 = _; omega
  generalize zput (zadd w (.inl (0, 7, fun _ => 0))) 63 (.inr (5, [.ref 64, .int 0])) = x0 at h1 u1 c1 a0 ⊢
  refine zw_return dX5_init_12 rfl (by decide) (by decide) ?_
  exact k _ c1 ⟨h1, a0, Nat.zero_le _⟩ u1
theorem i_X2 (h : zat w 65 (.inr (2, [.null, .null, .null, .null, .null, .null, .null, .int 0, .int 0]))) (hw : w.1 = 66) (k : ∀ w', w'.1 = 73 → isFd w' 0 (fun _ => 0) (fun _ => 0) (fun _ => 0) (fun _ => 0) (fun _ => 0) (fun _ => 0) (fun _ => 0) 0 → zUp 65 w w' → Q none w') : Zm (d + 1) mX2_init 7 91 [.ref 65] w Q := by
  refine zm_intro [_] oX2_init (Nat.le_of_ble_eq_true rfl) rfl ?_
  refine zw_aload_n dX2_init_0 rfl ?_
  refine zw_objInit dX2_init_1 lX2_3 w_objInst w_objCode rfl (Nat.le_of_ble_eq_true rfl) ?_
  have u0 : zUp 65 w w := zUp.rf
  have c0 := hw
  have h0 := h
  refine zw_aload_n dX2_init_4 rfl ?_
  refine zw_bipush dX2_init_5 7 (by decide) ?_
  refine zw_newa (t := 0) (N := 7) dX2_init_7 rfl (by decide) (fun _ => rfl) rfl w_arr_int (by decide) (by decide) (by decide) (by decide) (by decide) (by omega) ?_
  rw [c0]
  refine zw_putF dX2_init_9 pX2_9 rfl h0.ad (fun _ => rfl) (fun _ => rfl) (Nat.le_of_ble_eq_true rfl) ?_
  change Zw _ _ _ _ _ _ (zput (zadd w (.inl (0, 7, fun _ => 0))) 65 (.inr (2, [.ref 66, .null, .null, .null, .null, .null, .null, .int 0, .int 0]))) _
  have h1 := (h0.ad (e' := .inl (0, 7, fun _ => 0))).self (e' := .inr (2, [.ref 66, .null, .null, .null, .null, .null, .null, .int 0, .int 0]))
  have a0 := (zat_new (e := .inl (0, 7, fun _ => 0)) c0).put (i := 65) (e' := .inr (2, [.ref 66, .null, .null, .null, .null, .null, .null, .int 0, .int 0])) (by decide)
  have u1 := u0.tr ((zUp.ad (e := .inl (0, 7, fun _ => 0)) (by omega)).tr (zUp.pt (i := 65) (e := .inr (2, [.ref 66, .null, .null, .null, .null, .null, .null, .int 0, .int 0])) (Nat.le_refl _)))
  have c1 : (zput (zadd w (.inl (0, 7, fun _ => 0))) 65 (.inr (2, [.ref 66, .null, .null, .null, .null, .null, .null, .int 0, .int 0]))).1 = 67 := by show w.1 + 1 = _; omega
  generalize zput (zadd w (.inl (0, 7, fun _ => 0))) 65 (.inr (2, [.ref 66, .null, .null, .null, .null, .null, .null, .int 0, .int 0])) = x0 at h1 u1 c1 a0 ⊢
  refine zw_aload_n dX2_init_12 rfl ?_
  refine zw_bipush dX2_init_13 7 (by decide) ?_
  refine zw_newa (t := 0) (N := 7) dX2_init_15 rfl (by decide) (fun _ => rfl) rfl w_arr_int (by decide) (by decide) (by decide) (by decide) (by decide) (by omega) ?_
  rw [c1]
  refine zw_putF dX2_init_17 pX2_15 rfl h1.ad (fun _ => rfl) (fun _ => rfl) (Nat.le_of_ble_eq_true rfl) ?_
  change Zw _ _ _ _ _ _ (zput (zadd x0 (.inl (0, 7, fun _ => 0))) 65 (.inr (2, [.ref 66, .ref 67, .null, .null, .null, .null, .null, .int 0, .int 0]))) _
  have h2 := (h1.ad (e' := .inl (0, 7, fun _ => 0))).self (e' := .inr (2, [.ref 66, .ref 67, .null, .null, .null, .null, .null, .int 0, .int 0]))
  have a0 := (a0.ad (e' := .inl (0, 7, fun _ => 0))).put (i := 65) (e' := .inr (2, [.ref 66, .ref 67, .null, .null, .null, .null, .null, .int 0, .int 0])) (by decide)
  have a1 := (zat_new (e := .inl (0, 7, fun _ => 0)) c1).put (i := 65) (e' := .inr (2, [.ref 66, .ref 67, .null, .null, .null, .null, .null, .int 0, .int 0])) (by decide)
  have u2 := u1.tr ((zUp.ad (e := .inl (0, 7, fun _ => 0)) (by omega)).tr (zUp.pt (i := 65) (e := .inr (2, [.ref 66, .ref 67, .null, .null, .null, .null, .null, .int 0, .int 0])) (Nat.le_refl _)))
  have c2 : (zput (zadd x0 (.inl (0, 7, fun _ => 0))) 65 (.inr (2, [.ref 66, .ref 67, .null, .null, .null, .null, .null, .int 0, .int 0]))).1 = 68 := by show x0.1 + 1 = _; omega
  generalize zput (zadd x0 (.inl (0, 7, fun _ => 0))) 65 (.inr (2, [.ref 66, .ref 67, .null, .null, .null, .null, .null, .int 0, .int 0])) = x1 at h2 u2 c2 a0 a1 ⊢
  refine zw_aload_n dX2_init_20 rfl ?_
  refine zw_bipush dX2_init_21 7 (by decide) ?_
  refine zw_newa (t := 0) (N := 7) dX2_init_23 rfl (by decide) (fun _ => rfl) rfl w_arr_int (by decide) (by decide) (by decide) (by decide) (by decide) (by omega) ?_
  rw [c2]
  refine zw_putF dX2_init_25 pX2_18 rfl h2.ad (fun _ => rfl) (fun _ => rfl) (Nat.le_of_ble_eq_true rfl) ?_
  change Zw _ _ _ _ _ _ (zput (zadd x1 (.inl (0, 7, fun _ => 0))) 65 (.inr (2, [.ref 66, .ref 67, .ref 68, .null, .null, .null, .null, .int 0, .int 0]))) _
  have h3 := (h2.ad (e' := .inl (0, 7, fun _ => 0))).self (e' := .inr (2, [.ref 66, .ref 67, .ref 68, .null, .null, .null, .null, .int 0, .int 0]))
  have a0 := (a0.ad (e' := .inl (0, 7, fun _ => 0))).put (i := 65) (e' := .inr (2, [.ref 66, .ref 67, .ref 68, .null, .null, .null, .null, .int 0, .int 0])) (by decide)
  have a1 := (a1.ad (e' := .inl (0, 7, fun _ => 0))).put (i := 65) (e' := .inr (2, [.ref 66, .ref 67, .ref 68, .null, .null, .null, .null, .int 0, .int 0])) (by decide)
  have a2 := (zat_new (e := .inl (0, 7, fun _ => 0)) c2).put (i := 65) (e' := .inr (2, [.ref 66, .ref 67, .ref 68, .null, .null, .null, .null, .int 0, .int 0])) (by decide)
  have u3 := u2.tr ((zUp.ad (e := .inl (0, 7, fun _ => 0)) (by omega)).tr (zUp.pt (i := 65) (e := .inr (2, [.ref 66, .ref 67, .ref 68, .null, .null, .null, .null, .int 0, .int 0])) (Nat.le_refl _)))
  have c3 : (zput (zadd x1 (.inl (0, 7, fun _ => 0))) 65 (.inr (2, [.ref 66, .ref 67, .ref 68, .null, .null, .null, .null, .int 0, .int 0]))).1 = 69 := by show x1.1 + 1 = _; omega
  generalize zput (zadd x1 (.inl (0, 7, fun _ => 0))) 65 (.inr (2, [.ref 66, .ref 67, .ref 68, .null, .null, .null, .null, .int 0, .int 0])) = x2 at h3 u3 c3 a0 a1 a2 ⊢
  refine zw_aload_n dX2_init_28 rfl ?_
  refine zw_bipush dX2_init_29 7 (by decide) ?_
  refine zw_newa (t := 0) (N := 7) dX2_init_31 rfl (by decide) (fun _ => rfl) rfl w_arr_int (by decide) (by decide) (by decide) (by decide) (by decide) (by omega) ?_
  rw [c3]
  refine zw_putF dX2_init_33 pX2_21 rfl h3.ad (fun _ => rfl) (fun _ => rfl) (Nat.le_of_ble_eq_true rfl) ?_
  change Zw _ _ _ _ _ _ (zput (zadd x2 (.inl (0, 7, fun _ => 0))) 65 (.inr (2, [.ref 66, .ref 67, .ref 68, .ref 69, .null, .null, .null, .int 0, .int 0]))) _
  have h4 := (h3.ad (e' := .inl (0, 7, fun _ => 0))).self (e' := .inr (2, [.ref 66, .ref 67, .ref 68, .ref 69, .null, .null, .null, .int 0, .int 0]))
  have a0 := (a0.ad (e' := .inl (0, 7, fun _ => 0))).put (i := 65) (e' := .inr (2, [.ref 66, .ref 67, .ref 68, .ref 69, .null, .null, .null, .int 0, .int 0])) (by decide)
  have a1 := (a1.ad (e' := .inl (0, 7, fun _ => 0))).put (i := 65) (e' := .inr (2, [.ref 66, .ref 67, .ref 68, .ref 69, .null, .null, .null, .int 0, .int 0])) (by decide)
  have a2 := (a2.ad (e' := .inl (0, 7, fun _ => 0))).put (i := 65) (e' := .inr (2, [.ref 66, .ref 67, .ref 68, .ref 69, .null, .null, .null, .int 0, .int 0])) (by decide)
  have a3 := (zat_new (e := .inl (0, 7, fun _ => 0)) c3).put (i := 65) (e' := .inr (2, [.ref 66, .ref 67, .ref 68, .ref 69, .null, .null, .null, .int 0, .int 0])) (by decide)
  have u4 := u3.tr ((zUp.ad (e := .inl (0, 7, fun _ => 0)) (by omega)).tr (zUp.pt (i := 65) (e := .inr (2, [.ref 66, .ref 67, .ref 68, .ref 69, .null, .null, .null, .int 0, .int 0])) (Nat.le_refl _)))
  have c4 : (zput (zadd x2 (.inl (0, 7, fun _ => 0))) 65 (.inr (2, [.ref 66, .ref 67, .ref 68, .ref 69, .null, .null, .null, .int 0, .int 0]))).1 = 70 := by show x2.1 + 1 = _; omega
  generalize zput (zadd x2 (.inl (0, 7, fun _ => 0))) 65 (.inr (2, [.ref 66, .ref 67, .ref 68, .ref 69, .null, .null, .null, .int 0, .int 0])) = x3 at h4 u4 c4 a0 a1 a2 a3 ⊢
  refine zw_aload_n dX2_init_36 rfl ?_
  refine zw_bipush dX2_init_37 7 (by decide) ?_
  refine zw_newa (t := 0) (N := 7) dX2_init_39 rfl (by decide) (fun _ => rfl) rfl w_arr_int (by decide) (by decide) (by decide) (by decide) (by decide) (by omega) ?_
  rw [c4]
  refine zw_putF dX2_init_41 pX2_24 rfl h4.ad (fun _ => rfl) (fun _ => rfl) (Nat.le_of_ble_eq_true rfl) ?_
  change Zw _ _ _ _ _ _ (zput (zadd x3 (.inl (0, 7, fun _ => 0))) 65 (.inr (2, [.ref 66, .ref 67, .ref 68, .ref 69, .ref 70, .null, .null, .int 0, .int 0]))) _
  have h5 := (h4.ad (e' := .inl (0, 7, fun _ => 0))).self (e' := .inr (2, [.ref 66, .ref 67, .ref 68, .ref 69, .ref 70, .null, .null, .int 0, .int 0]))
  have a0 := (a0.ad (e' := .inl (0, 7, fun _ => 0))).put (i := 65) (e' := .inr (2, [.ref 66, .ref 67, .ref 68, .ref 69, .ref 70, .null, .null, .int 0, .int 0])) (by decide)
  have a1 := (a1.ad (e' := .inl (0, 7, fun _ => 0))).put (i := 65) (e' := .inr (2, [.ref 66, .ref 67, .ref 68, .ref 69, .ref 70, .null, .null, .int 0, .int 0])) (by decide)
  have a2 := (a2.ad (e' := .inl (0, 7, fun _ => 0))).put (i := 65) (e' := .inr (2, [.ref 66, .ref 67, .ref 68, .ref 69, .ref 70, .null, .null, .int 0, .int 0])) (by decide)
  have a3 := (a3.ad (e' := .inl (0, 7, fun _ => 0))).put (i := 65) (e' := .inr (2, [.ref 66, .ref 67, .ref 68, .ref 69, .ref 70, .null, .null, .int 0, .int 0])) (by decide)
  have a4 := (zat_new (e := .inl (0, 7, fun _ => 0)) c4).put (i := 65) (e' := .inr (2, [.ref 66, .ref 67, .ref 68, .ref 69, .ref 70, .null, .null, .int 0, .int 0])) (by decide)
  have u5 := u4.tr ((zUp.ad (e := .inl (0, 7, fun _ => 0)) (by omega)).tr (zUp.pt (i := 65) (e := .inr (2, [.ref 66, .ref 67, .ref 68, .ref 69, .ref 70, .null, .null, .int 0, .int 0])) (Nat.le_refl _)))
  have c5 : (zput (zadd x3 (.inl (0, 7, fun _ => 0))) 65 (.inr (2, [.ref 66, .ref 67, .ref 68, .ref 69, .ref 70, .null, .null, .int 0, .int 0]))).1 = 71 := by show x3.1 + 1 = _; omega
  generalize zput (zadd x3 (.inl (0, 7, fun _ => 0))) 65 (.inr (2, [.ref 66, .ref 67, .ref 68, .ref 69, .ref 70, .null, .null, .int 0, .int 0])) = x4 at h5 u5 c5 a0 a1 a2 a3 a4 ⊢
  refine zw_aload_n dX2_init_44 rfl ?_
  refine zw_bipush dX2_init_45 7 (by decide) ?_
  refine zw_newa (t := 0) (N := 7) dX2_init_47 rfl (by decide) (fun _ => rfl) rfl w_arr_int (by decide) (by decide) (by decide) (by decide) (by decide) (by omega) ?_
  rw [c5]
  refine zw_putF dX2_init_49 pX2_27 rfl h5.ad (fun _ => rfl) (fun _ => rfl) (Nat.le_of_ble_eq_true rfl) ?_
  change Zw _ _ _ _ _ _ (zput (zadd x4 (.inl (0, 7, fun _ => 0))) 65 (.inr (2, [.ref 66, .ref 67, .ref 68, .ref 69, .ref 70, .ref 71, .null, .int 0, .int 0]))) _
  have h6 := (h5.ad (e' := .inl (0, 7, fun _ => 0))).self (e' := .inr (2, [.ref 66, .ref 67, .ref 68, .ref 69, .ref 70, .ref 71, .null, .int 0, .int 0]))
  have a0 := (a0.ad (e' := .inl (0, 7, fun _ => 0))).put (i := 65) (e' := .inr (2, [.ref 66, .ref 67, .ref 68, .ref 69, .ref 70, .ref 71, .null, .int 0, .int 0])) (by decide)
  have a1 := (a1.ad (e' := .inl (0, 7, fun _ => 0))).put (i := 65) (e' := .inr (2, [.ref 66, .ref 67, .ref 68, .ref 69, .ref 70, .ref 71, .null, .int 0, .int 0])) (by decide)
  have a2 := (a2.ad (e' := .inl (0, 7, fun _ => 0))).put (i := 65) (e' := .inr (2, [.ref 66, .ref 67, .ref 68, .ref 69, .ref 70, .ref 71, .null, .int 0, .int 0])) (by decide)
  have a3 := (a3.ad (e' := .inl (0, 7, fun _ => 0))).put (i := 65) (e' := .inr (2, [.ref 66, .ref 67, .ref 68, .ref 69, .ref 70, .ref 71, .null, .int 0, .int 0])) (by decide)
  have a4 := (a4.ad (e' := .inl (0, 7, fun _ => 0))).put (i := 65) (e' := .inr (2, [.ref 66, .ref 67, .ref 68, .ref 69, .ref 70, .ref 71, .null, .int 0, .int 0])) (by decide)
  have a5 := (zat_new (e := .inl (0, 7, fun _ => 0)) c5).put (i := 65) (e' := .inr (2, [.ref 66, .ref 67, .ref 68, .ref 69, .ref 70, .ref 71, .null, .int 0, .int 0])) (by decide)
  have u6 := u5.tr ((zUp.ad (e := .inl (0, 7, fun _ => 0)) (by omega)).tr (zUp.pt (i := 65) (e := .inr (2, [.ref 66, .ref 67, .ref 68, .ref 69, .ref 70, .ref 71, .null, .int 0, .int 0])) (Nat.le_refl _)))
  have c6 : (zput (zadd x4 (.inl (0, 7, fun _ => 0))) 65 (.inr (2, [.ref 66, .ref 67, .ref 68, .ref 69, .ref 70, .ref 71, .null, .int 0, .int 0]))).1 = 72 := by show x4.1 + 1 = _; omega
  generalize zput (zadd x4 (.inl (0, 7, fun _ => 0))) 65 (.inr (2, [.ref 66, .ref 67, .ref 68, .ref 69, .ref 70, .ref 71, .null, .int 0, .int 0])) = x5 at h6 u6 c6 a0 a1 a2 a3 a4 a5 ⊢
  refine zw_aload_n dX2_init_52 rfl ?_
  refine zw_bipush dX2_init_53 49 (by decide) ?_
  refine zw_newa (t := 0) (N := 49) dX2_init_55 rfl (by decide) (fun _ => rfl) rfl w_arr_int (by decide) (by decide) (by decide) (by decide) (by decide) (by omega) ?_
  rw [c6]
  refine zw_putF dX2_init_57 pX2_30 rfl h6.ad (fun _ => rfl) (fun _ => rfl) (Nat.le_of_ble_eq_true rfl) ?_
  change Zw _ _ _ _ _ _ (zput (zadd x5 (.inl (0, 49, fun _ => 0))) 65 (.inr (2, [.ref 66, .ref 67, .ref 68, .ref 69, .ref 70, .ref 71, .ref 72, .int 0, .int 0]))) _
  have h7 := (h6.ad (e' := .inl (0, 49, fun _ => 0))).self (e' := .inr (2, [.ref 66, .ref 67, .ref 68, .ref 69, .ref 70, .ref 71, .ref 72, .int 0, .int 0]))
  have a0 := (a0.ad (e' := .inl (0, 49, fun _ => 0))).put (i := 65) (e' := .inr (2, [.ref 66, .ref 67, .ref 68, .ref 69, .ref 70, .ref 71, .ref 72, .int 0, .int 0])) (by decide)
  have a1 := (a1.ad (e' := .inl (0, 49, fun _ => 0))).put (i := 65) (e' := .inr (2, [.ref 66, .ref 67, .ref 68, .ref 69, .ref 70, .ref 71, .ref 72, .int 0, .int 0])) (by decide)
  have a2 := (a2.ad (e' := .inl (0, 49, fun _ => 0))).put (i := 65) (e' := .inr (2, [.ref 66, .ref 67, .ref 68, .ref 69, .ref 70, .ref 71, .ref 72, .int 0, .int 0])) (by decide)
  have a3 := (a3.ad (e' := .inl (0, 49, fun _ => 0))).put (i := 65) (e' := .inr (2, [.ref 66, .ref 67, .ref 68, .ref 69, .ref 70, .ref 71, .ref 72, .int 0, .int 0])) (by decide)
  have a4 := (a4.ad (e' := .inl (0, 49, fun _ => 0))).put (i := 65) (e' := .inr (2, [.ref 66, .ref 67, .ref 68, .ref 69, .ref 70, .ref 71, .ref 72, .int 0, .int 0])) (by decide)
  have a5 := (a5.ad (e' := .inl (0, 49, fun _ => 0))).put (i := 65) (e' := .inr (2, [.ref 66, .ref 67, .ref 68, .ref 69, .ref 70, .ref 71, .ref 72, .int 0, .int 0])) (by decide)
  have a6 := (zat_new (e := .inl (0, 49, fun _ => 0)) c6).put (i := 65) (e' := .inr (2, [.ref 66, .ref 67, .ref 68, .ref 69, .ref 70, .ref 71, .ref 72, .int 0, .int 0])) (by decide)
  have u7 := u6.tr ((zUp.ad (e := .inl (0, 49, fun _ => 0)) (by omega)).tr (zUp.pt (i := 65) (e := .inr (2, [.ref 66, .ref 67, .ref 68, .ref 69, .ref 70, .ref 71, .ref 72, .int 0, .int 0])) (Nat.le_refl _)))
  have c7 : (zput (zadd x5 (.inl (0, 49, fun _ => 0))) 65 (.inr (2, [.ref 66, .ref 67, .ref 68, .ref 69, .ref 70, .ref 71, .ref 72, .int 0, .int 0]))).1 = 73 := by show x5.1 + 1 = _; omega
  generalize zput (zadd x5 (.inl (0, 49, fun _ => 0))) 65 (.inr (2, [.ref 66, .ref 67, .ref 68, .ref 69, .ref 70, .ref 71, .ref 72, .int 0, .int 0])) = x6 at h7 u7 c7 a0 a1 a2 a3 a4 a5 a6 ⊢
  refine zw_return dX2_init_60 rfl (by decide) (by decide) ?_
  exact k _ c7 ⟨h7, a0, a1, a2, a3, a4, a5, a6, Nat.zero_le _, fun _ => ⟨Nat.succ_pos 127, Nat.succ_pos 127, Nat.succ_pos 127, Nat.succ_pos 127⟩⟩ u7
theorem i_X3 (h : zat w 73 (.inr (3, [.long 0, .long 0]))) (hw : w.1 = 74) (k : ∀ w', w'.1 = 74 → isFr w' 0 1 → zUp 73 w w' → Q none w') : Zm (d + 1) mX3_init 0 0 [.ref 73] w Q := by
  refine zm_intro [_] oX3_init (Nat.le_of_ble_eq_true rfl) rfl ?_
  refine zw_aload_n dX3_init_0 rfl ?_
  refine zw_objInit dX3_init_1 lX3_1 w_objInst w_objCode rfl (Nat.le_of_ble_eq_true rfl) ?_
  refine zw_aload_n dX3_init_4 rfl ?_
  refine zw_lconst dX3_init_5 1 (by decide) ?_
  refine zw_put dX3_init_6 pX3_7 h (fun _ => rfl) (fun _ => rfl) (Nat.le_of_ble_eq_true rfl) ?_
  refine zw_return dX3_init_9 rfl (Nat.le_refl _) (Nat.le_refl _) ?_
  exact k _ hw h.self (zUp.pt (Nat.le_refl _))
/-- what lies from lo to hi is as it was, and nothing is gone -/
def zKp (lo hi : Nat) (w w' : ZW) : Prop := w.1 ≤ w'.1 ∧ ∀ i, lo ≤ i → i < hi → w'.2 i = w.2 i
theorem zat.kp {lo hi i : Nat} {w w' : ZW} {e : ZE} (h : zat w i e) (u : zKp lo hi w w') (h1 : lo ≤ i ∧ i < hi) : zat w' i e := ⟨Nat.lt_of_lt_of_le h.1 u.1, (u.2 i h1.1 h1.2).trans h.2⟩
theorem zKp_of {t : Nat} {w v : ZW} {e e' : ZE} (hw : t ≤ w.1) (y : zUp t (zadd w e') v) : zKp 1 t w (zput v 0 e) := ⟨Nat.le_trans (Nat.le_succ _) y.1, fun i h1 h2 => by
  show va_up v.2 0 e i = _
  unfold va_up
  rw [if_neg (by omega), y.2 i h2]
  exact (zUp.ad (e := e') hw).2 i h2⟩
theorem zKp_pt {t : Nat} {v : ZW} {e : ZE} : zKp 1 t v (zput v 0 e) := ⟨Nat.le_refl _, fun i h1 _ => by
  show va_up v.2 0 e i = _
  unfold va_up
  rw [if_neg (by omega)]⟩
theorem isT.kp {lo hi t W R : Nat} {w w' : ZW} {q : Nat × (Nat → Int32)} (h : isT w t W R q) (u : zKp lo hi w w') (h1 : lo ≤ t ∧ t + 1 < hi) : isT w' t W R q := ⟨h.1.kp u (by omega), h.2.1.kp u (by omega), h.2.2⟩
theorem isC.kp {lo hi p : Nat} {w w' : ZW} {C : Nat → Nat × (Nat → Int32)} (h : isC w p C) (u : zKp lo hi w w') (h1 : lo ≤ p ∧ p + 13 ≤ hi) : isC w' p C := ⟨h.1.kp u (by omega), h.2.1.kp u (by omega), h.2.2.1.kp u (by omega), h.2.2.2.1.kp u (by omega), h.2.2.2.2.1.kp u (by omega), h.2.2.2.2.2.1.kp u (by omega), h.2.2.2.2.2.2.kp u (by omega)⟩
theorem isTx.kp {hi : Nat} {w w' : ZW} {len : Nat} {bt nm : Nat → Int32} {st en : Nat} {tk va iw : Int32} (h : isTx w len bt nm st en tk va iw) (u : zKp 1 hi w w') (h1 : 56 ≤ hi) : isTx w' len bt nm st en tk va iw := ⟨h.1.kp u (by omega), h.2.1.kp u (by omega), h.2.2.1.kp u (by omega), h.2.2.2⟩
theorem isP.kp {hi r c : Nat} {w w' : ZW} {op : Nat → Nat} {wo be : Nat → Int32} (h : isP w r c op wo be) (u : zKp 1 hi w w') (h1 : 60 ≤ hi) : isP w' r c op wo be := ⟨h.1.kp u (by omega), h.2.1.kp u (by omega), h.2.2.1.kp u (by omega), h.2.2.2.1.kp u (by omega), h.2.2.2.2⟩
theorem isCq.kp {hi : Nat} {w w' : ZW} {v : Int32} {re : Nat → Nat} {li : Nat → Int32} (h : isCq w v re li) (u : zKp 1 hi w w') (h1 : 63 ≤ hi) : isCq w' v re li := ⟨h.1.kp u (by omega), h.2.1.kp u (by omega), h.2.2.kp u (by omega)⟩
theorem isRk.kp {hi n : Nat} {w w' : ZW} {ks : Nat → Int32} (h : isRk w n ks) (u : zKp 1 hi w w') (h1 : 65 ≤ hi) : isRk w' n ks := ⟨h.1.kp u (by omega), h.2.1.kp u (by omega), h.2.2⟩
theorem isFd.kp {hi n : Nat} {w w' : ZW} {sz pl wy : Nat → Int32} {al le sm gr : Nat → Nat} {ways : Int32} (h : isFd w n sz al le sm gr pl wy ways) (u : zKp 1 hi w w') (h1 : 73 ≤ hi) : isFd w' n sz al le sm gr pl wy ways := ⟨h.1.kp u (by omega), h.2.1.kp u (by omega), h.2.2.1.kp u (by omega), h.2.2.2.1.kp u (by omega), h.2.2.2.2.1.kp u (by omega), h.2.2.2.2.2.1.kp u (by omega), h.2.2.2.2.2.2.1.kp u (by omega), h.2.2.2.2.2.2.2.1.kp u (by omega), h.2.2.2.2.2.2.2.2⟩
/-- nothing in a cupboard -/
def cE : Cup := fun _ => (0, fun _ => 0)
theorem i_X8 (h : zat w 0 (.inr (8, [.null, .null, .null, .null, .null, .null, .null, .null, .null, .null, .int 0, .int 0, .int 0, .int 0]))) (hw : w.1 = 1) (k : ∀ w', w'.1 = 74 → isS w' cE cE cE 0 (fun _ => 0) 0 1 0 0 0 0 → Q none w') : Zm (d + 3) mX8_init 73 2347 [.ref 0] w Q := by
  refine zm_intro [_] oX8_init (Nat.le_of_ble_eq_true rfl) rfl ?_
  refine zw_aload_n dX8_init_0 rfl ?_
  refine zw_objInit dX8_init_1 lX8_3 w_objInst w_objCode rfl (Nat.le_of_ble_eq_true rfl) ?_
  have c0 := hw
  have h0 := h
  refine zw_aload_n dX8_init_4 rfl ?_
  refine zw_new dX8_init_5 nX8_9 (by decide) (by decide) (by omega) ?_
  rw [c0]
  refine zw_dup dX8_init_8 rfl ?_
  refine zw_callI (as := []) (mc' := 12) (ms' := 187) dX8_init_9 oX1_init kX1_init lX8_11 rfl (Nat.le_of_ble_eq_true rfl) rfl (by decide) (by decide) (c_init (zat_new c0) (by show w.1 + 1 = _; omega) (by decide) (fun v0 n0 t0 y0 => ?_))
  show Zw _ _ _ 12 [_] [_, _] _ _
  have g0 : zat v0 0 _ := (h0.ad).up y0 (by decide)
  refine zw_putF dX8_init_12 pX8_12 rfl g0 (fun _ => rfl) (fun _ => rfl) (Nat.le_of_ble_eq_true rfl) ?_
  change Zw _ _ _ _ _ _ (zput v0 0 (.inr (8, [.ref 1, .null, .null, .null, .null, .null, .null, .null, .null, .null, .int 0, .int 0, .int 0, .int 0]))) _
  have h1 := g0.self (e' := .inr (8, [.ref 1, .null, .null, .null, .null, .null, .null, .null, .null, .null, .int 0, .int 0, .int 0, .int 0]))
  have q0 := zKp_of (e := .inr (8, [.ref 1, .null, .null, .null, .null, .null, .null, .null, .null, .null, .int 0, .int 0, .int 0, .int 0])) (Nat.le_of_eq c0.symm) y0
  have t0 := t0.kp (zKp_pt (t := 14) (e := .inr (8, [.ref 1, .null, .null, .null, .null, .null, .null, .null, .null, .null, .int 0, .int 0, .int 0, .int 0]))) (by decide)
  have c1 : (zput v0 0 (.inr (8, [.ref 1, .null, .null, .null, .null, .null, .null, .null, .null, .null, .int 0, .int 0, .int 0, .int 0]))).1 = 14 := n0
  clear q0
  generalize zput v0 0 (.inr (8, [.ref 1, .null, .null, .null, .null, .null, .null, .null, .null, .null, .int 0, .int 0, .int 0, .int 0])) = x0 at h1 c1 t0 ⊢
  refine zw_aload_n dX8_init_15 rfl ?_
  refine zw_new dX8_init_16 nX8_9 (by decide) (by decide) (by omega) ?_
  rw [c1]
  refine zw_dup dX8_init_19 rfl ?_
  refine zw_callI (as := []) (mc' := 12) (ms' := 187) dX8_init_20 oX1_init kX1_init lX8_11 rfl (Nat.le_of_ble_eq_true rfl) rfl (by decide) (by decide) (c_init (zat_new c1) (by show x0.1 + 1 = _; omega) (by decide) (fun v1 n1 t1 y1 => ?_))
  show Zw _ _ _ 23 [_] [_, _] _ _
  have g1 : zat v1 0 _ := (h1.ad).up y1 (by decide)
  refine zw_putF dX8_init_23 pX8_16 rfl g1 (fun _ => rfl) (fun _ => rfl) (Nat.le_of_ble_eq_true rfl) ?_
  change Zw _ _ _ _ _ _ (zput v1 0 (.inr (8, [.ref 1, .ref 14, .null, .null, .null, .null, .null, .null, .null, .null, .int 0, .int 0, .int 0, .int 0]))) _
  have h2 := g1.self (e' := .inr (8, [.ref 1, .ref 14, .null, .null, .null, .null, .null, .null, .null, .null, .int 0, .int 0, .int 0, .int 0]))
  have q1 := zKp_of (e := .inr (8, [.ref 1, .ref 14, .null, .null, .null, .null, .null, .null, .null, .null, .int 0, .int 0, .int 0, .int 0])) (Nat.le_of_eq c1.symm) y1
  have t0 := t0.kp q1 (by decide)
  have t1 := t1.kp (zKp_pt (t := 27) (e := .inr (8, [.ref 1, .ref 14, .null, .null, .null, .null, .null, .null, .null, .null, .int 0, .int 0, .int 0, .int 0]))) (by decide)
  have c2 : (zput v1 0 (.inr (8, [.ref 1, .ref 14, .null, .null, .null, .null, .null, .null, .null, .null, .int 0, .int 0, .int 0, .int 0]))).1 = 27 := n1
  clear q1
  generalize zput v1 0 (.inr (8, [.ref 1, .ref 14, .null, .null, .null, .null, .null, .null, .null, .null, .int 0, .int 0, .int 0, .int 0])) = x1 at h2 c2 t0 t1 ⊢
  refine zw_aload_n dX8_init_26 rfl ?_
  refine zw_new dX8_init_27 nX8_9 (by decide) (by decide) (by omega) ?_
  rw [c2]
  refine zw_dup dX8_init_30 rfl ?_
  refine zw_callI (as := []) (mc' := 12) (ms' := 187) dX8_init_31 oX1_init kX1_init lX8_11 rfl (Nat.le_of_ble_eq_true rfl) rfl (by decide) (by decide) (c_init (zat_new c2) (by show x1.1 + 1 = _; omega) (by decide) (fun v2 n2 t2 y2 => ?_))
  show Zw _ _ _ 34 [_] [_, _] _ _
  have g2 : zat v2 0 _ := (h2.ad).up y2 (by decide)
  refine zw_putF dX8_init_34 pX8_19 rfl g2 (fun _ => rfl) (fun _ => rfl) (Nat.le_of_ble_eq_true rfl) ?_
  change Zw _ _ _ _ _ _ (zput v2 0 (.inr (8, [.ref 1, .ref 14, .ref 27, .null, .null, .null, .null, .null, .null, .null, .int 0, .int 0, .int 0, .int 0]))) _
  have h3 := g2.self (e' := .inr (8, [.ref 1, .ref 14, .ref 27, .null, .null, .null, .null, .null, .null, .null, .int 0, .int 0, .int 0, .int 0]))
  have q2 := zKp_of (e := .inr (8, [.ref 1, .ref 14, .ref 27, .null, .null, .null, .null, .null, .null, .null, .int 0, .int 0, .int 0, .int 0])) (Nat.le_of_eq c2.symm) y2
  have t0 := t0.kp q2 (by decide)
  have t1 := t1.kp q2 (by decide)
  have t2 := t2.kp (zKp_pt (t := 40) (e := .inr (8, [.ref 1, .ref 14, .ref 27, .null, .null, .null, .null, .null, .null, .null, .int 0, .int 0, .int 0, .int 0]))) (by decide)
  have c3 : (zput v2 0 (.inr (8, [.ref 1, .ref 14, .ref 27, .null, .null, .null, .null, .null, .null, .null, .int 0, .int 0, .int 0, .int 0]))).1 = 40 := n2
  clear q2
  generalize zput v2 0 (.inr (8, [.ref 1, .ref 14, .ref 27, .null, .null, .null, .null, .null, .null, .null, .int 0, .int 0, .int 0, .int 0])) = x2 at h3 c3 t0 t1 t2 ⊢
  refine zw_aload_n dX8_init_37 rfl ?_
  refine zw_new dX8_init_38 nX8_9 (by decide) (by decide) (by omega) ?_
  rw [c3]
  refine zw_dup dX8_init_41 rfl ?_
  refine zw_callI (as := []) (mc' := 12) (ms' := 187) dX8_init_42 oX1_init kX1_init lX8_11 rfl (Nat.le_of_ble_eq_true rfl) rfl (by decide) (by decide) (c_init (zat_new c3) (by show x2.1 + 1 = _; omega) (by decide) (fun v3 n3 t3 y3 => ?_))
  show Zw _ _ _ 45 [_] [_, _] _ _
  have g3 : zat v3 0 _ := (h3.ad).up y3 (by decide)
  refine zw_putF dX8_init_45 pX8_22 rfl g3 (fun _ => rfl) (fun _ => rfl) (Nat.le_of_ble_eq_true rfl) ?_
  change Zw _ _ _ _ _ _ (zput v3 0 (.inr (8, [.ref 1, .ref 14, .ref 27, .ref 40, .null, .null, .null, .null, .null, .null, .int 0, .int 0, .int 0, .int 0]))) _
  have h4 := g3.self (e' := .inr (8, [.ref 1, .ref 14, .ref 27, .ref 40, .null, .null, .null, .null, .null, .null, .int 0, .int 0, .int 0, .int 0]))
  have q3 := zKp_of (e := .inr (8, [.ref 1, .ref 14, .ref 27, .ref 40, .null, .null, .null, .null, .null, .null, .int 0, .int 0, .int 0, .int 0])) (Nat.le_of_eq c3.symm) y3
  have t0 := t0.kp q3 (by decide)
  have t1 := t1.kp q3 (by decide)
  have t2 := t2.kp q3 (by decide)
  have t3 := t3.kp (zKp_pt (t := 53) (e := .inr (8, [.ref 1, .ref 14, .ref 27, .ref 40, .null, .null, .null, .null, .null, .null, .int 0, .int 0, .int 0, .int 0]))) (by decide)
  have c4 : (zput v3 0 (.inr (8, [.ref 1, .ref 14, .ref 27, .ref 40, .null, .null, .null, .null, .null, .null, .int 0, .int 0, .int 0, .int 0]))).1 = 53 := n3
  clear q3
  generalize zput v3 0 (.inr (8, [.ref 1, .ref 14, .ref 27, .ref 40, .null, .null, .null, .null, .null, .null, .int 0, .int 0, .int 0, .int 0])) = x3 at h4 c4 t0 t1 t2 t3 ⊢
  refine zw_aload_n dX8_init_48 rfl ?_
  refine zw_new dX8_init_49 nX8_25 (by decide) (by decide) (by omega) ?_
  rw [c4]
  refine zw_dup dX8_init_52 rfl ?_
  refine zw_callI (as := []) (mc' := 2) (ms' := 154) dX8_init_53 oX7_init kX7_init lX8_27 rfl (Nat.le_of_ble_eq_true rfl) rfl (by decide) (by decide) (i_X7 (zat_new c4) (by show x3.1 + 1 = _; omega) (fun v4 n4 t4 y4 => ?_))
  show Zw _ _ _ 56 [_] [_, _] _ _
  have g4 : zat v4 0 _ := (h4.ad).up y4 (by decide)
  refine zw_putF dX8_init_56 pX8_28 rfl g4 (fun _ => rfl) (fun _ => rfl) (Nat.le_of_ble_eq_true rfl) ?_
  change Zw _ _ _ _ _ _ (zput v4 0 (.inr (8, [.ref 1, .ref 14, .ref 27, .ref 40, .ref 53, .null, .null, .null, .null, .null, .int 0, .int 0, .int 0, .int 0]))) _
  have h5 := g4.self (e' := .inr (8, [.ref 1, .ref 14, .ref 27, .ref 40, .ref 53, .null, .null, .null, .null, .null, .int 0, .int 0, .int 0, .int 0]))
  have q4 := zKp_of (e := .inr (8, [.ref 1, .ref 14, .ref 27, .ref 40, .ref 53, .null, .null, .null, .null, .null, .int 0, .int 0, .int 0, .int 0])) (Nat.le_of_eq c4.symm) y4
  have t0 := t0.kp q4 (by decide)
  have t1 := t1.kp q4 (by decide)
  have t2 := t2.kp q4 (by decide)
  have t3 := t3.kp q4 (by decide)
  have t4 := t4.kp (zKp_pt (t := 56) (e := .inr (8, [.ref 1, .ref 14, .ref 27, .ref 40, .ref 53, .null, .null, .null, .null, .null, .int 0, .int 0, .int 0, .int 0]))) (by decide)
  have c5 : (zput v4 0 (.inr (8, [.ref 1, .ref 14, .ref 27, .ref 40, .ref 53, .null, .null, .null, .null, .null, .int 0, .int 0, .int 0, .int 0]))).1 = 56 := n4
  clear q4
  generalize zput v4 0 (.inr (8, [.ref 1, .ref 14, .ref 27, .ref 40, .ref 53, .null, .null, .null, .null, .null, .int 0, .int 0, .int 0, .int 0])) = x4 at h5 c5 t0 t1 t2 t3 t4 ⊢
  refine zw_aload_n dX8_init_59 rfl ?_
  refine zw_new dX8_init_60 nX8_32 (by decide) (by decide) (by omega) ?_
  rw [c5]
  refine zw_dup dX8_init_63 rfl ?_
  refine zw_callI (as := []) (mc' := 3) (ms' := 1038) dX8_init_64 oX4_init kX4_init lX8_34 rfl (Nat.le_of_ble_eq_true rfl) rfl (by decide) (by decide) (i_X4 (zat_new c5) (by show x4.1 + 1 = _; omega) (fun v5 n5 t5 y5 => ?_))
  show Zw _ _ _ 67 [_] [_, _] _ _
  have g5 : zat v5 0 _ := (h5.ad).up y5 (by decide)
  refine zw_putF dX8_init_67 pX8_35 rfl g5 (fun _ => rfl) (fun _ => rfl) (Nat.le_of_ble_eq_true rfl) ?_
  change Zw _ _ _ _ _ _ (zput v5 0 (.inr (8, [.ref 1, .ref 14, .ref 27, .ref 40, .ref 53, .ref 56, .null, .null, .null, .null, .int 0, .int 0, .int 0, .int 0]))) _
  have h6 := g5.self (e' := .inr (8, [.ref 1, .ref 14, .ref 27, .ref 40, .ref 53, .ref 56, .null, .null, .null, .null, .int 0, .int 0, .int 0, .int 0]))
  have q5 := zKp_of (e := .inr (8, [.ref 1, .ref 14, .ref 27, .ref 40, .ref 53, .ref 56, .null, .null, .null, .null, .int 0, .int 0, .int 0, .int 0])) (Nat.le_of_eq c5.symm) y5
  have t0 := t0.kp q5 (by decide)
  have t1 := t1.kp q5 (by decide)
  have t2 := t2.kp q5 (by decide)
  have t3 := t3.kp q5 (by decide)
  have t4 := t4.kp q5 (by decide)
  have t5 := t5.kp (zKp_pt (t := 60) (e := .inr (8, [.ref 1, .ref 14, .ref 27, .ref 40, .ref 53, .ref 56, .null, .null, .null, .null, .int 0, .int 0, .int 0, .int 0]))) (by decide)
  have c6 : (zput v5 0 (.inr (8, [.ref 1, .ref 14, .ref 27, .ref 40, .ref 53, .ref 56, .null, .null, .null, .null, .int 0, .int 0, .int 0, .int 0]))).1 = 60 := n5
  clear q5
  generalize zput v5 0 (.inr (8, [.ref 1, .ref 14, .ref 27, .ref 40, .ref 53, .ref 56, .null, .null, .null, .null, .int 0, .int 0, .int 0, .int 0])) = x5 at h6 c6 t0 t1 t2 t3 t4 t5 ⊢
  refine zw_aload_n dX8_init_70 rfl ?_
  refine zw_new dX8_init_71 nX8_39 (by decide) (by decide) (by omega) ?_
  rw [c6]
  refine zw_dup dX8_init_74 rfl ?_
  refine zw_callI (as := []) (mc' := 2) (ms' := 256) dX8_init_75 oX0_init kX0_init lX8_41 rfl (Nat.le_of_ble_eq_true rfl) rfl (by decide) (by decide) (i_X0 (zat_new c6) (by show x5.1 + 1 = _; omega) (fun v6 n6 t6 y6 => ?_))
  show Zw _ _ _ 78 [_] [_, _] _ _
  have g6 : zat v6 0 _ := (h6.ad).up y6 (by decide)
  refine zw_putF dX8_init_78 pX8_42 rfl g6 (fun _ => rfl) (fun _ => rfl) (Nat.le_of_ble_eq_true rfl) ?_
  change Zw _ _ _ _ _ _ (zput v6 0 (.inr (8, [.ref 1, .ref 14, .ref 27, .ref 40, .ref 53, .ref 56, .ref 60, .null, .null, .null, .int 0, .int 0, .int 0, .int 0]))) _
  have h7 := g6.self (e' := .inr (8, [.ref 1, .ref 14, .ref 27, .ref 40, .ref 53, .ref 56, .ref 60, .null, .null, .null, .int 0, .int 0, .int 0, .int 0]))
  have q6 := zKp_of (e := .inr (8, [.ref 1, .ref 14, .ref 27, .ref 40, .ref 53, .ref 56, .ref 60, .null, .null, .null, .int 0, .int 0, .int 0, .int 0])) (Nat.le_of_eq c6.symm) y6
  have t0 := t0.kp q6 (by decide)
  have t1 := t1.kp q6 (by decide)
  have t2 := t2.kp q6 (by decide)
  have t3 := t3.kp q6 (by decide)
  have t4 := t4.kp q6 (by decide)
  have t5 := t5.kp q6 (by decide)
  have t6 := t6.kp (zKp_pt (t := 63) (e := .inr (8, [.ref 1, .ref 14, .ref 27, .ref 40, .ref 53, .ref 56, .ref 60, .null, .null, .null, .int 0, .int 0, .int 0, .int 0]))) (by decide)
  have c7 : (zput v6 0 (.inr (8, [.ref 1, .ref 14, .ref 27, .ref 40, .ref 53, .ref 56, .ref 60, .null, .null, .null, .int 0, .int 0, .int 0, .int 0]))).1 = 63 := n6
  clear q6
  generalize zput v6 0 (.inr (8, [.ref 1, .ref 14, .ref 27, .ref 40, .ref 53, .ref 56, .ref 60, .null, .null, .null, .int 0, .int 0, .int 0, .int 0])) = x6 at h7 c7 t0 t1 t2 t3 t4 t5 t6 ⊢
  refine zw_aload_n dX8_init_81 rfl ?_
  refine zw_new dX8_init_82 nX8_46 (by decide) (by decide) (by omega) ?_
  rw [c7]
  refine zw_dup dX8_init_85 rfl ?_
  refine zw_callI (as := []) (mc' := 1) (ms' := 7) dX8_init_86 oX5_init kX5_init lX8_48 rfl (Nat.le_of_ble_eq_true rfl) rfl (by decide) (by decide) (i_X5 (zat_new c7) (by show x6.1 + 1 = _; omega) (fun v7 n7 t7 y7 => ?_))
  show Zw _ _ _ 89 [_] [_, _] _ _
  have g7 : zat v7 0 _ := (h7.ad).up y7 (by decide)
  refine zw_putF dX8_init_89 pX8_49 rfl g7 (fun _ => rfl) (fun _ => rfl) (Nat.le_of_ble_eq_true rfl) ?_
  change Zw _ _ _ _ _ _ (zput v7 0 (.inr (8, [.ref 1, .ref 14, .ref 27, .ref 40, .ref 53, .ref 56, .ref 60, .ref 63, .null, .null, .int 0, .int 0, .int 0, .int 0]))) _
  have h8 := g7.self (e' := .inr (8, [.ref 1, .ref 14, .ref 27, .ref 40, .ref 53, .ref 56, .ref 60, .ref 63, .null, .null, .int 0, .int 0, .int 0, .int 0]))
  have q7 := zKp_of (e := .inr (8, [.ref 1, .ref 14, .ref 27, .ref 40, .ref 53, .ref 56, .ref 60, .ref 63, .null, .null, .int 0, .int 0, .int 0, .int 0])) (Nat.le_of_eq c7.symm) y7
  have t0 := t0.kp q7 (by decide)
  have t1 := t1.kp q7 (by decide)
  have t2 := t2.kp q7 (by decide)
  have t3 := t3.kp q7 (by decide)
  have t4 := t4.kp q7 (by decide)
  have t5 := t5.kp q7 (by decide)
  have t6 := t6.kp q7 (by decide)
  have t7 := t7.kp (zKp_pt (t := 65) (e := .inr (8, [.ref 1, .ref 14, .ref 27, .ref 40, .ref 53, .ref 56, .ref 60, .ref 63, .null, .null, .int 0, .int 0, .int 0, .int 0]))) (by decide)
  have c8 : (zput v7 0 (.inr (8, [.ref 1, .ref 14, .ref 27, .ref 40, .ref 53, .ref 56, .ref 60, .ref 63, .null, .null, .int 0, .int 0, .int 0, .int 0]))).1 = 65 := n7
  clear q7
  generalize zput v7 0 (.inr (8, [.ref 1, .ref 14, .ref 27, .ref 40, .ref 53, .ref 56, .ref 60, .ref 63, .null, .null, .int 0, .int 0, .int 0, .int 0])) = x7 at h8 c8 t0 t1 t2 t3 t4 t5 t6 t7 ⊢
  refine zw_aload_n dX8_init_92 rfl ?_
  refine zw_new dX8_init_93 nX8_53 (by decide) (by decide) (by omega) ?_
  rw [c8]
  refine zw_dup dX8_init_96 rfl ?_
  refine zw_callI (as := []) (mc' := 7) (ms' := 91) dX8_init_97 oX2_init kX2_init lX8_55 rfl (Nat.le_of_ble_eq_true rfl) rfl (by decide) (by decide) (i_X2 (zat_new c8) (by show x7.1 + 1 = _; omega) (fun v8 n8 t8 y8 => ?_))
  show Zw _ _ _ 100 [_] [_, _] _ _
  have g8 : zat v8 0 _ := (h8.ad).up y8 (by decide)
  refine zw_putF dX8_init_100 pX8_56 rfl g8 (fun _ => rfl) (fun _ => rfl) (Nat.le_of_ble_eq_true rfl) ?_
  change Zw _ _ _ _ _ _ (zput v8 0 (.inr (8, [.ref 1, .ref 14, .ref 27, .ref 40, .ref 53, .ref 56, .ref 60, .ref 63, .ref 65, .null, .int 0, .int 0, .int 0, .int 0]))) _
  have h9 := g8.self (e' := .inr (8, [.ref 1, .ref 14, .ref 27, .ref 40, .ref 53, .ref 56, .ref 60, .ref 63, .ref 65, .null, .int 0, .int 0, .int 0, .int 0]))
  have q8 := zKp_of (e := .inr (8, [.ref 1, .ref 14, .ref 27, .ref 40, .ref 53, .ref 56, .ref 60, .ref 63, .ref 65, .null, .int 0, .int 0, .int 0, .int 0])) (Nat.le_of_eq c8.symm) y8
  have t0 := t0.kp q8 (by decide)
  have t1 := t1.kp q8 (by decide)
  have t2 := t2.kp q8 (by decide)
  have t3 := t3.kp q8 (by decide)
  have t4 := t4.kp q8 (by decide)
  have t5 := t5.kp q8 (by decide)
  have t6 := t6.kp q8 (by decide)
  have t7 := t7.kp q8 (by decide)
  have t8 := t8.kp (zKp_pt (t := 73) (e := .inr (8, [.ref 1, .ref 14, .ref 27, .ref 40, .ref 53, .ref 56, .ref 60, .ref 63, .ref 65, .null, .int 0, .int 0, .int 0, .int 0]))) (by decide)
  have c9 : (zput v8 0 (.inr (8, [.ref 1, .ref 14, .ref 27, .ref 40, .ref 53, .ref 56, .ref 60, .ref 63, .ref 65, .null, .int 0, .int 0, .int 0, .int 0]))).1 = 73 := n8
  clear q8
  generalize zput v8 0 (.inr (8, [.ref 1, .ref 14, .ref 27, .ref 40, .ref 53, .ref 56, .ref 60, .ref 63, .ref 65, .null, .int 0, .int 0, .int 0, .int 0])) = x8 at h9 c9 t0 t1 t2 t3 t4 t5 t6 t7 t8 ⊢
  refine zw_aload_n dX8_init_103 rfl ?_
  refine zw_new dX8_init_104 nX8_60 (by decide) (by decide) (by omega) ?_
  rw [c9]
  refine zw_dup dX8_init_107 rfl ?_
  refine zw_callI (as := []) (mc' := 0) (ms' := 0) dX8_init_108 oX3_init kX3_init lX8_62 rfl (Nat.le_of_ble_eq_true rfl) rfl (by decide) (by decide) (i_X3 (zat_new c9) (by show x8.1 + 1 = _; omega) (fun v9 n9 t9 y9 => ?_))
  show Zw _ _ _ 111 [_] [_, _] _ _
  have g9 : zat v9 0 _ := (h9.ad).up y9 (by decide)
  refine zw_putF dX8_init_111 pX8_63 rfl g9 (fun _ => rfl) (fun _ => rfl) (Nat.le_of_ble_eq_true rfl) ?_
  change Zw _ _ _ _ _ _ (zput v9 0 (.inr (8, [.ref 1, .ref 14, .ref 27, .ref 40, .ref 53, .ref 56, .ref 60, .ref 63, .ref 65, .ref 73, .int 0, .int 0, .int 0, .int 0]))) _
  have h10 := g9.self (e' := .inr (8, [.ref 1, .ref 14, .ref 27, .ref 40, .ref 53, .ref 56, .ref 60, .ref 63, .ref 65, .ref 73, .int 0, .int 0, .int 0, .int 0]))
  have q9 := zKp_of (e := .inr (8, [.ref 1, .ref 14, .ref 27, .ref 40, .ref 53, .ref 56, .ref 60, .ref 63, .ref 65, .ref 73, .int 0, .int 0, .int 0, .int 0])) (Nat.le_of_eq c9.symm) y9
  have t0 := t0.kp q9 (by decide)
  have t1 := t1.kp q9 (by decide)
  have t2 := t2.kp q9 (by decide)
  have t3 := t3.kp q9 (by decide)
  have t4 := t4.kp q9 (by decide)
  have t5 := t5.kp q9 (by decide)
  have t6 := t6.kp q9 (by decide)
  have t7 := t7.kp q9 (by decide)
  have t8 := t8.kp q9 (by decide)
  have t9 := t9.kp (zKp_pt (t := 74) (e := .inr (8, [.ref 1, .ref 14, .ref 27, .ref 40, .ref 53, .ref 56, .ref 60, .ref 63, .ref 65, .ref 73, .int 0, .int 0, .int 0, .int 0]))) (by decide)
  have c10 : (zput v9 0 (.inr (8, [.ref 1, .ref 14, .ref 27, .ref 40, .ref 53, .ref 56, .ref 60, .ref 63, .ref 65, .ref 73, .int 0, .int 0, .int 0, .int 0]))).1 = 74 := n9
  clear q9
  generalize zput v9 0 (.inr (8, [.ref 1, .ref 14, .ref 27, .ref 40, .ref 53, .ref 56, .ref 60, .ref 63, .ref 65, .ref 73, .int 0, .int 0, .int 0, .int 0])) = x9 at h10 c10 t0 t1 t2 t3 t4 t5 t6 t7 t8 t9 ⊢
  refine zw_return dX8_init_114 rfl (by decide) (by decide) ?_
  exact k _ c10 ⟨h10, t0, ⟨_, t1⟩, t2, t3, ⟨_, _, _, _, _, _, t4⟩, ⟨_, _, _, _, _, t5⟩, ⟨_, _, _, t6⟩, ⟨_, _, t7⟩, ⟨_, _, _, _, _, _, _, _, _, t8⟩, t9⟩
end ZCTOR2
