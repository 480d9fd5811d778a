/-! ===== read, by the Model ===== -/
section ZRD
variable {d : Nat} {w w' : ZW} {A : Nat → Nat → Int32} {I : Nat → Int32} {ab be : Int64} {Q : Option Value → ZW → Prop} {bt : Nat → Int32} {len : Nat}
theorem m_rd9 {w0 : ZW} {A0 : Nat → Nat → Int32} (hb : I 0 = nI 651) (hK : ∀ w' A' o1, (∀ i, i < 6 → A' 0 (651 + i) = 0) → (∀ i, i < 651 → A' 0 i = A0 0 i) → (∀ r, ¬ r = 0 → A' r = A0 r) → isM w' A' I ab be → zOff 74 89 w0 w' → Zw (d + 8) mX9_read z0 27 [some (.ref 74), o1, none, none, none] [] w' Q) : ∀ (k j : Nat) (A : Nat → Nat → Int32) (w : ZW), j + k = 6 → (∀ i, i < j → A 0 (651 + i) = 0) → (∀ i, i < 651 → A 0 i = A0 0 i) → (∀ r, ¬ r = 0 → A r = A0 r) → isM w A I ab be → zOff 74 89 w0 w → Zw (d + 8) mX9_read z0 9 [some (.ref 74), some (.int (nI j)), none, none, none] [] w Q := by
  intro k
  induction k with
  | zero =>
    intro j A w hj h0 hA hR h ho
    have hj : j = 6 := hj
    subst hj
    refine zw_iload_n dX9_read_9 rfl ?_
    refine zw_bipush dX9_read_10 6 (by decide) ?_
    refine zw_icmp_ge 27 dX9_read_12 (by decide) (fun _ => ?_) (fun hz => absurd (nI_le (a := 6) (b := 6) (by decide) (by decide)) hz)
    exact hK w A _ h0 hA hR h ho
  | succ k ih =>
    intro j A w hj h0 hA hR h ho
    refine zw_iload_n dX9_read_9 rfl ?_
    refine zw_bipush dX9_read_10 6 (by decide) ?_
    refine zw_icmp_ge 27 dX9_read_12 (by decide) (fun hz => absurd hz (nI_ge (b := 6) (by omega) (by decide))) (fun _ => ?_)
    refine zw_aload_n dX9_read_15 rfl ?_
    refine zw_iload_n dX9_read_16 rfl ?_
    refine zw_iconst dX9_read_17 0 (by decide) ?_
    refine zw_cV2 dX9_read_18 oX9_put1 kX9_put1 lX9_73 h.1 rfl (Nat.le_of_ble_eq_true rfl) rfl (m_put1 (b := 651) (j := j) (v := 0) h hb (by omega) (fun w1 h1 o1 => ?_))
    show Zw _ _ _ 21 [_, _, _, _, _] [] _ _
    refine zw_iinc (nI (j + 1)) [_, _, _, _, _] dX9_read_21 rfl (nI_1 j) rfl ?_
    refine zw_goto 9 dX9_read_24 (by decide) ?_
    refine ih (j + 1) _ w1 (by omega) (fun i hi => ?_) (fun i hi => ?_) (fun r hr => ?_) h1 (ho.tr o1)
    · by_cases e : i = j
      · rw [e]; exact mp_eq
      · exact (mp_ne (A := A) (b := 651) e).trans (h0 i (by omega))
    · exact (mp_lo (A := A) (b := 651) hi).trans (hA i hi)
    · exact (mp_row (A := A) (b := 651) hr).trans (hR r hr)
theorem m_read {D0 : Cup} {nm0 : Nat → Int32} {r : Option Cup × Int32} (h : isM w A I ab be) (ht : txtM A I bt len) (hD : ∀ i, (D0 i).1 = 0) (hrd : rdR bt len 150 0 (-1) D0 (tokS bt len 0 0, nm0) r) (hK : ∀ w' A' I', I' 0 = nI 0 → I' 1 = I 1 → (∀ r, ¬ r = 0 → ¬ r = 4 → A' r = A r) → (∀ j, 217 ≤ j → j < 651 → A' 0 j = A 0 j) → (r.1 = none → ∀ j, j < 217 → A' 0 j = A 0 j) → (∀ D', r.1 = some D' → rel D' (vw A' 0)) → isM w' A' I' ab be → zOff 74 89 w w' → Q (some (.int r.2)) w') : Zm (d + 8) mX9_read 0 0 [.ref 74] w Q := by
  refine zm_intro [_, _, _, _, _] oX9_read (Nat.le_of_ble_eq_true rfl) rfl ?_
  refine zw_aload_n dX9_read_0 rfl ?_
  refine zw_sipush dX9_read_1 651 (by decide) ?_
  refine zw_put dX9_read_4 pX9_58 h.1 (fun _ => rfl) (fun _ => rfl) (Nat.le_of_ble_eq_true rfl) ?_
  have g := h.ob (I' := va_up I 0 (nI 651)) (ab' := ab) (be' := be)
  refine zw_iconst dX9_read_7 0 (by decide) ?_
  refine zw_istore_n [_, _, _, _, _] dX9_read_8 (Nat.le_of_ble_eq_true rfl) rfl ?_
  refine m_rd9 (I := va_up I 0 (nI 651)) (A0 := A) (w0 := w) rfl (fun w1 A1 o1 z0 z1 z2 h1 q1 => ?_) 6 0 A _ (by decide) (fun i hi => absurd hi (Nat.not_lt_zero _)) (fun _ _ => rfl) (fun _ _ => rfl) g (zOff.pt (by decide) (by decide))
  refine zw_aload_n dX9_read_27 rfl ?_
  refine zw_iconst dX9_read_28 0 (by decide) ?_
  refine zw_put dX9_read_29 pX9_132 h1.1 (fun _ => rfl) (fun _ => rfl) (Nat.le_of_ble_eq_true rfl) ?_
  have g2 := h1.ob (I' := va_up (va_up I 0 (nI 651)) 2 0) (ab' := ab) (be' := be)
  refine zw_aload_n dX9_read_32 rfl ?_
  refine zw_iconst dX9_read_33 (-1) (by decide) ?_
  refine zw_put dX9_read_34 pX9_150 g2.1 (fun _ => rfl) (fun _ => rfl) (Nat.le_of_ble_eq_true rfl) ?_
  have g3 := g2.ob (I' := va_up (va_up (va_up I 0 (nI 651)) 2 0) 6 (-1)) (ab' := ab) (be' := be)
  refine zw_aload_n dX9_read_37 rfl ?_
  refine zw_iconst dX9_read_38 (-1) (by decide) ?_
  refine zw_put dX9_read_39 pX9_156 g3.1 (fun _ => rfl) (fun _ => rfl) (Nat.le_of_ble_eq_true rfl) ?_
  have g4 := g3.ob (I' := va_up (va_up (va_up (va_up I 0 (nI 651)) 2 0) 6 (-1)) 7 (-1)) (ab' := ab) (be' := be)
  refine zw_iconst dX9_read_42 0 (by decide) ?_
  refine zw_istore_n [_, _, _, _, _] dX9_read_43 (Nat.le_of_ble_eq_true rfl) rfl ?_
  refine zw_aload_n dX9_read_44 rfl ?_
  have ht4 : txtM A1 (va_up (va_up (va_up (va_up I 0 (nI 651)) 2 0) 6 (-1)) 7 (-1)) bt len := ⟨ht.1, ht.2.1, fun i hi => by rw [z2 3 (by decide)]; exact ht.2.2 i hi⟩
  refine zw_cV0 dX9_read_45 oX9_next kX9_next lX9_153 g4.1 rfl (Nat.le_of_ble_eq_true rfl) rfl (m_nx 0 g4 ht4 (e := 0) rfl (Nat.zero_le _) (fun w2 I2 s2 t2 h2 o2 => ?_))
  show Zw _ _ _ 48 [_, _, _, _, _] [] _ _
  refine m_rdL (A0 := A) (I0 := I) (r := r) ht hK 150 0 (-1) D0 _ A1 I2 w2 _ _ _ (by decide) hrd (s2 0 (by decide) (by decide) (by decide) (by decide)) (s2 6 (by decide) (by decide) (by decide) (by decide)) (s2 7 (by decide) (by decide) (by decide) (by decide)) ⟨0, 0, Nat.zero_le _, rfl⟩ (Nat.zero_le _) t2 (fun _ => rel_0 (fun i _ => hD i) (fun i hi => z0 i hi)) z1 (fun r a1 _ => z2 r a1) (s2 1 (by decide) (by decide) (by decide) (by decide)) h2 (((((q1.tr (zOff.pt (by decide) (by decide))).tr (zOff.pt (by decide) (by decide))).tr (zOff.pt (by decide) (by decide)))).tr o2)
end ZRD
