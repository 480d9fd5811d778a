/-! ===== read, by the Model ===== -/
section ZRD
variable {d : Nat} {w w' : ZW} {A : Nat → Nat → Int32} {I : Nat → Int32} {ab be : Int64} {Q : Option Value → ZW → Prop} {bt : Nat → Int32} {len : Nat}
theorem m_rd9 {w0 : ZW} {A0 : Nat → Nat → Int32} (hb : I 0 = nI 651) (hK : ∀ w' A' o1, (∀ i, i < 6 → A' 0 (651 + i) = 0) → (∀ i, i < 651 → A' 0 i = A0 0 i) → (∀ r, ¬ r = 0 → A' r = A0 r) → isM w' A' I ab be → zOff 74 89 w0 w' → Zw (d + 8) mX9_read z0 27 [some (.ref 74), o1, none, none, none] [] w' Q) : ∀ (k j : Nat) (A : Nat → Nat → Int32) (w : ZW), j + k = 6 → (∀ i, i < j → A 0 (651 + i) = 0) → (∀ i, i < 651 → A 0 i = A0 0 i) → (∀ r, ¬ r = 0 → A r = A0 r) → isM w A I ab be → zOff 74 89 w0 w → Zw (d + 8) mX9_read z0 9 [some (.ref 74), some (.int (nI j)), none, none, none] [] w Q := by
  intro k
  induction k with
  | zero =>
    intro j A w hj h0 hA hR h ho
    have hj : j = 6 := hj
    subst hj
    refine zw_iload_n dX9_read_9 rfl ?_
    refine zw_bipush dX9_read_10 6 (by decide) ?_
    refine zw_icmp_ge 27 dX9_read_12 (by decide) (fun _ => ?_) (fun hz => absurd (nI_le (a := 6) (b := 6) (by decide) (by decide)) hz)
    exact hK w A _ h0 hA hR h ho
  | succ k ih =>
    intro j A w hj h0 hA hR h ho
    refine zw_iload_n dX9_read_9 rfl ?_
    refine zw_bipush dX9_read_10 6 (by decide) ?_
    refine zw_icmp_ge 27 dX9_read_12 (by decide) (fun hz => absurd hz (nI_ge (b := 6) (by omega) (by decide))) (fun _ => ?_)
    refine zw_aload_n dX9_read_15 rfl ?_
    refine zw_iload_n dX9_read_16 rfl ?_
    refine zw_iconst dX9_read_17 0 (by decide) ?_
    refine zw_cV2 dX9_read_18 oX9_put1 kX9_put1 lX9_73 h.1 rfl (Nat.le_of_ble_eq_true rfl) rfl (m_put1 (b := 651) (j := j) (v := 0) h hb (by omega) (fun w1 h1 o1 => ?_))
    show Zw _ _ _ 21 [_, _, _, _, _] [] _ _
    refine zw_iinc (nI (j + 1)) [_, _, _, _, _] dX9_read_21 rfl (nI_1 j) rfl ?_
    refine zw_goto 9 dX9_read_24 (by decide) ?_
    refine ih (j + 1) _ w1 (by omega) (fun i hi => ?_) (fun i hi => ?_) (fun r hr => ?_) h1 (ho.tr o1)
    · by_cases e : i = j
      · rw [e]; exact mp_eq
      · exact (mp_ne (A := A) (b := 651) e).trans (h0 i (by omega))
    · exact (mp_lo (A := A) (b := 651) hi).trans (hA i hi)
    · exact (mp_row (A := A) (b := 651) hr).trans (hR r hr)
end ZRD
