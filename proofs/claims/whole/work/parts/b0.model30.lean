/-! ===== the Model: next, due ===== -/
section ZMOD30
variable {d : Nat} {w w' : ZW} {A : Nat → Nat → Int32} {I : Nat → Int32} {ab be : Int64} {Q : Option Value → ZW → Prop} {bt : Nat → Int32} {len : Nat}
theorem m_next {e : Nat} (h : isM w A I ab be) (ht : txtM A I bt len) (h2 : I 2 = nI e) (he : e ≤ len) (k : ∀ w' I', sI I I' → I' 2 = nI (mTk bt len e).2.1 → I' 3 = nI (mTk bt len e).1 → I' 4 = (mTk bt len e).2.2.1 → I' 5 = (mTk bt len e).2.2.2 → isM w' A I' ab be → zOff 74 89 w w' → Q none w') : Zm (d + 1) mX9_next 0 0 [.ref 74] w Q := by
  have hal : len ≤ 150 := ht.2.1
  unfold mTk at k
  refine zm_intro [_, _, _] oX9_next (Nat.le_of_ble_eq_true rfl) rfl ?_
  refine m_nx1 (s := endF spB bt e (len - e)) (w0 := w) (fun w1 I1 hI1 h12 h1 o1 => ?_) ht (len - e) e I w (by omega) rfl (fun _ _ _ _ _ => rfl) h2 h zOff.rf
  have hse := endF_le spB bt (len - e) e
  generalize endF spB bt e (len - e) = s at k h12 hse
  have mid : ∀ (w3 : ZW) (I3 : Nat → Int32), sI I I3 → I3 2 = nI s → I3 3 = nI s → I3 5 = 0 → isM w3 A I3 ab be → zOff 74 89 w w3 → Zw (d + 1) mX9_next z0 35 [some (.ref 74), none, none] [] w3 Q := by
    intro w3 I3 hI3 g2 g3 g5 h3' o4
    have ht3 := ht.go (hI3 1 (by decide) (by decide) (by decide) (by decide))
    refine zw_aload_n dX9_next_35 rfl ?_
    refine zw_cV0 dX9_next_36 oX9_here kX9_here lX9_135 h3'.1 rfl (Nat.le_of_ble_eq_true rfl) rfl (m_here h3' ht3 g2 (by omega) ?_)
    show Zw _ _ _ 39 [_, _, _] [_] _ _
    refine zw_istore_n [_, _, _] dX9_next_39 (Nat.le_of_ble_eq_true rfl) rfl ?_
    refine zw_iload_n dX9_next_40 rfl ?_
    by_cases hl : len ≤ s
    · rw [if_pos hl] at k
      have e1 : byA bt len s = -1 := by unfold byA; rw [if_neg (by omega)]
      rw [e1]
      refine zw_if_ge 53 dX9_next_41 (by decide) (fun hz => absurd hz (by decide)) (fun _ => ?_)
      refine zw_aload_n dX9_next_44 rfl ?_
      refine zw_bipush dX9_next_45 7 (by decide) ?_
      refine zw_put dX9_next_47 pX9_144 h3'.1 (fun _ => rfl) (fun _ => rfl) (Nat.le_of_ble_eq_true rfl) ?_
      refine zw_goto 279 dX9_next_50 (by decide) ?_
      refine zw_return dX9_next_279 rfl (Nat.le_refl _) (Nat.le_refl _) ?_
      exact k _ (va_up I3 4 7) (fun i a1 a2 a3 a4 => by unfold va_up; rw [if_neg a3]; exact hI3 i a1 a2 a3 a4) g2 g3 rfl g5 (h3'.ob (I' := va_up I3 4 7)) (o4.tr (zOff.pt (by decide) (by decide)))
    · rw [if_neg hl] at k
      dsimp only at k
      obtain ⟨c, hc1, hc2⟩ := (ht.2.2 s (by omega)).2
      have e1 : byA bt len s = bt s := by unfold byA; rw [if_pos (by omega)]
      rw [e1]
      refine zw_if_ge 53 dX9_next_41 (by decide) (fun _ => ?_) (fun hz => absurd (by rw [hc2]; exact nI_pos' (by omega)) hz)
      refine zw_iload_n dX9_next_53 rfl ?_
      refine zw_bipush dX9_next_54 97 (by decide) ?_
      refine zw_bipush dX9_next_56 122 (by decide) ?_
      refine zw_cS3 dX9_next_58 oX9_in kX9_in lX9_66 (Nat.le_of_ble_eq_true rfl) rfl (m_in (fun q1 q2 => ?_) (fun z => ?_))
      · have el : letB (bt s) = true := by unfold letB; rw [decide_eq_true q1, decide_eq_true q2]; rfl
        rw [if_pos el] at k
        have hqs := endF_le letB bt (len - s) s
        show Zw _ _ _ 61 [_, _, _] [_] _ _
        refine zw_if_eq 152 dX9_next_61 (by decide) (fun hz => absurd hz (by decide)) (fun _ => ?_)
        refine zw_iconst dX9_next_64 0 (by decide) ?_
        refine zw_istore_n [_, _, _] dX9_next_65 (Nat.le_of_ble_eq_true rfl) rfl ?_
        refine m_nx2 (s := s) (q := endF letB bt s (len - s)) (w0 := w) (I0 := I) (V := mcd bt s s (endF letB bt s (len - s) - s) 0) (by omega) (fun w5 I5 hI5 h52 h53 h55 h5 o5 => ?_) ht (len - s) s 0 I3 _ (by omega) (by omega) rfl rfl hI3 g2 g3 g5 h3' o4
        generalize endF letB bt s (len - s) = q at k h52 hqs ⊢
        have fin : ∀ y, y = (if 5 < q - s then 8 else meanW (mcd bt s s (q - s) 0)) → Zw (d + 1) mX9_next z0 146 [some (.ref 74), some (.int (bt s)), some (.int (mcd bt s s (q - s) 0))] [.int y, .ref 74] w5 Q := by
          intro y hy
          refine zw_put dX9_next_146 pX9_144 h5.1 (fun _ => rfl) (fun _ => rfl) (Nat.le_of_ble_eq_true rfl) ?_
          refine zw_goto 279 dX9_next_149 (by decide) ?_
          refine zw_return dX9_next_279 rfl (Nat.le_refl _) (Nat.le_refl _) ?_
          exact k _ (va_up I5 4 y) (fun i a1 a2 a3 a4 => by unfold va_up; rw [if_neg a3]; exact hI5 i a1 a2 a3 a4) h52 h53 hy h55 (h5.ob (I' := va_up I5 4 y)) (o5.tr (zOff.pt (by decide) (by decide)))
        refine zw_aload_n dX9_next_123 rfl ?_
        refine zw_aload_n dX9_next_124 rfl ?_
        refine zw_get dX9_next_125 fX9_132 h5.1 rfl ?_
        refine zw_aload_n dX9_next_128 rfl ?_
        refine zw_get dX9_next_129 fX9_138 h5.1 rfl ?_
        refine zw_isub dX9_next_132 ?_
        refine zw_top (y := nI (q - s)) (by rw [h52, h53, pk_sub (by omega)]) ?_
        refine zw_iconst dX9_next_133 5 (by decide) ?_
        by_cases e5 : 5 < q - s
        · rw [if_pos e5] at fin
          refine zw_icmp_le 142 dX9_next_134 (by decide) (fun hz => absurd hz (nI_ge (a := 5) e5 (by omega))) (fun _ => ?_)
          refine zw_bipush dX9_next_137 8 (by decide) ?_
          refine zw_goto 146 dX9_next_139 (by decide) ?_
          exact fin _ rfl
        · rw [if_neg e5] at fin
          refine zw_icmp_le 142 dX9_next_134 (by decide) (fun _ => ?_) (fun hz => absurd (nI_le (b := 5) (by omega) (by omega)) hz)
          refine zw_iload_n dX9_next_142 rfl ?_
          refine zw_cS1 dX9_next_143 oX9_meaning kX9_meaning lX9_147 (Nat.le_of_ble_eq_true rfl) rfl (m_meaning ?_)
          show Zw _ _ _ 146 [_, _, _] [_, _] _ _
          exact fin _ rfl
      · have el : ¬ letB (bt s) = true := by
          unfold letB
          intro z'
          have z' := Bool.and_eq_true_iff.mp z'
          exact z ⟨of_decide_eq_true z'.1, of_decide_eq_true z'.2⟩
        rw [if_neg el] at k
        show Zw _ _ _ 61 [_, _, _] [_] _ _
        refine zw_if_eq 152 dX9_next_61 (by decide) (fun _ => ?_) (fun hz => absurd (by decide) hz)
        refine zw_iload_n dX9_next_152 rfl ?_
        refine zw_bipush dX9_next_153 48 (by decide) ?_
        refine zw_bipush dX9_next_155 57 (by decide) ?_
        refine zw_cS3 dX9_next_157 oX9_in kX9_in lX9_66 (Nat.le_of_ble_eq_true rfl) rfl (m_in (fun q1 q2 => ?_) (fun z => ?_))
        · have ef : figB (bt s) = true := by unfold figB; rw [decide_eq_true q1, decide_eq_true q2]; rfl
          rw [if_pos ef] at k
          have hqs := endF_le figB bt (len - s) s
          show Zw _ _ _ 160 [_, _, _] [_] _ _
          refine zw_if_eq 252 dX9_next_160 (by decide) (fun hz => absurd hz (by decide)) (fun _ => ?_)
          refine m_nx3 (s := s) (q := endF figB bt s (len - s)) (w0 := w) (I0 := I) (V := mnv bt s s (endF figB bt s (len - s) - s) 0) (by omega) (fun w5 I5 hI5 h52 h53 h55 h5 o5 => ?_) ht (len - s) s 0 I3 _ (by omega) (by omega) rfl rfl hI3 g2 g3 g5 h3' o4
          generalize endF figB bt s (len - s) = q at k h52 h55 hqs ⊢
          have fin : ∀ y, y = (if 2 < q - s then 8 else 5) → Zw (d + 1) mX9_next z0 246 [some (.ref 74), some (.int (bt s)), none] [.int y, .ref 74] w5 Q := by
            intro y hy
            refine zw_put dX9_next_246 pX9_144 h5.1 (fun _ => rfl) (fun _ => rfl) (Nat.le_of_ble_eq_true rfl) ?_
            refine zw_goto 279 dX9_next_249 (by decide) ?_
            refine zw_return dX9_next_279 rfl (Nat.le_refl _) (Nat.le_refl _) ?_
            exact k _ (va_up I5 4 y) (fun i a1 a2 a3 a4 => by unfold va_up; rw [if_neg a3]; exact hI5 i a1 a2 a3 a4) h52 h53 hy h55 (h5.ob (I' := va_up I5 4 y)) (o5.tr (zOff.pt (by decide) (by decide)))
          refine zw_aload_n dX9_next_226 rfl ?_
          refine zw_aload_n dX9_next_227 rfl ?_
          refine zw_get dX9_next_228 fX9_132 h5.1 rfl ?_
          refine zw_aload_n dX9_next_231 rfl ?_
          refine zw_get dX9_next_232 fX9_138 h5.1 rfl ?_
          refine zw_isub dX9_next_235 ?_
          refine zw_top (y := nI (q - s)) (by rw [h52, h53, pk_sub (by omega)]) ?_
          refine zw_iconst dX9_next_236 2 (by decide) ?_
          by_cases e5 : 2 < q - s
          · rw [if_pos e5] at fin
            refine zw_icmp_le 245 dX9_next_237 (by decide) (fun hz => absurd hz (nI_ge (a := 2) e5 (by omega))) (fun _ => ?_)
            refine zw_bipush dX9_next_240 8 (by decide) ?_
            refine zw_goto 246 dX9_next_242 (by decide) ?_
            exact fin _ rfl
          · rw [if_neg e5] at fin
            refine zw_icmp_le 245 dX9_next_237 (by decide) (fun _ => ?_) (fun hz => absurd (nI_le (b := 2) (by omega) (by omega)) hz)
            refine zw_iconst dX9_next_245 5 (by decide) ?_
            exact fin _ rfl
        · have ef : ¬ figB (bt s) = true := by
            unfold figB
            intro z'
            have z' := Bool.and_eq_true_iff.mp z'
            exact z ⟨of_decide_eq_true z'.1, of_decide_eq_true z'.2⟩
          rw [if_neg ef] at k
          show Zw _ _ _ 160 [_, _, _] [_] _ _
          refine zw_if_eq 252 dX9_next_160 (by decide) (fun _ => ?_) (fun hz => absurd (by decide) hz)
          refine zw_aload_n dX9_next_252 rfl ?_
          refine zw_dup dX9_next_253 rfl ?_
          refine zw_get dX9_next_254 fX9_132 h3'.1 rfl ?_
          refine zw_iconst dX9_next_257 1 (by decide) ?_
          refine zw_iadd dX9_next_258 ?_
          refine zw_top (y := nI (s + 1)) (by rw [g2, nI_1]) ?_
          refine zw_put dX9_next_259 pX9_132 h3'.1 (fun _ => rfl) (fun _ => rfl) (Nat.le_of_ble_eq_true rfl) ?_
          have fin : ∀ y, y = (if bt s = 59 then 6 else 8) → ∀ w5, isM w5 A (va_up I3 2 (nI (s + 1))) ab be → zOff 74 89 w w5 → Zw (d + 1) mX9_next z0 276 [some (.ref 74), some (.int (bt s)), none] [.int y, .ref 74] w5 Q := by
            intro y hy w5 h5 o5
            refine zw_put dX9_next_276 pX9_144 h5.1 (fun _ => rfl) (fun _ => rfl) (Nat.le_of_ble_eq_true rfl) ?_
            refine zw_return dX9_next_279 rfl (Nat.le_refl _) (Nat.le_refl _) ?_
            exact k _ (va_up (va_up I3 2 (nI (s + 1))) 4 y) (fun i a1 a2 a3 a4 => by unfold va_up; rw [if_neg a3, if_neg a1]; exact hI3 i a1 a2 a3 a4) rfl g3 hy g5 (h5.ob (I' := va_up (va_up I3 2 (nI (s + 1))) 4 y)) (o5.tr (zOff.pt (by decide) (by decide)))
          refine zw_aload_n dX9_next_262 rfl ?_
          refine zw_iload_n dX9_next_263 rfl ?_
          refine zw_bipush dX9_next_264 59 (by decide) ?_
          by_cases e5 : bt s = 59
          · rw [if_pos e5] at fin
            refine zw_icmp_ne 274 dX9_next_266 (by decide) (fun hz => absurd (e5) hz) (fun _ => ?_)
            refine zw_bipush dX9_next_269 6 (by decide) ?_
            refine zw_goto 276 dX9_next_271 (by decide) ?_
            exact fin _ rfl _ (h3'.ob (I' := va_up I3 2 (nI (s + 1)))) (o4.tr (zOff.pt (by decide) (by decide)))
          · rw [if_neg e5] at fin
            refine zw_icmp_ne 274 dX9_next_266 (by decide) (fun _ => ?_) (fun hz => absurd hz (e5))
            refine zw_bipush dX9_next_274 8 (by decide) ?_
            exact fin _ rfl _ (h3'.ob (I' := va_up I3 2 (nI (s + 1)))) (o4.tr (zOff.pt (by decide) (by decide)))
  refine zw_aload_n dX9_next_22 rfl ?_
  refine zw_aload_n dX9_next_23 rfl ?_
  refine zw_get dX9_next_24 fX9_132 h1.1 rfl ?_
  refine zw_top (h12) ?_
  refine zw_put dX9_next_27 pX9_138 h1.1 (fun _ => rfl) (fun _ => rfl) (Nat.le_of_ble_eq_true rfl) ?_
  have h2' := h1.ob (I' := va_up I1 3 (nI s)) (ab' := ab) (be' := be)
  refine zw_aload_n dX9_next_30 rfl ?_
  refine zw_iconst dX9_next_31 0 (by decide) ?_
  refine zw_put dX9_next_32 pX9_141 h2'.1 (fun _ => rfl) (fun _ => rfl) (Nat.le_of_ble_eq_true rfl) ?_
  exact mid _ (va_up (va_up I1 3 (nI s)) 5 0) (fun i a1 a2 a3 a4 => by unfold va_up; rw [if_neg a4, if_neg a2]; exact hI1 i a1 a2 a3 a4) h12 rfl rfl (h2'.ob (I' := va_up (va_up I1 3 (nI s)) 5 0)) ((o1.tr (zOff.pt (by decide) (by decide))).tr (zOff.pt (by decide) (by decide)))
end ZMOD30
