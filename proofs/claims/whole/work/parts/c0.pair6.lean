/-! ===== the calls on both sides: image ===== -/
theorem bit_or : ∀ m, m < 4 → (nI m ||| 1 = nI (m ||| 1) ∧ m ||| 1 < 4 ∧ (m ||| 1).testBit 0 = true ∧ (m ||| 1).testBit 1 = m.testBit 1) ∧ nI m ||| 2 = nI (m ||| 2) ∧ m ||| 2 < 4 ∧ (m ||| 2).testBit 0 = m.testBit 0 ∧ (m ||| 2).testBit 1 = true := by decide +kernel
/-- the Model's cells, copied to t -/
def cpT (A : Nat → Nat → Int32) (t : Nat) (A1 : Nat → Nat → Int32) : Prop := (∀ i, i < 217 → vw A1 t i = vw A 0 i) ∧ (∀ b, (b + 217 ≤ t ∨ t + 217 ≤ b) → ∀ i, i < 217 → vw A1 b i = vw A b i) ∧ ∀ k, ¬ k = 0 → A1 k = A k
theorem cpT_of {A : Nat → Nat → Int32} {t : Nat} (ht : 217 ≤ t) : cpT A t (cpA A 0 t 0 217) := ⟨fun _ hi => cp_to (by omega) hi, fun _ hb _ hi => cp_off (by omega) hb hi, fun _ hk => cpA_row hk _ _ _⟩
section ZPAIR6
variable {d : Nat} {w w1 w2 : ZW} {C C' I0 I1 : Cup} {len : Nat} {bt : Nat → Int32} {fa fb : Int64} {m : Nat} {bd no fu : Int32} {A A1 : Nat → Nat → Int32} {I : Nat → Int32} {Q : Option Value → ZW → Prop}
theorem LR.img0 (hr : LR C I0 I1 len bt m bd no fu A I) (hC : cSame C' C) (hA : cpT A 217 A1) : LR C C' I1 len bt (m ||| 1) bd no fu (va_up A1 1 (upd (A1 1) 0 1)) I := by
  obtain ⟨⟨m1, m2, m3, m4⟩, n1, n2, n3, n4⟩ := bit_or m hr.2.1
  obtain ⟨qt, qo, qr⟩ := hA
  obtain ⟨h0, hm4, h2', ⟨h3, h3'⟩, h4, h5, h6, t1, t2, t3⟩ := hr
  have r1 := qr 1 (by decide)
  have r2 := qr 2 (by decide)
  have r3 := qr 3 (by decide)
  refine ⟨h0, m2, rel_go h2' (qo 0 (by decide)), ⟨?_, ?_⟩, fun _ => rel_same (rel_go h2' qt) hC, fun q => rel_go (h5 (by rw [← m4]; exact q)) (qo 434 (by decide)), ?_, t1, t2, fun i hi => ?_⟩
  · show upd (A1 1) 0 1 0 = _
    rw [pk_us, m3]
    rfl
  · show upd (A1 1) 0 1 1 = _
    rw [pk_un (by decide), r1, m4]
    exact h3'
  · show A1 2 0 = bd ∧ A1 2 1 = no ∧ A1 2 2 = fu
    rw [r2]; exact h6
  · show A1 3 i = bt i ∧ _
    rw [r3]; exact t3 i hi
theorem LR.img1 (hr : LR C I0 I1 len bt m bd no fu A I) (hC : cSame C' C) (hA : cpT A 434 A1) : LR C I0 C' len bt (m ||| 2) bd no fu (va_up A1 1 (upd (A1 1) 1 1)) I := by
  obtain ⟨⟨m1, m2, m3, m4⟩, n1, n2, n3, n4⟩ := bit_or m hr.2.1
  obtain ⟨qt, qo, qr⟩ := hA
  obtain ⟨h0, hm4, h2', ⟨h3, h3'⟩, h4, h5, h6, t1, t2, t3⟩ := hr
  have r1 := qr 1 (by decide)
  have r2 := qr 2 (by decide)
  have r3 := qr 3 (by decide)
  refine ⟨h0, n2, rel_go h2' (qo 0 (by decide)), ⟨?_, ?_⟩, fun q => rel_go (h4 (by rw [← n3]; exact q)) (qo 217 (by decide)), fun _ => rel_same (rel_go h2' qt) hC, ?_, t1, t2, fun i hi => ?_⟩
  · show upd (A1 1) 1 1 0 = _
    rw [pk_un (by decide), r1, n3]
    exact h3
  · show upd (A1 1) 1 1 1 = _
    rw [pk_us, n4]
    rfl
  · show A1 2 0 = bd ∧ A1 2 1 = no ∧ A1 2 2 = fu
    rw [r2]; exact h6
  · show A1 3 i = bt i ∧ _
    rw [r3]; exact t3 i hi
/-- image, with the copy hidden -/
theorem m_imageT {x : Int32} (h : isM w A I fa fb) (hb : I 0 = nI 0) (kB : ¬ (0 ≤ x ∧ x ≤ 1) → ∀ w', isM w' (toldI A 0 0) I fa fb → zOff 74 89 w w' → Q (some (.int (-2))) w') (k0 : x = 0 → ∀ w' A1, cpT A 217 A1 → isM w' (va_up A1 1 (upd (A1 1) 0 1)) I fa fb → zOff 74 89 w w' → Q (some (.int 1)) w') (k1 : x = 1 → ∀ w' A1, cpT A 434 A1 → isM w' (va_up A1 1 (upd (A1 1) 1 1)) I fa fb → zOff 74 89 w w' → Q (some (.int 1)) w') : Zm (d + 2) mX9_image 0 0 [.ref 74, .int x] w Q := by
  have go : ∀ j t, j < 2 → t = 217 * (1 + j) → x = nI j → ∀ w' A1, cpT A t A1 → isM w' (va_up A1 1 (upd (A1 1) j 1)) I fa fb → zOff 74 89 w w' → Q (some (.int 1)) w' := by
    intro j t hj ht e
    have : j = 0 ∨ j = 1 := by omega
    rcases this with rfl | rfl
    · have ht : t = 217 := ht
      subst ht
      exact k0 e
    · have ht : t = 434 := ht
      subst ht
      exact k1 e
  exact m_image h hb kB (fun j hj e w' h' o' => go j (217 * (1 + j)) hj rfl e w' _ (cpT_of (by omega)) h' o')
theorem p_image {x : Int32} (h : LI w) (hK : ∀ v w1, MR (d + 21) mX9_image [.int x] (.int v) w1 → Q (some (.int v)) w1) : Zm (d + 21) mX8_image 0 0 [.ref 0, .int x] w Q := by
  obtain ⟨C, I0, I1, len, bt, fa, fb, m, bd, no, fu, A, I, hs, hm, hr⟩ := h
  obtain ⟨⟨m1, m2, m3, m4⟩, n1, n2, n3, n4⟩ := bit_or m hr.2.1
  refine l_image hs (fun q w1 h1 o1 => ?_) (fun ex w1 C' hC h1 o1 => ?_) (fun ex w1 C' hC h1 o1 => ?_)
  · have hm1 := hm.off o1 (Or.inr (by decide))
    exact hK _ _ ⟨⟨_, hm1.1⟩, fun Q' k => m_imageT hm1 hr.1 (fun _ w2 h2 o2 => k w2 (LI.mk (h1.off o2 (by decide)) h2 hr.bad)) (fun e => absurd (by rw [e]; decide) q) (fun e => absurd (by rw [e]; decide) q)⟩
  · have hm1 := hm.off o1 (Or.inr (by decide))
    rw [m1] at h1
    exact hK _ _ ⟨⟨_, hm1.1⟩, fun Q' k => m_imageT hm1 hr.1 (fun q => absurd (by rw [ex]; decide) q) (fun _ w2 A1 hA h2 o2 => k w2 (LI.mk (h1.off o2 (by decide)) h2 (hr.img0 hC hA))) (fun e => absurd (ex.symm.trans e) (by decide))⟩
  · have hm1 := hm.off o1 (Or.inr (by decide))
    rw [n1] at h1
    exact hK _ _ ⟨⟨_, hm1.1⟩, fun Q' k => m_imageT hm1 hr.1 (fun q => absurd (by rw [ex]; decide) q) (fun e => absurd (ex.symm.trans e) (by decide)) (fun _ w2 A1 hA h2 o2 => k w2 (LI.mk (h1.off o2 (by decide)) h2 (hr.img1 hC hA)))⟩
end ZPAIR6
