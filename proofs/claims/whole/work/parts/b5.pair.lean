/-! ===== the law's invariant, and the calls, one by one: the class's answer is the Model's ===== -/
/-- the two objects, side by side -/
def LR (C I0 I1 : Cup) (len : Nat) (bt : Nat → Int32) (m : Nat) (bd no fu : Int32) (A : Nat → Nat → Int32) (I : Nat → Int32) : Prop := I 0 = nI 0 ∧ m < 4 ∧ rel C (vw A 0) ∧ (A 1 0 = bI (m.testBit 0) ∧ A 1 1 = bI (m.testBit 1)) ∧ (m.testBit 0 = true → rel I0 (vw A 217)) ∧ (m.testBit 1 = true → rel I1 (vw A 434)) ∧ (A 2 0 = bd ∧ A 2 1 = no ∧ A 2 2 = fu) ∧ txtM A I bt len
def LI (w : ZW) : Prop := ∃ (C I0 I1 : Cup) (len : Nat) (bt : Nat → Int32) (fa fb : Int64) (m : Nat) (bd no fu : Int32) (A : Nat → Nat → Int32) (I : Nat → Int32), isS w C I0 I1 len bt fa fb (nI m) bd no fu ∧ isM w A I fa fb ∧ LR C I0 I1 len bt m bd no fu A I
section ZPAIR
variable {d : Nat} {w w1 w2 : ZW} {C C' I0 I1 : Cup} {len : Nat} {bt : Nat → Int32} {fa fb : Int64} {m : Nat} {bd no fu : Int32} {A A' : Nat → Nat → Int32} {I : Nat → Int32} {Q : Option Value → ZW → Prop}
theorem LI.mk (hs : isS w C I0 I1 len bt fa fb (nI m) bd no fu) (hm : isM w A I fa fb) (hr : LR C I0 I1 len bt m bd no fu A I) : LI w := ⟨C, I0, I1, len, bt, fa, fb, m, bd, no, fu, A, I, hs, hm, hr⟩
/-- nothing but rows of work has changed -/
theorem LR.same (h : LR C I0 I1 len bt m bd no fu A I) (e : mS 4 A A') : LR C I0 I1 len bt m bd no fu A' I := by
  obtain ⟨h0, h1, h2, h3, h4, h5, h6, h7⟩ := h
  have e0 := e 0 (by decide)
  have e1 := e 1 (by decide)
  have e2 := e 2 (by decide)
  have e3 := e 3 (by decide)
  refine ⟨h0, h1, ?_, ?_, ?_, ?_, ?_, h7.1, h7.2.1, ?_⟩
  · show rel C (fun j => A' 0 (0 + j)); rw [e0]; exact h2
  · rw [e1]; exact h3
  · show _ → rel I0 (fun j => A' 0 (217 + j)); rw [e0]; exact h4
  · show _ → rel I1 (fun j => A' 0 (434 + j)); rw [e0]; exact h5
  · rw [e2]; exact h6
  · rw [e3]; exact h7.2.2
/-- the cupboard has changed -/
theorem LR.now (h : LR C I0 I1 len bt m bd no fu A I) (hr : rel C' (vw A' 0)) (e0 : ∀ j, 217 ≤ j → A' 0 j = A 0 j) (e : ∀ k, ¬ k = 0 → A' k = A k) : LR C' I0 I1 len bt m bd no fu A' I := by
  obtain ⟨h0, h1, h2, h3, h4, h5, h6, h7⟩ := h
  refine ⟨h0, h1, hr, ?_, fun q => rel_go (h4 q) (fun j hj => e0 _ (by omega)), fun q => rel_go (h5 q) (fun j hj => e0 _ (by omega)), ?_, h7.1, h7.2.1, ?_⟩
  · rw [e 1 (by decide)]; exact h3
  · rw [e 2 (by decide)]; exact h6
  · rw [e 3 (by decide)]; exact h7.2.2
theorem LR.bad (h : LR C I0 I1 len bt m bd no fu A I) : LR C I0 I1 len bt m (bd + 1) no fu (toldI A 0 0) I := by
  obtain ⟨h0, h1, h2, h3, h4, h5, ⟨a, b, c⟩, h7⟩ := h
  exact ⟨h0, h1, h2, h3, h4, h5, ⟨by show upd (A 2) 0 (A 2 0 + 1) 0 = _; rw [pk_us, a], b, c⟩, h7⟩
theorem LR.not (h : LR C I0 I1 len bt m bd no fu A I) : LR C I0 I1 len bt m bd (no + 1) fu (toldI A 0 1) I := by
  obtain ⟨h0, h1, h2, h3, h4, h5, ⟨a, b, c⟩, h7⟩ := h
  exact ⟨h0, h1, h2, h3, h4, h5, ⟨a, by show upd (A 2) 1 (A 2 1 + 1) 1 = _; rw [pk_us, b], c⟩, h7⟩
theorem LR.full (h : LR C I0 I1 len bt m bd no fu A I) : LR C I0 I1 len bt m bd no (fu + 1) (toldI A 0 2) I := by
  obtain ⟨h0, h1, h2, h3, h4, h5, ⟨a, b, c⟩, h7⟩ := h
  exact ⟨h0, h1, h2, h3, h4, h5, ⟨a, b, by show upd (A 2) 2 (A 2 2 + 1) 2 = _; rw [pk_us, c]⟩, h7⟩
/-- a few cells of the cupboard have changed -/
theorem mp_hi {j k : Nat} {v : Int32} (hj : j < 217) (hk : 217 ≤ k) : mp A 0 j v 0 k = A 0 k := by
  show upd (A 0) (0 + j) v k = _
  rw [pk_un (by omega)]
theorem LR.bnd (h : LR C I0 I1 len bt m bd no fu A I) : (C 0).1 ≤ 7 ∧ (C 1).1 ≤ 7 ∧ (C 2).1 ≤ 4 ∧ (C 3).1 ≤ 8 ∧ (C 4).1 ≤ 8 ∧ (C 5).1 ≤ 12 := h.2.2.1.1
theorem LR.cts (h : LR C I0 I1 len bt m bd no fu A I) : A 0 0 = nI (C 0).1 ∧ A 0 (0 + 1) = nI (C 1).1 ∧ A 0 (0 + 2) = nI (C 2).1 ∧ A 0 (0 + 3) = nI (C 3).1 ∧ A 0 (0 + 4) = nI (C 4).1 ∧ A 0 (0 + 5) = nI (C 5).1 := h.2.2.1.2.1
theorem okK_of {q : QT} {g : Nat → Prop} (h : ∀ r, r < q.1 → okLid (q.2 (r * 4)) (q.2 (r * 4 + 1)) (q.2 (r * 4 + 2))) : okK q := by
  intro r hr
  obtain ⟨j, hj, e⟩ := n10 (m := 5) (by decide) (by decide) (h r hr).1
  exact ⟨j, by omega, e⟩
theorem LR.kL (h : LR C I0 I1 len bt m bd no fu A I) : okK (C 1) := okK_of (g := fun _ => True) (fun r hr => (h.2.2.1.2.2.2.1.2.1 r hr).1)
theorem LR.kS (h : LR C I0 I1 len bt m bd no fu A I) : okK (C 2) := okK_of (g := fun _ => True) (fun r hr => (h.2.2.1.2.2.2.1.2.2.1 r hr).1)
theorem LR.box (h : LR C I0 I1 len bt m bd no fu A I) {r c : Nat} (hr : r < (C 0).1) (hc : c < 5) : mB A 0 r c = (C 0).2 (r * 5 + c) := (h.2.2.1.2.2.1.1 r hr c hc).symm
theorem LR.lid (h : LR C I0 I1 len bt m bd no fu A I) {r c : Nat} (hr : r < (C 1).1) (hc : c < 4) : mLd A 0 r c = (C 1).2 (r * 4 + c) := (h.2.2.1.2.2.1.2.1 r hr c hc).symm
theorem LR.srt (h : LR C I0 I1 len bt m bd no fu A I) {r c : Nat} (hr : r < (C 2).1) (hc : c < 4) : A 0 (0 + (69 + 4 * r + c)) = (C 2).2 (r * 4 + c) := (h.2.2.1.2.2.1.2.2.1 r hr c hc).symm
theorem LR.tal (h : LR C I0 I1 len bt m bd no fu A I) {r c : Nat} (hr : r < (C 3).1) (hc : c < 3) : A 0 (0 + (85 + 3 * r + c)) = (C 3).2 (r * 3 + c) := (h.2.2.1.2.2.1.2.2.2.1 r hr c hc).symm
theorem LR.hnt (h : LR C I0 I1 len bt m bd no fu A I) {r c : Nat} (hr : r < (C 4).1) (hc : c < 3) : A 0 (0 + (109 + 3 * r + c)) = (C 4).2 (r * 3 + c) := (h.2.2.1.2.2.1.2.2.2.2 r hr c hc).symm
theorem LR.mk (h : LR C I0 I1 len bt m bd no fu A I) : ∀ i, i < (C 1).1 → ∃ j, j < 6 ∧ mLd A 0 i 0 = nI j := by
  intro i hi
  obtain ⟨j, hj, e⟩ := h.kL i hi
  exact ⟨j, hj, (h.lid hi (by decide)).trans e⟩
theorem LR.fit (h : LR C I0 I1 len bt m bd no fu A I) {l b : Nat} (hl : l < (C 1).1) (hb : b < (C 0).1) : mFit A 0 b (mLd A 0 l 0) (mLd A 0 l 1) (mLd A 0 l 2) = cFit C l b := by
  rw [h.lid hl (by decide), h.lid hl (by decide), h.lid hl (by decide)]
  exact fit_eq (h.2.2.1.2.2.2.1.2.1 l hl).1 (h.box hb (by decide)) (h.box hb (by decide)) (h.box hb (by decide)) (h.2.2.1.2.2.2.1.1 b hb).1
theorem LR.fitS (h : LR C I0 I1 len bt m bd no fu A I) {l b : Nat} (hl : l < (C 2).1) (hb : b < (C 0).1) : mFS A l b = cFitS C l b := by
  have e0 := h.srt hl (c := 0) (by decide)
  have e1 := h.srt hl (c := 1) (by decide)
  have e2 := h.srt hl (c := 2) (by decide)
  rw [Nat.add_zero, Nat.add_zero] at e0
  unfold mFS
  rw [e0, e1, e2]
  exact fit_eq (h.2.2.1.2.2.2.1.2.2.1 l hl).1 (h.box hb (by decide)) (h.box hb (by decide)) (h.box hb (by decide)) (h.2.2.1.2.2.2.1.1 b hb).1
theorem mskF_congr {p q : Nat → Bool} : ∀ (k i m : Nat), (∀ j, i ≤ j → j < i + k → p j = q j) → mskF p i k m = mskF q i k m := by
  intro k
  induction k with
  | zero => intro i m _; rfl
  | succ k ih =>
    intro i m h
    unfold mskF
    rw [h i (by omega) (by omega)]
    exact ih _ _ (fun j h1 h2 => h j (by omega) (by omega))
theorem LR.mask (h : LR C I0 I1 len bt m bd no fu A I) {b : Nat} (hb : b < (C 0).1) : mG A (C 0).1 (C 1).1 b = cMask C b := by
  unfold mG cMask
  rw [if_pos hb]
  exact mskF_congr _ _ _ (fun j _ hj => h.fit (by omega) hb)
theorem LR.nest (h : LR C I0 I1 len bt m bd no fu A I) {b : Nat} (hb : b < (C 0).1) : mP A (C 0).1 b = cAround C b := by
  unfold mP cAround
  rw [if_pos hb]
  refine mskF_congr _ _ _ (fun j _ hj => ?_)
  have hj' : j < (C 0).1 := by omega
  unfold mNest cNest
  rw [h.box hb (by decide), h.box hb (by decide), h.box hj' (by decide), h.box hj' (by decide), Bool.and_comm]
  rfl
theorem LR.nn (h : LR C I0 I1 len bt m bd no fu A I) : ∀ r, r < (C 0).1 → ¬ (-4 ≤ mB A 0 r 3 ∧ mB A 0 r 3 ≤ -2) := fun r hr => told_pos (by rw [h.box hr (by decide)]; exact (h.2.2.1.2.2.2.1.1 r hr).2.1)
/-- both calls of one deed: the class's answer v in the world w1, where the Model answers the same and the two stand side by side again -/
def MR (d : Nat) (mt : ZM) (as : List Value) (v : Value) (w1 : ZW) : Prop := (∃ fs, zat w1 74 (.inr (9, fs))) ∧ ∀ Q' : Option Value → ZW → Prop, (∀ w2, LI w2 → Q' (some v) w2) → Zm d mt 0 0 (.ref 74 :: as) w1 Q'
theorem p_box {x y z : Int32} (h : LI w) (hK : ∀ v w1, MR (d + 21) mX9_box [.int x, .int y, .int z] (.int v) w1 → Q (some (.int v)) w1) : Zm (d + 21) mX8_box 0 0 [.ref 0, .int x, .int y, .int z] w Q := by
  obtain ⟨C, I0, I1, len, bt, fa, fb, m, bd, no, fu, A, I, hs, hm, hr⟩ := h
  obtain ⟨c0, c1, c2, c3, c4, c5⟩ := hr.cts
  obtain ⟨b0, b1, b2, b3, b4, b5⟩ := hr.bnd
  refine l_box hs (fun q w1 h1 o1 => ?_) (fun q q2 w1 h1 o1 => ?_) (fun q q2 w1 h1 o1 => ?_)
  · have hm1 := hm.off o1 (Or.inr (by decide))
    exact hK _ _ ⟨⟨_, hm1.1⟩, fun Q' k => m_box hm1 hr.1 c0 b0 (fun _ w2 h2 o2 => k w2 (LI.mk (h1.off o2 (by decide)) h2 hr.bad)) (fun q' _ => absurd q' q) (fun q' _ => absurd q' q)⟩
  · have hm1 := hm.off o1 (Or.inr (by decide))
    exact hK _ _ ⟨⟨_, hm1.1⟩, fun Q' k => m_box hm1 hr.1 c0 b0 (fun q' => absurd q q') (fun _ _ w2 h2 o2 => k w2 (LI.mk (h1.off o2 (by decide)) h2 hr.full)) (fun _ q' => absurd q' (by omega))⟩
  · have hm1 := hm.off o1 (Or.inr (by decide))
    refine hK _ _ ⟨⟨_, hm1.1⟩, fun Q' k => m_box hm1 hr.1 c0 b0 (fun q' => absurd q q') (fun _ q' => absurd q' (by omega)) (fun _ _ w2 h2 o2 => k w2 (LI.mk (h1.off o2 (by decide)) h2 (hr.now ?_ (fun j hj => ?_) (fun k hk => ?_))))⟩
    · rw [vw_mp, vw_mp, vw_mp, vw_mp, vw_mp, vw_mp, vw_mp]
      exact rx_box hr.2.2.1 q q2
    · rw [mp_hi (by omega) hj, mp_hi (by omega) hj, mp_hi (by omega) hj, mp_hi (by omega) hj, mp_hi (by omega) hj, mp_hi (by omega) hj, mp_hi (by omega) hj]
    · rw [mp_row hk, mp_row hk, mp_row hk, mp_row hk, mp_row hk, mp_row hk, mp_row hk]
theorem p_lid {x y z : Int32} (h : LI w) (hK : ∀ v w1, MR (d + 21) mX9_lid [.int x, .int y, .int z] (.int v) w1 → Q (some (.int v)) w1) : Zm (d + 21) mX8_lid 0 0 [.ref 0, .int x, .int y, .int z] w Q := by
  obtain ⟨C, I0, I1, len, bt, fa, fb, m, bd, no, fu, A, I, hs, hm, hr⟩ := h
  obtain ⟨c0, c1, c2, c3, c4, c5⟩ := hr.cts
  obtain ⟨b0, b1, b2, b3, b4, b5⟩ := hr.bnd
  refine l_lid hs (fun q w1 h1 o1 => ?_) (fun q q2 w1 h1 o1 => ?_) (fun q q2 w1 h1 o1 => ?_)
  · have hm1 := hm.off o1 (Or.inr (by decide))
    exact hK _ _ ⟨⟨_, hm1.1⟩, fun Q' k => m_lid hm1 hr.1 c1 b1 (fun _ w2 h2 o2 => k w2 (LI.mk (h1.off o2 (by decide)) h2 hr.bad)) (fun q' _ => absurd q' q) (fun q' _ => absurd q' q)⟩
  · have hm1 := hm.off o1 (Or.inr (by decide))
    exact hK _ _ ⟨⟨_, hm1.1⟩, fun Q' k => m_lid hm1 hr.1 c1 b1 (fun q' => absurd q q') (fun _ _ w2 h2 o2 => k w2 (LI.mk (h1.off o2 (by decide)) h2 hr.full)) (fun _ q' => absurd q' (by omega))⟩
  · have hm1 := hm.off o1 (Or.inr (by decide))
    refine hK _ _ ⟨⟨_, hm1.1⟩, fun Q' k => m_lid hm1 hr.1 c1 b1 (fun q' => absurd q q') (fun _ q' => absurd q' (by omega)) (fun _ _ w2 h2 o2 => k w2 (LI.mk (h1.off o2 (by decide)) h2 (hr.now ?_ (fun j hj => ?_) (fun k hk => ?_))))⟩
    · rw [vw_mp, vw_mp, vw_mp, vw_mp, vw_mp, vw_mp]
      exact rx_lid hr.2.2.1 q q2
    · rw [mp_hi (by omega) hj, mp_hi (by omega) hj, mp_hi (by omega) hj, mp_hi (by omega) hj, mp_hi (by omega) hj, mp_hi (by omega) hj]
    · rw [mp_row hk, mp_row hk, mp_row hk, mp_row hk, mp_row hk, mp_row hk]
theorem p_sort {x y z u : Int32} (h : LI w) (hK : ∀ v w1, MR (d + 21) mX9_sort [.int x, .int y, .int z, .int u] (.int v) w1 → Q (some (.int v)) w1) : Zm (d + 21) mX8_sort 0 0 [.ref 0, .int x, .int y, .int z, .int u] w Q := by
  obtain ⟨C, I0, I1, len, bt, fa, fb, m, bd, no, fu, A, I, hs, hm, hr⟩ := h
  obtain ⟨c0, c1, c2, c3, c4, c5⟩ := hr.cts
  obtain ⟨b0, b1, b2, b3, b4, b5⟩ := hr.bnd
  refine l_sort hs (fun q w1 h1 o1 => ?_) (fun q q2 w1 h1 o1 => ?_) (fun q q2 w1 h1 o1 => ?_)
  · have hm1 := hm.off o1 (Or.inr (by decide))
    exact hK _ _ ⟨⟨_, hm1.1⟩, fun Q' k => m_sort hm1 hr.1 c2 b2 (fun _ w2 h2 o2 => k w2 (LI.mk (h1.off o2 (by decide)) h2 hr.bad)) (fun q' _ => absurd q' q) (fun q' _ => absurd q' q)⟩
  · have hm1 := hm.off o1 (Or.inr (by decide))
    exact hK _ _ ⟨⟨_, hm1.1⟩, fun Q' k => m_sort hm1 hr.1 c2 b2 (fun q' => absurd q q') (fun _ _ w2 h2 o2 => k w2 (LI.mk (h1.off o2 (by decide)) h2 hr.full)) (fun _ q' => absurd q' (by omega))⟩
  · have hm1 := hm.off o1 (Or.inr (by decide))
    refine hK _ _ ⟨⟨_, hm1.1⟩, fun Q' k => m_sort hm1 hr.1 c2 b2 (fun q' => absurd q q') (fun _ q' => absurd q' (by omega)) (fun _ _ w2 h2 o2 => k w2 (LI.mk (h1.off o2 (by decide)) h2 (hr.now ?_ (fun j hj => ?_) (fun k hk => ?_))))⟩
    · rw [vw_mp, vw_mp, vw_mp, vw_mp, vw_mp]
      exact rx_sort hr.2.2.1 q q2
    · rw [mp_hi (by omega) hj, mp_hi (by omega) hj, mp_hi (by omega) hj, mp_hi (by omega) hj, mp_hi (by omega) hj]
    · rw [mp_row hk, mp_row hk, mp_row hk, mp_row hk, mp_row hk]
end ZPAIR
