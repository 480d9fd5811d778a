/-! ===== the calls on both sides: lend, has, wrong, hint, forget, evening, part, image, from, status, count, digest ===== -/
theorem cnt_len {p : Nat → Bool} : ∀ (k i : Nat), cnt p i k ≤ k := by
  intro k
  induction k with
  | zero => intro i; exact Nat.le_refl _
  | succ k ih =>
    intro i
    unfold cnt
    have := ih (i + 1)
    split <;> omega
theorem evL_congr {g g' : Nat → Int32} {n : Nat} (hn : 0 < n) (e : ∀ b, b < n → g b = g' b) : ∀ (k x : Nat) (f u o : Int32), evL g n k x f u o = evL g' n k x f u o := by
  intro k
  induction k with
  | zero => intro x f u o; rfl
  | succ k ih =>
    intro x f u o
    unfold evL
    rw [e _ (Nat.mod_lt _ hn), ih, ih]
theorem mixL_congr {f g : Nat → Int32} : ∀ (k i i' : Nat) (h : Int64), (∀ t, t < k → f (i + t) = g (i' + t)) → mixL f i k h = mixL g i' k h := by
  intro k
  induction k with
  | zero => intro i i' h _; rfl
  | succ k ih =>
    intro i i' h e
    unfold mixL
    have e0 := e 0 (by omega)
    rw [Nat.add_zero, Nat.add_zero] at e0
    rw [e0]
    refine ih _ _ _ (fun t ht => ?_)
    have := e (t + 1) (by omega)
    rw [show i + 1 + t = i + (t + 1) by omega, show i' + 1 + t = i' + (t + 1) by omega]
    exact this
theorem relT_flat {q : QT} {W a : Nat} {f : Nat → Int32} (h : relT q W a f) (hW : 0 < W) : ∀ j, j < q.1 * W → q.2 j = f (a + j) := by
  intro j hj
  have h1 : j / W < q.1 := Nat.div_lt_of_lt_mul (by rw [Nat.mul_comm]; exact hj)
  have h2 := h (j / W) h1 (j % W) (Nat.mod_lt _ hW)
  have e1 : j / W * W + j % W = j := by rw [Nat.mul_comm]; exact Nat.div_add_mod j W
  have e2 : a + W * (j / W) + j % W = a + j := by rw [Nat.add_assoc, Nat.div_add_mod]
  rw [e1, e2] at h2
  exact h2
section ZPAIR4
variable {d : Nat} {w w1 w2 : ZW} {C C' I0 I1 : Cup} {len : Nat} {bt : Nat → Int32} {fa fb : Int64} {m : Nat} {bd no fu : Int32} {A A' : Nat → Nat → Int32} {I : Nat → Int32} {Q : Option Value → ZW → Prop}
theorem LR.who (h : LR C I0 I1 len bt m bd no fu A I) {x : Int32} : ∀ (k i : Nat) (v : Int32), i + k ≤ (C 3).1 → mWho A x i k v = hold (C 3).2 x i k v := by
  intro k
  induction k with
  | zero => intro i v _; rfl
  | succ k ih =>
    intro i v hi
    have e0 := h.tal (r := i) (c := 0) (by omega) (by decide)
    have e1 := h.tal (r := i) (c := 1) (by omega) (by decide)
    have e2 := h.tal (r := i) (c := 2) (by omega) (by decide)
    rw [Nat.add_zero, Nat.add_zero] at e0
    unfold mWho hold
    rw [e0, e1, e2]
    exact ih _ _ (by omega)
theorem LR.how (h : LR C I0 I1 len bt m bd no fu A I) {j : Nat} (hj : j < 8) : mHow A I (C 0).1 j = nI (howN C len j) := by
  obtain ⟨c0, c1, c2, c3, c4, c5⟩ := h.cts
  have : j = 0 ∨ j = 1 ∨ j = 2 ∨ j = 3 ∨ j = 4 ∨ j = 5 ∨ j = 6 ∨ j = 7 := by omega
  rcases this with rfl | rfl | rfl | rfl | rfl | rfl | rfl | rfl
  · exact c0
  · exact c1
  · show nI (cnt _ 0 _) = nI (cnt _ 0 _)
    rw [cnt_congr (C 0).1 0 (fun r _ hr => by rw [h.box (by omega) (by decide)])]
  · exact c2
  · exact c3
  · exact c4
  · exact c5
  · exact h.2.2.2.2.2.2.2.1
theorem LR.howS (h : LR C I0 I1 len bt m bd no fu A I) {j : Nat} (hj : j < 8) : howN C len j < 1000 := by
  obtain ⟨b0, b1, b2, b3, b4, b5⟩ := h.bnd
  have hl := h.2.2.2.2.2.2.2.2.1
  have : j = 0 ∨ j = 1 ∨ j = 2 ∨ j = 3 ∨ j = 4 ∨ j = 5 ∨ j = 6 ∨ j = 7 := by omega
  rcases this with rfl | rfl | rfl | rfl | rfl | rfl | rfl | rfl
  · show (C 0).1 < 1000; omega
  · show (C 1).1 < 1000; omega
  · show cnt _ 0 (C 0).1 < 1000
    have := cnt_len (p := fun b => !decide ((C 0).2 (b * 5 + 4) = -1)) (C 0).1 0
    omega
  · show (C 2).1 < 1000; omega
  · show (C 3).1 < 1000; omega
  · show (C 4).1 < 1000; omega
  · show (C 5).1 < 1000; omega
  · show len < 1000; omega
theorem LR.dg (h : LR C I0 I1 len bt m bd no fu A I) : ∀ (k j : Nat) (x : Int64), j + k ≤ 8 → dgM A I (C 0).1 j k x = digF C len j k x := by
  intro k
  induction k with
  | zero => intro j x _; rfl
  | succ k ih =>
    intro j x hj
    unfold dgM digF
    rw [h.how (by omega)]
    exact ih _ _ (by omega)
theorem LR.dig (h : LR C I0 I1 len bt m bd no fu A I) : mDig A I fa fb (C 0).1 (C 1).1 (C 2).1 (C 3).1 (C 4).1 = cDig C len fa fb := by
  obtain ⟨t0, t1, t2, t3, t4⟩ := h.2.2.1.2.2.1
  have f0 := relT_flat t0 (by decide)
  have f1 := relT_flat t1 (by decide)
  have f2 := relT_flat t2 (by decide)
  have f3 := relT_flat t3 (by decide)
  have f4 := relT_flat t4 (by decide)
  unfold mDig cDig
  rw [h.dg 8 0 857 (by omega), Nat.mul_comm 5, Nat.mul_comm 4 (C 1).1, Nat.mul_comm 4 (C 2).1, Nat.mul_comm 3 (C 3).1, Nat.mul_comm 3 (C 4).1]
  rw [mixL_congr (g := (C 0).2) ((C 0).1 * 5) 6 0 _ (fun t ht => by rw [Nat.zero_add, f0 t ht]; show A 0 (6 + t) = A 0 (0 + (6 + t)); rw [Nat.zero_add])]
  rw [mixL_congr (g := (C 1).2) ((C 1).1 * 4) 41 0 _ (fun t ht => by rw [Nat.zero_add, f1 t ht]; show A 0 (41 + t) = A 0 (0 + (41 + t)); rw [Nat.zero_add])]
  rw [mixL_congr (g := (C 2).2) ((C 2).1 * 4) 69 0 _ (fun t ht => by rw [Nat.zero_add, f2 t ht]; show A 0 (69 + t) = A 0 (0 + (69 + t)); rw [Nat.zero_add])]
  rw [mixL_congr (g := (C 3).2) ((C 3).1 * 3) 85 0 _ (fun t ht => by rw [Nat.zero_add, f3 t ht]; show A 0 (85 + t) = A 0 (0 + (85 + t)); rw [Nat.zero_add])]
  rw [mixL_congr (g := (C 4).2) ((C 4).1 * 3) 109 0 _ (fun t ht => by rw [Nat.zero_add, f4 t ht]; show A 0 (109 + t) = A 0 (0 + (109 + t)); rw [Nat.zero_add])]
theorem p_lend {x y z : Int32} (h : LI w) (hK : ∀ v w1, MR (d + 21) mX9_lend [.int x, .int y, .int z] (.int v) w1 → Q (some (.int v)) w1) : Zm (d + 21) mX8_lend 0 0 [.ref 0, .int x, .int y, .int z] w Q := by
  obtain ⟨C, I0, I1, len, bt, fa, fb, m, bd, no, fu, A, I, hs, hm, hr⟩ := h
  obtain ⟨c0, c1, c2, c3, c4, c5⟩ := hr.cts
  obtain ⟨b0, b1, b2, b3, b4, b5⟩ := hr.bnd
  refine l_lend hs (fun q w1 h1 o1 => ?_) (fun q q2 w1 h1 o1 => ?_) (fun q q2 w1 h1 o1 => ?_)
  · have hm1 := hm.off o1 (Or.inr (by decide))
    exact hK _ _ ⟨⟨_, hm1.1⟩, fun Q' k => m_lend hm1 hr.1 c1 b1 c3 b3 (fun _ w2 h2 o2 => k w2 (LI.mk (h1.off o2 (by decide)) h2 hr.bad)) (fun q' _ => absurd q' q) (fun q' _ => absurd q' q)⟩
  · have hm1 := hm.off o1 (Or.inr (by decide))
    exact hK _ _ ⟨⟨_, hm1.1⟩, fun Q' k => m_lend hm1 hr.1 c1 b1 c3 b3 (fun q' => absurd q q') (fun _ _ w2 h2 o2 => k w2 (LI.mk (h1.off o2 (by decide)) h2 hr.full)) (fun _ q' => absurd q' (by omega))⟩
  · have hm1 := hm.off o1 (Or.inr (by decide))
    refine hK _ _ ⟨⟨_, hm1.1⟩, fun Q' k => m_lend hm1 hr.1 c1 b1 c3 b3 (fun q' => absurd q q') (fun _ q' => absurd q' (by omega)) (fun _ _ w2 h2 o2 => k w2 (LI.mk (h1.off o2 (by decide)) h2 (hr.now ?_ (fun j hj => ?_) (fun k hk => ?_))))⟩
    · rw [vw_mp, vw_mp, vw_mp, vw_mp]
      exact rx_tale hr.2.2.1 q2
    · rw [mp_hi (by omega) hj, mp_hi (by omega) hj, mp_hi (by omega) hj, mp_hi (by omega) hj]
    · rw [mp_row hk, mp_row hk, mp_row hk, mp_row hk]
theorem p_hint {x y z : Int32} (h : LI w) (hK : ∀ v w1, MR (d + 21) mX9_hint [.int x, .int y, .int z] (.int v) w1 → Q (some (.int v)) w1) : Zm (d + 21) mX8_hint 0 0 [.ref 0, .int x, .int y, .int z] w Q := by
  obtain ⟨C, I0, I1, len, bt, fa, fb, m, bd, no, fu, A, I, hs, hm, hr⟩ := h
  obtain ⟨c0, c1, c2, c3, c4, c5⟩ := hr.cts
  obtain ⟨b0, b1, b2, b3, b4, b5⟩ := hr.bnd
  refine l_hint hs (fun q w1 h1 o1 => ?_) (fun q q2 w1 h1 o1 => ?_) (fun q q2 w1 h1 o1 => ?_)
  · have hm1 := hm.off o1 (Or.inr (by decide))
    exact hK _ _ ⟨⟨_, hm1.1⟩, fun Q' k => m_hint hm1 hr.1 c0 b0 c4 b4 (fun _ w2 h2 o2 => k w2 (LI.mk (h1.off o2 (by decide)) h2 hr.bad)) (fun q' _ => absurd q' q) (fun q' _ => absurd q' q)⟩
  · have hm1 := hm.off o1 (Or.inr (by decide))
    exact hK _ _ ⟨⟨_, hm1.1⟩, fun Q' k => m_hint hm1 hr.1 c0 b0 c4 b4 (fun q' => absurd q q') (fun _ _ w2 h2 o2 => k w2 (LI.mk (h1.off o2 (by decide)) h2 hr.full)) (fun _ q' => absurd q' (by omega))⟩
  · have hm1 := hm.off o1 (Or.inr (by decide))
    refine hK _ _ ⟨⟨_, hm1.1⟩, fun Q' k => m_hint hm1 hr.1 c0 b0 c4 b4 (fun q' => absurd q q') (fun _ q' => absurd q' (by omega)) (fun _ _ w2 h2 o2 => k w2 (LI.mk (h1.off o2 (by decide)) h2 (hr.now ?_ (fun j hj => ?_) (fun k hk => ?_))))⟩
    · rw [vw_mp, vw_mp, vw_mp, vw_mp]
      exact rx_hint hr.2.2.1 q q2
    · rw [mp_hi (by omega) hj, mp_hi (by omega) hj, mp_hi (by omega) hj, mp_hi (by omega) hj]
    · rw [mp_row hk, mp_row hk, mp_row hk, mp_row hk]
theorem p_has {x : Int32} (h : LI w) (hK : ∀ v w1, MR (d + 21) mX9_has [.int x] (.int v) w1 → Q (some (.int v)) w1) : Zm (d + 21) mX8_has 0 0 [.ref 0, .int x] w Q := by
  obtain ⟨C, I0, I1, len, bt, fa, fb, m, bd, no, fu, A, I, hs, hm, hr⟩ := h
  obtain ⟨c0, c1, c2, c3, c4, c5⟩ := hr.cts
  obtain ⟨b0, b1, b2, b3, b4, b5⟩ := hr.bnd
  refine l_has hs (fun q w1 h1 o1 => ?_) (fun r hr' ex => ?_)
  · have hm1 := hm.off o1 (Or.inr (by decide))
    exact hK _ _ ⟨⟨_, hm1.1⟩, fun Q' k => m_has hm1 hr.1 c1 b1 c3 b3 (fun _ w2 h2 o2 => k w2 (LI.mk (h1.off o2 (by decide)) h2 hr.bad)) (fun r hr' e => absurd e (q r hr'))⟩
  · refine hK _ _ ⟨⟨_, hm.1⟩, fun Q' k => m_has hm hr.1 c1 b1 c3 b3 (fun q' => absurd ex (q' r hr')) (fun s hs' e => ?_)⟩
    rw [hr.who _ _ _ (by omega), ex]
    exact k w (LI.mk hs hm hr)
theorem p_wrong (h : LI w) (hK : ∀ v w1, MR (d + 21) mX9_wrong [] (.int v) w1 → Q (some (.int v)) w1) : Zm (d + 21) mX8_wrong 0 0 [.ref 0] w Q := by
  obtain ⟨C, I0, I1, len, bt, fa, fb, m, bd, no, fu, A, I, hs, hm, hr⟩ := h
  obtain ⟨c0, c1, c2, c3, c4, c5⟩ := hr.cts
  obtain ⟨b0, b1, b2, b3, b4, b5⟩ := hr.bnd
  refine l_wrong hs (hK _ _ ⟨⟨_, hm.1⟩, fun Q' k => m_wrong hm hr.1 c3 b3 ?_⟩)
  have e : fnd (mWr A) 0 (C 3).1 = fnd (wrongF (C 3).2) 0 (C 3).1 := by
    refine fnd_congr _ _ (fun j _ hj => ?_)
    have e0 := hr.tal (r := j) (c := 0) (by omega) (by decide)
    have e1 := hr.tal (r := j) (c := 1) (by omega) (by decide)
    rw [Nat.add_zero, Nat.add_zero] at e0
    unfold mWr wrongF
    rw [e0, e1, hr.who _ _ _ (by omega)]
  rw [e]
  exact k w (LI.mk hs hm hr)
theorem p_forget {x : Int32} (h : LI w) (hK : ∀ v w1, MR (d + 21) mX9_forget [.int x] (.int v) w1 → Q (some (.int v)) w1) : Zm (d + 21) mX8_forget 0 0 [.ref 0, .int x] w Q := by
  obtain ⟨C, I0, I1, len, bt, fa, fb, m, bd, no, fu, A, I, hs, hm, hr⟩ := h
  obtain ⟨c0, c1, c2, c3, c4, c5⟩ := hr.cts
  refine l_forget hs (fun q w1 h1 o1 => ?_) (fun ex w1 h1 o1 => ?_) (fun ex w1 h1 o1 => ?_) (fun ex w1 h1 o1 => ?_)
  · have hm1 := hm.off o1 (Or.inr (by decide))
    exact hK _ _ ⟨⟨_, hm1.1⟩, fun Q' k => m_forget hm1 hr.1 (fun _ w2 h2 o2 => k w2 (LI.mk (h1.off o2 (by decide)) h2 hr.bad)) (fun e => absurd (by rw [e]; decide) q) (fun e => absurd (by rw [e]; decide) q) (fun e => absurd (by rw [e]; decide) q)⟩
  · have hm1 := hm.off o1 (Or.inr (by decide))
    subst ex
    refine hK _ _ ⟨⟨_, hm1.1⟩, fun Q' k => m_forget hm1 hr.1 (fun q => absurd (by decide) q) (fun _ w2 h2 o2 => ?_) (fun e => absurd e (by decide)) (fun e => absurd e (by decide))⟩
    rw [c3]
    refine k w2 (LI.mk (h1.off o2 (by decide)) h2 (hr.now ?_ (fun j hj => ?_) (fun k hk => ?_)))
    · rw [vw_mp]; exact rx_drop3 hr.2.2.1
    · rw [mp_hi (by omega) hj]
    · rw [mp_row hk]
  · have hm1 := hm.off o1 (Or.inr (by decide))
    subst ex
    refine hK _ _ ⟨⟨_, hm1.1⟩, fun Q' k => m_forget hm1 hr.1 (fun q => absurd (by decide) q) (fun e => absurd e (by decide)) (fun _ w2 h2 o2 => ?_) (fun e => absurd e (by decide))⟩
    rw [c4]
    refine k w2 (LI.mk (h1.off o2 (by decide)) h2 (hr.now ?_ (fun j hj => ?_) (fun k hk => ?_)))
    · rw [vw_mp]; exact rx_drop4 hr.2.2.1
    · rw [mp_hi (by omega) hj]
    · rw [mp_row hk]
  · have hm1 := hm.off o1 (Or.inr (by decide))
    subst ex
    refine hK _ _ ⟨⟨_, hm1.1⟩, fun Q' k => m_forget hm1 hr.1 (fun q => absurd (by decide) q) (fun e => absurd e (by decide)) (fun e => absurd e (by decide)) (fun _ w2 h2 o2 => ?_)⟩
    rw [c2]
    refine k w2 (LI.mk (h1.off o2 (by decide)) h2 (hr.now ?_ (fun j hj => ?_) (fun k hk => ?_)))
    · rw [vw_mp]; exact rx_drop2 hr.2.2.1
    · rw [mp_hi (by omega) hj]
    · rw [mp_row hk]
theorem p_evening {x y : Int32} (h : LI w) (hK : ∀ v w1, MR (d + 21) mX9_evening [.int x, .int y] (.int v) w1 → Q (some (.int v)) w1) : Zm (d + 21) mX8_evening 0 0 [.ref 0, .int x, .int y] w Q := by
  obtain ⟨C, I0, I1, len, bt, fa, fb, m, bd, no, fu, A, I, hs, hm, hr⟩ := h
  obtain ⟨c0, c1, c2, c3, c4, c5⟩ := hr.cts
  obtain ⟨b0, b1, b2, b3, b4, b5⟩ := hr.bnd
  refine l_evening hs hr.kL (fun q w1 h1 o1 => ?_) (fun q1 q2 q3 w1 h1 o1 => ?_) (fun a s ha hs' ex ey h0 => ?_)
  · have hm1 := hm.off o1 (Or.inr (by decide))
    refine hK _ _ ⟨⟨_, hm1.1⟩, fun Q' k => m_evening hm1 hr.1 c0 b0 c1 b1 hr.mk (fun _ w2 h2 o2 => k w2 (LI.mk (h1.off o2 (by decide)) h2 hr.bad)) (fun z1 z2 _ => absurd ⟨z1, z2⟩ q) (fun a s ha hs' ex ey h0 => ?_)⟩
    exfalso
    refine q ⟨?_, ?_⟩
    · rw [ex]; exact ⟨nI_pos' (by omega), nI_le (b := 60) ha (by decide)⟩
    · rw [ey]; exact ⟨nI_pos' (by omega), nI_le (b := 999999) hs' (by decide)⟩
  · have hm1 := hm.off o1 (Or.inr (by decide))
    exact hK _ _ ⟨⟨_, hm1.1⟩, fun Q' k => m_evening hm1 hr.1 c0 b0 c1 b1 hr.mk (fun z => absurd ⟨q1, q2⟩ z) (fun _ _ _ w2 h2 o2 => k w2 (LI.mk (h1.off o2 (by decide)) h2 hr.not)) (fun a s ha hs' ex ey h0 => absurd h0 (by omega))⟩
  · refine hK _ _ ⟨⟨_, hm.1⟩, fun Q' k => m_evening hm hr.1 c0 b0 c1 b1 hr.mk (fun z => ?_) (fun _ _ z => absurd z (by omega)) (fun a' s' ha' hs'' ex' ey' _ w2 B hS h2 o2 => ?_)⟩
    · exfalso
      refine z ⟨?_, ?_⟩
      · rw [ex]; exact ⟨nI_pos' (by omega), nI_le (b := 60) ha (by decide)⟩
      · rw [ey]; exact ⟨nI_pos' (by omega), nI_le (b := 999999) hs' (by decide)⟩
    · have e1 : a' = a := (nI_eq (by omega) (by omega)).mp (ex'.symm.trans ex)
      have e2 : s' = s := (nI_eq (by omega) (by omega)).mp (ey'.symm.trans ey)
      subst e1
      subst e2
      rw [evL_congr (g' := fun b => nI (cMask C b)) h0 (fun b hb => by rw [hr.mask hb])]
      exact k w2 (LI.mk (hs.off o2 (by decide)) h2 (hr.same hS))
theorem p_part {x : Int32} (h : LI w) (hK : ∀ v w1, MR (d + 21) mX9_part [.int x] (.long v) w1 → Q (some (.long v)) w1) : Zm (d + 21) mX8_part 0 0 [.ref 0, .int x] w Q := by
  obtain ⟨C, I0, I1, len, bt, fa, fb, m, bd, no, fu, A, I, hs, hm, hr⟩ := h
  refine l_part hs (fun q q' w1 h1 o1 => ?_) (fun ex => ?_) (fun ex => ?_)
  · have hm1 := hm.off o1 (Or.inr (by decide))
    exact hK _ _ ⟨⟨_, hm1.1⟩, fun Q' k => m_part hm1 hr.1 (fun _ w2 h2 o2 => k w2 (LI.mk (h1.off o2 (by decide)) h2 hr.bad)) (fun e => absurd e q) (fun e => absurd e q')⟩
  · subst ex
    exact hK _ _ ⟨⟨_, hm.1⟩, fun Q' k => m_part hm hr.1 (fun q => absurd (by decide) q) (fun _ => k w (LI.mk hs hm hr)) (fun e => absurd e (by decide))⟩
  · subst ex
    exact hK _ _ ⟨⟨_, hm.1⟩, fun Q' k => m_part hm hr.1 (fun q => absurd (by decide) q) (fun e => absurd e (by decide)) (fun _ => k w (LI.mk hs hm hr))⟩
theorem p_status {x : Int32} (h : LI w) (hK : ∀ v w1, MR (d + 21) mX9_status [.int x] (.int v) w1 → Q (some (.int v)) w1) : Zm (d + 21) mX8_status 0 0 [.ref 0, .int x] w Q := by
  obtain ⟨C, I0, I1, len, bt, fa, fb, m, bd, no, fu, A, I, hs, hm, hr⟩ := h
  obtain ⟨r0, r1, r2⟩ := hr.2.2.2.2.2.2.1
  have e3 : ∀ j, j < 3 → ∀ i, i < 3 → nI i = nI j → i = j := by decide +kernel
  refine l_status hs (fun q w1 h1 o1 => ?_) (fun ex => ?_) (fun ex => ?_) (fun ex => ?_)
  · have hm1 := hm.off o1 (Or.inr (by decide))
    refine hK _ _ ⟨⟨_, hm1.1⟩, fun Q' k => m_status hm1 hr.1 (fun _ w2 h2 o2 => k w2 (LI.mk (h1.off o2 (by decide)) h2 hr.bad)) (fun j hj e => ?_)⟩
    exfalso
    exact q (by rw [e]; exact ⟨nI_pos' (by omega), nI_le (b := 2) (by omega) (by decide)⟩)
  · subst ex
    refine hK _ _ ⟨⟨_, hm.1⟩, fun Q' k => m_status hm hr.1 (fun q => absurd (by decide) q) (fun j hj e => ?_)⟩
    have := e3 j hj 0 (by decide) e
    subst this
    rw [r0]
    exact k w (LI.mk hs hm hr)
  · subst ex
    refine hK _ _ ⟨⟨_, hm.1⟩, fun Q' k => m_status hm hr.1 (fun q => absurd (by decide) q) (fun j hj e => ?_)⟩
    have := e3 j hj 1 (by decide) e
    subst this
    rw [r1]
    exact k w (LI.mk hs hm hr)
  · subst ex
    refine hK _ _ ⟨⟨_, hm.1⟩, fun Q' k => m_status hm hr.1 (fun q => absurd (by decide) q) (fun j hj e => ?_)⟩
    have := e3 j hj 2 (by decide) e
    subst this
    rw [r2]
    exact k w (LI.mk hs hm hr)
theorem p_count {x : Int32} (h : LI w) (hK : ∀ v w1, MR (d + 21) mX9_count [.int x] (.int v) w1 → Q (some (.int v)) w1) : Zm (d + 21) mX8_count 0 0 [.ref 0, .int x] w Q := by
  obtain ⟨C, I0, I1, len, bt, fa, fb, m, bd, no, fu, A, I, hs, hm, hr⟩ := h
  obtain ⟨c0, c1, c2, c3, c4, c5⟩ := hr.cts
  obtain ⟨b0, b1, b2, b3, b4, b5⟩ := hr.bnd
  refine l_count hs (fun q w1 h1 o1 => ?_) (fun j hj => hr.howS hj) (fun j hj ex => ?_)
  · have hm1 := hm.off o1 (Or.inr (by decide))
    exact hK _ _ ⟨⟨_, hm1.1⟩, fun Q' k => m_count hm1 hr.1 c0 b0 (fun _ w2 h2 o2 => k w2 (LI.mk (h1.off o2 (by decide)) h2 hr.bad)) (fun j hj e => absurd e (q j hj))⟩
  · refine hK _ _ ⟨⟨_, hm.1⟩, fun Q' k => m_count hm hr.1 c0 b0 (fun z => ?_) (fun i hi e => ?_)⟩
    · exfalso
      exact z (by rw [ex]; exact ⟨nI_pos' (by omega), nI_le (b := 7) (by omega) (by decide)⟩)
    · have e1 : i = j := (nI_eq (by omega) (by omega)).mp (e.symm.trans ex)
      subst e1
      rw [hr.how hi]
      exact k w (LI.mk hs hm hr)
theorem p_digest (h : LI w) (hK : ∀ v w1, MR (d + 21) mX9_digest [] (.long v) w1 → Q (some (.long v)) w1) : Zm (d + 21) mX8_digest 0 0 [.ref 0] w Q := by
  obtain ⟨C, I0, I1, len, bt, fa, fb, m, bd, no, fu, A, I, hs, hm, hr⟩ := h
  obtain ⟨c0, c1, c2, c3, c4, c5⟩ := hr.cts
  obtain ⟨b0, b1, b2, b3, b4, b5⟩ := hr.bnd
  refine l_digest hs (hK _ _ ⟨⟨_, hm.1⟩, fun Q' k => m_digest hm hr.1 c0 b0 c1 b1 c2 b2 c3 b3 c4 b4 ?_⟩)
  rw [hr.dig]
  exact k w (LI.mk hs hm hr)
end ZPAIR4
