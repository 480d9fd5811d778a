/-! ===== the calls on both sides: off, undo, on, grasp, eye, type, clear, fits ===== -/
section ZPAIR3
variable {d : Nat} {w w1 w2 : ZW} {C C' I0 I1 : Cup} {len : Nat} {bt : Nat → Int32} {fa fb : Int64} {m : Nat} {bd no fu : Int32} {A A' : Nat → Nat → Int32} {I : Nat → Int32} {Q : Option Value → ZW → Prop}
theorem knA_hi {u n j : Nat} (hn : n ≤ 7) (hu : u ≤ 12) (hj : 217 ≤ j) : knA A 0 u n 0 j = A 0 j := by
  rw [show j = 0 + j from (Nat.zero_add j).symm]
  unfold knA kn3
  rw [mp_ne (by omega), kn2_hi _ _ _ (by omega), if_neg (by split <;> omega)]
  unfold kn1
  split
  · rw [mp_ne (by omega), shA_hi, if_neg (by omega)]
  · rfl
theorem p_off {x : Int32} (h : LI w) (hK : ∀ v w1, MR (d + 21) mX9_off [.int x] (.int v) w1 → Q (some (.int v)) w1) : Zm (d + 21) mX8_off 0 0 [.ref 0, .int x] w Q := by
  obtain ⟨C, I0, I1, len, bt, fa, fb, m, bd, no, fu, A, I, hs, hm, hr⟩ := h
  obtain ⟨c0, c1, c2, c3, c4, c5⟩ := hr.cts
  obtain ⟨b0, b1, b2, b3, b4, b5⟩ := hr.bnd
  have inj7 : ∀ i j, i < 7 → j < 7 → nI i = nI j → i = j := fun i j hi hj e => (nI_eq (by omega) (by omega)).mp e
  refine l_off hs (fun q w1 h1 o1 => ?_) (fun l hl ex q w1 h1 o1 => ?_) (fun l b hl hb ex q2 q3 w1 q' hq' h1 o1 => ?_)
  · have hm1 := hm.off o1 (Or.inr (by decide))
    exact hK _ _ ⟨⟨_, hm1.1⟩, fun Q' k => m_off hm1 hr.1 c0 b0 c1 b1 c5 b5 (fun _ w2 h2 o2 => k w2 (LI.mk (h1.off o2 (by decide)) h2 hr.bad)) (fun i hi ei => absurd ei (q i hi)) (fun i r hi hr' ei => absurd ei (q i hi))⟩
  · have hm1 := hm.off o1 (Or.inr (by decide))
    refine hK _ _ ⟨⟨_, hm1.1⟩, fun Q' k => m_off hm1 hr.1 c0 b0 c1 b1 c5 b5 (fun q' => absurd ex (q' l hl)) (fun i hi ei _ w2 h2 o2 => k w2 (LI.mk (h1.off o2 (by decide)) h2 hr.not)) (fun i r hi hr' ei z => ?_)⟩
    have e1 := inj7 i l (by omega) (by omega) (ei.symm.trans ex)
    subst e1
    rw [hr.und hi, q] at z
    exact absurd z.symm (nI_m1 r (by omega))
  · have hm1 := hm.off o1 (Or.inr (by decide))
    refine hK _ _ ⟨⟨_, hm1.1⟩, fun Q' k => m_off hm1 hr.1 c0 b0 c1 b1 c5 b5 (fun q' => absurd ex (q' l hl)) (fun i hi ei z => ?_) (fun i r hi hr' ei z w2 h2 o2 => ?_)⟩
    · have e1 := inj7 i l (by omega) (by omega) (ei.symm.trans ex)
      subst e1
      rw [hr.und hi, q2] at z
      exact absurd z (nI_m1 b (by omega))
    · have e1 := inj7 i l (by omega) (by omega) (ei.symm.trans ex)
      subst e1
      rw [hr.und hi, q2] at z
      have e2 := inj7 r b (by omega) (by omega) z.symm
      subst e2
      refine k w2 (LI.mk (h1.off o2 (by decide)) h2 (hr.now ?_ (fun j hj => ?_) (fun k hk => ?_)))
      · rw [vw_mp]
        have cu : ∀ s, s < (C 0).1 → onS (vw A 0) (C 5).1 (C 5).1 s = (C 0).2 (s * 5 + 4) := fun s hs => onS_cur.trans (hr.box hs (by decide))
        refine rx_on (k := r) (v := -1) hr.2.2.1 hr' (knA_view b5 b0) hq' ⟨i, r, hi, hr', rfl, rfl, Or.inr ⟨rfl, (cu r hr').trans q3, fun _ _ => rfl⟩⟩ ⟨fun s hs => ?_, fun s t hs ht he hne => ?_⟩
        · by_cases e : s = r
          · exact Or.inl (if_pos e)
          · show (if s = r then -1 else onS (vw A 0) (C 5).1 (C 5).1 s) = -1 ∨ ∃ j, j < (C 1).1 ∧ (if s = r then -1 else onS (vw A 0) (C 5).1 (C 5).1 s) = nI j
            rw [if_neg e, cu s hs]
            exact hr.cur.1 s hs
        · have he : (if s = r then -1 else onS (vw A 0) (C 5).1 (C 5).1 s) = (if t = r then -1 else onS (vw A 0) (C 5).1 (C 5).1 t) := he
          have hne : ¬ (if s = r then -1 else onS (vw A 0) (C 5).1 (C 5).1 s) = -1 := hne
          by_cases e : s = r
          · rw [if_pos e] at hne
            exact absurd rfl hne
          · by_cases e' : t = r
            · rw [if_pos e'] at he
              exact absurd he hne
            · rw [if_neg e, if_neg e', cu s hs, cu t ht] at he
              rw [if_neg e, cu s hs] at hne
              exact hr.cur.2 s t hs ht he hne
      · rw [mp_hi (by omega) hj, knA_hi b0 b5 hj]
      · rw [mp_row hk, knA_row hk]
theorem p_undo (h : LI w) (hK : ∀ v w1, MR (d + 21) mX9_undo [] (.int v) w1 → Q (some (.int v)) w1) : Zm (d + 21) mX8_undo 0 0 [.ref 0] w Q := by
  obtain ⟨C, I0, I1, len, bt, fa, fb, m, bd, no, fu, A, I, hs, hm, hr⟩ := h
  obtain ⟨c0, c1, c2, c3, c4, c5⟩ := hr.cts
  obtain ⟨b0, b1, b2, b3, b4, b5⟩ := hr.bnd
  refine l_undo hs (fun u hu => ?_) (fun q w1 h1 o1 => ?_) (fun n b hn hb hd w1 h1 o1 => ?_)
  · obtain ⟨i, k, hi, hk, _, e, _⟩ := hr.2.2.1.2.2.2.2.2 u hu
    exact ⟨k, hk, e⟩
  · have hm1 := hm.off o1 (Or.inr (by decide))
    exact hK _ _ ⟨⟨_, hm1.1⟩, fun Q' k => m_undo hm1 hr.1 c0 b0 c5 b5 (fun _ w2 h2 o2 => k w2 (LI.mk (h1.off o2 (by decide)) h2 hr.not)) (fun q' => absurd q' (by omega))⟩
  · have hm1 := hm.off o1 (Or.inr (by decide))
    refine hK _ _ ⟨⟨_, hm1.1⟩, fun Q' k => m_undo hm1 hr.1 c0 b0 c5 b5 (fun q' => absurd q' (by omega)) (fun _ w2 h2 o2 => k w2 (LI.mk (h1.off o2 (by decide)) h2 (hr.now ?_ (fun j hj => ?_) (fun k hk => ?_))))⟩
    · rw [hn, Nat.add_sub_cancel]
      exact rx_undo hr.2.2.1 hn hb hd (unA_view b0)
    · rw [show j = 0 + j from (Nat.zero_add j).symm, unA_ne _ _ _ (fun r _ _ => by omega), mp_ne (by omega)]
    · rw [unA_row hk, mp_row hk]
theorem p_on {x : Int32} (h : LI w) (hK : ∀ v w1, MR (d + 21) mX9_on [.int x] (.int v) w1 → Q (some (.int v)) w1) : Zm (d + 21) mX8_on 0 0 [.ref 0, .int x] w Q := by
  obtain ⟨C, I0, I1, len, bt, fa, fb, m, bd, no, fu, A, I, hs, hm, hr⟩ := h
  obtain ⟨c0, c1, c2, c3, c4, c5⟩ := hr.cts
  obtain ⟨b0, b1, b2, b3, b4, b5⟩ := hr.bnd
  refine l_on hs (fun q w1 h1 o1 => ?_) (fun r hr' ex => ?_)
  · have hm1 := hm.off o1 (Or.inr (by decide))
    exact hK _ _ ⟨⟨_, hm1.1⟩, fun Q' k => m_on hm1 hr.1 c0 b0 (fun _ w2 h2 o2 => k w2 (LI.mk (h1.off o2 (by decide)) h2 hr.bad)) (fun r hr' e => absurd e (q r hr'))⟩
  · refine hK _ _ ⟨⟨_, hm.1⟩, fun Q' k => m_on hm hr.1 c0 b0 (fun q' => absurd ex (q' r hr')) (fun s hs' e => ?_)⟩
    have e1 : s = r := (nI_eq (by omega) (by omega)).mp (e.symm.trans ex)
    subst e1
    rw [hr.box hs' (by decide)]
    exact k w (LI.mk hs hm hr)
theorem p_grasp {x y : Int32} (h : LI w) (hK : ∀ v w1, MR (d + 21) mX9_grasp [.int x, .int y] (.int v) w1 → Q (some (.int v)) w1) : Zm (d + 21) mX8_grasp 0 0 [.ref 0, .int x, .int y] w Q := by
  obtain ⟨C, I0, I1, len, bt, fa, fb, m, bd, no, fu, A, I, hs, hm, hr⟩ := h
  obtain ⟨c0, c1, c2, c3, c4, c5⟩ := hr.cts
  obtain ⟨b0, b1, b2, b3, b4, b5⟩ := hr.bnd
  refine l_grasp hs (fun r hr' => (hr.2.2.1.2.2.2.1.1 r hr').2.1) (fun q w1 h1 o1 => ?_) (fun r hr' ex y0 y9 w1 h1 o1 => ?_)
  · have hm1 := hm.off o1 (Or.inr (by decide))
    refine hK _ _ ⟨⟨_, hm1.1⟩, fun Q' k => m_grasp hm1 hr.1 c0 b0 hr.nn (fun _ w2 h2 o2 => k w2 (LI.mk (h1.off o2 (by decide)) h2 hr.bad)) (fun r hr' e z1 z2 => ?_)⟩
    rcases q with q | q
    · exact absurd e (q r hr')
    · exact absurd ⟨z1, z2⟩ q
  · have hm1 := hm.off o1 (Or.inr (by decide))
    refine hK _ _ ⟨⟨_, hm1.1⟩, fun Q' k => m_grasp hm1 hr.1 c0 b0 hr.nn (fun q' => ?_) (fun s hs' e _ _ w2 h2 o2 => ?_)⟩
    · rcases q' with q' | q'
      · exact absurd ex (q' r hr')
      · exact absurd ⟨y0, y9⟩ q'
    · have e1 : s = r := (nI_eq (by omega) (by omega)).mp (e.symm.trans ex)
      subst e1
      rw [hr.box hs' (by decide)]
      refine k w2 (LI.mk (h1.off o2 (by decide)) h2 (hr.now ?_ (fun j hj => ?_) (fun k hk => ?_)))
      · rw [vw_mp]
        exact rx_grasp hr.2.2.1 hs' y0 y9
      · rw [mp_hi (by omega) hj]
      · rw [mp_row hk]
theorem p_eye {x y : Int32} (h : LI w) (hK : ∀ v w1, MR (d + 21) mX9_eye [.int x, .int y] (.int v) w1 → Q (some (.int v)) w1) : Zm (d + 21) mX8_eye 0 0 [.ref 0, .int x, .int y] w Q := by
  obtain ⟨C, I0, I1, len, bt, fa, fb, m, bd, no, fu, A, I, hs, hm, hr⟩ := h
  obtain ⟨c0, c1, c2, c3, c4, c5⟩ := hr.cts
  obtain ⟨b0, b1, b2, b3, b4, b5⟩ := hr.bnd
  refine l_eye hs (fun r hr' => (hr.2.2.1.2.2.2.1.2.1 r hr').2.1) (fun q w1 h1 o1 => ?_) (fun r hr' ex y0 y9 w1 h1 o1 => ?_)
  · have hm1 := hm.off o1 (Or.inr (by decide))
    refine hK _ _ ⟨⟨_, hm1.1⟩, fun Q' k => m_eye hm1 hr.1 c1 b1 (fun _ w2 h2 o2 => k w2 (LI.mk (h1.off o2 (by decide)) h2 hr.bad)) (fun r hr' e z1 z2 => ?_)⟩
    rcases q with q | q
    · exact absurd e (q r hr')
    · exact absurd ⟨z1, z2⟩ q
  · have hm1 := hm.off o1 (Or.inr (by decide))
    refine hK _ _ ⟨⟨_, hm1.1⟩, fun Q' k => m_eye hm1 hr.1 c1 b1 (fun q' => ?_) (fun s hs' e _ _ w2 h2 o2 => ?_)⟩
    · rcases q' with q' | q'
      · exact absurd ex (q' r hr')
      · exact absurd ⟨y0, y9⟩ q'
    · have e1 : s = r := (nI_eq (by omega) (by omega)).mp (e.symm.trans ex)
      subst e1
      rw [hr.lid hs' (by decide)]
      refine k w2 (LI.mk (h1.off o2 (by decide)) h2 (hr.now ?_ (fun j hj => ?_) (fun k hk => ?_)))
      · rw [vw_mp]
        exact rx_eye hr.2.2.1 hs' y0 y9
      · rw [mp_hi (by omega) hj]
      · rw [mp_row hk]
theorem p_type {x : Int32} (h : LI w) (hK : ∀ v w1, MR (d + 21) mX9_type [.int x] (.int v) w1 → Q (some (.int v)) w1) : Zm (d + 21) mX8_type 0 0 [.ref 0, .int x] w Q := by
  obtain ⟨C, I0, I1, len, bt, fa, fb, m, bd, no, fu, A, I, hs, hm, hr⟩ := h
  obtain ⟨t1, t2, t3⟩ := hr.2.2.2.2.2.2.2
  refine l_type hs (fun q w1 h1 o1 => ?_) (fun q q1 q2 w1 h1 o1 => ?_) (fun q q1 q2 w1 h1 o1 => ?_)
  · have hm1 := hm.off o1 (Or.inr (by decide))
    exact hK _ _ ⟨⟨_, hm1.1⟩, fun Q' k => m_type hm1 hr.1 t1 t2 (fun _ w2 h2 o2 => k w2 (LI.mk (h1.off o2 (by decide)) h2 hr.bad)) (fun z1 z2 _ => absurd ⟨z1, z2⟩ q) (fun z1 z2 _ => absurd ⟨z1, z2⟩ q)⟩
  · have hm1 := hm.off o1 (Or.inr (by decide))
    exact hK _ _ ⟨⟨_, hm1.1⟩, fun Q' k => m_type hm1 hr.1 t1 t2 (fun z => absurd ⟨q, q1⟩ z) (fun _ _ _ w2 h2 o2 => k w2 (LI.mk (h1.off o2 (by decide)) h2 hr.full)) (fun _ _ z => absurd z (by omega))⟩
  · have hm1 := hm.off o1 (Or.inr (by decide))
    refine hK _ _ ⟨⟨_, hm1.1⟩, fun Q' k => m_type hm1 hr.1 t1 t2 (fun z => absurd ⟨q, q1⟩ z) (fun _ _ z => absurd z (by omega)) (fun _ _ _ w2 I' e1 e2 h2 o2 => ?_)⟩
    refine k w2 (LI.mk (h1.off o2 (by decide)) h2 ?_)
    obtain ⟨h0, hm4, h2', h3, h4, h5, h6, _⟩ := hr
    refine ⟨by rw [e2 0 (by decide)]; exact h0, hm4, h2', h3, h4, h5, h6, e1, q2, fun i hi => ?_⟩
    show upd (A 3) len x i = upd bt len x i ∧ _
    by_cases e : i = len
    · subst e
      rw [pk_us, pk_us]
      obtain ⟨j, hj, ej⟩ := nI_of2 (M := 127) (n := 127) (by decide) (Int32.not_lt.mpr q) q1
      exact ⟨rfl, j, by omega, ej⟩
    · rw [pk_un e, pk_un e]
      exact t3 i (by omega)
theorem p_clear (h : LI w) (hK : ∀ v w1, MR (d + 21) mX9_clear [] (.int v) w1 → Q (some (.int v)) w1) : Zm (d + 21) mX8_clear 0 0 [.ref 0] w Q := by
  obtain ⟨C, I0, I1, len, bt, fa, fb, m, bd, no, fu, A, I, hs, hm, hr⟩ := h
  refine l_clear hs (fun w1 h1 o1 => ?_)
  have hm1 := hm.off o1 (Or.inr (by decide))
  refine hK _ _ ⟨⟨_, hm1.1⟩, fun Q' k => m_clear hm1 (fun w2 I' e1 e2 h2 o2 => ?_)⟩
  rw [hr.2.2.2.2.2.2.2.1]
  refine k w2 (LI.mk (h1.off o2 (by decide)) h2 ?_)
  obtain ⟨h0, hm4, h2', h3, h4, h5, h6, _⟩ := hr
  exact ⟨by rw [e2 0 (by decide)]; exact h0, hm4, h2', h3, h4, h5, h6, e1, by decide, fun i hi => absurd hi (Nat.not_lt_zero _)⟩
theorem p_fits {x : Int32} (h : LI w) (hK : ∀ v w1, MR (d + 21) mX9_fits [.int x] (.int v) w1 → Q (some (.int v)) w1) : Zm (d + 21) mX8_fits 0 0 [.ref 0, .int x] w Q := by
  obtain ⟨C, I0, I1, len, bt, fa, fb, m, bd, no, fu, A, I, hs, hm, hr⟩ := h
  obtain ⟨c0, c1, c2, c3, c4, c5⟩ := hr.cts
  obtain ⟨b0, b1, b2, b3, b4, b5⟩ := hr.bnd
  refine l_fits hs hr.kL (fun q w1 h1 o1 => ?_) (fun r hr' ex => ?_)
  · have hm1 := hm.off o1 (Or.inr (by decide))
    exact hK _ _ ⟨⟨_, hm1.1⟩, fun Q' k => m_fits hm1 hr.1 c0 b0 c1 b1 hr.mk (fun _ w2 h2 o2 => k w2 (LI.mk (h1.off o2 (by decide)) h2 hr.bad)) (fun r hr' e => absurd e (q r hr'))⟩
  · refine hK _ _ ⟨⟨_, hm.1⟩, fun Q' k => m_fits hm hr.1 c0 b0 c1 b1 hr.mk (fun q' => absurd ex (q' r hr')) (fun s hs' e w2 f h2 o2 => ?_)⟩
    have e1 : s = r := (nI_eq (by omega) (by omega)).mp (e.symm.trans ex)
    subst e1
    rw [hr.mask hs']
    exact k w2 (LI.mk (hs.off o2 (by decide)) h2 (hr.same (mS.up (by decide))))
end ZPAIR3
