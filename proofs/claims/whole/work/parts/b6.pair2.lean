/-! ===== the calls on both sides: put, off, undo, on, grasp, eye, type, clear, fits ===== -/
theorem lstF_none {p : Nat → Bool} : ∀ (k i : Nat) (f : Int32), (∀ j, i ≤ j → j < i + k → p j = false) → lstF p i k f = f := by
  intro k
  induction k with
  | zero => intro i f _; rfl
  | succ k ih =>
    intro i f h
    unfold lstF
    rw [if_neg (by rw [h i (by omega) (by omega)]; decide)]
    exact ih _ _ (fun j h1 h2 => h j (by omega) (by omega))
theorem lstF_one {p : Nat → Bool} {j : Nat} : ∀ (k i : Nat) (f : Int32), i ≤ j → j < i + k → p j = true → (∀ s, i ≤ s → s < i + k → p s = true → s = j) → lstF p i k f = nI j := by
  intro k
  induction k with
  | zero => intro i f h1 h2; omega
  | succ k ih =>
    intro i f h1 h2 hp hu
    unfold lstF
    by_cases e : i = j
    · subst e
      rw [if_pos hp]
      refine lstF_none _ _ _ (fun s h3 h4 => ?_)
      cases hs : p s with
      | false => rfl
      | true => have := hu s (by omega) (by omega) hs; omega
    · exact ih _ _ (by omega) (by omega) hp (fun s h3 h4 => hu s (by omega) (by omega))
theorem lst_fnd {p q : Nat → Bool} {n : Nat} (e : ∀ r, r < n → p r = q r) (hu : ∀ r s, r < n → s < n → q r = true → q s = true → r = s) : lstF p 0 n (-1) = fnd q 0 n := by
  rcases fnd_cases q n 0 with ⟨e1, h1⟩ | ⟨j, _, hj, hp, e1, _⟩
  · rw [e1]
    exact lstF_none _ _ _ (fun s h3 h4 => by rw [e s (by omega)]; exact h1 s h3 h4)
  · rw [e1]
    exact lstF_one _ _ _ (by omega) hj (by rw [e j (by omega)]; exact hp) (fun s h3 h4 hs => hu s j (by omega) (by omega) (by rw [← e s (by omega)]; exact hs) hp)
section ZPAIR2
variable {d : Nat} {w w1 w2 : ZW} {C C' I0 I1 : Cup} {len : Nat} {bt : Nat → Int32} {fa fb : Int64} {m : Nat} {bd no fu : Int32} {A A' : Nat → Nat → Int32} {I : Nat → Int32} {Q : Option Value → ZW → Prop}
theorem LR.cur (h : LR C I0 I1 len bt m bd no fu A I) : onOk (C 0).1 (C 1).1 (fun r => (C 0).2 (r * 5 + 4)) := by
  refine (h.2.2.1.2.2.2.2.1 (C 5).1 (Nat.le_refl _)).go (fun r hr => ?_)
  rw [onS_cur]
  exact (h.box hr (by decide)).symm
theorem LR.und (h : LR C I0 I1 len bt m bd no fu A I) {i : Nat} (hi : i < (C 1).1) : lstF (fun r => decide (mB A 0 r 4 = nI i)) 0 (C 0).1 (-1) = onBox C (nI i) := by
  have hb := h.bnd
  unfold onBox
  refine lst_fnd (fun r hr => by rw [h.box hr (by decide)]) (fun r s hr hs h1 h2 => ?_)
  have h1 := of_decide_eq_true h1
  have h2 := of_decide_eq_true h2
  exact h.cur.2 r s hr hs (h1.trans h2.symm) (by show ¬ (C 0).2 (r * 5 + 4) = -1; rw [h1]; exact nI_m1 i (by omega))
theorem onBox_none {l : Nat} (h : onBox C (nI l) = -1) (h7 : (C 0).1 ≤ 7) : ∀ r, r < (C 0).1 → ¬ (C 0).2 (r * 5 + 4) = nI l := by
  intro r hr
  rcases fnd_cases (fun b => decide ((C 0).2 (b * 5 + 4) = nI l)) (C 0).1 0 with ⟨_, h1⟩ | ⟨j, _, hj, hp, e1, _⟩
  · exact of_decide_eq_false (h1 r (by omega) (by omega))
  · unfold onBox at h
    rw [h] at e1
    exact absurd e1.symm (nI_m1 j (by omega))
theorem p_put {x y : Int32} (h : LI w) (hK : ∀ v w1, MR (d + 21) mX9_put [.int x, .int y] (.int v) w1 → Q (some (.int v)) w1) : Zm (d + 21) mX8_put 0 0 [.ref 0, .int x, .int y] w Q := by
  obtain ⟨C, I0, I1, len, bt, fa, fb, m, bd, no, fu, A, I, hs, hm, hr⟩ := h
  obtain ⟨c0, c1, c2, c3, c4, c5⟩ := hr.cts
  obtain ⟨b0, b1, b2, b3, b4, b5⟩ := hr.bnd
  have inj7 : ∀ i j, i < 7 → j < 7 → nI i = nI j → i = j := fun i j hi hj e => (nI_eq (by omega) (by omega)).mp e
  refine l_put hs hr.kL (fun q w1 h1 o1 => ?_) (fun l b hl hb ex ey q w1 h1 o1 => ?_) (fun l b hl hb ex ey q1 q2 q3 w1 q' hq' h1 o1 => ?_)
  · have hm1 := hm.off o1 (Or.inr (by decide))
    refine hK _ _ ⟨⟨_, hm1.1⟩, fun Q' k => m_put hm1 hr.1 c0 b0 c1 b1 c5 b5 hr.mk (fun _ w2 h2 o2 => k w2 (LI.mk (h1.off o2 (by decide)) h2 hr.bad)) (fun i r hi hr' ei er _ => ?_) (fun i r hi hr' ei er _ _ _ => ?_)⟩
    · rcases q with q | q
      · exact absurd ei (q i hi)
      · exact absurd er (q r hr')
    · rcases q with q | q
      · exact absurd ei (q i hi)
      · exact absurd er (q r hr')
  · have hm1 := hm.off o1 (Or.inr (by decide))
    refine hK _ _ ⟨⟨_, hm1.1⟩, fun Q' k => m_put hm1 hr.1 c0 b0 c1 b1 c5 b5 hr.mk (fun q' => ?_) (fun i r hi hr' ei er _ w2 h2 o2 => k w2 (LI.mk (h1.off o2 (by decide)) h2 hr.not)) (fun i r hi hr' ei er z1 z2 z3 => ?_)⟩
    · rcases q' with q' | q'
      · exact absurd ex (q' l hl)
      · exact absurd ey (q' b hb)
    · have e1 := inj7 i l (by omega) (by omega) (ei.symm.trans ex)
      have e2 := inj7 r b (by omega) (by omega) (er.symm.trans ey)
      subst e1
      subst e2
      exact absurd ⟨(hr.fit hi hr').symm.trans z1, (hr.und hi).symm.trans z2, (hr.box hr' (by decide)).symm.trans z3⟩ q
  · have hm1 := hm.off o1 (Or.inr (by decide))
    refine hK _ _ ⟨⟨_, hm1.1⟩, fun Q' k => m_put hm1 hr.1 c0 b0 c1 b1 c5 b5 hr.mk (fun q' => ?_) (fun i r hi hr' ei er z => ?_) (fun i r hi hr' ei er z1 z2 z3 w2 h2 o2 => ?_)⟩
    · rcases q' with q' | q'
      · exact absurd ex (q' l hl)
      · exact absurd ey (q' b hb)
    · have e1 := inj7 i l (by omega) (by omega) (ei.symm.trans ex)
      have e2 := inj7 r b (by omega) (by omega) (er.symm.trans ey)
      subst e1
      subst e2
      exact absurd ⟨(hr.fit hi hr').trans q1, (hr.und hi).trans q2, (hr.box hr' (by decide)).trans q3⟩ z
    · have e1 := inj7 i l (by omega) (by omega) (ei.symm.trans ex)
      have e2 := inj7 r b (by omega) (by omega) (er.symm.trans ey)
      subst e1
      subst e2
      refine k w2 (LI.mk (h1.off o2 (by decide)) h2 (hr.now ?_ (fun j hj => ?_) (fun k hk => ?_)))
      · rw [vw_mp]
        have cu : ∀ s, s < (C 0).1 → onS (vw A 0) (C 5).1 (C 5).1 s = (C 0).2 (s * 5 + 4) := fun s hs => onS_cur.trans (hr.box hs (by decide))
        refine rx_on (k := r) (v := nI i) hr.2.2.1 hr' (knA_view b5 b0) hq' ⟨i, r, hi, hr', rfl, rfl, Or.inl ⟨rfl, (cu r hr').trans q3, fun _ _ => rfl⟩⟩ ⟨fun s hs => ?_, fun s t hs ht he hne => ?_⟩
        · by_cases e : s = r
          · exact Or.inr ⟨i, hi, if_pos e⟩
          · show (if s = r then nI i else onS (vw A 0) (C 5).1 (C 5).1 s) = -1 ∨ ∃ j, j < (C 1).1 ∧ (if s = r then nI i else onS (vw A 0) (C 5).1 (C 5).1 s) = nI j
            rw [if_neg e, cu s hs]
            exact hr.cur.1 s hs
        · have he : (if s = r then nI i else onS (vw A 0) (C 5).1 (C 5).1 s) = (if t = r then nI i else onS (vw A 0) (C 5).1 (C 5).1 t) := he
          have hne : ¬ (if s = r then nI i else onS (vw A 0) (C 5).1 (C 5).1 s) = -1 := hne
          have no := onBox_none q2 b0
          by_cases e : s = r
          · by_cases e' : t = r
            · rw [e, e']
            · rw [if_pos e, if_neg e', cu t ht] at he
              exact absurd he.symm (no t ht)
          · by_cases e' : t = r
            · rw [if_neg e, if_pos e', cu s hs] at he
              exact absurd he (no s hs)
            · rw [if_neg e, if_neg e', cu s hs, cu t ht] at he
              rw [if_neg e, cu s hs] at hne
              exact hr.cur.2 s t hs ht he hne
      · rw [mp_hi (by omega) hj, show j = 0 + j from (Nat.zero_add j).symm]
        unfold knA kn3
        rw [mp_ne (by omega), kn2_hi _ _ _ (by omega), if_neg (by split <;> omega)]
        unfold kn1
        split
        · rw [mp_ne (by omega), shA_hi, if_neg (by omega)]
        · rfl
      · rw [mp_row hk, knA_row hk]
end ZPAIR2
