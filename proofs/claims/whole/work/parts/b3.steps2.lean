/-! ===== more deeds that keep the two states side by side ===== -/
section ZSTEP2
variable {q0 q1 q2 q3 q4 q5 : QT} {f : Nat → Int32} {x y z : Int32}
theorem rx_grasp {b : Nat} (h : relX q0 q1 q2 q3 q4 q5 f) (hb : b < q0.1) (hy0 : 0 ≤ y) (hy9 : y ≤ 9) : relX (q0.1, upd q0.2 (b * 5 + 3) y) q1 q2 q3 q4 q5 (upd f (6 + 5 * b + 3) y) := by
  obtain ⟨⟨b0, b1, b2, b3, b4, b5⟩, ⟨c0, c1, c2, c3, c4, c5⟩, ⟨t0, t1, t2, t3, t4⟩, ⟨w0, w1, w2, w4⟩, hu⟩ := h
  refine ⟨⟨b0, b1, b2, b3, b4, b5⟩, ⟨?_, ?_, ?_, ?_, ?_, ?_⟩, ⟨?_, ?_, ?_, ?_, ?_⟩, ⟨?_, w1, w2, w4⟩, ?_⟩
  · rw [pk_un (by omega)]; exact c0
  · rw [pk_un (by omega)]; exact c1
  · rw [pk_un (by omega)]; exact c2
  · rw [pk_un (by omega)]; exact c3
  · rw [pk_un (by omega)]; exact c4
  · rw [pk_un (by omega)]; exact c5
  · intro r hr c hc
    have hr : r < q0.1 := hr
    show upd q0.2 (b * 5 + 3) y (r * 5 + c) = upd f (6 + 5 * b + 3) y (6 + 5 * r + c)
    by_cases e : r = b ∧ c = 3
    · obtain ⟨rfl, rfl⟩ := e
      rw [pk_us, pk_us]
    · rw [pk_un (by omega), pk_un (by omega)]
      exact t0 r hr c hc
  · refine t1.go (fun r hr c hc => ?_); rw [pk_un (by omega)]
  · refine t2.go (fun r hr c hc => ?_); rw [pk_un (by omega)]
  · refine t3.go (fun r hr c hc => ?_); rw [pk_un (by omega)]
  · refine t4.go (fun r hr c hc => ?_); rw [pk_un (by omega)]
  · intro r hr
    have hr : r < q0.1 := hr
    show okBox (upd q0.2 (b * 5 + 3) y (r * 5)) (upd q0.2 (b * 5 + 3) y (r * 5 + 1)) (upd q0.2 (b * 5 + 3) y (r * 5 + 2)) ∧ 0 ≤ upd q0.2 (b * 5 + 3) y (r * 5 + 3) ∧ upd q0.2 (b * 5 + 3) y (r * 5 + 3) ≤ 9
    rw [pk_un (j := r * 5) (by omega), pk_un (j := r * 5 + 1) (by omega), pk_un (j := r * 5 + 2) (by omega)]
    by_cases e : r = b
    · subst e
      rw [pk_us]
      exact ⟨(w0 r hr).1, hy0, hy9⟩
    · rw [pk_un (by omega)]
      exact w0 r hr
  · refine hu.go (fun _ _ => rfl) (fun j hj r hr => ?_)
    unfold onS
    split
    · rw [pk_un (by omega)]
    · rw [pk_un (by omega)]
theorem rx_eye {b : Nat} (h : relX q0 q1 q2 q3 q4 q5 f) (hb : b < q1.1) (hy0 : 0 ≤ y) (hy9 : y ≤ 10) : relX q0 (q1.1, upd q1.2 (b * 4 + 3) y) q2 q3 q4 q5 (upd f (41 + 4 * b + 3) y) := by
  obtain ⟨⟨b0, b1, b2, b3, b4, b5⟩, ⟨c0, c1, c2, c3, c4, c5⟩, ⟨t0, t1, t2, t3, t4⟩, ⟨w0, w1, w2, w4⟩, hu⟩ := h
  refine ⟨⟨b0, b1, b2, b3, b4, b5⟩, ⟨?_, ?_, ?_, ?_, ?_, ?_⟩, ⟨?_, ?_, ?_, ?_, ?_⟩, ⟨w0, ?_, w2, w4⟩, ?_⟩
  · rw [pk_un (by omega)]; exact c0
  · rw [pk_un (by omega)]; exact c1
  · rw [pk_un (by omega)]; exact c2
  · rw [pk_un (by omega)]; exact c3
  · rw [pk_un (by omega)]; exact c4
  · rw [pk_un (by omega)]; exact c5
  · refine t0.go (fun r hr c hc => ?_); rw [pk_un (by omega)]
  · intro r hr c hc
    have hr : r < q1.1 := hr
    show upd q1.2 (b * 4 + 3) y (r * 4 + c) = upd f (41 + 4 * b + 3) y (41 + 4 * r + c)
    by_cases e : r = b ∧ c = 3
    · obtain ⟨rfl, rfl⟩ := e
      rw [pk_us, pk_us]
    · rw [pk_un (by omega), pk_un (by omega)]
      exact t1 r hr c hc
  · refine t2.go (fun r hr c hc => ?_); rw [pk_un (by omega)]
  · refine t3.go (fun r hr c hc => ?_); rw [pk_un (by omega)]
  · refine t4.go (fun r hr c hc => ?_); rw [pk_un (by omega)]
  · intro r hr
    have hr : r < q1.1 := hr
    show okLid (upd q1.2 (b * 4 + 3) y (r * 4)) (upd q1.2 (b * 4 + 3) y (r * 4 + 1)) (upd q1.2 (b * 4 + 3) y (r * 4 + 2)) ∧ 0 ≤ upd q1.2 (b * 4 + 3) y (r * 4 + 3) ∧ upd q1.2 (b * 4 + 3) y (r * 4 + 3) ≤ 10
    rw [pk_un (j := r * 4) (by omega), pk_un (j := r * 4 + 1) (by omega), pk_un (j := r * 4 + 2) (by omega)]
    by_cases e : r = b
    · subst e
      rw [pk_us]
      exact ⟨(w1 r hr).1, hy0, hy9⟩
    · rw [pk_un (by omega)]
      exact w1 r hr
  · refine hu.go (fun _ _ => rfl) (fun j hj r hr => ?_)
    unfold onS
    split
    · rw [pk_un (by omega)]
    · rw [pk_un (by omega)]
theorem rx_tale (h : relX q0 q1 q2 q3 q4 q5 f) (hn : q3.1 < 8) : relX q0 q1 q2 (q3.1 + 1, row3 q3.2 q3.1 x y z) q4 q5 (upd (upd (upd (upd f (85 + 3 * q3.1) x) (85 + 3 * q3.1 + 1) y) (85 + 3 * q3.1 + 2) z) 3 (nI (q3.1 + 1))) := by
  obtain ⟨⟨b0, b1, b2, b3, b4, b5⟩, ⟨c0, c1, c2, c3, c4, c5⟩, ⟨t0, t1, t2, t3, t4⟩, hw, hu⟩ := h
  refine ⟨⟨b0, b1, b2, hn, b4, b5⟩, ⟨?_, ?_, ?_, ?_, ?_, ?_⟩, ⟨?_, ?_, ?_, ?_, ?_⟩, hw, ?_⟩
  · unfold upd; repeat rw [if_neg (by omega)]
    exact c0
  · unfold upd; repeat rw [if_neg (by omega)]
    exact c1
  · unfold upd; repeat rw [if_neg (by omega)]
    exact c2
  · exact pk_us
  · unfold upd; repeat rw [if_neg (by omega)]
    exact c4
  · unfold upd; repeat rw [if_neg (by omega)]
    exact c5
  · refine t0.go (fun r hr c hc => ?_); unfold upd; repeat rw [if_neg (by omega)]
  · refine t1.go (fun r hr c hc => ?_); unfold upd; repeat rw [if_neg (by omega)]
  · refine t2.go (fun r hr c hc => ?_); unfold upd; repeat rw [if_neg (by omega)]
  · intro r hr c hc
    have hr : r < q3.1 + 1 := hr
    show row3 q3.2 q3.1 x y z (r * 3 + c) = _
    by_cases e : r = q3.1
    · subst e
      have : c = 0 ∨ c = 1 ∨ c = 2 := by omega
      unfold row3 upd
      rcases this with rfl | rfl | rfl
      all_goals (repeat first | rw [if_pos (by omega)] | rw [if_neg (by omega)])
    · unfold row3 upd
      repeat rw [if_neg (by omega)]
      exact t3 r (by omega) c hc
  · refine t4.go (fun r hr c hc => ?_); unfold upd; repeat rw [if_neg (by omega)]
  · refine hu.go (fun _ _ => rfl) (fun j hj r hr => ?_)
    unfold onS
    split
    · unfold upd; repeat rw [if_neg (by omega)]
    · unfold upd; repeat rw [if_neg (by omega)]
theorem rx_hint (h : relX q0 q1 q2 q3 q4 q5 f) (ok : okHint q0.1 x y z) (hn : q4.1 < 8) : relX q0 q1 q2 q3 (q4.1 + 1, row3 q4.2 q4.1 x y z) q5 (upd (upd (upd (upd f (109 + 3 * q4.1) x) (109 + 3 * q4.1 + 1) y) (109 + 3 * q4.1 + 2) z) 4 (nI (q4.1 + 1))) := by
  obtain ⟨⟨b0, b1, b2, b3, b4, b5⟩, ⟨c0, c1, c2, c3, c4, c5⟩, ⟨t0, t1, t2, t3, t4⟩, ⟨w0, w1, w2, w4⟩, hu⟩ := h
  refine ⟨⟨b0, b1, b2, b3, hn, b5⟩, ⟨?_, ?_, ?_, ?_, ?_, ?_⟩, ⟨?_, ?_, ?_, ?_, ?_⟩, ⟨w0, w1, w2, ?_⟩, ?_⟩
  · unfold upd; repeat rw [if_neg (by omega)]
    exact c0
  · unfold upd; repeat rw [if_neg (by omega)]
    exact c1
  · unfold upd; repeat rw [if_neg (by omega)]
    exact c2
  · unfold upd; repeat rw [if_neg (by omega)]
    exact c3
  · exact pk_us
  · unfold upd; repeat rw [if_neg (by omega)]
    exact c5
  · refine t0.go (fun r hr c hc => ?_); unfold upd; repeat rw [if_neg (by omega)]
  · refine t1.go (fun r hr c hc => ?_); unfold upd; repeat rw [if_neg (by omega)]
  · refine t2.go (fun r hr c hc => ?_); unfold upd; repeat rw [if_neg (by omega)]
  · refine t3.go (fun r hr c hc => ?_); unfold upd; repeat rw [if_neg (by omega)]
  · intro r hr c hc
    have hr : r < q4.1 + 1 := hr
    show row3 q4.2 q4.1 x y z (r * 3 + c) = _
    by_cases e : r = q4.1
    · subst e
      have : c = 0 ∨ c = 1 ∨ c = 2 := by omega
      unfold row3 upd
      rcases this with rfl | rfl | rfl
      all_goals (repeat first | rw [if_pos (by omega)] | rw [if_neg (by omega)])
    · unfold row3 upd
      repeat rw [if_neg (by omega)]
      exact t4 r (by omega) c hc
  · intro r hr
    have hr : r < q4.1 + 1 := hr
    show okHint q0.1 (row3 q4.2 q4.1 x y z (r * 3)) (row3 q4.2 q4.1 x y z (r * 3 + 1)) (row3 q4.2 q4.1 x y z (r * 3 + 2))
    by_cases e : r = q4.1
    · subst e
      have e0 : row3 q4.2 q4.1 x y z (q4.1 * 3) = x := by unfold row3 upd; (repeat first | rw [if_pos (by omega)] | rw [if_neg (by omega)])
      have e1 : row3 q4.2 q4.1 x y z (q4.1 * 3 + 1) = y := by unfold row3 upd; (repeat first | rw [if_pos (by omega)] | rw [if_neg (by omega)])
      have e2 : row3 q4.2 q4.1 x y z (q4.1 * 3 + 2) = z := by unfold row3 upd; (repeat first | rw [if_pos (by omega)] | rw [if_neg (by omega)])
      rw [e0, e1, e2]
      exact ok
    · have ee : ∀ k, k < 3 → row3 q4.2 q4.1 x y z (r * 3 + k) = q4.2 (r * 3 + k) := by
        intro k hk
        unfold row3 upd
        repeat rw [if_neg (by omega)]
      have e0 := ee 0 (by decide)
      rw [Nat.add_zero] at e0
      rw [e0, ee 1 (by decide), ee 2 (by decide)]
      exact w4 r (by omega)
  · refine hu.go (fun _ _ => rfl) (fun j hj r hr => ?_)
    unfold onS
    split
    · unfold upd; repeat rw [if_neg (by omega)]
    · unfold upd; repeat rw [if_neg (by omega)]
theorem rx_drop3 (h : relX q0 q1 q2 q3 q4 q5 f) : relX q0 q1 q2 (0, q3.2) q4 q5 (upd f 3 0) := by
  obtain ⟨⟨b0, b1, b2, b3, b4, b5⟩, ⟨c0, c1, c2, c3, c4, c5⟩, ⟨t0, t1, t2, t3, t4⟩, hw, hu⟩ := h
  refine ⟨⟨b0, b1, b2, Nat.zero_le _, b4, b5⟩, ⟨c0, c1, c2, pk_us, c4, c5⟩, ⟨?_, ?_, ?_, fun r hr => absurd hr (Nat.not_lt_zero _), ?_⟩, hw, ?_⟩
  · refine t0.go (fun r hr c hc => ?_); rw [pk_un (by omega)]
  · refine t1.go (fun r hr c hc => ?_); rw [pk_un (by omega)]
  · refine t2.go (fun r hr c hc => ?_); rw [pk_un (by omega)]
  · refine t4.go (fun r hr c hc => ?_); rw [pk_un (by omega)]
  · refine hu.go (fun _ _ => rfl) (fun j hj r hr => ?_)
    unfold onS
    split
    · rw [pk_un (by omega)]
    · rw [pk_un (by omega)]
theorem rx_drop4 (h : relX q0 q1 q2 q3 q4 q5 f) : relX q0 q1 q2 q3 (0, q4.2) q5 (upd f 4 0) := by
  obtain ⟨⟨b0, b1, b2, b3, b4, b5⟩, ⟨c0, c1, c2, c3, c4, c5⟩, ⟨t0, t1, t2, t3, t4⟩, ⟨w0, w1, w2, w4⟩, hu⟩ := h
  refine ⟨⟨b0, b1, b2, b3, Nat.zero_le _, b5⟩, ⟨c0, c1, c2, c3, pk_us, c5⟩, ⟨?_, ?_, ?_, ?_, fun r hr => absurd hr (Nat.not_lt_zero _)⟩, ⟨w0, w1, w2, fun r hr => absurd hr (Nat.not_lt_zero _)⟩, ?_⟩
  · refine t0.go (fun r hr c hc => ?_); rw [pk_un (by omega)]
  · refine t1.go (fun r hr c hc => ?_); rw [pk_un (by omega)]
  · refine t2.go (fun r hr c hc => ?_); rw [pk_un (by omega)]
  · refine t3.go (fun r hr c hc => ?_); rw [pk_un (by omega)]
  · refine hu.go (fun _ _ => rfl) (fun j hj r hr => ?_)
    unfold onS
    split
    · rw [pk_un (by omega)]
    · rw [pk_un (by omega)]
theorem rx_drop2 (h : relX q0 q1 q2 q3 q4 q5 f) : relX q0 q1 (0, q2.2) q3 q4 q5 (upd f 2 0) := by
  obtain ⟨⟨b0, b1, b2, b3, b4, b5⟩, ⟨c0, c1, c2, c3, c4, c5⟩, ⟨t0, t1, t2, t3, t4⟩, ⟨w0, w1, w2, w4⟩, hu⟩ := h
  refine ⟨⟨b0, b1, Nat.zero_le _, b3, b4, b5⟩, ⟨c0, c1, pk_us, c3, c4, c5⟩, ⟨?_, ?_, fun r hr => absurd hr (Nat.not_lt_zero _), ?_, ?_⟩, ⟨w0, w1, fun r hr => absurd hr (Nat.not_lt_zero _), w4⟩, ?_⟩
  · refine t0.go (fun r hr c hc => ?_); rw [pk_un (by omega)]
  · refine t1.go (fun r hr c hc => ?_); rw [pk_un (by omega)]
  · refine t3.go (fun r hr c hc => ?_); rw [pk_un (by omega)]
  · refine t4.go (fun r hr c hc => ?_); rw [pk_un (by omega)]
  · refine hu.go (fun _ _ => rfl) (fun j hj r hr => ?_)
    unfold onS
    split
    · rw [pk_un (by omega)]
    · rw [pk_un (by omega)]
/-- what the Model keeps ahead of a deed -/
def knR (n u : Nat) (f f1 : Nat → Int32) : Prop := (∀ j, j < 133 → ¬ j = 5 → f1 j = f j) ∧ f1 5 = nI ((if u = 12 then 11 else u) + 1) ∧ (∀ j, j < (if u = 12 then 11 else u) → ∀ r, r < n → f1 (133 + 7 * j + r) = f (133 + 7 * (j + if u = 12 then 1 else 0) + r)) ∧ ∀ r, r < n → f1 (133 + 7 * (if u = 12 then 11 else u) + r) = f (6 + 5 * r + 4)
theorem rx_on {k : Nat} {a e p v : Int32} {q' : QT} {f1 : Nat → Int32} (h : relX q0 q1 q2 q3 q4 q5 f) (hk : k < q0.1) (hkn : knR q0.1 q5.1 f f1) (hq : deeds q5 q') (hd : deed q0.1 q1.1 a e p (onS f q5.1 q5.1) (fun r => if r = k then v else onS f q5.1 q5.1 r)) (hok : onOk q0.1 q1.1 (fun r => if r = k then v else onS f q5.1 q5.1 r)) : relX (q0.1, upd q0.2 (k * 5 + 4) v) q1 q2 q3 q4 (q'.1 + 1, row3 q'.2 q'.1 a e p) (upd f1 (6 + 5 * k + 4) v) := by
  obtain ⟨⟨b0, b1, b2, b3, b4, b5⟩, ⟨c0, c1, c2, c3, c4, c5⟩, ⟨t0, t1, t2, t3, t4⟩, ⟨w0, w1, w2, w4⟩, hu⟩ := h
  obtain ⟨k1, k2, k3, k4⟩ := hkn
  -- the undos, one deed fewer if there were twelve
  have hq1 : q'.1 = (if q5.1 = 12 then 11 else q5.1) := by
    rcases hq with ⟨h1, h2⟩ | ⟨h1, h2, _⟩
    · rw [h2, if_neg (by omega)]
    · rw [h2, if_pos h1]
  have hqn : q'.1 ≤ 11 := by rw [hq1]; split <;> omega
  have cur : ∀ r, onS f q5.1 q5.1 r = f (6 + 5 * r + 4) := fun r => onS_cur
  have hch : chain q0.1 q1.1 q'.1 q'.2 (fun j r => if j < q'.1 then f1 (133 + 7 * j + r) else f (6 + 5 * r + 4)) := by
    rcases hq with ⟨h1, h2⟩ | ⟨h1, h2, h3⟩
    · have e12 : ¬ q5.1 = 12 := by omega
      rw [h2]
      refine hu.go (fun _ _ => rfl) (fun j hj r hr => ?_)
      unfold onS
      by_cases e : j < q5.1
      · rw [if_pos e, if_pos e]
        rw [if_neg e12, if_neg e12] at k3
        exact k3 j e r hr
      · rw [if_neg e, if_neg e]
    · have hu' : chain q0.1 q1.1 (11 + 1) q5.2 (onS f q5.1) := by rw [h1] at hu ⊢; exact hu
      rw [h2]
      refine chain_drop hu' (fun j hj => h3 j (by omega)) (fun j hj r hr => ?_)
      unfold onS
      rw [if_pos h1, if_pos h1] at k3
      by_cases e : j < 11
      · rw [if_pos e, if_pos (by omega)]
        exact k3 j e r hr
      · rw [if_neg e, if_neg (by omega)]
  refine ⟨⟨b0, b1, b2, b3, b4, by show q'.1 + 1 ≤ 12; omega⟩, ⟨?_, ?_, ?_, ?_, ?_, ?_⟩, ⟨?_, ?_, ?_, ?_, ?_⟩, ⟨?_, w1, w2, w4⟩, ?_⟩
  · rw [pk_un (by omega), k1 _ (by omega) (by omega)]; exact c0
  · rw [pk_un (by omega), k1 _ (by omega) (by omega)]; exact c1
  · rw [pk_un (by omega), k1 _ (by omega) (by omega)]; exact c2
  · rw [pk_un (by omega), k1 _ (by omega) (by omega)]; exact c3
  · rw [pk_un (by omega), k1 _ (by omega) (by omega)]; exact c4
  · rw [pk_un (by omega), k2, ← hq1]
  · intro r hr c hc
    have hr : r < q0.1 := hr
    show upd q0.2 (k * 5 + 4) v (r * 5 + c) = upd f1 (6 + 5 * k + 4) v (6 + 5 * r + c)
    by_cases e : r = k ∧ c = 4
    · obtain ⟨rfl, rfl⟩ := e
      rw [pk_us, pk_us]
    · rw [pk_un (by omega), pk_un (by omega), k1 _ (by omega) (by omega)]
      exact t0 r hr c hc
  · refine t1.go (fun r hr c hc => ?_); rw [pk_un (by omega), k1 _ (by omega) (by omega)]
  · refine t2.go (fun r hr c hc => ?_); rw [pk_un (by omega), k1 _ (by omega) (by omega)]
  · refine t3.go (fun r hr c hc => ?_); rw [pk_un (by omega), k1 _ (by omega) (by omega)]
  · refine t4.go (fun r hr c hc => ?_); rw [pk_un (by omega), k1 _ (by omega) (by omega)]
  · intro r hr
    have hr : r < q0.1 := hr
    show okBox (upd q0.2 (k * 5 + 4) v (r * 5)) (upd q0.2 (k * 5 + 4) v (r * 5 + 1)) (upd q0.2 (k * 5 + 4) v (r * 5 + 2)) ∧ 0 ≤ upd q0.2 (k * 5 + 4) v (r * 5 + 3) ∧ upd q0.2 (k * 5 + 4) v (r * 5 + 3) ≤ 9
    rw [pk_un (j := r * 5) (by omega), pk_un (j := r * 5 + 1) (by omega), pk_un (j := r * 5 + 2) (by omega), pk_un (j := r * 5 + 3) (by omega)]
    exact w0 r hr
  · have last : ∀ r, r < q0.1 → onS (upd f1 (6 + 5 * k + 4) v) (q'.1 + 1) (q'.1 + 1) r = if r = k then v else onS f q5.1 q5.1 r := by
      intro r hr
      rw [onS_cur, cur]
      by_cases e : r = k
      · rw [if_pos e, e, pk_us]
      · rw [if_neg e, pk_un (by omega), k1 _ (by omega) (by omega)]
    refine chain_push hch (fun j hj => ?_) (fun j hj r hr => ?_) (hok.go last) ?_
    · show row3 q'.2 q'.1 a e p j = _
      unfold row3 upd
      repeat rw [if_neg (by omega)]
    · unfold onS
      rw [if_pos (by omega), pk_un (by omega)]
      by_cases ej : j < q'.1
      · rw [if_pos ej]
      · have : j = q'.1 := by omega
        rw [if_neg ej, this, hq1]
        exact k4 r hr
    · have e0 : row3 q'.2 q'.1 a e p (q'.1 * 3) = a := by unfold row3 upd; (repeat first | rw [if_pos (by omega)] | rw [if_neg (by omega)])
      have e1 : row3 q'.2 q'.1 a e p (q'.1 * 3 + 1) = e := by unfold row3 upd; (repeat first | rw [if_pos (by omega)] | rw [if_neg (by omega)])
      have e2 : row3 q'.2 q'.1 a e p (q'.1 * 3 + 2) = p := by unfold row3 upd; (repeat first | rw [if_pos (by omega)] | rw [if_neg (by omega)])
      show deed q0.1 q1.1 (row3 q'.2 q'.1 a e p (q'.1 * 3)) (row3 q'.2 q'.1 a e p (q'.1 * 3 + 1)) (row3 q'.2 q'.1 a e p (q'.1 * 3 + 2)) _ _
      rw [e0, e1, e2]
      refine hd.go (fun r hr => ?_) last
      rw [if_neg (Nat.lt_irrefl _), cur]
/-- a deed undone: what the Model puts back -/
def unR (n u : Nat) (f f1 : Nat → Int32) : Prop := (∀ r, r < n → f1 (6 + 5 * r + 4) = f (133 + 7 * u + r)) ∧ f1 5 = nI u ∧ ∀ j, j < 217 → ¬ j = 5 → (∀ r, r < n → ¬ j = 6 + 5 * r + 4) → f1 j = f j
theorem rx_undo {u k : Nat} {f1 : Nat → Int32} (h : relX q0 q1 q2 q3 q4 q5 f) (hu1 : q5.1 = u + 1) (hk : k < q0.1) (hkd : q5.2 (u * 3 + 1) = nI k) (hr : unR q0.1 u f f1) : relX (q0.1, upd q0.2 (k * 5 + 4) (if q5.2 (u * 3 + 2) = 1 then -1 else q5.2 (u * 3))) q1 q2 q3 q4 (u, q5.2) f1 := by
  obtain ⟨⟨b0, b1, b2, b3, b4, b5⟩, ⟨c0, c1, c2, c3, c4, c5⟩, ⟨t0, t1, t2, t3, t4⟩, ⟨w0, w1, w2, w4⟩, hu⟩ := h
  obtain ⟨r1, r2, r3⟩ := hr
  have hu' : chain q0.1 q1.1 (u + 1) q5.2 (onS f q5.1) := by rw [hu1] at hu ⊢; exact hu
  have sn : ∀ r, onS f q5.1 u r = f (133 + 7 * u + r) := fun r => by unfold onS; rw [if_pos (by omega)]
  have cu : ∀ r, onS f q5.1 (u + 1) r = f (6 + 5 * r + 4) := fun r => by rw [← hu1]; exact onS_cur
  have back : ∀ r, r < q0.1 → f (133 + 7 * u + r) = if r = k then (if q5.2 (u * 3 + 2) = 1 then -1 else q5.2 (u * 3)) else f (6 + 5 * r + 4) := by
    intro r hr
    obtain ⟨i, k', hi, hk', ha, hb, hdd⟩ := hu'.2 u (Nat.lt_succ_self u)
    have ek : k' = k := (nI_eq (by omega) (by omega)).mp (hb.symm.trans hkd)
    subst ek
    rcases hdd with ⟨h1, h2, h3⟩ | ⟨h1, h2, h3⟩
    · have h3 := h3 r hr
      rw [cu, sn] at h3
      rw [sn] at h2
      rw [if_pos h1]
      by_cases e : r = k'
      · rw [if_pos e, e]; exact h2
      · rw [if_neg e] at h3 ⊢; exact h3.symm
    · have h3 := h3 r hr
      rw [cu, sn] at h3
      rw [sn] at h2
      rw [if_neg (show ¬ q5.2 (u * 3 + 2) = 1 by rw [h1]; decide), ha]
      by_cases e : r = k'
      · rw [if_pos e, e]; exact h2
      · rw [if_neg e] at h3 ⊢; exact h3.symm
  refine ⟨⟨b0, b1, b2, b3, b4, by show u ≤ 12; omega⟩, ⟨?_, ?_, ?_, ?_, ?_, r2⟩, ⟨?_, ?_, ?_, ?_, ?_⟩, ⟨?_, w1, w2, w4⟩, ?_⟩
  · rw [r3 _ (by omega) (by omega) (fun r _ => by omega)]; exact c0
  · rw [r3 _ (by omega) (by omega) (fun r _ => by omega)]; exact c1
  · rw [r3 _ (by omega) (by omega) (fun r _ => by omega)]; exact c2
  · rw [r3 _ (by omega) (by omega) (fun r _ => by omega)]; exact c3
  · rw [r3 _ (by omega) (by omega) (fun r _ => by omega)]; exact c4
  · intro r hr c hc
    have hr : r < q0.1 := hr
    show upd q0.2 (k * 5 + 4) _ (r * 5 + c) = f1 (6 + 5 * r + c)
    by_cases e4 : c = 4
    · subst e4
      rw [r1 r hr, back r hr]
      by_cases e : r = k
      · rw [if_pos e, e, pk_us]
      · rw [if_neg e, pk_un (by omega)]
        exact t0 r hr 4 (by decide)
    · rw [pk_un (by omega), r3 _ (by omega) (by omega) (fun s _ => by omega)]
      exact t0 r hr c hc
  · refine t1.go (fun r hr c hc => ?_); rw [r3 _ (by omega) (by omega) (fun s _ => by omega)]
  · refine t2.go (fun r hr c hc => ?_); rw [r3 _ (by omega) (by omega) (fun s _ => by omega)]
  · refine t3.go (fun r hr c hc => ?_); rw [r3 _ (by omega) (by omega) (fun s _ => by omega)]
  · refine t4.go (fun r hr c hc => ?_); rw [r3 _ (by omega) (by omega) (fun s _ => by omega)]
  · intro r hr
    have hr : r < q0.1 := hr
    show okBox (upd q0.2 (k * 5 + 4) _ (r * 5)) (upd q0.2 (k * 5 + 4) _ (r * 5 + 1)) (upd q0.2 (k * 5 + 4) _ (r * 5 + 2)) ∧ 0 ≤ upd q0.2 (k * 5 + 4) _ (r * 5 + 3) ∧ upd q0.2 (k * 5 + 4) _ (r * 5 + 3) ≤ 9
    rw [pk_un (j := r * 5) (by omega), pk_un (j := r * 5 + 1) (by omega), pk_un (j := r * 5 + 2) (by omega), pk_un (j := r * 5 + 3) (by omega)]
    exact w0 r hr
  · refine (chain_pop hu').go (fun _ _ => rfl) (fun j hj r hr => ?_)
    show onS f1 u j r = _
    by_cases e : j < u
    · unfold onS
      rw [if_pos e, if_pos (by omega), r3 _ (by omega) (by omega) (fun s _ => by omega)]
    · have : j = u := by omega
      subst this
      rw [onS_cur, sn, r1 r hr]
end ZSTEP2
