/-! ===== each deed keeps the two states side by side ===== -/
theorem relT.go {q : QT} {W a : Nat} {f f' : Nat → Int32} (h : relT q W a f) (e : ∀ r, r < q.1 → ∀ c, c < W → f' (a + W * r + c) = f (a + W * r + c)) : relT q W a f' := fun r hr c hc => (h r hr c hc).trans (e r hr c hc).symm
theorem onS_cur {f : Nat → Int32} {u r : Nat} : onS f u u r = f (6 + 5 * r + 4) := if_neg (Nat.lt_irrefl u)
section ZSTEP
variable {q0 q1 q2 q3 q4 q5 : QT} {f : Nat → Int32} {x y z u : Int32}
theorem rx_box (h : relX q0 q1 q2 q3 q4 q5 f) (ok : okBox x y z) (hn : q0.1 < 7) : relX (q0.1 + 1, row5 q0.2 q0.1 x y z 1 (-1)) q1 q2 q3 q4 (0, q5.2) (upd (upd (upd (upd (upd (upd (upd f (6 + 5 * q0.1 + 0) x) (6 + 5 * q0.1 + 1) y) (6 + 5 * q0.1 + 2) z) (6 + 5 * q0.1 + 3) 1) (6 + 5 * q0.1 + 4) (-1)) 0 (nI (q0.1 + 1))) 5 0) := by
  obtain ⟨⟨b0, b1, b2, b3, b4, b5⟩, ⟨c0, c1, c2, c3, c4, c5⟩, ⟨t0, t1, t2, t3, t4⟩, ⟨w0, w1, w2, w4⟩, hu⟩ := h
  refine ⟨⟨hn, b1, b2, b3, b4, Nat.zero_le _⟩, ⟨?_, ?_, ?_, ?_, ?_, ?_⟩, ⟨?_, ?_, ?_, ?_, ?_⟩, ⟨?_, w1, w2, ?_⟩, chain_0 ?_⟩
  · unfold upd; rw [if_neg (by omega), if_pos rfl]
  · unfold upd; repeat rw [if_neg (by omega)]
    exact c1
  · unfold upd; repeat rw [if_neg (by omega)]
    exact c2
  · unfold upd; repeat rw [if_neg (by omega)]
    exact c3
  · unfold upd; repeat rw [if_neg (by omega)]
    exact c4
  · exact pk_us
  · intro r hr c hc
    have hr : r < q0.1 + 1 := hr
    show row5 q0.2 q0.1 x y z 1 (-1) (r * 5 + c) = _
    by_cases e : r = q0.1
    · subst e
      have : c = 0 ∨ c = 1 ∨ c = 2 ∨ c = 3 ∨ c = 4 := by omega
      unfold row5 upd
      rcases this with rfl | rfl | rfl | rfl | rfl
      all_goals (repeat first | rw [if_pos (by omega)] | rw [if_neg (by omega)])
    · unfold row5 upd
      repeat rw [if_neg (by omega)]
      exact t0 r (by omega) c hc
  · refine t1.go (fun r hr c hc => ?_); unfold upd; repeat rw [if_neg (by omega)]
  · refine t2.go (fun r hr c hc => ?_); unfold upd; repeat rw [if_neg (by omega)]
  · refine t3.go (fun r hr c hc => ?_); unfold upd; repeat rw [if_neg (by omega)]
  · refine t4.go (fun r hr c hc => ?_); unfold upd; repeat rw [if_neg (by omega)]
  · intro r hr
    have hr : r < q0.1 + 1 := hr
    show okBox (row5 q0.2 q0.1 x y z 1 (-1) (r * 5)) (row5 q0.2 q0.1 x y z 1 (-1) (r * 5 + 1)) (row5 q0.2 q0.1 x y z 1 (-1) (r * 5 + 2)) ∧ 0 ≤ row5 q0.2 q0.1 x y z 1 (-1) (r * 5 + 3) ∧ row5 q0.2 q0.1 x y z 1 (-1) (r * 5 + 3) ≤ 9
    by_cases e : r = q0.1
    · subst e
      have e0 : row5 q0.2 q0.1 x y z 1 (-1) (q0.1 * 5) = x := by unfold row5 upd; (repeat first | rw [if_pos (by omega)] | rw [if_neg (by omega)])
      have e1 : row5 q0.2 q0.1 x y z 1 (-1) (q0.1 * 5 + 1) = y := by unfold row5 upd; (repeat first | rw [if_pos (by omega)] | rw [if_neg (by omega)])
      have e2 : row5 q0.2 q0.1 x y z 1 (-1) (q0.1 * 5 + 2) = z := by unfold row5 upd; (repeat first | rw [if_pos (by omega)] | rw [if_neg (by omega)])
      have e3 : row5 q0.2 q0.1 x y z 1 (-1) (q0.1 * 5 + 3) = 1 := by unfold row5 upd; (repeat first | rw [if_pos (by omega)] | rw [if_neg (by omega)])
      rw [e0, e1, e2, e3]
      exact ⟨ok, by decide, by decide⟩
    · have ee : ∀ k, k < 5 → row5 q0.2 q0.1 x y z 1 (-1) (r * 5 + k) = q0.2 (r * 5 + k) := by
        intro k hk
        unfold row5 upd
        repeat rw [if_neg (by omega)]
      have e0 := ee 0 (by decide)
      rw [Nat.add_zero] at e0
      rw [e0, ee 1 (by decide), ee 2 (by decide), ee 3 (by decide)]
      exact w0 r (by omega)
  · intro r hr
    obtain ⟨h1, ⟨a, h2, h3⟩, b, h4, h5⟩ := w4 r hr
    exact ⟨h1, ⟨a, Nat.lt_succ_of_lt h2, h3⟩, b, Nat.lt_succ_of_lt h4, h5⟩
  · have ho := hu.1 q5.1 (Nat.le_refl _)
    have cur : ∀ r, r < q0.1 + 1 → onS (upd (upd (upd (upd (upd (upd (upd f (6 + 5 * q0.1 + 0) x) (6 + 5 * q0.1 + 1) y) (6 + 5 * q0.1 + 2) z) (6 + 5 * q0.1 + 3) 1) (6 + 5 * q0.1 + 4) (-1)) 0 (nI (q0.1 + 1))) 5 0) 0 0 r = if r = q0.1 then -1 else onS f q5.1 q5.1 r := by
      intro r hr
      rw [onS_cur, onS_cur]
      by_cases e : r = q0.1
      · rw [if_pos e]
        unfold upd
        subst e
        (repeat first | rw [if_pos (by omega)] | rw [if_neg (by omega)])
      · rw [if_neg e]
        unfold upd
        repeat rw [if_neg (by omega)]
    refine ⟨fun r hr => ?_, fun r s hr hs he hne => ?_⟩
    · rw [cur r hr]
      by_cases e : r = q0.1
      · rw [if_pos e]; exact Or.inl rfl
      · rw [if_neg e]; exact ho.1 r (by have : r < q0.1 + 1 := hr; omega)
    · rw [cur r hr] at he hne
      rw [cur s hs] at he
      have hr : r < q0.1 + 1 := hr
      have hs : s < q0.1 + 1 := hs
      by_cases e : r = q0.1
      · rw [if_pos e] at hne; exact absurd rfl hne
      · rw [if_neg e] at he hne
        by_cases e' : s = q0.1
        · rw [if_pos e'] at he; exact absurd he hne
        · rw [if_neg e'] at he
          exact ho.2 r s (by omega) (by omega) he hne
theorem rx_lid (h : relX q0 q1 q2 q3 q4 q5 f) (ok : okLid x y z) (hn : q1.1 < 7) : relX q0 (q1.1 + 1, row4 q1.2 q1.1 x y z 5) q2 q3 q4 (0, q5.2) (upd (upd (upd (upd (upd (upd f (41 + 4 * q1.1) x) (41 + 4 * q1.1 + 1) y) (41 + 4 * q1.1 + 2) z) (41 + 4 * q1.1 + 3) 5) 1 (nI (q1.1 + 1))) 5 0) := by
  obtain ⟨⟨b0, b1, b2, b3, b4, b5⟩, ⟨c0, c1, c2, c3, c4, c5⟩, ⟨t0, t1, t2, t3, t4⟩, ⟨w0, w1, w2, w4⟩, hu⟩ := h
  refine ⟨⟨b0, hn, b2, b3, b4, Nat.zero_le _⟩, ⟨?_, ?_, ?_, ?_, ?_, ?_⟩, ⟨?_, ?_, ?_, ?_, ?_⟩, ⟨w0, ?_, w2, w4⟩, chain_0 ?_⟩
  · unfold upd; repeat rw [if_neg (by omega)]
    exact c0
  · unfold upd; rw [if_neg (by omega), if_pos rfl]
  · unfold upd; repeat rw [if_neg (by omega)]
    exact c2
  · unfold upd; repeat rw [if_neg (by omega)]
    exact c3
  · unfold upd; repeat rw [if_neg (by omega)]
    exact c4
  · exact pk_us
  · refine t0.go (fun r hr c hc => ?_); unfold upd; repeat rw [if_neg (by omega)]
  · intro r hr c hc
    have hr : r < q1.1 + 1 := hr
    show row4 q1.2 q1.1 x y z 5 (r * 4 + c) = _
    by_cases e : r = q1.1
    · subst e
      have : c = 0 ∨ c = 1 ∨ c = 2 ∨ c = 3 := by omega
      unfold row4 upd
      rcases this with rfl | rfl | rfl | rfl
      all_goals (repeat first | rw [if_pos (by omega)] | rw [if_neg (by omega)])
    · unfold row4 upd
      repeat rw [if_neg (by omega)]
      exact t1 r (by omega) c hc
  · refine t2.go (fun r hr c hc => ?_); unfold upd; repeat rw [if_neg (by omega)]
  · refine t3.go (fun r hr c hc => ?_); unfold upd; repeat rw [if_neg (by omega)]
  · refine t4.go (fun r hr c hc => ?_); unfold upd; repeat rw [if_neg (by omega)]
  · intro r hr
    have hr : r < q1.1 + 1 := hr
    show okLid (row4 q1.2 q1.1 x y z 5 (r * 4)) (row4 q1.2 q1.1 x y z 5 (r * 4 + 1)) (row4 q1.2 q1.1 x y z 5 (r * 4 + 2)) ∧ 0 ≤ row4 q1.2 q1.1 x y z 5 (r * 4 + 3) ∧ row4 q1.2 q1.1 x y z 5 (r * 4 + 3) ≤ 10
    by_cases e : r = q1.1
    · subst e
      have e0 : row4 q1.2 q1.1 x y z 5 (q1.1 * 4) = x := by unfold row4 upd; (repeat first | rw [if_pos (by omega)] | rw [if_neg (by omega)])
      have e1 : row4 q1.2 q1.1 x y z 5 (q1.1 * 4 + 1) = y := by unfold row4 upd; (repeat first | rw [if_pos (by omega)] | rw [if_neg (by omega)])
      have e2 : row4 q1.2 q1.1 x y z 5 (q1.1 * 4 + 2) = z := by unfold row4 upd; (repeat first | rw [if_pos (by omega)] | rw [if_neg (by omega)])
      have e3 : row4 q1.2 q1.1 x y z 5 (q1.1 * 4 + 3) = 5 := by unfold row4 upd; (repeat first | rw [if_pos (by omega)] | rw [if_neg (by omega)])
      rw [e0, e1, e2, e3]
      exact ⟨ok, by decide, by decide⟩
    · have ee : ∀ k, k < 4 → row4 q1.2 q1.1 x y z 5 (r * 4 + k) = q1.2 (r * 4 + k) := by
        intro k hk
        unfold row4 upd
        repeat rw [if_neg (by omega)]
      have e0 := ee 0 (by decide)
      rw [Nat.add_zero] at e0
      rw [e0, ee 1 (by decide), ee 2 (by decide), ee 3 (by decide)]
      exact w1 r (by omega)
  · have ho := hu.1 q5.1 (Nat.le_refl _)
    have cur : ∀ r, r < q0.1 → onS (upd (upd (upd (upd (upd (upd f (41 + 4 * q1.1) x) (41 + 4 * q1.1 + 1) y) (41 + 4 * q1.1 + 2) z) (41 + 4 * q1.1 + 3) 5) 1 (nI (q1.1 + 1))) 5 0) 0 0 r = onS f q5.1 q5.1 r := by
      intro r hr
      rw [onS_cur, onS_cur]
      unfold upd
      repeat rw [if_neg (by omega)]
    refine onOk.go (o := onS f q5.1 q5.1) ⟨fun r hr => ?_, ho.2⟩ cur
    rcases ho.1 r hr with e | ⟨i, hi, e⟩
    · exact Or.inl e
    · exact Or.inr ⟨i, Nat.lt_succ_of_lt hi, e⟩
theorem rx_sort (h : relX q0 q1 q2 q3 q4 q5 f) (ok : okSort x y z u) (hn : q2.1 < 4) : relX q0 q1 (q2.1 + 1, row4 q2.2 q2.1 x y z u) q3 q4 q5 (upd (upd (upd (upd (upd f (69 + 4 * q2.1) x) (69 + 4 * q2.1 + 1) y) (69 + 4 * q2.1 + 2) z) (69 + 4 * q2.1 + 3) u) 2 (nI (q2.1 + 1))) := by
  obtain ⟨⟨b0, b1, b2, b3, b4, b5⟩, ⟨c0, c1, c2, c3, c4, c5⟩, ⟨t0, t1, t2, t3, t4⟩, ⟨w0, w1, w2, w4⟩, hu⟩ := h
  refine ⟨⟨b0, b1, hn, b3, b4, b5⟩, ⟨?_, ?_, ?_, ?_, ?_, ?_⟩, ⟨?_, ?_, ?_, ?_, ?_⟩, ⟨w0, w1, ?_, w4⟩, ?_⟩
  · unfold upd; repeat rw [if_neg (by omega)]
    exact c0
  · unfold upd; repeat rw [if_neg (by omega)]
    exact c1
  · exact pk_us
  · unfold upd; repeat rw [if_neg (by omega)]
    exact c3
  · unfold upd; repeat rw [if_neg (by omega)]
    exact c4
  · unfold upd; repeat rw [if_neg (by omega)]
    exact c5
  · refine t0.go (fun r hr c hc => ?_); unfold upd; repeat rw [if_neg (by omega)]
  · refine t1.go (fun r hr c hc => ?_); unfold upd; repeat rw [if_neg (by omega)]
  · intro r hr c hc
    have hr : r < q2.1 + 1 := hr
    show row4 q2.2 q2.1 x y z u (r * 4 + c) = _
    by_cases e : r = q2.1
    · subst e
      have : c = 0 ∨ c = 1 ∨ c = 2 ∨ c = 3 := by omega
      unfold row4 upd
      rcases this with rfl | rfl | rfl | rfl
      all_goals (repeat first | rw [if_pos (by omega)] | rw [if_neg (by omega)])
    · unfold row4 upd
      repeat rw [if_neg (by omega)]
      exact t2 r (by omega) c hc
  · refine t3.go (fun r hr c hc => ?_); unfold upd; repeat rw [if_neg (by omega)]
  · refine t4.go (fun r hr c hc => ?_); unfold upd; repeat rw [if_neg (by omega)]
  · intro r hr
    have hr : r < q2.1 + 1 := hr
    show okSort (row4 q2.2 q2.1 x y z u (r * 4)) (row4 q2.2 q2.1 x y z u (r * 4 + 1)) (row4 q2.2 q2.1 x y z u (r * 4 + 2)) (row4 q2.2 q2.1 x y z u (r * 4 + 3))
    by_cases e : r = q2.1
    · subst e
      have e0 : row4 q2.2 q2.1 x y z u (q2.1 * 4) = x := by unfold row4 upd; (repeat first | rw [if_pos (by omega)] | rw [if_neg (by omega)])
      have e1 : row4 q2.2 q2.1 x y z u (q2.1 * 4 + 1) = y := by unfold row4 upd; (repeat first | rw [if_pos (by omega)] | rw [if_neg (by omega)])
      have e2 : row4 q2.2 q2.1 x y z u (q2.1 * 4 + 2) = z := by unfold row4 upd; (repeat first | rw [if_pos (by omega)] | rw [if_neg (by omega)])
      have e3 : row4 q2.2 q2.1 x y z u (q2.1 * 4 + 3) = u := by unfold row4 upd; (repeat first | rw [if_pos (by omega)] | rw [if_neg (by omega)])
      rw [e0, e1, e2, e3]
      exact ok
    · have ee : ∀ k, k < 4 → row4 q2.2 q2.1 x y z u (r * 4 + k) = q2.2 (r * 4 + k) := by
        intro k hk
        unfold row4 upd
        repeat rw [if_neg (by omega)]
      have e0 := ee 0 (by decide)
      rw [Nat.add_zero] at e0
      rw [e0, ee 1 (by decide), ee 2 (by decide), ee 3 (by decide)]
      exact w2 r (by omega)
  · refine hu.go (fun _ _ => rfl) (fun j hj r hr => ?_)
    unfold onS
    split
    · unfold upd; repeat rw [if_neg (by omega)]
    · unfold upd; repeat rw [if_neg (by omega)]
end ZSTEP
