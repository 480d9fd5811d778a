/-! ===== read: the loop, by the Model ===== -/
theorem tel_neg {D D' : Cup} {wd : Nat} {nm : Nat → Int32} {v : Int32} {f : Nat → Int32} (hr : rel D f) (h : telR D wd nm v D') : v < 0 ↔ v < -1 := by
  have big : ∀ n, n < 2 ^ 31 → (nI n < 0 ↔ nI n < -1) := fun n hn => ⟨fun z => absurd z (nI_pos hn), fun z => absurd (Int32.lt_trans z (by decide)) (nI_pos hn)⟩
  obtain ⟨b0, b1, b2, _⟩ := hr.1
  rcases h with ⟨_, ⟨_, e, _⟩ | ⟨_, _, e, _⟩ | ⟨_, _, e, _⟩⟩ | ⟨_, ⟨_, e, _⟩ | ⟨_, _, e, _⟩ | ⟨_, _, e, _⟩⟩ | ⟨_, ⟨_, e, _⟩ | ⟨_, _, _, _, _, _, _, e, _⟩ | ⟨_, _, _, _, _, _, _, _, _, _, e, _⟩⟩ | ⟨_, ⟨_, e, _⟩ | ⟨r, hr', _, _, _, e, _⟩⟩ | ⟨_, ⟨_, e, _⟩ | ⟨_, _, e, _⟩ | ⟨_, _, e, _⟩⟩
  · rw [e]; decide
  · rw [e]; decide
  · rw [e]; exact big _ (by omega)
  · rw [e]; decide
  · rw [e]; decide
  · rw [e]; exact big _ (by omega)
  · rw [e]; decide
  · rw [e]; decide
  · rw [e]; decide
  · rw [e]; decide
  · have := (hr.2.2.2.1.1 r hr').2
    obtain ⟨j, hj, e2⟩ := n10 (m := 9) (by decide) (by decide) this
    rw [e, e2]; exact big _ (by omega)
  · rw [e]; decide
  · rw [e]; decide
  · rw [e]; exact big _ (by omega)
theorem tel_m1 {D D' : Cup} {wd : Nat} {nm : Nat → Int32} {v : Int32} {f : Nat → Int32} (hr : rel D f) (h : telR D wd nm v D') : (-1 ≤ v) ↔ ¬ v < 0 := by
  rw [tel_neg hr h]
  exact Int32.not_lt.symm
