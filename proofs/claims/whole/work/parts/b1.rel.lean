/-! ===== the two states, side by side: a cupboard of the class and the Model's cells from a base on ===== -/
abbrev vw (A : Nat → Nat → Int32) (b : Nat) : Nat → Int32 := fun j => A 0 (b + j)
theorem vw_mp {A : Nat → Nat → Int32} {b j : Nat} {v : Int32} : vw (mp A b j v) b = upd (vw A b) j v := by
  funext i
  by_cases e : i = j
  · subst e
    exact mp_eq.trans pk_us.symm
  · exact (mp_ne e).trans (pk_un (f := vw A b) e).symm
def relT (q : Nat × (Nat → Int32)) (W a : Nat) (f : Nat → Int32) : Prop := ∀ r, r < q.1 → ∀ c, c < W → q.2 (r * W + c) = f (a + W * r + c)
/-- what is on the boxes is lids, each on one box at most -/
def onOk (n l : Nat) (o : Nat → Int32) : Prop := (∀ r, r < n → o r = -1 ∨ ∃ i, i < l ∧ o r = nI i) ∧ ∀ r s, r < n → s < n → o r = o s → ¬ o r = -1 → r = s
/-- the deeds lead from each state of the boxes to the next one -/
def deed (n l : Nat) (a b c : Int32) (S S' : Nat → Int32) : Prop := ∃ i k, i < l ∧ k < n ∧ a = nI i ∧ b = nI k ∧ ((c = 1 ∧ S k = -1 ∧ ∀ r, r < n → S' r = if r = k then nI i else S r) ∨ (c = 0 ∧ S k = nI i ∧ ∀ r, r < n → S' r = if r = k then -1 else S r))
def chain (n l u : Nat) (D : Nat → Int32) (S : Nat → Nat → Int32) : Prop := (∀ j, j ≤ u → onOk n l (S j)) ∧ ∀ j, j < u → deed n l (D (j * 3)) (D (j * 3 + 1)) (D (j * 3 + 2)) (S j) (S (j + 1))
def onS (f : Nat → Int32) (u j r : Nat) : Int32 := if j < u then f (133 + 7 * j + r) else f (6 + 5 * r + 4)
abbrev QT : Type := Nat × (Nat → Int32)
def wfX (q0 q1 q2 q4 : QT) : Prop := (∀ r, r < q0.1 → okBox (q0.2 (r * 5)) (q0.2 (r * 5 + 1)) (q0.2 (r * 5 + 2)) ∧ 0 ≤ q0.2 (r * 5 + 3) ∧ q0.2 (r * 5 + 3) ≤ 9) ∧ (∀ r, r < q1.1 → okLid (q1.2 (r * 4)) (q1.2 (r * 4 + 1)) (q1.2 (r * 4 + 2)) ∧ 0 ≤ q1.2 (r * 4 + 3) ∧ q1.2 (r * 4 + 3) ≤ 10) ∧ (∀ r, r < q2.1 → okSort (q2.2 (r * 4)) (q2.2 (r * 4 + 1)) (q2.2 (r * 4 + 2)) (q2.2 (r * 4 + 3))) ∧ ∀ r, r < q4.1 → okHint q0.1 (q4.2 (r * 3)) (q4.2 (r * 3 + 1)) (q4.2 (r * 3 + 2))
def bdX (q0 q1 q2 q3 q4 q5 : QT) : Prop := q0.1 ≤ 7 ∧ q1.1 ≤ 7 ∧ q2.1 ≤ 4 ∧ q3.1 ≤ 8 ∧ q4.1 ≤ 8 ∧ q5.1 ≤ 12
def ctX (q0 q1 q2 q3 q4 q5 : QT) (f : Nat → Int32) : Prop := f 0 = nI q0.1 ∧ f 1 = nI q1.1 ∧ f 2 = nI q2.1 ∧ f 3 = nI q3.1 ∧ f 4 = nI q4.1 ∧ f 5 = nI q5.1
def tbX (q0 q1 q2 q3 q4 : QT) (f : Nat → Int32) : Prop := relT q0 5 6 f ∧ relT q1 4 41 f ∧ relT q2 4 69 f ∧ relT q3 3 85 f ∧ relT q4 3 109 f
def relX (q0 q1 q2 q3 q4 q5 : QT) (f : Nat → Int32) : Prop := bdX q0 q1 q2 q3 q4 q5 ∧ ctX q0 q1 q2 q3 q4 q5 f ∧ tbX q0 q1 q2 q3 q4 f ∧ wfX q0 q1 q2 q4 ∧ chain q0.1 q1.1 q5.1 q5.2 (onS f q5.1)
abbrev rel (C : Cup) (f : Nat → Int32) : Prop := relX (C 0) (C 1) (C 2) (C 3) (C 4) (C 5) f
theorem onOk.go {n l : Nat} {o o' : Nat → Int32} (h : onOk n l o) (e : ∀ r, r < n → o' r = o r) : onOk n l o' := by
  refine ⟨fun r hr => ?_, fun r s hr hs => ?_⟩
  · rw [e r hr]; exact h.1 r hr
  · rw [e r hr, e s hs]; exact h.2 r s hr hs
theorem deed.go {n l : Nat} {a b c : Int32} {S S' T T' : Nat → Int32} (h : deed n l a b c S S') (e : ∀ r, r < n → T r = S r) (e' : ∀ r, r < n → T' r = S' r) : deed n l a b c T T' := by
  obtain ⟨i, k, hi, hk, ha, hb, h⟩ := h
  refine ⟨i, k, hi, hk, ha, hb, ?_⟩
  rcases h with ⟨h1, h2, h3⟩ | ⟨h1, h2, h3⟩
  · exact Or.inl ⟨h1, by rw [e k hk]; exact h2, fun r hr => by rw [e' r hr, h3 r hr, e r hr]⟩
  · exact Or.inr ⟨h1, by rw [e k hk]; exact h2, fun r hr => by rw [e' r hr, h3 r hr, e r hr]⟩
theorem chain.go {n l u : Nat} {D D' : Nat → Int32} {S S' : Nat → Nat → Int32} (h : chain n l u D S) (eD : ∀ j, j < u * 3 → D' j = D j) (eS : ∀ j, j ≤ u → ∀ r, r < n → S' j r = S j r) : chain n l u D' S' := by
  refine ⟨fun j hj => (h.1 j hj).go (eS j hj), fun j hj => ?_⟩
  rw [eD (j * 3) (by omega), eD (j * 3 + 1) (by omega), eD (j * 3 + 2) (by omega)]
  exact (h.2 j hj).go (eS j (by omega)) (eS (j + 1) (by omega))
theorem chain_0 {n l : Nat} {D : Nat → Int32} {S : Nat → Nat → Int32} (h : onOk n l (S 0)) : chain n l 0 D S := by
  refine ⟨fun j hj => ?_, fun j hj => absurd hj (by omega)⟩
  have : j = 0 := by omega
  subst this
  exact h
theorem chain_drop {n l u : Nat} {D D' : Nat → Int32} {S S' : Nat → Nat → Int32} (h : chain n l (u + 1) D S) (eD : ∀ j, j < u * 3 → D' j = D (3 + j)) (eS : ∀ j, j ≤ u → ∀ r, r < n → S' j r = S (j + 1) r) : chain n l u D' S' := by
  refine ⟨fun j hj => (h.1 (j + 1) (by omega)).go (eS j hj), fun j hj => ?_⟩
  have e1 : D' (j * 3) = D ((j + 1) * 3) := by rw [eD _ (by omega)]; congr 1; omega
  have e2 : D' (j * 3 + 1) = D ((j + 1) * 3 + 1) := by rw [eD _ (by omega)]; congr 1; omega
  have e3 : D' (j * 3 + 2) = D ((j + 1) * 3 + 2) := by rw [eD _ (by omega)]; congr 1; omega
  rw [e1, e2, e3]
  exact (h.2 (j + 1) (by omega)).go (eS j (by omega)) (eS (j + 1) (by omega))
theorem chain_push {n l u : Nat} {D D' : Nat → Int32} {S S' : Nat → Nat → Int32} (h : chain n l u D S) (eD : ∀ j, j < u * 3 → D' j = D j) (eS : ∀ j, j ≤ u → ∀ r, r < n → S' j r = S j r) (hn : onOk n l (S' (u + 1))) (hd : deed n l (D' (u * 3)) (D' (u * 3 + 1)) (D' (u * 3 + 2)) (S u) (S' (u + 1))) : chain n l (u + 1) D' S' := by
  refine ⟨fun j hj => ?_, fun j hj => ?_⟩
  · by_cases e : j = u + 1
    · rw [e]; exact hn
    · exact (h.1 j (by omega)).go (eS j (by omega))
  · by_cases e : j = u
    · rw [e]
      exact hd.go (eS u (by omega)) (fun _ _ => rfl)
    · rw [eD (j * 3) (by omega), eD (j * 3 + 1) (by omega), eD (j * 3 + 2) (by omega)]
      exact (h.2 j (by omega)).go (eS j (by omega)) (eS (j + 1) (by omega))
theorem chain_pop {n l u : Nat} {D : Nat → Int32} {S : Nat → Nat → Int32} (h : chain n l (u + 1) D S) : chain n l u D S := ⟨fun j hj => h.1 j (by omega), fun j hj => h.2 j (by omega)⟩
/-- the same cells, the same relation -/
theorem rel_go {C : Cup} {f f' : Nat → Int32} (h : rel C f) (e : ∀ j, j < 217 → f' j = f j) : rel C f' := by
  obtain ⟨hb, hc, ⟨t0, t1, t2, t3, t4⟩, hw, hu⟩ := h
  obtain ⟨b0, b1, b2, b3, b4, b5⟩ := id hb
  obtain ⟨c0, c1, c2, c3, c4, c5⟩ := hc
  refine ⟨hb, ⟨by rw [e 0 (by decide)]; exact c0, by rw [e 1 (by decide)]; exact c1, by rw [e 2 (by decide)]; exact c2, by rw [e 3 (by decide)]; exact c3, by rw [e 4 (by decide)]; exact c4, by rw [e 5 (by decide)]; exact c5⟩, ⟨?_, ?_, ?_, ?_, ?_⟩, hw, ?_⟩
  · intro r hr c hc; rw [t0 r hr c hc, e _ (by omega)]
  · intro r hr c hc; rw [t1 r hr c hc, e _ (by omega)]
  · intro r hr c hc; rw [t2 r hr c hc, e _ (by omega)]
  · intro r hr c hc; rw [t3 r hr c hc, e _ (by omega)]
  · intro r hr c hc; rw [t4 r hr c hc, e _ (by omega)]
  · refine hu.go (fun _ _ => rfl) (fun j hj r hr => ?_)
    unfold onS
    split
    · exact e _ (by omega)
    · exact e _ (by omega)
/-- a copy of the class's cupboard -/
theorem rel_same {C C' : Cup} {f : Nat → Int32} (h : rel C f) (s : cSame C' C) : rel C' f := by
  obtain ⟨hb, hc, ⟨t0, t1, t2, t3, t4⟩, hw, hu⟩ := h
  obtain ⟨b0, b1, b2, b3, b4, b5⟩ := id hb
  obtain ⟨w0, w1, w2, w4⟩ := hw
  have n0 := (s 0 (by decide)).1
  have n1 := (s 1 (by decide)).1
  have n2 := (s 2 (by decide)).1
  have n3 := (s 3 (by decide)).1
  have n4 := (s 4 (by decide)).1
  have n5 := (s 5 (by decide)).1
  have d0 : ∀ j, j < 35 → (C' 0).2 j = (C 0).2 j := (s 0 (by decide)).2
  have d1 : ∀ j, j < 28 → (C' 1).2 j = (C 1).2 j := (s 1 (by decide)).2
  have d2 : ∀ j, j < 16 → (C' 2).2 j = (C 2).2 j := (s 2 (by decide)).2
  have d3 : ∀ j, j < 24 → (C' 3).2 j = (C 3).2 j := (s 3 (by decide)).2
  have d4 : ∀ j, j < 24 → (C' 4).2 j = (C 4).2 j := (s 4 (by decide)).2
  have d5 : ∀ j, j < 36 → (C' 5).2 j = (C 5).2 j := (s 5 (by decide)).2
  unfold rel relX bdX ctX tbX wfX relT
  rw [n0, n1, n2, n3, n4, n5]
  refine ⟨hb, hc, ⟨?_, ?_, ?_, ?_, ?_⟩, ⟨?_, ?_, ?_, ?_⟩, ?_⟩
  · intro r hr c hc; rw [d0 _ (by omega)]; exact t0 r hr c hc
  · intro r hr c hc; rw [d1 _ (by omega)]; exact t1 r hr c hc
  · intro r hr c hc; rw [d2 _ (by omega)]; exact t2 r hr c hc
  · intro r hr c hc; rw [d3 _ (by omega)]; exact t3 r hr c hc
  · intro r hr c hc; rw [d4 _ (by omega)]; exact t4 r hr c hc
  · intro r hr; rw [d0 _ (by omega), d0 _ (by omega), d0 _ (by omega), d0 _ (by omega)]; exact w0 r hr
  · intro r hr; rw [d1 _ (by omega), d1 _ (by omega), d1 _ (by omega), d1 _ (by omega)]; exact w1 r hr
  · intro r hr; rw [d2 _ (by omega), d2 _ (by omega), d2 _ (by omega), d2 _ (by omega)]; exact w2 r hr
  · intro r hr; rw [d4 _ (by omega), d4 _ (by omega), d4 _ (by omega)]; exact w4 r hr
  · exact hu.go (fun j hj => d5 j (by omega)) (fun _ _ _ _ => rfl)
/-- an empty cupboard -/
theorem rel_0 {C : Cup} {f : Nat → Int32} (h : ∀ i, i < 6 → (C i).1 = 0) (hf : ∀ i, i < 6 → f i = 0) : rel C f := by
  have n0 := h 0 (by decide)
  have n1 := h 1 (by decide)
  have n2 := h 2 (by decide)
  have n3 := h 3 (by decide)
  have n4 := h 4 (by decide)
  have n5 := h 5 (by decide)
  unfold rel relX bdX ctX tbX wfX relT
  rw [n0, n1, n2, n3, n4, n5]
  refine ⟨by decide, ⟨hf 0 (by decide), hf 1 (by decide), hf 2 (by decide), hf 3 (by decide), hf 4 (by decide), hf 5 (by decide)⟩, ⟨?_, ?_, ?_, ?_, ?_⟩, ⟨?_, ?_, ?_, ?_⟩, ?_⟩
  all_goals first | (intro r hr; exact absurd hr (Nat.not_lt_zero _)) | skip
  exact chain_0 ⟨fun r hr => absurd hr (Nat.not_lt_zero _), fun r s hr => absurd hr (Nat.not_lt_zero _)⟩
