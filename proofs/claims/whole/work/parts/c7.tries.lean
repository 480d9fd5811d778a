/-! ===== tries: the first of the best orders is the class's ===== -/
theorem gcdF_gcd : ∀ (m k x y : Nat), y < 2 ^ m → 2 * m + 1 ≤ k → gcdF k x y = Nat.gcd x y := by
  intro m
  induction m with
  | zero =>
    intro k x y hy hk
    have : y = 0 := by omega
    subst this
    obtain ⟨k, rfl⟩ : ∃ j, k = j + 1 := ⟨k - 1, by omega⟩
    unfold gcdF
    rw [if_pos rfl, Nat.gcd_zero_right]
  | succ m ih =>
    intro k x y hy hk
    obtain ⟨k, rfl⟩ : ∃ j, k = j + 2 := ⟨k - 2, by omega⟩
    unfold gcdF
    by_cases e : y = 0
    · rw [if_pos e, e, Nat.gcd_zero_right]
    · rw [if_neg e]
      have g1 : Nat.gcd x y = Nat.gcd y (x % y) := by rw [Nat.gcd_comm x y, Nat.gcd_rec y x, Nat.gcd_comm]
      rw [g1]
      unfold gcdF
      by_cases e' : x % y = 0
      · rw [if_pos e', e', Nat.gcd_zero_right]
      · rw [if_neg e']
        have g2 : Nat.gcd y (x % y) = Nat.gcd (x % y) (y % (x % y)) := by rw [Nat.gcd_comm y, Nat.gcd_rec (x % y) y, Nat.gcd_comm]
        rw [g2]
        refine ih k _ _ ?_ (by omega)
        have h1 := Nat.mod_lt x (Nat.pos_of_ne_zero e)
        have h2 := Nat.mod_lt y (Nat.pos_of_ne_zero e')
        have h3 := Nat.div_add_mod y (x % y)
        have h4 : 1 ≤ y / (x % y) := Nat.div_pos (Nat.le_of_lt h1) (Nat.pos_of_ne_zero e')
        have h5 : x % y * 1 ≤ x % y * (y / (x % y)) := Nat.mul_le_mul_left _ h4
        rw [Nat.pow_succ] at hy
        omega
/-- what an order is worth -/
def vR (c : Nat → Nat) (l : List Nat) : Nat := match l with
  | [] => 0
  | x :: xs => 10 ^ (xs.length + 1) + (10 - c x) * vR c xs
theorem mb_vR {c : Nat → Nat} : ∀ (l pre : List Nat) (sum m : Nat), mbF (fun i => c ((pre ++ l).getD i 0)) pre.length l.length sum (m * 10 ^ l.length) = sum + m * vR c l := by
  intro l
  induction l with
  | nil => intro pre sum m; rfl
  | cons x xs ih =>
    intro pre sum m
    have e1 : (pre ++ x :: xs).getD pre.length 0 = x := by
      rw [List.getD_eq_getElem?_getD, List.getElem?_append_right (Nat.le_refl _), Nat.sub_self]
      rfl
    have e2 : pre ++ x :: xs = (pre ++ [x]) ++ xs := by simp
    have e3 : m * 10 ^ (xs.length + 1) / 10 = m * 10 ^ xs.length := by
      rw [Nat.pow_succ, ← Nat.mul_assoc, Nat.mul_div_cancel _ (by decide)]
    show mbF (fun i => c ((pre ++ x :: xs).getD i 0)) (pre.length + 1) xs.length (sum + m * 10 ^ (xs.length + 1)) (m * 10 ^ (xs.length + 1) / 10 * (10 - c ((pre ++ x :: xs).getD pre.length 0))) = _
    rw [e1, e3]
    have := ih (pre ++ [x]) (sum + m * 10 ^ (xs.length + 1)) (m * (10 - c x))
    rw [← e2, List.length_append] at this
    have e4 : m * 10 ^ xs.length * (10 - c x) = m * (10 - c x) * 10 ^ xs.length := by
      rw [Nat.mul_assoc, Nat.mul_comm (10 ^ xs.length), ← Nat.mul_assoc]
    rw [e4]
    refine this.trans ?_
    show _ = sum + m * (10 ^ (xs.length + 1) + (10 - c x) * vR c xs)
    rw [Nat.mul_add, ← Nat.mul_assoc, Nat.add_assoc]
theorem vL_vR {c : Nat → Nat} {l : List Nat} : vL c l.length l = vR c l := by
  have := mb_vR (c := c) l [] 0 1
  rw [Nat.one_mul, Nat.one_mul, Nat.zero_add] at this
  exact this
/-- r is the first of the least -/
def FM (V : List Nat → Nat) (ls : List (List Nat)) (r : List Nat) : Prop := ∃ p q, ls = p ++ r :: q ∧ (∀ l, l ∈ p → V r < V l) ∧ ∀ l, l ∈ q → V r ≤ V l
theorem FM.le {V : List Nat → Nat} {ls : List (List Nat)} {r l : List Nat} (h : FM V ls r) (hl : l ∈ ls) : V r ≤ V l := by
  obtain ⟨p, q, rfl, h1, h2⟩ := h
  rcases List.mem_append.mp hl with hl | hl
  · exact Nat.le_of_lt (h1 l hl)
  · rcases List.mem_cons.mp hl with rfl | hl
    · exact Nat.le_refl _
    · exact h2 l hl
theorem tryF_post {V : List Nat → Nat} {r : List Nat} : ∀ (q : List (List Nat)), (∀ l, l ∈ q → V r ≤ V l) → tryF V q (some r) = some r := by
  intro q
  induction q with
  | nil => intro _; rfl
  | cons l q ih =>
    intro h
    unfold tryF
    have := h l (List.mem_cons_self)
    show tryF V q (some (if V l < V r then l else r)) = some r
    rw [if_neg (by omega)]
    exact ih (fun l hl => h l (List.mem_cons_of_mem _ hl))
theorem tryF_pre {V : List Nat → Nat} {r : List Nat} {q : List (List Nat)} (hq : ∀ l, l ∈ q → V r ≤ V l) : ∀ (p : List (List Nat)) (b : Option (List Nat)), (∀ l, l ∈ p → V r < V l) → (∀ b0, b = some b0 → V r < V b0) → tryF V (p ++ r :: q) b = some r := by
  intro p
  induction p with
  | nil =>
    intro b _ hb
    cases b with
    | none => exact tryF_post q hq
    | some b0 =>
      show tryF V q (some (if V r < V b0 then r else b0)) = some r
      rw [if_pos (hb b0 rfl)]
      exact tryF_post q hq
  | cons l p ih =>
    intro b hp hb
    refine ih _ (fun l hl => hp l (List.mem_cons_of_mem _ hl)) (fun b0 e => ?_)
    have e := Option.some.inj e
    subst e
    cases b with
    | none => exact hp l List.mem_cons_self
    | some b1 =>
      show V r < V (if V l < V b1 then l else b1)
      split
      · exact hp l List.mem_cons_self
      · exact hb b1 rfl
theorem FM.try {V : List Nat → Nat} {ls : List (List Nat)} {r : List Nat} (h : FM V ls r) : tryF V ls none = some r := by
  obtain ⟨p, q, rfl, h1, h2⟩ := h
  exact tryF_pre h2 p none h1 (fun b0 e => absurd e (by simp))
theorem lexp_len {l : List Nat} : ∀ (n : Nat) (L : List Nat), L.length = n → l ∈ lexp n L → l.length = n ∧ ∀ x, x ∈ l → x ∈ L := by
  intro n
  induction n generalizing l with
  | zero =>
    intro L _ h
    have : l = [] := by simpa [lexp] using h
    subst this
    exact ⟨rfl, fun x hx => absurd hx (by simp)⟩
  | succ n ih =>
    intro L hL h
    unfold lexp at h
    obtain ⟨x, hx, h⟩ := List.mem_flatMap.mp h
    obtain ⟨l', hl', rfl⟩ := List.mem_map.mp h
    obtain ⟨i1, i2⟩ := ih (L.erase x) (by rw [List.length_erase_of_mem hx]; omega) hl'
    refine ⟨by rw [List.length_cons, i1], fun y hy => ?_⟩
    rcases List.mem_cons.mp hy with rfl | hy
    · exact hx
    · exact List.mem_of_mem_erase (i2 y hy)
theorem lexp_head : ∀ (n : Nat) (L : List Nat), L.length = n → ∃ t, lexp n L = L :: t := by
  intro n
  induction n with
  | zero =>
    intro L hL
    have : L = [] := List.length_eq_zero_iff.mp hL
    subst this
    exact ⟨[], rfl⟩
  | succ n ih =>
    intro L hL
    cases L with
    | nil => exact absurd hL (by simp)
    | cons x xs =>
      obtain ⟨t, ht⟩ := ih xs (by simpa using hL)
      unfold lexp
      rw [List.flatMap_cons, List.erase_cons_head, ht]
      exact ⟨_, rfl⟩
/-- the best order of L: the first of the greatest chances ahead; behind a sure one as they come -/
def Opt (c : Nat → Nat) (n : Nat) (L r : List Nat) : Prop := match n with
  | 0 => r = []
  | n + 1 => ∃ L1 x L2 t, L = L1 ++ x :: L2 ∧ (∀ y, y ∈ L1 → c y < c x) ∧ (∀ y, y ∈ L2 → c y ≤ c x) ∧ r = x :: t ∧ ((c x < 10 ∧ Opt c n (L1 ++ L2) t) ∨ (¬ c x < 10 ∧ t = L1 ++ L2))
theorem first_max {c : Nat → Nat} : ∀ (L : List Nat), L ≠ [] → ∃ L1 x L2, L = L1 ++ x :: L2 ∧ (∀ y, y ∈ L1 → c y < c x) ∧ ∀ y, y ∈ L2 → c y ≤ c x := by
  intro L
  induction L with
  | nil => intro h; exact absurd rfl h
  | cons a L ih =>
    intro _
    by_cases e : L = []
    · subst e
      exact ⟨[], a, [], rfl, fun y hy => absurd hy (by simp), fun y hy => absurd hy (by simp)⟩
    · obtain ⟨L1, x, L2, h1, h2, h3⟩ := ih e
      by_cases q : c a < c x
      · refine ⟨a :: L1, x, L2, by rw [h1]; rfl, fun y hy => ?_, h3⟩
        rcases List.mem_cons.mp hy with rfl | hy
        · exact q
        · exact h2 y hy
      · refine ⟨[], a, L, rfl, fun y hy => absurd hy (by simp), fun y hy => ?_⟩
        rw [h1] at hy
        rcases List.mem_append.mp hy with hy | hy
        · have := h2 y hy; omega
        · rcases List.mem_cons.mp hy with rfl | hy
          · omega
          · have := h3 y hy; omega
theorem opt_ex {c : Nat → Nat} : ∀ (n : Nat) (L : List Nat), L.length = n → ∃ r, Opt c n L r := by
  intro n
  induction n with
  | zero => intro L _; exact ⟨[], rfl⟩
  | succ n ih =>
    intro L hL
    obtain ⟨L1, x, L2, h1, h2, h3⟩ := first_max (c := c) L (fun z => by rw [z] at hL; exact absurd hL (by simp))
    have hl : (L1 ++ L2).length = n := by rw [h1] at hL; simp at hL ⊢; omega
    by_cases e : c x < 10
    · obtain ⟨t, ht⟩ := ih (L1 ++ L2) hl
      exact ⟨x :: t, L1, x, L2, t, h1, h2, h3, rfl, Or.inl ⟨e, ht⟩⟩
    · exact ⟨x :: (L1 ++ L2), L1, x, L2, _, h1, h2, h3, rfl, Or.inr ⟨e, rfl⟩⟩
theorem erase_mid {L1 L2 : List Nat} {x : Nat} (h : x ∉ L1) : (L1 ++ x :: L2).erase x = L1 ++ L2 := by
  rw [List.erase_append_right _ h, List.erase_cons_head]
theorem vR_pos {c : Nat → Nat} {l : List Nat} (h : l ≠ []) : 0 < vR c l := by
  cases l with
  | nil => exact absurd rfl h
  | cons x xs =>
    show 0 < 10 ^ (xs.length + 1) + (10 - c x) * vR c xs
    have : 0 < 10 ^ (xs.length + 1) := Nat.pow_pos (by decide)
    omega
theorem opt_mem {c : Nat → Nat} : ∀ (n : Nat) (L r : List Nat), L.Nodup → L.length = n → Opt c n L r → r ∈ lexp n L := by
  intro n
  induction n with
  | zero =>
    intro L r _ _ h
    have h : r = [] := h
    subst h
    exact List.mem_singleton.mpr rfl
  | succ n ih =>
    intro L r hnd hL h
    obtain ⟨L1, x, L2, t, rfl, h1, h2, rfl, h3⟩ := h
    have hnd' := List.nodup_append.mp hnd
    have hx2 := List.nodup_cons.mp hnd'.2.1
    have hx1 : x ∉ L1 := fun z => hnd'.2.2 x z x List.mem_cons_self rfl
    have hM : (L1 ++ L2).Nodup := List.nodup_append.mpr ⟨hnd'.1, hx2.2, fun a ha b hb => hnd'.2.2 a ha b (List.mem_cons_of_mem _ hb)⟩
    have hMl : (L1 ++ L2).length = n := by simp at hL ⊢; omega
    unfold lexp
    refine List.mem_flatMap.mpr ⟨x, List.mem_append_right _ List.mem_cons_self, List.mem_map.mpr ⟨t, ?_, rfl⟩⟩
    rw [erase_mid hx1]
    rcases h3 with ⟨_, ht⟩ | ⟨_, ht⟩
    · exact ih _ _ hM hMl ht
    · obtain ⟨q, e⟩ := lexp_head n (L1 ++ L2) hMl
      rw [e, ht]
      exact List.mem_cons_self
theorem opt_FM {c : Nat → Nat} : ∀ (n : Nat) (L r : List Nat), L.Nodup → L.length = n → (∀ y, y ∈ L → c y ≤ 10) → Opt c n L r → FM (vR c) (lexp n L) r := by
  intro n
  induction n with
  | zero =>
    intro L r _ _ _ h
    have h : r = [] := h
    subst h
    exact ⟨[], [], rfl, fun l hl => absurd hl (by simp), fun l hl => absurd hl (by simp)⟩
  | succ n ih =>
    intro L r hnd hL hc h
    obtain ⟨L1, x, L2, t, rfl, h1, h2, rfl, h3⟩ := h
    have hnd' := List.nodup_append.mp hnd
    have hx2 := List.nodup_cons.mp hnd'.2.1
    have hx1 : x ∉ L1 := fun z => hnd'.2.2 x z x List.mem_cons_self rfl
    have hM : (L1 ++ L2).Nodup := by
      refine List.nodup_append.mpr ⟨hnd'.1, hx2.2, fun a ha b hb => hnd'.2.2 a ha b (List.mem_cons_of_mem _ hb)⟩
    have hMl : (L1 ++ L2).length = n := by simp at hL ⊢; omega
    have hMc : ∀ y, y ∈ L1 ++ L2 → c y ≤ 10 := fun y hy => hc y (by
      rcases List.mem_append.mp hy with hy | hy
      · exact List.mem_append_left _ hy
      · exact List.mem_append_right _ (List.mem_cons_of_mem _ hy))
    have hcx : c x ≤ 10 := hc x (List.mem_append_right _ List.mem_cons_self)
    -- the block of x
    have blk : ∃ p q, lexp n (L1 ++ L2) = p ++ t :: q ∧ (∀ l, l ∈ p → (10 - c x) * vR c t < (10 - c x) * vR c l) ∧ ∀ l, l ∈ q → (10 - c x) * vR c t ≤ (10 - c x) * vR c l := by
      rcases h3 with ⟨e, ht⟩ | ⟨e, ht⟩
      · obtain ⟨p, q, e1, e2, e3⟩ := ih (L1 ++ L2) t hM hMl hMc ht
        exact ⟨p, q, e1, fun l hl => Nat.mul_lt_mul_of_pos_left (e2 l hl) (by omega), fun l hl => Nat.mul_le_mul_left _ (e3 l hl)⟩
      · obtain ⟨q, e1⟩ := lexp_head n (L1 ++ L2) hMl
        have e0 : 10 - c x = 0 := by omega
        rw [e0]
        exact ⟨[], q, by rw [ht]; exact e1, fun l hl => absurd hl (by simp), fun l _ => by simp⟩
    have tlen : t.length = n := by
      obtain ⟨p, q, e1, _⟩ := blk
      exact (lexp_len n (L1 ++ L2) hMl (by rw [e1]; exact List.mem_append_right _ List.mem_cons_self)).1
    -- another one ahead
    have oth : ∀ y, y ∈ L1 ++ L2 → ∀ l, l ∈ lexp n ((L1 ++ x :: L2).erase y) → l.length = n ∧ (c y < c x → (10 - c x) * vR c t < (10 - c y) * vR c l) ∧ (c y ≤ c x → (10 - c x) * vR c t ≤ (10 - c y) * vR c l) := by
      intro y hy l hl
      have hyL : y ∈ L1 ++ x :: L2 := by
        rcases List.mem_append.mp hy with hy | hy
        · exact List.mem_append_left _ hy
        · exact List.mem_append_right _ (List.mem_cons_of_mem _ hy)
      have hlen : ((L1 ++ x :: L2).erase y).length = n := by rw [List.length_erase_of_mem hyL]; omega
      have hln := (lexp_len n _ hlen hl).1
      have hpos : 0 < n := by
        have : 0 < (L1 ++ L2).length := List.length_pos_of_mem hy
        omega
      refine ⟨hln, ?_⟩
      rcases h3 with ⟨e, ht⟩ | ⟨e, ht⟩
      · obtain ⟨n', rfl⟩ : ∃ n', n = n' + 1 := ⟨n - 1, by omega⟩
        have mid : ∃ K1 K2, (L1 ++ x :: L2).erase y = K1 ++ x :: K2 ∧ (∀ z, z ∈ K1 → z ∈ L1) ∧ (∀ z, z ∈ K2 → z ∈ L2) ∧ (L1 ++ L2).erase y = K1 ++ K2 := by
          rcases List.mem_append.mp hy with hy | hy
          · exact ⟨L1.erase y, L2, List.erase_append_left _ hy, fun z hz => List.mem_of_mem_erase hz, fun z hz => hz, List.erase_append_left _ hy⟩
          · have hy1 : y ∉ L1 := fun z => hnd'.2.2 y z y (List.mem_cons_of_mem _ hy) rfl
            have hyx : ¬ x = y := fun z => hx2.1 (z ▸ hy)
            refine ⟨L1, L2.erase y, ?_, fun z hz => hz, fun z hz => List.mem_of_mem_erase hz, List.erase_append_right _ hy1⟩
            rw [List.erase_append_right _ hy1, List.erase_cons_tail (by simpa using hyx)]
        obtain ⟨K1, K2, k1, k2, k3, k4⟩ := mid
        have kl : (K1 ++ K2).length = n' := by
          rw [← k4, List.length_erase_of_mem hy]; omega
        have kn : (K1 ++ K2).Nodup := by rw [← k4]; exact hM.erase y
        obtain ⟨u, hu⟩ := opt_ex (c := c) n' (K1 ++ K2) kl
        have um := opt_mem n' (K1 ++ K2) u kn kl hu
        have ulen := (lexp_len n' _ kl um).1
        have f1 := (ih (L1 ++ L2) t hM hMl hMc ht).le (l := y :: u) (by
          unfold lexp
          exact List.mem_flatMap.mpr ⟨y, hy, List.mem_map.mpr ⟨u, by rw [k4]; exact um, rfl⟩⟩)
        have f2 := (ih ((L1 ++ x :: L2).erase y) (x :: u) (hnd.erase y) hlen (fun z hz => hc z (List.mem_of_mem_erase hz)) ⟨K1, x, K2, u, k1, fun z hz => h1 z (k2 z hz), fun z hz => h2 z (k3 z hz), rfl, Or.inl ⟨e, hu⟩⟩).le hl
        have f1 : vR c t ≤ 10 ^ (u.length + 1) + (10 - c y) * vR c u := f1
        have f2 : 10 ^ (u.length + 1) + (10 - c x) * vR c u ≤ vR c l := f2
        have hP : 0 < 10 ^ (u.length + 1) := Nat.pow_pos (by decide)
        generalize 10 ^ (u.length + 1) = P at f1 f2 hP
        generalize vR c u = U at f1 f2
        have g1 := Nat.mul_le_mul_left (10 - c x) f1
        have g2 := Nat.mul_le_mul_left (10 - c y) f2
        rw [Nat.mul_add] at g1 g2
        rw [Nat.mul_left_comm (10 - c y)] at g2
        constructor
        · intro hlt
          have : (10 - c x) * P < (10 - c y) * P := Nat.mul_lt_mul_of_pos_right (by omega) hP
          omega
        · intro hle
          have : (10 - c x) * P ≤ (10 - c y) * P := Nat.mul_le_mul_right P (by omega)
          omega
      · have e0 : 10 - c x = 0 := by omega
        rw [e0, Nat.zero_mul]
        refine ⟨fun hlt => Nat.mul_pos (by omega) (vR_pos (fun z => by rw [z] at hln; simp at hln; omega)), fun _ => Nat.zero_le _⟩
    obtain ⟨p, q, e1, e2, e3⟩ := blk
    have cons : ∀ y l, l.length = n → vR c (y :: l) = 10 ^ (n + 1) + (10 - c y) * vR c l := fun y l hl => by show 10 ^ (l.length + 1) + _ = _; rw [hl]
    refine ⟨L1.flatMap (fun y => (lexp n ((L1 ++ x :: L2).erase y)).map (fun l => y :: l)) ++ p.map (fun l => x :: l), q.map (fun l => x :: l) ++ L2.flatMap (fun y => (lexp n ((L1 ++ x :: L2).erase y)).map (fun l => y :: l)), ?_, ?_, ?_⟩
    · show (L1 ++ x :: L2).flatMap _ = _
      rw [List.flatMap_append, List.flatMap_cons, erase_mid hx1, e1, List.map_append, List.map_cons]
      simp
    · intro l hl
      rw [cons x t tlen]
      rcases List.mem_append.mp hl with hl | hl
      · obtain ⟨y, hy, hl⟩ := List.mem_flatMap.mp hl
        obtain ⟨l', hl', rfl⟩ := List.mem_map.mp hl
        obtain ⟨o1, o2, _⟩ := oth y (List.mem_append_left _ hy) l' hl'
        rw [cons y l' o1]
        have := o2 (h1 y hy)
        omega
      · obtain ⟨l', hl', rfl⟩ := List.mem_map.mp hl
        have hl2 := (lexp_len n (L1 ++ L2) hMl (by rw [e1]; exact List.mem_append_left _ hl')).1
        show _ < vR c (x :: l')
        rw [cons x l' hl2]
        have := e2 l' hl'
        omega
    · intro l hl
      rw [cons x t tlen]
      rcases List.mem_append.mp hl with hl | hl
      · obtain ⟨l', hl', rfl⟩ := List.mem_map.mp hl
        have hl2 := (lexp_len n (L1 ++ L2) hMl (by rw [e1]; exact List.mem_append_right _ (List.mem_cons_of_mem _ hl'))).1
        show _ ≤ vR c (x :: l')
        rw [cons x l' hl2]
        have := e3 l' hl'
        omega
      · obtain ⟨y, hy, hl⟩ := List.mem_flatMap.mp hl
        obtain ⟨l', hl', rfl⟩ := List.mem_map.mp hl
        obtain ⟨o1, _, o2⟩ := oth y (List.mem_append_right _ hy) l' hl'
        show _ ≤ vR c (y :: l')
        rw [cons y l' o1]
        have := o2 (h2 y hy)
        omega
