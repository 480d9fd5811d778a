/-! ===== labels: the mathematics ===== -/
abbrev lg (l : List Nat) (f : Nat) : Nat := l.getD f 0
theorem lexp_inj {l : List Nat} : ∀ (n : Nat) (L : List Nat), L.Nodup → L.length = n → l ∈ lexp n L → ∀ i j, i < n → j < n → lg l i = lg l j → i = j := by
  intro n
  induction n generalizing l with
  | zero => intro L _ _ _ i j hi; exact absurd hi (Nat.not_lt_zero _)
  | succ n ih =>
    intro L hd hL hl i j hi hj e
    unfold lexp at hl
    obtain ⟨x, hx, hl⟩ := List.mem_flatMap.mp hl
    obtain ⟨l', hl', rfl⟩ := List.mem_map.mp hl
    have hL' : (L.erase x).length = n := by rw [List.length_erase_of_mem hx, hL]; rfl
    have hd' : (L.erase x).Nodup := hd.erase x
    obtain ⟨len', mem'⟩ := lexp_len n _ hL' hl'
    have hne : ∀ a, a < n → ¬ lg l' a = x := by
      intro a ha e
      have h1 : l'.getD a 0 ∈ l' := by
        rw [List.getD_eq_getElem?_getD, List.getElem?_eq_getElem (by omega)]
        exact List.getElem_mem _
      have h2 := mem' _ h1
      rw [show l'.getD a 0 = x from e] at h2
      exact absurd h2 hd.not_mem_erase
    cases i with
    | zero =>
      cases j with
      | zero => rfl
      | succ j => exact absurd (show lg l' j = x from e.symm) (hne j (by omega))
    | succ i =>
      cases j with
      | zero => exact absurd (show lg l' i = x from e) (hne i (by omega))
      | succ j => rw [ih _ hd' hL' hl' i j (by omega) (by omega) e]
theorem lexp_sur {l : List Nat} : ∀ (n : Nat) (L : List Nat), L.length = n → l ∈ lexp n L → ∀ x, x ∈ L → ∃ i, i < n ∧ lg l i = x := by
  intro n
  induction n generalizing l with
  | zero => intro L hL _ x hx; rw [List.length_eq_zero_iff.mp hL] at hx; exact absurd hx List.not_mem_nil
  | succ n ih =>
    intro L hL hl x hx
    unfold lexp at hl
    obtain ⟨y, hy, hl⟩ := List.mem_flatMap.mp hl
    obtain ⟨l', hl', rfl⟩ := List.mem_map.mp hl
    have hL' : (L.erase y).length = n := by rw [List.length_erase_of_mem hy, hL]; rfl
    by_cases e : x = y
    · exact ⟨0, by omega, e.symm⟩
    · obtain ⟨i, hi, h⟩ := ih _ hL' hl' x ((List.mem_erase_of_ne e).mpr hx)
      exact ⟨i + 1, by omega, h⟩
theorem lexp_mem : ∀ (n : Nat) (L l : List Nat), L.Nodup → L.length = n → l.length = n → l.Nodup → (∀ x, x ∈ l → x ∈ L) → l ∈ lexp n L := by
  intro n
  induction n with
  | zero => intro L l _ _ hl _ _; rw [List.length_eq_zero_iff.mp hl]; exact List.mem_singleton.mpr rfl
  | succ n ih =>
    intro L l hd hL hl hnd hm
    cases l with
    | nil => exact absurd hl (by simp)
    | cons x l =>
      unfold lexp
      have hx := hm x List.mem_cons_self
      have hx2 := List.nodup_cons.mp hnd
      refine List.mem_flatMap.mpr ⟨x, hx, List.mem_map.mpr ⟨l, ih _ l (hd.erase x) (by rw [List.length_erase_of_mem hx, hL]; rfl) (by simpa using hl) hx2.2 (fun y hy => ?_), rfl⟩⟩
      exact (List.mem_erase_of_ne (fun e => hx2.1 (by rw [← e]; exact hy))).mpr (hm y (List.mem_cons_of_mem _ hy))
theorem lexp_nd : ∀ (n : Nat) (L : List Nat), L.Nodup → (lexp n L).Nodup := by
  intro n
  induction n with
  | zero => intro L _; exact List.nodup_cons.mpr ⟨List.not_mem_nil, List.nodup_nil⟩
  | succ n ih =>
    intro L hd
    unfold lexp
    refine List.pairwise_flatMap.mpr ⟨fun x hx => ?_, ?_⟩
    · refine List.pairwise_map.mpr ((ih _ (hd.erase x)).imp (fun h e => h (List.cons.inj e).2))
    · refine hd.imp (fun h a ha b hb e => ?_)
      obtain ⟨a', _, rfl⟩ := List.mem_map.mp ha
      obtain ⟨b', _, rfl⟩ := List.mem_map.mp hb
      exact h (List.cons.inj e).1
noncomputable def cn (X : List (List Nat)) (p : List Nat → Prop) : Nat := match X with
  | [] => 0
  | l :: X => (@ite Nat (p l) (Classical.propDecidable (p l)) 1 0) + cn X p
theorem cn_congr {p q : List Nat → Prop} : ∀ X : List (List Nat), (∀ l, l ∈ X → (p l ↔ q l)) → cn X p = cn X q := by
  intro X
  induction X with
  | nil => intro _; rfl
  | cons l X ih =>
    intro h
    unfold cn
    rw [ih (fun m hm => h m (List.mem_cons_of_mem _ hm))]
    by_cases e : p l
    · rw [if_pos e, if_pos ((h l List.mem_cons_self).mp e)]
    · rw [if_neg e, if_neg (fun z => e ((h l List.mem_cons_self).mpr z))]
theorem cn_none {p : List Nat → Prop} : ∀ X : List (List Nat), (∀ l, l ∈ X → ¬ p l) → cn X p = 0 := by
  intro X
  induction X with
  | nil => intro _; rfl
  | cons l X ih =>
    intro h
    unfold cn
    rw [ih (fun m hm => h m (List.mem_cons_of_mem _ hm)), if_neg (h l List.mem_cons_self)]
theorem cn_one {p : List Nat → Prop} {l0 : List Nat} : ∀ X : List (List Nat), X.Nodup → l0 ∈ X → p l0 → (∀ l, l ∈ X → p l → l = l0) → cn X p = 1 := by
  intro X
  induction X with
  | nil => intro _ h; exact absurd h List.not_mem_nil
  | cons l X ih =>
    intro hd hm hp hu
    obtain ⟨h1, h2⟩ := List.nodup_cons.mp hd
    unfold cn
    by_cases e : p l
    · have e2 := hu l List.mem_cons_self e
      rw [if_pos e, cn_none X (fun m hm' hpm => h1 (by rw [e2, ← hu m (List.mem_cons_of_mem _ hm') hpm]; exact hm'))]
    · rw [if_neg e]
      rcases List.mem_cons.mp hm with hm | hm
      · exact absurd (hm ▸ hp) e
      · rw [ih h2 hm hp (fun m hm' => hu m (List.mem_cons_of_mem _ hm'))]
def sumN (g : Nat → Nat) (k : Nat) : Nat := match k with
  | 0 => 0
  | k + 1 => sumN g k + g k
theorem sumN_add {g h : Nat → Nat} : ∀ k, sumN (fun i => g i + h i) k = sumN g k + sumN h k := by
  intro k
  induction k with
  | zero => rfl
  | succ k ih => unfold sumN; rw [ih]; omega
theorem sumN_0 {g : Nat → Nat} : ∀ k, (∀ i, i < k → g i = 0) → sumN g k = 0 := by
  intro k
  induction k with
  | zero => intro _; rfl
  | succ k ih => intro h; unfold sumN; rw [ih (fun i hi => h i (by omega)), h k (by omega)]
theorem sumN_one {g : Nat → Nat} {j : Nat} : ∀ k, j < k → g j = 1 → (∀ i, i < k → ¬ i = j → g i = 0) → sumN g k = 1 := by
  intro k
  induction k with
  | zero => intro h; exact absurd h (Nat.not_lt_zero _)
  | succ k ih =>
    intro hj h1 h0
    unfold sumN
    by_cases e : j = k
    · subst e
      rw [sumN_0 j (fun i hi => h0 i (by omega) (by omega)), h1]
    · rw [ih (by omega) h1 (fun i hi => h0 i (by omega)), h0 k (by omega) (fun z => e z.symm)]
theorem cn_split {p : List Nat → Prop} {r : List Nat → Nat → Prop} {n : Nat} : ∀ X : List (List Nat), (∀ l, l ∈ X → ∃ j, j < n ∧ r l j ∧ ∀ i, i < n → r l i → i = j) → cn X p = sumN (fun f => cn X (fun l => p l ∧ r l f)) n := by
  intro X
  induction X with
  | nil => intro _; exact (sumN_0 n (fun _ _ => rfl)).symm
  | cons l X ih =>
    intro h
    unfold cn
    rw [sumN_add, ← ih (fun m hm => h m (List.mem_cons_of_mem _ hm))]
    obtain ⟨j, hj, hr, hu⟩ := h l List.mem_cons_self
    by_cases e : p l
    · rw [if_pos e]
      congr 1
      exact (sumN_one (g := fun f => @ite Nat (p l ∧ r l f) (Classical.propDecidable _) 1 0) (j := j) n hj (if_pos (show p l ∧ r l j from ⟨e, hr⟩)) (fun i hi hij => if_neg (show ¬ (p l ∧ r l i) from fun z => hij (hu i hi z.2)))).symm
    · rw [if_neg e]
      congr 1
      exact (sumN_0 (g := fun f => @ite Nat (p l ∧ r l f) (Classical.propDecidable _) 1 0) n (fun i _ => if_neg (show ¬ (p l ∧ r l i) from fun z => e z.1))).symm
theorem ord_p {n : Nat} {l : List Nat} (h : l ∈ orders n) : l.length = n ∧ (∀ i, i < n → lg l i < n) ∧ (∀ i j, i < n → j < n → lg l i = lg l j → i = j) ∧ ∀ b, b < n → ∃ i, i < n ∧ lg l i = b := by
  have hd : (List.range n).Nodup := List.nodup_range
  have hL : (List.range n).length = n := List.length_range
  obtain ⟨h1, h2⟩ := lexp_len n _ hL h
  refine ⟨h1, fun i hi => ?_, lexp_inj n _ hd hL h, fun b hb => lexp_sur n _ hL h b (List.mem_range.mpr hb)⟩
  have h3 : l.getD i 0 ∈ l := by
    rw [List.getD_eq_getElem?_getD, List.getElem?_eq_getElem (by omega)]
    exact List.getElem_mem _
  exact List.mem_range.mp (h2 _ h3)
theorem ord_of {n : Nat} {q : Nat → Nat} (h1 : ∀ i, i < n → q i < n) (h2 : ∀ i j, i < n → j < n → q i = q j → i = j) : (List.range n).map q ∈ orders n := by
  refine lexp_mem n _ _ List.nodup_range List.length_range (by rw [List.length_map, List.length_range]) ?_ (fun x hx => ?_)
  · refine List.pairwise_map.mpr ?_
    refine List.Pairwise.imp_of_mem (R := fun a b => a ≠ b) (fun ha hb h e => h (h2 _ _ (List.mem_range.mp ha) (List.mem_range.mp hb) e)) List.nodup_range
  · obtain ⟨i, hi, rfl⟩ := List.mem_map.mp hx
    exact List.mem_range.mpr (h1 i (List.mem_range.mp hi))
theorem lg_map {n i : Nat} {q : Nat → Nat} (hi : i < n) : lg ((List.range n).map q) i = q i := by
  show ((List.range n).map q).getD i 0 = q i
  rw [List.getD_eq_getElem?_getD, List.getElem?_map, List.getElem?_range hi]
  rfl
theorem foldF_ind {g : Nat → FSt → FSt} {J : Nat → FSt → Prop} {n : Nat} (h : ∀ i s, i < n → J i s → J (i + 1) (g i s)) : ∀ k i s, i + k = n → J i s → J n (foldF g i k s) := by
  intro k
  induction k with
  | zero => intro i s hi hs; rw [← hi]; exact hs
  | succ k ih => intro i s hi hs; unfold foldF; exact ih (i + 1) _ (by omega) (h i s (by omega) hs)
section ZLAB
variable {sz : Nat → Int32} {al le sm gr : Nat → Nat} {n : Nat}
theorem may_congr {pl pl' : Nat → Int32} {box f placed : Nat} (h : ∀ o, o < n → placed.testBit o = true → pl o = pl' o) : mayB sz al le sm gr pl n box f placed = mayB sz al le sm gr pl' n box f placed := by
  unfold mayB
  congr 3
  refine allF_congr n 0 (fun o _ ho => ?_)
  unfold agB
  rw [Nat.testBit_and, Nat.testBit_and]
  cases e : placed.testBit o with
  | true => rw [h o (by omega) e]
  | false => simp
/-- food f's own hints, at the order l -/
def cdB (sz : Nat → Int32) (al le sm gr : Nat → Nat) (n : Nat) (l : List Nat) (f : Nat) : Bool := mayB sz al le sm gr (fun o => nI (lg l o)) n (lg l f) f (pmk (fun o => decide (lg l o < lg l f)) n)
/-- the orders that go on from what is placed -/
def St (sz : Nat → Int32) (al le sm gr : Nat → Nat) (n box placed : Nat) (pl : Nat → Int32) (l : List Nat) : Prop := (∀ f, f < n → (placed.testBit f = true ↔ lg l f < box) ∧ (placed.testBit f = true → pl f = nI (lg l f))) ∧ ∀ f, f < n → box ≤ lg l f → cdB sz al le sm gr n l f = true
theorem St_may {box placed f : Nat} {pl : Nat → Int32} {l : List Nat} (hn : n ≤ 7) (hp : placed < 2 ^ n) (h : ∀ f, f < n → (placed.testBit f = true ↔ lg l f < box) ∧ (placed.testBit f = true → pl f = nI (lg l f))) (hf : lg l f = box) : cdB sz al le sm gr n l f = mayB sz al le sm gr pl n box f placed := by
  have pn := pow_c hn
  unfold cdB
  rw [hf]
  have e : pmk (fun o => decide (lg l o < box)) n = placed := by
    refine eq_of7 (Nat.lt_of_lt_of_le (pmk_lt n) pn) (by omega) (fun i _ => ?_)
    rw [pmk_bit]
    by_cases hi : i < n
    · rw [decide_eq_true hi, Bool.true_and, decide_eq_true_iff]
      exact (h i hi).1.symm
    · rw [decide_eq_false hi, Bool.false_and, tb_lt hp (by omega)]
  rw [e]
  exact may_congr (fun o ho hb => ((h o ho).2 hb).symm)
theorem St_next {box placed f0 : Nat} {pl pl1 : Nat → Int32} {l : List Nat} (hn : n ≤ 7) (hp : placed < 2 ^ n) (hl : l ∈ orders n) (hf0 : f0 < n) (hb : box < n) (h0 : placed.testBit f0 = false) (hpl : ∀ f, placed.testBit f = true → pl1 f = pl f) (hm : mayB sz al le sm gr pl1 n box f0 placed = true) : St sz al le sm gr n (box + 1) (placed ||| 2 ^ f0) (upd pl1 f0 (nI box)) l ↔ St sz al le sm gr n box placed pl l ∧ lg l f0 = box := by
  obtain ⟨o1, o2, o3, o4⟩ := ord_p hl
  have bit : ∀ f, (placed ||| 2 ^ f0).testBit f = (placed.testBit f || decide (f0 = f)) := fun f => tb_or
  constructor
  · rintro ⟨h1, h2⟩
    have e0 : lg l f0 = box := by
      have := (h1 f0 hf0).2 (by rw [bit, decide_eq_true rfl, Bool.or_true])
      rw [pk_us] at this
      exact ((nI_eq (by omega) (by have := o2 f0 hf0; omega)).mp this).symm
    have st : ∀ f, f < n → (placed.testBit f = true ↔ lg l f < box) ∧ (placed.testBit f = true → pl f = nI (lg l f)) := by
      intro f hf
      by_cases e : f = f0
      · subst e
        refine ⟨⟨fun z => absurd z (by rw [h0]; decide), fun z => absurd z (by omega)⟩, fun z => absurd z (by rw [h0]; decide)⟩
      · have hb1 : (placed ||| 2 ^ f0).testBit f = placed.testBit f := by rw [bit, decide_eq_false (fun z => e z.symm), Bool.or_false]
        obtain ⟨g1, g2⟩ := h1 f hf
        rw [hb1] at g1 g2
        refine ⟨g1.trans ⟨fun z => ?_, fun z => by omega⟩, fun z => ?_⟩
        · refine Nat.lt_of_le_of_ne (by omega) (fun z' => e (o3 f f0 hf hf0 (by rw [e0]; exact z')))
        · have := g2 z
          rw [pk_un e, hpl f z] at this
          exact this
    refine ⟨⟨st, fun f hf hge => ?_⟩, e0⟩
    by_cases e : f = f0
    · subst e
      rw [St_may (pl := pl1) hn hp (fun f hf => ⟨(st f hf).1, fun z => by rw [hpl f z]; exact (st f hf).2 z⟩) e0]
      exact hm
    · exact h2 f hf (Nat.lt_of_le_of_ne hge (fun z => e (o3 f f0 hf hf0 (by rw [e0]; exact z.symm))))
  · rintro ⟨⟨h1, h2⟩, e0⟩
    refine ⟨fun f hf => ?_, fun f hf hge => h2 f hf (by omega)⟩
    by_cases e : f = f0
    · subst e
      rw [bit, decide_eq_true rfl, Bool.or_true, pk_us, e0]
      exact ⟨⟨fun _ => Nat.lt_succ_self _, fun _ => rfl⟩, fun _ => rfl⟩
    · obtain ⟨g1, g2⟩ := h1 f hf
      rw [bit, decide_eq_false (fun z => e z.symm), Bool.or_false, pk_un e]
      refine ⟨g1.trans ⟨fun z => by omega, fun z => ?_⟩, fun z => by rw [hpl f z]; exact g2 z⟩
      refine Nat.lt_of_le_of_ne (by omega) (fun z' => e (o3 f f0 hf hf0 (by rw [e0]; exact z')))
theorem St_no {box placed f0 : Nat} {pl pl1 : Nat → Int32} {l : List Nat} (hn : n ≤ 7) (hp : placed < 2 ^ n) (hf0 : f0 < n) (hpl : ∀ f, placed.testBit f = true → pl1 f = pl f) (hm : ¬ (placed.testBit f0 = false ∧ mayB sz al le sm gr pl1 n box f0 placed = true)) : ¬ (St sz al le sm gr n box placed pl l ∧ lg l f0 = box) := by
  rintro ⟨⟨h1, h2⟩, e0⟩
  cases hb : placed.testBit f0 with
  | true => exact absurd ((h1 f0 hf0).1.mp hb) (by omega)
  | false =>
    refine hm ⟨hb, ?_⟩
    rw [← St_may (pl := pl1) (l := l) hn hp (fun f hf => ⟨(h1 f hf).1, fun z => by rw [hpl f z]; exact (h1 f hf).2 z⟩) e0]
    exact h2 f0 hf0 (by omega)
/-- what is placed is a way so far -/
def Wy (n box placed : Nat) (pl : Nat → Int32) : Prop := ∃ q : Nat → Nat, (∀ f, placed.testBit f = true → f < n ∧ q f < box ∧ pl f = nI (q f)) ∧ (∀ f f', placed.testBit f = true → placed.testBit f' = true → q f = q f' → f = f') ∧ ∀ b, b < box → ∃ f, placed.testBit f = true ∧ q f = b
theorem Wy_next {box placed f0 : Nat} {pl pl1 : Nat → Int32} (h : Wy n box placed pl) (hf0 : f0 < n) (h0 : placed.testBit f0 = false) (hpl : ∀ f, placed.testBit f = true → pl1 f = pl f) : Wy n (box + 1) (placed ||| 2 ^ f0) (upd pl1 f0 (nI box)) := by
  obtain ⟨q, h1, h2, h3⟩ := h
  have ne : ∀ f, placed.testBit f = true → ¬ f = f0 := fun f hf e => by rw [e, h0] at hf; exact absurd hf (by decide)
  have cs : ∀ f, (placed ||| 2 ^ f0).testBit f = true → f = f0 ∨ placed.testBit f = true := fun f hf => by
    rw [tb_or, Bool.or_eq_true_iff, decide_eq_true_iff] at hf
    exact hf.elim Or.inr (fun e => Or.inl e.symm)
  refine ⟨fun f => if f = f0 then box else q f, fun f hf => ?_, fun f f' hf hf' e => ?_, fun b hb => ?_⟩
  · dsimp only
    rcases cs f hf with e | hf
    · rw [if_pos e, e, pk_us]; exact ⟨hf0, Nat.lt_succ_self _, rfl⟩
    · rw [if_neg (ne f hf), pk_un (ne f hf), hpl f hf]
      obtain ⟨g1, g2, g3⟩ := h1 f hf
      exact ⟨g1, by omega, g3⟩
  · dsimp only at e
    rcases cs f hf with e1 | hf
    · rcases cs f' hf' with e2 | hf'
      · rw [e1, e2]
      · rw [if_pos e1, if_neg (ne f' hf')] at e
        have := (h1 f' hf').2.1
        omega
    · rcases cs f' hf' with e2 | hf'
      · rw [if_pos e2, if_neg (ne f hf)] at e
        have := (h1 f hf).2.1
        omega
      · rw [if_neg (ne f hf), if_neg (ne f' hf')] at e
        exact h2 f f' hf hf' e
  · by_cases e : b = box
    · subst e
      exact ⟨f0, by rw [tb_or, decide_eq_true rfl, Bool.or_true], if_pos rfl⟩
    · obtain ⟨f, g1, g2⟩ := h3 b (by omega)
      exact ⟨f, by rw [tb_or, g1, Bool.true_or], by dsimp only; rw [if_neg (ne f g1)]; exact g2⟩
theorem wF_cn (hn : n ≤ 7) : ∀ (k box placed : Nat) (pl wy : Nat → Int32), box + k = n → placed < 2 ^ n → Wy n box placed pl → (wF sz al le sm gr n k box placed pl wy).1 = nI (cn (orders n) (St sz al le sm gr n box placed pl)) ∧ (∀ f, placed.testBit f = true → (wF sz al le sm gr n k box placed pl wy).2.1 f = pl f) ∧ ∀ b f, b < n → f < n → (wF sz al le sm gr n k box placed pl wy).2.2 (b * 7 + f) = wy (b * 7 + f) + nI (if box ≤ b then cn (orders n) (fun l => St sz al le sm gr n box placed pl l ∧ lg l f = b) else 0) := by
  intro k
  induction k with
  | zero =>
    intro box placed pl wy hb hp hW
    have hb : box = n := hb
    subst hb
    obtain ⟨q, h1, h2, h3⟩ := hW
    refine ⟨?_, fun _ _ => rfl, fun b f hb hf => ?_⟩
    · have full : ∀ f, f < box → placed.testBit f = true := by
        have hc : ∀ b, ∃ f, b < box → placed.testBit f = true ∧ q f = b := fun b => by
          by_cases e : b < box
          · obtain ⟨f, hf⟩ := h3 b e; exact ⟨f, fun _ => hf⟩
          · exact ⟨0, fun z => absurd z e⟩
        intro f hf
        obtain ⟨b, g1, g2⟩ := inj_sur box (fun b => (hc b).choose) (fun i hi => (h1 _ ((hc i).choose_spec hi).1).1) (fun i j hi hj e => by
          have e1 := ((hc i).choose_spec hi).2
          have e2 := ((hc j).choose_spec hj).2
          rw [← e1, ← e2]
          exact congrArg q e) f hf
        rw [← g2]
        exact ((hc b).choose_spec g1).1
      have hmem := ord_of (n := box) (q := q) (fun i hi => (h1 i (full i hi)).2.1) (fun i j hi hj e => h2 i j (full i hi) (full j hj) e)
      have hcn : cn (orders box) (St sz al le sm gr box box placed pl) = 1 := by
        refine cn_one (l0 := (List.range box).map q) (orders box) (lexp_nd box _ List.nodup_range) hmem ⟨fun f hf => ?_, fun f hf z => ?_⟩ (fun l hl hp => ?_)
        · rw [lg_map hf]
          exact ⟨⟨fun z => (h1 f z).2.1, fun _ => full f hf⟩, fun z => (h1 f z).2.2⟩
        · rw [lg_map hf] at z
          have := (h1 f (full f hf)).2.1
          omega
        · obtain ⟨o1, o2, _⟩ := ord_p hl
          refine List.ext_getElem (by rw [o1, List.length_map, List.length_range]) (fun i i1 i2 => ?_)
          have hi : i < box := by omega
          have e1 := (hp.1 i hi).2 (full i hi)
          have e2 := (h1 i (full i hi)).2.2
          have e3 : lg l i = q i := (nI_eq (by have := o2 i hi; omega) (by have := (h1 i (full i hi)).2.1; omega)).mp (e1.symm.trans e2)
          rw [List.getElem_map, List.getElem_range, ← e3]
          show l[i] = l.getD i 0
          rw [List.getD_eq_getElem?_getD, List.getElem?_eq_getElem i1]
          rfl
      rw [hcn]
      rfl
    · rw [if_neg (by omega)]
      exact (Int32.add_zero _).symm
  | succ k ih =>
    intro box placed pl wy hb hp hW
    have hbn : box < n := by omega
    unfold wF
    have uq : ∀ l, l ∈ orders n → ∃ j, j < n ∧ lg l j = box ∧ ∀ i, i < n → lg l i = box → i = j := fun l hl => by
      obtain ⟨o1, o2, o3, o4⟩ := ord_p hl
      obtain ⟨j, j1, j2⟩ := o4 box hbn
      exact ⟨j, j1, j2, fun i hi e => o3 i j hi j1 (e.trans j2.symm)⟩
    have J := foldF_ind (n := n) (J := fun i s => s.1 = nI (sumN (fun f => cn (orders n) (fun l => St sz al le sm gr n box placed pl l ∧ lg l f = box)) i) ∧ (∀ f, placed.testBit f = true → s.2.1 f = pl f) ∧ ∀ b f, b < n → f < n → s.2.2 (b * 7 + f) = wy (b * 7 + f) + nI (if box < b then sumN (fun f0 => cn (orders n) (fun l => (St sz al le sm gr n box placed pl l ∧ lg l f = b) ∧ lg l f0 = box)) i else if b = box ∧ f < i then cn (orders n) (fun l => St sz al le sm gr n box placed pl l ∧ lg l f = box) else 0)) (g := fun f s => if placed.testBit f = false ∧ mayB sz al le sm gr s.2.1 n box f placed = true then
      (s.1 + (wF sz al le sm gr n k (box + 1) (placed ||| 2 ^ f) (upd s.2.1 f (nI box)) s.2.2).1, (wF sz al le sm gr n k (box + 1) (placed ||| 2 ^ f) (upd s.2.1 f (nI box)) s.2.2).2.1, upd (wF sz al le sm gr n k (box + 1) (placed ||| 2 ^ f) (upd s.2.1 f (nI box)) s.2.2).2.2 (box * 7 + f) ((wF sz al le sm gr n k (box + 1) (placed ||| 2 ^ f) (upd s.2.1 f (nI box)) s.2.2).2.2 (box * 7 + f) + (wF sz al le sm gr n k (box + 1) (placed ||| 2 ^ f) (upd s.2.1 f (nI box)) s.2.2).1)) else s) ?_ n 0 (0, pl, wy) (by omega) ⟨rfl, fun _ _ => rfl, fun b f hb hf => ?_⟩
    · obtain ⟨j1, j2, j3⟩ := J
      refine ⟨?_, j2, fun b f hb hf => ?_⟩
      · rw [j1, ← cn_split (orders n) uq]
      · rw [j3 b f hb hf]
        by_cases e : box < b
        · rw [if_pos e, if_pos (by omega), ← cn_split (orders n) uq]
        · rw [if_neg e]
          by_cases e' : b = box
          · rw [if_pos ⟨e', hf⟩, if_pos (by omega), e']
          · rw [if_neg (fun z => e' z.1), if_neg (by omega)]
    · intro f0 s hf0 hs
      obtain ⟨s1, s2, s3⟩ := hs
      by_cases hc : placed.testBit f0 = false ∧ mayB sz al le sm gr s.2.1 n box f0 placed = true
      · rw [if_pos hc]
        obtain ⟨i1, i2, i3⟩ := ih (box + 1) (placed ||| 2 ^ f0) (upd s.2.1 f0 (nI box)) s.2.2 (by omega) (Nat.or_lt_two_pow hp (Nat.pow_lt_pow_right (by decide) hf0)) (Wy_next hW hf0 hc.1 s2)
        have eqS : ∀ l, l ∈ orders n → (St sz al le sm gr n (box + 1) (placed ||| 2 ^ f0) (upd s.2.1 f0 (nI box)) l ↔ St sz al le sm gr n box placed pl l ∧ lg l f0 = box) := fun l hl => St_next hn hp hl hf0 hbn hc.1 s2 hc.2
        rw [cn_congr (orders n) eqS] at i1
        refine ⟨?_, fun f hf => ?_, fun b f hb hf => ?_⟩
        · show s.1 + _ = _
          rw [i1, s1, nI_add]
          rfl
        · show (wF sz al le sm gr n k (box + 1) (placed ||| 2 ^ f0) (upd s.2.1 f0 (nI box)) s.2.2).2.1 f = pl f
          rw [i2 f (by rw [tb_or, hf, Bool.true_or]), pk_un (fun e => by rw [e, hc.1] at hf; exact absurd hf (by decide))]
          exact s2 f hf
        · dsimp only
          by_cases e : b = box ∧ f = f0
          · obtain ⟨rfl, rfl⟩ := e
            have e5 := i3 b f hbn (by assumption)
            have e6 := s3 b f hbn (by assumption)
            rw [if_neg (show ¬ b + 1 ≤ b by omega), nI_0, Int32.add_zero] at e5
            rw [if_neg (Nat.lt_irrefl b), if_neg (fun z => absurd z.2 (Nat.lt_irrefl f)), nI_0, Int32.add_zero] at e6
            rw [pk_us, e5, e6, i1, if_neg (Nat.lt_irrefl b), if_pos ⟨rfl, Nat.lt_succ_self f⟩]
          · rw [pk_un (fun z => e (by omega)), i3 b f hb hf, s3 b f hb hf]
            by_cases e1 : box < b
            · rw [if_pos e1, if_pos (show box + 1 ≤ b by omega), if_pos e1, Int32.add_assoc, nI_add]
              have e2 : cn (orders n) (fun l => St sz al le sm gr n (box + 1) (placed ||| 2 ^ f0) (upd s.2.1 f0 (nI box)) l ∧ lg l f = b) = cn (orders n) (fun l => (St sz al le sm gr n box placed pl l ∧ lg l f = b) ∧ lg l f0 = box) := cn_congr (orders n) (fun l hl => by
                rw [eqS l hl]
                exact ⟨fun z => ⟨⟨z.1.1, z.2⟩, z.1.2⟩, fun z => ⟨⟨z.1.1, z.2⟩, z.1.2⟩⟩)
              rw [e2]
              rfl
            · rw [if_neg e1, if_neg (show ¬ box + 1 ≤ b by omega), if_neg e1, nI_0, Int32.add_zero]
              by_cases e2 : b = box ∧ f < f0
              · rw [if_pos e2, if_pos ⟨e2.1, by omega⟩]
              · rw [if_neg e2, if_neg (fun z => e2 ⟨z.1, by
                  have : ¬ f = f0 := fun z' => e ⟨z.1, z'⟩
                  omega⟩)]
      · rw [if_neg hc]
        have no : ∀ l, l ∈ orders n → ¬ (St sz al le sm gr n box placed pl l ∧ lg l f0 = box) := fun l _ => St_no hn hp hf0 s2 hc
        refine ⟨?_, s2, fun b f hb hf => ?_⟩
        · rw [s1]
          show _ = nI (sumN _ f0 + cn (orders n) (fun l => St sz al le sm gr n box placed pl l ∧ lg l f0 = box))
          rw [cn_none (orders n) no, Nat.add_zero]
        · rw [s3 b f hb hf]
          by_cases e1 : box < b
          · rw [if_pos e1, if_pos e1]
            show _ = _ + nI (sumN _ f0 + cn (orders n) (fun l => (St sz al le sm gr n box placed pl l ∧ lg l f = b) ∧ lg l f0 = box))
            rw [cn_none (orders n) (fun l hl z => no l hl ⟨z.1.1, z.2⟩), Nat.add_zero]
          · rw [if_neg e1, if_neg e1]
            by_cases e2 : b = box ∧ f < f0
            · rw [if_pos e2, if_pos ⟨e2.1, by omega⟩]
            · rw [if_neg e2]
              by_cases e3 : b = box ∧ f < f0 + 1
              · have e4 : f = f0 := by
                  have : ¬ f < f0 := fun z => e2 ⟨e3.1, z⟩
                  omega
                rw [if_pos e3, e4, cn_none (orders n) no]
              · rw [if_neg e3]
    · show wy (b * 7 + f) = _
      by_cases e1 : box < b
      · rw [if_pos e1]; exact (Int32.add_zero _).symm
      · rw [if_neg e1, if_neg (fun z => absurd z.2 (Nat.not_lt_zero _))]; exact (Int32.add_zero _).symm
end ZLAB
