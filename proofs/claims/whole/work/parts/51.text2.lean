/-! ===== Text ===== -/
def isTx (w : ZW) (len : Nat) (bt nm : Nat → Int32) (st en : Nat) (tk va iw : Int32) : Prop := zat w 53 (.inr (7, [.ref 54, .ref 55, .int (nI len), .int (nI st), .int (nI en), .int tk, .int va, .int iw])) ∧ zat w 54 (.inl (1, 150, bt)) ∧ zat w 55 (.inl (0, 4, nm)) ∧ len ≤ 150
def byA (bt : Nat → Int32) (len i : Nat) : Int32 := if i < len then bt i else -1
def letB (c : Int32) : Bool := decide (97 ≤ c) && decide (c ≤ 122)
def figB (c : Int32) : Bool := decide (48 ≤ c) && decide (c ≤ 57)
/-- the first place from e on that isn't p, within k -/
def endF (p : Int32 → Bool) (bt : Nat → Int32) (e k : Nat) : Nat := match k with
  | 0 => e
  | k + 1 => if p (bt e) = true then endF p bt (e + 1) k else e
theorem endF_le (p : Int32 → Bool) (bt : Nat → Int32) : ∀ (k e : Nat), e ≤ endF p bt e k ∧ endF p bt e k ≤ e + k
  | 0, e => ⟨Nat.le_refl _, Nat.le_refl _⟩
  | k + 1, e => by
    unfold endF
    split
    · have := endF_le p bt k (e + 1); omega
    · omega
def splB (bt : Nat → Int32) (len st en k : Nat) : Bool := decide (en - st = zlen.getD k 0) && allF (fun i => decide (byA bt len (st + i) = (zbyt.getD k []).getD i 0 &&& 255)) 0 (zlen.getD k 0)
def wnF (bt : Nat → Int32) (len st en : Nat) : Int32 := fnd (splB bt len st en) 0 5
def nvF (bt : Nat → Int32) (i k : Nat) (v : Int32) : Int32 := match k with
  | 0 => v
  | k + 1 => nvF bt (i + 1) k (v * 10 + bt i - 48)
/-- the token behind place e: where it begins and ends, its sort, its value -/
abbrev TTk : Type := Nat × Nat × Int32 × Int32
def tokS (bt : Nat → Int32) (len e : Nat) (va : Int32) : TTk :=
  if len ≤ endF (fun c => decide (c = 32)) bt e (len - e) then (endF (fun c => decide (c = 32)) bt e (len - e), endF (fun c => decide (c = 32)) bt e (len - e), 3, va)
  else (fun s => if letB (bt s) = true then (fun q => (s, q, if wnF bt len s q = -1 then 4 else 0, wnF bt len s q)) (endF letB bt (s + 1) (len - (s + 1)))
    else if figB (bt s) = true then (fun q => (s, q, if 2 < q - s then 4 else 1, nvF bt s (min (q - s) 2) 0)) (endF figB bt (s + 1) (len - (s + 1)))
    else (s, s + 1, if bt s = 59 then 2 else 4, va)) (endF (fun c => decide (c = 32)) bt e (len - e))
section ZTEXT
variable {d len st en : Nat} {w : ZW} {bt nm : Nat → Int32} {tk va iw : Int32} {Q : Option Value → ZW → Prop}
theorem isTx.off {w' : ZW} {lo hi : Nat} (h : isTx w len bt nm st en tk va iw) (ho : zOff lo hi w w') (ht : 56 ≤ lo ∨ hi ≤ 53) : isTx w' len bt nm st en tk va iw := ⟨h.1.off ho (by omega), h.2.1.off ho (by omega), h.2.2.1.off ho (by omega), h.2.2.2⟩
theorem isTx.set {st' en' : Nat} {tk' va' iw' : Int32} (h : isTx w len bt nm st en tk va iw) : isTx (zput w 53 (.inr (7, [.ref 54, .ref 55, .int (nI len), .int (nI st'), .int (nI en'), .int tk', .int va', .int iw']))) len bt nm st' en' tk' va' iw' := ⟨h.1.self, h.2.1.put (by decide), h.2.2.1.put (by decide), h.2.2.2⟩
theorem x_size (h : isTx w len bt nm st en tk va iw) (k : Q (some (.int (nI len))) w) : Zm d mX7_size 0 0 [.ref 53] w Q := by
  refine zm_intro [_] oX7_size (Nat.le_of_ble_eq_true rfl) rfl ?_
  refine zw_aload_n dX7_size_0 rfl ?_
  refine zw_get dX7_size_1 fX7_19 h.1 rfl ?_
  refine zw_ireturn .int dX7_size_4 rfl rfl (Nat.le_refl _) (Nat.le_refl _) ?_
  exact k
theorem x_drop (h : isTx w len bt nm st en tk va iw) (k : ∀ w', isTx w' 0 bt nm st en tk va iw → zOff 53 56 w w' → Q (some (.int (nI len))) w') : Zm d mX7_drop 0 0 [.ref 53] w Q := by
  refine zm_intro [_, _] oX7_drop (Nat.le_of_ble_eq_true rfl) rfl ?_
  refine zw_aload_n dX7_drop_0 rfl ?_
  refine zw_get dX7_drop_1 fX7_19 h.1 rfl ?_
  refine zw_istore_n [_, _] dX7_drop_4 (Nat.le_of_ble_eq_true rfl) rfl ?_
  refine zw_aload_n dX7_drop_5 rfl ?_
  refine zw_iconst dX7_drop_6 0 (by decide) ?_
  refine zw_put dX7_drop_7 pX7_19 h.1 (fun _ => rfl) (fun _ => rfl) (Nat.le_of_ble_eq_true rfl) ?_
  refine zw_iload_n dX7_drop_10 rfl ?_
  refine zw_ireturn .int dX7_drop_11 rfl rfl (Nat.le_refl _) (Nat.le_refl _) ?_
  exact k _ ⟨h.1.self, h.2.1.put (by decide), h.2.2.1.put (by decide), Nat.zero_le _⟩ (zOff.pt (by decide) (by decide))
theorem x_append {x : Int32} (h : isTx w len bt nm st en tk va iw) (kB : ¬ (0 ≤ x ∧ x ≤ 127) → Q (some (.int (-2))) w) (kF : 0 ≤ x → x ≤ 127 → len = 150 → Q (some (.int (-4))) w) (k : 0 ≤ x → x ≤ 127 → len < 150 → ∀ w', isTx w' (len + 1) (upd bt len x) nm st en tk va iw → zOff 53 56 w w' → Q (some (.int (nI (len + 1)))) w') : Zm (d + 1) mX7_append 0 0 [.ref 53, .int x] w Q := by
  have hl := h.2.2.2
  refine zm_intro [_, _] oX7_append (Nat.le_of_ble_eq_true rfl) rfl ?_
  refine zw_iload_n dX7_append_0 rfl ?_
  refine zw_iconst dX7_append_1 0 (by decide) ?_
  refine zw_bipush dX7_append_2 127 (by decide) ?_
  refine zw_cS3 dX7_append_4 oX8_within kX8_within lX7_23 (Nat.le_of_ble_eq_true rfl) rfl (x_within (fun h1 h2 => ?_) (fun h1 => ?_))
  · show Zw _ _ _ 7 [_, _] [_] _ _
    refine zw_if_ne 13 dX7_append_7 (by decide) (fun _ => ?_) (fun hz => absurd hz (by decide))
    refine zw_aload_n dX7_append_13 rfl ?_
    refine zw_get dX7_append_14 fX7_19 h.1 rfl ?_
    refine zw_sipush dX7_append_17 150 (by decide) ?_
    rcases Nat.lt_or_ge len 150 with hq | hq
    · refine zw_icmp_lt 26 dX7_append_20 (by decide) (fun _ => ?_) (fun hz => absurd (nI_lt (b := 150) hq (by decide)) hz)
      refine zw_aload_n dX7_append_26 rfl ?_
      refine zw_get dX7_append_27 fX7_9 h.1 rfl ?_
      refine zw_aload_n dX7_append_30 rfl ?_
      refine zw_get dX7_append_31 fX7_19 h.1 rfl ?_
      refine zw_iload_n dX7_append_34 rfl ?_
      refine zw_i2b dX7_append_35 ?_
      refine zw_bast dX7_append_36 h.2.1 (vp_in_nI hq (by decide)) ?_
      have eb : vp_nar .byte x.toInt8.toInt32 = x := by
        obtain ⟨j, hj, e⟩ := nI_of2 (M := 127) (n := 127) (by decide) (Int32.not_lt.mpr h1) h2
        subst e
        have : ∀ j, j < 128 → vp_nar .byte (nI j).toInt8.toInt32 = nI j := by decide +kernel
        exact this j (by omega)
      rw [nI_clamp (by omega), eb]
      have g := h.1.put (i := 54) (e' := .inl (1, 150, upd bt len x)) (by decide)
      refine zw_aload_n dX7_append_37 rfl ?_
      refine zw_dup dX7_append_38 rfl ?_
      refine zw_get dX7_append_39 fX7_19 g rfl ?_
      refine zw_iconst dX7_append_42 1 (by decide) ?_
      refine zw_iadd dX7_append_43 ?_
      refine zw_top (nI_1 len) ?_
      refine zw_put dX7_append_44 pX7_19 g (fun _ => rfl) (fun _ => rfl) (Nat.le_of_ble_eq_true rfl) ?_
      refine zw_aload_n dX7_append_47 rfl ?_
      refine zw_get dX7_append_48 fX7_19 g.self rfl ?_
      refine zw_ireturn .int dX7_append_51 rfl rfl (Nat.le_refl _) (Nat.le_refl _) ?_
      exact k h1 h2 hq _ ⟨g.self, h.2.1.self.put (by decide), (h.2.2.1.put (by decide)).put (by decide), hq⟩ ((zOff.pt (by decide) (by decide)).tr (zOff.pt (by decide) (by decide)))
    · refine zw_icmp_lt 26 dX7_append_20 (by decide) (fun hz => absurd hz (nI_nlt (a := len) (b := 150) hq (by omega))) (fun _ => ?_)
      refine zw_bipush dX7_append_23 (-4) (by decide) ?_
      refine zw_ireturn .int dX7_append_25 rfl rfl (Nat.le_refl _) (Nat.le_refl _) ?_
      exact kF h1 h2 (by omega)
  · show Zw _ _ _ 7 [_, _] [_] _ _
    refine zw_if_ne 13 dX7_append_7 (by decide) (fun hz => absurd (rfl) hz) (fun _ => ?_)
    refine zw_bipush dX7_append_10 (-2) (by decide) ?_
    refine zw_ireturn .int dX7_append_12 rfl rfl (Nat.le_refl _) (Nat.le_refl _) ?_
    exact kB h1
theorem x_rewind (h : isTx w len bt nm st en tk va iw) (k : ∀ w', isTx w' len bt nm 0 0 3 0 iw → zOff 53 56 w w' → Q none w') : Zm d mX7_rewind 0 0 [.ref 53] w Q := by
  refine zm_intro [_] oX7_rewind (Nat.le_of_ble_eq_true rfl) rfl ?_
  refine zw_aload_n dX7_rewind_0 rfl ?_
  refine zw_iconst dX7_rewind_1 0 (by decide) ?_
  refine zw_put dX7_rewind_2 pX7_27 h.1 (fun _ => rfl) (fun _ => rfl) (Nat.le_of_ble_eq_true rfl) ?_
  have h1 := h.set (st' := 0) (en' := en) (tk' := tk) (va' := va) (iw' := iw)
  refine zw_aload_n dX7_rewind_5 rfl ?_
  refine zw_iconst dX7_rewind_6 0 (by decide) ?_
  refine zw_put dX7_rewind_7 pX7_30 h1.1 (fun _ => rfl) (fun _ => rfl) (Nat.le_of_ble_eq_true rfl) ?_
  have h2 := h1.set (st' := 0) (en' := 0) (tk' := tk) (va' := va) (iw' := iw)
  refine zw_aload_n dX7_rewind_10 rfl ?_
  refine zw_iconst dX7_rewind_11 3 (by decide) ?_
  refine zw_put dX7_rewind_12 pX7_33 h2.1 (fun _ => rfl) (fun _ => rfl) (Nat.le_of_ble_eq_true rfl) ?_
  have h3 := h2.set (st' := 0) (en' := 0) (tk' := 3) (va' := va) (iw' := iw)
  refine zw_aload_n dX7_rewind_15 rfl ?_
  refine zw_iconst dX7_rewind_16 0 (by decide) ?_
  refine zw_put dX7_rewind_17 pX7_36 h3.1 (fun _ => rfl) (fun _ => rfl) (Nat.le_of_ble_eq_true rfl) ?_
  have h4 := h3.set (st' := 0) (en' := 0) (tk' := 3) (va' := 0) (iw' := iw)
  refine zw_return dX7_rewind_20 rfl (Nat.le_refl _) (Nat.le_refl _) ?_
  exact k _ h4 ((zOff.pt (by decide) (by decide)).tr ((zOff.pt (by decide) (by decide)).tr ((zOff.pt (by decide) (by decide)).tr (zOff.pt (by decide) (by decide)))))
theorem x_isAtEnd (h : isTx w len bt nm st en tk va iw) (k : Q (some (.int (bI (decide (tk = 3))))) w) : Zm d mX7_isAtEnd 0 0 [.ref 53] w Q := by
  refine zm_intro [_] oX7_isAtEnd (Nat.le_of_ble_eq_true rfl) rfl ?_
  refine zw_aload_n dX7_isAtEnd_0 rfl ?_
  refine zw_get dX7_isAtEnd_1 fX7_33 h.1 rfl ?_
  refine zw_iconst dX7_isAtEnd_4 3 (by decide) ?_
  refine zw_icmp_ne 12 dX7_isAtEnd_5 (by decide) (fun hb => ?_) (fun hb => ?_)
  · refine zw_iconst dX7_isAtEnd_12 0 (by decide) ?_
    refine zw_ireturn .boolean dX7_isAtEnd_13 rfl rfl (Nat.le_refl _) (Nat.le_refl _) ?_
    rw [decide_eq_false hb] at k
    exact k
  · refine zw_iconst dX7_isAtEnd_8 1 (by decide) ?_
    refine zw_goto 13 dX7_isAtEnd_9 (by decide) ?_
    refine zw_ireturn .boolean dX7_isAtEnd_13 rfl rfl (Nat.le_refl _) (Nat.le_refl _) ?_
    rw [decide_eq_true hb] at k
    exact k
theorem x_place (h : isTx w len bt nm st en tk va iw) (k : Q (some (.int (nI st))) w) : Zm d mX7_place 0 0 [.ref 53] w Q := by
  refine zm_intro [_] oX7_place (Nat.le_of_ble_eq_true rfl) rfl ?_
  refine zw_aload_n dX7_place_0 rfl ?_
  refine zw_get dX7_place_1 fX7_27 h.1 rfl ?_
  refine zw_ireturn .int dX7_place_4 rfl rfl (Nat.le_refl _) (Nat.le_refl _) ?_
  exact k
theorem x_word (h : isTx w len bt nm st en tk va iw) (k : Q (some (.int iw)) w) : Zm d mX7_word 0 0 [.ref 53] w Q := by
  refine zm_intro [_] oX7_word (Nat.le_of_ble_eq_true rfl) rfl ?_
  refine zw_aload_n dX7_word_0 rfl ?_
  refine zw_get dX7_word_1 fX7_39 h.1 rfl ?_
  refine zw_ireturn .int dX7_word_4 rfl rfl (Nat.le_refl _) (Nat.le_refl _) ?_
  exact k
theorem x_numberAt {i : Nat} (hi : i < 4) (h : isTx w len bt nm st en tk va iw) (k : Q (some (.int (nm i))) w) : Zm (d + 1) mX7_numberAt 0 0 [.ref 53, .int (nI i)] w Q := by
  refine zm_intro [_, _] oX7_numberAt (Nat.le_of_ble_eq_true rfl) rfl ?_
  refine zw_iload_n dX7_numberAt_0 rfl ?_
  refine zw_iconst dX7_numberAt_1 0 (by decide) ?_
  refine zw_iconst dX7_numberAt_2 3 (by decide) ?_
  refine zw_cS3 dX7_numberAt_3 oX8_within kX8_within lX7_23 (Nat.le_of_ble_eq_true rfl) rfl (x_within (fun h1 h2 => ?_) (fun h1 => ?_))
  · show Zw _ _ _ 6 [_, _] [_] _ _
    refine zw_if_eq 18 dX7_numberAt_6 (by decide) (fun hz => absurd hz (by decide)) (fun _ => ?_)
    refine zw_aload_n dX7_numberAt_9 rfl ?_
    refine zw_get dX7_numberAt_10 fX7_15 h.1 rfl ?_
    refine zw_iload_n dX7_numberAt_13 rfl ?_
    refine zw_iald dX7_numberAt_14 h.2.2.1 (vp_in_nI hi (by decide)) ?_
    rw [nI_clamp (by omega)]
    refine zw_goto 19 dX7_numberAt_15 (by decide) ?_
    refine zw_ireturn .int dX7_numberAt_19 rfl rfl (Nat.le_refl _) (Nat.le_refl _) ?_
    exact k
  · exact absurd ⟨nI_pos' (by omega), nI_le (b := 3) (by omega) (by decide)⟩ h1
theorem x_byteAt {i : Nat} (hi : i < 1000) (h : isTx w len bt nm st en tk va iw) (k : Q (some (.int (byA bt len i))) w) : Zm d mX7_byteAt 0 0 [.ref 53, .int (nI i)] w Q := by
  have hl := h.2.2.2
  unfold byA at k
  refine zm_intro [_, _] oX7_byteAt (Nat.le_of_ble_eq_true rfl) rfl ?_
  refine zw_iconst dX7_byteAt_0 0 (by decide) ?_
  refine zw_iload_n dX7_byteAt_1 rfl ?_
  refine zw_icmp_gt 22 dX7_byteAt_2 (by decide) (fun hz => absurd hz (nI_pos (by omega))) (fun _ => ?_)
  refine zw_iload_n dX7_byteAt_5 rfl ?_
  refine zw_aload_n dX7_byteAt_6 rfl ?_
  refine zw_get dX7_byteAt_7 fX7_19 h.1 rfl ?_
  rcases Nat.lt_or_ge i len with hq | hq
  · refine zw_icmp_ge 22 dX7_byteAt_10 (by decide) (fun hz => absurd hz (nI_ge hq (by omega))) (fun _ => ?_)
    refine zw_aload_n dX7_byteAt_13 rfl ?_
    refine zw_get dX7_byteAt_14 fX7_9 h.1 rfl ?_
    refine zw_iload_n dX7_byteAt_17 rfl ?_
    refine zw_bald dX7_byteAt_18 h.2.1 (vp_in_nI (by omega) (by decide)) ?_
    rw [nI_clamp (by omega)]
    refine zw_goto 23 dX7_byteAt_19 (by decide) ?_
    refine zw_ireturn .int dX7_byteAt_23 rfl rfl (Nat.le_refl _) (Nat.le_refl _) ?_
    rwa [if_pos hq] at k
  · refine zw_icmp_ge 22 dX7_byteAt_10 (by decide) (fun _ => ?_) (fun hz => absurd (nI_le hq (by omega)) hz)
    refine zw_iconst dX7_byteAt_22 (-1) (by decide) ?_
    refine zw_ireturn .int dX7_byteAt_23 rfl rfl (Nat.le_refl _) (Nat.le_refl _) ?_
    rwa [if_neg (by omega)] at k
theorem x_isLetter {c : Int32} (k : Q (some (.int (bI (letB c)))) w) : Zm (d + 1) mX7_isLetter 0 0 [.int c] w Q := by
  unfold letB at k
  refine zm_intro [_] oX7_isLetter (Nat.le_of_ble_eq_true rfl) rfl ?_
  refine zw_iload_n dX7_isLetter_0 rfl ?_
  refine zw_bipush dX7_isLetter_1 97 (by decide) ?_
  refine zw_bipush dX7_isLetter_3 122 (by decide) ?_
  refine zw_cS3 dX7_isLetter_5 oX8_within kX8_within lX7_23 (Nat.le_of_ble_eq_true rfl) rfl (x_within (fun h1 h2 => ?_) (fun h1 => ?_))
  · show Zw _ _ _ 8 [_] [_] _ _
    refine zw_ireturn .boolean dX7_isLetter_8 rfl rfl (Nat.le_refl _) (Nat.le_refl _) ?_
    rw [decide_eq_true h1, decide_eq_true h2] at k
    exact k
  · show Zw _ _ _ 8 [_] [_] _ _
    refine zw_ireturn .boolean dX7_isLetter_8 rfl rfl (Nat.le_refl _) (Nat.le_refl _) ?_
    have e : (decide ((97 : Int32) ≤ c) && decide (c ≤ 122)) = false := by
      rw [Bool.and_eq_false_iff]
      by_cases q : (97 : Int32) ≤ c
      · exact Or.inr (decide_eq_false (fun z => h1 ⟨q, z⟩))
      · exact Or.inl (decide_eq_false q)
    rw [e] at k
    exact k
theorem x_isFigure {c : Int32} (k : Q (some (.int (bI (figB c)))) w) : Zm (d + 1) mX7_isFigure 0 0 [.int c] w Q := by
  unfold figB at k
  refine zm_intro [_] oX7_isFigure (Nat.le_of_ble_eq_true rfl) rfl ?_
  refine zw_iload_n dX7_isFigure_0 rfl ?_
  refine zw_bipush dX7_isFigure_1 48 (by decide) ?_
  refine zw_bipush dX7_isFigure_3 57 (by decide) ?_
  refine zw_cS3 dX7_isFigure_5 oX8_within kX8_within lX7_23 (Nat.le_of_ble_eq_true rfl) rfl (x_within (fun h1 h2 => ?_) (fun h1 => ?_))
  · show Zw _ _ _ 8 [_] [_] _ _
    refine zw_ireturn .boolean dX7_isFigure_8 rfl rfl (Nat.le_refl _) (Nat.le_refl _) ?_
    rw [decide_eq_true h1, decide_eq_true h2] at k
    exact k
  · show Zw _ _ _ 8 [_] [_] _ _
    refine zw_ireturn .boolean dX7_isFigure_8 rfl rfl (Nat.le_refl _) (Nat.le_refl _) ?_
    have e : (decide ((48 : Int32) ≤ c) && decide (c ≤ 57)) = false := by
      rw [Bool.and_eq_false_iff]
      by_cases q : (48 : Int32) ≤ c
      · exact Or.inr (decide_eq_false (fun z => h1 ⟨q, z⟩))
      · exact Or.inl (decide_eq_false q)
    rw [e] at k
    exact k
theorem x_nameOf {i : Nat} (hi : i < 5) (k : Q (some (.ref (1000000 + i))) w) : Zm d mX7_nameOf 0 0 [.int (nI i)] w Q := by
  refine zm_intro [_] oX7_nameOf (Nat.le_of_ble_eq_true rfl) rfl ?_
  refine zw_iload_n dX7_nameOf_0 rfl ?_
  have h5 : i = 0 ∨ i = 1 ∨ i = 2 ∨ i = 3 ∨ i = 4 := by omega
  rcases h5 with rfl | rfl | rfl | rfl | rfl
  · refine zw_tableIn 32 dX7_nameOf_1 (by decide) (by decide) (off := 31) (by decide) (by decide) ?_
    refine zw_ldcS 0 dX7_nameOf_32 rfl rfl ?_
    refine zw_areturn _ dX7_nameOf_34 rfl (Nat.le_refl _) (Nat.le_refl _) ?_
    exact k
  · refine zw_tableIn 35 dX7_nameOf_1 (by decide) (by decide) (off := 34) (by decide) (by decide) ?_
    refine zw_ldcS 1 dX7_nameOf_35 rfl rfl ?_
    refine zw_areturn _ dX7_nameOf_37 rfl (Nat.le_refl _) (Nat.le_refl _) ?_
    exact k
  · refine zw_tableIn 38 dX7_nameOf_1 (by decide) (by decide) (off := 37) (by decide) (by decide) ?_
    refine zw_ldcS 2 dX7_nameOf_38 rfl rfl ?_
    refine zw_areturn _ dX7_nameOf_40 rfl (Nat.le_refl _) (Nat.le_refl _) ?_
    exact k
  · refine zw_tableIn 41 dX7_nameOf_1 (by decide) (by decide) (off := 40) (by decide) (by decide) ?_
    refine zw_ldcS 3 dX7_nameOf_41 rfl rfl ?_
    refine zw_areturn _ dX7_nameOf_43 rfl (Nat.le_refl _) (Nat.le_refl _) ?_
    exact k
  · refine zw_tableOut 44 dX7_nameOf_1 (by decide) (by decide) ?_
    refine zw_ldcS 4 dX7_nameOf_44 rfl rfl ?_
    refine zw_areturn _ dX7_nameOf_46 rfl (Nat.le_refl _) (Nat.le_refl _) ?_
    exact k
theorem x_spellsL {j : Nat} (hj : j < 5) (h : isTx w len bt nm st en tk va iw) (hst : st < 200) : ∀ (k i : Nat), i + k = zlen.getD j 0 → Q (some (.int (bI (allF (fun i => decide (byA bt len (st + i) = (zbyt.getD j []).getD i 0 &&& 255)) i k)))) w → Zw (d + 4) mX7_spells z0 20 [some (.ref 53), some (.ref (1000000 + j)), some (.int (nI i))] [] w Q := by
  have hl : ∀ k, k < 5 → zlen.getD k 0 < 100 := by decide +kernel
  have hlj := hl j hj
  intro k
  induction k with
  | zero =>
    intro i hi kk
    refine zw_iload_n dX7_spells_20 rfl ?_
    refine zw_aload_n dX7_spells_21 rfl ?_
    refine zw_callVS (as := []) hj dX7_spells_22 oJ0_length_8abf5 kJ0_length_8abf5 lX7_87 rfl rfl (Nat.le_of_ble_eq_true rfl) rfl (j_length hj ?_)
    show Zw _ _ _ 25 [_, _, _] [_, _] _ _
    refine zw_icmp_ge 54 dX7_spells_25 (by decide) (fun _ => ?_) (fun hz => absurd (nI_le (by omega) (by omega)) hz)
    refine zw_iconst dX7_spells_54 1 (by decide) ?_
    refine zw_ireturn .boolean dX7_spells_55 rfl rfl (Nat.le_refl _) (Nat.le_refl _) ?_
    exact kk
  | succ k ih =>
    intro i hi kk
    unfold allF at kk
    refine zw_iload_n dX7_spells_20 rfl ?_
    refine zw_aload_n dX7_spells_21 rfl ?_
    refine zw_callVS (as := []) hj dX7_spells_22 oJ0_length_8abf5 kJ0_length_8abf5 lX7_87 rfl rfl (Nat.le_of_ble_eq_true rfl) rfl (j_length hj ?_)
    show Zw _ _ _ 25 [_, _, _] [_, _] _ _
    refine zw_icmp_ge 54 dX7_spells_25 (by decide) (fun hz => absurd hz (nI_ge (by omega) (by omega))) (fun _ => ?_)
    refine zw_aload_n dX7_spells_28 rfl ?_
    refine zw_aload_n dX7_spells_29 rfl ?_
    refine zw_get dX7_spells_30 fX7_27 h.1 rfl ?_
    refine zw_iload_n dX7_spells_33 rfl ?_
    refine zw_iadd dX7_spells_34 ?_
    refine zw_top (nI_add st i) ?_
    refine zw_cV1 dX7_spells_35 oX7_byteAt kX7_byteAt lX7_49 h.1 rfl (Nat.le_of_ble_eq_true rfl) rfl (x_byteAt (by omega) h ?_)
    show Zw _ _ _ 38 [_, _, _] [_] _ _
    refine zw_aload_n dX7_spells_38 rfl ?_
    refine zw_iload_n dX7_spells_39 rfl ?_
    refine zw_callVS (as := [_]) hj dX7_spells_40 oJ0_charAt_5068e kJ0_charAt_5068e lX7_91 rfl rfl (Nat.le_of_ble_eq_true rfl) rfl (j_charAt hj (by omega) ?_)
    show Zw _ _ _ 43 [_, _, _] [_, _] _ _
    refine zw_icmp_eq 48 dX7_spells_43 (by decide) (fun hb => ?_) (fun hb => ?_)
    · refine zw_iinc (nI (i + 1)) [_, _, _] dX7_spells_48 rfl (nI_1 i) rfl ?_
      refine zw_goto 20 dX7_spells_51 (by decide) ?_
      refine ih (i + 1) (by omega) ?_
      rwa [decide_eq_true hb, Bool.true_and] at kk
    · refine zw_iconst dX7_spells_46 0 (by decide) ?_
      refine zw_ireturn .boolean dX7_spells_47 rfl rfl (Nat.le_refl _) (Nat.le_refl _) ?_
      rw [decide_eq_false hb, Bool.false_and] at kk
      exact kk
theorem x_spells {j : Nat} (hj : j < 5) (h : isTx w len bt nm st en tk va iw) (hse : st ≤ en) (hen : en ≤ len) (k : Q (some (.int (bI (splB bt len st en j)))) w) : Zm (d + 4) mX7_spells 0 0 [.ref 53, .ref (1000000 + j)] w Q := by
  have hl : ∀ k, k < 5 → zlen.getD k 0 < 100 := by decide +kernel
  have hlj := hl j hj
  have hl5 := h.2.2.2
  unfold splB at k
  refine zm_intro [_, _, _] oX7_spells (Nat.le_of_ble_eq_true rfl) rfl ?_
  refine zw_aload_n dX7_spells_0 rfl ?_
  refine zw_get dX7_spells_1 fX7_30 h.1 rfl ?_
  refine zw_aload_n dX7_spells_4 rfl ?_
  refine zw_get dX7_spells_5 fX7_27 h.1 rfl ?_
  refine zw_isub dX7_spells_8 ?_
  refine zw_aload_n dX7_spells_9 rfl ?_
  refine zw_callVS (as := []) hj dX7_spells_10 oJ0_length_8abf5 kJ0_length_8abf5 lX7_87 rfl rfl (Nat.le_of_ble_eq_true rfl) rfl (j_length hj ?_)
  rw [pk_sub hse]
  show Zw _ _ _ 13 [_, _, _] [_, _] _ _
  refine zw_icmp_eq 18 dX7_spells_13 (by decide) (fun hb => ?_) (fun hb => ?_)
  · refine zw_iconst dX7_spells_18 0 (by decide) ?_
    refine zw_istore_n [_, _, _] dX7_spells_19 (Nat.le_of_ble_eq_true rfl) rfl ?_
    rw [decide_eq_true ((nI_eq (by omega) (by omega)).mp hb), Bool.true_and] at k
    exact x_spellsL hj h (by omega) _ 0 (by omega) k
  · refine zw_iconst dX7_spells_16 0 (by decide) ?_
    refine zw_ireturn .boolean dX7_spells_17 rfl rfl (Nat.le_refl _) (Nat.le_refl _) ?_
    rw [decide_eq_false (fun z => hb (by rw [z])), Bool.false_and] at k
    exact k
theorem x_wordNumberL (h : isTx w len bt nm st en tk va iw) (hse : st ≤ en) (hen : en ≤ len) : ∀ (k i : Nat), i + k = 5 → Q (some (.int (fnd (splB bt len st en) i k))) w → Zw (d + 5) mX7_wordNumber z0 2 [some (.ref 53), some (.int (nI i))] [] w Q := by
  intro k
  induction k with
  | zero =>
    intro i hi kk
    refine zw_iload_n dX7_wordNumber_2 rfl ?_
    refine zw_iconst dX7_wordNumber_3 5 (by decide) ?_
    refine zw_icmp_ge 26 dX7_wordNumber_4 (by decide) (fun _ => ?_) (fun hz => absurd (nI_le (a := 5) (b := i) (by omega) (by omega)) hz)
    refine zw_iconst dX7_wordNumber_26 (-1) (by decide) ?_
    refine zw_ireturn .int dX7_wordNumber_27 rfl rfl (Nat.le_refl _) (Nat.le_refl _) ?_
    exact kk
  | succ k ih =>
    intro i hi kk
    unfold fnd at kk
    refine zw_iload_n dX7_wordNumber_2 rfl ?_
    refine zw_iconst dX7_wordNumber_3 5 (by decide) ?_
    refine zw_icmp_ge 26 dX7_wordNumber_4 (by decide) (fun hz => absurd hz (nI_ge (b := 5) (by omega) (by decide))) (fun _ => ?_)
    refine zw_aload_n dX7_wordNumber_7 rfl ?_
    refine zw_iload_n dX7_wordNumber_8 rfl ?_
    refine zw_cS1 dX7_wordNumber_9 oX7_nameOf kX7_nameOf lX7_69 (Nat.le_of_ble_eq_true rfl) rfl (x_nameOf (by omega) ?_)
    show Zw _ _ _ 12 [_, _] [_, _] _ _
    refine zw_cV1 dX7_wordNumber_12 oX7_spells kX7_spells lX7_73 h.1 rfl (Nat.le_of_ble_eq_true rfl) rfl (x_spells (by omega) h hse hen ?_)
    show Zw _ _ _ 15 [_, _] [_] _ _
    refine zw_if_eq 20 dX7_wordNumber_15 (by decide) (fun hb => ?_) (fun hb => ?_)
    · refine zw_iinc (nI (i + 1)) [_, _] dX7_wordNumber_20 rfl (nI_1 i) rfl ?_
      refine zw_goto 2 dX7_wordNumber_23 (by decide) ?_
      refine ih (i + 1) (by omega) ?_
      rwa [if_neg (by rw [bI_f hb]; decide)] at kk
    · refine zw_iload_n dX7_wordNumber_18 rfl ?_
      refine zw_ireturn .int dX7_wordNumber_19 rfl rfl (Nat.le_refl _) (Nat.le_refl _) ?_
      rwa [if_pos (bI_t hb)] at kk
theorem x_wordNumber (h : isTx w len bt nm st en tk va iw) (hse : st ≤ en) (hen : en ≤ len) (k : Q (some (.int (wnF bt len st en))) w) : Zm (d + 5) mX7_wordNumber 0 0 [.ref 53] w Q := by
  refine zm_intro [_, _] oX7_wordNumber (Nat.le_of_ble_eq_true rfl) rfl ?_
  refine zw_iconst dX7_wordNumber_0 0 (by decide) ?_
  refine zw_istore_n [_, _] dX7_wordNumber_1 (Nat.le_of_ble_eq_true rfl) rfl ?_
  exact x_wordNumberL h hse hen 5 0 (by decide) k
end ZTEXT
