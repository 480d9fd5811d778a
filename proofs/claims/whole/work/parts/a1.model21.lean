/-! ===== the Model: what is bought ===== -/
/-- sort k fits box b, by the Model -/
def mFS (A : Nat → Nat → Int32) (k b : Nat) : Bool := mFit A 0 b (A 0 (0 + (69 + 4 * k))) (A 0 (0 + (69 + 4 * k + 1))) (A 0 (0 + (69 + 4 * k + 2)))
def bR (fit : Nat → Bool) (s b k : Nat) (R : Nat → Bool) : Nat → Bool := match k with
  | 0 => R
  | k + 1 => bR fit s (b + 1) k (if (!s.testBit b && fit b) = true then bup R (s ||| 2 ^ b) else R)
/-- one lid more is bought -/
def obR (fit : Nat → Bool) (n k : Nat) (R : Nat → Bool) : Nat → Bool := match k with
  | 0 => R
  | k + 1 => obR fit n k (if R k = true then bR fit k 0 n R else R)
def itB (fit : Nat → Bool) (n k : Nat) (R : Nat → Bool) : Nat → Bool := match k with
  | 0 => R
  | k + 1 => itB fit n k (obR fit n 128 R)
def enR (fit : Nat → Nat → Bool) (n k v : Nat) (R : Nat → Bool) : Nat → Bool := match k with
  | 0 => R
  | k + 1 => enR fit n k (v / 8) (itB (fit k) n (v % 8) R)
/-- only sorts that there are -/
def okE (s k v : Nat) : Prop := match k with
  | 0 => True
  | k + 1 => (k < s ∨ v % 8 = 0) ∧ okE s k (v / 8)
def prN (pr : Nat → Nat) (s k v a : Nat) : Nat := match k with
  | 0 => a
  | k + 1 => prN pr s k (v / 8) (a + v % 8 * (if k < s then pr k else 100000))
theorem prN_ge {pr : Nat → Nat} {s : Nat} : ∀ (k v a : Nat), a ≤ prN pr s k v a := by
  intro k
  induction k with
  | zero => intro v a; exact Nat.le_refl _
  | succ k ih => intro v a; unfold prN; exact Nat.le_trans (Nat.le_add_right _ _) (ih _ _)
theorem prN_ok {pr : Nat → Nat} {s : Nat} : ∀ (k v a : Nat), prN pr s k v a < 100000 → okE s k v := by
  intro k
  induction k with
  | zero => intro v a _; exact True.intro
  | succ k ih =>
    intro v a h
    unfold prN at h
    refine ⟨?_, ih _ _ h⟩
    by_cases hk : k < s
    · exact Or.inl hk
    · have := prN_ge (pr := pr) (s := s) k (v / 8) (a + v % 8 * (if k < s then pr k else 100000))
      rw [if_neg hk] at this h
      right
      omega
theorem prN_le {pr : Nat → Nat} {s : Nat} (hp : ∀ k, k < s → pr k ≤ 50) : ∀ (k v a : Nat), prN pr s k v a ≤ a + k * 700000 := by
  intro k
  induction k with
  | zero => intro v a; exact Nat.le_add_right _ _
  | succ k ih =>
    intro v a
    unfold prN
    refine Nat.le_trans (ih _ _) ?_
    have h8 : v % 8 ≤ 7 := by omega
    have : (if k < s then pr k else 100000) ≤ 100000 := by
      split
      · next h => have := hp k h; omega
      · exact Nat.le_refl _
    have := Nat.mul_le_mul h8 this
    rw [Nat.succ_mul]
    omega
def manyN (v : Nat) : Nat := v % 8 + v / 8 % 8 + v / 64 % 8 + v / 512
def mPr (A : Nat → Nat → Int32) (k : Nat) : Nat := (A 0 (0 + (69 + 4 * k + 3))).toNatClampNeg
def rep8 (R : Nat → Bool) (f : Nat → Int32) : Prop := ∀ s, s < 128 → f s = bI (R s)
theorem nar_b : ∀ p, vp_nar .boolean (bI p) = bI p := by decide
section ZMOD21
variable {d : Nat} {w w' : ZW} {A : Nat → Nat → Int32} {I : Nat → Int32} {ab be : Int64} {Q : Option Value → ZW → Prop}
theorem m_manyIn {v : Nat} (hv : v < 4096) (k : Q (some (.int (nI (manyN v)))) w) : Zm d mX9_manyIn 0 0 [.int (nI v)] w Q := by
  unfold manyN at k
  refine zm_intro [_] oX9_manyIn (Nat.le_of_ble_eq_true rfl) rfl ?_
  refine zw_iload_n dX9_manyIn_0 rfl ?_
  refine zw_bipush dX9_manyIn_1 8 (by decide) ?_
  refine zw_irem dX9_manyIn_3 (by decide) ?_
  refine zw_top (y := nI (v % 8)) (pk_rem (d := 8) (by omega) (by decide) (by decide)) ?_
  refine zw_iload_n dX9_manyIn_4 rfl ?_
  refine zw_bipush dX9_manyIn_5 8 (by decide) ?_
  refine zw_idiv dX9_manyIn_7 (by decide) ?_
  refine zw_top (y := nI (v / 8)) (pk_div (d := 8) (by omega) (by decide) (by decide)) ?_
  refine zw_bipush dX9_manyIn_8 8 (by decide) ?_
  refine zw_irem dX9_manyIn_10 (by decide) ?_
  refine zw_top (y := nI (v / 8 % 8)) (pk_rem (d := 8) (by omega) (by decide) (by decide)) ?_
  refine zw_iadd dX9_manyIn_11 ?_
  refine zw_top (nI_add ..) ?_
  refine zw_iload_n dX9_manyIn_12 rfl ?_
  refine zw_bipush dX9_manyIn_13 64 (by decide) ?_
  refine zw_idiv dX9_manyIn_15 (by decide) ?_
  refine zw_top (y := nI (v / 64)) (pk_div (d := 64) (by omega) (by decide) (by decide)) ?_
  refine zw_bipush dX9_manyIn_16 8 (by decide) ?_
  refine zw_irem dX9_manyIn_18 (by decide) ?_
  refine zw_top (y := nI (v / 64 % 8)) (pk_rem (d := 8) (by omega) (by decide) (by decide)) ?_
  refine zw_iadd dX9_manyIn_19 ?_
  refine zw_top (nI_add ..) ?_
  refine zw_iload_n dX9_manyIn_20 rfl ?_
  refine zw_sipush dX9_manyIn_21 512 (by decide) ?_
  refine zw_idiv dX9_manyIn_24 (by decide) ?_
  refine zw_top (y := nI (v / 512)) (pk_div (d := 512) (by omega) (by decide) (by decide)) ?_
  refine zw_iadd dX9_manyIn_25 ?_
  refine zw_top (nI_add ..) ?_
  refine zw_ireturn .int dX9_manyIn_26 rfl rfl (Nat.le_refl _) (Nat.le_refl _) ?_
  exact k
theorem m_priceL {s : Nat} {x : Int32} (h : isM w A I ab be) (hb : I 0 = nI 0) (hs : A 0 (0 + 2) = nI s) (hs4 : s ≤ 4) (hp : ∀ k, k < s → A 0 (0 + (69 + 4 * k + 3)) = nI (mPr A k) ∧ mPr A k ≤ 50) : ∀ (k v a : Nat), k ≤ 4 → v < 4096 → Q (some (.int (nI (prN (mPr A) s k v a)))) w → Zw (d + 1) mX9_priceOf z0 7 [some (.ref 74), some (.int x), some (.int (nI a)), some (.int (nI v)), some (.int (nI k - 1))] [] w Q := by
  intro k
  induction k with
  | zero =>
    intro v a hk hv kk
    refine zw_iload dX9_priceOf_7 rfl ?_
    refine zw_if_lt 64 dX9_priceOf_9 (by decide) (fun _ => ?_) (fun hz => absurd (by decide) hz)
    refine zw_iload_n dX9_priceOf_64 rfl ?_
    refine zw_ireturn .int dX9_priceOf_65 rfl rfl (Nat.le_refl _) (Nat.le_refl _) ?_
    exact kk
  | succ k ih =>
    intro v a hk hv kk
    unfold prN at kk
    rw [nI_pred]
    have fin : ∀ y, nI a + y = nI (a + v % 8 * (if k < s then mPr A k else 100000)) → Zw (d + 1) mX9_priceOf z0 51 [some (.ref 74), some (.int x), some (.int (nI a)), some (.int (nI v)), some (.int (nI k))] [.int y, .int (nI a)] w Q := by
      intro y hy
      refine zw_iadd dX9_priceOf_51 ?_
      refine zw_top (hy) ?_
      refine zw_istore_n [_, _, _, _, _] dX9_priceOf_52 (Nat.le_of_ble_eq_true rfl) rfl ?_
      refine zw_iload_n dX9_priceOf_53 rfl ?_
      refine zw_bipush dX9_priceOf_54 8 (by decide) ?_
      refine zw_idiv dX9_priceOf_56 (by decide) ?_
      refine zw_top (y := nI (v / 8)) (pk_div (d := 8) (by omega) (by decide) (by decide)) ?_
      refine zw_istore_n [_, _, _, _, _] dX9_priceOf_57 (Nat.le_of_ble_eq_true rfl) rfl ?_
      refine zw_iinc (nI k - 1) [_, _, _, _, _] dX9_priceOf_58 rfl (sub_1 _) rfl ?_
      refine zw_goto 7 dX9_priceOf_61 (by decide) ?_
      exact ih (v / 8) _ (by omega) (by omega) kk
    refine zw_iload dX9_priceOf_7 rfl ?_
    refine zw_if_lt 64 dX9_priceOf_9 (by decide) (fun hz => absurd hz (nI_pos (by omega))) (fun _ => ?_)
    refine zw_iload_n dX9_priceOf_12 rfl ?_
    refine zw_iload dX9_priceOf_13 rfl ?_
    refine zw_aload_n dX9_priceOf_15 rfl ?_
    refine zw_iconst dX9_priceOf_16 2 (by decide) ?_
    refine zw_cV1 dX9_priceOf_17 oX9_get kX9_get lX9_62 h.1 rfl (Nat.le_of_ble_eq_true rfl) rfl (m_get (b := 0) (j := 2) h hb (by omega) ?_)
    show Zw _ _ _ 20 [_, _, _, _, _] [_, _, _] _ _
    refine zw_top (hs) ?_
    by_cases e : k < s
    · obtain ⟨p1, p2⟩ := hp k e
      refine zw_icmp_ge 44 dX9_priceOf_20 (by decide) (fun hz => absurd hz (nI_ge e (by omega))) (fun _ => ?_)
      refine zw_iload_n dX9_priceOf_23 rfl ?_
      refine zw_bipush dX9_priceOf_24 8 (by decide) ?_
      refine zw_irem dX9_priceOf_26 (by decide) ?_
      refine zw_top (y := nI (v % 8)) (pk_rem (d := 8) (by omega) (by decide) (by decide)) ?_
      refine zw_aload_n dX9_priceOf_27 rfl ?_
      refine zw_bipush dX9_priceOf_28 69 (by decide) ?_
      refine zw_iconst dX9_priceOf_30 4 (by decide) ?_
      refine zw_iload dX9_priceOf_31 rfl ?_
      refine zw_imul dX9_priceOf_33 ?_
      refine zw_iadd dX9_priceOf_34 ?_
      refine zw_iconst dX9_priceOf_35 3 (by decide) ?_
      refine zw_iadd dX9_priceOf_36 ?_
      refine zw_top (y := nI (69 + 4 * k + 3)) (by rw [← nI_add, ← nI_add, ← pk_mul]; rfl) ?_
      refine zw_cV1 dX9_priceOf_37 oX9_get kX9_get lX9_62 h.1 rfl (Nat.le_of_ble_eq_true rfl) rfl (m_get (b := 0) (j := 69 + 4 * k + 3) h hb (by omega) ?_)
      show Zw _ _ _ 40 [_, _, _, _, _] [_, _, _] _ _
      refine zw_top (p1) ?_
      refine zw_imul dX9_priceOf_40 ?_
      refine zw_top (pk_mul ..) ?_
      refine zw_goto 51 dX9_priceOf_41 (by decide) ?_
      exact fin _ (by rw [if_pos e, nI_add])
    · refine zw_icmp_ge 44 dX9_priceOf_20 (by decide) (fun _ => ?_) (fun hz => absurd (nI_le (by omega) (by omega)) hz)
      refine zw_iload_n dX9_priceOf_44 rfl ?_
      refine zw_bipush dX9_priceOf_45 8 (by decide) ?_
      refine zw_irem dX9_priceOf_47 (by decide) ?_
      refine zw_top (y := nI (v % 8)) (pk_rem (d := 8) (by omega) (by decide) (by decide)) ?_
      refine zw_ldc dX9_priceOf_48 qX9_200 ?_
      refine zw_imul dX9_priceOf_50 ?_
      exact fin _ (by rw [if_neg e, ← nI_add, ← pk_mul]; rfl)
theorem m_priceOf {s v : Nat} (h : isM w A I ab be) (hb : I 0 = nI 0) (hs : A 0 (0 + 2) = nI s) (hs4 : s ≤ 4) (hp : ∀ k, k < s → A 0 (0 + (69 + 4 * k + 3)) = nI (mPr A k) ∧ mPr A k ≤ 50) (hv : v < 4096) (k : Q (some (.int (nI (prN (mPr A) s 4 v 0)))) w) : Zm (d + 1) mX9_priceOf 0 0 [.ref 74, .int (nI v)] w Q := by
  refine zm_intro [_, _, _, _, _] oX9_priceOf (Nat.le_of_ble_eq_true rfl) rfl ?_
  refine zw_iconst dX9_priceOf_0 0 (by decide) ?_
  refine zw_istore_n [_, _, _, _, _] dX9_priceOf_1 (Nat.le_of_ble_eq_true rfl) rfl ?_
  refine zw_iload_n dX9_priceOf_2 rfl ?_
  refine zw_istore_n [_, _, _, _, _] dX9_priceOf_3 (Nat.le_of_ble_eq_true rfl) rfl ?_
  refine zw_iconst dX9_priceOf_4 3 (by decide) ?_
  refine zw_istore [_, _, _, _, _] dX9_priceOf_5 (Nat.le_of_ble_eq_true rfl) rfl ?_
  exact m_priceL h hb hs hs4 hp 4 v 0 (by omega) hv k
theorem m_boI {n kd s : Nat} {w0 : ZW} {R1 : Nat → Bool} (hb : I 0 = nI 0) (hn : A 0 0 = nI n) (hn7 : n ≤ 7) (hs : s < 128) (hk4 : kd < 4) (hkd : ∃ j, j < 6 ∧ A 0 (0 + (69 + 4 * kd)) = nI j) (hK : ∀ w f o3 o4, rep8 R1 f → isM w (va_up A 9 f) I ab be → zOff 74 89 w0 w → Zw (d + 4) mX9_buyOne z0 123 [some (.ref 74), some (.int (nI kd)), some (.int (nI s)), o3, o4] [] w Q) : ∀ (k b : Nat) (R : Nat → Bool) (f : Nat → Int32) (w : ZW) (o4 : Option Value), b + k = n → rep8 R f → R s = true → bR (mFS A kd) s b k R = R1 → isM w (va_up A 9 f) I ab be → zOff 74 89 w0 w → Zw (d + 4) mX9_buyOne z0 9 [some (.ref 74), some (.int (nI kd)), some (.int (nI s)), some (.int (nI b)), o4] [] w Q := by
  intro k
  induction k with
  | zero =>
    intro b R f w o4 hi hR hs1 hE h ho
    have hE : R = R1 := hE
    subst hE
    refine zw_iload_n dX9_buyOne_9 rfl ?_
    refine zw_aload_n dX9_buyOne_10 rfl ?_
    refine zw_iconst dX9_buyOne_11 0 (by decide) ?_
    refine zw_cV1 dX9_buyOne_12 oX9_get kX9_get lX9_62 h.1 rfl (Nat.le_of_ble_eq_true rfl) rfl (m_get (b := 0) (j := 0) h hb (by omega) ?_)
    show Zw _ _ _ 15 [_, _, _, _, _] [_, _] _ _
    refine zw_top (y := nI n) hn ?_
    refine zw_icmp_ge 123 dX9_buyOne_15 (by decide) (fun _ => ?_) (fun hz => absurd (nI_le (by omega) (by omega)) hz)
    exact hK w f _ _ hR h ho
  | succ k ih =>
    intro b R f w o4 hi hR hs1 hE h ho
    unfold bR at hE
    obtain ⟨j, hj, ej⟩ := hkd
    have hin := vp_in_nI (n := s) (N := 128) hs (by decide)
    have ht : s ||| 2 ^ b < 128 := orb_lt (c := 7) hs (by omega)
    have hint := vp_in_nI (n := s ||| 2 ^ b) (N := 128) ht (by decide)
    have hfs : va_up A 9 f 9 s = 1 := by
      have := hR s hs
      rw [hs1] at this
      exact this
    have fin : ∀ v w2, v = (R (s ||| 2 ^ b) || (!s.testBit b && mFS A kd b)) → ∀ o4, w2 = zput w 84 (.inl (2, 128, upd (va_up A 9 f 9) (nI (s ||| 2 ^ b)).toNatClampNeg (vp_nar .boolean (bI v)))) → Zw (d + 4) mX9_buyOne z0 117 [some (.ref 74), some (.int (nI kd)), some (.int (nI s)), some (.int (nI b)), o4] [] w2 Q := by
      intro v w2 hv o4 hw2
      rw [nI_clamp (by omega), nar_b] at hw2
      subst hw2
      refine zw_iinc (nI (b + 1)) [_, _, _, _, _] dX9_buyOne_117 rfl (nI_1 b) rfl ?_
      refine zw_goto 9 dX9_buyOne_120 (by decide) ?_
      refine ih (b + 1) _ _ _ _ (by omega) (fun t ht' => ?_) ?_ hE h.b9 (ho.tr (zOff.pt (by decide) (by decide)))
      · show upd f (s ||| 2 ^ b) (bI v) t = _
        by_cases e : t = s ||| 2 ^ b
        · subst e
          rw [pk_us, hv]
          congr 1
          split
          · next q => rw [q]; unfold bup; simp
          · next q => rw [Bool.eq_false_iff.mpr q]; simp
        · rw [pk_un e, hR t ht']
          congr 1
          split
          · unfold bup; rw [decide_eq_false e]; rfl
          · rfl
      · split
        · unfold bup; rw [hs1]; simp
        · exact hs1
    have mid : ∀ m, m = (!s.testBit b && mFS A kd b) → ∀ o4, Zw (d + 4) mX9_buyOne z0 82 [some (.ref 74), some (.int (nI kd)), some (.int (nI s)), some (.int (nI b)), o4] [.int (bI m)] w Q := by
      intro m hm o4
      refine zw_istore [_, _, _, _, _] dX9_buyOne_82 (Nat.le_of_ble_eq_true rfl) rfl ?_
      refine zw_aload_n dX9_buyOne_84 rfl ?_
      refine zw_get dX9_buyOne_85 fX9_39 h.1 rfl ?_
      refine zw_iload_n dX9_buyOne_88 rfl ?_
      refine zw_iconst dX9_buyOne_89 1 (by decide) ?_
      refine zw_iload_n dX9_buyOne_90 rfl ?_
      refine zw_ishl dX9_buyOne_91 ?_
      refine zw_ior dX9_buyOne_92 ?_
      refine zw_top (orb_I s hs b (by omega)) ?_
      refine zw_aload_n dX9_buyOne_93 rfl ?_
      refine zw_get dX9_buyOne_94 fX9_39 h.1 rfl ?_
      refine zw_iload_n dX9_buyOne_97 rfl ?_
      refine zw_iconst dX9_buyOne_98 1 (by decide) ?_
      refine zw_iload_n dX9_buyOne_99 rfl ?_
      refine zw_ishl dX9_buyOne_100 ?_
      refine zw_ior dX9_buyOne_101 ?_
      refine zw_top (orb_I s hs b (by omega)) ?_
      refine zw_zald dX9_buyOne_102 h.q9 hint ?_
      rw [nI_clamp (by omega)]
      rw [show va_up A 9 f 9 (s ||| 2 ^ b) = bI (R (s ||| 2 ^ b)) from hR _ ht]
      by_cases e1 : R (s ||| 2 ^ b) = true
      · rw [e1]
        refine zw_if_ne 111 dX9_buyOne_103 (by decide) (fun _ => ?_) (fun hz => absurd hz (by decide))
        refine zw_iconst dX9_buyOne_111 1 (by decide) ?_
        refine zw_goto 116 dX9_buyOne_112 (by decide) ?_
        refine zw_zast dX9_buyOne_116 h.q9 hint ?_
        exact fin true _ (by rw [e1]; rfl) _ rfl
      · have e1 : R (s ||| 2 ^ b) = false := by simpa using e1
        rw [e1]
        refine zw_if_ne 111 dX9_buyOne_103 (by decide) (fun hz => absurd (by decide) hz) (fun _ => ?_)
        refine zw_iload dX9_buyOne_106 rfl ?_
        by_cases e2 : m = true
        · rw [e2]
          refine zw_if_eq 115 dX9_buyOne_108 (by decide) (fun hz => absurd hz (by decide)) (fun _ => ?_)
          refine zw_iconst dX9_buyOne_111 1 (by decide) ?_
          refine zw_goto 116 dX9_buyOne_112 (by decide) ?_
          refine zw_zast dX9_buyOne_116 h.q9 hint ?_
          exact fin true _ (by rw [e1, ← hm, e2]; rfl) _ rfl
        · have e2 : m = false := by simpa using e2
          rw [e2]
          refine zw_if_eq 115 dX9_buyOne_108 (by decide) (fun _ => ?_) (fun hz => absurd (by decide) hz)
          refine zw_iconst dX9_buyOne_115 0 (by decide) ?_
          refine zw_zast dX9_buyOne_116 h.q9 hint ?_
          exact fin false _ (by rw [e1, ← hm, e2]; rfl) _ rfl
    refine zw_iload_n dX9_buyOne_9 rfl ?_
    refine zw_aload_n dX9_buyOne_10 rfl ?_
    refine zw_iconst dX9_buyOne_11 0 (by decide) ?_
    refine zw_cV1 dX9_buyOne_12 oX9_get kX9_get lX9_62 h.1 rfl (Nat.le_of_ble_eq_true rfl) rfl (m_get (b := 0) (j := 0) h hb (by omega) ?_)
    show Zw _ _ _ 15 [_, _, _, _, _] [_, _] _ _
    refine zw_top (y := nI n) hn ?_
    refine zw_icmp_ge 123 dX9_buyOne_15 (by decide) (fun hz => absurd hz (nI_ge (by omega) (by omega))) (fun _ => ?_)
    refine zw_aload_n dX9_buyOne_18 rfl ?_
    refine zw_get dX9_buyOne_19 fX9_39 h.1 rfl ?_
    refine zw_iload_n dX9_buyOne_22 rfl ?_
    refine zw_zald dX9_buyOne_23 h.q9 hin ?_
    rw [nI_clamp (by omega), hfs]
    refine zw_if_eq 123 dX9_buyOne_24 (by decide) (fun hz => absurd hz (by decide)) (fun _ => ?_)
    refine zw_iload_n dX9_buyOne_27 rfl ?_
    refine zw_iload_n dX9_buyOne_28 rfl ?_
    refine zw_ishr dX9_buyOne_29 ?_
    refine zw_iconst dX9_buyOne_30 1 (by decide) ?_
    refine zw_iand dX9_buyOne_31 ?_
    refine zw_top (bit_t s hs b (by omega)) ?_
    by_cases e1 : s.testBit b = true
    · have m1 := mid false (by rw [e1]; rfl) o4
      rw [if_pos e1]
      refine zw_if_ne 81 dX9_buyOne_32 (by decide) (fun _ => ?_) (fun hz => absurd hz (by decide))
      refine zw_iconst dX9_buyOne_81 0 (by decide) ?_
      exact m1
    · have e1' : s.testBit b = false := by simpa using e1
      rw [if_neg e1]
      refine zw_if_ne 81 dX9_buyOne_32 (by decide) (fun hz => absurd (rfl) hz) (fun _ => ?_)
      refine zw_aload_n dX9_buyOne_35 rfl ?_
      refine zw_aload_n dX9_buyOne_36 rfl ?_
      refine zw_bipush dX9_buyOne_37 69 (by decide) ?_
      refine zw_iconst dX9_buyOne_39 4 (by decide) ?_
      refine zw_iload_n dX9_buyOne_40 rfl ?_
      refine zw_imul dX9_buyOne_41 ?_
      refine zw_iadd dX9_buyOne_42 ?_
      refine zw_top (y := nI (69 + 4 * kd)) (by rw [← nI_add, ← pk_mul]; rfl) ?_
      refine zw_cV1 dX9_buyOne_43 oX9_get kX9_get lX9_62 h.1 rfl (Nat.le_of_ble_eq_true rfl) rfl (m_get (b := 0) (j := 69 + 4 * kd) h hb (by omega) ?_)
      show Zw _ _ _ 46 [_, _, _, _, _] [_, _] _ _
      refine zw_top (y := nI j) ej ?_
      refine zw_aload_n dX9_buyOne_46 rfl ?_
      refine zw_bipush dX9_buyOne_47 69 (by decide) ?_
      refine zw_iconst dX9_buyOne_49 4 (by decide) ?_
      refine zw_iload_n dX9_buyOne_50 rfl ?_
      refine zw_imul dX9_buyOne_51 ?_
      refine zw_iadd dX9_buyOne_52 ?_
      refine zw_iconst dX9_buyOne_53 1 (by decide) ?_
      refine zw_iadd dX9_buyOne_54 ?_
      refine zw_top (y := nI (69 + 4 * kd + 1)) (by rw [← nI_add, ← nI_add, ← pk_mul]; rfl) ?_
      refine zw_cV1 dX9_buyOne_55 oX9_get kX9_get lX9_62 h.1 rfl (Nat.le_of_ble_eq_true rfl) rfl (m_get (b := 0) (j := 69 + 4 * kd + 1) h hb (by omega) ?_)
      show Zw _ _ _ 58 [_, _, _, _, _] [_, _, _] _ _
      refine zw_aload_n dX9_buyOne_58 rfl ?_
      refine zw_bipush dX9_buyOne_59 69 (by decide) ?_
      refine zw_iconst dX9_buyOne_61 4 (by decide) ?_
      refine zw_iload_n dX9_buyOne_62 rfl ?_
      refine zw_imul dX9_buyOne_63 ?_
      refine zw_iadd dX9_buyOne_64 ?_
      refine zw_iconst dX9_buyOne_65 2 (by decide) ?_
      refine zw_iadd dX9_buyOne_66 ?_
      refine zw_top (y := nI (69 + 4 * kd + 2)) (by rw [← nI_add, ← nI_add, ← pk_mul]; rfl) ?_
      refine zw_cV1 dX9_buyOne_67 oX9_get kX9_get lX9_62 h.1 rfl (Nat.le_of_ble_eq_true rfl) rfl (m_get (b := 0) (j := 69 + 4 * kd + 2) h hb (by omega) ?_)
      show Zw _ _ _ 70 [_, _, _, _, _] [_, _, _, _] _ _
      refine zw_iload_n dX9_buyOne_70 rfl ?_
      refine zw_cV4 dX9_buyOne_71 oX9_fitsAs kX9_fitsAs lX9_87 h.1 rfl (Nat.le_of_ble_eq_true rfl) rfl (m_fitsAs (b := 0) (r := b) hj h hb (by decide) (by omega) ?_)
      show Zw _ _ _ 74 [_, _, _, _, _] [_] _ _
      have em : mFS A kd b = mFit A 0 b (nI j) (A 0 (0 + (69 + 4 * kd + 1))) (A 0 (0 + (69 + 4 * kd + 2))) := by unfold mFS; rw [ej]
      change Zw _ _ _ _ _ [.int (bI (mFit A 0 b (nI j) (A 0 (0 + (69 + 4 * kd + 1))) (A 0 (0 + (69 + 4 * kd + 2)))))] _ _
      rw [← em]
      by_cases e2 : mFS A kd b = true
      · have m1 := mid true (by rw [e1', e2]; rfl) o4
        rw [e2]
        refine zw_if_eq 81 dX9_buyOne_74 (by decide) (fun hz => absurd hz (by decide)) (fun _ => ?_)
        refine zw_iconst dX9_buyOne_77 1 (by decide) ?_
        refine zw_goto 82 dX9_buyOne_78 (by decide) ?_
        exact m1
      · have e2 : mFS A kd b = false := by simpa using e2
        have m1 := mid false (by rw [e1', e2]; rfl) o4
        rw [e2]
        refine zw_if_eq 81 dX9_buyOne_74 (by decide) (fun _ => ?_) (fun hz => absurd (by decide) hz)
        refine zw_iconst dX9_buyOne_81 0 (by decide) ?_
        exact m1
theorem m_boS {n kd : Nat} {w0 : ZW} {R1 : Nat → Bool} (hb : I 0 = nI 0) (hn : A 0 0 = nI n) (hn7 : n ≤ 7) (hk4 : kd < 4) (hkd : ∃ j, j < 6 ∧ A 0 (0 + (69 + 4 * kd)) = nI j) (hK : ∀ w f, rep8 R1 f → isM w (va_up A 9 f) I ab be → zOff 74 89 w0 w → Q none w) : ∀ (k : Nat) (R : Nat → Bool) (f : Nat → Int32) (w : ZW) (o3 o4 : Option Value), k ≤ 128 → rep8 R f → obR (mFS A kd) n k R = R1 → isM w (va_up A 9 f) I ab be → zOff 74 89 w0 w → Zw (d + 4) mX9_buyOne z0 3 [some (.ref 74), some (.int (nI kd)), some (.int (nI k - 1)), o3, o4] [] w Q := by
  intro k
  induction k with
  | zero =>
    intro R f w o3 o4 hi hR hE h ho
    have hE : R = R1 := hE
    subst hE
    refine zw_iload_n dX9_buyOne_3 rfl ?_
    refine zw_if_lt 129 dX9_buyOne_4 (by decide) (fun _ => ?_) (fun hz => absurd (by decide) hz)
    refine zw_return dX9_buyOne_129 rfl (Nat.le_refl _) (Nat.le_refl _) ?_
    exact hK w f hR h ho
  | succ k ih =>
    intro R f w o3 o4 hi hR hE h ho
    unfold obR at hE
    rw [nI_pred]
    have hin := vp_in_nI (n := k) (N := 128) (by omega) (by decide)
    have hK1 : ∀ w f o3 o4 (R2 : Nat → Bool), rep8 R2 f → obR (mFS A kd) n k R2 = R1 → isM w (va_up A 9 f) I ab be → zOff 74 89 w0 w → Zw (d + 4) mX9_buyOne z0 123 [some (.ref 74), some (.int (nI kd)), some (.int (nI k)), o3, o4] [] w Q := by
      intro w f o3 o4 R2 hR2 hE2 h ho
      refine zw_iinc (nI k - 1) [_, _, _, _, _] dX9_buyOne_123 rfl (sub_1 _) rfl ?_
      refine zw_goto 3 dX9_buyOne_126 (by decide) ?_
      exact ih R2 f w _ _ (by omega) hR2 hE2 h ho
    refine zw_iload_n dX9_buyOne_3 rfl ?_
    refine zw_if_lt 129 dX9_buyOne_4 (by decide) (fun hz => absurd hz (nI_pos (by omega))) (fun _ => ?_)
    refine zw_iconst dX9_buyOne_7 0 (by decide) ?_
    refine zw_istore_n [_, _, _, _, _] dX9_buyOne_8 (Nat.le_of_ble_eq_true rfl) rfl ?_
    by_cases hRk : R k = true
    · rw [if_pos hRk] at hE
      exact m_boI hb hn hn7 (by omega) hk4 hkd (fun w f o3 o4 a b c => hK1 w f o3 o4 _ a hE b c) n 0 R f w _ (by omega) hR hRk rfl h ho
    · rw [if_neg hRk] at hE
      have hfs : va_up A 9 f 9 k = 0 := by
        have := hR k (by omega)
        rw [Bool.eq_false_iff.mpr hRk] at this
        exact this
      refine zw_iload_n dX9_buyOne_9 rfl ?_
      refine zw_aload_n dX9_buyOne_10 rfl ?_
      refine zw_iconst dX9_buyOne_11 0 (by decide) ?_
      refine zw_cV1 dX9_buyOne_12 oX9_get kX9_get lX9_62 h.1 rfl (Nat.le_of_ble_eq_true rfl) rfl (m_get (b := 0) (j := 0) h hb (by omega) ?_)
      show Zw _ _ _ 15 [_, _, _, _, _] [_, _] _ _
      refine zw_top (y := nI n) hn ?_
      by_cases h0 : n = 0
      · refine zw_icmp_ge 123 dX9_buyOne_15 (by decide) (fun _ => ?_) (fun hz => absurd (nI_le (b := 0) (by omega) (by omega)) hz)
        exact hK1 w f _ _ R hR hE h ho
      · refine zw_icmp_ge 123 dX9_buyOne_15 (by decide) (fun hz => absurd hz (nI_ge (a := 0) (by omega) (by omega))) (fun _ => ?_)
        refine zw_aload_n dX9_buyOne_18 rfl ?_
        refine zw_get dX9_buyOne_19 fX9_39 h.1 rfl ?_
        refine zw_iload_n dX9_buyOne_22 rfl ?_
        refine zw_zald dX9_buyOne_23 h.q9 hin ?_
        rw [nI_clamp (by omega), hfs]
        refine zw_if_eq 123 dX9_buyOne_24 (by decide) (fun _ => ?_) (fun hz => absurd (rfl) hz)
        exact hK1 w f _ _ R hR hE h ho
theorem m_buyOne {n kd : Nat} {R : Nat → Bool} {f : Nat → Int32} (hb : I 0 = nI 0) (hn : A 0 0 = nI n) (hn7 : n ≤ 7) (hk4 : kd < 4) (hkd : ∃ j, j < 6 ∧ A 0 (0 + (69 + 4 * kd)) = nI j) (hR : rep8 R f) (h : isM w (va_up A 9 f) I ab be) (k : ∀ w' f', rep8 (obR (mFS A kd) n 128 R) f' → isM w' (va_up A 9 f') I ab be → zOff 74 89 w w' → Q none w') : Zm (d + 4) mX9_buyOne 0 0 [.ref 74, .int (nI kd)] w Q := by
  refine zm_intro [_, _, _, _, _] oX9_buyOne (Nat.le_of_ble_eq_true rfl) rfl ?_
  refine zw_bipush dX9_buyOne_0 127 (by decide) ?_
  refine zw_istore_n [_, _, _, _, _] dX9_buyOne_2 (Nat.le_of_ble_eq_true rfl) rfl ?_
  exact m_boS (w0 := w) hb hn hn7 hk4 hkd k 128 R f w _ _ (by omega) hR rfl h zOff.rf
theorem m_enI {n kd : Nat} {x v : Int32} {w0 : ZW} {R1 : Nat → Bool} (hb : I 0 = nI 0) (hn : A 0 0 = nI n) (hn7 : n ≤ 7) (hk4 : kd < 4) (hK : ∀ w f o4, rep8 R1 f → isM w (va_up A 9 f) I ab be → zOff 74 89 w0 w → Zw (d + 5) mX9_isEnough z0 57 [some (.ref 74), some (.int x), some (.int v), some (.int (nI kd)), o4] [] w Q) : ∀ (k : Nat) (R : Nat → Bool) (f : Nat → Int32) (w : ZW), k < 8 → (0 < k → ∃ j, j < 6 ∧ A 0 (0 + (69 + 4 * kd)) = nI j) → rep8 R f → itB (mFS A kd) n k R = R1 → isM w (va_up A 9 f) I ab be → zOff 74 89 w0 w → Zw (d + 5) mX9_isEnough z0 41 [some (.ref 74), some (.int x), some (.int v), some (.int (nI kd)), some (.int (nI k))] [] w Q := by
  intro k
  induction k with
  | zero =>
    intro R f w hi hkd hR hE h ho
    have hE : R = R1 := hE
    subst hE
    refine zw_iload dX9_isEnough_41 rfl ?_
    refine zw_if_le 57 dX9_isEnough_43 (by decide) (fun _ => ?_) (fun hz => absurd (by decide) hz)
    exact hK w f _ hR h ho
  | succ k ih =>
    intro R f w hi hkd hR hE h ho
    unfold itB at hE
    refine zw_iload dX9_isEnough_41 rfl ?_
    refine zw_if_le 57 dX9_isEnough_43 (by decide) (fun hz => absurd hz (nI_nle (by omega) (by omega))) (fun _ => ?_)
    refine zw_aload_n dX9_isEnough_46 rfl ?_
    refine zw_iload_n dX9_isEnough_47 rfl ?_
    refine zw_cV1 dX9_isEnough_48 oX9_buyOne kX9_buyOne lX9_196 h.1 rfl (Nat.le_of_ble_eq_true rfl) rfl (m_buyOne hb hn hn7 hk4 (hkd (by omega)) hR h (fun w1 f1 hR1 h1 o1 => ?_))
    show Zw _ _ _ 51 [_, _, _, _, _] [] _ _
    refine zw_iinc (nI k) [_, _, _, _, _] dX9_isEnough_51 rfl ((sub_1 _).trans (nI_pred k)) rfl ?_
    refine zw_goto 41 dX9_isEnough_54 (by decide) ?_
    exact ih _ f1 w1 (by omega) (fun q => hkd (by omega)) hR1 hE h1 (ho.tr o1)
theorem m_enK {n s : Nat} {x : Int32} {w0 : ZW} {R1 : Nat → Bool} (hb : I 0 = nI 0) (hn : A 0 0 = nI n) (hn7 : n ≤ 7) (hks : ∀ k, k < s → ∃ j, j < 6 ∧ A 0 (0 + (69 + 4 * k)) = nI j) (hK : ∀ w f, rep8 R1 f → isM w (va_up A 9 f) I ab be → zOff 74 89 w0 w → Q (some (.int (bI (R1 (2 ^ n - 1))))) w) : ∀ (k v : Nat) (R : Nat → Bool) (f : Nat → Int32) (w : ZW) (o4 : Option Value), k ≤ 4 → v < 4096 → okE s k v → rep8 R f → enR (mFS A) n k v R = R1 → isM w (va_up A 9 f) I ab be → zOff 74 89 w0 w → Zw (d + 5) mX9_isEnough z0 31 [some (.ref 74), some (.int x), some (.int (nI v)), some (.int (nI k - 1)), o4] [] w Q := by
  have pn := pow_c hn7
  have pn0 : 0 < 2 ^ n := Nat.two_pow_pos n
  intro k
  induction k with
  | zero =>
    intro v R f w o4 hi hv ho4 hR hE h ho
    have hE : R = R1 := hE
    subst hE
    refine zw_iload_n dX9_isEnough_31 rfl ?_
    refine zw_if_lt 68 dX9_isEnough_32 (by decide) (fun _ => ?_) (fun hz => absurd (by decide) hz)
    refine zw_aload_n dX9_isEnough_68 rfl ?_
    refine zw_get dX9_isEnough_69 fX9_39 h.1 rfl ?_
    refine zw_aload_n dX9_isEnough_72 rfl ?_
    refine zw_cV0 dX9_isEnough_73 oX9_boxes kX9_boxes lX9_175 h.1 rfl (Nat.le_of_ble_eq_true rfl) rfl (m_boxes h hb hn hn7 ?_)
    show Zw _ _ _ 76 [_, _, _, _, _] [_, _] _ _
    refine zw_zald dX9_isEnough_76 h.q9 (vp_in_nI (n := 2 ^ n - 1) (N := 128) (by omega) (by decide)) ?_
    rw [nI_clamp (by omega), show va_up A 9 f 9 (2 ^ n - 1) = bI (R (2 ^ n - 1)) from hR _ (by omega)]
    refine zw_ireturn .boolean dX9_isEnough_77 rfl (bI_01 _) (Nat.le_refl _) (Nat.le_refl _) ?_
    exact hK w f hR h ho
  | succ k ih =>
    intro v R f w o4 hi hv hok hR hE h ho
    unfold enR at hE
    obtain ⟨ok1, ok2⟩ := hok
    rw [nI_pred]
    refine zw_iload_n dX9_isEnough_31 rfl ?_
    refine zw_if_lt 68 dX9_isEnough_32 (by decide) (fun hz => absurd hz (nI_pos (by omega))) (fun _ => ?_)
    refine zw_iload_n dX9_isEnough_35 rfl ?_
    refine zw_bipush dX9_isEnough_36 8 (by decide) ?_
    refine zw_irem dX9_isEnough_38 (by decide) ?_
    refine zw_top (y := nI (v % 8)) (pk_rem (d := 8) (by omega) (by decide) (by decide)) ?_
    refine zw_istore [_, _, _, _, _] dX9_isEnough_39 (Nat.le_of_ble_eq_true rfl) rfl ?_
    refine m_enI (w0 := w0) hb hn hn7 (by omega) (fun w1 f1 o4 hR1 h1 o1 => ?_) (v % 8) R f w (by omega) (fun q => hks k (by omega)) hR rfl h ho
    refine zw_iload_n dX9_isEnough_57 rfl ?_
    refine zw_bipush dX9_isEnough_58 8 (by decide) ?_
    refine zw_idiv dX9_isEnough_60 (by decide) ?_
    refine zw_top (y := nI (v / 8)) (pk_div (d := 8) (by omega) (by decide) (by decide)) ?_
    refine zw_istore_n [_, _, _, _, _] dX9_isEnough_61 (Nat.le_of_ble_eq_true rfl) rfl ?_
    refine zw_iinc (nI k - 1) [_, _, _, _, _] dX9_isEnough_62 rfl (sub_1 _) rfl ?_
    refine zw_goto 31 dX9_isEnough_65 (by decide) ?_
    exact ih (v / 8) _ f1 w1 _ (by omega) (by omega) ok2 hR1 hE h1 o1
theorem m_enC {x : Int32} {w0 : ZW} {R : Nat → Bool} (hR8 : rep8 R (A 8)) (hK : ∀ w f o2, rep8 R f → isM w (va_up A 9 f) I ab be → zOff 74 89 w0 w → Zw d mX9_isEnough z0 27 [some (.ref 74), some (.int x), o2, none, none] [] w Q) : ∀ (k i : Nat) (f : Nat → Int32) (w : ZW), i + k = 128 → (∀ s, s < i → f s = bI (R s)) → isM w (va_up A 9 f) I ab be → zOff 74 89 w0 w → Zw d mX9_isEnough z0 2 [some (.ref 74), some (.int x), some (.int (nI i)), none, none] [] w Q := by
  intro k
  induction k with
  | zero =>
    intro i f w hi hf h ho
    refine zw_iload_n dX9_isEnough_2 rfl ?_
    refine zw_sipush dX9_isEnough_3 128 (by decide) ?_
    refine zw_icmp_ge 27 dX9_isEnough_6 (by decide) (fun _ => ?_) (fun hz => absurd (nI_le (a := 128) (by omega) (by omega)) hz)
    exact hK w f _ (fun s hs => hf s (by omega)) h ho
  | succ k ih =>
    intro i f w hi hf h ho
    have hin := vp_in_nI (n := i) (N := 128) (by omega) (by decide)
    refine zw_iload_n dX9_isEnough_2 rfl ?_
    refine zw_sipush dX9_isEnough_3 128 (by decide) ?_
    refine zw_icmp_ge 27 dX9_isEnough_6 (by decide) (fun hz => absurd hz (nI_ge (b := 128) (by omega) (by omega))) (fun _ => ?_)
    refine zw_aload_n dX9_isEnough_9 rfl ?_
    refine zw_get dX9_isEnough_10 fX9_39 h.1 rfl ?_
    refine zw_iload_n dX9_isEnough_13 rfl ?_
    refine zw_aload_n dX9_isEnough_14 rfl ?_
    refine zw_get dX9_isEnough_15 fX9_36 h.1 rfl ?_
    refine zw_iload_n dX9_isEnough_18 rfl ?_
    refine zw_zald dX9_isEnough_19 h.q8 hin ?_
    rw [nI_clamp (by omega), show va_up A 9 f 8 i = bI (R i) from hR8 i (by omega)]
    refine zw_zast dX9_isEnough_20 h.q9 hin ?_
    rw [nI_clamp (by omega), nar_b]
    refine zw_iinc (nI (i + 1)) [_, _, _, _, _] dX9_isEnough_21 rfl (nI_1 i) rfl ?_
    refine zw_goto 2 dX9_isEnough_24 (by decide) ?_
    refine ih (i + 1) _ _ (by omega) (fun s hs => ?_) h.b9 (ho.tr (zOff.pt (by decide) (by decide)))
    by_cases e : s = i
    · subst e; exact pk_us
    · exact (pk_un e).trans (hf s (by omega))
theorem m_isEnough {n s v : Nat} {R : Nat → Bool} (hb : I 0 = nI 0) (hn : A 0 0 = nI n) (hn7 : n ≤ 7) (hks : ∀ k, k < s → ∃ j, j < 6 ∧ A 0 (0 + (69 + 4 * k)) = nI j) (hv : v < 4096) (hok : okE s 4 v) (hR8 : rep8 R (A 8)) (h : isM w A I ab be) (k : ∀ w' f, isM w' (va_up A 9 f) I ab be → zOff 74 89 w w' → Q (some (.int (bI (enR (mFS A) n 4 v R (2 ^ n - 1))))) w') : Zm (d + 5) mX9_isEnough 0 0 [.ref 74, .int (nI v)] w Q := by
  refine zm_intro [_, _, _, _, _] oX9_isEnough (Nat.le_of_ble_eq_true rfl) rfl ?_
  refine zw_iconst dX9_isEnough_0 0 (by decide) ?_
  refine zw_istore_n [_, _, _, _, _] dX9_isEnough_1 (Nat.le_of_ble_eq_true rfl) rfl ?_
  refine m_enC (w0 := w) hR8 (fun w1 f1 o2 hR1 h1 o1 => ?_) 128 0 _ w (by omega) (fun s hs => absurd hs (by omega)) (h.sf 9) zOff.rf
  refine zw_iload_n dX9_isEnough_27 rfl ?_
  refine zw_istore_n [_, _, _, _, _] dX9_isEnough_28 (Nat.le_of_ble_eq_true rfl) rfl ?_
  refine zw_iconst dX9_isEnough_29 3 (by decide) ?_
  refine zw_istore_n [_, _, _, _, _] dX9_isEnough_30 (Nat.le_of_ble_eq_true rfl) rfl ?_
  exact m_enK (w0 := w) (A := A) hb hn hn7 hks (fun w2 f2 hR2 h2 o2 => k w2 f2 h2 o2) 4 v R f1 w1 _ (by omega) hv hok hR1 rfl h1 o1
end ZMOD21
