/-! ===== which lid fits which box; masks ===== -/
def bI (b : Bool) : Int32 := if b = true then 1 else 0
theorem nar_bI (b : Bool) : narrow .boolean (.int (bI b)) = .int (bI b) := by cases b <;> rfl
theorem bI_z {b : Bool} (h : b = false) : bI b = 0 := by subst h; rfl
theorem bI_o {b : Bool} (h : b = true) : bI b = 1 := by subst h; rfl
theorem bI_f {b : Bool} (h : bI b = 0) : b = false := by cases b with
  | false => rfl
  | true => exact absurd h (by decide)
theorem bI_t {b : Bool} (h : ¬ bI b = 0) : b = true := by cases b with
  | true => rfl
  | false => exact absurd rfl h
/-- does a lid (or sort) of kind k, form f, size s fit a box of form bf, size bs, that holds bh -/
def fitSel (k : Int32) (pl wd so : Bool) (bf ls bh : Int32) : Bool :=
  if k = 0 then pl else if k = 1 then wd else if k = 2 then so else if k = 3 then pl && decide (bh ≤ 9) else if k = 4 then pl || (decide (bf = 0) && decide (ls = 1)) else if k = 5 then so || decide (0 < ls) else false
def fitB (k f s bf bs bh : Int32) : Bool :=
  fitSel k (decide (f = bf) && decide (s - bs = 0)) ((decide (f = bf) && decide (s - bs = 0)) || (decide (f = bf) && decide (s - bs = 1))) (((decide (f = bf) && decide (s - bs = 0)) || (decide (f = bf) && decide (s - bs = 1))) || decide (s - bs = 0)) bf (s - bs) bh
theorem t_at0 {d t W R r : Nat} {w : ZW} {q : Nat × (Nat → Int32)} {Q : Option Value → ZW → Prop} (h : isT w t W R q) (hr : r < q.1) (k : Q (some (.int (q.2 (r * W)))) w) : Zm (d + 1) mX6_at 0 0 [.ref t, .int (nI r), .int 0] w Q := t_at (c := 0) h hr (Nat.lt_of_lt_of_le (by decide) h.2.2.2.1) k
section ZFITS
variable {d p : Nat} {w w' : ZW} {C : Nat → Nat × (Nat → Int32)} {q : Nat × (Nat → Int32)} {Q : Option Value → ZW → Prop}
theorem c_rf104 {tt R r b : Nat} {bf ls : Int32} {o pl wd so : Bool} (h : isC w p C) (ht : isT w tt 4 R q) (hr : r < q.1) (hb : b < (C 0).1) (hk : ∃ j, j < 6 ∧ q.2 (r * 4) = nI j) (k : Q (some (.int (bI (fitSel (q.2 (r * 4)) pl wd so bf ls ((C 0).2 (b * 5 + 2)))))) w) : Zw (d + 2) mX1_rowFits z0 104 [some (.ref p), some (.ref tt), some (.int (nI r)), some (.int (nI b)), some (.int bf), some (.int ls), some (.int (bI o)), some (.int (bI pl)), some (.int (bI wd)), some (.int (bI so))] [] w Q := by
  refine zw_aload_n dX1_rowFits_104 rfl ?_
  refine zw_iload_n dX1_rowFits_105 rfl ?_
  refine zw_iconst dX1_rowFits_106 0 (by decide) ?_
  refine zw_cV2 dX1_rowFits_107 oX6_at kX6_at lX1_74 ht.1 rfl (Nat.le_of_ble_eq_true rfl) rfl (t_at0 ht hr ?_)
  show Zw _ _ _ 110 [_, _, _, _, _, _, _, _, _, _] [_] _ _
  obtain ⟨j, hj, e⟩ := hk
  rw [e] at k ⊢
  have h6 : j = 0 ∨ j = 1 ∨ j = 2 ∨ j = 3 ∨ j = 4 ∨ j = 5 := by omega
  rcases h6 with rfl | rfl | rfl | rfl | rfl | rfl
  · refine zw_tableIn 148 dX1_rowFits_110 (by decide) (by decide) (off := 38) (by decide) (by decide) ?_
    refine zw_iload dX1_rowFits_148 rfl ?_
    refine zw_ireturn .boolean dX1_rowFits_150 rfl (nar_bI _) (Nat.le_refl _) (Nat.le_refl _) ?_
    exact k
  · refine zw_tableIn 151 dX1_rowFits_110 (by decide) (by decide) (off := 41) (by decide) (by decide) ?_
    refine zw_iload dX1_rowFits_151 rfl ?_
    refine zw_ireturn .boolean dX1_rowFits_153 rfl (nar_bI _) (Nat.le_refl _) (Nat.le_refl _) ?_
    exact k
  · refine zw_tableIn 154 dX1_rowFits_110 (by decide) (by decide) (off := 44) (by decide) (by decide) ?_
    refine zw_iload dX1_rowFits_154 rfl ?_
    refine zw_ireturn .boolean dX1_rowFits_156 rfl (nar_bI _) (Nat.le_refl _) (Nat.le_refl _) ?_
    exact k
  · refine zw_tableIn 157 dX1_rowFits_110 (by decide) (by decide) (off := 47) (by decide) (by decide) ?_
    have k : Q (some (.int (bI (pl && decide ((C 0).2 (b * 5 + 2) ≤ 9))))) w := k
    refine zw_iload dX1_rowFits_157 rfl ?_
    refine zw_if_eq 180 dX1_rowFits_159 (by decide) (fun hp => ?_) (fun hp => ?_)
    · refine zw_iconst dX1_rowFits_180 0 (by decide) ?_
      refine zw_ireturn .boolean dX1_rowFits_181 rfl rfl (Nat.le_refl _) (Nat.le_refl _) ?_
      rw [bI_f hp] at k
      exact k
    · refine zw_aload_n dX1_rowFits_162 rfl ?_
      refine zw_get dX1_rowFits_163 fX1_14 h.1 rfl ?_
      refine zw_iload_n dX1_rowFits_166 rfl ?_
      refine zw_iconst dX1_rowFits_167 2 (by decide) ?_
      refine zw_cV2 dX1_rowFits_168 oX6_at kX6_at lX1_74 h.2.1.1 rfl (Nat.le_of_ble_eq_true rfl) rfl (t_at (c := 2) h.2.1 hb (by decide) ?_)
      show Zw _ _ _ 171 [_, _, _, _, _, _, _, _, _, _] [_] _ _
      refine zw_bipush dX1_rowFits_171 9 (by decide) ?_
      refine zw_icmp_gt 180 dX1_rowFits_173 (by decide) (fun hh => ?_) (fun hh => ?_)
      · refine zw_iconst dX1_rowFits_180 0 (by decide) ?_
        refine zw_ireturn .boolean dX1_rowFits_181 rfl rfl (Nat.le_refl _) (Nat.le_refl _) ?_
        rw [decide_eq_false (Int32.not_le.mpr hh), Bool.and_false] at k
        exact k
      · refine zw_iconst dX1_rowFits_176 1 (by decide) ?_
        refine zw_goto 181 dX1_rowFits_177 (by decide) ?_
        refine zw_ireturn .boolean dX1_rowFits_181 rfl rfl (Nat.le_refl _) (Nat.le_refl _) ?_
        rw [decide_eq_true (Int32.not_lt.mp hh), bI_t hp] at k
        exact k
  · refine zw_tableIn 182 dX1_rowFits_110 (by decide) (by decide) (off := 72) (by decide) (by decide) ?_
    have k : Q (some (.int (bI (pl || (decide (bf = 0) && decide (ls = 1)))))) w := k
    refine zw_iload dX1_rowFits_182 rfl ?_
    refine zw_if_ne 198 dX1_rowFits_184 (by decide) (fun hp => ?_) (fun hp => ?_)
    · refine zw_iconst dX1_rowFits_198 1 (by decide) ?_
      refine zw_goto 203 dX1_rowFits_199 (by decide) ?_
      refine zw_ireturn .boolean dX1_rowFits_203 rfl rfl (Nat.le_refl _) (Nat.le_refl _) ?_
      rw [bI_t hp] at k
      exact k
    · rw [bI_f hp, Bool.false_or] at k
      refine zw_iload dX1_rowFits_187 rfl ?_
      refine zw_if_ne 202 dX1_rowFits_189 (by decide) (fun hq => ?_) (fun hq => ?_)
      · refine zw_iconst dX1_rowFits_202 0 (by decide) ?_
        refine zw_ireturn .boolean dX1_rowFits_203 rfl rfl (Nat.le_refl _) (Nat.le_refl _) ?_
        rw [decide_eq_false hq] at k
        exact k
      · refine zw_iload dX1_rowFits_192 rfl ?_
        refine zw_iconst dX1_rowFits_194 1 (by decide) ?_
        refine zw_icmp_ne 202 dX1_rowFits_195 (by decide) (fun hl => ?_) (fun hl => ?_)
        · refine zw_iconst dX1_rowFits_202 0 (by decide) ?_
          refine zw_ireturn .boolean dX1_rowFits_203 rfl rfl (Nat.le_refl _) (Nat.le_refl _) ?_
          rw [decide_eq_false hl, Bool.and_false] at k
          exact k
        · refine zw_iconst dX1_rowFits_198 1 (by decide) ?_
          refine zw_goto 203 dX1_rowFits_199 (by decide) ?_
          refine zw_ireturn .boolean dX1_rowFits_203 rfl rfl (Nat.le_refl _) (Nat.le_refl _) ?_
          rw [decide_eq_true hl, decide_eq_true hq] at k
          exact k
  · refine zw_tableIn 204 dX1_rowFits_110 (by decide) (by decide) (off := 94) (by decide) (by decide) ?_
    have k : Q (some (.int (bI (so || decide (0 < ls))))) w := k
    refine zw_iload dX1_rowFits_204 rfl ?_
    refine zw_if_ne 214 dX1_rowFits_206 (by decide) (fun hp => ?_) (fun hp => ?_)
    · refine zw_iconst dX1_rowFits_214 1 (by decide) ?_
      refine zw_goto 219 dX1_rowFits_215 (by decide) ?_
      refine zw_ireturn .boolean dX1_rowFits_219 rfl rfl (Nat.le_refl _) (Nat.le_refl _) ?_
      rw [bI_t hp] at k
      exact k
    · rw [bI_f hp, Bool.false_or] at k
      refine zw_iload dX1_rowFits_209 rfl ?_
      refine zw_if_le 218 dX1_rowFits_211 (by decide) (fun hl => ?_) (fun hl => ?_)
      · refine zw_iconst dX1_rowFits_218 0 (by decide) ?_
        refine zw_ireturn .boolean dX1_rowFits_219 rfl rfl (Nat.le_refl _) (Nat.le_refl _) ?_
        rw [decide_eq_false (Int32.not_lt.mpr hl)] at k
        exact k
      · refine zw_iconst dX1_rowFits_214 1 (by decide) ?_
        refine zw_goto 219 dX1_rowFits_215 (by decide) ?_
        refine zw_ireturn .boolean dX1_rowFits_219 rfl rfl (Nat.le_refl _) (Nat.le_refl _) ?_
        rw [decide_eq_true (Int32.not_le.mp hl)] at k
        exact k
theorem c_rf87 {tt R r b : Nat} {bf ls : Int32} {o pl wd : Bool} (h : isC w p C) (ht : isT w tt 4 R q) (hr : r < q.1) (hb : b < (C 0).1) (hk : ∃ j, j < 6 ∧ q.2 (r * 4) = nI j) (k : Q (some (.int (bI (fitSel (q.2 (r * 4)) pl wd (wd || decide (ls = 0)) bf ls ((C 0).2 (b * 5 + 2)))))) w) : Zw (d + 2) mX1_rowFits z0 87 [some (.ref p), some (.ref tt), some (.int (nI r)), some (.int (nI b)), some (.int bf), some (.int ls), some (.int (bI o)), some (.int (bI pl)), some (.int (bI wd)), none] [] w Q := by
  refine zw_iload dX1_rowFits_87 rfl ?_
  refine zw_if_ne 97 dX1_rowFits_89 (by decide) (fun hp => ?_) (fun hp => ?_)
  · refine zw_iconst dX1_rowFits_97 1 (by decide) ?_
    refine zw_goto 102 dX1_rowFits_98 (by decide) ?_
    refine zw_istore [_, _, _, _, _, _, _, _, _, _] dX1_rowFits_102 (Nat.le_of_ble_eq_true rfl) rfl ?_
    rw [bI_t hp] at k ⊢
    exact c_rf104 (so := true) h ht hr hb hk k
  · refine zw_iload dX1_rowFits_92 rfl ?_
    refine zw_if_ne 101 dX1_rowFits_94 (by decide) (fun hl => ?_) (fun hl => ?_)
    · refine zw_iconst dX1_rowFits_101 0 (by decide) ?_
      refine zw_istore [_, _, _, _, _, _, _, _, _, _] dX1_rowFits_102 (Nat.le_of_ble_eq_true rfl) rfl ?_
      rw [bI_f hp] at k ⊢
      rw [decide_eq_false hl] at k
      exact c_rf104 (so := false) h ht hr hb hk k
    · refine zw_iconst dX1_rowFits_97 1 (by decide) ?_
      refine zw_goto 102 dX1_rowFits_98 (by decide) ?_
      refine zw_istore [_, _, _, _, _, _, _, _, _, _] dX1_rowFits_102 (Nat.le_of_ble_eq_true rfl) rfl ?_
      rw [decide_eq_true hl, Bool.or_true] at k
      exact c_rf104 (so := true) h ht hr hb hk k
theorem c_rf64 {tt R r b : Nat} {bf ls : Int32} {o pl : Bool} (h : isC w p C) (ht : isT w tt 4 R q) (hr : r < q.1) (hb : b < (C 0).1) (hk : ∃ j, j < 6 ∧ q.2 (r * 4) = nI j) (k : Q (some (.int (bI (fitSel (q.2 (r * 4)) pl (pl || (o && decide (ls = 1))) ((pl || (o && decide (ls = 1))) || decide (ls = 0)) bf ls ((C 0).2 (b * 5 + 2)))))) w) : Zw (d + 2) mX1_rowFits z0 64 [some (.ref p), some (.ref tt), some (.int (nI r)), some (.int (nI b)), some (.int bf), some (.int ls), some (.int (bI o)), some (.int (bI pl)), none, none] [] w Q := by
  refine zw_iload dX1_rowFits_64 rfl ?_
  refine zw_if_ne 80 dX1_rowFits_66 (by decide) (fun hp => ?_) (fun hp => ?_)
  · refine zw_iconst dX1_rowFits_80 1 (by decide) ?_
    refine zw_goto 85 dX1_rowFits_81 (by decide) ?_
    refine zw_istore [_, _, _, _, _, _, _, _, _, _] dX1_rowFits_85 (Nat.le_of_ble_eq_true rfl) rfl ?_
    rw [bI_t hp] at k ⊢
    exact c_rf87 (wd := true) h ht hr hb hk k
  · refine zw_iload dX1_rowFits_69 rfl ?_
    refine zw_if_eq 84 dX1_rowFits_71 (by decide) (fun ho => ?_) (fun ho => ?_)
    · refine zw_iconst dX1_rowFits_84 0 (by decide) ?_
      refine zw_istore [_, _, _, _, _, _, _, _, _, _] dX1_rowFits_85 (Nat.le_of_ble_eq_true rfl) rfl ?_
      rw [bI_f hp] at k ⊢
      rw [bI_f ho] at k ⊢
      exact c_rf87 (wd := false) h ht hr hb hk k
    · refine zw_iload dX1_rowFits_74 rfl ?_
      refine zw_iconst dX1_rowFits_76 1 (by decide) ?_
      refine zw_icmp_ne 84 dX1_rowFits_77 (by decide) (fun hl => ?_) (fun hl => ?_)
      · refine zw_iconst dX1_rowFits_84 0 (by decide) ?_
        refine zw_istore [_, _, _, _, _, _, _, _, _, _] dX1_rowFits_85 (Nat.le_of_ble_eq_true rfl) rfl ?_
        rw [bI_f hp] at k ⊢
        rw [decide_eq_false hl, Bool.and_false] at k
        exact c_rf87 (wd := false) h ht hr hb hk k
      · refine zw_iconst dX1_rowFits_80 1 (by decide) ?_
        refine zw_goto 85 dX1_rowFits_81 (by decide) ?_
        refine zw_istore [_, _, _, _, _, _, _, _, _, _] dX1_rowFits_85 (Nat.le_of_ble_eq_true rfl) rfl ?_
        rw [bI_t ho] at k ⊢
        rw [decide_eq_true hl, Bool.and_true, Bool.or_true] at k
        exact c_rf87 (wd := true) h ht hr hb hk k
theorem c_rf47 {tt R r b : Nat} {bf ls : Int32} {o : Bool} (h : isC w p C) (ht : isT w tt 4 R q) (hr : r < q.1) (hb : b < (C 0).1) (hk : ∃ j, j < 6 ∧ q.2 (r * 4) = nI j) (k : Q (some (.int (bI (fitSel (q.2 (r * 4)) (o && decide (ls = 0)) ((o && decide (ls = 0)) || (o && decide (ls = 1))) (((o && decide (ls = 0)) || (o && decide (ls = 1))) || decide (ls = 0)) bf ls ((C 0).2 (b * 5 + 2)))))) w) : Zw (d + 2) mX1_rowFits z0 47 [some (.ref p), some (.ref tt), some (.int (nI r)), some (.int (nI b)), some (.int bf), some (.int ls), some (.int (bI o)), none, none, none] [] w Q := by
  refine zw_iload dX1_rowFits_47 rfl ?_
  refine zw_if_eq 61 dX1_rowFits_49 (by decide) (fun ho => ?_) (fun ho => ?_)
  · refine zw_iconst dX1_rowFits_61 0 (by decide) ?_
    refine zw_istore [_, _, _, _, _, _, _, _, _, _] dX1_rowFits_62 (Nat.le_of_ble_eq_true rfl) rfl ?_
    rw [bI_f ho] at k ⊢
    exact c_rf64 (o := false) (pl := false) h ht hr hb hk k
  · refine zw_iload dX1_rowFits_52 rfl ?_
    refine zw_if_ne 61 dX1_rowFits_54 (by decide) (fun hl => ?_) (fun hl => ?_)
    · refine zw_iconst dX1_rowFits_61 0 (by decide) ?_
      refine zw_istore [_, _, _, _, _, _, _, _, _, _] dX1_rowFits_62 (Nat.le_of_ble_eq_true rfl) rfl ?_
      rw [bI_t ho] at k ⊢
      rw [decide_eq_false hl] at k
      exact c_rf64 (o := true) (pl := false) h ht hr hb hk (by rw [decide_eq_false hl]; exact k)
    · refine zw_iconst dX1_rowFits_57 1 (by decide) ?_
      refine zw_goto 62 dX1_rowFits_58 (by decide) ?_
      refine zw_istore [_, _, _, _, _, _, _, _, _, _] dX1_rowFits_62 (Nat.le_of_ble_eq_true rfl) rfl ?_
      rw [bI_t ho] at k ⊢
      rw [decide_eq_true hl] at k
      exact c_rf64 (o := true) (pl := true) h ht hr hb hk (by rw [decide_eq_true hl]; exact k)
theorem c_rowFits {tt R r b : Nat} (h : isC w p C) (ht : isT w tt 4 R q) (hr : r < q.1) (hb : b < (C 0).1) (hk : ∃ j, j < 6 ∧ q.2 (r * 4) = nI j) (k : Q (some (.int (bI (fitB (q.2 (r * 4)) (q.2 (r * 4 + 1)) (q.2 (r * 4 + 2)) ((C 0).2 (b * 5)) ((C 0).2 (b * 5 + 1)) ((C 0).2 (b * 5 + 2)))))) w) : Zm (d + 2) mX1_rowFits 0 0 [.ref p, .ref tt, .int (nI r), .int (nI b)] w Q := by
  refine zm_intro [_, _, _, _, _, _, _, _, _, _] oX1_rowFits (Nat.le_of_ble_eq_true rfl) rfl ?_
  refine zw_aload_n dX1_rowFits_0 rfl ?_
  refine zw_get dX1_rowFits_1 fX1_14 h.1 rfl ?_
  refine zw_iload_n dX1_rowFits_4 rfl ?_
  refine zw_iconst dX1_rowFits_5 0 (by decide) ?_
  refine zw_cV2 dX1_rowFits_6 oX6_at kX6_at lX1_74 h.2.1.1 rfl (Nat.le_of_ble_eq_true rfl) rfl (t_at0 h.2.1 hb ?_)
  show Zw _ _ _ 9 [_, _, _, _, _, _, _, _, _, _] [_] _ _
  refine zw_istore [_, _, _, _, _, _, _, _, _, _] dX1_rowFits_9 (Nat.le_of_ble_eq_true rfl) rfl ?_
  refine zw_aload_n dX1_rowFits_11 rfl ?_
  refine zw_iload_n dX1_rowFits_12 rfl ?_
  refine zw_iconst dX1_rowFits_13 2 (by decide) ?_
  refine zw_cV2 dX1_rowFits_14 oX6_at kX6_at lX1_74 ht.1 rfl (Nat.le_of_ble_eq_true rfl) rfl (t_at (c := 2) ht hr (by decide) ?_)
  show Zw _ _ _ 17 [_, _, _, _, _, _, _, _, _, _] [_] _ _
  refine zw_aload_n dX1_rowFits_17 rfl ?_
  refine zw_get dX1_rowFits_18 fX1_14 h.1 rfl ?_
  refine zw_iload_n dX1_rowFits_21 rfl ?_
  refine zw_iconst dX1_rowFits_22 1 (by decide) ?_
  refine zw_cV2 dX1_rowFits_23 oX6_at kX6_at lX1_74 h.2.1.1 rfl (Nat.le_of_ble_eq_true rfl) rfl (t_at (c := 1) h.2.1 hb (by decide) ?_)
  show Zw _ _ _ 26 [_, _, _, _, _, _, _, _, _, _] [_, _] _ _
  refine zw_isub dX1_rowFits_26 ?_
  refine zw_istore [_, _, _, _, _, _, _, _, _, _] dX1_rowFits_27 (Nat.le_of_ble_eq_true rfl) rfl ?_
  refine zw_aload_n dX1_rowFits_29 rfl ?_
  refine zw_iload_n dX1_rowFits_30 rfl ?_
  refine zw_iconst dX1_rowFits_31 1 (by decide) ?_
  refine zw_cV2 dX1_rowFits_32 oX6_at kX6_at lX1_74 ht.1 rfl (Nat.le_of_ble_eq_true rfl) rfl (t_at (c := 1) ht hr (by decide) ?_)
  show Zw _ _ _ 35 [_, _, _, _, _, _, _, _, _, _] [_] _ _
  refine zw_iload dX1_rowFits_35 rfl ?_
  unfold fitB at k
  refine zw_icmp_ne 44 dX1_rowFits_37 (by decide) (fun he => ?_) (fun he => ?_)
  · refine zw_iconst dX1_rowFits_44 0 (by decide) ?_
    refine zw_istore [_, _, _, _, _, _, _, _, _, _] dX1_rowFits_45 (Nat.le_of_ble_eq_true rfl) rfl ?_
    rw [decide_eq_false he] at k
    exact c_rf47 (o := false) h ht hr hb hk k
  · refine zw_iconst dX1_rowFits_40 1 (by decide) ?_
    refine zw_goto 45 dX1_rowFits_41 (by decide) ?_
    refine zw_istore [_, _, _, _, _, _, _, _, _, _] dX1_rowFits_45 (Nat.le_of_ble_eq_true rfl) rfl ?_
    rw [decide_eq_true he] at k
    exact c_rf47 (o := true) h ht hr hb hk k
end ZFITS
