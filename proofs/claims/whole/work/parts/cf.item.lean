/-! ===== read: one item, by the Model ===== -/
theorem mp_lo {A : Nat → Nat → Int32} {b i j : Nat} {v : Int32} (h : j < b) : mp A b i v 0 j = A 0 j := by
  show upd (A 0) (b + i) v j = A 0 j
  exact pk_un (by omega)
theorem shA_below {b j : Nat} (hj : j < b) : ∀ (k i : Nat) (A : Nat → Nat → Int32), shA A b i k 0 j = A 0 j := by
  intro k
  induction k with
  | zero => intro i A; rfl
  | succ k ih => intro i A; unfold shA; rw [ih, mp_lo hj]
theorem kn2_below {b j u : Nat} (hj : j < b) : ∀ (k i : Nat) (A : Nat → Nat → Int32), kn2 A b u i k 0 j = A 0 j := by
  intro k
  induction k with
  | zero => intro i A; rfl
  | succ k ih => intro i A; unfold kn2; rw [ih, mp_lo hj]
theorem knA_below {A : Nat → Nat → Int32} {b u n j : Nat} (hj : j < b) : knA A b u n 0 j = A 0 j := by
  unfold knA kn3
  rw [mp_lo hj, kn2_below hj]
  unfold kn1
  split
  · rw [mp_lo hj, shA_below hj]
  · rfl
/-- the cells from 651 on, as if they began at 0 -/
def shB (A : Nat → Nat → Int32) : Nat → Nat → Int32 := fun r j => if r = 0 then A 0 (651 + j) else 0
section ZITEM
variable {d : Nat} {w w' : ZW} {A : Nat → Nat → Int32} {I : Nat → Int32} {ab be : Int64} {Q : Option Value → ZW → Prop} {D D' : Cup}
theorem LR_sh (hr : rel D (vw A 651)) : LR D D D 0 (fun _ => 0) 0 0 0 0 (shB A) (fun _ => 0) := by
  have e : vw (shB A) 0 = vw A 651 := by
    funext j
    show A 0 (651 + (0 + j)) = A 0 (651 + j)
    rw [Nat.zero_add]
  refine ⟨rfl, by decide, by rw [e]; exact hr, ⟨rfl, rfl⟩, fun h => absurd h (by decide), fun h => absurd h (by decide), ⟨rfl, rfl, rfl⟩, rfl, by decide, fun i hi => absurd hi (Nat.not_lt_zero _)⟩
theorem sh_B {r c : Nat} : mB (shB A) 0 r c = mB A 651 r c := by
  show A 0 (651 + (0 + (6 + 5 * r + c))) = A 0 (651 + (6 + 5 * r + c))
  rw [Nat.zero_add]
theorem sh_L {r c : Nat} : mLd (shB A) 0 r c = mLd A 651 r c := by
  show A 0 (651 + (0 + (41 + 4 * r + c))) = A 0 (651 + (41 + 4 * r + c))
  rw [Nat.zero_add]
theorem sh_F {r : Nat} {k f s : Int32} : mFit (shB A) 0 r k f s = mFit A 651 r k f s := by
  unfold mFit mPl
  rw [sh_B, sh_B, sh_B]
theorem m_item {wd : Nat} {nm : Nat → Int32} {v : Int32} (h : isM w A I ab be) (hb : I 0 = nI 651) (hr : rel D (vw A 651)) (ht : telR D wd nm v D') (hn : ∀ i, i < dueN wd → A 4 i = nm i) (k : ∀ w' A', rel D' (vw A' 651) → (∀ j, j < 651 → A' 0 j = A 0 j) → (∀ r, ¬ r = 0 → A' r = A r) → isM w' A' I ab be → zOff 74 89 w w' → Q (some (.int v)) w') : Zm (d + 6) mX9_doItem 0 0 [.ref 74, .int (nI wd)] w Q := by
  have hl := LR_sh hr
  obtain ⟨b0, b1, b2, b3, b4, b5⟩ := hr.1
  obtain ⟨c0, c1, c2, c3, c4, c5⟩ := hr.2.1
  have same := k w A
  rcases ht with ⟨rfl, ht⟩ | ⟨rfl, ht⟩ | ⟨rfl, ht⟩ | ⟨rfl, ht⟩ | ⟨rfl, ht⟩
  · refine zm_intro [_, _] oX9_doItem (Nat.le_of_ble_eq_true rfl) rfl ?_
    refine zw_iload_n dX9_doItem_0 rfl ?_
    refine zw_tableIn 32 dX9_doItem_1 (by decide) (by decide) (off := 31) (by decide) (by decide) ?_
    refine zw_aload_n dX9_doItem_32 rfl ?_
    refine zw_aload_n dX9_doItem_33 rfl ?_
    refine zw_get dX9_doItem_34 fX9_24 h.1 rfl ?_
    refine zw_iconst dX9_doItem_37 0 (by decide) ?_
    refine zw_iald dX9_doItem_38 h.q4 (vp_in_nI (n := 0) (N := 4) (by decide) (by decide)) ?_
    refine zw_top (y := nm 0) (hn 0 (by decide)) ?_
    refine zw_aload_n dX9_doItem_39 rfl ?_
    refine zw_get dX9_doItem_40 fX9_24 h.1 rfl ?_
    refine zw_iconst dX9_doItem_43 1 (by decide) ?_
    refine zw_iald dX9_doItem_44 h.q4 (vp_in_nI (n := 1) (N := 4) (by decide) (by decide)) ?_
    refine zw_top (y := nm 1) (hn 1 (by decide)) ?_
    refine zw_aload_n dX9_doItem_45 rfl ?_
    refine zw_get dX9_doItem_46 fX9_24 h.1 rfl ?_
    refine zw_iconst dX9_doItem_49 2 (by decide) ?_
    refine zw_iald dX9_doItem_50 h.q4 (vp_in_nI (n := 2) (N := 4) (by decide) (by decide)) ?_
    refine zw_top (y := nm 2) (hn 2 (by decide)) ?_
    refine zw_cV3 dX9_doItem_51 oX9_addBox kX9_addBox lX9_108 h.1 rfl (Nat.le_of_ble_eq_true rfl) rfl (m_addBox h hb (by decide) c0 b0 (fun q => ?_) (fun q q2 => ?_) (fun q q2 w1 h1 o1 => ?_))
    · refine zw_ireturn .int dX9_doItem_54 rfl rfl (Nat.le_refl _) (Nat.le_refl _) ?_
      rcases ht with ⟨_, rfl, rfl⟩ | ⟨z, _⟩ | ⟨z, _⟩
      · exact same hr (fun _ _ => rfl) (fun _ _ => rfl) h zOff.rf
      · exact absurd z q
      · exact absurd z q
    · refine zw_ireturn .int dX9_doItem_54 rfl rfl (Nat.le_refl _) (Nat.le_refl _) ?_
      rcases ht with ⟨z, _⟩ | ⟨_, _, rfl, rfl⟩ | ⟨_, z, _⟩
      · exact absurd q z
      · exact same hr (fun _ _ => rfl) (fun _ _ => rfl) h zOff.rf
      · omega
    · refine zw_ireturn .int dX9_doItem_54 rfl rfl (Nat.le_refl _) (Nat.le_refl _) ?_
      rcases ht with ⟨z, _⟩ | ⟨_, z, _⟩ | ⟨_, _, rfl, rfl⟩
      · exact absurd q z
      · omega
      · refine k w1 _ ?_ (fun j hj => by rw [mp_lo hj, mp_lo hj, mp_lo hj, mp_lo hj, mp_lo hj, mp_lo hj, mp_lo hj]) (fun r hr' => by rw [mp_row hr', mp_row hr', mp_row hr', mp_row hr', mp_row hr', mp_row hr', mp_row hr']) h1 o1
        rw [vw_mp, vw_mp, vw_mp, vw_mp, vw_mp, vw_mp, vw_mp]
        exact rx_box hr q q2
  · refine zm_intro [_, _] oX9_doItem (Nat.le_of_ble_eq_true rfl) rfl ?_
    refine zw_iload_n dX9_doItem_0 rfl ?_
    refine zw_tableIn 55 dX9_doItem_1 (by decide) (by decide) (off := 54) (by decide) (by decide) ?_
    refine zw_aload_n dX9_doItem_55 rfl ?_
    refine zw_aload_n dX9_doItem_56 rfl ?_
    refine zw_get dX9_doItem_57 fX9_24 h.1 rfl ?_
    refine zw_iconst dX9_doItem_60 0 (by decide) ?_
    refine zw_iald dX9_doItem_61 h.q4 (vp_in_nI (n := 0) (N := 4) (by decide) (by decide)) ?_
    refine zw_top (y := nm 0) (hn 0 (by decide)) ?_
    refine zw_aload_n dX9_doItem_62 rfl ?_
    refine zw_get dX9_doItem_63 fX9_24 h.1 rfl ?_
    refine zw_iconst dX9_doItem_66 1 (by decide) ?_
    refine zw_iald dX9_doItem_67 h.q4 (vp_in_nI (n := 1) (N := 4) (by decide) (by decide)) ?_
    refine zw_top (y := nm 1) (hn 1 (by decide)) ?_
    refine zw_aload_n dX9_doItem_68 rfl ?_
    refine zw_get dX9_doItem_69 fX9_24 h.1 rfl ?_
    refine zw_iconst dX9_doItem_72 2 (by decide) ?_
    refine zw_iald dX9_doItem_73 h.q4 (vp_in_nI (n := 2) (N := 4) (by decide) (by decide)) ?_
    refine zw_top (y := nm 2) (hn 2 (by decide)) ?_
    refine zw_cV3 dX9_doItem_74 oX9_addLid kX9_addLid lX9_112 h.1 rfl (Nat.le_of_ble_eq_true rfl) rfl (m_addLid h hb (by decide) c1 b1 (fun q => ?_) (fun q q2 => ?_) (fun q q2 w1 h1 o1 => ?_))
    · refine zw_ireturn .int dX9_doItem_77 rfl rfl (Nat.le_refl _) (Nat.le_refl _) ?_
      rcases ht with ⟨_, rfl, rfl⟩ | ⟨z, _⟩ | ⟨z, _⟩
      · exact same hr (fun _ _ => rfl) (fun _ _ => rfl) h zOff.rf
      · exact absurd z q
      · exact absurd z q
    · refine zw_ireturn .int dX9_doItem_77 rfl rfl (Nat.le_refl _) (Nat.le_refl _) ?_
      rcases ht with ⟨z, _⟩ | ⟨_, _, rfl, rfl⟩ | ⟨_, z, _⟩
      · exact absurd q z
      · exact same hr (fun _ _ => rfl) (fun _ _ => rfl) h zOff.rf
      · omega
    · refine zw_ireturn .int dX9_doItem_77 rfl rfl (Nat.le_refl _) (Nat.le_refl _) ?_
      rcases ht with ⟨z, _⟩ | ⟨_, z, _⟩ | ⟨_, _, rfl, rfl⟩
      · exact absurd q z
      · omega
      · refine k w1 _ ?_ (fun j hj => by rw [mp_lo hj, mp_lo hj, mp_lo hj, mp_lo hj, mp_lo hj, mp_lo hj]) (fun r hr' => by rw [mp_row hr', mp_row hr', mp_row hr', mp_row hr', mp_row hr', mp_row hr']) h1 o1
        rw [vw_mp, vw_mp, vw_mp, vw_mp, vw_mp, vw_mp]
        exact rx_lid hr q q2
  · refine zm_intro [_, _] oX9_doItem (Nat.le_of_ble_eq_true rfl) rfl ?_
    refine zw_iload_n dX9_doItem_0 rfl ?_
    refine zw_tableIn 78 dX9_doItem_1 (by decide) (by decide) (off := 77) (by decide) (by decide) ?_
    refine zw_aload_n dX9_doItem_78 rfl ?_
    refine zw_aload_n dX9_doItem_79 rfl ?_
    refine zw_get dX9_doItem_80 fX9_24 h.1 rfl ?_
    refine zw_iconst dX9_doItem_83 0 (by decide) ?_
    refine zw_iald dX9_doItem_84 h.q4 (vp_in_nI (n := 0) (N := 4) (by decide) (by decide)) ?_
    refine zw_top (y := nm 0) (hn 0 (by decide)) ?_
    refine zw_aload_n dX9_doItem_85 rfl ?_
    refine zw_get dX9_doItem_86 fX9_24 h.1 rfl ?_
    refine zw_iconst dX9_doItem_89 1 (by decide) ?_
    refine zw_iald dX9_doItem_90 h.q4 (vp_in_nI (n := 1) (N := 4) (by decide) (by decide)) ?_
    refine zw_top (y := nm 1) (hn 1 (by decide)) ?_
    have inj7 : ∀ i j, i < 7 → j < 7 → nI i = nI j → i = j := fun i j hi hj e => (nI_eq (by omega) (by omega)).mp e
    have hk : ∀ i, i < (D 1).1 → ∃ j, j < 6 ∧ mLd A 651 i 0 = nI j := fun i hi => by rw [← sh_L]; exact hl.mk i hi
    have hund : ∀ i, i < (D 1).1 → lstF (fun r => decide (mB A 651 r 4 = nI i)) 0 (D 0).1 (-1) = onBox D (nI i) := fun i hi => by
      have := hl.und hi
      rw [← this]
      congr 1
      funext r
      rw [sh_B]
    have hfit : ∀ i r, i < (D 1).1 → r < (D 0).1 → mFit A 651 r (mLd A 651 i 0) (mLd A 651 i 1) (mLd A 651 i 2) = cFit D i r := fun i r hi hr' => by
      rw [← hl.fit hi hr', sh_F, sh_L, sh_L, sh_L]
    have hbox : ∀ r, r < (D 0).1 → mB A 651 r 4 = (D 0).2 (r * 5 + 4) := fun r hr' => by rw [← sh_B]; exact hl.box hr' (by decide)
    refine zw_cV2 dX9_doItem_91 oX9_putOn kX9_putOn lX9_115 h.1 rfl (Nat.le_of_ble_eq_true rfl) rfl (m_putOn h hb (by decide) c0 b0 c1 b1 c5 b5 hk (fun q => ?_) (fun i r hi hr' ei er z => ?_) (fun i r hi hr' ei er z1 z2 z3 w1 h1 o1 => ?_))
    · refine zw_ireturn .int dX9_doItem_94 rfl rfl (Nat.le_refl _) (Nat.le_refl _) ?_
      rcases ht with ⟨_, rfl, rfl⟩ | ⟨l, b, g1, g2, g3, g4, _⟩ | ⟨l, b, _, g1, g2, g3, g4, _⟩
      · exact same hr (fun _ _ => rfl) (fun _ _ => rfl) h zOff.rf
      · exact absurd q (fun z => z.elim (fun z => z l g1 g3) (fun z => z b g2 g4))
      · exact absurd q (fun z => z.elim (fun z => z l g1 g3) (fun z => z b g2 g4))
    · refine zw_ireturn .int dX9_doItem_94 rfl rfl (Nat.le_refl _) (Nat.le_refl _) ?_
      rcases ht with ⟨q, _⟩ | ⟨l, b, g1, g2, g3, g4, _, rfl, rfl⟩ | ⟨l, b, _, g1, g2, g3, g4, y1, y2, y3, _⟩
      · exact absurd q (fun q => q.elim (fun q => q i hi ei) (fun q => q r hr' er))
      · exact same hr (fun _ _ => rfl) (fun _ _ => rfl) h zOff.rf
      · have e1 := inj7 i l (by omega) (by omega) (ei.symm.trans g3)
        have e2 := inj7 r b (by omega) (by omega) (er.symm.trans g4)
        subst e1
        subst e2
        exact absurd ⟨(hfit i r hi hr').trans y1, (hund i hi).trans y2, (hbox r hr').trans y3⟩ z
    · refine zw_ireturn .int dX9_doItem_94 rfl rfl (Nat.le_refl _) (Nat.le_refl _) ?_
      rcases ht with ⟨q, _⟩ | ⟨l, b, g1, g2, g3, g4, y, _⟩ | ⟨l, b, q', g1, g2, g3, g4, q1, q2, q3, rfl, hq', rfl⟩
      · exact absurd q (fun q => q.elim (fun q => q i hi ei) (fun q => q r hr' er))
      · have e1 := inj7 i l (by omega) (by omega) (ei.symm.trans g3)
        have e2 := inj7 r b (by omega) (by omega) (er.symm.trans g4)
        subst e1
        subst e2
        exact absurd ⟨(hfit i r hi hr').symm.trans z1, (hund i hi).symm.trans z2, (hbox r hr').symm.trans z3⟩ y
      · have e1 := inj7 i l (by omega) (by omega) (ei.symm.trans g3)
        have e2 := inj7 r b (by omega) (by omega) (er.symm.trans g4)
        subst e1
        subst e2
        refine k w1 _ ?_ (fun j hj => by rw [mp_lo hj, knA_below hj]) (fun r hr' => by rw [mp_row hr', knA_row hr']) h1 o1
        rw [vw_mp]
        have cu : ∀ s, s < (D 0).1 → onS (vw A 651) (D 5).1 (D 5).1 s = (D 0).2 (s * 5 + 4) := fun s hs => onS_cur.trans (hbox s hs)
        refine rx_on (k := r) (v := nI i) hr hr' (knA_view b5 b0) hq' ⟨i, r, hi, hr', rfl, rfl, Or.inl ⟨rfl, (cu r hr').trans q3, fun _ _ => rfl⟩⟩ ⟨fun s hs => ?_, fun s t hs ht he hne => ?_⟩
        · by_cases e : s = r
          · exact Or.inr ⟨i, hi, if_pos e⟩
          · show (if s = r then nI i else onS (vw A 651) (D 5).1 (D 5).1 s) = -1 ∨ ∃ j, j < (D 1).1 ∧ (if s = r then nI i else onS (vw A 651) (D 5).1 (D 5).1 s) = nI j
            rw [if_neg e, cu s hs]
            exact hl.cur.1 s hs
        · have he : (if s = r then nI i else onS (vw A 651) (D 5).1 (D 5).1 s) = (if t = r then nI i else onS (vw A 651) (D 5).1 (D 5).1 t) := he
          have hne : ¬ (if s = r then nI i else onS (vw A 651) (D 5).1 (D 5).1 s) = -1 := hne
          have no := onBox_none q2 b0
          by_cases e : s = r
          · by_cases e' : t = r
            · rw [e, e']
            · rw [if_pos e, if_neg e', cu t ht] at he
              exact absurd he.symm (no t ht)
          · by_cases e' : t = r
            · rw [if_neg e, if_pos e', cu s hs] at he
              exact absurd he (no s hs)
            · rw [if_neg e, if_neg e', cu s hs, cu t ht] at he
              rw [if_neg e, cu s hs] at hne
              exact hl.cur.2 s t hs ht he hne
  · refine zm_intro [_, _] oX9_doItem (Nat.le_of_ble_eq_true rfl) rfl ?_
    refine zw_iload_n dX9_doItem_0 rfl ?_
    refine zw_tableIn 95 dX9_doItem_1 (by decide) (by decide) (off := 94) (by decide) (by decide) ?_
    refine zw_aload_n dX9_doItem_95 rfl ?_
    refine zw_aload_n dX9_doItem_96 rfl ?_
    refine zw_get dX9_doItem_97 fX9_24 h.1 rfl ?_
    refine zw_iconst dX9_doItem_100 0 (by decide) ?_
    refine zw_iald dX9_doItem_101 h.q4 (vp_in_nI (n := 0) (N := 4) (by decide) (by decide)) ?_
    refine zw_top (y := nm 0) (hn 0 (by decide)) ?_
    refine zw_aload_n dX9_doItem_102 rfl ?_
    refine zw_get dX9_doItem_103 fX9_24 h.1 rfl ?_
    refine zw_iconst dX9_doItem_106 1 (by decide) ?_
    refine zw_iald dX9_doItem_107 h.q4 (vp_in_nI (n := 1) (N := 4) (by decide) (by decide)) ?_
    refine zw_top (y := nm 1) (hn 1 (by decide)) ?_
    refine zw_cV2 dX9_doItem_108 oX9_setGrasp kX9_setGrasp lX9_122 h.1 rfl (Nat.le_of_ble_eq_true rfl) rfl (m_setGrasp h hb (by decide) c0 b0 (fun q => ?_) (fun r hr' er y0 y9 w1 h1 o1 => ?_))
    · refine zw_ireturn .int dX9_doItem_111 rfl rfl (Nat.le_refl _) (Nat.le_refl _) ?_
      rcases ht with ⟨_, rfl, rfl⟩ | ⟨r, g1, g2, g3, g4, _⟩
      · exact same hr (fun _ _ => rfl) (fun _ _ => rfl) h zOff.rf
      · exact absurd q (fun z => z.elim (fun z => z r g1 g2) (fun z => z ⟨g3, g4⟩))
    · refine zw_ireturn .int dX9_doItem_111 rfl rfl (Nat.le_refl _) (Nat.le_refl _) ?_
      rcases ht with ⟨q, _⟩ | ⟨r2, g1, g2, g3, g4, rfl, rfl⟩
      · exact absurd q (fun z => z.elim (fun z => z r hr' er) (fun z => z ⟨y0, y9⟩))
      · have e2 : r = r2 := (nI_eq (by omega) (by omega)).mp (er.symm.trans g2)
        subst e2
        have e3 : mB A 651 r 3 = (D 0).2 (r * 5 + 3) := by rw [← sh_B]; exact hl.box hr' (by decide)
        rw [e3]
        refine k w1 _ ?_ (fun j hj => by rw [mp_lo hj]) (fun r hr' => by rw [mp_row hr']) h1 o1
        rw [vw_mp]
        exact rx_grasp hr hr' y0 y9
  · refine zm_intro [_, _] oX9_doItem (Nat.le_of_ble_eq_true rfl) rfl ?_
    refine zw_iload_n dX9_doItem_0 rfl ?_
    refine zw_tableOut 112 dX9_doItem_1 (Or.inr (by decide)) (by decide) ?_
    refine zw_aload_n dX9_doItem_112 rfl ?_
    refine zw_aload_n dX9_doItem_113 rfl ?_
    refine zw_get dX9_doItem_114 fX9_24 h.1 rfl ?_
    refine zw_iconst dX9_doItem_117 0 (by decide) ?_
    refine zw_iald dX9_doItem_118 h.q4 (vp_in_nI (n := 0) (N := 4) (by decide) (by decide)) ?_
    refine zw_top (y := nm 0) (hn 0 (by decide)) ?_
    refine zw_aload_n dX9_doItem_119 rfl ?_
    refine zw_get dX9_doItem_120 fX9_24 h.1 rfl ?_
    refine zw_iconst dX9_doItem_123 1 (by decide) ?_
    refine zw_iald dX9_doItem_124 h.q4 (vp_in_nI (n := 1) (N := 4) (by decide) (by decide)) ?_
    refine zw_top (y := nm 1) (hn 1 (by decide)) ?_
    refine zw_aload_n dX9_doItem_125 rfl ?_
    refine zw_get dX9_doItem_126 fX9_24 h.1 rfl ?_
    refine zw_iconst dX9_doItem_129 2 (by decide) ?_
    refine zw_iald dX9_doItem_130 h.q4 (vp_in_nI (n := 2) (N := 4) (by decide) (by decide)) ?_
    refine zw_top (y := nm 2) (hn 2 (by decide)) ?_
    refine zw_aload_n dX9_doItem_131 rfl ?_
    refine zw_get dX9_doItem_132 fX9_24 h.1 rfl ?_
    refine zw_iconst dX9_doItem_135 3 (by decide) ?_
    refine zw_iald dX9_doItem_136 h.q4 (vp_in_nI (n := 3) (N := 4) (by decide) (by decide)) ?_
    refine zw_top (y := nm 3) (hn 3 (by decide)) ?_
    refine zw_cV4 dX9_doItem_137 oX9_addSort kX9_addSort lX9_125 h.1 rfl (Nat.le_of_ble_eq_true rfl) rfl (m_addSort h hb (by decide) c2 b2 (fun q => ?_) (fun q q2 => ?_) (fun q q2 w1 h1 o1 => ?_))
    · refine zw_ireturn .int dX9_doItem_140 rfl rfl (Nat.le_refl _) (Nat.le_refl _) ?_
      rcases ht with ⟨_, rfl, rfl⟩ | ⟨z, _⟩ | ⟨z, _⟩
      · exact same hr (fun _ _ => rfl) (fun _ _ => rfl) h zOff.rf
      · exact absurd z q
      · exact absurd z q
    · refine zw_ireturn .int dX9_doItem_140 rfl rfl (Nat.le_refl _) (Nat.le_refl _) ?_
      rcases ht with ⟨z, _⟩ | ⟨_, _, rfl, rfl⟩ | ⟨_, z, _⟩
      · exact absurd q z
      · exact same hr (fun _ _ => rfl) (fun _ _ => rfl) h zOff.rf
      · omega
    · refine zw_ireturn .int dX9_doItem_140 rfl rfl (Nat.le_refl _) (Nat.le_refl _) ?_
      rcases ht with ⟨z, _⟩ | ⟨_, z, _⟩ | ⟨_, _, rfl, rfl⟩
      · exact absurd q z
      · omega
      · refine k w1 _ ?_ (fun j hj => by rw [mp_lo hj, mp_lo hj, mp_lo hj, mp_lo hj, mp_lo hj]) (fun r hr' => by rw [mp_row hr', mp_row hr', mp_row hr', mp_row hr', mp_row hr']) h1 o1
        rw [vw_mp, vw_mp, vw_mp, vw_mp, vw_mp]
        exact rx_sort hr q q2
end ZITEM
