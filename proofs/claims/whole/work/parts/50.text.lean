/-! ===== String constants, and the JDK's methods on them ===== -/
set_option maxRecDepth 20000 in
theorem fs_compact : Cond.fieldLink RJ0 38 "java/lang/String" "COMPACT_STRINGS" "Z" ∈ zT := zT_of 544 rfl rfl
set_option maxRecDepth 20000 in
theorem fs_fmt : Cond.fieldLink RJ0 1053 "jdk/internal/util/Preconditions" "SIOOBE_FORMATTER" "Ljava/util/function/BiFunction;" ∈ zT := zT_of 560 rfl rfl
set_option maxRecDepth 20000 in
theorem fs_value : Cond.fieldLink RJ0 9 "java/lang/String" "value" "[B" ∈ zT := zT_of 1412 rfl rfl
set_option maxRecDepth 20000 in
theorem fs_coder : Cond.fieldLink RJ0 15 "java/lang/String" "coder" "B" ∈ zT := zT_of 1413 rfl rfl
section ZSTR
variable {d : Nat} {mt : ZM} {cn : ZN} {pc : Nat} {ls : List (Option Value)} {st : List Value} {w : ZW} {Q : Option Value → ZW → Prop}
theorem za_k (g : ZG) (k : Nat) : za g (1000000 + k) = g.2.1 k := by
  unfold za
  rw [if_neg (by omega), Nat.add_sub_cancel_left]
theorem zw_ldcS {i : Nat} {tx : String} (k : Nat) (hd : decode mt.2.1 pc = .ok (.ldc i, 2)) (hc : mt.1.cls = "LidForEach$Text") (hk : ztx[k]? = some (i, tx)) (kk : Zw d mt cn (pc + 2) ls (.ref (1000000 + k) :: st) w Q) : Zw d mt cn pc ls st w Q := by
  intro g p l e R s m args below meth c Qm C H locs la hR hS hL
  have K := kk g p l e R s m args below meth c Qm C H locs la hR hS hL
  have es : (Value.ref (1000000 + k) :: st).map (zv g) = .ref (g.2.1 k) :: st.map (zv g) := by
    show Value.ref (za g (1000000 + k)) :: _ = _
    rw [za_k]
  rw [es] at K
  have e0 := C.2.2.2.2.2.2.2.1
  have hown := C.2.2.2.1
  rw [hc] at hown
  exact va_ldcS C.1 C.2.1 hown (e0.1.2.1 k _ hk) hd K
theorem zw_strval {k : Nat} (hk : k < 5) (hd : decode mt.2.1 pc = .ok (.getfield 9, 3)) (hc : mt.1.cls = RJ0) (kk : Zw d mt cn (pc + 3) ls (.ref (1000000 + (100 + k)) :: st) w Q) : Zw d mt cn pc ls (.ref (1000000 + k) :: st) w Q := by
  intro g p l e R s m args below meth c Qm C H locs la hR hS hL
  have K := kk g p l e R s m args below meth c Qm C H locs la hR hS hL
  have es : ∀ j, (Value.ref (1000000 + j) :: st).map (zv g) = .ref (g.2.1 j) :: st.map (zv g) := by
    intro j
    show Value.ref (za g (1000000 + j)) :: _ = _
    rw [za_k]
  rw [es] at K ⊢
  have e0 := C.2.2.2.2.2.2.2.1
  have hown := C.2.2.2.1
  rw [hc] at hown
  exact vk_getf C.1 C.2.1 (e0.2.1.1.1 k hk).2.2.1 hS hown (C.2.2.2.2.1 _ fs_value) (fun _ q => q) hd K
theorem zw_strcoder {k : Nat} (hk : k < 5) (hd : decode mt.2.1 pc = .ok (.getfield 15, 3)) (hc : mt.1.cls = RJ0) (kk : Zw d mt cn (pc + 3) ls (.int 0 :: st) w Q) : Zw d mt cn pc ls (.ref (1000000 + k) :: st) w Q := by
  intro g p l e R s m args below meth c Qm C H locs la hR hS hL
  have K := kk g p l e R s m args below meth c Qm C H locs la hR hS hL
  have es : (Value.ref (1000000 + k) :: st).map (zv g) = .ref (g.2.1 k) :: st.map (zv g) := by
    show Value.ref (za g (1000000 + k)) :: _ = _
    rw [za_k]
  rw [es]
  have e0 := C.2.2.2.2.2.2.2.1
  have hown := C.2.2.2.1
  rw [hc] at hown
  exact vk_getf C.1 C.2.1 (e0.2.1.1.1 k hk).2.1 hS hown (C.2.2.2.2.1 _ fs_coder) (fun _ q => q) hd K
theorem zw_strlen {k : Nat} (hk : k < 5) (hd : decode mt.2.1 pc = .ok (.arraylength, 1)) (kk : Zw d mt cn (pc + 1) ls (.int (nI (zlen.getD k 0)) :: st) w Q) : Zw d mt cn pc ls (.ref (1000000 + (100 + k)) :: st) w Q := by
  intro g p l e R s m args below meth c Qm C H locs la hR hS hL
  have K := kk g p l e R s m args below meth c Qm C H locs la hR hS hL
  have es : (Value.ref (1000000 + (100 + k)) :: st).map (zv g) = .ref (g.2.1 (100 + k)) :: st.map (zv g) := by
    show Value.ref (za g (1000000 + (100 + k))) :: _ = _
    rw [za_k]
  rw [es]
  have e0 := C.2.2.2.2.2.2.2.1
  exact va_tlen C.1 C.2.1 (e0.2.1.1.1 k hk).2.2.2 hS rfl hd K
theorem zw_strld {k : Nat} {i : Int32} (hk : k < 5) (hd : decode mt.2.1 pc = .ok (.baload, 1)) (hi : vp_in i (zlen.getD k 0)) (kk : Zw d mt cn (pc + 1) ls (.int ((zbyt.getD k []).getD i.toNatClampNeg 0) :: st) w Q) : Zw d mt cn pc ls (.int i :: .ref (1000000 + (100 + k)) :: st) w Q := by
  intro g p l e R s m args below meth c Qm C H locs la hR hS hL
  have K := kk g p l e R s m args below meth c Qm C H locs la hR hS hL
  have es : (Value.int i :: Value.ref (1000000 + (100 + k)) :: st).map (zv g) = .int i :: .ref (g.2.1 (100 + k)) :: st.map (zv g) := by
    show Value.int i :: Value.ref (za g (1000000 + (100 + k))) :: _ = _
    rw [za_k]
  rw [es]
  have e0 := C.2.2.2.2.2.2.2.1
  exact va_tb C.1 C.2.1 (e0.2.1.1.1 k hk).2.2.2 hS hi rfl hd K
theorem zw_compact (hd : decode mt.2.1 pc = .ok (.getstatic 38, 3)) (hc : mt.1.cls = RJ0) (kk : Zw d mt cn (pc + 3) ls (.int 1 :: st) w Q) : Zw d mt cn pc ls st w Q := by
  intro g p l e R s m args below meth c Qm C H locs la hR hS hL
  have K := kk g p l e R s m args below meth c Qm C H locs la hR hS hL
  have e0 := C.2.2.2.2.2.2.2.1
  have hown := C.2.2.2.1
  rw [hc] at hown
  exact va_gets C.1 C.2.1 e0.2.1.2.1 hS hown (C.2.2.2.2.1 _ fs_compact) (fun _ q => q) hd K
theorem zw_fmt (hd : decode mt.2.1 pc = .ok (.getstatic 1053, 3)) (hc : mt.1.cls = RJ0) (kk : ∀ v : Value, v.category = 1 → Zw d mt cn (pc + 3) ls (v :: st) w Q) : Zw d mt cn pc ls st w Q := by
  intro g p l e R s m args below meth c Qm C H locs la hR hS hL
  have e0 := C.2.2.2.2.2.2.2.1
  have hown := C.2.2.2.1
  rw [hc] at hown
  rcases e0.2.1.2.2 with hZ | hZ
  · exact va_gets C.1 C.2.1 hZ hS hown (C.2.2.2.2.1 _ fs_fmt) (fun _ q => q) hd (kk .null rfl g p l e R s m args below meth c Qm C H locs la hR hS hL)
  · have K := kk (.ref (1000000 + 201)) rfl g p l e R s m args below meth c Qm C H locs la hR hS hL
    have es : (Value.ref (1000000 + 201) :: st).map (zv g) = .ref (g.2.1 201) :: st.map (zv g) := by
      show Value.ref (za g (1000000 + 201)) :: _ = _
      rw [za_k]
    rw [es] at K
    exact va_gets C.1 C.2.1 hZ hS hown (C.2.2.2.2.1 _ fs_fmt) (fun _ q => q) hd K
theorem zw_callVS {mt' : ZM} {idx n k : Nat} {as : List Value} (hk : k < 5) (hd : decode mt.2.1 pc = .ok (.invokevirtual idx, 3)) (hok : zOk mt' n) (hv : zVirt mt') (hl : zLk mt.1.cls idx mt'.1) (hcl : mt'.1.cls = "java/lang/String") (hn : as.length = n) (hc : (st.map fun v => v.category).sum ≤ 8) (hll : ls.length = mt.2.2.1)
    (hM : Zm d mt' 0 0 (.ref (1000000 + k) :: as) w (fun v w' => Zw (d + 1) mt z0 (pc + 3) ls (v.toList ++ st) w' Q)) : Zw (d + 1) mt z0 pc ls (as.reverse ++ .ref (1000000 + k) :: st) w Q := by
  intro g p l e R s m args below meth c Qm C H locs la hR hS hL
  have hts := C.2.2.2.2.1
  have e0 := C.2.2.2.2.2.2.2.1
  have rm := C.2.2.2.2.2.2.1
  obtain ⟨o1, o2, o3, o4, o5⟩ := hok
  have hpre := zPre (as := .ref (1000000 + k) :: as) e0 hR hS
  have hrecv : ∃ cell : Cell, H[za g (1000000 + k)]? = some cell ∧ cell.vm.isStatics = false ∧ s.vm.findClass mt'.1.cls = some cell.cls := by
    rw [za_k, hcl]
    exact vk_recv e0.2.1.1 hk hS
  have hstk : (as.reverse ++ .ref (1000000 + k) :: st).map (zv g) = (as.map (zv g)).reverse ++ .ref (za g (1000000 + k)) :: st.map (zv g) := by simp [zv]
  rw [hstk]
  have hroom : (F0 m pc la ((as.map (zv g)).reverse ++ .ref (za g (1000000 + k)) :: st.map (zv g))).monitorRoom = 0 := rfl
  have hsz : la.size = c.maxLocals := by rw [hL.1, hll, C.2.2.1]
  rcases hl with hl | ⟨host, hl⟩
  · exact zRun_go (va_runV (As := as.map (zv g)) (rest := st.map (zv g)) (nL := c.maxLocals) ⟨C.1, C.2.1, rfl, C.2.2.2.1, hts⟩ (hM l g) ⟨callB_of n hts (zT_good o1) rfl rfl rfl (hts _ o2) (hts _ hl) o5 (zroomOk o4 rm.1 rm.2.1), hts _ hv.1, hts _ hv.2⟩ ⟨hpre.1, hrecv, hpre.2⟩ rfl (by rw [List.length_map]; exact hn) hsz rfl (by rw [hroom, zcats]; omega) hd ⟨Nat.le_trans (Nat.le_refl 0) rm.2.2.1, Nat.le_trans (Nat.le_refl 0) rm.2.2.2⟩) hS (zBehind (st := st) 0 0 C hL)
  · exact zRun_go (va_runVN (As := as.map (zv g)) (rest := st.map (zv g)) (nL := c.maxLocals) ⟨C.1, C.2.1, rfl, C.2.2.2.1, hts⟩ (hM l g) ⟨va_cnB n hts (zT_good o1) rfl rfl rfl (e0.1.2.2 _ hl) (hts _ o2) o5 (zroomOk o4 rm.1 rm.2.1), hts _ hv.1, hts _ hv.2⟩ ⟨hpre.1, hrecv, hpre.2⟩ rfl (by rw [List.length_map]; exact hn) hsz rfl (by rw [hroom, zcats]; omega) hd ⟨Nat.le_trans (Nat.le_refl 0) rm.2.2.1, Nat.le_trans (Nat.le_refl 0) rm.2.2.2⟩) hS (zBehind (st := st) 0 0 C hL)
end ZSTR
section ZSTRM
variable {d : Nat} {w : ZW} {Q : Option Value → ZW → Prop}
theorem j_coder {k : Nat} (hk : k < 5) (kk : Q (some (.int 0)) w) : Zm d mJ0_coder_7d493 0 0 [.ref (1000000 + k)] w Q := by
  refine zm_intro [_] oJ0_coder_7d493 (Nat.le_of_ble_eq_true rfl) rfl ?_
  refine zw_compact dJ0_coder_7d493_0 rfl ?_
  refine zw_if_eq 13 dJ0_coder_7d493_3 (by decide) (fun hz => absurd hz (by decide)) (fun _ => ?_)
  refine zw_aload_n dJ0_coder_7d493_6 rfl ?_
  refine zw_strcoder hk dJ0_coder_7d493_7 rfl ?_
  refine zw_goto 14 dJ0_coder_7d493_10 (by decide) ?_
  refine zw_ireturn .byte dJ0_coder_7d493_14 rfl rfl (Nat.le_refl _) (Nat.le_refl _) ?_
  exact kk
theorem j_length {k : Nat} (hk : k < 5) (kk : Q (some (.int (nI (zlen.getD k 0)))) w) : Zm (d + 1) mJ0_length_8abf5 0 0 [.ref (1000000 + k)] w Q := by
  refine zm_intro [_] oJ0_length_8abf5 (Nat.le_of_ble_eq_true rfl) rfl ?_
  refine zw_aload_n dJ0_length_8abf5_0 rfl ?_
  refine zw_strval hk dJ0_length_8abf5_1 rfl ?_
  refine zw_strlen hk dJ0_length_8abf5_4 ?_
  refine zw_aload_n dJ0_length_8abf5_5 rfl ?_
  refine zw_callVS (as := []) hk dJ0_length_8abf5_6 oJ0_coder_7d493 kJ0_coder_7d493 lJ0_335 rfl rfl (Nat.le_of_ble_eq_true rfl) rfl (j_coder hk ?_)
  show Zw _ _ _ 9 [_] [_, _] _ _
  refine zw_ishr dJ0_length_8abf5_9 ?_
  refine zw_ireturn .int dJ0_length_8abf5_10 rfl rfl (Nat.le_refl _) (Nat.le_refl _) ?_
  have e : ∀ k, k < 5 → nI (zlen.getD k 0) >>> ((0 : Int32) &&& 31) = nI (zlen.getD k 0) := by decide +kernel
  rw [e k hk]
  exact kk
theorem j_isLatin1 {k : Nat} (hk : k < 5) (kk : Q (some (.int 1)) w) : Zm d mJ0_isLatin1_aae02 0 0 [.ref (1000000 + k)] w Q := by
  refine zm_intro [_] oJ0_isLatin1_aae02 (Nat.le_of_ble_eq_true rfl) rfl ?_
  refine zw_compact dJ0_isLatin1_aae02_0 rfl ?_
  refine zw_if_eq 17 dJ0_isLatin1_aae02_3 (by decide) (fun hz => absurd hz (by decide)) (fun _ => ?_)
  refine zw_aload_n dJ0_isLatin1_aae02_6 rfl ?_
  refine zw_strcoder hk dJ0_isLatin1_aae02_7 rfl ?_
  refine zw_if_ne 17 dJ0_isLatin1_aae02_10 (by decide) (fun hz => absurd (rfl) hz) (fun _ => ?_)
  refine zw_iconst dJ0_isLatin1_aae02_13 1 (by decide) ?_
  refine zw_goto 18 dJ0_isLatin1_aae02_14 (by decide) ?_
  refine zw_ireturn .boolean dJ0_isLatin1_aae02_18 rfl rfl (Nat.le_refl _) (Nat.le_refl _) ?_
  exact kk
theorem j_checkP {i n : Nat} {v : Value} (hi : i < n) (hn : n < 100) (hv : v.category = 1) (kk : Q (some (.int (nI i))) w) : Zm d mJ3_checkIndex_8e157 0 0 [.int (nI i), .int (nI n), v] w Q := by
  have hent : zent [.int (nI i), .int (nI n), v] 3 = [some (.int (nI i)), some (.int (nI n)), some v] := by
    show [some (Value.int (nI i)), some (Value.int (nI n))] ++ (if v.category = 2 then some v :: none :: zent [] (1 - 2) else some v :: zent [] (1 - 1)) = _
    rw [if_neg (by omega)]
    rfl
  have hlen : (lg_sl [.int (nI i), .int (nI n), v]).length ≤ 3 := by
    show ([Slot.val (.int (nI i)), Slot.val (.int (nI n))] ++ ((if v.category = 2 then [Slot.val v, .second] else [Slot.val v]) ++ [])).length ≤ 3
    rw [if_neg (by omega)]
    exact Nat.le_refl _
  refine zm_intro [some (.int (nI i)), some (.int (nI n)), some v] oJ3_checkIndex_8e157 hlen hent ?_
  refine zw_iload_n dJ3_checkIndex_8e157_0 rfl ?_
  refine zw_if_lt 9 dJ3_checkIndex_8e157_1 (by decide) (fun hz => absurd hz (nI_pos (by omega))) (fun _ => ?_)
  refine zw_iload_n dJ3_checkIndex_8e157_4 rfl ?_
  refine zw_iload_n dJ3_checkIndex_8e157_5 rfl ?_
  refine zw_icmp_lt 16 dJ3_checkIndex_8e157_6 (by decide) (fun _ => ?_) (fun hz => absurd (nI_lt hi (by omega)) hz)
  refine zw_iload_n dJ3_checkIndex_8e157_16 rfl ?_
  refine zw_ireturn .int dJ3_checkIndex_8e157_17 rfl rfl (Nat.le_refl _) (Nat.le_refl _) ?_
  exact kk
theorem j_checkS {i n : Nat} (hi : i < n) (hn : n < 100) (kk : Q none w) : Zm (d + 1) mJ0_checkIndex_df160 0 0 [.int (nI i), .int (nI n)] w Q := by
  refine zm_intro [_, _] oJ0_checkIndex_df160 (Nat.le_of_ble_eq_true rfl) rfl ?_
  refine zw_iload_n dJ0_checkIndex_df160_0 rfl ?_
  refine zw_iload_n dJ0_checkIndex_df160_1 rfl ?_
  refine zw_fmt dJ0_checkIndex_df160_2 rfl (fun v hv => ?_)
  refine zw_cS3 dJ0_checkIndex_df160_5 oJ3_checkIndex_8e157 kJ3_checkIndex_8e157 lJ0_1059 (Nat.le_of_ble_eq_true rfl) rfl (j_checkP hi hn hv ?_)
  show Zw _ _ _ 8 [_, _] [_] _ _
  refine zw_pop dJ0_checkIndex_df160_8 rfl ?_
  refine zw_return dJ0_checkIndex_df160_9 rfl (Nat.le_refl _) (Nat.le_refl _) ?_
  exact kk
theorem j_charAtL {k i : Nat} (hk : k < 5) (hi : i < zlen.getD k 0) (hl : zlen.getD k 0 < 100) (kk : Q (some (.int ((zbyt.getD k []).getD i 0 &&& 255))) w) : Zm (d + 2) mJ1_charAt_3b067 0 0 [.ref (1000000 + (100 + k)), .int (nI i)] w Q := by
  refine zm_intro [_, _] oJ1_charAt_3b067 (Nat.le_of_ble_eq_true rfl) rfl ?_
  refine zw_iload_n dJ1_charAt_3b067_0 rfl ?_
  refine zw_aload_n dJ1_charAt_3b067_1 rfl ?_
  refine zw_strlen hk dJ1_charAt_3b067_2 ?_
  refine zw_cS2 dJ1_charAt_3b067_3 oJ0_checkIndex_df160 kJ0_checkIndex_df160 lJ1_9 (Nat.le_of_ble_eq_true rfl) rfl (j_checkS hi hl ?_)
  show Zw _ _ _ 6 [_, _] [] _ _
  refine zw_aload_n dJ1_charAt_3b067_6 rfl ?_
  refine zw_iload_n dJ1_charAt_3b067_7 rfl ?_
  refine zw_strld hk dJ1_charAt_3b067_8 (vp_in_nI hi (by omega)) ?_
  rw [nI_clamp (by omega)]
  refine zw_sipush dJ1_charAt_3b067_9 255 (by decide) ?_
  refine zw_iand dJ1_charAt_3b067_12 ?_
  refine zw_i2c dJ1_charAt_3b067_13 ?_
  refine zw_top (sc_c2 _) ?_
  refine zw_ireturn .char dJ1_charAt_3b067_14 rfl (sc_nar _) (Nat.le_refl _) (Nat.le_refl _) ?_
  exact kk
theorem j_charAt {k i : Nat} (hk : k < 5) (hi : i < zlen.getD k 0) (kk : Q (some (.int ((zbyt.getD k []).getD i 0 &&& 255))) w) : Zm (d + 3) mJ0_charAt_5068e 0 0 [.ref (1000000 + k), .int (nI i)] w Q := by
  have hl : ∀ k, k < 5 → zlen.getD k 0 < 100 := by decide +kernel
  refine zm_intro [_, _] oJ0_charAt_5068e (Nat.le_of_ble_eq_true rfl) rfl ?_
  refine zw_aload_n dJ0_charAt_5068e_0 rfl ?_
  refine zw_callVS (as := []) hk dJ0_charAt_5068e_1 oJ0_isLatin1_aae02 kJ0_isLatin1_aae02 lJ0_492 rfl rfl (Nat.le_of_ble_eq_true rfl) rfl (j_isLatin1 hk ?_)
  show Zw _ _ _ 4 [_, _] [_] _ _
  refine zw_if_eq 16 dJ0_charAt_5068e_4 (by decide) (fun hz => absurd hz (by decide)) (fun _ => ?_)
  refine zw_aload_n dJ0_charAt_5068e_7 rfl ?_
  refine zw_strval hk dJ0_charAt_5068e_8 rfl ?_
  refine zw_iload_n dJ0_charAt_5068e_11 rfl ?_
  refine zw_cS2 dJ0_charAt_5068e_12 oJ1_charAt_3b067 kJ1_charAt_3b067 lJ0_495 (Nat.le_of_ble_eq_true rfl) rfl (j_charAtL hk hi (hl k hk) ?_)
  show Zw _ _ _ 15 [_, _] [_] _ _
  refine zw_ireturn .char dJ0_charAt_5068e_15 rfl (sc_nar _) (Nat.le_refl _) (Nat.le_refl _) ?_
  exact kk
end ZSTRM
