/-! ===== THE RULES of the judgement, one an instruction ===== -/
section ZRULES
variable {d : Nat} {mt : ZM} {cn : ZN} {pc : Nat} {ls : List (Option Value)} {st : List Value} {w : ZW} {Q : Option Value → ZW → Prop}

theorem zw_iadd {x y : Int32} (hd : decode mt.2.1 pc = .ok (.iadd, 1)) (k : Zw d mt cn (pc + 1) ls (.int (x + y) :: st) w Q) : Zw d mt cn pc ls (.int y :: .int x :: st) w Q := by
  intro g p l e R s m args below meth c Qm C H locs la hR hS hL
  exact lv_iadd C.1 C.2.1 hd (k g p l e R s m args below meth c Qm C H locs la hR hS hL)

theorem zw_isub {x y : Int32} (hd : decode mt.2.1 pc = .ok (.isub, 1)) (k : Zw d mt cn (pc + 1) ls (.int (x - y) :: st) w Q) : Zw d mt cn pc ls (.int y :: .int x :: st) w Q := by
  intro g p l e R s m args below meth c Qm C H locs la hR hS hL
  exact lv_isub C.1 C.2.1 hd (k g p l e R s m args below meth c Qm C H locs la hR hS hL)

theorem zw_imul {x y : Int32} (hd : decode mt.2.1 pc = .ok (.imul, 1)) (k : Zw d mt cn (pc + 1) ls (.int (x * y) :: st) w Q) : Zw d mt cn pc ls (.int y :: .int x :: st) w Q := by
  intro g p l e R s m args below meth c Qm C H locs la hR hS hL
  exact lv_imul C.1 C.2.1 hd (k g p l e R s m args below meth c Qm C H locs la hR hS hL)

theorem zw_iand {x y : Int32} (hd : decode mt.2.1 pc = .ok (.iand, 1)) (k : Zw d mt cn (pc + 1) ls (.int (x &&& y) :: st) w Q) : Zw d mt cn pc ls (.int y :: .int x :: st) w Q := by
  intro g p l e R s m args below meth c Qm C H locs la hR hS hL
  exact lv_iand C.1 C.2.1 hd (k g p l e R s m args below meth c Qm C H locs la hR hS hL)

theorem zw_ior {x y : Int32} (hd : decode mt.2.1 pc = .ok (.ior, 1)) (k : Zw d mt cn (pc + 1) ls (.int (x ||| y) :: st) w Q) : Zw d mt cn pc ls (.int y :: .int x :: st) w Q := by
  intro g p l e R s m args below meth c Qm C H locs la hR hS hL
  exact lv_ior C.1 C.2.1 hd (k g p l e R s m args below meth c Qm C H locs la hR hS hL)

theorem zw_ixor {x y : Int32} (hd : decode mt.2.1 pc = .ok (.ixor, 1)) (k : Zw d mt cn (pc + 1) ls (.int (x ^^^ y) :: st) w Q) : Zw d mt cn pc ls (.int y :: .int x :: st) w Q := by
  intro g p l e R s m args below meth c Qm C H locs la hR hS hL
  exact lv_ixor C.1 C.2.1 hd (k g p l e R s m args below meth c Qm C H locs la hR hS hL)

theorem zw_idiv {x y : Int32} (hd : decode mt.2.1 pc = .ok (.idiv, 1)) (hne : ¬ y = 0) (k : Zw d mt cn (pc + 1) ls (.int (x / y) :: st) w Q) : Zw d mt cn pc ls (.int y :: .int x :: st) w Q := by
  intro g p l e R s m args below meth c Qm C H locs la hR hS hL
  exact lv_idiv C.1 C.2.1 hd hne (k g p l e R s m args below meth c Qm C H locs la hR hS hL)

theorem zw_irem {x y : Int32} (hd : decode mt.2.1 pc = .ok (.irem, 1)) (hne : ¬ y = 0) (k : Zw d mt cn (pc + 1) ls (.int (x - x / y * y) :: st) w Q) : Zw d mt cn pc ls (.int y :: .int x :: st) w Q := by
  intro g p l e R s m args below meth c Qm C H locs la hR hS hL
  exact lv_irem C.1 C.2.1 hd hne (k g p l e R s m args below meth c Qm C H locs la hR hS hL)

theorem zw_ineg {x : Int32} (hd : decode mt.2.1 pc = .ok (.ineg, 1)) (k : Zw d mt cn (pc + 1) ls (.int (-x) :: st) w Q) : Zw d mt cn pc ls (.int x :: st) w Q := by
  intro g p l e R s m args below meth c Qm C H locs la hR hS hL
  exact lv_ineg C.1 C.2.1 hd (k g p l e R s m args below meth c Qm C H locs la hR hS hL)

theorem zw_ishl {x y : Int32} (hd : decode mt.2.1 pc = .ok (.ishl, 1)) (k : Zw d mt cn (pc + 1) ls (.int (x <<< (y &&& 31)) :: st) w Q) : Zw d mt cn pc ls (.int y :: .int x :: st) w Q := by
  intro g p l e R s m args below meth c Qm C H locs la hR hS hL
  exact lv_ishl C.1 C.2.1 hd (k g p l e R s m args below meth c Qm C H locs la hR hS hL)

theorem zw_ishr {x y : Int32} (hd : decode mt.2.1 pc = .ok (.ishr, 1)) (k : Zw d mt cn (pc + 1) ls (.int (x >>> (y &&& 31)) :: st) w Q) : Zw d mt cn pc ls (.int y :: .int x :: st) w Q := by
  intro g p l e R s m args below meth c Qm C H locs la hR hS hL
  exact lv_ishr C.1 C.2.1 hd (k g p l e R s m args below meth c Qm C H locs la hR hS hL)

theorem zw_iushr {x y : Int32} (hd : decode mt.2.1 pc = .ok (.iushr, 1)) (k : Zw d mt cn (pc + 1) ls (.int ((x.toUInt32 >>> (y.toUInt32 &&& Int32.toUInt32 31)).toInt32) :: st) w Q) : Zw d mt cn pc ls (.int y :: .int x :: st) w Q := by
  intro g p l e R s m args below meth c Qm C H locs la hR hS hL
  exact lv_iushr C.1 C.2.1 hd rfl (k g p l e R s m args below meth c Qm C H locs la hR hS hL)

theorem zw_ladd {x y : Int64} (hd : decode mt.2.1 pc = .ok (.ladd, 1)) (k : Zw d mt cn (pc + 1) ls (.long (x + y) :: st) w Q) : Zw d mt cn pc ls (.long y :: .long x :: st) w Q := by
  intro g p l e R s m args below meth c Qm C H locs la hR hS hL
  exact lv_ladd C.1 C.2.1 hd (k g p l e R s m args below meth c Qm C H locs la hR hS hL)

theorem zw_lsub {x y : Int64} (hd : decode mt.2.1 pc = .ok (.lsub, 1)) (k : Zw d mt cn (pc + 1) ls (.long (x - y) :: st) w Q) : Zw d mt cn pc ls (.long y :: .long x :: st) w Q := by
  intro g p l e R s m args below meth c Qm C H locs la hR hS hL
  exact lv_lsub C.1 C.2.1 hd (k g p l e R s m args below meth c Qm C H locs la hR hS hL)

theorem zw_lmul {x y : Int64} (hd : decode mt.2.1 pc = .ok (.lmul, 1)) (k : Zw d mt cn (pc + 1) ls (.long (x * y) :: st) w Q) : Zw d mt cn pc ls (.long y :: .long x :: st) w Q := by
  intro g p l e R s m args below meth c Qm C H locs la hR hS hL
  exact lv_lmul C.1 C.2.1 hd (k g p l e R s m args below meth c Qm C H locs la hR hS hL)

theorem zw_ldiv {x y : Int64} (hd : decode mt.2.1 pc = .ok (.ldiv, 1)) (hne : ¬ y = 0) (k : Zw d mt cn (pc + 1) ls (.long (x / y) :: st) w Q) : Zw d mt cn pc ls (.long y :: .long x :: st) w Q := by
  intro g p l e R s m args below meth c Qm C H locs la hR hS hL
  exact lv_ldiv C.1 C.2.1 hd hne (k g p l e R s m args below meth c Qm C H locs la hR hS hL)

theorem zw_lrem {x y : Int64} (hd : decode mt.2.1 pc = .ok (.lrem, 1)) (hne : ¬ y = 0) (k : Zw d mt cn (pc + 1) ls (.long (x - x / y * y) :: st) w Q) : Zw d mt cn pc ls (.long y :: .long x :: st) w Q := by
  intro g p l e R s m args below meth c Qm C H locs la hR hS hL
  exact lv_lrem C.1 C.2.1 hd hne (k g p l e R s m args below meth c Qm C H locs la hR hS hL)

theorem zw_lcmp {x y : Int64} (hd : decode mt.2.1 pc = .ok (.lcmp, 1)) (k : Zw d mt cn (pc + 1) ls (.int (lg_cmp x y) :: st) w Q) : Zw d mt cn pc ls (.long y :: .long x :: st) w Q := by
  intro g p l e R s m args below meth c Qm C H locs la hR hS hL
  exact W.lcmp C.1 C.2.1 hd (k g p l e R s m args below meth c Qm C H locs la hR hS hL)

theorem zw_i2l {x : Int32} (hd : decode mt.2.1 pc = .ok (.i2l, 1)) (k : Zw d mt cn (pc + 1) ls (.long x.toInt64 :: st) w Q) : Zw d mt cn pc ls (.int x :: st) w Q := by
  intro g p l e R s m args below meth c Qm C H locs la hR hS hL
  exact lv_i2l C.1 C.2.1 hd rfl (k g p l e R s m args below meth c Qm C H locs la hR hS hL)

theorem zw_l2i {x : Int64} (hd : decode mt.2.1 pc = .ok (.l2i, 1)) (k : Zw d mt cn (pc + 1) ls (.int x.toInt32 :: st) w Q) : Zw d mt cn pc ls (.long x :: st) w Q := by
  intro g p l e R s m args below meth c Qm C H locs la hR hS hL
  exact lv_l2i C.1 C.2.1 hd rfl (k g p l e R s m args below meth c Qm C H locs la hR hS hL)

theorem zw_i2b {x : Int32} (hd : decode mt.2.1 pc = .ok (.i2b, 1)) (k : Zw d mt cn (pc + 1) ls (.int x.toInt8.toInt32 :: st) w Q) : Zw d mt cn pc ls (.int x :: st) w Q := by
  intro g p l e R s m args below meth c Qm C H locs la hR hS hL
  exact lv_i2b C.1 C.2.1 hd rfl (k g p l e R s m args below meth c Qm C H locs la hR hS hL)

theorem zw_i2c {x : Int32} (hd : decode mt.2.1 pc = .ok (.i2c, 1)) (k : Zw d mt cn (pc + 1) ls (.int (x.toUInt32 % 65536).toInt32 :: st) w Q) : Zw d mt cn pc ls (.int x :: st) w Q := by
  intro g p l e R s m args below meth c Qm C H locs la hR hS hL
  exact lv_i2c C.1 C.2.1 hd rfl (k g p l e R s m args below meth c Qm C H locs la hR hS hL)

theorem zw_iconst {n : Int} (hd : decode mt.2.1 pc = .ok (.iconst n, 1)) (v : Int32) (hv : Int32.ofInt n = v) (k : Zw d mt cn (pc + 1) ls (.int v :: st) w Q) : Zw d mt cn pc ls (st) w Q := by
  intro g p l e R s m args below meth c Qm C H locs la hR hS hL
  exact lv_iconst C.1 C.2.1 hd hv (k g p l e R s m args below meth c Qm C H locs la hR hS hL)

theorem zw_bipush {n : Int} (hd : decode mt.2.1 pc = .ok (.bipush n, 2)) (v : Int32) (hv : (Int8.ofInt n).toInt32 = v) (k : Zw d mt cn (pc + 2) ls (.int v :: st) w Q) : Zw d mt cn pc ls (st) w Q := by
  intro g p l e R s m args below meth c Qm C H locs la hR hS hL
  exact lv_bipush C.1 C.2.1 hd hv (k g p l e R s m args below meth c Qm C H locs la hR hS hL)

theorem zw_sipush {n : Int} (hd : decode mt.2.1 pc = .ok (.sipush n, 3)) (v : Int32) (hv : (Int16.ofInt n).toInt32 = v) (k : Zw d mt cn (pc + 3) ls (.int v :: st) w Q) : Zw d mt cn pc ls (st) w Q := by
  intro g p l e R s m args below meth c Qm C H locs la hR hS hL
  exact lv_sipush C.1 C.2.1 hd hv (k g p l e R s m args below meth c Qm C H locs la hR hS hL)

theorem zw_lconst {n : Fin 2} (hd : decode mt.2.1 pc = .ok (.lconst n, 1)) (v : Int64) (hv : Int64.ofNat (n : Nat) = v) (k : Zw d mt cn (pc + 1) ls (.long v :: st) w Q) : Zw d mt cn pc ls (st) w Q := by
  intro g p l e R s m args below meth c Qm C H locs la hR hS hL
  exact lv_lconst C.1 C.2.1 hd hv (k g p l e R s m args below meth c Qm C H locs la hR hS hL)

theorem zw_ldc {i : Nat} {v : Int32} (hd : decode mt.2.1 pc = .ok (.ldc i, 2)) (hw : Cond.constant mt.1.cls i v ∈ zT) (k : Zw d mt cn (pc + 2) ls (.int v :: st) w Q) : Zw d mt cn pc ls (st) w Q := by
  intro g p l e R s m args below meth c Qm C H locs la hR hS hL
  exact lv_ldc C.1 C.2.1 C.2.2.2.1 (C.2.2.2.2.1 _ hw) hd (k g p l e R s m args below meth c Qm C H locs la hR hS hL)

theorem zw_ldcw {i : Nat} {v : Int32} (hd : decode mt.2.1 pc = .ok (.ldc_w i, 3)) (hw : Cond.constant mt.1.cls i v ∈ zT) (k : Zw d mt cn (pc + 3) ls (.int v :: st) w Q) : Zw d mt cn pc ls (st) w Q := by
  intro g p l e R s m args below meth c Qm C H locs la hR hS hL
  exact lv_ldcw C.1 C.2.1 C.2.2.2.1 (C.2.2.2.2.1 _ hw) hd (k g p l e R s m args below meth c Qm C H locs la hR hS hL)

theorem zw_ldc2 {i : Nat} {v : Int64} (hd : decode mt.2.1 pc = .ok (.ldc2_w i, 3)) (hw : Cond.constantLong mt.1.cls i v ∈ zT) (k : Zw d mt cn (pc + 3) ls (.long v :: st) w Q) : Zw d mt cn pc ls (st) w Q := by
  intro g p l e R s m args below meth c Qm C H locs la hR hS hL
  exact lv_ldc2 C.1 C.2.1 C.2.2.2.1 (C.2.2.2.2.1 _ hw) hd (k g p l e R s m args below meth c Qm C H locs la hR hS hL)

theorem zw_dup {v : Value} (hd : decode mt.2.1 pc = .ok (.dup, 1)) (hc : v.category = 1) (k : Zw d mt cn (pc + 1) ls (v :: v :: st) w Q) : Zw d mt cn pc ls (v :: st) w Q := by
  intro g p l e R s m args below meth c Qm C H locs la hR hS hL
  exact lv_dup C.1 C.2.1 hd (by rw [zv_cat]; exact hc) (k g p l e R s m args below meth c Qm C H locs la hR hS hL)

theorem zw_pop {v : Value} (hd : decode mt.2.1 pc = .ok (.pop, 1)) (hc : v.category = 1) (k : Zw d mt cn (pc + 1) ls (st) w Q) : Zw d mt cn pc ls (v :: st) w Q := by
  intro g p l e R s m args below meth c Qm C H locs la hR hS hL
  exact lv_pop C.1 C.2.1 hd (by rw [zv_cat]; exact hc) (k g p l e R s m args below meth c Qm C H locs la hR hS hL)

theorem zw_dup_x1 {u v : Value} (hd : decode mt.2.1 pc = .ok (.dup_x1, 1)) (hu : u.category = 1) (hc : v.category = 1) (k : Zw d mt cn (pc + 1) ls (u :: v :: u :: st) w Q) : Zw d mt cn pc ls (u :: v :: st) w Q := by
  intro g p l e R s m args below meth c Qm C H locs la hR hS hL
  exact lv_dup_x1 C.1 C.2.1 hd (by rw [zv_cat]; exact hu) (by rw [zv_cat]; exact hc) (k g p l e R s m args below meth c Qm C H locs la hR hS hL)

theorem zw_dup2 {u v : Value} (hd : decode mt.2.1 pc = .ok (.dup2, 1)) (hu : u.category = 1) (hc : v.category = 1) (k : Zw d mt cn (pc + 1) ls (u :: v :: u :: v :: st) w Q) : Zw d mt cn pc ls (u :: v :: st) w Q := by
  intro g p l e R s m args below meth c Qm C H locs la hR hS hL
  exact lv_dup2_11 C.1 C.2.1 hd (by rw [zv_cat]; exact hu) (by rw [zv_cat]; exact hc) (k g p l e R s m args below meth c Qm C H locs la hR hS hL)

theorem zw_iload_n {n : Fin 4} {x : Int32} (hd : decode mt.2.1 pc = .ok (.iload_n n, 1)) (hl : ls[(n : Nat)]? = some (some (.int x))) (k : Zw d mt cn (pc + 1) ls (.int x :: st) w Q) : Zw d mt cn pc ls (st) w Q := by
  intro g p l e R s m args below meth c Qm C H locs la hR hS hL
  exact lv_iload_n C.1 C.2.1 hd rfl (hL.2.2 _ _ hl) (k g p l e R s m args below meth c Qm C H locs la hR hS hL)

theorem zw_iload {n : Nat} {x : Int32} (hd : decode mt.2.1 pc = .ok (.iload n, 2)) (hl : ls[n]? = some (some (.int x))) (k : Zw d mt cn (pc + 2) ls (.int x :: st) w Q) : Zw d mt cn pc ls (st) w Q := by
  intro g p l e R s m args below meth c Qm C H locs la hR hS hL
  exact lv_iload C.1 C.2.1 hd (hL.2.2 _ _ hl) (k g p l e R s m args below meth c Qm C H locs la hR hS hL)

theorem zw_lload_n {n : Fin 4} {x : Int64} (hd : decode mt.2.1 pc = .ok (.lload_n n, 1)) (hl : ls[(n : Nat)]? = some (some (.long x))) (k : Zw d mt cn (pc + 1) ls (.long x :: st) w Q) : Zw d mt cn pc ls (st) w Q := by
  intro g p l e R s m args below meth c Qm C H locs la hR hS hL
  exact lv_lload_n C.1 C.2.1 hd rfl (hL.2.2 _ _ hl) (k g p l e R s m args below meth c Qm C H locs la hR hS hL)

theorem zw_lload {n : Nat} {x : Int64} (hd : decode mt.2.1 pc = .ok (.lload n, 2)) (hl : ls[n]? = some (some (.long x))) (k : Zw d mt cn (pc + 2) ls (.long x :: st) w Q) : Zw d mt cn pc ls (st) w Q := by
  intro g p l e R s m args below meth c Qm C H locs la hR hS hL
  exact lv_lload C.1 C.2.1 hd (hL.2.2 _ _ hl) (k g p l e R s m args below meth c Qm C H locs la hR hS hL)

theorem zw_aload_n {n : Fin 4} {x : Nat} (hd : decode mt.2.1 pc = .ok (.aload_n n, 1)) (hl : ls[(n : Nat)]? = some (some (.ref x))) (k : Zw d mt cn (pc + 1) ls (.ref x :: st) w Q) : Zw d mt cn pc ls (st) w Q := by
  intro g p l e R s m args below meth c Qm C H locs la hR hS hL
  exact lv_aload_n C.1 C.2.1 hd rfl (hL.2.2 _ _ hl) (k g p l e R s m args below meth c Qm C H locs la hR hS hL)

theorem zw_aload {n : Nat} {x : Nat} (hd : decode mt.2.1 pc = .ok (.aload n, 2)) (hl : ls[n]? = some (some (.ref x))) (k : Zw d mt cn (pc + 2) ls (.ref x :: st) w Q) : Zw d mt cn pc ls (st) w Q := by
  intro g p l e R s m args below meth c Qm C H locs la hR hS hL
  exact lv_aload C.1 C.2.1 hd (hL.2.2 _ _ hl) (k g p l e R s m args below meth c Qm C H locs la hR hS hL)

/-- a place's long in front is gone when the place is written -/
def zc2 (o : Option (Option Value)) : Bool := match o with
  | some (some v) => v.category == 2
  | _ => false
def zkill (ls : List (Option Value)) (i : Nat) : List (Option Value) := match i with
  | 0 => ls
  | j + 1 => if zc2 (ls[j]?) = true then ls.set j none else ls
def zst1 (ls : List (Option Value)) (i : Nat) (v : Value) : List (Option Value) := (zkill ls i).set i (some v)
def zst2 (ls : List (Option Value)) (i : Nat) (v : Value) : List (Option Value) := ((zkill ls i).set i (some v)).set (i + 1) none
theorem zkill_len (ls : List (Option Value)) (i : Nat) : (zkill ls i).length = ls.length := by
  unfold zkill
  split
  · rfl
  · split <;> simp
theorem zkill_get {ls : List (Option Value)} {i j : Nat} {v : Value} (h : (zkill ls i)[j]? = some (some v)) : ls[j]? = some (some v) ∧ ¬ (j + 1 = i ∧ v.category = 2) := by
  unfold zkill at h
  split at h
  · exact ⟨h, by omega⟩
  · rename_i k
    split at h
    · rename_i hc
      by_cases hj : k = j
      · subst hj
        rw [List.getElem?_set] at h
        split at h
        · split at h <;> cases h
        · contradiction
      · rw [List.getElem?_set_ne hj] at h
        exact ⟨h, fun q => hj (by omega)⟩
    · rename_i hc
      refine ⟨h, fun q => hc ?_⟩
      have e : k = j := by omega
      rw [e, h]
      simp [zc2, q.2]
def zlv (g : ZG) (ls : List (Option Value)) : List (Nat × Value) := (List.range ls.length).filterMap (fun i => (ls[i]?.join).map (fun v => (i, zv g v)))
theorem zlv_in {g : ZG} {ls : List (Option Value)} {i : Nat} {v : Value} (h : ls[i]? = some (some v)) : (i, zv g v) ∈ zlv g ls := by
  refine List.mem_filterMap.mpr ⟨i, List.mem_range.mpr (List.getElem?_eq_some_iff.mp h).1, ?_⟩
  rw [h]
  rfl
theorem zlv_of {g : ZG} {ls : List (Option Value)} {q : Nat × Value} (h : q ∈ zlv g ls) : ∃ v, ls[q.1]? = some (some v) ∧ q.2 = zv g v := by
  obtain ⟨i, -, hi⟩ := List.mem_filterMap.mp h
  cases hv : ls[i]? with
  | none => rw [hv] at hi; cases hi
  | some o =>
    cases o with
    | none => rw [hv] at hi; cases hi
    | some v =>
      rw [hv] at hi
      cases hi
      exact ⟨v, hv, rfl⟩
theorem zL.has {g : ZG} {ls : List (Option Value)} {la : Array Slot} (h : zL g ls la) : lv_has la ls.length (zlv g ls) := by
  refine ⟨h.1, h.2.1, fun q hq => ?_⟩
  obtain ⟨v, h1, h2⟩ := zlv_of hq
  rw [h2]
  exact h.2.2 _ _ h1
theorem zL_st1 {g : ZG} {ls : List (Option Value)} {la : Array Slot} {i n : Nat} {v u : Value} (hu : u = zv g v) (hn : n = ls.length) (h : lv_has la n ((i, u) :: (zlv g ls).filter (fun q => !(q.1 == i) && !(q.1 + 1 == i && q.2.category == 2)))) : zL g (zst1 ls i v) la := by
  subst hu
  refine ⟨by rw [h.1, hn]; simp [zst1, zkill_len], h.2.1, fun j x hj => ?_⟩
  by_cases e : i = j
  · subst e
    unfold zst1 at hj
    rw [List.getElem?_set] at hj
    rw [if_pos rfl] at hj
    split at hj
    · cases hj
      exact h.2.2 (i, zv g v) List.mem_cons_self
    · cases hj
  · unfold zst1 at hj
    rw [List.getElem?_set_ne e] at hj
    obtain ⟨h1, h2⟩ := zkill_get hj
    refine h.2.2 (j, zv g x) (List.mem_cons_of_mem _ (List.mem_filter.mpr ⟨zlv_in h1, ?_⟩))
    simp only [Bool.and_eq_true, Bool.not_eq_true', beq_eq_false_iff_ne, ne_eq, Bool.and_eq_false_iff, zv_cat]
    refine ⟨fun q => e q.symm, ?_⟩
    by_cases q : j + 1 = i
    · exact Or.inr (fun z => h2 ⟨q, z⟩)
    · exact Or.inl q
theorem zL_st2 {g : ZG} {ls : List (Option Value)} {la : Array Slot} {i n : Nat} {v u : Value} (hu : u = zv g v) (hn : n = ls.length) (h : lv_has la n ((i, u) :: (zlv g ls).filter (fun q => !(q.1 == i) && (!(q.1 == i + 1) && !(q.1 + 1 == i && q.2.category == 2))))) : zL g (zst2 ls i v) la := by
  subst hu
  refine ⟨by rw [h.1, hn]; simp [zst2, zkill_len], h.2.1, fun j x hj => ?_⟩
  unfold zst2 at hj
  by_cases e2 : i + 1 = j
  · subst e2
    rw [List.getElem?_set, if_pos rfl] at hj
    split at hj <;> cases hj
  · rw [List.getElem?_set_ne e2] at hj
    by_cases e : i = j
    · subst e
      rw [List.getElem?_set, if_pos rfl] at hj
      split at hj
      · cases hj
        exact h.2.2 (i, zv g v) List.mem_cons_self
      · cases hj
    · rw [List.getElem?_set_ne e] at hj
      obtain ⟨h1, h2⟩ := zkill_get hj
      refine h.2.2 (j, zv g x) (List.mem_cons_of_mem _ (List.mem_filter.mpr ⟨zlv_in h1, ?_⟩))
      simp only [Bool.and_eq_true, Bool.not_eq_true', beq_eq_false_iff_ne, ne_eq, Bool.and_eq_false_iff, zv_cat]
      refine ⟨fun q => e q.symm, fun q => e2 q.symm, ?_⟩
      by_cases q : j + 1 = i
      · exact Or.inr (fun z => h2 ⟨q, z⟩)
      · exact Or.inl q

theorem zw_istore_n {n : Fin 4} {x : Int32} (ls' : List (Option Value)) (hd : decode mt.2.1 pc = .ok (.istore_n n, 1)) (hn : (n : Nat) < ls.length) (hl : zst1 ls (n : Nat) (.int x) = ls') (k : Zw d mt cn (pc + 1) ls' st w Q) : Zw d mt cn pc ls (.int x :: st) w Q := by
  subst hl
  intro g p l e R s m args below meth c Qm C H locs la hR hS hL
  exact lv_istore_n C.1 C.2.1 hd rfl hL.has hn rfl (fun la hl => k g p l e R s m args below meth c Qm C H locs la hR hS (zL_st1 rfl rfl hl))

theorem zw_istore {n : Nat} {x : Int32} (ls' : List (Option Value)) (hd : decode mt.2.1 pc = .ok (.istore n, 2)) (hn : n < ls.length) (hl : zst1 ls n (.int x) = ls') (k : Zw d mt cn (pc + 2) ls' st w Q) : Zw d mt cn pc ls (.int x :: st) w Q := by
  subst hl
  intro g p l e R s m args below meth c Qm C H locs la hR hS hL
  exact lv_istore C.1 C.2.1 hd hL.has hn rfl (fun la hl => k g p l e R s m args below meth c Qm C H locs la hR hS (zL_st1 rfl rfl hl))

theorem zw_lstore_n {n : Fin 4} {x : Int64} (ls' : List (Option Value)) (hd : decode mt.2.1 pc = .ok (.lstore_n n, 1)) (hn : (n : Nat) + 1 < ls.length) (hl : zst2 ls (n : Nat) (.long x) = ls') (k : Zw d mt cn (pc + 1) ls' st w Q) : Zw d mt cn pc ls (.long x :: st) w Q := by
  subst hl
  intro g p l e R s m args below meth c Qm C H locs la hR hS hL
  exact lv_lstore_n C.1 C.2.1 hd rfl hL.has hn rfl (fun la hl => k g p l e R s m args below meth c Qm C H locs la hR hS (zL_st2 rfl rfl hl))

theorem zw_lstore {n : Nat} {x : Int64} (ls' : List (Option Value)) (hd : decode mt.2.1 pc = .ok (.lstore n, 2)) (hn : n + 1 < ls.length) (hl : zst2 ls n (.long x) = ls') (k : Zw d mt cn (pc + 2) ls' st w Q) : Zw d mt cn pc ls (.long x :: st) w Q := by
  subst hl
  intro g p l e R s m args below meth c Qm C H locs la hR hS hL
  exact lv_lstore C.1 C.2.1 hd hL.has hn rfl (fun la hl => k g p l e R s m args below meth c Qm C H locs la hR hS (zL_st2 rfl rfl hl))

theorem zw_astore_n {n : Fin 4} {x : Nat} (ls' : List (Option Value)) (hd : decode mt.2.1 pc = .ok (.astore_n n, 1)) (hn : (n : Nat) < ls.length) (hl : zst1 ls (n : Nat) (.ref x) = ls') (k : Zw d mt cn (pc + 1) ls' st w Q) : Zw d mt cn pc ls (.ref x :: st) w Q := by
  subst hl
  intro g p l e R s m args below meth c Qm C H locs la hR hS hL
  exact lv_astore_n C.1 C.2.1 hd rfl hL.has hn rfl (fun la hl => k g p l e R s m args below meth c Qm C H locs la hR hS (zL_st1 rfl rfl hl))

theorem zw_astore {n : Nat} {x : Nat} (ls' : List (Option Value)) (hd : decode mt.2.1 pc = .ok (.astore n, 2)) (hn : n < ls.length) (hl : zst1 ls n (.ref x) = ls') (k : Zw d mt cn (pc + 2) ls' st w Q) : Zw d mt cn pc ls (.ref x :: st) w Q := by
  subst hl
  intro g p l e R s m args below meth c Qm C H locs la hR hS hL
  exact lv_astore C.1 C.2.1 hd hL.has hn rfl (fun la hl => k g p l e R s m args below meth c Qm C H locs la hR hS (zL_st1 rfl rfl hl))

theorem zw_iinc {n : Nat} {i : Int} {x : Int32} (v : Int32) (ls' : List (Option Value)) (hd : decode mt.2.1 pc = .ok (.iinc n i, 3)) (hx : ls[n]? = some (some (.int x))) (hv : x + Int32.ofInt i = v) (hl : zst1 ls n (.int v) = ls') (k : Zw d mt cn (pc + 3) ls' st w Q) : Zw d mt cn pc ls st w Q := by
  subst hl
  intro g p l e R s m args below meth c Qm C H locs la hR hS hL
  have hn : n < ls.length := (List.getElem?_eq_some_iff.mp hx).1
  have hh : lv_has la ls.length ((n, Value.int x) :: zlv g ls) := ⟨hL.has.1, hL.has.2.1, fun q hq => by
    rcases List.mem_cons.mp hq with rfl | hq
    · exact hL.2.2 _ _ hx
    · exact hL.has.2.2 q hq⟩
  refine lv_iinc C.1 C.2.1 hd hh (k := 0) rfl hv hn rfl (fun la hl => ?_)
  rw [List.filter_cons_of_neg (by simp)] at hl
  exact k g p l e R s m args below meth c Qm C H locs la hR hS (zL_st1 rfl rfl hl)

theorem zw_if_eq {x : Int32} {off : Int} (tgt : Nat) (hd : decode mt.2.1 pc = .ok (.ifCond .eq off, 3)) (ht : (pc : Int) + off = (tgt : Int)) (kt : x = 0 → Zw d mt cn tgt ls st w Q) (kf : ¬ (x = 0) → Zw d mt cn (pc + 3) ls st w Q) : Zw d mt cn pc ls (.int x :: st) w Q := by
  intro g p l e R s m args below meth c Qm C H locs la hR hS hL
  exact lv_if_eq C.1 C.2.1 hd ht (fun h => kt h g p l e R s m args below meth c Qm C H locs la hR hS hL) (fun h => kf h g p l e R s m args below meth c Qm C H locs la hR hS hL)

theorem zw_icmp_eq {x y : Int32} {off : Int} (tgt : Nat) (hd : decode mt.2.1 pc = .ok (.if_icmp .eq off, 3)) (ht : (pc : Int) + off = (tgt : Int)) (kt : x = y → Zw d mt cn tgt ls st w Q) (kf : ¬ (x = y) → Zw d mt cn (pc + 3) ls st w Q) : Zw d mt cn pc ls (.int y :: .int x :: st) w Q := by
  intro g p l e R s m args below meth c Qm C H locs la hR hS hL
  exact lv_icmp_eq C.1 C.2.1 hd ht (fun h => kt h g p l e R s m args below meth c Qm C H locs la hR hS hL) (fun h => kf h g p l e R s m args below meth c Qm C H locs la hR hS hL)

theorem zw_if_ne {x : Int32} {off : Int} (tgt : Nat) (hd : decode mt.2.1 pc = .ok (.ifCond .ne off, 3)) (ht : (pc : Int) + off = (tgt : Int)) (kt : ¬ x = 0 → Zw d mt cn tgt ls st w Q) (kf : x = 0 → Zw d mt cn (pc + 3) ls st w Q) : Zw d mt cn pc ls (.int x :: st) w Q := by
  intro g p l e R s m args below meth c Qm C H locs la hR hS hL
  exact lv_if_ne C.1 C.2.1 hd ht (fun h => kt h g p l e R s m args below meth c Qm C H locs la hR hS hL) (fun h => kf h g p l e R s m args below meth c Qm C H locs la hR hS hL)

theorem zw_icmp_ne {x y : Int32} {off : Int} (tgt : Nat) (hd : decode mt.2.1 pc = .ok (.if_icmp .ne off, 3)) (ht : (pc : Int) + off = (tgt : Int)) (kt : ¬ x = y → Zw d mt cn tgt ls st w Q) (kf : x = y → Zw d mt cn (pc + 3) ls st w Q) : Zw d mt cn pc ls (.int y :: .int x :: st) w Q := by
  intro g p l e R s m args below meth c Qm C H locs la hR hS hL
  exact lv_icmp_ne C.1 C.2.1 hd ht (fun h => kt h g p l e R s m args below meth c Qm C H locs la hR hS hL) (fun h => kf h g p l e R s m args below meth c Qm C H locs la hR hS hL)

theorem zw_if_lt {x : Int32} {off : Int} (tgt : Nat) (hd : decode mt.2.1 pc = .ok (.ifCond .lt off, 3)) (ht : (pc : Int) + off = (tgt : Int)) (kt : x < 0 → Zw d mt cn tgt ls st w Q) (kf : ¬ (x < 0) → Zw d mt cn (pc + 3) ls st w Q) : Zw d mt cn pc ls (.int x :: st) w Q := by
  intro g p l e R s m args below meth c Qm C H locs la hR hS hL
  exact lv_if_lt C.1 C.2.1 hd ht (fun h => kt h g p l e R s m args below meth c Qm C H locs la hR hS hL) (fun h => kf h g p l e R s m args below meth c Qm C H locs la hR hS hL)

theorem zw_icmp_lt {x y : Int32} {off : Int} (tgt : Nat) (hd : decode mt.2.1 pc = .ok (.if_icmp .lt off, 3)) (ht : (pc : Int) + off = (tgt : Int)) (kt : x < y → Zw d mt cn tgt ls st w Q) (kf : ¬ (x < y) → Zw d mt cn (pc + 3) ls st w Q) : Zw d mt cn pc ls (.int y :: .int x :: st) w Q := by
  intro g p l e R s m args below meth c Qm C H locs la hR hS hL
  exact lv_icmp_lt C.1 C.2.1 hd ht (fun h => kt h g p l e R s m args below meth c Qm C H locs la hR hS hL) (fun h => kf h g p l e R s m args below meth c Qm C H locs la hR hS hL)

theorem zw_if_ge {x : Int32} {off : Int} (tgt : Nat) (hd : decode mt.2.1 pc = .ok (.ifCond .ge off, 3)) (ht : (pc : Int) + off = (tgt : Int)) (kt : 0 ≤ x → Zw d mt cn tgt ls st w Q) (kf : ¬ (0 ≤ x) → Zw d mt cn (pc + 3) ls st w Q) : Zw d mt cn pc ls (.int x :: st) w Q := by
  intro g p l e R s m args below meth c Qm C H locs la hR hS hL
  exact lv_if_ge C.1 C.2.1 hd ht (fun h => kt h g p l e R s m args below meth c Qm C H locs la hR hS hL) (fun h => kf h g p l e R s m args below meth c Qm C H locs la hR hS hL)

theorem zw_icmp_ge {x y : Int32} {off : Int} (tgt : Nat) (hd : decode mt.2.1 pc = .ok (.if_icmp .ge off, 3)) (ht : (pc : Int) + off = (tgt : Int)) (kt : y ≤ x → Zw d mt cn tgt ls st w Q) (kf : ¬ (y ≤ x) → Zw d mt cn (pc + 3) ls st w Q) : Zw d mt cn pc ls (.int y :: .int x :: st) w Q := by
  intro g p l e R s m args below meth c Qm C H locs la hR hS hL
  exact lv_icmp_ge C.1 C.2.1 hd ht (fun h => kt h g p l e R s m args below meth c Qm C H locs la hR hS hL) (fun h => kf h g p l e R s m args below meth c Qm C H locs la hR hS hL)

theorem zw_if_gt {x : Int32} {off : Int} (tgt : Nat) (hd : decode mt.2.1 pc = .ok (.ifCond .gt off, 3)) (ht : (pc : Int) + off = (tgt : Int)) (kt : 0 < x → Zw d mt cn tgt ls st w Q) (kf : ¬ (0 < x) → Zw d mt cn (pc + 3) ls st w Q) : Zw d mt cn pc ls (.int x :: st) w Q := by
  intro g p l e R s m args below meth c Qm C H locs la hR hS hL
  exact lv_if_gt C.1 C.2.1 hd ht (fun h => kt h g p l e R s m args below meth c Qm C H locs la hR hS hL) (fun h => kf h g p l e R s m args below meth c Qm C H locs la hR hS hL)

theorem zw_icmp_gt {x y : Int32} {off : Int} (tgt : Nat) (hd : decode mt.2.1 pc = .ok (.if_icmp .gt off, 3)) (ht : (pc : Int) + off = (tgt : Int)) (kt : y < x → Zw d mt cn tgt ls st w Q) (kf : ¬ (y < x) → Zw d mt cn (pc + 3) ls st w Q) : Zw d mt cn pc ls (.int y :: .int x :: st) w Q := by
  intro g p l e R s m args below meth c Qm C H locs la hR hS hL
  exact lv_icmp_gt C.1 C.2.1 hd ht (fun h => kt h g p l e R s m args below meth c Qm C H locs la hR hS hL) (fun h => kf h g p l e R s m args below meth c Qm C H locs la hR hS hL)

theorem zw_if_le {x : Int32} {off : Int} (tgt : Nat) (hd : decode mt.2.1 pc = .ok (.ifCond .le off, 3)) (ht : (pc : Int) + off = (tgt : Int)) (kt : x ≤ 0 → Zw d mt cn tgt ls st w Q) (kf : ¬ (x ≤ 0) → Zw d mt cn (pc + 3) ls st w Q) : Zw d mt cn pc ls (.int x :: st) w Q := by
  intro g p l e R s m args below meth c Qm C H locs la hR hS hL
  exact lv_if_le C.1 C.2.1 hd ht (fun h => kt h g p l e R s m args below meth c Qm C H locs la hR hS hL) (fun h => kf h g p l e R s m args below meth c Qm C H locs la hR hS hL)

theorem zw_icmp_le {x y : Int32} {off : Int} (tgt : Nat) (hd : decode mt.2.1 pc = .ok (.if_icmp .le off, 3)) (ht : (pc : Int) + off = (tgt : Int)) (kt : x ≤ y → Zw d mt cn tgt ls st w Q) (kf : ¬ (x ≤ y) → Zw d mt cn (pc + 3) ls st w Q) : Zw d mt cn pc ls (.int y :: .int x :: st) w Q := by
  intro g p l e R s m args below meth c Qm C H locs la hR hS hL
  exact lv_icmp_le C.1 C.2.1 hd ht (fun h => kt h g p l e R s m args below meth c Qm C H locs la hR hS hL) (fun h => kf h g p l e R s m args below meth c Qm C H locs la hR hS hL)

theorem zw_goto {off : Int} (tgt : Nat) (hd : decode mt.2.1 pc = .ok (.goto off, 3)) (ht : (pc : Int) + off = (tgt : Int)) (k : Zw d mt cn tgt ls st w Q) : Zw d mt cn pc ls st w Q := by
  intro g p l e R s m args below meth c Qm C H locs la hR hS hL
  exact lv_goto C.1 C.2.1 hd ht (k g p l e R s m args below meth c Qm C H locs la hR hS hL)
theorem zw_tableOut {dflt lo hi : Int} {offs : Array Int} {len : Nat} {x : Int32} (tgt : Nat) (hd : decode mt.2.1 pc = .ok (.tableswitch dflt lo hi offs, len)) (h : x.toInt < lo ∨ hi < x.toInt) (ht : (pc : Int) + dflt = (tgt : Int)) (k : Zw d mt cn tgt ls st w Q) : Zw d mt cn pc ls (.int x :: st) w Q := by
  intro g p l e R s m args below meth c Qm C H locs la hR hS hL
  exact lv_tableOut C.1 C.2.1 hd h ht (k g p l e R s m args below meth c Qm C H locs la hR hS hL)
theorem zw_tableIn {dflt lo hi : Int} {offs : Array Int} {len : Nat} {x : Int32} {off : Int} (tgt : Nat) (hd : decode mt.2.1 pc = .ok (.tableswitch dflt lo hi offs, len)) (h1 : ¬ x.toInt < lo) (h2 : ¬ hi < x.toInt) (ho : offs[(x.toInt - lo).toNat]? = some off) (ht : (pc : Int) + off = (tgt : Int)) (k : Zw d mt cn tgt ls st w Q) : Zw d mt cn pc ls (.int x :: st) w Q := by
  intro g p l e R s m args below meth c Qm C H locs la hR hS hL
  exact lv_tableIn C.1 C.2.1 hd h1 h2 ho ht (k g p l e R s m args below meth c Qm C H locs la hR hS hL)
theorem zw_lookup {dflt : Int} {ps : Array (Int × Int)} {len : Nat} {x : Int32} {off : Int} (tgt : Nat) (hd : decode mt.2.1 pc = .ok (.lookupswitch dflt ps, len)) (hp : (ps.toList.zip (ps.toList.drop 1)).all (fun (a, next) => a.1 < next.1) = true) (ho : Op.lookupswitch.offset ps.toList dflt x.toInt = off) (ht : (pc : Int) + off = (tgt : Int)) (k : Zw d mt cn tgt ls st w Q) : Zw d mt cn pc ls (.int x :: st) w Q := by
  intro g p l e R s m args below meth c Qm C H locs la hR hS hL
  exact lv_lookup C.1 C.2.1 hd hp ho ht (k g p l e R s m args below meth c Qm C H locs la hR hS hL)
/-- fewer locals known -/
theorem zw_drop (ls' : List (Option Value)) (h1 : ls'.length = ls.length) (h2 : ∀ (i : Nat) (v : Value), ls'[i]? = some (some v) → ls[i]? = some (some v)) (k : Zw d mt cn pc ls' st w Q) : Zw d mt cn pc ls st w Q := by
  intro g p l e R s m args below meth c Qm C H locs la hR hS hL
  exact k g p l e R s m args below meth c Qm C H locs la hR hS ⟨by rw [h1]; exact hL.1, hL.2.1, fun i v h => hL.2.2 i v (h2 i v h)⟩

theorem zw_ret {v : Option Value} (ins : Instr) (hd : decode mt.2.1 pc = .ok (ins, 1)) (hr : zRet ins v mt.2.2.2) (h1 : cn.1 ≤ cn.2.2.1) (h2 : cn.2.1 ≤ cn.2.2.2) (hQ : Q v w) : Zw d mt cn pc ls v.toList w Q := by
  intro g p l e R s m args below meth c Qm C H locs la hR hS hL
  have e : v.toList.map (zv g) = (v.map (zv g)).toList := by cases v <;> rfl
  rw [e]
  exact W.widen h1 h2 (C.2.2.2.2.2.2.2.2 v w H locs pc la ins hQ hr hd hR hS)
theorem zw_ireturn {x : Int32} (ty : FieldType) (hd : decode mt.2.1 pc = .ok (.ireturn, 1)) (ht : mt.2.2.2 = some ty) (hn : narrow ty (.int x) = .int x) (h1 : cn.1 ≤ cn.2.2.1) (h2 : cn.2.1 ≤ cn.2.2.2) (hQ : Q (some (.int x)) w) : Zw d mt cn pc ls [.int x] w Q := zw_ret (v := some (.int x)) .ireturn hd (Or.inl ⟨rfl, x, ty, rfl, ht, hn⟩) h1 h2 hQ
theorem zw_lreturn {x : Int64} (hd : decode mt.2.1 pc = .ok (.lreturn, 1)) (ht : mt.2.2.2 = some .long) (h1 : cn.1 ≤ cn.2.2.1) (h2 : cn.2.1 ≤ cn.2.2.2) (hQ : Q (some (.long x)) w) : Zw d mt cn pc ls [.long x] w Q := zw_ret (v := some (.long x)) .lreturn hd (Or.inr (Or.inl ⟨rfl, x, rfl, ht⟩)) h1 h2 hQ
theorem zw_areturn {x : Nat} (n : String) (hd : decode mt.2.1 pc = .ok (.areturn, 1)) (ht : mt.2.2.2 = some (.object n)) (h1 : cn.1 ≤ cn.2.2.1) (h2 : cn.2.1 ≤ cn.2.2.2) (hQ : Q (some (.ref x)) w) : Zw d mt cn pc ls [.ref x] w Q := zw_ret (v := some (.ref x)) .areturn hd (Or.inr (Or.inr (Or.inl ⟨rfl, x, n, rfl, ht⟩))) h1 h2 hQ
theorem zw_return (hd : decode mt.2.1 pc = .ok (.return_, 1)) (ht : mt.2.2.2 = none) (h1 : cn.1 ≤ cn.2.2.1) (h2 : cn.2.1 ≤ cn.2.2.2) (hQ : Q none w) : Zw d mt cn pc ls [] w Q := zw_ret (v := none) .return_ hd (Or.inr (Or.inr (Or.inr ⟨rfl, rfl, ht⟩))) h1 h2 hQ
end ZRULES
