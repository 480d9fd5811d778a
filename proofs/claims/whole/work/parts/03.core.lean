/-! ===== THE PURE MACHINE: a world is a count of cells and what each holds, references are the cells' numbers; the judgement Zw of a frame and Zm of a method speak of pure worlds alone ===== -/
/-- a cell: a row (0 int, 1 byte, 2 boolean; its length; what it holds), or an object (the number of its class, its fields) -/
abbrev ZE : Type := (Nat × Nat × (Nat → Int32)) ⊕ (Nat × List Value)
abbrev ZW : Type := Nat × (Nat → ZE)
/-- a method: its name, its code, its locals, what it returns -/
abbrev ZM : Type := MethodName × ByteArray × Nat × Option FieldType
/-- where the world lies: its first address, the addresses of constants, the classes' numbers, the row classes -/
abbrev ZG : Type := Nat × (Nat → Nat) × va_G × (Nat → ClassId)
def za (g : ZG) (i : Nat) : Nat := if i < 1000000 then g.1 + i else g.2.1 (i - 1000000)
def zv (g : ZG) (v : Value) : Value := match v with
  | .ref i => .ref (za g i)
  | .int x => .int x
  | .long x => .long x
  | .float x => .float x
  | .double x => .double x
  | .null => .null
  | .retAddr x => .retAddr x
def ze (g : ZG) (e : ZE) : va_E := match e with
  | .inl x => .inl (g.2.2.2 x.1, x.2.1, .inl x.2.2)
  | .inr o => .inr (o.1, o.2.map (zv g))
def zl (g : ZG) (w : ZW) : va_W := (List.range w.1).map (fun i => (g.1 + i, ze g (w.2 i)))
abbrev zA (g : ZG) : Nat → Prop := fun q => g.1 ≤ q
def zput (w : ZW) (i : Nat) (e : ZE) : ZW := (w.1, va_up w.2 i e)
def zadd (w : ZW) (e : ZE) : ZW := (w.1 + 1, va_up w.2 w.1 e)
def zat (w : ZW) (i : Nat) (e : ZE) : Prop := i < w.1 ∧ w.2 i = e
theorem za_lt {g : ZG} {i : Nat} (h : i < 1000000) : za g i = g.1 + i := if_pos h
theorem zv_cat (g : ZG) (v : Value) : (zv g v).category = v.category := by cases v <;> rfl
theorem zl_at {g : ZG} {w : ZW} {i : Nat} (h : i < w.1) : (zl g w)[i]? = some (g.1 + i, ze g (w.2 i)) := by
  simp [zl, h]
theorem zl_get {g : ZG} {w : ZW} {i : Nat} {q : Nat × va_E} (h : (zl g w)[i]? = some q) : i < w.1 ∧ q = (g.1 + i, ze g (w.2 i)) := by
  have hi : i < w.1 := by
    have := (List.getElem?_eq_some_iff.mp h).1
    simpa [zl] using this
  rw [zl_at hi] at h
  exact ⟨hi, (Option.some.inj h).symm⟩
theorem zl_D (g : ZG) (w : ZW) : va_D (zA g) (zl g w) := by
  refine ⟨fun i j p q hi hj e => ?_, fun k q hk => ?_⟩
  · obtain ⟨-, rfl⟩ := zl_get hi
    obtain ⟨-, rfl⟩ := zl_get hj
    dsimp only at e
    omega
  · obtain ⟨-, rfl⟩ := zl_get hk
    show g.1 ≤ g.1 + k
    omega
theorem zl_set {g : ZG} {w : ZW} {i : Nat} (e : ZE) (h : i < w.1) : (zl g w).set i (g.1 + i, ze g e) = zl g (zput w i e) := by
  apply List.ext_getElem?
  intro j
  by_cases hj : j < w.1
  · rw [zl_at (w := zput w i e) (show j < (zput w i e).1 from hj)]
    by_cases hij : i = j
    · subst hij
      rw [List.getElem?_set_self (by simpa [zl] using hj)]
      simp [zput, va_up]
    · rw [List.getElem?_set_ne hij, zl_at hj]
      simp [zput, va_up, Ne.symm hij]
  · rw [List.getElem?_eq_none (by simp [zl]; omega), List.getElem?_eq_none (by simp [zl, zput]; omega)]
theorem zl_push (g : ZG) (w : ZW) (e : ZE) : zl g w ++ [(g.1 + w.1, ze g e)] = zl g (zadd w e) := by
  simp only [zl, zadd, List.range_succ, List.map_append, List.map_cons, List.map_nil]
  congr 1
  · apply List.map_congr_left
    intro i hi
    have : i < w.1 := List.mem_range.mp hi
    simp [va_up, Nat.ne_of_lt this]
  · simp [va_up]
theorem zat.put {w : ZW} {i j : Nat} {e e' : ZE} (h : zat w j e) (hij : j ≠ i) : zat (zput w i e') j e := ⟨h.1, by show va_up w.2 i e' j = e; simp [va_up, hij]; exact h.2⟩
theorem zat.self {w : ZW} {i : Nat} {e e' : ZE} (h : zat w i e) : zat (zput w i e') i e' := ⟨h.1, by show va_up w.2 i e' i = e'; simp [va_up]⟩
/-- the heap holds the world -/
def zR (g : ZG) (w : ZW) (H : Heap) : Prop := H.size = g.1 + w.1 ∧ w.1 ≤ 1000000 ∧ va_P g.2.2.1 vwCl (zl g w) H
abbrev ztys (g : ZG) : List (ClassId × FieldType) := [(g.2.2.2 0, .int), (g.2.2.2 1, .byte), (g.2.2.2 2, .boolean)]
/-- the texts: by entry of LidForEach$Text -/
abbrev ztx : List (Nat × String) := [(77, "box"), (79, "lid"), (81, "on"), (83, "grasp"), (85, "sort")]
abbrev zlen : List Nat := [3, 3, 2, 5, 4]
abbrev zbyt : List (List Int32) := [[98, 111, 120], [108, 105, 100], [111, 110], [103, 114, 97, 115, 112], [115, 111, 114, 116]]
/-- the words that every method is given -/
def zT : List Cond := lw_tbl.filter goodWord
/-- the links among nest mates, which go on as the classes do -/
def zNest (w : Cond) : Bool := match w with
  | .fieldLinkNest .. => true
  | .methodLinkNest .. => true
  | _ => false
def zTN : List Cond := lw_tbl.filter zNest
theorem zTN_of {w : Cond} (i : Nat) (h : lw_tbl[i]? = some w) (hg : zNest w = true) : w ∈ zTN := List.mem_filter.mpr ⟨List.mem_of_getElem? h, hg⟩
theorem zNest_warm {w : Cond} (h : zNest w = true) {s U : State} (hW : s.WarmedH U.vm) (hz : va_Nw w s) : va_Nw w U := by
  cases w with
  | fieldLinkNest => exact va_Nw.warmF hW hz
  | methodLinkNest => exact va_Nw.warmM hW hz
  | _ => cases h
theorem zNest_tab {w : Cond} (h : zNest w = true) : w.onTables = true := by
  cases w with
  | fieldLinkNest => rfl
  | methodLinkNest => rfl
  | _ => cases h
def zK (g : ZG) (U : State) : Prop := va_K g.2.2.1 vwCl (ztys g) U ∧ (∀ (k : Nat) (t : Nat × String), ztx[k]? = some t → vk_R "LidForEach$Text" t.1 t.2 (g.2.1 k) U) ∧ ∀ w ∈ zTN, va_Nw w U
def zS (g : ZG) (U : State) (H : Heap) : Prop := vk_S 5 zlen zbyt g.2.1 (fun k => g.2.1 (100 + k)) (zA g) U H ∧ va_Z "java/lang/String" "COMPACT_STRINGS" "Z" (.int 1) (zA g) U H ∧ (va_Z "jdk/internal/util/Preconditions" "SIOOBE_FORMATTER" "Ljava/util/function/BiFunction;" .null (zA g) U H ∨ va_Z "jdk/internal/util/Preconditions" "SIOOBE_FORMATTER" "Ljava/util/function/BiFunction;" (.ref (g.2.1 201)) (zA g) U H)
def zEnv (g : ZG) (U : State) : Prop := zK g U ∧ zS g U U.heap ∧ g.1 ≤ U.heap.size
theorem zK.warm {g : ZG} {s U : State} (hW : s.WarmedH U.vm) (h : zK g s) : zK g U := ⟨va_K.moved hW.alike h.1, fun k t hk => vk_R.warm hW (h.2.1 k t hk), fun w hw => zNest_warm (List.mem_filter.mp hw).2 hW (h.2.2 w hw)⟩
theorem zS.go {g : ZG} {s U : State} {H H1 : Heap} (hvm : s.vm.Alike U.vm) (hq : ∀ a : Nat, a < H.size → ¬ zA g a → H1[a]? = H[a]?) (h : zS g s H) : zS g U H1 := by
  obtain ⟨h1, h2, h3⟩ := h
  refine ⟨vk_S.moved hvm (h1.kept hq), va_Z.moved hvm (h2.kept hq), ?_⟩
  rcases h3 with h | h
  · exact Or.inl (va_Z.moved hvm (h.kept hq))
  · exact Or.inr (va_Z.moved hvm (h.kept hq))
theorem zEnv.go {g : ZG} {s U : State} {H : Heap} {locs : List Loc} (hU : U.heap = H) (hW : s.WarmedH U.vm) (hS : va_S (zA g) s.heap H locs) (h : zEnv g s) : zEnv g U := by
  subst hU
  exact ⟨h.1.warm hW, h.2.1.go hW.alike hS.2.1, Nat.le_trans h.2.2 hS.1⟩
def zPc (g : ZG) (as : List Value) (w : ZW) : Array Value → State → Prop := fun a U => a = (as.map (zv g)).toArray ∧ zR g w U.heap ∧ zEnv g U
def zQc (g : ZG) (Q : Option Value → ZW → Prop) : Array Value → State → Outcome → State → Prop := fun _ st o t => ∃ (v : Option Value) (w : ZW), o = .returned (v.map (zv g)) ∧ Q v w ∧ zR g w t.heap ∧ va_F (zA g) st t
theorem zPc_blind (g : ZG) (as : List Value) (w : ZW) : FrameBlind (zPc g as w) := by
  intro a U fr mk h
  obtain ⟨h1, h2, h3, h4, h5⟩ := h
  exact ⟨h1, h2, ⟨va_K.moved (u := U) (U := U.calling fr mk a) (Vm.Alike.refl U.vm) h3.1, fun k t hk => vk_R.same (u := U) rfl (h3.2.1 k t hk), fun w hw => va_Nw.same (u := U) (zNest_tab (List.mem_filter.mp hw).2) rfl (h3.2.2 w hw)⟩, zS.go (s := U) (U := U.calling fr mk a) (Vm.Alike.refl U.vm) (fun _ _ _ => rfl) h4, h5⟩
theorem zT_of {w : Cond} (i : Nat) (h : lw_tbl[i]? = some w) (hg : goodWord w = true) : w ∈ zT := List.mem_filter.mpr ⟨List.mem_of_getElem? h, hg⟩
theorem zT_good {w : Cond} (h : w ∈ zT) : GoodIn zT (w :: zT) := by
  intro q hq
  rcases List.mem_cons.mp hq with rfl | hq
  · exact ⟨h, good_of_word (List.mem_filter.mp h).2⟩
  · exact ⟨hq, good_of_word (List.mem_filter.mp hq).2⟩
def zRet (ins : Instr) (v : Option Value) (rt : Option FieldType) : Prop :=
  (ins = .ireturn ∧ ∃ (x : Int32) (ty : FieldType), v = some (.int x) ∧ rt = some ty ∧ narrow ty (.int x) = .int x) ∨ (ins = .lreturn ∧ ∃ x : Int64, v = some (.long x) ∧ rt = some .long) ∨ (ins = .areturn ∧ ∃ (a : Nat) (n : String), v = some (.ref a) ∧ rt = some (.object n)) ∨ (ins = .return_ ∧ v = none ∧ rt = none)
def zCx (d : Nat) (mt : ZM) (mc ms : Nat) (Q : Option Value → ZW → Prop) (g : ZG) (p : Program) (l : Launch) (e : Env) (R : Room) (s : State) (m : MethodId) (args : Array Value) (below : List Frame) (meth : Method) (c : Code) (Qm : State → Prop) : Prop :=
  p.tables.exec = Jvm.exec ∧ c.code = mt.2.1 ∧ c.maxLocals = mt.2.2.1 ∧ s.vm.findClass mt.1.cls = some m.cls ∧ (∀ w ∈ zT, w.before args s = true) ∧ meth.name = mt.1.name ∧ (d ≤ R.frames ∧ 64 * d ≤ R.locals ∧ mc ≤ R.cells ∧ ms ≤ R.slots) ∧ zEnv g s ∧
  ∀ (v : Option Value) (w : ZW) (H : Heap) (locs : List Loc) (pc : Nat) (ls : Array Slot) (ins : Instr), Q v w → zRet ins v mt.2.2.2 → decode mt.2.1 pc = .ok (ins, 1) → zR g w H → va_S (zA g) s.heap H locs → W p l e R s m args below meth c H locs mc ms Qm (F0 m pc ls ((v.map (zv g)).toList))
/-- the locals, by place; none: not known -/
def zL (g : ZG) (ls : List (Option Value)) (la : Array Slot) : Prop := la.size = ls.length ∧ lv_wf la ∧ ∀ (i : Nat) (v : Value), ls[i]? = some (some v) → la[i]? = some (.val (zv g v))
abbrev ZN : Type := Nat × Nat × Nat × Nat
/-- the frame of mt at pc comes to a return with Q; cn: cells and slots made so far, and in all -/
def Zw (d : Nat) (mt : ZM) (cn : ZN) (pc : Nat) (ls : List (Option Value)) (st : List Value) (w : ZW) (Q : Option Value → ZW → Prop) : Prop :=
  ∀ (g : ZG) (p : Program) (l : Launch) (e : Env) (R : Room) (s : State) (m : MethodId) (args : Array Value) (below : List Frame) (meth : Method) (c : Code) (Qm : State → Prop), zCx d mt cn.2.2.1 cn.2.2.2 Q g p l e R s m args below meth c Qm →
  ∀ (H : Heap) (locs : List Loc) (la : Array Slot), zR g w H → va_S (zA g) s.heap H locs → zL g ls la → W p l e R s m args below meth c H locs cn.1 cn.2.1 Qm (F0 m pc la (st.map (zv g)))
abbrev zroom (d mc ms : Nat) : Room := { frames := d, cells := mc, slots := ms, locals := 64 * d }
/-- the method mt, called with as in the world w, returns with Q; mc, ms: the cells and slots it makes -/
def Zm (d : Nat) (mt : ZM) (mc ms : Nat) (as : List Value) (w : ZW) (Q : Option Value → ZW → Prop) : Prop :=
  ∀ (l : Launch) (g : ZG), Met l mt.1 (Cond.code mt.1 mt.2.1 mt.2.2.1 mt.2.2.2 :: zT) (zroom d mc ms) (zPc g as w) (zQc g Q) mc ms (zA g)
/-- entry idx of own's file is field k of class ci, for reading -/
def zF (own : String) (idx ci k : Nat) : Prop := ∃ (C : String) (T : u_T) (N : Nat), vwCl[ci]? = some (C, T, N) ∧ k < N ∧ (∀ x ∈ u_ws C T N, x ∈ zT) ∧ (Cond.fieldLink own idx (T k).1 (T k).2.1 (T k).2.2.1 ∈ zT ∨ ∃ host, Cond.fieldLinkNest own idx (T k).1 (T k).2.1 (T k).2.2.1 host ∈ zTN)
/-- for writing: its type, whether it is final -/
def zP (own : String) (idx ci k : Nat) (ty : FieldType) (fin : Bool) : Prop := ∃ (C : String) (T : u_T) (N : Nat) (ty0 : Nat → FieldType), vwCl[ci]? = some (C, T, N) ∧ k < N ∧ (∀ x ∈ u_ws C T N, x ∈ zT) ∧ Cond.fieldLink own idx (T k).1 (T k).2.1 (T k).2.2.1 ∈ zT ∧ (∀ k, k < N → parseFieldDescriptor (T k).2.2.1 = some (ty0 k)) ∧ (∀ a, a < N → ∀ b, b < N → a ≠ b → (T a).2.1 ≠ (T b).2.1) ∧ parseFieldDescriptor (T k).2.2.1 = some ty ∧ (T k).2.2.2 = fin ∧ (T k).1 = own
/-- entry idx of own's file is the class ci, of N fields, whose objects begin with fs -/
def zNew (own : String) (idx ci N : Nat) (fs : List Value) : Prop := ∃ (C : String) (T : u_T) (ty : Nat → FieldType), vwCl[ci]? = some (C, T, N) ∧ (∀ x ∈ u_ws C T N, x ∈ zT) ∧ (∀ k, k < N → parseFieldDescriptor (T k).2.2.1 = some (ty k)) ∧ Cond.classLink own idx C ∈ zT ∧ Cond.instantiable C N ∈ zT ∧ Cond.initialized C ∈ zT ∧ (∀ j, j < N → defaultValue (ty j) = vp_V fs j) ∧ ∀ g, fs.map (zv g) = fs
/-- the words of a method that may be called -/
def zOk (mt : ZM) (n : Nat) : Prop := Cond.code mt.1 mt.2.1 mt.2.2.1 mt.2.2.2 ∈ zT ∧ Cond.initialized mt.1.cls ∈ zT ∧ plainName mt.1.cls = true ∧ mt.2.2.1 ≤ 40 ∧ (mt.1.cls ≠ "java/lang/invoke/MethodHandle" ∧ mt.1.cls ≠ "java/lang/invoke/VarHandle" ∧ (parseMethodDescriptor mt.1.desc).map (fun d => d.parameters.length) = some n)
def zLk (own : String) (idx : Nat) (y : MethodName) : Prop := Cond.methodLink own idx y ∈ zT ∨ ∃ host, Cond.methodLinkNest own idx y host ∈ zTN
def zVirt (mt : ZM) : Prop := Cond.instanceMethod mt.1 ∈ zT ∧ Cond.selects mt.1.cls mt.1 mt.1 ∈ zT
def zStat (mt : ZM) : Prop := Cond.static mt.1 ∈ zT
def zCtor (mt : ZM) : Prop := mt.1.name = "<init>" ∧ Cond.instanceMethod mt.1 ∈ zT ∧ mt.2.2.2 = none
