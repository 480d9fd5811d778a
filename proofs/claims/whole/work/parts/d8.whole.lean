/-! THE CLAIM OUT OF ONE WALK OF THE LAW'S BODY. Your part is whole_start (and what it stands on); all else here is the same for every law, but numbers. -/
def R_law : String := "LidForEachLaw"
def lw_P (b : Addr) (xs : List Int32) (args : Array Value) (s : State) : Prop := args = #[.ref b] ∧ s.IntsAt b xs ∧ xs.length ≤ 320 ∧ (Jvm.Cond.and given_1 narrow_1).before args s = true
def lw_Q (_ : Array Value) (s : State) (o : Outcome) (t : State) : Prop := o = .returned (some (.int 1)) ∧ Framed s o t [] 600000 7302250
def lw_Z (below : List Frame) (a : Array Value) (s : State) : State → Prop := fun t => ∃ o, t.status = .running ∧ Ended t below o ∧ lw_Q a s o t
/-- the law's own end, with 1 on the stack, nothing written that was there before, its room as the claim has it -/
theorem lw_ret {p : Program} {l : Launch} {e : Env} {s : State} {m : MethodId} {below : List Frame} {meth : Method} {c : Code} {b : Nat} (hx : p.tables.exec = Jvm.exec) (hb : c.code = code) (hr : meth.sig.returnType = ret) (hlocks : meth.locks = false) {pc : Nat} {H : Heap} {ls : Array Slot} (hdg : decode code pc = .ok (.ireturn, 1)) : W p l e room_1 s m #[Value.ref b] below meth c H [] 600000 7302250 (lw_Z below #[Value.ref b] s) (F0 m pc ls [.int 1]) := by
  intro T hT X
  obtain ⟨fs, hret, hrun, hended, hW, hframe⟩ := X.leave (v := some (.int 1)) (hlocks := hlocks) (fun h => by rw [hr] at h; cases h)
  have hmeth' : T.vm.method? m = some meth := X.method'
  refine ⟨T.setFrames fs, ?_, .returned (some (.int 1)), hrun, hended, rfl, ⟨_, rfl⟩, hW, hframe⟩
  jvm_step X.here [X.here.top, hx, hb, hdg, hmeth', hr, ret, narrow_b1]
  (try refine ⟨rfl, ?_⟩); (try refine ⟨rfl, ?_⟩)
  first | (intro acts; rw [hret _ acts rfl rfl rfl]) | rw [hret _ _ rfl rfl rfl]
  exact Steps.refl _
/-- what holds at the law's entry: the machine, the code, the tables' words (any of lw_tbl by 'hts w (by decide +kernel)'), the script of L ints xs at the cell b, what the Statement gives of the start (any of its parts by flat_of_before) -/
def lw_At (p : Program) (s : State) (m : MethodId) (meth : Method) (c : Code) (b L : Nat) (xs : Nat → Int32) : Prop :=
  p.tables.exec = Jvm.exec ∧ c.code = code ∧ meth.sig.returnType = ret ∧ c.maxLocals = 4 ∧ s.vm.findClass R_law = some m.cls ∧ (∀ w ∈ lw_tbl, w.before #[Value.ref b] s = true) ∧ va_X b L xs s s.heap ∧ b < s.heap.size ∧ meth.locks = false ∧ (Jvm.Cond.and given_1 narrow_1).before #[Value.ref b] s = true ∧ meth.name = "law"
section ZSTART
variable {s : State} {b : Nat} {args : Array Value}
theorem z_arrI (h : (Cond.arrayClass .int).before args s = true) : ∃ cA : ClassId, ArrOfT s cA .int ∧ va_RA s cA .int := by
  obtain ⟨c, k, comp, h1, h2, h3⟩ := Cond.arrayClass_spec (args := args) (first := s) (o := none) (s := s) (idx := []) h
  exact ⟨c, fun N z => ⟨fun k h => (by cases h), k, h2, comp, h3⟩, h1⟩
theorem z_arrB (h : (Cond.arrayClass .byte).before args s = true) : ∃ cA : ClassId, ArrOfT s cA .byte ∧ va_RA s cA .byte := by
  obtain ⟨c, k, comp, h1, h2, h3⟩ := Cond.arrayClass_spec (args := args) (first := s) (o := none) (s := s) (idx := []) h
  exact ⟨c, fun N z => ⟨fun k h => (by cases h), k, h2, comp, h3⟩, h1⟩
theorem z_arrZ (h : (Cond.arrayClass .boolean).before args s = true) : ∃ cA : ClassId, ArrOfT s cA .boolean ∧ va_RA s cA .boolean := by
  obtain ⟨c, k, comp, h1, h2, h3⟩ := Cond.arrayClass_spec (args := args) (first := s) (o := none) (s := s) (idx := []) h
  exact ⟨c, fun N z => ⟨fun k h => (by cases h), k, h2, comp, h3⟩, h1⟩
theorem z_inst0 : Cond.instantiable RX0 3 ∈ zT := by decide +kernel
theorem z_inst1 : Cond.instantiable RX1 6 ∈ zT := by decide +kernel
theorem z_inst2 : Cond.instantiable RX2 9 ∈ zT := by decide +kernel
theorem z_inst3 : Cond.instantiable RX3 2 ∈ zT := by decide +kernel
theorem z_inst4 : Cond.instantiable RX4 5 ∈ zT := by decide +kernel
theorem z_inst5 : Cond.instantiable RX5 2 ∈ zT := by decide +kernel
theorem z_inst6 : Cond.instantiable RX6 4 ∈ zT := by decide +kernel
theorem z_inst7 : Cond.instantiable RX7 8 ∈ zT := by decide +kernel
theorem z_inst8 : Cond.instantiable RX8 14 ∈ zT := by decide +kernel
theorem z_inst9 : Cond.instantiable RX9 24 ∈ zT := by decide +kernel
theorem z_env (hts : ∀ w ∈ lw_tbl, w.before #[Value.ref b] s = true) (hgv : (Jvm.Cond.and given_1 narrow_1).before #[Value.ref b] s = true) : ∃ g : ZG, g.1 = s.heap.size ∧ g.2.1 200 = b ∧ zEnv g s := by
  have hf := flat_of_before _ hgv
  have htz : ∀ w ∈ zT, w.before #[Value.ref b] s = true := fun w hw => hts w (List.mem_filter.mp hw).1
  have hA : ∀ a : Nat, a < s.heap.size → ¬ (fun q : Nat => s.heap.size ≤ q) a := fun a h => Nat.not_le.mpr h
  obtain ⟨c0, i0, k0⟩ := u_known (C := RX0) (T := TX0) (N := 3) (n := 3) htz uX0 (htz _ z_inst0)
  obtain ⟨c1, i1, k1⟩ := u_known (C := RX1) (T := TX1) (N := 6) (n := 6) htz uX1 (htz _ z_inst1)
  obtain ⟨c2, i2, k2⟩ := u_known (C := RX2) (T := TX2) (N := 9) (n := 9) htz uX2 (htz _ z_inst2)
  obtain ⟨c3, i3, k3⟩ := u_known (C := RX3) (T := TX3) (N := 2) (n := 2) htz uX3 (htz _ z_inst3)
  obtain ⟨c4, i4, k4⟩ := u_known (C := RX4) (T := TX4) (N := 5) (n := 5) htz uX4 (htz _ z_inst4)
  obtain ⟨c5, i5, k5⟩ := u_known (C := RX5) (T := TX5) (N := 2) (n := 2) htz uX5 (htz _ z_inst5)
  obtain ⟨c6, i6, k6⟩ := u_known (C := RX6) (T := TX6) (N := 4) (n := 4) htz uX6 (htz _ z_inst6)
  obtain ⟨c7, i7, k7⟩ := u_known (C := RX7) (T := TX7) (N := 8) (n := 8) htz uX7 (htz _ z_inst7)
  obtain ⟨c8, i8, k8⟩ := u_known (C := RX8) (T := TX8) (N := 14) (n := 14) htz uX8 (htz _ z_inst8)
  obtain ⟨c9, i9, k9⟩ := u_known (C := RX9) (T := TX9) (N := 24) (n := 24) htz uX9 (htz _ z_inst9)
  obtain ⟨aI, qI, rI⟩ := z_arrI (htz _ w_arr_int)
  obtain ⟨aB, qB, rB⟩ := z_arrB (htz _ w_arr_byte)
  obtain ⟨aZ, qZ, rZ⟩ := z_arrZ (htz _ w_arr_boolean)
  have s1 : ∀ i : Nat, i < 5 → zlen.getD i 0 < 2 ^ 31 := by decide
  have s2 : ∀ i : Nat, i < 5 → (Cond.exactly (.string "LidForEach$Text" (77 + 2 * i)) "java/lang/String").before #[Value.ref b] s = true := by
    intro i hi
    rcases (show i = 0 ∨ i = 1 ∨ i = 2 ∨ i = 3 ∨ i = 4 by omega) with rfl | rfl | rfl | rfl | rfl
    · exact hf (Cond.exactly (.string "LidForEach$Text" 77) "java/lang/String") (by decide +kernel)
    · exact hf (Cond.exactly (.string "LidForEach$Text" 79) "java/lang/String") (by decide +kernel)
    · exact hf (Cond.exactly (.string "LidForEach$Text" 81) "java/lang/String") (by decide +kernel)
    · exact hf (Cond.exactly (.string "LidForEach$Text" 83) "java/lang/String") (by decide +kernel)
    · exact hf (Cond.exactly (.string "LidForEach$Text" 85) "java/lang/String") (by decide +kernel)
  have s3 : ∀ i : Nat, i < 5 → (Cond.eq (.field (.string "LidForEach$Text" (77 + 2 * i)) "java/lang/String" "coder" "B") (.int 0)).before #[Value.ref b] s = true := by
    intro i hi
    rcases (show i = 0 ∨ i = 1 ∨ i = 2 ∨ i = 3 ∨ i = 4 by omega) with rfl | rfl | rfl | rfl | rfl
    · exact hf (Cond.eq (.field (.string "LidForEach$Text" 77) "java/lang/String" "coder" "B") (.int 0)) (by decide +kernel)
    · exact hf (Cond.eq (.field (.string "LidForEach$Text" 79) "java/lang/String" "coder" "B") (.int 0)) (by decide +kernel)
    · exact hf (Cond.eq (.field (.string "LidForEach$Text" 81) "java/lang/String" "coder" "B") (.int 0)) (by decide +kernel)
    · exact hf (Cond.eq (.field (.string "LidForEach$Text" 83) "java/lang/String" "coder" "B") (.int 0)) (by decide +kernel)
    · exact hf (Cond.eq (.field (.string "LidForEach$Text" 85) "java/lang/String" "coder" "B") (.int 0)) (by decide +kernel)
  have s4 : ∀ i : Nat, i < 5 → (Cond.arrayOf (.field (.string "LidForEach$Text" (77 + 2 * i)) "java/lang/String" "value" "[B") .byte).before #[Value.ref b] s = true := by
    intro i hi
    rcases (show i = 0 ∨ i = 1 ∨ i = 2 ∨ i = 3 ∨ i = 4 by omega) with rfl | rfl | rfl | rfl | rfl
    · exact hf (Cond.arrayOf (.field (.string "LidForEach$Text" 77) "java/lang/String" "value" "[B") .byte) (by decide +kernel)
    · exact hf (Cond.arrayOf (.field (.string "LidForEach$Text" 79) "java/lang/String" "value" "[B") .byte) (by decide +kernel)
    · exact hf (Cond.arrayOf (.field (.string "LidForEach$Text" 81) "java/lang/String" "value" "[B") .byte) (by decide +kernel)
    · exact hf (Cond.arrayOf (.field (.string "LidForEach$Text" 83) "java/lang/String" "value" "[B") .byte) (by decide +kernel)
    · exact hf (Cond.arrayOf (.field (.string "LidForEach$Text" 85) "java/lang/String" "value" "[B") .byte) (by decide +kernel)
  have s5 : ∀ i : Nat, i < 5 → (Cond.eq (.length (.field (.string "LidForEach$Text" (77 + 2 * i)) "java/lang/String" "value" "[B")) (.int (Int32.ofNat (zlen.getD i 0)))).before #[Value.ref b] s = true := by
    intro i hi
    rcases (show i = 0 ∨ i = 1 ∨ i = 2 ∨ i = 3 ∨ i = 4 by omega) with rfl | rfl | rfl | rfl | rfl
    · exact hf (Cond.eq (.length (.field (.string "LidForEach$Text" 77) "java/lang/String" "value" "[B")) (.int 3)) (by decide +kernel)
    · exact hf (Cond.eq (.length (.field (.string "LidForEach$Text" 79) "java/lang/String" "value" "[B")) (.int 3)) (by decide +kernel)
    · exact hf (Cond.eq (.length (.field (.string "LidForEach$Text" 81) "java/lang/String" "value" "[B")) (.int 2)) (by decide +kernel)
    · exact hf (Cond.eq (.length (.field (.string "LidForEach$Text" 83) "java/lang/String" "value" "[B")) (.int 5)) (by decide +kernel)
    · exact hf (Cond.eq (.length (.field (.string "LidForEach$Text" 85) "java/lang/String" "value" "[B")) (.int 4)) (by decide +kernel)
  have s6 : ∀ i : Nat, i < 5 → ∀ j : Nat, j < zlen.getD i 0 → (Cond.eq (.elem (.field (.string "LidForEach$Text" (77 + 2 * i)) "java/lang/String" "value" "[B") (.int (Int32.ofNat j))) (.int ((zbyt.getD i []).getD j 0))).before #[Value.ref b] s = true := by
    intro i hi j hj
    rcases (show i = 0 ∨ i = 1 ∨ i = 2 ∨ i = 3 ∨ i = 4 by omega) with rfl | rfl | rfl | rfl | rfl
    · have hj : j < 3 := hj
      rcases (show j = 0 ∨ j = 1 ∨ j = 2 by omega) with rfl | rfl | rfl
      · exact hf (Cond.eq (.elem (.field (.string "LidForEach$Text" 77) "java/lang/String" "value" "[B") (.int 0)) (.int 98)) (by decide +kernel)
      · exact hf (Cond.eq (.elem (.field (.string "LidForEach$Text" 77) "java/lang/String" "value" "[B") (.int 1)) (.int 111)) (by decide +kernel)
      · exact hf (Cond.eq (.elem (.field (.string "LidForEach$Text" 77) "java/lang/String" "value" "[B") (.int 2)) (.int 120)) (by decide +kernel)
    · have hj : j < 3 := hj
      rcases (show j = 0 ∨ j = 1 ∨ j = 2 by omega) with rfl | rfl | rfl
      · exact hf (Cond.eq (.elem (.field (.string "LidForEach$Text" 79) "java/lang/String" "value" "[B") (.int 0)) (.int 108)) (by decide +kernel)
      · exact hf (Cond.eq (.elem (.field (.string "LidForEach$Text" 79) "java/lang/String" "value" "[B") (.int 1)) (.int 105)) (by decide +kernel)
      · exact hf (Cond.eq (.elem (.field (.string "LidForEach$Text" 79) "java/lang/String" "value" "[B") (.int 2)) (.int 100)) (by decide +kernel)
    · have hj : j < 2 := hj
      rcases (show j = 0 ∨ j = 1 by omega) with rfl | rfl
      · exact hf (Cond.eq (.elem (.field (.string "LidForEach$Text" 81) "java/lang/String" "value" "[B") (.int 0)) (.int 111)) (by decide +kernel)
      · exact hf (Cond.eq (.elem (.field (.string "LidForEach$Text" 81) "java/lang/String" "value" "[B") (.int 1)) (.int 110)) (by decide +kernel)
    · have hj : j < 5 := hj
      rcases (show j = 0 ∨ j = 1 ∨ j = 2 ∨ j = 3 ∨ j = 4 by omega) with rfl | rfl | rfl | rfl | rfl
      · exact hf (Cond.eq (.elem (.field (.string "LidForEach$Text" 83) "java/lang/String" "value" "[B") (.int 0)) (.int 103)) (by decide +kernel)
      · exact hf (Cond.eq (.elem (.field (.string "LidForEach$Text" 83) "java/lang/String" "value" "[B") (.int 1)) (.int 114)) (by decide +kernel)
      · exact hf (Cond.eq (.elem (.field (.string "LidForEach$Text" 83) "java/lang/String" "value" "[B") (.int 2)) (.int 97)) (by decide +kernel)
      · exact hf (Cond.eq (.elem (.field (.string "LidForEach$Text" 83) "java/lang/String" "value" "[B") (.int 3)) (.int 115)) (by decide +kernel)
      · exact hf (Cond.eq (.elem (.field (.string "LidForEach$Text" 83) "java/lang/String" "value" "[B") (.int 4)) (.int 112)) (by decide +kernel)
    · have hj : j < 4 := hj
      rcases (show j = 0 ∨ j = 1 ∨ j = 2 ∨ j = 3 by omega) with rfl | rfl | rfl | rfl
      · exact hf (Cond.eq (.elem (.field (.string "LidForEach$Text" 85) "java/lang/String" "value" "[B") (.int 0)) (.int 115)) (by decide +kernel)
      · exact hf (Cond.eq (.elem (.field (.string "LidForEach$Text" 85) "java/lang/String" "value" "[B") (.int 1)) (.int 111)) (by decide +kernel)
      · exact hf (Cond.eq (.elem (.field (.string "LidForEach$Text" 85) "java/lang/String" "value" "[B") (.int 2)) (.int 114)) (by decide +kernel)
      · exact hf (Cond.eq (.elem (.field (.string "LidForEach$Text" 85) "java/lang/String" "value" "[B") (.int 3)) (.int 116)) (by decide +kernel)
  have s7 : ∀ i j : Nat, i < 5 → j < 5 → i ≠ j → (Cond.not (Cond.eq (.string "LidForEach$Text" (77 + 2 * i)) (.string "LidForEach$Text" (77 + 2 * j)))).before #[Value.ref b] s = true ∨ (Cond.not (Cond.eq (.string "LidForEach$Text" (77 + 2 * j)) (.string "LidForEach$Text" (77 + 2 * i)))).before #[Value.ref b] s = true := by
    intro i j hi hj hij
    rcases (show i = 0 ∨ i = 1 ∨ i = 2 ∨ i = 3 ∨ i = 4 by omega) with rfl | rfl | rfl | rfl | rfl
    · rcases (show j = 0 ∨ j = 1 ∨ j = 2 ∨ j = 3 ∨ j = 4 by omega) with rfl | rfl | rfl | rfl | rfl
      · exact absurd rfl hij
      · exact Or.inl (hf (Cond.not (Cond.eq (.string "LidForEach$Text" 77) (.string "LidForEach$Text" 79))) (by decide +kernel))
      · exact Or.inl (hf (Cond.not (Cond.eq (.string "LidForEach$Text" 77) (.string "LidForEach$Text" 81))) (by decide +kernel))
      · exact Or.inl (hf (Cond.not (Cond.eq (.string "LidForEach$Text" 77) (.string "LidForEach$Text" 83))) (by decide +kernel))
      · exact Or.inl (hf (Cond.not (Cond.eq (.string "LidForEach$Text" 77) (.string "LidForEach$Text" 85))) (by decide +kernel))
    · rcases (show j = 0 ∨ j = 1 ∨ j = 2 ∨ j = 3 ∨ j = 4 by omega) with rfl | rfl | rfl | rfl | rfl
      · exact Or.inr (hf (Cond.not (Cond.eq (.string "LidForEach$Text" 77) (.string "LidForEach$Text" 79))) (by decide +kernel))
      · exact absurd rfl hij
      · exact Or.inl (hf (Cond.not (Cond.eq (.string "LidForEach$Text" 79) (.string "LidForEach$Text" 81))) (by decide +kernel))
      · exact Or.inl (hf (Cond.not (Cond.eq (.string "LidForEach$Text" 79) (.string "LidForEach$Text" 83))) (by decide +kernel))
      · exact Or.inl (hf (Cond.not (Cond.eq (.string "LidForEach$Text" 79) (.string "LidForEach$Text" 85))) (by decide +kernel))
    · rcases (show j = 0 ∨ j = 1 ∨ j = 2 ∨ j = 3 ∨ j = 4 by omega) with rfl | rfl | rfl | rfl | rfl
      · exact Or.inr (hf (Cond.not (Cond.eq (.string "LidForEach$Text" 77) (.string "LidForEach$Text" 81))) (by decide +kernel))
      · exact Or.inr (hf (Cond.not (Cond.eq (.string "LidForEach$Text" 79) (.string "LidForEach$Text" 81))) (by decide +kernel))
      · exact absurd rfl hij
      · exact Or.inl (hf (Cond.not (Cond.eq (.string "LidForEach$Text" 81) (.string "LidForEach$Text" 83))) (by decide +kernel))
      · exact Or.inl (hf (Cond.not (Cond.eq (.string "LidForEach$Text" 81) (.string "LidForEach$Text" 85))) (by decide +kernel))
    · rcases (show j = 0 ∨ j = 1 ∨ j = 2 ∨ j = 3 ∨ j = 4 by omega) with rfl | rfl | rfl | rfl | rfl
      · exact Or.inr (hf (Cond.not (Cond.eq (.string "LidForEach$Text" 77) (.string "LidForEach$Text" 83))) (by decide +kernel))
      · exact Or.inr (hf (Cond.not (Cond.eq (.string "LidForEach$Text" 79) (.string "LidForEach$Text" 83))) (by decide +kernel))
      · exact Or.inr (hf (Cond.not (Cond.eq (.string "LidForEach$Text" 81) (.string "LidForEach$Text" 83))) (by decide +kernel))
      · exact absurd rfl hij
      · exact Or.inl (hf (Cond.not (Cond.eq (.string "LidForEach$Text" 83) (.string "LidForEach$Text" 85))) (by decide +kernel))
    · rcases (show j = 0 ∨ j = 1 ∨ j = 2 ∨ j = 3 ∨ j = 4 by omega) with rfl | rfl | rfl | rfl | rfl
      · exact Or.inr (hf (Cond.not (Cond.eq (.string "LidForEach$Text" 77) (.string "LidForEach$Text" 85))) (by decide +kernel))
      · exact Or.inr (hf (Cond.not (Cond.eq (.string "LidForEach$Text" 79) (.string "LidForEach$Text" 85))) (by decide +kernel))
      · exact Or.inr (hf (Cond.not (Cond.eq (.string "LidForEach$Text" 81) (.string "LidForEach$Text" 85))) (by decide +kernel))
      · exact Or.inr (hf (Cond.not (Cond.eq (.string "LidForEach$Text" 83) (.string "LidForEach$Text" 85))) (by decide +kernel))
      · exact absurd rfl hij
  obtain ⟨adK, adV, hS, hK⟩ := vk_Sof (args := #[Value.ref b]) (s := s) (N := 5) (tm := fun i => .string "LidForEach$Text" (77 + 2 * i)) (len := zlen) (byt := zbyt) (A := fun q : Nat => s.heap.size ≤ q) s1 s2 s3 s4 s5 s6 s7 hA
  have hC : va_Z "java/lang/String" "COMPACT_STRINGS" "Z" (.int 1) (fun q : Nat => s.heap.size ≤ q) s s.heap := va_Zof (hts (.laysStatic "java/lang/String" "COMPACT_STRINGS" "Z") (by decide +kernel)) (hts (.initialized "java/lang/String") (by decide +kernel)) (va_eqt (hf (Cond.eq (.static "java/lang/String" "COMPACT_STRINGS" "Z") (.int 1)) (by decide +kernel))) hA
  have hF : va_Zq "jdk/internal/util/Preconditions" "SIOOBE_FORMATTER" "Ljava/util/function/BiFunction;" (fun q : Nat => s.heap.size ≤ q) s s.heap := va_Zqof (hts (.laysStatic "jdk/internal/util/Preconditions" "SIOOBE_FORMATTER" "Ljava/util/function/BiFunction;") (by decide +kernel)) (hts (.initialized "jdk/internal/util/Preconditions") (by decide +kernel)) (hf (Cond.isRef (.static "jdk/internal/util/Preconditions" "SIOOBE_FORMATTER" "Ljava/util/function/BiFunction;")) (by decide +kernel)) hA
  have hF2 : ∃ t : Nat, va_Z "jdk/internal/util/Preconditions" "SIOOBE_FORMATTER" "Ljava/util/function/BiFunction;" .null (fun q : Nat => s.heap.size ≤ q) s s.heap ∨ va_Z "jdk/internal/util/Preconditions" "SIOOBE_FORMATTER" "Ljava/util/function/BiFunction;" (.ref t) (fun q : Nat => s.heap.size ≤ q) s s.heap := by
    rcases hF with h | ⟨t, h⟩
    · exact ⟨0, Or.inl h⟩
    · exact ⟨t, Or.inr h⟩
  obtain ⟨t, hF2⟩ := hF2
  obtain ⟨dC, dI, hKc⟩ : ∃ (dC : Nat → ClassId) (dI : Nat → Nat → Nat), ∀ (k : Nat) (q : vw_C), vwCl[k]? = some q → u_Kn s q.1 q.2.1 q.2.2 (dC k) (dI k) := by
    refine ⟨fun k => if k = 0 then c0 else if k = 1 then c1 else if k = 2 then c2 else if k = 3 then c3 else if k = 4 then c4 else if k = 5 then c5 else if k = 6 then c6 else if k = 7 then c7 else if k = 8 then c8 else c9, fun k => if k = 0 then i0 else if k = 1 then i1 else if k = 2 then i2 else if k = 3 then i3 else if k = 4 then i4 else if k = 5 then i5 else if k = 6 then i6 else if k = 7 then i7 else if k = 8 then i8 else i9, ?_⟩
    intro k q hq
    match k, hq with
    | 0, hq => cases hq; exact k0
    | 1, hq => cases hq; exact k1
    | 2, hq => cases hq; exact k2
    | 3, hq => cases hq; exact k3
    | 4, hq => cases hq; exact k4
    | 5, hq => cases hq; exact k5
    | 6, hq => cases hq; exact k6
    | 7, hq => cases hq; exact k7
    | 8, hq => cases hq; exact k8
    | 9, hq => cases hq; exact k9
    | k + 10, hq => simp [vwCl] at hq
  obtain ⟨ad, e1, e2, e3, e4⟩ : ∃ ad : Nat → Nat, (∀ i, i < 5 → ad i = adK i) ∧ (∀ i, i < 5 → ad (100 + i) = adV i) ∧ ad 200 = b ∧ ad 201 = t := by
    refine ⟨fun k => if k < 100 then adK k else if k < 200 then adV (k - 100) else if k = 200 then b else t, fun i hi => if_pos (by omega), fun i hi => ?_, rfl, rfl⟩
    show (if 100 + i < 100 then _ else if 100 + i < 200 then adV (100 + i - 100) else _) = _
    rw [if_neg (by omega), if_pos (by omega), show 100 + i - 100 = i by omega]
  obtain ⟨cA, eI, eB, eZ⟩ : ∃ cA : Nat → ClassId, cA 0 = aI ∧ cA 1 = aB ∧ cA 2 = aZ := ⟨fun k => if k = 0 then aI else if k = 1 then aB else aZ, rfl, rfl, rfl⟩
  refine ⟨(s.heap.size, ad, (dC, dI), cA), rfl, e3, ⟨⟨hKc, ?_⟩, ?_, ?_⟩, ⟨⟨?_, ?_⟩, hC, ?_⟩, Nat.le_refl _⟩
  · intro k q hk
    match k, hk with
    | 0, hk => cases hk; exact ⟨(show ArrOfT s (cA 0) .int by rw [eI]; exact qI), (show va_RA s (cA 0) .int by rw [eI]; exact rI)⟩
    | 1, hk => cases hk; exact ⟨(show ArrOfT s (cA 1) .byte by rw [eB]; exact qB), (show va_RA s (cA 1) .byte by rw [eB]; exact rB)⟩
    | 2, hk => cases hk; exact ⟨(show ArrOfT s (cA 2) .boolean by rw [eZ]; exact qZ), (show va_RA s (cA 2) .boolean by rw [eZ]; exact rZ)⟩
    | k + 3, hk => simp at hk
  · intro k t hk
    match k, hk with
    | 0, hk => cases hk; exact vk_R.of (A := #[Value.ref b]) (hts (.stringRef "LidForEach$Text" 77 "box") (by decide +kernel)) (by rw [show (s.heap.size, ad, (dC, dI), cA).2.1 0 = adK 0 from e1 0 (by decide)]; exact hK 0 (by decide))
    | 1, hk => cases hk; exact vk_R.of (A := #[Value.ref b]) (hts (.stringRef "LidForEach$Text" 79 "lid") (by decide +kernel)) (by rw [show (s.heap.size, ad, (dC, dI), cA).2.1 1 = adK 1 from e1 1 (by decide)]; exact hK 1 (by decide))
    | 2, hk => cases hk; exact vk_R.of (A := #[Value.ref b]) (hts (.stringRef "LidForEach$Text" 81 "on") (by decide +kernel)) (by rw [show (s.heap.size, ad, (dC, dI), cA).2.1 2 = adK 2 from e1 2 (by decide)]; exact hK 2 (by decide))
    | 3, hk => cases hk; exact vk_R.of (A := #[Value.ref b]) (hts (.stringRef "LidForEach$Text" 83 "grasp") (by decide +kernel)) (by rw [show (s.heap.size, ad, (dC, dI), cA).2.1 3 = adK 3 from e1 3 (by decide)]; exact hK 3 (by decide))
    | 4, hk => cases hk; exact vk_R.of (A := #[Value.ref b]) (hts (.stringRef "LidForEach$Text" 85 "sort") (by decide +kernel)) (by rw [show (s.heap.size, ad, (dC, dI), cA).2.1 4 = adK 4 from e1 4 (by decide)]; exact hK 4 (by decide))
    | k + 5, hk => simp at hk
  · intro w hw
    exact va_tabs (zNest_tab (List.mem_filter.mp hw).2) rfl (hts w (List.mem_filter.mp hw).1)
  · intro i hi
    show va_O _ (ad i) _ _ _ ∧ va_OF _ _ _ _ (ad i) _ _ _ ∧ va_OF _ _ _ (.ref (ad (100 + i))) (ad i) _ _ _ ∧ va_T _ (ad (100 + i)) _ _ _ _ _
    rw [e1 i hi, e2 i hi]
    exact hS.1 i hi
  · intro i j hi hj e
    have e : ad i = ad j := e
    rw [e1 i hi, e1 j hj] at e
    exact hS.2 i j hi hj e
  · show _ ∨ va_Z _ _ _ (.ref (ad 201)) _ _ _
    rw [e4]
    exact hF2
end ZSTART
/-- the law, from its entry -/
theorem whole_start {p : Program} {e : Env} {s : State} {m : MethodId} {below : List Frame} {meth : Method} {c : Code} (l : Launch) {b L : Nat} {xs : Nat → Int32} (hL : L ≤ 320) (C0 : lw_At p s m meth c b L xs) : W p l e room_1 s m #[Value.ref b] below meth c s.heap [] 0 0 (lw_Z below #[Value.ref b] s) (entryFrame m ([Value.ref b] : List Value).toArray 4) := by
  obtain ⟨hx, hb, hr, hml, hown, hts, hX, hbl, hlocks, hgv, hnm⟩ := id C0
  obtain ⟨g, g1, g2, hE⟩ := z_env hts hgv
  have hl := lv_entry ([.ref b]) (n := 4) (Nat.le_of_ble_eq_true rfl)
  rw [lg_entry_eq]
  generalize (lg_sl ([.ref b]) ++ List.replicate (4 - (lg_sl ([.ref b])).length) Slot.unset).toArray = la at hl ⊢
  have hl : lv_has la 4 [(0, .ref b)] := hl
  have hLa : zL g [some (.ref 1000200), none, none, none] la := ⟨hl.1, hl.2.1, fun i v hi => by
    match i, hi with
    | 0, hi =>
      cases hi
      show la[0]? = some (.val (.ref (za g 1000200)))
      rw [za_s, g2]
      exact hl.2.2 (0, .ref b) List.mem_cons_self
    | 1, hi => cases hi
    | 2, hi => cases hi
    | 3, hi => cases hi
    | i + 4, hi => cases hi⟩
  refine law_start (d := 1000) (w := (0, fun _ => .inl (0, 0, fun _ => 0))) (Q := fun v _ => v = some (.int 1)) hL rfl (fun _ => rfl) g p l e room_1 s m #[.ref b] below meth c (lw_Z below #[.ref b] s) ⟨hx, hb, hml, hown, fun w hw => hts w (List.mem_filter.mp hw).1, hnm, ⟨Nat.le_of_ble_eq_true rfl, Nat.le_of_ble_eq_true rfl, Nat.le_of_ble_eq_true rfl, Nat.le_of_ble_eq_true rfl⟩, hE, ?_⟩ ⟨by rw [g2]; exact hX, by rw [g2]; exact hbl, by rw [g1, g2]; omega⟩ s.heap [] la ⟨by rw [g1]; rfl, Nat.zero_le _, fun k q h => by simp [zl] at h⟩ va_S.rf hLa
  intro v w H locs pc ls ins hQ hret hdg hR hS
  have hQ : v = some (.int 1) := hQ
  subst hQ
  rcases hret with ⟨rfl, x, ty, -, -, -⟩ | ⟨-, x, h, -⟩ | ⟨-, a, nm, h, -⟩ | ⟨-, h, -⟩
  · exact W.widen (Nat.le_of_ble_eq_true rfl) (Nat.le_of_ble_eq_true rfl) (va_forget (fun q hq => by have h := hS.2.2 q hq; rw [← g1]; exact h) (lw_ret hx hb hr hlocks hdg))
  · cases h
  · cases h
  · cases h
set_option maxHeartbeats 4000000 in
theorem lw_walk (l : Launch) (b : Addr) (xs : List Int32) : MetFree l x (headSpec (Jvm.Cond.code x code maxLocals ret :: tables_1) room_1) (lw_P b xs) (fun _ _ _ _ _ => True) lw_Q := by
  refine MetFree.of_bodyS (code := code) (maxLocals := maxLocals) (ret := ret) (by decide) ?_ ?_
  · intro args s m h hn
    obtain ⟨meth, c, h1, h2, h3, h4, h5, h6, -, -⟩ := Cond.code_spec hn (atoms_spec (ws := Jvm.Cond.code x code maxLocals ret :: tables_1) h _ List.mem_cons_self)
    exact ⟨meth, c, h1, h2, h3, h4, h5, h6⟩
  · intro p e s m args below meth c s₁ B hml0 hP _
    obtain ⟨rfl, hx, hbd, hgv⟩ := hP
    obtain ⟨scr, harrAt, hlist, hof, hsmall⟩ := hx
    obtain ⟨hcb, hkn, -, -⟩ := State.arrayAt?_spec harrAt
    have hown : s.vm.findClass R_law = some m.cls := findClass_of_methodNamed B.named
    have hts0 : ∀ c ∈ (Jvm.Cond.code x code maxLocals ret :: tables_1), c.before #[Value.ref b] s = true := atoms_spec (ws := Jvm.Cond.code x code maxLocals ret :: tables_1) B.pre
    have hts : ∀ w ∈ lw_tbl, w.before #[Value.ref b] s = true := k2_hts_sels lw_privs (fun w hw => hts0 w (List.mem_cons_of_mem _ hw)) lw_privs_ok
    have hml : c.maxLocals = 4 := B.maxLocals_eq (hts0 _ List.mem_cons_self)
    have X₀ : Stand p l e room_1 s m #[Value.ref b] below meth c s₁ [] 0 0 := Stand.of_body B
    have hh0 : s₁.heap = s.heap := by rw [B.state]; rfl
    have hsz : scr.slots.size = xs.length := by rw [← Array.length_toList, hlist, List.length_map]
    have hval : ∀ j : Nat, j < xs.length → scr.slots[j]? = some (.int (xs.getD j 0)) := fun j hj => by
      rw [← Array.getElem?_toList, hlist]
      simp [hj]
    have hbl : b < s.heap.size := (Array.getElem?_eq_some_iff.mp hcb).1
    have hX : va_X b xs.length (fun j => xs.getD j 0) s s.heap := ⟨scr, hcb, hof, hkn, hsz, hval⟩
    have K : W p l e room_1 s m #[Value.ref b] below meth c s₁.heap [] 0 0 (lw_Z below #[Value.ref b] s) (entryFrame m ([Value.ref b] : List Value).toArray 4) := by
      rw [hh0]
      exact whole_start l hbd ⟨B.exec, B.bytes, B.returns, hml, hown, hts, hX, hbl, B.notSynchronized, hgv, (name_of_methodNamed B.named B.method).1⟩
    obtain ⟨t, a1, o, b1, b2, b3⟩ := K s₁ rfl X₀
    exact ⟨t, o, a1, b1, b2, b3⟩
theorem lw_pre_spec {args : Array Value} {s : State} (h : (Jvm.Cond.and given_1 narrow_1).before args s = true) (hr : rest_1_c.before args s = true) : ∃ (b : Addr) (xs : List Int32), lw_P b xs args s := by
  have hs := flat_of_before _ h
  have hq := flat_of_before _ hr
  have hc : (Cond.count 1).before args s = true := hs _ (by decide +kernel)
  have harr : (Cond.arrayOf (.arg 0) .int).before args s = true := hs _ (by decide +kernel)
  have hle : (Cond.le (.length (.arg 0)) (.int 320)).before args s = true := hs _ (by decide +kernel)
  have hlen : (Cond.isInt (.length (.arg 0))).before args s = true := hq _ (by decide +kernel)
  have hall : (Cond.all (.arg 0) (.isInt (.elem (.arg 0) (.index 0)))).before args s = true := hq _ (by decide +kernel)
  obtain ⟨b, xs, hb, hx⟩ := State.ints_of_pre rfl harr hlen hall
  have hsm : xs.length < 2 ^ 31 := hx.choose_spec.2.2.2
  have hev : (Term.length (.arg 0)).eval args s none [] s = some (.int xs.length.toInt32) := hx.length_eval hb
  have hv := Cond.le_ints hev (show (Term.int 320).eval args s none [] s = some (.int 320) from rfl)
  have hd : xs.length.toInt32 ≤ 320 := by
    simpa [Cond.before, Cond.holds, hv] using hle
  have hN : xs.length ≤ 320 := (Int32.ofNat_le_ofNat hsm (by decide)).mp (show Int32.ofNat xs.length ≤ Int32.ofNat 320 from hd)
  exact ⟨b, xs, Cond.one_arg hc (show args[0]? = some (.ref b) from hb), hx, hN, h⟩
theorem lw_comes (l : Launch) : Comes l x (Jvm.Cond.code x code maxLocals ret :: tables_1) room_1 (fun tb e args s => Calls_1 tb e args s ∧ rest_1 tb e args s ∧ Pre_1 tb e args s)
    (fun _ _ args s o t => lw_Q args s o t) := by
  intro p e ha hc hk s m args below hf hfit hheap happ hpre
  obtain ⟨b, xs, hP⟩ := lw_pre_spec hpre.2.2 hpre.2.1
  obtain ⟨k, o, h1, h2, h3, hQ⟩ := lw_walk l b xs p e ha hc hk s m args below hf ((Spec.applies_iff_loose hf).mp happ).1 hP trivial
  exact ⟨k, o, h1, h2, h3, hQ⟩
theorem lw_frame {s t : State} {o : Outcome} {args : Array Value} (h : Framed s o t [] 600000 7302250) :
    Framed s o t (fieldLocs frame_1_writes args s ++ arrayLocs frame_1_arrays args s ++ staticLocs frame_1_statics s) 600000 7302250 := h
theorem lw_limb (L : Cond) (hL : ∀ (args : Array Value) (s t : State), L.after args s (.returned (some (.int 1))) t = true) :
    ArmFor flags0 classFile x code maxLocals ret World_1 tables_1 room_1 Calls_1 rest_1 Pre_1
      (fun tb e a s o t => postC L tb e a s o t ∧ Framed s o t (fieldLocs frame_1_writes a s ++ arrayLocs frame_1_arrays a s ++ staticLocs frame_1_statics s) 600000 7302250) := by
  intro l _ _ _ p e ha hc hk s m args below hf hfit hheap happ hpre
  obtain ⟨k, o, h1, h2, h3, rfl, hF⟩ := lw_comes l p e ha hc hk s m args below hf hfit hheap happ hpre
  exact ⟨k, _, h1, h2, h3, hL args s _, lw_frame hF⟩
theorem i_vc : Claimed_1_1 ∧ Claimed_1_2 := ⟨lw_limb limb_1_1 (fun args s t => by simp [limb_1_1, Cond.after, Cond.holds, Cond.value]), lw_limb limb_1_2 (fun args s t => Cond.after_iff.mpr (by
  first | (rw [show limb_1_2 = Cond.eq .result (.int 1) from rfl, Cond.eq_ints (x := 1) (y := 1) rfl rfl]; simp; done) | (simp [limb_1_2, Cond.value, Term.eval]; done)))⟩
