/-! THE CLAIM OUT OF ONE WALK OF THE LAW'S BODY. Your part is whole_start (and what it stands on); all else here is the same for every law, but numbers. -/
def R_law : String := "StringsSheetLaw"
def lw_P (b : Addr) (xs : List Int32) (args : Array Value) (s : State) : Prop := args = #[.ref b] ∧ s.IntsAt b xs ∧ xs.length ≤ 384 ∧ (Jvm.Cond.and given_1 narrow_1).before args s = true
def lw_Q (_ : Array Value) (s : State) (o : Outcome) (t : State) : Prop := o = .returned (some (.int 1)) ∧ Framed s o t [] 600000 7302250
def lw_Z (below : List Frame) (a : Array Value) (s : State) : State → Prop := fun t => ∃ o, t.status = .running ∧ Ended t below o ∧ lw_Q a s o t
/-- the law's own end, with 1 on the stack, nothing written that was there before, its room as the claim has it -/
theorem lw_ret {p : Program} {l : Launch} {e : Env} {s : State} {m : MethodId} {below : List Frame} {meth : Method} {c : Code} {b : Nat} (hx : p.tables.exec = Jvm.exec) (hb : c.code = code) (hr : meth.sig.returnType = ret) (hlocks : meth.locks = false) {pc : Nat} {H : Heap} {ls : Array Slot} (hdg : decode code pc = .ok (.ireturn, 1)) : W p l e room_1 s m #[Value.ref b] below meth c H [] 600000 7302250 (lw_Z below #[Value.ref b] s) (F0 m pc ls [.int 1]) := by
  intro T hT X
  obtain ⟨fs, hret, hrun, hended, hW, hframe⟩ := X.leave (v := some (.int 1)) (hlocks := hlocks) (fun h => by rw [hr] at h; cases h)
  have hmeth' : T.vm.method? m = some meth := X.method'
  refine ⟨T.setFrames fs, ?_, .returned (some (.int 1)), hrun, hended, rfl, ⟨_, rfl⟩, hW, hframe⟩
  jvm_step X.here [X.here.top, hx, hb, hdg, hmeth', hr, ret, narrow_b1]
  (try refine ⟨rfl, ?_⟩); (try refine ⟨rfl, ?_⟩)
  first | (intro acts; rw [hret _ acts rfl rfl rfl]) | rw [hret _ _ rfl rfl rfl]
  exact Steps.refl _
/-- what holds at the law's entry: the machine, the code, the tables' words (any of lw_tbl by 'hts w (by decide +kernel)'), the script of L ints xs at the cell b, what the Statement gives of the start (any of its parts by flat_of_before) -/
def lw_At (p : Program) (s : State) (m : MethodId) (meth : Method) (c : Code) (b L : Nat) (xs : Nat → Int32) : Prop :=
  p.tables.exec = Jvm.exec ∧ c.code = code ∧ meth.sig.returnType = ret ∧ c.maxLocals = 4 ∧ s.vm.findClass R_law = some m.cls ∧ (∀ w ∈ lw_tbl, w.before #[Value.ref b] s = true) ∧ va_X b L xs s s.heap ∧ b < s.heap.size ∧ meth.locks = false ∧ (Jvm.Cond.and given_1 narrow_1).before #[Value.ref b] s = true
theorem jw_ras {s : State} {cA : ClassId} {kA : Class} {comp : ClassId} {ty : FieldType} (h1 : s.vm.findClass ("[" ++ ty.toString) = some cA) (h2 : s.vm.classes[cA]? = some kA) (h3 : kA.kind = .array comp ty) (hob : ∀ C, ty ≠ .object C) : ArrOfT s cA ty ∧ va_RA s cA ty := by
  refine ⟨fun n z => ⟨fun k h => (by cases h), kA, h2, comp, h3⟩, ?_⟩
  cases ty <;> first | exact h1 | exact absurd rfl (hob _)
/-- of the script: as a static array -/
theorem jw_xT {b L : Nat} {xs : Nat → Int32} {s : State} {A : Nat → Prop} (hX : va_X b L xs s s.heap) (hA : ¬ A b) : va_T .int b L (fun j => .int (xs j)) A s s.heap := by
  obtain ⟨scr, h1, h2, h3, h4, h5⟩ := hX
  exact ⟨scr, h1, h2, h3, by omega, by rw [h4], h5, hA⟩
abbrev jw_fl : List Cond := flatC (Jvm.Cond.and given_1 narrow_1)
section
variable {s : State} {b : Nat}
set_option maxRecDepth 100000 in
theorem jw_e0 (hs : ∀ w ∈ jw_fl, w.before #[Value.ref b] s = true) : ∀ j : Nat, j < 7 → (Cond.eq (.elem (.static "StringsSheet$Reader" "ROOM" "[I") (.int (Int32.ofNat j))) (.int (Int32.ofInt (jw_x0.getD j 0)))).before #[Value.ref b] s = true := fun j hj => hs _ ((by decide +kernel : ∀ j, j < 7 → (Cond.eq (.elem (.static "StringsSheet$Reader" "ROOM" "[I") (.int (Int32.ofNat j))) (.int (Int32.ofInt (jw_x0.getD j 0)))) ∈ jw_fl) j hj)
set_option maxRecDepth 100000 in
theorem jw_a0 {A : Nat → Prop} (hts : ∀ w ∈ lw_tbl, w.before #[Value.ref b] s = true) (hs : ∀ w ∈ jw_fl, w.before #[Value.ref b] s = true) (hA : ∀ a : Nat, a < s.heap.size → ¬ A a) : ∃ t : Nat, va_Z "StringsSheet$Reader" "ROOM" "[I" (.ref t) A s s.heap ∧ va_T .int t jw_x0.length (fun i => jI (jw_x0.getD i 0)) A s s.heap := by
  obtain ⟨t, h1, h2⟩ := va_Tof (tm := (.static "StringsSheet$Reader" "ROOM" "[I")) (ty := .int) (N := 7) (f := fun i => jI (jw_x0.getD i 0)) (A := A) (by decide) (hs (Cond.arrayOf (.static "StringsSheet$Reader" "ROOM" "[I") .int) (by decide +kernel)) (va_eqt (hs (Cond.eq (.length (.static "StringsSheet$Reader" "ROOM" "[I")) (.int (Int32.ofNat 7))) (by decide +kernel))) (fun i hi => va_eqt (jw_e0 hs i hi)) hA
  exact ⟨t, va_Zof (hts (Cond.laysStatic "StringsSheet$Reader" "ROOM" "[I") (jc_3 (List.mem_of_getElem? (i := 156) rfl))) (hts (Cond.initialized "StringsSheet$Reader") (jc_1 (List.mem_of_getElem? (i := 4) rfl))) h1 hA, h2⟩
set_option maxRecDepth 100000 in
theorem jw_e1 (hs : ∀ w ∈ jw_fl, w.before #[Value.ref b] s = true) : ∀ j : Nat, j < 7 → (Cond.eq (.elem (.static "StringsSheet$Reader" "NUMBERS" "[I") (.int (Int32.ofNat j))) (.int (Int32.ofInt (jw_x1.getD j 0)))).before #[Value.ref b] s = true := fun j hj => hs _ ((by decide +kernel : ∀ j, j < 7 → (Cond.eq (.elem (.static "StringsSheet$Reader" "NUMBERS" "[I") (.int (Int32.ofNat j))) (.int (Int32.ofInt (jw_x1.getD j 0)))) ∈ jw_fl) j hj)
set_option maxRecDepth 100000 in
theorem jw_a1 {A : Nat → Prop} (hts : ∀ w ∈ lw_tbl, w.before #[Value.ref b] s = true) (hs : ∀ w ∈ jw_fl, w.before #[Value.ref b] s = true) (hA : ∀ a : Nat, a < s.heap.size → ¬ A a) : ∃ t : Nat, va_Z "StringsSheet$Reader" "NUMBERS" "[I" (.ref t) A s s.heap ∧ va_T .int t jw_x1.length (fun i => jI (jw_x1.getD i 0)) A s s.heap := by
  obtain ⟨t, h1, h2⟩ := va_Tof (tm := (.static "StringsSheet$Reader" "NUMBERS" "[I")) (ty := .int) (N := 7) (f := fun i => jI (jw_x1.getD i 0)) (A := A) (by decide) (hs (Cond.arrayOf (.static "StringsSheet$Reader" "NUMBERS" "[I") .int) (by decide +kernel)) (va_eqt (hs (Cond.eq (.length (.static "StringsSheet$Reader" "NUMBERS" "[I")) (.int (Int32.ofNat 7))) (by decide +kernel))) (fun i hi => va_eqt (jw_e1 hs i hi)) hA
  exact ⟨t, va_Zof (hts (Cond.laysStatic "StringsSheet$Reader" "NUMBERS" "[I") (jc_3 (List.mem_of_getElem? (i := 158) rfl))) (hts (Cond.initialized "StringsSheet$Reader") (jc_1 (List.mem_of_getElem? (i := 4) rfl))) h1 hA, h2⟩
set_option maxRecDepth 100000 in
theorem jw_e2 (hs : ∀ w ∈ jw_fl, w.before #[Value.ref b] s = true) : ∀ j : Nat, j < 21 → (Cond.eq (.elem (.static "StringsSheet$Reader" "LOWEST" "[I") (.int (Int32.ofNat j))) (.int (Int32.ofInt (jw_x2.getD j 0)))).before #[Value.ref b] s = true := fun j hj => hs _ ((by decide +kernel : ∀ j, j < 21 → (Cond.eq (.elem (.static "StringsSheet$Reader" "LOWEST" "[I") (.int (Int32.ofNat j))) (.int (Int32.ofInt (jw_x2.getD j 0)))) ∈ jw_fl) j hj)
set_option maxRecDepth 100000 in
theorem jw_a2 {A : Nat → Prop} (hts : ∀ w ∈ lw_tbl, w.before #[Value.ref b] s = true) (hs : ∀ w ∈ jw_fl, w.before #[Value.ref b] s = true) (hA : ∀ a : Nat, a < s.heap.size → ¬ A a) : ∃ t : Nat, va_Z "StringsSheet$Reader" "LOWEST" "[I" (.ref t) A s s.heap ∧ va_T .int t jw_x2.length (fun i => jI (jw_x2.getD i 0)) A s s.heap := by
  obtain ⟨t, h1, h2⟩ := va_Tof (tm := (.static "StringsSheet$Reader" "LOWEST" "[I")) (ty := .int) (N := 21) (f := fun i => jI (jw_x2.getD i 0)) (A := A) (by decide) (hs (Cond.arrayOf (.static "StringsSheet$Reader" "LOWEST" "[I") .int) (by decide +kernel)) (va_eqt (hs (Cond.eq (.length (.static "StringsSheet$Reader" "LOWEST" "[I")) (.int (Int32.ofNat 21))) (by decide +kernel))) (fun i hi => va_eqt (jw_e2 hs i hi)) hA
  exact ⟨t, va_Zof (hts (Cond.laysStatic "StringsSheet$Reader" "LOWEST" "[I") (jc_3 (List.mem_of_getElem? (i := 166) rfl))) (hts (Cond.initialized "StringsSheet$Reader") (jc_1 (List.mem_of_getElem? (i := 4) rfl))) h1 hA, h2⟩
set_option maxRecDepth 100000 in
theorem jw_e3 (hs : ∀ w ∈ jw_fl, w.before #[Value.ref b] s = true) : ∀ j : Nat, j < 21 → (Cond.eq (.elem (.static "StringsSheet$Reader" "HIGHEST" "[I") (.int (Int32.ofNat j))) (.int (Int32.ofInt (jw_x3.getD j 0)))).before #[Value.ref b] s = true := fun j hj => hs _ ((by decide +kernel : ∀ j, j < 21 → (Cond.eq (.elem (.static "StringsSheet$Reader" "HIGHEST" "[I") (.int (Int32.ofNat j))) (.int (Int32.ofInt (jw_x3.getD j 0)))) ∈ jw_fl) j hj)
set_option maxRecDepth 100000 in
theorem jw_a3 {A : Nat → Prop} (hts : ∀ w ∈ lw_tbl, w.before #[Value.ref b] s = true) (hs : ∀ w ∈ jw_fl, w.before #[Value.ref b] s = true) (hA : ∀ a : Nat, a < s.heap.size → ¬ A a) : ∃ t : Nat, va_Z "StringsSheet$Reader" "HIGHEST" "[I" (.ref t) A s s.heap ∧ va_T .int t jw_x3.length (fun i => jI (jw_x3.getD i 0)) A s s.heap := by
  obtain ⟨t, h1, h2⟩ := va_Tof (tm := (.static "StringsSheet$Reader" "HIGHEST" "[I")) (ty := .int) (N := 21) (f := fun i => jI (jw_x3.getD i 0)) (A := A) (by decide) (hs (Cond.arrayOf (.static "StringsSheet$Reader" "HIGHEST" "[I") .int) (by decide +kernel)) (va_eqt (hs (Cond.eq (.length (.static "StringsSheet$Reader" "HIGHEST" "[I")) (.int (Int32.ofNat 21))) (by decide +kernel))) (fun i hi => va_eqt (jw_e3 hs i hi)) hA
  exact ⟨t, va_Zof (hts (Cond.laysStatic "StringsSheet$Reader" "HIGHEST" "[I") (jc_3 (List.mem_of_getElem? (i := 164) rfl))) (hts (Cond.initialized "StringsSheet$Reader") (jc_1 (List.mem_of_getElem? (i := 4) rfl))) h1 hA, h2⟩
set_option maxRecDepth 100000 in
theorem jw_e4 (hs : ∀ w ∈ jw_fl, w.before #[Value.ref b] s = true) : ∀ j : Nat, j < 6 → (Cond.eq (.elem (.static "StringsSheet$Reckoner" "FACTORIALS" "[I") (.int (Int32.ofNat j))) (.int (Int32.ofInt (jw_x4.getD j 0)))).before #[Value.ref b] s = true := fun j hj => hs _ ((by decide +kernel : ∀ j, j < 6 → (Cond.eq (.elem (.static "StringsSheet$Reckoner" "FACTORIALS" "[I") (.int (Int32.ofNat j))) (.int (Int32.ofInt (jw_x4.getD j 0)))) ∈ jw_fl) j hj)
set_option maxRecDepth 100000 in
theorem jw_a4 {A : Nat → Prop} (hts : ∀ w ∈ lw_tbl, w.before #[Value.ref b] s = true) (hs : ∀ w ∈ jw_fl, w.before #[Value.ref b] s = true) (hA : ∀ a : Nat, a < s.heap.size → ¬ A a) : ∃ t : Nat, va_Z "StringsSheet$Reckoner" "FACTORIALS" "[I" (.ref t) A s s.heap ∧ va_T .int t jw_x4.length (fun i => jI (jw_x4.getD i 0)) A s s.heap := by
  obtain ⟨t, h1, h2⟩ := va_Tof (tm := (.static "StringsSheet$Reckoner" "FACTORIALS" "[I")) (ty := .int) (N := 6) (f := fun i => jI (jw_x4.getD i 0)) (A := A) (by decide) (hs (Cond.arrayOf (.static "StringsSheet$Reckoner" "FACTORIALS" "[I") .int) (by decide +kernel)) (va_eqt (hs (Cond.eq (.length (.static "StringsSheet$Reckoner" "FACTORIALS" "[I")) (.int (Int32.ofNat 6))) (by decide +kernel))) (fun i hi => va_eqt (jw_e4 hs i hi)) hA
  exact ⟨t, va_Zof (hts (Cond.laysStatic "StringsSheet$Reckoner" "FACTORIALS" "[I") (jc_5 (List.mem_of_getElem? (i := 58) rfl))) (hts (Cond.initialized "StringsSheet$Reckoner") (jc_1 (List.mem_of_getElem? (i := 12) rfl))) h1 hA, h2⟩
set_option maxRecDepth 100000 in
theorem jw_e5 (hs : ∀ w ∈ jw_fl, w.before #[Value.ref b] s = true) : ∀ j : Nat, j < 5 → (Cond.eq (.elem (.static "StringsSheet$Asks" "SIZE_BODIES" "[I") (.int (Int32.ofNat j))) (.int (Int32.ofInt (jw_x5.getD j 0)))).before #[Value.ref b] s = true := fun j hj => hs _ ((by decide +kernel : ∀ j, j < 5 → (Cond.eq (.elem (.static "StringsSheet$Asks" "SIZE_BODIES" "[I") (.int (Int32.ofNat j))) (.int (Int32.ofInt (jw_x5.getD j 0)))) ∈ jw_fl) j hj)
set_option maxRecDepth 100000 in
theorem jw_a5 {A : Nat → Prop} (hts : ∀ w ∈ lw_tbl, w.before #[Value.ref b] s = true) (hs : ∀ w ∈ jw_fl, w.before #[Value.ref b] s = true) (hA : ∀ a : Nat, a < s.heap.size → ¬ A a) : ∃ t : Nat, va_Z "StringsSheet$Asks" "SIZE_BODIES" "[I" (.ref t) A s s.heap ∧ va_T .int t jw_x5.length (fun i => jI (jw_x5.getD i 0)) A s s.heap := by
  obtain ⟨t, h1, h2⟩ := va_Tof (tm := (.static "StringsSheet$Asks" "SIZE_BODIES" "[I")) (ty := .int) (N := 5) (f := fun i => jI (jw_x5.getD i 0)) (A := A) (by decide) (hs (Cond.arrayOf (.static "StringsSheet$Asks" "SIZE_BODIES" "[I") .int) (by decide +kernel)) (va_eqt (hs (Cond.eq (.length (.static "StringsSheet$Asks" "SIZE_BODIES" "[I")) (.int (Int32.ofNat 5))) (by decide +kernel))) (fun i hi => va_eqt (jw_e5 hs i hi)) hA
  exact ⟨t, va_Zof (hts (Cond.laysStatic "StringsSheet$Asks" "SIZE_BODIES" "[I") (jc_5 (List.mem_of_getElem? (i := 221) rfl))) (hts (Cond.initialized "StringsSheet$Asks") (jc_1 (List.mem_of_getElem? (i := 13) rfl))) h1 hA, h2⟩
set_option maxRecDepth 100000 in
theorem jw_e6 (hs : ∀ w ∈ jw_fl, w.before #[Value.ref b] s = true) : ∀ j : Nat, j < 5 → (Cond.eq (.elem (.static "StringsSheet$Asks" "MARK_BODIES" "[I") (.int (Int32.ofNat j))) (.int (Int32.ofInt (jw_x6.getD j 0)))).before #[Value.ref b] s = true := fun j hj => hs _ ((by decide +kernel : ∀ j, j < 5 → (Cond.eq (.elem (.static "StringsSheet$Asks" "MARK_BODIES" "[I") (.int (Int32.ofNat j))) (.int (Int32.ofInt (jw_x6.getD j 0)))) ∈ jw_fl) j hj)
set_option maxRecDepth 100000 in
theorem jw_a6 {A : Nat → Prop} (hts : ∀ w ∈ lw_tbl, w.before #[Value.ref b] s = true) (hs : ∀ w ∈ jw_fl, w.before #[Value.ref b] s = true) (hA : ∀ a : Nat, a < s.heap.size → ¬ A a) : ∃ t : Nat, va_Z "StringsSheet$Asks" "MARK_BODIES" "[I" (.ref t) A s s.heap ∧ va_T .int t jw_x6.length (fun i => jI (jw_x6.getD i 0)) A s s.heap := by
  obtain ⟨t, h1, h2⟩ := va_Tof (tm := (.static "StringsSheet$Asks" "MARK_BODIES" "[I")) (ty := .int) (N := 5) (f := fun i => jI (jw_x6.getD i 0)) (A := A) (by decide) (hs (Cond.arrayOf (.static "StringsSheet$Asks" "MARK_BODIES" "[I") .int) (by decide +kernel)) (va_eqt (hs (Cond.eq (.length (.static "StringsSheet$Asks" "MARK_BODIES" "[I")) (.int (Int32.ofNat 5))) (by decide +kernel))) (fun i hi => va_eqt (jw_e6 hs i hi)) hA
  exact ⟨t, va_Zof (hts (Cond.laysStatic "StringsSheet$Asks" "MARK_BODIES" "[I") (jc_5 (List.mem_of_getElem? (i := 223) rfl))) (hts (Cond.initialized "StringsSheet$Asks") (jc_1 (List.mem_of_getElem? (i := 13) rfl))) h1 hA, h2⟩
def jw_tm (i : Nat) : Term := .string "StringsSheet$Reader" (([156, 158, 160, 162, 164, 166, 168] : List Nat).getD i 0)
set_option maxRecDepth 100000 in
theorem jw_ss {A : Nat → Prop} (hts : ∀ w ∈ lw_tbl, w.before #[Value.ref b] s = true) (hs : ∀ w ∈ jw_fl, w.before #[Value.ref b] s = true) (hA : ∀ a : Nat, a < s.heap.size → ¬ A a) : ∃ adK adV : Nat → Nat, vk_S 7 jw_slen jw_sbyt adK adV A s s.heap ∧ ∀ (j : Nat) (q : Nat × String), jw_stx[j]? = some q → vk_R "StringsSheet$Reader" q.1 q.2 (adK j) s := by
  obtain ⟨adK, adV, h1, h2⟩ := vk_Sof (N := 7) (tm := jw_tm) (len := jw_slen) (byt := jw_sbyt) (A := A) (by decide) (fun i hi => hs _ ((by decide +kernel : ∀ i, i < 7 → (Cond.exactly (jw_tm i) "java/lang/String") ∈ jw_fl) i hi)) (fun i hi => hs _ ((by decide +kernel : ∀ i, i < 7 → (Cond.eq (.field (jw_tm i) "java/lang/String" "coder" "B") (.int 0)) ∈ jw_fl) i hi))
    (fun i hi => hs _ ((by decide +kernel : ∀ i, i < 7 → (Cond.arrayOf (.field (jw_tm i) "java/lang/String" "value" "[B") .byte) ∈ jw_fl) i hi)) (fun i hi => hs _ ((by decide +kernel : ∀ i, i < 7 → (Cond.eq (.length (.field (jw_tm i) "java/lang/String" "value" "[B")) (.int (Int32.ofNat (jw_slen.getD i 0)))) ∈ jw_fl) i hi))
    (fun i hi j hj => hs _ ((by decide +kernel : ∀ i, i < 7 → ∀ j, j < jw_slen.getD i 0 → (Cond.eq (.elem (.field (jw_tm i) "java/lang/String" "value" "[B") (.int (Int32.ofNat j))) (.int ((jw_sbyt.getD i []).getD j 0))) ∈ jw_fl) i hi j hj))
    (fun i j hi hj hne => by
      have h := (by decide +kernel : ∀ i, i < 7 → ∀ j, j < 7 → i ≠ j → (Cond.not (Cond.eq (jw_tm i) (jw_tm j))) ∈ jw_fl ∨ (Cond.not (Cond.eq (jw_tm j) (jw_tm i))) ∈ jw_fl) i hi j hj hne
      rcases h with h | h
      · exact Or.inl (hs _ h)
      · exact Or.inr (hs _ h)) hA
  refine ⟨adK, adV, h1, fun j q hj => ?_⟩
  match j, hj with
  | 0, hj => cases hj; exact vk_R.of (hts (Cond.stringRef "StringsSheet$Reader" 156 "corner") (jc_3 (List.mem_of_getElem? (i := 89) rfl))) (h2 0 (by decide))
  | 1, hj => cases hj; exact vk_R.of (hts (Cond.stringRef "StringsSheet$Reader" 158 "street") (jc_3 (List.mem_of_getElem? (i := 90) rfl))) (h2 1 (by decide))
  | 2, hj => cases hj; exact vk_R.of (hts (Cond.stringRef "StringsSheet$Reader" 160 "goods") (jc_3 (List.mem_of_getElem? (i := 91) rfl))) (h2 2 (by decide))
  | 3, hj => cases hj; exact vk_R.of (hts (Cond.stringRef "StringsSheet$Reader" 162 "seller") (jc_3 (List.mem_of_getElem? (i := 92) rfl))) (h2 3 (by decide))
  | 4, hj => cases hj; exact vk_R.of (hts (Cond.stringRef "StringsSheet$Reader" 164 "watcher") (jc_3 (List.mem_of_getElem? (i := 93) rfl))) (h2 4 (by decide))
  | 5, hj => cases hj; exact vk_R.of (hts (Cond.stringRef "StringsSheet$Reader" 166 "cellar") (jc_3 (List.mem_of_getElem? (i := 94) rfl))) (h2 5 (by decide))
  | 6, hj => cases hj; exact vk_R.of (hts (Cond.stringRef "StringsSheet$Reader" 168 "law") (jc_3 (List.mem_of_getElem? (i := 95) rfl))) (h2 6 (by decide))
  | k + 7, hj => simp [jw_stx] at hj
end
set_option maxRecDepth 100000 in
theorem jw_start (l : Launch) {p : Program} {s : State} {m : MethodId} {meth : Method} {c : Code} {b L : Nat} {xs : Nat → Int32} (hL : L ≤ 384) (C0 : lw_At p s m meth c b L xs) : ∃ G : jw_G, jw_gl G = l ∧ jw_gz G = s.heap.size ∧ jw_gL G = L ∧ jw_gs G 99 = b ∧ va_K (jw_gD G) vwCl (jw_tys G) s ∧ jw_St G s s.heap := by
  obtain ⟨hx, hb, hr, hml, hown, hts, hX, hbl, hlocks, hgv⟩ := id C0
  have hs : ∀ w ∈ jw_fl, w.before #[Value.ref b] s = true := flat_of_before _ hgv
  have hA : ∀ a : Nat, a < s.heap.size → ¬ (fun q : Nat => s.heap.size ≤ q) a := fun a h => Nat.not_le.mpr h
  obtain ⟨c0, i0, k0⟩ := u_known (C := RX0) (T := TX0) (N := 3) (n := 3) hts (fun w h => (List.mem_filter.mp (ji_0 w h)).1) (hts (.instantiable RX0 3) (jc_2 (List.mem_of_getElem? (i := 117) rfl)))
  obtain ⟨c1, i1, k1⟩ := u_known (C := RX1) (T := TX1) (N := 3) (n := 3) hts (fun w h => (List.mem_filter.mp (ji_1 w h)).1) (hts (.instantiable RX1 3) (jc_1 (List.mem_of_getElem? (i := 227) rfl)))
  obtain ⟨c2, i2, k2⟩ := u_known (C := RX2) (T := TX2) (N := 2) (n := 2) hts (fun w h => (List.mem_filter.mp (ji_2 w h)).1) (hts (.instantiable RX2 2) (jc_2 (List.mem_of_getElem? (i := 4) rfl)))
  obtain ⟨c3, i3, k3⟩ := u_known (C := RX3) (T := TX3) (N := 7) (n := 7) hts (fun w h => (List.mem_filter.mp (ji_3 w h)).1) (hts (.instantiable RX3 7) (jc_1 (List.mem_of_getElem? (i := 191) rfl)))
  obtain ⟨c4, i4, k4⟩ := u_known (C := RX4) (T := TX4) (N := 8) (n := 8) hts (fun w h => (List.mem_filter.mp (ji_4 w h)).1) (hts (.instantiable RX4 8) (jc_1 (List.mem_of_getElem? (i := 51) rfl)))
  obtain ⟨c5, i5, k5⟩ := u_known (C := RX5) (T := TX5) (N := 6) (n := 6) hts (fun w h => (List.mem_filter.mp (ji_5 w h)).1) (hts (.instantiable RX5 6) (jc_2 (List.mem_of_getElem? (i := 90) rfl)))
  obtain ⟨c6, i6, k6⟩ := u_known (C := RX6) (T := TX6) (N := 3) (n := 3) hts (fun w h => (List.mem_filter.mp (ji_6 w h)).1) (hts (.instantiable RX6 3) (jc_1 (List.mem_of_getElem? (i := 31) rfl)))
  obtain ⟨c7, i7, k7⟩ := u_known (C := RX7) (T := TX7) (N := 6) (n := 6) hts (fun w h => (List.mem_filter.mp (ji_7 w h)).1) (hts (.instantiable RX7 6) (jc_1 (List.mem_of_getElem? (i := 83) rfl)))
  obtain ⟨c8, i8, k8⟩ := u_known (C := RX8) (T := TX8) (N := 9) (n := 9) hts (fun w h => (List.mem_filter.mp (ji_8 w h)).1) (hts (.instantiable RX8 9) (jc_2 (List.mem_of_getElem? (i := 55) rfl)))
  obtain ⟨c9, i9, k9⟩ := u_known (C := RX9) (T := TX9) (N := 11) (n := 11) hts (fun w h => (List.mem_filter.mp (ji_9 w h)).1) (hts (.instantiable RX9 11) (jc_1 (List.mem_of_getElem? (i := 89) rfl)))
  obtain ⟨c10, i10, k10⟩ := u_known (C := RX10) (T := TX10) (N := 9) (n := 9) hts (fun w h => (List.mem_filter.mp (ji_10 w h)).1) (hts (.instantiable RX10 9) (jc_1 (List.mem_of_getElem? (i := 141) rfl)))
  obtain ⟨c11, i11, k11⟩ := u_known (C := RX11) (T := TX11) (N := 11) (n := 11) hts (fun w h => (List.mem_filter.mp (ji_11 w h)).1) (hts (.instantiable RX11 11) (jc_1 (List.mem_of_getElem? (i := 23) rfl)))
  obtain ⟨c12, i12, k12⟩ := u_known (C := RX12) (T := TX12) (N := 35) (n := 35) hts (fun w h => (List.mem_filter.mp (ji_12 w h)).1) (hts (.instantiable RX12 35) (jc_6 (List.mem_of_getElem? (i := 26) rfl)))
  obtain ⟨cI, kI, pI, a1, a2, a3⟩ := Cond.arrayClass_spec (hts (.arrayClass .int) (jc_1 (List.mem_of_getElem? (i := 49) rfl)))
  obtain ⟨cB, kB, pB, b1, b2, b3⟩ := Cond.arrayClass_spec (hts (.arrayClass .byte) (jc_1 (List.mem_of_getElem? (i := 81) rfl)))
  obtain ⟨cZ, kZ, pZ, z1, z2, z3⟩ := Cond.arrayClass_spec (hts (.arrayClass .boolean) (jc_2 (List.mem_of_getElem? (i := 88) rfl)))
  obtain ⟨pS, cS, kS, s1, s2, s3, s4, s5⟩ := Cond.arrayOver_spec (hts (.arrayOver (.object "StringsSheet$Sheet")) (jc_2 (List.mem_of_getElem? (i := 53) rfl)))
  obtain ⟨t0, y0, w0⟩ := jw_a0 hts hs hA
  obtain ⟨t1, y1, w1⟩ := jw_a1 hts hs hA
  obtain ⟨t2, y2, w2⟩ := jw_a2 hts hs hA
  obtain ⟨t3, y3, w3⟩ := jw_a3 hts hs hA
  obtain ⟨t4, y4, w4⟩ := jw_a4 hts hs hA
  obtain ⟨t5, y5, w5⟩ := jw_a5 hts hs hA
  obtain ⟨t6, y6, w6⟩ := jw_a6 hts hs hA
  obtain ⟨adK, adV, hS, hR⟩ := jw_ss hts hs hA
  refine ⟨(l, (fun k => [c0, c1, c2, c3, c4, c5, c6, c7, c8, c9, c10, c11, c12].getD k c0, fun k => [i0, i1, i2, i3, i4, i5, i6, i7, i8, i9, i10, i11, i12].getD k i0), s.heap.size, (fun k => if k = 20 then cI else if k = 21 then cB else if k = 22 then cZ else cS), (fun j => if j = 99 then b else [t0, t1, t2, t3, t4, t5, t6].getD j 0), adK, adV, L, xs), rfl, rfl, rfl, rfl, ⟨?_, ?_⟩, ?_, hS, hR, ?_, ?_, ?_, ?_⟩
  · intro k q hq
    match k, hq with
    | 0, hq => cases hq; exact k0
    | 1, hq => cases hq; exact k1
    | 2, hq => cases hq; exact k2
    | 3, hq => cases hq; exact k3
    | 4, hq => cases hq; exact k4
    | 5, hq => cases hq; exact k5
    | 6, hq => cases hq; exact k6
    | 7, hq => cases hq; exact k7
    | 8, hq => cases hq; exact k8
    | 9, hq => cases hq; exact k9
    | 10, hq => cases hq; exact k10
    | 11, hq => cases hq; exact k11
    | 12, hq => cases hq; exact k12
    | k + 13, hq => simp [vwCl] at hq
  · intro k q hq
    match k, hq with
    | 0, hq => cases hq; exact jw_ras a1 a2 a3 (fun C z => by cases z)
    | 1, hq => cases hq; exact jw_ras b1 b2 b3 (fun C z => by cases z)
    | 2, hq => cases hq; exact jw_ras z1 z2 z3 (fun C z => by cases z)
    | 3, hq => cases hq; exact ⟨fun n z => ⟨fun k h => (by cases h), kS, s3, pS, s4⟩, kS, pS, s3, s4, s1, s5⟩
    | k + 4, hq => simp [jw_tys] at hq
  · intro j q hq
    match j, hq with
    | 0, hq => cases hq; exact ⟨y0, w0⟩
    | 1, hq => cases hq; exact ⟨y1, w1⟩
    | 2, hq => cases hq; exact ⟨y2, w2⟩
    | 3, hq => cases hq; exact ⟨y3, w3⟩
    | 4, hq => cases hq; exact ⟨y4, w4⟩
    | 5, hq => cases hq; exact ⟨y5, w5⟩
    | 6, hq => cases hq; exact ⟨y6, w6⟩
    | k + 7, hq => simp [jw_sa] at hq
  · exact va_Zof (hts (Cond.laysStatic "java/lang/String" "COMPACT_STRINGS" "Z") (jc_3 (List.mem_of_getElem? (i := 109) rfl))) (hts (Cond.initialized "java/lang/String") (jc_1 (List.mem_of_getElem? (i := 16) rfl))) (va_eqi (hs (Cond.eq (.static "java/lang/String" "COMPACT_STRINGS" "Z") (.int 1)) (by decide +kernel))) hA
  · exact va_Zqof (hts (Cond.laysStatic "jdk/internal/util/Preconditions" "SIOOBE_FORMATTER" "Ljava/util/function/BiFunction;") (jc_3 (List.mem_of_getElem? (i := 125) rfl))) (hts (Cond.initialized "jdk/internal/util/Preconditions") (jc_1 (List.mem_of_getElem? (i := 18) rfl))) (hs (Cond.isRef (.static "jdk/internal/util/Preconditions" "SIOOBE_FORMATTER" "Ljava/util/function/BiFunction;")) (by decide +kernel)) hA
  · exact va_AO.of (hts (.arrayOver (.object "StringsSheet$Sheet")) (jc_2 (List.mem_of_getElem? (i := 53) rfl)))
  · exact jw_xT hX (hA b hbl)
