def jw_lay : List (Nat × Nat) := [(11, 11), (6, 3), (20, 8), (20, 8), (20, 320), (4, 8), (21, 600), (20, 3), (20, 7), (7, 6), (9, 11), (20, 7), (20, 49), (20, 49), (20, 49), (20, 6), (20, 6), (10, 9), (20, 4), (20, 4), (20, 4), (20, 5), (20, 5), (20, 4), (3, 7), (20, 7), (20, 5), (20, 5), (20, 5), (20, 20), (1, 3), (20, 7), (20, 20), (2, 2), (20, 25), (20, 5), (7, 6), (9, 11), (20, 7), (20, 49), (20, 49), (20, 49), (20, 6), (20, 6), (10, 9), (20, 4), (20, 4), (20, 4), (20, 5), (20, 5), (20, 4), (3, 7), (20, 7), (20, 5), (20, 5), (20, 5), (20, 20), (1, 3), (20, 7), (20, 20), (2, 2), (20, 25), (20, 5), (23, 2), (7, 6), (9, 11), (20, 7), (20, 49), (20, 49), (20, 49), (20, 6), (20, 6), (10, 9), (20, 4), (20, 4), (20, 4), (20, 5), (20, 5), (20, 4), (3, 7), (20, 7), (20, 5), (20, 5), (20, 5), (20, 20), (1, 3), (20, 7), (20, 20), (2, 2), (20, 25), (20, 5), (7, 6), (9, 11), (20, 7), (20, 49), (20, 49), (20, 49), (20, 6), (20, 6), (10, 9), (20, 4), (20, 4), (20, 4), (20, 5), (20, 5), (20, 4), (3, 7), (20, 7), (20, 5), (20, 5), (20, 5), (20, 20), (1, 3), (20, 7), (20, 20), (2, 2), (20, 25), (20, 5), (22, 2), (8, 9), (20, 5), (20, 28), (20, 210), (5, 6), (20, 64), (0, 3), (20, 16), (12, 35), (20, 8), (20, 8), (20, 320), (20, 104), (20, 104), (20, 104), (20, 600), (20, 49), (20, 49), (20, 7), (20, 5), (20, 5), (20, 5), (20, 196), (20, 14), (20, 5), (22, 2), (20, 208), (20, 208), (20, 16)]
def jw_fts : List (List Nat) := [[2, 2, 0], [0, 2, 2], [2, 2], [0, 3, 2, 2, 2, 2, 2], [2, 0, 0, 0, 0, 0, 2, 2], [2, 2, 2, 2, 1, 1], [2, 2, 2], [3, 2, 2, 2, 2, 2], [2, 2, 2, 2, 2, 2, 0, 0, 0], [0, 2, 2, 2, 2, 0, 2, 2, 0, 0, 0], [0, 2, 2, 2, 0, 2, 2, 0, 2], [2, 2, 2, 2, 2, 2, 2, 2, 2, 0, 0], [0, 0, 2, 2, 2, 2, 2, 3, 2, 2, 0, 0, 0, 0, 0, 0, 0, 0, 0, 2, 2, 2, 2, 2, 2, 2, 2, 1, 1, 2, 2, 2, 2, 2, 0]]
def jw_rfs : List (List Nat) := [[1, 5, 9, 36, 63, 118, 119, 123, 125, 0, 0], [2, 3, 4], [], [], [], [6, 0, 0, 0, 0, 0, 7, 8], [], [], [], [0, 10, 17, 24, 30, 33], [0, 11, 12, 13, 14, 0, 15, 16, 0, 0, 0], [], [], [], [], [], [], [0, 18, 19, 20, 0, 21, 22, 0, 23], [], [], [], [], [], [], [0, 0, 25, 26, 27, 28, 29], [], [], [], [], [], [0, 31, 32], [], [], [34, 35], [], [], [0, 37, 44, 51, 57, 60], [0, 38, 39, 40, 41, 0, 42, 43, 0, 0, 0], [], [], [], [], [], [], [0, 45, 46, 47, 0, 48, 49, 0, 50], [], [], [], [], [], [], [0, 0, 52, 53, 54, 55, 56], [], [], [], [], [], [0, 58, 59], [], [], [61, 62], [], [], [64, 91], [0, 65, 72, 79, 85, 88], [0, 66, 67, 68, 69, 0, 70, 71, 0, 0, 0], [], [], [], [], [], [], [0, 73, 74, 75, 0, 76, 77, 0, 78], [], [], [], [], [], [], [0, 0, 80, 81, 82, 83, 84], [], [], [], [], [], [0, 86, 87], [], [], [89, 90], [], [], [0, 92, 99, 106, 112, 115], [0, 93, 94, 95, 96, 0, 97, 98, 0, 0, 0], [], [], [], [], [], [], [0, 100, 101, 102, 0, 103, 104, 0, 105], [], [], [], [], [], [], [0, 0, 107, 108, 109, 110, 111], [], [], [], [], [], [0, 113, 114], [], [], [116, 117], [], [], [], [10, 17, 30, 120, 121, 122, 0, 0, 0], [], [], [], [10, 17, 30, 124, 0, 0], [], [9, 126, 0], [], [0, 0, 128, 129, 130, 131, 132, 0, 133, 134, 0, 0, 0, 0, 0, 0, 0, 0, 0, 135, 136, 137, 138, 139, 140, 141, 142, 0, 0, 143, 144, 145, 146, 147, 0], [], [], [], [], [], [], [], [], [], [], [], [], [], [], [], [], [], [], [], []]
def jw_sa : List (String × String × List Int) := [("StringsSheet$Reader", "ROOM", [7, 16, 4, 5, 4, 6, 1]), ("StringsSheet$Reader", "NUMBERS", [1, 3, 3, 2, 1, 2, 3]), ("StringsSheet$Reader", "LOWEST", [0, 0, 0, 0, 0, 1, 1, 1, 0, 0, 0, 0, 0, 0, 0, 0, 0, 0, 0, 0, 1]), ("StringsSheet$Reader", "HIGHEST", [99, 0, 0, (-1), (-1), 20, 9, 99, 99, (-2), (-1), 0, (-1), 0, 0, (-1), 99, 0, 20, 30, 9]), ("StringsSheet$Reckoner", "FACTORIALS", [1, 1, 2, 6, 24, 120]), ("StringsSheet$Asks", "SIZE_BODIES", [10, 11, 12, 13, 14]), ("StringsSheet$Asks", "MARK_BODIES", [20, 21, 23, 22, 22])]
def jw_tag (k : Nat) : Nat := (jw_lay.getD k (99, 0)).1
def jw_len (k : Nat) : Nat := (jw_lay.getD k (99, 0)).2
def jw_rf (k j : Nat) : Nat := (jw_rfs.getD k []).getD j 0
def jw_st (k j : Nat) : Nat := if jw_tag k < 20 then (jw_fts.getD (jw_tag k) []).getD j 9 else if jw_tag k = 20 then 0 else if jw_tag k = 21 then 4 else if jw_tag k = 22 then 3 else if jw_tag k = 23 then 2 else 9
abbrev jw_M : Type := Nat → Int → Int
def jw_up (M : jw_M) (k : Nat) (i v : Int) : jw_M := fun k' i' => if k' = k ∧ i' = i then v else M k' i'
/-- the launch; the classes' numbers and slots; where our cells begin; the array classes by tag; where the static arrays (99: the script), the String constants and their bytes lie; the script's length and ints -/
abbrev jw_G : Type := Launch × va_G × Nat × (Nat → ClassId) × (Nat → Nat) × (Nat → Nat) × (Nat → Nat) × Nat × (Nat → Int32)
abbrev jw_gl (G : jw_G) : Launch := G.1
abbrev jw_gD (G : jw_G) : va_G := G.2.1
abbrev jw_gz (G : jw_G) : Nat := G.2.2.1
abbrev jw_ga (G : jw_G) : Nat → ClassId := G.2.2.2.1
abbrev jw_gs (G : jw_G) : Nat → Nat := G.2.2.2.2.1
abbrev jw_gK (G : jw_G) : Nat → Nat := G.2.2.2.2.2.1
abbrev jw_gV (G : jw_G) : Nat → Nat := G.2.2.2.2.2.2.1
abbrev jw_gL (G : jw_G) : Nat := G.2.2.2.2.2.2.2.1
abbrev jw_gX (G : jw_G) : Nat → Int32 := G.2.2.2.2.2.2.2.2
/-- a method: its class, code, number of locals, kind of answer (0 none, 1 int, 2 long, 3 a String constant, 4 boolean), name -/
abbrev jw_Y : Type := String × ByteArray × Nat × Nat × String
abbrev jw_yo (Y : jw_Y) : String := Y.1
abbrev jw_yc (Y : jw_Y) : ByteArray := Y.2.1
abbrev jw_yn (Y : jw_Y) : Nat := Y.2.2.1
abbrev jw_yr (Y : jw_Y) : Nat := Y.2.2.2.1
abbrev jw_ym (Y : jw_Y) : String := Y.2.2.2.2
def jR (G : jw_G) (k : Nat) : Value := .ref (jw_gz G + k)
def jA (G : jw_G) (j : Nat) : Value := .ref (jw_gs G j)
def jS (G : jw_G) (x : Int) : Value := .ref (jw_gK G x.toNat)
def jw_fv (z : Nat) (w : Bool) (k j : Nat) (x : Int) : Value := if jw_st k j = 1 then jL x else if jw_st k j = 2 then (if (w || x == 1) = true then .ref (z + jw_rf k j) else .null) else jI x
def jw_ce (z : Nat) (ca : Nat → ClassId) (w : Bool) (g : Int → Int) (k : Nat) : va_E :=
  if jw_tag k < 20 then .inr (jw_tag k, (List.range (jw_len k)).map (fun j => jw_fv z w k j (g j)))
  else if jw_tag k = 23 then .inl (ca 23, jw_len k, .inr (.inr (.inr (.inr (fun j => if (w || g j == 1) = true then some (z + jw_rf k j) else none)))))
  else .inl (ca (jw_tag k), jw_len k, .inl (fun j => Int32.ofInt (g j)))
def jw_n (w : Bool) (M : jw_M) : Nat := if w = true then 148 else (M 9999 0).toNat
def jw_wl (G : jw_G) (w : Bool) (M : jw_M) : va_W := (List.range (jw_n w M)).map (fun k => (jw_gz G + k, jw_ce (jw_gz G) (jw_ga G) w (M k) k))
def jw_tys (G : jw_G) : List (ClassId × FieldType) := [(jw_ga G 20, .int), (jw_ga G 21, .byte), (jw_ga G 22, .boolean), (jw_ga G 23, .object "StringsSheet$Sheet")]
def jw_A (G : jw_G) : Nat → Prop := fun q => jw_gz G ≤ q
def jw_rg (t : Nat) (x : Int) : Prop := if t = 0 then jw_r x else if t = 1 then jw_q x else if t = 3 then x = 0 ∨ x = 1 else if t = 4 then -128 ≤ x ∧ x ≤ 127 else True
def jw_Rg (M : jw_M) : Prop := ∀ (k : Nat) (j : Int), jw_rg (jw_st k j.toNat) (M k j)
def jw_slen : List Nat := [6, 6, 5, 6, 7, 6, 3]
def jw_sbyt : List (List Int32) := [[99, 111, 114, 110, 101, 114], [115, 116, 114, 101, 101, 116], [103, 111, 111, 100, 115], [115, 101, 108, 108, 101, 114], [119, 97, 116, 99, 104, 101, 114], [99, 101, 108, 108, 97, 114], [108, 97, 119]]
def jw_stx : List (Nat × String) := [(156, "corner"), (158, "street"), (160, "goods"), (162, "seller"), (164, "watcher"), (166, "cellar"), (168, "law")]
/-- what lies outside our cells and nobody writes: static arrays, String constants -/
def jw_St (G : jw_G) (U : State) (H : Heap) : Prop :=
  (∀ (j : Nat) (q : String × String × List Int), jw_sa[j]? = some q → va_Z q.1 q.2.1 "[I" (.ref (jw_gs G j)) (jw_A G) U H ∧ va_T .int (jw_gs G j) q.2.2.length (fun i => jI (q.2.2.getD i 0)) (jw_A G) U H) ∧
  vk_S 7 jw_slen jw_sbyt (jw_gK G) (jw_gV G) (jw_A G) U H ∧ (∀ (j : Nat) (q : Nat × String), jw_stx[j]? = some q → vk_R "StringsSheet$Reader" q.1 q.2 (jw_gK G j) U) ∧
  va_Z "java/lang/String" "COMPACT_STRINGS" "Z" (.int 1) (jw_A G) U H ∧ va_Zq "jdk/internal/util/Preconditions" "SIOOBE_FORMATTER" "Ljava/util/function/BiFunction;" (jw_A G) U H ∧ va_AO "StringsSheet$Sheet" U ∧ va_T .int (jw_gs G 99) (jw_gL G) (fun j => .int (jw_gX G j)) (jw_A G) U H
theorem jw_St.kept {G : jw_G} {U : State} {H H1 : Heap} (h : jw_St G U H) (hq : ∀ a : Nat, a < H.size → ¬ jw_A G a → H1[a]? = H[a]?) : jw_St G U H1 :=
  ⟨fun j q hj => ⟨(h.1 j q hj).1.kept hq, (h.1 j q hj).2.kept hq⟩, h.2.1.kept hq, h.2.2.1, h.2.2.2.1.kept hq, h.2.2.2.2.1.kept hq, h.2.2.2.2.2.1, h.2.2.2.2.2.2.kept hq⟩
theorem jw_St.same {G : jw_G} {u U : State} {H : Heap} (hv : U.vm = u.vm) (h : jw_St G u H) : jw_St G U H :=
  ⟨fun j q hj => ⟨(h.1 j q hj).1.moved (hv ▸ Vm.Alike.refl _), (h.1 j q hj).2.moved (hv ▸ Vm.Alike.refl _)⟩, h.2.1.moved (hv ▸ Vm.Alike.refl _), fun j q hj => (h.2.2.1 j q hj).same hv, h.2.2.2.1.moved (hv ▸ Vm.Alike.refl _), h.2.2.2.2.1.moved (hv ▸ Vm.Alike.refl _), h.2.2.2.2.2.1.moved (hv ▸ Vm.Alike.refl _), h.2.2.2.2.2.2.moved (hv ▸ Vm.Alike.refl _)⟩
theorem jw_St.warm {G : jw_G} {s U : State} {H : Heap} (hW : s.WarmedH U.vm) (h : jw_St G s H) : jw_St G U H :=
  ⟨fun j q hj => ⟨(h.1 j q hj).1.moved hW.alike, (h.1 j q hj).2.moved hW.alike⟩, h.2.1.moved hW.alike, fun j q hj => (h.2.2.1 j q hj).warm hW, h.2.2.2.1.moved hW.alike, h.2.2.2.2.1.moved hW.alike, h.2.2.2.2.2.1.moved hW.alike, h.2.2.2.2.2.2.moved hW.alike⟩
/-- words that hold at every later state -/
def jw_okw : Cond → Bool
  | .fieldLinkNest .. => true
  | .methodLinkNest .. => true
  | w => goodWord w
theorem jw_warm {w : Cond} (h : jw_okw w = true) {s U : State} {args a' : Array Value} (hW : s.WarmedH U.vm) (hb : w.before args s = true) : w.before a' U = true := by
  cases w <;> first | exact va_Nw.use rfl (va_Nw.warmF hW (va_Nw.of rfl hb)) | exact va_Nw.use rfl (va_Nw.warmM hW (va_Nw.of rfl hb)) | exact word_at hW (good_of_word h) hb
def jw_tbl : List Cond := lw_tbl.filter jw_okw
theorem jw_inT {w : Cond} (h : w ∈ lw_tbl) (h2 : jw_okw w = true) : w ∈ jw_tbl := List.mem_filter.mpr ⟨h, h2⟩
theorem jw_tbl_ok : ∀ w ∈ jw_tbl, jw_okw w = true := fun _ h => (List.mem_filter.mp h).2
def jw_C (G : jw_G) (Y : jw_Y) (h kc ks : Nat) (p : Program) (s : State) (m : MethodId) (args : Array Value) (meth : Method) (c : Code) (R : Room) (cells slots : Nat) : Prop :=
  p.tables.exec = Jvm.exec ∧ c.code = jw_yc Y ∧ c.maxLocals = jw_yn Y ∧ s.vm.findClass (jw_yo Y) = some m.cls ∧ meth.name = jw_ym Y ∧ (∀ w ∈ jw_tbl, w.before args s = true) ∧ va_K (jw_gD G) vwCl (jw_tys G) s ∧ jw_St G s s.heap ∧ jw_gz G ≤ s.heap.size ∧ (h ≤ R.frames ∧ 64 * h ≤ R.locals) ∧ cells + kc ≤ R.cells ∧ slots + ks ≤ R.slots
def jw_Wd (G : jw_G) (w : Bool) (M : jw_M) (s : State) (H : Heap) (locs : List Loc) (cells : Nat) : Prop :=
  va_P (jw_gD G) vwCl (jw_wl G w M) H ∧ va_D (jw_A G) (jw_wl G w M) ∧ va_S (jw_A G) s.heap H locs ∧ (w = false → jw_gz G + jw_n false M ≤ H.size ∧ s.heap.size + cells ≤ jw_gz G + jw_n false M)
def jw_rr (rk : Nat) (v : Int) : Prop := if rk = 1 then jw_r v else if rk = 2 then jw_q v else if rk = 3 then 0 ≤ v ∧ v < 7 else if rk = 4 then v = 0 ∨ v = 1 else True
def jw_rv (G : jw_G) (rk : Nat) (v : Int) : List Value := if rk = 0 then [] else if rk = 2 then [jL v] else if rk = 3 then [jS G v] else [jI v]
def jw_ri (rk : Nat) : Instr := if rk = 0 then .return_ else if rk = 2 then .lreturn else if rk = 3 then .areturn else .ireturn
def jw_F (G : jw_G) (Y : jw_Y) (kc ks : Nat) (w : Bool) (v : Int) (M' : jw_M) (p : Program) (e : Env) (s : State) (m : MethodId) (args : Array Value) (below : List Frame) (meth : Method) (c : Code) (R : Room) (Q : State → Prop) (cells slots : Nat) : Prop :=
  ∀ (H : Heap) (locs : List Loc) (ls : Array Slot) (pc : Nat), jw_Wd G w M' s H locs (cells + kc) → decode (jw_yc Y) pc = .ok (jw_ri (jw_yr Y), 1) → W p (jw_gl G) e R s m args below meth c H locs (cells + kc) (slots + ks) Q (F0 m pc ls (jw_rv G (jw_yr Y) v))
/-- from pc, with these locals, this stack and this memory, the method comes to its end with 'res' (if that is something) -/
def jw_Rn {α : Type} (G : jw_G) (Y : jw_Y) (h kc ks : Nat) (w : Bool) (lf : α → Int × jw_M) (pc : Nat) (lv : List (Nat × Value)) (st : List Value) (M : jw_M) (res : Option α) : Prop :=
  jw_Rg M → ∀ y : α, res = some y → (jw_rr (jw_yr Y) (lf y).1 ∧ jw_Rg (lf y).2 ∧ (w = false → jw_n false (lf y).2 = jw_n false M + kc)) ∧
    ∀ (p : Program) (e : Env) (s : State) (m : MethodId) (args : Array Value) (below : List Frame) (meth : Method) (c : Code) (R : Room) (Q : State → Prop) (cells slots : Nat) (H : Heap) (locs : List Loc) (ls : Array Slot),
      jw_C G Y h kc ks p s m args meth c R cells slots → jw_Wd G w M s H locs cells → lv_has ls (jw_yn Y) lv → jw_F G Y kc ks w (lf y).1 (lf y).2 p e s m args below meth c R Q cells slots →
      W p (jw_gl G) e R s m args below meth c H locs cells slots Q (F0 m pc ls st)
theorem jw_none {α : Type} {lf : α → Int × jw_M} {G : jw_G} {Y : jw_Y} {h kc ks : Nat} {w : Bool} {pc : Nat} {lv : List (Nat × Value)} {st : List Value} {M : jw_M} : jw_Rn G Y h kc ks w lf pc lv st M none := fun _ y hr => by cases hr
/-- a check -/
theorem jw_ck {G : jw_G} {Y : jw_Y} {h kc ks : Nat} {w : Bool} {pc : Nat} {lv : List (Nat × Value)} {st : List Value} {M : jw_M} {α : Type} {lf : α → Int × jw_M} {res : Option α} {p : Prop} [Decidable p] (k : p → jw_Rn G Y h kc ks w lf pc lv st M res) : jw_Rn G Y h kc ks w lf pc lv st M (if p then res else none) := by
  by_cases hp : p
  · rw [if_pos hp]; exact k hp
  · rw [if_neg hp]; exact jw_none
/-- what holds of the memory's ranges -/
theorem jw_rgd {G : jw_G} {Y : jw_Y} {h kc ks : Nat} {w : Bool} {pc : Nat} {lv : List (Nat × Value)} {st : List Value} {M : jw_M} {α : Type} {lf : α → Int × jw_M} {res : Option α} (k : jw_Rg M → jw_Rn G Y h kc ks w lf pc lv st M res) : jw_Rn G Y h kc ks w lf pc lv st M res := fun hg => k hg hg
/-- fewer locals are listed -/
theorem jw_few {G : jw_G} {Y : jw_Y} {h kc ks : Nat} {w : Bool} {pc : Nat} {lv lv' : List (Nat × Value)} {st : List Value} {M : jw_M} {α : Type} {lf : α → Int × jw_M} {res : Option α} (is : List Nat) (hl : lv_pick lv is = lv') (k : jw_Rn G Y h kc ks w lf pc lv' st M res) : jw_Rn G Y h kc ks w lf pc lv st M res := by
  intro hg y hr
  obtain ⟨h1, h2⟩ := k hg y hr
  exact ⟨h1, fun p e s m args below meth c R Q cells slots H locs ls C P hh F => h2 p e s m args below meth c R Q cells slots H locs ls C P (lv_sub hh is hl) F⟩
/-- a step that moves neither memory nor locals -/
theorem jw_step {G : jw_G} {Y : jw_Y} {h kc ks : Nat} {w : Bool} {pc pc' : Nat} {lv : List (Nat × Value)} {st st' : List Value} {M : jw_M} {α : Type} {lf : α → Int × jw_M} {res : Option α}
    (hk : ∀ (p : Program) (e : Env) (s : State) (m : MethodId) (args : Array Value) (below : List Frame) (meth : Method) (c : Code) (R : Room) (Q : State → Prop) (cells slots : Nat) (H : Heap) (locs : List Loc) (ls : Array Slot), jw_C G Y h kc ks p s m args meth c R cells slots → jw_Wd G w M s H locs cells → lv_has ls (jw_yn Y) lv → W p (jw_gl G) e R s m args below meth c H locs cells slots Q (F0 m pc' ls st') → W p (jw_gl G) e R s m args below meth c H locs cells slots Q (F0 m pc ls st))
    (k : jw_Rn G Y h kc ks w lf pc' lv st' M res) : jw_Rn G Y h kc ks w lf pc lv st M res := by
  intro hg y hr
  obtain ⟨h1, h2⟩ := k hg y hr
  exact ⟨h1, fun p e s m args below meth c R Q cells slots H locs ls C P hh F => hk p e s m args below meth c R Q cells slots H locs ls C P hh (h2 p e s m args below meth c R Q cells slots H locs ls C P hh F)⟩
