section
variable {G : jw_G} {Y : jw_Y} {h kc ks : Nat} {w : Bool} {pc : Nat} {lv : List (Nat × Value)} {st : List Value} {M : jw_M} {α : Type} {lf : α → Int × jw_M} {res : Option α}
theorem jw_iconst {n : Int} (hd : decode (jw_yc Y) pc = .ok (.iconst n, 1)) (k : jw_Rn G Y h kc ks w lf (pc + 1) lv (jI n :: st) M res) : jw_Rn G Y h kc ks w lf pc lv st M res :=
  jw_step (fun _ _ _ _ _ _ _ _ _ _ _ _ _ _ _ C _ _ k => lv_iconst C.1 C.2.1 hd rfl k) k
theorem jw_bipush {n : Int} (hd : decode (jw_yc Y) pc = .ok (.bipush n, 2)) (h1 : (decide (-128 ≤ n) && decide (n ≤ 127)) = true) (k : jw_Rn G Y h kc ks w lf (pc + 2) lv (jI n :: st) M res) : jw_Rn G Y h kc ks w lf pc lv st M res := by
  have e : (Int8.ofInt n).toInt32 = Int32.ofInt n := by
    simp only [Bool.and_eq_true, decide_eq_true_eq] at h1
    apply jw_eI
    rw [Int8.toInt_toInt32, Int8.toInt_ofInt]
    have e : (Int8.size : Int) = 256 := rfl
    unfold Int.bmod
    simp only [e]
    split <;> omega
  exact jw_step (fun _ _ _ _ _ _ _ _ _ _ _ _ _ _ _ C _ _ k => lv_bipush C.1 C.2.1 hd e k) k
theorem jw_sipush {n : Int} (hd : decode (jw_yc Y) pc = .ok (.sipush n, 3)) (h1 : (decide (-32768 ≤ n) && decide (n ≤ 32767)) = true) (k : jw_Rn G Y h kc ks w lf (pc + 3) lv (jI n :: st) M res) : jw_Rn G Y h kc ks w lf pc lv st M res := by
  have e : (Int16.ofInt n).toInt32 = Int32.ofInt n := by
    simp only [Bool.and_eq_true, decide_eq_true_eq] at h1
    apply jw_eI
    rw [Int16.toInt_toInt32, Int16.toInt_ofInt]
    have e : (Int16.size : Int) = 65536 := rfl
    unfold Int.bmod
    simp only [e]
    split <;> omega
  exact jw_step (fun _ _ _ _ _ _ _ _ _ _ _ _ _ _ _ C _ _ k => lv_sipush C.1 C.2.1 hd e k) k
theorem jw_lconst {n : Fin 2} {z : Int} (hd : decode (jw_yc Y) pc = .ok (.lconst n, 1)) (hz : Int64.ofNat (n : Nat) = Int64.ofInt z) (k : jw_Rn G Y h kc ks w lf (pc + 1) lv (jL z :: st) M res) : jw_Rn G Y h kc ks w lf pc lv st M res :=
  jw_step (fun _ _ _ _ _ _ _ _ _ _ _ _ _ _ _ C _ _ k => lv_lconst C.1 C.2.1 hd hz k) k
theorem jw_ldc {index : Nat} {n : Int} {v : Int32} (hd : decode (jw_yc Y) pc = .ok (.ldc index, 2)) (hw : Cond.constant (jw_yo Y) index v ∈ jw_tbl) (hv : v = Int32.ofInt n) (k : jw_Rn G Y h kc ks w lf (pc + 2) lv (jI n :: st) M res) : jw_Rn G Y h kc ks w lf pc lv st M res := by
  subst hv
  exact jw_step (fun _ _ _ _ _ _ _ _ _ _ _ _ _ _ _ C _ _ k => lv_ldc C.1 C.2.1 C.2.2.2.1 (C.2.2.2.2.2.1 _ hw) hd k) k
theorem jw_ldcw {index : Nat} {n : Int} {v : Int32} (hd : decode (jw_yc Y) pc = .ok (.ldc_w index, 3)) (hw : Cond.constant (jw_yo Y) index v ∈ jw_tbl) (hv : v = Int32.ofInt n) (k : jw_Rn G Y h kc ks w lf (pc + 3) lv (jI n :: st) M res) : jw_Rn G Y h kc ks w lf pc lv st M res := by
  subst hv
  exact jw_step (fun _ _ _ _ _ _ _ _ _ _ _ _ _ _ _ C _ _ k => lv_ldcw C.1 C.2.1 C.2.2.2.1 (C.2.2.2.2.2.1 _ hw) hd k) k
theorem jw_ldc2 {index : Nat} {n : Int} {v : Int64} (hd : decode (jw_yc Y) pc = .ok (.ldc2_w index, 3)) (hw : Cond.constantLong (jw_yo Y) index v ∈ jw_tbl) (hv : v = Int64.ofInt n) (k : jw_Rn G Y h kc ks w lf (pc + 3) lv (jL n :: st) M res) : jw_Rn G Y h kc ks w lf pc lv st M res := by
  subst hv
  exact jw_step (fun _ _ _ _ _ _ _ _ _ _ _ _ _ _ _ C _ _ k => lv_ldc2 C.1 C.2.1 C.2.2.2.1 (C.2.2.2.2.2.1 _ hw) hd k) k
theorem jw_iload_n {i : Fin 4} {x : Int} (j : Nat) (hd : decode (jw_yc Y) pc = .ok (.iload_n i, 1)) (hl : lv[j]? = some ((i : Nat), jI x)) (k : jw_Rn G Y h kc ks w lf (pc + 1) lv (jI x :: st) M res) : jw_Rn G Y h kc ks w lf pc lv st M res :=
  jw_step (fun _ _ _ _ _ _ _ _ _ _ _ _ _ _ _ C _ hh k => lv_iload_n C.1 C.2.1 hd rfl (lv_at hh j hl) k) k
theorem jw_iload {i : Nat} {x : Int} (j : Nat) (hd : decode (jw_yc Y) pc = .ok (.iload i, 2)) (hl : lv[j]? = some (i, jI x)) (k : jw_Rn G Y h kc ks w lf (pc + 2) lv (jI x :: st) M res) : jw_Rn G Y h kc ks w lf pc lv st M res :=
  jw_step (fun _ _ _ _ _ _ _ _ _ _ _ _ _ _ _ C _ hh k => lv_iload C.1 C.2.1 hd (lv_at hh j hl) k) k
theorem jw_lload_n {i : Fin 4} {x : Int} (j : Nat) (hd : decode (jw_yc Y) pc = .ok (.lload_n i, 1)) (hl : lv[j]? = some ((i : Nat), jL x)) (k : jw_Rn G Y h kc ks w lf (pc + 1) lv (jL x :: st) M res) : jw_Rn G Y h kc ks w lf pc lv st M res :=
  jw_step (fun _ _ _ _ _ _ _ _ _ _ _ _ _ _ _ C _ hh k => lv_lload_n C.1 C.2.1 hd rfl (lv_at hh j hl) k) k
theorem jw_lload {i : Nat} {x : Int} (j : Nat) (hd : decode (jw_yc Y) pc = .ok (.lload i, 2)) (hl : lv[j]? = some (i, jL x)) (k : jw_Rn G Y h kc ks w lf (pc + 2) lv (jL x :: st) M res) : jw_Rn G Y h kc ks w lf pc lv st M res :=
  jw_step (fun _ _ _ _ _ _ _ _ _ _ _ _ _ _ _ C _ hh k => lv_lload C.1 C.2.1 hd (lv_at hh j hl) k) k
theorem jw_aload_n {i : Fin 4} {x : Nat} (j : Nat) (hd : decode (jw_yc Y) pc = .ok (.aload_n i, 1)) (hl : lv[j]? = some ((i : Nat), .ref x)) (k : jw_Rn G Y h kc ks w lf (pc + 1) lv (.ref x :: st) M res) : jw_Rn G Y h kc ks w lf pc lv st M res :=
  jw_step (fun _ _ _ _ _ _ _ _ _ _ _ _ _ _ _ C _ hh k => lv_aload_n C.1 C.2.1 hd rfl (lv_at hh j hl) k) k
theorem jw_aloadR {i : Fin 4} {o : Nat} (j : Nat) (hd : decode (jw_yc Y) pc = .ok (.aload_n i, 1)) (hl : lv[j]? = some ((i : Nat), jR G o)) (k : jw_Rn G Y h kc ks w lf (pc + 1) lv (jR G o :: st) M res) : jw_Rn G Y h kc ks w lf pc lv st M res := jw_aload_n j hd hl k
theorem jw_aloadS {i : Fin 4} {o : Int} (j : Nat) (hd : decode (jw_yc Y) pc = .ok (.aload_n i, 1)) (hl : lv[j]? = some ((i : Nat), jS G o)) (k : jw_Rn G Y h kc ks w lf (pc + 1) lv (jS G o :: st) M res) : jw_Rn G Y h kc ks w lf pc lv st M res := jw_aload_n j hd hl k
theorem jw_lset {pc' : Nat} {lv lv' : List (Nat × Value)} {st st' : List Value}
    (hk : ∀ (p : Program) (e : Env) (s : State) (m : MethodId) (args : Array Value) (below : List Frame) (meth : Method) (c : Code) (R : Room) (Q : State → Prop) (cells slots : Nat) (H : Heap) (locs : List Loc) (ls : Array Slot), jw_C G Y h kc ks p s m args meth c R cells slots → jw_Wd G w M s H locs cells → lv_has ls (jw_yn Y) lv → (∀ ls', lv_has ls' (jw_yn Y) lv' → W p (jw_gl G) e R s m args below meth c H locs cells slots Q (F0 m pc' ls' st')) → W p (jw_gl G) e R s m args below meth c H locs cells slots Q (F0 m pc ls st))
    (k : jw_Rn G Y h kc ks w lf pc' lv' st' M res) : jw_Rn G Y h kc ks w lf pc lv st M res := by
  intro hg y hr
  obtain ⟨h1, h2⟩ := k hg y hr
  exact ⟨h1, fun p e s m args below meth c R Q cells slots H locs ls C P hh F => hk p e s m args below meth c R Q cells slots H locs ls C P hh (fun ls' hl' => h2 p e s m args below meth c R Q cells slots H locs ls' C P hl' F)⟩
theorem jw_istore_n {i : Fin 4} {x : Int} {lv' : List (Nat × Value)} (hd : decode (jw_yc Y) pc = .ok (.istore_n i, 1)) (hn : (i : Nat) < jw_yn Y) (hl : ((i : Nat), jI x) :: lv.filter (fun q => !(q.1 == (i : Nat)) && !(q.1 + 1 == (i : Nat) && q.2.category == 2)) = lv') (k : jw_Rn G Y h kc ks w lf (pc + 1) lv' st M res) : jw_Rn G Y h kc ks w lf pc lv (jI x :: st) M res :=
  jw_lset (fun _ _ _ _ _ _ _ _ _ _ _ _ _ _ _ C _ hh k => lv_istore_n C.1 C.2.1 hd rfl hh hn hl k) k
theorem jw_istore {i : Nat} {x : Int} {lv' : List (Nat × Value)} (hd : decode (jw_yc Y) pc = .ok (.istore i, 2)) (hn : i < jw_yn Y) (hl : (i, jI x) :: lv.filter (fun q => !(q.1 == i) && !(q.1 + 1 == i && q.2.category == 2)) = lv') (k : jw_Rn G Y h kc ks w lf (pc + 2) lv' st M res) : jw_Rn G Y h kc ks w lf pc lv (jI x :: st) M res :=
  jw_lset (fun _ _ _ _ _ _ _ _ _ _ _ _ _ _ _ C _ hh k => lv_istore C.1 C.2.1 hd hh hn hl k) k
theorem jw_lstore_n {i : Fin 4} {x : Int} {lv' : List (Nat × Value)} (hd : decode (jw_yc Y) pc = .ok (.lstore_n i, 1)) (hn : (i : Nat) + 1 < jw_yn Y) (hl : ((i : Nat), jL x) :: lv.filter (fun q => !(q.1 == (i : Nat)) && (!(q.1 == (i : Nat) + 1) && !(q.1 + 1 == (i : Nat) && q.2.category == 2))) = lv') (k : jw_Rn G Y h kc ks w lf (pc + 1) lv' st M res) : jw_Rn G Y h kc ks w lf pc lv (jL x :: st) M res :=
  jw_lset (fun _ _ _ _ _ _ _ _ _ _ _ _ _ _ _ C _ hh k => lv_lstore_n C.1 C.2.1 hd rfl hh hn hl k) k
theorem jw_lstore {i : Nat} {x : Int} {lv' : List (Nat × Value)} (hd : decode (jw_yc Y) pc = .ok (.lstore i, 2)) (hn : i + 1 < jw_yn Y) (hl : (i, jL x) :: lv.filter (fun q => !(q.1 == i) && (!(q.1 == i + 1) && !(q.1 + 1 == i && q.2.category == 2))) = lv') (k : jw_Rn G Y h kc ks w lf (pc + 2) lv' st M res) : jw_Rn G Y h kc ks w lf pc lv (jL x :: st) M res :=
  jw_lset (fun _ _ _ _ _ _ _ _ _ _ _ _ _ _ _ C _ hh k => lv_lstore C.1 C.2.1 hd hh hn hl k) k
theorem jw_iinc {i : Nat} {n x : Int} (j : Nat) {lv' : List (Nat × Value)} (hd : decode (jw_yc Y) pc = .ok (.iinc i n, 3)) (hj : lv[j]? = some (i, jI x)) (hn : i < jw_yn Y) (hl : (i, jI (jw_w (x + n))) :: lv.filter (fun q => !(q.1 == i) && !(q.1 + 1 == i && q.2.category == 2)) = lv') (k : jw_Rn G Y h kc ks w lf (pc + 3) lv' st M res) : jw_Rn G Y h kc ks w lf pc lv st M res :=
  jw_lset (fun _ _ _ _ _ _ _ _ _ _ _ _ _ _ _ C _ hh k => lv_iinc C.1 C.2.1 hd hh hj (jw_add x n) hn hl k) k
theorem jw_iadd {a b : Int} (hd : decode (jw_yc Y) pc = .ok (.iadd, 1)) (k : jw_Rn G Y h kc ks w lf (pc + 1) lv (jI (jw_w (a + b)) :: st) M res) : jw_Rn G Y h kc ks w lf pc lv (jI b :: jI a :: st) M res :=
  jw_step (fun _ _ _ _ _ _ _ _ _ _ _ _ _ _ _ C _ _ k => by unfold jI at k; rw [← jw_add] at k; exact lv_iadd C.1 C.2.1 hd k) k
theorem jw_isub {a b : Int} (hd : decode (jw_yc Y) pc = .ok (.isub, 1)) (k : jw_Rn G Y h kc ks w lf (pc + 1) lv (jI (jw_w (a - b)) :: st) M res) : jw_Rn G Y h kc ks w lf pc lv (jI b :: jI a :: st) M res :=
  jw_step (fun _ _ _ _ _ _ _ _ _ _ _ _ _ _ _ C _ _ k => by unfold jI at k; rw [← jw_sub] at k; exact lv_isub C.1 C.2.1 hd k) k
theorem jw_imul {a b : Int} (hd : decode (jw_yc Y) pc = .ok (.imul, 1)) (k : jw_Rn G Y h kc ks w lf (pc + 1) lv (jI (jw_w (a * b)) :: st) M res) : jw_Rn G Y h kc ks w lf pc lv (jI b :: jI a :: st) M res :=
  jw_step (fun _ _ _ _ _ _ _ _ _ _ _ _ _ _ _ C _ _ k => by unfold jI at k; rw [← jw_mul] at k; exact lv_imul C.1 C.2.1 hd k) k
theorem jw_ineg {a : Int} (hd : decode (jw_yc Y) pc = .ok (.ineg, 1)) (k : jw_Rn G Y h kc ks w lf (pc + 1) lv (jI (jw_w (-a)) :: st) M res) : jw_Rn G Y h kc ks w lf pc lv (jI a :: st) M res :=
  jw_step (fun _ _ _ _ _ _ _ _ _ _ _ _ _ _ _ C _ _ k => by unfold jI at k; rw [← jw_neg] at k; exact lv_ineg C.1 C.2.1 hd k) k
theorem jw_ladd {a b : Int} (hd : decode (jw_yc Y) pc = .ok (.ladd, 1)) (k : jw_Rn G Y h kc ks w lf (pc + 1) lv (jL (jw_v (a + b)) :: st) M res) : jw_Rn G Y h kc ks w lf pc lv (jL b :: jL a :: st) M res :=
  jw_step (fun _ _ _ _ _ _ _ _ _ _ _ _ _ _ _ C _ _ k => by unfold jL at k; rw [← jw_addL] at k; exact lv_ladd C.1 C.2.1 hd k) k
theorem jw_lsub {a b : Int} (hd : decode (jw_yc Y) pc = .ok (.lsub, 1)) (k : jw_Rn G Y h kc ks w lf (pc + 1) lv (jL (jw_v (a - b)) :: st) M res) : jw_Rn G Y h kc ks w lf pc lv (jL b :: jL a :: st) M res :=
  jw_step (fun _ _ _ _ _ _ _ _ _ _ _ _ _ _ _ C _ _ k => by unfold jL at k; rw [← jw_subL] at k; exact lv_lsub C.1 C.2.1 hd k) k
theorem jw_lmul {a b : Int} (hd : decode (jw_yc Y) pc = .ok (.lmul, 1)) (k : jw_Rn G Y h kc ks w lf (pc + 1) lv (jL (jw_v (a * b)) :: st) M res) : jw_Rn G Y h kc ks w lf pc lv (jL b :: jL a :: st) M res :=
  jw_step (fun _ _ _ _ _ _ _ _ _ _ _ _ _ _ _ C _ _ k => by unfold jL at k; rw [← jw_mulL] at k; exact lv_lmul C.1 C.2.1 hd k) k
theorem jw_lneg {a : Int} (hd : decode (jw_yc Y) pc = .ok (.lneg, 1)) (k : jw_Rn G Y h kc ks w lf (pc + 1) lv (jL (jw_v (-a)) :: st) M res) : jw_Rn G Y h kc ks w lf pc lv (jL a :: st) M res :=
  jw_step (fun _ _ _ _ _ _ _ _ _ _ _ _ _ _ _ C _ _ k => by unfold jL at k; rw [← jw_negL] at k; exact lv_lneg C.1 C.2.1 hd k) k
theorem jw_idiv {a b : Int} (hd : decode (jw_yc Y) pc = .ok (.idiv, 1)) (ha : jw_r a) (hb : jw_r b) (k : jw_Rn G Y h kc ks w lf (pc + 1) lv (jI (jw_w (a.tdiv b)) :: st) M res) : jw_Rn G Y h kc ks w lf pc lv (jI b :: jI a :: st) M (if b ≠ 0 then res else none) :=
  jw_ck (fun h0 => jw_step (fun _ _ _ _ _ _ _ _ _ _ _ _ _ _ _ C _ _ k => by unfold jI at k; rw [← jw_div ha hb] at k; exact lv_idiv C.1 C.2.1 hd (fun z => h0 ((jw_eq hb jw_0).mp z)) k) k)
theorem jw_irem {a b : Int} (hd : decode (jw_yc Y) pc = .ok (.irem, 1)) (ha : jw_r a) (hb : jw_r b) (k : jw_Rn G Y h kc ks w lf (pc + 1) lv (jI (jw_w (a.tmod b)) :: st) M res) : jw_Rn G Y h kc ks w lf pc lv (jI b :: jI a :: st) M (if b ≠ 0 then res else none) :=
  jw_ck (fun h0 => jw_step (fun _ _ _ _ _ _ _ _ _ _ _ _ _ _ _ C _ _ k => by unfold jI at k; rw [← jw_rem ha hb] at k; exact lv_irem C.1 C.2.1 hd (fun z => h0 ((jw_eq hb jw_0).mp z)) k) k)
theorem jw_ldiv {a b : Int} (hd : decode (jw_yc Y) pc = .ok (.ldiv, 1)) (ha : jw_q a) (hb : jw_q b) (k : jw_Rn G Y h kc ks w lf (pc + 1) lv (jL (jw_v (a.tdiv b)) :: st) M res) : jw_Rn G Y h kc ks w lf pc lv (jL b :: jL a :: st) M (if b ≠ 0 then res else none) :=
  jw_ck (fun h0 => jw_step (fun _ _ _ _ _ _ _ _ _ _ _ _ _ _ _ C _ _ k => by unfold jL at k; rw [← jw_divL ha hb] at k; exact lv_ldiv C.1 C.2.1 hd (fun z => h0 ((jw_eqL hb (jw_rq jw_0)).mp z)) k) k)
theorem jw_lrem {a b : Int} (hd : decode (jw_yc Y) pc = .ok (.lrem, 1)) (ha : jw_q a) (hb : jw_q b) (k : jw_Rn G Y h kc ks w lf (pc + 1) lv (jL (jw_v (a.tmod b)) :: st) M res) : jw_Rn G Y h kc ks w lf pc lv (jL b :: jL a :: st) M (if b ≠ 0 then res else none) :=
  jw_ck (fun h0 => jw_step (fun _ _ _ _ _ _ _ _ _ _ _ _ _ _ _ C _ _ k => by unfold jL at k; rw [← jw_remL ha hb] at k; exact lv_lrem C.1 C.2.1 hd (fun z => h0 ((jw_eqL hb (jw_rq jw_0)).mp z)) k) k)
theorem jw_iandr {a b : Int} (hd : decode (jw_yc Y) pc = .ok (.iand, 1)) (k : jw_Rn G Y h kc ks w lf (pc + 1) lv (jI (jw_iand a b) :: st) M res) : jw_Rn G Y h kc ks w lf pc lv (jI b :: jI a :: st) M res :=
  jw_step (fun _ _ _ _ _ _ _ _ _ _ _ _ _ _ _ C _ _ k => by unfold jI jw_iand at k; rw [Int32.ofInt_toInt] at k; exact lv_iand C.1 C.2.1 hd k) k
theorem jw_iorr {a b : Int} (hd : decode (jw_yc Y) pc = .ok (.ior, 1)) (k : jw_Rn G Y h kc ks w lf (pc + 1) lv (jI (jw_ior a b) :: st) M res) : jw_Rn G Y h kc ks w lf pc lv (jI b :: jI a :: st) M res :=
  jw_step (fun _ _ _ _ _ _ _ _ _ _ _ _ _ _ _ C _ _ k => by unfold jI jw_ior at k; rw [Int32.ofInt_toInt] at k; exact lv_ior C.1 C.2.1 hd k) k
theorem jw_ixorr {a b : Int} (hd : decode (jw_yc Y) pc = .ok (.ixor, 1)) (k : jw_Rn G Y h kc ks w lf (pc + 1) lv (jI (jw_ixor a b) :: st) M res) : jw_Rn G Y h kc ks w lf pc lv (jI b :: jI a :: st) M res :=
  jw_step (fun _ _ _ _ _ _ _ _ _ _ _ _ _ _ _ C _ _ k => by unfold jI jw_ixor at k; rw [Int32.ofInt_toInt] at k; exact lv_ixor C.1 C.2.1 hd k) k
theorem jw_ishlr {a b : Int} (hd : decode (jw_yc Y) pc = .ok (.ishl, 1)) (k : jw_Rn G Y h kc ks w lf (pc + 1) lv (jI (jw_ishl a b) :: st) M res) : jw_Rn G Y h kc ks w lf pc lv (jI b :: jI a :: st) M res :=
  jw_step (fun _ _ _ _ _ _ _ _ _ _ _ _ _ _ _ C _ _ k => by unfold jI jw_ishl at k; rw [Int32.ofInt_toInt] at k; exact lv_ishl C.1 C.2.1 hd k) k
theorem jw_ishrr {a b : Int} (hd : decode (jw_yc Y) pc = .ok (.ishr, 1)) (k : jw_Rn G Y h kc ks w lf (pc + 1) lv (jI (jw_ishr a b) :: st) M res) : jw_Rn G Y h kc ks w lf pc lv (jI b :: jI a :: st) M res :=
  jw_step (fun _ _ _ _ _ _ _ _ _ _ _ _ _ _ _ C _ _ k => by unfold jI jw_ishr at k; rw [Int32.ofInt_toInt] at k; exact lv_ishr C.1 C.2.1 hd k) k
theorem jw_iushrr {a b : Int} (hd : decode (jw_yc Y) pc = .ok (.iushr, 1)) (k : jw_Rn G Y h kc ks w lf (pc + 1) lv (jI (jw_iushr a b) :: st) M res) : jw_Rn G Y h kc ks w lf pc lv (jI b :: jI a :: st) M res :=
  jw_step (fun _ _ _ _ _ _ _ _ _ _ _ _ _ _ _ C _ _ k => by unfold jI jw_iushr at k; rw [Int32.ofInt_toInt] at k; exact lv_iushr C.1 C.2.1 hd rfl k) k
theorem jw_landr {a b : Int} (hd : decode (jw_yc Y) pc = .ok (.land, 1)) (k : jw_Rn G Y h kc ks w lf (pc + 1) lv (jL (jw_land a b) :: st) M res) : jw_Rn G Y h kc ks w lf pc lv (jL b :: jL a :: st) M res :=
  jw_step (fun _ _ _ _ _ _ _ _ _ _ _ _ _ _ _ C _ _ k => by unfold jL jw_land at k; rw [Int64.ofInt_toInt] at k; exact lv_land C.1 C.2.1 hd k) k
theorem jw_lorr {a b : Int} (hd : decode (jw_yc Y) pc = .ok (.lor, 1)) (k : jw_Rn G Y h kc ks w lf (pc + 1) lv (jL (jw_lor a b) :: st) M res) : jw_Rn G Y h kc ks w lf pc lv (jL b :: jL a :: st) M res :=
  jw_step (fun _ _ _ _ _ _ _ _ _ _ _ _ _ _ _ C _ _ k => by unfold jL jw_lor at k; rw [Int64.ofInt_toInt] at k; exact lv_lor C.1 C.2.1 hd k) k
theorem jw_lshlr {a b : Int} (hd : decode (jw_yc Y) pc = .ok (.lshl, 1)) (k : jw_Rn G Y h kc ks w lf (pc + 1) lv (jL (jw_lshl a b) :: st) M res) : jw_Rn G Y h kc ks w lf pc lv (jI b :: jL a :: st) M res :=
  jw_step (fun _ _ _ _ _ _ _ _ _ _ _ _ _ _ _ C _ _ k => by unfold jL jw_lshl at k; rw [Int64.ofInt_toInt] at k; exact lv_lshl C.1 C.2.1 hd rfl k) k
theorem jw_lshrr {a b : Int} (hd : decode (jw_yc Y) pc = .ok (.lshr, 1)) (k : jw_Rn G Y h kc ks w lf (pc + 1) lv (jL (jw_lshr a b) :: st) M res) : jw_Rn G Y h kc ks w lf pc lv (jI b :: jL a :: st) M res :=
  jw_step (fun _ _ _ _ _ _ _ _ _ _ _ _ _ _ _ C _ _ k => by unfold jL jw_lshr at k; rw [Int64.ofInt_toInt] at k; exact lv_lshr C.1 C.2.1 hd rfl k) k
theorem jw_i2lr {a : Int} (hd : decode (jw_yc Y) pc = .ok (.i2l, 1)) (ha : jw_r a) (k : jw_Rn G Y h kc ks w lf (pc + 1) lv (jL a :: st) M res) : jw_Rn G Y h kc ks w lf pc lv (jI a :: st) M res :=
  jw_step (fun _ _ _ _ _ _ _ _ _ _ _ _ _ _ _ C _ _ k => lv_i2l C.1 C.2.1 hd (jw_i2l ha) k) k
theorem jw_l2ir {a : Int} (hd : decode (jw_yc Y) pc = .ok (.l2i, 1)) (k : jw_Rn G Y h kc ks w lf (pc + 1) lv (jI (jw_w a) :: st) M res) : jw_Rn G Y h kc ks w lf pc lv (jL a :: st) M res :=
  jw_step (fun _ _ _ _ _ _ _ _ _ _ _ _ _ _ _ C _ _ k => lv_l2i C.1 C.2.1 hd (jw_l2i a) k) k
theorem jw_i2br {a : Int} (hd : decode (jw_yc Y) pc = .ok (.i2b, 1)) (k : jw_Rn G Y h kc ks w lf (pc + 1) lv (jI (jw_b a) :: st) M res) : jw_Rn G Y h kc ks w lf pc lv (jI a :: st) M res :=
  jw_step (fun _ _ _ _ _ _ _ _ _ _ _ _ _ _ _ C _ _ k => lv_i2b C.1 C.2.1 hd (jw_i2b a) k) k
theorem jw_i2sr {a : Int} (hd : decode (jw_yc Y) pc = .ok (.i2s, 1)) (k : jw_Rn G Y h kc ks w lf (pc + 1) lv (jI (jw_s a) :: st) M res) : jw_Rn G Y h kc ks w lf pc lv (jI a :: st) M res :=
  jw_step (fun _ _ _ _ _ _ _ _ _ _ _ _ _ _ _ C _ _ k => lv_i2s C.1 C.2.1 hd (jw_i2s a) k) k
theorem jw_dup {v : Value} (hd : decode (jw_yc Y) pc = .ok (.dup, 1)) (hv : v.category = 1) (k : jw_Rn G Y h kc ks w lf (pc + 1) lv (v :: v :: st) M res) : jw_Rn G Y h kc ks w lf pc lv (v :: st) M res :=
  jw_step (fun _ _ _ _ _ _ _ _ _ _ _ _ _ _ _ C _ _ k => lv_dup C.1 C.2.1 hd hv k) k
theorem jw_dup2 {v u : Value} (hd : decode (jw_yc Y) pc = .ok (.dup2, 1)) (hv : v.category = 1) (hu : u.category = 1) (k : jw_Rn G Y h kc ks w lf (pc + 1) lv (v :: u :: v :: u :: st) M res) : jw_Rn G Y h kc ks w lf pc lv (v :: u :: st) M res :=
  jw_step (fun _ _ _ _ _ _ _ _ _ _ _ _ _ _ _ C _ _ k => lv_dup2_11 C.1 C.2.1 hd hv hu k) k
theorem jw_goto {off : Int} (tgt : Nat) (hd : decode (jw_yc Y) pc = .ok (.goto off, 3)) (ht : (pc : Int) + off = (tgt : Int)) (k : jw_Rn G Y h kc ks w lf tgt lv st M res) : jw_Rn G Y h kc ks w lf pc lv st M res :=
  jw_step (fun _ _ _ _ _ _ _ _ _ _ _ _ _ _ _ C _ _ k => lv_goto C.1 C.2.1 hd ht k) k
/-- a branch -/
theorem jw_ite {p : Prop} [Decidable p] {r1 r2 : Option α} (k1 : p → jw_Rn G Y h kc ks w lf pc lv st M r1) (k2 : ¬ p → jw_Rn G Y h kc ks w lf pc lv st M r2) : jw_Rn G Y h kc ks w lf pc lv st M (if p then r1 else r2) := by
  by_cases hp : p
  · rw [if_pos hp]; exact k1 hp
  · rw [if_neg hp]; exact k2 hp
theorem jw_bif {pc1 pc2 : Nat} {st' : List Value} {p : Prop} [Decidable p] {r1 r2 : Option α}
    (hk : ∀ (P : Program) (e : Env) (s : State) (m : MethodId) (args : Array Value) (below : List Frame) (meth : Method) (c : Code) (R : Room) (Q : State → Prop) (cells slots : Nat) (H : Heap) (locs : List Loc) (ls : Array Slot), jw_C G Y h kc ks P s m args meth c R cells slots → (p → W P (jw_gl G) e R s m args below meth c H locs cells slots Q (F0 m pc1 ls st')) → (¬ p → W P (jw_gl G) e R s m args below meth c H locs cells slots Q (F0 m pc2 ls st')) → W P (jw_gl G) e R s m args below meth c H locs cells slots Q (F0 m pc ls st))
    (k1 : p → jw_Rn G Y h kc ks w lf pc1 lv st' M r1) (k2 : ¬ p → jw_Rn G Y h kc ks w lf pc2 lv st' M r2) : jw_Rn G Y h kc ks w lf pc lv st M (if p then r1 else r2) := by
  by_cases hp : p
  · rw [if_pos hp]
    exact jw_step (fun _ _ _ _ _ _ _ _ _ _ _ _ _ _ _ C _ _ k => hk _ _ _ _ _ _ _ _ _ _ _ _ _ _ _ C (fun _ => k) (fun z => absurd hp z)) (k1 hp)
  · rw [if_neg hp]
    exact jw_step (fun _ _ _ _ _ _ _ _ _ _ _ _ _ _ _ C _ _ k => hk _ _ _ _ _ _ _ _ _ _ _ _ _ _ _ C (fun z => absurd z hp) (fun _ => k)) (k2 hp)
theorem jw_if_eq {a : Int} {off : Int} (tgt : Nat) {r1 r2 : Option α} (hd : decode (jw_yc Y) pc = .ok (.ifCond .eq off, 3)) (ht : (pc : Int) + off = (tgt : Int)) (ha : jw_r a) (k1 : a = 0 → jw_Rn G Y h kc ks w lf tgt lv st M r1) (k2 : ¬ a = 0 → jw_Rn G Y h kc ks w lf (pc + 3) lv st M r2) : jw_Rn G Y h kc ks w lf pc lv (jI a :: st) M (if a = 0 then r1 else r2) :=
  jw_bif (fun _ _ _ _ _ _ _ _ _ _ _ _ _ _ _ C k1 k2 => lv_if_eq C.1 C.2.1 hd ht (fun z => k1 ((jw_eq ha jw_0).mp z)) (fun z => k2 (fun y => z ((jw_eq ha jw_0).mpr y)))) k1 k2
theorem jw_if_ne {a : Int} {off : Int} (tgt : Nat) {r1 r2 : Option α} (hd : decode (jw_yc Y) pc = .ok (.ifCond .ne off, 3)) (ht : (pc : Int) + off = (tgt : Int)) (ha : jw_r a) (k1 : a = 0 → jw_Rn G Y h kc ks w lf (pc + 3) lv st M r1) (k2 : ¬ a = 0 → jw_Rn G Y h kc ks w lf tgt lv st M r2) : jw_Rn G Y h kc ks w lf pc lv (jI a :: st) M (if a = 0 then r1 else r2) :=
  jw_bif (fun _ _ _ _ _ _ _ _ _ _ _ _ _ _ _ C k1 k2 => lv_if_ne C.1 C.2.1 hd ht (fun z => k2 (fun y => z ((jw_eq ha jw_0).mpr y))) (fun z => k1 ((jw_eq ha jw_0).mp z))) k1 k2
theorem jw_if_lt {a : Int} {off : Int} (tgt : Nat) {r1 r2 : Option α} (hd : decode (jw_yc Y) pc = .ok (.ifCond .lt off, 3)) (ht : (pc : Int) + off = (tgt : Int)) (ha : jw_r a) (k1 : a < 0 → jw_Rn G Y h kc ks w lf tgt lv st M r1) (k2 : ¬ a < 0 → jw_Rn G Y h kc ks w lf (pc + 3) lv st M r2) : jw_Rn G Y h kc ks w lf pc lv (jI a :: st) M (if a < 0 then r1 else r2) :=
  jw_bif (fun _ _ _ _ _ _ _ _ _ _ _ _ _ _ _ C k1 k2 => lv_if_lt C.1 C.2.1 hd ht (fun z => k1 ((jw_lt ha jw_0).mp z)) (fun z => k2 (fun y => z ((jw_lt ha jw_0).mpr y)))) k1 k2
theorem jw_if_ge {a : Int} {off : Int} (tgt : Nat) {r1 r2 : Option α} (hd : decode (jw_yc Y) pc = .ok (.ifCond .ge off, 3)) (ht : (pc : Int) + off = (tgt : Int)) (ha : jw_r a) (k1 : a < 0 → jw_Rn G Y h kc ks w lf (pc + 3) lv st M r1) (k2 : ¬ a < 0 → jw_Rn G Y h kc ks w lf tgt lv st M r2) : jw_Rn G Y h kc ks w lf pc lv (jI a :: st) M (if a < 0 then r1 else r2) :=
  jw_bif (fun _ _ _ _ _ _ _ _ _ _ _ _ _ _ _ C k1 k2 => lv_if_ge C.1 C.2.1 hd ht (fun z => k2 (fun y => by have := (jw_le jw_0 ha).mp z; omega)) (fun z => k1 (Int.not_le.mp (fun q => z ((jw_le jw_0 ha).mpr q))))) k1 k2
theorem jw_if_gt {a : Int} {off : Int} (tgt : Nat) {r1 r2 : Option α} (hd : decode (jw_yc Y) pc = .ok (.ifCond .gt off, 3)) (ht : (pc : Int) + off = (tgt : Int)) (ha : jw_r a) (k1 : 0 < a → jw_Rn G Y h kc ks w lf tgt lv st M r1) (k2 : ¬ 0 < a → jw_Rn G Y h kc ks w lf (pc + 3) lv st M r2) : jw_Rn G Y h kc ks w lf pc lv (jI a :: st) M (if 0 < a then r1 else r2) :=
  jw_bif (fun _ _ _ _ _ _ _ _ _ _ _ _ _ _ _ C k1 k2 => lv_if_gt C.1 C.2.1 hd ht (fun z => k1 ((jw_lt jw_0 ha).mp z)) (fun z => k2 (fun y => z ((jw_lt jw_0 ha).mpr y)))) k1 k2
theorem jw_if_le {a : Int} {off : Int} (tgt : Nat) {r1 r2 : Option α} (hd : decode (jw_yc Y) pc = .ok (.ifCond .le off, 3)) (ht : (pc : Int) + off = (tgt : Int)) (ha : jw_r a) (k1 : 0 < a → jw_Rn G Y h kc ks w lf (pc + 3) lv st M r1) (k2 : ¬ 0 < a → jw_Rn G Y h kc ks w lf tgt lv st M r2) : jw_Rn G Y h kc ks w lf pc lv (jI a :: st) M (if 0 < a then r1 else r2) :=
  jw_bif (fun _ _ _ _ _ _ _ _ _ _ _ _ _ _ _ C k1 k2 => lv_if_le C.1 C.2.1 hd ht (fun z => k2 (fun y => by have := (jw_le ha jw_0).mp z; omega)) (fun z => k1 (Int.not_le.mp (fun q => z ((jw_le ha jw_0).mpr q))))) k1 k2
theorem jw_ic_eq {a b : Int} {off : Int} (tgt : Nat) {r1 r2 : Option α} (hd : decode (jw_yc Y) pc = .ok (.if_icmp .eq off, 3)) (ht : (pc : Int) + off = (tgt : Int)) (ha : jw_r a) (hb : jw_r b) (k1 : a = b → jw_Rn G Y h kc ks w lf tgt lv st M r1) (k2 : ¬ a = b → jw_Rn G Y h kc ks w lf (pc + 3) lv st M r2) : jw_Rn G Y h kc ks w lf pc lv (jI b :: jI a :: st) M (if a = b then r1 else r2) :=
  jw_bif (fun _ _ _ _ _ _ _ _ _ _ _ _ _ _ _ C k1 k2 => lv_icmp_eq C.1 C.2.1 hd ht (fun z => k1 ((jw_eq ha hb).mp z)) (fun z => k2 (fun y => z ((jw_eq ha hb).mpr y)))) k1 k2
theorem jw_ic_ne {a b : Int} {off : Int} (tgt : Nat) {r1 r2 : Option α} (hd : decode (jw_yc Y) pc = .ok (.if_icmp .ne off, 3)) (ht : (pc : Int) + off = (tgt : Int)) (ha : jw_r a) (hb : jw_r b) (k1 : a = b → jw_Rn G Y h kc ks w lf (pc + 3) lv st M r1) (k2 : ¬ a = b → jw_Rn G Y h kc ks w lf tgt lv st M r2) : jw_Rn G Y h kc ks w lf pc lv (jI b :: jI a :: st) M (if a = b then r1 else r2) :=
  jw_bif (fun _ _ _ _ _ _ _ _ _ _ _ _ _ _ _ C k1 k2 => lv_icmp_ne C.1 C.2.1 hd ht (fun z => k2 (fun y => z ((jw_eq ha hb).mpr y))) (fun z => k1 ((jw_eq ha hb).mp z))) k1 k2
theorem jw_ic_lt {a b : Int} {off : Int} (tgt : Nat) {r1 r2 : Option α} (hd : decode (jw_yc Y) pc = .ok (.if_icmp .lt off, 3)) (ht : (pc : Int) + off = (tgt : Int)) (ha : jw_r a) (hb : jw_r b) (k1 : a < b → jw_Rn G Y h kc ks w lf tgt lv st M r1) (k2 : ¬ a < b → jw_Rn G Y h kc ks w lf (pc + 3) lv st M r2) : jw_Rn G Y h kc ks w lf pc lv (jI b :: jI a :: st) M (if a < b then r1 else r2) :=
  jw_bif (fun _ _ _ _ _ _ _ _ _ _ _ _ _ _ _ C k1 k2 => lv_icmp_lt C.1 C.2.1 hd ht (fun z => k1 ((jw_lt ha hb).mp z)) (fun z => k2 (fun y => z ((jw_lt ha hb).mpr y)))) k1 k2
theorem jw_ic_ge {a b : Int} {off : Int} (tgt : Nat) {r1 r2 : Option α} (hd : decode (jw_yc Y) pc = .ok (.if_icmp .ge off, 3)) (ht : (pc : Int) + off = (tgt : Int)) (ha : jw_r a) (hb : jw_r b) (k1 : a < b → jw_Rn G Y h kc ks w lf (pc + 3) lv st M r1) (k2 : ¬ a < b → jw_Rn G Y h kc ks w lf tgt lv st M r2) : jw_Rn G Y h kc ks w lf pc lv (jI b :: jI a :: st) M (if a < b then r1 else r2) :=
  jw_bif (fun _ _ _ _ _ _ _ _ _ _ _ _ _ _ _ C k1 k2 => lv_icmp_ge C.1 C.2.1 hd ht (fun z => k2 (fun y => by have := (jw_le hb ha).mp z; omega)) (fun z => k1 (Int.not_le.mp (fun q => z ((jw_le hb ha).mpr q))))) k1 k2
theorem jw_ic_gt {a b : Int} {off : Int} (tgt : Nat) {r1 r2 : Option α} (hd : decode (jw_yc Y) pc = .ok (.if_icmp .gt off, 3)) (ht : (pc : Int) + off = (tgt : Int)) (ha : jw_r a) (hb : jw_r b) (k1 : b < a → jw_Rn G Y h kc ks w lf tgt lv st M r1) (k2 : ¬ b < a → jw_Rn G Y h kc ks w lf (pc + 3) lv st M r2) : jw_Rn G Y h kc ks w lf pc lv (jI b :: jI a :: st) M (if b < a then r1 else r2) :=
  jw_bif (fun _ _ _ _ _ _ _ _ _ _ _ _ _ _ _ C k1 k2 => lv_icmp_gt C.1 C.2.1 hd ht (fun z => k1 ((jw_lt hb ha).mp z)) (fun z => k2 (fun y => z ((jw_lt hb ha).mpr y)))) k1 k2
theorem jw_ic_le {a b : Int} {off : Int} (tgt : Nat) {r1 r2 : Option α} (hd : decode (jw_yc Y) pc = .ok (.if_icmp .le off, 3)) (ht : (pc : Int) + off = (tgt : Int)) (ha : jw_r a) (hb : jw_r b) (k1 : b < a → jw_Rn G Y h kc ks w lf (pc + 3) lv st M r1) (k2 : ¬ b < a → jw_Rn G Y h kc ks w lf tgt lv st M r2) : jw_Rn G Y h kc ks w lf pc lv (jI b :: jI a :: st) M (if b < a then r1 else r2) :=
  jw_bif (fun _ _ _ _ _ _ _ _ _ _ _ _ _ _ _ C k1 k2 => lv_icmp_le C.1 C.2.1 hd ht (fun z => k2 (fun y => by have := (jw_le ha hb).mp z; omega)) (fun z => k1 (Int.not_le.mp (fun q => z ((jw_le ha hb).mpr q))))) k1 k2
/-- the sign of a comparison of longs -/
def jw_cmp (a b : Int) : Int := if b < a then 1 else if a = b then 0 else -1
theorem jw_cmpr (a b : Int) : jw_r (jw_cmp a b) := by
  unfold jw_cmp jw_r
  split
  · omega
  · split <;> omega
theorem jw_lcmp {a b : Int} (hd : decode (jw_yc Y) pc = .ok (.lcmp, 1)) (ha : jw_q a) (hb : jw_q b) (k : jw_Rn G Y h kc ks w lf (pc + 1) lv (jI (jw_cmp a b) :: st) M res) : jw_Rn G Y h kc ks w lf pc lv (jL b :: jL a :: st) M res := by
  have e : lg_cmp (Int64.ofInt a) (Int64.ofInt b) = Int32.ofInt (jw_cmp a b) := by
    unfold lg_cmp jw_cmp
    by_cases h1 : b < a
    · rw [if_pos ((jw_ltL hb ha).mpr h1), if_pos h1]; rfl
    · rw [if_neg (fun z => h1 ((jw_ltL hb ha).mp z)), if_neg h1]
      by_cases h2 : a = b
      · rw [if_pos (by rw [h2]), if_pos h2]; rfl
      · rw [if_neg (fun z => h2 ((jw_eqL ha hb).mp z)), if_neg h2]; rfl
  exact jw_step (fun _ _ _ _ _ _ _ _ _ _ _ _ _ _ _ C _ _ k => W.lcmp C.1 C.2.1 hd (by rw [e]; exact k)) k
theorem jw_tsin {a : Int} {dflt lo hi : Int} {offs : Array Int} {len : Nat} {off : Int} (tgt : Nat) (n : Int) (hd : decode (jw_yc Y) pc = .ok (.tableswitch dflt lo hi offs, len)) (ha : jw_r a) (hn : a = n) (h1 : (decide (lo ≤ n) && decide (n ≤ hi)) = true) (ho : offs[(n - lo).toNat]? = some off) (ht : (pc : Int) + off = (tgt : Int)) (k : jw_Rn G Y h kc ks w lf tgt lv st M res) : jw_Rn G Y h kc ks w lf pc lv (jI a :: st) M res := by
  subst hn
  simp only [Bool.and_eq_true, decide_eq_true_eq] at h1
  exact jw_step (fun _ _ _ _ _ _ _ _ _ _ _ _ _ _ _ C _ _ k => lv_tableIn C.1 C.2.1 hd (by rw [jw_t ha]; omega) (by rw [jw_t ha]; omega) (by rw [jw_t ha]; exact ho) ht k) k
theorem jw_tsout {a : Int} {dflt lo hi : Int} {offs : Array Int} {len : Nat} (tgt : Nat) (hd : decode (jw_yc Y) pc = .ok (.tableswitch dflt lo hi offs, len)) (ha : jw_r a) (hn : a < lo ∨ hi < a) (ht : (pc : Int) + dflt = (tgt : Int)) (k : jw_Rn G Y h kc ks w lf tgt lv st M res) : jw_Rn G Y h kc ks w lf pc lv (jI a :: st) M res :=
  jw_step (fun _ _ _ _ _ _ _ _ _ _ _ _ _ _ _ C _ _ k => lv_tableOut C.1 C.2.1 hd (by rw [jw_t ha]; exact hn) ht k) k
theorem jw_lsw {a : Int} {dflt : Int} {ps : Array (Int × Int)} {len : Nat} {off : Int} (tgt : Nat) (hd : decode (jw_yc Y) pc = .ok (.lookupswitch dflt ps, len)) (ha : jw_r a) (hp : (ps.toList.zip (ps.toList.drop 1)).all (fun (a, next) => a.1 < next.1) = true) (ho : Op.lookupswitch.offset ps.toList dflt a = off) (ht : (pc : Int) + off = (tgt : Int)) (k : jw_Rn G Y h kc ks w lf tgt lv st M res) : jw_Rn G Y h kc ks w lf pc lv (jI a :: st) M res :=
  jw_step (fun _ _ _ _ _ _ _ _ _ _ _ _ _ _ _ C _ _ k => lv_lookup C.1 C.2.1 hd hp (by rw [jw_t ha]; exact ho) ht k) k
/-- the ends -/
theorem jw_ret {v : Int} {x : α} (hd : decode (jw_yc Y) pc = .ok (jw_ri (jw_yr Y), 1)) (hv : jw_rr (jw_yr Y) v) (hs : st = jw_rv G (jw_yr Y) v) (hx : lf x = (v, M)) : jw_Rn G Y h 0 0 w lf pc lv st M (some x) := by
  intro hg y hr
  cases hr
  subst hs
  rw [hx]
  exact ⟨⟨hv, hg, fun _ => rfl⟩, fun p e s m args below meth c R Q cells slots H locs ls C P hh F => F H locs ls pc P hd⟩
end
