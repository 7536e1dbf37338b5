theorem dJ0_length_8abf5_0 : decode cJ0_length_8abf5 0 = .ok (.aload_n 0, 1) := by decide +kernel
theorem dJ0_length_8abf5_1 : decode cJ0_length_8abf5 1 = .ok (.getfield 9, 3) := by decide +kernel
theorem dJ0_length_8abf5_4 : decode cJ0_length_8abf5 4 = .ok (.arraylength, 1) := by decide +kernel
theorem dJ0_length_8abf5_5 : decode cJ0_length_8abf5 5 = .ok (.aload_n 0, 1) := by decide +kernel
theorem dJ0_length_8abf5_6 : decode cJ0_length_8abf5 6 = .ok (.invokevirtual 335, 3) := by decide +kernel
theorem dJ0_length_8abf5_9 : decode cJ0_length_8abf5 9 = .ok (.ishr, 1) := by decide +kernel
theorem dJ0_length_8abf5_10 : decode cJ0_length_8abf5 10 = .ok (.ireturn, 1) := by decide +kernel
theorem dJ0_coder_7d493_0 : decode cJ0_coder_7d493 0 = .ok (.getstatic 38, 3) := by decide +kernel
theorem dJ0_coder_7d493_3 : decode cJ0_coder_7d493 3 = .ok (.ifCond .eq 10, 3) := by decide +kernel
theorem dJ0_coder_7d493_6 : decode cJ0_coder_7d493 6 = .ok (.aload_n 0, 1) := by decide +kernel
theorem dJ0_coder_7d493_7 : decode cJ0_coder_7d493 7 = .ok (.getfield 15, 3) := by decide +kernel
theorem dJ0_coder_7d493_10 : decode cJ0_coder_7d493 10 = .ok (.goto 4, 3) := by decide +kernel
theorem dJ0_coder_7d493_13 : decode cJ0_coder_7d493 13 = .ok (.iconst 1, 1) := by decide +kernel
theorem dJ0_coder_7d493_14 : decode cJ0_coder_7d493 14 = .ok (.ireturn, 1) := by decide +kernel
theorem dJ0_isLatin1_aae02_0 : decode cJ0_isLatin1_aae02 0 = .ok (.getstatic 38, 3) := by decide +kernel
theorem dJ0_isLatin1_aae02_3 : decode cJ0_isLatin1_aae02 3 = .ok (.ifCond .eq 14, 3) := by decide +kernel
theorem dJ0_isLatin1_aae02_6 : decode cJ0_isLatin1_aae02 6 = .ok (.aload_n 0, 1) := by decide +kernel
theorem dJ0_isLatin1_aae02_7 : decode cJ0_isLatin1_aae02 7 = .ok (.getfield 15, 3) := by decide +kernel
theorem dJ0_isLatin1_aae02_10 : decode cJ0_isLatin1_aae02 10 = .ok (.ifCond .ne 7, 3) := by decide +kernel
theorem dJ0_isLatin1_aae02_13 : decode cJ0_isLatin1_aae02 13 = .ok (.iconst 1, 1) := by decide +kernel
theorem dJ0_isLatin1_aae02_14 : decode cJ0_isLatin1_aae02 14 = .ok (.goto 4, 3) := by decide +kernel
theorem dJ0_isLatin1_aae02_17 : decode cJ0_isLatin1_aae02 17 = .ok (.iconst 0, 1) := by decide +kernel
theorem dJ0_isLatin1_aae02_18 : decode cJ0_isLatin1_aae02 18 = .ok (.ireturn, 1) := by decide +kernel
theorem dJ0_charAt_5068e_0 : decode cJ0_charAt_5068e 0 = .ok (.aload_n 0, 1) := by decide +kernel
theorem dJ0_charAt_5068e_1 : decode cJ0_charAt_5068e 1 = .ok (.invokevirtual 492, 3) := by decide +kernel
theorem dJ0_charAt_5068e_4 : decode cJ0_charAt_5068e 4 = .ok (.ifCond .eq 12, 3) := by decide +kernel
theorem dJ0_charAt_5068e_7 : decode cJ0_charAt_5068e 7 = .ok (.aload_n 0, 1) := by decide +kernel
theorem dJ0_charAt_5068e_8 : decode cJ0_charAt_5068e 8 = .ok (.getfield 9, 3) := by decide +kernel
theorem dJ0_charAt_5068e_11 : decode cJ0_charAt_5068e 11 = .ok (.iload_n 1, 1) := by decide +kernel
theorem dJ0_charAt_5068e_12 : decode cJ0_charAt_5068e 12 = .ok (.invokestatic 495, 3) := by decide +kernel
theorem dJ0_charAt_5068e_15 : decode cJ0_charAt_5068e 15 = .ok (.ireturn, 1) := by decide +kernel
theorem dJ0_charAt_5068e_16 : decode cJ0_charAt_5068e 16 = .ok (.aload_n 0, 1) := by decide +kernel
theorem dJ0_charAt_5068e_17 : decode cJ0_charAt_5068e 17 = .ok (.getfield 9, 3) := by decide +kernel
theorem dJ0_charAt_5068e_20 : decode cJ0_charAt_5068e 20 = .ok (.iload_n 1, 1) := by decide +kernel
theorem dJ0_charAt_5068e_21 : decode cJ0_charAt_5068e 21 = .ok (.invokestatic 498, 3) := by decide +kernel
theorem dJ0_charAt_5068e_24 : decode cJ0_charAt_5068e 24 = .ok (.ireturn, 1) := by decide +kernel
theorem dJ1_charAt_3b067_0 : decode cJ1_charAt_3b067 0 = .ok (.iload_n 1, 1) := by decide +kernel
theorem dJ1_charAt_3b067_1 : decode cJ1_charAt_3b067 1 = .ok (.aload_n 0, 1) := by decide +kernel
theorem dJ1_charAt_3b067_2 : decode cJ1_charAt_3b067 2 = .ok (.arraylength, 1) := by decide +kernel
theorem dJ1_charAt_3b067_3 : decode cJ1_charAt_3b067 3 = .ok (.invokestatic 9, 3) := by decide +kernel
theorem dJ1_charAt_3b067_6 : decode cJ1_charAt_3b067 6 = .ok (.aload_n 0, 1) := by decide +kernel
theorem dJ1_charAt_3b067_7 : decode cJ1_charAt_3b067 7 = .ok (.iload_n 1, 1) := by decide +kernel
theorem dJ1_charAt_3b067_8 : decode cJ1_charAt_3b067 8 = .ok (.baload, 1) := by decide +kernel
theorem dJ1_charAt_3b067_9 : decode cJ1_charAt_3b067 9 = .ok (.sipush 255, 3) := by decide +kernel
theorem dJ1_charAt_3b067_12 : decode cJ1_charAt_3b067 12 = .ok (.iand, 1) := by decide +kernel
theorem dJ1_charAt_3b067_13 : decode cJ1_charAt_3b067 13 = .ok (.i2c, 1) := by decide +kernel
theorem dJ1_charAt_3b067_14 : decode cJ1_charAt_3b067 14 = .ok (.ireturn, 1) := by decide +kernel
theorem dJ0_checkIndex_df160_0 : decode cJ0_checkIndex_df160 0 = .ok (.iload_n 0, 1) := by decide +kernel
theorem dJ0_checkIndex_df160_1 : decode cJ0_checkIndex_df160 1 = .ok (.iload_n 1, 1) := by decide +kernel
theorem dJ0_checkIndex_df160_2 : decode cJ0_checkIndex_df160 2 = .ok (.getstatic 1053, 3) := by decide +kernel
theorem dJ0_checkIndex_df160_5 : decode cJ0_checkIndex_df160 5 = .ok (.invokestatic 1059, 3) := by decide +kernel
theorem dJ0_checkIndex_df160_8 : decode cJ0_checkIndex_df160 8 = .ok (.pop, 1) := by decide +kernel
theorem dJ0_checkIndex_df160_9 : decode cJ0_checkIndex_df160 9 = .ok (.return_, 1) := by decide +kernel
theorem dJ3_checkIndex_8e157_0 : decode cJ3_checkIndex_8e157 0 = .ok (.iload_n 0, 1) := by decide +kernel
theorem dJ3_checkIndex_8e157_1 : decode cJ3_checkIndex_8e157 1 = .ok (.ifCond .lt 8, 3) := by decide +kernel
theorem dJ3_checkIndex_8e157_4 : decode cJ3_checkIndex_8e157 4 = .ok (.iload_n 0, 1) := by decide +kernel
theorem dJ3_checkIndex_8e157_5 : decode cJ3_checkIndex_8e157 5 = .ok (.iload_n 1, 1) := by decide +kernel
theorem dJ3_checkIndex_8e157_6 : decode cJ3_checkIndex_8e157 6 = .ok (.if_icmp .lt 10, 3) := by decide +kernel
theorem dJ3_checkIndex_8e157_9 : decode cJ3_checkIndex_8e157 9 = .ok (.aload_n 2, 1) := by decide +kernel
theorem dJ3_checkIndex_8e157_10 : decode cJ3_checkIndex_8e157 10 = .ok (.iload_n 0, 1) := by decide +kernel
theorem dJ3_checkIndex_8e157_11 : decode cJ3_checkIndex_8e157 11 = .ok (.iload_n 1, 1) := by decide +kernel
theorem dJ3_checkIndex_8e157_12 : decode cJ3_checkIndex_8e157 12 = .ok (.invokestatic 95, 3) := by decide +kernel
theorem dJ3_checkIndex_8e157_15 : decode cJ3_checkIndex_8e157 15 = .ok (.athrow, 1) := by decide +kernel
theorem dJ3_checkIndex_8e157_16 : decode cJ3_checkIndex_8e157 16 = .ok (.iload_n 0, 1) := by decide +kernel
theorem dJ3_checkIndex_8e157_17 : decode cJ3_checkIndex_8e157 17 = .ok (.ireturn, 1) := by decide +kernel
def jV (G : jw_G) (x : Int) : Value := .ref (jw_gV G x.toNat)
section
variable {G : jw_G} {Y : jw_Y} {h kc ks : Nat} {w : Bool} {pc : Nat} {lv : List (Nat × Value)} {st : List Value} {M : jw_M} {α : Type} {lf : α → Int × jw_M} {res : Option α} {index : Nat} {own : String}
theorem jw_gCS (hown : jw_yo Y = own) (hd : decode (jw_yc Y) pc = .ok (.getstatic index, 3)) (hlink : Cond.fieldLink own index "java/lang/String" "COMPACT_STRINGS" "Z" ∈ jw_tbl) (k : jw_Rn G Y h kc ks w lf (pc + 3) lv (jI 1 :: st) M res) : jw_Rn G Y h kc ks w lf pc lv st M res := by
  subst hown
  exact jw_step (fun p e s m args below meth c R Q cells slots H locs ls C P _ k => va_gets C.1 C.2.1 C.2.2.2.2.2.2.2.1.2.2.2.1 P.2.2.1 C.2.2.2.1 (C.2.2.2.2.2.1 _ hlink) (fun _ z => z) hd k) k
theorem jw_gSF (hown : jw_yo Y = own) (hd : decode (jw_yc Y) pc = .ok (.getstatic index, 3)) (hlink : Cond.fieldLink own index "jdk/internal/util/Preconditions" "SIOOBE_FORMATTER" "Ljava/util/function/BiFunction;" ∈ jw_tbl) (k : ∀ v : Value, (v = .null ∨ ∃ t, v = .ref t) → jw_Rn G Y h kc ks w lf (pc + 3) lv (v :: st) M res) : jw_Rn G Y h kc ks w lf pc lv st M res := by
  subst hown
  intro hg y hr
  refine ⟨(k .null (Or.inl rfl) hg y hr).1, fun p e s m args below meth c R Q cells slots H locs ls C P hh F => ?_⟩
  rcases C.2.2.2.2.2.2.2.1.2.2.2.2.1 with hz | ⟨t, hz⟩
  · exact va_gets C.1 C.2.1 hz P.2.2.1 C.2.2.2.1 (C.2.2.2.2.2.1 _ hlink) (fun _ z => z) hd ((k .null (Or.inl rfl) hg y hr).2 p e s m args below meth c R Q cells slots H locs ls C P hh F)
  · exact va_gets C.1 C.2.1 hz P.2.2.1 C.2.2.2.1 (C.2.2.2.2.2.1 _ hlink) (fun _ z => z) hd ((k (.ref t) (Or.inr ⟨t, rfl⟩) hg y hr).2 p e s m args below meth c R Q cells slots H locs ls C P hh F)
theorem jw_sfc {x : Int} (hown : jw_yo Y = own) (hd : decode (jw_yc Y) pc = .ok (.getfield index, 3)) (hlink : Cond.fieldLink own index "java/lang/String" "coder" "B" ∈ jw_tbl) (hx : 0 ≤ x ∧ x < 7) (k : jw_Rn G Y h kc ks w lf (pc + 3) lv (jI 0 :: st) M res) : jw_Rn G Y h kc ks w lf pc lv (jS G x :: st) M res := by
  subst hown
  have hx' : x.toNat < 7 := by omega
  exact jw_step (fun p e s m args below meth c R Q cells slots H locs ls C P _ k => vk_getf C.1 C.2.1 (C.2.2.2.2.2.2.2.1.2.1.1 _ hx').2.1 P.2.2.1 C.2.2.2.1 (C.2.2.2.2.2.1 _ hlink) (fun _ z => z) hd k) k
theorem jw_sfv {x : Int} (hown : jw_yo Y = own) (hd : decode (jw_yc Y) pc = .ok (.getfield index, 3)) (hlink : Cond.fieldLink own index "java/lang/String" "value" "[B" ∈ jw_tbl) (hx : 0 ≤ x ∧ x < 7) (k : jw_Rn G Y h kc ks w lf (pc + 3) lv (jV G x :: st) M res) : jw_Rn G Y h kc ks w lf pc lv (jS G x :: st) M res := by
  subst hown
  have hx' : x.toNat < 7 := by omega
  exact jw_step (fun p e s m args below meth c R Q cells slots H locs ls C P _ k => vk_getf C.1 C.2.1 (C.2.2.2.2.2.2.2.1.2.1.1 _ hx').2.2.1 P.2.2.1 C.2.2.2.1 (C.2.2.2.2.2.1 _ hlink) (fun _ z => z) hd k) k
theorem jw_vln {x : Int} (hd : decode (jw_yc Y) pc = .ok (.arraylength, 1)) (hx : 0 ≤ x ∧ x < 7) (k : jw_Rn G Y h kc ks w lf (pc + 1) lv (jI (jw_sl x) :: st) M res) : jw_Rn G Y h kc ks w lf pc lv (jV G x :: st) M res := by
  have hx' : x.toNat < 7 := by omega
  exact jw_step (fun p e s m args below meth c R Q cells slots H locs ls C P _ k => va_tlen C.1 C.2.1 (C.2.2.2.2.2.2.2.1.2.1.1 _ hx').2.2.2 P.2.2.1 (show Int32.ofNat (jw_slen.getD x.toNat 0) = Int32.ofInt (jw_sl x) from Int32.ofInt_eq_ofNat.symm) hd k) k
theorem jw_vbl {x i : Int} (hd : decode (jw_yc Y) pc = .ok (.baload, 1)) (hx : 0 ≤ x ∧ x < 7) (hr : jw_r i) (hi : 0 ≤ i ∧ i < jw_sl x) (k : jw_Rn G Y h kc ks w lf (pc + 1) lv (jI (jw_sc x i) :: st) M res) : jw_Rn G Y h kc ks w lf pc lv (jI i :: jV G x :: st) M res := by
  have hx' : x.toNat < 7 := by omega
  refine jw_step (fun p e s m args below meth c R Q cells slots H locs ls C P _ k => va_tb C.1 C.2.1 (C.2.2.2.2.2.2.2.1.2.1.1 _ hx').2.2.2 P.2.2.1 ((jw_in hr).mpr hi) ?_ hd k) k
  rw [jw_tn hr]
  show Value.int _ = Value.int (Int32.ofInt (jw_sc x i))
  unfold jw_sc
  rw [Int32.ofInt_toInt]
theorem jw_popv {v : Value} (hd : decode (jw_yc Y) pc = .ok (.pop, 1)) (hv : v.category = 1) (k : jw_Rn G Y h kc ks w lf (pc + 1) lv st M res) : jw_Rn G Y h kc ks w lf pc lv (v :: st) M res :=
  jw_step (fun _ _ _ _ _ _ _ _ _ _ _ _ _ _ _ C _ _ k => lv_pop C.1 C.2.1 hd hv k) k
theorem jw_i2c {a : Int} (hd : decode (jw_yc Y) pc = .ok (.i2c, 1)) (ha : 0 ≤ a ∧ a < 65536) (k : jw_Rn G Y h kc ks w lf (pc + 1) lv (jI a :: st) M res) : jw_Rn G Y h kc ks w lf pc lv (jI a :: st) M res := by
  have e : ((Int32.ofInt a).toUInt32 % 65536).toInt32 = Int32.ofInt a := by
    rw [pk_char]
    obtain ⟨n, rfl⟩ : ∃ n : Nat, a = n := ⟨a.toNat, by omega⟩
    have h1 : Int32.ofInt (n : Int) = nI n := Int32.ofInt_eq_ofNat
    rw [h1, pk_tn (by omega), Nat.mod_eq_of_lt (by omega)]
  exact jw_step (fun _ _ _ _ _ _ _ _ _ _ _ _ _ _ _ C _ _ k => lv_i2c C.1 C.2.1 hd e k) k
end
/-- a contract whose answer is a byte or a char -/
theorem jw_metN {α : Type} {G : jw_G} {Y : jw_Y} {ty : FieldType} {h kc ks : Nat} {w : Bool} {lf : α → Int × jw_M} {y : MethodName} {av : List Value} {M : jw_M} {res : Option α}
    (hy : plainName y.cls = true) (hc1 : y.cls = jw_yo Y) (hc2 : y.name = jw_ym Y) (hrk : jw_yr Y = 1) (hnar : ∀ x, res = some x → narrow ty (jI (lf x).1) = jI (lf x).1) (hsl : (lg_sl av).length ≤ jw_yn Y) (k : jw_Rn G Y h kc ks w lf 0 (lv_args 0 av) [] M res) : jw_Ct G Y (some ty) h kc ks w lf y av M res := by
  intro hg x hr
  obtain ⟨h1, h2⟩ := k hg x hr
  refine ⟨h1, Met.ofW (cc := jw_yc Y) (maxL := jw_yn Y) (ret := some ty) hy rfl ?_⟩
  intro p e s m args below meth c s₁ B hml hv
  obtain ⟨rfl, hB⟩ := hv
  have hts := atoms_spec (ws := Cond.code y (jw_yc Y) (jw_yn Y) (some ty) :: jw_tbl) B.pre
  have hl := lv_entry av (n := jw_yn Y) hsl
  rw [lg_entry_eq]
  generalize (lg_sl av ++ List.replicate (jw_yn Y - (lg_sl av).length) Slot.unset).toArray = ls at hl ⊢
  have hlocks : meth.locks = false := B.notSynchronized
  refine h2 p e s m av.toArray below meth c _ _ 0 0 s.heap [] ls ⟨B.exec, B.bytes, hml, ?_, ?_, fun w hw => hts w (List.mem_cons_of_mem _ hw), hB.2.2.1, hB.2.2.2.1, hB.2.2.2.2.1, ⟨Nat.le_refl _, Nat.le_refl _⟩, ?_, ?_⟩ ⟨hB.1, hB.2.1, va_S.rf, fun hw => ?_⟩ hl ?_
  · rw [← hc1]; exact findClass_of_methodNamed B.named
  · rw [← hc2]; exact (name_of_methodNamed B.named B.method).1
  · show 0 + kc ≤ kc; omega
  · show 0 + ks ≤ ks; omega
  · subst hw
    have := hB.2.2.2.2.2 rfl
    omega
  · intro H locs ls' pc P hd
    rw [Nat.zero_add, Nat.zero_add]
    refine jw_size (fun hsz => ?_)
    have hq : ∀ t : State, t.heap = H → s.WarmedH t.vm → jw_Qc G (jw_yr Y) w (lf x).1 (lf x).2 av.toArray s (.returned (jw_ro G (jw_yr Y) (lf x).1)) t := by
      intro t ht hW
      refine ⟨rfl, ⟨by rw [ht]; exact P.1, P.2.1, va_K.moved hW.alike hB.2.2.1, jw_St_at hB.2.2.2.1 P.2.2.1 ht hW, ?_, ?_⟩, P.2.2.1.F ht⟩
      · rw [ht]; exact Nat.le_trans hB.2.2.2.2.1 P.2.2.1.1
      · intro hw
        subst hw
        have h3 := P.2.2.2 rfl
        rw [ht]
        omega
    have hf : ∀ q ∈ locs, jw_A G q.base := P.2.2.1.2.2
    have hr' := B.returns
    have hn := hnar x hr
    rw [hrk] at hq hd ⊢
    exact W.zret B.exec B.bytes hr' hn hq hf hd
section
variable {α β : Type} {G : jw_G} {Y Y2 : jw_Y} {ret : Option FieldType} {h h2 n index : Nat} {w : Bool} {pc : Nat} {lv : List (Nat × Value)} {st stk As : List Value} {M : jw_M} {lf : α → Int × jw_M} {y : MethodName} {fr : Option Int} {kk : Int → Option α} {kc ks : Nat}
/-- a call upon a String constant -/
theorem jw_callT {x : Int} (hd : decode (jw_yc Y) pc = .ok (.invokevirtual index, 3)) (hx : 0 ≤ x ∧ x < 7) (hh : h2 + 1 ≤ h) (hcy : jw_cy Y2 ret y n) (hl : Cond.methodLink (jw_yo Y) index y ∈ jw_tbl) (hi : Cond.instanceMethod y ∈ jw_tbl) (hs : Cond.selects y.cls y y ∈ jw_tbl) (hCn : y.cls = "java/lang/String") (hn : As.length = n) (hk : stk = As.reverse ++ jS G x :: st) (hst : (st.map fun v => v.category).sum ≤ 8) (hC : jw_Ct G Y2 ret h2 0 0 w (fun v => (v, M)) y (jS G x :: As) M fr)
    (k : ∀ v : Int, fr = some v → jw_Rn G Y h kc ks w lf (pc + 3) lv (jw_rv G (jw_yr Y2) v ++ st) M (kk v)) : jw_Rn G Y h kc ks w lf pc lv stk M (fr.bind kk) := by
  have hx' : x.toNat < 7 := by omega
  have hc : jw_cl G Y Y2 ret y n h h2 := ⟨hh, hcy⟩
  intro hg z hz
  cases hf : fr with
  | none => rw [hf] at hz; cases hz
  | some v =>
    rw [hf] at hz
    obtain ⟨⟨g1, g2, g3⟩, hM⟩ := hC hg v hf
    obtain ⟨h1, hW⟩ := k v hf g2 z hz
    refine ⟨h1, fun p e s m args below meth cd R Q cells slots H locs ls C P hh F => ?_⟩
    refine jw_size (fun hsz => ?_)
    subst hk
    refine jw_after (mc := 0) (ms := 0) (va_runV (C := y.cls) (b := jw_gK G x.toNat) (As := As) (rest := st) ⟨C.1, C.2.1, C.2.2.1, C.2.2.2.1, C.2.2.2.2.2.1⟩ hM ⟨jw_cb hc C.2.2.2.2.2.1 C.2.2.2.2.2.2.2.2.2.1 hl, C.2.2.2.2.2.1 _ hi, C.2.2.2.2.2.1 _ hs⟩ ⟨jw_blind, by rw [hCn]; exact vk_recv C.2.2.2.2.2.2.2.1.2.1 hx' P.2.2.1, fun U hU hW => ⟨rfl, by rw [hU]; exact P.1, P.2.1, va_K.moved hW.alike C.2.2.2.2.2.2.1, jw_St_at C.2.2.2.2.2.2.2.1 P.2.2.1 hU hW, ?_, ?_⟩⟩ rfl hn hh.1 rfl (lv_room hst) hd ⟨?_, ?_⟩) P.2.2.1 (fun H1 locs1 q1 q2 q3 q4 q5 => ?_)
    · rw [hU]; exact Nat.le_trans C.2.2.2.2.2.2.2.2.1 P.2.2.1.1
    · intro hw
      rw [hU]
      have := P.2.2.2 hw
      omega
    · have := C.2.2.2.2.2.2.2.2.2.2.1; omega
    · have := C.2.2.2.2.2.2.2.2.2.2.2; omega
    · refine hW p e s m args below meth cd R Q cells slots H1 locs1 ls C ⟨q1, q2, q3, fun hw => ?_⟩ hh F
      have h5 := q4 hw
      have h6 := P.2.2.2 hw
      omega
end
abbrev YJ0_isLatin1 : jw_Y := (RJ0, cJ0_isLatin1_aae02, 1, 4, "isLatin1")
theorem qJ0_isLatin1 : jw_cy YJ0_isLatin1 (some .boolean) yJ0_isLatin1_aae02 0 := ⟨by decide, jt_597, jt_16, by decide, by decide +kernel⟩
theorem kJ0_isLatin1 (G : jw_G) (w : Bool) (x : Int) (hx : 0 ≤ x ∧ x < 7) (M : jw_M) : jw_Ct G YJ0_isLatin1 (some .boolean) 1 0 0 w (fun v => (v, M)) yJ0_isLatin1_aae02 [jS G x] M (some (1 : Int)) := by
  refine jw_met (by decide) rfl rfl rfl (Nat.le_of_ble_eq_true rfl) (?_ : jw_Rn G YJ0_isLatin1 1 0 0 w (fun v => (v, M)) 0 [(0, jS G x)] [] M (some (1 : Int)))
  refine jw_gCS (pc := 0) rfl dJ0_isLatin1_aae02_0 jt_588 ?_
  refine (?_ : jw_Rn G YJ0_isLatin1 1 0 0 w (fun v => (v, M)) 3 [(0, jS G x)] [jI 1] M (if (1 : Int) = 0 then none else some (1 : Int)))
  refine jw_if_eq (pc := 3) 17 dJ0_isLatin1_aae02_3 (by decide) (jw_rc _ rfl) (fun z => absurd z (by decide)) (fun _ => ?_)
  refine jw_aloadS (pc := 6) 0 dJ0_isLatin1_aae02_6 rfl ?_
  refine jw_sfc (pc := 7) rfl dJ0_isLatin1_aae02_7 jt_1767 hx ?_
  refine (?_ : jw_Rn G YJ0_isLatin1 1 0 0 w (fun v => (v, M)) 10 [(0, jS G x)] [jI 0] M (if (0 : Int) = 0 then some (1 : Int) else none))
  refine jw_if_ne (pc := 10) 17 dJ0_isLatin1_aae02_10 (by decide) (jw_rc _ rfl) (fun _ => ?_) (fun z => absurd rfl z)
  refine jw_iconst (pc := 13) dJ0_isLatin1_aae02_13 ?_
  refine jw_goto (pc := 14) 18 dJ0_isLatin1_aae02_14 (by decide) ?_
  exact jw_ret (pc := 18) (v := 1) dJ0_isLatin1_aae02_18 (Or.inr rfl) rfl rfl
abbrev YJ0_coder : jw_Y := (RJ0, cJ0_coder_7d493, 1, 1, "coder")
theorem qJ0_coder : jw_cy YJ0_coder (some .byte) yJ0_coder_7d493 0 := ⟨by decide, jt_587, jt_16, by decide, by decide +kernel⟩
theorem kJ0_coder (G : jw_G) (w : Bool) (x : Int) (hx : 0 ≤ x ∧ x < 7) (M : jw_M) : jw_Ct G YJ0_coder (some .byte) 1 0 0 w (fun v => (v, M)) yJ0_coder_7d493 [jS G x] M (some (0 : Int)) := by
  refine jw_metN (by decide) rfl rfl rfl (fun z hz => by cases hz; rfl) (Nat.le_of_ble_eq_true rfl) (?_ : jw_Rn G YJ0_coder 1 0 0 w (fun v => (v, M)) 0 [(0, jS G x)] [] M (some (0 : Int)))
  refine jw_gCS (pc := 0) rfl dJ0_coder_7d493_0 jt_588 ?_
  refine (?_ : jw_Rn G YJ0_coder 1 0 0 w (fun v => (v, M)) 3 [(0, jS G x)] [jI 1] M (if (1 : Int) = 0 then none else some (0 : Int)))
  refine jw_if_eq (pc := 3) 13 dJ0_coder_7d493_3 (by decide) (jw_rc _ rfl) (fun z => absurd z (by decide)) (fun _ => ?_)
  refine jw_aloadS (pc := 6) 0 dJ0_coder_7d493_6 rfl ?_
  refine jw_sfc (pc := 7) rfl dJ0_coder_7d493_7 jt_1767 hx ?_
  refine jw_goto (pc := 10) 14 dJ0_coder_7d493_10 (by decide) ?_
  exact jw_ret (pc := 14) (v := 0) dJ0_coder_7d493_14 (jw_rc _ rfl) rfl rfl
abbrev YJ0_length : jw_Y := (RJ0, cJ0_length_8abf5, 1, 1, "length")
theorem qJ0_length : jw_cy YJ0_length (some .int) yJ0_length_8abf5 0 := ⟨by decide, jt_583, jt_16, by decide, by decide +kernel⟩
theorem jw_shr0 {a : Int} (h : jw_r a) : jw_ishr a 0 = a := by
  unfold jw_ishr
  have e : Int32.ofInt a >>> (Int32.ofInt 0 &&& 31) = Int32.ofInt a := sb_shr0 _
  rw [e, jw_t h]
theorem kJ0_length (G : jw_G) (w : Bool) (x : Int) (hx : 0 ≤ x ∧ x < 7) (M : jw_M) : jw_Ct G YJ0_length (some .int) 2 0 0 w (fun v => (v, M)) yJ0_length_8abf5 [jS G x] M (some (jw_sl x)) := by
  refine jw_met (by decide) rfl rfl rfl (Nat.le_of_ble_eq_true rfl) (?_ : jw_Rn G YJ0_length 2 0 0 w (fun v => (v, M)) 0 [(0, jS G x)] [] M (some (jw_sl x)))
  refine jw_aloadS (pc := 0) 0 dJ0_length_8abf5_0 rfl ?_
  refine jw_sfv (pc := 1) rfl dJ0_length_8abf5_1 jt_1766 hx ?_
  refine jw_vln (pc := 4) dJ0_length_8abf5_4 hx ?_
  refine jw_aloadS (pc := 5) 0 dJ0_length_8abf5_5 rfl ?_
  refine (?_ : jw_Rn G YJ0_length 2 0 0 w (fun v => (v, M)) 6 [(0, jS G x)] [jS G x, jI (jw_sl x)] M ((some (0 : Int)).bind (fun _ => some (jw_sl x))))
  refine jw_callT (pc := 6) (As := []) (st := [jI (jw_sl x)]) (x := x) dJ0_length_8abf5_6 hx (Nat.le_of_ble_eq_true rfl) qJ0_coder jt_584 jt_585 jt_586 rfl rfl rfl (Nat.le_of_ble_eq_true rfl) (kJ0_coder G w x hx M) ?_
  intro v hv
  cases hv
  refine (?_ : jw_Rn G YJ0_length 2 0 0 w (fun v => (v, M)) 9 [(0, jS G x)] [jI 0, jI (jw_sl x)] M (some (jw_sl x)))
  refine jw_ishrr (pc := 9) dJ0_length_8abf5_9 ?_
  rw [jw_shr0 (jw_slr x)]
  exact jw_ret (pc := 10) (v := jw_sl x) dJ0_length_8abf5_10 (jw_slr x) rfl rfl
abbrev YJ3_checkIndex : jw_Y := (RJ3, cJ3_checkIndex_8e157, 3, 1, "checkIndex")
theorem qJ3_checkIndex : jw_cy YJ3_checkIndex (some .int) yJ3_checkIndex_8e157 3 := ⟨by decide, jt_608, jt_18, by decide, by decide +kernel⟩
theorem kJ3_checkIndex (G : jw_G) (w : Bool) (i n : Int) (v2 : Value) (hv2 : v2 = .null ∨ ∃ t, v2 = .ref t) (hi : jw_r i) (hn : jw_r n) (hin : 0 ≤ i ∧ i < n) (M : jw_M) : jw_Ct G YJ3_checkIndex (some .int) 1 0 0 w (fun v => (v, M)) yJ3_checkIndex_8e157 [jI i, jI n, v2] M (some i) := by
  refine jw_met (by decide) rfl rfl rfl (by rcases hv2 with rfl | ⟨t, rfl⟩ <;> exact Nat.le_of_ble_eq_true rfl) (?_ : jw_Rn G YJ3_checkIndex 1 0 0 w (fun v => (v, M)) 0 [(0, jI i), (1, jI n), (2, v2)] [] M (some i))
  refine jw_iload_n (pc := 0) 0 dJ3_checkIndex_8e157_0 rfl ?_
  rw [show (some i : Option Int) = (if i < 0 then none else some i) by rw [if_neg (by omega)]]
  refine jw_if_lt (pc := 1) 9 dJ3_checkIndex_8e157_1 (by decide) hi (fun z => absurd z (by omega)) (fun _ => ?_)
  refine jw_iload_n (pc := 4) 0 dJ3_checkIndex_8e157_4 rfl ?_
  refine jw_iload_n (pc := 5) 1 dJ3_checkIndex_8e157_5 rfl ?_
  rw [show (some i : Option Int) = (if i < n then some i else none) by rw [if_pos (by omega)]]
  refine jw_ic_lt (pc := 6) 16 dJ3_checkIndex_8e157_6 (by decide) hi hn (fun _ => ?_) (fun z => absurd hin.2 z)
  refine jw_iload_n (pc := 16) 0 dJ3_checkIndex_8e157_16 rfl ?_
  exact jw_ret (pc := 17) (v := i) dJ3_checkIndex_8e157_17 hi rfl rfl
section
variable {α : Type} {G : jw_G} {Y Y2 : jw_Y} {ret : Option FieldType} {h h2 n index : Nat} {w : Bool} {pc : Nat} {lv : List (Nat × Value)} {st stk As : List Value} {M : jw_M} {lf : α → Int × jw_M} {y : MethodName} {z : Int} {res : Option α} {kc ks : Nat}
/-- a static call that answers a known number and leaves the memory -/
theorem jw_callSk (hd : decode (jw_yc Y) pc = .ok (.invokestatic index, 3)) (hh : h2 + 1 ≤ h) (hcy : jw_cy Y2 ret y n) (hl : Cond.methodLink (jw_yo Y) index y ∈ jw_tbl) (hi : Cond.static y ∈ jw_tbl) (hn : As.length = n) (hk : stk = As.reverse ++ st) (hst : (st.map fun v => v.category).sum ≤ 8) (hC : jw_Ct G Y2 ret h2 0 0 w (fun v => (v, M)) y As M (some z))
    (k : jw_Rn G Y h kc ks w lf (pc + 3) lv (jw_rv G (jw_yr Y2) z ++ st) M res) : jw_Rn G Y h kc ks w lf pc lv stk M res := by
  intro hg q hq
  have h0 := k hg q hq
  refine (jw_callS (fr := some z) (kk := fun v => if v = z then res else none) (lf := lf) hd ⟨hh, hcy⟩ hl hi hn hk hst hC (fun x hx => ?_)) hg q ?_
  · by_cases hx' : x = z
    · subst hx'
      rw [if_pos rfl]
      exact k
    · rw [if_neg hx']; exact jw_none
  · show (if z = z then res else none) = some q
    rw [if_pos rfl]; exact hq
end
abbrev YJ0_checkIndex : jw_Y := (RJ0, cJ0_checkIndex_df160, 2, 0, "checkIndex")
theorem qJ0_checkIndex : jw_cy YJ0_checkIndex none yJ0_checkIndex_df160 2 := ⟨by decide, jt_603, jt_16, by decide, by decide +kernel⟩
theorem kJ0_checkIndex (G : jw_G) (w : Bool) (i n : Int) (hi : jw_r i) (hn : jw_r n) (hin : 0 ≤ i ∧ i < n) (M : jw_M) : jw_Ct G YJ0_checkIndex none 2 0 0 w (fun v => (v, M)) yJ0_checkIndex_df160 [jI i, jI n] M (some (0 : Int)) := by
  refine jw_met (by decide) rfl rfl rfl (Nat.le_of_ble_eq_true rfl) (?_ : jw_Rn G YJ0_checkIndex 2 0 0 w (fun v => (v, M)) 0 [(0, jI i), (1, jI n)] [] M (some (0 : Int)))
  refine jw_iload_n (pc := 0) 0 dJ0_checkIndex_df160_0 rfl ?_
  refine jw_iload_n (pc := 1) 1 dJ0_checkIndex_df160_1 rfl ?_
  refine jw_gSF (pc := 2) rfl dJ0_checkIndex_df160_2 jt_604 (fun v hv => ?_)
  refine jw_callSk (pc := 5) (As := [jI i, jI n, v]) (st := []) dJ0_checkIndex_df160_5 (Nat.le_of_ble_eq_true rfl) qJ3_checkIndex jt_606 jt_607 rfl rfl (Nat.le_of_ble_eq_true rfl) (kJ3_checkIndex G w i n v hv hi hn hin M) ?_
  refine (?_ : jw_Rn G YJ0_checkIndex 2 0 0 w (fun v => (v, M)) 8 [(0, jI i), (1, jI n)] [jI i] M (some (0 : Int)))
  refine jw_popv (pc := 8) dJ0_checkIndex_df160_8 rfl ?_
  exact jw_ret (pc := 9) (v := 0) dJ0_checkIndex_df160_9 trivial rfl rfl
theorem jw_scl : ∀ x, x < 7 → ∀ i, i < jw_slen.getD x 0 → 0 ≤ ((jw_sbyt.getD x []).getD i 0).toInt ∧ ((jw_sbyt.getD x []).getD i 0).toInt < 128 ∧ ((jw_sbyt.getD x []).getD i 0) &&& 255 = (jw_sbyt.getD x []).getD i 0 := by decide +kernel
theorem jw_sc255 {x i : Int} (hx : 0 ≤ x ∧ x < 7) (hi : 0 ≤ i ∧ i < jw_sl x) : jw_iand (jw_sc x i) 255 = jw_sc x i ∧ 0 ≤ jw_sc x i ∧ jw_sc x i < 128 := by
  have h := jw_scl x.toNat (by omega) i.toNat (by unfold jw_sl at hi; omega)
  refine ⟨?_, h.1, h.2.1⟩
  unfold jw_iand jw_sc
  rw [Int32.ofInt_toInt]
  exact congrArg Int32.toInt h.2.2
abbrev YJ1_charAt : jw_Y := (RJ1, cJ1_charAt_3b067, 2, 1, "charAt")
theorem qJ1_charAt : jw_cy YJ1_charAt (some .char) yJ1_charAt_3b067 2 := ⟨by decide, jt_600, jt_17, by decide, by decide +kernel⟩
theorem jw_narc {a : Int} (h : 0 ≤ a ∧ a < 65536) : narrow .char (jI a) = jI a := by
  obtain ⟨n, rfl⟩ : ∃ n : Nat, a = n := ⟨a.toNat, by omega⟩
  have h1 : jI (n : Int) = .int (nI n) := congrArg Value.int Int32.ofInt_eq_ofNat
  rw [h1]
  exact (pk_charN (by omega)).1
theorem kJ1_charAt (G : jw_G) (w : Bool) (x i : Int) (hx : 0 ≤ x ∧ x < 7) (hr : jw_r i) (hi : 0 ≤ i ∧ i < jw_sl x) (M : jw_M) : jw_Ct G YJ1_charAt (some .char) 3 0 0 w (fun v => (v, M)) yJ1_charAt_3b067 [jV G x, jI i] M (some (jw_sc x i)) := by
  obtain ⟨e1, e2, e3⟩ := jw_sc255 hx hi
  refine jw_metN (by decide) rfl rfl rfl (fun z hz => by cases hz; exact jw_narc ⟨e2, by omega⟩) (Nat.le_of_ble_eq_true rfl) (?_ : jw_Rn G YJ1_charAt 3 0 0 w (fun v => (v, M)) 0 [(0, jV G x), (1, jI i)] [] M (some (jw_sc x i)))
  refine jw_iload_n (pc := 0) 1 dJ1_charAt_3b067_0 rfl ?_
  refine jw_aload_n (pc := 1) (x := jw_gV G x.toNat) 0 dJ1_charAt_3b067_1 rfl ?_
  refine jw_vln (x := x) (pc := 2) dJ1_charAt_3b067_2 hx ?_
  refine jw_callSk (pc := 3) (As := [jI i, jI (jw_sl x)]) (st := []) dJ1_charAt_3b067_3 (Nat.le_of_ble_eq_true rfl) qJ0_checkIndex jt_601 jt_602 rfl rfl (Nat.le_of_ble_eq_true rfl) (kJ0_checkIndex G w i (jw_sl x) hr (jw_slr x) hi M) ?_
  refine (?_ : jw_Rn G YJ1_charAt 3 0 0 w (fun v => (v, M)) 6 [(0, jV G x), (1, jI i)] [] M (some (jw_sc x i)))
  refine jw_aload_n (pc := 6) (x := jw_gV G x.toNat) 0 dJ1_charAt_3b067_6 rfl ?_
  refine jw_iload_n (pc := 7) 1 dJ1_charAt_3b067_7 rfl ?_
  refine jw_vbl (x := x) (pc := 8) dJ1_charAt_3b067_8 hx hr hi ?_
  refine jw_sipush (pc := 9) dJ1_charAt_3b067_9 rfl ?_
  refine jw_iandr (pc := 12) dJ1_charAt_3b067_12 ?_
  rw [e1]
  refine jw_i2c (pc := 13) dJ1_charAt_3b067_13 ⟨e2, by omega⟩ ?_
  exact jw_ret (pc := 14) (v := jw_sc x i) dJ1_charAt_3b067_14 (jw_scr x i) rfl rfl
abbrev YJ0_charAt : jw_Y := (RJ0, cJ0_charAt_5068e, 2, 1, "charAt")
theorem qJ0_charAt : jw_cy YJ0_charAt (some .char) yJ0_charAt_5068e 1 := ⟨by decide, jt_593, jt_16, by decide, by decide +kernel⟩
theorem kJ0_charAt (G : jw_G) (w : Bool) (x i : Int) (hx : 0 ≤ x ∧ x < 7) (hr : jw_r i) (hi : 0 ≤ i ∧ i < jw_sl x) (M : jw_M) : jw_Ct G YJ0_charAt (some .char) 4 0 0 w (fun v => (v, M)) yJ0_charAt_5068e [jS G x, jI i] M (some (jw_sc x i)) := by
  obtain ⟨e1, e2, e3⟩ := jw_sc255 hx hi
  refine jw_metN (by decide) rfl rfl rfl (fun z hz => by cases hz; exact jw_narc ⟨e2, by omega⟩) (Nat.le_of_ble_eq_true rfl) (?_ : jw_Rn G YJ0_charAt 4 0 0 w (fun v => (v, M)) 0 [(0, jS G x), (1, jI i)] [] M (some (jw_sc x i)))
  refine jw_aloadS (pc := 0) 0 dJ0_charAt_5068e_0 rfl ?_
  refine (?_ : jw_Rn G YJ0_charAt 4 0 0 w (fun v => (v, M)) 1 [(0, jS G x), (1, jI i)] [jS G x] M ((some (1 : Int)).bind (fun _ => some (jw_sc x i))))
  refine jw_callT (pc := 1) (As := []) (st := []) (x := x) dJ0_charAt_5068e_1 hx (h2 := 1) (by decide) qJ0_isLatin1 jt_594 jt_595 jt_596 rfl rfl rfl (Nat.le_of_ble_eq_true rfl) (kJ0_isLatin1 G w x hx M) ?_
  intro v hv
  cases hv
  refine (?_ : jw_Rn G YJ0_charAt 4 0 0 w (fun v => (v, M)) 4 [(0, jS G x), (1, jI i)] [jI 1] M (if (1 : Int) = 0 then none else some (jw_sc x i)))
  refine jw_if_eq (pc := 4) 16 dJ0_charAt_5068e_4 (by decide) (jw_rc _ rfl) (fun z => absurd z (by decide)) (fun _ => ?_)
  refine jw_aloadS (pc := 7) 0 dJ0_charAt_5068e_7 rfl ?_
  refine jw_sfv (pc := 8) rfl dJ0_charAt_5068e_8 jt_1766 hx ?_
  refine jw_iload_n (pc := 11) 1 dJ0_charAt_5068e_11 rfl ?_
  refine jw_callSk (pc := 12) (As := [jV G x, jI i]) (st := []) dJ0_charAt_5068e_12 (Nat.le_of_ble_eq_true rfl) qJ1_charAt jt_598 jt_599 rfl rfl (Nat.le_of_ble_eq_true rfl) (kJ1_charAt G w x i hx hr hi M) ?_
  refine (?_ : jw_Rn G YJ0_charAt 4 0 0 w (fun v => (v, M)) 15 [(0, jS G x), (1, jI i)] [jI (jw_sc x i)] M (some (jw_sc x i)))
  exact jw_ret (pc := 15) (v := jw_sc x i) dJ0_charAt_5068e_15 (jw_scr x i) rfl rfl
section
variable {G : jw_G} {Y : jw_Y} {h kc ks : Nat} {w : Bool} {pc : Nat} {lv : List (Nat × Value)} {st : List Value} {M : jw_M} {α : Type} {lf : α → Int × jw_M} {res : Option α} {index : Nat}
theorem jw_slenR {x : Int} (hd : decode (jw_yc Y) pc = .ok (.invokevirtual index, 3)) (hl : Cond.methodLink (jw_yo Y) index yJ0_length_8abf5 ∈ jw_tbl) (hh : 8 ≤ h) (hst : (st.map fun v => v.category).sum ≤ 8) (hx : 0 ≤ x ∧ x < 7) (k : jw_Rn G Y h kc ks w lf (pc + 3) lv (jI (jw_sl x) :: st) M res) : jw_Rn G Y h kc ks w lf pc lv (jS G x :: st) M res := by
  refine (?_ : jw_Rn G Y h kc ks w lf pc lv (jS G x :: st) M ((some (jw_sl x)).bind (fun _ => res)))
  refine jw_callT (As := []) (st := st) (x := x) hd hx (h2 := 2) (by omega) qJ0_length hl jt_581 jt_582 rfl rfl rfl hst (kJ0_length G w x hx M) ?_
  intro v hv
  cases hv
  exact k
theorem jw_scatR {x i : Int} (hd : decode (jw_yc Y) pc = .ok (.invokevirtual index, 3)) (hl : Cond.methodLink (jw_yo Y) index yJ0_charAt_5068e ∈ jw_tbl) (hh : 8 ≤ h) (hst : (st.map fun v => v.category).sum ≤ 8) (hx : 0 ≤ x ∧ x < 7) (hi : jw_r i) (k : jw_Rn G Y h kc ks w lf (pc + 3) lv (jI (jw_sc x i) :: st) M res) : jw_Rn G Y h kc ks w lf pc lv (jI i :: jS G x :: st) M (if 0 ≤ i ∧ i < jw_sl x then res else none) := by
  refine jw_ck (fun hin => ?_)
  refine (?_ : jw_Rn G Y h kc ks w lf pc lv (jI i :: jS G x :: st) M ((some (jw_sc x i)).bind (fun _ => res)))
  refine jw_callT (As := [jI i]) (st := st) (x := x) hd hx (h2 := 4) (by omega) qJ0_charAt hl jt_591 jt_592 rfl rfl rfl hst (kJ0_charAt G w x i hx hi hin M) ?_
  intro v hv
  cases hv
  exact k
end
