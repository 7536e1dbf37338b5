theorem jw_lr {a : Nat} (h : jw_tag a = 20) : jw_r (jw_len a : Int) := by
  have h1 : jw_len a ≤ 1000 := (by decide +kernel : ∀ t, t < 148 → jw_tag t = 20 → jw_len t ≤ 1000) a (jw_lay_lt h (by decide)) h
  unfold jw_r; omega
theorem jw_im1 {i : Int} (h : 0 ≤ i ∧ i < 2) : jw_rf 63 i.toNat = 64 + 27 * i.toNat := by
  have h2 : i.toNat < 2 := by omega
  exact (by decide +kernel : ∀ k, k < 2 → jw_rf 63 k = 64 + 27 * k) i.toNat h2
def jw_sl (x : Int) : Int := (jw_slen.getD x.toNat 0 : Nat)
def jw_sc (x i : Int) : Int := ((jw_sbyt.getD x.toNat []).getD i.toNat 0).toInt
theorem jw_scr (x i : Int) : jw_r (jw_sc x i) := jw_rI _
theorem jw_slr (x : Int) : jw_r (jw_sl x) := by
  unfold jw_sl
  have h : jw_slen.getD x.toNat 0 ≤ 7 := by
    rw [List.getD_eq_getElem?_getD]
    cases hx : jw_slen[x.toNat]? with
    | none => exact Nat.zero_le _
    | some z => exact (by decide : ∀ z ∈ jw_slen, z ≤ 7) z (List.mem_of_getElem? hx)
  unfold jw_r; omega
section
variable {G : jw_G} {Y : jw_Y} {h kc ks : Nat} {w : Bool} {pc : Nat} {lv : List (Nat × Value)} {st : List Value} {M : jw_M} {α : Type} {lf : α → Int × jw_M} {res : Option α} {index : Nat}
theorem jw_ldcS {tx : String} {x : Int} (j : Nat) (hown : jw_yo Y = "StringsSheet$Reader") (hd : decode (jw_yc Y) pc = .ok (.ldc index, 2)) (hj : jw_stx[j]? = some (index, tx)) (hx : x.toNat = j) (k : jw_Rn G Y h kc ks w lf (pc + 2) lv (jS G x :: st) M res) : jw_Rn G Y h kc ks w lf pc lv st M res := by
  subst hx
  exact jw_step (fun p e s m args below meth c R Q cells slots H locs ls C P _ k => va_ldcS C.1 C.2.1 (by rw [← hown]; exact C.2.2.2.1) (C.2.2.2.2.2.2.2.1.2.2.1 _ _ hj) hd k) k
def jw_Ln (G : jw_G) : Int := (jw_gL G : Nat)
def jw_xq (G : jw_G) (i : Int) : Int := (jw_gX G i.toNat).toInt
def jQ (G : jw_G) : Value := .ref (jw_gs G 99)
theorem jw_Lr {G : jw_G} (h : jw_gL G ≤ 384) : jw_r (jw_Ln G) := by unfold jw_r jw_Ln; omega
theorem jw_aloadQ {i : Fin 4} (j : Nat) (hd : decode (jw_yc Y) pc = .ok (.aload_n i, 1)) (hl : lv[j]? = some ((i : Nat), jQ G)) (k : jw_Rn G Y h kc ks w lf (pc + 1) lv (jQ G :: st) M res) : jw_Rn G Y h kc ks w lf pc lv st M res := jw_aload_n j hd hl k
theorem jw_qlen (hd : decode (jw_yc Y) pc = .ok (.arraylength, 1)) (k : jw_Rn G Y h kc ks w lf (pc + 1) lv (jI (jw_Ln G) :: st) M res) : jw_Rn G Y h kc ks w lf pc lv (jQ G :: st) M res :=
  jw_step (fun p e s m args below meth c R Q cells slots H locs ls C P _ k => va_tlen C.1 C.2.1 C.2.2.2.2.2.2.2.1.2.2.2.2.2.2 P.2.2.1 (show Int32.ofNat (jw_gL G) = Int32.ofInt (jw_Ln G) from Int32.ofInt_eq_ofNat.symm) hd k) k
theorem jw_qld {i : Int} (hd : decode (jw_yc Y) pc = .ok (.iaload, 1)) (hr : jw_r i) (k : jw_Rn G Y h kc ks w lf (pc + 1) lv (jI (jw_xq G i) :: st) M res) : jw_Rn G Y h kc ks w lf pc lv (jI i :: jQ G :: st) M (if 0 ≤ i ∧ i < jw_Ln G then res else none) := by
  refine jw_ck (fun hi => jw_step (fun p e s m args below meth c R Q cells slots H locs ls C P _ k => va_ti C.1 C.2.1 C.2.2.2.2.2.2.2.1.2.2.2.2.2.2 P.2.2.1 ((jw_in hr).mpr hi) ?_ hd k) k)
  rw [jw_tn hr]
  show Value.int _ = Value.int (Int32.ofInt (jw_xq G i))
  unfold jw_xq
  rw [Int32.ofInt_toInt]
end
