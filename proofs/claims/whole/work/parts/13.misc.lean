theorem jw_lr {a : Nat} (h : jw_tag a = 20) : jw_r (jw_len a : Int) := by
  have h1 : jw_len a ≤ 1000 := (by decide +kernel : ∀ t, t < 148 → jw_tag t = 20 → jw_len t ≤ 1000) a (jw_lay_lt h (by decide)) h
  unfold jw_r; omega
theorem jw_im1 {i : Int} (h : 0 ≤ i ∧ i < 2) : jw_rf 63 i.toNat = 64 + 27 * i.toNat := by
  have h2 : i.toNat < 2 := by omega
  exact (by decide +kernel : ∀ k, k < 2 → jw_rf 63 k = 64 + 27 * k) i.toNat h2
def jw_sl (x : Int) : Int := (jw_slen.getD x.toNat 0 : Nat)
def jw_sc (x i : Int) : Int := ((jw_sbyt.getD x.toNat []).getD i.toNat 0).toInt
theorem jw_scr (x i : Int) : jw_r (jw_sc x i) := jw_rI _
theorem jw_slr (x : Int) : jw_r (jw_sl x) := by
  unfold jw_sl
  have h : jw_slen.getD x.toNat 0 ≤ 7 := by
    rw [List.getD_eq_getElem?_getD]
    cases hx : jw_slen[x.toNat]? with
    | none => exact Nat.zero_le _
    | some z => exact (by decide : ∀ z ∈ jw_slen, z ≤ 7) z (List.mem_of_getElem? hx)
  unfold jw_r; omega
section
variable {G : jw_G} {Y : jw_Y} {h kc ks : Nat} {w : Bool} {pc : Nat} {lv : List (Nat × Value)} {st : List Value} {M : jw_M} {α : Type} {lf : α → Int × jw_M} {res : Option α} {index : Nat}
theorem jw_ldcS {tx : String} {x : Int} (j : Nat) (hown : jw_yo Y = "StringsSheet$Reader") (hd : decode (jw_yc Y) pc = .ok (.ldc index, 2)) (hj : jw_stx[j]? = some (index, tx)) (hx : x.toNat = j) (k : jw_Rn G Y h kc ks w lf (pc + 2) lv (jS G x :: st) M res) : jw_Rn G Y h kc ks w lf pc lv st M res := by
  subst hx
  exact jw_step (fun p e s m args below meth c R Q cells slots H locs ls C P _ k => va_ldcS C.1 C.2.1 (by rw [← hown]; exact C.2.2.2.1) (C.2.2.2.2.2.2.2.1.2.2.1 _ _ hj) hd k) k
theorem jw_slenR {x : Int} (hd : decode (jw_yc Y) pc = .ok (.invokevirtual index, 3)) (hl : Cond.methodLink (jw_yo Y) index yJ0_length_8abf5 ∈ jw_tbl) (hh : 8 ≤ h) (hst : (st.map fun v => v.category).sum ≤ 8) (hx : 0 ≤ x ∧ x < 7) (k : jw_Rn G Y h kc ks w lf (pc + 3) lv (jI (jw_sl x) :: st) M res) : jw_Rn G Y h kc ks w lf pc lv (jS G x :: st) M res := by
  sorry
theorem jw_scatR {x i : Int} (hd : decode (jw_yc Y) pc = .ok (.invokevirtual index, 3)) (hl : Cond.methodLink (jw_yo Y) index yJ0_charAt_5068e ∈ jw_tbl) (hh : 8 ≤ h) (hst : (st.map fun v => v.category).sum ≤ 8) (hx : 0 ≤ x ∧ x < 7) (hi : jw_r i) (k : jw_Rn G Y h kc ks w lf (pc + 3) lv (jI (jw_sc x i) :: st) M res) : jw_Rn G Y h kc ks w lf pc lv (jI i :: jS G x :: st) M (if 0 ≤ i ∧ i < jw_sl x then res else none) := by
  sorry
end
