theorem jw_arr_up {ca : ClassId} {M : jw_M} {o n : Nat} {i x : Int} (hi : 0 ≤ i) (hr : jw_r i) : ((ca, n, .inl (upd (fun j => Int32.ofInt (M o (j : Nat))) (Int32.ofInt i).toNatClampNeg (Int32.ofInt x))) : ClassId × vp_A) = (ca, n, .inl (fun j => Int32.ofInt (jw_up M o i x o (j : Nat)))) := by
  congr 3
  funext j
  rw [jw_tn hr]
  unfold upd
  by_cases hj : j = i.toNat
  · subst hj
    rw [if_pos rfl, Int.toNat_of_nonneg hi, jw_up_s]
  · rw [if_neg hj, jw_up_n M (by omega)]
theorem jw_st_arr {o c j : Nat} (ht : jw_tag o = c) : (c = 20 → jw_st o j = 0) ∧ (c = 21 → jw_st o j = 4) ∧ (c = 22 → jw_st o j = 3) := by
  refine ⟨fun h => ?_, fun h => ?_, fun h => ?_⟩ <;> subst h <;> unfold jw_st <;> rw [ht] <;> rfl
section
variable {G : jw_G} {Y : jw_Y} {h kc ks : Nat} {w : Bool} {pc : Nat} {lv : List (Nat × Value)} {st : List Value} {M : jw_M} {α : Type} {lf : α → Int × jw_M} {res : Option α}
theorem jw_iald {o n : Nat} {i : Int} {b : Int} (hd : decode (jw_yc Y) pc = .ok (.iaload, 1)) (ht : jw_tag o = 20) (hn : jw_len o = n) (ho : o < jw_n w M) (hr : jw_r i) (hb : (n : Int) = b)
    (k : jw_r (M o i) → jw_Rn G Y h kc ks w lf (pc + 1) lv (jI (M o i) :: st) M res) : jw_Rn G Y h kc ks w lf pc lv (jI i :: jR G o :: st) M (if 0 ≤ i ∧ i < b then res else none) := by
  subst hb
  refine jw_ck (fun hi => jw_rgd (fun hg => ?_))
  have hM : jw_r (M o i) := by
    have := hg o i
    rw [(jw_st_arr ht).1 rfl] at this
    exact this
  refine jw_step (fun p e s m args below meth c R Q cells slots H locs ls C P _ k => ?_) (k hM)
  have hat := jw_wl_at G w M ho
  rw [jw_ce_arr ht hn (by omega) (by omega)] at hat
  refine va_iald C.1 C.2.1 C.2.2.2.2.2.2.1 P.1 o 0 hat rfl ((jw_in hr).mpr hi) hd ?_
  rw [jw_tn hr, Int.toNat_of_nonneg hi.1]
  exact k
theorem jw_bald {o n : Nat} {i : Int} {b : Int} (hd : decode (jw_yc Y) pc = .ok (.baload, 1)) (ht : jw_tag o = 21) (hn : jw_len o = n) (ho : o < jw_n w M) (hr : jw_r i) (hb : (n : Int) = b)
    (k : jw_r (M o i) → jw_Rn G Y h kc ks w lf (pc + 1) lv (jI (M o i) :: st) M res) : jw_Rn G Y h kc ks w lf pc lv (jI i :: jR G o :: st) M (if 0 ≤ i ∧ i < b then res else none) := by
  subst hb
  refine jw_ck (fun hi => jw_rgd (fun hg => ?_))
  have hM : jw_r (M o i) := by
    have := hg o i
    rw [(jw_st_arr ht).2.1 rfl] at this
    have h2 : -128 ≤ M o i ∧ M o i ≤ 127 := this
    unfold jw_r; omega
  refine jw_step (fun p e s m args below meth c R Q cells slots H locs ls C P _ k => ?_) (k hM)
  have hat := jw_wl_at G w M ho
  rw [jw_ce_arr ht hn (by omega) (by omega)] at hat
  refine va_bald C.1 C.2.1 C.2.2.2.2.2.2.1 P.1 o 1 hat rfl ((jw_in hr).mpr hi) hd ?_
  rw [jw_tn hr, Int.toNat_of_nonneg hi.1]
  exact k
theorem jw_zald {o n : Nat} {i : Int} {b : Int} (hd : decode (jw_yc Y) pc = .ok (.baload, 1)) (ht : jw_tag o = 22) (hn : jw_len o = n) (ho : o < jw_n w M) (hr : jw_r i) (hb : (n : Int) = b)
    (k : jw_r (M o i) → jw_Rn G Y h kc ks w lf (pc + 1) lv (jI (M o i) :: st) M res) : jw_Rn G Y h kc ks w lf pc lv (jI i :: jR G o :: st) M (if 0 ≤ i ∧ i < b then res else none) := by
  subst hb
  refine jw_ck (fun hi => jw_rgd (fun hg => ?_))
  have hM : jw_r (M o i) := by
    have := hg o i
    rw [(jw_st_arr ht).2.2 rfl] at this
    have h2 : M o i = 0 ∨ M o i = 1 := this
    unfold jw_r; omega
  refine jw_step (fun p e s m args below meth c R Q cells slots H locs ls C P _ k => ?_) (k hM)
  have hat := jw_wl_at G w M ho
  rw [jw_ce_arr ht hn (by omega) (by omega)] at hat
  refine va_zald C.1 C.2.1 C.2.2.2.2.2.2.1 P.1 o 2 hat rfl ((jw_in hr).mpr hi) hd ?_
  rw [jw_tn hr, Int.toNat_of_nonneg hi.1]
  exact k
theorem jw_iast {o n : Nat} {i x : Int} {b : Int} (hd : decode (jw_yc Y) pc = .ok (.iastore, 1)) (ht : jw_tag o = 20) (hn : jw_len o = n) (ho : o < jw_n w M) (hr : jw_r i) (hx : jw_r x) (hb : (n : Int) = b)
    (k : jw_Rn G Y h kc ks w lf (pc + 1) lv st (jw_up M o i x) res) : jw_Rn G Y h kc ks w lf pc lv (jI x :: jI i :: jR G o :: st) M (if 0 ≤ i ∧ i < b then res else none) := by
  subst hb
  have h8 : o < 148 := jw_lay_lt ht (by omega)
  refine jw_ck (fun hi => jw_wrt (o := o) (i := i) (x := x) h8 (by rw [(jw_st_arr ht).1 rfl]; exact hx) (fun p e s m args below meth c R Q cells slots H locs ls C P _ k => ?_) k)
  have hat := jw_wl_at G w M ho
  rw [jw_ce_arr ht hn (by omega) (by omega)] at hat
  refine va_iast C.1 C.2.1 C.2.2.2.2.2.2.1 P.1 P.2.1 (jw_S1 P.2.2.1) o 0 hat rfl ((jw_in hr).mpr hi) hd (fun H1 locs1 q1 q2 q3 => ?_)
  rw [jw_arr_up hi.1 hr, jw_wl_up G w M (i := i) (x := x) ho h8 (jw_ce_arr ht hn (by omega) (by omega))] at q1 q2
  exact k H1 locs1 (jw_Wd_up P h8 q1 q2 q3)
theorem jw_bast {o n : Nat} {i x : Int} {b : Int} (hd : decode (jw_yc Y) pc = .ok (.bastore, 1)) (ht : jw_tag o = 21) (hn : jw_len o = n) (ho : o < jw_n w M) (hr : jw_r i) (hx : -128 ≤ x ∧ x ≤ 127) (hb : (n : Int) = b)
    (k : jw_Rn G Y h kc ks w lf (pc + 1) lv st (jw_up M o i x) res) : jw_Rn G Y h kc ks w lf pc lv (jI x :: jI i :: jR G o :: st) M (if 0 ≤ i ∧ i < b then res else none) := by
  subst hb
  have h8 : o < 148 := jw_lay_lt ht (by omega)
  have en : vp_nar .byte (Int32.ofInt x) = Int32.ofInt x := by
    rw [vp_nar_byte, jw_i2b]
    congr 1
    unfold jw_b; omega
  refine jw_ck (fun hi => jw_wrt (o := o) (i := i) (x := x) h8 (by rw [(jw_st_arr ht).2.1 rfl]; exact hx) (fun p e s m args below meth c R Q cells slots H locs ls C P _ k => ?_) k)
  have hat := jw_wl_at G w M ho
  rw [jw_ce_arr ht hn (by omega) (by omega)] at hat
  refine va_bast C.1 C.2.1 C.2.2.2.2.2.2.1 P.1 P.2.1 (jw_S1 P.2.2.1) o 1 hat rfl ((jw_in hr).mpr hi) hd (fun H1 locs1 q1 q2 q3 => ?_)
  rw [en, jw_arr_up hi.1 hr, jw_wl_up G w M (i := i) (x := x) ho h8 (jw_ce_arr ht hn (by omega) (by omega))] at q1 q2
  exact k H1 locs1 (jw_Wd_up P h8 q1 q2 q3)
theorem jw_zast {o n : Nat} {i x : Int} {b : Int} (hd : decode (jw_yc Y) pc = .ok (.bastore, 1)) (ht : jw_tag o = 22) (hn : jw_len o = n) (ho : o < jw_n w M) (hr : jw_r i) (hx : x = 0 ∨ x = 1) (hb : (n : Int) = b)
    (k : jw_Rn G Y h kc ks w lf (pc + 1) lv st (jw_up M o i x) res) : jw_Rn G Y h kc ks w lf pc lv (jI x :: jI i :: jR G o :: st) M (if 0 ≤ i ∧ i < b then res else none) := by
  subst hb
  have h8 : o < 148 := jw_lay_lt ht (by omega)
  have en : vp_nar .boolean (Int32.ofInt x) = Int32.ofInt x := by rcases hx with rfl | rfl <;> rfl
  refine jw_ck (fun hi => jw_wrt (o := o) (i := i) (x := x) h8 (by rw [(jw_st_arr ht).2.2 rfl]; exact hx) (fun p e s m args below meth c R Q cells slots H locs ls C P _ k => ?_) k)
  have hat := jw_wl_at G w M ho
  rw [jw_ce_arr ht hn (by omega) (by omega)] at hat
  refine va_zast C.1 C.2.1 C.2.2.2.2.2.2.1 P.1 P.2.1 (jw_S1 P.2.2.1) o 2 hat rfl ((jw_in hr).mpr hi) hd (fun H1 locs1 q1 q2 q3 => ?_)
  rw [en, jw_arr_up hi.1 hr, jw_wl_up G w M (i := i) (x := x) ho h8 (jw_ce_arr ht hn (by omega) (by omega))] at q1 q2
  exact k H1 locs1 (jw_Wd_up P h8 q1 q2 q3)
theorem jw_alen {o n : Nat} {b : Int} (hd : decode (jw_yc Y) pc = .ok (.arraylength, 1)) (ht : jw_tag o = 20) (hn : jw_len o = n) (ho : o < jw_n w M) (hb : (n : Int) = b)
    (k : jw_Rn G Y h kc ks w lf (pc + 1) lv (jI b :: st) M res) : jw_Rn G Y h kc ks w lf pc lv (jR G o :: st) M res := by
  subst hb
  refine jw_step (fun p e s m args below meth c R Q cells slots H locs ls C P _ k => ?_) k
  have hat := jw_wl_at G w M ho
  rw [jw_ce_arr ht hn (by omega) (by omega)] at hat
  exact va_alen C.1 C.2.1 C.2.2.2.2.2.2.1 P.1 o 0 hat rfl (show Int32.ofNat n = Int32.ofInt (n : Int) from (Int32.ofInt_eq_ofNat).symm) hd k
theorem jw_aald {o n : Nat} {i : Int} {b : Int} (o2 : Nat) (hd : decode (jw_yc Y) pc = .ok (.aaload, 1)) (ht : jw_tag o = 23) (hn : jw_len o = n) (hr : jw_r i) (hb : (n : Int) = b) (h2 : 0 ≤ i ∧ i < b → jw_rf o i.toNat = o2)
    (k : jw_Rn G Y h kc ks true lf (pc + 1) lv (jR G o2 :: st) M res) : jw_Rn G Y h kc ks true lf pc lv (jI i :: jR G o :: st) M (if 0 ≤ i ∧ i < b then res else none) := by
  subst hb
  refine jw_ck (fun hi => jw_step (fun p e s m args below meth c R Q cells slots H locs ls C P _ k => ?_) k)
  have hat := jw_wl_at G true M (jw_ho (M := M) ht (by omega))
  have e : jw_ce (jw_gz G) (jw_ga G) true (M o) o = .inl (jw_ga G 23, n, .inr (.inr (.inr (.inr (fun j => some (jw_gz G + jw_rf o j)))))) := by
    unfold jw_ce
    rw [ht, hn]
    rfl
  rw [e] at hat
  refine va_aldq C.1 C.2.1 C.2.2.2.2.2.2.1 P.1 o 3 hat rfl ((jw_in hr).mpr hi) hd ?_
  rw [jw_tn hr]
  show W _ _ _ _ _ _ _ _ _ _ _ _ _ _ _ (F0 _ _ _ (va_rf (some (jw_gz G + jw_rf o i.toNat)) :: _))
  rw [h2 hi]
  exact k
/-- a static array -/
theorem jw_gsta {own C n : String} {xs : List Int} {index : Nat} (j : Nat) (hown : jw_yo Y = own) (hd : decode (jw_yc Y) pc = .ok (.getstatic index, 3)) (hj : jw_sa[j]? = some (C, n, xs)) (hlink : Cond.fieldLink own index C n "[I" ∈ jw_tbl)
    (k : jw_Rn G Y h kc ks w lf (pc + 3) lv (jA G j :: st) M res) : jw_Rn G Y h kc ks w lf pc lv st M res := by
  subst hown
  exact jw_step (fun p e s m args below meth c R Q cells slots H locs ls C P _ k => va_gets C.1 C.2.1 (C.2.2.2.2.2.2.2.1.1 j _ hj).1 P.2.2.1 C.2.2.2.1 (C.2.2.2.2.2.1 _ hlink) (fun _ z => z) hd k) k
theorem jw_sald {C n : String} {xs : List Int} {i b : Int} {j : Nat} (hd : decode (jw_yc Y) pc = .ok (.iaload, 1)) (hj : jw_sa[j]? = some (C, n, xs)) (hr : jw_r i) (hb : (xs.length : Int) = b)
    (k : jw_Rn G Y h kc ks w lf (pc + 1) lv (jI (xs.getD i.toNat 0) :: st) M res) : jw_Rn G Y h kc ks w lf pc lv (jI i :: jA G j :: st) M (if 0 ≤ i ∧ i < b then res else none) := by
  subst hb
  refine jw_ck (fun hi => jw_step (fun p e s m args below meth c R Q cells slots H locs ls C P _ k => va_ti C.1 C.2.1 (C.2.2.2.2.2.2.2.1.1 j _ hj).2 P.2.2.1 ((jw_in hr).mpr hi) ?_ hd k) k)
  rw [jw_tn hr]
/-- a stretch of one int array comes to another, or to itself -/
def jw_cp (M : jw_M) (a : Nat) (i : Int) (b : Nat) (j n : Int) : jw_M := fun k x => if k = b ∧ j ≤ x ∧ x < j + n then M a (i + (x - j)) else M k x
theorem jw_acopy {own : String} {index a b na nb : Nat} {i j n la lb : Int} (hown : jw_yo Y = own) (hd : decode (jw_yc Y) pc = .ok (.invokestatic index, 3)) (hlink : Cond.methodLink own index arraycopyName ∈ jw_tbl) (hnat : Cond.native arraycopyName ∈ jw_tbl) (hsta : Cond.static arraycopyName ∈ jw_tbl) (hini : Cond.initialized "java/lang/System" ∈ jw_tbl)
    (hta : jw_tag a = 20) (htb : jw_tag b = 20) (hla : jw_len a = na) (hlb : jw_len b = nb) (hoa : a < jw_n w M) (hob : b < jw_n w M) (hri : jw_r i) (hrj : jw_r j) (hrn : jw_r n) (hna : (na : Int) = la) (hnb : (nb : Int) = lb) (hh : 2 ≤ h) (hst : (st.map fun v => v.category).sum ≤ 8)
    (k : jw_Rn G Y h kc ks w lf (pc + 3) lv st (jw_cp M a i b j n) res) : jw_Rn G Y h kc ks w lf pc lv (jI n :: jI j :: jR G b :: jI i :: jR G a :: st) M (if 0 ≤ i ∧ 0 ≤ j ∧ 0 ≤ n ∧ i + n ≤ la ∧ j + n ≤ lb then res else none) := by
  subst hown hna hnb
  have h8 : b < 148 := jw_lay_lt htb (by omega)
  refine jw_ck (fun hi => ?_)
  have hn' : jw_n w (jw_cp M a i b j n) = jw_n w M := by
    unfold jw_n jw_cp
    cases w
    · simp only [Bool.false_eq_true, if_false]
      rw [if_neg (by omega)]
    · rfl
  have hRg : jw_Rg M → jw_Rg (jw_cp M a i b j n) := by
    intro hg q x
    unfold jw_cp
    by_cases hq : q = b ∧ j ≤ x ∧ x < j + n
    · rw [if_pos hq, hq.1, (jw_st_arr htb).1 rfl]
      have := hg a (i + (x - j))
      rw [(jw_st_arr hta).1 rfl] at this
      exact this
    · rw [if_neg hq]; exact hg q x
  intro hg y hr
  obtain ⟨h1, h2⟩ := k (hRg hg) y hr
  refine ⟨⟨h1.1, h1.2.1, fun hw => by subst hw; rw [h1.2.2 rfl, hn']⟩, fun p e s m args below meth c R Q cells slots H locs ls C P hl F => ?_⟩
  have hata := jw_wl_at G w M hoa
  rw [jw_ce_arr hta hla (by omega) (by omega)] at hata
  have hatb := jw_wl_at G w M hob
  rw [jw_ce_arr htb hlb (by omega) (by omega)] at hatb
  refine va_copyi C.1 C.2.1 (C.2.2.1.trans hl.1.symm) C.2.2.2.1 (C.2.2.2.2.2.1 _ hlink) (C.2.2.2.2.2.1 _ hnat) (C.2.2.2.2.2.1 _ hsta) (C.2.2.2.2.2.1 _ hini) C.2.2.2.2.2.2.1 P.1 P.2.1 (jw_S1 P.2.2.1) a b 0 0 hata hatb rfl rfl rfl (fun z => absurd ((jw_lt hri jw_0).mp z) (by omega)) (fun z => absurd ((jw_lt hrj jw_0).mp z) (by omega)) (fun z => absurd ((jw_lt hrn jw_0).mp z) (by omega)) (by rw [jw_tn hri, jw_tn hrn]; omega) (by rw [jw_tn hrj, jw_tn hrn]; omega) (fun _ _ => rfl) (Nat.le_trans (by omega) C.2.2.2.2.2.2.2.2.2.1.1) (Nat.le_trans ?_ C.2.2.2.2.2.2.2.2.2.1.2) hd (fun H1 locs1 q1 q2 q3 => ?_)
  · have : nativeFrameWords "java/lang/System" "arraycopy" 5 ≤ 100 := by decide
    omega
  · rw [jw_tn hri, jw_tn hrj, jw_tn hrn] at q1 q2
    have hE : (jw_wl G w M).set b (jw_gz G + b, .inl (jw_ga G 20, nb, .inl (va_cpy (fun x => Int32.ofInt (M a (x : Nat))) (fun x => Int32.ofInt (M b (x : Nat))) i.toNat j.toNat n.toNat))) = jw_wl G w (jw_cp M a i b j n) := by
      have hL : (jw_wl G w M).length = jw_n w M := by unfold jw_wl; simp
      apply List.ext_getElem?
      intro q
      rw [List.getElem?_set]
      by_cases hq : b = q
      · subst hq
        rw [if_pos rfl, if_pos (by rw [hL]; exact hob), jw_wl_at G w (jw_cp M a i b j n) (by rw [hn']; exact hob), jw_ce_arr htb hlb (by omega) (by omega)]
        congr 6
        funext x
        unfold va_cpy jw_cp
        by_cases hx : j.toNat ≤ x ∧ x < j.toNat + n.toNat
        · rw [if_pos hx, if_pos ⟨rfl, by omega, by omega⟩]
          show Int32.ofInt (M a ((i.toNat + (x - j.toNat) : Nat) : Int)) = _
          rw [show ((i.toNat + (x - j.toNat) : Nat) : Int) = i + ((x : Int) - j) by omega]
        · rw [if_neg hx, if_neg (fun z => hx ⟨by omega, by omega⟩)]
      · rw [if_neg hq]
        rcases Nat.lt_or_ge q (jw_n w M) with hlt | hlt
        · rw [jw_wl_at G w M hlt, jw_wl_at G w (jw_cp M a i b j n) (by rw [hn']; exact hlt)]
          have e : jw_cp M a i b j n q = M q := by
            funext x
            unfold jw_cp
            rw [if_neg (fun z => hq z.1.symm)]
          rw [e]
        · rw [List.getElem?_eq_none (by rw [hL]; exact hlt), List.getElem?_eq_none (by unfold jw_wl; simp [hn']; exact hlt)]
    rw [hE] at q1 q2
    exact h2 p e s m args below meth c R Q cells slots H1 locs1 ls C ⟨q1, q2, jw_S2 P.2.2.1 q3, fun hw => by subst hw; rw [hn']; exact ⟨Nat.le_trans (P.2.2.2 rfl).1 q3.1, (P.2.2.2 rfl).2⟩⟩ hl F
end
