def jw_w (x : Int) : Int := (x + 2147483648) % 4294967296 - 2147483648
def jw_v (x : Int) : Int := (x + 9223372036854775808) % 18446744073709551616 - 9223372036854775808
def jw_r (x : Int) : Prop := -2147483648 ≤ x ∧ x < 2147483648
def jw_q (x : Int) : Prop := -9223372036854775808 ≤ x ∧ x < 9223372036854775808
def jI (x : Int) : Value := .int (Int32.ofInt x)
def jL (x : Int) : Value := .long (Int64.ofInt x)
theorem jw_ti (x : Int) : (Int32.ofInt x).toInt = jw_w x := by
  rw [Int32.toInt_ofInt]
  have e : (Int32.size : Int) = 4294967296 := rfl
  unfold jw_w Int.bmod
  simp only [e]
  split <;> omega
theorem jw_tl (x : Int) : (Int64.ofInt x).toInt = jw_v x := by
  rw [Int64.toInt_ofInt]
  have e : (Int64.size : Int) = 18446744073709551616 := rfl
  unfold jw_v Int.bmod
  simp only [e]
  split <;> omega
theorem jw_wr (x : Int) : jw_r (jw_w x) := by unfold jw_r jw_w; omega
theorem jw_vr (x : Int) : jw_q (jw_v x) := by unfold jw_q jw_v; omega
theorem jw_we {x : Int} (h : jw_r x) : jw_w x = x := by unfold jw_r at h; unfold jw_w; omega
theorem jw_ve {x : Int} (h : jw_q x) : jw_v x = x := by unfold jw_q at h; unfold jw_v; omega
theorem jw_ow (x : Int) : Int32.ofInt (jw_w x) = Int32.ofInt x := by rw [← jw_ti, Int32.ofInt_toInt]
theorem jw_ov (x : Int) : Int64.ofInt (jw_v x) = Int64.ofInt x := by rw [← jw_tl, Int64.ofInt_toInt]
theorem jw_t {x : Int} (h : jw_r x) : (Int32.ofInt x).toInt = x := by rw [jw_ti, jw_we h]
theorem jw_tL {x : Int} (h : jw_q x) : (Int64.ofInt x).toInt = x := by rw [jw_tl, jw_ve h]
theorem jw_rI (x : Int32) : jw_r x.toInt := ⟨by have := Int32.le_toInt x; omega, by have := Int32.toInt_lt x; omega⟩
theorem jw_rL (x : Int64) : jw_q x.toInt := ⟨by have := Int64.le_toInt x; omega, by have := Int64.toInt_lt x; omega⟩
theorem jw_eI {x : Int32} {z : Int} (h : x.toInt = z) : x = Int32.ofInt z := by rw [← h, Int32.ofInt_toInt]
theorem jw_eL {x : Int64} {z : Int} (h : x.toInt = z) : x = Int64.ofInt z := by rw [← h, Int64.ofInt_toInt]
theorem jw_add (a b : Int) : Int32.ofInt a + Int32.ofInt b = Int32.ofInt (jw_w (a + b)) := by rw [jw_ow, Int32.ofInt_add]
theorem jw_sub (a b : Int) : Int32.ofInt a - Int32.ofInt b = Int32.ofInt (jw_w (a - b)) := by rw [jw_ow, Int32.ofInt_sub]
theorem jw_mul (a b : Int) : Int32.ofInt a * Int32.ofInt b = Int32.ofInt (jw_w (a * b)) := by rw [jw_ow, Int32.ofInt_mul]
theorem jw_neg (a : Int) : - Int32.ofInt a = Int32.ofInt (jw_w (-a)) := by rw [jw_ow, Int32.ofInt_neg]
theorem jw_addL (a b : Int) : Int64.ofInt a + Int64.ofInt b = Int64.ofInt (jw_v (a + b)) := by rw [jw_ov, Int64.ofInt_add]
theorem jw_subL (a b : Int) : Int64.ofInt a - Int64.ofInt b = Int64.ofInt (jw_v (a - b)) := by rw [jw_ov, Int64.ofInt_sub]
theorem jw_mulL (a b : Int) : Int64.ofInt a * Int64.ofInt b = Int64.ofInt (jw_v (a * b)) := by rw [jw_ov, Int64.ofInt_mul]
theorem jw_negL (a : Int) : - Int64.ofInt a = Int64.ofInt (jw_v (-a)) := by rw [jw_ov, Int64.ofInt_neg]
theorem jw_lt {a b : Int} (ha : jw_r a) (hb : jw_r b) : Int32.ofInt a < Int32.ofInt b ↔ a < b := by rw [Int32.lt_iff_toInt_lt, jw_t ha, jw_t hb]
theorem jw_le {a b : Int} (ha : jw_r a) (hb : jw_r b) : Int32.ofInt a ≤ Int32.ofInt b ↔ a ≤ b := by rw [Int32.le_iff_toInt_le, jw_t ha, jw_t hb]
theorem jw_eq {a b : Int} (ha : jw_r a) (hb : jw_r b) : Int32.ofInt a = Int32.ofInt b ↔ a = b := by rw [← Int32.toInt_inj, jw_t ha, jw_t hb]
theorem jw_ltL {a b : Int} (ha : jw_q a) (hb : jw_q b) : Int64.ofInt a < Int64.ofInt b ↔ a < b := by rw [Int64.lt_iff_toInt_lt, jw_tL ha, jw_tL hb]
theorem jw_eqL {a b : Int} (ha : jw_q a) (hb : jw_q b) : Int64.ofInt a = Int64.ofInt b ↔ a = b := by rw [← Int64.toInt_inj, jw_tL ha, jw_tL hb]
theorem jw_0 : jw_r 0 := by unfold jw_r; omega
theorem jw_bm (z : Int) : z.bmod (2 ^ 32) = jw_w z := by
  rw [← jw_ti, Int32.toInt_ofInt]
theorem jw_bl (z : Int) : z.bmod (2 ^ 64) = jw_v z := by
  rw [← jw_tl, Int64.toInt_ofInt]
theorem jw_div {a b : Int} (ha : jw_r a) (hb : jw_r b) : Int32.ofInt a / Int32.ofInt b = Int32.ofInt (jw_w (a.tdiv b)) := by
  apply jw_eI
  rw [Int32.toInt_div, jw_t ha, jw_t hb, jw_bm]
theorem jw_divL {a b : Int} (ha : jw_q a) (hb : jw_q b) : Int64.ofInt a / Int64.ofInt b = Int64.ofInt (jw_v (a.tdiv b)) := by
  apply jw_eL
  rw [Int64.toInt_div, jw_tL ha, jw_tL hb, jw_bl]
theorem jw_rem {a b : Int} (ha : jw_r a) (hb : jw_r b) : Int32.ofInt a - Int32.ofInt a / Int32.ofInt b * Int32.ofInt b = Int32.ofInt (jw_w (a.tmod b)) := by
  rw [jw_div ha hb, jw_mul, jw_sub, jw_ow, jw_ow]
  apply Int32.toInt_inj.mp
  rw [jw_ti, jw_ti]
  have h1 := Int.mul_tdiv_add_tmod a b
  generalize a.tmod b = m at h1 ⊢
  generalize a.tdiv b = d at h1 ⊢
  have h2 : jw_w (jw_w d * b) = jw_w (d * b) := by
    rw [← jw_ti, Int32.ofInt_mul, jw_ow, ← Int32.ofInt_mul, jw_ti]
  rw [h2]
  have h3 : d * b = a - m := by rw [Int.mul_comm d b]; omega
  rw [h3]
  unfold jw_w
  omega
theorem jw_remL {a b : Int} (ha : jw_q a) (hb : jw_q b) : Int64.ofInt a - Int64.ofInt a / Int64.ofInt b * Int64.ofInt b = Int64.ofInt (jw_v (a.tmod b)) := by
  rw [jw_divL ha hb, jw_mulL, jw_subL, jw_ov, jw_ov]
  apply Int64.toInt_inj.mp
  rw [jw_tl, jw_tl]
  have h1 := Int.mul_tdiv_add_tmod a b
  generalize a.tmod b = m at h1 ⊢
  generalize a.tdiv b = d at h1 ⊢
  have h2 : jw_v (jw_v d * b) = jw_v (d * b) := by
    rw [← jw_tl, Int64.ofInt_mul, jw_ov, ← Int64.ofInt_mul, jw_tl]
  rw [h2]
  have h3 : d * b = a - m := by rw [Int.mul_comm d b]; omega
  rw [h3]
  unfold jw_v
  omega
def jw_iand (a b : Int) : Int := (Int32.ofInt a &&& Int32.ofInt b).toInt
def jw_ior (a b : Int) : Int := (Int32.ofInt a ||| Int32.ofInt b).toInt
def jw_ixor (a b : Int) : Int := (Int32.ofInt a ^^^ Int32.ofInt b).toInt
def jw_ishl (a b : Int) : Int := (Int32.ofInt a <<< (Int32.ofInt b &&& 31)).toInt
def jw_ishr (a b : Int) : Int := (Int32.ofInt a >>> (Int32.ofInt b &&& 31)).toInt
def jw_iushr (a b : Int) : Int := ((Int32.ofInt a).toUInt32 >>> ((Int32.ofInt b).toUInt32 &&& Int32.toUInt32 31)).toInt32.toInt
def jw_land (a b : Int) : Int := (Int64.ofInt a &&& Int64.ofInt b).toInt
def jw_lor (a b : Int) : Int := (Int64.ofInt a ||| Int64.ofInt b).toInt
def jw_lshl (a b : Int) : Int := (Int64.ofInt a <<< ((Int32.ofInt b).toInt64 &&& 63)).toInt
def jw_lshr (a b : Int) : Int := (Int64.ofInt a >>> ((Int32.ofInt b).toInt64 &&& 63)).toInt
def jw_b (a : Int) : Int := (a + 128) % 256 - 128
def jw_s (a : Int) : Int := (a + 32768) % 65536 - 32768
theorem jw_i2l {a : Int} (ha : jw_r a) : (Int32.ofInt a).toInt64 = Int64.ofInt a := by
  apply jw_eL
  rw [Int32.toInt_toInt64, jw_t ha]
theorem jw_l2i (a : Int) : (Int64.ofInt a).toInt32 = Int32.ofInt (jw_w a) := by
  apply jw_eI
  rw [Int64.toInt_toInt32, jw_tl]
  unfold Int.bmod jw_v jw_w
  simp only []
  split <;> omega
theorem jw_i2b (a : Int) : (Int32.ofInt a).toInt8.toInt32 = Int32.ofInt (jw_b a) := by
  apply jw_eI
  rw [Int8.toInt_toInt32, Int32.toInt_toInt8, jw_ti]
  unfold Int.bmod jw_w jw_b
  simp only []
  split <;> omega
theorem jw_i2s (a : Int) : (Int32.ofInt a).toInt16.toInt32 = Int32.ofInt (jw_s a) := by
  apply jw_eI
  rw [Int16.toInt_toInt32, Int32.toInt_toInt16, jw_ti]
  unfold Int.bmod jw_w jw_s
  simp only []
  split <;> omega
theorem jw_br (a : Int) : jw_r (jw_b a) := by unfold jw_r jw_b; omega
theorem jw_sr (a : Int) : jw_r (jw_s a) := by unfold jw_r jw_s; omega
theorem jw_rq {a : Int} (h : jw_r a) : jw_q a := by unfold jw_r at h; unfold jw_q; omega
theorem jw_tn {i : Int} (h : jw_r i) : (Int32.ofInt i).toNatClampNeg = i.toNat := by
  show (Int32.ofInt i).toInt.toNat = i.toNat
  rw [jw_t h]
theorem jw_in {i : Int} {n : Nat} (h : jw_r i) : vp_in (Int32.ofInt i) n ↔ 0 ≤ i ∧ i < n := by rw [vp_in_iff, jw_t h]
