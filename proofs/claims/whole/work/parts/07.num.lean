/-! NUMBERS: an int of the machine is jv_i of a whole number, a long jv_l of one -/
def jv_i (n : Int) : Int32 := Int32.ofInt n
def jv_l (n : Int) : Int64 := Int64.ofInt n
theorem jv_i_T {n : Int} (h : -2147483648 ≤ n ∧ n ≤ 2147483647) : (jv_i n).toInt = n := Int32.toInt_ofInt_of_le (by omega) (by omega)
theorem jv_l_T {n : Int} (h : -9223372036854775808 ≤ n ∧ n ≤ 9223372036854775807) : (jv_l n).toInt = n := Int64.toInt_ofInt_of_le (by omega) (by omega)
theorem jv_i_add (a b : Int) : jv_i a + jv_i b = jv_i (a + b) := (Int32.ofInt_add a b).symm
theorem jv_i_sub (a b : Int) : jv_i a - jv_i b = jv_i (a - b) := (Int32.ofInt_sub a b).symm
theorem jv_i_mul (a b : Int) : jv_i a * jv_i b = jv_i (a * b) := (Int32.ofInt_mul a b).symm
theorem jv_i_neg (a : Int) : -jv_i a = jv_i (-a) := (Int32.ofInt_neg a).symm
theorem jv_l_add (a b : Int) : jv_l a + jv_l b = jv_l (a + b) := (Int64.ofInt_add a b).symm
theorem jv_l_sub (a b : Int) : jv_l a - jv_l b = jv_l (a - b) := (Int64.ofInt_sub a b).symm
theorem jv_l_mul (a b : Int) : jv_l a * jv_l b = jv_l (a * b) := (Int64.ofInt_mul a b).symm
theorem jv_l_neg (a : Int) : -jv_l a = jv_l (-a) := (Int64.ofInt_neg a).symm
theorem jv_i_le {a b : Int} (ha : -2147483648 ≤ a ∧ a ≤ 2147483647) (hb : -2147483648 ≤ b ∧ b ≤ 2147483647) : jv_i a ≤ jv_i b ↔ a ≤ b := by
  rw [Int32.le_iff_toInt_le, jv_i_T ha, jv_i_T hb]
theorem jv_i_lt {a b : Int} (ha : -2147483648 ≤ a ∧ a ≤ 2147483647) (hb : -2147483648 ≤ b ∧ b ≤ 2147483647) : jv_i a < jv_i b ↔ a < b := by
  rw [Int32.lt_iff_toInt_lt, jv_i_T ha, jv_i_T hb]
theorem jv_i_eq {a b : Int} (ha : -2147483648 ≤ a ∧ a ≤ 2147483647) (hb : -2147483648 ≤ b ∧ b ≤ 2147483647) : jv_i a = jv_i b ↔ a = b := by
  rw [← Int32.toInt_inj, jv_i_T ha, jv_i_T hb]
theorem jv_l_le {a b : Int} (ha : -9223372036854775808 ≤ a ∧ a ≤ 9223372036854775807) (hb : -9223372036854775808 ≤ b ∧ b ≤ 9223372036854775807) : jv_l a ≤ jv_l b ↔ a ≤ b := by
  rw [Int64.le_iff_toInt_le, jv_l_T ha, jv_l_T hb]
theorem jv_l_lt {a b : Int} (ha : -9223372036854775808 ≤ a ∧ a ≤ 9223372036854775807) (hb : -9223372036854775808 ≤ b ∧ b ≤ 9223372036854775807) : jv_l a < jv_l b ↔ a < b := by
  rw [Int64.lt_iff_toInt_lt, jv_l_T ha, jv_l_T hb]
theorem jv_l_eq {a b : Int} (ha : -9223372036854775808 ≤ a ∧ a ≤ 9223372036854775807) (hb : -9223372036854775808 ≤ b ∧ b ≤ 9223372036854775807) : jv_l a = jv_l b ↔ a = b := by
  rw [← Int64.toInt_inj, jv_l_T ha, jv_l_T hb]
theorem jv_i_l {a : Int} (ha : -2147483648 ≤ a ∧ a ≤ 2147483647) : (jv_i a).toInt64 = jv_l a := Int64.toInt_inj.mp (by rw [Int32.toInt_toInt64, jv_i_T ha, jv_l_T (by omega)])
theorem jv_l_i (a : Int) : (jv_l a).toInt32 = jv_i a := Int64.toInt32_ofInt
/-- every int, every long is one of a number in range -/
theorem jv_i_of (x : Int32) : ∃ a : Int, x = jv_i a ∧ -2147483648 ≤ a ∧ a ≤ 2147483647 := by
  have h1 := x.le_toInt
  have h2 := x.toInt_lt
  have h3 : -2147483648 ≤ x.toInt ∧ x.toInt ≤ 2147483647 := by omega
  exact ⟨x.toInt, Int32.toInt_inj.mp (jv_i_T h3).symm, h3⟩
theorem jv_l_of (x : Int64) : ∃ a : Int, x = jv_l a ∧ -9223372036854775808 ≤ a ∧ a ≤ 9223372036854775807 := by
  have h1 := x.le_toInt
  have h2 := x.toInt_lt
  have h3 : -9223372036854775808 ≤ x.toInt ∧ x.toInt ≤ 9223372036854775807 := by omega
  exact ⟨x.toInt, Int64.toInt_inj.mp (jv_l_T h3).symm, h3⟩
theorem jv_i_div {a b : Int} (ha : 0 ≤ a ∧ a ≤ 2147483647) (hb : 0 < b ∧ b ≤ 2147483647) : jv_i a / jv_i b = jv_i (a / b) := by
  apply Int32.toInt_inj.mp
  have h0 : 0 ≤ a / b := Int.ediv_nonneg ha.1 (by omega)
  have h1 : a / b ≤ a := Int.ediv_le_self _ ha.1
  rw [Int32.toInt_div, jv_i_T (by omega), jv_i_T (by omega), jv_i_T (by omega), Int.tdiv_eq_ediv_of_nonneg ha.1]
  apply Int.bmod_eq_of_le <;> omega
theorem jv_l_div {a b : Int} (ha : 0 ≤ a ∧ a ≤ 9223372036854775807) (hb : 0 < b ∧ b ≤ 9223372036854775807) : jv_l a / jv_l b = jv_l (a / b) := by
  apply Int64.toInt_inj.mp
  have h0 : 0 ≤ a / b := Int.ediv_nonneg ha.1 (by omega)
  have h1 : a / b ≤ a := Int.ediv_le_self _ ha.1
  rw [Int64.toInt_div, jv_l_T (by omega), jv_l_T (by omega), jv_l_T (by omega), Int.tdiv_eq_ediv_of_nonneg ha.1]
  apply Int.bmod_eq_of_le <;> omega
theorem jv_i_ix {a : Int} {n : Nat} (h : 0 ≤ a ∧ a < n) (hn : n < 2147483648) : vp_in (jv_i a) n ∧ (((jv_i a).toNatClampNeg : Nat) : Int) = a := by
  have e : (jv_i a).toInt = a := jv_i_T (by omega)
  refine ⟨vp_in_iff.mpr ⟨by omega, by omega⟩, ?_⟩
  have e2 : (jv_i a).toNatClampNeg = (jv_i a).toInt.toNat := rfl
  rw [e2, e]
  omega
theorem jv_char {a : Int} (h : 0 ≤ a ∧ a < 65536) : ((jv_i a).toUInt32 % 65536).toInt32 = jv_i a := lg_i2c_word (by rw [jv_i_T (by omega)]; exact h.1) (by rw [jv_i_T (by omega)]; exact h.2)
theorem jv_narc {a : Int} (h : 0 ≤ a ∧ a < 65536) : narrow .char (.int (jv_i a)) = .int (jv_i a) := by
  have e := pk_nc (jv_i a)
  rw [jv_char h] at e
  exact e
theorem jv_vnarc {a : Int} (h : 0 ≤ a ∧ a < 65536) : vp_nar .char (jv_i a) = jv_i a := by
  have e := pk_vc (jv_i a)
  rw [jv_char h] at e
  exact e
/-- a list of whole numbers at places -/
def jv_up (f : Int → Int) (k x : Int) : Int → Int := fun j => if j = k then x else f j
theorem jv_up_s (f : Int → Int) (k x : Int) : jv_up f k x k = x := if_pos rfl
theorem jv_up_n (f : Int → Int) {k x j : Int} (h : j ≠ k) : jv_up f k x j = f j := if_neg h
