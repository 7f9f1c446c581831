/-! whole numbers for the machine's ints and longs -/
def iI (z : Int) : Int32 := Int32.ofInt z
def lI (z : Int) : Int64 := Int64.ofInt z
def R32 (z : Int) : Prop := -2147483648 ≤ z ∧ z < 2147483648
def R64 (z : Int) : Prop := -9223372036854775808 ≤ z ∧ z < 9223372036854775808
theorem iI_t {z : Int} (h : -2147483648 ≤ z ∧ z < 2147483648) : (iI z).toInt = z := Int32.toInt_ofInt_of_le (by omega) (by omega)
theorem lI_t {z : Int} (h : -9223372036854775808 ≤ z ∧ z < 9223372036854775808) : (lI z).toInt = z := Int64.toInt_ofInt_of_le (by omega) (by omega)
theorem iI_asI (x : Int32) : iI x.toInt = x := Int32.ofInt_toInt x
theorem lI_asL (x : Int64) : lI x.toInt = x := Int64.ofInt_toInt x
theorem iI_rng (x : Int32) : -2147483648 ≤ x.toInt ∧ x.toInt < 2147483648 := by
  have h1 := Int32.le_toInt x
  have h2 := Int32.toInt_lt x
  omega
theorem lI_rng (x : Int64) : -9223372036854775808 ≤ x.toInt ∧ x.toInt < 9223372036854775808 := by
  have h1 := Int64.le_toInt x
  have h2 := Int64.toInt_lt x
  omega
theorem iI_add (a b : Int) : iI a + iI b = iI (a + b) := (Int32.ofInt_add a b).symm
theorem iI_sub (a b : Int) : iI a - iI b = iI (a - b) := (Int32.ofInt_sub a b).symm
theorem iI_mul (a b : Int) : iI a * iI b = iI (a * b) := (Int32.ofInt_mul a b).symm
theorem lI_add (a b : Int) : lI a + lI b = lI (a + b) := (Int64.ofInt_add a b).symm
theorem lI_sub (a b : Int) : lI a - lI b = lI (a - b) := (Int64.ofInt_sub a b).symm
theorem lI_mul (a b : Int) : lI a * lI b = lI (a * b) := (Int64.ofInt_mul a b).symm
theorem iI_lt {a b : Int} (ha : -2147483648 ≤ a ∧ a < 2147483648) (hb : -2147483648 ≤ b ∧ b < 2147483648) : iI a < iI b ↔ a < b := by
  rw [Int32.lt_iff_toInt_lt, iI_t ha, iI_t hb]
theorem iI_le {a b : Int} (ha : -2147483648 ≤ a ∧ a < 2147483648) (hb : -2147483648 ≤ b ∧ b < 2147483648) : iI a ≤ iI b ↔ a ≤ b := by
  rw [Int32.le_iff_toInt_le, iI_t ha, iI_t hb]
theorem iI_eq {a b : Int} (ha : -2147483648 ≤ a ∧ a < 2147483648) (hb : -2147483648 ≤ b ∧ b < 2147483648) : iI a = iI b ↔ a = b := by
  rw [← Int32.toInt_inj, iI_t ha, iI_t hb]
theorem lI_lt {a b : Int} (ha : -9223372036854775808 ≤ a ∧ a < 9223372036854775808) (hb : -9223372036854775808 ≤ b ∧ b < 9223372036854775808) : lI a < lI b ↔ a < b := by
  rw [Int64.lt_iff_toInt_lt, lI_t ha, lI_t hb]
theorem lI_eq {a b : Int} (ha : -9223372036854775808 ≤ a ∧ a < 9223372036854775808) (hb : -9223372036854775808 ≤ b ∧ b < 9223372036854775808) : lI a = lI b ↔ a = b := by
  rw [← Int64.toInt_inj, lI_t ha, lI_t hb]
theorem iI_0 : (0 : Int32) = iI 0 := rfl
theorem lI_0 : (0 : Int64) = lI 0 := rfl
theorem iI_div {a b : Int} (ha : 0 ≤ a ∧ a < 2147483648) (hb : 0 < b ∧ b < 2147483648) : iI a / iI b = iI (a / b) := by
  have hq : 0 ≤ a / b ∧ a / b < 2147483648 := by
    refine ⟨Int.ediv_nonneg ha.1 (by omega), ?_⟩
    exact Int.lt_of_le_of_lt (Int.ediv_le_self b ha.1) ha.2
  rw [← Int32.toInt_inj, Int32.toInt_div_of_ne_right, iI_t (by omega), iI_t (by omega), iI_t (by omega), Int.tdiv_eq_ediv_of_nonneg ha.1]
  intro h
  have h2 : (iI b).toInt = (-1 : Int32).toInt := by rw [h]
  rw [iI_t (by omega)] at h2
  have h3 : ((-1 : Int32)).toInt = -1 := by decide
  omega
theorem lI_div {a b : Int} (ha : 0 ≤ a ∧ a < 9223372036854775808) (hb : 0 < b ∧ b < 9223372036854775808) : lI a / lI b = lI (a / b) := by
  have hq : 0 ≤ a / b ∧ a / b < 9223372036854775808 := by
    refine ⟨Int.ediv_nonneg ha.1 (by omega), ?_⟩
    exact Int.lt_of_le_of_lt (Int.ediv_le_self b ha.1) ha.2
  rw [← Int64.toInt_inj, Int64.toInt_div_of_ne_right, lI_t (by omega), lI_t (by omega), lI_t (by omega), Int.tdiv_eq_ediv_of_nonneg ha.1]
  intro h
  have h2 : (lI b).toInt = (-1 : Int64).toInt := by rw [h]
  rw [lI_t (by omega)] at h2
  have h3 : ((-1 : Int64)).toInt = -1 := by decide
  omega
theorem iI_rem {a b : Int} (ha : 0 ≤ a ∧ a < 2147483648) (hb : 0 < b ∧ b < 2147483648) : iI a - iI a / iI b * iI b = iI (a % b) := by
  rw [iI_div ha hb, iI_mul, iI_sub, Int.emod_def, Int.mul_comm (a / b) b]
theorem lI_rem {a b : Int} (ha : 0 ≤ a ∧ a < 9223372036854775808) (hb : 0 < b ∧ b < 9223372036854775808) : lI a - lI a / lI b * lI b = lI (a % b) := by
  rw [lI_div ha hb, lI_mul, lI_sub, Int.emod_def, Int.mul_comm (a / b) b]
theorem iI_cl {a : Int} (ha : 0 ≤ a ∧ a < 2147483648) : (iI a).toNatClampNeg = a.toNat := Int32.toNatClampNeg_ofInt_of_le (by omega) (by omega)
theorem iI_in {a : Int} {n : Nat} (h : 0 ≤ a ∧ a < n) (hn : n ≤ 2147483648) : vp_in (iI a) n := by
  rw [vp_in_iff, iI_t (by omega)]
  omega
theorem iI_l {a : Int} (h : -2147483648 ≤ a ∧ a < 2147483648) : (iI a).toInt64 = lI a := by
  rw [← Int64.toInt_inj, Int32.toInt_toInt64, iI_t h, lI_t (by omega)]
def bmz (z : Int) : Int := (iI z).toInt
theorem bmz_r (z : Int) : -2147483648 ≤ bmz z ∧ bmz z < 2147483648 := iI_rng _
theorem bmz_i (z : Int) : iI (bmz z) = iI z := iI_asI _
theorem bmz_e {z : Int} (h : -2147483648 ≤ z ∧ z < 2147483648) : bmz z = z := iI_t h
theorem lI_i (a : Int) : (lI a).toInt32 = iI a := by
  rw [← Int32.toInt_inj]
  show _ = (Int32.ofInt a).toInt
  rw [Int64.toInt_toInt32, Int32.toInt_ofInt]
  show (Int64.ofInt a).toInt.bmod (2 ^ 32) = a.bmod (2 ^ 32)
  rw [Int64.toInt_ofInt]
  exact Int.bmod_bmod_of_dvd (by decide)
theorem lg_cmp_I {a b : Int} (ha : -9223372036854775808 ≤ a ∧ a < 9223372036854775808) (hb : -9223372036854775808 ≤ b ∧ b < 9223372036854775808) : lg_cmp (lI a) (lI b) = iI (if a < b then -1 else if a = b then 0 else 1) := by
  unfold lg_cmp
  by_cases h1 : a < b
  · have h2 : ¬ lI b < lI a := by rw [lI_lt hb ha]; omega
    have h3 : ¬ lI a = lI b := by rw [lI_eq ha hb]; omega
    simp [h1, h2, h3]; rfl
  · by_cases h2 : a = b
    · subst h2
      simp; rfl
    · have h3 : lI b < lI a := by rw [lI_lt hb ha]; omega
      simp [h1, h2, h3]; rfl
