/-! numbers: a long or an int that holds a whole number -/
def iL (x : Int) : Int64 := Int64.ofInt x
def iI (x : Int) : Int32 := Int32.ofInt x
theorem iL_add (a b : Int) : iL a + iL b = iL (a + b) := (Int64.ofInt_add a b).symm
theorem iL_sub (a b : Int) : iL a - iL b = iL (a - b) := (Int64.ofInt_sub a b).symm
theorem iL_mul (a b : Int) : iL a * iL b = iL (a * b) := (Int64.ofInt_mul a b).symm
theorem iL_neg (a : Int) : -iL a = iL (-a) := (Int64.ofInt_neg a).symm
theorem iI_add (a b : Int) : iI a + iI b = iI (a + b) := (Int32.ofInt_add a b).symm
theorem iI_sub (a b : Int) : iI a - iI b = iI (a - b) := (Int32.ofInt_sub a b).symm
theorem iI_mul (a b : Int) : iI a * iI b = iI (a * b) := (Int32.ofInt_mul a b).symm
theorem iI_neg (a : Int) : -iI a = iI (-a) := (Int32.ofInt_neg a).symm
theorem iL_T {x : Int} (h : x.natAbs < 4611686018427387904) : (iL x).toInt = x := Int64.toInt_ofInt_of_le (by omega) (by omega)
theorem iI_T {x : Int} (h : x.natAbs < 1073741824) : (iI x).toInt = x := Int32.toInt_ofInt_of_le (by omega) (by omega)
theorem iL_eq {x y : Int} (hx : x.natAbs < 4611686018427387904) (hy : y.natAbs < 4611686018427387904) : iL x = iL y ↔ x = y := by
  rw [← Int64.toInt_inj, iL_T hx, iL_T hy]
theorem iI_eq {x y : Int} (hx : x.natAbs < 1073741824) (hy : y.natAbs < 1073741824) : iI x = iI y ↔ x = y := by
  rw [← Int32.toInt_inj, iI_T hx, iI_T hy]
theorem iL_lt {x y : Int} (hx : x.natAbs < 4611686018427387904) (hy : y.natAbs < 4611686018427387904) : iL x < iL y ↔ x < y := by
  rw [Int64.lt_iff_toInt_lt, iL_T hx, iL_T hy]
theorem iI_lt {x y : Int} (hx : x.natAbs < 1073741824) (hy : y.natAbs < 1073741824) : iI x < iI y ↔ x < y := by
  rw [Int32.lt_iff_toInt_lt, iI_T hx, iI_T hy]
theorem iL_le {x y : Int} (hx : x.natAbs < 4611686018427387904) (hy : y.natAbs < 4611686018427387904) : iL x ≤ iL y ↔ x ≤ y := by
  rw [Int64.le_iff_toInt_le, iL_T hx, iL_T hy]
theorem iI_le {x y : Int} (hx : x.natAbs < 1073741824) (hy : y.natAbs < 1073741824) : iI x ≤ iI y ↔ x ≤ y := by
  rw [Int32.le_iff_toInt_le, iI_T hx, iI_T hy]
theorem iL_0 : (0 : Int64) = iL 0 := rfl
theorem iL_1 : (1 : Int64) = iL 1 := rfl
theorem iI_nat (n : Nat) : nI n = iI n := Int32.ofInt_eq_ofNat.symm
theorem iL_nat (n : Nat) : lN n = iL n := Int64.ofInt_eq_ofNat.symm
theorem iL_i (x : Int) : (iL x).toInt32 = iI x := Int64.toInt32_ofInt
theorem iI_l {x : Int} (h : x.natAbs < 1073741824) : (iI x).toInt64 = iL x := by
  rw [← Int64.toInt_inj, Int32.toInt_toInt64, iI_T h, iL_T (by omega)]
theorem natAbs_mul_lt {a b : Int} {A B : Nat} (ha : a.natAbs < A) (hb : b.natAbs < B) : (a * b).natAbs < A * B := by
  rw [Int.natAbs_mul]
  exact Nat.mul_lt_mul'' ha hb
theorem iL_tdiv {x y : Int} (hx : x.natAbs < 4611686018427387904) (hy : y.natAbs < 4611686018427387904) : iL x / iL y = iL (x.tdiv y) := by
  have h : Int64.minValue.toInt = -9223372036854775808 := by decide
  have h2 : Int64.maxValue.toInt = 9223372036854775807 := by decide
  exact (Int64.ofInt_tdiv (by rw [h]; omega) (by rw [h2]; omega) (by rw [h]; omega) (by rw [h2]; omega)).symm
theorem iI_tdiv {x y : Int} (hx : x.natAbs < 1073741824) (hy : y.natAbs < 1073741824) : iI x / iI y = iI (x.tdiv y) := by
  have h : Int32.minValue.toInt = -2147483648 := by decide
  have h2 : Int32.maxValue.toInt = 2147483647 := by decide
  exact (Int32.ofInt_tdiv (by rw [h]; omega) (by rw [h2]; omega) (by rw [h]; omega) (by rw [h2]; omega)).symm
theorem iL_tmod {x y : Int} (hx : x.natAbs < 4611686018427387904) (hy : y.natAbs < 4611686018427387904) : iL x - iL x / iL y * iL y = iL (x.tmod y) := by
  rw [iL_tdiv hx hy, iL_mul, iL_sub]
  congr 1
  have := Int.tmod_add_tdiv_mul x y
  omega
theorem iI_tmod {x y : Int} (hx : x.natAbs < 1073741824) (hy : y.natAbs < 1073741824) : iI x - iI x / iI y * iI y = iI (x.tmod y) := by
  rw [iI_tdiv hx hy, iI_mul, iI_sub]
  congr 1
  have := Int.tmod_add_tdiv_mul x y
  omega
theorem xii (a : Nat) : nI a + Int32.ofInt 1 = nI (a + 1) := nI_1 a
/-- |x| as the code makes it -/
theorem iL_abs {x : Int} (h : x.natAbs < 4611686018427387904) : (¬ 0 ≤ iL x → -iL x = lN x.natAbs) ∧ (0 ≤ iL x → iL x = lN x.natAbs) := by
  rw [iL_0, iL_le (by decide) h, iL_neg, iL_nat]
  constructor
  · intro h2
    congr 1
    omega
  · intro h2
    congr 1
    omega
/-- Euclid's steps: what stays, and how few they are -/
def gI (g s a b : Nat) : Prop := Nat.gcd a b = g ∧ (a < 2 ^ 60 ∧ b < 2 ^ 60) ∧ ((b ≤ a ∧ (a * b) * 2 ^ s < 2 ^ 97) ∨ (s = 0 ∧ a * b < 2 ^ 96))
theorem gI_0 {a b : Nat} (ha : a < 281474976710656) (hb : b < 281474976710656) : gI (Nat.gcd a b) 0 a b := by
  have h : a * b < 281474976710656 * 281474976710656 := Nat.mul_lt_mul'' ha hb
  have h2 : (281474976710656 : Nat) * 281474976710656 = 2 ^ 96 := by decide
  exact ⟨rfl, ⟨by omega, by omega⟩, Or.inr ⟨rfl, by omega⟩⟩
theorem gI_s {g s a b : Nat} (h : gI g s a b) (hb : b ≠ 0) : gI g (s + 1) b (a % b) := by
  obtain ⟨h1, ⟨h4, h5⟩, h3⟩ := h
  have hm : a % b < b := Nat.mod_lt _ (by omega)
  refine ⟨?_, ⟨h5, by omega⟩, Or.inl ⟨by omega, ?_⟩⟩
  · rw [← h1, Nat.gcd_comm a b, Nat.gcd_rec b a, Nat.gcd_comm]
  · rw [Nat.pow_succ]
    rcases h3 with ⟨h3, h2⟩ | ⟨h3, h2⟩
    · have h6 : 2 * (a % b) ≤ a := by
        have h7 := Nat.div_add_mod a b
        have h8 : 1 ≤ a / b := (Nat.le_div_iff_mul_le (by omega)).mpr (by omega)
        have h9 : b * 1 ≤ b * (a / b) := Nat.mul_le_mul_left _ h8
        omega
      have h7 : b * (a % b) * (2 ^ s * 2) ≤ (a * b) * 2 ^ s := by
        have h8 : b * (a % b) * (2 ^ s * 2) = (b * (2 * (a % b))) * 2 ^ s := by
          simp only [Nat.mul_comm, Nat.mul_left_comm, Nat.mul_assoc]
        rw [h8, Nat.mul_comm a b]
        exact Nat.mul_le_mul_right _ (Nat.mul_le_mul_left _ h6)
      exact Nat.lt_of_le_of_lt h7 h2
    · subst h3
      have h7 : b * (a % b) ≤ b * a := Nat.mul_le_mul_left _ (Nat.mod_le a b)
      rw [Nat.mul_comm a b] at h2
      have h8 : (2 : Nat) ^ 97 = 2 ^ 96 * 2 := by decide
      rw [h8]
      omega
theorem gI_100 {g a b : Nat} (h : gI g 100 a b) : b = 0 := by
  obtain ⟨h1, h4, h3⟩ := h
  rcases h3 with ⟨h3, h2⟩ | ⟨h3, h2⟩
  · by_cases hb : b = 0
    · exact hb
    · exfalso
      have h6 : 1 * 1 ≤ a * b := Nat.mul_le_mul (by omega) (by omega)
      have h7 : 1 * 1 * 2 ^ 100 ≤ a * b * 2 ^ 100 := Nat.mul_le_mul_right _ h6
      have h8 : (2 : Nat) ^ 97 < 1 * 1 * 2 ^ 100 := by decide
      exact absurd (Nat.lt_of_lt_of_le h8 h7) (by omega)
  · omega
