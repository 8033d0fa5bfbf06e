/-! sets of faces as bits -/
theorem nI_and (a b : Nat) : nI a &&& nI b = nI (a &&& b) := by
  apply Int32.toBitVec_inj.mp
  show BitVec.ofNat 32 a &&& BitVec.ofNat 32 b = BitVec.ofNat 32 (a &&& b)
  rw [BitVec.ofNat_and]
theorem nI_or (a b : Nat) : nI a ||| nI b = nI (a ||| b) := by
  apply Int32.toBitVec_inj.mp
  show BitVec.ofNat 32 a ||| BitVec.ofNat 32 b = BitVec.ofNat 32 (a ||| b)
  rw [BitVec.ofNat_or]
theorem sh1 : ∀ i, i < 16 → (1 : Int32) <<< (nI i &&& 31) = nI (2 ^ i) := by decide
/-- the bits below n where p holds -/
def mk (p : Nat → Bool) : Nat → Nat
  | 0 => 0
  | n + 1 => mk p n + (if p n then 2 ^ n else 0)
theorem mk_lt (p : Nat → Bool) : ∀ n, mk p n < 2 ^ n
  | 0 => Nat.zero_lt_one
  | n + 1 => by
    have h := mk_lt p n
    simp only [mk, Nat.pow_succ]
    split <;> omega
theorem mk_or (p : Nat → Bool) (n : Nat) : mk p n ||| 2 ^ n = mk p n + 2 ^ n := by
  have h := Nat.two_pow_add_eq_or_of_lt (mk_lt p n) 1
  rw [Nat.mul_one] at h
  rw [Nat.or_comm, ← h, Nat.add_comm]
theorem mk_bit (p : Nat → Bool) : ∀ n i, (mk p n).testBit i = (decide (i < n) && p i)
  | 0, i => by simp [mk]
  | n + 1, i => by
    have ih := mk_bit p n
    simp only [mk]
    by_cases hp : p n = true
    · rw [if_pos hp, ← mk_or, Nat.testBit_or, ih, Nat.testBit_two_pow]
      by_cases hi : i = n
      · subst hi
        simp [hp]
      · have h1 : decide (n = i) = false := by simp; omega
        have h2 : decide (i < n + 1) = decide (i < n) := by
          congr 1
          simp only [eq_iff_iff]
          omega
        rw [h1, h2, Bool.or_false]
    · rw [if_neg hp, Nat.add_zero, ih]
      by_cases hi : i = n
      · subst hi
        simp [hp]
      · have h2 : decide (i < n + 1) = decide (i < n) := by
          congr 1
          simp only [eq_iff_iff]
          omega
        rw [h2]
/-- how many bits are set, of sixteen -/
def pcr (m : Nat) : Nat → Nat
  | 0 => 0
  | k + 1 => pcr m k + (m.testBit k).toNat
def pc (m : Nat) : Nat := pcr m 16
def bcN (x : Nat) : Nat :=
  let s1 := x - ((x / 2 ^ 1) &&& 1431655765)
  let s2 := (s1 &&& 858993459) + ((s1 / 2 ^ 2) &&& 858993459)
  let s3 := (s2 + s2 / 2 ^ 4) &&& 252645135
  let s4 := s3 + s3 / 2 ^ 8
  let s5 := s4 + s4 / 2 ^ 16
  s5 &&& 63
def f1 (b : Nat) : Nat := b - ((b / 2) &&& 85)
def f2 (x : Nat) : Nat := (x &&& 51) + ((x / 4) &&& 51)
def f3 (x : Nat) : Nat := (x + x / 16) &&& 15
theorem and_sp (u v c d : Nat) (hv : v < 256) (hd : d < 256) : (256 * u + v) &&& (256 * c + d) = 256 * (u &&& c) + (v &&& d) := by
  apply Nat.eq_of_testBit_eq
  intro i
  have h1 := Nat.testBit_two_pow_mul_add u (b := v) (i := 8) hv i
  have h2 := Nat.testBit_two_pow_mul_add c (b := d) (i := 8) hd i
  have h3 := Nat.testBit_two_pow_mul_add (u &&& c) (b := v &&& d) (i := 8) (Nat.lt_of_le_of_lt Nat.and_le_left hv) i
  rw [Nat.testBit_and, show 256 * u + v = 2 ^ 8 * u + v from rfl, show 256 * c + d = 2 ^ 8 * c + d from rfl, show 256 * (u &&& c) + (v &&& d) = 2 ^ 8 * (u &&& c) + (v &&& d) from rfl, h1, h2, h3]
  split
  · rw [Nat.testBit_and]
  · rw [Nat.testBit_and]
theorem tb1 : ∀ a, a < 256 → (a / 2) &&& 5592405 = (a / 2) &&& 85 := by decide +kernel
theorem tb2 : ∀ e, e < 2 → ∀ b, b < 256 → (128 * e + b / 2) &&& 85 = (b / 2) &&& 85 := by decide +kernel
theorem tb3 : ∀ a, a < 256 → a &&& 3355443 = a &&& 51 := by decide +kernel
theorem tb4 : ∀ e, e < 4 → ∀ b, b < 256 → (64 * e + b / 4) &&& 51 = (b / 4) &&& 51 := by decide +kernel
theorem tb5 : ∀ a, a < 256 → f1 a < 256 ∧ f2 (f1 a) ≤ 68 ∧ f2 (f1 a) % 16 ≤ 4 ∧ f3 (f2 (f1 a)) = pcr a 8 ∧ pcr a 8 ≤ 8 := by decide +kernel
theorem tb6 : ∀ e, e < 5 → ∀ b, b < 128 → (16 * e + b) &&& 15 = b &&& 15 := by decide +kernel
theorem tb7 : ∀ a, a < 256 → a &&& 986895 = a &&& 15 := by decide +kernel
theorem st1 {a b : Nat} (ha : a < 256) (hb : b < 256) : (256 * a + b) - (((256 * a + b) / 2 ^ 1) &&& 1431655765) = 256 * f1 a + f1 b := by
  have e : (256 * a + b) / 2 ^ 1 = 256 * (a / 2) + (128 * (a % 2) + b / 2) := by omega
  rw [e, show (1431655765 : Nat) = 256 * 5592405 + 85 from rfl, and_sp _ _ _ _ (by omega) (by omega), tb1 a ha, tb2 _ (by omega) b hb]
  have q1 : (a / 2) &&& 85 ≤ a := Nat.le_trans Nat.and_le_left (Nat.div_le_self _ _)
  have q2 : (b / 2) &&& 85 ≤ b := Nat.le_trans Nat.and_le_left (Nat.div_le_self _ _)
  unfold f1
  omega
theorem st2 {a b : Nat} (ha : a < 256) (hb : b < 256) : ((256 * a + b) &&& 858993459) + (((256 * a + b) / 2 ^ 2) &&& 858993459) = 256 * f2 a + f2 b := by
  have e : (256 * a + b) / 2 ^ 2 = 256 * (a / 4) + (64 * (a % 4) + b / 4) := by omega
  rw [e, show (858993459 : Nat) = 256 * 3355443 + 51 from rfl, and_sp _ _ _ _ hb (by omega), and_sp _ _ _ _ (by omega) (by omega), tb3 a ha, tb3 (a / 4) (by omega), tb4 _ (by omega) b hb]
  unfold f2
  omega
theorem st3 {a b : Nat} (ha : a ≤ 68) (ha2 : a % 16 ≤ 4) (hb : b ≤ 68) : ((256 * a + b) + (256 * a + b) / 2 ^ 4) &&& 252645135 = 256 * f3 a + f3 b := by
  have e : (256 * a + b) + (256 * a + b) / 2 ^ 4 = 256 * (a + a / 16) + (16 * (a % 16) + (b + b / 16)) := by omega
  rw [e, show (252645135 : Nat) = 256 * 986895 + 15 from rfl, and_sp _ _ _ _ (by omega) (by omega), tb7 _ (by omega), tb6 _ (by omega) _ (by omega)]
  rfl
theorem pcr_sp {a b : Nat} (hb : b < 256) : pcr (256 * a + b) 16 = pcr a 8 + pcr b 8 := by
  have h : ∀ j, (256 * a + b).testBit j = if j < 8 then b.testBit j else a.testBit (j - 8) := fun j => Nat.testBit_two_pow_mul_add a (b := b) (i := 8) hb j
  simp only [pcr, h]
  simp only [Nat.reduceLT, if_true, if_false, Nat.reduceSub]
  omega
theorem bc_pc {m : Nat} (hm : m < 65536) : bcN m = pc m := by
  obtain ⟨a, b, ha, hb, rfl⟩ : ∃ a b, a < 256 ∧ b < 256 ∧ m = 256 * a + b := ⟨m / 256, m % 256, by omega, by omega, by omega⟩
  obtain ⟨a1, a2, a3, a4, a5⟩ := tb5 a ha
  obtain ⟨b1, b2, b3, b4, b5⟩ := tb5 b hb
  unfold bcN
  rw [st1 ha hb]
  dsimp only
  rw [st2 a1 b1, st3 a2 a3 b2, a4, b4]
  have e4 : (256 * pcr a 8 + pcr b 8) / 2 ^ 8 = pcr a 8 := by omega
  rw [e4]
  have e5 : (256 * pcr a 8 + pcr b 8 + pcr a 8) / 2 ^ 16 = 0 := by omega
  rw [e5, show (63 : Nat) = 2 ^ 6 - 1 from rfl, Nat.and_two_pow_sub_one_eq_mod, pc, pcr_sp hb]
  omega
