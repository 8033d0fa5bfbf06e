/-! three whole numbers, and what is done with them -/
abbrev P3 : Type := Int × Int × Int
def g3 (p : P3) : Nat := Nat.gcd (Nat.gcd p.1.natAbs p.2.1.natAbs) p.2.2.natAbs
def dv (p : P3) : P3 := (p.1 / (g3 p : Int), p.2.1 / (g3 p : Int), p.2.2 / (g3 p : Int))
def lp (p : P3) : Bool := decide (if p.1 ≠ 0 then 0 < p.1 else if p.2.1 ≠ 0 then 0 < p.2.1 else 0 < p.2.2)
def ng (p : P3) : P3 := (-p.1, -p.2.1, -p.2.2)
def nz (p : P3) : P3 := if lp p then dv p else ng (dv p)
def cr (p q : P3) : P3 := (p.2.1 * q.2.2 - p.2.2 * q.2.1, p.2.2 * q.1 - p.1 * q.2.2, p.1 * q.2.1 - p.2.1 * q.1)
def dt (p q : P3) : Int := p.1 * q.1 + p.2.1 * q.2.1 + p.2.2 * q.2.2
def bd (B : Nat) (p : P3) : Prop := p.1.natAbs < B ∧ p.2.1.natAbs < B ∧ p.2.2.natAbs < B
abbrev xTp (p : P3) : va_E := xT (iL p.1) (iL p.2.1) (iL p.2.2)
theorem gcd_lt {a b B : Nat} (ha : a < B) (hb : b < B) : Nat.gcd a b < B := by
  rcases Nat.eq_zero_or_pos a with h | h
  · subst h
    rw [Nat.gcd_zero_left]
    exact hb
  · exact Nat.lt_of_le_of_lt (Nat.gcd_le_left b h) ha
theorem g3_lt {B : Nat} {p : P3} (h : bd B p) : g3 p < B := gcd_lt (gcd_lt h.1 h.2.1) h.2.2
theorem g3_d1 (p : P3) : (g3 p : Int) ∣ p.1 := Int.ofNat_dvd_left.mpr (Nat.dvd_trans (Nat.gcd_dvd_left _ _) (Nat.gcd_dvd_left _ _))
theorem g3_d2 (p : P3) : (g3 p : Int) ∣ p.2.1 := Int.ofNat_dvd_left.mpr (Nat.dvd_trans (Nat.gcd_dvd_left _ _) (Nat.gcd_dvd_right _ _))
theorem g3_d3 (p : P3) : (g3 p : Int) ∣ p.2.2 := Int.ofNat_dvd_left.mpr (Nat.gcd_dvd_right _ _)
theorem g3_0 {p : P3} (h : g3 p = 0) : p = (0, 0, 0) := by
  obtain ⟨a, b, c⟩ := p
  obtain ⟨h1, h2⟩ := Nat.gcd_eq_zero_iff.mp h
  obtain ⟨h3, h4⟩ := Nat.gcd_eq_zero_iff.mp h1
  simp only at h2 h3 h4
  simp only [Prod.mk.injEq]
  omega
theorem bd_mono {A B : Nat} {p : P3} (h : bd A p) (hAB : A ≤ B) : bd B p := ⟨Nat.lt_of_lt_of_le h.1 hAB, Nat.lt_of_lt_of_le h.2.1 hAB, Nat.lt_of_lt_of_le h.2.2 hAB⟩
theorem bd_dv {B : Nat} {p : P3} (h : bd B p) : bd B (dv p) :=
  ⟨Nat.lt_of_le_of_lt (Int.natAbs_ediv_le_natAbs _ _) h.1, Nat.lt_of_le_of_lt (Int.natAbs_ediv_le_natAbs _ _) h.2.1, Nat.lt_of_le_of_lt (Int.natAbs_ediv_le_natAbs _ _) h.2.2⟩
theorem bd_ng {B : Nat} {p : P3} (h : bd B p) : bd B (ng p) := by
  unfold bd ng at *
  simp only [Int.natAbs_neg]
  exact h
theorem bd_nz {B : Nat} {p : P3} (h : bd B p) : bd B (nz p) := by
  unfold nz
  split
  · exact bd_dv h
  · exact bd_ng (bd_dv h)
theorem va_up_same {G : xG} {t : Nat} {e : va_E} (h : G t = e) : va_up G t e = G := by
  funext j
  unfold va_up
  split
  next q => rw [q, h]
  next => rfl
/-- division of a long by the common divisor -/
theorem iL_dvd {x : Int} {g : Nat} (hx : x.natAbs < 281474976710656) (hg : g < 281474976710656) (h : (g : Int) ∣ x) : iL x / lN g = iL (x / (g : Int)) := by
  rw [iL_nat, iL_tdiv (by omega) (by omega), Int.tdiv_eq_ediv_of_dvd h]
theorem iL_dvdn {x : Int} {g : Nat} (hx : x.natAbs < 281474976710656) (hg : g < 281474976710656) (h : (g : Int) ∣ x) : iL x / -lN g = iL (-(x / (g : Int))) := by
  rw [iL_nat, iL_neg, iL_tdiv (by omega) (by omega), Int.tdiv_neg, Int.tdiv_eq_ediv_of_dvd h]
theorem lN_ne {g : Nat} (hg : g < 281474976710656) (h : g ≠ 0) : ¬ lN g = 0 := by
  intro e
  exact h ((pk_lEQ (a := g) (b := 0) (by omega) (by omega)).mp e)
theorem lN_nne {g : Nat} (hg : g < 281474976710656) (h : g ≠ 0) : ¬ -lN g = 0 := by
  rw [iL_nat, iL_neg, iL_0, iL_eq (by omega) (by decide)]
  omega
theorem lp_iL {p : P3} (h : bd 281474976710656 p) : decide (if iL p.1 ≠ 0 then 0 < iL p.1 else if iL p.2.1 ≠ 0 then 0 < iL p.2.1 else 0 < iL p.2.2) = lp p := by
  obtain ⟨h1, h2, h3⟩ := h
  unfold lp
  congr 1
  have e1 := iL_lt (x := 0) (y := p.1) (by decide) (by omega)
  have e2 := iL_lt (x := 0) (y := p.2.1) (by decide) (by omega)
  have e3 := iL_lt (x := 0) (y := p.2.2) (by decide) (by omega)
  have e4 := iL_eq (x := p.1) (y := 0) (by omega) (by decide)
  have e5 := iL_eq (x := p.2.1) (y := 0) (by omega) (by decide)
  simp only [iL_0, ne_eq, e1, e2, e3, e4, e5]
