theorem g3_dv {p : P3} (h : p ≠ (0, 0, 0)) : g3 (dv p) = 1 := by
  have hg : 0 < g3 p := Nat.pos_of_ne_zero fun e => h (g3_0 e)
  have k1 : (p.1 / (g3 p : Int)).natAbs = p.1.natAbs / g3 p := Int.natAbs_ediv_of_dvd (g3_d1 p)
  have k2 : (p.2.1 / (g3 p : Int)).natAbs = p.2.1.natAbs / g3 p := Int.natAbs_ediv_of_dvd (g3_d2 p)
  have k3 : (p.2.2 / (g3 p : Int)).natAbs = p.2.2.natAbs / g3 p := Int.natAbs_ediv_of_dvd (g3_d3 p)
  have d1 : g3 p ∣ p.1.natAbs := Nat.dvd_trans (Nat.gcd_dvd_left _ _) (Nat.gcd_dvd_left _ _)
  have d2 : g3 p ∣ p.2.1.natAbs := Nat.dvd_trans (Nat.gcd_dvd_left _ _) (Nat.gcd_dvd_right _ _)
  have d3 : g3 p ∣ p.2.2.natAbs := Nat.gcd_dvd_right _ _
  show Nat.gcd (Nat.gcd (p.1 / (g3 p : Int)).natAbs (p.2.1 / (g3 p : Int)).natAbs) (p.2.2 / (g3 p : Int)).natAbs = 1
  rw [k1, k2, k3, Nat.gcd_div d1 d2, Nat.gcd_div (Nat.dvd_gcd d1 d2) d3]
  exact Nat.div_self hg
theorem dv_ne {p : P3} (h : p ≠ (0, 0, 0)) : dv p ≠ (0, 0, 0) := fun e => by
  have h1 := g3_dv h
  rw [e] at h1
  exact absurd h1 (by decide)
theorem dv_id {p : P3} (h : g3 p = 1) : dv p = p := by
  unfold dv
  rw [h]
  simp
theorem dv_0 : dv (0, 0, 0) = (0, 0, 0) := by decide
