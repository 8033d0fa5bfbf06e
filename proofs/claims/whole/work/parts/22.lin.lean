/-! zones and directions: what three numbers tell up to a factor -/
def sm (k : Int) (p : P3) : P3 := (k * p.1, k * p.2.1, k * p.2.2)
theorem g3_sm (k : Int) (p : P3) : g3 (sm k p) = k.natAbs * g3 p := by
  unfold g3 sm
  simp only [Int.natAbs_mul, Nat.gcd_mul_left]
theorem ediv_sm {k x : Int} {g : Nat} (hk : k ≠ 0) (h : (g : Int) ∣ x) : k * x / ((k.natAbs * g : Nat) : Int) = if 0 < k then x / (g : Int) else -(x / (g : Int)) := by
  by_cases hp : 0 < k
  · rw [if_pos hp, Int.natCast_mul, show ((k.natAbs : Nat) : Int) = k by omega, Int.mul_ediv_mul_of_pos _ _ hp]
  · rw [if_neg hp, Int.natCast_mul]
    have hm : 0 < -k := by omega
    rw [show ((k.natAbs : Nat) : Int) = -k by omega, show k * x = -k * -x by rw [Int.neg_mul_neg], Int.mul_ediv_mul_of_pos _ _ hm, Int.neg_ediv_of_dvd h]
theorem dv_sm {k : Int} {p : P3} (hk : k ≠ 0) : dv (sm k p) = if 0 < k then dv p else ng (dv p) := by
  unfold dv
  rw [g3_sm]
  simp only [sm]
  rw [ediv_sm hk (g3_d1 p), ediv_sm hk (g3_d2 p), ediv_sm hk (g3_d3 p)]
  split <;> rfl
theorem mul_pos_iff {k x : Int} (hk : 0 < k) : 0 < k * x ↔ 0 < x := by
  constructor
  · intro h
    exact Decidable.byContradiction fun q => by
      have := Int.mul_nonneg (Int.le_of_lt hk) (show 0 ≤ -x by omega)
      rw [Int.mul_neg] at this
      omega
  · intro h
    exact Int.mul_pos hk h
theorem mul_neg_iff {k x : Int} (hk : k < 0) : 0 < k * x ↔ x < 0 := by
  have h := mul_pos_iff (k := -k) (x := -x) (by omega)
  rw [Int.neg_mul_neg] at h
  rw [h]
  omega
theorem mul_ne {k x : Int} (hk : k ≠ 0) : k * x ≠ 0 ↔ x ≠ 0 := by
  constructor
  · intro h e
    exact h (by rw [e, Int.mul_zero])
  · intro h e
    rcases Int.mul_eq_zero.mp e with q | q
    · exact hk q
    · exact h q
theorem lp_sm_pos {k : Int} {p : P3} (hk : 0 < k) : lp (sm k p) = lp p := by
  unfold lp sm
  simp only [mul_pos_iff hk, mul_ne (show k ≠ 0 by omega)]
theorem lp_sm_neg {k : Int} {p : P3} (hk : k < 0) (hp : p ≠ (0, 0, 0)) : lp (sm k p) = !lp p := by
  obtain ⟨a, b, c⟩ := p
  unfold lp sm
  simp only [mul_neg_iff hk, mul_ne (show k ≠ 0 by omega)]
  simp only [ne_eq, Prod.mk.injEq] at hp
  by_cases ha : a = 0
  · by_cases hb : b = 0
    · simp only [ha, hb, ne_eq, not_true_eq_false, if_false]
      rw [← decide_not]
      congr 1
      simp only [eq_iff_iff]
      omega
    · simp only [ha, hb, ne_eq, not_true_eq_false, not_false_eq_true, if_false, if_true]
      rw [← decide_not]
      congr 1
      simp only [eq_iff_iff]
      omega
  · simp only [ha, ne_eq, not_false_eq_true, if_true]
    rw [← decide_not]
    congr 1
    simp only [eq_iff_iff]
    omega
theorem ng_ng (p : P3) : ng (ng p) = p := by
  obtain ⟨a, b, c⟩ := p
  simp only [ng, Int.neg_neg]
theorem nz_sm {k : Int} {p : P3} (hk : k ≠ 0) (hp : p ≠ (0, 0, 0)) : nz (sm k p) = nz p := by
  unfold nz
  rw [dv_sm hk]
  by_cases hpos : 0 < k
  · rw [lp_sm_pos hpos, if_pos hpos]
  · rw [lp_sm_neg (by omega) hp, if_neg hpos, ng_ng]
    cases lp p <;> rfl
theorem lp_ng {p : P3} (hp : p ≠ (0, 0, 0)) : lp (ng p) = !lp p := by
  have h : ng p = sm (-1) p := by
    simp only [ng, sm, Int.neg_mul, Int.one_mul]
  rw [h, lp_sm_neg (by decide) hp]
theorem lp_dv {p : P3} (hp : p ≠ (0, 0, 0)) : lp (dv p) = lp p := by
  have hg : 0 < (g3 p : Int) := by
    have : g3 p ≠ 0 := fun e => hp (g3_0 e)
    omega
  have h : p = sm (g3 p : Int) (dv p) := by
    obtain ⟨a, b, c⟩ := p
    have e1 := Int.mul_ediv_cancel' (g3_d1 (a, b, c))
    have e2 := Int.mul_ediv_cancel' (g3_d2 (a, b, c))
    have e3 := Int.mul_ediv_cancel' (g3_d3 (a, b, c))
    simp only [sm, dv, Prod.mk.injEq]
    exact ⟨e1.symm, e2.symm, e3.symm⟩
  have h2 := lp_sm_pos (p := dv p) hg
  rw [← h] at h2
  exact h2.symm
theorem lp_nz {p : P3} (hp : p ≠ (0, 0, 0)) : lp (nz p) = true := by
  unfold nz
  cases hl : lp p
  · rw [if_neg (by decide), lp_ng (dv_ne hp), lp_dv hp, hl]
    rfl
  · rw [if_pos rfl, lp_dv hp, hl]
theorem g3_ng (p : P3) : g3 (ng p) = g3 p := by
  unfold g3 ng
  simp only [Int.natAbs_neg]
theorem g3_nz {p : P3} (hp : p ≠ (0, 0, 0)) : g3 (nz p) = 1 := by
  unfold nz
  split
  · exact g3_dv hp
  · rw [g3_ng]; exact g3_dv hp
theorem nz_id {p : P3} (h1 : lp p = true) (h2 : g3 p = 1) : nz p = p := by
  unfold nz
  rw [if_pos h1, dv_id h2]
theorem nz_ne {p : P3} (hp : p ≠ (0, 0, 0)) : nz p ≠ (0, 0, 0) := fun e => by
  have h := g3_nz hp
  rw [e] at h
  exact absurd h (by decide)
theorem nz_nz {p : P3} (hp : p ≠ (0, 0, 0)) : nz (nz p) = nz p := nz_id (lp_nz hp) (g3_nz hp)
/-- collinear: the same ray up to its sense -/
theorem nz_col {a c : P3} (ha : a ≠ (0, 0, 0)) (hc : c ≠ (0, 0, 0)) (h : cr a c = (0, 0, 0)) : nz a = nz c := by
  obtain ⟨a1, a2, a3⟩ := a
  obtain ⟨c1, c2, c3⟩ := c
  simp only [cr, Prod.mk.injEq] at h
  obtain ⟨h1, h2, h3⟩ := h
  have key : ∀ (x y : Int), x ≠ 0 → sm x (c1, c2, c3) = sm y (a1, a2, a3) → nz (a1, a2, a3) = nz (c1, c2, c3) := by
    intro x y hx e
    have hy : y ≠ 0 := by
      intro hy
      rw [hy] at e
      simp only [sm, Int.zero_mul, Prod.mk.injEq] at e
      obtain ⟨e1, e2, e3⟩ := e
      apply hc
      rcases Int.mul_eq_zero.mp e1 with q | q
      · exact absurd q hx
      · rcases Int.mul_eq_zero.mp e2 with r | r
        · exact absurd r hx
        · rcases Int.mul_eq_zero.mp e3 with s | s
          · exact absurd s hx
          · rw [q, r, s]
    rw [← nz_sm hy ha, ← e, nz_sm hx hc]
  by_cases q1 : a1 = 0
  · by_cases q2 : a2 = 0
    · by_cases q3 : a3 = 0
      · exact absurd (by rw [q1, q2, q3]) ha
      · exact key a3 c3 q3 (by simp only [sm, Prod.mk.injEq]; exact ⟨by grind, by grind, by grind⟩)
    · exact key a2 c2 q2 (by simp only [sm, Prod.mk.injEq]; exact ⟨by grind, by grind, by grind⟩)
  · exact key a1 c1 q1 (by simp only [sm, Prod.mk.injEq]; exact ⟨by grind, by grind, by grind⟩)
theorem cr_tri (a d e : P3) (h1 : dt d a = 0) (h2 : dt e a = 0) : cr a (cr d e) = (0, 0, 0) := by
  obtain ⟨a1, a2, a3⟩ := a
  obtain ⟨d1, d2, d3⟩ := d
  obtain ⟨e1, e2, e3⟩ := e
  simp only [dt] at h1 h2
  simp only [cr, Prod.mk.injEq]
  exact ⟨by grind, by grind, by grind⟩
/-- the zone of two faces is the only one in which both lie -/
theorem zone_one {a d e : P3} (ha : a ≠ (0, 0, 0)) (hn : nz a = a) (hc : cr d e ≠ (0, 0, 0)) (h1 : dt d a = 0) (h2 : dt e a = 0) : a = nz (cr d e) := by
  rw [← hn]
  exact nz_col ha hc (cr_tri a d e h1 h2)
theorem dt_sm (d : P3) (k : Int) (p : P3) : dt d (sm k p) = k * dt d p := by
  obtain ⟨a1, a2, a3⟩ := d
  obtain ⟨p1, p2, p3⟩ := p
  simp only [dt, sm]
  grind
theorem dt_nz {d p : P3} (hp : p ≠ (0, 0, 0)) : dt d (nz p) = 0 ↔ dt d p = 0 := by
  have hg : (g3 p : Int) ≠ 0 := by
    have : g3 p ≠ 0 := fun e => hp (g3_0 e)
    omega
  have h : p = sm (g3 p : Int) (dv p) := by
    obtain ⟨a, b, c⟩ := p
    have e1 := Int.mul_ediv_cancel' (g3_d1 (a, b, c))
    have e2 := Int.mul_ediv_cancel' (g3_d2 (a, b, c))
    have e3 := Int.mul_ediv_cancel' (g3_d3 (a, b, c))
    simp only [sm, dv, Prod.mk.injEq]
    exact ⟨e1.symm, e2.symm, e3.symm⟩
  have h2 : dt d p = (g3 p : Int) * dt d (dv p) := by
    have := dt_sm d (g3 p : Int) (dv p)
    rw [← h] at this
    exact this
  have h3 : dt d (ng (dv p)) = -dt d (dv p) := by
    obtain ⟨a1, a2, a3⟩ := d
    simp only [dt, ng, Int.mul_neg]
    omega
  have h4 : dt d (dv p) = 0 ↔ dt d p = 0 := by
    rw [h2]
    constructor
    · intro e; rw [e, Int.mul_zero]
    · intro e
      rcases Int.mul_eq_zero.mp e with q | q
      · exact absurd q hg
      · exact q
  unfold nz
  split
  · exact h4
  · rw [h3, ← h4]
    omega
theorem dt_cr1 (d e : P3) : dt d (cr d e) = 0 := by
  obtain ⟨d1, d2, d3⟩ := d
  obtain ⟨e1, e2, e3⟩ := e
  simp only [dt, cr]
  grind
theorem dt_cr2 (d e : P3) : dt e (cr d e) = 0 := by
  obtain ⟨d1, d2, d3⟩ := d
  obtain ⟨e1, e2, e3⟩ := e
  simp only [dt, cr]
  grind
def par (d e : P3) : Prop := d = e ∨ d = ng e
theorem par_cr {d e : P3} (hd : d ≠ (0, 0, 0)) (he : e ≠ (0, 0, 0)) (gd : g3 d = 1) (ge : g3 e = 1) : cr d e = (0, 0, 0) ↔ par d e := by
  constructor
  · intro h
    have h2 := nz_col hd he h
    unfold nz at h2
    rw [dv_id gd, dv_id ge] at h2
    split at h2
    · split at h2
      · exact Or.inl h2
      · exact Or.inr h2
    · split at h2
      · exact Or.inr (by rw [← h2, ng_ng])
      · exact Or.inl (by have := congrArg ng h2; rw [ng_ng, ng_ng] at this; exact this)
  · intro h
    obtain ⟨d1, d2, d3⟩ := d
    obtain ⟨e1, e2, e3⟩ := e
    rcases h with h | h
    · simp only [Prod.mk.injEq] at h
      obtain ⟨rfl, rfl, rfl⟩ := h
      simp only [cr, Prod.mk.injEq]
      exact ⟨by grind, by grind, by grind⟩
    · simp only [ng, Prod.mk.injEq] at h
      obtain ⟨rfl, rfl, rfl⟩ := h
      simp only [cr, Prod.mk.injEq]
      exact ⟨by grind, by grind, by grind⟩
