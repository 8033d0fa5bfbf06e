theorem pIx_bd {T : List Nat} {p hi q : Nat} {zf : Bool} {v : Int} (h : pIx T p hi zf = (some v, q)) : v.natAbs ≤ hi ∧ (zf = true → v ≠ 0) := by
  unfold pIx at h
  split at h
  · split at h
    next d hd =>
      obtain ⟨-, d2, d3, -⟩ := pDig_lt hd
      cases h
      exact ⟨by omega, fun _ => by omega⟩
    next => cases h
  · split at h
    next d hd =>
      obtain ⟨-, d2, d3, -⟩ := pDig_lt hd
      cases h
      refine ⟨by omega, fun hz => ?_⟩
      rw [if_pos hz] at d2
      omega
    next => cases h
theorem pIs_3 {T : List Nat} {p hi q : Nat} {J : List Int} (h : pIs T hi 3 [] p = (some J, q)) : ∃ a b c : Int, J = [a, b, c] ∧ (a.natAbs ≤ hi ∧ b.natAbs ≤ hi ∧ c.natAbs ≤ hi) ∧ (a, b, c) ≠ ((0, 0, 0) : P3) := by
  rw [pIs] at h
  split at h
  next a q1 h1 =>
    rw [pIs] at h
    split at h
    next b q2 h2 =>
      rw [pIs] at h
      split at h
      next c q3 h3 =>
        rw [pIs] at h
        cases h
        obtain ⟨a1, -⟩ := pIx_bd h1
        obtain ⟨b1, -⟩ := pIx_bd h2
        obtain ⟨c1, c2⟩ := pIx_bd h3
        refine ⟨a, b, c, rfl, ⟨a1, b1, c1⟩, fun e => ?_⟩
        simp only [Prod.mk.injEq] at e
        obtain ⟨rfl, rfl, rfl⟩ := e
        exact c2 (by decide) rfl
      next => cases h
    next => cases h
  next => cases h
/-- a twin plane read -/
def pTwin (T : List Nat) (p : Nat) (V : zV) : Option zV × Nat := match pIs T 3 3 [] p with
  | (some J, q) => (some (zAim V (J.getD 0 0, J.getD 1 0, J.getD 2 0)), q)
  | (none, q) => (none, q)
