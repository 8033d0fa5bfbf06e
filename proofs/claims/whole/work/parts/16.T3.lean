theorem abL {x : Int} (h : x.natAbs < 1000) : (if 0 < iL x then iL x else -iL x) = lN x.natAbs := by
  by_cases h0 : 0 < x
  · rw [if_pos (by rw [iL_0, iL_lt (by decide) (by omega)]; exact h0), iL_nat]
    congr 1
    omega
  · rw [if_neg (by rw [iL_0, iL_lt (by decide) (by omega)]; exact h0), iL_nat, iL_neg]
    congr 1
    omega
theorem perm3 {x y z u v w : Int} (h1 : x + y + z = u + v + w) (h2 : x * x + y * y + z * z = u * u + v * v + w * w) (h3 : x * y * z = u * v * w) :
    (x = u ∧ (y = v ∧ z = w ∨ y = w ∧ z = v)) ∨ (x = v ∧ (y = u ∧ z = w ∨ y = w ∧ z = u)) ∨ (x = w ∧ (y = u ∧ z = v ∨ y = v ∧ z = u)) := by
  have two : ∀ {y z v w : Int}, y + z = v + w → y * y + z * z = v * v + w * w → (y = v ∧ z = w ∨ y = w ∧ z = v) := by
    intro y z v w a1 a2
    have a3 : (y - v) * (y - w) = 0 := by grind
    rcases Int.mul_eq_zero.mp a3 with q | q
    · left; omega
    · right; omega
  have h4 : (x - u) * ((x - v) * (x - w)) = 0 := by grind
  rcases Int.mul_eq_zero.mp h4 with q | q
  · have e : x = u := by omega
    subst e
    exact Or.inl ⟨rfl, two (by omega) (by omega)⟩
  · rcases Int.mul_eq_zero.mp q with q | q
    · have e : x = v := by omega
      subst e
      exact Or.inr (Or.inl ⟨rfl, two (by omega) (by omega)⟩)
    · have e : x = w := by omega
      subst e
      exact Or.inr (Or.inr ⟨rfl, two (by omega) (by omega)⟩)
/-- equivalence of indices by a system -/
def zEqP (s : Int) (p q : P3) : Prop :=
  if s = 0 then p = q ∨ p = ng q
  else if s = 1 then p.2.1.natAbs = q.2.1.natAbs ∧ (p.1 = q.1 ∧ p.2.2 = q.2.2 ∨ p.1 = -q.1 ∧ p.2.2 = -q.2.2)
  else if s = 2 then p.1.natAbs = q.1.natAbs ∧ p.2.1.natAbs = q.2.1.natAbs ∧ p.2.2.natAbs = q.2.2.natAbs
  else if s = 3 then p.2.2.natAbs = q.2.2.natAbs ∧ (p.1.natAbs = q.1.natAbs ∧ p.2.1.natAbs = q.2.1.natAbs ∨ p.1.natAbs = q.2.1.natAbs ∧ p.2.1.natAbs = q.1.natAbs)
  else (p.1.natAbs = q.1.natAbs ∧ (p.2.1.natAbs = q.2.1.natAbs ∧ p.2.2.natAbs = q.2.2.natAbs ∨ p.2.1.natAbs = q.2.2.natAbs ∧ p.2.2.natAbs = q.2.1.natAbs)) ∨
    (p.1.natAbs = q.2.1.natAbs ∧ (p.2.1.natAbs = q.1.natAbs ∧ p.2.2.natAbs = q.2.2.natAbs ∨ p.2.1.natAbs = q.2.2.natAbs ∧ p.2.2.natAbs = q.1.natAbs)) ∨
    (p.1.natAbs = q.2.2.natAbs ∧ (p.2.1.natAbs = q.1.natAbs ∧ p.2.2.natAbs = q.2.1.natAbs ∨ p.2.1.natAbs = q.2.1.natAbs ∧ p.2.2.natAbs = q.1.natAbs))
noncomputable def zEq (s : Int) (p q : P3) : Bool := @decide (zEqP s p q) (Classical.propDecidable _)
theorem zEq_t {s : Int} {p q : P3} (h : zEqP s p q) : bI (zEq s p q) = 1 := by unfold zEq; rw [@decide_eq_true _ (Classical.propDecidable _) h]; rfl
theorem zEq_f {s : Int} {p q : P3} (h : ¬ zEqP s p q) : bI (zEq s p q) = 0 := by unfold zEq; rw [@decide_eq_false _ (Classical.propDecidable _) h]; rfl
theorem k_T_sizes2 {n t u : Nat} {G : xG} {p q : P3} (hG : G t = xTp p) (hH : G u = xTp q) (hp : bd 1000 p) (hq : bd 1000 q) : xK mT_isEquivalentBySizes [.ref t, .ref u, .int 2] n G 0 0 (qI n G (bI (zEq 2 p q))) xNo := by
  obtain ⟨p1, p2, p3⟩ := p
  obtain ⟨q1, q2, q3⟩ := q
  obtain ⟨a1, a2, a3⟩ := hp
  obtain ⟨b1, b2, b3⟩ := hq
  simp only at a1 a2 a3 b1 b2 b3
  have e14 := pk_lEQ (a := p1.natAbs) (b := q1.natAbs) (by omega) (by omega)
  have e25 := pk_lEQ (a := p2.natAbs) (b := q2.natAbs) (by omega) (by omega)
  have e36 := pk_lEQ (a := p3.natAbs) (b := q3.natAbs) (by omega) (by omega)
  refine xK_of2 (L0 := [(0, _), (1, _), (2, _)]) (by decide +kernel) rfl (Nat.le_of_ble_eq_true rfl) rfl ?_
  refine xs_aload_n dT_isEquivalentBySizes_0 rfl ?_
  refine xs_get dT_isEquivalentBySizes_1 flT_7 (by first | assumption | exact va_up_self _ _ _ | exact (va_up_ne _ _ (by omega)).trans (by first | assumption | exact va_up_self _ _ _ | exact (va_up_ne _ _ (by omega)).trans (by first | assumption | exact va_up_self _ _ _ | exact (va_up_ne _ _ (by omega)).trans (by first | assumption | exact va_up_self _ _ _ | exact (va_up_ne _ _ (by omega)).trans (by first | assumption | exact va_up_self _ _ _ | exact (va_up_ne _ _ (by omega)).trans (by first | assumption | exact va_up_self _ _ _ | exact (va_up_ne _ _ (by omega)).trans (by first | assumption | exact va_up_self _ _ _ | exact (va_up_ne _ _ (by omega)).trans (by first | assumption | exact va_up_self _ _ _ | exact (va_up_ne _ _ (by omega)).trans (by first | assumption | exact va_up_self _ _ _ | exact (va_up_ne _ _ (by omega)).trans (by first | assumption | exact va_up_self _ _ _ | exact (va_up_ne _ _ (by omega)).trans (by first | assumption | exact va_up_self _ _ _ | exact (va_up_ne _ _ (by omega)).trans (by first | assumption | exact va_up_self _ _ _)))))))))))) rfl ?_
  refine xs_mabs dT_isEquivalentBySizes_4 ljT_37 (Nat.le_of_ble_eq_true rfl) ⟨by decide, by decide⟩ ⟨by omega, by omega⟩ ?_
  refine xs_lstore_n (L2 := [(3, _), (0, _), (1, _), (2, _)]) dT_isEquivalentBySizes_7 (by decide) rfl ?_
  refine xs_aload_n dT_isEquivalentBySizes_8 rfl ?_
  refine xs_get dT_isEquivalentBySizes_9 flT_13 (by first | assumption | exact va_up_self _ _ _ | exact (va_up_ne _ _ (by omega)).trans (by first | assumption | exact va_up_self _ _ _ | exact (va_up_ne _ _ (by omega)).trans (by first | assumption | exact va_up_self _ _ _ | exact (va_up_ne _ _ (by omega)).trans (by first | assumption | exact va_up_self _ _ _ | exact (va_up_ne _ _ (by omega)).trans (by first | assumption | exact va_up_self _ _ _ | exact (va_up_ne _ _ (by omega)).trans (by first | assumption | exact va_up_self _ _ _ | exact (va_up_ne _ _ (by omega)).trans (by first | assumption | exact va_up_self _ _ _ | exact (va_up_ne _ _ (by omega)).trans (by first | assumption | exact va_up_self _ _ _ | exact (va_up_ne _ _ (by omega)).trans (by first | assumption | exact va_up_self _ _ _ | exact (va_up_ne _ _ (by omega)).trans (by first | assumption | exact va_up_self _ _ _ | exact (va_up_ne _ _ (by omega)).trans (by first | assumption | exact va_up_self _ _ _ | exact (va_up_ne _ _ (by omega)).trans (by first | assumption | exact va_up_self _ _ _)))))))))))) rfl ?_
  refine xs_mabs dT_isEquivalentBySizes_12 ljT_37 (Nat.le_of_ble_eq_true rfl) ⟨by decide, by decide⟩ ⟨by omega, by omega⟩ ?_
  refine xs_lstore (L2 := [(5, _), (3, _), (0, _), (1, _), (2, _)]) dT_isEquivalentBySizes_15 (by decide) rfl ?_
  refine xs_aload_n dT_isEquivalentBySizes_17 rfl ?_
  refine xs_get dT_isEquivalentBySizes_18 flT_16 (by first | assumption | exact va_up_self _ _ _ | exact (va_up_ne _ _ (by omega)).trans (by first | assumption | exact va_up_self _ _ _ | exact (va_up_ne _ _ (by omega)).trans (by first | assumption | exact va_up_self _ _ _ | exact (va_up_ne _ _ (by omega)).trans (by first | assumption | exact va_up_self _ _ _ | exact (va_up_ne _ _ (by omega)).trans (by first | assumption | exact va_up_self _ _ _ | exact (va_up_ne _ _ (by omega)).trans (by first | assumption | exact va_up_self _ _ _ | exact (va_up_ne _ _ (by omega)).trans (by first | assumption | exact va_up_self _ _ _ | exact (va_up_ne _ _ (by omega)).trans (by first | assumption | exact va_up_self _ _ _ | exact (va_up_ne _ _ (by omega)).trans (by first | assumption | exact va_up_self _ _ _ | exact (va_up_ne _ _ (by omega)).trans (by first | assumption | exact va_up_self _ _ _ | exact (va_up_ne _ _ (by omega)).trans (by first | assumption | exact va_up_self _ _ _ | exact (va_up_ne _ _ (by omega)).trans (by first | assumption | exact va_up_self _ _ _)))))))))))) rfl ?_
  refine xs_mabs dT_isEquivalentBySizes_21 ljT_37 (Nat.le_of_ble_eq_true rfl) ⟨by decide, by decide⟩ ⟨by omega, by omega⟩ ?_
  refine xs_lstore (L2 := [(7, _), (5, _), (3, _), (0, _), (1, _), (2, _)]) dT_isEquivalentBySizes_24 (by decide) rfl ?_
  refine xs_aload_n dT_isEquivalentBySizes_26 rfl ?_
  refine xs_get dT_isEquivalentBySizes_27 flT_7 (by first | assumption | exact va_up_self _ _ _ | exact (va_up_ne _ _ (by omega)).trans (by first | assumption | exact va_up_self _ _ _ | exact (va_up_ne _ _ (by omega)).trans (by first | assumption | exact va_up_self _ _ _ | exact (va_up_ne _ _ (by omega)).trans (by first | assumption | exact va_up_self _ _ _ | exact (va_up_ne _ _ (by omega)).trans (by first | assumption | exact va_up_self _ _ _ | exact (va_up_ne _ _ (by omega)).trans (by first | assumption | exact va_up_self _ _ _ | exact (va_up_ne _ _ (by omega)).trans (by first | assumption | exact va_up_self _ _ _ | exact (va_up_ne _ _ (by omega)).trans (by first | assumption | exact va_up_self _ _ _ | exact (va_up_ne _ _ (by omega)).trans (by first | assumption | exact va_up_self _ _ _ | exact (va_up_ne _ _ (by omega)).trans (by first | assumption | exact va_up_self _ _ _ | exact (va_up_ne _ _ (by omega)).trans (by first | assumption | exact va_up_self _ _ _ | exact (va_up_ne _ _ (by omega)).trans (by first | assumption | exact va_up_self _ _ _)))))))))))) rfl ?_
  refine xs_mabs dT_isEquivalentBySizes_30 ljT_37 (Nat.le_of_ble_eq_true rfl) ⟨by decide, by decide⟩ ⟨by omega, by omega⟩ ?_
  refine xs_lstore (L2 := [(9, _), (7, _), (5, _), (3, _), (0, _), (1, _), (2, _)]) dT_isEquivalentBySizes_33 (by decide) rfl ?_
  refine xs_aload_n dT_isEquivalentBySizes_35 rfl ?_
  refine xs_get dT_isEquivalentBySizes_36 flT_13 (by first | assumption | exact va_up_self _ _ _ | exact (va_up_ne _ _ (by omega)).trans (by first | assumption | exact va_up_self _ _ _ | exact (va_up_ne _ _ (by omega)).trans (by first | assumption | exact va_up_self _ _ _ | exact (va_up_ne _ _ (by omega)).trans (by first | assumption | exact va_up_self _ _ _ | exact (va_up_ne _ _ (by omega)).trans (by first | assumption | exact va_up_self _ _ _ | exact (va_up_ne _ _ (by omega)).trans (by first | assumption | exact va_up_self _ _ _ | exact (va_up_ne _ _ (by omega)).trans (by first | assumption | exact va_up_self _ _ _ | exact (va_up_ne _ _ (by omega)).trans (by first | assumption | exact va_up_self _ _ _ | exact (va_up_ne _ _ (by omega)).trans (by first | assumption | exact va_up_self _ _ _ | exact (va_up_ne _ _ (by omega)).trans (by first | assumption | exact va_up_self _ _ _ | exact (va_up_ne _ _ (by omega)).trans (by first | assumption | exact va_up_self _ _ _ | exact (va_up_ne _ _ (by omega)).trans (by first | assumption | exact va_up_self _ _ _)))))))))))) rfl ?_
  refine xs_mabs dT_isEquivalentBySizes_39 ljT_37 (Nat.le_of_ble_eq_true rfl) ⟨by decide, by decide⟩ ⟨by omega, by omega⟩ ?_
  refine xs_lstore (L2 := [(11, _), (9, _), (7, _), (5, _), (3, _), (0, _), (1, _), (2, _)]) dT_isEquivalentBySizes_42 (by decide) rfl ?_
  refine xs_aload_n dT_isEquivalentBySizes_44 rfl ?_
  refine xs_get dT_isEquivalentBySizes_45 flT_16 (by first | assumption | exact va_up_self _ _ _ | exact (va_up_ne _ _ (by omega)).trans (by first | assumption | exact va_up_self _ _ _ | exact (va_up_ne _ _ (by omega)).trans (by first | assumption | exact va_up_self _ _ _ | exact (va_up_ne _ _ (by omega)).trans (by first | assumption | exact va_up_self _ _ _ | exact (va_up_ne _ _ (by omega)).trans (by first | assumption | exact va_up_self _ _ _ | exact (va_up_ne _ _ (by omega)).trans (by first | assumption | exact va_up_self _ _ _ | exact (va_up_ne _ _ (by omega)).trans (by first | assumption | exact va_up_self _ _ _ | exact (va_up_ne _ _ (by omega)).trans (by first | assumption | exact va_up_self _ _ _ | exact (va_up_ne _ _ (by omega)).trans (by first | assumption | exact va_up_self _ _ _ | exact (va_up_ne _ _ (by omega)).trans (by first | assumption | exact va_up_self _ _ _ | exact (va_up_ne _ _ (by omega)).trans (by first | assumption | exact va_up_self _ _ _ | exact (va_up_ne _ _ (by omega)).trans (by first | assumption | exact va_up_self _ _ _)))))))))))) rfl ?_
  refine xs_mabs dT_isEquivalentBySizes_48 ljT_37 (Nat.le_of_ble_eq_true rfl) ⟨by decide, by decide⟩ ⟨by omega, by omega⟩ ?_
  refine xs_lstore (L2 := [(13, _), (11, _), (9, _), (7, _), (5, _), (3, _), (0, _), (1, _), (2, _)]) dT_isEquivalentBySizes_51 (by decide) rfl ?_
  refine xs_iload_n dT_isEquivalentBySizes_53 rfl ?_
  refine xs_iconst (v := 2) dT_isEquivalentBySizes_54 (by decide) ?_
  rw [abL a1, abL a2, abL a3, abL b1, abL b2, abL b3]
  refine xs_icmp_ne dT_isEquivalentBySizes_55 (fun h => absurd rfl h) (fun _ => ?_)
  refine xs_lload_n dT_isEquivalentBySizes_58 rfl ?_
  refine xs_lload dT_isEquivalentBySizes_59 rfl ?_
  refine xs_lc_ne dT_isEquivalentBySizes_61 dT_isEquivalentBySizes_62 (fun h61 => ?_) (fun h61 => ?_)
  · refine xs_iconst (v := 0) dT_isEquivalentBySizes_85 (by decide) ?_
    exact xs_iret dT_isEquivalentBySizes_86 rfl rfl (by omega) (by omega) ⟨(by first | (rw [zEq_t]; simp only [zEqP]; grind) | (rw [zEq_f]; simp only [zEqP]; grind)), rfl, rfl⟩
  refine xs_lload dT_isEquivalentBySizes_65 rfl ?_
  refine xs_lload dT_isEquivalentBySizes_67 rfl ?_
  refine xs_lc_ne dT_isEquivalentBySizes_69 dT_isEquivalentBySizes_70 (fun h69 => ?_) (fun h69 => ?_)
  · refine xs_iconst (v := 0) dT_isEquivalentBySizes_85 (by decide) ?_
    exact xs_iret dT_isEquivalentBySizes_86 rfl rfl (by omega) (by omega) ⟨(by first | (rw [zEq_t]; simp only [zEqP]; grind) | (rw [zEq_f]; simp only [zEqP]; grind)), rfl, rfl⟩
  refine xs_lload dT_isEquivalentBySizes_73 rfl ?_
  refine xs_lload dT_isEquivalentBySizes_75 rfl ?_
  refine xs_lc_ne dT_isEquivalentBySizes_77 dT_isEquivalentBySizes_78 (fun h77 => ?_) (fun h77 => ?_)
  · refine xs_iconst (v := 0) dT_isEquivalentBySizes_85 (by decide) ?_
    exact xs_iret dT_isEquivalentBySizes_86 rfl rfl (by omega) (by omega) ⟨(by first | (rw [zEq_t]; simp only [zEqP]; grind) | (rw [zEq_f]; simp only [zEqP]; grind)), rfl, rfl⟩
  refine xs_iconst (v := 1) dT_isEquivalentBySizes_81 (by decide) ?_
  refine xs_goto dT_isEquivalentBySizes_82 ?_
  exact xs_iret dT_isEquivalentBySizes_86 rfl rfl (by omega) (by omega) ⟨(by first | (rw [zEq_t]; simp only [zEqP]; grind) | (rw [zEq_f]; simp only [zEqP]; grind)), rfl, rfl⟩
theorem k_T_sizes3 {n t u : Nat} {G : xG} {p q : P3} (hG : G t = xTp p) (hH : G u = xTp q) (hp : bd 1000 p) (hq : bd 1000 q) : xK mT_isEquivalentBySizes [.ref t, .ref u, .int 3] n G 0 0 (qI n G (bI (zEq 3 p q))) xNo := by
  obtain ⟨p1, p2, p3⟩ := p
  obtain ⟨q1, q2, q3⟩ := q
  obtain ⟨a1, a2, a3⟩ := hp
  obtain ⟨b1, b2, b3⟩ := hq
  simp only at a1 a2 a3 b1 b2 b3
  have e14 := pk_lEQ (a := p1.natAbs) (b := q1.natAbs) (by omega) (by omega)
  have e25 := pk_lEQ (a := p2.natAbs) (b := q2.natAbs) (by omega) (by omega)
  have e36 := pk_lEQ (a := p3.natAbs) (b := q3.natAbs) (by omega) (by omega)
  have e15 := pk_lEQ (a := p1.natAbs) (b := q2.natAbs) (by omega) (by omega)
  have e24 := pk_lEQ (a := p2.natAbs) (b := q1.natAbs) (by omega) (by omega)
  refine xK_of2 (L0 := [(0, _), (1, _), (2, _)]) (by decide +kernel) rfl (Nat.le_of_ble_eq_true rfl) rfl ?_
  refine xs_aload_n dT_isEquivalentBySizes_0 rfl ?_
  refine xs_get dT_isEquivalentBySizes_1 flT_7 (by first | assumption | exact va_up_self _ _ _ | exact (va_up_ne _ _ (by omega)).trans (by first | assumption | exact va_up_self _ _ _ | exact (va_up_ne _ _ (by omega)).trans (by first | assumption | exact va_up_self _ _ _ | exact (va_up_ne _ _ (by omega)).trans (by first | assumption | exact va_up_self _ _ _ | exact (va_up_ne _ _ (by omega)).trans (by first | assumption | exact va_up_self _ _ _ | exact (va_up_ne _ _ (by omega)).trans (by first | assumption | exact va_up_self _ _ _ | exact (va_up_ne _ _ (by omega)).trans (by first | assumption | exact va_up_self _ _ _ | exact (va_up_ne _ _ (by omega)).trans (by first | assumption | exact va_up_self _ _ _ | exact (va_up_ne _ _ (by omega)).trans (by first | assumption | exact va_up_self _ _ _ | exact (va_up_ne _ _ (by omega)).trans (by first | assumption | exact va_up_self _ _ _ | exact (va_up_ne _ _ (by omega)).trans (by first | assumption | exact va_up_self _ _ _ | exact (va_up_ne _ _ (by omega)).trans (by first | assumption | exact va_up_self _ _ _)))))))))))) rfl ?_
  refine xs_mabs dT_isEquivalentBySizes_4 ljT_37 (Nat.le_of_ble_eq_true rfl) ⟨by decide, by decide⟩ ⟨by omega, by omega⟩ ?_
  refine xs_lstore_n (L2 := [(3, _), (0, _), (1, _), (2, _)]) dT_isEquivalentBySizes_7 (by decide) rfl ?_
  refine xs_aload_n dT_isEquivalentBySizes_8 rfl ?_
  refine xs_get dT_isEquivalentBySizes_9 flT_13 (by first | assumption | exact va_up_self _ _ _ | exact (va_up_ne _ _ (by omega)).trans (by first | assumption | exact va_up_self _ _ _ | exact (va_up_ne _ _ (by omega)).trans (by first | assumption | exact va_up_self _ _ _ | exact (va_up_ne _ _ (by omega)).trans (by first | assumption | exact va_up_self _ _ _ | exact (va_up_ne _ _ (by omega)).trans (by first | assumption | exact va_up_self _ _ _ | exact (va_up_ne _ _ (by omega)).trans (by first | assumption | exact va_up_self _ _ _ | exact (va_up_ne _ _ (by omega)).trans (by first | assumption | exact va_up_self _ _ _ | exact (va_up_ne _ _ (by omega)).trans (by first | assumption | exact va_up_self _ _ _ | exact (va_up_ne _ _ (by omega)).trans (by first | assumption | exact va_up_self _ _ _ | exact (va_up_ne _ _ (by omega)).trans (by first | assumption | exact va_up_self _ _ _ | exact (va_up_ne _ _ (by omega)).trans (by first | assumption | exact va_up_self _ _ _ | exact (va_up_ne _ _ (by omega)).trans (by first | assumption | exact va_up_self _ _ _)))))))))))) rfl ?_
  refine xs_mabs dT_isEquivalentBySizes_12 ljT_37 (Nat.le_of_ble_eq_true rfl) ⟨by decide, by decide⟩ ⟨by omega, by omega⟩ ?_
  refine xs_lstore (L2 := [(5, _), (3, _), (0, _), (1, _), (2, _)]) dT_isEquivalentBySizes_15 (by decide) rfl ?_
  refine xs_aload_n dT_isEquivalentBySizes_17 rfl ?_
  refine xs_get dT_isEquivalentBySizes_18 flT_16 (by first | assumption | exact va_up_self _ _ _ | exact (va_up_ne _ _ (by omega)).trans (by first | assumption | exact va_up_self _ _ _ | exact (va_up_ne _ _ (by omega)).trans (by first | assumption | exact va_up_self _ _ _ | exact (va_up_ne _ _ (by omega)).trans (by first | assumption | exact va_up_self _ _ _ | exact (va_up_ne _ _ (by omega)).trans (by first | assumption | exact va_up_self _ _ _ | exact (va_up_ne _ _ (by omega)).trans (by first | assumption | exact va_up_self _ _ _ | exact (va_up_ne _ _ (by omega)).trans (by first | assumption | exact va_up_self _ _ _ | exact (va_up_ne _ _ (by omega)).trans (by first | assumption | exact va_up_self _ _ _ | exact (va_up_ne _ _ (by omega)).trans (by first | assumption | exact va_up_self _ _ _ | exact (va_up_ne _ _ (by omega)).trans (by first | assumption | exact va_up_self _ _ _ | exact (va_up_ne _ _ (by omega)).trans (by first | assumption | exact va_up_self _ _ _ | exact (va_up_ne _ _ (by omega)).trans (by first | assumption | exact va_up_self _ _ _)))))))))))) rfl ?_
  refine xs_mabs dT_isEquivalentBySizes_21 ljT_37 (Nat.le_of_ble_eq_true rfl) ⟨by decide, by decide⟩ ⟨by omega, by omega⟩ ?_
  refine xs_lstore (L2 := [(7, _), (5, _), (3, _), (0, _), (1, _), (2, _)]) dT_isEquivalentBySizes_24 (by decide) rfl ?_
  refine xs_aload_n dT_isEquivalentBySizes_26 rfl ?_
  refine xs_get dT_isEquivalentBySizes_27 flT_7 (by first | assumption | exact va_up_self _ _ _ | exact (va_up_ne _ _ (by omega)).trans (by first | assumption | exact va_up_self _ _ _ | exact (va_up_ne _ _ (by omega)).trans (by first | assumption | exact va_up_self _ _ _ | exact (va_up_ne _ _ (by omega)).trans (by first | assumption | exact va_up_self _ _ _ | exact (va_up_ne _ _ (by omega)).trans (by first | assumption | exact va_up_self _ _ _ | exact (va_up_ne _ _ (by omega)).trans (by first | assumption | exact va_up_self _ _ _ | exact (va_up_ne _ _ (by omega)).trans (by first | assumption | exact va_up_self _ _ _ | exact (va_up_ne _ _ (by omega)).trans (by first | assumption | exact va_up_self _ _ _ | exact (va_up_ne _ _ (by omega)).trans (by first | assumption | exact va_up_self _ _ _ | exact (va_up_ne _ _ (by omega)).trans (by first | assumption | exact va_up_self _ _ _ | exact (va_up_ne _ _ (by omega)).trans (by first | assumption | exact va_up_self _ _ _ | exact (va_up_ne _ _ (by omega)).trans (by first | assumption | exact va_up_self _ _ _)))))))))))) rfl ?_
  refine xs_mabs dT_isEquivalentBySizes_30 ljT_37 (Nat.le_of_ble_eq_true rfl) ⟨by decide, by decide⟩ ⟨by omega, by omega⟩ ?_
  refine xs_lstore (L2 := [(9, _), (7, _), (5, _), (3, _), (0, _), (1, _), (2, _)]) dT_isEquivalentBySizes_33 (by decide) rfl ?_
  refine xs_aload_n dT_isEquivalentBySizes_35 rfl ?_
  refine xs_get dT_isEquivalentBySizes_36 flT_13 (by first | assumption | exact va_up_self _ _ _ | exact (va_up_ne _ _ (by omega)).trans (by first | assumption | exact va_up_self _ _ _ | exact (va_up_ne _ _ (by omega)).trans (by first | assumption | exact va_up_self _ _ _ | exact (va_up_ne _ _ (by omega)).trans (by first | assumption | exact va_up_self _ _ _ | exact (va_up_ne _ _ (by omega)).trans (by first | assumption | exact va_up_self _ _ _ | exact (va_up_ne _ _ (by omega)).trans (by first | assumption | exact va_up_self _ _ _ | exact (va_up_ne _ _ (by omega)).trans (by first | assumption | exact va_up_self _ _ _ | exact (va_up_ne _ _ (by omega)).trans (by first | assumption | exact va_up_self _ _ _ | exact (va_up_ne _ _ (by omega)).trans (by first | assumption | exact va_up_self _ _ _ | exact (va_up_ne _ _ (by omega)).trans (by first | assumption | exact va_up_self _ _ _ | exact (va_up_ne _ _ (by omega)).trans (by first | assumption | exact va_up_self _ _ _ | exact (va_up_ne _ _ (by omega)).trans (by first | assumption | exact va_up_self _ _ _)))))))))))) rfl ?_
  refine xs_mabs dT_isEquivalentBySizes_39 ljT_37 (Nat.le_of_ble_eq_true rfl) ⟨by decide, by decide⟩ ⟨by omega, by omega⟩ ?_
  refine xs_lstore (L2 := [(11, _), (9, _), (7, _), (5, _), (3, _), (0, _), (1, _), (2, _)]) dT_isEquivalentBySizes_42 (by decide) rfl ?_
  refine xs_aload_n dT_isEquivalentBySizes_44 rfl ?_
  refine xs_get dT_isEquivalentBySizes_45 flT_16 (by first | assumption | exact va_up_self _ _ _ | exact (va_up_ne _ _ (by omega)).trans (by first | assumption | exact va_up_self _ _ _ | exact (va_up_ne _ _ (by omega)).trans (by first | assumption | exact va_up_self _ _ _ | exact (va_up_ne _ _ (by omega)).trans (by first | assumption | exact va_up_self _ _ _ | exact (va_up_ne _ _ (by omega)).trans (by first | assumption | exact va_up_self _ _ _ | exact (va_up_ne _ _ (by omega)).trans (by first | assumption | exact va_up_self _ _ _ | exact (va_up_ne _ _ (by omega)).trans (by first | assumption | exact va_up_self _ _ _ | exact (va_up_ne _ _ (by omega)).trans (by first | assumption | exact va_up_self _ _ _ | exact (va_up_ne _ _ (by omega)).trans (by first | assumption | exact va_up_self _ _ _ | exact (va_up_ne _ _ (by omega)).trans (by first | assumption | exact va_up_self _ _ _ | exact (va_up_ne _ _ (by omega)).trans (by first | assumption | exact va_up_self _ _ _ | exact (va_up_ne _ _ (by omega)).trans (by first | assumption | exact va_up_self _ _ _)))))))))))) rfl ?_
  refine xs_mabs dT_isEquivalentBySizes_48 ljT_37 (Nat.le_of_ble_eq_true rfl) ⟨by decide, by decide⟩ ⟨by omega, by omega⟩ ?_
  refine xs_lstore (L2 := [(13, _), (11, _), (9, _), (7, _), (5, _), (3, _), (0, _), (1, _), (2, _)]) dT_isEquivalentBySizes_51 (by decide) rfl ?_
  refine xs_iload_n dT_isEquivalentBySizes_53 rfl ?_
  refine xs_iconst (v := 2) dT_isEquivalentBySizes_54 (by decide) ?_
  rw [abL a1, abL a2, abL a3, abL b1, abL b2, abL b3]
  refine xs_icmp_ne dT_isEquivalentBySizes_55 (fun _ => ?_) (fun h => absurd h (by decide))
  refine xs_iload_n dT_isEquivalentBySizes_87 rfl ?_
  refine xs_iconst (v := 3) dT_isEquivalentBySizes_88 (by decide) ?_
  refine xs_icmp_ne dT_isEquivalentBySizes_89 (fun h => absurd rfl h) (fun _ => ?_)
  refine xs_lload dT_isEquivalentBySizes_92 rfl ?_
  refine xs_lload dT_isEquivalentBySizes_94 rfl ?_
  refine xs_lc_ne dT_isEquivalentBySizes_96 dT_isEquivalentBySizes_97 (fun h96 => ?_) (fun h96 => ?_)
  · refine xs_iconst (v := 0) dT_isEquivalentBySizes_134 (by decide) ?_
    exact xs_iret dT_isEquivalentBySizes_135 rfl rfl (by omega) (by omega) ⟨(by first | (rw [zEq_t]; simp only [zEqP]; grind) | (rw [zEq_f]; simp only [zEqP]; grind)), rfl, rfl⟩
  refine xs_lload_n dT_isEquivalentBySizes_100 rfl ?_
  refine xs_lload dT_isEquivalentBySizes_101 rfl ?_
  refine xs_lc_ne dT_isEquivalentBySizes_103 dT_isEquivalentBySizes_104 (fun h103 => ?_) (fun h103 => ?_)
  · refine xs_lload_n dT_isEquivalentBySizes_115 rfl ?_
    refine xs_lload dT_isEquivalentBySizes_116 rfl ?_
    refine xs_lc_ne dT_isEquivalentBySizes_118 dT_isEquivalentBySizes_119 (fun h118 => ?_) (fun h118 => ?_)
    · refine xs_iconst (v := 0) dT_isEquivalentBySizes_134 (by decide) ?_
      exact xs_iret dT_isEquivalentBySizes_135 rfl rfl (by omega) (by omega) ⟨(by first | (rw [zEq_t]; simp only [zEqP]; grind) | (rw [zEq_f]; simp only [zEqP]; grind)), rfl, rfl⟩
    refine xs_lload dT_isEquivalentBySizes_122 rfl ?_
    refine xs_lload dT_isEquivalentBySizes_124 rfl ?_
    refine xs_lc_ne dT_isEquivalentBySizes_126 dT_isEquivalentBySizes_127 (fun h126 => ?_) (fun h126 => ?_)
    · refine xs_iconst (v := 0) dT_isEquivalentBySizes_134 (by decide) ?_
      exact xs_iret dT_isEquivalentBySizes_135 rfl rfl (by omega) (by omega) ⟨(by first | (rw [zEq_t]; simp only [zEqP]; grind) | (rw [zEq_f]; simp only [zEqP]; grind)), rfl, rfl⟩
    refine xs_iconst (v := 1) dT_isEquivalentBySizes_130 (by decide) ?_
    refine xs_goto dT_isEquivalentBySizes_131 ?_
    exact xs_iret dT_isEquivalentBySizes_135 rfl rfl (by omega) (by omega) ⟨(by first | (rw [zEq_t]; simp only [zEqP]; grind) | (rw [zEq_f]; simp only [zEqP]; grind)), rfl, rfl⟩
  refine xs_lload dT_isEquivalentBySizes_107 rfl ?_
  refine xs_lload dT_isEquivalentBySizes_109 rfl ?_
  refine xs_lc_eq dT_isEquivalentBySizes_111 dT_isEquivalentBySizes_112 (fun h111 => ?_) (fun h111 => ?_)
  · refine xs_iconst (v := 1) dT_isEquivalentBySizes_130 (by decide) ?_
    refine xs_goto dT_isEquivalentBySizes_131 ?_
    exact xs_iret dT_isEquivalentBySizes_135 rfl rfl (by omega) (by omega) ⟨(by first | (rw [zEq_t]; simp only [zEqP]; grind) | (rw [zEq_f]; simp only [zEqP]; grind)), rfl, rfl⟩
  refine xs_lload_n dT_isEquivalentBySizes_115 rfl ?_
  refine xs_lload dT_isEquivalentBySizes_116 rfl ?_
  refine xs_lc_ne dT_isEquivalentBySizes_118 dT_isEquivalentBySizes_119 (fun h118 => ?_) (fun h118 => ?_)
  · refine xs_iconst (v := 0) dT_isEquivalentBySizes_134 (by decide) ?_
    exact xs_iret dT_isEquivalentBySizes_135 rfl rfl (by omega) (by omega) ⟨(by first | (rw [zEq_t]; simp only [zEqP]; grind) | (rw [zEq_f]; simp only [zEqP]; grind)), rfl, rfl⟩
  refine xs_lload dT_isEquivalentBySizes_122 rfl ?_
  refine xs_lload dT_isEquivalentBySizes_124 rfl ?_
  refine xs_lc_ne dT_isEquivalentBySizes_126 dT_isEquivalentBySizes_127 (fun h126 => ?_) (fun h126 => ?_)
  · refine xs_iconst (v := 0) dT_isEquivalentBySizes_134 (by decide) ?_
    exact xs_iret dT_isEquivalentBySizes_135 rfl rfl (by omega) (by omega) ⟨(by first | (rw [zEq_t]; simp only [zEqP]; grind) | (rw [zEq_f]; simp only [zEqP]; grind)), rfl, rfl⟩
  refine xs_iconst (v := 1) dT_isEquivalentBySizes_130 (by decide) ?_
  refine xs_goto dT_isEquivalentBySizes_131 ?_
  exact xs_iret dT_isEquivalentBySizes_135 rfl rfl (by omega) (by omega) ⟨(by first | (rw [zEq_t]; simp only [zEqP]; grind) | (rw [zEq_f]; simp only [zEqP]; grind)), rfl, rfl⟩
theorem eq4 {p q : P3} : zEqP 4 p q ↔ ((p.1.natAbs + p.2.1.natAbs + p.2.2.natAbs = q.1.natAbs + q.2.1.natAbs + q.2.2.natAbs ∧ dt p p = dt q q) ∧ p.1.natAbs * p.2.1.natAbs * p.2.2.natAbs = q.1.natAbs * q.2.1.natAbs * q.2.2.natAbs) := by
  obtain ⟨p1, p2, p3⟩ := p
  obtain ⟨q1, q2, q3⟩ := q
  have s : ∀ x : Int, x * x = (x.natAbs : Int) * (x.natAbs : Int) := fun x => by rw [← Int.natAbs_mul_self]; exact Int.natCast_mul _ _
  have hz : zEqP 4 (p1, p2, p3) (q1, q2, q3) = ((p1.natAbs = q1.natAbs ∧ (p2.natAbs = q2.natAbs ∧ p3.natAbs = q3.natAbs ∨ p2.natAbs = q3.natAbs ∧ p3.natAbs = q2.natAbs)) ∨
    (p1.natAbs = q2.natAbs ∧ (p2.natAbs = q1.natAbs ∧ p3.natAbs = q3.natAbs ∨ p2.natAbs = q3.natAbs ∧ p3.natAbs = q1.natAbs)) ∨
    (p1.natAbs = q3.natAbs ∧ (p2.natAbs = q1.natAbs ∧ p3.natAbs = q2.natAbs ∨ p2.natAbs = q2.natAbs ∧ p3.natAbs = q1.natAbs))) := rfl
  rw [hz]
  simp only [dt]
  rw [s p1, s p2, s p3, s q1, s q2, s q3]
  generalize p1.natAbs = a
  generalize p2.natAbs = b
  generalize p3.natAbs = c
  generalize q1.natAbs = x
  generalize q2.natAbs = y
  generalize q3.natAbs = z
  constructor
  · rintro (⟨rfl, ⟨rfl, rfl⟩ | ⟨rfl, rfl⟩⟩ | ⟨rfl, ⟨rfl, rfl⟩ | ⟨rfl, rfl⟩⟩ | ⟨rfl, ⟨rfl, rfl⟩ | ⟨rfl, rfl⟩⟩) <;> refine ⟨⟨by omega, by omega⟩, ?_⟩ <;> simp only [Nat.mul_comm, Nat.mul_left_comm, Nat.mul_assoc]
  · rintro ⟨⟨h1, h2⟩, h3⟩
    have h4 : (a : Int) * b * c = (x : Int) * y * z := by exact_mod_cast h3
    have := perm3 (x := a) (y := b) (z := c) (u := x) (v := y) (w := z) (by omega) h2 h4
    omega
