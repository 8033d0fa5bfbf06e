def s3 (a : P3) : Nat := a.1.natAbs + a.2.1.natAbs + a.2.2.natAbs
/-- which zone comes first: of k faces with the axis a, of l faces with the axis b -/
def befK (k : Nat) (a : P3) (l : Nat) (b : P3) : Prop := l < k ∨ (k = l ∧ (s3 a < s3 b ∨ (s3 a = s3 b ∧ (b.1 < a.1 ∨ (a.1 = b.1 ∧ (b.2.1 < a.2.1 ∨ (a.2.1 = b.2.1 ∧ b.2.2 < a.2.2)))))))
theorem befK_trans {k l m : Nat} {a b c : P3} (h1 : befK k a l b) (h2 : befK l b m c) : befK k a m c := by
  unfold befK at *
  omega
theorem befK_tot {k l : Nat} {a b : P3} (h : ¬ befK k a l b) (hab : a ≠ b) : befK l b k a := by
  obtain ⟨a1, a2, a3⟩ := a
  obtain ⟨b1, b2, b3⟩ := b
  unfold befK at *
  simp only [ne_eq, Prod.mk.injEq] at *
  omega
theorem befK_irr {k : Nat} {a : P3} : ¬ befK k a k a := by
  unfold befK
  omega
theorem abL2 {x : Int} (h : x.natAbs < 4000000) : ab (iL x) = lN x.natAbs := by
  unfold ab
  by_cases h0 : 0 < x
  · rw [if_pos (by rw [iL_0, iL_lt (by decide) (by omega)]; exact h0), iL_nat]
    congr 1
    omega
  · rw [if_neg (by rw [iL_0, iL_lt (by decide) (by omega)]; exact h0), iL_nat, iL_neg]
    congr 1
    omega
theorem sumL {a : P3} (h : bd 4000000 a) : ab (iL a.1) + ab (iL a.2.1) + ab (iL a.2.2) = iL (s3 a : Int) := by
  rw [abL2 h.1, abL2 h.2.1, abL2 h.2.2, lN_add, lN_add, iL_nat]
  rfl
theorem pc_le (m : Nat) : pc m ≤ 16 := by
  have hb : ∀ b : Bool, b.toNat ≤ 1 := fun b => by cases b <;> decide
  have : ∀ k, pcr m k ≤ k := fun k => by
    induction k with
    | zero => exact Nat.le_refl _
    | succ k ih2 => have := hb (m.testBit k); simp only [pcr]; omega
  exact this 16
theorem k_Z_comesBefore {n t u m1 m2 : Nat} {G : xG} {a b : P3} (hG : G t = xTp a) (hH : G u = xTp b) (ha : bd 4000000 a) (hb : bd 4000000 b) (h1 : m1 < 65536) (h2 : m2 < 65536) :
    xK mZ_comesBefore [.ref t, .int (nI m1), .ref u, .int (nI m2)] n G 0 0 (qIx n (fun r H => ((r = 0 → ¬ befK (pc m1) a (pc m2) b) ∧ (r ≠ 0 → befK (pc m1) a (pc m2) b)) ∧ H = G)) xNo := by
  have p1 := pc_le m1
  have p2 := pc_le m2
  obtain ⟨a1, a2, a3⟩ := id ha
  obtain ⟨b1, b2, b3⟩ := id hb
  have fin : ∀ (L : List (Nat × Value)) (r : Int32) (pc1 pc2 : Nat), (r = 0 → ¬ befK (pc m1) a (pc m2) b) → (r ≠ 0 → befK (pc m1) a (pc m2) b) → xD mZ_comesBefore pc1 pc2 1 .ireturn → (r = 0 ∨ r = 1) → xS mZ_comesBefore n 0 0 (qIx n (fun r H => ((r = 0 → ¬ befK (pc m1) a (pc m2) b) ∧ (r ≠ 0 → befK (pc m1) a (pc m2) b)) ∧ H = G)) xNo pc1 L [.int r] n G 0 0 := by
    intro L r pc1 pc2 q1 q2 d hr
    refine xs_iret d rfl ?_ (by omega) (by omega) ⟨_, rfl, rfl, ⟨q1, q2⟩, rfl⟩
    rcases hr with rfl | rfl <;> rfl
  have no : ∀ (L : List (Nat × Value)) (pc1 pc2 : Nat), ¬ befK (pc m1) a (pc m2) b → xD mZ_comesBefore pc1 pc2 1 .ireturn → xS mZ_comesBefore n 0 0 (qIx n (fun r H => ((r = 0 → ¬ befK (pc m1) a (pc m2) b) ∧ (r ≠ 0 → befK (pc m1) a (pc m2) b)) ∧ H = G)) xNo pc1 L [.int 0] n G 0 0 :=
    fun L pc1 pc2 q d => fin L 0 pc1 pc2 (fun _ => q) (fun h => absurd rfl h) d (Or.inl rfl)
  have yes : ∀ (L : List (Nat × Value)) (pc1 pc2 : Nat), befK (pc m1) a (pc m2) b → xD mZ_comesBefore pc1 pc2 1 .ireturn → xS mZ_comesBefore n 0 0 (qIx n (fun r H => ((r = 0 → ¬ befK (pc m1) a (pc m2) b) ∧ (r ≠ 0 → befK (pc m1) a (pc m2) b)) ∧ H = G)) xNo pc1 L [.int 1] n G 0 0 :=
    fun L pc1 pc2 q d => fin L 1 pc1 pc2 (fun h => absurd h (by decide)) (fun _ => q) d (Or.inr rfl)
  refine xK_of2 (L0 := [(0, _), (1, _), (2, _), (3, _)]) (by decide +kernel) rfl (Nat.le_of_ble_eq_true rfl) rfl ?_
  refine xs_iload_n dZ_comesBefore_0 rfl ?_
  refine xs_cS_i (As := [_]) dZ_comesBefore_1 lkZ_68 (k_I_bitCount h1) rfl rfl (Nat.le_of_ble_eq_true rfl) ⟨by decide, by decide⟩ ⟨by omega, by omega⟩ ?_
  refine xs_iload_n dZ_comesBefore_4 rfl ?_
  refine xs_cS_i (As := [_]) dZ_comesBefore_5 lkZ_68 (k_I_bitCount h2) rfl rfl (Nat.le_of_ble_eq_true rfl) ⟨by decide, by decide⟩ ⟨by omega, by omega⟩ ?_
  rw [iI_nat (pc m1), iI_nat (pc m2)]
  refine xs_isub dZ_comesBefore_8 ?_
  rw [iI_sub]
  refine xs_istore (L2 := [(4, _), (0, _), (1, _), (2, _), (3, _)]) dZ_comesBefore_9 (by decide) rfl ?_
  refine xs_iload dZ_comesBefore_11 rfl ?_
  have e0 := iI_eq (x := (pc m1 : Int) - (pc m2 : Int)) (y := 0) (by omega) (by decide)
  have e1 := iI_le (x := (pc m1 : Int) - (pc m2 : Int)) (y := 0) (by omega) (by decide)
  refine xs_if_eq dZ_comesBefore_13 (fun h => ?_) (fun h => ?_)
  rotate_left
  · have hk : pc m1 ≠ pc m2 := fun q => h (e0.mpr (by omega))
    refine xs_iload dZ_comesBefore_16 rfl ?_
    refine xs_if_le dZ_comesBefore_18 (fun h => ?_) (fun h => ?_)
    · have := e1.mp h
      refine xs_iconst (v := 0) dZ_comesBefore_25 (by decide) ?_
      exact no _ _ _ (by unfold befK; omega) dZ_comesBefore_26
    · have : pc m2 < pc m1 := Decidable.byContradiction fun q => h (e1.mpr (by omega))
      refine xs_iconst (v := 1) dZ_comesBefore_21 (by decide) ?_
      refine xs_goto dZ_comesBefore_22 ?_
      exact yes _ _ _ (by unfold befK; omega) dZ_comesBefore_26
  have hk : pc m1 = pc m2 := by have := e0.mp h; omega
  have hs1 : s3 a < 12000000 := by unfold s3; omega
  have hs2 : s3 b < 12000000 := by unfold s3; omega
  refine xs_aload_n dZ_comesBefore_27 rfl ?_
  refine xs_cV_l (As := []) dZ_comesBefore_28 lkZ_82 (by repeat (first | assumption | exact va_up_self _ _ _ | refine (va_up_ne _ _ (by omega)).trans ?_)) (k_T_sumOfSizes hG) rfl rfl (Nat.le_of_ble_eq_true rfl) ⟨by decide, by decide⟩ ⟨by omega, by omega⟩ ?_
  refine xs_aload_n dZ_comesBefore_31 rfl ?_
  refine xs_cV_l (As := []) dZ_comesBefore_32 lkZ_82 (by repeat (first | assumption | exact va_up_self _ _ _ | refine (va_up_ne _ _ (by omega)).trans ?_)) (k_T_sumOfSizes hH) rfl rfl (Nat.le_of_ble_eq_true rfl) ⟨by decide, by decide⟩ ⟨by omega, by omega⟩ ?_
  rw [sumL ha, sumL hb]
  refine xs_lsub dZ_comesBefore_35 ?_
  rw [iL_sub]
  refine xs_lstore (L2 := [(5, _), (4, _), (0, _), (1, _), (2, _), (3, _)]) dZ_comesBefore_36 (by decide) rfl ?_
  refine xs_lload dZ_comesBefore_38 rfl ?_
  refine xs_lconst (v := 0) dZ_comesBefore_40 (by decide) ?_
  have f0 := iL_eq (x := (s3 a : Int) - (s3 b : Int)) (y := 0) (by omega) (by decide)
  have f1 := iL_le (x := 0) (y := (s3 a : Int) - (s3 b : Int)) (by decide) (by omega)
  refine xs_lc_eq dZ_comesBefore_41 dZ_comesBefore_42 (fun h => ?_) (fun h => ?_)
  rotate_left
  · have hs : s3 a ≠ s3 b := fun q => h (f0.mpr (by omega))
    refine xs_lload dZ_comesBefore_45 rfl ?_
    refine xs_lconst (v := 0) dZ_comesBefore_47 (by decide) ?_
    refine xs_lc_ge dZ_comesBefore_48 dZ_comesBefore_49 (fun h => ?_) (fun h => ?_)
    · have := f1.mp h
      refine xs_iconst (v := 0) dZ_comesBefore_56 (by decide) ?_
      exact no _ _ _ (by unfold befK; omega) dZ_comesBefore_57
    · have : s3 a < s3 b := Decidable.byContradiction fun q => h (f1.mpr (by omega))
      refine xs_iconst (v := 1) dZ_comesBefore_52 (by decide) ?_
      refine xs_goto dZ_comesBefore_53 ?_
      exact yes _ _ _ (by unfold befK; omega) dZ_comesBefore_57
  have hs : s3 a = s3 b := by have := f0.mp h; omega
  have c1 := iL_eq (x := a.1) (y := b.1) (by omega) (by omega)
  have c2 := iL_eq (x := a.2.1) (y := b.2.1) (by omega) (by omega)
  have l1 := iL_le (x := a.1) (y := b.1) (by omega) (by omega)
  have l2 := iL_le (x := a.2.1) (y := b.2.1) (by omega) (by omega)
  have l3 := iL_le (x := a.2.2) (y := b.2.2) (by omega) (by omega)
  refine xs_aload_n dZ_comesBefore_58 rfl ?_
  refine xs_get dZ_comesBefore_59 flZ_86 (by repeat (first | assumption | exact va_up_self _ _ _ | refine (va_up_ne _ _ (by omega)).trans ?_)) rfl ?_
  refine xs_aload_n dZ_comesBefore_62 rfl ?_
  refine xs_get dZ_comesBefore_63 flZ_86 (by repeat (first | assumption | exact va_up_self _ _ _ | refine (va_up_ne _ _ (by omega)).trans ?_)) rfl ?_
  refine xs_lc_eq dZ_comesBefore_66 dZ_comesBefore_67 (fun h => ?_) (fun h => ?_)
  rotate_left
  · have hne : a.1 ≠ b.1 := fun q => h (c1.mpr q)
    refine xs_aload_n dZ_comesBefore_70 rfl ?_
    refine xs_get dZ_comesBefore_71 flZ_86 (by repeat (first | assumption | exact va_up_self _ _ _ | refine (va_up_ne _ _ (by omega)).trans ?_)) rfl ?_
    refine xs_aload_n dZ_comesBefore_74 rfl ?_
    refine xs_get dZ_comesBefore_75 flZ_86 (by repeat (first | assumption | exact va_up_self _ _ _ | refine (va_up_ne _ _ (by omega)).trans ?_)) rfl ?_
    refine xs_lc_le dZ_comesBefore_78 dZ_comesBefore_79 (fun h => ?_) (fun h => ?_)
    · have := l1.mp h
      refine xs_iconst (v := 0) dZ_comesBefore_86 (by decide) ?_
      exact no _ _ _ (by unfold befK; omega) dZ_comesBefore_87
    · have : ¬ a.1 ≤ b.1 := fun q => h (l1.mpr q)
      refine xs_iconst (v := 1) dZ_comesBefore_82 (by decide) ?_
      refine xs_goto dZ_comesBefore_83 ?_
      exact yes _ _ _ (by unfold befK; omega) dZ_comesBefore_87
  have hx1 := c1.mp h
  refine xs_aload_n dZ_comesBefore_88 rfl ?_
  refine xs_get dZ_comesBefore_89 flZ_90 (by repeat (first | assumption | exact va_up_self _ _ _ | refine (va_up_ne _ _ (by omega)).trans ?_)) rfl ?_
  refine xs_aload_n dZ_comesBefore_92 rfl ?_
  refine xs_get dZ_comesBefore_93 flZ_90 (by repeat (first | assumption | exact va_up_self _ _ _ | refine (va_up_ne _ _ (by omega)).trans ?_)) rfl ?_
  refine xs_lc_eq dZ_comesBefore_96 dZ_comesBefore_97 (fun h => ?_) (fun h => ?_)
  rotate_left
  · have hne : a.2.1 ≠ b.2.1 := fun q => h (c2.mpr q)
    refine xs_aload_n dZ_comesBefore_100 rfl ?_
    refine xs_get dZ_comesBefore_101 flZ_90 (by repeat (first | assumption | exact va_up_self _ _ _ | refine (va_up_ne _ _ (by omega)).trans ?_)) rfl ?_
    refine xs_aload_n dZ_comesBefore_104 rfl ?_
    refine xs_get dZ_comesBefore_105 flZ_90 (by repeat (first | assumption | exact va_up_self _ _ _ | refine (va_up_ne _ _ (by omega)).trans ?_)) rfl ?_
    refine xs_lc_le dZ_comesBefore_108 dZ_comesBefore_109 (fun h => ?_) (fun h => ?_)
    · have := l2.mp h
      refine xs_iconst (v := 0) dZ_comesBefore_116 (by decide) ?_
      refine xs_goto dZ_comesBefore_117 ?_
      exact no _ _ _ (by unfold befK; omega) dZ_comesBefore_137
    · have : ¬ a.2.1 ≤ b.2.1 := fun q => h (l2.mpr q)
      refine xs_iconst (v := 1) dZ_comesBefore_112 (by decide) ?_
      refine xs_goto dZ_comesBefore_113 ?_
      exact yes _ _ _ (by unfold befK; omega) dZ_comesBefore_137
  have hx2 := c2.mp h
  refine xs_aload_n dZ_comesBefore_120 rfl ?_
  refine xs_get dZ_comesBefore_121 flZ_93 (by repeat (first | assumption | exact va_up_self _ _ _ | refine (va_up_ne _ _ (by omega)).trans ?_)) rfl ?_
  refine xs_aload_n dZ_comesBefore_124 rfl ?_
  refine xs_get dZ_comesBefore_125 flZ_93 (by repeat (first | assumption | exact va_up_self _ _ _ | refine (va_up_ne _ _ (by omega)).trans ?_)) rfl ?_
  refine xs_lc_le dZ_comesBefore_128 dZ_comesBefore_129 (fun h => ?_) (fun h => ?_)
  · have := l3.mp h
    refine xs_iconst (v := 0) dZ_comesBefore_136 (by decide) ?_
    exact no _ _ _ (by unfold befK; omega) dZ_comesBefore_137
  · have : ¬ a.2.2 ≤ b.2.2 := fun q => h (l3.mpr q)
    refine xs_iconst (v := 1) dZ_comesBefore_132 (by decide) ?_
    refine xs_goto dZ_comesBefore_133 ?_
    exact yes _ _ _ (by unfold befK; omega) dZ_comesBefore_137
