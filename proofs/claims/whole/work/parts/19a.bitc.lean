theorem k_I_bitCount {n m : Nat} {G : xG} (hm : m < 65536) : xK mI_bitCount [.int (nI m)] n G 0 0 (qI n G (nI (pc m))) xNo := by
  have us : ∀ (a k : Nat) (s : Int32), a < 2 ^ 32 → ((s.toUInt32 &&& Int32.toUInt32 31).toBitVec % 32).toNat = k → ((nI a).toUInt32 >>> (s.toUInt32 &&& Int32.toUInt32 31)).toInt32 = nI (a / 2 ^ k) := fun a k s ha hs => pk_ushrN ha s k hs
  have l1 : (m / 2 ^ 1) &&& 1431655765 ≤ m := Nat.le_trans Nat.and_le_left (Nat.div_le_self _ _)
  obtain ⟨s1, hs1⟩ : ∃ s1, s1 = m - ((m / 2 ^ 1) &&& 1431655765) := ⟨_, rfl⟩
  have b1 : s1 < 65536 := by omega
  obtain ⟨s2, hs2⟩ : ∃ s2, s2 = (s1 &&& 858993459) + ((s1 / 2 ^ 2) &&& 858993459) := ⟨_, rfl⟩
  have b2 : s2 < 131072 := by
    have q1 : s1 &&& 858993459 ≤ s1 := Nat.and_le_left
    have q2 : (s1 / 2 ^ 2) &&& 858993459 ≤ s1 := Nat.le_trans Nat.and_le_left (Nat.div_le_self _ _)
    omega
  obtain ⟨s3, hs3⟩ : ∃ s3, s3 = (s2 + s2 / 2 ^ 4) &&& 252645135 := ⟨_, rfl⟩
  have b3 : s3 < 262144 := by
    have q1 : (s2 + s2 / 2 ^ 4) &&& 252645135 ≤ s2 + s2 / 2 ^ 4 := Nat.and_le_left
    have q2 : s2 / 2 ^ 4 ≤ s2 := Nat.div_le_self _ _
    omega
  obtain ⟨s4, hs4⟩ : ∃ s4, s4 = s3 + s3 / 2 ^ 8 := ⟨_, rfl⟩
  have b4 : s4 < 524288 := by
    have q2 : s3 / 2 ^ 8 ≤ s3 := Nat.div_le_self _ _
    omega
  have hr : (s4 + s4 / 2 ^ 16) &&& 63 = pc m := by
    rw [← bc_pc hm, hs4, hs3, hs2, hs1]
    rfl
  refine xK_of2 (L0 := [(0, _)]) (by decide +kernel) rfl (Nat.le_of_ble_eq_true rfl) rfl ?_
  refine xs_iload_n dI_bitCount_0 rfl ?_
  refine xs_iload_n dI_bitCount_1 rfl ?_
  refine xs_iconst (v := 1) dI_bitCount_2 (by decide) ?_
  refine xs_iushr dI_bitCount_3 ?_
  refine xs_ldcw dI_bitCount_4 kcI_265 ?_
  refine xs_iand dI_bitCount_7 ?_
  refine xs_isub dI_bitCount_8 ?_
  rw [us m 1 1 (by omega) (by decide), show (1431655765 : Int32) = nI 1431655765 from rfl, nI_and, pk_sub l1, ← hs1]
  refine xs_istore_n (L2 := [(0, _)]) dI_bitCount_9 (by decide) rfl ?_
  refine xs_iload_n dI_bitCount_10 rfl ?_
  refine xs_ldcw dI_bitCount_11 kcI_266 ?_
  refine xs_iand dI_bitCount_14 ?_
  refine xs_iload_n dI_bitCount_15 rfl ?_
  refine xs_iconst (v := 2) dI_bitCount_16 (by decide) ?_
  refine xs_iushr dI_bitCount_17 ?_
  refine xs_ldcw dI_bitCount_18 kcI_266 ?_
  refine xs_iand dI_bitCount_21 ?_
  refine xs_iadd dI_bitCount_22 ?_
  rw [us s1 2 2 (by omega) (by decide), show (858993459 : Int32) = nI 858993459 from rfl, nI_and, nI_and, nI_add, ← hs2]
  refine xs_istore_n (L2 := [(0, _)]) dI_bitCount_23 (by decide) rfl ?_
  refine xs_iload_n dI_bitCount_24 rfl ?_
  refine xs_iload_n dI_bitCount_25 rfl ?_
  refine xs_iconst (v := 4) dI_bitCount_26 (by decide) ?_
  refine xs_iushr dI_bitCount_27 ?_
  refine xs_iadd dI_bitCount_28 ?_
  refine xs_ldcw dI_bitCount_29 kcI_267 ?_
  refine xs_iand dI_bitCount_32 ?_
  rw [us s2 4 4 (by omega) (by decide), show (252645135 : Int32) = nI 252645135 from rfl, nI_add, nI_and, ← hs3]
  refine xs_istore_n (L2 := [(0, _)]) dI_bitCount_33 (by decide) rfl ?_
  refine xs_iload_n dI_bitCount_34 rfl ?_
  refine xs_iload_n dI_bitCount_35 rfl ?_
  refine xs_bipush (v := 8) dI_bitCount_36 (by decide) ?_
  refine xs_iushr dI_bitCount_38 ?_
  refine xs_iadd dI_bitCount_39 ?_
  rw [us s3 8 8 (by omega) (by decide), nI_add, ← hs4]
  refine xs_istore_n (L2 := [(0, _)]) dI_bitCount_40 (by decide) rfl ?_
  refine xs_iload_n dI_bitCount_41 rfl ?_
  refine xs_iload_n dI_bitCount_42 rfl ?_
  refine xs_bipush (v := 16) dI_bitCount_43 (by decide) ?_
  refine xs_iushr dI_bitCount_45 ?_
  refine xs_iadd dI_bitCount_46 ?_
  refine xs_istore_n (L2 := [(0, _)]) dI_bitCount_47 (by decide) rfl ?_
  refine xs_iload_n dI_bitCount_48 rfl ?_
  refine xs_bipush (v := 63) dI_bitCount_49 (by decide) ?_
  refine xs_iand dI_bitCount_51 ?_
  rw [us s4 16 16 (by omega) (by decide), show (63 : Int32) = nI 63 from rfl, nI_add, nI_and, hr]
  exact xs_iret dI_bitCount_52 rfl rfl (by omega) (by omega) ⟨rfl, rfl, rfl⟩
