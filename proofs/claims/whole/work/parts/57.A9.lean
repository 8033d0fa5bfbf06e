theorem nI_div {a b : Nat} (ha : a < 2 ^ 31) (hb0 : 0 < b) (hb : b < 2 ^ 31) : nI a / nI b = nI (a / b) := by
  have h : Int32.minValue.toInt = -2147483648 := by decide
  have h2 : Int32.maxValue.toInt = 2147483647 := by decide
  rw [iI_nat, iI_nat, iI_nat]
  have e := (Int32.ofInt_tdiv (a := (a : Int)) (b := (b : Int)) (by rw [h]; omega) (by rw [h2]; omega) (by rw [h]; omega) (by rw [h2]; omega)).symm
  rw [Int.tdiv_eq_ediv_of_nonneg (by omega), ← Int.natCast_ediv] at e
  exact e
theorem nI_rem {a b : Nat} (ha : a < 2 ^ 31) (hb0 : 0 < b) (hb : b < 2 ^ 31) : nI a - nI a / nI b * nI b = nI (a % b) := by
  rw [nI_div ha hb0 hb, iI_nat, iI_nat, iI_nat, iI_nat, iI_mul, iI_sub]
  congr 1
  have := Nat.div_add_mod a b
  have h2 : ((a / b : Nat) : Int) * (b : Int) = ((b * (a / b) : Nat) : Int) := by rw [Int.natCast_mul, Int.mul_comm]
  rw [h2]
  omega
theorem nI_ne {b : Nat} (hb0 : 0 < b) (hb : b < 2 ^ 31) : ¬ nI b = 0 := fun e => by
  have := (nI_eq (b := 0) hb (by decide)).mp e
  omega
theorem nI_m3 (k : Nat) : nI k - 3 = iI ((k : Int) - 3) := by
  rw [iI_nat, show (3 : Int32) = iI 3 from rfl, iI_sub]
theorem lu33 (x : Int64) : ((x.toUInt64 >>> ((33 : Int32).toInt64.toUInt64 &&& Int64.toUInt64 63)).toInt64).toInt32 = nI (rnd x) ∧ rnd x < 2 ^ 31 := by
  show _ = nI (x.toUInt64 >>> 33).toNat ∧ (x.toUInt64 >>> 33).toNat < 2 ^ 31
  have e : (33 : Int32).toInt64.toUInt64 &&& Int64.toUInt64 63 = (33 : UInt64) := by decide
  rw [e]
  constructor
  · have e2 : (x.toUInt64 >>> 33).toInt64 = lN (x.toUInt64 >>> 33).toNat := by
      have := UInt64.toInt64_ofNat' (n := (x.toUInt64 >>> 33).toNat)
      rw [UInt64.ofNat_toNat] at this
      exact this
    rw [e2, lN_i]
  · rw [UInt64.toNat_shiftRight]
    have h1 := (x.toUInt64).toNat_lt
    have h2 : (33 : UInt64).toNat % 64 = 33 := by decide
    rw [h2, Nat.shiftRight_eq_div_pow]
    omega
section A9
variable {n a : Nat} {G : xG} {S : zS} {T : List Nat} {V Vt : zV} {A : List zV} {O : Option zV × Option zV} {lis : Bool}
theorem fzx_reset {H : xG} {Vw : zV} {A2 : List zV} (h : fzx G a T V Vt A O lis) (hc : H a = fzc a false) (hp : cry H (a + 4) Vw) (hh : his H (a + 18) A2) (hf : ∀ k, k ≠ a → (k < a + 4 ∨ a + 11 ≤ k) → (k < a + 18 ∨ a + 118 ≤ k) → H k = G k) : fzx H a T Vw Vt A2 O false := by
  obtain ⟨h0, h1, h2, h3, h4, h5, h6, h7, h8, h9, h10, h11, h12, h13⟩ := h
  refine ⟨hc, ?_, hp, cry_fr h3 (fun k _ _ => hf k (by omega) (by omega) (by omega)), hh, ?_, ?_, ?_, ?_, ?_, ?_, ?_, zsv_fr h12 (fun k _ _ => hf k (by omega) (by omega) (by omega)), zsv_fr h13 (fun k _ _ => hf k (by omega) (by omega) (by omega))⟩
  · obtain ⟨p, told, ix, q⟩ := h1
    exact ⟨p, told, ix, txt_fr q (fun k _ _ => hf k (by omega) (by omega) (by omega))⟩
  · obtain ⟨fs, q, q2⟩ := h5
    exact ⟨fs, by rw [hf _ (by omega) (by omega) (by omega)]; exact q, q2⟩
  · obtain ⟨bs, q, q2⟩ := h6
    exact ⟨bs, by rw [hf _ (by omega) (by omega) (by omega)]; exact q, q2⟩
  · obtain ⟨_, fd, fa, pa, ms, cv, fcs, cnt, q⟩ := h7
    exact ⟨(fun e => by cases e), fd, fa, pa, ms, cv, fcs, cnt, zlo_fr q (fun k _ _ => hf k (by omega) (by omega) (by omega))⟩
  · obtain ⟨fd, fa, pa, ms, cv, fcs, cnt, q⟩ := h8
    exact ⟨fd, fa, pa, ms, cv, fcs, cnt, zlo_fr q (fun k _ _ => hf k (by omega) (by omega) (by omega))⟩
  · obtain ⟨N, F, b, c, q⟩ := h9
    exact ⟨N, F, b, c, zfo_fr q (fun k _ _ => hf k (by omega) (by omega) (by omega))⟩
  · obtain ⟨I, q⟩ := h10
    exact ⟨I, gro_fr q (fun k _ _ => hf k (by omega) (by omega) (by omega))⟩
  · obtain ⟨x, y, z, q⟩ := h11
    exact ⟨x, y, z, by rw [hf _ (by omega) (by omega) (by omega)]; exact q⟩
theorem k_A_undo (hx : fzo G a S) : xK mA_undo [.ref a] n G 1 6 (aPost n a G (rUndo S)) (aExc n a G (rUndo S) eS eS) := by
  have hS := hx
  obtain ⟨Vt, lis, hx⟩ := hx
  obtain ⟨hc, htx, hpr, htr, hhi, hsa, hiv, hzp, hzt, hfm, hgr, hsc, hs0, hs1⟩ := id hx
  obtain ⟨nx, hhc⟩ := his_cell hhi
  refine xK_of2 (L0 := [(0, _)]) (by decide +kernel) rfl (Nat.le_of_ble_eq_true rfl) rfl ?_
  refine xs_aload_n dA_undo_0 rfl ?_
  refine xs_get dA_undo_1 flA_29 (by repeat (first | exact va_up_self _ _ _ | assumption | refine (va_up_ne _ _ (by omega)).trans ?_)) rfl ?_
  refine xs_get dA_undo_4 flA_285 (by repeat (first | exact va_up_self _ _ _ | assumption | refine (va_up_ne _ _ (by omega)).trans ?_)) rfl ?_
  cases hA : S.2.2.1 with
  | nil =>
    refine xs_if_ne dA_undo_7 (fun q => absurd rfl q) (fun _ => ?_)
    exact xs_throwW rfl rfl xtS (List.mem_of_getElem? (i := 14) rfl) dA_undo_10 dA_undo_13 dA_undo_14 dA_undo_17 dA_undo_20 (Nat.le_of_ble_eq_true rfl) ⟨by decide, by decide⟩ (by omega) (by omega) (aX1 (by rw [rUndo, hA]) hS xfr_rf)
  | cons W l =>
    have hN : (W :: l).length ≤ 14 := by
      obtain ⟨_, _, _, _, _, _, _, _, h5, _⟩ := hhi
      rw [← hA]
      exact h5
    rw [hA] at hhi
    have hR : rUndo S = (0, (l.length : Int), (S.1, W, l, S.2.2.2)) := by rw [rUndo, hA]
    rw [hR]
    refine xs_if_ne dA_undo_7 (fun _ => ?_) (fun q => absurd q (nI_ne (by rw [List.length_cons]; omega) (by omega)))
    refine xs_aload_n dA_undo_21 rfl ?_
    refine xs_get dA_undo_22 flA_29 (by repeat (first | exact va_up_self _ _ _ | assumption | refine (va_up_ne _ _ (by omega)).trans ?_)) rfl ?_
    refine xs_aload_n dA_undo_25 rfl ?_
    refine xs_get dA_undo_26 flA_19 (by repeat (first | exact va_up_self _ _ _ | assumption | refine (va_up_ne _ _ (by omega)).trans ?_)) rfl ?_
    refine xs_cV_vx (As := [_]) dA_undo_29 lkA_288 (by repeat (first | exact va_up_self _ _ _ | assumption | refine (va_up_ne _ _ (by omega)).trans ?_)) (k_H_popInto hhi hpr (by omega)) rfl rfl (Nat.le_of_ble_eq_true rfl) ⟨by decide, by decide⟩ ⟨by omega, by omega⟩ ?_
    intro H ⟨h1, h2, h3⟩
    have hcH : H a = fzc a lis := by rw [h3 _ (by omega) (by omega)]; exact hc
    obtain ⟨nx2, hhc2⟩ := his_cell h1
    refine xs_aload_n dA_undo_32 rfl ?_
    refine xs_iconst (v := 0) dA_undo_33 (by decide) ?_
    refine xs_put dA_undo_34 flA_72 ft7_11 (by repeat (first | exact va_up_self _ _ _ | assumption | refine (va_up_ne _ _ (by omega)).trans ?_)) (fun _ => rfl) (fun _ => rfl) (by simp) ?_
    refine xs_aload_n dA_undo_37 rfl ?_
    refine xs_get dA_undo_38 flA_29 (by repeat (first | exact va_up_self _ _ _ | assumption | refine (va_up_ne _ _ (by omega)).trans ?_)) rfl ?_
    refine xs_get dA_undo_41 flA_285 (by repeat (first | exact va_up_self _ _ _ | assumption | refine (va_up_ne _ _ (by omega)).trans ?_)) rfl ?_
    exact xs_iret dA_undo_44 rfl rfl (by omega) (by omega) (aOk rfl (iI_nat _) ⟨_, _, fzx_reset hx (va_up_self _ _ _) (cry_fr h2 (fun k _ _ => va_up_ne _ _ (by omega))) (his_fr h1 (fun k _ _ => va_up_ne _ _ (by omega))) (fun k q1 q2 q3 => (va_up_ne _ _ q1).trans (h3 k (by omega) (by omega)))⟩ (xfr_up (fun k hk => h3 k (by omega) (by omega)) (by omega) (by omega)))
theorem k_A_save {x : Int32} (hx : fzo G a S) : xK mA_save [.ref a, .int x] n G 1 6 (aPost n a G (rSave S x.toInt)) (aExc n a G (rSave S x.toInt) eX eX) := by
  have hS := hx
  obtain ⟨Vt, lis, hx⟩ := hx
  obtain ⟨hc, htx, hpr, htr, hhi, hsa, hiv, hzp, hzt, hfm, hgr, hsc, hs0, hs1⟩ := id hx
  have hpc := cry_cell hpr
  obtain ⟨fs, hsa, hfs0, hfs1⟩ := hsa
  obtain ⟨bs, hbs, hb0, hb1⟩ := hiv
  obtain ⟨W0, hW0, hW0e⟩ := id hs0
  obtain ⟨W1, hW1, hW1e⟩ := id hs1
  have hc0 := cry_cell hW0
  have hc1 := cry_cell hW1
  have hnar : vp_nar .boolean 1 = 1 := by decide
  refine xK_of2 (L0 := [(0, _), (1, _)]) (by decide +kernel) rfl (Nat.le_of_ble_eq_true rfl) rfl ?_
  by_cases hr : x.toInt = 0 ∨ x.toInt = 1
  case neg =>
    refine xs_iload_n dA_save_0 rfl ?_
    exact xs_cS_t (As := [_]) dA_save_1 lkA_325 (k_A_rSx hr) rfl rfl (Nat.le_of_ble_eq_true rfl) ⟨by decide, by decide⟩ rfl ⟨by omega, by omega⟩ (aX1 (by rw [rSave, if_neg (fun q => hr (Or.inl q)), if_neg (fun q => hr (Or.inr q))]) hS xfr_rf)
  refine xs_iload_n dA_save_0 rfl ?_
  refine xs_cS_v (As := [_]) dA_save_1 lkA_325 (k_A_rS hr) rfl rfl (Nat.le_of_ble_eq_true rfl) ⟨by decide, by decide⟩ ⟨by omega, by omega⟩ ?_
  rcases hr with h0 | h1
  · have hR : rSave S x.toInt = (0, (S.2.1.1.length : Int), (S.1, S.2.1, S.2.2.1, (some S.2.1, S.2.2.2.2))) := by rw [rSave, if_pos h0]
    rw [hR]
    have ex : x = 0 := by rw [← iT x, h0]; rfl
    subst ex
    have hin : vp_in (0 : Int32) 2 := vp_in_nI (n := 0) (N := 2) (by decide) (by decide)
    have hin2 : fs (0 : Int32).toNatClampNeg = some (a + 514) := hfs0
    refine xs_aload_n dA_save_4 rfl ?_
    refine xs_get dA_save_5 flA_33 (by repeat (first | exact va_up_self _ _ _ | assumption | refine (va_up_ne _ _ (by omega)).trans ?_)) rfl ?_
    refine xs_iload_n dA_save_8 rfl ?_
    refine xs_ald4 dA_save_9 (by repeat (first | exact va_up_self _ _ _ | assumption | refine (va_up_ne _ _ (by omega)).trans ?_)) (by assumption) (by assumption) ?_
    refine xs_aload_n dA_save_10 rfl ?_
    refine xs_get dA_save_11 flA_19 (by repeat (first | exact va_up_self _ _ _ | assumption | refine (va_up_ne _ _ (by omega)).trans ?_)) rfl ?_
    refine xs_cV_vx (As := [_]) dA_save_14 lkA_291 (by repeat (first | exact va_up_self _ _ _ | assumption | refine (va_up_ne _ _ (by omega)).trans ?_)) (k_C_copyFrom hW0 hpr (by omega)) rfl rfl (Nat.le_of_ble_eq_true rfl) ⟨by decide, by decide⟩ ⟨by omega, by omega⟩ ?_
    intro H ⟨q1, q2⟩
    have hcH : H a = fzc a lis := by rw [q2 _ (by omega)]; exact hc
    have hbH : H (a + 119) = .inl (2, 2, .inl bs) := by rw [q2 _ (by omega)]; exact hbs
    have hpH : cry H (a + 4) S.2.1 := cry_fr hpr (fun k _ _ => q2 k (by omega))
    have hpcH := cry_cell hpH
    refine xs_aload_n dA_save_17 rfl ?_
    refine xs_get dA_save_18 flA_37 (by repeat (first | exact va_up_self _ _ _ | assumption | refine (va_up_ne _ _ (by omega)).trans ?_)) rfl ?_
    refine xs_iload_n dA_save_21 rfl ?_
    refine xs_iconst (v := 1) dA_save_22 (by decide) ?_
    refine xs_zast dA_save_23 (by repeat (first | exact va_up_self _ _ _ | assumption | refine (va_up_ne _ _ (by omega)).trans ?_)) (by assumption) ?_
    refine xs_aload_n dA_save_24 rfl ?_
    refine xs_get dA_save_25 flA_19 (by repeat (first | exact va_up_self _ _ _ | assumption | refine (va_up_ne _ _ (by omega)).trans ?_)) rfl ?_
    refine xs_get dA_save_28 flA_106 (by repeat (first | exact va_up_self _ _ _ | assumption | refine (va_up_ne _ _ (by omega)).trans ?_)) rfl ?_
    rw [hnar]
    exact xs_iret dA_save_31 rfl rfl (by omega) (by omega) (aOk rfl (iI_nat _) ⟨_, _, fzx_isv hx (fun k e1 e2 => (va_up_ne _ _ e1).trans (q2 k (by omega))) ⟨_, va_up_self _ _ _, rfl, by
      rw [← hb1]
      rfl⟩ ⟨_, cry_fr q1 (fun k _ _ => va_up_ne _ _ (by omega)), fun V hV => by cases hV; rfl⟩ (zsv_fr hs1 (fun k _ _ => (va_up_ne _ _ (by omega)).trans (q2 k (by omega))))⟩ (xfr_up (xfr_mono q2 (by omega) (by omega)) (by omega) (by omega)))
  · have hR : rSave S x.toInt = (0, (S.2.1.1.length : Int), (S.1, S.2.1, S.2.2.1, (S.2.2.2.1, some S.2.1))) := by rw [rSave, if_neg (by omega), if_pos h1]
    rw [hR]
    have ex : x = 1 := by rw [← iT x, h1]; rfl
    subst ex
    have hin : vp_in (1 : Int32) 2 := vp_in_nI (n := 1) (N := 2) (by decide) (by decide)
    have hin2 : fs (1 : Int32).toNatClampNeg = some (a + 521) := hfs1
    refine xs_aload_n dA_save_4 rfl ?_
    refine xs_get dA_save_5 flA_33 (by repeat (first | exact va_up_self _ _ _ | assumption | refine (va_up_ne _ _ (by omega)).trans ?_)) rfl ?_
    refine xs_iload_n dA_save_8 rfl ?_
    refine xs_ald4 dA_save_9 (by repeat (first | exact va_up_self _ _ _ | assumption | refine (va_up_ne _ _ (by omega)).trans ?_)) (by assumption) (by assumption) ?_
    refine xs_aload_n dA_save_10 rfl ?_
    refine xs_get dA_save_11 flA_19 (by repeat (first | exact va_up_self _ _ _ | assumption | refine (va_up_ne _ _ (by omega)).trans ?_)) rfl ?_
    refine xs_cV_vx (As := [_]) dA_save_14 lkA_291 (by repeat (first | exact va_up_self _ _ _ | assumption | refine (va_up_ne _ _ (by omega)).trans ?_)) (k_C_copyFrom hW1 hpr (by omega)) rfl rfl (Nat.le_of_ble_eq_true rfl) ⟨by decide, by decide⟩ ⟨by omega, by omega⟩ ?_
    intro H ⟨q1, q2⟩
    have hcH : H a = fzc a lis := by rw [q2 _ (by omega)]; exact hc
    have hbH : H (a + 119) = .inl (2, 2, .inl bs) := by rw [q2 _ (by omega)]; exact hbs
    have hpH : cry H (a + 4) S.2.1 := cry_fr hpr (fun k _ _ => q2 k (by omega))
    have hpcH := cry_cell hpH
    refine xs_aload_n dA_save_17 rfl ?_
    refine xs_get dA_save_18 flA_37 (by repeat (first | exact va_up_self _ _ _ | assumption | refine (va_up_ne _ _ (by omega)).trans ?_)) rfl ?_
    refine xs_iload_n dA_save_21 rfl ?_
    refine xs_iconst (v := 1) dA_save_22 (by decide) ?_
    refine xs_zast dA_save_23 (by repeat (first | exact va_up_self _ _ _ | assumption | refine (va_up_ne _ _ (by omega)).trans ?_)) (by assumption) ?_
    refine xs_aload_n dA_save_24 rfl ?_
    refine xs_get dA_save_25 flA_19 (by repeat (first | exact va_up_self _ _ _ | assumption | refine (va_up_ne _ _ (by omega)).trans ?_)) rfl ?_
    refine xs_get dA_save_28 flA_106 (by repeat (first | exact va_up_self _ _ _ | assumption | refine (va_up_ne _ _ (by omega)).trans ?_)) rfl ?_
    rw [hnar]
    exact xs_iret dA_save_31 rfl rfl (by omega) (by omega) (aOk rfl (iI_nat _) ⟨_, _, fzx_isv hx (fun k e1 e2 => (va_up_ne _ _ e1).trans (q2 k (by omega))) ⟨_, va_up_self _ _ _, by
      rw [← hb0]
      rfl, rfl⟩ (zsv_fr hs0 (fun k _ _ => (va_up_ne _ _ (by omega)).trans (q2 k (by omega)))) ⟨_, cry_fr q1 (fun k _ _ => va_up_ne _ _ (by omega)), fun V hV => by cases hV; rfl⟩⟩ (xfr_up (xfr_mono q2 (by omega) (by omega)) (by omega) (by omega)))
theorem k_A_restore {x : Int32} (hx : fzo G a S) : xK mA_restore [.ref a, .int x] n G 1 6 (aPost n a G (rRestore S x.toInt)) (aExc n a G (rRestore S x.toInt) eX eS) := by
  have hS := hx
  obtain ⟨Vt, lis, hx⟩ := hx
  obtain ⟨hc, htx, hpr, htr, hhi, hsa, hiv, hzp, hzt, hfm, hgr, hsc, hs0, hs1⟩ := id hx
  obtain ⟨fs, hsa, hfs0, hfs1⟩ := hsa
  obtain ⟨bs, hbs, hb0, hb1⟩ := hiv
  obtain ⟨W0, hW0, hW0e⟩ := id hs0
  obtain ⟨W1, hW1, hW1e⟩ := id hs1
  have hc0 := cry_cell hW0
  have hc1 := cry_cell hW1
  refine xK_of2 (L0 := [(0, _), (1, _)]) (by decide +kernel) rfl (Nat.le_of_ble_eq_true rfl) rfl ?_
  by_cases hr : x.toInt = 0 ∨ x.toInt = 1
  case neg =>
    refine xs_iload_n dA_restore_0 rfl ?_
    exact xs_cS_t (As := [_]) dA_restore_1 lkA_325 (k_A_rSx hr) rfl rfl (Nat.le_of_ble_eq_true rfl) ⟨by decide, by decide⟩ rfl ⟨by omega, by omega⟩ (aX1 (by rw [rRestore, if_pos hr]) hS xfr_rf)
  refine xs_iload_n dA_restore_0 rfl ?_
  refine xs_cS_v (As := [_]) dA_restore_1 lkA_325 (k_A_rS hr) rfl rfl (Nat.le_of_ble_eq_true rfl) ⟨by decide, by decide⟩ ⟨by omega, by omega⟩ ?_
  have fin : ∀ (i c : Nat) (W : zV) (Ob : Option zV), i < 2 → bs i = bI Ob.isSome → fs i = some c → cry G c W → (∀ U, Ob = some U → W = U) → a + 11 ≤ c ∧ c + 7 ≤ a + 528 → (Ob = none → rRestore S x.toInt = (2, 0, S)) → (∀ W, Ob = some W → rRestore S x.toInt = (0, (W.1.length : Int), (S.1, W, [], S.2.2.2))) → x = nI i → xS mA_restore n 1 6 (aPost n a G (rRestore S x.toInt)) (aExc n a G (rRestore S x.toInt) eX eS) 4 [(0, .ref a), (1, .int x)] [] n G 0 0 := by
    intro i c W Ob hi hbi hfi hW hWe hrg hR1 hR2 hxi
    obtain ⟨R, hR⟩ : ∃ R, R = rRestore S x.toInt := ⟨_, rfl⟩
    rw [← hR] at hR1 hR2 ⊢
    clear hR hr
    subst hxi
    have hin : vp_in (nI i) 2 := vp_in_nI hi (by omega)
    have hin2 : fs (nI i).toNatClampNeg = some c := by rw [nI_clamp (by omega)]; exact hfi
    have hin3 : bs (nI i).toNatClampNeg = bI Ob.isSome := by rw [nI_clamp (by omega)]; exact hbi
    have hwc := cry_cell hW
    refine xs_aload_n dA_restore_4 rfl ?_
    refine xs_get dA_restore_5 flA_37 (by repeat (first | exact va_up_self _ _ _ | assumption | refine (va_up_ne _ _ (by omega)).trans ?_)) rfl ?_
    refine xs_iload_n dA_restore_8 rfl ?_
    refine xs_zald dA_restore_9 (by repeat (first | exact va_up_self _ _ _ | assumption | refine (va_up_ne _ _ (by omega)).trans ?_)) (by assumption) ?_
    rw [hin3]
    cases Ob with
    | none =>
      refine xs_if_ne dA_restore_10 (fun q => absurd rfl q) (fun _ => ?_)
      exact xs_throwW rfl rfl xtS (List.mem_of_getElem? (i := 17) rfl) dA_restore_13 dA_restore_16 dA_restore_17 dA_restore_20 dA_restore_23 (Nat.le_of_ble_eq_true rfl) ⟨by decide, by decide⟩ (by omega) (by omega) (aX2 (hR1 rfl) hS xfr_rf)
    | some U =>
      have e := hWe U rfl
      subst e
      refine xs_if_ne dA_restore_10 (fun _ => ?_) (fun q => absurd q (show ¬ bI true = 0 by decide))
      refine xs_aload_n dA_restore_24 rfl ?_
      refine xs_aload_n dA_restore_25 rfl ?_
      refine xs_get dA_restore_26 flA_33 (by repeat (first | exact va_up_self _ _ _ | assumption | refine (va_up_ne _ _ (by omega)).trans ?_)) rfl ?_
      refine xs_iload_n dA_restore_29 rfl ?_
      refine xs_ald4 dA_restore_30 (by repeat (first | exact va_up_self _ _ _ | assumption | refine (va_up_ne _ _ (by omega)).trans ?_)) (by assumption) (by assumption) ?_
      refine xs_cV_vx (As := [_]) dA_restore_31 lkA_102 (by repeat (first | exact va_up_self _ _ _ | assumption | refine (va_up_ne _ _ (by omega)).trans ?_)) (k_A_replacePresent hx hW hrg) rfl rfl (Nat.le_of_ble_eq_true rfl) ⟨by decide, by decide⟩ ⟨by omega, by omega⟩ ?_
      intro H ⟨q1, q2⟩
      have hcH := q1.1
      have hpcH := cry_cell q1.2.2.1
      refine xs_aload_n dA_restore_34 rfl ?_
      refine xs_get dA_restore_35 flA_19 (by repeat (first | exact va_up_self _ _ _ | assumption | refine (va_up_ne _ _ (by omega)).trans ?_)) rfl ?_
      refine xs_get dA_restore_38 flA_106 (by repeat (first | exact va_up_self _ _ _ | assumption | refine (va_up_ne _ _ (by omega)).trans ?_)) rfl ?_
      exact xs_iret dA_restore_41 rfl rfl (by omega) (by omega) (aOk (hR2 _ rfl) (iI_nat _) ⟨_, _, q1⟩ q2)
  rcases hr with h0 | h1
  · exact fin 0 _ _ _ (by decide) hb0 hfs0 hW0 hW0e (by omega) (fun e => by rw [rRestore, if_neg (fun q => q (Or.inl h0)), if_pos h0, e]) (fun W e => by rw [rRestore, if_neg (fun q => q (Or.inl h0)), if_pos h0, e]) (iTN (k := 0) h0)
  · exact fin 1 _ _ _ (by decide) hb1 hfs1 hW1 hW1e (by omega) (fun e => by rw [rRestore, if_neg (fun q => q (Or.inr h1)), if_neg (by omega), e]) (fun W e => by rw [rRestore, if_neg (fun q => q (Or.inr h1)), if_neg (by omega), e]) (iTN (k := 1) h1)
theorem k_A_simulateRound {r : Nat} (hr : r < 2 ^ 31) (hx : fzx G a T V Vt A O lis) : xK mA_simulateRound [.ref a, .int (nI r)] n G 0 0 (qVx n (fun H => fzx H a T V (simR Vt r) A O lis ∧ xfr (a + 11) (a + 18) G H)) xNo := by
  have h8192 := nI_ne (b := 8192) (by decide) (by decide)
  obtain ⟨hc, htx, hpr, htr, hhi, hsa, hiv, hzp, hzt, hfm, hgr, hsc, hs0, hs1⟩ := id hx
  have htc := cry_cell htr
  have hN := htr.1.1
  have rest : ∀ (H : xG) (W : zV), fzx H a T V W A O lis → xfr (a + 11) (a + 18) G H → W = (if Vt.1.length = 16 then zDrop Vt (r / 8192 % 16) else Vt) → xS mA_simulateRound n 0 0 (qVx n (fun H => fzx H a T V (simR Vt r) A O lis ∧ xfr (a + 11) (a + 18) G H)) xNo 27 [(0, .ref a), (1, .int (nI r))] [] n H 0 0 := by
    intro H W hx hfr hW
    have hs : simR Vt r = zPut W (((r % 7 : Nat) : Int) - 3, ((r / 8 % 7 : Nat) : Int) - 3, ((r / 64 % 7 : Nat) : Int) - 3) ((r / 512 % 2 : Nat) : Int) := by rw [simR, ← hW]
    rw [hs]
    clear hs hW
    obtain ⟨hc, htx, hpr, htr, hhi, hsa, hiv, hzp, hzt, hfm, hgr, hsc, hs0, hs1⟩ := id hx
    have htc := cry_cell htr
    refine xs_iload_n dA_simulateRound_27 rfl ?_
    refine xs_bipush (v := 7) dA_simulateRound_28 (by decide) ?_
    refine xs_irem dA_simulateRound_30 (nI_ne (b:=7) (by decide) (by decide)) ?_
    refine xs_iconst (v := 3) dA_simulateRound_31 (by decide) ?_
    refine xs_isub dA_simulateRound_32 ?_
    refine xs_istore_n (L2 := [(2, _), (0, _), (1, _)]) dA_simulateRound_33 (by decide) rfl ?_
    refine xs_iload_n dA_simulateRound_34 rfl ?_
    refine xs_bipush (v := 8) dA_simulateRound_35 (by decide) ?_
    refine xs_idiv dA_simulateRound_37 (nI_ne (b:=8) (by decide) (by decide)) ?_
    refine xs_bipush (v := 7) dA_simulateRound_38 (by decide) ?_
    refine xs_irem dA_simulateRound_40 (nI_ne (b:=7) (by decide) (by decide)) ?_
    refine xs_iconst (v := 3) dA_simulateRound_41 (by decide) ?_
    refine xs_isub dA_simulateRound_42 ?_
    refine xs_istore_n (L2 := [(3, _), (2, _), (0, _), (1, _)]) dA_simulateRound_43 (by decide) rfl ?_
    refine xs_iload_n dA_simulateRound_44 rfl ?_
    refine xs_bipush (v := 64) dA_simulateRound_45 (by decide) ?_
    refine xs_idiv dA_simulateRound_47 (nI_ne (b:=64) (by decide) (by decide)) ?_
    refine xs_bipush (v := 7) dA_simulateRound_48 (by decide) ?_
    refine xs_irem dA_simulateRound_50 (nI_ne (b:=7) (by decide) (by decide)) ?_
    refine xs_iconst (v := 3) dA_simulateRound_51 (by decide) ?_
    refine xs_isub dA_simulateRound_52 ?_
    refine xs_istore (L2 := [(4, _), (3, _), (2, _), (0, _), (1, _)]) dA_simulateRound_53 (by decide) rfl ?_
    refine xs_iload_n dA_simulateRound_55 rfl ?_
    refine xs_sipush (v := 512) dA_simulateRound_56 (by decide) ?_
    refine xs_idiv dA_simulateRound_59 (nI_ne (b:=512) (by decide) (by decide)) ?_
    refine xs_iconst (v := 2) dA_simulateRound_60 (by decide) ?_
    refine xs_irem dA_simulateRound_61 (nI_ne (b:=2) (by decide) (by decide)) ?_
    rw [show nI r - nI r / 7 * 7 = nI (r % 7) from nI_rem hr (b := 7) (by decide) (by decide), show nI r / 8 = nI (r / 8) from nI_div hr (b := 8) (by decide) (by decide), show nI (r / 8) - nI (r / 8) / 7 * 7 = nI (r / 8 % 7) from nI_rem (b := 7) (by omega) (by decide) (by decide), show nI r / 64 = nI (r / 64) from nI_div hr (b := 64) (by decide) (by decide), show nI (r / 64) - nI (r / 64) / 7 * 7 = nI (r / 64 % 7) from nI_rem (b := 7) (by omega) (by decide) (by decide), show nI r / 512 = nI (r / 512) from nI_div hr (b := 512) (by decide) (by decide), show nI (r / 512) - nI (r / 512) / 2 * 2 = nI (r / 512 % 2) from nI_rem (b := 2) (by omega) (by decide) (by decide), nI_m3, nI_m3, nI_m3, iI_nat (r / 512 % 2)]
    have hb : bd 10 (((r % 7 : Nat) : Int) - 3, ((r / 8 % 7 : Nat) : Int) - 3, ((r / 64 % 7 : Nat) : Int) - 3) := by
      refine ⟨?_, ?_, ?_⟩ <;> simp only <;> omega
    refine xs_istore (L2 := [(5, _), (4, _), (3, _), (2, _), (0, _), (1, _)]) dA_simulateRound_62 (by decide) rfl ?_
    refine xs_aload_n dA_simulateRound_64 rfl ?_
    refine xs_get dA_simulateRound_65 flA_23 (by repeat (first | exact va_up_self _ _ _ | assumption | refine (va_up_ne _ _ (by omega)).trans ?_)) rfl ?_
    refine xs_iload_n dA_simulateRound_68 rfl ?_
    refine xs_iload_n dA_simulateRound_69 rfl ?_
    refine xs_iload dA_simulateRound_70 rfl ?_
    refine xs_iload dA_simulateRound_72 rfl ?_
    refine xs_cV_ix (As := [_, _, _, _]) dA_simulateRound_74 lkA_243 (by repeat (first | exact va_up_self _ _ _ | assumption | refine (va_up_ne _ _ (by omega)).trans ?_)) (k_C_refusalOf htr (bd_mono hb (by decide)) (by omega)) rfl rfl (Nat.le_of_ble_eq_true rfl) ⟨by decide, by decide⟩ ⟨by omega, by omega⟩ ?_
    intro q H2 ⟨q1, q2, q3⟩
    subst q1
    have hx2 := fzx_tri hx q3 q2
    have hc2 := hx2.1
    have htc2 := cry_cell q2
    have hf2 := xfr_tr hfr q3
    have hzl := zwhy_le (fs := W.1) (p := (((r % 7 : Nat) : Int) - 3, ((r / 8 % 7 : Nat) : Int) - 3, ((r / 64 % 7 : Nat) : Int) - 3)) (s := ((r / 512 % 2 : Nat) : Int))
    refine xs_if_ne dA_simulateRound_77 (fun h => ?_) (fun h => ?_)
    · have h0 : ¬ zwhy W.1 (((r % 7 : Nat) : Int) - 3, ((r / 8 % 7 : Nat) : Int) - 3, ((r / 64 % 7 : Nat) : Int) - 3) ((r / 512 % 2 : Nat) : Int) = 0 := fun e => h (by rw [e]; rfl)
      refine xs_vret dA_simulateRound_93 rfl (by omega) (by omega) ⟨rfl, rfl, ?_, hf2⟩
      rw [zPut, if_neg h0]
      exact hx2
    · have h0 : zwhy W.1 (((r % 7 : Nat) : Int) - 3, ((r / 8 % 7 : Nat) : Int) - 3, ((r / 64 % 7 : Nat) : Int) - 3) ((r / 512 % 2 : Nat) : Int) = 0 := (nI_eq (b := 0) (by omega) (by decide)).mp h
      obtain ⟨e1, e2, e3⟩ := zwhy_0i h0
      refine xs_aload_n dA_simulateRound_80 rfl ?_
      refine xs_get dA_simulateRound_81 flA_23 (by repeat (first | exact va_up_self _ _ _ | assumption | refine (va_up_ne _ _ (by omega)).trans ?_)) rfl ?_
      refine xs_iload_n dA_simulateRound_84 rfl ?_
      refine xs_iload_n dA_simulateRound_85 rfl ?_
      refine xs_iload dA_simulateRound_86 rfl ?_
      refine xs_iload dA_simulateRound_88 rfl ?_
      refine xs_cV_vx (As := [_, _, _, _]) dA_simulateRound_90 lkA_254 (by repeat (first | exact va_up_self _ _ _ | assumption | refine (va_up_ne _ _ (by omega)).trans ?_)) (k_C_insert q2 hb (by omega) e1 e3) rfl rfl (Nat.le_of_ble_eq_true rfl) ⟨by decide, by decide⟩ ⟨by omega, by omega⟩ ?_
      intro H3 ⟨q4, q5⟩
      refine xs_vret dA_simulateRound_93 rfl (by omega) (by omega) ⟨rfl, rfl, ?_, xfr_tr hf2 q5⟩
      rw [zPut, if_pos h0]
      exact fzx_tri hx2 q5 q4
  refine xK_of2 (L0 := [(0, _), (1, _)]) (by decide +kernel) rfl (Nat.le_of_ble_eq_true rfl) rfl ?_
  refine xs_aload_n dA_simulateRound_0 rfl ?_
  refine xs_get dA_simulateRound_1 flA_23 (by repeat (first | exact va_up_self _ _ _ | assumption | refine (va_up_ne _ _ (by omega)).trans ?_)) rfl ?_
  refine xs_get dA_simulateRound_4 flA_106 (by repeat (first | exact va_up_self _ _ _ | assumption | refine (va_up_ne _ _ (by omega)).trans ?_)) rfl ?_
  refine xs_bipush (v := 16) dA_simulateRound_7 (by decide) ?_
  refine xs_icmp_ne dA_simulateRound_9 (fun q => ?_) (fun q => ?_)
  · have h16 : ¬ Vt.1.length = 16 := fun e => q (by rw [e]; rfl)
    exact rest G Vt hx xfr_rf (by rw [if_neg h16])
  · have h16 : Vt.1.length = 16 := (nI_eq (b := 16) (by omega) (by decide)).mp q
    refine xs_aload_n dA_simulateRound_12 rfl ?_
    refine xs_get dA_simulateRound_13 flA_23 (by repeat (first | exact va_up_self _ _ _ | assumption | refine (va_up_ne _ _ (by omega)).trans ?_)) rfl ?_
    refine xs_iload_n dA_simulateRound_16 rfl ?_
    refine xs_sipush (v := 8192) dA_simulateRound_17 (by decide) ?_
    refine xs_idiv dA_simulateRound_20 h8192 ?_
    refine xs_bipush (v := 16) dA_simulateRound_21 (by decide) ?_
    refine xs_irem dA_simulateRound_23 (nI_ne (b:=16) (by decide) (by decide)) ?_
    rw [show nI r / 8192 = nI (r / 8192) from nI_div hr (b := 8192) (by decide) (by decide), show nI (r / 8192) - nI (r / 8192) / 16 * 16 = nI (r / 8192 % 16) from nI_rem (b := 16) (by omega) (by decide) (by decide)]
    refine xs_cV_vx (As := [_]) dA_simulateRound_24 lkA_273 (by repeat (first | exact va_up_self _ _ _ | assumption | refine (va_up_ne _ _ (by omega)).trans ?_)) (k_C_dropAt htr (i:=r / 8192 % 16) (by omega)) rfl rfl (Nat.le_of_ble_eq_true rfl) ⟨by decide, by decide⟩ ⟨by omega, by omega⟩ ?_
    intro H ⟨q1, q2⟩
    exact rest H _ (fzx_tri hx q2 q1) q2 (by rw [if_pos h16])
end A9
