theorem k_T_shorten {n t : Nat} {G : xG} {p : P3} (hG : G t = xTp p) (hb : bd 281474976710656 p) : xK mT_shorten [.ref t] n G 0 0 (qV n (va_up G t (xTp (dv p)))) xNo := by
  obtain ⟨b1, b2, b3⟩ := id hb
  refine xK_of2 (L0 := [(0, _)]) (by decide +kernel) rfl (Nat.le_of_ble_eq_true rfl) rfl ?_
  refine xs_aload_n dT_shorten_0 rfl ?_
  refine xs_aload_n dT_shorten_1 rfl ?_
  refine xs_get dT_shorten_2 flT_7 (by first | assumption | exact va_up_self _ _ _ | exact (va_up_ne _ _ (by omega)).trans (by first | assumption | exact va_up_self _ _ _ | exact (va_up_ne _ _ (by omega)).trans (by first | assumption | exact va_up_self _ _ _ | exact (va_up_ne _ _ (by omega)).trans (by first | assumption | exact va_up_self _ _ _)))) rfl ?_
  refine xs_aload_n dT_shorten_5 rfl ?_
  refine xs_get dT_shorten_6 flT_13 (by first | assumption | exact va_up_self _ _ _ | exact (va_up_ne _ _ (by omega)).trans (by first | assumption | exact va_up_self _ _ _ | exact (va_up_ne _ _ (by omega)).trans (by first | assumption | exact va_up_self _ _ _ | exact (va_up_ne _ _ (by omega)).trans (by first | assumption | exact va_up_self _ _ _)))) rfl ?_
  refine xs_cSN_l (As := [_, _]) dT_shorten_9 lkT_23 (k_A_commonDivisor b1 b2) rfl rfl (Nat.le_of_ble_eq_true rfl) ⟨by decide, by decide⟩ ⟨by omega, by omega⟩ ?_
  rw [iL_nat]
  refine xs_aload_n dT_shorten_12 rfl ?_
  refine xs_get dT_shorten_13 flT_16 (by first | assumption | exact va_up_self _ _ _ | exact (va_up_ne _ _ (by omega)).trans (by first | assumption | exact va_up_self _ _ _ | exact (va_up_ne _ _ (by omega)).trans (by first | assumption | exact va_up_self _ _ _ | exact (va_up_ne _ _ (by omega)).trans (by first | assumption | exact va_up_self _ _ _)))) rfl ?_
  refine xs_cSN_l (As := [_, _]) dT_shorten_16 lkT_23 (k_A_commonDivisor (by have := gcd_lt b1 b2; omega) b3) rfl rfl (Nat.le_of_ble_eq_true rfl) ⟨by decide, by decide⟩ ⟨by omega, by omega⟩ ?_
  show xS _ _ _ _ _ _ _ _ [.long (lN (g3 p)), .ref t] _ _ _ _
  by_cases hg : g3 p = 0
  · have h0 := g3_0 hg
    rw [hg]
    refine xs_cV_v (As := [_]) dT_shorten_19 lkT_29 (by first | assumption | exact va_up_self _ _ _ | exact (va_up_ne _ _ (by omega)).trans (by first | assumption | exact va_up_self _ _ _ | exact (va_up_ne _ _ (by omega)).trans (by first | assumption | exact va_up_self _ _ _ | exact (va_up_ne _ _ (by omega)).trans (by first | assumption | exact va_up_self _ _ _)))) (k_T_divideBy0 hG) rfl rfl (Nat.le_of_ble_eq_true rfl) ⟨by decide, by decide⟩ ⟨by omega, by omega⟩ ?_
    refine xs_vret dT_shorten_22 rfl (by omega) (by omega) ⟨rfl, rfl, ?_⟩
    subst h0
    exact (va_up_same hG).symm
  · have hgl := g3_lt hb
    refine xs_cV_v (As := [_]) dT_shorten_19 lkT_29 (by first | assumption | exact va_up_self _ _ _ | exact (va_up_ne _ _ (by omega)).trans (by first | assumption | exact va_up_self _ _ _ | exact (va_up_ne _ _ (by omega)).trans (by first | assumption | exact va_up_self _ _ _ | exact (va_up_ne _ _ (by omega)).trans (by first | assumption | exact va_up_self _ _ _)))) (k_T_divideBy hG (lN_ne hgl hg)) rfl rfl (Nat.le_of_ble_eq_true rfl) ⟨by decide, by decide⟩ ⟨by omega, by omega⟩ ?_
    refine xs_vret dT_shorten_22 rfl (by omega) (by omega) ⟨rfl, rfl, ?_⟩
    rw [iL_dvd b1 hgl (g3_d1 p), iL_dvd b2 hgl (g3_d2 p), iL_dvd b3 hgl (g3_d3 p)]
    rfl
theorem k_T_normalize {n t : Nat} {G : xG} {p : P3} (hG : G t = xTp p) (hb : bd 281474976710656 p) : xK mT_normalize [.ref t] n G 0 0 (qV n (va_up G t (xTp (nz p)))) xNo := by
  obtain ⟨b1, b2, b3⟩ := id hb
  refine xK_of2 (L0 := [(0, _)]) (by decide +kernel) rfl (Nat.le_of_ble_eq_true rfl) rfl ?_
  refine xs_aload_n dT_normalize_0 rfl ?_
  refine xs_get dT_normalize_1 flT_7 (by first | assumption | exact va_up_self _ _ _ | exact (va_up_ne _ _ (by omega)).trans (by first | assumption | exact va_up_self _ _ _ | exact (va_up_ne _ _ (by omega)).trans (by first | assumption | exact va_up_self _ _ _ | exact (va_up_ne _ _ (by omega)).trans (by first | assumption | exact va_up_self _ _ _)))) rfl ?_
  refine xs_aload_n dT_normalize_4 rfl ?_
  refine xs_get dT_normalize_5 flT_13 (by first | assumption | exact va_up_self _ _ _ | exact (va_up_ne _ _ (by omega)).trans (by first | assumption | exact va_up_self _ _ _ | exact (va_up_ne _ _ (by omega)).trans (by first | assumption | exact va_up_self _ _ _ | exact (va_up_ne _ _ (by omega)).trans (by first | assumption | exact va_up_self _ _ _)))) rfl ?_
  refine xs_cSN_l (As := [_, _]) dT_normalize_8 lkT_23 (k_A_commonDivisor b1 b2) rfl rfl (Nat.le_of_ble_eq_true rfl) ⟨by decide, by decide⟩ ⟨by omega, by omega⟩ ?_
  rw [iL_nat]
  refine xs_aload_n dT_normalize_11 rfl ?_
  refine xs_get dT_normalize_12 flT_16 (by first | assumption | exact va_up_self _ _ _ | exact (va_up_ne _ _ (by omega)).trans (by first | assumption | exact va_up_self _ _ _ | exact (va_up_ne _ _ (by omega)).trans (by first | assumption | exact va_up_self _ _ _ | exact (va_up_ne _ _ (by omega)).trans (by first | assumption | exact va_up_self _ _ _)))) rfl ?_
  refine xs_cSN_l (As := [_, _]) dT_normalize_15 lkT_23 (k_A_commonDivisor (by have := gcd_lt b1 b2; omega) b3) rfl rfl (Nat.le_of_ble_eq_true rfl) ⟨by decide, by decide⟩ ⟨by omega, by omega⟩ ?_
  show xS _ _ _ _ _ _ _ _ [.long (lN (g3 p))] _ _ _ _
  refine xs_lstore_n (L2 := [(1, _), (0, _)]) dT_normalize_18 (by decide) rfl ?_
  refine xs_aload_n dT_normalize_19 rfl ?_
  refine xs_aload_n dT_normalize_20 rfl ?_
  refine xs_cV_i (As := []) dT_normalize_21 lkT_33 (by first | assumption | exact va_up_self _ _ _ | exact (va_up_ne _ _ (by omega)).trans (by first | assumption | exact va_up_self _ _ _ | exact (va_up_ne _ _ (by omega)).trans (by first | assumption | exact va_up_self _ _ _ | exact (va_up_ne _ _ (by omega)).trans (by first | assumption | exact va_up_self _ _ _)))) (k_T_leadsPositive hG) rfl rfl (Nat.le_of_ble_eq_true rfl) ⟨by decide, by decide⟩ ⟨by omega, by omega⟩ ?_
  rw [lp_iL hb]
  have hgl := g3_lt hb
  have hfin : ∀ (L : List (Nat × Value)) (d : Int64), d = (if lp p then lN (g3 p) else -lN (g3 p)) → xS mT_normalize n 0 0 (qV n (va_up G t (xTp (nz p)))) xNo 33 L [.long d, .ref t] n G 0 0 := by
    intro L d hd
    by_cases hg : g3 p = 0
    · have h0 := g3_0 hg
      have hd0 : d = 0 := by
        rw [hd, hg]
        split <;> rfl
      rw [hd0]
      refine xs_cV_v (As := [_]) dT_normalize_33 lkT_29 (by first | assumption | exact va_up_self _ _ _ | exact (va_up_ne _ _ (by omega)).trans (by first | assumption | exact va_up_self _ _ _ | exact (va_up_ne _ _ (by omega)).trans (by first | assumption | exact va_up_self _ _ _ | exact (va_up_ne _ _ (by omega)).trans (by first | assumption | exact va_up_self _ _ _)))) (k_T_divideBy0 hG) rfl rfl (Nat.le_of_ble_eq_true rfl) ⟨by decide, by decide⟩ ⟨by omega, by omega⟩ ?_
      refine xs_vret dT_normalize_36 rfl (by omega) (by omega) ⟨rfl, rfl, ?_⟩
      subst h0
      exact (va_up_same hG).symm
    · have hd1 : ¬ d = 0 := by
        rw [hd]
        split
        · exact lN_ne hgl hg
        · exact lN_nne hgl hg
      refine xs_cV_v (As := [_]) dT_normalize_33 lkT_29 (by first | assumption | exact va_up_self _ _ _ | exact (va_up_ne _ _ (by omega)).trans (by first | assumption | exact va_up_self _ _ _ | exact (va_up_ne _ _ (by omega)).trans (by first | assumption | exact va_up_self _ _ _ | exact (va_up_ne _ _ (by omega)).trans (by first | assumption | exact va_up_self _ _ _)))) (k_T_divideBy hG hd1) rfl rfl (Nat.le_of_ble_eq_true rfl) ⟨by decide, by decide⟩ ⟨by omega, by omega⟩ ?_
      refine xs_vret dT_normalize_36 rfl (by omega) (by omega) ⟨rfl, rfl, ?_⟩
      subst hd
      unfold nz
      split
      · rw [iL_dvd b1 hgl (g3_d1 p), iL_dvd b2 hgl (g3_d2 p), iL_dvd b3 hgl (g3_d3 p)]
        rfl
      · rw [iL_dvdn b1 hgl (g3_d1 p), iL_dvdn b2 hgl (g3_d2 p), iL_dvdn b3 hgl (g3_d3 p)]
        rfl
  refine xs_if_eq dT_normalize_24 (fun h => ?_) (fun h => ?_)
  · refine xs_lload_n dT_normalize_31 rfl ?_
    refine xs_lneg dT_normalize_32 ?_
    exact hfin _ _ (by rw [(bI_0 _).mp h]; rfl)
  · refine xs_lload_n dT_normalize_27 rfl ?_
    refine xs_goto dT_normalize_28 ?_
    have h1 : lp p = true := by
      cases hl : lp p
      · exact absurd (by rw [hl]; rfl) h
      · rfl
    exact hfin _ _ (by rw [h1]; rfl)
theorem k_T_isNormalized {n t : Nat} {G : xG} {p : P3} (hG : G t = xTp p) (hb : bd 281474976710656 p) : xK mT_isNormalized [.ref t] n G 0 0 (qI n G (bI (lp p && decide (g3 p = 1)))) xNo := by
  obtain ⟨b1, b2, b3⟩ := id hb
  refine xK_of2 (L0 := [(0, _)]) (by decide +kernel) rfl (Nat.le_of_ble_eq_true rfl) rfl ?_
  refine xs_aload_n dT_isNormalized_0 rfl ?_
  refine xs_cV_i (As := []) dT_isNormalized_1 lkT_33 (by first | assumption | exact va_up_self _ _ _ | exact (va_up_ne _ _ (by omega)).trans (by first | assumption | exact va_up_self _ _ _ | exact (va_up_ne _ _ (by omega)).trans (by first | assumption | exact va_up_self _ _ _ | exact (va_up_ne _ _ (by omega)).trans (by first | assumption | exact va_up_self _ _ _)))) (k_T_leadsPositive hG) rfl rfl (Nat.le_of_ble_eq_true rfl) ⟨by decide, by decide⟩ ⟨by omega, by omega⟩ ?_
  rw [lp_iL hb]
  refine xs_if_eq dT_isNormalized_4 (fun h => ?_) (fun h => ?_)
  · rw [bI_0] at h
    refine xs_iconst (v := 0) dT_isNormalized_34 (by decide) ?_
    exact xs_iret dT_isNormalized_35 rfl rfl (by omega) (by omega) ⟨(by simp [bI, h]), rfl, rfl⟩
  have h1 : lp p = true := by
    cases hl : lp p
    · exact absurd (by rw [hl]; rfl) h
    · rfl
  refine xs_aload_n dT_isNormalized_7 rfl ?_
  refine xs_get dT_isNormalized_8 flT_7 (by first | assumption | exact va_up_self _ _ _ | exact (va_up_ne _ _ (by omega)).trans (by first | assumption | exact va_up_self _ _ _ | exact (va_up_ne _ _ (by omega)).trans (by first | assumption | exact va_up_self _ _ _ | exact (va_up_ne _ _ (by omega)).trans (by first | assumption | exact va_up_self _ _ _)))) rfl ?_
  refine xs_aload_n dT_isNormalized_11 rfl ?_
  refine xs_get dT_isNormalized_12 flT_13 (by first | assumption | exact va_up_self _ _ _ | exact (va_up_ne _ _ (by omega)).trans (by first | assumption | exact va_up_self _ _ _ | exact (va_up_ne _ _ (by omega)).trans (by first | assumption | exact va_up_self _ _ _ | exact (va_up_ne _ _ (by omega)).trans (by first | assumption | exact va_up_self _ _ _)))) rfl ?_
  refine xs_cSN_l (As := [_, _]) dT_isNormalized_15 lkT_23 (k_A_commonDivisor b1 b2) rfl rfl (Nat.le_of_ble_eq_true rfl) ⟨by decide, by decide⟩ ⟨by omega, by omega⟩ ?_
  rw [iL_nat]
  refine xs_aload_n dT_isNormalized_18 rfl ?_
  refine xs_get dT_isNormalized_19 flT_16 (by first | assumption | exact va_up_self _ _ _ | exact (va_up_ne _ _ (by omega)).trans (by first | assumption | exact va_up_self _ _ _ | exact (va_up_ne _ _ (by omega)).trans (by first | assumption | exact va_up_self _ _ _ | exact (va_up_ne _ _ (by omega)).trans (by first | assumption | exact va_up_self _ _ _)))) rfl ?_
  refine xs_cSN_l (As := [_, _]) dT_isNormalized_22 lkT_23 (k_A_commonDivisor (by have := gcd_lt b1 b2; omega) b3) rfl rfl (Nat.le_of_ble_eq_true rfl) ⟨by decide, by decide⟩ ⟨by omega, by omega⟩ ?_
  refine xs_lconst (v := 1) dT_isNormalized_25 (by decide) ?_
  show xS _ _ _ _ _ _ _ _ [.long 1, .long (lN (g3 p))] _ _ _ _
  have hgl := g3_lt hb
  refine xs_lc_ne dT_isNormalized_26 dT_isNormalized_27 (fun h => ?_) (fun h => ?_)
  · have h2 : g3 p ≠ 1 := fun e => h (by rw [e]; rfl)
    refine xs_iconst (v := 0) dT_isNormalized_34 (by decide) ?_
    exact xs_iret dT_isNormalized_35 rfl rfl (by omega) (by omega) ⟨(by simp [bI, h2]), rfl, rfl⟩
  · have h2 : g3 p = 1 := (pk_lEQ (a := g3 p) (b := 1) (by omega) (by omega)).mp h
    refine xs_iconst (v := 1) dT_isNormalized_30 (by decide) ?_
    refine xs_goto dT_isNormalized_31 ?_
    exact xs_iret dT_isNormalized_35 rfl rfl (by omega) (by omega) ⟨(by simp [bI, h1, h2]), rfl, rfl⟩
