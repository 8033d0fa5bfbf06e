section A7
variable {n a : Nat} {G : xG} {S : zS}
theorem k_A_cross {x y u : Int32} (hx : fzo G a S) : xK mA_cross [.ref a, .int x, .int y, .int u] n G 1 6 (aPostL n a G (rCross S x.toInt y.toInt u.toInt)) (aExc n a G (rCross S x.toInt y.toInt u.toInt) eX eA) := by
  obtain ⟨Vt, lis, hx⟩ := hx
  have hc := hx.1
  refine xK_of2 (L0 := [(0, _), (1, _), (2, _), (3, _)]) (by decide +kernel) rfl (Nat.le_of_ble_eq_true rfl) rfl ?_
  refine xs_aload_n dA_cross_0 rfl ?_
  refine xs_cV_rx (As := []) dA_cross_1 lkA_119 (by repeat (first | exact va_up_self _ _ _ | assumption | refine (va_up_ne _ _ (by omega)).trans ?_)) (k_A_zonesNow hx) rfl rfl (Nat.le_of_ble_eq_true rfl) ⟨by decide, by decide⟩ ⟨by omega, by omega⟩ ?_
  intro r H ⟨h1, hx2, hf⟩
  subst h1
  obtain ⟨hc, htx, hpr, htr, hhi, hsa, hiv, hzp, hzt, hfm, hgr, hsc, hs0, hs1⟩ := id hx2
  obtain ⟨R, hz, hfin⟩ := zpr_now hzp
  have hset := zSet_of hfin
  obtain ⟨fd, fa, pa, ms, cv, hz3, hdr, hax, hms, hcv⟩ := id hz
  obtain ⟨⟨g0, g1, g2, g3, g4⟩, ⟨f1, f2, f3, f4⟩, ht, hn⟩ := id hz3
  obtain ⟨s1, s2, s3, hsc⟩ := hsc
  cases hfi : fAt (zl S.2.1) x.toInt with
  | none =>
    have hno := fAt_none.mp hfi
    refine xs_astore (L2 := [(4, _), (0, _), (1, _), (2, _), (3, _)]) dA_cross_4 (by decide) rfl ?_
    refine xs_iload_n dA_cross_6 rfl ?_
    refine xs_aload dA_cross_7 rfl ?_
    exact xs_cS_t (As := [_, _]) dA_cross_9 lkA_183 (k_A_rZx g0 hn.2 hno) rfl rfl (Nat.le_of_ble_eq_true rfl) ⟨by decide, by decide⟩ rfl ⟨by omega, by omega⟩ (aX1 (by simp only [rCross, hfi]) ⟨_, _, hx2⟩ (xzf_x hf))
  | some d =>
    obtain ⟨k, hk, hkl, hkf⟩ := fAt_some hfi
    refine xs_astore (L2 := [(4, _), (0, _), (1, _), (2, _), (3, _)]) dA_cross_4 (by decide) rfl ?_
    refine xs_iload_n dA_cross_6 rfl ?_
    refine xs_aload dA_cross_7 rfl ?_
    refine xs_cS_v (As := [_, _]) dA_cross_9 lkA_183 (k_A_rZ g0 hn.2 ⟨by omega, by omega⟩) rfl rfl (Nat.le_of_ble_eq_true rfl) ⟨by decide, by decide⟩ ⟨by omega, by omega⟩ ?_
    refine xs_iload_n dA_cross_12 rfl ?_
    refine xs_aload dA_cross_13 rfl ?_
    cases hgi : fAt (zl S.2.1) y.toInt with
    | none =>
      have hno := fAt_none.mp hgi
      exact xs_cS_t (As := [_, _]) dA_cross_15 lkA_183 (k_A_rZx g0 hn.2 hno) rfl rfl (Nat.le_of_ble_eq_true rfl) ⟨by decide, by decide⟩ rfl ⟨by omega, by omega⟩ (aX1 (by simp only [rCross, hfi, hgi]) ⟨_, _, hx2⟩ (xzf_x hf))
    | some e =>
      obtain ⟨j, hj, hjl, hjf⟩ := fAt_some hgi
      refine xs_cS_v (As := [_, _]) dA_cross_15 lkA_183 (k_A_rZ g0 hn.2 ⟨by omega, by omega⟩) rfl rfl (Nat.le_of_ble_eq_true rfl) ⟨by decide, by decide⟩ ⟨by omega, by omega⟩ ?_
      refine xs_iload_n dA_cross_18 rfl ?_
      refine xs_iload_n dA_cross_19 rfl ?_
      refine xs_icmp_ne dA_cross_20 (fun hne => ?_) (fun heq => ?_)
      case _ =>
        have hne2 : x.toInt ≠ y.toInt := fun q => hne (Int32.toInt_inj.mp q)
        obtain ⟨w, hw⟩ : ∃ w, w = u.toInt := ⟨_, rfl⟩
        have huw : u = iI w := by rw [hw, iT]
        have hR : rCross S x.toInt y.toInt u.toInt = if x.toInt = y.toInt ∨ ¬ (0 ≤ w ∧ w ≤ 3) then (2, 0, S) else (0, crv (zDirs S.2.1) (nz (cr d e)) w, S) := by rw [rCross, hfi, hgi, hw]
        rw [hR]
        have hdok := ax_ok hpr.1 hset hkf
        have heok := ax_ok hpr.1 hset hjf
        have hcb := cr_bd2 hdok.1 heok.1
        have hcne : cr d e ≠ (0, 0, 0) := fun q => by
          have h1 := nz_col hdok.2.1 heok.2.1 q
          rw [hdok.2.2, heok.2.2] at h1
          subst h1
          have := injL_of hset.1 k j d hkf hjf
          omega
        have hk120 : vp_in (nI k) 120 := vp_in_nI (by omega) (by omega)
        have hj120 : vp_in (nI j) 120 := vp_in_nI (by omega) (by omega)
        have hdc := hax k d hkf
        have hec := hax j e hjf
        have hfk : fa (nI k).toNatClampNeg = some (pa k) := by rw [nI_clamp (by omega)]; exact f2 k (by omega)
        have hfj : fa (nI j).toNatClampNeg = some (pa j) := by rw [nI_clamp (by omega)]; exact f2 j (by omega)
        have exk := iTN hk
        have exj := iTN hj
        clear hR hfi hgi hne hk hj
        subst exk; subst exj
        have hne3 : ¬ (nI k).toInt = (nI j).toInt := hne2
        refine xs_aload_n dA_cross_33 rfl ?_
        refine xs_get dA_cross_34 flA_68 (by repeat (first | exact va_up_self _ _ _ | assumption | refine (va_up_ne _ _ (by omega)).trans ?_)) rfl ?_
        refine xs_aload dA_cross_37 rfl ?_
        refine xs_get dA_cross_39 flA_187 (by repeat (first | exact va_up_self _ _ _ | assumption | refine (va_up_ne _ _ (by omega)).trans ?_)) rfl ?_
        refine xs_iload_n dA_cross_42 rfl ?_
        refine xs_ald3 dA_cross_43 (by repeat (first | exact va_up_self _ _ _ | assumption | refine (va_up_ne _ _ (by omega)).trans ?_)) (by assumption) hfk ?_
        refine xs_aload dA_cross_44 rfl ?_
        refine xs_get dA_cross_46 flA_187 (by repeat (first | exact va_up_self _ _ _ | assumption | refine (va_up_ne _ _ (by omega)).trans ?_)) rfl ?_
        refine xs_iload_n dA_cross_49 rfl ?_
        refine xs_ald3 dA_cross_50 (by repeat (first | exact va_up_self _ _ _ | assumption | refine (va_up_ne _ _ (by omega)).trans ?_)) (by assumption) hfj ?_
        refine xs_cV_v (As := [_, _]) dA_cross_51 lkA_217 (by repeat (first | exact va_up_self _ _ _ | assumption | refine (va_up_ne _ _ (by omega)).trans ?_)) (k_T_putCross hsc hdc hec) rfl rfl (Nat.le_of_ble_eq_true rfl) ⟨by decide, by decide⟩ ⟨by omega, by omega⟩ ?_
        simp only [iL_mul, iL_sub]
        refine xs_aload_n dA_cross_54 rfl ?_
        refine xs_get dA_cross_55 flA_68 (by repeat (first | exact va_up_self _ _ _ | assumption | refine (va_up_ne _ _ (by omega)).trans ?_)) rfl ?_
        refine xs_cV_v (As := []) dA_cross_58 lkA_221 (va_up_self _ _ _) (k_T_normalize (p:=cr d e) (va_up_self _ _ _) (bd_mono hcb (by decide))) rfl rfl (Nat.le_of_ble_eq_true rfl) ⟨by decide, by decide⟩ ⟨by omega, by omega⟩ ?_
        refine xs_iload_n dA_cross_61 rfl ?_
        rw [bx_uu]
        have hx3 : fzx (va_up H (a + 513) (xTp (nz (cr d e)))) a S.1 S.2.1 Vt S.2.2.1 S.2.2.2 true := fzx_scr hx2 (xfr_up xfr_rf (by omega) (by omega)) ⟨_, _, _, va_up_self _ _ _⟩
        have hf3 : xfr a (a + 528) G (va_up H (a + 513) (xTp (nz (cr d e)))) := xfr_up (xzf_x hf) (by omega) (by omega)
        by_cases hr : 0 ≤ w ∧ w ≤ 3
        case neg =>
          have ho : u.toInt < 0 ∨ 3 < u.toInt := by omega
          refine xs_tsOut (tgt := 127) dA_cross_62 ho (by decide) ?_
          exact xs_throw rfl rfl xtA (List.mem_of_getElem? (i := 9) rfl) dA_cross_127 dA_cross_130 dA_cross_131 dA_cross_133 dA_cross_136 (Nat.le_of_ble_eq_true rfl) ⟨by decide, by decide⟩ (by omega) (by omega) (aX2 (by rw [if_pos (Or.inr hr)]) ⟨_, _, hx3⟩ hf3)
        rw [if_neg (fun q => q.elim hne3 (fun q => q hr))]
        clear hw
        subst huw
        have hcs : w = 0 ∨ w = 1 ∨ w = 2 ∨ w = 3 := by omega
        clear hr
        have hzH : zlo (va_up H (a + 513) (xTp (nz (cr d e)))) (a + 120) fd fa pa ms cv (zDirs S.2.1).length (zl S.2.1).length := zlo_fr hz3 (fun k _ _ => va_up_ne _ _ (by omega))
        have hdH : zdr (va_up H (a + 513) (xTp (nz (cr d e)))) (a + 120) (zDirs S.2.1) := fun i x hi => by
          have := (List.getElem?_eq_some_iff.mp hi).1
          have := (zDirs_ok hpr.1).1
          rw [va_up_ne _ _ (by omega)]
          exact hdr i x hi
        have hself : (va_up H (a + 513) (xTp (nz (cr d e)))) (a + 513) = xTp (nz (cr d e)) := va_up_self _ _ _
        have hself2 := hx3.1
        have hzc := zlo_cell hzH
        generalize va_up H (a + 513) (xTp (nz (cr d e))) = H3 at *
        rcases hcs with rfl | rfl | rfl | rfl
        · refine xs_tsIn (tgt := 92) dA_cross_62 (by decide) (by decide) rfl (by decide) ?_
          refine xs_aload_n dA_cross_92 rfl ?_
          refine xs_get dA_cross_93 flA_68 (by repeat (first | exact va_up_self _ _ _ | assumption | refine (va_up_ne _ _ (by omega)).trans ?_)) rfl ?_
          refine xs_get dA_cross_96 flA_165 (by repeat (first | exact va_up_self _ _ _ | assumption | refine (va_up_ne _ _ (by omega)).trans ?_)) rfl ?_
          exact xs_lret dA_cross_99 rfl (by omega) (by omega) (aOkL rfl rfl ⟨_, _, hx3⟩ hf3)
        · refine xs_tsIn (tgt := 100) dA_cross_62 (by decide) (by decide) rfl (by decide) ?_
          refine xs_aload_n dA_cross_100 rfl ?_
          refine xs_get dA_cross_101 flA_68 (by repeat (first | exact va_up_self _ _ _ | assumption | refine (va_up_ne _ _ (by omega)).trans ?_)) rfl ?_
          refine xs_get dA_cross_104 flA_169 (by repeat (first | exact va_up_self _ _ _ | assumption | refine (va_up_ne _ _ (by omega)).trans ?_)) rfl ?_
          exact xs_lret dA_cross_107 rfl (by omega) (by omega) (aOkL rfl rfl ⟨_, _, hx3⟩ hf3)
        · refine xs_tsIn (tgt := 108) dA_cross_62 (by decide) (by decide) rfl (by decide) ?_
          refine xs_aload_n dA_cross_108 rfl ?_
          refine xs_get dA_cross_109 flA_68 (by repeat (first | exact va_up_self _ _ _ | assumption | refine (va_up_ne _ _ (by omega)).trans ?_)) rfl ?_
          refine xs_get dA_cross_112 flA_172 (by repeat (first | exact va_up_self _ _ _ | assumption | refine (va_up_ne _ _ (by omega)).trans ?_)) rfl ?_
          exact xs_lret dA_cross_115 rfl (by omega) (by omega) (aOkL rfl rfl ⟨_, _, hx3⟩ hf3)
        · refine xs_tsIn (tgt := 116) dA_cross_62 (by decide) (by decide) rfl (by decide) ?_
          refine xs_aload dA_cross_116 rfl ?_
          refine xs_aload_n dA_cross_118 rfl ?_
          refine xs_get dA_cross_119 flA_68 (by repeat (first | exact va_up_self _ _ _ | assumption | refine (va_up_ne _ _ (by omega)).trans ?_)) rfl ?_
          refine xs_cV_ix (As := [_]) dA_cross_122 lkA_224 (by repeat (first | exact va_up_self _ _ _ | assumption | refine (va_up_ne _ _ (by omega)).trans ?_)) (k_Z_firstParallelTo hzH hdH (zDirs_ok hpr.1) hself (bd_mono (bd_nz hcb) (by decide))) rfl rfl (Nat.le_of_ble_eq_true rfl) ⟨by decide, by decide⟩ ⟨by omega, by omega⟩ ?_
          intro r H4 ⟨⟨o, h1, h2⟩, h3⟩
          subst h1
          subst h3
          have e9 := fpl_ixP h2
          have hob : (nO o).natAbs < 1073741824 := by
            cases o with
            | none => decide
            | some i =>
              obtain ⟨⟨d9, h7, _⟩, _⟩ := h2
              have h8 := (List.getElem?_eq_some_iff.mp h7).1
              have := (zDirs_ok hpr.1).1
              show ((i : Int)).natAbs < _
              omega
          rw [nO_r]
          refine xs_i2l dA_cross_125 ?_
          rw [iI_l hob]
          exact xs_lret dA_cross_126 rfl (by omega) (by omega) (aOkL rfl (by rw [← e9]; rfl) ⟨_, _, hx3⟩ hf3)
      case _ =>
        have heq2 : x.toInt = y.toInt := by rw [heq]
        have hR : rCross S x.toInt y.toInt u.toInt = (2, 0, S) := by
          rw [rCross, hfi, hgi]
          simp only [if_pos (Or.inl heq2 : x.toInt = y.toInt ∨ ¬ (0 ≤ u.toInt ∧ u.toInt ≤ 3))]
        rw [hR]
        exact xs_throw rfl rfl xtA (List.mem_of_getElem? (i := 8) rfl) dA_cross_23 dA_cross_26 dA_cross_27 dA_cross_29 dA_cross_32 (Nat.le_of_ble_eq_true rfl) ⟨by decide, by decide⟩ (by omega) (by omega) (aX2 rfl ⟨_, _, hx2⟩ (xzf_x hf))
end A7
