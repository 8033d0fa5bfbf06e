theorem ax_ok {V : zV} (hok : zOk V) {Z : List P3} {lst : Int} (hfin : zSet (zDirs V) lst Z) {k : Nat} {b : P3} (h : Z[k]? = some b) : bd 1100000 b ∧ b ≠ (0, 0, 0) ∧ nz b = b :=
  isAx_bd (zDirs_ok hok) ((hfin.2 b).mp (List.mem_of_getElem? h)).1
theorem sq_pos {d : P3} (h : d ≠ (0, 0, 0)) : 0 < dt d d := by
  obtain ⟨x, y, z⟩ := d
  have sq : ∀ x : Int, 0 ≤ x * x := fun x => by
    rcases Int.le_total 0 x with h | h
    · exact Int.mul_nonneg h h
    · have := Int.mul_nonneg (show 0 ≤ -x by omega) (show 0 ≤ -x by omega)
      grind
  have z0 : ∀ x : Int, x * x = 0 → x = 0 := fun x h => by
    rcases Int.mul_eq_zero.mp h with q | q <;> exact q
  have a1 := sq x
  have a2 := sq y
  have a3 := sq z
  show 0 < x * x + y * y + z * z
  by_cases q : 0 < x * x + y * y + z * z
  · exact q
  · exact absurd (by rw [z0 x (by omega), z0 y (by omega), z0 z (by omega)]) h
theorem dotL (d e : P3) : iL d.1 * iL e.1 + iL d.2.1 * iL e.2.1 + iL d.2.2 * iL e.2.2 = iL (dt d e) := by
  simp only [iL_mul, iL_add]
  rfl
section A6
variable {n a : Nat} {G : xG} {S : zS}
theorem k_A_zone {x y : Int32} (hx : fzo G a S) : xK mA_zone [.ref a, .int x, .int y] n G 1 6 (aPost n a G (rZone S x.toInt y.toInt)) (aExc n a G (rZone S x.toInt y.toInt) eX eA) := by
  obtain ⟨Vt, lis, hx⟩ := hx
  have hc := hx.1
  refine xK_of2 (L0 := [(0, _), (1, _), (2, _)]) (by decide +kernel) rfl (Nat.le_of_ble_eq_true rfl) rfl ?_
  refine xs_aload_n dA_zone_0 rfl ?_
  refine xs_cV_rx (As := []) dA_zone_1 lkA_119 (by repeat (first | assumption | exact va_up_self _ _ _ | refine (va_up_ne _ _ (by omega)).trans ?_)) (k_A_zonesNow hx) rfl rfl (Nat.le_of_ble_eq_true rfl) ⟨by decide, by decide⟩ ⟨by omega, by omega⟩ ?_
  intro r H ⟨h1, hx2, hf⟩
  subst h1
  obtain ⟨hc, htx, hpr, htr, hhi, hsa, hiv, hzp, hzt, hfm, hgr, hsc, hs0, hs1⟩ := id hx2
  obtain ⟨R, hz, hfin⟩ := zpr_now hzp
  obtain ⟨fd, fa, pa, ms, cv, hz3, hdr, hax, hms, hcv⟩ := id hz
  obtain ⟨⟨g0, g1, g2, g3, g4⟩, ⟨f1, f2, f3, f4⟩, ht, hn⟩ := id hz3
  cases hfi : fAt (zl S.2.1) x.toInt with
  | none =>
    have hno := fAt_none.mp hfi
    refine xs_astore_n (L2 := [(3, _), (0, _), (1, _), (2, _)]) dA_zone_4 (by decide) rfl ?_
    refine xs_iload_n dA_zone_5 rfl ?_
    refine xs_aload_n dA_zone_6 rfl ?_
    exact xs_cS_t (As := [_, _]) dA_zone_7 lkA_183 (k_A_rZx g0 hn.2 hno) rfl rfl (Nat.le_of_ble_eq_true rfl) ⟨by decide, by decide⟩ rfl ⟨by omega, by omega⟩ (aX1 (by simp only [rZone, hfi]) ⟨_, _, hx2⟩ (xzf_x hf))
  | some b =>
    obtain ⟨k, hk, hkl, hkf⟩ := fAt_some hfi
    obtain ⟨w, hw⟩ : ∃ w, w = y.toInt := ⟨_, rfl⟩
    have hyw : y = iI w := by rw [hw, iT]
    rw [← hw]
    by_cases hr : 0 ≤ w ∧ w ≤ 4
    case neg =>
      have ho : y.toInt < 0 ∨ 4 < y.toInt := by omega
      refine xs_astore_n (L2 := [(3, _), (0, _), (1, _), (2, _)]) dA_zone_4 (by decide) rfl ?_
      refine xs_iload_n dA_zone_5 rfl ?_
      refine xs_aload_n dA_zone_6 rfl ?_
      refine xs_cS_v (As := [_, _]) dA_zone_7 lkA_183 (k_A_rZ g0 hn.2 ⟨by omega, by omega⟩) rfl rfl (Nat.le_of_ble_eq_true rfl) ⟨by decide, by decide⟩ ⟨by omega, by omega⟩ ?_
      refine xs_iload_n dA_zone_10 rfl ?_
      refine xs_tsOut (tgt := 94) dA_zone_11 ho (by decide) ?_
      exact xs_throw rfl rfl xtA (List.mem_of_getElem? (i := 7) rfl) dA_zone_94 dA_zone_97 dA_zone_98 dA_zone_100 dA_zone_103 (Nat.le_of_ble_eq_true rfl) ⟨by decide, by decide⟩ (by omega) (by omega) (aX2 (by simp only [rZone, hfi, if_neg hr]) ⟨_, _, hx2⟩ (xzf_x hf))
    clear hw
    subst hyw
    have hR : rZone S x.toInt w = (0, zav (zDirs S.2.1) b w, S) := by
      rw [rZone, hfi]
      simp only [if_pos hr]
    rw [hR]
    have hcs : w = 0 ∨ w = 1 ∨ w = 2 ∨ w = 3 ∨ w = 4 := by omega
    have hxk := iTN hk
    refine xs_astore_n (L2 := [(3, _), (0, _), (1, _), (2, _)]) dA_zone_4 (by decide) rfl ?_
    refine xs_iload_n dA_zone_5 rfl ?_
    refine xs_aload_n dA_zone_6 rfl ?_
    refine xs_cS_v (As := [_, _]) dA_zone_7 lkA_183 (k_A_rZ g0 hn.2 ⟨by omega, by omega⟩) rfl rfl (Nat.le_of_ble_eq_true rfl) ⟨by decide, by decide⟩ ⟨by omega, by omega⟩ ?_
    refine xs_iload_n dA_zone_10 rfl ?_
    clear hR hr hfi hk
    subst hxk
    have hin : vp_in (nI k) 120 := vp_in_nI (by omega) (by omega)
    have hbc := hax k b hkf
    have hfk : fa (nI k).toNatClampNeg = some (pa k) := by rw [nI_clamp (by omega)]; exact f2 k (by omega)
    have hmk : ms (nI k).toNatClampNeg = nI (mem (zDirs S.2.1) b) := by rw [nI_clamp (by omega)]; exact hms k b hkf
    have hlt := mem_lt (zDirs S.2.1) b (zDirs_ok hpr.1).1
    rcases hcs with rfl | rfl | rfl | rfl | rfl
    · refine xs_tsIn (tgt := 44) dA_zone_11 (by decide) (by decide) rfl (by decide) ?_
      refine xs_aload_n dA_zone_44 rfl ?_
      refine xs_get dA_zone_45 flA_187 (by repeat (first | assumption | exact va_up_self _ _ _ | refine (va_up_ne _ _ (by omega)).trans ?_)) rfl ?_
      refine xs_iload_n dA_zone_48 rfl ?_
      refine xs_ald3 dA_zone_49 (by repeat (first | assumption | exact va_up_self _ _ _ | refine (va_up_ne _ _ (by omega)).trans ?_)) (by assumption) hfk ?_
      refine xs_get dA_zone_50 flA_165 (by repeat (first | assumption | exact va_up_self _ _ _ | refine (va_up_ne _ _ (by omega)).trans ?_)) rfl ?_
      refine xs_l2i dA_zone_53 ?_
      exact xs_iret dA_zone_54 rfl rfl (by omega) (by omega) (aOk rfl (iL_i _) ⟨_, _, hx2⟩ (xzf_x hf))
    · refine xs_tsIn (tgt := 55) dA_zone_11 (by decide) (by decide) rfl (by decide) ?_
      refine xs_aload_n dA_zone_55 rfl ?_
      refine xs_get dA_zone_56 flA_187 (by repeat (first | assumption | exact va_up_self _ _ _ | refine (va_up_ne _ _ (by omega)).trans ?_)) rfl ?_
      refine xs_iload_n dA_zone_59 rfl ?_
      refine xs_ald3 dA_zone_60 (by repeat (first | assumption | exact va_up_self _ _ _ | refine (va_up_ne _ _ (by omega)).trans ?_)) (by assumption) hfk ?_
      refine xs_get dA_zone_61 flA_169 (by repeat (first | assumption | exact va_up_self _ _ _ | refine (va_up_ne _ _ (by omega)).trans ?_)) rfl ?_
      refine xs_l2i dA_zone_64 ?_
      exact xs_iret dA_zone_65 rfl rfl (by omega) (by omega) (aOk rfl (iL_i _) ⟨_, _, hx2⟩ (xzf_x hf))
    · refine xs_tsIn (tgt := 66) dA_zone_11 (by decide) (by decide) rfl (by decide) ?_
      refine xs_aload_n dA_zone_66 rfl ?_
      refine xs_get dA_zone_67 flA_187 (by repeat (first | assumption | exact va_up_self _ _ _ | refine (va_up_ne _ _ (by omega)).trans ?_)) rfl ?_
      refine xs_iload_n dA_zone_70 rfl ?_
      refine xs_ald3 dA_zone_71 (by repeat (first | assumption | exact va_up_self _ _ _ | refine (va_up_ne _ _ (by omega)).trans ?_)) (by assumption) hfk ?_
      refine xs_get dA_zone_72 flA_172 (by repeat (first | assumption | exact va_up_self _ _ _ | refine (va_up_ne _ _ (by omega)).trans ?_)) rfl ?_
      refine xs_l2i dA_zone_75 ?_
      exact xs_iret dA_zone_76 rfl rfl (by omega) (by omega) (aOk rfl (iL_i _) ⟨_, _, hx2⟩ (xzf_x hf))
    · refine xs_tsIn (tgt := 77) dA_zone_11 (by decide) (by decide) rfl (by decide) ?_
      refine xs_aload_n dA_zone_77 rfl ?_
      refine xs_get dA_zone_78 flA_190 (by repeat (first | assumption | exact va_up_self _ _ _ | refine (va_up_ne _ _ (by omega)).trans ?_)) rfl ?_
      refine xs_iload_n dA_zone_81 rfl ?_
      refine xs_iald dA_zone_82 (by repeat (first | assumption | exact va_up_self _ _ _ | refine (va_up_ne _ _ (by omega)).trans ?_)) (by assumption) ?_
      rw [hmk]
      refine xs_cS_i (As := [_]) dA_zone_83 lkA_193 (k_I_bitCount hlt) rfl rfl (Nat.le_of_ble_eq_true rfl) ⟨by decide, by decide⟩ ⟨by omega, by omega⟩ ?_
      exact xs_iret dA_zone_86 rfl rfl (by omega) (by omega) (aOk rfl (iI_nat _) ⟨_, _, hx2⟩ (xzf_x hf))
    · refine xs_tsIn (tgt := 87) dA_zone_11 (by decide) (by decide) rfl (by decide) ?_
      refine xs_aload_n dA_zone_87 rfl ?_
      refine xs_get dA_zone_88 flA_190 (by repeat (first | assumption | exact va_up_self _ _ _ | refine (va_up_ne _ _ (by omega)).trans ?_)) rfl ?_
      refine xs_iload_n dA_zone_91 rfl ?_
      refine xs_iald dA_zone_92 (by repeat (first | assumption | exact va_up_self _ _ _ | refine (va_up_ne _ _ (by omega)).trans ?_)) (by assumption) ?_
      exact xs_iret dA_zone_93 rfl rfl (by omega) (by omega) (aOk rfl (hmk.trans (iI_nat _)) ⟨_, _, hx2⟩ (xzf_x hf))
theorem k_A_zoneOf {x y : Int32} (hx : fzo G a S) : xK mA_zoneOf [.ref a, .int x, .int y] n G 1 6 (aPost n a G (rZoneOf S x.toInt y.toInt)) (aExc n a G (rZoneOf S x.toInt y.toInt) eX eX) := by
  have hS := hx
  obtain ⟨Vt, lis, hx⟩ := hx
  obtain ⟨hc, htx, hpr, htr, hhi, hsa, hiv, hzp, hzt, hfm, hgr, hsc, hs0, hs1⟩ := id hx
  refine xK_of2 (L0 := [(0, _), (1, _), (2, _)]) (by decide +kernel) rfl (Nat.le_of_ble_eq_true rfl) rfl ?_
  cases hfi : fAt S.2.1.1 x.toInt with
  | none =>
    refine xs_aload_n dA_zoneOf_0 rfl ?_
    refine xs_iload_n dA_zoneOf_1 rfl ?_
    exact xs_cV_t (As := [_]) dA_zoneOf_2 lkA_145 (by repeat (first | assumption | exact va_up_self _ _ _ | refine (va_up_ne _ _ (by omega)).trans ?_)) (k_A_rFx hc hpr hfi) rfl rfl (Nat.le_of_ble_eq_true rfl) ⟨by decide, by decide⟩ rfl ⟨by omega, by omega⟩ (aX1 (by simp only [rZoneOf, hfi]) hS xfr_rf)
  | some f =>
    refine xs_aload_n dA_zoneOf_0 rfl ?_
    refine xs_iload_n dA_zoneOf_1 rfl ?_
    refine xs_cV_v (As := [_]) dA_zoneOf_2 lkA_145 (by repeat (first | assumption | exact va_up_self _ _ _ | refine (va_up_ne _ _ (by omega)).trans ?_)) (k_A_rF hc hpr hfi) rfl rfl (Nat.le_of_ble_eq_true rfl) ⟨by decide, by decide⟩ ⟨by omega, by omega⟩ ?_
    refine xs_aload_n dA_zoneOf_5 rfl ?_
    refine xs_iload_n dA_zoneOf_6 rfl ?_
    cases hgi : fAt S.2.1.1 y.toInt with
    | none =>
      exact xs_cV_t (As := [_]) dA_zoneOf_7 lkA_145 (by repeat (first | assumption | exact va_up_self _ _ _ | refine (va_up_ne _ _ (by omega)).trans ?_)) (k_A_rFx hc hpr hgi) rfl rfl (Nat.le_of_ble_eq_true rfl) ⟨by decide, by decide⟩ rfl ⟨by omega, by omega⟩ (aX1 (by simp only [rZoneOf, hfi, hgi]) hS xfr_rf)
    | some g =>
      obtain ⟨k, hk, hkl, hkf⟩ := fAt_some hfi
      obtain ⟨j, hj, hjl, hjf⟩ := fAt_some hgi
      have hR : rZoneOf S x.toInt y.toInt = (0, nO (zno S.2.1 f g), S) := by simp only [rZoneOf, hfi, hgi]
      rw [hR]
      refine xs_cV_v (As := [_]) dA_zoneOf_7 lkA_145 (by repeat (first | assumption | exact va_up_self _ _ _ | refine (va_up_ne _ _ (by omega)).trans ?_)) (k_A_rF hc hpr hgi) rfl rfl (Nat.le_of_ble_eq_true rfl) ⟨by decide, by decide⟩ ⟨by omega, by omega⟩ ?_
      refine xs_aload_n dA_zoneOf_10 rfl ?_
      refine xs_cV_rx (As := []) dA_zoneOf_11 lkA_119 (by repeat (first | assumption | exact va_up_self _ _ _ | refine (va_up_ne _ _ (by omega)).trans ?_)) (k_A_zonesNow hx) rfl rfl (Nat.le_of_ble_eq_true rfl) ⟨by decide, by decide⟩ ⟨by omega, by omega⟩ ?_
      intro r H ⟨h1, hx2, hf⟩
      subst h1
      rw [iTN hk, iTN hj]
      obtain ⟨hc, htx, hpr, htr, hhi, hsa, hiv, hzp, hzt, hfm, hgr, hsc, hs0, hs1⟩ := id hx2
      obtain ⟨R, hz, hfin⟩ := zpr_now hzp
      obtain ⟨fd, fa, pa, ms, cv, hz3, hdr, hax, hms, hcv⟩ := id hz
      have hzc := zlo_cell hz3
      have hdl : (zDirs S.2.1).length = S.2.1.1.length := List.length_map _
      have hset := zSet_of hfin
      refine xs_iload_n dA_zoneOf_14 rfl ?_
      refine xs_iload_n dA_zoneOf_15 rfl ?_
      refine xs_cV_ix (As := [_, _]) dA_zoneOf_16 lkA_200 (by repeat (first | assumption | exact va_up_self _ _ _ | refine (va_up_ne _ _ (by omega)).trans ?_)) (k_Z_numberOf hz (zDirs_ok hpr.1) hset (by omega) (by omega)) rfl rfl (Nat.le_of_ble_eq_true rfl) ⟨by decide, by decide⟩ ⟨by omega, by omega⟩ ?_
      intro r H2 ⟨⟨o, h1, h2⟩, h3⟩
      subst h1
      subst h3
      have e := znr_zno hpr.1 hset.1 hkf hjf h2
      exact xs_iret dA_zoneOf_19 rfl rfl (by omega) (by omega) (aOk rfl (by rw [e]; exact nO_r _) ⟨_, _, hx2⟩ (xzf_x hf))
theorem k_A_sameForm {x y : Int32} (hx : fzo G a S) : xK mA_sameForm [.ref a, .int x, .int y] n G 1 6 (aPost n a G (rSame S x.toInt y.toInt)) (aExc n a G (rSame S x.toInt y.toInt) eX eX) := by
  have hS := hx
  obtain ⟨Vt, lis, hx⟩ := hx
  obtain ⟨hc, htx, hpr, htr, hhi, hsa, hiv, hzp, hzt, hfm, hgr, hsc, hs0, hs1⟩ := id hx
  have hcell := cry_cell hpr
  refine xK_of2 (L0 := [(0, _), (1, _), (2, _)]) (by decide +kernel) rfl (Nat.le_of_ble_eq_true rfl) rfl ?_
  cases hfi : fAt S.2.1.1 x.toInt with
  | none =>
    refine xs_aload_n dA_sameForm_0 rfl ?_
    refine xs_iload_n dA_sameForm_1 rfl ?_
    exact xs_cV_t (As := [_]) dA_sameForm_2 lkA_145 (by repeat (first | assumption | exact va_up_self _ _ _ | refine (va_up_ne _ _ (by omega)).trans ?_)) (k_A_rFx hc hpr hfi) rfl rfl (Nat.le_of_ble_eq_true rfl) ⟨by decide, by decide⟩ rfl ⟨by omega, by omega⟩ (aX1 (by simp only [rSame, hfi]) hS xfr_rf)
  | some f =>
    refine xs_aload_n dA_sameForm_0 rfl ?_
    refine xs_iload_n dA_sameForm_1 rfl ?_
    refine xs_cV_v (As := [_]) dA_sameForm_2 lkA_145 (by repeat (first | assumption | exact va_up_self _ _ _ | refine (va_up_ne _ _ (by omega)).trans ?_)) (k_A_rF hc hpr hfi) rfl rfl (Nat.le_of_ble_eq_true rfl) ⟨by decide, by decide⟩ ⟨by omega, by omega⟩ ?_
    refine xs_aload_n dA_sameForm_5 rfl ?_
    refine xs_iload_n dA_sameForm_6 rfl ?_
    cases hgi : fAt S.2.1.1 y.toInt with
    | none =>
      exact xs_cV_t (As := [_]) dA_sameForm_7 lkA_145 (by repeat (first | assumption | exact va_up_self _ _ _ | refine (va_up_ne _ _ (by omega)).trans ?_)) (k_A_rFx hc hpr hgi) rfl rfl (Nat.le_of_ble_eq_true rfl) ⟨by decide, by decide⟩ rfl ⟨by omega, by omega⟩ (aX1 (by simp only [rSame, hfi, hgi]) hS xfr_rf)
    | some g =>
      obtain ⟨k, hk, hkl, hkf⟩ := fAt_some hfi
      obtain ⟨j, hj, hjl, hjf⟩ := fAt_some hgi
      have hR : rSame S x.toInt y.toInt = (0, bN (zSame S.2.1 f g), S) := by simp only [rSame, hfi, hgi]
      rw [hR]
      refine xs_cV_v (As := [_]) dA_sameForm_7 lkA_145 (by repeat (first | assumption | exact va_up_self _ _ _ | refine (va_up_ne _ _ (by omega)).trans ?_)) (k_A_rF hc hpr hgi) rfl rfl (Nat.le_of_ble_eq_true rfl) ⟨by decide, by decide⟩ ⟨by omega, by omega⟩ ?_
      refine xs_aload_n dA_sameForm_10 rfl ?_
      refine xs_get dA_sameForm_11 flA_19 (by repeat (first | assumption | exact va_up_self _ _ _ | refine (va_up_ne _ _ (by omega)).trans ?_)) rfl ?_
      rw [iTN hk, iTN hj]
      refine xs_iload_n dA_sameForm_14 rfl ?_
      refine xs_iload_n dA_sameForm_15 rfl ?_
      refine xs_cV_ix (As := [_, _]) dA_sameForm_16 lkA_235 (by repeat (first | assumption | exact va_up_self _ _ _ | refine (va_up_ne _ _ (by omega)).trans ?_)) (k_C_areOfOneForm hpr hkf hjf) rfl rfl (Nat.le_of_ble_eq_true rfl) ⟨by decide, by decide⟩ ⟨by omega, by omega⟩ ?_
      intro r H ⟨h1, h2, h3⟩
      subst h1
      exact xs_iret dA_sameForm_19 rfl (bI_n _) (by omega) (by omega) (aOk rfl (bN_I _) ⟨_, _, fzx_same hx h3 h2⟩ (xfr_mono h3 (by omega) (by omega)))
theorem wi99 {u v w : Int} (h : (wi 99 u && wi 99 v && wi 99 w) = true) : (-99 ≤ u ∧ u ≤ 99) ∧ (-99 ≤ v ∧ v ≤ 99) ∧ (-99 ≤ w ∧ w ≤ 99) := by
  simp only [Bool.and_eq_true, wi_iff] at h
  omega
theorem k_A_inZone {x y z : Int32} (hx : fzo G a S) : xK mA_inZone [.ref a, .int x, .int y, .int z] n G 1 6 (aPost n a G (rInZone S x.toInt y.toInt z.toInt)) (aExc n a G (rInZone S x.toInt y.toInt z.toInt) eA eA) := by
  have hS := hx
  obtain ⟨Vt, lis, hx⟩ := hx
  obtain ⟨hc, htx, hpr, htr, hhi, hsa, hiv, hzp, hzt, hfm, hgr, hsc, hs0, hs1⟩ := id hx
  obtain ⟨s1, s2, s3, hsc⟩ := hsc
  have hno : (wi 99 x.toInt && wi 99 y.toInt && wi 99 z.toInt) ≠ true → rInZone S x.toInt y.toInt z.toInt = (1, 0, S) := fun h => by rw [rInZone, if_neg h]
  refine xK_of2 (L0 := [(0, _), (1, _), (2, _), (3, _)]) (by decide +kernel) rfl (Nat.le_of_ble_eq_true rfl) rfl ?_
  by_cases h1 : (-99 : Int) ≤ x.toInt ∧ x.toInt ≤ 99
  case neg =>
    refine xs_iload_n dA_inZone_0 rfl ?_
    refine xs_bipush (v := (-99)) dA_inZone_1 (by decide) ?_
    refine xs_bipush (v := 99) dA_inZone_3 (by decide) ?_
    exact xs_cS_t (As := [_, _, _]) dA_inZone_5 lkA_76 (k_A_rrx (lo:=-99) (hi:=99) (by decide) (by decide) h1) rfl rfl (Nat.le_of_ble_eq_true rfl) ⟨by decide, by decide⟩ rfl ⟨by omega, by omega⟩ (aX1 (hno (fun q => h1 (wi99 q).1)) hS xfr_rf)
  refine xs_iload_n dA_inZone_0 rfl ?_
  refine xs_bipush (v := (-99)) dA_inZone_1 (by decide) ?_
  refine xs_bipush (v := 99) dA_inZone_3 (by decide) ?_
  refine xs_cS_v (As := [_, _, _]) dA_inZone_5 lkA_76 (k_A_rr (lo:=-99) (hi:=99) (by decide) (by decide) h1) rfl rfl (Nat.le_of_ble_eq_true rfl) ⟨by decide, by decide⟩ ⟨by omega, by omega⟩ ?_
  refine xs_iload_n dA_inZone_8 rfl ?_
  refine xs_bipush (v := (-99)) dA_inZone_9 (by decide) ?_
  refine xs_bipush (v := 99) dA_inZone_11 (by decide) ?_
  by_cases h2 : (-99 : Int) ≤ y.toInt ∧ y.toInt ≤ 99
  case neg =>
    exact xs_cS_t (As := [_, _, _]) dA_inZone_13 lkA_76 (k_A_rrx (lo:=-99) (hi:=99) (by decide) (by decide) h2) rfl rfl (Nat.le_of_ble_eq_true rfl) ⟨by decide, by decide⟩ rfl ⟨by omega, by omega⟩ (aX1 (hno (fun q => h2 (wi99 q).2.1)) hS xfr_rf)
  refine xs_cS_v (As := [_, _, _]) dA_inZone_13 lkA_76 (k_A_rr (lo:=-99) (hi:=99) (by decide) (by decide) h2) rfl rfl (Nat.le_of_ble_eq_true rfl) ⟨by decide, by decide⟩ ⟨by omega, by omega⟩ ?_
  refine xs_iload_n dA_inZone_16 rfl ?_
  refine xs_bipush (v := (-99)) dA_inZone_17 (by decide) ?_
  refine xs_bipush (v := 99) dA_inZone_19 (by decide) ?_
  by_cases h3 : (-99 : Int) ≤ z.toInt ∧ z.toInt ≤ 99
  case neg =>
    exact xs_cS_t (As := [_, _, _]) dA_inZone_21 lkA_76 (k_A_rrx (lo:=-99) (hi:=99) (by decide) (by decide) h3) rfl rfl (Nat.le_of_ble_eq_true rfl) ⟨by decide, by decide⟩ rfl ⟨by omega, by omega⟩ (aX1 (hno (fun q => h3 (wi99 q).2.2)) hS xfr_rf)
  have hyes : (wi 99 x.toInt && wi 99 y.toInt && wi 99 z.toInt) = true := by
    simp only [Bool.and_eq_true, wi_iff]
    omega
  obtain ⟨u, hu⟩ : ∃ u, u = x.toInt := ⟨_, rfl⟩
  obtain ⟨v, hv⟩ : ∃ v, v = y.toInt := ⟨_, rfl⟩
  obtain ⟨w, hw⟩ : ∃ w, w = z.toInt := ⟨_, rfl⟩
  have hR : rInZone S x.toInt y.toInt z.toInt = (0, if (u, v, w) = ((0, 0, 0) : P3) then -99999 else (pc (mem (zDirs S.2.1) (u, v, w)) : Int), S) := by rw [rInZone, if_pos hyes, hu, hv, hw]
  rw [hR]
  refine xs_cS_v (As := [_, _, _]) dA_inZone_21 lkA_76 (k_A_rr (lo:=-99) (hi:=99) (by decide) (by decide) h3) rfl rfl (Nat.le_of_ble_eq_true rfl) ⟨by decide, by decide⟩ ⟨by omega, by omega⟩ ?_
  have ex : x = iI u := by rw [hu, iT]
  have ey : y = iI v := by rw [hv, iT]
  have ez : z = iI w := by rw [hw, iT]
  rw [← hu] at h1
  rw [← hv] at h2
  rw [← hw] at h3
  clear hno hyes hR hu hv hw
  subst ex; subst ey; subst ez
  have hb : bd 1000 (u, v, w) := ⟨by show u.natAbs < 1000; omega, by show v.natAbs < 1000; omega, by show w.natAbs < 1000; omega⟩
  refine xs_aload_n dA_inZone_24 rfl ?_
  refine xs_get dA_inZone_25 flA_68 (by repeat (first | assumption | exact va_up_self _ _ _ | refine (va_up_ne _ _ (by omega)).trans ?_)) rfl ?_
  refine xs_iload_n dA_inZone_28 rfl ?_
  refine xs_i2l dA_inZone_29 ?_
  refine xs_iload_n dA_inZone_30 rfl ?_
  refine xs_i2l dA_inZone_31 ?_
  refine xs_iload_n dA_inZone_32 rfl ?_
  refine xs_i2l dA_inZone_33 ?_
  rw [iI_l (by omega), iI_l (by omega), iI_l (by omega)]
  have hx1 : fzx (va_up G (a + 513) (xTp (u, v, w))) a S.1 S.2.1 Vt S.2.2.1 S.2.2.2 lis := fzx_scr hx (xfr_up xfr_rf (by omega) (by omega)) ⟨_, _, _, va_up_self _ _ _⟩
  refine xs_cV_v (As := [_, _, _]) dA_inZone_34 lkA_204 (by repeat (first | assumption | exact va_up_self _ _ _ | refine (va_up_ne _ _ (by omega)).trans ?_)) (k_T_put hsc) rfl rfl (Nat.le_of_ble_eq_true rfl) ⟨by decide, by decide⟩ ⟨by omega, by omega⟩ ?_
  refine xs_aload_n dA_inZone_37 rfl ?_
  refine xs_get dA_inZone_38 flA_68 (by repeat (first | assumption | exact va_up_self _ _ _ | refine (va_up_ne _ _ (by omega)).trans ?_)) rfl ?_
  refine xs_cV_i (As := []) dA_inZone_41 lkA_207 (va_up_self _ _ _) (k_T_isZero (a:=iL u) (b:=iL v) (c:=iL w) (va_up_self _ _ _)) rfl rfl (Nat.le_of_ble_eq_true rfl) ⟨by decide, by decide⟩ ⟨by omega, by omega⟩ ?_
  rw [iz0 hb]
  refine xs_if_eq dA_inZone_44 (fun h => ?_) (fun h => ?_)
  · have h9 : ¬ (u, v, w) = ((0, 0, 0) : P3) := of_decide_eq_false ((bI_0 _).mp h)
    rw [if_neg h9]
    refine xs_aload_n dA_inZone_50 rfl ?_
    refine xs_cV_rx (As := []) dA_inZone_51 lkA_119 (by repeat (first | assumption | exact va_up_self _ _ _ | refine (va_up_ne _ _ (by omega)).trans ?_)) (k_A_zonesNow hx1) rfl rfl (Nat.le_of_ble_eq_true rfl) ⟨by decide, by decide⟩ ⟨by omega, by omega⟩ ?_
    intro r H ⟨h1, hx2, hf⟩
    subst h1
    have hsH : H (a + 513) = xTp (u, v, w) := by rw [hf _ (by omega) (by omega)]; exact va_up_self _ _ _
    obtain ⟨hc, htx, hpr, htr, hhi, hsa, hiv, hzp, hzt, hfm, hgr, hsc, hs0, hs1⟩ := id hx2
    obtain ⟨R, hz, hfin⟩ := zpr_now hzp
    obtain ⟨fd, fa, pa, ms, cv, hz3, hdr, hax, hms, hcv⟩ := id hz
    have hzc := zlo_cell hz3
    have hlt := mem_lt (zDirs S.2.1) (u, v, w) (zDirs_ok hpr.1).1
    refine xs_aload_n dA_inZone_54 rfl ?_
    refine xs_get dA_inZone_55 flA_68 (by repeat (first | assumption | exact va_up_self _ _ _ | refine (va_up_ne _ _ (by omega)).trans ?_)) rfl ?_
    refine xs_cV_i (As := [_]) dA_inZone_58 lkA_211 (by repeat (first | assumption | exact va_up_self _ _ _ | refine (va_up_ne _ _ (by omega)).trans ?_)) (k_Z_membersOf hz3 hdr (zDirs_ok hpr.1) hsH (bd_mono hb (by decide))) rfl rfl (Nat.le_of_ble_eq_true rfl) ⟨by decide, by decide⟩ ⟨by omega, by omega⟩ ?_
    refine xs_cS_i (As := [_]) dA_inZone_61 lkA_193 (k_I_bitCount hlt) rfl rfl (Nat.le_of_ble_eq_true rfl) ⟨by decide, by decide⟩ ⟨by omega, by omega⟩ ?_
    exact xs_iret dA_inZone_64 rfl rfl (by omega) (by omega) (aOk rfl (iI_nat _) ⟨_, _, hx2⟩ (xfr_tr (xfr_up xfr_rf (by omega) (by omega)) (xzf_x hf)))
  · have h9 : (u, v, w) = ((0, 0, 0) : P3) := of_decide_eq_true ((bI_1n _).mp h)
    rw [if_pos h9]
    refine xs_ldc dA_inZone_47 kcA_99 ?_
    exact xs_iret dA_inZone_49 rfl rfl (by omega) (by omega) (aOk rfl rfl ⟨_, _, hx1⟩ (xfr_up xfr_rf (by omega) (by omega)))
theorem k_A_angle {x y : Int32} (hx : fzo G a S) : xK mA_angle [.ref a, .int x, .int y] n G 1 6 (aPost n a G (rAngle S x.toInt y.toInt)) (aExc n a G (rAngle S x.toInt y.toInt) eX eX) := by
  have hS := hx
  obtain ⟨Vt, lis, hx⟩ := hx
  obtain ⟨hc, htx, hpr, htr, hhi, hsa, hiv, hzp, hzt, hfm, hgr, hsc, hs0, hs1⟩ := id hx
  refine xK_of2 (L0 := [(0, _), (1, _), (2, _)]) (by decide +kernel) rfl (Nat.le_of_ble_eq_true rfl) rfl ?_
  cases hfi : fAt S.2.1.1 x.toInt with
  | none =>
    refine xs_aload_n dA_angle_0 rfl ?_
    refine xs_iload_n dA_angle_1 rfl ?_
    exact xs_cV_t (As := [_]) dA_angle_2 lkA_145 (by repeat (first | assumption | exact va_up_self _ _ _ | refine (va_up_ne _ _ (by omega)).trans ?_)) (k_A_rFx hc hpr hfi) rfl rfl (Nat.le_of_ble_eq_true rfl) ⟨by decide, by decide⟩ rfl ⟨by omega, by omega⟩ (aX1 (by simp only [rAngle, hfi]) hS xfr_rf)
  | some f =>
    refine xs_aload_n dA_angle_0 rfl ?_
    refine xs_iload_n dA_angle_1 rfl ?_
    refine xs_cV_v (As := [_]) dA_angle_2 lkA_145 (by repeat (first | assumption | exact va_up_self _ _ _ | refine (va_up_ne _ _ (by omega)).trans ?_)) (k_A_rF hc hpr hfi) rfl rfl (Nat.le_of_ble_eq_true rfl) ⟨by decide, by decide⟩ ⟨by omega, by omega⟩ ?_
    refine xs_aload_n dA_angle_5 rfl ?_
    refine xs_iload_n dA_angle_6 rfl ?_
    cases hgi : fAt S.2.1.1 y.toInt with
    | none =>
      exact xs_cV_t (As := [_]) dA_angle_7 lkA_145 (by repeat (first | assumption | exact va_up_self _ _ _ | refine (va_up_ne _ _ (by omega)).trans ?_)) (k_A_rFx hc hpr hgi) rfl rfl (Nat.le_of_ble_eq_true rfl) ⟨by decide, by decide⟩ rfl ⟨by omega, by omega⟩ (aX1 (by simp only [rAngle, hfi, hgi]) hS xfr_rf)
    | some g =>
      obtain ⟨k, hk, hkl, hkf⟩ := fAt_some hfi
      obtain ⟨j, hj, hjl, hjf⟩ := fAt_some hgi
      obtain ⟨d, hd⟩ : ∃ d, d = zDir S.2.1.2.2.2 f := ⟨_, rfl⟩
      obtain ⟨e, he⟩ : ∃ e, e = zDir S.2.1.2.2.2 g := ⟨_, rfl⟩
      have hR : rAngle S x.toInt y.toInt = (0, anv d e, S) := by simp only [rAngle, hfi, hgi, hd, he]
      rw [hR]
      refine xs_cV_v (As := [_]) dA_angle_7 lkA_145 (by repeat (first | assumption | exact va_up_self _ _ _ | refine (va_up_ne _ _ (by omega)).trans ?_)) (k_A_rF hc hpr hgi) rfl rfl (Nat.le_of_ble_eq_true rfl) ⟨by decide, by decide⟩ ⟨by omega, by omega⟩ ?_
      refine xs_aload_n dA_angle_10 rfl ?_
      refine xs_cV_rx (As := []) dA_angle_11 lkA_119 (by repeat (first | assumption | exact va_up_self _ _ _ | refine (va_up_ne _ _ (by omega)).trans ?_)) (k_A_zonesNow hx) rfl rfl (Nat.le_of_ble_eq_true rfl) ⟨by decide, by decide⟩ ⟨by omega, by omega⟩ ?_
      intro r H ⟨h1, hx2, hf⟩
      subst h1
      obtain ⟨hc, htx, hpr, htr, hhi, hsa, hiv, hzp, hzt, hfm, hgr, hsc, hs0, hs1⟩ := id hx2
      obtain ⟨R, hz, hfin⟩ := zpr_now hzp
      obtain ⟨fd, fa, pa, ms, cv, hz3, hdr, hax, hms, hcv⟩ := id hz
      obtain ⟨⟨g0, g1, g2, g3, g4⟩, ⟨f1, f2, f3, f4⟩, ht, hn⟩ := id hz3
      have hN := hpr.1.1
      have hk16 := fin16 (i := k) (by omega)
      have hfk : fd (nI k).toNatClampNeg = some (a + 120 + 5 + k) := by rw [nI_clamp (by omega)]; exact f1 k (by omega)
      rw [iTN hk, iTN hj]
      refine xs_get dA_angle_14 flA_161 (by repeat (first | assumption | exact va_up_self _ _ _ | refine (va_up_ne _ _ (by omega)).trans ?_)) rfl ?_
      refine xs_iload_n dA_angle_17 rfl ?_
      refine xs_ald3 dA_angle_18 (by repeat (first | assumption | exact va_up_self _ _ _ | refine (va_up_ne _ _ (by omega)).trans ?_)) (by assumption) hfk ?_
      refine xs_astore_n (L2 := [(3, _), (0, _), (1, _), (2, _)]) dA_angle_19 (by decide) rfl ?_
      refine xs_aload_n dA_angle_20 rfl ?_
      refine xs_cV_rx (As := []) dA_angle_21 lkA_119 (by repeat (first | assumption | exact va_up_self _ _ _ | refine (va_up_ne _ _ (by omega)).trans ?_)) (k_A_zonesNow hx2) rfl rfl (Nat.le_of_ble_eq_true rfl) ⟨by decide, by decide⟩ ⟨by omega, by omega⟩ ?_
      intro r H2 ⟨h1, hx3, hf2⟩
      subst h1
      obtain ⟨hc, htx, hpr, htr, hhi, hsa, hiv, hzp, hzt, hfm, hgr, hsc, hs0, hs1⟩ := id hx3
      obtain ⟨R2, hz, hfin⟩ := zpr_now hzp
      obtain ⟨fd, fa, pa, ms, cv, hz3, hdr, hax, hms, hcv⟩ := id hz
      obtain ⟨⟨g0, g1, g2, g3, g4⟩, ⟨f1, f2, f3, f4⟩, ht, hn⟩ := id hz3
      have hj16 := fin16 (i := j) (by omega)
      have hfj : fd (nI j).toNatClampNeg = some (a + 120 + 5 + j) := by rw [nI_clamp (by omega)]; exact f1 j (by omega)
      have hdc : H2 (a + 120 + 5 + k) = xTp d := by rw [hd]; exact hdr k _ (zDirs_get hkf)
      have hec : H2 (a + 120 + 5 + j) = xTp e := by rw [he]; exact hdr j _ (zDirs_get hjf)
      have hdk := zDir_ok hpr.1.2.2.2.2 (hpr.1.2.1 f (List.mem_of_getElem? hkf))
      have hek := zDir_ok hpr.1.2.2.2.2 (hpr.1.2.1 g (List.mem_of_getElem? hjf))
      rw [← hd] at hdk
      rw [← he] at hek
      have b1 := dt_bd hdk.1 hek.1
      have b2 := dt_bd hdk.1 hdk.1
      have b3 := dt_bd hek.1 hek.1
      have p2 := sq_pos hdk.2.1
      have p3 := sq_pos hek.2.1
      have b4 : (dt d d * dt e e).natAbs ≤ 1598700 * 1598700 := mulb (by omega) (by omega)
      have p4 : 0 < dt d d * dt e e := Int.mul_pos p2 p3
      have b5 : (10000 * dt d e).natAbs ≤ 10000 * 1598700 := mulb (by decide) (by omega)
      have b6 : (10000 * dt d e * dt d e).natAbs ≤ 10000 * 1598700 * 1598700 := mulb b5 (by omega)
      refine xs_get dA_angle_24 flA_161 (by repeat (first | assumption | exact va_up_self _ _ _ | refine (va_up_ne _ _ (by omega)).trans ?_)) rfl ?_
      refine xs_iload_n dA_angle_27 rfl ?_
      refine xs_ald3 dA_angle_28 (by repeat (first | assumption | exact va_up_self _ _ _ | refine (va_up_ne _ _ (by omega)).trans ?_)) (by assumption) hfj ?_
      refine xs_astore (L2 := [(4, _), (3, _), (0, _), (1, _), (2, _)]) dA_angle_29 (by decide) rfl ?_
      refine xs_aload_n dA_angle_31 rfl ?_
      refine xs_aload dA_angle_32 rfl ?_
      refine xs_cV_l (As := [_]) dA_angle_34 lkA_229 (by repeat (first | assumption | exact va_up_self _ _ _ | refine (va_up_ne _ _ (by omega)).trans ?_)) (k_T_dot hdc hec) rfl rfl (Nat.le_of_ble_eq_true rfl) ⟨by decide, by decide⟩ ⟨by omega, by omega⟩ ?_
      refine xs_lstore (L2 := [(5, _), (4, _), (3, _), (0, _), (1, _), (2, _)]) dA_angle_37 (by decide) rfl ?_
      refine xs_aload_n dA_angle_39 rfl ?_
      refine xs_aload_n dA_angle_40 rfl ?_
      refine xs_cV_l (As := [_]) dA_angle_41 lkA_229 (by repeat (first | assumption | exact va_up_self _ _ _ | refine (va_up_ne _ _ (by omega)).trans ?_)) (k_T_dot hdc hdc) rfl rfl (Nat.le_of_ble_eq_true rfl) ⟨by decide, by decide⟩ ⟨by omega, by omega⟩ ?_
      refine xs_aload dA_angle_44 rfl ?_
      refine xs_aload dA_angle_46 rfl ?_
      refine xs_cV_l (As := [_]) dA_angle_48 lkA_229 (by repeat (first | assumption | exact va_up_self _ _ _ | refine (va_up_ne _ _ (by omega)).trans ?_)) (k_T_dot hec hec) rfl rfl (Nat.le_of_ble_eq_true rfl) ⟨by decide, by decide⟩ ⟨by omega, by omega⟩ ?_
      rw [dotL, dotL, dotL]
      refine xs_lmul dA_angle_51 ?_
      refine xs_lstore (L2 := [(7, _), (5, _), (4, _), (3, _), (0, _), (1, _), (2, _)]) dA_angle_52 (by decide) rfl ?_
      refine xs_lload dA_angle_54 rfl ?_
      refine xs_lconst (v := 0) dA_angle_56 (by decide) ?_
      rw [iL_mul]
      refine xs_lc_gt dA_angle_57 dA_angle_58 (fun _ => ?_) (fun q => absurd ((iL_lt (x := 0) (by decide) (by omega)).mpr p4) q)
      refine xs_ldc2 dA_angle_63 kcA_233 ?_
      refine xs_lload dA_angle_66 rfl ?_
      refine xs_lmul dA_angle_68 ?_
      refine xs_lload dA_angle_69 rfl ?_
      refine xs_lmul dA_angle_71 ?_
      refine xs_lload dA_angle_72 rfl ?_
      rw [show (10000 : Int64) = iL 10000 from rfl, iL_mul, iL_mul]
      refine xs_ldiv dA_angle_74 (fun q => absurd ((iL_eq (y:=0) (by omega) (by decide)).mp q) (by omega)) ?_
      refine xs_l2i dA_angle_75 ?_
      refine xs_istore (L2 := [(9, _), (7, _), (5, _), (4, _), (3, _), (0, _), (1, _), (2, _)]) dA_angle_76 (by decide) rfl ?_
      refine xs_lload dA_angle_78 rfl ?_
      refine xs_lconst (v := 0) dA_angle_80 (by decide) ?_
      rw [iL_tdiv (by omega) (by omega), iL_i]
      have hlt := iL_le (x := 0) (y := dt d e) (by decide) (by omega)
      refine xs_lc_ge dA_angle_81 dA_angle_82 (fun h => ?_) (fun h => ?_)
      · have h9 : ¬ dt d e < 0 := by
          have := hlt.mp h
          omega
        refine xs_iload dA_angle_91 rfl ?_
        exact xs_iret dA_angle_93 rfl rfl (by omega) (by omega) (aOk rfl (by rw [anv, if_neg h9]) ⟨_, _, hx3⟩ (xfr_tr (xzf_x hf) (xzf_x hf2)))
      · have h9 : dt d e < 0 := by
          by_cases q : dt d e < 0
          · exact q
          · exact absurd (hlt.mpr (by omega)) h
        refine xs_iload dA_angle_85 rfl ?_
        refine xs_ineg dA_angle_87 ?_
        refine xs_goto dA_angle_88 ?_
        exact xs_iret dA_angle_93 rfl rfl (by omega) (by omega) (aOk rfl (by rw [anv, if_pos h9, iI_neg]) ⟨_, _, hx3⟩ (xfr_tr (xzf_x hf) (xzf_x hf2)))
end A6
