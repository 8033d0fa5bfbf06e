theorem ixA_some {Z : List P3} {a : P3} {k : Nat} (hn : Z.Nodup) (h : Z[k]? = some a) : ixA Z a = some k := by
  obtain ⟨hk, e⟩ := List.getElem?_eq_some_iff.mp h
  refine List.findIdx?_eq_some_iff_getElem.mpr ⟨hk, decide_eq_true e, fun j hj q => ?_⟩
  have e2 := of_decide_eq_true q
  have h2 : Z[j]? = some a := by rw [List.getElem?_eq_getElem (Nat.lt_trans hj hk), e2]
  exact absurd (injL_of hn j k a h2 h) (by omega)
theorem ixA_none {Z : List P3} {a : P3} (h : a ∉ Z) : ixA Z a = none :=
  List.findIdx?_eq_none_iff.mpr fun x hx => decide_eq_false fun e => h (e ▸ hx)
theorem zDirs_get {V : zV} {i : Nat} {f : zF} (h : V.1[i]? = some f) : (zDirs V)[i]? = some (zDir V.2.2.2 f) := by
  rw [zDirs, List.getElem?_map, h]
  rfl
theorem znr_zno {V : zV} {f g : zF} {i j : Nat} {o : Option Nat} (hok : zOk V) (hn : (zl V).Nodup) (hf : V.1[i]? = some f) (hg : V.1[j]? = some g) (h : znr (zDirs V) (zl V) i j o) : zno V f g = o := by
  have hd := zDirs_get hf
  have he := zDirs_get hg
  have hdk := (zDirs_ok hok).2 _ (List.mem_of_getElem? hd)
  have hek := (zDirs_ok hok).2 _ (List.mem_of_getElem? he)
  have hpc := par_cr hdk.2.1 hek.2.1 hdk.2.2 hek.2.2
  unfold zno
  cases o with
  | none =>
    rcases h _ _ hd he with h | h
    · rw [if_pos (hpc.mpr h)]
    · split
      · rfl
      · exact ixA_none h
  | some k =>
    obtain ⟨d, e, h1, h2, h3, h4⟩ := h
    cases hd.symm.trans h1
    cases he.symm.trans h2
    rw [if_neg (fun q => h3 (hpc.mp q))]
    exact ixA_some hn h4
theorem par_b {d a : P3} : (decide (d = a) || decide (d = ng a)) = true ↔ par d a := by
  rw [Bool.or_eq_true, decide_eq_true_iff, decide_eq_true_iff]
  rfl
theorem fpl_ixP {D : List P3} {a : P3} {o : Option Nat} (h : fpl D a o) : ixP D a = o := by
  cases o with
  | none =>
    refine List.findIdx?_eq_none_iff.mpr fun x hx => ?_
    obtain ⟨j, hj⟩ := List.getElem?_of_mem hx
    exact Bool.eq_false_iff.mpr fun q => h j x hj (par_b.mp q)
  | some k =>
    obtain ⟨⟨d, h1, h2⟩, h3⟩ := h
    obtain ⟨hk, e⟩ := List.getElem?_eq_some_iff.mp h1
    refine List.findIdx?_eq_some_iff_getElem.mpr ⟨hk, by rw [e]; exact par_b.mpr h2, fun j hj q => ?_⟩
    exact h3 j _ hj (List.getElem?_eq_getElem (Nat.lt_trans hj hk)) (par_b.mp q)
theorem cr_bd2 {d e : P3} (hd : bd 1100000 d) (he : bd 1100000 e) : bd 2500000000000 (cr d e) := by
  obtain ⟨d1, d2, d3⟩ := d
  obtain ⟨e1, e2, e3⟩ := e
  obtain ⟨x1, x2, x3⟩ := hd
  obtain ⟨y1, y2, y3⟩ := he
  simp only at x1 x2 x3 y1 y2 y3
  have f : ∀ x y : Int, x.natAbs < 1100000 → y.natAbs < 1100000 → (x * y).natAbs ≤ 1100000 * 1100000 := fun x y hx hy => mulb (Nat.le_of_lt hx) (Nat.le_of_lt hy)
  have t1 := f d2 e3 x2 y3
  have t2 := f d3 e2 x3 y2
  have t3 := f d3 e1 x3 y1
  have t4 := f d1 e3 x1 y3
  have t5 := f d1 e2 x1 y2
  have t6 := f d2 e1 x2 y1
  refine ⟨?_, ?_, ?_⟩ <;> simp only [cr] <;> omega
theorem iTN {x : Int32} {k : Nat} (h : x.toInt = (k : Int)) : x = nI k := by rw [iI_nat, ← h, iT]
section A5
variable {n a : Nat} {G : xG} {S : zS}
theorem k_A_about {x : Int32} (hx : fzo G a S) : xK mA_about [.ref a, .int x] n G 1 6 (aPost n a G (rAbout S x.toInt)) (aExc n a G (rAbout S x.toInt) eA eA) := by
  have hS := hx
  obtain ⟨Vt, lis, hx⟩ := hx
  obtain ⟨hc, htx, hpr, htr, hhi, hsa, hiv, hzp, hzt, hfm, hgr, hsc, hs0, hs1⟩ := id hx
  have hcell := cry_cell hpr
  obtain ⟨w, hw⟩ : ∃ w, w = x.toInt := ⟨_, rfl⟩
  have hxw : x = iI w := by rw [hw, iT]
  rw [← hw]
  by_cases hr : 0 ≤ w ∧ w ≤ 9
  case neg =>
    have ho : x.toInt < 0 ∨ 9 < x.toInt := by omega
    refine xK_of2 (L0 := [(0, _), (1, _)]) (by decide +kernel) rfl (Nat.le_of_ble_eq_true rfl) rfl ?_
    refine xs_iload_n dA_about_0 rfl ?_
    refine xs_tsOut (tgt := 137) dA_about_1 ho (by decide) ?_
    exact xs_throw rfl rfl xtA (List.mem_of_getElem? (i := 3) rfl) dA_about_137 dA_about_140 dA_about_141 dA_about_143 dA_about_146 (Nat.le_of_ble_eq_true rfl) ⟨by decide, by decide⟩ (by omega) (by omega) (aX1 (by rw [rAbout, if_neg hr]) hS xfr_rf)
  clear hw
  subst hxw
  have hR : rAbout S w = (0, abv S.2.1 w, S) := by rw [rAbout, if_pos hr]
  rw [hR]
  have hcs : w = 0 ∨ w = 1 ∨ w = 2 ∨ w = 3 ∨ w = 4 ∨ w = 5 ∨ w = 6 ∨ w = 7 ∨ w = 8 ∨ w = 9 := by omega
  refine xK_of2 (L0 := [(0, _), (1, _)]) (by decide +kernel) rfl (Nat.le_of_ble_eq_true rfl) rfl ?_
  refine xs_iload_n dA_about_0 rfl ?_
  clear hR hr
  rcases hcs with rfl | rfl | rfl | rfl | rfl | rfl | rfl | rfl | rfl | rfl
  · refine xs_tsIn (tgt := 56) dA_about_1 (by decide) (by decide) rfl (by decide) ?_
    refine xs_aload_n dA_about_56 rfl ?_
    refine xs_get dA_about_57 flA_19 (by repeat (first | assumption | exact va_up_self _ _ _ | refine (va_up_ne _ _ (by omega)).trans ?_)) rfl ?_
    refine xs_get dA_about_60 flA_106 (by repeat (first | assumption | exact va_up_self _ _ _ | refine (va_up_ne _ _ (by omega)).trans ?_)) rfl ?_
    exact xs_iret dA_about_63 rfl rfl (by omega) (by omega) (aOk rfl (iI_nat _) hS xfr_rf)
  · refine xs_tsIn (tgt := 64) dA_about_1 (by decide) (by decide) rfl (by decide) ?_
    refine xs_aload_n dA_about_64 rfl ?_
    refine xs_get dA_about_65 flA_19 (by repeat (first | assumption | exact va_up_self _ _ _ | refine (va_up_ne _ _ (by omega)).trans ?_)) rfl ?_
    refine xs_iconst (v := 1) dA_about_68 (by decide) ?_
    refine xs_cV_i (As := [_]) dA_about_69 lkA_109 (by repeat (first | assumption | exact va_up_self _ _ _ | refine (va_up_ne _ _ (by omega)).trans ?_)) (k_C_countHalf hpr) rfl rfl (Nat.le_of_ble_eq_true rfl) ⟨by decide, by decide⟩ ⟨by omega, by omega⟩ ?_
    exact xs_iret dA_about_72 rfl rfl (by omega) (by omega) (aOk rfl (iI_nat _) hS xfr_rf)
  · refine xs_tsIn (tgt := 73) dA_about_1 (by decide) (by decide) rfl (by decide) ?_
    refine xs_aload_n dA_about_73 rfl ?_
    refine xs_get dA_about_74 flA_19 (by repeat (first | assumption | exact va_up_self _ _ _ | refine (va_up_ne _ _ (by omega)).trans ?_)) rfl ?_
    refine xs_get dA_about_77 flA_113 (by repeat (first | assumption | exact va_up_self _ _ _ | refine (va_up_ne _ _ (by omega)).trans ?_)) rfl ?_
    exact xs_iret dA_about_80 rfl rfl (by omega) (by omega) (aOk rfl rfl hS xfr_rf)
  · refine xs_tsIn (tgt := 81) dA_about_1 (by decide) (by decide) rfl (by decide) ?_
    refine xs_aload_n dA_about_81 rfl ?_
    refine xs_get dA_about_82 flA_19 (by repeat (first | assumption | exact va_up_self _ _ _ | refine (va_up_ne _ _ (by omega)).trans ?_)) rfl ?_
    refine xs_get dA_about_85 flA_116 (by repeat (first | assumption | exact va_up_self _ _ _ | refine (va_up_ne _ _ (by omega)).trans ?_)) rfl ?_
    exact xs_iret dA_about_88 rfl rfl (by omega) (by omega) (aOk rfl rfl hS xfr_rf)
  · refine xs_tsIn (tgt := 89) dA_about_1 (by decide) (by decide) rfl (by decide) ?_
    refine xs_aload_n dA_about_89 rfl ?_
    refine xs_cV_rx (As := []) dA_about_90 lkA_119 (by repeat (first | assumption | exact va_up_self _ _ _ | refine (va_up_ne _ _ (by omega)).trans ?_)) (k_A_zonesNow hx) rfl rfl (Nat.le_of_ble_eq_true rfl) ⟨by decide, by decide⟩ ⟨by omega, by omega⟩ ?_
    intro r H ⟨h1, hx2, hf⟩
    subst h1
    obtain ⟨hc, htx, hpr, htr, hhi, hsa, hiv, hzp, hzt, hfm, hgr, hsc, hs0, hs1⟩ := id hx2
    obtain ⟨R, hz, hfin⟩ := zpr_now hzp
    obtain ⟨fd, fa, pa, ms, cv, hz3, hdr, hax, hms, hcv⟩ := id hz
    have hzc := zlo_cell hz3
    refine xs_get dA_about_93 flA_123 (by repeat (first | assumption | exact va_up_self _ _ _ | refine (va_up_ne _ _ (by omega)).trans ?_)) rfl ?_
    exact xs_iret dA_about_96 rfl rfl (by omega) (by omega) (aOk rfl (by rw [← zcn_eq (zSet_of hfin)]; exact iI_nat _) ⟨_, _, hx2⟩ (xzf_x hf))
  · refine xs_tsIn (tgt := 97) dA_about_1 (by decide) (by decide) rfl (by decide) ?_
    refine xs_aload_n dA_about_97 rfl ?_
    refine xs_cV_rx (As := []) dA_about_98 lkA_119 (by repeat (first | assumption | exact va_up_self _ _ _ | refine (va_up_ne _ _ (by omega)).trans ?_)) (k_A_zonesNow hx) rfl rfl (Nat.le_of_ble_eq_true rfl) ⟨by decide, by decide⟩ ⟨by omega, by omega⟩ ?_
    intro r H ⟨h1, hx2, hf⟩
    subst h1
    obtain ⟨hc, htx, hpr, htr, hhi, hsa, hiv, hzp, hzt, hfm, hgr, hsc, hs0, hs1⟩ := id hx2
    obtain ⟨R, hz, hfin⟩ := zpr_now hzp
    obtain ⟨fd, fa, pa, ms, cv, hz3, hdr, hax, hms, hcv⟩ := id hz
    have hzc := zlo_cell hz3
    refine xs_cV_i (As := []) dA_about_101 lkA_124 (by repeat (first | assumption | exact va_up_self _ _ _ | refine (va_up_ne _ _ (by omega)).trans ?_)) (k_Z_countDirections hz3 hdr (zDirs_ok hpr.1)) rfl rfl (Nat.le_of_ble_eq_true rfl) ⟨by decide, by decide⟩ ⟨by omega, by omega⟩ ?_
    exact xs_iret dA_about_104 rfl rfl (by omega) (by omega) (aOk rfl (iI_nat _) ⟨_, _, hx2⟩ (xzf_x hf))
  · refine xs_tsIn (tgt := 105) dA_about_1 (by decide) (by decide) rfl (by decide) ?_
    refine xs_aload_n dA_about_105 rfl ?_
    refine xs_cV_rx (As := []) dA_about_106 lkA_119 (by repeat (first | assumption | exact va_up_self _ _ _ | refine (va_up_ne _ _ (by omega)).trans ?_)) (k_A_zonesNow hx) rfl rfl (Nat.le_of_ble_eq_true rfl) ⟨by decide, by decide⟩ ⟨by omega, by omega⟩ ?_
    intro r H ⟨h1, hx2, hf⟩
    subst h1
    obtain ⟨hc, htx, hpr, htr, hhi, hsa, hiv, hzp, hzt, hfm, hgr, hsc, hs0, hs1⟩ := id hx2
    obtain ⟨R, hz, hfin⟩ := zpr_now hzp
    obtain ⟨fd, fa, pa, ms, cv, hz3, hdr, hax, hms, hcv⟩ := id hz
    have hzc := zlo_cell hz3
    refine xs_cV_i (As := []) dA_about_109 lkA_128 (by repeat (first | assumption | exact va_up_self _ _ _ | refine (va_up_ne _ _ (by omega)).trans ?_)) (k_Z_longest hz (zDirs_ok hpr.1).1) rfl rfl (Nat.le_of_ble_eq_true rfl) ⟨by decide, by decide⟩ ⟨by omega, by omega⟩ ?_
    exact xs_iret dA_about_112 rfl rfl (by omega) (by omega) (aOk rfl (by rw [← zlg_eq (zSet_of hfin)]; exact iI_nat _) ⟨_, _, hx2⟩ (xzf_x hf))
  · refine xs_tsIn (tgt := 113) dA_about_1 (by decide) (by decide) rfl (by decide) ?_
    refine xs_aload_n dA_about_113 rfl ?_
    refine xs_get dA_about_114 flA_19 (by repeat (first | assumption | exact va_up_self _ _ _ | refine (va_up_ne _ _ (by omega)).trans ?_)) rfl ?_
    refine xs_get dA_about_117 flA_131 (by repeat (first | assumption | exact va_up_self _ _ _ | refine (va_up_ne _ _ (by omega)).trans ?_)) rfl ?_
    exact xs_iret dA_about_120 rfl rfl (by omega) (by omega) (aOk rfl rfl hS xfr_rf)
  · refine xs_tsIn (tgt := 121) dA_about_1 (by decide) (by decide) rfl (by decide) ?_
    refine xs_aload_n dA_about_121 rfl ?_
    refine xs_get dA_about_122 flA_19 (by repeat (first | assumption | exact va_up_self _ _ _ | refine (va_up_ne _ _ (by omega)).trans ?_)) rfl ?_
    refine xs_get dA_about_125 flA_134 (by repeat (first | assumption | exact va_up_self _ _ _ | refine (va_up_ne _ _ (by omega)).trans ?_)) rfl ?_
    exact xs_iret dA_about_128 rfl rfl (by omega) (by omega) (aOk rfl rfl hS xfr_rf)
  · refine xs_tsIn (tgt := 129) dA_about_1 (by decide) (by decide) rfl (by decide) ?_
    refine xs_aload_n dA_about_129 rfl ?_
    refine xs_get dA_about_130 flA_19 (by repeat (first | assumption | exact va_up_self _ _ _ | refine (va_up_ne _ _ (by omega)).trans ?_)) rfl ?_
    refine xs_get dA_about_133 flA_137 (by repeat (first | assumption | exact va_up_self _ _ _ | refine (va_up_ne _ _ (by omega)).trans ?_)) rfl ?_
    exact xs_iret dA_about_136 rfl rfl (by omega) (by omega) (aOk rfl rfl hS xfr_rf)
theorem k_A_face {x y : Int32} (hx : fzo G a S) : xK mA_face [.ref a, .int x, .int y] n G 1 6 (aPost n a G (rFace S x.toInt y.toInt)) (aExc n a G (rFace S x.toInt y.toInt) eX eA) := by
  have hS := hx
  obtain ⟨Vt, lis, hx⟩ := hx
  obtain ⟨hc, htx, hpr, htr, hhi, hsa, hiv, hzp, hzt, hfm, hgr, hsc, hs0, hs1⟩ := id hx
  have hcell := cry_cell hpr
  cases hfi : fAt S.2.1.1 x.toInt with
  | none =>
    refine xK_of2 (L0 := [(0, _), (1, _), (2, _)]) (by decide +kernel) rfl (Nat.le_of_ble_eq_true rfl) rfl ?_
    refine xs_aload_n dA_face_0 rfl ?_
    refine xs_iload_n dA_face_1 rfl ?_
    exact xs_cV_t (As := [_]) dA_face_2 lkA_145 (by repeat (first | assumption | exact va_up_self _ _ _ | refine (va_up_ne _ _ (by omega)).trans ?_)) (k_A_rFx hc hpr hfi) rfl rfl (Nat.le_of_ble_eq_true rfl) ⟨by decide, by decide⟩ rfl ⟨by omega, by omega⟩ (aX1 (by simp only [rFace, hfi]) hS xfr_rf)
  | some f =>
    obtain ⟨k, hk, hkl, hkf⟩ := fAt_some hfi
    obtain ⟨w, hw⟩ : ∃ w, w = y.toInt := ⟨_, rfl⟩
    have hyw : y = iI w := by rw [hw, iT]
    rw [← hw]
    have hN := hpr.1.1
    by_cases hr : 0 ≤ w ∧ w ≤ 8
    case neg =>
      have ho : y.toInt < 0 ∨ 8 < y.toInt := by omega
      refine xK_of2 (L0 := [(0, _), (1, _), (2, _)]) (by decide +kernel) rfl (Nat.le_of_ble_eq_true rfl) rfl ?_
      refine xs_aload_n dA_face_0 rfl ?_
      refine xs_iload_n dA_face_1 rfl ?_
      refine xs_cV_v (As := [_]) dA_face_2 lkA_145 (by repeat (first | assumption | exact va_up_self _ _ _ | refine (va_up_ne _ _ (by omega)).trans ?_)) (k_A_rF hc hpr hfi) rfl rfl (Nat.le_of_ble_eq_true rfl) ⟨by decide, by decide⟩ ⟨by omega, by omega⟩ ?_
      refine xs_iload_n dA_face_5 rfl ?_
      refine xs_tsOut (tgt := 153) dA_face_6 ho (by decide) ?_
      exact xs_throw rfl rfl xtA (List.mem_of_getElem? (i := 5) rfl) dA_face_153 dA_face_156 dA_face_157 dA_face_159 dA_face_162 (Nat.le_of_ble_eq_true rfl) ⟨by decide, by decide⟩ (by omega) (by omega) (aX2 (by simp only [rFace, hfi, if_neg hr]) hS xfr_rf)
    clear hw
    subst hyw
    have hR : rFace S x.toInt w = (0, fav S.2.1 k f w, S) := by
      rw [rFace, hfi]
      simp only [if_pos hr, hk, Int.toNat_natCast]
    rw [hR]
    have hcs : w = 0 ∨ w = 1 ∨ w = 2 ∨ w = 3 ∨ w = 4 ∨ w = 5 ∨ w = 6 ∨ w = 7 ∨ w = 8 := by omega
    have hxk := iTN hk
    refine xK_of2 (L0 := [(0, _), (1, _), (2, _)]) (by decide +kernel) rfl (Nat.le_of_ble_eq_true rfl) rfl ?_
    refine xs_aload_n dA_face_0 rfl ?_
    refine xs_iload_n dA_face_1 rfl ?_
    refine xs_cV_v (As := [_]) dA_face_2 lkA_145 (by repeat (first | assumption | exact va_up_self _ _ _ | refine (va_up_ne _ _ (by omega)).trans ?_)) (k_A_rF hc hpr hfi) rfl rfl (Nat.le_of_ble_eq_true rfl) ⟨by decide, by decide⟩ ⟨by omega, by omega⟩ ?_
    refine xs_iload_n dA_face_5 rfl ?_
    clear hR hr hfi hk
    subst hxk
    obtain ⟨hok, rh, rk, rl, rb, a1, a2, a3, d1, d2, d3, ⟨e0, e1, e2, e3, e4, e5, e6⟩, hr⟩ := id hpr
    obtain ⟨hin, hgo, v1, v2, v3, v4⟩ := arr16 hok hr hkf
    have hdl : (zDirs S.2.1).length = S.2.1.1.length := List.length_map _
    have hdg := zDirs_get hkf
    rcases hcs with rfl | rfl | rfl | rfl | rfl | rfl | rfl | rfl | rfl
    · refine xs_tsIn (tgt := 56) dA_face_6 (by decide) (by decide) rfl (by decide) ?_
      refine xs_aload_n dA_face_56 rfl ?_
      refine xs_get dA_face_57 flA_19 (by repeat (first | assumption | exact va_up_self _ _ _ | refine (va_up_ne _ _ (by omega)).trans ?_)) rfl ?_
      refine xs_get dA_face_60 flA_148 (by repeat (first | assumption | exact va_up_self _ _ _ | refine (va_up_ne _ _ (by omega)).trans ?_)) rfl ?_
      refine xs_iload_n dA_face_63 rfl ?_
      refine xs_iald dA_face_64 (by repeat (first | assumption | exact va_up_self _ _ _ | refine (va_up_ne _ _ (by omega)).trans ?_)) (by assumption) ?_
      exact xs_iret dA_face_65 rfl rfl (by omega) (by omega) (aOk rfl v1 hS xfr_rf)
    · refine xs_tsIn (tgt := 66) dA_face_6 (by decide) (by decide) rfl (by decide) ?_
      refine xs_aload_n dA_face_66 rfl ?_
      refine xs_get dA_face_67 flA_19 (by repeat (first | assumption | exact va_up_self _ _ _ | refine (va_up_ne _ _ (by omega)).trans ?_)) rfl ?_
      refine xs_get dA_face_70 flA_152 (by repeat (first | assumption | exact va_up_self _ _ _ | refine (va_up_ne _ _ (by omega)).trans ?_)) rfl ?_
      refine xs_iload_n dA_face_73 rfl ?_
      refine xs_iald dA_face_74 (by repeat (first | assumption | exact va_up_self _ _ _ | refine (va_up_ne _ _ (by omega)).trans ?_)) (by assumption) ?_
      exact xs_iret dA_face_75 rfl rfl (by omega) (by omega) (aOk rfl v2 hS xfr_rf)
    · refine xs_tsIn (tgt := 76) dA_face_6 (by decide) (by decide) rfl (by decide) ?_
      refine xs_aload_n dA_face_76 rfl ?_
      refine xs_get dA_face_77 flA_19 (by repeat (first | assumption | exact va_up_self _ _ _ | refine (va_up_ne _ _ (by omega)).trans ?_)) rfl ?_
      refine xs_get dA_face_80 flA_155 (by repeat (first | assumption | exact va_up_self _ _ _ | refine (va_up_ne _ _ (by omega)).trans ?_)) rfl ?_
      refine xs_iload_n dA_face_83 rfl ?_
      refine xs_iald dA_face_84 (by repeat (first | assumption | exact va_up_self _ _ _ | refine (va_up_ne _ _ (by omega)).trans ?_)) (by assumption) ?_
      exact xs_iret dA_face_85 rfl rfl (by omega) (by omega) (aOk rfl v3 hS xfr_rf)
    · refine xs_tsIn (tgt := 86) dA_face_6 (by decide) (by decide) rfl (by decide) ?_
      refine xs_aload_n dA_face_86 rfl ?_
      refine xs_get dA_face_87 flA_19 (by repeat (first | assumption | exact va_up_self _ _ _ | refine (va_up_ne _ _ (by omega)).trans ?_)) rfl ?_
      refine xs_get dA_face_90 flA_158 (by repeat (first | assumption | exact va_up_self _ _ _ | refine (va_up_ne _ _ (by omega)).trans ?_)) rfl ?_
      refine xs_iload_n dA_face_93 rfl ?_
      refine xs_iald dA_face_94 (by repeat (first | assumption | exact va_up_self _ _ _ | refine (va_up_ne _ _ (by omega)).trans ?_)) (by assumption) ?_
      exact xs_iret dA_face_95 rfl rfl (by omega) (by omega) (aOk rfl v4 hS xfr_rf)
    · refine xs_tsIn (tgt := 96) dA_face_6 (by decide) (by decide) rfl (by decide) ?_
      refine xs_aload_n dA_face_96 rfl ?_
      refine xs_cV_rx (As := []) dA_face_97 lkA_119 (by repeat (first | assumption | exact va_up_self _ _ _ | refine (va_up_ne _ _ (by omega)).trans ?_)) (k_A_zonesNow hx) rfl rfl (Nat.le_of_ble_eq_true rfl) ⟨by decide, by decide⟩ ⟨by omega, by omega⟩ ?_
      intro r H ⟨h1, hx2, hf⟩
      subst h1
      obtain ⟨hc, htx, hpr, htr, hhi, hsa, hiv, hzp, hzt, hfm, hgr, hsc, hs0, hs1⟩ := id hx2
      obtain ⟨R, hz, hfin⟩ := zpr_now hzp
      obtain ⟨fd, fa, pa, ms, cv, hz3, hdr, hax, hms, hcv⟩ := id hz
      obtain ⟨⟨g0, g1, g2, g3, g4⟩, ⟨f1, f2, f3, f4⟩, ht, hn⟩ := id hz3
      have hdc := hdr k _ hdg
      have hfk : fd (nI k).toNatClampNeg = some (a + 120 + 5 + k) := by rw [nI_clamp (by omega)]; exact f1 k (by omega)
      refine xs_get dA_face_100 flA_161 (by repeat (first | assumption | exact va_up_self _ _ _ | refine (va_up_ne _ _ (by omega)).trans ?_)) rfl ?_
      refine xs_iload_n dA_face_103 rfl ?_
      refine xs_ald3 dA_face_104 (by repeat (first | assumption | exact va_up_self _ _ _ | refine (va_up_ne _ _ (by omega)).trans ?_)) (by assumption) hfk ?_
      refine xs_get dA_face_105 flA_165 (by repeat (first | assumption | exact va_up_self _ _ _ | refine (va_up_ne _ _ (by omega)).trans ?_)) rfl ?_
      refine xs_l2i dA_face_108 ?_
      exact xs_iret dA_face_109 rfl rfl (by omega) (by omega) (aOk rfl (iL_i _) ⟨_, _, hx2⟩ (xzf_x hf))
    · refine xs_tsIn (tgt := 110) dA_face_6 (by decide) (by decide) rfl (by decide) ?_
      refine xs_aload_n dA_face_110 rfl ?_
      refine xs_cV_rx (As := []) dA_face_111 lkA_119 (by repeat (first | assumption | exact va_up_self _ _ _ | refine (va_up_ne _ _ (by omega)).trans ?_)) (k_A_zonesNow hx) rfl rfl (Nat.le_of_ble_eq_true rfl) ⟨by decide, by decide⟩ ⟨by omega, by omega⟩ ?_
      intro r H ⟨h1, hx2, hf⟩
      subst h1
      obtain ⟨hc, htx, hpr, htr, hhi, hsa, hiv, hzp, hzt, hfm, hgr, hsc, hs0, hs1⟩ := id hx2
      obtain ⟨R, hz, hfin⟩ := zpr_now hzp
      obtain ⟨fd, fa, pa, ms, cv, hz3, hdr, hax, hms, hcv⟩ := id hz
      obtain ⟨⟨g0, g1, g2, g3, g4⟩, ⟨f1, f2, f3, f4⟩, ht, hn⟩ := id hz3
      have hdc := hdr k _ hdg
      have hfk : fd (nI k).toNatClampNeg = some (a + 120 + 5 + k) := by rw [nI_clamp (by omega)]; exact f1 k (by omega)
      refine xs_get dA_face_114 flA_161 (by repeat (first | assumption | exact va_up_self _ _ _ | refine (va_up_ne _ _ (by omega)).trans ?_)) rfl ?_
      refine xs_iload_n dA_face_117 rfl ?_
      refine xs_ald3 dA_face_118 (by repeat (first | assumption | exact va_up_self _ _ _ | refine (va_up_ne _ _ (by omega)).trans ?_)) (by assumption) hfk ?_
      refine xs_get dA_face_119 flA_169 (by repeat (first | assumption | exact va_up_self _ _ _ | refine (va_up_ne _ _ (by omega)).trans ?_)) rfl ?_
      refine xs_l2i dA_face_122 ?_
      exact xs_iret dA_face_123 rfl rfl (by omega) (by omega) (aOk rfl (iL_i _) ⟨_, _, hx2⟩ (xzf_x hf))
    · refine xs_tsIn (tgt := 124) dA_face_6 (by decide) (by decide) rfl (by decide) ?_
      refine xs_aload_n dA_face_124 rfl ?_
      refine xs_cV_rx (As := []) dA_face_125 lkA_119 (by repeat (first | assumption | exact va_up_self _ _ _ | refine (va_up_ne _ _ (by omega)).trans ?_)) (k_A_zonesNow hx) rfl rfl (Nat.le_of_ble_eq_true rfl) ⟨by decide, by decide⟩ ⟨by omega, by omega⟩ ?_
      intro r H ⟨h1, hx2, hf⟩
      subst h1
      obtain ⟨hc, htx, hpr, htr, hhi, hsa, hiv, hzp, hzt, hfm, hgr, hsc, hs0, hs1⟩ := id hx2
      obtain ⟨R, hz, hfin⟩ := zpr_now hzp
      obtain ⟨fd, fa, pa, ms, cv, hz3, hdr, hax, hms, hcv⟩ := id hz
      obtain ⟨⟨g0, g1, g2, g3, g4⟩, ⟨f1, f2, f3, f4⟩, ht, hn⟩ := id hz3
      have hdc := hdr k _ hdg
      have hfk : fd (nI k).toNatClampNeg = some (a + 120 + 5 + k) := by rw [nI_clamp (by omega)]; exact f1 k (by omega)
      refine xs_get dA_face_128 flA_161 (by repeat (first | assumption | exact va_up_self _ _ _ | refine (va_up_ne _ _ (by omega)).trans ?_)) rfl ?_
      refine xs_iload_n dA_face_131 rfl ?_
      refine xs_ald3 dA_face_132 (by repeat (first | assumption | exact va_up_self _ _ _ | refine (va_up_ne _ _ (by omega)).trans ?_)) (by assumption) hfk ?_
      refine xs_get dA_face_133 flA_172 (by repeat (first | assumption | exact va_up_self _ _ _ | refine (va_up_ne _ _ (by omega)).trans ?_)) rfl ?_
      refine xs_l2i dA_face_136 ?_
      exact xs_iret dA_face_137 rfl rfl (by omega) (by omega) (aOk rfl (iL_i _) ⟨_, _, hx2⟩ (xzf_x hf))
    · refine xs_tsIn (tgt := 138) dA_face_6 (by decide) (by decide) rfl (by decide) ?_
      refine xs_aload_n dA_face_138 rfl ?_
      refine xs_cV_rx (As := []) dA_face_139 lkA_119 (by repeat (first | assumption | exact va_up_self _ _ _ | refine (va_up_ne _ _ (by omega)).trans ?_)) (k_A_zonesNow hx) rfl rfl (Nat.le_of_ble_eq_true rfl) ⟨by decide, by decide⟩ ⟨by omega, by omega⟩ ?_
      intro r H ⟨h1, hx2, hf⟩
      subst h1
      obtain ⟨hc, htx, hpr, htr, hhi, hsa, hiv, hzp, hzt, hfm, hgr, hsc, hs0, hs1⟩ := id hx2
      obtain ⟨R, hz, hfin⟩ := zpr_now hzp
      obtain ⟨fd, fa, pa, ms, cv, hz3, hdr, hax, hms, hcv⟩ := id hz
      have hzc := zlo_cell hz3
      refine xs_iload_n dA_face_142 rfl ?_
      refine xs_cV_i (As := [_]) dA_face_143 lkA_175 (by repeat (first | assumption | exact va_up_self _ _ _ | refine (va_up_ne _ _ (by omega)).trans ?_)) (k_Z_countThrough hz (by omega) (by omega)) rfl rfl (Nat.le_of_ble_eq_true rfl) ⟨by decide, by decide⟩ ⟨by omega, by omega⟩ ?_
      exact xs_iret dA_face_146 rfl rfl (by omega) (by omega) (aOk rfl (iI_nat _) ⟨_, _, hx2⟩ (xzf_x hf))
    · refine xs_tsIn (tgt := 147) dA_face_6 (by decide) (by decide) rfl (by decide) ?_
      refine xs_aload_n dA_face_147 rfl ?_
      refine xs_iload_n dA_face_148 rfl ?_
      refine xs_cV_ix (As := [_]) dA_face_149 lkA_178 (by repeat (first | assumption | exact va_up_self _ _ _ | refine (va_up_ne _ _ (by omega)).trans ?_)) (k_A_countForm hx hkf) rfl rfl (Nat.le_of_ble_eq_true rfl) ⟨by decide, by decide⟩ ⟨by omega, by omega⟩ ?_
      intro r H ⟨h1, hx2, hf⟩
      subst h1
      exact xs_iret dA_face_152 rfl rfl (by omega) (by omega) (aOk rfl (iI_nat _) ⟨_, _, hx2⟩ hf)
end A5
