theorem nI_eq2 {a b : Nat} (ha : a < 500000000) (hb : b < 500000000) : nI a = nI b ↔ a = b := by
  rw [iI_nat, iI_nat, iI_eq (by omega) (by omega)]
  omega
theorem nI_add2 (a b : Nat) : nI a + nI b = nI (a + b) := (Int32.ofNat_add a b).symm
theorem nI_dec (k : Nat) : nI (k + 1) - 1 = iI k := by
  rw [iI_nat, show (1 : Int32) = iI 1 from rfl, iI_sub]
  congr 1
  omega
theorem zwhy_1 {fs : List zF} {p : P3} {s : Int} : zwhy fs p s = 1 ↔ p = (0, 0, 0) := by
  unfold zwhy
  split
  · simp [*]
  · split
    · simp [*]
    · split <;> simp [*]
theorem cry_lst {G : xG} {c : Nat} {V : zV} {m : Int} (h : cry G c V) (hm : 2 ≤ m ∧ m ≤ 6) : cry (va_up G c (oC c (zLst V m))) c (zLst V m) := by
  obtain ⟨⟨k1, k2, k3, k4, k5⟩, fh, fk, fl, fb, a1, a2, a3, b1, b2, b3, ⟨h0, h1, h2, h3, h4, h5, h6⟩, hr⟩ := h
  exact ⟨⟨k1, k2, k3, hm, k5⟩, fh, fk, fl, fb, a1, a2, a3, b1, b2, b3, ⟨va_up_self _ _ _, (by repeat (first | exact va_up_self _ _ _ | assumption | refine (va_up_ne _ _ (by omega)).trans ?_)), (by repeat (first | exact va_up_self _ _ _ | assumption | refine (va_up_ne _ _ (by omega)).trans ?_)), (by repeat (first | exact va_up_self _ _ _ | assumption | refine (va_up_ne _ _ (by omega)).trans ?_)), (by repeat (first | exact va_up_self _ _ _ | assumption | refine (va_up_ne _ _ (by omega)).trans ?_)), (by repeat (first | exact va_up_self _ _ _ | assumption | refine (va_up_ne _ _ (by omega)).trans ?_)), (by repeat (first | exact va_up_self _ _ _ | assumption | refine (va_up_ne _ _ (by omega)).trans ?_))⟩, hr⟩
section A8
variable {n a : Nat} {G : xG} {S : zS}
theorem fzx_pf {G H : xG} {a : Nat} {T : List Nat} {V Vt Vw : zV} {A : List zV} {O : Option zV × Option zV} (h : fzx G a T V Vt A O false) (hf : xf2 (a + 4) (a + 4 + 7) (a + 402) (a + 409) G H) (hw : cry H (a + 4) Vw) (hn : ∃ N F b c, zfo H (a + 402) N F b c) : fzx H a T Vw Vt A O false := by
  obtain ⟨N, F, b, c, hn⟩ := hn
  obtain ⟨M, hM⟩ : ∃ M : xG, ∀ k, M k = if a + 402 ≤ k ∧ k < a + 409 then H k else G k := ⟨_, fun _ => rfl⟩
  have h1 : fzx M a T V Vt A O false := fzx_frm h (fun k hk => by rw [hM, if_neg (by omega)]) ⟨N, F, b, c, zfo_fr hn (fun k h1 h2 => by rw [hM, if_pos (by omega)])⟩
  refine fzx_pre h1 (fun k hk => ?_) hw
  rw [hM]
  split
  · rfl
  · exact hf k hk (by omega)
theorem fzx_tf {G H : xG} {a : Nat} {T : List Nat} {V Vt Vw : zV} {A : List zV} {O : Option zV × Option zV} {lis : Bool} (h : fzx G a T V Vt A O lis) (hf : xf2 (a + 11) (a + 11 + 7) (a + 402) (a + 409) G H) (hw : cry H (a + 11) Vw) (hn : ∃ N F b c, zfo H (a + 402) N F b c) : fzx H a T V Vw A O lis := by
  obtain ⟨N, F, b, c, hn⟩ := hn
  obtain ⟨M, hM⟩ : ∃ M : xG, ∀ k, M k = if a + 402 ≤ k ∧ k < a + 409 then H k else G k := ⟨_, fun _ => rfl⟩
  have h1 : fzx M a T V Vt A O lis := fzx_frm h (fun k hk => by rw [hM, if_neg (by omega)]) ⟨N, F, b, c, zfo_fr hn (fun k h1 h2 => by rw [hM, if_pos (by omega)])⟩
  refine fzx_tri h1 (fun k hk => ?_) hw
  rw [hM]
  split
  · rfl
  · exact hf k hk (by omega)
theorem wFa_b {h k l b : Int} (hw : wFa h k l b = true) : bd 10 (h, k, l) ∧ (b = 0 ∨ b = 1) := by
  simp only [wFa, Bool.and_eq_true, wi_iff, decide_eq_true_eq] at hw
  obtain ⟨⟨⟨h1, h2⟩, h3⟩, h4⟩ := hw
  exact ⟨⟨by show h.natAbs < 10; omega, by show k.natAbs < 10; omega, by show l.natAbs < 10; omega⟩, by omega⟩
theorem k_A_whyNot {x y z b : Int32} (hx : fzo G a S) : xK mA_whyNot [.ref a, .int x, .int y, .int z, .int b] n G 1 6 (aPost n a G (rWhy S x.toInt y.toInt z.toInt b.toInt)) (aExc n a G (rWhy S x.toInt y.toInt z.toInt b.toInt) eA eA) := by
  have hS := hx
  obtain ⟨Vt, lis, hx⟩ := hx
  obtain ⟨hc, htx, hpr, htr, hhi, hsa, hiv, hzp, hzt, hfm, hgr, hsc, hs0, hs1⟩ := id hx
  have hcell := cry_cell hpr
  refine xK_of2 (L0 := [(0, _), (1, _), (2, _), (3, _), (4, _)]) (by decide +kernel) rfl (Nat.le_of_ble_eq_true rfl) rfl ?_
  by_cases hw : wFa x.toInt y.toInt z.toInt b.toInt = true
  case neg =>
    refine xs_iload_n dA_whyNot_0 rfl ?_
    refine xs_iload_n dA_whyNot_1 rfl ?_
    refine xs_iload_n dA_whyNot_2 rfl ?_
    refine xs_iload dA_whyNot_3 rfl ?_
    exact xs_cS_t (As := [_, _, _, _]) dA_whyNot_5 lkA_239 (k_A_rfax hw) rfl rfl (Nat.le_of_ble_eq_true rfl) ⟨by decide, by decide⟩ rfl ⟨by omega, by omega⟩ (aX1 (by rw [rWhy, if_neg hw]) hS xfr_rf)
  obtain ⟨hb, hs⟩ := wFa_b hw
  have hR : rWhy S x.toInt y.toInt z.toInt b.toInt = (0, (zwhy S.2.1.1 (x.toInt, y.toInt, z.toInt) b.toInt : Int), S) := by rw [rWhy, if_pos hw]
  rw [hR]
  refine xs_iload_n dA_whyNot_0 rfl ?_
  refine xs_iload_n dA_whyNot_1 rfl ?_
  refine xs_iload_n dA_whyNot_2 rfl ?_
  refine xs_iload dA_whyNot_3 rfl ?_
  refine xs_cS_v (As := [_, _, _, _]) dA_whyNot_5 lkA_239 (k_A_rfa hw) rfl rfl (Nat.le_of_ble_eq_true rfl) ⟨by decide, by decide⟩ ⟨by omega, by omega⟩ ?_
  refine xs_aload_n dA_whyNot_8 rfl ?_
  refine xs_get dA_whyNot_9 flA_19 (by repeat (first | exact va_up_self _ _ _ | assumption | refine (va_up_ne _ _ (by omega)).trans ?_)) rfl ?_
  refine xs_iload_n dA_whyNot_12 rfl ?_
  refine xs_iload_n dA_whyNot_13 rfl ?_
  refine xs_iload_n dA_whyNot_14 rfl ?_
  refine xs_iload dA_whyNot_15 rfl ?_
  rw [← iT x, ← iT y, ← iT z, ← iT b, iT x, iT y, iT z, iT b]
  have hk := k_C_refusalOf (n := n) (h := x.toInt) (k := y.toInt) (l := z.toInt) (s := b.toInt) hpr (bd_mono hb (by decide)) (by omega)
  rw [iT, iT, iT, iT] at hk
  refine xs_cV_ix (As := [_, _, _, _]) dA_whyNot_17 lkA_243 (by repeat (first | exact va_up_self _ _ _ | assumption | refine (va_up_ne _ _ (by omega)).trans ?_)) (hk) rfl rfl (Nat.le_of_ble_eq_true rfl) ⟨by decide, by decide⟩ ⟨by omega, by omega⟩ ?_
  intro r H ⟨h1, h2, h3⟩
  exact xs_iret dA_whyNot_20 rfl rfl (by omega) (by omega) (aOk rfl (h1.trans (iI_nat _)) ⟨_, _, fzx_same hx h3 h2⟩ (xfr_mono h3 (by omega) (by omega)))
theorem k_A_addFace {x y z b : Int32} (hx : fzo G a S) : xK mA_addFace [.ref a, .int x, .int y, .int z, .int b] n G 1 6 (aPost n a G (rAddFace S x.toInt y.toInt z.toInt b.toInt)) (aExc n a G (rAddFace S x.toInt y.toInt z.toInt b.toInt) eA eS) := by
  have hS := hx
  obtain ⟨Vt, lis, hx⟩ := hx
  obtain ⟨hc, htx, hpr, htr, hhi, hsa, hiv, hzp, hzt, hfm, hgr, hsc, hs0, hs1⟩ := id hx
  have hcell := cry_cell hpr
  refine xK_of2 (L0 := [(0, _), (1, _), (2, _), (3, _), (4, _)]) (by decide +kernel) rfl (Nat.le_of_ble_eq_true rfl) rfl ?_
  by_cases hw : wFa x.toInt y.toInt z.toInt b.toInt = true
  case neg =>
    refine xs_iload_n dA_addFace_0 rfl ?_
    refine xs_iload_n dA_addFace_1 rfl ?_
    refine xs_iload_n dA_addFace_2 rfl ?_
    refine xs_iload dA_addFace_3 rfl ?_
    exact xs_cS_t (As := [_, _, _, _]) dA_addFace_5 lkA_239 (k_A_rfax hw) rfl rfl (Nat.le_of_ble_eq_true rfl) ⟨by decide, by decide⟩ rfl ⟨by omega, by omega⟩ (aX1 (by rw [rAddFace, if_pos (Or.inl hw)]) hS xfr_rf)
  obtain ⟨hb, hs⟩ := wFa_b hw
  refine xs_iload_n dA_addFace_0 rfl ?_
  refine xs_iload_n dA_addFace_1 rfl ?_
  refine xs_iload_n dA_addFace_2 rfl ?_
  refine xs_iload dA_addFace_3 rfl ?_
  refine xs_cS_v (As := [_, _, _, _]) dA_addFace_5 lkA_239 (k_A_rfa hw) rfl rfl (Nat.le_of_ble_eq_true rfl) ⟨by decide, by decide⟩ ⟨by omega, by omega⟩ ?_
  refine xs_aload_n dA_addFace_8 rfl ?_
  refine xs_get dA_addFace_9 flA_19 (by repeat (first | exact va_up_self _ _ _ | assumption | refine (va_up_ne _ _ (by omega)).trans ?_)) rfl ?_
  refine xs_iload_n dA_addFace_12 rfl ?_
  refine xs_iload_n dA_addFace_13 rfl ?_
  refine xs_iload_n dA_addFace_14 rfl ?_
  refine xs_iload dA_addFace_15 rfl ?_
  obtain ⟨h, hh⟩ : ∃ h, h = x.toInt := ⟨_, rfl⟩
  obtain ⟨k, hk⟩ : ∃ k, k = y.toInt := ⟨_, rfl⟩
  obtain ⟨l, hl⟩ : ∃ l, l = z.toInt := ⟨_, rfl⟩
  obtain ⟨s, hss⟩ : ∃ s, s = b.toInt := ⟨_, rfl⟩
  have ex : x = iI h := by rw [hh, iT]
  have ey : y = iI k := by rw [hk, iT]
  have ez : z = iI l := by rw [hl, iT]
  have eb : b = iI s := by rw [hss, iT]
  rw [← hh, ← hk, ← hl, ← hss] at hw ⊢
  rw [← hh, ← hk, ← hl] at hb
  rw [← hss] at hs
  clear hh hk hl hss
  subst ex; subst ey; subst ez; subst eb
  refine xs_cV_ix (As := [_, _, _, _]) dA_addFace_17 lkA_243 (by repeat (first | exact va_up_self _ _ _ | assumption | refine (va_up_ne _ _ (by omega)).trans ?_)) (k_C_refusalOf hpr (bd_mono hb (by decide)) (by omega)) rfl rfl (Nat.le_of_ble_eq_true rfl) ⟨by decide, by decide⟩ ⟨by omega, by omega⟩ ?_
  intro r H ⟨h1, h2, h3⟩
  subst h1
  have hx2 : fzx H a S.1 S.2.1 Vt S.2.2.1 S.2.2.2 lis := fzx_same hx h3 h2
  have hf2 : xfr a (a + 528) G H := xfr_mono h3 (by omega) (by omega)
  have hc2 := hx2.1
  have hzl := zwhy_le (fs := S.2.1.1) (p := (h, k, l)) (s := s)
  refine xs_istore (L2 := [(5, _), (0, _), (1, _), (2, _), (3, _), (4, _)]) dA_addFace_20 (by decide) rfl ?_
  refine xs_iload dA_addFace_22 rfl ?_
  refine xs_iconst (v := 1) dA_addFace_24 (by decide) ?_
  refine xs_icmp_ne dA_addFace_25 (fun q => ?_) (fun q => ?_)
  case _ =>
    have hz : (h, k, l) ≠ ((0, 0, 0) : P3) := fun e => q ((nI_eq2 (b := 1) (by omega) (by decide)).mpr (zwhy_1.mpr e))
    refine xs_iload dA_addFace_38 rfl ?_
    refine xs_if_eq dA_addFace_40 (fun q => ?_) (fun q => ?_)
    · have h0 : zwhy S.2.1.1 (h, k, l) s = 0 := (nI_eq2 (b := 0) (by omega) (by decide)).mp q
      obtain ⟨q1, q2, q3⟩ := zwhy_0i h0
      have hR : rAddFace S h k l s = (0, (S.2.1.1.length : Int), (S.1, zAdd S.2.1 (dv (h, k, l), s), hPush S.2.2.1 S.2.1, S.2.2.2)) := by rw [rAddFace, if_neg (fun q => q.elim (fun q => q hw) hz), if_neg (fun q => q h0)]
      rw [hR]
      refine xs_aload_n dA_addFace_53 rfl ?_
      refine xs_cV_vx (As := []) dA_addFace_54 lkA_251 (by repeat (first | exact va_up_self _ _ _ | assumption | refine (va_up_ne _ _ (by omega)).trans ?_)) (k_A_remember hx2) rfl rfl (Nat.le_of_ble_eq_true rfl) ⟨by decide, by decide⟩ ⟨by omega, by omega⟩ ?_
      intro H3 ⟨hx3, hf3⟩
      have hc3 := hx3.1
      have hp3 := hx3.2.2.1
      have hpc3 := cry_cell hp3
      refine xs_aload_n dA_addFace_57 rfl ?_
      refine xs_get dA_addFace_58 flA_19 (by repeat (first | exact va_up_self _ _ _ | assumption | refine (va_up_ne _ _ (by omega)).trans ?_)) rfl ?_
      refine xs_iload_n dA_addFace_61 rfl ?_
      refine xs_iload_n dA_addFace_62 rfl ?_
      refine xs_iload_n dA_addFace_63 rfl ?_
      refine xs_iload dA_addFace_64 rfl ?_
      refine xs_cV_vx (As := [_, _, _, _]) dA_addFace_66 lkA_254 (by repeat (first | exact va_up_self _ _ _ | assumption | refine (va_up_ne _ _ (by omega)).trans ?_)) (k_C_insert hp3 hb hs hz q3) rfl rfl (Nat.le_of_ble_eq_true rfl) ⟨by decide, by decide⟩ ⟨by omega, by omega⟩ ?_
      intro H4 ⟨h4, h5⟩
      have hc4 : H4 a = fzc a false := by rw [h5 _ (by omega)]; exact hc3
      have hpc4 := cry_cell h4
      refine xs_aload_n dA_addFace_69 rfl ?_
      refine xs_get dA_addFace_70 flA_19 (by repeat (first | exact va_up_self _ _ _ | assumption | refine (va_up_ne _ _ (by omega)).trans ?_)) rfl ?_
      refine xs_get dA_addFace_73 flA_106 (by repeat (first | exact va_up_self _ _ _ | assumption | refine (va_up_ne _ _ (by omega)).trans ?_)) rfl ?_
      refine xs_iconst (v := 1) dA_addFace_76 (by decide) ?_
      refine xs_isub dA_addFace_77 ?_
      exact xs_iret dA_addFace_78 rfl rfl (by omega) (by omega) (aOk rfl (by rw [show (zAdd S.2.1 (dv (h, k, l), s)).1.length = S.2.1.1.length + 1 from List.length_append]; exact nI_dec _) ⟨_, _, fzx_pre hx3 h5 h4⟩ (xfr_tr (xfr_tr hf2 hf3) (xfr_mono h5 (by omega) (by omega))))
    · have h0 : zwhy S.2.1.1 (h, k, l) s ≠ 0 := fun e => q (by rw [e]; rfl)
      exact xs_throw rfl rfl xtS (List.mem_of_getElem? (i := 11) rfl) dA_addFace_43 dA_addFace_46 dA_addFace_47 dA_addFace_49 dA_addFace_52 (Nat.le_of_ble_eq_true rfl) ⟨by decide, by decide⟩ (by omega) (by omega) (aX2 (by rw [rAddFace, if_neg (fun q => q.elim (fun q => q hw) hz), if_pos h0]) ⟨_, _, hx2⟩ hf2)
  case _ =>
    have hz : (h, k, l) = ((0, 0, 0) : P3) := zwhy_1.mp ((nI_eq2 (b := 1) (by omega) (by decide)).mp q)
    exact xs_throw rfl rfl xtA (List.mem_of_getElem? (i := 10) rfl) dA_addFace_28 dA_addFace_31 dA_addFace_32 dA_addFace_34 dA_addFace_37 (Nat.le_of_ble_eq_true rfl) ⟨by decide, by decide⟩ (by omega) (by omega) (aX1 (by rw [rAddFace, if_pos (Or.inr hz)]) ⟨_, _, hx2⟩ hf2)
theorem k_A_addForm {x : Int32} (hx : fzo G a S) : xK mA_addForm [.ref a, .int x] n G 1 6 (aPost n a G (rAddForm S x.toInt)) (aExc n a G (rAddForm S x.toInt) eX eS) := by
  have hS := hx
  obtain ⟨Vt, lis, hx⟩ := hx
  obtain ⟨hc, htx, hpr, htr, hhi, hsa, hiv, hzp, hzt, hfm, hgr, hsc, hs0, hs1⟩ := id hx
  have hcell := cry_cell hpr
  refine xK_of2 (L0 := [(0, _), (1, _)]) (by decide +kernel) rfl (Nat.le_of_ble_eq_true rfl) rfl ?_
  cases hfi : fAt S.2.1.1 x.toInt with
  | none =>
    refine xs_aload_n dA_addForm_0 rfl ?_
    refine xs_iload_n dA_addForm_1 rfl ?_
    exact xs_cV_t (As := [_]) dA_addForm_2 lkA_145 (by repeat (first | exact va_up_self _ _ _ | assumption | refine (va_up_ne _ _ (by omega)).trans ?_)) (k_A_rFx hc hpr hfi) rfl rfl (Nat.le_of_ble_eq_true rfl) ⟨by decide, by decide⟩ rfl ⟨by omega, by omega⟩ (aX1 (by simp only [rAddForm, hfi]) hS xfr_rf)
  | some f =>
    obtain ⟨k, hk, hkl, hkf⟩ := fAt_some hfi
    refine xs_aload_n dA_addForm_0 rfl ?_
    refine xs_iload_n dA_addForm_1 rfl ?_
    refine xs_cV_v (As := [_]) dA_addForm_2 lkA_145 (by repeat (first | exact va_up_self _ _ _ | assumption | refine (va_up_ne _ _ (by omega)).trans ?_)) (k_A_rF hc hpr hfi) rfl rfl (Nat.le_of_ble_eq_true rfl) ⟨by decide, by decide⟩ ⟨by omega, by omega⟩ ?_
    refine xs_aload_n dA_addForm_5 rfl ?_
    refine xs_aload_n dA_addForm_6 rfl ?_
    refine xs_get dA_addForm_7 flA_19 (by repeat (first | exact va_up_self _ _ _ | assumption | refine (va_up_ne _ _ (by omega)).trans ?_)) rfl ?_
    refine xs_iload_n dA_addForm_10 rfl ?_
    have hR : rAddForm S x.toInt = if 16 < S.2.1.1.length + (zMis S.2.1 f).length then (2, 0, S) else (0, ((zMis S.2.1 f).length : Int), (S.1, zFrm S.2.1 f, hPush S.2.2.1 S.2.1, S.2.2.2)) := by rw [rAddForm, hfi]
    rw [hR]
    have exk := iTN hk
    clear hR hfi hk
    subst exk
    obtain ⟨N, F, b, c, hfm⟩ := hfm
    refine xs_cV_ix (As := [_, _]) dA_addForm_11 lkA_257 (by repeat (first | exact va_up_self _ _ _ | assumption | refine (va_up_ne _ _ (by omega)).trans ?_)) (k_A_countMissing hc hfm hpr hkf ⟨by omega, by omega⟩) rfl rfl (Nat.le_of_ble_eq_true rfl) ⟨by decide, by decide⟩ ⟨by omega, by omega⟩ ?_
    intro r H ⟨h1, h2, h3⟩
    subst h1
    have hx2 : fzx H a S.1 S.2.1 Vt S.2.2.1 S.2.2.2 lis := fzx_frm hx h3 h2
    have hf2 : xfr a (a + 528) G H := xfr_mono h3 (by omega) (by omega)
    have hc2 := hx2.1
    have hpc2 := cry_cell hx2.2.2.1
    have hml : (zMis S.2.1 f).length ≤ 48 := Nat.le_trans (List.length_filter_le _ _) (frm_le _ _)
    have hN := hpr.1.1
    refine xs_istore_n (L2 := [(2, _), (0, _), (1, _)]) dA_addForm_14 (by decide) rfl ?_
    refine xs_aload_n dA_addForm_15 rfl ?_
    refine xs_get dA_addForm_16 flA_19 (by repeat (first | exact va_up_self _ _ _ | assumption | refine (va_up_ne _ _ (by omega)).trans ?_)) rfl ?_
    refine xs_get dA_addForm_19 flA_106 (by repeat (first | exact va_up_self _ _ _ | assumption | refine (va_up_ne _ _ (by omega)).trans ?_)) rfl ?_
    refine xs_iload_n dA_addForm_22 rfl ?_
    refine xs_iadd dA_addForm_23 ?_
    rw [nI_add2]
    refine xs_bipush (v := 16) dA_addForm_24 (by decide) ?_
    refine xs_icmp_le dA_addForm_26 (fun q => ?_) (fun q => ?_)
    case _ =>
      have hle : S.2.1.1.length + (zMis S.2.1 f).length ≤ 16 := (nI_leI (b := 16) (by omega) (by decide)).mp q
      rw [if_neg (by omega)]
      refine xs_aload_n dA_addForm_40 rfl ?_
      refine xs_cV_vx (As := []) dA_addForm_41 lkA_251 (by repeat (first | exact va_up_self _ _ _ | assumption | refine (va_up_ne _ _ (by omega)).trans ?_)) (k_A_remember hx2) rfl rfl (Nat.le_of_ble_eq_true rfl) ⟨by decide, by decide⟩ ⟨by omega, by omega⟩ ?_
      intro H3 ⟨hx3, hf3⟩
      have hc3 := hx3.1
      have hp3 := hx3.2.2.1
      obtain ⟨N3, F3, b3, c3, hfm3⟩ := hx3.2.2.2.2.2.2.2.2.2.1
      refine xs_aload_n dA_addForm_44 rfl ?_
      refine xs_aload_n dA_addForm_45 rfl ?_
      refine xs_get dA_addForm_46 flA_19 (by repeat (first | exact va_up_self _ _ _ | assumption | refine (va_up_ne _ _ (by omega)).trans ?_)) rfl ?_
      refine xs_iload_n dA_addForm_49 rfl ?_
      refine xs_cV_vx (As := [_, _]) dA_addForm_50 lkA_263 (by repeat (first | exact va_up_self _ _ _ | assumption | refine (va_up_ne _ _ (by omega)).trans ?_)) (k_A_insertForm hc3 hfm3 hp3 hkf ⟨by omega, by omega⟩ hle) rfl rfl (Nat.le_of_ble_eq_true rfl) ⟨by decide, by decide⟩ ⟨by omega, by omega⟩ ?_
      intro H4 ⟨h4, h5, h6⟩
      refine xs_iload_n dA_addForm_53 rfl ?_
      exact xs_iret dA_addForm_54 rfl rfl (by omega) (by omega) (aOk rfl (iI_nat _) ⟨_, _, fzx_pf hx3 h6 h4 h5⟩ (xfr_tr (xfr_tr hf2 hf3) (fun k hk => h6 k (by omega) (by omega))))
    case _ =>
      have hgt : 16 < S.2.1.1.length + (zMis S.2.1 f).length := by
        rcases Nat.lt_or_ge 16 (S.2.1.1.length + (zMis S.2.1 f).length) with e | e
        · exact e
        · exact absurd (nI_le e (by decide)) q
      rw [if_pos hgt]
      exact xs_throwW rfl rfl xtS (List.mem_of_getElem? (i := 12) rfl) dA_addForm_29 dA_addForm_32 dA_addForm_33 dA_addForm_36 dA_addForm_39 (Nat.le_of_ble_eq_true rfl) ⟨by decide, by decide⟩ (by omega) (by omega) (aX2 rfl ⟨_, _, hx2⟩ hf2)
theorem k_A_twin {x : Int32} (hx : fzo G a S) : xK mA_twin [.ref a, .int x] n G 1 6 (aPost n a G (rTwin S x.toInt)) (aExc n a G (rTwin S x.toInt) eX eS) := by
  have hS := hx
  obtain ⟨Vt, lis, hx⟩ := hx
  obtain ⟨hc, htx, hpr, htr, hhi, hsa, hiv, hzp, hzt, hfm, hgr, hsc, hs0, hs1⟩ := id hx
  have hcell := cry_cell hpr
  refine xK_of2 (L0 := [(0, _), (1, _)]) (by decide +kernel) rfl (Nat.le_of_ble_eq_true rfl) rfl ?_
  cases hfi : fAt S.2.1.1 x.toInt with
  | none =>
    refine xs_aload_n dA_twin_0 rfl ?_
    refine xs_iload_n dA_twin_1 rfl ?_
    exact xs_cV_t (As := [_]) dA_twin_2 lkA_145 (by repeat (first | exact va_up_self _ _ _ | assumption | refine (va_up_ne _ _ (by omega)).trans ?_)) (k_A_rFx hc hpr hfi) rfl rfl (Nat.le_of_ble_eq_true rfl) ⟨by decide, by decide⟩ rfl ⟨by omega, by omega⟩ (aX1 (by simp only [rTwin, hfi]) hS xfr_rf)
  | some f =>
    obtain ⟨k, hk, hkl, hkf⟩ := fAt_some hfi
    refine xs_aload_n dA_twin_0 rfl ?_
    refine xs_iload_n dA_twin_1 rfl ?_
    refine xs_cV_v (As := [_]) dA_twin_2 lkA_145 (by repeat (first | exact va_up_self _ _ _ | assumption | refine (va_up_ne _ _ (by omega)).trans ?_)) (k_A_rF hc hpr hfi) rfl rfl (Nat.le_of_ble_eq_true rfl) ⟨by decide, by decide⟩ ⟨by omega, by omega⟩ ?_
    refine xs_aload_n dA_twin_5 rfl ?_
    refine xs_get dA_twin_6 flA_19 (by repeat (first | exact va_up_self _ _ _ | assumption | refine (va_up_ne _ _ (by omega)).trans ?_)) rfl ?_
    refine xs_iload_n dA_twin_9 rfl ?_
    have hR : rTwin S x.toInt = if zwhy S.2.1.1 f.1 (1 - f.2) ≠ 0 then (2, 0, S) else (0, (S.2.1.1.length : Int), (S.1, zAdd S.2.1 (dv f.1, 1 - f.2), hPush S.2.2.1 S.2.1, S.2.2.2)) := by rw [rTwin, hfi]
    rw [hR]
    have exk := iTN hk
    clear hR hfi hk
    subst exk
    refine xs_cV_ix (As := [_]) dA_twin_10 lkA_267 (by repeat (first | exact va_up_self _ _ _ | assumption | refine (va_up_ne _ _ (by omega)).trans ?_)) (k_C_refusalOfTwin hpr hkf) rfl rfl (Nat.le_of_ble_eq_true rfl) ⟨by decide, by decide⟩ ⟨by omega, by omega⟩ ?_
    intro r H ⟨h1, h2, h3⟩
    subst h1
    have hx2 : fzx H a S.1 S.2.1 Vt S.2.2.1 S.2.2.2 lis := fzx_same hx h3 h2
    have hf2 : xfr a (a + 528) G H := xfr_mono h3 (by omega) (by omega)
    have hc2 := hx2.1
    have hzl := zwhy_le (fs := S.2.1.1) (p := f.1) (s := 1 - f.2)
    refine xs_if_eq dA_twin_13 (fun q => ?_) (fun q => ?_)
    · have h0 : zwhy S.2.1.1 f.1 (1 - f.2) = 0 := (nI_eq2 (b := 0) (by omega) (by decide)).mp q
      obtain ⟨q1, q2, q3⟩ := zwhy_0i h0
      rw [if_neg (fun q => q h0)]
      refine xs_aload_n dA_twin_26 rfl ?_
      refine xs_cV_vx (As := []) dA_twin_27 lkA_251 (by repeat (first | exact va_up_self _ _ _ | assumption | refine (va_up_ne _ _ (by omega)).trans ?_)) (k_A_remember hx2) rfl rfl (Nat.le_of_ble_eq_true rfl) ⟨by decide, by decide⟩ ⟨by omega, by omega⟩ ?_
      intro H3 ⟨hx3, hf3⟩
      have hc3 := hx3.1
      have hp3 := hx3.2.2.1
      have hpc3 := cry_cell hp3
      refine xs_aload_n dA_twin_30 rfl ?_
      refine xs_get dA_twin_31 flA_19 (by repeat (first | exact va_up_self _ _ _ | assumption | refine (va_up_ne _ _ (by omega)).trans ?_)) rfl ?_
      refine xs_iload_n dA_twin_34 rfl ?_
      refine xs_cV_vx (As := [_]) dA_twin_35 lkA_270 (by repeat (first | exact va_up_self _ _ _ | assumption | refine (va_up_ne _ _ (by omega)).trans ?_)) (k_C_insertTwin hp3 hkf q3) rfl rfl (Nat.le_of_ble_eq_true rfl) ⟨by decide, by decide⟩ ⟨by omega, by omega⟩ ?_
      intro H4 ⟨h4, h5⟩
      have hc4 : H4 a = fzc a false := by rw [h5 _ (by omega)]; exact hc3
      have hpc4 := cry_cell h4
      refine xs_aload_n dA_twin_38 rfl ?_
      refine xs_get dA_twin_39 flA_19 (by repeat (first | exact va_up_self _ _ _ | assumption | refine (va_up_ne _ _ (by omega)).trans ?_)) rfl ?_
      refine xs_get dA_twin_42 flA_106 (by repeat (first | exact va_up_self _ _ _ | assumption | refine (va_up_ne _ _ (by omega)).trans ?_)) rfl ?_
      refine xs_iconst (v := 1) dA_twin_45 (by decide) ?_
      refine xs_isub dA_twin_46 ?_
      exact xs_iret dA_twin_47 rfl rfl (by omega) (by omega) (aOk rfl (by rw [show (zAdd S.2.1 (dv f.1, 1 - f.2)).1.length = S.2.1.1.length + 1 from List.length_append]; exact nI_dec _) ⟨_, _, fzx_pre hx3 h5 h4⟩ (xfr_tr (xfr_tr hf2 hf3) (xfr_mono h5 (by omega) (by omega))))
    · have h0 : zwhy S.2.1.1 f.1 (1 - f.2) ≠ 0 := fun e => q (by rw [e]; rfl)
      rw [if_pos h0]
      exact xs_throw rfl rfl xtS (List.mem_of_getElem? (i := 11) rfl) dA_twin_16 dA_twin_19 dA_twin_20 dA_twin_22 dA_twin_25 (Nat.le_of_ble_eq_true rfl) ⟨by decide, by decide⟩ (by omega) (by omega) (aX2 rfl ⟨_, _, hx2⟩ hf2)
theorem k_A_remove {x : Int32} (hx : fzo G a S) : xK mA_remove [.ref a, .int x] n G 1 6 (aPost n a G (rRemove S x.toInt)) (aExc n a G (rRemove S x.toInt) eX eX) := by
  have hS := hx
  obtain ⟨Vt, lis, hx⟩ := hx
  obtain ⟨hc, htx, hpr, htr, hhi, hsa, hiv, hzp, hzt, hfm, hgr, hsc, hs0, hs1⟩ := id hx
  have hcell := cry_cell hpr
  refine xK_of2 (L0 := [(0, _), (1, _)]) (by decide +kernel) rfl (Nat.le_of_ble_eq_true rfl) rfl ?_
  cases hfi : fAt S.2.1.1 x.toInt with
  | none =>
    refine xs_aload_n dA_remove_0 rfl ?_
    refine xs_iload_n dA_remove_1 rfl ?_
    exact xs_cV_t (As := [_]) dA_remove_2 lkA_145 (by repeat (first | exact va_up_self _ _ _ | assumption | refine (va_up_ne _ _ (by omega)).trans ?_)) (k_A_rFx hc hpr hfi) rfl rfl (Nat.le_of_ble_eq_true rfl) ⟨by decide, by decide⟩ rfl ⟨by omega, by omega⟩ (aX1 (by simp only [rRemove, hfi]) hS xfr_rf)
  | some f =>
    obtain ⟨k, hk, hkl, hkf⟩ := fAt_some hfi
    refine xs_aload_n dA_remove_0 rfl ?_
    refine xs_iload_n dA_remove_1 rfl ?_
    refine xs_cV_v (As := [_]) dA_remove_2 lkA_145 (by repeat (first | exact va_up_self _ _ _ | assumption | refine (va_up_ne _ _ (by omega)).trans ?_)) (k_A_rF hc hpr hfi) rfl rfl (Nat.le_of_ble_eq_true rfl) ⟨by decide, by decide⟩ ⟨by omega, by omega⟩ ?_
    refine xs_aload_n dA_remove_5 rfl ?_
    refine xs_cV_vx (As := []) dA_remove_6 lkA_251 (by repeat (first | exact va_up_self _ _ _ | assumption | refine (va_up_ne _ _ (by omega)).trans ?_)) (k_A_remember hx) rfl rfl (Nat.le_of_ble_eq_true rfl) ⟨by decide, by decide⟩ ⟨by omega, by omega⟩ ?_
    have hR : rRemove S x.toInt = (0, ((S.2.1.1.length - 1 : Nat) : Int), (S.1, zDrop S.2.1 k, hPush S.2.2.1 S.2.1, S.2.2.2)) := by
      rw [rRemove, hfi]
      simp only [hk, Int.toNat_natCast]
    rw [hR]
    have exk := iTN hk
    clear hR hfi hk
    subst exk
    intro H3 ⟨hx3, hf3⟩
    have hc3 := hx3.1
    have hp3 := hx3.2.2.1
    have hpc3 := cry_cell hp3
    refine xs_aload_n dA_remove_9 rfl ?_
    refine xs_get dA_remove_10 flA_19 (by repeat (first | exact va_up_self _ _ _ | assumption | refine (va_up_ne _ _ (by omega)).trans ?_)) rfl ?_
    refine xs_iload_n dA_remove_13 rfl ?_
    refine xs_cV_vx (As := [_]) dA_remove_14 lkA_273 (by repeat (first | exact va_up_self _ _ _ | assumption | refine (va_up_ne _ _ (by omega)).trans ?_)) (k_C_dropAt hp3 hkl) rfl rfl (Nat.le_of_ble_eq_true rfl) ⟨by decide, by decide⟩ ⟨by omega, by omega⟩ ?_
    intro H4 ⟨h4, h5⟩
    have hc4 : H4 a = fzc a false := by rw [h5 _ (by omega)]; exact hc3
    have hpc4 := cry_cell h4
    refine xs_aload_n dA_remove_17 rfl ?_
    refine xs_get dA_remove_18 flA_19 (by repeat (first | exact va_up_self _ _ _ | assumption | refine (va_up_ne _ _ (by omega)).trans ?_)) rfl ?_
    refine xs_get dA_remove_21 flA_106 (by repeat (first | exact va_up_self _ _ _ | assumption | refine (va_up_ne _ _ (by omega)).trans ?_)) rfl ?_
    exact xs_iret dA_remove_24 rfl rfl (by omega) (by omega) (aOk rfl (by rw [show (zDrop S.2.1 k).1.length = S.2.1.1.length - 1 from List.length_eraseIdx_of_lt hkl]; exact iI_nat _) ⟨_, _, fzx_pre hx3 h5 h4⟩ (xfr_tr hf3 (xfr_mono h5 (by omega) (by omega))))
theorem k_A_setSystem {x : Int32} (hx : fzo G a S) : xK mA_setSystem [.ref a, .int x] n G 1 6 (aPost n a G (rSystem S x.toInt)) (aExc n a G (rSystem S x.toInt) eA eA) := by
  have hS := hx
  obtain ⟨Vt, lis, hx⟩ := hx
  obtain ⟨hc, htx, hpr, htr, hhi, hsa, hiv, hzp, hzt, hfm, hgr, hsc, hs0, hs1⟩ := id hx
  refine xK_of2 (L0 := [(0, _), (1, _)]) (by decide +kernel) rfl (Nat.le_of_ble_eq_true rfl) rfl ?_
  by_cases hr : (0 : Int) ≤ x.toInt ∧ x.toInt ≤ 4
  case neg =>
    refine xs_iload_n dA_setSystem_0 rfl ?_
    refine xs_iconst (v := 0) dA_setSystem_1 (by decide) ?_
    refine xs_iconst (v := 4) dA_setSystem_2 (by decide) ?_
    exact xs_cS_t (As := [_, _, _]) dA_setSystem_3 lkA_76 (k_A_rrx (lo:=0) (hi:=4) (by decide) (by decide) hr) rfl rfl (Nat.le_of_ble_eq_true rfl) ⟨by decide, by decide⟩ rfl ⟨by omega, by omega⟩ (aX1 (by rw [rSystem, if_neg hr]) hS xfr_rf)
  refine xs_iload_n dA_setSystem_0 rfl ?_
  refine xs_iconst (v := 0) dA_setSystem_1 (by decide) ?_
  refine xs_iconst (v := 4) dA_setSystem_2 (by decide) ?_
  refine xs_cS_v (As := [_, _, _]) dA_setSystem_3 lkA_76 (k_A_rr (lo:=0) (hi:=4) (by decide) (by decide) hr) rfl rfl (Nat.le_of_ble_eq_true rfl) ⟨by decide, by decide⟩ ⟨by omega, by omega⟩ ?_
  refine xs_aload_n dA_setSystem_6 rfl ?_
  refine xs_cV_vx (As := []) dA_setSystem_7 lkA_251 (by repeat (first | exact va_up_self _ _ _ | assumption | refine (va_up_ne _ _ (by omega)).trans ?_)) (k_A_remember hx) rfl rfl (Nat.le_of_ble_eq_true rfl) ⟨by decide, by decide⟩ ⟨by omega, by omega⟩ ?_
  intro H3 ⟨hx3, hf3⟩
  obtain ⟨s, hs⟩ : ∃ s, s = x.toInt := ⟨_, rfl⟩
  have ex : x = iI s := by rw [hs, iT]
  rw [← hs] at hr ⊢
  clear hs
  subst ex
  rw [rSystem, if_pos hr]
  have hc3 := hx3.1
  have hp3 := hx3.2.2.1
  have hpc3 := cry_cell hp3
  have h9 : cry (va_up H3 (a + 4) (oC (a + 4) (S.2.1.1, s, S.2.1.2.2))) (a + 4) (S.2.1.1, s, S.2.1.2.2) := cry_sys hp3 hr
  refine xs_aload_n dA_setSystem_10 rfl ?_
  refine xs_get dA_setSystem_11 flA_19 (by repeat (first | exact va_up_self _ _ _ | assumption | refine (va_up_ne _ _ (by omega)).trans ?_)) rfl ?_
  refine xs_get dA_setSystem_14 flA_113 (by repeat (first | exact va_up_self _ _ _ | assumption | refine (va_up_ne _ _ (by omega)).trans ?_)) rfl ?_
  refine xs_istore_n (L2 := [(2, _), (0, _), (1, _)]) dA_setSystem_17 (by decide) rfl ?_
  refine xs_aload_n dA_setSystem_18 rfl ?_
  refine xs_get dA_setSystem_19 flA_19 (by repeat (first | exact va_up_self _ _ _ | assumption | refine (va_up_ne _ _ (by omega)).trans ?_)) rfl ?_
  refine xs_iload_n dA_setSystem_22 rfl ?_
  refine xs_put dA_setSystem_23 flA_113 ft0_5 (by repeat (first | exact va_up_self _ _ _ | assumption | refine (va_up_ne _ _ (by omega)).trans ?_)) (fun _ => rfl) (fun _ => rfl) (by simp) ?_
  refine xs_iload_n dA_setSystem_26 rfl ?_
  exact xs_iret dA_setSystem_27 rfl rfl (by omega) (by omega) (aOk rfl rfl ⟨_, _, fzx_pre hx3 (xfr_up xfr_rf (by omega) (by omega)) h9⟩ (xfr_up hf3 (by omega) (by omega)))
theorem k_A_setLeast {x : Int32} (hx : fzo G a S) : xK mA_setLeast [.ref a, .int x] n G 1 6 (aPost n a G (rLeast S x.toInt)) (aExc n a G (rLeast S x.toInt) eA eA) := by
  have hS := hx
  obtain ⟨Vt, lis, hx⟩ := hx
  obtain ⟨hc, htx, hpr, htr, hhi, hsa, hiv, hzp, hzt, hfm, hgr, hsc, hs0, hs1⟩ := id hx
  refine xK_of2 (L0 := [(0, _), (1, _)]) (by decide +kernel) rfl (Nat.le_of_ble_eq_true rfl) rfl ?_
  by_cases hr : (2 : Int) ≤ x.toInt ∧ x.toInt ≤ 6
  case neg =>
    refine xs_iload_n dA_setLeast_0 rfl ?_
    refine xs_iconst (v := 2) dA_setLeast_1 (by decide) ?_
    refine xs_bipush (v := 6) dA_setLeast_2 (by decide) ?_
    exact xs_cS_t (As := [_, _, _]) dA_setLeast_4 lkA_76 (k_A_rrx (lo:=2) (hi:=6) (by decide) (by decide) hr) rfl rfl (Nat.le_of_ble_eq_true rfl) ⟨by decide, by decide⟩ rfl ⟨by omega, by omega⟩ (aX1 (by rw [rLeast, if_neg hr]) hS xfr_rf)
  refine xs_iload_n dA_setLeast_0 rfl ?_
  refine xs_iconst (v := 2) dA_setLeast_1 (by decide) ?_
  refine xs_bipush (v := 6) dA_setLeast_2 (by decide) ?_
  refine xs_cS_v (As := [_, _, _]) dA_setLeast_4 lkA_76 (k_A_rr (lo:=2) (hi:=6) (by decide) (by decide) hr) rfl rfl (Nat.le_of_ble_eq_true rfl) ⟨by decide, by decide⟩ ⟨by omega, by omega⟩ ?_
  refine xs_aload_n dA_setLeast_7 rfl ?_
  refine xs_cV_vx (As := []) dA_setLeast_8 lkA_251 (by repeat (first | exact va_up_self _ _ _ | assumption | refine (va_up_ne _ _ (by omega)).trans ?_)) (k_A_remember hx) rfl rfl (Nat.le_of_ble_eq_true rfl) ⟨by decide, by decide⟩ ⟨by omega, by omega⟩ ?_
  intro H3 ⟨hx3, hf3⟩
  obtain ⟨s, hs⟩ : ∃ s, s = x.toInt := ⟨_, rfl⟩
  have ex : x = iI s := by rw [hs, iT]
  rw [← hs] at hr ⊢
  clear hs
  subst ex
  rw [rLeast, if_pos hr]
  have hc3 := hx3.1
  have hp3 := hx3.2.2.1
  have hpc3 := cry_cell hp3
  have h9 : cry (va_up H3 (a + 4) (oC (a + 4) (zLst S.2.1 s))) (a + 4) (zLst S.2.1 s) := cry_lst hp3 hr
  have hx4 : fzx (va_up H3 (a + 4) (oC (a + 4) (zLst S.2.1 s))) a S.1 (zLst S.2.1 s) Vt (hPush S.2.2.1 S.2.1) S.2.2.2 false := fzx_pre hx3 (xfr_up xfr_rf (by omega) (by omega)) h9
  refine xs_aload_n dA_setLeast_11 rfl ?_
  refine xs_get dA_setLeast_12 flA_19 (by repeat (first | exact va_up_self _ _ _ | assumption | refine (va_up_ne _ _ (by omega)).trans ?_)) rfl ?_
  refine xs_iload_n dA_setLeast_15 rfl ?_
  refine xs_put dA_setLeast_16 flA_116 ft0_6 (by repeat (first | exact va_up_self _ _ _ | assumption | refine (va_up_ne _ _ (by omega)).trans ?_)) (fun _ => rfl) (fun _ => rfl) (by simp) ?_
  refine xs_aload_n dA_setLeast_19 rfl ?_
  refine xs_cV_rx (As := []) dA_setLeast_20 lkA_119 (by repeat (first | exact va_up_self _ _ _ | assumption | refine (va_up_ne _ _ (by omega)).trans ?_)) (k_A_zonesNow hx4) rfl rfl (Nat.le_of_ble_eq_true rfl) ⟨by decide, by decide⟩ ⟨by omega, by omega⟩ ?_
  intro r H5 ⟨h1, hx5, hf5⟩
  subst h1
  obtain ⟨R, hz, hfin⟩ := zpr_now hx5.2.2.2.2.2.2.2.1
  obtain ⟨fd, fa, pa, ms, cv, hz3, _⟩ := id hz
  have hzc := zlo_cell hz3
  refine xs_get dA_setLeast_23 flA_123 (by repeat (first | exact va_up_self _ _ _ | assumption | refine (va_up_ne _ _ (by omega)).trans ?_)) rfl ?_
  exact xs_iret dA_setLeast_26 rfl rfl (by omega) (by omega) (aOk rfl (by rw [zcn_eq (zSet_of hfin)]; exact iI_nat _) ⟨_, _, hx5⟩ (xfr_tr (xfr_up hf3 (by omega) (by omega)) (xzf_x hf5)))
theorem wPl_b {p q r : Int} (h : wPl p q r = true) : bd 4 (p, q, r) ∧ (p, q, r) ≠ ((0, 0, 0) : P3) := by
  simp only [wPl, Bool.and_eq_true, wi_iff, decide_eq_true_eq] at h
  obtain ⟨⟨⟨h1, h2⟩, h3⟩, h4⟩ := h
  exact ⟨⟨by show p.natAbs < 4; omega, by show q.natAbs < 4; omega, by show r.natAbs < 4; omega⟩, h4⟩
theorem k_A_setTwin {x y z : Int32} (hx : fzo G a S) : xK mA_setTwin [.ref a, .int x, .int y, .int z] n G 1 6 (aPost n a G (rSetTwin S x.toInt y.toInt z.toInt)) (aExc n a G (rSetTwin S x.toInt y.toInt z.toInt) eA eA) := by
  have hS := hx
  obtain ⟨Vt, lis, hx⟩ := hx
  obtain ⟨hc, htx, hpr, htr, hhi, hsa, hiv, hzp, hzt, hfm, hgr, hsc, hs0, hs1⟩ := id hx
  refine xK_of2 (L0 := [(0, _), (1, _), (2, _), (3, _)]) (by decide +kernel) rfl (Nat.le_of_ble_eq_true rfl) rfl ?_
  refine xs_iload_n dA_setTwin_0 rfl ?_
  refine xs_iload_n dA_setTwin_1 rfl ?_
  refine xs_iload_n dA_setTwin_2 rfl ?_
  refine xs_cS_i (As := [_, _, _]) dA_setTwin_3 lkA_276 (k_A_isTwinPlane) rfl rfl (Nat.le_of_ble_eq_true rfl) ⟨by decide, by decide⟩ ⟨by omega, by omega⟩ ?_
  refine xs_if_ne dA_setTwin_6 (fun q => ?_) (fun q => ?_)
  case _ =>
    have hw := (bI_1n _).mp q
    rw [rSetTwin, if_pos hw]
    obtain ⟨hb, hne⟩ := wPl_b hw
    refine xs_aload_n dA_setTwin_20 rfl ?_
    refine xs_cV_vx (As := []) dA_setTwin_21 lkA_251 (by repeat (first | exact va_up_self _ _ _ | assumption | refine (va_up_ne _ _ (by omega)).trans ?_)) (k_A_remember hx) rfl rfl (Nat.le_of_ble_eq_true rfl) ⟨by decide, by decide⟩ ⟨by omega, by omega⟩ ?_
    intro H3 ⟨hx3, hf3⟩
    have hc3 := hx3.1
    have hp3 := hx3.2.2.1
    have hpc3 := cry_cell hp3
    have hk := k_C_aimTwin (n := n) hp3 hb hne
    rw [iT, iT, iT] at hk
    refine xs_aload_n dA_setTwin_24 rfl ?_
    refine xs_get dA_setTwin_25 flA_19 (by repeat (first | exact va_up_self _ _ _ | assumption | refine (va_up_ne _ _ (by omega)).trans ?_)) rfl ?_
    refine xs_iload_n dA_setTwin_28 rfl ?_
    refine xs_iload_n dA_setTwin_29 rfl ?_
    refine xs_iload_n dA_setTwin_30 rfl ?_
    refine xs_cV_vx (As := [_, _, _]) dA_setTwin_31 lkA_282 (by repeat (first | exact va_up_self _ _ _ | assumption | refine (va_up_ne _ _ (by omega)).trans ?_)) (hk) rfl rfl (Nat.le_of_ble_eq_true rfl) ⟨by decide, by decide⟩ ⟨by omega, by omega⟩ ?_
    intro H4 ⟨h4, h5⟩
    have hx4 := fzx_pre hx3 h5 h4
    have hc4 := hx4.1
    refine xs_aload_n dA_setTwin_34 rfl ?_
    refine xs_cV_rx (As := []) dA_setTwin_35 lkA_119 (by repeat (first | exact va_up_self _ _ _ | assumption | refine (va_up_ne _ _ (by omega)).trans ?_)) (k_A_zonesNow hx4) rfl rfl (Nat.le_of_ble_eq_true rfl) ⟨by decide, by decide⟩ ⟨by omega, by omega⟩ ?_
    intro r H5 ⟨h1, hx5, hf5⟩
    subst h1
    obtain ⟨R, hz, hfin⟩ := zpr_now hx5.2.2.2.2.2.2.2.1
    obtain ⟨fd, fa, pa, ms, cv, hz3, _⟩ := id hz
    have hzc := zlo_cell hz3
    refine xs_get dA_setTwin_38 flA_123 (by repeat (first | exact va_up_self _ _ _ | assumption | refine (va_up_ne _ _ (by omega)).trans ?_)) rfl ?_
    exact xs_iret dA_setTwin_41 rfl rfl (by omega) (by omega) (aOk rfl (by rw [zcn_eq (zSet_of hfin)]; exact iI_nat _) ⟨_, _, hx5⟩ (xfr_tr (xfr_tr hf3 (xfr_mono h5 (by omega) (by omega))) (xzf_x hf5)))
  case _ =>
    have hw : ¬ wPl x.toInt y.toInt z.toInt = true := by rw [(bI_0 _).mp q]; decide
    exact xs_throwW rfl rfl xtA (List.mem_of_getElem? (i := 13) rfl) dA_setTwin_9 dA_setTwin_12 dA_setTwin_13 dA_setTwin_16 dA_setTwin_19 (Nat.le_of_ble_eq_true rfl) ⟨by decide, by decide⟩ (by omega) (by omega) (aX1 (by rw [rSetTwin, if_neg hw]) hS xfr_rf)
end A8
