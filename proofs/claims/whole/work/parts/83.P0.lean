section P0
variable {n b : Nat} {G : xG} {rf : Int32} {S : zS} {T : List Nat} {V : zV} {A : List zV} {O : Option zV × Option zV} {sz sp ac zs ft : Int32} {gd : Bool} {th : Nat → Int64}
theorem k_B_hasRoomForForm {i : Nat} {c : zF} (h : mdx G b rf T V A O) (hci : V.1[i]? = some c) :
    xK mB_hasRoomForForm [.ref b, .int (nI i)] n G 0 0 (qIx n (fun q H => q = bI (decide (V.1.length + (zMis V c).length ≤ 16)) ∧ mdx H b rf T V A O ∧ H b = G b ∧ xfr b (b + 17) G H)) xNo := by
  obtain ⟨⟨sp, gd, zs, ft, hc⟩, k1, k2, ⟨f, hr, hf, hV⟩, k4, k5, k6, k7, k8⟩ := id h
  obtain ⟨th, t8⟩ := mdx_t8 h
  have hL := hV.1
  have i0 : vp_in (0 : Int32) 70 := fin70 (j := 0) (by decide)
  have j0 : (0 : Int32).toNatClampNeg = 0 := by decide
  refine xK_of2 (L0 := [(0, _), (1, _)]) (by decide +kernel) rfl (Nat.le_of_ble_eq_true rfl) rfl ?_
  refine xs_aload_n dB_hasRoomForForm_0 rfl ?_
  refine xs_cV_vx (As := []) dB_hasRoomForForm_1 lkB_282 (by repeat (first | exact va_up_self _ _ _ | assumption | refine (va_up_ne _ _ (by omega)).trans ?_)) (k_B_begin h) rfl rfl (Nat.le_of_ble_eq_true rfl) ⟨by decide, by decide⟩ ⟨by omega, by omega⟩ ?_
  intro H ⟨h2, ⟨g, r4, hg, _⟩, hfr⟩
  have c2 : H b = mCl b rf (nI T.length) sp gd (nI A.length) zs ft := by rw [hfr _ (by omega)]; exact hc
  have r2 : H (b + 3) = oI 70 f := by rw [hfr _ (by omega)]; exact hr
  have t82 : H (b + 8) = oL 3 th := by rw [hfr _ (by omega)]; exact t8
  refine xs_aload_n dB_hasRoomForForm_4 rfl ?_
  refine xs_get dB_hasRoomForForm_5 flB_16 (by repeat (first | exact va_up_self _ _ _ | assumption | refine (va_up_ne _ _ (by omega)).trans ?_)) rfl ?_
  refine xs_iconst (v := 0) dB_hasRoomForForm_8 (by decide) ?_
  refine xs_iald dB_hasRoomForForm_9 (by repeat (first | exact va_up_self _ _ _ | assumption | refine (va_up_ne _ _ (by omega)).trans ?_)) (by assumption) ?_
  rw [j0, hf.1.1]
  refine xs_aload_n dB_hasRoomForForm_10 rfl ?_
  refine xs_aload_n dB_hasRoomForForm_11 rfl ?_
  refine xs_get dB_hasRoomForForm_12 flB_19 (by repeat (first | exact va_up_self _ _ _ | assumption | refine (va_up_ne _ _ (by omega)).trans ?_)) rfl ?_
  refine xs_iload_n dB_hasRoomForForm_15 rfl ?_
  refine xs_cV_ix (As := [_, _]) dB_hasRoomForForm_16 lkB_285 (by repeat (first | exact va_up_self _ _ _ | assumption | refine (va_up_ne _ _ (by omega)).trans ?_)) (k_B_addForms c2 t82 r4 ⟨by omega, by omega⟩ hV hg hci) rfl rfl (Nat.le_of_ble_eq_true rfl) ⟨by decide, by decide⟩ ⟨by omega, by omega⟩ ?_
  intro q H3 ⟨q1, q2, ⟨g3, W2, q3, _⟩, q4⟩
  subst q1
  have h3 : mdx H3 b rf T V A O := mdx_t h2 q2 ⟨g3, q3⟩ q4
  have f3 : xfr b (b + 17) G H3 := fun k hk => by rw [q4 k (by omega) (by omega), hfr k (by omega)]
  have cb : H3 b = G b := by rw [q4 _ (by omega) (by omega), hfr _ (by omega)]
  refine xs_iadd dB_hasRoomForForm_19 ?_
  rw [nI_add2]
  refine xs_bipush (v := 16) dB_hasRoomForForm_20 (by decide) ?_
  have hb : (zMis V c).length < 100000 := by
    unfold zMis
    exact Nat.lt_of_le_of_lt (Nat.le_trans (List.length_filter_le _ _) (frm_le _ _)) (by decide)
  by_cases hle : V.1.length + (zMis V c).length ≤ 16
  · refine xs_icmp_gt dB_hasRoomForForm_22 (fun q => absurd q (Int32.not_lt.mpr (nI_le (b := 16) hle (by decide)))) (fun _ => ?_)
    refine xs_iconst (v := 1) dB_hasRoomForForm_25 (by decide) ?_
    refine xs_goto dB_hasRoomForForm_26 ?_
    exact xs_iret dB_hasRoomForForm_30 rfl rfl (by omega) (by omega) ⟨_, rfl, rfl, by rw [bI_t hle], h3, cb, f3⟩
  · refine xs_icmp_gt dB_hasRoomForForm_22 (fun _ => ?_) (fun q => absurd ((nI_leI (b := 16) (by omega) (by decide)).mp (Int32.not_lt.mp q)) hle)
    refine xs_iconst (v := 0) dB_hasRoomForForm_29 (by decide) ?_
    exact xs_iret dB_hasRoomForForm_30 rfl rfl (by omega) (by omega) ⟨_, rfl, rfl, by rw [bI_f hle], h3, cb, f3⟩
theorem k_B_addForm {x : Int32} (h : mdo G b rf S) : xK mB_addForm [.ref b, .int x] n G 0 0 (bPost n b G (rAddForm S x.toInt)) xNo := by
  obtain ⟨⟨sp, gd, zs, ft, hc⟩, k1, k2, ⟨f, hr, hf, hV⟩, k4, k5, k6, k7, k8⟩ := id h
  refine xK_of2 (L0 := [(0, _), (1, _)]) (by decide +kernel) rfl (Nat.le_of_ble_eq_true rfl) rfl ?_
  refine xs_aload_n dB_addForm_0 rfl ?_
  refine xs_aload_n dB_addForm_1 rfl ?_
  refine xs_iload_n dB_addForm_2 rfl ?_
  refine xs_cV_i (As := [_]) dB_addForm_3 lkB_232 (by repeat (first | exact va_up_self _ _ _ | assumption | refine (va_up_ne _ _ (by omega)).trans ?_)) (k_B_isFace h) rfl rfl (Nat.le_of_ble_eq_true rfl) ⟨by decide, by decide⟩ ⟨by omega, by omega⟩ ?_
  cases hx : fAt S.2.1.1 x.toInt with
  | none =>
    have hR : rAddForm S x.toInt = (1, 0, S) := by simp only [rAddForm, hx]
    refine xs_ifb_ne dB_addForm_6 (fun q => Bool.noConfusion q) (fun _ => ?_)
    refine xs_iconst (v := 1) dB_addForm_9 (by decide) ?_
    refine xs_goto dB_addForm_10 ?_
    refine xs_cV_i (As := [_]) dB_addForm_26 lkB_176 (by repeat (first | exact va_up_self _ _ _ | assumption | refine (va_up_ne _ _ (by omega)).trans ?_)) (k_B_refused (w:=1) (by decide) hc) rfl rfl (Nat.le_of_ble_eq_true rfl) ⟨by decide, by decide⟩ ⟨by omega, by omega⟩ ?_
    rw [bI_t (by decide)]
    refine xs_if_eq dB_addForm_29 (fun q => absurd q (by decide)) (fun _ => ?_)
    refine xs_iconst (v := 0) dB_addForm_32 (by decide) ?_
    exact xs_iret dB_addForm_33 rfl rfl (by omega) (by omega) (bNo hR (by decide) (mdx_rf h) rf_fr)
  | some c =>
    have hR0 : rAddForm S x.toInt = if 16 < S.2.1.1.length + (zMis S.2.1 c).length then (2, 0, S) else (0, ((zMis S.2.1 c).length : Int), (S.1, zFrm S.2.1 c, hPush S.2.2.1 S.2.1, S.2.2.2)) := by simp only [rAddForm, hx]
    obtain ⟨i, hxi, _, _, hci⟩ := fAt_int hx
    obtain ⟨R, hRR⟩ : ∃ R, R = rAddForm S x.toInt := ⟨_, rfl⟩
    rw [← hRR] at hR0 ⊢
    clear hRR hx
    subst hxi
    refine xs_ifb_ne dB_addForm_6 (fun _ => ?_) (fun q => Bool.noConfusion q)
    refine xs_aload_n dB_addForm_13 rfl ?_
    refine xs_iload_n dB_addForm_14 rfl ?_
    refine xs_cV_ix (As := [_]) dB_addForm_15 lkB_288 (by repeat (first | exact va_up_self _ _ _ | assumption | refine (va_up_ne _ _ (by omega)).trans ?_)) (k_B_hasRoomForForm h hci) rfl rfl (Nat.le_of_ble_eq_true rfl) ⟨by decide, by decide⟩ ⟨by omega, by omega⟩ ?_
    intro q H ⟨q1, hm, hcb, fH⟩
    subst q1
    have hc2 := hcb.trans hc
    clear h hc hr hf hV k1 k2 k4 k5 k6 k7 k8 hcb
    have h := hm
    have hc := hc2
    refine xs_ifb_eq dB_addForm_18 (fun hb => ?_) (fun hb => ?_)
    · have hb2 := of_decide_eq_false hb
      rw [if_pos (by omega)] at hR0
      refine xs_iconst (v := 2) dB_addForm_25 (by decide) ?_
      refine xs_cV_i (As := [_]) dB_addForm_26 lkB_176 (by repeat (first | exact va_up_self _ _ _ | assumption | refine (va_up_ne _ _ (by omega)).trans ?_)) (k_B_refused (w:=2) (by decide) hc) rfl rfl (Nat.le_of_ble_eq_true rfl) ⟨by decide, by decide⟩ ⟨by omega, by omega⟩ ?_
      rw [bI_t (by decide)]
      refine xs_if_eq dB_addForm_29 (fun q => absurd q (by decide)) (fun _ => ?_)
      refine xs_iconst (v := 0) dB_addForm_32 (by decide) ?_
      exact xs_iret dB_addForm_33 rfl rfl (by omega) (by omega) (bNo hR0 (by decide) (mdx_rf h) (xfr_tr fH rf_fr))
    · have hb2 := of_decide_eq_true hb
      rw [if_neg (by omega)] at hR0
      refine xs_iconst (v := 0) dB_addForm_21 (by decide) ?_
      refine xs_goto dB_addForm_22 ?_
      refine xs_cV_i (As := [_]) dB_addForm_26 lkB_176 (by repeat (first | exact va_up_self _ _ _ | assumption | refine (va_up_ne _ _ (by omega)).trans ?_)) (k_B_refused (w:=0) (by decide) hc) rfl rfl (Nat.le_of_ble_eq_true rfl) ⟨by decide, by decide⟩ ⟨by omega, by omega⟩ ?_
      rw [bI_f (by decide)]
      refine xs_if_eq dB_addForm_29 (fun _ => ?_) (fun q => absurd rfl q)
      obtain ⟨H1, hH1⟩ : ∃ H1, H1 = va_up H b (mCl b (nI 0) (nI S.1.length) sp gd (nI S.2.2.1.length) zs ft) := ⟨_, rfl⟩
      have h1 : mdo H1 b (nI 0) S := hH1 ▸ mdx_rf h
      have f1 : xfr b (b + 17) G H1 := xfr_tr fH (hH1 ▸ rf_fr)
      have c1 : H1 b = mCl b (nI 0) (nI S.1.length) sp gd (nI S.2.2.1.length) zs ft := by rw [hH1, va_up_self]
      have e1 : ∀ k, k ≠ b → H1 k = H k := fun k hk => by rw [hH1, va_up_ne _ _ hk]
      refine xs_at (H := H1) hH1.symm ?_
      clear hH1
      refine xs_aload_n dB_addForm_34 rfl ?_
      refine xs_cV_vx (As := []) dB_addForm_35 lkB_279 (by repeat (first | exact va_up_self _ _ _ | assumption | refine (va_up_ne _ _ (by omega)).trans ?_)) (k_B_note h1) rfl rfl (Nat.le_of_ble_eq_true rfl) ⟨by decide, by decide⟩ ⟨by omega, by omega⟩ ?_
      intro H2 ⟨h2, f2⟩
      obtain ⟨⟨sp2, gd2, zs2, ft2, c2⟩, _, _, ⟨g, r2, hg, hV2⟩, _, _, _, ⟨⟨th3, t82⟩, _⟩, _⟩ := id h2
      refine xs_aload_n dB_addForm_38 rfl ?_
      refine xs_aload_n dB_addForm_39 rfl ?_
      refine xs_get dB_addForm_40 flB_16 (by repeat (first | exact va_up_self _ _ _ | assumption | refine (va_up_ne _ _ (by omega)).trans ?_)) rfl ?_
      refine xs_iload_n dB_addForm_43 rfl ?_
      refine xs_cV_ix (As := [_, _]) dB_addForm_44 lkB_285 (by repeat (first | exact va_up_self _ _ _ | assumption | refine (va_up_ne _ _ (by omega)).trans ?_)) (k_B_addForms c2 t82 r2 ⟨by omega, by omega⟩ hV2 hg hci) rfl rfl (Nat.le_of_ble_eq_true rfl) ⟨by decide, by decide⟩ ⟨by omega, by omega⟩ ?_
      intro q H3 ⟨p1, p2, ⟨g3, W2, p3, p4, p5, p6⟩, p7⟩
      have hW := p6 hb2
      subst hW
      exact xs_iret dB_addForm_47 rfl rfl (by omega) (by omega) (bOk hR0 (p1.trans (iI_nat _)) (mdx_p h2 p2 ⟨g3, p3, p4, p5⟩ p7) (xfr_tr f1 (xfr_tr f2 (rfr_x p7 ⟨by omega, by omega⟩))))
theorem k_B_twin {x : Int32} (h : mdo G b rf S) : xK mB_twin [.ref b, .int x] n G 0 0 (bPost n b G (rTwin S x.toInt)) xNo := by
  obtain ⟨⟨sp, gd, zs, ft, hc⟩, k1, k2, ⟨f, hr, hf, hV⟩, k4, k5, k6, k7, k8⟩ := id h
  refine xK_of2 (L0 := [(0, _), (1, _)]) (by decide +kernel) rfl (Nat.le_of_ble_eq_true rfl) rfl ?_
  refine xs_aload_n dB_twin_0 rfl ?_
  refine xs_aload_n dB_twin_1 rfl ?_
  refine xs_iload_n dB_twin_2 rfl ?_
  refine xs_cV_i (As := [_]) dB_twin_3 lkB_232 (by repeat (first | exact va_up_self _ _ _ | assumption | refine (va_up_ne _ _ (by omega)).trans ?_)) (k_B_isFace h) rfl rfl (Nat.le_of_ble_eq_true rfl) ⟨by decide, by decide⟩ ⟨by omega, by omega⟩ ?_
  cases hx : fAt S.2.1.1 x.toInt with
  | none =>
    have hR : rTwin S x.toInt = (1, 0, S) := by simp only [rTwin, hx]
    refine xs_ifb_ne dB_twin_6 (fun q => Bool.noConfusion q) (fun _ => ?_)
    refine xs_iconst (v := 1) dB_twin_9 (by decide) ?_
    refine xs_goto dB_twin_10 ?_
    refine xs_cV_i (As := [_]) dB_twin_26 lkB_176 (by repeat (first | exact va_up_self _ _ _ | assumption | refine (va_up_ne _ _ (by omega)).trans ?_)) (k_B_refused (w:=1) (by decide) hc) rfl rfl (Nat.le_of_ble_eq_true rfl) ⟨by decide, by decide⟩ ⟨by omega, by omega⟩ ?_
    rw [bI_t (by decide)]
    refine xs_if_eq dB_twin_29 (fun q => absurd q (by decide)) (fun _ => ?_)
    refine xs_iconst (v := 0) dB_twin_32 (by decide) ?_
    exact xs_iret dB_twin_33 rfl rfl (by omega) (by omega) (bNo hR (by decide) (mdx_rf h) rf_fr)
  | some c =>
    have hR0 : rTwin S x.toInt = if zwhy S.2.1.1 c.1 (1 - c.2) ≠ 0 then (2, 0, S) else (0, (S.2.1.1.length : Int), (S.1, zAdd S.2.1 (dv c.1, 1 - c.2), hPush S.2.2.1 S.2.1, S.2.2.2)) := by simp only [rTwin, hx]
    obtain ⟨i, hxi, _, _, hci⟩ := fAt_int hx
    obtain ⟨R, hRR⟩ : ∃ R, R = rTwin S x.toInt := ⟨_, rfl⟩
    rw [← hRR] at hR0 ⊢
    clear hRR hx
    subst hxi
    obtain ⟨th, t8⟩ := mdx_t8 h
    refine xs_ifb_ne dB_twin_6 (fun _ => ?_) (fun q => Bool.noConfusion q)
    refine xs_aload_n dB_twin_13 rfl ?_
    refine xs_iload_n dB_twin_14 rfl ?_
    refine xs_cV_ix (As := [_]) dB_twin_15 lkB_291 (by repeat (first | exact va_up_self _ _ _ | assumption | refine (va_up_ne _ _ (by omega)).trans ?_)) (k_B_canTwin hc t8 hr hV hf hci) rfl rfl (Nat.le_of_ble_eq_true rfl) ⟨by decide, by decide⟩ ⟨by omega, by omega⟩ ?_
    intro q H ⟨q1, th2, q2⟩
    subst q1
    have hm : mdo H b rf S := by rw [q2]; exact mdx_8 h
    have fH : xfr b (b + 17) G H := by rw [q2]; exact x8
    have cH : H b = mCl b rf (nI S.1.length) sp gd (nI S.2.2.1.length) zs ft := by rw [q2, va_up_ne _ _ (by omega)]; exact hc
    clear h hc hr hf hV k1 k2 k4 k5 k6 k7 k8 q2 t8
    have h := hm
    have hc := cH
    refine xs_ifb_eq dB_twin_18 (fun hb => ?_) (fun hb => ?_)
    · have hb2 := of_decide_eq_false hb
      rw [if_pos hb2] at hR0
      refine xs_iconst (v := 2) dB_twin_25 (by decide) ?_
      refine xs_cV_i (As := [_]) dB_twin_26 lkB_176 (by repeat (first | exact va_up_self _ _ _ | assumption | refine (va_up_ne _ _ (by omega)).trans ?_)) (k_B_refused (w:=2) (by decide) hc) rfl rfl (Nat.le_of_ble_eq_true rfl) ⟨by decide, by decide⟩ ⟨by omega, by omega⟩ ?_
      rw [bI_t (by decide)]
      refine xs_if_eq dB_twin_29 (fun q => absurd q (by decide)) (fun _ => ?_)
      refine xs_iconst (v := 0) dB_twin_32 (by decide) ?_
      exact xs_iret dB_twin_33 rfl rfl (by omega) (by omega) (bNo hR0 (by decide) (mdx_rf h) (xfr_tr fH rf_fr))
    · have hb2 := of_decide_eq_true hb
      rw [if_neg (fun q => q hb2)] at hR0
      refine xs_iconst (v := 0) dB_twin_21 (by decide) ?_
      refine xs_goto dB_twin_22 ?_
      refine xs_cV_i (As := [_]) dB_twin_26 lkB_176 (by repeat (first | exact va_up_self _ _ _ | assumption | refine (va_up_ne _ _ (by omega)).trans ?_)) (k_B_refused (w:=0) (by decide) hc) rfl rfl (Nat.le_of_ble_eq_true rfl) ⟨by decide, by decide⟩ ⟨by omega, by omega⟩ ?_
      rw [bI_f (by decide)]
      refine xs_if_eq dB_twin_29 (fun _ => ?_) (fun q => absurd rfl q)
      obtain ⟨H1, hH1⟩ : ∃ H1, H1 = va_up H b (mCl b (nI 0) (nI S.1.length) sp gd (nI S.2.2.1.length) zs ft) := ⟨_, rfl⟩
      have h1 : mdo H1 b (nI 0) S := hH1 ▸ mdx_rf h
      have f1 : xfr b (b + 17) G H1 := xfr_tr fH (hH1 ▸ rf_fr)
      have c1 : H1 b = mCl b (nI 0) (nI S.1.length) sp gd (nI S.2.2.1.length) zs ft := by rw [hH1, va_up_self]
      have e1 : ∀ k, k ≠ b → H1 k = H k := fun k hk => by rw [hH1, va_up_ne _ _ hk]
      refine xs_at (H := H1) hH1.symm ?_
      clear hH1
      refine xs_aload_n dB_twin_34 rfl ?_
      refine xs_cV_vx (As := []) dB_twin_35 lkB_279 (by repeat (first | exact va_up_self _ _ _ | assumption | refine (va_up_ne _ _ (by omega)).trans ?_)) (k_B_note h1) rfl rfl (Nat.le_of_ble_eq_true rfl) ⟨by decide, by decide⟩ ⟨by omega, by omega⟩ ?_
      intro H2 ⟨h2, f2⟩
      obtain ⟨⟨sp2, gd2, zs2, ft2, c2⟩, _, _, ⟨g, r2, hg, hV2⟩, _, _, _, ⟨⟨th3, t82⟩, _⟩, _⟩ := id h2
      refine xs_aload_n dB_twin_38 rfl ?_
      refine xs_aload_n dB_twin_39 rfl ?_
      refine xs_get dB_twin_40 flB_16 (by repeat (first | exact va_up_self _ _ _ | assumption | refine (va_up_ne _ _ (by omega)).trans ?_)) rfl ?_
      refine xs_iload_n dB_twin_43 rfl ?_
      refine xs_cV_ix (As := [_, _]) dB_twin_44 lkB_294 (by repeat (first | exact va_up_self _ _ _ | assumption | refine (va_up_ne _ _ (by omega)).trans ?_)) (k_B_addsTwin c2 t82 r2 ⟨by omega, by omega⟩ hV2 hg hci) rfl rfl (Nat.le_of_ble_eq_true rfl) ⟨by decide, by decide⟩ ⟨by omega, by omega⟩ ?_
      intro q H3 ⟨_, p2, ⟨g3, p3, p4⟩, p5, p6⟩
      have hput : zPut S.2.1 c.1 (1 - c.2) = zAdd S.2.1 (dv c.1, 1 - c.2) := by rw [zPut, if_pos hb2]
      rw [hput] at p4 p5
      have h3 : mdo H3 b (nI 0) (S.1, zAdd S.2.1 (dv c.1, 1 - c.2), hPush S.2.2.1 S.2.1, S.2.2.2) := mdx_p h2 p2 ⟨g3, p3, p4, p5⟩ p6
      have f3 : xfr b (b + 17) G H3 := xfr_tr f1 (xfr_tr f2 (rfr_x p6 ⟨by omega, by omega⟩))
      have c3' : H3 b = mCl b (nI 0) (nI S.1.length) sp2 gd2 (nI (hPush S.2.2.1 S.2.1).length) zs2 ft2 := by rw [p6 _ (by omega) (by omega)]; exact c2
      have i0 : vp_in (0 : Int32) 70 := fin70 (j := 0) (by decide)
      have j0 : (0 : Int32).toNatClampNeg = 0 := by decide
      have hlen : (zAdd S.2.1 (dv c.1, 1 - c.2)).1.length = S.2.1.1.length + 1 := by rw [zAdd, List.length_append, List.length_singleton]
      refine xs_pop dB_twin_47 rfl ?_
      refine xs_aload_n dB_twin_48 rfl ?_
      refine xs_get dB_twin_49 flB_16 (by repeat (first | exact va_up_self _ _ _ | assumption | refine (va_up_ne _ _ (by omega)).trans ?_)) rfl ?_
      refine xs_iconst (v := 0) dB_twin_52 (by decide) ?_
      refine xs_iald dB_twin_53 (by repeat (first | exact va_up_self _ _ _ | assumption | refine (va_up_ne _ _ (by omega)).trans ?_)) (by assumption) ?_
      refine xs_iconst (v := 1) dB_twin_54 (by decide) ?_
      rw [j0, p4.1.1, hlen]
      refine xs_isub dB_twin_55 ?_
      rw [nI_dec]
      exact xs_iret dB_twin_56 rfl rfl (by omega) (by omega) (bOk hR0 rfl h3 f3)
theorem k_B_remove {x : Int32} (h : mdo G b rf S) : xK mB_remove [.ref b, .int x] n G 0 0 (bPost n b G (rRemove S x.toInt)) xNo := by
  obtain ⟨⟨sp, gd, zs, ft, hc⟩, k1, k2, ⟨f, hr, hf, hV⟩, k4, k5, k6, k7, k8⟩ := id h
  refine xK_of2 (L0 := [(0, _), (1, _)]) (by decide +kernel) rfl (Nat.le_of_ble_eq_true rfl) rfl ?_
  refine xs_aload_n dB_remove_0 rfl ?_
  refine xs_aload_n dB_remove_1 rfl ?_
  refine xs_iload_n dB_remove_2 rfl ?_
  refine xs_cV_i (As := [_]) dB_remove_3 lkB_232 (by repeat (first | exact va_up_self _ _ _ | assumption | refine (va_up_ne _ _ (by omega)).trans ?_)) (k_B_isFace h) rfl rfl (Nat.le_of_ble_eq_true rfl) ⟨by decide, by decide⟩ ⟨by omega, by omega⟩ ?_
  cases hx : fAt S.2.1.1 x.toInt with
  | none =>
    have hR : rRemove S x.toInt = (1, 0, S) := by simp only [rRemove, hx]
    refine xs_ifb_eq dB_remove_6 (fun _ => ?_) (fun q => Bool.noConfusion q)
    refine xs_iconst (v := 1) dB_remove_13 (by decide) ?_
    refine xs_cV_i (As := [_]) dB_remove_14 lkB_176 (by repeat (first | exact va_up_self _ _ _ | assumption | refine (va_up_ne _ _ (by omega)).trans ?_)) (k_B_refused (w:=1) (by decide) hc) rfl rfl (Nat.le_of_ble_eq_true rfl) ⟨by decide, by decide⟩ ⟨by omega, by omega⟩ ?_
    rw [bI_t (by decide)]
    refine xs_if_eq dB_remove_17 (fun q => absurd q (by decide)) (fun _ => ?_)
    refine xs_iconst (v := 0) dB_remove_20 (by decide) ?_
    exact xs_iret dB_remove_21 rfl rfl (by omega) (by omega) (bNo hR (by decide) (mdx_rf h) rf_fr)
  | some c =>
    have hR0 : rRemove S x.toInt = (0, ((S.2.1.1.length - 1 : Nat) : Int), (S.1, zDrop S.2.1 x.toInt.toNat, hPush S.2.2.1 S.2.1, S.2.2.2)) := by simp only [rRemove, hx]
    obtain ⟨i, hxi, _, hxn, hci⟩ := fAt_int hx
    rw [hxn] at hR0
    obtain ⟨R, hRR⟩ : ∃ R, R = rRemove S x.toInt := ⟨_, rfl⟩
    rw [← hRR] at hR0 ⊢
    clear hRR hx hxn
    subst hxi
    have hil := (List.getElem?_eq_some_iff.mp hci).1
    refine xs_ifb_eq dB_remove_6 (fun q => Bool.noConfusion q) (fun _ => ?_)
    refine xs_iconst (v := 0) dB_remove_9 (by decide) ?_
    refine xs_goto dB_remove_10 ?_
    refine xs_cV_i (As := [_]) dB_remove_14 lkB_176 (by repeat (first | exact va_up_self _ _ _ | assumption | refine (va_up_ne _ _ (by omega)).trans ?_)) (k_B_refused (w:=0) (by decide) hc) rfl rfl (Nat.le_of_ble_eq_true rfl) ⟨by decide, by decide⟩ ⟨by omega, by omega⟩ ?_
    rw [bI_f (by decide)]
    refine xs_if_eq dB_remove_17 (fun _ => ?_) (fun q => absurd rfl q)
    obtain ⟨H1, hH1⟩ : ∃ H1, H1 = va_up G b (mCl b (nI 0) (nI S.1.length) sp gd (nI S.2.2.1.length) zs ft) := ⟨_, rfl⟩
    have h1 : mdo H1 b (nI 0) S := hH1 ▸ mdx_rf h
    have f1 : xfr b (b + 17) G H1 := hH1 ▸ rf_fr
    have c1 : H1 b = mCl b (nI 0) (nI S.1.length) sp gd (nI S.2.2.1.length) zs ft := by rw [hH1, va_up_self]
    have e1 : ∀ k, k ≠ b → H1 k = G k := fun k hk => by rw [hH1, va_up_ne _ _ hk]
    refine xs_at (H := H1) hH1.symm ?_
    clear hH1
    refine xs_aload_n dB_remove_22 rfl ?_
    refine xs_cV_vx (As := []) dB_remove_23 lkB_279 (by repeat (first | exact va_up_self _ _ _ | assumption | refine (va_up_ne _ _ (by omega)).trans ?_)) (k_B_note h1) rfl rfl (Nat.le_of_ble_eq_true rfl) ⟨by decide, by decide⟩ ⟨by omega, by omega⟩ ?_
    intro H2 ⟨h2, f2⟩
    obtain ⟨⟨sp2, gd2, zs2, ft2, c2⟩, _, _, ⟨g, r2, hg, hV2⟩, _, _, _, ⟨⟨th3, t82⟩, _⟩, _⟩ := id h2
    refine xs_aload_n dB_remove_26 rfl ?_
    refine xs_get dB_remove_27 flB_16 (by repeat (first | exact va_up_self _ _ _ | assumption | refine (va_up_ne _ _ (by omega)).trans ?_)) rfl ?_
    refine xs_iload_n dB_remove_30 rfl ?_
    refine xs_cS_vx (As := [_, _]) dB_remove_31 lkB_298 (k_B_drop r2 hV2 hg hil) rfl rfl (Nat.le_of_ble_eq_true rfl) ⟨by decide, by decide⟩ ⟨by omega, by omega⟩ ?_
    intro H3 ⟨g3, p3, p4⟩
    have p6 : rfr b (b + 3) H2 H3 := fun k h1 _ => by rw [p3, va_up_ne _ _ h1]
    have r3 : H3 (b + 3) = oI 70 g3 := by rw [p3, va_up_self]
    have h3 : mdo H3 b (nI 0) (S.1, zDrop S.2.1 i, hPush S.2.2.1 S.2.1, S.2.2.2) := mdx_p h2 ⟨th3, by rw [p3, va_up_ne _ _ (by omega)]; exact t82⟩ ⟨g3, r3, p4, zOk_drop hV2⟩ p6
    have f3 : xfr b (b + 17) G H3 := xfr_tr f1 (xfr_tr f2 (rfr_x p6 ⟨by omega, by omega⟩))
    have c3' : H3 b = mCl b (nI 0) (nI S.1.length) sp2 gd2 (nI (hPush S.2.2.1 S.2.1).length) zs2 ft2 := by rw [p6 _ (by omega) (by omega)]; exact c2
    have i0 : vp_in (0 : Int32) 70 := fin70 (j := 0) (by decide)
    have j0 : (0 : Int32).toNatClampNeg = 0 := by decide
    have hlen : (zDrop S.2.1 i).1.length = S.2.1.1.length - 1 := by rw [zDrop, List.length_eraseIdx, if_pos hil]
    refine xs_aload_n dB_remove_34 rfl ?_
    refine xs_get dB_remove_35 flB_16 (by repeat (first | exact va_up_self _ _ _ | assumption | refine (va_up_ne _ _ (by omega)).trans ?_)) rfl ?_
    refine xs_iconst (v := 0) dB_remove_38 (by decide) ?_
    refine xs_iald dB_remove_39 (by repeat (first | exact va_up_self _ _ _ | assumption | refine (va_up_ne _ _ (by omega)).trans ?_)) (by assumption) ?_
    rw [j0, p4.1.1, hlen]
    exact xs_iret dB_remove_40 rfl rfl (by omega) (by omega) (bOk hR0 (iI_nat _) h3 f3)
theorem mrow_sys {f : Nat → Int32} {s : Int32} (h : mrow f V) : mrow (upd f 1 s) (V.1, s.toInt, V.2.2) := by
  obtain ⟨⟨f0, fs, fl, f3, f4, f5⟩, hff⟩ := h
  refine ⟨⟨?_, ?_, ?_, ?_, ?_, ?_⟩, fun i c hc => ?_⟩
  · simp only [upd]; rw [if_neg (by decide)]; exact f0
  · simp only [upd, if_true]; exact (iT s).symm
  · simp only [upd]; rw [if_neg (by decide)]; exact fl
  · simp only [upd]; rw [if_neg (by decide)]; exact f3
  · simp only [upd]; rw [if_neg (by decide)]; exact f4
  · simp only [upd]; rw [if_neg (by decide)]; exact f5
  · simp only [upd]
    rw [if_neg (by omega), if_neg (by omega), if_neg (by omega), if_neg (by omega)]
    exact hff i c hc
theorem mrow_lst {f : Nat → Int32} {s : Int32} (h : mrow f V) : mrow (upd f 2 s) (zLst V s.toInt) := by
  obtain ⟨⟨f0, fs, fl, f3, f4, f5⟩, hff⟩ := h
  refine ⟨⟨?_, ?_, ?_, ?_, ?_, ?_⟩, fun i c hc => ?_⟩
  · simp only [upd]; rw [if_neg (by decide)]; exact f0
  · simp only [upd]; rw [if_neg (by decide)]; exact fs
  · simp only [upd, if_true]; exact (iT s).symm
  · simp only [upd]; rw [if_neg (by decide)]; exact f3
  · simp only [upd]; rw [if_neg (by decide)]; exact f4
  · simp only [upd]; rw [if_neg (by decide)]; exact f5
  · simp only [upd]
    rw [if_neg (by omega), if_neg (by omega), if_neg (by omega), if_neg (by omega)]
    exact hff i c hc
theorem k_B_setSystem {x : Int32} (h : mdo G b rf S) : xK mB_setSystem [.ref b, .int x] n G 0 0 (bPost n b G (rSystem S x.toInt)) xNo := by
  obtain ⟨⟨sp, gd, zs, ft, hc⟩, k1, k2, ⟨f, hr, hf, hV⟩, k4, k5, k6, k7, k8⟩ := id h
  refine xK_of2 (L0 := [(0, _), (1, _)]) (by decide +kernel) rfl (Nat.le_of_ble_eq_true rfl) rfl ?_
  refine xs_aload_n dB_setSystem_0 rfl ?_
  refine xs_iload_n dB_setSystem_1 rfl ?_
  refine xs_i2l dB_setSystem_2 ?_
  refine xs_lconst (v := 0) dB_setSystem_3 (by decide) ?_
  refine xs_ldc2 dB_setSystem_4 kcB_247 ?_
  refine xs_cS_i (As := [_, _, _]) dB_setSystem_7 lkB_169 (k_B_inI (lo:=0) (hi:=4) (by decide) (by decide)) rfl rfl (Nat.le_of_ble_eq_true rfl) ⟨by decide, by decide⟩ ⟨by omega, by omega⟩ ?_
  refine xs_ifb_eq dB_setSystem_10 (fun hb => ?_) (fun hb => ?_)
  · have hR : rSystem S x.toInt = (1, 0, S) := by rw [rSystem, if_neg (of_decide_eq_false hb)]
    refine xs_iconst (v := 1) dB_setSystem_17 (by decide) ?_
    refine xs_cV_i (As := [_]) dB_setSystem_18 lkB_176 (by repeat (first | exact va_up_self _ _ _ | assumption | refine (va_up_ne _ _ (by omega)).trans ?_)) (k_B_refused (w:=1) (by decide) hc) rfl rfl (Nat.le_of_ble_eq_true rfl) ⟨by decide, by decide⟩ ⟨by omega, by omega⟩ ?_
    rw [bI_t (by decide)]
    refine xs_if_eq dB_setSystem_21 (fun q => absurd q (by decide)) (fun _ => ?_)
    refine xs_iconst (v := 0) dB_setSystem_24 (by decide) ?_
    exact xs_iret dB_setSystem_25 rfl rfl (by omega) (by omega) (bNo hR (by decide) (mdx_rf h) rf_fr)
  · have hb2 := of_decide_eq_true hb
    have hR : rSystem S x.toInt = (0, S.2.1.2.1, (S.1, (S.2.1.1, x.toInt, S.2.1.2.2), hPush S.2.2.1 S.2.1, S.2.2.2)) := by rw [rSystem, if_pos hb2]
    refine xs_iconst (v := 0) dB_setSystem_13 (by decide) ?_
    refine xs_goto dB_setSystem_14 ?_
    refine xs_cV_i (As := [_]) dB_setSystem_18 lkB_176 (by repeat (first | exact va_up_self _ _ _ | assumption | refine (va_up_ne _ _ (by omega)).trans ?_)) (k_B_refused (w:=0) (by decide) hc) rfl rfl (Nat.le_of_ble_eq_true rfl) ⟨by decide, by decide⟩ ⟨by omega, by omega⟩ ?_
    rw [bI_f (by decide)]
    refine xs_if_eq dB_setSystem_21 (fun _ => ?_) (fun q => absurd rfl q)
    obtain ⟨H1, hH1⟩ : ∃ H1, H1 = va_up G b (mCl b (nI 0) (nI S.1.length) sp gd (nI S.2.2.1.length) zs ft) := ⟨_, rfl⟩
    have h1 : mdo H1 b (nI 0) S := hH1 ▸ mdx_rf h
    have f1 : xfr b (b + 17) G H1 := hH1 ▸ rf_fr
    have c1 : H1 b = mCl b (nI 0) (nI S.1.length) sp gd (nI S.2.2.1.length) zs ft := by rw [hH1, va_up_self]
    have e1 : ∀ k, k ≠ b → H1 k = G k := fun k hk => by rw [hH1, va_up_ne _ _ hk]
    refine xs_at (H := H1) hH1.symm ?_
    clear hH1
    refine xs_aload_n dB_setSystem_26 rfl ?_
    refine xs_cV_vx (As := []) dB_setSystem_27 lkB_279 (by repeat (first | exact va_up_self _ _ _ | assumption | refine (va_up_ne _ _ (by omega)).trans ?_)) (k_B_note h1) rfl rfl (Nat.le_of_ble_eq_true rfl) ⟨by decide, by decide⟩ ⟨by omega, by omega⟩ ?_
    intro H2 ⟨h2, f2⟩
    obtain ⟨⟨sp2, gd2, zs2, ft2, c2⟩, _, _, ⟨g, r2, hg, hV2⟩, _, _, _, ⟨⟨th3, t82⟩, _⟩, _⟩ := id h2
    have i1 : vp_in (1 : Int32) 70 := fin70 (j := 1) (by decide)
    have j1 : (1 : Int32).toNatClampNeg = 1 := by decide
    refine xs_aload_n dB_setSystem_30 rfl ?_
    refine xs_get dB_setSystem_31 flB_16 (by repeat (first | exact va_up_self _ _ _ | assumption | refine (va_up_ne _ _ (by omega)).trans ?_)) rfl ?_
    refine xs_iconst (v := 1) dB_setSystem_34 (by decide) ?_
    refine xs_iald dB_setSystem_35 (by repeat (first | exact va_up_self _ _ _ | assumption | refine (va_up_ne _ _ (by omega)).trans ?_)) (by assumption) ?_
    rw [j1, hg.1.2.1]
    refine xs_istore_n (L2 := [(2, _), (0, _), (1, _)]) dB_setSystem_36 (by decide) rfl ?_
    refine xs_aload_n dB_setSystem_37 rfl ?_
    refine xs_get dB_setSystem_38 flB_16 (by repeat (first | exact va_up_self _ _ _ | assumption | refine (va_up_ne _ _ (by omega)).trans ?_)) rfl ?_
    refine xs_iconst (v := 1) dB_setSystem_41 (by decide) ?_
    refine xs_iload_n dB_setSystem_42 rfl ?_
    refine xs_iast dB_setSystem_43 (by repeat (first | exact va_up_self _ _ _ | assumption | refine (va_up_ne _ _ (by omega)).trans ?_)) (by assumption) ?_
    refine xs_iload_n dB_setSystem_44 rfl ?_
    rw [j1]
    have p6 : rfr b (b + 3) H2 (va_up H2 (b + 3) (oI 70 (upd g 1 x))) := fun k h1 _ => va_up_ne _ _ h1
    exact xs_iret dB_setSystem_45 rfl rfl (by omega) (by omega) (bOk hR rfl (mdx_p h2 ⟨th3, by rw [va_up_ne _ _ (by omega)]; exact t82⟩ ⟨_, va_up_self _ _ _, mrow_sys hg, ⟨hV2.1, hV2.2.1, hb2, hV2.2.2.2⟩⟩ p6) (xfr_tr f1 (xfr_tr f2 (rfr_x p6 ⟨by omega, by omega⟩))))
theorem k_B_setLeast {x : Int32} (h : mdo G b rf S) : xK mB_setLeast [.ref b, .int x] n G 0 0 (bPost n b G (rLeast S x.toInt)) xNo := by
  obtain ⟨⟨sp, gd, zs, ft, hc⟩, k1, k2, ⟨f, hr, hf, hV⟩, k4, k5, k6, k7, k8⟩ := id h
  refine xK_of2 (L0 := [(0, _), (1, _)]) (by decide +kernel) rfl (Nat.le_of_ble_eq_true rfl) rfl ?_
  refine xs_aload_n dB_setLeast_0 rfl ?_
  refine xs_iload_n dB_setLeast_1 rfl ?_
  refine xs_i2l dB_setLeast_2 ?_
  refine xs_ldc2 dB_setLeast_3 kcB_96 ?_
  refine xs_ldc2 dB_setLeast_6 kcB_302 ?_
  refine xs_cS_i (As := [_, _, _]) dB_setLeast_9 lkB_169 (k_B_inI (lo:=2) (hi:=6) (by decide) (by decide)) rfl rfl (Nat.le_of_ble_eq_true rfl) ⟨by decide, by decide⟩ ⟨by omega, by omega⟩ ?_
  refine xs_ifb_eq dB_setLeast_12 (fun hb => ?_) (fun hb => ?_)
  · have hR : rLeast S x.toInt = (1, 0, S) := by rw [rLeast, if_neg (of_decide_eq_false hb)]
    refine xs_iconst (v := 1) dB_setLeast_19 (by decide) ?_
    refine xs_cV_i (As := [_]) dB_setLeast_20 lkB_176 (by repeat (first | exact va_up_self _ _ _ | assumption | refine (va_up_ne _ _ (by omega)).trans ?_)) (k_B_refused (w:=1) (by decide) hc) rfl rfl (Nat.le_of_ble_eq_true rfl) ⟨by decide, by decide⟩ ⟨by omega, by omega⟩ ?_
    rw [bI_t (by decide)]
    refine xs_if_eq dB_setLeast_23 (fun q => absurd q (by decide)) (fun _ => ?_)
    refine xs_iconst (v := 0) dB_setLeast_26 (by decide) ?_
    exact xs_iret dB_setLeast_27 rfl rfl (by omega) (by omega) (bNo hR (by decide) (mdx_rf h) rf_fr)
  · have hb2 := of_decide_eq_true hb
    have hR : rLeast S x.toInt = (0, (zcn (zLst S.2.1 x.toInt) : Int), (S.1, zLst S.2.1 x.toInt, hPush S.2.2.1 S.2.1, S.2.2.2)) := by rw [rLeast, if_pos hb2]
    refine xs_iconst (v := 0) dB_setLeast_15 (by decide) ?_
    refine xs_goto dB_setLeast_16 ?_
    refine xs_cV_i (As := [_]) dB_setLeast_20 lkB_176 (by repeat (first | exact va_up_self _ _ _ | assumption | refine (va_up_ne _ _ (by omega)).trans ?_)) (k_B_refused (w:=0) (by decide) hc) rfl rfl (Nat.le_of_ble_eq_true rfl) ⟨by decide, by decide⟩ ⟨by omega, by omega⟩ ?_
    rw [bI_f (by decide)]
    refine xs_if_eq dB_setLeast_23 (fun _ => ?_) (fun q => absurd rfl q)
    obtain ⟨H1, hH1⟩ : ∃ H1, H1 = va_up G b (mCl b (nI 0) (nI S.1.length) sp gd (nI S.2.2.1.length) zs ft) := ⟨_, rfl⟩
    have h1 : mdo H1 b (nI 0) S := hH1 ▸ mdx_rf h
    have f1 : xfr b (b + 17) G H1 := hH1 ▸ rf_fr
    have c1 : H1 b = mCl b (nI 0) (nI S.1.length) sp gd (nI S.2.2.1.length) zs ft := by rw [hH1, va_up_self]
    have e1 : ∀ k, k ≠ b → H1 k = G k := fun k hk => by rw [hH1, va_up_ne _ _ hk]
    refine xs_at (H := H1) hH1.symm ?_
    clear hH1
    refine xs_aload_n dB_setLeast_28 rfl ?_
    refine xs_cV_vx (As := []) dB_setLeast_29 lkB_279 (by repeat (first | exact va_up_self _ _ _ | assumption | refine (va_up_ne _ _ (by omega)).trans ?_)) (k_B_note h1) rfl rfl (Nat.le_of_ble_eq_true rfl) ⟨by decide, by decide⟩ ⟨by omega, by omega⟩ ?_
    intro H2 ⟨h2, f2⟩
    obtain ⟨⟨sp2, gd2, zs2, ft2, c2⟩, _, _, ⟨g, r2, hg, hV2⟩, _, _, _, ⟨⟨th3, t82⟩, _⟩, _⟩ := id h2
    have i2 : vp_in (2 : Int32) 70 := fin70 (j := 2) (by decide)
    have j2 : (2 : Int32).toNatClampNeg = 2 := by decide
    refine xs_aload_n dB_setLeast_32 rfl ?_
    refine xs_get dB_setLeast_33 flB_16 (by repeat (first | exact va_up_self _ _ _ | assumption | refine (va_up_ne _ _ (by omega)).trans ?_)) rfl ?_
    refine xs_iconst (v := 2) dB_setLeast_36 (by decide) ?_
    refine xs_iload_n dB_setLeast_37 rfl ?_
    refine xs_iast dB_setLeast_38 (by repeat (first | exact va_up_self _ _ _ | assumption | refine (va_up_ne _ _ (by omega)).trans ?_)) (by assumption) ?_
    rw [j2]
    have p6 : rfr b (b + 3) H2 (va_up H2 (b + 3) (oI 70 (upd g 2 x))) := fun k h1 _ => va_up_ne _ _ h1
    have hV3 : zOk (zLst S.2.1 x.toInt) := ⟨hV2.1, hV2.2.1, hV2.2.2.1, hb2, hV2.2.2.2.2⟩
    have h3 : mdx (va_up H2 (b + 3) (oI 70 (upd g 2 x))) b (nI 0) S.1 (zLst S.2.1 x.toInt) (hPush S.2.2.1 S.2.1) S.2.2.2 := mdx_p h2 ⟨th3, by rw [va_up_ne _ _ (by omega)]; exact t82⟩ ⟨_, va_up_self _ _ _, mrow_lst hg, hV3⟩ p6
    have f3 := xfr_tr f1 (xfr_tr f2 (rfr_x p6 ⟨by omega, by omega⟩))
    have c3' : (va_up H2 (b + 3) (oI 70 (upd g 2 x))) b = mCl b (nI 0) (nI S.1.length) sp2 gd2 (nI (hPush S.2.2.1 S.2.1).length) zs2 ft2 := by rw [va_up_ne _ _ (by omega)]; exact c2
    have r3 := va_up_self H2 (b + 3) (oI 70 (upd g 2 x))
    have hg3 := mrow_lst (s := x) hg
    obtain ⟨_, _, _, _, _, _, _, w3, _⟩ := id h3
    generalize va_up H2 (b + 3) (oI 70 (upd g 2 x)) = H3 at *
    refine xs_aload_n dB_setLeast_39 rfl ?_
    refine xs_aload_n dB_setLeast_40 rfl ?_
    refine xs_get dB_setLeast_41 flB_16 (by repeat (first | exact va_up_self _ _ _ | assumption | refine (va_up_ne _ _ (by omega)).trans ?_)) rfl ?_
    refine xs_cV_ix (As := [_]) dB_setLeast_44 lkB_223 (by repeat (first | exact va_up_self _ _ _ | assumption | refine (va_up_ne _ _ (by omega)).trans ?_)) (k_B_zonesOf c3' w3 r3 ⟨by omega, by omega⟩ hV3 hg3) rfl rfl (Nat.le_of_ble_eq_true rfl) ⟨by decide, by decide⟩ ⟨by omega, by omega⟩ ?_
    intro q H4 ⟨q1, q2, q3, q4⟩
    exact xs_iret dB_setLeast_47 rfl rfl (by omega) (by omega) (bOk hR (q1.trans (by rw [← zcn_eq (zSet_of q3.2.2.2)]; exact iI_nat _)) (mdx_z h3 ⟨_, _, _, _, q2⟩ (mwk_of q3) q4) (xfr_tr f3 (mfr_x q4)))
theorem zOk_aim {p : P3} (h : zOk V) (hb : bd 4 p) (h0 : p ≠ (0, 0, 0)) : zOk (zAim V p) := ⟨h.1, h.2.1, h.2.2.1, h.2.2.2.1, tOk_dv hb h0⟩
theorem k_B_setTwin {x y z : Int32} (h : mdo G b rf S) : xK mB_setTwin [.ref b, .int x, .int y, .int z] n G 0 0 (bPost n b G (rSetTwin S x.toInt y.toInt z.toInt)) xNo := by
  obtain ⟨⟨sp, gd, zs, ft, hc⟩, k1, k2, ⟨f, hr, hf, hV⟩, k4, k5, k6, k7, k8⟩ := id h
  refine xK_of2 (L0 := [(0, _), (1, _), (2, _), (3, _)]) (by decide +kernel) rfl (Nat.le_of_ble_eq_true rfl) rfl ?_
  refine xs_aload_n dB_setTwin_0 rfl ?_
  refine xs_iload_n dB_setTwin_1 rfl ?_
  refine xs_iload_n dB_setTwin_2 rfl ?_
  refine xs_iload_n dB_setTwin_3 rfl ?_
  refine xs_cS_i (As := [_, _, _]) dB_setTwin_4 lkB_306 (k_B_isPlane) rfl rfl (Nat.le_of_ble_eq_true rfl) ⟨by decide, by decide⟩ ⟨by omega, by omega⟩ ?_
  refine xs_ifb_eq dB_setTwin_7 (fun hb => ?_) (fun hb => ?_)
  · have hR : rSetTwin S x.toInt y.toInt z.toInt = (1, 0, S) := by rw [rSetTwin, if_neg (by rw [hb]; decide)]
    refine xs_iconst (v := 1) dB_setTwin_14 (by decide) ?_
    refine xs_cV_i (As := [_]) dB_setTwin_15 lkB_176 (by repeat (first | exact va_up_self _ _ _ | assumption | refine (va_up_ne _ _ (by omega)).trans ?_)) (k_B_refused (w:=1) (by decide) hc) rfl rfl (Nat.le_of_ble_eq_true rfl) ⟨by decide, by decide⟩ ⟨by omega, by omega⟩ ?_
    rw [bI_t (by decide)]
    refine xs_if_eq dB_setTwin_18 (fun q => absurd q (by decide)) (fun _ => ?_)
    refine xs_iconst (v := 0) dB_setTwin_21 (by decide) ?_
    exact xs_iret dB_setTwin_22 rfl rfl (by omega) (by omega) (bNo hR (by decide) (mdx_rf h) rf_fr)
  · obtain ⟨hp1, hp2⟩ := wPl_b hb
    have hR : rSetTwin S x.toInt y.toInt z.toInt = (0, (zcn (zAim S.2.1 (x.toInt, y.toInt, z.toInt)) : Int), (S.1, zAim S.2.1 (x.toInt, y.toInt, z.toInt), hPush S.2.2.1 S.2.1, S.2.2.2)) := by rw [rSetTwin, if_pos hb]
    refine xs_iconst (v := 0) dB_setTwin_10 (by decide) ?_
    refine xs_goto dB_setTwin_11 ?_
    refine xs_cV_i (As := [_]) dB_setTwin_15 lkB_176 (by repeat (first | exact va_up_self _ _ _ | assumption | refine (va_up_ne _ _ (by omega)).trans ?_)) (k_B_refused (w:=0) (by decide) hc) rfl rfl (Nat.le_of_ble_eq_true rfl) ⟨by decide, by decide⟩ ⟨by omega, by omega⟩ ?_
    rw [bI_f (by decide)]
    refine xs_if_eq dB_setTwin_18 (fun _ => ?_) (fun q => absurd rfl q)
    obtain ⟨H1, hH1⟩ : ∃ H1, H1 = va_up G b (mCl b (nI 0) (nI S.1.length) sp gd (nI S.2.2.1.length) zs ft) := ⟨_, rfl⟩
    have h1 : mdo H1 b (nI 0) S := hH1 ▸ mdx_rf h
    have f1 : xfr b (b + 17) G H1 := hH1 ▸ rf_fr
    have c1 : H1 b = mCl b (nI 0) (nI S.1.length) sp gd (nI S.2.2.1.length) zs ft := by rw [hH1, va_up_self]
    have e1 : ∀ k, k ≠ b → H1 k = G k := fun k hk => by rw [hH1, va_up_ne _ _ hk]
    refine xs_at (H := H1) hH1.symm ?_
    clear hH1
    refine xs_aload_n dB_setTwin_23 rfl ?_
    refine xs_cV_vx (As := []) dB_setTwin_24 lkB_279 (by repeat (first | exact va_up_self _ _ _ | assumption | refine (va_up_ne _ _ (by omega)).trans ?_)) (k_B_note h1) rfl rfl (Nat.le_of_ble_eq_true rfl) ⟨by decide, by decide⟩ ⟨by omega, by omega⟩ ?_
    intro H2 ⟨h2, f2⟩
    obtain ⟨⟨sp2, gd2, zs2, ft2, c2⟩, _, _, ⟨g, r2, hg, hV2⟩, _, _, _, ⟨⟨th3, t82⟩, _⟩, _⟩ := id h2
    have hk := k_B_setPlane (n := n) (x := x.toInt) (y := y.toInt) (z := z.toInt) c2 t82 r2 ⟨by omega, by omega⟩ hg hp1
    rw [iT, iT, iT] at hk
    refine xs_aload_n dB_setTwin_27 rfl ?_
    refine xs_aload_n dB_setTwin_28 rfl ?_
    refine xs_get dB_setTwin_29 flB_16 (by repeat (first | exact va_up_self _ _ _ | assumption | refine (va_up_ne _ _ (by omega)).trans ?_)) rfl ?_
    refine xs_iload_n dB_setTwin_32 rfl ?_
    refine xs_iload_n dB_setTwin_33 rfl ?_
    refine xs_iload_n dB_setTwin_34 rfl ?_
    refine xs_cV_vx (As := [_, _, _, _]) dB_setTwin_35 lkB_206 (by repeat (first | exact va_up_self _ _ _ | assumption | refine (va_up_ne _ _ (by omega)).trans ?_)) (hk) rfl rfl (Nat.le_of_ble_eq_true rfl) ⟨by decide, by decide⟩ ⟨by omega, by omega⟩ ?_
    intro H3 ⟨p2, ⟨g3, p3, p4⟩, p6⟩
    have hV3 := zOk_aim hV2 hp1 hp2
    have h3 : mdx H3 b (nI 0) S.1 (zAim S.2.1 (x.toInt, y.toInt, z.toInt)) (hPush S.2.2.1 S.2.1) S.2.2.2 := mdx_p h2 p2 ⟨g3, p3, p4, hV3⟩ p6
    have f3 := xfr_tr f1 (xfr_tr f2 (rfr_x p6 ⟨by omega, by omega⟩))
    have c3' : H3 b = mCl b (nI 0) (nI S.1.length) sp2 gd2 (nI (hPush S.2.2.1 S.2.1).length) zs2 ft2 := by rw [p6 _ (by omega) (by omega)]; exact c2
    obtain ⟨_, _, _, _, _, _, _, w3, _⟩ := id h3
    refine xs_aload_n dB_setTwin_38 rfl ?_
    refine xs_aload_n dB_setTwin_39 rfl ?_
    refine xs_get dB_setTwin_40 flB_16 (by repeat (first | exact va_up_self _ _ _ | assumption | refine (va_up_ne _ _ (by omega)).trans ?_)) rfl ?_
    refine xs_cV_ix (As := [_]) dB_setTwin_43 lkB_223 (by repeat (first | exact va_up_self _ _ _ | assumption | refine (va_up_ne _ _ (by omega)).trans ?_)) (k_B_zonesOf c3' w3 p3 ⟨by omega, by omega⟩ hV3 p4) rfl rfl (Nat.le_of_ble_eq_true rfl) ⟨by decide, by decide⟩ ⟨by omega, by omega⟩ ?_
    intro q H4 ⟨q1, q2, q3, q4⟩
    exact xs_iret dB_setTwin_46 rfl rfl (by omega) (by omega) (bOk hR (q1.trans (by rw [← zcn_eq (zSet_of q3.2.2.2)]; exact iI_nat _)) (mdx_z h3 ⟨_, _, _, _, q2⟩ (mwk_of q3) q4) (xfr_tr f3 (mfr_x q4)))
end P0
