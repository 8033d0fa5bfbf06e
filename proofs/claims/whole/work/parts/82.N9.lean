section N9
variable {n b : Nat} {G : xG} {rf : Int32} {S : zS} {T : List Nat} {V : zV} {A : List zV} {O : Option zV × Option zV} {sz sp ac zs ft : Int32} {gd : Bool} {th : Nat → Int64}
theorem mdx_8 (h : mdx G b rf T V A O) : mdx (va_up G (b + 8) (oL 3 th)) b rf T V A O := by
  obtain ⟨_, _, _, _, _, _, _, ⟨_, ⟨wy, h9⟩, _⟩, _⟩ := id h
  exact mdx_w h ⟨_, va_up_self _ _ _⟩ ⟨wy, by rw [va_up_ne _ _ (by omega)]; exact h9⟩ (fun k hk => va_up_ne _ _ (by omega))
theorem x8 {e : va_E} : xfr b (b + 17) G (va_up G (b + 8) e) := xfr_up xfr_rf (by omega) (by omega)
theorem mdx_cell (h : mdx G b rf T V A O) : ∃ sp gd zs ft, G b = mCl b rf (nI T.length) sp gd (nI A.length) zs ft := h.1
theorem mdx_t8 (h : mdx G b rf T V A O) : ∃ th, G (b + 8) = oL 3 th := by
  obtain ⟨_, _, _, _, _, _, _, ⟨h8, _⟩, _⟩ := h
  exact h8
theorem mdx_len (h : mdx G b rf T V A O) : T.length ≤ 100 := by
  obtain ⟨_, ⟨_, _, _, hl, _⟩, _⟩ := h
  exact hl
theorem k_B_isIndex {x : Int32} : xK mB_isIndex [.int x] n G 0 0 (qI n G (bI (wi 9 x.toInt))) xNo := by
  refine xK_of2 (L0 := [(0, _)]) (by decide +kernel) rfl (Nat.le_of_ble_eq_true rfl) rfl ?_
  refine xs_iload_n dB_isIndex_0 rfl ?_
  refine xs_i2l dB_isIndex_1 ?_
  refine xs_ldc2 dB_isIndex_2 kcB_270 ?_
  refine xs_ldc2 dB_isIndex_5 kcB_187 ?_
  refine xs_cS_i (As := [_, _, _]) dB_isIndex_8 lkB_169 (k_B_inI (lo:=-9) (hi:=9) (by decide) (by decide)) rfl rfl (Nat.le_of_ble_eq_true rfl) ⟨by decide, by decide⟩ ⟨by omega, by omega⟩ ?_
  have e : decide ((-9 : Int) ≤ x.toInt ∧ x.toInt ≤ 9) = wi 9 x.toInt := by
    rw [Bool.eq_iff_iff, decide_eq_true_iff, wi_iff]
    omega
  exact xs_iret dB_isIndex_11 rfl (bI_n _) (by omega) (by omega) ⟨by rw [e], rfl, rfl⟩
theorem k_B_areIndices {x y z s : Int32} : xK mB_areIndices [.int x, .int y, .int z, .int s] n G 0 0 (qI n G (bI (wFa x.toInt y.toInt z.toInt s.toInt))) xNo := by
  have no : wFa x.toInt y.toInt z.toInt s.toInt = false → xS mB_areIndices n 0 0 (qI n G (bI (wFa x.toInt y.toInt z.toInt s.toInt))) xNo 35 [(0, .int x), (1, .int y), (2, .int z), (3, .int s)] [] n G 0 0 := by
    intro hb
    refine xs_iconst (v := 0) dB_areIndices_35 (by decide) ?_
    exact xs_iret dB_areIndices_36 rfl rfl (by omega) (by omega) ⟨by rw [hb]; rfl, rfl, rfl⟩
  unfold wFa at no ⊢
  refine xK_of2 (L0 := [(0, _), (1, _), (2, _), (3, _)]) (by decide +kernel) rfl (Nat.le_of_ble_eq_true rfl) rfl ?_
  refine xs_iload_n dB_areIndices_0 rfl ?_
  refine xs_cS_i (As := [_]) dB_areIndices_1 lkB_272 (k_B_isIndex) rfl rfl (Nat.le_of_ble_eq_true rfl) ⟨by decide, by decide⟩ ⟨by omega, by omega⟩ ?_
  refine xs_ifb_eq dB_areIndices_4 (fun hb => no (by rw [hb]; rfl)) (fun h1 => ?_)
  refine xs_iload_n dB_areIndices_7 rfl ?_
  refine xs_cS_i (As := [_]) dB_areIndices_8 lkB_272 (k_B_isIndex) rfl rfl (Nat.le_of_ble_eq_true rfl) ⟨by decide, by decide⟩ ⟨by omega, by omega⟩ ?_
  refine xs_ifb_eq dB_areIndices_11 (fun hb => no (by rw [h1, hb]; rfl)) (fun h2 => ?_)
  refine xs_iload_n dB_areIndices_14 rfl ?_
  refine xs_cS_i (As := [_]) dB_areIndices_15 lkB_272 (k_B_isIndex) rfl rfl (Nat.le_of_ble_eq_true rfl) ⟨by decide, by decide⟩ ⟨by omega, by omega⟩ ?_
  refine xs_ifb_eq dB_areIndices_18 (fun hb => no (by rw [h1, h2, hb]; rfl)) (fun h3 => ?_)
  refine xs_iload_n dB_areIndices_21 rfl ?_
  refine xs_i2l dB_areIndices_22 ?_
  refine xs_lconst (v := 0) dB_areIndices_23 (by decide) ?_
  refine xs_lconst (v := 1) dB_areIndices_24 (by decide) ?_
  refine xs_cS_i (As := [_, _, _]) dB_areIndices_25 lkB_169 (k_B_inI (lo:=0) (hi:=1) (by decide) (by decide)) rfl rfl (Nat.le_of_ble_eq_true rfl) ⟨by decide, by decide⟩ ⟨by omega, by omega⟩ ?_
  refine xs_ifb_eq dB_areIndices_28 (fun hb => no (by rw [h1, h2, h3, hb]; rfl)) (fun h4 => ?_)
  refine xs_iconst (v := 1) dB_areIndices_31 (by decide) ?_
  refine xs_goto dB_areIndices_32 ?_
  exact xs_iret dB_areIndices_36 rfl rfl (by omega) (by omega) ⟨by rw [h1, h2, h3, h4]; rfl, rfl, rfl⟩
theorem ne0_i {w : Int32} : w.toInt = 0 ↔ w = 0 := ⟨fun h => Int32.toInt_inj.mp (h.trans (by decide)), fun h => by rw [h]; decide⟩
theorem k_B_isPlane {x y z : Int32} : xK mB_isPlane [.int x, .int y, .int z] n G 0 0 (qI n G (bI (wPl x.toInt y.toInt z.toInt))) xNo := by
  have e : ∀ w : Int32, decide ((-3 : Int) ≤ w.toInt ∧ w.toInt ≤ 3) = wi 3 w.toInt := fun w => by
    rw [Bool.eq_iff_iff, decide_eq_true_iff, wi_iff]
    omega
  have no : wPl x.toInt y.toInt z.toInt = false → xS mB_isPlane n 0 0 (qI n G (bI (wPl x.toInt y.toInt z.toInt))) xNo 58 [(0, .int x), (1, .int y), (2, .int z)] [] n G 0 0 := by
    intro hb
    refine xs_iconst (v := 0) dB_isPlane_58 (by decide) ?_
    exact xs_iret dB_isPlane_59 rfl rfl (by omega) (by omega) ⟨by rw [hb]; rfl, rfl, rfl⟩
  have yes : wPl x.toInt y.toInt z.toInt = true → xS mB_isPlane n 0 0 (qI n G (bI (wPl x.toInt y.toInt z.toInt))) xNo 54 [(0, .int x), (1, .int y), (2, .int z)] [] n G 0 0 := by
    intro hb
    refine xs_iconst (v := 1) dB_isPlane_54 (by decide) ?_
    refine xs_goto dB_isPlane_55 ?_
    exact xs_iret dB_isPlane_59 rfl rfl (by omega) (by omega) ⟨by rw [hb]; rfl, rfl, rfl⟩
  unfold wPl at no yes ⊢
  refine xK_of2 (L0 := [(0, _), (1, _), (2, _)]) (by decide +kernel) rfl (Nat.le_of_ble_eq_true rfl) rfl ?_
  refine xs_iload_n dB_isPlane_0 rfl ?_
  refine xs_i2l dB_isPlane_1 ?_
  refine xs_ldc2 dB_isPlane_2 kcB_304 ?_
  refine xs_ldc2 dB_isPlane_5 kcB_256 ?_
  refine xs_cS_i (As := [_, _, _]) dB_isPlane_8 lkB_169 (k_B_inI (lo:=-3) (hi:=3) (by decide) (by decide)) rfl rfl (Nat.le_of_ble_eq_true rfl) ⟨by decide, by decide⟩ ⟨by omega, by omega⟩ ?_
  rw [e]
  refine xs_ifb_eq dB_isPlane_11 (fun hb => no (by rw [hb]; rfl)) (fun h1 => ?_)
  refine xs_iload_n dB_isPlane_14 rfl ?_
  refine xs_i2l dB_isPlane_15 ?_
  refine xs_ldc2 dB_isPlane_16 kcB_304 ?_
  refine xs_ldc2 dB_isPlane_19 kcB_256 ?_
  refine xs_cS_i (As := [_, _, _]) dB_isPlane_22 lkB_169 (k_B_inI (lo:=-3) (hi:=3) (by decide) (by decide)) rfl rfl (Nat.le_of_ble_eq_true rfl) ⟨by decide, by decide⟩ ⟨by omega, by omega⟩ ?_
  rw [e]
  refine xs_ifb_eq dB_isPlane_25 (fun hb => no (by rw [h1, hb]; rfl)) (fun h2 => ?_)
  refine xs_iload_n dB_isPlane_28 rfl ?_
  refine xs_i2l dB_isPlane_29 ?_
  refine xs_ldc2 dB_isPlane_30 kcB_304 ?_
  refine xs_ldc2 dB_isPlane_33 kcB_256 ?_
  refine xs_cS_i (As := [_, _, _]) dB_isPlane_36 lkB_169 (k_B_inI (lo:=-3) (hi:=3) (by decide) (by decide)) rfl rfl (Nat.le_of_ble_eq_true rfl) ⟨by decide, by decide⟩ ⟨by omega, by omega⟩ ?_
  rw [e]
  refine xs_ifb_eq dB_isPlane_39 (fun hb => no (by rw [h1, h2, hb]; rfl)) (fun h3 => ?_)
  have yes2 : (x.toInt, y.toInt, z.toInt) ≠ ((0, 0, 0) : P3) → _ := fun q => yes (by rw [h1, h2, h3, decide_eq_true q]; rfl)
  refine xs_iload_n dB_isPlane_42 rfl ?_
  refine xs_if_ne dB_isPlane_43 (fun q => yes2 (fun e => q (ne0_i.mp (congrArg Prod.fst e)))) (fun z1 => ?_)
  refine xs_iload_n dB_isPlane_46 rfl ?_
  refine xs_if_ne dB_isPlane_47 (fun q => yes2 (fun e => q (ne0_i.mp (congrArg (fun p => p.2.1) e)))) (fun z2 => ?_)
  refine xs_iload_n dB_isPlane_50 rfl ?_
  refine xs_if_eq dB_isPlane_51 (fun z3 => no (by rw [h1, h2, h3, z1, z2, z3]; rfl)) (fun q => yes2 (fun e => q (ne0_i.mp (congrArg (fun p => p.2.2) e))))
theorem k_B_whyR {x y z s : Int32} {f : Nat → Int32} (hc : G b = mCl b rf sz sp gd ac zs ft) (h8 : G (b + 8) = oL 3 th) (hr : G (b + 3) = oI 70 f) (hV : zOk V) (hf : mrow f V) (hw : wFa x.toInt y.toInt z.toInt s.toInt = true) :
    xK mB_why [.ref b, .ref (b + 3), .int x, .int y, .int z, .int s] n G 0 0 (qIx n (fun q H => q = nI (zwhy V.1 (x.toInt, y.toInt, z.toInt) s.toInt) ∧ ∃ th, H = va_up G (b + 8) (oL 3 th) ∧ t3P th (dv (x.toInt, y.toInt, z.toInt)))) xNo := by
  obtain ⟨hb, hs⟩ := wFa_b hw
  have hk := k_B_why (n := n) (x := x.toInt) (y := y.toInt) (z := z.toInt) (s := s.toInt) hc h8 hr ⟨by omega, by omega⟩ hV hf (bd_mono hb (by decide)) (by omega)
  rw [iT, iT, iT, iT] at hk
  exact hk
theorem k_B_addsR {x y z s : Int32} {f : Nat → Int32} (hc : G b = mCl b rf sz sp gd ac zs ft) (h8 : G (b + 8) = oL 3 th) (hr : G (b + 3) = oI 70 f) (hV : zOk V) (hf : mrow f V) (hw : wFa x.toInt y.toInt z.toInt s.toInt = true) :
    xK mB_adds [.ref b, .ref (b + 3), .int x, .int y, .int z, .int s] n G 0 0 (qIx n (fun q H => q = bI (decide (zwhy V.1 (x.toInt, y.toInt, z.toInt) s.toInt = 0)) ∧ (∃ th, H (b + 8) = oL 3 th) ∧ (∃ f2, H (b + 3) = oI 70 f2 ∧ mrow f2 (zPut V (x.toInt, y.toInt, z.toInt) s.toInt)) ∧ zOk (zPut V (x.toInt, y.toInt, z.toInt) s.toInt) ∧ rfr b (b + 3) G H)) xNo := by
  obtain ⟨hb, hs⟩ := wFa_b hw
  have hk := k_B_adds (n := n) (x := x.toInt) (y := y.toInt) (z := z.toInt) (s := s.toInt) hc h8 hr ⟨by omega, by omega⟩ hV hf hb hs
  rw [iT, iT, iT, iT] at hk
  exact hk
theorem k_B_whyNot {x y z s : Int32} (h : mdo G b rf S) : xK mB_whyNot [.ref b, .int x, .int y, .int z, .int s] n G 0 0 (bPost n b G (rWhy S x.toInt y.toInt z.toInt s.toInt)) xNo := by
  obtain ⟨⟨sp, gd, zs, ft, hc⟩, k1, k2, ⟨f, hr, hf, hV⟩, k4, k5, k6, k7, k8⟩ := id h
  refine xK_of2 (L0 := [(0, _), (1, _), (2, _), (3, _), (4, _)]) (by decide +kernel) rfl (Nat.le_of_ble_eq_true rfl) rfl ?_
  refine xs_aload_n dB_whyNot_0 rfl ?_
  refine xs_iload_n dB_whyNot_1 rfl ?_
  refine xs_iload_n dB_whyNot_2 rfl ?_
  refine xs_iload_n dB_whyNot_3 rfl ?_
  refine xs_iload dB_whyNot_4 rfl ?_
  refine xs_cS_i (As := [_, _, _, _]) dB_whyNot_6 lkB_275 (k_B_areIndices) rfl rfl (Nat.le_of_ble_eq_true rfl) ⟨by decide, by decide⟩ ⟨by omega, by omega⟩ ?_
  refine xs_ifb_eq dB_whyNot_9 (fun hb => ?_) (fun hb => ?_)
  · have hR : rWhy S x.toInt y.toInt z.toInt s.toInt = (1, 0, S) := by rw [rWhy, if_neg (by rw [hb]; decide)]
    refine xs_iconst (v := 1) dB_whyNot_16 (by decide) ?_
    refine xs_cV_i (As := [_]) dB_whyNot_17 lkB_176 (by repeat (first | exact va_up_self _ _ _ | assumption | refine (va_up_ne _ _ (by omega)).trans ?_)) (k_B_refused (w:=1) (by decide) hc) rfl rfl (Nat.le_of_ble_eq_true rfl) ⟨by decide, by decide⟩ ⟨by omega, by omega⟩ ?_
    rw [bI_t (by decide)]
    refine xs_if_eq dB_whyNot_20 (fun q => absurd q (by decide)) (fun _ => ?_)
    refine xs_iconst (v := 0) dB_whyNot_23 (by decide) ?_
    refine xs_goto dB_whyNot_24 ?_
    exact xs_iret dB_whyNot_40 rfl rfl (by omega) (by omega) (bNo hR (by decide) (mdx_rf h) rf_fr)
  · have hR : rWhy S x.toInt y.toInt z.toInt s.toInt = (0, (zwhy S.2.1.1 (x.toInt, y.toInt, z.toInt) s.toInt : Int), S) := by rw [rWhy, if_pos hb]
    refine xs_iconst (v := 0) dB_whyNot_12 (by decide) ?_
    refine xs_goto dB_whyNot_13 ?_
    refine xs_cV_i (As := [_]) dB_whyNot_17 lkB_176 (by repeat (first | exact va_up_self _ _ _ | assumption | refine (va_up_ne _ _ (by omega)).trans ?_)) (k_B_refused (w:=0) (by decide) hc) rfl rfl (Nat.le_of_ble_eq_true rfl) ⟨by decide, by decide⟩ ⟨by omega, by omega⟩ ?_
    rw [bI_f (by decide)]
    refine xs_if_eq dB_whyNot_20 (fun _ => ?_) (fun q => absurd rfl q)
    obtain ⟨H1, hH1⟩ : ∃ H1, H1 = va_up G b (mCl b (nI 0) (nI S.1.length) sp gd (nI S.2.2.1.length) zs ft) := ⟨_, rfl⟩
    have h1 : mdo H1 b (nI 0) S := hH1 ▸ mdx_rf h
    have f1 : xfr b (b + 17) G H1 := hH1 ▸ rf_fr
    have c1 : H1 b = mCl b (nI 0) (nI S.1.length) sp gd (nI S.2.2.1.length) zs ft := by rw [hH1, va_up_self]
    have e1 : ∀ k, k ≠ b → H1 k = G k := fun k hk => by rw [hH1, va_up_ne _ _ hk]
    refine xs_at (H := H1) hH1.symm ?_
    clear hH1
    have r1 : H1 (b + 3) = oI 70 f := by rw [e1 _ (by omega)]; exact hr
    obtain ⟨th, t8⟩ := mdx_t8 h1
    refine xs_aload_n dB_whyNot_27 rfl ?_
    refine xs_aload_n dB_whyNot_28 rfl ?_
    refine xs_get dB_whyNot_29 flB_16 (by repeat (first | exact va_up_self _ _ _ | assumption | refine (va_up_ne _ _ (by omega)).trans ?_)) rfl ?_
    refine xs_iload_n dB_whyNot_32 rfl ?_
    refine xs_iload_n dB_whyNot_33 rfl ?_
    refine xs_iload_n dB_whyNot_34 rfl ?_
    refine xs_iload dB_whyNot_35 rfl ?_
    refine xs_cV_ix (As := [_, _, _, _, _]) dB_whyNot_37 lkB_160 (by repeat (first | exact va_up_self _ _ _ | assumption | refine (va_up_ne _ _ (by omega)).trans ?_)) (k_B_whyR c1 t8 r1 hV hf hb) rfl rfl (Nat.le_of_ble_eq_true rfl) ⟨by decide, by decide⟩ ⟨by omega, by omega⟩ ?_
    intro q H2 ⟨q1, th2, q2, _⟩
    subst q2
    exact xs_iret dB_whyNot_40 rfl rfl (by omega) (by omega) (bOk hR (q1.trans (iI_nat _)) (mdx_8 h1) (xfr_tr f1 x8))
theorem k_B_addFace {x y z s : Int32} (h : mdo G b rf S) : xK mB_addFace [.ref b, .int x, .int y, .int z, .int s] n G 0 0 (bPost n b G (rAddFace S x.toInt y.toInt z.toInt s.toInt)) xNo := by
  obtain ⟨⟨sp, gd, zs, ft, hc⟩, k1, k2, ⟨f, hr, hf, hV⟩, k4, k5, k6, k7, k8⟩ := id h
  obtain ⟨R, hRR⟩ : ∃ R, R = rAddFace S x.toInt y.toInt z.toInt s.toInt := ⟨_, rfl⟩
  rw [← hRR]
  have bad : R = (1, 0, S) → xS mB_addFace n 0 0 (bPost n b G R) xNo 27 [(0, .ref b), (1, .int x), (2, .int y), (3, .int z), (4, .int s)] [] n G 0 0 := by
    intro hR
    refine xs_iconst (v := 0) dB_addFace_27 (by decide) ?_
    refine xs_istore (L2 := [(5, _), (0, _), (1, _), (2, _), (3, _), (4, _)]) dB_addFace_28 (by decide) rfl ?_
    refine xs_aload_n dB_addFace_30 rfl ?_
    refine xs_iload dB_addFace_31 rfl ?_
    refine xs_if_ne dB_addFace_33 (fun q => absurd rfl q) (fun _ => ?_)
    refine xs_iconst (v := 1) dB_addFace_36 (by decide) ?_
    refine xs_goto dB_addFace_37 ?_
    refine xs_cV_i (As := [_]) dB_addFace_61 lkB_176 (by repeat (first | exact va_up_self _ _ _ | assumption | refine (va_up_ne _ _ (by omega)).trans ?_)) (k_B_refused (w:=1) (by decide) hc) rfl rfl (Nat.le_of_ble_eq_true rfl) ⟨by decide, by decide⟩ ⟨by omega, by omega⟩ ?_
    rw [bI_t (by decide)]
    refine xs_if_eq dB_addFace_64 (fun q => absurd q (by decide)) (fun _ => ?_)
    refine xs_iconst (v := 0) dB_addFace_67 (by decide) ?_
    exact xs_iret dB_addFace_68 rfl rfl (by omega) (by omega) (bNo hR (by decide) (mdx_rf h) rf_fr)
  refine xK_of2 (L0 := [(0, _), (1, _), (2, _), (3, _), (4, _)]) (by decide +kernel) rfl (Nat.le_of_ble_eq_true rfl) rfl ?_
  refine xs_iload_n dB_addFace_0 rfl ?_
  refine xs_iload_n dB_addFace_1 rfl ?_
  refine xs_iload_n dB_addFace_2 rfl ?_
  refine xs_iload dB_addFace_3 rfl ?_
  refine xs_cS_i (As := [_, _, _, _]) dB_addFace_5 lkB_275 (k_B_areIndices) rfl rfl (Nat.le_of_ble_eq_true rfl) ⟨by decide, by decide⟩ ⟨by omega, by omega⟩ ?_
  refine xs_ifb_eq dB_addFace_8 (fun hb => bad (by rw [hRR, rAddFace, if_pos (Or.inl (by rw [hb]; decide))])) (fun hb => ?_)
  have good : (x.toInt, y.toInt, z.toInt) ≠ ((0, 0, 0) : P3) → xS mB_addFace n 0 0 (bPost n b G R) xNo 23 [(0, .ref b), (1, .int x), (2, .int y), (3, .int z), (4, .int s)] [] n G 0 0 := by
    intro hne
    have hR0 : R = if zwhy S.2.1.1 (x.toInt, y.toInt, z.toInt) s.toInt ≠ 0 then (2, 0, S) else (0, (S.2.1.1.length : Int), (S.1, zAdd S.2.1 (dv (x.toInt, y.toInt, z.toInt), s.toInt), hPush S.2.2.1 S.2.1, S.2.2.2)) := by rw [hRR, rAddFace, if_neg (fun q => q.elim (fun q => q hb) hne)]
    clear hRR bad
    obtain ⟨th, t8⟩ := mdx_t8 h
    refine xs_iconst (v := 1) dB_addFace_23 (by decide) ?_
    refine xs_goto dB_addFace_24 ?_
    refine xs_istore (L2 := [(5, _), (0, _), (1, _), (2, _), (3, _), (4, _)]) dB_addFace_28 (by decide) rfl ?_
    refine xs_aload_n dB_addFace_30 rfl ?_
    refine xs_iload dB_addFace_31 rfl ?_
    refine xs_if_ne dB_addFace_33 (fun _ => ?_) (fun q => absurd q (by decide))
    refine xs_aload_n dB_addFace_40 rfl ?_
    refine xs_aload_n dB_addFace_41 rfl ?_
    refine xs_get dB_addFace_42 flB_16 (by repeat (first | exact va_up_self _ _ _ | assumption | refine (va_up_ne _ _ (by omega)).trans ?_)) rfl ?_
    refine xs_iload_n dB_addFace_45 rfl ?_
    refine xs_iload_n dB_addFace_46 rfl ?_
    refine xs_iload_n dB_addFace_47 rfl ?_
    refine xs_iload dB_addFace_48 rfl ?_
    refine xs_cV_ix (As := [_, _, _, _, _]) dB_addFace_50 lkB_160 (by repeat (first | exact va_up_self _ _ _ | assumption | refine (va_up_ne _ _ (by omega)).trans ?_)) (k_B_whyR hc t8 hr hV hf hb) rfl rfl (Nat.le_of_ble_eq_true rfl) ⟨by decide, by decide⟩ ⟨by omega, by omega⟩ ?_
    intro q H ⟨q1, th2, q2, _⟩
    subst q1
    have hm : mdo H b rf S := by rw [q2]; exact mdx_8 h
    have fH : xfr b (b + 17) G H := by rw [q2]; exact x8
    have cH : H b = mCl b rf (nI S.1.length) sp gd (nI S.2.2.1.length) zs ft := by rw [q2, va_up_ne _ _ (by omega)]; exact hc
    have rH : H (b + 3) = oI 70 f := by rw [q2, va_up_ne _ _ (by omega)]; exact hr
    clear q2 h hc t8 hr k1 k2 k4 k5 k6 k7 k8
    have h := hm
    have hc := cH
    by_cases hz : zwhy S.2.1.1 (x.toInt, y.toInt, z.toInt) s.toInt = 0
    case neg =>
      rw [if_pos hz] at hR0
      refine xs_if_eq dB_addFace_53 (fun q => absurd ((nI_eq (b := 0) (by have := zwhy_le (fs := S.2.1.1) (p := (x.toInt, y.toInt, z.toInt)) (s := s.toInt); omega) (by decide)).mp q) hz) (fun _ => ?_)
      refine xs_iconst (v := 2) dB_addFace_56 (by decide) ?_
      refine xs_goto dB_addFace_57 ?_
      refine xs_cV_i (As := [_]) dB_addFace_61 lkB_176 (by repeat (first | exact va_up_self _ _ _ | assumption | refine (va_up_ne _ _ (by omega)).trans ?_)) (k_B_refused (w:=2) (by decide) hc) rfl rfl (Nat.le_of_ble_eq_true rfl) ⟨by decide, by decide⟩ ⟨by omega, by omega⟩ ?_
      rw [bI_t (by decide)]
      refine xs_if_eq dB_addFace_64 (fun q => absurd q (by decide)) (fun _ => ?_)
      refine xs_iconst (v := 0) dB_addFace_67 (by decide) ?_
      exact xs_iret dB_addFace_68 rfl rfl (by omega) (by omega) (bNo hR0 (by decide) (mdx_rf h) (xfr_tr fH rf_fr))
    rw [if_neg (fun q => q hz)] at hR0
    rw [hz]
    refine xs_if_eq dB_addFace_53 (fun _ => ?_) (fun q => absurd rfl q)
    refine xs_iconst (v := 0) dB_addFace_60 (by decide) ?_
    refine xs_cV_i (As := [_]) dB_addFace_61 lkB_176 (by repeat (first | exact va_up_self _ _ _ | assumption | refine (va_up_ne _ _ (by omega)).trans ?_)) (k_B_refused (w:=0) (by decide) hc) rfl rfl (Nat.le_of_ble_eq_true rfl) ⟨by decide, by decide⟩ ⟨by omega, by omega⟩ ?_
    rw [bI_f (by decide)]
    refine xs_if_eq dB_addFace_64 (fun _ => ?_) (fun q => absurd rfl q)
    obtain ⟨H1, hH1⟩ : ∃ H1, H1 = va_up H b (mCl b (nI 0) (nI S.1.length) sp gd (nI S.2.2.1.length) zs ft) := ⟨_, rfl⟩
    have h1 : mdo H1 b (nI 0) S := hH1 ▸ mdx_rf h
    have f1 : xfr b (b + 17) G H1 := xfr_tr fH (hH1 ▸ rf_fr)
    have c1 : H1 b = mCl b (nI 0) (nI S.1.length) sp gd (nI S.2.2.1.length) zs ft := by rw [hH1, va_up_self]
    have e1 : ∀ k, k ≠ b → H1 k = H k := fun k hk => by rw [hH1, va_up_ne _ _ hk]
    refine xs_at (H := H1) hH1.symm ?_
    clear hH1
    refine xs_aload_n dB_addFace_69 rfl ?_
    refine xs_cV_vx (As := []) dB_addFace_70 lkB_279 (by repeat (first | exact va_up_self _ _ _ | assumption | refine (va_up_ne _ _ (by omega)).trans ?_)) (k_B_note h1) rfl rfl (Nat.le_of_ble_eq_true rfl) ⟨by decide, by decide⟩ ⟨by omega, by omega⟩ ?_
    intro H2 ⟨h2, f2⟩
    obtain ⟨⟨sp2, gd2, zs2, ft2, c2⟩, _, _, ⟨g, r2, hg, hV2⟩, _, _, _, ⟨⟨th3, t82⟩, _⟩, _⟩ := id h2
    refine xs_aload_n dB_addFace_73 rfl ?_
    refine xs_aload_n dB_addFace_74 rfl ?_
    refine xs_get dB_addFace_75 flB_16 (by repeat (first | exact va_up_self _ _ _ | assumption | refine (va_up_ne _ _ (by omega)).trans ?_)) rfl ?_
    refine xs_iload_n dB_addFace_78 rfl ?_
    refine xs_iload_n dB_addFace_79 rfl ?_
    refine xs_iload_n dB_addFace_80 rfl ?_
    refine xs_iload dB_addFace_81 rfl ?_
    refine xs_cV_ix (As := [_, _, _, _, _]) dB_addFace_83 lkB_164 (by repeat (first | exact va_up_self _ _ _ | assumption | refine (va_up_ne _ _ (by omega)).trans ?_)) (k_B_addsR c2 t82 r2 hV2 hg hb) rfl rfl (Nat.le_of_ble_eq_true rfl) ⟨by decide, by decide⟩ ⟨by omega, by omega⟩ ?_
    intro q H3 ⟨_, p2, ⟨g3, p3, p4⟩, p5, p6⟩
    have hput : zPut S.2.1 (x.toInt, y.toInt, z.toInt) s.toInt = zAdd S.2.1 (dv (x.toInt, y.toInt, z.toInt), s.toInt) := by rw [zPut, if_pos hz]
    rw [hput] at p4 p5
    have h3 : mdo H3 b (nI 0) (S.1, zAdd S.2.1 (dv (x.toInt, y.toInt, z.toInt), s.toInt), hPush S.2.2.1 S.2.1, S.2.2.2) := mdx_p h2 p2 ⟨g3, p3, p4, p5⟩ p6
    have f3 : xfr b (b + 17) G H3 := xfr_tr f1 (xfr_tr f2 (rfr_x p6 ⟨by omega, by omega⟩))
    have c3' : H3 b = mCl b (nI 0) (nI S.1.length) sp2 gd2 (nI (hPush S.2.2.1 S.2.1).length) zs2 ft2 := by rw [p6 _ (by omega) (by omega)]; exact c2
    have i0 : vp_in (0 : Int32) 70 := fin70 (j := 0) (by decide)
    have j0 : (0 : Int32).toNatClampNeg = 0 := by decide
    have hlen : (zAdd S.2.1 (dv (x.toInt, y.toInt, z.toInt), s.toInt)).1.length = S.2.1.1.length + 1 := by rw [zAdd, List.length_append, List.length_singleton]
    refine xs_pop dB_addFace_86 rfl ?_
    refine xs_aload_n dB_addFace_87 rfl ?_
    refine xs_get dB_addFace_88 flB_16 (by repeat (first | exact va_up_self _ _ _ | assumption | refine (va_up_ne _ _ (by omega)).trans ?_)) rfl ?_
    refine xs_iconst (v := 0) dB_addFace_91 (by decide) ?_
    refine xs_iald dB_addFace_92 (by repeat (first | exact va_up_self _ _ _ | assumption | refine (va_up_ne _ _ (by omega)).trans ?_)) (by assumption) ?_
    refine xs_iconst (v := 1) dB_addFace_93 (by decide) ?_
    rw [j0, p4.1.1, hlen]
    refine xs_isub dB_addFace_94 ?_
    rw [nI_dec]
    exact xs_iret dB_addFace_95 rfl rfl (by omega) (by omega) (bOk hR0 rfl h3 f3)
  refine xs_iload_n dB_addFace_11 rfl ?_
  refine xs_if_ne dB_addFace_12 (fun q => good (fun e => q (ne0_i.mp (congrArg Prod.fst e)))) (fun z1 => ?_)
  refine xs_iload_n dB_addFace_15 rfl ?_
  refine xs_if_ne dB_addFace_16 (fun q => good (fun e => q (ne0_i.mp (congrArg (fun p => p.2.1) e)))) (fun z2 => ?_)
  refine xs_iload_n dB_addFace_19 rfl ?_
  refine xs_if_eq dB_addFace_20 (fun z3 => bad (by rw [hRR, rAddFace, if_pos (Or.inr (by rw [z1, z2, z3]; rfl))])) (fun q => good (fun e => q (ne0_i.mp (congrArg (fun p => p.2.2) e))))
theorem k_B_addsTwin {r i : Nat} {f : Nat → Int32} {c : zF} (hc : G b = mCl b rf sz sp gd ac zs ft) (h8 : G (b + 8) = oL 3 th) (hr : G r = oI 70 f) (hrb : b < r ∧ r < b + 8) (hV : zOk V) (hf : mrow f V) (hci : V.1[i]? = some c) :
    xK mB_addsTwin [.ref b, .ref r, .int (nI i)] n G 0 0 (qIx n (fun q H => q = bI (decide (zwhy V.1 c.1 (1 - c.2) = 0)) ∧ (∃ th, H (b + 8) = oL 3 th) ∧ (∃ f2, H r = oI 70 f2 ∧ mrow f2 (zPut V c.1 (1 - c.2))) ∧ zOk (zPut V c.1 (1 - c.2)) ∧ rfr b r G H)) xNo := by
  obtain ⟨⟨k0, k1, k2, k3⟩, g0, g1, g2, g3⟩ := mrow_get hf hci hV.1
  obtain ⟨hb, _, _, hs⟩ := hV.2.1 c (List.mem_of_getElem? hci)
  refine xK_of2 (L0 := [(0, _), (1, _), (2, _)]) (by decide +kernel) rfl (Nat.le_of_ble_eq_true rfl) rfl ?_
  refine xs_aload_n dB_addsTwin_0 rfl ?_
  refine xs_aload_n dB_addsTwin_1 rfl ?_
  refine xs_aload_n dB_addsTwin_2 rfl ?_
  refine xs_iload_n dB_addsTwin_3 rfl ?_
  refine xs_iconst (v := 0) dB_addsTwin_4 (by decide) ?_
  refine xs_cS_i (As := [_, _]) dB_addsTwin_5 lkB_92 (k_B_cell (i:=i) (w:=0)) rfl rfl (Nat.le_of_ble_eq_true rfl) ⟨by decide, by decide⟩ ⟨by omega, by omega⟩ ?_
  refine xs_iald dB_addsTwin_8 (by repeat (first | exact va_up_self _ _ _ | assumption | refine (va_up_ne _ _ (by omega)).trans ?_)) (by assumption) ?_
  refine xs_aload_n dB_addsTwin_9 rfl ?_
  refine xs_iload_n dB_addsTwin_10 rfl ?_
  refine xs_iconst (v := 1) dB_addsTwin_11 (by decide) ?_
  refine xs_cS_i (As := [_, _]) dB_addsTwin_12 lkB_92 (k_B_cell (i:=i) (w:=1)) rfl rfl (Nat.le_of_ble_eq_true rfl) ⟨by decide, by decide⟩ ⟨by omega, by omega⟩ ?_
  refine xs_iald dB_addsTwin_15 (by repeat (first | exact va_up_self _ _ _ | assumption | refine (va_up_ne _ _ (by omega)).trans ?_)) (by assumption) ?_
  refine xs_aload_n dB_addsTwin_16 rfl ?_
  refine xs_iload_n dB_addsTwin_17 rfl ?_
  refine xs_iconst (v := 2) dB_addsTwin_18 (by decide) ?_
  refine xs_cS_i (As := [_, _]) dB_addsTwin_19 lkB_92 (k_B_cell (i:=i) (w:=2)) rfl rfl (Nat.le_of_ble_eq_true rfl) ⟨by decide, by decide⟩ ⟨by omega, by omega⟩ ?_
  refine xs_iald dB_addsTwin_22 (by repeat (first | exact va_up_self _ _ _ | assumption | refine (va_up_ne _ _ (by omega)).trans ?_)) (by assumption) ?_
  refine xs_iconst (v := 1) dB_addsTwin_23 (by decide) ?_
  refine xs_aload_n dB_addsTwin_24 rfl ?_
  refine xs_iload_n dB_addsTwin_25 rfl ?_
  refine xs_iconst (v := 3) dB_addsTwin_26 (by decide) ?_
  refine xs_cS_i (As := [_, _]) dB_addsTwin_27 lkB_92 (k_B_cell (i:=i) (w:=3)) rfl rfl (Nat.le_of_ble_eq_true rfl) ⟨by decide, by decide⟩ ⟨by omega, by omega⟩ ?_
  refine xs_iald dB_addsTwin_30 (by repeat (first | exact va_up_self _ _ _ | assumption | refine (va_up_ne _ _ (by omega)).trans ?_)) (by assumption) ?_
  rw [g0, g1, g2, g3]
  refine xs_isub dB_addsTwin_31 ?_
  rw [show (1 : Int32) - iI c.2 = iI (1 - c.2) from iI_sub 1 c.2]
  refine xs_cV_ix (As := [_, _, _, _, _]) dB_addsTwin_32 lkB_164 (by repeat (first | exact va_up_self _ _ _ | assumption | refine (va_up_ne _ _ (by omega)).trans ?_)) (k_B_adds (x:=c.1.1) (y:=c.1.2.1) (z:=c.1.2.2) (s:=1 - c.2) hc h8 hr hrb hV hf hb (by omega)) rfl rfl (Nat.le_of_ble_eq_true rfl) ⟨by decide, by decide⟩ ⟨by omega, by omega⟩ ?_
  intro q H ⟨q1, q2⟩
  subst q1
  exact xs_iret dB_addsTwin_35 rfl (bI_n _) (by omega) (by omega) ⟨_, rfl, rfl, rfl, q2⟩
theorem k_B_canTwin {i : Nat} {f : Nat → Int32} {c : zF} (hc : G b = mCl b rf sz sp gd ac zs ft) (h8 : G (b + 8) = oL 3 th) (hr : G (b + 3) = oI 70 f) (hV : zOk V) (hf : mrow f V) (hci : V.1[i]? = some c) :
    xK mB_canTwin [.ref b, .int (nI i)] n G 0 0 (qIx n (fun q H => q = bI (decide (zwhy V.1 c.1 (1 - c.2) = 0)) ∧ ∃ th, H = va_up G (b + 8) (oL 3 th))) xNo := by
  obtain ⟨⟨k0, k1, k2, k3⟩, g0, g1, g2, g3⟩ := mrow_get hf hci hV.1
  obtain ⟨hb, _, _, hs⟩ := hV.2.1 c (List.mem_of_getElem? hci)
  refine xK_of2 (L0 := [(0, _), (1, _)]) (by decide +kernel) rfl (Nat.le_of_ble_eq_true rfl) rfl ?_
  refine xs_aload_n dB_canTwin_0 rfl ?_
  refine xs_aload_n dB_canTwin_1 rfl ?_
  refine xs_get dB_canTwin_2 flB_16 (by repeat (first | exact va_up_self _ _ _ | assumption | refine (va_up_ne _ _ (by omega)).trans ?_)) rfl ?_
  refine xs_aload_n dB_canTwin_5 rfl ?_
  refine xs_get dB_canTwin_6 flB_16 (by repeat (first | exact va_up_self _ _ _ | assumption | refine (va_up_ne _ _ (by omega)).trans ?_)) rfl ?_
  refine xs_iload_n dB_canTwin_9 rfl ?_
  refine xs_iconst (v := 0) dB_canTwin_10 (by decide) ?_
  refine xs_cS_i (As := [_, _]) dB_canTwin_11 lkB_92 (k_B_cell (i:=i) (w:=0)) rfl rfl (Nat.le_of_ble_eq_true rfl) ⟨by decide, by decide⟩ ⟨by omega, by omega⟩ ?_
  refine xs_iald dB_canTwin_14 (by repeat (first | exact va_up_self _ _ _ | assumption | refine (va_up_ne _ _ (by omega)).trans ?_)) (by assumption) ?_
  refine xs_aload_n dB_canTwin_15 rfl ?_
  refine xs_get dB_canTwin_16 flB_16 (by repeat (first | exact va_up_self _ _ _ | assumption | refine (va_up_ne _ _ (by omega)).trans ?_)) rfl ?_
  refine xs_iload_n dB_canTwin_19 rfl ?_
  refine xs_iconst (v := 1) dB_canTwin_20 (by decide) ?_
  refine xs_cS_i (As := [_, _]) dB_canTwin_21 lkB_92 (k_B_cell (i:=i) (w:=1)) rfl rfl (Nat.le_of_ble_eq_true rfl) ⟨by decide, by decide⟩ ⟨by omega, by omega⟩ ?_
  refine xs_iald dB_canTwin_24 (by repeat (first | exact va_up_self _ _ _ | assumption | refine (va_up_ne _ _ (by omega)).trans ?_)) (by assumption) ?_
  refine xs_aload_n dB_canTwin_25 rfl ?_
  refine xs_get dB_canTwin_26 flB_16 (by repeat (first | exact va_up_self _ _ _ | assumption | refine (va_up_ne _ _ (by omega)).trans ?_)) rfl ?_
  refine xs_iload_n dB_canTwin_29 rfl ?_
  refine xs_iconst (v := 2) dB_canTwin_30 (by decide) ?_
  refine xs_cS_i (As := [_, _]) dB_canTwin_31 lkB_92 (k_B_cell (i:=i) (w:=2)) rfl rfl (Nat.le_of_ble_eq_true rfl) ⟨by decide, by decide⟩ ⟨by omega, by omega⟩ ?_
  refine xs_iald dB_canTwin_34 (by repeat (first | exact va_up_self _ _ _ | assumption | refine (va_up_ne _ _ (by omega)).trans ?_)) (by assumption) ?_
  refine xs_iconst (v := 1) dB_canTwin_35 (by decide) ?_
  refine xs_aload_n dB_canTwin_36 rfl ?_
  refine xs_get dB_canTwin_37 flB_16 (by repeat (first | exact va_up_self _ _ _ | assumption | refine (va_up_ne _ _ (by omega)).trans ?_)) rfl ?_
  refine xs_iload_n dB_canTwin_40 rfl ?_
  refine xs_iconst (v := 3) dB_canTwin_41 (by decide) ?_
  refine xs_cS_i (As := [_, _]) dB_canTwin_42 lkB_92 (k_B_cell (i:=i) (w:=3)) rfl rfl (Nat.le_of_ble_eq_true rfl) ⟨by decide, by decide⟩ ⟨by omega, by omega⟩ ?_
  refine xs_iald dB_canTwin_45 (by repeat (first | exact va_up_self _ _ _ | assumption | refine (va_up_ne _ _ (by omega)).trans ?_)) (by assumption) ?_
  rw [g0, g1, g2, g3]
  refine xs_isub dB_canTwin_46 ?_
  rw [show (1 : Int32) - iI c.2 = iI (1 - c.2) from iI_sub 1 c.2]
  refine xs_cV_ix (As := [_, _, _, _, _]) dB_canTwin_47 lkB_160 (by repeat (first | exact va_up_self _ _ _ | assumption | refine (va_up_ne _ _ (by omega)).trans ?_)) (k_B_why (x:=c.1.1) (y:=c.1.2.1) (z:=c.1.2.2) (s:=1 - c.2) hc h8 hr ⟨by omega, by omega⟩ hV hf (bd_mono hb (by decide)) (by omega)) rfl rfl (Nat.le_of_ble_eq_true rfl) ⟨by decide, by decide⟩ ⟨by omega, by omega⟩ ?_
  intro q H ⟨q1, th2, q2, _⟩
  subst q1
  have hle := zwhy_le (fs := V.1) (p := (c.1.1, c.1.2.1, c.1.2.2)) (s := 1 - c.2)
  by_cases hz : zwhy V.1 c.1 (1 - c.2) = 0
  · refine xs_if_ne dB_canTwin_50 (fun q => absurd (by rw [show zwhy V.1 (c.1.1, c.1.2.1, c.1.2.2) (1 - c.2) = 0 from hz]; rfl) q) (fun _ => ?_)
    refine xs_iconst (v := 1) dB_canTwin_53 (by decide) ?_
    refine xs_goto dB_canTwin_54 ?_
    exact xs_iret dB_canTwin_58 rfl rfl (by omega) (by omega) ⟨_, rfl, rfl, by rw [bI_t hz], _, q2⟩
  · refine xs_if_ne dB_canTwin_50 (fun _ => ?_) (fun q => absurd ((nI_eq (b := 0) (by omega) (by decide)).mp q) hz)
    refine xs_iconst (v := 0) dB_canTwin_57 (by decide) ?_
    exact xs_iret dB_canTwin_58 rfl rfl (by omega) (by omega) ⟨_, rfl, rfl, by rw [bI_f hz], _, q2⟩
end N9
