section N6
variable {n b : Nat} {G : xG} {rf : Int32} {S : zS} {T : List Nat} {V : zV} {A : List zV} {O : Option zV × Option zV}
theorem k_B_errorPosition (h : mdo G b rf S) : xK mB_errorPosition [.ref b] n G 0 0 (bPost n b G (rErr S)) xNo := by
  obtain ⟨⟨sp, gd, zs, ft, hc⟩, k1, k2, ⟨f, hr, hf, hV⟩, k4, k5, k6, k7, k8⟩ := id h
  refine xK_of2 (L0 := [(0, _)]) (by decide +kernel) rfl (Nat.le_of_ble_eq_true rfl) rfl ?_
  refine xs_aload_n dB_errorPosition_0 rfl ?_
  refine xs_iconst (v := 0) dB_errorPosition_1 (by decide) ?_
  refine xs_put dB_errorPosition_2 flB_64 ft8_0 (by repeat (first | exact va_up_self _ _ _ | assumption | refine (va_up_ne _ _ (by omega)).trans ?_)) (fun _ => rfl) (fun _ => rfl) (by simp) ?_
  obtain ⟨H1, hH1⟩ : ∃ H1, H1 = va_up G b (mCl b (nI 0) (nI S.1.length) sp gd (nI S.2.2.1.length) zs ft) := ⟨_, rfl⟩
  have h1 : mdo H1 b (nI 0) S := hH1 ▸ mdx_rf h
  have f1 : xfr b (b + 17) G H1 := hH1 ▸ rf_fr
  have c1 : H1 b = mCl b (nI 0) (nI S.1.length) sp gd (nI S.2.2.1.length) zs ft := by rw [hH1, va_up_self]
  have e1 : ∀ k, k ≠ b → H1 k = G k := fun k hk => by rw [hH1, va_up_ne _ _ hk]
  refine xs_at (H := H1) hH1.symm ?_
  clear hH1
  refine xs_aload_n dB_errorPosition_5 rfl ?_
  refine xs_cV_ix (As := []) dB_errorPosition_6 lkB_216 (by repeat (first | exact va_up_self _ _ _ | assumption | refine (va_up_ne _ _ (by omega)).trans ?_)) (k_B_readText h1) rfl rfl (Nat.le_of_ble_eq_true rfl) ⟨by decide, by decide⟩ ⟨by omega, by omega⟩ ?_
  intro r H2 ⟨q1, q2, q3, q4⟩
  exact xs_iret dB_errorPosition_9 rfl rfl (by omega) (by omega) (bOk rfl (q1.trans (rP_e _)) q2 (xfr_tr f1 q4))
theorem k_B_load (h : mdo G b rf S) : xK mB_load [.ref b] n G 0 0 (bPost n b G (rLoad S)) xNo := by
  obtain ⟨⟨sp, gd, zs, ft, hc⟩, k1, k2, ⟨f, hr, hf, hV⟩, k4, k5, k6, k7, k8⟩ := id h
  refine xK_of2 (L0 := [(0, _)]) (by decide +kernel) rfl (Nat.le_of_ble_eq_true rfl) rfl ?_
  refine xs_aload_n dB_load_0 rfl ?_
  refine xs_aload_n dB_load_1 rfl ?_
  refine xs_cV_ix (As := []) dB_load_2 lkB_216 (by repeat (first | exact va_up_self _ _ _ | assumption | refine (va_up_ne _ _ (by omega)).trans ?_)) (k_B_readText h) rfl rfl (Nat.le_of_ble_eq_true rfl) ⟨by decide, by decide⟩ ⟨by omega, by omega⟩ ?_
  intro r H ⟨q1, q2, q3, q4⟩
  subst q1
  have hle : S.1.length ≤ 100 := by
    obtain ⟨_, _, _, hl, _⟩ := k1
    exact hl
  clear hc k1 k2 hr hf hV k4 k5 k6 k7 k8 h
  have h := q2
  obtain ⟨⟨sp, gd, zs, ft, hc⟩, k1, k2, ⟨f, hr, hf, hV⟩, k4, k5, k6, k7, k8⟩ := id h
  refine xs_ldc dB_load_5 kcB_109 ?_
  refine xs_icmp_ne dB_load_7 (fun q => ?_) (fun q => ?_)
  · have hR : rLoad S = (1, 0, S) := by
      cases hp : (pRead S.1).1 with
      | none => rw [rLoad, hp]
      | some U => exact absurd ((rP_no hle).mpr ⟨U, hp⟩) q
    refine xs_iconst (v := 1) dB_load_14 (by decide) ?_
    refine xs_cV_i (As := [_]) dB_load_15 lkB_176 (by repeat (first | exact va_up_self _ _ _ | assumption | refine (va_up_ne _ _ (by omega)).trans ?_)) (k_B_refused (w:=1) (by decide) hc) rfl rfl (Nat.le_of_ble_eq_true rfl) ⟨by decide, by decide⟩ ⟨by omega, by omega⟩ ?_
    rw [bI_t (by decide)]
    refine xs_if_eq dB_load_18 (fun q => absurd q (by decide)) (fun _ => ?_)
    refine xs_iconst (v := 0) dB_load_21 (by decide) ?_
    exact xs_iret dB_load_22 rfl rfl (by omega) (by omega) (bNo hR (by decide) (mdx_rf h) (xfr_tr q4 rf_fr))
  · obtain ⟨W, hW⟩ := (rP_no hle).mp q
    have hR : rLoad S = (0, (W.1.length : Int), (S.1, W, [], (none, none))) := by rw [rLoad, hW]
    obtain ⟨fr, hfr, hfm, hWk⟩ := q3 W hW
    refine xs_iconst (v := 0) dB_load_10 (by decide) ?_
    refine xs_goto dB_load_11 ?_
    refine xs_cV_i (As := [_]) dB_load_15 lkB_176 (by repeat (first | exact va_up_self _ _ _ | assumption | refine (va_up_ne _ _ (by omega)).trans ?_)) (k_B_refused (w:=0) (by decide) hc) rfl rfl (Nat.le_of_ble_eq_true rfl) ⟨by decide, by decide⟩ ⟨by omega, by omega⟩ ?_
    rw [bI_f (by decide)]
    refine xs_if_eq dB_load_18 (fun _ => ?_) (fun q => absurd rfl q)
    obtain ⟨H1, hH1⟩ : ∃ H1, H1 = va_up H b (mCl b (nI 0) (nI S.1.length) sp gd (nI S.2.2.1.length) zs ft) := ⟨_, rfl⟩
    have h1 : mdo H1 b (nI 0) S := hH1 ▸ mdx_rf h
    have f1 : xfr b (b + 17) G H1 := xfr_tr q4 (hH1 ▸ rf_fr)
    have c1 : H1 b = mCl b (nI 0) (nI S.1.length) sp gd (nI S.2.2.1.length) zs ft := by rw [hH1, va_up_self]
    have e1 : ∀ k, k ≠ b → H1 k = H k := fun k hk => by rw [hH1, va_up_ne _ _ hk]
    refine xs_at (H := H1) hH1.symm ?_
    clear hH1
    obtain ⟨kp, ik, hkp, hik, _⟩ := id k6
    have r1 : H1 (b + 2) = oI 70 fr := by rw [e1 _ (by omega)]; exact hfr
    have r3 : H1 (b + 3) = oI 70 f := by rw [e1 _ (by omega)]; exact hr
    refine xs_aload_n dB_load_23 rfl ?_
    refine xs_get dB_load_24 flB_13 (by repeat (first | exact va_up_self _ _ _ | assumption | refine (va_up_ne _ _ (by omega)).trans ?_)) rfl ?_
    refine xs_iconst (v := 0) dB_load_27 (by decide) ?_
    refine xs_aload_n dB_load_28 rfl ?_
    refine xs_get dB_load_29 flB_16 (by repeat (first | exact va_up_self _ _ _ | assumption | refine (va_up_ne _ _ (by omega)).trans ?_)) rfl ?_
    refine xs_iconst (v := 0) dB_load_32 (by decide) ?_
    refine xs_bipush (v := 70) dB_load_33 (by decide) ?_
    refine xs_cS_vx (As := [_, _, _, _, _]) dB_load_35 lkB_77 (k_B_copy (fa:=0) (ta:=0) (m:=70) r1 r3 (by omega) (by omega) (by omega) (by omega) (by omega)) rfl rfl (Nat.le_of_ble_eq_true rfl) ⟨by decide, by decide⟩ ⟨by omega, by omega⟩ ?_
    intro H2 ⟨g2, hH2, p1, p2⟩
    have c2 : H2 b = mCl b (nI 0) (nI S.1.length) sp gd (nI S.2.2.1.length) zs ft := by rw [hH2, va_up_ne _ _ (by omega)]; exact c1
    have i2 : H2 (b + 7) = oB 2 ik := by rw [hH2, va_up_ne _ _ (by omega), e1 _ (by omega)]; exact hik
    have n2 : H2 (b + 3) = oI 70 g2 := by rw [hH2, va_up_self]
    have v0 : vp_in (0 : Int32) 2 := vp_in_nI (n := 0) (N := 2) (by decide) (by decide)
    have v1 : vp_in (1 : Int32) 2 := vp_in_nI (n := 1) (N := 2) (by decide) (by decide)
    have w0 : vp_in (0 : Int32) 70 := fin70 (j := 0) (by decide)
    have z0 : (0 : Int32).toNatClampNeg = 0 := by decide
    have z1 : (1 : Int32).toNatClampNeg = 1 := by decide
    have hnar : vp_nar .boolean 0 = 0 := by decide
    have hgW : mrow g2 W := mrow_cp hfm hWk.1 (fun j hj => by have := p1 j hj; rw [Nat.zero_add] at this; exact this)
    refine xs_aload_n dB_load_38 rfl ?_
    refine xs_iconst (v := 0) dB_load_39 (by decide) ?_
    refine xs_put dB_load_40 flB_74 ft8_9 (by repeat (first | exact va_up_self _ _ _ | assumption | refine (va_up_ne _ _ (by omega)).trans ?_)) (fun _ => rfl) (fun _ => rfl) (by simp) ?_
    refine xs_aload_n dB_load_43 rfl ?_
    refine xs_get dB_load_44 flB_28 (by repeat (first | exact va_up_self _ _ _ | assumption | refine (va_up_ne _ _ (by omega)).trans ?_)) rfl ?_
    refine xs_iconst (v := 0) dB_load_47 (by decide) ?_
    refine xs_iconst (v := 0) dB_load_48 (by decide) ?_
    refine xs_zast dB_load_49 (by repeat (first | exact va_up_self _ _ _ | assumption | refine (va_up_ne _ _ (by omega)).trans ?_)) (by assumption) ?_
    refine xs_aload_n dB_load_50 rfl ?_
    refine xs_get dB_load_51 flB_28 (by repeat (first | exact va_up_self _ _ _ | assumption | refine (va_up_ne _ _ (by omega)).trans ?_)) rfl ?_
    refine xs_iconst (v := 1) dB_load_54 (by decide) ?_
    refine xs_iconst (v := 0) dB_load_55 (by decide) ?_
    refine xs_zast dB_load_56 (by repeat (first | exact va_up_self _ _ _ | assumption | refine (va_up_ne _ _ (by omega)).trans ?_)) (by assumption) ?_
    refine xs_aload_n dB_load_57 rfl ?_
    refine xs_get dB_load_58 flB_16 (by repeat (first | exact va_up_self _ _ _ | assumption | refine (va_up_ne _ _ (by omega)).trans ?_)) rfl ?_
    refine xs_iconst (v := 0) dB_load_61 (by decide) ?_
    refine xs_iald dB_load_62 (by repeat (first | exact va_up_self _ _ _ | assumption | refine (va_up_ne _ _ (by omega)).trans ?_)) (by assumption) ?_
    rw [hnar, z0, z1, hgW.1.1]
    simp only [bx_uu]
    obtain ⟨H3, hH3⟩ : ∃ H3, H3 = va_up (va_up H2 b (mCl b (nI 0) (nI S.1.length) sp gd 0 zs ft)) (b + 7) (oB 2 (upd (upd ik 0 0) 1 0)) := ⟨_, rfl⟩
    refine xs_at (H := H3) hH3.symm ?_
    have e3 : ∀ k, k ≠ b → k ≠ b + 3 → k ≠ b + 7 → H3 k = H1 k := fun k h6 h7 h8 => by rw [hH3, va_up_ne _ _ h8, va_up_ne _ _ h6, hH2, va_up_ne _ _ h7]
    obtain ⟨_, m1, m2, m3, m4, m5, m6, m7, m8⟩ := id h1
    obtain ⟨d3, d4, _⟩ := id m5
    refine xs_iret dB_load_63 rfl rfl (by omega) (by omega) (bOk hR (iI_nat _) ⟨⟨sp, gd, zs, ft, by rw [hH3, va_up_ne _ _ (by omega), va_up_self]; rfl⟩, mTx_fr m1 (e3 _ (by omega) (by omega) (by omega)), mAr_fr m2 (e3 _ (by omega) (by omega) (by omega)), ⟨g2, by rw [hH3, va_up_ne _ _ (by omega), va_up_ne _ _ (by omega)]; exact n2, hgW, hWk⟩, mAr_fr m4 (e3 _ (by omega) (by omega) (by omega)), ⟨d3, (e3 _ (by omega) (by omega) (by omega)).trans d4, Nat.zero_le _, fun i U hU => by cases hU⟩, ⟨kp, upd (upd ik 0 0) 1 0, ?_, ?_, ⟨rfl, rfl⟩, (fun W e => by cases e), (fun W e => by cases e)⟩, mwk_fr m7 (fun k _ _ => e3 _ (by omega) (by omega) (by omega)), mGr_fr m8 (fun k _ _ => e3 _ (by omega) (by omega) (by omega))⟩ (fun k hk => (e3 k (by omega) (by omega) (by omega)).trans (f1 k hk)))
    · rw [e3 _ (by omega) (by omega) (by omega), e1 _ (by omega)]
      exact hkp
    · rw [hH3, va_up_self]
theorem k_B_zonesAt {i : Nat} {D Z : List P3} {sz sp ac ft : Int32} {gd : Bool} (hc : G b = mCl b rf sz sp gd ac (nI Z.length) ft) (hz : zmo G b D Z) (hi : i < D.length) (hD : D.length ≤ 16) : xK mB_zonesAt [.ref b, .int (nI i)] n G 0 0 (qI n G (nI (thr D Z i))) xNo := by
  obtain ⟨ax, mn, wh, w10, w11, w12, w13, w14, w15, hZ⟩ := hz
  have loop : ∀ (m z : Nat), Z.length - z < m → z ≤ Z.length → xS mB_zonesAt n 0 0 (qI n G (nI (thr D Z i))) xNo 4 [(0, .ref b), (1, .int (nI i)), (2, .int (nI ((Z.take z).countP (fun a => inz D a i)))), (3, .int (nI z))] [] n G 0 0 := by
    intro m
    induction m with
    | zero => intro z q; exact absurd q (by omega)
    | succ m ih =>
      intro z q1 q2
      refine xs_iload_n dB_zonesAt_4 rfl ?_
      refine xs_aload_n dB_zonesAt_5 rfl ?_
      refine xs_get dB_zonesAt_6 flB_106 (by repeat (first | exact va_up_self _ _ _ | assumption | refine (va_up_ne _ _ (by omega)).trans ?_)) rfl ?_
      refine xs_icmp_ge dB_zonesAt_9 (fun hg => ?_) (fun hg => ?_)
      · have hi : z = Z.length := by
          have := (nI_leI (by omega) (by omega)).mp hg
          omega
        subst hi
        refine xs_iload_n dB_zonesAt_31 rfl ?_
        exact xs_iret dB_zonesAt_32 rfl rfl (by omega) (by omega) ⟨by rw [List.take_length]; rfl, rfl, rfl⟩
      · have hz : z < Z.length := nI_lt_of (by omega) (by omega) hg
        obtain ⟨a, ha⟩ : ∃ a, Z[z]? = some a := ⟨_, List.getElem?_eq_getElem hz⟩
        have hgo := ih (z + 1) (by omega) (by omega)
        rw [take_s ha, List.countP_append, List.countP_singleton] at hgo
        have vz : vp_in (nI z) 121 := vp_in_nI (by omega) (by omega)
        have hb : (mem D a).testBit i = inz D a i := by rw [mem, mk_bit, decide_eq_true hi, Bool.true_and]
        refine xs_iload_n dB_zonesAt_12 rfl ?_
        refine xs_aload_n dB_zonesAt_13 rfl ?_
        refine xs_get dB_zonesAt_14 flB_45 (by repeat (first | exact va_up_self _ _ _ | assumption | refine (va_up_ne _ _ (by omega)).trans ?_)) rfl ?_
        refine xs_iload_n dB_zonesAt_17 rfl ?_
        refine xs_iald dB_zonesAt_18 (by repeat (first | exact va_up_self _ _ _ | assumption | refine (va_up_ne _ _ (by omega)).trans ?_)) (by assumption) ?_
        rw [nI_clamp (by omega), w15 z a ha]
        refine xs_iload_n dB_zonesAt_19 rfl ?_
        refine xs_ishr dB_zonesAt_20 ?_
        refine xs_iconst (v := 1) dB_zonesAt_21 (by decide) ?_
        refine xs_iand dB_zonesAt_22 ?_
        rw [sshr (mem_lt D a hD) (by omega), hb]
        refine xs_iadd dB_zonesAt_23 ?_
        rw [show nI ((Z.take z).countP (fun a => inz D a i)) + nI (inz D a i).toNat = nI ((Z.take z).countP (fun a => inz D a i) + if inz D a i = true then 1 else 0) by
          cases inz D a i
          · exact nI_add2 _ 0
          · exact nI_add2 _ 1]
        refine xs_istore_n (L2 := [(2, _), (0, _), (1, _), (3, _)]) dB_zonesAt_24 (by decide) rfl ?_
        refine xs_iinc (L2 := [(3, _), (2, _), (0, _), (1, _)]) dB_zonesAt_25 rfl rfl (by decide) rfl ?_
        refine xs_goto dB_zonesAt_28 ?_
        refine xs_pick (L2 := [(0, _), (1, _), (2, _), (3, _)]) [2, 3, 1, 0] rfl ?_
        rw [xii]
        exact hgo
  refine xK_of2 (L0 := [(0, _), (1, _)]) (by decide +kernel) rfl (Nat.le_of_ble_eq_true rfl) rfl ?_
  refine xs_iconst (v := 0) dB_zonesAt_0 (by decide) ?_
  refine xs_istore_n (L2 := [(2, _), (0, _), (1, _)]) dB_zonesAt_1 (by decide) rfl ?_
  refine xs_iconst (v := 0) dB_zonesAt_2 (by decide) ?_
  refine xs_istore_n (L2 := [(3, _), (2, _), (0, _), (1, _)]) dB_zonesAt_3 (by decide) rfl ?_
  refine xs_pick (L2 := [(0, _), (1, _), (2, _), (3, _)]) [2, 3, 1, 0] rfl ?_
  exact loop (Z.length + 1) 0 (by omega) (by omega)
theorem i3w {i j : Nat} : (3 : Int32) * nI i + nI (4 + j) - 4 = (3 : Int32) * nI i + nI j := by
  rw [← nI_add2 4 j, show nI 4 = 4 from rfl, Int32.add_comm 4 (nI j), ← Int32.add_assoc, Int32.add_sub_cancel]
theorem fAt_int {α : Type} {l : List α} {x : Int32} {f : α} (h : fAt l x.toInt = some f) : ∃ k : Nat, x = nI k ∧ x.toInt = (k : Int) ∧ x.toInt.toNat = k ∧ l[k]? = some f := by
  obtain ⟨k, h1, h2, h3⟩ := fAt_some h
  exact ⟨k, iTN h1, h1, by rw [h1, Int.toNat_natCast], h3⟩
theorem k_B_face {x y : Int32} (h : mdo G b rf S) : xK mB_face [.ref b, .int x, .int y] n G 0 0 (bPost n b G (rFace S x.toInt y.toInt)) xNo := by
  obtain ⟨⟨sp, gd, zs, ft, hc⟩, k1, k2, ⟨f, hr, hf, hV⟩, k4, k5, k6, k7, k8⟩ := id h
  refine xK_of2 (L0 := [(0, _), (1, _), (2, _)]) (by decide +kernel) rfl (Nat.le_of_ble_eq_true rfl) rfl ?_
  refine xs_aload_n dB_face_0 rfl ?_
  refine xs_aload_n dB_face_1 rfl ?_
  refine xs_iload_n dB_face_2 rfl ?_
  refine xs_cV_i (As := [_]) dB_face_3 lkB_232 (by repeat (first | exact va_up_self _ _ _ | assumption | refine (va_up_ne _ _ (by omega)).trans ?_)) (k_B_isFace h) rfl rfl (Nat.le_of_ble_eq_true rfl) ⟨by decide, by decide⟩ ⟨by omega, by omega⟩ ?_
  cases hx : fAt S.2.1.1 x.toInt with
  | none =>
    have hR : rFace S x.toInt y.toInt = (1, 0, S) := by rw [rFace, hx]
    refine xs_ifb_ne dB_face_6 (fun q => absurd q (by decide)) (fun _ => ?_)
    refine xs_iconst (v := 1) dB_face_9 (by decide) ?_
    refine xs_goto dB_face_10 ?_
    refine xs_cV_i (As := [_]) dB_face_30 lkB_176 (by repeat (first | exact va_up_self _ _ _ | assumption | refine (va_up_ne _ _ (by omega)).trans ?_)) (k_B_refused (w:=1) (by decide) hc) rfl rfl (Nat.le_of_ble_eq_true rfl) ⟨by decide, by decide⟩ ⟨by omega, by omega⟩ ?_
    rw [bI_t (by decide)]
    refine xs_if_eq dB_face_33 (fun q => absurd q (by decide)) (fun _ => ?_)
    refine xs_iconst (v := 0) dB_face_36 (by decide) ?_
    exact xs_iret dB_face_37 rfl rfl (by omega) (by omega) (bNo hR (by decide) (mdx_rf h) rf_fr)
  | some c =>
    have hR : rFace S x.toInt y.toInt = if 0 ≤ y.toInt ∧ y.toInt ≤ 8 then (0, fav S.2.1 x.toInt.toNat c y.toInt, S) else (2, 0, S) := by rw [rFace, hx]
    obtain ⟨i, hxi, hxt, hxn, hci⟩ := fAt_int hx
    clear hx
    rw [hxn] at hR
    obtain ⟨R, hRR⟩ : ∃ R, R = rFace S x.toInt y.toInt := ⟨_, rfl⟩
    rw [← hRR] at hR ⊢
    clear hRR hxt hxn
    subst hxi
    refine xs_ifb_ne dB_face_6 (fun _ => ?_) (fun q => Bool.noConfusion q)
    refine xs_iload_n dB_face_13 rfl ?_
    refine xs_i2l dB_face_14 ?_
    refine xs_lconst (v := 0) dB_face_15 (by decide) ?_
    refine xs_ldc2 dB_face_16 kcB_235 ?_
    refine xs_cS_i (As := [_, _, _]) dB_face_19 lkB_169 (k_B_inI (lo:=0) (hi:=8) (by decide) (by decide)) rfl rfl (Nat.le_of_ble_eq_true rfl) ⟨by decide, by decide⟩ ⟨by omega, by omega⟩ ?_
    by_cases hr2 : 0 ≤ y.toInt ∧ y.toInt ≤ 8
    case neg =>
      rw [if_neg hr2] at hR
      rw [bI_f hr2]
      refine xs_if_eq dB_face_22 (fun _ => ?_) (fun q => absurd rfl q)
      refine xs_iconst (v := 2) dB_face_29 (by decide) ?_
      refine xs_cV_i (As := [_]) dB_face_30 lkB_176 (by repeat (first | exact va_up_self _ _ _ | assumption | refine (va_up_ne _ _ (by omega)).trans ?_)) (k_B_refused (w:=2) (by decide) hc) rfl rfl (Nat.le_of_ble_eq_true rfl) ⟨by decide, by decide⟩ ⟨by omega, by omega⟩ ?_
      rw [bI_t (by decide)]
      refine xs_if_eq dB_face_33 (fun q => absurd q (by decide)) (fun _ => ?_)
      refine xs_iconst (v := 0) dB_face_36 (by decide) ?_
      exact xs_iret dB_face_37 rfl rfl (by omega) (by omega) (bNo hR (by decide) (mdx_rf h) rf_fr)
    rw [if_pos hr2] at hR
    rw [bI_t hr2]
    refine xs_if_eq dB_face_22 (fun q => absurd q (by decide)) (fun _ => ?_)
    refine xs_iconst (v := 0) dB_face_25 (by decide) ?_
    refine xs_goto dB_face_26 ?_
    obtain ⟨w, hyw, hyt, _, hw8⟩ := toN hr2 (by decide)
    rw [hyt] at hR
    clear hr2
    subst hyw
    refine xs_cV_i (As := [_]) dB_face_30 lkB_176 (by repeat (first | exact va_up_self _ _ _ | assumption | refine (va_up_ne _ _ (by omega)).trans ?_)) (k_B_refused (w:=0) (by decide) hc) rfl rfl (Nat.le_of_ble_eq_true rfl) ⟨by decide, by decide⟩ ⟨by omega, by omega⟩ ?_
    rw [bI_f (by decide)]
    refine xs_if_eq dB_face_33 (fun _ => ?_) (fun q => absurd rfl q)
    obtain ⟨H1, hH1⟩ : ∃ H1, H1 = va_up G b (mCl b (nI 0) (nI S.1.length) sp gd (nI S.2.2.1.length) zs ft) := ⟨_, rfl⟩
    have h1 : mdo H1 b (nI 0) S := hH1 ▸ mdx_rf h
    have f1 : xfr b (b + 17) G H1 := hH1 ▸ rf_fr
    have c1 : H1 b = mCl b (nI 0) (nI S.1.length) sp gd (nI S.2.2.1.length) zs ft := by rw [hH1, va_up_self]
    have e1 : ∀ k, k ≠ b → H1 k = G k := fun k hk => by rw [hH1, va_up_ne _ _ hk]
    refine xs_at (H := H1) hH1.symm ?_
    clear hH1
    have r1 : H1 (b + 3) = oI 70 f := by rw [e1 _ (by omega)]; exact hr
    have w1 : mwk H1 b := mwk_fr k7 (fun k _ _ => e1 k (by omega))
    refine xs_aload_n dB_face_38 rfl ?_
    refine xs_aload_n dB_face_39 rfl ?_
    refine xs_get dB_face_40 flB_16 (by repeat (first | exact va_up_self _ _ _ | assumption | refine (va_up_ne _ _ (by omega)).trans ?_)) rfl ?_
    refine xs_cV_vx (As := [_]) dB_face_43 lkB_141 (by repeat (first | exact va_up_self _ _ _ | assumption | refine (va_up_ne _ _ (by omega)).trans ?_)) (k_B_layZones c1 w1 r1 ⟨by omega, by omega⟩ hV hf) rfl rfl (Nat.le_of_ble_eq_true rfl) ⟨by decide, by decide⟩ ⟨by omega, by omega⟩ ?_
    intro H2 ⟨q1, q2, q3⟩
    have h2 : mdo H2 b (nI 0) S := mdx_z h1 ⟨_, _, _, _, q1⟩ (mwk_of q2) q3
    have f2 : xfr b (b + 17) G H2 := xfr_tr f1 (mfr_x q3)
    have r2 : H2 (b + 3) = oI 70 f := by rw [q3 _ (by omega) (by omega)]; exact r1
    obtain ⟨⟨th, t8⟩, ⟨wy, t9, hwy⟩, hz, hfin⟩ := id q2
    have hL := hV.1
    have hok := zDirs_ok hV
    have hdl : (zDirs S.2.1).length = S.2.1.1.length := List.length_map _
    have hil := (List.getElem?_eq_some_iff.mp hci).1
    obtain ⟨⟨i0, i1, i2, i3⟩, g0, g1, g2, g3⟩ := mrow_get hf hci hL
    have hdi : (zDirs S.2.1)[i]? = some (zDir S.2.1.2.2.2 c) := by
      unfold zDirs
      rw [List.getElem?_map, hci]
      rfl
    obtain ⟨⟨v0, v1, v2⟩, y0, y1, y2⟩ := wy_get hwy hdi hok.1
    have hcs : w = 0 ∨ w = 1 ∨ w = 2 ∨ w = 3 ∨ w = 4 + 0 ∨ w = 4 + 1 ∨ w = 4 + 2 ∨ w = 7 ∨ w = 8 := by omega
    refine xs_iload_n dB_face_46 rfl ?_
    refine xs_iconst (v := 4) dB_face_47 (by decide) ?_
    rcases hcs with rfl | rfl | rfl | rfl | rfl | rfl | rfl | rfl | rfl
    · refine xs_icmp_ge dB_face_48 (fun q => absurd q (by decide)) (fun _ => ?_)
      refine xs_aload_n dB_face_51 rfl ?_
      refine xs_get dB_face_52 flB_16 (by repeat (first | exact va_up_self _ _ _ | assumption | refine (va_up_ne _ _ (by omega)).trans ?_)) rfl ?_
      refine xs_iload_n dB_face_55 rfl ?_
      refine xs_iload_n dB_face_56 rfl ?_
      refine xs_cS_i (As := [_, _]) dB_face_57 lkB_92 (k_B_cell (i:=i) (w:=0)) rfl rfl (Nat.le_of_ble_eq_true rfl) ⟨by decide, by decide⟩ ⟨by omega, by omega⟩ ?_
      refine xs_iald dB_face_60 (by repeat (first | exact va_up_self _ _ _ | assumption | refine (va_up_ne _ _ (by omega)).trans ?_)) (by assumption) ?_
      rw [g0]
      refine xs_goto dB_face_61 ?_
      exact xs_iret dB_face_108 rfl rfl (by omega) (by omega) (bOk hR rfl h2 f2)
    · refine xs_icmp_ge dB_face_48 (fun q => absurd q (by decide)) (fun _ => ?_)
      refine xs_aload_n dB_face_51 rfl ?_
      refine xs_get dB_face_52 flB_16 (by repeat (first | exact va_up_self _ _ _ | assumption | refine (va_up_ne _ _ (by omega)).trans ?_)) rfl ?_
      refine xs_iload_n dB_face_55 rfl ?_
      refine xs_iload_n dB_face_56 rfl ?_
      refine xs_cS_i (As := [_, _]) dB_face_57 lkB_92 (k_B_cell (i:=i) (w:=1)) rfl rfl (Nat.le_of_ble_eq_true rfl) ⟨by decide, by decide⟩ ⟨by omega, by omega⟩ ?_
      refine xs_iald dB_face_60 (by repeat (first | exact va_up_self _ _ _ | assumption | refine (va_up_ne _ _ (by omega)).trans ?_)) (by assumption) ?_
      rw [g1]
      refine xs_goto dB_face_61 ?_
      exact xs_iret dB_face_108 rfl rfl (by omega) (by omega) (bOk hR rfl h2 f2)
    · refine xs_icmp_ge dB_face_48 (fun q => absurd q (by decide)) (fun _ => ?_)
      refine xs_aload_n dB_face_51 rfl ?_
      refine xs_get dB_face_52 flB_16 (by repeat (first | exact va_up_self _ _ _ | assumption | refine (va_up_ne _ _ (by omega)).trans ?_)) rfl ?_
      refine xs_iload_n dB_face_55 rfl ?_
      refine xs_iload_n dB_face_56 rfl ?_
      refine xs_cS_i (As := [_, _]) dB_face_57 lkB_92 (k_B_cell (i:=i) (w:=2)) rfl rfl (Nat.le_of_ble_eq_true rfl) ⟨by decide, by decide⟩ ⟨by omega, by omega⟩ ?_
      refine xs_iald dB_face_60 (by repeat (first | exact va_up_self _ _ _ | assumption | refine (va_up_ne _ _ (by omega)).trans ?_)) (by assumption) ?_
      rw [g2]
      refine xs_goto dB_face_61 ?_
      exact xs_iret dB_face_108 rfl rfl (by omega) (by omega) (bOk hR rfl h2 f2)
    · refine xs_icmp_ge dB_face_48 (fun q => absurd q (by decide)) (fun _ => ?_)
      refine xs_aload_n dB_face_51 rfl ?_
      refine xs_get dB_face_52 flB_16 (by repeat (first | exact va_up_self _ _ _ | assumption | refine (va_up_ne _ _ (by omega)).trans ?_)) rfl ?_
      refine xs_iload_n dB_face_55 rfl ?_
      refine xs_iload_n dB_face_56 rfl ?_
      refine xs_cS_i (As := [_, _]) dB_face_57 lkB_92 (k_B_cell (i:=i) (w:=3)) rfl rfl (Nat.le_of_ble_eq_true rfl) ⟨by decide, by decide⟩ ⟨by omega, by omega⟩ ?_
      refine xs_iald dB_face_60 (by repeat (first | exact va_up_self _ _ _ | assumption | refine (va_up_ne _ _ (by omega)).trans ?_)) (by assumption) ?_
      rw [g3]
      refine xs_goto dB_face_61 ?_
      exact xs_iret dB_face_108 rfl rfl (by omega) (by omega) (bOk hR rfl h2 f2)
    · refine xs_icmp_ge dB_face_48 (fun _ => ?_) (fun q => absurd (by decide) q)
      refine xs_iload_n dB_face_64 rfl ?_
      refine xs_bipush (v := 7) dB_face_65 (by decide) ?_
      refine xs_icmp_ge dB_face_67 (fun q => absurd q (by decide)) (fun _ => ?_)
      refine xs_aload_n dB_face_70 rfl ?_
      refine xs_get dB_face_71 flB_36 (by repeat (first | exact va_up_self _ _ _ | assumption | refine (va_up_ne _ _ (by omega)).trans ?_)) rfl ?_
      refine xs_iconst (v := 3) dB_face_74 (by decide) ?_
      refine xs_iload_n dB_face_75 rfl ?_
      refine xs_imul dB_face_76 ?_
      refine xs_iload_n dB_face_77 rfl ?_
      refine xs_iadd dB_face_78 ?_
      refine xs_iconst (v := 4) dB_face_79 (by decide) ?_
      refine xs_isub dB_face_80 ?_
      rw [i3w, show (3 : Int32) * nI i + nI 0 = 3 * nI i from Int32.add_zero _]
      refine xs_lald dB_face_81 (by repeat (first | exact va_up_self _ _ _ | assumption | refine (va_up_ne _ _ (by omega)).trans ?_)) (by assumption) ?_
      rw [y0]
      refine xs_l2i dB_face_82 ?_
      rw [iL_i]
      refine xs_goto dB_face_83 ?_
      exact xs_iret dB_face_108 rfl rfl (by omega) (by omega) (bOk hR rfl h2 f2)
    · refine xs_icmp_ge dB_face_48 (fun _ => ?_) (fun q => absurd (by decide) q)
      refine xs_iload_n dB_face_64 rfl ?_
      refine xs_bipush (v := 7) dB_face_65 (by decide) ?_
      refine xs_icmp_ge dB_face_67 (fun q => absurd q (by decide)) (fun _ => ?_)
      refine xs_aload_n dB_face_70 rfl ?_
      refine xs_get dB_face_71 flB_36 (by repeat (first | exact va_up_self _ _ _ | assumption | refine (va_up_ne _ _ (by omega)).trans ?_)) rfl ?_
      refine xs_iconst (v := 3) dB_face_74 (by decide) ?_
      refine xs_iload_n dB_face_75 rfl ?_
      refine xs_imul dB_face_76 ?_
      refine xs_iload_n dB_face_77 rfl ?_
      refine xs_iadd dB_face_78 ?_
      refine xs_iconst (v := 4) dB_face_79 (by decide) ?_
      refine xs_isub dB_face_80 ?_
      rw [i3w, show (3 : Int32) * nI i + nI 1 = 3 * nI i + 1 from rfl]
      refine xs_lald dB_face_81 (by repeat (first | exact va_up_self _ _ _ | assumption | refine (va_up_ne _ _ (by omega)).trans ?_)) (by assumption) ?_
      rw [y1]
      refine xs_l2i dB_face_82 ?_
      rw [iL_i]
      refine xs_goto dB_face_83 ?_
      exact xs_iret dB_face_108 rfl rfl (by omega) (by omega) (bOk hR rfl h2 f2)
    · refine xs_icmp_ge dB_face_48 (fun _ => ?_) (fun q => absurd (by decide) q)
      refine xs_iload_n dB_face_64 rfl ?_
      refine xs_bipush (v := 7) dB_face_65 (by decide) ?_
      refine xs_icmp_ge dB_face_67 (fun q => absurd q (by decide)) (fun _ => ?_)
      refine xs_aload_n dB_face_70 rfl ?_
      refine xs_get dB_face_71 flB_36 (by repeat (first | exact va_up_self _ _ _ | assumption | refine (va_up_ne _ _ (by omega)).trans ?_)) rfl ?_
      refine xs_iconst (v := 3) dB_face_74 (by decide) ?_
      refine xs_iload_n dB_face_75 rfl ?_
      refine xs_imul dB_face_76 ?_
      refine xs_iload_n dB_face_77 rfl ?_
      refine xs_iadd dB_face_78 ?_
      refine xs_iconst (v := 4) dB_face_79 (by decide) ?_
      refine xs_isub dB_face_80 ?_
      rw [i3w, show (3 : Int32) * nI i + nI 2 = 3 * nI i + 2 from rfl]
      refine xs_lald dB_face_81 (by repeat (first | exact va_up_self _ _ _ | assumption | refine (va_up_ne _ _ (by omega)).trans ?_)) (by assumption) ?_
      rw [y2]
      refine xs_l2i dB_face_82 ?_
      rw [iL_i]
      refine xs_goto dB_face_83 ?_
      exact xs_iret dB_face_108 rfl rfl (by omega) (by omega) (bOk hR rfl h2 f2)
    · refine xs_icmp_ge dB_face_48 (fun _ => ?_) (fun q => absurd (by decide) q)
      refine xs_iload_n dB_face_64 rfl ?_
      refine xs_bipush (v := 7) dB_face_65 (by decide) ?_
      refine xs_icmp_ge dB_face_67 (fun _ => ?_) (fun q => absurd (by decide) q)
      refine xs_iload_n dB_face_86 rfl ?_
      refine xs_bipush (v := 7) dB_face_87 (by decide) ?_
      refine xs_icmp_ne dB_face_89 (fun q => absurd rfl q) (fun _ => ?_)
      refine xs_aload_n dB_face_92 rfl ?_
      refine xs_iload_n dB_face_93 rfl ?_
      refine xs_cV_i (As := [_]) dB_face_94 lkB_237 (by repeat (first | exact va_up_self _ _ _ | assumption | refine (va_up_ne _ _ (by omega)).trans ?_)) (k_B_zonesAt q1 hz (by omega) (by omega)) rfl rfl (Nat.le_of_ble_eq_true rfl) ⟨by decide, by decide⟩ ⟨by omega, by omega⟩ ?_
      refine xs_goto dB_face_97 ?_
      exact xs_iret dB_face_108 rfl rfl (by omega) (by omega) (bOk hR (iI_nat _) h2 f2)
    · refine xs_icmp_ge dB_face_48 (fun _ => ?_) (fun q => absurd (by decide) q)
      refine xs_iload_n dB_face_64 rfl ?_
      refine xs_bipush (v := 7) dB_face_65 (by decide) ?_
      refine xs_icmp_ge dB_face_67 (fun _ => ?_) (fun q => absurd (by decide) q)
      refine xs_iload_n dB_face_86 rfl ?_
      refine xs_bipush (v := 7) dB_face_87 (by decide) ?_
      refine xs_icmp_ne dB_face_89 (fun _ => ?_) (fun q => absurd q (by decide))
      refine xs_aload_n dB_face_100 rfl ?_
      refine xs_get dB_face_101 flB_16 (by repeat (first | exact va_up_self _ _ _ | assumption | refine (va_up_ne _ _ (by omega)).trans ?_)) rfl ?_
      refine xs_iload_n dB_face_104 rfl ?_
      refine xs_cS_i (As := [_, _]) dB_face_105 lkB_240 (k_B_formOf r2 hV hf hci) rfl rfl (Nat.le_of_ble_eq_true rfl) ⟨by decide, by decide⟩ ⟨by omega, by omega⟩ ?_
      exact xs_iret dB_face_108 rfl rfl (by omega) (by omega) (bOk hR (iI_nat _) h2 f2)
end N6
