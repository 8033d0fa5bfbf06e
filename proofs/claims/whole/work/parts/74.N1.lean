section N1
variable {n b : Nat} {G : xG} {rf : Int32} {S : zS}
theorem k_B_inI {x : Int32} {lo hi : Int} (hl : lo.natAbs < 4611686018427387904) (hh : hi.natAbs < 4611686018427387904) : xK mB_in [.long x.toInt64, .long (iL lo), .long (iL hi)] n G 0 0 (qI n G (bI (decide (lo ≤ x.toInt ∧ x.toInt ≤ hi)))) xNo := by
  rw [l_of]
  exact k_B_in (i_bd x) hl hh
theorem k_B_append {c : Int32} (h : mdo G b rf S) : xK mB_append [.ref b, .int c] n G 0 0 (bPost n b G (rAppend S c.toInt)) xNo := by
  obtain ⟨⟨sp, gd, zs, ft, hc⟩, k1, k2, ⟨f, hr, hf, hV⟩, k4, k5, k6, k7, k8⟩ := id h
  obtain ⟨sc, hsc, hrow, hl, h256⟩ := k1
  refine xK_of2 (L0 := [(0, _), (1, _)]) (by decide +kernel) rfl (Nat.le_of_ble_eq_true rfl) rfl ?_
  refine xs_aload_n dB_append_0 rfl ?_
  refine xs_iload_n dB_append_1 rfl ?_
  refine xs_i2l dB_append_2 ?_
  refine xs_lconst (v := 0) dB_append_3 (by decide) ?_
  refine xs_ldc2 dB_append_4 kcB_167 ?_
  refine xs_cS_i (As := [_, _, _]) dB_append_7 lkB_169 (k_B_inI (lo:=0) (hi:=255) (by decide) (by decide)) rfl rfl (Nat.le_of_ble_eq_true rfl) ⟨by decide, by decide⟩ ⟨by omega, by omega⟩ ?_
  by_cases hr2 : 0 ≤ c.toInt ∧ c.toInt ≤ 255
  case neg =>
    have hR : rAppend S c.toInt = (1, 0, S) := by rw [rAppend, if_pos hr2]
    rw [bI_f hr2]
    refine xs_if_ne dB_append_10 (fun q => absurd rfl q) (fun _ => ?_)
    refine xs_iconst (v := 1) dB_append_13 (by decide) ?_
    refine xs_goto dB_append_14 ?_
    refine xs_cV_i (As := [_]) dB_append_31 lkB_176 (by repeat (first | exact va_up_self _ _ _ | assumption | refine (va_up_ne _ _ (by omega)).trans ?_)) (k_B_refused (w:=1) (by decide) hc) rfl rfl (Nat.le_of_ble_eq_true rfl) ⟨by decide, by decide⟩ ⟨by omega, by omega⟩ ?_
    rw [bI_t (by decide)]
    refine xs_if_eq dB_append_34 (fun q => absurd q (by decide)) (fun _ => ?_)
    refine xs_iconst (v := 0) dB_append_37 (by decide) ?_
    exact xs_iret dB_append_38 rfl rfl (by omega) (by omega) (bNo hR (by decide) (mdx_rf h) rf_fr)
  rw [bI_t hr2]
  refine xs_if_ne dB_append_10 (fun _ => ?_) (fun q => absurd q (by decide))
  refine xs_aload_n dB_append_17 rfl ?_
  refine xs_get dB_append_18 flB_173 (by repeat (first | exact va_up_self _ _ _ | assumption | refine (va_up_ne _ _ (by omega)).trans ?_)) rfl ?_
  refine xs_bipush (v := 100) dB_append_21 (by decide) ?_
  refine xs_icmp_ne dB_append_23 (fun q => ?_) (fun q => ?_)
  case _ =>
    have hlt : S.1.length < 100 := by
      rcases Nat.lt_or_ge S.1.length 100 with e | e
      · exact e
      · exact absurd (by rw [show S.1.length = 100 by omega]; rfl) q
    obtain ⟨k, hk, hck⟩ : ∃ k : Nat, c.toInt = (k : Int) ∧ k < 256 := ⟨c.toInt.toNat, by omega, by omega⟩
    have hc2 : c = nI k := iTN hk
    have hR : rAppend S c.toInt = (0, ((S.1.length + 1 : Nat) : Int), (S.1 ++ [k], S.2)) := by rw [rAppend, if_neg (fun q => q hr2), if_neg (by omega), hk, Int.toNat_natCast]
    rw [hR]
    clear hR hr2 hk q
    subst hc2
    refine xs_iconst (v := 0) dB_append_30 (by decide) ?_
    refine xs_cV_i (As := [_]) dB_append_31 lkB_176 (by repeat (first | exact va_up_self _ _ _ | assumption | refine (va_up_ne _ _ (by omega)).trans ?_)) (k_B_refused (w:=0) (by decide) hc) rfl rfl (Nat.le_of_ble_eq_true rfl) ⟨by decide, by decide⟩ ⟨by omega, by omega⟩ ?_
    rw [bI_f (by decide)]
    refine xs_if_eq dB_append_34 (fun _ => ?_) (fun q => absurd rfl q)
    obtain ⟨H1, hH1⟩ : ∃ H1, H1 = va_up G b (mCl b (nI 0) (nI S.1.length) sp gd (nI S.2.2.1.length) zs ft) := ⟨_, rfl⟩
    have h1 : mdo H1 b (nI 0) S := hH1 ▸ mdx_rf h
    have f1 : xfr b (b + 17) G H1 := hH1 ▸ rf_fr
    have c1 : H1 b = mCl b (nI 0) (nI S.1.length) sp gd (nI S.2.2.1.length) zs ft := by rw [hH1, va_up_self]
    have e1 : ∀ k, k ≠ b → H1 k = G k := fun k hk => by rw [hH1, va_up_ne _ _ hk]
    refine xs_at (H := H1) hH1.symm ?_
    clear hH1
    have v1 : vp_in (nI S.1.length) 100 := vp_in_nI (by omega) (by omega)
    have hs1 : H1 (b + 1) = oI 100 sc := by rw [e1 _ (by omega)]; exact hsc
    refine xs_aload_n dB_append_39 rfl ?_
    refine xs_get dB_append_40 flB_7 (by repeat (first | exact va_up_self _ _ _ | assumption | refine (va_up_ne _ _ (by omega)).trans ?_)) rfl ?_
    refine xs_aload_n dB_append_43 rfl ?_
    refine xs_get dB_append_44 flB_173 (by repeat (first | exact va_up_self _ _ _ | assumption | refine (va_up_ne _ _ (by omega)).trans ?_)) rfl ?_
    refine xs_iload_n dB_append_47 rfl ?_
    refine xs_iast dB_append_48 (by repeat (first | exact va_up_self _ _ _ | assumption | refine (va_up_ne _ _ (by omega)).trans ?_)) (by assumption) ?_
    refine xs_aload_n dB_append_49 rfl ?_
    refine xs_dup dB_append_50 rfl ?_
    refine xs_get dB_append_51 flB_173 (by repeat (first | exact va_up_self _ _ _ | assumption | refine (va_up_ne _ _ (by omega)).trans ?_)) rfl ?_
    refine xs_iconst (v := 1) dB_append_54 (by decide) ?_
    refine xs_iadd dB_append_55 ?_
    rw [add1, nI_clamp (by omega)]
    refine xs_put dB_append_56 flB_173 ft8_2 (by repeat (first | exact va_up_self _ _ _ | assumption | refine (va_up_ne _ _ (by omega)).trans ?_)) (fun _ => rfl) (fun _ => rfl) (by simp) ?_
    refine xs_aload_n dB_append_59 rfl ?_
    refine xs_get dB_append_60 flB_173 (by repeat (first | exact va_up_self _ _ _ | assumption | refine (va_up_ne _ _ (by omega)).trans ?_)) rfl ?_
    obtain ⟨_, _, m2, m3, m4, m5, m6, m7, m8⟩ := id h1
    refine xs_iret dB_append_63 rfl rfl (by omega) (by omega) (bOk rfl (iI_nat _) ⟨⟨sp, gd, zs, ft, ?_⟩, ⟨upd sc S.1.length (nI k), ?_, fun i x hx => ?_, by rw [List.length_append, List.length_singleton]; omega, fun x hx => ?_⟩, mAr_fr m2 ?_, mRw_fr m3 ?_, mAr_fr m4 ?_, mDi_fr m5 ?_, mKp_fr m6 ?_ ?_, mwk_fr m7 (fun k _ _ => ?_), mGr_fr m8 (fun k _ _ => ?_)⟩ (xfr_up (xfr_up f1 (by omega) (by omega)) (by omega) (by omega)))
    · rw [va_up_self]
      show _ = mCl b (nI 0) (nI (S.1 ++ [k]).length) sp gd (nI S.2.2.1.length) zs ft
      rw [List.length_append, List.length_singleton]
      rfl
    · exact (by repeat (first | exact va_up_self _ _ _ | assumption | refine (va_up_ne _ _ (by omega)).trans ?_))
    · simp only [upd]
      by_cases hi : i = S.1.length
      · subst hi
        rw [List.getElem?_append_right (Nat.le_refl _), Nat.sub_self] at hx
        cases hx
        rw [if_pos rfl]
      · have := (List.getElem?_eq_some_iff.mp hx).1
        rw [List.length_append, List.length_singleton] at this
        rw [List.getElem?_append_left (by omega)] at hx
        rw [if_neg hi]
        exact hrow i x hx
    · rcases List.mem_append.mp hx with e | e
      · exact h256 x e
      · rw [List.mem_singleton.mp e]
        exact hck
    all_goals rw [va_up_ne _ _ (by omega), va_up_ne _ _ (by omega)]
  case _ =>
    have hlt : 100 ≤ S.1.length := by
      have := (nI_eq (b := 100) (by omega) (by decide)).mp q
      omega
    have hR : rAppend S c.toInt = (2, 0, S) := by rw [rAppend, if_neg (fun q => q hr2), if_pos hlt]
    refine xs_iconst (v := 2) dB_append_26 (by decide) ?_
    refine xs_goto dB_append_27 ?_
    refine xs_cV_i (As := [_]) dB_append_31 lkB_176 (by repeat (first | exact va_up_self _ _ _ | assumption | refine (va_up_ne _ _ (by omega)).trans ?_)) (k_B_refused (w:=2) (by decide) hc) rfl rfl (Nat.le_of_ble_eq_true rfl) ⟨by decide, by decide⟩ ⟨by omega, by omega⟩ ?_
    rw [bI_t (by decide)]
    refine xs_if_eq dB_append_34 (fun q => absurd q (by decide)) (fun _ => ?_)
    refine xs_iconst (v := 0) dB_append_37 (by decide) ?_
    exact xs_iret dB_append_38 rfl rfl (by omega) (by omega) (bNo hR (by decide) (mdx_rf h) rf_fr)
theorem k_B_clearText (h : mdo G b rf S) : xK mB_clearText [.ref b] n G 0 0 (bPost n b G (rClear S)) xNo := by
  obtain ⟨⟨sp, gd, zs, ft, hc⟩, k1, k2, ⟨f, hr, hf, hV⟩, k4, k5, k6, k7, k8⟩ := id h
  obtain ⟨sc, hsc, hrow, hl, h256⟩ := k1
  refine xK_of2 (L0 := [(0, _)]) (by decide +kernel) rfl (Nat.le_of_ble_eq_true rfl) rfl ?_
  refine xs_aload_n dB_clearText_0 rfl ?_
  refine xs_iconst (v := 0) dB_clearText_1 (by decide) ?_
  refine xs_put dB_clearText_2 flB_64 ft8_0 (by repeat (first | exact va_up_self _ _ _ | assumption | refine (va_up_ne _ _ (by omega)).trans ?_)) (fun _ => rfl) (fun _ => rfl) (by simp) ?_
  refine xs_aload_n dB_clearText_5 rfl ?_
  refine xs_get dB_clearText_6 flB_173 (by repeat (first | exact va_up_self _ _ _ | assumption | refine (va_up_ne _ _ (by omega)).trans ?_)) rfl ?_
  refine xs_istore_n (L2 := [(1, _), (0, _)]) dB_clearText_9 (by decide) rfl ?_
  refine xs_aload_n dB_clearText_10 rfl ?_
  refine xs_iconst (v := 0) dB_clearText_11 (by decide) ?_
  refine xs_put dB_clearText_12 flB_173 ft8_2 (by repeat (first | exact va_up_self _ _ _ | assumption | refine (va_up_ne _ _ (by omega)).trans ?_)) (fun _ => rfl) (fun _ => rfl) (by simp) ?_
  refine xs_iload_n dB_clearText_15 rfl ?_
  obtain ⟨_, _, m2, m3, m4, m5, m6, m7, m8⟩ := id h
  refine xs_iret dB_clearText_16 rfl rfl (by omega) (by omega) (bOk rfl (iI_nat _) ⟨⟨sp, gd, zs, ft, ?_⟩, ⟨sc, ?_, (fun i x hx => by cases hx), Nat.zero_le _, fun x hx => absurd hx List.not_mem_nil⟩, mAr_fr m2 ?_, mRw_fr m3 ?_, mAr_fr m4 ?_, mDi_fr m5 ?_, mKp_fr m6 ?_ ?_, mwk_fr m7 (fun k _ _ => ?_), mGr_fr m8 (fun k _ _ => ?_)⟩ (xfr_up (xfr_up xfr_rf (by omega) (by omega)) (by omega) (by omega)))
  · rw [va_up_self]
    rfl
  · exact (by repeat (first | exact va_up_self _ _ _ | assumption | refine (va_up_ne _ _ (by omega)).trans ?_))
  all_goals rw [va_up_ne _ _ (by omega), va_up_ne _ _ (by omega)]
theorem k_B_undo (h : mdo G b rf S) : xK mB_undo [.ref b] n G 0 0 (bPost n b G (rUndo S)) xNo := by
  obtain ⟨⟨sp, gd, zs, ft, hc⟩, k1, k2, ⟨f, hr, hf, hV⟩, k4, k5, k6, k7, k8⟩ := id h
  obtain ⟨di, hdi, hA, hrow⟩ := id k5
  refine xK_of2 (L0 := [(0, _)]) (by decide +kernel) rfl (Nat.le_of_ble_eq_true rfl) rfl ?_
  refine xs_aload_n dB_undo_0 rfl ?_
  refine xs_aload_n dB_undo_1 rfl ?_
  refine xs_get dB_undo_2 flB_74 (by repeat (first | exact va_up_self _ _ _ | assumption | refine (va_up_ne _ _ (by omega)).trans ?_)) rfl ?_
  cases hAc : S.2.2.1 with
  | nil =>
    have hR : rUndo S = (1, 0, S) := by rw [rUndo, hAc]
    refine xs_if_ne dB_undo_5 (fun q => absurd rfl q) (fun _ => ?_)
    refine xs_iconst (v := 1) dB_undo_8 (by decide) ?_
    refine xs_goto dB_undo_9 ?_
    refine xs_cV_i (As := [_]) dB_undo_13 lkB_176 (by repeat (first | exact va_up_self _ _ _ | assumption | refine (va_up_ne _ _ (by omega)).trans ?_)) (k_B_refused (w:=1) (by decide) hc) rfl rfl (Nat.le_of_ble_eq_true rfl) ⟨by decide, by decide⟩ ⟨by omega, by omega⟩ ?_
    rw [bI_t (by decide)]
    refine xs_if_eq dB_undo_16 (fun q => absurd q (by decide)) (fun _ => ?_)
    refine xs_iconst (v := 0) dB_undo_19 (by decide) ?_
    exact xs_iret dB_undo_20 rfl rfl (by omega) (by omega) (bNo hR (by decide) (mdx_rf h) rf_fr)
  | cons W l =>
    have hR : rUndo S = (0, (l.length : Int), (S.1, W, l, S.2.2.2)) := by rw [rUndo, hAc]
    rw [hR]
    have hlen : S.2.2.1.length = l.length + 1 := by rw [hAc, List.length_cons]
    refine xs_if_ne dB_undo_5 (fun _ => ?_) (fun q => absurd q (nI_ne (by rw [List.length_cons]; omega) (by rw [List.length_cons]; omega)))
    refine xs_iconst (v := 0) dB_undo_12 (by decide) ?_
    refine xs_cV_i (As := [_]) dB_undo_13 lkB_176 (by repeat (first | exact va_up_self _ _ _ | assumption | refine (va_up_ne _ _ (by omega)).trans ?_)) (k_B_refused (w:=0) (by decide) hc) rfl rfl (Nat.le_of_ble_eq_true rfl) ⟨by decide, by decide⟩ ⟨by omega, by omega⟩ ?_
    rw [bI_f (by decide)]
    refine xs_if_eq dB_undo_16 (fun _ => ?_) (fun q => absurd rfl q)
    obtain ⟨H1, hH1⟩ : ∃ H1, H1 = va_up G b (mCl b (nI 0) (nI S.1.length) sp gd (nI S.2.2.1.length) zs ft) := ⟨_, rfl⟩
    have h1 : mdo H1 b (nI 0) S := hH1 ▸ mdx_rf h
    have f1 : xfr b (b + 17) G H1 := hH1 ▸ rf_fr
    have c1 : H1 b = mCl b (nI 0) (nI S.1.length) sp gd (nI S.2.2.1.length) zs ft := by rw [hH1, va_up_self]
    have e1 : ∀ k, k ≠ b → H1 k = G k := fun k hk => by rw [hH1, va_up_ne _ _ hk]
    refine xs_at (H := H1) hH1.symm ?_
    clear hH1
    rw [hlen] at c1
    have e70 : (70 : Int32) * nI l.length = nI (70 * l.length) := (Int32.ofNat_mul 70 l.length).symm
    have edec : nI (l.length + 1) - 1 = nI l.length := by rw [nI_dec, ← iI_nat]
    refine xs_aload_n dB_undo_21 rfl ?_
    refine xs_dup dB_undo_22 rfl ?_
    refine xs_get dB_undo_23 flB_74 (by repeat (first | exact va_up_self _ _ _ | assumption | refine (va_up_ne _ _ (by omega)).trans ?_)) rfl ?_
    refine xs_iconst (v := 1) dB_undo_26 (by decide) ?_
    refine xs_isub dB_undo_27 ?_
    rw [edec]
    have d1 : H1 (b + 5) = oI 980 di := by rw [e1 _ (by omega)]; exact hdi
    have r1 : H1 (b + 3) = oI 70 f := by rw [e1 _ (by omega)]; exact hr
    obtain ⟨H2, hH2⟩ : ∃ H2, H2 = va_up H1 b (mCl b (nI 0) (nI S.1.length) sp gd (nI l.length) zs ft) := ⟨_, rfl⟩
    refine xs_put dB_undo_28 flB_74 ft8_9 (by repeat (first | exact va_up_self _ _ _ | assumption | refine (va_up_ne _ _ (by omega)).trans ?_)) (fun _ => rfl) (fun _ => rfl) (by simp) ?_
    refine xs_at (H := H2) hH2.symm ?_
    have c2 : H2 b = mCl b (nI 0) (nI S.1.length) sp gd (nI l.length) zs ft := by rw [hH2, va_up_self]
    have d2 : H2 (b + 5) = oI 980 di := by rw [hH2, va_up_ne _ _ (by omega)]; exact d1
    have r2 : H2 (b + 3) = oI 70 f := by rw [hH2, va_up_ne _ _ (by omega)]; exact r1
    have e2 : ∀ k, k ≠ b → H2 k = H1 k := fun k hk => by rw [hH2, va_up_ne _ _ hk]
    refine xs_aload_n dB_undo_31 rfl ?_
    refine xs_get dB_undo_32 flB_22 (by repeat (first | exact va_up_self _ _ _ | assumption | refine (va_up_ne _ _ (by omega)).trans ?_)) rfl ?_
    refine xs_bipush (v := 70) dB_undo_35 (by decide) ?_
    refine xs_aload_n dB_undo_37 rfl ?_
    refine xs_get dB_undo_38 flB_74 (by repeat (first | exact va_up_self _ _ _ | assumption | refine (va_up_ne _ _ (by omega)).trans ?_)) rfl ?_
    refine xs_imul dB_undo_41 ?_
    rw [e70]
    refine xs_aload_n dB_undo_42 rfl ?_
    refine xs_get dB_undo_43 flB_16 (by repeat (first | exact va_up_self _ _ _ | assumption | refine (va_up_ne _ _ (by omega)).trans ?_)) rfl ?_
    refine xs_iconst (v := 0) dB_undo_46 (by decide) ?_
    refine xs_bipush (v := 70) dB_undo_47 (by decide) ?_
    refine xs_cS_vx (As := [_, _, _, _, _]) dB_undo_49 lkB_77 (k_B_copy (fa:=70 * l.length) (ta:=0) (m:=70) d2 r2 (by omega) (by omega) (by omega) (by omega) (by omega)) rfl rfl (Nat.le_of_ble_eq_true rfl) ⟨by decide, by decide⟩ ⟨by omega, by omega⟩ ?_
    intro H3 ⟨g2, hH3, q1, q2⟩
    have c3 : H3 b = mCl b (nI 0) (nI S.1.length) sp gd (nI l.length) zs ft := by rw [hH3, va_up_ne _ _ (by omega)]; exact c2
    refine xs_aload_n dB_undo_52 rfl ?_
    refine xs_get dB_undo_53 flB_74 (by repeat (first | exact va_up_self _ _ _ | assumption | refine (va_up_ne _ _ (by omega)).trans ?_)) rfl ?_
    obtain ⟨w1, w2⟩ := hrow 0 W (by rw [hAc]; rfl)
    rw [hlen] at w1
    have e3 : ∀ k, k ≠ b → k ≠ b + 3 → H3 k = H1 k := fun k hk hk3 => by rw [hH3, va_up_ne _ _ hk3]; exact e2 k hk
    obtain ⟨_, m1, m2, m3, m4, m5, m6, m7, m8⟩ := id h1
    refine xs_iret dB_undo_56 rfl rfl (by omega) (by omega) (bOk rfl (iI_nat _) ⟨⟨sp, gd, zs, ft, c3⟩, mTx_fr m1 (e3 _ (by omega) (by omega)), mAr_fr m2 (e3 _ (by omega) (by omega)), ⟨g2, by rw [hH3, va_up_self], mrow_cp w1 w2.1 (fun j hj => ?_), w2⟩, mAr_fr m4 (e3 _ (by omega) (by omega)), ⟨di, by rw [e3 _ (by omega) (by omega)]; exact d1, by show l.length ≤ 14; omega, fun i U hU => ?_⟩, mKp_fr m6 (e3 _ (by omega) (by omega)) (e3 _ (by omega) (by omega)), mwk_fr m7 (fun k _ _ => e3 _ (by omega) (by omega)), mGr_fr m8 (fun k _ _ => e3 _ (by omega) (by omega))⟩ (fun k hk => (e3 k (by omega) (by omega)).trans (f1 k hk)))
    · have := q1 j hj
      rw [Nat.zero_add] at this
      rw [this]
      rfl
    · have hil := (List.getElem?_eq_some_iff.mp hU).1
      obtain ⟨w3, w4⟩ := hrow (i + 1) U (by rw [hAc, List.getElem?_cons_succ]; exact hU)
      rw [hlen, show l.length + 1 - 1 - (i + 1) = l.length - 1 - i by omega] at w3
      exact ⟨w3, w4⟩
theorem mKp_s {H : xG} {W : zV} {O : Option zV × Option zV} {s : Nat} {kp ik kp2 : Nat → Int32} (hs : s < 2) (h6 : H (b + 6) = oI 140 kp2) (h7 : H (b + 7) = oB 2 (upd ik s 1)) (hik : ik 0 = bI O.1.isSome ∧ ik 1 = bI O.2.isSome) (h1 : ∀ W, O.1 = some W → mrow kp W ∧ zOk W) (h2 : ∀ W, O.2 = some W → mrow (fun j => kp (70 + j)) W ∧ zOk W) (hW : zOk W) (hin : mrow (fun j => kp2 (70 * s + j)) W) (hout : ∀ j, (j < 70 * s ∨ 70 * s + 70 ≤ j) → kp2 j = kp j) : mKp H b (if s = 0 then (some W, O.2) else (O.1, some W)) := by
  rcases (show s = 0 ∨ s = 1 by omega) with rfl | rfl
  · rw [if_pos rfl]
    refine ⟨kp2, _, h6, h7, ⟨rfl, by rw [← hik.2]; rfl⟩, fun U hU => ?_, fun U hU => ?_⟩
    · cases hU
      exact ⟨mrow_cp hin hW.1 (fun j _ => by show kp2 j = kp2 (70 * 0 + j); congr 1; omega), hW⟩
    · obtain ⟨w1, w2⟩ := h2 U hU
      exact ⟨mrow_cp w1 w2.1 (fun j _ => hout _ (by omega)), w2⟩
  · rw [if_neg (by decide)]
    refine ⟨kp2, _, h6, h7, ⟨by rw [← hik.1]; rfl, rfl⟩, fun U hU => ?_, fun U hU => ?_⟩
    · obtain ⟨w1, w2⟩ := h1 U hU
      exact ⟨mrow_cp w1 w2.1 (fun j _ => hout _ (by omega)), w2⟩
    · cases hU
      exact ⟨mrow_cp hin hW.1 (fun j _ => rfl), hW⟩
theorem k_B_save {x : Int32} (h : mdo G b rf S) : xK mB_save [.ref b, .int x] n G 0 0 (bPost n b G (rSave S x.toInt)) xNo := by
  obtain ⟨⟨sp, gd, zs, ft, hc⟩, k1, k2, ⟨f, hr, hf, hV⟩, k4, k5, k6, k7, k8⟩ := id h
  obtain ⟨kp, ik, hkp, hik, hi, ho1, ho2⟩ := id k6
  refine xK_of2 (L0 := [(0, _), (1, _)]) (by decide +kernel) rfl (Nat.le_of_ble_eq_true rfl) rfl ?_
  refine xs_aload_n dB_save_0 rfl ?_
  refine xs_iload_n dB_save_1 rfl ?_
  refine xs_i2l dB_save_2 ?_
  refine xs_lconst (v := 0) dB_save_3 (by decide) ?_
  refine xs_lconst (v := 1) dB_save_4 (by decide) ?_
  refine xs_cS_i (As := [_, _, _]) dB_save_5 lkB_169 (k_B_inI (lo:=0) (hi:=1) (by decide) (by decide)) rfl rfl (Nat.le_of_ble_eq_true rfl) ⟨by decide, by decide⟩ ⟨by omega, by omega⟩ ?_
  by_cases hr2 : 0 ≤ x.toInt ∧ x.toInt ≤ 1
  case neg =>
    have hR : rSave S x.toInt = (1, 0, S) := by rw [rSave, if_neg (by omega), if_neg (by omega)]
    rw [bI_f hr2]
    refine xs_if_eq dB_save_8 (fun _ => ?_) (fun q => absurd rfl q)
    refine xs_iconst (v := 1) dB_save_15 (by decide) ?_
    refine xs_cV_i (As := [_]) dB_save_16 lkB_176 (by repeat (first | exact va_up_self _ _ _ | assumption | refine (va_up_ne _ _ (by omega)).trans ?_)) (k_B_refused (w:=1) (by decide) hc) rfl rfl (Nat.le_of_ble_eq_true rfl) ⟨by decide, by decide⟩ ⟨by omega, by omega⟩ ?_
    rw [bI_t (by decide)]
    refine xs_if_eq dB_save_19 (fun q => absurd q (by decide)) (fun _ => ?_)
    refine xs_iconst (v := 0) dB_save_22 (by decide) ?_
    exact xs_iret dB_save_23 rfl rfl (by omega) (by omega) (bNo hR (by decide) (mdx_rf h) rf_fr)
  rw [bI_t hr2]
  refine xs_if_eq dB_save_8 (fun q => absurd q (by decide)) (fun _ => ?_)
  obtain ⟨s, hsx, hs2, hs0, hs1⟩ := toN hr2 (by decide)
  have hR : rSave S x.toInt = (0, (S.2.1.1.length : Int), (S.1, S.2.1, S.2.2.1, (if s = 0 then (some S.2.1, S.2.2.2.2) else (S.2.2.2.1, some S.2.1)))) := by
    rcases (show s = 0 ∨ s = 1 by omega) with rfl | rfl
    · rw [rSave, if_pos (by omega), if_pos rfl]
    · rw [rSave, if_neg (by omega), if_pos (by omega), if_neg (by decide)]
  rw [hR]
  clear hR hr2 hs2
  subst hsx
  refine xs_iconst (v := 0) dB_save_11 (by decide) ?_
  refine xs_goto dB_save_12 ?_
  refine xs_cV_i (As := [_]) dB_save_16 lkB_176 (by repeat (first | exact va_up_self _ _ _ | assumption | refine (va_up_ne _ _ (by omega)).trans ?_)) (k_B_refused (w:=0) (by decide) hc) rfl rfl (Nat.le_of_ble_eq_true rfl) ⟨by decide, by decide⟩ ⟨by omega, by omega⟩ ?_
  rw [bI_f (by decide)]
  refine xs_if_eq dB_save_19 (fun _ => ?_) (fun q => absurd rfl q)
  obtain ⟨H1, hH1⟩ : ∃ H1, H1 = va_up G b (mCl b (nI 0) (nI S.1.length) sp gd (nI S.2.2.1.length) zs ft) := ⟨_, rfl⟩
  have h1 : mdo H1 b (nI 0) S := hH1 ▸ mdx_rf h
  have f1 : xfr b (b + 17) G H1 := hH1 ▸ rf_fr
  have c1 : H1 b = mCl b (nI 0) (nI S.1.length) sp gd (nI S.2.2.1.length) zs ft := by rw [hH1, va_up_self]
  have e1 : ∀ k, k ≠ b → H1 k = G k := fun k hk => by rw [hH1, va_up_ne _ _ hk]
  refine xs_at (H := H1) hH1.symm ?_
  clear hH1
  have r1 : H1 (b + 3) = oI 70 f := by rw [e1 _ (by omega)]; exact hr
  have p1 : H1 (b + 6) = oI 140 kp := by rw [e1 _ (by omega)]; exact hkp
  have i1 : H1 (b + 7) = oB 2 ik := by rw [e1 _ (by omega)]; exact hik
  have e70 : (70 : Int32) * nI s = nI (70 * s) := (Int32.ofNat_mul 70 s).symm
  have vs : vp_in (nI s) 2 := vp_in_nI (by omega) (by omega)
  have v0 : vp_in (0 : Int32) 70 := fin70 (j := 0) (by decide)
  have e0 : (0 : Int32).toNatClampNeg = 0 := by decide
  have hnar : vp_nar .boolean 1 = 1 := by decide
  refine xs_aload_n dB_save_24 rfl ?_
  refine xs_get dB_save_25 flB_16 (by repeat (first | exact va_up_self _ _ _ | assumption | refine (va_up_ne _ _ (by omega)).trans ?_)) rfl ?_
  refine xs_iconst (v := 0) dB_save_28 (by decide) ?_
  refine xs_aload_n dB_save_29 rfl ?_
  refine xs_get dB_save_30 flB_25 (by repeat (first | exact va_up_self _ _ _ | assumption | refine (va_up_ne _ _ (by omega)).trans ?_)) rfl ?_
  refine xs_bipush (v := 70) dB_save_33 (by decide) ?_
  refine xs_iload_n dB_save_35 rfl ?_
  refine xs_imul dB_save_36 ?_
  rw [e70]
  refine xs_bipush (v := 70) dB_save_37 (by decide) ?_
  refine xs_cS_vx (As := [_, _, _, _, _]) dB_save_39 lkB_77 (k_B_copy (fa:=0) (ta:=70 * s) (m:=70) r1 p1 (by omega) (by omega) (by omega) (by omega) (by omega)) rfl rfl (Nat.le_of_ble_eq_true rfl) ⟨by decide, by decide⟩ ⟨by omega, by omega⟩ ?_
  intro H2 ⟨g2, hH2, q1, q2⟩
  have c2 : H2 b = mCl b (nI 0) (nI S.1.length) sp gd (nI S.2.2.1.length) zs ft := by rw [hH2, va_up_ne _ _ (by omega)]; exact c1
  have i2 : H2 (b + 7) = oB 2 ik := by rw [hH2, va_up_ne _ _ (by omega)]; exact i1
  have r2 : H2 (b + 3) = oI 70 f := by rw [hH2, va_up_ne _ _ (by omega)]; exact r1
  refine xs_aload_n dB_save_42 rfl ?_
  refine xs_get dB_save_43 flB_28 (by repeat (first | exact va_up_self _ _ _ | assumption | refine (va_up_ne _ _ (by omega)).trans ?_)) rfl ?_
  refine xs_iload_n dB_save_46 rfl ?_
  refine xs_iconst (v := 1) dB_save_47 (by decide) ?_
  refine xs_zast dB_save_48 (by repeat (first | exact va_up_self _ _ _ | assumption | refine (va_up_ne _ _ (by omega)).trans ?_)) (by assumption) ?_
  refine xs_aload_n dB_save_49 rfl ?_
  refine xs_get dB_save_50 flB_16 (by repeat (first | exact va_up_self _ _ _ | assumption | refine (va_up_ne _ _ (by omega)).trans ?_)) rfl ?_
  refine xs_iconst (v := 0) dB_save_53 (by decide) ?_
  refine xs_iald dB_save_54 (by repeat (first | exact va_up_self _ _ _ | assumption | refine (va_up_ne _ _ (by omega)).trans ?_)) (by assumption) ?_
  rw [hnar, nI_clamp (by omega), e0, hf.1.1]
  have e3 : ∀ k, k ≠ b + 6 → k ≠ b + 7 → (va_up H2 (b + 7) (oB 2 (upd ik s 1))) k = H1 k := fun k h6 h7 => by rw [va_up_ne _ _ h7, hH2, va_up_ne _ _ h6]
  obtain ⟨_, m1, m2, m3, m4, m5, m6, m7, m8⟩ := id h1
  refine xs_iret dB_save_55 rfl rfl (by omega) (by omega) (bOk rfl (iI_nat _) ⟨⟨sp, gd, zs, ft, by rw [e3 _ (by omega) (by omega)]; exact c1⟩, mTx_fr m1 (e3 _ (by omega) (by omega)), mAr_fr m2 (e3 _ (by omega) (by omega)), mRw_fr m3 (e3 _ (by omega) (by omega)), mAr_fr m4 (e3 _ (by omega) (by omega)), mDi_fr m5 (e3 _ (by omega) (by omega)), mKp_s (kp := kp) (kp2 := g2) (ik := ik) (s := s) (by omega) (by rw [va_up_ne _ _ (by omega), hH2, va_up_self]) (va_up_self _ _ _) hi ho1 ho2 hV (mrow_cp hf hV.1 (fun j hj => by have := q1 j hj; rw [Nat.zero_add] at this; exact this)) q2, mwk_fr m7 (fun k _ _ => e3 _ (by omega) (by omega)), mGr_fr m8 (fun k _ _ => e3 _ (by omega) (by omega))⟩ (fun k hk => (e3 k (by omega) (by omega)).trans (f1 k hk)))
theorem k_B_restore {x : Int32} (h : mdo G b rf S) : xK mB_restore [.ref b, .int x] n G 0 0 (bPost n b G (rRestore S x.toInt)) xNo := by
  obtain ⟨⟨sp, gd, zs, ft, hc⟩, k1, k2, ⟨f, hr, hf, hV⟩, k4, k5, k6, k7, k8⟩ := id h
  obtain ⟨kp, ik, hkp, hik, hi, ho1, ho2⟩ := id k6
  refine xK_of2 (L0 := [(0, _), (1, _)]) (by decide +kernel) rfl (Nat.le_of_ble_eq_true rfl) rfl ?_
  refine xs_aload_n dB_restore_0 rfl ?_
  refine xs_iload_n dB_restore_1 rfl ?_
  refine xs_i2l dB_restore_2 ?_
  refine xs_lconst (v := 0) dB_restore_3 (by decide) ?_
  refine xs_lconst (v := 1) dB_restore_4 (by decide) ?_
  refine xs_cS_i (As := [_, _, _]) dB_restore_5 lkB_169 (k_B_inI (lo:=0) (hi:=1) (by decide) (by decide)) rfl rfl (Nat.le_of_ble_eq_true rfl) ⟨by decide, by decide⟩ ⟨by omega, by omega⟩ ?_
  by_cases hr2 : 0 ≤ x.toInt ∧ x.toInt ≤ 1
  case neg =>
    have hR : rRestore S x.toInt = (1, 0, S) := by rw [rRestore, if_pos (by omega)]
    rw [bI_f hr2]
    refine xs_if_ne dB_restore_8 (fun q => absurd rfl q) (fun _ => ?_)
    refine xs_iconst (v := 1) dB_restore_11 (by decide) ?_
    refine xs_goto dB_restore_12 ?_
    refine xs_cV_i (As := [_]) dB_restore_29 lkB_176 (by repeat (first | exact va_up_self _ _ _ | assumption | refine (va_up_ne _ _ (by omega)).trans ?_)) (k_B_refused (w:=1) (by decide) hc) rfl rfl (Nat.le_of_ble_eq_true rfl) ⟨by decide, by decide⟩ ⟨by omega, by omega⟩ ?_
    rw [bI_t (by decide)]
    refine xs_if_eq dB_restore_32 (fun q => absurd q (by decide)) (fun _ => ?_)
    refine xs_iconst (v := 0) dB_restore_35 (by decide) ?_
    exact xs_iret dB_restore_36 rfl rfl (by omega) (by omega) (bNo hR (by decide) (mdx_rf h) rf_fr)
  rw [bI_t hr2]
  refine xs_if_ne dB_restore_8 (fun _ => ?_) (fun q => absurd q (by decide))
  obtain ⟨s, hsx, hs2, hs0, hs1⟩ := toN hr2 (by decide)
  obtain ⟨Ob, hOb⟩ : ∃ Ob, Ob = (if s = 0 then S.2.2.2.1 else S.2.2.2.2) := ⟨_, rfl⟩
  have hR1 : Ob = none → rRestore S x.toInt = (2, 0, S) := fun e => by
    rw [e] at hOb
    rcases (show s = 0 ∨ s = 1 by omega) with rfl | rfl
    · rw [if_pos rfl] at hOb
      rw [rRestore, if_neg (by omega), if_pos (by omega), ← hOb]
    · rw [if_neg (by decide)] at hOb
      rw [rRestore, if_neg (by omega), if_neg (by omega), ← hOb]
  have hR2 : ∀ W, Ob = some W → rRestore S x.toInt = (0, (W.1.length : Int), (S.1, W, [], S.2.2.2)) := fun W e => by
    rw [e] at hOb
    rcases (show s = 0 ∨ s = 1 by omega) with rfl | rfl
    · rw [if_pos rfl] at hOb
      rw [rRestore, if_neg (by omega), if_pos (by omega), ← hOb]
    · rw [if_neg (by decide)] at hOb
      rw [rRestore, if_neg (by omega), if_neg (by omega), ← hOb]
  have hiks : ik s = bI Ob.isSome := by
    rcases (show s = 0 ∨ s = 1 by omega) with rfl | rfl
    · rw [hOb, if_pos rfl]; exact hi.1
    · rw [hOb, if_neg (by decide)]; exact hi.2
  have hkps : ∀ W, Ob = some W → mrow (fun j => kp (70 * s + j)) W ∧ zOk W := fun W e => by
    rcases (show s = 0 ∨ s = 1 by omega) with rfl | rfl
    · rw [if_pos rfl] at hOb
      obtain ⟨w1, w2⟩ := ho1 W (by rw [← hOb]; exact e)
      exact ⟨mrow_cp w1 w2.1 (fun j _ => by show kp (70 * 0 + j) = kp j; congr 1; omega), w2⟩
    · rw [if_neg (by decide)] at hOb
      exact ho2 W (by rw [← hOb]; exact e)
  obtain ⟨R, hR⟩ : ∃ R, R = rRestore S x.toInt := ⟨_, rfl⟩
  rw [← hR] at hR1 hR2 ⊢
  clear hR hr2 hs2 hOb
  subst hsx
  have vs : vp_in (nI s) 2 := vp_in_nI (by omega) (by omega)
  have v0 : vp_in (0 : Int32) 70 := fin70 (j := 0) (by decide)
  have e0 : (0 : Int32).toNatClampNeg = 0 := by decide
  refine xs_aload_n dB_restore_15 rfl ?_
  refine xs_get dB_restore_16 flB_28 (by repeat (first | exact va_up_self _ _ _ | assumption | refine (va_up_ne _ _ (by omega)).trans ?_)) rfl ?_
  refine xs_iload_n dB_restore_19 rfl ?_
  refine xs_zald dB_restore_20 (by repeat (first | exact va_up_self _ _ _ | assumption | refine (va_up_ne _ _ (by omega)).trans ?_)) (by assumption) ?_
  rw [nI_clamp (by omega), hiks]
  cases Ob with
  | none =>
    have hR := hR1 rfl
    refine xs_if_eq dB_restore_21 (fun _ => ?_) (fun q => absurd rfl q)
    refine xs_iconst (v := 2) dB_restore_28 (by decide) ?_
    refine xs_cV_i (As := [_]) dB_restore_29 lkB_176 (by repeat (first | exact va_up_self _ _ _ | assumption | refine (va_up_ne _ _ (by omega)).trans ?_)) (k_B_refused (w:=2) (by decide) hc) rfl rfl (Nat.le_of_ble_eq_true rfl) ⟨by decide, by decide⟩ ⟨by omega, by omega⟩ ?_
    rw [bI_t (by decide)]
    refine xs_if_eq dB_restore_32 (fun q => absurd q (by decide)) (fun _ => ?_)
    refine xs_iconst (v := 0) dB_restore_35 (by decide) ?_
    exact xs_iret dB_restore_36 rfl rfl (by omega) (by omega) (bNo hR (by decide) (mdx_rf h) rf_fr)
  | some W =>
    have hR := hR2 W rfl
    obtain ⟨w1, w2⟩ := hkps W rfl
    refine xs_if_eq dB_restore_21 (fun q => absurd q (show ¬ bI true = 0 by decide)) (fun _ => ?_)
    refine xs_iconst (v := 0) dB_restore_24 (by decide) ?_
    refine xs_goto dB_restore_25 ?_
    refine xs_cV_i (As := [_]) dB_restore_29 lkB_176 (by repeat (first | exact va_up_self _ _ _ | assumption | refine (va_up_ne _ _ (by omega)).trans ?_)) (k_B_refused (w:=0) (by decide) hc) rfl rfl (Nat.le_of_ble_eq_true rfl) ⟨by decide, by decide⟩ ⟨by omega, by omega⟩ ?_
    rw [bI_f (by decide)]
    refine xs_if_eq dB_restore_32 (fun _ => ?_) (fun q => absurd rfl q)
    obtain ⟨H1, hH1⟩ : ∃ H1, H1 = va_up G b (mCl b (nI 0) (nI S.1.length) sp gd (nI S.2.2.1.length) zs ft) := ⟨_, rfl⟩
    have h1 : mdo H1 b (nI 0) S := hH1 ▸ mdx_rf h
    have f1 : xfr b (b + 17) G H1 := hH1 ▸ rf_fr
    have c1 : H1 b = mCl b (nI 0) (nI S.1.length) sp gd (nI S.2.2.1.length) zs ft := by rw [hH1, va_up_self]
    have e1 : ∀ k, k ≠ b → H1 k = G k := fun k hk => by rw [hH1, va_up_ne _ _ hk]
    refine xs_at (H := H1) hH1.symm ?_
    clear hH1
    have r1 : H1 (b + 3) = oI 70 f := by rw [e1 _ (by omega)]; exact hr
    have p1 : H1 (b + 6) = oI 140 kp := by rw [e1 _ (by omega)]; exact hkp
    have e70 : (70 : Int32) * nI s = nI (70 * s) := (Int32.ofNat_mul 70 s).symm
    refine xs_aload_n dB_restore_37 rfl ?_
    refine xs_get dB_restore_38 flB_25 (by repeat (first | exact va_up_self _ _ _ | assumption | refine (va_up_ne _ _ (by omega)).trans ?_)) rfl ?_
    refine xs_bipush (v := 70) dB_restore_41 (by decide) ?_
    refine xs_iload_n dB_restore_43 rfl ?_
    refine xs_imul dB_restore_44 ?_
    rw [e70]
    refine xs_aload_n dB_restore_45 rfl ?_
    refine xs_get dB_restore_46 flB_16 (by repeat (first | exact va_up_self _ _ _ | assumption | refine (va_up_ne _ _ (by omega)).trans ?_)) rfl ?_
    refine xs_iconst (v := 0) dB_restore_49 (by decide) ?_
    refine xs_bipush (v := 70) dB_restore_50 (by decide) ?_
    refine xs_cS_vx (As := [_, _, _, _, _]) dB_restore_52 lkB_77 (k_B_copy (fa:=70 * s) (ta:=0) (m:=70) p1 r1 (by omega) (by omega) (by omega) (by omega) (by omega)) rfl rfl (Nat.le_of_ble_eq_true rfl) ⟨by decide, by decide⟩ ⟨by omega, by omega⟩ ?_
    intro H2 ⟨g2, hH2, q1, q2⟩
    have c2 : H2 b = mCl b (nI 0) (nI S.1.length) sp gd (nI S.2.2.1.length) zs ft := by rw [hH2, va_up_ne _ _ (by omega)]; exact c1
    have r2 : H2 (b + 3) = oI 70 g2 := by rw [hH2, va_up_self]
    have hgW : mrow g2 W := mrow_cp w1 w2.1 (fun j hj => by have := q1 j hj; rw [Nat.zero_add] at this; exact this)
    refine xs_aload_n dB_restore_55 rfl ?_
    refine xs_iconst (v := 0) dB_restore_56 (by decide) ?_
    refine xs_put dB_restore_57 flB_74 ft8_9 (by repeat (first | exact va_up_self _ _ _ | assumption | refine (va_up_ne _ _ (by omega)).trans ?_)) (fun _ => rfl) (fun _ => rfl) (by simp) ?_
    refine xs_aload_n dB_restore_60 rfl ?_
    refine xs_get dB_restore_61 flB_16 (by repeat (first | exact va_up_self _ _ _ | assumption | refine (va_up_ne _ _ (by omega)).trans ?_)) rfl ?_
    refine xs_iconst (v := 0) dB_restore_64 (by decide) ?_
    refine xs_iald dB_restore_65 (by repeat (first | exact va_up_self _ _ _ | assumption | refine (va_up_ne _ _ (by omega)).trans ?_)) (by assumption) ?_
    rw [e0, hgW.1.1]
    have e3 : ∀ k, k ≠ b → k ≠ b + 3 → (va_up H2 b (mCl b (nI 0) (nI S.1.length) sp gd (nI 0) zs ft)) k = H1 k := fun k h6 h7 => by rw [va_up_ne _ _ h6, hH2, va_up_ne _ _ h7]
    obtain ⟨_, m1, m2, m3, m4, m5, m6, m7, m8⟩ := id h1
    obtain ⟨d3, d4, _⟩ := id m5
    exact xs_iret dB_restore_66 rfl rfl (by omega) (by omega) (bOk hR (iI_nat _) ⟨⟨sp, gd, zs, ft, va_up_self _ _ _⟩, mTx_fr m1 (e3 _ (by omega) (by omega)), mAr_fr m2 (e3 _ (by omega) (by omega)), ⟨g2, by rw [va_up_ne _ _ (by omega)]; exact r2, hgW, w2⟩, mAr_fr m4 (e3 _ (by omega) (by omega)), ⟨d3, (e3 _ (by omega) (by omega)).trans d4, Nat.zero_le _, fun i U hU => by cases hU⟩, mKp_fr m6 (e3 _ (by omega) (by omega)) (e3 _ (by omega) (by omega)), mwk_fr m7 (fun k _ _ => e3 _ (by omega) (by omega)), mGr_fr m8 (fun k _ _ => e3 _ (by omega) (by omega))⟩ (fun k hk => (e3 k (by omega) (by omega)).trans (f1 k hk)))
end N1
