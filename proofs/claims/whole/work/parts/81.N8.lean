theorem cr_bd3 {d e : P3} (hd : bd 2500000000000 d) (he : bd 730 e) : bd 4503599627370496 (cr d e) := by
  obtain ⟨d1, d2, d3⟩ := d
  obtain ⟨e1, e2, e3⟩ := e
  obtain ⟨x1, x2, x3⟩ := hd
  obtain ⟨y1, y2, y3⟩ := he
  simp only at x1 x2 x3 y1 y2 y3
  have f : ∀ x y : Int, x.natAbs < 2500000000000 → y.natAbs < 730 → (x * y).natAbs ≤ 2500000000000 * 730 := fun x y hx hy => mulb (Nat.le_of_lt hx) (Nat.le_of_lt hy)
  have t1 := f d2 e3 x2 y3
  have t2 := f d3 e2 x3 y2
  have t3 := f d3 e1 x3 y1
  have t4 := f d1 e3 x1 y3
  have t5 := f d1 e2 x1 y2
  have t6 := f d2 e1 x2 y1
  refine ⟨?_, ?_, ?_⟩ <;> simp only [cr] <;> omega
section N8
variable {n b : Nat} {G : xG} {rf : Int32} {S : zS} {T : List Nat} {V : zV} {A : List zV} {O : Option zV × Option zV} {sz sp ac zs ft : Int32} {gd : Bool}
theorem k_B_isAxis {x : Int32} : xK mB_isAxis [.int x] n G 0 0 (qI n G (bI (wi 99 x.toInt))) xNo := by
  refine xK_of2 (L0 := [(0, _)]) (by decide +kernel) rfl (Nat.le_of_ble_eq_true rfl) rfl ?_
  refine xs_iload_n dB_isAxis_0 rfl ?_
  refine xs_i2l dB_isAxis_1 ?_
  refine xs_ldc2 dB_isAxis_2 kcB_249 ?_
  refine xs_ldc2 dB_isAxis_5 kcB_251 ?_
  refine xs_cS_i (As := [_, _, _]) dB_isAxis_8 lkB_169 (k_B_inI (lo:=-99) (hi:=99) (by decide) (by decide)) rfl rfl (Nat.le_of_ble_eq_true rfl) ⟨by decide, by decide⟩ ⟨by omega, by omega⟩ ?_
  have e : decide ((-99 : Int) ≤ x.toInt ∧ x.toInt ≤ 99) = wi 99 x.toInt := by
    rw [Bool.eq_iff_iff, decide_eq_true_iff, wi_iff]
    omega
  exact xs_iret dB_isAxis_11 rfl (bI_n _) (by omega) (by omega) ⟨by rw [e], rfl, rfl⟩
theorem k_B_inZone {x y z : Int32} (h : mdo G b rf S) : xK mB_inZone [.ref b, .int x, .int y, .int z] n G 0 0 (bPost n b G (rInZone S x.toInt y.toInt z.toInt)) xNo := by
  obtain ⟨⟨sp, gd, zs, ft, hc⟩, k1, k2, ⟨f, hr, hf, hV⟩, k4, k5, k6, k7, k8⟩ := id h
  have hno : (wi 99 x.toInt && wi 99 y.toInt && wi 99 z.toInt) = false → rInZone S x.toInt y.toInt z.toInt = (1, 0, S) := fun h => by rw [rInZone, if_neg (by rw [h]; decide)]
  have no : (wi 99 x.toInt && wi 99 y.toInt && wi 99 z.toInt) = false → xS mB_inZone n 0 0 (bPost n b G (rInZone S x.toInt y.toInt z.toInt)) xNo 26 [(0, .ref b), (1, .int x), (2, .int y), (3, .int z)] [.ref b] n G 0 0 := by
    intro hb
    have hR := hno hb
    refine xs_iconst (v := 1) dB_inZone_26 (by decide) ?_
    refine xs_cV_i (As := [_]) dB_inZone_27 lkB_176 (by repeat (first | exact va_up_self _ _ _ | assumption | refine (va_up_ne _ _ (by omega)).trans ?_)) (k_B_refused (w:=1) (by decide) hc) rfl rfl (Nat.le_of_ble_eq_true rfl) ⟨by decide, by decide⟩ ⟨by omega, by omega⟩ ?_
    rw [bI_t (by decide)]
    refine xs_if_eq dB_inZone_30 (fun q => absurd q (by decide)) (fun _ => ?_)
    refine xs_iconst (v := 0) dB_inZone_33 (by decide) ?_
    exact xs_iret dB_inZone_34 rfl rfl (by omega) (by omega) (bNo hR (by decide) (mdx_rf h) rf_fr)
  refine xK_of2 (L0 := [(0, _), (1, _), (2, _), (3, _)]) (by decide +kernel) rfl (Nat.le_of_ble_eq_true rfl) rfl ?_
  refine xs_aload_n dB_inZone_0 rfl ?_
  refine xs_iload_n dB_inZone_1 rfl ?_
  refine xs_cS_i (As := [_]) dB_inZone_2 lkB_253 (k_B_isAxis) rfl rfl (Nat.le_of_ble_eq_true rfl) ⟨by decide, by decide⟩ ⟨by omega, by omega⟩ ?_
  refine xs_ifb_eq dB_inZone_5 (fun hb => no (by rw [hb]; rfl)) (fun hx => ?_)
  refine xs_iload_n dB_inZone_8 rfl ?_
  refine xs_cS_i (As := [_]) dB_inZone_9 lkB_253 (k_B_isAxis) rfl rfl (Nat.le_of_ble_eq_true rfl) ⟨by decide, by decide⟩ ⟨by omega, by omega⟩ ?_
  refine xs_ifb_eq dB_inZone_12 (fun hb => no (by rw [hx, hb]; rfl)) (fun hy => ?_)
  refine xs_iload_n dB_inZone_15 rfl ?_
  refine xs_cS_i (As := [_]) dB_inZone_16 lkB_253 (k_B_isAxis) rfl rfl (Nat.le_of_ble_eq_true rfl) ⟨by decide, by decide⟩ ⟨by omega, by omega⟩ ?_
  refine xs_ifb_eq dB_inZone_19 (fun hb => no (by rw [hx, hy, hb]; rfl)) (fun hz => ?_)
  refine xs_iconst (v := 0) dB_inZone_22 (by decide) ?_
  refine xs_goto dB_inZone_23 ?_
  have hR : rInZone S x.toInt y.toInt z.toInt = (0, if (x.toInt, y.toInt, z.toInt) = ((0, 0, 0) : P3) then -99999 else (pc (mem (zDirs S.2.1) (x.toInt, y.toInt, z.toInt)) : Int), S) := by rw [rInZone, if_pos (by rw [hx, hy, hz]; rfl)]
  clear no hno
  refine xs_cV_i (As := [_]) dB_inZone_27 lkB_176 (by repeat (first | exact va_up_self _ _ _ | assumption | refine (va_up_ne _ _ (by omega)).trans ?_)) (k_B_refused (w:=0) (by decide) hc) rfl rfl (Nat.le_of_ble_eq_true rfl) ⟨by decide, by decide⟩ ⟨by omega, by omega⟩ ?_
  rw [bI_f (by decide)]
  refine xs_if_eq dB_inZone_30 (fun _ => ?_) (fun q => absurd rfl q)
  obtain ⟨H1, hH1⟩ : ∃ H1, H1 = va_up G b (mCl b (nI 0) (nI S.1.length) sp gd (nI S.2.2.1.length) zs ft) := ⟨_, rfl⟩
  have h1 : mdo H1 b (nI 0) S := hH1 ▸ mdx_rf h
  have f1 : xfr b (b + 17) G H1 := hH1 ▸ rf_fr
  have c1 : H1 b = mCl b (nI 0) (nI S.1.length) sp gd (nI S.2.2.1.length) zs ft := by rw [hH1, va_up_self]
  have e1 : ∀ k, k ≠ b → H1 k = G k := fun k hk => by rw [hH1, va_up_ne _ _ hk]
  refine xs_at (H := H1) hH1.symm ?_
  clear hH1
  obtain ⟨⟨th0, h8⟩, ⟨wy0, h9⟩, _⟩ := id k7
  have r1 : H1 (b + 3) = oI 70 f := by rw [e1 _ (by omega)]; exact hr
  have h81 : H1 (b + 8) = oL 3 th0 := by rw [e1 _ (by omega)]; exact h8
  have h91 : H1 (b + 9) = oL 48 wy0 := by rw [e1 _ (by omega)]; exact h9
  refine xs_aload_n dB_inZone_35 rfl ?_
  refine xs_aload_n dB_inZone_36 rfl ?_
  refine xs_get dB_inZone_37 flB_16 (by repeat (first | exact va_up_self _ _ _ | assumption | refine (va_up_ne _ _ (by omega)).trans ?_)) rfl ?_
  refine xs_cV_vx (As := [_]) dB_inZone_40 lkB_118 (by repeat (first | exact va_up_self _ _ _ | assumption | refine (va_up_ne _ _ (by omega)).trans ?_)) (k_B_layWays c1 h81 h91 r1 (by omega) hV hf) rfl rfl (Nat.le_of_ble_eq_true rfl) ⟨by decide, by decide⟩ ⟨by omega, by omega⟩ ?_
  intro H2 ⟨q1, ⟨wy, q2, q3⟩, q4⟩
  have h2 : mdo H2 b (nI 0) S := mdx_w h1 q1 ⟨_, q2⟩ q4
  have f2 : xfr b (b + 17) G H2 := fun k hk => (q4 k (by omega)).trans (f1 k hk)
  have c2 : H2 b = mCl b (nI 0) (nI S.1.length) sp gd (nI S.2.2.1.length) zs ft := by rw [q4 _ (by omega)]; exact c1
  have r2 : H2 (b + 3) = oI 70 f := by rw [q4 _ (by omega)]; exact r1
  have hok := zDirs_ok hV
  have hdl : (zDirs S.2.1).length = S.2.1.1.length := List.length_map _
  have i0 : vp_in (0 : Int32) 70 := fin70 (j := 0) (by decide)
  have j0 : (0 : Int32).toNatClampNeg = 0 := by decide
  have w1 := wi_iff.mp hx
  have w2 := wi_iff.mp hy
  have w3 := wi_iff.mp hz
  have hne0 : ∀ w : Int32, w ≠ 0 → w.toInt ≠ 0 := fun w h1 h2 => h1 (Int32.toInt_inj.mp (h2.trans (by decide)))
  have body : (x.toInt, y.toInt, z.toInt) ≠ ((0, 0, 0) : P3) → xS mB_inZone n 0 0 (bPost n b G (rInZone S x.toInt y.toInt z.toInt)) xNo 60 [(0, .ref b), (1, .int x), (2, .int y), (3, .int z)] [] n H2 0 0 := by
    intro hne
    rw [if_neg hne] at hR
    refine xs_aload_n dB_inZone_60 rfl ?_
    refine xs_aload_n dB_inZone_61 rfl ?_
    refine xs_get dB_inZone_62 flB_16 (by repeat (first | exact va_up_self _ _ _ | assumption | refine (va_up_ne _ _ (by omega)).trans ?_)) rfl ?_
    refine xs_iconst (v := 0) dB_inZone_65 (by decide) ?_
    refine xs_iald dB_inZone_66 (by repeat (first | exact va_up_self _ _ _ | assumption | refine (va_up_ne _ _ (by omega)).trans ?_)) (by assumption) ?_
    refine xs_iload_n dB_inZone_67 rfl ?_
    refine xs_i2l dB_inZone_68 ?_
    refine xs_iload_n dB_inZone_69 rfl ?_
    refine xs_i2l dB_inZone_70 ?_
    refine xs_iload_n dB_inZone_71 rfl ?_
    refine xs_i2l dB_inZone_72 ?_
    rw [j0, hf.1.1, ← hdl, l_of, l_of, l_of]
    refine xs_cV_i (As := [_, _, _, _]) dB_inZone_73 lkB_133 (by repeat (first | exact va_up_self _ _ _ | assumption | refine (va_up_ne _ _ (by omega)).trans ?_)) (k_B_facesIn (a:=(x.toInt, y.toInt, z.toInt)) c2 q2 q3 hok ⟨by show x.toInt.natAbs < _; omega, by show y.toInt.natAbs < _; omega, by show z.toInt.natAbs < _; omega⟩) rfl rfl (Nat.le_of_ble_eq_true rfl) ⟨by decide, by decide⟩ ⟨by omega, by omega⟩ ?_
    refine xs_cS_i (As := [_]) dB_inZone_76 lkB_110 (k_B_count (mem_lt _ _ hok.1)) rfl rfl (Nat.le_of_ble_eq_true rfl) ⟨by decide, by decide⟩ ⟨by omega, by omega⟩ ?_
    exact xs_iret dB_inZone_79 rfl rfl (by omega) (by omega) (bOk hR (iI_nat _) h2 f2)
  refine xs_iload_n dB_inZone_43 rfl ?_
  refine xs_if_ne dB_inZone_44 (fun q => body (fun e => hne0 _ q (congrArg Prod.fst e))) (fun z1 => ?_)
  refine xs_iload_n dB_inZone_47 rfl ?_
  refine xs_if_ne dB_inZone_48 (fun q => body (fun e => hne0 _ q (congrArg (fun p => p.2.1) e))) (fun z2 => ?_)
  refine xs_iload_n dB_inZone_51 rfl ?_
  refine xs_if_ne dB_inZone_52 (fun q => body (fun e => hne0 _ q (congrArg (fun p => p.2.2) e))) (fun z3 => ?_)
  clear body
  have h0 : (x.toInt, y.toInt, z.toInt) = ((0, 0, 0) : P3) := by
    rw [z1, z2, z3]
    rfl
  rw [if_pos h0] at hR
  refine xs_ldc dB_inZone_55 kcB_109 ?_
  refine xs_goto dB_inZone_57 ?_
  exact xs_iret dB_inZone_79 rfl rfl (by omega) (by omega) (bOk hR rfl h2 f2)
abbrev bPostL (n b : Nat) (G : xG) (R : zQ) : Option Value → Nat → xG → Prop := qLx n (fun q H => (R.1 = 0 → q = iL R.2.1) ∧ mdo H b (nI R.1) R.2.2 ∧ xfr b (b + 17) G H)
theorem bOkL {R : zQ} {z : Int} {S2 : zS} {H : xG} {r : Int64} (hR : R = (0, z, S2)) (hr : r = iL z) (h : mdo H b (nI 0) S2) (hf : xfr b (b + 17) G H) : bPostL n b G R (some (.long r)) n H := by
  subst hR
  subst hr
  exact ⟨_, rfl, rfl, fun _ => rfl, h, hf⟩
theorem bNoL {R : zQ} {w : Nat} {S2 : zS} {H : xG} {r : Int64} (hR : R = (w, 0, S2)) (hw : 0 < w) (h : mdo H b (nI w) S2) (hf : xfr b (b + 17) G H) : bPostL n b G R (some (.long r)) n H := by
  subst hR
  exact ⟨_, rfl, rfl, fun e => absurd e (by show ¬ w = 0; omega), h, hf⟩
theorem k_B_cross {x y u : Int32} (h : mdo G b rf S) : xK mB_cross [.ref b, .int x, .int y, .int u] n G 0 0 (bPostL n b G (rCross S x.toInt y.toInt u.toInt)) xNo := by
  obtain ⟨⟨sp, gd, zs, ft, hc⟩, k1, k2, ⟨f, hr, hf, hV⟩, k4, k5, k6, k7, k8⟩ := id h
  obtain ⟨R, hRR⟩ : ∃ R, R = rCross S x.toInt y.toInt u.toInt := ⟨_, rfl⟩
  rw [← hRR]
  have one : ∀ (H : xG) (zs : Int32), R = (1, 0, S) → mdo H b rf S → H b = mCl b rf (nI S.1.length) sp gd (nI S.2.2.1.length) zs ft → xfr b (b + 17) G H → xS mB_cross n 0 0 (bPostL n b G R) xNo 20 [(0, .ref b), (1, .int x), (2, .int y), (3, .int u)] [] n H 0 0 := by
    intro H zs hR h hc fH
    refine xs_iconst (v := 0) dB_cross_20 (by decide) ?_
    refine xs_istore (L2 := [(4, _), (0, _), (1, _), (2, _), (3, _)]) dB_cross_21 (by decide) rfl ?_
    refine xs_aload_n dB_cross_23 rfl ?_
    refine xs_iload dB_cross_24 rfl ?_
    refine xs_if_ne dB_cross_26 (fun q => absurd rfl q) (fun _ => ?_)
    refine xs_iconst (v := 1) dB_cross_29 (by decide) ?_
    refine xs_goto dB_cross_30 ?_
    refine xs_cV_i (As := [_]) dB_cross_55 lkB_176 (by repeat (first | exact va_up_self _ _ _ | assumption | refine (va_up_ne _ _ (by omega)).trans ?_)) (k_B_refused (w:=1) (by decide) hc) rfl rfl (Nat.le_of_ble_eq_true rfl) ⟨by decide, by decide⟩ ⟨by omega, by omega⟩ ?_
    rw [bI_t (by decide)]
    refine xs_if_eq dB_cross_58 (fun q => absurd q (by decide)) (fun _ => ?_)
    refine xs_lconst (v := 0) dB_cross_61 (by decide) ?_
    exact xs_lret dB_cross_62 rfl (by omega) (by omega) (bNoL hR (by decide) (mdx_rf h) (xfr_tr fH rf_fr))
  have two : ∀ (H : xG) (zs : Int32), R = (2, 0, S) → mdo H b rf S → H b = mCl b rf (nI S.1.length) sp gd (nI S.2.2.1.length) zs ft → xfr b (b + 17) G H → xS mB_cross n 0 0 (bPostL n b G R) xNo 50 [(4, .int 1), (0, .ref b), (1, .int x), (2, .int y), (3, .int u)] [.ref b] n H 0 0 := by
    intro H zs hR h hc fH
    refine xs_iconst (v := 2) dB_cross_50 (by decide) ?_
    refine xs_goto dB_cross_51 ?_
    refine xs_cV_i (As := [_]) dB_cross_55 lkB_176 (by repeat (first | exact va_up_self _ _ _ | assumption | refine (va_up_ne _ _ (by omega)).trans ?_)) (k_B_refused (w:=2) (by decide) hc) rfl rfl (Nat.le_of_ble_eq_true rfl) ⟨by decide, by decide⟩ ⟨by omega, by omega⟩ ?_
    rw [bI_t (by decide)]
    refine xs_if_eq dB_cross_58 (fun q => absurd q (by decide)) (fun _ => ?_)
    refine xs_lconst (v := 0) dB_cross_61 (by decide) ?_
    exact xs_lret dB_cross_62 rfl (by omega) (by omega) (bNoL hR (by decide) (mdx_rf h) (xfr_tr fH rf_fr))
  refine xK_of2 (L0 := [(0, _), (1, _), (2, _), (3, _)]) (by decide +kernel) rfl (Nat.le_of_ble_eq_true rfl) rfl ?_
  refine xs_aload_n dB_cross_0 rfl ?_
  refine xs_iload_n dB_cross_1 rfl ?_
  refine xs_cV_ix (As := [_]) dB_cross_2 lkB_244 (by repeat (first | exact va_up_self _ _ _ | assumption | refine (va_up_ne _ _ (by omega)).trans ?_)) (k_B_isZoneNumber hc k7 hr hV hf) rfl rfl (Nat.le_of_ble_eq_true rfl) ⟨by decide, by decide⟩ ⟨by omega, by omega⟩ ?_
  intro q H ⟨q1, q2, q3, q4⟩
  subst q1
  have h2 : mdo H b rf S := mdx_z h ⟨_, _, _, _, q2⟩ (mwk_of q3) q4
  cases hx : fAt (zl S.2.1) x.toInt with
  | none => exact xs_ifb_eq dB_cross_5 (fun _ => one H _ (by rw [hRR]; simp only [rCross, hx]) h2 q2 (mfr_x q4)) (fun q => Bool.noConfusion q)
  | some d =>
    refine xs_ifb_eq dB_cross_5 (fun q => Bool.noConfusion q) (fun _ => ?_)
    have rH : H (b + 3) = oI 70 f := by rw [q4 _ (by omega) (by omega)]; exact hr
    refine xs_aload_n dB_cross_8 rfl ?_
    refine xs_iload_n dB_cross_9 rfl ?_
    refine xs_cV_ix (As := [_]) dB_cross_10 lkB_244 (by repeat (first | exact va_up_self _ _ _ | assumption | refine (va_up_ne _ _ (by omega)).trans ?_)) (k_B_isZoneNumber q2 (mwk_of q3) rH hV hf) rfl rfl (Nat.le_of_ble_eq_true rfl) ⟨by decide, by decide⟩ ⟨by omega, by omega⟩ ?_
    intro q H2 ⟨p1, p2, p3, p4⟩
    subst p1
    have h3 : mdo H2 b rf S := mdx_z h2 ⟨_, _, _, _, p2⟩ (mwk_of p3) p4
    have fH := xfr_tr (mfr_x q4) (mfr_x p4)
    cases hy : fAt (zl S.2.1) y.toInt with
    | none => exact xs_ifb_eq dB_cross_13 (fun _ => one H2 _ (by rw [hRR]; simp only [rCross, hx, hy]) h3 p2 fH) (fun q => Bool.noConfusion q)
    | some e =>
      refine xs_ifb_eq dB_cross_13 (fun q => Bool.noConfusion q) (fun _ => ?_)
      have hR0 : R = if x.toInt = y.toInt ∨ ¬ (0 ≤ u.toInt ∧ u.toInt ≤ 3) then (2, 0, S) else (0, crv (zDirs S.2.1) (nz (cr d e)) u.toInt, S) := by rw [hRR, rCross, hx, hy]
      have rH2 : H2 (b + 3) = oI 70 f := by rw [p4 _ (by omega) (by omega)]; exact rH
      clear hRR one hc k1 k2 k4 k5 k6 k7 k8 h q2 q3 q4 h2 rH hr
      obtain ⟨zs, hzs⟩ : ∃ zs, zs = nI (zl S.2.1).length := ⟨_, rfl⟩
      have h := h3
      have hc := p2
      rw [← hzs] at hc
      refine xs_iconst (v := 1) dB_cross_16 (by decide) ?_
      refine xs_goto dB_cross_17 ?_
      refine xs_istore (L2 := [(4, _), (0, _), (1, _), (2, _), (3, _)]) dB_cross_21 (by decide) rfl ?_
      refine xs_aload_n dB_cross_23 rfl ?_
      refine xs_iload dB_cross_24 rfl ?_
      refine xs_if_ne dB_cross_26 (fun _ => ?_) (fun q => absurd q (by decide))
      refine xs_iload_n dB_cross_33 rfl ?_
      refine xs_iload_n dB_cross_34 rfl ?_
      refine xs_icmp_eq dB_cross_35 (fun q => two H2 _ (by rw [hR0, if_pos (Or.inl (by rw [q]))]) h hc fH) (fun hne => ?_)
      have hne2 : x.toInt ≠ y.toInt := fun q => hne (Int32.toInt_inj.mp q)
      refine xs_iload_n dB_cross_38 rfl ?_
      refine xs_i2l dB_cross_39 ?_
      refine xs_lconst (v := 0) dB_cross_40 (by decide) ?_
      refine xs_ldc2 dB_cross_41 kcB_256 ?_
      refine xs_cS_i (As := [_, _, _]) dB_cross_44 lkB_169 (k_B_inI (lo:=0) (hi:=3) (by decide) (by decide)) rfl rfl (Nat.le_of_ble_eq_true rfl) ⟨by decide, by decide⟩ ⟨by omega, by omega⟩ ?_
      refine xs_ifb_ne dB_cross_47 (fun hb => ?_) (fun hb => two H2 _ (by rw [hR0, if_pos (Or.inr (of_decide_eq_false hb))]) h hc fH)
      have hr2 := of_decide_eq_true hb
      have hR : R = (0, crv (zDirs S.2.1) (nz (cr d e)) u.toInt, S) := by rw [hR0, if_neg (fun q => q.elim hne2 (fun q => q hr2))]
      clear two hR0
      obtain ⟨w, huw, hut, _, hw3⟩ := toN hr2 (by decide)
      obtain ⟨i, hxi, hxt, _, hci⟩ := fAt_int hx
      obtain ⟨j, hyj, hyt, _, hdj⟩ := fAt_int hy
      rw [hut] at hR
      rw [hxt, hyt] at hne2
      clear hr2 hx hy hut hxt hyt hne hb
      subst huw
      subst hxi
      subst hyj
      refine xs_iconst (v := 0) dB_cross_54 (by decide) ?_
      refine xs_cV_i (As := [_]) dB_cross_55 lkB_176 (by repeat (first | exact va_up_self _ _ _ | assumption | refine (va_up_ne _ _ (by omega)).trans ?_)) (k_B_refused (w:=0) (by decide) hc) rfl rfl (Nat.le_of_ble_eq_true rfl) ⟨by decide, by decide⟩ ⟨by omega, by omega⟩ ?_
      rw [bI_f (by decide)]
      refine xs_if_eq dB_cross_58 (fun _ => ?_) (fun q => absurd rfl q)
      obtain ⟨H1, hH1⟩ : ∃ H1, H1 = va_up H2 b (mCl b (nI 0) (nI S.1.length) sp gd (nI S.2.2.1.length) zs ft) := ⟨_, rfl⟩
      have h1 : mdo H1 b (nI 0) S := hH1 ▸ mdx_rf h
      have f1 : xfr b (b + 17) G H1 := xfr_tr fH (hH1 ▸ rf_fr)
      have c1 : H1 b = mCl b (nI 0) (nI S.1.length) sp gd (nI S.2.2.1.length) zs ft := by rw [hH1, va_up_self]
      have e1 : ∀ k, k ≠ b → H1 k = H2 k := fun k hk => by rw [hH1, va_up_ne _ _ hk]
      refine xs_at (H := H1) hH1.symm ?_
      clear hH1
      obtain ⟨⟨th, t8⟩, ⟨wy, t9, hwy⟩, ⟨ax, mn, wh, w10, w11, w12, w13, w14, w15, hZ⟩, hfin⟩ := mlz_fr p3 (fun k _ _ => e1 k (by omega))
      have hset := zSet_of hfin
      have hok := zDirs_ok hV
      have hdok := ax_ok hV hset hci
      have heok := ax_ok hV hset hdj
      have hcb := cr_bd2 hdok.1 heok.1
      have hcne : cr d e ≠ (0, 0, 0) := fun q => by
        have h1 := nz_col hdok.2.1 heok.2.1 q
        rw [hdok.2.2, heok.2.2] at h1
        subst h1
        have := injL_of hset.1 i j d hci hdj
        omega
      obtain ⟨⟨v0, v1, v2⟩, y0, y1, y2⟩ := ax_get w13 hci hZ
      obtain ⟨⟨v3, v4, v5⟩, y3, y4, y5⟩ := ax_get w13 hdj hZ
      have rH1 : H1 (b + 3) = oI 70 f := by rw [e1 _ (by omega)]; exact rH2
      refine xs_aload_n dB_cross_63 rfl ?_
      refine xs_aload_n dB_cross_64 rfl ?_
      refine xs_get dB_cross_65 flB_39 (by repeat (first | exact va_up_self _ _ _ | assumption | refine (va_up_ne _ _ (by omega)).trans ?_)) rfl ?_
      refine xs_iconst (v := 3) dB_cross_68 (by decide) ?_
      refine xs_iload_n dB_cross_69 rfl ?_
      refine xs_imul dB_cross_70 ?_
      refine xs_lald dB_cross_71 (by repeat (first | exact va_up_self _ _ _ | assumption | refine (va_up_ne _ _ (by omega)).trans ?_)) (by assumption) ?_
      refine xs_aload_n dB_cross_72 rfl ?_
      refine xs_get dB_cross_73 flB_39 (by repeat (first | exact va_up_self _ _ _ | assumption | refine (va_up_ne _ _ (by omega)).trans ?_)) rfl ?_
      refine xs_iconst (v := 3) dB_cross_76 (by decide) ?_
      refine xs_iload_n dB_cross_77 rfl ?_
      refine xs_imul dB_cross_78 ?_
      refine xs_iconst (v := 1) dB_cross_79 (by decide) ?_
      refine xs_iadd dB_cross_80 ?_
      refine xs_lald dB_cross_81 (by repeat (first | exact va_up_self _ _ _ | assumption | refine (va_up_ne _ _ (by omega)).trans ?_)) (by assumption) ?_
      refine xs_aload_n dB_cross_82 rfl ?_
      refine xs_get dB_cross_83 flB_39 (by repeat (first | exact va_up_self _ _ _ | assumption | refine (va_up_ne _ _ (by omega)).trans ?_)) rfl ?_
      refine xs_iconst (v := 3) dB_cross_86 (by decide) ?_
      refine xs_iload_n dB_cross_87 rfl ?_
      refine xs_imul dB_cross_88 ?_
      refine xs_iconst (v := 2) dB_cross_89 (by decide) ?_
      refine xs_iadd dB_cross_90 ?_
      refine xs_lald dB_cross_91 (by repeat (first | exact va_up_self _ _ _ | assumption | refine (va_up_ne _ _ (by omega)).trans ?_)) (by assumption) ?_
      refine xs_aload_n dB_cross_92 rfl ?_
      refine xs_get dB_cross_93 flB_39 (by repeat (first | exact va_up_self _ _ _ | assumption | refine (va_up_ne _ _ (by omega)).trans ?_)) rfl ?_
      refine xs_iconst (v := 3) dB_cross_96 (by decide) ?_
      refine xs_iload_n dB_cross_97 rfl ?_
      refine xs_imul dB_cross_98 ?_
      refine xs_lald dB_cross_99 (by repeat (first | exact va_up_self _ _ _ | assumption | refine (va_up_ne _ _ (by omega)).trans ?_)) (by assumption) ?_
      refine xs_aload_n dB_cross_100 rfl ?_
      refine xs_get dB_cross_101 flB_39 (by repeat (first | exact va_up_self _ _ _ | assumption | refine (va_up_ne _ _ (by omega)).trans ?_)) rfl ?_
      refine xs_iconst (v := 3) dB_cross_104 (by decide) ?_
      refine xs_iload_n dB_cross_105 rfl ?_
      refine xs_imul dB_cross_106 ?_
      refine xs_iconst (v := 1) dB_cross_107 (by decide) ?_
      refine xs_iadd dB_cross_108 ?_
      refine xs_lald dB_cross_109 (by repeat (first | exact va_up_self _ _ _ | assumption | refine (va_up_ne _ _ (by omega)).trans ?_)) (by assumption) ?_
      refine xs_aload_n dB_cross_110 rfl ?_
      refine xs_get dB_cross_111 flB_39 (by repeat (first | exact va_up_self _ _ _ | assumption | refine (va_up_ne _ _ (by omega)).trans ?_)) rfl ?_
      refine xs_iconst (v := 3) dB_cross_114 (by decide) ?_
      refine xs_iload_n dB_cross_115 rfl ?_
      refine xs_imul dB_cross_116 ?_
      refine xs_iconst (v := 2) dB_cross_117 (by decide) ?_
      refine xs_iadd dB_cross_118 ?_
      refine xs_lald dB_cross_119 (by repeat (first | exact va_up_self _ _ _ | assumption | refine (va_up_ne _ _ (by omega)).trans ?_)) (by assumption) ?_
      rw [y0, y1, y2, y3, y4, y5]
      refine xs_cV_vx (As := [_, _, _, _, _, _]) dB_cross_120 lkB_98 (by repeat (first | exact va_up_self _ _ _ | assumption | refine (va_up_ne _ _ (by omega)).trans ?_)) (k_B_crossOf (p:=d) (q:=e) (bd_mono hcb (by decide)) c1 t8) rfl rfl (Nat.le_of_ble_eq_true rfl) ⟨by decide, by decide⟩ ⟨by omega, by omega⟩ ?_
      intro H3 ⟨th3, hH3, ht3⟩
      obtain ⟨a0, a1, a2⟩ := id ht3
      have cc3 : H3 b = mCl b (nI 0) (nI S.1.length) sp gd (nI S.2.2.1.length) zs ft := by rw [hH3, va_up_ne _ _ (by omega)]; exact c1
      have t83 : H3 (b + 8) = oL 3 th3 := by rw [hH3, va_up_self]
      have t93 : H3 (b + 9) = oL 48 wy := by rw [hH3, va_up_ne _ _ (by omega)]; exact t9
      have rH3 : H3 (b + 3) = oI 70 f := by rw [hH3, va_up_ne _ _ (by omega)]; exact rH1
      have h3 : mdo H3 b (nI 0) S := mdx_w h1 ⟨_, t83⟩ ⟨wy, t93⟩ (fun k hk => by rw [hH3, va_up_ne _ _ (by omega)])
      have f3 : xfr b (b + 17) G H3 := fun k hk => by rw [hH3, va_up_ne _ _ (by omega)]; exact f1 k hk
      have i0 : vp_in (0 : Int32) 3 := in3 (j := 0) (by decide)
      have i1 : vp_in (1 : Int32) 3 := in3 (j := 1) (by decide)
      have i2 : vp_in (2 : Int32) 3 := in3 (j := 2) (by decide)
      have j0 : (0 : Int32).toNatClampNeg = 0 := by decide
      have j1 : (1 : Int32).toNatClampNeg = 1 := by decide
      have j2 : (2 : Int32).toNatClampNeg = 2 := by decide
      have hcs : w = 0 ∨ w = 1 ∨ w = 2 ∨ w = 3 := by omega
      have small : ∀ k : Nat, k < 3 → R = (0, c3 (nz (cr d e)) k, S) → xS mB_cross n 0 0 (bPostL n b G R) xNo 128 [(4, .int 1), (0, .ref b), (1, .int (nI i)), (2, .int (nI j)), (3, .int (nI k))] [] n H3 0 0 := by
        intro k hk hR
        have vk := in3 (j := k) (by omega)
        refine xs_aload_n dB_cross_128 rfl ?_
        refine xs_get dB_cross_129 flB_32 (by repeat (first | exact va_up_self _ _ _ | assumption | refine (va_up_ne _ _ (by omega)).trans ?_)) rfl ?_
        refine xs_iload_n dB_cross_132 rfl ?_
        refine xs_lald dB_cross_133 (by repeat (first | exact va_up_self _ _ _ | assumption | refine (va_up_ne _ _ (by omega)).trans ?_)) (by assumption) ?_
        rw [nI_clamp (by omega), t3P_iff.mp ht3 k hk]
        exact xs_lret dB_cross_134 rfl (by omega) (by omega) (bOkL hR rfl h3 f3)
      refine xs_iload_n dB_cross_123 rfl ?_
      refine xs_iconst (v := 3) dB_cross_124 (by decide) ?_
      rcases hcs with rfl | rfl | rfl | rfl
      · exact xs_icmp_ge dB_cross_125 (fun q => absurd q (by decide)) (fun _ => small 0 (by decide) hR)
      · exact xs_icmp_ge dB_cross_125 (fun q => absurd q (by decide)) (fun _ => small 1 (by decide) hR)
      · exact xs_icmp_ge dB_cross_125 (fun q => absurd q (by decide)) (fun _ => small 2 (by decide) hR)
      · refine xs_icmp_ge dB_cross_125 (fun _ => ?_) (fun q => absurd (by decide) q)
        clear small
        obtain ⟨c, hcc⟩ : ∃ c, c = nz (cr d e) := ⟨_, rfl⟩
        have hcb2 : bd 2500000000000 c := by rw [hcc]; exact bd_nz hcb
        have hc0 : c ≠ (0, 0, 0) := by rw [hcc]; exact nz_ne hcne
        have hg : g3 c = 1 := by rw [hcc]; exact g3_nz hcne
        rw [← hcc] at hR ht3 a0 a1 a2
        have hR4 : ∀ o, ixP (zDirs S.2.1) c = o → R = (0, nO o, S) := fun o ho => by rw [hR, ← ho]; rfl
        have hdl : (zDirs S.2.1).length = S.2.1.1.length := List.length_map _
        have hL := hok.1
        have z0 : vp_in (0 : Int32) 70 := fin70 (j := 0) (by decide)
        obtain ⟨D, hD⟩ : ∃ D, D = zDirs S.2.1 := ⟨_, rfl⟩
        rw [← hD] at hR4 hdl hok hL hwy
        clear hR hcc ht3 hcb hcne hdok heok hset hfin hD
        have loop : ∀ (m p : Nat) (H : xG), D.length - p < m → p ≤ D.length → (∀ (j : Nat) (x : P3), j < p → D[j]? = some x → ¬ par x c) → mdo H b (nI 0) S → xfr b (b + 17) G H → H b = mCl b (nI 0) (nI S.1.length) sp gd (nI S.2.2.1.length) zs ft → (∃ th, H (b + 8) = oL 3 th) → H (b + 9) = oL 48 wy → H (b + 3) = oI 70 f →
            xS mB_cross n 0 0 (bPostL n b G R) xNo 162 [(0, .ref b), (5, .long (iL c.1)), (7, .long (iL c.2.1)), (9, .long (iL c.2.2)), (11, .int (nI p))] [] n H 0 0 := by
          intro m
          induction m with
          | zero => intro p H q; exact absurd q (by omega)
          | succ m ih =>
            intro p H l1 l2 hno hm fm cm ⟨th, tm⟩ wm rm
            refine xs_iload dB_cross_162 rfl ?_
            refine xs_aload_n dB_cross_164 rfl ?_
            refine xs_get dB_cross_165 flB_16 (by repeat (first | exact va_up_self _ _ _ | assumption | refine (va_up_ne _ _ (by omega)).trans ?_)) rfl ?_
            refine xs_iconst (v := 0) dB_cross_168 (by decide) ?_
            refine xs_iald dB_cross_169 (by repeat (first | exact va_up_self _ _ _ | assumption | refine (va_up_ne _ _ (by omega)).trans ?_)) (by assumption) ?_
            rw [j0, hf.1.1, ← hdl]
            refine xs_icmp_ge dB_cross_170 (fun hg => ?_) (fun hg => ?_)
            · have hp : p = D.length := by
                have := (nI_leI (by omega) (by omega)).mp hg
                omega
              refine xs_ldc2 dB_cross_231 kcB_258 ?_
              exact xs_lret dB_cross_234 rfl (by omega) (by omega) (bOkL (hR4 none (fpl_ixP (fun j x hj => hno j x (by rw [hp]; exact (List.getElem?_eq_some_iff.mp hj).1) hj))) rfl hm fm)
            · have hp : p < D.length := nI_lt_of (by omega) (by omega) hg
              obtain ⟨x, hx⟩ : ∃ x, D[p]? = some x := ⟨_, List.getElem?_eq_getElem hp⟩
              obtain ⟨⟨v0, v1, v2⟩, y0, y1, y2⟩ := wy_get hwy hx hL
              have hxk := hok.2 x (List.mem_of_getElem? hx)
              have hb3 := cr_bd3 hcb2 hxk.1
              have hpar : nz (cr c x) = (0, 0, 0) ↔ par x c := by rw [nz_0, par_cr hc0 hxk.2.1 (by assumption) hxk.2.2, par_sym]
              refine xs_aload_n dB_cross_173 rfl ?_
              refine xs_lload dB_cross_174 rfl ?_
              refine xs_lload dB_cross_176 rfl ?_
              refine xs_lload dB_cross_178 rfl ?_
              refine xs_aload_n dB_cross_180 rfl ?_
              refine xs_get dB_cross_181 flB_36 (by repeat (first | exact va_up_self _ _ _ | assumption | refine (va_up_ne _ _ (by omega)).trans ?_)) rfl ?_
              refine xs_iconst (v := 3) dB_cross_184 (by decide) ?_
              refine xs_iload dB_cross_185 rfl ?_
              refine xs_imul dB_cross_187 ?_
              refine xs_lald dB_cross_188 (by repeat (first | exact va_up_self _ _ _ | assumption | refine (va_up_ne _ _ (by omega)).trans ?_)) (by assumption) ?_
              refine xs_aload_n dB_cross_189 rfl ?_
              refine xs_get dB_cross_190 flB_36 (by repeat (first | exact va_up_self _ _ _ | assumption | refine (va_up_ne _ _ (by omega)).trans ?_)) rfl ?_
              refine xs_iconst (v := 3) dB_cross_193 (by decide) ?_
              refine xs_iload dB_cross_194 rfl ?_
              refine xs_imul dB_cross_196 ?_
              refine xs_iconst (v := 1) dB_cross_197 (by decide) ?_
              refine xs_iadd dB_cross_198 ?_
              refine xs_lald dB_cross_199 (by repeat (first | exact va_up_self _ _ _ | assumption | refine (va_up_ne _ _ (by omega)).trans ?_)) (by assumption) ?_
              refine xs_aload_n dB_cross_200 rfl ?_
              refine xs_get dB_cross_201 flB_36 (by repeat (first | exact va_up_self _ _ _ | assumption | refine (va_up_ne _ _ (by omega)).trans ?_)) rfl ?_
              refine xs_iconst (v := 3) dB_cross_204 (by decide) ?_
              refine xs_iload dB_cross_205 rfl ?_
              refine xs_imul dB_cross_207 ?_
              refine xs_iconst (v := 2) dB_cross_208 (by decide) ?_
              refine xs_iadd dB_cross_209 ?_
              refine xs_lald dB_cross_210 (by repeat (first | exact va_up_self _ _ _ | assumption | refine (va_up_ne _ _ (by omega)).trans ?_)) (by assumption) ?_
              rw [y0, y1, y2]
              refine xs_cV_vx (As := [_, _, _, _, _, _]) dB_cross_211 lkB_98 (by repeat (first | exact va_up_self _ _ _ | assumption | refine (va_up_ne _ _ (by omega)).trans ?_)) (k_B_crossOfW (p:=c) (q:=x) hb3 cm tm) rfl rfl (Nat.le_of_ble_eq_true rfl) ⟨by decide, by decide⟩ ⟨by omega, by omega⟩ ?_
              intro H4 ⟨th4, hH4, ht4⟩
              have c4 : H4 b = mCl b (nI 0) (nI S.1.length) sp gd (nI S.2.2.1.length) zs ft := by rw [hH4, va_up_ne _ _ (by omega)]; exact cm
              have t84 : H4 (b + 8) = oL 3 th4 := by rw [hH4, va_up_self]
              have t94 : H4 (b + 9) = oL 48 wy := by rw [hH4, va_up_ne _ _ (by omega)]; exact wm
              have r4 : H4 (b + 3) = oI 70 f := by rw [hH4, va_up_ne _ _ (by omega)]; exact rm
              have h4 : mdo H4 b (nI 0) S := mdx_w hm ⟨_, t84⟩ ⟨wy, t94⟩ (fun k hk => by rw [hH4, va_up_ne _ _ (by omega)])
              have f4 : xfr b (b + 17) G H4 := fun k hk => by rw [hH4, va_up_ne _ _ (by omega)]; exact fm k hk
              refine xs_aload_n dB_cross_214 rfl ?_
              refine xs_cV_i (As := []) dB_cross_215 lkB_125 (by repeat (first | exact va_up_self _ _ _ | assumption | refine (va_up_ne _ _ (by omega)).trans ?_)) (k_B_isNothingW (bd_nz hb3) c4 t84 ht4) rfl rfl (Nat.le_of_ble_eq_true rfl) ⟨by decide, by decide⟩ ⟨by omega, by omega⟩ ?_
              refine xs_ifb_eq dB_cross_218 (fun hb => ?_) (fun hb => ?_)
              · have hnp : ¬ par x c := fun e => of_decide_eq_false hb (hpar.mpr e)
                refine xs_iinc (L2 := [(11, _), (0, _), (5, _), (7, _), (9, _)]) dB_cross_225 rfl rfl (by decide) rfl ?_
                refine xs_goto dB_cross_228 ?_
                refine xs_pick (L2 := [(0, _), (5, _), (7, _), (9, _), (11, _)]) [1, 2, 3, 4, 0] rfl ?_
                rw [xii]
                refine ih (p + 1) H4 (by omega) (by omega) (fun j y hj hjy => ?_) h4 f4 c4 ⟨_, t84⟩ t94 r4
                by_cases hjp : j = p
                · subst hjp
                  cases hx.symm.trans hjy
                  exact hnp
                · exact hno j y (by omega) hjy
              · have hp2 : par x c := hpar.mp (of_decide_eq_true hb)
                refine xs_iload dB_cross_221 rfl ?_
                refine xs_i2l dB_cross_223 ?_
                rw [iI_nat, iI_l (by omega)]
                exact xs_lret dB_cross_224 rfl (by omega) (by omega) (bOkL (hR4 (some p) (fpl_ixP ⟨⟨x, hx, hp2⟩, hno⟩)) rfl h4 f4)
        refine xs_aload_n dB_cross_135 rfl ?_
        refine xs_get dB_cross_136 flB_32 (by repeat (first | exact va_up_self _ _ _ | assumption | refine (va_up_ne _ _ (by omega)).trans ?_)) rfl ?_
        refine xs_iconst (v := 0) dB_cross_139 (by decide) ?_
        refine xs_lald dB_cross_140 (by repeat (first | exact va_up_self _ _ _ | assumption | refine (va_up_ne _ _ (by omega)).trans ?_)) (by assumption) ?_
        refine xs_lstore (L2 := [(5, _), (4, _), (0, _), (1, _), (2, _), (3, _)]) dB_cross_141 (by decide) rfl ?_
        refine xs_aload_n dB_cross_143 rfl ?_
        refine xs_get dB_cross_144 flB_32 (by repeat (first | exact va_up_self _ _ _ | assumption | refine (va_up_ne _ _ (by omega)).trans ?_)) rfl ?_
        refine xs_iconst (v := 1) dB_cross_147 (by decide) ?_
        refine xs_lald dB_cross_148 (by repeat (first | exact va_up_self _ _ _ | assumption | refine (va_up_ne _ _ (by omega)).trans ?_)) (by assumption) ?_
        refine xs_lstore (L2 := [(7, _), (5, _), (4, _), (0, _), (1, _), (2, _), (3, _)]) dB_cross_149 (by decide) rfl ?_
        refine xs_aload_n dB_cross_151 rfl ?_
        refine xs_get dB_cross_152 flB_32 (by repeat (first | exact va_up_self _ _ _ | assumption | refine (va_up_ne _ _ (by omega)).trans ?_)) rfl ?_
        refine xs_iconst (v := 2) dB_cross_155 (by decide) ?_
        refine xs_lald dB_cross_156 (by repeat (first | exact va_up_self _ _ _ | assumption | refine (va_up_ne _ _ (by omega)).trans ?_)) (by assumption) ?_
        refine xs_lstore (L2 := [(9, _), (7, _), (5, _), (4, _), (0, _), (1, _), (2, _), (3, _)]) dB_cross_157 (by decide) rfl ?_
        refine xs_iconst (v := 0) dB_cross_159 (by decide) ?_
        refine xs_istore (L2 := [(11, _), (9, _), (7, _), (5, _), (4, _), (0, _), (1, _), (2, _), (3, _)]) dB_cross_160 (by decide) rfl ?_
        rw [j0, j1, j2, a0, a1, a2]
        refine xs_pick (L2 := [(0, _), (5, _), (7, _), (9, _), (11, _)]) [5, 3, 2, 1, 0] rfl ?_
        exact loop (D.length + 1) 0 H3 (by omega) (by omega) (fun j x hj => absurd hj (by omega)) h3 f3 cc3 ⟨_, t83⟩ t93 rH3
end N8
