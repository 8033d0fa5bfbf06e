section P8
variable {n b : Nat} {G : xG} {rf : Int32} {S : zS}
theorem k_B_sim0 {x y : Int64} {W : zV} {M i : Nat} {H : xG} (hM : M ≤ 99) (hi : i = M) (hm : mdo H b (nI 0) S) (hw : mRw H (b + 4) W) (fm : xfr b (b + 17) G H) (hs : W = simN M x S.2.1) : xS mB_simulate n 0 0 (bPost n b G (rSm S M x)) xNo 36 [(0, .ref b), (1, .long x), (3, .int (nI M)), (4, .long y), (6, .int (nI i))] [] n H 0 0 := by
  unfold rSm
  rw [← hs]
  clear hs
  obtain ⟨⟨sp, gd, zs, ft, hc⟩, k1, k2, k3, k4, k5, k6, k7, k8⟩ := id hm
  obtain ⟨f, hr, hf, hV⟩ := id hw
  have hL := hV.1
  have i0 : vp_in (0 : Int32) 70 := fin70 (j := 0) (by decide)
  have j0 : (0 : Int32).toNatClampNeg = 0 := by decide
  refine xs_iload dB_simulate_36 rfl ?_
  refine xs_iload_n dB_simulate_38 rfl ?_
  refine xs_icmp_ge dB_simulate_39 (fun _ => ?_) (fun q => absurd (nI_le (show M ≤ i by omega) (by omega)) q)
  refine xs_sipush (v := 1000) dB_simulate_139 (by decide) ?_
  refine xs_aload_n dB_simulate_142 rfl ?_
  refine xs_get dB_simulate_143 flB_19 (by repeat (first | exact va_up_self _ _ _ | assumption | refine (va_up_ne _ _ (by omega)).trans ?_)) rfl ?_
  refine xs_iconst (v := 0) dB_simulate_146 (by decide) ?_
  refine xs_iald dB_simulate_147 (by repeat (first | exact va_up_self _ _ _ | assumption | refine (va_up_ne _ _ (by omega)).trans ?_)) (by assumption) ?_
  rw [j0, hf.1.1]
  refine xs_imul dB_simulate_148 ?_
  refine xs_aload_n dB_simulate_149 rfl ?_
  refine xs_aload_n dB_simulate_150 rfl ?_
  refine xs_get dB_simulate_151 flB_19 (by repeat (first | exact va_up_self _ _ _ | assumption | refine (va_up_ne _ _ (by omega)).trans ?_)) rfl ?_
  refine xs_cV_ix (As := [_]) dB_simulate_154 lkB_223 (by repeat (first | exact va_up_self _ _ _ | assumption | refine (va_up_ne _ _ (by omega)).trans ?_)) (k_B_zonesOf hc k7 hr ⟨by omega, by omega⟩ hV hf) rfl rfl (Nat.le_of_ble_eq_true rfl) ⟨by decide, by decide⟩ ⟨by omega, by omega⟩ ?_
  intro q H2 ⟨q1, q2, q3, q4⟩
  subst q1
  have hv : (1000 : Int32) * nI W.1.length + nI (zl W).length = iI (1000 * (W.1.length : Int) + (zcn W : Int)) := by
    rw [show (1000 : Int32) = iI 1000 from rfl, iI_nat, iI_nat, iI_mul, iI_add, zcn_eq (zSet_of q3.2.2.2)]
  refine xs_iadd dB_simulate_157 ?_
  exact xs_iret dB_simulate_158 rfl rfl (by omega) (by omega) (bOk rfl hv (mdx_z hm ⟨_, _, _, _, q2⟩ (mwk_of q3) q4) (xfr_tr fm (mfr_x q4)))
theorem k_B_sim1 {x y : Int64} {W : zV} {M i : Nat} {H : xG} {Q : Option Value → Nat → xG → Prop} {X : String → Nat → xG → Prop} (hM : M ≤ 99) (hi : i < M) (hm : mdo H b (nI 0) S) (hw : mRw H (b + 4) W) (fm : xfr b (b + 17) G H)
    (K : ∀ H2, mdo H2 b (nI 0) S → mRw H2 (b + 4) (simR W (rnd (lcg y))) → xfr b (b + 17) G H2 → xS mB_simulate n 0 0 Q X 36 [(0, .ref b), (1, .long x), (3, .int (nI M)), (4, .long (lcg y)), (6, .int (nI (i + 1)))] [] n H2 0 0) : xS mB_simulate n 0 0 Q X 36 [(0, .ref b), (1, .long x), (3, .int (nI M)), (4, .long y), (6, .int (nI i))] [] n H 0 0 := by
  obtain ⟨l1, l2⟩ := lu33 (lcg y)
  obtain ⟨⟨th, h8⟩, _⟩ : mwk H b := by obtain ⟨_, _, _, _, _, _, _, k7, _⟩ := id hm; exact k7
  obtain ⟨f, hr, hf, hV⟩ := id hw
  have hL := hV.1
  have rb : b < b + 4 ∧ b + 4 < b + 8 := ⟨by omega, by omega⟩
  have i0 : vp_in (0 : Int32) 70 := fin70 (j := 0) (by decide)
  have j0 : (0 : Int32).toNatClampNeg = 0 := by decide
  obtain ⟨⟨sp, gd, zs, ft, hc⟩, _⟩ := id hm
  refine xs_iload dB_simulate_36 rfl ?_
  refine xs_iload_n dB_simulate_38 rfl ?_
  refine xs_icmp_ge dB_simulate_39 (fun q => absurd ((nI_leI (by omega) (by omega)).mp q) (by omega)) (fun _ => ?_)
  refine xs_lload dB_simulate_42 rfl ?_
  refine xs_ldc2 dB_simulate_44 kcB_348 ?_
  refine xs_lmul dB_simulate_47 ?_
  refine xs_ldc2 dB_simulate_48 kcB_350 ?_
  refine xs_ladd dB_simulate_51 ?_
  rw [← lcg_e]
  obtain ⟨Y, hY⟩ : ∃ Y, Y = lcg y := ⟨_, rfl⟩
  rw [← hY] at l1 l2 K ⊢
  clear hY
  refine xs_lstore (L2 := [(4, _), (0, _), (1, _), (3, _), (6, _)]) dB_simulate_52 (by decide) rfl ?_
  refine xs_lload dB_simulate_54 rfl ?_
  refine xs_bipush (v := 33) dB_simulate_56 (by decide) ?_
  refine xs_lushr dB_simulate_58 ?_
  refine xs_l2i dB_simulate_59 ?_
  rw [l1]
  obtain ⟨r, hrr⟩ : ∃ r, r = rnd Y := ⟨_, rfl⟩
  rw [← hrr] at l2 K ⊢
  clear l1 hrr
  have rest : ∀ (H' : xG) (W' : zV), mdo H' b (nI 0) S → mRw H' (b + 4) W' → xfr b (b + 17) G H' → W' = (if W.1.length = 16 then zDrop W (r / 8192 % 16) else W) → xS mB_simulate n 0 0 Q X 89 [(7, .int (nI r)), (4, .long Y), (0, .ref b), (1, .long x), (3, .int (nI M)), (6, .int (nI i))] [] n H' 0 0 := by
    intro H' W' hm hw fm hW
    have hs : simR W r = zPut W' (((r % 7 : Nat) : Int) - 3, ((r / 8 % 7 : Nat) : Int) - 3, ((r / 64 % 7 : Nat) : Int) - 3) ((r / 512 % 2 : Nat) : Int) := by rw [simR, ← hW]
    rw [hs] at K
    clear hs hW hr hf hV hL hc h8
    obtain ⟨⟨th, h8⟩, _⟩ : mwk H' b := by obtain ⟨_, _, _, _, _, _, _, k7, _⟩ := id hm; exact k7
    obtain ⟨f, hr, hf, hV⟩ := id hw
    obtain ⟨⟨sp, gd, zs, ft, hc⟩, _⟩ := id hm
    have hb : bd 10 (((r % 7 : Nat) : Int) - 3, ((r / 8 % 7 : Nat) : Int) - 3, ((r / 64 % 7 : Nat) : Int) - 3) := by
      refine ⟨?_, ?_, ?_⟩ <;> simp only <;> omega
    refine xs_aload_n dB_simulate_89 rfl ?_
    refine xs_aload_n dB_simulate_90 rfl ?_
    refine xs_get dB_simulate_91 flB_19 (by repeat (first | exact va_up_self _ _ _ | assumption | refine (va_up_ne _ _ (by omega)).trans ?_)) rfl ?_
    refine xs_iload dB_simulate_94 rfl ?_
    refine xs_bipush (v := 7) dB_simulate_96 (by decide) ?_
    refine xs_irem dB_simulate_98 (nI_ne (b:=7) (by decide) (by decide)) ?_
    refine xs_iconst (v := 3) dB_simulate_99 (by decide) ?_
    refine xs_isub dB_simulate_100 ?_
    refine xs_iload dB_simulate_101 rfl ?_
    refine xs_bipush (v := 8) dB_simulate_103 (by decide) ?_
    refine xs_idiv dB_simulate_105 (nI_ne (b:=8) (by decide) (by decide)) ?_
    refine xs_bipush (v := 7) dB_simulate_106 (by decide) ?_
    refine xs_irem dB_simulate_108 (nI_ne (b:=7) (by decide) (by decide)) ?_
    refine xs_iconst (v := 3) dB_simulate_109 (by decide) ?_
    refine xs_isub dB_simulate_110 ?_
    refine xs_iload dB_simulate_111 rfl ?_
    refine xs_bipush (v := 64) dB_simulate_113 (by decide) ?_
    refine xs_idiv dB_simulate_115 (nI_ne (b:=64) (by decide) (by decide)) ?_
    refine xs_bipush (v := 7) dB_simulate_116 (by decide) ?_
    refine xs_irem dB_simulate_118 (nI_ne (b:=7) (by decide) (by decide)) ?_
    refine xs_iconst (v := 3) dB_simulate_119 (by decide) ?_
    refine xs_isub dB_simulate_120 ?_
    refine xs_iload dB_simulate_121 rfl ?_
    refine xs_sipush (v := 512) dB_simulate_123 (by decide) ?_
    refine xs_idiv dB_simulate_126 (nI_ne (b:=512) (by decide) (by decide)) ?_
    refine xs_iconst (v := 2) dB_simulate_127 (by decide) ?_
    refine xs_irem dB_simulate_128 (nI_ne (b:=2) (by decide) (by decide)) ?_
    rw [show nI r - nI r / 7 * 7 = nI (r % 7) from nI_rem l2 (b := 7) (by decide) (by decide), show nI r / 8 = nI (r / 8) from nI_div l2 (b := 8) (by decide) (by decide), show nI (r / 8) - nI (r / 8) / 7 * 7 = nI (r / 8 % 7) from nI_rem (b := 7) (by omega) (by decide) (by decide), show nI r / 64 = nI (r / 64) from nI_div l2 (b := 64) (by decide) (by decide), show nI (r / 64) - nI (r / 64) / 7 * 7 = nI (r / 64 % 7) from nI_rem (b := 7) (by omega) (by decide) (by decide), show nI r / 512 = nI (r / 512) from nI_div l2 (b := 512) (by decide) (by decide), show nI (r / 512) - nI (r / 512) / 2 * 2 = nI (r / 512 % 2) from nI_rem (b := 2) (by omega) (by decide) (by decide), nI_m3, nI_m3, nI_m3, iI_nat (r / 512 % 2)]
    refine xs_cV_ix (As := [_, _, _, _, _]) dB_simulate_129 lkB_164 (by repeat (first | exact va_up_self _ _ _ | assumption | refine (va_up_ne _ _ (by omega)).trans ?_)) (k_B_adds hc h8 hr rb hV hf hb (by omega)) rfl rfl (Nat.le_of_ble_eq_true rfl) ⟨by decide, by decide⟩ ⟨by omega, by omega⟩ ?_
    intro q H2 ⟨q1, q2, ⟨f2, q3, q4⟩, q5, q6⟩
    refine xs_pop dB_simulate_132 rfl ?_
    refine xs_iinc (L2 := [(6, _), (7, _), (4, _), (0, _), (1, _), (3, _)]) dB_simulate_133 rfl rfl (by decide) rfl ?_
    refine xs_goto dB_simulate_136 ?_
    refine xs_pick (L2 := [(0, _), (1, _), (3, _), (4, _), (6, _)]) [3, 4, 5, 2, 0] rfl ?_
    rw [xii]
    exact K H2 (mdx_t hm q2 ⟨f2, q3⟩ q6) ⟨f2, q3, q4, q5⟩ (xfr_tr fm (rfr_x q6 rb))
  refine xs_istore (L2 := [(7, _), (4, _), (0, _), (1, _), (3, _), (6, _)]) dB_simulate_60 (by decide) rfl ?_
  refine xs_aload_n dB_simulate_62 rfl ?_
  refine xs_get dB_simulate_63 flB_19 (by repeat (first | exact va_up_self _ _ _ | assumption | refine (va_up_ne _ _ (by omega)).trans ?_)) rfl ?_
  refine xs_iconst (v := 0) dB_simulate_66 (by decide) ?_
  refine xs_iald dB_simulate_67 (by repeat (first | exact va_up_self _ _ _ | assumption | refine (va_up_ne _ _ (by omega)).trans ?_)) (by assumption) ?_
  rw [j0, hf.1.1]
  refine xs_bipush (v := 16) dB_simulate_68 (by decide) ?_
  refine xs_icmp_ne dB_simulate_70 (fun q => ?_) (fun q => ?_)
  · have h16 : ¬ W.1.length = 16 := fun e => q (by rw [e]; rfl)
    exact rest H W hm hw fm (by rw [if_neg h16])
  · have h16 : W.1.length = 16 := (nI_eq (b := 16) (by omega) (by decide)).mp q
    refine xs_aload_n dB_simulate_73 rfl ?_
    refine xs_get dB_simulate_74 flB_19 (by repeat (first | exact va_up_self _ _ _ | assumption | refine (va_up_ne _ _ (by omega)).trans ?_)) rfl ?_
    refine xs_iload dB_simulate_77 rfl ?_
    refine xs_sipush (v := 8192) dB_simulate_79 (by decide) ?_
    refine xs_idiv dB_simulate_82 (nI_ne (b:=8192) (by decide) (by decide)) ?_
    refine xs_bipush (v := 16) dB_simulate_83 (by decide) ?_
    refine xs_irem dB_simulate_85 (nI_ne (b:=16) (by decide) (by decide)) ?_
    rw [show nI r / 8192 = nI (r / 8192) from nI_div l2 (b := 8192) (by decide) (by decide), show nI (r / 8192) - nI (r / 8192) / 16 * 16 = nI (r / 8192 % 16) from nI_rem (b := 16) (by omega) (by decide) (by decide)]
    refine xs_cS_vx (As := [_, _]) dB_simulate_86 lkB_298 (k_B_drop hr hV hf (i:=r / 8192 % 16) (by omega)) rfl rfl (Nat.le_of_ble_eq_true rfl) ⟨by decide, by decide⟩ ⟨by omega, by omega⟩ ?_
    intro H' ⟨g2, p3, p4⟩
    have p6 : rfr b (b + 4) H H' := fun k h1 _ => by rw [p3, va_up_ne _ _ h1]
    have r4 : H' (b + 4) = oI 70 g2 := by rw [p3, va_up_self]
    exact rest H' _ (mdx_t hm ⟨th, by rw [p3, va_up_ne _ _ (by omega)]; exact h8⟩ ⟨g2, r4⟩ p6) ⟨g2, r4, p4, zOk_drop hV⟩ (xfr_tr fm (rfr_x p6 rb)) (by rw [if_pos h16])
theorem k_B_simulate {x : Int64} {m : Int32} (h : mdo G b rf S) : xK mB_simulate [.ref b, .long x, .int m] n G 0 0 (bPost n b G (rSim S x m.toInt)) xNo := by
  obtain ⟨⟨sp, gd, zs, ft, hc⟩, k1, k2, ⟨f, hr, hf, hV⟩, k4, k5, k6, k7, k8⟩ := id h
  refine xK_of2 (L0 := [(0, _), (1, _), (3, _)]) (by decide +kernel) rfl (Nat.le_of_ble_eq_true rfl) rfl ?_
  refine xs_aload_n dB_simulate_0 rfl ?_
  refine xs_iload_n dB_simulate_1 rfl ?_
  refine xs_i2l dB_simulate_2 ?_
  refine xs_lconst (v := 1) dB_simulate_3 (by decide) ?_
  refine xs_ldc2 dB_simulate_4 kcB_251 ?_
  refine xs_cS_i (As := [_, _, _]) dB_simulate_7 lkB_169 (k_B_inI (lo:=1) (hi:=99) (by decide) (by decide)) rfl rfl (Nat.le_of_ble_eq_true rfl) ⟨by decide, by decide⟩ ⟨by omega, by omega⟩ ?_
  refine xs_ifb_eq dB_simulate_10 (fun hb => ?_) (fun hb => ?_)
  · have hR : rSim S x m.toInt = (1, 0, S) := by rw [rSim, if_neg (of_decide_eq_false hb)]
    refine xs_iconst (v := 1) dB_simulate_17 (by decide) ?_
    refine xs_cV_i (As := [_]) dB_simulate_18 lkB_176 (by repeat (first | exact va_up_self _ _ _ | assumption | refine (va_up_ne _ _ (by omega)).trans ?_)) (k_B_refused (w:=1) (by decide) hc) rfl rfl (Nat.le_of_ble_eq_true rfl) ⟨by decide, by decide⟩ ⟨by omega, by omega⟩ ?_
    rw [bI_t (by decide)]
    refine xs_if_eq dB_simulate_21 (fun q => absurd q (by decide)) (fun _ => ?_)
    refine xs_iconst (v := 0) dB_simulate_24 (by decide) ?_
    exact xs_iret dB_simulate_25 rfl rfl (by omega) (by omega) (bNo hR (by decide) (mdx_rf h) rf_fr)
  have hr2 := of_decide_eq_true hb
  clear hb
  obtain ⟨M, hM, hM2, hM3, hM4⟩ := toN hr2 (by decide)
  have hR : rSim S x m.toInt = rSm S M x := by rw [rSim, if_pos hr2, hM2, Int.toNat_natCast]
  rw [hR]
  clear hR hM2 hr2
  subst hM
  refine xs_iconst (v := 0) dB_simulate_13 (by decide) ?_
  refine xs_goto dB_simulate_14 ?_
  refine xs_cV_i (As := [_]) dB_simulate_18 lkB_176 (by repeat (first | exact va_up_self _ _ _ | assumption | refine (va_up_ne _ _ (by omega)).trans ?_)) (k_B_refused (w:=0) (by decide) hc) rfl rfl (Nat.le_of_ble_eq_true rfl) ⟨by decide, by decide⟩ ⟨by omega, by omega⟩ ?_
  rw [bI_f (by decide)]
  refine xs_if_eq dB_simulate_21 (fun _ => ?_) (fun q => absurd rfl q)
  obtain ⟨H1, hH1⟩ : ∃ H1, H1 = va_up G b (mCl b (nI 0) (nI S.1.length) sp gd (nI S.2.2.1.length) zs ft) := ⟨_, rfl⟩
  have h1 : mdo H1 b (nI 0) S := hH1 ▸ mdx_rf h
  have f1 : xfr b (b + 17) G H1 := hH1 ▸ rf_fr
  have c1 : H1 b = mCl b (nI 0) (nI S.1.length) sp gd (nI S.2.2.1.length) zs ft := by rw [hH1, va_up_self]
  have e1 : ∀ k, k ≠ b → H1 k = G k := fun k hk => by rw [hH1, va_up_ne _ _ hk]
  refine xs_at (H := H1) hH1.symm ?_
  clear hH1
  refine xs_aload_n dB_simulate_26 rfl ?_
  refine xs_cV_vx (As := []) dB_simulate_27 lkB_282 (by repeat (first | exact va_up_self _ _ _ | assumption | refine (va_up_ne _ _ (by omega)).trans ?_)) (k_B_begin h1) rfl rfl (Nat.le_of_ble_eq_true rfl) ⟨by decide, by decide⟩ ⟨by omega, by omega⟩ ?_
  intro H2 ⟨h2, t2, f2⟩
  have loop : ∀ (k i : Nat) (y : Int64) (H : xG) (W : zV), i + k = M → mdo H b (nI 0) S → mRw H (b + 4) W → xfr b (b + 17) G H → simI (x, S.2.1) i = (y, W) → xS mB_simulate n 0 0 (bPost n b G (rSm S M x)) xNo 36 [(0, .ref b), (1, .long x), (3, .int (nI M)), (4, .long y), (6, .int (nI i))] [] n H 0 0 := by
    intro k
    induction k with
    | zero =>
      intro i y H W hik hm hw fm hs
      have hiM : i = M := by omega
      exact k_B_sim0 (by omega) hiM hm hw fm (by rw [simN, ← hiM, hs])
    | succ k ih =>
      intro i y H W hik hm hw fm hs
      have hs2 := simI_n hs
      exact k_B_sim1 (by omega) (by omega) hm hw fm (fun H2 q1 q2 q3 => ih (i + 1) (lcg y) H2 _ (by omega) q1 q2 q3 hs2)
  refine xs_lload_n dB_simulate_30 rfl ?_
  refine xs_lstore (L2 := [(4, _), (0, _), (1, _), (3, _)]) dB_simulate_31 (by decide) rfl ?_
  refine xs_iconst (v := 0) dB_simulate_33 (by decide) ?_
  refine xs_istore (L2 := [(6, _), (4, _), (0, _), (1, _), (3, _)]) dB_simulate_34 (by decide) rfl ?_
  refine xs_pick (L2 := [(0, _), (1, _), (3, _), (4, _), (6, _)]) [2, 3, 4, 1, 0] rfl ?_
  exact loop M 0 x H2 _ (by omega) h2 t2 (xfr_tr f1 (fun k hk => f2 k (by omega))) rfl
end P8
