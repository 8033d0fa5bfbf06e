theorem pow5 (j : Nat) : 10 ^ (5 * j) = 100000 ^ j := by
  have e : (10 : Nat) ^ 5 = 100000 := by decide
  rw [Nat.pow_mul, e]
section P7
variable {n b : Nat} {G : xG} {rf : Int32} {S : zS}
theorem k_B_inL {s : Int64} {lo hi : Int} (hl : lo.natAbs < 4611686018427387904) (hh : hi.natAbs < 4611686018427387904) : xK mB_in [.long s, .long (iL lo), .long (iL hi)] n G 0 0 (qI n G (bI (decide (lo ≤ s.toInt ∧ s.toInt ≤ hi)))) xNo := by
  have l1 : s < iL lo ↔ s.toInt < lo := by rw [Int64.lt_iff_toInt_lt, iL_T hl]
  have l2 : iL hi < s ↔ hi < s.toInt := by rw [Int64.lt_iff_toInt_lt, iL_T hh]
  refine xK_of2 (L0 := [(0, _), (2, _), (4, _)]) (by decide +kernel) rfl (Nat.le_of_ble_eq_true rfl) rfl ?_
  refine xs_lload_n dB_in_0 rfl ?_
  refine xs_lload_n dB_in_1 rfl ?_
  refine xs_lc_lt dB_in_2 dB_in_3 (fun q => ?_) (fun q => ?_)
  · have h9 := l1.mp q
    refine xs_iconst (v := 0) dB_in_17 (by decide) ?_
    exact xs_iret dB_in_18 rfl rfl (by omega) (by omega) ⟨by rw [bI_f (by omega)], rfl, rfl⟩
  have h8 : lo ≤ s.toInt := by
    by_cases e : lo ≤ s.toInt
    · exact e
    · exact absurd (l1.mpr (by omega)) q
  refine xs_lload_n dB_in_6 rfl ?_
  refine xs_lload dB_in_7 rfl ?_
  refine xs_lc_gt dB_in_9 dB_in_10 (fun q => ?_) (fun q => ?_)
  · have h9 := l2.mp q
    refine xs_iconst (v := 0) dB_in_17 (by decide) ?_
    exact xs_iret dB_in_18 rfl rfl (by omega) (by omega) ⟨by rw [bI_f (by omega)], rfl, rfl⟩
  have h7 : s.toInt ≤ hi := by
    by_cases e : s.toInt ≤ hi
    · exact e
    · exact absurd (l2.mpr (by omega)) q
  refine xs_iconst (v := 1) dB_in_13 (by decide) ?_
  refine xs_goto dB_in_14 ?_
  exact xs_iret dB_in_18 rfl rfl (by omega) (by omega) ⟨by rw [bI_t ⟨h8, h7⟩], rfl, rfl⟩
theorem k_B_runScript {x : Int32} {s : Int64} (h : mdo G b rf S) : xK mB_runScript [.ref b, .int x, .long s] n G 0 0 (bPost n b G (rScript S x.toInt s.toInt)) xNo := by
  obtain ⟨⟨sp, gd, zs, ft, hc⟩, k1, k2, ⟨f, hr, hf, hV⟩, k4, k5, k6, k7, k8⟩ := id h
  obtain ⟨R, hRR⟩ : ∃ R, R = rScript S x.toInt s.toInt := ⟨_, rfl⟩
  rw [← hRR]
  refine xK_of2 (L0 := [(0, _), (1, _), (2, _)]) (by decide +kernel) rfl (Nat.le_of_ble_eq_true rfl) rfl ?_
  refine xs_iload_n dB_runScript_0 rfl ?_
  refine xs_i2l dB_runScript_1 ?_
  refine xs_lconst (v := 1) dB_runScript_2 (by decide) ?_
  refine xs_ldc2 dB_runScript_3 kcB_256 ?_
  refine xs_cS_i (As := [_, _, _]) dB_runScript_6 lkB_169 (k_B_inI (lo:=1) (hi:=3) (by decide) (by decide)) rfl rfl (Nat.le_of_ble_eq_true rfl) ⟨by decide, by decide⟩ ⟨by omega, by omega⟩ ?_
  refine xs_istore (L2 := [(4, _), (0, _), (1, _), (2, _)]) dB_runScript_9 (by decide) rfl ?_
  refine xs_aload_n dB_runScript_11 rfl ?_
  refine xs_iload dB_runScript_12 rfl ?_
  refine xs_ifb_eq dB_runScript_14 (fun hb => ?_) (fun hb => ?_)
  · have hR : R = (1, 0, S) := by rw [hRR, rScript, if_neg (fun q => of_decide_eq_false hb q.1)]
    rw [hb]
    refine xs_iconst (v := 1) dB_runScript_46 (by decide) ?_
    refine xs_cV_i (As := [_]) dB_runScript_47 lkB_176 (by repeat (first | exact va_up_self _ _ _ | assumption | refine (va_up_ne _ _ (by omega)).trans ?_)) (k_B_refused (w:=1) (by decide) hc) rfl rfl (Nat.le_of_ble_eq_true rfl) ⟨by decide, by decide⟩ ⟨by omega, by omega⟩ ?_
    rw [bI_t (by decide)]
    refine xs_if_eq dB_runScript_50 (fun q => absurd q (by decide)) (fun _ => ?_)
    refine xs_iconst (v := 0) dB_runScript_53 (by decide) ?_
    exact xs_iret dB_runScript_54 rfl rfl (by omega) (by omega) (bNo hR (by decide) (mdx_rf h) rf_fr)
  have hr2 := of_decide_eq_true hb
  rw [hb]
  clear hb
  obtain ⟨N, hN, hN2, hN3, hN4⟩ := toN hr2 (by decide)
  have hR1 : ¬ (0 ≤ s.toInt ∧ s.toInt < ((100000 ^ N : Nat) : Int)) → R = (1, 0, S) := fun q => by rw [hRR, rScript, if_neg (fun w => q (by have := w.2; rw [hN2, Int.toNat_natCast] at this; exact this))]
  have hR2 : (0 ≤ s.toInt ∧ s.toInt < ((100000 ^ N : Nat) : Int)) → R = (0, sRun s.toInt.toNat N N 0 S.2.1, S) := fun q => by rw [hRR, rScript, if_pos ⟨hr2, by rw [hN2, Int.toNat_natCast]; exact q⟩, hN2, Int.toNat_natCast]
  clear hRR hN2 hr2
  subst hN
  have hNle : N ≤ 3 := by omega
  have p1 := pow5_le (j := N) hNle
  have p2 := pow5_pos N
  have hP5 := pow5 N
  obtain ⟨P, hP⟩ : ∃ P, P = 100000 ^ N := ⟨_, rfl⟩
  rw [← hP] at hR1 hR2 p1 p2 hP5
  refine xs_lload_n dB_runScript_17 rfl ?_
  refine xs_lconst (v := 0) dB_runScript_18 (by decide) ?_
  refine xs_iload dB_runScript_19 rfl ?_
  refine xs_ifb_eq dB_runScript_21 (fun q => Bool.noConfusion q) (fun _ => ?_)
  refine xs_iconst (v := 5) dB_runScript_24 (by decide) ?_
  refine xs_iload_n dB_runScript_25 rfl ?_
  refine xs_imul dB_runScript_26 ?_
  rw [show (5 : Int32) * nI N = nI (5 * N) from (Int32.ofNat_mul 5 N).symm]
  refine xs_goto dB_runScript_27 ?_
  refine xs_cS_l (As := [_]) dB_runScript_31 lkB_339 (k_B_tenTo (by omega)) rfl rfl (Nat.le_of_ble_eq_true rfl) ⟨by decide, by decide⟩ ⟨by omega, by omega⟩ ?_
  rw [hP5]
  refine xs_lconst (v := 1) dB_runScript_34 (by decide) ?_
  refine xs_lsub dB_runScript_35 ?_
  rw [show lN P - 1 = iL ((P : Int) - 1) from by rw [iL_nat, show (1 : Int64) = iL 1 from rfl, iL_sub]]
  refine xs_cS_i (As := [_, _, _]) dB_runScript_36 lkB_169 (k_B_inL (lo:=0) (hi:=(P : Int) - 1) (by decide) (by omega)) rfl rfl (Nat.le_of_ble_eq_true rfl) ⟨by decide, by decide⟩ ⟨by omega, by omega⟩ ?_
  refine xs_ifb_eq dB_runScript_39 (fun hb => ?_) (fun hb => ?_)
  · have hb2 := of_decide_eq_false hb
    have hR := hR1 (fun w => hb2 ⟨w.1, by omega⟩)
    refine xs_iconst (v := 1) dB_runScript_46 (by decide) ?_
    refine xs_cV_i (As := [_]) dB_runScript_47 lkB_176 (by repeat (first | exact va_up_self _ _ _ | assumption | refine (va_up_ne _ _ (by omega)).trans ?_)) (k_B_refused (w:=1) (by decide) hc) rfl rfl (Nat.le_of_ble_eq_true rfl) ⟨by decide, by decide⟩ ⟨by omega, by omega⟩ ?_
    rw [bI_t (by decide)]
    refine xs_if_eq dB_runScript_50 (fun q => absurd q (by decide)) (fun _ => ?_)
    refine xs_iconst (v := 0) dB_runScript_53 (by decide) ?_
    exact xs_iret dB_runScript_54 rfl rfl (by omega) (by omega) (bNo hR (by decide) (mdx_rf h) rf_fr)
  have hb2 := of_decide_eq_true hb
  have hR := hR2 ⟨hb2.1, by omega⟩
  obtain ⟨sn, hsn⟩ : ∃ sn : Nat, s.toInt = (sn : Int) := ⟨s.toInt.toNat, by omega⟩
  rw [hsn, Int.toNat_natCast] at hR
  have hsP : sn < P := by omega
  have hs : s = lN sn := by rw [iL_nat, ← hsn]; exact (Int64.ofInt_toInt s).symm
  clear hb hb2 hR1 hR2 hsn hP5 hP
  subst hs
  refine xs_iconst (v := 0) dB_runScript_42 (by decide) ?_
  refine xs_goto dB_runScript_43 ?_
  refine xs_cV_i (As := [_]) dB_runScript_47 lkB_176 (by repeat (first | exact va_up_self _ _ _ | assumption | refine (va_up_ne _ _ (by omega)).trans ?_)) (k_B_refused (w:=0) (by decide) hc) rfl rfl (Nat.le_of_ble_eq_true rfl) ⟨by decide, by decide⟩ ⟨by omega, by omega⟩ ?_
  rw [bI_f (by decide)]
  refine xs_if_eq dB_runScript_50 (fun _ => ?_) (fun q => absurd rfl q)
  obtain ⟨H1, hH1⟩ : ∃ H1, H1 = va_up G b (mCl b (nI 0) (nI S.1.length) sp gd (nI S.2.2.1.length) zs ft) := ⟨_, rfl⟩
  have h1 : mdo H1 b (nI 0) S := hH1 ▸ mdx_rf h
  have f1 : xfr b (b + 17) G H1 := hH1 ▸ rf_fr
  have c1 : H1 b = mCl b (nI 0) (nI S.1.length) sp gd (nI S.2.2.1.length) zs ft := by rw [hH1, va_up_self]
  have e1 : ∀ k, k ≠ b → H1 k = G k := fun k hk => by rw [hH1, va_up_ne _ _ hk]
  refine xs_at (H := H1) hH1.symm ?_
  clear hH1
  refine xs_aload_n dB_runScript_55 rfl ?_
  refine xs_cV_vx (As := []) dB_runScript_56 lkB_282 (by repeat (first | exact va_up_self _ _ _ | assumption | refine (va_up_ne _ _ (by omega)).trans ?_)) (k_B_begin h1) rfl rfl (Nat.le_of_ble_eq_true rfl) ⟨by decide, by decide⟩ ⟨by omega, by omega⟩ ?_
  intro H2 ⟨h2, t2, f2⟩
  have loop : ∀ (m k : Nat) (H : xG) (W : zV), m + k = N → mdo H b (nI 0) S → mRw H (b + 4) W → xfr b (b + 17) G H → sRun sn N m k W = sRun sn N N 0 S.2.1 → xS mB_runScript n 0 0 (bPost n b G R) xNo 62 [(0, .ref b), (1, .int (nI N)), (2, .long (lN sn)), (4, .int (bI true)), (5, .int (nI k))] [] n H 0 0 := by
    intro m
    induction m with
    | zero =>
      intro k H W hmk hm hw fm hs
      refine xs_iload dB_runScript_62 rfl ?_
      refine xs_iload_n dB_runScript_64 rfl ?_
      refine xs_icmp_ge dB_runScript_65 (fun _ => ?_) (fun q => absurd (nI_le (show N ≤ k by omega) (by omega)) q)
      refine xs_ldc dB_runScript_102 kcB_109 ?_
      exact xs_iret dB_runScript_104 rfl rfl (by omega) (by omega) (bOk hR (by rw [← hs]; rfl) hm fm)
    | succ m ih =>
      intro k H W hmk hm hw fm hs
      obtain ⟨⟨sp, gd, zs, ft, hcH⟩, _⟩ := id hm
      have p3 := pow5_le (j := m) (by omega)
      have p4 := pow5_pos m
      have hP5 := pow5 m
      have ek : nI N - 1 - nI k = nI m := by
        rw [iI_nat, iI_nat, iI_nat, show (1 : Int32) = iI 1 from rfl, iI_sub, iI_sub]
        congr 1
        omega
      have eg : sn / 100000 ^ (N - 1 - k) % 100000 = sn / 100000 ^ m % 100000 := by rw [show N - 1 - k = m by omega]
      have hsr : sRun sn N (m + 1) k W = match sCmd W (sn / 100000 ^ (N - 1 - k) % 100000) with
        | none => (k : Int)
        | some W2 => sRun sn N m (k + 1) W2 := rfl
      rw [eg] at hsr
      obtain ⟨P2, hP2⟩ : ∃ P2, P2 = 100000 ^ m := ⟨_, rfl⟩
      rw [← hP2] at p3 p4 hP5 hsr
      clear eg hP2
      refine xs_iload dB_runScript_62 rfl ?_
      refine xs_iload_n dB_runScript_64 rfl ?_
      refine xs_icmp_ge dB_runScript_65 (fun q => absurd ((nI_leI (by omega) (by omega)).mp q) (by omega)) (fun _ => ?_)
      refine xs_aload_n dB_runScript_68 rfl ?_
      refine xs_lload_n dB_runScript_69 rfl ?_
      refine xs_iconst (v := 5) dB_runScript_70 (by decide) ?_
      refine xs_iload_n dB_runScript_71 rfl ?_
      refine xs_iconst (v := 1) dB_runScript_72 (by decide) ?_
      refine xs_isub dB_runScript_73 ?_
      refine xs_iload dB_runScript_74 rfl ?_
      refine xs_isub dB_runScript_76 ?_
      rw [ek]
      refine xs_imul dB_runScript_77 ?_
      rw [show (5 : Int32) * nI m = nI (5 * m) from (Int32.ofNat_mul 5 m).symm]
      refine xs_cS_l (As := [_]) dB_runScript_78 lkB_339 (k_B_tenTo (by omega)) rfl rfl (Nat.le_of_ble_eq_true rfl) ⟨by decide, by decide⟩ ⟨by omega, by omega⟩ ?_
      rw [hP5]
      have hP0 : ¬ lN P2 = 0 := fun q => by
        have q2 := congrArg Int64.toInt q
        rw [iL_nat, iL_T (by omega), show (0 : Int64).toInt = 0 from rfl] at q2
        omega
      refine xs_ldiv dB_runScript_81 hP0 ?_
      have hq1 : sn / P2 ≤ sn := Nat.div_le_self _ _
      rw [pk_lDiv (by omega) p4 (by omega)]
      refine xs_ldc2 dB_runScript_82 kcB_343 ?_
      refine xs_lrem dB_runScript_85 (by decide) ?_
      rw [show lN (sn / P2) - lN (sn / P2) / 100000 * 100000 = lN (sn / P2 % 100000) from pk_lRem (by omega) (by decide) (by decide)]
      refine xs_l2i dB_runScript_86 ?_
      rw [lN_i]
      have hg : sn / P2 % 100000 < 100000 := Nat.mod_lt _ (by decide)
      obtain ⟨gg, hgg⟩ : ∃ gg, gg = sn / P2 % 100000 := ⟨_, rfl⟩
      rw [← hgg] at hg hsr ⊢
      refine xs_cV_ix (As := [_]) dB_runScript_87 lkB_345 (by repeat (first | exact va_up_self _ _ _ | assumption | refine (va_up_ne _ _ (by omega)).trans ?_)) (k_B_does hg hm hw) rfl rfl (Nat.le_of_ble_eq_true rfl) ⟨by decide, by decide⟩ ⟨by omega, by omega⟩ ?_
      intro q H3 ⟨q1, q2, q3, q4⟩
      subst q1
      cases hcm : sCmd W gg with
      | none =>
        rw [hcm] at hsr
        refine xs_if_ne dB_runScript_90 (fun q => absurd rfl q) (fun _ => ?_)
        refine xs_iload dB_runScript_93 rfl ?_
        exact xs_iret dB_runScript_95 rfl rfl (by omega) (by omega) (bOk hR (by rw [← hs, hsr]; exact iI_nat _) q2 (xfr_tr fm q4))
      | some U =>
        rw [hcm] at hsr
        refine xs_if_ne dB_runScript_90 (fun _ => ?_) (fun q => absurd q (show ¬ bI true = 0 by decide))
        refine xs_iinc (L2 := [(5, _), (0, _), (1, _), (2, _), (4, _)]) dB_runScript_96 rfl rfl (by decide) rfl ?_
        refine xs_goto dB_runScript_99 ?_
        refine xs_pick (L2 := [(0, _), (1, _), (2, _), (4, _), (5, _)]) [1, 2, 3, 4, 0] rfl ?_
        rw [xii]
        exact ih (k + 1) H3 U (by omega) q2 (q3 U hcm) (xfr_tr fm q4) (by rw [← hs, hsr])
  refine xs_iconst (v := 0) dB_runScript_59 (by decide) ?_
  refine xs_istore (L2 := [(5, _), (4, _), (0, _), (1, _), (2, _)]) dB_runScript_60 (by decide) rfl ?_
  refine xs_pick (L2 := [(0, _), (1, _), (2, _), (4, _), (5, _)]) [2, 3, 4, 1, 0] rfl ?_
  exact loop N 0 H2 _ (by omega) h2 t2 (xfr_tr f1 (fun k hk => f2 k (by omega))) rfl
end P7
