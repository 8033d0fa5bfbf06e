theorem toN {x : Int32} {lo hi : Int} (h : lo ≤ x.toInt ∧ x.toInt ≤ hi) (h0 : 0 ≤ lo) : ∃ k : Nat, x = nI k ∧ x.toInt = (k : Int) ∧ lo ≤ k ∧ (k : Int) ≤ hi :=
  ⟨x.toInt.toNat, by rw [iI_nat, Int.toNat_of_nonneg (by omega), iT], by omega, by omega, by omega⟩
theorem lcg_e (y : Int64) : lcg y = y * (6364136223846793005 : Int64) + (1442695040888963407 : Int64) := rfl
section B0
variable {n a : Nat} {G : xG} {S : zS}
noncomputable abbrev rSm (S : zS) (M : Nat) (x : Int64) : zQ := (0, 1000 * ((simN M x S.2.1).1.length : Int) + (zcn (simN M x S.2.1) : Int), S)
theorem k_A_sim0 {x y : Int64} {Vt W : zV} {lis : Bool} {M i : Nat} {H : xG} (hM : M ≤ 99) (hi : i = M) (hx : fzx H a S.1 S.2.1 W S.2.2.1 S.2.2.2 lis) (hf : xfr a (a + 528) G H) (hs : W = simN M x S.2.1) : xS mA_simulate n 1 6 (aPost n a G (rSm S M x)) (aExc n a G (rSm S M x) eA eA) 24 [(0, .ref a), (1, .long x), (3, .int (nI M)), (4, .long y), (6, .int (nI i))] [] n H 0 0 := by
  unfold rSm
  rw [← hs]
  clear hs
  obtain ⟨hc, htx, hpr, htr, hhi, hsa, hiv, hzp, hzt, hfm, hgr, hsc, hs0, hs1⟩ := id hx
  have htc := cry_cell htr
  have hN := htr.1.1
  obtain ⟨fd, fa, pa, ms, cv, fcs, cnt, hzt⟩ := hzt
  have hzc := zlo_cell hzt
  refine xs_iload dA_simulate_24 rfl ?_
  refine xs_iload_n dA_simulate_26 rfl ?_
  refine xs_icmp_ge dA_simulate_27 (fun _ => ?_) (fun q => absurd (nI_le (show M ≤ i by omega) (by omega)) q)
  refine xs_aload_n dA_simulate_58 rfl ?_
  refine xs_get dA_simulate_59 flA_48 (by repeat (first | exact va_up_self _ _ _ | assumption | refine (va_up_ne _ _ (by omega)).trans ?_)) rfl ?_
  refine xs_aload_n dA_simulate_62 rfl ?_
  refine xs_get dA_simulate_63 flA_23 (by repeat (first | exact va_up_self _ _ _ | assumption | refine (va_up_ne _ _ (by omega)).trans ?_)) rfl ?_
  refine xs_cV_vx (As := [_]) dA_simulate_66 lkA_297 (by repeat (first | exact va_up_self _ _ _ | assumption | refine (va_up_ne _ _ (by omega)).trans ?_)) (k_Z_gather hzt htr (by omega)) rfl rfl (Nat.le_of_ble_eq_true rfl) ⟨by decide, by decide⟩ ⟨by omega, by omega⟩ ?_
  intro H2 ⟨⟨Z, R, q1, q2, q3⟩, q4⟩
  have hx2 : fzx H2 a S.1 S.2.1 W S.2.2.1 S.2.2.2 lis := fzx_ztr hx q4 (by obtain ⟨fd, fa, pa, ms, cv, e, _⟩ := q1; exact ⟨_, _, _, _, _, _, _, e⟩)
  have hc2 := hx2.1
  have htc2 : H2 (a + 11) = oC (a + 11) W := by rw [q4 _ (by omega)]; exact htc
  obtain ⟨fd2, fa2, pa2, ms2, cv2, hz3, _⟩ := id q1
  have hzc2 := zlo_cell hz3
  have hv : (1000 : Int32) * nI W.1.length + nI Z.length = iI (1000 * (W.1.length : Int) + (zcn W : Int)) := by
    rw [show (1000 : Int32) = iI 1000 from rfl, iI_nat, iI_nat, iI_mul, iI_add, zcn_eq q2]
  refine xs_sipush (v := 1000) dA_simulate_69 (by decide) ?_
  refine xs_aload_n dA_simulate_72 rfl ?_
  refine xs_get dA_simulate_73 flA_23 (by repeat (first | exact va_up_self _ _ _ | assumption | refine (va_up_ne _ _ (by omega)).trans ?_)) rfl ?_
  refine xs_get dA_simulate_76 flA_106 (by repeat (first | exact va_up_self _ _ _ | assumption | refine (va_up_ne _ _ (by omega)).trans ?_)) rfl ?_
  refine xs_imul dA_simulate_79 ?_
  refine xs_aload_n dA_simulate_80 rfl ?_
  refine xs_get dA_simulate_81 flA_48 (by repeat (first | exact va_up_self _ _ _ | assumption | refine (va_up_ne _ _ (by omega)).trans ?_)) rfl ?_
  refine xs_get dA_simulate_84 flA_123 (by repeat (first | exact va_up_self _ _ _ | assumption | refine (va_up_ne _ _ (by omega)).trans ?_)) rfl ?_
  refine xs_iadd dA_simulate_87 ?_
  exact xs_iret dA_simulate_88 rfl rfl (by omega) (by omega) (aOk rfl hv ⟨_, _, hx2⟩ (xfr_tr hf (xfr_mono q4 (by omega) (by omega))))
theorem k_A_sim1 {x y : Int64} {Vt W : zV} {lis : Bool} {M i : Nat} {H : xG} {Q : Option Value → Nat → xG → Prop} {X : String → Nat → xG → Prop} (hM : M ≤ 99) (hi : i < M) (hx : fzx H a S.1 S.2.1 W S.2.2.1 S.2.2.2 lis) (hf : xfr a (a + 528) G H)
    (K : ∀ H2, fzx H2 a S.1 S.2.1 (simR W (rnd (lcg y))) S.2.2.1 S.2.2.2 lis → xfr a (a + 528) G H2 → xS mA_simulate n 1 6 Q X 24 [(0, .ref a), (1, .long x), (3, .int (nI M)), (4, .long (lcg y)), (6, .int (nI (i + 1)))] [] n H2 0 0) : xS mA_simulate n 1 6 Q X 24 [(0, .ref a), (1, .long x), (3, .int (nI M)), (4, .long y), (6, .int (nI i))] [] n H 0 0 := by
  obtain ⟨hc, htx, hpr, htr, hhi, hsa, hiv, hzp, hzt, hfm, hgr, hsc, hs0, hs1⟩ := id hx
  refine xs_iload dA_simulate_24 rfl ?_
  refine xs_iload_n dA_simulate_26 rfl ?_
  refine xs_icmp_ge dA_simulate_27 (fun q => absurd ((nI_leI (by omega) (by omega)).mp q) (by omega)) (fun _ => ?_)
  obtain ⟨l1, l2⟩ := lu33 (lcg y)
  refine xs_lload dA_simulate_30 rfl ?_
  refine xs_ldc2 dA_simulate_32 kcA_318 ?_
  refine xs_lmul dA_simulate_35 ?_
  refine xs_ldc2 dA_simulate_36 kcA_320 ?_
  refine xs_ladd dA_simulate_39 ?_
  rw [← lcg_e]
  obtain ⟨Y, hY⟩ : ∃ Y, Y = lcg y := ⟨_, rfl⟩
  rw [← hY] at l1 l2 K ⊢
  clear hY
  refine xs_lstore (L2 := [(4, _), (0, _), (1, _), (3, _), (6, _)]) dA_simulate_40 (by decide) rfl ?_
  refine xs_aload_n dA_simulate_42 rfl ?_
  refine xs_lload dA_simulate_43 rfl ?_
  refine xs_bipush (v := 33) dA_simulate_45 (by decide) ?_
  refine xs_lushr dA_simulate_47 ?_
  refine xs_l2i dA_simulate_48 ?_
  rw [l1]
  refine xs_cV_vx (As := [_]) dA_simulate_49 lkA_322 (by repeat (first | exact va_up_self _ _ _ | assumption | refine (va_up_ne _ _ (by omega)).trans ?_)) (k_A_simulateRound l2 hx) rfl rfl (Nat.le_of_ble_eq_true rfl) ⟨by decide, by decide⟩ ⟨by omega, by omega⟩ ?_
  intro H2 ⟨q1, q2⟩
  refine xs_iinc (L2 := [(6, _), (4, _), (0, _), (1, _), (3, _)]) dA_simulate_52 rfl rfl (by decide) rfl ?_
  refine xs_goto dA_simulate_55 ?_
  refine xs_pick (L2 := [(0, _), (1, _), (3, _), (4, _), (6, _)]) [2, 3, 4, 1, 0] rfl ?_
  rw [xii]
  exact K H2 q1 (xfr_tr hf (xfr_mono q2 (by omega) (by omega)))
theorem simI_s (p : Int64 × zV) (k : Nat) : simI p (k + 1) = simS (simI p k) := rfl
theorem simI_n {p : Int64 × zV} {k : Nat} {y : Int64} {W : zV} (h : simI p k = (y, W)) : simI p (k + 1) = (lcg y, simR W (rnd (lcg y))) := by
  rw [simI_s, h]
  unfold simS
  rfl
theorem k_A_simulate {x : Int64} {m : Int32} (hx : fzo G a S) : xK mA_simulate [.ref a, .long x, .int m] n G 1 6 (aPost n a G (rSim S x m.toInt)) (aExc n a G (rSim S x m.toInt) eA eA) := by
  have hS := hx
  obtain ⟨Vt, lis, hx⟩ := hx
  obtain ⟨hc, htx, hpr, htr, hhi, hsa, hiv, hzp, hzt, hfm, hgr, hsc, hs0, hs1⟩ := id hx
  refine xK_of2 (L0 := [(0, _), (1, _), (3, _)]) (by decide +kernel) rfl (Nat.le_of_ble_eq_true rfl) rfl ?_
  by_cases hr : (1 : Int) ≤ m.toInt ∧ m.toInt ≤ 99
  case neg =>
    refine xs_iload_n dA_simulate_0 rfl ?_
    refine xs_iconst (v := 1) dA_simulate_1 (by decide) ?_
    refine xs_bipush (v := 99) dA_simulate_2 (by decide) ?_
    exact xs_cS_t (As := [_, _, _]) dA_simulate_4 lkA_76 (k_A_rrx (lo:=1) (hi:=99) (by decide) (by decide) hr) rfl rfl (Nat.le_of_ble_eq_true rfl) ⟨by decide, by decide⟩ rfl ⟨by omega, by omega⟩ (aX1 (by rw [rSim, if_neg hr]) hS xfr_rf)
  have htc := cry_cell htr
  have hpc := cry_cell hpr
  refine xs_iload_n dA_simulate_0 rfl ?_
  refine xs_iconst (v := 1) dA_simulate_1 (by decide) ?_
  refine xs_bipush (v := 99) dA_simulate_2 (by decide) ?_
  refine xs_cS_v (As := [_, _, _]) dA_simulate_4 lkA_76 (k_A_rr (lo:=1) (hi:=99) (by decide) (by decide) hr) rfl rfl (Nat.le_of_ble_eq_true rfl) ⟨by decide, by decide⟩ ⟨by omega, by omega⟩ ?_
  refine xs_aload_n dA_simulate_7 rfl ?_
  refine xs_get dA_simulate_8 flA_23 (by repeat (first | exact va_up_self _ _ _ | assumption | refine (va_up_ne _ _ (by omega)).trans ?_)) rfl ?_
  refine xs_aload_n dA_simulate_11 rfl ?_
  refine xs_get dA_simulate_12 flA_19 (by repeat (first | exact va_up_self _ _ _ | assumption | refine (va_up_ne _ _ (by omega)).trans ?_)) rfl ?_
  refine xs_cV_vx (As := [_]) dA_simulate_15 lkA_291 (by repeat (first | exact va_up_self _ _ _ | assumption | refine (va_up_ne _ _ (by omega)).trans ?_)) (k_C_copyFrom htr hpr (by omega)) rfl rfl (Nat.le_of_ble_eq_true rfl) ⟨by decide, by decide⟩ ⟨by omega, by omega⟩ ?_
  intro H ⟨h1, h2⟩
  have hx2 := fzx_tri hx h2 h1
  have hf2 : xfr a (a + 528) G H := xfr_mono h2 (by omega) (by omega)
  obtain ⟨M, hM, hM2, hM3, hM4⟩ := toN hr (by decide)
  have hR : rSim S x m.toInt = rSm S M x := by rw [rSim, if_pos hr, hM2, Int.toNat_natCast]
  rw [hR]
  clear hR hM2 hr
  subst hM
  have loop : ∀ (k i : Nat) (y : Int64) (H : xG) (W : zV), i + k = M → fzx H a S.1 S.2.1 W S.2.2.1 S.2.2.2 lis → xfr a (a + 528) G H → simI (x, S.2.1) i = (y, W) → xS mA_simulate n 1 6 (aPost n a G (rSm S M x)) (aExc n a G (rSm S M x) eA eA) 24 [(0, .ref a), (1, .long x), (3, .int (nI M)), (4, .long y), (6, .int (nI i))] [] n H 0 0 := by
    intro k
    induction k with
    | zero =>
      intro i y H W hik hx hf hs
      have hiM : i = M := by omega
      exact k_A_sim0 (Vt := Vt) (by omega) hiM hx hf (by rw [simN, ← hiM, hs])
    | succ k ih =>
      intro i y H W hik hx hf hs
      have hs2 := simI_n hs
      exact k_A_sim1 (Vt := Vt) (by omega) (by omega) hx hf (fun H2 q1 q2 => ih (i + 1) (lcg y) H2 _ (by omega) q1 q2 hs2)
  refine xs_lload_n dA_simulate_18 rfl ?_
  refine xs_lstore (L2 := [(4, _), (0, _), (1, _), (3, _)]) dA_simulate_19 (by decide) rfl ?_
  refine xs_iconst (v := 0) dA_simulate_21 (by decide) ?_
  refine xs_istore (L2 := [(6, _), (4, _), (0, _), (1, _), (3, _)]) dA_simulate_22 (by decide) rfl ?_
  refine xs_pick (L2 := [(0, _), (1, _), (3, _), (4, _), (6, _)]) [2, 3, 4, 1, 0] rfl ?_
  exact loop M 0 x H _ (by omega) hx2 hf2 rfl
theorem key_le (V : zV) : ∀ i, (key V i).2 ≤ 121 := by
  intro i
  induction i with
  | zero => exact Nat.le_refl _
  | succ i ih =>
    unfold key
    split
    · show zcn (zDrop V i) ≤ 121
      omega
    · exact ih
theorem k_A_keyFace (hx : fzo G a S) : xK mA_keyFace [.ref a] n G 1 6 (aPost n a G (rKey S)) xNo := by
  have hS := hx
  obtain ⟨Vt, lis, hx⟩ := hx
  have hN := hx.2.2.1.1.1
  have loop : ∀ (m i : Nat) (H : xG) (W : zV), S.2.1.1.length - i < m → i ≤ S.2.1.1.length → fzx H a S.1 S.2.1 W S.2.2.1 S.2.2.2 lis → xfr a (a + 528) G H → xS mA_keyFace n 1 6 (aPost n a G (rKey S)) xNo 8 [(0, .ref a), (1, .int (iI (key S.2.1 i).1)), (2, .int (nI (key S.2.1 i).2)), (3, .int (nI i))] [] n H 0 0 := by
    intro m
    induction m with
    | zero => intro i H W q; exact absurd q (by omega)
    | succ m ih =>
      intro i H W q1 q2 hx hf
      obtain ⟨hc, htx, hpr, htr, hhi, hsa, hiv, hzp, hzt, hfm, hgr, hsc, hs0, hs1⟩ := id hx
      have hpc := cry_cell hpr
      have htc := cry_cell htr
      obtain ⟨fd, fa, pa, ms, cv, fcs, cnt, hzt⟩ := hzt
      refine xs_iload_n dA_keyFace_8 rfl ?_
      refine xs_aload_n dA_keyFace_9 rfl ?_
      refine xs_get dA_keyFace_10 flA_19 (by repeat (first | exact va_up_self _ _ _ | assumption | refine (va_up_ne _ _ (by omega)).trans ?_)) rfl ?_
      refine xs_get dA_keyFace_13 flA_106 (by repeat (first | exact va_up_self _ _ _ | assumption | refine (va_up_ne _ _ (by omega)).trans ?_)) rfl ?_
      refine xs_icmp_ge dA_keyFace_16 (fun hg => ?_) (fun hg => ?_)
      · have hi : i = S.2.1.1.length := by
          have := (nI_leI (by omega) (by omega)).mp hg
          omega
        subst hi
        refine xs_iload_n dA_keyFace_76 rfl ?_
        exact xs_iret dA_keyFace_77 rfl rfl (by omega) (by omega) (aOk rfl rfl ⟨_, _, hx⟩ hf)
      · have hi : i < S.2.1.1.length := nI_lt_of (by omega) (by omega) hg
        refine xs_aload_n dA_keyFace_19 rfl ?_
        refine xs_get dA_keyFace_20 flA_23 (by repeat (first | exact va_up_self _ _ _ | assumption | refine (va_up_ne _ _ (by omega)).trans ?_)) rfl ?_
        refine xs_aload_n dA_keyFace_23 rfl ?_
        refine xs_get dA_keyFace_24 flA_19 (by repeat (first | exact va_up_self _ _ _ | assumption | refine (va_up_ne _ _ (by omega)).trans ?_)) rfl ?_
        refine xs_cV_vx (As := [_]) dA_keyFace_27 lkA_291 (by repeat (first | exact va_up_self _ _ _ | assumption | refine (va_up_ne _ _ (by omega)).trans ?_)) (k_C_copyFrom htr hpr (by omega)) rfl rfl (Nat.le_of_ble_eq_true rfl) ⟨by decide, by decide⟩ ⟨by omega, by omega⟩ ?_
        intro H2 ⟨e1, e2⟩
        have hc2 : H2 a = fzc a lis := by rw [e2 _ (by omega)]; exact hc
        have htc2 := cry_cell e1
        refine xs_aload_n dA_keyFace_30 rfl ?_
        refine xs_get dA_keyFace_31 flA_23 (by repeat (first | exact va_up_self _ _ _ | assumption | refine (va_up_ne _ _ (by omega)).trans ?_)) rfl ?_
        refine xs_iload_n dA_keyFace_34 rfl ?_
        refine xs_cV_vx (As := [_]) dA_keyFace_35 lkA_273 (by repeat (first | exact va_up_self _ _ _ | assumption | refine (va_up_ne _ _ (by omega)).trans ?_)) (k_C_dropAt e1 hi) rfl rfl (Nat.le_of_ble_eq_true rfl) ⟨by decide, by decide⟩ ⟨by omega, by omega⟩ ?_
        intro H3 ⟨e3, e4⟩
        have hc3 : H3 a = fzc a lis := by rw [e4 _ (by omega)]; exact hc2
        have hx3 := fzx_tri hx (xfr_tr e2 e4) e3
        have hzt3 : zlo H3 (a + 261) fd fa pa ms cv fcs cnt := zlo_fr hzt (fun k _ _ => (e4 k (by omega)).trans (e2 k (by omega)))
        have hzc3 := zlo_cell hzt3
        refine xs_aload_n dA_keyFace_38 rfl ?_
        refine xs_get dA_keyFace_39 flA_48 (by repeat (first | exact va_up_self _ _ _ | assumption | refine (va_up_ne _ _ (by omega)).trans ?_)) rfl ?_
        refine xs_aload_n dA_keyFace_42 rfl ?_
        refine xs_get dA_keyFace_43 flA_23 (by repeat (first | exact va_up_self _ _ _ | assumption | refine (va_up_ne _ _ (by omega)).trans ?_)) rfl ?_
        refine xs_cV_vx (As := [_]) dA_keyFace_46 lkA_297 (by repeat (first | exact va_up_self _ _ _ | assumption | refine (va_up_ne _ _ (by omega)).trans ?_)) (k_Z_gather hzt3 e3 (by omega)) rfl rfl (Nat.le_of_ble_eq_true rfl) ⟨by decide, by decide⟩ ⟨by omega, by omega⟩ ?_
        intro H4 ⟨⟨Z, R, e5, e6, e7⟩, e8⟩
        have hx4 := fzx_ztr hx3 e8 (by obtain ⟨fd, fa, pa, ms, cv, e, _⟩ := e5; exact ⟨_, _, _, _, _, _, _, e⟩)
        have hf4 : xfr a (a + 528) G H4 := xfr_tr (xfr_tr hf (xfr_mono (xfr_tr e2 e4) (by omega) (by omega))) (xfr_mono e8 (by omega) (by omega))
        have hc4 := hx4.1
        obtain ⟨fd2, fa2, pa2, ms2, cv2, hz3, _⟩ := id e5
        have hzc4 := zlo_cell hz3
        have hz := zcn_eq e6
        have hkl := key_le S.2.1 i
        have hks : key S.2.1 (i + 1) = if zcn (zDrop S.2.1 i) < (key S.2.1 i).2 then ((i : Int), zcn (zDrop S.2.1 i)) else key S.2.1 i := rfl
        have next : ∀ k0 k1, k0 = (key S.2.1 (i + 1)).1 → k1 = (key S.2.1 (i + 1)).2 → xS mA_keyFace n 1 6 (aPost n a G (rKey S)) xNo 70 [(0, .ref a), (1, .int (iI k0)), (2, .int (nI k1)), (3, .int (nI i))] [] n H4 0 0 := by
          intro k0 k1 hk0 hk1
          subst hk0; subst hk1
          refine xs_iinc (L2 := [(3, _), (0, _), (1, _), (2, _)]) dA_keyFace_70 rfl rfl (by decide) rfl ?_
          refine xs_goto dA_keyFace_73 ?_
          refine xs_pick (L2 := [(0, _), (1, _), (2, _), (3, _)]) [1, 2, 3, 0] rfl ?_
          rw [xii]
          exact ih (i + 1) H4 _ (by omega) (by omega) hx4 hf4
        refine xs_aload_n dA_keyFace_49 rfl ?_
        refine xs_get dA_keyFace_50 flA_48 (by repeat (first | exact va_up_self _ _ _ | assumption | refine (va_up_ne _ _ (by omega)).trans ?_)) rfl ?_
        refine xs_get dA_keyFace_53 flA_123 (by repeat (first | exact va_up_self _ _ _ | assumption | refine (va_up_ne _ _ (by omega)).trans ?_)) rfl ?_
        refine xs_iload_n dA_keyFace_56 rfl ?_
        refine xs_icmp_ge dA_keyFace_57 (fun h => ?_) (fun h => ?_)
        · have h9 := (nI_leI (by omega) (by omega)).mp h
          rw [if_neg (by omega)] at hks
          exact next _ _ (by rw [hks]) (by rw [hks])
        · have h9 : Z.length < (key S.2.1 i).2 := nI_lt_of (by omega) (by omega) h
          rw [if_pos (by omega)] at hks
          refine xs_aload_n dA_keyFace_60 rfl ?_
          refine xs_get dA_keyFace_61 flA_48 (by repeat (first | exact va_up_self _ _ _ | assumption | refine (va_up_ne _ _ (by omega)).trans ?_)) rfl ?_
          refine xs_get dA_keyFace_64 flA_123 (by repeat (first | exact va_up_self _ _ _ | assumption | refine (va_up_ne _ _ (by omega)).trans ?_)) rfl ?_
          refine xs_istore_n (L2 := [(2, _), (0, _), (1, _), (3, _)]) dA_keyFace_67 (by decide) rfl ?_
          refine xs_iload_n dA_keyFace_68 rfl ?_
          refine xs_istore_n (L2 := [(1, _), (2, _), (0, _), (3, _)]) dA_keyFace_69 (by decide) rfl ?_
          refine xs_pick (L2 := [(0, _), (1, _), (2, _), (3, _)]) [2, 0, 1, 3] rfl ?_
          rw [iI_nat i]
          exact next _ _ (by rw [hks]) (by rw [hks, hz])
  have hc := hx.1
  refine xK_of2 (L0 := [(0, _)]) (by decide +kernel) rfl (Nat.le_of_ble_eq_true rfl) rfl ?_
  refine xs_ldc dA_keyFace_0 kcA_99 ?_
  refine xs_istore_n (L2 := [(1, _), (0, _)]) dA_keyFace_2 (by decide) rfl ?_
  refine xs_bipush (v := 121) dA_keyFace_3 (by decide) ?_
  refine xs_istore_n (L2 := [(2, _), (1, _), (0, _)]) dA_keyFace_5 (by decide) rfl ?_
  refine xs_iconst (v := 0) dA_keyFace_6 (by decide) ?_
  refine xs_istore_n (L2 := [(3, _), (2, _), (1, _), (0, _)]) dA_keyFace_7 (by decide) rfl ?_
  refine xs_pick (L2 := [(0, _), (1, _), (2, _), (3, _)]) [3, 2, 1, 0] rfl ?_
  exact loop (S.2.1.1.length + 1) 0 G Vt (by omega) (by omega) hx xfr_rf
/-- the best plane among the first k of all 27 triples -/
noncomputable def bq (V : zV) (k : Nat) : Int × Int := if k ≤ 14 then (0, -1) else bst V (k - 14)
theorem pat_n : ∀ k, k < 27 → isN (pat k) = decide (14 ≤ k) := by decide +kernel
theorem bq_lo {V : zV} {k : Nat} (h : k ≤ 14) : bq V k = (0, -1) := if_pos h
theorem bq_hi {V : zV} {k : Nat} (h : 14 < k) : bq V k = bst V (k - 14) := if_neg (by omega)
theorem bst_s (V : zV) (k : Nat) : bst V (k + 1) = if (bst V k).2 < (zlg (zAim V (pat (k + 14))) : Int) then (pnu (k + 14), (zlg (zAim V (pat (k + 14))) : Int)) else bst V k := rfl
theorem bq_no {V : zV} {k : Nat} (hk : k < 27) (h : isN (pat k) = false) : bq V (k + 1) = bq V k := by
  rw [pat_n k hk] at h
  have := of_decide_eq_false h
  rw [bq_lo (by omega), bq_lo (by omega)]
theorem bq_yes {V : zV} {k : Nat} (hk : k < 27) (h : isN (pat k) = true) : bq V (k + 1) = if (bq V k).2 < (zlg (zAim V (pat k)) : Int) then (pnu k, (zlg (zAim V (pat k)) : Int)) else bq V k := by
  rw [pat_n k hk] at h
  have h14 := of_decide_eq_true h
  obtain ⟨j, rfl⟩ : ∃ j, k = j + 14 := ⟨k - 14, by omega⟩
  rw [bq_hi (by omega), show j + 14 + 1 - 14 = j + 1 by omega, bst_s]
  by_cases hj : j = 0
  · subst hj
    have e : bq V (0 + 14) = (0, -1) := bq_lo (by omega)
    have e2 : bst V 0 = (-99999, -1) := rfl
    have h1 : (-1 : Int) < (zlg (zAim V (pat (0 + 14))) : Int) := by omega
    rw [e, e2, if_pos h1, if_pos h1]
  · have e : bq V (j + 14) = bst V j := by rw [bq_hi (by omega), Nat.add_sub_cancel]
    rw [e]
theorem zlg_le (V : zV) : zlg V ≤ 16 := lgs_le _ _
theorem bq_bd (V : zV) : ∀ k, k ≤ 27 → -1 ≤ (bq V k).2 ∧ (bq V k).2 ≤ 16 := by
  intro k
  induction k with
  | zero => intro _; rw [bq_lo (by omega)]; exact ⟨by decide, by decide⟩
  | succ k ih =>
    intro hk
    have ih := ih (by omega)
    cases h : isN (pat k) with
    | false => rw [bq_no (by omega) h]; exact ih
    | true =>
      rw [bq_yes (by omega) h]
      have := zlg_le (zAim V (pat k))
      split
      · show -1 ≤ (zlg (zAim V (pat k)) : Int) ∧ (zlg (zAim V (pat k)) : Int) ≤ 16
        omega
      · exact ih
theorem pat_abc {p q r : Nat} (hq : q < 3) (hr : r < 3) : pat (9 * p + 3 * q + r) = ((p : Int) - 1, (q : Int) - 1, (r : Int) - 1) ∧ pnu (9 * p + 3 * q + r) = 100 * (p : Int) + 10 * (q : Int) + (r : Int) := by
  have e1 : (9 * p + 3 * q + r) / 9 = p := by omega
  have e2 : (9 * p + 3 * q + r) / 3 % 3 = q := by omega
  have e3 : (9 * p + 3 * q + r) % 3 = r := by omega
  unfold pat pnu
  rw [e1, e2, e3]
  exact ⟨rfl, rfl⟩
theorem k_A_bestTwin (hx : fzo G a S) : xK mA_bestTwin [.ref a] n G 1 6 (aPost n a G (rBest S)) xNo := by
  have hS := hx
  obtain ⟨Vt, lis, hx⟩ := hx
  have lt2 : ∀ p : Nat, p ≤ 3 → (iI 1 < iI ((p : Int) - 1) ↔ p = 3) := fun p hp => by
    rw [iI_lt (by decide) (by omega)]
    omega
  have inc : ∀ p : Nat, iI ((p : Int) - 1) + Int32.ofInt 1 = iI (((p + 1 : Nat) : Int) - 1) := fun p => by
    rw [show Int32.ofInt 1 = iI 1 from rfl, iI_add]
    congr 1
    omega
  obtain ⟨Inv, hInv⟩ : ∃ Inv : xG → Prop, ∀ H, Inv H ↔ ((∃ tw, fzx H a S.1 S.2.1 (S.2.1.1, S.2.1.2.1, S.2.1.2.2.1, tw) S.2.2.1 S.2.2.2 lis) ∧ xfr a (a + 528) G H) := ⟨_, fun _ => Iff.rfl⟩
  have loop3 : ∀ (p q : Nat), p < 3 → q < 3 → (∀ (H : xG), Inv H → xS mA_bestTwin n 1 6 (aPost n a G (rBest S)) xNo 25 [(0, .ref a), (1, .int (iI (bq S.2.1 (9 * p + 3 * (q + 1))).1)), (2, .int (iI (bq S.2.1 (9 * p + 3 * (q + 1))).2)), (3, .int (iI ((p : Int) - 1))), (4, .int (iI (((q + 1 : Nat) : Int) - 1)))] [] n H 0 0) →
      ∀ (m r : Nat) (H : xG), 3 - r < m → r ≤ 3 → Inv H → xS mA_bestTwin n 1 6 (aPost n a G (rBest S)) xNo 34 [(0, .ref a), (1, .int (iI (bq S.2.1 (9 * p + 3 * q + r)).1)), (2, .int (iI (bq S.2.1 (9 * p + 3 * q + r)).2)), (3, .int (iI ((p : Int) - 1))), (4, .int (iI ((q : Int) - 1))), (5, .int (iI ((r : Int) - 1)))] [] n H 0 0 := by
    intro p q hp hq hout m
    induction m with
    | zero => intro r H e; exact absurd e (by omega)
    | succ m ih =>
      intro r H q1 q2 hI
      refine xs_iload dA_bestTwin_34 rfl ?_
      refine xs_iconst (v := 1) dA_bestTwin_36 (by decide) ?_
      refine xs_icmp_gt dA_bestTwin_37 (fun hg => ?_) (fun hg => ?_)
      · have hr : r = 3 := (lt2 r q2).mp hg
        subst hr
        refine xs_iinc (L2 := [(4, _), (0, _), (1, _), (2, _), (3, _), (5, _)]) dA_bestTwin_136 rfl rfl (by decide) rfl ?_
        refine xs_goto dA_bestTwin_139 ?_
        refine xs_pick (L2 := [(0, _), (1, _), (2, _), (3, _), (4, _)]) [1, 2, 3, 4, 0] rfl ?_
        rw [inc, show 9 * p + 3 * q + 3 = 9 * p + 3 * (q + 1) by omega]
        exact hout H hI
      · have hr : r < 3 := by
          rcases Nat.lt_or_ge r 3 with e | e
          · exact e
          · exact absurd ((lt2 r q2).mpr (by omega)) hg
        obtain ⟨hpat, hpnu⟩ := pat_abc (p := p) hq hr
        obtain ⟨k, hk⟩ : ∃ k, k = 9 * p + 3 * q + r := ⟨_, rfl⟩
        have hk1 : k + 1 = 9 * p + 3 * q + (r + 1) := by omega
        have hk27 : k < 27 := by omega
        rw [← hk] at hpat hpnu ⊢
        have hbb := bq_bd S.2.1 k (by omega)
        have next : ∀ (H : xG) (b0 b1 : Int), b0 = (bq S.2.1 (k + 1)).1 → b1 = (bq S.2.1 (k + 1)).2 → Inv H → xS mA_bestTwin n 1 6 (aPost n a G (rBest S)) xNo 130 [(0, .ref a), (1, .int (iI b0)), (2, .int (iI b1)), (3, .int (iI ((p : Int) - 1))), (4, .int (iI ((q : Int) - 1))), (5, .int (iI ((r : Int) - 1)))] [] n H 0 0 := by
          intro H b0 b1 h0 h1 hI
          subst h0; subst h1
          refine xs_iinc (L2 := [(5, _), (0, _), (1, _), (2, _), (3, _), (4, _)]) dA_bestTwin_130 rfl rfl (by decide) rfl ?_
          refine xs_goto dA_bestTwin_133 ?_
          refine xs_pick (L2 := [(0, _), (1, _), (2, _), (3, _), (4, _), (5, _)]) [1, 2, 3, 4, 5, 0] rfl ?_
          rw [inc]
          rw [hk1]
          exact ih (r + 1) H (by omega) (by omega) hI
        obtain ⟨⟨tw, hx⟩, hf⟩ := (hInv H).mp hI
        obtain ⟨hc, htx, hpr, htr, hhi, hsa, hiv, hzp, hzt, hfm, hgr, hsc, hs0, hs1⟩ := id hx
        obtain ⟨s1, s2, s3, hsc⟩ := hsc
        have htc := cry_cell htr
        obtain ⟨fd, fa, pa, ms, cv, fcs, cnt, hzt⟩ := hzt
        have bdk : bd 4 (pat k) := by
          rw [hpat]
          refine ⟨?_, ?_, ?_⟩ <;> simp only <;> omega
        have hx1 : fzx (va_up H (a + 513) (xTp (pat k))) a S.1 S.2.1 (S.2.1.1, S.2.1.2.1, S.2.1.2.2.1, tw) S.2.2.1 S.2.2.2 lis := fzx_scr hx (xfr_up xfr_rf (by omega) (by omega)) ⟨_, _, _, va_up_self _ _ _⟩
        have hf1 : xfr a (a + 528) G (va_up H (a + 513) (xTp (pat k))) := xfr_up hf (by omega) (by omega)
        refine xs_aload_n dA_bestTwin_40 rfl ?_
        refine xs_get dA_bestTwin_41 flA_68 (by repeat (first | exact va_up_self _ _ _ | assumption | refine (va_up_ne _ _ (by omega)).trans ?_)) rfl ?_
        refine xs_iload_n dA_bestTwin_44 rfl ?_
        refine xs_i2l dA_bestTwin_45 ?_
        refine xs_iload dA_bestTwin_46 rfl ?_
        refine xs_i2l dA_bestTwin_48 ?_
        refine xs_iload dA_bestTwin_49 rfl ?_
        refine xs_i2l dA_bestTwin_51 ?_
        rw [iI_l (by omega), iI_l (by omega), iI_l (by omega)]
        refine xs_cV_v (As := [_, _, _]) dA_bestTwin_52 lkA_204 (by repeat (first | exact va_up_self _ _ _ | assumption | refine (va_up_ne _ _ (by omega)).trans ?_)) (k_T_put hsc) rfl rfl (Nat.le_of_ble_eq_true rfl) ⟨by decide, by decide⟩ ⟨by omega, by omega⟩ ?_
        rw [show xT (iL ((p : Int) - 1)) (iL ((q : Int) - 1)) (iL ((r : Int) - 1)) = xTp (pat k) by rw [hpat]]
        have hself : (va_up H (a + 513) (xTp (pat k))) (a + 513) = xTp (pat k) := va_up_self _ _ _
        generalize va_up H (a + 513) (xTp (pat k)) = H1 at *
        obtain ⟨hc, htx, hpr, htr, hhi, hsa, hiv, hzp, hzt, hfm, hgr, hsc, hs0, hs1⟩ := id hx1
        have htc := cry_cell htr
        obtain ⟨fd, fa, pa, ms, cv, fcs, cnt, hzt⟩ := hzt
        refine xs_aload_n dA_bestTwin_55 rfl ?_
        refine xs_get dA_bestTwin_56 flA_68 (by repeat (first | exact va_up_self _ _ _ | assumption | refine (va_up_ne _ _ (by omega)).trans ?_)) rfl ?_
        refine xs_cV_i (As := []) dA_bestTwin_59 lkA_294 (by repeat (first | exact va_up_self _ _ _ | assumption | refine (va_up_ne _ _ (by omega)).trans ?_)) (k_T_isNormalized hself (bd_mono bdk (by decide))) rfl rfl (Nat.le_of_ble_eq_true rfl) ⟨by decide, by decide⟩ ⟨by omega, by omega⟩ ?_
        refine xs_if_ne dA_bestTwin_62 (fun h => ?_) (fun h => ?_)
        · have hn : isN (pat k) = true := (bI_1n _).mp h
          have hne : pat k ≠ (0, 0, 0) := fun e => by
            rw [e] at hn
            exact absurd hn (by decide)
          have hb := bq_yes (V := S.2.1) hk27 hn
          have hzle := zlg_le (zAim S.2.1 (pat k))
          rw [hpat] at bdk hne
          refine xs_aload_n dA_bestTwin_68 rfl ?_
          refine xs_get dA_bestTwin_69 flA_23 (by repeat (first | exact va_up_self _ _ _ | assumption | refine (va_up_ne _ _ (by omega)).trans ?_)) rfl ?_
          refine xs_iload_n dA_bestTwin_72 rfl ?_
          refine xs_iload dA_bestTwin_73 rfl ?_
          refine xs_iload dA_bestTwin_75 rfl ?_
          refine xs_cV_vx (As := [_, _, _]) dA_bestTwin_77 lkA_282 (by repeat (first | exact va_up_self _ _ _ | assumption | refine (va_up_ne _ _ (by omega)).trans ?_)) (k_C_aimTwin htr bdk hne) rfl rfl (Nat.le_of_ble_eq_true rfl) ⟨by decide, by decide⟩ ⟨by omega, by omega⟩ ?_
          intro H2 ⟨e1, e2⟩
          have hx2 := fzx_tri hx1 e2 e1
          have hc2 := hx2.1
          have htc2 := cry_cell e1
          have hzt2 : zlo H2 (a + 261) fd fa pa ms cv fcs cnt := zlo_fr hzt (fun k _ _ => e2 k (by omega))
          have hzc2 := zlo_cell hzt2
          refine xs_aload_n dA_bestTwin_80 rfl ?_
          refine xs_get dA_bestTwin_81 flA_48 (by repeat (first | exact va_up_self _ _ _ | assumption | refine (va_up_ne _ _ (by omega)).trans ?_)) rfl ?_
          refine xs_aload_n dA_bestTwin_84 rfl ?_
          refine xs_get dA_bestTwin_85 flA_23 (by repeat (first | exact va_up_self _ _ _ | assumption | refine (va_up_ne _ _ (by omega)).trans ?_)) rfl ?_
          refine xs_cV_vx (As := [_]) dA_bestTwin_88 lkA_297 (by repeat (first | exact va_up_self _ _ _ | assumption | refine (va_up_ne _ _ (by omega)).trans ?_)) (k_Z_gather hzt2 e1 (by omega)) rfl rfl (Nat.le_of_ble_eq_true rfl) ⟨by decide, by decide⟩ ⟨by omega, by omega⟩ ?_
          intro H3 ⟨⟨Z, R, e3, e4, e5⟩, e6⟩
          have hx3 := fzx_ztr hx2 e6 (by obtain ⟨fd, fa, pa, ms, cv, e, _⟩ := e3; exact ⟨_, _, _, _, _, _, _, e⟩)
          have hc3 := hx3.1
          obtain ⟨fd3, fa3, pa3, ms3, cv3, hz3, _⟩ := id e3
          have hzc3 := zlo_cell hz3
          have hI3 : Inv H3 := (hInv H3).mpr ⟨⟨_, hx3⟩, xfr_tr (xfr_tr hf1 (xfr_mono e2 (by omega) (by omega))) (xfr_mono e6 (by omega) (by omega))⟩
          have hlg : lgs (zDirs (zAim (S.2.1.1, S.2.1.2.1, S.2.1.2.2.1, tw) ((p : Int) - 1, (q : Int) - 1, (r : Int) - 1))) Z = zlg (zAim S.2.1 (pat k)) := by
            rw [hpat]
            exact (zlg_eq e4).symm
          have hdl := (zDirs_ok e1.1).1
          refine xs_aload_n dA_bestTwin_91 rfl ?_
          refine xs_get dA_bestTwin_92 flA_48 (by repeat (first | exact va_up_self _ _ _ | assumption | refine (va_up_ne _ _ (by omega)).trans ?_)) rfl ?_
          refine xs_cV_i (As := []) dA_bestTwin_95 lkA_128 (by repeat (first | exact va_up_self _ _ _ | assumption | refine (va_up_ne _ _ (by omega)).trans ?_)) (k_Z_longest e3 hdl) rfl rfl (Nat.le_of_ble_eq_true rfl) ⟨by decide, by decide⟩ ⟨by omega, by omega⟩ ?_
          refine xs_iload_n dA_bestTwin_98 rfl ?_
          rw [hlg]
          have hcmp := iI_le (x := (zlg (zAim S.2.1 (pat k)) : Int)) (y := (bq S.2.1 k).2) (by omega) (by omega)
          rw [← iI_nat] at hcmp
          refine xs_icmp_le dA_bestTwin_99 (fun h => ?_) (fun h => ?_)
          · have h9 := hcmp.mp h
            rw [if_neg (by omega)] at hb
            exact next H3 _ _ (by rw [hb]) (by rw [hb]) hI3
          · have h9 : (bq S.2.1 k).2 < (zlg (zAim S.2.1 (pat k)) : Int) := by
              by_cases e : (bq S.2.1 k).2 < (zlg (zAim S.2.1 (pat k)) : Int)
              · exact e
              · exact absurd (hcmp.mpr (by omega)) h
            rw [if_pos h9] at hb
            refine xs_aload_n dA_bestTwin_102 rfl ?_
            refine xs_get dA_bestTwin_103 flA_48 (by repeat (first | exact va_up_self _ _ _ | assumption | refine (va_up_ne _ _ (by omega)).trans ?_)) rfl ?_
            refine xs_cV_i (As := []) dA_bestTwin_106 lkA_128 (by repeat (first | exact va_up_self _ _ _ | assumption | refine (va_up_ne _ _ (by omega)).trans ?_)) (k_Z_longest e3 hdl) rfl rfl (Nat.le_of_ble_eq_true rfl) ⟨by decide, by decide⟩ ⟨by omega, by omega⟩ ?_
            refine xs_istore_n (L2 := [(2, _), (0, _), (1, _), (3, _), (4, _), (5, _)]) dA_bestTwin_109 (by decide) rfl ?_
            rw [hlg, iI_nat]
            refine xs_bipush (v := 100) dA_bestTwin_110 (by decide) ?_
            refine xs_iload_n dA_bestTwin_112 rfl ?_
            refine xs_iconst (v := 1) dA_bestTwin_113 (by decide) ?_
            refine xs_iadd dA_bestTwin_114 ?_
            refine xs_imul dA_bestTwin_115 ?_
            refine xs_bipush (v := 10) dA_bestTwin_116 (by decide) ?_
            refine xs_iload dA_bestTwin_118 rfl ?_
            refine xs_iconst (v := 1) dA_bestTwin_120 (by decide) ?_
            refine xs_iadd dA_bestTwin_121 ?_
            refine xs_imul dA_bestTwin_122 ?_
            refine xs_iadd dA_bestTwin_123 ?_
            refine xs_iload dA_bestTwin_124 rfl ?_
            refine xs_iconst (v := 1) dA_bestTwin_126 (by decide) ?_
            refine xs_iadd dA_bestTwin_127 ?_
            refine xs_iadd dA_bestTwin_128 ?_
            refine xs_istore_n (L2 := [(1, _), (2, _), (0, _), (3, _), (4, _), (5, _)]) dA_bestTwin_129 (by decide) rfl ?_
            rw [show (100 : Int32) * (iI ((p : Int) - 1) + 1) + 10 * (iI ((q : Int) - 1) + 1) + (iI ((r : Int) - 1) + 1) = iI (pnu k) by
              rw [hpnu, show (100 : Int32) = iI 100 from rfl, show (10 : Int32) = iI 10 from rfl, show (1 : Int32) = iI 1 from rfl, iI_add, iI_add, iI_add, iI_mul, iI_mul, iI_add, iI_add]
              congr 1
              omega]
            refine xs_pick (L2 := [(0, _), (1, _), (2, _), (3, _), (4, _), (5, _)]) [2, 0, 1, 3, 4, 5] rfl ?_
            exact next H3 _ _ (by rw [hb]) (by rw [hb]) hI3
        · have hn : isN (pat k) = false := (bI_0 _).mp h
          have hb := bq_no (V := S.2.1) hk27 hn
          refine xs_goto dA_bestTwin_65 ?_
          exact next H1 _ _ (by rw [hb]) (by rw [hb]) ((hInv H1).mpr ⟨⟨_, hx1⟩, hf1⟩)
  have loop2 : ∀ (p : Nat), p < 3 → (∀ (H : xG), Inv H → xS mA_bestTwin n 1 6 (aPost n a G (rBest S)) xNo 17 [(0, .ref a), (1, .int (iI (bq S.2.1 (9 * (p + 1))).1)), (2, .int (iI (bq S.2.1 (9 * (p + 1))).2)), (3, .int (iI (((p + 1 : Nat) : Int) - 1)))] [] n H 0 0) →
      ∀ (m q : Nat) (H : xG), 3 - q < m → q ≤ 3 → Inv H → xS mA_bestTwin n 1 6 (aPost n a G (rBest S)) xNo 25 [(0, .ref a), (1, .int (iI (bq S.2.1 (9 * p + 3 * q)).1)), (2, .int (iI (bq S.2.1 (9 * p + 3 * q)).2)), (3, .int (iI ((p : Int) - 1))), (4, .int (iI ((q : Int) - 1)))] [] n H 0 0 := by
    intro p hp hout m
    induction m with
    | zero => intro q H e; exact absurd e (by omega)
    | succ m ih =>
      intro q H q1 q2 hI
      refine xs_iload dA_bestTwin_25 rfl ?_
      refine xs_iconst (v := 1) dA_bestTwin_27 (by decide) ?_
      refine xs_icmp_gt dA_bestTwin_28 (fun hg => ?_) (fun hg => ?_)
      · have hq : q = 3 := (lt2 q q2).mp hg
        subst hq
        refine xs_iinc (L2 := [(3, _), (0, _), (1, _), (2, _), (4, _)]) dA_bestTwin_142 rfl rfl (by decide) rfl ?_
        refine xs_goto dA_bestTwin_145 ?_
        refine xs_pick (L2 := [(0, _), (1, _), (2, _), (3, _)]) [1, 2, 3, 0] rfl ?_
        rw [inc, show 9 * p + 3 * 3 = 9 * (p + 1) by omega]
        exact hout H hI
      · have hq : q < 3 := by
          rcases Nat.lt_or_ge q 3 with e | e
          · exact e
          · exact absurd ((lt2 q q2).mpr (by omega)) hg
        refine xs_iconst (v := (-1)) dA_bestTwin_31 (by decide) ?_
        refine xs_istore (L2 := [(5, _), (0, _), (1, _), (2, _), (3, _), (4, _)]) dA_bestTwin_32 (by decide) rfl ?_
        refine xs_pick (L2 := [(0, _), (1, _), (2, _), (3, _), (4, _), (5, _)]) [1, 2, 3, 4, 5, 0] rfl ?_
        exact loop3 p q hp hq (fun H hI => ih (q + 1) H (by omega) (by omega) hI) 4 0 H (by omega) (by omega) hI
  have loop1 : ∀ (m p : Nat) (H : xG), 3 - p < m → p ≤ 3 → Inv H → xS mA_bestTwin n 1 6 (aPost n a G (rBest S)) xNo 17 [(0, .ref a), (1, .int (iI (bq S.2.1 (9 * p)).1)), (2, .int (iI (bq S.2.1 (9 * p)).2)), (3, .int (iI ((p : Int) - 1)))] [] n H 0 0 := by
    intro m
    induction m with
    | zero => intro p H e; exact absurd e (by omega)
    | succ m ih =>
      intro p H q1 q2 hI
      refine xs_iload_n dA_bestTwin_17 rfl ?_
      refine xs_iconst (v := 1) dA_bestTwin_18 (by decide) ?_
      refine xs_icmp_gt dA_bestTwin_19 (fun hg => ?_) (fun hg => ?_)
      · have hp : p = 3 := (lt2 p q2).mp hg
        subst hp
        obtain ⟨⟨tw, hx⟩, hf⟩ := (hInv H).mp hI
        refine xs_iload_n dA_bestTwin_148 rfl ?_
        have e : bq S.2.1 (9 * 3) = bst S.2.1 13 := bq_hi (by omega)
        rw [e]
        exact xs_iret dA_bestTwin_149 rfl rfl (by omega) (by omega) (aOk rfl rfl ⟨_, _, hx⟩ hf)
      · have hp : p < 3 := by
          rcases Nat.lt_or_ge p 3 with e | e
          · exact e
          · exact absurd ((lt2 p q2).mpr (by omega)) hg
        refine xs_iconst (v := (-1)) dA_bestTwin_22 (by decide) ?_
        refine xs_istore (L2 := [(4, _), (0, _), (1, _), (2, _), (3, _)]) dA_bestTwin_23 (by decide) rfl ?_
        refine xs_pick (L2 := [(0, _), (1, _), (2, _), (3, _), (4, _)]) [1, 2, 3, 4, 0] rfl ?_
        exact loop2 p hp (fun H hI => ih (p + 1) H (by omega) (by omega) hI) 4 0 H (by omega) (by omega) hI
  obtain ⟨hc, htx, hpr, htr, hhi, hsa, hiv, hzp, hzt, hfm, hgr, hsc, hs0, hs1⟩ := id hx
  have htc := cry_cell htr
  have hpc := cry_cell hpr
  refine xK_of2 (L0 := [(0, _)]) (by decide +kernel) rfl (Nat.le_of_ble_eq_true rfl) rfl ?_
  refine xs_aload_n dA_bestTwin_0 rfl ?_
  refine xs_get dA_bestTwin_1 flA_23 (by repeat (first | exact va_up_self _ _ _ | assumption | refine (va_up_ne _ _ (by omega)).trans ?_)) rfl ?_
  refine xs_aload_n dA_bestTwin_4 rfl ?_
  refine xs_get dA_bestTwin_5 flA_19 (by repeat (first | exact va_up_self _ _ _ | assumption | refine (va_up_ne _ _ (by omega)).trans ?_)) rfl ?_
  refine xs_cV_vx (As := [_]) dA_bestTwin_8 lkA_291 (by repeat (first | exact va_up_self _ _ _ | assumption | refine (va_up_ne _ _ (by omega)).trans ?_)) (k_C_copyFrom htr hpr (by omega)) rfl rfl (Nat.le_of_ble_eq_true rfl) ⟨by decide, by decide⟩ ⟨by omega, by omega⟩ ?_
  intro H ⟨h1, h2⟩
  refine xs_iconst (v := 0) dA_bestTwin_11 (by decide) ?_
  refine xs_istore_n (L2 := [(1, _), (0, _)]) dA_bestTwin_12 (by decide) rfl ?_
  refine xs_iconst (v := (-1)) dA_bestTwin_13 (by decide) ?_
  refine xs_istore_n (L2 := [(2, _), (1, _), (0, _)]) dA_bestTwin_14 (by decide) rfl ?_
  refine xs_iconst (v := (-1)) dA_bestTwin_15 (by decide) ?_
  refine xs_istore_n (L2 := [(3, _), (2, _), (1, _), (0, _)]) dA_bestTwin_16 (by decide) rfl ?_
  refine xs_pick (L2 := [(0, _), (1, _), (2, _), (3, _)]) [3, 2, 1, 0] rfl ?_
  have e0 : bq S.2.1 (9 * 0) = (0, -1) := bq_lo (by omega)
  have hgo := loop1 4 0 H (by omega) (by omega) ((hInv H).mpr ⟨⟨S.2.1.2.2.2, fzx_tri hx h2 h1⟩, xfr_mono h2 (by omega) (by omega)⟩)
  rw [e0] at hgo
  exact hgo
end B0
