theorem zwhy_0i {fs : List zF} {p : P3} {s : Int} (h : zwhy fs p s = 0) : p ≠ (0, 0, 0) ∧ (dv p, s) ∉ fs ∧ fs.length < 16 := by
  unfold zwhy at h
  split at h
  · cases h
  next h1 =>
    split at h
    · cases h
    next h2 =>
      split at h
      · cases h
      next h3 => exact ⟨h1, h2, by omega⟩
theorem zwhy_le {fs : List zF} {p : P3} {s : Int} : zwhy fs p s ≤ 3 := by
  unfold zwhy
  split
  · decide
  split
  · decide
  split <;> decide
/-- a face put where it can be -/
def zPut (V : zV) (p : P3) (s : Int) : zV := if zwhy V.1 p s = 0 then zAdd V (dv p, s) else V
def pFace (T : List Nat) (p : Nat) (V : zV) : Option zV × Nat := match pDig T p 0 1 with
  | none => (none, p)
  | some s => match pIs T 9 3 [] (p + 1) with
    | (some J, q) => (some (zPut V (J.getD 0 0, J.getD 1 0, J.getD 2 0) s), q)
    | (none, q) => (none, q)
theorem k_X_readFace {n x c : Nat} {G : xG} {T : List Nat} {p told : Nat} {ix : Nat → Int32} {V : zV} (hX : txt G x T p told ix) (hC : cry G c V) (hd : c + 7 ≤ x ∨ x + 3 ≤ c) :
    xK mX_readFace [.ref x, .ref c] n G 0 0 (qIx n (fun r H => r = bI (pFace T p V).1.isSome ∧ (∃ ix, txt H x T (pFace T p V).2 told ix) ∧ (∃ W, cry H c W ∧ ∀ U, (pFace T p V).1 = some U → W = U) ∧ xf2 x (x + 3) c (c + 7) G H)) xNo := by
  obtain ⟨⟨code, ⟨g0, g1, g2⟩, hr⟩, ⟨hb1, hb2⟩, hp, ht⟩ := id hX
  refine xK_of2 (L0 := [(0, _), (1, _)]) (by decide +kernel) rfl (Nat.le_of_ble_eq_true rfl) rfl ?_
  refine xs_aload_n dX_readFace_0 rfl ?_
  refine xs_iconst (v := 0) dX_readFace_1 (by decide) ?_
  refine xs_iconst (v := 1) dX_readFace_2 (by decide) ?_
  refine xs_cV_i (As := [_, _]) dX_readFace_3 lkX_45 (by repeat (first | assumption | exact va_up_self _ _ _ | refine (va_up_ne _ _ (by omega)).trans ?_)) ((k_X_isDigitAt (lo:=0) (hi:=1) hX (by decide) (by decide))) rfl rfl (Nat.le_of_ble_eq_true rfl) ⟨by decide, by decide⟩ ⟨by omega, by omega⟩ ?_
  refine xs_if_ne dX_readFace_6 (fun h => ?_) (fun h => ?_)
  · obtain ⟨s, hs⟩ := Option.isSome_iff_exists.mp ((bI_1n _).mp h)
    obtain ⟨-, -, s1, -⟩ := pDig_lt hs
    refine xs_aload_n dX_readFace_11 rfl ?_
    refine xs_cV_ix (As := []) dX_readFace_12 lkX_49 (by repeat (first | assumption | exact va_up_self _ _ _ | refine (va_up_ne _ _ (by omega)).trans ?_)) ((k_X_takeDigit hX hs)) rfl rfl (Nat.le_of_ble_eq_true rfl) ⟨by decide, by decide⟩ ⟨by omega, by omega⟩ ?_
    intro r H0 hH0
    obtain ⟨er, hX0, hf0⟩ := hH0
    subst er
    have hC0 : cry H0 c V := cry_fr hC (fun k hk hk2 => hf0 k (by omega))
    obtain ⟨⟨code0, ⟨y0, y1, y2⟩, -⟩, -⟩ := id hX0
    refine xs_istore_n (L2 := [(2, _), (0, _), (1, _)]) dX_readFace_15 (by decide) rfl ?_
    refine xs_aload_n dX_readFace_16 rfl ?_
    refine xs_bipush (v := 9) dX_readFace_17 (by decide) ?_
    refine xs_cV_ix (As := [_]) dX_readFace_19 lkX_62 (by repeat (first | assumption | exact va_up_self _ _ _ | refine (va_up_ne _ _ (by omega)).trans ?_)) ((k_X_readIndices (hi:=9) hX0 (by decide))) rfl rfl (Nat.le_of_ble_eq_true rfl) ⟨by decide, by decide⟩ ⟨by omega, by omega⟩ ?_
    intro r H1 hH1
    obtain ⟨ix1, er, hX1, hJ, hf1⟩ := hH1
    subst er
    have hC1 : cry H1 c V := cry_fr hC0 (fun k hk hk2 => hf1 k (by omega))
    obtain ⟨⟨code1, ⟨v0, v1, v2⟩, -⟩, -⟩ := id hX1
    have hcell1 := cry_cell hC1
    refine xs_if_ne dX_readFace_22 (fun h => ?_) (fun h => ?_)
    · obtain ⟨J, hsJ⟩ := Option.isSome_iff_exists.mp ((bI_1n _).mp h)
      have e : pIs T 9 3 [] (p + 1) = (some J, (pIs T 9 3 [] (p + 1)).2) := by rw [← hsJ]
      obtain ⟨j1, j2, j3, rfl, ⟨d1, d2, d3⟩, hz⟩ := pIs_3 e
      have hI := hJ _ hsJ
      have hin0 : vp_in (0 : Int32) 3 := vp_in_nI (n := 0) (by decide) (by decide)
      have hin1 : vp_in (1 : Int32) 3 := vp_in_nI (n := 1) (by decide) (by decide)
      have hin2 : vp_in (2 : Int32) 3 := vp_in_nI (n := 2) (by decide) (by decide)
      have c0 : ix1 (0 : Int32).toNatClampNeg = iI j1 := by rw [show (0 : Int32).toNatClampNeg = 0 by decide]; exact hI 0 j1 rfl
      have c1 : ix1 (1 : Int32).toNatClampNeg = iI j2 := by rw [show (1 : Int32).toNatClampNeg = 1 by decide]; exact hI 1 j2 rfl
      have c2 : ix1 (2 : Int32).toNatClampNeg = iI j3 := by rw [show (2 : Int32).toNatClampNeg = 2 by decide]; exact hI 2 j3 rfl
      have et : pFace T p V = (some (zPut V (j1, j2, j3) s), (pIs T 9 3 [] (p + 1)).2) := by
        rw [pFace, hs]
        simp only
        rw [e]
        rfl
      have hbd : bd 10 (j1, j2, j3) := ⟨(by show j1.natAbs < 10; omega), (by show j2.natAbs < 10; omega), (by show j3.natAbs < 10; omega)⟩
      rw [iI_nat s]
      refine xs_aload_n dX_readFace_27 rfl ?_
      refine xs_aload_n dX_readFace_28 rfl ?_
      refine xs_get dX_readFace_29 flX_25 (by repeat (first | assumption | exact va_up_self _ _ _ | refine (va_up_ne _ _ (by omega)).trans ?_)) rfl ?_
      refine xs_iconst (v := 0) dX_readFace_32 (by decide) ?_
      refine xs_iald dX_readFace_33 (by repeat (first | assumption | exact va_up_self _ _ _ | refine (va_up_ne _ _ (by omega)).trans ?_)) (by assumption) ?_
      refine xs_aload_n dX_readFace_34 rfl ?_
      refine xs_get dX_readFace_35 flX_25 (by repeat (first | assumption | exact va_up_self _ _ _ | refine (va_up_ne _ _ (by omega)).trans ?_)) rfl ?_
      refine xs_iconst (v := 1) dX_readFace_38 (by decide) ?_
      refine xs_iald dX_readFace_39 (by repeat (first | assumption | exact va_up_self _ _ _ | refine (va_up_ne _ _ (by omega)).trans ?_)) (by assumption) ?_
      refine xs_aload_n dX_readFace_40 rfl ?_
      refine xs_get dX_readFace_41 flX_25 (by repeat (first | assumption | exact va_up_self _ _ _ | refine (va_up_ne _ _ (by omega)).trans ?_)) rfl ?_
      refine xs_iconst (v := 2) dX_readFace_44 (by decide) ?_
      refine xs_iald dX_readFace_45 (by repeat (first | assumption | exact va_up_self _ _ _ | refine (va_up_ne _ _ (by omega)).trans ?_)) (by assumption) ?_
      refine xs_iload_n dX_readFace_46 rfl ?_
      rw [c0, c1, c2]
      refine xs_cV_ix (As := [_, _, _, _]) dX_readFace_47 lkX_66 (by repeat (first | assumption | exact va_up_self _ _ _ | refine (va_up_ne _ _ (by omega)).trans ?_)) ((k_C_refusalOf hC1 (bd_mono hbd (by decide)) (by omega))) rfl rfl (Nat.le_of_ble_eq_true rfl) ⟨by decide, by decide⟩ ⟨by omega, by omega⟩ ?_
      intro r H2 hH2
      obtain ⟨er, hC2, hf2⟩ := hH2
      subst er
      have hX2 : txt H2 x T (pIs T 9 3 [] (p + 1)).2 told ix1 := txt_fr hX1 (fun k hk hk2 => hf2 k (by omega))
      obtain ⟨⟨code2, ⟨w0, w1, w2⟩, -⟩, -⟩ := id hX2
      have hcell2 := cry_cell hC2
      have hw := zwhy_le (fs := V.1) (p := (j1, j2, j3)) (s := (s : Int))
      have hiff : nI (zwhy V.1 (j1, j2, j3) s) = 0 ↔ zwhy V.1 (j1, j2, j3) s = 0 := nI_eq (b := 0) (by omega) (by decide)
      rw [et]
      refine xs_if_ne dX_readFace_50 (fun h => ?_) (fun h => ?_)
      · have h9 : zPut V (j1, j2, j3) s = V := if_neg (fun q => h (hiff.mpr q))
        refine xs_iconst (v := 1) dX_readFace_76 (by decide) ?_
        exact xs_iret dX_readFace_77 rfl rfl (by omega) (by omega) ⟨_, rfl, rfl, rfl, ⟨ix1, hX2⟩, ⟨V, hC2, (fun U hU => h9.symm.trans (Option.some.inj hU))⟩, fun k hk1 hk2 => ((hf2 k hk2).trans (hf1 k hk1)).trans (hf0 k hk1)⟩
      · have hw0 := hiff.mp h
        obtain ⟨z1, z2, z3⟩ := zwhy_0i hw0
        have h9 : zPut V (j1, j2, j3) s = zAdd V (dv (j1, j2, j3), (s : Int)) := if_pos hw0
        refine xs_aload_n dX_readFace_53 rfl ?_
        refine xs_aload_n dX_readFace_54 rfl ?_
        refine xs_get dX_readFace_55 flX_25 (by repeat (first | assumption | exact va_up_self _ _ _ | refine (va_up_ne _ _ (by omega)).trans ?_)) rfl ?_
        refine xs_iconst (v := 0) dX_readFace_58 (by decide) ?_
        refine xs_iald dX_readFace_59 (by repeat (first | assumption | exact va_up_self _ _ _ | refine (va_up_ne _ _ (by omega)).trans ?_)) (by assumption) ?_
        refine xs_aload_n dX_readFace_60 rfl ?_
        refine xs_get dX_readFace_61 flX_25 (by repeat (first | assumption | exact va_up_self _ _ _ | refine (va_up_ne _ _ (by omega)).trans ?_)) rfl ?_
        refine xs_iconst (v := 1) dX_readFace_64 (by decide) ?_
        refine xs_iald dX_readFace_65 (by repeat (first | assumption | exact va_up_self _ _ _ | refine (va_up_ne _ _ (by omega)).trans ?_)) (by assumption) ?_
        refine xs_aload_n dX_readFace_66 rfl ?_
        refine xs_get dX_readFace_67 flX_25 (by repeat (first | assumption | exact va_up_self _ _ _ | refine (va_up_ne _ _ (by omega)).trans ?_)) rfl ?_
        refine xs_iconst (v := 2) dX_readFace_70 (by decide) ?_
        refine xs_iald dX_readFace_71 (by repeat (first | assumption | exact va_up_self _ _ _ | refine (va_up_ne _ _ (by omega)).trans ?_)) (by assumption) ?_
        refine xs_iload_n dX_readFace_72 rfl ?_
        rw [c0, c1, c2]
        refine xs_cV_vx (As := [_, _, _, _]) dX_readFace_73 lkX_70 (by repeat (first | assumption | exact va_up_self _ _ _ | refine (va_up_ne _ _ (by omega)).trans ?_)) ((k_C_insert hC2 hbd (show (s : Int) = 0 ∨ (s : Int) = 1 by omega) z1 z3)) rfl rfl (Nat.le_of_ble_eq_true rfl) ⟨by decide, by decide⟩ ⟨by omega, by omega⟩ ?_
        intro H3 hH3
        obtain ⟨hC3, hf3⟩ := hH3
        refine xs_iconst (v := 1) dX_readFace_76 (by decide) ?_
        exact xs_iret dX_readFace_77 rfl rfl (by omega) (by omega) ⟨_, rfl, rfl, rfl, ⟨ix1, txt_fr hX2 (fun k hk hk2 => hf3 k (by omega))⟩, ⟨_, hC3, (fun U hU => h9.symm.trans (Option.some.inj hU))⟩, fun k hk1 hk2 => (((hf3 k hk2).trans (hf2 k hk2)).trans (hf1 k hk1)).trans (hf0 k hk1)⟩
    · have hsJ := (bI_0 _).mp h
      have e : pIs T 9 3 [] (p + 1) = (none, (pIs T 9 3 [] (p + 1)).2) := by
        generalize pIs T 9 3 [] (p + 1) = R at hsJ
        obtain ⟨o, q⟩ := R
        cases o with
        | none => rfl
        | some J => cases hsJ
      have et : pFace T p V = (none, (pIs T 9 3 [] (p + 1)).2) := by
        rw [pFace, hs]
        simp only
        rw [e]
      rw [et]
      refine xs_iconst (v := 0) dX_readFace_25 (by decide) ?_
      exact xs_iret dX_readFace_26 rfl rfl (by omega) (by omega) ⟨_, rfl, rfl, rfl, ⟨ix1, hX1⟩, ⟨V, hC1, (fun U hU => by cases hU)⟩, fun k hk1 hk2 => (hf1 k hk1).trans (hf0 k hk1)⟩
  · have hs := (bI_0 _).mp h
    have hd0 : pDig T p 0 1 = none := by
      cases hq : pDig T p 0 1
      · rfl
      · rw [hq] at hs
        cases hs
    have et : pFace T p V = (none, p) := by
      rw [pFace, hd0]
    rw [et]
    refine xs_iconst (v := 0) dX_readFace_9 (by decide) ?_
    exact xs_iret dX_readFace_10 rfl rfl (by omega) (by omega) ⟨_, rfl, rfl, rfl, ⟨ix, hX⟩, ⟨V, hC, (fun U hU => by cases hU)⟩, fun k _ _ => rfl⟩
