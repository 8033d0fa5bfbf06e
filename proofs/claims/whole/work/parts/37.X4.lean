/-- nothing changed but in two places -/
def xf2 (a b c d : Nat) (G H : xG) : Prop := ∀ k, (k < a ∨ b ≤ k) → (k < c ∨ d ≤ k) → H k = G k
theorem k_X_readTwin {n x c : Nat} {G : xG} {T : List Nat} {p told : Nat} {ix : Nat → Int32} {V : zV} (hX : txt G x T p told ix) (hC : cry G c V) (hd : c + 7 ≤ x ∨ x + 3 ≤ c) :
    xK mX_readTwin [.ref x, .ref c] n G 0 0 (qIx n (fun r H => r = bI (pTwin T p V).1.isSome ∧ (∃ ix, txt H x T (pTwin T p V).2 told ix) ∧ (∃ W, cry H c W ∧ ∀ U, (pTwin T p V).1 = some U → W = U) ∧ xf2 x (x + 3) c (c + 7) G H)) xNo := by
  obtain ⟨⟨code, ⟨g0, g1, g2⟩, hr⟩, ⟨hb1, hb2⟩, hp, ht⟩ := id hX
  have hcell := cry_cell hC
  refine xK_of2 (L0 := [(0, _), (1, _)]) (by decide +kernel) rfl (Nat.le_of_ble_eq_true rfl) rfl ?_
  refine xs_aload_n dX_readTwin_0 rfl ?_
  refine xs_iconst (v := 3) dX_readTwin_1 (by decide) ?_
  refine xs_cV_ix (As := [_]) dX_readTwin_2 lkX_62 (by repeat (first | assumption | exact va_up_self _ _ _ | refine (va_up_ne _ _ (by omega)).trans ?_)) ((k_X_readIndices (hi:=3) hX (by decide))) rfl rfl (Nat.le_of_ble_eq_true rfl) ⟨by decide, by decide⟩ ⟨by omega, by omega⟩ ?_
  intro r H1 hH1
  obtain ⟨ix1, er, hX1, hJ, hf1⟩ := hH1
  subst er
  have hC1 : cry H1 c V := cry_fr hC (fun k hk hk2 => hf1 k (by omega))
  obtain ⟨⟨code1, ⟨v0, v1, v2⟩, -⟩, -⟩ := id hX1
  refine xs_if_ne dX_readTwin_5 (fun h => ?_) (fun h => ?_)
  · obtain ⟨J, hs⟩ := Option.isSome_iff_exists.mp ((bI_1n _).mp h)
    have e : pIs T 3 3 [] p = (some J, (pIs T 3 3 [] p).2) := by rw [← hs]
    obtain ⟨j1, j2, j3, rfl, ⟨d1, d2, d3⟩, hz⟩ := pIs_3 e
    have hI := hJ _ hs
    have hin0 : vp_in (0 : Int32) 3 := vp_in_nI (n := 0) (by decide) (by decide)
    have hin1 : vp_in (1 : Int32) 3 := vp_in_nI (n := 1) (by decide) (by decide)
    have hin2 : vp_in (2 : Int32) 3 := vp_in_nI (n := 2) (by decide) (by decide)
    have c0 : ix1 (0 : Int32).toNatClampNeg = iI j1 := by rw [show (0 : Int32).toNatClampNeg = 0 by decide]; exact hI 0 j1 rfl
    have c1 : ix1 (1 : Int32).toNatClampNeg = iI j2 := by rw [show (1 : Int32).toNatClampNeg = 1 by decide]; exact hI 1 j2 rfl
    have c2 : ix1 (2 : Int32).toNatClampNeg = iI j3 := by rw [show (2 : Int32).toNatClampNeg = 2 by decide]; exact hI 2 j3 rfl
    have et : pTwin T p V = (some (zAim V (j1, j2, j3)), (pIs T 3 3 [] p).2) := by
      rw [pTwin, e]
      rfl
    have hcell1 := cry_cell hC1
    refine xs_aload_n dX_readTwin_10 rfl ?_
    refine xs_aload_n dX_readTwin_11 rfl ?_
    refine xs_get dX_readTwin_12 flX_25 (by repeat (first | assumption | exact va_up_self _ _ _ | refine (va_up_ne _ _ (by omega)).trans ?_)) rfl ?_
    refine xs_iconst (v := 0) dX_readTwin_15 (by decide) ?_
    refine xs_iald dX_readTwin_16 (by repeat (first | assumption | exact va_up_self _ _ _ | refine (va_up_ne _ _ (by omega)).trans ?_)) (by assumption) ?_
    refine xs_aload_n dX_readTwin_17 rfl ?_
    refine xs_get dX_readTwin_18 flX_25 (by repeat (first | assumption | exact va_up_self _ _ _ | refine (va_up_ne _ _ (by omega)).trans ?_)) rfl ?_
    refine xs_iconst (v := 1) dX_readTwin_21 (by decide) ?_
    refine xs_iald dX_readTwin_22 (by repeat (first | assumption | exact va_up_self _ _ _ | refine (va_up_ne _ _ (by omega)).trans ?_)) (by assumption) ?_
    refine xs_aload_n dX_readTwin_23 rfl ?_
    refine xs_get dX_readTwin_24 flX_25 (by repeat (first | assumption | exact va_up_self _ _ _ | refine (va_up_ne _ _ (by omega)).trans ?_)) rfl ?_
    refine xs_iconst (v := 2) dX_readTwin_27 (by decide) ?_
    refine xs_iald dX_readTwin_28 (by repeat (first | assumption | exact va_up_self _ _ _ | refine (va_up_ne _ _ (by omega)).trans ?_)) (by assumption) ?_
    rw [c0, c1, c2]
    refine xs_cV_vx (As := [_, _, _]) dX_readTwin_29 lkX_74 (by repeat (first | assumption | exact va_up_self _ _ _ | refine (va_up_ne _ _ (by omega)).trans ?_)) ((k_C_aimTwin hC1 (show bd 4 (j1, j2, j3) from ⟨(by show j1.natAbs < 4; omega), (by show j2.natAbs < 4; omega), (by show j3.natAbs < 4; omega)⟩) hz)) rfl rfl (Nat.le_of_ble_eq_true rfl) ⟨by decide, by decide⟩ ⟨by omega, by omega⟩ ?_
    intro H2 hH2
    obtain ⟨hC2, hf2⟩ := hH2
    refine xs_iconst (v := 1) dX_readTwin_32 (by decide) ?_
    rw [et]
    exact xs_iret dX_readTwin_33 rfl rfl (by omega) (by omega) ⟨_, rfl, rfl, rfl, ⟨ix1, txt_fr hX1 (fun k hk hk2 => hf2 k (by omega))⟩, ⟨_, hC2, (fun U hU => Option.some.inj hU)⟩, fun k hk1 hk2 => (hf2 k hk2).trans (hf1 k hk1)⟩
  · have hs := (bI_0 _).mp h
    have e : pIs T 3 3 [] p = (none, (pIs T 3 3 [] p).2) := by
      generalize pIs T 3 3 [] p = R at hs
      obtain ⟨o, q⟩ := R
      cases o with
      | none => rfl
      | some J => cases hs
    have et : pTwin T p V = (none, (pIs T 3 3 [] p).2) := by
      rw [pTwin, e]
    refine xs_iconst (v := 0) dX_readTwin_8 (by decide) ?_
    rw [et]
    exact xs_iret dX_readTwin_9 rfl rfl (by omega) (by omega) ⟨_, rfl, rfl, rfl, ⟨ix1, hX1⟩, ⟨V, hC1, (fun U hU => by cases hU)⟩, fun k hk1 hk2 => hf1 k hk1⟩
