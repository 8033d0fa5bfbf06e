def pRun (T : List Nat) : Nat → Nat → Nat → zV → Option zV × Nat
  | 0, p, _, V => (some V, p)
  | m + 1, p, told, V => if p < T.length then (match pPart T p told V with
    | ((some W, q), t) => pRun T m q t W
    | ((none, q), _) => (none, q)) else (some V, p)
def pRead (T : List Nat) : Option zV × Nat := match pHead T 0 zNew with
  | (some V, q) => pRun T 100 q 0 V
  | (none, q) => (none, q)
def rP (R : Option zV × Nat) : Int32 := match R.1 with
  | some _ => -99999
  | none => nI R.2
theorem k_X_readInto {n x c : Nat} {G : xG} {T : List Nat} {p0 told0 : Nat} {ix0 : Nat → Int32} {V0 : zV} (hX : txt G x T p0 told0 ix0) (hC : cry G c V0) (hd : c + 7 ≤ x ∨ x + 3 ≤ c) :
    xK mX_readInto [.ref x, .ref c] n G 0 0 (qIx n (fun r H => r = rP (pRead T) ∧ (∃ ix p told, txt H x T p told ix) ∧ (∃ W, cry H c W ∧ ∀ U, (pRead T).1 = some U → W = U) ∧ xf2 x (x + 3) c (c + 7) G H)) xNo := by
  obtain ⟨RR, hRR⟩ : ∃ RR, RR = pRead T := ⟨_, rfl⟩
  rw [← hRR]
  have loop : ∀ (m i p told : Nat) (H : xG) (ix : Nat → Int32) (V : zV), 100 - i < m → i ≤ 100 → txt H x T p told ix → cry H c V → pRun T (100 - i) p told V = RR → xf2 x (x + 3) c (c + 7) G H →
      xS mX_readInto n 0 0 (qIx n (fun r H => r = rP RR ∧ (∃ ix p told, txt H x T p told ix) ∧ (∃ W, cry H c W ∧ ∀ U, RR.1 = some U → W = U) ∧ xf2 x (x + 3) c (c + 7) G H)) xNo 29 [(0, .ref x), (1, .ref c), (2, .int (nI i))] [] n H 0 0 := by
    intro m
    induction m with
    | zero => intro i p told H ix V q; exact absurd q (by omega)
    | succ m ih =>
      intro i p told H ix V q1 q2 hX hC hR hf
      obtain ⟨⟨code, ⟨g0, g1, g2⟩, hr⟩, ⟨hb1, hb2⟩, hp, ht⟩ := id hX
      have done : RR = (some V, p) → xS mX_readInto n 0 0 (qIx n (fun r H => r = rP RR ∧ (∃ ix p told, txt H x T p told ix) ∧ (∃ W, cry H c W ∧ ∀ U, RR.1 = some U → W = U) ∧ xf2 x (x + 3) c (c + 7) G H)) xNo 65 [(0, .ref x), (1, .ref c), (2, .int (nI i))] [] n H 0 0 := by
        intro e
        rw [e]
        refine xs_ldc dX_readInto_65 kcX_40 ?_
        exact xs_iret dX_readInto_67 rfl rfl (by omega) (by omega) ⟨_, rfl, rfl, rfl, ⟨ix, p, told, hX⟩, ⟨V, hC, (fun U hU => Option.some.inj hU)⟩, hf⟩
      refine xs_iload_n dX_readInto_29 rfl ?_
      refine xs_bipush (v := 100) dX_readInto_30 (by decide) ?_
      refine xs_icmp_ge dX_readInto_32 (fun hg => ?_) (fun hg => ?_)
      · have hi := (nI_leI (a := 100) (by decide) (by omega)).mp hg
        have hie : i = 100 := by omega
        subst hie
        exact done hR.symm
      · have hi : i < 100 := nI_lt_of (b := 100) (by omega) (by decide) hg
        rw [show 100 - i = (100 - (i + 1)) + 1 by omega, pRun] at hR
        refine xs_aload_n dX_readInto_35 rfl ?_
        refine xs_get dX_readInto_36 flX_19 (by repeat (first | assumption | exact va_up_self _ _ _ | refine (va_up_ne _ _ (by omega)).trans ?_)) rfl ?_
        refine xs_aload_n dX_readInto_39 rfl ?_
        refine xs_get dX_readInto_40 flX_15 (by repeat (first | assumption | exact va_up_self _ _ _ | refine (va_up_ne _ _ (by omega)).trans ?_)) rfl ?_
        refine xs_icmp_ge dX_readInto_43 (fun hg => ?_) (fun hg => ?_)
        · have hl := (nI_leI (by omega) (by omega)).mp hg
          rw [if_neg (by omega)] at hR
          exact done hR.symm
        · have hl : p < T.length := nI_lt_of (by omega) (by omega) hg
          rw [if_pos hl] at hR
          refine xs_aload_n dX_readInto_46 rfl ?_
          refine xs_aload_n dX_readInto_47 rfl ?_
          refine xs_cV_ix (As := [_]) dX_readInto_48 lkX_37 (by repeat (first | assumption | exact va_up_self _ _ _ | refine (va_up_ne _ _ (by omega)).trans ?_)) ((k_X_readPart hX hC hd)) rfl rfl (Nat.le_of_ble_eq_true rfl) ⟨by decide, by decide⟩ ⟨by omega, by omega⟩ ?_
          intro r H2 hH2
          obtain ⟨er, hX2, hC2, hf2⟩ := hH2
          subst er
          generalize pPart T p told V = P at *
          obtain ⟨⟨o, q⟩, t⟩ := P
          obtain ⟨ix2, hX2⟩ := hX2
          obtain ⟨W, hC2, hW⟩ := hC2
          have hf3 : xf2 x (x + 3) c (c + 7) G H2 := fun k h1 h2 => (hf2 k h1 h2).trans (hf k h1 h2)
          cases o with
          | none =>
            have hR2 : RR = (none, q) := hR.symm
            rw [hR2]
            refine xs_if_ne dX_readInto_51 (fun h => absurd rfl h) (fun _ => ?_)
            obtain ⟨⟨code2, ⟨w0, w1, w2⟩, -⟩, -⟩ := id hX2
            refine xs_aload_n dX_readInto_54 rfl ?_
            refine xs_get dX_readInto_55 flX_19 (by repeat (first | assumption | exact va_up_self _ _ _ | refine (va_up_ne _ _ (by omega)).trans ?_)) rfl ?_
            exact xs_iret dX_readInto_58 rfl rfl (by omega) (by omega) ⟨_, rfl, rfl, rfl, ⟨ix2, _, _, hX2⟩, ⟨W, hC2, (fun U hU => by cases hU)⟩, hf3⟩
          | some U =>
            have hWU := hW U rfl
            subst hWU
            refine xs_if_ne dX_readInto_51 (fun _ => ?_) (fun h => absurd (show (1 : Int32) = 0 from h) (by decide))
            refine xs_iinc (L2 := [(2, _), (0, _), (1, _)]) dX_readInto_59 rfl rfl (by decide) rfl ?_
            refine xs_goto dX_readInto_62 ?_
            refine xs_pick (L2 := [(0, _), (1, _), (2, _)]) [1, 2, 0] rfl ?_
            rw [xii]
            exact ih (i + 1) q t H2 ix2 W (by omega) (by omega) hX2 hC2 hR hf3
  have hR := hRR.symm
  refine xK_of2 (L0 := [(0, _), (1, _)]) (by decide +kernel) rfl (Nat.le_of_ble_eq_true rfl) rfl ?_
  have hcell := cry_cell hC
  refine xs_aload_n dX_readInto_0 rfl ?_
  refine xs_cV_vx (As := []) dX_readInto_1 lkX_28 (by repeat (first | assumption | exact va_up_self _ _ _ | refine (va_up_ne _ _ (by omega)).trans ?_)) ((k_C_reset hC)) rfl rfl (Nat.le_of_ble_eq_true rfl) ⟨by decide, by decide⟩ ⟨by omega, by omega⟩ ?_
  intro H0 hH0
  obtain ⟨hC0, hf0⟩ := hH0
  have hX0 : txt H0 x T p0 told0 ix0 := txt_fr hX (fun k hk hk2 => hf0 k (by omega))
  obtain ⟨⟨code, ⟨g0, g1, g2⟩, hr⟩, ⟨hb1, hb2⟩, hp, ht⟩ := id hX0
  have hX1 := txt_at (p2 := 0) (told2 := 0) hX0 (Nat.zero_le _) (Nat.zero_le _)
  have hf1 : xfr x (x + 3) H0 _ := xfr_up (e := .inr (1, [.ref (x + 1), .int (nI T.length), .int (nI 0), .int (nI 0), .ref (x + 2)])) xfr_rf (Nat.le_refl x) (by omega)
  have hC1 := cry_fr hC0 (fun k hk hk2 => hf1 k (by omega))
  refine xs_aload_n dX_readInto_4 rfl ?_
  refine xs_iconst (v := 0) dX_readInto_5 (by decide) ?_
  refine xs_put dX_readInto_6 flX_19 ft1_2 (by repeat (first | assumption | exact va_up_self _ _ _ | refine (va_up_ne _ _ (by omega)).trans ?_)) (fun _ => rfl) (fun _ => rfl) (by simp) ?_
  refine xs_aload_n dX_readInto_9 rfl ?_
  refine xs_iconst (v := 0) dX_readInto_10 (by decide) ?_
  refine xs_put dX_readInto_11 flX_22 ft1_3 (by repeat (first | assumption | exact va_up_self _ _ _ | refine (va_up_ne _ _ (by omega)).trans ?_)) (fun _ => rfl) (fun _ => rfl) (by simp) ?_
  rw [bx_uu]
  refine xs_aload_n dX_readInto_14 rfl ?_
  refine xs_aload_n dX_readInto_15 rfl ?_
  refine xs_cV_ix (As := [_]) dX_readInto_16 lkX_33 (by repeat (first | assumption | exact va_up_self _ _ _ | refine (va_up_ne _ _ (by omega)).trans ?_)) ((k_X_readHead hX1 hC1 hd)) rfl rfl (Nat.le_of_ble_eq_true rfl) ⟨by decide, by decide⟩ ⟨by omega, by omega⟩ ?_
  intro r H2 hH2
  obtain ⟨er, hX2, hC2, hf2⟩ := hH2
  subst er
  rw [pRead] at hR
  generalize pHead T 0 zNew = P at *
  obtain ⟨o, q⟩ := P
  obtain ⟨ix2, hX2⟩ := hX2
  obtain ⟨W, hC2, hW⟩ := hC2
  have hf3 : xf2 x (x + 3) c (c + 7) G H2 := fun k h1 h2 => (hf2 k h1 h2).trans ((hf1 k h1).trans (hf0 k h2))
  cases o with
  | none =>
    have hR2 : RR = (none, q) := hR.symm
    rw [hR2]
    refine xs_if_ne dX_readInto_19 (fun h => absurd rfl h) (fun _ => ?_)
    obtain ⟨⟨code2, ⟨w0, w1, w2⟩, -⟩, -⟩ := id hX2
    refine xs_aload_n dX_readInto_22 rfl ?_
    refine xs_get dX_readInto_23 flX_19 (by repeat (first | assumption | exact va_up_self _ _ _ | refine (va_up_ne _ _ (by omega)).trans ?_)) rfl ?_
    exact xs_iret dX_readInto_26 rfl rfl (by omega) (by omega) ⟨_, rfl, rfl, rfl, ⟨ix2, _, _, hX2⟩, ⟨W, hC2, (fun U hU => by cases hU)⟩, hf3⟩
  | some U =>
    have hWU := hW U rfl
    subst hWU
    refine xs_if_ne dX_readInto_19 (fun _ => ?_) (fun h => absurd (show (1 : Int32) = 0 from h) (by decide))
    refine xs_iconst (v := 0) dX_readInto_27 (by decide) ?_
    refine xs_istore_n (L2 := [(2, _), (0, _), (1, _)]) dX_readInto_28 (by decide) rfl ?_
    refine xs_pick (L2 := [(0, _), (1, _), (2, _)]) [1, 2, 0] rfl ?_
    exact loop 101 0 q 0 H2 ix2 W (by omega) (by omega) hX2 hC2 hR hf3
