theorem cry_sys {G : xG} {c : Nat} {V : zV} {s : Int} (h : cry G c V) (hs : 0 ≤ s ∧ s ≤ 4) : cry (va_up G c (oC c (V.1, s, V.2.2))) c (V.1, s, V.2.2) := by
  obtain ⟨⟨k1, k2, -, k4⟩, fh, fk, fl, fb, a1, a2, a3, b1, b2, b3, ⟨h0, h1, h2, h3, h4, h5, h6⟩, hr⟩ := h
  exact ⟨⟨k1, k2, hs, k4⟩, fh, fk, fl, fb, a1, a2, a3, b1, b2, b3, ⟨va_up_self _ _ _, (by repeat (first | assumption | exact va_up_self _ _ _ | refine (va_up_ne _ _ (by omega)).trans ?_)), (by repeat (first | assumption | exact va_up_self _ _ _ | refine (va_up_ne _ _ (by omega)).trans ?_)), (by repeat (first | assumption | exact va_up_self _ _ _ | refine (va_up_ne _ _ (by omega)).trans ?_)), (by repeat (first | assumption | exact va_up_self _ _ _ | refine (va_up_ne _ _ (by omega)).trans ?_)), (by repeat (first | assumption | exact va_up_self _ _ _ | refine (va_up_ne _ _ (by omega)).trans ?_)), (by repeat (first | assumption | exact va_up_self _ _ _ | refine (va_up_ne _ _ (by omega)).trans ?_))⟩, hr⟩
def pHead (T : List Nat) (p : Nat) (V : zV) : Option zV × Nat :=
  if T[p]? = some 88 then (match pDig T (p + 1) 0 4 with
    | some d => (some (V.1, (d : Int), V.2.2), p + 2)
    | none => (none, p + 1))
  else (none, p)
theorem k_X_readHead {n x c : Nat} {G : xG} {T : List Nat} {p told : Nat} {ix : Nat → Int32} {V : zV} (hX : txt G x T p told ix) (hC : cry G c V) (hd : c + 7 ≤ x ∨ x + 3 ≤ c) :
    xK mX_readHead [.ref x, .ref c] n G 0 0 (qIx n (fun r H => r = bI (pHead T p V).1.isSome ∧ (∃ ix, txt H x T (pHead T p V).2 told ix) ∧ (∃ W, cry H c W ∧ ∀ U, (pHead T p V).1 = some U → W = U) ∧ xf2 x (x + 3) c (c + 7) G H)) xNo := by
  obtain ⟨⟨code, ⟨g0, g1, g2⟩, hr⟩, ⟨hb1, hb2⟩, hp, ht⟩ := id hX
  have hcell := cry_cell hC
  refine xK_of2 (L0 := [(0, _), (1, _)]) (by decide +kernel) rfl (Nat.le_of_ble_eq_true rfl) rfl ?_
  refine xs_aload_n dX_readHead_0 rfl ?_
  refine xs_bipush (v := 88) dX_readHead_1 (by decide) ?_
  refine xs_cV_i (As := [_]) dX_readHead_3 lkX_41 (by repeat (first | assumption | exact va_up_self _ _ _ | refine (va_up_ne _ _ (by omega)).trans ?_)) ((k_X_isAt (ch:=88) hX (by decide))) rfl rfl (Nat.le_of_ble_eq_true rfl) ⟨by decide, by decide⟩ ⟨by omega, by omega⟩ ?_
  refine xs_if_ne dX_readHead_6 (fun h => ?_) (fun h => ?_)
  · have h1 : T[p]? = some 88 := of_decide_eq_true ((bI_1n _).mp h)
    have hpl := (List.getElem?_eq_some_iff.mp h1).1
    have hX1 := txt_at (p2 := p + 1) hX (by omega) ht
    have hf1 : xfr x (x + 3) G _ := xfr_up (e := .inr (1, [.ref (x + 1), .int (nI T.length), .int (nI (p + 1)), .int (nI told), .ref (x + 2)])) xfr_rf (Nat.le_refl x) (by omega)
    have hC1 := cry_fr hC (fun k hk hk2 => hf1 k (by omega))
    refine xs_aload_n dX_readHead_11 rfl ?_
    refine xs_dup dX_readHead_12 rfl ?_
    refine xs_get dX_readHead_13 flX_19 (by repeat (first | assumption | exact va_up_self _ _ _ | refine (va_up_ne _ _ (by omega)).trans ?_)) rfl ?_
    refine xs_iconst (v := 1) dX_readHead_16 (by decide) ?_
    refine xs_iadd dX_readHead_17 ?_
    refine xs_put dX_readHead_18 flX_19 ft1_2 (by repeat (first | assumption | exact va_up_self _ _ _ | refine (va_up_ne _ _ (by omega)).trans ?_)) (fun _ => rfl) (fun _ => rfl) (by simp) ?_
    rw [nI_1]
    refine xs_aload_n dX_readHead_21 rfl ?_
    refine xs_iconst (v := 0) dX_readHead_22 (by decide) ?_
    refine xs_iconst (v := 4) dX_readHead_23 (by decide) ?_
    refine xs_cV_i (As := [_, _]) dX_readHead_24 lkX_45 (by repeat (first | assumption | exact va_up_self _ _ _ | refine (va_up_ne _ _ (by omega)).trans ?_)) ((k_X_isDigitAt (lo:=0) (hi:=4) hX1 (by decide) (by decide))) rfl rfl (Nat.le_of_ble_eq_true rfl) ⟨by decide, by decide⟩ ⟨by omega, by omega⟩ ?_
    refine xs_if_ne dX_readHead_27 (fun h => ?_) (fun h => ?_)
    · obtain ⟨d, hs⟩ := Option.isSome_iff_exists.mp ((bI_1n _).mp h)
      obtain ⟨-, -, s1, -⟩ := pDig_lt hs
      have et : pHead T p V = (some (V.1, (d : Int), V.2.2), p + 2) := by
        rw [pHead, if_pos h1, hs]
      refine xs_aload_n dX_readHead_32 rfl ?_
      refine xs_aload_n dX_readHead_33 rfl ?_
      refine xs_cV_ix (As := []) dX_readHead_34 lkX_49 (by repeat (first | assumption | exact va_up_self _ _ _ | refine (va_up_ne _ _ (by omega)).trans ?_)) ((k_X_takeDigit hX1 hs)) rfl rfl (Nat.le_of_ble_eq_true rfl) ⟨by decide, by decide⟩ ⟨by omega, by omega⟩ ?_
      intro r H2 hH2
      obtain ⟨er, hX2, hf2⟩ := hH2
      subst er
      have hC2 := cry_fr hC1 (fun k hk hk2 => hf2 k (by omega))
      have hcell2 := cry_cell hC2
      have hC3 := cry_sys (s := (d : Int)) hC2 (by omega)
      rw [iI_nat d, et]
      refine xs_put dX_readHead_37 flX_53 ft0_5 (by repeat (first | assumption | exact va_up_self _ _ _ | refine (va_up_ne _ _ (by omega)).trans ?_)) (fun _ => rfl) (fun _ => rfl) (by simp) ?_
      refine xs_iconst (v := 1) dX_readHead_40 (by decide) ?_
      exact xs_iret dX_readHead_41 rfl rfl (by omega) (by omega) ⟨_, rfl, rfl, rfl, ⟨ix, txt_fr hX2 (fun k hk hk2 => va_up_ne _ _ (by omega))⟩, ⟨_, hC3, (fun U hU => Option.some.inj hU)⟩, fun k hk1 hk2 => (va_up_ne _ _ (by omega)).trans ((hf2 k hk1).trans (hf1 k hk1))⟩
    · have hs := (bI_0 _).mp h
      have hd0 : pDig T (p + 1) 0 4 = none := by
        cases hq : pDig T (p + 1) 0 4
        · rfl
        · rw [hq] at hs
          cases hs
      have et : pHead T p V = (none, p + 1) := by
        rw [pHead, if_pos h1, hd0]
      rw [et]
      refine xs_iconst (v := 0) dX_readHead_30 (by decide) ?_
      exact xs_iret dX_readHead_31 rfl rfl (by omega) (by omega) ⟨_, rfl, rfl, rfl, ⟨ix, hX1⟩, ⟨V, hC1, (fun U hU => by cases hU)⟩, fun k hk1 _ => hf1 k hk1⟩
  · have h1 : ¬ T[p]? = some 88 := of_decide_eq_false ((bI_0 _).mp h)
    have et : pHead T p V = (none, p) := by
      rw [pHead, if_neg h1]
    rw [et]
    refine xs_iconst (v := 0) dX_readHead_9 (by decide) ?_
    exact xs_iret dX_readHead_10 rfl rfl (by omega) (by omega) ⟨_, rfl, rfl, rfl, ⟨ix, hX⟩, ⟨V, hC, (fun U hU => by cases hU)⟩, fun k _ _ => rfl⟩
