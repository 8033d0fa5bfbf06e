def pPart (T : List Nat) (p told : Nat) (V : zV) : (Option zV × Nat) × Nat :=
  if T[p]? = some 102 ∧ told < 16 then (pFace T (p + 1) V, told + 1)
  else if T[p]? = some 116 then (pTwin T (p + 1) V, told)
  else ((none, p), told)
theorem k_X_readPart {n x c : Nat} {G : xG} {T : List Nat} {p told : Nat} {ix : Nat → Int32} {V : zV} (hX : txt G x T p told ix) (hC : cry G c V) (hd : c + 7 ≤ x ∨ x + 3 ≤ c) :
    xK mX_readPart [.ref x, .ref c] n G 0 0 (qIx n (fun r H => r = bI (pPart T p told V).1.1.isSome ∧ (∃ ix, txt H x T (pPart T p told V).1.2 (pPart T p told V).2 ix) ∧ (∃ W, cry H c W ∧ ∀ U, (pPart T p told V).1.1 = some U → W = U) ∧ xf2 x (x + 3) c (c + 7) G H)) xNo := by
  obtain ⟨⟨code, ⟨g0, g1, g2⟩, hr⟩, ⟨hb1, hb2⟩, hp, ht⟩ := id hX
  have hcell := cry_cell hC
  have at44 : ¬ (T[p]? = some 102 ∧ told < 16) → xS mX_readPart n 0 0 (qIx n (fun r H => r = bI (pPart T p told V).1.1.isSome ∧ (∃ ix, txt H x T (pPart T p told V).1.2 (pPart T p told V).2 ix) ∧ (∃ W, cry H c W ∧ ∀ U, (pPart T p told V).1.1 = some U → W = U) ∧ xf2 x (x + 3) c (c + 7) G H)) xNo 44 [(0, .ref x), (1, .ref c)] [] n G 0 0 := by
    intro hn
    refine xs_aload_n dX_readPart_44 rfl ?_
    refine xs_bipush (v := 116) dX_readPart_45 (by decide) ?_
    refine xs_cV_i (As := [_]) dX_readPart_47 lkX_41 (by repeat (first | assumption | exact va_up_self _ _ _ | refine (va_up_ne _ _ (by omega)).trans ?_)) ((k_X_isAt (ch:=116) hX (by decide))) rfl rfl (Nat.le_of_ble_eq_true rfl) ⟨by decide, by decide⟩ ⟨by omega, by omega⟩ ?_
    refine xs_if_eq dX_readPart_50 (fun h => ?_) (fun h => ?_)
    · have h1 : ¬ T[p]? = some 116 := of_decide_eq_false ((bI_0 _).mp h)
      have et : pPart T p told V = ((none, p), told) := by
        rw [pPart, if_neg hn, if_neg h1]
      rw [et]
      refine xs_iconst (v := 0) dX_readPart_69 (by decide) ?_
      exact xs_iret dX_readPart_70 rfl rfl (by omega) (by omega) ⟨_, rfl, rfl, rfl, ⟨ix, hX⟩, ⟨V, hC, (fun U hU => by cases hU)⟩, fun k _ _ => rfl⟩
    · have h1 : T[p]? = some 116 := of_decide_eq_true ((bI_1n _).mp h)
      have hpl := (List.getElem?_eq_some_iff.mp h1).1
      have hX1 := txt_at (p2 := p + 1) hX (by omega) ht
      have hf1 : xfr x (x + 3) G _ := xfr_up (e := .inr (1, [.ref (x + 1), .int (nI T.length), .int (nI (p + 1)), .int (nI told), .ref (x + 2)])) xfr_rf (Nat.le_refl x) (by omega)
      have hC1 := cry_fr hC (fun k hk hk2 => hf1 k (by omega))
      have et : pPart T p told V = (pTwin T (p + 1) V, told) := by
        rw [pPart, if_neg hn, if_pos h1]
      rw [et]
      refine xs_aload_n dX_readPart_53 rfl ?_
      refine xs_dup dX_readPart_54 rfl ?_
      refine xs_get dX_readPart_55 flX_19 (by repeat (first | assumption | exact va_up_self _ _ _ | refine (va_up_ne _ _ (by omega)).trans ?_)) rfl ?_
      refine xs_iconst (v := 1) dX_readPart_58 (by decide) ?_
      refine xs_iadd dX_readPart_59 ?_
      refine xs_put dX_readPart_60 flX_19 ft1_2 (by repeat (first | assumption | exact va_up_self _ _ _ | refine (va_up_ne _ _ (by omega)).trans ?_)) (fun _ => rfl) (fun _ => rfl) (by simp) ?_
      rw [nI_1]
      refine xs_aload_n dX_readPart_63 rfl ?_
      refine xs_aload_n dX_readPart_64 rfl ?_
      refine xs_cV_ix (As := [_]) dX_readPart_65 lkX_59 (by repeat (first | assumption | exact va_up_self _ _ _ | refine (va_up_ne _ _ (by omega)).trans ?_)) ((k_X_readTwin hX1 hC1 hd)) rfl rfl (Nat.le_of_ble_eq_true rfl) ⟨by decide, by decide⟩ ⟨by omega, by omega⟩ ?_
      intro r H2 hH2
      obtain ⟨er, hX2, hC2, hf2⟩ := hH2
      subst er
      exact xs_iret dX_readPart_68 rfl (bI_n _) (by omega) (by omega) ⟨_, rfl, rfl, rfl, hX2, hC2, fun k hk1 hk2 => (hf2 k hk1 hk2).trans (hf1 k hk1)⟩
  refine xK_of2 (L0 := [(0, _), (1, _)]) (by decide +kernel) rfl (Nat.le_of_ble_eq_true rfl) rfl ?_
  refine xs_aload_n dX_readPart_0 rfl ?_
  refine xs_bipush (v := 102) dX_readPart_1 (by decide) ?_
  refine xs_cV_i (As := [_]) dX_readPart_3 lkX_41 (by repeat (first | assumption | exact va_up_self _ _ _ | refine (va_up_ne _ _ (by omega)).trans ?_)) ((k_X_isAt (ch:=102) hX (by decide))) rfl rfl (Nat.le_of_ble_eq_true rfl) ⟨by decide, by decide⟩ ⟨by omega, by omega⟩ ?_
  refine xs_if_eq dX_readPart_6 (fun h => ?_) (fun h => ?_)
  · have h1 : ¬ T[p]? = some 102 := of_decide_eq_false ((bI_0 _).mp h)
    exact at44 (fun q => h1 q.1)
  · have h1 : T[p]? = some 102 := of_decide_eq_true ((bI_1n _).mp h)
    refine xs_aload_n dX_readPart_9 rfl ?_
    refine xs_get dX_readPart_10 flX_22 (by repeat (first | assumption | exact va_up_self _ _ _ | refine (va_up_ne _ _ (by omega)).trans ?_)) rfl ?_
    refine xs_bipush (v := 16) dX_readPart_13 (by decide) ?_
    refine xs_icmp_ge dX_readPart_15 (fun hg => ?_) (fun hg => ?_)
    · have h2 := (nI_leI (a := 16) (by decide) (by omega)).mp hg
      exact at44 (fun q => by omega)
    · have h2 : told < 16 := nI_lt_of (b := 16) (by omega) (by decide) hg
      have hpl := (List.getElem?_eq_some_iff.mp h1).1
      have hX1 := txt_at (p2 := p + 1) (told2 := told + 1) hX (by omega) (by omega)
      have hf1 : xfr x (x + 3) G _ := xfr_up (e := .inr (1, [.ref (x + 1), .int (nI T.length), .int (nI (p + 1)), .int (nI (told + 1)), .ref (x + 2)])) xfr_rf (Nat.le_refl x) (by omega)
      have hC1 := cry_fr hC (fun k hk hk2 => hf1 k (by omega))
      have et : pPart T p told V = (pFace T (p + 1) V, told + 1) := by
        rw [pPart, if_pos ⟨h1, h2⟩]
      rw [et]
      refine xs_aload_n dX_readPart_18 rfl ?_
      refine xs_dup dX_readPart_19 rfl ?_
      refine xs_get dX_readPart_20 flX_19 (by repeat (first | assumption | exact va_up_self _ _ _ | refine (va_up_ne _ _ (by omega)).trans ?_)) rfl ?_
      refine xs_iconst (v := 1) dX_readPart_23 (by decide) ?_
      refine xs_iadd dX_readPart_24 ?_
      refine xs_put dX_readPart_25 flX_19 ft1_2 (by repeat (first | assumption | exact va_up_self _ _ _ | refine (va_up_ne _ _ (by omega)).trans ?_)) (fun _ => rfl) (fun _ => rfl) (by simp) ?_
      rw [nI_1]
      refine xs_aload_n dX_readPart_28 rfl ?_
      refine xs_dup dX_readPart_29 rfl ?_
      refine xs_get dX_readPart_30 flX_22 (by repeat (first | assumption | exact va_up_self _ _ _ | refine (va_up_ne _ _ (by omega)).trans ?_)) rfl ?_
      refine xs_iconst (v := 1) dX_readPart_33 (by decide) ?_
      refine xs_iadd dX_readPart_34 ?_
      refine xs_put dX_readPart_35 flX_22 ft1_3 (by repeat (first | assumption | exact va_up_self _ _ _ | refine (va_up_ne _ _ (by omega)).trans ?_)) (fun _ => rfl) (fun _ => rfl) (by simp) ?_
      rw [nI_1, bx_uu]
      refine xs_aload_n dX_readPart_38 rfl ?_
      refine xs_aload_n dX_readPart_39 rfl ?_
      refine xs_cV_ix (As := [_]) dX_readPart_40 lkX_56 (by repeat (first | assumption | exact va_up_self _ _ _ | refine (va_up_ne _ _ (by omega)).trans ?_)) ((k_X_readFace hX1 hC1 hd)) rfl rfl (Nat.le_of_ble_eq_true rfl) ⟨by decide, by decide⟩ ⟨by omega, by omega⟩ ?_
      intro r H2 hH2
      obtain ⟨er, hX2, hC2, hf2⟩ := hH2
      subst er
      exact xs_iret dX_readPart_43 rfl (bI_n _) (by omega) (by omega) ⟨_, rfl, rfl, rfl, hX2, hC2, fun k hk1 hk2 => (hf2 k hk1 hk2).trans (hf1 k hk1)⟩
