/-! places in the text stay inside it -/
theorem get_lt {T : List Nat} {p c : Nat} (h : T[p]? = some c) : p + 1 ≤ T.length := by
  have := (List.getElem?_eq_some_iff.mp h).1
  omega
theorem pIx_le {T : List Nat} {p hi : Nat} {zf : Bool} (hp : p ≤ T.length) : (pIx T p hi zf).2 ≤ T.length := by
  unfold pIx
  split
  next h =>
    have h1 := get_lt h
    split
    next d hd =>
      have := (pDig_lt hd).1
      show p + 2 ≤ _
      omega
    next => exact h1
  next h =>
    split
    next d hd =>
      have := (pDig_lt hd).1
      show p + 1 ≤ _
      omega
    next => exact hp
theorem pIs_le {T : List Nat} {hi : Nat} : ∀ (m : Nat) (I : List Int) (p : Nat), p ≤ T.length → (pIs T hi m I p).2 ≤ T.length := by
  intro m
  induction m with
  | zero => exact fun I p hp => hp
  | succ m ih =>
    intro I p hp
    have h1 := pIx_le (hi := hi) (zf := zfb I) hp
    unfold pIs
    split
    next v q h =>
      rw [h] at h1
      exact ih _ q h1
    next q h =>
      rw [h] at h1
      exact h1
theorem pTwin_le {T : List Nat} {p : Nat} {V : zV} (hp : p ≤ T.length) : (pTwin T p V).2 ≤ T.length := by
  have h1 := pIs_le (T := T) (hi := 3) 3 [] p hp
  unfold pTwin
  split
  next J q h =>
    rw [h] at h1
    exact h1
  next q h =>
    rw [h] at h1
    exact h1
theorem pFace_le {T : List Nat} {p : Nat} {V : zV} (hp : p ≤ T.length) : (pFace T p V).2 ≤ T.length := by
  unfold pFace
  split
  next => exact hp
  next s hs =>
    have h1 := pIs_le (T := T) (hi := 9) 3 [] (p + 1) (by have := (pDig_lt hs).1; omega)
    split
    next J q h =>
      rw [h] at h1
      exact h1
    next q h =>
      rw [h] at h1
      exact h1
theorem pPart_le {T : List Nat} {p told : Nat} {V : zV} (hp : p ≤ T.length) : (pPart T p told V).1.2 ≤ T.length := by
  unfold pPart
  split
  next h => exact pFace_le (get_lt h.1)
  next =>
    split
    next h => exact pTwin_le (get_lt h)
    next => exact hp
theorem pRun_le {T : List Nat} : ∀ (m p told : Nat) (V : zV), p ≤ T.length → (pRun T m p told V).2 ≤ T.length := by
  intro m
  induction m with
  | zero => exact fun p told V hp => hp
  | succ m ih =>
    intro p told V hp
    have h1 := pPart_le (told := told) (V := V) hp
    unfold pRun
    split
    · split
      next W q t h =>
        rw [h] at h1
        exact ih q t W h1
      next q t h =>
        rw [h] at h1
        exact h1
    · exact hp
theorem pRead_le (T : List Nat) : (pRead T).2 ≤ T.length := by
  have h1 : (pHead T 0 zNew).2 ≤ T.length := by
    unfold pHead
    split
    next h =>
      have h2 := get_lt h
      split
      next d hd =>
        have := (pDig_lt hd).1
        show 0 + 2 ≤ _
        omega
      next => exact h2
    next => exact Nat.zero_le _
  unfold pRead
  split
  next V q h =>
    rw [h] at h1
    exact pRun_le 100 q 0 V h1
  next q h =>
    rw [h] at h1
    exact h1
theorem rP_e (T : List Nat) : rP (pRead T) = iI (eP T) := by
  unfold rP eP
  cases h : (pRead T).1 with
  | some W => rfl
  | none => exact iI_nat _
theorem rP_no {T : List Nat} (hT : T.length ≤ 100) : rP (pRead T) = -99999 ↔ ∃ W, (pRead T).1 = some W := by
  have h1 := pRead_le T
  unfold rP
  split
  next W h => exact ⟨fun _ => ⟨W, h⟩, fun _ => rfl⟩
  next h =>
    constructor
    · intro e
      have e2 : iI ((pRead T).2 : Int) = iI (-99999) := by rw [← iI_nat]; exact e
      rw [iI_eq (by omega) (by decide)] at e2
      omega
    · rintro ⟨W, hW⟩
      rw [h] at hW
      cases hW
/-! what a call of the face answers -/
abbrev aPost (n a : Nat) (G : xG) (R : zQ) : Option Value → Nat → xG → Prop := fun v m H => v = some (.int (iI R.2.1)) ∧ R.1 = 0 ∧ m = n ∧ fzo H a R.2.2 ∧ xfr a (a + 528) G H
abbrev aPostL (n a : Nat) (G : xG) (R : zQ) : Option Value → Nat → xG → Prop := fun v m H => v = some (.long (iL R.2.1)) ∧ R.1 = 0 ∧ m = n ∧ fzo H a R.2.2 ∧ xfr a (a + 528) G H
abbrev aExc (n a : Nat) (G : xG) (R : zQ) (E1 E2 : String) : String → Nat → xG → Prop := fun E m H => ((E = E1 ∧ R.1 = 1) ∨ (E = E2 ∧ R.1 = 2)) ∧ m = n ∧ fzo H a R.2.2 ∧ xfr a (a + 528) G H
theorem aX1 {n a : Nat} {G H : xG} {R : zQ} {E1 E2 : String} {S : zS} (hR : R = (1, 0, S)) (h : fzo H a S) (hf : xfr a (a + 528) G H) : aExc n a G R E1 E2 E1 n H := by
  subst hR
  exact ⟨Or.inl ⟨rfl, rfl⟩, rfl, h, hf⟩
theorem aX2 {n a : Nat} {G H : xG} {R : zQ} {E1 E2 : String} {S : zS} (hR : R = (2, 0, S)) (h : fzo H a S) (hf : xfr a (a + 528) G H) : aExc n a G R E1 E2 E2 n H := by
  subst hR
  exact ⟨Or.inr ⟨rfl, rfl⟩, rfl, h, hf⟩
theorem aOk {n a : Nat} {G H : xG} {R : zQ} {z : Int} {S : zS} {r : Int32} (hR : R = (0, z, S)) (hr : r = iI z) (h : fzo H a S) (hf : xfr a (a + 528) G H) : aPost n a G R (some (.int r)) n H := by
  subst hR
  subst hr
  exact ⟨rfl, rfl, rfl, h, hf⟩
theorem aOkL {n a : Nat} {G H : xG} {R : zQ} {z : Int} {S : zS} {r : Int64} (hR : R = (0, z, S)) (hr : r = iL z) (h : fzo H a S) (hf : xfr a (a + 528) G H) : aPostL n a G R (some (.long r)) n H := by
  subst hR
  subst hr
  exact ⟨rfl, rfl, rfl, h, hf⟩
section A4
variable {n a : Nat} {G : xG} {S : zS}
theorem txt_cell {G : xG} {x : Nat} {T : List Nat} {p told : Nat} {ix : Nat → Int32} (h : txt G x T p told ix) : G x = .inr (1, [.ref (x + 1), .int (nI T.length), .int (nI p), .int (nI told), .ref (x + 2)]) ∧ T.length ≤ 100 := by
  obtain ⟨⟨code, ⟨g0, g1, g2⟩, hr⟩, hb, -, -⟩ := h
  exact ⟨g0, hb.1⟩
theorem k_A_append {c : Int32} (hx : fzo G a S) : xK mA_append [.ref a, .int c] n G 1 6 (aPost n a G (rAppend S c.toInt)) (aExc n a G (rAppend S c.toInt) eA eS) := by
  have hS := hx
  obtain ⟨Vt, lis, hx⟩ := hx
  obtain ⟨hc, htx, hpr, htr, hhi, hsa, hiv, hzp, hzt, hfm, hgr, hsc, hs0, hs1⟩ := id hx
  obtain ⟨p, told, ix, htx⟩ := htx
  obtain ⟨htc, htl⟩ := txt_cell htx
  by_cases hr : 0 ≤ c.toInt ∧ c.toInt ≤ 255
  case neg =>
    refine xK_of2 (L0 := [(0, _), (1, _)]) (by decide +kernel) rfl (Nat.le_of_ble_eq_true rfl) rfl ?_
    refine xs_iload_n dA_append_0 rfl ?_
    refine xs_iconst (v := 0) dA_append_1 (by decide) ?_
    refine xs_sipush (v := 255) dA_append_2 (by decide) ?_
    exact xs_cS_t (As := [_, _, _]) dA_append_5 lkA_76 (k_A_rrx (lo:=0) (hi:=255) (by decide) (by decide) hr) rfl rfl (Nat.le_of_ble_eq_true rfl) ⟨by decide, by decide⟩ rfl ⟨by omega, by omega⟩ (aX1 (by rw [rAppend, if_pos hr]) hS xfr_rf)
  refine xK_of2 (L0 := [(0, _), (1, _)]) (by decide +kernel) rfl (Nat.le_of_ble_eq_true rfl) rfl ?_
  refine xs_iload_n dA_append_0 rfl ?_
  refine xs_iconst (v := 0) dA_append_1 (by decide) ?_
  refine xs_sipush (v := 255) dA_append_2 (by decide) ?_
  refine xs_cS_v (As := [_, _, _]) dA_append_5 lkA_76 (k_A_rr (lo:=0) (hi:=255) (by decide) (by decide) hr) rfl rfl (Nat.le_of_ble_eq_true rfl) ⟨by decide, by decide⟩ ⟨by omega, by omega⟩ ?_
  refine xs_aload_n dA_append_8 rfl ?_
  refine xs_get dA_append_9 flA_10 (by repeat (first | assumption | exact va_up_self _ _ _ | refine (va_up_ne _ _ (by omega)).trans ?_)) rfl ?_
  refine xs_get dA_append_12 flA_80 (by repeat (first | assumption | exact va_up_self _ _ _ | refine (va_up_ne _ _ (by omega)).trans ?_)) rfl ?_
  refine xs_bipush (v := 100) dA_append_15 (by decide) ?_
  refine xs_icmp_lt dA_append_17 (fun h => ?_) (fun h => ?_)
  · have hl : S.1.length < 100 := (nI_ltI (by omega) (by decide)).mp h
    obtain ⟨k, hk, hck⟩ : ∃ k : Nat, c.toInt = (k : Int) ∧ k < 256 := ⟨c.toInt.toNat, by omega, by omega⟩
    have hc2 : c = nI k := by rw [iI_nat, ← hk, iT]
    have hR : rAppend S c.toInt = (0, ((S.1.length + 1 : Nat) : Int), (S.1 ++ [k], S.2)) := by rw [rAppend, if_neg (fun q => q hr), if_neg (by omega), hk, Int.toNat_natCast]
    rw [hR]
    subst hc2
    refine xs_aload_n dA_append_30 rfl ?_
    refine xs_get dA_append_31 flA_10 (by repeat (first | assumption | exact va_up_self _ _ _ | refine (va_up_ne _ _ (by omega)).trans ?_)) rfl ?_
    refine xs_iload_n dA_append_34 rfl ?_
    refine xs_cV_vx (As := [_]) dA_append_35 lkA_91 (by repeat (first | assumption | exact va_up_self _ _ _ | refine (va_up_ne _ _ (by omega)).trans ?_)) (k_X_put htx hl hck) rfl rfl (Nat.le_of_ble_eq_true rfl) ⟨by decide, by decide⟩ ⟨by omega, by omega⟩ ?_
    intro H ⟨h1, h2⟩
    have hcH : H a = fzc a lis := by rw [h2 _ (by omega)]; exact hc
    obtain ⟨htc2, _⟩ := txt_cell h1
    refine xs_aload_n dA_append_38 rfl ?_
    refine xs_get dA_append_39 flA_10 (by repeat (first | assumption | exact va_up_self _ _ _ | refine (va_up_ne _ _ (by omega)).trans ?_)) rfl ?_
    refine xs_get dA_append_42 flA_80 (by repeat (first | assumption | exact va_up_self _ _ _ | refine (va_up_ne _ _ (by omega)).trans ?_)) rfl ?_
    exact xs_iret dA_append_45 rfl rfl (by omega) (by omega) (aOk rfl (by rw [List.length_append, List.length_singleton, iI_nat]) ⟨_, _, fzx_txt hx h2 ⟨_, _, _, h1⟩⟩ (xfr_mono h2 (by omega) (by omega)))
  · have hl : 100 ≤ S.1.length := by
      rcases Nat.lt_or_ge S.1.length 100 with q | q
      · exact absurd ((nI_ltI (b := 100) (by omega) (by decide)).mpr q) h
      · exact q
    exact xs_throw rfl rfl xtS (List.mem_of_getElem? (i := 1) rfl) dA_append_20 dA_append_23 dA_append_24 dA_append_26 dA_append_29 (Nat.le_of_ble_eq_true rfl) ⟨by decide, by decide⟩ (by omega) (by omega) (aX2 (by rw [rAppend, if_neg (fun q => q hr), if_pos hl]) hS xfr_rf)
theorem k_A_clearText (hx : fzo G a S) : xK mA_clearText [.ref a] n G 1 6 (aPost n a G (rClear S)) xNo := by
  obtain ⟨Vt, lis, hx⟩ := hx
  obtain ⟨hc, htx, hpr, htr, hhi, hsa, hiv, hzp, hzt, hfm, hgr, hsc, hs0, hs1⟩ := id hx
  obtain ⟨p, told, ix, htx⟩ := htx
  obtain ⟨htc, htl⟩ := txt_cell htx
  have h1 : txt (va_up G (a + 1) (.inr (1, [.ref (a + 1 + 1), .int (nI 0), .int (nI p), .int (nI told), .ref (a + 1 + 2)]))) (a + 1) [] p told ix := by
    obtain ⟨⟨code, ⟨g0, g1, g2⟩, hr⟩, hb, hp, ht⟩ := htx
    exact ⟨⟨code, ⟨va_up_self _ _ _, (by repeat (first | assumption | exact va_up_self _ _ _ | refine (va_up_ne _ _ (by omega)).trans ?_)), (by repeat (first | assumption | exact va_up_self _ _ _ | refine (va_up_ne _ _ (by omega)).trans ?_))⟩, fun i c hi => by cases hi⟩, ⟨Nat.zero_le _, fun c hc => absurd hc List.not_mem_nil⟩, hp, ht⟩
  have h2 : xfr (a + 1) (a + 4) G (va_up G (a + 1) (.inr (1, [.ref (a + 1 + 1), .int (nI 0), .int (nI p), .int (nI told), .ref (a + 1 + 2)]))) := xfr_up xfr_rf (by omega) (by omega)
  refine xK_of2 (L0 := [(0, _)]) (by decide +kernel) rfl (Nat.le_of_ble_eq_true rfl) rfl ?_
  refine xs_aload_n dA_clearText_0 rfl ?_
  refine xs_get dA_clearText_1 flA_10 (by repeat (first | assumption | exact va_up_self _ _ _ | refine (va_up_ne _ _ (by omega)).trans ?_)) rfl ?_
  refine xs_get dA_clearText_4 flA_80 (by repeat (first | assumption | exact va_up_self _ _ _ | refine (va_up_ne _ _ (by omega)).trans ?_)) rfl ?_
  refine xs_istore_n (L2 := [(1, _), (0, _)]) dA_clearText_7 (by decide) rfl ?_
  refine xs_aload_n dA_clearText_8 rfl ?_
  refine xs_get dA_clearText_9 flA_10 (by repeat (first | assumption | exact va_up_self _ _ _ | refine (va_up_ne _ _ (by omega)).trans ?_)) rfl ?_
  refine xs_iconst (v := 0) dA_clearText_12 (by decide) ?_
  refine xs_put dA_clearText_13 flA_80 ft1_1 (by repeat (first | assumption | exact va_up_self _ _ _ | refine (va_up_ne _ _ (by omega)).trans ?_)) (fun _ => rfl) (fun _ => rfl) (by simp) ?_
  refine xs_iload_n dA_clearText_16 rfl ?_
  exact xs_iret dA_clearText_17 rfl rfl (by omega) (by omega) (aOk rfl (iI_nat _) ⟨_, _, fzx_txt (T2 := []) hx h2 ⟨_, _, _, h1⟩⟩ (xfr_mono h2 (by omega) (by omega)))
theorem k_A_errorPosition (hx : fzo G a S) : xK mA_errorPosition [.ref a] n G 1 6 (aPost n a G (rErr S)) xNo := by
  obtain ⟨Vt, lis, hx⟩ := hx
  obtain ⟨hc, htx, hpr, htr, hhi, hsa, hiv, hzp, hzt, hfm, hgr, hsc, hs0, hs1⟩ := id hx
  obtain ⟨p, told, ix, htx⟩ := htx
  obtain ⟨htc, htl⟩ := txt_cell htx
  refine xK_of2 (L0 := [(0, _)]) (by decide +kernel) rfl (Nat.le_of_ble_eq_true rfl) rfl ?_
  refine xs_aload_n dA_errorPosition_0 rfl ?_
  refine xs_get dA_errorPosition_1 flA_10 (by repeat (first | assumption | exact va_up_self _ _ _ | refine (va_up_ne _ _ (by omega)).trans ?_)) rfl ?_
  refine xs_aload_n dA_errorPosition_4 rfl ?_
  refine xs_get dA_errorPosition_5 flA_23 (by repeat (first | assumption | exact va_up_self _ _ _ | refine (va_up_ne _ _ (by omega)).trans ?_)) rfl ?_
  refine xs_cV_ix (As := [_]) dA_errorPosition_8 lkA_95 (by repeat (first | assumption | exact va_up_self _ _ _ | refine (va_up_ne _ _ (by omega)).trans ?_)) (k_X_readInto htx htr (by omega)) rfl rfl (Nat.le_of_ble_eq_true rfl) ⟨by decide, by decide⟩ ⟨by omega, by omega⟩ ?_
  intro r H ⟨h1, ⟨ix2, p2, told2, h2⟩, ⟨W, h3, h4⟩, h5⟩
  exact xs_iret dA_errorPosition_11 rfl rfl (by omega) (by omega) (aOk rfl (h1.trans (rP_e _)) ⟨_, _, fzx_rd hx h5 ⟨_, _, _, h2⟩ h3⟩ (fun k hk => h5 k (by omega) (by omega)))
theorem k_A_load (hx : fzo G a S) : xK mA_load [.ref a] n G 1 6 (aPost n a G (rLoad S)) (aExc n a G (rLoad S) eS eS) := by
  obtain ⟨Vt, lis, hx⟩ := hx
  obtain ⟨hc, htx, hpr, htr, hhi, hsa, hiv, hzp, hzt, hfm, hgr, hsc, hs0, hs1⟩ := id hx
  obtain ⟨p, told, ix, htx⟩ := htx
  obtain ⟨htc, htl⟩ := txt_cell htx
  refine xK_of2 (L0 := [(0, _)]) (by decide +kernel) rfl (Nat.le_of_ble_eq_true rfl) rfl ?_
  refine xs_aload_n dA_load_0 rfl ?_
  refine xs_get dA_load_1 flA_10 (by repeat (first | assumption | exact va_up_self _ _ _ | refine (va_up_ne _ _ (by omega)).trans ?_)) rfl ?_
  refine xs_aload_n dA_load_4 rfl ?_
  refine xs_get dA_load_5 flA_23 (by repeat (first | assumption | exact va_up_self _ _ _ | refine (va_up_ne _ _ (by omega)).trans ?_)) rfl ?_
  refine xs_cV_ix (As := [_]) dA_load_8 lkA_95 (by repeat (first | assumption | exact va_up_self _ _ _ | refine (va_up_ne _ _ (by omega)).trans ?_)) (k_X_readInto htx htr (by omega)) rfl rfl (Nat.le_of_ble_eq_true rfl) ⟨by decide, by decide⟩ ⟨by omega, by omega⟩ ?_
  intro r H ⟨h1, ⟨ix2, p2, told2, h2⟩, ⟨W, h3, h4⟩, h5⟩
  subst h1
  have hx2 : fzx H a S.1 S.2.1 W S.2.2.1 S.2.2.2 lis := fzx_rd hx h5 ⟨_, _, _, h2⟩ h3
  have hf2 : xfr a (a + 528) G H := fun k hk => h5 k (by omega) (by omega)
  have hcH := hx2.1
  refine xs_ldc dA_load_11 kcA_99 ?_
  refine xs_icmp_eq dA_load_13 (fun h => ?_) (fun h => ?_)
  · obtain ⟨U, hU⟩ := (rP_no htl).mp h
    have e := h4 U hU
    subst e
    have hR : rLoad S = (0, (W.1.length : Int), (S.1, W, [], (none, none))) := by rw [rLoad, hU]
    rw [hR]
    refine xs_aload_n dA_load_26 rfl ?_
    refine xs_aload_n dA_load_27 rfl ?_
    refine xs_get dA_load_28 flA_23 (by repeat (first | assumption | exact va_up_self _ _ _ | refine (va_up_ne _ _ (by omega)).trans ?_)) rfl ?_
    refine xs_cV_vx (As := [_]) dA_load_31 lkA_102 (by repeat (first | assumption | exact va_up_self _ _ _ | refine (va_up_ne _ _ (by omega)).trans ?_)) (k_A_replacePresent hx2 h3 (by omega)) rfl rfl (Nat.le_of_ble_eq_true rfl) ⟨by decide, by decide⟩ ⟨by omega, by omega⟩ ?_
    intro H3 ⟨hx3, hf3⟩
    have hf4 := xfr_tr hf2 hf3
    have step : ∀ (m i : Nat) (H4 : xG) (bs : Nat → Int32) (O : Option zV × Option zV), 2 - i < m → i ≤ 2 → fzx H4 a S.1 W W [] O false → xfr a (a + 528) G H4 → H4 (a + 119) = .inl (2, 2, .inl bs) → (bs 0 = bI O.1.isSome ∧ bs 1 = bI O.2.isSome) → (0 < i → O.1 = none) → (1 < i → O.2 = none) →
        xS mA_load n 1 6 (aPost n a G (0, (W.1.length : Int), (S.1, W, [], (none, none)))) (aExc n a G (0, (W.1.length : Int), (S.1, W, [], (none, none))) eS eS) 36 [(0, .ref a), (1, .int (nI i))] [] n H4 0 0 := by
      intro m
      induction m with
      | zero => intro i H4 bs O q; exact absurd q (by omega)
      | succ m ih =>
        intro i H4 bs O q1 q2 hx4 hf4 hbs hb h0 h1
        have hc4 := hx4.1
        refine xs_iload_n dA_load_36 rfl ?_
        refine xs_iconst (v := 2) dA_load_37 (by decide) ?_
        refine xs_icmp_ge dA_load_38 (fun hg => ?_) (fun hg => ?_)
        · have hi := (nI_leI (a := 2) (by omega) (by omega)).mp hg
          have hpc := cry_cell hx4.2.2.1
          refine xs_aload_n dA_load_54 rfl ?_
          refine xs_get dA_load_55 flA_19 (by repeat (first | assumption | exact va_up_self _ _ _ | refine (va_up_ne _ _ (by omega)).trans ?_)) rfl ?_
          refine xs_get dA_load_58 flA_106 (by repeat (first | assumption | exact va_up_self _ _ _ | refine (va_up_ne _ _ (by omega)).trans ?_)) rfl ?_
          have e : O = (none, none) := Prod.ext (h0 (by omega)) (h1 (by omega))
          subst e
          exact xs_iret dA_load_61 rfl rfl (by omega) (by omega) (aOk rfl (iI_nat _) ⟨_, _, hx4⟩ hf4)
        · have hi : i < 2 := nI_lt_of (b := 2) (by omega) (by omega) hg
          have hin : vp_in (nI i) 2 := vp_in_nI hi (by omega)
          refine xs_aload_n dA_load_41 rfl ?_
          refine xs_get dA_load_42 flA_37 (by repeat (first | assumption | exact va_up_self _ _ _ | refine (va_up_ne _ _ (by omega)).trans ?_)) rfl ?_
          refine xs_iload_n dA_load_45 rfl ?_
          refine xs_iconst (v := 0) dA_load_46 (by decide) ?_
          refine xs_zast dA_load_47 (by repeat (first | assumption | exact va_up_self _ _ _ | refine (va_up_ne _ _ (by omega)).trans ?_)) (by assumption) ?_
          refine xs_iinc (L2 := [(1, _), (0, _)]) dA_load_48 rfl rfl (by decide) rfl ?_
          refine xs_goto dA_load_51 ?_
          refine xs_pick (L2 := [(0, _), (1, _)]) [1, 0] rfl ?_
          rw [xii, nI_clamp (by omega)]
          obtain ⟨_, _, _, _, _, _, _, _, _, _, _, _, hs0, hs1⟩ := id hx4
          have hnar : vp_nar .boolean 0 = 0 := by decide
          rw [hnar]
          by_cases hi0 : i = 0
          · subst hi0
            refine ih 1 _ (upd bs 0 0) (none, O.2) (by omega) (by omega) (fzx_isv hx4 (fun k hk _ => va_up_ne _ _ hk) ⟨_, va_up_self _ _ _, ?_, ?_⟩ ?_ ?_) (xfr_up hf4 (by omega) (by omega)) (va_up_self _ _ _) ⟨?_, ?_⟩ (fun _ => rfl) (fun q => absurd q (by omega))
            · simp [upd, bI]
            · simp only [upd]
              rw [if_neg (by decide)]
              exact hb.2
            · obtain ⟨W0, w1, w2⟩ := hs0
              exact ⟨W0, cry_fr w1 (fun k _ _ => va_up_ne _ _ (by omega)), fun V hV => by cases hV⟩
            · exact zsv_fr hs1 (fun k _ _ => va_up_ne _ _ (by omega))
            · simp [upd, bI]
            · simp only [upd]
              rw [if_neg (by decide)]
              exact hb.2
          · have hi1 : i = 1 := by omega
            subst hi1
            refine ih 2 _ (upd bs 1 0) (O.1, none) (by omega) (by omega) (fzx_isv hx4 (fun k hk _ => va_up_ne _ _ hk) ⟨_, va_up_self _ _ _, ?_, ?_⟩ ?_ ?_) (xfr_up hf4 (by omega) (by omega)) (va_up_self _ _ _) ⟨?_, ?_⟩ (fun _ => h0 (by omega)) (fun _ => rfl)
            · simp only [upd]
              rw [if_neg (by decide)]
              exact hb.1
            · simp [upd, bI]
            · exact zsv_fr hs0 (fun k _ _ => va_up_ne _ _ (by omega))
            · obtain ⟨W0, w1, w2⟩ := hs1
              exact ⟨W0, cry_fr w1 (fun k _ _ => va_up_ne _ _ (by omega)), fun V hV => by cases hV⟩
            · simp only [upd]
              rw [if_neg (by decide)]
              exact hb.1
            · simp [upd, bI]
    obtain ⟨bs, hb1, hb2⟩ := hx3.2.2.2.2.2.2.1
    refine xs_iconst (v := 0) dA_load_34 (by decide) ?_
    refine xs_istore_n (L2 := [(1, _), (0, _)]) dA_load_35 (by decide) rfl ?_
    refine xs_pick (L2 := [(0, _), (1, _)]) [1, 0] rfl ?_
    exact step 3 0 H3 bs _ (by omega) (by omega) hx3 hf4 hb1 hb2 (fun q => absurd q (by omega)) (fun q => absurd q (by omega))
  · have hn : (pRead S.1).1 = none := by
      cases hp : (pRead S.1).1 with
      | none => rfl
      | some U => exact absurd ((rP_no htl).mpr ⟨U, hp⟩) h
    exact xs_throw rfl rfl xtS (List.mem_of_getElem? (i := 2) rfl) dA_load_16 dA_load_19 dA_load_20 dA_load_22 dA_load_25 (Nat.le_of_ble_eq_true rfl) ⟨by decide, by decide⟩ (by omega) (by omega) (aX1 (by rw [rLoad, hn]) ⟨_, _, hx2⟩ hf2)
end A4
