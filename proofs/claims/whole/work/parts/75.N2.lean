section N2
variable {n b : Nat} {G : xG} {rf ac zs ft : Int32} {T : List Nat} {p : Nat} {gd : Bool} {sc : Nat → Int32}
theorem k_B_isNext {c : Nat} (hc : G b = mCl b rf (nI T.length) (nI p) gd ac zs ft) (hs : G (b + 1) = oI 100 sc) (hsc : ∀ i c, T[i]? = some c → sc i = nI c) (hT : T.length ≤ 100 ∧ ∀ c ∈ T, c < 256) (hp : p ≤ 100) (hc2 : c < 256) : xK mB_isNext [.ref b, .int (nI c)] n G 0 0 (qI n G (bI (decide (T[p]? = some c)))) xNo := by
  refine xK_of2 (L0 := [(0, _), (1, _)]) (by decide +kernel) rfl (Nat.le_of_ble_eq_true rfl) rfl ?_
  refine xs_aload_n dB_isNext_0 rfl ?_
  refine xs_get dB_isNext_1 flB_180 (by repeat (first | exact va_up_self _ _ _ | assumption | refine (va_up_ne _ _ (by omega)).trans ?_)) rfl ?_
  refine xs_aload_n dB_isNext_4 rfl ?_
  refine xs_get dB_isNext_5 flB_173 (by repeat (first | exact va_up_self _ _ _ | assumption | refine (va_up_ne _ _ (by omega)).trans ?_)) rfl ?_
  refine xs_icmp_ge dB_isNext_8 (fun q => ?_) (fun q => ?_)
  · have hpl := (nI_leI (by omega) (by omega)).mp q
    have hn : ¬ T[p]? = some c := fun e => by
      have := (List.getElem?_eq_some_iff.mp e).1
      omega
    refine xs_iconst (v := 0) dB_isNext_28 (by decide) ?_
    exact xs_iret dB_isNext_29 rfl rfl (by omega) (by omega) ⟨by rw [bI_f hn], rfl, rfl⟩
  · have hpl : p < T.length := nI_lt_of (by omega) (by omega) q
    obtain ⟨x, hx⟩ : ∃ x, T[p]? = some x := ⟨_, List.getElem?_eq_getElem hpl⟩
    have hx256 := hT.2 x (List.mem_of_getElem? hx)
    have v1 : vp_in (nI p) 100 := vp_in_nI (by omega) (by omega)
    have w1 : sc (nI p).toNatClampNeg = nI x := by rw [nI_clamp (by omega)]; exact hsc p x hx
    refine xs_aload_n dB_isNext_11 rfl ?_
    refine xs_get dB_isNext_12 flB_7 (by repeat (first | exact va_up_self _ _ _ | assumption | refine (va_up_ne _ _ (by omega)).trans ?_)) rfl ?_
    refine xs_aload_n dB_isNext_15 rfl ?_
    refine xs_get dB_isNext_16 flB_180 (by repeat (first | exact va_up_self _ _ _ | assumption | refine (va_up_ne _ _ (by omega)).trans ?_)) rfl ?_
    refine xs_iald dB_isNext_19 (by repeat (first | exact va_up_self _ _ _ | assumption | refine (va_up_ne _ _ (by omega)).trans ?_)) (by assumption) ?_
    refine xs_iload_n dB_isNext_20 rfl ?_
    rw [w1]
    refine xs_icmp_ne dB_isNext_21 (fun q => ?_) (fun q => ?_)
    · have hn : ¬ T[p]? = some c := fun e => by
        rw [hx] at e
        cases e
        exact q rfl
      refine xs_iconst (v := 0) dB_isNext_28 (by decide) ?_
      exact xs_iret dB_isNext_29 rfl rfl (by omega) (by omega) ⟨by rw [bI_f hn], rfl, rfl⟩
    · have hxc : x = c := (nI_eq (by omega) (by omega)).mp q
      refine xs_iconst (v := 1) dB_isNext_24 (by decide) ?_
      refine xs_goto dB_isNext_25 ?_
      exact xs_iret dB_isNext_29 rfl rfl (by omega) (by omega) ⟨by rw [bI_t (by rw [hx, hxc])], rfl, rfl⟩
theorem k_B_accept {is : Bool} {sz : Int32} (hc : G b = mCl b rf sz (nI p) gd ac zs ft) : xK mB_accept [.ref b, .int (bI is)] n G 0 0 (qV n (va_up G b (mCl b rf sz (nI (if (gd && is) = true then p + 1 else p)) (gd && is) ac zs ft))) xNo := by
  have rest : ∀ g : Bool, g = (gd && is) → xS mB_accept n 0 0 (qV n (va_up G b (mCl b rf sz (nI (if (gd && is) = true then p + 1 else p)) (gd && is) ac zs ft))) xNo 17 [(0, .ref b), (1, .int (bI is))] [.int (bI g), .ref b] n G 0 0 := by
    intro g hg
    rw [← hg]
    refine xs_put dB_accept_17 flB_183 ft8_4 (by repeat (first | exact va_up_self _ _ _ | assumption | refine (va_up_ne _ _ (by omega)).trans ?_)) (fun _ => bI_n _) (fun _ => by cases g <;> rfl) (by simp) ?_
    refine xs_aload_n dB_accept_20 rfl ?_
    refine xs_dup dB_accept_21 rfl ?_
    refine xs_get dB_accept_22 flB_180 (by repeat (first | exact va_up_self _ _ _ | assumption | refine (va_up_ne _ _ (by omega)).trans ?_)) rfl ?_
    refine xs_aload_n dB_accept_25 rfl ?_
    refine xs_get dB_accept_26 flB_183 (by repeat (first | exact va_up_self _ _ _ | assumption | refine (va_up_ne _ _ (by omega)).trans ?_)) rfl ?_
    cases g with
    | true =>
      refine xs_if_eq dB_accept_29 (fun q => absurd q (show ¬ bI true = 0 by decide)) (fun _ => ?_)
      refine xs_iconst (v := 1) dB_accept_32 (by decide) ?_
      refine xs_goto dB_accept_33 ?_
      refine xs_iadd dB_accept_37 ?_
      rw [add1]
      refine xs_put dB_accept_38 flB_180 ft8_3 (by repeat (first | exact va_up_self _ _ _ | assumption | refine (va_up_ne _ _ (by omega)).trans ?_)) (fun _ => rfl) (fun _ => rfl) (by simp) ?_
      rw [bx_uu]
      exact xs_vret dB_accept_41 rfl (by omega) (by omega) ⟨rfl, rfl, rfl⟩
    | false =>
      refine xs_if_eq dB_accept_29 (fun _ => ?_) (fun q => absurd rfl q)
      refine xs_iconst (v := 0) dB_accept_36 (by decide) ?_
      refine xs_iadd dB_accept_37 ?_
      rw [show nI p + 0 = nI p from nI_add2 p 0]
      refine xs_put dB_accept_38 flB_180 ft8_3 (by repeat (first | exact va_up_self _ _ _ | assumption | refine (va_up_ne _ _ (by omega)).trans ?_)) (fun _ => rfl) (fun _ => rfl) (by simp) ?_
      rw [bx_uu]
      exact xs_vret dB_accept_41 rfl (by omega) (by omega) ⟨rfl, rfl, rfl⟩
  have no : (gd && is) = false → xS mB_accept n 0 0 (qV n (va_up G b (mCl b rf sz (nI (if (gd && is) = true then p + 1 else p)) (gd && is) ac zs ft))) xNo 16 [(0, .ref b), (1, .int (bI is))] [.ref b] n G 0 0 := by
    intro h
    refine xs_iconst (v := 0) dB_accept_16 (by decide) ?_
    exact rest false h.symm
  refine xK_of2 (L0 := [(0, _), (1, _)]) (by decide +kernel) rfl (Nat.le_of_ble_eq_true rfl) rfl ?_
  refine xs_aload_n dB_accept_0 rfl ?_
  refine xs_aload_n dB_accept_1 rfl ?_
  refine xs_get dB_accept_2 flB_183 (by repeat (first | exact va_up_self _ _ _ | assumption | refine (va_up_ne _ _ (by omega)).trans ?_)) rfl ?_
  refine xs_ifb_eq dB_accept_5 (fun h => no (by rw [h]; rfl)) (fun h => ?_)
  refine xs_iload_n dB_accept_8 rfl ?_
  refine xs_ifb_eq dB_accept_9 (fun h2 => no (by rw [h, h2]; rfl)) (fun h2 => ?_)
  refine xs_iconst (v := 1) dB_accept_12 (by decide) ?_
  refine xs_goto dB_accept_13 ?_
  exact rest true (by rw [h, h2]; rfl)
theorem k_B_digit {lo hi : Nat} (hc : G b = mCl b rf (nI T.length) (nI p) gd ac zs ft) (hs : G (b + 1) = oI 100 sc) (hsc : ∀ i c, T[i]? = some c → sc i = nI c) (hT : T.length ≤ 100 ∧ ∀ c ∈ T, c < 256) (hp : p ≤ 100) (hlo : lo < 10) (hhi : hi < 10) : xK mB_digit [.ref b, .int (nI lo), .int (nI hi)] n G 0 0 (qIx n (fun r H => ∃ (v p2 : Nat) (g2 : Bool), r = nI v ∧ v ≤ 9 ∧ H = va_up G b (mCl b rf (nI T.length) (nI p2) g2 ac zs ft) ∧ p2 ≤ 100 ∧ (gd = false → g2 = false ∧ p2 = p) ∧ (gd = true → (pDig T p lo hi = some v ∧ g2 = true ∧ p2 = p + 1) ∨ (pDig T p lo hi = none ∧ g2 = false ∧ p2 = p)))) xNo := by
  -- behind the character
  have rest : ∀ (v : Int), v.natAbs < 1000000 → (∀ d : Nat, pDig T p lo hi = some d → v = (d : Int) ∧ p < T.length) → (pDig T p lo hi = none → ¬ ((0 ≤ v ∧ v ≤ 9) ∧ ((lo : Int) ≤ v ∧ v ≤ hi))) → (∀ d : Nat, pDig T p lo hi = some d → lo ≤ d ∧ d ≤ hi) →
      xS mB_digit n 0 0 (qIx n (fun r H => ∃ (v p2 : Nat) (g2 : Bool), r = nI v ∧ v ≤ 9 ∧ H = va_up G b (mCl b rf (nI T.length) (nI p2) g2 ac zs ft) ∧ p2 ≤ 100 ∧ (gd = false → g2 = false ∧ p2 = p) ∧ (gd = true → (pDig T p lo hi = some v ∧ g2 = true ∧ p2 = p + 1) ∨ (pDig T p lo hi = none ∧ g2 = false ∧ p2 = p)))) xNo 28 [(0, .ref b), (1, .int (nI lo)), (2, .int (nI hi))] [.int (iI v)] n G 0 0 := by
    intro v hv hsome hnone hbd
    have fin : ∀ is : Bool, (is = true ↔ (pDig T p lo hi).isSome) → xS mB_digit n 0 0 (qIx n (fun r H => ∃ (v p2 : Nat) (g2 : Bool), r = nI v ∧ v ≤ 9 ∧ H = va_up G b (mCl b rf (nI T.length) (nI p2) g2 ac zs ft) ∧ p2 ≤ 100 ∧ (gd = false → g2 = false ∧ p2 = p) ∧ (gd = true → (pDig T p lo hi = some v ∧ g2 = true ∧ p2 = p + 1) ∨ (pDig T p lo hi = none ∧ g2 = false ∧ p2 = p)))) xNo 59 [(3, .int (iI v)), (0, .ref b), (1, .int (nI lo)), (2, .int (nI hi))] [.int (bI is), .ref b] n G 0 0 := by
      intro is his
      refine xs_cV_v (As := [_]) dB_digit_59 lkB_189 (by repeat (first | exact va_up_self _ _ _ | assumption | refine (va_up_ne _ _ (by omega)).trans ?_)) (k_B_accept hc) rfl rfl (Nat.le_of_ble_eq_true rfl) ⟨by decide, by decide⟩ ⟨by omega, by omega⟩ ?_
      refine xs_aload_n dB_digit_62 rfl ?_
      refine xs_get dB_digit_63 flB_183 (by repeat (first | exact va_up_self _ _ _ | assumption | refine (va_up_ne _ _ (by omega)).trans ?_)) rfl ?_
      refine xs_ifb_eq dB_digit_66 (fun h => ?_) (fun h => ?_)
      · refine xs_iload_n dB_digit_73 rfl ?_
        refine xs_iret dB_digit_74 rfl rfl (by omega) (by omega) ⟨_, rfl, rfl, lo, p, false, rfl, by omega, by rw [h, if_neg (by decide)], hp, fun _ => ⟨rfl, rfl⟩, fun hg => Or.inr ⟨?_, rfl, rfl⟩⟩
        rw [hg, Bool.true_and] at h
        cases hd : pDig T p lo hi with
        | none => rfl
        | some d =>
          have := his.mpr (by rw [hd]; rfl)
          rw [h] at this
          cases this
      · have hg : gd = true ∧ is = true := by
          cases gd <;> cases is <;> simp_all
        have hiss := his.mp hg.2
        obtain ⟨d, hd⟩ := Option.isSome_iff_exists.mp hiss
        obtain ⟨hvd, hpl⟩ := hsome d hd
        have hb2 := hbd d hd
        refine xs_iload_n dB_digit_69 rfl ?_
        refine xs_goto dB_digit_70 ?_
        exact xs_iret dB_digit_74 rfl rfl (by omega) (by omega) ⟨_, rfl, rfl, d, p + 1, true, by rw [hvd, ← iI_nat], by omega, by rw [h, if_pos rfl], by omega, fun e => absurd (e.symm.trans hg.1) (by decide), fun _ => Or.inl ⟨hd, rfl, rfl⟩⟩
    have no : (pDig T p lo hi = none) → xS mB_digit n 0 0 (qIx n (fun r H => ∃ (v p2 : Nat) (g2 : Bool), r = nI v ∧ v ≤ 9 ∧ H = va_up G b (mCl b rf (nI T.length) (nI p2) g2 ac zs ft) ∧ p2 ≤ 100 ∧ (gd = false → g2 = false ∧ p2 = p) ∧ (gd = true → (pDig T p lo hi = some v ∧ g2 = true ∧ p2 = p + 1) ∨ (pDig T p lo hi = none ∧ g2 = false ∧ p2 = p)))) xNo 58 [(3, .int (iI v)), (0, .ref b), (1, .int (nI lo)), (2, .int (nI hi))] [.ref b] n G 0 0 := by
      intro hd
      refine xs_iconst (v := 0) dB_digit_58 (by decide) ?_
      exact fin false ⟨fun e => by simp at e, fun e => by rw [hd] at e; simp at e⟩
    refine xs_istore_n (L2 := [(3, _), (0, _), (1, _), (2, _)]) dB_digit_28 (by decide) rfl ?_
    refine xs_aload_n dB_digit_29 rfl ?_
    refine xs_iload_n dB_digit_30 rfl ?_
    refine xs_i2l dB_digit_31 ?_
    rw [iI_l (by omega)]
    refine xs_lconst (v := 0) dB_digit_32 (by decide) ?_
    refine xs_ldc2 dB_digit_33 kcB_187 ?_
    refine xs_cS_i (As := [_, _, _]) dB_digit_36 lkB_169 (k_B_in (x:=v) (lo:=0) (hi:=9) (by omega) (by decide) (by decide)) rfl rfl (Nat.le_of_ble_eq_true rfl) ⟨by decide, by decide⟩ ⟨by omega, by omega⟩ ?_
    by_cases q1 : 0 ≤ v ∧ v ≤ 9
    · rw [bI_t q1]
      refine xs_if_eq dB_digit_39 (fun q => absurd q (by decide)) (fun _ => ?_)
      refine xs_iload_n dB_digit_42 rfl ?_
      refine xs_i2l dB_digit_43 ?_
      refine xs_iload_n dB_digit_44 rfl ?_
      refine xs_i2l dB_digit_45 ?_
      refine xs_iload_n dB_digit_46 rfl ?_
      refine xs_i2l dB_digit_47 ?_
      rw [iI_l (by omega), iI_nat lo, iI_nat hi, iI_l (by omega), iI_l (by omega)]
      refine xs_cS_i (As := [_, _, _]) dB_digit_48 lkB_169 (k_B_in (x:=v) (lo:=(lo : Int)) (hi:=(hi : Int)) (by omega) (by omega) (by omega)) rfl rfl (Nat.le_of_ble_eq_true rfl) ⟨by decide, by decide⟩ ⟨by omega, by omega⟩ ?_
      rw [← iI_nat lo, ← iI_nat hi]
      by_cases q2 : (lo : Int) ≤ v ∧ v ≤ hi
      · rw [bI_t q2]
        refine xs_if_eq dB_digit_51 (fun q => absurd q (by decide)) (fun _ => ?_)
        refine xs_iconst (v := 1) dB_digit_54 (by decide) ?_
        refine xs_goto dB_digit_55 ?_
        refine fin true ⟨fun _ => ?_, fun _ => rfl⟩
        cases hd : pDig T p lo hi with
        | some d => rfl
        | none => exact absurd ⟨q1, q2⟩ (hnone hd)
      · rw [bI_f q2]
        refine xs_if_eq dB_digit_51 (fun _ => ?_) (fun q => absurd rfl q)
        refine no ?_
        cases hd : pDig T p lo hi with
        | none => rfl
        | some d =>
          have w1 := (hsome d hd).1
          have w2 := hbd d hd
          exact absurd ⟨by omega, by omega⟩ q2
    · rw [bI_f q1]
      refine xs_if_eq dB_digit_39 (fun _ => ?_) (fun q => absurd rfl q)
      refine no ?_
      cases hd : pDig T p lo hi with
      | none => rfl
      | some d =>
        have w1 := (hsome d hd).1
        have w2 := hbd d hd
        exact absurd ⟨by omega, by omega⟩ q1
  refine xK_of2 (L0 := [(0, _), (1, _), (2, _)]) (by decide +kernel) rfl (Nat.le_of_ble_eq_true rfl) rfl ?_
  refine xs_aload_n dB_digit_0 rfl ?_
  refine xs_get dB_digit_1 flB_180 (by repeat (first | exact va_up_self _ _ _ | assumption | refine (va_up_ne _ _ (by omega)).trans ?_)) rfl ?_
  refine xs_aload_n dB_digit_4 rfl ?_
  refine xs_get dB_digit_5 flB_173 (by repeat (first | exact va_up_self _ _ _ | assumption | refine (va_up_ne _ _ (by omega)).trans ?_)) rfl ?_
  refine xs_icmp_ge dB_digit_8 (fun q => ?_) (fun q => ?_)
  · have hpl := (nI_leI (by omega) (by omega)).mp q
    have hTn : T[p]? = none := List.getElem?_eq_none_iff.mpr hpl
    have hpd : pDig T p lo hi = none := by unfold pDig; rw [hTn]
    refine xs_ldc dB_digit_26 kcB_109 ?_
    exact rest (-99999) (by decide) (fun d hd => by rw [hpd] at hd; cases hd) (fun _ => by omega) (fun d hd => by rw [hpd] at hd; cases hd)
  · have hpl : p < T.length := nI_lt_of (by omega) (by omega) q
    obtain ⟨x, hx⟩ : ∃ x, T[p]? = some x := ⟨_, List.getElem?_eq_getElem hpl⟩
    have hx256 := hT.2 x (List.mem_of_getElem? hx)
    have v1 : vp_in (nI p) 100 := vp_in_nI (by omega) (by omega)
    have w1 : sc (nI p).toNatClampNeg = nI x := by rw [nI_clamp (by omega)]; exact hsc p x hx
    have hpd : pDig T p lo hi = if 48 + lo ≤ x ∧ x ≤ 48 + hi then some (x - 48) else none := by unfold pDig; rw [hx]
    refine xs_aload_n dB_digit_11 rfl ?_
    refine xs_get dB_digit_12 flB_7 (by repeat (first | exact va_up_self _ _ _ | assumption | refine (va_up_ne _ _ (by omega)).trans ?_)) rfl ?_
    refine xs_aload_n dB_digit_15 rfl ?_
    refine xs_get dB_digit_16 flB_180 (by repeat (first | exact va_up_self _ _ _ | assumption | refine (va_up_ne _ _ (by omega)).trans ?_)) rfl ?_
    refine xs_iald dB_digit_19 (by repeat (first | exact va_up_self _ _ _ | assumption | refine (va_up_ne _ _ (by omega)).trans ?_)) (by assumption) ?_
    refine xs_bipush (v := 48) dB_digit_20 (by decide) ?_
    refine xs_isub dB_digit_22 ?_
    rw [w1, iI_nat x, show (48 : Int32) = iI 48 from rfl, iI_sub]
    refine xs_goto dB_digit_23 ?_
    refine rest _ (by omega) (fun d hd => ?_) (fun hd => ?_) (fun d hd => ?_)
    · rw [hpd] at hd
      split at hd
      · cases hd
        exact ⟨by omega, hpl⟩
      · cases hd
    · rw [hpd] at hd
      split at hd
      · cases hd
      · omega
    · rw [hpd] at hd
      split at hd
      · cases hd
        omega
      · cases hd
theorem k_B_index {hi : Nat} {may : Bool} (hc : G b = mCl b rf (nI T.length) (nI p) gd ac zs ft) (hs : G (b + 1) = oI 100 sc) (hsc : ∀ i c, T[i]? = some c → sc i = nI c) (hT : T.length ≤ 100 ∧ ∀ c ∈ T, c < 256) (hp : p ≤ 100) (hhi : hi < 10) : xK mB_index [.ref b, .int (nI hi), .int (bI may)] n G 0 0 (qIx n (fun r H => ∃ (v : Int) (p2 : Nat) (g2 : Bool), r = iI v ∧ v.natAbs ≤ 9 ∧ H = va_up G b (mCl b rf (nI T.length) (nI p2) g2 ac zs ft) ∧ p2 ≤ 100 ∧ (gd = false → g2 = false ∧ p2 = p) ∧ (gd = true → pIx T p hi (!may) = (if g2 = true then some v else none, p2)))) xNo := by
  refine xK_of2 (L0 := [(0, _), (1, _), (2, _)]) (by decide +kernel) rfl (Nat.le_of_ble_eq_true rfl) rfl ?_
  refine xs_aload_n dB_index_0 rfl ?_
  refine xs_bipush (v := 45) dB_index_1 (by decide) ?_
  refine xs_cV_i (As := [_]) dB_index_3 lkB_193 (by repeat (first | exact va_up_self _ _ _ | assumption | refine (va_up_ne _ _ (by omega)).trans ?_)) (k_B_isNext (c:=45) hc hs hsc hT hp (by decide)) rfl rfl (Nat.le_of_ble_eq_true rfl) ⟨by decide, by decide⟩ ⟨by omega, by omega⟩ ?_
  by_cases h45 : T[p]? = some 45
  · rw [bI_t h45]
    refine xs_if_eq dB_index_6 (fun q => absurd q (by decide)) (fun _ => ?_)
    have hpl := (List.getElem?_eq_some_iff.mp h45).1
    have ht : bI true = 1 := rfl
    refine xs_aload_n dB_index_9 rfl ?_
    refine xs_iconst (v := 1) dB_index_10 (by decide) ?_
    refine xs_cV_v (As := [_]) dB_index_11 lkB_189 (by repeat (first | exact va_up_self _ _ _ | assumption | refine (va_up_ne _ _ (by omega)).trans ?_)) (k_B_accept (is:=true) hc) rfl rfl (Nat.le_of_ble_eq_true rfl) ⟨by decide, by decide⟩ ⟨by omega, by omega⟩ ?_
    rw [Bool.and_true]
    obtain ⟨H1, hH1⟩ : ∃ H1, H1 = va_up G b (mCl b rf (nI T.length) (nI (if gd = true then p + 1 else p)) gd ac zs ft) := ⟨_, rfl⟩
    refine xs_at (H := H1) hH1.symm ?_
    have c1 : H1 b = mCl b rf (nI T.length) (nI (if gd = true then p + 1 else p)) gd ac zs ft := by rw [hH1, va_up_self]
    have s1 : H1 (b + 1) = oI 100 sc := by rw [hH1, va_up_ne _ _ (by omega)]; exact hs
    refine xs_aload_n dB_index_14 rfl ?_
    refine xs_iconst (v := 1) dB_index_15 (by decide) ?_
    refine xs_iload_n dB_index_16 rfl ?_
    refine xs_cV_ix (As := [_, _]) dB_index_17 lkB_196 (by repeat (first | exact va_up_self _ _ _ | assumption | refine (va_up_ne _ _ (by omega)).trans ?_)) (k_B_digit (lo:=1) (hi:=hi) c1 s1 hsc hT (by split <;> omega) (by decide) hhi) rfl rfl (Nat.le_of_ble_eq_true rfl) ⟨by decide, by decide⟩ ⟨by omega, by omega⟩ ?_
    intro r H2 ⟨v, p2, g2, e1, e2, e3, e4, e5, e6⟩
    subst e1
    refine xs_ineg dB_index_20 ?_
    refine xs_iret dB_index_21 rfl rfl (by omega) (by omega) ⟨_, rfl, rfl, -(v : Int), p2, g2, by rw [iI_nat, iI_neg], by omega, by rw [e3, hH1, bx_uu], e4, fun hg => ?_, fun hg => ?_⟩
    · obtain ⟨w1, w2⟩ := e5 hg
      rw [hg] at w2
      exact ⟨w1, w2⟩
    · have e6 := e6 hg
      rw [hg, if_pos rfl] at e6
      unfold pIx
      rw [if_pos h45]
      rcases e6 with ⟨w1, w2, w3⟩ | ⟨w1, w2, w3⟩
      · rw [w1, w2, w3]
        rfl
      · rw [w1, w2, w3]
        rfl
  · rw [bI_f h45]
    refine xs_if_eq dB_index_6 (fun _ => ?_) (fun q => absurd rfl q)
    have rest : ∀ lo : Nat, lo = (if may = true then 0 else 1) → xS mB_index n 0 0 (qIx n (fun r H => ∃ (v : Int) (p2 : Nat) (g2 : Bool), r = iI v ∧ v.natAbs ≤ 9 ∧ H = va_up G b (mCl b rf (nI T.length) (nI p2) g2 ac zs ft) ∧ p2 ≤ 100 ∧ (gd = false → g2 = false ∧ p2 = p) ∧ (gd = true → pIx T p hi (!may) = (if g2 = true then some v else none, p2)))) xNo 32 [(0, .ref b), (1, .int (nI hi)), (2, .int (bI may))] [.int (nI lo), .ref b] n G 0 0 := by
      intro lo hlo
      refine xs_iload_n dB_index_32 rfl ?_
      refine xs_cV_ix (As := [_, _]) dB_index_33 lkB_196 (by repeat (first | exact va_up_self _ _ _ | assumption | refine (va_up_ne _ _ (by omega)).trans ?_)) (k_B_digit (lo:=lo) (hi:=hi) hc hs hsc hT hp (by rw [hlo]; split <;> omega) hhi) rfl rfl (Nat.le_of_ble_eq_true rfl) ⟨by decide, by decide⟩ ⟨by omega, by omega⟩ ?_
      intro r H2 ⟨v, p2, g2, e1, e2, e3, e4, e5, e6⟩
      subst e1
      refine xs_iret dB_index_36 rfl rfl (by omega) (by omega) ⟨_, rfl, rfl, (v : Int), p2, g2, iI_nat v, by omega, e3, e4, e5, fun hg => ?_⟩
      have e6 := e6 hg
      unfold pIx
      rw [if_neg h45]
      have hl : (if (!may) = true then 1 else 0) = lo := by rw [hlo]; cases may <;> rfl
      rw [hl]
      rcases e6 with ⟨w1, w2, w3⟩ | ⟨w1, w2, w3⟩
      · rw [w1, w2, w3]
        rfl
      · rw [w1, w2, w3]
        rfl
    refine xs_aload_n dB_index_22 rfl ?_
    refine xs_iload_n dB_index_23 rfl ?_
    refine xs_ifb_eq dB_index_24 (fun h => ?_) (fun h => ?_)
    · refine xs_iconst (v := 1) dB_index_31 (by decide) ?_
      exact rest 1 (by rw [h]; rfl)
    · refine xs_iconst (v := 0) dB_index_27 (by decide) ?_
      refine xs_goto dB_index_28 ?_
      exact rest 0 (by rw [h]; rfl)
end N2
