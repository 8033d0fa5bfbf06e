/-! the text: its characters, where it is read, how many faces it told, the last indices -/
def txt (G : xG) (x : Nat) (T : List Nat) (p told : Nat) (ix : Nat → Int32) : Prop :=
  (∃ code : Nat → Int32, (G x = .inr (1, [.ref (x + 1), .int (nI T.length), .int (nI p), .int (nI told), .ref (x + 2)]) ∧ G (x + 1) = .inl (0, 100, .inl code) ∧ G (x + 2) = .inl (0, 3, .inl ix)) ∧ (∀ (i c : Nat), T[i]? = some c → code i = nI c)) ∧
  (T.length ≤ 100 ∧ ∀ c ∈ T, c < 256) ∧ p ≤ 100 ∧ told ≤ 16
theorem txt_fr {G H : xG} {x : Nat} {T : List Nat} {p told : Nat} {ix : Nat → Int32} (h : txt G x T p told ix) (hf : ∀ k, x ≤ k → k < x + 3 → H k = G k) : txt H x T p told ix := by
  obtain ⟨⟨code, ⟨g0, g1, g2⟩, hr⟩, hb⟩ := h
  refine ⟨⟨code, ⟨?_, ?_, ?_⟩, hr⟩, hb⟩
  all_goals (rw [hf _ (by omega) (by omega)]; assumption)
/-- another place to read, another number of faces told -/
theorem txt_at {G : xG} {x : Nat} {T : List Nat} {p told p2 told2 : Nat} {ix : Nat → Int32} (h : txt G x T p told ix) (hp : p2 ≤ 100) (ht : told2 ≤ 16) :
    txt (va_up G x (.inr (1, [.ref (x + 1), .int (nI T.length), .int (nI p2), .int (nI told2), .ref (x + 2)]))) x T p2 told2 ix := by
  obtain ⟨⟨code, ⟨g0, g1, g2⟩, hr⟩, hb, -, -⟩ := h
  exact ⟨⟨code, ⟨va_up_self _ _ _, (by repeat (first | assumption | exact va_up_self _ _ _ | refine (va_up_ne _ _ (by omega)).trans ?_)), (by repeat (first | assumption | exact va_up_self _ _ _ | refine (va_up_ne _ _ (by omega)).trans ?_))⟩, hr⟩, hb, hp, ht⟩
theorem k_X_put {n x c : Nat} {G : xG} {T : List Nat} {p told : Nat} {ix : Nat → Int32} (hX : txt G x T p told ix) (hl : T.length < 100) (hc : c < 256) : xK mX_put [.ref x, .int (nI c)] n G 0 0 (qVx n (fun H => txt H x (T ++ [c]) p told ix ∧ xfr x (x + 3) G H)) xNo := by
  obtain ⟨⟨code, ⟨g0, g1, g2⟩, hr⟩, ⟨hb1, hb2⟩, hp, ht⟩ := id hX
  have hin : vp_in (nI T.length) 100 := vp_in_nI hl (by omega)
  have ec : (nI T.length).toNatClampNeg = T.length := nI_clamp (by omega)
  refine xK_of2 (L0 := [(0, _), (1, _)]) (by decide +kernel) rfl (Nat.le_of_ble_eq_true rfl) rfl ?_
  refine xs_aload_n dX_put_0 rfl ?_
  refine xs_get dX_put_1 flX_15 (by repeat (first | assumption | exact va_up_self _ _ _ | refine (va_up_ne _ _ (by omega)).trans ?_)) rfl ?_
  refine xs_bipush (v := 100) dX_put_4 (by decide) ?_
  refine xs_icmp_ge dX_put_6 (fun hg => absurd ((nI_leI (a := 100) (by decide) (by omega)).mp hg) (by omega)) (fun _ => ?_)
  refine xs_aload_n dX_put_9 rfl ?_
  refine xs_get dX_put_10 flX_9 (by repeat (first | assumption | exact va_up_self _ _ _ | refine (va_up_ne _ _ (by omega)).trans ?_)) rfl ?_
  refine xs_aload_n dX_put_13 rfl ?_
  refine xs_get dX_put_14 flX_15 (by repeat (first | assumption | exact va_up_self _ _ _ | refine (va_up_ne _ _ (by omega)).trans ?_)) rfl ?_
  refine xs_iload_n dX_put_17 rfl ?_
  refine xs_iast dX_put_18 (by repeat (first | assumption | exact va_up_self _ _ _ | refine (va_up_ne _ _ (by omega)).trans ?_)) (by assumption) ?_
  refine xs_aload_n dX_put_19 rfl ?_
  refine xs_dup dX_put_20 rfl ?_
  refine xs_get dX_put_21 flX_15 (by repeat (first | assumption | exact va_up_self _ _ _ | refine (va_up_ne _ _ (by omega)).trans ?_)) rfl ?_
  refine xs_iconst (v := 1) dX_put_24 (by decide) ?_
  refine xs_iadd dX_put_25 ?_
  refine xs_put dX_put_26 flX_15 ft1_1 (by repeat (first | assumption | exact va_up_self _ _ _ | refine (va_up_ne _ _ (by omega)).trans ?_)) (fun _ => rfl) (fun _ => rfl) (by simp) ?_
  have hlen : (T ++ [c]).length = T.length + 1 := by rw [List.length_append, List.length_singleton]
  refine xs_vret dX_put_29 rfl (by omega) (by omega) ⟨rfl, rfl, ⟨⟨upd code T.length (nI c), ⟨?_, ?_, (by repeat (first | assumption | exact va_up_self _ _ _ | refine (va_up_ne _ _ (by omega)).trans ?_))⟩, fun i d hi => ?_⟩, ⟨by omega, fun d hd => ?_⟩, hp, ht⟩, xfr_up (xfr_up xfr_rf (by omega) (by omega)) (by omega) (by omega)⟩
  · rw [va_up_self, hlen, ← nI_1]
    rfl
  · rw [va_up_ne _ _ (by omega), va_up_self, ec]
  · have hil := (List.getElem?_eq_some_iff.mp hi).1
    rcases Nat.lt_or_ge i T.length with q1 | q1
    · rw [List.getElem?_append_left q1] at hi
      rw [pk_un (by omega)]
      exact hr i d hi
    · have hie : i = T.length := by omega
      subst hie
      rw [List.getElem?_append_right (Nat.le_refl _), Nat.sub_self] at hi
      cases hi
      rw [pk_us]
  · rcases List.mem_append.mp hd with q | q
    · exact hb2 d q
    · rw [List.mem_singleton.mp q]
      exact hc
theorem k_X_isAt {n x ch : Nat} {G : xG} {T : List Nat} {p told : Nat} {ix : Nat → Int32} (hX : txt G x T p told ix) (hc : ch < 256) : xK mX_isAt [.ref x, .int (nI ch)] n G 0 0 (qI n G (bI (decide (T[p]? = some ch)))) xNo := by
  obtain ⟨⟨code, ⟨g0, g1, g2⟩, hr⟩, ⟨hb1, hb2⟩, hp, ht⟩ := id hX
  refine xK_of2 (L0 := [(0, _), (1, _)]) (by decide +kernel) rfl (Nat.le_of_ble_eq_true rfl) rfl ?_
  refine xs_aload_n dX_isAt_0 rfl ?_
  refine xs_get dX_isAt_1 flX_19 (by repeat (first | assumption | exact va_up_self _ _ _ | refine (va_up_ne _ _ (by omega)).trans ?_)) rfl ?_
  refine xs_aload_n dX_isAt_4 rfl ?_
  refine xs_get dX_isAt_5 flX_15 (by repeat (first | assumption | exact va_up_self _ _ _ | refine (va_up_ne _ _ (by omega)).trans ?_)) rfl ?_
  refine xs_icmp_ge dX_isAt_8 (fun hg => ?_) (fun hg => ?_)
  · have h := (nI_leI (by omega) (by omega)).mp hg
    have hn : ¬ T[p]? = some ch := by rw [List.getElem?_eq_none h]; exact fun e => by cases e
    refine xs_iconst (v := 0) dX_isAt_28 (by decide) ?_
    exact xs_iret dX_isAt_29 rfl rfl (by omega) (by omega) ⟨(by rw [bI_f hn]), rfl, rfl⟩
  · have h : p < T.length := nI_lt_of (by omega) (by omega) hg
    obtain ⟨c, hcc⟩ : ∃ c, T[p]? = some c := ⟨_, List.getElem?_eq_getElem h⟩
    have hin : vp_in (nI p) 100 := vp_in_nI (by omega) (by omega)
    have ec : code (nI p).toNatClampNeg = nI c := by rw [nI_clamp (by omega)]; exact hr p c hcc
    have hcb := hb2 c (List.mem_of_getElem? hcc)
    refine xs_aload_n dX_isAt_11 rfl ?_
    refine xs_get dX_isAt_12 flX_9 (by repeat (first | assumption | exact va_up_self _ _ _ | refine (va_up_ne _ _ (by omega)).trans ?_)) rfl ?_
    refine xs_aload_n dX_isAt_15 rfl ?_
    refine xs_get dX_isAt_16 flX_19 (by repeat (first | assumption | exact va_up_self _ _ _ | refine (va_up_ne _ _ (by omega)).trans ?_)) rfl ?_
    refine xs_iald dX_isAt_19 (by repeat (first | assumption | exact va_up_self _ _ _ | refine (va_up_ne _ _ (by omega)).trans ?_)) (by assumption) ?_
    refine xs_iload_n dX_isAt_20 rfl ?_
    rw [ec]
    refine xs_icmp_ne dX_isAt_21 (fun hne => ?_) (fun heq => ?_)
    · have hn : ¬ T[p]? = some ch := by rw [hcc]; exact fun e => hne (by rw [Option.some.inj e])
      refine xs_iconst (v := 0) dX_isAt_28 (by decide) ?_
      exact xs_iret dX_isAt_29 rfl rfl (by omega) (by omega) ⟨(by rw [bI_f hn]), rfl, rfl⟩
    · have hn : T[p]? = some ch := by rw [hcc, (nI_eq (by omega) (by omega)).mp heq]
      refine xs_iconst (v := 1) dX_isAt_24 (by decide) ?_
      refine xs_goto dX_isAt_25 ?_
      exact xs_iret dX_isAt_29 rfl rfl (by omega) (by omega) ⟨(by rw [bI_t hn]), rfl, rfl⟩
/-- the digit at a place -/
def pDig (T : List Nat) (p lo hi : Nat) : Option Nat := match T[p]? with
  | some c => if 48 + lo ≤ c ∧ c ≤ 48 + hi then some (c - 48) else none
  | none => none
theorem pDig_lt {T : List Nat} {p lo hi d : Nat} (h : pDig T p lo hi = some d) : p < T.length ∧ lo ≤ d ∧ d ≤ hi ∧ T[p]? = some (48 + d) := by
  unfold pDig at h
  split at h
  next c hc =>
    split at h
    next q =>
      cases h
      refine ⟨(List.getElem?_eq_some_iff.mp hc).1, by omega, by omega, ?_⟩
      rw [hc]
      congr 1
      omega
    next => cases h
  next => cases h
theorem nI_48 (a : Nat) : (48 : Int32) + nI a = nI (48 + a) := (Int32.ofNat_add 48 a).symm
theorem k_X_isDigitAt {n x lo hi : Nat} {G : xG} {T : List Nat} {p told : Nat} {ix : Nat → Int32} (hX : txt G x T p told ix) (hlo : lo < 10) (hhi : hi < 10) : xK mX_isDigitAt [.ref x, .int (nI lo), .int (nI hi)] n G 0 0 (qI n G (bI (pDig T p lo hi).isSome)) xNo := by
  obtain ⟨⟨code, ⟨g0, g1, g2⟩, hr⟩, ⟨hb1, hb2⟩, hp, ht⟩ := id hX
  refine xK_of2 (L0 := [(0, _), (1, _), (2, _)]) (by decide +kernel) rfl (Nat.le_of_ble_eq_true rfl) rfl ?_
  refine xs_aload_n dX_isDigitAt_0 rfl ?_
  refine xs_get dX_isDigitAt_1 flX_19 (by repeat (first | assumption | exact va_up_self _ _ _ | refine (va_up_ne _ _ (by omega)).trans ?_)) rfl ?_
  refine xs_aload_n dX_isDigitAt_4 rfl ?_
  refine xs_get dX_isDigitAt_5 flX_15 (by repeat (first | assumption | exact va_up_self _ _ _ | refine (va_up_ne _ _ (by omega)).trans ?_)) rfl ?_
  refine xs_icmp_ge dX_isDigitAt_8 (fun hg => ?_) (fun hg => ?_)
  · have h := (nI_leI (by omega) (by omega)).mp hg
    have hn : (pDig T p lo hi).isSome = false := by rw [pDig, List.getElem?_eq_none h]; rfl
    refine xs_iconst (v := 0) dX_isDigitAt_47 (by decide) ?_
    exact xs_iret dX_isDigitAt_48 rfl rfl (by omega) (by omega) ⟨(by rw [hn]; rfl), rfl, rfl⟩
  · have h : p < T.length := nI_lt_of (by omega) (by omega) hg
    obtain ⟨c, hcc⟩ : ∃ c, T[p]? = some c := ⟨_, List.getElem?_eq_getElem h⟩
    have hin : vp_in (nI p) 100 := vp_in_nI (by omega) (by omega)
    have ec : code (nI p).toNatClampNeg = nI c := by rw [nI_clamp (by omega)]; exact hr p c hcc
    have hcb := hb2 c (List.mem_of_getElem? hcc)
    refine xs_aload_n dX_isDigitAt_11 rfl ?_
    refine xs_get dX_isDigitAt_12 flX_9 (by repeat (first | assumption | exact va_up_self _ _ _ | refine (va_up_ne _ _ (by omega)).trans ?_)) rfl ?_
    refine xs_aload_n dX_isDigitAt_15 rfl ?_
    refine xs_get dX_isDigitAt_16 flX_19 (by repeat (first | assumption | exact va_up_self _ _ _ | refine (va_up_ne _ _ (by omega)).trans ?_)) rfl ?_
    refine xs_iald dX_isDigitAt_19 (by repeat (first | assumption | exact va_up_self _ _ _ | refine (va_up_ne _ _ (by omega)).trans ?_)) (by assumption) ?_
    refine xs_bipush (v := 48) dX_isDigitAt_20 (by decide) ?_
    refine xs_iload_n dX_isDigitAt_22 rfl ?_
    refine xs_iadd dX_isDigitAt_23 ?_
    rw [ec, nI_48]
    refine xs_icmp_lt dX_isDigitAt_24 (fun hg => ?_) (fun hg => ?_)
    · have h9 := (nI_ltI (by omega) (by omega)).mp hg
      have hn : (pDig T p lo hi).isSome = false := by rw [pDig, hcc]; simp only [if_neg (show ¬ (48 + lo ≤ c ∧ c ≤ 48 + hi) by omega)]; rfl
      refine xs_iconst (v := 0) dX_isDigitAt_47 (by decide) ?_
      exact xs_iret dX_isDigitAt_48 rfl rfl (by omega) (by omega) ⟨(by rw [hn]; rfl), rfl, rfl⟩
    · have h9 : 48 + lo ≤ c := by
        rcases Nat.lt_or_ge c (48 + lo) with q | q
        · exact absurd ((nI_ltI (by omega) (by omega)).mpr q) hg
        · exact q
      refine xs_aload_n dX_isDigitAt_27 rfl ?_
      refine xs_get dX_isDigitAt_28 flX_9 (by repeat (first | assumption | exact va_up_self _ _ _ | refine (va_up_ne _ _ (by omega)).trans ?_)) rfl ?_
      refine xs_aload_n dX_isDigitAt_31 rfl ?_
      refine xs_get dX_isDigitAt_32 flX_19 (by repeat (first | assumption | exact va_up_self _ _ _ | refine (va_up_ne _ _ (by omega)).trans ?_)) rfl ?_
      refine xs_iald dX_isDigitAt_35 (by repeat (first | assumption | exact va_up_self _ _ _ | refine (va_up_ne _ _ (by omega)).trans ?_)) (by assumption) ?_
      refine xs_bipush (v := 48) dX_isDigitAt_36 (by decide) ?_
      refine xs_iload_n dX_isDigitAt_38 rfl ?_
      refine xs_iadd dX_isDigitAt_39 ?_
      rw [ec, nI_48]
      refine xs_icmp_gt dX_isDigitAt_40 (fun hg => ?_) (fun hg => ?_)
      · have h8 := (nI_ltI (by omega) (by omega)).mp hg
        have hn : (pDig T p lo hi).isSome = false := by rw [pDig, hcc]; simp only [if_neg (show ¬ (48 + lo ≤ c ∧ c ≤ 48 + hi) by omega)]; rfl
        refine xs_iconst (v := 0) dX_isDigitAt_47 (by decide) ?_
        exact xs_iret dX_isDigitAt_48 rfl rfl (by omega) (by omega) ⟨(by rw [hn]; rfl), rfl, rfl⟩
      · have h8 : c ≤ 48 + hi := by
          rcases Nat.lt_or_ge (48 + hi) c with q | q
          · exact absurd ((nI_ltI (by omega) (by omega)).mpr q) hg
          · exact q
        have hn : (pDig T p lo hi).isSome = true := by rw [pDig, hcc]; simp only [if_pos (show (48 + lo ≤ c ∧ c ≤ 48 + hi) by omega)]; rfl
        refine xs_iconst (v := 1) dX_isDigitAt_43 (by decide) ?_
        refine xs_goto dX_isDigitAt_44 ?_
        exact xs_iret dX_isDigitAt_48 rfl rfl (by omega) (by omega) ⟨(by rw [hn]; rfl), rfl, rfl⟩
theorem k_X_takeDigit {n x lo hi d : Nat} {G : xG} {T : List Nat} {p told : Nat} {ix : Nat → Int32} (hX : txt G x T p told ix) (hd : pDig T p lo hi = some d) : xK mX_takeDigit [.ref x] n G 0 0 (qIx n (fun r H => r = nI d ∧ txt H x T (p + 1) told ix ∧ xfr x (x + 3) G H)) xNo := by
  obtain ⟨⟨code, ⟨g0, g1, g2⟩, hr⟩, ⟨hb1, hb2⟩, hp, ht⟩ := id hX
  obtain ⟨d1, d2, d3, d4⟩ := pDig_lt hd
  have hin : vp_in (nI p) 100 := vp_in_nI (by omega) (by omega)
  have ec : code (nI p).toNatClampNeg = nI (48 + d) := by rw [nI_clamp (by omega)]; exact hr p _ d4
  have es : nI (48 + d) - 48 = nI d := by rw [iI_nat (48 + d), show (48 : Int32) = iI 48 from rfl, iI_sub, iI_nat]; congr 1; omega
  refine xK_of2 (L0 := [(0, _)]) (by decide +kernel) rfl (Nat.le_of_ble_eq_true rfl) rfl ?_
  refine xs_aload_n dX_takeDigit_0 rfl ?_
  refine xs_get dX_takeDigit_1 flX_19 (by repeat (first | assumption | exact va_up_self _ _ _ | refine (va_up_ne _ _ (by omega)).trans ?_)) rfl ?_
  refine xs_aload_n dX_takeDigit_4 rfl ?_
  refine xs_get dX_takeDigit_5 flX_15 (by repeat (first | assumption | exact va_up_self _ _ _ | refine (va_up_ne _ _ (by omega)).trans ?_)) rfl ?_
  refine xs_icmp_ge dX_takeDigit_8 (fun hg => absurd ((nI_leI (by omega) (by omega)).mp hg) (by omega)) (fun _ => ?_)
  refine xs_aload_n dX_takeDigit_11 rfl ?_
  refine xs_get dX_takeDigit_12 flX_9 (by repeat (first | assumption | exact va_up_self _ _ _ | refine (va_up_ne _ _ (by omega)).trans ?_)) rfl ?_
  refine xs_aload_n dX_takeDigit_15 rfl ?_
  refine xs_get dX_takeDigit_16 flX_19 (by repeat (first | assumption | exact va_up_self _ _ _ | refine (va_up_ne _ _ (by omega)).trans ?_)) rfl ?_
  refine xs_iald dX_takeDigit_19 (by repeat (first | assumption | exact va_up_self _ _ _ | refine (va_up_ne _ _ (by omega)).trans ?_)) (by assumption) ?_
  refine xs_bipush (v := 48) dX_takeDigit_20 (by decide) ?_
  refine xs_isub dX_takeDigit_22 ?_
  rw [ec, es]
  refine xs_goto dX_takeDigit_23 ?_
  refine xs_istore_n (L2 := [(1, _), (0, _)]) dX_takeDigit_27 (by decide) rfl ?_
  refine xs_aload_n dX_takeDigit_28 rfl ?_
  refine xs_dup dX_takeDigit_29 rfl ?_
  refine xs_get dX_takeDigit_30 flX_19 (by repeat (first | assumption | exact va_up_self _ _ _ | refine (va_up_ne _ _ (by omega)).trans ?_)) rfl ?_
  refine xs_iconst (v := 1) dX_takeDigit_33 (by decide) ?_
  refine xs_iadd dX_takeDigit_34 ?_
  refine xs_put dX_takeDigit_35 flX_19 ft1_2 (by repeat (first | assumption | exact va_up_self _ _ _ | refine (va_up_ne _ _ (by omega)).trans ?_)) (fun _ => rfl) (fun _ => rfl) (by simp) ?_
  refine xs_iload_n dX_takeDigit_38 rfl ?_
  rw [nI_1]
  exact xs_iret dX_takeDigit_39 rfl rfl (by omega) (by omega) ⟨_, rfl, rfl, rfl, txt_at hX (by omega) ht, xfr_up xfr_rf (by omega) (by omega)⟩
theorem k_X_init {x : Nat} {G : xG} (hG : G x = .inr (1, nf1)) : xK mX_init [.ref x] (x + 1) G 2 103 (fun v m H => v = none ∧ m = x + 3 ∧ txt H x [] 0 0 (fun _ => 0) ∧ xlow x G H) xNo := by
  refine xK_of2 (L0 := [(0, _)]) (by decide +kernel) rfl (Nat.le_of_ble_eq_true rfl) rfl ?_
  refine xs_aload_n dX_init_0 rfl ?_
  refine xs_objInit dX_init_1 ljX_3 (Nat.le_of_ble_eq_true rfl) ⟨by decide, by decide⟩ ?_
  refine xs_aload_n dX_init_4 rfl ?_
  refine xs_bipush (v := 100) dX_init_5 (by decide) ?_
  refine xs_newI (N := 100) dX_init_7 rfl (by omega) (by omega) (by omega) ?_
  refine xs_putF dX_init_9 flX_9 ft1_0 rfl rfl (by repeat (first | assumption | exact va_up_self _ _ _ | refine (va_up_ne _ _ (by omega)).trans ?_)) (fun _ => rfl) (fun _ => rfl) (by simp) ?_
  refine xs_aload_n dX_init_12 rfl ?_
  refine xs_iconst (v := 0) dX_init_13 (by decide) ?_
  refine xs_put dX_init_14 flX_15 ft1_1 (by repeat (first | assumption | exact va_up_self _ _ _ | refine (va_up_ne _ _ (by omega)).trans ?_)) (fun _ => rfl) (fun _ => rfl) (by simp) ?_
  refine xs_aload_n dX_init_17 rfl ?_
  refine xs_iconst (v := 0) dX_init_18 (by decide) ?_
  refine xs_put dX_init_19 flX_19 ft1_2 (by repeat (first | assumption | exact va_up_self _ _ _ | refine (va_up_ne _ _ (by omega)).trans ?_)) (fun _ => rfl) (fun _ => rfl) (by simp) ?_
  refine xs_aload_n dX_init_22 rfl ?_
  refine xs_iconst (v := 0) dX_init_23 (by decide) ?_
  refine xs_put dX_init_24 flX_22 ft1_3 (by repeat (first | assumption | exact va_up_self _ _ _ | refine (va_up_ne _ _ (by omega)).trans ?_)) (fun _ => rfl) (fun _ => rfl) (by simp) ?_
  refine xs_aload_n dX_init_27 rfl ?_
  refine xs_iconst (v := 3) dX_init_28 (by decide) ?_
  refine xs_newI (N := 3) dX_init_29 rfl (by omega) (by omega) (by omega) ?_
  refine xs_putF dX_init_31 flX_25 ft1_4 rfl rfl (by repeat (first | assumption | exact va_up_self _ _ _ | refine (va_up_ne _ _ (by omega)).trans ?_)) (fun _ => rfl) (fun _ => rfl) (by simp) ?_
  refine xs_vret dX_init_34 rfl (by omega) (by omega) ⟨rfl, by omega, ⟨⟨fun _ => 0, ⟨?_, (by repeat (first | assumption | exact va_up_self _ _ _ | refine (va_up_ne _ _ (by omega)).trans ?_)), (by repeat (first | assumption | exact va_up_self _ _ _ | refine (va_up_ne _ _ (by omega)).trans ?_))⟩, (fun i c hi => by cases hi)⟩, ⟨Nat.zero_le _, (fun c hc => absurd hc List.not_mem_nil)⟩, Nat.zero_le _, Nat.zero_le _⟩, ?_⟩
  · rw [va_up_self]
    rfl
  · repeat (first | exact xlow_rf | refine xlow_up ?_ (by omega))
