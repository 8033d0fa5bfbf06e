theorem nI_both {m i j : Nat} (hm : m < 65536) (hi : i < 16) (hj : j < 16) : nI m &&& nI (2 ^ i ||| 2 ^ j) = nI (2 ^ i ||| 2 ^ j) ↔ (m.testBit i = true ∧ m.testBit j = true) := by
  have hb : 2 ^ i ||| 2 ^ j < 2 ^ 16 := Nat.or_lt_two_pow (Nat.pow_lt_pow_right (by decide) hi) (Nat.pow_lt_pow_right (by decide) hj)
  rw [nI_and, nI_eq (Nat.lt_of_le_of_lt Nat.and_le_left (by omega)) (by omega)]
  constructor
  · intro h
    constructor
    · have h2 : (m &&& (2 ^ i ||| 2 ^ j)).testBit i = true := by rw [h, Nat.testBit_or, Nat.testBit_two_pow_self, Bool.true_or]
      rw [Nat.testBit_and, Bool.and_eq_true] at h2
      exact h2.1
    · have h2 : (m &&& (2 ^ i ||| 2 ^ j)).testBit j = true := by rw [h, Nat.testBit_or, Nat.testBit_two_pow_self, Bool.or_true]
      rw [Nat.testBit_and, Bool.and_eq_true] at h2
      exact h2.1
  · rintro ⟨h1, h2⟩
    apply Nat.eq_of_testBit_eq
    intro k
    rw [Nat.testBit_and, Nat.testBit_or, Nat.testBit_two_pow, Nat.testBit_two_pow]
    by_cases hik : i = k
    · subst hik
      rw [h1, Bool.true_and]
    · by_cases hjk : j = k
      · subst hjk
        rw [h2, Bool.true_and]
      · rw [decide_eq_false hik, decide_eq_false hjk, Bool.or_false, Bool.and_false]
/-- the number of the zone that two faces tell -/
def znr (D Z : List P3) (i j : Nat) (o : Option Nat) : Prop := match o with
  | none => ∀ (d e : P3), D[i]? = some d → D[j]? = some e → (par d e ∨ nz (cr d e) ∉ Z)
  | some k => ∃ d e : P3, D[i]? = some d ∧ D[j]? = some e ∧ ¬ par d e ∧ Z[k]? = some (nz (cr d e))
theorem k_Z_numberOf {n z i j : Nat} {G : xG} {D Z : List P3} {R : Nat → Nat} {lst : Int} (hS : zst G z D Z R) (hok : dOk D) (hZ : zSet D lst Z) (hi : i < D.length) (hj : j < D.length) :
    xK mZ_numberOf [.ref z, .int (nI i), .int (nI j)] n G 0 0 (qIx n (fun r H => (∃ o, r = rN o ∧ znr D Z i j o) ∧ H = G)) xNo := by
  obtain ⟨fd, fa, pa, ms, cv, hz, hdr, hax, hms, hcv⟩ := hS
  obtain ⟨⟨g0, g1, g2, g3, g4⟩, ⟨f1, f2, f3, f4⟩, ht, hn⟩ := id hz
  have hL := hok.1
  obtain ⟨d, hd⟩ : ∃ d, D[i]? = some d := ⟨_, List.getElem?_eq_getElem hi⟩
  obtain ⟨e, he⟩ : ∃ e, D[j]? = some e := ⟨_, List.getElem?_eq_getElem hj⟩
  have hdk := hok.2 d (List.mem_of_getElem? hd)
  have hek := hok.2 e (List.mem_of_getElem? he)
  have hini := fin16 (i := i) (by omega)
  have hinj := fin16 (i := j) (by omega)
  have hfi : fd (nI i).toNatClampNeg = some (z + 5 + i) := by rw [nI_clamp (by omega)]; exact f1 i (by omega)
  have hfj : fd (nI j).toNatClampNeg = some (z + 5 + j) := by rw [nI_clamp (by omega)]; exact f1 j (by omega)
  have hdc := hdr i d hd
  have hec := hdr j e he
  have hp := parL (bd_mono hdk.1 (by decide)) (bd_mono hek.1 (by decide)) (p := d) (q := e)
  have loop : ¬ par d e → ∀ (m k : Nat), Z.length - k < m → k ≤ Z.length → (∀ x, x < k → Z[x]? ≠ some (nz (cr d e))) → xS mZ_numberOf n 0 0 (qIx n (fun r H => (∃ o, r = rN o ∧ znr D Z i j o) ∧ H = G)) xNo 32 [(0, .ref z), (1, .int (nI i)), (2, .int (nI j)), (3, .int (nI (2 ^ i ||| 2 ^ j))), (4, .int (nI k))] [] n G 0 0 := by
    intro hnp m
    have hcn : cr d e ≠ (0, 0, 0) := fun q => hnp ((par_cr hdk.2.1 hek.2.1 hdk.2.2 hek.2.2).mp q)
    induction m with
    | zero => intro k q; exact absurd q (by omega)
    | succ m ih =>
      intro k q1 q2 q3
      refine xs_iload dZ_numberOf_32 rfl ?_
      refine xs_aload_n dZ_numberOf_34 rfl ?_
      refine xs_get dZ_numberOf_35 flZ_31 (by repeat (first | assumption | exact va_up_self _ _ _ | refine (va_up_ne _ _ (by omega)).trans ?_)) rfl ?_
      refine xs_icmp_ge dZ_numberOf_38 (fun hg => ?_) (fun hg => ?_)
      · have hk := (nI_leI (by omega) (by omega)).mp hg
        refine xs_ldc dZ_numberOf_63 kcZ_102 ?_
        refine xs_iret dZ_numberOf_65 rfl rfl (by omega) (by omega) ⟨_, rfl, rfl, ⟨none, rfl, fun d2 e2 h1 h2 => Or.inr fun hm => ?_⟩, rfl⟩
        cases hd.symm.trans h1
        cases he.symm.trans h2
        obtain ⟨x, hx⟩ := List.getElem?_of_mem hm
        have hxl := (List.getElem?_eq_some_iff.mp hx).1
        exact q3 x (by omega) hx
      · have hk : k < Z.length := nI_lt_of (by omega) (by omega) hg
        obtain ⟨a, ha⟩ : ∃ a, Z[k]? = some a := ⟨_, List.getElem?_eq_getElem hk⟩
        have hink : vp_in (nI k) 120 := vp_in_nI (by omega) (by omega)
        have em : ms (nI k).toNatClampNeg = nI (mem D a) := by rw [nI_clamp (by omega)]; exact hms k a ha
        have hax2 := ((hZ.2 a).mp (List.mem_of_getElem? ha)).1
        have hbit := nI_both (m := mem D a) (i := i) (j := j) (mem_lt D a hL) (by omega) (by omega)
        have hmi : (mem D a).testBit i = inz D a i := by rw [mem, mk_bit, decide_eq_true hi, Bool.true_and]
        have hmj : (mem D a).testBit j = inz D a j := by rw [mem, mk_bit, decide_eq_true hj, Bool.true_and]
        rw [hmi, hmj] at hbit
        refine xs_aload_n dZ_numberOf_41 rfl ?_
        refine xs_get dZ_numberOf_42 flZ_20 (by repeat (first | assumption | exact va_up_self _ _ _ | refine (va_up_ne _ _ (by omega)).trans ?_)) rfl ?_
        refine xs_iload dZ_numberOf_45 rfl ?_
        refine xs_iald dZ_numberOf_47 (by repeat (first | assumption | exact va_up_self _ _ _ | refine (va_up_ne _ _ (by omega)).trans ?_)) (by assumption) ?_
        rw [em]
        refine xs_iload_n dZ_numberOf_48 rfl ?_
        refine xs_iand dZ_numberOf_49 ?_
        refine xs_iload_n dZ_numberOf_50 rfl ?_
        refine xs_icmp_ne dZ_numberOf_51 (fun hne => ?_) (fun heq => ?_)
        · refine xs_iinc (L2 := [(4, _), (0, _), (1, _), (2, _), (3, _)]) dZ_numberOf_57 rfl rfl (by decide) rfl ?_
          refine xs_goto dZ_numberOf_60 ?_
          refine xs_pick (L2 := [(0, _), (1, _), (2, _), (3, _), (4, _)]) [1, 2, 3, 4, 0] rfl ?_
          rw [xii]
          refine ih (k + 1) (by omega) (by omega) (fun x hx hxe => ?_)
          by_cases hxk : x = k
          · subst hxk
            cases ha.symm.trans hxe
            exact hne (hbit.mpr ⟨(inz_iff hd).mpr ((dt_nz hcn).mpr (dt_cr1 d e)), (inz_iff he).mpr ((dt_nz hcn).mpr (dt_cr2 d e))⟩)
          · exact q3 x (by omega) hxe
        · obtain ⟨b1, b2⟩ := hbit.mp heq
          have hae := isAx_one hax2 hd he hcn b1 b2
          refine xs_iload dZ_numberOf_54 rfl ?_
          refine xs_iret dZ_numberOf_56 rfl rfl (by omega) (by omega) ⟨_, rfl, rfl, ⟨some k, rfl, d, e, hd, he, hnp, ?_⟩, rfl⟩
          rw [← hae]
          exact ha
  refine xK_of2 (L0 := [(0, _), (1, _), (2, _)]) (by decide +kernel) rfl (Nat.le_of_ble_eq_true rfl) rfl ?_
  refine xs_aload_n dZ_numberOf_0 rfl ?_
  refine xs_get dZ_numberOf_1 flZ_11 (by repeat (first | assumption | exact va_up_self _ _ _ | refine (va_up_ne _ _ (by omega)).trans ?_)) rfl ?_
  refine xs_iload_n dZ_numberOf_4 rfl ?_
  refine xs_ald3 dZ_numberOf_5 (by repeat (first | assumption | exact va_up_self _ _ _ | refine (va_up_ne _ _ (by omega)).trans ?_)) (by assumption) hfi ?_
  refine xs_aload_n dZ_numberOf_6 rfl ?_
  refine xs_get dZ_numberOf_7 flZ_11 (by repeat (first | assumption | exact va_up_self _ _ _ | refine (va_up_ne _ _ (by omega)).trans ?_)) rfl ?_
  refine xs_iload_n dZ_numberOf_10 rfl ?_
  refine xs_ald3 dZ_numberOf_11 (by repeat (first | assumption | exact va_up_self _ _ _ | refine (va_up_ne _ _ (by omega)).trans ?_)) (by assumption) hfj ?_
  refine xs_cV_i (As := [_]) dZ_numberOf_12 lkZ_46 (by repeat (first | assumption | exact va_up_self _ _ _ | refine (va_up_ne _ _ (by omega)).trans ?_)) (k_T_isParallelTo hdc hec) rfl rfl (Nat.le_of_ble_eq_true rfl) ⟨by decide, by decide⟩ ⟨by omega, by omega⟩ ?_
  refine xs_if_eq dZ_numberOf_15 (fun h => ?_) (fun h => ?_)
  · have h9 : ¬ par d e := fun q => of_decide_eq_false ((bI_0 _).mp h) (hp.mpr q)
    refine xs_iconst (v := 1) dZ_numberOf_21 (by decide) ?_
    refine xs_iload_n dZ_numberOf_22 rfl ?_
    refine xs_ishl dZ_numberOf_23 ?_
    refine xs_iconst (v := 1) dZ_numberOf_24 (by decide) ?_
    refine xs_iload_n dZ_numberOf_25 rfl ?_
    refine xs_ishl dZ_numberOf_26 ?_
    rw [sh1 i (by omega), sh1 j (by omega)]
    refine xs_ior dZ_numberOf_27 ?_
    rw [nI_or]
    refine xs_istore_n (L2 := [(3, _), (0, _), (1, _), (2, _)]) dZ_numberOf_28 (by decide) rfl ?_
    refine xs_iconst (v := 0) dZ_numberOf_29 (by decide) ?_
    refine xs_istore (L2 := [(4, _), (3, _), (0, _), (1, _), (2, _)]) dZ_numberOf_30 (by decide) rfl ?_
    refine xs_pick (L2 := [(0, _), (1, _), (2, _), (3, _), (4, _)]) [2, 3, 4, 1, 0] rfl ?_
    exact loop h9 (Z.length + 1) 0 (by omega) (by omega) (fun x hx => absurd hx (by omega))
  · have h9 : par d e := hp.mp (of_decide_eq_true ((bI_1n _).mp h))
    refine xs_ldc dZ_numberOf_18 kcZ_102 ?_
    refine xs_iret dZ_numberOf_20 rfl rfl (by omega) (by omega) ⟨_, rfl, rfl, ⟨none, rfl, fun d2 e2 h1 h2 => Or.inl ?_⟩, rfl⟩
    cases hd.symm.trans h1
    cases he.symm.trans h2
    exact h9
/-- whether no direction before is parallel -/
def fnew (D : List P3) (i : Nat) : Bool := match D[i]? with
  | some d => (D.take i).all (fun e => decide ¬ (e = d ∨ e = ng d))
  | none => false
theorem fnew_iff {D : List P3} {i : Nat} {d : P3} (hd : D[i]? = some d) : fnew D i = true ↔ ∀ (j : Nat) (e : P3), j < i → D[j]? = some e → ¬ par e d := by
  rw [fnew, hd]
  simp only [List.all_eq_true, decide_eq_true_eq]
  constructor
  · intro h j e hj he
    exact h e (List.mem_of_getElem? (i := j) (by rw [List.getElem?_take, if_pos hj]; exact he))
  · intro h e he
    obtain ⟨j, hj⟩ := List.getElem?_of_mem he
    rw [List.getElem?_take] at hj
    split at hj
    next q => exact h j e q hj
    next q => cases hj
def ndir (D : List P3) (i : Nat) : Nat := (List.range i).countP (fnew D)
theorem ndir_le (D : List P3) (i : Nat) : ndir D i ≤ i := by
  have := List.countP_le_length (p := fnew D) (l := List.range i)
  rw [List.length_range] at this
  exact this
theorem k_Z_countDirections {n z : Nat} {G : xG} {D : List P3} {fd fa : Nat → Option Nat} {pa : Nat → Nat} {ms cv : Nat → Int32} {cnt : Nat} (hz : zlo G z fd fa pa ms cv D.length cnt) (hdr : zdr G z D) (hok : dOk D) :
    xK mZ_countDirections [.ref z] n G 0 0 (qI n G (nI (ndir D D.length))) xNo := by
  obtain ⟨⟨g0, g1, g2, g3, g4⟩, ⟨f1, f2, f3, f4⟩, ht, hn⟩ := id hz
  have hL := hok.1
  have loop : ∀ (m i : Nat), D.length - i < m → i ≤ D.length → xS mZ_countDirections n 0 0 (qI n G (nI (ndir D D.length))) xNo 4 [(0, .ref z), (1, .int (nI (ndir D i))), (2, .int (nI i))] [] n G 0 0 := by
    intro m
    induction m with
    | zero => intro i q; exact absurd q (by omega)
    | succ m ih =>
      intro i q1 q2
      refine xs_iload_n dZ_countDirections_4 rfl ?_
      refine xs_aload_n dZ_countDirections_5 rfl ?_
      refine xs_get dZ_countDirections_6 flZ_27 (by repeat (first | assumption | exact va_up_self _ _ _ | refine (va_up_ne _ _ (by omega)).trans ?_)) rfl ?_
      refine xs_icmp_ge dZ_countDirections_9 (fun hg => ?_) (fun hg => ?_)
      · have hi := (nI_leI (by omega) (by omega)).mp hg
        have hie : i = D.length := by omega
        subst hie
        refine xs_iload_n dZ_countDirections_35 rfl ?_
        exact xs_iret dZ_countDirections_36 rfl rfl (by omega) (by omega) ⟨rfl, rfl, rfl⟩
      · have hi : i < D.length := nI_lt_of (by omega) (by omega) hg
        obtain ⟨d, hd⟩ : ∃ d, D[i]? = some d := ⟨_, List.getElem?_eq_getElem hi⟩
        have hdk := hok.2 d (List.mem_of_getElem? hd)
        have hini := fin16 (i := i) (by omega)
        have hfi : fd (nI i).toNatClampNeg = some (z + 5 + i) := by rw [nI_clamp (by omega)]; exact f1 i (by omega)
        have hdc := hdr i d hd
        have hle := ndir_le D i
        refine xs_aload_n dZ_countDirections_12 rfl ?_
        refine xs_aload_n dZ_countDirections_13 rfl ?_
        refine xs_get dZ_countDirections_14 flZ_11 (by repeat (first | assumption | exact va_up_self _ _ _ | refine (va_up_ne _ _ (by omega)).trans ?_)) rfl ?_
        refine xs_iload_n dZ_countDirections_17 rfl ?_
        refine xs_ald3 dZ_countDirections_18 (by repeat (first | assumption | exact va_up_self _ _ _ | refine (va_up_ne _ _ (by omega)).trans ?_)) (by assumption) hfi ?_
        refine xs_cV_ix (As := [_]) dZ_countDirections_19 lkZ_103 (by repeat (first | assumption | exact va_up_self _ _ _ | refine (va_up_ne _ _ (by omega)).trans ?_)) (k_Z_firstParallelTo hz hdr hok hdc (bd_mono hdk.1 (by decide))) rfl rfl (Nat.le_of_ble_eq_true rfl) ⟨by decide, by decide⟩ ⟨by omega, by omega⟩ ?_
        intro r H hr
        obtain ⟨⟨o, ho, hp⟩, hH⟩ := hr
        rw [hH]
        have next : fnew D i = true ∨ fnew D i = false := by cases fnew D i <;> simp
        have hs : ndir D (i + 1) = ndir D i + (if fnew D i = true then 1 else 0) := by
          unfold ndir
          rw [List.range_succ, List.countP_append, List.countP_singleton]
        cases o with
        | none => exact absurd (Or.inl rfl) (hp i d hd)
        | some k =>
          obtain ⟨⟨e, hke, hpe⟩, hkm⟩ := hp
          have hkl := (List.getElem?_eq_some_iff.mp hke).1
          have hki : k ≤ i := by
            rcases Nat.lt_or_ge i k with q | q
            · exact absurd (Or.inl rfl) (hkm i d q hd)
            · exact q
          have hiff : r = nI i ↔ k = i := by
            rw [ho]
            exact nI_eq (by omega) (by omega)
          refine xs_iload_n dZ_countDirections_22 rfl ?_
          refine xs_icmp_ne dZ_countDirections_23 (fun hne => ?_) (fun heq => ?_)
          · have hf : fnew D i = false := by
              cases hq : fnew D i
              · rfl
              · have hlt : k < i := by
                  have : k ≠ i := fun q => hne (hiff.mpr q)
                  omega
                exact absurd hpe ((fnew_iff hd).mp hq k e hlt hke)
            refine xs_iinc (L2 := [(2, _), (0, _), (1, _)]) dZ_countDirections_29 rfl rfl (by decide) rfl ?_
            refine xs_goto dZ_countDirections_32 ?_
            refine xs_pick (L2 := [(0, _), (1, _), (2, _)]) [1, 2, 0] rfl ?_
            have := ih (i + 1) (by omega) (by omega)
            rw [hs, hf] at this
            rw [xii]
            exact this
          · have hki2 := hiff.mp heq
            subst hki2
            have hf : fnew D k = true := (fnew_iff hd).mpr hkm
            refine xs_iinc (L2 := [(1, _), (0, _), (2, _)]) dZ_countDirections_26 rfl rfl (by decide) rfl ?_
            refine xs_iinc (L2 := [(2, _), (1, _), (0, _)]) dZ_countDirections_29 rfl rfl (by decide) rfl ?_
            refine xs_goto dZ_countDirections_32 ?_
            refine xs_pick (L2 := [(0, _), (1, _), (2, _)]) [2, 1, 0] rfl ?_
            have := ih (k + 1) (by omega) (by omega)
            rw [hs, hf] at this
            rw [xii, xii]
            exact this
  refine xK_of2 (L0 := [(0, _)]) (by decide +kernel) rfl (Nat.le_of_ble_eq_true rfl) rfl ?_
  refine xs_iconst (v := 0) dZ_countDirections_0 (by decide) ?_
  refine xs_istore_n (L2 := [(1, _), (0, _)]) dZ_countDirections_1 (by decide) rfl ?_
  refine xs_iconst (v := 0) dZ_countDirections_2 (by decide) ?_
  refine xs_istore_n (L2 := [(2, _), (1, _), (0, _)]) dZ_countDirections_3 (by decide) rfl ?_
  refine xs_pick (L2 := [(0, _), (1, _), (2, _)]) [2, 1, 0] rfl ?_
  exact loop (D.length + 1) 0 (by omega) (by omega)
