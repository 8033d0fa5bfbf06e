theorem iL_dvdW {x : Int} {g : Nat} (hx : x.natAbs < 4503599627370496) (hg : g < 4503599627370496) (h : (g : Int) ∣ x) : iL x / lN g = iL (x / (g : Int)) := by
  rw [iL_nat, iL_tdiv (by omega) (by omega), Int.tdiv_eq_ediv_of_dvd h]
theorem lN_neW {g : Nat} (hg : g < 4503599627370496) (h : g ≠ 0) : ¬ lN g = 0 := by
  intro e
  exact h ((pk_lEQ (a := g) (b := 0) (by omega) (by omega)).mp e)
section N7W
variable {n b : Nat} {G : xG} {rf sz sp ac zs ft : Int32} {gd : Bool} {th : Nat → Int64}
theorem k_B_divideW {x y z : Int} (hb : bd 4503599627370496 (x, y, z)) (hc : G b = mCl b rf sz sp gd ac zs ft) (h8 : G (b + 8) = oL 3 th) : xK mB_divide [.ref b, .long (iL x), .long (iL y), .long (iL z)] n G 0 0 (qVx n (fun H => ∃ th, H = va_up G (b + 8) (oL 3 th) ∧ t3P th (dv (x, y, z)))) xNo := by
  obtain ⟨b1, b2, b3⟩ := id hb
  simp only at b1 b2 b3
  have v0 : vp_in (0 : Int32) 3 := in3 (j := 0) (by decide)
  have v1 : vp_in (1 : Int32) 3 := in3 (j := 1) (by decide)
  have v2 : vp_in (2 : Int32) 3 := in3 (j := 2) (by decide)
  have e0 : (0 : Int32).toNatClampNeg = 0 := by decide
  have e1 : (1 : Int32).toNatClampNeg = 1 := by decide
  have e2 : (2 : Int32).toNatClampNeg = 2 := by decide
  have fin : ∀ (D : Nat) (u : Int64), D ≠ 0 → D < 4503599627370496 → (D : Int) ∣ x → (D : Int) ∣ y → (D : Int) ∣ z → dv (x, y, z) = (x / (D : Int), y / (D : Int), z / (D : Int)) →
      xS mB_divide n 0 0 (qVx n (fun H => ∃ th, H = va_up G (b + 8) (oL 3 th) ∧ t3P th (dv (x, y, z)))) xNo 25 [(7, .long u), (0, .ref b), (1, .long (iL x)), (3, .long (iL y)), (5, .long (iL z))] [.long (lN D)] n G 0 0 := by
    intro D u hD hD2 d1 d2 d3 he
    have hn := lN_neW hD2 hD
    refine xs_lstore (L2 := [(7, _), (0, _), (1, _), (3, _), (5, _)]) dB_divide_25 (by decide) rfl ?_
    refine xs_aload_n dB_divide_27 rfl ?_
    refine xs_get dB_divide_28 flB_32 (by repeat (first | exact va_up_self _ _ _ | assumption | refine (va_up_ne _ _ (by omega)).trans ?_)) rfl ?_
    refine xs_iconst (v := 0) dB_divide_31 (by decide) ?_
    refine xs_lload_n dB_divide_32 rfl ?_
    refine xs_lload dB_divide_33 rfl ?_
    refine xs_ldiv dB_divide_35 hn ?_
    refine xs_last dB_divide_36 (by repeat (first | exact va_up_self _ _ _ | assumption | refine (va_up_ne _ _ (by omega)).trans ?_)) (by assumption) ?_
    refine xs_aload_n dB_divide_37 rfl ?_
    refine xs_get dB_divide_38 flB_32 (by repeat (first | exact va_up_self _ _ _ | assumption | refine (va_up_ne _ _ (by omega)).trans ?_)) rfl ?_
    refine xs_iconst (v := 1) dB_divide_41 (by decide) ?_
    refine xs_lload_n dB_divide_42 rfl ?_
    refine xs_lload dB_divide_43 rfl ?_
    refine xs_ldiv dB_divide_45 hn ?_
    refine xs_last dB_divide_46 (by repeat (first | exact va_up_self _ _ _ | assumption | refine (va_up_ne _ _ (by omega)).trans ?_)) (by assumption) ?_
    refine xs_aload_n dB_divide_47 rfl ?_
    refine xs_get dB_divide_48 flB_32 (by repeat (first | exact va_up_self _ _ _ | assumption | refine (va_up_ne _ _ (by omega)).trans ?_)) rfl ?_
    refine xs_iconst (v := 2) dB_divide_51 (by decide) ?_
    refine xs_lload dB_divide_52 rfl ?_
    refine xs_lload dB_divide_54 rfl ?_
    refine xs_ldiv dB_divide_56 hn ?_
    refine xs_last dB_divide_57 (by repeat (first | exact va_up_self _ _ _ | assumption | refine (va_up_ne _ _ (by omega)).trans ?_)) (by assumption) ?_
    rw [bx_uu, bx_uu, iL_dvdW b1 hD2 d1, iL_dvdW b2 hD2 d2, iL_dvdW b3 hD2 d3, e0, e1, e2]
    exact xs_vret dB_divide_58 rfl (by omega) (by omega) ⟨rfl, rfl, _, rfl, by rw [he]; simp [t3P, vp_updL]⟩
  have hg := g3_lt hb
  have g1 := gcd_lt (a := x.natAbs) (b := y.natAbs) b1 b2
  refine xK_of2 (L0 := [(0, _), (1, _), (3, _), (5, _)]) (by decide +kernel) rfl (Nat.le_of_ble_eq_true rfl) rfl ?_
  refine xs_lload_n dB_divide_0 rfl ?_
  refine xs_lload_n dB_divide_1 rfl ?_
  refine xs_cS_l (As := [_, _]) dB_divide_2 lkB_81 (k_B_divisor (x:=x) (y:=y) (by omega) (by omega)) rfl rfl (Nat.le_of_ble_eq_true rfl) ⟨by decide, by decide⟩ ⟨by omega, by omega⟩ ?_
  rw [iL_nat]
  refine xs_lload dB_divide_5 rfl ?_
  refine xs_cS_l (As := [_, _]) dB_divide_7 lkB_81 (k_B_divisor (x:=((Nat.gcd x.natAbs y.natAbs : Nat) : Int)) (y:=z) (by omega) (by omega)) rfl rfl (Nat.le_of_ble_eq_true rfl) ⟨by decide, by decide⟩ ⟨by omega, by omega⟩ ?_
  refine xs_lstore (L2 := [(7, _), (0, _), (1, _), (3, _), (5, _)]) dB_divide_10 (by decide) rfl ?_
  refine xs_lload dB_divide_12 rfl ?_
  refine xs_lconst (v := 0) dB_divide_14 (by decide) ?_
  rw [Int.natAbs_natCast, show Nat.gcd (Nat.gcd x.natAbs y.natAbs) z.natAbs = g3 (x, y, z) from rfl]
  refine xs_lc_ne dB_divide_15 dB_divide_16 (fun h => ?_) (fun h => ?_)
  · have h0 : g3 (x, y, z) ≠ 0 := fun e => h (by rw [e]; rfl)
    refine xs_lload dB_divide_23 rfl ?_
    exact fin _ _ h0 hg (g3_d1 (x, y, z)) (g3_d2 (x, y, z)) (g3_d3 (x, y, z)) rfl
  · have h0 : g3 (x, y, z) = 0 := (pk_lEQ (a := g3 (x, y, z)) (b := 0) (by omega) (by omega)).mp h
    have hz := g3_0 h0
    simp only [Prod.mk.injEq] at hz
    refine xs_lconst (v := 1) dB_divide_19 (by decide) ?_
    refine xs_goto dB_divide_20 ?_
    refine fin 1 _ (by decide) (by decide) (Int.one_dvd _) (Int.one_dvd _) (Int.one_dvd _) ?_
    rw [hz.1, hz.2.1, hz.2.2]
    decide
theorem k_B_normalizeW {x y z : Int} (hb : bd 4503599627370496 (x, y, z)) (hc : G b = mCl b rf sz sp gd ac zs ft) (h8 : G (b + 8) = oL 3 th) : xK mB_normalize [.ref b, .long (iL x), .long (iL y), .long (iL z)] n G 0 0 (qVx n (fun H => ∃ th, H = va_up G (b + 8) (oL 3 th) ∧ t3P th (nz (x, y, z)))) xNo := by
  obtain ⟨d, hd⟩ : ∃ d, d = dv (x, y, z) := ⟨_, rfl⟩
  have hdb : bd 4503599627370496 d := by rw [hd]; exact bd_dv hb
  have hnz := nz_trn (x, y, z)
  rw [← hd] at hnz
  have v0 : vp_in (0 : Int32) 3 := in3 (j := 0) (by decide)
  have v1 : vp_in (1 : Int32) 3 := in3 (j := 1) (by decide)
  have v2 : vp_in (2 : Int32) 3 := in3 (j := 2) (by decide)
  have e0 : (0 : Int32).toNatClampNeg = 0 := by decide
  have e1 : (1 : Int32).toNatClampNeg = 1 := by decide
  have e2 : (2 : Int32).toNatClampNeg = 2 := by decide
  obtain ⟨l1, l2, l3⟩ := id hdb
  have q1 := iL_lt (x := d.1) (y := 0) (by omega) (by decide)
  have q2 := iL_eq (x := d.1) (y := 0) (by omega) (by decide)
  have q3 := iL_lt (x := d.2.1) (y := 0) (by omega) (by decide)
  have q4 := iL_eq (x := d.2.1) (y := 0) (by omega) (by decide)
  have q5 := iL_le (x := 0) (y := d.2.2) (by decide) (by omega)
  have loop : ∀ (k i : Nat) (t2 : Nat → Int64), i + k = 3 → (∀ j, j < i → t2 j = iL (c3 (nz (x, y, z)) j)) → (∀ j, i ≤ j → j < 3 → t2 j = iL (c3 d j)) →
      xS mB_normalize n 0 0 (qVx n (fun H => ∃ th, H = va_up G (b + 8) (oL 3 th) ∧ t3P th (nz (x, y, z)))) xNo 73 [(0, .ref b), (7, .int (bI (trn d))), (8, .int (nI i))] [] n (va_up G (b + 8) (oL 3 t2)) 0 0 := by
    intro k
    induction k with
    | zero =>
      intro i t2 hi h1 h2
      have hi : i = 3 := by omega
      subst hi
      refine xs_iload dB_normalize_73 rfl ?_
      refine xs_iconst (v := 3) dB_normalize_75 (by decide) ?_
      refine xs_icmp_ge dB_normalize_76 (fun _ => ?_) (fun q => absurd (by decide) q)
      exact xs_vret dB_normalize_115 rfl (by omega) (by omega) ⟨rfl, rfl, t2, rfl, t3P_iff.mpr h1⟩
    | succ k ih =>
      intro i t2 hi h1 h2
      have vi := in3 (j := i) (by omega)
      have next : ∀ u, u = iL (c3 (nz (x, y, z)) i) → xS mB_normalize n 0 0 (qVx n (fun H => ∃ th, H = va_up G (b + 8) (oL 3 th) ∧ t3P th (nz (x, y, z)))) xNo 108 [(0, .ref b), (7, .int (bI (trn d))), (8, .int (nI i))] [.long u, .int (nI i), .ref (b + 8)] n (va_up G (b + 8) (oL 3 t2)) 0 0 := by
        intro u hu
        subst hu
        refine xs_last dB_normalize_108 (by repeat (first | exact va_up_self _ _ _ | assumption | refine (va_up_ne _ _ (by omega)).trans ?_)) (by assumption) ?_
        refine xs_iinc (L2 := [(8, _), (0, _), (7, _)]) dB_normalize_109 rfl rfl (by decide) rfl ?_
        refine xs_goto dB_normalize_112 ?_
        refine xs_pick (L2 := [(0, _), (7, _), (8, _)]) [1, 2, 0] rfl ?_
        rw [xii, bx_uu, nI_clamp (by omega)]
        refine ih (i + 1) _ (by omega) (fun j hj => ?_) (fun j hj hj3 => ?_)
        · simp only [vp_updL]
          by_cases hji : j = i
          · subst hji
            rw [if_pos rfl]
          · rw [if_neg hji]
            exact h1 j (by omega)
        · simp only [vp_updL]
          rw [if_neg (by omega)]
          exact h2 j (by omega) hj3
      refine xs_iload dB_normalize_73 rfl ?_
      refine xs_iconst (v := 3) dB_normalize_75 (by decide) ?_
      refine xs_icmp_ge dB_normalize_76 (fun q => absurd ((nI_leI (a := 3) (by omega) (by omega)).mp q) (by omega)) (fun _ => ?_)
      refine xs_aload_n dB_normalize_79 rfl ?_
      refine xs_get dB_normalize_80 flB_32 (by repeat (first | exact va_up_self _ _ _ | assumption | refine (va_up_ne _ _ (by omega)).trans ?_)) rfl ?_
      refine xs_iload dB_normalize_83 rfl ?_
      refine xs_iload dB_normalize_85 rfl ?_
      refine xs_if_eq dB_normalize_87 (fun h => ?_) (fun h => ?_)
      · have h9 : ¬ trn d = true := by rw [(bI_0 _).mp h]; decide
        rw [if_neg h9] at hnz
        refine xs_aload_n dB_normalize_101 rfl ?_
        refine xs_get dB_normalize_102 flB_32 (by repeat (first | exact va_up_self _ _ _ | assumption | refine (va_up_ne _ _ (by omega)).trans ?_)) rfl ?_
        refine xs_iload dB_normalize_105 rfl ?_
        refine xs_lald dB_normalize_107 (by repeat (first | exact va_up_self _ _ _ | assumption | refine (va_up_ne _ _ (by omega)).trans ?_)) (by assumption) ?_
        rw [nI_clamp (by omega)]
        exact next _ (by rw [hnz]; exact h2 i (Nat.le_refl _) (by omega))
      · have h9 : trn d = true := (bI_1n _).mp h
        rw [if_pos h9] at hnz
        refine xs_aload_n dB_normalize_90 rfl ?_
        refine xs_get dB_normalize_91 flB_32 (by repeat (first | exact va_up_self _ _ _ | assumption | refine (va_up_ne _ _ (by omega)).trans ?_)) rfl ?_
        refine xs_iload dB_normalize_94 rfl ?_
        refine xs_lald dB_normalize_96 (by repeat (first | exact va_up_self _ _ _ | assumption | refine (va_up_ne _ _ (by omega)).trans ?_)) (by assumption) ?_
        refine xs_lneg dB_normalize_97 ?_
        refine xs_goto dB_normalize_98 ?_
        rw [nI_clamp (by omega)]
        exact next _ (by rw [hnz, h2 i (Nat.le_refl _) (by omega), c3_ng, iL_neg])
  refine xK_of2 (L0 := [(0, _), (1, _), (3, _), (5, _)]) (by decide +kernel) rfl (Nat.le_of_ble_eq_true rfl) rfl ?_
  refine xs_aload_n dB_normalize_0 rfl ?_
  refine xs_lload_n dB_normalize_1 rfl ?_
  refine xs_lload_n dB_normalize_2 rfl ?_
  refine xs_lload dB_normalize_3 rfl ?_
  refine xs_cV_vx (As := [_, _, _]) dB_normalize_5 lkB_85 (by repeat (first | exact va_up_self _ _ _ | assumption | refine (va_up_ne _ _ (by omega)).trans ?_)) (k_B_divideW hb hc h8) rfl rfl (Nat.le_of_ble_eq_true rfl) ⟨by decide, by decide⟩ ⟨by omega, by omega⟩ ?_
  intro H ⟨t1, hH, ht⟩
  rw [← hd] at ht
  subst hH
  have ht2 := t3P_iff.mp ht
  obtain ⟨u0, u1, u2⟩ := ht
  have mid : ∀ tb : Bool, tb = trn d → xS mB_normalize n 0 0 (qVx n (fun H => ∃ th, H = va_up G (b + 8) (oL 3 th) ∧ t3P th (nz (x, y, z)))) xNo 68 [(0, .ref b), (1, .long (iL x)), (3, .long (iL y)), (5, .long (iL z))] [.int (bI tb)] n (va_up G (b + 8) (oL 3 t1)) 0 0 := by
    intro tb htb
    subst htb
    refine xs_istore (L2 := [(7, _), (0, _), (1, _), (3, _), (5, _)]) dB_normalize_68 (by decide) rfl ?_
    refine xs_iconst (v := 0) dB_normalize_70 (by decide) ?_
    refine xs_istore (L2 := [(8, _), (7, _), (0, _), (1, _), (3, _), (5, _)]) dB_normalize_71 (by decide) rfl ?_
    refine xs_pick (L2 := [(0, _), (7, _), (8, _)]) [2, 1, 0] rfl ?_
    exact loop 3 0 t1 (by omega) (fun j hj => absurd hj (by omega)) (fun j _ hj => ht2 j hj)
  have yes : trn d = true → xS mB_normalize n 0 0 (qVx n (fun H => ∃ th, H = va_up G (b + 8) (oL 3 th) ∧ t3P th (nz (x, y, z)))) xNo 63 [(0, .ref b), (1, .long (iL x)), (3, .long (iL y)), (5, .long (iL z))] [] n (va_up G (b + 8) (oL 3 t1)) 0 0 := by
    intro h
    refine xs_iconst (v := 1) dB_normalize_63 (by decide) ?_
    refine xs_goto dB_normalize_64 ?_
    exact mid true h.symm
  have no : trn d = false → xS mB_normalize n 0 0 (qVx n (fun H => ∃ th, H = va_up G (b + 8) (oL 3 th) ∧ t3P th (nz (x, y, z)))) xNo 67 [(0, .ref b), (1, .long (iL x)), (3, .long (iL y)), (5, .long (iL z))] [] n (va_up G (b + 8) (oL 3 t1)) 0 0 := by
    intro h
    refine xs_iconst (v := 0) dB_normalize_67 (by decide) ?_
    exact mid false h.symm
  refine xs_aload_n dB_normalize_8 rfl ?_
  refine xs_get dB_normalize_9 flB_32 (by repeat (first | exact va_up_self _ _ _ | assumption | refine (va_up_ne _ _ (by omega)).trans ?_)) rfl ?_
  refine xs_iconst (v := 0) dB_normalize_12 (by decide) ?_
  refine xs_lald dB_normalize_13 (by repeat (first | exact va_up_self _ _ _ | assumption | refine (va_up_ne _ _ (by omega)).trans ?_)) (by assumption) ?_
  refine xs_lconst (v := 0) dB_normalize_14 (by decide) ?_
  rw [e0, u0]
  refine xs_lc_lt dB_normalize_15 dB_normalize_16 (fun h => yes ?_) (fun h => ?_)
  · exact decide_eq_true (Or.inl (q1.mp h))
  have n1 : ¬ d.1 < 0 := fun e => h (q1.mpr e)
  refine xs_aload_n dB_normalize_19 rfl ?_
  refine xs_get dB_normalize_20 flB_32 (by repeat (first | exact va_up_self _ _ _ | assumption | refine (va_up_ne _ _ (by omega)).trans ?_)) rfl ?_
  refine xs_iconst (v := 0) dB_normalize_23 (by decide) ?_
  refine xs_lald dB_normalize_24 (by repeat (first | exact va_up_self _ _ _ | assumption | refine (va_up_ne _ _ (by omega)).trans ?_)) (by assumption) ?_
  refine xs_lconst (v := 0) dB_normalize_25 (by decide) ?_
  rw [e0, u0]
  refine xs_lc_ne dB_normalize_26 dB_normalize_27 (fun h => no ?_) (fun h => ?_)
  · have n2 : ¬ d.1 = 0 := fun e => h (q2.mpr e)
    exact decide_eq_false (by omega)
  have n2 : d.1 = 0 := q2.mp h
  refine xs_aload_n dB_normalize_30 rfl ?_
  refine xs_get dB_normalize_31 flB_32 (by repeat (first | exact va_up_self _ _ _ | assumption | refine (va_up_ne _ _ (by omega)).trans ?_)) rfl ?_
  refine xs_iconst (v := 1) dB_normalize_34 (by decide) ?_
  refine xs_lald dB_normalize_35 (by repeat (first | exact va_up_self _ _ _ | assumption | refine (va_up_ne _ _ (by omega)).trans ?_)) (by assumption) ?_
  refine xs_lconst (v := 0) dB_normalize_36 (by decide) ?_
  rw [e1, u1]
  refine xs_lc_lt dB_normalize_37 dB_normalize_38 (fun h => yes ?_) (fun h => ?_)
  · exact decide_eq_true (Or.inr ⟨n2, Or.inl (q3.mp h)⟩)
  have n3 : ¬ d.2.1 < 0 := fun e => h (q3.mpr e)
  refine xs_aload_n dB_normalize_41 rfl ?_
  refine xs_get dB_normalize_42 flB_32 (by repeat (first | exact va_up_self _ _ _ | assumption | refine (va_up_ne _ _ (by omega)).trans ?_)) rfl ?_
  refine xs_iconst (v := 1) dB_normalize_45 (by decide) ?_
  refine xs_lald dB_normalize_46 (by repeat (first | exact va_up_self _ _ _ | assumption | refine (va_up_ne _ _ (by omega)).trans ?_)) (by assumption) ?_
  refine xs_lconst (v := 0) dB_normalize_47 (by decide) ?_
  rw [e1, u1]
  refine xs_lc_ne dB_normalize_48 dB_normalize_49 (fun h => no ?_) (fun h => ?_)
  · have n4 : ¬ d.2.1 = 0 := fun e => h (q4.mpr e)
    exact decide_eq_false (by omega)
  have n4 : d.2.1 = 0 := q4.mp h
  refine xs_aload_n dB_normalize_52 rfl ?_
  refine xs_get dB_normalize_53 flB_32 (by repeat (first | exact va_up_self _ _ _ | assumption | refine (va_up_ne _ _ (by omega)).trans ?_)) rfl ?_
  refine xs_iconst (v := 2) dB_normalize_56 (by decide) ?_
  refine xs_lald dB_normalize_57 (by repeat (first | exact va_up_self _ _ _ | assumption | refine (va_up_ne _ _ (by omega)).trans ?_)) (by assumption) ?_
  refine xs_lconst (v := 0) dB_normalize_58 (by decide) ?_
  rw [e2, u2]
  refine xs_lc_ge dB_normalize_59 dB_normalize_60 (fun h => no ?_) (fun h => yes ?_)
  · have n5 := q5.mp h
    exact decide_eq_false (by omega)
  · have n5 : ¬ 0 ≤ d.2.2 := fun e => h (q5.mpr e)
    exact decide_eq_true (by omega)
theorem k_B_crossOfW {p q : P3} (hb : bd 4503599627370496 (cr p q)) (hc : G b = mCl b rf sz sp gd ac zs ft) (h8 : G (b + 8) = oL 3 th) : xK mB_crossOf [.ref b, .long (iL p.1), .long (iL p.2.1), .long (iL p.2.2), .long (iL q.1), .long (iL q.2.1), .long (iL q.2.2)] n G 0 0 (qVx n (fun H => ∃ th, H = va_up G (b + 8) (oL 3 th) ∧ t3P th (nz (cr p q)))) xNo := by
  refine xK_of2 (L0 := [(0, _), (1, _), (3, _), (5, _), (7, _), (9, _), (11, _)]) (by decide +kernel) rfl (Nat.le_of_ble_eq_true rfl) rfl ?_
  refine xs_aload_n dB_crossOf_0 rfl ?_
  refine xs_lload_n dB_crossOf_1 rfl ?_
  refine xs_lload dB_crossOf_2 rfl ?_
  refine xs_lmul dB_crossOf_4 ?_
  refine xs_lload dB_crossOf_5 rfl ?_
  refine xs_lload dB_crossOf_7 rfl ?_
  refine xs_lmul dB_crossOf_9 ?_
  refine xs_lsub dB_crossOf_10 ?_
  refine xs_lload dB_crossOf_11 rfl ?_
  refine xs_lload dB_crossOf_13 rfl ?_
  refine xs_lmul dB_crossOf_15 ?_
  refine xs_lload_n dB_crossOf_16 rfl ?_
  refine xs_lload dB_crossOf_17 rfl ?_
  refine xs_lmul dB_crossOf_19 ?_
  refine xs_lsub dB_crossOf_20 ?_
  refine xs_lload_n dB_crossOf_21 rfl ?_
  refine xs_lload dB_crossOf_22 rfl ?_
  refine xs_lmul dB_crossOf_24 ?_
  refine xs_lload_n dB_crossOf_25 rfl ?_
  refine xs_lload dB_crossOf_26 rfl ?_
  refine xs_lmul dB_crossOf_28 ?_
  refine xs_lsub dB_crossOf_29 ?_
  simp only [iL_mul, iL_sub]
  refine xs_cV_vx (As := [_, _, _]) dB_crossOf_30 lkB_89 (by repeat (first | exact va_up_self _ _ _ | assumption | refine (va_up_ne _ _ (by omega)).trans ?_)) (k_B_normalizeW hb hc h8) rfl rfl (Nat.le_of_ble_eq_true rfl) ⟨by decide, by decide⟩ ⟨by omega, by omega⟩ ?_
  intro H hH
  exact xs_vret dB_crossOf_33 rfl (by omega) (by omega) ⟨rfl, rfl, hH⟩
theorem k_B_isNothingW {p : P3} (hb : bd 4503599627370496 p) (hc : G b = mCl b rf sz sp gd ac zs ft) (h8 : G (b + 8) = oL 3 th) (ht : t3P th p) : xK mB_isNothing [.ref b] n G 0 0 (qI n G (bI (decide (p = (0, 0, 0))))) xNo := by
  obtain ⟨l1, l2, l3⟩ := id hb
  have v0 : vp_in (0 : Int32) 3 := in3 (j := 0) (by decide)
  have v1 : vp_in (1 : Int32) 3 := in3 (j := 1) (by decide)
  have v2 : vp_in (2 : Int32) 3 := in3 (j := 2) (by decide)
  have e0 : (0 : Int32).toNatClampNeg = 0 := by decide
  have e1 : (1 : Int32).toNatClampNeg = 1 := by decide
  have e2 : (2 : Int32).toNatClampNeg = 2 := by decide
  have q1 := iL_eq (x := p.1) (y := 0) (by omega) (by decide)
  have q2 := iL_eq (x := p.2.1) (y := 0) (by omega) (by decide)
  have q3 := iL_eq (x := p.2.2) (y := 0) (by omega) (by decide)
  obtain ⟨u0, u1, u2⟩ := ht
  have no : p ≠ (0, 0, 0) → xS mB_isNothing n 0 0 (qI n G (bI (decide (p = (0, 0, 0))))) xNo 37 [(0, .ref b)] [] n G 0 0 := by
    intro h
    refine xs_iconst (v := 0) dB_isNothing_37 (by decide) ?_
    exact xs_iret dB_isNothing_38 rfl rfl (by omega) (by omega) ⟨by rw [bI_f h], rfl, rfl⟩
  refine xK_of2 (L0 := [(0, _)]) (by decide +kernel) rfl (Nat.le_of_ble_eq_true rfl) rfl ?_
  refine xs_aload_n dB_isNothing_0 rfl ?_
  refine xs_get dB_isNothing_1 flB_32 (by repeat (first | exact va_up_self _ _ _ | assumption | refine (va_up_ne _ _ (by omega)).trans ?_)) rfl ?_
  refine xs_iconst (v := 0) dB_isNothing_4 (by decide) ?_
  refine xs_lald dB_isNothing_5 (by repeat (first | exact va_up_self _ _ _ | assumption | refine (va_up_ne _ _ (by omega)).trans ?_)) (by assumption) ?_
  refine xs_lconst (v := 0) dB_isNothing_6 (by decide) ?_
  rw [e0, u0]
  refine xs_lc_ne dB_isNothing_7 dB_isNothing_8 (fun h => no (fun e => h (q1.mpr (by rw [e])))) (fun h => ?_)
  have h1 := q1.mp h
  refine xs_aload_n dB_isNothing_11 rfl ?_
  refine xs_get dB_isNothing_12 flB_32 (by repeat (first | exact va_up_self _ _ _ | assumption | refine (va_up_ne _ _ (by omega)).trans ?_)) rfl ?_
  refine xs_iconst (v := 1) dB_isNothing_15 (by decide) ?_
  refine xs_lald dB_isNothing_16 (by repeat (first | exact va_up_self _ _ _ | assumption | refine (va_up_ne _ _ (by omega)).trans ?_)) (by assumption) ?_
  refine xs_lconst (v := 0) dB_isNothing_17 (by decide) ?_
  rw [e1, u1]
  refine xs_lc_ne dB_isNothing_18 dB_isNothing_19 (fun h => no (fun e => h (q2.mpr (by rw [e])))) (fun h => ?_)
  have h2 := q2.mp h
  refine xs_aload_n dB_isNothing_22 rfl ?_
  refine xs_get dB_isNothing_23 flB_32 (by repeat (first | exact va_up_self _ _ _ | assumption | refine (va_up_ne _ _ (by omega)).trans ?_)) rfl ?_
  refine xs_iconst (v := 2) dB_isNothing_26 (by decide) ?_
  refine xs_lald dB_isNothing_27 (by repeat (first | exact va_up_self _ _ _ | assumption | refine (va_up_ne _ _ (by omega)).trans ?_)) (by assumption) ?_
  refine xs_lconst (v := 0) dB_isNothing_28 (by decide) ?_
  rw [e2, u2]
  refine xs_lc_ne dB_isNothing_29 dB_isNothing_30 (fun h => no (fun e => h (q3.mpr (by rw [e])))) (fun h => ?_)
  have h3 := q3.mp h
  refine xs_iconst (v := 1) dB_isNothing_33 (by decide) ?_
  refine xs_goto dB_isNothing_34 ?_
  exact xs_iret dB_isNothing_38 rfl rfl (by omega) (by omega) ⟨by rw [bI_t (Prod.ext h1 (Prod.ext h2 h3))], rfl, rfl⟩
end N7W
section N7
variable {n b : Nat} {G : xG} {rf : Int32} {S : zS} {T : List Nat} {V : zV} {A : List zV} {O : Option zV × Option zV} {sz sp ac zs ft : Int32} {gd : Bool}
theorem mlz_fr {H : xG} (h : mlz G b V) (hf : ∀ k, b + 8 ≤ k → k < b + 13 → H k = G k) : mlz H b V := by
  obtain ⟨⟨th, h1⟩, ⟨wy, h2, h3⟩, ⟨ax, mn, wh, h4, h5, h6, h7⟩, h8⟩ := h
  exact ⟨⟨th, by rw [hf _ (by omega) (by omega)]; exact h1⟩, ⟨wy, by rw [hf _ (by omega) (by omega)]; exact h2, h3⟩, ⟨ax, mn, wh, by rw [hf _ (by omega) (by omega)]; exact h4, by rw [hf _ (by omega) (by omega)]; exact h5, by rw [hf _ (by omega) (by omega)]; exact h6, h7⟩, h8⟩
theorem mdx_w {H : xG} (h : mdx G b rf T V A O) (h8 : ∃ th, H (b + 8) = oL 3 th) (h9 : ∃ wy, H (b + 9) = oL 48 wy) (hf : xfr (b + 8) (b + 10) G H) : mdx H b rf T V A O := by
  obtain ⟨⟨sp, gd, zs, ft, hc⟩, k1, k2, k3, k4, k5, k6, ⟨_, _, ⟨a3, w3⟩, ⟨a4, w4⟩, ⟨a5, w5⟩⟩, k8⟩ := id h
  exact mdx_z h ⟨sp, gd, zs, ft, by rw [hf _ (by omega)]; exact hc⟩ ⟨h8, h9, ⟨a3, by rw [hf _ (by omega)]; exact w3⟩, ⟨a4, by rw [hf _ (by omega)]; exact w4⟩, ⟨a5, by rw [hf _ (by omega)]; exact w5⟩⟩ (fun k _ _ => hf k (by omega))
theorem k_B_isZoneNumber {x : Int32} {f : Nat → Int32} (hc : G b = mCl b rf sz sp gd ac zs ft) (hw : mwk G b) (hr : G (b + 3) = oI 70 f) (hV : zOk V) (hf : mrow f V) :
    xK mB_isZoneNumber [.ref b, .int x] n G 0 0 (qIx n (fun q H => q = bI (fAt (zl V) x.toInt).isSome ∧ H b = mCl b rf sz sp gd ac (nI (zl V).length) ft ∧ mlz H b V ∧ mfr b G H)) xNo := by
  refine xK_of2 (L0 := [(0, _), (1, _)]) (by decide +kernel) rfl (Nat.le_of_ble_eq_true rfl) rfl ?_
  refine xs_iload_n dB_isZoneNumber_0 rfl ?_
  refine xs_i2l dB_isZoneNumber_1 ?_
  refine xs_lconst (v := 0) dB_isZoneNumber_2 (by decide) ?_
  refine xs_aload_n dB_isZoneNumber_3 rfl ?_
  refine xs_aload_n dB_isZoneNumber_4 rfl ?_
  refine xs_get dB_isZoneNumber_5 flB_16 (by repeat (first | exact va_up_self _ _ _ | assumption | refine (va_up_ne _ _ (by omega)).trans ?_)) rfl ?_
  refine xs_cV_ix (As := [_]) dB_isZoneNumber_8 lkB_223 (by repeat (first | exact va_up_self _ _ _ | assumption | refine (va_up_ne _ _ (by omega)).trans ?_)) (k_B_zonesOf hc hw hr ⟨by omega, by omega⟩ hV hf) rfl rfl (Nat.le_of_ble_eq_true rfl) ⟨by decide, by decide⟩ ⟨by omega, by omega⟩ ?_
  intro q H ⟨q1, q2, q3, q4⟩
  subst q1
  obtain ⟨_, _, ⟨_, _, _, _, _, _, _, _, _, hl⟩, _⟩ := id q3
  refine xs_iconst (v := 1) dB_isZoneNumber_11 (by decide) ?_
  refine xs_isub dB_isZoneNumber_12 ?_
  rw [show nI (zl V).length - 1 = iI (((zl V).length : Int) - 1) by rw [iI_nat, show (1 : Int32) = iI 1 from rfl, iI_sub]]
  refine xs_i2l dB_isZoneNumber_13 ?_
  rw [iI_l (by omega)]
  refine xs_cS_i (As := [_, _, _]) dB_isZoneNumber_14 lkB_169 (k_B_inI (lo:=0) (hi:=(((zl V).length : Int) - 1)) (by decide) (by omega)) rfl rfl (Nat.le_of_ble_eq_true rfl) ⟨by decide, by decide⟩ ⟨by omega, by omega⟩ ?_
  exact xs_iret dB_isZoneNumber_17 rfl (bI_n _) (by omega) (by omega) ⟨_, rfl, rfl, by rw [fAt_b], q2, q3, q4⟩
theorem k_B_zone {x y : Int32} (h : mdo G b rf S) : xK mB_zone [.ref b, .int x, .int y] n G 0 0 (bPost n b G (rZone S x.toInt y.toInt)) xNo := by
  obtain ⟨⟨sp, gd, zs, ft, hc⟩, k1, k2, ⟨f, hr, hf, hV⟩, k4, k5, k6, k7, k8⟩ := id h
  refine xK_of2 (L0 := [(0, _), (1, _), (2, _)]) (by decide +kernel) rfl (Nat.le_of_ble_eq_true rfl) rfl ?_
  refine xs_aload_n dB_zone_0 rfl ?_
  refine xs_aload_n dB_zone_1 rfl ?_
  refine xs_iload_n dB_zone_2 rfl ?_
  refine xs_cV_ix (As := [_]) dB_zone_3 lkB_244 (by repeat (first | exact va_up_self _ _ _ | assumption | refine (va_up_ne _ _ (by omega)).trans ?_)) (k_B_isZoneNumber hc k7 hr hV hf) rfl rfl (Nat.le_of_ble_eq_true rfl) ⟨by decide, by decide⟩ ⟨by omega, by omega⟩ ?_
  intro q H ⟨q1, q2, q3, q4⟩
  subst q1
  have h2 : mdo H b rf S := mdx_z h ⟨_, _, _, _, q2⟩ (mwk_of q3) q4
  clear hc k1 k2 k4 k5 k6 k7 k8 h
  obtain ⟨zs, hzs⟩ : ∃ zs, zs = nI (zl S.2.1).length := ⟨_, rfl⟩
  have h := h2
  have hc := q2
  rw [← hzs] at hc
  have fH := mfr_x q4
  cases hx : fAt (zl S.2.1) x.toInt with
  | none =>
    have hR : rZone S x.toInt y.toInt = (1, 0, S) := by simp only [rZone, hx]
    refine xs_ifb_ne dB_zone_6 (fun q => Bool.noConfusion q) (fun _ => ?_)
    refine xs_iconst (v := 1) dB_zone_9 (by decide) ?_
    refine xs_goto dB_zone_10 ?_
    refine xs_cV_i (As := [_]) dB_zone_30 lkB_176 (by repeat (first | exact va_up_self _ _ _ | assumption | refine (va_up_ne _ _ (by omega)).trans ?_)) (k_B_refused (w:=1) (by decide) hc) rfl rfl (Nat.le_of_ble_eq_true rfl) ⟨by decide, by decide⟩ ⟨by omega, by omega⟩ ?_
    rw [bI_t (by decide)]
    refine xs_if_eq dB_zone_33 (fun q => absurd q (by decide)) (fun _ => ?_)
    refine xs_iconst (v := 0) dB_zone_36 (by decide) ?_
    exact xs_iret dB_zone_37 rfl rfl (by omega) (by omega) (bNo hR (by decide) (mdx_rf h) (xfr_tr fH rf_fr))
  | some a =>
    have hR : rZone S x.toInt y.toInt = if 0 ≤ y.toInt ∧ y.toInt ≤ 4 then (0, zav (zDirs S.2.1) a y.toInt, S) else (2, 0, S) := by simp only [rZone, hx]
    obtain ⟨i, hxi, hxt, hxn, hci⟩ := fAt_int hx
    clear hx
    obtain ⟨R, hRR⟩ : ∃ R, R = rZone S x.toInt y.toInt := ⟨_, rfl⟩
    rw [← hRR] at hR ⊢
    clear hRR hxt hxn
    subst hxi
    refine xs_ifb_ne dB_zone_6 (fun _ => ?_) (fun q => Bool.noConfusion q)
    refine xs_iload_n dB_zone_13 rfl ?_
    refine xs_i2l dB_zone_14 ?_
    refine xs_lconst (v := 0) dB_zone_15 (by decide) ?_
    refine xs_ldc2 dB_zone_16 kcB_247 ?_
    refine xs_cS_i (As := [_, _, _]) dB_zone_19 lkB_169 (k_B_inI (lo:=0) (hi:=4) (by decide) (by decide)) rfl rfl (Nat.le_of_ble_eq_true rfl) ⟨by decide, by decide⟩ ⟨by omega, by omega⟩ ?_
    by_cases hr2 : 0 ≤ y.toInt ∧ y.toInt ≤ 4
    case neg =>
      rw [if_neg hr2] at hR
      rw [bI_f hr2]
      refine xs_if_eq dB_zone_22 (fun _ => ?_) (fun q => absurd rfl q)
      refine xs_iconst (v := 2) dB_zone_29 (by decide) ?_
      refine xs_cV_i (As := [_]) dB_zone_30 lkB_176 (by repeat (first | exact va_up_self _ _ _ | assumption | refine (va_up_ne _ _ (by omega)).trans ?_)) (k_B_refused (w:=2) (by decide) hc) rfl rfl (Nat.le_of_ble_eq_true rfl) ⟨by decide, by decide⟩ ⟨by omega, by omega⟩ ?_
      rw [bI_t (by decide)]
      refine xs_if_eq dB_zone_33 (fun q => absurd q (by decide)) (fun _ => ?_)
      refine xs_iconst (v := 0) dB_zone_36 (by decide) ?_
      exact xs_iret dB_zone_37 rfl rfl (by omega) (by omega) (bNo hR (by decide) (mdx_rf h) (xfr_tr fH rf_fr))
    rw [if_pos hr2] at hR
    rw [bI_t hr2]
    refine xs_if_eq dB_zone_22 (fun q => absurd q (by decide)) (fun _ => ?_)
    refine xs_iconst (v := 0) dB_zone_25 (by decide) ?_
    refine xs_goto dB_zone_26 ?_
    obtain ⟨w, hyw, hyt, _, hw8⟩ := toN hr2 (by decide)
    rw [hyt] at hR
    clear hr2
    subst hyw
    refine xs_cV_i (As := [_]) dB_zone_30 lkB_176 (by repeat (first | exact va_up_self _ _ _ | assumption | refine (va_up_ne _ _ (by omega)).trans ?_)) (k_B_refused (w:=0) (by decide) hc) rfl rfl (Nat.le_of_ble_eq_true rfl) ⟨by decide, by decide⟩ ⟨by omega, by omega⟩ ?_
    rw [bI_f (by decide)]
    refine xs_if_eq dB_zone_33 (fun _ => ?_) (fun q => absurd rfl q)
    obtain ⟨H1, hH1⟩ : ∃ H1, H1 = va_up H b (mCl b (nI 0) (nI S.1.length) sp gd (nI S.2.2.1.length) zs ft) := ⟨_, rfl⟩
    have h1 : mdo H1 b (nI 0) S := hH1 ▸ mdx_rf h
    have f1 : xfr b (b + 17) G H1 := xfr_tr fH (hH1 ▸ rf_fr)
    have c1 : H1 b = mCl b (nI 0) (nI S.1.length) sp gd (nI S.2.2.1.length) zs ft := by rw [hH1, va_up_self]
    have e1 : ∀ k, k ≠ b → H1 k = H k := fun k hk => by rw [hH1, va_up_ne _ _ hk]
    refine xs_at (H := H1) hH1.symm ?_
    clear hH1
    obtain ⟨_, _, ⟨ax, mn, wh, w10, w11, w12, w13, w14, w15, hZ⟩, hfin⟩ := mlz_fr q3 (fun k _ _ => e1 k (by omega))
    have hok := zDirs_ok hV
    obtain ⟨⟨v0, v1, v2⟩, y0, y1, y2⟩ := ax_get w13 hci hZ
    have hil := (List.getElem?_eq_some_iff.mp hci).1
    have vi : vp_in (nI i) 121 := vp_in_nI (by omega) (by omega)
    have hcs : w = 0 ∨ w = 1 ∨ w = 2 ∨ w = 3 ∨ w = 4 := by omega
    refine xs_iload_n dB_zone_38 rfl ?_
    refine xs_iconst (v := 3) dB_zone_39 (by decide) ?_
    rcases hcs with rfl | rfl | rfl | rfl | rfl
    · refine xs_icmp_ge dB_zone_40 (fun q => absurd q (by decide)) (fun _ => ?_)
      refine xs_aload_n dB_zone_43 rfl ?_
      refine xs_get dB_zone_44 flB_39 (by repeat (first | exact va_up_self _ _ _ | assumption | refine (va_up_ne _ _ (by omega)).trans ?_)) rfl ?_
      refine xs_iconst (v := 3) dB_zone_47 (by decide) ?_
      refine xs_iload_n dB_zone_48 rfl ?_
      refine xs_imul dB_zone_49 ?_
      refine xs_iload_n dB_zone_50 rfl ?_
      refine xs_iadd dB_zone_51 ?_
      rw [show (3 : Int32) * nI i + nI 0 = 3 * nI i from Int32.add_zero _]
      refine xs_lald dB_zone_52 (by repeat (first | exact va_up_self _ _ _ | assumption | refine (va_up_ne _ _ (by omega)).trans ?_)) (by assumption) ?_
      rw [y0]
      refine xs_l2i dB_zone_53 ?_
      rw [iL_i]
      refine xs_goto dB_zone_54 ?_
      exact xs_iret dB_zone_77 rfl rfl (by omega) (by omega) (bOk hR rfl h1 f1)
    · refine xs_icmp_ge dB_zone_40 (fun q => absurd q (by decide)) (fun _ => ?_)
      refine xs_aload_n dB_zone_43 rfl ?_
      refine xs_get dB_zone_44 flB_39 (by repeat (first | exact va_up_self _ _ _ | assumption | refine (va_up_ne _ _ (by omega)).trans ?_)) rfl ?_
      refine xs_iconst (v := 3) dB_zone_47 (by decide) ?_
      refine xs_iload_n dB_zone_48 rfl ?_
      refine xs_imul dB_zone_49 ?_
      refine xs_iload_n dB_zone_50 rfl ?_
      refine xs_iadd dB_zone_51 ?_
      rw [show (3 : Int32) * nI i + nI 1 = 3 * nI i + 1 from rfl]
      refine xs_lald dB_zone_52 (by repeat (first | exact va_up_self _ _ _ | assumption | refine (va_up_ne _ _ (by omega)).trans ?_)) (by assumption) ?_
      rw [y1]
      refine xs_l2i dB_zone_53 ?_
      rw [iL_i]
      refine xs_goto dB_zone_54 ?_
      exact xs_iret dB_zone_77 rfl rfl (by omega) (by omega) (bOk hR rfl h1 f1)
    · refine xs_icmp_ge dB_zone_40 (fun q => absurd q (by decide)) (fun _ => ?_)
      refine xs_aload_n dB_zone_43 rfl ?_
      refine xs_get dB_zone_44 flB_39 (by repeat (first | exact va_up_self _ _ _ | assumption | refine (va_up_ne _ _ (by omega)).trans ?_)) rfl ?_
      refine xs_iconst (v := 3) dB_zone_47 (by decide) ?_
      refine xs_iload_n dB_zone_48 rfl ?_
      refine xs_imul dB_zone_49 ?_
      refine xs_iload_n dB_zone_50 rfl ?_
      refine xs_iadd dB_zone_51 ?_
      rw [show (3 : Int32) * nI i + nI 2 = 3 * nI i + 2 from rfl]
      refine xs_lald dB_zone_52 (by repeat (first | exact va_up_self _ _ _ | assumption | refine (va_up_ne _ _ (by omega)).trans ?_)) (by assumption) ?_
      rw [y2]
      refine xs_l2i dB_zone_53 ?_
      rw [iL_i]
      refine xs_goto dB_zone_54 ?_
      exact xs_iret dB_zone_77 rfl rfl (by omega) (by omega) (bOk hR rfl h1 f1)
    · refine xs_icmp_ge dB_zone_40 (fun _ => ?_) (fun q => absurd (by decide) q)
      refine xs_iload_n dB_zone_57 rfl ?_
      refine xs_iconst (v := 3) dB_zone_58 (by decide) ?_
      refine xs_icmp_ne dB_zone_59 (fun q => absurd rfl q) (fun _ => ?_)
      refine xs_aload_n dB_zone_62 rfl ?_
      refine xs_get dB_zone_63 flB_42 (by repeat (first | exact va_up_self _ _ _ | assumption | refine (va_up_ne _ _ (by omega)).trans ?_)) rfl ?_
      refine xs_iload_n dB_zone_66 rfl ?_
      refine xs_iald dB_zone_67 (by repeat (first | exact va_up_self _ _ _ | assumption | refine (va_up_ne _ _ (by omega)).trans ?_)) (by assumption) ?_
      rw [nI_clamp (by omega), w14 i a hci]
      refine xs_goto dB_zone_68 ?_
      exact xs_iret dB_zone_77 rfl rfl (by omega) (by omega) (bOk hR (iI_nat _) h1 f1)
    · refine xs_icmp_ge dB_zone_40 (fun _ => ?_) (fun q => absurd (by decide) q)
      refine xs_iload_n dB_zone_57 rfl ?_
      refine xs_iconst (v := 3) dB_zone_58 (by decide) ?_
      refine xs_icmp_ne dB_zone_59 (fun _ => ?_) (fun q => absurd q (by decide))
      refine xs_aload_n dB_zone_71 rfl ?_
      refine xs_get dB_zone_72 flB_45 (by repeat (first | exact va_up_self _ _ _ | assumption | refine (va_up_ne _ _ (by omega)).trans ?_)) rfl ?_
      refine xs_iload_n dB_zone_75 rfl ?_
      refine xs_iald dB_zone_76 (by repeat (first | exact va_up_self _ _ _ | assumption | refine (va_up_ne _ _ (by omega)).trans ?_)) (by assumption) ?_
      rw [nI_clamp (by omega), w15 i a hci]
      exact xs_iret dB_zone_77 rfl rfl (by omega) (by omega) (bOk hR (iI_nat _) h1 f1)
theorem zl_bd {V : zV} (hV : zOk V) (hfin : zFin (zDirs V) V.2.2.1 (zl V).length (zl V)) : ∀ x ∈ zl V, bd 1100000 x := fun x hx => (isAx_bd (zDirs_ok hV) (((zSet_of hfin).2 x).mp hx).1).1
theorem k_B_zoneOf {x y : Int32} (h : mdo G b rf S) : xK mB_zoneOf [.ref b, .int x, .int y] n G 0 0 (bPost n b G (rZoneOf S x.toInt y.toInt)) xNo := by
  obtain ⟨⟨sp, gd, zs, ft, hc⟩, k1, k2, ⟨f, hr, hf, hV⟩, k4, k5, k6, k7, k8⟩ := id h
  refine xK_of2 (L0 := [(0, _), (1, _), (2, _)]) (by decide +kernel) rfl (Nat.le_of_ble_eq_true rfl) rfl ?_
  refine xs_aload_n dB_zoneOf_0 rfl ?_
  refine xs_aload_n dB_zoneOf_1 rfl ?_
  refine xs_iload_n dB_zoneOf_2 rfl ?_
  refine xs_cV_i (As := [_]) dB_zoneOf_3 lkB_232 (by repeat (first | exact va_up_self _ _ _ | assumption | refine (va_up_ne _ _ (by omega)).trans ?_)) (k_B_isFace h) rfl rfl (Nat.le_of_ble_eq_true rfl) ⟨by decide, by decide⟩ ⟨by omega, by omega⟩ ?_
  cases hx : fAt S.2.1.1 x.toInt with
  | none =>
    have hR : rZoneOf S x.toInt y.toInt = (1, 0, S) := by simp only [rZoneOf, hx]
    refine xs_ifb_eq dB_zoneOf_6 (fun _ => ?_) (fun q => Bool.noConfusion q)
    refine xs_iconst (v := 1) dB_zoneOf_21 (by decide) ?_
    refine xs_cV_i (As := [_]) dB_zoneOf_22 lkB_176 (by repeat (first | exact va_up_self _ _ _ | assumption | refine (va_up_ne _ _ (by omega)).trans ?_)) (k_B_refused (w:=1) (by decide) hc) rfl rfl (Nat.le_of_ble_eq_true rfl) ⟨by decide, by decide⟩ ⟨by omega, by omega⟩ ?_
    rw [bI_t (by decide)]
    refine xs_if_eq dB_zoneOf_25 (fun q => absurd q (by decide)) (fun _ => ?_)
    refine xs_iconst (v := 0) dB_zoneOf_28 (by decide) ?_
    exact xs_iret dB_zoneOf_29 rfl rfl (by omega) (by omega) (bNo hR (by decide) (mdx_rf h) rf_fr)
  | some c =>
    refine xs_ifb_eq dB_zoneOf_6 (fun q => Bool.noConfusion q) (fun _ => ?_)
    refine xs_aload_n dB_zoneOf_9 rfl ?_
    refine xs_iload_n dB_zoneOf_10 rfl ?_
    refine xs_cV_i (As := [_]) dB_zoneOf_11 lkB_232 (by repeat (first | exact va_up_self _ _ _ | assumption | refine (va_up_ne _ _ (by omega)).trans ?_)) (k_B_isFace h) rfl rfl (Nat.le_of_ble_eq_true rfl) ⟨by decide, by decide⟩ ⟨by omega, by omega⟩ ?_
    cases hy : fAt S.2.1.1 y.toInt with
    | none =>
      have hR : rZoneOf S x.toInt y.toInt = (1, 0, S) := by simp only [rZoneOf, hx, hy]
      refine xs_ifb_eq dB_zoneOf_14 (fun _ => ?_) (fun q => Bool.noConfusion q)
      refine xs_iconst (v := 1) dB_zoneOf_21 (by decide) ?_
      refine xs_cV_i (As := [_]) dB_zoneOf_22 lkB_176 (by repeat (first | exact va_up_self _ _ _ | assumption | refine (va_up_ne _ _ (by omega)).trans ?_)) (k_B_refused (w:=1) (by decide) hc) rfl rfl (Nat.le_of_ble_eq_true rfl) ⟨by decide, by decide⟩ ⟨by omega, by omega⟩ ?_
      rw [bI_t (by decide)]
      refine xs_if_eq dB_zoneOf_25 (fun q => absurd q (by decide)) (fun _ => ?_)
      refine xs_iconst (v := 0) dB_zoneOf_28 (by decide) ?_
      exact xs_iret dB_zoneOf_29 rfl rfl (by omega) (by omega) (bNo hR (by decide) (mdx_rf h) rf_fr)
    | some d =>
      have hR : rZoneOf S x.toInt y.toInt = (0, nO (zno S.2.1 c d), S) := by simp only [rZoneOf, hx, hy]
      obtain ⟨i, hxi, _, _, hci⟩ := fAt_int hx
      obtain ⟨j, hyj, _, _, hdj⟩ := fAt_int hy
      obtain ⟨R, hRR⟩ : ∃ R, R = rZoneOf S x.toInt y.toInt := ⟨_, rfl⟩
      rw [← hRR] at hR ⊢
      clear hRR hx hy
      subst hxi
      subst hyj
      refine xs_ifb_eq dB_zoneOf_14 (fun q => Bool.noConfusion q) (fun _ => ?_)
      refine xs_iconst (v := 0) dB_zoneOf_17 (by decide) ?_
      refine xs_goto dB_zoneOf_18 ?_
      refine xs_cV_i (As := [_]) dB_zoneOf_22 lkB_176 (by repeat (first | exact va_up_self _ _ _ | assumption | refine (va_up_ne _ _ (by omega)).trans ?_)) (k_B_refused (w:=0) (by decide) hc) rfl rfl (Nat.le_of_ble_eq_true rfl) ⟨by decide, by decide⟩ ⟨by omega, by omega⟩ ?_
      rw [bI_f (by decide)]
      refine xs_if_eq dB_zoneOf_25 (fun _ => ?_) (fun q => absurd rfl q)
      obtain ⟨H1, hH1⟩ : ∃ H1, H1 = va_up G b (mCl b (nI 0) (nI S.1.length) sp gd (nI S.2.2.1.length) zs ft) := ⟨_, rfl⟩
      have h1 : mdo H1 b (nI 0) S := hH1 ▸ mdx_rf h
      have f1 : xfr b (b + 17) G H1 := hH1 ▸ rf_fr
      have c1 : H1 b = mCl b (nI 0) (nI S.1.length) sp gd (nI S.2.2.1.length) zs ft := by rw [hH1, va_up_self]
      have e1 : ∀ k, k ≠ b → H1 k = G k := fun k hk => by rw [hH1, va_up_ne _ _ hk]
      refine xs_at (H := H1) hH1.symm ?_
      clear hH1
      have r1 : H1 (b + 3) = oI 70 f := by rw [e1 _ (by omega)]; exact hr
      have w1 : mwk H1 b := mwk_fr k7 (fun k _ _ => e1 k (by omega))
      refine xs_aload_n dB_zoneOf_30 rfl ?_
      refine xs_aload_n dB_zoneOf_31 rfl ?_
      refine xs_get dB_zoneOf_32 flB_16 (by repeat (first | exact va_up_self _ _ _ | assumption | refine (va_up_ne _ _ (by omega)).trans ?_)) rfl ?_
      refine xs_cV_vx (As := [_]) dB_zoneOf_35 lkB_141 (by repeat (first | exact va_up_self _ _ _ | assumption | refine (va_up_ne _ _ (by omega)).trans ?_)) (k_B_layZones c1 w1 r1 ⟨by omega, by omega⟩ hV hf) rfl rfl (Nat.le_of_ble_eq_true rfl) ⟨by decide, by decide⟩ ⟨by omega, by omega⟩ ?_
      intro H2 ⟨q1, q2, q3⟩
      have h2 : mdo H2 b (nI 0) S := mdx_z h1 ⟨_, _, _, _, q1⟩ (mwk_of q2) q3
      have f2 : xfr b (b + 17) G H2 := xfr_tr f1 (mfr_x q3)
      obtain ⟨⟨th, t8⟩, ⟨wy, t9, hwy⟩, ⟨ax, mn, wh, w10, w11, w12, w13, w14, w15, hZ⟩, hfin⟩ := id q2
      have hok := zDirs_ok hV
      have hdi := zDirs_get hci
      have hdj := zDirs_get hdj
      have hdk := hok.2 _ (List.mem_of_getElem? hdi)
      have hek := hok.2 _ (List.mem_of_getElem? hdj)
      have hcb := cr_bd hdk.1 hek.1
      refine xs_aload_n dB_zoneOf_38 rfl ?_
      refine xs_iload_n dB_zoneOf_39 rfl ?_
      refine xs_iload_n dB_zoneOf_40 rfl ?_
      refine xs_cV_vx (As := [_, _]) dB_zoneOf_41 lkB_121 (by repeat (first | exact va_up_self _ _ _ | assumption | refine (va_up_ne _ _ (by omega)).trans ?_)) (k_B_crossWays q1 t8 t9 hwy hok hdi hdj) rfl rfl (Nat.le_of_ble_eq_true rfl) ⟨by decide, by decide⟩ ⟨by omega, by omega⟩ ?_
      intro H3 ⟨th3, hH3, ht3⟩
      have c3 : H3 b = mCl b (nI 0) (nI S.1.length) sp gd (nI S.2.2.1.length) (nI (zl S.2.1).length) ft := by rw [hH3, va_up_ne _ _ (by omega)]; exact q1
      have t83 : H3 (b + 8) = oL 3 th3 := by rw [hH3, va_up_self]
      have w103 : H3 (b + 10) = oL 363 ax := by rw [hH3, va_up_ne _ _ (by omega)]; exact w10
      have h3 : mdo H3 b (nI 0) S := mdx_w h2 ⟨_, t83⟩ ⟨wy, by rw [hH3, va_up_ne _ _ (by omega)]; exact t9⟩ (fun k hk => by rw [hH3, va_up_ne _ _ (by omega)])
      have f3 : xfr b (b + 17) G H3 := fun k hk => by rw [hH3, va_up_ne _ _ (by omega)]; exact f2 k hk
      refine xs_aload_n dB_zoneOf_44 rfl ?_
      refine xs_cV_i (As := []) dB_zoneOf_45 lkB_125 (by repeat (first | exact va_up_self _ _ _ | assumption | refine (va_up_ne _ _ (by omega)).trans ?_)) (k_B_isNothing (bd_mono (bd_nz hcb) (by decide)) c3 t83 ht3) rfl rfl (Nat.le_of_ble_eq_true rfl) ⟨by decide, by decide⟩ ⟨by omega, by omega⟩ ?_
      have hz0 := nz_0 (p := cr (zDir S.2.1.2.2.2 c) (zDir S.2.1.2.2.2 d))
      refine xs_ifb_eq dB_zoneOf_48 (fun hb => ?_) (fun hb => ?_)
      · have hne : ¬ cr (zDir S.2.1.2.2.2 c) (zDir S.2.1.2.2.2 d) = (0, 0, 0) := fun e => of_decide_eq_false hb (hz0.mpr e)
        refine xs_aload_n dB_zoneOf_56 rfl ?_
        refine xs_cV_i (As := []) dB_zoneOf_57 lkB_129 (by repeat (first | exact va_up_self _ _ _ | assumption | refine (va_up_ne _ _ (by omega)).trans ?_)) (k_B_zoneBy c3 t83 ht3 w103 w13 hZ (zl_bd hV hfin) (bd_mono (bd_nz hcb) (by decide))) rfl rfl (Nat.le_of_ble_eq_true rfl) ⟨by decide, by decide⟩ ⟨by omega, by omega⟩ ?_
        exact xs_iret dB_zoneOf_60 rfl rfl (by omega) (by omega) (bOk hR (by rw [zno, if_neg hne]; exact nO_r _) h3 f3)
      · have hne : cr (zDir S.2.1.2.2.2 c) (zDir S.2.1.2.2.2 d) = (0, 0, 0) := hz0.mp (of_decide_eq_true hb)
        refine xs_ldc dB_zoneOf_51 kcB_109 ?_
        refine xs_goto dB_zoneOf_53 ?_
        exact xs_iret dB_zoneOf_60 rfl rfl (by omega) (by omega) (bOk hR (by rw [zno, if_pos hne]; rfl) h3 f3)
theorem k_B_sameForm {x y : Int32} (h : mdo G b rf S) : xK mB_sameForm [.ref b, .int x, .int y] n G 0 0 (bPost n b G (rSame S x.toInt y.toInt)) xNo := by
  obtain ⟨⟨sp, gd, zs, ft, hc⟩, k1, k2, ⟨f, hr, hf, hV⟩, k4, k5, k6, k7, k8⟩ := id h
  refine xK_of2 (L0 := [(0, _), (1, _), (2, _)]) (by decide +kernel) rfl (Nat.le_of_ble_eq_true rfl) rfl ?_
  refine xs_aload_n dB_sameForm_0 rfl ?_
  refine xs_aload_n dB_sameForm_1 rfl ?_
  refine xs_iload_n dB_sameForm_2 rfl ?_
  refine xs_cV_i (As := [_]) dB_sameForm_3 lkB_232 (by repeat (first | exact va_up_self _ _ _ | assumption | refine (va_up_ne _ _ (by omega)).trans ?_)) (k_B_isFace h) rfl rfl (Nat.le_of_ble_eq_true rfl) ⟨by decide, by decide⟩ ⟨by omega, by omega⟩ ?_
  cases hx : fAt S.2.1.1 x.toInt with
  | none =>
    have hR : rSame S x.toInt y.toInt = (1, 0, S) := by simp only [rSame, hx]
    refine xs_ifb_eq dB_sameForm_6 (fun _ => ?_) (fun q => Bool.noConfusion q)
    refine xs_iconst (v := 1) dB_sameForm_21 (by decide) ?_
    refine xs_cV_i (As := [_]) dB_sameForm_22 lkB_176 (by repeat (first | exact va_up_self _ _ _ | assumption | refine (va_up_ne _ _ (by omega)).trans ?_)) (k_B_refused (w:=1) (by decide) hc) rfl rfl (Nat.le_of_ble_eq_true rfl) ⟨by decide, by decide⟩ ⟨by omega, by omega⟩ ?_
    rw [bI_t (by decide)]
    refine xs_if_ne dB_sameForm_25 (fun _ => ?_) (fun q => absurd q (by decide))
    refine xs_iconst (v := 0) dB_sameForm_44 (by decide) ?_
    exact xs_iret dB_sameForm_45 rfl rfl (by omega) (by omega) (bNo hR (by decide) (mdx_rf h) rf_fr)
  | some c =>
    refine xs_ifb_eq dB_sameForm_6 (fun q => Bool.noConfusion q) (fun _ => ?_)
    refine xs_aload_n dB_sameForm_9 rfl ?_
    refine xs_iload_n dB_sameForm_10 rfl ?_
    refine xs_cV_i (As := [_]) dB_sameForm_11 lkB_232 (by repeat (first | exact va_up_self _ _ _ | assumption | refine (va_up_ne _ _ (by omega)).trans ?_)) (k_B_isFace h) rfl rfl (Nat.le_of_ble_eq_true rfl) ⟨by decide, by decide⟩ ⟨by omega, by omega⟩ ?_
    cases hy : fAt S.2.1.1 y.toInt with
    | none =>
      have hR : rSame S x.toInt y.toInt = (1, 0, S) := by simp only [rSame, hx, hy]
      refine xs_ifb_eq dB_sameForm_14 (fun _ => ?_) (fun q => Bool.noConfusion q)
      refine xs_iconst (v := 1) dB_sameForm_21 (by decide) ?_
      refine xs_cV_i (As := [_]) dB_sameForm_22 lkB_176 (by repeat (first | exact va_up_self _ _ _ | assumption | refine (va_up_ne _ _ (by omega)).trans ?_)) (k_B_refused (w:=1) (by decide) hc) rfl rfl (Nat.le_of_ble_eq_true rfl) ⟨by decide, by decide⟩ ⟨by omega, by omega⟩ ?_
      rw [bI_t (by decide)]
      refine xs_if_ne dB_sameForm_25 (fun _ => ?_) (fun q => absurd q (by decide))
      refine xs_iconst (v := 0) dB_sameForm_44 (by decide) ?_
      exact xs_iret dB_sameForm_45 rfl rfl (by omega) (by omega) (bNo hR (by decide) (mdx_rf h) rf_fr)
    | some d =>
      have hR : rSame S x.toInt y.toInt = (0, bN (zSame S.2.1 c d), S) := by simp only [rSame, hx, hy]
      obtain ⟨i, hxi, _, _, hci⟩ := fAt_int hx
      obtain ⟨j, hyj, _, _, hdj⟩ := fAt_int hy
      obtain ⟨R, hRR⟩ : ∃ R, R = rSame S x.toInt y.toInt := ⟨_, rfl⟩
      rw [← hRR] at hR ⊢
      clear hRR hx hy
      subst hxi
      subst hyj
      refine xs_ifb_eq dB_sameForm_14 (fun q => Bool.noConfusion q) (fun _ => ?_)
      refine xs_iconst (v := 0) dB_sameForm_17 (by decide) ?_
      refine xs_goto dB_sameForm_18 ?_
      refine xs_cV_i (As := [_]) dB_sameForm_22 lkB_176 (by repeat (first | exact va_up_self _ _ _ | assumption | refine (va_up_ne _ _ (by omega)).trans ?_)) (k_B_refused (w:=0) (by decide) hc) rfl rfl (Nat.le_of_ble_eq_true rfl) ⟨by decide, by decide⟩ ⟨by omega, by omega⟩ ?_
      rw [bI_f (by decide)]
      refine xs_if_ne dB_sameForm_25 (fun q => absurd rfl q) (fun _ => ?_)
      obtain ⟨H1, hH1⟩ : ∃ H1, H1 = va_up G b (mCl b (nI 0) (nI S.1.length) sp gd (nI S.2.2.1.length) zs ft) := ⟨_, rfl⟩
      have h1 : mdo H1 b (nI 0) S := hH1 ▸ mdx_rf h
      have f1 : xfr b (b + 17) G H1 := hH1 ▸ rf_fr
      have c1 : H1 b = mCl b (nI 0) (nI S.1.length) sp gd (nI S.2.2.1.length) zs ft := by rw [hH1, va_up_self]
      have e1 : ∀ k, k ≠ b → H1 k = G k := fun k hk => by rw [hH1, va_up_ne _ _ hk]
      refine xs_at (H := H1) hH1.symm ?_
      clear hH1
      have r1 : H1 (b + 3) = oI 70 f := by rw [e1 _ (by omega)]; exact hr
      refine xs_aload_n dB_sameForm_28 rfl ?_
      refine xs_get dB_sameForm_29 flB_16 (by repeat (first | exact va_up_self _ _ _ | assumption | refine (va_up_ne _ _ (by omega)).trans ?_)) rfl ?_
      refine xs_iload_n dB_sameForm_32 rfl ?_
      refine xs_iload_n dB_sameForm_33 rfl ?_
      refine xs_cS_i (As := [_, _, _]) dB_sameForm_34 lkB_266 (k_B_areOneForm r1 hV hf hci hdj) rfl rfl (Nat.le_of_ble_eq_true rfl) ⟨by decide, by decide⟩ ⟨by omega, by omega⟩ ?_
      refine xs_ifb_eq dB_sameForm_37 (fun hb => ?_) (fun hb => ?_)
      · refine xs_iconst (v := 0) dB_sameForm_44 (by decide) ?_
        exact xs_iret dB_sameForm_45 rfl rfl (by omega) (by omega) (bOk hR (by rw [hb]; rfl) h1 f1)
      · refine xs_iconst (v := 1) dB_sameForm_40 (by decide) ?_
        refine xs_goto dB_sameForm_41 ?_
        exact xs_iret dB_sameForm_45 rfl rfl (by omega) (by omega) (bOk hR (by rw [hb]; rfl) h1 f1)
theorem k_B_product {i j : Nat} {d e : P3} {D : List P3} {wy : Nat → Int64} (hc : G b = mCl b rf sz sp gd ac zs ft) (h9 : G (b + 9) = oL 48 wy) (hw : wyP wy D) (hok : dOk D) (hd : D[i]? = some d) (he : D[j]? = some e) :
    xK mB_product [.ref b, .int (nI i), .int (nI j)] n G 0 0 (qL n G (iL (dt d e))) xNo := by
  obtain ⟨⟨v0, v1, v2⟩, w0, w1, w2⟩ := wy_get hw hd hok.1
  obtain ⟨⟨v3, v4, v5⟩, w3, w4, w5⟩ := wy_get hw he hok.1
  refine xK_of2 (L0 := [(0, _), (1, _), (2, _)]) (by decide +kernel) rfl (Nat.le_of_ble_eq_true rfl) rfl ?_
  refine xs_aload_n dB_product_0 rfl ?_
  refine xs_get dB_product_1 flB_36 (by repeat (first | exact va_up_self _ _ _ | assumption | refine (va_up_ne _ _ (by omega)).trans ?_)) rfl ?_
  refine xs_iconst (v := 3) dB_product_4 (by decide) ?_
  refine xs_iload_n dB_product_5 rfl ?_
  refine xs_imul dB_product_6 ?_
  refine xs_lald dB_product_7 (by repeat (first | exact va_up_self _ _ _ | assumption | refine (va_up_ne _ _ (by omega)).trans ?_)) (by assumption) ?_
  refine xs_aload_n dB_product_8 rfl ?_
  refine xs_get dB_product_9 flB_36 (by repeat (first | exact va_up_self _ _ _ | assumption | refine (va_up_ne _ _ (by omega)).trans ?_)) rfl ?_
  refine xs_iconst (v := 3) dB_product_12 (by decide) ?_
  refine xs_iload_n dB_product_13 rfl ?_
  refine xs_imul dB_product_14 ?_
  refine xs_lald dB_product_15 (by repeat (first | exact va_up_self _ _ _ | assumption | refine (va_up_ne _ _ (by omega)).trans ?_)) (by assumption) ?_
  refine xs_lmul dB_product_16 ?_
  refine xs_aload_n dB_product_17 rfl ?_
  refine xs_get dB_product_18 flB_36 (by repeat (first | exact va_up_self _ _ _ | assumption | refine (va_up_ne _ _ (by omega)).trans ?_)) rfl ?_
  refine xs_iconst (v := 3) dB_product_21 (by decide) ?_
  refine xs_iload_n dB_product_22 rfl ?_
  refine xs_imul dB_product_23 ?_
  refine xs_iconst (v := 1) dB_product_24 (by decide) ?_
  refine xs_iadd dB_product_25 ?_
  refine xs_lald dB_product_26 (by repeat (first | exact va_up_self _ _ _ | assumption | refine (va_up_ne _ _ (by omega)).trans ?_)) (by assumption) ?_
  refine xs_aload_n dB_product_27 rfl ?_
  refine xs_get dB_product_28 flB_36 (by repeat (first | exact va_up_self _ _ _ | assumption | refine (va_up_ne _ _ (by omega)).trans ?_)) rfl ?_
  refine xs_iconst (v := 3) dB_product_31 (by decide) ?_
  refine xs_iload_n dB_product_32 rfl ?_
  refine xs_imul dB_product_33 ?_
  refine xs_iconst (v := 1) dB_product_34 (by decide) ?_
  refine xs_iadd dB_product_35 ?_
  refine xs_lald dB_product_36 (by repeat (first | exact va_up_self _ _ _ | assumption | refine (va_up_ne _ _ (by omega)).trans ?_)) (by assumption) ?_
  refine xs_lmul dB_product_37 ?_
  refine xs_ladd dB_product_38 ?_
  refine xs_aload_n dB_product_39 rfl ?_
  refine xs_get dB_product_40 flB_36 (by repeat (first | exact va_up_self _ _ _ | assumption | refine (va_up_ne _ _ (by omega)).trans ?_)) rfl ?_
  refine xs_iconst (v := 3) dB_product_43 (by decide) ?_
  refine xs_iload_n dB_product_44 rfl ?_
  refine xs_imul dB_product_45 ?_
  refine xs_iconst (v := 2) dB_product_46 (by decide) ?_
  refine xs_iadd dB_product_47 ?_
  refine xs_lald dB_product_48 (by repeat (first | exact va_up_self _ _ _ | assumption | refine (va_up_ne _ _ (by omega)).trans ?_)) (by assumption) ?_
  refine xs_aload_n dB_product_49 rfl ?_
  refine xs_get dB_product_50 flB_36 (by repeat (first | exact va_up_self _ _ _ | assumption | refine (va_up_ne _ _ (by omega)).trans ?_)) rfl ?_
  refine xs_iconst (v := 3) dB_product_53 (by decide) ?_
  refine xs_iload_n dB_product_54 rfl ?_
  refine xs_imul dB_product_55 ?_
  refine xs_iconst (v := 2) dB_product_56 (by decide) ?_
  refine xs_iadd dB_product_57 ?_
  refine xs_lald dB_product_58 (by repeat (first | exact va_up_self _ _ _ | assumption | refine (va_up_ne _ _ (by omega)).trans ?_)) (by assumption) ?_
  refine xs_lmul dB_product_59 ?_
  refine xs_ladd dB_product_60 ?_
  rw [w0, w1, w2, w3, w4, w5, dotL]
  exact xs_lret dB_product_61 rfl (by omega) (by omega) ⟨rfl, rfl, rfl⟩
theorem k_B_angle {x y : Int32} (h : mdo G b rf S) : xK mB_angle [.ref b, .int x, .int y] n G 0 0 (bPost n b G (rAngle S x.toInt y.toInt)) xNo := by
  obtain ⟨⟨sp, gd, zs, ft, hc⟩, k1, k2, ⟨f, hr, hf, hV⟩, k4, k5, k6, k7, k8⟩ := id h
  refine xK_of2 (L0 := [(0, _), (1, _), (2, _)]) (by decide +kernel) rfl (Nat.le_of_ble_eq_true rfl) rfl ?_
  refine xs_aload_n dB_angle_0 rfl ?_
  refine xs_aload_n dB_angle_1 rfl ?_
  refine xs_iload_n dB_angle_2 rfl ?_
  refine xs_cV_i (As := [_]) dB_angle_3 lkB_232 (by repeat (first | exact va_up_self _ _ _ | assumption | refine (va_up_ne _ _ (by omega)).trans ?_)) (k_B_isFace h) rfl rfl (Nat.le_of_ble_eq_true rfl) ⟨by decide, by decide⟩ ⟨by omega, by omega⟩ ?_
  cases hx : fAt S.2.1.1 x.toInt with
  | none =>
    have hR : rAngle S x.toInt y.toInt = (1, 0, S) := by simp only [rAngle, hx]
    refine xs_ifb_eq dB_angle_6 (fun _ => ?_) (fun q => Bool.noConfusion q)
    refine xs_iconst (v := 1) dB_angle_21 (by decide) ?_
    refine xs_cV_i (As := [_]) dB_angle_22 lkB_176 (by repeat (first | exact va_up_self _ _ _ | assumption | refine (va_up_ne _ _ (by omega)).trans ?_)) (k_B_refused (w:=1) (by decide) hc) rfl rfl (Nat.le_of_ble_eq_true rfl) ⟨by decide, by decide⟩ ⟨by omega, by omega⟩ ?_
    rw [bI_t (by decide)]
    refine xs_if_eq dB_angle_25 (fun q => absurd q (by decide)) (fun _ => ?_)
    refine xs_iconst (v := 0) dB_angle_28 (by decide) ?_
    exact xs_iret dB_angle_29 rfl rfl (by omega) (by omega) (bNo hR (by decide) (mdx_rf h) rf_fr)
  | some c =>
    refine xs_ifb_eq dB_angle_6 (fun q => Bool.noConfusion q) (fun _ => ?_)
    refine xs_aload_n dB_angle_9 rfl ?_
    refine xs_iload_n dB_angle_10 rfl ?_
    refine xs_cV_i (As := [_]) dB_angle_11 lkB_232 (by repeat (first | exact va_up_self _ _ _ | assumption | refine (va_up_ne _ _ (by omega)).trans ?_)) (k_B_isFace h) rfl rfl (Nat.le_of_ble_eq_true rfl) ⟨by decide, by decide⟩ ⟨by omega, by omega⟩ ?_
    cases hy : fAt S.2.1.1 y.toInt with
    | none =>
      have hR : rAngle S x.toInt y.toInt = (1, 0, S) := by simp only [rAngle, hx, hy]
      refine xs_ifb_eq dB_angle_14 (fun _ => ?_) (fun q => Bool.noConfusion q)
      refine xs_iconst (v := 1) dB_angle_21 (by decide) ?_
      refine xs_cV_i (As := [_]) dB_angle_22 lkB_176 (by repeat (first | exact va_up_self _ _ _ | assumption | refine (va_up_ne _ _ (by omega)).trans ?_)) (k_B_refused (w:=1) (by decide) hc) rfl rfl (Nat.le_of_ble_eq_true rfl) ⟨by decide, by decide⟩ ⟨by omega, by omega⟩ ?_
      rw [bI_t (by decide)]
      refine xs_if_eq dB_angle_25 (fun q => absurd q (by decide)) (fun _ => ?_)
      refine xs_iconst (v := 0) dB_angle_28 (by decide) ?_
      exact xs_iret dB_angle_29 rfl rfl (by omega) (by omega) (bNo hR (by decide) (mdx_rf h) rf_fr)
    | some d =>
      have hR : rAngle S x.toInt y.toInt = (0, anv (zDir S.2.1.2.2.2 c) (zDir S.2.1.2.2.2 d), S) := by simp only [rAngle, hx, hy]
      obtain ⟨i, hxi, _, _, hci⟩ := fAt_int hx
      obtain ⟨j, hyj, _, _, hdj⟩ := fAt_int hy
      obtain ⟨R, hRR⟩ : ∃ R, R = rAngle S x.toInt y.toInt := ⟨_, rfl⟩
      rw [← hRR] at hR ⊢
      clear hRR hx hy
      subst hxi
      subst hyj
      refine xs_ifb_eq dB_angle_14 (fun q => Bool.noConfusion q) (fun _ => ?_)
      refine xs_iconst (v := 0) dB_angle_17 (by decide) ?_
      refine xs_goto dB_angle_18 ?_
      refine xs_cV_i (As := [_]) dB_angle_22 lkB_176 (by repeat (first | exact va_up_self _ _ _ | assumption | refine (va_up_ne _ _ (by omega)).trans ?_)) (k_B_refused (w:=0) (by decide) hc) rfl rfl (Nat.le_of_ble_eq_true rfl) ⟨by decide, by decide⟩ ⟨by omega, by omega⟩ ?_
      rw [bI_f (by decide)]
      refine xs_if_eq dB_angle_25 (fun _ => ?_) (fun q => absurd rfl q)
      obtain ⟨H1, hH1⟩ : ∃ H1, H1 = va_up G b (mCl b (nI 0) (nI S.1.length) sp gd (nI S.2.2.1.length) zs ft) := ⟨_, rfl⟩
      have h1 : mdo H1 b (nI 0) S := hH1 ▸ mdx_rf h
      have f1 : xfr b (b + 17) G H1 := hH1 ▸ rf_fr
      have c1 : H1 b = mCl b (nI 0) (nI S.1.length) sp gd (nI S.2.2.1.length) zs ft := by rw [hH1, va_up_self]
      have e1 : ∀ k, k ≠ b → H1 k = G k := fun k hk => by rw [hH1, va_up_ne _ _ hk]
      refine xs_at (H := H1) hH1.symm ?_
      clear hH1
      obtain ⟨⟨th0, h8⟩, ⟨wy0, h9⟩, _⟩ := id k7
      have r1 : H1 (b + 3) = oI 70 f := by rw [e1 _ (by omega)]; exact hr
      have h81 : H1 (b + 8) = oL 3 th0 := by rw [e1 _ (by omega)]; exact h8
      have h91 : H1 (b + 9) = oL 48 wy0 := by rw [e1 _ (by omega)]; exact h9
      refine xs_aload_n dB_angle_30 rfl ?_
      refine xs_aload_n dB_angle_31 rfl ?_
      refine xs_get dB_angle_32 flB_16 (by repeat (first | exact va_up_self _ _ _ | assumption | refine (va_up_ne _ _ (by omega)).trans ?_)) rfl ?_
      refine xs_cV_vx (As := [_]) dB_angle_35 lkB_118 (by repeat (first | exact va_up_self _ _ _ | assumption | refine (va_up_ne _ _ (by omega)).trans ?_)) (k_B_layWays c1 h81 h91 r1 (by omega) hV hf) rfl rfl (Nat.le_of_ble_eq_true rfl) ⟨by decide, by decide⟩ ⟨by omega, by omega⟩ ?_
      intro H2 ⟨q1, ⟨wy, q2, q3⟩, q4⟩
      have h2 : mdo H2 b (nI 0) S := mdx_w h1 q1 ⟨_, q2⟩ q4
      have f2 : xfr b (b + 17) G H2 := fun k hk => (q4 k (by omega)).trans (f1 k hk)
      have c2 : H2 b = mCl b (nI 0) (nI S.1.length) sp gd (nI S.2.2.1.length) zs ft := by rw [q4 _ (by omega)]; exact c1
      have hok := zDirs_ok hV
      have hdi := zDirs_get hci
      have hdj := zDirs_get hdj
      have hdk := hok.2 _ (List.mem_of_getElem? hdi)
      have hek := hok.2 _ (List.mem_of_getElem? hdj)
      generalize zDir S.2.1.2.2.2 c = u at *
      generalize zDir S.2.1.2.2.2 d = e at *
      have b1 := dt_bd hdk.1 hek.1
      have b2 := dt_bd hdk.1 hdk.1
      have b3 := dt_bd hek.1 hek.1
      have p2 := sq_pos hdk.2.1
      have p3 := sq_pos hek.2.1
      have b4 : (dt u u * dt e e).natAbs ≤ 1598700 * 1598700 := mulb (by omega) (by omega)
      have p4 : 0 < dt u u * dt e e := Int.mul_pos p2 p3
      have b5 : (10000 * dt u e).natAbs ≤ 10000 * 1598700 := mulb (by decide) (by omega)
      have b6 : (10000 * dt u e * dt u e).natAbs ≤ 10000 * 1598700 * 1598700 := mulb b5 (by omega)
      refine xs_aload_n dB_angle_38 rfl ?_
      refine xs_iload_n dB_angle_39 rfl ?_
      refine xs_iload_n dB_angle_40 rfl ?_
      refine xs_cV_l (As := [_, _]) dB_angle_41 lkB_260 (by repeat (first | exact va_up_self _ _ _ | assumption | refine (va_up_ne _ _ (by omega)).trans ?_)) (k_B_product c2 q2 q3 hok hdi hdj) rfl rfl (Nat.le_of_ble_eq_true rfl) ⟨by decide, by decide⟩ ⟨by omega, by omega⟩ ?_
      refine xs_lstore_n (L2 := [(3, _), (0, _), (1, _), (2, _)]) dB_angle_44 (by decide) rfl ?_
      refine xs_ldc2 dB_angle_45 kcB_264 ?_
      refine xs_lload_n dB_angle_48 rfl ?_
      refine xs_lmul dB_angle_49 ?_
      refine xs_lload_n dB_angle_50 rfl ?_
      refine xs_lmul dB_angle_51 ?_
      refine xs_aload_n dB_angle_52 rfl ?_
      refine xs_iload_n dB_angle_53 rfl ?_
      refine xs_iload_n dB_angle_54 rfl ?_
      refine xs_cV_l (As := [_, _]) dB_angle_55 lkB_260 (by repeat (first | exact va_up_self _ _ _ | assumption | refine (va_up_ne _ _ (by omega)).trans ?_)) (k_B_product c2 q2 q3 hok hdi hdi) rfl rfl (Nat.le_of_ble_eq_true rfl) ⟨by decide, by decide⟩ ⟨by omega, by omega⟩ ?_
      refine xs_aload_n dB_angle_58 rfl ?_
      refine xs_iload_n dB_angle_59 rfl ?_
      refine xs_iload_n dB_angle_60 rfl ?_
      refine xs_cV_l (As := [_, _]) dB_angle_61 lkB_260 (by repeat (first | exact va_up_self _ _ _ | assumption | refine (va_up_ne _ _ (by omega)).trans ?_)) (k_B_product c2 q2 q3 hok hdj hdj) rfl rfl (Nat.le_of_ble_eq_true rfl) ⟨by decide, by decide⟩ ⟨by omega, by omega⟩ ?_
      refine xs_lmul dB_angle_64 ?_
      rw [show (10000 : Int64) = iL 10000 from rfl, iL_mul, iL_mul, iL_mul]
      refine xs_ldiv dB_angle_65 (fun q => absurd ((iL_eq (y:=0) (by omega) (by decide)).mp q) (by omega)) ?_
      refine xs_l2i dB_angle_66 ?_
      refine xs_istore (L2 := [(5, _), (3, _), (0, _), (1, _), (2, _)]) dB_angle_67 (by decide) rfl ?_
      rw [iL_tdiv (by omega) (by omega), iL_i]
      have hlt := iL_le (x := 0) (y := dt u e) (by decide) (by omega)
      refine xs_lload_n dB_angle_69 rfl ?_
      refine xs_lconst (v := 0) dB_angle_70 (by decide) ?_
      refine xs_lc_ge dB_angle_71 dB_angle_72 (fun h => ?_) (fun h => ?_)
      · have h9 : ¬ dt u e < 0 := by
          have := hlt.mp h
          omega
        refine xs_iload dB_angle_81 rfl ?_
        exact xs_iret dB_angle_83 rfl rfl (by omega) (by omega) (bOk hR (by rw [anv, if_neg h9]) h2 f2)
      · have h9 : dt u e < 0 := by
          by_cases q : dt u e < 0
          · exact q
          · exact absurd (hlt.mpr (by omega)) h
        refine xs_iload dB_angle_75 rfl ?_
        refine xs_ineg dB_angle_77 ?_
        refine xs_goto dB_angle_78 ?_
        exact xs_iret dB_angle_83 rfl rfl (by omega) (by omega) (bOk hR (by rw [anv, if_pos h9, iI_neg]) h2 f2)
end N7
