def c3 (p : P3) (j : Nat) : Int := if j = 0 then p.1 else if j = 1 then p.2.1 else p.2.2
theorem t3P_iff {th : Nat → Int64} {p : P3} : t3P th p ↔ ∀ j, j < 3 → th j = iL (c3 p j) := by
  constructor
  · rintro ⟨h0, h1, h2⟩ j hj
    rcases (show j = 0 ∨ j = 1 ∨ j = 2 by omega) with rfl | rfl | rfl
    · exact h0
    · exact h1
    · exact h2
  · intro h
    exact ⟨h 0 (by decide), h 1 (by decide), h 2 (by decide)⟩
theorem c3_ng (p : P3) (j : Nat) : c3 (ng p) j = -c3 p j := by
  unfold c3 ng
  split
  · rfl
  · split <;> rfl
theorem c3_bd {p : P3} {B : Nat} (h : bd B p) (j : Nat) : (c3 p j).natAbs < B := by
  unfold c3
  split
  · exact h.1
  · split
    · exact h.2.1
    · exact h.2.2
def trn (d : P3) : Bool := decide (d.1 < 0 ∨ d.1 = 0 ∧ (d.2.1 < 0 ∨ d.2.1 = 0 ∧ d.2.2 < 0))
theorem nz_trn (p : P3) : nz p = if trn (dv p) = true then ng (dv p) else dv p := by
  by_cases hp : p = (0, 0, 0)
  · subst hp
    decide
  · have h1 := lp_dv hp
    have h2 := dv_ne hp
    unfold nz
    rw [← h1]
    generalize dv p = d at *
    obtain ⟨x, y, z⟩ := d
    have h3 : ¬ (x = 0 ∧ y = 0 ∧ z = 0) := fun e => h2 (by rw [e.1, e.2.1, e.2.2])
    have h4 : trn (x, y, z) = !lp (x, y, z) := by
      unfold trn lp
      simp only [← decide_not]
      congr 1
      apply propext
      split
      · omega
      · split
        · omega
        · omega
    rw [h4]
    cases lp (x, y, z) <;> rfl
theorem in3 {j : Nat} (h : j < 3) : vp_in (nI j) 3 := vp_in_nI h (by omega)
theorem fin70 {j : Nat} (h : j < 70) : vp_in (nI j) 70 := vp_in_nI h (by omega)
theorem mul3 (i : Nat) : (3 : Int32) * nI i = nI (3 * i) := (Int32.ofNat_mul 3 i).symm
theorem add1 (k : Nat) : nI k + 1 = nI (k + 1) := nI_add2 k 1
theorem add2 (k : Nat) : nI k + 2 = nI (k + 2) := nI_add2 k 2
section M1
variable {n b : Nat} {G : xG} {rf sz sp ac zs ft : Int32} {gd : Bool} {th : Nat → Int64}
theorem k_B_clean {r : Nat} {f0 : Nat → Int32} (hr : G r = oI 70 f0) : xK mB_clean [.ref r] n G 0 0 (qVx n (fun H => ∃ f, H = va_up G r (oI 70 f) ∧ mrow f zNew)) xNo := by
  have e2 : (2 : Int32).toNatClampNeg = 2 := by decide
  have v2 : vp_in (2 : Int32) 70 := vp_in_nI (n := 2) (N := 70) (by decide) (by decide)
  have loop2 : ∀ (k i : Nat) (f : Nat → Int32), i + k = 3 → f 0 = 0 → f 1 = 0 → f 2 = 2 → (∀ j, j < i → f (3 + j) = 1) →
      xS mB_clean n 0 0 (qVx n (fun H => ∃ f, H = va_up G r (oI 70 f) ∧ mrow f zNew)) xNo 24 [(0, .ref r), (1, .int (nI i))] [] n (va_up G r (oI 70 f)) 0 0 := by
    intro k
    induction k with
    | zero =>
      intro i f hi f0 f1 f2 h3
      have hi : i = 3 := by omega
      subst hi
      refine xs_iload_n dB_clean_24 rfl ?_
      refine xs_iconst (v := 3) dB_clean_25 (by decide) ?_
      refine xs_icmp_ge dB_clean_26 (fun _ => ?_) (fun q => absurd (by decide) q)
      exact xs_vret dB_clean_41 rfl (by omega) (by omega) ⟨rfl, rfl, f, rfl, ⟨f0, f1, f2, h3 0 (by decide), h3 1 (by decide), h3 2 (by decide)⟩, fun i c hi => by cases hi⟩
    | succ k ih =>
      intro i f hi f0 f1 f2 h3
      refine xs_iload_n dB_clean_24 rfl ?_
      refine xs_iconst (v := 3) dB_clean_25 (by decide) ?_
      refine xs_icmp_ge dB_clean_26 (fun q => absurd ((nI_leI (a := 3) (by omega) (by omega)).mp q) (by omega)) (fun _ => ?_)
      have e3 : (3 : Int32) + nI i = nI (3 + i) := nI_add2 3 i
      have vi : vp_in ((3 : Int32) + nI i) 70 := by rw [e3]; exact fin70 (by omega)
      refine xs_aload_n dB_clean_29 rfl ?_
      refine xs_iconst (v := 3) dB_clean_30 (by decide) ?_
      refine xs_iload_n dB_clean_31 rfl ?_
      refine xs_iadd dB_clean_32 ?_
      refine xs_iconst (v := 1) dB_clean_33 (by decide) ?_
      refine xs_iast dB_clean_34 (by repeat (first | exact va_up_self _ _ _ | assumption | refine (va_up_ne _ _ (by omega)).trans ?_)) (by assumption) ?_
      refine xs_iinc (L2 := [(1, _), (0, _)]) dB_clean_35 rfl rfl (by decide) rfl ?_
      refine xs_goto dB_clean_38 ?_
      refine xs_pick (L2 := [(0, _), (1, _)]) [1, 0] rfl ?_
      rw [xii, bx_uu, e3, nI_clamp (by omega)]
      refine ih (i + 1) _ (by omega) ?_ ?_ ?_ (fun j hj => ?_)
      · simp only [upd]
        rw [if_neg (by omega)]
        exact f0
      · simp only [upd]
        rw [if_neg (by omega)]
        exact f1
      · simp only [upd]
        rw [if_neg (by omega)]
        exact f2
      · simp only [upd]
        by_cases hji : j = i
        · subst hji
          rw [if_pos rfl]
        · rw [if_neg (by omega)]
          exact h3 j (by omega)
  have loop1 : ∀ (k i : Nat) (f : Nat → Int32), i + k = 70 → (∀ j, j < i → f j = 0) →
      xS mB_clean n 0 0 (qVx n (fun H => ∃ f, H = va_up G r (oI 70 f) ∧ mrow f zNew)) xNo 2 [(0, .ref r), (1, .int (nI i))] [] n (va_up G r (oI 70 f)) 0 0 := by
    intro k
    induction k with
    | zero =>
      intro i f hi h0
      have hi : i = 70 := by omega
      subst hi
      refine xs_iload_n dB_clean_2 rfl ?_
      refine xs_bipush (v := 70) dB_clean_3 (by decide) ?_
      refine xs_icmp_ge dB_clean_5 (fun _ => ?_) (fun q => absurd (by decide) q)
      refine xs_aload_n dB_clean_18 rfl ?_
      refine xs_iconst (v := 2) dB_clean_19 (by decide) ?_
      refine xs_iconst (v := 2) dB_clean_20 (by decide) ?_
      refine xs_iast dB_clean_21 (by repeat (first | exact va_up_self _ _ _ | assumption | refine (va_up_ne _ _ (by omega)).trans ?_)) (by assumption) ?_
      refine xs_iconst (v := 0) dB_clean_22 (by decide) ?_
      refine xs_istore_n (L2 := [(1, _), (0, _)]) dB_clean_23 (by decide) rfl ?_
      refine xs_pick (L2 := [(0, _), (1, _)]) [1, 0] rfl ?_
      rw [bx_uu, e2]
      refine loop2 3 0 _ (by omega) ?_ ?_ ?_ (fun j hj => absurd hj (by omega))
      · simp only [upd]
        rw [if_neg (by omega)]
        exact h0 0 (by decide)
      · simp only [upd]
        rw [if_neg (by omega)]
        exact h0 1 (by decide)
      · simp [upd]
    | succ k ih =>
      intro i f hi h0
      refine xs_iload_n dB_clean_2 rfl ?_
      refine xs_bipush (v := 70) dB_clean_3 (by decide) ?_
      refine xs_icmp_ge dB_clean_5 (fun q => absurd ((nI_leI (a := 70) (by omega) (by omega)).mp q) (by omega)) (fun _ => ?_)
      have vi := fin70 (j := i) (by omega)
      refine xs_aload_n dB_clean_8 rfl ?_
      refine xs_iload_n dB_clean_9 rfl ?_
      refine xs_iconst (v := 0) dB_clean_10 (by decide) ?_
      refine xs_iast dB_clean_11 (by repeat (first | exact va_up_self _ _ _ | assumption | refine (va_up_ne _ _ (by omega)).trans ?_)) (by assumption) ?_
      refine xs_iinc (L2 := [(1, _), (0, _)]) dB_clean_12 rfl rfl (by decide) rfl ?_
      refine xs_goto dB_clean_15 ?_
      refine xs_pick (L2 := [(0, _), (1, _)]) [1, 0] rfl ?_
      rw [xii, bx_uu, nI_clamp (by omega)]
      refine ih (i + 1) _ (by omega) (fun j hj => ?_)
      simp only [upd]
      split
      · rfl
      · exact h0 j (by omega)
  refine xK_of2 (L0 := [(0, _)]) (by decide +kernel) rfl (Nat.le_of_ble_eq_true rfl) rfl ?_
  refine xs_iconst (v := 0) dB_clean_0 (by decide) ?_
  refine xs_istore_n (L2 := [(1, _), (0, _)]) dB_clean_1 (by decide) rfl ?_
  refine xs_pick (L2 := [(0, _), (1, _)]) [1, 0] rfl ?_
  have hgo := loop1 70 0 f0 (by omega) (fun j hj => absurd hj (by omega))
  rw [va_up_same hr] at hgo
  exact hgo
theorem k_B_divide {x y z : Int} (hb : bd 281474976710656 (x, y, z)) (hc : G b = mCl b rf sz sp gd ac zs ft) (h8 : G (b + 8) = oL 3 th) : xK mB_divide [.ref b, .long (iL x), .long (iL y), .long (iL z)] n G 0 0 (qVx n (fun H => ∃ th, H = va_up G (b + 8) (oL 3 th) ∧ t3P th (dv (x, y, z)))) xNo := by
  obtain ⟨b1, b2, b3⟩ := id hb
  simp only at b1 b2 b3
  have v0 : vp_in (0 : Int32) 3 := in3 (j := 0) (by decide)
  have v1 : vp_in (1 : Int32) 3 := in3 (j := 1) (by decide)
  have v2 : vp_in (2 : Int32) 3 := in3 (j := 2) (by decide)
  have e0 : (0 : Int32).toNatClampNeg = 0 := by decide
  have e1 : (1 : Int32).toNatClampNeg = 1 := by decide
  have e2 : (2 : Int32).toNatClampNeg = 2 := by decide
  have fin : ∀ (D : Nat) (u : Int64), D ≠ 0 → D < 281474976710656 → (D : Int) ∣ x → (D : Int) ∣ y → (D : Int) ∣ z → dv (x, y, z) = (x / (D : Int), y / (D : Int), z / (D : Int)) →
      xS mB_divide n 0 0 (qVx n (fun H => ∃ th, H = va_up G (b + 8) (oL 3 th) ∧ t3P th (dv (x, y, z)))) xNo 25 [(7, .long u), (0, .ref b), (1, .long (iL x)), (3, .long (iL y)), (5, .long (iL z))] [.long (lN D)] n G 0 0 := by
    intro D u hD hD2 d1 d2 d3 he
    have hn := lN_ne hD2 hD
    refine xs_lstore (L2 := [(7, _), (0, _), (1, _), (3, _), (5, _)]) dB_divide_25 (by decide) rfl ?_
    refine xs_aload_n dB_divide_27 rfl ?_
    refine xs_get dB_divide_28 flB_32 (by repeat (first | exact va_up_self _ _ _ | assumption | refine (va_up_ne _ _ (by omega)).trans ?_)) rfl ?_
    refine xs_iconst (v := 0) dB_divide_31 (by decide) ?_
    refine xs_lload_n dB_divide_32 rfl ?_
    refine xs_lload dB_divide_33 rfl ?_
    refine xs_ldiv dB_divide_35 hn ?_
    refine xs_last dB_divide_36 (by repeat (first | exact va_up_self _ _ _ | assumption | refine (va_up_ne _ _ (by omega)).trans ?_)) (by assumption) ?_
    refine xs_aload_n dB_divide_37 rfl ?_
    refine xs_get dB_divide_38 flB_32 (by repeat (first | exact va_up_self _ _ _ | assumption | refine (va_up_ne _ _ (by omega)).trans ?_)) rfl ?_
    refine xs_iconst (v := 1) dB_divide_41 (by decide) ?_
    refine xs_lload_n dB_divide_42 rfl ?_
    refine xs_lload dB_divide_43 rfl ?_
    refine xs_ldiv dB_divide_45 hn ?_
    refine xs_last dB_divide_46 (by repeat (first | exact va_up_self _ _ _ | assumption | refine (va_up_ne _ _ (by omega)).trans ?_)) (by assumption) ?_
    refine xs_aload_n dB_divide_47 rfl ?_
    refine xs_get dB_divide_48 flB_32 (by repeat (first | exact va_up_self _ _ _ | assumption | refine (va_up_ne _ _ (by omega)).trans ?_)) rfl ?_
    refine xs_iconst (v := 2) dB_divide_51 (by decide) ?_
    refine xs_lload dB_divide_52 rfl ?_
    refine xs_lload dB_divide_54 rfl ?_
    refine xs_ldiv dB_divide_56 hn ?_
    refine xs_last dB_divide_57 (by repeat (first | exact va_up_self _ _ _ | assumption | refine (va_up_ne _ _ (by omega)).trans ?_)) (by assumption) ?_
    rw [bx_uu, bx_uu, iL_dvd b1 hD2 d1, iL_dvd b2 hD2 d2, iL_dvd b3 hD2 d3, e0, e1, e2]
    exact xs_vret dB_divide_58 rfl (by omega) (by omega) ⟨rfl, rfl, _, rfl, by rw [he]; simp [t3P, vp_updL]⟩
  have hg := g3_lt hb
  have g1 := gcd_lt (a := x.natAbs) (b := y.natAbs) b1 b2
  refine xK_of2 (L0 := [(0, _), (1, _), (3, _), (5, _)]) (by decide +kernel) rfl (Nat.le_of_ble_eq_true rfl) rfl ?_
  refine xs_lload_n dB_divide_0 rfl ?_
  refine xs_lload_n dB_divide_1 rfl ?_
  refine xs_cS_l (As := [_, _]) dB_divide_2 lkB_81 (k_B_divisor (x:=x) (y:=y) (by omega) (by omega)) rfl rfl (Nat.le_of_ble_eq_true rfl) ⟨by decide, by decide⟩ ⟨by omega, by omega⟩ ?_
  rw [iL_nat]
  refine xs_lload dB_divide_5 rfl ?_
  refine xs_cS_l (As := [_, _]) dB_divide_7 lkB_81 (k_B_divisor (x:=((Nat.gcd x.natAbs y.natAbs : Nat) : Int)) (y:=z) (by omega) (by omega)) rfl rfl (Nat.le_of_ble_eq_true rfl) ⟨by decide, by decide⟩ ⟨by omega, by omega⟩ ?_
  refine xs_lstore (L2 := [(7, _), (0, _), (1, _), (3, _), (5, _)]) dB_divide_10 (by decide) rfl ?_
  refine xs_lload dB_divide_12 rfl ?_
  refine xs_lconst (v := 0) dB_divide_14 (by decide) ?_
  rw [Int.natAbs_natCast, show Nat.gcd (Nat.gcd x.natAbs y.natAbs) z.natAbs = g3 (x, y, z) from rfl]
  refine xs_lc_ne dB_divide_15 dB_divide_16 (fun h => ?_) (fun h => ?_)
  · have h0 : g3 (x, y, z) ≠ 0 := fun e => h (by rw [e]; rfl)
    refine xs_lload dB_divide_23 rfl ?_
    exact fin _ _ h0 hg (g3_d1 (x, y, z)) (g3_d2 (x, y, z)) (g3_d3 (x, y, z)) rfl
  · have h0 : g3 (x, y, z) = 0 := (pk_lEQ (a := g3 (x, y, z)) (b := 0) (by omega) (by omega)).mp h
    have hz := g3_0 h0
    simp only [Prod.mk.injEq] at hz
    refine xs_lconst (v := 1) dB_divide_19 (by decide) ?_
    refine xs_goto dB_divide_20 ?_
    refine fin 1 _ (by decide) (by decide) (Int.one_dvd _) (Int.one_dvd _) (Int.one_dvd _) ?_
    rw [hz.1, hz.2.1, hz.2.2]
    decide
theorem k_B_normalize {x y z : Int} (hb : bd 281474976710656 (x, y, z)) (hc : G b = mCl b rf sz sp gd ac zs ft) (h8 : G (b + 8) = oL 3 th) : xK mB_normalize [.ref b, .long (iL x), .long (iL y), .long (iL z)] n G 0 0 (qVx n (fun H => ∃ th, H = va_up G (b + 8) (oL 3 th) ∧ t3P th (nz (x, y, z)))) xNo := by
  obtain ⟨d, hd⟩ : ∃ d, d = dv (x, y, z) := ⟨_, rfl⟩
  have hdb : bd 281474976710656 d := by rw [hd]; exact bd_dv hb
  have hnz := nz_trn (x, y, z)
  rw [← hd] at hnz
  have v0 : vp_in (0 : Int32) 3 := in3 (j := 0) (by decide)
  have v1 : vp_in (1 : Int32) 3 := in3 (j := 1) (by decide)
  have v2 : vp_in (2 : Int32) 3 := in3 (j := 2) (by decide)
  have e0 : (0 : Int32).toNatClampNeg = 0 := by decide
  have e1 : (1 : Int32).toNatClampNeg = 1 := by decide
  have e2 : (2 : Int32).toNatClampNeg = 2 := by decide
  obtain ⟨l1, l2, l3⟩ := id hdb
  have q1 := iL_lt (x := d.1) (y := 0) (by omega) (by decide)
  have q2 := iL_eq (x := d.1) (y := 0) (by omega) (by decide)
  have q3 := iL_lt (x := d.2.1) (y := 0) (by omega) (by decide)
  have q4 := iL_eq (x := d.2.1) (y := 0) (by omega) (by decide)
  have q5 := iL_le (x := 0) (y := d.2.2) (by decide) (by omega)
  have loop : ∀ (k i : Nat) (t2 : Nat → Int64), i + k = 3 → (∀ j, j < i → t2 j = iL (c3 (nz (x, y, z)) j)) → (∀ j, i ≤ j → j < 3 → t2 j = iL (c3 d j)) →
      xS mB_normalize n 0 0 (qVx n (fun H => ∃ th, H = va_up G (b + 8) (oL 3 th) ∧ t3P th (nz (x, y, z)))) xNo 73 [(0, .ref b), (7, .int (bI (trn d))), (8, .int (nI i))] [] n (va_up G (b + 8) (oL 3 t2)) 0 0 := by
    intro k
    induction k with
    | zero =>
      intro i t2 hi h1 h2
      have hi : i = 3 := by omega
      subst hi
      refine xs_iload dB_normalize_73 rfl ?_
      refine xs_iconst (v := 3) dB_normalize_75 (by decide) ?_
      refine xs_icmp_ge dB_normalize_76 (fun _ => ?_) (fun q => absurd (by decide) q)
      exact xs_vret dB_normalize_115 rfl (by omega) (by omega) ⟨rfl, rfl, t2, rfl, t3P_iff.mpr h1⟩
    | succ k ih =>
      intro i t2 hi h1 h2
      have vi := in3 (j := i) (by omega)
      have next : ∀ u, u = iL (c3 (nz (x, y, z)) i) → xS mB_normalize n 0 0 (qVx n (fun H => ∃ th, H = va_up G (b + 8) (oL 3 th) ∧ t3P th (nz (x, y, z)))) xNo 108 [(0, .ref b), (7, .int (bI (trn d))), (8, .int (nI i))] [.long u, .int (nI i), .ref (b + 8)] n (va_up G (b + 8) (oL 3 t2)) 0 0 := by
        intro u hu
        subst hu
        refine xs_last dB_normalize_108 (by repeat (first | exact va_up_self _ _ _ | assumption | refine (va_up_ne _ _ (by omega)).trans ?_)) (by assumption) ?_
        refine xs_iinc (L2 := [(8, _), (0, _), (7, _)]) dB_normalize_109 rfl rfl (by decide) rfl ?_
        refine xs_goto dB_normalize_112 ?_
        refine xs_pick (L2 := [(0, _), (7, _), (8, _)]) [1, 2, 0] rfl ?_
        rw [xii, bx_uu, nI_clamp (by omega)]
        refine ih (i + 1) _ (by omega) (fun j hj => ?_) (fun j hj hj3 => ?_)
        · simp only [vp_updL]
          by_cases hji : j = i
          · subst hji
            rw [if_pos rfl]
          · rw [if_neg hji]
            exact h1 j (by omega)
        · simp only [vp_updL]
          rw [if_neg (by omega)]
          exact h2 j (by omega) hj3
      refine xs_iload dB_normalize_73 rfl ?_
      refine xs_iconst (v := 3) dB_normalize_75 (by decide) ?_
      refine xs_icmp_ge dB_normalize_76 (fun q => absurd ((nI_leI (a := 3) (by omega) (by omega)).mp q) (by omega)) (fun _ => ?_)
      refine xs_aload_n dB_normalize_79 rfl ?_
      refine xs_get dB_normalize_80 flB_32 (by repeat (first | exact va_up_self _ _ _ | assumption | refine (va_up_ne _ _ (by omega)).trans ?_)) rfl ?_
      refine xs_iload dB_normalize_83 rfl ?_
      refine xs_iload dB_normalize_85 rfl ?_
      refine xs_if_eq dB_normalize_87 (fun h => ?_) (fun h => ?_)
      · have h9 : ¬ trn d = true := by rw [(bI_0 _).mp h]; decide
        rw [if_neg h9] at hnz
        refine xs_aload_n dB_normalize_101 rfl ?_
        refine xs_get dB_normalize_102 flB_32 (by repeat (first | exact va_up_self _ _ _ | assumption | refine (va_up_ne _ _ (by omega)).trans ?_)) rfl ?_
        refine xs_iload dB_normalize_105 rfl ?_
        refine xs_lald dB_normalize_107 (by repeat (first | exact va_up_self _ _ _ | assumption | refine (va_up_ne _ _ (by omega)).trans ?_)) (by assumption) ?_
        rw [nI_clamp (by omega)]
        exact next _ (by rw [hnz]; exact h2 i (Nat.le_refl _) (by omega))
      · have h9 : trn d = true := (bI_1n _).mp h
        rw [if_pos h9] at hnz
        refine xs_aload_n dB_normalize_90 rfl ?_
        refine xs_get dB_normalize_91 flB_32 (by repeat (first | exact va_up_self _ _ _ | assumption | refine (va_up_ne _ _ (by omega)).trans ?_)) rfl ?_
        refine xs_iload dB_normalize_94 rfl ?_
        refine xs_lald dB_normalize_96 (by repeat (first | exact va_up_self _ _ _ | assumption | refine (va_up_ne _ _ (by omega)).trans ?_)) (by assumption) ?_
        refine xs_lneg dB_normalize_97 ?_
        refine xs_goto dB_normalize_98 ?_
        rw [nI_clamp (by omega)]
        exact next _ (by rw [hnz, h2 i (Nat.le_refl _) (by omega), c3_ng, iL_neg])
  refine xK_of2 (L0 := [(0, _), (1, _), (3, _), (5, _)]) (by decide +kernel) rfl (Nat.le_of_ble_eq_true rfl) rfl ?_
  refine xs_aload_n dB_normalize_0 rfl ?_
  refine xs_lload_n dB_normalize_1 rfl ?_
  refine xs_lload_n dB_normalize_2 rfl ?_
  refine xs_lload dB_normalize_3 rfl ?_
  refine xs_cV_vx (As := [_, _, _]) dB_normalize_5 lkB_85 (by repeat (first | exact va_up_self _ _ _ | assumption | refine (va_up_ne _ _ (by omega)).trans ?_)) (k_B_divide hb hc h8) rfl rfl (Nat.le_of_ble_eq_true rfl) ⟨by decide, by decide⟩ ⟨by omega, by omega⟩ ?_
  intro H ⟨t1, hH, ht⟩
  rw [← hd] at ht
  subst hH
  have ht2 := t3P_iff.mp ht
  obtain ⟨u0, u1, u2⟩ := ht
  have mid : ∀ tb : Bool, tb = trn d → xS mB_normalize n 0 0 (qVx n (fun H => ∃ th, H = va_up G (b + 8) (oL 3 th) ∧ t3P th (nz (x, y, z)))) xNo 68 [(0, .ref b), (1, .long (iL x)), (3, .long (iL y)), (5, .long (iL z))] [.int (bI tb)] n (va_up G (b + 8) (oL 3 t1)) 0 0 := by
    intro tb htb
    subst htb
    refine xs_istore (L2 := [(7, _), (0, _), (1, _), (3, _), (5, _)]) dB_normalize_68 (by decide) rfl ?_
    refine xs_iconst (v := 0) dB_normalize_70 (by decide) ?_
    refine xs_istore (L2 := [(8, _), (7, _), (0, _), (1, _), (3, _), (5, _)]) dB_normalize_71 (by decide) rfl ?_
    refine xs_pick (L2 := [(0, _), (7, _), (8, _)]) [2, 1, 0] rfl ?_
    exact loop 3 0 t1 (by omega) (fun j hj => absurd hj (by omega)) (fun j _ hj => ht2 j hj)
  have yes : trn d = true → xS mB_normalize n 0 0 (qVx n (fun H => ∃ th, H = va_up G (b + 8) (oL 3 th) ∧ t3P th (nz (x, y, z)))) xNo 63 [(0, .ref b), (1, .long (iL x)), (3, .long (iL y)), (5, .long (iL z))] [] n (va_up G (b + 8) (oL 3 t1)) 0 0 := by
    intro h
    refine xs_iconst (v := 1) dB_normalize_63 (by decide) ?_
    refine xs_goto dB_normalize_64 ?_
    exact mid true h.symm
  have no : trn d = false → xS mB_normalize n 0 0 (qVx n (fun H => ∃ th, H = va_up G (b + 8) (oL 3 th) ∧ t3P th (nz (x, y, z)))) xNo 67 [(0, .ref b), (1, .long (iL x)), (3, .long (iL y)), (5, .long (iL z))] [] n (va_up G (b + 8) (oL 3 t1)) 0 0 := by
    intro h
    refine xs_iconst (v := 0) dB_normalize_67 (by decide) ?_
    exact mid false h.symm
  refine xs_aload_n dB_normalize_8 rfl ?_
  refine xs_get dB_normalize_9 flB_32 (by repeat (first | exact va_up_self _ _ _ | assumption | refine (va_up_ne _ _ (by omega)).trans ?_)) rfl ?_
  refine xs_iconst (v := 0) dB_normalize_12 (by decide) ?_
  refine xs_lald dB_normalize_13 (by repeat (first | exact va_up_self _ _ _ | assumption | refine (va_up_ne _ _ (by omega)).trans ?_)) (by assumption) ?_
  refine xs_lconst (v := 0) dB_normalize_14 (by decide) ?_
  rw [e0, u0]
  refine xs_lc_lt dB_normalize_15 dB_normalize_16 (fun h => yes ?_) (fun h => ?_)
  · exact decide_eq_true (Or.inl (q1.mp h))
  have n1 : ¬ d.1 < 0 := fun e => h (q1.mpr e)
  refine xs_aload_n dB_normalize_19 rfl ?_
  refine xs_get dB_normalize_20 flB_32 (by repeat (first | exact va_up_self _ _ _ | assumption | refine (va_up_ne _ _ (by omega)).trans ?_)) rfl ?_
  refine xs_iconst (v := 0) dB_normalize_23 (by decide) ?_
  refine xs_lald dB_normalize_24 (by repeat (first | exact va_up_self _ _ _ | assumption | refine (va_up_ne _ _ (by omega)).trans ?_)) (by assumption) ?_
  refine xs_lconst (v := 0) dB_normalize_25 (by decide) ?_
  rw [e0, u0]
  refine xs_lc_ne dB_normalize_26 dB_normalize_27 (fun h => no ?_) (fun h => ?_)
  · have n2 : ¬ d.1 = 0 := fun e => h (q2.mpr e)
    exact decide_eq_false (by omega)
  have n2 : d.1 = 0 := q2.mp h
  refine xs_aload_n dB_normalize_30 rfl ?_
  refine xs_get dB_normalize_31 flB_32 (by repeat (first | exact va_up_self _ _ _ | assumption | refine (va_up_ne _ _ (by omega)).trans ?_)) rfl ?_
  refine xs_iconst (v := 1) dB_normalize_34 (by decide) ?_
  refine xs_lald dB_normalize_35 (by repeat (first | exact va_up_self _ _ _ | assumption | refine (va_up_ne _ _ (by omega)).trans ?_)) (by assumption) ?_
  refine xs_lconst (v := 0) dB_normalize_36 (by decide) ?_
  rw [e1, u1]
  refine xs_lc_lt dB_normalize_37 dB_normalize_38 (fun h => yes ?_) (fun h => ?_)
  · exact decide_eq_true (Or.inr ⟨n2, Or.inl (q3.mp h)⟩)
  have n3 : ¬ d.2.1 < 0 := fun e => h (q3.mpr e)
  refine xs_aload_n dB_normalize_41 rfl ?_
  refine xs_get dB_normalize_42 flB_32 (by repeat (first | exact va_up_self _ _ _ | assumption | refine (va_up_ne _ _ (by omega)).trans ?_)) rfl ?_
  refine xs_iconst (v := 1) dB_normalize_45 (by decide) ?_
  refine xs_lald dB_normalize_46 (by repeat (first | exact va_up_self _ _ _ | assumption | refine (va_up_ne _ _ (by omega)).trans ?_)) (by assumption) ?_
  refine xs_lconst (v := 0) dB_normalize_47 (by decide) ?_
  rw [e1, u1]
  refine xs_lc_ne dB_normalize_48 dB_normalize_49 (fun h => no ?_) (fun h => ?_)
  · have n4 : ¬ d.2.1 = 0 := fun e => h (q4.mpr e)
    exact decide_eq_false (by omega)
  have n4 : d.2.1 = 0 := q4.mp h
  refine xs_aload_n dB_normalize_52 rfl ?_
  refine xs_get dB_normalize_53 flB_32 (by repeat (first | exact va_up_self _ _ _ | assumption | refine (va_up_ne _ _ (by omega)).trans ?_)) rfl ?_
  refine xs_iconst (v := 2) dB_normalize_56 (by decide) ?_
  refine xs_lald dB_normalize_57 (by repeat (first | exact va_up_self _ _ _ | assumption | refine (va_up_ne _ _ (by omega)).trans ?_)) (by assumption) ?_
  refine xs_lconst (v := 0) dB_normalize_58 (by decide) ?_
  rw [e2, u2]
  refine xs_lc_ge dB_normalize_59 dB_normalize_60 (fun h => no ?_) (fun h => yes ?_)
  · have n5 := q5.mp h
    exact decide_eq_false (by omega)
  · have n5 : ¬ 0 ≤ d.2.2 := fun e => h (q5.mpr e)
    exact decide_eq_true (by omega)
theorem k_B_crossOf {p q : P3} (hb : bd 281474976710656 (cr p q)) (hc : G b = mCl b rf sz sp gd ac zs ft) (h8 : G (b + 8) = oL 3 th) : xK mB_crossOf [.ref b, .long (iL p.1), .long (iL p.2.1), .long (iL p.2.2), .long (iL q.1), .long (iL q.2.1), .long (iL q.2.2)] n G 0 0 (qVx n (fun H => ∃ th, H = va_up G (b + 8) (oL 3 th) ∧ t3P th (nz (cr p q)))) xNo := by
  refine xK_of2 (L0 := [(0, _), (1, _), (3, _), (5, _), (7, _), (9, _), (11, _)]) (by decide +kernel) rfl (Nat.le_of_ble_eq_true rfl) rfl ?_
  refine xs_aload_n dB_crossOf_0 rfl ?_
  refine xs_lload_n dB_crossOf_1 rfl ?_
  refine xs_lload dB_crossOf_2 rfl ?_
  refine xs_lmul dB_crossOf_4 ?_
  refine xs_lload dB_crossOf_5 rfl ?_
  refine xs_lload dB_crossOf_7 rfl ?_
  refine xs_lmul dB_crossOf_9 ?_
  refine xs_lsub dB_crossOf_10 ?_
  refine xs_lload dB_crossOf_11 rfl ?_
  refine xs_lload dB_crossOf_13 rfl ?_
  refine xs_lmul dB_crossOf_15 ?_
  refine xs_lload_n dB_crossOf_16 rfl ?_
  refine xs_lload dB_crossOf_17 rfl ?_
  refine xs_lmul dB_crossOf_19 ?_
  refine xs_lsub dB_crossOf_20 ?_
  refine xs_lload_n dB_crossOf_21 rfl ?_
  refine xs_lload dB_crossOf_22 rfl ?_
  refine xs_lmul dB_crossOf_24 ?_
  refine xs_lload_n dB_crossOf_25 rfl ?_
  refine xs_lload dB_crossOf_26 rfl ?_
  refine xs_lmul dB_crossOf_28 ?_
  refine xs_lsub dB_crossOf_29 ?_
  simp only [iL_mul, iL_sub]
  refine xs_cV_vx (As := [_, _, _]) dB_crossOf_30 lkB_89 (by repeat (first | exact va_up_self _ _ _ | assumption | refine (va_up_ne _ _ (by omega)).trans ?_)) (k_B_normalize hb hc h8) rfl rfl (Nat.le_of_ble_eq_true rfl) ⟨by decide, by decide⟩ ⟨by omega, by omega⟩ ?_
  intro H hH
  exact xs_vret dB_crossOf_33 rfl (by omega) (by omega) ⟨rfl, rfl, hH⟩
theorem k_B_isNothing {p : P3} (hb : bd 281474976710656 p) (hc : G b = mCl b rf sz sp gd ac zs ft) (h8 : G (b + 8) = oL 3 th) (ht : t3P th p) : xK mB_isNothing [.ref b] n G 0 0 (qI n G (bI (decide (p = (0, 0, 0))))) xNo := by
  obtain ⟨l1, l2, l3⟩ := id hb
  have v0 : vp_in (0 : Int32) 3 := in3 (j := 0) (by decide)
  have v1 : vp_in (1 : Int32) 3 := in3 (j := 1) (by decide)
  have v2 : vp_in (2 : Int32) 3 := in3 (j := 2) (by decide)
  have e0 : (0 : Int32).toNatClampNeg = 0 := by decide
  have e1 : (1 : Int32).toNatClampNeg = 1 := by decide
  have e2 : (2 : Int32).toNatClampNeg = 2 := by decide
  have q1 := iL_eq (x := p.1) (y := 0) (by omega) (by decide)
  have q2 := iL_eq (x := p.2.1) (y := 0) (by omega) (by decide)
  have q3 := iL_eq (x := p.2.2) (y := 0) (by omega) (by decide)
  obtain ⟨u0, u1, u2⟩ := ht
  have no : p ≠ (0, 0, 0) → xS mB_isNothing n 0 0 (qI n G (bI (decide (p = (0, 0, 0))))) xNo 37 [(0, .ref b)] [] n G 0 0 := by
    intro h
    refine xs_iconst (v := 0) dB_isNothing_37 (by decide) ?_
    exact xs_iret dB_isNothing_38 rfl rfl (by omega) (by omega) ⟨by rw [bI_f h], rfl, rfl⟩
  refine xK_of2 (L0 := [(0, _)]) (by decide +kernel) rfl (Nat.le_of_ble_eq_true rfl) rfl ?_
  refine xs_aload_n dB_isNothing_0 rfl ?_
  refine xs_get dB_isNothing_1 flB_32 (by repeat (first | exact va_up_self _ _ _ | assumption | refine (va_up_ne _ _ (by omega)).trans ?_)) rfl ?_
  refine xs_iconst (v := 0) dB_isNothing_4 (by decide) ?_
  refine xs_lald dB_isNothing_5 (by repeat (first | exact va_up_self _ _ _ | assumption | refine (va_up_ne _ _ (by omega)).trans ?_)) (by assumption) ?_
  refine xs_lconst (v := 0) dB_isNothing_6 (by decide) ?_
  rw [e0, u0]
  refine xs_lc_ne dB_isNothing_7 dB_isNothing_8 (fun h => no (fun e => h (q1.mpr (by rw [e])))) (fun h => ?_)
  have h1 := q1.mp h
  refine xs_aload_n dB_isNothing_11 rfl ?_
  refine xs_get dB_isNothing_12 flB_32 (by repeat (first | exact va_up_self _ _ _ | assumption | refine (va_up_ne _ _ (by omega)).trans ?_)) rfl ?_
  refine xs_iconst (v := 1) dB_isNothing_15 (by decide) ?_
  refine xs_lald dB_isNothing_16 (by repeat (first | exact va_up_self _ _ _ | assumption | refine (va_up_ne _ _ (by omega)).trans ?_)) (by assumption) ?_
  refine xs_lconst (v := 0) dB_isNothing_17 (by decide) ?_
  rw [e1, u1]
  refine xs_lc_ne dB_isNothing_18 dB_isNothing_19 (fun h => no (fun e => h (q2.mpr (by rw [e])))) (fun h => ?_)
  have h2 := q2.mp h
  refine xs_aload_n dB_isNothing_22 rfl ?_
  refine xs_get dB_isNothing_23 flB_32 (by repeat (first | exact va_up_self _ _ _ | assumption | refine (va_up_ne _ _ (by omega)).trans ?_)) rfl ?_
  refine xs_iconst (v := 2) dB_isNothing_26 (by decide) ?_
  refine xs_lald dB_isNothing_27 (by repeat (first | exact va_up_self _ _ _ | assumption | refine (va_up_ne _ _ (by omega)).trans ?_)) (by assumption) ?_
  refine xs_lconst (v := 0) dB_isNothing_28 (by decide) ?_
  rw [e2, u2]
  refine xs_lc_ne dB_isNothing_29 dB_isNothing_30 (fun h => no (fun e => h (q3.mpr (by rw [e])))) (fun h => ?_)
  have h3 := q3.mp h
  refine xs_iconst (v := 1) dB_isNothing_33 (by decide) ?_
  refine xs_goto dB_isNothing_34 ?_
  exact xs_iret dB_isNothing_38 rfl rfl (by omega) (by omega) ⟨by rw [bI_t (Prod.ext h1 (Prod.ext h2 h3))], rfl, rfl⟩
end M1
