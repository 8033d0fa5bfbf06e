/-! the reference's object: b and sixteen arrays behind it -/
abbrev oI (N : Nat) (f : Nat → Int32) : va_E := .inl (0, N, .inl f)
abbrev oL (N : Nat) (f : Nat → Int64) : va_E := .inl (1, N, .inr (.inl f))
abbrev oB (N : Nat) (f : Nat → Int32) : va_E := .inl (2, N, .inl f)
abbrev mCl (b : Nat) (rf sz sp : Int32) (gd : Bool) (ac zs ft : Int32) : va_E := .inr (8, [.int rf, .ref (b + 1), .int sz, .int sp, .int (bI gd), .ref (b + 2), .ref (b + 3), .ref (b + 4), .ref (b + 5), .int ac, .ref (b + 6), .ref (b + 7), .ref (b + 8), .ref (b + 9), .ref (b + 10), .ref (b + 11), .ref (b + 12), .int zs, .ref (b + 13), .ref (b + 14), .ref (b + 15), .ref (b + 16), .int ft])
/-- a crystal in a row of seventy numbers -/
def mrow (f : Nat → Int32) (V : zV) : Prop := (f 0 = nI V.1.length ∧ f 1 = iI V.2.1 ∧ f 2 = iI V.2.2.1 ∧ f 3 = iI V.2.2.2.1 ∧ f 4 = iI V.2.2.2.2.1 ∧ f 5 = iI V.2.2.2.2.2) ∧
  ∀ i c, V.1[i]? = some c → f (6 + 4 * i) = iI c.1.1 ∧ f (6 + 4 * i + 1) = iI c.1.2.1 ∧ f (6 + 4 * i + 2) = iI c.1.2.2 ∧ f (6 + 4 * i + 3) = iI c.2
def t3P (th : Nat → Int64) (p : P3) : Prop := th 0 = iL p.1 ∧ th 1 = iL p.2.1 ∧ th 2 = iL p.2.2
theorem l_of (x : Int32) : x.toInt64 = iL x.toInt := by
  rw [← Int64.toInt_inj, Int32.toInt_toInt64]
  have h1 := Int32.toInt_lt x
  have h2 := Int32.le_toInt x
  exact (iL_T (by omega)).symm
theorem i_bd (x : Int32) : x.toInt.natAbs < 4611686018427387904 := by
  have h1 := Int32.toInt_lt x
  have h2 := Int32.le_toInt x
  omega
section M0
variable {n b : Nat} {G : xG} {rf sz sp ac zs ft : Int32} {gd : Bool}
theorem k_B_in {x lo hi : Int} (hx : x.natAbs < 4611686018427387904) (hl : lo.natAbs < 4611686018427387904) (hh : hi.natAbs < 4611686018427387904) : xK mB_in [.long (iL x), .long (iL lo), .long (iL hi)] n G 0 0 (qI n G (bI (decide (lo ≤ x ∧ x ≤ hi)))) xNo := by
  have l1 := iL_lt hx hl
  have l2 := iL_lt hh hx
  refine xK_of2 (L0 := [(0, _), (2, _), (4, _)]) (by decide +kernel) rfl (Nat.le_of_ble_eq_true rfl) rfl ?_
  refine xs_lload_n dB_in_0 rfl ?_
  refine xs_lload_n dB_in_1 rfl ?_
  refine xs_lc_lt dB_in_2 dB_in_3 (fun q => ?_) (fun q => ?_)
  · have h9 := l1.mp q
    refine xs_iconst (v := 0) dB_in_17 (by decide) ?_
    exact xs_iret dB_in_18 rfl rfl (by omega) (by omega) ⟨by rw [bI_f (by omega)], rfl, rfl⟩
  have h8 : lo ≤ x := by
    by_cases e : lo ≤ x
    · exact e
    · exact absurd (l1.mpr (by omega)) q
  refine xs_lload_n dB_in_6 rfl ?_
  refine xs_lload dB_in_7 rfl ?_
  refine xs_lc_gt dB_in_9 dB_in_10 (fun q => ?_) (fun q => ?_)
  · have h9 := l2.mp q
    refine xs_iconst (v := 0) dB_in_17 (by decide) ?_
    exact xs_iret dB_in_18 rfl rfl (by omega) (by omega) ⟨by rw [bI_f (by omega)], rfl, rfl⟩
  have h7 : x ≤ hi := by
    by_cases e : x ≤ hi
    · exact e
    · exact absurd (l2.mpr (by omega)) q
  refine xs_iconst (v := 1) dB_in_13 (by decide) ?_
  refine xs_goto dB_in_14 ?_
  exact xs_iret dB_in_18 rfl rfl (by omega) (by omega) ⟨by rw [bI_t ⟨h8, h7⟩], rfl, rfl⟩
theorem k_B_thrown (hc : G b = mCl b rf sz sp gd ac zs ft) : xK mB_thrown [.ref b] n G 0 0 (qI n G rf) xNo := by
  refine xK_of2 (L0 := [(0, _)]) (by decide +kernel) rfl (Nat.le_of_ble_eq_true rfl) rfl ?_
  refine xs_aload_n dB_thrown_0 rfl ?_
  refine xs_get dB_thrown_1 flB_64 (by repeat (first | exact va_up_self _ _ _ | assumption | refine (va_up_ne _ _ (by omega)).trans ?_)) rfl ?_
  exact xs_iret dB_thrown_4 rfl rfl (by omega) (by omega) ⟨rfl, rfl, rfl⟩
theorem k_B_refused {w : Nat} (hw : w < 1000) (hc : G b = mCl b rf sz sp gd ac zs ft) : xK mB_refused [.ref b, .int (nI w)] n G 0 0 (qI n (va_up G b (mCl b (nI w) sz sp gd ac zs ft)) (bI (decide (0 < w)))) xNo := by
  refine xK_of2 (L0 := [(0, _), (1, _)]) (by decide +kernel) rfl (Nat.le_of_ble_eq_true rfl) rfl ?_
  refine xs_aload_n dB_refused_0 rfl ?_
  refine xs_iload_n dB_refused_1 rfl ?_
  refine xs_put dB_refused_2 flB_64 ft8_0 (by repeat (first | exact va_up_self _ _ _ | assumption | refine (va_up_ne _ _ (by omega)).trans ?_)) (fun _ => rfl) (fun _ => rfl) (by simp) ?_
  refine xs_iload_n dB_refused_5 rfl ?_
  refine xs_if_le dB_refused_6 (fun q => ?_) (fun q => ?_)
  · have h9 : w ≤ 0 := (nI_leI (b := 0) (by omega) (by decide)).mp q
    refine xs_iconst (v := 0) dB_refused_13 (by decide) ?_
    exact xs_iret dB_refused_14 rfl rfl (by omega) (by omega) ⟨by rw [bI_f (by omega)], rfl, rfl⟩
  · have h9 : 0 < w := by
      rcases Nat.lt_or_ge 0 w with e | e
      · exact e
      · exact absurd (nI_le (b := 0) e (by decide)) q
    refine xs_iconst (v := 1) dB_refused_9 (by decide) ?_
    refine xs_goto dB_refused_10 ?_
    exact xs_iret dB_refused_14 rfl rfl (by omega) (by omega) ⟨by rw [bI_t h9], rfl, rfl⟩
/-- a copy of numbers between two arrays -/
theorem k_B_copy {s d N1 N2 fa ta m : Nat} {f g : Nat → Int32} (hs : G s = oI N1 f) (hd : G d = oI N2 g) (hne : s ≠ d) (h1 : fa + m ≤ N1) (h2 : ta + m ≤ N2) (hN1 : N1 < 10000) (hN2 : N2 < 10000) :
    xK mB_copy [.ref s, .int (nI fa), .ref d, .int (nI ta), .int (nI m)] n G 0 0 (qVx n (fun H => ∃ g2, H = va_up G d (oI N2 g2) ∧ (∀ k, k < m → g2 (ta + k) = f (fa + k)) ∧ ∀ j, (j < ta ∨ ta + m ≤ j) → g2 j = g j)) xNo := by
  have loop : ∀ (k i : Nat) (g2 : Nat → Int32), i + k = m → (∀ j, j < i → g2 (ta + j) = f (fa + j)) → (∀ j, (j < ta ∨ ta + i ≤ j) → g2 j = g j) →
      xS mB_copy n 0 0 (qVx n (fun H => ∃ g2, H = va_up G d (oI N2 g2) ∧ (∀ k, k < m → g2 (ta + k) = f (fa + k)) ∧ ∀ j, (j < ta ∨ ta + m ≤ j) → g2 j = g j)) xNo 3 [(0, .ref s), (1, .int (nI fa)), (2, .ref d), (3, .int (nI ta)), (4, .int (nI m)), (5, .int (nI i))] [] n (va_up G d (oI N2 g2)) 0 0 := by
    intro k
    induction k with
    | zero =>
      intro i g2 hi q1 q2
      have hi : i = m := by omega
      subst hi
      refine xs_iload dB_copy_3 rfl ?_
      refine xs_iload dB_copy_5 rfl ?_
      refine xs_icmp_ge dB_copy_7 (fun _ => ?_) (fun q => absurd (nI_le (Nat.le_refl _) (by omega)) q)
      exact xs_vret dB_copy_28 rfl (by omega) (by omega) ⟨rfl, rfl, g2, rfl, q1, q2⟩
    | succ k ih =>
      intro i g2 hi q1 q2
      refine xs_iload dB_copy_3 rfl ?_
      refine xs_iload dB_copy_5 rfl ?_
      refine xs_icmp_ge dB_copy_7 (fun q => absurd ((nI_leI (by omega) (by omega)).mp q) (by omega)) (fun _ => ?_)
      refine xs_aload_n dB_copy_10 rfl ?_
      refine xs_iload_n dB_copy_11 rfl ?_
      refine xs_iload dB_copy_12 rfl ?_
      refine xs_iadd dB_copy_14 ?_
      rw [nI_add2]
      refine xs_aload_n dB_copy_15 rfl ?_
      refine xs_iload_n dB_copy_16 rfl ?_
      refine xs_iload dB_copy_17 rfl ?_
      refine xs_iadd dB_copy_19 ?_
      rw [nI_add2]
      have v1 : vp_in (nI (fa + i)) N1 := vp_in_nI (by omega) (by omega)
      have v2 : vp_in (nI (ta + i)) N2 := vp_in_nI (by omega) (by omega)
      refine xs_iald dB_copy_20 (by repeat (first | exact va_up_self _ _ _ | assumption | refine (va_up_ne _ _ (by omega)).trans ?_)) (by assumption) ?_
      refine xs_iast dB_copy_21 (by repeat (first | exact va_up_self _ _ _ | assumption | refine (va_up_ne _ _ (by omega)).trans ?_)) (by assumption) ?_
      refine xs_iinc (L2 := [(5, _), (0, _), (1, _), (2, _), (3, _), (4, _)]) dB_copy_22 rfl rfl (by decide) rfl ?_
      refine xs_goto dB_copy_25 ?_
      refine xs_pick (L2 := [(0, _), (1, _), (2, _), (3, _), (4, _), (5, _)]) [1, 2, 3, 4, 5, 0] rfl ?_
      rw [xii, bx_uu, nI_clamp (by omega), nI_clamp (by omega)]
      refine ih (i + 1) _ (by omega) (fun j hj => ?_) (fun j hj => ?_)
      · simp only [upd]
        by_cases hji : j = i
        · subst hji
          rw [if_pos rfl]
        · rw [if_neg (by omega)]
          exact q1 j (by omega)
      · simp only [upd]
        rw [if_neg (by omega)]
        exact q2 j (by omega)
  refine xK_of2 (L0 := [(0, _), (1, _), (2, _), (3, _), (4, _)]) (by decide +kernel) rfl (Nat.le_of_ble_eq_true rfl) rfl ?_
  refine xs_iconst (v := 0) dB_copy_0 (by decide) ?_
  refine xs_istore (L2 := [(5, _), (0, _), (1, _), (2, _), (3, _), (4, _)]) dB_copy_1 (by decide) rfl ?_
  refine xs_pick (L2 := [(0, _), (1, _), (2, _), (3, _), (4, _), (5, _)]) [1, 2, 3, 4, 5, 0] rfl ?_
  have hgo := loop m 0 g (by omega) (fun j hj => absurd hj (by omega)) (fun j _ => rfl)
  rw [va_up_same hd] at hgo
  exact hgo
theorem k_B_copyD {d N fa ta m : Nat} {f : Nat → Int32} (hd : G d = oI N f) (h1 : fa + m ≤ N) (h2 : ta ≤ fa) (hN1 : N < 10000) :
    xK mB_copy [.ref d, .int (nI fa), .ref d, .int (nI ta), .int (nI m)] n G 0 0 (qVx n (fun H => ∃ g2, H = va_up G d (oI N g2) ∧ (∀ k, k < m → g2 (ta + k) = f (fa + k)) ∧ ∀ j, (j < ta ∨ ta + m ≤ j) → g2 j = f j)) xNo := by
  have loop : ∀ (k i : Nat) (g2 : Nat → Int32), i + k = m → (∀ j, j < i → g2 (ta + j) = f (fa + j)) → (∀ j, (j < ta ∨ ta + i ≤ j) → g2 j = f j) →
      xS mB_copy n 0 0 (qVx n (fun H => ∃ g2, H = va_up G d (oI N g2) ∧ (∀ k, k < m → g2 (ta + k) = f (fa + k)) ∧ ∀ j, (j < ta ∨ ta + m ≤ j) → g2 j = f j)) xNo 3 [(0, .ref d), (1, .int (nI fa)), (2, .ref d), (3, .int (nI ta)), (4, .int (nI m)), (5, .int (nI i))] [] n (va_up G d (oI N g2)) 0 0 := by
    intro k
    induction k with
    | zero =>
      intro i g2 hi q1 q2
      have hi : i = m := by omega
      subst hi
      refine xs_iload dB_copy_3 rfl ?_
      refine xs_iload dB_copy_5 rfl ?_
      refine xs_icmp_ge dB_copy_7 (fun _ => ?_) (fun q => absurd (nI_le (Nat.le_refl _) (by omega)) q)
      exact xs_vret dB_copy_28 rfl (by omega) (by omega) ⟨rfl, rfl, g2, rfl, q1, q2⟩
    | succ k ih =>
      intro i g2 hi q1 q2
      refine xs_iload dB_copy_3 rfl ?_
      refine xs_iload dB_copy_5 rfl ?_
      refine xs_icmp_ge dB_copy_7 (fun q => absurd ((nI_leI (by omega) (by omega)).mp q) (by omega)) (fun _ => ?_)
      refine xs_aload_n dB_copy_10 rfl ?_
      refine xs_iload_n dB_copy_11 rfl ?_
      refine xs_iload dB_copy_12 rfl ?_
      refine xs_iadd dB_copy_14 ?_
      rw [nI_add2]
      refine xs_aload_n dB_copy_15 rfl ?_
      refine xs_iload_n dB_copy_16 rfl ?_
      refine xs_iload dB_copy_17 rfl ?_
      refine xs_iadd dB_copy_19 ?_
      rw [nI_add2]
      have v1 : vp_in (nI (fa + i)) N := vp_in_nI (by omega) (by omega)
      have v2 : vp_in (nI (ta + i)) N := vp_in_nI (by omega) (by omega)
      refine xs_iald dB_copy_20 (by repeat (first | exact va_up_self _ _ _ | assumption | refine (va_up_ne _ _ (by omega)).trans ?_)) (by assumption) ?_
      refine xs_iast dB_copy_21 (by repeat (first | exact va_up_self _ _ _ | assumption | refine (va_up_ne _ _ (by omega)).trans ?_)) (by assumption) ?_
      refine xs_iinc (L2 := [(5, _), (0, _), (1, _), (2, _), (3, _), (4, _)]) dB_copy_22 rfl rfl (by decide) rfl ?_
      refine xs_goto dB_copy_25 ?_
      refine xs_pick (L2 := [(0, _), (1, _), (2, _), (3, _), (4, _), (5, _)]) [1, 2, 3, 4, 5, 0] rfl ?_
      rw [xii, bx_uu, nI_clamp (by omega), nI_clamp (by omega), q2 (fa + i) (by omega)]
      refine ih (i + 1) _ (by omega) (fun j hj => ?_) (fun j hj => ?_)
      · simp only [upd]
        by_cases hji : j = i
        · subst hji
          rw [if_pos rfl]
        · rw [if_neg (by omega)]
          exact q1 j (by omega)
      · simp only [upd]
        rw [if_neg (by omega)]
        exact q2 j (by omega)
  refine xK_of2 (L0 := [(0, _), (1, _), (2, _), (3, _), (4, _)]) (by decide +kernel) rfl (Nat.le_of_ble_eq_true rfl) rfl ?_
  refine xs_iconst (v := 0) dB_copy_0 (by decide) ?_
  refine xs_istore (L2 := [(5, _), (0, _), (1, _), (2, _), (3, _), (4, _)]) dB_copy_1 (by decide) rfl ?_
  refine xs_pick (L2 := [(0, _), (1, _), (2, _), (3, _), (4, _), (5, _)]) [1, 2, 3, 4, 5, 0] rfl ?_
  have hgo := loop m 0 f (by omega) (fun j hj => absurd hj (by omega)) (fun j _ => rfl)
  rw [va_up_same hd] at hgo
  exact hgo
theorem k_B_tenTo {k : Nat} (hk : k ≤ 15) : xK mB_tenTo [.int (nI k)] n G 0 0 (qL n G (lN (10 ^ k))) xNo := by
  have loop : ∀ (m i : Nat), i + m = k → xS mB_tenTo n 0 0 (qL n G (lN (10 ^ k))) xNo 4 [(0, .int (nI k)), (1, .long (lN (10 ^ i))), (3, .int (nI i))] [] n G 0 0 := by
    intro m
    induction m with
    | zero =>
      intro i hi
      have hi : i = k := by omega
      subst hi
      refine xs_iload_n dB_tenTo_4 rfl ?_
      refine xs_iload_n dB_tenTo_5 rfl ?_
      refine xs_icmp_ge dB_tenTo_6 (fun _ => ?_) (fun q => absurd (nI_le (Nat.le_refl _) (by omega)) q)
      refine xs_lload_n dB_tenTo_21 rfl ?_
      exact xs_lret dB_tenTo_22 rfl (by omega) (by omega) ⟨rfl, rfl, rfl⟩
    | succ m ih =>
      intro i hi
      refine xs_iload_n dB_tenTo_4 rfl ?_
      refine xs_iload_n dB_tenTo_5 rfl ?_
      refine xs_icmp_ge dB_tenTo_6 (fun q => absurd ((nI_leI (by omega) (by omega)).mp q) (by omega)) (fun _ => ?_)
      refine xs_lload_n dB_tenTo_9 rfl ?_
      refine xs_ldc2 dB_tenTo_10 kcB_68 ?_
      refine xs_lmul dB_tenTo_13 ?_
      refine xs_lstore_n (L2 := [(1, _), (0, _), (3, _)]) dB_tenTo_14 (by decide) rfl ?_
      refine xs_iinc (L2 := [(3, _), (1, _), (0, _)]) dB_tenTo_15 rfl rfl (by decide) rfl ?_
      refine xs_goto dB_tenTo_18 ?_
      refine xs_pick (L2 := [(0, _), (1, _), (3, _)]) [2, 1, 0] rfl ?_
      rw [xii, show lN (10 ^ i) * 10 = lN (10 ^ (i + 1)) from by
        rw [Nat.pow_succ, iL_nat, iL_nat, show (10 : Int64) = iL 10 from rfl, iL_mul, Int.natCast_mul]
        rfl]
      exact ih (i + 1) (by omega)
  refine xK_of2 (L0 := [(0, _)]) (by decide +kernel) rfl (Nat.le_of_ble_eq_true rfl) rfl ?_
  refine xs_lconst (v := 1) dB_tenTo_0 (by decide) ?_
  refine xs_lstore_n (L2 := [(1, _), (0, _)]) dB_tenTo_1 (by decide) rfl ?_
  refine xs_iconst (v := 0) dB_tenTo_2 (by decide) ?_
  refine xs_istore_n (L2 := [(3, _), (1, _), (0, _)]) dB_tenTo_3 (by decide) rfl ?_
  refine xs_pick (L2 := [(0, _), (1, _), (3, _)]) [2, 1, 0] rfl ?_
  exact loop k 0 (by omega)
theorem k_B_size {x : Int} (hx : x.natAbs < 4611686018427387904) : xK mB_size [.long (iL x)] n G 0 0 (qL n G (lN x.natAbs)) xNo := by
  refine xK_of2 (L0 := [(0, _)]) (by decide +kernel) rfl (Nat.le_of_ble_eq_true rfl) rfl ?_
  refine xs_lload_n dB_size_0 rfl ?_
  refine xs_lconst (v := 0) dB_size_1 (by decide) ?_
  refine xs_lc_ge dB_size_2 dB_size_3 (fun h => ?_) (fun h => ?_)
  · refine xs_lload_n dB_size_11 rfl ?_
    exact xs_lret dB_size_12 rfl (by omega) (by omega) ⟨by rw [(iL_abs hx).2 h], rfl, rfl⟩
  · refine xs_lload_n dB_size_6 rfl ?_
    refine xs_lneg dB_size_7 ?_
    refine xs_goto dB_size_8 ?_
    exact xs_lret dB_size_12 rfl (by omega) (by omega) ⟨by rw [(iL_abs hx).1 h], rfl, rfl⟩
theorem k_B_divisor {x y : Int} (hx : x.natAbs < 4611686018427387904) (hy : y.natAbs < 4611686018427387904) : xK mB_divisor [.long (iL x), .long (iL y)] n G 0 0 (qL n G (lN (Nat.gcd x.natAbs y.natAbs))) xNo := by
  have loop : ∀ (m p q : Nat) (L : List (Nat × Value)), q < m → p < 4611686018427387904 → q < 4611686018427387904 → Nat.gcd p q = Nat.gcd x.natAbs y.natAbs →
      xS mB_divisor n 0 0 (qL n G (lN (Nat.gcd x.natAbs y.natAbs))) xNo 12 [(0, .long (iL x)), (2, .long (iL y)), (4, .long (lN p)), (6, .long (lN q))] [] n G 0 0 := by
    intro m
    induction m with
    | zero => intro p q L h; exact absurd h (by omega)
    | succ m ih =>
      intro p q L hq hp1 hq1 hg
      refine xs_lload dB_divisor_12 rfl ?_
      refine xs_lconst (v := 0) dB_divisor_14 (by decide) ?_
      refine xs_lc_eq dB_divisor_15 dB_divisor_16 (fun h0 => ?_) (fun h0 => ?_)
      · have e : q = 0 := (pk_lEQ (a := q) (b := 0) (by omega) (by omega)).mp h0
        subst e
        rw [Nat.gcd_zero_right] at hg
        refine xs_lload dB_divisor_37 rfl ?_
        exact xs_lret dB_divisor_39 rfl (by omega) (by omega) ⟨by rw [hg], rfl, rfl⟩
      · have e : q ≠ 0 := fun e => h0 (by rw [e]; rfl)
        refine xs_lload dB_divisor_19 rfl ?_
        refine xs_lload dB_divisor_21 rfl ?_
        refine xs_lrem dB_divisor_23 h0 ?_
        rw [pk_lRem (by omega) (by omega) (by omega)]
        refine xs_lstore (L2 := [(8, _), (0, _), (2, _), (4, _), (6, _)]) dB_divisor_24 (by decide) rfl ?_
        refine xs_lload dB_divisor_26 rfl ?_
        refine xs_lstore (L2 := [(4, _), (8, _), (0, _), (2, _), (6, _)]) dB_divisor_28 (by decide) rfl ?_
        refine xs_lload dB_divisor_30 rfl ?_
        refine xs_lstore (L2 := [(6, _), (4, _), (8, _), (0, _), (2, _)]) dB_divisor_32 (by decide) rfl ?_
        refine xs_goto dB_divisor_34 ?_
        refine xs_pick (L2 := [(0, _), (2, _), (4, _), (6, _)]) [3, 4, 1, 0] rfl ?_
        have hm : p % q < q := Nat.mod_lt _ (by omega)
        refine ih q (p % q) L (by omega) hq1 (by omega) ?_
        rw [← hg, Nat.gcd_comm p q, Nat.gcd_rec q p, Nat.gcd_comm]
  refine xK_of2 (L0 := [(0, _), (2, _)]) (by decide +kernel) rfl (Nat.le_of_ble_eq_true rfl) rfl ?_
  refine xs_lload_n dB_divisor_0 rfl ?_
  refine xs_cS_l (As := [_]) dB_divisor_1 lkB_70 (k_B_size hx) rfl rfl (Nat.le_of_ble_eq_true rfl) ⟨by decide, by decide⟩ ⟨by omega, by omega⟩ ?_
  refine xs_lstore (L2 := [(4, _), (0, _), (2, _)]) dB_divisor_4 (by decide) rfl ?_
  refine xs_lload_n dB_divisor_6 rfl ?_
  refine xs_cS_l (As := [_]) dB_divisor_7 lkB_70 (k_B_size hy) rfl rfl (Nat.le_of_ble_eq_true rfl) ⟨by decide, by decide⟩ ⟨by omega, by omega⟩ ?_
  refine xs_lstore (L2 := [(6, _), (4, _), (0, _), (2, _)]) dB_divisor_10 (by decide) rfl ?_
  refine xs_pick (L2 := [(0, _), (2, _), (4, _), (6, _)]) [2, 3, 1, 0] rfl ?_
  exact loop (y.natAbs + 1) x.natAbs y.natAbs [] (by omega) (by omega) (by omega) rfl
theorem k_B_cell {i w : Nat} : xK mB_cell [.int (nI i), .int (nI w)] n G 0 0 (qI n G (nI (6 + 4 * i + w))) xNo := by
  refine xK_of2 (L0 := [(0, _), (1, _)]) (by decide +kernel) rfl (Nat.le_of_ble_eq_true rfl) rfl ?_
  refine xs_bipush (v := 6) dB_cell_0 (by decide) ?_
  refine xs_iconst (v := 4) dB_cell_2 (by decide) ?_
  refine xs_iload_n dB_cell_3 rfl ?_
  refine xs_imul dB_cell_4 ?_
  refine xs_iadd dB_cell_5 ?_
  refine xs_iload_n dB_cell_6 rfl ?_
  refine xs_iadd dB_cell_7 ?_
  exact xs_iret dB_cell_8 rfl rfl (by omega) (by omega) ⟨by
    rw [show (6 : Int32) = nI 6 from rfl, show (4 : Int32) = nI 4 from rfl, show nI 4 * nI i = nI (4 * i) from (Int32.ofNat_mul 4 i).symm, nI_add2, nI_add2], rfl, rfl⟩
end M0
