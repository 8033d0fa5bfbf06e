theorem sshr {m k : Nat} (hm : m < 65536) (hk : k < 16) : (nI m >>> (nI k &&& 31)) &&& 1 = nI (m.testBit k).toNat := by
  have hs : ∀ k, k < 16 → ((nI k &&& 31).toBitVec.smod 32).toNat = k := by decide
  have hx : (nI m).toBitVec.toNat = m := by
    show (BitVec.ofNat 32 m).toNat = m
    rw [BitVec.toNat_ofNat, Nat.mod_eq_of_lt (by omega)]
  have h1 : nI m >>> (nI k &&& 31) = nI (m / 2 ^ k) := by
    apply Int32.toBitVec_inj.mp
    apply BitVec.eq_of_toNat_eq
    have h2 : (nI m >>> (nI k &&& 31)).toBitVec = (nI m).toBitVec.sshiftRight ((nI k &&& 31).toBitVec.smod 32).toNat := rfl
    rw [h2, hs k hk, BitVec.sshiftRight_eq_of_msb_false (BitVec.msb_eq_false_iff_two_mul_lt.mpr (by rw [hx]; omega)), BitVec.toNat_ushiftRight, hx, Nat.shiftRight_eq_div_pow]
    show _ = (BitVec.ofNat 32 (m / 2 ^ k)).toNat
    have := Nat.div_le_self m (2 ^ k)
    rw [BitVec.toNat_ofNat, Nat.mod_eq_of_lt (by omega)]
  rw [h1, show (1 : Int32) = nI 1 from rfl, nI_and, Nat.and_one_is_mod, Nat.toNat_testBit]
section M3
variable {n b : Nat} {G : xG} {rf sz sp ac ft zs : Int32} {gd : Bool} {th wy ax : Nat → Int64} {mn wh : Nat → Int32} {D Z : List P3}
theorem wy_get {i : Nat} {d : P3} (hw : wyP wy D) (hd : D[i]? = some d) (hl : D.length ≤ 16) :
    (vp_in ((3 : Int32) * nI i) 48 ∧ vp_in ((3 : Int32) * nI i + 1) 48 ∧ vp_in ((3 : Int32) * nI i + 2) 48) ∧ wy ((3 : Int32) * nI i).toNatClampNeg = iL d.1 ∧ wy ((3 : Int32) * nI i + 1).toNatClampNeg = iL d.2.1 ∧ wy ((3 : Int32) * nI i + 2).toNatClampNeg = iL d.2.2 := by
  have hi := (List.getElem?_eq_some_iff.mp hd).1
  obtain ⟨h1, h2, h3⟩ := hw i d hd
  rw [mul3, add1, add2, nI_clamp (by omega), nI_clamp (by omega), nI_clamp (by omega)]
  exact ⟨⟨vp_in_nI (by omega) (by omega), vp_in_nI (by omega) (by omega), vp_in_nI (by omega) (by omega)⟩, h1, h2, h3⟩
theorem k_B_crossWays {i j : Nat} {d e : P3} (hc : G b = mCl b rf sz sp gd ac zs ft) (h8 : G (b + 8) = oL 3 th) (h9 : G (b + 9) = oL 48 wy) (hw : wyP wy D) (hok : dOk D) (hd : D[i]? = some d) (he : D[j]? = some e) :
    xK mB_crossWays [.ref b, .int (nI i), .int (nI j)] n G 0 0 (qVx n (fun H => ∃ th, H = va_up G (b + 8) (oL 3 th) ∧ t3P th (nz (cr d e)))) xNo := by
  obtain ⟨⟨v0, v1, v2⟩, w0, w1, w2⟩ := wy_get hw hd hok.1
  obtain ⟨⟨v3, v4, v5⟩, w3, w4, w5⟩ := wy_get hw he hok.1
  have hcb := cr_bd (hok.2 d (List.mem_of_getElem? hd)).1 (hok.2 e (List.mem_of_getElem? he)).1
  refine xK_of2 (L0 := [(0, _), (1, _), (2, _)]) (by decide +kernel) rfl (Nat.le_of_ble_eq_true rfl) rfl ?_
  refine xs_aload_n dB_crossWays_0 rfl ?_
  refine xs_aload_n dB_crossWays_1 rfl ?_
  refine xs_get dB_crossWays_2 flB_36 (by repeat (first | exact va_up_self _ _ _ | assumption | refine (va_up_ne _ _ (by omega)).trans ?_)) rfl ?_
  refine xs_iconst (v := 3) dB_crossWays_5 (by decide) ?_
  refine xs_iload_n dB_crossWays_6 rfl ?_
  refine xs_imul dB_crossWays_7 ?_
  refine xs_lald dB_crossWays_8 (by repeat (first | exact va_up_self _ _ _ | assumption | refine (va_up_ne _ _ (by omega)).trans ?_)) (by assumption) ?_
  refine xs_aload_n dB_crossWays_9 rfl ?_
  refine xs_get dB_crossWays_10 flB_36 (by repeat (first | exact va_up_self _ _ _ | assumption | refine (va_up_ne _ _ (by omega)).trans ?_)) rfl ?_
  refine xs_iconst (v := 3) dB_crossWays_13 (by decide) ?_
  refine xs_iload_n dB_crossWays_14 rfl ?_
  refine xs_imul dB_crossWays_15 ?_
  refine xs_iconst (v := 1) dB_crossWays_16 (by decide) ?_
  refine xs_iadd dB_crossWays_17 ?_
  refine xs_lald dB_crossWays_18 (by repeat (first | exact va_up_self _ _ _ | assumption | refine (va_up_ne _ _ (by omega)).trans ?_)) (by assumption) ?_
  refine xs_aload_n dB_crossWays_19 rfl ?_
  refine xs_get dB_crossWays_20 flB_36 (by repeat (first | exact va_up_self _ _ _ | assumption | refine (va_up_ne _ _ (by omega)).trans ?_)) rfl ?_
  refine xs_iconst (v := 3) dB_crossWays_23 (by decide) ?_
  refine xs_iload_n dB_crossWays_24 rfl ?_
  refine xs_imul dB_crossWays_25 ?_
  refine xs_iconst (v := 2) dB_crossWays_26 (by decide) ?_
  refine xs_iadd dB_crossWays_27 ?_
  refine xs_lald dB_crossWays_28 (by repeat (first | exact va_up_self _ _ _ | assumption | refine (va_up_ne _ _ (by omega)).trans ?_)) (by assumption) ?_
  refine xs_aload_n dB_crossWays_29 rfl ?_
  refine xs_get dB_crossWays_30 flB_36 (by repeat (first | exact va_up_self _ _ _ | assumption | refine (va_up_ne _ _ (by omega)).trans ?_)) rfl ?_
  refine xs_iconst (v := 3) dB_crossWays_33 (by decide) ?_
  refine xs_iload_n dB_crossWays_34 rfl ?_
  refine xs_imul dB_crossWays_35 ?_
  refine xs_lald dB_crossWays_36 (by repeat (first | exact va_up_self _ _ _ | assumption | refine (va_up_ne _ _ (by omega)).trans ?_)) (by assumption) ?_
  refine xs_aload_n dB_crossWays_37 rfl ?_
  refine xs_get dB_crossWays_38 flB_36 (by repeat (first | exact va_up_self _ _ _ | assumption | refine (va_up_ne _ _ (by omega)).trans ?_)) rfl ?_
  refine xs_iconst (v := 3) dB_crossWays_41 (by decide) ?_
  refine xs_iload_n dB_crossWays_42 rfl ?_
  refine xs_imul dB_crossWays_43 ?_
  refine xs_iconst (v := 1) dB_crossWays_44 (by decide) ?_
  refine xs_iadd dB_crossWays_45 ?_
  refine xs_lald dB_crossWays_46 (by repeat (first | exact va_up_self _ _ _ | assumption | refine (va_up_ne _ _ (by omega)).trans ?_)) (by assumption) ?_
  refine xs_aload_n dB_crossWays_47 rfl ?_
  refine xs_get dB_crossWays_48 flB_36 (by repeat (first | exact va_up_self _ _ _ | assumption | refine (va_up_ne _ _ (by omega)).trans ?_)) rfl ?_
  refine xs_iconst (v := 3) dB_crossWays_51 (by decide) ?_
  refine xs_iload_n dB_crossWays_52 rfl ?_
  refine xs_imul dB_crossWays_53 ?_
  refine xs_iconst (v := 2) dB_crossWays_54 (by decide) ?_
  refine xs_iadd dB_crossWays_55 ?_
  refine xs_lald dB_crossWays_56 (by repeat (first | exact va_up_self _ _ _ | assumption | refine (va_up_ne _ _ (by omega)).trans ?_)) (by assumption) ?_
  rw [w0, w1, w2, w3, w4, w5]
  refine xs_cV_vx (As := [_, _, _, _, _, _]) dB_crossWays_57 lkB_98 (by repeat (first | exact va_up_self _ _ _ | assumption | refine (va_up_ne _ _ (by omega)).trans ?_)) (k_B_crossOf (bd_mono hcb (by decide)) hc h8) rfl rfl (Nat.le_of_ble_eq_true rfl) ⟨by decide, by decide⟩ ⟨by omega, by omega⟩ ?_
  intro H hH
  exact xs_vret dB_crossWays_60 rfl (by omega) (by omega) ⟨rfl, rfl, hH⟩
theorem k_B_lies {i : Nat} {d a : P3} (hc : G b = mCl b rf sz sp gd ac zs ft) (h9 : G (b + 9) = oL 48 wy) (hw : wyP wy D) (hok : dOk D) (hd : D[i]? = some d) (ha : bd 4000000000 a) :
    xK mB_lies [.ref b, .int (nI i), .long (iL a.1), .long (iL a.2.1), .long (iL a.2.2)] n G 0 0 (qI n G (bI (decide (dt d a = 0)))) xNo := by
  obtain ⟨⟨v0, v1, v2⟩, w0, w1, w2⟩ := wy_get hw hd hok.1
  have hb := dt_bd (hok.2 d (List.mem_of_getElem? hd)).1 ha
  have hiff := iL_eq (x := dt d a) (y := 0) (by omega) (by decide)
  refine xK_of2 (L0 := [(0, _), (1, _), (2, _), (4, _), (6, _)]) (by decide +kernel) rfl (Nat.le_of_ble_eq_true rfl) rfl ?_
  refine xs_aload_n dB_lies_0 rfl ?_
  refine xs_get dB_lies_1 flB_36 (by repeat (first | exact va_up_self _ _ _ | assumption | refine (va_up_ne _ _ (by omega)).trans ?_)) rfl ?_
  refine xs_iconst (v := 3) dB_lies_4 (by decide) ?_
  refine xs_iload_n dB_lies_5 rfl ?_
  refine xs_imul dB_lies_6 ?_
  refine xs_lald dB_lies_7 (by repeat (first | exact va_up_self _ _ _ | assumption | refine (va_up_ne _ _ (by omega)).trans ?_)) (by assumption) ?_
  refine xs_lload_n dB_lies_8 rfl ?_
  refine xs_lmul dB_lies_9 ?_
  refine xs_aload_n dB_lies_10 rfl ?_
  refine xs_get dB_lies_11 flB_36 (by repeat (first | exact va_up_self _ _ _ | assumption | refine (va_up_ne _ _ (by omega)).trans ?_)) rfl ?_
  refine xs_iconst (v := 3) dB_lies_14 (by decide) ?_
  refine xs_iload_n dB_lies_15 rfl ?_
  refine xs_imul dB_lies_16 ?_
  refine xs_iconst (v := 1) dB_lies_17 (by decide) ?_
  refine xs_iadd dB_lies_18 ?_
  refine xs_lald dB_lies_19 (by repeat (first | exact va_up_self _ _ _ | assumption | refine (va_up_ne _ _ (by omega)).trans ?_)) (by assumption) ?_
  refine xs_lload dB_lies_20 rfl ?_
  refine xs_lmul dB_lies_22 ?_
  refine xs_ladd dB_lies_23 ?_
  refine xs_aload_n dB_lies_24 rfl ?_
  refine xs_get dB_lies_25 flB_36 (by repeat (first | exact va_up_self _ _ _ | assumption | refine (va_up_ne _ _ (by omega)).trans ?_)) rfl ?_
  refine xs_iconst (v := 3) dB_lies_28 (by decide) ?_
  refine xs_iload_n dB_lies_29 rfl ?_
  refine xs_imul dB_lies_30 ?_
  refine xs_iconst (v := 2) dB_lies_31 (by decide) ?_
  refine xs_iadd dB_lies_32 ?_
  refine xs_lald dB_lies_33 (by repeat (first | exact va_up_self _ _ _ | assumption | refine (va_up_ne _ _ (by omega)).trans ?_)) (by assumption) ?_
  refine xs_lload dB_lies_34 rfl ?_
  refine xs_lmul dB_lies_36 ?_
  refine xs_ladd dB_lies_37 ?_
  refine xs_lconst (v := 0) dB_lies_38 (by decide) ?_
  rw [w0, w1, w2, dotL]
  refine xs_lc_ne dB_lies_39 dB_lies_40 (fun h => ?_) (fun h => ?_)
  · refine xs_iconst (v := 0) dB_lies_47 (by decide) ?_
    exact xs_iret dB_lies_48 rfl rfl (by omega) (by omega) ⟨by rw [bI_f (fun e => h (hiff.mpr e))], rfl, rfl⟩
  · refine xs_iconst (v := 1) dB_lies_43 (by decide) ?_
    refine xs_goto dB_lies_44 ?_
    exact xs_iret dB_lies_48 rfl rfl (by omega) (by omega) ⟨by rw [bI_t (hiff.mp h)], rfl, rfl⟩
theorem k_B_facesIn {a : P3} (hc : G b = mCl b rf sz sp gd ac zs ft) (h9 : G (b + 9) = oL 48 wy) (hw : wyP wy D) (hok : dOk D) (ha : bd 4000000000 a) :
    xK mB_facesIn [.ref b, .int (nI D.length), .long (iL a.1), .long (iL a.2.1), .long (iL a.2.2)] n G 0 0 (qI n G (nI (mem D a))) xNo := by
  have hL := hok.1
  have loop : ∀ (m i : Nat), D.length - i < m → i ≤ D.length → xS mB_facesIn n 0 0 (qI n G (nI (mem D a))) xNo 6 [(0, .ref b), (1, .int (nI D.length)), (2, .long (iL a.1)), (4, .long (iL a.2.1)), (6, .long (iL a.2.2)), (8, .int (nI (mk (inz D a) i))), (9, .int (nI i))] [] n G 0 0 := by
    intro m
    induction m with
    | zero => intro i q; exact absurd q (by omega)
    | succ m ih =>
      intro i q1 q2
      refine xs_iload dB_facesIn_6 rfl ?_
      refine xs_iload_n dB_facesIn_8 rfl ?_
      refine xs_icmp_ge dB_facesIn_9 (fun hg => ?_) (fun hg => ?_)
      · have hie : i = D.length := by
          have := (nI_leI (by omega) (by omega)).mp hg
          omega
        subst hie
        refine xs_iload dB_facesIn_45 rfl ?_
        exact xs_iret dB_facesIn_47 rfl rfl (by omega) (by omega) ⟨rfl, rfl, rfl⟩
      · have hi : i < D.length := nI_lt_of (by omega) (by omega) hg
        obtain ⟨d, hd⟩ : ∃ d, D[i]? = some d := ⟨_, List.getElem?_eq_getElem hi⟩
        have hz : inz D a i = decide (dt d a = 0) := by rw [inz, hd]
        have hs := ih (i + 1) (by omega) (by omega)
        refine xs_iload dB_facesIn_12 rfl ?_
        refine xs_aload_n dB_facesIn_14 rfl ?_
        refine xs_iload dB_facesIn_15 rfl ?_
        refine xs_lload_n dB_facesIn_17 rfl ?_
        refine xs_lload dB_facesIn_18 rfl ?_
        refine xs_lload dB_facesIn_20 rfl ?_
        refine xs_cV_i (As := [_, _, _, _]) dB_facesIn_22 lkB_102 (by repeat (first | exact va_up_self _ _ _ | assumption | refine (va_up_ne _ _ (by omega)).trans ?_)) (k_B_lies hc h9 hw hok hd ha) rfl rfl (Nat.le_of_ble_eq_true rfl) ⟨by decide, by decide⟩ ⟨by omega, by omega⟩ ?_
        by_cases h : dt d a = 0
        · rw [bI_t h]
          refine xs_if_eq dB_facesIn_25 (fun q => absurd q (by decide)) (fun _ => ?_)
          refine xs_iconst (v := 1) dB_facesIn_28 (by decide) ?_
          refine xs_iload dB_facesIn_29 rfl ?_
          refine xs_ishl dB_facesIn_31 ?_
          rw [sh1 i (by omega)]
          refine xs_goto dB_facesIn_32 ?_
          refine xs_ior dB_facesIn_36 ?_
          rw [nI_or, mk_or]
          refine xs_istore (L2 := [(8, _), (0, _), (1, _), (2, _), (4, _), (6, _), (9, _)]) dB_facesIn_37 (by decide) rfl ?_
          refine xs_iinc (L2 := [(9, _), (8, _), (0, _), (1, _), (2, _), (4, _), (6, _)]) dB_facesIn_39 rfl rfl (by decide) rfl ?_
          refine xs_goto dB_facesIn_42 ?_
          refine xs_pick (L2 := [(0, _), (1, _), (2, _), (4, _), (6, _), (8, _), (9, _)]) [2, 3, 4, 5, 6, 1, 0] rfl ?_
          rw [xii]
          rw [mk, hz, decide_eq_true h, if_pos rfl] at hs
          exact hs
        · rw [bI_f h]
          refine xs_if_eq dB_facesIn_25 (fun _ => ?_) (fun q => absurd rfl q)
          refine xs_iconst (v := 0) dB_facesIn_35 (by decide) ?_
          refine xs_ior dB_facesIn_36 ?_
          rw [show nI (mk (inz D a) i) ||| 0 = nI (mk (inz D a) i) by rw [show (0 : Int32) = nI 0 from rfl, nI_or, Nat.or_zero]]
          refine xs_istore (L2 := [(8, _), (0, _), (1, _), (2, _), (4, _), (6, _), (9, _)]) dB_facesIn_37 (by decide) rfl ?_
          refine xs_iinc (L2 := [(9, _), (8, _), (0, _), (1, _), (2, _), (4, _), (6, _)]) dB_facesIn_39 rfl rfl (by decide) rfl ?_
          refine xs_goto dB_facesIn_42 ?_
          refine xs_pick (L2 := [(0, _), (1, _), (2, _), (4, _), (6, _), (8, _), (9, _)]) [2, 3, 4, 5, 6, 1, 0] rfl ?_
          rw [xii]
          rw [mk, hz, decide_eq_false h, if_neg (by decide), Nat.add_zero] at hs
          exact hs
  refine xK_of2 (L0 := [(0, _), (1, _), (2, _), (4, _), (6, _)]) (by decide +kernel) rfl (Nat.le_of_ble_eq_true rfl) rfl ?_
  refine xs_iconst (v := 0) dB_facesIn_0 (by decide) ?_
  refine xs_istore (L2 := [(8, _), (0, _), (1, _), (2, _), (4, _), (6, _)]) dB_facesIn_1 (by decide) rfl ?_
  refine xs_iconst (v := 0) dB_facesIn_3 (by decide) ?_
  refine xs_istore (L2 := [(9, _), (8, _), (0, _), (1, _), (2, _), (4, _), (6, _)]) dB_facesIn_4 (by decide) rfl ?_
  refine xs_pick (L2 := [(0, _), (1, _), (2, _), (4, _), (6, _), (8, _), (9, _)]) [2, 3, 4, 5, 6, 1, 0] rfl ?_
  exact loop (D.length + 1) 0 (by omega) (by omega)
theorem k_B_count {m : Nat} (hm : m < 65536) : xK mB_count [.int (nI m)] n G 0 0 (qI n G (nI (pc m))) xNo := by
  have loop : ∀ (k i : Nat), i + k = 16 → xS mB_count n 0 0 (qI n G (nI (pc m))) xNo 4 [(0, .int (nI m)), (1, .int (nI (pcr m i))), (2, .int (nI i))] [] n G 0 0 := by
    intro k
    induction k with
    | zero =>
      intro i hi
      have hi : i = 16 := by omega
      subst hi
      refine xs_iload_n dB_count_4 rfl ?_
      refine xs_bipush (v := 16) dB_count_5 (by decide) ?_
      refine xs_icmp_ge dB_count_7 (fun _ => ?_) (fun q => absurd (by decide) q)
      refine xs_iload_n dB_count_24 rfl ?_
      exact xs_iret dB_count_25 rfl rfl (by omega) (by omega) ⟨rfl, rfl, rfl⟩
    | succ k ih =>
      intro i hi
      refine xs_iload_n dB_count_4 rfl ?_
      refine xs_bipush (v := 16) dB_count_5 (by decide) ?_
      refine xs_icmp_ge dB_count_7 (fun q => absurd ((nI_leI (a := 16) (by omega) (by omega)).mp q) (by omega)) (fun _ => ?_)
      refine xs_iload_n dB_count_10 rfl ?_
      refine xs_iload_n dB_count_11 rfl ?_
      refine xs_iload_n dB_count_12 rfl ?_
      refine xs_ishr dB_count_13 ?_
      refine xs_iconst (v := 1) dB_count_14 (by decide) ?_
      refine xs_iand dB_count_15 ?_
      rw [sshr hm (by omega)]
      refine xs_iadd dB_count_16 ?_
      rw [nI_add2]
      refine xs_istore_n (L2 := [(1, _), (0, _), (2, _)]) dB_count_17 (by decide) rfl ?_
      refine xs_iinc (L2 := [(2, _), (1, _), (0, _)]) dB_count_18 rfl rfl (by decide) rfl ?_
      refine xs_goto dB_count_21 ?_
      refine xs_pick (L2 := [(0, _), (1, _), (2, _)]) [2, 1, 0] rfl ?_
      rw [xii]
      exact ih (i + 1) (by omega)
  refine xK_of2 (L0 := [(0, _)]) (by decide +kernel) rfl (Nat.le_of_ble_eq_true rfl) rfl ?_
  refine xs_iconst (v := 0) dB_count_0 (by decide) ?_
  refine xs_istore_n (L2 := [(1, _), (0, _)]) dB_count_1 (by decide) rfl ?_
  refine xs_iconst (v := 0) dB_count_2 (by decide) ?_
  refine xs_istore_n (L2 := [(2, _), (1, _), (0, _)]) dB_count_3 (by decide) rfl ?_
  refine xs_pick (L2 := [(0, _), (1, _), (2, _)]) [2, 1, 0] rfl ?_
  exact loop 16 0 (by omega)
def axP (ax : Nat → Int64) (Z : List P3) : Prop := ∀ k a, Z[k]? = some a → ax (3 * k) = iL a.1 ∧ ax (3 * k + 1) = iL a.2.1 ∧ ax (3 * k + 2) = iL a.2.2
theorem ax_get {i : Nat} {d : P3} (hw : axP ax Z) (hd : Z[i]? = some d) (hl : Z.length ≤ 120) :
    (vp_in ((3 : Int32) * nI i) 363 ∧ vp_in ((3 : Int32) * nI i + 1) 363 ∧ vp_in ((3 : Int32) * nI i + 2) 363) ∧ ax ((3 : Int32) * nI i).toNatClampNeg = iL d.1 ∧ ax ((3 : Int32) * nI i + 1).toNatClampNeg = iL d.2.1 ∧ ax ((3 : Int32) * nI i + 2).toNatClampNeg = iL d.2.2 := by
  have hi := (List.getElem?_eq_some_iff.mp hd).1
  obtain ⟨h1, h2, h3⟩ := hw i d hd
  rw [mul3, add1, add2, nI_clamp (by omega), nI_clamp (by omega), nI_clamp (by omega)]
  exact ⟨⟨vp_in_nI (by omega) (by omega), vp_in_nI (by omega) (by omega), vp_in_nI (by omega) (by omega)⟩, h1, h2, h3⟩
theorem k_B_zoneBy {a : P3} (hc : G b = mCl b rf sz sp gd ac (nI Z.length) ft) (h8 : G (b + 8) = oL 3 th) (ht : t3P th a) (h10 : G (b + 10) = oL 363 ax) (hx : axP ax Z) (hl : Z.length ≤ 120) (hb : ∀ x ∈ Z, bd 1100000 x) (ha : bd 4000000000 a) :
    xK mB_zoneBy [.ref b] n G 0 0 (qI n G (rN (ixA Z a))) xNo := by
  obtain ⟨u0, u1, u2⟩ := ht
  obtain ⟨a1, a2, a3⟩ := id ha
  have v0 : vp_in (0 : Int32) 3 := in3 (j := 0) (by decide)
  have v1 : vp_in (1 : Int32) 3 := in3 (j := 1) (by decide)
  have v2 : vp_in (2 : Int32) 3 := in3 (j := 2) (by decide)
  have e0 : (0 : Int32).toNatClampNeg = 0 := by decide
  have e1 : (1 : Int32).toNatClampNeg = 1 := by decide
  have e2 : (2 : Int32).toNatClampNeg = 2 := by decide
  have loop : ∀ (m i : Nat), Z.length - i < m → i ≤ Z.length → (∀ j x, j < i → Z[j]? = some x → x ≠ a) → xS mB_zoneBy n 0 0 (qI n G (rN (ixA Z a))) xNo 2 [(0, .ref b), (1, .int (nI i))] [] n G 0 0 := by
    intro m
    induction m with
    | zero => intro i q; exact absurd q (by omega)
    | succ m ih =>
      intro i q1 q2 hno
      refine xs_iload_n dB_zoneBy_2 rfl ?_
      refine xs_aload_n dB_zoneBy_3 rfl ?_
      refine xs_get dB_zoneBy_4 flB_106 (by repeat (first | exact va_up_self _ _ _ | assumption | refine (va_up_ne _ _ (by omega)).trans ?_)) rfl ?_
      refine xs_icmp_ge dB_zoneBy_7 (fun hg => ?_) (fun hg => ?_)
      · have hi := (nI_leI (by omega) (by omega)).mp hg
        have hn : ixA Z a = none := ixA_none (fun hm => by
          obtain ⟨j, hj⟩ := List.getElem?_of_mem hm
          exact hno j a (by have := (List.getElem?_eq_some_iff.mp hj).1; omega) hj rfl)
        refine xs_ldc dB_zoneBy_76 kcB_109 ?_
        exact xs_iret dB_zoneBy_78 rfl rfl (by omega) (by omega) ⟨by rw [hn]; rfl, rfl, rfl⟩
      · have hi : i < Z.length := nI_lt_of (by omega) (by omega) hg
        obtain ⟨x, hx2⟩ : ∃ x, Z[i]? = some x := ⟨_, List.getElem?_eq_getElem hi⟩
        obtain ⟨⟨v3, v4, v5⟩, w3, w4, w5⟩ := ax_get hx hx2 hl
        obtain ⟨x1, x2, x3⟩ := hb x (List.mem_of_getElem? hx2)
        have q5 := iL_eq (x := x.1) (y := a.1) (by omega) (by omega)
        have q6 := iL_eq (x := x.2.1) (y := a.2.1) (by omega) (by omega)
        have q7 := iL_eq (x := x.2.2) (y := a.2.2) (by omega) (by omega)
        have next : x ≠ a → xS mB_zoneBy n 0 0 (qI n G (rN (ixA Z a))) xNo 70 [(0, .ref b), (1, .int (nI i))] [] n G 0 0 := by
          intro hne
          refine xs_iinc (L2 := [(1, _), (0, _)]) dB_zoneBy_70 rfl rfl (by decide) rfl ?_
          refine xs_goto dB_zoneBy_73 ?_
          refine xs_pick (L2 := [(0, _), (1, _)]) [1, 0] rfl ?_
          rw [xii]
          refine ih (i + 1) (by omega) (by omega) (fun j y hj hjy => ?_)
          by_cases hji : j = i
          · subst hji
            cases hx2.symm.trans hjy
            exact hne
          · exact hno j y (by omega) hjy
        refine xs_aload_n dB_zoneBy_10 rfl ?_
        refine xs_get dB_zoneBy_11 flB_39 (by repeat (first | exact va_up_self _ _ _ | assumption | refine (va_up_ne _ _ (by omega)).trans ?_)) rfl ?_
        refine xs_iconst (v := 3) dB_zoneBy_14 (by decide) ?_
        refine xs_iload_n dB_zoneBy_15 rfl ?_
        refine xs_imul dB_zoneBy_16 ?_
        refine xs_lald dB_zoneBy_17 (by repeat (first | exact va_up_self _ _ _ | assumption | refine (va_up_ne _ _ (by omega)).trans ?_)) (by assumption) ?_
        refine xs_aload_n dB_zoneBy_18 rfl ?_
        refine xs_get dB_zoneBy_19 flB_32 (by repeat (first | exact va_up_self _ _ _ | assumption | refine (va_up_ne _ _ (by omega)).trans ?_)) rfl ?_
        refine xs_iconst (v := 0) dB_zoneBy_22 (by decide) ?_
        refine xs_lald dB_zoneBy_23 (by repeat (first | exact va_up_self _ _ _ | assumption | refine (va_up_ne _ _ (by omega)).trans ?_)) (by assumption) ?_
        rw [w3, e0, u0]
        refine xs_lc_ne dB_zoneBy_24 dB_zoneBy_25 (fun h => next (fun e => h (q5.mpr (by rw [e])))) (fun h => ?_)
        have r1 := q5.mp h
        refine xs_aload_n dB_zoneBy_28 rfl ?_
        refine xs_get dB_zoneBy_29 flB_39 (by repeat (first | exact va_up_self _ _ _ | assumption | refine (va_up_ne _ _ (by omega)).trans ?_)) rfl ?_
        refine xs_iconst (v := 3) dB_zoneBy_32 (by decide) ?_
        refine xs_iload_n dB_zoneBy_33 rfl ?_
        refine xs_imul dB_zoneBy_34 ?_
        refine xs_iconst (v := 1) dB_zoneBy_35 (by decide) ?_
        refine xs_iadd dB_zoneBy_36 ?_
        refine xs_lald dB_zoneBy_37 (by repeat (first | exact va_up_self _ _ _ | assumption | refine (va_up_ne _ _ (by omega)).trans ?_)) (by assumption) ?_
        refine xs_aload_n dB_zoneBy_38 rfl ?_
        refine xs_get dB_zoneBy_39 flB_32 (by repeat (first | exact va_up_self _ _ _ | assumption | refine (va_up_ne _ _ (by omega)).trans ?_)) rfl ?_
        refine xs_iconst (v := 1) dB_zoneBy_42 (by decide) ?_
        refine xs_lald dB_zoneBy_43 (by repeat (first | exact va_up_self _ _ _ | assumption | refine (va_up_ne _ _ (by omega)).trans ?_)) (by assumption) ?_
        rw [w4, e1, u1]
        refine xs_lc_ne dB_zoneBy_44 dB_zoneBy_45 (fun h => next (fun e => h (q6.mpr (by rw [e])))) (fun h => ?_)
        have r2 := q6.mp h
        refine xs_aload_n dB_zoneBy_48 rfl ?_
        refine xs_get dB_zoneBy_49 flB_39 (by repeat (first | exact va_up_self _ _ _ | assumption | refine (va_up_ne _ _ (by omega)).trans ?_)) rfl ?_
        refine xs_iconst (v := 3) dB_zoneBy_52 (by decide) ?_
        refine xs_iload_n dB_zoneBy_53 rfl ?_
        refine xs_imul dB_zoneBy_54 ?_
        refine xs_iconst (v := 2) dB_zoneBy_55 (by decide) ?_
        refine xs_iadd dB_zoneBy_56 ?_
        refine xs_lald dB_zoneBy_57 (by repeat (first | exact va_up_self _ _ _ | assumption | refine (va_up_ne _ _ (by omega)).trans ?_)) (by assumption) ?_
        refine xs_aload_n dB_zoneBy_58 rfl ?_
        refine xs_get dB_zoneBy_59 flB_32 (by repeat (first | exact va_up_self _ _ _ | assumption | refine (va_up_ne _ _ (by omega)).trans ?_)) rfl ?_
        refine xs_iconst (v := 2) dB_zoneBy_62 (by decide) ?_
        refine xs_lald dB_zoneBy_63 (by repeat (first | exact va_up_self _ _ _ | assumption | refine (va_up_ne _ _ (by omega)).trans ?_)) (by assumption) ?_
        rw [w5, e2, u2]
        refine xs_lc_ne dB_zoneBy_64 dB_zoneBy_65 (fun h => next (fun e => h (q7.mpr (by rw [e])))) (fun h => ?_)
        have r3 := q7.mp h
        have hxa : x = a := Prod.ext r1 (Prod.ext r2 r3)
        subst hxa
        have hs : ixA Z x = some i := by
          obtain ⟨hk, e⟩ := List.getElem?_eq_some_iff.mp hx2
          refine List.findIdx?_eq_some_iff_getElem.mpr ⟨hk, decide_eq_true e, fun j hj q => ?_⟩
          exact hno j _ hj (List.getElem?_eq_getElem (Nat.lt_trans hj hk)) (of_decide_eq_true q)
        refine xs_iload_n dB_zoneBy_68 rfl ?_
        exact xs_iret dB_zoneBy_69 rfl rfl (by omega) (by omega) ⟨by rw [hs]; rfl, rfl, rfl⟩
  refine xK_of2 (L0 := [(0, _)]) (by decide +kernel) rfl (Nat.le_of_ble_eq_true rfl) rfl ?_
  refine xs_iconst (v := 0) dB_zoneBy_0 (by decide) ?_
  refine xs_istore_n (L2 := [(1, _), (0, _)]) dB_zoneBy_1 (by decide) rfl ?_
  refine xs_pick (L2 := [(0, _), (1, _)]) [1, 0] rfl ?_
  exact loop (Z.length + 1) 0 (by omega) (by omega) (fun j x hj => absurd hj (by omega))
end M3
