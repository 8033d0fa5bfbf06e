abbrev qNo : Option Value → Nat → xG → Prop := fun _ _ _ => False
abbrev xTo (n : Nat) (G : xG) (E0 : String) : String → Nat → xG → Prop := fun E m H => E = E0 ∧ m = n ∧ H = G
abbrev eA : String := "java/lang/IllegalArgumentException"
abbrev eS : String := "java/lang/IllegalStateException"
abbrev eX : String := "java/lang/IndexOutOfBoundsException"
section XT
variable {M : xM} {n0 mc ms : Nat} {Q : Option Value → Nat → xG → Prop} {X : String → Nat → xG → Prop} {pc pc2 : Nat} {L : List (Nat × Value)} {st : List Value} {n : Nat} {G : xG} {k c : Nat}
theorem xs_cS_t {Y : xM} {idx na : Nat} {As rest : List Value} {E0 : String} (d : xD M pc pc2 3 (.invokestatic idx)) (lk : xlS M.1.cls idx Y na) (hK : xK Y As n G 1 6 qNo (xTo n G E0)) (hst : st = As.reverse ++ rest) (hna : As.length = na) (hrm : (rest.map fun v => v.category).sum ≤ 8) (hR : xRmOk Y M) (hh : M.2.2.2.2.2.2 = []) (hk : k + 1 ≤ mc ∧ c + 6 ≤ ms) (hx : X E0 n G) : xS M n0 mc ms Q X pc L st n G k c :=
  xs_callS d lk hK hst hna hrm hR hk (fun _ _ _ h _ => h.elim) (fun _ _ _ h _ => by obtain ⟨rfl, rfl, rfl⟩ := h; exact xs_out hh hk.1 hk.2 hx)
theorem xs_cV_t {Y : xM} {idx na : Nat} {ci : Nat} {b : Nat} {fs : List Value} {As rest : List Value} {E0 : String} (d : xD M pc pc2 3 (.invokevirtual idx)) (lk : xlV M.1.cls idx Y na ci) (hb : G b = .inr (ci, fs)) (hK : xK Y (.ref b :: As) n G 1 6 qNo (xTo n G E0)) (hst : st = As.reverse ++ .ref b :: rest) (hna : As.length = na) (hrm : (rest.map fun v => v.category).sum ≤ 8) (hR : xRmOk Y M) (hh : M.2.2.2.2.2.2 = []) (hk : k + 1 ≤ mc ∧ c + 6 ≤ ms) (hx : X E0 n G) : xS M n0 mc ms Q X pc L st n G k c :=
  xs_callV d lk hb hK hst hna hrm hR hk (fun _ _ _ h _ => h.elim) (fun _ _ _ h _ => by obtain ⟨rfl, rfl, rfl⟩ := h; exact xs_out hh hk.1 hk.2 hx)
end XT
theorem k_A_isWithin {n : Nat} {G : xG} {x lo hi : Int32} : xK mA_isWithin [.int x, .int lo, .int hi] n G 0 0 (qI n G (bI (decide (lo ≤ x ∧ x ≤ hi)))) xNo := by
  refine xK_of2 (L0 := [(0, _), (1, _), (2, _)]) (by decide +kernel) rfl (Nat.le_of_ble_eq_true rfl) rfl ?_
  refine xs_iload_n dA_isWithin_0 rfl ?_
  refine xs_iload_n dA_isWithin_1 rfl ?_
  refine xs_icmp_lt dA_isWithin_2 (fun h2 => ?_) (fun h2 => ?_)
  · refine xs_iconst (v := 0) dA_isWithin_14 (by decide) ?_
    exact xs_iret dA_isWithin_15 rfl rfl (by omega) (by omega) ⟨(by first | exact congrArg (fun q => some (Value.int q)) (bI_f (fun q => Int32.not_lt.mpr q.1 h2)).symm | exact congrArg (fun q => some (Value.int q)) (bI_f (fun q => Int32.not_lt.mpr q.2 h7)).symm | exact congrArg (fun q => some (Value.int q)) (bI_t ⟨Int32.not_lt.mp h2, Int32.not_lt.mp h7⟩).symm), rfl, rfl⟩
  refine xs_iload_n dA_isWithin_5 rfl ?_
  refine xs_iload_n dA_isWithin_6 rfl ?_
  refine xs_icmp_gt dA_isWithin_7 (fun h7 => ?_) (fun h7 => ?_)
  · refine xs_iconst (v := 0) dA_isWithin_14 (by decide) ?_
    exact xs_iret dA_isWithin_15 rfl rfl (by omega) (by omega) ⟨(by first | exact congrArg (fun q => some (Value.int q)) (bI_f (fun q => Int32.not_lt.mpr q.1 h2)).symm | exact congrArg (fun q => some (Value.int q)) (bI_f (fun q => Int32.not_lt.mpr q.2 h7)).symm | exact congrArg (fun q => some (Value.int q)) (bI_t ⟨Int32.not_lt.mp h2, Int32.not_lt.mp h7⟩).symm), rfl, rfl⟩
  refine xs_iconst (v := 1) dA_isWithin_10 (by decide) ?_
  refine xs_goto dA_isWithin_11 ?_
  exact xs_iret dA_isWithin_15 rfl rfl (by omega) (by omega) ⟨(by first | exact congrArg (fun q => some (Value.int q)) (bI_f (fun q => Int32.not_lt.mpr q.1 h2)).symm | exact congrArg (fun q => some (Value.int q)) (bI_f (fun q => Int32.not_lt.mpr q.2 h7)).symm | exact congrArg (fun q => some (Value.int q)) (bI_t ⟨Int32.not_lt.mp h2, Int32.not_lt.mp h7⟩).symm), rfl, rfl⟩
theorem rgI {x : Int32} {lo hi : Int} (hl : lo.natAbs < 1000) (hh : hi.natAbs < 1000) : (iI lo ≤ x ∧ x ≤ iI hi) ↔ (lo ≤ x.toInt ∧ x.toInt ≤ hi) := by
  rw [Int32.le_iff_toInt_le, Int32.le_iff_toInt_le, iI_T (by omega), iI_T (by omega)]
theorem k_A_rr {n : Nat} {G : xG} {x : Int32} {lo hi : Int} (hl : lo.natAbs < 1000) (hh : hi.natAbs < 1000) (h : lo ≤ x.toInt ∧ x.toInt ≤ hi) : xK mA_requireRange [.int x, .int (iI lo), .int (iI hi)] n G 0 0 (qV n G) xNo := by
  refine xK_of2 (L0 := [(0, _), (1, _), (2, _)]) (by decide +kernel) rfl (Nat.le_of_ble_eq_true rfl) rfl ?_
  refine xs_iload_n dA_requireRange_0 rfl ?_
  refine xs_iload_n dA_requireRange_1 rfl ?_
  refine xs_iload_n dA_requireRange_2 rfl ?_
  refine xs_cS_i (As := [_, _, _]) dA_requireRange_3 lkA_330 (k_A_isWithin) rfl rfl (Nat.le_of_ble_eq_true rfl) ⟨by decide, by decide⟩ ⟨by omega, by omega⟩ ?_
  rw [bI_t ((rgI hl hh).mpr h)]
  refine xs_if_ne dA_requireRange_6 (fun _ => ?_) (fun q => absurd q (by decide))
  exact xs_vret dA_requireRange_20 rfl (by omega) (by omega) ⟨rfl, rfl, rfl⟩
theorem k_A_rrx {n : Nat} {G : xG} {x : Int32} {lo hi : Int} (hl : lo.natAbs < 1000) (hh : hi.natAbs < 1000) (h : ¬ (lo ≤ x.toInt ∧ x.toInt ≤ hi)) : xK mA_requireRange [.int x, .int (iI lo), .int (iI hi)] n G 1 6 qNo (xTo n G eA) := by
  refine xK_of2 (L0 := [(0, _), (1, _), (2, _)]) (by decide +kernel) rfl (Nat.le_of_ble_eq_true rfl) rfl ?_
  refine xs_iload_n dA_requireRange_0 rfl ?_
  refine xs_iload_n dA_requireRange_1 rfl ?_
  refine xs_iload_n dA_requireRange_2 rfl ?_
  refine xs_cS_i (As := [_, _, _]) dA_requireRange_3 lkA_330 (k_A_isWithin) rfl rfl (Nat.le_of_ble_eq_true rfl) ⟨by decide, by decide⟩ ⟨by omega, by omega⟩ ?_
  rw [bI_f (fun q => h ((rgI hl hh).mp q))]
  refine xs_if_ne dA_requireRange_6 (fun q => absurd rfl q) (fun _ => ?_)
  exact xs_throwW rfl rfl xtA (List.mem_of_getElem? (i := 0) rfl) dA_requireRange_9 dA_requireRange_12 dA_requireRange_13 dA_requireRange_16 dA_requireRange_19 (Nat.le_of_ble_eq_true rfl) ⟨by decide, by decide⟩ (by omega) (by omega) ⟨rfl, rfl, rfl⟩
theorem wi_iff {b : Nat} {x : Int} : wi b x = true ↔ (-(b : Int) ≤ x ∧ x ≤ b) := by
  unfold wi
  rw [decide_eq_true_iff]
  omega
theorem k_A_rfa {n : Nat} {G : xG} {h k l b : Int32} (hw : wFa h.toInt k.toInt l.toInt b.toInt = true) : xK mA_requireFaceArguments [.int h, .int k, .int l, .int b] n G 0 0 (qV n G) xNo := by
  simp only [wFa, Bool.and_eq_true, wi_iff, decide_eq_true_eq] at hw
  obtain ⟨⟨⟨h1, h2⟩, h3⟩, h4⟩ := hw
  refine xK_of2 (L0 := [(0, _), (1, _), (2, _), (3, _)]) (by decide +kernel) rfl (Nat.le_of_ble_eq_true rfl) rfl ?_
  refine xs_iload_n dA_requireFaceArguments_0 rfl ?_
  refine xs_bipush (v := (-9)) dA_requireFaceArguments_1 (by decide) ?_
  refine xs_bipush (v := 9) dA_requireFaceArguments_3 (by decide) ?_
  refine xs_cS_v (As := [_, _, _]) dA_requireFaceArguments_5 lkA_76 (k_A_rr (lo:=-9) (hi:=9) (by decide) (by decide) h1) rfl rfl (Nat.le_of_ble_eq_true rfl) ⟨by decide, by decide⟩ ⟨by omega, by omega⟩ ?_
  refine xs_iload_n dA_requireFaceArguments_8 rfl ?_
  refine xs_bipush (v := (-9)) dA_requireFaceArguments_9 (by decide) ?_
  refine xs_bipush (v := 9) dA_requireFaceArguments_11 (by decide) ?_
  refine xs_cS_v (As := [_, _, _]) dA_requireFaceArguments_13 lkA_76 (k_A_rr (lo:=-9) (hi:=9) (by decide) (by decide) h2) rfl rfl (Nat.le_of_ble_eq_true rfl) ⟨by decide, by decide⟩ ⟨by omega, by omega⟩ ?_
  refine xs_iload_n dA_requireFaceArguments_16 rfl ?_
  refine xs_bipush (v := (-9)) dA_requireFaceArguments_17 (by decide) ?_
  refine xs_bipush (v := 9) dA_requireFaceArguments_19 (by decide) ?_
  refine xs_cS_v (As := [_, _, _]) dA_requireFaceArguments_21 lkA_76 (k_A_rr (lo:=-9) (hi:=9) (by decide) (by decide) h3) rfl rfl (Nat.le_of_ble_eq_true rfl) ⟨by decide, by decide⟩ ⟨by omega, by omega⟩ ?_
  refine xs_iload_n dA_requireFaceArguments_24 rfl ?_
  refine xs_iconst (v := 0) dA_requireFaceArguments_25 (by decide) ?_
  refine xs_iconst (v := 1) dA_requireFaceArguments_26 (by decide) ?_
  refine xs_cS_v (As := [_, _, _]) dA_requireFaceArguments_27 lkA_76 (k_A_rr (lo:=0) (hi:=1) (by decide) (by decide) h4) rfl rfl (Nat.le_of_ble_eq_true rfl) ⟨by decide, by decide⟩ ⟨by omega, by omega⟩ ?_
  exact xs_vret dA_requireFaceArguments_30 rfl (by omega) (by omega) ⟨rfl, rfl, rfl⟩
theorem k_A_rfax {n : Nat} {G : xG} {h k l b : Int32} (hw : ¬ wFa h.toInt k.toInt l.toInt b.toInt = true) : xK mA_requireFaceArguments [.int h, .int k, .int l, .int b] n G 1 6 qNo (xTo n G eA) := by
  simp only [wFa, Bool.and_eq_true, wi_iff, decide_eq_true_eq] at hw
  refine xK_of2 (L0 := [(0, _), (1, _), (2, _), (3, _)]) (by decide +kernel) rfl (Nat.le_of_ble_eq_true rfl) rfl ?_
  refine xs_iload_n dA_requireFaceArguments_0 rfl ?_
  refine xs_bipush (v := (-9)) dA_requireFaceArguments_1 (by decide) ?_
  refine xs_bipush (v := 9) dA_requireFaceArguments_3 (by decide) ?_
  by_cases h1 : (-9 : Int) ≤ h.toInt ∧ h.toInt ≤ 9
  case neg =>
    exact xs_cS_t (As := [_, _, _]) dA_requireFaceArguments_5 lkA_76 (k_A_rrx (lo:=-9) (hi:=9) (by decide) (by decide) h1) rfl rfl (Nat.le_of_ble_eq_true rfl) ⟨by decide, by decide⟩ rfl ⟨by omega, by omega⟩ ⟨rfl, rfl, rfl⟩
  refine xs_cS_v (As := [_, _, _]) dA_requireFaceArguments_5 lkA_76 (k_A_rr (lo:=-9) (hi:=9) (by decide) (by decide) h1) rfl rfl (Nat.le_of_ble_eq_true rfl) ⟨by decide, by decide⟩ ⟨by omega, by omega⟩ ?_
  refine xs_iload_n dA_requireFaceArguments_8 rfl ?_
  refine xs_bipush (v := (-9)) dA_requireFaceArguments_9 (by decide) ?_
  refine xs_bipush (v := 9) dA_requireFaceArguments_11 (by decide) ?_
  by_cases h2 : (-9 : Int) ≤ k.toInt ∧ k.toInt ≤ 9
  case neg =>
    exact xs_cS_t (As := [_, _, _]) dA_requireFaceArguments_13 lkA_76 (k_A_rrx (lo:=-9) (hi:=9) (by decide) (by decide) h2) rfl rfl (Nat.le_of_ble_eq_true rfl) ⟨by decide, by decide⟩ rfl ⟨by omega, by omega⟩ ⟨rfl, rfl, rfl⟩
  refine xs_cS_v (As := [_, _, _]) dA_requireFaceArguments_13 lkA_76 (k_A_rr (lo:=-9) (hi:=9) (by decide) (by decide) h2) rfl rfl (Nat.le_of_ble_eq_true rfl) ⟨by decide, by decide⟩ ⟨by omega, by omega⟩ ?_
  refine xs_iload_n dA_requireFaceArguments_16 rfl ?_
  refine xs_bipush (v := (-9)) dA_requireFaceArguments_17 (by decide) ?_
  refine xs_bipush (v := 9) dA_requireFaceArguments_19 (by decide) ?_
  by_cases h3 : (-9 : Int) ≤ l.toInt ∧ l.toInt ≤ 9
  case neg =>
    exact xs_cS_t (As := [_, _, _]) dA_requireFaceArguments_21 lkA_76 (k_A_rrx (lo:=-9) (hi:=9) (by decide) (by decide) h3) rfl rfl (Nat.le_of_ble_eq_true rfl) ⟨by decide, by decide⟩ rfl ⟨by omega, by omega⟩ ⟨rfl, rfl, rfl⟩
  refine xs_cS_v (As := [_, _, _]) dA_requireFaceArguments_21 lkA_76 (k_A_rr (lo:=-9) (hi:=9) (by decide) (by decide) h3) rfl rfl (Nat.le_of_ble_eq_true rfl) ⟨by decide, by decide⟩ ⟨by omega, by omega⟩ ?_
  refine xs_iload_n dA_requireFaceArguments_24 rfl ?_
  refine xs_iconst (v := 0) dA_requireFaceArguments_25 (by decide) ?_
  refine xs_iconst (v := 1) dA_requireFaceArguments_26 (by decide) ?_
  have h4 : ¬ ((0 : Int) ≤ b.toInt ∧ b.toInt ≤ 1) := fun q => hw ⟨⟨⟨h1, h2⟩, h3⟩, q⟩
  exact xs_cS_t (As := [_, _, _]) dA_requireFaceArguments_27 lkA_76 (k_A_rrx (lo:=0) (hi:=1) (by decide) (by decide) h4) rfl rfl (Nat.le_of_ble_eq_true rfl) ⟨by decide, by decide⟩ rfl ⟨by omega, by omega⟩ ⟨rfl, rfl, rfl⟩
theorem hasN {V : zV} {x : Int32} (hl : V.1.length ≤ 16) : (∃ i, i < V.1.length ∧ x = nI i) ↔ (0 ≤ x.toInt ∧ x.toInt < V.1.length) := by
  constructor
  · rintro ⟨i, hi, rfl⟩
    rw [iI_nat, iI_T (by omega)]
    omega
  · rintro ⟨h1, h2⟩
    refine ⟨x.toInt.toNat, by omega, ?_⟩
    rw [iI_nat, Int.toNat_of_nonneg h1, iT]
theorem k_A_rF {n a : Nat} {G : xG} {V : zV} {lis : Bool} {x : Int32} {f : zF} (hc : G a = fzc a lis) (hC : cry G (a + 4) V) (h : fAt V.1 x.toInt = some f) : xK mA_requireFace [.ref a, .int x] n G 0 0 (qV n G) xNo := by
  have hcell := cry_cell hC
  obtain ⟨k, hk, hkl, hkf⟩ := fAt_some h
  refine xK_of2 (L0 := [(0, _), (1, _)]) (by decide +kernel) rfl (Nat.le_of_ble_eq_true rfl) rfl ?_
  refine xs_aload_n dA_requireFace_0 rfl ?_
  refine xs_get dA_requireFace_1 flA_19 (by repeat (first | assumption | exact va_up_self _ _ _ | refine (va_up_ne _ _ (by omega)).trans ?_)) rfl ?_
  refine xs_iload_n dA_requireFace_4 rfl ?_
  refine xs_cV_i (As := [_]) dA_requireFace_5 lkA_335 (by repeat (first | assumption | exact va_up_self _ _ _ | refine (va_up_ne _ _ (by omega)).trans ?_)) (k_C_hasFace hC) rfl rfl (Nat.le_of_ble_eq_true rfl) ⟨by decide, by decide⟩ ⟨by omega, by omega⟩ ?_
  rw [bI_t ((hasN hC.1.1).mpr ⟨by omega, by omega⟩)]
  refine xs_if_ne dA_requireFace_8 (fun _ => ?_) (fun q => absurd q (by decide))
  exact xs_vret dA_requireFace_22 rfl (by omega) (by omega) ⟨rfl, rfl, rfl⟩
theorem k_A_rFx {n a : Nat} {G : xG} {V : zV} {lis : Bool} {x : Int32} (hc : G a = fzc a lis) (hC : cry G (a + 4) V) (h : fAt V.1 x.toInt = none) : xK mA_requireFace [.ref a, .int x] n G 1 6 qNo (xTo n G eX) := by
  have hcell := cry_cell hC
  have h9 := fAt_none.mp h
  refine xK_of2 (L0 := [(0, _), (1, _)]) (by decide +kernel) rfl (Nat.le_of_ble_eq_true rfl) rfl ?_
  refine xs_aload_n dA_requireFace_0 rfl ?_
  refine xs_get dA_requireFace_1 flA_19 (by repeat (first | assumption | exact va_up_self _ _ _ | refine (va_up_ne _ _ (by omega)).trans ?_)) rfl ?_
  refine xs_iload_n dA_requireFace_4 rfl ?_
  refine xs_cV_i (As := [_]) dA_requireFace_5 lkA_335 (by repeat (first | assumption | exact va_up_self _ _ _ | refine (va_up_ne _ _ (by omega)).trans ?_)) (k_C_hasFace hC) rfl rfl (Nat.le_of_ble_eq_true rfl) ⟨by decide, by decide⟩ ⟨by omega, by omega⟩ ?_
  rw [bI_f (fun q => h9 ((hasN hC.1.1).mp q))]
  refine xs_if_ne dA_requireFace_8 (fun q => absurd rfl q) (fun _ => ?_)
  exact xs_throwW rfl rfl xtX (List.mem_of_getElem? (i := 4) rfl) dA_requireFace_11 dA_requireFace_14 dA_requireFace_15 dA_requireFace_18 dA_requireFace_21 (Nat.le_of_ble_eq_true rfl) ⟨by decide, by decide⟩ (by omega) (by omega) ⟨rfl, rfl, rfl⟩
theorem i32_lt0 {x : Int32} : x < 0 ↔ x.toInt < 0 := by rw [Int32.lt_iff_toInt_lt]; rfl
theorem i32_ltN {x : Int32} {k : Nat} (hk : k < 1000) : x < nI k ↔ x.toInt < k := by rw [Int32.lt_iff_toInt_lt, iI_nat, iI_T (by omega)]
theorem k_A_rZ {n z cnt : Nat} {G : xG} {x : Int32} {a1 a2 a3 a4 a5 : Value} (hz : G z = .inr (6, [a1, a2, a3, a4, a5, .int (nI cnt)])) (hcn : cnt ≤ 120) (h : 0 ≤ x.toInt ∧ x.toInt < cnt) : xK mA_requireZone [.int x, .ref z] n G 0 0 (qV n G) xNo := by
  refine xK_of2 (L0 := [(0, _), (1, _)]) (by decide +kernel) rfl (Nat.le_of_ble_eq_true rfl) rfl ?_
  refine xs_iload_n dA_requireZone_0 rfl ?_
  refine xs_if_lt dA_requireZone_1 (fun q => absurd (i32_lt0.mp q) (by omega)) (fun _ => ?_)
  refine xs_iload_n dA_requireZone_4 rfl ?_
  refine xs_aload_n dA_requireZone_5 rfl ?_
  refine xs_get dA_requireZone_6 flA_123 (by repeat (first | assumption | exact va_up_self _ _ _ | refine (va_up_ne _ _ (by omega)).trans ?_)) rfl ?_
  refine xs_icmp_lt dA_requireZone_9 (fun _ => ?_) (fun q => absurd ((i32_ltN (by omega)).mpr h.2) q)
  exact xs_vret dA_requireZone_23 rfl (by omega) (by omega) ⟨rfl, rfl, rfl⟩
theorem k_A_rZx {n z cnt : Nat} {G : xG} {x : Int32} {a1 a2 a3 a4 a5 : Value} (hz : G z = .inr (6, [a1, a2, a3, a4, a5, .int (nI cnt)])) (hcn : cnt ≤ 120) (h : ¬ (0 ≤ x.toInt ∧ x.toInt < cnt)) : xK mA_requireZone [.int x, .ref z] n G 1 6 qNo (xTo n G eX) := by
  refine xK_of2 (L0 := [(0, _), (1, _)]) (by decide +kernel) rfl (Nat.le_of_ble_eq_true rfl) rfl ?_
  refine xs_iload_n dA_requireZone_0 rfl ?_
  refine xs_if_lt dA_requireZone_1 (fun q => ?_) (fun q => ?_)
  · exact xs_throwW rfl rfl xtX (List.mem_of_getElem? (i := 6) rfl) dA_requireZone_12 dA_requireZone_15 dA_requireZone_16 dA_requireZone_19 dA_requireZone_22 (Nat.le_of_ble_eq_true rfl) ⟨by decide, by decide⟩ (by omega) (by omega) ⟨rfl, rfl, rfl⟩
  refine xs_iload_n dA_requireZone_4 rfl ?_
  refine xs_aload_n dA_requireZone_5 rfl ?_
  refine xs_get dA_requireZone_6 flA_123 (by repeat (first | assumption | exact va_up_self _ _ _ | refine (va_up_ne _ _ (by omega)).trans ?_)) rfl ?_
  refine xs_icmp_lt dA_requireZone_9 (fun q2 => ?_) (fun _ => ?_)
  · exfalso
    have e1 : ¬ x.toInt < 0 := fun e => q (i32_lt0.mpr e)
    have e2 := (i32_ltN (by omega)).mp q2
    exact h ⟨by omega, e2⟩
  · exact xs_throwW rfl rfl xtX (List.mem_of_getElem? (i := 6) rfl) dA_requireZone_12 dA_requireZone_15 dA_requireZone_16 dA_requireZone_19 dA_requireZone_22 (Nat.le_of_ble_eq_true rfl) ⟨by decide, by decide⟩ (by omega) (by omega) ⟨rfl, rfl, rfl⟩
theorem k_A_rS {n : Nat} {G : xG} {x : Int32} (h : x.toInt = 0 ∨ x.toInt = 1) : xK mA_requireSlot [.int x] n G 0 0 (qV n G) xNo := by
  refine xK_of2 (L0 := [(0, _)]) (by decide +kernel) rfl (Nat.le_of_ble_eq_true rfl) rfl ?_
  refine xs_iload_n dA_requireSlot_0 rfl ?_
  refine xs_if_lt dA_requireSlot_1 (fun q => absurd (i32_lt0.mp q) (by omega)) (fun _ => ?_)
  refine xs_iload_n dA_requireSlot_4 rfl ?_
  refine xs_iconst (v := 2) dA_requireSlot_5 (by decide) ?_
  refine xs_icmp_lt dA_requireSlot_6 (fun _ => ?_) (fun q => absurd ((i32_ltN (k := 2) (by decide)).mpr (by omega)) q)
  exact xs_vret dA_requireSlot_20 rfl (by omega) (by omega) ⟨rfl, rfl, rfl⟩
theorem k_A_rSx {n : Nat} {G : xG} {x : Int32} (h : ¬ (x.toInt = 0 ∨ x.toInt = 1)) : xK mA_requireSlot [.int x] n G 1 6 qNo (xTo n G eX) := by
  refine xK_of2 (L0 := [(0, _)]) (by decide +kernel) rfl (Nat.le_of_ble_eq_true rfl) rfl ?_
  refine xs_iload_n dA_requireSlot_0 rfl ?_
  refine xs_if_lt dA_requireSlot_1 (fun q => ?_) (fun q => ?_)
  · exact xs_throwW rfl rfl xtX (List.mem_of_getElem? (i := 16) rfl) dA_requireSlot_9 dA_requireSlot_12 dA_requireSlot_13 dA_requireSlot_16 dA_requireSlot_19 (Nat.le_of_ble_eq_true rfl) ⟨by decide, by decide⟩ (by omega) (by omega) ⟨rfl, rfl, rfl⟩
  refine xs_iload_n dA_requireSlot_4 rfl ?_
  refine xs_iconst (v := 2) dA_requireSlot_5 (by decide) ?_
  refine xs_icmp_lt dA_requireSlot_6 (fun q2 => ?_) (fun _ => ?_)
  · exfalso
    have e1 : ¬ x.toInt < 0 := fun e => q (i32_lt0.mpr e)
    have e2 := (i32_ltN (k := 2) (by decide)).mp q2
    omega
  · exact xs_throwW rfl rfl xtX (List.mem_of_getElem? (i := 16) rfl) dA_requireSlot_9 dA_requireSlot_12 dA_requireSlot_13 dA_requireSlot_16 dA_requireSlot_19 (Nat.le_of_ble_eq_true rfl) ⟨by decide, by decide⟩ (by omega) (by omega) ⟨rfl, rfl, rfl⟩
