theorem sg3_mod (g : Nat) : sg3 (g % 1000) = sg3 g := by
  have e1 : g % 1000 / 100 % 10 = g / 100 % 10 := by omega
  have e2 : g % 1000 / 10 % 10 = g / 10 % 10 := by omega
  have e3 : g % 1000 % 10 = g % 10 := by omega
  unfold sg3
  rw [e1, e2, e3]
theorem sgd_bd {d : Nat} (h : d < 10) : (sgd d).natAbs < 6 := by
  unfold sgd
  split <;> omega
theorem sg3_bd (g : Nat) : bd 6 (sg3 g) := ⟨sgd_bd (by omega), sgd_bd (by omega), sgd_bd (by omega)⟩
section B2
variable {n a : Nat} {G : xG} {T : List Nat} {V W : zV} {A : List zV} {O : Option zV × Option zV} {lis : Bool}
theorem k_A_signed {d : Nat} (hd : d < 10) : xK mA_signed [.int (nI d)] n G 0 0 (qI n G (iI (sgd d))) xNo := by
  refine xK_of2 (L0 := [(0, _)]) (by decide +kernel) rfl (Nat.le_of_ble_eq_true rfl) rfl ?_
  refine xs_iload_n dA_signed_0 rfl ?_
  refine xs_iconst (v := 4) dA_signed_1 (by decide) ?_
  refine xs_icmp_gt dA_signed_2 (fun h => ?_) (fun h => ?_)
  · have h9 : ¬ d ≤ 4 := fun e => by
      have := (nI_ltI (a := 4) (by decide) (by omega)).mp h
      omega
    refine xs_iload_n dA_signed_9 rfl ?_
    refine xs_bipush (v := 10) dA_signed_10 (by decide) ?_
    refine xs_isub dA_signed_12 ?_
    exact xs_iret dA_signed_13 rfl rfl (by omega) (by omega) ⟨by
      rw [sgd, if_neg h9, iI_nat, show (10 : Int32) = iI 10 from rfl, iI_sub], rfl, rfl⟩
  · have h9 : d ≤ 4 := by
      rcases Nat.lt_or_ge 4 d with e | e
      · exact absurd (nI_lt (a := 4) e (by omega)) h
      · exact e
    refine xs_iload_n dA_signed_5 rfl ?_
    refine xs_goto dA_signed_6 ?_
    exact xs_iret dA_signed_13 rfl rfl (by omega) (by omega) ⟨by rw [sgd, if_pos h9, iI_nat], rfl, rfl⟩
theorem k_A_putSigned {m : Nat} {x y z : Int64} (hm : m < 1000) (hc : G a = fzc a lis) (hs : G (a + 513) = xT x y z) : xK mA_putSigned [.ref a, .int (nI m)] n G 0 0 (qV n (va_up G (a + 513) (xTp (sg3 m)))) xNo := by
  have b1 := sgd_bd (d := m / 100 % 10) (by omega)
  have b2 := sgd_bd (d := m / 10 % 10) (by omega)
  have b3 := sgd_bd (d := m % 10) (by omega)
  refine xK_of2 (L0 := [(0, _), (1, _)]) (by decide +kernel) rfl (Nat.le_of_ble_eq_true rfl) rfl ?_
  refine xs_aload_n dA_putSigned_0 rfl ?_
  refine xs_get dA_putSigned_1 flA_68 (by repeat (first | exact va_up_self _ _ _ | assumption | refine (va_up_ne _ _ (by omega)).trans ?_)) rfl ?_
  refine xs_iload_n dA_putSigned_4 rfl ?_
  refine xs_bipush (v := 100) dA_putSigned_5 (by decide) ?_
  refine xs_idiv dA_putSigned_7 (nI_ne (b:=100) (by decide) (by decide)) ?_
  refine xs_bipush (v := 10) dA_putSigned_8 (by decide) ?_
  refine xs_irem dA_putSigned_10 (nI_ne (b:=10) (by decide) (by decide)) ?_
  rw [show nI m / 100 = nI (m / 100) from nI_div (b := 100) (by omega) (by decide) (by decide), show nI (m / 100) - nI (m / 100) / 10 * 10 = nI (m / 100 % 10) from nI_rem (b := 10) (by omega) (by decide) (by decide)]
  refine xs_cS_i (As := [_]) dA_putSigned_11 lkA_390 (k_A_signed (by omega)) rfl rfl (Nat.le_of_ble_eq_true rfl) ⟨by decide, by decide⟩ ⟨by omega, by omega⟩ ?_
  refine xs_i2l dA_putSigned_14 ?_
  rw [iI_l (by omega)]
  refine xs_iload_n dA_putSigned_15 rfl ?_
  refine xs_bipush (v := 10) dA_putSigned_16 (by decide) ?_
  refine xs_idiv dA_putSigned_18 (nI_ne (b:=10) (by decide) (by decide)) ?_
  refine xs_bipush (v := 10) dA_putSigned_19 (by decide) ?_
  refine xs_irem dA_putSigned_21 (nI_ne (b:=10) (by decide) (by decide)) ?_
  rw [show nI m / 10 = nI (m / 10) from nI_div (b := 10) (by omega) (by decide) (by decide), show nI (m / 10) - nI (m / 10) / 10 * 10 = nI (m / 10 % 10) from nI_rem (b := 10) (by omega) (by decide) (by decide)]
  refine xs_cS_i (As := [_]) dA_putSigned_22 lkA_390 (k_A_signed (by omega)) rfl rfl (Nat.le_of_ble_eq_true rfl) ⟨by decide, by decide⟩ ⟨by omega, by omega⟩ ?_
  refine xs_i2l dA_putSigned_25 ?_
  rw [iI_l (by omega)]
  refine xs_iload_n dA_putSigned_26 rfl ?_
  refine xs_bipush (v := 10) dA_putSigned_27 (by decide) ?_
  refine xs_irem dA_putSigned_29 (nI_ne (b:=10) (by decide) (by decide)) ?_
  rw [show nI m - nI m / 10 * 10 = nI (m % 10) from nI_rem (b := 10) (by omega) (by decide) (by decide)]
  refine xs_cS_i (As := [_]) dA_putSigned_30 lkA_390 (k_A_signed (by omega)) rfl rfl (Nat.le_of_ble_eq_true rfl) ⟨by decide, by decide⟩ ⟨by omega, by omega⟩ ?_
  refine xs_i2l dA_putSigned_33 ?_
  rw [iI_l (by omega)]
  refine xs_cV_v (As := [_, _, _]) dA_putSigned_34 lkA_204 (by repeat (first | exact va_up_self _ _ _ | assumption | refine (va_up_ne _ _ (by omega)).trans ?_)) (k_T_put hs) rfl rfl (Nat.le_of_ble_eq_true rfl) ⟨by decide, by decide⟩ ⟨by omega, by omega⟩ ?_
  exact xs_vret dA_putSigned_37 rfl (by omega) (by omega) ⟨rfl, rfl, rfl⟩
abbrev sPost (n a : Nat) (G : xG) (T : List Nat) (V : zV) (A : List zV) (O : Option zV × Option zV) (lis : Bool) (res : Option zV) : Option Value → Nat → xG → Prop := qIx n (fun r H => r = bI res.isSome ∧ (∃ W2, fzx H a T V W2 A O lis ∧ ∀ U, res = some U → W2 = U) ∧ xfr a (a + 528) G H)
theorem sNo {H : xG} (hx : fzx H a T V W A O lis) (hf : xfr a (a + 528) G H) {res : Option zV} (hr : res = none) : sPost n a G T V A O lis res (some (.int 0)) n H := by
  subst hr
  exact ⟨0, rfl, rfl, rfl, ⟨W, hx, fun U e => by cases e⟩, hf⟩
theorem sYes {H : xG} (hx : fzx H a T V W A O lis) (hf : xfr a (a + 528) G H) {res : Option zV} (hr : res = some W) : sPost n a G T V A O lis res (some (.int 1)) n H := by
  subst hr
  exact ⟨1, rfl, rfl, rfl, ⟨W, hx, fun U e => by cases e; rfl⟩, hf⟩
theorem k_A_addByScript {h m : Nat} (hh : h < 10) (hm : m < 1000) (hx : fzx G a T V W A O lis) : xK mA_addByScript [.ref a, .int (nI h), .int (nI m)] n G 0 0 (sPost n a G T V A O lis (if h ≤ 1 ∧ zwhy W.1 (sg3 m) (h : Int) = 0 then some (zAdd W (dv (sg3 m), (h : Int))) else none)) xNo := by
  obtain ⟨res, hres⟩ : ∃ res, res = (if h ≤ 1 ∧ zwhy W.1 (sg3 m) (h : Int) = 0 then some (zAdd W (dv (sg3 m), (h : Int))) else none) := ⟨_, rfl⟩
  rw [← hres]
  obtain ⟨hc, htx, hpr, htr, hhi, hsa, hiv, hzp, hzt, hfm, hgr, hsc, hs0, hs1⟩ := id hx
  obtain ⟨s1, s2, s3, hsc⟩ := hsc
  have hx1 : fzx (va_up G (a + 513) (xTp (sg3 m))) a T V W A O lis := fzx_scr hx (xfr_up xfr_rf (by omega) (by omega)) ⟨_, _, _, va_up_self _ _ _⟩
  have hf1 : xfr a (a + 528) G (va_up G (a + 513) (xTp (sg3 m))) := xfr_up xfr_rf (by omega) (by omega)
  refine xK_of2 (L0 := [(0, _), (1, _), (2, _)]) (by decide +kernel) rfl (Nat.le_of_ble_eq_true rfl) rfl ?_
  refine xs_aload_n dA_addByScript_0 rfl ?_
  refine xs_iload_n dA_addByScript_1 rfl ?_
  refine xs_cV_v (As := [_]) dA_addByScript_2 lkA_393 (by repeat (first | exact va_up_self _ _ _ | assumption | refine (va_up_ne _ _ (by omega)).trans ?_)) (k_A_putSigned hm hc hsc) rfl rfl (Nat.le_of_ble_eq_true rfl) ⟨by decide, by decide⟩ ⟨by omega, by omega⟩ ?_
  have hself : (va_up G (a + 513) (xTp (sg3 m))) (a + 513) = xTp (sg3 m) := va_up_self _ _ _
  generalize va_up G (a + 513) (xTp (sg3 m)) = H at *
  have hcH := hx1.1
  have htH := hx1.2.2.2.1
  have htc := cry_cell htH
  have hb := sg3_bd m
  refine xs_aload_n dA_addByScript_5 rfl ?_
  refine xs_get dA_addByScript_6 flA_68 (by repeat (first | exact va_up_self _ _ _ | assumption | refine (va_up_ne _ _ (by omega)).trans ?_)) rfl ?_
  refine xs_get dA_addByScript_9 flA_165 (by repeat (first | exact va_up_self _ _ _ | assumption | refine (va_up_ne _ _ (by omega)).trans ?_)) rfl ?_
  refine xs_l2i dA_addByScript_12 ?_
  refine xs_istore_n (L2 := [(3, _), (0, _), (1, _), (2, _)]) dA_addByScript_13 (by decide) rfl ?_
  refine xs_aload_n dA_addByScript_14 rfl ?_
  refine xs_get dA_addByScript_15 flA_68 (by repeat (first | exact va_up_self _ _ _ | assumption | refine (va_up_ne _ _ (by omega)).trans ?_)) rfl ?_
  refine xs_get dA_addByScript_18 flA_169 (by repeat (first | exact va_up_self _ _ _ | assumption | refine (va_up_ne _ _ (by omega)).trans ?_)) rfl ?_
  refine xs_l2i dA_addByScript_21 ?_
  refine xs_istore (L2 := [(4, _), (3, _), (0, _), (1, _), (2, _)]) dA_addByScript_22 (by decide) rfl ?_
  refine xs_aload_n dA_addByScript_24 rfl ?_
  refine xs_get dA_addByScript_25 flA_68 (by repeat (first | exact va_up_self _ _ _ | assumption | refine (va_up_ne _ _ (by omega)).trans ?_)) rfl ?_
  refine xs_get dA_addByScript_28 flA_172 (by repeat (first | exact va_up_self _ _ _ | assumption | refine (va_up_ne _ _ (by omega)).trans ?_)) rfl ?_
  refine xs_l2i dA_addByScript_31 ?_
  refine xs_istore (L2 := [(5, _), (4, _), (3, _), (0, _), (1, _), (2, _)]) dA_addByScript_32 (by decide) rfl ?_
  refine xs_iload_n dA_addByScript_34 rfl ?_
  refine xs_iconst (v := 1) dA_addByScript_35 (by decide) ?_
  rw [iL_i, iL_i, iL_i]
  refine xs_icmp_gt dA_addByScript_36 (fun q => ?_) (fun q => ?_)
  · have h9 : 1 < h := (nI_ltI (a := 1) (by decide) (by omega)).mp q
    refine xs_iconst (v := 0) dA_addByScript_55 (by decide) ?_
    exact xs_iret dA_addByScript_56 rfl rfl (by omega) (by omega) (sNo hx1 hf1 (by rw [hres, if_neg (by omega)]))
  · have h9 : h ≤ 1 := by
      rcases Nat.lt_or_ge 1 h with e | e
      · exact absurd (nI_lt (a := 1) e (by omega)) q
      · exact e
    rw [iI_nat h]
    refine xs_aload_n dA_addByScript_39 rfl ?_
    refine xs_get dA_addByScript_40 flA_23 (by repeat (first | exact va_up_self _ _ _ | assumption | refine (va_up_ne _ _ (by omega)).trans ?_)) rfl ?_
    refine xs_iload_n dA_addByScript_43 rfl ?_
    refine xs_iload dA_addByScript_44 rfl ?_
    refine xs_iload dA_addByScript_46 rfl ?_
    refine xs_iload_n dA_addByScript_48 rfl ?_
    refine xs_cV_ix (As := [_, _, _, _]) dA_addByScript_49 lkA_243 (by repeat (first | exact va_up_self _ _ _ | assumption | refine (va_up_ne _ _ (by omega)).trans ?_)) (k_C_refusalOf (h:=(sg3 m).1) (k:=(sg3 m).2.1) (l:=(sg3 m).2.2) (s:=(h : Int)) htH (bd_mono hb (by decide)) (by omega)) rfl rfl (Nat.le_of_ble_eq_true rfl) ⟨by decide, by decide⟩ ⟨by omega, by omega⟩ ?_
    intro r H2 ⟨q1, q2, q3⟩
    have hx2 := fzx_tri hx1 q3 q2
    have hc2 := hx2.1
    have htc2 := cry_cell q2
    have hf2 : xfr a (a + 528) G H2 := xfr_tr hf1 (xfr_mono q3 (by omega) (by omega))
    have hzl := zwhy_le (fs := W.1) (p := sg3 m) (s := (h : Int))
    rw [show (((sg3 m).1, (sg3 m).2.1, (sg3 m).2.2) : P3) = sg3 m from rfl] at q1
    subst q1
    refine xs_if_eq dA_addByScript_52 (fun e => ?_) (fun e => ?_)
    · have h0 : zwhy W.1 (sg3 m) (h : Int) = 0 := (nI_eq (b := 0) (by omega) (by decide)).mp e
      obtain ⟨e1, e2, e3⟩ := zwhy_0i h0
      refine xs_aload_n dA_addByScript_57 rfl ?_
      refine xs_get dA_addByScript_58 flA_23 (by repeat (first | exact va_up_self _ _ _ | assumption | refine (va_up_ne _ _ (by omega)).trans ?_)) rfl ?_
      refine xs_iload_n dA_addByScript_61 rfl ?_
      refine xs_iload dA_addByScript_62 rfl ?_
      refine xs_iload dA_addByScript_64 rfl ?_
      refine xs_iload_n dA_addByScript_66 rfl ?_
      refine xs_cV_vx (As := [_, _, _, _]) dA_addByScript_67 lkA_254 (by repeat (first | exact va_up_self _ _ _ | assumption | refine (va_up_ne _ _ (by omega)).trans ?_)) (k_C_insert (h:=(sg3 m).1) (k:=(sg3 m).2.1) (l:=(sg3 m).2.2) (s:=(h : Int)) q2 (bd_mono hb (by decide)) (by omega) e1 e3) rfl rfl (Nat.le_of_ble_eq_true rfl) ⟨by decide, by decide⟩ ⟨by omega, by omega⟩ ?_
      intro H3 ⟨q4, q5⟩
      refine xs_iconst (v := 1) dA_addByScript_70 (by decide) ?_
      exact xs_iret dA_addByScript_71 rfl rfl (by omega) (by omega) (sYes (fzx_tri hx2 q5 q4) (xfr_tr hf2 (xfr_mono q5 (by omega) (by omega))) (by rw [hres, if_pos ⟨h9, h0⟩]))
    · have h0 : ¬ zwhy W.1 (sg3 m) (h : Int) = 0 := fun e2 => e (by rw [e2]; rfl)
      refine xs_iconst (v := 0) dA_addByScript_55 (by decide) ?_
      exact xs_iret dA_addByScript_56 rfl rfl (by omega) (by omega) (sNo hx2 hf2 (by rw [hres, if_neg (fun q => h0 q.2)]))
theorem hasM {V : zV} {m : Nat} (hl : V.1.length ≤ 16) (hm : m < 100000) : (∃ i, i < V.1.length ∧ nI m = nI i) ↔ m < V.1.length := by
  rw [hasN hl, iI_nat, iI_T (by omega)]
  omega
theorem k_A_removeByScript {m : Nat} (hm : m < 10000) (hx : fzx G a T V W A O lis) : xK mA_removeByScript [.ref a, .int (nI m)] n G 0 0 (sPost n a G T V A O lis (if m < W.1.length then some (zDrop W m) else none)) xNo := by
  obtain ⟨hc, htx, hpr, htr, hhi, hsa, hiv, hzp, hzt, hfm, hgr, hsc, hs0, hs1⟩ := id hx
  have htc := cry_cell htr
  refine xK_of2 (L0 := [(0, _), (1, _)]) (by decide +kernel) rfl (Nat.le_of_ble_eq_true rfl) rfl ?_
  refine xs_aload_n dA_removeByScript_0 rfl ?_
  refine xs_get dA_removeByScript_1 flA_23 (by repeat (first | exact va_up_self _ _ _ | assumption | refine (va_up_ne _ _ (by omega)).trans ?_)) rfl ?_
  refine xs_iload_n dA_removeByScript_4 rfl ?_
  refine xs_cV_i (As := [_]) dA_removeByScript_5 lkA_335 (by repeat (first | exact va_up_self _ _ _ | assumption | refine (va_up_ne _ _ (by omega)).trans ?_)) (k_C_hasFace htr) rfl rfl (Nat.le_of_ble_eq_true rfl) ⟨by decide, by decide⟩ ⟨by omega, by omega⟩ ?_
  by_cases h : m < W.1.length
  · rw [bI_t ((hasM htr.1.1 (by omega)).mpr h), if_pos h]
    refine xs_if_ne dA_removeByScript_8 (fun _ => ?_) (fun q => absurd q (by decide))
    refine xs_aload_n dA_removeByScript_13 rfl ?_
    refine xs_get dA_removeByScript_14 flA_23 (by repeat (first | exact va_up_self _ _ _ | assumption | refine (va_up_ne _ _ (by omega)).trans ?_)) rfl ?_
    refine xs_iload_n dA_removeByScript_17 rfl ?_
    refine xs_cV_vx (As := [_]) dA_removeByScript_18 lkA_273 (by repeat (first | exact va_up_self _ _ _ | assumption | refine (va_up_ne _ _ (by omega)).trans ?_)) (k_C_dropAt htr h) rfl rfl (Nat.le_of_ble_eq_true rfl) ⟨by decide, by decide⟩ ⟨by omega, by omega⟩ ?_
    intro H ⟨q1, q2⟩
    refine xs_iconst (v := 1) dA_removeByScript_21 (by decide) ?_
    exact xs_iret dA_removeByScript_22 rfl rfl (by omega) (by omega) (sYes (fzx_tri hx q2 q1) (xfr_mono q2 (by omega) (by omega)) rfl)
  · rw [bI_f (fun q => h ((hasM htr.1.1 (by omega)).mp q)), if_neg h]
    refine xs_if_ne dA_removeByScript_8 (fun q => absurd rfl q) (fun _ => ?_)
    refine xs_iconst (v := 0) dA_removeByScript_11 (by decide) ?_
    exact xs_iret dA_removeByScript_12 rfl rfl (by omega) (by omega) (sNo hx xfr_rf rfl)
theorem k_A_setSystemByScript {m : Nat} (hm : m < 10000) (hx : fzx G a T V W A O lis) : xK mA_setSystemByScript [.ref a, .int (nI m)] n G 0 0 (sPost n a G T V A O lis (if m ≤ 4 then some (W.1, (m : Int), W.2.2) else none)) xNo := by
  obtain ⟨hc, htx, hpr, htr, hhi, hsa, hiv, hzp, hzt, hfm, hgr, hsc, hs0, hs1⟩ := id hx
  have htc := cry_cell htr
  refine xK_of2 (L0 := [(0, _), (1, _)]) (by decide +kernel) rfl (Nat.le_of_ble_eq_true rfl) rfl ?_
  refine xs_iload_n dA_setSystemByScript_0 rfl ?_
  refine xs_iconst (v := 4) dA_setSystemByScript_1 (by decide) ?_
  refine xs_icmp_le dA_setSystemByScript_2 (fun q => ?_) (fun q => ?_)
  · have h : m ≤ 4 := (nI_leI (b := 4) (by omega) (by decide)).mp q
    rw [if_pos h, iI_nat]
    have h9 : cry (va_up G (a + 11) (oC (a + 11) (W.1, (m : Int), W.2.2))) (a + 11) (W.1, (m : Int), W.2.2) := cry_sys htr (by omega)
    refine xs_aload_n dA_setSystemByScript_7 rfl ?_
    refine xs_get dA_setSystemByScript_8 flA_23 (by repeat (first | exact va_up_self _ _ _ | assumption | refine (va_up_ne _ _ (by omega)).trans ?_)) rfl ?_
    refine xs_iload_n dA_setSystemByScript_11 rfl ?_
    refine xs_put dA_setSystemByScript_12 flA_113 ft0_5 (by repeat (first | exact va_up_self _ _ _ | assumption | refine (va_up_ne _ _ (by omega)).trans ?_)) (fun _ => rfl) (fun _ => rfl) (by simp) ?_
    refine xs_iconst (v := 1) dA_setSystemByScript_15 (by decide) ?_
    exact xs_iret dA_setSystemByScript_16 rfl rfl (by omega) (by omega) (sYes (fzx_tri hx (xfr_up xfr_rf (by omega) (by omega)) h9) (xfr_up xfr_rf (by omega) (by omega)) rfl)
  · have h : ¬ m ≤ 4 := fun e => q (nI_le e (by decide))
    rw [if_neg h]
    refine xs_iconst (v := 0) dA_setSystemByScript_5 (by decide) ?_
    exact xs_iret dA_setSystemByScript_6 rfl rfl (by omega) (by omega) (sNo hx xfr_rf rfl)
theorem k_A_addFormByScript {m : Nat} (hm : m < 10000) (hx : fzx G a T V W A O lis) : xK mA_addFormByScript [.ref a, .int (nI m)] n G 0 0 (sPost n a G T V A O lis (match W.1[m]? with
    | none => none
    | some f => if 16 < W.1.length + (zMis W f).length then none else some (zFrm W f))) xNo := by
  obtain ⟨hc, htx, hpr, htr, hhi, hsa, hiv, hzp, hzt, hfm, hgr, hsc, hs0, hs1⟩ := id hx
  have htc := cry_cell htr
  refine xK_of2 (L0 := [(0, _), (1, _)]) (by decide +kernel) rfl (Nat.le_of_ble_eq_true rfl) rfl ?_
  refine xs_aload_n dA_addFormByScript_0 rfl ?_
  refine xs_get dA_addFormByScript_1 flA_23 (by repeat (first | exact va_up_self _ _ _ | assumption | refine (va_up_ne _ _ (by omega)).trans ?_)) rfl ?_
  refine xs_iload_n dA_addFormByScript_4 rfl ?_
  refine xs_cV_i (As := [_]) dA_addFormByScript_5 lkA_335 (by repeat (first | exact va_up_self _ _ _ | assumption | refine (va_up_ne _ _ (by omega)).trans ?_)) (k_C_hasFace htr) rfl rfl (Nat.le_of_ble_eq_true rfl) ⟨by decide, by decide⟩ ⟨by omega, by omega⟩ ?_
  cases hf : W.1[m]? with
  | none =>
    have h : ¬ m < W.1.length := by
      have := List.getElem?_eq_none_iff.mp hf
      omega
    rw [bI_f (fun q => h ((hasM htr.1.1 (by omega)).mp q))]
    refine xs_if_eq dA_addFormByScript_8 (fun _ => ?_) (fun q => absurd rfl q)
    refine xs_iconst (v := 0) dA_addFormByScript_33 (by decide) ?_
    exact xs_iret dA_addFormByScript_34 rfl rfl (by omega) (by omega) (sNo hx xfr_rf rfl)
  | some f =>
    have h := (List.getElem?_eq_some_iff.mp hf).1
    rw [bI_t ((hasM htr.1.1 (by omega)).mpr h)]
    obtain ⟨N, F, b, c, hfm⟩ := hfm
    refine xs_if_eq dA_addFormByScript_8 (fun q => absurd q (by decide)) (fun _ => ?_)
    refine xs_aload_n dA_addFormByScript_11 rfl ?_
    refine xs_get dA_addFormByScript_12 flA_23 (by repeat (first | exact va_up_self _ _ _ | assumption | refine (va_up_ne _ _ (by omega)).trans ?_)) rfl ?_
    refine xs_get dA_addFormByScript_15 flA_106 (by repeat (first | exact va_up_self _ _ _ | assumption | refine (va_up_ne _ _ (by omega)).trans ?_)) rfl ?_
    refine xs_aload_n dA_addFormByScript_18 rfl ?_
    refine xs_aload_n dA_addFormByScript_19 rfl ?_
    refine xs_get dA_addFormByScript_20 flA_23 (by repeat (first | exact va_up_self _ _ _ | assumption | refine (va_up_ne _ _ (by omega)).trans ?_)) rfl ?_
    refine xs_iload_n dA_addFormByScript_23 rfl ?_
    refine xs_cV_ix (As := [_, _]) dA_addFormByScript_24 lkA_257 (by repeat (first | exact va_up_self _ _ _ | assumption | refine (va_up_ne _ _ (by omega)).trans ?_)) (k_A_countMissing hc hfm htr hf ⟨by omega, by omega⟩) rfl rfl (Nat.le_of_ble_eq_true rfl) ⟨by decide, by decide⟩ ⟨by omega, by omega⟩ ?_
    intro r H ⟨h1, h2, h3⟩
    subst h1
    have hx2 : fzx H a T V W A O lis := fzx_frm hx h3 h2
    have hf2 : xfr a (a + 528) G H := xfr_mono h3 (by omega) (by omega)
    have hc2 := hx2.1
    have htr2 := hx2.2.2.2.1
    have htc2 := cry_cell htr2
    have hml : (zMis W f).length ≤ 48 := Nat.le_trans (List.length_filter_le _ _) (frm_le _ _)
    have hN := htr.1.1
    refine xs_iadd dA_addFormByScript_27 ?_
    rw [nI_add2]
    refine xs_bipush (v := 16) dA_addFormByScript_28 (by decide) ?_
    refine xs_icmp_le dA_addFormByScript_30 (fun q => ?_) (fun q => ?_)
    · have hle : W.1.length + (zMis W f).length ≤ 16 := (nI_leI (b := 16) (by omega) (by decide)).mp q
      simp only [if_neg (show ¬ 16 < W.1.length + (zMis W f).length by omega)]
      obtain ⟨N3, F3, b3, c3, hfm3⟩ := hx2.2.2.2.2.2.2.2.2.2.1
      refine xs_aload_n dA_addFormByScript_35 rfl ?_
      refine xs_aload_n dA_addFormByScript_36 rfl ?_
      refine xs_get dA_addFormByScript_37 flA_23 (by repeat (first | exact va_up_self _ _ _ | assumption | refine (va_up_ne _ _ (by omega)).trans ?_)) rfl ?_
      refine xs_iload_n dA_addFormByScript_40 rfl ?_
      refine xs_cV_vx (As := [_, _]) dA_addFormByScript_41 lkA_263 (by repeat (first | exact va_up_self _ _ _ | assumption | refine (va_up_ne _ _ (by omega)).trans ?_)) (k_A_insertForm hc2 hfm3 htr2 hf ⟨by omega, by omega⟩ hle) rfl rfl (Nat.le_of_ble_eq_true rfl) ⟨by decide, by decide⟩ ⟨by omega, by omega⟩ ?_
      intro H4 ⟨h4, h5, h6⟩
      refine xs_iconst (v := 1) dA_addFormByScript_44 (by decide) ?_
      exact xs_iret dA_addFormByScript_45 rfl rfl (by omega) (by omega) (sYes (fzx_tf hx2 h6 h4 h5) (xfr_tr hf2 (fun k hk => h6 k (by omega) (by omega))) rfl)
    · have hgt : 16 < W.1.length + (zMis W f).length := by
        rcases Nat.lt_or_ge 16 (W.1.length + (zMis W f).length) with e | e
        · exact e
        · exact absurd (nI_le e (by decide)) q
      simp only [if_pos hgt]
      refine xs_iconst (v := 0) dA_addFormByScript_33 (by decide) ?_
      exact xs_iret dA_addFormByScript_34 rfl rfl (by omega) (by omega) (sNo hx2 hf2 rfl)
theorem k_A_setTwinByScript {m : Nat} (hm : m < 1000) (hx : fzx G a T V W A O lis) : xK mA_setTwinByScript [.ref a, .int (nI m)] n G 0 0 (sPost n a G T V A O lis (if wPl (sg3 m).1 (sg3 m).2.1 (sg3 m).2.2 = true then some (zAim W (sg3 m)) else none)) xNo := by
  obtain ⟨hc, htx, hpr, htr, hhi, hsa, hiv, hzp, hzt, hfm, hgr, hsc, hs0, hs1⟩ := id hx
  obtain ⟨s1, s2, s3, hsc⟩ := hsc
  have hx1 : fzx (va_up G (a + 513) (xTp (sg3 m))) a T V W A O lis := fzx_scr hx (xfr_up xfr_rf (by omega) (by omega)) ⟨_, _, _, va_up_self _ _ _⟩
  have hf1 : xfr a (a + 528) G (va_up G (a + 513) (xTp (sg3 m))) := xfr_up xfr_rf (by omega) (by omega)
  refine xK_of2 (L0 := [(0, _), (1, _)]) (by decide +kernel) rfl (Nat.le_of_ble_eq_true rfl) rfl ?_
  refine xs_aload_n dA_setTwinByScript_0 rfl ?_
  refine xs_iload_n dA_setTwinByScript_1 rfl ?_
  refine xs_cV_v (As := [_]) dA_setTwinByScript_2 lkA_393 (by repeat (first | exact va_up_self _ _ _ | assumption | refine (va_up_ne _ _ (by omega)).trans ?_)) (k_A_putSigned hm hc hsc) rfl rfl (Nat.le_of_ble_eq_true rfl) ⟨by decide, by decide⟩ ⟨by omega, by omega⟩ ?_
  have hself : (va_up G (a + 513) (xTp (sg3 m))) (a + 513) = xTp (sg3 m) := va_up_self _ _ _
  generalize va_up G (a + 513) (xTp (sg3 m)) = H at *
  have hcH := hx1.1
  have htH := hx1.2.2.2.1
  have htc := cry_cell htH
  have hb := sg3_bd m
  have b1 := hb.1
  have b2 := hb.2.1
  have b3 := hb.2.2
  refine xs_aload_n dA_setTwinByScript_5 rfl ?_
  refine xs_get dA_setTwinByScript_6 flA_68 (by repeat (first | exact va_up_self _ _ _ | assumption | refine (va_up_ne _ _ (by omega)).trans ?_)) rfl ?_
  refine xs_get dA_setTwinByScript_9 flA_165 (by repeat (first | exact va_up_self _ _ _ | assumption | refine (va_up_ne _ _ (by omega)).trans ?_)) rfl ?_
  refine xs_l2i dA_setTwinByScript_12 ?_
  refine xs_istore_n (L2 := [(2, _), (0, _), (1, _)]) dA_setTwinByScript_13 (by decide) rfl ?_
  refine xs_aload_n dA_setTwinByScript_14 rfl ?_
  refine xs_get dA_setTwinByScript_15 flA_68 (by repeat (first | exact va_up_self _ _ _ | assumption | refine (va_up_ne _ _ (by omega)).trans ?_)) rfl ?_
  refine xs_get dA_setTwinByScript_18 flA_169 (by repeat (first | exact va_up_self _ _ _ | assumption | refine (va_up_ne _ _ (by omega)).trans ?_)) rfl ?_
  refine xs_l2i dA_setTwinByScript_21 ?_
  refine xs_istore_n (L2 := [(3, _), (2, _), (0, _), (1, _)]) dA_setTwinByScript_22 (by decide) rfl ?_
  refine xs_aload_n dA_setTwinByScript_23 rfl ?_
  refine xs_get dA_setTwinByScript_24 flA_68 (by repeat (first | exact va_up_self _ _ _ | assumption | refine (va_up_ne _ _ (by omega)).trans ?_)) rfl ?_
  refine xs_get dA_setTwinByScript_27 flA_172 (by repeat (first | exact va_up_self _ _ _ | assumption | refine (va_up_ne _ _ (by omega)).trans ?_)) rfl ?_
  refine xs_l2i dA_setTwinByScript_30 ?_
  refine xs_istore (L2 := [(4, _), (3, _), (2, _), (0, _), (1, _)]) dA_setTwinByScript_31 (by decide) rfl ?_
  refine xs_iload_n dA_setTwinByScript_33 rfl ?_
  refine xs_iload_n dA_setTwinByScript_34 rfl ?_
  refine xs_iload dA_setTwinByScript_35 rfl ?_
  rw [iL_i, iL_i, iL_i]
  refine xs_cS_i (As := [_, _, _]) dA_setTwinByScript_37 lkA_276 (k_A_isTwinPlane) rfl rfl (Nat.le_of_ble_eq_true rfl) ⟨by decide, by decide⟩ ⟨by omega, by omega⟩ ?_
  rw [iI_T (by omega), iI_T (by omega), iI_T (by omega)]
  refine xs_if_ne dA_setTwinByScript_40 (fun q => ?_) (fun q => ?_)
  · have hw := (bI_1n _).mp q
    rw [if_pos hw]
    obtain ⟨hb4, hne⟩ := wPl_b hw
    refine xs_aload_n dA_setTwinByScript_45 rfl ?_
    refine xs_get dA_setTwinByScript_46 flA_23 (by repeat (first | exact va_up_self _ _ _ | assumption | refine (va_up_ne _ _ (by omega)).trans ?_)) rfl ?_
    refine xs_iload_n dA_setTwinByScript_49 rfl ?_
    refine xs_iload_n dA_setTwinByScript_50 rfl ?_
    refine xs_iload dA_setTwinByScript_51 rfl ?_
    refine xs_cV_vx (As := [_, _, _]) dA_setTwinByScript_53 lkA_282 (by repeat (first | exact va_up_self _ _ _ | assumption | refine (va_up_ne _ _ (by omega)).trans ?_)) (k_C_aimTwin (h:=(sg3 m).1) (k:=(sg3 m).2.1) (l:=(sg3 m).2.2) htH hb4 hne) rfl rfl (Nat.le_of_ble_eq_true rfl) ⟨by decide, by decide⟩ ⟨by omega, by omega⟩ ?_
    intro H3 ⟨q4, q5⟩
    refine xs_iconst (v := 1) dA_setTwinByScript_56 (by decide) ?_
    exact xs_iret dA_setTwinByScript_57 rfl rfl (by omega) (by omega) (sYes (fzx_tri hx1 q5 q4) (xfr_tr hf1 (xfr_mono q5 (by omega) (by omega))) rfl)
  · have hw : ¬ wPl (sg3 m).1 (sg3 m).2.1 (sg3 m).2.2 = true := by rw [(bI_0 _).mp q]; decide
    rw [if_neg hw]
    refine xs_iconst (v := 0) dA_setTwinByScript_43 (by decide) ?_
    exact xs_iret dA_setTwinByScript_44 rfl rfl (by omega) (by omega) (sNo hx1 hf1 rfl)
theorem k_A_hasInZone {h m : Nat} (hh : h < 10) (hm : m < 1000) (hx : fzx G a T V W A O lis) : xK mA_hasInZone [.ref a, .int (nI h), .int (nI m)] n G 0 0 (sPost n a G T V A O lis (if sg3 m ≠ (0, 0, 0) ∧ h ≤ pc (mem (zDirs W) (sg3 m)) then some W else none)) xNo := by
  obtain ⟨hc, htx, hpr, htr, hhi, hsa, hiv, hzp, hzt, hfm, hgr, hsc, hs0, hs1⟩ := id hx
  obtain ⟨s1, s2, s3, hsc⟩ := hsc
  have hx1 : fzx (va_up G (a + 513) (xTp (sg3 m))) a T V W A O lis := fzx_scr hx (xfr_up xfr_rf (by omega) (by omega)) ⟨_, _, _, va_up_self _ _ _⟩
  have hf1 : xfr a (a + 528) G (va_up G (a + 513) (xTp (sg3 m))) := xfr_up xfr_rf (by omega) (by omega)
  refine xK_of2 (L0 := [(0, _), (1, _), (2, _)]) (by decide +kernel) rfl (Nat.le_of_ble_eq_true rfl) rfl ?_
  refine xs_aload_n dA_hasInZone_0 rfl ?_
  refine xs_iload_n dA_hasInZone_1 rfl ?_
  refine xs_cV_v (As := [_]) dA_hasInZone_2 lkA_393 (by repeat (first | exact va_up_self _ _ _ | assumption | refine (va_up_ne _ _ (by omega)).trans ?_)) (k_A_putSigned hm hc hsc) rfl rfl (Nat.le_of_ble_eq_true rfl) ⟨by decide, by decide⟩ ⟨by omega, by omega⟩ ?_
  have hself : (va_up G (a + 513) (xTp (sg3 m))) (a + 513) = xTp (sg3 m) := va_up_self _ _ _
  generalize va_up G (a + 513) (xTp (sg3 m)) = H at *
  have hcH := hx1.1
  have htH := hx1.2.2.2.1
  have htc := cry_cell htH
  obtain ⟨fd, fa, pa, ms, cv, fcs, cnt, hzt⟩ := hx1.2.2.2.2.2.2.2.2.1
  have hzc := zlo_cell hzt
  have hb := sg3_bd m
  refine xs_aload_n dA_hasInZone_5 rfl ?_
  refine xs_get dA_hasInZone_6 flA_68 (by repeat (first | exact va_up_self _ _ _ | assumption | refine (va_up_ne _ _ (by omega)).trans ?_)) rfl ?_
  refine xs_cV_i (As := []) dA_hasInZone_9 lkA_207 (by repeat (first | exact va_up_self _ _ _ | assumption | refine (va_up_ne _ _ (by omega)).trans ?_)) (k_T_isZero hself) rfl rfl (Nat.le_of_ble_eq_true rfl) ⟨by decide, by decide⟩ ⟨by omega, by omega⟩ ?_
  have hz0 : decide (iL (sg3 m).1 = 0 ∧ iL (sg3 m).2.1 = 0 ∧ iL (sg3 m).2.2 = 0) = decide (sg3 m = (0, 0, 0)) := iz0 (bd_mono hb (by decide))
  rw [hz0]
  refine xs_if_eq dA_hasInZone_12 (fun q => ?_) (fun q => ?_)
  · have h9 : sg3 m ≠ (0, 0, 0) := of_decide_eq_false ((bI_0 _).mp q)
    refine xs_aload_n dA_hasInZone_17 rfl ?_
    refine xs_get dA_hasInZone_18 flA_48 (by repeat (first | exact va_up_self _ _ _ | assumption | refine (va_up_ne _ _ (by omega)).trans ?_)) rfl ?_
    refine xs_aload_n dA_hasInZone_21 rfl ?_
    refine xs_get dA_hasInZone_22 flA_23 (by repeat (first | exact va_up_self _ _ _ | assumption | refine (va_up_ne _ _ (by omega)).trans ?_)) rfl ?_
    refine xs_cV_vx (As := [_]) dA_hasInZone_25 lkA_396 (by repeat (first | exact va_up_self _ _ _ | assumption | refine (va_up_ne _ _ (by omega)).trans ?_)) (k_Z_aim hzt htH (by omega)) rfl rfl (Nat.le_of_ble_eq_true rfl) ⟨by decide, by decide⟩ ⟨by omega, by omega⟩ ?_
    intro H2 ⟨q1, q2, q3⟩
    have hx2 := fzx_ztr hx1 q3 ⟨_, _, _, _, _, _, _, q1⟩
    have hf2 : xfr a (a + 528) G H2 := xfr_tr hf1 (xfr_mono q3 (by omega) (by omega))
    have hc2 := hx2.1
    have hsH : H2 (a + 513) = xTp (sg3 m) := by rw [q3 _ (by omega)]; exact hself
    have hzc2 := zlo_cell q1
    have hdl : (zDirs W).length = W.1.length := List.length_map _
    rw [← hdl] at q1
    have hlt := mem_lt (zDirs W) (sg3 m) (zDirs_ok htH.1).1
    have hpc := pc_le (mem (zDirs W) (sg3 m))
    refine xs_aload_n dA_hasInZone_28 rfl ?_
    refine xs_get dA_hasInZone_29 flA_48 (by repeat (first | exact va_up_self _ _ _ | assumption | refine (va_up_ne _ _ (by omega)).trans ?_)) rfl ?_
    refine xs_aload_n dA_hasInZone_32 rfl ?_
    refine xs_get dA_hasInZone_33 flA_68 (by repeat (first | exact va_up_self _ _ _ | assumption | refine (va_up_ne _ _ (by omega)).trans ?_)) rfl ?_
    refine xs_cV_i (As := [_]) dA_hasInZone_36 lkA_211 (by repeat (first | exact va_up_self _ _ _ | assumption | refine (va_up_ne _ _ (by omega)).trans ?_)) (k_Z_membersOf q1 q2 (zDirs_ok htH.1) hsH (bd_mono hb (by decide))) rfl rfl (Nat.le_of_ble_eq_true rfl) ⟨by decide, by decide⟩ ⟨by omega, by omega⟩ ?_
    refine xs_cS_i (As := [_]) dA_hasInZone_39 lkA_193 (k_I_bitCount hlt) rfl rfl (Nat.le_of_ble_eq_true rfl) ⟨by decide, by decide⟩ ⟨by omega, by omega⟩ ?_
    refine xs_iload_n dA_hasInZone_42 rfl ?_
    refine xs_icmp_lt dA_hasInZone_43 (fun q => ?_) (fun q => ?_)
    · have h8 := (nI_ltI (by omega) (by omega)).mp q
      rw [if_neg (fun e => by have := e.2; omega)]
      refine xs_iconst (v := 0) dA_hasInZone_50 (by decide) ?_
      exact xs_iret dA_hasInZone_51 rfl rfl (by omega) (by omega) (sNo hx2 hf2 rfl)
    · have h8 : h ≤ pc (mem (zDirs W) (sg3 m)) := by
        rcases Nat.lt_or_ge (pc (mem (zDirs W) (sg3 m))) h with e | e
        · exact absurd (nI_lt e (by omega)) q
        · exact e
      rw [if_pos ⟨h9, h8⟩]
      refine xs_iconst (v := 1) dA_hasInZone_46 (by decide) ?_
      refine xs_goto dA_hasInZone_47 ?_
      exact xs_iret dA_hasInZone_51 rfl rfl (by omega) (by omega) (sYes hx2 hf2 rfl)
  · have h9 : sg3 m = (0, 0, 0) := of_decide_eq_true ((bI_1n _).mp q)
    rw [if_neg (fun e => e.1 h9)]
    refine xs_iconst (v := 0) dA_hasInZone_15 (by decide) ?_
    exact xs_iret dA_hasInZone_16 rfl rfl (by omega) (by omega) (sNo hx1 hf1 rfl)
theorem k_A_hasZones {m : Nat} (hm : m < 1000) (hx : fzx G a T V W A O lis) : xK mA_hasZones [.ref a, .int (nI m)] n G 0 0 (sPost n a G T V A O lis (if m ≤ zcn W then some W else none)) xNo := by
  obtain ⟨hc, htx, hpr, htr, hhi, hsa, hiv, hzp, hzt, hfm, hgr, hsc, hs0, hs1⟩ := id hx
  obtain ⟨fd, fa, pa, ms, cv, fcs, cnt, hzt⟩ := hzt
  have hzc := zlo_cell hzt
  refine xK_of2 (L0 := [(0, _), (1, _)]) (by decide +kernel) rfl (Nat.le_of_ble_eq_true rfl) rfl ?_
  refine xs_aload_n dA_hasZones_0 rfl ?_
  refine xs_get dA_hasZones_1 flA_48 (by repeat (first | exact va_up_self _ _ _ | assumption | refine (va_up_ne _ _ (by omega)).trans ?_)) rfl ?_
  refine xs_aload_n dA_hasZones_4 rfl ?_
  refine xs_get dA_hasZones_5 flA_23 (by repeat (first | exact va_up_self _ _ _ | assumption | refine (va_up_ne _ _ (by omega)).trans ?_)) rfl ?_
  refine xs_cV_vx (As := [_]) dA_hasZones_8 lkA_297 (by repeat (first | exact va_up_self _ _ _ | assumption | refine (va_up_ne _ _ (by omega)).trans ?_)) (k_Z_gather hzt htr (by omega)) rfl rfl (Nat.le_of_ble_eq_true rfl) ⟨by decide, by decide⟩ ⟨by omega, by omega⟩ ?_
  intro H2 ⟨⟨Z, R, q1, q2, q3⟩, q4⟩
  have hx2 : fzx H2 a T V W A O lis := fzx_ztr hx q4 (by obtain ⟨fd, fa, pa, ms, cv, e, _⟩ := q1; exact ⟨_, _, _, _, _, _, _, e⟩)
  have hf2 : xfr a (a + 528) G H2 := xfr_mono q4 (by omega) (by omega)
  have hc2 := hx2.1
  obtain ⟨fd2, fa2, pa2, ms2, cv2, hz3, _⟩ := id q1
  have hzc2 := zlo_cell hz3
  have hz := zcn_eq q2
  refine xs_aload_n dA_hasZones_11 rfl ?_
  refine xs_get dA_hasZones_12 flA_48 (by repeat (first | exact va_up_self _ _ _ | assumption | refine (va_up_ne _ _ (by omega)).trans ?_)) rfl ?_
  refine xs_get dA_hasZones_15 flA_123 (by repeat (first | exact va_up_self _ _ _ | assumption | refine (va_up_ne _ _ (by omega)).trans ?_)) rfl ?_
  refine xs_iload_n dA_hasZones_18 rfl ?_
  refine xs_icmp_lt dA_hasZones_19 (fun q => ?_) (fun q => ?_)
  · have h8 := (nI_ltI (by omega) (by omega)).mp q
    rw [if_neg (by omega)]
    refine xs_iconst (v := 0) dA_hasZones_26 (by decide) ?_
    exact xs_iret dA_hasZones_27 rfl rfl (by omega) (by omega) (sNo hx2 hf2 rfl)
  · have h8 : m ≤ Z.length := by
      rcases Nat.lt_or_ge Z.length m with e | e
      · exact absurd (nI_lt e (by omega)) q
      · exact e
    rw [if_pos (by omega)]
    refine xs_iconst (v := 1) dA_hasZones_22 (by decide) ?_
    refine xs_goto dA_hasZones_23 ?_
    exact xs_iret dA_hasZones_27 rfl rfl (by omega) (by omega) (sYes hx2 hf2 rfl)
theorem k_A_isSameForm {i j : Nat} (hi : i < 10000) (hj : j < 10000) (hx : fzx G a T V W A O lis) : xK mA_isSameForm [.ref a, .int (nI i), .int (nI j)] n G 0 0 (sPost n a G T V A O lis (match W.1[i]?, W.1[j]? with
    | some e, some f => if zSame W e f = true then some W else none
    | _, _ => none)) xNo := by
  obtain ⟨hc, htx, hpr, htr, hhi, hsa, hiv, hzp, hzt, hfm, hgr, hsc, hs0, hs1⟩ := id hx
  have htc := cry_cell htr
  have no : ∀ H, fzx H a T V W A O lis → xfr a (a + 528) G H → ∀ res, res = none → xS mA_isSameForm n 0 0 (sPost n a G T V A O lis res) xNo 38 [(0, .ref a), (1, .int (nI i)), (2, .int (nI j))] [] n H 0 0 := by
    intro H hx hf res hr
    refine xs_iconst (v := 0) dA_isSameForm_38 (by decide) ?_
    exact xs_iret dA_isSameForm_39 rfl rfl (by omega) (by omega) (sNo hx hf hr)
  refine xK_of2 (L0 := [(0, _), (1, _), (2, _)]) (by decide +kernel) rfl (Nat.le_of_ble_eq_true rfl) rfl ?_
  refine xs_aload_n dA_isSameForm_0 rfl ?_
  refine xs_get dA_isSameForm_1 flA_23 (by repeat (first | exact va_up_self _ _ _ | assumption | refine (va_up_ne _ _ (by omega)).trans ?_)) rfl ?_
  refine xs_iload_n dA_isSameForm_4 rfl ?_
  refine xs_cV_i (As := [_]) dA_isSameForm_5 lkA_335 (by repeat (first | exact va_up_self _ _ _ | assumption | refine (va_up_ne _ _ (by omega)).trans ?_)) (k_C_hasFace htr) rfl rfl (Nat.le_of_ble_eq_true rfl) ⟨by decide, by decide⟩ ⟨by omega, by omega⟩ ?_
  cases he : W.1[i]? with
  | none =>
    have h : ¬ i < W.1.length := by
      have := List.getElem?_eq_none_iff.mp he
      omega
    rw [bI_f (fun q => h ((hasM htr.1.1 (by omega)).mp q))]
    refine xs_if_eq dA_isSameForm_8 (fun _ => ?_) (fun q => absurd rfl q)
    exact no G hx xfr_rf _ rfl
  | some e =>
    have h := (List.getElem?_eq_some_iff.mp he).1
    rw [bI_t ((hasM htr.1.1 (by omega)).mpr h)]
    refine xs_if_eq dA_isSameForm_8 (fun q => absurd q (by decide)) (fun _ => ?_)
    refine xs_aload_n dA_isSameForm_11 rfl ?_
    refine xs_get dA_isSameForm_12 flA_23 (by repeat (first | exact va_up_self _ _ _ | assumption | refine (va_up_ne _ _ (by omega)).trans ?_)) rfl ?_
    refine xs_iload_n dA_isSameForm_15 rfl ?_
    refine xs_cV_i (As := [_]) dA_isSameForm_16 lkA_335 (by repeat (first | exact va_up_self _ _ _ | assumption | refine (va_up_ne _ _ (by omega)).trans ?_)) (k_C_hasFace htr) rfl rfl (Nat.le_of_ble_eq_true rfl) ⟨by decide, by decide⟩ ⟨by omega, by omega⟩ ?_
    cases hf : W.1[j]? with
    | none =>
      have h : ¬ j < W.1.length := by
        have := List.getElem?_eq_none_iff.mp hf
        omega
      rw [bI_f (fun q => h ((hasM htr.1.1 (by omega)).mp q))]
      refine xs_if_eq dA_isSameForm_19 (fun _ => ?_) (fun q => absurd rfl q)
      exact no G hx xfr_rf _ rfl
    | some f =>
      have h := (List.getElem?_eq_some_iff.mp hf).1
      rw [bI_t ((hasM htr.1.1 (by omega)).mpr h)]
      refine xs_if_eq dA_isSameForm_19 (fun q => absurd q (by decide)) (fun _ => ?_)
      refine xs_aload_n dA_isSameForm_22 rfl ?_
      refine xs_get dA_isSameForm_23 flA_23 (by repeat (first | exact va_up_self _ _ _ | assumption | refine (va_up_ne _ _ (by omega)).trans ?_)) rfl ?_
      refine xs_iload_n dA_isSameForm_26 rfl ?_
      refine xs_iload_n dA_isSameForm_27 rfl ?_
      refine xs_cV_ix (As := [_, _]) dA_isSameForm_28 lkA_235 (by repeat (first | exact va_up_self _ _ _ | assumption | refine (va_up_ne _ _ (by omega)).trans ?_)) (k_C_areOfOneForm htr he hf) rfl rfl (Nat.le_of_ble_eq_true rfl) ⟨by decide, by decide⟩ ⟨by omega, by omega⟩ ?_
      intro r H ⟨q1, q2, q3⟩
      subst q1
      have hx2 := fzx_tri hx q3 q2
      have hf2 : xfr a (a + 528) G H := xfr_mono q3 (by omega) (by omega)
      refine xs_if_eq dA_isSameForm_31 (fun q => ?_) (fun q => ?_)
      · have h9 := (bI_0 _).mp q
        exact no H hx2 hf2 _ (by simp only [h9]; rfl)
      · have h9 := (bI_1n _).mp q
        refine xs_iconst (v := 1) dA_isSameForm_34 (by decide) ?_
        refine xs_goto dA_isSameForm_35 ?_
        exact xs_iret dA_isSameForm_39 rfl rfl (by omega) (by omega) (sYes hx2 hf2 (by simp only [h9, if_pos]))
theorem k_A_twinByScript {m : Nat} (hm : m < 10000) (hx : fzx G a T V W A O lis) : xK mA_twinByScript [.ref a, .int (nI m)] n G 0 0 (sPost n a G T V A O lis (match W.1[m]? with
    | none => none
    | some f => if zwhy W.1 f.1 (1 - f.2) = 0 then some (zAdd W (dv f.1, 1 - f.2)) else none)) xNo := by
  obtain ⟨hc, htx, hpr, htr, hhi, hsa, hiv, hzp, hzt, hfm, hgr, hsc, hs0, hs1⟩ := id hx
  have htc := cry_cell htr
  refine xK_of2 (L0 := [(0, _), (1, _)]) (by decide +kernel) rfl (Nat.le_of_ble_eq_true rfl) rfl ?_
  refine xs_aload_n dA_twinByScript_0 rfl ?_
  refine xs_get dA_twinByScript_1 flA_23 (by repeat (first | exact va_up_self _ _ _ | assumption | refine (va_up_ne _ _ (by omega)).trans ?_)) rfl ?_
  refine xs_iload_n dA_twinByScript_4 rfl ?_
  refine xs_cV_i (As := [_]) dA_twinByScript_5 lkA_335 (by repeat (first | exact va_up_self _ _ _ | assumption | refine (va_up_ne _ _ (by omega)).trans ?_)) (k_C_hasFace htr) rfl rfl (Nat.le_of_ble_eq_true rfl) ⟨by decide, by decide⟩ ⟨by omega, by omega⟩ ?_
  cases hf : W.1[m]? with
  | none =>
    have h : ¬ m < W.1.length := by
      have := List.getElem?_eq_none_iff.mp hf
      omega
    rw [bI_f (fun q => h ((hasM htr.1.1 (by omega)).mp q))]
    refine xs_if_eq dA_twinByScript_8 (fun _ => ?_) (fun q => absurd rfl q)
    refine xs_iconst (v := 0) dA_twinByScript_22 (by decide) ?_
    exact xs_iret dA_twinByScript_23 rfl rfl (by omega) (by omega) (sNo hx xfr_rf rfl)
  | some f =>
    have h := (List.getElem?_eq_some_iff.mp hf).1
    rw [bI_t ((hasM htr.1.1 (by omega)).mpr h)]
    refine xs_if_eq dA_twinByScript_8 (fun q => absurd q (by decide)) (fun _ => ?_)
    refine xs_aload_n dA_twinByScript_11 rfl ?_
    refine xs_get dA_twinByScript_12 flA_23 (by repeat (first | exact va_up_self _ _ _ | assumption | refine (va_up_ne _ _ (by omega)).trans ?_)) rfl ?_
    refine xs_iload_n dA_twinByScript_15 rfl ?_
    refine xs_cV_ix (As := [_]) dA_twinByScript_16 lkA_267 (by repeat (first | exact va_up_self _ _ _ | assumption | refine (va_up_ne _ _ (by omega)).trans ?_)) (k_C_refusalOfTwin htr hf) rfl rfl (Nat.le_of_ble_eq_true rfl) ⟨by decide, by decide⟩ ⟨by omega, by omega⟩ ?_
    intro r H ⟨q1, q2, q3⟩
    subst q1
    have hx2 := fzx_tri hx q3 q2
    have hc2 := hx2.1
    have htc2 := cry_cell q2
    have hf2 : xfr a (a + 528) G H := xfr_mono q3 (by omega) (by omega)
    have hzl := zwhy_le (fs := W.1) (p := f.1) (s := 1 - f.2)
    refine xs_if_eq dA_twinByScript_19 (fun q => ?_) (fun q => ?_)
    · have h0 : zwhy W.1 f.1 (1 - f.2) = 0 := (nI_eq (b := 0) (by omega) (by decide)).mp q
      obtain ⟨e1, e2, e3⟩ := zwhy_0i h0
      simp only [if_pos h0]
      refine xs_aload_n dA_twinByScript_24 rfl ?_
      refine xs_get dA_twinByScript_25 flA_23 (by repeat (first | exact va_up_self _ _ _ | assumption | refine (va_up_ne _ _ (by omega)).trans ?_)) rfl ?_
      refine xs_iload_n dA_twinByScript_28 rfl ?_
      refine xs_cV_vx (As := [_]) dA_twinByScript_29 lkA_270 (by repeat (first | exact va_up_self _ _ _ | assumption | refine (va_up_ne _ _ (by omega)).trans ?_)) (k_C_insertTwin q2 hf e3) rfl rfl (Nat.le_of_ble_eq_true rfl) ⟨by decide, by decide⟩ ⟨by omega, by omega⟩ ?_
      intro H3 ⟨q4, q5⟩
      refine xs_iconst (v := 1) dA_twinByScript_32 (by decide) ?_
      exact xs_iret dA_twinByScript_33 rfl rfl (by omega) (by omega) (sYes (fzx_tri hx2 q5 q4) (xfr_tr hf2 (xfr_mono q5 (by omega) (by omega))) rfl)
    · have h0 : ¬ zwhy W.1 f.1 (1 - f.2) = 0 := fun e => q (by rw [e]; rfl)
      simp only [if_neg h0]
      refine xs_iconst (v := 0) dA_twinByScript_22 (by decide) ?_
      exact xs_iret dA_twinByScript_23 rfl rfl (by omega) (by omega) (sNo hx2 hf2 rfl)
end B2
