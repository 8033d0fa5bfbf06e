section B3
variable {n a : Nat} {G : xG} {T : List Nat} {V W : zV} {A : List zV} {O : Option zV × Option zV} {lis : Bool} {S : zS}
theorem k_A_succeeds {g : Nat} (hg : g < 100000) (hx : fzx G a T V W A O lis) : xK mA_succeeds [.ref a, .int (nI g)] n G 0 0 (sPost n a G T V A O lis (sCmd W g)) xNo := by
  have hc := hx.1
  have hd : g / 10000 = 0 ∨ g / 10000 = 1 ∨ g / 10000 = 2 ∨ g / 10000 = 3 ∨ g / 10000 = 4 ∨ g / 10000 = 5 ∨ g / 10000 = 6 ∨ g / 10000 = 7 ∨ g / 10000 = 8 ∨ g / 10000 = 9 := by omega
  obtain ⟨res, hres⟩ : ∃ res, res = sCmd W g := ⟨_, rfl⟩
  rw [← hres]
  refine xK_of2 (L0 := [(0, _), (1, _)]) (by decide +kernel) rfl (Nat.le_of_ble_eq_true rfl) rfl ?_
  refine xs_iload_n dA_succeeds_0 rfl ?_
  refine xs_sipush (v := 1000) dA_succeeds_1 (by decide) ?_
  refine xs_idiv dA_succeeds_4 (nI_ne (b:=1000) (by decide) (by decide)) ?_
  refine xs_bipush (v := 10) dA_succeeds_5 (by decide) ?_
  refine xs_irem dA_succeeds_7 (nI_ne (b:=10) (by decide) (by decide)) ?_
  refine xs_istore_n (L2 := [(2, _), (0, _), (1, _)]) dA_succeeds_8 (by decide) rfl ?_
  refine xs_iload_n dA_succeeds_9 rfl ?_
  refine xs_sipush (v := 1000) dA_succeeds_10 (by decide) ?_
  refine xs_irem dA_succeeds_13 (nI_ne (b:=1000) (by decide) (by decide)) ?_
  refine xs_istore_n (L2 := [(3, _), (2, _), (0, _), (1, _)]) dA_succeeds_14 (by decide) rfl ?_
  refine xs_iload_n dA_succeeds_15 rfl ?_
  refine xs_sipush (v := 10000) dA_succeeds_16 (by decide) ?_
  refine xs_irem dA_succeeds_19 (nI_ne (b:=10000) (by decide) (by decide)) ?_
  refine xs_istore (L2 := [(4, _), (3, _), (2, _), (0, _), (1, _)]) dA_succeeds_20 (by decide) rfl ?_
  refine xs_iload_n dA_succeeds_22 rfl ?_
  refine xs_sipush (v := 10000) dA_succeeds_23 (by decide) ?_
  refine xs_idiv dA_succeeds_26 (nI_ne (b:=10000) (by decide) (by decide)) ?_
  rw [show nI g / 1000 = nI (g / 1000) from nI_div (b := 1000) (by omega) (by decide) (by decide), show nI (g / 1000) - nI (g / 1000) / 10 * 10 = nI (g / 1000 % 10) from nI_rem (b := 10) (by omega) (by decide) (by decide), show nI g - nI (g / 1000) * 1000 = nI (g % 1000) from by
    rw [← show nI g / 1000 = nI (g / 1000) from nI_div (b := 1000) (by omega) (by decide) (by decide)]
    exact nI_rem (b := 1000) (by omega) (by decide) (by decide), show nI g / 10000 = nI (g / 10000) from nI_div (b := 10000) (by omega) (by decide) (by decide), show nI g - nI (g / 10000) * 10000 = nI (g % 10000) from by
    rw [← show nI g / 10000 = nI (g / 10000) from nI_div (b := 10000) (by omega) (by decide) (by decide)]
    exact nI_rem (b := 10000) (by omega) (by decide) (by decide)]
  have b1 : g / 1000 % 10 < 10 := by omega
  have b3 : g % 1000 < 1000 := by omega
  have b4 : g % 10000 < 10000 := by omega
  have hsg := sg3_mod g
  rcases hd with h | h | h | h | h | h | h | h | h | h
  · have e : res = none := by rw [hres, sCmd, h]; rfl
    rw [h]
    refine xs_tsOut (tgt := 169) dA_succeeds_27 (by decide) (by decide) ?_
    refine xs_iconst (v := 0) dA_succeeds_169 (by decide) ?_
    exact xs_iret dA_succeeds_170 rfl rfl (by omega) (by omega) (sNo hx xfr_rf e)
  · have e : res = (if g / 1000 % 10 ≤ 1 ∧ zwhy W.1 (sg3 (g % 1000)) ((g / 1000 % 10 : Nat) : Int) = 0 then some (zAdd W (dv (sg3 (g % 1000)), ((g / 1000 % 10 : Nat) : Int))) else none) := by rw [hsg, hres, sCmd, if_pos h]
    rw [h]
    refine xs_tsIn (tgt := 76) dA_succeeds_27 (by decide) (by decide) rfl (by decide) ?_
    refine xs_aload_n dA_succeeds_76 rfl ?_
    refine xs_iload_n dA_succeeds_77 rfl ?_
    refine xs_iload_n dA_succeeds_78 rfl ?_
    refine xs_cV_ix (As := [_, _]) dA_succeeds_79 lkA_363 (by repeat (first | exact va_up_self _ _ _ | assumption | refine (va_up_ne _ _ (by omega)).trans ?_)) (k_A_addByScript b1 b3 hx) rfl rfl (Nat.le_of_ble_eq_true rfl) ⟨by decide, by decide⟩ ⟨by omega, by omega⟩ ?_
    intro r H hH
    rw [← e] at hH
    exact xs_iret dA_succeeds_82 rfl (by rw [hH.1]; exact bI_n _) (by omega) (by omega) ⟨r, rfl, rfl, hH⟩
  · have e : res = (if g % 10000 < W.1.length then some (zDrop W (g % 10000)) else none) := by rw [hres, sCmd, if_neg (by omega), if_pos h]
    rw [h]
    refine xs_tsIn (tgt := 83) dA_succeeds_27 (by decide) (by decide) rfl (by decide) ?_
    refine xs_aload_n dA_succeeds_83 rfl ?_
    refine xs_iload dA_succeeds_84 rfl ?_
    refine xs_cV_ix (As := [_]) dA_succeeds_86 lkA_366 (by repeat (first | exact va_up_self _ _ _ | assumption | refine (va_up_ne _ _ (by omega)).trans ?_)) (k_A_removeByScript b4 hx) rfl rfl (Nat.le_of_ble_eq_true rfl) ⟨by decide, by decide⟩ ⟨by omega, by omega⟩ ?_
    intro r H hH
    rw [← e] at hH
    exact xs_iret dA_succeeds_89 rfl (by rw [hH.1]; exact bI_n _) (by omega) (by omega) ⟨r, rfl, rfl, hH⟩
  · have e : res = (if g % 10000 ≤ 4 then some (W.1, ((g % 10000 : Nat) : Int), W.2.2) else none) := by rw [hres, sCmd, if_neg (by omega), if_neg (by omega), if_pos h]
    rw [h]
    refine xs_tsIn (tgt := 90) dA_succeeds_27 (by decide) (by decide) rfl (by decide) ?_
    refine xs_aload_n dA_succeeds_90 rfl ?_
    refine xs_iload dA_succeeds_91 rfl ?_
    refine xs_cV_ix (As := [_]) dA_succeeds_93 lkA_369 (by repeat (first | exact va_up_self _ _ _ | assumption | refine (va_up_ne _ _ (by omega)).trans ?_)) (k_A_setSystemByScript b4 hx) rfl rfl (Nat.le_of_ble_eq_true rfl) ⟨by decide, by decide⟩ ⟨by omega, by omega⟩ ?_
    intro r H hH
    rw [← e] at hH
    exact xs_iret dA_succeeds_96 rfl (by rw [hH.1]; exact bI_n _) (by omega) (by omega) ⟨r, rfl, rfl, hH⟩
  · have e : res = sCmd W g := hres
    rw [sCmd, if_neg (by omega), if_neg (by omega), if_neg (by omega), if_pos h] at e
    rw [h]
    refine xs_tsIn (tgt := 97) dA_succeeds_27 (by decide) (by decide) rfl (by decide) ?_
    refine xs_aload_n dA_succeeds_97 rfl ?_
    refine xs_iload dA_succeeds_98 rfl ?_
    refine xs_cV_ix (As := [_]) dA_succeeds_100 lkA_372 (by repeat (first | exact va_up_self _ _ _ | assumption | refine (va_up_ne _ _ (by omega)).trans ?_)) (k_A_addFormByScript b4 hx) rfl rfl (Nat.le_of_ble_eq_true rfl) ⟨by decide, by decide⟩ ⟨by omega, by omega⟩ ?_
    intro r H hH
    have hH2 : r = bI res.isSome ∧ (∃ W2, fzx H a T V W2 A O lis ∧ ∀ U, res = some U → W2 = U) ∧ xfr a (a + 528) G H := by
      rw [e]
      cases hf : W.1[g % 10000]? with
      | none => rw [hf] at hH; exact hH
      | some f => rw [hf] at hH; exact hH
    exact xs_iret dA_succeeds_103 rfl (by rw [hH2.1]; exact bI_n _) (by omega) (by omega) ⟨r, rfl, rfl, hH2⟩
  · have e : res = if g / 1000 % 10 = 0 ∧ wPl (sg3 (g % 1000)).1 (sg3 (g % 1000)).2.1 (sg3 (g % 1000)).2.2 = true then some (zAim W (sg3 (g % 1000))) else none := by rw [hsg, hres, sCmd, if_neg (by omega), if_neg (by omega), if_neg (by omega), if_neg (by omega), if_pos h]
    have fin : ∀ (H : xG) (W2 : zV), fzx H a T V W2 A O lis → xfr a (a + 528) G H → res = none → ∀ v2 v3 v4 : Int32, xS mA_succeeds n 0 0 (sPost n a G T V A O lis res) xNo 120 [(4, .int v4), (3, .int v3), (2, .int v2), (0, .ref a), (1, .int (nI g))] [] n H 0 0 := by
      intro H W2 hx hf hr v2 v3 v4
      refine xs_iconst (v := 0) dA_succeeds_120 (by decide) ?_
      exact xs_iret dA_succeeds_121 rfl rfl (by omega) (by omega) (sNo hx hf hr)
    rw [h]
    refine xs_tsIn (tgt := 104) dA_succeeds_27 (by decide) (by decide) rfl (by decide) ?_
    refine xs_iload_n dA_succeeds_104 rfl ?_
    refine xs_if_ne dA_succeeds_105 (fun q => ?_) (fun q => ?_)
    · exact fin G W hx xfr_rf (by rw [e, if_neg (fun w => q (by rw [w.1]; rfl))]) _ _ _
    · have h0 : g / 1000 % 10 = 0 := (nI_eq (b := 0) (by omega) (by decide)).mp q
      refine xs_aload_n dA_succeeds_108 rfl ?_
      refine xs_iload_n dA_succeeds_109 rfl ?_
      refine xs_cV_ix (As := [_]) dA_succeeds_110 lkA_375 (by repeat (first | exact va_up_self _ _ _ | assumption | refine (va_up_ne _ _ (by omega)).trans ?_)) (k_A_setTwinByScript b3 hx) rfl rfl (Nat.le_of_ble_eq_true rfl) ⟨by decide, by decide⟩ ⟨by omega, by omega⟩ ?_
      intro r H ⟨q1, ⟨W2, q2, q3⟩, q4⟩
      subst q1
      by_cases hw : wPl (sg3 (g % 1000)).1 (sg3 (g % 1000)).2.1 (sg3 (g % 1000)).2.2 = true
      · rw [if_pos hw] at q3 ⊢
        refine xs_if_eq dA_succeeds_113 (fun w => absurd w (show ¬ bI true = 0 by decide)) (fun _ => ?_)
        refine xs_iconst (v := 1) dA_succeeds_116 (by decide) ?_
        refine xs_goto dA_succeeds_117 ?_
        have e3 := q3 _ rfl
        exact xs_iret dA_succeeds_121 rfl rfl (by omega) (by omega) (sYes q2 q4 (by rw [e, if_pos ⟨h0, hw⟩, e3]))
      · rw [if_neg hw] at q3 ⊢
        refine xs_if_eq dA_succeeds_113 (fun _ => ?_) (fun w => absurd rfl w)
        exact fin H W2 q2 q4 (by rw [e, if_neg (fun w => hw w.2)]) _ _ _
  · have e : res = (if sg3 (g % 1000) ≠ (0, 0, 0) ∧ g / 1000 % 10 ≤ pc (mem (zDirs W) (sg3 (g % 1000))) then some W else none) := by rw [hsg, hres, sCmd, if_neg (by omega), if_neg (by omega), if_neg (by omega), if_neg (by omega), if_neg (by omega), if_pos h]
    rw [h]
    refine xs_tsIn (tgt := 122) dA_succeeds_27 (by decide) (by decide) rfl (by decide) ?_
    refine xs_aload_n dA_succeeds_122 rfl ?_
    refine xs_iload_n dA_succeeds_123 rfl ?_
    refine xs_iload_n dA_succeeds_124 rfl ?_
    refine xs_cV_ix (As := [_, _]) dA_succeeds_125 lkA_378 (by repeat (first | exact va_up_self _ _ _ | assumption | refine (va_up_ne _ _ (by omega)).trans ?_)) (k_A_hasInZone b1 b3 hx) rfl rfl (Nat.le_of_ble_eq_true rfl) ⟨by decide, by decide⟩ ⟨by omega, by omega⟩ ?_
    intro r H hH
    rw [← e] at hH
    exact xs_iret dA_succeeds_128 rfl (by rw [hH.1]; exact bI_n _) (by omega) (by omega) ⟨r, rfl, rfl, hH⟩
  · have e : res = (if g / 1000 % 10 = 0 ∧ g % 1000 ≤ zcn W then some W else none) := by rw [hres, sCmd, if_neg (by omega), if_neg (by omega), if_neg (by omega), if_neg (by omega), if_neg (by omega), if_neg (by omega), if_pos h]
    have fin : ∀ (H : xG) (W2 : zV), fzx H a T V W2 A O lis → xfr a (a + 528) G H → res = none → ∀ v2 v3 v4 : Int32, xS mA_succeeds n 0 0 (sPost n a G T V A O lis res) xNo 145 [(4, .int v4), (3, .int v3), (2, .int v2), (0, .ref a), (1, .int (nI g))] [] n H 0 0 := by
      intro H W2 hx hf hr v2 v3 v4
      refine xs_iconst (v := 0) dA_succeeds_145 (by decide) ?_
      exact xs_iret dA_succeeds_146 rfl rfl (by omega) (by omega) (sNo hx hf hr)
    rw [h]
    refine xs_tsIn (tgt := 129) dA_succeeds_27 (by decide) (by decide) rfl (by decide) ?_
    refine xs_iload_n dA_succeeds_129 rfl ?_
    refine xs_if_ne dA_succeeds_130 (fun q => ?_) (fun q => ?_)
    · exact fin G W hx xfr_rf (by rw [e, if_neg (fun w => q (by rw [w.1]; rfl))]) _ _ _
    · have h0 : g / 1000 % 10 = 0 := (nI_eq (b := 0) (by omega) (by decide)).mp q
      refine xs_aload_n dA_succeeds_133 rfl ?_
      refine xs_iload_n dA_succeeds_134 rfl ?_
      refine xs_cV_ix (As := [_]) dA_succeeds_135 lkA_381 (by repeat (first | exact va_up_self _ _ _ | assumption | refine (va_up_ne _ _ (by omega)).trans ?_)) (k_A_hasZones b3 hx) rfl rfl (Nat.le_of_ble_eq_true rfl) ⟨by decide, by decide⟩ ⟨by omega, by omega⟩ ?_
      intro r H ⟨q1, ⟨W2, q2, q3⟩, q4⟩
      subst q1
      by_cases hw : g % 1000 ≤ zcn W
      · rw [if_pos hw] at q3 ⊢
        refine xs_if_eq dA_succeeds_138 (fun w => absurd w (show ¬ bI true = 0 by decide)) (fun _ => ?_)
        refine xs_iconst (v := 1) dA_succeeds_141 (by decide) ?_
        refine xs_goto dA_succeeds_142 ?_
        have e3 := q3 _ rfl
        exact xs_iret dA_succeeds_146 rfl rfl (by omega) (by omega) (sYes q2 q4 (by rw [e, if_pos ⟨h0, hw⟩, e3]))
      · rw [if_neg hw] at q3 ⊢
        refine xs_if_eq dA_succeeds_138 (fun _ => ?_) (fun w => absurd rfl w)
        exact fin H W2 q2 q4 (by rw [e, if_neg (fun w => hw w.2)]) _ _ _
  · have e : res = sCmd W g := hres
    rw [sCmd, if_neg (by omega), if_neg (by omega), if_neg (by omega), if_neg (by omega), if_neg (by omega), if_neg (by omega), if_neg (by omega), if_pos h] at e
    have e100 : g % 10000 % 100 = g % 100 := by omega
    rw [h]
    refine xs_tsIn (tgt := 147) dA_succeeds_27 (by decide) (by decide) rfl (by decide) ?_
    refine xs_aload_n dA_succeeds_147 rfl ?_
    refine xs_iload dA_succeeds_148 rfl ?_
    refine xs_bipush (v := 100) dA_succeeds_150 (by decide) ?_
    refine xs_idiv dA_succeeds_152 (nI_ne (b:=100) (by decide) (by decide)) ?_
    refine xs_iload dA_succeeds_153 rfl ?_
    refine xs_bipush (v := 100) dA_succeeds_155 (by decide) ?_
    refine xs_irem dA_succeeds_157 (nI_ne (b:=100) (by decide) (by decide)) ?_
    rw [show nI (g % 10000) - nI (g % 10000) / 100 * 100 = nI (g % 10000 % 100) from nI_rem (b := 100) (by omega) (by decide) (by decide), show nI (g % 10000) / 100 = nI (g % 10000 / 100) from nI_div (b := 100) (by omega) (by decide) (by decide), e100]
    refine xs_cV_ix (As := [_, _]) dA_succeeds_158 lkA_384 (by repeat (first | exact va_up_self _ _ _ | assumption | refine (va_up_ne _ _ (by omega)).trans ?_)) (k_A_isSameForm (i:=g % 10000 / 100) (j:=g % 100) (by omega) (by omega) hx) rfl rfl (Nat.le_of_ble_eq_true rfl) ⟨by decide, by decide⟩ ⟨by omega, by omega⟩ ?_
    intro r H hH
    have hH2 : r = bI res.isSome ∧ (∃ W2, fzx H a T V W2 A O lis ∧ ∀ U, res = some U → W2 = U) ∧ xfr a (a + 528) G H := by
      rw [e]
      cases hf : W.1[g % 10000 / 100]? with
      | none => rw [hf] at hH; exact hH
      | some f =>
        rw [hf] at hH
        cases hf2 : W.1[g % 100]? with
        | none => rw [hf2] at hH; exact hH
        | some f2 => rw [hf2] at hH; exact hH
    exact xs_iret dA_succeeds_161 rfl (by rw [hH2.1]; exact bI_n _) (by omega) (by omega) ⟨r, rfl, rfl, hH2⟩
  · have e : res = sCmd W g := hres
    rw [sCmd, if_neg (by omega), if_neg (by omega), if_neg (by omega), if_neg (by omega), if_neg (by omega), if_neg (by omega), if_neg (by omega), if_neg (by omega), if_pos h] at e
    rw [h]
    refine xs_tsIn (tgt := 162) dA_succeeds_27 (by decide) (by decide) rfl (by decide) ?_
    refine xs_aload_n dA_succeeds_162 rfl ?_
    refine xs_iload dA_succeeds_163 rfl ?_
    refine xs_cV_ix (As := [_]) dA_succeeds_165 lkA_387 (by repeat (first | exact va_up_self _ _ _ | assumption | refine (va_up_ne _ _ (by omega)).trans ?_)) (k_A_twinByScript b4 hx) rfl rfl (Nat.le_of_ble_eq_true rfl) ⟨by decide, by decide⟩ ⟨by omega, by omega⟩ ?_
    intro r H hH
    have hH2 : r = bI res.isSome ∧ (∃ W2, fzx H a T V W2 A O lis ∧ ∀ U, res = some U → W2 = U) ∧ xfr a (a + 528) G H := by
      rw [e]
      cases hf : W.1[g % 10000]? with
      | none => rw [hf] at hH; exact hH
      | some f => rw [hf] at hH; exact hH
    exact xs_iret dA_succeeds_168 rfl (by rw [hH2.1]; exact bI_n _) (by omega) (by omega) ⟨r, rfl, rfl, hH2⟩
theorem pow5_le {j : Nat} (h : j ≤ 3) : 100000 ^ j ≤ 1000000000000000 := Nat.le_trans (Nat.pow_le_pow_right (by decide) h) (by decide)
theorem pow5_pos (j : Nat) : 0 < 100000 ^ j := Nat.pow_pos (by decide)
theorem k_A_runScript {x : Int32} {s : Int64} (hx : fzo G a S) : xK mA_runScript [.ref a, .int x, .long s] n G 1 6 (aPost n a G (rScript S x.toInt s.toInt)) (aExc n a G (rScript S x.toInt s.toInt) eA eA) := by
  have hS := hx
  obtain ⟨Vt, lis, hx⟩ := hx
  obtain ⟨hc, htx, hpr, htr, hhi, hsa, hiv, hzp, hzt, hfm, hgr, hsc, hs0, hs1⟩ := id hx
  refine xK_of2 (L0 := [(0, _), (1, _), (2, _)]) (by decide +kernel) rfl (Nat.le_of_ble_eq_true rfl) rfl ?_
  by_cases hr : (1 : Int) ≤ x.toInt ∧ x.toInt ≤ 3
  case neg =>
    refine xs_iload_n dA_runScript_0 rfl ?_
    refine xs_iconst (v := 1) dA_runScript_1 (by decide) ?_
    refine xs_iconst (v := 3) dA_runScript_2 (by decide) ?_
    exact xs_cS_t (As := [_, _, _]) dA_runScript_3 lkA_76 (k_A_rrx (lo:=1) (hi:=3) (by decide) (by decide) hr) rfl rfl (Nat.le_of_ble_eq_true rfl) ⟨by decide, by decide⟩ rfl ⟨by omega, by omega⟩ (aX1 (by rw [rScript, if_neg (fun q => hr q.1)]) hS xfr_rf)
  refine xs_iload_n dA_runScript_0 rfl ?_
  refine xs_iconst (v := 1) dA_runScript_1 (by decide) ?_
  refine xs_iconst (v := 3) dA_runScript_2 (by decide) ?_
  refine xs_cS_v (As := [_, _, _]) dA_runScript_3 lkA_76 (k_A_rr (lo:=1) (hi:=3) (by decide) (by decide) hr) rfl rfl (Nat.le_of_ble_eq_true rfl) ⟨by decide, by decide⟩ ⟨by omega, by omega⟩ ?_
  refine xs_lconst (v := 1) dA_runScript_6 (by decide) ?_
  refine xs_lstore (L2 := [(4, _), (0, _), (1, _), (2, _)]) dA_runScript_7 (by decide) rfl ?_
  refine xs_iconst (v := 0) dA_runScript_9 (by decide) ?_
  refine xs_istore (L2 := [(6, _), (4, _), (0, _), (1, _), (2, _)]) dA_runScript_10 (by decide) rfl ?_
  obtain ⟨N, hN, hN2, hN3, hN4⟩ := toN hr (by decide)
  have hR1 : ¬ (0 ≤ s.toInt ∧ s.toInt < ((100000 ^ N : Nat) : Int)) → rScript S x.toInt s.toInt = (1, 0, S) := fun q => by rw [rScript, if_neg (fun w => q (by have := w.2; rw [hN2, Int.toNat_natCast] at this; exact this))]
  have hR2 : (0 ≤ s.toInt ∧ s.toInt < ((100000 ^ N : Nat) : Int)) → rScript S x.toInt s.toInt = (0, sRun s.toInt.toNat N N 0 S.2.1, S) := fun q => by rw [rScript, if_pos ⟨hr, by rw [hN2, Int.toNat_natCast]; exact q⟩, hN2, Int.toNat_natCast]
  obtain ⟨R, hR⟩ : ∃ R, R = rScript S x.toInt s.toInt := ⟨_, rfl⟩
  rw [← hR] at hR1 hR2 ⊢
  clear hR hN2 hr
  subst hN
  have hNle : N ≤ 3 := by omega
  -- the commands
  have run : ∀ (sn : Nat), R = (0, sRun sn N N 0 S.2.1, S) → sn < 100000 ^ N → ∀ (m k : Nat) (H : xG) (W : zV), m + k = N → fzx H a S.1 S.2.1 W S.2.2.1 S.2.2.2 lis → xfr a (a + 528) G H → sRun sn N m k W = sRun sn N N 0 S.2.1 →
      xS mA_runScript n 1 6 (aPost n a G R) (aExc n a G R eA eA) 73 [(0, .ref a), (1, .int (nI N)), (2, .long s), (4, .long (lN (100000 ^ m))), (6, .long (lN (sn % 100000 ^ m))), (8, .int (nI k))] [] n H 0 0 := by
    intro sn hR hsn m
    induction m with
    | zero =>
      intro k H W hmk hx hf hs
      refine xs_iload dA_runScript_73 rfl ?_
      refine xs_iload_n dA_runScript_75 rfl ?_
      refine xs_icmp_ge dA_runScript_76 (fun _ => ?_) (fun q => absurd (nI_le (show N ≤ k by omega) (by omega)) q)
      refine xs_ldc dA_runScript_123 kcA_99 ?_
      exact xs_iret dA_runScript_125 rfl rfl (by omega) (by omega) (aOk hR (by rw [← hs]; rfl) ⟨_, _, hx⟩ hf)
    | succ m ih =>
      intro k H W hmk hx hf hs
      have hc := hx.1
      have p1 := pow5_le (j := m) (by omega)
      have p2 := pow5_pos m
      have p3 := pow5_le (j := m + 1) (by omega)
      have e1 : 100000 ^ (m + 1) = 100000 ^ m * 100000 := Nat.pow_succ 100000 m
      have hlt : sn % 100000 ^ (m + 1) < 100000 ^ (m + 1) := Nat.mod_lt _ (pow5_pos _)
      obtain ⟨P, hP⟩ : ∃ P, P = 100000 ^ m := ⟨_, rfl⟩
      rw [← hP] at p1 p2 e1
      refine xs_iload dA_runScript_73 rfl ?_
      refine xs_iload_n dA_runScript_75 rfl ?_
      refine xs_icmp_ge dA_runScript_76 (fun q => absurd ((nI_leI (by omega) (by omega)).mp q) (by omega)) (fun _ => ?_)
      refine xs_lload dA_runScript_79 rfl ?_
      refine xs_ldc2 dA_runScript_81 kcA_310 ?_
      have hne : ¬ (100000 : Int64) = 0 := by decide
      refine xs_ldiv dA_runScript_84 hne ?_
      rw [show lN (100000 ^ (m + 1)) / 100000 = lN P from by
        have := pk_lDiv (a := 100000 ^ (m + 1)) (b := 100000) (by omega) (by decide) (by decide)
        rw [e1, Nat.mul_div_cancel _ (by decide)] at this
        rw [e1]
        exact this]
      refine xs_lstore (L2 := [(4, _), (0, _), (1, _), (2, _), (6, _), (8, _)]) dA_runScript_85 (by decide) rfl ?_
      refine xs_lload dA_runScript_87 rfl ?_
      refine xs_lconst (v := 0) dA_runScript_89 (by decide) ?_
      have hP0 : ¬ lN P ≤ 0 := fun q => by
        have q2 : iL (P : Int) ≤ iL 0 := by rw [← iL_nat]; exact q
        rw [iL_le (by omega) (by decide)] at q2
        omega
      have hPn : ¬ lN P = 0 := fun q => hP0 (by rw [q]; decide)
      refine xs_lc_le dA_runScript_90 dA_runScript_91 (fun q => absurd q hP0) (fun _ => ?_)
      refine xs_aload_n dA_runScript_94 rfl ?_
      refine xs_lload dA_runScript_95 rfl ?_
      refine xs_lload dA_runScript_97 rfl ?_
      refine xs_ldiv dA_runScript_99 hPn ?_
      have eg : sn % 100000 ^ (m + 1) / P = sn / 100000 ^ (N - 1 - k) % 100000 := by
        rw [e1, Nat.mod_mul_right_div_self, show N - 1 - k = m by omega, hP]
      rw [pk_lDiv (by omega) p2 (by omega), eg]
      refine xs_l2i dA_runScript_100 ?_
      rw [lN_i]
      have hg : sn / 100000 ^ (N - 1 - k) % 100000 < 100000 := Nat.mod_lt _ (by decide)
      have hsr : sRun sn N (m + 1) k W = match sCmd W (sn / 100000 ^ (N - 1 - k) % 100000) with
        | none => (k : Int)
        | some W2 => sRun sn N m (k + 1) W2 := rfl
      obtain ⟨gg, hgg⟩ : ∃ gg, gg = sn / 100000 ^ (N - 1 - k) % 100000 := ⟨_, rfl⟩
      rw [← hgg] at hg hsr ⊢
      refine xs_cV_ix (As := [_]) dA_runScript_101 lkA_314 (by repeat (first | exact va_up_self _ _ _ | assumption | refine (va_up_ne _ _ (by omega)).trans ?_)) (k_A_succeeds hg hx) rfl rfl (Nat.le_of_ble_eq_true rfl) ⟨by decide, by decide⟩ ⟨by omega, by omega⟩ ?_
      intro r H2 ⟨q1, ⟨W2, q2, q3⟩, q4⟩
      subst q1
      cases hcm : sCmd W gg with
      | none =>
        rw [hcm] at hsr
        refine xs_if_ne dA_runScript_104 (fun q => absurd rfl q) (fun _ => ?_)
        refine xs_iload dA_runScript_107 rfl ?_
        exact xs_iret dA_runScript_109 rfl rfl (by omega) (by omega) (aOk hR (by rw [← hs, hsr]; exact iI_nat _) ⟨_, _, q2⟩ (xfr_tr hf q4))
      | some U =>
        rw [hcm] at hsr
        have e3 := q3 U hcm
        subst e3
        refine xs_if_ne dA_runScript_104 (fun _ => ?_) (fun q => absurd q (show ¬ bI true = 0 by decide))
        refine xs_lload dA_runScript_110 rfl ?_
        refine xs_lload dA_runScript_112 rfl ?_
        refine xs_lrem dA_runScript_114 hPn ?_
        rw [pk_lRem (by omega) p2 (by omega)]
        refine xs_lstore (L2 := [(6, _), (4, _), (0, _), (1, _), (2, _), (8, _)]) dA_runScript_115 (by decide) rfl ?_
        refine xs_iinc (L2 := [(8, _), (6, _), (4, _), (0, _), (1, _), (2, _)]) dA_runScript_117 rfl rfl (by decide) rfl ?_
        refine xs_goto dA_runScript_120 ?_
        refine xs_pick (L2 := [(0, _), (1, _), (2, _), (4, _), (6, _), (8, _)]) [3, 4, 5, 2, 1, 0] rfl ?_
        rw [xii, hP, show sn % 100000 ^ (m + 1) % 100000 ^ m = sn % 100000 ^ m by rw [Nat.pow_succ, Nat.mod_mul_right_mod]]
        exact ih (k + 1) H2 W2 (by omega) q2 (xfr_tr hf q4) (by rw [← hs, hsr])
  have no : ¬ (0 ≤ s.toInt ∧ s.toInt < ((100000 ^ N : Nat) : Int)) → ∀ u c, xS mA_runScript n 1 6 (aPost n a G R) (aExc n a G R eA eA) 45 [(0, .ref a), (1, .int (nI N)), (2, .long s), (4, .long u), (6, .int c)] [] n G 0 0 := by
    intro q u c
    exact xs_throwW rfl rfl xtA (List.mem_of_getElem? (i := 15) rfl) dA_runScript_45 dA_runScript_48 dA_runScript_49 dA_runScript_52 dA_runScript_55 (Nat.le_of_ble_eq_true rfl) ⟨by decide, by decide⟩ (by omega) (by omega) (aX1 (hR1 q) hS xfr_rf)
  have unit : ∀ (m i : Nat), m + i = N → xS mA_runScript n 1 6 (aPost n a G R) (aExc n a G R eA eA) 12 [(0, .ref a), (1, .int (nI N)), (2, .long s), (4, .long (lN (100000 ^ i))), (6, .int (nI i))] [] n G 0 0 := by
    intro m
    induction m with
    | zero =>
      intro i hi
      have p1 := pow5_le (j := i) (by omega)
      refine xs_iload dA_runScript_12 rfl ?_
      refine xs_iload_n dA_runScript_14 rfl ?_
      refine xs_icmp_ge dA_runScript_15 (fun _ => ?_) (fun q => absurd (nI_le (show N ≤ i by omega) (by omega)) q)
      refine xs_lload_n dA_runScript_32 rfl ?_
      refine xs_lconst (v := 0) dA_runScript_33 (by decide) ?_
      have l0 : s < 0 ↔ s.toInt < 0 := by rw [Int64.lt_iff_toInt_lt]; rfl
      have l1 : s < lN (100000 ^ i) ↔ s.toInt < ((100000 ^ i : Nat) : Int) := by rw [Int64.lt_iff_toInt_lt, iL_nat, iL_T (by rw [Int.natAbs_natCast]; omega)]
      have hiN : i = N := by omega
      refine xs_lc_lt dA_runScript_34 dA_runScript_35 (fun q => ?_) (fun q => ?_)
      · exact no (fun w => by have := l0.mp q; omega) _ _
      refine xs_lload_n dA_runScript_38 rfl ?_
      refine xs_lload dA_runScript_39 rfl ?_
      refine xs_lc_lt dA_runScript_41 dA_runScript_42 (fun q2 => ?_) (fun q2 => ?_)
      · have w1 : 0 ≤ s.toInt := by
          by_cases w : 0 ≤ s.toInt
          · exact w
          · exact absurd (l0.mpr (by omega)) q
        have w2 := l1.mp q2
        rw [hiN] at w2
        obtain ⟨sn, hsn⟩ : ∃ sn : Nat, s.toInt = (sn : Int) := ⟨s.toInt.toNat, by omega⟩
        have hR3 := hR2 ⟨w1, w2⟩
        rw [hsn, Int.toNat_natCast] at hR3
        have hsN : sn < 100000 ^ N := by omega
        have hs2 : s = lN (sn % 100000 ^ N) := by
          rw [Nat.mod_eq_of_lt hsN, iL_nat, ← hsn]
          exact (Int64.ofInt_toInt s).symm
        have htc := cry_cell htr
        have hpc := cry_cell hpr
        refine xs_aload_n dA_runScript_56 rfl ?_
        refine xs_get dA_runScript_57 flA_23 (by repeat (first | exact va_up_self _ _ _ | assumption | refine (va_up_ne _ _ (by omega)).trans ?_)) rfl ?_
        refine xs_aload_n dA_runScript_60 rfl ?_
        refine xs_get dA_runScript_61 flA_19 (by repeat (first | exact va_up_self _ _ _ | assumption | refine (va_up_ne _ _ (by omega)).trans ?_)) rfl ?_
        refine xs_cV_vx (As := [_]) dA_runScript_64 lkA_291 (by repeat (first | exact va_up_self _ _ _ | assumption | refine (va_up_ne _ _ (by omega)).trans ?_)) (k_C_copyFrom htr hpr (by omega)) rfl rfl (Nat.le_of_ble_eq_true rfl) ⟨by decide, by decide⟩ ⟨by omega, by omega⟩ ?_
        intro H ⟨h1, h2⟩
        refine xs_lload_n dA_runScript_67 rfl ?_
        refine xs_lstore (L2 := [(6, _), (0, _), (1, _), (2, _), (4, _)]) dA_runScript_68 (by decide) rfl ?_
        refine xs_iconst (v := 0) dA_runScript_70 (by decide) ?_
        refine xs_istore (L2 := [(8, _), (6, _), (0, _), (1, _), (2, _), (4, _)]) dA_runScript_71 (by decide) rfl ?_
        refine xs_pick (L2 := [(0, _), (1, _), (2, _), (4, _), (6, _), (8, _)]) [2, 3, 4, 5, 1, 0] rfl ?_
        rw [hiN]
        have hgo := run sn hR3 hsN N 0 H _ (by omega) (fzx_tri hx h2 h1) (xfr_mono h2 (by omega) (by omega)) rfl
        rw [← hs2] at hgo
        exact hgo
      · exact no (fun w => q2 (l1.mpr (by rw [hiN]; exact w.2))) _ _
    | succ m ih =>
      intro i hi
      have p1 := pow5_le (j := i) (by omega)
      refine xs_iload dA_runScript_12 rfl ?_
      refine xs_iload_n dA_runScript_14 rfl ?_
      refine xs_icmp_ge dA_runScript_15 (fun q => absurd ((nI_leI (by omega) (by omega)).mp q) (by omega)) (fun _ => ?_)
      refine xs_lload dA_runScript_18 rfl ?_
      refine xs_ldc2 dA_runScript_20 kcA_310 ?_
      refine xs_lmul dA_runScript_23 ?_
      refine xs_lstore (L2 := [(4, _), (0, _), (1, _), (2, _), (6, _)]) dA_runScript_24 (by decide) rfl ?_
      refine xs_iinc (L2 := [(6, _), (4, _), (0, _), (1, _), (2, _)]) dA_runScript_26 rfl rfl (by decide) rfl ?_
      refine xs_goto dA_runScript_29 ?_
      refine xs_pick (L2 := [(0, _), (1, _), (2, _), (4, _), (6, _)]) [2, 3, 4, 1, 0] rfl ?_
      rw [xii, show lN (100000 ^ i) * 100000 = lN (100000 ^ (i + 1)) from by
        rw [Nat.pow_succ, iL_nat, iL_nat, show (100000 : Int64) = iL 100000 from rfl, iL_mul, Int.natCast_mul]
        rfl]
      exact ih (i + 1) (by omega)
  refine xs_pick (L2 := [(0, _), (1, _), (2, _), (4, _), (6, _)]) [2, 3, 4, 1, 0] rfl ?_
  exact unit N 0 (by omega)
end B3
