/-! the reference's script commands -/
theorem sgd_0 {d : Nat} (h : d < 10) : sgd d = 0 ↔ d = 0 := by
  unfold sgd
  split <;> omega
theorem sg3_0 (g : Nat) : sg3 g = (0, 0, 0) ↔ g % 1000 = 0 := by
  have h1 := sgd_0 (d := g / 100 % 10) (by omega)
  have h2 := sgd_0 (d := g / 10 % 10) (by omega)
  have h3 := sgd_0 (d := g % 10) (by omega)
  unfold sg3
  rw [Prod.mk.injEq, Prod.mk.injEq, h1, h2, h3]
  omega
theorem mlz_le {H : xG} {b : Nat} {V : zV} (h : mlz H b V) : (zl V).length ≤ 120 := by
  obtain ⟨_, _, ⟨_, _, _, _, _, _, _, _, _, hq⟩, _⟩ := h
  exact hq
section P6
variable {n b : Nat} {G : xG} {rf : Int32} {S : zS} {T : List Nat} {V W : zV} {A : List zV} {O : Option zV × Option zV} {sz sp ac zs ft : Int32} {gd : Bool}
theorem k_B_told {d : Nat} (hd : d < 10) : xK mB_told [.int (nI d)] n G 0 0 (qI n G (iI (sgd d))) xNo := by
  refine xK_of2 (L0 := [(0, _)]) (by decide +kernel) rfl (Nat.le_of_ble_eq_true rfl) rfl ?_
  refine xs_iload_n dB_told_0 rfl ?_
  refine xs_iconst (v := 5) dB_told_1 (by decide) ?_
  refine xs_icmp_ge dB_told_2 (fun h => ?_) (fun h => ?_)
  · have h9 : ¬ d ≤ 4 := fun e => by
      have := (nI_leI (a := 5) (by decide) (by omega)).mp h
      omega
    refine xs_iload_n dB_told_9 rfl ?_
    refine xs_bipush (v := 10) dB_told_10 (by decide) ?_
    refine xs_isub dB_told_12 ?_
    exact xs_iret dB_told_13 rfl rfl (by omega) (by omega) ⟨by
      rw [sgd, if_neg h9, iI_nat, show (10 : Int32) = iI 10 from rfl, iI_sub], rfl, rfl⟩
  · have h9 : d ≤ 4 := by
      have := nI_lt_of (b := 5) (by omega) (by omega) h
      omega
    refine xs_iload_n dB_told_5 rfl ?_
    refine xs_goto dB_told_6 ?_
    exact xs_iret dB_told_13 rfl rfl (by omega) (by omega) ⟨by rw [sgd, if_pos h9, iI_nat], rfl, rfl⟩
theorem k_B_has {r i : Nat} {f : Nat → Int32} (hr : G r = oI 70 f) (hf : mrow f V) (hl : V.1.length ≤ 16) (hi : i < 100000) : xK mB_has [.ref r, .int (nI i)] n G 0 0 (qI n G (bI (decide (i < V.1.length)))) xNo := by
  have i0 : vp_in (0 : Int32) 70 := fin70 (j := 0) (by decide)
  have j0 : (0 : Int32).toNatClampNeg = 0 := by decide
  refine xK_of2 (L0 := [(0, _), (1, _)]) (by decide +kernel) rfl (Nat.le_of_ble_eq_true rfl) rfl ?_
  refine xs_iload_n dB_has_0 rfl ?_
  refine xs_aload_n dB_has_1 rfl ?_
  refine xs_iconst (v := 0) dB_has_2 (by decide) ?_
  refine xs_iald dB_has_3 (by repeat (first | exact va_up_self _ _ _ | assumption | refine (va_up_ne _ _ (by omega)).trans ?_)) (by assumption) ?_
  rw [j0, hf.1.1]
  refine xs_icmp_ge dB_has_4 (fun h => ?_) (fun h => ?_)
  · have h9 := (nI_leI (by omega) (by omega)).mp h
    refine xs_iconst (v := 0) dB_has_11 (by decide) ?_
    exact xs_iret dB_has_12 rfl rfl (by omega) (by omega) ⟨by rw [bI_f (by omega)], rfl, rfl⟩
  · have h9 := nI_lt_of (by omega) (by omega) h
    refine xs_iconst (v := 1) dB_has_7 (by decide) ?_
    refine xs_goto dB_has_8 ?_
    exact xs_iret dB_has_12 rfl rfl (by omega) (by omega) ⟨by rw [bI_t h9], rfl, rfl⟩
abbrev dPost (n b : Nat) (G : xG) (rf : Int32) (T : List Nat) (V : zV) (A : List zV) (O : Option zV × Option zV) (res : Option zV) : Option Value → Nat → xG → Prop := qIx n (fun q H => q = bI res.isSome ∧ mdx H b rf T V A O ∧ (∀ U, res = some U → mRw H (b + 4) U) ∧ xfr b (b + 17) G H)
theorem dNo {H : xG} {res : Option zV} (hm : mdx H b rf T V A O) (hf : xfr b (b + 17) G H) (hr : res = none) : dPost n b G rf T V A O res (some (.int 0)) n H := by
  subst hr
  exact ⟨0, rfl, rfl, rfl, hm, (fun U e => by cases e), hf⟩
theorem dYes {H : xG} {res : Option zV} {U : zV} (hm : mdx H b rf T V A O) (hw : mRw H (b + 4) U) (hf : xfr b (b + 17) G H) (hr : res = some U) : dPost n b G rf T V A O res (some (.int 1)) n H := by
  subst hr
  exact ⟨1, rfl, rfl, rfl, hm, (fun U2 e => by cases e; exact hw), hf⟩
theorem k_B_does {g : Nat} (hg : g < 100000) (h : mdx G b rf T V A O) (hw : mRw G (b + 4) W) : xK mB_does [.ref b, .int (nI g)] n G 0 0 (dPost n b G rf T V A O (sCmd W g)) xNo := by
  obtain ⟨⟨sp, gd, zs, ft, hc⟩, k1, k2, k3, k4, k5, k6, k7, k8⟩ := id h
  obtain ⟨⟨th, h8⟩, ⟨wy0, h9w⟩, _⟩ := id k7
  obtain ⟨f, hr, hf, hV⟩ := id hw
  have hL := hV.1
  have rb : b < b + 4 ∧ b + 4 < b + 8 := ⟨by omega, by omega⟩
  have i0 : vp_in (0 : Int32) 70 := fin70 (j := 0) (by decide)
  have i1 : vp_in (1 : Int32) 70 := fin70 (j := 1) (by decide)
  have j0 : (0 : Int32).toNatClampNeg = 0 := by decide
  have j1 : (1 : Int32).toNatClampNeg = 1 := by decide
  have hd : g / 10000 = 0 ∨ g / 10000 = 1 ∨ g / 10000 = 2 ∨ g / 10000 = 3 ∨ g / 10000 = 4 ∨ g / 10000 = 5 ∨ g / 10000 = 6 ∨ g / 10000 = 7 ∨ g / 10000 = 8 ∨ g / 10000 = 9 := by omega
  obtain ⟨res, hres⟩ : ∃ res, res = sCmd W g := ⟨_, rfl⟩
  rw [← hres]
  have q1 : nI g / 10000 = nI (g / 10000) := nI_div (b := 10000) (by omega) (by decide) (by decide)
  have q2 : nI g / 1000 = nI (g / 1000) := nI_div (b := 1000) (by omega) (by decide) (by decide)
  have q2b : nI (g / 1000) - nI (g / 1000) / 10 * 10 = nI (g / 1000 % 10) := nI_rem (b := 10) (by omega) (by decide) (by decide)
  have q3 : nI g / 100 = nI (g / 100) := nI_div (b := 100) (by omega) (by decide) (by decide)
  have q3b : nI (g / 100) - nI (g / 100) / 10 * 10 = nI (g / 100 % 10) := nI_rem (b := 10) (by omega) (by decide) (by decide)
  have q4 : nI g / 10 = nI (g / 10) := nI_div (b := 10) (by omega) (by decide) (by decide)
  have q4b : nI (g / 10) - nI (g / 10) / 10 * 10 = nI (g / 10 % 10) := nI_rem (b := 10) (by omega) (by decide) (by decide)
  have q5 : nI g - nI (g / 10) * 10 = nI (g % 10) := by
    rw [← q4]
    exact nI_rem (b := 10) (by omega) (by decide) (by decide)
  have q6 : 10 * nI (g / 10 % 10) + nI (g % 10) = nI (g % 100) := by
    rw [show (10 : Int32) = nI 10 from rfl, show nI 10 * nI (g / 10 % 10) = nI (10 * (g / 10 % 10)) from (Int32.ofNat_mul 10 _).symm, nI_add2]
    congr 1
    omega
  have q7 : 10 * nI (g / 1000 % 10) + nI (g / 100 % 10) = nI (g % 10000 / 100) := by
    rw [show (10 : Int32) = nI 10 from rfl, show nI 10 * nI (g / 1000 % 10) = nI (10 * (g / 1000 % 10)) from (Int32.ofNat_mul 10 _).symm, nI_add2]
    congr 1
    omega
  have q8 : nI g - nI (g / 1000) * 1000 = nI (g % 1000) := by
    rw [← q2]
    exact nI_rem (b := 1000) (by omega) (by decide) (by decide)
  have hb6 := sg3_bd g
  have pbd := hb6.1
  have pbd2 := hb6.2.1
  have pbd3 := hb6.2.2
  -- from the tests on
  have go : ∀ pl : Bool, pl = decide (g % 10000 < 100) → xS mB_does n 0 0 (dPost n b G rf T V A O res) xNo 63 [(7, .int (nI (g % 100))), (6, .int (nI (g % 10))), (5, .int (nI (g / 10 % 10))), (4, .int (nI (g / 100 % 10))), (3, .int (nI (g / 1000 % 10))), (2, .int (nI (g / 10000))), (0, .ref b), (1, .int (nI g))] [.int (bI pl)] n G 0 0 := by
    intro pl hpl
    refine xs_istore (L2 := [(8, _), (7, _), (6, _), (5, _), (4, _), (3, _), (2, _), (0, _), (1, _)]) dB_does_63 (by decide) rfl ?_
    refine xs_iload_n dB_does_65 rfl ?_
    have e100 : pl = true → g % 100 = g % 10000 := fun e => by
      rw [hpl] at e
      have := of_decide_eq_true e
      omega
    have n100 : pl = false → ¬ g % 10000 < W.1.length := fun e => by
      rw [hpl] at e
      have := of_decide_eq_false e
      omega
    rcases hd with hh | hh | hh | hh | hh | hh | hh | hh | hh | hh
    · have e : res = none := by rw [hres, sCmd, hh]; rfl
      rw [hh]
      refine xs_tsOut (tgt := 483) dB_does_66 (by decide) (by decide) ?_
      refine xs_iconst (v := 0) dB_does_483 (by decide) ?_
      exact xs_iret dB_does_484 rfl rfl (by omega) (by omega) (dNo h xfr_rf e)
    · have e : res = (if g / 1000 % 10 ≤ 1 ∧ zwhy W.1 (sg3 g) ((g / 1000 % 10 : Nat) : Int) = 0 then some (zAdd W (dv (sg3 g), ((g / 1000 % 10 : Nat) : Int))) else none) := by rw [hres, sCmd, if_pos hh]
      rw [hh]
      refine xs_tsIn (tgt := 116) dB_does_66 (by decide) (by decide) rfl (by decide) ?_
      refine xs_iload_n dB_does_116 rfl ?_
      refine xs_iconst (v := 2) dB_does_117 (by decide) ?_
      refine xs_icmp_ge dB_does_118 (fun q => ?_) (fun q => ?_)
      · have h2 := (nI_leI (a := 2) (by omega) (by omega)).mp q
        refine xs_iconst (v := 0) dB_does_152 (by decide) ?_
        exact xs_iret dB_does_153 rfl rfl (by omega) (by omega) (dNo h xfr_rf (by rw [e, if_neg (by omega)]))
      · have h2 := nI_lt_of (b := 2) (by omega) (by omega) q
        refine xs_aload_n dB_does_121 rfl ?_
        refine xs_aload_n dB_does_122 rfl ?_
        refine xs_get dB_does_123 flB_19 (by repeat (first | exact va_up_self _ _ _ | assumption | refine (va_up_ne _ _ (by omega)).trans ?_)) rfl ?_
        refine xs_iload dB_does_126 rfl ?_
        refine xs_cS_i (As := [_]) dB_does_128 lkB_333 (k_B_told (by omega)) rfl rfl (Nat.le_of_ble_eq_true rfl) ⟨by decide, by decide⟩ ⟨by omega, by omega⟩ ?_
        refine xs_iload dB_does_131 rfl ?_
        refine xs_cS_i (As := [_]) dB_does_133 lkB_333 (k_B_told (by omega)) rfl rfl (Nat.le_of_ble_eq_true rfl) ⟨by decide, by decide⟩ ⟨by omega, by omega⟩ ?_
        refine xs_iload dB_does_136 rfl ?_
        refine xs_cS_i (As := [_]) dB_does_138 lkB_333 (k_B_told (by omega)) rfl rfl (Nat.le_of_ble_eq_true rfl) ⟨by decide, by decide⟩ ⟨by omega, by omega⟩ ?_
        refine xs_iload_n dB_does_141 rfl ?_
        rw [iI_nat (g / 1000 % 10)]
        refine xs_cV_ix (As := [_, _, _, _, _]) dB_does_142 lkB_164 (by repeat (first | exact va_up_self _ _ _ | assumption | refine (va_up_ne _ _ (by omega)).trans ?_)) (k_B_adds (x:=(sg3 g).1) (y:=(sg3 g).2.1) (z:=(sg3 g).2.2) (s:=((g / 1000 % 10 : Nat) : Int)) hc h8 hr rb hV hf (bd_mono hb6 (by decide)) (by omega)) rfl rfl (Nat.le_of_ble_eq_true rfl) ⟨by decide, by decide⟩ ⟨by omega, by omega⟩ ?_
        intro q H ⟨p1, p2, ⟨f2, p3, p4⟩, p5, p6⟩
        rw [show (((sg3 g).1, (sg3 g).2.1, (sg3 g).2.2) : P3) = sg3 g from rfl] at p1 p4 p5
        subst p1
        have hm := mdx_t h p2 ⟨f2, p3⟩ p6
        have fm := rfr_x p6 rb
        refine xs_ifb_eq dB_does_145 (fun hb => ?_) (fun hb => ?_)
        · have hb2 := of_decide_eq_false hb
          refine xs_iconst (v := 0) dB_does_152 (by decide) ?_
          exact xs_iret dB_does_153 rfl rfl (by omega) (by omega) (dNo hm fm (by rw [e, if_neg (fun w => hb2 w.2)]))
        · have hb2 := of_decide_eq_true hb
          have hput : zPut W (sg3 g) ((g / 1000 % 10 : Nat) : Int) = zAdd W (dv (sg3 g), ((g / 1000 % 10 : Nat) : Int)) := by rw [zPut, if_pos hb2]
          rw [hput] at p4 p5
          refine xs_iconst (v := 1) dB_does_148 (by decide) ?_
          refine xs_goto dB_does_149 ?_
          exact xs_iret dB_does_153 rfl rfl (by omega) (by omega) (dYes hm ⟨f2, p3, p4, p5⟩ fm (by rw [e, if_pos ⟨by omega, hb2⟩]))
    · have e : res = (if g % 10000 < W.1.length then some (zDrop W (g % 10000)) else none) := by rw [hres, sCmd, if_neg (by omega), if_pos hh]
      have no : ¬ g % 10000 < W.1.length → ∀ L, xS mB_does n 0 0 (dPost n b G rf T V A O res) xNo 171 L [] n G 0 0 := by
        intro hn L
        refine xs_iconst (v := 0) dB_does_171 (by decide) ?_
        exact xs_iret dB_does_172 rfl rfl (by omega) (by omega) (dNo h xfr_rf (by rw [e, if_neg hn]))
      rw [hh]
      refine xs_tsIn (tgt := 154) dB_does_66 (by decide) (by decide) rfl (by decide) ?_
      refine xs_iload dB_does_154 rfl ?_
      refine xs_ifb_eq dB_does_156 (fun hb => no (n100 hb) _) (fun hb => ?_)
      rw [e100 hb]
      refine xs_aload_n dB_does_159 rfl ?_
      refine xs_get dB_does_160 flB_19 (by repeat (first | exact va_up_self _ _ _ | assumption | refine (va_up_ne _ _ (by omega)).trans ?_)) rfl ?_
      refine xs_iload dB_does_163 rfl ?_
      refine xs_cS_i (As := [_, _]) dB_does_165 lkB_336 (k_B_has hr hf hL (by omega)) rfl rfl (Nat.le_of_ble_eq_true rfl) ⟨by decide, by decide⟩ ⟨by omega, by omega⟩ ?_
      refine xs_ifb_ne dB_does_168 (fun hb => ?_) (fun hb => no (of_decide_eq_false hb) _)
      have hlt := of_decide_eq_true hb
      refine xs_aload_n dB_does_173 rfl ?_
      refine xs_get dB_does_174 flB_19 (by repeat (first | exact va_up_self _ _ _ | assumption | refine (va_up_ne _ _ (by omega)).trans ?_)) rfl ?_
      refine xs_iload dB_does_177 rfl ?_
      refine xs_cS_vx (As := [_, _]) dB_does_179 lkB_298 (k_B_drop hr hV hf hlt) rfl rfl (Nat.le_of_ble_eq_true rfl) ⟨by decide, by decide⟩ ⟨by omega, by omega⟩ ?_
      intro H ⟨g2, p3, p4⟩
      have p6 : rfr b (b + 4) G H := fun k h1 _ => by rw [p3, va_up_ne _ _ h1]
      have r4 : H (b + 4) = oI 70 g2 := by rw [p3, va_up_self]
      refine xs_iconst (v := 1) dB_does_182 (by decide) ?_
      exact xs_iret dB_does_183 rfl rfl (by omega) (by omega) (dYes (mdx_t h ⟨th, by rw [p3, va_up_ne _ _ (by omega)]; exact h8⟩ ⟨g2, r4⟩ p6) ⟨g2, r4, p4, zOk_drop hV⟩ (rfr_x p6 rb) (by rw [e, if_pos hlt]))
    · have e : res = (if g % 10000 ≤ 4 then some (W.1, ((g % 10000 : Nat) : Int), W.2.2) else none) := by rw [hres, sCmd, if_neg (by omega), if_neg (by omega), if_pos hh]
      have no : ¬ g % 10000 ≤ 4 → ∀ L, xS mB_does n 0 0 (dPost n b G rf T V A O res) xNo 195 L [] n G 0 0 := by
        intro hn L
        refine xs_iconst (v := 0) dB_does_195 (by decide) ?_
        exact xs_iret dB_does_196 rfl rfl (by omega) (by omega) (dNo h xfr_rf (by rw [e, if_neg hn]))
      rw [hh]
      refine xs_tsIn (tgt := 184) dB_does_66 (by decide) (by decide) rfl (by decide) ?_
      refine xs_iload dB_does_184 rfl ?_
      refine xs_ifb_eq dB_does_186 (fun hb => no (fun w => ?_) _) (fun hb => ?_)
      · rw [hpl] at hb
        have := of_decide_eq_false hb
        omega
      rw [e100 hb]
      refine xs_iload dB_does_189 rfl ?_
      refine xs_iconst (v := 4) dB_does_191 (by decide) ?_
      refine xs_icmp_le dB_does_192 (fun q => ?_) (fun q => no (fun w => q (nI_le w (by decide))) _)
      have hle := (nI_leI (b := 4) (by omega) (by decide)).mp q
      refine xs_aload_n dB_does_197 rfl ?_
      refine xs_get dB_does_198 flB_19 (by repeat (first | exact va_up_self _ _ _ | assumption | refine (va_up_ne _ _ (by omega)).trans ?_)) rfl ?_
      refine xs_iconst (v := 1) dB_does_201 (by decide) ?_
      refine xs_iload dB_does_202 rfl ?_
      refine xs_iast dB_does_204 (by repeat (first | exact va_up_self _ _ _ | assumption | refine (va_up_ne _ _ (by omega)).trans ?_)) (by assumption) ?_
      refine xs_iconst (v := 1) dB_does_205 (by decide) ?_
      rw [j1]
      have hg1 := mrow_sys (s := nI (g % 10000)) hf
      have es : (nI (g % 10000)).toInt = ((g % 10000 : Nat) : Int) := by rw [iI_nat, iI_T (by omega)]
      rw [es] at hg1
      have p6 : rfr b (b + 4) G (va_up G (b + 4) (oI 70 (upd f 1 (nI (g % 10000))))) := fun k h1 _ => va_up_ne _ _ h1
      exact xs_iret dB_does_206 rfl rfl (by omega) (by omega) (dYes (mdx_t h ⟨th, by rw [va_up_ne _ _ (by omega)]; exact h8⟩ ⟨_, va_up_self _ _ _⟩ p6) ⟨_, va_up_self _ _ _, hg1, hV.1, hV.2.1, ⟨by show (0 : Int) ≤ ((g % 10000 : Nat) : Int); omega, by show ((g % 10000 : Nat) : Int) ≤ 4; omega⟩, hV.2.2.2⟩ (rfr_x p6 rb) (by rw [e, if_pos hle]))
    · have e : res = sCmd W g := hres
      rw [sCmd, if_neg (by omega), if_neg (by omega), if_neg (by omega), if_pos hh] at e
      have no : W.1[g % 10000]? = none → ∀ L, xS mB_does n 0 0 (dPost n b G rf T V A O res) xNo 224 L [] n G 0 0 := by
        intro hn L
        refine xs_iconst (v := 0) dB_does_224 (by decide) ?_
        exact xs_iret dB_does_225 rfl rfl (by omega) (by omega) (dNo h xfr_rf (by rw [e, hn]))
      rw [hh]
      refine xs_tsIn (tgt := 207) dB_does_66 (by decide) (by decide) rfl (by decide) ?_
      refine xs_iload dB_does_207 rfl ?_
      refine xs_ifb_eq dB_does_209 (fun hb => no (List.getElem?_eq_none (by have := n100 hb; omega)) _) (fun hb => ?_)
      rw [e100 hb]
      refine xs_aload_n dB_does_212 rfl ?_
      refine xs_get dB_does_213 flB_19 (by repeat (first | exact va_up_self _ _ _ | assumption | refine (va_up_ne _ _ (by omega)).trans ?_)) rfl ?_
      refine xs_iload dB_does_216 rfl ?_
      refine xs_cS_i (As := [_, _]) dB_does_218 lkB_336 (k_B_has hr hf hL (by omega)) rfl rfl (Nat.le_of_ble_eq_true rfl) ⟨by decide, by decide⟩ ⟨by omega, by omega⟩ ?_
      refine xs_ifb_ne dB_does_221 (fun hb => ?_) (fun hb => no (List.getElem?_eq_none (by have := of_decide_eq_false hb; omega)) _)
      have hlt := of_decide_eq_true hb
      obtain ⟨c, hci⟩ : ∃ c, W.1[g % 10000]? = some c := ⟨_, List.getElem?_eq_getElem hlt⟩
      have hml : (zMis W c).length ≤ 48 := Nat.le_trans (List.length_filter_le _ _) (frm_le _ _)
      simp only [hci] at e
      refine xs_aload_n dB_does_226 rfl ?_
      refine xs_get dB_does_227 flB_19 (by repeat (first | exact va_up_self _ _ _ | assumption | refine (va_up_ne _ _ (by omega)).trans ?_)) rfl ?_
      refine xs_iconst (v := 0) dB_does_230 (by decide) ?_
      refine xs_iald dB_does_231 (by repeat (first | exact va_up_self _ _ _ | assumption | refine (va_up_ne _ _ (by omega)).trans ?_)) (by assumption) ?_
      rw [j0, hf.1.1]
      refine xs_istore (L2 := [(9, _), (8, _), (7, _), (6, _), (5, _), (4, _), (3, _), (2, _), (0, _), (1, _)]) dB_does_232 (by decide) rfl ?_
      refine xs_iload dB_does_234 rfl ?_
      refine xs_aload_n dB_does_236 rfl ?_
      refine xs_aload_n dB_does_237 rfl ?_
      refine xs_get dB_does_238 flB_19 (by repeat (first | exact va_up_self _ _ _ | assumption | refine (va_up_ne _ _ (by omega)).trans ?_)) rfl ?_
      refine xs_iload dB_does_241 rfl ?_
      refine xs_cV_ix (As := [_, _]) dB_does_243 lkB_285 (by repeat (first | exact va_up_self _ _ _ | assumption | refine (va_up_ne _ _ (by omega)).trans ?_)) (k_B_addForms hc h8 hr rb hV hf hci) rfl rfl (Nat.le_of_ble_eq_true rfl) ⟨by decide, by decide⟩ ⟨by omega, by omega⟩ ?_
      intro q H ⟨p1, p2, ⟨f2, W2, p3, p4, p5, p6⟩, p7⟩
      subst p1
      have hm := mdx_t h p2 ⟨f2, p3⟩ p7
      have fm := rfr_x p7 rb
      refine xs_iadd dB_does_246 ?_
      rw [nI_add2]
      refine xs_bipush (v := 16) dB_does_247 (by decide) ?_
      by_cases hle : W.1.length + (zMis W c).length ≤ 16
      · refine xs_icmp_gt dB_does_249 (fun q => absurd q (Int32.not_lt.mpr (nI_le (b := 16) hle (by decide)))) (fun _ => ?_)
        have hW2 := p6 hle
        subst hW2
        refine xs_iconst (v := 1) dB_does_252 (by decide) ?_
        refine xs_goto dB_does_253 ?_
        exact xs_iret dB_does_257 rfl rfl (by omega) (by omega) (dYes hm ⟨f2, p3, p4, p5⟩ fm (by rw [e, if_neg (by omega)]))
      · refine xs_icmp_gt dB_does_249 (fun _ => ?_) (fun q => absurd ((nI_leI (b := 16) (by omega) (by decide)).mp (Int32.not_lt.mp q)) hle)
        refine xs_iconst (v := 0) dB_does_256 (by decide) ?_
        exact xs_iret dB_does_257 rfl rfl (by omega) (by omega) (dNo hm fm (by rw [e, if_pos (by omega)]))
    · have e : res = if g / 1000 % 10 = 0 ∧ wPl (sg3 g).1 (sg3 g).2.1 (sg3 g).2.2 = true then some (zAim W (sg3 g)) else none := by rw [hres, sCmd, if_neg (by omega), if_neg (by omega), if_neg (by omega), if_neg (by omega), if_pos hh]
      have no : res = none → ∀ L, xS mB_does n 0 0 (dPost n b G rf T V A O res) xNo 283 L [] n G 0 0 := by
        intro hn L
        refine xs_iconst (v := 0) dB_does_283 (by decide) ?_
        exact xs_iret dB_does_284 rfl rfl (by omega) (by omega) (dNo h xfr_rf hn)
      rw [hh]
      refine xs_tsIn (tgt := 258) dB_does_66 (by decide) (by decide) rfl (by decide) ?_
      refine xs_iload_n dB_does_258 rfl ?_
      refine xs_if_ne dB_does_259 (fun q => no (by rw [e, if_neg (fun w => q (by rw [w.1]; rfl))]) _) (fun q => ?_)
      have h0 : g / 1000 % 10 = 0 := (nI_eq (b := 0) (by omega) (by decide)).mp q
      refine xs_iload dB_does_262 rfl ?_
      refine xs_cS_i (As := [_]) dB_does_264 lkB_333 (k_B_told (by omega)) rfl rfl (Nat.le_of_ble_eq_true rfl) ⟨by decide, by decide⟩ ⟨by omega, by omega⟩ ?_
      refine xs_iload dB_does_267 rfl ?_
      refine xs_cS_i (As := [_]) dB_does_269 lkB_333 (k_B_told (by omega)) rfl rfl (Nat.le_of_ble_eq_true rfl) ⟨by decide, by decide⟩ ⟨by omega, by omega⟩ ?_
      refine xs_iload dB_does_272 rfl ?_
      refine xs_cS_i (As := [_]) dB_does_274 lkB_333 (k_B_told (by omega)) rfl rfl (Nat.le_of_ble_eq_true rfl) ⟨by decide, by decide⟩ ⟨by omega, by omega⟩ ?_
      refine xs_cS_i (As := [_, _, _]) dB_does_277 lkB_306 (k_B_isPlane) rfl rfl (Nat.le_of_ble_eq_true rfl) ⟨by decide, by decide⟩ ⟨by omega, by omega⟩ ?_
      have w1 : (iI (sgd (g / 100 % 10))).toInt = (sg3 g).1 := iI_T (Nat.lt_trans pbd (by decide))
      have w2 : (iI (sgd (g / 10 % 10))).toInt = (sg3 g).2.1 := iI_T (Nat.lt_trans pbd2 (by decide))
      have w3 : (iI (sgd (g % 10))).toInt = (sg3 g).2.2 := iI_T (Nat.lt_trans pbd3 (by decide))
      rw [w1, w2, w3]
      refine xs_ifb_ne dB_does_280 (fun hb => ?_) (fun hb => no (by rw [e, if_neg (fun w => by rw [hb] at w; exact Bool.noConfusion w.2)]) _)
      obtain ⟨hb4, hne⟩ := wPl_b hb
      refine xs_aload_n dB_does_285 rfl ?_
      refine xs_aload_n dB_does_286 rfl ?_
      refine xs_get dB_does_287 flB_19 (by repeat (first | exact va_up_self _ _ _ | assumption | refine (va_up_ne _ _ (by omega)).trans ?_)) rfl ?_
      refine xs_iload dB_does_290 rfl ?_
      refine xs_cS_i (As := [_]) dB_does_292 lkB_333 (k_B_told (by omega)) rfl rfl (Nat.le_of_ble_eq_true rfl) ⟨by decide, by decide⟩ ⟨by omega, by omega⟩ ?_
      refine xs_iload dB_does_295 rfl ?_
      refine xs_cS_i (As := [_]) dB_does_297 lkB_333 (k_B_told (by omega)) rfl rfl (Nat.le_of_ble_eq_true rfl) ⟨by decide, by decide⟩ ⟨by omega, by omega⟩ ?_
      refine xs_iload dB_does_300 rfl ?_
      refine xs_cS_i (As := [_]) dB_does_302 lkB_333 (k_B_told (by omega)) rfl rfl (Nat.le_of_ble_eq_true rfl) ⟨by decide, by decide⟩ ⟨by omega, by omega⟩ ?_
      refine xs_cV_vx (As := [_, _, _, _]) dB_does_305 lkB_206 (by repeat (first | exact va_up_self _ _ _ | assumption | refine (va_up_ne _ _ (by omega)).trans ?_)) (k_B_setPlane (x:=(sg3 g).1) (y:=(sg3 g).2.1) (z:=(sg3 g).2.2) hc h8 hr rb hf hb4) rfl rfl (Nat.le_of_ble_eq_true rfl) ⟨by decide, by decide⟩ ⟨by omega, by omega⟩ ?_
      intro H ⟨p2, ⟨f2, p3, p4⟩, p6⟩
      have hm := mdx_t h p2 ⟨f2, p3⟩ p6
      refine xs_iconst (v := 1) dB_does_308 (by decide) ?_
      exact xs_iret dB_does_309 rfl rfl (by omega) (by omega) (dYes hm ⟨f2, p3, p4, zOk_aim hV hb4 hne⟩ (rfr_x p6 rb) (by rw [e, if_pos ⟨h0, hb⟩]))
    · have e : res = (if sg3 g ≠ (0, 0, 0) ∧ g / 1000 % 10 ≤ pc (mem (zDirs W) (sg3 g)) then some W else none) := by rw [hres, sCmd, if_neg (by omega), if_neg (by omega), if_neg (by omega), if_neg (by omega), if_neg (by omega), if_pos hh]
      rw [hh]
      refine xs_tsIn (tgt := 310) dB_does_66 (by decide) (by decide) rfl (by decide) ?_
      refine xs_aload_n dB_does_310 rfl ?_
      refine xs_aload_n dB_does_311 rfl ?_
      refine xs_get dB_does_312 flB_19 (by repeat (first | exact va_up_self _ _ _ | assumption | refine (va_up_ne _ _ (by omega)).trans ?_)) rfl ?_
      refine xs_cV_vx (As := [_]) dB_does_315 lkB_118 (by repeat (first | exact va_up_self _ _ _ | assumption | refine (va_up_ne _ _ (by omega)).trans ?_)) (k_B_layWays hc h8 h9w hr (by omega) hV hf) rfl rfl (Nat.le_of_ble_eq_true rfl) ⟨by decide, by decide⟩ ⟨by omega, by omega⟩ ?_
      intro H ⟨p1, ⟨wy, p2, p3⟩, p4⟩
      have hm := mdx_w h p1 ⟨_, p2⟩ p4
      have fm : xfr b (b + 17) G H := fun k hk => p4 k (by omega)
      have cH : H b = mCl b rf (nI T.length) sp gd (nI A.length) zs ft := by rw [p4 _ (by omega)]; exact hc
      have rH : H (b + 4) = oI 70 f := by rw [p4 _ (by omega)]; exact hr
      have no : res = none → ∀ L, xS mB_does n 0 0 (dPost n b G rf T V A O res) xNo 365 L [] n H 0 0 := by
        intro hn L
        refine xs_iconst (v := 0) dB_does_365 (by decide) ?_
        exact xs_iret dB_does_366 rfl rfl (by omega) (by omega) (dNo hm fm hn)
      refine xs_iload_n dB_does_318 rfl ?_
      refine xs_sipush (v := 1000) dB_does_319 (by decide) ?_
      refine xs_irem dB_does_322 (nI_ne (b:=1000) (by decide) (by decide)) ?_
      rw [q2, q8]
      refine xs_if_eq dB_does_323 (fun q => no (by rw [e, if_neg (fun w => w.1 ((sg3_0 g).mpr ((nI_eq (b := 0) (by omega) (by decide)).mp q)))]) _) (fun q => ?_)
      have hne : sg3 g ≠ (0, 0, 0) := fun w => q (by rw [(sg3_0 g).mp w]; rfl)
      have hok := zDirs_ok hV
      have hdl : (zDirs W).length = W.1.length := List.length_map _
      have hlt := mem_lt (zDirs W) (sg3 g) hok.1
      have hpc := pc_le (mem (zDirs W) (sg3 g))
      refine xs_aload_n dB_does_326 rfl ?_
      refine xs_aload_n dB_does_327 rfl ?_
      refine xs_get dB_does_328 flB_19 (by repeat (first | exact va_up_self _ _ _ | assumption | refine (va_up_ne _ _ (by omega)).trans ?_)) rfl ?_
      refine xs_iconst (v := 0) dB_does_331 (by decide) ?_
      refine xs_iald dB_does_332 (by repeat (first | exact va_up_self _ _ _ | assumption | refine (va_up_ne _ _ (by omega)).trans ?_)) (by assumption) ?_
      rw [j0, hf.1.1, ← hdl]
      refine xs_iload dB_does_333 rfl ?_
      refine xs_cS_i (As := [_]) dB_does_335 lkB_333 (k_B_told (by omega)) rfl rfl (Nat.le_of_ble_eq_true rfl) ⟨by decide, by decide⟩ ⟨by omega, by omega⟩ ?_
      refine xs_i2l dB_does_338 ?_
      refine xs_iload dB_does_339 rfl ?_
      refine xs_cS_i (As := [_]) dB_does_341 lkB_333 (k_B_told (by omega)) rfl rfl (Nat.le_of_ble_eq_true rfl) ⟨by decide, by decide⟩ ⟨by omega, by omega⟩ ?_
      refine xs_i2l dB_does_344 ?_
      refine xs_iload dB_does_345 rfl ?_
      refine xs_cS_i (As := [_]) dB_does_347 lkB_333 (k_B_told (by omega)) rfl rfl (Nat.le_of_ble_eq_true rfl) ⟨by decide, by decide⟩ ⟨by omega, by omega⟩ ?_
      refine xs_i2l dB_does_350 ?_
      have w1 : (iI (sgd (g / 100 % 10))).toInt64 = iL (sg3 g).1 := iI_l (Nat.lt_trans pbd (by decide))
      have w2 : (iI (sgd (g / 10 % 10))).toInt64 = iL (sg3 g).2.1 := iI_l (Nat.lt_trans pbd2 (by decide))
      have w3 : (iI (sgd (g % 10))).toInt64 = iL (sg3 g).2.2 := iI_l (Nat.lt_trans pbd3 (by decide))
      rw [w1, w2, w3]
      refine xs_cV_i (As := [_, _, _, _]) dB_does_351 lkB_133 (by repeat (first | exact va_up_self _ _ _ | assumption | refine (va_up_ne _ _ (by omega)).trans ?_)) (k_B_facesIn cH p2 p3 hok (bd_mono hb6 (by decide))) rfl rfl (Nat.le_of_ble_eq_true rfl) ⟨by decide, by decide⟩ ⟨by omega, by omega⟩ ?_
      refine xs_cS_i (As := [_]) dB_does_354 lkB_110 (k_B_count hlt) rfl rfl (Nat.le_of_ble_eq_true rfl) ⟨by decide, by decide⟩ ⟨by omega, by omega⟩ ?_
      refine xs_iload_n dB_does_357 rfl ?_
      refine xs_icmp_lt dB_does_358 (fun q => ?_) (fun q => ?_)
      · have h8' := (nI_ltI (by omega) (by omega)).mp q
        exact no (by rw [e, if_neg (fun w => by have := w.2; omega)]) _
      · have h8' : g / 1000 % 10 ≤ pc (mem (zDirs W) (sg3 g)) := by
          rcases Nat.lt_or_ge (pc (mem (zDirs W) (sg3 g))) (g / 1000 % 10) with w | w
          · exact absurd (nI_lt w (by omega)) q
          · exact w
        refine xs_iconst (v := 1) dB_does_361 (by decide) ?_
        refine xs_goto dB_does_362 ?_
        exact xs_iret dB_does_366 rfl rfl (by omega) (by omega) (dYes hm ⟨f, rH, hf, hV⟩ fm (by rw [e, if_pos ⟨hne, h8'⟩]))
    · have e : res = (if g / 1000 % 10 = 0 ∧ g % 1000 ≤ zcn W then some W else none) := by rw [hres, sCmd, if_neg (by omega), if_neg (by omega), if_neg (by omega), if_neg (by omega), if_neg (by omega), if_neg (by omega), if_pos hh]
      rw [hh]
      refine xs_tsIn (tgt := 367) dB_does_66 (by decide) (by decide) rfl (by decide) ?_
      refine xs_iload_n dB_does_367 rfl ?_
      refine xs_if_ne dB_does_368 (fun q => ?_) (fun q => ?_)
      · refine xs_iconst (v := 0) dB_does_391 (by decide) ?_
        exact xs_iret dB_does_392 rfl rfl (by omega) (by omega) (dNo h xfr_rf (by rw [e, if_neg (fun w => q (by rw [w.1]; rfl))]))
      have h0 : g / 1000 % 10 = 0 := (nI_eq (b := 0) (by omega) (by decide)).mp q
      refine xs_aload_n dB_does_371 rfl ?_
      refine xs_aload_n dB_does_372 rfl ?_
      refine xs_get dB_does_373 flB_19 (by repeat (first | exact va_up_self _ _ _ | assumption | refine (va_up_ne _ _ (by omega)).trans ?_)) rfl ?_
      refine xs_cV_ix (As := [_]) dB_does_376 lkB_223 (by repeat (first | exact va_up_self _ _ _ | assumption | refine (va_up_ne _ _ (by omega)).trans ?_)) (k_B_zonesOf hc k7 hr rb hV hf) rfl rfl (Nat.le_of_ble_eq_true rfl) ⟨by decide, by decide⟩ ⟨by omega, by omega⟩ ?_
      intro q H ⟨p1, p2, p3, p4⟩
      subst p1
      have hm := mdx_z h ⟨_, _, _, _, p2⟩ (mwk_of p3) p4
      have fm := mfr_x p4
      have rH : H (b + 4) = oI 70 f := by rw [p4 _ (by omega) (by omega)]; exact hr
      have hz := zcn_eq (zSet_of p3.2.2.2)
      have hzl := mlz_le p3
      refine xs_iload_n dB_does_379 rfl ?_
      refine xs_sipush (v := 1000) dB_does_380 (by decide) ?_
      refine xs_irem dB_does_383 (nI_ne (b:=1000) (by decide) (by decide)) ?_
      rw [q2, q8]
      refine xs_icmp_lt dB_does_384 (fun q => ?_) (fun q => ?_)
      · have h8' := (nI_ltI (by omega) (by omega)).mp q
        refine xs_iconst (v := 0) dB_does_391 (by decide) ?_
        exact xs_iret dB_does_392 rfl rfl (by omega) (by omega) (dNo hm fm (by rw [e, if_neg (by omega)]))
      · have h8' : g % 1000 ≤ (zl W).length := by
          rcases Nat.lt_or_ge (zl W).length (g % 1000) with w | w
          · exact absurd (nI_lt w (by omega)) q
          · exact w
        refine xs_iconst (v := 1) dB_does_387 (by decide) ?_
        refine xs_goto dB_does_388 ?_
        exact xs_iret dB_does_392 rfl rfl (by omega) (by omega) (dYes hm ⟨f, rH, hf, hV⟩ fm (by rw [e, if_pos ⟨h0, by omega⟩]))
    · have e : res = sCmd W g := hres
      rw [sCmd, if_neg (by omega), if_neg (by omega), if_neg (by omega), if_neg (by omega), if_neg (by omega), if_neg (by omega), if_neg (by omega), if_pos hh] at e
      have no : res = none → ∀ L, xS mB_does n 0 0 (dPost n b G rf T V A O res) xNo 445 L [] n G 0 0 := by
        intro hn L
        refine xs_iconst (v := 0) dB_does_445 (by decide) ?_
        exact xs_iret dB_does_446 rfl rfl (by omega) (by omega) (dNo h xfr_rf hn)
      rw [hh]
      refine xs_tsIn (tgt := 393) dB_does_66 (by decide) (by decide) rfl (by decide) ?_
      refine xs_aload_n dB_does_393 rfl ?_
      refine xs_get dB_does_394 flB_19 (by repeat (first | exact va_up_self _ _ _ | assumption | refine (va_up_ne _ _ (by omega)).trans ?_)) rfl ?_
      refine xs_bipush (v := 10) dB_does_397 (by decide) ?_
      refine xs_iload_n dB_does_399 rfl ?_
      refine xs_imul dB_does_400 ?_
      refine xs_iload dB_does_401 rfl ?_
      refine xs_iadd dB_does_403 ?_
      rw [q7]
      refine xs_cS_i (As := [_, _]) dB_does_404 lkB_336 (k_B_has hr hf hL (by omega)) rfl rfl (Nat.le_of_ble_eq_true rfl) ⟨by decide, by decide⟩ ⟨by omega, by omega⟩ ?_
      cases he1 : W.1[g % 10000 / 100]? with
      | none =>
        have hn : ¬ g % 10000 / 100 < W.1.length := by
          have := List.getElem?_eq_none_iff.mp he1
          omega
        refine xs_ifb_eq dB_does_407 (fun _ => no (by rw [e, he1]) _) (fun hb => absurd (of_decide_eq_true hb) hn)
      | some c1 =>
        have hn := (List.getElem?_eq_some_iff.mp he1).1
        refine xs_ifb_eq dB_does_407 (fun hb => absurd hn (of_decide_eq_false hb)) (fun _ => ?_)
        refine xs_aload_n dB_does_410 rfl ?_
        refine xs_get dB_does_411 flB_19 (by repeat (first | exact va_up_self _ _ _ | assumption | refine (va_up_ne _ _ (by omega)).trans ?_)) rfl ?_
        refine xs_iload dB_does_414 rfl ?_
        refine xs_cS_i (As := [_, _]) dB_does_416 lkB_336 (k_B_has hr hf hL (by omega)) rfl rfl (Nat.le_of_ble_eq_true rfl) ⟨by decide, by decide⟩ ⟨by omega, by omega⟩ ?_
        cases he2 : W.1[g % 100]? with
        | none =>
          have hn2 : ¬ g % 100 < W.1.length := by
            have := List.getElem?_eq_none_iff.mp he2
            omega
          refine xs_ifb_eq dB_does_419 (fun _ => no (by rw [e, he1, he2]) _) (fun hb => absurd (of_decide_eq_true hb) hn2)
        | some c2 =>
          have hn2 := (List.getElem?_eq_some_iff.mp he2).1
          simp only [he1, he2] at e
          refine xs_ifb_eq dB_does_419 (fun hb => absurd hn2 (of_decide_eq_false hb)) (fun _ => ?_)
          refine xs_aload_n dB_does_422 rfl ?_
          refine xs_get dB_does_423 flB_19 (by repeat (first | exact va_up_self _ _ _ | assumption | refine (va_up_ne _ _ (by omega)).trans ?_)) rfl ?_
          refine xs_bipush (v := 10) dB_does_426 (by decide) ?_
          refine xs_iload_n dB_does_428 rfl ?_
          refine xs_imul dB_does_429 ?_
          refine xs_iload dB_does_430 rfl ?_
          refine xs_iadd dB_does_432 ?_
          rw [q7]
          refine xs_iload dB_does_433 rfl ?_
          refine xs_cS_i (As := [_, _, _]) dB_does_435 lkB_266 (k_B_areOneForm hr hV hf he1 he2) rfl rfl (Nat.le_of_ble_eq_true rfl) ⟨by decide, by decide⟩ ⟨by omega, by omega⟩ ?_
          refine xs_ifb_eq dB_does_438 (fun hb => no (by rw [e, hb]; rfl) _) (fun hb => ?_)
          refine xs_iconst (v := 1) dB_does_441 (by decide) ?_
          refine xs_goto dB_does_442 ?_
          exact xs_iret dB_does_446 rfl rfl (by omega) (by omega) (dYes h hw xfr_rf (by rw [e, if_pos hb]))
    · have e : res = sCmd W g := hres
      rw [sCmd, if_neg (by omega), if_neg (by omega), if_neg (by omega), if_neg (by omega), if_neg (by omega), if_neg (by omega), if_neg (by omega), if_neg (by omega), if_pos hh] at e
      have no : W.1[g % 10000]? = none → ∀ L, xS mB_does n 0 0 (dPost n b G rf T V A O res) xNo 481 L [] n G 0 0 := by
        intro hn L
        refine xs_iconst (v := 0) dB_does_481 (by decide) ?_
        exact xs_iret dB_does_482 rfl rfl (by omega) (by omega) (dNo h xfr_rf (by rw [e, hn]))
      rw [hh]
      refine xs_tsIn (tgt := 447) dB_does_66 (by decide) (by decide) rfl (by decide) ?_
      refine xs_iload dB_does_447 rfl ?_
      refine xs_ifb_eq dB_does_449 (fun hb => no (List.getElem?_eq_none (by have := n100 hb; omega)) _) (fun hb => ?_)
      rw [e100 hb]
      refine xs_aload_n dB_does_452 rfl ?_
      refine xs_get dB_does_453 flB_19 (by repeat (first | exact va_up_self _ _ _ | assumption | refine (va_up_ne _ _ (by omega)).trans ?_)) rfl ?_
      refine xs_iload dB_does_456 rfl ?_
      refine xs_cS_i (As := [_, _]) dB_does_458 lkB_336 (k_B_has hr hf hL (by omega)) rfl rfl (Nat.le_of_ble_eq_true rfl) ⟨by decide, by decide⟩ ⟨by omega, by omega⟩ ?_
      refine xs_ifb_eq dB_does_461 (fun hb => no (List.getElem?_eq_none (by have := of_decide_eq_false hb; omega)) _) (fun hb => ?_)
      have hlt := of_decide_eq_true hb
      obtain ⟨c, hci⟩ : ∃ c, W.1[g % 10000]? = some c := ⟨_, List.getElem?_eq_getElem hlt⟩
      simp only [hci] at e
      refine xs_aload_n dB_does_464 rfl ?_
      refine xs_aload_n dB_does_465 rfl ?_
      refine xs_get dB_does_466 flB_19 (by repeat (first | exact va_up_self _ _ _ | assumption | refine (va_up_ne _ _ (by omega)).trans ?_)) rfl ?_
      refine xs_iload dB_does_469 rfl ?_
      refine xs_cV_ix (As := [_, _]) dB_does_471 lkB_294 (by repeat (first | exact va_up_self _ _ _ | assumption | refine (va_up_ne _ _ (by omega)).trans ?_)) (k_B_addsTwin hc h8 hr rb hV hf hci) rfl rfl (Nat.le_of_ble_eq_true rfl) ⟨by decide, by decide⟩ ⟨by omega, by omega⟩ ?_
      intro q H ⟨p1, p2, ⟨f2, p3, p4⟩, p5, p6⟩
      subst p1
      have hm := mdx_t h p2 ⟨f2, p3⟩ p6
      have fm := rfr_x p6 rb
      refine xs_ifb_eq dB_does_474 (fun hb => ?_) (fun hb => ?_)
      · have hb2 := of_decide_eq_false hb
        refine xs_iconst (v := 0) dB_does_481 (by decide) ?_
        exact xs_iret dB_does_482 rfl rfl (by omega) (by omega) (dNo hm fm (by rw [e, if_neg hb2]))
      · have hb2 := of_decide_eq_true hb
        have hput : zPut W c.1 (1 - c.2) = zAdd W (dv c.1, 1 - c.2) := by rw [zPut, if_pos hb2]
        rw [hput] at p4 p5
        refine xs_iconst (v := 1) dB_does_477 (by decide) ?_
        refine xs_goto dB_does_478 ?_
        exact xs_iret dB_does_482 rfl rfl (by omega) (by omega) (dYes hm ⟨f2, p3, p4, p5⟩ fm (by rw [e, if_pos hb2]))
  refine xK_of2 (L0 := [(0, _), (1, _)]) (by decide +kernel) rfl (Nat.le_of_ble_eq_true rfl) rfl ?_
  refine xs_iload_n dB_does_0 rfl ?_
  refine xs_sipush (v := 10000) dB_does_1 (by decide) ?_
  refine xs_idiv dB_does_4 (nI_ne (b:=10000) (by decide) (by decide)) ?_
  refine xs_istore_n (L2 := [(2, _), (0, _), (1, _)]) dB_does_5 (by decide) rfl ?_
  refine xs_iload_n dB_does_6 rfl ?_
  refine xs_sipush (v := 1000) dB_does_7 (by decide) ?_
  refine xs_idiv dB_does_10 (nI_ne (b:=1000) (by decide) (by decide)) ?_
  refine xs_bipush (v := 10) dB_does_11 (by decide) ?_
  refine xs_irem dB_does_13 (nI_ne (b:=10) (by decide) (by decide)) ?_
  refine xs_istore_n (L2 := [(3, _), (2, _), (0, _), (1, _)]) dB_does_14 (by decide) rfl ?_
  refine xs_iload_n dB_does_15 rfl ?_
  refine xs_bipush (v := 100) dB_does_16 (by decide) ?_
  refine xs_idiv dB_does_18 (nI_ne (b:=100) (by decide) (by decide)) ?_
  refine xs_bipush (v := 10) dB_does_19 (by decide) ?_
  refine xs_irem dB_does_21 (nI_ne (b:=10) (by decide) (by decide)) ?_
  refine xs_istore (L2 := [(4, _), (3, _), (2, _), (0, _), (1, _)]) dB_does_22 (by decide) rfl ?_
  refine xs_iload_n dB_does_24 rfl ?_
  refine xs_bipush (v := 10) dB_does_25 (by decide) ?_
  refine xs_idiv dB_does_27 (nI_ne (b:=10) (by decide) (by decide)) ?_
  refine xs_bipush (v := 10) dB_does_28 (by decide) ?_
  refine xs_irem dB_does_30 (nI_ne (b:=10) (by decide) (by decide)) ?_
  refine xs_istore (L2 := [(5, _), (4, _), (3, _), (2, _), (0, _), (1, _)]) dB_does_31 (by decide) rfl ?_
  refine xs_iload_n dB_does_33 rfl ?_
  refine xs_bipush (v := 10) dB_does_34 (by decide) ?_
  refine xs_irem dB_does_36 (nI_ne (b:=10) (by decide) (by decide)) ?_
  refine xs_istore (L2 := [(6, _), (5, _), (4, _), (3, _), (2, _), (0, _), (1, _)]) dB_does_37 (by decide) rfl ?_
  refine xs_bipush (v := 10) dB_does_39 (by decide) ?_
  refine xs_iload dB_does_41 rfl ?_
  refine xs_imul dB_does_43 ?_
  refine xs_iload dB_does_44 rfl ?_
  refine xs_iadd dB_does_46 ?_
  refine xs_istore (L2 := [(7, _), (6, _), (5, _), (4, _), (3, _), (2, _), (0, _), (1, _)]) dB_does_47 (by decide) rfl ?_
  rw [q1, q2, q2b, q3, q3b, q4, q4b, q5, q6]
  refine xs_iload_n dB_does_49 rfl ?_
  refine xs_if_ne dB_does_50 (fun q => ?_) (fun q => ?_)
  · have h0 : ¬ g / 1000 % 10 = 0 := fun w => q (by rw [w]; rfl)
    refine xs_iconst (v := 0) dB_does_62 (by decide) ?_
    exact go false (by rw [decide_eq_false (by omega)])
  · have h0 : g / 1000 % 10 = 0 := (nI_eq (b := 0) (by omega) (by decide)).mp q
    refine xs_iload dB_does_53 rfl ?_
    refine xs_if_ne dB_does_55 (fun q => ?_) (fun q => ?_)
    · have h1 : ¬ g / 100 % 10 = 0 := fun w => q (by rw [w]; rfl)
      refine xs_iconst (v := 0) dB_does_62 (by decide) ?_
      exact go false (by rw [decide_eq_false (by omega)])
    · have h1 : g / 100 % 10 = 0 := (nI_eq (b := 0) (by omega) (by decide)).mp q
      refine xs_iconst (v := 1) dB_does_58 (by decide) ?_
      refine xs_goto dB_does_59 ?_
      exact go true (by rw [decide_eq_true (by omega)])
end P6
