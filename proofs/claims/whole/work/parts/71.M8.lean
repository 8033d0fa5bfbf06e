theorem al_sym (x y : Int) : al x y = al y x := by
  unfold al
  rw [Bool.eq_iff_iff, decide_eq_true_iff, decide_eq_true_iff]
  exact ⟨Eq.symm, Eq.symm⟩
theorem zEqP_sym {s : Int} {p q : P3} (h : zEqP s p q) : zEqP s q p := by
  unfold zEqP at *
  split at h
  next h0 =>
    rw [if_pos h0]
    rcases h with rfl | rfl
    · exact Or.inl rfl
    · exact Or.inr (ng_ng q).symm
  next h0 =>
    rw [if_neg h0]
    split at h
    next h1 => rw [if_pos h1]; omega
    next h1 =>
      rw [if_neg h1]
      split at h
      next h2 => rw [if_pos h2]; omega
      next h2 =>
        rw [if_neg h2]
        split at h
        next h3 => rw [if_pos h3]; omega
        next h3 =>
          rw [if_neg h3]
          generalize p.1.natAbs = x1 at *
          generalize p.2.1.natAbs = x2 at *
          generalize p.2.2.natAbs = x3 at *
          generalize q.1.natAbs = y1 at *
          generalize q.2.1.natAbs = y2 at *
          generalize q.2.2.natAbs = y3 at *
          rcases h with ⟨h1, ⟨h2, h3⟩ | ⟨h2, h3⟩⟩ | ⟨h1, ⟨h2, h3⟩ | ⟨h2, h3⟩⟩ | ⟨h1, ⟨h2, h3⟩ | ⟨h2, h3⟩⟩ <;> subst h1 <;> subst h2 <;> subst h3 <;> simp
theorem zEq_sym {s : Int} {p q : P3} : zEq s p q = zEq s q p := by
  rw [Bool.eq_iff_iff, zEq_P, zEq_P]
  exact ⟨zEqP_sym, zEqP_sym⟩
section M8
variable {n b : Nat} {G : xG} {rf sz sp ac zs ft : Int32} {gd : Bool} {th : Nat → Int64}
theorem k_B_areOneForm {r i j : Nat} {f : Nat → Int32} {V : zV} {c d : zF} (hr : G r = oI 70 f) (hV : zOk V) (hf : mrow f V) (hc : V.1[i]? = some c) (hd : V.1[j]? = some d) :
    xK mB_areOneForm [.ref r, .int (nI i), .int (nI j)] n G 0 0 (qI n G (bI (zSame V c d))) xNo := by
  obtain ⟨⟨k0, k1, k2, k3⟩, g0, g1, g2, g3⟩ := mrow_get hf hc hV.1
  obtain ⟨⟨k4, k5, k6, k7⟩, g4, g5, g6, g7⟩ := mrow_get hf hd hV.1
  obtain ⟨⟨b1, b2, b3⟩, _, _, hch⟩ := hV.2.1 c (List.mem_of_getElem? hc)
  obtain ⟨⟨d1, d2, d3⟩, _, _, hdh⟩ := hV.2.1 d (List.mem_of_getElem? hd)
  have q := iI_eq (x := c.2) (y := d.2) (by omega) (by omega)
  refine xK_of2 (L0 := [(0, _), (1, _), (2, _)]) (by decide +kernel) rfl (Nat.le_of_ble_eq_true rfl) rfl ?_
  refine xs_aload_n dB_areOneForm_0 rfl ?_
  refine xs_iload_n dB_areOneForm_1 rfl ?_
  refine xs_iconst (v := 3) dB_areOneForm_2 (by decide) ?_
  refine xs_cS_i (As := [_, _]) dB_areOneForm_3 lkB_92 (k_B_cell (i:=i) (w:=3)) rfl rfl (Nat.le_of_ble_eq_true rfl) ⟨by decide, by decide⟩ ⟨by omega, by omega⟩ ?_
  refine xs_iald dB_areOneForm_6 (by repeat (first | exact va_up_self _ _ _ | assumption | refine (va_up_ne _ _ (by omega)).trans ?_)) (by assumption) ?_
  refine xs_aload_n dB_areOneForm_7 rfl ?_
  refine xs_iload_n dB_areOneForm_8 rfl ?_
  refine xs_iconst (v := 3) dB_areOneForm_9 (by decide) ?_
  refine xs_cS_i (As := [_, _]) dB_areOneForm_10 lkB_92 (k_B_cell (i:=j) (w:=3)) rfl rfl (Nat.le_of_ble_eq_true rfl) ⟨by decide, by decide⟩ ⟨by omega, by omega⟩ ?_
  refine xs_iald dB_areOneForm_13 (by repeat (first | exact va_up_self _ _ _ | assumption | refine (va_up_ne _ _ (by omega)).trans ?_)) (by assumption) ?_
  rw [g3, g7]
  refine xs_icmp_ne dB_areOneForm_14 (fun h => ?_) (fun h => ?_)
  · have h9 : ¬ c.2 = d.2 := fun e => h (q.mpr e)
    refine xs_iconst (v := 0) dB_areOneForm_50 (by decide) ?_
    exact xs_iret dB_areOneForm_51 rfl rfl (by omega) (by omega) ⟨by rw [zSame, decide_eq_false h9]; rfl, rfl, rfl⟩
  · have h9 : c.2 = d.2 := q.mp h
    refine xs_aload_n dB_areOneForm_17 rfl ?_
    refine xs_iload_n dB_areOneForm_18 rfl ?_
    refine xs_aload_n dB_areOneForm_19 rfl ?_
    refine xs_iload_n dB_areOneForm_20 rfl ?_
    refine xs_iconst (v := 0) dB_areOneForm_21 (by decide) ?_
    refine xs_cS_i (As := [_, _]) dB_areOneForm_22 lkB_92 (k_B_cell (i:=j) (w:=0)) rfl rfl (Nat.le_of_ble_eq_true rfl) ⟨by decide, by decide⟩ ⟨by omega, by omega⟩ ?_
    refine xs_iald dB_areOneForm_25 (by repeat (first | exact va_up_self _ _ _ | assumption | refine (va_up_ne _ _ (by omega)).trans ?_)) (by assumption) ?_
    refine xs_aload_n dB_areOneForm_26 rfl ?_
    refine xs_iload_n dB_areOneForm_27 rfl ?_
    refine xs_iconst (v := 1) dB_areOneForm_28 (by decide) ?_
    refine xs_cS_i (As := [_, _]) dB_areOneForm_29 lkB_92 (k_B_cell (i:=j) (w:=1)) rfl rfl (Nat.le_of_ble_eq_true rfl) ⟨by decide, by decide⟩ ⟨by omega, by omega⟩ ?_
    refine xs_iald dB_areOneForm_32 (by repeat (first | exact va_up_self _ _ _ | assumption | refine (va_up_ne _ _ (by omega)).trans ?_)) (by assumption) ?_
    refine xs_aload_n dB_areOneForm_33 rfl ?_
    refine xs_iload_n dB_areOneForm_34 rfl ?_
    refine xs_iconst (v := 2) dB_areOneForm_35 (by decide) ?_
    refine xs_cS_i (As := [_, _]) dB_areOneForm_36 lkB_92 (k_B_cell (i:=j) (w:=2)) rfl rfl (Nat.le_of_ble_eq_true rfl) ⟨by decide, by decide⟩ ⟨by omega, by omega⟩ ?_
    refine xs_iald dB_areOneForm_39 (by repeat (first | exact va_up_self _ _ _ | assumption | refine (va_up_ne _ _ (by omega)).trans ?_)) (by assumption) ?_
    rw [g4, g5, g6]
    refine xs_cS_i (As := [_, _, _, _, _]) dB_areOneForm_40 lkB_152 (k_B_isLike hr hV hf hc (x:=d.1.1) (y:=d.1.2.1) (z:=d.1.2.2) (by omega) (by omega) (by omega)) rfl rfl (Nat.le_of_ble_eq_true rfl) ⟨by decide, by decide⟩ ⟨by omega, by omega⟩ ?_
    have hs : zSame V c d = zEq V.2.1 (d.1.1, d.1.2.1, d.1.2.2) c.1 := by
      rw [zSame, decide_eq_true h9, Bool.true_and, zEq_sym]
    refine xs_ifb_eq dB_areOneForm_43 (fun h => ?_) (fun h => ?_)
    · refine xs_iconst (v := 0) dB_areOneForm_50 (by decide) ?_
      exact xs_iret dB_areOneForm_51 rfl rfl (by omega) (by omega) ⟨by rw [hs, h]; rfl, rfl, rfl⟩
    · refine xs_iconst (v := 1) dB_areOneForm_46 (by decide) ?_
      refine xs_goto dB_areOneForm_47 ?_
      exact xs_iret dB_areOneForm_51 rfl rfl (by omega) (by omega) ⟨by rw [hs, h]; rfl, rfl, rfl⟩
theorem k_B_faceBy {r : Nat} {f : Nat → Int32} {V : zV} {p : P3} {s : Int} (hr : G r = oI 70 f) (hV : zOk V) (hf : mrow f V) (hp : bd 281474976710656 p) (hs : s.natAbs < 1000) :
    xK mB_faceBy [.ref r, .long (iL p.1), .long (iL p.2.1), .long (iL p.2.2), .int (iI s)] n G 0 0 (qIx n (fun q H => (q = -99999 ↔ (p, s) ∉ V.1) ∧ H = G)) xNo := by
  obtain ⟨p1, p2, p3⟩ := id hp
  have hL := hV.1
  have v0 : vp_in (0 : Int32) 70 := fin70 (j := 0) (by decide)
  have e0 : (0 : Int32).toNatClampNeg = 0 := by decide
  have loop : ∀ (m i : Nat), V.1.length - i < m → i ≤ V.1.length → (∀ j c, j < i → V.1[j]? = some c → c ≠ (p, s)) → xS mB_faceBy n 0 0 (qIx n (fun q H => (q = -99999 ↔ (p, s) ∉ V.1) ∧ H = G)) xNo 3 [(0, .ref r), (1, .long (iL p.1)), (3, .long (iL p.2.1)), (5, .long (iL p.2.2)), (7, .int (iI s)), (8, .int (nI i))] [] n G 0 0 := by
    intro m
    induction m with
    | zero => intro i q; exact absurd q (by omega)
    | succ m ih =>
      intro i q1 q2 hno
      refine xs_iload dB_faceBy_3 rfl ?_
      refine xs_aload_n dB_faceBy_5 rfl ?_
      refine xs_iconst (v := 0) dB_faceBy_6 (by decide) ?_
      refine xs_iald dB_faceBy_7 (by repeat (first | exact va_up_self _ _ _ | assumption | refine (va_up_ne _ _ (by omega)).trans ?_)) (by assumption) ?_
      rw [e0, hf.1.1]
      refine xs_icmp_ge dB_faceBy_8 (fun hg => ?_) (fun hg => ?_)
      · have hi := (nI_leI (by omega) (by omega)).mp hg
        refine xs_ldc dB_faceBy_76 kcB_109 ?_
        refine xs_iret dB_faceBy_78 rfl rfl (by omega) (by omega) ⟨_, rfl, rfl, ⟨fun _ hm => ?_, fun _ => rfl⟩, rfl⟩
        obtain ⟨j, hj⟩ := List.getElem?_of_mem hm
        exact hno j _ (by have := (List.getElem?_eq_some_iff.mp hj).1; omega) hj rfl
      · have hi : i < V.1.length := nI_lt_of (by omega) (by omega) hg
        obtain ⟨c, hc⟩ : ∃ c, V.1[i]? = some c := ⟨_, List.getElem?_eq_getElem hi⟩
        obtain ⟨⟨k0, k1, k2, k3⟩, g0, g1, g2, g3⟩ := mrow_get hf hc hL
        obtain ⟨⟨b1, b2, b3⟩, _, _, hch⟩ := hV.2.1 c (List.mem_of_getElem? hc)
        have l1 := iL_eq (x := c.1.1) (y := p.1) (by omega) (by omega)
        have l2 := iL_eq (x := c.1.2.1) (y := p.2.1) (by omega) (by omega)
        have l3 := iL_eq (x := c.1.2.2) (y := p.2.2) (by omega) (by omega)
        have l4 := iI_eq (x := c.2) (y := s) (by omega) (by omega)
        have next : c ≠ (p, s) → xS mB_faceBy n 0 0 (qIx n (fun q H => (q = -99999 ↔ (p, s) ∉ V.1) ∧ H = G)) xNo 70 [(0, .ref r), (1, .long (iL p.1)), (3, .long (iL p.2.1)), (5, .long (iL p.2.2)), (7, .int (iI s)), (8, .int (nI i))] [] n G 0 0 := by
          intro hne
          refine xs_iinc (L2 := [(8, _), (0, _), (1, _), (3, _), (5, _), (7, _)]) dB_faceBy_70 rfl rfl (by decide) rfl ?_
          refine xs_goto dB_faceBy_73 ?_
          refine xs_pick (L2 := [(0, _), (1, _), (3, _), (5, _), (7, _), (8, _)]) [1, 2, 3, 4, 5, 0] rfl ?_
          rw [xii]
          refine ih (i + 1) (by omega) (by omega) (fun j y hj hjy => ?_)
          by_cases hji : j = i
          · subst hji
            cases hc.symm.trans hjy
            exact hne
          · exact hno j y (by omega) hjy
        refine xs_aload_n dB_faceBy_11 rfl ?_
        refine xs_iload dB_faceBy_12 rfl ?_
        refine xs_iconst (v := 0) dB_faceBy_14 (by decide) ?_
        refine xs_cS_i (As := [_, _]) dB_faceBy_15 lkB_92 (k_B_cell (i:=i) (w:=0)) rfl rfl (Nat.le_of_ble_eq_true rfl) ⟨by decide, by decide⟩ ⟨by omega, by omega⟩ ?_
        refine xs_iald dB_faceBy_18 (by repeat (first | exact va_up_self _ _ _ | assumption | refine (va_up_ne _ _ (by omega)).trans ?_)) (by assumption) ?_
        rw [g0]
        refine xs_i2l dB_faceBy_19 ?_
        refine xs_lload_n dB_faceBy_20 rfl ?_
        rw [iI_l (by omega)]
        refine xs_lc_ne dB_faceBy_21 dB_faceBy_22 (fun h => next (fun e => h (l1.mpr (by rw [e])))) (fun h1 => ?_)
        refine xs_aload_n dB_faceBy_25 rfl ?_
        refine xs_iload dB_faceBy_26 rfl ?_
        refine xs_iconst (v := 1) dB_faceBy_28 (by decide) ?_
        refine xs_cS_i (As := [_, _]) dB_faceBy_29 lkB_92 (k_B_cell (i:=i) (w:=1)) rfl rfl (Nat.le_of_ble_eq_true rfl) ⟨by decide, by decide⟩ ⟨by omega, by omega⟩ ?_
        refine xs_iald dB_faceBy_32 (by repeat (first | exact va_up_self _ _ _ | assumption | refine (va_up_ne _ _ (by omega)).trans ?_)) (by assumption) ?_
        rw [g1]
        refine xs_i2l dB_faceBy_33 ?_
        refine xs_lload_n dB_faceBy_34 rfl ?_
        rw [iI_l (by omega)]
        refine xs_lc_ne dB_faceBy_35 dB_faceBy_36 (fun h => next (fun e => h (l2.mpr (by rw [e])))) (fun h2 => ?_)
        refine xs_aload_n dB_faceBy_39 rfl ?_
        refine xs_iload dB_faceBy_40 rfl ?_
        refine xs_iconst (v := 2) dB_faceBy_42 (by decide) ?_
        refine xs_cS_i (As := [_, _]) dB_faceBy_43 lkB_92 (k_B_cell (i:=i) (w:=2)) rfl rfl (Nat.le_of_ble_eq_true rfl) ⟨by decide, by decide⟩ ⟨by omega, by omega⟩ ?_
        refine xs_iald dB_faceBy_46 (by repeat (first | exact va_up_self _ _ _ | assumption | refine (va_up_ne _ _ (by omega)).trans ?_)) (by assumption) ?_
        rw [g2]
        refine xs_i2l dB_faceBy_47 ?_
        refine xs_lload dB_faceBy_48 rfl ?_
        rw [iI_l (by omega)]
        refine xs_lc_ne dB_faceBy_50 dB_faceBy_51 (fun h => next (fun e => h (l3.mpr (by rw [e])))) (fun h3 => ?_)
        refine xs_aload_n dB_faceBy_54 rfl ?_
        refine xs_iload dB_faceBy_55 rfl ?_
        refine xs_iconst (v := 3) dB_faceBy_57 (by decide) ?_
        refine xs_cS_i (As := [_, _]) dB_faceBy_58 lkB_92 (k_B_cell (i:=i) (w:=3)) rfl rfl (Nat.le_of_ble_eq_true rfl) ⟨by decide, by decide⟩ ⟨by omega, by omega⟩ ?_
        refine xs_iald dB_faceBy_61 (by repeat (first | exact va_up_self _ _ _ | assumption | refine (va_up_ne _ _ (by omega)).trans ?_)) (by assumption) ?_
        refine xs_iload dB_faceBy_62 rfl ?_
        rw [g3]
        refine xs_icmp_ne dB_faceBy_64 (fun h => next (fun e => h (l4.mpr (by rw [e])))) (fun h4 => ?_)
        have hcp : c = (p, s) := Prod.ext (Prod.ext (l1.mp h1) (Prod.ext (l2.mp h2) (l3.mp h3))) (l4.mp h4)
        refine xs_iload dB_faceBy_67 rfl ?_
        refine xs_iret dB_faceBy_69 rfl rfl (by omega) (by omega) ⟨_, rfl, rfl, ⟨fun e => ?_, fun e => absurd (hcp ▸ List.mem_of_getElem? hc) e⟩, rfl⟩
        have e2 : iI (i : Int) = iI (-99999) := by rw [← iI_nat]; exact e
        rw [iI_eq (by omega) (by decide)] at e2
        omega
  refine xK_of2 (L0 := [(0, _), (1, _), (3, _), (5, _), (7, _)]) (by decide +kernel) rfl (Nat.le_of_ble_eq_true rfl) rfl ?_
  refine xs_iconst (v := 0) dB_faceBy_0 (by decide) ?_
  refine xs_istore (L2 := [(8, _), (0, _), (1, _), (3, _), (5, _), (7, _)]) dB_faceBy_1 (by decide) rfl ?_
  refine xs_pick (L2 := [(0, _), (1, _), (3, _), (5, _), (7, _), (8, _)]) [1, 2, 3, 4, 5, 0] rfl ?_
  exact loop (V.1.length + 1) 0 (by omega) (by omega) (fun j c hj => absurd hj (by omega))
theorem k_B_why {r : Nat} {f : Nat → Int32} {V : zV} {x y z s : Int} (hc : G b = mCl b rf sz sp gd ac zs ft) (h8 : G (b + 8) = oL 3 th) (hr : G r = oI 70 f) (hrb : b < r ∧ r < b + 8) (hV : zOk V) (hf : mrow f V) (hp : bd 1000 (x, y, z)) (hs : s.natAbs < 1000) :
    xK mB_why [.ref b, .ref r, .int (iI x), .int (iI y), .int (iI z), .int (iI s)] n G 0 0 (qIx n (fun q H => q = nI (zwhy V.1 (x, y, z) s) ∧ ∃ th, H = va_up G (b + 8) (oL 3 th) ∧ t3P th (dv (x, y, z)))) xNo := by
  obtain ⟨p1, p2, p3⟩ := id hp
  simp only at p1 p2 p3
  have hdb : bd 1000 (dv (x, y, z)) := bd_dv hp
  have v0 : vp_in (0 : Int32) 70 := fin70 (j := 0) (by decide)
  have e0 : (0 : Int32).toNatClampNeg = 0 := by decide
  have e1 : (1 : Int32).toNatClampNeg = 1 := by decide
  have e2 : (2 : Int32).toNatClampNeg = 2 := by decide
  have u0 : vp_in (0 : Int32) 3 := in3 (j := 0) (by decide)
  have u1 : vp_in (1 : Int32) 3 := in3 (j := 1) (by decide)
  have u2 : vp_in (2 : Int32) 3 := in3 (j := 2) (by decide)
  have hL := hV.1
  refine xK_of2 (L0 := [(0, _), (1, _), (2, _), (3, _), (4, _), (5, _)]) (by decide +kernel) rfl (Nat.le_of_ble_eq_true rfl) rfl ?_
  refine xs_aload_n dB_why_0 rfl ?_
  refine xs_iload_n dB_why_1 rfl ?_
  refine xs_i2l dB_why_2 ?_
  refine xs_iload_n dB_why_3 rfl ?_
  refine xs_i2l dB_why_4 ?_
  refine xs_iload dB_why_5 rfl ?_
  refine xs_i2l dB_why_7 ?_
  rw [iI_l (by omega), iI_l (by omega), iI_l (by omega)]
  refine xs_cV_vx (As := [_, _, _]) dB_why_8 lkB_85 (by repeat (first | exact va_up_self _ _ _ | assumption | refine (va_up_ne _ _ (by omega)).trans ?_)) (k_B_divide (bd_mono hp (by decide)) hc h8) rfl rfl (Nat.le_of_ble_eq_true rfl) ⟨by decide, by decide⟩ ⟨by omega, by omega⟩ ?_
  intro H ⟨t2, hH, ht⟩
  have hcH : H b = mCl b rf sz sp gd ac zs ft := by rw [hH, va_up_ne _ _ (by omega)]; exact hc
  have h8H : H (b + 8) = oL 3 t2 := by rw [hH, va_up_self]
  have hrH : H r = oI 70 f := by rw [hH, va_up_ne _ _ (by omega)]; exact hr
  have fin : ∀ (w : Nat) (L : List (Nat × Value)), w = zwhy V.1 (x, y, z) s → xS mB_why n 0 0 (qIx n (fun q H => q = nI (zwhy V.1 (x, y, z) s) ∧ ∃ th, H = va_up G (b + 8) (oL 3 th) ∧ t3P th (dv (x, y, z)))) xNo 68 [(0, .ref b)] [.int (nI w)] n H 0 0 := by
    intro w L hw
    exact xs_iret dB_why_68 rfl rfl (by omega) (by omega) ⟨_, rfl, rfl, by rw [hw], t2, hH, ht⟩
  refine xs_aload_n dB_why_11 rfl ?_
  refine xs_cV_i (As := []) dB_why_12 lkB_125 (by repeat (first | exact va_up_self _ _ _ | assumption | refine (va_up_ne _ _ (by omega)).trans ?_)) (k_B_isNothing (bd_mono hdb (by decide)) hcH h8H ht) rfl rfl (Nat.le_of_ble_eq_true rfl) ⟨by decide, by decide⟩ ⟨by omega, by omega⟩ ?_
  by_cases hz : (x, y, z) = ((0, 0, 0) : P3)
  · have hdz : dv (x, y, z) = (0, 0, 0) := by rw [hz]; decide
    rw [bI_t hdz]
    refine xs_if_eq dB_why_15 (fun q => absurd q (by decide)) (fun _ => ?_)
    refine xs_iconst (v := 1) dB_why_18 (by decide) ?_
    refine xs_goto dB_why_19 ?_
    refine xs_pick (L2 := [(0, _)]) [0] rfl ?_
    exact fin 1 [] (by rw [zwhy, if_pos hz])
  · have hdz : ¬ dv (x, y, z) = (0, 0, 0) := dv_ne hz
    rw [bI_f hdz]
    refine xs_if_eq dB_why_15 (fun _ => ?_) (fun q => absurd rfl q)
    obtain ⟨t0, t1, t2'⟩ := id ht
    refine xs_aload_n dB_why_22 rfl ?_
    refine xs_aload_n dB_why_23 rfl ?_
    refine xs_get dB_why_24 flB_32 (by repeat (first | exact va_up_self _ _ _ | assumption | refine (va_up_ne _ _ (by omega)).trans ?_)) rfl ?_
    refine xs_iconst (v := 0) dB_why_27 (by decide) ?_
    refine xs_lald dB_why_28 (by repeat (first | exact va_up_self _ _ _ | assumption | refine (va_up_ne _ _ (by omega)).trans ?_)) (by assumption) ?_
    rw [e0, t0]
    refine xs_aload_n dB_why_29 rfl ?_
    refine xs_get dB_why_30 flB_32 (by repeat (first | exact va_up_self _ _ _ | assumption | refine (va_up_ne _ _ (by omega)).trans ?_)) rfl ?_
    refine xs_iconst (v := 1) dB_why_33 (by decide) ?_
    refine xs_lald dB_why_34 (by repeat (first | exact va_up_self _ _ _ | assumption | refine (va_up_ne _ _ (by omega)).trans ?_)) (by assumption) ?_
    rw [e1, t1]
    refine xs_aload_n dB_why_35 rfl ?_
    refine xs_get dB_why_36 flB_32 (by repeat (first | exact va_up_self _ _ _ | assumption | refine (va_up_ne _ _ (by omega)).trans ?_)) rfl ?_
    refine xs_iconst (v := 2) dB_why_39 (by decide) ?_
    refine xs_lald dB_why_40 (by repeat (first | exact va_up_self _ _ _ | assumption | refine (va_up_ne _ _ (by omega)).trans ?_)) (by assumption) ?_
    refine xs_iload dB_why_41 rfl ?_
    rw [e2, t2']
    refine xs_cS_ix (As := [_, _, _, _, _]) dB_why_43 lkB_156 (k_B_faceBy (p:=dv (x, y, z)) (s:=s) hrH hV hf (bd_mono hdb (by decide)) hs) rfl rfl (Nat.le_of_ble_eq_true rfl) ⟨by decide, by decide⟩ ⟨by omega, by omega⟩ ?_
    intro q H2 ⟨q1, q2⟩
    subst q2
    refine xs_ldc dB_why_46 kcB_109 ?_
    refine xs_icmp_eq dB_why_48 (fun h => ?_) (fun h => ?_)
    · have hnm := q1.mp h
      refine xs_aload_n dB_why_55 rfl ?_
      refine xs_iconst (v := 0) dB_why_56 (by decide) ?_
      refine xs_iald dB_why_57 (by repeat (first | exact va_up_self _ _ _ | assumption | refine (va_up_ne _ _ (by omega)).trans ?_)) (by assumption) ?_
      refine xs_bipush (v := 16) dB_why_58 (by decide) ?_
      rw [e0, hf.1.1]
      refine xs_icmp_ne dB_why_60 (fun h => ?_) (fun h => ?_)
      · have h16 : ¬ V.1.length = 16 := fun e => h (by rw [e]; rfl)
        refine xs_iconst (v := 0) dB_why_67 (by decide) ?_
        refine xs_pick (L2 := [(0, _)]) [0] rfl ?_
        exact fin 0 [] (by rw [zwhy, if_neg hz, if_neg hnm, if_neg (by omega)])
      · have h16 : V.1.length = 16 := (nI_eq (b := 16) (by omega) (by decide)).mp h
        refine xs_iconst (v := 3) dB_why_63 (by decide) ?_
        refine xs_goto dB_why_64 ?_
        refine xs_pick (L2 := [(0, _)]) [0] rfl ?_
        exact fin 3 [] (by rw [zwhy, if_neg hz, if_neg hnm, if_pos (by omega)])
    · have hm : (dv (x, y, z), s) ∈ V.1 := Classical.byContradiction fun e => h (q1.mpr e)
      refine xs_iconst (v := 2) dB_why_51 (by decide) ?_
      refine xs_goto dB_why_52 ?_
      refine xs_pick (L2 := [(0, _)]) [0] rfl ?_
      exact fin 2 [] (by rw [zwhy, if_neg hz, if_pos hm])
/-- a row changes, and the three numbers -/
def rfr (b r : Nat) (G H : xG) : Prop := ∀ k, k ≠ r → k ≠ b + 8 → H k = G k
theorem k_B_adds {r : Nat} {f : Nat → Int32} {V : zV} {x y z s : Int} (hc : G b = mCl b rf sz sp gd ac zs ft) (h8 : G (b + 8) = oL 3 th) (hr : G r = oI 70 f) (hrb : b < r ∧ r < b + 8) (hV : zOk V) (hf : mrow f V) (hp : bd 10 (x, y, z)) (hs : s = 0 ∨ s = 1) :
    xK mB_adds [.ref b, .ref r, .int (iI x), .int (iI y), .int (iI z), .int (iI s)] n G 0 0 (qIx n (fun q H => q = bI (decide (zwhy V.1 (x, y, z) s = 0)) ∧ (∃ th, H (b + 8) = oL 3 th) ∧ (∃ f2, H r = oI 70 f2 ∧ mrow f2 (zPut V (x, y, z) s)) ∧ zOk (zPut V (x, y, z) s) ∧ rfr b r G H)) xNo := by
  have hL := hV.1
  have hdb : bd 10 (dv (x, y, z)) := bd_dv hp
  have v0 : vp_in (0 : Int32) 70 := fin70 (j := 0) (by decide)
  have e0 : (0 : Int32).toNatClampNeg = 0 := by decide
  have hzl := zwhy_le (fs := V.1) (p := (x, y, z)) (s := s)
  refine xK_of2 (L0 := [(0, _), (1, _), (2, _), (3, _), (4, _), (5, _)]) (by decide +kernel) rfl (Nat.le_of_ble_eq_true rfl) rfl ?_
  refine xs_aload_n dB_adds_0 rfl ?_
  refine xs_aload_n dB_adds_1 rfl ?_
  refine xs_iload_n dB_adds_2 rfl ?_
  refine xs_iload_n dB_adds_3 rfl ?_
  refine xs_iload dB_adds_4 rfl ?_
  refine xs_iload dB_adds_6 rfl ?_
  refine xs_cV_ix (As := [_, _, _, _, _]) dB_adds_8 lkB_160 (by repeat (first | exact va_up_self _ _ _ | assumption | refine (va_up_ne _ _ (by omega)).trans ?_)) (k_B_why hc h8 hr hrb hV hf (bd_mono hp (by decide)) (by omega)) rfl rfl (Nat.le_of_ble_eq_true rfl) ⟨by decide, by decide⟩ ⟨by omega, by omega⟩ ?_
  intro q H ⟨q1, t2, hH, ht⟩
  subst q1
  have hcH : H b = mCl b rf sz sp gd ac zs ft := by rw [hH, va_up_ne _ _ (by omega)]; exact hc
  have h8H : H (b + 8) = oL 3 t2 := by rw [hH, va_up_self]
  have hrH : H r = oI 70 f := by rw [hH, va_up_ne _ _ (by omega)]; exact hr
  have hfr : rfr b r G H := fun k h1 h2 => by rw [hH, va_up_ne _ _ h2]
  clear hH
  refine xs_if_eq dB_adds_11 (fun h => ?_) (fun h => ?_)
  · have h0 : zwhy V.1 (x, y, z) s = 0 := (nI_eq (b := 0) (by omega) (by decide)).mp h
    obtain ⟨w1, w2, w3⟩ := zwhy_0i h0
    have hput : zPut V (x, y, z) s = zAdd V (dv (x, y, z), s) := by rw [zPut, if_pos h0]
    have hok : zOk (zAdd V (dv (x, y, z), s)) := zOk_add hV w3 (fOk_dv hp w1 hs)
    have ht3 := t3P_iff.mp ht
    obtain ⟨N, hN⟩ : ∃ N, N = V.1.length := ⟨_, rfl⟩
    have loop : ∀ (m j : Nat) (f2 : Nat → Int32) (H2 : xG), j + m = 3 → H2 (b + 8) = oL 3 t2 → H2 b = mCl b rf sz sp gd ac zs ft → H2 r = oI 70 f2 → (∀ q, q < j → f2 (6 + 4 * N + q) = iI (c3 (dv (x, y, z)) q)) → (∀ q, q < 6 + 4 * N → f2 q = f q) → rfr b r G H2 →
        xS mB_adds n 0 0 (qIx n (fun q H => q = bI (decide (zwhy V.1 (x, y, z) s = 0)) ∧ (∃ th, H (b + 8) = oL 3 th) ∧ (∃ f2, H r = oI 70 f2 ∧ mrow f2 (zPut V (x, y, z) s)) ∧ zOk (zPut V (x, y, z) s) ∧ rfr b r G H)) xNo 24 [(0, .ref b), (1, .ref r), (5, .int (iI s)), (6, .int (nI N)), (7, .int (nI j))] [] n H2 0 0 := by
      intro m
      induction m with
      | zero =>
        intro j f2 H2 hj h82 hc2 hr2 hq1 hq2 hfr2
        have hj : j = 3 := by omega
        subst hj
        have v3 : vp_in (nI (6 + 4 * N + 3)) 70 := fin70 (by omega)
        refine xs_iload dB_adds_24 rfl ?_
        refine xs_iconst (v := 3) dB_adds_26 (by decide) ?_
        refine xs_icmp_ge dB_adds_27 (fun _ => ?_) (fun q => absurd (by decide) q)
        refine xs_aload_n dB_adds_53 rfl ?_
        refine xs_iload dB_adds_54 rfl ?_
        refine xs_iconst (v := 3) dB_adds_56 (by decide) ?_
        refine xs_cS_i (As := [_, _]) dB_adds_57 lkB_92 (k_B_cell (i:=N) (w:=3)) rfl rfl (Nat.le_of_ble_eq_true rfl) ⟨by decide, by decide⟩ ⟨by omega, by omega⟩ ?_
        refine xs_iload dB_adds_60 rfl ?_
        refine xs_iast dB_adds_62 (by repeat (first | exact va_up_self _ _ _ | assumption | refine (va_up_ne _ _ (by omega)).trans ?_)) (by assumption) ?_
        refine xs_aload_n dB_adds_63 rfl ?_
        refine xs_iconst (v := 0) dB_adds_64 (by decide) ?_
        refine xs_dup2 dB_adds_65 rfl rfl ?_
        refine xs_iald dB_adds_66 (by repeat (first | exact va_up_self _ _ _ | assumption | refine (va_up_ne _ _ (by omega)).trans ?_)) (by assumption) ?_
        refine xs_iconst (v := 1) dB_adds_67 (by decide) ?_
        refine xs_iadd dB_adds_68 ?_
        refine xs_iast dB_adds_69 (by repeat (first | exact va_up_self _ _ _ | assumption | refine (va_up_ne _ _ (by omega)).trans ?_)) (by assumption) ?_
        rw [bx_uu]
        refine xs_iconst (v := 1) dB_adds_70 (by decide) ?_
        refine xs_iret dB_adds_71 rfl rfl (by omega) (by omega) ⟨_, rfl, rfl, by rw [bI_t h0], ⟨t2, by rw [va_up_ne _ _ (by omega)]; exact h82⟩, ⟨_, va_up_self _ _ _, ?_⟩, by rw [hput]; exact hok, fun k h1 h2 => (va_up_ne _ _ h1).trans (hfr2 k h1 h2)⟩
        rw [hput, nI_clamp (by omega), e0]
        obtain ⟨⟨f0, f1, fa, f3, f4, f5⟩, hff⟩ := id hf
        have old : ∀ q, q < 6 + 4 * N → q ≠ 0 → (upd (upd f2 (6 + 4 * N + 3) (iI s)) 0 (upd f2 (6 + 4 * N + 3) (iI s) 0 + 1)) q = f q := by
          intro q hq hq0
          simp only [upd]
          rw [if_neg hq0, if_neg (by omega)]
          exact hq2 q hq
        have new : ∀ q, q < 3 → (upd (upd f2 (6 + 4 * N + 3) (iI s)) 0 (upd f2 (6 + 4 * N + 3) (iI s) 0 + 1)) (6 + 4 * N + q) = iI (c3 (dv (x, y, z)) q) := by
          intro q hq
          simp only [upd]
          rw [if_neg (by omega), if_neg (by omega)]
          exact hq1 q hq
        refine ⟨⟨?_, ?_, ?_, ?_, ?_, ?_⟩, fun k c hk => ?_⟩
        · simp only [upd, if_true]
          rw [if_neg (by omega), hq2 0 (by omega), f0, add1]
          show nI (V.1.length + 1) = nI (V.1 ++ [(dv (x, y, z), s)]).length
          rw [List.length_append, List.length_singleton]
        · rw [old 1 (by omega) (by decide)]; exact f1
        · rw [old 2 (by omega) (by decide)]; exact fa
        · rw [old 3 (by omega) (by decide)]; exact f3
        · rw [old 4 (by omega) (by decide)]; exact f4
        · rw [old 5 (by omega) (by decide)]; exact f5
        · have hk2 : (V.1 ++ [(dv (x, y, z), s)])[k]? = some c := hk
          by_cases hkN : k < N
          · rw [List.getElem?_append_left (by omega)] at hk2
            obtain ⟨g0, g1, g2, g3⟩ := hff k c hk2
            rw [old _ (by omega) (by omega), old _ (by omega) (by omega), old _ (by omega) (by omega), old _ (by omega) (by omega)]
            exact ⟨g0, g1, g2, g3⟩
          · have hk3 := (List.getElem?_eq_some_iff.mp hk2).1
            rw [List.length_append, List.length_singleton] at hk3
            have hkN : k = N := by omega
            subst hkN
            rw [hN, List.getElem?_append_right (Nat.le_refl _), Nat.sub_self] at hk2
            cases hk2
            refine ⟨new 0 (by decide), new 1 (by decide), new 2 (by decide), ?_⟩
            simp only [upd]
            rw [if_neg (by omega), if_pos trivial]
      | succ m ih =>
        intro j f2 H2 hj h82 hc2 hr2 hq1 hq2 hfr2
        have vj := in3 (j := j) (by omega)
        have v3 : vp_in (nI (6 + 4 * N + j)) 70 := fin70 (by omega)
        refine xs_iload dB_adds_24 rfl ?_
        refine xs_iconst (v := 3) dB_adds_26 (by decide) ?_
        refine xs_icmp_ge dB_adds_27 (fun q => absurd ((nI_leI (a := 3) (by omega) (by omega)).mp q) (by omega)) (fun _ => ?_)
        refine xs_aload_n dB_adds_30 rfl ?_
        refine xs_iload dB_adds_31 rfl ?_
        refine xs_iload dB_adds_33 rfl ?_
        refine xs_cS_i (As := [_, _]) dB_adds_35 lkB_92 (k_B_cell (i:=N) (w:=j)) rfl rfl (Nat.le_of_ble_eq_true rfl) ⟨by decide, by decide⟩ ⟨by omega, by omega⟩ ?_
        refine xs_aload_n dB_adds_38 rfl ?_
        refine xs_get dB_adds_39 flB_32 (by repeat (first | exact va_up_self _ _ _ | assumption | refine (va_up_ne _ _ (by omega)).trans ?_)) rfl ?_
        refine xs_iload dB_adds_42 rfl ?_
        refine xs_lald dB_adds_44 (by repeat (first | exact va_up_self _ _ _ | assumption | refine (va_up_ne _ _ (by omega)).trans ?_)) (by assumption) ?_
        refine xs_l2i dB_adds_45 ?_
        rw [nI_clamp (by omega), ht3 j (by omega), iL_i]
        refine xs_iast dB_adds_46 (by repeat (first | exact va_up_self _ _ _ | assumption | refine (va_up_ne _ _ (by omega)).trans ?_)) (by assumption) ?_
        refine xs_iinc (L2 := [(7, _), (0, _), (1, _), (5, _), (6, _)]) dB_adds_47 rfl rfl (by decide) rfl ?_
        refine xs_goto dB_adds_50 ?_
        refine xs_pick (L2 := [(0, _), (1, _), (5, _), (6, _), (7, _)]) [1, 2, 3, 4, 0] rfl ?_
        rw [xii, nI_clamp (by omega)]
        refine ih (j + 1) _ _ (by omega) ?_ ?_ (va_up_self _ _ _) (fun q hq => ?_) (fun q hq => ?_) (fun k h1 h2 => (va_up_ne _ _ h1).trans (hfr2 k h1 h2))
        · rw [va_up_ne _ _ (by omega)]; exact h82
        · rw [va_up_ne _ _ (by omega)]; exact hc2
        · simp only [upd]
          by_cases hqj : q = j
          · subst hqj
            rw [if_pos rfl]
          · rw [if_neg (by omega)]
            exact hq1 q (by omega)
        · simp only [upd]
          rw [if_neg (by omega)]
          exact hq2 q hq
    refine xs_aload_n dB_adds_16 rfl ?_
    refine xs_iconst (v := 0) dB_adds_17 (by decide) ?_
    refine xs_iald dB_adds_18 (by repeat (first | exact va_up_self _ _ _ | assumption | refine (va_up_ne _ _ (by omega)).trans ?_)) (by assumption) ?_
    rw [e0, hf.1.1, ← hN]
    refine xs_istore (L2 := [(6, _), (0, _), (1, _), (2, _), (3, _), (4, _), (5, _)]) dB_adds_19 (by decide) rfl ?_
    refine xs_iconst (v := 0) dB_adds_21 (by decide) ?_
    refine xs_istore (L2 := [(7, _), (6, _), (0, _), (1, _), (2, _), (3, _), (4, _), (5, _)]) dB_adds_22 (by decide) rfl ?_
    refine xs_pick (L2 := [(0, _), (1, _), (5, _), (6, _), (7, _)]) [2, 3, 7, 1, 0] rfl ?_
    exact loop 3 0 f H (by omega) h8H hcH hrH (fun q hq => absurd hq (by omega)) (fun _ _ => rfl) hfr
  · have h0 : ¬ zwhy V.1 (x, y, z) s = 0 := fun e => h (by rw [e]; rfl)
    have hput : zPut V (x, y, z) s = V := by rw [zPut, if_neg h0]
    refine xs_iconst (v := 0) dB_adds_14 (by decide) ?_
    exact xs_iret dB_adds_15 rfl rfl (by omega) (by omega) ⟨_, rfl, rfl, by rw [bI_f h0], ⟨t2, h8H⟩, ⟨f, hrH, by rw [hput]; exact hf⟩, by rw [hput]; exact hV, hfr⟩
theorem k_B_drop {r i : Nat} {f : Nat → Int32} {V : zV} (hr : G r = oI 70 f) (hV : zOk V) (hf : mrow f V) (hi : i < V.1.length) :
    xK mB_drop [.ref r, .int (nI i)] n G 0 0 (qVx n (fun H => ∃ f2, H = va_up G r (oI 70 f2) ∧ mrow f2 (zDrop V i))) xNo := by
  have hL := hV.1
  have v0 : vp_in (0 : Int32) 70 := fin70 (j := 0) (by decide)
  have e0 : (0 : Int32).toNatClampNeg = 0 := by decide
  have loop : ∀ (m k : Nat) (f2 : Nat → Int32), 66 - k < m → 6 + 4 * i ≤ k → k ≤ 66 → (∀ q, (q < 6 + 4 * i ∨ k ≤ q) → f2 q = f q) → (∀ q, 6 + 4 * i ≤ q → q < k → f2 q = f (q + 4)) →
      xS mB_drop n 0 0 (qVx n (fun H => ∃ f2, H = va_up G r (oI 70 f2) ∧ mrow f2 (zDrop V i))) xNo 6 [(0, .ref r), (1, .int (nI i)), (2, .int (nI k))] [] n (va_up G r (oI 70 f2)) 0 0 := by
    intro m
    induction m with
    | zero => intro k f2 q; exact absurd q (by omega)
    | succ m ih =>
      intro k f2 q1 q2 q3 h1 h2
      refine xs_iload_n dB_drop_6 rfl ?_
      refine xs_bipush (v := 66) dB_drop_7 (by decide) ?_
      refine xs_icmp_ge dB_drop_9 (fun hg => ?_) (fun hg => ?_)
      · have hk : k = 66 := by
          have := (nI_leI (a := 66) (by omega) (by omega)).mp hg
          omega
        subst hk
        refine xs_aload_n dB_drop_26 rfl ?_
        refine xs_iconst (v := 0) dB_drop_27 (by decide) ?_
        refine xs_dup2 dB_drop_28 rfl rfl ?_
        refine xs_iald dB_drop_29 (by repeat (first | exact va_up_self _ _ _ | assumption | refine (va_up_ne _ _ (by omega)).trans ?_)) (by assumption) ?_
        refine xs_iconst (v := 1) dB_drop_30 (by decide) ?_
        refine xs_isub dB_drop_31 ?_
        refine xs_iast dB_drop_32 (by repeat (first | exact va_up_self _ _ _ | assumption | refine (va_up_ne _ _ (by omega)).trans ?_)) (by assumption) ?_
        rw [bx_uu]
        refine xs_vret dB_drop_33 rfl (by omega) (by omega) ⟨rfl, rfl, _, rfl, ?_⟩
        rw [e0]
        obtain ⟨⟨f0, f1, fa, f3, f4, f5⟩, hff⟩ := id hf
        have hlen : (zDrop V i).1.length = V.1.length - 1 := List.length_eraseIdx_of_lt hi
        have old : ∀ q, q < 6 + 4 * i → q ≠ 0 → (upd f2 0 (f2 0 - 1)) q = f q := by
          intro q hq hq0
          simp only [upd]
          rw [if_neg hq0]
          exact h1 q (Or.inl hq)
        refine ⟨⟨?_, ?_, ?_, ?_, ?_, ?_⟩, fun k c hk => ?_⟩
        · simp only [upd, if_true]
          rw [h1 0 (by omega), f0, hlen, iI_nat (V.1.length - 1)]
          obtain ⟨w, hw⟩ : ∃ w, V.1.length = w + 1 := ⟨V.1.length - 1, by omega⟩
          rw [hw, nI_dec]
          rfl
        · rw [old 1 (by omega) (by decide)]; exact f1
        · rw [old 2 (by omega) (by decide)]; exact fa
        · rw [old 3 (by omega) (by decide)]; exact f3
        · rw [old 4 (by omega) (by decide)]; exact f4
        · rw [old 5 (by omega) (by decide)]; exact f5
        · have hk2 : (V.1.eraseIdx i)[k]? = some c := hk
          have hk3 := (List.getElem?_eq_some_iff.mp hk).1
          rw [hlen] at hk3
          rw [List.getElem?_eraseIdx] at hk2
          split at hk2
          next hki =>
            obtain ⟨g0, g1, g2, g3⟩ := hff k c hk2
            rw [old _ (by omega) (by omega), old _ (by omega) (by omega), old _ (by omega) (by omega), old _ (by omega) (by omega)]
            exact ⟨g0, g1, g2, g3⟩
          next hki =>
            obtain ⟨g0, g1, g2, g3⟩ := hff (k + 1) c hk2
            simp only [upd]
            rw [if_neg (by omega), if_neg (by omega), if_neg (by omega), if_neg (by omega), h2 _ (by omega) (by omega), h2 _ (by omega) (by omega), h2 _ (by omega) (by omega), h2 _ (by omega) (by omega)]
            refine ⟨?_, ?_, ?_, ?_⟩
            · rw [show 6 + 4 * k + 4 = 6 + 4 * (k + 1) by omega]; exact g0
            · rw [show 6 + 4 * k + 1 + 4 = 6 + 4 * (k + 1) + 1 by omega]; exact g1
            · rw [show 6 + 4 * k + 2 + 4 = 6 + 4 * (k + 1) + 2 by omega]; exact g2
            · rw [show 6 + 4 * k + 3 + 4 = 6 + 4 * (k + 1) + 3 by omega]; exact g3
      · have hk : k < 66 := nI_lt_of (b := 66) (by omega) (by omega) hg
        have vk := fin70 (j := k) (by omega)
        have e4 : nI k + 4 = nI (k + 4) := nI_add2 k 4
        have vk4 : vp_in (nI k + 4) 70 := by rw [e4]; exact fin70 (by omega)
        refine xs_aload_n dB_drop_12 rfl ?_
        refine xs_iload_n dB_drop_13 rfl ?_
        refine xs_aload_n dB_drop_14 rfl ?_
        refine xs_iload_n dB_drop_15 rfl ?_
        refine xs_iconst (v := 4) dB_drop_16 (by decide) ?_
        refine xs_iadd dB_drop_17 ?_
        refine xs_iald dB_drop_18 (by repeat (first | exact va_up_self _ _ _ | assumption | refine (va_up_ne _ _ (by omega)).trans ?_)) (by assumption) ?_
        refine xs_iast dB_drop_19 (by repeat (first | exact va_up_self _ _ _ | assumption | refine (va_up_ne _ _ (by omega)).trans ?_)) (by assumption) ?_
        refine xs_iinc (L2 := [(2, _), (0, _), (1, _)]) dB_drop_20 rfl rfl (by decide) rfl ?_
        refine xs_goto dB_drop_23 ?_
        refine xs_pick (L2 := [(0, _), (1, _), (2, _)]) [1, 2, 0] rfl ?_
        rw [xii, bx_uu, e4, nI_clamp (by omega), nI_clamp (by omega), h1 (k + 4) (by omega)]
        refine ih (k + 1) _ (by omega) (by omega) (by omega) (fun q hq => ?_) (fun q hq hq2 => ?_)
        · simp only [upd]
          rw [if_neg (by omega)]
          exact h1 q (by omega)
        · simp only [upd]
          by_cases hqk : q = k
          · subst hqk
            rw [if_pos rfl]
          · rw [if_neg hqk]
            exact h2 q hq (by omega)
  refine xK_of2 (L0 := [(0, _), (1, _)]) (by decide +kernel) rfl (Nat.le_of_ble_eq_true rfl) rfl ?_
  refine xs_iload_n dB_drop_0 rfl ?_
  refine xs_iconst (v := 0) dB_drop_1 (by decide) ?_
  refine xs_cS_i (As := [_, _]) dB_drop_2 lkB_92 (k_B_cell (i:=i) (w:=0)) rfl rfl (Nat.le_of_ble_eq_true rfl) ⟨by decide, by decide⟩ ⟨by omega, by omega⟩ ?_
  refine xs_istore_n (L2 := [(2, _), (0, _), (1, _)]) dB_drop_5 (by decide) rfl ?_
  refine xs_pick (L2 := [(0, _), (1, _), (2, _)]) [1, 2, 0] rfl ?_
  have hgo := loop 67 (6 + 4 * i + 0) f (by omega) (by omega) (by omega) (fun _ _ => rfl) (fun q h1 h2 => absurd h2 (by omega))
  rw [va_up_same hr] at hgo
  exact hgo
theorem k_B_setPlane {r : Nat} {f : Nat → Int32} {V : zV} {x y z : Int} (hc : G b = mCl b rf sz sp gd ac zs ft) (h8 : G (b + 8) = oL 3 th) (hr : G r = oI 70 f) (hrb : b < r ∧ r < b + 8) (hf : mrow f V) (hp : bd 4 (x, y, z)) :
    xK mB_setPlane [.ref b, .ref r, .int (iI x), .int (iI y), .int (iI z)] n G 0 0 (qVx n (fun H => (∃ th, H (b + 8) = oL 3 th) ∧ (∃ f2, H r = oI 70 f2 ∧ mrow f2 (zAim V (x, y, z))) ∧ rfr b r G H)) xNo := by
  obtain ⟨p1, p2, p3⟩ := id hp
  simp only at p1 p2 p3
  refine xK_of2 (L0 := [(0, _), (1, _), (2, _), (3, _), (4, _)]) (by decide +kernel) rfl (Nat.le_of_ble_eq_true rfl) rfl ?_
  refine xs_aload_n dB_setPlane_0 rfl ?_
  refine xs_iload_n dB_setPlane_1 rfl ?_
  refine xs_i2l dB_setPlane_2 ?_
  refine xs_iload_n dB_setPlane_3 rfl ?_
  refine xs_i2l dB_setPlane_4 ?_
  refine xs_iload dB_setPlane_5 rfl ?_
  refine xs_i2l dB_setPlane_7 ?_
  rw [iI_l (by omega), iI_l (by omega), iI_l (by omega)]
  refine xs_cV_vx (As := [_, _, _]) dB_setPlane_8 lkB_85 (by repeat (first | exact va_up_self _ _ _ | assumption | refine (va_up_ne _ _ (by omega)).trans ?_)) (k_B_divide (bd_mono hp (by decide)) hc h8) rfl rfl (Nat.le_of_ble_eq_true rfl) ⟨by decide, by decide⟩ ⟨by omega, by omega⟩ ?_
  intro H ⟨t2, hH, ht⟩
  have ht3 := t3P_iff.mp ht
  have hcH : H b = mCl b rf sz sp gd ac zs ft := by rw [hH, va_up_ne _ _ (by omega)]; exact hc
  have h8H : H (b + 8) = oL 3 t2 := by rw [hH, va_up_self]
  have hrH : H r = oI 70 f := by rw [hH, va_up_ne _ _ (by omega)]; exact hr
  have hfr : rfr b r G H := fun k h1 h2 => by rw [hH, va_up_ne _ _ h2]
  clear hH
  have loop : ∀ (m j : Nat) (f2 : Nat → Int32) (H2 : xG), j + m = 3 → H2 (b + 8) = oL 3 t2 → H2 b = mCl b rf sz sp gd ac zs ft → H2 r = oI 70 f2 → (∀ q, q < j → f2 (3 + q) = iI (c3 (dv (x, y, z)) q)) → (∀ q, (q < 3 ∨ 6 ≤ q) → f2 q = f q) → rfr b r G H2 →
      xS mB_setPlane n 0 0 (qVx n (fun H => (∃ th, H (b + 8) = oL 3 th) ∧ (∃ f2, H r = oI 70 f2 ∧ mrow f2 (zAim V (x, y, z))) ∧ rfr b r G H)) xNo 14 [(0, .ref b), (1, .ref r), (5, .int (nI j))] [] n H2 0 0 := by
    intro m
    induction m with
    | zero =>
      intro j f2 H2 hj h82 hc2 hr2 hq1 hq2 hfr2
      have hj : j = 3 := by omega
      subst hj
      refine xs_iload dB_setPlane_14 rfl ?_
      refine xs_iconst (v := 3) dB_setPlane_16 (by decide) ?_
      refine xs_icmp_ge dB_setPlane_17 (fun _ => ?_) (fun q => absurd (by decide) q)
      obtain ⟨⟨f0, f1, fa, f3, f4, f5⟩, hff⟩ := id hf
      refine xs_vret dB_setPlane_40 rfl (by omega) (by omega) ⟨rfl, rfl, ⟨t2, h82⟩, ⟨f2, hr2, ⟨by rw [hq2 _ (by omega)]; exact f0, by rw [hq2 _ (by omega)]; exact f1, by rw [hq2 _ (by omega)]; exact fa, hq1 0 (by decide), hq1 1 (by decide), hq1 2 (by decide)⟩, fun k c hk => ?_⟩, hfr2⟩
      rw [hq2 _ (by omega), hq2 _ (by omega), hq2 _ (by omega), hq2 _ (by omega)]
      exact hff k c hk
    | succ m ih =>
      intro j f2 H2 hj h82 hc2 hr2 hq1 hq2 hfr2
      have vj := in3 (j := j) (by omega)
      have e3 : (3 : Int32) + nI j = nI (3 + j) := nI_add2 3 j
      have v3 : vp_in ((3 : Int32) + nI j) 70 := by rw [e3]; exact fin70 (by omega)
      refine xs_iload dB_setPlane_14 rfl ?_
      refine xs_iconst (v := 3) dB_setPlane_16 (by decide) ?_
      refine xs_icmp_ge dB_setPlane_17 (fun q => absurd ((nI_leI (a := 3) (by omega) (by omega)).mp q) (by omega)) (fun _ => ?_)
      refine xs_aload_n dB_setPlane_20 rfl ?_
      refine xs_iconst (v := 3) dB_setPlane_21 (by decide) ?_
      refine xs_iload dB_setPlane_22 rfl ?_
      refine xs_iadd dB_setPlane_24 ?_
      refine xs_aload_n dB_setPlane_25 rfl ?_
      refine xs_get dB_setPlane_26 flB_32 (by repeat (first | exact va_up_self _ _ _ | assumption | refine (va_up_ne _ _ (by omega)).trans ?_)) rfl ?_
      refine xs_iload dB_setPlane_29 rfl ?_
      refine xs_lald dB_setPlane_31 (by repeat (first | exact va_up_self _ _ _ | assumption | refine (va_up_ne _ _ (by omega)).trans ?_)) (by assumption) ?_
      refine xs_l2i dB_setPlane_32 ?_
      rw [nI_clamp (by omega), ht3 j (by omega), iL_i]
      refine xs_iast dB_setPlane_33 (by repeat (first | exact va_up_self _ _ _ | assumption | refine (va_up_ne _ _ (by omega)).trans ?_)) (by assumption) ?_
      refine xs_iinc (L2 := [(5, _), (0, _), (1, _)]) dB_setPlane_34 rfl rfl (by decide) rfl ?_
      refine xs_goto dB_setPlane_37 ?_
      refine xs_pick (L2 := [(0, _), (1, _), (5, _)]) [1, 2, 0] rfl ?_
      rw [xii, e3, nI_clamp (by omega)]
      refine ih (j + 1) _ _ (by omega) ?_ ?_ (va_up_self _ _ _) (fun q hq => ?_) (fun q hq => ?_) (fun k h1 h2 => (va_up_ne _ _ h1).trans (hfr2 k h1 h2))
      · rw [va_up_ne _ _ (by omega)]; exact h82
      · rw [va_up_ne _ _ (by omega)]; exact hc2
      · simp only [upd]
        by_cases hqj : q = j
        · subst hqj
          rw [if_pos rfl]
        · rw [if_neg (by omega)]
          exact hq1 q (by omega)
      · simp only [upd]
        rw [if_neg (by omega)]
        exact hq2 q hq
  refine xs_iconst (v := 0) dB_setPlane_11 (by decide) ?_
  refine xs_istore (L2 := [(5, _), (0, _), (1, _), (2, _), (3, _), (4, _)]) dB_setPlane_12 (by decide) rfl ?_
  refine xs_pick (L2 := [(0, _), (1, _), (5, _)]) [1, 2, 0] rfl ?_
  exact loop 3 0 f H (by omega) h8H hcH hrH (fun q hq => absurd hq (by omega)) (fun _ _ => rfl) hfr
end M8
