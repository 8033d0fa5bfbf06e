theorem fAt_b {α : Type} {l : List α} {i : Int} : (fAt l i).isSome = decide (0 ≤ i ∧ i ≤ (l.length : Int) - 1) := by
  cases h : fAt l i with
  | none =>
    have := fAt_none.mp h
    rw [decide_eq_false (by omega)]
    rfl
  | some f =>
    obtain ⟨k, h1, h2, _⟩ := fAt_some h
    rw [decide_eq_true (by omega)]
    rfl
theorem par_sym {d e : P3} : par d e ↔ par e d := by
  unfold par
  constructor
  · rintro (rfl | rfl)
    · exact Or.inl rfl
    · exact Or.inr (ng_ng e).symm
  · rintro (rfl | rfl)
    · exact Or.inl rfl
    · exact Or.inr (ng_ng d).symm
section N5
variable {n b : Nat} {G : xG} {rf : Int32} {S : zS} {T : List Nat} {V : zV} {A : List zV} {O : Option zV × Option zV}
theorem mdx_now (h : mdx G b rf T V A O) : ∃ f, G (b + 3) = oI 70 f ∧ mrow f V ∧ zOk V := h.2.2.2.1
theorem k_B_isFace {x : Int32} (h : mdx G b rf T V A O) : xK mB_isFace [.ref b, .int x] n G 0 0 (qI n G (bI (fAt V.1 x.toInt).isSome)) xNo := by
  obtain ⟨⟨sp, gd, zs, ft, hc⟩, k1, k2, ⟨f, hr, hf, hV⟩, k4, k5, k6, k7, k8⟩ := id h
  have hL := hV.1
  have v0 : vp_in (0 : Int32) 70 := fin70 (j := 0) (by decide)
  have e0 : (0 : Int32).toNatClampNeg = 0 := by decide
  refine xK_of2 (L0 := [(0, _), (1, _)]) (by decide +kernel) rfl (Nat.le_of_ble_eq_true rfl) rfl ?_
  refine xs_iload_n dB_isFace_0 rfl ?_
  refine xs_i2l dB_isFace_1 ?_
  refine xs_lconst (v := 0) dB_isFace_2 (by decide) ?_
  refine xs_aload_n dB_isFace_3 rfl ?_
  refine xs_get dB_isFace_4 flB_16 (by repeat (first | exact va_up_self _ _ _ | assumption | refine (va_up_ne _ _ (by omega)).trans ?_)) rfl ?_
  refine xs_iconst (v := 0) dB_isFace_7 (by decide) ?_
  refine xs_iald dB_isFace_8 (by repeat (first | exact va_up_self _ _ _ | assumption | refine (va_up_ne _ _ (by omega)).trans ?_)) (by assumption) ?_
  rw [e0, hf.1.1]
  refine xs_iconst (v := 1) dB_isFace_9 (by decide) ?_
  refine xs_isub dB_isFace_10 ?_
  rw [show nI V.1.length - 1 = iI ((V.1.length : Int) - 1) by rw [iI_nat, show (1 : Int32) = iI 1 from rfl, iI_sub]]
  refine xs_i2l dB_isFace_11 ?_
  rw [iI_l (by omega)]
  refine xs_cS_i (As := [_, _, _]) dB_isFace_12 lkB_169 (k_B_inI (lo:=0) (hi:=((V.1.length : Int) - 1)) (by decide) (by omega)) rfl rfl (Nat.le_of_ble_eq_true rfl) ⟨by decide, by decide⟩ ⟨by omega, by omega⟩ ?_
  exact xs_iret dB_isFace_15 rfl (bI_n _) (by omega) (by omega) ⟨by rw [fAt_b], rfl, rfl⟩
theorem k_B_twins {r : Nat} {f : Nat → Int32} (hr : G r = oI 70 f) (hV : zOk V) (hf : mrow f V) : xK mB_twins [.ref r] n G 0 0 (qI n G (nI (zTw V))) xNo := by
  have hL := hV.1
  have v0 : vp_in (0 : Int32) 70 := fin70 (j := 0) (by decide)
  have e0 : (0 : Int32).toNatClampNeg = 0 := by decide
  have loop : ∀ (m i : Nat), V.1.length - i < m → i ≤ V.1.length → xS mB_twins n 0 0 (qI n G (nI (zTw V))) xNo 4 [(0, .ref r), (1, .int (nI ((V.1.take i).countP (fun f => decide (f.2 = 1))))), (2, .int (nI i))] [] n G 0 0 := by
    intro m
    induction m with
    | zero => intro i q; exact absurd q (by omega)
    | succ m ih =>
      intro i q1 q2
      refine xs_iload_n dB_twins_4 rfl ?_
      refine xs_aload_n dB_twins_5 rfl ?_
      refine xs_iconst (v := 0) dB_twins_6 (by decide) ?_
      refine xs_iald dB_twins_7 (by repeat (first | exact va_up_self _ _ _ | assumption | refine (va_up_ne _ _ (by omega)).trans ?_)) (by assumption) ?_
      rw [e0, hf.1.1]
      refine xs_icmp_ge dB_twins_8 (fun hg => ?_) (fun hg => ?_)
      · have hi : i = V.1.length := by
          have := (nI_leI (by omega) (by omega)).mp hg
          omega
        subst hi
        refine xs_iload_n dB_twins_27 rfl ?_
        exact xs_iret dB_twins_28 rfl rfl (by omega) (by omega) ⟨by rw [List.take_length]; rfl, rfl, rfl⟩
      · have hi : i < V.1.length := nI_lt_of (by omega) (by omega) hg
        obtain ⟨c, hc⟩ : ∃ c, V.1[i]? = some c := ⟨_, List.getElem?_eq_getElem hi⟩
        obtain ⟨⟨k0, k1, k2, k3⟩, g0, g1, g2, g3⟩ := mrow_get hf hc hL
        have hch := (hV.2.1 c (List.mem_of_getElem? hc)).2.2.2
        have hgo := ih (i + 1) (by omega) (by omega)
        rw [take_s hc, List.countP_append, List.countP_singleton] at hgo
        refine xs_iload_n dB_twins_11 rfl ?_
        refine xs_aload_n dB_twins_12 rfl ?_
        refine xs_iload_n dB_twins_13 rfl ?_
        refine xs_iconst (v := 3) dB_twins_14 (by decide) ?_
        refine xs_cS_i (As := [_, _]) dB_twins_15 lkB_92 (k_B_cell (i:=i) (w:=3)) rfl rfl (Nat.le_of_ble_eq_true rfl) ⟨by decide, by decide⟩ ⟨by omega, by omega⟩ ?_
        refine xs_iald dB_twins_18 (by repeat (first | exact va_up_self _ _ _ | assumption | refine (va_up_ne _ _ (by omega)).trans ?_)) (by assumption) ?_
        rw [g3]
        refine xs_iadd dB_twins_19 ?_
        rw [show nI ((V.1.take i).countP (fun f => decide (f.2 = 1))) + iI c.2 = nI ((V.1.take i).countP (fun f => decide (f.2 = 1)) + if decide (c.2 = 1) = true then 1 else 0) by
          rcases hch with e | e
          · rw [e]
            exact nI_add2 _ 0
          · rw [e]
            exact nI_add2 _ 1]
        refine xs_istore_n (L2 := [(1, _), (0, _), (2, _)]) dB_twins_20 (by decide) rfl ?_
        refine xs_iinc (L2 := [(2, _), (1, _), (0, _)]) dB_twins_21 rfl rfl (by decide) rfl ?_
        refine xs_goto dB_twins_24 ?_
        refine xs_pick (L2 := [(0, _), (1, _), (2, _)]) [2, 1, 0] rfl ?_
        rw [xii]
        exact hgo
  refine xK_of2 (L0 := [(0, _)]) (by decide +kernel) rfl (Nat.le_of_ble_eq_true rfl) rfl ?_
  refine xs_iconst (v := 0) dB_twins_0 (by decide) ?_
  refine xs_istore_n (L2 := [(1, _), (0, _)]) dB_twins_1 (by decide) rfl ?_
  refine xs_iconst (v := 0) dB_twins_2 (by decide) ?_
  refine xs_istore_n (L2 := [(2, _), (1, _), (0, _)]) dB_twins_3 (by decide) rfl ?_
  refine xs_pick (L2 := [(0, _), (1, _), (2, _)]) [2, 1, 0] rfl ?_
  exact loop (V.1.length + 1) 0 (by omega) (by omega)
theorem lgs_first {D : List P3} {x : P3} {Z : List P3} (h : srt D (x :: Z).length (x :: Z)) : lgs D (x :: Z) = pc (mem D x) := by
  have h1 : lgs D (x :: Z) ≤ pc (mem D x) := (lgs_iff D _ _).mpr (fun a ha => by
    rcases List.mem_cons.mp ha with rfl | ha
    · exact Nat.le_refl _
    · obtain ⟨j, hj⟩ := List.getElem?_of_mem ha
      have hb := h 0 (j + 1) x a (by omega) (by have := (List.getElem?_eq_some_iff.mp hj).1; rw [List.length_cons]; omega) rfl (by rw [List.getElem?_cons_succ]; exact hj)
      unfold bef befK at hb
      omega)
  have h2 := (lgs_iff D (lgs D (x :: Z)) (x :: Z)).mp (Nat.le_refl _) x List.mem_cons_self
  omega
theorem k_B_longest {r : Nat} {f : Nat → Int32} {sp zs ac ft : Int32} {gd : Bool} {sz : Int32} (hc : G b = mCl b rf sz sp gd ac zs ft) (hw : mwk G b) (hr : G r = oI 70 f) (hrb : b < r ∧ r < b + 8) (hV : zOk V) (hf : mrow f V) :
    xK mB_longest [.ref b, .ref r] n G 0 0 (qIx n (fun q H => q = nI (zlg V) ∧ H b = mCl b rf sz sp gd ac (nI (zl V).length) ft ∧ mlz H b V ∧ mfr b G H)) xNo := by
  refine xK_of2 (L0 := [(0, _), (1, _)]) (by decide +kernel) rfl (Nat.le_of_ble_eq_true rfl) rfl ?_
  refine xs_aload_n dB_longest_0 rfl ?_
  refine xs_aload_n dB_longest_1 rfl ?_
  refine xs_cV_vx (As := [_]) dB_longest_2 lkB_141 (by repeat (first | exact va_up_self _ _ _ | assumption | refine (va_up_ne _ _ (by omega)).trans ?_)) (k_B_layZones hc hw hr hrb hV hf) rfl rfl (Nat.le_of_ble_eq_true rfl) ⟨by decide, by decide⟩ ⟨by omega, by omega⟩ ?_
  intro H ⟨q1, q2, q3⟩
  obtain ⟨_, _, ⟨ax, mn, wh, w1, w2, w3, w4, w5, w6, w7⟩, hfin⟩ := id q2
  have hlg := zlg_eq (zSet_of hfin)
  have v0 : vp_in (0 : Int32) 121 := vp_in_nI (n := 0) (N := 121) (by decide) (by decide)
  have e0 : (0 : Int32).toNatClampNeg = 0 := by decide
  refine xs_aload_n dB_longest_5 rfl ?_
  refine xs_get dB_longest_6 flB_106 (by repeat (first | exact va_up_self _ _ _ | assumption | refine (va_up_ne _ _ (by omega)).trans ?_)) rfl ?_
  refine xs_if_ne dB_longest_9 (fun q => ?_) (fun q => ?_)
  · cases hZ : zl V with
    | nil => exact absurd (by rw [hZ]; rfl) q
    | cons x Z =>
      rw [hZ] at hlg
      have hs : srt (zDirs V) (x :: Z).length (x :: Z) := by
        have := hfin.2.2
        rw [hZ] at this
        exact this
      have hm0 : mn 0 = nI (pc (mem (zDirs V) x)) := w5 0 x (by rw [hZ]; rfl)
      rw [lgs_first hs] at hlg
      refine xs_aload_n dB_longest_16 rfl ?_
      refine xs_get dB_longest_17 flB_42 (by repeat (first | exact va_up_self _ _ _ | assumption | refine (va_up_ne _ _ (by omega)).trans ?_)) rfl ?_
      refine xs_iconst (v := 0) dB_longest_20 (by decide) ?_
      refine xs_iald dB_longest_21 (by repeat (first | exact va_up_self _ _ _ | assumption | refine (va_up_ne _ _ (by omega)).trans ?_)) (by assumption) ?_
      rw [e0, hm0]
      exact xs_iret dB_longest_22 rfl rfl (by omega) (by omega) ⟨_, rfl, rfl, by rw [hlg], by rw [← hZ]; exact q1, q2, q3⟩
  · have hZ0 : (zl V).length = 0 := (nI_eq (b := 0) (by omega) (by decide)).mp q
    have hZ : zl V = [] := List.length_eq_zero_iff.mp hZ0
    rw [hZ] at hlg
    refine xs_iconst (v := 0) dB_longest_12 (by decide) ?_
    refine xs_goto dB_longest_13 ?_
    exact xs_iret dB_longest_22 rfl rfl (by omega) (by omega) ⟨_, rfl, rfl, by rw [hlg]; rfl, q1, q2, q3⟩
theorem k_B_directions (h : mdx G b rf T V A O) : xK mB_directions [.ref b] n G 0 0 (qIx n (fun q H => q = nI (ndir (zDirs V) (zDirs V).length) ∧ mdx H b rf T V A O ∧ xfr b (b + 17) G H)) xNo := by
  obtain ⟨⟨sp, gd, zs, ft, hc⟩, k1, k2, ⟨f, hr, hf, hV⟩, k4, k5, k6, ⟨⟨th0, h8⟩, ⟨wy0, h9⟩, w10, w11, w12⟩, k8⟩ := id h
  have hok := zDirs_ok hV
  have hL := hok.1
  have hdl : (zDirs V).length = V.1.length := List.length_map _
  obtain ⟨D, hD⟩ : ∃ D, D = zDirs V := ⟨_, rfl⟩
  rw [← hD] at hok hL hdl ⊢
  have v0 : vp_in (0 : Int32) 70 := fin70 (j := 0) (by decide)
  have e0 : (0 : Int32).toNatClampNeg = 0 := by decide
  refine xK_of2 (L0 := [(0, _)]) (by decide +kernel) rfl (Nat.le_of_ble_eq_true rfl) rfl ?_
  refine xs_aload_n dB_directions_0 rfl ?_
  refine xs_aload_n dB_directions_1 rfl ?_
  refine xs_get dB_directions_2 flB_16 (by repeat (first | exact va_up_self _ _ _ | assumption | refine (va_up_ne _ _ (by omega)).trans ?_)) rfl ?_
  refine xs_cV_vx (As := [_]) dB_directions_5 lkB_118 (by repeat (first | exact va_up_self _ _ _ | assumption | refine (va_up_ne _ _ (by omega)).trans ?_)) (k_B_layWays hc h8 h9 hr (by omega) hV hf) rfl rfl (Nat.le_of_ble_eq_true rfl) ⟨by decide, by decide⟩ ⟨by omega, by omega⟩ ?_
  intro H ⟨⟨th, q1⟩, ⟨wy, q2, q3⟩, q4⟩
  rw [← hD] at q3
  obtain ⟨PQ, hPQ⟩ : ∃ PQ : Int32 → xG → Prop, PQ = fun q H => q = nI (ndir D D.length) ∧ mdx H b rf T V A O ∧ xfr b (b + 17) G H := ⟨_, rfl⟩
  rw [← hPQ]
  obtain ⟨Inv, hInv⟩ : ∃ Inv : xG → Prop, ∀ H, Inv H ↔ (H (b + 9) = oL 48 wy ∧ (∃ th, H (b + 8) = oL 3 th) ∧ ∀ k, k ≠ b + 8 → k ≠ b + 9 → H k = G k) := ⟨_, fun _ => Iff.rfl⟩
  have hI0 : Inv H := (hInv H).mpr ⟨q2, ⟨th, q1⟩, fun k h1 h2 => q4 k (by omega)⟩
  have outer : ∀ (m i : Nat) (H : xG), D.length - i < m → i ≤ D.length → Inv H → xS mB_directions n 0 0 (qIx n PQ) xNo 12 [(0, .ref b), (1, .int (nI (ndir D i))), (2, .int (nI i))] [] n H 0 0 := by
    intro m
    induction m with
    | zero => intro i H q; exact absurd q (by omega)
    | succ m ih =>
      intro i H q1 q2 hI
      obtain ⟨h9, ⟨th, h8⟩, hfr⟩ := (hInv H).mp hI
      have hcH : H b = mCl b rf (nI T.length) sp gd (nI A.length) zs ft := by rw [hfr _ (by omega) (by omega)]; exact hc
      have hrH : H (b + 3) = oI 70 f := by rw [hfr _ (by omega) (by omega)]; exact hr
      refine xs_iload_n dB_directions_12 rfl ?_
      refine xs_aload_n dB_directions_13 rfl ?_
      refine xs_get dB_directions_14 flB_16 (by repeat (first | exact va_up_self _ _ _ | assumption | refine (va_up_ne _ _ (by omega)).trans ?_)) rfl ?_
      refine xs_iconst (v := 0) dB_directions_17 (by decide) ?_
      refine xs_iald dB_directions_18 (by repeat (first | exact va_up_self _ _ _ | assumption | refine (va_up_ne _ _ (by omega)).trans ?_)) (by assumption) ?_
      rw [e0, hf.1.1, ← hdl]
      refine xs_icmp_ge dB_directions_19 (fun hg => ?_) (fun hg => ?_)
      · have hi : i = D.length := by
          have := (nI_leI (by omega) (by omega)).mp hg
          omega
        subst hi
        refine xs_iload_n dB_directions_81 rfl ?_
        refine xs_iret dB_directions_82 rfl rfl (by omega) (by omega) ⟨_, rfl, rfl, ?_⟩
        rw [hPQ]
        refine ⟨rfl, mdx_z h ⟨sp, gd, zs, ft, hcH⟩ ⟨⟨th, h8⟩, ⟨wy, h9⟩, ?_, ?_, ?_⟩ (fun k h1 h2 => hfr k (by omega) (by omega)), fun k hk => hfr k (by omega) (by omega)⟩
        · obtain ⟨x, w⟩ := w10
          exact ⟨x, by rw [hfr _ (by omega) (by omega)]; exact w⟩
        · obtain ⟨x, w⟩ := w11
          exact ⟨x, by rw [hfr _ (by omega) (by omega)]; exact w⟩
        · obtain ⟨x, w⟩ := w12
          exact ⟨x, by rw [hfr _ (by omega) (by omega)]; exact w⟩
      · have hi : i < D.length := nI_lt_of (by omega) (by omega) hg
        obtain ⟨d, hd⟩ : ∃ d, D[i]? = some d := ⟨_, List.getElem?_eq_getElem hi⟩
        have hdk := hok.2 d (List.mem_of_getElem? hd)
        have inner : ∀ (m j : Nat) (fb : Bool) (H : xG), i - j < m → j ≤ i → (fb = true ↔ ∀ (j2 : Nat) (e : P3), j2 < j → D[j2]? = some e → ¬ par e d) → Inv H → xS mB_directions n 0 0 (qIx n PQ) xNo 27 [(0, .ref b), (1, .int (nI (ndir D i))), (2, .int (nI i)), (3, .int (bI fb)), (4, .int (nI j))] [] n H 0 0 := by
          intro m
          induction m with
          | zero => intro j fb H q; exact absurd q (by omega)
          | succ m ih2 =>
            intro j fb H q1 q2 hfb hI
            obtain ⟨h9, ⟨th, h8⟩, hfr⟩ := (hInv H).mp hI
            have hcH : H b = mCl b rf (nI T.length) sp gd (nI A.length) zs ft := by rw [hfr _ (by omega) (by omega)]; exact hc
            refine xs_iload dB_directions_27 rfl ?_
            refine xs_iload_n dB_directions_29 rfl ?_
            refine xs_icmp_ge dB_directions_30 (fun hg => ?_) (fun hg => ?_)
            · have hj : j = i := by
                have := (nI_leI (by omega) (by omega)).mp hg
                omega
              subst hj
              have hn : fb = fnew D j := by
                rw [Bool.eq_iff_iff, hfb, fnew_iff hd]
              have hgo := fun H hI => ih (j + 1) H (by omega) (by omega) hI
              have hs : ndir D (j + 1) = ndir D j + if fnew D j = true then 1 else 0 := by
                unfold ndir
                rw [List.range_succ, List.countP_append, List.countP_singleton]
              rw [hs, ← hn] at hgo
              refine xs_iload_n dB_directions_63 rfl ?_
              refine xs_iload_n dB_directions_64 rfl ?_
              refine xs_ifb_eq dB_directions_65 (fun hb => ?_) (fun hb => ?_)
              · rw [hb, if_neg (by decide), Nat.add_zero] at hgo
                refine xs_iconst (v := 0) dB_directions_72 (by decide) ?_
                refine xs_iadd dB_directions_73 ?_
                rw [show nI (ndir D j) + 0 = nI (ndir D j) from nI_add2 _ 0]
                refine xs_istore_n (L2 := [(1, _), (0, _), (2, _), (3, _), (4, _)]) dB_directions_74 (by decide) rfl ?_
                refine xs_iinc (L2 := [(2, _), (1, _), (0, _), (3, _), (4, _)]) dB_directions_75 rfl rfl (by decide) rfl ?_
                refine xs_goto dB_directions_78 ?_
                refine xs_pick (L2 := [(0, _), (1, _), (2, _)]) [2, 1, 0] rfl ?_
                rw [xii]
                exact hgo H hI
              · rw [hb, if_pos rfl] at hgo
                refine xs_iconst (v := 1) dB_directions_68 (by decide) ?_
                refine xs_goto dB_directions_69 ?_
                refine xs_iadd dB_directions_73 ?_
                rw [add1]
                refine xs_istore_n (L2 := [(1, _), (0, _), (2, _), (3, _), (4, _)]) dB_directions_74 (by decide) rfl ?_
                refine xs_iinc (L2 := [(2, _), (1, _), (0, _), (3, _), (4, _)]) dB_directions_75 rfl rfl (by decide) rfl ?_
                refine xs_goto dB_directions_78 ?_
                refine xs_pick (L2 := [(0, _), (1, _), (2, _)]) [2, 1, 0] rfl ?_
                rw [xii]
                exact hgo H hI
            · have hj : j < i := nI_lt_of (by omega) (by omega) hg
              obtain ⟨e, he⟩ : ∃ e, D[j]? = some e := ⟨_, List.getElem?_eq_getElem (by omega)⟩
              have hek := hok.2 e (List.mem_of_getElem? he)
              have hcb := cr_bd hdk.1 hek.1
              have hnp : nz (cr d e) = (0, 0, 0) ↔ par e d := by rw [nz_0, par_cr hdk.2.1 hek.2.1 hdk.2.2 hek.2.2, par_sym]
              refine xs_aload_n dB_directions_33 rfl ?_
              refine xs_iload_n dB_directions_34 rfl ?_
              refine xs_iload dB_directions_35 rfl ?_
              refine xs_cV_vx (As := [_, _]) dB_directions_37 lkB_121 (by repeat (first | exact va_up_self _ _ _ | assumption | refine (va_up_ne _ _ (by omega)).trans ?_)) (k_B_crossWays hcH h8 h9 q3 hok hd he) rfl rfl (Nat.le_of_ble_eq_true rfl) ⟨by decide, by decide⟩ ⟨by omega, by omega⟩ ?_
              intro H2 ⟨th2, hH2, ht2⟩
              have hI2 : Inv H2 := (hInv H2).mpr ⟨by rw [hH2, va_up_ne _ _ (by omega)]; exact h9, ⟨th2, by rw [hH2, va_up_self]⟩, fun k h1 h2 => by rw [hH2, va_up_ne _ _ h1]; exact hfr k h1 h2⟩
              have hc2 : H2 b = mCl b rf (nI T.length) sp gd (nI A.length) zs ft := by rw [hH2, va_up_ne _ _ (by omega)]; exact hcH
              have h82 : H2 (b + 8) = oL 3 th2 := by rw [hH2, va_up_self]
              have next : ∀ g : Bool, g = (fb && !(decide (nz (cr d e) = (0, 0, 0)))) → xS mB_directions n 0 0 (qIx n PQ) xNo 56 [(0, .ref b), (1, .int (nI (ndir D i))), (2, .int (nI i)), (3, .int (bI fb)), (4, .int (nI j))] [.int (bI g)] n H2 0 0 := by
                intro g hg
                refine xs_istore_n (L2 := [(3, _), (0, _), (1, _), (2, _), (4, _)]) dB_directions_56 (by decide) rfl ?_
                refine xs_iinc (L2 := [(4, _), (3, _), (0, _), (1, _), (2, _)]) dB_directions_57 rfl rfl (by decide) rfl ?_
                refine xs_goto dB_directions_60 ?_
                refine xs_pick (L2 := [(0, _), (1, _), (2, _), (3, _), (4, _)]) [2, 3, 4, 1, 0] rfl ?_
                rw [xii]
                refine ih2 (j + 1) g H2 (by omega) (by omega) ?_ hI2
                rw [hg, Bool.and_eq_true, hfb, Bool.not_eq_true', decide_eq_false_iff_not, hnp]
                constructor
                · rintro ⟨a1, a2⟩ j2 e2 hj2 he2
                  by_cases hjj : j2 = j
                  · subst hjj
                    cases he.symm.trans he2
                    exact a2
                  · exact a1 j2 e2 (by omega) he2
                · intro a
                  exact ⟨fun j2 e2 hj2 he2 => a j2 e2 (by omega) he2, a j e (by omega) he⟩
              have no : (fb && !(decide (nz (cr d e) = (0, 0, 0)))) = false → xS mB_directions n 0 0 (qIx n PQ) xNo 55 [(0, .ref b), (1, .int (nI (ndir D i))), (2, .int (nI i)), (3, .int (bI fb)), (4, .int (nI j))] [] n H2 0 0 := by
                intro hg
                refine xs_iconst (v := 0) dB_directions_55 (by decide) ?_
                exact next false hg.symm
              refine xs_iload_n dB_directions_40 rfl ?_
              refine xs_ifb_eq dB_directions_41 (fun hb => no (by rw [hb]; rfl)) (fun hb => ?_)
              refine xs_aload_n dB_directions_44 rfl ?_
              refine xs_cV_i (As := []) dB_directions_45 lkB_125 (by repeat (first | exact va_up_self _ _ _ | assumption | refine (va_up_ne _ _ (by omega)).trans ?_)) (k_B_isNothing (bd_mono (bd_nz hcb) (by decide)) hc2 h82 ht2) rfl rfl (Nat.le_of_ble_eq_true rfl) ⟨by decide, by decide⟩ ⟨by omega, by omega⟩ ?_
              refine xs_ifb_ne dB_directions_48 (fun hb2 => no (by rw [hb2, Bool.not_true, Bool.and_false])) (fun hb2 => ?_)
              refine xs_iconst (v := 1) dB_directions_51 (by decide) ?_
              refine xs_goto dB_directions_52 ?_
              exact next true (by rw [hb, hb2]; rfl)
        refine xs_iconst (v := 1) dB_directions_22 (by decide) ?_
        refine xs_istore_n (L2 := [(3, _), (0, _), (1, _), (2, _)]) dB_directions_23 (by decide) rfl ?_
        refine xs_iconst (v := 0) dB_directions_24 (by decide) ?_
        refine xs_istore (L2 := [(4, _), (3, _), (0, _), (1, _), (2, _)]) dB_directions_25 (by decide) rfl ?_
        refine xs_pick (L2 := [(0, _), (1, _), (2, _), (3, _), (4, _)]) [2, 3, 4, 1, 0] rfl ?_
        exact inner (i + 1) 0 true H (by omega) (by omega) ⟨fun _ j2 e hj => absurd hj (by omega), fun _ => rfl⟩ hI
  refine xs_iconst (v := 0) dB_directions_8 (by decide) ?_
  refine xs_istore_n (L2 := [(1, _), (0, _)]) dB_directions_9 (by decide) rfl ?_
  refine xs_iconst (v := 0) dB_directions_10 (by decide) ?_
  refine xs_istore_n (L2 := [(2, _), (1, _), (0, _)]) dB_directions_11 (by decide) rfl ?_
  refine xs_pick (L2 := [(0, _), (1, _), (2, _)]) [2, 1, 0] rfl ?_
  exact outer (D.length + 1) 0 H (by omega) (by omega) hI0
theorem k_B_about {x : Int32} (h : mdo G b rf S) : xK mB_about [.ref b, .int x] n G 0 0 (bPost n b G (rAbout S x.toInt)) xNo := by
  obtain ⟨⟨sp, gd, zs, ft, hc⟩, k1, k2, ⟨f, hr, hf, hV⟩, k4, k5, k6, k7, k8⟩ := id h
  obtain ⟨w, hw⟩ : ∃ w, w = x.toInt := ⟨_, rfl⟩
  have hxw : x = iI w := by rw [hw, iT]
  rw [← hw]
  refine xK_of2 (L0 := [(0, _), (1, _)]) (by decide +kernel) rfl (Nat.le_of_ble_eq_true rfl) rfl ?_
  refine xs_aload_n dB_about_0 rfl ?_
  refine xs_iload_n dB_about_1 rfl ?_
  refine xs_i2l dB_about_2 ?_
  refine xs_lconst (v := 0) dB_about_3 (by decide) ?_
  refine xs_ldc2 dB_about_4 kcB_187 ?_
  refine xs_cS_i (As := [_, _, _]) dB_about_7 lkB_169 (k_B_inI (lo:=0) (hi:=9) (by decide) (by decide)) rfl rfl (Nat.le_of_ble_eq_true rfl) ⟨by decide, by decide⟩ ⟨by omega, by omega⟩ ?_
  rw [← hw]
  by_cases hr2 : 0 ≤ w ∧ w ≤ 9
  case neg =>
    have hR : rAbout S w = (1, 0, S) := by rw [rAbout, if_neg hr2]
    rw [bI_f hr2]
    refine xs_if_eq dB_about_10 (fun _ => ?_) (fun q => absurd rfl q)
    refine xs_iconst (v := 1) dB_about_17 (by decide) ?_
    refine xs_cV_i (As := [_]) dB_about_18 lkB_176 (by repeat (first | exact va_up_self _ _ _ | assumption | refine (va_up_ne _ _ (by omega)).trans ?_)) (k_B_refused (w:=1) (by decide) hc) rfl rfl (Nat.le_of_ble_eq_true rfl) ⟨by decide, by decide⟩ ⟨by omega, by omega⟩ ?_
    rw [bI_t (by decide)]
    refine xs_if_eq dB_about_21 (fun q => absurd q (by decide)) (fun _ => ?_)
    refine xs_iconst (v := 0) dB_about_24 (by decide) ?_
    exact xs_iret dB_about_25 rfl rfl (by omega) (by omega) (bNo hR (by decide) (mdx_rf h) rf_fr)
  have hR : rAbout S w = (0, abv S.2.1 w, S) := by rw [rAbout, if_pos hr2]
  rw [hR, bI_t hr2]
  refine xs_if_eq dB_about_10 (fun q => absurd q (by decide)) (fun _ => ?_)
  refine xs_iconst (v := 0) dB_about_13 (by decide) ?_
  refine xs_goto dB_about_14 ?_
  clear hw hR
  subst hxw
  refine xs_cV_i (As := [_]) dB_about_18 lkB_176 (by repeat (first | exact va_up_self _ _ _ | assumption | refine (va_up_ne _ _ (by omega)).trans ?_)) (k_B_refused (w:=0) (by decide) hc) rfl rfl (Nat.le_of_ble_eq_true rfl) ⟨by decide, by decide⟩ ⟨by omega, by omega⟩ ?_
  rw [bI_f (by decide)]
  refine xs_if_eq dB_about_21 (fun _ => ?_) (fun q => absurd rfl q)
  obtain ⟨H1, hH1⟩ : ∃ H1, H1 = va_up G b (mCl b (nI 0) (nI S.1.length) sp gd (nI S.2.2.1.length) zs ft) := ⟨_, rfl⟩
  have h1 : mdo H1 b (nI 0) S := hH1 ▸ mdx_rf h
  have f1 : xfr b (b + 17) G H1 := hH1 ▸ rf_fr
  have c1 : H1 b = mCl b (nI 0) (nI S.1.length) sp gd (nI S.2.2.1.length) zs ft := by rw [hH1, va_up_self]
  have e1 : ∀ k, k ≠ b → H1 k = G k := fun k hk => by rw [hH1, va_up_ne _ _ hk]
  refine xs_at (H := H1) hH1.symm ?_
  clear hH1
  have r1 : H1 (b + 3) = oI 70 f := by rw [e1 _ (by omega)]; exact hr
  have w1 : mwk H1 b := mwk_fr k7 (fun k _ _ => e1 k (by omega))
  have i0 : vp_in (0 : Int32) 70 := fin70 (j := 0) (by decide)
  have i1 : vp_in (1 : Int32) 70 := fin70 (j := 1) (by decide)
  have i2 : vp_in (2 : Int32) 70 := fin70 (j := 2) (by decide)
  have j0 : (0 : Int32).toNatClampNeg = 0 := by decide
  have j1 : (1 : Int32).toNatClampNeg = 1 := by decide
  have j2 : (2 : Int32).toNatClampNeg = 2 := by decide
  obtain ⟨⟨f0, fs, fl, f3, f4, f5⟩, _⟩ := id hf
  have hcs : w = 0 ∨ w = 1 ∨ w = 2 ∨ w = 3 ∨ w = 4 ∨ w = 5 ∨ w = 6 ∨ w = 7 ∨ w = 8 ∨ w = 9 := by omega
  refine xs_iload_n dB_about_26 rfl ?_
  clear hr2
  rcases hcs with rfl | rfl | rfl | rfl | rfl | rfl | rfl | rfl | rfl | rfl
  · refine xs_tsIn (tgt := 68) dB_about_27 (by decide) (by decide) rfl (by decide) ?_
    refine xs_aload_n dB_about_68 rfl ?_
    refine xs_get dB_about_69 flB_16 (by repeat (first | exact va_up_self _ _ _ | assumption | refine (va_up_ne _ _ (by omega)).trans ?_)) rfl ?_
    refine xs_iconst (v := 0) dB_about_72 (by decide) ?_
    refine xs_iald dB_about_73 (by repeat (first | exact va_up_self _ _ _ | assumption | refine (va_up_ne _ _ (by omega)).trans ?_)) (by assumption) ?_
    rw [j0, f0]
    exact xs_iret dB_about_74 rfl rfl (by omega) (by omega) (bOk rfl (iI_nat _) h1 f1)
  · refine xs_tsIn (tgt := 75) dB_about_27 (by decide) (by decide) rfl (by decide) ?_
    refine xs_aload_n dB_about_75 rfl ?_
    refine xs_get dB_about_76 flB_16 (by repeat (first | exact va_up_self _ _ _ | assumption | refine (va_up_ne _ _ (by omega)).trans ?_)) rfl ?_
    refine xs_cS_i (As := [_]) dB_about_79 lkB_219 (k_B_twins r1 hV hf) rfl rfl (Nat.le_of_ble_eq_true rfl) ⟨by decide, by decide⟩ ⟨by omega, by omega⟩ ?_
    exact xs_iret dB_about_82 rfl rfl (by omega) (by omega) (bOk rfl (iI_nat _) h1 f1)
  · refine xs_tsIn (tgt := 83) dB_about_27 (by decide) (by decide) rfl (by decide) ?_
    refine xs_aload_n dB_about_83 rfl ?_
    refine xs_get dB_about_84 flB_16 (by repeat (first | exact va_up_self _ _ _ | assumption | refine (va_up_ne _ _ (by omega)).trans ?_)) rfl ?_
    refine xs_iconst (v := 1) dB_about_87 (by decide) ?_
    refine xs_iald dB_about_88 (by repeat (first | exact va_up_self _ _ _ | assumption | refine (va_up_ne _ _ (by omega)).trans ?_)) (by assumption) ?_
    rw [j1, fs]
    exact xs_iret dB_about_89 rfl rfl (by omega) (by omega) (bOk rfl rfl h1 f1)
  · refine xs_tsIn (tgt := 90) dB_about_27 (by decide) (by decide) rfl (by decide) ?_
    refine xs_aload_n dB_about_90 rfl ?_
    refine xs_get dB_about_91 flB_16 (by repeat (first | exact va_up_self _ _ _ | assumption | refine (va_up_ne _ _ (by omega)).trans ?_)) rfl ?_
    refine xs_iconst (v := 2) dB_about_94 (by decide) ?_
    refine xs_iald dB_about_95 (by repeat (first | exact va_up_self _ _ _ | assumption | refine (va_up_ne _ _ (by omega)).trans ?_)) (by assumption) ?_
    rw [j2, fl]
    exact xs_iret dB_about_96 rfl rfl (by omega) (by omega) (bOk rfl rfl h1 f1)
  · refine xs_tsIn (tgt := 97) dB_about_27 (by decide) (by decide) rfl (by decide) ?_
    refine xs_aload_n dB_about_97 rfl ?_
    refine xs_aload_n dB_about_98 rfl ?_
    refine xs_get dB_about_99 flB_16 (by repeat (first | exact va_up_self _ _ _ | assumption | refine (va_up_ne _ _ (by omega)).trans ?_)) rfl ?_
    refine xs_cV_ix (As := [_]) dB_about_102 lkB_223 (by repeat (first | exact va_up_self _ _ _ | assumption | refine (va_up_ne _ _ (by omega)).trans ?_)) (k_B_zonesOf c1 w1 r1 ⟨by omega, by omega⟩ hV hf) rfl rfl (Nat.le_of_ble_eq_true rfl) ⟨by decide, by decide⟩ ⟨by omega, by omega⟩ ?_
    intro q H2 ⟨q1, q2, q3, q4⟩
    exact xs_iret dB_about_105 rfl rfl (by omega) (by omega) (bOk rfl (q1.trans (by rw [← zcn_eq (zSet_of q3.2.2.2)]; exact iI_nat _)) (mdx_z h1 ⟨_, _, _, _, q2⟩ (mwk_of q3) q4) (xfr_tr f1 (mfr_x q4)))
  · refine xs_tsIn (tgt := 106) dB_about_27 (by decide) (by decide) rfl (by decide) ?_
    refine xs_aload_n dB_about_106 rfl ?_
    refine xs_cV_ix (As := []) dB_about_107 lkB_226 (by repeat (first | exact va_up_self _ _ _ | assumption | refine (va_up_ne _ _ (by omega)).trans ?_)) (k_B_directions h1) rfl rfl (Nat.le_of_ble_eq_true rfl) ⟨by decide, by decide⟩ ⟨by omega, by omega⟩ ?_
    intro q H2 ⟨q1, q2, q3⟩
    exact xs_iret dB_about_110 rfl rfl (by omega) (by omega) (bOk rfl (q1.trans (iI_nat _)) q2 (xfr_tr f1 q3))
  · refine xs_tsIn (tgt := 111) dB_about_27 (by decide) (by decide) rfl (by decide) ?_
    refine xs_aload_n dB_about_111 rfl ?_
    refine xs_aload_n dB_about_112 rfl ?_
    refine xs_get dB_about_113 flB_16 (by repeat (first | exact va_up_self _ _ _ | assumption | refine (va_up_ne _ _ (by omega)).trans ?_)) rfl ?_
    refine xs_cV_ix (As := [_]) dB_about_116 lkB_229 (by repeat (first | exact va_up_self _ _ _ | assumption | refine (va_up_ne _ _ (by omega)).trans ?_)) (k_B_longest c1 w1 r1 ⟨by omega, by omega⟩ hV hf) rfl rfl (Nat.le_of_ble_eq_true rfl) ⟨by decide, by decide⟩ ⟨by omega, by omega⟩ ?_
    intro q H2 ⟨q1, q2, q3, q4⟩
    exact xs_iret dB_about_119 rfl rfl (by omega) (by omega) (bOk rfl (q1.trans (iI_nat _)) (mdx_z h1 ⟨_, _, _, _, q2⟩ (mwk_of q3) q4) (xfr_tr f1 (mfr_x q4)))
  · have v3 : vp_in ((3 : Int32) + iI 7 - 7) 70 := fin70 (j := 3) (by decide)
    have j3 : ((3 : Int32) + iI 7 - 7).toNatClampNeg = 3 := by decide
    refine xs_tsOut (tgt := 120) dB_about_27 (by decide) (by decide) ?_
    refine xs_aload_n dB_about_120 rfl ?_
    refine xs_get dB_about_121 flB_16 (by repeat (first | exact va_up_self _ _ _ | assumption | refine (va_up_ne _ _ (by omega)).trans ?_)) rfl ?_
    refine xs_iconst (v := 3) dB_about_124 (by decide) ?_
    refine xs_iload_n dB_about_125 rfl ?_
    refine xs_iadd dB_about_126 ?_
    refine xs_bipush (v := 7) dB_about_127 (by decide) ?_
    refine xs_isub dB_about_129 ?_
    refine xs_iald dB_about_130 (by repeat (first | exact va_up_self _ _ _ | assumption | refine (va_up_ne _ _ (by omega)).trans ?_)) (by assumption) ?_
    rw [j3, f3]
    exact xs_iret dB_about_131 rfl rfl (by omega) (by omega) (bOk rfl rfl h1 f1)
  · have v3 : vp_in ((3 : Int32) + iI 8 - 7) 70 := fin70 (j := 4) (by decide)
    have j3 : ((3 : Int32) + iI 8 - 7).toNatClampNeg = 4 := by decide
    refine xs_tsOut (tgt := 120) dB_about_27 (by decide) (by decide) ?_
    refine xs_aload_n dB_about_120 rfl ?_
    refine xs_get dB_about_121 flB_16 (by repeat (first | exact va_up_self _ _ _ | assumption | refine (va_up_ne _ _ (by omega)).trans ?_)) rfl ?_
    refine xs_iconst (v := 3) dB_about_124 (by decide) ?_
    refine xs_iload_n dB_about_125 rfl ?_
    refine xs_iadd dB_about_126 ?_
    refine xs_bipush (v := 7) dB_about_127 (by decide) ?_
    refine xs_isub dB_about_129 ?_
    refine xs_iald dB_about_130 (by repeat (first | exact va_up_self _ _ _ | assumption | refine (va_up_ne _ _ (by omega)).trans ?_)) (by assumption) ?_
    rw [j3, f4]
    exact xs_iret dB_about_131 rfl rfl (by omega) (by omega) (bOk rfl rfl h1 f1)
  · have v3 : vp_in ((3 : Int32) + iI 9 - 7) 70 := fin70 (j := 5) (by decide)
    have j3 : ((3 : Int32) + iI 9 - 7).toNatClampNeg = 5 := by decide
    refine xs_tsOut (tgt := 120) dB_about_27 (by decide) (by decide) ?_
    refine xs_aload_n dB_about_120 rfl ?_
    refine xs_get dB_about_121 flB_16 (by repeat (first | exact va_up_self _ _ _ | assumption | refine (va_up_ne _ _ (by omega)).trans ?_)) rfl ?_
    refine xs_iconst (v := 3) dB_about_124 (by decide) ?_
    refine xs_iload_n dB_about_125 rfl ?_
    refine xs_iadd dB_about_126 ?_
    refine xs_bipush (v := 7) dB_about_127 (by decide) ?_
    refine xs_isub dB_about_129 ?_
    refine xs_iald dB_about_130 (by repeat (first | exact va_up_self _ _ _ | assumption | refine (va_up_ne _ _ (by omega)).trans ?_)) (by assumption) ?_
    rw [j3, f5]
    exact xs_iret dB_about_131 rfl rfl (by omega) (by omega) (bOk rfl rfl h1 f1)
end N5
