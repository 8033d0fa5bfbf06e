theorem zfo_b {G : xG} {f : Nat} {N : List Int} {F : List P3} {b c b2 : P3} (h : zfo G f N F b c) : zfo (va_up G (f + 5) (xTp b2)) f N F b2 c := by
  obtain ⟨fh, fk, fl, nu, ⟨g0, g1, g2, g3, g4, g5, g6⟩, hr⟩ := h
  exact ⟨fh, fk, fl, nu, ⟨(by repeat (first | assumption | exact va_up_self _ _ _ | refine (va_up_ne _ _ (by omega)).trans ?_)), (by repeat (first | assumption | exact va_up_self _ _ _ | refine (va_up_ne _ _ (by omega)).trans ?_)), (by repeat (first | assumption | exact va_up_self _ _ _ | refine (va_up_ne _ _ (by omega)).trans ?_)), (by repeat (first | assumption | exact va_up_self _ _ _ | refine (va_up_ne _ _ (by omega)).trans ?_)), (by repeat (first | assumption | exact va_up_self _ _ _ | refine (va_up_ne _ _ (by omega)).trans ?_)), (by repeat (first | assumption | exact va_up_self _ _ _ | refine (va_up_ne _ _ (by omega)).trans ?_)), (by repeat (first | assumption | exact va_up_self _ _ _ | refine (va_up_ne _ _ (by omega)).trans ?_))⟩, hr⟩
theorem zfo_c {G : xG} {f : Nat} {N : List Int} {F : List P3} {b c c2 : P3} (h : zfo G f N F b c) : zfo (va_up G (f + 6) (xTp c2)) f N F b c2 := by
  obtain ⟨fh, fk, fl, nu, ⟨g0, g1, g2, g3, g4, g5, g6⟩, hr⟩ := h
  exact ⟨fh, fk, fl, nu, ⟨(by repeat (first | assumption | exact va_up_self _ _ _ | refine (va_up_ne _ _ (by omega)).trans ?_)), (by repeat (first | assumption | exact va_up_self _ _ _ | refine (va_up_ne _ _ (by omega)).trans ?_)), (by repeat (first | assumption | exact va_up_self _ _ _ | refine (va_up_ne _ _ (by omega)).trans ?_)), (by repeat (first | assumption | exact va_up_self _ _ _ | refine (va_up_ne _ _ (by omega)).trans ?_)), (by repeat (first | assumption | exact va_up_self _ _ _ | refine (va_up_ne _ _ (by omega)).trans ?_)), (by repeat (first | assumption | exact va_up_self _ _ _ | refine (va_up_ne _ _ (by omega)).trans ?_)), (by repeat (first | assumption | exact va_up_self _ _ _ | refine (va_up_ne _ _ (by omega)).trans ?_))⟩, hr⟩
theorem frm_s {l : List Int} {x y z : Int} {a b c : Nat} {E : P3 → Bool} (h : l[c]? = some z) : (pA l a ++ (pB l x b ++ pC l x y (c + 1))).filter E = (pA l a ++ (pB l x b ++ pC l x y c)).filter E ++ (if E (x, y, z) = true then [(x, y, z)] else []) := by
  rw [pC_s h]
  simp only [List.filter_append, List.append_assoc, List.filter_cons, List.filter_nil]
theorem k_F_make {n f cr i : Nat} {G : xG} {N : List Int} {F : List P3} {b0 c0 : P3} {V : zV} {g : zF} (hF : zfo G f N F b0 c0) (hC : cry G cr V) (hg : V.1[i]? = some g) (hd : cr + 7 ≤ f ∨ f + 7 ≤ cr) :
    xK mF_make [.ref f, .ref cr, .int (nI i)] n G 0 0 (qVx n (fun H => (∃ c, zfo H f (nums g.1 19) (frm V.2.1 g.1) g.1 c) ∧ xfr f (f + 7) G H)) xNo := by
  obtain ⟨hok, rh, rk, rl, rb, a1, a2, a3, d1, d2, d3, ⟨h0, h1, h2, h3, h4, h5, h6⟩, hr⟩ := id hC
  obtain ⟨hin, hgo, e1, e2, e3, e4⟩ := arr16 hok hr hg
  obtain ⟨u1, u2, u3⟩ := id hgo.1
  obtain ⟨NN, hNN⟩ : ∃ NN, NN = nums g.1 19 := ⟨_, rfl⟩
  obtain ⟨E, hE⟩ : ∃ E : P3 → Bool, E = fun q => zEq V.2.1 q g.1 := ⟨_, rfl⟩
  have hfrm : frm V.2.1 g.1 = (cb NN).filter E := by rw [hNN, hE]; rfl
  have hle : ((cb NN).filter E).length ≤ 48 := by rw [← hfrm]; exact frm_le _ _
  have hNl : NN.length ≤ 6 := by rw [hNN]; exact nums_le _ _
  have hNb : ∀ (k : Nat) (x : Int), NN[k]? = some x → x.natAbs < 10 := fun k x hk => by
    rw [hNN] at hk
    exact dsl_bd (Nat.le_refl 19) (List.mem_filter.mp (List.mem_of_getElem? hk)).1
  rw [hfrm, ← hNN]
  have loop3 : ∀ (a b : Nat) (x y : Int), NN[a]? = some x → NN[b]? = some y → (∀ (H : xG) (c : P3), zfo H f NN ((pA NN a ++ pB NN x (b + 1)).filter E) g.1 c → xfr f (f + 7) G H → xS mF_make n 0 0 (qVx n (fun H => (∃ c, zfo H f NN ((cb NN).filter E) g.1 c) ∧ xfr f (f + 7) G H)) xNo 50 [(0, .ref f), (1, .ref cr), (2, .int (nI i)), (3, .int (nI a)), (4, .int (nI (b + 1)))] [] n H 0 0) →
      ∀ (m k : Nat) (H : xG) (c : P3), NN.length - k < m → k ≤ NN.length → zfo H f NN ((pA NN a ++ (pB NN x b ++ pC NN x y k)).filter E) g.1 c → xfr f (f + 7) G H → xS mF_make n 0 0 (qVx n (fun H => (∃ c, zfo H f NN ((cb NN).filter E) g.1 c) ∧ xfr f (f + 7) G H)) xNo 62 [(0, .ref f), (1, .ref cr), (2, .int (nI i)), (3, .int (nI a)), (4, .int (nI b)), (5, .int (nI k))] [] n H 0 0 := by
    intro a b x y hx hy hout m
    have hal := (List.getElem?_eq_some_iff.mp hx).1
    have hbl := (List.getElem?_eq_some_iff.mp hy).1
    induction m with
    | zero => intro k H c q; exact absurd q (by omega)
    | succ m ih =>
      intro k H c q1 q2 hz hfr
      obtain ⟨fh, fk, fl, nu, ⟨g0, g1, g2, g3, g4, g5, g6⟩, hN, hq, l1, l2⟩ := id hz
      refine xs_iload dF_make_62 rfl ?_
      refine xs_aload_n dF_make_64 rfl ?_
      refine xs_get dF_make_65 flF_28 (by repeat (first | assumption | exact va_up_self _ _ _ | refine (va_up_ne _ _ (by omega)).trans ?_)) rfl ?_
      refine xs_icmp_ge dF_make_68 (fun hg => ?_) (fun hg => ?_)
      · have hk := (nI_leI (by omega) (by omega)).mp hg
        rw [pC_e hk, ← pB_s hy] at hz
        refine xs_iinc (L2 := [(4, _), (0, _), (1, _), (2, _), (3, _), (5, _)]) dF_make_129 rfl rfl (by decide) rfl ?_
        refine xs_goto dF_make_132 ?_
        refine xs_pick (L2 := [(0, _), (1, _), (2, _), (3, _), (4, _)]) [1, 2, 3, 4, 0] rfl ?_
        rw [xii]
        exact hout H c hz hfr
      · have hk : k < NN.length := nI_lt_of (by omega) (by omega) hg
        obtain ⟨z, hzz⟩ : ∃ z, NN[k]? = some z := ⟨_, List.getElem?_eq_getElem hk⟩
        have bx := hNb a x hx
        have byy := hNb b y hy
        have bz := hNb k z hzz
        have hina : vp_in (nI a) 6 := vp_in_nI (by omega) (by omega)
        have hinb : vp_in (nI b) 6 := vp_in_nI (by omega) (by omega)
        have hink : vp_in (nI k) 6 := vp_in_nI (by omega) (by omega)
        have ea : nu (nI a).toNatClampNeg = iI x := by rw [nI_clamp (by omega)]; exact hN a x hx
        have eb : nu (nI b).toNatClampNeg = iI y := by rw [nI_clamp (by omega)]; exact hN b y hy
        have ek : nu (nI k).toNatClampNeg = iI z := by rw [nI_clamp (by omega)]; exact hN k z hzz
        have hCH : cry H cr V := cry_fr hC (fun k hk hk2 => hfr k (by omega))
        have hcell := cry_cell hCH
        have next : ∀ (H : xG) (c : P3), zfo H f NN ((pA NN a ++ (pB NN x b ++ pC NN x y (k + 1))).filter E) g.1 c → xfr f (f + 7) G H → xS mF_make n 0 0 (qVx n (fun H => (∃ c, zfo H f NN ((cb NN).filter E) g.1 c) ∧ xfr f (f + 7) G H)) xNo 123 [(0, .ref f), (1, .ref cr), (2, .int (nI i)), (3, .int (nI a)), (4, .int (nI b)), (5, .int (nI k))] [] n H 0 0 := by
          intro H c hz hfr
          refine xs_iinc (L2 := [(5, _), (0, _), (1, _), (2, _), (3, _), (4, _)]) dF_make_123 rfl rfl (by decide) rfl ?_
          refine xs_goto dF_make_126 ?_
          refine xs_pick (L2 := [(0, _), (1, _), (2, _), (3, _), (4, _), (5, _)]) [1, 2, 3, 4, 5, 0] rfl ?_
          rw [xii]
          exact ih (k + 1) H c (by omega) (by omega) hz hfr
        have hz1 : zfo (va_up H (f + 6) (xTp (x, y, z))) f NN ((pA NN a ++ (pB NN x b ++ pC NN x y k)).filter E) g.1 (x, y, z) := zfo_c hz
        have hfr1 : xfr f (f + 7) G (va_up H (f + 6) (xTp (x, y, z))) := xfr_up hfr (by omega) (by omega)
        have hs := frm_s (x := x) (y := y) (a := a) (b := b) (E := E) hzz
        refine xs_aload_n dF_make_71 rfl ?_
        refine xs_get dF_make_72 flF_38 (by repeat (first | assumption | exact va_up_self _ _ _ | refine (va_up_ne _ _ (by omega)).trans ?_)) rfl ?_
        refine xs_aload_n dF_make_75 rfl ?_
        refine xs_get dF_make_76 flF_25 (by repeat (first | assumption | exact va_up_self _ _ _ | refine (va_up_ne _ _ (by omega)).trans ?_)) rfl ?_
        refine xs_iload_n dF_make_79 rfl ?_
        refine xs_iald dF_make_80 (by repeat (first | assumption | exact va_up_self _ _ _ | refine (va_up_ne _ _ (by omega)).trans ?_)) (by assumption) ?_
        refine xs_i2l dF_make_81 ?_
        refine xs_aload_n dF_make_82 rfl ?_
        refine xs_get dF_make_83 flF_25 (by repeat (first | assumption | exact va_up_self _ _ _ | refine (va_up_ne _ _ (by omega)).trans ?_)) rfl ?_
        refine xs_iload dF_make_86 rfl ?_
        refine xs_iald dF_make_88 (by repeat (first | assumption | exact va_up_self _ _ _ | refine (va_up_ne _ _ (by omega)).trans ?_)) (by assumption) ?_
        refine xs_i2l dF_make_89 ?_
        refine xs_aload_n dF_make_90 rfl ?_
        refine xs_get dF_make_91 flF_25 (by repeat (first | assumption | exact va_up_self _ _ _ | refine (va_up_ne _ _ (by omega)).trans ?_)) rfl ?_
        refine xs_iload dF_make_94 rfl ?_
        refine xs_iald dF_make_96 (by repeat (first | assumption | exact va_up_self _ _ _ | refine (va_up_ne _ _ (by omega)).trans ?_)) (by assumption) ?_
        refine xs_i2l dF_make_97 ?_
        rw [ea, eb, ek, iI_l (by omega), iI_l (by omega), iI_l (by omega)]
        refine xs_cV_v (As := [_, _, _]) dF_make_98 lkF_46 (by repeat (first | assumption | exact va_up_self _ _ _ | refine (va_up_ne _ _ (by omega)).trans ?_)) (k_T_put g6) rfl rfl (Nat.le_of_ble_eq_true rfl) ⟨by decide, by decide⟩ ⟨by omega, by omega⟩ ?_
        refine xs_aload_n dF_make_101 rfl ?_
        refine xs_get dF_make_102 flF_38 (by repeat (first | assumption | exact va_up_self _ _ _ | refine (va_up_ne _ _ (by omega)).trans ?_)) rfl ?_
        refine xs_aload_n dF_make_105 rfl ?_
        refine xs_get dF_make_106 flF_34 (by repeat (first | assumption | exact va_up_self _ _ _ | refine (va_up_ne _ _ (by omega)).trans ?_)) rfl ?_
        refine xs_aload_n dF_make_109 rfl ?_
        refine xs_get dF_make_110 flF_53 (by repeat (first | assumption | exact va_up_self _ _ _ | refine (va_up_ne _ _ (by omega)).trans ?_)) rfl ?_
        refine xs_cV_i (As := [_, _]) dF_make_113 lkF_56 (by repeat (first | assumption | exact va_up_self _ _ _ | refine (va_up_ne _ _ (by omega)).trans ?_)) (k_T_isEquivalentTo (p:=(x, y, z)) (q:=g.1) (va_up_self _ _ _) (by repeat (first | assumption | exact va_up_self _ _ _ | refine (va_up_ne _ _ (by omega)).trans ?_)) (show bd 1000 (x, y, z) from ⟨(by show x.natAbs < 1000; omega), (by show y.natAbs < 1000; omega), (by show z.natAbs < 1000; omega)⟩) (bd_mono hgo.1 (by decide)) hok.2.2.1) rfl rfl (Nat.le_of_ble_eq_true rfl) ⟨by decide, by decide⟩ ⟨by omega, by omega⟩ ?_
        refine xs_if_eq dF_make_116 (fun h => ?_) (fun h => ?_)
        · have h9 : E (x, y, z) = false := by rw [hE]; exact (bI_0 _).mp h
          rw [h9, if_neg (by decide), List.append_nil] at hs
          refine xs_pick (L2 := [(0, _), (1, _), (2, _), (3, _), (4, _), (5, _)]) [0, 1, 2, 3, 4, 5] rfl ?_
          refine next _ (x, y, z) ?_ hfr1
          rw [hs]
          exact hz1
        · have h9 : E (x, y, z) = true := by rw [hE]; exact (bI_1n _).mp h
          rw [h9, if_pos rfl] at hs
          refine xs_aload_n dF_make_119 rfl ?_
          refine xs_cV_vx (As := []) dF_make_120 lkF_60 (by repeat (first | assumption | exact va_up_self _ _ _ | refine (va_up_ne _ _ (by omega)).trans ?_)) (k_F_takeCandidate hz1 (frm_room hx hy hzz h9 hle)) rfl rfl (Nat.le_of_ble_eq_true rfl) ⟨by decide, by decide⟩ ⟨by omega, by omega⟩ ?_
          intro H2 hH2
          obtain ⟨hz2, hfr2⟩ := hH2
          refine xs_pick (L2 := [(0, _), (1, _), (2, _), (3, _), (4, _), (5, _)]) [0, 1, 2, 3, 4, 5] rfl ?_
          refine next _ (x, y, z) ?_ (xfr_tr hfr1 hfr2)
          rw [hs]
          exact hz2
  have loop2 : ∀ (a : Nat) (x : Int), NN[a]? = some x → (∀ (H : xG) (c : P3), zfo H f NN ((pA NN (a + 1)).filter E) g.1 c → xfr f (f + 7) G H → xS mF_make n 0 0 (qVx n (fun H => (∃ c, zfo H f NN ((cb NN).filter E) g.1 c) ∧ xfr f (f + 7) G H)) xNo 39 [(0, .ref f), (1, .ref cr), (2, .int (nI i)), (3, .int (nI (a + 1)))] [] n H 0 0) →
      ∀ (m b : Nat) (H : xG) (c : P3), NN.length - b < m → b ≤ NN.length → zfo H f NN ((pA NN a ++ pB NN x b).filter E) g.1 c → xfr f (f + 7) G H → xS mF_make n 0 0 (qVx n (fun H => (∃ c, zfo H f NN ((cb NN).filter E) g.1 c) ∧ xfr f (f + 7) G H)) xNo 50 [(0, .ref f), (1, .ref cr), (2, .int (nI i)), (3, .int (nI a)), (4, .int (nI b))] [] n H 0 0 := by
    intro a x hx hout m
    induction m with
    | zero => intro b H c q; exact absurd q (by omega)
    | succ m ih =>
      intro b H c q1 q2 hz hfr
      obtain ⟨fh, fk, fl, nu, ⟨g0, g1, g2, g3, g4, g5, g6⟩, hN, hq, l1, l2⟩ := id hz
      refine xs_iload dF_make_50 rfl ?_
      refine xs_aload_n dF_make_52 rfl ?_
      refine xs_get dF_make_53 flF_28 (by repeat (first | assumption | exact va_up_self _ _ _ | refine (va_up_ne _ _ (by omega)).trans ?_)) rfl ?_
      refine xs_icmp_ge dF_make_56 (fun hg => ?_) (fun hg => ?_)
      · have hk := (nI_leI (by omega) (by omega)).mp hg
        rw [pB_e hk, ← pA_s hx] at hz
        refine xs_iinc (L2 := [(3, _), (0, _), (1, _), (2, _), (4, _)]) dF_make_135 rfl rfl (by decide) rfl ?_
        refine xs_goto dF_make_138 ?_
        refine xs_pick (L2 := [(0, _), (1, _), (2, _), (3, _)]) [1, 2, 3, 0] rfl ?_
        rw [xii]
        exact hout H c hz hfr
      · have hk : b < NN.length := nI_lt_of (by omega) (by omega) hg
        obtain ⟨y, hy⟩ : ∃ y, NN[b]? = some y := ⟨_, List.getElem?_eq_getElem hk⟩
        refine xs_iconst (v := 0) dF_make_59 (by decide) ?_
        refine xs_istore (L2 := [(5, _), (0, _), (1, _), (2, _), (3, _), (4, _)]) dF_make_60 (by decide) rfl ?_
        refine xs_pick (L2 := [(0, _), (1, _), (2, _), (3, _), (4, _), (5, _)]) [1, 2, 3, 4, 5, 0] rfl ?_
        exact loop3 a b x y hx hy (fun H c hz hfr => ih (b + 1) H c (by omega) (by omega) hz hfr) (NN.length + 1) 0 H c (by omega) (by omega) (by rw [show pC NN x y 0 = [] from rfl, List.append_nil]; exact hz) hfr
  have loop1 : ∀ (m a : Nat) (H : xG) (c : P3), NN.length - a < m → a ≤ NN.length → zfo H f NN ((pA NN a).filter E) g.1 c → xfr f (f + 7) G H → xS mF_make n 0 0 (qVx n (fun H => (∃ c, zfo H f NN ((cb NN).filter E) g.1 c) ∧ xfr f (f + 7) G H)) xNo 39 [(0, .ref f), (1, .ref cr), (2, .int (nI i)), (3, .int (nI a))] [] n H 0 0 := by
    intro m
    induction m with
    | zero => intro a H c q; exact absurd q (by omega)
    | succ m ih =>
      intro a H c q1 q2 hz hfr
      obtain ⟨fh, fk, fl, nu, ⟨g0, g1, g2, g3, g4, g5, g6⟩, hN, hq, l1, l2⟩ := id hz
      refine xs_iload_n dF_make_39 rfl ?_
      refine xs_aload_n dF_make_40 rfl ?_
      refine xs_get dF_make_41 flF_28 (by repeat (first | assumption | exact va_up_self _ _ _ | refine (va_up_ne _ _ (by omega)).trans ?_)) rfl ?_
      refine xs_icmp_ge dF_make_44 (fun hg => ?_) (fun hg => ?_)
      · have hk := (nI_leI (by omega) (by omega)).mp hg
        rw [pA_e hk] at hz
        exact xs_vret dF_make_141 rfl (by omega) (by omega) ⟨rfl, rfl, ⟨c, hz⟩, hfr⟩
      · have hk : a < NN.length := nI_lt_of (by omega) (by omega) hg
        obtain ⟨x, hx⟩ : ∃ x, NN[a]? = some x := ⟨_, List.getElem?_eq_getElem hk⟩
        refine xs_iconst (v := 0) dF_make_47 (by decide) ?_
        refine xs_istore (L2 := [(4, _), (0, _), (1, _), (2, _), (3, _)]) dF_make_48 (by decide) rfl ?_
        refine xs_pick (L2 := [(0, _), (1, _), (2, _), (3, _), (4, _)]) [1, 2, 3, 4, 0] rfl ?_
        exact loop2 a x hx (fun H c hz hfr => ih (a + 1) H c (by omega) (by omega) hz hfr) (NN.length + 1) 0 H c (by omega) (by omega) (by rw [show pB NN x 0 = [] from rfl, List.append_nil]; exact hz) hfr
  obtain ⟨fh, fk, fl, nu, ⟨g0, g1, g2, g3, g4, g5, g6⟩, hN, hq, l1, l2⟩ := id hF
  refine xK_of2 (L0 := [(0, _), (1, _), (2, _)]) (by decide +kernel) rfl (Nat.le_of_ble_eq_true rfl) rfl ?_
  refine xs_aload_n dF_make_0 rfl ?_
  refine xs_get dF_make_1 flF_34 (by repeat (first | assumption | exact va_up_self _ _ _ | refine (va_up_ne _ _ (by omega)).trans ?_)) rfl ?_
  refine xs_aload_n dF_make_4 rfl ?_
  refine xs_get dF_make_5 flF_41 (by repeat (first | assumption | exact va_up_self _ _ _ | refine (va_up_ne _ _ (by omega)).trans ?_)) rfl ?_
  refine xs_iload_n dF_make_8 rfl ?_
  refine xs_iald dF_make_9 (by repeat (first | assumption | exact va_up_self _ _ _ | refine (va_up_ne _ _ (by omega)).trans ?_)) (by assumption) ?_
  refine xs_i2l dF_make_10 ?_
  refine xs_aload_n dF_make_11 rfl ?_
  refine xs_get dF_make_12 flF_44 (by repeat (first | assumption | exact va_up_self _ _ _ | refine (va_up_ne _ _ (by omega)).trans ?_)) rfl ?_
  refine xs_iload_n dF_make_15 rfl ?_
  refine xs_iald dF_make_16 (by repeat (first | assumption | exact va_up_self _ _ _ | refine (va_up_ne _ _ (by omega)).trans ?_)) (by assumption) ?_
  refine xs_i2l dF_make_17 ?_
  refine xs_aload_n dF_make_18 rfl ?_
  refine xs_get dF_make_19 flF_45 (by repeat (first | assumption | exact va_up_self _ _ _ | refine (va_up_ne _ _ (by omega)).trans ?_)) rfl ?_
  refine xs_iload_n dF_make_22 rfl ?_
  refine xs_iald dF_make_23 (by repeat (first | assumption | exact va_up_self _ _ _ | refine (va_up_ne _ _ (by omega)).trans ?_)) (by assumption) ?_
  refine xs_i2l dF_make_24 ?_
  rw [e1, e2, e3, iI_l (by omega), iI_l (by omega), iI_l (by omega)]
  have hz1 : zfo (va_up (va_up G (f + 5) (xTp g.1)) f (.inr (2, [.ref (f + 1), .ref (f + 2), .ref (f + 3), .int (nI 0), .ref (f + 4), .int (nI N.length), .ref (f + 5), .ref (f + 6)]))) f N [] g.1 c0 :=
    ⟨fh, fk, fl, nu, ⟨va_up_self _ _ _, (by repeat (first | assumption | exact va_up_self _ _ _ | refine (va_up_ne _ _ (by omega)).trans ?_)), (by repeat (first | assumption | exact va_up_self _ _ _ | refine (va_up_ne _ _ (by omega)).trans ?_)), (by repeat (first | assumption | exact va_up_self _ _ _ | refine (va_up_ne _ _ (by omega)).trans ?_)), (by repeat (first | assumption | exact va_up_self _ _ _ | refine (va_up_ne _ _ (by omega)).trans ?_)), (by repeat (first | assumption | exact va_up_self _ _ _ | refine (va_up_ne _ _ (by omega)).trans ?_)), (by repeat (first | assumption | exact va_up_self _ _ _ | refine (va_up_ne _ _ (by omega)).trans ?_))⟩, hN, (fun i q hi => by cases hi), l1, Nat.zero_le _⟩
  refine xs_cV_v (As := [_, _, _]) dF_make_25 lkF_46 (by repeat (first | assumption | exact va_up_self _ _ _ | refine (va_up_ne _ _ (by omega)).trans ?_)) (k_T_put g5) rfl rfl (Nat.le_of_ble_eq_true rfl) ⟨by decide, by decide⟩ ⟨by omega, by omega⟩ ?_
  refine xs_aload_n dF_make_28 rfl ?_
  refine xs_iconst (v := 0) dF_make_29 (by decide) ?_
  refine xs_put dF_make_30 flF_21 ft2_3 (by repeat (first | assumption | exact va_up_self _ _ _ | refine (va_up_ne _ _ (by omega)).trans ?_)) (fun _ => rfl) (fun _ => rfl) (by simp) ?_
  refine xs_aload_n dF_make_33 rfl ?_
  refine xs_cV_vx (As := []) dF_make_34 lkF_50 (by repeat (first | assumption | exact va_up_self _ _ _ | refine (va_up_ne _ _ (by omega)).trans ?_)) (k_F_collectNumbers hz1 hgo.1) rfl rfl (Nat.le_of_ble_eq_true rfl) ⟨by decide, by decide⟩ ⟨by omega, by omega⟩ ?_
  intro H hH
  obtain ⟨hz2, hfr2⟩ := hH
  rw [← hNN] at hz2
  refine xs_iconst (v := 0) dF_make_37 (by decide) ?_
  refine xs_istore_n (L2 := [(3, _), (0, _), (1, _), (2, _)]) dF_make_38 (by decide) rfl ?_
  refine xs_pick (L2 := [(0, _), (1, _), (2, _), (3, _)]) [1, 2, 3, 0] rfl ?_
  exact loop1 (NN.length + 1) 0 H c0 (by omega) (by omega) hz2 (xfr_tr (xfr_up (xfr_up xfr_rf (by omega) (by omega)) (by omega) (by omega)) hfr2)
theorem k_F_init {f : Nat} {G : xG} (hG : G f = .inr (2, nf2)) : xK mF_init [.ref f] (f + 1) G 6 156 (fun v m H => v = none ∧ m = f + 7 ∧ zfo H f [] [] (0, 0, 0) (0, 0, 0) ∧ xlow f G H) xNo := by
  refine xK_of2 (L0 := [(0, _)]) (by decide +kernel) rfl (Nat.le_of_ble_eq_true rfl) rfl ?_
  refine xs_aload_n dF_init_0 rfl ?_
  refine xs_objInit dF_init_1 ljF_3 (Nat.le_of_ble_eq_true rfl) ⟨by decide, by decide⟩ ?_
  refine xs_aload_n dF_init_4 rfl ?_
  refine xs_bipush (v := 48) dF_init_5 (by decide) ?_
  refine xs_newI (N := 48) dF_init_7 rfl (by omega) (by omega) (by omega) ?_
  refine xs_putF dF_init_9 flF_9 ft2_0 rfl rfl (by repeat (first | assumption | exact va_up_self _ _ _ | refine (va_up_ne _ _ (by omega)).trans ?_)) (fun _ => rfl) (fun _ => rfl) (by simp) ?_
  refine xs_aload_n dF_init_12 rfl ?_
  refine xs_bipush (v := 48) dF_init_13 (by decide) ?_
  refine xs_newI (N := 48) dF_init_15 rfl (by omega) (by omega) (by omega) ?_
  refine xs_putF dF_init_17 flF_15 ft2_1 rfl rfl (by repeat (first | assumption | exact va_up_self _ _ _ | refine (va_up_ne _ _ (by omega)).trans ?_)) (fun _ => rfl) (fun _ => rfl) (by simp) ?_
  refine xs_aload_n dF_init_20 rfl ?_
  refine xs_bipush (v := 48) dF_init_21 (by decide) ?_
  refine xs_newI (N := 48) dF_init_23 rfl (by omega) (by omega) (by omega) ?_
  refine xs_putF dF_init_25 flF_18 ft2_2 rfl rfl (by repeat (first | assumption | exact va_up_self _ _ _ | refine (va_up_ne _ _ (by omega)).trans ?_)) (fun _ => rfl) (fun _ => rfl) (by simp) ?_
  refine xs_aload_n dF_init_28 rfl ?_
  refine xs_iconst (v := 0) dF_init_29 (by decide) ?_
  refine xs_put dF_init_30 flF_21 ft2_3 (by repeat (first | assumption | exact va_up_self _ _ _ | refine (va_up_ne _ _ (by omega)).trans ?_)) (fun _ => rfl) (fun _ => rfl) (by simp) ?_
  refine xs_aload_n dF_init_33 rfl ?_
  refine xs_bipush (v := 6) dF_init_34 (by decide) ?_
  refine xs_newI (N := 6) dF_init_36 rfl (by omega) (by omega) (by omega) ?_
  refine xs_putF dF_init_38 flF_25 ft2_4 rfl rfl (by repeat (first | assumption | exact va_up_self _ _ _ | refine (va_up_ne _ _ (by omega)).trans ?_)) (fun _ => rfl) (fun _ => rfl) (by simp) ?_
  refine xs_aload_n dF_init_41 rfl ?_
  refine xs_iconst (v := 0) dF_init_42 (by decide) ?_
  refine xs_put dF_init_43 flF_28 ft2_5 (by repeat (first | assumption | exact va_up_self _ _ _ | refine (va_up_ne _ _ (by omega)).trans ?_)) (fun _ => rfl) (fun _ => rfl) (by simp) ?_
  refine xs_aload_n dF_init_46 rfl ?_
  refine xs_new dF_init_47 klF_31 xn5 (by omega) (by omega) ?_
  refine xs_dup dF_init_50 rfl ?_
  refine xs_cIN_v (As := []) dF_init_51 lkF_33 (k_T_init) rfl rfl (Nat.le_of_ble_eq_true rfl) ⟨by decide, by decide⟩ ⟨by omega, by omega⟩ ?_
  refine xs_putF dF_init_54 flF_34 ft2_6 rfl rfl (by repeat (first | assumption | exact va_up_self _ _ _ | refine (va_up_ne _ _ (by omega)).trans ?_)) (fun _ => rfl) (fun _ => rfl) (by simp) ?_
  refine xs_aload_n dF_init_57 rfl ?_
  refine xs_new dF_init_58 klF_31 xn5 (by omega) (by omega) ?_
  refine xs_dup dF_init_61 rfl ?_
  refine xs_cIN_v (As := []) dF_init_62 lkF_33 (k_T_init) rfl rfl (Nat.le_of_ble_eq_true rfl) ⟨by decide, by decide⟩ ⟨by omega, by omega⟩ ?_
  refine xs_putF dF_init_65 flF_38 ft2_7 rfl rfl (by repeat (first | assumption | exact va_up_self _ _ _ | refine (va_up_ne _ _ (by omega)).trans ?_)) (fun _ => rfl) (fun _ => rfl) (by simp) ?_
  refine xs_vret dF_init_68 rfl (by omega) (by omega) ⟨rfl, by omega, ⟨fun _ => 0, fun _ => 0, fun _ => 0, fun _ => 0, ⟨?_, (by repeat (first | assumption | exact va_up_self _ _ _ | refine (va_up_ne _ _ (by omega)).trans ?_)), (by repeat (first | assumption | exact va_up_self _ _ _ | refine (va_up_ne _ _ (by omega)).trans ?_)), (by repeat (first | assumption | exact va_up_self _ _ _ | refine (va_up_ne _ _ (by omega)).trans ?_)), (by repeat (first | assumption | exact va_up_self _ _ _ | refine (va_up_ne _ _ (by omega)).trans ?_)), (by repeat (first | assumption | exact va_up_self _ _ _ | refine (va_up_ne _ _ (by omega)).trans ?_)), (by repeat (first | assumption | exact va_up_self _ _ _ | refine (va_up_ne _ _ (by omega)).trans ?_))⟩, (fun i x hi => by cases hi), (fun i q hi => by cases hi), Nat.zero_le _, Nat.zero_le _⟩, ?_⟩
  · rw [va_up_self]
    rfl
  · repeat (first | exact xlow_rf | refine xlow_up ?_ (by omega))
