def wyP (wy : Nat → Int64) (D : List P3) : Prop := ∀ i d, D[i]? = some d → wy (3 * i) = iL d.1 ∧ wy (3 * i + 1) = iL d.2.1 ∧ wy (3 * i + 2) = iL d.2.2
section M2
variable {n b : Nat} {G : xG} {rf sz sp ac zs ft : Int32} {gd : Bool} {th wy : Nat → Int64}
theorem mrow_get {f : Nat → Int32} {V : zV} {i : Nat} {c : zF} (h : mrow f V) (hi : V.1[i]? = some c) (hl : V.1.length ≤ 16) :
    (vp_in (nI (6 + 4 * i + 0)) 70 ∧ vp_in (nI (6 + 4 * i + 1)) 70 ∧ vp_in (nI (6 + 4 * i + 2)) 70 ∧ vp_in (nI (6 + 4 * i + 3)) 70) ∧ f (nI (6 + 4 * i + 0)).toNatClampNeg = iI c.1.1 ∧ f (nI (6 + 4 * i + 1)).toNatClampNeg = iI c.1.2.1 ∧ f (nI (6 + 4 * i + 2)).toNatClampNeg = iI c.1.2.2 ∧ f (nI (6 + 4 * i + 3)).toNatClampNeg = iI c.2 := by
  have hk := (List.getElem?_eq_some_iff.mp hi).1
  obtain ⟨h1, h2, h3, h4⟩ := h.2 i c hi
  refine ⟨⟨fin70 (by omega), fin70 (by omega), fin70 (by omega), fin70 (by omega)⟩, ?_, ?_, ?_, ?_⟩
  · rw [nI_clamp (by omega)]; exact h1
  · rw [nI_clamp (by omega)]; exact h2
  · rw [nI_clamp (by omega)]; exact h3
  · rw [nI_clamp (by omega)]; exact h4
theorem k_B_layWays {r : Nat} {f : Nat → Int32} {V : zV} (hc : G b = mCl b rf sz sp gd ac zs ft) (h8 : G (b + 8) = oL 3 th) (h9 : G (b + 9) = oL 48 wy) (hr : G r = oI 70 f) (hrb : r < b + 8) (hV : zOk V) (hf : mrow f V) :
    xK mB_layWays [.ref b, .ref r] n G 0 0 (qVx n (fun H => (∃ th, H (b + 8) = oL 3 th) ∧ (∃ wy, H (b + 9) = oL 48 wy ∧ wyP wy (zDirs V)) ∧ xfr (b + 8) (b + 10) G H)) xNo := by
  obtain ⟨hL, hfs, hsy, hle, ht⟩ := id hV
  obtain ⟨⟨f0, f1, f2, f3, f4, f5⟩, hff⟩ := id hf
  obtain ⟨⟨t1, t2, t3⟩, tne, tg⟩ := id ht
  obtain ⟨w, hw⟩ : ∃ w, w = V.2.2.2 := ⟨_, rfl⟩
  have hdl : (zDirs V).length = V.1.length := List.length_map _
  rw [← hw] at f3 f4 f5 t1 t2 t3
  have v0 : vp_in (0 : Int32) 70 := fin70 (j := 0) (by decide)
  have v3 : vp_in (3 : Int32) 70 := fin70 (j := 3) (by decide)
  have v4 : vp_in (4 : Int32) 70 := fin70 (j := 4) (by decide)
  have v5 : vp_in (5 : Int32) 70 := fin70 (j := 5) (by decide)
  have e0 : (0 : Int32).toNatClampNeg = 0 := by decide
  have e3 : (3 : Int32).toNatClampNeg = 3 := by decide
  have e4 : (4 : Int32).toNatClampNeg = 4 := by decide
  have e5 : (5 : Int32).toNatClampNeg = 5 := by decide
  have outer : ∀ (m i : Nat) (H : xG) (th wy : Nat → Int64), V.1.length - i < m → i ≤ V.1.length → H (b + 8) = oL 3 th → H (b + 9) = oL 48 wy → (∀ j d, j < i → (zDirs V)[j]? = some d → wy (3 * j) = iL d.1 ∧ wy (3 * j + 1) = iL d.2.1 ∧ wy (3 * j + 2) = iL d.2.2) → xfr (b + 8) (b + 10) G H →
      xS mB_layWays n 0 0 (qVx n (fun H => (∃ th, H (b + 8) = oL 3 th) ∧ (∃ wy, H (b + 9) = oL 48 wy ∧ wyP wy (zDirs V)) ∧ xfr (b + 8) (b + 10) G H)) xNo 20 [(0, .ref b), (1, .ref r), (2, .long (iL w.1)), (4, .long (iL w.2.1)), (6, .long (iL w.2.2)), (8, .int (nI i))] [] n H 0 0 := by
    intro m
    induction m with
    | zero => intro i H th wy q; exact absurd q (by omega)
    | succ m ih =>
      intro i H th wy q1 q2 h8 h9 hw9 hfr
      have hcH : H b = mCl b rf sz sp gd ac zs ft := by rw [hfr _ (by omega)]; exact hc
      have hrH : H r = oI 70 f := by rw [hfr _ (by omega)]; exact hr
      refine xs_iload dB_layWays_20 rfl ?_
      refine xs_aload_n dB_layWays_22 rfl ?_
      refine xs_iconst (v := 0) dB_layWays_23 (by decide) ?_
      refine xs_iald dB_layWays_24 (by repeat (first | exact va_up_self _ _ _ | assumption | refine (va_up_ne _ _ (by omega)).trans ?_)) (by assumption) ?_
      rw [e0, f0]
      refine xs_icmp_ge dB_layWays_25 (fun hg => ?_) (fun hg => ?_)
      · have hi := (nI_leI (by omega) (by omega)).mp hg
        exact xs_vret dB_layWays_201 rfl (by omega) (by omega) ⟨rfl, rfl, ⟨th, h8⟩, ⟨wy, h9, fun j d hj => hw9 j d (by have := (List.getElem?_eq_some_iff.mp hj).1; omega) hj⟩, hfr⟩
      · have hi : i < V.1.length := nI_lt_of (by omega) (by omega) hg
        obtain ⟨c, hci⟩ : ∃ c, V.1[i]? = some c := ⟨_, List.getElem?_eq_getElem hi⟩
        obtain ⟨⟨p1, p2, p3⟩, pne, pg, ph⟩ := id (hfs c (List.mem_of_getElem? hci))
        obtain ⟨⟨k0, k1, k2, k3⟩, g0, g1, g2, g3⟩ := mrow_get hf hci hL
        have hdi := zDirs_get hci
        obtain ⟨d, hd⟩ : ∃ d, d = zDir V.2.2.2 c := ⟨_, rfl⟩
        rw [← hd] at hdi
        have inner : ∀ (m j : Nat) (H : xG) (th wy : Nat → Int64) (u9 u11 u13 : Int64), j + m = 3 → H (b + 8) = oL 3 th → t3P th d → H (b + 9) = oL 48 wy → (∀ j d, j < i → (zDirs V)[j]? = some d → wy (3 * j) = iL d.1 ∧ wy (3 * j + 1) = iL d.2.1 ∧ wy (3 * j + 2) = iL d.2.2) → (∀ k, k < j → wy (3 * i + k) = iL (c3 d k)) → xfr (b + 8) (b + 10) G H →
            xS mB_layWays n 0 0 (qVx n (fun H => (∃ th, H (b + 8) = oL 3 th) ∧ (∃ wy, H (b + 9) = oL 48 wy ∧ wyP wy (zDirs V)) ∧ xfr (b + 8) (b + 10) G H)) xNo 164 [(0, .ref b), (1, .ref r), (2, .long (iL w.1)), (4, .long (iL w.2.1)), (6, .long (iL w.2.2)), (8, .int (nI i)), (15, .int (nI j))] [] n H 0 0 := by
          intro m
          induction m with
          | zero =>
            intro j H th wy u9 u11 u13 hj h8 ht h9 hw1 hw2 hfr
            have hj : j = 3 := by omega
            subst hj
            refine xs_iload dB_layWays_164 rfl ?_
            refine xs_iconst (v := 3) dB_layWays_166 (by decide) ?_
            refine xs_icmp_ge dB_layWays_167 (fun _ => ?_) (fun q => absurd (by decide) q)
            refine xs_iinc (L2 := [(8, _), (0, _), (1, _), (2, _), (4, _), (6, _), (15, _)]) dB_layWays_195 rfl rfl (by decide) rfl ?_
            refine xs_goto dB_layWays_198 ?_
            refine xs_pick (L2 := [(0, _), (1, _), (2, _), (4, _), (6, _), (8, _)]) [1, 2, 3, 4, 5, 0] rfl ?_
            rw [xii]
            refine ih (i + 1) H th wy (by omega) (by omega) h8 h9 (fun j d2 hj hjd => ?_) hfr
            by_cases hji : j = i
            · subst hji
              cases hdi.symm.trans hjd
              exact ⟨hw2 0 (by decide), hw2 1 (by decide), hw2 2 (by decide)⟩
            · exact hw1 j d2 (by omega) hjd
          | succ m ih2 =>
            intro j H th wy u9 u11 u13 hj h8 ht h9 hw1 hw2 hfr
            have hcH : H b = mCl b rf sz sp gd ac zs ft := by rw [hfr _ (by omega)]; exact hc
            have vj := in3 (j := j) (by omega)
            have e7 : (3 : Int32) * nI i + nI j = nI (3 * i + j) := by rw [mul3, nI_add2]
            have v7 : vp_in ((3 : Int32) * nI i + nI j) 48 := by rw [e7]; exact vp_in_nI (by omega) (by omega)
            have ht3 := t3P_iff.mp ht j (by omega)
            refine xs_iload dB_layWays_164 rfl ?_
            refine xs_iconst (v := 3) dB_layWays_166 (by decide) ?_
            refine xs_icmp_ge dB_layWays_167 (fun q => absurd ((nI_leI (a := 3) (by omega) (by omega)).mp q) (by omega)) (fun _ => ?_)
            refine xs_aload_n dB_layWays_170 rfl ?_
            refine xs_get dB_layWays_171 flB_36 (by repeat (first | exact va_up_self _ _ _ | assumption | refine (va_up_ne _ _ (by omega)).trans ?_)) rfl ?_
            refine xs_iconst (v := 3) dB_layWays_174 (by decide) ?_
            refine xs_iload dB_layWays_175 rfl ?_
            refine xs_imul dB_layWays_177 ?_
            refine xs_iload dB_layWays_178 rfl ?_
            refine xs_iadd dB_layWays_180 ?_
            refine xs_aload_n dB_layWays_181 rfl ?_
            refine xs_get dB_layWays_182 flB_32 (by repeat (first | exact va_up_self _ _ _ | assumption | refine (va_up_ne _ _ (by omega)).trans ?_)) rfl ?_
            refine xs_iload dB_layWays_185 rfl ?_
            refine xs_lald dB_layWays_187 (by repeat (first | exact va_up_self _ _ _ | assumption | refine (va_up_ne _ _ (by omega)).trans ?_)) (by assumption) ?_
            refine xs_last dB_layWays_188 (by repeat (first | exact va_up_self _ _ _ | assumption | refine (va_up_ne _ _ (by omega)).trans ?_)) (by assumption) ?_
            refine xs_iinc (L2 := [(15, _), (0, _), (1, _), (2, _), (4, _), (6, _), (8, _)]) dB_layWays_189 rfl rfl (by decide) rfl ?_
            refine xs_goto dB_layWays_192 ?_
            refine xs_pick (L2 := [(0, _), (1, _), (2, _), (4, _), (6, _), (8, _), (15, _)]) [1, 2, 3, 4, 5, 6, 0] rfl ?_
            rw [xii, e7, nI_clamp (by omega), nI_clamp (by omega), ht3]
            refine ih2 (j + 1) _ th _ u9 u11 u13 (by omega) (by rw [va_up_ne _ _ (by omega)]; exact h8) ht (va_up_self _ _ _) (fun j2 d2 hj2 hjd => ?_) (fun k hk => ?_) (xfr_up hfr (by omega) (by omega))
            · obtain ⟨x1, x2, x3⟩ := hw1 j2 d2 hj2 hjd
              simp only [vp_updL]
              rw [if_neg (by omega), if_neg (by omega), if_neg (by omega)]
              exact ⟨x1, x2, x3⟩
            · simp only [vp_updL]
              by_cases hkj : k = j
              · subst hkj
                rw [if_pos rfl]
              · rw [if_neg (by omega)]
                exact hw2 k (by omega)
        have join : ∀ (H : xG) (th : Nat → Int64) (L : List (Nat × Value)), H (b + 8) = oL 3 th → t3P th d → H (b + 9) = oL 48 wy → xfr (b + 8) (b + 10) G H → xS mB_layWays n 0 0 (qVx n (fun H => (∃ th, H (b + 8) = oL 3 th) ∧ (∃ wy, H (b + 9) = oL 48 wy ∧ wyP wy (zDirs V)) ∧ xfr (b + 8) (b + 10) G H)) xNo 161 [(0, .ref b), (1, .ref r), (2, .long (iL w.1)), (4, .long (iL w.2.1)), (6, .long (iL w.2.2)), (8, .int (nI i))] [] n H 0 0 := by
          intro H th L h8 ht h9 hfr
          refine xs_iconst (v := 0) dB_layWays_161 (by decide) ?_
          refine xs_istore (L2 := [(15, _), (0, _), (1, _), (2, _), (4, _), (6, _), (8, _)]) dB_layWays_162 (by decide) rfl ?_
          refine xs_pick (L2 := [(0, _), (1, _), (2, _), (4, _), (6, _), (8, _), (15, _)]) [1, 2, 3, 4, 5, 6, 0] rfl ?_
          exact inner 3 0 H th wy 0 0 0 (by omega) h8 ht h9 hw9 (fun k hk => absurd hk (by omega)) hfr
        refine xs_aload_n dB_layWays_28 rfl ?_
        refine xs_iload dB_layWays_29 rfl ?_
        refine xs_iconst (v := 0) dB_layWays_31 (by decide) ?_
        refine xs_cS_i (As := [_, _]) dB_layWays_32 lkB_92 (k_B_cell (i:=i) (w:=0)) rfl rfl (Nat.le_of_ble_eq_true rfl) ⟨by decide, by decide⟩ ⟨by omega, by omega⟩ ?_
        refine xs_iald dB_layWays_35 (by repeat (first | exact va_up_self _ _ _ | assumption | refine (va_up_ne _ _ (by omega)).trans ?_)) (by assumption) ?_
        rw [g0]
        refine xs_i2l dB_layWays_36 ?_
        refine xs_lstore (L2 := [(9, _), (0, _), (1, _), (2, _), (4, _), (6, _), (8, _)]) dB_layWays_37 (by decide) rfl ?_
        refine xs_aload_n dB_layWays_39 rfl ?_
        refine xs_iload dB_layWays_40 rfl ?_
        refine xs_iconst (v := 1) dB_layWays_42 (by decide) ?_
        refine xs_cS_i (As := [_, _]) dB_layWays_43 lkB_92 (k_B_cell (i:=i) (w:=1)) rfl rfl (Nat.le_of_ble_eq_true rfl) ⟨by decide, by decide⟩ ⟨by omega, by omega⟩ ?_
        refine xs_iald dB_layWays_46 (by repeat (first | exact va_up_self _ _ _ | assumption | refine (va_up_ne _ _ (by omega)).trans ?_)) (by assumption) ?_
        rw [g1, iI_l (by omega)]
        refine xs_i2l dB_layWays_47 ?_
        refine xs_lstore (L2 := [(11, _), (9, _), (0, _), (1, _), (2, _), (4, _), (6, _), (8, _)]) dB_layWays_48 (by decide) rfl ?_
        refine xs_aload_n dB_layWays_50 rfl ?_
        refine xs_iload dB_layWays_51 rfl ?_
        refine xs_iconst (v := 2) dB_layWays_53 (by decide) ?_
        refine xs_cS_i (As := [_, _]) dB_layWays_54 lkB_92 (k_B_cell (i:=i) (w:=2)) rfl rfl (Nat.le_of_ble_eq_true rfl) ⟨by decide, by decide⟩ ⟨by omega, by omega⟩ ?_
        refine xs_iald dB_layWays_57 (by repeat (first | exact va_up_self _ _ _ | assumption | refine (va_up_ne _ _ (by omega)).trans ?_)) (by assumption) ?_
        rw [g2, iI_l (by omega)]
        refine xs_i2l dB_layWays_58 ?_
        refine xs_lstore (L2 := [(13, _), (11, _), (9, _), (0, _), (1, _), (2, _), (4, _), (6, _), (8, _)]) dB_layWays_59 (by decide) rfl ?_
        refine xs_aload_n dB_layWays_61 rfl ?_
        refine xs_iload dB_layWays_62 rfl ?_
        refine xs_iconst (v := 3) dB_layWays_64 (by decide) ?_
        refine xs_cS_i (As := [_, _]) dB_layWays_65 lkB_92 (k_B_cell (i:=i) (w:=3)) rfl rfl (Nat.le_of_ble_eq_true rfl) ⟨by decide, by decide⟩ ⟨by omega, by omega⟩ ?_
        refine xs_iald dB_layWays_68 (by repeat (first | exact va_up_self _ _ _ | assumption | refine (va_up_ne _ _ (by omega)).trans ?_)) (by assumption) ?_
        rw [g3, iI_l (by omega)]
        refine xs_iconst (v := 1) dB_layWays_69 (by decide) ?_
        have h1 := iI_eq (x := c.2) (y := 1) (by omega) (by decide)
        refine xs_icmp_ne dB_layWays_70 (fun q => ?_) (fun q => ?_)
        · have hz : c.2 = 0 := by
            rcases ph with e | e
            · exact e
            · exact absurd (h1.mpr e) q
          have hdd : dv c.1 = d := by rw [hd, zDir, if_pos hz, dv_id pg]
          refine xs_aload_n dB_layWays_151 rfl ?_
          refine xs_lload dB_layWays_152 rfl ?_
          refine xs_lload dB_layWays_154 rfl ?_
          refine xs_lload dB_layWays_156 rfl ?_
          refine xs_cV_vx (As := [_, _, _]) dB_layWays_158 lkB_85 (by repeat (first | exact va_up_self _ _ _ | assumption | refine (va_up_ne _ _ (by omega)).trans ?_)) (k_B_divide (x:=c.1.1) (y:=c.1.2.1) (z:=c.1.2.2) (show bd 281474976710656 (c.1.1, c.1.2.1, c.1.2.2) from ⟨by show c.1.1.natAbs < _; omega, by show c.1.2.1.natAbs < _; omega, by show c.1.2.2.natAbs < _; omega⟩) hcH h8) rfl rfl (Nat.le_of_ble_eq_true rfl) ⟨by decide, by decide⟩ ⟨by omega, by omega⟩ ?_
          intro H2 ⟨th2, hH2, ht2⟩
          subst hH2
          refine xs_pick (L2 := [(0, _), (1, _), (2, _), (4, _), (6, _), (8, _)]) [3, 4, 5, 6, 7, 8] rfl ?_
          rw [show ((c.1.1, c.1.2.1, c.1.2.2) : P3) = c.1 from rfl, hdd] at ht2
          exact join _ th2 [] (va_up_self _ _ _) ht2 (by rw [va_up_ne _ _ (by omega)]; exact h9) (xfr_up hfr (by omega) (by omega))
        · have h1 : c.2 = 1 := h1.mp q
          have hdd : dv (mir w c.1) = d := by rw [hd, zDir, if_neg (by omega), hw]
          have hmb : bd 730 (mir w c.1) := mir_bd ⟨t1, t2, t3⟩ ⟨p1, p2, p3⟩
          refine xs_lload_n dB_layWays_73 rfl ?_
          refine xs_lload_n dB_layWays_74 rfl ?_
          refine xs_lmul dB_layWays_75 ?_
          refine xs_lload dB_layWays_76 rfl ?_
          refine xs_lload dB_layWays_78 rfl ?_
          refine xs_lmul dB_layWays_80 ?_
          refine xs_ladd dB_layWays_81 ?_
          refine xs_lload dB_layWays_82 rfl ?_
          refine xs_lload dB_layWays_84 rfl ?_
          refine xs_lmul dB_layWays_86 ?_
          refine xs_ladd dB_layWays_87 ?_
          refine xs_lstore (L2 := [(15, _), (13, _), (11, _), (9, _), (0, _), (1, _), (2, _), (4, _), (6, _), (8, _)]) dB_layWays_88 (by decide) rfl ?_
          refine xs_ldc2 dB_layWays_90 kcB_96 ?_
          refine xs_lload dB_layWays_93 rfl ?_
          refine xs_lload_n dB_layWays_95 rfl ?_
          refine xs_lmul dB_layWays_96 ?_
          refine xs_lload dB_layWays_97 rfl ?_
          refine xs_lload dB_layWays_99 rfl ?_
          refine xs_lmul dB_layWays_101 ?_
          refine xs_ladd dB_layWays_102 ?_
          refine xs_lload dB_layWays_103 rfl ?_
          refine xs_lload dB_layWays_105 rfl ?_
          refine xs_lmul dB_layWays_107 ?_
          refine xs_ladd dB_layWays_108 ?_
          refine xs_lmul dB_layWays_109 ?_
          refine xs_lstore (L2 := [(17, _), (15, _), (13, _), (11, _), (9, _), (0, _), (1, _), (2, _), (4, _), (6, _), (8, _)]) dB_layWays_110 (by decide) rfl ?_
          refine xs_aload_n dB_layWays_112 rfl ?_
          refine xs_lload dB_layWays_113 rfl ?_
          refine xs_lload dB_layWays_115 rfl ?_
          refine xs_lmul dB_layWays_117 ?_
          refine xs_lload dB_layWays_118 rfl ?_
          refine xs_lload_n dB_layWays_120 rfl ?_
          refine xs_lmul dB_layWays_121 ?_
          refine xs_lsub dB_layWays_122 ?_
          refine xs_lload dB_layWays_123 rfl ?_
          refine xs_lload dB_layWays_125 rfl ?_
          refine xs_lmul dB_layWays_127 ?_
          refine xs_lload dB_layWays_128 rfl ?_
          refine xs_lload dB_layWays_130 rfl ?_
          refine xs_lmul dB_layWays_132 ?_
          refine xs_lsub dB_layWays_133 ?_
          refine xs_lload dB_layWays_134 rfl ?_
          refine xs_lload dB_layWays_136 rfl ?_
          refine xs_lmul dB_layWays_138 ?_
          refine xs_lload dB_layWays_139 rfl ?_
          refine xs_lload dB_layWays_141 rfl ?_
          refine xs_lmul dB_layWays_143 ?_
          refine xs_lsub dB_layWays_144 ?_
          simp only [show (2 : Int64) = iL 2 from rfl, iL_mul, iL_add, iL_sub]
          have em : ((w.1 * w.1 + w.2.1 * w.2.1 + w.2.2 * w.2.2) * c.1.1 - 2 * (c.1.1 * w.1 + c.1.2.1 * w.2.1 + c.1.2.2 * w.2.2) * w.1, (w.1 * w.1 + w.2.1 * w.2.1 + w.2.2 * w.2.2) * c.1.2.1 - 2 * (c.1.1 * w.1 + c.1.2.1 * w.2.1 + c.1.2.2 * w.2.2) * w.2.1, (w.1 * w.1 + w.2.1 * w.2.1 + w.2.2 * w.2.2) * c.1.2.2 - 2 * (c.1.1 * w.1 + c.1.2.1 * w.2.1 + c.1.2.2 * w.2.2) * w.2.2) = mir w c.1 := rfl
          refine xs_cV_vx (As := [_, _, _]) dB_layWays_145 lkB_85 (by repeat (first | exact va_up_self _ _ _ | assumption | refine (va_up_ne _ _ (by omega)).trans ?_)) (k_B_divide (by rw [em]; exact bd_mono hmb (by decide)) hcH h8) rfl rfl (Nat.le_of_ble_eq_true rfl) ⟨by decide, by decide⟩ ⟨by omega, by omega⟩ ?_
          intro H2 ⟨th2, hH2, ht2⟩
          subst hH2
          rw [em, hdd] at ht2
          refine xs_goto dB_layWays_148 ?_
          refine xs_pick (L2 := [(0, _), (1, _), (2, _), (4, _), (6, _), (8, _)]) [5, 6, 7, 8, 9, 10] rfl ?_
          exact join _ th2 [] (va_up_self _ _ _) ht2 (by rw [va_up_ne _ _ (by omega)]; exact h9) (xfr_up hfr (by omega) (by omega))
  refine xK_of2 (L0 := [(0, _), (1, _)]) (by decide +kernel) rfl (Nat.le_of_ble_eq_true rfl) rfl ?_
  refine xs_aload_n dB_layWays_0 rfl ?_
  refine xs_iconst (v := 3) dB_layWays_1 (by decide) ?_
  refine xs_iald dB_layWays_2 (by repeat (first | exact va_up_self _ _ _ | assumption | refine (va_up_ne _ _ (by omega)).trans ?_)) (by assumption) ?_
  rw [e3, f3]
  refine xs_i2l dB_layWays_3 ?_
  rw [iI_l (by omega)]
  refine xs_lstore_n (L2 := [(2, _), (0, _), (1, _)]) dB_layWays_4 (by decide) rfl ?_
  refine xs_aload_n dB_layWays_5 rfl ?_
  refine xs_iconst (v := 4) dB_layWays_6 (by decide) ?_
  refine xs_iald dB_layWays_7 (by repeat (first | exact va_up_self _ _ _ | assumption | refine (va_up_ne _ _ (by omega)).trans ?_)) (by assumption) ?_
  rw [e4, f4]
  refine xs_i2l dB_layWays_8 ?_
  rw [iI_l (by omega)]
  refine xs_lstore (L2 := [(4, _), (2, _), (0, _), (1, _)]) dB_layWays_9 (by decide) rfl ?_
  refine xs_aload_n dB_layWays_11 rfl ?_
  refine xs_iconst (v := 5) dB_layWays_12 (by decide) ?_
  refine xs_iald dB_layWays_13 (by repeat (first | exact va_up_self _ _ _ | assumption | refine (va_up_ne _ _ (by omega)).trans ?_)) (by assumption) ?_
  rw [e5, f5]
  refine xs_i2l dB_layWays_14 ?_
  rw [iI_l (by omega)]
  refine xs_lstore (L2 := [(6, _), (4, _), (2, _), (0, _), (1, _)]) dB_layWays_15 (by decide) rfl ?_
  refine xs_iconst (v := 0) dB_layWays_17 (by decide) ?_
  refine xs_istore (L2 := [(8, _), (6, _), (4, _), (2, _), (0, _), (1, _)]) dB_layWays_18 (by decide) rfl ?_
  refine xs_pick (L2 := [(0, _), (1, _), (2, _), (4, _), (6, _), (8, _)]) [4, 5, 3, 2, 1, 0] rfl ?_
  exact outer (V.1.length + 1) 0 G th wy (by omega) (by omega) h8 h9 (fun j d hj => absurd hj (by omega)) xfr_rf
end M2
