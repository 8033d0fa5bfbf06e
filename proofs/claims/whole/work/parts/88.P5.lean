theorem gBo_iff {D : List P3} {r : Nat} {p : P3} : gBo D r p = true ↔ gSt D r p := @decide_eq_true_iff _ (Classical.propDecidable _)
theorem gNo_mbs {D : List P3} (hD : dOk D) {r : Nat} {I : Nat → Bool} (hI : ∀ k, k < 125 → (I k = true ↔ gSt D r (gat k))) : (mbs I 125).length = gNo D r := by
  unfold gNo gsm gsk mbs
  rw [List.countP_filter, List.countP_map, ← List.countP_eq_length_filter]
  refine List.countP_congr (fun k hk => ?_)
  have hk := List.mem_range.mp hk
  rw [hI k hk]
  show _ ↔ (gBo D r (gat k) && isN (gat k)) = true
  rw [Bool.and_eq_true]
  rw [gBo_iff]
  constructor
  · intro h
    obtain ⟨_, h2, h3⟩ := gSt_ok hD r _ h
    exact ⟨h, by simp [isN, h2, h3]⟩
  · exact fun h => h.1
section P5
variable {n b : Nat} {G : xG} {rf : Int32} {S : zS} {T : List Nat} {V : zV} {A : List zV} {O : Option zV × Option zV} {sz sp ac zs ft : Int32} {gd : Bool} {D : List P3}
theorem mdx_g {H : xG} (h : mdx G b rf T V A O) (h8 : ∃ th, H (b + 8) = oL 3 th) (hg : mGr H b) (hf : ∀ k, k ≠ b + 8 → (k < b + 13 ∨ b + 17 ≤ k) → H k = G k) : mdx H b rf T V A O := by
  obtain ⟨⟨sp, gd, zs, ft, hc⟩, _, k2, k3, k4, _, _, ⟨_, ⟨a2, w2⟩, ⟨a3, w3⟩, ⟨a4, w4⟩, ⟨a5, w5⟩⟩, _⟩ := id h
  exact mdx_n h ⟨sp, gd, zs, ft, by rw [hf _ (by omega) (by omega)]; exact hc⟩ (mAr_fr k2 (hf _ (by omega) (by omega))) (mRw_fr k3 (hf _ (by omega) (by omega))) (mAr_fr k4 (hf _ (by omega) (by omega))) ⟨h8, ⟨a2, by rw [hf _ (by omega) (by omega)]; exact w2⟩, ⟨a3, by rw [hf _ (by omega) (by omega)]; exact w3⟩, ⟨a4, by rw [hf _ (by omega) (by omega)]; exact w4⟩, ⟨a5, by rw [hf _ (by omega) (by omega)]; exact w5⟩⟩ hg ⟨hf _ (by omega) (by omega), hf _ (by omega) (by omega), hf _ (by omega) (by omega), hf _ (by omega) (by omega)⟩
/-- what growth works on -/
def mgi (G H : xG) (b : Nat) (P : P3 → Prop) : Prop := mIn H b P ∧ (∃ th, H (b + 8) = oL 3 th) ∧ (∃ x, H (b + 13) = oB 125 x) ∧ (∃ l, H (b + 14) = oI 125 l) ∧ (∃ y, H (b + 15) = oB 4913 y) ∧ (∃ w, H (b + 16) = oI 4913 w) ∧ ∀ k, k ≠ b + 8 → (k < b + 13 ∨ b + 17 ≤ k) → H k = G k
theorem k_B_grown {x : Int32} (h : mdo G b rf S) : xK mB_grown [.ref b, .int x] n G 0 0 (bPost n b G (rGrown S x.toInt)) xNo := by
  obtain ⟨⟨sp, gd, zs, ft, hc⟩, k1, k2, ⟨f, hr, hf, hV⟩, k4, k5, k6, k7, k8⟩ := id h
  obtain ⟨R, hRR⟩ : ∃ R, R = rGrown S x.toInt := ⟨_, rfl⟩
  rw [← hRR]
  refine xK_of2 (L0 := [(0, _), (1, _)]) (by decide +kernel) rfl (Nat.le_of_ble_eq_true rfl) rfl ?_
  refine xs_aload_n dB_grown_0 rfl ?_
  refine xs_iload_n dB_grown_1 rfl ?_
  refine xs_i2l dB_grown_2 ?_
  refine xs_lconst (v := 0) dB_grown_3 (by decide) ?_
  refine xs_ldc2 dB_grown_4 kcB_256 ?_
  refine xs_cS_i (As := [_, _, _]) dB_grown_7 lkB_169 (k_B_inI (lo:=0) (hi:=3) (by decide) (by decide)) rfl rfl (Nat.le_of_ble_eq_true rfl) ⟨by decide, by decide⟩ ⟨by omega, by omega⟩ ?_
  refine xs_ifb_eq dB_grown_10 (fun hb => ?_) (fun hb => ?_)
  · have hR : R = (1, 0, S) := by rw [hRR, rGrown, if_neg (of_decide_eq_false hb)]
    refine xs_iconst (v := 1) dB_grown_17 (by decide) ?_
    refine xs_cV_i (As := [_]) dB_grown_18 lkB_176 (by repeat (first | exact va_up_self _ _ _ | assumption | refine (va_up_ne _ _ (by omega)).trans ?_)) (k_B_refused (w:=1) (by decide) hc) rfl rfl (Nat.le_of_ble_eq_true rfl) ⟨by decide, by decide⟩ ⟨by omega, by omega⟩ ?_
    rw [bI_t (by decide)]
    refine xs_if_eq dB_grown_21 (fun q => absurd q (by decide)) (fun _ => ?_)
    refine xs_iconst (v := 0) dB_grown_24 (by decide) ?_
    exact xs_iret dB_grown_25 rfl rfl (by omega) (by omega) (bNo hR (by decide) (mdx_rf h) rf_fr)
  have hb2 := of_decide_eq_true hb
  have hR : R = (0, (gNo (zDirs S.2.1) x.toInt.toNat : Int), S) := by rw [hRR, rGrown, if_pos hb2]
  obtain ⟨rr, hxr, hxt, _, hr3⟩ := toN hb2 (by decide)
  rw [hxt, Int.toNat_natCast] at hR
  clear hRR hb hb2 hxt
  subst hxr
  refine xs_iconst (v := 0) dB_grown_13 (by decide) ?_
  refine xs_goto dB_grown_14 ?_
  refine xs_cV_i (As := [_]) dB_grown_18 lkB_176 (by repeat (first | exact va_up_self _ _ _ | assumption | refine (va_up_ne _ _ (by omega)).trans ?_)) (k_B_refused (w:=0) (by decide) hc) rfl rfl (Nat.le_of_ble_eq_true rfl) ⟨by decide, by decide⟩ ⟨by omega, by omega⟩ ?_
  rw [bI_f (by decide)]
  refine xs_if_eq dB_grown_21 (fun _ => ?_) (fun q => absurd rfl q)
  obtain ⟨H1, hH1⟩ : ∃ H1, H1 = va_up G b (mCl b (nI 0) (nI S.1.length) sp gd (nI S.2.2.1.length) zs ft) := ⟨_, rfl⟩
  have h1 : mdo H1 b (nI 0) S := hH1 ▸ mdx_rf h
  have f1 : xfr b (b + 17) G H1 := hH1 ▸ rf_fr
  have c1 : H1 b = mCl b (nI 0) (nI S.1.length) sp gd (nI S.2.2.1.length) zs ft := by rw [hH1, va_up_self]
  have e1 : ∀ k, k ≠ b → H1 k = G k := fun k hk => by rw [hH1, va_up_ne _ _ hk]
  refine xs_at (H := H1) hH1.symm ?_
  clear hH1
  obtain ⟨⟨th0, h8⟩, ⟨wy0, h9⟩, _⟩ := id k7
  have r1 : H1 (b + 3) = oI 70 f := by rw [e1 _ (by omega)]; exact hr
  have h81 : H1 (b + 8) = oL 3 th0 := by rw [e1 _ (by omega)]; exact h8
  have h91 : H1 (b + 9) = oL 48 wy0 := by rw [e1 _ (by omega)]; exact h9
  refine xs_aload_n dB_grown_26 rfl ?_
  refine xs_aload_n dB_grown_27 rfl ?_
  refine xs_get dB_grown_28 flB_16 (by repeat (first | exact va_up_self _ _ _ | assumption | refine (va_up_ne _ _ (by omega)).trans ?_)) rfl ?_
  refine xs_cV_vx (As := [_]) dB_grown_31 lkB_118 (by repeat (first | exact va_up_self _ _ _ | assumption | refine (va_up_ne _ _ (by omega)).trans ?_)) (k_B_layWays c1 h81 h91 r1 (by omega) hV hf) rfl rfl (Nat.le_of_ble_eq_true rfl) ⟨by decide, by decide⟩ ⟨by omega, by omega⟩ ?_
  intro H2 ⟨q1, ⟨wy, q2, hwy⟩, q4⟩
  have h2 : mdo H2 b (nI 0) S := mdx_w h1 q1 ⟨_, q2⟩ q4
  have f2 : xfr b (b + 17) G H2 := fun k hk => (q4 k (by omega)).trans (f1 k hk)
  have c2 : H2 b = mCl b (nI 0) (nI S.1.length) sp gd (nI S.2.2.1.length) zs ft := by rw [q4 _ (by omega)]; exact c1
  have r2 : H2 (b + 3) = oI 70 f := by rw [q4 _ (by omega)]; exact r1
  obtain ⟨_, _, _, _, _, _, _, _, ⟨x13, g13⟩, ⟨x14, g14⟩, ⟨x15, g15⟩, ⟨x16, g16⟩⟩ := id h2
  have hok := zDirs_ok hV
  have hdl : (zDirs S.2.1).length = S.2.1.1.length := List.length_map _
  have hL := hok.1
  obtain ⟨D, hD⟩ : ∃ D, D = zDirs S.2.1 := ⟨_, rfl⟩
  rw [← hD] at hR hwy hok hdl hL
  clear h h1 k1 k2 k4 k5 k6 k7 k8 hc hr r1 h8 h9 h81 h91 q4 c1 f1 e1 hD
  have i0 : vp_in (0 : Int32) 70 := fin70 (j := 0) (by decide)
  have j0 : (0 : Int32).toNatClampNeg = 0 := by decide
  have hnar0 : vp_nar .boolean 0 = 0 := by decide
  have loop3 : ∀ (m t : Nat) (H : xG), rr - t < m → t ≤ rr → mgi H2 H b (gSt D t) → xS mB_grown n 0 0 (bPost n b G R) xNo 111 [(0, .ref b), (1, .int (nI rr)), (2, .int (nI t))] [] n H 0 0 := by
    intro m
    induction m with
    | zero => intro t H q; exact absurd q (by omega)
    | succ m ih =>
      intro t H l1 l2 hg
      obtain ⟨g1, g2, g3, g4, g5, g6, g7⟩ := id hg
      have cH : H b = mCl b (nI 0) (nI S.1.length) sp gd (nI S.2.2.1.length) zs ft := by rw [g7 _ (by omega) (by omega)]; exact c2
      refine xs_iload_n dB_grown_111 rfl ?_
      refine xs_iload_n dB_grown_112 rfl ?_
      refine xs_icmp_ge dB_grown_113 (fun hge => ?_) (fun hge => ?_)
      · have ht : t = rr := by
          have := (nI_leI (by omega) (by omega)).mp hge
          omega
        subst ht
        obtain ⟨x, I, u1, u2, u3⟩ := id g1
        obtain ⟨l, u4⟩ := g4
        refine xs_aload_n dB_grown_126 rfl ?_
        refine xs_cV_ix (As := []) dB_grown_127 lkB_320 (by repeat (first | exact va_up_self _ _ _ | assumption | refine (va_up_ne _ _ (by omega)).trans ?_)) (k_B_members cH u1 u2 u4) rfl rfl (Nat.le_of_ble_eq_true rfl) ⟨by decide, by decide⟩ ⟨by omega, by omega⟩ ?_
        intro q H3 ⟨p1, l3, p2, _⟩
        have hm : mdo H b (nI 0) S := mdx_g h2 g2 ⟨g3, ⟨l, u4⟩, g5, g6⟩ g7
        have hm3 : mdo H3 b (nI 0) S := by
          refine mdx_g hm ?_ ⟨?_, ⟨l3, by rw [p2, va_up_self]⟩, ?_, ?_⟩ (fun k h1 h2 => by rw [p2, va_up_ne _ _ (by omega)])
          · obtain ⟨a, e⟩ := g2
            exact ⟨a, by rw [p2, va_up_ne _ _ (by omega)]; exact e⟩
          · obtain ⟨a, e⟩ := g3
            exact ⟨a, by rw [p2, va_up_ne _ _ (by omega)]; exact e⟩
          · obtain ⟨a, e⟩ := g5
            exact ⟨a, by rw [p2, va_up_ne _ _ (by omega)]; exact e⟩
          · obtain ⟨a, e⟩ := g6
            exact ⟨a, by rw [p2, va_up_ne _ _ (by omega)]; exact e⟩
        rw [gNo_mbs hok u3] at p1
        exact xs_iret dB_grown_130 rfl rfl (by omega) (by omega) (bOk hR (p1.trans (iI_nat _)) hm3 (fun k hk => by rw [p2, va_up_ne _ _ (by omega), g7 k (by omega) (by omega)]; exact f2 k hk))
      · have ht : t < rr := nI_lt_of (by omega) (by omega) hge
        refine xs_aload_n dB_grown_116 rfl ?_
        refine xs_cV_vx (As := []) dB_grown_117 lkB_330 (by repeat (first | exact va_up_self _ _ _ | assumption | refine (va_up_ne _ _ (by omega)).trans ?_)) (k_B_goRound hok cH g2 g1 g4 g5 g6) rfl rfl (Nat.le_of_ble_eq_true rfl) ⟨by decide, by decide⟩ ⟨by omega, by omega⟩ ?_
        intro H3 ⟨p1, p2, p3, p4, p5, p6, p7⟩
        refine xs_iinc (L2 := [(2, _), (0, _), (1, _)]) dB_grown_120 rfl rfl (by decide) rfl ?_
        refine xs_goto dB_grown_123 ?_
        refine xs_pick (L2 := [(0, _), (1, _), (2, _)]) [1, 2, 0] rfl ?_
        rw [xii]
        exact ih (t + 1) H3 (by omega) (by omega) ⟨p1, p2, p3, p4, p5, p6, fun k h1 h2 => (p7 k h1 h2).trans (g7 k h1 h2)⟩
  have loop2 : ∀ (m i : Nat) (H : xG), D.length - i < m → i ≤ D.length → mgi H2 H b (fun q => ∃ j d, j < i ∧ D[j]? = some d ∧ q = nz d) → xS mB_grown n 0 0 (bPost n b G R) xNo 57 [(0, .ref b), (1, .int (nI rr)), (2, .int (nI i))] [] n H 0 0 := by
    intro m
    induction m with
    | zero => intro i H q; exact absurd q (by omega)
    | succ m ih =>
      intro i H l1 l2 hg
      obtain ⟨g1, ⟨th, g2⟩, g3, g4, g5, g6, g7⟩ := id hg
      have cH : H b = mCl b (nI 0) (nI S.1.length) sp gd (nI S.2.2.1.length) zs ft := by rw [g7 _ (by omega) (by omega)]; exact c2
      have rH : H (b + 3) = oI 70 f := by rw [g7 _ (by omega) (by omega)]; exact r2
      have wH : H (b + 9) = oL 48 wy := by rw [g7 _ (by omega) (by omega)]; exact q2
      refine xs_iload_n dB_grown_57 rfl ?_
      refine xs_aload_n dB_grown_58 rfl ?_
      refine xs_get dB_grown_59 flB_16 (by repeat (first | exact va_up_self _ _ _ | assumption | refine (va_up_ne _ _ (by omega)).trans ?_)) rfl ?_
      refine xs_iconst (v := 0) dB_grown_62 (by decide) ?_
      refine xs_iald dB_grown_63 (by repeat (first | exact va_up_self _ _ _ | assumption | refine (va_up_ne _ _ (by omega)).trans ?_)) (by assumption) ?_
      rw [j0, hf.1.1, ← hdl]
      refine xs_icmp_ge dB_grown_64 (fun hge => ?_) (fun hge => ?_)
      · have hi : i = D.length := by
          have := (nI_leI (by omega) (by omega)).mp hge
          omega
        subst hi
        refine xs_iconst (v := 0) dB_grown_109 (by decide) ?_
        refine xs_istore_n (L2 := [(2, _), (0, _), (1, _)]) dB_grown_110 (by decide) rfl ?_
        refine xs_pick (L2 := [(0, _), (1, _), (2, _)]) [1, 2, 0] rfl ?_
        refine loop3 (rr + 1) 0 H (by omega) (by omega) ⟨mIn_c g1 (fun p hp => ⟨?_, ?_⟩), ⟨th, g2⟩, g3, g4, g5, g6, g7⟩
        · rintro ⟨j, d, _, h2, h3⟩
          exact ⟨hp, d, List.mem_of_getElem? h2, h3⟩
        · rintro ⟨_, d, h2, h3⟩
          obtain ⟨j, hj⟩ := List.getElem?_of_mem h2
          exact ⟨j, d, (List.getElem?_eq_some_iff.mp hj).1, hj, h3⟩
      · have hi : i < D.length := nI_lt_of (by omega) (by omega) hge
        obtain ⟨d, hd⟩ : ∃ d, D[i]? = some d := ⟨_, List.getElem?_eq_getElem hi⟩
        obtain ⟨⟨v0, v1, v2⟩, y0, y1, y2⟩ := wy_get hwy hd hL
        have hdk := hok.2 d (List.mem_of_getElem? hd)
        refine xs_aload_n dB_grown_67 rfl ?_
        refine xs_aload_n dB_grown_68 rfl ?_
        refine xs_get dB_grown_69 flB_36 (by repeat (first | exact va_up_self _ _ _ | assumption | refine (va_up_ne _ _ (by omega)).trans ?_)) rfl ?_
        refine xs_iconst (v := 3) dB_grown_72 (by decide) ?_
        refine xs_iload_n dB_grown_73 rfl ?_
        refine xs_imul dB_grown_74 ?_
        refine xs_lald dB_grown_75 (by repeat (first | exact va_up_self _ _ _ | assumption | refine (va_up_ne _ _ (by omega)).trans ?_)) (by assumption) ?_
        refine xs_aload_n dB_grown_76 rfl ?_
        refine xs_get dB_grown_77 flB_36 (by repeat (first | exact va_up_self _ _ _ | assumption | refine (va_up_ne _ _ (by omega)).trans ?_)) rfl ?_
        refine xs_iconst (v := 3) dB_grown_80 (by decide) ?_
        refine xs_iload_n dB_grown_81 rfl ?_
        refine xs_imul dB_grown_82 ?_
        refine xs_iconst (v := 1) dB_grown_83 (by decide) ?_
        refine xs_iadd dB_grown_84 ?_
        refine xs_lald dB_grown_85 (by repeat (first | exact va_up_self _ _ _ | assumption | refine (va_up_ne _ _ (by omega)).trans ?_)) (by assumption) ?_
        refine xs_aload_n dB_grown_86 rfl ?_
        refine xs_get dB_grown_87 flB_36 (by repeat (first | exact va_up_self _ _ _ | assumption | refine (va_up_ne _ _ (by omega)).trans ?_)) rfl ?_
        refine xs_iconst (v := 3) dB_grown_90 (by decide) ?_
        refine xs_iload_n dB_grown_91 rfl ?_
        refine xs_imul dB_grown_92 ?_
        refine xs_iconst (v := 2) dB_grown_93 (by decide) ?_
        refine xs_iadd dB_grown_94 ?_
        refine xs_lald dB_grown_95 (by repeat (first | exact va_up_self _ _ _ | assumption | refine (va_up_ne _ _ (by omega)).trans ?_)) (by assumption) ?_
        rw [y0, y1, y2]
        refine xs_cV_vx (As := [_, _, _]) dB_grown_96 lkB_89 (by repeat (first | exact va_up_self _ _ _ | assumption | refine (va_up_ne _ _ (by omega)).trans ?_)) (k_B_normalize (x:=d.1) (y:=d.2.1) (z:=d.2.2) (bd_mono hdk.1 (by decide)) cH g2) rfl rfl (Nat.le_of_ble_eq_true rfl) ⟨by decide, by decide⟩ ⟨by omega, by omega⟩ ?_
        intro H3 ⟨th3, hH3, ht3⟩
        have c3' : H3 b = mCl b (nI 0) (nI S.1.length) sp gd (nI S.2.2.1.length) zs ft := by rw [hH3, va_up_ne _ _ (by omega)]; exact cH
        have t3 : H3 (b + 8) = oL 3 th3 := by rw [hH3, va_up_self]
        have m3 := mIn_fr g1 (show H3 (b + 13) = H (b + 13) by rw [hH3, va_up_ne _ _ (by omega)])
        refine xs_aload_n dB_grown_99 rfl ?_
        refine xs_cV_vx (As := []) dB_grown_100 lkB_327 (by repeat (first | exact va_up_self _ _ _ | assumption | refine (va_up_ne _ _ (by omega)).trans ?_)) (k_B_grow_ (bd_mono (bd_nz hdk.1) (by decide)) c3' t3 ht3 m3) rfl rfl (Nat.le_of_ble_eq_true rfl) ⟨by decide, by decide⟩ ⟨by omega, by omega⟩ ?_
        intro H4 ⟨p1, p2, p3⟩
        refine xs_iinc (L2 := [(2, _), (0, _), (1, _)]) dB_grown_103 rfl rfl (by decide) rfl ?_
        refine xs_goto dB_grown_106 ?_
        refine xs_pick (L2 := [(0, _), (1, _), (2, _)]) [1, 2, 0] rfl ?_
        rw [xii]
        have hfr : ∀ k, k ≠ b + 8 → k ≠ b + 13 → H4 k = H k := fun k h1 h2 => by rw [p3 k h2, hH3, va_up_ne _ _ h1]
        refine ih (i + 1) H4 (by omega) (by omega) ⟨mIn_c p1 (fun p _ => ⟨?_, ?_⟩), ⟨th3, by rw [p3 _ (by omega)]; exact t3⟩, p2, ?_, ?_, ?_, fun k h1 h2 => (hfr k h1 (by omega)).trans (g7 k h1 h2)⟩
        · rintro (⟨j, e, h1, h2⟩ | e)
          · exact ⟨j, e, by omega, h2⟩
          · exact ⟨i, d, by omega, hd, e⟩
        · rintro ⟨j, e, h1, h2, h3⟩
          by_cases hji : j = i
          · subst hji
            cases hd.symm.trans h2
            exact Or.inr h3
          · exact Or.inl ⟨j, e, by omega, h2, h3⟩
        · obtain ⟨a, e⟩ := g4
          exact ⟨a, by rw [hfr _ (by omega) (by omega)]; exact e⟩
        · obtain ⟨a, e⟩ := g5
          exact ⟨a, by rw [hfr _ (by omega) (by omega)]; exact e⟩
        · obtain ⟨a, e⟩ := g6
          exact ⟨a, by rw [hfr _ (by omega) (by omega)]; exact e⟩
  have loop1 : ∀ (m k : Nat) (x : Nat → Int32) (H : xG), 125 - k < m → k ≤ 125 → (∀ j, j < k → x j = 0) → H (b + 13) = oB 125 x → (∀ k, k ≠ b + 13 → H k = H2 k) → xS mB_grown n 0 0 (bPost n b G R) xNo 36 [(0, .ref b), (1, .int (nI rr)), (2, .int (nI k))] [] n H 0 0 := by
    intro m
    induction m with
    | zero => intro k x H q; exact absurd q (by omega)
    | succ m ih =>
      intro k x H l1 l2 hx xH fH
      have cH : H b = mCl b (nI 0) (nI S.1.length) sp gd (nI S.2.2.1.length) zs ft := by rw [fH _ (by omega)]; exact c2
      refine xs_iload_n dB_grown_36 rfl ?_
      refine xs_bipush (v := 125) dB_grown_37 (by decide) ?_
      refine xs_icmp_ge dB_grown_39 (fun hge => ?_) (fun hge => ?_)
      · have hk : k = 125 := by
          have := (nI_leI (a := 125) (by omega) (by omega)).mp hge
          omega
        subst hk
        refine xs_iconst (v := 0) dB_grown_55 (by decide) ?_
        refine xs_istore_n (L2 := [(2, _), (0, _), (1, _)]) dB_grown_56 (by decide) rfl ?_
        refine xs_pick (L2 := [(0, _), (1, _), (2, _)]) [1, 2, 0] rfl ?_
        refine loop2 (D.length + 1) 0 H (by omega) (by omega) ⟨⟨x, fun _ => false, xH, hx, fun k _ => ⟨fun h => Bool.noConfusion h, fun ⟨j, _, hj, _⟩ => absurd hj (by omega)⟩⟩, ?_, ⟨x, xH⟩, ⟨x14, by rw [fH _ (by omega)]; exact g14⟩, ⟨x15, by rw [fH _ (by omega)]; exact g15⟩, ⟨x16, by rw [fH _ (by omega)]; exact g16⟩, fun k h1 h2 => fH k (by omega)⟩
        obtain ⟨a, e⟩ := q1
        exact ⟨a, by rw [fH _ (by omega)]; exact e⟩
      · have hk : k < 125 := nI_lt_of (b := 125) (by omega) (by omega) hge
        have vk : vp_in (nI k) 125 := vp_in_nI (by omega) (by omega)
        refine xs_aload_n dB_grown_42 rfl ?_
        refine xs_get dB_grown_43 flB_48 (by repeat (first | exact va_up_self _ _ _ | assumption | refine (va_up_ne _ _ (by omega)).trans ?_)) rfl ?_
        refine xs_iload_n dB_grown_46 rfl ?_
        refine xs_iconst (v := 0) dB_grown_47 (by decide) ?_
        refine xs_zast dB_grown_48 (by repeat (first | exact va_up_self _ _ _ | assumption | refine (va_up_ne _ _ (by omega)).trans ?_)) (by assumption) ?_
        refine xs_iinc (L2 := [(2, _), (0, _), (1, _)]) dB_grown_49 rfl rfl (by decide) rfl ?_
        refine xs_goto dB_grown_52 ?_
        refine xs_pick (L2 := [(0, _), (1, _), (2, _)]) [1, 2, 0] rfl ?_
        rw [xii, hnar0, nI_clamp (by omega)]
        refine ih (k + 1) (upd x k 0) _ (by omega) (by omega) (fun j hj => ?_) (va_up_self _ _ _) (fun k h1 => by rw [va_up_ne _ _ h1]; exact fH k h1)
        simp only [upd]
        by_cases e : j = k
        · rw [if_pos e]
        · rw [if_neg e]
          exact hx j (by omega)
  refine xs_iconst (v := 0) dB_grown_34 (by decide) ?_
  refine xs_istore_n (L2 := [(2, _), (0, _), (1, _)]) dB_grown_35 (by decide) rfl ?_
  refine xs_pick (L2 := [(0, _), (1, _), (2, _)]) [1, 2, 0] rfl ?_
  exact loop1 126 0 x13 H2 (by omega) (by omega) (fun j hj => absurd hj (by omega)) g13 (fun _ _ => rfl)
end P5
