theorem bst_bd (V : zV) : ∀ j, -1 ≤ (bst V j).2 ∧ (bst V j).2 ≤ 16 := by
  intro j
  induction j with
  | zero => exact ⟨show (-1 : Int) ≤ -1 by decide, show (-1 : Int) ≤ 16 by decide⟩
  | succ j ih =>
    rw [bst_s]
    have := zlg_le (zAim V (pat (j + 14)))
    split
    · show -1 ≤ (zlg (zAim V (pat (j + 14))) : Int) ∧ (zlg (zAim V (pat (j + 14))) : Int) ≤ 16
      omega
    · exact ih
/-- how long the longest zone so far is, as the reference keeps it -/
noncomputable def bmo (V : zV) (j : Nat) : Int := if j = 0 then -99999 else (bst V j).2
theorem bmo_0 (V : zV) : bmo V 0 = -99999 := if_pos rfl
theorem bmo_s (V : zV) (j : Nat) : bmo V (j + 1) = (bst V (j + 1)).2 := if_neg (by omega)
theorem bmo_bd (V : zV) (j : Nat) : (bmo V j).natAbs ≤ 99999 := by
  unfold bmo
  split
  · decide
  · have := bst_bd V j
    omega
theorem bmo_lt {V : zV} {j m : Nat} : bmo V j < (m : Int) ↔ (bst V j).2 < (m : Int) := by
  unfold bmo
  split
  next h =>
    subst h
    have : (bst V 0).2 = -1 := rfl
    omega
  next => exact Iff.rfl
theorem pat_eq (k : Nat) : pat k = (((k / 9 : Nat) : Int) - 1, ((k / 3 % 3 : Nat) : Int) - 1, ((k % 3 : Nat) : Int) - 1) := rfl
theorem pat_b {k : Nat} (h : k < 27) : bd 4 (pat k) := by
  rw [pat_eq]
  refine ⟨?_, ?_, ?_⟩ <;> simp only <;> omega
theorem pat_0 {k : Nat} (h : 14 ≤ k) (h2 : k < 27) : pat k ≠ (0, 0, 0) := by
  rw [pat_eq]
  intro e
  have e1 := congrArg Prod.fst e
  have e2 := congrArg (fun p => p.2.1) e
  have e3 := congrArg (fun p => p.2.2) e
  simp only at e1 e2 e3
  omega
section P1
variable {n b : Nat} {G : xG} {rf : Int32} {S : zS} {T : List Nat} {V : zV} {A : List zV} {O : Option zV × Option zV} {sz sp ac zs ft : Int32} {gd : Bool} {th : Nat → Int64}
theorem k_B_bestTwin (h : mdo G b rf S) : xK mB_bestTwin [.ref b] n G 0 0 (bPost n b G (rBest S)) xNo := by
  have loop : ∀ (m j : Nat) (H : xG), 13 - j < m → j ≤ 13 → mdo H b (nI 0) S → xfr b (b + 17) G H → xS mB_bestTwin n 0 0 (bPost n b G (rBest S)) xNo 14 [(0, .ref b), (1, .int (iI (bst S.2.1 j).1)), (2, .int (iI (bmo S.2.1 j))), (3, .int (nI (j + 14)))] [] n H 0 0 := by
    intro m
    induction m with
    | zero => intro j H q; exact absurd q (by omega)
    | succ m ih =>
      intro j H q1 q2 hm fm
      refine xs_iload_n dB_bestTwin_14 rfl ?_
      refine xs_bipush (v := 27) dB_bestTwin_15 (by decide) ?_
      refine xs_icmp_ge dB_bestTwin_17 (fun hg => ?_) (fun hg => ?_)
      · have hj : j = 13 := by
          have := (nI_leI (a := 27) (by omega) (by omega)).mp hg
          omega
        subst hj
        refine xs_iload_n dB_bestTwin_108 rfl ?_
        exact xs_iret dB_bestTwin_109 rfl rfl (by omega) (by omega) (bOk rfl rfl hm fm)
      · have hj : j < 13 := by
          have := nI_lt_of (b := 27) (by omega) (by omega) hg
          omega
        obtain ⟨k, hk⟩ : ∃ k, k = j + 14 := ⟨_, rfl⟩
        rw [← hk]
        have hk27 : k < 27 := by omega
        have d9 : nI k / 9 - 1 = iI (pat k).1 := by
          rw [show nI k / 9 = nI (k / 9) from nI_div (b := 9) (by omega) (by decide) (by decide), iI_nat, show (1 : Int32) = iI 1 from rfl, iI_sub]
          rfl
        have d3 : nI k / 3 - nI k / 3 / 3 * 3 - 1 = iI (pat k).2.1 := by
          rw [show nI k / 3 = nI (k / 3) from nI_div (b := 3) (by omega) (by decide) (by decide), show nI (k / 3) - nI (k / 3) / 3 * 3 = nI (k / 3 % 3) from nI_rem (b := 3) (by omega) (by decide) (by decide), iI_nat, show (1 : Int32) = iI 1 from rfl, iI_sub]
          rfl
        have d1 : nI k - nI k / 3 * 3 - 1 = iI (pat k).2.2 := by
          rw [show nI k - nI k / 3 * 3 = nI (k % 3) from nI_rem (b := 3) (by omega) (by decide) (by decide), iI_nat, show (1 : Int32) = iI 1 from rfl, iI_sub]
          rfl
        have hs := bst_s S.2.1 j
        rw [← hk] at hs
        refine xs_iload_n dB_bestTwin_20 rfl ?_
        refine xs_bipush (v := 9) dB_bestTwin_21 (by decide) ?_
        refine xs_idiv dB_bestTwin_23 (by decide) ?_
        refine xs_iconst (v := 1) dB_bestTwin_24 (by decide) ?_
        refine xs_isub dB_bestTwin_25 ?_
        refine xs_istore (L2 := [(4, _), (0, _), (1, _), (2, _), (3, _)]) dB_bestTwin_26 (by decide) rfl ?_
        refine xs_iload_n dB_bestTwin_28 rfl ?_
        refine xs_iconst (v := 3) dB_bestTwin_29 (by decide) ?_
        refine xs_idiv dB_bestTwin_30 (by decide) ?_
        refine xs_iconst (v := 3) dB_bestTwin_31 (by decide) ?_
        refine xs_irem dB_bestTwin_32 (by decide) ?_
        refine xs_iconst (v := 1) dB_bestTwin_33 (by decide) ?_
        refine xs_isub dB_bestTwin_34 ?_
        refine xs_istore (L2 := [(5, _), (4, _), (0, _), (1, _), (2, _), (3, _)]) dB_bestTwin_35 (by decide) rfl ?_
        refine xs_iload_n dB_bestTwin_37 rfl ?_
        refine xs_iconst (v := 3) dB_bestTwin_38 (by decide) ?_
        refine xs_irem dB_bestTwin_39 (by decide) ?_
        refine xs_iconst (v := 1) dB_bestTwin_40 (by decide) ?_
        refine xs_isub dB_bestTwin_41 ?_
        refine xs_istore (L2 := [(6, _), (5, _), (4, _), (0, _), (1, _), (2, _), (3, _)]) dB_bestTwin_42 (by decide) rfl ?_
        rw [d9, d3, d1]
        obtain ⟨sp, gd, zs, ft, cm⟩ := mdx_cell hm
        refine xs_aload_n dB_bestTwin_44 rfl ?_
        refine xs_cV_vx (As := []) dB_bestTwin_45 lkB_282 (by repeat (first | exact va_up_self _ _ _ | assumption | refine (va_up_ne _ _ (by omega)).trans ?_)) (k_B_begin hm) rfl rfl (Nat.le_of_ble_eq_true rfl) ⟨by decide, by decide⟩ ⟨by omega, by omega⟩ ?_
        intro H2 ⟨h2, ⟨g, r4, hg, hV⟩, hfr⟩
        have c2 : H2 b = mCl b (nI 0) (nI S.1.length) sp gd (nI S.2.2.1.length) zs ft := by rw [hfr _ (by omega)]; exact cm
        obtain ⟨th, t8⟩ := mdx_t8 h2
        refine xs_aload_n dB_bestTwin_48 rfl ?_
        refine xs_aload_n dB_bestTwin_49 rfl ?_
        refine xs_get dB_bestTwin_50 flB_19 (by repeat (first | exact va_up_self _ _ _ | assumption | refine (va_up_ne _ _ (by omega)).trans ?_)) rfl ?_
        refine xs_iload dB_bestTwin_53 rfl ?_
        refine xs_iload dB_bestTwin_55 rfl ?_
        refine xs_iload dB_bestTwin_57 rfl ?_
        refine xs_cV_vx (As := [_, _, _, _]) dB_bestTwin_59 lkB_206 (by repeat (first | exact va_up_self _ _ _ | assumption | refine (va_up_ne _ _ (by omega)).trans ?_)) (k_B_setPlane c2 t8 r4 ⟨by omega, by omega⟩ hg (pat_b hk27)) rfl rfl (Nat.le_of_ble_eq_true rfl) ⟨by decide, by decide⟩ ⟨by omega, by omega⟩ ?_
        intro H3 ⟨p1, ⟨g3, p2, p3⟩, p4⟩
        have h3 : mdo H3 b (nI 0) S := mdx_t h2 p1 ⟨g3, p2⟩ p4
        have c3' : H3 b = mCl b (nI 0) (nI S.1.length) sp gd (nI S.2.2.1.length) zs ft := by rw [p4 _ (by omega) (by omega)]; exact c2
        have hV3 := zOk_aim hV (pat_b hk27) (pat_0 (by omega) hk27)
        obtain ⟨_, _, _, _, _, _, _, w3, _⟩ := id h3
        refine xs_aload_n dB_bestTwin_62 rfl ?_
        refine xs_aload_n dB_bestTwin_63 rfl ?_
        refine xs_get dB_bestTwin_64 flB_19 (by repeat (first | exact va_up_self _ _ _ | assumption | refine (va_up_ne _ _ (by omega)).trans ?_)) rfl ?_
        refine xs_cV_ix (As := [_]) dB_bestTwin_67 lkB_229 (by repeat (first | exact va_up_self _ _ _ | assumption | refine (va_up_ne _ _ (by omega)).trans ?_)) (k_B_longest c3' w3 p2 ⟨by omega, by omega⟩ hV3 p3) rfl rfl (Nat.le_of_ble_eq_true rfl) ⟨by decide, by decide⟩ ⟨by omega, by omega⟩ ?_
        intro q H4 ⟨u1, u2, u3, u4⟩
        subst u1
        have h4 : mdo H4 b (nI 0) S := mdx_z h3 ⟨_, _, _, _, u2⟩ (mwk_of u3) u4
        have f4 : xfr b (b + 17) G H4 := xfr_tr (xfr_tr (xfr_tr fm (fun k hk => hfr k (by omega))) (rfr_x p4 ⟨by omega, by omega⟩)) (mfr_x u4)
        clear u2 u3 u4 h3 h2 hm p1 p2 p3 p4 c2 c3' w3 hfr
        have next : ∀ x0 x1, x0 = (bst S.2.1 (j + 1)).1 → x1 = bmo S.2.1 (j + 1) → xS mB_bestTwin n 0 0 (bPost n b G (rBest S)) xNo 102 [(0, .ref b), (1, .int (iI x0)), (2, .int (iI x1)), (3, .int (nI k))] [] n H4 0 0 := by
          intro x0 x1 e0 e1
          subst e0; subst e1
          refine xs_iinc (L2 := [(3, _), (0, _), (1, _), (2, _)]) dB_bestTwin_102 rfl rfl (by decide) rfl ?_
          refine xs_goto dB_bestTwin_105 ?_
          refine xs_pick (L2 := [(0, _), (1, _), (2, _), (3, _)]) [1, 2, 3, 0] rfl ?_
          rw [xii, hk, show j + 14 + 1 = j + 1 + 14 by omega]
          exact ih (j + 1) H4 (by omega) (by omega) h4 f4
        have hb := bmo_bd S.2.1 j
        have hzl := zlg_le (zAim S.2.1 (pat k))
        have hcmp := iI_le (x := (zlg (zAim S.2.1 (pat k)) : Int)) (y := bmo S.2.1 j) (by omega) (by omega)
        rw [← iI_nat] at hcmp
        have hlt := bmo_lt (V := S.2.1) (j := j) (m := zlg (zAim S.2.1 (pat k)))
        refine xs_istore (L2 := [(7, _), (6, _), (5, _), (4, _), (0, _), (1, _), (2, _), (3, _)]) dB_bestTwin_70 (by decide) rfl ?_
        refine xs_iload dB_bestTwin_72 rfl ?_
        refine xs_iload_n dB_bestTwin_74 rfl ?_
        have hbj := bst_bd S.2.1 j
        refine xs_icmp_le dB_bestTwin_75 (fun h => ?_) (fun h => ?_)
        · have h9 := hcmp.mp h
          rw [if_neg (fun e => absurd (hlt.mpr e) (by omega))] at hs
          refine xs_pick (L2 := [(0, _), (1, _), (2, _), (3, _)]) [4, 5, 6, 7] rfl ?_
          refine next _ _ (by rw [hs]) ?_
          rw [bmo_s, hs]
          have h8 : ¬ bmo S.2.1 j < (zlg (zAim S.2.1 (pat k)) : Int) := by omega
          unfold bmo at h8 ⊢
          split at h8
          next => omega
          next h7 => rw [if_neg h7]
        · have h9 : bmo S.2.1 j < (zlg (zAim S.2.1 (pat k)) : Int) := by
            by_cases e : bmo S.2.1 j < (zlg (zAim S.2.1 (pat k)) : Int)
            · exact e
            · exact absurd (hcmp.mpr (by omega)) h
          rw [if_pos (hlt.mp h9)] at hs
          refine xs_iload dB_bestTwin_78 rfl ?_
          refine xs_istore_n (L2 := [(2, _), (7, _), (6, _), (5, _), (4, _), (0, _), (1, _), (3, _)]) dB_bestTwin_80 (by decide) rfl ?_
          refine xs_bipush (v := 100) dB_bestTwin_81 (by decide) ?_
          refine xs_iload dB_bestTwin_83 rfl ?_
          refine xs_iconst (v := 1) dB_bestTwin_85 (by decide) ?_
          refine xs_iadd dB_bestTwin_86 ?_
          refine xs_imul dB_bestTwin_87 ?_
          refine xs_bipush (v := 10) dB_bestTwin_88 (by decide) ?_
          refine xs_iload dB_bestTwin_90 rfl ?_
          refine xs_iconst (v := 1) dB_bestTwin_92 (by decide) ?_
          refine xs_iadd dB_bestTwin_93 ?_
          refine xs_imul dB_bestTwin_94 ?_
          refine xs_iadd dB_bestTwin_95 ?_
          refine xs_iload dB_bestTwin_96 rfl ?_
          refine xs_iadd dB_bestTwin_98 ?_
          refine xs_iconst (v := 1) dB_bestTwin_99 (by decide) ?_
          refine xs_iadd dB_bestTwin_100 ?_
          rw [show (100 : Int32) * (iI (pat k).1 + 1) + 10 * (iI (pat k).2.1 + 1) + iI (pat k).2.2 + 1 = iI (pnu k) by
            rw [pat_eq, show (100 : Int32) = iI 100 from rfl, show (10 : Int32) = iI 10 from rfl, show (1 : Int32) = iI 1 from rfl, iI_add, iI_add, iI_mul, iI_mul, iI_add, iI_add, iI_add]
            congr 1
            unfold pnu
            dsimp only
            omega, iI_nat (zlg (zAim S.2.1 (pat k)))]
          refine xs_istore_n (L2 := [(1, _), (2, _), (7, _), (6, _), (5, _), (4, _), (0, _), (3, _)]) dB_bestTwin_101 (by decide) rfl ?_
          refine xs_pick (L2 := [(0, _), (1, _), (2, _), (3, _)]) [6, 0, 1, 7] rfl ?_
          exact next _ _ (by rw [hs]) (by rw [bmo_s, hs])
  obtain ⟨⟨sp, gd, zs, ft, hc⟩, k1, k2, ⟨f, hr, hf, hV⟩, k4, k5, k6, k7, k8⟩ := id h
  refine xK_of2 (L0 := [(0, _)]) (by decide +kernel) rfl (Nat.le_of_ble_eq_true rfl) rfl ?_
  refine xs_aload_n dB_bestTwin_0 rfl ?_
  refine xs_iconst (v := 0) dB_bestTwin_1 (by decide) ?_
  refine xs_put dB_bestTwin_2 flB_64 ft8_0 (by repeat (first | exact va_up_self _ _ _ | assumption | refine (va_up_ne _ _ (by omega)).trans ?_)) (fun _ => rfl) (fun _ => rfl) (by simp) ?_
  obtain ⟨H1, hH1⟩ : ∃ H1, H1 = va_up G b (mCl b (nI 0) (nI S.1.length) sp gd (nI S.2.2.1.length) zs ft) := ⟨_, rfl⟩
  have h1 : mdo H1 b (nI 0) S := hH1 ▸ mdx_rf h
  have f1 : xfr b (b + 17) G H1 := hH1 ▸ rf_fr
  have c1 : H1 b = mCl b (nI 0) (nI S.1.length) sp gd (nI S.2.2.1.length) zs ft := by rw [hH1, va_up_self]
  have e1 : ∀ k, k ≠ b → H1 k = G k := fun k hk => by rw [hH1, va_up_ne _ _ hk]
  refine xs_at (H := H1) hH1.symm ?_
  clear hH1
  refine xs_ldc dB_bestTwin_5 kcB_109 ?_
  refine xs_istore_n (L2 := [(1, _), (0, _)]) dB_bestTwin_7 (by decide) rfl ?_
  refine xs_ldc dB_bestTwin_8 kcB_109 ?_
  refine xs_istore_n (L2 := [(2, _), (1, _), (0, _)]) dB_bestTwin_10 (by decide) rfl ?_
  refine xs_bipush (v := 14) dB_bestTwin_11 (by decide) ?_
  refine xs_istore_n (L2 := [(3, _), (2, _), (1, _), (0, _)]) dB_bestTwin_13 (by decide) rfl ?_
  refine xs_pick (L2 := [(0, _), (1, _), (2, _), (3, _)]) [3, 2, 1, 0] rfl ?_
  have hgo := loop 14 0 H1 (by omega) (by omega) h1 f1
  rw [bmo_0] at hgo
  exact hgo
/-- what the reference keeps of the key face so far -/
def kIn (V : zV) (i : Nat) (x : Int) (m : Nat) : Prop := (i = 0 ∧ x = -99999 ∧ m = 0) ∨ (1 ≤ i ∧ x = (key V i).1 ∧ m = (key V i).2 ∧ 0 ≤ x ∧ x ≤ 16 ∧ m ≤ 120)
theorem k_B_keyFace (h : mdo G b rf S) : xK mB_keyFace [.ref b] n G 0 0 (bPost n b G (rKey S)) xNo := by
  have loop : ∀ (m i : Nat) (H : xG) (x : Int) (fw : Nat), S.2.1.1.length - i < m → i ≤ S.2.1.1.length → kIn S.2.1 i x fw → mdo H b (nI 0) S → xfr b (b + 17) G H → xS mB_keyFace n 0 0 (bPost n b G (rKey S)) xNo 12 [(0, .ref b), (1, .int (iI x)), (2, .int (nI fw)), (3, .int (nI i))] [] n H 0 0 := by
    intro m
    induction m with
    | zero => intro i H x fw q; exact absurd q (by omega)
    | succ m ih =>
      intro i H x fw q1 q2 hk hm fm
      obtain ⟨⟨sp, gd, zs, ft, hc⟩, k1, k2, ⟨f, hr, hf, hV⟩, k4, k5, k6, k7, k8⟩ := id hm
      have hL := hV.1
      have i0 : vp_in (0 : Int32) 70 := fin70 (j := 0) (by decide)
      have j0 : (0 : Int32).toNatClampNeg = 0 := by decide
      refine xs_iload_n dB_keyFace_12 rfl ?_
      refine xs_aload_n dB_keyFace_13 rfl ?_
      refine xs_get dB_keyFace_14 flB_16 (by repeat (first | exact va_up_self _ _ _ | assumption | refine (va_up_ne _ _ (by omega)).trans ?_)) rfl ?_
      refine xs_iconst (v := 0) dB_keyFace_17 (by decide) ?_
      refine xs_iald dB_keyFace_18 (by repeat (first | exact va_up_self _ _ _ | assumption | refine (va_up_ne _ _ (by omega)).trans ?_)) (by assumption) ?_
      rw [j0, hf.1.1]
      refine xs_icmp_ge dB_keyFace_19 (fun hg => ?_) (fun hg => ?_)
      · have hi : i = S.2.1.1.length := by
          have := (nI_leI (by omega) (by omega)).mp hg
          omega
        have hx : x = (key S.2.1 S.2.1.1.length).1 := by
          rw [← hi]
          rcases hk with ⟨e1, e2, _⟩ | ⟨_, e2, _⟩
          · rw [e1, e2]
            rfl
          · exact e2
        refine xs_iload_n dB_keyFace_67 rfl ?_
        exact xs_iret dB_keyFace_68 rfl rfl (by omega) (by omega) (bOk rfl (by rw [hx]) hm fm)
      · have hi : i < S.2.1.1.length := nI_lt_of (by omega) (by omega) hg
        refine xs_aload_n dB_keyFace_22 rfl ?_
        refine xs_cV_vx (As := []) dB_keyFace_23 lkB_282 (by repeat (first | exact va_up_self _ _ _ | assumption | refine (va_up_ne _ _ (by omega)).trans ?_)) (k_B_begin hm) rfl rfl (Nat.le_of_ble_eq_true rfl) ⟨by decide, by decide⟩ ⟨by omega, by omega⟩ ?_
        intro H2 ⟨h2, ⟨g, r4, hg, hV2⟩, hfr⟩
        have c2 : H2 b = mCl b (nI 0) (nI S.1.length) sp gd (nI S.2.2.1.length) zs ft := by rw [hfr _ (by omega)]; exact hc
        refine xs_aload_n dB_keyFace_26 rfl ?_
        refine xs_get dB_keyFace_27 flB_19 (by repeat (first | exact va_up_self _ _ _ | assumption | refine (va_up_ne _ _ (by omega)).trans ?_)) rfl ?_
        refine xs_iload_n dB_keyFace_30 rfl ?_
        refine xs_cS_vx (As := [_, _]) dB_keyFace_31 lkB_298 (k_B_drop r4 hV2 hg hi) rfl rfl (Nat.le_of_ble_eq_true rfl) ⟨by decide, by decide⟩ ⟨by omega, by omega⟩ ?_
        intro H3 ⟨g3, p3, p4⟩
        have p6 : rfr b (b + 4) H2 H3 := fun k h1 _ => by rw [p3, va_up_ne _ _ h1]
        have r3 : H3 (b + 4) = oI 70 g3 := by rw [p3, va_up_self]
        obtain ⟨th3, t83⟩ := mdx_t8 h2
        have h3 : mdo H3 b (nI 0) S := mdx_t h2 ⟨th3, by rw [p3, va_up_ne _ _ (by omega)]; exact t83⟩ ⟨g3, r3⟩ p6
        have c3' : H3 b = mCl b (nI 0) (nI S.1.length) sp gd (nI S.2.2.1.length) zs ft := by rw [p6 _ (by omega) (by omega)]; exact c2
        have hV3 : zOk (zDrop S.2.1 i) := zOk_drop hV2
        obtain ⟨_, _, _, _, _, _, _, w3, _⟩ := id h3
        refine xs_aload_n dB_keyFace_34 rfl ?_
        refine xs_aload_n dB_keyFace_35 rfl ?_
        refine xs_get dB_keyFace_36 flB_19 (by repeat (first | exact va_up_self _ _ _ | assumption | refine (va_up_ne _ _ (by omega)).trans ?_)) rfl ?_
        refine xs_cV_ix (As := [_]) dB_keyFace_39 lkB_223 (by repeat (first | exact va_up_self _ _ _ | assumption | refine (va_up_ne _ _ (by omega)).trans ?_)) (k_B_zonesOf c3' w3 r3 ⟨by omega, by omega⟩ hV3 p4) rfl rfl (Nat.le_of_ble_eq_true rfl) ⟨by decide, by decide⟩ ⟨by omega, by omega⟩ ?_
        intro q H4 ⟨u1, u2, u3, u4⟩
        have hz := zcn_eq (zSet_of u3.2.2.2)
        have hz120 : (zl (zDrop S.2.1 i)).length ≤ 120 := by
          obtain ⟨_, _, ⟨_, _, _, _, _, _, _, _, _, hl⟩, _⟩ := id u3
          exact hl
        rw [← hz] at u1 hz120
        subst u1
        have h4 : mdo H4 b (nI 0) S := mdx_z h3 ⟨_, _, _, _, u2⟩ (mwk_of u3) u4
        have f4 : xfr b (b + 17) G H4 := xfr_tr (xfr_tr (xfr_tr fm (fun k hk => hfr k (by omega))) (rfr_x p6 ⟨by omega, by omega⟩)) (mfr_x u4)
        clear u2 u3 u4 h3 h2 hm p3 p4 p6 c2 c3' w3 hfr hz
        have hks : key S.2.1 (i + 1) = if zcn (zDrop S.2.1 i) < (key S.2.1 i).2 then ((i : Int), zcn (zDrop S.2.1 i)) else key S.2.1 i := rfl
        have next : ∀ x2 m2, kIn S.2.1 (i + 1) x2 m2 → xS mB_keyFace n 0 0 (bPost n b G (rKey S)) xNo 61 [(0, .ref b), (1, .int (iI x2)), (2, .int (nI m2)), (3, .int (nI i))] [] n H4 0 0 := by
          intro x2 m2 hk2
          refine xs_iinc (L2 := [(3, _), (0, _), (1, _), (2, _)]) dB_keyFace_61 rfl rfl (by decide) rfl ?_
          refine xs_goto dB_keyFace_64 ?_
          refine xs_pick (L2 := [(0, _), (1, _), (2, _), (3, _)]) [1, 2, 3, 0] rfl ?_
          rw [xii]
          exact ih (i + 1) H4 x2 m2 (by omega) (by omega) hk2 h4 f4
        have take : zcn (zDrop S.2.1 i) < (key S.2.1 i).2 → xS mB_keyFace n 0 0 (bPost n b G (rKey S)) xNo 56 [(4, .int (nI (zcn (zDrop S.2.1 i)))), (0, .ref b), (1, .int (iI x)), (2, .int (nI fw)), (3, .int (nI i))] [] n H4 0 0 := by
          intro hlt
          rw [if_pos hlt] at hks
          refine xs_iload_n dB_keyFace_56 rfl ?_
          refine xs_istore_n (L2 := [(1, _), (4, _), (0, _), (2, _), (3, _)]) dB_keyFace_57 (by decide) rfl ?_
          refine xs_iload dB_keyFace_58 rfl ?_
          refine xs_istore_n (L2 := [(2, _), (1, _), (4, _), (0, _), (3, _)]) dB_keyFace_60 (by decide) rfl ?_
          refine xs_pick (L2 := [(0, _), (1, _), (2, _), (3, _)]) [3, 1, 0, 4] rfl ?_
          rw [iI_nat i]
          refine next _ _ (Or.inr ⟨by omega, by rw [hks], by rw [hks], by omega, by omega, hz120⟩)
        refine xs_istore (L2 := [(4, _), (0, _), (1, _), (2, _), (3, _)]) dB_keyFace_42 (by decide) rfl ?_
        refine xs_iload_n dB_keyFace_44 rfl ?_
        refine xs_ldc dB_keyFace_45 kcB_109 ?_
        have eN : (-99999 : Int32) = iI (-99999) := by decide
        rw [eN]
        rcases hk with ⟨e1, e2, e3⟩ | ⟨e1, e2, e3, e4, e5, e6⟩
        · have h121 : zcn (zDrop S.2.1 i) < (key S.2.1 i).2 := by
            rw [e1]
            show _ < 121
            rw [e1] at hz120
            omega
          refine xs_icmp_eq dB_keyFace_47 (fun _ => take h121) (fun q => absurd (by rw [e2]) q)
        · refine xs_icmp_eq dB_keyFace_47 (fun q => absurd ((iI_eq (by omega) (by decide)).mp q) (by omega)) (fun _ => ?_)
          refine xs_iload dB_keyFace_50 rfl ?_
          refine xs_iload_n dB_keyFace_52 rfl ?_
          refine xs_icmp_ge dB_keyFace_53 (fun hge => ?_) (fun hge => ?_)
          · have h9 := (nI_leI (by omega) (by omega)).mp hge
            rw [if_neg (by omega)] at hks
            refine xs_pick (L2 := [(0, _), (1, _), (2, _), (3, _)]) [1, 2, 3, 4] rfl ?_
            exact next _ _ (Or.inr ⟨by omega, by rw [hks]; exact e2, by rw [hks]; exact e3, e4, e5, e6⟩)
          · have h9 := nI_lt_of (by omega) (by omega) hge
            exact take (by omega)
  obtain ⟨⟨sp, gd, zs, ft, hc⟩, k1, k2, ⟨f, hr, hf, hV⟩, k4, k5, k6, k7, k8⟩ := id h
  refine xK_of2 (L0 := [(0, _)]) (by decide +kernel) rfl (Nat.le_of_ble_eq_true rfl) rfl ?_
  refine xs_aload_n dB_keyFace_0 rfl ?_
  refine xs_iconst (v := 0) dB_keyFace_1 (by decide) ?_
  refine xs_put dB_keyFace_2 flB_64 ft8_0 (by repeat (first | exact va_up_self _ _ _ | assumption | refine (va_up_ne _ _ (by omega)).trans ?_)) (fun _ => rfl) (fun _ => rfl) (by simp) ?_
  obtain ⟨H1, hH1⟩ : ∃ H1, H1 = va_up G b (mCl b (nI 0) (nI S.1.length) sp gd (nI S.2.2.1.length) zs ft) := ⟨_, rfl⟩
  have h1 : mdo H1 b (nI 0) S := hH1 ▸ mdx_rf h
  have f1 : xfr b (b + 17) G H1 := hH1 ▸ rf_fr
  have c1 : H1 b = mCl b (nI 0) (nI S.1.length) sp gd (nI S.2.2.1.length) zs ft := by rw [hH1, va_up_self]
  have e1 : ∀ k, k ≠ b → H1 k = G k := fun k hk => by rw [hH1, va_up_ne _ _ hk]
  refine xs_at (H := H1) hH1.symm ?_
  clear hH1
  refine xs_ldc dB_keyFace_5 kcB_109 ?_
  refine xs_istore_n (L2 := [(1, _), (0, _)]) dB_keyFace_7 (by decide) rfl ?_
  refine xs_iconst (v := 0) dB_keyFace_8 (by decide) ?_
  refine xs_istore_n (L2 := [(2, _), (1, _), (0, _)]) dB_keyFace_9 (by decide) rfl ?_
  refine xs_iconst (v := 0) dB_keyFace_10 (by decide) ?_
  refine xs_istore_n (L2 := [(3, _), (2, _), (1, _), (0, _)]) dB_keyFace_11 (by decide) rfl ?_
  refine xs_pick (L2 := [(0, _), (1, _), (2, _), (3, _)]) [3, 2, 1, 0] rfl ?_
  exact loop (S.2.1.1.length + 1) 0 H1 (-99999) 0 (by omega) (by omega) (Or.inl ⟨rfl, rfl, rfl⟩) h1 f1
end P1
