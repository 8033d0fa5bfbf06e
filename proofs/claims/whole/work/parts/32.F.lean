/-- a form: the numbers that occur, the list so far, where it began, what is tried -/
def zfo (G : xG) (f : Nat) (N : List Int) (F : List P3) (b c : P3) : Prop := ∃ (fh fk fl nu : Nat → Int32),
  (G f = .inr (2, [.ref (f + 1), .ref (f + 2), .ref (f + 3), .int (nI F.length), .ref (f + 4), .int (nI N.length), .ref (f + 5), .ref (f + 6)]) ∧ G (f + 1) = .inl (0, 48, .inl fh) ∧ G (f + 2) = .inl (0, 48, .inl fk) ∧ G (f + 3) = .inl (0, 48, .inl fl) ∧ G (f + 4) = .inl (0, 6, .inl nu) ∧ G (f + 5) = xTp b ∧ G (f + 6) = xTp c) ∧
  (∀ (i : Nat) (x : Int), N[i]? = some x → nu i = iI x) ∧ (∀ (i : Nat) (q : P3), F[i]? = some q → fh i = iI q.1 ∧ fk i = iI q.2.1 ∧ fl i = iI q.2.2) ∧ N.length ≤ 6 ∧ F.length ≤ 48
theorem zfo_fr {G H : xG} {f : Nat} {N : List Int} {F : List P3} {b c : P3} (h : zfo G f N F b c) (hf : ∀ k, f ≤ k → k < f + 7 → H k = G k) : zfo H f N F b c := by
  obtain ⟨fh, fk, fl, nu, ⟨g0, g1, g2, g3, g4, g5, g6⟩, hr⟩ := h
  refine ⟨fh, fk, fl, nu, ⟨?_, ?_, ?_, ?_, ?_, ?_, ?_⟩, hr⟩
  all_goals (rw [hf _ (by omega) (by omega)]; assumption)
theorem k_F_takeCandidate {n f : Nat} {G : xG} {N : List Int} {F : List P3} {b c : P3} (hF : zfo G f N F b c) (hl : F.length < 48) : xK mF_takeCandidate [.ref f] n G 0 0 (qVx n (fun H => zfo H f N (F ++ [c]) b c ∧ xfr f (f + 7) G H)) xNo := by
  obtain ⟨fh, fk, fl, nu, ⟨g0, g1, g2, g3, g4, g5, g6⟩, hN, hq, l1, l2⟩ := id hF
  have hin : vp_in (nI F.length) 48 := vp_in_nI hl (by omega)
  have ec : (nI F.length).toNatClampNeg = F.length := nI_clamp (by omega)
  refine xK_of2 (L0 := [(0, _)]) (by decide +kernel) rfl (Nat.le_of_ble_eq_true rfl) rfl ?_
  refine xs_aload_n dF_takeCandidate_0 rfl ?_
  refine xs_get dF_takeCandidate_1 flF_21 (by repeat (first | assumption | exact va_up_self _ _ _ | refine (va_up_ne _ _ (by omega)).trans ?_)) rfl ?_
  refine xs_bipush (v := 48) dF_takeCandidate_4 (by decide) ?_
  refine xs_icmp_lt dF_takeCandidate_6 (fun _ => ?_) (fun hg => absurd (nI_lt hl (by decide)) hg)
  refine xs_aload_n dF_takeCandidate_10 rfl ?_
  refine xs_get dF_takeCandidate_11 flF_9 (by repeat (first | assumption | exact va_up_self _ _ _ | refine (va_up_ne _ _ (by omega)).trans ?_)) rfl ?_
  refine xs_aload_n dF_takeCandidate_14 rfl ?_
  refine xs_get dF_takeCandidate_15 flF_21 (by repeat (first | assumption | exact va_up_self _ _ _ | refine (va_up_ne _ _ (by omega)).trans ?_)) rfl ?_
  refine xs_aload_n dF_takeCandidate_18 rfl ?_
  refine xs_get dF_takeCandidate_19 flF_38 (by repeat (first | assumption | exact va_up_self _ _ _ | refine (va_up_ne _ _ (by omega)).trans ?_)) rfl ?_
  refine xs_get dF_takeCandidate_22 flF_63 (by repeat (first | assumption | exact va_up_self _ _ _ | refine (va_up_ne _ _ (by omega)).trans ?_)) rfl ?_
  refine xs_l2i dF_takeCandidate_25 ?_
  refine xs_iast dF_takeCandidate_26 (by repeat (first | assumption | exact va_up_self _ _ _ | refine (va_up_ne _ _ (by omega)).trans ?_)) (by assumption) ?_
  refine xs_aload_n dF_takeCandidate_27 rfl ?_
  refine xs_get dF_takeCandidate_28 flF_15 (by repeat (first | assumption | exact va_up_self _ _ _ | refine (va_up_ne _ _ (by omega)).trans ?_)) rfl ?_
  refine xs_aload_n dF_takeCandidate_31 rfl ?_
  refine xs_get dF_takeCandidate_32 flF_21 (by repeat (first | assumption | exact va_up_self _ _ _ | refine (va_up_ne _ _ (by omega)).trans ?_)) rfl ?_
  refine xs_aload_n dF_takeCandidate_35 rfl ?_
  refine xs_get dF_takeCandidate_36 flF_38 (by repeat (first | assumption | exact va_up_self _ _ _ | refine (va_up_ne _ _ (by omega)).trans ?_)) rfl ?_
  refine xs_get dF_takeCandidate_39 flF_67 (by repeat (first | assumption | exact va_up_self _ _ _ | refine (va_up_ne _ _ (by omega)).trans ?_)) rfl ?_
  refine xs_l2i dF_takeCandidate_42 ?_
  refine xs_iast dF_takeCandidate_43 (by repeat (first | assumption | exact va_up_self _ _ _ | refine (va_up_ne _ _ (by omega)).trans ?_)) (by assumption) ?_
  refine xs_aload_n dF_takeCandidate_44 rfl ?_
  refine xs_get dF_takeCandidate_45 flF_18 (by repeat (first | assumption | exact va_up_self _ _ _ | refine (va_up_ne _ _ (by omega)).trans ?_)) rfl ?_
  refine xs_aload_n dF_takeCandidate_48 rfl ?_
  refine xs_get dF_takeCandidate_49 flF_21 (by repeat (first | assumption | exact va_up_self _ _ _ | refine (va_up_ne _ _ (by omega)).trans ?_)) rfl ?_
  refine xs_aload_n dF_takeCandidate_52 rfl ?_
  refine xs_get dF_takeCandidate_53 flF_38 (by repeat (first | assumption | exact va_up_self _ _ _ | refine (va_up_ne _ _ (by omega)).trans ?_)) rfl ?_
  refine xs_get dF_takeCandidate_56 flF_70 (by repeat (first | assumption | exact va_up_self _ _ _ | refine (va_up_ne _ _ (by omega)).trans ?_)) rfl ?_
  refine xs_l2i dF_takeCandidate_59 ?_
  refine xs_iast dF_takeCandidate_60 (by repeat (first | assumption | exact va_up_self _ _ _ | refine (va_up_ne _ _ (by omega)).trans ?_)) (by assumption) ?_
  refine xs_aload_n dF_takeCandidate_61 rfl ?_
  refine xs_dup dF_takeCandidate_62 rfl ?_
  refine xs_get dF_takeCandidate_63 flF_21 (by repeat (first | assumption | exact va_up_self _ _ _ | refine (va_up_ne _ _ (by omega)).trans ?_)) rfl ?_
  refine xs_iconst (v := 1) dF_takeCandidate_66 (by decide) ?_
  refine xs_iadd dF_takeCandidate_67 ?_
  refine xs_put dF_takeCandidate_68 flF_21 ft2_3 (by repeat (first | assumption | exact va_up_self _ _ _ | refine (va_up_ne _ _ (by omega)).trans ?_)) (fun _ => rfl) (fun _ => rfl) (by simp) ?_
  refine xs_vret dF_takeCandidate_71 rfl (by omega) (by omega) ⟨rfl, rfl, ?_, ?_⟩
  · have hlen : (F ++ [c]).length = F.length + 1 := by rw [List.length_append, List.length_singleton]
    refine ⟨upd fh F.length (iI c.1), upd fk F.length (iI c.2.1), upd fl F.length (iI c.2.2), nu, ⟨?_, ?_, ?_, ?_, ?_, ?_, ?_⟩, hN, fun i q hi => ?_, l1, by omega⟩
    · rw [va_up_self, hlen, ← nI_1]
      rfl
    · rw [va_up_ne _ _ (by omega), va_up_ne _ _ (by omega), va_up_ne _ _ (by omega), va_up_self, ec, iL_i]
    · rw [va_up_ne _ _ (by omega), va_up_ne _ _ (by omega), va_up_self, ec, iL_i]
    · rw [va_up_ne _ _ (by omega), va_up_self, ec, iL_i]
    · exact (by repeat (first | assumption | exact va_up_self _ _ _ | refine (va_up_ne _ _ (by omega)).trans ?_))
    · exact (by repeat (first | assumption | exact va_up_self _ _ _ | refine (va_up_ne _ _ (by omega)).trans ?_))
    · exact (by repeat (first | assumption | exact va_up_self _ _ _ | refine (va_up_ne _ _ (by omega)).trans ?_))
    · have hil := (List.getElem?_eq_some_iff.mp hi).1
      rcases Nat.lt_or_ge i F.length with q1 | q1
      · rw [List.getElem?_append_left q1] at hi
        rw [pk_un (by omega), pk_un (by omega), pk_un (by omega)]
        exact hq i q hi
      · have hie : i = F.length := by omega
        subst hie
        rw [List.getElem?_append_right (Nat.le_refl _), Nat.sub_self] at hi
        cases hi
        rw [pk_us, pk_us, pk_us]
        exact ⟨rfl, rfl, rfl⟩
  · exact xfr_up (xfr_up (xfr_up (xfr_up xfr_rf (by omega) (by omega)) (by omega) (by omega)) (by omega) (by omega)) (by omega) (by omega)
theorem k_F_collectNumbers {n f : Nat} {G : xG} {N : List Int} {F : List P3} {b c : P3} (hF : zfo G f N F b c) (hb : bd 10 b) : xK mF_collectNumbers [.ref f] n G 0 0 (qVx n (fun H => zfo H f (nums b 19) F b c ∧ xfr f (f + 7) G H)) xNo := by
  obtain ⟨hb1, hb2, hb3⟩ := id hb
  have loop : ∀ (m i : Nat) (H : xG), 19 - i < m → i ≤ 19 → zfo H f (nums b i) F b c → xfr f (f + 7) G H → xS mF_collectNumbers n 0 0 (qVx n (fun H => zfo H f (nums b 19) F b c ∧ xfr f (f + 7) G H)) xNo 8 [(0, .ref f), (1, .int (iI (9 - (i : Int))))] [] n H 0 0 := by
    intro m
    induction m with
    | zero => intro i H q; exact absurd q (by omega)
    | succ m ih =>
      intro i H q1 q2 hz hfr
      obtain ⟨fh, fk, fl, nu, ⟨g0, g1, g2, g3, g4, g5, g6⟩, hN, hq, l1, l2⟩ := id hz
      have hlt : iI (9 - (i : Int)) < iI (-9) ↔ 9 - (i : Int) < -9 := iI_lt (by omega) (by omega)
      refine xs_iload_n dF_collectNumbers_8 rfl ?_
      refine xs_bipush (v := (-9)) dF_collectNumbers_9 (by decide) ?_
      refine xs_icmp_lt dF_collectNumbers_11 (fun hg => ?_) (fun hg => ?_)
      · have hi : i = 19 := by
          have := hlt.mp hg
          omega
        subst hi
        exact xs_vret dF_collectNumbers_140 rfl (by omega) (by omega) ⟨rfl, rfl, hz, hfr⟩
      · have hi : i < 19 := by
          rcases Nat.lt_or_ge i 19 with q | q
          · exact q
          · exact absurd (hlt.mpr (by omega)) hg
        have ed : iI (9 - (i : Int)) + Int32.ofInt (-1) = iI (9 - ((i + 1 : Nat) : Int)) := by
          rw [show Int32.ofInt (-1) = iI (-1) from rfl, iI_add]
          congr 1
          omega
        have next : ∀ (H : xG), zfo H f (nums b (i + 1)) F b c → xfr f (f + 7) G H → xS mF_collectNumbers n 0 0 (qVx n (fun H => zfo H f (nums b 19) F b c ∧ xfr f (f + 7) G H)) xNo 134 [(0, .ref f), (1, .int (iI (9 - (i : Int))))] [] n H 0 0 := by
          intro H hz hfr
          refine xs_iinc (L2 := [(1, _), (0, _)]) dF_collectNumbers_134 rfl rfl (by decide) rfl ?_
          refine xs_goto dF_collectNumbers_137 ?_
          refine xs_pick (L2 := [(0, _), (1, _)]) [1, 0] rfl ?_
          rw [ed]
          exact ih (i + 1) H (by omega) (by omega) hz hfr
        have hno : occ b (9 - (i : Int)) = false → xS mF_collectNumbers n 0 0 (qVx n (fun H => zfo H f (nums b 19) F b c ∧ xfr f (f + 7) G H)) xNo 99 [(0, .ref f), (1, .int (iI (9 - (i : Int))))] [] n H 0 0 := by
          intro ho
          refine xs_iconst (v := 0) dF_collectNumbers_99 (by decide) ?_
          refine xs_istore_n (L2 := [(2, _), (0, _), (1, _)]) dF_collectNumbers_100 (by decide) rfl ?_
          refine xs_iload_n dF_collectNumbers_101 rfl ?_
          refine xs_if_eq dF_collectNumbers_102 (fun _ => ?_) (fun h => absurd rfl h)
          refine xs_pick (L2 := [(0, _), (1, _)]) [1, 2] rfl ?_
          refine next H ?_ hfr
          rw [nums_s, ho, if_neg (by decide), List.append_nil]
          exact hz
        have hyes : occ b (9 - (i : Int)) = true → xS mF_collectNumbers n 0 0 (qVx n (fun H => zfo H f (nums b 19) F b c ∧ xfr f (f + 7) G H)) xNo 95 [(0, .ref f), (1, .int (iI (9 - (i : Int))))] [] n H 0 0 := by
          intro ho
          have hs := nums_s b i
          rw [ho, if_pos rfl] at hs
          have hle := nums_le b (i + 1)
          rw [hs, List.length_append, List.length_singleton] at hle
          have hin : vp_in (nI (nums b i).length) 6 := vp_in_nI (by omega) (by omega)
          have ec : (nI (nums b i).length).toNatClampNeg = (nums b i).length := nI_clamp (by omega)
          refine xs_iconst (v := 1) dF_collectNumbers_95 (by decide) ?_
          refine xs_goto dF_collectNumbers_96 ?_
          refine xs_istore_n (L2 := [(2, _), (0, _), (1, _)]) dF_collectNumbers_100 (by decide) rfl ?_
          refine xs_iload_n dF_collectNumbers_101 rfl ?_
          refine xs_if_eq dF_collectNumbers_102 (fun h => absurd h (by decide)) (fun _ => ?_)
          refine xs_aload_n dF_collectNumbers_105 rfl ?_
          refine xs_get dF_collectNumbers_106 flF_28 (by repeat (first | assumption | exact va_up_self _ _ _ | refine (va_up_ne _ _ (by omega)).trans ?_)) rfl ?_
          refine xs_bipush (v := 6) dF_collectNumbers_109 (by decide) ?_
          refine xs_icmp_ge dF_collectNumbers_111 (fun hg => absurd ((nI_leI (a := 6) (by decide) (by omega)).mp hg) (by omega)) (fun _ => ?_)
          refine xs_aload_n dF_collectNumbers_114 rfl ?_
          refine xs_get dF_collectNumbers_115 flF_25 (by repeat (first | assumption | exact va_up_self _ _ _ | refine (va_up_ne _ _ (by omega)).trans ?_)) rfl ?_
          refine xs_aload_n dF_collectNumbers_118 rfl ?_
          refine xs_get dF_collectNumbers_119 flF_28 (by repeat (first | assumption | exact va_up_self _ _ _ | refine (va_up_ne _ _ (by omega)).trans ?_)) rfl ?_
          refine xs_iload_n dF_collectNumbers_122 rfl ?_
          refine xs_iast dF_collectNumbers_123 (by repeat (first | assumption | exact va_up_self _ _ _ | refine (va_up_ne _ _ (by omega)).trans ?_)) (by assumption) ?_
          refine xs_aload_n dF_collectNumbers_124 rfl ?_
          refine xs_dup dF_collectNumbers_125 rfl ?_
          refine xs_get dF_collectNumbers_126 flF_28 (by repeat (first | assumption | exact va_up_self _ _ _ | refine (va_up_ne _ _ (by omega)).trans ?_)) rfl ?_
          refine xs_iconst (v := 1) dF_collectNumbers_129 (by decide) ?_
          refine xs_iadd dF_collectNumbers_130 ?_
          refine xs_put dF_collectNumbers_131 flF_28 ft2_5 (by repeat (first | assumption | exact va_up_self _ _ _ | refine (va_up_ne _ _ (by omega)).trans ?_)) (fun _ => rfl) (fun _ => rfl) (by simp) ?_
          refine xs_pick (L2 := [(0, _), (1, _)]) [1, 2] rfl ?_
          refine next _ ?_ (xfr_up (xfr_up hfr (by omega) (by omega)) (by omega) (by omega))
          rw [hs]
          refine ⟨fh, fk, fl, upd nu (nums b i).length (iI (9 - (i : Int))), ⟨?_, ?_, ?_, ?_, ?_, ?_, ?_⟩, fun j x hj => ?_, hq, by rw [List.length_append, List.length_singleton]; omega, l2⟩
          · rw [va_up_self, List.length_append, List.length_singleton, ← nI_1]
            rfl
          · exact (by repeat (first | assumption | exact va_up_self _ _ _ | refine (va_up_ne _ _ (by omega)).trans ?_))
          · exact (by repeat (first | assumption | exact va_up_self _ _ _ | refine (va_up_ne _ _ (by omega)).trans ?_))
          · exact (by repeat (first | assumption | exact va_up_self _ _ _ | refine (va_up_ne _ _ (by omega)).trans ?_))
          · rw [va_up_ne _ _ (by omega), va_up_self, ec]
          · exact (by repeat (first | assumption | exact va_up_self _ _ _ | refine (va_up_ne _ _ (by omega)).trans ?_))
          · exact (by repeat (first | assumption | exact va_up_self _ _ _ | refine (va_up_ne _ _ (by omega)).trans ?_))
          · have hjl := (List.getElem?_eq_some_iff.mp hj).1
            rcases Nat.lt_or_ge j (nums b i).length with w1 | w1
            · rw [List.getElem?_append_left w1] at hj
              rw [pk_un (by omega)]
              exact hN j x hj
            · rw [List.length_append, List.length_singleton] at hjl
              have hje : j = (nums b i).length := by omega
              subst hje
              rw [List.getElem?_append_right (Nat.le_refl _), Nat.sub_self] at hj
              cases hj
              rw [pk_us]
        have hq : ∀ x : Int, x.natAbs < 1000 → (iL (9 - (i : Int)) = iL x ↔ 9 - (i : Int) = x) := fun x hx => iL_eq (by omega) (by omega)
        refine xs_iload_n dF_collectNumbers_14 rfl ?_
        refine xs_i2l dF_collectNumbers_15 ?_
        refine xs_aload_n dF_collectNumbers_16 rfl ?_
        refine xs_get dF_collectNumbers_17 flF_34 (by repeat (first | assumption | exact va_up_self _ _ _ | refine (va_up_ne _ _ (by omega)).trans ?_)) rfl ?_
        refine xs_get dF_collectNumbers_20 flF_63 (by repeat (first | assumption | exact va_up_self _ _ _ | refine (va_up_ne _ _ (by omega)).trans ?_)) rfl ?_
        rw [iI_l (by omega)]
        refine xs_lc_eq dF_collectNumbers_23 dF_collectNumbers_24 (fun h => hyes (occ_iff.mpr (Or.inl (by have := (hq b.1 (by omega)).mp h; omega)))) (fun h1 => ?_)
        refine xs_iload_n dF_collectNumbers_27 rfl ?_
        refine xs_i2l dF_collectNumbers_28 ?_
        refine xs_aload_n dF_collectNumbers_29 rfl ?_
        refine xs_get dF_collectNumbers_30 flF_34 (by repeat (first | assumption | exact va_up_self _ _ _ | refine (va_up_ne _ _ (by omega)).trans ?_)) rfl ?_
        refine xs_get dF_collectNumbers_33 flF_63 (by repeat (first | assumption | exact va_up_self _ _ _ | refine (va_up_ne _ _ (by omega)).trans ?_)) rfl ?_
        refine xs_lneg dF_collectNumbers_36 ?_
        rw [iI_l (by omega), iL_neg]
        refine xs_lc_eq dF_collectNumbers_37 dF_collectNumbers_38 (fun h => hyes (occ_iff.mpr (Or.inl (by have := (hq (-b.1) (by omega)).mp h; omega)))) (fun h2 => ?_)
        refine xs_iload_n dF_collectNumbers_41 rfl ?_
        refine xs_i2l dF_collectNumbers_42 ?_
        refine xs_aload_n dF_collectNumbers_43 rfl ?_
        refine xs_get dF_collectNumbers_44 flF_34 (by repeat (first | assumption | exact va_up_self _ _ _ | refine (va_up_ne _ _ (by omega)).trans ?_)) rfl ?_
        refine xs_get dF_collectNumbers_47 flF_67 (by repeat (first | assumption | exact va_up_self _ _ _ | refine (va_up_ne _ _ (by omega)).trans ?_)) rfl ?_
        rw [iI_l (by omega)]
        refine xs_lc_eq dF_collectNumbers_50 dF_collectNumbers_51 (fun h => hyes (occ_iff.mpr (Or.inr (Or.inl (by have := (hq b.2.1 (by omega)).mp h; omega))))) (fun h3 => ?_)
        refine xs_iload_n dF_collectNumbers_54 rfl ?_
        refine xs_i2l dF_collectNumbers_55 ?_
        refine xs_aload_n dF_collectNumbers_56 rfl ?_
        refine xs_get dF_collectNumbers_57 flF_34 (by repeat (first | assumption | exact va_up_self _ _ _ | refine (va_up_ne _ _ (by omega)).trans ?_)) rfl ?_
        refine xs_get dF_collectNumbers_60 flF_67 (by repeat (first | assumption | exact va_up_self _ _ _ | refine (va_up_ne _ _ (by omega)).trans ?_)) rfl ?_
        refine xs_lneg dF_collectNumbers_63 ?_
        rw [iI_l (by omega), iL_neg]
        refine xs_lc_eq dF_collectNumbers_64 dF_collectNumbers_65 (fun h => hyes (occ_iff.mpr (Or.inr (Or.inl (by have := (hq (-b.2.1) (by omega)).mp h; omega))))) (fun h4 => ?_)
        refine xs_iload_n dF_collectNumbers_68 rfl ?_
        refine xs_i2l dF_collectNumbers_69 ?_
        refine xs_aload_n dF_collectNumbers_70 rfl ?_
        refine xs_get dF_collectNumbers_71 flF_34 (by repeat (first | assumption | exact va_up_self _ _ _ | refine (va_up_ne _ _ (by omega)).trans ?_)) rfl ?_
        refine xs_get dF_collectNumbers_74 flF_70 (by repeat (first | assumption | exact va_up_self _ _ _ | refine (va_up_ne _ _ (by omega)).trans ?_)) rfl ?_
        rw [iI_l (by omega)]
        refine xs_lc_eq dF_collectNumbers_77 dF_collectNumbers_78 (fun h => hyes (occ_iff.mpr (Or.inr (Or.inr (by have := (hq b.2.2 (by omega)).mp h; omega))))) (fun h5 => ?_)
        refine xs_iload_n dF_collectNumbers_81 rfl ?_
        refine xs_i2l dF_collectNumbers_82 ?_
        refine xs_aload_n dF_collectNumbers_83 rfl ?_
        refine xs_get dF_collectNumbers_84 flF_34 (by repeat (first | assumption | exact va_up_self _ _ _ | refine (va_up_ne _ _ (by omega)).trans ?_)) rfl ?_
        refine xs_get dF_collectNumbers_87 flF_70 (by repeat (first | assumption | exact va_up_self _ _ _ | refine (va_up_ne _ _ (by omega)).trans ?_)) rfl ?_
        refine xs_lneg dF_collectNumbers_90 ?_
        rw [iI_l (by omega), iL_neg]
        refine xs_lc_ne dF_collectNumbers_91 dF_collectNumbers_92 (fun h6 => hno ?_) (fun h => hyes (occ_iff.mpr (Or.inr (Or.inr (by have := (hq (-b.2.2) (by omega)).mp h; omega)))))
        rw [(hq b.1 (by omega))] at h1
        rw [(hq (-b.1) (by omega))] at h2
        rw [(hq b.2.1 (by omega))] at h3
        rw [(hq (-b.2.1) (by omega))] at h4
        rw [(hq b.2.2 (by omega))] at h5
        rw [(hq (-b.2.2) (by omega))] at h6
        exact decide_eq_false (by omega)
  obtain ⟨fh, fk, fl, nu, ⟨g0, g1, g2, g3, g4, g5, g6⟩, hN, hq, l1, l2⟩ := id hF
  refine xK_of2 (L0 := [(0, _)]) (by decide +kernel) rfl (Nat.le_of_ble_eq_true rfl) rfl ?_
  refine xs_aload_n dF_collectNumbers_0 rfl ?_
  refine xs_iconst (v := 0) dF_collectNumbers_1 (by decide) ?_
  refine xs_put dF_collectNumbers_2 flF_28 ft2_5 (by repeat (first | assumption | exact va_up_self _ _ _ | refine (va_up_ne _ _ (by omega)).trans ?_)) (fun _ => rfl) (fun _ => rfl) (by simp) ?_
  refine xs_bipush (v := 9) dF_collectNumbers_5 (by decide) ?_
  refine xs_istore_n (L2 := [(1, _), (0, _)]) dF_collectNumbers_7 (by decide) rfl ?_
  refine xs_pick (L2 := [(0, _), (1, _)]) [1, 0] rfl ?_
  refine loop 20 0 _ (by omega) (by omega) ⟨fh, fk, fl, nu, ⟨?_, ?_, ?_, ?_, ?_, ?_, ?_⟩, fun j x hj => ?_, hq, Nat.zero_le _, l2⟩ (xfr_up xfr_rf (by omega) (by omega))
  · rw [va_up_self]
    rfl
  · exact (by repeat (first | assumption | exact va_up_self _ _ _ | refine (va_up_ne _ _ (by omega)).trans ?_))
  · exact (by repeat (first | assumption | exact va_up_self _ _ _ | refine (va_up_ne _ _ (by omega)).trans ?_))
  · exact (by repeat (first | assumption | exact va_up_self _ _ _ | refine (va_up_ne _ _ (by omega)).trans ?_))
  · exact (by repeat (first | assumption | exact va_up_self _ _ _ | refine (va_up_ne _ _ (by omega)).trans ?_))
  · exact (by repeat (first | assumption | exact va_up_self _ _ _ | refine (va_up_ne _ _ (by omega)).trans ?_))
  · exact (by repeat (first | assumption | exact va_up_self _ _ _ | refine (va_up_ne _ _ (by omega)).trans ?_))
  · cases hj
