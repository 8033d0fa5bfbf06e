theorem frm_ok {s : Int} {b q : P3} (hb : bd 10 b) (h0 : b ≠ (0, 0, 0)) (hg : g3 b = 1) (h : q ∈ frm s b) : bd 10 q ∧ q ≠ (0, 0, 0) ∧ g3 q = 1 := by
  have hp := zEq_perm (zEq_P.mp (List.mem_filter.mp h).2)
  have hgq : g3 q = g3 b := by
    unfold g3
    rcases hp with ⟨h1, ⟨h2, h3⟩ | ⟨h2, h3⟩⟩ | ⟨h1, ⟨h2, h3⟩ | ⟨h2, h3⟩⟩ | ⟨h1, ⟨h2, h3⟩ | ⟨h2, h3⟩⟩ <;> rw [h1, h2, h3] <;> ac_rfl
  refine ⟨?_, ?_, hgq.trans hg⟩
  · obtain ⟨b1, b2, b3⟩ := hb
    rcases hp with ⟨h1, ⟨h2, h3⟩ | ⟨h2, h3⟩⟩ | ⟨h1, ⟨h2, h3⟩ | ⟨h2, h3⟩⟩ | ⟨h1, ⟨h2, h3⟩ | ⟨h2, h3⟩⟩ <;> exact ⟨by omega, by omega, by omega⟩
  · intro e
    rw [e] at hgq
    rw [hg] at hgq
    exact absurd hgq (by decide)
theorem frm_nodup (s : Int) (b : P3) : (frm s b).Nodup := (cb_nodup (nums_nodup b 19)).filter _
theorem take_q {α : Type} {l : List α} {i : Nat} {f : α} (h : l[i]? = some f) : l = l.take i ++ f :: l.drop (i + 1) := by
  obtain ⟨hi, rfl⟩ := List.getElem?_eq_some_iff.mp h
  exact (List.take_append_drop i l).symm.trans (by rw [List.drop_eq_getElem_cons hi])
theorem take_fl {l : List P3} {P : P3 → Bool} {i : Nat} {q : P3} (h : l[i]? = some q) : (l.take (i + 1)).filter P = (l.take i).filter P ++ (if P q = true then [q] else []) := by
  rw [take_s h, List.filter_append]
  congr 1
  simp only [List.filter_cons, List.filter_nil]
theorem take_le {l : List P3} {P : P3 → Bool} {i : Nat} {q : P3} (h : l[i]? = some q) (hq : P q = true) : ((l.take i).filter P).length + 1 ≤ (l.filter P).length := by
  conv => rhs; rw [take_q h]
  rw [List.filter_append, List.length_append, List.filter_cons, if_pos hq, List.length_cons]
  omega
theorem take_nin {l : List P3} {i : Nat} {q : P3} (hn : l.Nodup) (h : l[i]? = some q) : q ∉ l.take i := by
  intro hq
  rw [take_q h] at hn
  have := (List.nodup_append.mp hn).2.2 q hq q List.mem_cons_self
  exact this rfl
theorem zMis_all {V : zV} {f : zF} : zMis V f = ((frm V.2.1 f.1).take (frm V.2.1 f.1).length).filter (fun q => decide ((q, f.2) ∉ V.1)) := by
  rw [List.take_length]
  rfl
section A3
variable {n a : Nat} {G : xG} {lis : Bool}
theorem fin48 {i : Nat} (h : i < 48) : vp_in (nI i) 48 := vp_in_nI h (by omega)
theorem k_A_countMissing {i c : Nat} {f : zF} {W : zV} {N0 : List Int} {F0 : List P3} {b0 c0 : P3} (hc : G a = fzc a lis) (hF0 : zfo G (a + 402) N0 F0 b0 c0) (hW : cry G c W) (hf : W.1[i]? = some f) (hd : c + 7 ≤ a + 402 ∧ a < c) :
    xK mA_countMissing [.ref a, .ref c, .int (nI i)] n G 0 0 (qIx n (fun r H => r = nI (zMis W f).length ∧ (∃ N F b c, zfo H (a + 402) N F b c) ∧ xfr (a + 402) (a + 409) G H)) xNo := by
  obtain ⟨F, hF⟩ : ∃ F, F = frm W.2.1 f.1 := ⟨_, rfl⟩
  obtain ⟨P, hP⟩ : ∃ P : P3 → Bool, P = fun q => decide ((q, f.2) ∉ W.1) := ⟨_, rfl⟩
  have hmis : zMis W f = (F.take F.length).filter P := by rw [hF, hP]; exact zMis_all
  have hFl : F.length ≤ 48 := by rw [hF]; exact frm_le _ _
  have hfo := hW.1.2.1 f (List.mem_of_getElem? hf)
  have loop : ∀ (m k : Nat) (H : xG) (N : List Int) (b d : P3), F.length - k < m → k ≤ F.length → zfo H (a + 402) N F b d → xfr (a + 402) (a + 409) G H →
      xS mA_countMissing n 0 0 (qIx n (fun r H => r = nI (zMis W f).length ∧ (∃ N F b c, zfo H (a + 402) N F b c) ∧ xfr (a + 402) (a + 409) G H)) xNo 14 [(0, .ref a), (1, .ref c), (2, .int (nI i)), (3, .int (nI ((F.take k).filter P).length)), (4, .int (nI k))] [] n H 0 0 := by
    intro m
    induction m with
    | zero => intro k H N b d q; exact absurd q (by omega)
    | succ m ih =>
      intro k H N b d q1 q2 hz hfr
      obtain ⟨fh, fk, fl, nu, ⟨g0, g1, g2, g3, g4, g5, g6⟩, hN, hq, l1, l2⟩ := id hz
      have hcH : H a = fzc a lis := by rw [hfr _ (by omega)]; exact hc
      have hWH : cry H c W := cry_fr hW (fun k _ _ => hfr k (by omega))
      refine xs_iload dA_countMissing_14 rfl ?_
      refine xs_aload_n dA_countMissing_16 rfl ?_
      refine xs_get dA_countMissing_17 flA_54 (by repeat (first | assumption | exact va_up_self _ _ _ | refine (va_up_ne _ _ (by omega)).trans ?_)) rfl ?_
      refine xs_get dA_countMissing_20 flA_356 (by repeat (first | assumption | exact va_up_self _ _ _ | refine (va_up_ne _ _ (by omega)).trans ?_)) rfl ?_
      refine xs_icmp_ge dA_countMissing_23 (fun hg => ?_) (fun hg => ?_)
      · have hk : k = F.length := by
          have := (nI_leI (by omega) (by omega)).mp hg
          omega
        subst hk
        refine xs_iload_n dA_countMissing_80 rfl ?_
        exact xs_iret dA_countMissing_81 rfl rfl (by omega) (by omega) ⟨_, rfl, rfl, by rw [hmis], ⟨_, _, _, _, hz⟩, hfr⟩
      · have hk : k < F.length := nI_lt_of (by omega) (by omega) hg
        obtain ⟨q, hqk⟩ : ∃ q, F[k]? = some q := ⟨_, List.getElem?_eq_getElem hk⟩
        obtain ⟨hb1, hb2, hb3⟩ := frm_ok hfo.1 hfo.2.1 hfo.2.2.1 (by rw [← hF]; exact List.mem_of_getElem? hqk)
        obtain ⟨r1, r2, r3⟩ := hq k q hqk
        obtain ⟨hok, rh, rk, rl, rb, a1, a2, a3, d1, d2, d3, ⟨e0, e1, e2, e3, e4, e5, e6⟩, hr⟩ := id hWH
        obtain ⟨hin, hgo, v1, v2, v3, v4⟩ := arr16 hok hr hf
        have hkin := fin48 (i := k) (by omega)
        have w1 : fh (nI k).toNatClampNeg = iI q.1 := by rw [nI_clamp (by omega)]; exact r1
        have w2 : fk (nI k).toNatClampNeg = iI q.2.1 := by rw [nI_clamp (by omega)]; exact r2
        have w3 : fl (nI k).toNatClampNeg = iI q.2.2 := by rw [nI_clamp (by omega)]; exact r3
        have hfl := take_fl (P := P) hqk
        have next : ∀ m0, m0 = ((F.take (k + 1)).filter P).length → xS mA_countMissing n 0 0 (qIx n (fun r H => r = nI (zMis W f).length ∧ (∃ N F b c, zfo H (a + 402) N F b c) ∧ xfr (a + 402) (a + 409) G H)) xNo 74 [(0, .ref a), (1, .ref c), (2, .int (nI i)), (3, .int (nI m0)), (4, .int (nI k))] [] n H 0 0 := by
          intro m0 hm0
          subst hm0
          refine xs_iinc (L2 := [(4, _), (0, _), (1, _), (2, _), (3, _)]) dA_countMissing_74 rfl rfl (by decide) rfl ?_
          refine xs_goto dA_countMissing_77 ?_
          refine xs_pick (L2 := [(0, _), (1, _), (2, _), (3, _), (4, _)]) [1, 2, 3, 4, 0] rfl ?_
          rw [xii]
          exact ih (k + 1) H N b d (by omega) (by omega) hz hfr
        refine xs_aload_n dA_countMissing_26 rfl ?_
        refine xs_aload_n dA_countMissing_27 rfl ?_
        refine xs_get dA_countMissing_28 flA_54 (by repeat (first | assumption | exact va_up_self _ _ _ | refine (va_up_ne _ _ (by omega)).trans ?_)) rfl ?_
        refine xs_get dA_countMissing_31 flA_357 (by repeat (first | assumption | exact va_up_self _ _ _ | refine (va_up_ne _ _ (by omega)).trans ?_)) rfl ?_
        refine xs_iload dA_countMissing_34 rfl ?_
        refine xs_iald dA_countMissing_36 (by repeat (first | assumption | exact va_up_self _ _ _ | refine (va_up_ne _ _ (by omega)).trans ?_)) (by assumption) ?_
        refine xs_aload_n dA_countMissing_37 rfl ?_
        refine xs_get dA_countMissing_38 flA_54 (by repeat (first | assumption | exact va_up_self _ _ _ | refine (va_up_ne _ _ (by omega)).trans ?_)) rfl ?_
        refine xs_get dA_countMissing_41 flA_358 (by repeat (first | assumption | exact va_up_self _ _ _ | refine (va_up_ne _ _ (by omega)).trans ?_)) rfl ?_
        refine xs_iload dA_countMissing_44 rfl ?_
        refine xs_iald dA_countMissing_46 (by repeat (first | assumption | exact va_up_self _ _ _ | refine (va_up_ne _ _ (by omega)).trans ?_)) (by assumption) ?_
        refine xs_aload_n dA_countMissing_47 rfl ?_
        refine xs_get dA_countMissing_48 flA_54 (by repeat (first | assumption | exact va_up_self _ _ _ | refine (va_up_ne _ _ (by omega)).trans ?_)) rfl ?_
        refine xs_get dA_countMissing_51 flA_359 (by repeat (first | assumption | exact va_up_self _ _ _ | refine (va_up_ne _ _ (by omega)).trans ?_)) rfl ?_
        refine xs_iload dA_countMissing_54 rfl ?_
        refine xs_iald dA_countMissing_56 (by repeat (first | assumption | exact va_up_self _ _ _ | refine (va_up_ne _ _ (by omega)).trans ?_)) (by assumption) ?_
        refine xs_aload_n dA_countMissing_57 rfl ?_
        refine xs_get dA_countMissing_58 flA_158 (by repeat (first | assumption | exact va_up_self _ _ _ | refine (va_up_ne _ _ (by omega)).trans ?_)) rfl ?_
        refine xs_iload_n dA_countMissing_61 rfl ?_
        refine xs_iald dA_countMissing_62 (by repeat (first | assumption | exact va_up_self _ _ _ | refine (va_up_ne _ _ (by omega)).trans ?_)) (by assumption) ?_
        rw [w1, w2, w3, v4]
        refine xs_cV_ix (As := [_, _, _, _]) dA_countMissing_63 lkA_360 (by repeat (first | assumption | exact va_up_self _ _ _ | refine (va_up_ne _ _ (by omega)).trans ?_)) (k_C_find hWH ⟨(by have := hb1.1; omega), (by have := hb1.2.1; omega), (by have := hb1.2.2; omega), (by rcases hgo.2.2.2 with q | q <;> omega)⟩) rfl rfl (Nat.le_of_ble_eq_true rfl) ⟨by decide, by decide⟩ ⟨by omega, by omega⟩ ?_
        intro r H2 ⟨hr1, hr2⟩
        subst hr2
        refine xs_ldc dA_countMissing_66 kcA_99 ?_
        refine xs_icmp_ne dA_countMissing_68 (fun h => ?_) (fun h => ?_)
        · have hPq : P q = false := by
            rw [hP]
            refine decide_eq_false (fun e => h (hr1.mpr e))
          refine next _ ?_
          rw [hfl, hPq, if_neg (by decide), List.append_nil]
        · have hPq : P q = true := by
            rw [hP]
            exact decide_eq_true (hr1.mp h)
          refine xs_iinc (L2 := [(3, _), (0, _), (1, _), (2, _), (4, _)]) dA_countMissing_71 rfl rfl (by decide) rfl ?_
          rw [xii]
          refine xs_pick (L2 := [(0, _), (1, _), (2, _), (3, _), (4, _)]) [1, 2, 3, 0, 4] rfl ?_
          refine next _ ?_
          rw [hfl, hPq, if_pos rfl, List.length_append, List.length_singleton]
  obtain ⟨fh, fk, fl, nu, ⟨g0, _⟩, _⟩ := id hF0
  have hcw := cry_cell hW
  refine xK_of2 (L0 := [(0, _), (1, _), (2, _)]) (by decide +kernel) rfl (Nat.le_of_ble_eq_true rfl) rfl ?_
  refine xs_aload_n dA_countMissing_0 rfl ?_
  refine xs_get dA_countMissing_1 flA_54 (by repeat (first | assumption | exact va_up_self _ _ _ | refine (va_up_ne _ _ (by omega)).trans ?_)) rfl ?_
  refine xs_aload_n dA_countMissing_4 rfl ?_
  refine xs_iload_n dA_countMissing_5 rfl ?_
  refine xs_cV_vx (As := [_, _]) dA_countMissing_6 lkA_353 (by repeat (first | assumption | exact va_up_self _ _ _ | refine (va_up_ne _ _ (by omega)).trans ?_)) (k_F_make hF0 hW hf (by omega)) rfl rfl (Nat.le_of_ble_eq_true rfl) ⟨by decide, by decide⟩ ⟨by omega, by omega⟩ ?_
  intro H ⟨⟨c2, h1⟩, h2⟩
  rw [← hF] at h1
  refine xs_iconst (v := 0) dA_countMissing_9 (by decide) ?_
  refine xs_istore_n (L2 := [(3, _), (0, _), (1, _), (2, _)]) dA_countMissing_10 (by decide) rfl ?_
  refine xs_iconst (v := 0) dA_countMissing_11 (by decide) ?_
  refine xs_istore (L2 := [(4, _), (3, _), (0, _), (1, _), (2, _)]) dA_countMissing_12 (by decide) rfl ?_
  refine xs_pick (L2 := [(0, _), (1, _), (2, _), (3, _), (4, _)]) [2, 3, 4, 1, 0] rfl ?_
  exact loop (F.length + 1) 0 H _ _ _ (by omega) (by omega) h1 h2
theorem k_A_insertForm {i c : Nat} {f : zF} {W : zV} {N0 : List Int} {F0 : List P3} {b0 c0 : P3} (hc : G a = fzc a lis) (hF0 : zfo G (a + 402) N0 F0 b0 c0) (hW : cry G c W) (hf : W.1[i]? = some f) (hd : c + 7 ≤ a + 402 ∧ a < c) (hroom : W.1.length + (zMis W f).length ≤ 16) :
    xK mA_insertForm [.ref a, .ref c, .int (nI i)] n G 0 0 (qVx n (fun H => cry H c (zFrm W f) ∧ (∃ N F b c, zfo H (a + 402) N F b c) ∧ xf2 c (c + 7) (a + 402) (a + 409) G H)) xNo := by
  obtain ⟨F, hF⟩ : ∃ F, F = frm W.2.1 f.1 := ⟨_, rfl⟩
  obtain ⟨P, hP⟩ : ∃ P : P3 → Bool, P = fun q => decide ((q, f.2) ∉ W.1) := ⟨_, rfl⟩
  have hmis : zMis W f = (F.take F.length).filter P := by rw [hF, hP]; exact zMis_all
  have hmis2 : zMis W f = F.filter P := by rw [hmis, List.take_length]
  have hFl : F.length ≤ 48 := by rw [hF]; exact frm_le _ _
  have hFn : F.Nodup := by rw [hF]; exact frm_nodup _ _
  have hfo := hW.1.2.1 f (List.mem_of_getElem? hf)
  obtain ⟨cur, hcur⟩ : ∃ cur : Nat → zV, ∀ k, cur k = (W.1 ++ ((F.take k).filter P).map (fun q => (q, f.2)), W.2) := ⟨_, fun _ => rfl⟩
  have hend : cur F.length = zFrm W f := by rw [hcur, ← hmis]; rfl
  have loop : ∀ (m k : Nat) (H : xG) (N : List Int) (b d : P3), F.length - k < m → k ≤ F.length → zfo H (a + 402) N F b d → cry H c (cur k) → xf2 c (c + 7) (a + 402) (a + 409) G H →
      xS mA_insertForm n 0 0 (qVx n (fun H => cry H c (zFrm W f) ∧ (∃ N F b c, zfo H (a + 402) N F b c) ∧ xf2 c (c + 7) (a + 402) (a + 409) G H)) xNo 19 [(0, .ref a), (1, .ref c), (2, .int (nI i)), (3, .int (iI f.2)), (4, .int (nI k))] [] n H 0 0 := by
    intro m
    induction m with
    | zero => intro k H N b d q; exact absurd q (by omega)
    | succ m ih =>
      intro k H N b d q1 q2 hz hC hfr
      obtain ⟨fh, fk, fl, nu, ⟨g0, g1, g2, g3, g4, g5, g6⟩, hN, hq, l1, l2⟩ := id hz
      have hcH : H a = fzc a lis := by rw [hfr _ (by omega) (by omega)]; exact hc
      have hcell := cry_cell hC
      refine xs_iload dA_insertForm_19 rfl ?_
      refine xs_aload_n dA_insertForm_21 rfl ?_
      refine xs_get dA_insertForm_22 flA_54 (by repeat (first | assumption | exact va_up_self _ _ _ | refine (va_up_ne _ _ (by omega)).trans ?_)) rfl ?_
      refine xs_get dA_insertForm_25 flA_356 (by repeat (first | assumption | exact va_up_self _ _ _ | refine (va_up_ne _ _ (by omega)).trans ?_)) rfl ?_
      refine xs_icmp_ge dA_insertForm_28 (fun hg => ?_) (fun hg => ?_)
      · have hk : k = F.length := by
          have := (nI_leI (by omega) (by omega)).mp hg
          omega
        subst hk
        rw [hend] at hC
        exact xs_vret dA_insertForm_110 rfl (by omega) (by omega) ⟨rfl, rfl, hC, ⟨_, _, _, _, hz⟩, hfr⟩
      · have hk : k < F.length := nI_lt_of (by omega) (by omega) hg
        obtain ⟨q, hqk⟩ : ∃ q, F[k]? = some q := ⟨_, List.getElem?_eq_getElem hk⟩
        obtain ⟨hb1, hb2, hb3⟩ := frm_ok hfo.1 hfo.2.1 hfo.2.2.1 (by rw [← hF]; exact List.mem_of_getElem? hqk)
        obtain ⟨r1, r2, r3⟩ := hq k q hqk
        have hkin := fin48 (i := k) (by omega)
        have w1 : fh (nI k).toNatClampNeg = iI q.1 := by rw [nI_clamp (by omega)]; exact r1
        have w2 : fk (nI k).toNatClampNeg = iI q.2.1 := by rw [nI_clamp (by omega)]; exact r2
        have w3 : fl (nI k).toNatClampNeg = iI q.2.2 := by rw [nI_clamp (by omega)]; exact r3
        have hfl := take_fl (P := P) hqk
        have hmem : (q, f.2) ∈ (cur k).1 ↔ (q, f.2) ∈ W.1 := by
          rw [hcur]
          constructor
          · intro e
            rcases List.mem_append.mp e with e | e
            · exact e
            · obtain ⟨q2, hq2, e2⟩ := List.mem_map.mp e
              cases e2
              exact absurd (List.mem_filter.mp hq2).1 (take_nin hFn hqk)
          · exact fun e => List.mem_append_left _ e
        have next : ∀ (H : xG), zfo H (a + 402) N F b d → cry H c (cur (k + 1)) → xf2 c (c + 7) (a + 402) (a + 409) G H → xS mA_insertForm n 0 0 (qVx n (fun H => cry H c (zFrm W f) ∧ (∃ N F b c, zfo H (a + 402) N F b c) ∧ xf2 c (c + 7) (a + 402) (a + 409) G H)) xNo 104 [(0, .ref a), (1, .ref c), (2, .int (nI i)), (3, .int (iI f.2)), (4, .int (nI k))] [] n H 0 0 := by
          intro H hz hC hfr
          refine xs_iinc (L2 := [(4, _), (0, _), (1, _), (2, _), (3, _)]) dA_insertForm_104 rfl rfl (by decide) rfl ?_
          refine xs_goto dA_insertForm_107 ?_
          refine xs_pick (L2 := [(0, _), (1, _), (2, _), (3, _), (4, _)]) [1, 2, 3, 4, 0] rfl ?_
          rw [xii]
          exact ih (k + 1) H N b d (by omega) (by omega) hz hC hfr
        refine xs_aload_n dA_insertForm_31 rfl ?_
        refine xs_aload_n dA_insertForm_32 rfl ?_
        refine xs_get dA_insertForm_33 flA_54 (by repeat (first | assumption | exact va_up_self _ _ _ | refine (va_up_ne _ _ (by omega)).trans ?_)) rfl ?_
        refine xs_get dA_insertForm_36 flA_357 (by repeat (first | assumption | exact va_up_self _ _ _ | refine (va_up_ne _ _ (by omega)).trans ?_)) rfl ?_
        refine xs_iload dA_insertForm_39 rfl ?_
        refine xs_iald dA_insertForm_41 (by repeat (first | assumption | exact va_up_self _ _ _ | refine (va_up_ne _ _ (by omega)).trans ?_)) (by assumption) ?_
        refine xs_aload_n dA_insertForm_42 rfl ?_
        refine xs_get dA_insertForm_43 flA_54 (by repeat (first | assumption | exact va_up_self _ _ _ | refine (va_up_ne _ _ (by omega)).trans ?_)) rfl ?_
        refine xs_get dA_insertForm_46 flA_358 (by repeat (first | assumption | exact va_up_self _ _ _ | refine (va_up_ne _ _ (by omega)).trans ?_)) rfl ?_
        refine xs_iload dA_insertForm_49 rfl ?_
        refine xs_iald dA_insertForm_51 (by repeat (first | assumption | exact va_up_self _ _ _ | refine (va_up_ne _ _ (by omega)).trans ?_)) (by assumption) ?_
        refine xs_aload_n dA_insertForm_52 rfl ?_
        refine xs_get dA_insertForm_53 flA_54 (by repeat (first | assumption | exact va_up_self _ _ _ | refine (va_up_ne _ _ (by omega)).trans ?_)) rfl ?_
        refine xs_get dA_insertForm_56 flA_359 (by repeat (first | assumption | exact va_up_self _ _ _ | refine (va_up_ne _ _ (by omega)).trans ?_)) rfl ?_
        refine xs_iload dA_insertForm_59 rfl ?_
        refine xs_iald dA_insertForm_61 (by repeat (first | assumption | exact va_up_self _ _ _ | refine (va_up_ne _ _ (by omega)).trans ?_)) (by assumption) ?_
        refine xs_iload_n dA_insertForm_62 rfl ?_
        rw [w1, w2, w3]
        refine xs_cV_ix (As := [_, _, _, _]) dA_insertForm_63 lkA_243 (by repeat (first | assumption | exact va_up_self _ _ _ | refine (va_up_ne _ _ (by omega)).trans ?_)) (k_C_refusalOf (h:=q.1) (k:=q.2.1) (l:=q.2.2) (s:=f.2) hC (bd_mono hb1 (by decide)) (by rcases hfo.2.2.2 with q | q <;> omega)) rfl rfl (Nat.le_of_ble_eq_true rfl) ⟨by decide, by decide⟩ ⟨by omega, by omega⟩ ?_
        intro r H2 ⟨hr1, hC2, hfr2⟩
        have hz2 : zfo H2 (a + 402) N F b d := zfo_fr hz (fun k _ _ => hfr2 k (by omega))
        have hcH2 : H2 a = fzc a lis := by rw [hfr2 _ (by omega)]; exact hcH
        have hfr3 : xf2 c (c + 7) (a + 402) (a + 409) G H2 := fun k h1 h2 => (hfr2 k h1).trans (hfr k h1 h2)
        have hq3 : ((q.1, q.2.1, q.2.2) : P3) = q := rfl
        rw [hq3] at hr1
        subst hr1
        refine xs_if_ne dA_insertForm_66 (fun h => ?_) (fun h => ?_)
        · have hPq : P q = false := by
            cases hPq : P q with
            | false => rfl
            | true =>
              exfalso
              apply h
              have h4 : (q, f.2) ∉ W.1 := by
                rw [hP] at hPq
                exact of_decide_eq_true hPq
              have h5 := take_le hqk hPq
              have h6 : (cur k).1.length = W.1.length + ((F.take k).filter P).length := by rw [hcur, List.length_append, List.length_map]
              rw [← hmis2] at h5
              unfold zwhy
              rw [if_neg hb2, dv_id hb3, if_neg (fun e => h4 (hmem.mp e)), if_neg (by omega)]
              rfl
          have hcc : cur (k + 1) = cur k := by rw [hcur, hcur, hfl, hPq, if_neg (by decide), List.append_nil]
          exact next H2 hz2 (by rw [hcc]; exact hC2) hfr3
        · have h0 : zwhy (cur k).1 q f.2 = 0 := by
            have h7 := zwhy_le (fs := (cur k).1) (p := q) (s := f.2)
            have h8 : iI (zwhy (cur k).1 q f.2 : Int) = iI 0 := by rw [← iI_nat]; exact h
            rw [iI_eq (by omega) (by decide)] at h8
            omega
          obtain ⟨h1, h2, h3⟩ := zwhy_0i h0
          rw [dv_id hb3] at h2
          have hPq : P q = true := by
            rw [hP]
            exact decide_eq_true (fun e => h2 (hmem.mpr e))
          obtain ⟨fh2, fk2, fl2, nu2, ⟨g02, g12, g22, g32, g42, g52, g62⟩, hN2, hq2, l12, l22⟩ := id hz2
          obtain ⟨r12, r22, r32⟩ := hq2 k q hqk
          have w12 : fh2 (nI k).toNatClampNeg = iI q.1 := by rw [nI_clamp (by omega)]; exact r12
          have w22 : fk2 (nI k).toNatClampNeg = iI q.2.1 := by rw [nI_clamp (by omega)]; exact r22
          have w32 : fl2 (nI k).toNatClampNeg = iI q.2.2 := by rw [nI_clamp (by omega)]; exact r32
          have hcell2 := cry_cell hC2
          refine xs_aload_n dA_insertForm_69 rfl ?_
          refine xs_aload_n dA_insertForm_70 rfl ?_
          refine xs_get dA_insertForm_71 flA_54 (by repeat (first | assumption | exact va_up_self _ _ _ | refine (va_up_ne _ _ (by omega)).trans ?_)) rfl ?_
          refine xs_get dA_insertForm_74 flA_357 (by repeat (first | assumption | exact va_up_self _ _ _ | refine (va_up_ne _ _ (by omega)).trans ?_)) rfl ?_
          refine xs_iload dA_insertForm_77 rfl ?_
          refine xs_iald dA_insertForm_79 (by repeat (first | assumption | exact va_up_self _ _ _ | refine (va_up_ne _ _ (by omega)).trans ?_)) (by assumption) ?_
          refine xs_aload_n dA_insertForm_80 rfl ?_
          refine xs_get dA_insertForm_81 flA_54 (by repeat (first | assumption | exact va_up_self _ _ _ | refine (va_up_ne _ _ (by omega)).trans ?_)) rfl ?_
          refine xs_get dA_insertForm_84 flA_358 (by repeat (first | assumption | exact va_up_self _ _ _ | refine (va_up_ne _ _ (by omega)).trans ?_)) rfl ?_
          refine xs_iload dA_insertForm_87 rfl ?_
          refine xs_iald dA_insertForm_89 (by repeat (first | assumption | exact va_up_self _ _ _ | refine (va_up_ne _ _ (by omega)).trans ?_)) (by assumption) ?_
          refine xs_aload_n dA_insertForm_90 rfl ?_
          refine xs_get dA_insertForm_91 flA_54 (by repeat (first | assumption | exact va_up_self _ _ _ | refine (va_up_ne _ _ (by omega)).trans ?_)) rfl ?_
          refine xs_get dA_insertForm_94 flA_359 (by repeat (first | assumption | exact va_up_self _ _ _ | refine (va_up_ne _ _ (by omega)).trans ?_)) rfl ?_
          refine xs_iload dA_insertForm_97 rfl ?_
          refine xs_iald dA_insertForm_99 (by repeat (first | assumption | exact va_up_self _ _ _ | refine (va_up_ne _ _ (by omega)).trans ?_)) (by assumption) ?_
          refine xs_iload_n dA_insertForm_100 rfl ?_
          rw [w12, w22, w32]
          refine xs_cV_vx (As := [_, _, _, _]) dA_insertForm_101 lkA_254 (by repeat (first | assumption | exact va_up_self _ _ _ | refine (va_up_ne _ _ (by omega)).trans ?_)) (k_C_insert (h:=q.1) (k:=q.2.1) (l:=q.2.2) hC2 hb1 hfo.2.2.2 hb2 h3) rfl rfl (Nat.le_of_ble_eq_true rfl) ⟨by decide, by decide⟩ ⟨by omega, by omega⟩ ?_
          intro H3 ⟨hC3, hfr4⟩
          refine next H3 (zfo_fr hz2 (fun k _ _ => hfr4 k (by omega))) ?_ (fun k h1 h2 => (hfr4 k h1).trans (hfr3 k h1 h2))
          have hcc : cur (k + 1) = zAdd (cur k) (dv (q.1, q.2.1, q.2.2), f.2) := by
            rw [hq3, dv_id hb3, hcur, hcur, hfl, hPq, if_pos rfl, List.map_append, List.map_singleton, ← List.append_assoc]
            rfl
          rw [hcc]
          exact hC3
  obtain ⟨fh, fk, fl, nu, ⟨g0, _⟩, _⟩ := id hF0
  have hcw := cry_cell hW
  refine xK_of2 (L0 := [(0, _), (1, _), (2, _)]) (by decide +kernel) rfl (Nat.le_of_ble_eq_true rfl) rfl ?_
  refine xs_aload_n dA_insertForm_0 rfl ?_
  refine xs_get dA_insertForm_1 flA_54 (by repeat (first | assumption | exact va_up_self _ _ _ | refine (va_up_ne _ _ (by omega)).trans ?_)) rfl ?_
  refine xs_aload_n dA_insertForm_4 rfl ?_
  refine xs_iload_n dA_insertForm_5 rfl ?_
  refine xs_cV_vx (As := [_, _]) dA_insertForm_6 lkA_353 (by repeat (first | assumption | exact va_up_self _ _ _ | refine (va_up_ne _ _ (by omega)).trans ?_)) (k_F_make hF0 hW hf (by omega)) rfl rfl (Nat.le_of_ble_eq_true rfl) ⟨by decide, by decide⟩ ⟨by omega, by omega⟩ ?_
  intro H ⟨⟨c2, h1⟩, h2⟩
  rw [← hF] at h1
  have hWH : cry H c W := cry_fr hW (fun k _ _ => h2 k (by omega))
  obtain ⟨hok, rh, rk, rl, rb, a1, a2, a3, d1, d2, d3, ⟨e0, e1, e2, e3, e4, e5, e6⟩, hr⟩ := id hWH
  obtain ⟨hin, hgo, v1, v2, v3, v4⟩ := arr16 hok hr hf
  refine xs_aload_n dA_insertForm_9 rfl ?_
  refine xs_get dA_insertForm_10 flA_158 (by repeat (first | assumption | exact va_up_self _ _ _ | refine (va_up_ne _ _ (by omega)).trans ?_)) rfl ?_
  refine xs_iload_n dA_insertForm_13 rfl ?_
  refine xs_iald dA_insertForm_14 (by repeat (first | assumption | exact va_up_self _ _ _ | refine (va_up_ne _ _ (by omega)).trans ?_)) (by assumption) ?_
  rw [v4]
  refine xs_istore_n (L2 := [(3, _), (0, _), (1, _), (2, _)]) dA_insertForm_15 (by decide) rfl ?_
  refine xs_iconst (v := 0) dA_insertForm_16 (by decide) ?_
  refine xs_istore (L2 := [(4, _), (3, _), (0, _), (1, _), (2, _)]) dA_insertForm_17 (by decide) rfl ?_
  refine xs_pick (L2 := [(0, _), (1, _), (2, _), (3, _), (4, _)]) [2, 3, 4, 1, 0] rfl ?_
  have hc0 : cur 0 = W := by
    rw [hcur, List.take_zero, List.filter_nil, List.map_nil, List.append_nil]
  exact loop (F.length + 1) 0 H _ _ _ (by omega) (by omega) h1 (by rw [hc0]; exact hWH) (fun k _ hk => h2 k hk)
end A3
