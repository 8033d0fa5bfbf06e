theorem zlo_cell {G : xG} {z : Nat} {fd fa : Nat → Option Nat} {pa : Nat → Nat} {ms cv : Nat → Int32} {fcs cnt : Nat} (h : zlo G z fd fa pa ms cv fcs cnt) : G z = .inr (6, [.ref (z + 1), .ref (z + 2), .ref (z + 3), .ref (z + 4), .int (nI fcs), .int (nI cnt)]) := h.1.1
theorem nI_lt_of {a b : Nat} (ha : a < 2 ^ 31) (hb : b < 2 ^ 31) (h : ¬ nI b ≤ nI a) : a < b := by
  rcases Nat.lt_or_ge a b with q | q
  · exact q
  · exact absurd (nI_le q (by omega)) h
/-- covered: all bits off -/
theorem k_Z_gather {n z c : Nat} {G : xG} {V : zV} {fd fa : Nat → Option Nat} {pa : Nat → Nat} {ms cv : Nat → Int32} {fcs cnt : Nat} (hZ : zlo G z fd fa pa ms cv fcs cnt) (hC : cry G c V) (hd : c + 7 ≤ z ∨ z + 141 ≤ c) :
    xK mZ_gather [.ref z, .ref c] n G 0 0 (qVx n (fun H => (∃ Z R, zst H z (zDirs V) Z R ∧ zSet (zDirs V) V.2.2.1 Z ∧ Z.length ≤ 120) ∧ xfr z (z + 141) G H)) xNo := by
  have hok := hC.1
  have hN := hok.1
  have hDk := zDirs_ok hok
  have hDl : (zDirs V).length = V.1.length := List.length_map _
  -- the pairs
  have inner : ∀ (m i j : Nat) (H : xG) (Z : List P3) (R : Nat → Nat), i < (zDirs V).length → (zDirs V).length - j < m → i < j → j ≤ (zDirs V).length → zst H z (zDirs V) Z R → gInv (zDirs V) V.2.2.1 i j Z R → xfr z (z + 141) G H →
      (∀ (H : xG) (Z : List P3) (R : Nat → Nat) (j2 : Int32), zst H z (zDirs V) Z R → gInv (zDirs V) V.2.2.1 (i + 1) (i + 2) Z R → xfr z (z + 141) G H → xS mZ_gather n 0 0 (qVx n (fun H => (∃ Z R, zst H z (zDirs V) Z R ∧ zSet (zDirs V) V.2.2.1 Z ∧ Z.length ≤ 120) ∧ xfr z (z + 141) G H)) xNo 35 [(0, .ref z), (1, .ref c), (2, .int (nI (i + 1)))] [] n H 0 0) →
      xS mZ_gather n 0 0 (qVx n (fun H => (∃ Z R, zst H z (zDirs V) Z R ∧ zSet (zDirs V) V.2.2.1 Z ∧ Z.length ≤ 120) ∧ xfr z (z + 141) G H)) xNo 47 [(0, .ref z), (1, .ref c), (2, .int (nI i)), (3, .int (nI j))] [] n H 0 0 := by
    intro m
    induction m with
    | zero => intro i j H Z R _ q; exact absurd q (by omega)
    | succ m ih =>
      intro i j H Z R hi q1 hij hj hst hinv hfr hout
      obtain ⟨fd, fa, pa, ms, cv, hz, hdr, hax, hms, hcv⟩ := id hst
      obtain ⟨⟨g0, g1, g2, g3, g4⟩, ⟨f1, f2, f3, f4⟩, ht, hn⟩ := id hz
      refine xs_iload_n dZ_gather_47 rfl ?_
      refine xs_aload_n dZ_gather_48 rfl ?_
      refine xs_get dZ_gather_49 flZ_27 (by repeat (first | assumption | exact va_up_self _ _ _ | refine (va_up_ne _ _ (by omega)).trans ?_)) rfl ?_
      refine xs_icmp_ge dZ_gather_52 (fun hg => ?_) (fun hg => ?_)
      · have hje : j = (zDirs V).length := by
          have := (nI_leI (by omega) (by omega)).mp hg
          omega
        subst hje
        refine xs_iinc (L2 := [(2, _), (0, _), (1, _), (3, _)]) dZ_gather_102 rfl rfl (by decide) rfl ?_
        refine xs_goto dZ_gather_105 ?_
        refine xs_pick (L2 := [(0, _), (1, _), (2, _)]) [1, 2, 0] rfl ?_
        rw [xii]
        exact hout H Z R 0 hst (gInv_next hinv hi) hfr
      · have hjl : j < (zDirs V).length := nI_lt_of (by omega) (by omega) hg
        obtain ⟨d, hdi⟩ : ∃ d, (zDirs V)[i]? = some d := ⟨_, List.getElem?_eq_getElem hi⟩
        obtain ⟨e, hej⟩ : ∃ e, (zDirs V)[j]? = some e := ⟨_, List.getElem?_eq_getElem hjl⟩
        have hdk := hDk.2 d (List.mem_of_getElem? hdi)
        have hek := hDk.2 e (List.mem_of_getElem? hej)
        have hini := fin16 (i := i) (by omega)
        have hinj := fin16 (i := j) (by omega)
        have hfi : fd (nI i).toNatClampNeg = some (z + 5 + i) := by rw [nI_clamp (by omega)]; exact f1 i (by omega)
        have hfj : fd (nI j).toNatClampNeg = some (z + 5 + j) := by rw [nI_clamp (by omega)]; exact f1 j (by omega)
        have hdc := hdr i d hdi
        have hec := hdr j e hej
        obtain ⟨c1, c2⟩ := hcv i hi
        have hCH : cry H c V := cry_fr hC (fun k hk hk2 => hfr k (by omega))
        have hcell := cry_cell hCH
        have next : ∀ (H : xG) (Z : List P3) (R : Nat → Nat), zst H z (zDirs V) Z R → gInv (zDirs V) V.2.2.1 i (j + 1) Z R → xfr z (z + 141) G H → xS mZ_gather n 0 0 (qVx n (fun H => (∃ Z R, zst H z (zDirs V) Z R ∧ zSet (zDirs V) V.2.2.1 Z ∧ Z.length ≤ 120) ∧ xfr z (z + 141) G H)) xNo 96 [(0, .ref z), (1, .ref c), (2, .int (nI i)), (3, .int (nI j))] [] n H 0 0 := by
          intro H Z R h1 h2 h3
          refine xs_iinc (L2 := [(3, _), (0, _), (1, _), (2, _)]) dZ_gather_96 rfl rfl (by decide) rfl ?_
          refine xs_goto dZ_gather_99 ?_
          refine xs_pick (L2 := [(0, _), (1, _), (2, _), (3, _)]) [1, 2, 3, 0] rfl ?_
          rw [xii]
          exact ih i (j + 1) H Z R hi (by omega) (by omega) (by omega) h1 h2 h3 hout
        refine xs_aload_n dZ_gather_55 rfl ?_
        refine xs_get dZ_gather_56 flZ_24 (by repeat (first | assumption | exact va_up_self _ _ _ | refine (va_up_ne _ _ (by omega)).trans ?_)) rfl ?_
        refine xs_iload_n dZ_gather_59 rfl ?_
        refine xs_iald dZ_gather_60 (by repeat (first | assumption | exact va_up_self _ _ _ | refine (va_up_ne _ _ (by omega)).trans ?_)) (by assumption) ?_
        refine xs_iconst (v := 1) dZ_gather_61 (by decide) ?_
        refine xs_iload_n dZ_gather_62 rfl ?_
        refine xs_ishl dZ_gather_63 ?_
        rw [nI_clamp (by omega), c1, sh1 j (by omega)]
        refine xs_iand dZ_gather_64 ?_
        have hbit := nI_bit (m := R i) (j := j) c2 (by omega)
        refine xs_if_ne dZ_gather_65 (fun h => ?_) (fun h => ?_)
        · have h9 : (R i).testBit j = true := by
            cases hq : (R i).testBit j
            · exact absurd (hbit.mpr hq) h
            · rfl
          exact next H Z R hst (gInv_skip hinv hij hdi hej (Or.inr h9)) hfr
        have h9 := hbit.mp h
        refine xs_aload_n dZ_gather_68 rfl ?_
        refine xs_get dZ_gather_69 flZ_11 (by repeat (first | assumption | exact va_up_self _ _ _ | refine (va_up_ne _ _ (by omega)).trans ?_)) rfl ?_
        refine xs_iload_n dZ_gather_72 rfl ?_
        refine xs_ald3 dZ_gather_73 (by repeat (first | assumption | exact va_up_self _ _ _ | refine (va_up_ne _ _ (by omega)).trans ?_)) (by assumption) hfi ?_
        refine xs_aload_n dZ_gather_74 rfl ?_
        refine xs_get dZ_gather_75 flZ_11 (by repeat (first | assumption | exact va_up_self _ _ _ | refine (va_up_ne _ _ (by omega)).trans ?_)) rfl ?_
        refine xs_iload_n dZ_gather_78 rfl ?_
        refine xs_ald3 dZ_gather_79 (by repeat (first | assumption | exact va_up_self _ _ _ | refine (va_up_ne _ _ (by omega)).trans ?_)) (by assumption) hfj ?_
        refine xs_cV_i (As := [_]) dZ_gather_80 lkZ_46 (by repeat (first | assumption | exact va_up_self _ _ _ | refine (va_up_ne _ _ (by omega)).trans ?_)) (k_T_isParallelTo hdc hec) rfl rfl (Nat.le_of_ble_eq_true rfl) ⟨by decide, by decide⟩ ⟨by omega, by omega⟩ ?_
        have hp := parL (bd_mono hdk.1 (by decide)) (bd_mono hek.1 (by decide)) (p := d) (q := e)
        have hpc := par_cr hdk.2.1 hek.2.1 hdk.2.2 hek.2.2
        refine xs_if_ne dZ_gather_83 (fun h => ?_) (fun h => ?_)
        · have h8 := hpc.mpr (hp.mp (of_decide_eq_true ((bI_1n _).mp h)))
          exact next H Z R hst (gInv_skip hinv hij hdi hej (Or.inl h8)) hfr
        have h8 : cr d e ≠ (0, 0, 0) := fun q => of_decide_eq_false ((bI_0 _).mp h) (hp.mpr (hpc.mp q))
        refine xs_aload_n dZ_gather_86 rfl ?_
        refine xs_iload_n dZ_gather_87 rfl ?_
        refine xs_iload_n dZ_gather_88 rfl ?_
        refine xs_aload_n dZ_gather_89 rfl ?_
        refine xs_get dZ_gather_90 flZ_50 (by repeat (first | assumption | exact va_up_self _ _ _ | refine (va_up_ne _ _ (by omega)).trans ?_)) rfl ?_
        refine xs_cV_vx (As := [_, _, _]) dZ_gather_93 lkZ_53 (by repeat (first | assumption | exact va_up_self _ _ _ | refine (va_up_ne _ _ (by omega)).trans ?_)) (k_Z_take hst hDk (gInv_lt hinv (by omega) hij hjl) hdi hej (by have := hok.2.2.2.1; omega)) rfl rfl (Nat.le_of_ble_eq_true rfl) ⟨by decide, by decide⟩ ⟨by omega, by omega⟩ ?_
        intro H2 ⟨h1, h2⟩
        exact next H2 _ _ h1 (gInv_take hinv hij hdi hej h8 h9) (xfr_tr hfr h2)
  have outer : ∀ (m i : Nat) (H : xG) (Z : List P3) (R : Nat → Nat), (zDirs V).length - i < m → i ≤ (zDirs V).length → zst H z (zDirs V) Z R → gInv (zDirs V) V.2.2.1 i (i + 1) Z R → xfr z (z + 141) G H →
      xS mZ_gather n 0 0 (qVx n (fun H => (∃ Z R, zst H z (zDirs V) Z R ∧ zSet (zDirs V) V.2.2.1 Z ∧ Z.length ≤ 120) ∧ xfr z (z + 141) G H)) xNo 35 [(0, .ref z), (1, .ref c), (2, .int (nI i))] [] n H 0 0 := by
    intro m
    induction m with
    | zero => intro i H Z R q; exact absurd q (by omega)
    | succ m ih =>
      intro i H Z R q1 q2 hst hinv hfr
      obtain ⟨fd, fa, pa, ms, cv, hz, hdr, hax, hms, hcv⟩ := id hst
      have g0 := zlo_cell hz
      refine xs_iload_n dZ_gather_35 rfl ?_
      refine xs_aload_n dZ_gather_36 rfl ?_
      refine xs_get dZ_gather_37 flZ_27 (by repeat (first | assumption | exact va_up_self _ _ _ | refine (va_up_ne _ _ (by omega)).trans ?_)) rfl ?_
      refine xs_icmp_ge dZ_gather_40 (fun hg => ?_) (fun hg => ?_)
      · have hi := (nI_leI (by omega) (by omega)).mp hg
        exact xs_vret dZ_gather_108 rfl (by omega) (by omega) ⟨rfl, rfl, ⟨Z, R, hst, gInv_end hinv hi, hz.2.2.2.2⟩, hfr⟩
      · have hi : i < (zDirs V).length := nI_lt_of (by omega) (by omega) hg
        refine xs_iload_n dZ_gather_43 rfl ?_
        refine xs_iconst (v := 1) dZ_gather_44 (by decide) ?_
        refine xs_iadd dZ_gather_45 ?_
        refine xs_istore_n (L2 := [(3, _), (0, _), (1, _), (2, _)]) dZ_gather_46 (by decide) rfl ?_
        refine xs_pick (L2 := [(0, _), (1, _), (2, _), (3, _)]) [1, 2, 3, 0] rfl ?_
        rw [nI_1]
        exact inner ((zDirs V).length + 1) i (i + 1) H Z R hi (by omega) (by omega) (by omega) hst hinv hfr (fun H Z R _ h1 h2 h3 => ih (i + 1) H Z R (by omega) (by omega) h1 h2 h3)
  -- covered is cleared
  have clear : ∀ (m i : Nat) (H : xG) (cv : Nat → Int32), V.1.length - i < m → i ≤ V.1.length → zlo H z fd fa pa ms cv V.1.length 0 → zdr H z (zDirs V) → (∀ k, k < i → cv k = 0) → xfr z (z + 141) G H →
      xS mZ_gather n 0 0 (qVx n (fun H => (∃ Z R, zst H z (zDirs V) Z R ∧ zSet (zDirs V) V.2.2.1 Z ∧ Z.length ≤ 120) ∧ xfr z (z + 141) G H)) xNo 12 [(0, .ref z), (1, .ref c), (2, .int (nI i))] [] n H 0 0 := by
    intro m
    induction m with
    | zero => intro i H cv q; exact absurd q (by omega)
    | succ m ih =>
      intro i H cv q1 q2 hz hdr hcv hfr
      obtain ⟨⟨g0, g1, g2, g3, g4⟩, ⟨f1, f2, f3, f4⟩, ht, hn⟩ := id hz
      refine xs_iload_n dZ_gather_12 rfl ?_
      refine xs_aload_n dZ_gather_13 rfl ?_
      refine xs_get dZ_gather_14 flZ_27 (by repeat (first | assumption | exact va_up_self _ _ _ | refine (va_up_ne _ _ (by omega)).trans ?_)) rfl ?_
      refine xs_icmp_ge dZ_gather_17 (fun hg => ?_) (fun hg => ?_)
      · have hi := (nI_leI (by omega) (by omega)).mp hg
        refine xs_iconst (v := 0) dZ_gather_33 (by decide) ?_
        refine xs_istore_n (L2 := [(2, _), (0, _), (1, _)]) dZ_gather_34 (by decide) rfl ?_
        refine xs_pick (L2 := [(0, _), (1, _), (2, _)]) [1, 2, 0] rfl ?_
        refine outer ((zDirs V).length + 1) 0 H [] (fun _ => 0) (by omega) (by omega) ⟨fd, fa, pa, ms, cv, by rw [hDl]; exact hz, hdr, (fun k a h => nomatch h), (fun k a h => nomatch h), fun k hk => ⟨?_, Nat.zero_lt_succ _⟩⟩ (gInv_0 _ _ (fun _ _ => rfl)) hfr
        rw [hcv k (by omega)]
        rfl
      · have hi : i < V.1.length := nI_lt_of (by omega) (by omega) hg
        have hini := fin16 (i := i) (by omega)
        refine xs_aload_n dZ_gather_20 rfl ?_
        refine xs_get dZ_gather_21 flZ_24 (by repeat (first | assumption | exact va_up_self _ _ _ | refine (va_up_ne _ _ (by omega)).trans ?_)) rfl ?_
        refine xs_iload_n dZ_gather_24 rfl ?_
        refine xs_iconst (v := 0) dZ_gather_25 (by decide) ?_
        refine xs_iast dZ_gather_26 (by repeat (first | assumption | exact va_up_self _ _ _ | refine (va_up_ne _ _ (by omega)).trans ?_)) (by assumption) ?_
        refine xs_iinc (L2 := [(2, _), (0, _), (1, _)]) dZ_gather_27 rfl rfl (by decide) rfl ?_
        refine xs_goto dZ_gather_30 ?_
        refine xs_pick (L2 := [(0, _), (1, _), (2, _)]) [1, 2, 0] rfl ?_
        rw [xii, nI_clamp (by omega)]
        refine ih (i + 1) _ (upd cv i 0) (by omega) (by omega) ⟨⟨?_, ?_, ?_, ?_, ?_⟩, ⟨f1, f2, f3, f4⟩, fun k hk hk2 => ?_, hn⟩ (fun k x hk => ?_) (fun k hk => ?_) (xfr_up hfr (by omega) (by omega))
        · exact (by repeat (first | assumption | exact va_up_self _ _ _ | refine (va_up_ne _ _ (by omega)).trans ?_))
        · exact (by repeat (first | assumption | exact va_up_self _ _ _ | refine (va_up_ne _ _ (by omega)).trans ?_))
        · exact (by repeat (first | assumption | exact va_up_self _ _ _ | refine (va_up_ne _ _ (by omega)).trans ?_))
        · exact (by repeat (first | assumption | exact va_up_self _ _ _ | refine (va_up_ne _ _ (by omega)).trans ?_))
        · exact (by repeat (first | assumption | exact va_up_self _ _ _ | refine (va_up_ne _ _ (by omega)).trans ?_))
        · rw [va_up_ne _ _ (by omega)]
          exact ht k hk hk2
        · have hkl := (List.getElem?_eq_some_iff.mp hk).1
          rw [va_up_ne _ _ (by omega)]
          exact hdr k x hk
        · by_cases hki : k = i
          · subst hki
            rw [pk_us]
          · rw [pk_un hki]
            exact hcv k (by omega)
  have g0 := zlo_cell hZ
  refine xK_of2 (L0 := [(0, _), (1, _)]) (by decide +kernel) rfl (Nat.le_of_ble_eq_true rfl) rfl ?_
  refine xs_aload_n dZ_gather_0 rfl ?_
  refine xs_aload_n dZ_gather_1 rfl ?_
  refine xs_cV_vx (As := [_]) dZ_gather_2 lkZ_42 (by repeat (first | assumption | exact va_up_self _ _ _ | refine (va_up_ne _ _ (by omega)).trans ?_)) (k_Z_aim hZ hC hd) rfl rfl (Nat.le_of_ble_eq_true rfl) ⟨by decide, by decide⟩ ⟨by omega, by omega⟩ ?_
  intro H ⟨hz, hdr, hfr⟩
  obtain ⟨⟨g0, g1, g2, g3, g4⟩, ⟨f1, f2, f3, f4⟩, ht, hn⟩ := id hz
  refine xs_aload_n dZ_gather_5 rfl ?_
  refine xs_iconst (v := 0) dZ_gather_6 (by decide) ?_
  refine xs_put dZ_gather_7 flZ_31 ft6_5 (by repeat (first | assumption | exact va_up_self _ _ _ | refine (va_up_ne _ _ (by omega)).trans ?_)) (fun _ => rfl) (fun _ => rfl) (by simp) ?_
  refine xs_iconst (v := 0) dZ_gather_10 (by decide) ?_
  refine xs_istore_n (L2 := [(2, _), (0, _), (1, _)]) dZ_gather_11 (by decide) rfl ?_
  refine xs_pick (L2 := [(0, _), (1, _), (2, _)]) [1, 2, 0] rfl ?_
  refine clear (V.1.length + 1) 0 _ cv (by omega) (by omega) ⟨⟨?_, ?_, ?_, ?_, ?_⟩, ⟨f1, f2, f3, f4⟩, fun k hk hk2 => ?_, ⟨hN, by omega⟩⟩ (fun k x hk => ?_) (fun k hk => absurd hk (by omega)) (xfr_up hfr (by omega) (by omega))
  · rw [va_up_self]
    rfl
  · exact (by repeat (first | assumption | exact va_up_self _ _ _ | refine (va_up_ne _ _ (by omega)).trans ?_))
  · exact (by repeat (first | assumption | exact va_up_self _ _ _ | refine (va_up_ne _ _ (by omega)).trans ?_))
  · exact (by repeat (first | assumption | exact va_up_self _ _ _ | refine (va_up_ne _ _ (by omega)).trans ?_))
  · exact (by repeat (first | assumption | exact va_up_self _ _ _ | refine (va_up_ne _ _ (by omega)).trans ?_))
  · rw [va_up_ne _ _ (by omega)]
    exact ht k hk hk2
  · have hkl := (List.getElem?_eq_some_iff.mp hk).1
    rw [va_up_ne _ _ (by omega)]
    exact hdr k x hk
