/-- a zone list that is ready: directions and zones, whatever covered holds -/
def zrd (G : xG) (z : Nat) (D Z : List P3) : Prop := ∃ R, zst G z D Z R
theorem zst_fr {G H : xG} {z : Nat} {D Z : List P3} {R : Nat → Nat} (h : zst G z D Z R) (hf : ∀ k, z ≤ k → k < z + 141 → H k = G k) : zst H z D Z R := by
  obtain ⟨fd, fa, pa, ms, cv, hz, hdr, hax, hms, hcv⟩ := h
  have h3 := hz.2.1.2.2.1
  have hn := hz.2.2.2
  refine ⟨fd, fa, pa, ms, cv, zlo_fr hz hf, fun j d hj => ?_, fun k a hk => ?_, hms, hcv⟩
  · have hl := (List.getElem?_eq_some_iff.mp hj).1
    rw [hf _ (by omega) (by omega)]
    exact hdr j d hj
  · have hl := (List.getElem?_eq_some_iff.mp hk).1
    have := h3 k (by omega)
    rw [hf _ (by omega) (by omega)]
    exact hax k a hk
/-- the longest zone of a list -/
def lgs (D : List P3) : List P3 → Nat
  | [] => 0
  | a :: Z => max (pc (mem D a)) (lgs D Z)
theorem lgs_app (D : List P3) : ∀ (Z : List P3) (a : P3), lgs D (Z ++ [a]) = max (lgs D Z) (pc (mem D a))
  | [], a => by simp [lgs]
  | b :: Z, a => by
    simp only [List.cons_append, lgs, lgs_app D Z a]
    omega
theorem lgs_le (D : List P3) : ∀ (Z : List P3), lgs D Z ≤ 16
  | [] => by simp [lgs]
  | b :: Z => by
    have := lgs_le D Z
    have := pc_le (mem D b)
    simp only [lgs]
    omega
theorem nI_max {a b : Nat} (ha : a < 2 ^ 31) (hb : b < 2 ^ 31) : (if nI a < nI b then nI b else nI a) = nI (max a b) := by
  by_cases h : a < b
  · rw [if_pos ((nI_ltI ha hb).mpr h), Nat.max_eq_right (by omega)]
  · rw [if_neg (fun q => h ((nI_ltI ha hb).mp q)), Nat.max_eq_left (by omega)]
theorem k_Z_longest {n z : Nat} {G : xG} {D Z : List P3} {R : Nat → Nat} (hS : zst G z D Z R) (hL : D.length ≤ 16) : xK mZ_longest [.ref z] n G 0 0 (qI n G (nI (lgs D Z))) xNo := by
  obtain ⟨fd, fa, pa, ms, cv, hz, hdr, hax, hms, hcv⟩ := hS
  obtain ⟨⟨g0, g1, g2, g3, g4⟩, ⟨f1, f2, f3, f4⟩, ht, hn⟩ := id hz
  have loop : ∀ (m i : Nat), Z.length - i < m → i ≤ Z.length → xS mZ_longest n 0 0 (qI n G (nI (lgs D Z))) xNo 4 [(0, .ref z), (1, .int (nI (lgs D (Z.take i)))), (2, .int (nI i))] [] n G 0 0 := by
    intro m
    induction m with
    | zero => intro i q; exact absurd q (by omega)
    | succ m ih =>
      intro i q1 q2
      refine xs_iload_n dZ_longest_4 rfl ?_
      refine xs_aload_n dZ_longest_5 rfl ?_
      refine xs_get dZ_longest_6 flZ_31 (by repeat (first | assumption | exact va_up_self _ _ _ | refine (va_up_ne _ _ (by omega)).trans ?_)) rfl ?_
      refine xs_icmp_ge dZ_longest_9 (fun hg => ?_) (fun hg => ?_)
      · have hi := (nI_leI (by omega) (by omega)).mp hg
        rw [List.take_of_length_le hi]
        refine xs_iload_n dZ_longest_32 rfl ?_
        exact xs_iret dZ_longest_33 rfl rfl (by omega) (by omega) ⟨rfl, rfl, rfl⟩
      · have hi : i < Z.length := nI_lt_of (by omega) (by omega) hg
        obtain ⟨a, ha⟩ : ∃ a, Z[i]? = some a := ⟨_, List.getElem?_eq_getElem hi⟩
        have hini : vp_in (nI i) 120 := vp_in_nI (by omega) (by omega)
        have em : ms (nI i).toNatClampNeg = nI (mem D a) := by rw [nI_clamp (by omega)]; exact hms i a ha
        have hl1 := lgs_le D (Z.take i)
        have hl2 := pc_le (mem D a)
        refine xs_iload_n dZ_longest_12 rfl ?_
        refine xs_aload_n dZ_longest_13 rfl ?_
        refine xs_get dZ_longest_14 flZ_20 (by repeat (first | assumption | exact va_up_self _ _ _ | refine (va_up_ne _ _ (by omega)).trans ?_)) rfl ?_
        refine xs_iload_n dZ_longest_17 rfl ?_
        refine xs_iald dZ_longest_18 (by repeat (first | assumption | exact va_up_self _ _ _ | refine (va_up_ne _ _ (by omega)).trans ?_)) (by assumption) ?_
        rw [em]
        refine xs_cS_i (As := [_]) dZ_longest_19 lkZ_68 (k_I_bitCount (mem_lt D a hL)) rfl rfl (Nat.le_of_ble_eq_true rfl) ⟨by decide, by decide⟩ ⟨by omega, by omega⟩ ?_
        refine xs_mmax dZ_longest_22 ljZ_96 (Nat.le_of_ble_eq_true rfl) ⟨by decide, by decide⟩ ⟨by omega, by omega⟩ ?_
        rw [nI_max (by omega) (by omega), ← lgs_app, ← take_s ha]
        refine xs_istore_n (L2 := [(1, _), (0, _), (2, _)]) dZ_longest_25 (by decide) rfl ?_
        refine xs_iinc (L2 := [(2, _), (1, _), (0, _)]) dZ_longest_26 rfl rfl (by decide) rfl ?_
        refine xs_goto dZ_longest_29 ?_
        refine xs_pick (L2 := [(0, _), (1, _), (2, _)]) [2, 1, 0] rfl ?_
        rw [xii]
        exact ih (i + 1) (by omega) (by omega)
  refine xK_of2 (L0 := [(0, _)]) (by decide +kernel) rfl (Nat.le_of_ble_eq_true rfl) rfl ?_
  refine xs_iconst (v := 0) dZ_longest_0 (by decide) ?_
  refine xs_istore_n (L2 := [(1, _), (0, _)]) dZ_longest_1 (by decide) rfl ?_
  refine xs_iconst (v := 0) dZ_longest_2 (by decide) ?_
  refine xs_istore_n (L2 := [(2, _), (1, _), (0, _)]) dZ_longest_3 (by decide) rfl ?_
  refine xs_pick (L2 := [(0, _), (1, _), (2, _)]) [2, 1, 0] rfl ?_
  exact loop (Z.length + 1) 0 (by omega) (by omega)
/-- in how many zones a face lies -/
def thr (D Z : List P3) (i : Nat) : Nat := Z.countP (fun a => inz D a i)
theorem k_Z_countThrough {n z i : Nat} {G : xG} {D Z : List P3} {R : Nat → Nat} (hS : zst G z D Z R) (hL : D.length ≤ 16) (hi : i < D.length) : xK mZ_countThrough [.ref z, .int (nI i)] n G 0 0 (qI n G (nI (thr D Z i))) xNo := by
  obtain ⟨fd, fa, pa, ms, cv, hz, hdr, hax, hms, hcv⟩ := hS
  obtain ⟨⟨g0, g1, g2, g3, g4⟩, ⟨f1, f2, f3, f4⟩, ht, hn⟩ := id hz
  have loop : ∀ (m k : Nat), Z.length - k < m → k ≤ Z.length → xS mZ_countThrough n 0 0 (qI n G (nI (thr D Z i))) xNo 4 [(0, .ref z), (1, .int (nI i)), (2, .int (nI ((Z.take k).countP (fun a => inz D a i)))), (3, .int (nI k))] [] n G 0 0 := by
    intro m
    induction m with
    | zero => intro k q; exact absurd q (by omega)
    | succ m ih =>
      intro k q1 q2
      refine xs_iload_n dZ_countThrough_4 rfl ?_
      refine xs_aload_n dZ_countThrough_5 rfl ?_
      refine xs_get dZ_countThrough_6 flZ_31 (by repeat (first | assumption | exact va_up_self _ _ _ | refine (va_up_ne _ _ (by omega)).trans ?_)) rfl ?_
      refine xs_icmp_ge dZ_countThrough_9 (fun hg => ?_) (fun hg => ?_)
      · have hk := (nI_leI (by omega) (by omega)).mp hg
        rw [List.take_of_length_le hk]
        refine xs_iload_n dZ_countThrough_34 rfl ?_
        exact xs_iret dZ_countThrough_35 rfl rfl (by omega) (by omega) ⟨rfl, rfl, rfl⟩
      · have hk : k < Z.length := nI_lt_of (by omega) (by omega) hg
        obtain ⟨a, ha⟩ : ∃ a, Z[k]? = some a := ⟨_, List.getElem?_eq_getElem hk⟩
        have hink : vp_in (nI k) 120 := vp_in_nI (by omega) (by omega)
        have em : ms (nI k).toNatClampNeg = nI (mem D a) := by rw [nI_clamp (by omega)]; exact hms k a ha
        have htk := take_s ha
        have hbit := nI_bit (m := mem D a) (j := i) (mem_lt D a hL) (by omega)
        have hmb : (mem D a).testBit i = inz D a i := by rw [mem, mk_bit, decide_eq_true hi, Bool.true_and]
        rw [hmb] at hbit
        refine xs_aload_n dZ_countThrough_12 rfl ?_
        refine xs_get dZ_countThrough_13 flZ_20 (by repeat (first | assumption | exact va_up_self _ _ _ | refine (va_up_ne _ _ (by omega)).trans ?_)) rfl ?_
        refine xs_iload_n dZ_countThrough_16 rfl ?_
        refine xs_iald dZ_countThrough_17 (by repeat (first | assumption | exact va_up_self _ _ _ | refine (va_up_ne _ _ (by omega)).trans ?_)) (by assumption) ?_
        refine xs_iconst (v := 1) dZ_countThrough_18 (by decide) ?_
        refine xs_iload_n dZ_countThrough_19 rfl ?_
        refine xs_ishl dZ_countThrough_20 ?_
        rw [em, sh1 i (by omega)]
        refine xs_iand dZ_countThrough_21 ?_
        refine xs_if_eq dZ_countThrough_22 (fun h => ?_) (fun h => ?_)
        · have h9 := hbit.mp h
          refine xs_iinc (L2 := [(3, _), (0, _), (1, _), (2, _)]) dZ_countThrough_28 rfl rfl (by decide) rfl ?_
          refine xs_goto dZ_countThrough_31 ?_
          refine xs_pick (L2 := [(0, _), (1, _), (2, _), (3, _)]) [1, 2, 3, 0] rfl ?_
          have := ih (k + 1) (by omega) (by omega)
          rw [htk, List.countP_append, List.countP_singleton, h9] at this
          rw [xii]
          exact this
        · have h9 : inz D a i = true := by
            cases hq : inz D a i
            · exact absurd (hbit.mpr hq) h
            · rfl
          refine xs_iinc (L2 := [(2, _), (0, _), (1, _), (3, _)]) dZ_countThrough_25 rfl rfl (by decide) rfl ?_
          refine xs_iinc (L2 := [(3, _), (2, _), (0, _), (1, _)]) dZ_countThrough_28 rfl rfl (by decide) rfl ?_
          refine xs_goto dZ_countThrough_31 ?_
          refine xs_pick (L2 := [(0, _), (1, _), (2, _), (3, _)]) [2, 3, 1, 0] rfl ?_
          have := ih (k + 1) (by omega) (by omega)
          rw [htk, List.countP_append, List.countP_singleton, h9] at this
          rw [xii, xii]
          exact this
  refine xK_of2 (L0 := [(0, _), (1, _)]) (by decide +kernel) rfl (Nat.le_of_ble_eq_true rfl) rfl ?_
  refine xs_iconst (v := 0) dZ_countThrough_0 (by decide) ?_
  refine xs_istore_n (L2 := [(2, _), (0, _), (1, _)]) dZ_countThrough_1 (by decide) rfl ?_
  refine xs_iconst (v := 0) dZ_countThrough_2 (by decide) ?_
  refine xs_istore_n (L2 := [(3, _), (2, _), (0, _), (1, _)]) dZ_countThrough_3 (by decide) rfl ?_
  refine xs_pick (L2 := [(0, _), (1, _), (2, _), (3, _)]) [2, 3, 1, 0] rfl ?_
  exact loop (Z.length + 1) 0 (by omega) (by omega)
/-- the first of the directions that is parallel -/
def fpl (D : List P3) (a : P3) (r : Option Nat) : Prop := match r with
  | none => ∀ (j : Nat) (d : P3), D[j]? = some d → ¬ par d a
  | some i => (∃ d, D[i]? = some d ∧ par d a) ∧ ∀ (j : Nat) (d : P3), j < i → D[j]? = some d → ¬ par d a
def rN (r : Option Nat) : Int32 := match r with
  | none => -99999
  | some i => nI i
theorem parL2 {p q : P3} {B : Nat} (hB : B ≤ 4000000000000) (hp : bd B p) (hq : bd B q) : ((iL p.1 = iL q.1 ∧ iL p.2.1 = iL q.2.1 ∧ iL p.2.2 = iL q.2.2) ∨ (iL p.1 = -iL q.1 ∧ iL p.2.1 = -iL q.2.1 ∧ iL p.2.2 = -iL q.2.2)) ↔ par p q := by
  obtain ⟨p1, p2, p3⟩ := p
  obtain ⟨q1, q2, q3⟩ := q
  obtain ⟨a1, a2, a3⟩ := hp
  obtain ⟨b1, b2, b3⟩ := hq
  simp only at a1 a2 a3 b1 b2 b3 ⊢
  rw [iL_neg, iL_neg, iL_neg, iL_eq (by omega) (by omega), iL_eq (by omega) (by omega), iL_eq (by omega) (by omega), iL_eq (by omega) (by omega), iL_eq (by omega) (by omega), iL_eq (by omega) (by omega)]
  simp only [par, ng, Prod.mk.injEq]
theorem k_Z_firstParallelTo {n z t : Nat} {G : xG} {D : List P3} {a : P3} {fd fa : Nat → Option Nat} {pa : Nat → Nat} {ms cv : Nat → Int32} {cnt : Nat} (hz : zlo G z fd fa pa ms cv D.length cnt) (hdr : zdr G z D) (hok : dOk D) (hT : G t = xTp a) (ha : bd 4000000000000 a) :
    xK mZ_firstParallelTo [.ref z, .ref t] n G 0 0 (qIx n (fun r H => (∃ o, r = rN o ∧ fpl D a o) ∧ H = G)) xNo := by
  obtain ⟨⟨g0, g1, g2, g3, g4⟩, ⟨f1, f2, f3, f4⟩, ht, hn⟩ := id hz
  have hL := hok.1
  have loop : ∀ (m i : Nat), D.length - i < m → i ≤ D.length → (∀ j d, j < i → D[j]? = some d → ¬ par d a) → xS mZ_firstParallelTo n 0 0 (qIx n (fun r H => (∃ o, r = rN o ∧ fpl D a o) ∧ H = G)) xNo 2 [(0, .ref z), (1, .ref t), (2, .int (nI i))] [] n G 0 0 := by
    intro m
    induction m with
    | zero => intro i q; exact absurd q (by omega)
    | succ m ih =>
      intro i q1 q2 q3
      refine xs_iload_n dZ_firstParallelTo_2 rfl ?_
      refine xs_aload_n dZ_firstParallelTo_3 rfl ?_
      refine xs_get dZ_firstParallelTo_4 flZ_27 (by repeat (first | assumption | exact va_up_self _ _ _ | refine (va_up_ne _ _ (by omega)).trans ?_)) rfl ?_
      refine xs_icmp_ge dZ_firstParallelTo_7 (fun hg => ?_) (fun hg => ?_)
      · have hi := (nI_leI (by omega) (by omega)).mp hg
        refine xs_ldc dZ_firstParallelTo_31 kcZ_102 ?_
        exact xs_iret dZ_firstParallelTo_33 rfl rfl (by omega) (by omega) ⟨_, rfl, rfl, ⟨none, rfl, fun j d hj => q3 j d (by have := (List.getElem?_eq_some_iff.mp hj).1; omega) hj⟩, rfl⟩
      · have hi : i < D.length := nI_lt_of (by omega) (by omega) hg
        obtain ⟨d, hd⟩ : ∃ d, D[i]? = some d := ⟨_, List.getElem?_eq_getElem hi⟩
        have hdk := hok.2 d (List.mem_of_getElem? hd)
        have hini := fin16 (i := i) (by omega)
        have hfi : fd (nI i).toNatClampNeg = some (z + 5 + i) := by rw [nI_clamp (by omega)]; exact f1 i (by omega)
        have hdc := hdr i d hd
        have hp := parL2 (Nat.le_refl _) (bd_mono hdk.1 (by decide)) ha (p := d) (q := a)
        refine xs_aload_n dZ_firstParallelTo_10 rfl ?_
        refine xs_get dZ_firstParallelTo_11 flZ_11 (by repeat (first | assumption | exact va_up_self _ _ _ | refine (va_up_ne _ _ (by omega)).trans ?_)) rfl ?_
        refine xs_iload_n dZ_firstParallelTo_14 rfl ?_
        refine xs_ald3 dZ_firstParallelTo_15 (by repeat (first | assumption | exact va_up_self _ _ _ | refine (va_up_ne _ _ (by omega)).trans ?_)) (by assumption) hfi ?_
        refine xs_aload_n dZ_firstParallelTo_16 rfl ?_
        refine xs_cV_i (As := [_]) dZ_firstParallelTo_17 lkZ_46 (by repeat (first | assumption | exact va_up_self _ _ _ | refine (va_up_ne _ _ (by omega)).trans ?_)) (k_T_isParallelTo hdc hT) rfl rfl (Nat.le_of_ble_eq_true rfl) ⟨by decide, by decide⟩ ⟨by omega, by omega⟩ ?_
        refine xs_if_eq dZ_firstParallelTo_20 (fun h => ?_) (fun h => ?_)
        · have h9 : ¬ par d a := fun q => of_decide_eq_false ((bI_0 _).mp h) (hp.mpr q)
          refine xs_iinc (L2 := [(2, _), (0, _), (1, _)]) dZ_firstParallelTo_25 rfl rfl (by decide) rfl ?_
          refine xs_goto dZ_firstParallelTo_28 ?_
          refine xs_pick (L2 := [(0, _), (1, _), (2, _)]) [1, 2, 0] rfl ?_
          rw [xii]
          refine ih (i + 1) (by omega) (by omega) (fun j w hj hw => ?_)
          by_cases hji : j = i
          · subst hji
            cases hd.symm.trans hw
            exact h9
          · exact q3 j w (by omega) hw
        · have h9 : par d a := hp.mp (of_decide_eq_true ((bI_1n _).mp h))
          refine xs_iload_n dZ_firstParallelTo_23 rfl ?_
          exact xs_iret dZ_firstParallelTo_24 rfl rfl (by omega) (by omega) ⟨_, rfl, rfl, ⟨some i, rfl, ⟨d, hd, h9⟩, q3⟩, rfl⟩
  refine xK_of2 (L0 := [(0, _), (1, _)]) (by decide +kernel) rfl (Nat.le_of_ble_eq_true rfl) rfl ?_
  refine xs_iconst (v := 0) dZ_firstParallelTo_0 (by decide) ?_
  refine xs_istore_n (L2 := [(2, _), (0, _), (1, _)]) dZ_firstParallelTo_1 (by decide) rfl ?_
  refine xs_pick (L2 := [(0, _), (1, _), (2, _)]) [1, 2, 0] rfl ?_
  exact loop (D.length + 1) 0 (by omega) (by omega) (fun j d hj => absurd hj (by omega))
