/-! growth: the 49 small normalized directions -/
def isN (p : P3) : Bool := lp p && decide (g3 p = 1)
def gat (k : Nat) : P3 := (((k / 25 : Nat) : Int) - 2, ((k / 5 % 5 : Nat) : Int) - 2, ((k % 5 : Nat) : Int) - 2)
def gsk (k : Nat) : List P3 := ((List.range k).map gat).filter isN
def gsm : List P3 := gsk 125
theorem gsk_s (k : Nat) : gsk (k + 1) = gsk k ++ (if isN (gat k) = true then [gat k] else []) := by
  unfold gsk
  rw [List.range_succ, List.map_append, List.filter_append, List.map_singleton]
  congr 1
  simp only [List.filter_cons, List.filter_nil]
set_option maxRecDepth 100000 in
theorem gsm_len : gsm.length = 49 := by decide +kernel
theorem gsk_room {k : Nat} (hk : k < 125) (h : isN (gat k) = true) : (gsk k).length < 49 := by
  have h1 : gsm = gsk k ++ ([gat k] ++ ((List.range' (k + 1) (124 - k)).map gat).filter isN) := by
    have h2 : List.range 125 = List.range k ++ ([k] ++ List.range' (k + 1) (124 - k)) := by
      have e : 125 = k + (1 + (124 - k)) := by omega
      rw [List.range_eq_range', List.range_eq_range']
      conv => lhs; rw [e]
      rw [← List.range'_append_1, ← List.range'_append_1]
      simp
    unfold gsm gsk
    rw [h2, List.map_append, List.map_append, List.filter_append, List.filter_append]
    simp [h]
  have h2 := gsm_len
  rw [h1, List.length_append, List.length_append, List.length_singleton] at h2
  omega
theorem gsm_ok : ∀ p ∈ gsm, bd 3 p ∧ p ≠ (0, 0, 0) ∧ lp p = true ∧ g3 p = 1 := by
  intro p hp
  obtain ⟨h1, h2⟩ := List.mem_filter.mp hp
  obtain ⟨k, hk, rfl⟩ := List.mem_map.mp h1
  have hk := List.mem_range.mp hk
  simp only [isN, Bool.and_eq_true, decide_eq_true_eq] at h2
  refine ⟨⟨?_, ?_, ?_⟩, fun e => ?_, h2.1, h2.2⟩
  · show (((k / 25 : Nat) : Int) - 2).natAbs < 3
    omega
  · show (((k / 5 % 5 : Nat) : Int) - 2).natAbs < 3
    omega
  · show (((k % 5 : Nat) : Int) - 2).natAbs < 3
    omega
  · rw [e] at h2
    exact absurd h2.2 (by decide)
theorem gat_of {p : P3} (h : bd 3 p) : ∃ k, k < 125 ∧ gat k = p := by
  obtain ⟨a, b, c⟩ := p
  obtain ⟨h1, h2, h3⟩ := h
  simp only at h1 h2 h3
  refine ⟨25 * (a + 2).toNat + (5 * (b + 2).toNat + (c + 2).toNat), by omega, ?_⟩
  simp only [gat, Prod.mk.injEq]
  omega
theorem gsm_in {p : P3} (h : bd 3 p) (h1 : lp p = true) (h2 : g3 p = 1) : ∃ j, j < 49 ∧ gsm[j]? = some p := by
  obtain ⟨k, hk, rfl⟩ := gat_of h
  have hm : gat k ∈ gsm := List.mem_filter.mpr ⟨List.mem_map.mpr ⟨k, List.mem_range.mpr hk, rfl⟩, by simp [isN, h1, h2]⟩
  obtain ⟨j, hj⟩ := List.getElem?_of_mem hm
  exact ⟨j, by have := (List.getElem?_eq_some_iff.mp hj).1; rw [gsm_len] at this; exact this, hj⟩
set_option maxRecDepth 100000 in
theorem gsm_nodup : gsm.Nodup := by decide +kernel
/-- the growth's cells: all of it, by rows -/
def grl (G : xG) (g : Nat) (fs fz : Nat → Option Nat) (fi zn : Nat → Int32) : Prop :=
  (G g = .inr (3, [.ref (g + 1), .ref (g + 2), .ref (g + 3), .ref (g + 4), .ref (g + 5)]) ∧ G (g + 1) = .inl (3, 49, .inr (.inr (.inr (.inr fs)))) ∧ G (g + 2) = .inl (2, 49, .inl fi) ∧ G (g + 3) = .inl (3, 49, .inr (.inr (.inr (.inr fz)))) ∧ G (g + 4) = .inl (0, 49, .inl zn)) ∧
  (∃ x y z, G (g + 5) = xT x y z) ∧ (∀ j, j < 49 → fs j = some (g + 6 + 2 * j)) ∧ (∀ j, j < 49 → fz j = some (g + 7 + 2 * j)) ∧ (∀ j p, gsm[j]? = some p → G (g + 6 + 2 * j) = xTp p) ∧ (∀ j, j < 49 → ∃ x y z, G (g + 7 + 2 * j) = xT x y z)
def gro (G : xG) (g : Nat) (I : Nat → Bool) : Prop := ∃ (fs fz : Nat → Option Nat) (fi zn : Nat → Int32), grl G g fs fz fi zn ∧ ∀ j, j < 49 → fi j = bI (I j)
theorem grl_fr {G H : xG} {g : Nat} {fs fz : Nat → Option Nat} {fi zn : Nat → Int32} (h : grl G g fs fz fi zn) (hf : ∀ k, g ≤ k → k < g + 104 → H k = G k) : grl H g fs fz fi zn := by
  obtain ⟨⟨g0, g1, g2, g3, g4⟩, ⟨x, y, z, g5⟩, h1, h2, h3, h4⟩ := h
  refine ⟨⟨?_, ?_, ?_, ?_, ?_⟩, ⟨x, y, z, ?_⟩, h1, h2, fun j p hj => ?_, fun j hj => ?_⟩
  · rw [hf _ (by omega) (by omega)]; exact g0
  · rw [hf _ (by omega) (by omega)]; exact g1
  · rw [hf _ (by omega) (by omega)]; exact g2
  · rw [hf _ (by omega) (by omega)]; exact g3
  · rw [hf _ (by omega) (by omega)]; exact g4
  · rw [hf _ (by omega) (by omega)]; exact g5
  · have hjl := (List.getElem?_eq_some_iff.mp hj).1
    rw [gsm_len] at hjl
    rw [hf _ (by omega) (by omega)]; exact h3 j p hj
  · rw [hf _ (by omega) (by omega)]; exact h4 j hj
theorem gro_fr {G H : xG} {g : Nat} {I : Nat → Bool} (h : gro G g I) (hf : ∀ k, g ≤ k → k < g + 104 → H k = G k) : gro H g I := by
  obtain ⟨fs, fz, fi, zn, h1, h2⟩ := h
  exact ⟨fs, fz, fi, zn, grl_fr h1 hf, h2⟩
theorem grl_line {G : xG} {g : Nat} {fs fz : Nat → Option Nat} {fi zn : Nat → Int32} {x y z : Int64} (h : grl G g fs fz fi zn) : grl (va_up G (g + 5) (xT x y z)) g fs fz fi zn := by
  obtain ⟨⟨g0, g1, g2, g3, g4⟩, g5, h1, h2, h3, h4⟩ := h
  refine ⟨⟨(by repeat (first | assumption | exact va_up_self _ _ _ | refine (va_up_ne _ _ (by omega)).trans ?_)), (by repeat (first | assumption | exact va_up_self _ _ _ | refine (va_up_ne _ _ (by omega)).trans ?_)), (by repeat (first | assumption | exact va_up_self _ _ _ | refine (va_up_ne _ _ (by omega)).trans ?_)), (by repeat (first | assumption | exact va_up_self _ _ _ | refine (va_up_ne _ _ (by omega)).trans ?_)), (by repeat (first | assumption | exact va_up_self _ _ _ | refine (va_up_ne _ _ (by omega)).trans ?_))⟩, ⟨x, y, z, va_up_self _ _ _⟩, h1, h2, fun j p hj => ?_, fun j hj => ?_⟩
  · rw [va_up_ne _ _ (by omega)]
    exact h3 j p hj
  · rw [va_up_ne _ _ (by omega)]
    exact h4 j hj
theorem grl_zn {G : xG} {g : Nat} {fs fz : Nat → Option Nat} {fi zn zn2 : Nat → Int32} (h : grl G g fs fz fi zn) : grl (va_up G (g + 4) (.inl (0, 49, .inl zn2))) g fs fz fi zn2 := by
  obtain ⟨⟨g0, g1, g2, g3, g4⟩, ⟨x, y, z, g5⟩, h1, h2, h3, h4⟩ := h
  refine ⟨⟨(by repeat (first | assumption | exact va_up_self _ _ _ | refine (va_up_ne _ _ (by omega)).trans ?_)), (by repeat (first | assumption | exact va_up_self _ _ _ | refine (va_up_ne _ _ (by omega)).trans ?_)), (by repeat (first | assumption | exact va_up_self _ _ _ | refine (va_up_ne _ _ (by omega)).trans ?_)), (by repeat (first | assumption | exact va_up_self _ _ _ | refine (va_up_ne _ _ (by omega)).trans ?_)), va_up_self _ _ _⟩, ⟨x, y, z, (by repeat (first | assumption | exact va_up_self _ _ _ | refine (va_up_ne _ _ (by omega)).trans ?_))⟩, h1, h2, fun j p hj => ?_, fun j hj => ?_⟩
  · rw [va_up_ne _ _ (by omega)]
    exact h3 j p hj
  · rw [va_up_ne _ _ (by omega)]
    exact h4 j hj
theorem grl_fi {G : xG} {g : Nat} {fs fz : Nat → Option Nat} {fi zn fi2 : Nat → Int32} (h : grl G g fs fz fi zn) : grl (va_up G (g + 2) (.inl (2, 49, .inl fi2))) g fs fz fi2 zn := by
  obtain ⟨⟨g0, g1, g2, g3, g4⟩, ⟨x, y, z, g5⟩, h1, h2, h3, h4⟩ := h
  refine ⟨⟨(by repeat (first | assumption | exact va_up_self _ _ _ | refine (va_up_ne _ _ (by omega)).trans ?_)), (by repeat (first | assumption | exact va_up_self _ _ _ | refine (va_up_ne _ _ (by omega)).trans ?_)), va_up_self _ _ _, (by repeat (first | assumption | exact va_up_self _ _ _ | refine (va_up_ne _ _ (by omega)).trans ?_)), (by repeat (first | assumption | exact va_up_self _ _ _ | refine (va_up_ne _ _ (by omega)).trans ?_))⟩, ⟨x, y, z, (by repeat (first | assumption | exact va_up_self _ _ _ | refine (va_up_ne _ _ (by omega)).trans ?_))⟩, h1, h2, fun j p hj => ?_, fun j hj => ?_⟩
  · rw [va_up_ne _ _ (by omega)]
    exact h3 j p hj
  · rw [va_up_ne _ _ (by omega)]
    exact h4 j hj
theorem grl_fz {G : xG} {g i : Nat} {fs fz : Nat → Option Nat} {fi zn : Nat → Int32} {x y z : Int64} (h : grl G g fs fz fi zn) : grl (va_up G (g + 7 + 2 * i) (xT x y z)) g fs fz fi zn := by
  obtain ⟨⟨g0, g1, g2, g3, g4⟩, ⟨x1, y1, z1, g5⟩, h1, h2, h3, h4⟩ := h
  refine ⟨⟨(by repeat (first | assumption | exact va_up_self _ _ _ | refine (va_up_ne _ _ (by omega)).trans ?_)), (by repeat (first | assumption | exact va_up_self _ _ _ | refine (va_up_ne _ _ (by omega)).trans ?_)), (by repeat (first | assumption | exact va_up_self _ _ _ | refine (va_up_ne _ _ (by omega)).trans ?_)), (by repeat (first | assumption | exact va_up_self _ _ _ | refine (va_up_ne _ _ (by omega)).trans ?_)), (by repeat (first | assumption | exact va_up_self _ _ _ | refine (va_up_ne _ _ (by omega)).trans ?_))⟩, ⟨x1, y1, z1, (by repeat (first | assumption | exact va_up_self _ _ _ | refine (va_up_ne _ _ (by omega)).trans ?_))⟩, h1, h2, fun j p hj => ?_, fun j hj => ?_⟩
  · rw [va_up_ne _ _ (by omega)]
    exact h3 j p hj
  · by_cases hji : j = i
    · subst hji
      exact ⟨x, y, z, va_up_self _ _ _⟩
    · rw [va_up_ne _ _ (by omega)]
      exact h4 j hj
theorem fin49 {i : Nat} (h : i < 49) : vp_in (nI i) 49 := vp_in_nI h (by omega)
theorem vnar_b (b : Bool) : vp_nar .boolean (bI b) = bI b := by cases b <;> decide
def gcnt (I : Nat → Bool) (i : Nat) : Nat := (List.range i).countP I
theorem gcnt_s (I : Nat → Bool) (i : Nat) : gcnt I (i + 1) = gcnt I i + (if I i = true then 1 else 0) := by
  unfold gcnt
  rw [List.range_succ, List.countP_append, List.countP_singleton]
theorem gcnt_le (I : Nat → Bool) (i : Nat) : gcnt I i ≤ i := by
  have := List.countP_le_length (p := I) (l := List.range i)
  rw [List.length_range] at this
  exact this
theorem k_G_size {n g : Nat} {G : xG} {I : Nat → Bool} (hG : gro G g I) : xK mG_size [.ref g] n G 0 0 (qI n G (nI (gcnt I 49))) xNo := by
  obtain ⟨fs, fz, fi, zn, ⟨⟨g0, g1, g2, g3, g4⟩, ⟨x, y, z, g5⟩, h1, h2, h3, h4⟩, hI⟩ := id hG
  have loop : ∀ (m i : Nat), 49 - i < m → i ≤ 49 → xS mG_size n 0 0 (qI n G (nI (gcnt I 49))) xNo 4 [(0, .ref g), (1, .int (nI (gcnt I i))), (2, .int (nI i))] [] n G 0 0 := by
    intro m
    induction m with
    | zero => intro i q; exact absurd q (by omega)
    | succ m ih =>
      intro i q1 q2
      refine xs_iload_n dG_size_4 rfl ?_
      refine xs_bipush (v := 49) dG_size_5 (by decide) ?_
      refine xs_icmp_ge dG_size_7 (fun hg => ?_) (fun hg => ?_)
      · have hi : i = 49 := by
          have := (nI_leI (a := 49) (by omega) (by omega)).mp hg
          omega
        subst hi
        refine xs_iload_n dG_size_28 rfl ?_
        exact xs_iret dG_size_29 rfl rfl (by omega) (by omega) ⟨rfl, rfl, rfl⟩
      · have hi : i < 49 := nI_lt_of (b := 49) (by omega) (by omega) hg
        have hin := fin49 hi
        have hv : fi (nI i).toNatClampNeg = bI (I i) := by rw [nI_clamp (by omega)]; exact hI i hi
        refine xs_aload_n dG_size_10 rfl ?_
        refine xs_get dG_size_11 flG_17 (by repeat (first | assumption | exact va_up_self _ _ _ | refine (va_up_ne _ _ (by omega)).trans ?_)) rfl ?_
        refine xs_iload_n dG_size_14 rfl ?_
        refine xs_zald dG_size_15 (by repeat (first | assumption | exact va_up_self _ _ _ | refine (va_up_ne _ _ (by omega)).trans ?_)) (by assumption) ?_
        rw [hv]
        refine xs_if_eq dG_size_16 (fun h => ?_) (fun h => ?_)
        · have h9 := (bI_0 _).mp h
          have hs : gcnt I (i + 1) = gcnt I i := by rw [gcnt_s, h9]; rfl
          refine xs_iinc (L2 := [(2, _), (0, _), (1, _)]) dG_size_22 rfl rfl (by decide) rfl ?_
          refine xs_goto dG_size_25 ?_
          refine xs_pick (L2 := [(0, _), (1, _), (2, _)]) [1, 2, 0] rfl ?_
          rw [xii, ← hs]
          exact ih (i + 1) (by omega) (by omega)
        · have h9 := (bI_1n _).mp h
          have hs : gcnt I (i + 1) = gcnt I i + 1 := by rw [gcnt_s, h9]; rfl
          refine xs_iinc (L2 := [(1, _), (0, _), (2, _)]) dG_size_19 rfl rfl (by decide) rfl ?_
          refine xs_iinc (L2 := [(2, _), (1, _), (0, _)]) dG_size_22 rfl rfl (by decide) rfl ?_
          refine xs_goto dG_size_25 ?_
          refine xs_pick (L2 := [(0, _), (1, _), (2, _)]) [2, 1, 0] rfl ?_
          rw [xii, xii, ← hs]
          exact ih (i + 1) (by omega) (by omega)
  refine xK_of2 (L0 := [(0, _)]) (by decide +kernel) rfl (Nat.le_of_ble_eq_true rfl) rfl ?_
  refine xs_iconst (v := 0) dG_size_0 (by decide) ?_
  refine xs_istore_n (L2 := [(1, _), (0, _)]) dG_size_1 (by decide) rfl ?_
  refine xs_iconst (v := 0) dG_size_2 (by decide) ?_
  refine xs_istore_n (L2 := [(2, _), (1, _), (0, _)]) dG_size_3 (by decide) rfl ?_
  refine xs_pick (L2 := [(0, _), (1, _), (2, _)]) [2, 1, 0] rfl ?_
  exact loop 50 0 (by omega) (by omega)
