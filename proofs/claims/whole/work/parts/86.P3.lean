/-- what pairs of a list cross to, the pairs up to (i, j) -/
def prp (L : List P3) (i j : Nat) (l : P3) : Prop := ∃ i2 j2 a c, j2 < i2 ∧ (i2 < i ∨ (i2 = i ∧ j2 < j)) ∧ L[i2]? = some a ∧ L[j2]? = some c ∧ l = nz (cr a c)
theorem prp_s {L : List P3} {i j : Nat} {a c : P3} (hij : j < i) (ha : L[i]? = some a) (hc : L[j]? = some c) (l : P3) : prp L i (j + 1) l ↔ (prp L i j l ∨ l = nz (cr a c)) := by
  constructor
  · rintro ⟨i2, j2, a2, c2, h1, h2, h3, h4, h5⟩
    by_cases e : i2 = i ∧ j2 = j
    · obtain ⟨rfl, rfl⟩ := e
      cases ha.symm.trans h3
      cases hc.symm.trans h4
      exact Or.inr h5
    · exact Or.inl ⟨i2, j2, a2, c2, h1, by omega, h3, h4, h5⟩
  · rintro (⟨i2, j2, a2, c2, h1, h2, h3⟩ | rfl)
    · exact ⟨i2, j2, a2, c2, h1, by omega, h3⟩
    · exact ⟨i, j, a, c, hij, Or.inr ⟨rfl, by omega⟩, ha, hc, rfl⟩
theorem prp_e {L : List P3} {i : Nat} (l : P3) : prp L i i l ↔ prp L (i + 1) 0 l := by
  constructor
  · rintro ⟨i2, j2, a2, c2, h1, h2, h3⟩
    exact ⟨i2, j2, a2, c2, h1, Or.inl (by omega), h3⟩
  · rintro ⟨i2, j2, a2, c2, h1, h2, h3⟩
    exact ⟨i2, j2, a2, c2, h1, by omega, h3⟩
theorem prp_0 {L : List P3} (l : P3) : ¬ prp L 0 0 l := by
  rintro ⟨i2, j2, a2, c2, h1, h2, h3⟩
  omega
theorem prp_all {L : List P3} (hn : L.Nodup) (hL : ∀ a ∈ L, lp a = true ∧ g3 a = 1) (l : P3) : prp L L.length 0 l ↔ ∃ a c, a ∈ L ∧ c ∈ L ∧ a ≠ c ∧ l = nz (cr a c) := by
  constructor
  · rintro ⟨i2, j2, a, c, h1, h2, h3, h4, h5⟩
    refine ⟨a, c, List.mem_of_getElem? h3, List.mem_of_getElem? h4, fun e => ?_, h5⟩
    subst e
    have := injL_of hn i2 j2 a h3 h4
    omega
  · rintro ⟨a, c, h1, h2, h3, rfl⟩
    obtain ⟨i, hi⟩ := List.getElem?_of_mem h1
    obtain ⟨j, hj⟩ := List.getElem?_of_mem h2
    have li := (List.getElem?_eq_some_iff.mp hi).1
    have lj := (List.getElem?_eq_some_iff.mp hj).1
    have hij : i ≠ j := fun e => by
      subst e
      cases hi.symm.trans hj
      exact h3 rfl
    rcases (show j < i ∨ i < j by omega) with e | e
    · exact ⟨i, j, a, c, e, Or.inl li, hi, hj, rfl⟩
    · exact ⟨j, i, c, a, e, Or.inl lj, hj, hi, (nz_swap (norm_ne (hL a h1).1 (hL a h1).2 (hL c h2).1 (hL c h2).2 h3)).symm⟩
theorem inj_map {f : Nat → P3} (hf : ∀ j k, f j = f k → j = k) {L : List Nat} (hn : L.Nodup) : (L.map f).Nodup := by
  induction L with
  | nil => exact List.nodup_nil
  | cons x L ih =>
    obtain ⟨h1, h2⟩ := List.nodup_cons.mp hn
    rw [List.map_cons]
    refine List.nodup_cons.mpr ⟨fun h => ?_, ih h2⟩
    obtain ⟨y, hy, e⟩ := List.mem_map.mp h
    exact h1 (hf _ _ e ▸ hy)
theorem cr_bd9 {a c : P3} (ha : bd 3 a) (hc : bd 3 c) : bd 9 (cr a c) := by
  obtain ⟨a1, a2, a3⟩ := a
  obtain ⟨c1, c2, c3⟩ := c
  obtain ⟨x1, x2, x3⟩ := ha
  obtain ⟨y1, y2, y3⟩ := hc
  simp only at x1 x2 x3 y1 y2 y3
  have f : ∀ x y : Int, x.natAbs < 3 → y.natAbs < 3 → (x * y).natAbs ≤ 2 * 2 := fun x y hx hy => mulb (by omega) (by omega)
  have t1 := f a2 c3 x2 y3
  have t2 := f a3 c2 x3 y2
  have t3 := f a3 c1 x3 y1
  have t4 := f a1 c3 x1 y3
  have t5 := f a1 c2 x1 y2
  have t6 := f a2 c1 x2 y1
  refine ⟨?_, ?_, ?_⟩ <;> simp only [cr] <;> omega
theorem cr_bd200 {a c : P3} (ha : bd 9 a) (hc : bd 9 c) : bd 200 (cr a c) := by
  obtain ⟨a1, a2, a3⟩ := a
  obtain ⟨c1, c2, c3⟩ := c
  obtain ⟨x1, x2, x3⟩ := ha
  obtain ⟨y1, y2, y3⟩ := hc
  simp only at x1 x2 x3 y1 y2 y3
  have f : ∀ x y : Int, x.natAbs < 9 → y.natAbs < 9 → (x * y).natAbs ≤ 8 * 8 := fun x y hx hy => mulb (by omega) (by omega)
  have t1 := f a2 c3 x2 y3
  have t2 := f a3 c2 x3 y2
  have t3 := f a3 c1 x3 y1
  have t4 := f a1 c3 x1 y3
  have t5 := f a1 c2 x1 y2
  have t6 := f a2 c1 x2 y1
  refine ⟨?_, ?_, ?_⟩ <;> simp only [cr] <;> omega
theorem gat_L {k : Nat} (h : k < 125) : (nI k / 25 - 2).toInt64 = iL (gat k).1 ∧ (nI k / 5 - nI k / 5 / 5 * 5 - 2).toInt64 = iL (gat k).2.1 ∧ (nI k - nI k / 5 * 5 - 2).toInt64 = iL (gat k).2.2 := by
  have e2 : (2 : Int32) = iI 2 := rfl
  refine ⟨?_, ?_, ?_⟩
  · rw [show nI k / 25 = nI (k / 25) from nI_div (b := 25) (by omega) (by decide) (by decide), iI_nat, e2, iI_sub, iI_l (by omega)]
    rfl
  · rw [show nI k / 5 = nI (k / 5) from nI_div (b := 5) (by omega) (by decide) (by decide), show nI (k / 5) - nI (k / 5) / 5 * 5 = nI (k / 5 % 5) from nI_rem (b := 5) (by omega) (by decide) (by decide), iI_nat, e2, iI_sub, iI_l (by omega)]
    rfl
  · rw [show nI k - nI k / 5 * 5 = nI (k % 5) from nI_rem (b := 5) (by omega) (by decide) (by decide), iI_nat, e2, iI_sub, iI_l (by omega)]
    rfl
theorem zat_L {k : Nat} (h : k < 4913) : (nI k / 289 - 8).toInt64 = iL (zat k).1 ∧ (nI k / 17 - nI k / 17 / 17 * 17 - 8).toInt64 = iL (zat k).2.1 ∧ (nI k - nI k / 17 * 17 - 8).toInt64 = iL (zat k).2.2 := by
  have e2 : (8 : Int32) = iI 8 := rfl
  refine ⟨?_, ?_, ?_⟩
  · rw [show nI k / 289 = nI (k / 289) from nI_div (b := 289) (by omega) (by decide) (by decide), iI_nat, e2, iI_sub, iI_l (by omega)]
    rfl
  · rw [show nI k / 17 = nI (k / 17) from nI_div (b := 17) (by omega) (by decide) (by decide), show nI (k / 17) - nI (k / 17) / 17 * 17 = nI (k / 17 % 17) from nI_rem (b := 17) (by omega) (by decide) (by decide), iI_nat, e2, iI_sub, iI_l (by omega)]
    rfl
  · rw [show nI k - nI k / 17 * 17 = nI (k % 17) from nI_rem (b := 17) (by omega) (by decide) (by decide), iI_nat, e2, iI_sub, iI_l (by omega)]
    rfl
theorem zix_L {p : P3} (h : bd 9 p) : (289 : Int64) * (iL p.1 + 8) + 17 * (iL p.2.1 + 8) + iL p.2.2 + 8 = iL ((zix p : Nat) : Int) := by
  obtain ⟨h1, h2, h3⟩ := h
  rw [show (289 : Int64) = iL 289 from rfl, show (17 : Int64) = iL 17 from rfl, show (8 : Int64) = iL 8 from rfl, iL_add, iL_add, iL_mul, iL_mul, iL_add, iL_add, iL_add]
  congr 1
  unfold zix
  omega
/-- the lines found so far, by their numbers -/
def zLi (y w : Nat → Int32) (Z : List Nat) : Prop := Z.Nodup ∧ (∀ z ∈ Z, z < 4913) ∧ (∀ k, k < 4913 → y k = bI (decide (k ∈ Z))) ∧ ∀ i z, Z[i]? = some z → w i = nI z
theorem zLi_len {y w : Nat → Int32} {Z : List Nat} (h : zLi y w Z) : Z.length ≤ 4913 := by
  have := nodup_len Z (List.range 4913) h.1 (fun a ha => List.mem_range.mpr (h.2.1 a ha))
  rw [List.length_range] at this
  exact this
theorem zLi_room {y w : Nat → Int32} {Z : List Nat} {z : Nat} (h : zLi y w Z) (hz : z < 4913) (hn : z ∉ Z) : Z.length < 4913 := by
  have := nodup_len (z :: Z) (List.range 4913) (List.nodup_cons.mpr ⟨hn, h.1⟩) (fun a ha => by
    rcases List.mem_cons.mp ha with rfl | ha
    · exact List.mem_range.mpr hz
    · exact List.mem_range.mpr (h.2.1 a ha))
  rw [List.length_range, List.length_cons] at this
  omega
theorem zLi_add {y w : Nat → Int32} {Z : List Nat} {z : Nat} (h : zLi y w Z) (hz : z < 4913) (hn : z ∉ Z) : zLi (upd y z 1) (upd w Z.length (nI z)) (Z ++ [z]) := by
  obtain ⟨h1, h2, h3, h4⟩ := h
  refine ⟨List.nodup_append.mpr ⟨h1, List.nodup_cons.mpr ⟨List.not_mem_nil, List.nodup_nil⟩, fun a ha c hc => ?_⟩, fun a ha => ?_, fun k hk => ?_, fun i x hx => ?_⟩
  · rw [List.mem_singleton.mp hc]
    exact fun e => hn (e ▸ ha)
  · rcases List.mem_append.mp ha with e | e
    · exact h2 a e
    · rw [List.mem_singleton.mp e]
      exact hz
  · simp only [upd]
    by_cases e : k = z
    · rw [if_pos e, bI_t (List.mem_append.mpr (Or.inr (List.mem_singleton.mpr e)))]
    · rw [if_neg e, h3 k hk]
      congr 1
      rw [Bool.eq_iff_iff, decide_eq_true_iff, decide_eq_true_iff, List.mem_append, List.mem_singleton]
      exact ⟨Or.inl, fun h => h.elim id (fun q => absurd q e)⟩
  · simp only [upd]
    by_cases hi : i = Z.length
    · subst hi
      rw [List.getElem?_append_right (Nat.le_refl _), Nat.sub_self] at hx
      cases hx
      rw [if_pos rfl]
    · have := (List.getElem?_eq_some_iff.mp hx).1
      rw [List.length_append, List.length_singleton] at this
      rw [List.getElem?_append_left (by omega)] at hx
      rw [if_neg hi]
      exact h4 i x hx
theorem mbs_nodup (I : Nat → Bool) (k : Nat) : (mbs I k).Nodup := List.Pairwise.filter _ List.nodup_range
theorem mbs_in {I : Nat → Bool} {k j : Nat} : j ∈ mbs I k ↔ j < k ∧ I j = true := by
  unfold mbs
  rw [List.mem_filter, List.mem_range]
theorem lns_iff {D : List P3} (hD : dOk D) {r : Nat} {I : Nat → Bool} (hI : ∀ k, k < 125 → (I k = true ↔ gSt D r (gat k))) (l : P3) : prp ((mbs I 125).map gat) ((mbs I 125).map gat).length 0 l ↔ gZn D r l := by
  have hm : ∀ p, p ∈ (mbs I 125).map gat ↔ gSt D r p := by
    intro p
    rw [List.mem_map]
    constructor
    · rintro ⟨k, hk, rfl⟩
      obtain ⟨h1, h2⟩ := mbs_in.mp hk
      exact (hI k h1).mp h2
    · intro hp
      have hb := (gSt_ok hD r p hp).1
      exact ⟨gix p, mbs_in.mpr ⟨gix_lt hb, (hI _ (gix_lt hb)).mpr (by rw [gat_gix hb]; exact hp)⟩, gat_gix hb⟩
  rw [prp_all (inj_map (fun j k => gat_inj) (mbs_nodup I 125)) (fun a ha => (gSt_ok hD r a ((hm a).mp ha)).2)]
  constructor
  · rintro ⟨a, c, h1, h2, h3⟩
    exact ⟨a, c, (hm a).mp h1, (hm c).mp h2, h3⟩
  · rintro ⟨a, c, h1, h2, h3⟩
    exact ⟨a, c, (hm a).mpr h1, (hm c).mpr h2, h3⟩
theorem nxt_iff {D : List P3} (hD : dOk D) {r : Nat} {Z : List Nat} (hn : Z.Nodup) (hZ : ∀ l, (∃ z ∈ Z, zat z = l) ↔ gZn D r l) (p : P3) (hp : bd 3 p) : (gSt D r p ∨ prp (Z.map zat) (Z.map zat).length 0 p) ↔ gSt D (r + 1) p := by
  have hm : ∀ l, l ∈ Z.map zat ↔ gZn D r l := fun l => by
    rw [List.mem_map]
    exact hZ l
  rw [prp_all (inj_map (fun j k => zat_inj) hn) (fun a ha => gZn_ok hD ((hm a).mp ha)), gSt_s]
  refine or_congr Iff.rfl ⟨?_, ?_⟩
  · rintro ⟨a, c, h1, h2, h3⟩
    exact ⟨hp, a, c, (hm a).mp h1, (hm c).mp h2, h3⟩
  · rintro ⟨_, a, c, h1, h2, h3⟩
    exact ⟨a, c, (hm a).mpr h1, (hm c).mpr h2, h3⟩
