def sP (N : Nat) : Nat → Nat
  | 0 => 0
  | i + 1 => sP N i + (N - (i + 1))
theorem sP_mono {N i : Nat} : ∀ k, i ≤ k → sP N i ≤ sP N k
  | 0, h => by rw [show i = 0 by omega]; exact Nat.le_refl _
  | k + 1, h => by
    by_cases q : i = k + 1
    · rw [q]; exact Nat.le_refl _
    · have := sP_mono (N := N) (i := i) k (by omega)
      simp only [sP]
      omega
theorem sP_120 : ∀ N, N ≤ 16 → sP N N ≤ 120 := by
  intro N h
  have : ∀ N, N < 17 → sP N N ≤ 120 := by decide
  exact this N (by omega)
def prc (i j i2 j2 : Nat) : Prop := i2 < i ∨ (i2 = i ∧ j2 < j)
def isAx (D : List P3) (a : P3) (P : Nat → Nat → Prop) : Prop := ∃ i j d e, i < j ∧ P i j ∧ D[i]? = some d ∧ D[j]? = some e ∧ cr d e ≠ (0, 0, 0) ∧ a = nz (cr d e)
def lsd (D : List P3) (lst : Int) (a : P3) : Bool := decide (lst ≤ (pc (mem D a) : Int))
def gInv (D : List P3) (lst : Int) (i j : Nat) (Z : List P3) (R : Nat → Nat) : Prop := ∃ T : List P3, T.Nodup ∧ (∀ a, a ∈ T ↔ isAx D a (prc i j)) ∧ Z = T.filter (lsd D lst) ∧
  (∀ x y, x < D.length → y < D.length → ((R x).testBit y = true ↔ ∃ a ∈ T, inz D a x = true ∧ inz D a y = true)) ∧ T.length ≤ sP D.length i + (j - (i + 1))
theorem gInv_0 (D : List P3) (lst : Int) {R : Nat → Nat} (hR : ∀ x, x < D.length → R x = 0) : gInv D lst 0 1 [] R := by
  refine ⟨[], List.nodup_nil, fun a => ⟨fun h => absurd h List.not_mem_nil, fun ⟨i, j, d, e, h1, h2, _⟩ => ?_⟩, rfl, fun x y hx hy => ⟨fun h => ?_, fun ⟨a, h, _⟩ => absurd h List.not_mem_nil⟩, Nat.zero_le _⟩
  · rcases h2 with h2 | ⟨h2, h3⟩ <;> omega
  · rw [hR x hx, Nat.zero_testBit] at h
    cases h
theorem gInv_lt {D : List P3} {lst : Int} {i j : Nat} {Z : List P3} {R : Nat → Nat} (h : gInv D lst i j Z R) (hN : D.length ≤ 16) (hij : i < j) (hj : j < D.length) : Z.length < 120 := by
  obtain ⟨T, -, -, rfl, -, hl⟩ := h
  have h1 : (T.filter (lsd D lst)).length ≤ T.length := List.length_filter_le _ _
  have h2 := sP_mono (N := D.length) (i := i + 1) D.length (by omega)
  have h3 := sP_120 D.length hN
  simp only [sP] at h2
  omega
theorem gInv_next {D : List P3} {lst : Int} {i : Nat} {Z : List P3} {R : Nat → Nat} (h : gInv D lst i D.length Z R) (hi : i < D.length) : gInv D lst (i + 1) (i + 2) Z R := by
  obtain ⟨T, h1, h2, h3, h4, h5⟩ := h
  refine ⟨T, h1, fun a => (h2 a).trans ⟨?_, ?_⟩, h3, h4, by simp only [sP]; omega⟩
  · rintro ⟨x, y, d, e, q1, q2, q3, q4, q5⟩
    refine ⟨x, y, d, e, q1, ?_, q3, q4, q5⟩
    rcases q2 with q2 | ⟨q2, q6⟩
    · exact Or.inl (by omega)
    · exact Or.inl (by omega)
  · rintro ⟨x, y, d, e, q1, q2, q3, q4, q5⟩
    refine ⟨x, y, d, e, q1, ?_, q3, q4, q5⟩
    have hy := (List.getElem?_eq_some_iff.mp q4).1
    rcases q2 with q2 | ⟨q2, q6⟩
    · by_cases hx : x = i
      · exact Or.inr ⟨hx, hy⟩
      · exact Or.inl (by omega)
    · omega
theorem inz_iff {D : List P3} {a d : P3} {i : Nat} (h : D[i]? = some d) : inz D a i = true ↔ dt d a = 0 := by
  rw [inz, h]
  exact decide_eq_true_iff
/-- an axis that lies in both faces' ways is theirs -/
theorem isAx_one {D : List P3} {a d e : P3} {i j : Nat} {P : Nat → Nat → Prop} (ha : isAx D a P) (hd : D[i]? = some d) (he : D[j]? = some e) (hc : cr d e ≠ (0, 0, 0)) (h1 : inz D a i = true) (h2 : inz D a j = true) : a = nz (cr d e) := by
  obtain ⟨x, y, d2, e2, -, -, -, -, q5, rfl⟩ := ha
  exact zone_one (nz_ne q5) (nz_nz q5) hc ((inz_iff hd).mp h1) ((inz_iff he).mp h2)
theorem prc_s {i j x y : Nat} : prc i (j + 1) x y ↔ prc i j x y ∨ (x = i ∧ y = j) := by
  unfold prc
  omega
theorem gInv_skip {D : List P3} {lst : Int} {i j : Nat} {Z : List P3} {R : Nat → Nat} {d e : P3} (h : gInv D lst i j Z R) (hij : i < j) (hd : D[i]? = some d) (he : D[j]? = some e) (hs : cr d e = (0, 0, 0) ∨ (R i).testBit j = true) : gInv D lst i (j + 1) Z R := by
  obtain ⟨T, h1, h2, h3, h4, h5⟩ := h
  refine ⟨T, h1, fun a => ⟨fun ha => ?_, fun ha => ?_⟩, h3, h4, by omega⟩
  · obtain ⟨x, y, d2, e2, q1, q2, q3⟩ := (h2 a).mp ha
    exact ⟨x, y, d2, e2, q1, prc_s.mpr (Or.inl q2), q3⟩
  · obtain ⟨x, y, d2, e2, q1, q2, q3, q4, q5, q6⟩ := ha
    rcases prc_s.mp q2 with q2 | ⟨rfl, rfl⟩
    · exact (h2 a).mpr ⟨x, y, d2, e2, q1, q2, q3, q4, q5, q6⟩
    · cases hd.symm.trans q3
      cases he.symm.trans q4
      rcases hs with hs | hs
      · exact absurd hs q5
      · have hx := (List.getElem?_eq_some_iff.mp q3).1
        have hy := (List.getElem?_eq_some_iff.mp q4).1
        obtain ⟨b, hb, hb1, hb2⟩ := (h4 x y hx hy).mp hs
        have := isAx_one ((h2 b).mp hb) q3 q4 q5 hb1 hb2
        rw [q6, ← this]
        exact hb
theorem gInv_take {D : List P3} {lst : Int} {i j : Nat} {Z : List P3} {R : Nat → Nat} {d e : P3} (h : gInv D lst i j Z R) (hij : i < j) (hd : D[i]? = some d) (he : D[j]? = some e) (hc : cr d e ≠ (0, 0, 0)) (hs : (R i).testBit j = false) :
    gInv D lst i (j + 1) (if lst ≤ (pc (mem D (nz (cr d e))) : Int) then Z ++ [nz (cr d e)] else Z) (zR R (mem D (nz (cr d e))) D.length) := by
  obtain ⟨T, h1, h2, h3, h4, h5⟩ := h
  have hx := (List.getElem?_eq_some_iff.mp hd).1
  have hy := (List.getElem?_eq_some_iff.mp he).1
  have i1 : inz D (nz (cr d e)) i = true := (inz_iff hd).mpr ((dt_nz hc).mpr (dt_cr1 d e))
  have i2 : inz D (nz (cr d e)) j = true := (inz_iff he).mpr ((dt_nz hc).mpr (dt_cr2 d e))
  have hnew : nz (cr d e) ∉ T := fun hm => by
    have := (h4 i j hx hy).mpr ⟨_, hm, i1, i2⟩
    rw [hs] at this
    cases this
  refine ⟨T ++ [nz (cr d e)], ?_, fun a => ?_, ?_, fun x y hxl hyl => ?_, by rw [List.length_append, List.length_singleton]; omega⟩
  · rw [List.nodup_append]
    refine ⟨h1, by simp, fun a ha b hb => ?_⟩
    rw [List.mem_singleton.mp hb]
    exact fun q => hnew (q ▸ ha)
  · rw [List.mem_append, List.mem_singleton, h2 a]
    constructor
    · rintro (⟨x, y, d2, e2, q1, q2, q3⟩ | rfl)
      · exact ⟨x, y, d2, e2, q1, prc_s.mpr (Or.inl q2), q3⟩
      · exact ⟨i, j, d, e, hij, prc_s.mpr (Or.inr ⟨rfl, rfl⟩), hd, he, hc, rfl⟩
    · rintro ⟨x, y, d2, e2, q1, q2, q3, q4, q5, q6⟩
      rcases prc_s.mp q2 with q2 | ⟨rfl, rfl⟩
      · exact Or.inl ⟨x, y, d2, e2, q1, q2, q3, q4, q5, q6⟩
      · cases hd.symm.trans q3
        cases he.symm.trans q4
        exact Or.inr q6
  · rw [List.filter_append, h3]
    by_cases hl : lst ≤ (pc (mem D (nz (cr d e))) : Int)
    · rw [if_pos hl, show [nz (cr d e)].filter (lsd D lst) = [nz (cr d e)] by simp [lsd, hl]]
    · rw [if_neg hl, show [nz (cr d e)].filter (lsd D lst) = [] by simp [lsd, hl], List.append_nil]
  · have hbit : ∀ k, k < D.length → (mem D (nz (cr d e))).testBit k = inz D (nz (cr d e)) k := fun k hk => by
      rw [mem, mk_bit, decide_eq_true hk, Bool.true_and]
    unfold zR
    rw [hbit x hxl]
    by_cases hxi : inz D (nz (cr d e)) x = true
    · rw [if_pos ⟨hxl, hxi⟩, Nat.testBit_or, hbit y hyl, Bool.or_eq_true, h4 x y hxl hyl]
      constructor
      · rintro (⟨a, ha, q⟩ | q)
        · exact ⟨a, List.mem_append_left _ ha, q⟩
        · exact ⟨_, List.mem_append_right _ (List.mem_singleton.mpr rfl), hxi, q⟩
      · rintro ⟨a, ha, q1, q2⟩
        rcases List.mem_append.mp ha with ha | ha
        · exact Or.inl ⟨a, ha, q1, q2⟩
        · rw [List.mem_singleton.mp ha] at q2
          exact Or.inr q2
    · rw [if_neg (fun q => hxi q.2), h4 x y hxl hyl]
      constructor
      · rintro ⟨a, ha, q⟩
        exact ⟨a, List.mem_append_left _ ha, q⟩
      · rintro ⟨a, ha, q1, q2⟩
        rcases List.mem_append.mp ha with ha | ha
        · exact ⟨a, ha, q1, q2⟩
        · rw [List.mem_singleton.mp ha] at q1
          exact absurd q1 hxi
/-- the listed zones, in no order -/
def zSet (D : List P3) (lst : Int) (Z : List P3) : Prop := Z.Nodup ∧ ∀ a, a ∈ Z ↔ (isAx D a (fun _ _ => True) ∧ lsd D lst a = true)
theorem gInv_end {D : List P3} {lst : Int} {i j : Nat} {Z : List P3} {R : Nat → Nat} (h : gInv D lst i j Z R) (hi : D.length ≤ i) : zSet D lst Z := by
  obtain ⟨T, h1, h2, rfl, -, -⟩ := h
  refine ⟨h1.filter _, fun a => ?_⟩
  rw [List.mem_filter, h2 a]
  constructor
  · rintro ⟨⟨x, y, d2, e2, q1, q2, q3⟩, q⟩
    exact ⟨⟨x, y, d2, e2, q1, trivial, q3⟩, q⟩
  · rintro ⟨⟨x, y, d2, e2, q1, q2, q3, q4, q5⟩, q⟩
    have hx := (List.getElem?_eq_some_iff.mp q3).1
    exact ⟨⟨x, y, d2, e2, q1, Or.inl (by omega), q3, q4, q5⟩, q⟩
theorem parL {p q : P3} (hp : bd 1000 p) (hq : bd 1000 q) : ((iL p.1 = iL q.1 ∧ iL p.2.1 = iL q.2.1 ∧ iL p.2.2 = iL q.2.2) ∨ (iL p.1 = -iL q.1 ∧ iL p.2.1 = -iL q.2.1 ∧ iL p.2.2 = -iL q.2.2)) ↔ par p q := by
  obtain ⟨p1, p2, p3⟩ := p
  obtain ⟨q1, q2, q3⟩ := q
  obtain ⟨a1, a2, a3⟩ := hp
  obtain ⟨b1, b2, b3⟩ := hq
  simp only at a1 a2 a3 b1 b2 b3 ⊢
  rw [iL_neg, iL_neg, iL_neg, iL_eq (by omega) (by omega), iL_eq (by omega) (by omega), iL_eq (by omega) (by omega), iL_eq (by omega) (by omega), iL_eq (by omega) (by omega), iL_eq (by omega) (by omega)]
  simp only [par, ng, Prod.mk.injEq]
