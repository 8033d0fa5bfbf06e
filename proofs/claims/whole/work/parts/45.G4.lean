/-- the lines that two members tell -/
def gLn (I : Nat → Bool) (x : P3) : Prop := ∃ i j a b, i < j ∧ gsm[i]? = some a ∧ gsm[j]? = some b ∧ I i = true ∧ I j = true ∧ x = nz (cr a b)
def gLp (I : Nat → Bool) (i j : Nat) (x : P3) : Prop := ∃ i2 j2 a b, i2 < j2 ∧ prc i j i2 j2 ∧ gsm[i2]? = some a ∧ gsm[j2]? = some b ∧ I i2 = true ∧ I j2 = true ∧ x = nz (cr a b)
def gNx (I : Nat → Bool) (p : P3) : Prop := ∃ l1 l2, gLn I l1 ∧ gLn I l2 ∧ l1 ≠ l2 ∧ dt p l1 = 0 ∧ dt p l2 = 0
theorem gAll_c {I : Nat → Bool} {Lp Lq : P3 → Prop} {zn : Nat → Int32} {H : xG} {g : Nat} (h : gAll I Lp zn H g) (e : ∀ x, Lp x ↔ Lq x) : gAll I Lq zn H g := by
  have e2 : Lp = Lq := funext fun x => propext (e x)
  subst e2
  exact h
theorem gLp_s {I : Nat → Bool} {i j : Nat} {a b : P3} (hij : i < j) (ha : gsm[i]? = some a) (hb : gsm[j]? = some b) (hi : I i = true) (hj : I j = true) (x : P3) : (gLp I i j x ∨ x = nz (cr a b)) ↔ gLp I i (j + 1) x := by
  constructor
  · rintro (⟨i2, j2, a2, b2, h1, h2, h3⟩ | rfl)
    · exact ⟨i2, j2, a2, b2, h1, prc_s.mpr (Or.inl h2), h3⟩
    · exact ⟨i, j, a, b, hij, prc_s.mpr (Or.inr ⟨rfl, rfl⟩), ha, hb, hi, hj, rfl⟩
  · rintro ⟨i2, j2, a2, b2, h1, h2, h3, h4, h5, h6, h7⟩
    rcases prc_s.mp h2 with h2 | ⟨rfl, rfl⟩
    · exact Or.inl ⟨i2, j2, a2, b2, h1, h2, h3, h4, h5, h6, h7⟩
    · cases ha.symm.trans h3
      cases hb.symm.trans h4
      exact Or.inr h7
theorem gLp_n {I : Nat → Bool} {i j : Nat} (hn : ¬ (I i = true ∧ I j = true)) (x : P3) : gLp I i j x ↔ gLp I i (j + 1) x := by
  constructor
  · rintro ⟨i2, j2, a2, b2, h1, h2, h3⟩
    exact ⟨i2, j2, a2, b2, h1, prc_s.mpr (Or.inl h2), h3⟩
  · rintro ⟨i2, j2, a2, b2, h1, h2, h3, h4, h5, h6, h7⟩
    rcases prc_s.mp h2 with h2 | ⟨rfl, rfl⟩
    · exact ⟨i2, j2, a2, b2, h1, h2, h3, h4, h5, h6, h7⟩
    · exact absurd ⟨h5, h6⟩ hn
theorem gsm_lt {j : Nat} {p : P3} (h : gsm[j]? = some p) : j < 49 := by
  have := (List.getElem?_eq_some_iff.mp h).1
  rw [gsm_len] at this
  exact this
theorem gLp_e {I : Nat → Bool} {i : Nat} (x : P3) : gLp I i 49 x ↔ gLp I (i + 1) (i + 2) x := by
  constructor
  · rintro ⟨i2, j2, a2, b2, h1, h2, h3⟩
    refine ⟨i2, j2, a2, b2, h1, ?_, h3⟩
    rcases h2 with h2 | ⟨h2, _⟩
    · exact Or.inl (by omega)
    · exact Or.inl (by omega)
  · rintro ⟨i2, j2, a2, b2, h1, h2, h3, h4, h5⟩
    have := gsm_lt h4
    refine ⟨i2, j2, a2, b2, h1, ?_, h3, h4, h5⟩
    rcases h2 with h2 | ⟨h2, h6⟩
    · rcases Nat.lt_or_ge i2 i with q | q
      · exact Or.inl q
      · exact Or.inr ⟨by omega, this⟩
    · omega
theorem gLp_all {I : Nat → Bool} {i j : Nat} (hi : 49 ≤ i) (x : P3) : gLp I i j x ↔ gLn I x := by
  constructor
  · rintro ⟨i2, j2, a2, b2, h1, h2, h3⟩
    exact ⟨i2, j2, a2, b2, h1, h3⟩
  · rintro ⟨i2, j2, a2, b2, h1, h3⟩
    have := gsm_lt h3.1
    exact ⟨i2, j2, a2, b2, h1, Or.inl (by omega), h3⟩
theorem gsm_cr {a b : P3} (ha : a ∈ gsm) (hb : b ∈ gsm) : bd 9 (cr a b) := by
  obtain ⟨h1, _⟩ := gsm_ok a ha
  obtain ⟨h2, _⟩ := gsm_ok b hb
  obtain ⟨a1, a2, a3⟩ := a
  obtain ⟨b1, b2, b3⟩ := b
  obtain ⟨x1, x2, x3⟩ := h1
  obtain ⟨y1, y2, y3⟩ := h2
  simp only at x1 x2 x3 y1 y2 y3
  have f : ∀ x y : Int, x.natAbs < 3 → y.natAbs < 3 → (x * y).natAbs ≤ 4 := fun x y hx hy => mulb (A := 2) (B := 2) (by omega) (by omega)
  have t1 := f a2 b3 x2 y3
  have t2 := f a3 b2 x3 y2
  have t3 := f a3 b1 x3 y1
  have t4 := f a1 b3 x1 y3
  have t5 := f a1 b2 x1 y2
  have t6 := f a2 b1 x2 y1
  refine ⟨?_, ?_, ?_⟩ <;> simp only [cr] <;> omega
abbrev gPost (n g : Nat) (G : xG) (I : Nat → Bool) : Option Value → Nat → xG → Prop := qVx n (fun H => (∃ I2, gro H g I2 ∧ ∀ j p, gsm[j]? = some p → (I2 j = true ↔ I j = true ∨ gNx I p)) ∧ xfr g (g + 104) G H)
theorem k_G_grow3 {n g : Nat} {G : xG} {fs fz : Nat → Option Nat} {I : Nat → Bool} {zn : Nat → Int32} (hfin : ∀ j p, gsm[j]? = some p → ((1 : Int32) < zn j ↔ I j = false ∧ gNx I p)) : ∀ (m i : Nat) (H : xG) (I2 : Nat → Bool) (fi : Nat → Int32), 49 - i < m → i ≤ 49 → grl H g fs fz fi zn → (∀ j, j < 49 → fi j = bI (I2 j)) → (∀ j p, gsm[j]? = some p → (j < i → (I2 j = true ↔ I j = true ∨ gNx I p)) ∧ (i ≤ j → I2 j = I j)) → xfr g (g + 104) G H →
      xS mG_grow n 0 0 (gPost n g G I) xNo 101 [(0, .ref g), (1, .int (nI i))] [] n H 0 0 := by
  intro m
  induction m with
  | zero => intro i H I2 fi q; exact absurd q (by omega)
  | succ m ih =>
    intro i H I2 fi q1 q2 hg0 hfi hI2 hfr
    obtain ⟨⟨g0, g1, g2, g3, g4⟩, _, h1, h2, h3, h4⟩ := id hg0
    refine xs_iload_n dG_grow_101 rfl ?_
    refine xs_bipush (v := 49) dG_grow_102 (by decide) ?_
    refine xs_icmp_ge dG_grow_104 (fun hg => ?_) (fun hg => ?_)
    · have hi := (nI_leI (a := 49) (by omega) (by omega)).mp hg
      exact xs_vret dG_grow_143 rfl (by omega) (by omega) ⟨rfl, rfl, ⟨I2, ⟨fs, fz, fi, zn, hg0, hfi⟩, fun j p hj => (hI2 j p hj).1 (by have := gsm_lt hj; omega)⟩, hfr⟩
    · have hi : i < 49 := nI_lt_of (b := 49) (by omega) (by omega) hg
      obtain ⟨p, hp⟩ : ∃ p, gsm[i]? = some p := ⟨_, List.getElem?_eq_getElem (by rw [gsm_len]; exact hi)⟩
      have hin := fin49 hi
      have hold := (hI2 i p hp).2 (Nat.le_refl _)
      have hv : fi (nI i).toNatClampNeg = bI (I i) := by rw [nI_clamp (by omega), hfi i hi, hold]
      have hz : zn (nI i).toNatClampNeg = zn i := by rw [nI_clamp (by omega)]
      have hf := hfin i p hp
      have out : ∀ b : Bool, (b = true ↔ I i = true ∨ gNx I p) → xS mG_grow n 0 0 (gPost n g G I) xNo 136 [(0, .ref g), (1, .int (nI i))] [.int (bI b), .int (nI i), .ref (g + 2)] n H 0 0 := by
        intro b hb
        refine xs_zast dG_grow_136 (by repeat (first | assumption | exact va_up_self _ _ _ | refine (va_up_ne _ _ (by omega)).trans ?_)) (by assumption) ?_
        refine xs_iinc (L2 := [(1, _), (0, _)]) dG_grow_137 rfl rfl (by decide) rfl ?_
        refine xs_goto dG_grow_140 ?_
        refine xs_pick (L2 := [(0, _), (1, _)]) [1, 0] rfl ?_
        rw [xii, nI_clamp (by omega), vnar_b]
        refine ih (i + 1) _ (fun j => if j = i then b else I2 j) _ (by omega) (by omega) (grl_fi hg0) (fun j hj => ?_) (fun j q hq => ⟨fun hj => ?_, fun hj => ?_⟩) (xfr_up hfr (by omega) (by omega))
        · simp only [upd]
          split
          next => rfl
          next => exact hfi j hj
        · try dsimp only
          by_cases hji : j = i
          · subst hji
            rw [if_pos rfl]
            cases hp.symm.trans hq
            exact hb
          · rw [if_neg hji]
            exact (hI2 j q hq).1 (by omega)
        · try dsimp only
          rw [if_neg (by omega)]
          exact (hI2 j q hq).2 (by omega)
      refine xs_aload_n dG_grow_107 rfl ?_
      refine xs_get dG_grow_108 flG_17 (by repeat (first | assumption | exact va_up_self _ _ _ | refine (va_up_ne _ _ (by omega)).trans ?_)) rfl ?_
      refine xs_iload_n dG_grow_111 rfl ?_
      refine xs_aload_n dG_grow_112 rfl ?_
      refine xs_get dG_grow_113 flG_17 (by repeat (first | assumption | exact va_up_self _ _ _ | refine (va_up_ne _ _ (by omega)).trans ?_)) rfl ?_
      refine xs_iload_n dG_grow_116 rfl ?_
      refine xs_zald dG_grow_117 (by repeat (first | assumption | exact va_up_self _ _ _ | refine (va_up_ne _ _ (by omega)).trans ?_)) (by assumption) ?_
      rw [hv]
      refine xs_if_ne dG_grow_118 (fun h => ?_) (fun h => ?_)
      · have h9 := (bI_1n _).mp h
        refine xs_iconst (v := 1) dG_grow_131 (by decide) ?_
        refine xs_goto dG_grow_132 ?_
        exact out true ⟨fun _ => Or.inl h9, fun _ => rfl⟩
      · have h9 := (bI_0 _).mp h
        refine xs_aload_n dG_grow_121 rfl ?_
        refine xs_get dG_grow_122 flG_24 (by repeat (first | assumption | exact va_up_self _ _ _ | refine (va_up_ne _ _ (by omega)).trans ?_)) rfl ?_
        refine xs_iload_n dG_grow_125 rfl ?_
        refine xs_iald dG_grow_126 (by repeat (first | assumption | exact va_up_self _ _ _ | refine (va_up_ne _ _ (by omega)).trans ?_)) (by assumption) ?_
        refine xs_iconst (v := 1) dG_grow_127 (by decide) ?_
        rw [hz]
        refine xs_icmp_le dG_grow_128 (fun h => ?_) (fun h => ?_)
        · have h8 : ¬ (1 : Int32) < zn i := Int32.not_lt.mpr h
          refine xs_iconst (v := 0) dG_grow_135 (by decide) ?_
          refine out false ⟨fun q => by simp at q, fun q => ?_⟩
          rcases q with q | q
          · exact absurd (q.symm.trans h9) (by decide)
          · exact absurd (hf.mpr ⟨h9, q⟩) h8
        · have h8 : (1 : Int32) < zn i := Int32.not_le.mp h
          refine xs_iconst (v := 1) dG_grow_131 (by decide) ?_
          refine xs_goto dG_grow_132 ?_
          exact out true ⟨fun _ => Or.inr (hf.mp h8).2, fun _ => rfl⟩
theorem gAll_fin {I : Nat → Bool} {zn : Nat → Int32} {H : xG} {g : Nat} (h : gAll I (gLn I) zn H g) (j : Nat) (p : P3) (hj : gsm[j]? = some p) : (1 : Int32) < zn j ↔ I j = false ∧ gNx I p := by
  rcases h j p hj with ⟨hI, hz⟩ | ⟨hI, hst⟩
  · constructor
    · intro q
      rw [hz] at q
      exact absurd q (by decide)
    · rintro ⟨q, _⟩
      exact absurd (q.symm.trans hI) (by decide)
  · rcases hst with ⟨hz, hn⟩ | ⟨hz, f, _, _, _, _, hu⟩ | ⟨hz, f, e, h1, h2, h3, h4, h5⟩
    · constructor
      · intro q
        rw [hz] at q
        exact absurd q (by decide)
      · rintro ⟨_, l1, l2, q1, q2, q3, q4, q5⟩
        exact absurd q4 (hn l1 q1)
    · constructor
      · intro q
        rw [hz] at q
        exact absurd q (by decide)
      · rintro ⟨_, l1, l2, q1, q2, q3, q4, q5⟩
        exact absurd ((hu l1 q1 q4).trans (hu l2 q2 q5).symm) q3
    · constructor
      · intro _
        exact ⟨hI, f, e, h1, h2, h3, h4, h5⟩
      · intro _
        rw [hz]
        decide
theorem k_G_grow {n g : Nat} {G : xG} {I : Nat → Bool} (hG : gro G g I) : xK mG_grow [.ref g] n G 0 0 (gPost n g G I) xNo := by
  obtain ⟨fs, fz, fi, zn0, hG0, hI⟩ := hG
  have outer : ∀ (m i : Nat) (H : xG) (zn : Nat → Int32), 49 - i < m → i ≤ 49 → grl H g fs fz fi zn → gAll I (gLp I i (i + 1)) zn H g → xfr g (g + 104) G H →
      xS mG_grow n 0 0 (gPost n g G I) xNo 23 [(0, .ref g), (1, .int (nI i))] [] n H 0 0 := by
    intro m
    induction m with
    | zero => intro i H zn q; exact absurd q (by omega)
    | succ m ih =>
      intro i H zn q1 q2 hg0 hall hfr
      refine xs_iload_n dG_grow_23 rfl ?_
      refine xs_bipush (v := 49) dG_grow_24 (by decide) ?_
      refine xs_icmp_ge dG_grow_26 (fun hg => ?_) (fun hg => ?_)
      · have hi := (nI_leI (a := 49) (by omega) (by omega)).mp hg
        refine xs_iconst (v := 0) dG_grow_99 (by decide) ?_
        refine xs_istore_n (L2 := [(1, _), (0, _)]) dG_grow_100 (by decide) rfl ?_
        refine xs_pick (L2 := [(0, _), (1, _)]) [1, 0] rfl ?_
        exact k_G_grow3 (gAll_fin (gAll_c hall (gLp_all hi))) 50 0 H I fi (by omega) (by omega) hg0 hI (fun j p _ => ⟨fun q => absurd q (by omega), fun _ => rfl⟩) hfr
      · have hi : i < 49 := nI_lt_of (b := 49) (by omega) (by omega) hg
        obtain ⟨a, ha⟩ : ∃ a, gsm[i]? = some a := ⟨_, List.getElem?_eq_getElem (by rw [gsm_len]; exact hi)⟩
        have hin := fin49 hi
        have inner : ∀ (m j : Nat) (H : xG) (zn : Nat → Int32), 49 - j < m → j ≤ 49 → i < j → grl H g fs fz fi zn → gAll I (gLp I i j) zn H g → xfr g (g + 104) G H →
            xS mG_grow n 0 0 (gPost n g G I) xNo 33 [(0, .ref g), (1, .int (nI i)), (2, .int (nI j))] [] n H 0 0 := by
          intro m
          induction m with
          | zero => intro j H zn q; exact absurd q (by omega)
          | succ m ih2 =>
            intro j H zn q1 q2 hij hg0 hall hfr
            obtain ⟨⟨g0, g1, g2, g3, g4⟩, ⟨x, y, w, g5⟩, h1, h2, h3, h4⟩ := id hg0
            refine xs_iload_n dG_grow_33 rfl ?_
            refine xs_bipush (v := 49) dG_grow_34 (by decide) ?_
            refine xs_icmp_ge dG_grow_36 (fun hg => ?_) (fun hg => ?_)
            · have hj : j = 49 := by
                have := (nI_leI (a := 49) (by omega) (by omega)).mp hg
                omega
              subst hj
              refine xs_iinc (L2 := [(1, _), (0, _), (2, _)]) dG_grow_93 rfl rfl (by decide) rfl ?_
              refine xs_goto dG_grow_96 ?_
              refine xs_pick (L2 := [(0, _), (1, _)]) [1, 0] rfl ?_
              rw [xii]
              exact ih (i + 1) H zn (by omega) (by omega) hg0 (gAll_c hall gLp_e) hfr
            · have hj : j < 49 := nI_lt_of (b := 49) (by omega) (by omega) hg
              obtain ⟨b, hb⟩ : ∃ b, gsm[j]? = some b := ⟨_, List.getElem?_eq_getElem (by rw [gsm_len]; exact hj)⟩
              have hjn := fin49 hj
              have hvi : fi (nI i).toNatClampNeg = bI (I i) := by rw [nI_clamp (by omega), hI i hi]
              have hvj : fi (nI j).toNatClampNeg = bI (I j) := by rw [nI_clamp (by omega), hI j hj]
              have next : ∀ (H : xG) (zn : Nat → Int32), grl H g fs fz fi zn → gAll I (gLp I i (j + 1)) zn H g → xfr g (g + 104) G H → xS mG_grow n 0 0 (gPost n g G I) xNo 87 [(0, .ref g), (1, .int (nI i)), (2, .int (nI j))] [] n H 0 0 := by
                intro H zn a1 a2 a3
                refine xs_iinc (L2 := [(2, _), (0, _), (1, _)]) dG_grow_87 rfl rfl (by decide) rfl ?_
                refine xs_goto dG_grow_90 ?_
                refine xs_pick (L2 := [(0, _), (1, _), (2, _)]) [1, 2, 0] rfl ?_
                rw [xii]
                exact ih2 (j + 1) H zn (by omega) (by omega) (by omega) a1 a2 a3
              refine xs_aload_n dG_grow_39 rfl ?_
              refine xs_get dG_grow_40 flG_17 (by repeat (first | assumption | exact va_up_self _ _ _ | refine (va_up_ne _ _ (by omega)).trans ?_)) rfl ?_
              refine xs_iload_n dG_grow_43 rfl ?_
              refine xs_zald dG_grow_44 (by repeat (first | assumption | exact va_up_self _ _ _ | refine (va_up_ne _ _ (by omega)).trans ?_)) (by assumption) ?_
              rw [hvi]
              refine xs_if_eq dG_grow_45 (fun h => ?_) (fun h => ?_)
              · have h9 := (bI_0 _).mp h
                exact next H zn hg0 (gAll_c hall (gLp_n (fun q => absurd (h9.symm.trans q.1) (by decide)))) hfr
              have hIi := (bI_1n _).mp h
              refine xs_aload_n dG_grow_48 rfl ?_
              refine xs_get dG_grow_49 flG_17 (by repeat (first | assumption | exact va_up_self _ _ _ | refine (va_up_ne _ _ (by omega)).trans ?_)) rfl ?_
              refine xs_iload_n dG_grow_52 rfl ?_
              refine xs_zald dG_grow_53 (by repeat (first | assumption | exact va_up_self _ _ _ | refine (va_up_ne _ _ (by omega)).trans ?_)) (by assumption) ?_
              rw [hvj]
              refine xs_if_eq dG_grow_54 (fun h => ?_) (fun h => ?_)
              · have h9 := (bI_0 _).mp h
                exact next H zn hg0 (gAll_c hall (gLp_n (fun q => absurd (h9.symm.trans q.2) (by decide)))) hfr
              have hIj := (bI_1n _).mp h
              have hca := h3 i a ha
              have hcb := h3 j b hb
              have hfi2 : fs (nI i).toNatClampNeg = some (g + 6 + 2 * i) := by rw [nI_clamp (by omega)]; exact h1 i hi
              have hfj2 : fs (nI j).toNatClampNeg = some (g + 6 + 2 * j) := by rw [nI_clamp (by omega)]; exact h1 j hj
              have hcr := gsm_cr (List.mem_of_getElem? ha) (List.mem_of_getElem? hb)
              refine xs_aload_n dG_grow_57 rfl ?_
              refine xs_get dG_grow_58 flG_29 (by repeat (first | assumption | exact va_up_self _ _ _ | refine (va_up_ne _ _ (by omega)).trans ?_)) rfl ?_
              refine xs_aload_n dG_grow_61 rfl ?_
              refine xs_get dG_grow_62 flG_13 (by repeat (first | assumption | exact va_up_self _ _ _ | refine (va_up_ne _ _ (by omega)).trans ?_)) rfl ?_
              refine xs_iload_n dG_grow_65 rfl ?_
              refine xs_ald3 dG_grow_66 (by repeat (first | assumption | exact va_up_self _ _ _ | refine (va_up_ne _ _ (by omega)).trans ?_)) (by assumption) hfi2 ?_
              refine xs_aload_n dG_grow_67 rfl ?_
              refine xs_get dG_grow_68 flG_13 (by repeat (first | assumption | exact va_up_self _ _ _ | refine (va_up_ne _ _ (by omega)).trans ?_)) rfl ?_
              refine xs_iload_n dG_grow_71 rfl ?_
              refine xs_ald3 dG_grow_72 (by repeat (first | assumption | exact va_up_self _ _ _ | refine (va_up_ne _ _ (by omega)).trans ?_)) (by assumption) hfj2 ?_
              refine xs_cV_v (As := [_, _]) dG_grow_73 lkG_52 (by repeat (first | assumption | exact va_up_self _ _ _ | refine (va_up_ne _ _ (by omega)).trans ?_)) (k_T_putCross g5 hca hcb) rfl rfl (Nat.le_of_ble_eq_true rfl) ⟨by decide, by decide⟩ ⟨by omega, by omega⟩ ?_
              simp only [iL_mul, iL_sub]
              refine xs_aload_n dG_grow_76 rfl ?_
              refine xs_get dG_grow_77 flG_29 (by repeat (first | assumption | exact va_up_self _ _ _ | refine (va_up_ne _ _ (by omega)).trans ?_)) rfl ?_
              refine xs_cV_v (As := []) dG_grow_80 lkG_56 (by repeat (first | assumption | exact va_up_self _ _ _ | refine (va_up_ne _ _ (by omega)).trans ?_)) (k_T_normalize (p:=cr a b) (va_up_self _ _ _) (bd_mono hcr (by decide))) rfl rfl (Nat.le_of_ble_eq_true rfl) ⟨by decide, by decide⟩ ⟨by omega, by omega⟩ ?_
              rw [bx_uu]
              have hg1 : grl (va_up H (g + 5) (xTp (nz (cr a b)))) g fs fz fi zn := grl_line hg0
              refine xs_aload_n dG_grow_83 rfl ?_
              refine xs_cV_vx (As := []) dG_grow_84 lkG_59 (by repeat (first | assumption | exact va_up_self _ _ _ | refine (va_up_ne _ _ (by omega)).trans ?_)) (k_G_countLine hg1 hI (va_up_self _ _ _) (bd_mono (bd_nz hcr) (by decide)) (show gAll I (gLp I i j) zn (va_up H (g + 5) (xTp (nz (cr a b)))) g from fun k p hk => by rw [va_up_ne _ _ (by omega)]; exact hall k p hk)) rfl rfl (Nat.le_of_ble_eq_true rfl) ⟨by decide, by decide⟩ ⟨by omega, by omega⟩ ?_
              intro H2 hH2
              obtain ⟨⟨zn2, hg2, hall2⟩, hfr2⟩ := hH2
              refine xs_pick (L2 := [(0, _), (1, _), (2, _)]) [0, 1, 2] rfl ?_
              exact next H2 zn2 hg2 (gAll_c hall2 (gLp_s hij ha hb hIi hIj)) (xfr_tr (xfr_up hfr (by omega) (by omega)) hfr2)
        refine xs_iload_n dG_grow_29 rfl ?_
        refine xs_iconst (v := 1) dG_grow_30 (by decide) ?_
        refine xs_iadd dG_grow_31 ?_
        refine xs_istore_n (L2 := [(2, _), (0, _), (1, _)]) dG_grow_32 (by decide) rfl ?_
        refine xs_pick (L2 := [(0, _), (1, _), (2, _)]) [1, 2, 0] rfl ?_
        rw [show nI i + 1 = nI (i + 1) from xii i]
        exact inner 50 (i + 1) H zn (by omega) (by omega) (by omega) hg0 hall hfr
  have first : ∀ (m i : Nat) (H : xG) (zn : Nat → Int32), 49 - i < m → i ≤ 49 → grl H g fs fz fi zn → (∀ j, j < i → zn j = 0) → xfr g (g + 104) G H →
      xS mG_grow n 0 0 (gPost n g G I) xNo 2 [(0, .ref g), (1, .int (nI i))] [] n H 0 0 := by
    intro m
    induction m with
    | zero => intro i H zn q; exact absurd q (by omega)
    | succ m ih =>
      intro i H zn q1 q2 hg0 hz hfr
      obtain ⟨⟨g0, g1, g2, g3, g4⟩, _, h1, h2, h3, h4⟩ := id hg0
      refine xs_iload_n dG_grow_2 rfl ?_
      refine xs_bipush (v := 49) dG_grow_3 (by decide) ?_
      refine xs_icmp_ge dG_grow_5 (fun hg => ?_) (fun hg => ?_)
      · have hi := (nI_leI (a := 49) (by omega) (by omega)).mp hg
        refine xs_iconst (v := 0) dG_grow_21 (by decide) ?_
        refine xs_istore_n (L2 := [(1, _), (0, _)]) dG_grow_22 (by decide) rfl ?_
        refine xs_pick (L2 := [(0, _), (1, _)]) [1, 0] rfl ?_
        refine outer 50 0 H zn (by omega) (by omega) hg0 (fun j p hj => ?_) hfr
        have hz0 := hz j (by have := gsm_lt hj; omega)
        cases hIj : I j with
        | true => exact Or.inl ⟨hIj, hz0⟩
        | false =>
          refine Or.inr ⟨hIj, Or.inl ⟨hz0, fun l hl => ?_⟩⟩
          obtain ⟨i2, j2, a2, b2, h1, h2, h3⟩ := hl
          rcases h2 with h2 | ⟨h2, h6⟩ <;> omega
      · have hi : i < 49 := nI_lt_of (b := 49) (by omega) (by omega) hg
        have hin := fin49 hi
        refine xs_aload_n dG_grow_8 rfl ?_
        refine xs_get dG_grow_9 flG_24 (by repeat (first | assumption | exact va_up_self _ _ _ | refine (va_up_ne _ _ (by omega)).trans ?_)) rfl ?_
        refine xs_iload_n dG_grow_12 rfl ?_
        refine xs_iconst (v := 0) dG_grow_13 (by decide) ?_
        refine xs_iast dG_grow_14 (by repeat (first | assumption | exact va_up_self _ _ _ | refine (va_up_ne _ _ (by omega)).trans ?_)) (by assumption) ?_
        refine xs_iinc (L2 := [(1, _), (0, _)]) dG_grow_15 rfl rfl (by decide) rfl ?_
        refine xs_goto dG_grow_18 ?_
        refine xs_pick (L2 := [(0, _), (1, _)]) [1, 0] rfl ?_
        rw [xii, nI_clamp (by omega)]
        refine ih (i + 1) _ _ (by omega) (by omega) (grl_zn hg0) (fun j hj => ?_) (xfr_up hfr (by omega) (by omega))
        simp only [upd]
        split
        next => rfl
        next => exact hz j (by omega)
  refine xK_of2 (L0 := [(0, _)]) (by decide +kernel) rfl (Nat.le_of_ble_eq_true rfl) rfl ?_
  refine xs_iconst (v := 0) dG_grow_0 (by decide) ?_
  refine xs_istore_n (L2 := [(1, _), (0, _)]) dG_grow_1 (by decide) rfl ?_
  refine xs_pick (L2 := [(0, _), (1, _)]) [1, 0] rfl ?_
  exact first 50 0 G zn0 (by omega) (by omega) hG0 (fun j hj => absurd hj (by omega)) xfr_rf
