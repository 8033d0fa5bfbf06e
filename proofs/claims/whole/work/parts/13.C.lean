/-! a crystal: its faces, its system, the least number of faces of a zone, its twin plane -/
abbrev zF : Type := P3 × Int
abbrev zV : Type := List zF × Int × Int × P3
def fOk (f : zF) : Prop := bd 10 f.1 ∧ f.1 ≠ (0, 0, 0) ∧ g3 f.1 = 1 ∧ (f.2 = 0 ∨ f.2 = 1)
def tOk (p : P3) : Prop := bd 4 p ∧ p ≠ (0, 0, 0) ∧ g3 p = 1
def zOk (V : zV) : Prop := V.1.length ≤ 16 ∧ (∀ f ∈ V.1, fOk f) ∧ (0 ≤ V.2.1 ∧ V.2.1 ≤ 4) ∧ (2 ≤ V.2.2.1 ∧ V.2.2.1 ≤ 6) ∧ tOk V.2.2.2
/-- the rows hold the faces -/
def zRow (fs : List zF) (fh fk fl fb : Nat → Int32) : Prop := ∀ i f, fs[i]? = some f → fh i = iI f.1.1 ∧ fk i = iI f.1.2.1 ∧ fl i = iI f.1.2.2 ∧ fb i = iI f.2
abbrev oA (f : Nat → Int32) : va_E := .inl (0, 16, .inl f)
abbrev oC (c : Nat) (V : zV) : va_E := .inr (0, [.ref (c + 1), .ref (c + 2), .ref (c + 3), .ref (c + 4), .int (nI V.1.length), .int (iI V.2.1), .int (iI V.2.2.1), .int (iI V.2.2.2.1), .int (iI V.2.2.2.2.1), .int (iI V.2.2.2.2.2), .ref (c + 5), .ref (c + 6)])
/-- the crystal c, with its rows and its two triples behind it -/
def cry (G : xG) (c : Nat) (V : zV) : Prop := zOk V ∧ ∃ (fh fk fl fb : Nat → Int32) (a1 a2 a3 b1 b2 b3 : Int64), (G c = oC c V ∧ G (c + 1) = oA fh ∧ G (c + 2) = oA fk ∧ G (c + 3) = oA fl ∧ G (c + 4) = oA fb ∧ G (c + 5) = xT a1 a2 a3 ∧ G (c + 6) = xT b1 b2 b3) ∧ zRow V.1 fh fk fl fb
/-- nothing else changed -/
def xfr (lo hi : Nat) (G H : xG) : Prop := ∀ k, (k < lo ∨ hi ≤ k) → H k = G k
theorem xfr_rf {lo hi : Nat} {G : xG} : xfr lo hi G G := fun _ _ => rfl
theorem xfr_up {lo hi t : Nat} {G H : xG} {e : va_E} (h : xfr lo hi G H) (h1 : lo ≤ t) (h2 : t < hi) : xfr lo hi G (va_up H t e) := fun k hk => by
  rw [va_up_ne _ _ (by omega)]
  exact h k hk
theorem xfr_tr {lo hi : Nat} {G H I : xG} (h : xfr lo hi G H) (h2 : xfr lo hi H I) : xfr lo hi G I := fun k hk => (h2 k hk).trans (h k hk)
theorem xfr_mono {lo hi lo2 hi2 : Nat} {G H : xG} (h : xfr lo hi G H) (h1 : lo2 ≤ lo) (h2 : hi ≤ hi2) : xfr lo2 hi2 G H := fun k hk => h k (by omega)
theorem cry_fr {G H : xG} {c : Nat} {V : zV} (h : cry G c V) (hf : ∀ k, c ≤ k → k < c + 7 → H k = G k) : cry H c V := by
  obtain ⟨hok, fh, fk, fl, fb, a1, a2, a3, b1, b2, b3, ⟨h0, h1, h2, h3, h4, h5, h6⟩, hr⟩ := h
  refine ⟨hok, fh, fk, fl, fb, a1, a2, a3, b1, b2, b3, ⟨?_, ?_, ?_, ?_, ?_, ?_, ?_⟩, hr⟩
  all_goals (rw [hf _ (by omega) (by omega)]; assumption)
theorem cry_t5 {G : xG} {c : Nat} {V : zV} {x y z : Int64} (h : cry G c V) : cry (va_up G (c + 5) (xT x y z)) c V := by
  obtain ⟨hok, fh, fk, fl, fb, a1, a2, a3, b1, b2, b3, ⟨h0, h1, h2, h3, h4, h5, h6⟩, hr⟩ := h
  refine ⟨hok, fh, fk, fl, fb, x, y, z, b1, b2, b3, ⟨?_, ?_, ?_, ?_, ?_, va_up_self _ _ _, ?_⟩, hr⟩
  all_goals (rw [va_up_ne _ _ (by omega)]; assumption)
theorem cry_t6 {G : xG} {c : Nat} {V : zV} {x y z : Int64} (h : cry G c V) : cry (va_up G (c + 6) (xT x y z)) c V := by
  obtain ⟨hok, fh, fk, fl, fb, a1, a2, a3, b1, b2, b3, ⟨h0, h1, h2, h3, h4, h5, h6⟩, hr⟩ := h
  refine ⟨hok, fh, fk, fl, fb, a1, a2, a3, x, y, z, ⟨?_, ?_, ?_, ?_, ?_, ?_, va_up_self _ _ _⟩, hr⟩
  all_goals (rw [va_up_ne _ _ (by omega)]; assumption)
theorem fin16 {i : Nat} (h : i < 16) : vp_in (nI i) 16 := vp_in_nI h (by omega)
theorem k_C_hasFace {n c : Nat} {G : xG} {V : zV} {x : Int32} (hC : cry G c V) : xK mC_hasFace [.ref c, .int x] n G 0 0 (qI n G (bI (decide (∃ i, i < V.1.length ∧ x = nI i)))) xNo := by
  obtain ⟨hok, fh, fk, fl, fb, a1, a2, a3, b1, b2, b3, ⟨h0, h1, h2, h3, h4, h5, h6⟩, hr⟩ := id hC
  have hL := hok.1
  refine xK_of2 (L0 := [(0, _), (1, _)]) (by decide +kernel) rfl (Nat.le_of_ble_eq_true rfl) rfl ?_
  refine xs_iload_n dC_hasFace_0 rfl ?_
  refine xs_if_lt dC_hasFace_1 (fun h => ?_) (fun h => ?_)
  · have hn : ¬ ∃ i, i < V.1.length ∧ x = nI i := fun ⟨i, hi, e⟩ => by
      rw [e] at h
      exact nI_pos (by omega) h
    refine xs_iconst (v := 0) dC_hasFace_16 (by decide) ?_
    exact xs_iret dC_hasFace_17 rfl rfl (by omega) (by omega) ⟨(by rw [bI_f hn]), rfl, rfl⟩
  refine xs_iload_n dC_hasFace_4 rfl ?_
  refine xs_aload_n dC_hasFace_5 rfl ?_
  refine xs_get dC_hasFace_6 flC_24 (by first | assumption | exact va_up_self _ _ _ | exact (va_up_ne _ _ (by omega)).trans (by first | assumption | exact va_up_self _ _ _ | exact (va_up_ne _ _ (by omega)).trans (by first | assumption | exact va_up_self _ _ _ | exact (va_up_ne _ _ (by omega)).trans (by first | assumption | exact va_up_self _ _ _ | exact (va_up_ne _ _ (by omega)).trans (by first | assumption | exact va_up_self _ _ _ | exact (va_up_ne _ _ (by omega)).trans (by first | assumption | exact va_up_self _ _ _ | exact (va_up_ne _ _ (by omega)).trans (by first | assumption | exact va_up_self _ _ _ | exact (va_up_ne _ _ (by omega)).trans (by first | assumption | exact va_up_self _ _ _ | exact (va_up_ne _ _ (by omega)).trans (by first | assumption | exact va_up_self _ _ _ | exact (va_up_ne _ _ (by omega)).trans (by first | assumption | exact va_up_self _ _ _ | exact (va_up_ne _ _ (by omega)).trans (by first | assumption | exact va_up_self _ _ _ | exact (va_up_ne _ _ (by omega)).trans (by first | assumption | exact va_up_self _ _ _)))))))))))) rfl ?_
  refine xs_icmp_ge dC_hasFace_9 (fun h2 => ?_) (fun h2 => ?_)
  · have hn : ¬ ∃ i, i < V.1.length ∧ x = nI i := fun ⟨i, hi, e⟩ => by
      rw [e] at h2
      exact absurd ((nI_leI (by omega) (by omega)).mp h2) (by omega)
    refine xs_iconst (v := 0) dC_hasFace_16 (by decide) ?_
    exact xs_iret dC_hasFace_17 rfl rfl (by omega) (by omega) ⟨(by rw [bI_f hn]), rfl, rfl⟩
  · have hn : ∃ i, i < V.1.length ∧ x = nI i := by
      obtain ⟨i, hi, e⟩ := nI_of h
      refine ⟨i, ?_, e⟩
      rw [e] at h2
      rcases Nat.lt_or_ge i V.1.length with q | q
      · exact q
      · exact absurd (nI_le q (by omega)) h2
    refine xs_iconst (v := 1) dC_hasFace_12 (by decide) ?_
    refine xs_goto dC_hasFace_13 ?_
    exact xs_iret dC_hasFace_17 rfl rfl (by omega) (by omega) ⟨(by rw [bI_t hn]), rfl, rfl⟩
theorem k_C_find_loop {n n0 c : Nat} {G : xG} {V : zV} {h k l s : Int} (hC : cry G c V) (hb : h.natAbs < 1000 ∧ k.natAbs < 1000 ∧ l.natAbs < 1000 ∧ s.natAbs < 1000) : ∀ (m i : Nat), V.1.length - i < m → i ≤ V.1.length → (∀ j, j < i → V.1[j]? ≠ some ((h, k, l), s)) →
    xS mC_find n0 0 0 (qIx n (fun r H => (r = -99999 ↔ ((h, k, l), s) ∉ V.1) ∧ H = G)) xNo 3 [(0, .ref c), (1, .int (iI h)), (2, .int (iI k)), (3, .int (iI l)), (4, .int (iI s)), (5, .int (nI i))] [] n G 0 0 := by
  obtain ⟨hok, fh, fk, fl, fb, a1, a2, a3, b1, b2, b3, ⟨h0, h1, h2, h3, h4, h5, h6⟩, hr⟩ := id hC
  have hL := hok.1
  intro m
  induction m with
  | zero => intro i q1 q2; exact absurd q1 (by omega)
  | succ m ih =>
    intro i q1 q2 q3
    refine xs_iload dC_find_3 rfl ?_
    refine xs_aload_n dC_find_5 rfl ?_
    refine xs_get dC_find_6 flC_24 (by first | assumption | exact va_up_self _ _ _ | exact (va_up_ne _ _ (by omega)).trans (by first | assumption | exact va_up_self _ _ _ | exact (va_up_ne _ _ (by omega)).trans (by first | assumption | exact va_up_self _ _ _ | exact (va_up_ne _ _ (by omega)).trans (by first | assumption | exact va_up_self _ _ _ | exact (va_up_ne _ _ (by omega)).trans (by first | assumption | exact va_up_self _ _ _ | exact (va_up_ne _ _ (by omega)).trans (by first | assumption | exact va_up_self _ _ _ | exact (va_up_ne _ _ (by omega)).trans (by first | assumption | exact va_up_self _ _ _ | exact (va_up_ne _ _ (by omega)).trans (by first | assumption | exact va_up_self _ _ _ | exact (va_up_ne _ _ (by omega)).trans (by first | assumption | exact va_up_self _ _ _ | exact (va_up_ne _ _ (by omega)).trans (by first | assumption | exact va_up_self _ _ _ | exact (va_up_ne _ _ (by omega)).trans (by first | assumption | exact va_up_self _ _ _ | exact (va_up_ne _ _ (by omega)).trans (by first | assumption | exact va_up_self _ _ _)))))))))))) rfl ?_
    refine xs_icmp_ge dC_find_9 (fun hge => ?_) (fun hlt => ?_)
    · have hi : i = V.1.length := by
        have := (nI_leI (by omega) (by omega)).mp hge
        omega
      have hn : ((h, k, l), s) ∉ V.1 := fun hm => by
        obtain ⟨j, hj⟩ := List.getElem?_of_mem hm
        have hj2 := (List.getElem?_eq_some_iff.mp hj).1
        exact q3 j (by omega) hj
      refine xs_ldc dC_find_66 kcC_59 ?_
      exact xs_iret dC_find_68 rfl rfl (by omega) (by omega) ⟨_, rfl, rfl, ⟨fun _ => hn, fun _ => rfl⟩, rfl⟩
    have hi : i < V.1.length := by
      rcases Nat.lt_or_ge i V.1.length with q | q
      · exact q
      · exact absurd (nI_le q (by omega)) hlt
    have hin := fin16 (i := i) (by omega)
    obtain ⟨f, hf⟩ : ∃ f, V.1[i]? = some f := ⟨_, List.getElem?_eq_getElem hi⟩
    have hfo : fOk f := hok.2.1 f (List.mem_of_getElem? hf)
    obtain ⟨e1, e2, e3, e4⟩ := hr i f hf
    have ec : (nI i).toNatClampNeg = i := nI_clamp (by omega)
    rw [← ec] at e1 e2 e3 e4
    have hnext : f ≠ ((h, k, l), s) → xS mC_find n0 0 0 (qIx n (fun r H => (r = -99999 ↔ ((h, k, l), s) ∉ V.1) ∧ H = G)) xNo 60 [(0, .ref c), (1, .int (iI h)), (2, .int (iI k)), (3, .int (iI l)), (4, .int (iI s)), (5, .int (nI i))] [] n G 0 0 := by
      intro hne
      refine xs_iinc (L2 := [(5, _), (0, _), (1, _), (2, _), (3, _), (4, _)]) dC_find_60 rfl rfl (by decide) rfl ?_
      refine xs_goto dC_find_63 ?_
      refine xs_pick (L2 := [(0, _), (1, _), (2, _), (3, _), (4, _), (5, _)]) [1, 2, 3, 4, 5, 0] rfl ?_
      rw [xii]
      refine ih (i + 1) (by omega) (by omega) (fun j hj => ?_)
      rcases Nat.lt_or_ge j i with q | q
      · exact q3 j q
      · have hji : j = i := by omega
        subst hji
        rw [hf]
        exact fun e => hne (Option.some.inj e)
    refine xs_aload_n dC_find_12 rfl ?_
    refine xs_get dC_find_13 flC_9 (by first | assumption | exact va_up_self _ _ _ | exact (va_up_ne _ _ (by omega)).trans (by first | assumption | exact va_up_self _ _ _ | exact (va_up_ne _ _ (by omega)).trans (by first | assumption | exact va_up_self _ _ _ | exact (va_up_ne _ _ (by omega)).trans (by first | assumption | exact va_up_self _ _ _ | exact (va_up_ne _ _ (by omega)).trans (by first | assumption | exact va_up_self _ _ _ | exact (va_up_ne _ _ (by omega)).trans (by first | assumption | exact va_up_self _ _ _ | exact (va_up_ne _ _ (by omega)).trans (by first | assumption | exact va_up_self _ _ _ | exact (va_up_ne _ _ (by omega)).trans (by first | assumption | exact va_up_self _ _ _ | exact (va_up_ne _ _ (by omega)).trans (by first | assumption | exact va_up_self _ _ _ | exact (va_up_ne _ _ (by omega)).trans (by first | assumption | exact va_up_self _ _ _ | exact (va_up_ne _ _ (by omega)).trans (by first | assumption | exact va_up_self _ _ _ | exact (va_up_ne _ _ (by omega)).trans (by first | assumption | exact va_up_self _ _ _)))))))))))) rfl ?_
    refine xs_iload dC_find_16 rfl ?_
    refine xs_iald dC_find_18 (by first | assumption | exact va_up_self _ _ _ | exact (va_up_ne _ _ (by omega)).trans (by first | assumption | exact va_up_self _ _ _ | exact (va_up_ne _ _ (by omega)).trans (by first | assumption | exact va_up_self _ _ _ | exact (va_up_ne _ _ (by omega)).trans (by first | assumption | exact va_up_self _ _ _ | exact (va_up_ne _ _ (by omega)).trans (by first | assumption | exact va_up_self _ _ _ | exact (va_up_ne _ _ (by omega)).trans (by first | assumption | exact va_up_self _ _ _ | exact (va_up_ne _ _ (by omega)).trans (by first | assumption | exact va_up_self _ _ _ | exact (va_up_ne _ _ (by omega)).trans (by first | assumption | exact va_up_self _ _ _ | exact (va_up_ne _ _ (by omega)).trans (by first | assumption | exact va_up_self _ _ _ | exact (va_up_ne _ _ (by omega)).trans (by first | assumption | exact va_up_self _ _ _ | exact (va_up_ne _ _ (by omega)).trans (by first | assumption | exact va_up_self _ _ _ | exact (va_up_ne _ _ (by omega)).trans (by first | assumption | exact va_up_self _ _ _)))))))))))) (by assumption) ?_
    refine xs_iload_n dC_find_19 rfl ?_
    refine xs_icmp_ne dC_find_20 (fun z => hnext (fun e => z (by rw [e1, e]))) (fun z1 => ?_)
    refine xs_aload_n dC_find_23 rfl ?_
    refine xs_get dC_find_24 flC_15 (by first | assumption | exact va_up_self _ _ _ | exact (va_up_ne _ _ (by omega)).trans (by first | assumption | exact va_up_self _ _ _ | exact (va_up_ne _ _ (by omega)).trans (by first | assumption | exact va_up_self _ _ _ | exact (va_up_ne _ _ (by omega)).trans (by first | assumption | exact va_up_self _ _ _ | exact (va_up_ne _ _ (by omega)).trans (by first | assumption | exact va_up_self _ _ _ | exact (va_up_ne _ _ (by omega)).trans (by first | assumption | exact va_up_self _ _ _ | exact (va_up_ne _ _ (by omega)).trans (by first | assumption | exact va_up_self _ _ _ | exact (va_up_ne _ _ (by omega)).trans (by first | assumption | exact va_up_self _ _ _ | exact (va_up_ne _ _ (by omega)).trans (by first | assumption | exact va_up_self _ _ _ | exact (va_up_ne _ _ (by omega)).trans (by first | assumption | exact va_up_self _ _ _ | exact (va_up_ne _ _ (by omega)).trans (by first | assumption | exact va_up_self _ _ _ | exact (va_up_ne _ _ (by omega)).trans (by first | assumption | exact va_up_self _ _ _)))))))))))) rfl ?_
    refine xs_iload dC_find_27 rfl ?_
    refine xs_iald dC_find_29 (by first | assumption | exact va_up_self _ _ _ | exact (va_up_ne _ _ (by omega)).trans (by first | assumption | exact va_up_self _ _ _ | exact (va_up_ne _ _ (by omega)).trans (by first | assumption | exact va_up_self _ _ _ | exact (va_up_ne _ _ (by omega)).trans (by first | assumption | exact va_up_self _ _ _ | exact (va_up_ne _ _ (by omega)).trans (by first | assumption | exact va_up_self _ _ _ | exact (va_up_ne _ _ (by omega)).trans (by first | assumption | exact va_up_self _ _ _ | exact (va_up_ne _ _ (by omega)).trans (by first | assumption | exact va_up_self _ _ _ | exact (va_up_ne _ _ (by omega)).trans (by first | assumption | exact va_up_self _ _ _ | exact (va_up_ne _ _ (by omega)).trans (by first | assumption | exact va_up_self _ _ _ | exact (va_up_ne _ _ (by omega)).trans (by first | assumption | exact va_up_self _ _ _ | exact (va_up_ne _ _ (by omega)).trans (by first | assumption | exact va_up_self _ _ _ | exact (va_up_ne _ _ (by omega)).trans (by first | assumption | exact va_up_self _ _ _)))))))))))) (by assumption) ?_
    refine xs_iload_n dC_find_30 rfl ?_
    refine xs_icmp_ne dC_find_31 (fun z => hnext (fun e => z (by rw [e2, e]))) (fun z2 => ?_)
    refine xs_aload_n dC_find_34 rfl ?_
    refine xs_get dC_find_35 flC_18 (by first | assumption | exact va_up_self _ _ _ | exact (va_up_ne _ _ (by omega)).trans (by first | assumption | exact va_up_self _ _ _ | exact (va_up_ne _ _ (by omega)).trans (by first | assumption | exact va_up_self _ _ _ | exact (va_up_ne _ _ (by omega)).trans (by first | assumption | exact va_up_self _ _ _ | exact (va_up_ne _ _ (by omega)).trans (by first | assumption | exact va_up_self _ _ _ | exact (va_up_ne _ _ (by omega)).trans (by first | assumption | exact va_up_self _ _ _ | exact (va_up_ne _ _ (by omega)).trans (by first | assumption | exact va_up_self _ _ _ | exact (va_up_ne _ _ (by omega)).trans (by first | assumption | exact va_up_self _ _ _ | exact (va_up_ne _ _ (by omega)).trans (by first | assumption | exact va_up_self _ _ _ | exact (va_up_ne _ _ (by omega)).trans (by first | assumption | exact va_up_self _ _ _ | exact (va_up_ne _ _ (by omega)).trans (by first | assumption | exact va_up_self _ _ _ | exact (va_up_ne _ _ (by omega)).trans (by first | assumption | exact va_up_self _ _ _)))))))))))) rfl ?_
    refine xs_iload dC_find_38 rfl ?_
    refine xs_iald dC_find_40 (by first | assumption | exact va_up_self _ _ _ | exact (va_up_ne _ _ (by omega)).trans (by first | assumption | exact va_up_self _ _ _ | exact (va_up_ne _ _ (by omega)).trans (by first | assumption | exact va_up_self _ _ _ | exact (va_up_ne _ _ (by omega)).trans (by first | assumption | exact va_up_self _ _ _ | exact (va_up_ne _ _ (by omega)).trans (by first | assumption | exact va_up_self _ _ _ | exact (va_up_ne _ _ (by omega)).trans (by first | assumption | exact va_up_self _ _ _ | exact (va_up_ne _ _ (by omega)).trans (by first | assumption | exact va_up_self _ _ _ | exact (va_up_ne _ _ (by omega)).trans (by first | assumption | exact va_up_self _ _ _ | exact (va_up_ne _ _ (by omega)).trans (by first | assumption | exact va_up_self _ _ _ | exact (va_up_ne _ _ (by omega)).trans (by first | assumption | exact va_up_self _ _ _ | exact (va_up_ne _ _ (by omega)).trans (by first | assumption | exact va_up_self _ _ _ | exact (va_up_ne _ _ (by omega)).trans (by first | assumption | exact va_up_self _ _ _)))))))))))) (by assumption) ?_
    refine xs_iload_n dC_find_41 rfl ?_
    refine xs_icmp_ne dC_find_42 (fun z => hnext (fun e => z (by rw [e3, e]))) (fun z3 => ?_)
    refine xs_aload_n dC_find_45 rfl ?_
    refine xs_get dC_find_46 flC_21 (by first | assumption | exact va_up_self _ _ _ | exact (va_up_ne _ _ (by omega)).trans (by first | assumption | exact va_up_self _ _ _ | exact (va_up_ne _ _ (by omega)).trans (by first | assumption | exact va_up_self _ _ _ | exact (va_up_ne _ _ (by omega)).trans (by first | assumption | exact va_up_self _ _ _ | exact (va_up_ne _ _ (by omega)).trans (by first | assumption | exact va_up_self _ _ _ | exact (va_up_ne _ _ (by omega)).trans (by first | assumption | exact va_up_self _ _ _ | exact (va_up_ne _ _ (by omega)).trans (by first | assumption | exact va_up_self _ _ _ | exact (va_up_ne _ _ (by omega)).trans (by first | assumption | exact va_up_self _ _ _ | exact (va_up_ne _ _ (by omega)).trans (by first | assumption | exact va_up_self _ _ _ | exact (va_up_ne _ _ (by omega)).trans (by first | assumption | exact va_up_self _ _ _ | exact (va_up_ne _ _ (by omega)).trans (by first | assumption | exact va_up_self _ _ _ | exact (va_up_ne _ _ (by omega)).trans (by first | assumption | exact va_up_self _ _ _)))))))))))) rfl ?_
    refine xs_iload dC_find_49 rfl ?_
    refine xs_iald dC_find_51 (by first | assumption | exact va_up_self _ _ _ | exact (va_up_ne _ _ (by omega)).trans (by first | assumption | exact va_up_self _ _ _ | exact (va_up_ne _ _ (by omega)).trans (by first | assumption | exact va_up_self _ _ _ | exact (va_up_ne _ _ (by omega)).trans (by first | assumption | exact va_up_self _ _ _ | exact (va_up_ne _ _ (by omega)).trans (by first | assumption | exact va_up_self _ _ _ | exact (va_up_ne _ _ (by omega)).trans (by first | assumption | exact va_up_self _ _ _ | exact (va_up_ne _ _ (by omega)).trans (by first | assumption | exact va_up_self _ _ _ | exact (va_up_ne _ _ (by omega)).trans (by first | assumption | exact va_up_self _ _ _ | exact (va_up_ne _ _ (by omega)).trans (by first | assumption | exact va_up_self _ _ _ | exact (va_up_ne _ _ (by omega)).trans (by first | assumption | exact va_up_self _ _ _ | exact (va_up_ne _ _ (by omega)).trans (by first | assumption | exact va_up_self _ _ _ | exact (va_up_ne _ _ (by omega)).trans (by first | assumption | exact va_up_self _ _ _)))))))))))) (by assumption) ?_
    refine xs_iload dC_find_52 rfl ?_
    refine xs_icmp_ne dC_find_54 (fun z => hnext (fun e => z (by rw [e4, e]))) (fun z4 => ?_)
    refine xs_iload dC_find_57 rfl ?_
    refine xs_iret dC_find_59 rfl rfl (by omega) (by omega) ⟨_, rfl, rfl, ⟨fun e => ?_, fun hn => ?_⟩, rfl⟩
    · exfalso
      have := congrArg Int32.toInt e
      rw [nI_toInt (by omega)] at this
      have h9 : (-99999 : Int32).toInt = -99999 := by decide
      omega
    · exfalso
      apply hn
      obtain ⟨⟨f1, f2, f3⟩, f4⟩ := f
      obtain ⟨⟨g1, g2, g3⟩, -, -, g4⟩ := hfo
      simp only at g1 g2 g3 g4 e1 e2 e3 e4
      rw [e1, iI_eq (by omega) (by omega)] at z1
      rw [e2, iI_eq (by omega) (by omega)] at z2
      rw [e3, iI_eq (by omega) (by omega)] at z3
      rw [e4, iI_eq (by omega) (by omega)] at z4
      subst z1; subst z2; subst z3; subst z4
      exact List.mem_of_getElem? hf
theorem k_C_find {n c : Nat} {G : xG} {V : zV} {h k l s : Int} (hC : cry G c V) (hb : h.natAbs < 1000 ∧ k.natAbs < 1000 ∧ l.natAbs < 1000 ∧ s.natAbs < 1000) :
    xK mC_find [.ref c, .int (iI h), .int (iI k), .int (iI l), .int (iI s)] n G 0 0 (qIx n (fun r H => (r = -99999 ↔ ((h, k, l), s) ∉ V.1) ∧ H = G)) xNo := by
  refine xK_of2 (L0 := [(0, _), (1, _), (2, _), (3, _), (4, _)]) (by decide +kernel) rfl (Nat.le_of_ble_eq_true rfl) rfl ?_
  refine xs_iconst (v := 0) dC_find_0 (by decide) ?_
  refine xs_istore (L2 := [(5, _), (0, _), (1, _), (2, _), (3, _), (4, _)]) dC_find_1 (by decide) rfl ?_
  refine xs_pick (L2 := [(0, _), (1, _), (2, _), (3, _), (4, _), (5, _)]) [1, 2, 3, 4, 5, 0] rfl ?_
  exact k_C_find_loop hC hb (V.1.length + 1) 0 (by omega) (by omega) (fun j hj => absurd hj (by omega))
