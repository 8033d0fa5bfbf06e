/-! the forms: all equivalent indices, the greatest first -/
theorem nodup_len {α : Type} [DecidableEq α] : ∀ (l m : List α), l.Nodup → (∀ a, a ∈ l → a ∈ m) → l.length ≤ m.length
  | [], m, _, _ => Nat.zero_le _
  | a :: l, m, h, hs => by
    have h2 := List.nodup_cons.mp h
    have ha := hs a List.mem_cons_self
    have hl := nodup_len l (m.erase a) h2.2 (fun b hb => (List.mem_erase_of_ne (fun e => h2.1 (by rw [← e]; exact hb))).mpr (hs b (List.mem_cons_of_mem _ hb)))
    rw [List.length_erase_of_mem ha] at hl
    have := List.length_pos_of_mem ha
    rw [List.length_cons]
    omega
def dsl (i : Nat) : List Int := (List.range i).map (fun k : Nat => 9 - (k : Int))
theorem dsl_s (i : Nat) : dsl (i + 1) = dsl i ++ [9 - (i : Int)] := by
  unfold dsl
  rw [List.range_succ, List.map_append]
  rfl
theorem dsl_nodup (i : Nat) : (dsl i).Nodup := by
  refine List.pairwise_map.mpr (List.nodup_range.imp fun h e => h ?_)
  omega
def occ (b : P3) (x : Int) : Bool := decide (x.natAbs = b.1.natAbs ∨ x.natAbs = b.2.1.natAbs ∨ x.natAbs = b.2.2.natAbs)
theorem occ_iff {b : P3} {x : Int} : occ b x = true ↔ (x.natAbs = b.1.natAbs ∨ x.natAbs = b.2.1.natAbs ∨ x.natAbs = b.2.2.natAbs) := decide_eq_true_iff
def nums (b : P3) (i : Nat) : List Int := (dsl i).filter (occ b)
theorem nums_s (b : P3) (i : Nat) : nums b (i + 1) = nums b i ++ (if occ b (9 - (i : Int)) = true then [9 - (i : Int)] else []) := by
  unfold nums
  rw [dsl_s, List.filter_append, List.filter_cons]
  split <;> simp
theorem nums_nodup (b : P3) (i : Nat) : (nums b i).Nodup := (dsl_nodup i).filter _
theorem nums_le (b : P3) (i : Nat) : (nums b i).length ≤ 6 := by
  refine nodup_len (nums b i) [b.1, -b.1, b.2.1, -b.2.1, b.2.2, -b.2.2] (nums_nodup b i) (fun x hx => ?_)
  have h := occ_iff.mp (List.mem_filter.mp hx).2
  simp only [List.mem_cons, List.not_mem_nil, or_false]
  omega
theorem dsl_bd {i : Nat} (hi : i ≤ 19) {x : Int} (hx : x ∈ dsl i) : x.natAbs < 10 := by
  obtain ⟨k, hk, rfl⟩ := List.mem_map.mp hx
  have := List.mem_range.mp hk
  omega
/-- three numbers out of a list -/
def cb (l : List Int) : List P3 := l.flatMap fun x => l.flatMap fun y => l.map fun z => (x, y, z)
theorem cb_mem {l : List Int} {q : P3} : q ∈ cb l ↔ q.1 ∈ l ∧ q.2.1 ∈ l ∧ q.2.2 ∈ l := by
  obtain ⟨x, y, z⟩ := q
  simp only [cb, List.mem_flatMap, List.mem_map, Prod.mk.injEq]
  constructor
  · rintro ⟨x2, h1, y2, h2, z2, h3, rfl, rfl, rfl⟩
    exact ⟨h1, h2, h3⟩
  · rintro ⟨h1, h2, h3⟩
    exact ⟨x, h1, y, h2, z, h3, rfl, rfl, rfl⟩
theorem cb_nodup {l : List Int} (h : l.Nodup) : (cb l).Nodup := by
  refine List.pairwise_flatMap.mpr ⟨fun x _ => List.pairwise_flatMap.mpr ⟨fun y _ => List.pairwise_map.mpr (h.imp fun hne e => hne ?_), h.imp fun hne p hp q hq e => hne ?_⟩, h.imp fun hne p hp q hq e => hne ?_⟩
  · simp only [Prod.mk.injEq] at e
    exact e.2.2
  · obtain ⟨_, _, rfl⟩ := List.mem_map.mp hp
    obtain ⟨_, _, rfl⟩ := List.mem_map.mp hq
    simp only [Prod.mk.injEq] at e
    exact e.2.1
  · obtain ⟨_, _, hp⟩ := List.mem_flatMap.mp hp
    obtain ⟨_, _, hq⟩ := List.mem_flatMap.mp hq
    obtain ⟨_, _, rfl⟩ := List.mem_map.mp hp
    obtain ⟨_, _, rfl⟩ := List.mem_map.mp hq
    simp only [Prod.mk.injEq] at e
    exact e.1
theorem zEq_perm {s : Int} {q b : P3} (h : zEqP s q b) :
    (q.1.natAbs = b.1.natAbs ∧ (q.2.1.natAbs = b.2.1.natAbs ∧ q.2.2.natAbs = b.2.2.natAbs ∨ q.2.1.natAbs = b.2.2.natAbs ∧ q.2.2.natAbs = b.2.1.natAbs)) ∨
    (q.1.natAbs = b.2.1.natAbs ∧ (q.2.1.natAbs = b.1.natAbs ∧ q.2.2.natAbs = b.2.2.natAbs ∨ q.2.1.natAbs = b.2.2.natAbs ∧ q.2.2.natAbs = b.1.natAbs)) ∨
    (q.1.natAbs = b.2.2.natAbs ∧ (q.2.1.natAbs = b.1.natAbs ∧ q.2.2.natAbs = b.2.1.natAbs ∨ q.2.1.natAbs = b.2.1.natAbs ∧ q.2.2.natAbs = b.1.natAbs)) := by
  unfold zEqP at h
  split at h
  · rcases h with rfl | rfl
    · exact Or.inl ⟨rfl, Or.inl ⟨rfl, rfl⟩⟩
    · exact Or.inl ⟨Int.natAbs_neg _, Or.inl ⟨Int.natAbs_neg _, Int.natAbs_neg _⟩⟩
  split at h
  · obtain ⟨h2, ⟨h1, h3⟩ | ⟨h1, h3⟩⟩ := h
    · exact Or.inl ⟨by rw [h1], Or.inl ⟨h2, by rw [h3]⟩⟩
    · exact Or.inl ⟨by rw [h1, Int.natAbs_neg], Or.inl ⟨h2, by rw [h3, Int.natAbs_neg]⟩⟩
  split at h
  · exact Or.inl ⟨h.1, Or.inl h.2⟩
  split at h
  · obtain ⟨h3, ⟨h1, h2⟩ | ⟨h1, h2⟩⟩ := h
    · exact Or.inl ⟨h1, Or.inl ⟨h2, h3⟩⟩
    · exact Or.inr (Or.inl ⟨h1, Or.inl ⟨h2, h3⟩⟩)
  · exact h
def sgn (p : P3) : List P3 := [(p.1, p.2.1, p.2.2), (p.1, p.2.1, -p.2.2), (p.1, -p.2.1, p.2.2), (p.1, -p.2.1, -p.2.2), (-p.1, p.2.1, p.2.2), (-p.1, p.2.1, -p.2.2), (-p.1, -p.2.1, p.2.2), (-p.1, -p.2.1, -p.2.2)]
theorem sgn_mem {p q : P3} (h1 : q.1.natAbs = p.1.natAbs) (h2 : q.2.1.natAbs = p.2.1.natAbs) (h3 : q.2.2.natAbs = p.2.2.natAbs) : q ∈ sgn p := by
  obtain ⟨x, y, z⟩ := q
  obtain ⟨a, b, c⟩ := p
  simp only at h1 h2 h3
  rcases Int.natAbs_eq_natAbs_iff.mp h1 with rfl | rfl <;> rcases Int.natAbs_eq_natAbs_iff.mp h2 with rfl | rfl <;> rcases Int.natAbs_eq_natAbs_iff.mp h3 with rfl | rfl <;> simp [sgn]
noncomputable def frm (s : Int) (b : P3) : List P3 := (cb (nums b 19)).filter (fun q => zEq s q b)
theorem zEq_P {s : Int} {q b : P3} : zEq s q b = true ↔ zEqP s q b := by
  unfold zEq
  exact @decide_eq_true_iff _ (Classical.propDecidable _)
theorem frm_le (s : Int) (b : P3) : (frm s b).length ≤ 48 := by
  refine nodup_len (frm s b) (sgn (b.1, b.2.1, b.2.2) ++ (sgn (b.1, b.2.2, b.2.1) ++ (sgn (b.2.1, b.1, b.2.2) ++ (sgn (b.2.1, b.2.2, b.1) ++ (sgn (b.2.2, b.1, b.2.1) ++ sgn (b.2.2, b.2.1, b.1)))))) ((cb_nodup (nums_nodup b 19)).filter _) (fun q hq => ?_)
  have h := zEq_perm (zEq_P.mp (List.mem_filter.mp hq).2)
  simp only [List.mem_append]
  rcases h with ⟨h1, ⟨h2, h3⟩ | ⟨h2, h3⟩⟩ | ⟨h1, ⟨h2, h3⟩ | ⟨h2, h3⟩⟩ | ⟨h1, ⟨h2, h3⟩ | ⟨h2, h3⟩⟩
  · exact Or.inl (sgn_mem h1 h2 h3)
  · exact Or.inr (Or.inl (sgn_mem h1 h2 h3))
  · exact Or.inr (Or.inr (Or.inl (sgn_mem h1 h2 h3)))
  · exact Or.inr (Or.inr (Or.inr (Or.inl (sgn_mem h1 h2 h3))))
  · exact Or.inr (Or.inr (Or.inr (Or.inr (Or.inl (sgn_mem h1 h2 h3)))))
  · exact Or.inr (Or.inr (Or.inr (Or.inr (Or.inr (sgn_mem h1 h2 h3)))))
def pC (l : List Int) (x y : Int) (c : Nat) : List P3 := (l.take c).map fun z => (x, y, z)
def pB (l : List Int) (x : Int) (b : Nat) : List P3 := (l.take b).flatMap fun y => l.map fun z => (x, y, z)
def pA (l : List Int) (a : Nat) : List P3 := (l.take a).flatMap fun x => l.flatMap fun y => l.map fun z => (x, y, z)
theorem sp_at {l : List Int} {a : Nat} {x : Int} (h : l[a]? = some x) : l = l.take a ++ x :: l.drop (a + 1) := by
  obtain ⟨h2, rfl⟩ := List.getElem?_eq_some_iff.mp h
  rw [← List.drop_eq_getElem_cons h2, List.take_append_drop]
theorem take_sI {l : List Int} {a : Nat} {x : Int} (h : l[a]? = some x) : l.take (a + 1) = l.take a ++ [x] := by
  rw [List.take_succ, h]
  rfl
theorem pC_s {l : List Int} {x y z : Int} {c : Nat} (h : l[c]? = some z) : pC l x y (c + 1) = pC l x y c ++ [(x, y, z)] := by
  unfold pC
  rw [take_sI h, List.map_append]
  rfl
theorem pB_s {l : List Int} {x y : Int} {b : Nat} (h : l[b]? = some y) : pB l x (b + 1) = pB l x b ++ l.map fun z => (x, y, z) := by
  unfold pB
  rw [take_sI h, List.flatMap_append, List.flatMap_singleton]
theorem pA_s {l : List Int} {x : Int} {a : Nat} (h : l[a]? = some x) : pA l (a + 1) = pA l a ++ l.flatMap fun y => l.map fun z => (x, y, z) := by
  unfold pA
  rw [take_sI h, List.flatMap_append, List.flatMap_singleton]
theorem pC_e {l : List Int} {x y : Int} {c : Nat} (h : l.length ≤ c) : pC l x y c = l.map fun z => (x, y, z) := by
  unfold pC
  rw [List.take_of_length_le h]
theorem pB_e {l : List Int} {x : Int} {b : Nat} (h : l.length ≤ b) : pB l x b = l.flatMap fun y => l.map fun z => (x, y, z) := by
  unfold pB
  rw [List.take_of_length_le h]
theorem pA_e {l : List Int} {a : Nat} (h : l.length ≤ a) : pA l a = cb l := by
  unfold pA
  rw [List.take_of_length_le h]
  rfl
theorem pC_le {l : List Int} {x y z : Int} {c : Nat} {E : P3 → Bool} (h : l[c]? = some z) (hE : E (x, y, z) = true) : ((pC l x y c).filter E).length + 1 ≤ ((l.map fun z => (x, y, z)).filter E).length := by
  have e : (l.map fun z => (x, y, z)) = pC l x y c ++ (x, y, z) :: (l.drop (c + 1)).map fun z => (x, y, z) := by
    have := congrArg (List.map fun z => (x, y, z)) (sp_at h)
    rw [List.map_append, List.map_cons] at this
    exact this
  rw [e, List.filter_append, List.length_append, List.filter_cons, if_pos hE, List.length_cons]
  omega
theorem pB_le {l : List Int} {x y : Int} {b : Nat} {E : P3 → Bool} (h : l[b]? = some y) : ((pB l x b).filter E).length + ((l.map fun z => (x, y, z)).filter E).length ≤ ((l.flatMap fun y => l.map fun z => (x, y, z)).filter E).length := by
  have e : (l.flatMap fun y => l.map fun z => (x, y, z)) = pB l x b ++ ((l.map fun z => (x, y, z)) ++ (l.drop (b + 1)).flatMap fun y => l.map fun z => (x, y, z)) := by
    have := congrArg (List.flatMap fun y => l.map fun z => (x, y, z)) (sp_at h)
    rw [List.flatMap_append, List.flatMap_cons] at this
    exact this
  rw [e, List.filter_append, List.length_append, List.filter_append, List.length_append]
  omega
theorem pA_le {l : List Int} {x : Int} {a : Nat} {E : P3 → Bool} (h : l[a]? = some x) : ((pA l a).filter E).length + ((l.flatMap fun y => l.map fun z => (x, y, z)).filter E).length ≤ ((cb l).filter E).length := by
  have e : cb l = pA l a ++ ((l.flatMap fun y => l.map fun z => (x, y, z)) ++ (l.drop (a + 1)).flatMap fun x => l.flatMap fun y => l.map fun z => (x, y, z)) := by
    have := congrArg (List.flatMap fun x => l.flatMap fun y => l.map fun z => (x, y, z)) (sp_at h)
    rw [List.flatMap_append, List.flatMap_cons] at this
    exact this
  rw [e, List.filter_append, List.length_append, List.filter_append, List.length_append]
  omega
theorem frm_room {l : List Int} {x y z : Int} {a b c : Nat} {E : P3 → Bool} (hx : l[a]? = some x) (hy : l[b]? = some y) (hz : l[c]? = some z) (hE : E (x, y, z) = true) (h : ((cb l).filter E).length ≤ 48) : ((pA l a ++ (pB l x b ++ pC l x y c)).filter E).length < 48 := by
  have h1 := pC_le (x := x) (y := y) hz hE
  have h2 := pB_le (x := x) (E := E) hy
  have h3 := pA_le (E := E) hx
  rw [List.filter_append, List.length_append, List.filter_append, List.length_append]
  omega
