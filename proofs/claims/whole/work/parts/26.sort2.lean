/-- where a place's thing came from: while the hole moves down, and at its end -/
def tau (a n j : Nat) : Nat := if a < j ∧ j ≤ n then j - 1 else j
def sig (a n j : Nat) : Nat := if j = a then n else tau a n j
theorem sig_lt {a n j N : Nat} (han : a ≤ n) (hn : n < N) (hj : j < N) : sig a n j < N := by
  unfold sig tau
  split
  · exact hn
  · split <;> omega
theorem sig_inj {a n i j : Nat} (han : a ≤ n) (h : sig a n i = sig a n j) : i = j := by
  unfold sig tau at h
  split at h <;> split at h <;> (try split at h) <;> (try split at h) <;> omega
theorem sig_sur {a n k N : Nat} (han : a ≤ n) (hn : n < N) (hk : k < N) : ∃ j, j < N ∧ sig a n j = k := by
  by_cases h1 : k = n
  · exact ⟨a, by omega, by unfold sig; rw [if_pos rfl, h1]⟩
  · by_cases h2 : k < a ∨ n < k
    · exact ⟨k, hk, by unfold sig tau; rw [if_neg (by omega), if_neg (by omega)]⟩
    · exact ⟨k + 1, by omega, by unfold sig tau; rw [if_neg (by omega), if_pos (by omega)]; omega⟩
/-- a list read through a change of places -/
def permL (Z : List P3) (f : Nat → Nat) : List P3 := (List.range Z.length).map (fun j => Z.getD (f j) (0, 0, 0))
theorem permL_len (Z : List P3) (f : Nat → Nat) : (permL Z f).length = Z.length := by simp [permL]
theorem permL_get {Z : List P3} {f : Nat → Nat} (hf : ∀ j, j < Z.length → f j < Z.length) {j : Nat} (hj : j < Z.length) : (permL Z f)[j]? = Z[f j]? := by
  have h1 := hf j hj
  simp [permL, hj, List.getD_eq_getElem?_getD, List.getElem?_eq_getElem h1]
def bef (D : List P3) (a b : P3) : Prop := befK (pc (mem D a)) a (pc (mem D b)) b
def srt (D : List P3) (n : Nat) (Z : List P3) : Prop := ∀ (i j : Nat) (a b : P3), i < j → j < n → Z[i]? = some a → Z[j]? = some b → bef D a b
def injL (Z : List P3) : Prop := ∀ (i j : Nat) (a : P3), Z[i]? = some a → Z[j]? = some a → i = j
theorem injL_of {Z : List P3} (h : Z.Nodup) : injL Z := by
  intro i j a h1 h2
  obtain ⟨l1, e1⟩ := List.getElem?_eq_some_iff.mp h1
  obtain ⟨l2, e2⟩ := List.getElem?_eq_some_iff.mp h2
  have hp := List.pairwise_iff_getElem.mp h
  rcases Nat.lt_trichotomy i j with q | q | q
  · exact absurd (e1.trans e2.symm) (hp i j l1 l2 q)
  · exact q
  · exact absurd (e2.trans e1.symm) (hp j i l2 l1 q)
/-- all, once, in their order -/
def zFin (D : List P3) (lst : Int) (n : Nat) (Z : List P3) : Prop := injL Z ∧ (∀ a, a ∈ Z ↔ (isAx D a (fun _ _ => True) ∧ lsd D lst a = true)) ∧ srt D n Z
theorem zFin_step {D : List P3} {lst : Int} {n a : Nat} {Z : List P3} {x : P3} (h : zFin D lst n Z) (han : a ≤ n) (hn : n < Z.length) (hx : Z[n]? = some x) (hlo : ∀ b, 0 < a → Z[a - 1]? = some b → ¬ bef D x b) (hhi : ∀ j b, a ≤ j → j < n → Z[j]? = some b → bef D x b) : zFin D lst (n + 1) (permL Z (sig a n)) := by
  obtain ⟨h1, h2, h3⟩ := h
  have hf : ∀ j, j < Z.length → sig a n j < Z.length := fun j hj => sig_lt han hn hj
  have hg : ∀ {j : Nat} {b : P3}, (permL Z (sig a n))[j]? = some b → j < Z.length ∧ Z[sig a n j]? = some b := fun {j b} hb => by
    have hl := (List.getElem?_eq_some_iff.mp hb).1
    rw [permL_len] at hl
    rw [permL_get hf hl] at hb
    exact ⟨hl, hb⟩
  refine ⟨fun i j b hi hj => ?_, fun b => ?_, fun i j b c hij hjn hi hj => ?_⟩
  · exact sig_inj han (h1 _ _ b (hg hi).2 (hg hj).2)
  · rw [← h2 b]
    constructor
    · intro hb
      obtain ⟨j, hj⟩ := List.getElem?_of_mem hb
      exact List.mem_of_getElem? (hg hj).2
    · intro hb
      obtain ⟨k, hk⟩ := List.getElem?_of_mem hb
      have hkl := (List.getElem?_eq_some_iff.mp hk).1
      obtain ⟨j, hj, e⟩ := sig_sur (a := a) (n := n) han hn hkl
      have : (permL Z (sig a n))[j]? = some b := by rw [permL_get hf hj, e, hk]
      exact List.mem_of_getElem? this
  · obtain ⟨li, gi⟩ := hg hi
    obtain ⟨lj, gj⟩ := hg hj
    -- a place below n holds something that stands before x or behind it
    have below : ∀ k y, k < a → Z[k]? = some y → bef D y x := by
      intro k y hk hy
      have ha1 : a - 1 < Z.length := by omega
      obtain ⟨w, hw⟩ : ∃ w, Z[a - 1]? = some w := ⟨_, List.getElem?_eq_getElem ha1⟩
      have hwx : bef D w x := befK_tot (hlo w (by omega) hw) (fun e => by
        have := h1 (a - 1) n x (by rw [hw, ← e]) hx
        omega)
      by_cases hka : k = a - 1
      · subst hka
        cases hw.symm.trans hy
        exact hwx
      · exact befK_trans (h3 k (a - 1) y w (by omega) (by omega) hy hw) hwx
    unfold sig tau at gi gj
    by_cases i1 : i = a
    · rw [if_pos i1] at gi
      cases hx.symm.trans gi
      rw [if_neg (by omega), if_pos (by omega)] at gj
      exact hhi (j - 1) c (by omega) (by omega) gj
    · rw [if_neg i1] at gi
      by_cases j1 : j = a
      · rw [if_pos j1] at gj
        cases hx.symm.trans gj
        rw [if_neg (by omega)] at gi
        exact below i b (by omega) gi
      · rw [if_neg j1] at gj
        by_cases i2 : a < i ∧ i ≤ n
        · rw [if_pos i2] at gi
          rw [if_pos (by omega)] at gj
          exact h3 (i - 1) (j - 1) b c (by omega) (by omega) gi gj
        · rw [if_neg i2] at gi
          by_cases j2 : a < j ∧ j ≤ n
          · rw [if_pos j2] at gj
            exact h3 i (j - 1) b c (by omega) (by omega) gi gj
          · rw [if_neg j2] at gj
            exact h3 i j b c hij (by omega) gi gj
/-- two lists that hold the same, each in order, are one -/
theorem srt_one (D : List P3) : ∀ (Z Y : List P3), injL Z → injL Y → (∀ a, a ∈ Z ↔ a ∈ Y) → srt D Z.length Z → srt D Y.length Y → Z = Y := by
  intro Z
  induction Z with
  | nil =>
    intro Y _ _ h _ _
    cases Y with
    | nil => rfl
    | cons y Y => exact absurd ((h y).mpr List.mem_cons_self) List.not_mem_nil
  | cons z Z ih =>
    intro Y iz iy h sz sy
    cases Y with
    | nil => exact absurd ((h z).mp List.mem_cons_self) List.not_mem_nil
    | cons y Y =>
      have hzy : z = y := by
        rcases List.mem_cons.mp ((h z).mp List.mem_cons_self) with q | q
        · exact q
        · rcases List.mem_cons.mp ((h y).mpr List.mem_cons_self) with r | r
          · exact r.symm
          · exfalso
            obtain ⟨i, hi⟩ := List.getElem?_of_mem q
            obtain ⟨j, hj⟩ := List.getElem?_of_mem r
            have li := (List.getElem?_eq_some_iff.mp hi).1
            have lj := (List.getElem?_eq_some_iff.mp hj).1
            have b1 : bef D y z := sy 0 (i + 1) y z (by omega) (by simp only [List.length_cons]; omega) rfl (by rw [List.getElem?_cons_succ]; exact hi)
            have b2 : bef D z y := sz 0 (j + 1) z y (by omega) (by simp only [List.length_cons]; omega) rfl (by rw [List.getElem?_cons_succ]; exact hj)
            exact befK_irr (befK_trans b1 b2)
      subst hzy
      have tl : ∀ {W : List P3}, injL (z :: W) → injL W := fun {W} hW i j a h1 h2 => by
        have := hW (i + 1) (j + 1) a (by rw [List.getElem?_cons_succ]; exact h1) (by rw [List.getElem?_cons_succ]; exact h2)
        omega
      have nm : ∀ {W : List P3}, injL (z :: W) → z ∉ W := fun {W} hW hm => by
        obtain ⟨i, hi⟩ := List.getElem?_of_mem hm
        have := hW 0 (i + 1) z rfl (by rw [List.getElem?_cons_succ]; exact hi)
        omega
      have ts : ∀ {W : List P3}, srt D (z :: W).length (z :: W) → srt D W.length W := fun {W} hW i j a b q1 q2 q3 q4 =>
        hW (i + 1) (j + 1) a b (by omega) (by simp only [List.length_cons]; omega) (by rw [List.getElem?_cons_succ]; exact q3) (by rw [List.getElem?_cons_succ]; exact q4)
      rw [ih Y (tl iz) (tl iy) (fun a => ⟨fun ha => ?_, fun ha => ?_⟩) (ts sz) (ts sy)]
      · rcases List.mem_cons.mp ((h a).mp (List.mem_cons_of_mem _ ha)) with q | q
        · rw [q] at ha
          exact absurd ha (nm iz)
        · exact q
      · rcases List.mem_cons.mp ((h a).mpr (List.mem_cons_of_mem _ ha)) with q | q
        · rw [q] at ha
          exact absurd ha (nm iy)
        · exact q
