/-! a list of zones: sixteen directions, a hundred and twenty axes, by references that change places -/
def zlo (G : xG) (z : Nat) (fd fa : Nat → Option Nat) (pa : Nat → Nat) (ms cv : Nat → Int32) (fcs cnt : Nat) : Prop :=
  (G z = .inr (6, [.ref (z + 1), .ref (z + 2), .ref (z + 3), .ref (z + 4), .int (nI fcs), .int (nI cnt)]) ∧ G (z + 1) = .inl (3, 16, .inr (.inr (.inr (.inr fd)))) ∧ G (z + 2) = .inl (3, 120, .inr (.inr (.inr (.inr fa)))) ∧ G (z + 3) = .inl (0, 120, .inl ms) ∧ G (z + 4) = .inl (0, 16, .inl cv)) ∧
  ((∀ j, j < 16 → fd j = some (z + 5 + j)) ∧ (∀ j, j < 120 → fa j = some (pa j)) ∧ (∀ j, j < 120 → z + 21 ≤ pa j ∧ pa j < z + 141) ∧ (∀ i j, i < 120 → j < 120 → pa i = pa j → i = j)) ∧
  (∀ k, z + 5 ≤ k → k < z + 141 → ∃ a b c, G k = xT a b c) ∧ (fcs ≤ 16 ∧ cnt ≤ 120)
def dOk (D : List P3) : Prop := D.length ≤ 16 ∧ ∀ d ∈ D, bd 730 d ∧ d ≠ (0, 0, 0) ∧ g3 d = 1
/-- the directions are there -/
def zdr (G : xG) (z : Nat) (D : List P3) : Prop := ∀ j d, D[j]? = some d → G (z + 5 + j) = xTp d
/-- the faces in a zone, as bits -/
def inz (D : List P3) (a : P3) (i : Nat) : Bool := match D[i]? with
  | some d => decide (dt d a = 0)
  | none => false
def mem (D : List P3) (a : P3) : Nat := mk (inz D a) D.length
theorem zlo_tri {G : xG} {z : Nat} {fd fa : Nat → Option Nat} {pa : Nat → Nat} {ms cv : Nat → Int32} {fcs cnt t : Nat} {a b c : Int64} (h : zlo G z fd fa pa ms cv fcs cnt) (h1 : z + 5 ≤ t) (h2 : t < z + 141) : zlo (va_up G t (xT a b c)) z fd fa pa ms cv fcs cnt := by
  obtain ⟨⟨g0, g1, g2, g3, g4⟩, hf, ht, hn⟩ := h
  refine ⟨⟨?_, ?_, ?_, ?_, ?_⟩, hf, fun k hk hk2 => ?_, hn⟩
  · rw [va_up_ne _ _ (by omega)]; exact g0
  · rw [va_up_ne _ _ (by omega)]; exact g1
  · rw [va_up_ne _ _ (by omega)]; exact g2
  · rw [va_up_ne _ _ (by omega)]; exact g3
  · rw [va_up_ne _ _ (by omega)]; exact g4
  · by_cases hkt : k = t
    · subst hkt
      exact ⟨a, b, c, va_up_self _ _ _⟩
    · rw [va_up_ne _ _ hkt]
      exact ht k hk hk2
theorem zlo_fr {G H : xG} {z : Nat} {fd fa : Nat → Option Nat} {pa : Nat → Nat} {ms cv : Nat → Int32} {fcs cnt : Nat} (h : zlo G z fd fa pa ms cv fcs cnt) (hf : ∀ k, z ≤ k → k < z + 141 → H k = G k) : zlo H z fd fa pa ms cv fcs cnt := by
  obtain ⟨⟨g0, g1, g2, g3, g4⟩, hff, ht, hn⟩ := h
  refine ⟨⟨?_, ?_, ?_, ?_, ?_⟩, hff, fun k hk hk2 => ?_, hn⟩
  · rw [hf _ (by omega) (by omega)]; exact g0
  · rw [hf _ (by omega) (by omega)]; exact g1
  · rw [hf _ (by omega) (by omega)]; exact g2
  · rw [hf _ (by omega) (by omega)]; exact g3
  · rw [hf _ (by omega) (by omega)]; exact g4
  · rw [hf _ (by omega) (by omega)]
    exact ht k hk hk2
/-- the directions of a crystal's faces -/
def zDirs (V : zV) : List P3 := V.1.map (zDir V.2.2.2)
theorem zDir_ok {w : P3} {f : zF} (hw : tOk w) (hf : fOk f) : bd 730 (zDir w f) ∧ zDir w f ≠ (0, 0, 0) ∧ g3 (zDir w f) = 1 := by
  unfold zDir
  split
  · exact ⟨bd_mono hf.1 (by omega), hf.2.1, hf.2.2.1⟩
  · have hne : mir w f.1 ≠ (0, 0, 0) := by
      intro e
      obtain ⟨⟨p1, p2, p3⟩, s⟩ := f
      obtain ⟨w1, w2, w3⟩ := w
      have hp : (p1, p2, p3) ≠ ((0, 0, 0) : P3) := hf.2.1
      have hw0 : (w1, w2, w3) ≠ ((0, 0, 0) : P3) := hw.2.1
      simp only [mir, dt, Prod.mk.injEq] at e
      obtain ⟨e1, e2, e3⟩ := e
      have k1 : (w1 * w1 + w2 * w2 + w3 * w3) * (p1 * w1 + p2 * w2 + p3 * w3) = 0 := by grind
      have sq : ∀ x : Int, 0 ≤ x * x := fun x => by
        rcases Int.le_total 0 x with h | h
        · exact Int.mul_nonneg h h
        · have := Int.mul_nonneg (show 0 ≤ -x by omega) (show 0 ≤ -x by omega)
          grind
      have z0 : ∀ x : Int, x * x = 0 → x = 0 := fun x h => by
        rcases Int.mul_eq_zero.mp h with q | q <;> exact q
      have hT : w1 * w1 + w2 * w2 + w3 * w3 ≠ 0 := by
        intro q
        have a1 := sq w1
        have a2 := sq w2
        have a3 := sq w3
        exact hw0 (by rw [z0 w1 (by omega), z0 w2 (by omega), z0 w3 (by omega)])
      have k2 : p1 * w1 + p2 * w2 + p3 * w3 = 0 := by
        rcases Int.mul_eq_zero.mp k1 with q | q
        · exact absurd q hT
        · exact q
      rw [k2] at e1 e2 e3
      simp only [Int.mul_zero, Int.zero_mul, Int.sub_zero] at e1 e2 e3
      have y : ∀ x : Int, (w1 * w1 + w2 * w2 + w3 * w3) * x = 0 → x = 0 := fun x h => by
        rcases Int.mul_eq_zero.mp h with q | q
        · exact absurd q hT
        · exact q
      exact hp (by rw [y p1 e1, y p2 e2, y p3 e3])
    exact ⟨bd_dv (mir_bd hw.1 hf.1), dv_ne hne, g3_dv hne⟩
theorem zDirs_ok {V : zV} (h : zOk V) : dOk (zDirs V) := by
  refine ⟨by rw [zDirs, List.length_map]; exact h.1, fun d hd => ?_⟩
  obtain ⟨f, hf, rfl⟩ := List.mem_map.mp hd
  exact zDir_ok h.2.2.2.2 (h.2.1 f hf)
theorem k_Z_aim {n z c : Nat} {G : xG} {V : zV} {fd fa : Nat → Option Nat} {pa : Nat → Nat} {ms cv : Nat → Int32} {fcs cnt : Nat} (hZ : zlo G z fd fa pa ms cv fcs cnt) (hC : cry G c V) (hd : c + 7 ≤ z ∨ z + 141 ≤ c) :
    xK mZ_aim [.ref z, .ref c] n G 0 0 (qVx n (fun H => zlo H z fd fa pa ms cv V.1.length cnt ∧ zdr H z (zDirs V) ∧ xfr z (z + 141) G H)) xNo := by
  have hok := hC.1
  have hL := hok.1
  have loop : ∀ (m i : Nat) (H : xG), V.1.length - i < m → i ≤ V.1.length → zlo H z fd fa pa ms cv V.1.length cnt → (∀ j d, j < i → (zDirs V)[j]? = some d → H (z + 5 + j) = xTp d) → xfr z (z + 141) G H →
      xS mZ_aim n 0 0 (qVx n (fun H => zlo H z fd fa pa ms cv V.1.length cnt ∧ zdr H z (zDirs V) ∧ xfr z (z + 141) G H)) xNo 10 [(0, .ref z), (1, .ref c), (2, .int (nI i))] [] n H 0 0 := by
    intro m
    induction m with
    | zero => intro i H q; exact absurd q (by omega)
    | succ m ih =>
      intro i H q1 q2 hz hdir hfr
      obtain ⟨⟨g0, g1, g2, g3, g4⟩, ⟨f1, f2, f3, f4⟩, ht, hn⟩ := id hz
      refine xs_iload_n dZ_aim_10 rfl ?_
      refine xs_aload_n dZ_aim_11 rfl ?_
      refine xs_get dZ_aim_12 flZ_27 (by repeat (first | assumption | exact va_up_self _ _ _ | refine (va_up_ne _ _ (by omega)).trans ?_)) rfl ?_
      refine xs_icmp_ge dZ_aim_15 (fun hg => ?_) (fun hg => ?_)
      · have hi := (nI_leI (by omega) (by omega)).mp hg
        refine xs_vret dZ_aim_35 rfl (by omega) (by omega) ⟨rfl, rfl, hz, fun j d hj => ?_, hfr⟩
        have hjl := (List.getElem?_eq_some_iff.mp hj).1
        rw [zDirs, List.length_map] at hjl
        exact hdir j d (by omega) hj
      · have hi : i < V.1.length := by
          rcases Nat.lt_or_ge i V.1.length with q | q
          · exact q
          · exact absurd (nI_le q (by omega)) hg
        obtain ⟨f, hf⟩ : ∃ f, V.1[i]? = some f := ⟨_, List.getElem?_eq_getElem hi⟩
        have hin := fin16 (i := i) (by omega)
        have hfi : fd (nI i).toNatClampNeg = some (z + 5 + i) := by rw [nI_clamp (by omega)]; exact f1 i (by omega)
        obtain ⟨x, y, w, hT⟩ := ht (z + 5 + i) (by omega) (by omega)
        have hCH : cry H c V := cry_fr hC (fun k hk hk2 => hfr k (by omega))
        have hcell := cry_cell hCH
        refine xs_aload_n dZ_aim_18 rfl ?_
        refine xs_iload_n dZ_aim_19 rfl ?_
        refine xs_aload_n dZ_aim_20 rfl ?_
        refine xs_get dZ_aim_21 flZ_11 (by repeat (first | assumption | exact va_up_self _ _ _ | refine (va_up_ne _ _ (by omega)).trans ?_)) rfl ?_
        refine xs_iload_n dZ_aim_24 rfl ?_
        refine xs_ald3 dZ_aim_25 (by repeat (first | assumption | exact va_up_self _ _ _ | refine (va_up_ne _ _ (by omega)).trans ?_)) (by assumption) (by assumption) ?_
        refine xs_cV_v (As := [_, _]) dZ_aim_26 lkZ_38 (by repeat (first | assumption | exact va_up_self _ _ _ | refine (va_up_ne _ _ (by omega)).trans ?_)) (k_C_putDirection hCH hf hT (by omega)) rfl rfl (Nat.le_of_ble_eq_true rfl) ⟨by decide, by decide⟩ ⟨by omega, by omega⟩ ?_
        refine xs_iinc (L2 := [(2, _), (0, _), (1, _)]) dZ_aim_29 rfl rfl (by decide) rfl ?_
        refine xs_goto dZ_aim_32 ?_
        refine xs_pick (L2 := [(0, _), (1, _), (2, _)]) [1, 2, 0] rfl ?_
        rw [xii]
        refine ih (i + 1) _ (by omega) (by omega) (zlo_tri hz (by omega) (by omega)) (fun j d hj hjd => ?_) (xfr_up hfr (by omega) (by omega))
        by_cases hji : j = i
        · subst hji
          rw [zDirs, List.getElem?_map, hf] at hjd
          cases hjd
          rw [va_up_self]
        · rw [va_up_ne _ _ (by omega)]
          exact hdir j d (by omega) hjd
  obtain ⟨⟨g0, g1, g2, g3, g4⟩, ⟨f1, f2, f3, f4⟩, ht, hn⟩ := id hZ
  have hcell := cry_cell hC
  refine xK_of2 (L0 := [(0, _), (1, _)]) (by decide +kernel) rfl (Nat.le_of_ble_eq_true rfl) rfl ?_
  refine xs_aload_n dZ_aim_0 rfl ?_
  refine xs_aload_n dZ_aim_1 rfl ?_
  refine xs_get dZ_aim_2 flZ_35 (by repeat (first | assumption | exact va_up_self _ _ _ | refine (va_up_ne _ _ (by omega)).trans ?_)) rfl ?_
  refine xs_put dZ_aim_5 flZ_27 ft6_4 (by repeat (first | assumption | exact va_up_self _ _ _ | refine (va_up_ne _ _ (by omega)).trans ?_)) (fun _ => rfl) (fun _ => rfl) (by simp) ?_
  refine xs_iconst (v := 0) dZ_aim_8 (by decide) ?_
  refine xs_istore_n (L2 := [(2, _), (0, _), (1, _)]) dZ_aim_9 (by decide) rfl ?_
  refine xs_pick (L2 := [(0, _), (1, _), (2, _)]) [1, 2, 0] rfl ?_
  refine loop (V.1.length + 1) 0 _ (by omega) (by omega) ⟨⟨va_up_self _ _ _, ?_, ?_, ?_, ?_⟩, ⟨f1, f2, f3, f4⟩, fun k hk hk2 => ?_, ⟨hL, hn.2⟩⟩ (fun j d hj => absurd hj (by omega)) (xfr_up xfr_rf (by omega) (by omega))
  · exact (by repeat (first | assumption | exact va_up_self _ _ _ | refine (va_up_ne _ _ (by omega)).trans ?_))
  · exact (by repeat (first | assumption | exact va_up_self _ _ _ | refine (va_up_ne _ _ (by omega)).trans ?_))
  · exact (by repeat (first | assumption | exact va_up_self _ _ _ | refine (va_up_ne _ _ (by omega)).trans ?_))
  · exact (by repeat (first | assumption | exact va_up_self _ _ _ | refine (va_up_ne _ _ (by omega)).trans ?_))
  · rw [va_up_ne _ _ (by omega)]
    exact ht k hk hk2
theorem dt_bd {d a : P3} {A B : Nat} (hd : bd A d) (ha : bd B a) : (dt d a).natAbs ≤ 3 * (A * B) := by
  obtain ⟨d1, d2, d3⟩ := d
  obtain ⟨a1, a2, a3⟩ := a
  obtain ⟨x1, x2, x3⟩ := hd
  obtain ⟨y1, y2, y3⟩ := ha
  simp only at x1 x2 x3 y1 y2 y3
  have t1 := mulb (a := d1) (b := a1) (Nat.le_of_lt x1) (Nat.le_of_lt y1)
  have t2 := mulb (a := d2) (b := a2) (Nat.le_of_lt x2) (Nat.le_of_lt y2)
  have t3 := mulb (a := d3) (b := a3) (Nat.le_of_lt x3) (Nat.le_of_lt y3)
  simp only [dt]
  omega
theorem k_Z_membersOf {n z t : Nat} {G : xG} {D : List P3} {a : P3} {fd fa : Nat → Option Nat} {pa : Nat → Nat} {ms cv : Nat → Int32} {cnt : Nat} (hZ : zlo G z fd fa pa ms cv D.length cnt) (hD : zdr G z D) (hok : dOk D) (hT : G t = xTp a) (ha : bd 4000000000 a) :
    xK mZ_membersOf [.ref z, .ref t] n G 0 0 (qI n G (nI (mem D a))) xNo := by
  obtain ⟨⟨g0, g1, g2, g3, g4⟩, ⟨f1, f2, f3, f4⟩, ht, hn⟩ := id hZ
  have hL := hok.1
  have loop : ∀ (m i : Nat), D.length - i < m → i ≤ D.length → xS mZ_membersOf n 0 0 (qI n G (nI (mem D a))) xNo 4 [(0, .ref z), (1, .ref t), (2, .int (nI (mk (inz D a) i))), (3, .int (nI i))] [] n G 0 0 := by
    intro m
    induction m with
    | zero => intro i q; exact absurd q (by omega)
    | succ m ih =>
      intro i q1 q2
      refine xs_iload_n dZ_membersOf_4 rfl ?_
      refine xs_aload_n dZ_membersOf_5 rfl ?_
      refine xs_get dZ_membersOf_6 flZ_27 (by repeat (first | assumption | exact va_up_self _ _ _ | refine (va_up_ne _ _ (by omega)).trans ?_)) rfl ?_
      refine xs_icmp_ge dZ_membersOf_9 (fun hg => ?_) (fun hg => ?_)
      · have hi := (nI_leI (by omega) (by omega)).mp hg
        have hie : i = D.length := by omega
        subst hie
        refine xs_iload_n dZ_membersOf_39 rfl ?_
        exact xs_iret dZ_membersOf_40 rfl rfl (by omega) (by omega) ⟨rfl, rfl, rfl⟩
      · have hi : i < D.length := by
          rcases Nat.lt_or_ge i D.length with q | q
          · exact q
          · exact absurd (nI_le q (by omega)) hg
        obtain ⟨d, hd⟩ : ∃ d, D[i]? = some d := ⟨_, List.getElem?_eq_getElem hi⟩
        have hdk := hok.2 d (List.mem_of_getElem? hd)
        have hin := fin16 (i := i) (by omega)
        have hfi : fd (nI i).toNatClampNeg = some (z + 5 + i) := by rw [nI_clamp (by omega)]; exact f1 i (by omega)
        have hdc := hD i d hd
        have hz : inz D a i = decide (dt d a = 0) := by rw [inz, hd]
        have hb := dt_bd hdk.1 ha
        have hiff := iL_eq (x := dt d a) (y := 0) (by omega) (by decide)
        refine xs_aload_n dZ_membersOf_12 rfl ?_
        refine xs_get dZ_membersOf_13 flZ_11 (by repeat (first | assumption | exact va_up_self _ _ _ | refine (va_up_ne _ _ (by omega)).trans ?_)) rfl ?_
        refine xs_iload_n dZ_membersOf_16 rfl ?_
        refine xs_ald3 dZ_membersOf_17 (by repeat (first | assumption | exact va_up_self _ _ _ | refine (va_up_ne _ _ (by omega)).trans ?_)) (by assumption) (by assumption) ?_
        refine xs_aload_n dZ_membersOf_18 rfl ?_
        refine xs_cV_l (As := [_]) dZ_membersOf_19 lkZ_74 (by repeat (first | assumption | exact va_up_self _ _ _ | refine (va_up_ne _ _ (by omega)).trans ?_)) (k_T_dot hdc hT) rfl rfl (Nat.le_of_ble_eq_true rfl) ⟨by decide, by decide⟩ ⟨by omega, by omega⟩ ?_
        refine xs_lconst (v := 0) dZ_membersOf_22 (by decide) ?_
        simp only [iL_mul, iL_add]
        refine xs_lc_ne dZ_membersOf_23 dZ_membersOf_24 (fun h => ?_) (fun h => ?_)
        · have h9 : ¬ dt d a = 0 := fun e => h (hiff.mpr e)
          refine xs_iinc (L2 := [(3, _), (0, _), (1, _), (2, _)]) dZ_membersOf_33 rfl rfl (by decide) rfl ?_
          refine xs_goto dZ_membersOf_36 ?_
          refine xs_pick (L2 := [(0, _), (1, _), (2, _), (3, _)]) [1, 2, 3, 0] rfl ?_
          rw [xii]
          have := ih (i + 1) (by omega) (by omega)
          rw [mk, hz, decide_eq_false h9, if_neg (by decide), Nat.add_zero] at this
          exact this
        · have h9 : dt d a = 0 := hiff.mp h
          refine xs_iload_n dZ_membersOf_27 rfl ?_
          refine xs_iconst (v := 1) dZ_membersOf_28 (by decide) ?_
          refine xs_iload_n dZ_membersOf_29 rfl ?_
          refine xs_ishl dZ_membersOf_30 ?_
          rw [sh1 i (by omega)]
          refine xs_ior dZ_membersOf_31 ?_
          rw [nI_or, mk_or]
          refine xs_istore_n (L2 := [(2, _), (0, _), (1, _), (3, _)]) dZ_membersOf_32 (by decide) rfl ?_
          refine xs_iinc (L2 := [(3, _), (2, _), (0, _), (1, _)]) dZ_membersOf_33 rfl rfl (by decide) rfl ?_
          refine xs_goto dZ_membersOf_36 ?_
          refine xs_pick (L2 := [(0, _), (1, _), (2, _), (3, _)]) [2, 3, 1, 0] rfl ?_
          rw [xii]
          have := ih (i + 1) (by omega) (by omega)
          rw [mk, hz, decide_eq_true h9, if_pos rfl] at this
          exact this
  refine xK_of2 (L0 := [(0, _), (1, _)]) (by decide +kernel) rfl (Nat.le_of_ble_eq_true rfl) rfl ?_
  refine xs_iconst (v := 0) dZ_membersOf_0 (by decide) ?_
  refine xs_istore_n (L2 := [(2, _), (0, _), (1, _)]) dZ_membersOf_1 (by decide) rfl ?_
  refine xs_iconst (v := 0) dZ_membersOf_2 (by decide) ?_
  refine xs_istore_n (L2 := [(3, _), (2, _), (0, _), (1, _)]) dZ_membersOf_3 (by decide) rfl ?_
  refine xs_pick (L2 := [(0, _), (1, _), (2, _), (3, _)]) [2, 3, 1, 0] rfl ?_
  exact loop (D.length + 1) 0 (by omega) (by omega)
