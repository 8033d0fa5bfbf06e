/-- the remembered states, the newest first, in a ring of fourteen crystals -/
def his (G : xG) (h : Nat) (l : List zV) : Prop := ∃ (f : Nat → Option Nat) (nx : Nat) (W : Nat → zV), G h = .inr (4, [.ref (h + 1), .int (nI nx), .int (nI l.length)]) ∧ G (h + 1) = .inl (4, 14, .inr (.inr (.inr (.inr f)))) ∧ (∀ j, j < 14 → f j = some (h + 2 + 7 * j)) ∧ (∀ j, j < 14 → cry G (h + 2 + 7 * j) (W j)) ∧ nx < 14 ∧ l.length ≤ 14 ∧ ∀ i V, l[i]? = some V → W ((nx + 13 - i) % 14) = V
def hPush (l : List zV) (V : zV) : List zV := (V :: l).take 14
theorem cry_cell {G : xG} {c : Nat} {V : zV} (h : cry G c V) : G c = oC c V := by
  obtain ⟨hok, fh, fk, fl, fb, a1, a2, a3, b1, b2, b3, ⟨h0, h1, h2, h3, h4, h5, h6⟩, hr⟩ := h
  exact h0
theorem his_fr {G H : xG} {h : Nat} {l : List zV} (hh : his G h l) (hf : ∀ k, h ≤ k → k < h + 100 → H k = G k) : his H h l := by
  obtain ⟨f, nx, W, h0, h1, h2, h3, h4⟩ := hh
  exact ⟨f, nx, W, by rw [hf _ (by omega) (by omega)]; exact h0, by rw [hf _ (by omega) (by omega)]; exact h1, h2, fun j hj => cry_fr (h3 j hj) (fun k hk hk2 => hf k (by omega) (by omega)), h4⟩
theorem k_H_push {n h c : Nat} {G : xG} {l : List zV} {V : zV} (hh : his G h l) (hC : cry G c V) (hd : c + 7 ≤ h ∨ h + 100 ≤ c) : xK mH_push [.ref h, .ref c] n G 0 0 (qVx n (fun H => his H h (hPush l V) ∧ xfr h (h + 100) G H)) xNo := by
  obtain ⟨f, nx, W, h0, h1, h2, h3, h4, h5, h6⟩ := hh
  have hcr := h3 nx h4
  have hcell := cry_cell hcr
  have hin : vp_in (nI nx) 14 := vp_in_nI h4 (by omega)
  have hfn : f (nI nx).toNatClampNeg = some (h + 2 + 7 * nx) := by rw [nI_clamp (by omega)]; exact h2 nx h4
  refine xK_of2 (L0 := [(0, _), (1, _)]) (by decide +kernel) rfl (Nat.le_of_ble_eq_true rfl) rfl ?_
  refine xs_aload_n dH_push_0 rfl ?_
  refine xs_get dH_push_1 flH_11 (by repeat (first | assumption | exact va_up_self _ _ _ | refine (va_up_ne _ _ (by omega)).trans ?_)) rfl ?_
  refine xs_aload_n dH_push_4 rfl ?_
  refine xs_get dH_push_5 flH_17 (by repeat (first | assumption | exact va_up_self _ _ _ | refine (va_up_ne _ _ (by omega)).trans ?_)) rfl ?_
  refine xs_ald4 dH_push_8 (by repeat (first | assumption | exact va_up_self _ _ _ | refine (va_up_ne _ _ (by omega)).trans ?_)) (by assumption) (by assumption) ?_
  refine xs_aload_n dH_push_9 rfl ?_
  refine xs_cV_vx (As := [_]) dH_push_10 lkH_25 (by repeat (first | assumption | exact va_up_self _ _ _ | refine (va_up_ne _ _ (by omega)).trans ?_)) (k_C_copyFrom hcr hC (by omega)) rfl rfl (Nat.le_of_ble_eq_true rfl) ⟨by decide, by decide⟩ ⟨by omega, by omega⟩ ?_
  intro H ⟨hc1, hf1⟩
  have e0 : H h = .inr (4, [.ref (h + 1), .int (nI nx), .int (nI l.length)]) := by rw [hf1 _ (by omega)]; exact h0
  have tail : ∀ nx', nx' = (nx + 1) % 14 → xS mH_push n 0 0 (qVx n (fun H => his H h (hPush l V) ∧ xfr h (h + 100) G H)) xNo 35 [(0, .ref h), (1, .ref c)] [.int (nI nx'), .ref h] n H 0 0 := by
    intro nx' hnx
    refine xs_put dH_push_35 flH_17 ft4_1 (by repeat (first | assumption | exact va_up_self _ _ _ | refine (va_up_ne _ _ (by omega)).trans ?_)) (fun _ => rfl) (fun _ => rfl) (by simp) ?_
    refine xs_aload_n dH_push_38 rfl ?_
    refine xs_aload_n dH_push_39 rfl ?_
    refine xs_get dH_push_40 flH_21 (by repeat (first | assumption | exact va_up_self _ _ _ | refine (va_up_ne _ _ (by omega)).trans ?_)) rfl ?_
    refine xs_iconst (v := 1) dH_push_43 (by decide) ?_
    refine xs_iadd dH_push_44 ?_
    refine xs_bipush (v := 14) dH_push_45 (by decide) ?_
    refine xs_mmin dH_push_47 ljH_29 (Nat.le_of_ble_eq_true rfl) ⟨by decide, by decide⟩ ⟨by omega, by omega⟩ ?_
    refine xs_put dH_push_50 flH_21 ft4_2 (by repeat (first | assumption | exact va_up_self _ _ _ | refine (va_up_ne _ _ (by omega)).trans ?_)) (fun _ => rfl) (fun _ => rfl) (by simp) ?_
    refine xs_vret dH_push_53 rfl (by omega) (by omega) ⟨rfl, rfl, ⟨f, nx', fun j => if j = nx then V else W j, ?_, ?_, h2, ?_, by omega, ?_, ?_⟩, ?_⟩
    · rw [va_up_self]
      have e : (if (14 : Int32) < nI l.length + 1 then 14 else nI l.length + 1) = nI (hPush l V).length := by
        have hl : (hPush l V).length = min 14 (l.length + 1) := by simp only [hPush, List.length_take, List.length_cons]
        rw [nI_1]
        by_cases hq : 14 < l.length + 1
        · have hq2 : (14 : Int32) < nI (l.length + 1) := (nI_ltI (a := 14) (by decide) (by omega)).mpr hq
          rw [if_pos hq2, hl, Nat.min_eq_left (by omega)]
          rfl
        · have hq2 : ¬ (14 : Int32) < nI (l.length + 1) := fun q => hq ((nI_ltI (a := 14) (by decide) (by omega)).mp q)
          rw [if_neg hq2, hl, Nat.min_eq_right (by omega)]
      rw [e]
      rfl
    · rw [va_up_ne _ _ (by omega), va_up_ne _ _ (by omega), hf1 _ (by omega)]
      exact h1
    · intro j hj
      by_cases hjn : j = nx
      · subst hjn
        dsimp only
        rw [if_pos rfl]
        exact cry_fr hc1 (fun k hk hk2 => by rw [va_up_ne _ _ (by omega), va_up_ne _ _ (by omega)])
      · dsimp only
        rw [if_neg hjn]
        exact cry_fr (h3 j hj) (fun k hk hk2 => by rw [va_up_ne _ _ (by omega), va_up_ne _ _ (by omega), hf1 _ (by omega)])
    · simp only [hPush, List.length_take]
      omega
    · intro i U hi
      have hil : i < 14 := by
        have := (List.getElem?_eq_some_iff.mp hi).1
        simp only [hPush, List.length_take] at this
        omega
      rw [hPush, List.getElem?_take_of_lt hil] at hi
      cases i with
      | zero =>
        cases hi
        dsimp only
        rw [if_pos (by omega)]
      | succ i =>
        rw [List.getElem?_cons_succ] at hi
        dsimp only
        rw [if_neg (by omega), show (nx' + 13 - (i + 1)) % 14 = (nx + 13 - i) % 14 by omega]
        exact h6 i U hi
    · exact xfr_up (xfr_up (xfr_mono hf1 (by omega) (by omega)) (by omega) (by omega)) (by omega) (by omega)
  refine xs_aload_n dH_push_13 rfl ?_
  refine xs_aload_n dH_push_14 rfl ?_
  refine xs_get dH_push_15 flH_17 (by repeat (first | assumption | exact va_up_self _ _ _ | refine (va_up_ne _ _ (by omega)).trans ?_)) rfl ?_
  refine xs_iconst (v := 1) dH_push_18 (by decide) ?_
  refine xs_iadd dH_push_19 ?_
  refine xs_bipush (v := 14) dH_push_20 (by decide) ?_
  rw [nI_1]
  refine xs_icmp_ge dH_push_22 (fun hg => ?_) (fun hg => ?_)
  · have hq := (nI_leI (a := 14) (by decide) (by omega)).mp hg
    refine xs_iconst (v := 0) dH_push_34 (by decide) ?_
    exact tail 0 (by omega)
  · have hq : nx + 1 < 14 := by
      rcases Nat.lt_or_ge (nx + 1) 14 with q | q
      · exact q
      · exact absurd (nI_le q (by omega)) hg
    refine xs_aload_n dH_push_25 rfl ?_
    refine xs_get dH_push_26 flH_17 (by repeat (first | assumption | exact va_up_self _ _ _ | refine (va_up_ne _ _ (by omega)).trans ?_)) rfl ?_
    refine xs_iconst (v := 1) dH_push_29 (by decide) ?_
    refine xs_iadd dH_push_30 ?_
    rw [nI_1]
    refine xs_goto dH_push_31 ?_
    exact tail (nx + 1) (by omega)
theorem k_H_popInto {n h c : Nat} {G : xG} {l : List zV} {V U : zV} (hh : his G h (V :: l)) (hC : cry G c U) (hd : c + 7 ≤ h ∨ h + 100 ≤ c) : xK mH_popInto [.ref h, .ref c] n G 0 0 (qVx n (fun H => his H h l ∧ cry H c V ∧ ∀ k, k ≠ h → (k < c ∨ c + 7 ≤ k) → H k = G k)) xNo := by
  obtain ⟨f, nx, W, h0, h1, h2, h3, h4, h5, h6⟩ := hh
  simp only [List.length_cons] at h0 h5
  have hV : W ((nx + 13) % 14) = V := h6 0 V rfl
  refine xK_of2 (L0 := [(0, _), (1, _)]) (by decide +kernel) rfl (Nat.le_of_ble_eq_true rfl) rfl ?_
  refine xs_aload_n dH_popInto_0 rfl ?_
  refine xs_get dH_popInto_1 flH_21 (by repeat (first | assumption | exact va_up_self _ _ _ | refine (va_up_ne _ _ (by omega)).trans ?_)) rfl ?_
  refine xs_if_ne dH_popInto_4 (fun _ => ?_) (fun h => absurd h (nI_ne0 (by omega) (by omega)))
  have tail : ∀ nx', nx' = (nx + 13) % 14 → xS mH_popInto n 0 0 (qVx n (fun H => his H h l ∧ cry H c V ∧ ∀ k, k ≠ h → (k < c ∨ c + 7 ≤ k) → H k = G k)) xNo 27 [(0, .ref h), (1, .ref c)] [.int (nI nx'), .ref h] n G 0 0 := by
    intro nx' hnx
    have hcr := h3 nx' (by omega)
    have hin : vp_in (nI nx') 14 := vp_in_nI (by omega) (by omega)
    have hfn : f (nI nx').toNatClampNeg = some (h + 2 + 7 * nx') := by rw [nI_clamp (by omega)]; exact h2 nx' (by omega)
    refine xs_put dH_popInto_27 flH_17 ft4_1 (by repeat (first | assumption | exact va_up_self _ _ _ | refine (va_up_ne _ _ (by omega)).trans ?_)) (fun _ => rfl) (fun _ => rfl) (by simp) ?_
    refine xs_aload_n dH_popInto_30 rfl ?_
    refine xs_dup dH_popInto_31 rfl ?_
    refine xs_get dH_popInto_32 flH_21 (by repeat (first | assumption | exact va_up_self _ _ _ | refine (va_up_ne _ _ (by omega)).trans ?_)) rfl ?_
    refine xs_iconst (v := 1) dH_popInto_35 (by decide) ?_
    refine xs_isub dH_popInto_36 ?_
    refine xs_put dH_popInto_37 flH_21 ft4_2 (by repeat (first | assumption | exact va_up_self _ _ _ | refine (va_up_ne _ _ (by omega)).trans ?_)) (fun _ => rfl) (fun _ => rfl) (by simp) ?_
    refine xs_aload_n dH_popInto_40 rfl ?_
    refine xs_aload_n dH_popInto_41 rfl ?_
    refine xs_get dH_popInto_42 flH_11 (by repeat (first | assumption | exact va_up_self _ _ _ | refine (va_up_ne _ _ (by omega)).trans ?_)) rfl ?_
    refine xs_aload_n dH_popInto_45 rfl ?_
    refine xs_get dH_popInto_46 flH_17 (by repeat (first | assumption | exact va_up_self _ _ _ | refine (va_up_ne _ _ (by omega)).trans ?_)) rfl ?_
    refine xs_ald4 dH_popInto_49 (by repeat (first | assumption | exact va_up_self _ _ _ | refine (va_up_ne _ _ (by omega)).trans ?_)) (by assumption) (by assumption) ?_
    have e2 : nI (l.length + 1) - 1 = nI l.length := nI_pred _
    rw [e2]
    obtain ⟨G1, hG1⟩ : ∃ G1, G1 = (va_up (va_up G h (.inr (4, [.ref (h + 1), .int (nI nx'), .int (nI (l.length + 1))]))) h (.inr (4, [.ref (h + 1), .int (nI nx'), .int (nI l.length)]))) := ⟨_, rfl⟩
    have hne : ∀ k, k ≠ h → G1 k = G k := fun k hk => by rw [hG1, va_up_ne _ _ hk, va_up_ne _ _ hk]
    have hcr1 : cry G1 (h + 2 + 7 * nx') (W nx') := cry_fr hcr (fun k hk hk2 => hne k (by omega))
    have hC1 : cry G1 c U := cry_fr hC (fun k hk hk2 => hne k (by omega))
    have hcell := cry_cell hC1
    show xS _ _ _ _ _ _ _ _ _ _ (va_up (va_up G h (.inr (4, [.ref (h + 1), .int (nI nx'), .int (nI (l.length + 1))]))) h (.inr (4, [.ref (h + 1), .int (nI nx'), .int (nI l.length)]))) _ _
    rw [← hG1]
    refine xs_cV_vx (As := [_]) dH_popInto_50 lkH_25 (by repeat (first | assumption | exact va_up_self _ _ _ | refine (va_up_ne _ _ (by omega)).trans ?_)) (k_C_copyFrom hC1 hcr1 (by omega)) rfl rfl (Nat.le_of_ble_eq_true rfl) ⟨by decide, by decide⟩ ⟨by omega, by omega⟩ ?_
    intro H ⟨hc1, hf1⟩
    refine xs_vret dH_popInto_53 rfl (by omega) (by omega) ⟨rfl, rfl, ⟨f, nx', W, ?_, ?_, h2, fun j hj => ?_, by omega, by omega, fun i Z hi => ?_⟩, ?_, fun k hk hk2 => ?_⟩
    · rw [hf1 _ (by omega), hG1, va_up_self]
    · rw [hf1 _ (by omega), hne _ (by omega)]
      exact h1
    · exact cry_fr (h3 j hj) (fun k hk hk2 => by rw [hf1 _ (by omega), hne _ (by omega)])
    · have hil := (List.getElem?_eq_some_iff.mp hi).1
      rw [← h6 (i + 1) Z (by rw [List.getElem?_cons_succ]; exact hi)]
      congr 1
      omega
    · rw [← hV, ← hnx]
      exact hc1
    · rw [hf1 _ hk2, hne _ hk]
  refine xs_aload_n dH_popInto_8 rfl ?_
  refine xs_aload_n dH_popInto_9 rfl ?_
  refine xs_get dH_popInto_10 flH_17 (by repeat (first | assumption | exact va_up_self _ _ _ | refine (va_up_ne _ _ (by omega)).trans ?_)) rfl ?_
  refine xs_if_le dH_popInto_13 (fun hg => ?_) (fun hg => ?_)
  · have hq : nx = 0 := by
      rcases Nat.eq_zero_or_pos nx with q | q
      · exact q
      · exact absurd hg (nI_nle q (by omega))
    refine xs_bipush (v := 13) dH_popInto_25 (by decide) ?_
    exact tail 13 (by omega)
  · have hq : 0 < nx := by
      rcases Nat.eq_zero_or_pos nx with q | q
      · rw [q] at hg
        exact absurd (by decide) hg
      · exact q
    refine xs_aload_n dH_popInto_16 rfl ?_
    refine xs_get dH_popInto_17 flH_17 (by repeat (first | assumption | exact va_up_self _ _ _ | refine (va_up_ne _ _ (by omega)).trans ?_)) rfl ?_
    refine xs_iconst (v := 1) dH_popInto_20 (by decide) ?_
    refine xs_isub dH_popInto_21 ?_
    refine xs_goto dH_popInto_22 ?_
    have e : nI nx - 1 = nI (nx - 1) := by
      obtain ⟨m, rfl⟩ : ∃ m, nx = m + 1 := ⟨nx - 1, by omega⟩
      exact nI_pred m
    rw [e]
    exact tail (nx - 1) (by omega)
