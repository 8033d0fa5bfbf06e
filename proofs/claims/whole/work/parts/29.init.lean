theorem k_Z_init {z : Nat} {G : xG} (hG : G z = .inr (6, nf6)) : xK mZ_init [.ref z] (z + 1) G 140 680 (fun v m H => v = none ∧ m = z + 141 ∧ (∃ fd fa pa ms cv, zlo H z fd fa pa ms cv 0 0) ∧ xlow z G H) xNo := by
  have loop2 : ∀ (m i nn kk cc : Nat) (H : xG) (fd fa : Nat → Option Nat) (ms cv : Nat → Int32), 120 - i < m → i ≤ 120 → nn = z + 21 + i → kk = 20 + i → cc = 320 + 3 * i →
      (H z = .inr (6, [.ref (z + 1), .ref (z + 2), .ref (z + 3), .ref (z + 4), .int (nI 0), .int (nI 0)]) ∧ H (z + 1) = .inl (3, 16, .inr (.inr (.inr (.inr fd)))) ∧ H (z + 2) = .inl (3, 120, .inr (.inr (.inr (.inr fa)))) ∧ H (z + 3) = .inl (0, 120, .inl ms) ∧ H (z + 4) = .inl (0, 16, .inl cv)) →
      (∀ j, j < 16 → fd j = some (z + 5 + j)) → (∀ j, j < i → fa j = some (z + 21 + j)) → (∀ k, z + 5 ≤ k → k < nn → ∃ a b c, H k = xT a b c) → xlow z G H →
      xS mZ_init (z + 1) 140 680 (fun v m H => v = none ∧ m = z + 141 ∧ (∃ fd fa pa ms cv, zlo H z fd fa pa ms cv 0 0) ∧ xlow z G H) xNo 77 [(0, .ref z), (1, .int (nI i))] [] nn H kk cc := by
    intro m
    induction m with
    | zero => intro i nn kk cc H fd fa ms cv q; exact absurd q (by omega)
    | succ m ih =>
      intro i nn kk cc H fd fa ms cv q1 q2 e1 e2 e3 ⟨g0, g1, g2, g3, g4⟩ hfd hfa ht hlow
      subst e1; subst e2; subst e3
      refine xs_iload_n dZ_init_77 rfl ?_
      refine xs_bipush (v := 120) dZ_init_78 (by decide) ?_
      refine xs_icmp_ge dZ_init_80 (fun hg => ?_) (fun hg => ?_)
      · have hi : i = 120 := by
          have := (nI_leI (a := 120) (by omega) (by omega)).mp hg
          omega
        subst hi
        exact xs_vret dZ_init_102 rfl (by omega) (by omega) ⟨rfl, by omega, ⟨fd, fa, fun j => z + 21 + j, ms, cv, ⟨g0, g1, g2, g3, g4⟩, ⟨hfd, hfa, (fun j hj => by dsimp only; omega), (fun i j hi hj e => by dsimp only at e; omega)⟩, fun k hk hk2 => ht k hk (by omega), by omega, by omega⟩, hlow⟩
      · have hi : i < 120 := nI_lt_of (b := 120) (by omega) (by omega) hg
        have hini : vp_in (nI i) 120 := vp_in_nI hi (by omega)
        refine xs_aload_n dZ_init_83 rfl ?_
        refine xs_get dZ_init_84 flZ_17 (by repeat (first | assumption | exact va_up_self _ _ _ | refine (va_up_ne _ _ (by omega)).trans ?_)) rfl ?_
        refine xs_iload_n dZ_init_87 rfl ?_
        refine xs_new dZ_init_88 klZ_9 xn5 (by omega) (by omega) ?_
        refine xs_dup dZ_init_91 rfl ?_
        refine xs_cIN_v (As := []) dZ_init_92 lkZ_34 (k_T_init) rfl rfl (Nat.le_of_ble_eq_true rfl) ⟨by decide, by decide⟩ ⟨by omega, by omega⟩ ?_
        refine xs_ast3 dZ_init_95 (by repeat (first | assumption | exact va_up_self _ _ _ | refine (va_up_ne _ _ (by omega)).trans ?_)) (by assumption) (by repeat (first | assumption | exact va_up_self _ _ _ | refine (va_up_ne _ _ (by omega)).trans ?_)) ?_
        refine xs_iinc (L2 := [(1, _), (0, _)]) dZ_init_96 rfl rfl (by decide) rfl ?_
        refine xs_goto dZ_init_99 ?_
        refine xs_pick (L2 := [(0, _), (1, _)]) [1, 0] rfl ?_
        rw [xii, nI_clamp (by omega)]
        refine ih (i + 1) _ _ _ _ fd (va_up fa i (some (z + 21 + i))) ms cv (by omega) (by omega) (by omega) (by omega) (by omega) ⟨?_, ?_, ?_, ?_, ?_⟩ hfd (fun j hj => ?_) (fun k hk hk2 => ?_) (xlow_up (xlow_up hlow (by omega)) (by omega))
        · exact (by repeat (first | assumption | exact va_up_self _ _ _ | refine (va_up_ne _ _ (by omega)).trans ?_))
        · exact (by repeat (first | assumption | exact va_up_self _ _ _ | refine (va_up_ne _ _ (by omega)).trans ?_))
        · exact (by repeat (first | assumption | exact va_up_self _ _ _ | refine (va_up_ne _ _ (by omega)).trans ?_))
        · exact (by repeat (first | assumption | exact va_up_self _ _ _ | refine (va_up_ne _ _ (by omega)).trans ?_))
        · exact (by repeat (first | assumption | exact va_up_self _ _ _ | refine (va_up_ne _ _ (by omega)).trans ?_))
        · unfold va_up
          split
          next q => rw [q]
          next q => exact hfa j (by omega)
        · by_cases hkn : k = z + 21 + i
          · subst hkn
            exact ⟨0, 0, 0, (by repeat (first | assumption | exact va_up_self _ _ _ | refine (va_up_ne _ _ (by omega)).trans ?_))⟩
          · rw [va_up_ne _ _ (by omega), va_up_ne _ _ hkn]
            exact ht k hk (by omega)
  have loop1 : ∀ (m i nn kk cc : Nat) (H : xG) (fd fa : Nat → Option Nat) (ms cv : Nat → Int32), 16 - i < m → i ≤ 16 → nn = z + 5 + i → kk = 4 + i → cc = 272 + 3 * i →
      (H z = .inr (6, [.ref (z + 1), .ref (z + 2), .ref (z + 3), .ref (z + 4), .int (nI 0), .int (nI 0)]) ∧ H (z + 1) = .inl (3, 16, .inr (.inr (.inr (.inr fd)))) ∧ H (z + 2) = .inl (3, 120, .inr (.inr (.inr (.inr fa)))) ∧ H (z + 3) = .inl (0, 120, .inl ms) ∧ H (z + 4) = .inl (0, 16, .inl cv)) →
      (∀ j, j < i → fd j = some (z + 5 + j)) → (∀ k, z + 5 ≤ k → k < nn → ∃ a b c, H k = xT a b c) → xlow z G H →
      xS mZ_init (z + 1) 140 680 (fun v m H => v = none ∧ m = z + 141 ∧ (∃ fd fa pa ms cv, zlo H z fd fa pa ms cv 0 0) ∧ xlow z G H) xNo 50 [(0, .ref z), (1, .int (nI i))] [] nn H kk cc := by
    intro m
    induction m with
    | zero => intro i nn kk cc H fd fa ms cv q; exact absurd q (by omega)
    | succ m ih =>
      intro i nn kk cc H fd fa ms cv q1 q2 e1 e2 e3 ⟨g0, g1, g2, g3, g4⟩ hfd ht hlow
      subst e1; subst e2; subst e3
      refine xs_iload_n dZ_init_50 rfl ?_
      refine xs_bipush (v := 16) dZ_init_51 (by decide) ?_
      refine xs_icmp_ge dZ_init_53 (fun hg => ?_) (fun hg => ?_)
      · have hi : i = 16 := by
          have := (nI_leI (a := 16) (by omega) (by omega)).mp hg
          omega
        subst hi
        refine xs_iconst (v := 0) dZ_init_75 (by decide) ?_
        refine xs_istore_n (L2 := [(1, _), (0, _)]) dZ_init_76 (by decide) rfl ?_
        refine xs_pick (L2 := [(0, _), (1, _)]) [1, 0] rfl ?_
        exact loop2 121 0 _ _ _ H fd fa ms cv (by omega) (by omega) (by omega) (by omega) (by omega) ⟨g0, g1, g2, g3, g4⟩ hfd (fun j hj => absurd hj (by omega)) ht hlow
      · have hi : i < 16 := nI_lt_of (b := 16) (by omega) (by omega) hg
        have hini : vp_in (nI i) 16 := vp_in_nI hi (by omega)
        refine xs_aload_n dZ_init_56 rfl ?_
        refine xs_get dZ_init_57 flZ_11 (by repeat (first | assumption | exact va_up_self _ _ _ | refine (va_up_ne _ _ (by omega)).trans ?_)) rfl ?_
        refine xs_iload_n dZ_init_60 rfl ?_
        refine xs_new dZ_init_61 klZ_9 xn5 (by omega) (by omega) ?_
        refine xs_dup dZ_init_64 rfl ?_
        refine xs_cIN_v (As := []) dZ_init_65 lkZ_34 (k_T_init) rfl rfl (Nat.le_of_ble_eq_true rfl) ⟨by decide, by decide⟩ ⟨by omega, by omega⟩ ?_
        refine xs_ast3 dZ_init_68 (by repeat (first | assumption | exact va_up_self _ _ _ | refine (va_up_ne _ _ (by omega)).trans ?_)) (by assumption) (by repeat (first | assumption | exact va_up_self _ _ _ | refine (va_up_ne _ _ (by omega)).trans ?_)) ?_
        refine xs_iinc (L2 := [(1, _), (0, _)]) dZ_init_69 rfl rfl (by decide) rfl ?_
        refine xs_goto dZ_init_72 ?_
        refine xs_pick (L2 := [(0, _), (1, _)]) [1, 0] rfl ?_
        rw [xii, nI_clamp (by omega)]
        refine ih (i + 1) _ _ _ _ (va_up fd i (some (z + 5 + i))) fa ms cv (by omega) (by omega) (by omega) (by omega) (by omega) ⟨?_, ?_, ?_, ?_, ?_⟩ (fun j hj => ?_) (fun k hk hk2 => ?_) (xlow_up (xlow_up hlow (by omega)) (by omega))
        · exact (by repeat (first | assumption | exact va_up_self _ _ _ | refine (va_up_ne _ _ (by omega)).trans ?_))
        · exact (by repeat (first | assumption | exact va_up_self _ _ _ | refine (va_up_ne _ _ (by omega)).trans ?_))
        · exact (by repeat (first | assumption | exact va_up_self _ _ _ | refine (va_up_ne _ _ (by omega)).trans ?_))
        · exact (by repeat (first | assumption | exact va_up_self _ _ _ | refine (va_up_ne _ _ (by omega)).trans ?_))
        · exact (by repeat (first | assumption | exact va_up_self _ _ _ | refine (va_up_ne _ _ (by omega)).trans ?_))
        · unfold va_up
          split
          next q => rw [q]
          next q => exact hfd j (by omega)
        · by_cases hkn : k = z + 5 + i
          · subst hkn
            exact ⟨0, 0, 0, (by repeat (first | assumption | exact va_up_self _ _ _ | refine (va_up_ne _ _ (by omega)).trans ?_))⟩
          · rw [va_up_ne _ _ (by omega), va_up_ne _ _ hkn]
            exact ht k hk (by omega)
  refine xK_of2 (L0 := [(0, _)]) (by decide +kernel) rfl (Nat.le_of_ble_eq_true rfl) rfl ?_
  refine xs_aload_n dZ_init_0 rfl ?_
  refine xs_objInit dZ_init_1 ljZ_3 (Nat.le_of_ble_eq_true rfl) ⟨by decide, by decide⟩ ?_
  refine xs_aload_n dZ_init_4 rfl ?_
  refine xs_bipush (v := 16) dZ_init_5 (by decide) ?_
  refine xs_newQ (tag := 3) (N := 16) rfl (by decide) klZ_9 dZ_init_7 rfl (by omega) (by omega) (by omega) ?_
  refine xs_putF dZ_init_10 flZ_11 ft6_0 rfl rfl (by repeat (first | assumption | exact va_up_self _ _ _ | refine (va_up_ne _ _ (by omega)).trans ?_)) (fun _ => rfl) (fun _ => rfl) (by simp) ?_
  refine xs_aload_n dZ_init_13 rfl ?_
  refine xs_bipush (v := 120) dZ_init_14 (by decide) ?_
  refine xs_newQ (tag := 3) (N := 120) rfl (by decide) klZ_9 dZ_init_16 rfl (by omega) (by omega) (by omega) ?_
  refine xs_putF dZ_init_19 flZ_17 ft6_1 rfl rfl (by repeat (first | assumption | exact va_up_self _ _ _ | refine (va_up_ne _ _ (by omega)).trans ?_)) (fun _ => rfl) (fun _ => rfl) (by simp) ?_
  refine xs_aload_n dZ_init_22 rfl ?_
  refine xs_bipush (v := 120) dZ_init_23 (by decide) ?_
  refine xs_newI (N := 120) dZ_init_25 rfl (by omega) (by omega) (by omega) ?_
  refine xs_putF dZ_init_27 flZ_20 ft6_2 rfl rfl (by repeat (first | assumption | exact va_up_self _ _ _ | refine (va_up_ne _ _ (by omega)).trans ?_)) (fun _ => rfl) (fun _ => rfl) (by simp) ?_
  refine xs_aload_n dZ_init_30 rfl ?_
  refine xs_bipush (v := 16) dZ_init_31 (by decide) ?_
  refine xs_newI (N := 16) dZ_init_33 rfl (by omega) (by omega) (by omega) ?_
  refine xs_putF dZ_init_35 flZ_24 ft6_3 rfl rfl (by repeat (first | assumption | exact va_up_self _ _ _ | refine (va_up_ne _ _ (by omega)).trans ?_)) (fun _ => rfl) (fun _ => rfl) (by simp) ?_
  refine xs_aload_n dZ_init_38 rfl ?_
  refine xs_iconst (v := 0) dZ_init_39 (by decide) ?_
  refine xs_put dZ_init_40 flZ_27 ft6_4 (by repeat (first | assumption | exact va_up_self _ _ _ | refine (va_up_ne _ _ (by omega)).trans ?_)) (fun _ => rfl) (fun _ => rfl) (by simp) ?_
  refine xs_aload_n dZ_init_43 rfl ?_
  refine xs_iconst (v := 0) dZ_init_44 (by decide) ?_
  refine xs_put dZ_init_45 flZ_31 ft6_5 (by repeat (first | assumption | exact va_up_self _ _ _ | refine (va_up_ne _ _ (by omega)).trans ?_)) (fun _ => rfl) (fun _ => rfl) (by simp) ?_
  refine xs_iconst (v := 0) dZ_init_48 (by decide) ?_
  refine xs_istore_n (L2 := [(1, _), (0, _)]) dZ_init_49 (by decide) rfl ?_
  refine xs_pick (L2 := [(0, _), (1, _)]) [1, 0] rfl ?_
  refine loop1 17 0 _ _ _ _ (fun _ => none) (fun _ => none) (fun _ => 0) (fun _ => 0) (by omega) (by omega) (by omega) (by omega) (by omega) ⟨?_, ?_, ?_, ?_, ?_⟩ (fun j hj => absurd hj (by omega)) (fun k hk hk2 => by omega) ?_
  · rw [va_up_self]
    rfl
  · exact (by repeat (first | assumption | exact va_up_self _ _ _ | refine (va_up_ne _ _ (by omega)).trans ?_))
  · exact (by repeat (first | assumption | exact va_up_self _ _ _ | refine (va_up_ne _ _ (by omega)).trans ?_))
  · exact (by repeat (first | assumption | exact va_up_self _ _ _ | refine (va_up_ne _ _ (by omega)).trans ?_))
  · exact (by repeat (first | assumption | exact va_up_self _ _ _ | refine (va_up_ne _ _ (by omega)).trans ?_))
  · repeat (first | exact xlow_rf | refine xlow_up ?_ (by omega))
theorem k_H_init {h : Nat} {G : xG} (hG : G h = .inr (4, nf4)) : xK mH_init [.ref h] (h + 1) G 99 1162 (fun v m H => v = none ∧ m = h + 100 ∧ his H h [] ∧ xlow h G H) xNo := by
  have loop : ∀ (m i nn kk cc : Nat) (H : xG) (f : Nat → Option Nat), 14 - i < m → i ≤ 14 → nn = h + 2 + 7 * i → kk = 1 + 7 * i → cc = 14 + 82 * i →
      (H h = .inr (4, [.ref (h + 1), .int (nI 0), .int (nI 0)]) ∧ H (h + 1) = .inl (4, 14, .inr (.inr (.inr (.inr f))))) → (∀ j, j < i → f j = some (h + 2 + 7 * j)) → (∀ j, j < i → cry H (h + 2 + 7 * j) zNew) → xlow h G H →
      xS mH_init (h + 1) 99 1162 (fun v m H => v = none ∧ m = h + 100 ∧ his H h [] ∧ xlow h G H) xNo 25 [(0, .ref h), (1, .int (nI i))] [] nn H kk cc := by
    intro m
    induction m with
    | zero => intro i nn kk cc H f q; exact absurd q (by omega)
    | succ m ih =>
      intro i nn kk cc H f q1 q2 e1 e2 e3 ⟨g0, g1⟩ hf hc hlow
      subst e1; subst e2; subst e3
      refine xs_iload_n dH_init_25 rfl ?_
      refine xs_bipush (v := 14) dH_init_26 (by decide) ?_
      refine xs_icmp_ge dH_init_28 (fun hg => ?_) (fun hg => ?_)
      · have hi : i = 14 := by
          have := (nI_leI (a := 14) (by omega) (by omega)).mp hg
          omega
        subst hi
        exact xs_vret dH_init_50 rfl (by omega) (by omega) ⟨rfl, by omega, ⟨f, 0, fun _ => zNew, g0, g1, hf, hc, by omega, Nat.zero_le _, fun i V hi => by cases hi⟩, hlow⟩
      · have hi : i < 14 := nI_lt_of (b := 14) (by omega) (by omega) hg
        have hini : vp_in (nI i) 14 := vp_in_nI hi (by omega)
        refine xs_aload_n dH_init_31 rfl ?_
        refine xs_get dH_init_32 flH_11 (by repeat (first | assumption | exact va_up_self _ _ _ | refine (va_up_ne _ _ (by omega)).trans ?_)) rfl ?_
        refine xs_iload_n dH_init_35 rfl ?_
        refine xs_new dH_init_36 klH_9 xn0 (by omega) (by omega) ?_
        refine xs_dup dH_init_39 rfl ?_
        refine xs_callIN (As := []) dH_init_40 lkH_24 (k_C_init (va_up_self _ _ _)) rfl rfl (Nat.le_of_ble_eq_true rfl) ⟨by decide, by decide⟩ ⟨by omega, by omega⟩ ?_ (fun _ _ _ h => h.elim)
        intro v n' H2 ⟨hv, hn', hcry, hl2⟩ _
        subst hv; subst hn'
        have g0' : H2 h = .inr (4, [.ref (h + 1), .int (nI 0), .int (nI 0)]) := by rw [hl2 _ (by omega), va_up_ne _ _ (by omega)]; exact g0
        have g1' : H2 (h + 1) = .inl (4, 14, .inr (.inr (.inr (.inr f)))) := by rw [hl2 _ (by omega), va_up_ne _ _ (by omega)]; exact g1
        have hcell := cry_cell hcry
        show xS _ _ _ _ _ _ _ _ [.ref (h + 2 + 7 * i), .int (nI i), .ref (h + 1)] _ _ _ _
        refine xs_ast4 dH_init_43 (by repeat (first | assumption | exact va_up_self _ _ _ | refine (va_up_ne _ _ (by omega)).trans ?_)) (by assumption) (by repeat (first | assumption | exact va_up_self _ _ _ | refine (va_up_ne _ _ (by omega)).trans ?_)) ?_
        refine xs_iinc (L2 := [(1, _), (0, _)]) dH_init_44 rfl rfl (by decide) rfl ?_
        refine xs_goto dH_init_47 ?_
        refine xs_pick (L2 := [(0, _), (1, _)]) [1, 0] rfl ?_
        rw [xii, nI_clamp (by omega)]
        refine ih (i + 1) _ _ _ _ (va_up f i (some (h + 2 + 7 * i))) (by omega) (by omega) (by omega) (by omega) (by omega) ⟨?_, ?_⟩ (fun j hj => ?_) (fun j hj => ?_) (xlow_up (fun k hk => ?_) (by omega))
        · exact (by repeat (first | assumption | exact va_up_self _ _ _ | refine (va_up_ne _ _ (by omega)).trans ?_))
        · exact (by repeat (first | assumption | exact va_up_self _ _ _ | refine (va_up_ne _ _ (by omega)).trans ?_))
        · unfold va_up
          split
          next q => rw [q]
          next q => exact hf j (by omega)
        · by_cases hji : j = i
          · subst hji
            exact cry_fr hcry (fun k hk hk2 => by rw [va_up_ne _ _ (by omega)])
          · exact cry_fr (hc j (by omega)) (fun k hk hk2 => by rw [va_up_ne _ _ (by omega), hl2 _ (by omega), va_up_ne _ _ (by omega)])
        · rw [hl2 _ (by omega), va_up_ne _ _ (by omega)]
          exact hlow k hk
  refine xK_of2 (L0 := [(0, _)]) (by decide +kernel) rfl (Nat.le_of_ble_eq_true rfl) rfl ?_
  refine xs_aload_n dH_init_0 rfl ?_
  refine xs_objInit dH_init_1 ljH_3 (Nat.le_of_ble_eq_true rfl) ⟨by decide, by decide⟩ ?_
  refine xs_aload_n dH_init_4 rfl ?_
  refine xs_bipush (v := 14) dH_init_5 (by decide) ?_
  refine xs_newQ (tag := 4) (N := 14) rfl (by decide) klH_9 dH_init_7 rfl (by omega) (by omega) (by omega) ?_
  refine xs_putF dH_init_10 flH_11 ft4_0 rfl rfl (by repeat (first | assumption | exact va_up_self _ _ _ | refine (va_up_ne _ _ (by omega)).trans ?_)) (fun _ => rfl) (fun _ => rfl) (by simp) ?_
  refine xs_aload_n dH_init_13 rfl ?_
  refine xs_iconst (v := 0) dH_init_14 (by decide) ?_
  refine xs_put dH_init_15 flH_17 ft4_1 (by repeat (first | assumption | exact va_up_self _ _ _ | refine (va_up_ne _ _ (by omega)).trans ?_)) (fun _ => rfl) (fun _ => rfl) (by simp) ?_
  refine xs_aload_n dH_init_18 rfl ?_
  refine xs_iconst (v := 0) dH_init_19 (by decide) ?_
  refine xs_put dH_init_20 flH_21 ft4_2 (by repeat (first | assumption | exact va_up_self _ _ _ | refine (va_up_ne _ _ (by omega)).trans ?_)) (fun _ => rfl) (fun _ => rfl) (by simp) ?_
  refine xs_iconst (v := 0) dH_init_23 (by decide) ?_
  refine xs_istore_n (L2 := [(1, _), (0, _)]) dH_init_24 (by decide) rfl ?_
  refine xs_pick (L2 := [(0, _), (1, _)]) [1, 0] rfl ?_
  refine loop 15 0 _ _ _ _ (fun _ => none) (by omega) (by omega) (by omega) (by omega) (by omega) ⟨?_, ?_⟩ (fun j hj => absurd hj (by omega)) (fun j hj => absurd hj (by omega)) ?_
  · rw [va_up_self]
    rfl
  · exact (by repeat (first | assumption | exact va_up_self _ _ _ | refine (va_up_ne _ _ (by omega)).trans ?_))
  · repeat (first | exact xlow_rf | refine xlow_up ?_ (by omega))
