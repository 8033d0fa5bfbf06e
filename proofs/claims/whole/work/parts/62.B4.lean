section XN2
variable {M : xM} {n0 mc ms : Nat} {Q : Option Value → Nat → xG → Prop} {X : String → Nat → xG → Prop} {pc pc2 : Nat} {L : List (Nat × Value)} {st : List Value} {n : Nat} {G : xG} {k c : Nat}
theorem xs_nIN {Y : xM} {idx b n2 mcY msY : Nat} {host : String} {rest : List Value} {P : xG → Prop} (d : xD M pc pc2 3 (.invokespecial idx)) (lk : xlN M.1.cls idx Y 0 host) (hK : xK Y [.ref b] n G mcY msY (fun v m H => v = none ∧ m = n2 ∧ P H) xNo) (hst : st = .ref b :: rest) (hrm : (rest.map fun v => v.category).sum ≤ 8) (hR : xRmOk Y M) (hk : k + mcY ≤ mc ∧ c + msY ≤ ms) (K : ∀ H, P H → xS M n0 mc ms Q X pc2 L rest n2 H (k + mcY) (c + msY)) : xS M n0 mc ms Q X pc L st n G k c :=
  xs_callIN (As := []) d lk hK hst rfl hrm hR hk (fun _ _ H h _ => by obtain ⟨rfl, rfl, h⟩ := h; exact K H h) (fun _ _ _ h => h.elim)
theorem xs_nI {Y : xM} {idx b n2 mcY msY : Nat} {rest : List Value} {P : xG → Prop} (d : xD M pc pc2 3 (.invokespecial idx)) (lk : xlI M.1.cls idx Y 0) (hK : xK Y [.ref b] n G mcY msY (fun v m H => v = none ∧ m = n2 ∧ P H) xNo) (hst : st = .ref b :: rest) (hrm : (rest.map fun v => v.category).sum ≤ 8) (hR : xRmOk Y M) (hk : k + mcY ≤ mc ∧ c + msY ≤ ms) (K : ∀ H, P H → xS M n0 mc ms Q X pc2 L rest n2 H (k + mcY) (c + msY)) : xS M n0 mc ms Q X pc L st n G k c :=
  xs_callI (As := []) d lk hK hst rfl hrm hR hk (fun _ _ H h _ => by obtain ⟨rfl, rfl, h⟩ := h; exact K H h) (fun _ _ _ h => h.elim)
theorem xs_at {H : xG} (h : G = H) (K : xS M n0 mc ms Q X pc L st n H k c) : xS M n0 mc ms Q X pc L st n G k c := by
  subst h
  exact K
end XN2
def zS0 : zS := ([], zNew, [], (none, none))
theorem k_A_init {a : Nat} {G : xG} (hG : G a = .inr (7, nf7)) : xK mA_init [.ref a] (a + 1) G 527 3642 (fun v m H => v = none ∧ m = a + 528 ∧ fzo H a zS0 ∧ xlow a G H) xNo := by
  have hG : G a = .inr (7, [.null, .null, .null, .null, .null, .null, .null, .null, .null, .null, .null, .int 0]) := hG
  have hl0 : xlow a G G := xlow_rf
  refine xK_of2 (L0 := [(0, _)]) (by decide +kernel) rfl (Nat.le_of_ble_eq_true rfl) rfl ?_
  refine xs_aload_n dA_init_0 rfl ?_
  refine xs_objInit dA_init_1 ljA_1 (Nat.le_of_ble_eq_true rfl) ⟨by decide, by decide⟩ ?_
  refine xs_aload_n dA_init_4 rfl ?_
  refine xs_new dA_init_5 klA_7 xn1 (by omega) (by omega) ?_
  refine xs_dup dA_init_8 rfl ?_
  refine xs_nIN dA_init_9 lkA_9 (k_X_init (va_up_self _ _ _)) rfl (Nat.le_of_ble_eq_true rfl) ⟨by decide, by decide⟩ ⟨by omega, by omega⟩ ?_
  intro H1 ⟨h_tx, hlow⟩
  have hcl : H1 a = .inr (7, [.null, .null, .null, .null, .null, .null, .null, .null, .null, .null, .null, .int 0]) := by rw [hlow _ (by omega), va_up_ne _ _ (by omega)]; exact hG
  refine xs_putF dA_init_12 flA_10 ft7_0 rfl rfl (by repeat (first | exact va_up_self _ _ _ | assumption | refine (va_up_ne _ _ (by omega)).trans ?_)) (fun _ => rfl) (fun _ => rfl) (by simp) ?_
  obtain ⟨K1, hK⟩ : ∃ K, K = va_up H1 a (.inr (7, [.ref (a + 1), .null, .null, .null, .null, .null, .null, .null, .null, .null, .null, .int 0])) := ⟨_, rfl⟩
  have hc1 : K1 a = .inr (7, [.ref (a + 1), .null, .null, .null, .null, .null, .null, .null, .null, .null, .null, .int 0]) := by rw [hK, va_up_self]
  have e1 : ∀ k, k ≠ a → k < a + 1 → K1 k = G k := fun k h1 h2 => by rw [hK, va_up_ne _ _ h1, hlow _ (by omega), va_up_ne _ _ (by omega)]
  have f1 : ∀ k, k ≠ a → K1 k = H1 k := fun k h1 => by rw [hK, va_up_ne _ _ h1]
  have hl1 : xlow a G K1 := fun k hk => by rw [e1 k (by omega) (by omega)]
  refine xs_at (H := K1) hK.symm ?_
  clear hK hcl hlow
  refine xs_aload_n dA_init_15 rfl ?_
  refine xs_new dA_init_16 klA_16 xn0 (by omega) (by omega) ?_
  refine xs_dup dA_init_19 rfl ?_
  refine xs_nIN dA_init_20 lkA_18 (k_C_init (va_up_self _ _ _)) rfl (Nat.le_of_ble_eq_true rfl) ⟨by decide, by decide⟩ ⟨by omega, by omega⟩ ?_
  intro H2 ⟨h_pr, hlow⟩
  have hcl : H2 a = .inr (7, [.ref (a + 1), .null, .null, .null, .null, .null, .null, .null, .null, .null, .null, .int 0]) := by rw [hlow _ (by omega), va_up_ne _ _ (by omega)]; exact hc1
  refine xs_putF dA_init_23 flA_19 ft7_1 rfl rfl (by repeat (first | exact va_up_self _ _ _ | assumption | refine (va_up_ne _ _ (by omega)).trans ?_)) (fun _ => rfl) (fun _ => rfl) (by simp) ?_
  obtain ⟨K2, hK⟩ : ∃ K, K = va_up H2 a (.inr (7, [.ref (a + 1), .ref (a + 4), .null, .null, .null, .null, .null, .null, .null, .null, .null, .int 0])) := ⟨_, rfl⟩
  have hc2 : K2 a = .inr (7, [.ref (a + 1), .ref (a + 4), .null, .null, .null, .null, .null, .null, .null, .null, .null, .int 0]) := by rw [hK, va_up_self]
  have e2 : ∀ k, k ≠ a → k < a + 4 → K2 k = K1 k := fun k h1 h2 => by rw [hK, va_up_ne _ _ h1, hlow _ (by omega), va_up_ne _ _ (by omega)]
  have f2 : ∀ k, k ≠ a → K2 k = H2 k := fun k h1 => by rw [hK, va_up_ne _ _ h1]
  have hl2 : xlow a G K2 := fun k hk => by rw [e2 k (by omega) (by omega)]; exact hl1 k hk
  refine xs_at (H := K2) hK.symm ?_
  clear hK hcl hlow
  refine xs_aload_n dA_init_26 rfl ?_
  refine xs_new dA_init_27 klA_16 xn0 (by omega) (by omega) ?_
  refine xs_dup dA_init_30 rfl ?_
  refine xs_nIN dA_init_31 lkA_18 (k_C_init (va_up_self _ _ _)) rfl (Nat.le_of_ble_eq_true rfl) ⟨by decide, by decide⟩ ⟨by omega, by omega⟩ ?_
  intro H3 ⟨h_tr, hlow⟩
  have hcl : H3 a = .inr (7, [.ref (a + 1), .ref (a + 4), .null, .null, .null, .null, .null, .null, .null, .null, .null, .int 0]) := by rw [hlow _ (by omega), va_up_ne _ _ (by omega)]; exact hc2
  refine xs_putF dA_init_34 flA_23 ft7_2 rfl rfl (by repeat (first | exact va_up_self _ _ _ | assumption | refine (va_up_ne _ _ (by omega)).trans ?_)) (fun _ => rfl) (fun _ => rfl) (by simp) ?_
  obtain ⟨K3, hK⟩ : ∃ K, K = va_up H3 a (.inr (7, [.ref (a + 1), .ref (a + 4), .ref (a + 11), .null, .null, .null, .null, .null, .null, .null, .null, .int 0])) := ⟨_, rfl⟩
  have hc3 : K3 a = .inr (7, [.ref (a + 1), .ref (a + 4), .ref (a + 11), .null, .null, .null, .null, .null, .null, .null, .null, .int 0]) := by rw [hK, va_up_self]
  have e3 : ∀ k, k ≠ a → k < a + 11 → K3 k = K2 k := fun k h1 h2 => by rw [hK, va_up_ne _ _ h1, hlow _ (by omega), va_up_ne _ _ (by omega)]
  have f3 : ∀ k, k ≠ a → K3 k = H3 k := fun k h1 => by rw [hK, va_up_ne _ _ h1]
  have hl3 : xlow a G K3 := fun k hk => by rw [e3 k (by omega) (by omega)]; exact hl2 k hk
  refine xs_at (H := K3) hK.symm ?_
  clear hK hcl hlow
  refine xs_aload_n dA_init_37 rfl ?_
  refine xs_new dA_init_38 klA_26 xn4 (by omega) (by omega) ?_
  refine xs_dup dA_init_41 rfl ?_
  refine xs_nI dA_init_42 lkA_28 (k_H_init (va_up_self _ _ _)) rfl (Nat.le_of_ble_eq_true rfl) ⟨by decide, by decide⟩ ⟨by omega, by omega⟩ ?_
  intro H4 ⟨h_hi, hlow⟩
  have hcl : H4 a = .inr (7, [.ref (a + 1), .ref (a + 4), .ref (a + 11), .null, .null, .null, .null, .null, .null, .null, .null, .int 0]) := by rw [hlow _ (by omega), va_up_ne _ _ (by omega)]; exact hc3
  refine xs_putF dA_init_45 flA_29 ft7_3 rfl rfl (by repeat (first | exact va_up_self _ _ _ | assumption | refine (va_up_ne _ _ (by omega)).trans ?_)) (fun _ => rfl) (fun _ => rfl) (by simp) ?_
  obtain ⟨K4, hK⟩ : ∃ K, K = va_up H4 a (.inr (7, [.ref (a + 1), .ref (a + 4), .ref (a + 11), .ref (a + 18), .null, .null, .null, .null, .null, .null, .null, .int 0])) := ⟨_, rfl⟩
  have hc4 : K4 a = .inr (7, [.ref (a + 1), .ref (a + 4), .ref (a + 11), .ref (a + 18), .null, .null, .null, .null, .null, .null, .null, .int 0]) := by rw [hK, va_up_self]
  have e4 : ∀ k, k ≠ a → k < a + 18 → K4 k = K3 k := fun k h1 h2 => by rw [hK, va_up_ne _ _ h1, hlow _ (by omega), va_up_ne _ _ (by omega)]
  have f4 : ∀ k, k ≠ a → K4 k = H4 k := fun k h1 => by rw [hK, va_up_ne _ _ h1]
  have hl4 : xlow a G K4 := fun k hk => by rw [e4 k (by omega) (by omega)]; exact hl3 k hk
  refine xs_at (H := K4) hK.symm ?_
  clear hK hcl hlow
  refine xs_aload_n dA_init_48 rfl ?_
  refine xs_iconst (v := 2) dA_init_49 (by decide) ?_
  refine xs_newQ (tag := 4) (N := 2) rfl (by decide) klA_16 dA_init_50 rfl (by omega) (by omega) (by omega) ?_
  refine xs_putF dA_init_53 flA_33 ft7_4 rfl rfl (by repeat (first | exact va_up_self _ _ _ | assumption | refine (va_up_ne _ _ (by omega)).trans ?_)) (fun _ => rfl) (fun _ => rfl) (by simp) ?_
  obtain ⟨K5, hK⟩ : ∃ K, K = va_up (va_up K4 (a + 118) (.inl (4, 2, .inr (.inr (.inr (.inr (fun _ => none))))))) a (.inr (7, [.ref (a + 1), .ref (a + 4), .ref (a + 11), .ref (a + 18), .ref (a + 118), .null, .null, .null, .null, .null, .null, .int 0])) := ⟨_, rfl⟩
  have hc5 : K5 a = .inr (7, [.ref (a + 1), .ref (a + 4), .ref (a + 11), .ref (a + 18), .ref (a + 118), .null, .null, .null, .null, .null, .null, .int 0]) := by rw [hK, va_up_self]
  have e5 : ∀ k, k ≠ a → k < a + 118 → K5 k = K4 k := fun k h1 h2 => by rw [hK, va_up_ne _ _ h1, va_up_ne _ _ (by omega)]
  have h_sa : K5 (a + 118) = .inl (4, 2, .inr (.inr (.inr (.inr (fun _ => none))))) := by rw [hK, va_up_ne _ _ (by omega), va_up_self]
  have hl5 : xlow a G K5 := fun k hk => by rw [e5 k (by omega) (by omega)]; exact hl4 k hk
  refine xs_at (H := K5) hK.symm ?_
  clear hK
  refine xs_aload_n dA_init_56 rfl ?_
  refine xs_iconst (v := 2) dA_init_57 (by decide) ?_
  refine xs_newZ (N := 2) dA_init_58 rfl (by omega) (by omega) (by omega) ?_
  refine xs_putF dA_init_60 flA_37 ft7_5 rfl rfl (by repeat (first | exact va_up_self _ _ _ | assumption | refine (va_up_ne _ _ (by omega)).trans ?_)) (fun _ => rfl) (fun _ => rfl) (by simp) ?_
  obtain ⟨K6, hK⟩ : ∃ K, K = va_up (va_up K5 (a + 119) (.inl (2, 2, .inl (fun _ => 0)))) a (.inr (7, [.ref (a + 1), .ref (a + 4), .ref (a + 11), .ref (a + 18), .ref (a + 118), .ref (a + 119), .null, .null, .null, .null, .null, .int 0])) := ⟨_, rfl⟩
  have hc6 : K6 a = .inr (7, [.ref (a + 1), .ref (a + 4), .ref (a + 11), .ref (a + 18), .ref (a + 118), .ref (a + 119), .null, .null, .null, .null, .null, .int 0]) := by rw [hK, va_up_self]
  have e6 : ∀ k, k ≠ a → k < a + 119 → K6 k = K5 k := fun k h1 h2 => by rw [hK, va_up_ne _ _ h1, va_up_ne _ _ (by omega)]
  have h_iv : K6 (a + 119) = .inl (2, 2, .inl (fun _ => 0)) := by rw [hK, va_up_ne _ _ (by omega), va_up_self]
  have hl6 : xlow a G K6 := fun k hk => by rw [e6 k (by omega) (by omega)]; exact hl5 k hk
  refine xs_at (H := K6) hK.symm ?_
  clear hK
  refine xs_aload_n dA_init_63 rfl ?_
  refine xs_new dA_init_64 klA_41 xn6 (by omega) (by omega) ?_
  refine xs_dup dA_init_67 rfl ?_
  refine xs_nI dA_init_68 lkA_43 (k_Z_init (va_up_self _ _ _)) rfl (Nat.le_of_ble_eq_true rfl) ⟨by decide, by decide⟩ ⟨by omega, by omega⟩ ?_
  intro H7 ⟨h_zp, hlow⟩
  have hcl : H7 a = .inr (7, [.ref (a + 1), .ref (a + 4), .ref (a + 11), .ref (a + 18), .ref (a + 118), .ref (a + 119), .null, .null, .null, .null, .null, .int 0]) := by rw [hlow _ (by omega), va_up_ne _ _ (by omega)]; exact hc6
  refine xs_putF dA_init_71 flA_44 ft7_6 rfl rfl (by repeat (first | exact va_up_self _ _ _ | assumption | refine (va_up_ne _ _ (by omega)).trans ?_)) (fun _ => rfl) (fun _ => rfl) (by simp) ?_
  obtain ⟨K7, hK⟩ : ∃ K, K = va_up H7 a (.inr (7, [.ref (a + 1), .ref (a + 4), .ref (a + 11), .ref (a + 18), .ref (a + 118), .ref (a + 119), .ref (a + 120), .null, .null, .null, .null, .int 0])) := ⟨_, rfl⟩
  have hc7 : K7 a = .inr (7, [.ref (a + 1), .ref (a + 4), .ref (a + 11), .ref (a + 18), .ref (a + 118), .ref (a + 119), .ref (a + 120), .null, .null, .null, .null, .int 0]) := by rw [hK, va_up_self]
  have e7 : ∀ k, k ≠ a → k < a + 120 → K7 k = K6 k := fun k h1 h2 => by rw [hK, va_up_ne _ _ h1, hlow _ (by omega), va_up_ne _ _ (by omega)]
  have f7 : ∀ k, k ≠ a → K7 k = H7 k := fun k h1 => by rw [hK, va_up_ne _ _ h1]
  have hl7 : xlow a G K7 := fun k hk => by rw [e7 k (by omega) (by omega)]; exact hl6 k hk
  refine xs_at (H := K7) hK.symm ?_
  clear hK hcl hlow
  refine xs_aload_n dA_init_74 rfl ?_
  refine xs_new dA_init_75 klA_41 xn6 (by omega) (by omega) ?_
  refine xs_dup dA_init_78 rfl ?_
  refine xs_nI dA_init_79 lkA_43 (k_Z_init (va_up_self _ _ _)) rfl (Nat.le_of_ble_eq_true rfl) ⟨by decide, by decide⟩ ⟨by omega, by omega⟩ ?_
  intro H8 ⟨h_zt, hlow⟩
  have hcl : H8 a = .inr (7, [.ref (a + 1), .ref (a + 4), .ref (a + 11), .ref (a + 18), .ref (a + 118), .ref (a + 119), .ref (a + 120), .null, .null, .null, .null, .int 0]) := by rw [hlow _ (by omega), va_up_ne _ _ (by omega)]; exact hc7
  refine xs_putF dA_init_82 flA_48 ft7_7 rfl rfl (by repeat (first | exact va_up_self _ _ _ | assumption | refine (va_up_ne _ _ (by omega)).trans ?_)) (fun _ => rfl) (fun _ => rfl) (by simp) ?_
  obtain ⟨K8, hK⟩ : ∃ K, K = va_up H8 a (.inr (7, [.ref (a + 1), .ref (a + 4), .ref (a + 11), .ref (a + 18), .ref (a + 118), .ref (a + 119), .ref (a + 120), .ref (a + 261), .null, .null, .null, .int 0])) := ⟨_, rfl⟩
  have hc8 : K8 a = .inr (7, [.ref (a + 1), .ref (a + 4), .ref (a + 11), .ref (a + 18), .ref (a + 118), .ref (a + 119), .ref (a + 120), .ref (a + 261), .null, .null, .null, .int 0]) := by rw [hK, va_up_self]
  have e8 : ∀ k, k ≠ a → k < a + 261 → K8 k = K7 k := fun k h1 h2 => by rw [hK, va_up_ne _ _ h1, hlow _ (by omega), va_up_ne _ _ (by omega)]
  have f8 : ∀ k, k ≠ a → K8 k = H8 k := fun k h1 => by rw [hK, va_up_ne _ _ h1]
  have hl8 : xlow a G K8 := fun k hk => by rw [e8 k (by omega) (by omega)]; exact hl7 k hk
  refine xs_at (H := K8) hK.symm ?_
  clear hK hcl hlow
  refine xs_aload_n dA_init_85 rfl ?_
  refine xs_new dA_init_86 klA_51 xn2 (by omega) (by omega) ?_
  refine xs_dup dA_init_89 rfl ?_
  refine xs_nIN dA_init_90 lkA_53 (k_F_init (va_up_self _ _ _)) rfl (Nat.le_of_ble_eq_true rfl) ⟨by decide, by decide⟩ ⟨by omega, by omega⟩ ?_
  intro H9 ⟨h_fm, hlow⟩
  have hcl : H9 a = .inr (7, [.ref (a + 1), .ref (a + 4), .ref (a + 11), .ref (a + 18), .ref (a + 118), .ref (a + 119), .ref (a + 120), .ref (a + 261), .null, .null, .null, .int 0]) := by rw [hlow _ (by omega), va_up_ne _ _ (by omega)]; exact hc8
  refine xs_putF dA_init_93 flA_54 ft7_8 rfl rfl (by repeat (first | exact va_up_self _ _ _ | assumption | refine (va_up_ne _ _ (by omega)).trans ?_)) (fun _ => rfl) (fun _ => rfl) (by simp) ?_
  obtain ⟨K9, hK⟩ : ∃ K, K = va_up H9 a (.inr (7, [.ref (a + 1), .ref (a + 4), .ref (a + 11), .ref (a + 18), .ref (a + 118), .ref (a + 119), .ref (a + 120), .ref (a + 261), .ref (a + 402), .null, .null, .int 0])) := ⟨_, rfl⟩
  have hc9 : K9 a = .inr (7, [.ref (a + 1), .ref (a + 4), .ref (a + 11), .ref (a + 18), .ref (a + 118), .ref (a + 119), .ref (a + 120), .ref (a + 261), .ref (a + 402), .null, .null, .int 0]) := by rw [hK, va_up_self]
  have e9 : ∀ k, k ≠ a → k < a + 402 → K9 k = K8 k := fun k h1 h2 => by rw [hK, va_up_ne _ _ h1, hlow _ (by omega), va_up_ne _ _ (by omega)]
  have f9 : ∀ k, k ≠ a → K9 k = H9 k := fun k h1 => by rw [hK, va_up_ne _ _ h1]
  have hl9 : xlow a G K9 := fun k hk => by rw [e9 k (by omega) (by omega)]; exact hl8 k hk
  refine xs_at (H := K9) hK.symm ?_
  clear hK hcl hlow
  refine xs_aload_n dA_init_96 rfl ?_
  refine xs_new dA_init_97 klA_58 xn3 (by omega) (by omega) ?_
  refine xs_dup dA_init_100 rfl ?_
  refine xs_nI dA_init_101 lkA_60 (k_G_init (va_up_self _ _ _)) rfl (Nat.le_of_ble_eq_true rfl) ⟨by decide, by decide⟩ ⟨by omega, by omega⟩ ?_
  intro H10 ⟨h_gr, hlow⟩
  have hcl : H10 a = .inr (7, [.ref (a + 1), .ref (a + 4), .ref (a + 11), .ref (a + 18), .ref (a + 118), .ref (a + 119), .ref (a + 120), .ref (a + 261), .ref (a + 402), .null, .null, .int 0]) := by rw [hlow _ (by omega), va_up_ne _ _ (by omega)]; exact hc9
  refine xs_putF dA_init_104 flA_61 ft7_9 rfl rfl (by repeat (first | exact va_up_self _ _ _ | assumption | refine (va_up_ne _ _ (by omega)).trans ?_)) (fun _ => rfl) (fun _ => rfl) (by simp) ?_
  obtain ⟨K10, hK⟩ : ∃ K, K = va_up H10 a (.inr (7, [.ref (a + 1), .ref (a + 4), .ref (a + 11), .ref (a + 18), .ref (a + 118), .ref (a + 119), .ref (a + 120), .ref (a + 261), .ref (a + 402), .ref (a + 409), .null, .int 0])) := ⟨_, rfl⟩
  have hc10 : K10 a = .inr (7, [.ref (a + 1), .ref (a + 4), .ref (a + 11), .ref (a + 18), .ref (a + 118), .ref (a + 119), .ref (a + 120), .ref (a + 261), .ref (a + 402), .ref (a + 409), .null, .int 0]) := by rw [hK, va_up_self]
  have e10 : ∀ k, k ≠ a → k < a + 409 → K10 k = K9 k := fun k h1 h2 => by rw [hK, va_up_ne _ _ h1, hlow _ (by omega), va_up_ne _ _ (by omega)]
  have f10 : ∀ k, k ≠ a → K10 k = H10 k := fun k h1 => by rw [hK, va_up_ne _ _ h1]
  have hl10 : xlow a G K10 := fun k hk => by rw [e10 k (by omega) (by omega)]; exact hl9 k hk
  refine xs_at (H := K10) hK.symm ?_
  clear hK hcl hlow
  refine xs_aload_n dA_init_107 rfl ?_
  refine xs_new dA_init_108 klA_65 xn5 (by omega) (by omega) ?_
  refine xs_dup dA_init_111 rfl ?_
  refine xs_cIN_v (As := []) dA_init_112 lkA_67 (k_T_init) rfl rfl (Nat.le_of_ble_eq_true rfl) ⟨by decide, by decide⟩ ⟨by omega, by omega⟩ ?_
  refine xs_putF dA_init_115 flA_68 ft7_10 rfl rfl (by repeat (first | exact va_up_self _ _ _ | assumption | refine (va_up_ne _ _ (by omega)).trans ?_)) (fun _ => rfl) (fun _ => rfl) (by simp) ?_
  obtain ⟨K11, hK⟩ : ∃ K, K = va_up (va_up K10 (a + 513) (.inr (5, nf5))) a (.inr (7, [.ref (a + 1), .ref (a + 4), .ref (a + 11), .ref (a + 18), .ref (a + 118), .ref (a + 119), .ref (a + 120), .ref (a + 261), .ref (a + 402), .ref (a + 409), .ref (a + 513), .int 0])) := ⟨_, rfl⟩
  have hc11 : K11 a = .inr (7, [.ref (a + 1), .ref (a + 4), .ref (a + 11), .ref (a + 18), .ref (a + 118), .ref (a + 119), .ref (a + 120), .ref (a + 261), .ref (a + 402), .ref (a + 409), .ref (a + 513), .int 0]) := by rw [hK, va_up_self]
  have e11 : ∀ k, k ≠ a → k < a + 513 → K11 k = K10 k := fun k h1 h2 => by rw [hK, va_up_ne _ _ h1, va_up_ne _ _ (by omega)]
  have h_sc : K11 (a + 513) = .inr (5, nf5) := by rw [hK, va_up_ne _ _ (by omega), va_up_self]
  have hl11 : xlow a G K11 := fun k hk => by rw [e11 k (by omega) (by omega)]; exact hl10 k hk
  refine xs_at (H := K11) hK.symm ?_
  clear hK
  refine xs_aload_n dA_init_118 rfl ?_
  refine xs_iconst (v := 0) dA_init_119 (by decide) ?_
  refine xs_put dA_init_120 flA_72 ft7_11 (by repeat (first | exact va_up_self _ _ _ | assumption | refine (va_up_ne _ _ (by omega)).trans ?_)) (fun _ => rfl) (fun _ => rfl) (by simp) ?_
  refine xs_iconst (v := 0) dA_init_123 (by decide) ?_
  refine xs_istore_n (L2 := [(1, _), (0, _)]) dA_init_124 (by decide) rfl ?_
  refine xs_pick (L2 := [(0, _), (1, _)]) [1, 0] rfl ?_
  obtain ⟨K12, hK⟩ : ∃ K, K = va_up K11 a (fzc a false) := ⟨_, rfl⟩
  have hc12 : K12 a = fzc a false := by rw [hK, va_up_self]
  have e12 : ∀ k, k ≠ a → K12 k = K11 k := fun k h1 => by rw [hK, va_up_ne _ _ h1]
  have hl12 : xlow a G K12 := fun k hk => by rw [e12 k (by omega)]; exact hl11 k hk
  refine xs_at (H := K12) hK.symm ?_
  clear hK
  have g_h_tx : txt K12 (a + 1) [] 0 0 (fun _ => 0) := txt_fr h_tx (fun k _ _ => by rw [e12 k (by omega), e11 k (by omega) (by omega), e10 k (by omega) (by omega), e9 k (by omega) (by omega), e8 k (by omega) (by omega), e7 k (by omega) (by omega), e6 k (by omega) (by omega), e5 k (by omega) (by omega), e4 k (by omega) (by omega), e3 k (by omega) (by omega), e2 k (by omega) (by omega)]; exact f1 k (by omega))
  have g_h_pr : cry K12 (a + 4) zNew := cry_fr h_pr (fun k _ _ => by rw [e12 k (by omega), e11 k (by omega) (by omega), e10 k (by omega) (by omega), e9 k (by omega) (by omega), e8 k (by omega) (by omega), e7 k (by omega) (by omega), e6 k (by omega) (by omega), e5 k (by omega) (by omega), e4 k (by omega) (by omega), e3 k (by omega) (by omega)]; exact f2 k (by omega))
  have g_h_tr : cry K12 (a + 11) zNew := cry_fr h_tr (fun k _ _ => by rw [e12 k (by omega), e11 k (by omega) (by omega), e10 k (by omega) (by omega), e9 k (by omega) (by omega), e8 k (by omega) (by omega), e7 k (by omega) (by omega), e6 k (by omega) (by omega), e5 k (by omega) (by omega), e4 k (by omega) (by omega)]; exact f3 k (by omega))
  have g_h_hi : his K12 (a + 18) [] := his_fr h_hi (fun k _ _ => by rw [e12 k (by omega), e11 k (by omega) (by omega), e10 k (by omega) (by omega), e9 k (by omega) (by omega), e8 k (by omega) (by omega), e7 k (by omega) (by omega), e6 k (by omega) (by omega), e5 k (by omega) (by omega)]; exact f4 k (by omega))
  have g_h_sa : K12 (a + 118) = .inl (4, 2, .inr (.inr (.inr (.inr (fun _ => none))))) := by rw [e12 _ (by omega), e11 _ (by omega) (by omega), e10 _ (by omega) (by omega), e9 _ (by omega) (by omega), e8 _ (by omega) (by omega), e7 _ (by omega) (by omega), e6 _ (by omega) (by omega)]; exact h_sa
  have g_h_iv : K12 (a + 119) = .inl (2, 2, .inl (fun _ => 0)) := by rw [e12 _ (by omega), e11 _ (by omega) (by omega), e10 _ (by omega) (by omega), e9 _ (by omega) (by omega), e8 _ (by omega) (by omega), e7 _ (by omega) (by omega)]; exact h_iv
  have g_h_zp : ∃ fd fa pa ms cv fcs cnt, zlo K12 (a + 120) fd fa pa ms cv fcs cnt := by
    obtain ⟨fd, fa, pa, ms, cv, q⟩ := h_zp
    exact ⟨fd, fa, pa, ms, cv, 0, 0, zlo_fr q (fun k _ _ => by rw [e12 k (by omega), e11 k (by omega) (by omega), e10 k (by omega) (by omega), e9 k (by omega) (by omega), e8 k (by omega) (by omega)]; exact f7 k (by omega))⟩
  have g_h_zt : ∃ fd fa pa ms cv fcs cnt, zlo K12 (a + 261) fd fa pa ms cv fcs cnt := by
    obtain ⟨fd, fa, pa, ms, cv, q⟩ := h_zt
    exact ⟨fd, fa, pa, ms, cv, 0, 0, zlo_fr q (fun k _ _ => by rw [e12 k (by omega), e11 k (by omega) (by omega), e10 k (by omega) (by omega), e9 k (by omega) (by omega)]; exact f8 k (by omega))⟩
  have g_h_fm : ∃ N F b c, zfo K12 (a + 402) N F b c := ⟨_, _, _, _, zfo_fr h_fm (fun k _ _ => by rw [e12 k (by omega), e11 k (by omega) (by omega), e10 k (by omega) (by omega)]; exact f9 k (by omega))⟩
  have g_h_gr : ∃ I, gro K12 (a + 409) I := by
    obtain ⟨I, q⟩ := h_gr
    exact ⟨I, gro_fr q (fun k _ _ => by rw [e12 k (by omega), e11 k (by omega) (by omega)]; exact f10 k (by omega))⟩
  have g_h_sc : ∃ x y z, K12 (a + 513) = xT x y z := ⟨0, 0, 0, by rw [e12 _ (by omega)]; exact h_sc⟩
  have loop : ∀ (m i nn kk cc : Nat) (H : xG) (fs : Nat → Option Nat), 2 - i < m → i ≤ 2 → nn = a + 514 + 7 * i → kk = 513 + 7 * i → cc = 3478 + 82 * i → (∀ k, k ≠ a + 118 → k < a + 514 → H k = K12 k) → H (a + 118) = .inl (4, 2, .inr (.inr (.inr (.inr fs)))) → (∀ j, j < i → fs j = some (a + 514 + 7 * j) ∧ cry H (a + 514 + 7 * j) zNew) →
      xS mA_init (a + 1) 527 3642 (fun v m H => v = none ∧ m = a + 528 ∧ fzo H a zS0 ∧ xlow a G H) xNo 125 [(0, .ref a), (1, .int (nI i))] [] nn H kk cc := by
    intro m
    induction m with
    | zero => intro i nn kk cc H fs q; exact absurd q (by omega)
    | succ m ih =>
      intro i nn kk cc H fs q1 q2 x1 x2 x3 hfr hsa hj
      subst x1; subst x2; subst x3
      refine xs_iload_n dA_init_125 rfl ?_
      refine xs_iconst (v := 2) dA_init_126 (by decide) ?_
      refine xs_icmp_ge dA_init_127 (fun hg => ?_) (fun hg => ?_)
      · have hi : i = 2 := by
          have := (nI_leI (a := 2) (by omega) (by omega)).mp hg
          omega
        subst hi
        have s0 := hj 0 (by omega)
        have s1 := hj 1 (by omega)
        refine xs_vret dA_init_149 rfl (by omega) (by omega) ⟨rfl, by omega, ⟨zNew, false, ?_, ⟨_, _, _, txt_fr g_h_tx (fun k _ _ => hfr k (by omega) (by omega))⟩, cry_fr g_h_pr (fun k _ _ => hfr k (by omega) (by omega)), cry_fr g_h_tr (fun k _ _ => hfr k (by omega) (by omega)), his_fr g_h_hi (fun k _ _ => hfr k (by omega) (by omega)), ⟨fs, hsa, s0.1, s1.1⟩, ⟨_, by rw [hfr _ (by omega) (by omega)]; exact g_h_iv, rfl, rfl⟩, ⟨(fun e => by cases e), ?_⟩, ?_, ?_, ?_, ?_, ⟨zNew, s0.2, fun V e => by cases e⟩, ⟨zNew, s1.2, fun V e => by cases e⟩⟩, fun k hk => by rw [hfr _ (by omega) (by omega)]; exact hl12 k hk⟩
        · rw [hfr _ (by omega) (by omega)]
          exact hc12
        · obtain ⟨fd, fa, pa, ms, cv, fcs, cnt, q⟩ := g_h_zp
          exact ⟨fd, fa, pa, ms, cv, fcs, cnt, zlo_fr q (fun k _ _ => hfr k (by omega) (by omega))⟩
        · obtain ⟨fd, fa, pa, ms, cv, fcs, cnt, q⟩ := g_h_zt
          exact ⟨fd, fa, pa, ms, cv, fcs, cnt, zlo_fr q (fun k _ _ => hfr k (by omega) (by omega))⟩
        · obtain ⟨N, F, b, c, q⟩ := g_h_fm
          exact ⟨N, F, b, c, zfo_fr q (fun k _ _ => hfr k (by omega) (by omega))⟩
        · obtain ⟨I, q⟩ := g_h_gr
          exact ⟨I, gro_fr q (fun k _ _ => hfr k (by omega) (by omega))⟩
        · obtain ⟨x, y, z, q⟩ := g_h_sc
          exact ⟨x, y, z, by rw [hfr _ (by omega) (by omega)]; exact q⟩
      · have hi : i < 2 := nI_lt_of (b := 2) (by omega) (by omega) hg
        have hin : vp_in (nI i) 2 := vp_in_nI hi (by omega)
        have hcH : H a = fzc a false := by rw [hfr _ (by omega) (by omega)]; exact hc12
        refine xs_aload_n dA_init_130 rfl ?_
        refine xs_get dA_init_131 flA_33 (by repeat (first | exact va_up_self _ _ _ | assumption | refine (va_up_ne _ _ (by omega)).trans ?_)) rfl ?_
        refine xs_iload_n dA_init_134 rfl ?_
        refine xs_new dA_init_135 klA_16 xn0 (by omega) (by omega) ?_
        refine xs_dup dA_init_138 rfl ?_
        refine xs_nIN dA_init_139 lkA_18 (k_C_init (va_up_self _ _ _)) rfl (Nat.le_of_ble_eq_true rfl) ⟨by decide, by decide⟩ ⟨by omega, by omega⟩ ?_
        intro H2 ⟨hcry, hlow⟩
        have hcell := cry_cell hcry
        have hsa2 : H2 (a + 118) = .inl (4, 2, .inr (.inr (.inr (.inr fs)))) := by rw [hlow _ (by omega), va_up_ne _ _ (by omega)]; exact hsa
        refine xs_ast4 dA_init_142 (by repeat (first | exact va_up_self _ _ _ | assumption | refine (va_up_ne _ _ (by omega)).trans ?_)) (by assumption) (by repeat (first | exact va_up_self _ _ _ | assumption | refine (va_up_ne _ _ (by omega)).trans ?_)) ?_
        refine xs_iinc (L2 := [(1, _), (0, _)]) dA_init_143 rfl rfl (by decide) rfl ?_
        refine xs_goto dA_init_146 ?_
        refine xs_pick (L2 := [(0, _), (1, _)]) [1, 0] rfl ?_
        rw [xii, nI_clamp (by omega)]
        refine ih (i + 1) _ _ _ _ (va_up fs i (some (a + 514 + 7 * i))) (by omega) (by omega) (by omega) (by omega) (by omega) (fun k h1 h2 => ?_) (va_up_self _ _ _) (fun j hji => ?_)
        · rw [va_up_ne _ _ h1, hlow _ (by omega), va_up_ne _ _ (by omega)]
          exact hfr k h1 h2
        · by_cases hj2 : j = i
          · subst hj2
            exact ⟨va_up_self _ _ _, cry_fr hcry (fun k _ _ => va_up_ne _ _ (by omega))⟩
          · obtain ⟨w1, w2⟩ := hj j (by omega)
            exact ⟨(va_up_ne _ _ hj2).trans w1, cry_fr w2 (fun k _ _ => by rw [va_up_ne _ _ (by omega), hlow _ (by omega), va_up_ne _ _ (by omega)])⟩
  exact loop 3 0 _ _ _ K12 _ (by omega) (by omega) (by omega) (by omega) (by omega) (fun _ _ _ => rfl) g_h_sa (fun j hj => absurd hj (by omega))
