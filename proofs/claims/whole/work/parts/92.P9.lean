theorem k_B_init {b : Nat} {G : xG} (hG : G b = .inr (8, nf8)) : xK mB_init [.ref b] (b + 1) G 16 12164 (fun v m H => v = none ∧ m = b + 17 ∧ mdo H b (nI 0) zS0 ∧ xlow b G H) xNo := by
  have hc0 : G b = .inr (8, [.int 0, .null, .int 0, .int 0, .int 0, .null, .null, .null, .null, .int 0, .null, .null, .null, .null, .null, .null, .null, .int 0, .null, .null, .null, .null, .int 0]) := hG
  have hl0 : xlow b G G := xlow_rf
  refine xK_of2 (L0 := [(0, _)]) (by decide +kernel) rfl (Nat.le_of_ble_eq_true rfl) rfl ?_
  refine xs_aload_n dB_init_0 rfl ?_
  refine xs_objInit dB_init_1 ljB_1 (Nat.le_of_ble_eq_true rfl) ⟨by decide, by decide⟩ ?_
  refine xs_aload_n dB_init_4 rfl ?_
  refine xs_bipush (v := 100) dB_init_5 (by decide) ?_
  refine xs_newI (N := 100) dB_init_7 rfl (by omega) (by omega) (by omega) ?_
  refine xs_putF dB_init_9 flB_7 ft8_1 rfl rfl (by repeat (first | exact va_up_self _ _ _ | assumption | refine (va_up_ne _ _ (by omega)).trans ?_)) (fun _ => rfl) (fun _ => rfl) (by simp) ?_
  obtain ⟨K1, hK⟩ : ∃ K, K = va_up (va_up G (b + 1) (oI 100 (fun _ => 0))) b (.inr (8, [.int 0, .ref (b + 1), .int 0, .int 0, .int 0, .null, .null, .null, .null, .int 0, .null, .null, .null, .null, .null, .null, .null, .int 0, .null, .null, .null, .null, .int 0])) := ⟨_, rfl⟩
  have hc1 : K1 b = .inr (8, [.int 0, .ref (b + 1), .int 0, .int 0, .int 0, .null, .null, .null, .null, .int 0, .null, .null, .null, .null, .null, .null, .null, .int 0, .null, .null, .null, .null, .int 0]) := by rw [hK, va_up_self]
  have e1 : ∀ k, k ≠ b → k ≠ b + 1 → K1 k = G k := fun k h1 h2 => by rw [hK, va_up_ne _ _ h1, va_up_ne _ _ h2]
  have a1 : K1 (b + 1) = oI 100 (fun _ => 0) := by rw [hK, va_up_ne _ _ (by omega), va_up_self]
  have hl1 : xlow b G K1 := fun k hk => (e1 k (by omega) (by omega)).trans (hl0 k hk)
  refine xs_at (H := K1) hK.symm ?_
  clear hK hc0
  refine xs_aload_n dB_init_12 rfl ?_
  refine xs_bipush (v := 70) dB_init_13 (by decide) ?_
  refine xs_newI (N := 70) dB_init_15 rfl (by omega) (by omega) (by omega) ?_
  refine xs_putF dB_init_17 flB_13 ft8_5 rfl rfl (by repeat (first | exact va_up_self _ _ _ | assumption | refine (va_up_ne _ _ (by omega)).trans ?_)) (fun _ => rfl) (fun _ => rfl) (by simp) ?_
  obtain ⟨K2, hK⟩ : ∃ K, K = va_up (va_up K1 (b + 2) (oI 70 (fun _ => 0))) b (.inr (8, [.int 0, .ref (b + 1), .int 0, .int 0, .int 0, .ref (b + 2), .null, .null, .null, .int 0, .null, .null, .null, .null, .null, .null, .null, .int 0, .null, .null, .null, .null, .int 0])) := ⟨_, rfl⟩
  have hc2 : K2 b = .inr (8, [.int 0, .ref (b + 1), .int 0, .int 0, .int 0, .ref (b + 2), .null, .null, .null, .int 0, .null, .null, .null, .null, .null, .null, .null, .int 0, .null, .null, .null, .null, .int 0]) := by rw [hK, va_up_self]
  have e2 : ∀ k, k ≠ b → k ≠ b + 2 → K2 k = K1 k := fun k h1 h2 => by rw [hK, va_up_ne _ _ h1, va_up_ne _ _ h2]
  have a2 : K2 (b + 2) = oI 70 (fun _ => 0) := by rw [hK, va_up_ne _ _ (by omega), va_up_self]
  have hl2 : xlow b G K2 := fun k hk => (e2 k (by omega) (by omega)).trans (hl1 k hk)
  refine xs_at (H := K2) hK.symm ?_
  clear hK hc1
  refine xs_aload_n dB_init_20 rfl ?_
  refine xs_bipush (v := 70) dB_init_21 (by decide) ?_
  refine xs_newI (N := 70) dB_init_23 rfl (by omega) (by omega) (by omega) ?_
  refine xs_putF dB_init_25 flB_16 ft8_6 rfl rfl (by repeat (first | exact va_up_self _ _ _ | assumption | refine (va_up_ne _ _ (by omega)).trans ?_)) (fun _ => rfl) (fun _ => rfl) (by simp) ?_
  obtain ⟨K3, hK⟩ : ∃ K, K = va_up (va_up K2 (b + 3) (oI 70 (fun _ => 0))) b (.inr (8, [.int 0, .ref (b + 1), .int 0, .int 0, .int 0, .ref (b + 2), .ref (b + 3), .null, .null, .int 0, .null, .null, .null, .null, .null, .null, .null, .int 0, .null, .null, .null, .null, .int 0])) := ⟨_, rfl⟩
  have hc3 : K3 b = .inr (8, [.int 0, .ref (b + 1), .int 0, .int 0, .int 0, .ref (b + 2), .ref (b + 3), .null, .null, .int 0, .null, .null, .null, .null, .null, .null, .null, .int 0, .null, .null, .null, .null, .int 0]) := by rw [hK, va_up_self]
  have e3 : ∀ k, k ≠ b → k ≠ b + 3 → K3 k = K2 k := fun k h1 h2 => by rw [hK, va_up_ne _ _ h1, va_up_ne _ _ h2]
  have a3 : K3 (b + 3) = oI 70 (fun _ => 0) := by rw [hK, va_up_ne _ _ (by omega), va_up_self]
  have hl3 : xlow b G K3 := fun k hk => (e3 k (by omega) (by omega)).trans (hl2 k hk)
  refine xs_at (H := K3) hK.symm ?_
  clear hK hc2
  refine xs_aload_n dB_init_28 rfl ?_
  refine xs_bipush (v := 70) dB_init_29 (by decide) ?_
  refine xs_newI (N := 70) dB_init_31 rfl (by omega) (by omega) (by omega) ?_
  refine xs_putF dB_init_33 flB_19 ft8_7 rfl rfl (by repeat (first | exact va_up_self _ _ _ | assumption | refine (va_up_ne _ _ (by omega)).trans ?_)) (fun _ => rfl) (fun _ => rfl) (by simp) ?_
  obtain ⟨K4, hK⟩ : ∃ K, K = va_up (va_up K3 (b + 4) (oI 70 (fun _ => 0))) b (.inr (8, [.int 0, .ref (b + 1), .int 0, .int 0, .int 0, .ref (b + 2), .ref (b + 3), .ref (b + 4), .null, .int 0, .null, .null, .null, .null, .null, .null, .null, .int 0, .null, .null, .null, .null, .int 0])) := ⟨_, rfl⟩
  have hc4 : K4 b = .inr (8, [.int 0, .ref (b + 1), .int 0, .int 0, .int 0, .ref (b + 2), .ref (b + 3), .ref (b + 4), .null, .int 0, .null, .null, .null, .null, .null, .null, .null, .int 0, .null, .null, .null, .null, .int 0]) := by rw [hK, va_up_self]
  have e4 : ∀ k, k ≠ b → k ≠ b + 4 → K4 k = K3 k := fun k h1 h2 => by rw [hK, va_up_ne _ _ h1, va_up_ne _ _ h2]
  have a4 : K4 (b + 4) = oI 70 (fun _ => 0) := by rw [hK, va_up_ne _ _ (by omega), va_up_self]
  have hl4 : xlow b G K4 := fun k hk => (e4 k (by omega) (by omega)).trans (hl3 k hk)
  refine xs_at (H := K4) hK.symm ?_
  clear hK hc3
  refine xs_aload_n dB_init_36 rfl ?_
  refine xs_sipush (v := 980) dB_init_37 (by decide) ?_
  refine xs_newI (N := 980) dB_init_40 rfl (by omega) (by omega) (by omega) ?_
  refine xs_putF dB_init_42 flB_22 ft8_8 rfl rfl (by repeat (first | exact va_up_self _ _ _ | assumption | refine (va_up_ne _ _ (by omega)).trans ?_)) (fun _ => rfl) (fun _ => rfl) (by simp) ?_
  obtain ⟨K5, hK⟩ : ∃ K, K = va_up (va_up K4 (b + 5) (oI 980 (fun _ => 0))) b (.inr (8, [.int 0, .ref (b + 1), .int 0, .int 0, .int 0, .ref (b + 2), .ref (b + 3), .ref (b + 4), .ref (b + 5), .int 0, .null, .null, .null, .null, .null, .null, .null, .int 0, .null, .null, .null, .null, .int 0])) := ⟨_, rfl⟩
  have hc5 : K5 b = .inr (8, [.int 0, .ref (b + 1), .int 0, .int 0, .int 0, .ref (b + 2), .ref (b + 3), .ref (b + 4), .ref (b + 5), .int 0, .null, .null, .null, .null, .null, .null, .null, .int 0, .null, .null, .null, .null, .int 0]) := by rw [hK, va_up_self]
  have e5 : ∀ k, k ≠ b → k ≠ b + 5 → K5 k = K4 k := fun k h1 h2 => by rw [hK, va_up_ne _ _ h1, va_up_ne _ _ h2]
  have a5 : K5 (b + 5) = oI 980 (fun _ => 0) := by rw [hK, va_up_ne _ _ (by omega), va_up_self]
  have hl5 : xlow b G K5 := fun k hk => (e5 k (by omega) (by omega)).trans (hl4 k hk)
  refine xs_at (H := K5) hK.symm ?_
  clear hK hc4
  refine xs_aload_n dB_init_45 rfl ?_
  refine xs_sipush (v := 140) dB_init_46 (by decide) ?_
  refine xs_newI (N := 140) dB_init_49 rfl (by omega) (by omega) (by omega) ?_
  refine xs_putF dB_init_51 flB_25 ft8_10 rfl rfl (by repeat (first | exact va_up_self _ _ _ | assumption | refine (va_up_ne _ _ (by omega)).trans ?_)) (fun _ => rfl) (fun _ => rfl) (by simp) ?_
  obtain ⟨K6, hK⟩ : ∃ K, K = va_up (va_up K5 (b + 6) (oI 140 (fun _ => 0))) b (.inr (8, [.int 0, .ref (b + 1), .int 0, .int 0, .int 0, .ref (b + 2), .ref (b + 3), .ref (b + 4), .ref (b + 5), .int 0, .ref (b + 6), .null, .null, .null, .null, .null, .null, .int 0, .null, .null, .null, .null, .int 0])) := ⟨_, rfl⟩
  have hc6 : K6 b = .inr (8, [.int 0, .ref (b + 1), .int 0, .int 0, .int 0, .ref (b + 2), .ref (b + 3), .ref (b + 4), .ref (b + 5), .int 0, .ref (b + 6), .null, .null, .null, .null, .null, .null, .int 0, .null, .null, .null, .null, .int 0]) := by rw [hK, va_up_self]
  have e6 : ∀ k, k ≠ b → k ≠ b + 6 → K6 k = K5 k := fun k h1 h2 => by rw [hK, va_up_ne _ _ h1, va_up_ne _ _ h2]
  have a6 : K6 (b + 6) = oI 140 (fun _ => 0) := by rw [hK, va_up_ne _ _ (by omega), va_up_self]
  have hl6 : xlow b G K6 := fun k hk => (e6 k (by omega) (by omega)).trans (hl5 k hk)
  refine xs_at (H := K6) hK.symm ?_
  clear hK hc5
  refine xs_aload_n dB_init_54 rfl ?_
  refine xs_iconst (v := 2) dB_init_55 (by decide) ?_
  refine xs_newZ (N := 2) dB_init_56 rfl (by omega) (by omega) (by omega) ?_
  refine xs_putF dB_init_58 flB_28 ft8_11 rfl rfl (by repeat (first | exact va_up_self _ _ _ | assumption | refine (va_up_ne _ _ (by omega)).trans ?_)) (fun _ => rfl) (fun _ => rfl) (by simp) ?_
  obtain ⟨K7, hK⟩ : ∃ K, K = va_up (va_up K6 (b + 7) (oB 2 (fun _ => 0))) b (.inr (8, [.int 0, .ref (b + 1), .int 0, .int 0, .int 0, .ref (b + 2), .ref (b + 3), .ref (b + 4), .ref (b + 5), .int 0, .ref (b + 6), .ref (b + 7), .null, .null, .null, .null, .null, .int 0, .null, .null, .null, .null, .int 0])) := ⟨_, rfl⟩
  have hc7 : K7 b = .inr (8, [.int 0, .ref (b + 1), .int 0, .int 0, .int 0, .ref (b + 2), .ref (b + 3), .ref (b + 4), .ref (b + 5), .int 0, .ref (b + 6), .ref (b + 7), .null, .null, .null, .null, .null, .int 0, .null, .null, .null, .null, .int 0]) := by rw [hK, va_up_self]
  have e7 : ∀ k, k ≠ b → k ≠ b + 7 → K7 k = K6 k := fun k h1 h2 => by rw [hK, va_up_ne _ _ h1, va_up_ne _ _ h2]
  have a7 : K7 (b + 7) = oB 2 (fun _ => 0) := by rw [hK, va_up_ne _ _ (by omega), va_up_self]
  have hl7 : xlow b G K7 := fun k hk => (e7 k (by omega) (by omega)).trans (hl6 k hk)
  refine xs_at (H := K7) hK.symm ?_
  clear hK hc6
  refine xs_aload_n dB_init_61 rfl ?_
  refine xs_iconst (v := 3) dB_init_62 (by decide) ?_
  refine xs_newJ (N := 3) dB_init_63 rfl (by omega) (by omega) (by omega) ?_
  refine xs_putF dB_init_65 flB_32 ft8_12 rfl rfl (by repeat (first | exact va_up_self _ _ _ | assumption | refine (va_up_ne _ _ (by omega)).trans ?_)) (fun _ => rfl) (fun _ => rfl) (by simp) ?_
  obtain ⟨K8, hK⟩ : ∃ K, K = va_up (va_up K7 (b + 8) (oL 3 (fun _ => 0))) b (.inr (8, [.int 0, .ref (b + 1), .int 0, .int 0, .int 0, .ref (b + 2), .ref (b + 3), .ref (b + 4), .ref (b + 5), .int 0, .ref (b + 6), .ref (b + 7), .ref (b + 8), .null, .null, .null, .null, .int 0, .null, .null, .null, .null, .int 0])) := ⟨_, rfl⟩
  have hc8 : K8 b = .inr (8, [.int 0, .ref (b + 1), .int 0, .int 0, .int 0, .ref (b + 2), .ref (b + 3), .ref (b + 4), .ref (b + 5), .int 0, .ref (b + 6), .ref (b + 7), .ref (b + 8), .null, .null, .null, .null, .int 0, .null, .null, .null, .null, .int 0]) := by rw [hK, va_up_self]
  have e8 : ∀ k, k ≠ b → k ≠ b + 8 → K8 k = K7 k := fun k h1 h2 => by rw [hK, va_up_ne _ _ h1, va_up_ne _ _ h2]
  have a8 : K8 (b + 8) = oL 3 (fun _ => 0) := by rw [hK, va_up_ne _ _ (by omega), va_up_self]
  have hl8 : xlow b G K8 := fun k hk => (e8 k (by omega) (by omega)).trans (hl7 k hk)
  refine xs_at (H := K8) hK.symm ?_
  clear hK hc7
  refine xs_aload_n dB_init_68 rfl ?_
  refine xs_bipush (v := 48) dB_init_69 (by decide) ?_
  refine xs_newJ (N := 48) dB_init_71 rfl (by omega) (by omega) (by omega) ?_
  refine xs_putF dB_init_73 flB_36 ft8_13 rfl rfl (by repeat (first | exact va_up_self _ _ _ | assumption | refine (va_up_ne _ _ (by omega)).trans ?_)) (fun _ => rfl) (fun _ => rfl) (by simp) ?_
  obtain ⟨K9, hK⟩ : ∃ K, K = va_up (va_up K8 (b + 9) (oL 48 (fun _ => 0))) b (.inr (8, [.int 0, .ref (b + 1), .int 0, .int 0, .int 0, .ref (b + 2), .ref (b + 3), .ref (b + 4), .ref (b + 5), .int 0, .ref (b + 6), .ref (b + 7), .ref (b + 8), .ref (b + 9), .null, .null, .null, .int 0, .null, .null, .null, .null, .int 0])) := ⟨_, rfl⟩
  have hc9 : K9 b = .inr (8, [.int 0, .ref (b + 1), .int 0, .int 0, .int 0, .ref (b + 2), .ref (b + 3), .ref (b + 4), .ref (b + 5), .int 0, .ref (b + 6), .ref (b + 7), .ref (b + 8), .ref (b + 9), .null, .null, .null, .int 0, .null, .null, .null, .null, .int 0]) := by rw [hK, va_up_self]
  have e9 : ∀ k, k ≠ b → k ≠ b + 9 → K9 k = K8 k := fun k h1 h2 => by rw [hK, va_up_ne _ _ h1, va_up_ne _ _ h2]
  have a9 : K9 (b + 9) = oL 48 (fun _ => 0) := by rw [hK, va_up_ne _ _ (by omega), va_up_self]
  have hl9 : xlow b G K9 := fun k hk => (e9 k (by omega) (by omega)).trans (hl8 k hk)
  refine xs_at (H := K9) hK.symm ?_
  clear hK hc8
  refine xs_aload_n dB_init_76 rfl ?_
  refine xs_sipush (v := 363) dB_init_77 (by decide) ?_
  refine xs_newJ (N := 363) dB_init_80 rfl (by omega) (by omega) (by omega) ?_
  refine xs_putF dB_init_82 flB_39 ft8_14 rfl rfl (by repeat (first | exact va_up_self _ _ _ | assumption | refine (va_up_ne _ _ (by omega)).trans ?_)) (fun _ => rfl) (fun _ => rfl) (by simp) ?_
  obtain ⟨K10, hK⟩ : ∃ K, K = va_up (va_up K9 (b + 10) (oL 363 (fun _ => 0))) b (.inr (8, [.int 0, .ref (b + 1), .int 0, .int 0, .int 0, .ref (b + 2), .ref (b + 3), .ref (b + 4), .ref (b + 5), .int 0, .ref (b + 6), .ref (b + 7), .ref (b + 8), .ref (b + 9), .ref (b + 10), .null, .null, .int 0, .null, .null, .null, .null, .int 0])) := ⟨_, rfl⟩
  have hc10 : K10 b = .inr (8, [.int 0, .ref (b + 1), .int 0, .int 0, .int 0, .ref (b + 2), .ref (b + 3), .ref (b + 4), .ref (b + 5), .int 0, .ref (b + 6), .ref (b + 7), .ref (b + 8), .ref (b + 9), .ref (b + 10), .null, .null, .int 0, .null, .null, .null, .null, .int 0]) := by rw [hK, va_up_self]
  have e10 : ∀ k, k ≠ b → k ≠ b + 10 → K10 k = K9 k := fun k h1 h2 => by rw [hK, va_up_ne _ _ h1, va_up_ne _ _ h2]
  have a10 : K10 (b + 10) = oL 363 (fun _ => 0) := by rw [hK, va_up_ne _ _ (by omega), va_up_self]
  have hl10 : xlow b G K10 := fun k hk => (e10 k (by omega) (by omega)).trans (hl9 k hk)
  refine xs_at (H := K10) hK.symm ?_
  clear hK hc9
  refine xs_aload_n dB_init_85 rfl ?_
  refine xs_bipush (v := 121) dB_init_86 (by decide) ?_
  refine xs_newI (N := 121) dB_init_88 rfl (by omega) (by omega) (by omega) ?_
  refine xs_putF dB_init_90 flB_42 ft8_15 rfl rfl (by repeat (first | exact va_up_self _ _ _ | assumption | refine (va_up_ne _ _ (by omega)).trans ?_)) (fun _ => rfl) (fun _ => rfl) (by simp) ?_
  obtain ⟨K11, hK⟩ : ∃ K, K = va_up (va_up K10 (b + 11) (oI 121 (fun _ => 0))) b (.inr (8, [.int 0, .ref (b + 1), .int 0, .int 0, .int 0, .ref (b + 2), .ref (b + 3), .ref (b + 4), .ref (b + 5), .int 0, .ref (b + 6), .ref (b + 7), .ref (b + 8), .ref (b + 9), .ref (b + 10), .ref (b + 11), .null, .int 0, .null, .null, .null, .null, .int 0])) := ⟨_, rfl⟩
  have hc11 : K11 b = .inr (8, [.int 0, .ref (b + 1), .int 0, .int 0, .int 0, .ref (b + 2), .ref (b + 3), .ref (b + 4), .ref (b + 5), .int 0, .ref (b + 6), .ref (b + 7), .ref (b + 8), .ref (b + 9), .ref (b + 10), .ref (b + 11), .null, .int 0, .null, .null, .null, .null, .int 0]) := by rw [hK, va_up_self]
  have e11 : ∀ k, k ≠ b → k ≠ b + 11 → K11 k = K10 k := fun k h1 h2 => by rw [hK, va_up_ne _ _ h1, va_up_ne _ _ h2]
  have a11 : K11 (b + 11) = oI 121 (fun _ => 0) := by rw [hK, va_up_ne _ _ (by omega), va_up_self]
  have hl11 : xlow b G K11 := fun k hk => (e11 k (by omega) (by omega)).trans (hl10 k hk)
  refine xs_at (H := K11) hK.symm ?_
  clear hK hc10
  refine xs_aload_n dB_init_93 rfl ?_
  refine xs_bipush (v := 121) dB_init_94 (by decide) ?_
  refine xs_newI (N := 121) dB_init_96 rfl (by omega) (by omega) (by omega) ?_
  refine xs_putF dB_init_98 flB_45 ft8_16 rfl rfl (by repeat (first | exact va_up_self _ _ _ | assumption | refine (va_up_ne _ _ (by omega)).trans ?_)) (fun _ => rfl) (fun _ => rfl) (by simp) ?_
  obtain ⟨K12, hK⟩ : ∃ K, K = va_up (va_up K11 (b + 12) (oI 121 (fun _ => 0))) b (.inr (8, [.int 0, .ref (b + 1), .int 0, .int 0, .int 0, .ref (b + 2), .ref (b + 3), .ref (b + 4), .ref (b + 5), .int 0, .ref (b + 6), .ref (b + 7), .ref (b + 8), .ref (b + 9), .ref (b + 10), .ref (b + 11), .ref (b + 12), .int 0, .null, .null, .null, .null, .int 0])) := ⟨_, rfl⟩
  have hc12 : K12 b = .inr (8, [.int 0, .ref (b + 1), .int 0, .int 0, .int 0, .ref (b + 2), .ref (b + 3), .ref (b + 4), .ref (b + 5), .int 0, .ref (b + 6), .ref (b + 7), .ref (b + 8), .ref (b + 9), .ref (b + 10), .ref (b + 11), .ref (b + 12), .int 0, .null, .null, .null, .null, .int 0]) := by rw [hK, va_up_self]
  have e12 : ∀ k, k ≠ b → k ≠ b + 12 → K12 k = K11 k := fun k h1 h2 => by rw [hK, va_up_ne _ _ h1, va_up_ne _ _ h2]
  have a12 : K12 (b + 12) = oI 121 (fun _ => 0) := by rw [hK, va_up_ne _ _ (by omega), va_up_self]
  have hl12 : xlow b G K12 := fun k hk => (e12 k (by omega) (by omega)).trans (hl11 k hk)
  refine xs_at (H := K12) hK.symm ?_
  clear hK hc11
  refine xs_aload_n dB_init_101 rfl ?_
  refine xs_bipush (v := 125) dB_init_102 (by decide) ?_
  refine xs_newZ (N := 125) dB_init_104 rfl (by omega) (by omega) (by omega) ?_
  refine xs_putF dB_init_106 flB_48 ft8_18 rfl rfl (by repeat (first | exact va_up_self _ _ _ | assumption | refine (va_up_ne _ _ (by omega)).trans ?_)) (fun _ => rfl) (fun _ => rfl) (by simp) ?_
  obtain ⟨K13, hK⟩ : ∃ K, K = va_up (va_up K12 (b + 13) (oB 125 (fun _ => 0))) b (.inr (8, [.int 0, .ref (b + 1), .int 0, .int 0, .int 0, .ref (b + 2), .ref (b + 3), .ref (b + 4), .ref (b + 5), .int 0, .ref (b + 6), .ref (b + 7), .ref (b + 8), .ref (b + 9), .ref (b + 10), .ref (b + 11), .ref (b + 12), .int 0, .ref (b + 13), .null, .null, .null, .int 0])) := ⟨_, rfl⟩
  have hc13 : K13 b = .inr (8, [.int 0, .ref (b + 1), .int 0, .int 0, .int 0, .ref (b + 2), .ref (b + 3), .ref (b + 4), .ref (b + 5), .int 0, .ref (b + 6), .ref (b + 7), .ref (b + 8), .ref (b + 9), .ref (b + 10), .ref (b + 11), .ref (b + 12), .int 0, .ref (b + 13), .null, .null, .null, .int 0]) := by rw [hK, va_up_self]
  have e13 : ∀ k, k ≠ b → k ≠ b + 13 → K13 k = K12 k := fun k h1 h2 => by rw [hK, va_up_ne _ _ h1, va_up_ne _ _ h2]
  have a13 : K13 (b + 13) = oB 125 (fun _ => 0) := by rw [hK, va_up_ne _ _ (by omega), va_up_self]
  have hl13 : xlow b G K13 := fun k hk => (e13 k (by omega) (by omega)).trans (hl12 k hk)
  refine xs_at (H := K13) hK.symm ?_
  clear hK hc12
  refine xs_aload_n dB_init_109 rfl ?_
  refine xs_bipush (v := 125) dB_init_110 (by decide) ?_
  refine xs_newI (N := 125) dB_init_112 rfl (by omega) (by omega) (by omega) ?_
  refine xs_putF dB_init_114 flB_51 ft8_19 rfl rfl (by repeat (first | exact va_up_self _ _ _ | assumption | refine (va_up_ne _ _ (by omega)).trans ?_)) (fun _ => rfl) (fun _ => rfl) (by simp) ?_
  obtain ⟨K14, hK⟩ : ∃ K, K = va_up (va_up K13 (b + 14) (oI 125 (fun _ => 0))) b (.inr (8, [.int 0, .ref (b + 1), .int 0, .int 0, .int 0, .ref (b + 2), .ref (b + 3), .ref (b + 4), .ref (b + 5), .int 0, .ref (b + 6), .ref (b + 7), .ref (b + 8), .ref (b + 9), .ref (b + 10), .ref (b + 11), .ref (b + 12), .int 0, .ref (b + 13), .ref (b + 14), .null, .null, .int 0])) := ⟨_, rfl⟩
  have hc14 : K14 b = .inr (8, [.int 0, .ref (b + 1), .int 0, .int 0, .int 0, .ref (b + 2), .ref (b + 3), .ref (b + 4), .ref (b + 5), .int 0, .ref (b + 6), .ref (b + 7), .ref (b + 8), .ref (b + 9), .ref (b + 10), .ref (b + 11), .ref (b + 12), .int 0, .ref (b + 13), .ref (b + 14), .null, .null, .int 0]) := by rw [hK, va_up_self]
  have e14 : ∀ k, k ≠ b → k ≠ b + 14 → K14 k = K13 k := fun k h1 h2 => by rw [hK, va_up_ne _ _ h1, va_up_ne _ _ h2]
  have a14 : K14 (b + 14) = oI 125 (fun _ => 0) := by rw [hK, va_up_ne _ _ (by omega), va_up_self]
  have hl14 : xlow b G K14 := fun k hk => (e14 k (by omega) (by omega)).trans (hl13 k hk)
  refine xs_at (H := K14) hK.symm ?_
  clear hK hc13
  refine xs_aload_n dB_init_117 rfl ?_
  refine xs_sipush (v := 4913) dB_init_118 (by decide) ?_
  refine xs_newZ (N := 4913) dB_init_121 rfl (by omega) (by omega) (by omega) ?_
  refine xs_putF dB_init_123 flB_54 ft8_20 rfl rfl (by repeat (first | exact va_up_self _ _ _ | assumption | refine (va_up_ne _ _ (by omega)).trans ?_)) (fun _ => rfl) (fun _ => rfl) (by simp) ?_
  obtain ⟨K15, hK⟩ : ∃ K, K = va_up (va_up K14 (b + 15) (oB 4913 (fun _ => 0))) b (.inr (8, [.int 0, .ref (b + 1), .int 0, .int 0, .int 0, .ref (b + 2), .ref (b + 3), .ref (b + 4), .ref (b + 5), .int 0, .ref (b + 6), .ref (b + 7), .ref (b + 8), .ref (b + 9), .ref (b + 10), .ref (b + 11), .ref (b + 12), .int 0, .ref (b + 13), .ref (b + 14), .ref (b + 15), .null, .int 0])) := ⟨_, rfl⟩
  have hc15 : K15 b = .inr (8, [.int 0, .ref (b + 1), .int 0, .int 0, .int 0, .ref (b + 2), .ref (b + 3), .ref (b + 4), .ref (b + 5), .int 0, .ref (b + 6), .ref (b + 7), .ref (b + 8), .ref (b + 9), .ref (b + 10), .ref (b + 11), .ref (b + 12), .int 0, .ref (b + 13), .ref (b + 14), .ref (b + 15), .null, .int 0]) := by rw [hK, va_up_self]
  have e15 : ∀ k, k ≠ b → k ≠ b + 15 → K15 k = K14 k := fun k h1 h2 => by rw [hK, va_up_ne _ _ h1, va_up_ne _ _ h2]
  have a15 : K15 (b + 15) = oB 4913 (fun _ => 0) := by rw [hK, va_up_ne _ _ (by omega), va_up_self]
  have hl15 : xlow b G K15 := fun k hk => (e15 k (by omega) (by omega)).trans (hl14 k hk)
  refine xs_at (H := K15) hK.symm ?_
  clear hK hc14
  refine xs_aload_n dB_init_126 rfl ?_
  refine xs_sipush (v := 4913) dB_init_127 (by decide) ?_
  refine xs_newI (N := 4913) dB_init_130 rfl (by omega) (by omega) (by omega) ?_
  refine xs_putF dB_init_132 flB_57 ft8_21 rfl rfl (by repeat (first | exact va_up_self _ _ _ | assumption | refine (va_up_ne _ _ (by omega)).trans ?_)) (fun _ => rfl) (fun _ => rfl) (by simp) ?_
  obtain ⟨K16, hK⟩ : ∃ K, K = va_up (va_up K15 (b + 16) (oI 4913 (fun _ => 0))) b (.inr (8, [.int 0, .ref (b + 1), .int 0, .int 0, .int 0, .ref (b + 2), .ref (b + 3), .ref (b + 4), .ref (b + 5), .int 0, .ref (b + 6), .ref (b + 7), .ref (b + 8), .ref (b + 9), .ref (b + 10), .ref (b + 11), .ref (b + 12), .int 0, .ref (b + 13), .ref (b + 14), .ref (b + 15), .ref (b + 16), .int 0])) := ⟨_, rfl⟩
  have hc16 : K16 b = .inr (8, [.int 0, .ref (b + 1), .int 0, .int 0, .int 0, .ref (b + 2), .ref (b + 3), .ref (b + 4), .ref (b + 5), .int 0, .ref (b + 6), .ref (b + 7), .ref (b + 8), .ref (b + 9), .ref (b + 10), .ref (b + 11), .ref (b + 12), .int 0, .ref (b + 13), .ref (b + 14), .ref (b + 15), .ref (b + 16), .int 0]) := by rw [hK, va_up_self]
  have e16 : ∀ k, k ≠ b → k ≠ b + 16 → K16 k = K15 k := fun k h1 h2 => by rw [hK, va_up_ne _ _ h1, va_up_ne _ _ h2]
  have a16 : K16 (b + 16) = oI 4913 (fun _ => 0) := by rw [hK, va_up_ne _ _ (by omega), va_up_self]
  have hl16 : xlow b G K16 := fun k hk => (e16 k (by omega) (by omega)).trans (hl15 k hk)
  refine xs_at (H := K16) hK.symm ?_
  clear hK hc15
  have g1 : K16 (b + 1) = oI 100 (fun _ => 0) := by rw [e16 _ (by omega) (by omega), e15 _ (by omega) (by omega), e14 _ (by omega) (by omega), e13 _ (by omega) (by omega), e12 _ (by omega) (by omega), e11 _ (by omega) (by omega), e10 _ (by omega) (by omega), e9 _ (by omega) (by omega), e8 _ (by omega) (by omega), e7 _ (by omega) (by omega), e6 _ (by omega) (by omega), e5 _ (by omega) (by omega), e4 _ (by omega) (by omega), e3 _ (by omega) (by omega), e2 _ (by omega) (by omega)]; exact a1
  have g2 : K16 (b + 2) = oI 70 (fun _ => 0) := by rw [e16 _ (by omega) (by omega), e15 _ (by omega) (by omega), e14 _ (by omega) (by omega), e13 _ (by omega) (by omega), e12 _ (by omega) (by omega), e11 _ (by omega) (by omega), e10 _ (by omega) (by omega), e9 _ (by omega) (by omega), e8 _ (by omega) (by omega), e7 _ (by omega) (by omega), e6 _ (by omega) (by omega), e5 _ (by omega) (by omega), e4 _ (by omega) (by omega), e3 _ (by omega) (by omega)]; exact a2
  have g3 : K16 (b + 3) = oI 70 (fun _ => 0) := by rw [e16 _ (by omega) (by omega), e15 _ (by omega) (by omega), e14 _ (by omega) (by omega), e13 _ (by omega) (by omega), e12 _ (by omega) (by omega), e11 _ (by omega) (by omega), e10 _ (by omega) (by omega), e9 _ (by omega) (by omega), e8 _ (by omega) (by omega), e7 _ (by omega) (by omega), e6 _ (by omega) (by omega), e5 _ (by omega) (by omega), e4 _ (by omega) (by omega)]; exact a3
  have g4 : K16 (b + 4) = oI 70 (fun _ => 0) := by rw [e16 _ (by omega) (by omega), e15 _ (by omega) (by omega), e14 _ (by omega) (by omega), e13 _ (by omega) (by omega), e12 _ (by omega) (by omega), e11 _ (by omega) (by omega), e10 _ (by omega) (by omega), e9 _ (by omega) (by omega), e8 _ (by omega) (by omega), e7 _ (by omega) (by omega), e6 _ (by omega) (by omega), e5 _ (by omega) (by omega)]; exact a4
  have g5 : K16 (b + 5) = oI 980 (fun _ => 0) := by rw [e16 _ (by omega) (by omega), e15 _ (by omega) (by omega), e14 _ (by omega) (by omega), e13 _ (by omega) (by omega), e12 _ (by omega) (by omega), e11 _ (by omega) (by omega), e10 _ (by omega) (by omega), e9 _ (by omega) (by omega), e8 _ (by omega) (by omega), e7 _ (by omega) (by omega), e6 _ (by omega) (by omega)]; exact a5
  have g6 : K16 (b + 6) = oI 140 (fun _ => 0) := by rw [e16 _ (by omega) (by omega), e15 _ (by omega) (by omega), e14 _ (by omega) (by omega), e13 _ (by omega) (by omega), e12 _ (by omega) (by omega), e11 _ (by omega) (by omega), e10 _ (by omega) (by omega), e9 _ (by omega) (by omega), e8 _ (by omega) (by omega), e7 _ (by omega) (by omega)]; exact a6
  have g7 : K16 (b + 7) = oB 2 (fun _ => 0) := by rw [e16 _ (by omega) (by omega), e15 _ (by omega) (by omega), e14 _ (by omega) (by omega), e13 _ (by omega) (by omega), e12 _ (by omega) (by omega), e11 _ (by omega) (by omega), e10 _ (by omega) (by omega), e9 _ (by omega) (by omega), e8 _ (by omega) (by omega)]; exact a7
  have g8 : K16 (b + 8) = oL 3 (fun _ => 0) := by rw [e16 _ (by omega) (by omega), e15 _ (by omega) (by omega), e14 _ (by omega) (by omega), e13 _ (by omega) (by omega), e12 _ (by omega) (by omega), e11 _ (by omega) (by omega), e10 _ (by omega) (by omega), e9 _ (by omega) (by omega)]; exact a8
  have g9 : K16 (b + 9) = oL 48 (fun _ => 0) := by rw [e16 _ (by omega) (by omega), e15 _ (by omega) (by omega), e14 _ (by omega) (by omega), e13 _ (by omega) (by omega), e12 _ (by omega) (by omega), e11 _ (by omega) (by omega), e10 _ (by omega) (by omega)]; exact a9
  have g10 : K16 (b + 10) = oL 363 (fun _ => 0) := by rw [e16 _ (by omega) (by omega), e15 _ (by omega) (by omega), e14 _ (by omega) (by omega), e13 _ (by omega) (by omega), e12 _ (by omega) (by omega), e11 _ (by omega) (by omega)]; exact a10
  have g11 : K16 (b + 11) = oI 121 (fun _ => 0) := by rw [e16 _ (by omega) (by omega), e15 _ (by omega) (by omega), e14 _ (by omega) (by omega), e13 _ (by omega) (by omega), e12 _ (by omega) (by omega)]; exact a11
  have g12 : K16 (b + 12) = oI 121 (fun _ => 0) := by rw [e16 _ (by omega) (by omega), e15 _ (by omega) (by omega), e14 _ (by omega) (by omega), e13 _ (by omega) (by omega)]; exact a12
  have g13 : K16 (b + 13) = oB 125 (fun _ => 0) := by rw [e16 _ (by omega) (by omega), e15 _ (by omega) (by omega), e14 _ (by omega) (by omega)]; exact a13
  have g14 : K16 (b + 14) = oI 125 (fun _ => 0) := by rw [e16 _ (by omega) (by omega), e15 _ (by omega) (by omega)]; exact a14
  have g15 : K16 (b + 15) = oB 4913 (fun _ => 0) := by rw [e16 _ (by omega) (by omega)]; exact a15
  have g16 := a16
  clear a1 a2 a3 a4 a5 a6 a7 a8 a9 a10 a11 a12 a13 a14 a15 a16 e1 e2 e3 e4 e5 e6 e7 e8 e9 e10 e11 e12 e13 e14 e15 e16 hl0 hl1 hl2 hl3 hl4 hl5 hl6 hl7 hl8 hl9 hl10 hl11 hl12 hl13 hl14 hl15
  refine xs_aload_n dB_init_135 rfl ?_
  refine xs_get dB_init_136 flB_16 (by repeat (first | exact va_up_self _ _ _ | assumption | refine (va_up_ne _ _ (by omega)).trans ?_)) rfl ?_
  refine xs_cS_vx (As := [_]) dB_init_139 lkB_60 (k_B_clean g3) rfl rfl (Nat.le_of_ble_eq_true rfl) ⟨by decide, by decide⟩ ⟨by omega, by omega⟩ ?_
  intro H ⟨f, hH, hf⟩
  have eH : ∀ k, k ≠ b + 3 → H k = K16 k := fun k hk => by rw [hH, va_up_ne _ _ hk]
  have hr : H (b + 3) = oI 70 f := by rw [hH, va_up_self]
  have hcH : H b = mCl b (nI 0) (nI 0) 0 false (nI 0) 0 0 := (eH b (by omega)).trans (hc16.trans rfl)
  refine xs_vret dB_init_142 rfl (by omega) (by omega) ⟨rfl, by omega, ⟨⟨0, false, 0, 0, hcH⟩, ⟨_, (eH _ (by omega)).trans g1, (fun i x hx => by cases hx), Nat.zero_le _, fun x hx => absurd hx List.not_mem_nil⟩, ⟨_, (eH _ (by omega)).trans g2⟩, ⟨f, hr, hf, zNew_ok⟩, ⟨_, (eH _ (by omega)).trans g4⟩, ⟨_, (eH _ (by omega)).trans g5, Nat.zero_le _, fun i W hW => by cases hW⟩, ⟨_, _, (eH _ (by omega)).trans g6, (eH _ (by omega)).trans g7, ⟨rfl, rfl⟩, (fun W hW => by cases hW), fun W hW => by cases hW⟩, ⟨⟨_, (eH _ (by omega)).trans g8⟩, ⟨_, (eH _ (by omega)).trans g9⟩, ⟨_, (eH _ (by omega)).trans g10⟩, ⟨_, (eH _ (by omega)).trans g11⟩, ⟨_, (eH _ (by omega)).trans g12⟩⟩, ⟨_, (eH _ (by omega)).trans g13⟩, ⟨_, (eH _ (by omega)).trans g14⟩, ⟨_, (eH _ (by omega)).trans g15⟩, ⟨_, (eH _ (by omega)).trans g16⟩⟩, fun k hk => by rw [eH k (by omega)]; exact hl16 k hk⟩
