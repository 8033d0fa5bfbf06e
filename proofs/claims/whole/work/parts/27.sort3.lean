theorem tau_0 (n j : Nat) : tau n n j = j := by
  unfold tau
  rw [if_neg (by omega)]
theorem tau_s {a n j : Nat} (h : a < n) : (if j = a + 1 then a else tau (a + 1) n j) = tau a n j := by
  unfold tau
  by_cases h1 : j = a + 1
  · rw [if_pos h1, if_pos (by omega)]
    omega
  · rw [if_neg h1]
    by_cases h2 : a + 1 < j ∧ j ≤ n
    · rw [if_pos h2, if_pos (by omega)]
    · rw [if_neg h2, if_neg (by omega)]
/-- an axis of the list is short -/
theorem isAx_bd {D : List P3} {a : P3} {P : Nat → Nat → Prop} (hD : dOk D) (h : isAx D a P) : bd 1100000 a ∧ a ≠ (0, 0, 0) ∧ nz a = a := by
  obtain ⟨i, j, d, e, -, -, hd, he, hc, rfl⟩ := h
  exact ⟨bd_nz (cr_bd (hD.2 d (List.mem_of_getElem? hd)).1 (hD.2 e (List.mem_of_getElem? he)).1), nz_ne hc, nz_nz hc⟩
theorem k_Z_sort {n z : Nat} {G : xG} {D Z : List P3} {R : Nat → Nat} {lst : Int} (hS : zst G z D Z R) (hok : dOk D) (hZ : zSet D lst Z) :
    xK mZ_sort [.ref z] n G 0 0 (qVx n (fun H => (∃ Y R, zst H z D Y R ∧ zFin D lst Y.length Y) ∧ xfr z (z + 141) G H)) xNo := by
  have hL := hok.1
  -- from n on, n sorted
  have outer : ∀ (m y : Nat) (H : xG) (Y : List P3) (R : Nat → Nat), Y.length - y < m → 1 ≤ y → y ≤ 200 → zst H z D Y R → zFin D lst y Y → xfr z (z + 141) G H →
      xS mZ_sort n 0 0 (qVx n (fun H => (∃ Y R, zst H z D Y R ∧ zFin D lst Y.length Y) ∧ xfr z (z + 141) G H)) xNo 2 [(0, .ref z), (1, .int (nI y))] [] n H 0 0 := by
    intro m
    induction m with
    | zero => intro y H Y R q; exact absurd q (by omega)
    | succ m ih =>
      intro y H Y R q1 q2 q3 hst hfin hfr
      obtain ⟨fd, fa, pa, ms, cv, hz, hdr, hax, hms, hcv⟩ := id hst
      obtain ⟨⟨g0, g1, g2, g3, g4⟩, ⟨f1, f2, f3, f4⟩, ht, hn⟩ := id hz
      refine xs_iload_n dZ_sort_2 rfl ?_
      refine xs_aload_n dZ_sort_3 rfl ?_
      refine xs_get dZ_sort_4 flZ_31 (by repeat (first | assumption | exact va_up_self _ _ _ | refine (va_up_ne _ _ (by omega)).trans ?_)) rfl ?_
      refine xs_icmp_ge dZ_sort_7 (fun hg => ?_) (fun hg => ?_)
      · have hy := (nI_leI (by omega) (by omega)).mp hg
        refine xs_vret dZ_sort_118 rfl (by omega) (by omega) ⟨rfl, rfl, ⟨Y, R, hst, hfin.1, hfin.2.1, fun i j a b h1 h2 h3 h4 => ?_⟩, hfr⟩
        exact hfin.2.2 i j a b h1 (by omega) h3 h4
      have hy : y < Y.length := nI_lt_of (by omega) (by omega) hg
      have hiny : vp_in (nI y) 120 := vp_in_nI (by omega) (by omega)
      have ey : (nI y).toNatClampNeg = y := nI_clamp (by omega)
      have hfy : fa (nI y).toNatClampNeg = some (pa y) := by rw [ey]; exact f2 y (by omega)
      obtain ⟨x, hx⟩ : ∃ x, Y[y]? = some x := ⟨_, List.getElem?_eq_getElem hy⟩
      have hxa := ((hfin.2.1 x).mp (List.mem_of_getElem? hx)).1
      have hxb := (isAx_bd hok hxa).1
      have hxc := hax y x hx
      have hxm := hms y x hx
      have hry := f3 y (by omega)
      refine xs_aload_n dZ_sort_10 rfl ?_
      refine xs_get dZ_sort_11 flZ_17 (by repeat (first | assumption | exact va_up_self _ _ _ | refine (va_up_ne _ _ (by omega)).trans ?_)) rfl ?_
      refine xs_iload_n dZ_sort_14 rfl ?_
      refine xs_ald3 dZ_sort_15 (by repeat (first | assumption | exact va_up_self _ _ _ | refine (va_up_ne _ _ (by omega)).trans ?_)) (by assumption) hfy ?_
      refine xs_astore_n (L2 := [(2, _), (0, _), (1, _)]) dZ_sort_16 (by decide) rfl ?_
      refine xs_aload_n dZ_sort_17 rfl ?_
      refine xs_get dZ_sort_18 flZ_20 (by repeat (first | assumption | exact va_up_self _ _ _ | refine (va_up_ne _ _ (by omega)).trans ?_)) rfl ?_
      refine xs_iload_n dZ_sort_21 rfl ?_
      refine xs_iald dZ_sort_22 (by repeat (first | assumption | exact va_up_self _ _ _ | refine (va_up_ne _ _ (by omega)).trans ?_)) (by assumption) ?_
      refine xs_istore_n (L2 := [(3, _), (2, _), (0, _), (1, _)]) dZ_sort_23 (by decide) rfl ?_
      refine xs_iload_n dZ_sort_24 rfl ?_
      refine xs_istore (L2 := [(4, _), (3, _), (2, _), (0, _), (1, _)]) dZ_sort_25 (by decide) rfl ?_
      rw [ey, hxm]
      refine xs_pick (L2 := [(0, _), (1, _), (2, _), (3, _), (4, _)]) [3, 4, 2, 1, 0] rfl ?_
      -- the hole moves down
      have inner : ∀ (m2 a : Nat) (I : xG) (fa2 : Nat → Option Nat) (ms2 : Nat → Int32), a < m2 → a ≤ y → (I z = .inr (6, [.ref (z + 1), .ref (z + 2), .ref (z + 3), .ref (z + 4), .int (nI D.length), .int (nI Y.length)]) ∧ I (z + 1) = .inl (3, 16, .inr (.inr (.inr (.inr fd)))) ∧ I (z + 2) = .inl (3, 120, .inr (.inr (.inr (.inr fa2)))) ∧ I (z + 3) = .inl (0, 120, .inl ms2) ∧ I (z + 4) = .inl (0, 16, .inl cv)) →
          (∀ j, j < 120 → fa2 j = some (pa (tau a y j))) → (∀ j, j < 120 → ms2 j = ms (tau a y j)) → (∀ k, z + 5 ≤ k → k < z + 141 → I k = H k) → xfr z (z + 141) G I → (∀ j b, a ≤ j → j < y → Y[j]? = some b → bef D x b) →
          xS mZ_sort n 0 0 (qVx n (fun H => (∃ Y R, zst H z D Y R ∧ zFin D lst Y.length Y) ∧ xfr z (z + 141) G H)) xNo 27 [(0, .ref z), (1, .int (nI y)), (2, .ref (pa y)), (3, .int (nI (mem D x))), (4, .int (nI a))] [] n I 0 0 := by
        intro m2
        induction m2 with
        | zero => intro a I fa2 ms2 q; exact absurd q (by omega)
        | succ m2 ih2 =>
          intro a I fa2 ms2 r1 r2 ⟨i0, i1, i2, i3, i4⟩ hfa hms2 htri hfrI hbef
          have ea : (nI a).toNatClampNeg = a := nI_clamp (by omega)
          have hina : vp_in (nI a) 120 := vp_in_nI (by omega) (by omega)
          have hxI : I (pa y) = xTp x := by rw [htri _ (by omega) (by omega)]; exact hxc
          -- the end: the thing is put into its place
          have fin : (∀ b, 0 < a → Y[a - 1]? = some b → ¬ bef D x b) → xS mZ_sort n 0 0 (qVx n (fun H => (∃ Y R, zst H z D Y R ∧ zFin D lst Y.length Y) ∧ xfr z (z + 141) G H)) xNo 96 [(0, .ref z), (1, .int (nI y)), (2, .ref (pa y)), (3, .int (nI (mem D x))), (4, .int (nI a))] [] n I 0 0 := by
            intro hlo
            refine xs_aload_n dZ_sort_96 rfl ?_
            refine xs_get dZ_sort_97 flZ_17 (by repeat (first | assumption | exact va_up_self _ _ _ | refine (va_up_ne _ _ (by omega)).trans ?_)) rfl ?_
            refine xs_iload dZ_sort_100 rfl ?_
            refine xs_aload_n dZ_sort_102 rfl ?_
            refine xs_ast3 dZ_sort_103 (by repeat (first | assumption | exact va_up_self _ _ _ | refine (va_up_ne _ _ (by omega)).trans ?_)) (by assumption) (by repeat (first | assumption | exact va_up_self _ _ _ | refine (va_up_ne _ _ (by omega)).trans ?_)) ?_
            refine xs_aload_n dZ_sort_104 rfl ?_
            refine xs_get dZ_sort_105 flZ_20 (by repeat (first | assumption | exact va_up_self _ _ _ | refine (va_up_ne _ _ (by omega)).trans ?_)) rfl ?_
            refine xs_iload dZ_sort_108 rfl ?_
            refine xs_iload_n dZ_sort_110 rfl ?_
            refine xs_iast dZ_sort_111 (by repeat (first | assumption | exact va_up_self _ _ _ | refine (va_up_ne _ _ (by omega)).trans ?_)) (by assumption) ?_
            refine xs_iinc (L2 := [(1, _), (0, _), (2, _), (3, _), (4, _)]) dZ_sort_112 rfl rfl (by decide) rfl ?_
            refine xs_goto dZ_sort_115 ?_
            refine xs_pick (L2 := [(0, _), (1, _)]) [1, 0] rfl ?_
            rw [xii, ea]
            have hf : ∀ j, j < Y.length → sig a y j < Y.length := fun j hj => sig_lt r2 hy hj
            have hgt : ∀ {k : Nat} {b : P3}, (permL Y (sig a y))[k]? = some b → k < Y.length ∧ Y[sig a y k]? = some b := fun {k b} hb => by
              have hl := (List.getElem?_eq_some_iff.mp hb).1
              rw [permL_len] at hl
              rw [permL_get hf hl] at hb
              exact ⟨hl, hb⟩
            refine ih (y + 1) _ (permL Y (sig a y)) R (by rw [permL_len]; omega) (by omega) (by omega) ⟨fd, va_up fa2 a (some (pa y)), fun j => pa (sig a y j), upd ms2 a (nI (mem D x)), cv, ⟨⟨?_, ?_, ?_, ?_, ?_⟩, ⟨f1, fun j hj => ?_, fun j hj => f3 _ (sig_lt r2 (by omega) hj), fun i j hi hj e => sig_inj r2 (f4 _ _ (sig_lt r2 (by omega) hi) (sig_lt r2 (by omega) hj) e)⟩, fun k hk hk2 => ?_, ⟨hL, by rw [permL_len]; exact hn.2⟩⟩, fun k w hk => ?_, fun k w hk => ?_, fun k w hk => ?_, hcv⟩ (zFin_step hfin r2 hy hx hlo hbef) (xfr_up (xfr_up hfrI (by omega) (by omega)) (by omega) (by omega))
            · rw [permL_len]
              exact (by repeat (first | assumption | exact va_up_self _ _ _ | refine (va_up_ne _ _ (by omega)).trans ?_))
            · exact (by repeat (first | assumption | exact va_up_self _ _ _ | refine (va_up_ne _ _ (by omega)).trans ?_))
            · rw [va_up_ne _ _ (by omega), va_up_self]
            · rw [va_up_self]
            · exact (by repeat (first | assumption | exact va_up_self _ _ _ | refine (va_up_ne _ _ (by omega)).trans ?_))
            · unfold va_up sig
              dsimp only
              by_cases hja : j = a
              · rw [if_pos hja, if_pos hja]
              · rw [if_neg hja, if_neg hja]
                exact hfa j hj
            · rw [va_up_ne _ _ (by omega), va_up_ne _ _ (by omega), htri k hk hk2]
              exact ht k hk hk2
            · have hkl := (List.getElem?_eq_some_iff.mp hk).1
              rw [va_up_ne _ _ (by omega), va_up_ne _ _ (by omega), htri _ (by omega) (by omega)]
              exact hdr k w hk
            · obtain ⟨kl, kk⟩ := hgt hk
              have := f3 (sig a y k) (sig_lt r2 (by omega) (by omega))
              dsimp only
              rw [va_up_ne _ _ (by omega), va_up_ne _ _ (by omega), htri _ (by omega) (by omega)]
              exact hax _ w kk
            · obtain ⟨kl, kk⟩ := hgt hk
              by_cases hka : k = a
              · subst hka
                rw [pk_us]
                unfold sig at kk
                rw [if_pos rfl] at kk
                cases hx.symm.trans kk
                rfl
              · rw [pk_un hka, hms2 k (by omega)]
                unfold sig at kk
                rw [if_neg hka] at kk
                exact hms _ w kk
          refine xs_iload dZ_sort_27 rfl ?_
          refine xs_if_le dZ_sort_29 (fun h0 => ?_) (fun h0 => ?_)
          · refine fin (fun b hb => ?_)
            exact absurd h0 (nI_nle hb (by omega))
          have ha0 : 0 < a := by
            rcases Nat.eq_zero_or_pos a with q | q
            · rw [q] at h0
              exact absurd (by decide) h0
            · exact q
          obtain ⟨a1, rfl⟩ : ∃ a1, a = a1 + 1 := ⟨a - 1, by omega⟩
          have hin1 : vp_in (nI a1) 120 := vp_in_nI (by omega) (by omega)
          have hin1' : vp_in (nI (a1 + 1) - 1) 120 := by rw [nI_pred]; exact hin1
          have e1 : (nI (a1 + 1) - 1).toNatClampNeg = a1 := by rw [nI_pred]; exact nI_clamp (by omega)
          have ht1 : tau (a1 + 1) y a1 = a1 := by unfold tau; rw [if_neg (by omega)]
          have hf1 : fa2 (nI (a1 + 1) - 1).toNatClampNeg = some (pa a1) := by rw [e1, hfa a1 (by omega), ht1]
          obtain ⟨b, hb⟩ : ∃ b, Y[a1]? = some b := ⟨_, List.getElem?_eq_getElem (by omega)⟩
          have hbb := (isAx_bd hok ((hfin.2.1 b).mp (List.mem_of_getElem? hb)).1).1
          have hr1 := f3 a1 (by omega)
          have hbI : I (pa a1) = xTp b := by rw [htri _ (by omega) (by omega)]; exact hax a1 b hb
          have hmb : ms2 (nI (a1 + 1) - 1).toNatClampNeg = nI (mem D b) := by rw [e1, hms2 a1 (by omega), ht1]; exact hms a1 b hb
          refine xs_aload_n dZ_sort_32 rfl ?_
          refine xs_iload_n dZ_sort_33 rfl ?_
          refine xs_aload_n dZ_sort_34 rfl ?_
          refine xs_get dZ_sort_35 flZ_17 (by repeat (first | assumption | exact va_up_self _ _ _ | refine (va_up_ne _ _ (by omega)).trans ?_)) rfl ?_
          refine xs_iload dZ_sort_38 rfl ?_
          refine xs_iconst (v := 1) dZ_sort_40 (by decide) ?_
          refine xs_isub dZ_sort_41 ?_
          refine xs_ald3 dZ_sort_42 (by repeat (first | assumption | exact va_up_self _ _ _ | refine (va_up_ne _ _ (by omega)).trans ?_)) (by assumption) hf1 ?_
          refine xs_aload_n dZ_sort_43 rfl ?_
          refine xs_get dZ_sort_44 flZ_20 (by repeat (first | assumption | exact va_up_self _ _ _ | refine (va_up_ne _ _ (by omega)).trans ?_)) rfl ?_
          refine xs_iload dZ_sort_47 rfl ?_
          refine xs_iconst (v := 1) dZ_sort_49 (by decide) ?_
          refine xs_isub dZ_sort_50 ?_
          refine xs_iald dZ_sort_51 (by repeat (first | assumption | exact va_up_self _ _ _ | refine (va_up_ne _ _ (by omega)).trans ?_)) (by assumption) ?_
          rw [hmb]
          refine xs_cS_ix (As := [_, _, _, _]) dZ_sort_52 lkZ_78 (k_Z_comesBefore hxI hbI (bd_mono hxb (by decide)) (bd_mono hbb (by decide)) (mem_lt D x hL) (mem_lt D b hL)) rfl rfl (Nat.le_of_ble_eq_true rfl) ⟨by decide, by decide⟩ ⟨by omega, by omega⟩ ?_
          intro r I2 ⟨⟨hr1, hr2⟩, hI2⟩
          subst hI2
          refine xs_if_eq dZ_sort_55 (fun hr => ?_) (fun hr => ?_)
          · refine fin (fun w _ hw => ?_)
            rw [Nat.add_sub_cancel, hb] at hw
            cases hw
            exact hr1 hr
          · have hbx := hr2 hr
            refine xs_aload_n dZ_sort_58 rfl ?_
            refine xs_get dZ_sort_59 flZ_17 (by repeat (first | assumption | exact va_up_self _ _ _ | refine (va_up_ne _ _ (by omega)).trans ?_)) rfl ?_
            refine xs_iload dZ_sort_62 rfl ?_
            refine xs_aload_n dZ_sort_64 rfl ?_
            refine xs_get dZ_sort_65 flZ_17 (by repeat (first | assumption | exact va_up_self _ _ _ | refine (va_up_ne _ _ (by omega)).trans ?_)) rfl ?_
            refine xs_iload dZ_sort_68 rfl ?_
            refine xs_iconst (v := 1) dZ_sort_70 (by decide) ?_
            refine xs_isub dZ_sort_71 ?_
            refine xs_ald3 dZ_sort_72 (by repeat (first | assumption | exact va_up_self _ _ _ | refine (va_up_ne _ _ (by omega)).trans ?_)) (by assumption) hf1 ?_
            refine xs_ast3 dZ_sort_73 (by repeat (first | assumption | exact va_up_self _ _ _ | refine (va_up_ne _ _ (by omega)).trans ?_)) (by assumption) hbI ?_
            refine xs_aload_n dZ_sort_74 rfl ?_
            refine xs_get dZ_sort_75 flZ_20 (by repeat (first | assumption | exact va_up_self _ _ _ | refine (va_up_ne _ _ (by omega)).trans ?_)) rfl ?_
            refine xs_iload dZ_sort_78 rfl ?_
            refine xs_aload_n dZ_sort_80 rfl ?_
            refine xs_get dZ_sort_81 flZ_20 (by repeat (first | assumption | exact va_up_self _ _ _ | refine (va_up_ne _ _ (by omega)).trans ?_)) rfl ?_
            refine xs_iload dZ_sort_84 rfl ?_
            refine xs_iconst (v := 1) dZ_sort_86 (by decide) ?_
            refine xs_isub dZ_sort_87 ?_
            refine xs_iald dZ_sort_88 (by repeat (first | assumption | exact va_up_self _ _ _ | refine (va_up_ne _ _ (by omega)).trans ?_)) (by assumption) ?_
            refine xs_iast dZ_sort_89 (by repeat (first | assumption | exact va_up_self _ _ _ | refine (va_up_ne _ _ (by omega)).trans ?_)) (by assumption) ?_
            refine xs_iinc (L2 := [(4, _), (0, _), (1, _), (2, _), (3, _)]) dZ_sort_90 rfl rfl (by decide) rfl ?_
            refine xs_goto dZ_sort_93 ?_
            refine xs_pick (L2 := [(0, _), (1, _), (2, _), (3, _), (4, _)]) [1, 2, 3, 4, 0] rfl ?_
            rw [show nI (a1 + 1) + Int32.ofInt (-1) = nI a1 from pk_m1 a1, ea, e1]
            have hm1 : ms2 a1 = ms a1 := by rw [hms2 a1 (by omega), ht1]
            refine ih2 a1 _ (va_up fa2 (a1 + 1) (some (pa a1))) (upd ms2 (a1 + 1) (ms2 a1)) (by omega) (by omega) ⟨?_, ?_, ?_, ?_, ?_⟩ (fun j hj => ?_) (fun j hj => ?_) (fun k hk hk2 => ?_) (xfr_up (xfr_up hfrI (by omega) (by omega)) (by omega) (by omega)) (fun j w hj hjy hw => ?_)
            · exact (by repeat (first | assumption | exact va_up_self _ _ _ | refine (va_up_ne _ _ (by omega)).trans ?_))
            · exact (by repeat (first | assumption | exact va_up_self _ _ _ | refine (va_up_ne _ _ (by omega)).trans ?_))
            · exact (by repeat (first | assumption | exact va_up_self _ _ _ | refine (va_up_ne _ _ (by omega)).trans ?_))
            · exact (by repeat (first | assumption | exact va_up_self _ _ _ | refine (va_up_ne _ _ (by omega)).trans ?_))
            · exact (by repeat (first | assumption | exact va_up_self _ _ _ | refine (va_up_ne _ _ (by omega)).trans ?_))
            · rw [← tau_s (by omega)]
              unfold va_up
              split
              · rfl
              · exact hfa j hj
            · rw [← tau_s (by omega), hm1]
              unfold upd
              split
              · rfl
              · exact hms2 j hj
            · rw [va_up_ne _ _ (by omega), va_up_ne _ _ (by omega)]
              exact htri k hk hk2
            · by_cases hja : j = a1
              · subst hja
                cases hb.symm.trans hw
                exact hbx
              · exact hbef j w (by omega) hjy hw
      exact inner (y + 1) y H fa ms (by omega) (Nat.le_refl y) ⟨g0, g1, g2, g3, g4⟩ (fun j hj => by rw [tau_0]; exact f2 j hj) (fun j hj => by rw [tau_0]) (fun _ _ _ => rfl) hfr (fun j b h1 h2 => by omega)
  obtain ⟨fd, fa, pa, ms, cv, hz, hdr, hax, hms, hcv⟩ := id hS
  refine xK_of2 (L0 := [(0, _)]) (by decide +kernel) rfl (Nat.le_of_ble_eq_true rfl) rfl ?_
  refine xs_iconst (v := 1) dZ_sort_0 (by decide) ?_
  refine xs_istore_n (L2 := [(1, _), (0, _)]) dZ_sort_1 (by decide) rfl ?_
  refine xs_pick (L2 := [(0, _), (1, _)]) [1, 0] rfl ?_
  exact outer (Z.length + 1) 1 G Z R (by omega) (by omega) (by omega) hS ⟨injL_of hZ.1, hZ.2, fun i j a b h1 h2 => by omega⟩ xfr_rf
