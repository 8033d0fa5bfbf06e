theorem dt_comm (p q : P3) : dt p q = dt q p := by
  simp only [dt, Int.mul_comm]
theorem cr_swap (p q : P3) : cr q p = sm (-1) (cr p q) := by
  simp only [cr, sm, Prod.mk.injEq]
  grind
theorem nz_swap {p q : P3} (h : cr p q ≠ (0, 0, 0)) : nz (cr q p) = nz (cr p q) := by
  rw [cr_swap, nz_sm (by decide) h]
theorem nz_par {d p : P3} (hd : d ≠ (0, 0, 0)) (gd : g3 d = 1) (hp : lp p = true) (gp : g3 p = 1) : par d p ↔ p = nz d := by
  have hp0 : p ≠ (0, 0, 0) := fun e => by rw [e] at gp; exact absurd gp (by decide)
  constructor
  · rintro (rfl | rfl)
    · exact (nz_id hp gp).symm
    · have e : ng p = sm (-1) p := by simp only [ng, sm, Prod.mk.injEq]; omega
      rw [e, nz_sm (by decide) hp0, nz_id hp gp]
  · intro e
    rw [e]
    unfold nz
    split
    · rw [dv_id gd]
      exact Or.inl rfl
    · rw [dv_id gd]
      exact Or.inr (ng_ng d).symm
theorem gSt_ok {D : List P3} (hD : dOk D) : ∀ (r : Nat) (p : P3), gSt D r p → bd 3 p ∧ lp p = true ∧ g3 p = 1 := by
  intro r
  induction r with
  | zero =>
    rintro p ⟨h1, d, hd, rfl⟩
    have hk := hD.2 d hd
    exact ⟨h1, lp_nz hk.2.1, g3_nz hk.2.1⟩
  | succ r ih =>
    rintro p (h | ⟨h1, l1, l2, ⟨a, b, ha, hb, hab, e1⟩, ⟨c, d, hc, hd, hcd, e2⟩, hne, rfl⟩)
    · exact ih p h
    · have nn : ∀ a b, gSt D r a → gSt D r b → a ≠ b → cr a b ≠ (0, 0, 0) := fun a b ha hb hab e => by
        obtain ⟨_, a1, a2⟩ := ih a ha
        obtain ⟨_, b1, b2⟩ := ih b hb
        have ha0 : a ≠ (0, 0, 0) := fun e => by rw [e] at a2; exact absurd a2 (by decide)
        have hb0 : b ≠ (0, 0, 0) := fun e => by rw [e] at b2; exact absurd b2 (by decide)
        have := nz_col ha0 hb0 e
        rw [nz_id a1 a2, nz_id b1 b2] at this
        exact hab this
      have hl : cr l1 l2 ≠ (0, 0, 0) := fun e => by
        have n1 := nn a b ha hb hab
        have n2 := nn c d hc hd hcd
        have := nz_col (by rw [e1]; exact nz_ne n1) (by rw [e2]; exact nz_ne n2) e
        rw [e1, e2, nz_nz n1, nz_nz n2, ← e1, ← e2] at this
        exact hne this
      exact ⟨h1, lp_nz hl, g3_nz hl⟩
theorem norm_ne {a b : P3} (a1 : lp a = true) (a2 : g3 a = 1) (b1 : lp b = true) (b2 : g3 b = 1) (hab : a ≠ b) : cr a b ≠ (0, 0, 0) := fun e => by
  have ha0 : a ≠ (0, 0, 0) := fun e => by rw [e] at a2; exact absurd a2 (by decide)
  have hb0 : b ≠ (0, 0, 0) := fun e => by rw [e] at b2; exact absurd b2 (by decide)
  have := nz_col ha0 hb0 e
  rw [nz_id a1 a2, nz_id b1 b2] at this
  exact hab this
/-- what two members tell, by the set alone -/
def gZn (D : List P3) (r : Nat) (l : P3) : Prop := ∃ a b, gSt D r a ∧ gSt D r b ∧ a ≠ b ∧ l = nz (cr a b)
theorem gSt_s {D : List P3} {r : Nat} {p : P3} : gSt D (r + 1) p ↔ gSt D r p ∨ (bd 3 p ∧ ∃ l1 l2, gZn D r l1 ∧ gZn D r l2 ∧ l1 ≠ l2 ∧ p = nz (cr l1 l2)) := Iff.rfl
theorem gZn_ok {D : List P3} (hD : dOk D) {r : Nat} {l : P3} (h : gZn D r l) : lp l = true ∧ g3 l = 1 := by
  obtain ⟨a, b, ha, hb, hab, rfl⟩ := h
  obtain ⟨_, a1, a2⟩ := gSt_ok hD r a ha
  obtain ⟨_, b1, b2⟩ := gSt_ok hD r b hb
  have hne := norm_ne a1 a2 b1 b2 hab
  exact ⟨lp_nz hne, g3_nz hne⟩
theorem gLn_iff {D : List P3} (hD : dOk D) {r : Nat} {I : Nat → Bool} (hI : ∀ j p, gsm[j]? = some p → (I j = true ↔ gSt D r p)) (l : P3) : gLn I l ↔ gZn D r l := by
  constructor
  · rintro ⟨i, j, a, b, hij, ha, hb, hi, hj, rfl⟩
    refine ⟨a, b, (hI i a ha).mp hi, (hI j b hb).mp hj, fun e => ?_, rfl⟩
    subst e
    have := injL_of gsm_nodup i j a ha hb
    omega
  · rintro ⟨a, b, ha, hb, hab, rfl⟩
    obtain ⟨a0, a1, a2⟩ := gSt_ok hD r a ha
    obtain ⟨b0, b1, b2⟩ := gSt_ok hD r b hb
    obtain ⟨i, hi, hia⟩ := gsm_in a0 a1 a2
    obtain ⟨j, hj, hjb⟩ := gsm_in b0 b1 b2
    rcases Nat.lt_trichotomy i j with h | h | h
    · exact ⟨i, j, a, b, h, hia, hjb, (hI i a hia).mpr ha, (hI j b hjb).mpr hb, rfl⟩
    · subst h
      cases hia.symm.trans hjb
      exact absurd rfl hab
    · exact ⟨j, i, b, a, h, hjb, hia, (hI j b hjb).mpr hb, (hI i a hia).mpr ha, (nz_swap (norm_ne a1 a2 b1 b2 hab)).symm⟩
theorem gNx_iff {D : List P3} (hD : dOk D) {r : Nat} {I : Nat → Bool} (hI : ∀ j p, gsm[j]? = some p → (I j = true ↔ gSt D r p)) {p : P3} (hp : lp p = true) (gp : g3 p = 1) : gNx I p ↔ ∃ l1 l2, gZn D r l1 ∧ gZn D r l2 ∧ l1 ≠ l2 ∧ p = nz (cr l1 l2) := by
  have hp0 : p ≠ (0, 0, 0) := fun e => by rw [e] at gp; exact absurd gp (by decide)
  constructor
  · rintro ⟨l1, l2, h1, h2, hne, e1, e2⟩
    have z1 := (gLn_iff hD hI l1).mp h1
    have z2 := (gLn_iff hD hI l2).mp h2
    obtain ⟨a1, a2⟩ := gZn_ok hD z1
    obtain ⟨b1, b2⟩ := gZn_ok hD z2
    exact ⟨l1, l2, z1, z2, hne, zone_one hp0 (nz_id hp gp) (norm_ne a1 a2 b1 b2 hne) (by rw [dt_comm]; exact e1) (by rw [dt_comm]; exact e2)⟩
  · rintro ⟨l1, l2, z1, z2, hne, e⟩
    obtain ⟨a1, a2⟩ := gZn_ok hD z1
    obtain ⟨b1, b2⟩ := gZn_ok hD z2
    have hc := norm_ne a1 a2 b1 b2 hne
    refine ⟨l1, l2, (gLn_iff hD hI l1).mpr z1, (gLn_iff hD hI l2).mpr z2, hne, ?_, ?_⟩
    · rw [e, dt_comm]
      exact (dt_nz hc).mpr (dt_cr1 l1 l2)
    · rw [e, dt_comm]
      exact (dt_nz hc).mpr (dt_cr2 l1 l2)
theorem gcnt_countP {l : List P3} {I : Nat → Bool} {P : P3 → Bool} (h : ∀ j p, l[j]? = some p → I j = P p) : ∀ k, k ≤ l.length → gcnt I k = (l.take k).countP P := by
  intro k
  induction k with
  | zero => intro _; rfl
  | succ k ih =>
    intro hk
    have hg : l[k]? = some l[k] := List.getElem?_eq_getElem (by omega)
    rw [gcnt_s, ih (by omega), take_s hg, List.countP_append, List.countP_singleton, h k _ hg]
theorem gNo_eq {D : List P3} {r : Nat} {I : Nat → Bool} (hI : ∀ j p, gsm[j]? = some p → (I j = true ↔ gSt D r p)) : gcnt I 49 = gNo D r := by
  have h := gcnt_countP (l := gsm) (I := I) (P := gBo D r) (fun j p hj => by
    have h1 := hI j p hj
    have h2 : gBo D r p = true ↔ gSt D r p := @decide_eq_true_iff _ (Classical.propDecidable _)
    cases hb : I j with
    | true => exact (h2.mpr (h1.mp hb)).symm
    | false =>
      cases hc : gBo D r p with
      | false => rfl
      | true => exact absurd (h1.mpr (h2.mp hc)) (by rw [hb]; decide)) 49 (by rw [gsm_len]; omega)
  rw [h, List.take_of_length_le (by rw [gsm_len]; omega)]
  rfl
section B1
variable {n a : Nat} {G : xG} {S : zS}
theorem gro_cell {G : xG} {g : Nat} {I : Nat → Bool} (h : gro G g I) : G g = .inr (3, [.ref (g + 1), .ref (g + 2), .ref (g + 3), .ref (g + 4), .ref (g + 5)]) := by
  obtain ⟨fs, fz, fi, zn, ⟨⟨g0, _⟩, _⟩, _⟩ := h
  exact g0
theorem k_A_grown {x : Int32} (hx : fzo G a S) : xK mA_grown [.ref a, .int x] n G 1 6 (aPost n a G (rGrown S x.toInt)) (aExc n a G (rGrown S x.toInt) eA eA) := by
  have hS := hx
  obtain ⟨Vt, lis, hx⟩ := hx
  have hc := hx.1
  refine xK_of2 (L0 := [(0, _), (1, _)]) (by decide +kernel) rfl (Nat.le_of_ble_eq_true rfl) rfl ?_
  by_cases hr : (0 : Int) ≤ x.toInt ∧ x.toInt ≤ 3
  case neg =>
    refine xs_iload_n dA_grown_0 rfl ?_
    refine xs_iconst (v := 0) dA_grown_1 (by decide) ?_
    refine xs_iconst (v := 3) dA_grown_2 (by decide) ?_
    exact xs_cS_t (As := [_, _, _]) dA_grown_3 lkA_76 (k_A_rrx (lo:=0) (hi:=3) (by decide) (by decide) hr) rfl rfl (Nat.le_of_ble_eq_true rfl) ⟨by decide, by decide⟩ rfl ⟨by omega, by omega⟩ (aX1 (by rw [rGrown, if_neg hr]) hS xfr_rf)
  refine xs_iload_n dA_grown_0 rfl ?_
  refine xs_iconst (v := 0) dA_grown_1 (by decide) ?_
  refine xs_iconst (v := 3) dA_grown_2 (by decide) ?_
  refine xs_cS_v (As := [_, _, _]) dA_grown_3 lkA_76 (k_A_rr (lo:=0) (hi:=3) (by decide) (by decide) hr) rfl rfl (Nat.le_of_ble_eq_true rfl) ⟨by decide, by decide⟩ ⟨by omega, by omega⟩ ?_
  refine xs_aload_n dA_grown_6 rfl ?_
  refine xs_get dA_grown_7 flA_61 (by repeat (first | exact va_up_self _ _ _ | assumption | refine (va_up_ne _ _ (by omega)).trans ?_)) rfl ?_
  refine xs_aload_n dA_grown_10 rfl ?_
  refine xs_cV_rx (As := []) dA_grown_11 lkA_119 (by repeat (first | exact va_up_self _ _ _ | assumption | refine (va_up_ne _ _ (by omega)).trans ?_)) (k_A_zonesNow hx) rfl rfl (Nat.le_of_ble_eq_true rfl) ⟨by decide, by decide⟩ ⟨by omega, by omega⟩ ?_
  intro r H ⟨h1, hx2, hf⟩
  subst h1
  obtain ⟨hc, htx, hpr, htr, hhi, hsa, hiv, hzp, hzt, hfm, hgr, hsc, hs0, hs1⟩ := id hx2
  obtain ⟨R0, hz, hfin⟩ := zpr_now hzp
  obtain ⟨fd, fa, pa, ms, cv, hz3, hdr, hax, hms, hcv⟩ := id hz
  obtain ⟨I0, hgr⟩ := hgr
  have hgc := gro_cell hgr
  have hok := zDirs_ok hpr.1
  obtain ⟨M, hM, hM2, hM3, hM4⟩ := toN hr (by decide)
  have hR : rGrown S x.toInt = (0, (gNo (zDirs S.2.1) M : Int), S) := by rw [rGrown, if_pos hr, hM2, Int.toNat_natCast]
  rw [hR]
  clear hR hM2 hr
  subst hM
  have loop : ∀ (m i : Nat) (H : xG) (I : Nat → Bool), M - i < m → i ≤ M → fzx H a S.1 S.2.1 Vt S.2.2.1 S.2.2.2 true → gro H (a + 409) I → xfr a (a + 528) G H → (∀ j p, gsm[j]? = some p → (I j = true ↔ gSt (zDirs S.2.1) i p)) →
      xS mA_grown n 1 6 (aPost n a G (0, (gNo (zDirs S.2.1) M : Int), S)) (aExc n a G (0, (gNo (zDirs S.2.1) M : Int), S) eA eA) 19 [(0, .ref a), (1, .int (nI M)), (2, .int (nI i))] [] n H 0 0 := by
    intro m
    induction m with
    | zero => intro i H I q; exact absurd q (by omega)
    | succ m ih =>
      intro i H I q1 q2 hx hg hf hI
      have hc := hx.1
      have hgc := gro_cell hg
      refine xs_iload_n dA_grown_19 rfl ?_
      refine xs_iload_n dA_grown_20 rfl ?_
      refine xs_icmp_ge dA_grown_21 (fun hge => ?_) (fun hge => ?_)
      · have hi : i = M := by
          have := (nI_leI (by omega) (by omega)).mp hge
          omega
        subst hi
        refine xs_aload_n dA_grown_37 rfl ?_
        refine xs_get dA_grown_38 flA_61 (by repeat (first | exact va_up_self _ _ _ | assumption | refine (va_up_ne _ _ (by omega)).trans ?_)) rfl ?_
        refine xs_cV_i (As := []) dA_grown_41 lkA_307 (by repeat (first | exact va_up_self _ _ _ | assumption | refine (va_up_ne _ _ (by omega)).trans ?_)) (k_G_size hg) rfl rfl (Nat.le_of_ble_eq_true rfl) ⟨by decide, by decide⟩ ⟨by omega, by omega⟩ ?_
        exact xs_iret dA_grown_44 rfl rfl (by omega) (by omega) (aOk rfl (by rw [gNo_eq hI]; exact iI_nat _) ⟨_, _, hx⟩ hf)
      · have hi : i < M := nI_lt_of (by omega) (by omega) hge
        refine xs_aload_n dA_grown_24 rfl ?_
        refine xs_get dA_grown_25 flA_61 (by repeat (first | exact va_up_self _ _ _ | assumption | refine (va_up_ne _ _ (by omega)).trans ?_)) rfl ?_
        refine xs_cV_vx (As := []) dA_grown_28 lkA_304 (by repeat (first | exact va_up_self _ _ _ | assumption | refine (va_up_ne _ _ (by omega)).trans ?_)) (k_G_grow hg) rfl rfl (Nat.le_of_ble_eq_true rfl) ⟨by decide, by decide⟩ ⟨by omega, by omega⟩ ?_
        intro H2 ⟨⟨I2, e1, e2⟩, e3⟩
        refine xs_iinc (L2 := [(2, _), (0, _), (1, _)]) dA_grown_31 rfl rfl (by decide) rfl ?_
        refine xs_goto dA_grown_34 ?_
        refine xs_pick (L2 := [(0, _), (1, _), (2, _)]) [1, 2, 0] rfl ?_
        rw [xii]
        refine ih (i + 1) H2 I2 (by omega) (by omega) (fzx_gro hx e3 ⟨_, e1⟩) e1 (xfr_tr hf (xfr_mono e3 (by omega) (by omega))) (fun j p hj => ?_)
        have hpk := gsm_ok p (List.mem_of_getElem? hj)
        rw [e2 j p hj, hI j p hj, gNx_iff hok hI hpk.2.2.1 hpk.2.2.2, gSt_s]
        constructor
        · rintro (h | h)
          · exact Or.inl h
          · exact Or.inr ⟨hpk.1, h⟩
        · rintro (h | ⟨_, h⟩)
          · exact Or.inl h
          · exact Or.inr h
  refine xs_cV_vx (As := [_]) dA_grown_14 lkA_300 (by repeat (first | exact va_up_self _ _ _ | assumption | refine (va_up_ne _ _ (by omega)).trans ?_)) (k_G_beginWith hgr hz3 hdr hok (by omega)) rfl rfl (Nat.le_of_ble_eq_true rfl) ⟨by decide, by decide⟩ ⟨by omega, by omega⟩ ?_
  intro H2 ⟨⟨I2, e1, e2⟩, e3⟩
  refine xs_iconst (v := 0) dA_grown_17 (by decide) ?_
  refine xs_istore_n (L2 := [(2, _), (0, _), (1, _)]) dA_grown_18 (by decide) rfl ?_
  refine xs_pick (L2 := [(0, _), (1, _), (2, _)]) [1, 2, 0] rfl ?_
  refine loop (M + 1) 0 H2 I2 (by omega) (by omega) (fzx_gro hx2 e3 ⟨_, e1⟩) e1 (xfr_tr (xzf_x hf) (xfr_mono e3 (by omega) (by omega))) (fun j p hj => ?_)
  have hpk := gsm_ok p (List.mem_of_getElem? hj)
  rw [e2 j p hj]
  constructor
  · rintro ⟨d, hd, hpd⟩
    have hdk := hok.2 d hd
    exact ⟨hpk.1, d, hd, (nz_par hdk.2.1 hdk.2.2 hpk.2.2.1 hpk.2.2.2).mp hpd⟩
  · rintro ⟨_, d, hd, e⟩
    have hdk := hok.2 d hd
    exact ⟨d, hd, (nz_par hdk.2.1 hdk.2.2 hpk.2.2.1 hpk.2.2.2).mpr e⟩
end B1
