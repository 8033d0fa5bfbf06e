theorem i32_0 {x : Int32} : x = 0 ↔ x.toInt = 0 := by rw [← Int32.toInt_inj]; rfl
theorem k_A_isTwinPlane {n : Nat} {G : xG} {p q r : Int32} : xK mA_isTwinPlane [.int p, .int q, .int r] n G 0 0 (qI n G (bI (wPl p.toInt q.toInt r.toInt))) xNo := by
  have key : wPl p.toInt q.toInt r.toInt = true ↔ ((iI (-3) ≤ p ∧ p ≤ iI 3) ∧ (iI (-3) ≤ q ∧ q ≤ iI 3) ∧ (iI (-3) ≤ r ∧ r ≤ iI 3)) ∧ ¬ (p = 0 ∧ q = 0 ∧ r = 0) := by
    rw [rgI (by decide) (by decide), rgI (by decide) (by decide), rgI (by decide) (by decide), i32_0, i32_0, i32_0]
    simp only [wPl, Bool.and_eq_true, wi_iff, decide_eq_true_eq, ne_eq, Prod.mk.injEq]
    constructor
    · rintro ⟨⟨⟨h1, h2⟩, h3⟩, h4⟩
      exact ⟨⟨h1, h2, h3⟩, h4⟩
    · rintro ⟨⟨h1, h2, h3⟩, h4⟩
      exact ⟨⟨⟨h1, h2⟩, h3⟩, h4⟩
  have no : wPl p.toInt q.toInt r.toInt = false → ∀ v, xS mA_isTwinPlane n 0 0 (qI n G (bI (wPl p.toInt q.toInt r.toInt))) xNo 56 [(3, .int v), (0, .int p), (1, .int q), (2, .int r)] [] n G 0 0 := by
    intro h v
    refine xs_iconst (v := 0) dA_isTwinPlane_56 (by decide) ?_
    exact xs_iret dA_isTwinPlane_57 rfl rfl (by omega) (by omega) ⟨by rw [h]; rfl, rfl, rfl⟩
  have mid : ∀ b : Bool, (b = true ↔ p = 0 ∧ q = 0 ∧ r = 0) → xS mA_isTwinPlane n 0 0 (qI n G (bI (wPl p.toInt q.toInt r.toInt))) xNo 17 [(0, .int p), (1, .int q), (2, .int r)] [.int (bI b)] n G 0 0 := by
    intro b hb
    refine xs_istore_n (L2 := [(3, _), (0, _), (1, _), (2, _)]) dA_isTwinPlane_17 (by decide) rfl ?_
    refine xs_iload_n dA_isTwinPlane_18 rfl ?_
    refine xs_if_ne dA_isTwinPlane_19 (fun h => ?_) (fun h => ?_)
    · exact no (Bool.eq_false_iff.mpr fun e => (key.mp e).2 (hb.mp ((bI_1n _).mp h))) _
    have hn : ¬ (p = 0 ∧ q = 0 ∧ r = 0) := fun e => absurd ((bI_0 _).mp h) (by rw [hb.mpr e]; decide)
    refine xs_iload_n dA_isTwinPlane_22 rfl ?_
    refine xs_bipush (v := (-3)) dA_isTwinPlane_23 (by decide) ?_
    refine xs_iconst (v := 3) dA_isTwinPlane_25 (by decide) ?_
    refine xs_cS_i (As := [_, _, _]) dA_isTwinPlane_26 lkA_330 (k_A_isWithin) rfl rfl (Nat.le_of_ble_eq_true rfl) ⟨by decide, by decide⟩ ⟨by omega, by omega⟩ ?_
    refine xs_if_eq dA_isTwinPlane_29 (fun h => ?_) (fun h => ?_)
    · exact no (Bool.eq_false_iff.mpr fun e => of_decide_eq_false ((bI_0 _).mp h) (key.mp e).1.1) _
    have h1 := of_decide_eq_true ((bI_1n _).mp h)
    refine xs_iload_n dA_isTwinPlane_32 rfl ?_
    refine xs_bipush (v := (-3)) dA_isTwinPlane_33 (by decide) ?_
    refine xs_iconst (v := 3) dA_isTwinPlane_35 (by decide) ?_
    refine xs_cS_i (As := [_, _, _]) dA_isTwinPlane_36 lkA_330 (k_A_isWithin) rfl rfl (Nat.le_of_ble_eq_true rfl) ⟨by decide, by decide⟩ ⟨by omega, by omega⟩ ?_
    refine xs_if_eq dA_isTwinPlane_39 (fun h => ?_) (fun h => ?_)
    · exact no (Bool.eq_false_iff.mpr fun e => of_decide_eq_false ((bI_0 _).mp h) (key.mp e).1.2.1) _
    have h2 := of_decide_eq_true ((bI_1n _).mp h)
    refine xs_iload_n dA_isTwinPlane_42 rfl ?_
    refine xs_bipush (v := (-3)) dA_isTwinPlane_43 (by decide) ?_
    refine xs_iconst (v := 3) dA_isTwinPlane_45 (by decide) ?_
    refine xs_cS_i (As := [_, _, _]) dA_isTwinPlane_46 lkA_330 (k_A_isWithin) rfl rfl (Nat.le_of_ble_eq_true rfl) ⟨by decide, by decide⟩ ⟨by omega, by omega⟩ ?_
    refine xs_if_eq dA_isTwinPlane_49 (fun h => ?_) (fun h => ?_)
    · exact no (Bool.eq_false_iff.mpr fun e => of_decide_eq_false ((bI_0 _).mp h) (key.mp e).1.2.2) _
    have h3 := of_decide_eq_true ((bI_1n _).mp h)
    refine xs_iconst (v := 1) dA_isTwinPlane_52 (by decide) ?_
    refine xs_goto dA_isTwinPlane_53 ?_
    exact xs_iret dA_isTwinPlane_57 rfl rfl (by omega) (by omega) ⟨by rw [key.mpr ⟨⟨h1, h2, h3⟩, hn⟩]; rfl, rfl, rfl⟩
  have mid0 : ¬ (p = 0 ∧ q = 0 ∧ r = 0) → xS mA_isTwinPlane n 0 0 (qI n G (bI (wPl p.toInt q.toInt r.toInt))) xNo 16 [(0, .int p), (1, .int q), (2, .int r)] [] n G 0 0 := by
    intro hn
    refine xs_iconst (v := 0) dA_isTwinPlane_16 (by decide) ?_
    exact mid false ⟨fun e => by simp at e, fun e => absurd e hn⟩
  refine xK_of2 (L0 := [(0, _), (1, _), (2, _)]) (by decide +kernel) rfl (Nat.le_of_ble_eq_true rfl) rfl ?_
  refine xs_iload_n dA_isTwinPlane_0 rfl ?_
  refine xs_if_ne dA_isTwinPlane_1 (fun h => mid0 (fun e => h e.1)) (fun h1 => ?_)
  refine xs_iload_n dA_isTwinPlane_4 rfl ?_
  refine xs_if_ne dA_isTwinPlane_5 (fun h => mid0 (fun e => h e.2.1)) (fun h2 => ?_)
  refine xs_iload_n dA_isTwinPlane_8 rfl ?_
  refine xs_if_ne dA_isTwinPlane_9 (fun h => mid0 (fun e => h e.2.2)) (fun h3 => ?_)
  refine xs_iconst (v := 1) dA_isTwinPlane_12 (by decide) ?_
  refine xs_goto dA_isTwinPlane_13 ?_
  exact mid true ⟨fun _ => ⟨h1, h2, h3⟩, fun _ => rfl⟩
section A2
variable {n a : Nat} {G : xG} {T : List Nat} {V Vt : zV} {A : List zV} {O : Option zV × Option zV} {lis : Bool}
theorem his_cell {G : xG} {h : Nat} {l : List zV} (hh : his G h l) : ∃ nx : Nat, G h = .inr (4, [.ref (h + 1), .int (nI nx), .int (nI l.length)]) := by
  obtain ⟨f, nx, W, h0, _⟩ := hh
  exact ⟨nx, h0⟩
theorem k_A_remember (hx : fzx G a T V Vt A O lis) : xK mA_remember [.ref a] n G 0 0 (qVx n (fun H => fzx H a T V Vt (hPush A V) O false ∧ xfr a (a + 528) G H)) xNo := by
  obtain ⟨hc, htx, hpr, htr, hhi, hsa, hiv, hzp, hzt, hfm, hgr, hsc, hs0, hs1⟩ := id hx
  obtain ⟨nx, hcell⟩ := his_cell hhi
  refine xK_of2 (L0 := [(0, _)]) (by decide +kernel) rfl (Nat.le_of_ble_eq_true rfl) rfl ?_
  refine xs_aload_n dA_remember_0 rfl ?_
  refine xs_get dA_remember_1 flA_29 (by repeat (first | assumption | exact va_up_self _ _ _ | refine (va_up_ne _ _ (by omega)).trans ?_)) rfl ?_
  refine xs_aload_n dA_remember_4 rfl ?_
  refine xs_get dA_remember_5 flA_19 (by repeat (first | assumption | exact va_up_self _ _ _ | refine (va_up_ne _ _ (by omega)).trans ?_)) rfl ?_
  refine xs_cV_vx (As := [_]) dA_remember_8 lkA_347 (by repeat (first | assumption | exact va_up_self _ _ _ | refine (va_up_ne _ _ (by omega)).trans ?_)) (k_H_push hhi hpr (by omega)) rfl rfl (Nat.le_of_ble_eq_true rfl) ⟨by decide, by decide⟩ ⟨by omega, by omega⟩ ?_
  intro H ⟨h1, h2⟩
  have hx2 := fzx_his hx h2 h1
  have hc2 := hx2.1
  refine xs_aload_n dA_remember_11 rfl ?_
  refine xs_iconst (v := 0) dA_remember_12 (by decide) ?_
  refine xs_put dA_remember_13 flA_72 ft7_11 (by repeat (first | assumption | exact va_up_self _ _ _ | refine (va_up_ne _ _ (by omega)).trans ?_)) (fun _ => rfl) (fun _ => rfl) (by simp) ?_
  exact xs_vret dA_remember_16 rfl (by omega) (by omega) ⟨rfl, rfl, fzx_off hx2 (xfr_up xfr_rf (by omega) (by omega)) (va_up_self _ _ _), xfr_up (xfr_mono h2 (by omega) (by omega)) (by omega) (by omega)⟩
theorem his_zero {G : xG} {h : Nat} {l : List zV} (hh : his G h l) : ∃ nx : Nat, G h = .inr (4, [.ref (h + 1), .int (nI nx), .int (nI l.length)]) ∧ his (va_up G h (.inr (4, [.ref (h + 1), .int (nI nx), .int (nI 0)]))) h [] := by
  obtain ⟨f, nx, W, h0, h1, h2, h3, h4, h5, h6⟩ := hh
  refine ⟨nx, h0, f, nx, W, va_up_self _ _ _, (by repeat (first | assumption | exact va_up_self _ _ _ | refine (va_up_ne _ _ (by omega)).trans ?_)), h2, fun j hj => cry_fr (h3 j hj) (fun k hk hk2 => by rw [va_up_ne _ _ (by omega)]), h4, Nat.zero_le _, fun i V hi => by cases hi⟩
theorem k_A_replacePresent {c : Nat} {W : zV} (hx : fzx G a T V Vt A O lis) (hW : cry G c W) (hd : a + 11 ≤ c ∧ c + 7 ≤ a + 528) : xK mA_replacePresent [.ref a, .ref c] n G 0 0 (qVx n (fun H => fzx H a T W Vt [] O false ∧ xfr a (a + 528) G H)) xNo := by
  obtain ⟨hc, htx, hpr, htr, hhi, hsa, hiv, hzp, hzt, hfm, hgr, hsc, hs0, hs1⟩ := id hx
  have hcell := cry_cell hpr
  have hcw := cry_cell hW
  refine xK_of2 (L0 := [(0, _), (1, _)]) (by decide +kernel) rfl (Nat.le_of_ble_eq_true rfl) rfl ?_
  refine xs_aload_n dA_replacePresent_0 rfl ?_
  refine xs_get dA_replacePresent_1 flA_19 (by repeat (first | assumption | exact va_up_self _ _ _ | refine (va_up_ne _ _ (by omega)).trans ?_)) rfl ?_
  refine xs_aload_n dA_replacePresent_4 rfl ?_
  refine xs_cV_vx (As := [_]) dA_replacePresent_5 lkA_291 (by repeat (first | assumption | exact va_up_self _ _ _ | refine (va_up_ne _ _ (by omega)).trans ?_)) (k_C_copyFrom hpr hW (by omega)) rfl rfl (Nat.le_of_ble_eq_true rfl) ⟨by decide, by decide⟩ ⟨by omega, by omega⟩ ?_
  intro H ⟨h1, h2⟩
  have hcH : H a = fzc a lis := by rw [h2 _ (by omega)]; exact hc
  have hhH : his H (a + 18) A := his_fr hhi (fun k _ _ => h2 k (by omega))
  obtain ⟨nx, hhc, hh0⟩ := his_zero hhH
  refine xs_aload_n dA_replacePresent_8 rfl ?_
  refine xs_get dA_replacePresent_9 flA_29 (by repeat (first | assumption | exact va_up_self _ _ _ | refine (va_up_ne _ _ (by omega)).trans ?_)) rfl ?_
  refine xs_iconst (v := 0) dA_replacePresent_12 (by decide) ?_
  refine xs_put dA_replacePresent_13 flA_285 ft4_2 (by repeat (first | assumption | exact va_up_self _ _ _ | refine (va_up_ne _ _ (by omega)).trans ?_)) (fun _ => rfl) (fun _ => rfl) (by simp) ?_
  refine xs_aload_n dA_replacePresent_16 rfl ?_
  refine xs_iconst (v := 0) dA_replacePresent_17 (by decide) ?_
  refine xs_put dA_replacePresent_18 flA_72 ft7_11 (by repeat (first | assumption | exact va_up_self _ _ _ | refine (va_up_ne _ _ (by omega)).trans ?_)) (fun _ => rfl) (fun _ => rfl) (by simp) ?_
  have e1 : xfr (a + 4) (a + 11) (va_up G a (fzc a false)) (va_up H a (fzc a false)) := fun k hk => by
    unfold va_up
    split
    · rfl
    · exact h2 k hk
  have x1 : fzx (va_up G a (fzc a false)) a T V Vt A O false := fzx_off hx (xfr_up xfr_rf (by omega) (by omega)) (va_up_self _ _ _)
  have x2 : fzx (va_up H a (fzc a false)) a T W Vt A O false := fzx_pre x1 e1 (cry_fr h1 (fun k _ _ => by rw [va_up_ne _ _ (by omega)]))
  have x3 := fzx_his (A2 := []) (H := va_up (va_up H (a + 18) (.inr (4, [.ref (a + 18 + 1), .int (nI nx), .int (nI 0)]))) a (fzc a false)) x2 (fun k hk => by
    by_cases hka : k = a
    · subst hka
      rw [va_up_self, va_up_self]
    · rw [va_up_ne _ _ hka, va_up_ne _ _ (by omega), va_up_ne _ _ hka]) (his_fr hh0 (fun k _ _ => by rw [va_up_ne _ _ (by omega)]))
  exact xs_vret dA_replacePresent_21 rfl (by omega) (by omega) ⟨rfl, rfl, x3, xfr_up (xfr_up (xfr_mono h2 (by omega) (by omega)) (by omega) (by omega)) (by omega) (by omega)⟩
def xzf (a : Nat) (G H : xG) : Prop := ∀ k, k ≠ a → (k < a + 120 ∨ a + 261 ≤ k) → H k = G k
theorem xzf_x {a : Nat} {G H : xG} (h : xzf a G H) : xfr a (a + 528) G H := fun k hk => h k (by omega) (by omega)
theorem k_A_zonesNow (hx : fzx G a T V Vt A O lis) : xK mA_zonesNow [.ref a] n G 0 0 (qRx n (fun r H => r = a + 120 ∧ fzx H a T V Vt A O true ∧ xzf a G H)) xNo := by
  obtain ⟨hc, htx, hpr, htr, hhi, hsa, hiv, hzp, hzt, hfm, hgr, hsc, hs0, hs1⟩ := id hx
  obtain ⟨hz1, fd, fa, pa, ms, cv, fcs, cnt, hz2⟩ := id hzp
  have hcell := cry_cell hpr
  have hzc := zlo_cell hz2
  refine xK_of2 (L0 := [(0, _)]) (by decide +kernel) rfl (Nat.le_of_ble_eq_true rfl) rfl ?_
  refine xs_aload_n dA_zonesNow_0 rfl ?_
  refine xs_get dA_zonesNow_1 flA_72 (by repeat (first | assumption | exact va_up_self _ _ _ | refine (va_up_ne _ _ (by omega)).trans ?_)) rfl ?_
  refine xs_if_ne dA_zonesNow_4 (fun h => ?_) (fun h => ?_)
  · have hl : lis = true := (bI_1n _).mp h
    subst hl
    refine xs_aload_n dA_zonesNow_30 rfl ?_
    refine xs_get dA_zonesNow_31 flA_44 (by repeat (first | assumption | exact va_up_self _ _ _ | refine (va_up_ne _ _ (by omega)).trans ?_)) rfl ?_
    exact xs_aret dA_zonesNow_34 rfl (by omega) (by omega) ⟨_, rfl, rfl, rfl, hx, fun _ _ _ => rfl⟩
  refine xs_aload_n dA_zonesNow_7 rfl ?_
  refine xs_get dA_zonesNow_8 flA_44 (by repeat (first | assumption | exact va_up_self _ _ _ | refine (va_up_ne _ _ (by omega)).trans ?_)) rfl ?_
  refine xs_aload_n dA_zonesNow_11 rfl ?_
  refine xs_get dA_zonesNow_12 flA_19 (by repeat (first | assumption | exact va_up_self _ _ _ | refine (va_up_ne _ _ (by omega)).trans ?_)) rfl ?_
  refine xs_cV_vx (As := [_]) dA_zonesNow_15 lkA_297 (by repeat (first | assumption | exact va_up_self _ _ _ | refine (va_up_ne _ _ (by omega)).trans ?_)) (k_Z_gather hz2 hpr (by omega)) rfl rfl (Nat.le_of_ble_eq_true rfl) ⟨by decide, by decide⟩ ⟨by omega, by omega⟩ ?_
  intro H ⟨⟨Z, R, h1, h2, h3⟩, h4⟩
  have hcH : H a = fzc a lis := by rw [h4 _ (by omega)]; exact hc
  have hok := zDirs_ok hpr.1
  obtain ⟨fd2, fa2, pa2, ms2, cv2, hz3, _⟩ := id h1
  have hzc2 := zlo_cell hz3
  refine xs_aload_n dA_zonesNow_18 rfl ?_
  refine xs_get dA_zonesNow_19 flA_44 (by repeat (first | assumption | exact va_up_self _ _ _ | refine (va_up_ne _ _ (by omega)).trans ?_)) rfl ?_
  refine xs_cV_vx (As := []) dA_zonesNow_22 lkA_350 (by repeat (first | assumption | exact va_up_self _ _ _ | refine (va_up_ne _ _ (by omega)).trans ?_)) (k_Z_sort h1 hok h2) rfl rfl (Nat.le_of_ble_eq_true rfl) ⟨by decide, by decide⟩ ⟨by omega, by omega⟩ ?_
  intro H2 ⟨⟨Y, R2, h5, h6⟩, h7⟩
  have hcH2 : H2 a = fzc a lis := by rw [h7 _ (by omega)]; exact hcH
  refine xs_aload_n dA_zonesNow_25 rfl ?_
  refine xs_iconst (v := 1) dA_zonesNow_26 (by decide) ?_
  refine xs_put dA_zonesNow_27 flA_72 ft7_11 (by repeat (first | assumption | exact va_up_self _ _ _ | refine (va_up_ne _ _ (by omega)).trans ?_)) (fun _ => rfl) (fun _ => rfl) (by simp) ?_
  refine xs_aload_n dA_zonesNow_30 rfl ?_
  refine xs_get dA_zonesNow_31 flA_44 (by repeat (first | assumption | exact va_up_self _ _ _ | refine (va_up_ne _ _ (by omega)).trans ?_)) rfl ?_
  obtain ⟨fd3, fa3, pa3, ms3, cv3, hz4, _⟩ := id h5
  have hfr : xfr (a + 120) (a + 261) G H2 := xfr_tr h4 h7
  have x1 : fzx H2 a T V Vt A O lis := fzx_zpr hx hfr ⟨fun _ => ⟨Y, R2, h5, h6⟩, fd3, fa3, pa3, ms3, cv3, _, _, hz4⟩
  refine xs_aret dA_zonesNow_34 rfl (by omega) (by omega) ⟨_, rfl, rfl, rfl, ?_, fun k h1 h2 => (va_up_ne _ _ h1).trans (hfr k (by omega))⟩
  have e : ∀ k, a + 120 ≤ k → k < a + 120 + 141 → (va_up H2 a (fzc a true)) k = H2 k := fun k hk _ => by rw [va_up_ne _ _ (by omega)]
  exact fzx_on x1 (xfr_up xfr_rf (by omega) (by omega)) (va_up_self _ _ _) ⟨fun _ => ⟨Y, R2, zst_fr h5 e, h6⟩, fd3, fa3, pa3, ms3, cv3, _, _, zlo_fr hz4 e⟩
/-- what a listed object says -/
theorem zpr_now {z : Nat} (h : zpr G z V true) : ∃ R, zst G z (zDirs V) (zl V) R ∧ zFin (zDirs V) V.2.2.1 (zl V).length (zl V) := by
  obtain ⟨Z, R, h1, h2⟩ := h.1 rfl
  rw [zl_eq h2]
  exact ⟨R, h1, h2⟩
theorem k_A_countForm {i : Nat} {f : zF} (hx : fzx G a T V Vt A O lis) (hf : V.1[i]? = some f) : xK mA_countForm [.ref a, .int (nI i)] n G 0 0 (qIx n (fun r H => r = nI (frm V.2.1 f.1).length ∧ fzx H a T V Vt A O lis ∧ xfr a (a + 528) G H)) xNo := by
  obtain ⟨hc, htx, hpr, htr, hhi, hsa, hiv, hzp, hzt, hfm, hgr, hsc, hs0, hs1⟩ := id hx
  obtain ⟨N, F, b, c, hfo⟩ := id hfm
  obtain ⟨fh, fk, fl, nu, ⟨g0, _⟩, _⟩ := id hfo
  refine xK_of2 (L0 := [(0, _), (1, _)]) (by decide +kernel) rfl (Nat.le_of_ble_eq_true rfl) rfl ?_
  refine xs_aload_n dA_countForm_0 rfl ?_
  refine xs_get dA_countForm_1 flA_54 (by repeat (first | assumption | exact va_up_self _ _ _ | refine (va_up_ne _ _ (by omega)).trans ?_)) rfl ?_
  refine xs_aload_n dA_countForm_4 rfl ?_
  refine xs_get dA_countForm_5 flA_19 (by repeat (first | assumption | exact va_up_self _ _ _ | refine (va_up_ne _ _ (by omega)).trans ?_)) rfl ?_
  refine xs_iload_n dA_countForm_8 rfl ?_
  refine xs_cV_vx (As := [_, _]) dA_countForm_9 lkA_353 (by repeat (first | assumption | exact va_up_self _ _ _ | refine (va_up_ne _ _ (by omega)).trans ?_)) (k_F_make hfo hpr hf (by omega)) rfl rfl (Nat.le_of_ble_eq_true rfl) ⟨by decide, by decide⟩ ⟨by omega, by omega⟩ ?_
  intro H ⟨⟨c2, h1⟩, h2⟩
  have hcH : H a = fzc a lis := by rw [h2 _ (by omega)]; exact hc
  obtain ⟨fh2, fk2, fl2, nu2, ⟨g02, _⟩, _⟩ := id h1
  refine xs_aload_n dA_countForm_12 rfl ?_
  refine xs_get dA_countForm_13 flA_54 (by repeat (first | assumption | exact va_up_self _ _ _ | refine (va_up_ne _ _ (by omega)).trans ?_)) rfl ?_
  refine xs_get dA_countForm_16 flA_356 (by repeat (first | assumption | exact va_up_self _ _ _ | refine (va_up_ne _ _ (by omega)).trans ?_)) rfl ?_
  exact xs_iret dA_countForm_19 rfl rfl (by omega) (by omega) ⟨_, rfl, rfl, rfl, fzx_frm hx h2 ⟨_, _, _, _, h1⟩, xfr_mono h2 (by omega) (by omega)⟩
end A2
