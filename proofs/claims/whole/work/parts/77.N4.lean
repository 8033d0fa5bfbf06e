theorem pIx_ge {T : List Nat} {p hi : Nat} {zf : Bool} : p ≤ (pIx T p hi zf).2 := by
  unfold pIx
  split
  · split
    · show p ≤ p + 2; omega
    · show p ≤ p + 1; omega
  · split
    · show p ≤ p + 1; omega
    · exact Nat.le_refl _
theorem pIs_ge {T : List Nat} {hi : Nat} : ∀ (m : Nat) (I : List Int) (p : Nat), p ≤ (pIs T hi m I p).2 := by
  intro m
  induction m with
  | zero => exact fun I p => Nat.le_refl _
  | succ m ih =>
    intro I p
    have h1 := pIx_ge (T := T) (p := p) (hi := hi) (zf := zfb I)
    unfold pIs
    split
    next v q h =>
      rw [h] at h1
      exact Nat.le_trans h1 (ih _ q)
    next q h =>
      rw [h] at h1
      exact h1
theorem pTwin_ge {T : List Nat} {p : Nat} {V : zV} : p ≤ (pTwin T p V).2 := by
  have h1 := pIs_ge (T := T) (hi := 3) 3 [] p
  unfold pTwin
  split
  next J q h => rw [h] at h1; exact h1
  next q h => rw [h] at h1; exact h1
theorem pFace_ge {T : List Nat} {p : Nat} {V : zV} : p ≤ (pFace T p V).2 := by
  unfold pFace
  split
  next => exact Nat.le_refl _
  next s hs =>
    have h1 := pIs_ge (T := T) (hi := 9) 3 [] (p + 1)
    split
    next J q h => rw [h] at h1; show p ≤ q; have : p + 1 ≤ q := h1; omega
    next q h => rw [h] at h1; show p ≤ q; have : p + 1 ≤ q := h1; omega
section N4
variable {n b : Nat} {G : xG} {rf : Int32} {S : zS}
theorem k_B_readText {T : List Nat} {V : zV} {A : List zV} {O : Option zV × Option zV} (h : mdx G b rf T V A O) : xK mB_readText [.ref b] n G 0 0 (qIx n (fun r H => r = rP (pRead T) ∧ mdx H b rf T V A O ∧ (∀ W, (pRead T).1 = some W → mRw H (b + 2) W) ∧ xfr b (b + 17) G H)) xNo := by
  obtain ⟨⟨sp, gd, zs, ft, hc⟩, ⟨sc, hs, hsc, hT⟩, ⟨fr, hr⟩, k3, k4, k5, k6, k7, k8⟩ := id h
  obtain ⟨⟨th, h8⟩, _⟩ := id k7
  obtain ⟨ac, hac⟩ : ∃ ac : Int32, ac = nI A.length := ⟨_, rfl⟩
  rw [← hac] at hc
  obtain ⟨PQ, hPQ⟩ : ∃ PQ : Int32 → xG → Prop, PQ = fun r H => r = rP (pRead T) ∧ mdx H b rf T V A O ∧ (∀ W, (pRead T).1 = some W → mRw H (b + 2) W) ∧ xfr b (b + 17) G H := ⟨_, rfl⟩
  rw [← hPQ]
  -- what stays
  have keep : ∀ H, xrd b G H → mCe H b rf T A → mAr H (b + 2) → (∃ th, H (b + 8) = oL 3 th) → mdx H b rf T V A O := by
    intro H hf hce h2 h8
    obtain ⟨_, ⟨a2, w2⟩, ⟨a3, w3⟩, ⟨a4, w4⟩, ⟨a5, w5⟩⟩ := id k7
    exact mdx_n h hce h2 (mRw_fr k3 (hf _ (by omega) (by omega) (by omega))) (mAr_fr k4 (hf _ (by omega) (by omega) (by omega))) ⟨h8, ⟨a2, by rw [hf _ (by omega) (by omega) (by omega)]; exact w2⟩, ⟨a3, by rw [hf _ (by omega) (by omega) (by omega)]; exact w3⟩, ⟨a4, by rw [hf _ (by omega) (by omega) (by omega)]; exact w4⟩, ⟨a5, by rw [hf _ (by omega) (by omega) (by omega)]; exact w5⟩⟩ (mGr_fr k8 (fun k _ _ => hf k (by omega) (by omega) (by omega))) ⟨hf _ (by omega) (by omega) (by omega), hf _ (by omega) (by omega) (by omega), hf _ (by omega) (by omega) (by omega), hf _ (by omega) (by omega) (by omega)⟩
  have fin : ∀ (H : xG) (p : Nat) (g : Bool) (ft : Int32), H b = mCl b rf (nI T.length) (nI p) g ac zs ft → (g = true → ∃ W q, pRead T = (some W, q) ∧ mRw H (b + 2) W) → (g = false → pRead T = (none, p)) → mAr H (b + 2) → (∃ th, H (b + 8) = oL 3 th) → xrd b G H →
      xS mB_readText n 0 0 (qIx n PQ) xNo 102 [(0, .ref b)] [] n H 0 0 := by
    intro H p g ft hcH hgt hgf h2 h8 hf
    have hm := keep H hf ⟨_, _, _, _, by rw [← hac]; exact hcH⟩ h2 h8
    refine xs_aload_n dB_readText_102 rfl ?_
    refine xs_get dB_readText_103 flB_183 (by repeat (first | exact va_up_self _ _ _ | assumption | refine (va_up_ne _ _ (by omega)).trans ?_)) rfl ?_
    refine xs_ifb_eq dB_readText_106 (fun hg => ?_) (fun hg => ?_)
    · have e := hgf hg
      refine xs_aload_n dB_readText_114 rfl ?_
      refine xs_get dB_readText_115 flB_180 (by repeat (first | exact va_up_self _ _ _ | assumption | refine (va_up_ne _ _ (by omega)).trans ?_)) rfl ?_
      refine xs_iret dB_readText_118 rfl rfl (by omega) (by omega) ⟨_, rfl, rfl, ?_⟩
      rw [hPQ]
      exact ⟨by rw [e]; rfl, hm, (fun W hW => by rw [e] at hW; cases hW), fun k hk => hf k (by omega) (by omega) (by omega)⟩
    · obtain ⟨W, q, e, hW⟩ := hgt hg
      refine xs_ldc dB_readText_109 kcB_109 ?_
      refine xs_goto dB_readText_111 ?_
      refine xs_iret dB_readText_118 rfl rfl (by omega) (by omega) ⟨_, rfl, rfl, ?_⟩
      rw [hPQ]
      exact ⟨by rw [e]; rfl, hm, fun U hU => by rw [e] at hU; cases hU; exact hW, fun k hk => hf k (by omega) (by omega) (by omega)⟩
  have bad : ∀ (H : xG) (p : Nat) (ft : Int32), H b = mCl b rf (nI T.length) (nI p) false ac zs ft → pRead T = (none, p) → mAr H (b + 2) → (∃ th, H (b + 8) = oL 3 th) → xrd b G H →
      xS mB_readText n 0 0 (qIx n PQ) xNo 44 [(0, .ref b)] [] n H 0 0 := by
    intro H p ft hcH hR h2 h8 hf
    refine xs_aload_n dB_readText_44 rfl ?_
    refine xs_get dB_readText_45 flB_183 (by repeat (first | exact va_up_self _ _ _ | assumption | refine (va_up_ne _ _ (by omega)).trans ?_)) rfl ?_
    refine xs_if_eq dB_readText_48 (fun _ => ?_) (fun q => absurd rfl q)
    exact fin H p false ft hcH (fun e => by cases e) (fun _ => hR) h2 h8 hf
  have loop : ∀ (m p told k : Nat) (W : zV) (H : xG), T.length - p < m → p ≤ T.length → told ≤ 16 → T.length - p ≤ k → pRun T k p told W = pRead T → H b = mCl b rf (nI T.length) (nI p) true ac zs (nI told) → mRw H (b + 2) W → (∃ th, H (b + 8) = oL 3 th) → xrd b G H →
      xS mB_readText n 0 0 (qIx n PQ) xNo 44 [(0, .ref b)] [] n H 0 0 := by
    intro m
    induction m with
    | zero => intro p told k W H q; exact absurd q (by omega)
    | succ m ih =>
      intro p told k W H q1 hpl htd hk hrun hcH hW h8 hf
      obtain ⟨th, h8⟩ := h8
      have hT1 := hT.1
      have hsH : H (b + 1) = oI 100 sc := by rw [hf _ (by omega) (by omega) (by omega)]; exact hs
      refine xs_aload_n dB_readText_44 rfl ?_
      refine xs_get dB_readText_45 flB_183 (by repeat (first | exact va_up_self _ _ _ | assumption | refine (va_up_ne _ _ (by omega)).trans ?_)) rfl ?_
      refine xs_if_eq dB_readText_48 (fun q => absurd q (show ¬ bI true = 0 by decide)) (fun _ => ?_)
      refine xs_aload_n dB_readText_51 rfl ?_
      refine xs_get dB_readText_52 flB_180 (by repeat (first | exact va_up_self _ _ _ | assumption | refine (va_up_ne _ _ (by omega)).trans ?_)) rfl ?_
      refine xs_aload_n dB_readText_55 rfl ?_
      refine xs_get dB_readText_56 flB_173 (by repeat (first | exact va_up_self _ _ _ | assumption | refine (va_up_ne _ _ (by omega)).trans ?_)) rfl ?_
      refine xs_icmp_ge dB_readText_59 (fun q => ?_) (fun q => ?_)
      · have hge := (nI_leI (by omega) (by omega)).mp q
        have hR : pRead T = (some W, p) := by
          rw [← hrun]
          cases k with
          | zero => rfl
          | succ k =>
            unfold pRun
            rw [if_neg (by omega)]
        exact fin H p true _ hcH (fun _ => ⟨W, p, hR, hW⟩) (fun e => by cases e) (by obtain ⟨f, w, _⟩ := hW; exact ⟨f, w⟩) ⟨th, h8⟩ hf
      · have hlt : p < T.length := nI_lt_of (by omega) (by omega) q
        obtain ⟨k, rfl⟩ : ∃ k', k = k' + 1 := ⟨k - 1, by omega⟩
        have hrunS : ∀ U q t, pPart T p told W = ((some U, q), t) → pRun T k q t U = pRead T := fun U q t e => by
          rw [← hrun]
          conv => rhs; unfold pRun
          rw [if_pos hlt, e]
        have hrunN : ∀ q t, pPart T p told W = ((none, q), t) → pRead T = (none, q) := fun q t e => by
          rw [← hrun]
          conv => lhs; unfold pRun
          rw [if_pos hlt, e]
        -- behind a part
        have after : ∀ (H2 : xG) (t2 : Nat) (R : Option zV × Nat), rRes b rf ac zs T t2 R H H2 → pPart T p told W = (R, t2) ∨ (R = (none, p) ∧ pPart T p told W = (R, told)) → (R.1.isSome = true → t2 ≤ 16) → p + 1 ≤ R.2 ∨ R.1 = none → R.2 ≤ T.length → xS mB_readText n 0 0 (qIx n PQ) xNo 44 [(0, .ref b)] [] n H2 0 0 := by
          intro H2 t2 R ⟨r1, r2, r3, r4, r5, r6⟩ hpp ht2 hpr hRl
          have hf2 : xrd b G H2 := fun k h1 h2 h3 => (r6 k h1 h2 h3).trans (hf k h1 h2 h3)
          obtain ⟨o, q⟩ := R
          cases o with
          | none =>
            have hR : pRead T = (none, q) := by
              rcases hpp with e | ⟨_, e⟩ <;> exact hrunN _ _ e
            exact bad H2 q _ r1 hR r3 r5 hf2
          | some U =>
            have hpp2 : pPart T p told W = ((some U, q), t2) := by
              rcases hpp with e | ⟨e, _⟩
              · exact e
              · cases e
            have hq : p + 1 ≤ q := by
              rcases hpr with e | e
              · exact e
              · cases e
            have hrun2 := hrunS U q t2 hpp2
            have hql : q ≤ T.length := hRl
            exact ih q t2 k U H2 (by omega) hql (ht2 rfl) (by omega) hrun2 r1 (r4 U rfl) r5 hf2
        refine xs_aload_n dB_readText_62 rfl ?_
        refine xs_bipush (v := 102) dB_readText_63 (by decide) ?_
        refine xs_cV_i (As := [_]) dB_readText_65 lkB_193 (by repeat (first | exact va_up_self _ _ _ | assumption | refine (va_up_ne _ _ (by omega)).trans ?_)) (k_B_isNext (c:=102) hcH hsH hsc hT (by omega) (by decide)) rfl rfl (Nat.le_of_ble_eq_true rfl) ⟨by decide, by decide⟩ ⟨by omega, by omega⟩ ?_
        by_cases h102 : T[p]? = some 102
        · rw [bI_t h102]
          refine xs_if_eq dB_readText_68 (fun q => absurd q (by decide)) (fun _ => ?_)
          refine xs_aload_n dB_readText_71 rfl ?_
          refine xs_cV_vx (As := []) dB_readText_72 lkB_210 (by repeat (first | exact va_up_self _ _ _ | assumption | refine (va_up_ne _ _ (by omega)).trans ?_)) (k_B_readFace hcH hsH hsc hT hlt htd hW h8) rfl rfl (Nat.le_of_ble_eq_true rfl) ⟨by decide, by decide⟩ ⟨by omega, by omega⟩ ?_
          intro H2 hres
          refine xs_goto dB_readText_75 ?_
          by_cases h16 : told < 16
          · rw [if_pos h16] at hres
            exact after H2 _ _ hres (Or.inl (by unfold pPart; rw [if_pos ⟨h102, h16⟩])) (fun _ => by omega) (Or.inl pFace_ge) (pFace_le (by omega))
          · rw [if_neg h16] at hres
            exact after H2 _ _ hres (Or.inr ⟨rfl, by unfold pPart; rw [if_neg (fun e => h16 e.2), if_neg (by rw [h102]; decide)]⟩) (fun e => by cases e) (Or.inr rfl) hpl
        · rw [bI_f h102]
          refine xs_if_eq dB_readText_68 (fun _ => ?_) (fun q => absurd rfl q)
          refine xs_aload_n dB_readText_78 rfl ?_
          refine xs_bipush (v := 116) dB_readText_79 (by decide) ?_
          refine xs_cV_i (As := [_]) dB_readText_81 lkB_193 (by repeat (first | exact va_up_self _ _ _ | assumption | refine (va_up_ne _ _ (by omega)).trans ?_)) (k_B_isNext (c:=116) hcH hsH hsc hT (by omega) (by decide)) rfl rfl (Nat.le_of_ble_eq_true rfl) ⟨by decide, by decide⟩ ⟨by omega, by omega⟩ ?_
          by_cases h116 : T[p]? = some 116
          · rw [bI_t h116]
            refine xs_if_eq dB_readText_84 (fun q => absurd q (by decide)) (fun _ => ?_)
            refine xs_aload_n dB_readText_87 rfl ?_
            refine xs_cV_vx (As := []) dB_readText_88 lkB_213 (by repeat (first | exact va_up_self _ _ _ | assumption | refine (va_up_ne _ _ (by omega)).trans ?_)) (k_B_readTwin hcH hsH hsc hT hlt hW h8) rfl rfl (Nat.le_of_ble_eq_true rfl) ⟨by decide, by decide⟩ ⟨by omega, by omega⟩ ?_
            intro H2 hres
            refine xs_goto dB_readText_91 ?_
            exact after H2 _ _ hres (Or.inl (by unfold pPart; rw [if_neg (fun e => h102 e.1), if_pos h116])) (fun _ => htd) (Or.inl pTwin_ge) (pTwin_le (by omega))
          · rw [bI_f h116]
            refine xs_if_eq dB_readText_84 (fun _ => ?_) (fun q => absurd rfl q)
            have hfl : bI false = 0 := rfl
            refine xs_aload_n dB_readText_94 rfl ?_
            refine xs_iconst (v := 0) dB_readText_95 (by decide) ?_
            refine xs_cV_v (As := [_]) dB_readText_96 lkB_189 (by repeat (first | exact va_up_self _ _ _ | assumption | refine (va_up_ne _ _ (by omega)).trans ?_)) (k_B_accept (is:=false) hcH) rfl rfl (Nat.le_of_ble_eq_true rfl) ⟨by decide, by decide⟩ ⟨by omega, by omega⟩ ?_
            refine xs_goto dB_readText_99 ?_
            obtain ⟨f, w1, w2, w3⟩ := hW
            refine after _ told (none, p) ⟨va_up_self _ _ _, by show p ≤ 100; omega, ⟨f, by rw [va_up_ne _ _ (by omega)]; exact w1⟩, (fun W2 e => by cases e), ⟨th, by rw [va_up_ne _ _ (by omega)]; exact h8⟩, fun k h1 h2 h3 => va_up_ne _ _ h1⟩ (Or.inl (by unfold pPart; rw [if_neg (fun e => h102 e.1), if_neg h116])) (fun e => by cases e) (Or.inr rfl) hpl
  refine xK_of2 (L0 := [(0, _)]) (by decide +kernel) rfl (Nat.le_of_ble_eq_true rfl) rfl ?_
  refine xs_aload_n dB_readText_0 rfl ?_
  refine xs_iconst (v := 0) dB_readText_1 (by decide) ?_
  refine xs_put dB_readText_2 flB_180 ft8_3 (by repeat (first | exact va_up_self _ _ _ | assumption | refine (va_up_ne _ _ (by omega)).trans ?_)) (fun _ => rfl) (fun _ => rfl) (by simp) ?_
  refine xs_aload_n dB_readText_5 rfl ?_
  refine xs_iconst (v := 1) dB_readText_6 (by decide) ?_
  refine xs_put dB_readText_7 flB_183 ft8_4 (by repeat (first | exact va_up_self _ _ _ | assumption | refine (va_up_ne _ _ (by omega)).trans ?_)) (fun _ => rfl) (fun _ => rfl) (by simp) ?_
  refine xs_aload_n dB_readText_10 rfl ?_
  refine xs_iconst (v := 0) dB_readText_11 (by decide) ?_
  refine xs_put dB_readText_12 flB_199 ft8_22 (by repeat (first | exact va_up_self _ _ _ | assumption | refine (va_up_ne _ _ (by omega)).trans ?_)) (fun _ => rfl) (fun _ => rfl) (by simp) ?_
  refine xs_aload_n dB_readText_15 rfl ?_
  refine xs_get dB_readText_16 flB_13 (by repeat (first | exact va_up_self _ _ _ | assumption | refine (va_up_ne _ _ (by omega)).trans ?_)) rfl ?_
  simp only [bx_uu]
  refine xs_cS_vx (As := [_]) dB_readText_19 lkB_60 (k_B_clean (r:=b+2) (f0:=fr) (by rw [va_up_ne _ _ (by omega)]; exact hr)) rfl rfl (Nat.le_of_ble_eq_true rfl) ⟨by decide, by decide⟩ ⟨by omega, by omega⟩ ?_
  intro H ⟨fz, hH, hfz⟩
  obtain ⟨H0, hH0⟩ : ∃ H0 : xG, H0 = va_up G b (mCl b rf (nI T.length) (nI 0) true ac zs (nI 0)) := ⟨_, rfl⟩
  have hHe : H = va_up H0 (b + 2) (oI 70 fz) := by rw [hH, hH0]; rfl
  have c0 : H b = mCl b rf (nI T.length) (nI 0) true ac zs (nI 0) := by rw [hHe, va_up_ne _ _ (by omega), hH0, va_up_self]
  have e0 : ∀ k, k ≠ b → k ≠ b + 2 → H k = G k := fun k h1 h2 => by rw [hHe, va_up_ne _ _ h2, hH0, va_up_ne _ _ h1]
  have r0 : H (b + 2) = oI 70 fz := by rw [hHe, va_up_self]
  clear hHe hH0 hH
  have s0 : H (b + 1) = oI 100 sc := by rw [e0 _ (by omega) (by omega)]; exact hs
  refine xs_aload_n dB_readText_22 rfl ?_
  refine xs_aload_n dB_readText_23 rfl ?_
  refine xs_bipush (v := 88) dB_readText_24 (by decide) ?_
  refine xs_cV_i (As := [_]) dB_readText_26 lkB_193 (by repeat (first | exact va_up_self _ _ _ | assumption | refine (va_up_ne _ _ (by omega)).trans ?_)) (k_B_isNext (p:=0) (c:=88) c0 s0 hsc hT (by decide) (by decide)) rfl rfl (Nat.le_of_ble_eq_true rfl) ⟨by decide, by decide⟩ ⟨by omega, by omega⟩ ?_
  obtain ⟨is, his⟩ : ∃ is, is = decide (T[0]? = some 88) := ⟨_, rfl⟩
  rw [← his]
  refine xs_cV_v (As := [_]) dB_readText_29 lkB_189 (by repeat (first | exact va_up_self _ _ _ | assumption | refine (va_up_ne _ _ (by omega)).trans ?_)) (k_B_accept (p:=0) (is:=is) c0) rfl rfl (Nat.le_of_ble_eq_true rfl) ⟨by decide, by decide⟩ ⟨by omega, by omega⟩ ?_
  rw [Bool.true_and]
  obtain ⟨p1, hp1⟩ : ∃ p1, p1 = (if is = true then 0 + 1 else 0) := ⟨_, rfl⟩
  rw [← hp1]
  have hp1l : p1 ≤ 100 := by rw [hp1]; split <;> omega
  obtain ⟨H1, hH1⟩ : ∃ H1, H1 = va_up H b (mCl b rf (nI T.length) (nI p1) is ac zs (nI 0)) := ⟨_, rfl⟩
  refine xs_at (H := H1) hH1.symm ?_
  have c1 : H1 b = mCl b rf (nI T.length) (nI p1) is ac zs (nI 0) := by rw [hH1, va_up_self]
  have s1 : H1 (b + 1) = oI 100 sc := by rw [hH1, va_up_ne _ _ (by omega)]; exact s0
  have e1 : ∀ k, k ≠ b → k ≠ b + 2 → H1 k = G k := fun k h1 h2 => by rw [hH1, va_up_ne _ _ h1]; exact e0 k h1 h2
  have r1 : H1 (b + 2) = oI 70 fz := by rw [hH1, va_up_ne _ _ (by omega)]; exact r0
  clear hH1
  refine xs_aload_n dB_readText_32 rfl ?_
  refine xs_get dB_readText_33 flB_13 (by repeat (first | exact va_up_self _ _ _ | assumption | refine (va_up_ne _ _ (by omega)).trans ?_)) rfl ?_
  refine xs_iconst (v := 1) dB_readText_36 (by decide) ?_
  refine xs_aload_n dB_readText_37 rfl ?_
  refine xs_iconst (v := 0) dB_readText_38 (by decide) ?_
  refine xs_iconst (v := 4) dB_readText_39 (by decide) ?_
  refine xs_cV_ix (As := [_, _]) dB_readText_40 lkB_196 (by repeat (first | exact va_up_self _ _ _ | assumption | refine (va_up_ne _ _ (by omega)).trans ?_)) (k_B_digit (lo:=0) (hi:=4) c1 s1 hsc hT hp1l (by decide) (by decide)) rfl rfl (Nat.le_of_ble_eq_true rfl) ⟨by decide, by decide⟩ ⟨by omega, by omega⟩ ?_
  intro r' H2 ⟨v, p2, g2, l1, l2, l3, l4, l5, l6⟩
  subst l1
  have c2 : H2 b = mCl b rf (nI T.length) (nI p2) g2 ac zs (nI 0) := by rw [l3, va_up_self]
  have r2 : H2 (b + 2) = oI 70 fz := by rw [l3, va_up_ne _ _ (by omega)]; exact r1
  have e2 : ∀ k, k ≠ b → k ≠ b + 2 → H2 k = G k := fun k h1 h2 => by rw [l3, va_up_ne _ _ h1]; exact e1 k h1 h2
  have v1 : vp_in (1 : Int32) 70 := fin70 (j := 1) (by decide)
  have x1 : (1 : Int32).toNatClampNeg = 1 := by decide
  refine xs_iast dB_readText_43 (by repeat (first | exact va_up_self _ _ _ | assumption | refine (va_up_ne _ _ (by omega)).trans ?_)) (by assumption) ?_
  rw [x1]
  have c3 : (va_up H2 (b + 2) (oI 70 (upd fz 1 (nI v)))) b = mCl b rf (nI T.length) (nI p2) g2 ac zs (nI 0) := by rw [va_up_ne _ _ (by omega)]; exact c2
  have e3 : xrd b G (va_up H2 (b + 2) (oI 70 (upd fz 1 (nI v)))) := fun k h1 h2 h3 => by rw [va_up_ne _ _ h2]; exact e2 k h1 h2
  have t3 : ∃ th, (va_up H2 (b + 2) (oI 70 (upd fz 1 (nI v)))) (b + 8) = oL 3 th := ⟨th, by rw [va_up_ne _ _ (by omega), e2 _ (by omega) (by omega)]; exact h8⟩
  have r3 : (va_up H2 (b + 2) (oI 70 (upd fz 1 (nI v)))) (b + 2) = oI 70 (upd fz 1 (nI v)) := va_up_self _ _ _
  cases hg2 : g2 with
  | false =>
    have hR : pRead T = (none, p2) := by
      unfold pRead pHead
      cases his2 : is with
      | false =>
        rw [if_neg (of_decide_eq_false (his.symm.trans his2))]
        have := (l5 his2).2
        rw [this, hp1, his2]
        rfl
      | true =>
        rw [if_pos (of_decide_eq_true (his.symm.trans his2))]
        have hp11 : p1 = 1 := by rw [hp1, his2]; rfl
        rcases l6 his2 with ⟨_, w2, _⟩ | ⟨w1, _, w3⟩
        · rw [hg2] at w2
          cases w2
        · rw [hp11] at w1 w3
          rw [w1, w3]
    rw [hg2] at c3
    exact bad _ p2 _ c3 hR ⟨_, r3⟩ t3 e3
  | true =>
    have his2 : is = true := by
      cases his2 : is with
      | true => rfl
      | false =>
        have := (l5 his2).1
        rw [hg2] at this
        cases this
    have hp11 : p1 = 1 := by rw [hp1, his2]; rfl
    rcases l6 his2 with ⟨w1, _, w3⟩ | ⟨_, w2, _⟩
    · rw [hp11] at w1 w3
      have hv4 := pDig_lt w1
      have hhd : pHead T 0 zNew = (some ([], (v : Int), zNew.2.2), 2) := by
        unfold pHead
        rw [if_pos (of_decide_eq_true (his.symm.trans his2)), w1]
        rfl
      have hrun : pRun T 100 2 0 ([], (v : Int), zNew.2.2) = pRead T := by
        conv => rhs; unfold pRead
        rw [hhd]
      rw [hg2, w3] at c3
      obtain ⟨⟨f0, f1, fa, f3, f4, f5⟩, hff⟩ := hfz
      have hok : zOk ([], (v : Int), zNew.2.2) := by
        obtain ⟨z1, z2, z3, z4⟩ := zNew_ok
        exact ⟨z1, z2, ⟨by show (0 : Int) ≤ (v : Int); omega, by show (v : Int) ≤ 4; omega⟩, z4⟩
      refine loop (T.length + 1) 2 0 100 _ _ (by omega) (by omega) (by omega) (by have := hT.1; omega) hrun c3 ⟨_, r3, ⟨⟨?_, ?_, ?_, ?_, ?_, ?_⟩, fun k c hk => by cases hk⟩, hok⟩ t3 e3
      · simp only [upd]
        rw [if_neg (by decide)]
        exact f0
      · simp only [upd, if_true]
        exact iI_nat v
      · simp only [upd]
        rw [if_neg (by decide)]
        exact fa
      · simp only [upd]
        rw [if_neg (by decide)]
        exact f3
      · simp only [upd]
        rw [if_neg (by decide)]
        exact f4
      · simp only [upd]
        rw [if_neg (by decide)]
        exact f5
    · rw [hg2] at w2
      cases w2
end N4
