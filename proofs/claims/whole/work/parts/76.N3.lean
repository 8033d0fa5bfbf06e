theorem zfb_1 (a : Int) : zfb [a] = false := by simp [zfb]
theorem zfb_2 (a b : Int) : zfb [a, b] = decide (a = 0 ∧ b = 0) := by simp [zfb]
theorem trio {T : List Nat} {hi p p1 p2 p3 : Nat} {g1 g2 g3 : Bool} {v1 v2 v3 : Int} (h1 : pIx T p hi false = (if g1 = true then some v1 else none, p1)) (h2f : g1 = false → g2 = false ∧ p2 = p1) (h2t : g1 = true → pIx T p1 hi false = (if g2 = true then some v2 else none, p2)) (h3f : g2 = false → g3 = false ∧ p3 = p2) (h3t : g2 = true → pIx T p2 hi (decide (v1 = 0 ∧ v2 = 0)) = (if g3 = true then some v3 else none, p3)) :
    pIs T hi 3 [] p = (if g3 = true then some [v1, v2, v3] else none, p3) := by
  cases g1 with
  | false =>
    obtain ⟨rfl, rfl⟩ := h2f rfl
    obtain ⟨rfl, rfl⟩ := h3f rfl
    unfold pIs
    rw [show zfb [] = false from rfl, h1]
    rfl
  | true =>
    have h2 := h2t rfl
    cases g2 with
    | false =>
      obtain ⟨rfl, rfl⟩ := h3f rfl
      unfold pIs
      rw [show zfb [] = false from rfl, h1]
      show pIs T hi 2 [v1] p1 = _
      unfold pIs
      rw [zfb_1, h2]
      rfl
    | true =>
      have h3 := h3t rfl
      unfold pIs
      rw [show zfb [] = false from rfl, h1]
      show pIs T hi 2 [v1] p1 = _
      unfold pIs
      rw [zfb_1, h2]
      show pIs T hi 1 [v1, v2] p2 = _
      unfold pIs
      rw [zfb_2, h3]
      cases g3 with
      | false => rfl
      | true => rfl
section N3
variable {n b : Nat} {G : xG} {rf ac zs : Int32} {T : List Nat} {p told : Nat} {W : zV} {sc : Nat → Int32} {th : Nat → Int64}
def xrd (b : Nat) (G H : xG) : Prop := ∀ k, k ≠ b → k ≠ b + 2 → k ≠ b + 8 → H k = G k
/-- a part has been read -/
def rRes (b : Nat) (rf ac zs : Int32) (T : List Nat) (told : Nat) (R : Option zV × Nat) (G H : xG) : Prop :=
  H b = mCl b rf (nI T.length) (nI R.2) R.1.isSome ac zs (nI told) ∧ R.2 ≤ 100 ∧ mAr H (b + 2) ∧ (∀ W2, R.1 = some W2 → mRw H (b + 2) W2) ∧ (∃ th, H (b + 8) = oL 3 th) ∧ xrd b G H
theorem flag3 {v1 v2 : Int} (h1 : v1.natAbs ≤ 9) (h2 : v2.natAbs ≤ 9) : (iI v1 = 0 ↔ v1 = 0) ∧ (iI v2 = 0 ↔ v2 = 0) :=
  ⟨iI_eq (y := 0) (by omega) (by decide), iI_eq (y := 0) (by omega) (by decide)⟩
theorem k_B_readTwin (hc : G b = mCl b rf (nI T.length) (nI p) true ac zs (nI told)) (hs : G (b + 1) = oI 100 sc) (hsc : ∀ i c, T[i]? = some c → sc i = nI c) (hT : T.length ≤ 100 ∧ ∀ c ∈ T, c < 256) (hp : p < T.length) (hW : mRw G (b + 2) W) (h8 : G (b + 8) = oL 3 th) : xK mB_readTwin [.ref b] n G 0 0 (qVx n (fun H => rRes b rf ac zs T told (pTwin T (p + 1) W) G H)) xNo := by
  obtain ⟨f, hr, hf, hok⟩ := hW
  have ht : bI true = 1 := rfl
  refine xK_of2 (L0 := [(0, _)]) (by decide +kernel) rfl (Nat.le_of_ble_eq_true rfl) rfl ?_
  refine xs_aload_n dB_readTwin_0 rfl ?_
  refine xs_iconst (v := 1) dB_readTwin_1 (by decide) ?_
  refine xs_cV_v (As := [_]) dB_readTwin_2 lkB_189 (by repeat (first | exact va_up_self _ _ _ | assumption | refine (va_up_ne _ _ (by omega)).trans ?_)) (k_B_accept (is:=true) hc) rfl rfl (Nat.le_of_ble_eq_true rfl) ⟨by decide, by decide⟩ ⟨by omega, by omega⟩ ?_
  obtain ⟨H1, hH1⟩ : ∃ H1, H1 = va_up G b (mCl b rf (nI T.length) (nI (p + 1)) true ac zs (nI told)) := ⟨_, rfl⟩
  refine xs_at (H := H1) hH1.symm ?_
  have c1 : H1 b = mCl b rf (nI T.length) (nI (p + 1)) true ac zs (nI told) := by rw [hH1, va_up_self]
  have s1 : H1 (b + 1) = oI 100 sc := by rw [hH1, va_up_ne _ _ (by omega)]; exact hs
  have r1 : H1 (b + 2) = oI 70 f := by rw [hH1, va_up_ne _ _ (by omega)]; exact hr
  have t1 : H1 (b + 8) = oL 3 th := by rw [hH1, va_up_ne _ _ (by omega)]; exact h8
  have e1 : ∀ k, k ≠ b → H1 k = G k := fun k hk => by rw [hH1, va_up_ne _ _ hk]
  clear hH1
  refine xs_aload_n dB_readTwin_5 rfl ?_
  refine xs_iconst (v := 3) dB_readTwin_6 (by decide) ?_
  refine xs_iconst (v := 1) dB_readTwin_7 (by decide) ?_
  refine xs_cV_ix (As := [_, _]) dB_readTwin_8 lkB_202 (by repeat (first | exact va_up_self _ _ _ | assumption | refine (va_up_ne _ _ (by omega)).trans ?_)) (k_B_index (hi:=3) (may:=true) c1 s1 hsc hT (by omega) (by decide)) rfl rfl (Nat.le_of_ble_eq_true rfl) ⟨by decide, by decide⟩ ⟨by omega, by omega⟩ ?_
  intro r1' H2 ⟨v1, p1, g1, d1, d2, d3, d4, d5, d6⟩
  subst d1
  have d6 := d6 rfl
  have c2 : H2 b = mCl b rf (nI T.length) (nI p1) g1 ac zs (nI told) := by rw [d3, va_up_self]
  have s2 : H2 (b + 1) = oI 100 sc := by rw [d3, va_up_ne _ _ (by omega)]; exact s1
  refine xs_istore_n (L2 := [(1, _), (0, _)]) dB_readTwin_11 (by decide) rfl ?_
  refine xs_aload_n dB_readTwin_12 rfl ?_
  refine xs_iconst (v := 3) dB_readTwin_13 (by decide) ?_
  refine xs_iconst (v := 1) dB_readTwin_14 (by decide) ?_
  refine xs_cV_ix (As := [_, _]) dB_readTwin_15 lkB_202 (by repeat (first | exact va_up_self _ _ _ | assumption | refine (va_up_ne _ _ (by omega)).trans ?_)) (k_B_index (hi:=3) (may:=true) c2 s2 hsc hT d4 (by decide)) rfl rfl (Nat.le_of_ble_eq_true rfl) ⟨by decide, by decide⟩ ⟨by omega, by omega⟩ ?_
  intro r2' H3 ⟨v2, p2, g2, m1, m2, m3, m4, m5, m6⟩
  subst m1
  have c3' : H3 b = mCl b rf (nI T.length) (nI p2) g2 ac zs (nI told) := by rw [m3, va_up_self]
  have s3' : H3 (b + 1) = oI 100 sc := by rw [m3, va_up_ne _ _ (by omega)]; exact s2
  obtain ⟨z1, z2⟩ := flag3 d2 m2
  have rest : ∀ may : Bool, may = !(decide (v1 = 0 ∧ v2 = 0)) → xS mB_readTwin n 0 0 (qVx n (fun H => rRes b rf ac zs T told (pTwin T (p + 1) W) G H)) xNo 34 [(2, .int (iI v2)), (1, .int (iI v1)), (0, .ref b)] [.int (bI may), .int 3, .ref b] n H3 0 0 := by
    intro may hmay
    refine xs_cV_ix (As := [_, _]) dB_readTwin_34 lkB_202 (by repeat (first | exact va_up_self _ _ _ | assumption | refine (va_up_ne _ _ (by omega)).trans ?_)) (k_B_index (hi:=3) (may:=may) c3' s3' hsc hT m4 (by decide)) rfl rfl (Nat.le_of_ble_eq_true rfl) ⟨by decide, by decide⟩ ⟨by omega, by omega⟩ ?_
    intro r3' H4 ⟨v3, p3, g3, n1, n2, n3, n4, n5, n6⟩
    subst n1
    have c4 : H4 b = mCl b rf (nI T.length) (nI p3) g3 ac zs (nI told) := by rw [n3, va_up_self]
    have e4 : ∀ k, k ≠ b → H4 k = G k := fun k hk => by rw [n3, va_up_ne _ _ hk, m3, va_up_ne _ _ hk, d3, va_up_ne _ _ hk]; exact e1 k hk
    have r4 : H4 (b + 2) = oI 70 f := by rw [e4 _ (by omega)]; exact hr
    have t4 : H4 (b + 8) = oL 3 th := by rw [e4 _ (by omega)]; exact h8
    have htrio : pIs T 3 3 [] (p + 1) = (if g3 = true then some [v1, v2, v3] else none, p3) := trio d6 m5 m6 n5 (fun hg => by
      have := n6 hg
      rw [hmay, Bool.not_not] at this
      exact this)
    refine xs_istore_n (L2 := [(3, _), (2, _), (1, _), (0, _)]) dB_readTwin_37 (by decide) rfl ?_
    refine xs_aload_n dB_readTwin_38 rfl ?_
    refine xs_get dB_readTwin_39 flB_183 (by repeat (first | exact va_up_self _ _ _ | assumption | refine (va_up_ne _ _ (by omega)).trans ?_)) rfl ?_
    refine xs_ifb_eq dB_readTwin_42 (fun h => ?_) (fun h => ?_)
    · rw [h, if_neg (by decide)] at htrio
      have hpt : pTwin T (p + 1) W = (none, p3) := by unfold pTwin; rw [htrio]
      refine xs_vret dB_readTwin_56 rfl (by omega) (by omega) ⟨rfl, rfl, ?_⟩
      rw [hpt]
      exact ⟨by rw [c4, h]; rfl, n4, ⟨f, r4⟩, (fun W2 e => by cases e), ⟨th, t4⟩, fun k h1 h2 h3 => e4 k h1⟩
    · rw [h, if_pos rfl] at htrio
      have hpt : pTwin T (p + 1) W = (some (zAim W (v1, v2, v3)), p3) := by unfold pTwin; rw [htrio]; rfl
      obtain ⟨a', b', c', hJ, hbd, hne⟩ := pIs_3 htrio
      simp only [List.cons.injEq, and_true] at hJ
      obtain ⟨rfl, rfl, rfl⟩ := hJ
      have hb4 : bd 4 (v1, v2, v3) := ⟨by show v1.natAbs < 4; omega, by show v2.natAbs < 4; omega, by show v3.natAbs < 4; omega⟩
      refine xs_aload_n dB_readTwin_45 rfl ?_
      refine xs_aload_n dB_readTwin_46 rfl ?_
      refine xs_get dB_readTwin_47 flB_13 (by repeat (first | exact va_up_self _ _ _ | assumption | refine (va_up_ne _ _ (by omega)).trans ?_)) rfl ?_
      refine xs_iload_n dB_readTwin_50 rfl ?_
      refine xs_iload_n dB_readTwin_51 rfl ?_
      refine xs_iload_n dB_readTwin_52 rfl ?_
      refine xs_cV_vx (As := [_, _, _, _]) dB_readTwin_53 lkB_206 (by repeat (first | exact va_up_self _ _ _ | assumption | refine (va_up_ne _ _ (by omega)).trans ?_)) (k_B_setPlane (r:=b+2) c4 t4 r4 ⟨by omega, by omega⟩ hf hb4) rfl rfl (Nat.le_of_ble_eq_true rfl) ⟨by decide, by decide⟩ ⟨by omega, by omega⟩ ?_
      intro H5 ⟨w1, ⟨f5, w2, w3⟩, w4⟩
      have hok2 : zOk (zAim W (v1, v2, v3)) := ⟨hok.1, hok.2.1, hok.2.2.1, hok.2.2.2.1, tOk_dv hb4 hne⟩
      refine xs_vret dB_readTwin_56 rfl (by omega) (by omega) ⟨rfl, rfl, ?_⟩
      rw [hpt]
      exact ⟨by rw [w4 _ (by omega) (by omega), c4, h]; rfl, n4, ⟨f5, w2⟩, fun W2 e => by cases e; exact ⟨f5, w2, w3, hok2⟩, w1, fun k h1 h2 h3 => (w4 k h2 h3).trans (e4 k h1)⟩
  refine xs_istore_n (L2 := [(2, _), (1, _), (0, _)]) dB_readTwin_18 (by decide) rfl ?_
  refine xs_aload_n dB_readTwin_19 rfl ?_
  refine xs_iconst (v := 3) dB_readTwin_20 (by decide) ?_
  refine xs_iload_n dB_readTwin_21 rfl ?_
  refine xs_if_ne dB_readTwin_22 (fun q => ?_) (fun q => ?_)
  · have hn : ¬ v1 = 0 := fun e => q (z1.mpr e)
    refine xs_iconst (v := 1) dB_readTwin_29 (by decide) ?_
    refine xs_goto dB_readTwin_30 ?_
    exact rest true (by rw [decide_eq_false (fun e => hn e.1)]; rfl)
  · have h1 := z1.mp q
    refine xs_iload_n dB_readTwin_25 rfl ?_
    refine xs_if_eq dB_readTwin_26 (fun q => ?_) (fun q => ?_)
    · have h2 := z2.mp q
      refine xs_iconst (v := 0) dB_readTwin_33 (by decide) ?_
      exact rest false (by rw [decide_eq_true ⟨h1, h2⟩]; rfl)
    · have hn : ¬ v2 = 0 := fun e => q (z2.mpr e)
      refine xs_iconst (v := 1) dB_readTwin_29 (by decide) ?_
      refine xs_goto dB_readTwin_30 ?_
      exact rest true (by rw [decide_eq_false (fun e => hn e.2)]; rfl)
theorem k_B_readFace (hc : G b = mCl b rf (nI T.length) (nI p) true ac zs (nI told)) (hs : G (b + 1) = oI 100 sc) (hsc : ∀ i c, T[i]? = some c → sc i = nI c) (hT : T.length ≤ 100 ∧ ∀ c ∈ T, c < 256) (hp : p < T.length) (htd : told ≤ 16) (hW : mRw G (b + 2) W) (h8 : G (b + 8) = oL 3 th) : xK mB_readFace [.ref b] n G 0 0 (qVx n (fun H => rRes b rf ac zs T (told + 1) (if told < 16 then pFace T (p + 1) W else (none, p)) G H)) xNo := by
  obtain ⟨f, hr, hf, hok⟩ := hW
  obtain ⟨RR, hRR⟩ : ∃ RR, RR = (if told < 16 then pFace T (p + 1) W else (none, p)) := ⟨_, rfl⟩
  rw [← hRR]
  -- behind the first test
  have go : ∀ (gd0 : Bool), gd0 = decide (told < 16) → xS mB_readFace n 0 0 (qVx n (fun H => rRes b rf ac zs T (told + 1) RR G H)) xNo 15 [(0, .ref b)] [.int (bI gd0), .ref b] n G 0 0 := by
    intro gd0 hgd0
    refine xs_cV_v (As := [_]) dB_readFace_15 lkB_189 (by repeat (first | exact va_up_self _ _ _ | assumption | refine (va_up_ne _ _ (by omega)).trans ?_)) (k_B_accept (is:=gd0) hc) rfl rfl (Nat.le_of_ble_eq_true rfl) ⟨by decide, by decide⟩ ⟨by omega, by omega⟩ ?_
    refine xs_aload_n dB_readFace_18 rfl ?_
    refine xs_dup dB_readFace_19 rfl ?_
    refine xs_get dB_readFace_20 flB_199 (by repeat (first | exact va_up_self _ _ _ | assumption | refine (va_up_ne _ _ (by omega)).trans ?_)) rfl ?_
    refine xs_iconst (v := 1) dB_readFace_23 (by decide) ?_
    refine xs_iadd dB_readFace_24 ?_
    rw [Bool.true_and, add1]
    refine xs_put dB_readFace_25 flB_199 ft8_22 (by repeat (first | exact va_up_self _ _ _ | assumption | refine (va_up_ne _ _ (by omega)).trans ?_)) (fun _ => rfl) (fun _ => rfl) (by simp) ?_
    rw [bx_uu]
    obtain ⟨p0, hp0⟩ : ∃ p0, p0 = (if gd0 = true then p + 1 else p) := ⟨_, rfl⟩
    rw [← hp0]
    have hp0l : p0 ≤ 100 := by rw [hp0]; split <;> omega
    obtain ⟨H1, hH1⟩ : ∃ H1, H1 = va_up G b (mCl b rf (nI T.length) (nI p0) gd0 ac zs (nI (told + 1))) := ⟨_, rfl⟩
    refine xs_at (H := H1) hH1.symm ?_
    have c1 : H1 b = mCl b rf (nI T.length) (nI p0) gd0 ac zs (nI (told + 1)) := by rw [hH1, va_up_self]
    have s1 : H1 (b + 1) = oI 100 sc := by rw [hH1, va_up_ne _ _ (by omega)]; exact hs
    have e1 : ∀ k, k ≠ b → H1 k = G k := fun k hk => by rw [hH1, va_up_ne _ _ hk]
    clear hH1
    refine xs_aload_n dB_readFace_28 rfl ?_
    refine xs_iconst (v := 0) dB_readFace_29 (by decide) ?_
    refine xs_iconst (v := 1) dB_readFace_30 (by decide) ?_
    refine xs_cV_ix (As := [_, _]) dB_readFace_31 lkB_196 (by repeat (first | exact va_up_self _ _ _ | assumption | refine (va_up_ne _ _ (by omega)).trans ?_)) (k_B_digit (lo:=0) (hi:=1) c1 s1 hsc hT hp0l (by decide) (by decide)) rfl rfl (Nat.le_of_ble_eq_true rfl) ⟨by decide, by decide⟩ ⟨by omega, by omega⟩ ?_
    intro r0' H2 ⟨v0, q0, g0, l1, l2, l3, l4, l5, l6⟩
    subst l1
    have c2 : H2 b = mCl b rf (nI T.length) (nI q0) g0 ac zs (nI (told + 1)) := by rw [l3, va_up_self]
    have s2 : H2 (b + 1) = oI 100 sc := by rw [l3, va_up_ne _ _ (by omega)]; exact s1
    have ht : bI true = 1 := rfl
    refine xs_istore_n (L2 := [(1, _), (0, _)]) dB_readFace_34 (by decide) rfl ?_
    refine xs_aload_n dB_readFace_35 rfl ?_
    refine xs_bipush (v := 9) dB_readFace_36 (by decide) ?_
    refine xs_iconst (v := 1) dB_readFace_38 (by decide) ?_
    refine xs_cV_ix (As := [_, _]) dB_readFace_39 lkB_202 (by repeat (first | exact va_up_self _ _ _ | assumption | refine (va_up_ne _ _ (by omega)).trans ?_)) (k_B_index (hi:=9) (may:=true) c2 s2 hsc hT l4 (by decide)) rfl rfl (Nat.le_of_ble_eq_true rfl) ⟨by decide, by decide⟩ ⟨by omega, by omega⟩ ?_
    intro r1' H3 ⟨v1, p1, g1, d1, d2, d3, d4, d5, d6⟩
    subst d1
    have c3' : H3 b = mCl b rf (nI T.length) (nI p1) g1 ac zs (nI (told + 1)) := by rw [d3, va_up_self]
    have s3' : H3 (b + 1) = oI 100 sc := by rw [d3, va_up_ne _ _ (by omega)]; exact s2
    refine xs_istore_n (L2 := [(2, _), (1, _), (0, _)]) dB_readFace_42 (by decide) rfl ?_
    refine xs_aload_n dB_readFace_43 rfl ?_
    refine xs_bipush (v := 9) dB_readFace_44 (by decide) ?_
    refine xs_iconst (v := 1) dB_readFace_46 (by decide) ?_
    refine xs_cV_ix (As := [_, _]) dB_readFace_47 lkB_202 (by repeat (first | exact va_up_self _ _ _ | assumption | refine (va_up_ne _ _ (by omega)).trans ?_)) (k_B_index (hi:=9) (may:=true) c3' s3' hsc hT d4 (by decide)) rfl rfl (Nat.le_of_ble_eq_true rfl) ⟨by decide, by decide⟩ ⟨by omega, by omega⟩ ?_
    intro r2' H4 ⟨v2, p2, g2, m1, m2, m3, m4, m5, m6⟩
    subst m1
    have c4 : H4 b = mCl b rf (nI T.length) (nI p2) g2 ac zs (nI (told + 1)) := by rw [m3, va_up_self]
    have s4 : H4 (b + 1) = oI 100 sc := by rw [m3, va_up_ne _ _ (by omega)]; exact s3'
    obtain ⟨z1, z2⟩ := flag3 d2 m2
    have rest : ∀ may : Bool, may = !(decide (v1 = 0 ∧ v2 = 0)) → xS mB_readFace n 0 0 (qVx n (fun H => rRes b rf ac zs T (told + 1) RR G H)) xNo 67 [(3, .int (iI v2)), (2, .int (iI v1)), (1, .int (nI v0)), (0, .ref b)] [.int (bI may), .int 9, .ref b] n H4 0 0 := by
      intro may hmay
      refine xs_cV_ix (As := [_, _]) dB_readFace_67 lkB_202 (by repeat (first | exact va_up_self _ _ _ | assumption | refine (va_up_ne _ _ (by omega)).trans ?_)) (k_B_index (hi:=9) (may:=may) c4 s4 hsc hT m4 (by decide)) rfl rfl (Nat.le_of_ble_eq_true rfl) ⟨by decide, by decide⟩ ⟨by omega, by omega⟩ ?_
      intro r3' H5 ⟨v3, p3, g3, n1, n2, n3, n4, n5, n6⟩
      subst n1
      have c5 : H5 b = mCl b rf (nI T.length) (nI p3) g3 ac zs (nI (told + 1)) := by rw [n3, va_up_self]
      have e5 : ∀ k, k ≠ b → H5 k = G k := fun k hk => by rw [n3, va_up_ne _ _ hk, m3, va_up_ne _ _ hk, d3, va_up_ne _ _ hk, l3, va_up_ne _ _ hk]; exact e1 k hk
      have r5 : H5 (b + 2) = oI 70 f := by rw [e5 _ (by omega)]; exact hr
      have t5 : H5 (b + 8) = oL 3 th := by rw [e5 _ (by omega)]; exact h8
      have bad : g3 = false → RR = (none, p3) → rRes b rf ac zs T (told + 1) RR G H5 := fun hg hR => by
        rw [hR]
        exact ⟨by rw [c5, hg]; rfl, n4, ⟨f, r5⟩, (fun W2 e => by cases e), ⟨th, t5⟩, fun k h1 h2 h3 => e5 k h1⟩
      refine xs_istore (L2 := [(4, _), (3, _), (2, _), (1, _), (0, _)]) dB_readFace_70 (by decide) rfl ?_
      refine xs_aload_n dB_readFace_72 rfl ?_
      refine xs_get dB_readFace_73 flB_183 (by repeat (first | exact va_up_self _ _ _ | assumption | refine (va_up_ne _ _ (by omega)).trans ?_)) rfl ?_
      cases hg0 : gd0 with
      | false =>
        obtain ⟨w1, w2⟩ := l5 hg0
        obtain ⟨w3, w4⟩ := d5 w1
        obtain ⟨w5, w6⟩ := m5 w3
        obtain ⟨w7, w8⟩ := n5 w5
        have hnt : ¬ told < 16 := of_decide_eq_false (hgd0.symm.trans hg0)
        rw [if_neg hnt] at hRR
        have hpp : p3 = p := by rw [w8, w6, w4, w2, hp0, hg0, if_neg (by decide)]
        refine xs_ifb_eq dB_readFace_76 (fun h => ?_) (fun h => absurd (h.symm.trans w7) (by decide))
        exact xs_vret dB_readFace_93 rfl (by omega) (by omega) ⟨rfl, rfl, bad w7 (by rw [hRR, hpp])⟩
      | true =>
        have htl : told < 16 := of_decide_eq_true (hgd0.symm.trans hg0)
        rw [if_pos htl] at hRR
        have hp1 : p0 = p + 1 := by rw [hp0, hg0, if_pos rfl]
        have l6 := l6 hg0
        rw [hp1] at l6
        rcases l6 with ⟨o1, o2, o3⟩ | ⟨o1, o2, o3⟩
        · have d6 := d6 o2
          rw [o3] at d6
          have htrio : pIs T 9 3 [] (p + 1 + 1) = (if g3 = true then some [v1, v2, v3] else none, p3) := trio d6 m5 m6 n5 (fun hg => by
            have := n6 hg
            rw [hmay, Bool.not_not] at this
            exact this)
          refine xs_ifb_eq dB_readFace_76 (fun h => ?_) (fun h => ?_)
          · rw [h, if_neg (by decide)] at htrio
            exact xs_vret dB_readFace_93 rfl (by omega) (by omega) ⟨rfl, rfl, bad h (by rw [hRR]; unfold pFace; rw [o1]; simp only [htrio])⟩
          · rw [h, if_pos rfl] at htrio
            have hpf : RR = (some (zPut W (v1, v2, v3) (v0 : Int)), p3) := by
              rw [hRR]
              unfold pFace
              rw [o1]
              simp only [htrio]
              rfl
            obtain ⟨a', b', c', hJ, hbd, hne⟩ := pIs_3 htrio
            simp only [List.cons.injEq, and_true] at hJ
            obtain ⟨rfl, rfl, rfl⟩ := hJ
            have hb10 : bd 10 (v1, v2, v3) := ⟨by show v1.natAbs < 10; omega, by show v2.natAbs < 10; omega, by show v3.natAbs < 10; omega⟩
            have hv01 := (pDig_lt o1).2.2.1
            rw [iI_nat v0]
            refine xs_aload_n dB_readFace_79 rfl ?_
            refine xs_aload_n dB_readFace_80 rfl ?_
            refine xs_get dB_readFace_81 flB_13 (by repeat (first | exact va_up_self _ _ _ | assumption | refine (va_up_ne _ _ (by omega)).trans ?_)) rfl ?_
            refine xs_iload_n dB_readFace_84 rfl ?_
            refine xs_iload_n dB_readFace_85 rfl ?_
            refine xs_iload dB_readFace_86 rfl ?_
            refine xs_iload_n dB_readFace_88 rfl ?_
            refine xs_cV_ix (As := [_, _, _, _, _]) dB_readFace_89 lkB_164 (by repeat (first | exact va_up_self _ _ _ | assumption | refine (va_up_ne _ _ (by omega)).trans ?_)) (k_B_adds (r:=b+2) (s:=(v0 : Int)) c5 t5 r5 ⟨by omega, by omega⟩ hok hf hb10 (by omega)) rfl rfl (Nat.le_of_ble_eq_true rfl) ⟨by decide, by decide⟩ ⟨by omega, by omega⟩ ?_
            intro q H6 ⟨_, w1, ⟨f6, w2, w3⟩, w4, w5⟩
            refine xs_pop dB_readFace_92 rfl ?_
            refine xs_vret dB_readFace_93 rfl (by omega) (by omega) ⟨rfl, rfl, ?_⟩
            rw [hpf]
            exact ⟨by rw [w5 _ (by omega) (by omega), c5, h]; rfl, n4, ⟨f6, w2⟩, fun W2 e => by cases e; exact ⟨f6, w2, w3, w4⟩, w1, fun k h1 h2 h3 => (w5 k h2 h3).trans (e5 k h1)⟩
        · obtain ⟨w3, w4⟩ := d5 o2
          obtain ⟨w5, w6⟩ := m5 w3
          obtain ⟨w7, w8⟩ := n5 w5
          have hpp : p3 = p + 1 := by rw [w8, w6, w4, o3]
          refine xs_ifb_eq dB_readFace_76 (fun h => ?_) (fun h => absurd (h.symm.trans w7) (by decide))
          exact xs_vret dB_readFace_93 rfl (by omega) (by omega) ⟨rfl, rfl, bad w7 (by rw [hRR]; unfold pFace; rw [o1, hpp])⟩
    refine xs_istore_n (L2 := [(3, _), (2, _), (1, _), (0, _)]) dB_readFace_50 (by decide) rfl ?_
    refine xs_aload_n dB_readFace_51 rfl ?_
    refine xs_bipush (v := 9) dB_readFace_52 (by decide) ?_
    refine xs_iload_n dB_readFace_54 rfl ?_
    refine xs_if_ne dB_readFace_55 (fun q => ?_) (fun q => ?_)
    · have hn : ¬ v1 = 0 := fun e => q (z1.mpr e)
      refine xs_iconst (v := 1) dB_readFace_62 (by decide) ?_
      refine xs_goto dB_readFace_63 ?_
      exact rest true (by rw [decide_eq_false (fun e => hn e.1)]; rfl)
    · have h1 := z1.mp q
      refine xs_iload_n dB_readFace_58 rfl ?_
      refine xs_if_eq dB_readFace_59 (fun q => ?_) (fun q => ?_)
      · have h2 := z2.mp q
        refine xs_iconst (v := 0) dB_readFace_66 (by decide) ?_
        exact rest false (by rw [decide_eq_true ⟨h1, h2⟩]; rfl)
      · have hn : ¬ v2 = 0 := fun e => q (z2.mpr e)
        refine xs_iconst (v := 1) dB_readFace_62 (by decide) ?_
        refine xs_goto dB_readFace_63 ?_
        exact rest true (by rw [decide_eq_false (fun e => hn e.2)]; rfl)
  refine xK_of2 (L0 := [(0, _)]) (by decide +kernel) rfl (Nat.le_of_ble_eq_true rfl) rfl ?_
  refine xs_aload_n dB_readFace_0 rfl ?_
  refine xs_aload_n dB_readFace_1 rfl ?_
  refine xs_get dB_readFace_2 flB_199 (by repeat (first | exact va_up_self _ _ _ | assumption | refine (va_up_ne _ _ (by omega)).trans ?_)) rfl ?_
  refine xs_bipush (v := 16) dB_readFace_5 (by decide) ?_
  refine xs_icmp_ge dB_readFace_7 (fun q => ?_) (fun q => ?_)
  · have h9 := (nI_leI (a := 16) (by decide) (by omega)).mp q
    refine xs_iconst (v := 0) dB_readFace_14 (by decide) ?_
    exact go false (by rw [decide_eq_false (by omega)])
  · have h9 : told < 16 := nI_lt_of (b := 16) (by omega) (by decide) q
    refine xs_iconst (v := 1) dB_readFace_10 (by decide) ?_
    refine xs_goto dB_readFace_11 ?_
    exact go true (by rw [decide_eq_true h9])
end N3
