def mTx (G : xG) (b : Nat) (T : List Nat) : Prop := ∃ sc, G (b + 1) = oI 100 sc ∧ (∀ i c, T[i]? = some c → sc i = nI c) ∧ T.length ≤ 100 ∧ ∀ c ∈ T, c < 256
def mRw (G : xG) (r : Nat) (V : zV) : Prop := ∃ f, G r = oI 70 f ∧ mrow f V ∧ zOk V
def mAr (G : xG) (r : Nat) : Prop := ∃ f, G r = oI 70 f
def mDi (G : xG) (b : Nat) (A : List zV) : Prop := ∃ di, G (b + 5) = oI 980 di ∧ A.length ≤ 14 ∧ ∀ i W, A[i]? = some W → mrow (fun j => di (70 * (A.length - 1 - i) + j)) W ∧ zOk W
def mKp (G : xG) (b : Nat) (O : Option zV × Option zV) : Prop := ∃ kp ik, G (b + 6) = oI 140 kp ∧ G (b + 7) = oB 2 ik ∧ (ik 0 = bI O.1.isSome ∧ ik 1 = bI O.2.isSome) ∧ (∀ W, O.1 = some W → mrow kp W ∧ zOk W) ∧ ∀ W, O.2 = some W → mrow (fun j => kp (70 + j)) W ∧ zOk W
def mGr (G : xG) (b : Nat) : Prop := (∃ x, G (b + 13) = oB 125 x) ∧ (∃ x, G (b + 14) = oI 125 x) ∧ (∃ x, G (b + 15) = oB 4913 x) ∧ ∃ x, G (b + 16) = oI 4913 x
def mCe (G : xG) (b : Nat) (rf : Int32) (T : List Nat) (A : List zV) : Prop := ∃ sp gd zs ft, G b = mCl b rf (nI T.length) sp gd (nI A.length) zs ft
/-- the reference's object with all that it holds, at b .. b + 16 -/
def mdx (G : xG) (b : Nat) (rf : Int32) (T : List Nat) (V : zV) (A : List zV) (O : Option zV × Option zV) : Prop :=
  mCe G b rf T A ∧ mTx G b T ∧ mAr G (b + 2) ∧ mRw G (b + 3) V ∧ mAr G (b + 4) ∧ mDi G b A ∧ mKp G b O ∧ mwk G b ∧ mGr G b
def mdo (G : xG) (b : Nat) (rf : Int32) (S : zS) : Prop := mdx G b rf S.1 S.2.1 S.2.2.1 S.2.2.2
theorem mTx_fr {G H : xG} {b : Nat} {T : List Nat} (h : mTx G b T) (hf : H (b + 1) = G (b + 1)) : mTx H b T := by
  obtain ⟨sc, q⟩ := h
  exact ⟨sc, by rw [hf]; exact q.1, q.2⟩
theorem mRw_fr {G H : xG} {r : Nat} {V : zV} (h : mRw G r V) (hf : H r = G r) : mRw H r V := by
  obtain ⟨f, q⟩ := h
  exact ⟨f, by rw [hf]; exact q.1, q.2⟩
theorem mAr_fr {G H : xG} {r : Nat} (h : mAr G r) (hf : H r = G r) : mAr H r := by
  obtain ⟨f, q⟩ := h
  exact ⟨f, by rw [hf]; exact q⟩
theorem mDi_fr {G H : xG} {b : Nat} {A : List zV} (h : mDi G b A) (hf : H (b + 5) = G (b + 5)) : mDi H b A := by
  obtain ⟨di, q⟩ := h
  exact ⟨di, by rw [hf]; exact q.1, q.2⟩
theorem mKp_fr {G H : xG} {b : Nat} {O : Option zV × Option zV} (h : mKp G b O) (hf : H (b + 6) = G (b + 6)) (hf2 : H (b + 7) = G (b + 7)) : mKp H b O := by
  obtain ⟨kp, ik, q, q2, q3⟩ := h
  exact ⟨kp, ik, by rw [hf]; exact q, by rw [hf2]; exact q2, q3⟩
theorem mwk_fr {G H : xG} {b : Nat} (h : mwk G b) (hf : ∀ k, b + 8 ≤ k → k < b + 13 → H k = G k) : mwk H b := by
  obtain ⟨⟨a1, h1⟩, ⟨a2, h2⟩, ⟨a3, h3⟩, ⟨a4, h4⟩, ⟨a5, h5⟩⟩ := h
  exact ⟨⟨a1, by rw [hf _ (by omega) (by omega)]; exact h1⟩, ⟨a2, by rw [hf _ (by omega) (by omega)]; exact h2⟩, ⟨a3, by rw [hf _ (by omega) (by omega)]; exact h3⟩, ⟨a4, by rw [hf _ (by omega) (by omega)]; exact h4⟩, ⟨a5, by rw [hf _ (by omega) (by omega)]; exact h5⟩⟩
theorem mGr_fr {G H : xG} {b : Nat} (h : mGr G b) (hf : ∀ k, b + 13 ≤ k → k < b + 17 → H k = G k) : mGr H b := by
  obtain ⟨⟨a1, h1⟩, ⟨a2, h2⟩, ⟨a3, h3⟩, ⟨a4, h4⟩⟩ := h
  exact ⟨⟨a1, by rw [hf _ (by omega) (by omega)]; exact h1⟩, ⟨a2, by rw [hf _ (by omega) (by omega)]; exact h2⟩, ⟨a3, by rw [hf _ (by omega) (by omega)]; exact h3⟩, ⟨a4, by rw [hf _ (by omega) (by omega)]; exact h4⟩⟩
theorem mwk_of {H : xG} {b : Nat} {V : zV} (h : mlz H b V) : mwk H b := by
  obtain ⟨h1, ⟨wy, h2, _⟩, ⟨ax, mn, wh, h3, h4, h5, _⟩, _⟩ := h
  exact ⟨h1, ⟨wy, h2⟩, ⟨ax, h3⟩, ⟨mn, h4⟩, ⟨wh, h5⟩⟩
theorem mrow_cp {f g : Nat → Int32} {V : zV} (h : mrow f V) (hl : V.1.length ≤ 16) (hg : ∀ j, j < 70 → g j = f j) : mrow g V := by
  obtain ⟨⟨f0, f1, f2, f3, f4, f5⟩, hff⟩ := h
  refine ⟨⟨by rw [hg _ (by decide)]; exact f0, by rw [hg _ (by decide)]; exact f1, by rw [hg _ (by decide)]; exact f2, by rw [hg _ (by decide)]; exact f3, by rw [hg _ (by decide)]; exact f4, by rw [hg _ (by decide)]; exact f5⟩, fun i c hc => ?_⟩
  have hi := (List.getElem?_eq_some_iff.mp hc).1
  rw [hg _ (by omega), hg _ (by omega), hg _ (by omega), hg _ (by omega)]
  exact hff i c hc
section N0
variable {n b : Nat} {G : xG} {rf : Int32} {T : List Nat} {V : zV} {A : List zV} {O : Option zV × Option zV} {S : zS}
abbrev bPost (n b : Nat) (G : xG) (R : zQ) : Option Value → Nat → xG → Prop := qIx n (fun q H => (R.1 = 0 → q = iI R.2.1) ∧ mdo H b (nI R.1) R.2.2 ∧ xfr b (b + 17) G H)
theorem bOk {R : zQ} {z : Int} {S2 : zS} {H : xG} {r : Int32} (hR : R = (0, z, S2)) (hr : r = iI z) (h : mdo H b (nI 0) S2) (hf : xfr b (b + 17) G H) : bPost n b G R (some (.int r)) n H := by
  subst hR
  subst hr
  exact ⟨_, rfl, rfl, fun _ => rfl, h, hf⟩
theorem bNo {R : zQ} {w : Nat} {S2 : zS} {H : xG} {r : Int32} (hR : R = (w, 0, S2)) (hw : 0 < w) (h : mdo H b (nI w) S2) (hf : xfr b (b + 17) G H) : bPost n b G R (some (.int r)) n H := by
  subst hR
  exact ⟨_, rfl, rfl, fun e => absurd e (by show ¬ w = 0; omega), h, hf⟩
/-- the number of the refusal is set; all else stays -/
theorem mdx_rf {w : Int32} {sp zs ft : Int32} {gd : Bool} (h : mdx G b rf T V A O) : mdx (va_up G b (mCl b w (nI T.length) sp gd (nI A.length) zs ft)) b w T V A O := by
  obtain ⟨_, h1, h2, h3, h4, h5, h6, h7, h8⟩ := h
  exact ⟨⟨sp, gd, zs, ft, va_up_self _ _ _⟩, mTx_fr h1 (va_up_ne _ _ (by omega)), mAr_fr h2 (va_up_ne _ _ (by omega)), mRw_fr h3 (va_up_ne _ _ (by omega)), mAr_fr h4 (va_up_ne _ _ (by omega)), mDi_fr h5 (va_up_ne _ _ (by omega)), mKp_fr h6 (va_up_ne _ _ (by omega)) (va_up_ne _ _ (by omega)), mwk_fr h7 (fun k _ _ => va_up_ne _ _ (by omega)), mGr_fr h8 (fun k _ _ => va_up_ne _ _ (by omega))⟩
theorem rf_fr {e : va_E} : xfr b (b + 17) G (va_up G b e) := xfr_up xfr_rf (by omega) (by omega)
/-- what is laid and tried changes, and perhaps the present row -/
theorem mdx_n {H : xG} {V2 : zV} {rf2 : Int32} (h : mdx G b rf T V A O) (hc : mCe H b rf2 T A) (h2 : mAr H (b + 2)) (h3 : mRw H (b + 3) V2) (h4 : mAr H (b + 4)) (h7 : mwk H b) (h8 : mGr H b) (hf : H (b + 1) = G (b + 1) ∧ H (b + 5) = G (b + 5) ∧ H (b + 6) = G (b + 6) ∧ H (b + 7) = G (b + 7)) : mdx H b rf2 T V2 A O := by
  obtain ⟨_, k1, _, _, _, k5, k6, _, _⟩ := h
  exact ⟨hc, mTx_fr k1 hf.1, h2, h3, h4, mDi_fr k5 hf.2.1, mKp_fr k6 hf.2.2.1 hf.2.2.2, h7, h8⟩
/-- zones have been laid -/
theorem mdx_z {H : xG} (h : mdx G b rf T V A O) (hc : mCe H b rf T A) (hw : mwk H b) (hf : mfr b G H) : mdx H b rf T V A O := by
  obtain ⟨_, _, k2, k3, k4, _, _, _, k8⟩ := id h
  exact mdx_n h hc (mAr_fr k2 (hf _ (by omega) (by omega))) (mRw_fr k3 (hf _ (by omega) (by omega))) (mAr_fr k4 (hf _ (by omega) (by omega))) hw (mGr_fr k8 (fun k _ _ => hf k (by omega) (by omega))) ⟨hf _ (by omega) (by omega), hf _ (by omega) (by omega), hf _ (by omega) (by omega), hf _ (by omega) (by omega)⟩
theorem mfr_x {H : xG} (h : mfr b G H) : xfr b (b + 17) G H := fun k hk => h k (by omega) (by omega)
/-- the present row has changed, and the three numbers -/
theorem mdx_p {H : xG} {V2 : zV} (h : mdx G b rf T V A O) (h8 : ∃ th, H (b + 8) = oL 3 th) (h3 : mRw H (b + 3) V2) (hf : rfr b (b + 3) G H) : mdx H b rf T V2 A O := by
  obtain ⟨⟨sp, gd, zs, ft, k0⟩, k1, k2, k3, k4, k5, k6, ⟨_, ⟨a2, w2⟩, ⟨a3, w3⟩, ⟨a4, w4⟩, ⟨a5, w5⟩⟩, kg⟩ := id h
  exact ⟨⟨sp, gd, zs, ft, by rw [hf _ (by omega) (by omega)]; exact k0⟩, mTx_fr k1 (hf _ (by omega) (by omega)), mAr_fr k2 (hf _ (by omega) (by omega)), h3, mAr_fr k4 (hf _ (by omega) (by omega)), mDi_fr k5 (hf _ (by omega) (by omega)), mKp_fr k6 (hf _ (by omega) (by omega)) (hf _ (by omega) (by omega)), ⟨h8, ⟨a2, by rw [hf _ (by omega) (by omega)]; exact w2⟩, ⟨a3, by rw [hf _ (by omega) (by omega)]; exact w3⟩, ⟨a4, by rw [hf _ (by omega) (by omega)]; exact w4⟩, ⟨a5, by rw [hf _ (by omega) (by omega)]; exact w5⟩⟩, mGr_fr kg (fun k _ _ => hf k (by omega) (by omega))⟩
theorem rfr_x {H : xG} {r : Nat} (h : rfr b r G H) (hr : b < r ∧ r < b + 8) : xfr b (b + 17) G H := fun k hk => h k (by omega) (by omega)
/-- the row that is tried has changed, and the three numbers -/
theorem mdx_t {H : xG} (h : mdx G b rf T V A O) (h8 : ∃ th, H (b + 8) = oL 3 th) (h4 : mAr H (b + 4)) (hf : rfr b (b + 4) G H) : mdx H b rf T V A O := by
  obtain ⟨⟨sp, gd, zs, ft, k0⟩, k1, k2, k3, k4, k5, k6, ⟨_, ⟨a2, w2⟩, ⟨a3, w3⟩, ⟨a4, w4⟩, ⟨a5, w5⟩⟩, kg⟩ := id h
  exact ⟨⟨sp, gd, zs, ft, by rw [hf _ (by omega) (by omega)]; exact k0⟩, mTx_fr k1 (hf _ (by omega) (by omega)), mAr_fr k2 (hf _ (by omega) (by omega)), mRw_fr k3 (hf _ (by omega) (by omega)), h4, mDi_fr k5 (hf _ (by omega) (by omega)), mKp_fr k6 (hf _ (by omega) (by omega)) (hf _ (by omega) (by omega)), ⟨h8, ⟨a2, by rw [hf _ (by omega) (by omega)]; exact w2⟩, ⟨a3, by rw [hf _ (by omega) (by omega)]; exact w3⟩, ⟨a4, by rw [hf _ (by omega) (by omega)]; exact w4⟩, ⟨a5, by rw [hf _ (by omega) (by omega)]; exact w5⟩⟩, mGr_fr kg (fun k _ _ => hf k (by omega) (by omega))⟩
theorem k_B_begin (h : mdx G b rf T V A O) : xK mB_begin [.ref b] n G 0 0 (qVx n (fun H => mdx H b rf T V A O ∧ mRw H (b + 4) V ∧ ∀ k, k ≠ b + 4 → H k = G k)) xNo := by
  obtain ⟨⟨sp, gd, zs, ft, hc⟩, _, _, ⟨f, hr, hf, hV⟩, ⟨g, ht⟩, _⟩ := id h
  refine xK_of2 (L0 := [(0, _)]) (by decide +kernel) rfl (Nat.le_of_ble_eq_true rfl) rfl ?_
  refine xs_aload_n dB_begin_0 rfl ?_
  refine xs_get dB_begin_1 flB_16 (by repeat (first | exact va_up_self _ _ _ | assumption | refine (va_up_ne _ _ (by omega)).trans ?_)) rfl ?_
  refine xs_iconst (v := 0) dB_begin_4 (by decide) ?_
  refine xs_aload_n dB_begin_5 rfl ?_
  refine xs_get dB_begin_6 flB_19 (by repeat (first | exact va_up_self _ _ _ | assumption | refine (va_up_ne _ _ (by omega)).trans ?_)) rfl ?_
  refine xs_iconst (v := 0) dB_begin_9 (by decide) ?_
  refine xs_bipush (v := 70) dB_begin_10 (by decide) ?_
  refine xs_cS_vx (As := [_, _, _, _, _]) dB_begin_12 lkB_77 (k_B_copy (fa:=0) (ta:=0) (m:=70) hr ht (by omega) (by omega) (by omega) (by omega) (by omega)) rfl rfl (Nat.le_of_ble_eq_true rfl) ⟨by decide, by decide⟩ ⟨by omega, by omega⟩ ?_
  intro H ⟨g2, hH, h1, h2⟩
  have hT : mRw H (b + 4) V := ⟨g2, by rw [hH, va_up_self], mrow_cp hf hV.1 (fun j hj => by have := h1 j hj; simpa using this), hV⟩
  have hfr : ∀ k, k ≠ b + 4 → H k = G k := fun k hk => by rw [hH, va_up_ne _ _ hk]
  have h8 : ∃ th, H (b + 8) = oL 3 th := by
    obtain ⟨_, _, _, _, _, _, _, ⟨⟨th, w⟩, _⟩, _⟩ := h
    exact ⟨th, by rw [hfr _ (by omega)]; exact w⟩
  exact xs_vret dB_begin_15 rfl (by omega) (by omega) ⟨rfl, rfl, mdx_t h h8 ⟨g2, by rw [hH, va_up_self]⟩ (fun k h1 _ => hfr k h1), hT, hfr⟩
theorem k_B_note (h : mdx G b rf T V A O) : xK mB_note [.ref b] n G 0 0 (qVx n (fun H => mdx H b rf T V (hPush A V) O ∧ xfr b (b + 17) G H)) xNo := by
  obtain ⟨⟨sp, gd, zs, ft, hc⟩, k1, k2, ⟨f, hr, hf, hV⟩, k4, ⟨di, hdi, hA, hrow⟩, k6, k7, k8⟩ := id h
  have rest : ∀ (H : xG) (a : Nat) (d2 : Nat → Int32), a ≤ 13 → H b = mCl b rf (nI T.length) sp gd (nI a) zs ft → H (b + 5) = oI 980 d2 → (∀ k, k ≠ b → k ≠ b + 5 → H k = G k) → a + 1 = (hPush A V).length → (∀ i W, (hPush A V)[i + 1]? = some W → mrow (fun j => d2 (70 * (a - (i + 1)) + j)) W ∧ zOk W ∧ i + 1 ≤ a) →
      xS mB_note n 0 0 (qVx n (fun H => mdx H b rf T V (hPush A V) O ∧ xfr b (b + 17) G H)) xNo 36 [(0, .ref b)] [] n H 0 0 := by
    intro H a d2 ha hcH h5 hfr hlen hrw
    have hrH : H (b + 3) = oI 70 f := by rw [hfr _ (by omega) (by omega)]; exact hr
    have e70 : (70 : Int32) * nI a = nI (70 * a) := (Int32.ofNat_mul 70 a).symm
    refine xs_aload_n dB_note_36 rfl ?_
    refine xs_get dB_note_37 flB_16 (by repeat (first | exact va_up_self _ _ _ | assumption | refine (va_up_ne _ _ (by omega)).trans ?_)) rfl ?_
    refine xs_iconst (v := 0) dB_note_40 (by decide) ?_
    refine xs_aload_n dB_note_41 rfl ?_
    refine xs_get dB_note_42 flB_22 (by repeat (first | exact va_up_self _ _ _ | assumption | refine (va_up_ne _ _ (by omega)).trans ?_)) rfl ?_
    refine xs_bipush (v := 70) dB_note_45 (by decide) ?_
    refine xs_aload_n dB_note_47 rfl ?_
    refine xs_get dB_note_48 flB_74 (by repeat (first | exact va_up_self _ _ _ | assumption | refine (va_up_ne _ _ (by omega)).trans ?_)) rfl ?_
    refine xs_imul dB_note_51 ?_
    rw [e70]
    refine xs_bipush (v := 70) dB_note_52 (by decide) ?_
    refine xs_cS_vx (As := [_, _, _, _, _]) dB_note_54 lkB_77 (k_B_copy (fa:=0) (ta:=70 * a) (m:=70) hrH h5 (by omega) (by omega) (by omega) (by omega) (by omega)) rfl rfl (Nat.le_of_ble_eq_true rfl) ⟨by decide, by decide⟩ ⟨by omega, by omega⟩ ?_
    intro H2 ⟨g2, hH2, h1, h2⟩
    have hc2 : H2 b = mCl b rf (nI T.length) sp gd (nI a) zs ft := by rw [hH2, va_up_ne _ _ (by omega)]; exact hcH
    refine xs_aload_n dB_note_57 rfl ?_
    refine xs_dup dB_note_58 rfl ?_
    refine xs_get dB_note_59 flB_74 (by repeat (first | exact va_up_self _ _ _ | assumption | refine (va_up_ne _ _ (by omega)).trans ?_)) rfl ?_
    refine xs_iconst (v := 1) dB_note_62 (by decide) ?_
    refine xs_iadd dB_note_63 ?_
    rw [add1]
    refine xs_put dB_note_64 flB_74 ft8_9 (by repeat (first | exact va_up_self _ _ _ | assumption | refine (va_up_ne _ _ (by omega)).trans ?_)) (fun _ => rfl) (fun _ => rfl) (by simp) ?_
    have hfr2 : ∀ k, k ≠ b → k ≠ b + 5 → (va_up H2 b (mCl b rf (nI T.length) sp gd (nI (a + 1)) zs ft)) k = G k := fun k q1 q2 => by rw [va_up_ne _ _ q1, hH2, va_up_ne _ _ q2]; exact hfr k q1 q2
    refine xs_vret dB_note_67 rfl (by omega) (by omega) ⟨rfl, rfl, ⟨⟨sp, gd, zs, ft, by rw [va_up_self, hlen]; rfl⟩, mTx_fr k1 (hfr2 _ (by omega) (by omega)), mAr_fr k2 (hfr2 _ (by omega) (by omega)), ⟨f, (hfr2 _ (by omega) (by omega)).trans hr, hf, hV⟩, mAr_fr k4 (hfr2 _ (by omega) (by omega)), ⟨g2, by rw [va_up_ne _ _ (by omega), hH2, va_up_self], by omega, fun i W hW => ?_⟩, mKp_fr k6 (hfr2 _ (by omega) (by omega)) (hfr2 _ (by omega) (by omega)), mwk_fr k7 (fun k _ _ => hfr2 _ (by omega) (by omega)), mGr_fr k8 (fun k _ _ => hfr2 _ (by omega) (by omega))⟩, fun k hk => hfr2 k (by omega) (by omega)⟩
    have hil := (List.getElem?_eq_some_iff.mp hW).1
    rw [← hlen, Nat.add_sub_cancel]
    cases i with
    | zero =>
      have hW2 : W = V := by
        have : (hPush A V)[0]? = some V := by
          unfold hPush
          rw [List.getElem?_take, if_pos (by decide)]
          rfl
        rw [this] at hW
        cases hW
        rfl
      subst hW2
      exact ⟨mrow_cp hf hV.1 (fun j hj => by have := h1 j hj; simpa using this), hV⟩
    | succ i =>
      obtain ⟨w1, w2, w3⟩ := hrw i W hW
      refine ⟨mrow_cp w1 w2.1 (fun j hj => ?_), w2⟩
      exact h2 _ (Or.inl (by omega))
  refine xK_of2 (L0 := [(0, _)]) (by decide +kernel) rfl (Nat.le_of_ble_eq_true rfl) rfl ?_
  refine xs_aload_n dB_note_0 rfl ?_
  refine xs_get dB_note_1 flB_74 (by repeat (first | exact va_up_self _ _ _ | assumption | refine (va_up_ne _ _ (by omega)).trans ?_)) rfl ?_
  refine xs_bipush (v := 14) dB_note_4 (by decide) ?_
  refine xs_icmp_ne dB_note_6 (fun q => ?_) (fun q => ?_)
  · have hlt : A.length < 14 := by
      rcases Nat.lt_or_ge A.length 14 with e | e
      · exact e
      · exact absurd (by rw [show A.length = 14 by omega]; rfl) q
    have hp : hPush A V = V :: A := by
      unfold hPush
      exact List.take_of_length_le (by rw [List.length_cons]; omega)
    refine rest G A.length di (by omega) hc hdi (fun _ _ _ => rfl) (by rw [hp, List.length_cons]) (fun i W hW => ?_)
    rw [hp, List.getElem?_cons_succ] at hW
    have hil := (List.getElem?_eq_some_iff.mp hW).1
    obtain ⟨w1, w2⟩ := hrow i W hW
    rw [show A.length - 1 - i = A.length - (i + 1) by omega] at w1
    exact ⟨w1, w2, by omega⟩
  · have h14 : A.length = 14 := (nI_eq (b := 14) (by omega) (by decide)).mp q
    have hp : hPush A V = V :: A.take 13 := by
      unfold hPush
      rfl
    refine xs_aload_n dB_note_9 rfl ?_
    refine xs_get dB_note_10 flB_22 (by repeat (first | exact va_up_self _ _ _ | assumption | refine (va_up_ne _ _ (by omega)).trans ?_)) rfl ?_
    refine xs_bipush (v := 70) dB_note_13 (by decide) ?_
    refine xs_aload_n dB_note_15 rfl ?_
    refine xs_get dB_note_16 flB_22 (by repeat (first | exact va_up_self _ _ _ | assumption | refine (va_up_ne _ _ (by omega)).trans ?_)) rfl ?_
    refine xs_iconst (v := 0) dB_note_19 (by decide) ?_
    refine xs_sipush (v := 910) dB_note_20 (by decide) ?_
    refine xs_cS_vx (As := [_, _, _, _, _]) dB_note_23 lkB_77 (k_B_copyD (fa:=70) (ta:=0) (m:=910) hdi (by omega) (by omega) (by omega)) rfl rfl (Nat.le_of_ble_eq_true rfl) ⟨by decide, by decide⟩ ⟨by omega, by omega⟩ ?_
    intro H ⟨d2, hH, h1, h2⟩
    have hcH : H b = mCl b rf (nI T.length) sp gd (nI A.length) zs ft := by rw [hH, va_up_ne _ _ (by omega)]; exact hc
    refine xs_aload_n dB_note_26 rfl ?_
    refine xs_dup dB_note_27 rfl ?_
    refine xs_get dB_note_28 flB_74 (by repeat (first | exact va_up_self _ _ _ | assumption | refine (va_up_ne _ _ (by omega)).trans ?_)) rfl ?_
    refine xs_iconst (v := 1) dB_note_31 (by decide) ?_
    refine xs_isub dB_note_32 ?_
    refine xs_put dB_note_33 flB_74 ft8_9 (by repeat (first | exact va_up_self _ _ _ | assumption | refine (va_up_ne _ _ (by omega)).trans ?_)) (fun _ => rfl) (fun _ => rfl) (by simp) ?_
    rw [h14, show nI 14 - 1 = nI 13 from by decide]
    refine rest _ 13 d2 (by omega) (va_up_self _ _ _) ?_ (fun k q1 q2 => ?_) (by rw [hp, List.length_cons, List.length_take, h14]; rfl) (fun i W hW => ?_)
    · rw [va_up_ne _ _ (by omega), hH, va_up_self]
    · rw [va_up_ne _ _ q1, hH, va_up_ne _ _ q2]
    · rw [hp, List.getElem?_cons_succ, List.getElem?_take] at hW
      split at hW
      next hi13 =>
        obtain ⟨w1, w2⟩ := hrow i W hW
        refine ⟨mrow_cp w1 w2.1 (fun j hj => ?_), w2, by omega⟩
        have := h1 (70 * (13 - (i + 1)) + j) (by omega)
        rw [Nat.zero_add] at this
        rw [this]
        congr 1
        omega
      next => cases hW
end N0
