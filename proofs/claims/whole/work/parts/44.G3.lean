/-- what the growth knows of its small direction p after some lines -/
def gst (Lp : P3 → Prop) (p : P3) (z : Int32) (e : va_E) : Prop :=
  (z = 0 ∧ ∀ l, Lp l → dt p l ≠ 0) ∨ (z = 1 ∧ ∃ f, e = xTp f ∧ bd 100 f ∧ Lp f ∧ dt p f = 0 ∧ ∀ l, Lp l → dt p l = 0 → l = f) ∨ (z = 2 ∧ ∃ f h, Lp f ∧ Lp h ∧ f ≠ h ∧ dt p f = 0 ∧ dt p h = 0)
def gIn (I : Nat → Bool) (j : Nat) (Lp : P3 → Prop) (p : P3) (z : Int32) (e : va_E) : Prop := (I j = true ∧ z = 0) ∨ (I j = false ∧ gst Lp p z e)
theorem gst_no {Lp : P3 → Prop} {p l : P3} {z : Int32} {e : va_E} (h : gst Lp p z e) (hl : dt p l ≠ 0) : gst (fun x => Lp x ∨ x = l) p z e := by
  rcases h with ⟨hz, h⟩ | ⟨hz, f, he, hb, hf, hd, h⟩ | ⟨hz, f, g, hf, hg, h⟩
  · refine Or.inl ⟨hz, fun x hx => ?_⟩
    rcases hx with hx | rfl
    · exact h x hx
    · exact hl
  · refine Or.inr (Or.inl ⟨hz, f, he, hb, Or.inl hf, hd, fun x hx hx0 => ?_⟩)
    rcases hx with hx | rfl
    · exact h x hx hx0
    · exact absurd hx0 hl
  · exact Or.inr (Or.inr ⟨hz, f, g, Or.inl hf, Or.inl hg, h⟩)
theorem gst_two {Lp : P3 → Prop} {p l : P3} {z : Int32} {e : va_E} (h : gst Lp p z e) (hz : z = 2) : gst (fun x => Lp x ∨ x = l) p z e := by
  subst hz
  rcases h with ⟨hz, _⟩ | ⟨hz, _⟩ | ⟨hz, f, g, hf, hg, h⟩
  · exact absurd hz (by decide)
  · exact absurd hz (by decide)
  · exact Or.inr (Or.inr ⟨rfl, f, g, Or.inl hf, Or.inl hg, h⟩)
theorem gst_first {Lp : P3 → Prop} {p l : P3} {z : Int32} {e : va_E} (h : gst Lp p z e) (hz : z = 0) (hb : bd 100 l) (hl : dt p l = 0) : gst (fun x => Lp x ∨ x = l) p 1 (xTp l) := by
  subst hz
  rcases h with ⟨_, h⟩ | ⟨hz, _⟩ | ⟨hz, _⟩
  · refine Or.inr (Or.inl ⟨rfl, l, rfl, hb, Or.inr rfl, hl, fun x hx hx0 => ?_⟩)
    rcases hx with hx | hx
    · exact absurd hx0 (h x hx)
    · exact hx
  · exact absurd hz (by decide)
  · exact absurd hz (by decide)
theorem gst_1 {Lp : P3 → Prop} {p : P3} {z : Int32} {e : va_E} (h : gst Lp p z e) (hz : z ≠ 0) (h2 : ¬ (1 : Int32) < z) : z = 1 ∧ ∃ f, e = xTp f ∧ bd 100 f ∧ Lp f ∧ dt p f = 0 ∧ ∀ l, Lp l → dt p l = 0 → l = f := by
  rcases h with ⟨hz2, _⟩ | h | ⟨hz2, _⟩
  · exact absurd hz2 hz
  · exact h
  · subst hz2
    exact absurd (by decide) h2
theorem gst_same {Lp : P3 → Prop} {p f : P3} {e : va_E} (he : e = xTp f) (hb : bd 100 f) (hf : Lp f) (hd : dt p f = 0) (h : ∀ l, Lp l → dt p l = 0 → l = f) : gst (fun x => Lp x ∨ x = f) p 1 e := by
  refine Or.inr (Or.inl ⟨rfl, f, he, hb, Or.inl hf, hd, fun x hx hx0 => ?_⟩)
  rcases hx with hx | hx
  · exact h x hx hx0
  · exact hx
theorem gst_else {Lp : P3 → Prop} {p f l : P3} {e : va_E} (hf : Lp f) (hd : dt p f = 0) (hl : dt p l = 0) (hne : f ≠ l) : gst (fun x => Lp x ∨ x = l) p 2 e :=
  Or.inr (Or.inr ⟨rfl, f, l, Or.inl hf, Or.inr rfl, hne, hd, hl⟩)
theorem xTp_same {p q : P3} {B : Nat} (hB : B ≤ 4000000000000) (hp : bd B p) (hq : bd B q) : (iL p.1 = iL q.1 ∧ iL p.2.1 = iL q.2.1 ∧ iL p.2.2 = iL q.2.2) ↔ p = q := by
  obtain ⟨p1, p2, p3⟩ := p
  obtain ⟨q1, q2, q3⟩ := q
  obtain ⟨a1, a2, a3⟩ := hp
  obtain ⟨b1, b2, b3⟩ := hq
  simp only at a1 a2 a3 b1 b2 b3 ⊢
  rw [iL_eq (by omega) (by omega), iL_eq (by omega) (by omega), iL_eq (by omega) (by omega)]
  simp only [Prod.mk.injEq]
abbrev gAll (I : Nat → Bool) (Lp : P3 → Prop) (zn : Nat → Int32) (H : xG) (g : Nat) : Prop := ∀ j p, gsm[j]? = some p → gIn I j Lp p (zn j) (H (g + 7 + 2 * j))
theorem k_G_countLine {n g : Nat} {G : xG} {fs fz : Nat → Option Nat} {fi zn : Nat → Int32} {I : Nat → Bool} {Lp : P3 → Prop} {l : P3} (hG : grl G g fs fz fi zn) (hI : ∀ j, j < 49 → fi j = bI (I j)) (hl : G (g + 5) = xTp l) (hb : bd 100 l) (hst : gAll I Lp zn G g) :
    xK mG_countLine [.ref g] n G 0 0 (qVx n (fun H => (∃ zn2, grl H g fs fz fi zn2 ∧ gAll I (fun x => Lp x ∨ x = l) zn2 H g) ∧ xfr g (g + 104) G H)) xNo := by
  have loop : ∀ (m i : Nat) (H : xG) (zn : Nat → Int32), 49 - i < m → i ≤ 49 → grl H g fs fz fi zn → H (g + 5) = xTp l → (∀ j p, gsm[j]? = some p → (j < i → gIn I j (fun x => Lp x ∨ x = l) p (zn j) (H (g + 7 + 2 * j))) ∧ (i ≤ j → gIn I j Lp p (zn j) (H (g + 7 + 2 * j)))) → xfr g (g + 104) G H →
      xS mG_countLine n 0 0 (qVx n (fun H => (∃ zn2, grl H g fs fz fi zn2 ∧ gAll I (fun x => Lp x ∨ x = l) zn2 H g) ∧ xfr g (g + 104) G H)) xNo 2 [(0, .ref g), (1, .int (nI i))] [] n H 0 0 := by
    intro m
    induction m with
    | zero => intro i H zn q; exact absurd q (by omega)
    | succ m ih =>
      intro i H zn q1 q2 hg0 hline hst hfr
      obtain ⟨⟨g0, g1, g2, g3, g4⟩, _, h1, h2, h3, h4⟩ := id hg0
      refine xs_iload_n dG_countLine_2 rfl ?_
      refine xs_bipush (v := 49) dG_countLine_3 (by decide) ?_
      refine xs_icmp_ge dG_countLine_5 (fun hg => ?_) (fun hg => ?_)
      · have hi := (nI_leI (a := 49) (by omega) (by omega)).mp hg
        refine xs_vret dG_countLine_109 rfl (by omega) (by omega) ⟨rfl, rfl, ⟨zn, hg0, fun j p hj => ?_⟩, hfr⟩
        have hjl := (List.getElem?_eq_some_iff.mp hj).1
        rw [gsm_len] at hjl
        exact (hst j p hj).1 (by omega)
      · have hi : i < 49 := nI_lt_of (b := 49) (by omega) (by omega) hg
        obtain ⟨p, hp⟩ : ∃ p, gsm[i]? = some p := ⟨_, List.getElem?_eq_getElem (by rw [gsm_len]; exact hi)⟩
        have hin := fin49 hi
        have hfs : fs (nI i).toNatClampNeg = some (g + 6 + 2 * i) := by rw [nI_clamp (by omega)]; exact h1 i hi
        have hfz : fz (nI i).toNatClampNeg = some (g + 7 + 2 * i) := by rw [nI_clamp (by omega)]; exact h2 i hi
        have hcell := h3 i p hp
        have hpb := gsm_ok p (List.mem_of_getElem? hp)
        have hv : fi (nI i).toNatClampNeg = bI (I i) := by rw [nI_clamp (by omega)]; exact hI i hi
        have hz : zn (nI i).toNatClampNeg = zn i := by rw [nI_clamp (by omega)]
        have hold := (hst i p hp).2 (Nat.le_refl _)
        have next : ∀ (H : xG) (zn2 : Nat → Int32), grl H g fs fz fi zn2 → H (g + 5) = xTp l → gIn I i (fun x => Lp x ∨ x = l) p (zn2 i) (H (g + 7 + 2 * i)) → (∀ j p, gsm[j]? = some p → j ≠ i → (j < i → gIn I j (fun x => Lp x ∨ x = l) p (zn2 j) (H (g + 7 + 2 * j))) ∧ (i ≤ j → gIn I j Lp p (zn2 j) (H (g + 7 + 2 * j)))) → xfr g (g + 104) G H →
            xS mG_countLine n 0 0 (qVx n (fun H => (∃ zn2, grl H g fs fz fi zn2 ∧ gAll I (fun x => Lp x ∨ x = l) zn2 H g) ∧ xfr g (g + 104) G H)) xNo 103 [(0, .ref g), (1, .int (nI i))] [] n H 0 0 := by
          intro H zn2 a1 a2 a3 a4 a5
          refine xs_iinc (L2 := [(1, _), (0, _)]) dG_countLine_103 rfl rfl (by decide) rfl ?_
          refine xs_goto dG_countLine_106 ?_
          refine xs_pick (L2 := [(0, _), (1, _)]) [1, 0] rfl ?_
          rw [xii]
          refine ih (i + 1) H zn2 (by omega) (by omega) a1 a2 (fun j q hj => ⟨fun hji => ?_, fun hji => ?_⟩) a5
          · by_cases hj2 : j = i
            · subst hj2
              cases hp.symm.trans hj
              exact a3
            · exact (a4 j q hj hj2).1 (by omega)
          · exact (a4 j q hj (by omega)).2 (by omega)
        refine xs_aload_n dG_countLine_8 rfl ?_
        refine xs_get dG_countLine_9 flG_17 (by repeat (first | assumption | exact va_up_self _ _ _ | refine (va_up_ne _ _ (by omega)).trans ?_)) rfl ?_
        refine xs_iload_n dG_countLine_12 rfl ?_
        refine xs_zald dG_countLine_13 (by repeat (first | assumption | exact va_up_self _ _ _ | refine (va_up_ne _ _ (by omega)).trans ?_)) (by assumption) ?_
        rw [hv]
        refine xs_if_ne dG_countLine_14 (fun h => ?_) (fun h => ?_)
        · have h9 := (bI_1n _).mp h
          refine next H zn hg0 hline ?_ (fun j q hj _ => hst j q hj) hfr
          rcases hold with ⟨_, hz0⟩ | ⟨hf, _⟩
          · exact Or.inl ⟨h9, hz0⟩
          · exact absurd (h9.symm.trans hf) (by decide)
        have h9 : I i = false := (bI_0 _).mp h
        have hgs : gst Lp p (zn i) (H (g + 7 + 2 * i)) := by
          rcases hold with ⟨hf, _⟩ | ⟨_, hf⟩
          · exact absurd (h9.symm.trans hf) (by decide)
          · exact hf
        refine xs_aload_n dG_countLine_17 rfl ?_
        refine xs_get dG_countLine_18 flG_24 (by repeat (first | assumption | exact va_up_self _ _ _ | refine (va_up_ne _ _ (by omega)).trans ?_)) rfl ?_
        refine xs_iload_n dG_countLine_21 rfl ?_
        refine xs_iald dG_countLine_22 (by repeat (first | assumption | exact va_up_self _ _ _ | refine (va_up_ne _ _ (by omega)).trans ?_)) (by assumption) ?_
        refine xs_iconst (v := 1) dG_countLine_23 (by decide) ?_
        rw [hz]
        refine xs_icmp_gt dG_countLine_24 (fun h => ?_) (fun hle => ?_)
        · refine next H zn hg0 hline (Or.inr ⟨h9, gst_two hgs ?_⟩) (fun j q hj _ => hst j q hj) hfr
          rcases hgs with ⟨e, _⟩ | ⟨e, _⟩ | ⟨e, _⟩
          · rw [e] at h
            exact absurd h (by decide)
          · rw [e] at h
            exact absurd h (by decide)
          · exact e
        have hdb := dt_bd (d := p) (a := l) hpb.1 hb
        have hiff := iL_eq (x := dt p l) (y := 0) (by omega) (by decide)
        refine xs_aload_n dG_countLine_27 rfl ?_
        refine xs_get dG_countLine_28 flG_13 (by repeat (first | assumption | exact va_up_self _ _ _ | refine (va_up_ne _ _ (by omega)).trans ?_)) rfl ?_
        refine xs_iload_n dG_countLine_31 rfl ?_
        refine xs_ald3 dG_countLine_32 (by repeat (first | assumption | exact va_up_self _ _ _ | refine (va_up_ne _ _ (by omega)).trans ?_)) (by assumption) hfs ?_
        refine xs_aload_n dG_countLine_33 rfl ?_
        refine xs_get dG_countLine_34 flG_29 (by repeat (first | assumption | exact va_up_self _ _ _ | refine (va_up_ne _ _ (by omega)).trans ?_)) rfl ?_
        refine xs_cV_l (As := [_]) dG_countLine_37 lkG_62 (by repeat (first | assumption | exact va_up_self _ _ _ | refine (va_up_ne _ _ (by omega)).trans ?_)) (k_T_dot hcell hline) rfl rfl (Nat.le_of_ble_eq_true rfl) ⟨by decide, by decide⟩ ⟨by omega, by omega⟩ ?_
        refine xs_lconst (v := 0) dG_countLine_40 (by decide) ?_
        simp only [iL_mul, iL_add]
        refine xs_lc_eq dG_countLine_41 dG_countLine_42 (fun h0 => ?_) (fun h0 => ?_)
        · have hd0 : dt p l = 0 := hiff.mp h0
          refine xs_aload_n dG_countLine_48 rfl ?_
          refine xs_get dG_countLine_49 flG_24 (by repeat (first | assumption | exact va_up_self _ _ _ | refine (va_up_ne _ _ (by omega)).trans ?_)) rfl ?_
          refine xs_iload_n dG_countLine_52 rfl ?_
          refine xs_iald dG_countLine_53 (by repeat (first | assumption | exact va_up_self _ _ _ | refine (va_up_ne _ _ (by omega)).trans ?_)) (by assumption) ?_
          rw [hz]
          refine xs_if_ne dG_countLine_54 (fun hz0 => ?_) (fun hz0 => ?_)
          · obtain ⟨hz1, f, he, hfb, hfL, hfd, hfu⟩ := gst_1 hgs hz0 hle
            refine xs_aload_n dG_countLine_80 rfl ?_
            refine xs_get dG_countLine_81 flG_21 (by repeat (first | assumption | exact va_up_self _ _ _ | refine (va_up_ne _ _ (by omega)).trans ?_)) rfl ?_
            refine xs_iload_n dG_countLine_84 rfl ?_
            refine xs_ald3 dG_countLine_85 (by repeat (first | assumption | exact va_up_self _ _ _ | refine (va_up_ne _ _ (by omega)).trans ?_)) (by assumption) hfz ?_
            refine xs_aload_n dG_countLine_86 rfl ?_
            refine xs_get dG_countLine_87 flG_29 (by repeat (first | assumption | exact va_up_self _ _ _ | refine (va_up_ne _ _ (by omega)).trans ?_)) rfl ?_
            refine xs_cV_i (As := [_]) dG_countLine_90 lkG_66 (by repeat (first | assumption | exact va_up_self _ _ _ | refine (va_up_ne _ _ (by omega)).trans ?_)) (k_T_isSameAs he hline) rfl rfl (Nat.le_of_ble_eq_true rfl) ⟨by decide, by decide⟩ ⟨by omega, by omega⟩ ?_
            have hsm := xTp_same (B := 100) (by decide) hfb hb
            refine xs_if_ne dG_countLine_93 (fun h => ?_) (fun h => ?_)
            · have hfl : f = l := hsm.mp (of_decide_eq_true ((bI_1n _).mp h))
              subst hfl
              exact next H zn hg0 hline (Or.inr ⟨h9, by rw [hz1]; exact gst_same he hfb hfL hfd hfu⟩) (fun j q hj _ => hst j q hj) hfr
            · have hfl : f ≠ l := fun e => of_decide_eq_false ((bI_0 _).mp h) (hsm.mpr e)
              refine xs_aload_n dG_countLine_96 rfl ?_
              refine xs_get dG_countLine_97 flG_24 (by repeat (first | assumption | exact va_up_self _ _ _ | refine (va_up_ne _ _ (by omega)).trans ?_)) rfl ?_
              refine xs_iload_n dG_countLine_100 rfl ?_
              refine xs_iconst (v := 2) dG_countLine_101 (by decide) ?_
              refine xs_iast dG_countLine_102 (by repeat (first | assumption | exact va_up_self _ _ _ | refine (va_up_ne _ _ (by omega)).trans ?_)) (by assumption) ?_
              rw [nI_clamp (by omega)]
              refine next _ _ (grl_zn hg0) (by repeat (first | assumption | exact va_up_self _ _ _ | refine (va_up_ne _ _ (by omega)).trans ?_)) (Or.inr ⟨h9, ?_⟩) (fun j q hj hji => ?_) (xfr_up hfr (by omega) (by omega))
              · simp only [upd, if_pos rfl]
                exact gst_else hfL hfd hd0 hfl
              · rw [va_up_ne _ _ (by omega)]
                simp only [upd, if_neg hji]
                exact hst j q hj
          · obtain ⟨x, y, w, hw⟩ := h4 i hi
            refine xs_aload_n dG_countLine_57 rfl ?_
            refine xs_get dG_countLine_58 flG_21 (by repeat (first | assumption | exact va_up_self _ _ _ | refine (va_up_ne _ _ (by omega)).trans ?_)) rfl ?_
            refine xs_iload_n dG_countLine_61 rfl ?_
            refine xs_ald3 dG_countLine_62 (by repeat (first | assumption | exact va_up_self _ _ _ | refine (va_up_ne _ _ (by omega)).trans ?_)) (by assumption) hfz ?_
            refine xs_aload_n dG_countLine_63 rfl ?_
            refine xs_get dG_countLine_64 flG_29 (by repeat (first | assumption | exact va_up_self _ _ _ | refine (va_up_ne _ _ (by omega)).trans ?_)) rfl ?_
            refine xs_cV_v (As := [_]) dG_countLine_67 lkG_41 (by repeat (first | assumption | exact va_up_self _ _ _ | refine (va_up_ne _ _ (by omega)).trans ?_)) (k_T_copyFrom hw hline) rfl rfl (Nat.le_of_ble_eq_true rfl) ⟨by decide, by decide⟩ ⟨by omega, by omega⟩ ?_
            refine xs_aload_n dG_countLine_70 rfl ?_
            refine xs_get dG_countLine_71 flG_24 (by repeat (first | assumption | exact va_up_self _ _ _ | refine (va_up_ne _ _ (by omega)).trans ?_)) rfl ?_
            refine xs_iload_n dG_countLine_74 rfl ?_
            refine xs_iconst (v := 1) dG_countLine_75 (by decide) ?_
            refine xs_iast dG_countLine_76 (by repeat (first | assumption | exact va_up_self _ _ _ | refine (va_up_ne _ _ (by omega)).trans ?_)) (by assumption) ?_
            refine xs_goto dG_countLine_77 ?_
            refine xs_pick (L2 := [(0, _), (1, _)]) [0, 1] rfl ?_
            rw [nI_clamp (by omega)]
            refine next _ _ (grl_zn (grl_fz hg0)) (by repeat (first | assumption | exact va_up_self _ _ _ | refine (va_up_ne _ _ (by omega)).trans ?_)) (Or.inr ⟨h9, ?_⟩) (fun j q hj hji => ?_) (xfr_up (xfr_up hfr (by omega) (by omega)) (by omega) (by omega))
            · rw [va_up_ne _ _ (by omega), va_up_self]
              simp only [upd, if_pos rfl]
              exact gst_first hgs hz0 hb hd0
            · rw [va_up_ne _ _ (by omega), va_up_ne _ _ (by omega)]
              simp only [upd, if_neg hji]
              exact hst j q hj
        · have hd0 : dt p l ≠ 0 := fun e => h0 (hiff.mpr e)
          refine xs_goto dG_countLine_45 ?_
          exact next H zn hg0 hline (Or.inr ⟨h9, gst_no hgs hd0⟩) (fun j q hj _ => hst j q hj) hfr
  refine xK_of2 (L0 := [(0, _)]) (by decide +kernel) rfl (Nat.le_of_ble_eq_true rfl) rfl ?_
  refine xs_iconst (v := 0) dG_countLine_0 (by decide) ?_
  refine xs_istore_n (L2 := [(1, _), (0, _)]) dG_countLine_1 (by decide) rfl ?_
  refine xs_pick (L2 := [(0, _), (1, _)]) [1, 0] rfl ?_
  exact loop 50 0 G zn (by omega) (by omega) hG hl (fun j p hj => ⟨fun q => absurd q (by omega), fun _ => hst j p hj⟩) xfr_rf
