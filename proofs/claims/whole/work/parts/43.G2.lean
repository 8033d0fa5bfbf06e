theorem rN_none {o : Option Nat} (h : ∀ i, o = some i → i < 100) : rN o = -99999 ↔ o = none := by
  cases o with
  | none => simp [rN]
  | some i =>
    have := h i rfl
    simp only [rN, reduceCtorEq, iff_false]
    intro e
    have e2 : iI i = iI (-99999) := by rw [← iI_nat]; exact e
    rw [iI_eq (by omega) (by decide)] at e2
    omega
theorem k_G_beginWith {n g z : Nat} {G : xG} {I0 : Nat → Bool} {D : List P3} {fd fa : Nat → Option Nat} {pa : Nat → Nat} {ms cv : Nat → Int32} {cnt : Nat} (hG : gro G g I0) (hz : zlo G z fd fa pa ms cv D.length cnt) (hdr : zdr G z D) (hok : dOk D) (hd : z + 141 ≤ g ∨ g + 104 ≤ z) :
    xK mG_beginWith [.ref g, .ref z] n G 0 0 (qVx n (fun H => (∃ I, gro H g I ∧ ∀ j p, gsm[j]? = some p → (I j = true ↔ ∃ d ∈ D, par d p)) ∧ xfr g (g + 104) G H)) xNo := by
  have hL := hok.1
  have loop : ∀ (m i : Nat) (H : xG) (I : Nat → Bool), 49 - i < m → i ≤ 49 → gro H g I → (∀ j p, j < i → gsm[j]? = some p → (I j = true ↔ ∃ d ∈ D, par d p)) → xfr g (g + 104) G H →
      xS mG_beginWith n 0 0 (qVx n (fun H => (∃ I, gro H g I ∧ ∀ j p, gsm[j]? = some p → (I j = true ↔ ∃ d ∈ D, par d p)) ∧ xfr g (g + 104) G H)) xNo 2 [(0, .ref g), (1, .ref z), (2, .int (nI i))] [] n H 0 0 := by
    intro m
    induction m with
    | zero => intro i H I q; exact absurd q (by omega)
    | succ m ih =>
      intro i H I q1 q2 hg0 hI hfr
      obtain ⟨fs, fz, fi, zn, hgl, hfi⟩ := id hg0
      obtain ⟨⟨g0, g1, g2, g3, g4⟩, ⟨x, y, w, g5⟩, h1, h2, h3, h4⟩ := id hgl
      refine xs_iload_n dG_beginWith_2 rfl ?_
      refine xs_bipush (v := 49) dG_beginWith_3 (by decide) ?_
      refine xs_icmp_ge dG_beginWith_5 (fun hg => ?_) (fun hg => ?_)
      · have hi := (nI_leI (a := 49) (by omega) (by omega)).mp hg
        refine xs_vret dG_beginWith_40 rfl (by omega) (by omega) ⟨rfl, rfl, ⟨I, hg0, fun j p hj => ?_⟩, hfr⟩
        have hjl := (List.getElem?_eq_some_iff.mp hj).1
        rw [gsm_len] at hjl
        exact hI j p (by omega) hj
      · have hi : i < 49 := nI_lt_of (b := 49) (by omega) (by omega) hg
        obtain ⟨p, hp⟩ : ∃ p, gsm[i]? = some p := ⟨_, List.getElem?_eq_getElem (by rw [gsm_len]; exact hi)⟩
        have hin := fin49 hi
        have hfs : fs (nI i).toNatClampNeg = some (g + 6 + 2 * i) := by rw [nI_clamp (by omega)]; exact h1 i hi
        have hcell := h3 i p hp
        have hpb := gsm_ok p (List.mem_of_getElem? hp)
        have hzH : zlo H z fd fa pa ms cv D.length cnt := zlo_fr hz (fun k hk hk2 => hfr k (by omega))
        have hdH : zdr H z D := fun j d hj => by
          have hjl := (List.getElem?_eq_some_iff.mp hj).1
          rw [hfr _ (by omega)]
          exact hdr j d hj
        have hzc := zlo_cell hzH
        have out : ∀ b : Bool, (b = true ↔ ∃ d ∈ D, par d p) → xS mG_beginWith n 0 0 (qVx n (fun H => (∃ I, gro H g I ∧ ∀ j p, gsm[j]? = some p → (I j = true ↔ ∃ d ∈ D, par d p)) ∧ xfr g (g + 104) G H)) xNo 33 [(0, .ref g), (1, .ref z), (2, .int (nI i))] [.int (bI b), .int (nI i), .ref (g + 2)] n H 0 0 := by
          intro b hb
          refine xs_zast dG_beginWith_33 (by repeat (first | assumption | exact va_up_self _ _ _ | refine (va_up_ne _ _ (by omega)).trans ?_)) (by assumption) ?_
          refine xs_iinc (L2 := [(2, _), (0, _), (1, _)]) dG_beginWith_34 rfl rfl (by decide) rfl ?_
          refine xs_goto dG_beginWith_37 ?_
          refine xs_pick (L2 := [(0, _), (1, _), (2, _)]) [1, 2, 0] rfl ?_
          rw [xii, nI_clamp (by omega), vnar_b]
          refine ih (i + 1) _ (fun j => if j = i then b else I j) (by omega) (by omega) ⟨fs, fz, _, zn, grl_fi hgl, fun j hj => ?_⟩ (fun j q hj hq => ?_) (xfr_up hfr (by omega) (by omega))
          · simp only [upd]
            split
            next => rfl
            next => exact hfi j hj
          · try dsimp only
            by_cases hji : j = i
            · subst hji
              rw [if_pos rfl]
              cases hp.symm.trans hq
              exact hb
            · rw [if_neg hji]
              exact hI j q (by omega) hq
        refine xs_aload_n dG_beginWith_8 rfl ?_
        refine xs_get dG_beginWith_9 flG_17 (by repeat (first | assumption | exact va_up_self _ _ _ | refine (va_up_ne _ _ (by omega)).trans ?_)) rfl ?_
        refine xs_iload_n dG_beginWith_12 rfl ?_
        refine xs_aload_n dG_beginWith_13 rfl ?_
        refine xs_aload_n dG_beginWith_14 rfl ?_
        refine xs_get dG_beginWith_15 flG_13 (by repeat (first | assumption | exact va_up_self _ _ _ | refine (va_up_ne _ _ (by omega)).trans ?_)) rfl ?_
        refine xs_iload_n dG_beginWith_18 rfl ?_
        refine xs_ald3 dG_beginWith_19 (by repeat (first | assumption | exact va_up_self _ _ _ | refine (va_up_ne _ _ (by omega)).trans ?_)) (by assumption) hfs ?_
        refine xs_cV_ix (As := [_]) dG_beginWith_20 lkG_45 (by repeat (first | assumption | exact va_up_self _ _ _ | refine (va_up_ne _ _ (by omega)).trans ?_)) (k_Z_firstParallelTo hzH hdH hok hcell (bd_mono hpb.1 (by decide))) rfl rfl (Nat.le_of_ble_eq_true rfl) ⟨by decide, by decide⟩ ⟨by omega, by omega⟩ ?_
        intro r H2 hH2
        obtain ⟨⟨o, rfl, ho⟩, rfl⟩ := hH2
        refine xs_ldc dG_beginWith_23 kcG_51 ?_
        have hon : rN o = -99999 ↔ o = none := rN_none (fun i hi => by
          subst hi
          obtain ⟨⟨d, hd, _⟩, _⟩ := ho
          have := (List.getElem?_eq_some_iff.mp hd).1
          omega)
        refine xs_icmp_eq dG_beginWith_25 (fun h => ?_) (fun h => ?_)
        · have h9 := hon.mp h
          subst h9
          refine xs_iconst (v := 0) dG_beginWith_32 (by decide) ?_
          refine out false ⟨fun q => by simp at q, fun ⟨d, hd, hpd⟩ => ?_⟩
          obtain ⟨j, hj⟩ := List.getElem?_of_mem hd
          exact absurd hpd (ho j d hj)
        · have h9 : o ≠ none := fun q => h (hon.mpr q)
          obtain ⟨j, rfl⟩ := Option.ne_none_iff_exists'.mp h9
          refine xs_iconst (v := 1) dG_beginWith_28 (by decide) ?_
          refine xs_goto dG_beginWith_29 ?_
          obtain ⟨⟨d, hd, hpd⟩, _⟩ := ho
          exact out true ⟨fun _ => ⟨d, List.mem_of_getElem? hd, hpd⟩, fun _ => rfl⟩
  refine xK_of2 (L0 := [(0, _), (1, _)]) (by decide +kernel) rfl (Nat.le_of_ble_eq_true rfl) rfl ?_
  refine xs_iconst (v := 0) dG_beginWith_0 (by decide) ?_
  refine xs_istore_n (L2 := [(2, _), (0, _), (1, _)]) dG_beginWith_1 (by decide) rfl ?_
  refine xs_pick (L2 := [(0, _), (1, _), (2, _)]) [1, 2, 0] rfl ?_
  exact loop 50 0 G I0 (by omega) (by omega) hG (fun j p hj => absurd hj (by omega)) xfr_rf
