/-- one index, at a place: its value, or none, and the place behind it or of the fault -/
def pIx (T : List Nat) (p hi : Nat) (zf : Bool) : Option Int × Nat :=
  if T[p]? = some 45 then (match pDig T (p + 1) 1 hi with | some d => (some (-(d : Int)), p + 2) | none => (none, p + 1))
  else (match pDig T p (if zf = true then 1 else 0) hi with | some d => (some (d : Int), p + 1) | none => (none, p))
def zfb (I : List Int) : Bool := decide (I.length = 2 ∧ I[0]? = some 0 ∧ I[1]? = some 0)
def pIs (T : List Nat) (hi : Nat) : Nat → List Int → Nat → Option (List Int) × Nat
  | 0, I, p => (some I, p)
  | m + 1, I, p => match pIx T p hi (zfb I) with
    | (some v, q) => pIs T hi m (I ++ [v]) q
    | (none, q) => (none, q)
theorem len2 {I : List Int} (h : I.length = 2) : ∃ a b, I = [a, b] := by
  cases I with
  | nil => cases h
  | cons a I =>
    cases I with
    | nil => cases h
    | cons b I =>
      cases I with
      | nil => exact ⟨a, b, rfl⟩
      | cons c I => simp at h
theorem k_X_readIndices {n x hi : Nat} {G : xG} {T : List Nat} {p0 told : Nat} {ix0 : Nat → Int32} (hX : txt G x T p0 told ix0) (hhi : hi < 10) :
    xK mX_readIndices [.ref x, .int (nI hi)] n G 0 0 (qIx n (fun r H => ∃ ix, r = bI (pIs T hi 3 [] p0).1.isSome ∧ txt H x T (pIs T hi 3 [] p0).2 told ix ∧ (∀ J, (pIs T hi 3 [] p0).1 = some J → ∀ (i : Nat) (v : Int), J[i]? = some v → ix i = iI v) ∧ xfr x (x + 3) G H)) xNo := by
  obtain ⟨RR, hRR⟩ : ∃ RR, RR = pIs T hi 3 [] p0 := ⟨_, rfl⟩
  rw [← hRR]
  have loop : ∀ (m k : Nat) (I : List Int) (p : Nat) (H : xG) (ix : Nat → Int32), 3 - k < m → k ≤ 3 → I.length = k → (∀ v ∈ I, v.natAbs < 10) → txt H x T p told ix → (∀ (i : Nat) (v : Int), I[i]? = some v → ix i = iI v) → pIs T hi (3 - k) I p = RR → xfr x (x + 3) G H →
      xS mX_readIndices n 0 0 (qIx n (fun r H => ∃ ix, r = bI RR.1.isSome ∧ txt H x T RR.2 told ix ∧ (∀ J, RR.1 = some J → ∀ (i : Nat) (v : Int), J[i]? = some v → ix i = iI v) ∧ xfr x (x + 3) G H)) xNo 2 [(0, .ref x), (1, .int (nI hi)), (2, .int (nI k))] [] n H 0 0 := by
    intro m
    induction m with
    | zero => intro k I p H ix q; exact absurd q (by omega)
    | succ m ih =>
      intro k I p H ix q1 q2 hk hIb hX hI hR hfr
      obtain ⟨⟨code, ⟨g0, g1, g2⟩, hr⟩, ⟨hb1, hb2⟩, hp, ht⟩ := id hX
      refine xs_iload_n dX_readIndices_2 rfl ?_
      refine xs_iconst (v := 3) dX_readIndices_3 (by decide) ?_
      refine xs_icmp_ge dX_readIndices_4 (fun hg => ?_) (fun hg => ?_)
      · have hk3 := (nI_leI (a := 3) (by decide) (by omega)).mp hg
        have hk4 : k = 3 := by omega
        subst hk4
        subst hR
        refine xs_iconst (v := 1) dX_readIndices_112 (by decide) ?_
        exact xs_iret dX_readIndices_113 rfl rfl (by omega) (by omega) ⟨_, rfl, rfl, ix, rfl, hX, (fun J hJ => by cases hJ; exact hI), hfr⟩
      · have hk3 : k < 3 := nI_lt_of (b := 3) (by omega) (by decide) hg
        have hin : vp_in (nI k) 3 := vp_in_nI (by omega) (by omega)
        have ek : (nI k).toNatClampNeg = k := nI_clamp (by omega)
        have hR2 : pIs T hi (3 - k) I p = (match pIx T p hi (zfb I) with | (some v, q) => pIs T hi (3 - (k + 1)) (I ++ [v]) q | (none, q) => (none, q)) := by
          rw [show 3 - k = (3 - (k + 1)) + 1 by omega]
          rfl
        have dig : ∀ (lo p1 : Nat) (b : Bool) (z : Int32) (H1 : xG), lo < 10 → txt H1 x T p1 told ix → xfr x (x + 3) G H1 → pIx T p hi (zfb I) = (match pDig T p1 lo hi with | some d => (some (if b = true then -(d : Int) else (d : Int)), p1 + 1) | none => (none, p1)) →
            xS mX_readIndices n 0 0 (qIx n (fun r H => ∃ ix, r = bI RR.1.isSome ∧ txt H x T RR.2 told ix ∧ (∀ J, RR.1 = some J → ∀ (i : Nat) (v : Int), J[i]? = some v → ix i = iI v) ∧ xfr x (x + 3) G H)) xNo 73 [(0, .ref x), (1, .int (nI hi)), (2, .int (nI k)), (3, .int (bI b)), (4, .int z)] [.int (nI lo), .ref x] n H1 0 0 := by
          intro lo p1 b z H1 hlo hX1 hfr1 hpx
          have hX1' := hX1
          obtain ⟨⟨code1, ⟨v0, v1, v2⟩, -⟩, -⟩ := hX1'
          refine xs_iload_n dX_readIndices_73 rfl ?_
          refine xs_cV_i (As := [_, _]) dX_readIndices_74 lkX_45 (by repeat (first | assumption | exact va_up_self _ _ _ | refine (va_up_ne _ _ (by omega)).trans ?_)) ((k_X_isDigitAt (lo:=lo) (hi:=hi) hX1 hlo hhi)) rfl rfl (Nat.le_of_ble_eq_true rfl) ⟨by decide, by decide⟩ ⟨by omega, by omega⟩ ?_
          refine xs_if_ne dX_readIndices_77 (fun h => ?_) (fun h => ?_)
          · have hs := (bI_1n _).mp h
            obtain ⟨d, hd⟩ := Option.isSome_iff_exists.mp hs
            obtain ⟨-, -, d3, -⟩ := pDig_lt hd
            rw [hR2, hpx, hd] at hR
            simp only at hR
            refine xs_aload_n dX_readIndices_82 rfl ?_
            refine xs_cV_ix (As := []) dX_readIndices_83 lkX_49 (by repeat (first | assumption | exact va_up_self _ _ _ | refine (va_up_ne _ _ (by omega)).trans ?_)) ((k_X_takeDigit hX1 hd)) rfl rfl (Nat.le_of_ble_eq_true rfl) ⟨by decide, by decide⟩ ⟨by omega, by omega⟩ ?_
            intro r H2 hH2
            obtain ⟨er, hX2, hfr2⟩ := hH2
            subst er
            obtain ⟨⟨code2, ⟨w0, w1, w2⟩, hr2⟩, hb2', hp2, -⟩ := id hX2
            have fin : ∀ (v : Int) (Lx : List (Nat × Value)), v = (if b = true then -(d : Int) else (d : Int)) → xS mX_readIndices n 0 0 (qIx n (fun r H => ∃ ix, r = bI RR.1.isSome ∧ txt H x T RR.2 told ix ∧ (∀ J, RR.1 = some J → ∀ (i : Nat) (v : Int), J[i]? = some v → ix i = iI v) ∧ xfr x (x + 3) G H)) xNo 105 [(0, .ref x), (1, .int (nI hi)), (2, .int (nI k))] [.int (iI v), .int (nI k), .ref (x + 2)] n H2 0 0 := by
              intro v Lx hv
              rw [← hv] at hR
              refine xs_iast dX_readIndices_105 (by repeat (first | assumption | exact va_up_self _ _ _ | refine (va_up_ne _ _ (by omega)).trans ?_)) (by assumption) ?_
              refine xs_iinc (L2 := [(2, _), (0, _), (1, _)]) dX_readIndices_106 rfl rfl (by decide) rfl ?_
              refine xs_goto dX_readIndices_109 ?_
              refine xs_pick (L2 := [(0, _), (1, _), (2, _)]) [1, 2, 0] rfl ?_
              rw [xii, ek]
              refine ih (k + 1) (I ++ [v]) (p1 + 1) _ (upd ix k (iI v)) (by omega) (by omega) (by rw [List.length_append, List.length_singleton, hk]) (fun u hu => ?_) ⟨⟨code2, ⟨(by repeat (first | assumption | exact va_up_self _ _ _ | refine (va_up_ne _ _ (by omega)).trans ?_)), (by repeat (first | assumption | exact va_up_self _ _ _ | refine (va_up_ne _ _ (by omega)).trans ?_)), va_up_self _ _ _⟩, hr2⟩, hb2', hp2, ht⟩ (fun i u hi2 => ?_) hR (xfr_up (xfr_tr hfr1 hfr2) (by omega) (by omega))
              · rcases List.mem_append.mp hu with q | q
                · exact hIb u q
                · rw [List.mem_singleton.mp q, hv]
                  split <;> omega
              · have hil := (List.getElem?_eq_some_iff.mp hi2).1
                rcases Nat.lt_or_ge i I.length with q | q
                · rw [List.getElem?_append_left q] at hi2
                  rw [pk_un (by omega)]
                  exact hI i u hi2
                · rw [List.length_append, List.length_singleton] at hil
                  have hie : i = I.length := by omega
                  subst hie
                  rw [List.getElem?_append_right (Nat.le_refl _), Nat.sub_self] at hi2
                  cases hi2
                  rw [← hk, pk_us]
            refine xs_istore (L2 := [(5, _), (0, _), (1, _), (2, _), (3, _), (4, _)]) dX_readIndices_86 (by decide) rfl ?_
            refine xs_aload_n dX_readIndices_88 rfl ?_
            refine xs_get dX_readIndices_89 flX_25 (by repeat (first | assumption | exact va_up_self _ _ _ | refine (va_up_ne _ _ (by omega)).trans ?_)) rfl ?_
            refine xs_iload_n dX_readIndices_92 rfl ?_
            refine xs_iload_n dX_readIndices_93 rfl ?_
            cases b with
            | true =>
              refine xs_if_eq dX_readIndices_94 (fun h => absurd h (by decide)) (fun _ => ?_)
              refine xs_iload dX_readIndices_97 rfl ?_
              refine xs_ineg dX_readIndices_99 ?_
              refine xs_goto dX_readIndices_100 ?_
              refine xs_pick (L2 := [(0, _), (1, _), (2, _)]) [1, 2, 3] rfl ?_
              rw [iI_nat d, iI_neg]
              exact fin (-(d : Int)) [] rfl
            | false =>
              refine xs_if_eq dX_readIndices_94 (fun _ => ?_) (fun h => absurd rfl h)
              refine xs_iload dX_readIndices_103 rfl ?_
              refine xs_pick (L2 := [(0, _), (1, _), (2, _)]) [1, 2, 3] rfl ?_
              rw [iI_nat d]
              exact fin (d : Int) [] rfl
          · have hs := (bI_0 _).mp h
            have hd : pDig T p1 lo hi = none := by
              cases hq : pDig T p1 lo hi
              · rfl
              · rw [hq] at hs
                cases hs
            rw [hR2, hpx, hd] at hR
            simp only at hR
            subst hR
            refine xs_iconst (v := 0) dX_readIndices_80 (by decide) ?_
            exact xs_iret dX_readIndices_81 rfl rfl (by omega) (by omega) ⟨_, rfl, rfl, ix, rfl, hX1, (fun J hJ => by cases hJ), hfr1⟩
        have at55 : ∀ (p1 : Nat) (b : Bool) (H1 : xG), txt H1 x T p1 told ix → xfr x (x + 3) G H1 → pIx T p hi (zfb I) = (match pDig T p1 1 hi with | some d => (some (if b = true then -(d : Int) else (d : Int)), p1 + 1) | none => (none, p1)) →
            xS mX_readIndices n 0 0 (qIx n (fun r H => ∃ ix, r = bI RR.1.isSome ∧ txt H x T RR.2 told ix ∧ (∀ J, RR.1 = some J → ∀ (i : Nat) (v : Int), J[i]? = some v → ix i = iI v) ∧ xfr x (x + 3) G H)) xNo 55 [(0, .ref x), (1, .int (nI hi)), (2, .int (nI k)), (3, .int (bI b))] [] n H1 0 0 := by
          intro p1 b H1 hX1 hfr1 hpx
          refine xs_iconst (v := 1) dX_readIndices_55 (by decide) ?_
          refine xs_goto dX_readIndices_56 ?_
          refine xs_istore (L2 := [(4, _), (0, _), (1, _), (2, _), (3, _)]) dX_readIndices_60 (by decide) rfl ?_
          refine xs_aload_n dX_readIndices_62 rfl ?_
          refine xs_iload dX_readIndices_63 rfl ?_
          refine xs_if_eq dX_readIndices_65 (fun h => absurd h (by decide)) (fun _ => ?_)
          refine xs_iconst (v := 1) dX_readIndices_68 (by decide) ?_
          refine xs_goto dX_readIndices_69 ?_
          refine xs_pick (L2 := [(0, _), (1, _), (2, _), (3, _), (4, _)]) [1, 2, 3, 4, 0] rfl ?_
          exact dig 1 p1 b _ H1 (by decide) hX1 hfr1 hpx
        have at59 : ∀ (p1 : Nat) (b : Bool) (H1 : xG), txt H1 x T p1 told ix → xfr x (x + 3) G H1 → pIx T p hi (zfb I) = (match pDig T p1 0 hi with | some d => (some (if b = true then -(d : Int) else (d : Int)), p1 + 1) | none => (none, p1)) →
            xS mX_readIndices n 0 0 (qIx n (fun r H => ∃ ix, r = bI RR.1.isSome ∧ txt H x T RR.2 told ix ∧ (∀ J, RR.1 = some J → ∀ (i : Nat) (v : Int), J[i]? = some v → ix i = iI v) ∧ xfr x (x + 3) G H)) xNo 59 [(0, .ref x), (1, .int (nI hi)), (2, .int (nI k)), (3, .int (bI b))] [] n H1 0 0 := by
          intro p1 b H1 hX1 hfr1 hpx
          refine xs_iconst (v := 0) dX_readIndices_59 (by decide) ?_
          refine xs_istore (L2 := [(4, _), (0, _), (1, _), (2, _), (3, _)]) dX_readIndices_60 (by decide) rfl ?_
          refine xs_aload_n dX_readIndices_62 rfl ?_
          refine xs_iload dX_readIndices_63 rfl ?_
          refine xs_if_eq dX_readIndices_65 (fun _ => ?_) (fun h => absurd rfl h)
          refine xs_iconst (v := 0) dX_readIndices_72 (by decide) ?_
          refine xs_pick (L2 := [(0, _), (1, _), (2, _), (3, _), (4, _)]) [1, 2, 3, 4, 0] rfl ?_
          exact dig 0 p1 b _ H1 (by decide) hX1 hfr1 hpx
        refine xs_aload_n dX_readIndices_7 rfl ?_
        refine xs_bipush (v := 45) dX_readIndices_8 (by decide) ?_
        refine xs_cV_i (As := [_]) dX_readIndices_10 lkX_41 (by repeat (first | assumption | exact va_up_self _ _ _ | refine (va_up_ne _ _ (by omega)).trans ?_)) ((k_X_isAt (ch:=45) hX (by decide))) rfl rfl (Nat.le_of_ble_eq_true rfl) ⟨by decide, by decide⟩ ⟨by omega, by omega⟩ ?_
        refine xs_istore_n (L2 := [(3, _), (0, _), (1, _), (2, _)]) dX_readIndices_13 (by decide) rfl ?_
        refine xs_iload_n dX_readIndices_14 rfl ?_
        refine xs_if_eq dX_readIndices_15 (fun h => ?_) (fun h => ?_)
        · have hneg : ¬ T[p]? = some 45 := of_decide_eq_false ((bI_0 _).mp h)
          rw [bI_f hneg]
          refine xs_iload_n dX_readIndices_28 rfl ?_
          refine xs_if_ne dX_readIndices_29 (fun h => absurd rfl h) (fun _ => ?_)
          refine xs_iload_n dX_readIndices_32 rfl ?_
          refine xs_iconst (v := 2) dX_readIndices_33 (by decide) ?_
          refine xs_icmp_ne dX_readIndices_34 (fun hne => ?_) (fun heq => ?_)
          · have hk2 : k ≠ 2 := fun e => hne (by rw [e]; rfl)
            refine xs_pick (L2 := [(0, _), (1, _), (2, _), (3, _)]) [1, 2, 3, 0] rfl ?_
            refine at59 p false H hX hfr ?_
            have hz : zfb I = false := decide_eq_false (fun q => hk2 (hk ▸ q.1))
            rw [pIx, if_neg hneg, hz]
            rfl
          · have hk2 : k = 2 := (nI_eq (b := 2) (by omega) (by decide)).mp heq
            subst hk2
            obtain ⟨a, b, rfl⟩ := len2 hk
            have ha := hIb a List.mem_cons_self
            have hb := hIb b (List.mem_cons_of_mem _ List.mem_cons_self)
            have hin0 : vp_in (0 : Int32) 3 := vp_in_nI (n := 0) (by decide) (by decide)
            have hin1 : vp_in (1 : Int32) 3 := vp_in_nI (n := 1) (by decide) (by decide)
            have c0 : ix (0 : Int32).toNatClampNeg = iI a := by rw [show (0 : Int32).toNatClampNeg = 0 by decide]; exact hI 0 a rfl
            have c1 : ix (1 : Int32).toNatClampNeg = iI b := by rw [show (1 : Int32).toNatClampNeg = 1 by decide]; exact hI 1 b rfl
            have za : iI a = 0 ↔ a = 0 := iI_eq (x := a) (y := 0) (by omega) (by decide)
            have zb : iI b = 0 ↔ b = 0 := iI_eq (x := b) (y := 0) (by omega) (by decide)
            have no : (¬ a = 0 ∨ ¬ b = 0) → pIx T p hi (zfb [a, b]) = (match pDig T p 0 hi with | some d => (some (if false = true then -(d : Int) else (d : Int)), p + 1) | none => (none, p)) := by
              intro hab
              have hz : zfb [a, b] = false := decide_eq_false (fun q => by
                have q1 := Option.some.inj q.2.1
                have q2 := Option.some.inj q.2.2
                rcases hab with w | w
                · exact w q1
                · exact w q2)
              rw [pIx, if_neg hneg, hz]
              rfl
            refine xs_aload_n dX_readIndices_37 rfl ?_
            refine xs_get dX_readIndices_38 flX_25 (by repeat (first | assumption | exact va_up_self _ _ _ | refine (va_up_ne _ _ (by omega)).trans ?_)) rfl ?_
            refine xs_iconst (v := 0) dX_readIndices_41 (by decide) ?_
            refine xs_iald dX_readIndices_42 (by repeat (first | assumption | exact va_up_self _ _ _ | refine (va_up_ne _ _ (by omega)).trans ?_)) (by assumption) ?_
            rw [c0]
            refine xs_if_ne dX_readIndices_43 (fun h => ?_) (fun h => ?_)
            · refine xs_pick (L2 := [(0, _), (1, _), (2, _), (3, _)]) [1, 2, 3, 0] rfl ?_
              exact at59 p false H hX hfr (no (Or.inl (fun e => h (za.mpr e))))
            · have ha0 := za.mp h
              refine xs_aload_n dX_readIndices_46 rfl ?_
              refine xs_get dX_readIndices_47 flX_25 (by repeat (first | assumption | exact va_up_self _ _ _ | refine (va_up_ne _ _ (by omega)).trans ?_)) rfl ?_
              refine xs_iconst (v := 1) dX_readIndices_50 (by decide) ?_
              refine xs_iald dX_readIndices_51 (by repeat (first | assumption | exact va_up_self _ _ _ | refine (va_up_ne _ _ (by omega)).trans ?_)) (by assumption) ?_
              rw [c1]
              refine xs_if_ne dX_readIndices_52 (fun h => ?_) (fun h => ?_)
              · refine xs_pick (L2 := [(0, _), (1, _), (2, _), (3, _)]) [1, 2, 3, 0] rfl ?_
                exact at59 p false H hX hfr (no (Or.inr (fun e => h (zb.mpr e))))
              · have hb0 := zb.mp h
                subst ha0
                subst hb0
                refine xs_pick (L2 := [(0, _), (1, _), (2, _), (3, _)]) [1, 2, 3, 0] rfl ?_
                refine at55 p false H hX hfr ?_
                rw [pIx, if_neg hneg]
                rfl
        · have hneg : T[p]? = some 45 := of_decide_eq_true ((bI_1n _).mp h)
          have hpl := (List.getElem?_eq_some_iff.mp hneg).1
          rw [bI_t hneg]
          refine xs_aload_n dX_readIndices_18 rfl ?_
          refine xs_dup dX_readIndices_19 rfl ?_
          refine xs_get dX_readIndices_20 flX_19 (by repeat (first | assumption | exact va_up_self _ _ _ | refine (va_up_ne _ _ (by omega)).trans ?_)) rfl ?_
          refine xs_iconst (v := 1) dX_readIndices_23 (by decide) ?_
          refine xs_iadd dX_readIndices_24 ?_
          refine xs_put dX_readIndices_25 flX_19 ft1_2 (by repeat (first | assumption | exact va_up_self _ _ _ | refine (va_up_ne _ _ (by omega)).trans ?_)) (fun _ => rfl) (fun _ => rfl) (by simp) ?_
          refine xs_iload_n dX_readIndices_28 rfl ?_
          refine xs_if_ne dX_readIndices_29 (fun _ => ?_) (fun h => absurd h (by decide))
          refine xs_pick (L2 := [(0, _), (1, _), (2, _), (3, _)]) [1, 2, 3, 0] rfl ?_
          rw [nI_1]
          refine at55 (p + 1) true _ (txt_at hX (by omega) ht) (xfr_up hfr (by omega) (by omega)) ?_
          rw [pIx, if_pos hneg]
          rfl
  refine xK_of2 (L0 := [(0, _), (1, _)]) (by decide +kernel) rfl (Nat.le_of_ble_eq_true rfl) rfl ?_
  refine xs_iconst (v := 0) dX_readIndices_0 (by decide) ?_
  refine xs_istore_n (L2 := [(2, _), (0, _), (1, _)]) dX_readIndices_1 (by decide) rfl ?_
  refine xs_pick (L2 := [(0, _), (1, _), (2, _)]) [1, 2, 0] rfl ?_
  exact loop 4 0 [] p0 G ix0 (by omega) (by omega) rfl (fun v hv => absurd hv List.not_mem_nil) hX (fun i v hi => by cases hi) hRR.symm xfr_rf
