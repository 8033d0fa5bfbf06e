section XI
variable {M : xM} {n0 mc ms : Nat} {Q : Option Value → Nat → xG → Prop} {X : String → Nat → xG → Prop} {pc pc2 tgt : Nat} {L : List (Nat × Value)} {st : List Value} {n : Nat} {G G1 : xG} {k c : Nat}
/-- a private constructor that makes nothing -/
theorem xs_cIN_v {Y : xM} {idx na : Nat} {host : String} {b : Nat} {As rest : List Value} (d : xD M pc pc2 3 (.invokespecial idx)) (lk : xlN M.1.cls idx Y na host) (hK : xK Y (.ref b :: As) n G 0 0 (qV n G1) xNo) (hst : st = As.reverse ++ .ref b :: rest) (hna : As.length = na) (hrm : (rest.map fun v => v.category).sum ≤ 8) (hR : xRmOk Y M) (hk : k ≤ mc ∧ c ≤ ms) (K : xS M n0 mc ms Q X pc2 L (rest) n G1 k c) : xS M n0 mc ms Q X pc L st n G k c :=
  xs_callIN d lk hK hst hna hrm hR hk (fun _ _ _ h _ => by obtain ⟨rfl, rfl, rfl⟩ := h; exact K) (fun _ _ _ h => h.elim)
end XI
theorem k_T_init {n t : Nat} {G : xG} : xK mT_init [.ref t] n G 0 0 (qV n G) xNo := by
  refine xK_of2 (L0 := [(0, _)]) (by decide +kernel) rfl (Nat.le_of_ble_eq_true rfl) rfl ?_
  refine xs_aload_n dT_init_0 rfl ?_
  refine xs_objInit dT_init_1 ljT_1 (Nat.le_of_ble_eq_true rfl) ⟨by decide, by decide⟩ ?_
  exact xs_vret dT_init_4 rfl (by omega) (by omega) ⟨rfl, rfl, rfl⟩
def xlow (c : Nat) (G H : xG) : Prop := ∀ k, k < c → H k = G k
theorem xlow_up {c t : Nat} {G H : xG} {e : va_E} (h : xlow c G H) (ht : c ≤ t) : xlow c G (va_up H t e) := fun k hk => by
  rw [va_up_ne _ _ (by omega)]
  exact h k hk
theorem xlow_rf {c : Nat} {G : xG} : xlow c G G := fun _ _ => rfl
theorem k_C_init {c : Nat} {G : xG} (hG : G c = .inr (0, nf0)) : xK mC_init [.ref c] (c + 1) G 6 70 (fun v m H => v = none ∧ m = c + 7 ∧ cry H c zNew ∧ xlow c G H) xNo := by
  refine xK_of2 (L0 := [(0, _)]) (by decide +kernel) rfl (Nat.le_of_ble_eq_true rfl) rfl ?_
  refine xs_aload_n dC_init_0 rfl ?_
  refine xs_objInit dC_init_1 ljC_3 (Nat.le_of_ble_eq_true rfl) ⟨by decide, by decide⟩ ?_
  refine xs_aload_n dC_init_4 rfl ?_
  refine xs_bipush (v := 16) dC_init_5 (by decide) ?_
  refine xs_newI (N := 16) dC_init_7 rfl (by omega) (by omega) (by omega) ?_
  refine xs_putF dC_init_9 flC_9 ft0_0 rfl rfl (by repeat (first | assumption | exact va_up_self _ _ _ | refine (va_up_ne _ _ (by omega)).trans ?_)) (fun _ => rfl) (fun _ => rfl) (by simp) ?_
  refine xs_aload_n dC_init_12 rfl ?_
  refine xs_bipush (v := 16) dC_init_13 (by decide) ?_
  refine xs_newI (N := 16) dC_init_15 rfl (by omega) (by omega) (by omega) ?_
  refine xs_putF dC_init_17 flC_15 ft0_1 rfl rfl (by repeat (first | assumption | exact va_up_self _ _ _ | refine (va_up_ne _ _ (by omega)).trans ?_)) (fun _ => rfl) (fun _ => rfl) (by simp) ?_
  refine xs_aload_n dC_init_20 rfl ?_
  refine xs_bipush (v := 16) dC_init_21 (by decide) ?_
  refine xs_newI (N := 16) dC_init_23 rfl (by omega) (by omega) (by omega) ?_
  refine xs_putF dC_init_25 flC_18 ft0_2 rfl rfl (by repeat (first | assumption | exact va_up_self _ _ _ | refine (va_up_ne _ _ (by omega)).trans ?_)) (fun _ => rfl) (fun _ => rfl) (by simp) ?_
  refine xs_aload_n dC_init_28 rfl ?_
  refine xs_bipush (v := 16) dC_init_29 (by decide) ?_
  refine xs_newI (N := 16) dC_init_31 rfl (by omega) (by omega) (by omega) ?_
  refine xs_putF dC_init_33 flC_21 ft0_3 rfl rfl (by repeat (first | assumption | exact va_up_self _ _ _ | refine (va_up_ne _ _ (by omega)).trans ?_)) (fun _ => rfl) (fun _ => rfl) (by simp) ?_
  refine xs_aload_n dC_init_36 rfl ?_
  refine xs_iconst (v := 0) dC_init_37 (by decide) ?_
  refine xs_put dC_init_38 flC_24 ft0_4 (by repeat (first | assumption | exact va_up_self _ _ _ | refine (va_up_ne _ _ (by omega)).trans ?_)) (fun _ => rfl) (fun _ => rfl) (by simp) ?_
  refine xs_aload_n dC_init_41 rfl ?_
  refine xs_iconst (v := 0) dC_init_42 (by decide) ?_
  refine xs_put dC_init_43 flC_28 ft0_5 (by repeat (first | assumption | exact va_up_self _ _ _ | refine (va_up_ne _ _ (by omega)).trans ?_)) (fun _ => rfl) (fun _ => rfl) (by simp) ?_
  refine xs_aload_n dC_init_46 rfl ?_
  refine xs_iconst (v := 2) dC_init_47 (by decide) ?_
  refine xs_put dC_init_48 flC_31 ft0_6 (by repeat (first | assumption | exact va_up_self _ _ _ | refine (va_up_ne _ _ (by omega)).trans ?_)) (fun _ => rfl) (fun _ => rfl) (by simp) ?_
  refine xs_aload_n dC_init_51 rfl ?_
  refine xs_iconst (v := 1) dC_init_52 (by decide) ?_
  refine xs_put dC_init_53 flC_34 ft0_7 (by repeat (first | assumption | exact va_up_self _ _ _ | refine (va_up_ne _ _ (by omega)).trans ?_)) (fun _ => rfl) (fun _ => rfl) (by simp) ?_
  refine xs_aload_n dC_init_56 rfl ?_
  refine xs_iconst (v := 1) dC_init_57 (by decide) ?_
  refine xs_put dC_init_58 flC_37 ft0_8 (by repeat (first | assumption | exact va_up_self _ _ _ | refine (va_up_ne _ _ (by omega)).trans ?_)) (fun _ => rfl) (fun _ => rfl) (by simp) ?_
  refine xs_aload_n dC_init_61 rfl ?_
  refine xs_iconst (v := 1) dC_init_62 (by decide) ?_
  refine xs_put dC_init_63 flC_40 ft0_9 (by repeat (first | assumption | exact va_up_self _ _ _ | refine (va_up_ne _ _ (by omega)).trans ?_)) (fun _ => rfl) (fun _ => rfl) (by simp) ?_
  refine xs_aload_n dC_init_66 rfl ?_
  refine xs_new dC_init_67 klC_43 xn5 (by omega) (by omega) ?_
  refine xs_dup dC_init_70 rfl ?_
  refine xs_cIN_v (As := []) dC_init_71 lkC_45 (k_T_init) rfl rfl (Nat.le_of_ble_eq_true rfl) ⟨by decide, by decide⟩ ⟨by omega, by omega⟩ ?_
  refine xs_putF dC_init_74 flC_46 ft0_10 rfl rfl (by repeat (first | assumption | exact va_up_self _ _ _ | refine (va_up_ne _ _ (by omega)).trans ?_)) (fun _ => rfl) (fun _ => rfl) (by simp) ?_
  refine xs_aload_n dC_init_77 rfl ?_
  refine xs_new dC_init_78 klC_43 xn5 (by omega) (by omega) ?_
  refine xs_dup dC_init_81 rfl ?_
  refine xs_cIN_v (As := []) dC_init_82 lkC_45 (k_T_init) rfl rfl (Nat.le_of_ble_eq_true rfl) ⟨by decide, by decide⟩ ⟨by omega, by omega⟩ ?_
  refine xs_putF dC_init_85 flC_50 ft0_11 rfl rfl (by repeat (first | assumption | exact va_up_self _ _ _ | refine (va_up_ne _ _ (by omega)).trans ?_)) (fun _ => rfl) (fun _ => rfl) (by simp) ?_
  refine xs_vret dC_init_88 rfl (by omega) (by omega) ⟨rfl, rfl, ⟨zNew_ok, _, _, _, _, _, _, _, _, _, _, ⟨?_, (by repeat (first | assumption | exact va_up_self _ _ _ | refine (va_up_ne _ _ (by omega)).trans ?_)), (by repeat (first | assumption | exact va_up_self _ _ _ | refine (va_up_ne _ _ (by omega)).trans ?_)), (by repeat (first | assumption | exact va_up_self _ _ _ | refine (va_up_ne _ _ (by omega)).trans ?_)), (by repeat (first | assumption | exact va_up_self _ _ _ | refine (va_up_ne _ _ (by omega)).trans ?_)), (by repeat (first | assumption | exact va_up_self _ _ _ | refine (va_up_ne _ _ (by omega)).trans ?_)), (by repeat (first | assumption | exact va_up_self _ _ _ | refine (va_up_ne _ _ (by omega)).trans ?_))⟩, fun i f h => nomatch h⟩, ?_⟩
  · rw [va_up_self]
    rfl
  · repeat (first | exact xlow_rf | refine xlow_up ?_ (by omega))
def zTw (V : zV) : Nat := V.1.countP (fun f => decide (f.2 = 1))
theorem take_s {α : Type} {l : List α} {i : Nat} {f : α} (h : l[i]? = some f) : l.take (i + 1) = l.take i ++ [f] := by
  rw [List.take_add_one, h]
  rfl
theorem k_C_countHalf {n c : Nat} {G : xG} {V : zV} (hC : cry G c V) : xK mC_countHalf [.ref c, .int 1] n G 0 0 (qI n G (nI (zTw V))) xNo := by
  obtain ⟨hok, fh, fk, fl, fb, a1, a2, a3, b1, b2, b3, ⟨h0, h1, h2, h3, h4, h5, h6⟩, hr⟩ := id hC
  have hL := hok.1
  have loop : ∀ (m i : Nat), V.1.length - i < m → i ≤ V.1.length → xS mC_countHalf n 0 0 (qI n G (nI (zTw V))) xNo 4 [(0, .ref c), (1, .int 1), (2, .int (nI ((V.1.take i).countP (fun f => decide (f.2 = 1))))), (3, .int (nI i))] [] n G 0 0 := by
    intro m
    induction m with
    | zero => intro i q; exact absurd q (by omega)
    | succ m ih =>
      intro i q1 q2
      refine xs_iload_n dC_countHalf_4 rfl ?_
      refine xs_aload_n dC_countHalf_5 rfl ?_
      refine xs_get dC_countHalf_6 flC_24 (by repeat (first | assumption | exact va_up_self _ _ _ | refine (va_up_ne _ _ (by omega)).trans ?_)) rfl ?_
      refine xs_icmp_ge dC_countHalf_9 (fun hg => ?_) (fun hg => ?_)
      · have hi := (nI_leI (by omega) (by omega)).mp hg
        have : V.1.take i = V.1 := List.take_of_length_le hi
        rw [this]
        refine xs_iload_n dC_countHalf_31 rfl ?_
        exact xs_iret dC_countHalf_32 rfl rfl (by omega) (by omega) ⟨rfl, rfl, rfl⟩
      · have hi : i < V.1.length := by
          rcases Nat.lt_or_ge i V.1.length with q | q
          · exact q
          · exact absurd (nI_le q (by omega)) hg
        obtain ⟨f, hf⟩ : ∃ f, V.1[i]? = some f := ⟨_, List.getElem?_eq_getElem hi⟩
        obtain ⟨hin, hfo, e1, e2, e3, e4⟩ := arr16 hok hr hf
        have hs := hfo.2.2.2
        have ht := take_s hf
        refine xs_aload_n dC_countHalf_12 rfl ?_
        refine xs_get dC_countHalf_13 flC_21 (by repeat (first | assumption | exact va_up_self _ _ _ | refine (va_up_ne _ _ (by omega)).trans ?_)) rfl ?_
        refine xs_iload_n dC_countHalf_16 rfl ?_
        refine xs_iald dC_countHalf_17 (by repeat (first | assumption | exact va_up_self _ _ _ | refine (va_up_ne _ _ (by omega)).trans ?_)) (by assumption) ?_
        refine xs_iload_n dC_countHalf_18 rfl ?_
        rw [e4]
        have hiff := iI_eq (x := f.2) (y := 1) (by omega) (by decide)
        refine xs_icmp_ne dC_countHalf_19 (fun h => ?_) (fun h => ?_)
        · have h9 : ¬ f.2 = 1 := fun e => h (hiff.mpr e)
          refine xs_iinc (L2 := [(3, _), (0, _), (1, _), (2, _)]) dC_countHalf_25 rfl rfl (by decide) rfl ?_
          refine xs_goto dC_countHalf_28 ?_
          refine xs_pick (L2 := [(0, _), (1, _), (2, _), (3, _)]) [1, 2, 3, 0] rfl ?_
          have := ih (i + 1) (by omega) (by omega)
          rw [ht, List.countP_append, List.countP_singleton, decide_eq_false h9] at this
          rw [xii]
          exact this
        · have h9 : f.2 = 1 := hiff.mp h
          refine xs_iinc (L2 := [(2, _), (0, _), (1, _), (3, _)]) dC_countHalf_22 rfl rfl (by decide) rfl ?_
          refine xs_iinc (L2 := [(3, _), (2, _), (0, _), (1, _)]) dC_countHalf_25 rfl rfl (by decide) rfl ?_
          refine xs_goto dC_countHalf_28 ?_
          refine xs_pick (L2 := [(0, _), (1, _), (2, _), (3, _)]) [2, 3, 1, 0] rfl ?_
          have := ih (i + 1) (by omega) (by omega)
          rw [ht, List.countP_append, List.countP_singleton, decide_eq_true h9] at this
          rw [xii, xii]
          exact this
  refine xK_of2 (L0 := [(0, _), (1, _)]) (by decide +kernel) rfl (Nat.le_of_ble_eq_true rfl) rfl ?_
  refine xs_iconst (v := 0) dC_countHalf_0 (by decide) ?_
  refine xs_istore_n (L2 := [(2, _), (0, _), (1, _)]) dC_countHalf_1 (by decide) rfl ?_
  refine xs_iconst (v := 0) dC_countHalf_2 (by decide) ?_
  refine xs_istore_n (L2 := [(3, _), (2, _), (0, _), (1, _)]) dC_countHalf_3 (by decide) rfl ?_
  refine xs_pick (L2 := [(0, _), (1, _), (2, _), (3, _)]) [2, 3, 1, 0] rfl ?_
  exact loop (V.1.length + 1) 0 (by omega) (by omega)
noncomputable def zSame (V : zV) (f g : zF) : Bool := decide (f.2 = g.2) && zEq V.2.1 f.1 g.1
theorem k_C_areOfOneForm {n c i j : Nat} {G : xG} {V : zV} {f g : zF} (hC : cry G c V) (hf : V.1[i]? = some f) (hg : V.1[j]? = some g) :
    xK mC_areOfOneForm [.ref c, .int (nI i), .int (nI j)] n G 0 0 (qIx n (fun r H => r = bI (zSame V f g) ∧ cry H c V ∧ xfr c (c + 7) G H)) xNo := by
  obtain ⟨hok, fh, fk, fl, fb, a1, a2, a3, b1, b2, b3, ⟨h0, h1, h2, h3, h4, h5, h6⟩, hr⟩ := id hC
  obtain ⟨hin, hfo, e1, e2, e3, e4⟩ := arr16 hok hr hf
  obtain ⟨hin2, hgo, d1, d2, d3, d4⟩ := arr16 hok hr hg
  obtain ⟨u1, u2, u3⟩ := hfo.1
  obtain ⟨v1, v2, v3⟩ := hgo.1
  have hs1 := hfo.2.2.2
  have hs2 := hgo.2.2.2
  refine xK_of2 (L0 := [(0, _), (1, _), (2, _)]) (by decide +kernel) rfl (Nat.le_of_ble_eq_true rfl) rfl ?_
  refine xs_aload_n dC_areOfOneForm_0 rfl ?_
  refine xs_get dC_areOfOneForm_1 flC_46 (by repeat (first | assumption | exact va_up_self _ _ _ | refine (va_up_ne _ _ (by omega)).trans ?_)) rfl ?_
  refine xs_aload_n dC_areOfOneForm_4 rfl ?_
  refine xs_get dC_areOfOneForm_5 flC_9 (by repeat (first | assumption | exact va_up_self _ _ _ | refine (va_up_ne _ _ (by omega)).trans ?_)) rfl ?_
  refine xs_iload_n dC_areOfOneForm_8 rfl ?_
  refine xs_iald dC_areOfOneForm_9 (by repeat (first | assumption | exact va_up_self _ _ _ | refine (va_up_ne _ _ (by omega)).trans ?_)) (by assumption) ?_
  refine xs_i2l dC_areOfOneForm_10 ?_
  refine xs_aload_n dC_areOfOneForm_11 rfl ?_
  refine xs_get dC_areOfOneForm_12 flC_15 (by repeat (first | assumption | exact va_up_self _ _ _ | refine (va_up_ne _ _ (by omega)).trans ?_)) rfl ?_
  refine xs_iload_n dC_areOfOneForm_15 rfl ?_
  refine xs_iald dC_areOfOneForm_16 (by repeat (first | assumption | exact va_up_self _ _ _ | refine (va_up_ne _ _ (by omega)).trans ?_)) (by assumption) ?_
  refine xs_i2l dC_areOfOneForm_17 ?_
  refine xs_aload_n dC_areOfOneForm_18 rfl ?_
  refine xs_get dC_areOfOneForm_19 flC_18 (by repeat (first | assumption | exact va_up_self _ _ _ | refine (va_up_ne _ _ (by omega)).trans ?_)) rfl ?_
  refine xs_iload_n dC_areOfOneForm_22 rfl ?_
  refine xs_iald dC_areOfOneForm_23 (by repeat (first | assumption | exact va_up_self _ _ _ | refine (va_up_ne _ _ (by omega)).trans ?_)) (by assumption) ?_
  refine xs_i2l dC_areOfOneForm_24 ?_
  rw [e1, e2, e3, iI_l (by omega), iI_l (by omega), iI_l (by omega)]
  refine xs_cV_v (As := [_, _, _]) dC_areOfOneForm_25 lkC_60 (by repeat (first | assumption | exact va_up_self _ _ _ | refine (va_up_ne _ _ (by omega)).trans ?_)) (k_T_put h5) rfl rfl (Nat.le_of_ble_eq_true rfl) ⟨by decide, by decide⟩ ⟨by omega, by omega⟩ ?_
  refine xs_aload_n dC_areOfOneForm_28 rfl ?_
  refine xs_get dC_areOfOneForm_29 flC_50 (by repeat (first | assumption | exact va_up_self _ _ _ | refine (va_up_ne _ _ (by omega)).trans ?_)) rfl ?_
  refine xs_aload_n dC_areOfOneForm_32 rfl ?_
  refine xs_get dC_areOfOneForm_33 flC_9 (by repeat (first | assumption | exact va_up_self _ _ _ | refine (va_up_ne _ _ (by omega)).trans ?_)) rfl ?_
  refine xs_iload_n dC_areOfOneForm_36 rfl ?_
  refine xs_iald dC_areOfOneForm_37 (by repeat (first | assumption | exact va_up_self _ _ _ | refine (va_up_ne _ _ (by omega)).trans ?_)) (by assumption) ?_
  refine xs_i2l dC_areOfOneForm_38 ?_
  refine xs_aload_n dC_areOfOneForm_39 rfl ?_
  refine xs_get dC_areOfOneForm_40 flC_15 (by repeat (first | assumption | exact va_up_self _ _ _ | refine (va_up_ne _ _ (by omega)).trans ?_)) rfl ?_
  refine xs_iload_n dC_areOfOneForm_43 rfl ?_
  refine xs_iald dC_areOfOneForm_44 (by repeat (first | assumption | exact va_up_self _ _ _ | refine (va_up_ne _ _ (by omega)).trans ?_)) (by assumption) ?_
  refine xs_i2l dC_areOfOneForm_45 ?_
  refine xs_aload_n dC_areOfOneForm_46 rfl ?_
  refine xs_get dC_areOfOneForm_47 flC_18 (by repeat (first | assumption | exact va_up_self _ _ _ | refine (va_up_ne _ _ (by omega)).trans ?_)) rfl ?_
  refine xs_iload_n dC_areOfOneForm_50 rfl ?_
  refine xs_iald dC_areOfOneForm_51 (by repeat (first | assumption | exact va_up_self _ _ _ | refine (va_up_ne _ _ (by omega)).trans ?_)) (by assumption) ?_
  refine xs_i2l dC_areOfOneForm_52 ?_
  rw [d1, d2, d3, iI_l (by omega), iI_l (by omega), iI_l (by omega)]
  refine xs_cV_v (As := [_, _, _]) dC_areOfOneForm_53 lkC_60 (by repeat (first | assumption | exact va_up_self _ _ _ | refine (va_up_ne _ _ (by omega)).trans ?_)) (k_T_put (by repeat (first | assumption | exact va_up_self _ _ _ | refine (va_up_ne _ _ (by omega)).trans ?_))) rfl rfl (Nat.le_of_ble_eq_true rfl) ⟨by decide, by decide⟩ ⟨by omega, by omega⟩ ?_
  refine xs_aload_n dC_areOfOneForm_56 rfl ?_
  refine xs_get dC_areOfOneForm_57 flC_21 (by repeat (first | assumption | exact va_up_self _ _ _ | refine (va_up_ne _ _ (by omega)).trans ?_)) rfl ?_
  refine xs_iload_n dC_areOfOneForm_60 rfl ?_
  refine xs_iald dC_areOfOneForm_61 (by repeat (first | assumption | exact va_up_self _ _ _ | refine (va_up_ne _ _ (by omega)).trans ?_)) (by assumption) ?_
  refine xs_aload_n dC_areOfOneForm_62 rfl ?_
  refine xs_get dC_areOfOneForm_63 flC_21 (by repeat (first | assumption | exact va_up_self _ _ _ | refine (va_up_ne _ _ (by omega)).trans ?_)) rfl ?_
  refine xs_iload_n dC_areOfOneForm_66 rfl ?_
  refine xs_iald dC_areOfOneForm_67 (by repeat (first | assumption | exact va_up_self _ _ _ | refine (va_up_ne _ _ (by omega)).trans ?_)) (by assumption) ?_
  rw [e4, d4]
  have hcry : cry (va_up (va_up G (c + 5) (xTp f.1)) (c + 6) (xTp g.1)) c V := cry_t6 (cry_t5 hC)
  have hfr : xfr c (c + 7) G (va_up (va_up G (c + 5) (xTp f.1)) (c + 6) (xTp g.1)) := xfr_up (xfr_up xfr_rf (by omega) (by omega)) (by omega) (by omega)
  have hiff := iI_eq (x := f.2) (y := g.2) (by omega) (by omega)
  refine xs_icmp_ne dC_areOfOneForm_68 (fun h => ?_) (fun h => ?_)
  · have h9 : ¬ f.2 = g.2 := fun e => h (hiff.mpr e)
    refine xs_iconst (v := 0) dC_areOfOneForm_93 (by decide) ?_
    exact xs_iret dC_areOfOneForm_94 rfl rfl (by omega) (by omega) ⟨_, rfl, rfl, by rw [zSame, decide_eq_false h9]; rfl, hcry, hfr⟩
  · have h9 : f.2 = g.2 := hiff.mp h
    refine xs_aload_n dC_areOfOneForm_71 rfl ?_
    refine xs_get dC_areOfOneForm_72 flC_46 (by repeat (first | assumption | exact va_up_self _ _ _ | refine (va_up_ne _ _ (by omega)).trans ?_)) rfl ?_
    refine xs_aload_n dC_areOfOneForm_75 rfl ?_
    refine xs_get dC_areOfOneForm_76 flC_50 (by repeat (first | assumption | exact va_up_self _ _ _ | refine (va_up_ne _ _ (by omega)).trans ?_)) rfl ?_
    refine xs_aload_n dC_areOfOneForm_79 rfl ?_
    refine xs_get dC_areOfOneForm_80 flC_28 (by repeat (first | assumption | exact va_up_self _ _ _ | refine (va_up_ne _ _ (by omega)).trans ?_)) rfl ?_
    refine xs_cV_i (As := [_, _]) dC_areOfOneForm_83 lkC_96 (by repeat (first | assumption | exact va_up_self _ _ _ | refine (va_up_ne _ _ (by omega)).trans ?_)) (k_T_isEquivalentTo (p:=f.1) (q:=g.1) (by repeat (first | assumption | exact va_up_self _ _ _ | refine (va_up_ne _ _ (by omega)).trans ?_)) (by repeat (first | assumption | exact va_up_self _ _ _ | refine (va_up_ne _ _ (by omega)).trans ?_)) (bd_mono hfo.1 (by decide)) (bd_mono hgo.1 (by decide)) hok.2.2.1) rfl rfl (Nat.le_of_ble_eq_true rfl) ⟨by decide, by decide⟩ ⟨by omega, by omega⟩ ?_
    refine xs_if_eq dC_areOfOneForm_86 (fun h => ?_) (fun h => ?_)
    · refine xs_iconst (v := 0) dC_areOfOneForm_93 (by decide) ?_
      exact xs_iret dC_areOfOneForm_94 rfl rfl (by omega) (by omega) ⟨_, rfl, rfl, by rw [zSame, decide_eq_true h9, (bI_0 _).mp h]; rfl, hcry, hfr⟩
    · refine xs_iconst (v := 1) dC_areOfOneForm_89 (by decide) ?_
      refine xs_goto dC_areOfOneForm_90 ?_
      exact xs_iret dC_areOfOneForm_94 rfl rfl (by omega) (by omega) ⟨_, rfl, rfl, by rw [zSame, decide_eq_true h9, (bI_1n _).mp h]; rfl, hcry, hfr⟩
