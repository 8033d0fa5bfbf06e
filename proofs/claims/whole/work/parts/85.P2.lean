/-! the reference's growth: small triples by 0 .. 124, lines by 0 .. 4912 -/
def gix (p : P3) : Nat := (25 * (p.1 + 2) + 5 * (p.2.1 + 2) + p.2.2 + 2).toNat
def zat (k : Nat) : P3 := (((k / 289 : Nat) : Int) - 8, ((k / 17 % 17 : Nat) : Int) - 8, ((k % 17 : Nat) : Int) - 8)
def zix (p : P3) : Nat := (289 * (p.1 + 8) + 17 * (p.2.1 + 8) + p.2.2 + 8).toNat
theorem gat_bd {k : Nat} (h : k < 125) : bd 3 (gat k) := by
  refine ⟨?_, ?_, ?_⟩ <;> simp only [gat] <;> omega
theorem zat_bd {k : Nat} (h : k < 4913) : bd 9 (zat k) := by
  refine ⟨?_, ?_, ?_⟩ <;> simp only [zat] <;> omega
theorem gat_inj {j k : Nat} (h : gat j = gat k) : j = k := by
  simp only [gat, Prod.mk.injEq] at h
  omega
theorem zat_inj {j k : Nat} (h : zat j = zat k) : j = k := by
  simp only [zat, Prod.mk.injEq] at h
  omega
theorem gix_lt {p : P3} (h : bd 3 p) : gix p < 125 := by
  obtain ⟨h1, h2, h3⟩ := h
  unfold gix
  omega
theorem zix_lt {p : P3} (h : bd 9 p) : zix p < 4913 := by
  obtain ⟨h1, h2, h3⟩ := h
  unfold zix
  omega
theorem gat_gix {p : P3} (h : bd 3 p) : gat (gix p) = p := by
  obtain ⟨a, b, c⟩ := p
  obtain ⟨h1, h2, h3⟩ := h
  simp only at h1 h2 h3
  simp only [gat, gix, Prod.mk.injEq]
  omega
theorem zat_zix {p : P3} (h : bd 9 p) : zat (zix p) = p := by
  obtain ⟨a, b, c⟩ := p
  obtain ⟨h1, h2, h3⟩ := h
  simp only at h1 h2 h3
  simp only [zat, zix, Prod.mk.injEq]
  omega
/-- the set that grows, as the reference holds it -/
def mIn (G : xG) (b : Nat) (P : P3 → Prop) : Prop := ∃ (x : Nat → Int32) (I : Nat → Bool), G (b + 13) = oB 125 x ∧ (∀ k, k < 125 → x k = bI (I k)) ∧ ∀ k, k < 125 → (I k = true ↔ P (gat k))
theorem mIn_c {G : xG} {b : Nat} {P Q : P3 → Prop} (h : mIn G b P) (e : ∀ p, bd 3 p → (P p ↔ Q p)) : mIn G b Q := by
  obtain ⟨x, I, h1, h2, h3⟩ := h
  exact ⟨x, I, h1, h2, fun k hk => (h3 k hk).trans (e _ (gat_bd hk))⟩
theorem mIn_fr {G H : xG} {b : Nat} {P : P3 → Prop} (h : mIn G b P) (e : H (b + 13) = G (b + 13)) : mIn H b P := by
  obtain ⟨x, I, h1, h23⟩ := h
  exact ⟨x, I, e.trans h1, h23⟩
/-- its members' numbers -/
def mbs (I : Nat → Bool) (k : Nat) : List Nat := (List.range k).filter I
theorem mbs_s (I : Nat → Bool) (k : Nat) : mbs I (k + 1) = mbs I k ++ (if I k = true then [k] else []) := by
  unfold mbs
  rw [List.range_succ, List.filter_append]
  congr 1
  simp only [List.filter_cons, List.filter_nil]
theorem mbs_le (I : Nat → Bool) (k : Nat) : (mbs I k).length ≤ k := by
  have := List.length_filter_le I (List.range k)
  rw [List.length_range] at this
  exact this
section P2
variable {n b : Nat} {G : xG} {rf sz sp ac zs ft : Int32} {gd : Bool} {th : Nat → Int64} {P : P3 → Prop}
theorem k_B_isSmall {x : Int} (hx : x.natAbs < 4611686018427387904) : xK mB_isSmall [.long (iL x)] n G 0 0 (qI n G (bI (decide (x.natAbs < 3)))) xNo := by
  refine xK_of2 (L0 := [(0, _)]) (by decide +kernel) rfl (Nat.le_of_ble_eq_true rfl) rfl ?_
  refine xs_lload_n dB_isSmall_0 rfl ?_
  refine xs_ldc2 dB_isSmall_1 kcB_310 ?_
  refine xs_ldc2 dB_isSmall_4 kcB_96 ?_
  refine xs_cS_i (As := [_, _, _]) dB_isSmall_7 lkB_169 (k_B_in (lo:=-2) (hi:=2) hx (by decide) (by decide)) rfl rfl (Nat.le_of_ble_eq_true rfl) ⟨by decide, by decide⟩ ⟨by omega, by omega⟩ ?_
  have e : decide ((-2 : Int) ≤ x ∧ x ≤ 2) = decide (x.natAbs < 3) := by
    rw [Bool.eq_iff_iff, decide_eq_true_iff, decide_eq_true_iff]
    omega
  exact xs_iret dB_isSmall_10 rfl (bI_n _) (by omega) (by omega) ⟨by rw [e], rfl, rfl⟩
theorem k_B_grow_ {p : P3} (hp : bd 281474976710656 p) (hc : G b = mCl b rf sz sp gd ac zs ft) (h8 : G (b + 8) = oL 3 th) (ht : t3P th p) (hI : mIn G b P) : xK mB_grow [.ref b] n G 0 0 (qVx n (fun H => mIn H b (fun q => P q ∨ q = p) ∧ (∃ x, H (b + 13) = oB 125 x) ∧ ∀ k, k ≠ b + 13 → H k = G k)) xNo := by
  obtain ⟨x, I, g1, g2, g3⟩ := id hI
  obtain ⟨b1, b2, b3⟩ := id hp
  obtain ⟨a0, a1, a2⟩ := ht
  have i0 : vp_in (0 : Int32) 3 := in3 (j := 0) (by decide)
  have i1 : vp_in (1 : Int32) 3 := in3 (j := 1) (by decide)
  have i2 : vp_in (2 : Int32) 3 := in3 (j := 2) (by decide)
  have j0 : (0 : Int32).toNatClampNeg = 0 := by decide
  have j1 : (1 : Int32).toNatClampNeg = 1 := by decide
  have j2 : (2 : Int32).toNatClampNeg = 2 := by decide
  have no : ¬ bd 3 p → xS mB_grow n 0 0 (qVx n (fun H => mIn H b (fun q => P q ∨ q = p) ∧ (∃ x, H (b + 13) = oB 125 x) ∧ ∀ k, k ≠ b + 13 → H k = G k)) xNo 83 [(0, .ref b)] [] n G 0 0 := by
    intro hnb
    exact xs_vret dB_grow_83 rfl (by omega) (by omega) ⟨rfl, rfl, mIn_c hI (fun q hq => ⟨Or.inl, fun h => h.elim id (fun e => absurd (e ▸ hq) hnb)⟩), ⟨x, g1⟩, fun _ _ => rfl⟩
  refine xK_of2 (L0 := [(0, _)]) (by decide +kernel) rfl (Nat.le_of_ble_eq_true rfl) rfl ?_
  refine xs_aload_n dB_grow_0 rfl ?_
  refine xs_get dB_grow_1 flB_32 (by repeat (first | exact va_up_self _ _ _ | assumption | refine (va_up_ne _ _ (by omega)).trans ?_)) rfl ?_
  refine xs_iconst (v := 0) dB_grow_4 (by decide) ?_
  refine xs_lald dB_grow_5 (by repeat (first | exact va_up_self _ _ _ | assumption | refine (va_up_ne _ _ (by omega)).trans ?_)) (by assumption) ?_
  rw [j0, a0]
  refine xs_cS_i (As := [_]) dB_grow_6 lkB_312 (k_B_isSmall (by omega)) rfl rfl (Nat.le_of_ble_eq_true rfl) ⟨by decide, by decide⟩ ⟨by omega, by omega⟩ ?_
  refine xs_ifb_eq dB_grow_9 (fun h => no (fun q => of_decide_eq_false h q.1)) (fun h1 => ?_)
  refine xs_aload_n dB_grow_12 rfl ?_
  refine xs_get dB_grow_13 flB_32 (by repeat (first | exact va_up_self _ _ _ | assumption | refine (va_up_ne _ _ (by omega)).trans ?_)) rfl ?_
  refine xs_iconst (v := 1) dB_grow_16 (by decide) ?_
  refine xs_lald dB_grow_17 (by repeat (first | exact va_up_self _ _ _ | assumption | refine (va_up_ne _ _ (by omega)).trans ?_)) (by assumption) ?_
  rw [j1, a1]
  refine xs_cS_i (As := [_]) dB_grow_18 lkB_312 (k_B_isSmall (by omega)) rfl rfl (Nat.le_of_ble_eq_true rfl) ⟨by decide, by decide⟩ ⟨by omega, by omega⟩ ?_
  refine xs_ifb_eq dB_grow_21 (fun h => no (fun q => of_decide_eq_false h q.2.1)) (fun h2 => ?_)
  refine xs_aload_n dB_grow_24 rfl ?_
  refine xs_get dB_grow_25 flB_32 (by repeat (first | exact va_up_self _ _ _ | assumption | refine (va_up_ne _ _ (by omega)).trans ?_)) rfl ?_
  refine xs_iconst (v := 2) dB_grow_28 (by decide) ?_
  refine xs_lald dB_grow_29 (by repeat (first | exact va_up_self _ _ _ | assumption | refine (va_up_ne _ _ (by omega)).trans ?_)) (by assumption) ?_
  rw [j2, a2]
  refine xs_cS_i (As := [_]) dB_grow_30 lkB_312 (k_B_isSmall (by omega)) rfl rfl (Nat.le_of_ble_eq_true rfl) ⟨by decide, by decide⟩ ⟨by omega, by omega⟩ ?_
  refine xs_ifb_eq dB_grow_33 (fun h => no (fun q => of_decide_eq_false h q.2.2)) (fun h3 => ?_)
  have hb3 : bd 3 p := ⟨of_decide_eq_true h1, of_decide_eq_true h2, of_decide_eq_true h3⟩
  have hlt := gix_lt hb3
  obtain ⟨l1, l2, l3⟩ := id hb3
  clear no
  refine xs_aload_n dB_grow_36 rfl ?_
  refine xs_get dB_grow_37 flB_48 (by repeat (first | exact va_up_self _ _ _ | assumption | refine (va_up_ne _ _ (by omega)).trans ?_)) rfl ?_
  refine xs_ldc2 dB_grow_40 kcB_316 ?_
  refine xs_aload_n dB_grow_43 rfl ?_
  refine xs_get dB_grow_44 flB_32 (by repeat (first | exact va_up_self _ _ _ | assumption | refine (va_up_ne _ _ (by omega)).trans ?_)) rfl ?_
  refine xs_iconst (v := 0) dB_grow_47 (by decide) ?_
  refine xs_lald dB_grow_48 (by repeat (first | exact va_up_self _ _ _ | assumption | refine (va_up_ne _ _ (by omega)).trans ?_)) (by assumption) ?_
  refine xs_ldc2 dB_grow_49 kcB_96 ?_
  refine xs_ladd dB_grow_52 ?_
  refine xs_lmul dB_grow_53 ?_
  refine xs_ldc2 dB_grow_54 kcB_318 ?_
  refine xs_aload_n dB_grow_57 rfl ?_
  refine xs_get dB_grow_58 flB_32 (by repeat (first | exact va_up_self _ _ _ | assumption | refine (va_up_ne _ _ (by omega)).trans ?_)) rfl ?_
  refine xs_iconst (v := 1) dB_grow_61 (by decide) ?_
  refine xs_lald dB_grow_62 (by repeat (first | exact va_up_self _ _ _ | assumption | refine (va_up_ne _ _ (by omega)).trans ?_)) (by assumption) ?_
  refine xs_ldc2 dB_grow_63 kcB_96 ?_
  refine xs_ladd dB_grow_66 ?_
  refine xs_lmul dB_grow_67 ?_
  refine xs_ladd dB_grow_68 ?_
  refine xs_aload_n dB_grow_69 rfl ?_
  refine xs_get dB_grow_70 flB_32 (by repeat (first | exact va_up_self _ _ _ | assumption | refine (va_up_ne _ _ (by omega)).trans ?_)) rfl ?_
  refine xs_iconst (v := 2) dB_grow_73 (by decide) ?_
  refine xs_lald dB_grow_74 (by repeat (first | exact va_up_self _ _ _ | assumption | refine (va_up_ne _ _ (by omega)).trans ?_)) (by assumption) ?_
  refine xs_ladd dB_grow_75 ?_
  refine xs_ldc2 dB_grow_76 kcB_96 ?_
  refine xs_ladd dB_grow_79 ?_
  rw [j0, j1, j2, a0, a1, a2, show (25 : Int64) * (iL p.1 + 2) + 5 * (iL p.2.1 + 2) + iL p.2.2 + 2 = iL ((gix p : Nat) : Int) by
    rw [show (25 : Int64) = iL 25 from rfl, show (5 : Int64) = iL 5 from rfl, show (2 : Int64) = iL 2 from rfl, iL_add, iL_add, iL_mul, iL_mul, iL_add, iL_add, iL_add]
    congr 1
    unfold gix
    omega]
  refine xs_l2i dB_grow_80 ?_
  rw [iL_i, ← iI_nat]
  have vi : vp_in (nI (gix p)) 125 := vp_in_nI hlt (by omega)
  have hnar : vp_nar .boolean 1 = 1 := by decide
  refine xs_iconst (v := 1) dB_grow_81 (by decide) ?_
  refine xs_zast dB_grow_82 (by repeat (first | exact va_up_self _ _ _ | assumption | refine (va_up_ne _ _ (by omega)).trans ?_)) (by assumption) ?_
  rw [hnar, nI_clamp (by omega)]
  refine xs_vret dB_grow_83 rfl (by omega) (by omega) ⟨rfl, rfl, ⟨upd x (gix p) 1, fun k => I k || decide (k = gix p), va_up_self _ _ _, fun k hk => ?_, fun k hk => ?_⟩, ⟨_, va_up_self _ _ _⟩, fun k hk => va_up_ne _ _ hk⟩
  · simp only [upd]
    by_cases e : k = gix p
    · rw [if_pos e, decide_eq_true e, Bool.or_true]
      rfl
    · rw [if_neg e, decide_eq_false e, Bool.or_false]
      exact g2 k hk
  · rw [Bool.or_eq_true, decide_eq_true_iff, g3 k hk]
    refine or_congr Iff.rfl ⟨fun e => by rw [e]; exact gat_gix hb3, fun e => gat_inj (by rw [e, gat_gix hb3])⟩
theorem k_B_members {x l0 : Nat → Int32} {I : Nat → Bool} (hc : G b = mCl b rf sz sp gd ac zs ft) (h13 : G (b + 13) = oB 125 x) (hx : ∀ k, k < 125 → x k = bI (I k)) (h14 : G (b + 14) = oI 125 l0) :
    xK mB_members [.ref b] n G 0 0 (qIx n (fun q H => q = nI (mbs I 125).length ∧ ∃ l, H = va_up G (b + 14) (oI 125 l) ∧ ∀ i k, (mbs I 125)[i]? = some k → l i = nI k)) xNo := by
  have loop : ∀ (m k : Nat) (l : Nat → Int32), 125 - k < m → k ≤ 125 → (∀ i j, (mbs I k)[i]? = some j → l i = nI j) → xS mB_members n 0 0 (qIx n (fun q H => q = nI (mbs I 125).length ∧ ∃ l, H = va_up G (b + 14) (oI 125 l) ∧ ∀ i k, (mbs I 125)[i]? = some k → l i = nI k)) xNo 4 [(0, .ref b), (1, .int (nI (mbs I k).length)), (2, .int (nI k))] [] n (va_up G (b + 14) (oI 125 l)) 0 0 := by
    intro m
    induction m with
    | zero => intro k l q; exact absurd q (by omega)
    | succ m ih =>
      intro k l q1 q2 hl
      have hle := mbs_le I k
      refine xs_iload_n dB_members_4 rfl ?_
      refine xs_bipush (v := 125) dB_members_5 (by decide) ?_
      refine xs_icmp_ge dB_members_7 (fun hg => ?_) (fun hg => ?_)
      · have hk : k = 125 := by
          have := (nI_leI (a := 125) (by omega) (by omega)).mp hg
          omega
        subst hk
        refine xs_iload_n dB_members_35 rfl ?_
        exact xs_iret dB_members_36 rfl rfl (by omega) (by omega) ⟨_, rfl, rfl, rfl, l, rfl, hl⟩
      · have hk : k < 125 := nI_lt_of (b := 125) (by omega) (by omega) hg
        have vk : vp_in (nI k) 125 := vp_in_nI hk (by omega)
        have vn : vp_in (nI (mbs I k).length) 125 := vp_in_nI (by omega) (by omega)
        have hgo := fun l => ih (k + 1) l (by omega) (by omega)
        rw [mbs_s] at hgo
        refine xs_aload_n dB_members_10 rfl ?_
        refine xs_get dB_members_11 flB_48 (by repeat (first | exact va_up_self _ _ _ | assumption | refine (va_up_ne _ _ (by omega)).trans ?_)) rfl ?_
        refine xs_iload_n dB_members_14 rfl ?_
        refine xs_zald dB_members_15 (by repeat (first | exact va_up_self _ _ _ | assumption | refine (va_up_ne _ _ (by omega)).trans ?_)) (by assumption) ?_
        rw [nI_clamp (by omega), hx k hk]
        refine xs_ifb_eq dB_members_16 (fun hb => ?_) (fun hb => ?_)
        · rw [if_neg (by rw [hb]; decide), List.append_nil] at hgo
          refine xs_iinc (L2 := [(2, _), (0, _), (1, _)]) dB_members_29 rfl rfl (by decide) rfl ?_
          refine xs_goto dB_members_32 ?_
          refine xs_pick (L2 := [(0, _), (1, _), (2, _)]) [1, 2, 0] rfl ?_
          rw [xii]
          exact hgo l hl
        · rw [if_pos hb] at hgo
          refine xs_aload_n dB_members_19 rfl ?_
          refine xs_get dB_members_20 flB_51 (by repeat (first | exact va_up_self _ _ _ | assumption | refine (va_up_ne _ _ (by omega)).trans ?_)) rfl ?_
          refine xs_iload_n dB_members_23 rfl ?_
          refine xs_iload_n dB_members_24 rfl ?_
          refine xs_iast dB_members_25 (by repeat (first | exact va_up_self _ _ _ | assumption | refine (va_up_ne _ _ (by omega)).trans ?_)) (by assumption) ?_
          refine xs_iinc (L2 := [(1, _), (0, _), (2, _)]) dB_members_26 rfl rfl (by decide) rfl ?_
          refine xs_iinc (L2 := [(2, _), (1, _), (0, _)]) dB_members_29 rfl rfl (by decide) rfl ?_
          refine xs_goto dB_members_32 ?_
          refine xs_pick (L2 := [(0, _), (1, _), (2, _)]) [2, 1, 0] rfl ?_
          rw [xii, xii, bx_uu, nI_clamp (by omega)]
          have h2 := hgo (upd l (mbs I k).length (nI k)) (fun i j hij => by
            simp only [upd]
            by_cases hi : i = (mbs I k).length
            · subst hi
              rw [List.getElem?_append_right (Nat.le_refl _), Nat.sub_self] at hij
              cases hij
              rw [if_pos rfl]
            · have := (List.getElem?_eq_some_iff.mp hij).1
              rw [List.length_append, List.length_singleton] at this
              rw [List.getElem?_append_left (by omega)] at hij
              rw [if_neg hi]
              exact hl i j hij)
          rw [List.length_append, List.length_singleton] at h2
          exact h2
  refine xK_of2 (L0 := [(0, _)]) (by decide +kernel) rfl (Nat.le_of_ble_eq_true rfl) rfl ?_
  refine xs_iconst (v := 0) dB_members_0 (by decide) ?_
  refine xs_istore_n (L2 := [(1, _), (0, _)]) dB_members_1 (by decide) rfl ?_
  refine xs_iconst (v := 0) dB_members_2 (by decide) ?_
  refine xs_istore_n (L2 := [(2, _), (1, _), (0, _)]) dB_members_3 (by decide) rfl ?_
  refine xs_pick (L2 := [(0, _), (1, _), (2, _)]) [2, 1, 0] rfl ?_
  have hgo := loop 126 0 l0 (by omega) (by omega) (fun i j h => by cases h)
  rw [va_up_same h14] at hgo
  exact hgo
end P2
