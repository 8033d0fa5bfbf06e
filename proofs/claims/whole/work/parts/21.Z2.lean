def zax (G : xG) (pa : Nat → Nat) (Z : List P3) : Prop := ∀ k a, Z[k]? = some a → G (pa k) = xTp a
def zms (ms : Nat → Int32) (D Z : List P3) : Prop := ∀ k a, Z[k]? = some a → ms k = nI (mem D a)
def zcv (cv : Nat → Int32) (R : Nat → Nat) (N : Nat) : Prop := ∀ k, k < N → cv k = nI (R k) ∧ R k < 65536
/-- directions, zones found so far, rows of what was looked at -/
def zst (G : xG) (z : Nat) (D Z : List P3) (R : Nat → Nat) : Prop := ∃ (fd fa : Nat → Option Nat) (pa : Nat → Nat) (ms cv : Nat → Int32), zlo G z fd fa pa ms cv D.length Z.length ∧ zdr G z D ∧ zax G pa Z ∧ zms ms D Z ∧ zcv cv R D.length
theorem mem_lt (D : List P3) (a : P3) (h : D.length ≤ 16) : mem D a < 65536 := Nat.lt_of_lt_of_le (mk_lt _ _) (Nat.pow_le_pow_right (by decide) h : 2 ^ D.length ≤ 2 ^ 16)
theorem cr_bd {d e : P3} (hd : bd 730 d) (he : bd 730 e) : bd 1100000 (cr d e) := by
  obtain ⟨d1, d2, d3⟩ := d
  obtain ⟨e1, e2, e3⟩ := e
  obtain ⟨x1, x2, x3⟩ := hd
  obtain ⟨y1, y2, y3⟩ := he
  simp only at x1 x2 x3 y1 y2 y3
  have a1 := mulb (A := 729) (B := 729) (a := d2) (b := e3) (by omega) (by omega)
  have a2 := mulb (A := 729) (B := 729) (a := d3) (b := e2) (by omega) (by omega)
  have a3 := mulb (A := 729) (B := 729) (a := d3) (b := e1) (by omega) (by omega)
  have a4 := mulb (A := 729) (B := 729) (a := d1) (b := e3) (by omega) (by omega)
  have a5 := mulb (A := 729) (B := 729) (a := d1) (b := e2) (by omega) (by omega)
  have a6 := mulb (A := 729) (B := 729) (a := d2) (b := e1) (by omega) (by omega)
  refine ⟨?_, ?_, ?_⟩ <;> simp only [cr] <;> omega
theorem nI_bit {m j : Nat} (hm : m < 65536) (hj : j < 16) : nI m &&& nI (2 ^ j) = 0 ↔ m.testBit j = false := by
  rw [nI_and, show (0 : Int32) = nI 0 from rfl, nI_eq (Nat.lt_of_le_of_lt Nat.and_le_left (by omega)) (by decide)]
  constructor
  · intro h
    have h2 : (m &&& 2 ^ j).testBit j = false := by rw [h]; exact Nat.zero_testBit j
    rw [Nat.testBit_and, Nat.testBit_two_pow_self, Bool.and_true] at h2
    exact h2
  · intro h
    apply Nat.eq_of_testBit_eq
    intro i
    rw [Nat.testBit_and, Nat.testBit_two_pow, Nat.zero_testBit]
    by_cases hij : j = i
    · subst hij
      rw [h]
      rfl
    · rw [decide_eq_false hij, Bool.and_false]
def zR (R : Nat → Nat) (M i : Nat) : Nat → Nat := fun n => if n < i ∧ M.testBit n = true then R n ||| M else R n
theorem k_Z_take {n z i j : Nat} {G : xG} {D Z : List P3} {R : Nat → Nat} {d e : P3} {lst : Int} (hS : zst G z D Z R) (hok : dOk D) (hZ : Z.length < 120) (hd : D[i]? = some d) (he : D[j]? = some e) (hl : 0 ≤ lst ∧ lst ≤ 100) :
    xK mZ_take [.ref z, .int (nI i), .int (nI j), .int (iI lst)] n G 0 0 (qVx n (fun H => zst H z D (if lst ≤ (pc (mem D (nz (cr d e))) : Int) then Z ++ [nz (cr d e)] else Z) (zR R (mem D (nz (cr d e))) D.length) ∧ xfr z (z + 141) G H)) xNo := by
  obtain ⟨fd, fa, pa, ms, cv, hz, hdr, hax, hms, hcv⟩ := hS
  obtain ⟨⟨g0, g1, g2, g3, g4⟩, ⟨f1, f2, f3, f4⟩, ht, hn⟩ := id hz
  have hL := hok.1
  have hil := (List.getElem?_eq_some_iff.mp hd).1
  have hjl := (List.getElem?_eq_some_iff.mp he).1
  have hdk := hok.2 d (List.mem_of_getElem? hd)
  have hek := hok.2 e (List.mem_of_getElem? he)
  have hini := fin16 (i := i) (by omega)
  have hinj := fin16 (i := j) (by omega)
  have hinc : vp_in (nI Z.length) 120 := vp_in_nI hZ (by omega)
  have hfi : fd (nI i).toNatClampNeg = some (z + 5 + i) := by rw [nI_clamp (by omega)]; exact f1 i (by omega)
  have hfj : fd (nI j).toNatClampNeg = some (z + 5 + j) := by rw [nI_clamp (by omega)]; exact f1 j (by omega)
  have hfc : fa (nI Z.length).toNatClampNeg = some (pa Z.length) := by rw [nI_clamp (by omega)]; exact f2 _ hZ
  obtain ⟨pl, ph⟩ := f3 _ hZ
  obtain ⟨t1, t2, t3, hT⟩ := ht (pa Z.length) (by omega) (by omega)
  have hdc := hdr i d hd
  have hec := hdr j e he
  obtain ⟨M, hM⟩ : ∃ M, M = mem D (nz (cr d e)) := ⟨_, rfl⟩
  have hMl : M < 65536 := by rw [hM]; exact mem_lt D _ hL
  rw [← hM]
  have hcb := cr_bd hdk.1 hek.1
  have hab := bd_nz hcb
  refine xK_of2 (L0 := [(0, _), (1, _), (2, _), (3, _)]) (by decide +kernel) rfl (Nat.le_of_ble_eq_true rfl) rfl ?_
  refine xs_aload_n dZ_take_0 rfl ?_
  refine xs_get dZ_take_1 flZ_31 (by repeat (first | assumption | exact va_up_self _ _ _ | refine (va_up_ne _ _ (by omega)).trans ?_)) rfl ?_
  refine xs_bipush (v := 120) dZ_take_4 (by decide) ?_
  refine xs_icmp_lt dZ_take_6 (fun _ => ?_) (fun hq => absurd (nI_lt hZ (by decide)) hq)
  refine xs_aload_n dZ_take_10 rfl ?_
  refine xs_get dZ_take_11 flZ_17 (by repeat (first | assumption | exact va_up_self _ _ _ | refine (va_up_ne _ _ (by omega)).trans ?_)) rfl ?_
  refine xs_aload_n dZ_take_14 rfl ?_
  refine xs_get dZ_take_15 flZ_31 (by repeat (first | assumption | exact va_up_self _ _ _ | refine (va_up_ne _ _ (by omega)).trans ?_)) rfl ?_
  refine xs_ald3 dZ_take_18 (by repeat (first | assumption | exact va_up_self _ _ _ | refine (va_up_ne _ _ (by omega)).trans ?_)) (by assumption) hfc ?_
  refine xs_aload_n dZ_take_19 rfl ?_
  refine xs_get dZ_take_20 flZ_11 (by repeat (first | assumption | exact va_up_self _ _ _ | refine (va_up_ne _ _ (by omega)).trans ?_)) rfl ?_
  refine xs_iload_n dZ_take_23 rfl ?_
  refine xs_ald3 dZ_take_24 (by repeat (first | assumption | exact va_up_self _ _ _ | refine (va_up_ne _ _ (by omega)).trans ?_)) (by assumption) hfi ?_
  refine xs_aload_n dZ_take_25 rfl ?_
  refine xs_get dZ_take_26 flZ_11 (by repeat (first | assumption | exact va_up_self _ _ _ | refine (va_up_ne _ _ (by omega)).trans ?_)) rfl ?_
  refine xs_iload_n dZ_take_29 rfl ?_
  refine xs_ald3 dZ_take_30 (by repeat (first | assumption | exact va_up_self _ _ _ | refine (va_up_ne _ _ (by omega)).trans ?_)) (by assumption) hfj ?_
  refine xs_cV_v (As := [_, _]) dZ_take_31 lkZ_57 (by repeat (first | assumption | exact va_up_self _ _ _ | refine (va_up_ne _ _ (by omega)).trans ?_)) (k_T_putCross hT hdc hec) rfl rfl (Nat.le_of_ble_eq_true rfl) ⟨by decide, by decide⟩ ⟨by omega, by omega⟩ ?_
  simp only [iL_mul, iL_sub]
  refine xs_aload_n dZ_take_34 rfl ?_
  refine xs_get dZ_take_35 flZ_17 (by repeat (first | assumption | exact va_up_self _ _ _ | refine (va_up_ne _ _ (by omega)).trans ?_)) rfl ?_
  refine xs_aload_n dZ_take_38 rfl ?_
  refine xs_get dZ_take_39 flZ_31 (by repeat (first | assumption | exact va_up_self _ _ _ | refine (va_up_ne _ _ (by omega)).trans ?_)) rfl ?_
  refine xs_ald3 dZ_take_42 (by repeat (first | assumption | exact va_up_self _ _ _ | refine (va_up_ne _ _ (by omega)).trans ?_)) (by assumption) hfc ?_
  refine xs_cV_v (As := []) dZ_take_43 lkZ_61 (by repeat (first | assumption | exact va_up_self _ _ _ | refine (va_up_ne _ _ (by omega)).trans ?_)) (k_T_normalize (p:=cr d e) (va_up_self _ _ _) (bd_mono hcb (by decide))) rfl rfl (Nat.le_of_ble_eq_true rfl) ⟨by decide, by decide⟩ ⟨by omega, by omega⟩ ?_
  rw [bx_uu]
  obtain ⟨G1, hG1⟩ : ∃ G1, G1 = va_up G (pa Z.length) (xTp (nz (cr d e))) := ⟨_, rfl⟩
  rw [← hG1]
  have hz1 : zlo G1 z fd fa pa ms cv D.length Z.length := by rw [hG1]; exact zlo_tri hz (by omega) (by omega)
  have hdr1 : zdr G1 z D := fun k x hk => by
    have hkl := (List.getElem?_eq_some_iff.mp hk).1
    rw [hG1, va_up_ne _ _ (by omega)]
    exact hdr k x hk
  have hax1 : zax G1 pa (Z ++ [nz (cr d e)]) := fun k x hk => by
    have hkl := (List.getElem?_eq_some_iff.mp hk).1
    rw [List.length_append, List.length_singleton] at hkl
    rcases Nat.lt_or_ge k Z.length with q | q
    · rw [List.getElem?_append_left q] at hk
      have hne : pa k ≠ pa Z.length := fun e9 => by
        have := f4 k Z.length (by omega) hZ e9
        omega
      rw [hG1, va_up_ne _ _ hne]
      exact hax k x hk
    · have hke : k = Z.length := by omega
      subst hke
      rw [List.getElem?_append_right (Nat.le_refl _), Nat.sub_self] at hk
      cases hk
      rw [hG1, va_up_self]
  have hfr1 : xfr z (z + 141) G G1 := by rw [hG1]; exact xfr_up xfr_rf (by omega) (by omega)
  have hT1 : G1 (pa Z.length) = xTp (nz (cr d e)) := hax1 Z.length _ (by rw [List.getElem?_append_right (Nat.le_refl _), Nat.sub_self]; rfl)
  obtain ⟨⟨u0, u1, u2, u3, u4⟩, -, ht1, -⟩ := id hz1
  refine xs_aload_n dZ_take_46 rfl ?_
  refine xs_aload_n dZ_take_47 rfl ?_
  refine xs_get dZ_take_48 flZ_17 (by repeat (first | assumption | exact va_up_self _ _ _ | refine (va_up_ne _ _ (by omega)).trans ?_)) rfl ?_
  refine xs_aload_n dZ_take_51 rfl ?_
  refine xs_get dZ_take_52 flZ_31 (by repeat (first | assumption | exact va_up_self _ _ _ | refine (va_up_ne _ _ (by omega)).trans ?_)) rfl ?_
  refine xs_ald3 dZ_take_55 (by repeat (first | assumption | exact va_up_self _ _ _ | refine (va_up_ne _ _ (by omega)).trans ?_)) (by assumption) hfc ?_
  refine xs_cV_i (As := [_]) dZ_take_56 lkZ_64 (by repeat (first | assumption | exact va_up_self _ _ _ | refine (va_up_ne _ _ (by omega)).trans ?_)) (k_Z_membersOf hz1 hdr1 hok hT1 (bd_mono hab (by decide))) rfl rfl (Nat.le_of_ble_eq_true rfl) ⟨by decide, by decide⟩ ⟨by omega, by omega⟩ ?_
  refine xs_istore (L2 := [(4, _), (0, _), (1, _), (2, _), (3, _)]) dZ_take_59 (by decide) rfl ?_
  refine xs_iconst (v := 0) dZ_take_61 (by decide) ?_
  refine xs_istore (L2 := [(5, _), (4, _), (0, _), (1, _), (2, _), (3, _)]) dZ_take_62 (by decide) rfl ?_
  rw [← hM]
  refine xs_pick (L2 := [(0, _), (1, _), (2, _), (3, _), (4, _), (5, _)]) [2, 3, 4, 5, 1, 0] rfl ?_
  have loop : ∀ (m y : Nat) (H : xG) (cv' : Nat → Int32), D.length - y < m → y ≤ D.length → zlo H z fd fa pa ms cv' D.length Z.length → zdr H z D → zax H pa (Z ++ [nz (cr d e)]) → zcv cv' (zR R M y) D.length → xfr z (z + 141) G H →
      xS mZ_take n 0 0 (qVx n (fun H => zst H z D (if lst ≤ (pc M : Int) then Z ++ [nz (cr d e)] else Z) (zR R M D.length) ∧ xfr z (z + 141) G H)) xNo 64 [(0, .ref z), (1, .int (nI i)), (2, .int (nI j)), (3, .int (iI lst)), (4, .int (nI M)), (5, .int (nI y))] [] n H 0 0 := by
    intro m
    induction m with
    | zero => intro y H cv' q; exact absurd q (by omega)
    | succ m ih =>
      intro y H cv' q1 q2 hz hdr hax hcv hfr
      obtain ⟨⟨g0, g1, g2, g3, g4⟩, -, ht, -⟩ := id hz
      refine xs_iload dZ_take_64 rfl ?_
      refine xs_aload_n dZ_take_66 rfl ?_
      refine xs_get dZ_take_67 flZ_27 (by repeat (first | assumption | exact va_up_self _ _ _ | refine (va_up_ne _ _ (by omega)).trans ?_)) rfl ?_
      refine xs_icmp_ge dZ_take_70 (fun hg => ?_) (fun hg => ?_)
      · have hy := (nI_leI (by omega) (by omega)).mp hg
        have hye : y = D.length := by omega
        subst hye
        have hpc : pc M ≤ 16 := by
          have hb : ∀ b : Bool, b.toNat ≤ 1 := fun b => by cases b <;> decide
          have : ∀ k, pcr M k ≤ k := fun k => by
            induction k with
            | zero => exact Nat.le_refl _
            | succ k ih2 => have := hb (M.testBit k); simp only [pcr]; omega
          exact this 16
        refine xs_iload dZ_take_101 rfl ?_
        refine xs_cS_i (As := [_]) dZ_take_103 lkZ_68 (k_I_bitCount hMl) rfl rfl (Nat.le_of_ble_eq_true rfl) ⟨by decide, by decide⟩ ⟨by omega, by omega⟩ ?_
        refine xs_iload_n dZ_take_106 rfl ?_
        rw [iI_nat (pc M)]
        have hiff := iI_lt (x := (pc M : Int)) (y := lst) (by omega) (by omega)
        refine xs_icmp_lt dZ_take_107 (fun hlt => ?_) (fun hlt => ?_)
        · have h9 : ¬ lst ≤ (pc M : Int) := by have := hiff.mp hlt; omega
          refine xs_vret dZ_take_131 rfl (by omega) (by omega) ⟨rfl, rfl, ?_, hfr⟩
          rw [if_neg h9]
          refine ⟨fd, fa, pa, ms, cv', hz, hdr, fun k a hk => ?_, hms, hcv⟩
          have hkl := (List.getElem?_eq_some_iff.mp hk).1
          exact hax k a (by rw [List.getElem?_append_left hkl]; exact hk)
        · have h9 : lst ≤ (pc M : Int) := Decidable.byContradiction fun q => hlt (hiff.mpr (by omega))
          refine xs_aload_n dZ_take_110 rfl ?_
          refine xs_get dZ_take_111 flZ_20 (by repeat (first | assumption | exact va_up_self _ _ _ | refine (va_up_ne _ _ (by omega)).trans ?_)) rfl ?_
          refine xs_aload_n dZ_take_114 rfl ?_
          refine xs_get dZ_take_115 flZ_31 (by repeat (first | assumption | exact va_up_self _ _ _ | refine (va_up_ne _ _ (by omega)).trans ?_)) rfl ?_
          refine xs_iload dZ_take_118 rfl ?_
          refine xs_iast dZ_take_120 (by repeat (first | assumption | exact va_up_self _ _ _ | refine (va_up_ne _ _ (by omega)).trans ?_)) (by assumption) ?_
          refine xs_aload_n dZ_take_121 rfl ?_
          refine xs_dup dZ_take_122 rfl ?_
          refine xs_get dZ_take_123 flZ_31 (by repeat (first | assumption | exact va_up_self _ _ _ | refine (va_up_ne _ _ (by omega)).trans ?_)) rfl ?_
          refine xs_iconst (v := 1) dZ_take_126 (by decide) ?_
          refine xs_iadd dZ_take_127 ?_
          refine xs_put dZ_take_128 flZ_31 ft6_5 (by repeat (first | assumption | exact va_up_self _ _ _ | refine (va_up_ne _ _ (by omega)).trans ?_)) (fun _ => rfl) (fun _ => rfl) (by simp) ?_
          refine xs_vret dZ_take_131 rfl (by omega) (by omega) ⟨rfl, rfl, ?_, ?_⟩
          · rw [if_pos h9]
            have hlen : (Z ++ [nz (cr d e)]).length = Z.length + 1 := by rw [List.length_append, List.length_singleton]
            have ec : (nI Z.length).toNatClampNeg = Z.length := nI_clamp (by omega)
            refine ⟨fd, fa, pa, upd ms Z.length (nI M), cv', ⟨⟨?_, ?_, ?_, ?_, ?_⟩, ⟨f1, f2, f3, f4⟩, fun k hk hk2 => ?_, ⟨hL, by omega⟩⟩, fun k x hk => ?_, fun k x hk => ?_, fun k x hk => ?_, hcv⟩
            · rw [va_up_self, hlen, ← nI_1]
              rfl
            · exact (by repeat (first | assumption | exact va_up_self _ _ _ | refine (va_up_ne _ _ (by omega)).trans ?_))
            · exact (by repeat (first | assumption | exact va_up_self _ _ _ | refine (va_up_ne _ _ (by omega)).trans ?_))
            · rw [va_up_ne _ _ (by omega), va_up_self, ec]
            · exact (by repeat (first | assumption | exact va_up_self _ _ _ | refine (va_up_ne _ _ (by omega)).trans ?_))
            · rw [va_up_ne _ _ (by omega), va_up_ne _ _ (by omega)]
              exact ht k hk hk2
            · have hkl := (List.getElem?_eq_some_iff.mp hk).1
              rw [va_up_ne _ _ (by omega), va_up_ne _ _ (by omega)]
              exact hdr k x hk
            · have hkl := (List.getElem?_eq_some_iff.mp hk).1
              have := f3 k (by omega)
              rw [va_up_ne _ _ (by omega), va_up_ne _ _ (by omega)]
              exact hax k x hk
            · have hkl := (List.getElem?_eq_some_iff.mp hk).1
              rcases Nat.lt_or_ge k Z.length with q | q
              · rw [List.getElem?_append_left q] at hk
                rw [pk_un (by omega)]
                exact hms k x hk
              · have hke : k = Z.length := by omega
                subst hke
                rw [List.getElem?_append_right (Nat.le_refl _), Nat.sub_self] at hk
                cases hk
                rw [pk_us, hM]
          · exact xfr_up (xfr_up hfr (by omega) (by omega)) (by omega) (by omega)
      · have hy : y < D.length := by
          rcases Nat.lt_or_ge y D.length with q | q
          · exact q
          · exact absurd (nI_le q (by omega)) hg
        have hiny := fin16 (i := y) (by omega)
        have ey : (nI y).toNatClampNeg = y := nI_clamp (by omega)
        refine xs_iload dZ_take_73 rfl ?_
        refine xs_iconst (v := 1) dZ_take_75 (by decide) ?_
        refine xs_iload dZ_take_76 rfl ?_
        refine xs_ishl dZ_take_78 ?_
        rw [sh1 y (by omega)]
        refine xs_iand dZ_take_79 ?_
        have hbit := nI_bit (m := M) (j := y) hMl (by omega)
        refine xs_if_eq dZ_take_80 (fun h => ?_) (fun h => ?_)
        · have h9 := hbit.mp h
          refine xs_iinc (L2 := [(5, _), (0, _), (1, _), (2, _), (3, _), (4, _)]) dZ_take_95 rfl rfl (by decide) rfl ?_
          refine xs_goto dZ_take_98 ?_
          refine xs_pick (L2 := [(0, _), (1, _), (2, _), (3, _), (4, _), (5, _)]) [1, 2, 3, 4, 5, 0] rfl ?_
          rw [xii]
          refine ih (y + 1) H cv' (by omega) (by omega) hz hdr hax (fun k hk => ?_) hfr
          have e9 : zR R M (y + 1) k = zR R M y k := by
            unfold zR
            by_cases hky : k = y
            · subst hky
              rw [if_neg (by rw [h9]; simp), if_neg (by rw [h9]; simp)]
            · have hiff : (k < y + 1 ∧ M.testBit k = true) ↔ (k < y ∧ M.testBit k = true) := by
                constructor <;> intro ⟨q, r⟩ <;> exact ⟨by omega, r⟩
              simp only [hiff]
          rw [e9]
          exact hcv k hk
        · have h9 : M.testBit y = true := by
            cases hq : M.testBit y
            · exact absurd (hbit.mpr hq) h
            · rfl
          obtain ⟨c1, c2⟩ := hcv y hy
          have hzy : zR R M y y = R y := by
            unfold zR
            rw [if_neg (by omega)]
          rw [hzy] at c1 c2
          refine xs_aload_n dZ_take_83 rfl ?_
          refine xs_get dZ_take_84 flZ_24 (by repeat (first | assumption | exact va_up_self _ _ _ | refine (va_up_ne _ _ (by omega)).trans ?_)) rfl ?_
          refine xs_iload dZ_take_87 rfl ?_
          refine xs_dup2 dZ_take_89 rfl rfl ?_
          refine xs_iald dZ_take_90 (by repeat (first | assumption | exact va_up_self _ _ _ | refine (va_up_ne _ _ (by omega)).trans ?_)) (by assumption) ?_
          refine xs_iload dZ_take_91 rfl ?_
          refine xs_ior dZ_take_93 ?_
          refine xs_iast dZ_take_94 (by repeat (first | assumption | exact va_up_self _ _ _ | refine (va_up_ne _ _ (by omega)).trans ?_)) (by assumption) ?_
          refine xs_iinc (L2 := [(5, _), (0, _), (1, _), (2, _), (3, _), (4, _)]) dZ_take_95 rfl rfl (by decide) rfl ?_
          refine xs_goto dZ_take_98 ?_
          refine xs_pick (L2 := [(0, _), (1, _), (2, _), (3, _), (4, _), (5, _)]) [1, 2, 3, 4, 5, 0] rfl ?_
          rw [xii, ey, c1, nI_or]
          refine ih (y + 1) _ (upd cv' y (nI (R y ||| M))) (by omega) (by omega) ⟨⟨?_, ?_, ?_, ?_, ?_⟩, ⟨f1, f2, f3, f4⟩, fun k hk hk2 => ?_, ⟨hL, by omega⟩⟩ (fun k x hk => ?_) (fun k x hk => ?_) (fun k hk => ?_) (xfr_up hfr (by omega) (by omega))
          · exact (by repeat (first | assumption | exact va_up_self _ _ _ | refine (va_up_ne _ _ (by omega)).trans ?_))
          · exact (by repeat (first | assumption | exact va_up_self _ _ _ | refine (va_up_ne _ _ (by omega)).trans ?_))
          · exact (by repeat (first | assumption | exact va_up_self _ _ _ | refine (va_up_ne _ _ (by omega)).trans ?_))
          · exact (by repeat (first | assumption | exact va_up_self _ _ _ | refine (va_up_ne _ _ (by omega)).trans ?_))
          · exact (by repeat (first | assumption | exact va_up_self _ _ _ | refine (va_up_ne _ _ (by omega)).trans ?_))
          · rw [va_up_ne _ _ (by omega)]
            exact ht k hk hk2
          · have hkl := (List.getElem?_eq_some_iff.mp hk).1
            rw [va_up_ne _ _ (by omega)]
            exact hdr k x hk
          · have hkl := (List.getElem?_eq_some_iff.mp hk).1
            rw [List.length_append, List.length_singleton] at hkl
            have := f3 k (by omega)
            rw [va_up_ne _ _ (by omega)]
            exact hax k x hk
          · by_cases hky : k = y
            · subst hky
              rw [pk_us]
              have e9 : zR R M (k + 1) k = R k ||| M := by
                unfold zR
                rw [if_pos ⟨by omega, h9⟩]
              rw [e9]
              exact ⟨rfl, Nat.or_lt_two_pow (n := 16) c2 hMl⟩
            · rw [pk_un hky]
              have e9 : zR R M (y + 1) k = zR R M y k := by
                unfold zR
                have hiff : (k < y + 1 ∧ M.testBit k = true) ↔ (k < y ∧ M.testBit k = true) := by
                  constructor <;> intro ⟨q, r⟩ <;> exact ⟨by omega, r⟩
                simp only [hiff]
              rw [e9]
              exact hcv k hk
  exact loop (D.length + 1) 0 G1 cv (by omega) (by omega) hz1 hdr1 hax1 (fun k hk => by
    have e9 : zR R M 0 k = R k := by
      unfold zR
      rw [if_neg (by omega)]
    rw [e9]
    exact hcv k hk) hfr1
