section M5
variable {n b : Nat} {G : xG} {rf sz sp ac ft : Int32} {gd : Bool} {th wy : Nat → Int64} {D Z : List P3}
def zfr (b : Nat) (G H : xG) : Prop := ∀ k, k ≠ b → (k < b + 10 ∨ b + 13 ≤ k) → H k = G k
theorem k_B_putZone {a : P3} (hc : G b = mCl b rf sz sp gd ac (nI Z.length) ft) (h8 : G (b + 8) = oL 3 th) (ht : t3P th a) (hz : zmo G b D Z) (hl : Z.length < 120) (hb : ∀ x ∈ Z, bd 4000000 x) (ha : bd 4000000 a) (hD : D.length ≤ 16) :
    xK mB_putZone [.ref b, .int (nI (mem D a))] n G 0 0 (qVx n (fun H => (∃ p, p ≤ Z.length ∧ (srt D Z.length Z → ∀ k x, p ≤ k → Z[k]? = some x → bef D a x) ∧ (∀ x, 0 < p → Z[p - 1]? = some x → ¬ bef D a x) ∧ zmo H b D (insL Z a p)) ∧ H b = mCl b rf sz sp gd ac (nI (Z.length + 1)) ft ∧ zfr b G H)) xNo := by
  have ht3 := t3P_iff.mp ht
  have hlt := mem_lt D a hD
  have hpk := pc_le (mem D a)
  obtain ⟨ax0, mn0, wh0, h10, h11, h12, hx0, hm0, hw0, _⟩ := hz
  -- the shifting: from p on all stand one further
  have shP : ∀ (p : Nat) (ax : Nat → Int64) (mn wh : Nat → Int32), ((∀ k x, k < p → Z[k]? = some x → (ax (3 * k) = iL x.1 ∧ ax (3 * k + 1) = iL x.2.1 ∧ ax (3 * k + 2) = iL x.2.2) ∧ mn k = nI (pc (mem D x)) ∧ wh k = nI (mem D x)) ∧ (∀ k x, p ≤ k → Z[k]? = some x → (ax (3 * (k + 1)) = iL x.1 ∧ ax (3 * (k + 1) + 1) = iL x.2.1 ∧ ax (3 * (k + 1) + 2) = iL x.2.2) ∧ mn (k + 1) = nI (pc (mem D x)) ∧ wh (k + 1) = nI (mem D x))) → True := fun _ _ _ _ _ => trivial
  obtain ⟨Sh, hSh⟩ : ∃ Sh : Nat → (Nat → Int64) → (Nat → Int32) → (Nat → Int32) → Prop, ∀ p ax mn wh, Sh p ax mn wh ↔ ((∀ k x, k < p → Z[k]? = some x → (ax (3 * k) = iL x.1 ∧ ax (3 * k + 1) = iL x.2.1 ∧ ax (3 * k + 2) = iL x.2.2) ∧ mn k = nI (pc (mem D x)) ∧ wh k = nI (mem D x)) ∧ (∀ k x, p ≤ k → Z[k]? = some x → (ax (3 * (k + 1)) = iL x.1 ∧ ax (3 * (k + 1) + 1) = iL x.2.1 ∧ ax (3 * (k + 1) + 2) = iL x.2.2) ∧ mn (k + 1) = nI (pc (mem D x)) ∧ wh (k + 1) = nI (mem D x))) := ⟨_, fun _ _ _ _ => Iff.rfl⟩
  clear shP
  obtain ⟨PQ, hPQ⟩ : ∃ PQ : xG → Prop, ∀ H, PQ H ↔ ((∃ p, p ≤ Z.length ∧ (srt D Z.length Z → ∀ k x, p ≤ k → Z[k]? = some x → bef D a x) ∧ (∀ x, 0 < p → Z[p - 1]? = some x → ¬ bef D a x) ∧ zmo H b D (insL Z a p)) ∧ H b = mCl b rf sz sp gd ac (nI (Z.length + 1)) ft ∧ zfr b G H) := ⟨_, fun _ => Iff.rfl⟩
  have hQ : (fun H => (∃ p, p ≤ Z.length ∧ (srt D Z.length Z → ∀ k x, p ≤ k → Z[k]? = some x → bef D a x) ∧ (∀ x, 0 < p → Z[p - 1]? = some x → ¬ bef D a x) ∧ zmo H b D (insL Z a p)) ∧ H b = mCl b rf sz sp gd ac (nI (Z.length + 1)) ft ∧ zfr b G H) = PQ := funext fun H => propext (hPQ H).symm
  rw [hQ]
  -- the end: the new one is put at p
  have put : ∀ (p : Nat) (ax : Nat → Int64) (mn wh : Nat → Int32) (H : xG), p ≤ Z.length → (srt D Z.length Z → ∀ k x, p ≤ k → Z[k]? = some x → bef D a x) → (∀ x, 0 < p → Z[p - 1]? = some x → ¬ bef D a x) → H b = mCl b rf sz sp gd ac (nI Z.length) ft → H (b + 8) = oL 3 th → H (b + 10) = oL 363 ax → H (b + 11) = oI 121 mn → H (b + 12) = oI 121 wh → Sh p ax mn wh → zfr b G H →
      xS mB_putZone n 0 0 (qVx n PQ) xNo 98 [(0, .ref b), (1, .int (nI (mem D a))), (2, .int (nI (pc (mem D a)))), (3, .int (nI p))] [] n H 0 0 := by
    intro p ax mn wh H hp hhi hlo hcH h8H h10 h11 h12 hsh hfr
    obtain ⟨s1, s2⟩ := (hSh _ _ _ _).mp hsh
    have vp : vp_in (nI p) 121 := vp_in_nI (by omega) (by omega)
    have loop : ∀ (m j : Nat) (ax2 : Nat → Int64) (H2 : xG), j + m = 3 → H2 b = mCl b rf sz sp gd ac (nI Z.length) ft → H2 (b + 8) = oL 3 th → H2 (b + 10) = oL 363 ax2 → H2 (b + 11) = oI 121 (upd mn p (nI (pc (mem D a)))) → H2 (b + 12) = oI 121 (upd wh p (nI (mem D a))) → (∀ q, q < j → ax2 (3 * p + q) = iL (c3 a q)) → (∀ q, (q < 3 * p ∨ 3 * p + 3 ≤ q) → ax2 q = ax q) → zfr b G H2 →
        xS mB_putZone n 0 0 (qVx n PQ) xNo 115 [(0, .ref b), (1, .int (nI (mem D a))), (2, .int (nI (pc (mem D a)))), (3, .int (nI p)), (4, .int (nI j))] [] n H2 0 0 := by
      intro m
      induction m with
      | zero =>
        intro j ax2 H2 hj hc2 h82 h102 h112 h122 hq1 hq2 hfr2
        have hj : j = 3 := by omega
        subst hj
        refine xs_iload dB_putZone_115 rfl ?_
        refine xs_iconst (v := 3) dB_putZone_117 (by decide) ?_
        refine xs_icmp_ge dB_putZone_118 (fun _ => ?_) (fun q => absurd (by decide) q)
        refine xs_aload_n dB_putZone_145 rfl ?_
        refine xs_dup dB_putZone_146 rfl ?_
        refine xs_get dB_putZone_147 flB_106 (by repeat (first | exact va_up_self _ _ _ | assumption | refine (va_up_ne _ _ (by omega)).trans ?_)) rfl ?_
        refine xs_iconst (v := 1) dB_putZone_150 (by decide) ?_
        refine xs_iadd dB_putZone_151 ?_
        rw [add1]
        refine xs_put dB_putZone_152 flB_106 ft8_17 (by repeat (first | exact va_up_self _ _ _ | assumption | refine (va_up_ne _ _ (by omega)).trans ?_)) (fun _ => rfl) (fun _ => rfl) (by simp) ?_
        refine xs_vret dB_putZone_155 rfl (by omega) (by omega) ⟨rfl, rfl, (hPQ _).mpr ⟨⟨p, hp, hhi, hlo, ax2, upd mn p (nI (pc (mem D a))), upd wh p (nI (mem D a)), ?_, ?_, ?_, fun k x hk => ?_, fun k x hk => ?_, fun k x hk => ?_, by rw [insL_len]; omega⟩, va_up_self _ _ _, fun k h1 h2 => (va_up_ne _ _ h1).trans (hfr2 k h1 h2)⟩⟩
        · rw [va_up_ne _ _ (by omega)]; exact h102
        · rw [va_up_ne _ _ (by omega)]; exact h112
        · rw [va_up_ne _ _ (by omega)]; exact h122
        · rw [insL_get hp] at hk
          split at hk
          next w1 =>
            rw [hq2 _ (by omega), hq2 _ (by omega), hq2 _ (by omega)]
            exact (s1 k x w1 hk).1
          next w1 =>
            split at hk
            next w2 =>
              cases hk
              subst w2
              exact ⟨hq1 0 (by decide), hq1 1 (by decide), hq1 2 (by decide)⟩
            next w2 =>
              rw [hq2 _ (by omega), hq2 _ (by omega), hq2 _ (by omega)]
              have := (s2 (k - 1) x (by omega) hk).1
              rw [show k - 1 + 1 = k by omega] at this
              exact this
        · rw [insL_get hp] at hk
          simp only [upd]
          split at hk
          next w1 =>
            rw [if_neg (by omega)]
            exact (s1 k x w1 hk).2.1
          next w1 =>
            split at hk
            next w2 =>
              cases hk
              rw [if_pos w2]
            next w2 =>
              rw [if_neg w2]
              have := (s2 (k - 1) x (by omega) hk).2.1
              rw [show k - 1 + 1 = k by omega] at this
              exact this
        · rw [insL_get hp] at hk
          simp only [upd]
          split at hk
          next w1 =>
            rw [if_neg (by omega)]
            exact (s1 k x w1 hk).2.2
          next w1 =>
            split at hk
            next w2 =>
              cases hk
              rw [if_pos w2]
            next w2 =>
              rw [if_neg w2]
              have := (s2 (k - 1) x (by omega) hk).2.2
              rw [show k - 1 + 1 = k by omega] at this
              exact this
      | succ m ih =>
        intro j ax2 H2 hj hc2 h82 h102 h112 h122 hq1 hq2 hfr2
        have vj := in3 (j := j) (by omega)
        have e7 : (3 : Int32) * nI p + nI j = nI (3 * p + j) := by rw [mul3, nI_add2]
        have v7 : vp_in ((3 : Int32) * nI p + nI j) 363 := by rw [e7]; exact vp_in_nI (by omega) (by omega)
        refine xs_iload dB_putZone_115 rfl ?_
        refine xs_iconst (v := 3) dB_putZone_117 (by decide) ?_
        refine xs_icmp_ge dB_putZone_118 (fun q => absurd ((nI_leI (a := 3) (by omega) (by omega)).mp q) (by omega)) (fun _ => ?_)
        refine xs_aload_n dB_putZone_121 rfl ?_
        refine xs_get dB_putZone_122 flB_39 (by repeat (first | exact va_up_self _ _ _ | assumption | refine (va_up_ne _ _ (by omega)).trans ?_)) rfl ?_
        refine xs_iconst (v := 3) dB_putZone_125 (by decide) ?_
        refine xs_iload_n dB_putZone_126 rfl ?_
        refine xs_imul dB_putZone_127 ?_
        refine xs_iload dB_putZone_128 rfl ?_
        refine xs_iadd dB_putZone_130 ?_
        refine xs_aload_n dB_putZone_131 rfl ?_
        refine xs_get dB_putZone_132 flB_32 (by repeat (first | exact va_up_self _ _ _ | assumption | refine (va_up_ne _ _ (by omega)).trans ?_)) rfl ?_
        refine xs_iload dB_putZone_135 rfl ?_
        refine xs_lald dB_putZone_137 (by repeat (first | exact va_up_self _ _ _ | assumption | refine (va_up_ne _ _ (by omega)).trans ?_)) (by assumption) ?_
        refine xs_last dB_putZone_138 (by repeat (first | exact va_up_self _ _ _ | assumption | refine (va_up_ne _ _ (by omega)).trans ?_)) (by assumption) ?_
        refine xs_iinc (L2 := [(4, _), (0, _), (1, _), (2, _), (3, _)]) dB_putZone_139 rfl rfl (by decide) rfl ?_
        refine xs_goto dB_putZone_142 ?_
        refine xs_pick (L2 := [(0, _), (1, _), (2, _), (3, _), (4, _)]) [1, 2, 3, 4, 0] rfl ?_
        rw [xii, e7, nI_clamp (by omega), nI_clamp (by omega), ht3 j (by omega)]
        refine ih (j + 1) _ _ (by omega) ?_ ?_ (va_up_self _ _ _) ?_ ?_ (fun q hq => ?_) (fun q hq => ?_) (fun k h1 h2 => (va_up_ne _ _ (by omega)).trans (hfr2 k h1 h2))
        · rw [va_up_ne _ _ (by omega)]; exact hc2
        · rw [va_up_ne _ _ (by omega)]; exact h82
        · rw [va_up_ne _ _ (by omega)]; exact h112
        · rw [va_up_ne _ _ (by omega)]; exact h122
        · simp only [vp_updL]
          by_cases hqj : q = j
          · subst hqj
            rw [if_pos rfl]
          · rw [if_neg (by omega)]
            exact hq1 q (by omega)
        · simp only [vp_updL]
          rw [if_neg (by omega)]
          exact hq2 q hq
    refine xs_aload_n dB_putZone_98 rfl ?_
    refine xs_get dB_putZone_99 flB_42 (by repeat (first | exact va_up_self _ _ _ | assumption | refine (va_up_ne _ _ (by omega)).trans ?_)) rfl ?_
    refine xs_iload_n dB_putZone_102 rfl ?_
    refine xs_iload_n dB_putZone_103 rfl ?_
    refine xs_iast dB_putZone_104 (by repeat (first | exact va_up_self _ _ _ | assumption | refine (va_up_ne _ _ (by omega)).trans ?_)) (by assumption) ?_
    refine xs_aload_n dB_putZone_105 rfl ?_
    refine xs_get dB_putZone_106 flB_45 (by repeat (first | exact va_up_self _ _ _ | assumption | refine (va_up_ne _ _ (by omega)).trans ?_)) rfl ?_
    refine xs_iload_n dB_putZone_109 rfl ?_
    refine xs_iload_n dB_putZone_110 rfl ?_
    refine xs_iast dB_putZone_111 (by repeat (first | exact va_up_self _ _ _ | assumption | refine (va_up_ne _ _ (by omega)).trans ?_)) (by assumption) ?_
    refine xs_iconst (v := 0) dB_putZone_112 (by decide) ?_
    refine xs_istore (L2 := [(4, _), (0, _), (1, _), (2, _), (3, _)]) dB_putZone_113 (by decide) rfl ?_
    refine xs_pick (L2 := [(0, _), (1, _), (2, _), (3, _), (4, _)]) [1, 2, 3, 4, 0] rfl ?_
    rw [nI_clamp (by omega)]
    refine loop 3 0 ax _ (by omega) ?_ ?_ ?_ ?_ ?_ (fun q hq => absurd hq (by omega)) (fun _ _ => rfl) (fun k h1 h2 => by rw [va_up_ne _ _ (by omega), va_up_ne _ _ (by omega)]; exact hfr k h1 h2)
    · exact (by repeat (first | exact va_up_self _ _ _ | assumption | refine (va_up_ne _ _ (by omega)).trans ?_))
    · exact (by repeat (first | exact va_up_self _ _ _ | assumption | refine (va_up_ne _ _ (by omega)).trans ?_))
    · exact (by repeat (first | exact va_up_self _ _ _ | assumption | refine (va_up_ne _ _ (by omega)).trans ?_))
    · exact (by repeat (first | exact va_up_self _ _ _ | assumption | refine (va_up_ne _ _ (by omega)).trans ?_))
    · exact (by repeat (first | exact va_up_self _ _ _ | assumption | refine (va_up_ne _ _ (by omega)).trans ?_))
  have loop : ∀ (p : Nat) (ax : Nat → Int64) (mn wh : Nat → Int32) (H : xG), p ≤ Z.length → (srt D Z.length Z → ∀ k x, p ≤ k → Z[k]? = some x → bef D a x) → H b = mCl b rf sz sp gd ac (nI Z.length) ft → H (b + 8) = oL 3 th → H (b + 10) = oL 363 ax → H (b + 11) = oI 121 mn → H (b + 12) = oI 121 wh → Sh p ax mn wh → zfr b G H →
      xS mB_putZone n 0 0 (qVx n PQ) xNo 10 [(0, .ref b), (1, .int (nI (mem D a))), (2, .int (nI (pc (mem D a)))), (3, .int (nI p))] [] n H 0 0 := by
    intro p
    induction p with
    | zero =>
      intro ax mn wh H hp hhi hcH h8H h10 h11 h12 hsh hfr
      refine xs_iload_n dB_putZone_10 rfl ?_
      refine xs_if_le dB_putZone_11 (fun _ => ?_) (fun q => absurd (by decide) q)
      exact put 0 ax mn wh H (by omega) hhi (fun x h => absurd h (by omega)) hcH h8H h10 h11 h12 hsh hfr
    | succ p ih =>
      intro ax mn wh H hp hhi hcH h8H h10 h11 h12 hsh hfr
      obtain ⟨s1, s2⟩ := (hSh _ _ _ _).mp hsh
      obtain ⟨x, hx⟩ : ∃ x, Z[p]? = some x := ⟨_, List.getElem?_eq_getElem (by omega)⟩
      obtain ⟨x1, x2, x3⟩ := s1 p x (by omega) hx
      have hxb := hb x (List.mem_of_getElem? hx)
      have hpx := pc_le (mem D x)
      refine xs_iload_n dB_putZone_10 rfl ?_
      refine xs_if_le dB_putZone_11 (fun q => absurd ((nI_leI (b := 0) (by omega) (by decide)).mp q) (by omega)) (fun _ => ?_)
      refine xs_aload_n dB_putZone_14 rfl ?_
      refine xs_iload_n dB_putZone_15 rfl ?_
      refine xs_iload_n dB_putZone_16 rfl ?_
      refine xs_iconst (v := 1) dB_putZone_17 (by decide) ?_
      refine xs_isub dB_putZone_18 ?_
      have e1 : nI (p + 1) - 1 = nI p := by rw [nI_dec, ← iI_nat]
      rw [e1]
      refine xs_cV_ix (As := [_, _]) dB_putZone_19 lkB_114 (by repeat (first | exact va_up_self _ _ _ | assumption | refine (va_up_ne _ _ (by omega)).trans ?_)) (k_B_isAhead hcH h8H ht h10 h11 hpk hpx (by omega) x2 x1 ha hxb) rfl rfl (Nat.le_of_ble_eq_true rfl) ⟨by decide, by decide⟩ ⟨by omega, by omega⟩ ?_
      intro r H2 ⟨⟨tb, q1, q2⟩, q3⟩
      subst q1
      subst q3
      cases tb with
      | false =>
        refine xs_if_eq dB_putZone_22 (fun _ => ?_) (fun q => absurd rfl q)
        exact put (p + 1) ax mn wh H2 hp hhi (fun y hy0 hy => by
          rw [Nat.add_sub_cancel] at hy
          cases hx.symm.trans hy
          exact fun e => absurd (q2.mpr e) (by decide)) hcH h8H h10 h11 h12 hsh hfr
      | true =>
        have hbef : bef D a x := q2.mp rfl
        refine xs_if_eq dB_putZone_22 (fun q => absurd q (show ¬ bI true = 0 by decide)) (fun _ => ?_)
        have vp : vp_in (nI p) 121 := vp_in_nI (by omega) (by omega)
        have vp1 : vp_in (nI (p + 1)) 121 := vp_in_nI (by omega) (by omega)
        have vq : vp_in (nI (p + 1) - 1) 121 := by rw [e1]; exact vp
        have shift : ∀ (m j : Nat) (ax2 : Nat → Int64) (H3 : xG), j + m = 3 → H3 b = mCl b rf sz sp gd ac (nI Z.length) ft → H3 (b + 8) = oL 3 th → H3 (b + 10) = oL 363 ax2 → H3 (b + 11) = oI 121 (upd mn (p + 1) (mn p)) → H3 (b + 12) = oI 121 (upd wh (p + 1) (wh p)) → (∀ q, q < j → ax2 (3 * (p + 1) + q) = ax (3 * p + q)) → (∀ q, (q < 3 * (p + 1) ∨ 3 * (p + 1) + 3 ≤ q) → ax2 q = ax q) → zfr b G H3 →
            xS mB_putZone n 0 0 (qVx n PQ) xNo 56 [(0, .ref b), (1, .int (nI (mem D a))), (2, .int (nI (pc (mem D a)))), (3, .int (nI (p + 1))), (4, .int (nI j))] [] n H3 0 0 := by
          intro m
          induction m with
          | zero =>
            intro j ax2 H3 hj hc3 h83 h103 h113 h123 hq1 hq2 hfr3
            have hj : j = 3 := by omega
            subst hj
            refine xs_iload dB_putZone_56 rfl ?_
            refine xs_iconst (v := 3) dB_putZone_58 (by decide) ?_
            refine xs_icmp_ge dB_putZone_59 (fun _ => ?_) (fun q => absurd (by decide) q)
            refine xs_iinc (L2 := [(3, _), (0, _), (1, _), (2, _), (4, _)]) dB_putZone_92 rfl rfl (by decide) rfl ?_
            refine xs_goto dB_putZone_95 ?_
            refine xs_pick (L2 := [(0, _), (1, _), (2, _), (3, _)]) [1, 2, 3, 0] rfl ?_
            rw [show nI (p + 1) + Int32.ofInt (-1) = nI p by
              rw [show Int32.ofInt (-1) = iI (-1) from rfl, iI_nat, iI_nat, iI_add]
              congr 1
              omega]
            refine ih ax2 _ _ H3 (by omega) (fun hs k y hk hy => ?_) hc3 h83 h103 h113 h123 ((hSh _ _ _ _).mpr ⟨fun k y hk hy => ?_, fun k y hk hy => ?_⟩) hfr3
            · by_cases hkp : k = p
              · subst hkp
                cases hx.symm.trans hy
                exact hbef
              · exact hhi hs k y (by omega) hy
            · obtain ⟨w1, w2, w3⟩ := s1 k y (by omega) hy
              simp only [upd]
              rw [hq2 _ (by omega), hq2 _ (by omega), hq2 _ (by omega), if_neg (by omega), if_neg (by omega)]
              exact ⟨w1, w2, w3⟩
            · by_cases hkp : k = p
              · subst hkp
                cases hx.symm.trans hy
                have r0 := hq1 0 (by decide)
                have r1 := hq1 1 (by decide)
                have r2 := hq1 2 (by decide)
                simp only [Nat.add_zero] at r0
                simp only [upd, if_true]
                rw [r0, r1, r2]
                exact ⟨x1, x2, x3⟩
              · obtain ⟨w1, w2, w3⟩ := s2 k y (by omega) hy
                simp only [upd]
                rw [hq2 _ (by omega), hq2 _ (by omega), hq2 _ (by omega), if_neg (by omega), if_neg (by omega)]
                exact ⟨w1, w2, w3⟩
          | succ m ih2 =>
            intro j ax2 H3 hj hc3 h83 h103 h113 h123 hq1 hq2 hfr3
            have e7 : (3 : Int32) * nI (p + 1) + nI j = nI (3 * (p + 1) + j) := by rw [mul3, nI_add2]
            have v7 : vp_in ((3 : Int32) * nI (p + 1) + nI j) 363 := by rw [e7]; exact vp_in_nI (by omega) (by omega)
            have e8 : (3 : Int32) * nI (p + 1) - 3 + nI j = nI (3 * p + j) := by
              rw [mul3, nI_m3, iI_nat, iI_add, iI_nat]
              congr 1
              omega
            have v8 : vp_in ((3 : Int32) * nI (p + 1) - 3 + nI j) 363 := by rw [e8]; exact vp_in_nI (by omega) (by omega)
            refine xs_iload dB_putZone_56 rfl ?_
            refine xs_iconst (v := 3) dB_putZone_58 (by decide) ?_
            refine xs_icmp_ge dB_putZone_59 (fun q => absurd ((nI_leI (a := 3) (by omega) (by omega)).mp q) (by omega)) (fun _ => ?_)
            refine xs_aload_n dB_putZone_62 rfl ?_
            refine xs_get dB_putZone_63 flB_39 (by repeat (first | exact va_up_self _ _ _ | assumption | refine (va_up_ne _ _ (by omega)).trans ?_)) rfl ?_
            refine xs_iconst (v := 3) dB_putZone_66 (by decide) ?_
            refine xs_iload_n dB_putZone_67 rfl ?_
            refine xs_imul dB_putZone_68 ?_
            refine xs_iload dB_putZone_69 rfl ?_
            refine xs_iadd dB_putZone_71 ?_
            refine xs_aload_n dB_putZone_72 rfl ?_
            refine xs_get dB_putZone_73 flB_39 (by repeat (first | exact va_up_self _ _ _ | assumption | refine (va_up_ne _ _ (by omega)).trans ?_)) rfl ?_
            refine xs_iconst (v := 3) dB_putZone_76 (by decide) ?_
            refine xs_iload_n dB_putZone_77 rfl ?_
            refine xs_imul dB_putZone_78 ?_
            refine xs_iconst (v := 3) dB_putZone_79 (by decide) ?_
            refine xs_isub dB_putZone_80 ?_
            refine xs_iload dB_putZone_81 rfl ?_
            refine xs_iadd dB_putZone_83 ?_
            refine xs_lald dB_putZone_84 (by repeat (first | exact va_up_self _ _ _ | assumption | refine (va_up_ne _ _ (by omega)).trans ?_)) (by assumption) ?_
            refine xs_last dB_putZone_85 (by repeat (first | exact va_up_self _ _ _ | assumption | refine (va_up_ne _ _ (by omega)).trans ?_)) (by assumption) ?_
            refine xs_iinc (L2 := [(4, _), (0, _), (1, _), (2, _), (3, _)]) dB_putZone_86 rfl rfl (by decide) rfl ?_
            refine xs_goto dB_putZone_89 ?_
            refine xs_pick (L2 := [(0, _), (1, _), (2, _), (3, _), (4, _)]) [1, 2, 3, 4, 0] rfl ?_
            rw [xii, e7, e8, nI_clamp (by omega), nI_clamp (by omega), hq2 (3 * p + j) (by omega)]
            refine ih2 (j + 1) _ _ (by omega) ?_ ?_ (va_up_self _ _ _) ?_ ?_ (fun q hq => ?_) (fun q hq => ?_) (fun k h1 h2 => (va_up_ne _ _ (by omega)).trans (hfr3 k h1 h2))
            · rw [va_up_ne _ _ (by omega)]; exact hc3
            · rw [va_up_ne _ _ (by omega)]; exact h83
            · rw [va_up_ne _ _ (by omega)]; exact h113
            · rw [va_up_ne _ _ (by omega)]; exact h123
            · simp only [vp_updL]
              by_cases hqj : q = j
              · subst hqj
                rw [if_pos rfl]
              · rw [if_neg (by omega)]
                exact hq1 q (by omega)
            · simp only [vp_updL]
              rw [if_neg (by omega)]
              exact hq2 q hq
        refine xs_aload_n dB_putZone_25 rfl ?_
        refine xs_get dB_putZone_26 flB_42 (by repeat (first | exact va_up_self _ _ _ | assumption | refine (va_up_ne _ _ (by omega)).trans ?_)) rfl ?_
        refine xs_iload_n dB_putZone_29 rfl ?_
        refine xs_aload_n dB_putZone_30 rfl ?_
        refine xs_get dB_putZone_31 flB_42 (by repeat (first | exact va_up_self _ _ _ | assumption | refine (va_up_ne _ _ (by omega)).trans ?_)) rfl ?_
        refine xs_iload_n dB_putZone_34 rfl ?_
        refine xs_iconst (v := 1) dB_putZone_35 (by decide) ?_
        refine xs_isub dB_putZone_36 ?_
        refine xs_iald dB_putZone_37 (by repeat (first | exact va_up_self _ _ _ | assumption | refine (va_up_ne _ _ (by omega)).trans ?_)) (by assumption) ?_
        refine xs_iast dB_putZone_38 (by repeat (first | exact va_up_self _ _ _ | assumption | refine (va_up_ne _ _ (by omega)).trans ?_)) (by assumption) ?_
        refine xs_aload_n dB_putZone_39 rfl ?_
        refine xs_get dB_putZone_40 flB_45 (by repeat (first | exact va_up_self _ _ _ | assumption | refine (va_up_ne _ _ (by omega)).trans ?_)) rfl ?_
        refine xs_iload_n dB_putZone_43 rfl ?_
        refine xs_aload_n dB_putZone_44 rfl ?_
        refine xs_get dB_putZone_45 flB_45 (by repeat (first | exact va_up_self _ _ _ | assumption | refine (va_up_ne _ _ (by omega)).trans ?_)) rfl ?_
        refine xs_iload_n dB_putZone_48 rfl ?_
        refine xs_iconst (v := 1) dB_putZone_49 (by decide) ?_
        refine xs_isub dB_putZone_50 ?_
        refine xs_iald dB_putZone_51 (by repeat (first | exact va_up_self _ _ _ | assumption | refine (va_up_ne _ _ (by omega)).trans ?_)) (by assumption) ?_
        refine xs_iast dB_putZone_52 (by repeat (first | exact va_up_self _ _ _ | assumption | refine (va_up_ne _ _ (by omega)).trans ?_)) (by assumption) ?_
        refine xs_iconst (v := 0) dB_putZone_53 (by decide) ?_
        refine xs_istore (L2 := [(4, _), (0, _), (1, _), (2, _), (3, _)]) dB_putZone_54 (by decide) rfl ?_
        refine xs_pick (L2 := [(0, _), (1, _), (2, _), (3, _), (4, _)]) [1, 2, 3, 4, 0] rfl ?_
        rw [e1, nI_clamp (by omega), nI_clamp (by omega)]
        refine shift 3 0 ax _ (by omega) ?_ ?_ ?_ ?_ ?_ (fun q hq => absurd hq (by omega)) (fun _ _ => rfl) (fun k h1 h2 => by rw [va_up_ne _ _ (by omega), va_up_ne _ _ (by omega)]; exact hfr k h1 h2)
        · exact (by repeat (first | exact va_up_self _ _ _ | assumption | refine (va_up_ne _ _ (by omega)).trans ?_))
        · exact (by repeat (first | exact va_up_self _ _ _ | assumption | refine (va_up_ne _ _ (by omega)).trans ?_))
        · exact (by repeat (first | exact va_up_self _ _ _ | assumption | refine (va_up_ne _ _ (by omega)).trans ?_))
        · exact (by repeat (first | exact va_up_self _ _ _ | assumption | refine (va_up_ne _ _ (by omega)).trans ?_))
        · exact (by repeat (first | exact va_up_self _ _ _ | assumption | refine (va_up_ne _ _ (by omega)).trans ?_))
  refine xK_of2 (L0 := [(0, _), (1, _)]) (by decide +kernel) rfl (Nat.le_of_ble_eq_true rfl) rfl ?_
  refine xs_iload_n dB_putZone_0 rfl ?_
  refine xs_cS_i (As := [_]) dB_putZone_1 lkB_110 (k_B_count hlt) rfl rfl (Nat.le_of_ble_eq_true rfl) ⟨by decide, by decide⟩ ⟨by omega, by omega⟩ ?_
  refine xs_istore_n (L2 := [(2, _), (0, _), (1, _)]) dB_putZone_4 (by decide) rfl ?_
  refine xs_aload_n dB_putZone_5 rfl ?_
  refine xs_get dB_putZone_6 flB_106 (by repeat (first | exact va_up_self _ _ _ | assumption | refine (va_up_ne _ _ (by omega)).trans ?_)) rfl ?_
  refine xs_istore_n (L2 := [(3, _), (2, _), (0, _), (1, _)]) dB_putZone_9 (by decide) rfl ?_
  refine xs_pick (L2 := [(0, _), (1, _), (2, _), (3, _)]) [2, 3, 1, 0] rfl ?_
  exact loop Z.length ax0 mn0 wh0 G (Nat.le_refl _) (fun _ k x hk hx => absurd (List.getElem?_eq_some_iff.mp hx).1 (by omega)) hc h8 h10 h11 h12 ((hSh _ _ _ _).mpr ⟨fun k x _ hx => ⟨hx0 k x hx, hm0 k x hx, hw0 k x hx⟩, fun k x hk hx => absurd (List.getElem?_eq_some_iff.mp hx).1 (by omega)⟩) (fun _ _ _ => rfl)
end M5
