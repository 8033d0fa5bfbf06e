theorem lN_lt2 {a b : Nat} (ha : a < 4611686018427387904) (hb : b < 4611686018427387904) : lN a < lN b ↔ a < b := by
  rw [iL_nat, iL_nat, iL_lt (by omega) (by omega)]
  omega
def mnP (mn : Nat → Int32) (D Z : List P3) : Prop := ∀ k a, Z[k]? = some a → mn k = nI (pc (mem D a))
def whP (wh : Nat → Int32) (D Z : List P3) : Prop := ∀ k a, Z[k]? = some a → wh k = nI (mem D a)
def zmo (G : xG) (b : Nat) (D Z : List P3) : Prop := ∃ (ax : Nat → Int64) (mn wh : Nat → Int32), G (b + 10) = oL 363 ax ∧ G (b + 11) = oI 121 mn ∧ G (b + 12) = oI 121 wh ∧ axP ax Z ∧ mnP mn D Z ∧ whP wh D Z ∧ Z.length ≤ 120
def insL (Z : List P3) (a : P3) (p : Nat) : List P3 := Z.take p ++ a :: Z.drop p
theorem insL_get {Z : List P3} {a : P3} {p k : Nat} (hp : p ≤ Z.length) : (insL Z a p)[k]? = if k < p then Z[k]? else if k = p then some a else Z[k - 1]? := by
  unfold insL
  have hl : (Z.take p).length = p := by rw [List.length_take]; omega
  split
  next h => rw [List.getElem?_append_left (by omega), List.getElem?_take, if_pos h]
  next h =>
    rw [List.getElem?_append_right (by omega), hl]
    split
    next h2 =>
      subst h2
      rw [Nat.sub_self]
      rfl
    next h2 =>
      obtain ⟨q, hq⟩ : ∃ q, k - p = q + 1 := ⟨k - p - 1, by omega⟩
      rw [hq, List.getElem?_cons_succ, List.getElem?_drop]
      congr 1
      omega
theorem insL_len {Z : List P3} {a : P3} {p : Nat} : (insL Z a p).length = Z.length + 1 := by
  unfold insL
  rw [List.length_append, List.length_cons, List.length_take, List.length_drop]
  omega
theorem insL_perm {Z : List P3} {a : P3} {p : Nat} : (insL Z a p).Perm (a :: Z) := by
  have h := List.perm_middle (a := a) (l₁ := Z.take p) (l₂ := Z.drop p)
  rw [List.take_append_drop] at h
  exact h
theorem srt_ins {D Z : List P3} {a : P3} {p : Nat} (hs : srt D Z.length Z) (hp : p ≤ Z.length) (hhi : ∀ k x, p ≤ k → Z[k]? = some x → bef D a x) (hlo : ∀ x, 0 < p → Z[p - 1]? = some x → ¬ bef D a x) (hne : a ∉ Z) : srt D (insL Z a p).length (insL Z a p) := by
  intro i j x y hij hj hx hy
  rw [insL_len] at hj
  rw [insL_get hp] at hx hy
  have low : ∀ k z, k < p → Z[k]? = some z → bef D z a := by
    intro k z hk hz
    obtain ⟨w, hw⟩ : ∃ w, Z[p - 1]? = some w := ⟨_, List.getElem?_eq_getElem (by omega)⟩
    have h1 : bef D w a := befK_tot (hlo w (by omega) hw) (fun e => hne (by rw [e]; exact List.mem_of_getElem? hw))
    by_cases hkp : k = p - 1
    · subst hkp
      cases hz.symm.trans hw
      exact h1
    · exact befK_trans (hs k (p - 1) z w (by omega) (by omega) hz hw) h1
  split at hx
  next h1 =>
    split at hy
    next h2 => exact hs i j x y hij (by omega) hx hy
    next h2 =>
      split at hy
      next h3 =>
        cases hy
        exact low i x h1 hx
      next h3 => exact hs i (j - 1) x y (by omega) (by omega) hx hy
  next h1 =>
    split at hx
    next h2 =>
      cases hx
      split at hy
      next h3 => omega
      next h3 =>
        split at hy
        next h4 => omega
        next h4 => exact hhi (j - 1) y (by omega) hy
    next h2 =>
      split at hy
      next h3 => omega
      next h3 =>
        split at hy
        next h4 => omega
        next h4 => exact hs (i - 1) (j - 1) x y (by omega) (by omega) hx hy
section M4
variable {n b : Nat} {G : xG} {rf sz sp ac ft : Int32} {gd : Bool} {th wy ax : Nat → Int64} {mn wh : Nat → Int32} {D Z : List P3}
theorem k_B_isAhead {k l i : Nat} {zs : Int32} {a x : P3} (hc : G b = mCl b rf sz sp gd ac zs ft) (h8 : G (b + 8) = oL 3 th) (ht : t3P th a) (h10 : G (b + 10) = oL 363 ax) (h11 : G (b + 11) = oI 121 mn) (hk : k ≤ 16) (hl : l ≤ 16) (hi : i < 120) (hmn : mn i = nI l) (hax : ax (3 * i) = iL x.1 ∧ ax (3 * i + 1) = iL x.2.1 ∧ ax (3 * i + 2) = iL x.2.2) (ha : bd 4000000 a) (hx : bd 4000000 x) :
    xK mB_isAhead [.ref b, .int (nI k), .int (nI i)] n G 0 0 (qIx n (fun r H => (∃ tb : Bool, r = bI tb ∧ (tb = true ↔ befK k a l x)) ∧ H = G)) xNo := by
  obtain ⟨u0, u1, u2⟩ := id ht
  have ht3 := t3P_iff.mp ht
  obtain ⟨a1, a2, a3⟩ := id ha
  obtain ⟨x1, x2, x3⟩ := id hx
  have v0 : vp_in (0 : Int32) 3 := in3 (j := 0) (by decide)
  have v1 : vp_in (1 : Int32) 3 := in3 (j := 1) (by decide)
  have v2 : vp_in (2 : Int32) 3 := in3 (j := 2) (by decide)
  have e0 : (0 : Int32).toNatClampNeg = 0 := by decide
  have e1 : (1 : Int32).toNatClampNeg = 1 := by decide
  have e2 : (2 : Int32).toNatClampNeg = 2 := by decide
  have vi : vp_in (nI i) 121 := vp_in_nI (by omega) (by omega)
  have v3 : vp_in ((3 : Int32) * nI i) 363 := by rw [mul3]; exact vp_in_nI (by omega) (by omega)
  have v4 : vp_in ((3 : Int32) * nI i + 1) 363 := by rw [mul3, add1]; exact vp_in_nI (by omega) (by omega)
  have v5 : vp_in ((3 : Int32) * nI i + 2) 363 := by rw [mul3, add2]; exact vp_in_nI (by omega) (by omega)
  have w3 : ax ((3 : Int32) * nI i).toNatClampNeg = iL x.1 := by rw [mul3, nI_clamp (by omega)]; exact hax.1
  have w4 : ax ((3 : Int32) * nI i + 1).toNatClampNeg = iL x.2.1 := by rw [mul3, add1, nI_clamp (by omega)]; exact hax.2.1
  have w5 : ax ((3 : Int32) * nI i + 2).toNatClampNeg = iL x.2.2 := by rw [mul3, add2, nI_clamp (by omega)]; exact hax.2.2
  have wm : mn (nI i).toNatClampNeg = nI l := by rw [nI_clamp (by omega)]; exact hmn
  have hax3 : ∀ j, j < 3 → ax (3 * i + j) = iL (c3 x j) := by
    intro j hj
    rcases (show j = 0 ∨ j = 1 ∨ j = 2 by omega) with rfl | rfl | rfl
    · exact hax.1
    · exact hax.2.1
    · exact hax.2.2
  have loop : k = l → s3 a = s3 x → ∀ (m j : Nat), j + m = 3 → (∀ q, q < j → c3 a q = c3 x q) → xS mB_isAhead n 0 0 (qIx n (fun r H => (∃ tb : Bool, r = bI tb ∧ (tb = true ↔ befK k a l x)) ∧ H = G)) xNo 120 [(0, .ref b), (1, .int (nI k)), (2, .int (nI i)), (7, .int (nI j))] [] n G 0 0 := by
    intro hkl hss m
    induction m with
    | zero =>
      intro j hj heq
      have hj : j = 3 := by omega
      subst hj
      have hax : a = x := Prod.ext (heq 0 (by decide)) (Prod.ext (heq 1 (by decide)) (heq 2 (by decide)))
      refine xs_iload dB_isAhead_120 rfl ?_
      refine xs_iconst (v := 3) dB_isAhead_122 (by decide) ?_
      refine xs_icmp_ge dB_isAhead_123 (fun _ => ?_) (fun q => absurd (by decide) q)
      refine xs_iconst (v := 0) dB_isAhead_182 (by decide) ?_
      exact xs_iret dB_isAhead_183 rfl rfl (by omega) (by omega) ⟨_, rfl, rfl, ⟨false, rfl, fun q => by simp at q, fun q => absurd (by rw [hkl, hax] at q; exact q) befK_irr⟩, rfl⟩
    | succ m ih =>
      intro j hj heq
      have vj := in3 (j := j) (by omega)
      have e7 : (3 : Int32) * nI i + nI j = nI (3 * i + j) := by rw [mul3, nI_add2]
      have v7 : vp_in ((3 : Int32) * nI i + nI j) 363 := by rw [e7]; exact vp_in_nI (by omega) (by omega)
      have w7 : ax ((3 : Int32) * nI i + nI j).toNatClampNeg = iL (c3 x j) := by rw [e7, nI_clamp (by omega)]; exact hax3 j (by omega)
      have w8 : th (nI j).toNatClampNeg = iL (c3 a j) := by rw [nI_clamp (by omega)]; exact ht3 j (by omega)
      have ca := c3_bd ha j
      have cx := c3_bd hx j
      have l1 := iL_eq (x := c3 a j) (y := c3 x j) (by omega) (by omega)
      have l2 := iL_lt (x := c3 x j) (y := c3 a j) (by omega) (by omega)
      refine xs_iload dB_isAhead_120 rfl ?_
      refine xs_iconst (v := 3) dB_isAhead_122 (by decide) ?_
      refine xs_icmp_ge dB_isAhead_123 (fun q => absurd ((nI_leI (a := 3) (by omega) (by omega)).mp q) (by omega)) (fun _ => ?_)
      refine xs_aload_n dB_isAhead_126 rfl ?_
      refine xs_get dB_isAhead_127 flB_32 (by repeat (first | exact va_up_self _ _ _ | assumption | refine (va_up_ne _ _ (by omega)).trans ?_)) rfl ?_
      refine xs_iload dB_isAhead_130 rfl ?_
      refine xs_lald dB_isAhead_132 (by repeat (first | exact va_up_self _ _ _ | assumption | refine (va_up_ne _ _ (by omega)).trans ?_)) (by assumption) ?_
      refine xs_aload_n dB_isAhead_133 rfl ?_
      refine xs_get dB_isAhead_134 flB_39 (by repeat (first | exact va_up_self _ _ _ | assumption | refine (va_up_ne _ _ (by omega)).trans ?_)) rfl ?_
      refine xs_iconst (v := 3) dB_isAhead_137 (by decide) ?_
      refine xs_iload_n dB_isAhead_138 rfl ?_
      refine xs_imul dB_isAhead_139 ?_
      refine xs_iload dB_isAhead_140 rfl ?_
      refine xs_iadd dB_isAhead_142 ?_
      refine xs_lald dB_isAhead_143 (by repeat (first | exact va_up_self _ _ _ | assumption | refine (va_up_ne _ _ (by omega)).trans ?_)) (by assumption) ?_
      rw [w7, w8]
      refine xs_lc_eq dB_isAhead_144 dB_isAhead_145 (fun h => ?_) (fun h => ?_)
      · have h9 := l1.mp h
        refine xs_iinc (L2 := [(7, _), (0, _), (1, _), (2, _)]) dB_isAhead_176 rfl rfl (by decide) rfl ?_
        refine xs_goto dB_isAhead_179 ?_
        refine xs_pick (L2 := [(0, _), (1, _), (2, _), (7, _)]) [1, 2, 3, 0] rfl ?_
        rw [xii]
        refine ih (j + 1) (by omega) (fun q hq => ?_)
        by_cases hqj : q = j
        · rw [hqj]
          exact h9
        · exact heq q (by omega)
      · have h9 : c3 a j ≠ c3 x j := fun e => h (l1.mpr e)
        have hbk : befK k a l x ↔ c3 x j < c3 a j := by
          rcases (show j = 0 ∨ j = 1 ∨ j = 2 by omega) with rfl | rfl | rfl
          · have z0 : a.1 ≠ x.1 := h9
            show befK k a l x ↔ x.1 < a.1
            unfold befK
            omega
          · have z0 : a.1 = x.1 := heq 0 (by decide)
            have z1 : a.2.1 ≠ x.2.1 := h9
            show befK k a l x ↔ x.2.1 < a.2.1
            unfold befK
            omega
          · have z0 : a.1 = x.1 := heq 0 (by decide)
            have z1 : a.2.1 = x.2.1 := heq 1 (by decide)
            have z2 : a.2.2 ≠ x.2.2 := h9
            show befK k a l x ↔ x.2.2 < a.2.2
            unfold befK
            omega
        refine xs_aload_n dB_isAhead_148 rfl ?_
        refine xs_get dB_isAhead_149 flB_32 (by repeat (first | exact va_up_self _ _ _ | assumption | refine (va_up_ne _ _ (by omega)).trans ?_)) rfl ?_
        refine xs_iload dB_isAhead_152 rfl ?_
        refine xs_lald dB_isAhead_154 (by repeat (first | exact va_up_self _ _ _ | assumption | refine (va_up_ne _ _ (by omega)).trans ?_)) (by assumption) ?_
        refine xs_aload_n dB_isAhead_155 rfl ?_
        refine xs_get dB_isAhead_156 flB_39 (by repeat (first | exact va_up_self _ _ _ | assumption | refine (va_up_ne _ _ (by omega)).trans ?_)) rfl ?_
        refine xs_iconst (v := 3) dB_isAhead_159 (by decide) ?_
        refine xs_iload_n dB_isAhead_160 rfl ?_
        refine xs_imul dB_isAhead_161 ?_
        refine xs_iload dB_isAhead_162 rfl ?_
        refine xs_iadd dB_isAhead_164 ?_
        refine xs_lald dB_isAhead_165 (by repeat (first | exact va_up_self _ _ _ | assumption | refine (va_up_ne _ _ (by omega)).trans ?_)) (by assumption) ?_
        rw [w7, w8]
        refine xs_lc_le dB_isAhead_166 dB_isAhead_167 (fun h => ?_) (fun h => ?_)
        · have h8 : ¬ c3 x j < c3 a j := fun e => Int64.not_lt.mpr h (l2.mpr e)
          refine xs_iconst (v := 0) dB_isAhead_174 (by decide) ?_
          exact xs_iret dB_isAhead_175 rfl rfl (by omega) (by omega) ⟨_, rfl, rfl, ⟨false, rfl, fun q => by simp at q, fun q => absurd (hbk.mp q) h8⟩, rfl⟩
        · have h8 : c3 x j < c3 a j := l2.mp (Int64.not_le.mp h)
          refine xs_iconst (v := 1) dB_isAhead_170 (by decide) ?_
          refine xs_goto dB_isAhead_171 ?_
          exact xs_iret dB_isAhead_175 rfl rfl (by omega) (by omega) ⟨_, rfl, rfl, ⟨true, rfl, fun _ => hbk.mpr h8, fun _ => rfl⟩, rfl⟩
  have hsa : s3 a < 12000000 := by unfold s3; omega
  have hsx : s3 x < 12000000 := by unfold s3; omega
  refine xK_of2 (L0 := [(0, _), (1, _), (2, _)]) (by decide +kernel) rfl (Nat.le_of_ble_eq_true rfl) rfl ?_
  refine xs_iload_n dB_isAhead_0 rfl ?_
  refine xs_aload_n dB_isAhead_1 rfl ?_
  refine xs_get dB_isAhead_2 flB_42 (by repeat (first | exact va_up_self _ _ _ | assumption | refine (va_up_ne _ _ (by omega)).trans ?_)) rfl ?_
  refine xs_iload_n dB_isAhead_5 rfl ?_
  refine xs_iald dB_isAhead_6 (by repeat (first | exact va_up_self _ _ _ | assumption | refine (va_up_ne _ _ (by omega)).trans ?_)) (by assumption) ?_
  rw [wm]
  refine xs_icmp_eq dB_isAhead_7 (fun h => ?_) (fun h => ?_)
  · have hkl : k = l := (nI_eq (by omega) (by omega)).mp h
    refine xs_aload_n dB_isAhead_26 rfl ?_
    refine xs_get dB_isAhead_27 flB_32 (by repeat (first | exact va_up_self _ _ _ | assumption | refine (va_up_ne _ _ (by omega)).trans ?_)) rfl ?_
    refine xs_iconst (v := 0) dB_isAhead_30 (by decide) ?_
    refine xs_lald dB_isAhead_31 (by repeat (first | exact va_up_self _ _ _ | assumption | refine (va_up_ne _ _ (by omega)).trans ?_)) (by assumption) ?_
    rw [e0, u0]
    refine xs_cS_l (As := [_]) dB_isAhead_32 lkB_70 (k_B_size (x:=a.1) (by omega)) rfl rfl (Nat.le_of_ble_eq_true rfl) ⟨by decide, by decide⟩ ⟨by omega, by omega⟩ ?_
    refine xs_aload_n dB_isAhead_35 rfl ?_
    refine xs_get dB_isAhead_36 flB_32 (by repeat (first | exact va_up_self _ _ _ | assumption | refine (va_up_ne _ _ (by omega)).trans ?_)) rfl ?_
    refine xs_iconst (v := 1) dB_isAhead_39 (by decide) ?_
    refine xs_lald dB_isAhead_40 (by repeat (first | exact va_up_self _ _ _ | assumption | refine (va_up_ne _ _ (by omega)).trans ?_)) (by assumption) ?_
    rw [e1, u1]
    refine xs_cS_l (As := [_]) dB_isAhead_41 lkB_70 (k_B_size (x:=a.2.1) (by omega)) rfl rfl (Nat.le_of_ble_eq_true rfl) ⟨by decide, by decide⟩ ⟨by omega, by omega⟩ ?_
    refine xs_ladd dB_isAhead_44 ?_
    refine xs_aload_n dB_isAhead_45 rfl ?_
    refine xs_get dB_isAhead_46 flB_32 (by repeat (first | exact va_up_self _ _ _ | assumption | refine (va_up_ne _ _ (by omega)).trans ?_)) rfl ?_
    refine xs_iconst (v := 2) dB_isAhead_49 (by decide) ?_
    refine xs_lald dB_isAhead_50 (by repeat (first | exact va_up_self _ _ _ | assumption | refine (va_up_ne _ _ (by omega)).trans ?_)) (by assumption) ?_
    rw [e2, u2, lN_add]
    refine xs_cS_l (As := [_]) dB_isAhead_51 lkB_70 (k_B_size (x:=a.2.2) (by omega)) rfl rfl (Nat.le_of_ble_eq_true rfl) ⟨by decide, by decide⟩ ⟨by omega, by omega⟩ ?_
    refine xs_ladd dB_isAhead_54 ?_
    refine xs_lstore_n (L2 := [(3, _), (0, _), (1, _), (2, _)]) dB_isAhead_55 (by decide) rfl ?_
    refine xs_aload_n dB_isAhead_56 rfl ?_
    refine xs_get dB_isAhead_57 flB_39 (by repeat (first | exact va_up_self _ _ _ | assumption | refine (va_up_ne _ _ (by omega)).trans ?_)) rfl ?_
    refine xs_iconst (v := 3) dB_isAhead_60 (by decide) ?_
    refine xs_iload_n dB_isAhead_61 rfl ?_
    refine xs_imul dB_isAhead_62 ?_
    refine xs_lald dB_isAhead_63 (by repeat (first | exact va_up_self _ _ _ | assumption | refine (va_up_ne _ _ (by omega)).trans ?_)) (by assumption) ?_
    rw [lN_add, w3]
    refine xs_cS_l (As := [_]) dB_isAhead_64 lkB_70 (k_B_size (x:=x.1) (by omega)) rfl rfl (Nat.le_of_ble_eq_true rfl) ⟨by decide, by decide⟩ ⟨by omega, by omega⟩ ?_
    refine xs_aload_n dB_isAhead_67 rfl ?_
    refine xs_get dB_isAhead_68 flB_39 (by repeat (first | exact va_up_self _ _ _ | assumption | refine (va_up_ne _ _ (by omega)).trans ?_)) rfl ?_
    refine xs_iconst (v := 3) dB_isAhead_71 (by decide) ?_
    refine xs_iload_n dB_isAhead_72 rfl ?_
    refine xs_imul dB_isAhead_73 ?_
    refine xs_iconst (v := 1) dB_isAhead_74 (by decide) ?_
    refine xs_iadd dB_isAhead_75 ?_
    refine xs_lald dB_isAhead_76 (by repeat (first | exact va_up_self _ _ _ | assumption | refine (va_up_ne _ _ (by omega)).trans ?_)) (by assumption) ?_
    rw [w4]
    refine xs_cS_l (As := [_]) dB_isAhead_77 lkB_70 (k_B_size (x:=x.2.1) (by omega)) rfl rfl (Nat.le_of_ble_eq_true rfl) ⟨by decide, by decide⟩ ⟨by omega, by omega⟩ ?_
    refine xs_ladd dB_isAhead_80 ?_
    refine xs_aload_n dB_isAhead_81 rfl ?_
    refine xs_get dB_isAhead_82 flB_39 (by repeat (first | exact va_up_self _ _ _ | assumption | refine (va_up_ne _ _ (by omega)).trans ?_)) rfl ?_
    refine xs_iconst (v := 3) dB_isAhead_85 (by decide) ?_
    refine xs_iload_n dB_isAhead_86 rfl ?_
    refine xs_imul dB_isAhead_87 ?_
    refine xs_iconst (v := 2) dB_isAhead_88 (by decide) ?_
    refine xs_iadd dB_isAhead_89 ?_
    refine xs_lald dB_isAhead_90 (by repeat (first | exact va_up_self _ _ _ | assumption | refine (va_up_ne _ _ (by omega)).trans ?_)) (by assumption) ?_
    rw [w5, lN_add]
    refine xs_cS_l (As := [_]) dB_isAhead_91 lkB_70 (k_B_size (x:=x.2.2) (by omega)) rfl rfl (Nat.le_of_ble_eq_true rfl) ⟨by decide, by decide⟩ ⟨by omega, by omega⟩ ?_
    refine xs_ladd dB_isAhead_94 ?_
    refine xs_lstore (L2 := [(5, _), (3, _), (0, _), (1, _), (2, _)]) dB_isAhead_95 (by decide) rfl ?_
    refine xs_lload_n dB_isAhead_97 rfl ?_
    refine xs_lload dB_isAhead_98 rfl ?_
    rw [lN_add, show a.1.natAbs + a.2.1.natAbs + a.2.2.natAbs = s3 a from rfl, show x.1.natAbs + x.2.1.natAbs + x.2.2.natAbs = s3 x from rfl]
    have l1 : lN (s3 a) = lN (s3 x) ↔ s3 a = s3 x := pk_lEQ (by omega) (by omega)
    have l2 := lN_lt2 (a := s3 a) (b := s3 x) (by omega) (by omega)
    refine xs_lc_eq dB_isAhead_100 dB_isAhead_101 (fun h => ?_) (fun h => ?_)
    · have hss := l1.mp h
      refine xs_iconst (v := 0) dB_isAhead_117 (by decide) ?_
      refine xs_istore (L2 := [(7, _), (5, _), (3, _), (0, _), (1, _), (2, _)]) dB_isAhead_118 (by decide) rfl ?_
      refine xs_pick (L2 := [(0, _), (1, _), (2, _), (7, _)]) [3, 4, 5, 0] rfl ?_
      exact loop hkl hss 3 0 (by omega) (fun q hq => absurd hq (by omega))
    · have hss : s3 a ≠ s3 x := fun e => h (l1.mpr e)
      have hbk : befK k a l x ↔ s3 a < s3 x := by
        unfold befK
        omega
      refine xs_lload_n dB_isAhead_104 rfl ?_
      refine xs_lload dB_isAhead_105 rfl ?_
      refine xs_lc_ge dB_isAhead_107 dB_isAhead_108 (fun h => ?_) (fun h => ?_)
      · have h8 : ¬ s3 a < s3 x := fun e => Int64.not_lt.mpr h (l2.mpr e)
        refine xs_iconst (v := 0) dB_isAhead_115 (by decide) ?_
        exact xs_iret dB_isAhead_116 rfl rfl (by omega) (by omega) ⟨_, rfl, rfl, ⟨false, rfl, fun q => by simp at q, fun q => absurd (hbk.mp q) h8⟩, rfl⟩
      · have h8 : s3 a < s3 x := l2.mp (Int64.not_le.mp h)
        refine xs_iconst (v := 1) dB_isAhead_111 (by decide) ?_
        refine xs_goto dB_isAhead_112 ?_
        exact xs_iret dB_isAhead_116 rfl rfl (by omega) (by omega) ⟨_, rfl, rfl, ⟨true, rfl, fun _ => hbk.mpr h8, fun _ => rfl⟩, rfl⟩
  · have hkl : k ≠ l := fun e => h (by rw [e])
    have hbk : befK k a l x ↔ l < k := by
      unfold befK
      omega
    refine xs_iload_n dB_isAhead_10 rfl ?_
    refine xs_aload_n dB_isAhead_11 rfl ?_
    refine xs_get dB_isAhead_12 flB_42 (by repeat (first | exact va_up_self _ _ _ | assumption | refine (va_up_ne _ _ (by omega)).trans ?_)) rfl ?_
    refine xs_iload_n dB_isAhead_15 rfl ?_
    refine xs_iald dB_isAhead_16 (by repeat (first | exact va_up_self _ _ _ | assumption | refine (va_up_ne _ _ (by omega)).trans ?_)) (by assumption) ?_
    rw [wm]
    refine xs_icmp_le dB_isAhead_17 (fun h => ?_) (fun h => ?_)
    · have h8 := (nI_leI (by omega) (by omega)).mp h
      refine xs_iconst (v := 0) dB_isAhead_24 (by decide) ?_
      exact xs_iret dB_isAhead_25 rfl rfl (by omega) (by omega) ⟨_, rfl, rfl, ⟨false, rfl, fun q => by simp at q, fun q => absurd (hbk.mp q) (by omega)⟩, rfl⟩
    · have h8 : l < k := nI_lt_of (by omega) (by omega) h
      refine xs_iconst (v := 1) dB_isAhead_20 (by decide) ?_
      refine xs_goto dB_isAhead_21 ?_
      exact xs_iret dB_isAhead_25 rfl rfl (by omega) (by omega) ⟨_, rfl, rfl, ⟨true, rfl, fun _ => hbk.mpr h8, fun _ => rfl⟩, rfl⟩
end M4
