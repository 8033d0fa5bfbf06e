def gbs (G H : xG) (g k nn kk cc : Nat) : Prop := (nn = g + 6 + 2 * (gsk k).length ∧ kk = 5 + 2 * (gsk k).length ∧ cc = 199 + 6 * (gsk k).length) ∧ ∃ (fs fz : Nat → Option Nat),
  (H g = .inr (3, [.ref (g + 1), .ref (g + 2), .ref (g + 3), .ref (g + 4), .ref (g + 5)]) ∧ H (g + 1) = .inl (3, 49, .inr (.inr (.inr (.inr fs)))) ∧ H (g + 2) = .inl (2, 49, .inl (fun _ => 0)) ∧ H (g + 3) = .inl (3, 49, .inr (.inr (.inr (.inr fz)))) ∧ H (g + 4) = .inl (0, 49, .inl (fun _ => 0))) ∧
  (∃ x y z, H (g + 5) = xT x y z) ∧ (∀ j, j < (gsk k).length → fs j = some (g + 6 + 2 * j)) ∧ (∀ j, j < (gsk k).length → fz j = some (g + 7 + 2 * j)) ∧ (∀ j p, (gsk k)[j]? = some p → H (g + 6 + 2 * j) = xTp p) ∧ (∀ j, j < (gsk k).length → ∃ x y z, H (g + 7 + 2 * j) = xT x y z) ∧ xlow g G H
theorem gsk_le {k : Nat} (hk : k ≤ 125) : (gsk k).length ≤ 49 := by
  have h2 : List.range 125 = List.range k ++ List.range' k (125 - k) := by
    have e : 125 = k + (125 - k) := by omega
    rw [List.range_eq_range', List.range_eq_range']
    conv => lhs; rw [e]
    rw [← List.range'_append_1]
    simp
  have h3 := gsm_len
  unfold gsm gsk at h3
  rw [h2, List.map_append, List.filter_append, List.length_append] at h3
  unfold gsk
  omega
theorem gat_abc {a b c : Nat} (hb : b < 5) (hc : c < 5) : gat (25 * a + 5 * b + c) = ((a : Int) - 2, (b : Int) - 2, (c : Int) - 2) := by
  have e1 : (25 * a + 5 * b + c) / 25 = a := by omega
  have e2 : (25 * a + 5 * b + c) / 5 % 5 = b := by omega
  have e3 : (25 * a + 5 * b + c) % 5 = c := by omega
  unfold gat
  rw [e1, e2, e3]
theorem gbs_no {G H : xG} {g k nn kk cc : Nat} {x y z : Int64} (h : gbs G H g k nn kk cc) (hn : isN (gat k) = false) : gbs G (va_up H (g + 5) (xT x y z)) g (k + 1) nn kk cc := by
  obtain ⟨h0, fs, fz, ⟨g0, g1, g2, g3, g4⟩, ⟨x1, y1, z1, g5⟩, h1, h2, h3, h4, h5⟩ := h
  have e : gsk (k + 1) = gsk k := by rw [gsk_s, hn, if_neg (by decide), List.append_nil]
  unfold gbs
  rw [e]
  refine ⟨h0, fs, fz, ⟨(by repeat (first | assumption | exact va_up_self _ _ _ | refine (va_up_ne _ _ (by omega)).trans ?_)), (by repeat (first | assumption | exact va_up_self _ _ _ | refine (va_up_ne _ _ (by omega)).trans ?_)), (by repeat (first | assumption | exact va_up_self _ _ _ | refine (va_up_ne _ _ (by omega)).trans ?_)), (by repeat (first | assumption | exact va_up_self _ _ _ | refine (va_up_ne _ _ (by omega)).trans ?_)), (by repeat (first | assumption | exact va_up_self _ _ _ | refine (va_up_ne _ _ (by omega)).trans ?_))⟩, ⟨x, y, z, va_up_self _ _ _⟩, h1, h2, fun j p hj => ?_, fun j hj => ?_, xlow_up h5 (by omega)⟩
  · rw [va_up_ne _ _ (by omega)]
    exact h3 j p hj
  · rw [va_up_ne _ _ (by omega)]
    exact h4 j hj
abbrev gIp (G : xG) (g : Nat) : Option Value → Nat → xG → Prop := fun v m H => v = none ∧ m = g + 104 ∧ (∃ I, gro H g I) ∧ xlow g G H
theorem k_G_init {g : Nat} {G : xG} (hG : G g = .inr (3, nf3)) : xK mG_init [.ref g] (g + 1) G 103 493 (gIp G g) xNo := by
  have lt2 : ∀ a : Nat, a ≤ 5 → (iI 2 < iI ((a : Int) - 2) ↔ a = 5) := fun a ha => by
    rw [iI_lt (by decide) (by omega)]
    omega
  have inc : ∀ a : Nat, iI ((a : Int) - 2) + Int32.ofInt 1 = iI (((a + 1 : Nat) : Int) - 2) := fun a => by
    rw [show Int32.ofInt 1 = iI 1 from rfl, iI_add]
    congr 1
    omega
  have loop3 : ∀ (a b : Nat), a < 5 → b < 5 → (∀ (nn kk cc : Nat) (H : xG), gbs G H g (25 * a + 5 * (b + 1)) nn kk cc → xS mG_init (g + 1) 103 493 (gIp G g) xNo 62 [(0, .ref g), (1, .int (nI (gsk (25 * a + 5 * (b + 1))).length)), (2, .int (iI ((a : Int) - 2))), (3, .int (iI (((b + 1 : Nat) : Int) - 2)))] [] nn H kk cc) →
      ∀ (m c nn kk cc : Nat) (H : xG), 5 - c < m → c ≤ 5 → gbs G H g (25 * a + 5 * b + c) nn kk cc →
      xS mG_init (g + 1) 103 493 (gIp G g) xNo 71 [(0, .ref g), (1, .int (nI (gsk (25 * a + 5 * b + c)).length)), (2, .int (iI ((a : Int) - 2))), (3, .int (iI ((b : Int) - 2))), (4, .int (iI ((c : Int) - 2)))] [] nn H kk cc := by
    intro a b ha hb hout m
    induction m with
    | zero => intro c nn kk cc H q; exact absurd q (by omega)
    | succ m ih =>
      intro c nn kk cc H q1 q2 hs
      refine xs_iload dG_init_71 rfl ?_
      refine xs_iconst (v := 2) dG_init_73 (by decide) ?_
      refine xs_icmp_gt dG_init_74 (fun hg => ?_) (fun hg => ?_)
      · have hc : c = 5 := (lt2 c q2).mp hg
        subst hc
        refine xs_iinc (L2 := [(3, _), (0, _), (1, _), (2, _), (4, _)]) dG_init_155 rfl rfl (by decide) rfl ?_
        refine xs_goto dG_init_158 ?_
        refine xs_pick (L2 := [(0, _), (1, _), (2, _), (3, _)]) [1, 2, 3, 0] rfl ?_
        rw [inc]
        rw [show 25 * a + 5 * b + 5 = 25 * a + 5 * (b + 1) by omega] at hs ⊢
        exact hout nn kk cc H hs
      · have hc : c < 5 := by
          rcases Nat.lt_or_ge c 5 with q | q
          · exact q
          · exact absurd ((lt2 c q2).mpr (by omega)) hg
        have hgat := gat_abc (a := a) hb hc
        obtain ⟨k, hk⟩ : ∃ k, k = 25 * a + 5 * b + c := ⟨_, rfl⟩
        have hk1 : k + 1 = 25 * a + 5 * b + (c + 1) := by omega
        rw [← hk] at hs hgat ⊢
        have next : ∀ (nn kk cc : Nat) (H : xG), gbs G H g (k + 1) nn kk cc → xS mG_init (g + 1) 103 493 (gIp G g) xNo 149 [(0, .ref g), (1, .int (nI (gsk (k + 1)).length)), (2, .int (iI ((a : Int) - 2))), (3, .int (iI ((b : Int) - 2))), (4, .int (iI ((c : Int) - 2)))] [] nn H kk cc := by
          intro nn kk cc H hs
          refine xs_iinc (L2 := [(4, _), (0, _), (1, _), (2, _), (3, _)]) dG_init_149 rfl rfl (by decide) rfl ?_
          refine xs_goto dG_init_152 ?_
          refine xs_pick (L2 := [(0, _), (1, _), (2, _), (3, _), (4, _)]) [1, 2, 3, 4, 0] rfl ?_
          rw [inc]
          rw [hk1] at hs ⊢
          exact ih (c + 1) nn kk cc H (by omega) (by omega) hs
        obtain ⟨⟨e1, e2, e3⟩, fs, fz, ⟨g0, g1, g2, g3, g4⟩, ⟨x1, y1, z1, g5⟩, h1, h2, h3, h4, h5⟩ := id hs
        have bdk : bd 281474976710656 (gat k) := by
          rw [hgat]
          refine ⟨?_, ?_, ?_⟩ <;> simp only <;> omega
        have hno : isN (gat k) = false → ∀ x y z, xS mG_init (g + 1) 103 493 (gIp G g) xNo 149 [(0, .ref g), (1, .int (nI (gsk k).length)), (2, .int (iI ((a : Int) - 2))), (3, .int (iI ((b : Int) - 2))), (4, .int (iI ((c : Int) - 2)))] [] nn (va_up H (g + 5) (xT x y z)) kk cc := by
          intro hn x y z
          have hs2 := gbs_no (x := x) (y := y) (z := z) hs hn
          have := next nn kk cc _ hs2
          rw [show gsk (k + 1) = gsk k by rw [gsk_s, hn, if_neg (by decide), List.append_nil]] at this
          exact this
        have hlen : (gsk k).length ≤ 49 := gsk_le (by omega)
        subst e1; subst e2; subst e3
        refine xs_aload_n dG_init_77 rfl ?_
        refine xs_get dG_init_78 flG_29 (by repeat (first | assumption | exact va_up_self _ _ _ | refine (va_up_ne _ _ (by omega)).trans ?_)) rfl ?_
        refine xs_iload_n dG_init_81 rfl ?_
        refine xs_i2l dG_init_82 ?_
        refine xs_iload_n dG_init_83 rfl ?_
        refine xs_i2l dG_init_84 ?_
        refine xs_iload dG_init_85 rfl ?_
        refine xs_i2l dG_init_87 ?_
        rw [iI_l (by omega), iI_l (by omega), iI_l (by omega)]
        refine xs_cV_v (As := [_, _, _]) dG_init_88 lkG_33 (by repeat (first | assumption | exact va_up_self _ _ _ | refine (va_up_ne _ _ (by omega)).trans ?_)) (k_T_put g5) rfl rfl (Nat.le_of_ble_eq_true rfl) ⟨by decide, by decide⟩ ⟨by omega, by omega⟩ ?_
        refine xs_iload_n dG_init_91 rfl ?_
        refine xs_bipush (v := 49) dG_init_92 (by decide) ?_
        rw [show xT (iL ((a : Int) - 2)) (iL ((b : Int) - 2)) (iL ((c : Int) - 2)) = xTp (gat k) by rw [hgat]]
        refine xs_icmp_ge dG_init_94 (fun hg => ?_) (fun hg => ?_)
        · have h49 := (nI_leI (a := 49) (by omega) (by omega)).mp hg
          refine hno ?_ _ _ _
          cases hn : isN (gat k) with
          | false => rfl
          | true => exact absurd (gsk_room (by omega) hn) (by omega)
        · have h49 : (gsk k).length < 49 := nI_lt_of (b := 49) (by omega) (by omega) hg
          refine xs_aload_n dG_init_97 rfl ?_
          refine xs_get dG_init_98 flG_29 (by repeat (first | assumption | exact va_up_self _ _ _ | refine (va_up_ne _ _ (by omega)).trans ?_)) rfl ?_
          refine xs_cV_i (As := []) dG_init_101 lkG_37 (by repeat (first | assumption | exact va_up_self _ _ _ | refine (va_up_ne _ _ (by omega)).trans ?_)) (k_T_isNormalized (va_up_self _ _ _) bdk) rfl rfl (Nat.le_of_ble_eq_true rfl) ⟨by decide, by decide⟩ ⟨by omega, by omega⟩ ?_
          refine xs_if_eq dG_init_104 (fun h => ?_) (fun h => ?_)
          · exact hno ((bI_0 _).mp h) _ _ _
          · have hn : isN (gat k) = true := (bI_1n _).mp h
            have hin := fin49 h49
            have he : gsk (k + 1) = gsk k ++ [gat k] := by rw [gsk_s, hn, if_pos rfl]
            refine xs_aload_n dG_init_107 rfl ?_
            refine xs_get dG_init_108 flG_13 (by repeat (first | assumption | exact va_up_self _ _ _ | refine (va_up_ne _ _ (by omega)).trans ?_)) rfl ?_
            refine xs_iload_n dG_init_111 rfl ?_
            refine xs_new dG_init_112 klG_11 xn5 (by omega) (by omega) ?_
            refine xs_dup dG_init_115 rfl ?_
            refine xs_cIN_v (As := []) dG_init_116 lkG_28 (k_T_init) rfl rfl (Nat.le_of_ble_eq_true rfl) ⟨by decide, by decide⟩ ⟨by omega, by omega⟩ ?_
            refine xs_ast3 dG_init_119 (by repeat (first | assumption | exact va_up_self _ _ _ | refine (va_up_ne _ _ (by omega)).trans ?_)) (by assumption) (by repeat (first | assumption | exact va_up_self _ _ _ | refine (va_up_ne _ _ (by omega)).trans ?_)) ?_
            refine xs_aload_n dG_init_120 rfl ?_
            refine xs_get dG_init_121 flG_21 (by repeat (first | assumption | exact va_up_self _ _ _ | refine (va_up_ne _ _ (by omega)).trans ?_)) rfl ?_
            refine xs_iload_n dG_init_124 rfl ?_
            refine xs_new dG_init_125 klG_11 xn5 (by omega) (by omega) ?_
            refine xs_dup dG_init_128 rfl ?_
            refine xs_cIN_v (As := []) dG_init_129 lkG_28 (k_T_init) rfl rfl (Nat.le_of_ble_eq_true rfl) ⟨by decide, by decide⟩ ⟨by omega, by omega⟩ ?_
            refine xs_ast3 dG_init_132 (by repeat (first | assumption | exact va_up_self _ _ _ | refine (va_up_ne _ _ (by omega)).trans ?_)) (by assumption) (by repeat (first | assumption | exact va_up_self _ _ _ | refine (va_up_ne _ _ (by omega)).trans ?_)) ?_
            rw [nI_clamp (by omega)]
            refine xs_aload_n dG_init_133 rfl ?_
            refine xs_get dG_init_134 flG_13 (by repeat (first | assumption | exact va_up_self _ _ _ | refine (va_up_ne _ _ (by omega)).trans ?_)) rfl ?_
            refine xs_iload_n dG_init_137 rfl ?_
            refine xs_ald3 dG_init_138 (by repeat (first | assumption | exact va_up_self _ _ _ | refine (va_up_ne _ _ (by omega)).trans ?_)) (by assumption) (by rw [nI_clamp (by omega)]; exact va_up_self _ _ _) ?_
            refine xs_aload_n dG_init_139 rfl ?_
            refine xs_get dG_init_140 flG_29 (by repeat (first | assumption | exact va_up_self _ _ _ | refine (va_up_ne _ _ (by omega)).trans ?_)) rfl ?_
            refine xs_cV_v (As := [_]) dG_init_143 lkG_41 (by repeat (first | assumption | exact va_up_self _ _ _ | refine (va_up_ne _ _ (by omega)).trans ?_)) (k_T_copyFrom (a:=0) (b:=0) (c:=0) (by repeat (first | assumption | exact va_up_self _ _ _ | refine (va_up_ne _ _ (by omega)).trans ?_)) (by repeat (first | assumption | exact va_up_self _ _ _ | refine (va_up_ne _ _ (by omega)).trans ?_))) rfl rfl (Nat.le_of_ble_eq_true rfl) ⟨by decide, by decide⟩ ⟨by omega, by omega⟩ ?_
            refine xs_iinc (L2 := [(1, _), (0, _), (2, _), (3, _), (4, _)]) dG_init_146 rfl rfl (by decide) rfl ?_
            refine xs_pick (L2 := [(0, _), (1, _), (2, _), (3, _), (4, _)]) [1, 0, 2, 3, 4] rfl ?_
            rw [xii]
            have hl1 : (gsk k).length + 1 = (gsk (k + 1)).length := by rw [he, List.length_append, List.length_singleton]
            rw [hl1]
            refine next _ _ _ _ ⟨⟨by omega, by omega, by omega⟩, va_up fs (gsk k).length (some (g + 6 + 2 * (gsk k).length)), va_up fz (gsk k).length (some (g + 6 + 2 * (gsk k).length + 1)), ⟨(by repeat (first | assumption | exact va_up_self _ _ _ | refine (va_up_ne _ _ (by omega)).trans ?_)), (by repeat (first | assumption | exact va_up_self _ _ _ | refine (va_up_ne _ _ (by omega)).trans ?_)), (by repeat (first | assumption | exact va_up_self _ _ _ | refine (va_up_ne _ _ (by omega)).trans ?_)), (by repeat (first | assumption | exact va_up_self _ _ _ | refine (va_up_ne _ _ (by omega)).trans ?_)), (by repeat (first | assumption | exact va_up_self _ _ _ | refine (va_up_ne _ _ (by omega)).trans ?_))⟩, ⟨_, _, _, (by repeat (first | assumption | exact va_up_self _ _ _ | refine (va_up_ne _ _ (by omega)).trans ?_))⟩, fun j hj => ?_, fun j hj => ?_, fun j p hj => ?_, fun j hj => ?_, ?_⟩
            · by_cases hji : j = (gsk k).length
              · subst hji
                rw [va_up_self]
              · rw [va_up_ne _ _ hji]
                exact h1 j (by omega)
            · by_cases hji : j = (gsk k).length
              · subst hji
                rw [va_up_self]
                congr 1
                omega
              · rw [va_up_ne _ _ hji]
                exact h2 j (by omega)
            · by_cases hji : j = (gsk k).length
              · subst hji
                rw [he, List.getElem?_append_right (Nat.le_refl _), Nat.sub_self] at hj
                cases hj
                exact va_up_self _ _ _
              · have hj2 := (List.getElem?_eq_some_iff.mp hj).1
                rw [he, List.getElem?_append_left (by omega)] at hj
                rw [va_up_ne _ _ (by omega), va_up_ne _ _ (by omega), va_up_ne _ _ (by omega), va_up_ne _ _ (by omega), va_up_ne _ _ (by omega), va_up_ne _ _ (by omega)]
                exact h3 j p hj
            · by_cases hji : j = (gsk k).length
              · subst hji
                refine ⟨0, 0, 0, ?_⟩
                rw [show g + 7 + 2 * (gsk k).length = g + 6 + 2 * (gsk k).length + 1 by omega]
                exact (by repeat (first | assumption | exact va_up_self _ _ _ | refine (va_up_ne _ _ (by omega)).trans ?_))
              · rw [va_up_ne _ _ (by omega), va_up_ne _ _ (by omega), va_up_ne _ _ (by omega), va_up_ne _ _ (by omega), va_up_ne _ _ (by omega), va_up_ne _ _ (by omega)]
                exact h4 j (by omega)
            · repeat (first | exact h5 | refine xlow_up ?_ (by omega))
  have loop2 : ∀ (a : Nat), a < 5 → (∀ (nn kk cc : Nat) (H : xG), gbs G H g (25 * (a + 1)) nn kk cc → xS mG_init (g + 1) 103 493 (gIp G g) xNo 54 [(0, .ref g), (1, .int (nI (gsk (25 * (a + 1))).length)), (2, .int (iI (((a + 1 : Nat) : Int) - 2)))] [] nn H kk cc) →
      ∀ (m b nn kk cc : Nat) (H : xG), 5 - b < m → b ≤ 5 → gbs G H g (25 * a + 5 * b) nn kk cc →
      xS mG_init (g + 1) 103 493 (gIp G g) xNo 62 [(0, .ref g), (1, .int (nI (gsk (25 * a + 5 * b)).length)), (2, .int (iI ((a : Int) - 2))), (3, .int (iI ((b : Int) - 2)))] [] nn H kk cc := by
    intro a ha hout m
    induction m with
    | zero => intro b nn kk cc H q; exact absurd q (by omega)
    | succ m ih =>
      intro b nn kk cc H q1 q2 hs
      refine xs_iload_n dG_init_62 rfl ?_
      refine xs_iconst (v := 2) dG_init_63 (by decide) ?_
      refine xs_icmp_gt dG_init_64 (fun hg => ?_) (fun hg => ?_)
      · have hb : b = 5 := (lt2 b q2).mp hg
        subst hb
        refine xs_iinc (L2 := [(2, _), (0, _), (1, _), (3, _)]) dG_init_161 rfl rfl (by decide) rfl ?_
        refine xs_goto dG_init_164 ?_
        refine xs_pick (L2 := [(0, _), (1, _), (2, _)]) [1, 2, 0] rfl ?_
        rw [inc]
        rw [show 25 * a + 5 * 5 = 25 * (a + 1) by omega] at hs ⊢
        exact hout nn kk cc H hs
      · have hb : b < 5 := by
          rcases Nat.lt_or_ge b 5 with q | q
          · exact q
          · exact absurd ((lt2 b q2).mpr (by omega)) hg
        refine xs_bipush (v := (-2)) dG_init_67 (by decide) ?_
        refine xs_istore (L2 := [(4, _), (0, _), (1, _), (2, _), (3, _)]) dG_init_69 (by decide) rfl ?_
        refine xs_pick (L2 := [(0, _), (1, _), (2, _), (3, _), (4, _)]) [1, 2, 3, 4, 0] rfl ?_
        exact loop3 a b ha hb (fun nn kk cc H hs => ih (b + 1) nn kk cc H (by omega) (by omega) hs) 6 0 nn kk cc H (by omega) (by omega) hs
  have loop1 : ∀ (m a nn kk cc : Nat) (H : xG), 5 - a < m → a ≤ 5 → gbs G H g (25 * a) nn kk cc →
      xS mG_init (g + 1) 103 493 (gIp G g) xNo 54 [(0, .ref g), (1, .int (nI (gsk (25 * a)).length)), (2, .int (iI ((a : Int) - 2)))] [] nn H kk cc := by
    intro m
    induction m with
    | zero => intro a nn kk cc H q; exact absurd q (by omega)
    | succ m ih =>
      intro a nn kk cc H q1 q2 hs
      refine xs_iload_n dG_init_54 rfl ?_
      refine xs_iconst (v := 2) dG_init_55 (by decide) ?_
      refine xs_icmp_gt dG_init_56 (fun hg => ?_) (fun hg => ?_)
      · have ha : a = 5 := (lt2 a q2).mp hg
        subst ha
        obtain ⟨⟨e1, e2, e3⟩, fs, fz, ⟨g0, g1, g2, g3, g4⟩, g5, h1, h2, h3, h4, h5⟩ := hs
        have hl : (gsk (25 * 5)).length = 49 := gsm_len
        rw [hl] at e1 e2 e3 h1 h2 h4
        subst e1; subst e2; subst e3
        exact xs_vret dG_init_167 rfl (by omega) (by omega) ⟨rfl, by omega, ⟨fun _ => false, fs, fz, _, _, ⟨⟨g0, g1, g2, g3, g4⟩, g5, h1, h2, h3, h4⟩, fun j hj => rfl⟩, h5⟩
      · have ha : a < 5 := by
          rcases Nat.lt_or_ge a 5 with q | q
          · exact q
          · exact absurd ((lt2 a q2).mpr (by omega)) hg
        refine xs_bipush (v := (-2)) dG_init_59 (by decide) ?_
        refine xs_istore_n (L2 := [(3, _), (0, _), (1, _), (2, _)]) dG_init_61 (by decide) rfl ?_
        refine xs_pick (L2 := [(0, _), (1, _), (2, _), (3, _)]) [1, 2, 3, 0] rfl ?_
        exact loop2 a ha (fun nn kk cc H hs => ih (a + 1) nn kk cc H (by omega) (by omega) hs) 6 0 nn kk cc H (by omega) (by omega) hs
  refine xK_of2 (L0 := [(0, _)]) (by decide +kernel) rfl (Nat.le_of_ble_eq_true rfl) rfl ?_
  refine xs_aload_n dG_init_0 rfl ?_
  refine xs_objInit dG_init_1 ljG_3 (Nat.le_of_ble_eq_true rfl) ⟨by decide, by decide⟩ ?_
  refine xs_aload_n dG_init_4 rfl ?_
  refine xs_bipush (v := 49) dG_init_5 (by decide) ?_
  refine xs_newQ (tag := 3) (N := 49) rfl (by decide) klG_11 dG_init_7 rfl (by omega) (by omega) (by omega) ?_
  refine xs_putF dG_init_10 flG_13 ft3_0 rfl rfl (by repeat (first | assumption | exact va_up_self _ _ _ | refine (va_up_ne _ _ (by omega)).trans ?_)) (fun _ => rfl) (fun _ => rfl) (by simp) ?_
  refine xs_aload_n dG_init_13 rfl ?_
  refine xs_bipush (v := 49) dG_init_14 (by decide) ?_
  refine xs_newZ (N := 49) dG_init_16 rfl (by omega) (by omega) (by omega) ?_
  refine xs_putF dG_init_18 flG_17 ft3_1 rfl rfl (by repeat (first | assumption | exact va_up_self _ _ _ | refine (va_up_ne _ _ (by omega)).trans ?_)) (fun _ => rfl) (fun _ => rfl) (by simp) ?_
  refine xs_aload_n dG_init_21 rfl ?_
  refine xs_bipush (v := 49) dG_init_22 (by decide) ?_
  refine xs_newQ (tag := 3) (N := 49) rfl (by decide) klG_11 dG_init_24 rfl (by omega) (by omega) (by omega) ?_
  refine xs_putF dG_init_27 flG_21 ft3_2 rfl rfl (by repeat (first | assumption | exact va_up_self _ _ _ | refine (va_up_ne _ _ (by omega)).trans ?_)) (fun _ => rfl) (fun _ => rfl) (by simp) ?_
  refine xs_aload_n dG_init_30 rfl ?_
  refine xs_bipush (v := 49) dG_init_31 (by decide) ?_
  refine xs_newI (N := 49) dG_init_33 rfl (by omega) (by omega) (by omega) ?_
  refine xs_putF dG_init_35 flG_24 ft3_3 rfl rfl (by repeat (first | assumption | exact va_up_self _ _ _ | refine (va_up_ne _ _ (by omega)).trans ?_)) (fun _ => rfl) (fun _ => rfl) (by simp) ?_
  refine xs_aload_n dG_init_38 rfl ?_
  refine xs_new dG_init_39 klG_11 xn5 (by omega) (by omega) ?_
  refine xs_dup dG_init_42 rfl ?_
  refine xs_cIN_v (As := []) dG_init_43 lkG_28 (k_T_init) rfl rfl (Nat.le_of_ble_eq_true rfl) ⟨by decide, by decide⟩ ⟨by omega, by omega⟩ ?_
  refine xs_putF dG_init_46 flG_29 ft3_4 rfl rfl (by repeat (first | assumption | exact va_up_self _ _ _ | refine (va_up_ne _ _ (by omega)).trans ?_)) (fun _ => rfl) (fun _ => rfl) (by simp) ?_
  refine xs_iconst (v := 0) dG_init_49 (by decide) ?_
  refine xs_istore_n (L2 := [(1, _), (0, _)]) dG_init_50 (by decide) rfl ?_
  refine xs_bipush (v := (-2)) dG_init_51 (by decide) ?_
  refine xs_istore_n (L2 := [(2, _), (1, _), (0, _)]) dG_init_53 (by decide) rfl ?_
  refine xs_pick (L2 := [(0, _), (1, _), (2, _)]) [2, 1, 0] rfl ?_
  refine loop1 6 0 _ _ _ _ (by omega) (by omega) ⟨⟨rfl, rfl, rfl⟩, fun _ => none, fun _ => none, ⟨?_, (by repeat (first | assumption | exact va_up_self _ _ _ | refine (va_up_ne _ _ (by omega)).trans ?_)), (by repeat (first | assumption | exact va_up_self _ _ _ | refine (va_up_ne _ _ (by omega)).trans ?_)), (by repeat (first | assumption | exact va_up_self _ _ _ | refine (va_up_ne _ _ (by omega)).trans ?_)), (by repeat (first | assumption | exact va_up_self _ _ _ | refine (va_up_ne _ _ (by omega)).trans ?_))⟩, ⟨0, 0, 0, (by repeat (first | assumption | exact va_up_self _ _ _ | refine (va_up_ne _ _ (by omega)).trans ?_))⟩, fun j hj => absurd hj (Nat.not_lt_zero _), fun j hj => absurd hj (Nat.not_lt_zero _), fun j p hj => (by cases hj), fun j hj => absurd hj (Nat.not_lt_zero _), ?_⟩
  · rw [va_up_self]
    rfl
  · repeat (first | exact xlow_rf | refine xlow_up ?_ (by omega))
