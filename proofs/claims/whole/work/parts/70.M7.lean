section XB
variable {M : xM} {n0 mc ms : Nat} {Q : Option Value → Nat → xG → Prop} {X : String → Nat → xG → Prop} {pc pc2 tgt : Nat} {L : List (Nat × Value)} {st : List Value} {n : Nat} {G : xG} {k c : Nat}
theorem xs_ifb_eq {b : Bool} (d : xDJ M pc pc2 tgt (.ifCond .eq)) (kt : b = false → xS M n0 mc ms Q X tgt L st n G k c) (kf : b = true → xS M n0 mc ms Q X pc2 L st n G k c) : xS M n0 mc ms Q X pc L (.int (bI b) :: st) n G k c :=
  xs_if_eq d (fun h => kt ((bI_0 _).mp h)) (fun h => kf ((bI_1n _).mp h))
theorem xs_ifb_ne {b : Bool} (d : xDJ M pc pc2 tgt (.ifCond .ne)) (kt : b = true → xS M n0 mc ms Q X tgt L st n G k c) (kf : b = false → xS M n0 mc ms Q X pc2 L st n G k c) : xS M n0 mc ms Q X pc L (.int (bI b) :: st) n G k c :=
  xs_if_ne d (fun h => kt ((bI_1n _).mp h)) (fun h => kf ((bI_0 _).mp h))
end XB
def al (x y : Int) : Bool := decide (x.natAbs = y.natAbs)
section M7
variable {n b : Nat} {G : xG} {rf sz sp ac zs ft : Int32} {gd : Bool}
theorem k_B_areLike {x y : Int} (hx : x.natAbs < 1000) (hy : y.natAbs < 1000) : xK mB_areLike [.long (iI x).toInt64, .long (iI y).toInt64] n G 0 0 (qI n G (bI (al x y))) xNo := by
  rw [iI_l (by omega), iI_l (by omega)]
  have l1 := iL_eq (x := x) (y := y) (by omega) (by omega)
  have l2 := iL_eq (x := x) (y := -y) (by omega) (by omega)
  have yes : x.natAbs = y.natAbs → xS mB_areLike n 0 0 (qI n G (bI (al x y))) xNo 13 [(0, .long (iL x)), (2, .long (iL y))] [] n G 0 0 := by
    intro h
    refine xs_iconst (v := 1) dB_areLike_13 (by decide) ?_
    refine xs_goto dB_areLike_14 ?_
    exact xs_iret dB_areLike_18 rfl rfl (by omega) (by omega) ⟨by rw [al, bI_t h], rfl, rfl⟩
  refine xK_of2 (L0 := [(0, _), (2, _)]) (by decide +kernel) rfl (Nat.le_of_ble_eq_true rfl) rfl ?_
  refine xs_lload_n dB_areLike_0 rfl ?_
  refine xs_lload_n dB_areLike_1 rfl ?_
  refine xs_lc_eq dB_areLike_2 dB_areLike_3 (fun h => yes (by rw [l1.mp h])) (fun h => ?_)
  have h1 : ¬ x = y := fun e => h (l1.mpr e)
  refine xs_lload_n dB_areLike_6 rfl ?_
  refine xs_lload_n dB_areLike_7 rfl ?_
  refine xs_lneg dB_areLike_8 ?_
  rw [iL_neg]
  refine xs_lc_ne dB_areLike_9 dB_areLike_10 (fun h => ?_) (fun h => yes (by rw [l2.mp h, Int.natAbs_neg]))
  have h2 : ¬ x = -y := fun e => h (l2.mpr e)
  refine xs_iconst (v := 0) dB_areLike_17 (by decide) ?_
  exact xs_iret dB_areLike_18 rfl rfl (by omega) (by omega) ⟨by rw [al, bI_f (by omega)], rfl, rfl⟩
theorem zEq_b {s : Int} {p q : P3} {e : Bool} (h : e = true ↔ zEqP s p q) : zEq s p q = e := by
  cases he : e with
  | true => exact zEq_P.mpr (h.mp he)
  | false =>
    refine Bool.eq_false_iff.mpr (fun w => ?_)
    have := h.mpr (zEq_P.mp w)
    rw [he] at this
    cases this
theorem k_B_areEquivalent {s : Int} {a b c h k l : Int} (hs : 0 ≤ s ∧ s ≤ 4) (ha : a.natAbs < 1000) (hb : b.natAbs < 1000) (hc : c.natAbs < 1000) (hh : h.natAbs < 1000) (hk : k.natAbs < 1000) (hl : l.natAbs < 1000) : xK mB_areEquivalent [.int (iI s), .int (iI a), .int (iI b), .int (iI c), .int (iI h), .int (iI k), .int (iI l)] n G 0 0 (qI n G (bI (zEq s (a, b, c) (h, k, l)))) xNo := by
  have hcs : s = 0 ∨ s = 1 ∨ s = 2 ∨ s = 3 ∨ s = 4 := by omega
  refine xK_of2 (L0 := [(0, _), (1, _), (2, _), (3, _), (4, _), (5, _), (6, _)]) (by decide +kernel) rfl (Nat.le_of_ble_eq_true rfl) rfl ?_
  refine xs_iload_n dB_areEquivalent_0 rfl ?_
  clear hs
  rcases hcs with rfl | rfl | rfl | rfl | rfl
  · have q1 : iI a = iI h ↔ a = h := iI_eq (by omega) (by omega)
    have q2 : iI b = iI k ↔ b = k := iI_eq (by omega) (by omega)
    have q3 : iI c = iI l ↔ c = l := iI_eq (by omega) (by omega)
    have q4 : iI a = -iI h ↔ a = -h := by rw [iI_neg]; exact iI_eq (by omega) (by omega)
    have q5 : iI b = -iI k ↔ b = -k := by rw [iI_neg]; exact iI_eq (by omega) (by omega)
    have q6 : iI c = -iI l ↔ c = -l := by rw [iI_neg]; exact iI_eq (by omega) (by omega)
    have hE : zEq 0 (a, b, c) (h, k, l) = decide ((a = h ∧ b = k ∧ c = l) ∨ (a = -h ∧ b = -k ∧ c = -l)) := zEq_b (by
      rw [decide_eq_true_iff]
      simp only [zEqP, ng, Prod.mk.injEq, if_true])
    rw [hE]
    refine xs_tsIn (tgt := 32) dB_areEquivalent_1 (by decide) (by decide) rfl (by decide) ?_
    have no : ¬ ((a = h ∧ b = k ∧ c = l) ∨ (a = -h ∧ b = -k ∧ c = -l)) → xS mB_areEquivalent n 0 0 (qI n G (bI (decide ((a = h ∧ b = k ∧ c = l) ∨ (a = -h ∧ b = -k ∧ c = -l))))) xNo 75 [(0, .int (iI 0)), (1, .int (iI a)), (2, .int (iI b)), (3, .int (iI c)), (4, .int (iI h)), (5, .int (iI k)), (6, .int (iI l))] [] n G 0 0 := by
      intro w
      refine xs_iconst (v := 0) dB_areEquivalent_75 (by decide) ?_
      exact xs_iret dB_areEquivalent_76 rfl rfl (by omega) (by omega) ⟨by rw [bI_f w], rfl, rfl⟩
    have yes : ((a = h ∧ b = k ∧ c = l) ∨ (a = -h ∧ b = -k ∧ c = -l)) → xS mB_areEquivalent n 0 0 (qI n G (bI (decide ((a = h ∧ b = k ∧ c = l) ∨ (a = -h ∧ b = -k ∧ c = -l))))) xNo 71 [(0, .int (iI 0)), (1, .int (iI a)), (2, .int (iI b)), (3, .int (iI c)), (4, .int (iI h)), (5, .int (iI k)), (6, .int (iI l))] [] n G 0 0 := by
      intro w
      refine xs_iconst (v := 1) dB_areEquivalent_71 (by decide) ?_
      refine xs_goto dB_areEquivalent_72 ?_
      exact xs_iret dB_areEquivalent_76 rfl rfl (by omega) (by omega) ⟨by rw [bI_t w], rfl, rfl⟩
    have second : ¬ (a = h ∧ b = k ∧ c = l) → xS mB_areEquivalent n 0 0 (qI n G (bI (decide ((a = h ∧ b = k ∧ c = l) ∨ (a = -h ∧ b = -k ∧ c = -l))))) xNo 50 [(0, .int (iI 0)), (1, .int (iI a)), (2, .int (iI b)), (3, .int (iI c)), (4, .int (iI h)), (5, .int (iI k)), (6, .int (iI l))] [] n G 0 0 := by
      intro w
      refine xs_iload_n dB_areEquivalent_50 rfl ?_
      refine xs_iload dB_areEquivalent_51 rfl ?_
      refine xs_ineg dB_areEquivalent_53 ?_
      refine xs_icmp_ne dB_areEquivalent_54 (fun e => no (fun v => v.elim w (fun v => e (q4.mpr v.1)))) (fun e1 => ?_)
      refine xs_iload_n dB_areEquivalent_57 rfl ?_
      refine xs_iload dB_areEquivalent_58 rfl ?_
      refine xs_ineg dB_areEquivalent_60 ?_
      refine xs_icmp_ne dB_areEquivalent_61 (fun e => no (fun v => v.elim w (fun v => e (q5.mpr v.2.1)))) (fun e2 => ?_)
      refine xs_iload_n dB_areEquivalent_64 rfl ?_
      refine xs_iload dB_areEquivalent_65 rfl ?_
      refine xs_ineg dB_areEquivalent_67 ?_
      refine xs_icmp_ne dB_areEquivalent_68 (fun e => no (fun v => v.elim w (fun v => e (q6.mpr v.2.2)))) (fun e3 => ?_)
      exact yes (Or.inr ⟨q4.mp e1, q5.mp e2, q6.mp e3⟩)
    refine xs_iload_n dB_areEquivalent_32 rfl ?_
    refine xs_iload dB_areEquivalent_33 rfl ?_
    refine xs_icmp_ne dB_areEquivalent_35 (fun e => second (fun v => e (q1.mpr v.1))) (fun e1 => ?_)
    refine xs_iload_n dB_areEquivalent_38 rfl ?_
    refine xs_iload dB_areEquivalent_39 rfl ?_
    refine xs_icmp_ne dB_areEquivalent_41 (fun e => second (fun v => e (q2.mpr v.2.1))) (fun e2 => ?_)
    refine xs_iload_n dB_areEquivalent_44 rfl ?_
    refine xs_iload dB_areEquivalent_45 rfl ?_
    refine xs_icmp_eq dB_areEquivalent_47 (fun e3 => yes (Or.inl ⟨q1.mp e1, q2.mp e2, q3.mp e3⟩)) (fun e => second (fun v => e (q3.mpr v.2.2)))
  · have q1 : iI a = iI h ↔ a = h := iI_eq (by omega) (by omega)
    have q3 : iI c = iI l ↔ c = l := iI_eq (by omega) (by omega)
    have q4 : iI a = -iI h ↔ a = -h := by rw [iI_neg]; exact iI_eq (by omega) (by omega)
    have q6 : iI c = -iI l ↔ c = -l := by rw [iI_neg]; exact iI_eq (by omega) (by omega)
    have hE : zEq 1 (a, b, c) (h, k, l) = decide (b.natAbs = k.natAbs ∧ (a = h ∧ c = l ∨ a = -h ∧ c = -l)) := zEq_b (by
      rw [decide_eq_true_iff]
      rfl)
    rw [hE]
    obtain ⟨P, hP⟩ : ∃ P : Bool, P = decide (b.natAbs = k.natAbs ∧ (a = h ∧ c = l ∨ a = -h ∧ c = -l)) := ⟨_, rfl⟩
    rw [← hP]
    have no : ¬ (b.natAbs = k.natAbs ∧ (a = h ∧ c = l ∨ a = -h ∧ c = -l)) → xS mB_areEquivalent n 0 0 (qI n G (bI P)) xNo 118 [(0, .int (iI 1)), (1, .int (iI a)), (2, .int (iI b)), (3, .int (iI c)), (4, .int (iI h)), (5, .int (iI k)), (6, .int (iI l))] [] n G 0 0 := by
      intro w
      refine xs_iconst (v := 0) dB_areEquivalent_118 (by decide) ?_
      exact xs_iret dB_areEquivalent_119 rfl rfl (by omega) (by omega) ⟨by rw [hP, bI_f w], rfl, rfl⟩
    have yes : (b.natAbs = k.natAbs ∧ (a = h ∧ c = l ∨ a = -h ∧ c = -l)) → xS mB_areEquivalent n 0 0 (qI n G (bI P)) xNo 114 [(0, .int (iI 1)), (1, .int (iI a)), (2, .int (iI b)), (3, .int (iI c)), (4, .int (iI h)), (5, .int (iI k)), (6, .int (iI l))] [] n G 0 0 := by
      intro w
      refine xs_iconst (v := 1) dB_areEquivalent_114 (by decide) ?_
      refine xs_goto dB_areEquivalent_115 ?_
      exact xs_iret dB_areEquivalent_119 rfl rfl (by omega) (by omega) ⟨by rw [hP, bI_t w], rfl, rfl⟩
    refine xs_tsIn (tgt := 77) dB_areEquivalent_1 (by decide) (by decide) rfl (by decide) ?_
    refine xs_iload_n dB_areEquivalent_77 rfl ?_
    refine xs_i2l dB_areEquivalent_78 ?_
    refine xs_iload dB_areEquivalent_79 rfl ?_
    refine xs_i2l dB_areEquivalent_81 ?_
    refine xs_cS_i (As := [_, _]) dB_areEquivalent_82 lkB_144 (k_B_areLike hb hk) rfl rfl (Nat.le_of_ble_eq_true rfl) ⟨by decide, by decide⟩ ⟨by omega, by omega⟩ ?_
    refine xs_ifb_eq dB_areEquivalent_85 (fun e => no (fun v => of_decide_eq_false e v.1)) (fun e0 => ?_)
    have e0 := of_decide_eq_true e0
    have second : ¬ (a = h ∧ c = l) → xS mB_areEquivalent n 0 0 (qI n G (bI P)) xNo 100 [(0, .int (iI 1)), (1, .int (iI a)), (2, .int (iI b)), (3, .int (iI c)), (4, .int (iI h)), (5, .int (iI k)), (6, .int (iI l))] [] n G 0 0 := by
      intro w
      refine xs_iload_n dB_areEquivalent_100 rfl ?_
      refine xs_iload dB_areEquivalent_101 rfl ?_
      refine xs_ineg dB_areEquivalent_103 ?_
      refine xs_icmp_ne dB_areEquivalent_104 (fun e => no (fun v => v.2.elim w (fun v => e (q4.mpr v.1)))) (fun e1 => ?_)
      refine xs_iload_n dB_areEquivalent_107 rfl ?_
      refine xs_iload dB_areEquivalent_108 rfl ?_
      refine xs_ineg dB_areEquivalent_110 ?_
      refine xs_icmp_ne dB_areEquivalent_111 (fun e => no (fun v => v.2.elim w (fun v => e (q6.mpr v.2)))) (fun e2 => ?_)
      exact yes ⟨e0, Or.inr ⟨q4.mp e1, q6.mp e2⟩⟩
    refine xs_iload_n dB_areEquivalent_88 rfl ?_
    refine xs_iload dB_areEquivalent_89 rfl ?_
    refine xs_icmp_ne dB_areEquivalent_91 (fun e => second (fun v => e (q1.mpr v.1))) (fun e1 => ?_)
    refine xs_iload_n dB_areEquivalent_94 rfl ?_
    refine xs_iload dB_areEquivalent_95 rfl ?_
    refine xs_icmp_eq dB_areEquivalent_97 (fun e2 => yes ⟨e0, Or.inl ⟨q1.mp e1, q3.mp e2⟩⟩) (fun e => second (fun v => e (q3.mpr v.2)))
  · have hE : zEq 2 (a, b, c) (h, k, l) = (al a h && al b k && al c l) := zEq_b (by
      simp only [al, Bool.and_eq_true, decide_eq_true_eq]
      show _ ↔ a.natAbs = h.natAbs ∧ b.natAbs = k.natAbs ∧ c.natAbs = l.natAbs
      rw [and_assoc])
    rw [hE]
    refine xs_tsIn (tgt := 120) dB_areEquivalent_1 (by decide) (by decide) rfl (by decide) ?_
    refine xs_iload_n dB_areEquivalent_120 rfl ?_
    refine xs_i2l dB_areEquivalent_121 ?_
    refine xs_iload dB_areEquivalent_122 rfl ?_
    refine xs_i2l dB_areEquivalent_124 ?_
    refine xs_cS_i (As := [_, _]) dB_areEquivalent_125 lkB_144 (k_B_areLike ha hh) rfl rfl (Nat.le_of_ble_eq_true rfl) ⟨by decide, by decide⟩ ⟨by omega, by omega⟩ ?_
    refine xs_ifb_eq dB_areEquivalent_128 (fun h128 => ?_) (fun h128 => ?_)
    · refine xs_iconst (v := 0) dB_areEquivalent_157 (by decide) ?_
      exact xs_iret dB_areEquivalent_158 rfl rfl (by omega) (by omega) ⟨(by simp [bI, *]), rfl, rfl⟩
    refine xs_iload_n dB_areEquivalent_131 rfl ?_
    refine xs_i2l dB_areEquivalent_132 ?_
    refine xs_iload dB_areEquivalent_133 rfl ?_
    refine xs_i2l dB_areEquivalent_135 ?_
    refine xs_cS_i (As := [_, _]) dB_areEquivalent_136 lkB_144 (k_B_areLike hb hk) rfl rfl (Nat.le_of_ble_eq_true rfl) ⟨by decide, by decide⟩ ⟨by omega, by omega⟩ ?_
    refine xs_ifb_eq dB_areEquivalent_139 (fun h139 => ?_) (fun h139 => ?_)
    · refine xs_iconst (v := 0) dB_areEquivalent_157 (by decide) ?_
      exact xs_iret dB_areEquivalent_158 rfl rfl (by omega) (by omega) ⟨(by simp [bI, *]), rfl, rfl⟩
    refine xs_iload_n dB_areEquivalent_142 rfl ?_
    refine xs_i2l dB_areEquivalent_143 ?_
    refine xs_iload dB_areEquivalent_144 rfl ?_
    refine xs_i2l dB_areEquivalent_146 ?_
    refine xs_cS_i (As := [_, _]) dB_areEquivalent_147 lkB_144 (k_B_areLike hc hl) rfl rfl (Nat.le_of_ble_eq_true rfl) ⟨by decide, by decide⟩ ⟨by omega, by omega⟩ ?_
    refine xs_ifb_eq dB_areEquivalent_150 (fun h150 => ?_) (fun h150 => ?_)
    · refine xs_iconst (v := 0) dB_areEquivalent_157 (by decide) ?_
      exact xs_iret dB_areEquivalent_158 rfl rfl (by omega) (by omega) ⟨(by simp [bI, *]), rfl, rfl⟩
    refine xs_iconst (v := 1) dB_areEquivalent_153 (by decide) ?_
    refine xs_goto dB_areEquivalent_154 ?_
    exact xs_iret dB_areEquivalent_158 rfl rfl (by omega) (by omega) ⟨(by simp [bI, *]), rfl, rfl⟩
  · have hE : zEq 3 (a, b, c) (h, k, l) = (al c l && (al a h && al b k || al a k && al b h)) := zEq_b (by
      simp only [al, Bool.and_eq_true, Bool.or_eq_true, decide_eq_true_eq]
      rfl)
    rw [hE]
    refine xs_tsIn (tgt := 159) dB_areEquivalent_1 (by decide) (by decide) rfl (by decide) ?_
    refine xs_iload_n dB_areEquivalent_159 rfl ?_
    refine xs_i2l dB_areEquivalent_160 ?_
    refine xs_iload dB_areEquivalent_161 rfl ?_
    refine xs_i2l dB_areEquivalent_163 ?_
    refine xs_cS_i (As := [_, _]) dB_areEquivalent_164 lkB_144 (k_B_areLike hc hl) rfl rfl (Nat.le_of_ble_eq_true rfl) ⟨by decide, by decide⟩ ⟨by omega, by omega⟩ ?_
    refine xs_ifb_eq dB_areEquivalent_167 (fun h167 => ?_) (fun h167 => ?_)
    · refine xs_iconst (v := 0) dB_areEquivalent_218 (by decide) ?_
      exact xs_iret dB_areEquivalent_219 rfl rfl (by omega) (by omega) ⟨(by simp [bI, *]), rfl, rfl⟩
    refine xs_iload_n dB_areEquivalent_170 rfl ?_
    refine xs_i2l dB_areEquivalent_171 ?_
    refine xs_iload dB_areEquivalent_172 rfl ?_
    refine xs_i2l dB_areEquivalent_174 ?_
    refine xs_cS_i (As := [_, _]) dB_areEquivalent_175 lkB_144 (k_B_areLike ha hh) rfl rfl (Nat.le_of_ble_eq_true rfl) ⟨by decide, by decide⟩ ⟨by omega, by omega⟩ ?_
    refine xs_ifb_eq dB_areEquivalent_178 (fun h178 => ?_) (fun h178 => ?_)
    · refine xs_iload_n dB_areEquivalent_192 rfl ?_
      refine xs_i2l dB_areEquivalent_193 ?_
      refine xs_iload dB_areEquivalent_194 rfl ?_
      refine xs_i2l dB_areEquivalent_196 ?_
      refine xs_cS_i (As := [_, _]) dB_areEquivalent_197 lkB_144 (k_B_areLike ha hk) rfl rfl (Nat.le_of_ble_eq_true rfl) ⟨by decide, by decide⟩ ⟨by omega, by omega⟩ ?_
      refine xs_ifb_eq dB_areEquivalent_200 (fun h200 => ?_) (fun h200 => ?_)
      · refine xs_iconst (v := 0) dB_areEquivalent_218 (by decide) ?_
        exact xs_iret dB_areEquivalent_219 rfl rfl (by omega) (by omega) ⟨(by simp [bI, *]), rfl, rfl⟩
      refine xs_iload_n dB_areEquivalent_203 rfl ?_
      refine xs_i2l dB_areEquivalent_204 ?_
      refine xs_iload dB_areEquivalent_205 rfl ?_
      refine xs_i2l dB_areEquivalent_207 ?_
      refine xs_cS_i (As := [_, _]) dB_areEquivalent_208 lkB_144 (k_B_areLike hb hh) rfl rfl (Nat.le_of_ble_eq_true rfl) ⟨by decide, by decide⟩ ⟨by omega, by omega⟩ ?_
      refine xs_ifb_eq dB_areEquivalent_211 (fun h211 => ?_) (fun h211 => ?_)
      · refine xs_iconst (v := 0) dB_areEquivalent_218 (by decide) ?_
        exact xs_iret dB_areEquivalent_219 rfl rfl (by omega) (by omega) ⟨(by simp [bI, *]), rfl, rfl⟩
      refine xs_iconst (v := 1) dB_areEquivalent_214 (by decide) ?_
      refine xs_goto dB_areEquivalent_215 ?_
      exact xs_iret dB_areEquivalent_219 rfl rfl (by omega) (by omega) ⟨(by simp [bI, *]), rfl, rfl⟩
    refine xs_iload_n dB_areEquivalent_181 rfl ?_
    refine xs_i2l dB_areEquivalent_182 ?_
    refine xs_iload dB_areEquivalent_183 rfl ?_
    refine xs_i2l dB_areEquivalent_185 ?_
    refine xs_cS_i (As := [_, _]) dB_areEquivalent_186 lkB_144 (k_B_areLike hb hk) rfl rfl (Nat.le_of_ble_eq_true rfl) ⟨by decide, by decide⟩ ⟨by omega, by omega⟩ ?_
    refine xs_ifb_ne dB_areEquivalent_189 (fun h189 => ?_) (fun h189 => ?_)
    · refine xs_iconst (v := 1) dB_areEquivalent_214 (by decide) ?_
      refine xs_goto dB_areEquivalent_215 ?_
      exact xs_iret dB_areEquivalent_219 rfl rfl (by omega) (by omega) ⟨(by simp [bI, *]), rfl, rfl⟩
    refine xs_iload_n dB_areEquivalent_192 rfl ?_
    refine xs_i2l dB_areEquivalent_193 ?_
    refine xs_iload dB_areEquivalent_194 rfl ?_
    refine xs_i2l dB_areEquivalent_196 ?_
    refine xs_cS_i (As := [_, _]) dB_areEquivalent_197 lkB_144 (k_B_areLike ha hk) rfl rfl (Nat.le_of_ble_eq_true rfl) ⟨by decide, by decide⟩ ⟨by omega, by omega⟩ ?_
    refine xs_ifb_eq dB_areEquivalent_200 (fun h200 => ?_) (fun h200 => ?_)
    · refine xs_iconst (v := 0) dB_areEquivalent_218 (by decide) ?_
      exact xs_iret dB_areEquivalent_219 rfl rfl (by omega) (by omega) ⟨(by simp [bI, *]), rfl, rfl⟩
    refine xs_iload_n dB_areEquivalent_203 rfl ?_
    refine xs_i2l dB_areEquivalent_204 ?_
    refine xs_iload dB_areEquivalent_205 rfl ?_
    refine xs_i2l dB_areEquivalent_207 ?_
    refine xs_cS_i (As := [_, _]) dB_areEquivalent_208 lkB_144 (k_B_areLike hb hh) rfl rfl (Nat.le_of_ble_eq_true rfl) ⟨by decide, by decide⟩ ⟨by omega, by omega⟩ ?_
    refine xs_ifb_eq dB_areEquivalent_211 (fun h211 => ?_) (fun h211 => ?_)
    · refine xs_iconst (v := 0) dB_areEquivalent_218 (by decide) ?_
      exact xs_iret dB_areEquivalent_219 rfl rfl (by omega) (by omega) ⟨(by simp [bI, *]), rfl, rfl⟩
    refine xs_iconst (v := 1) dB_areEquivalent_214 (by decide) ?_
    refine xs_goto dB_areEquivalent_215 ?_
    exact xs_iret dB_areEquivalent_219 rfl rfl (by omega) (by omega) ⟨(by simp [bI, *]), rfl, rfl⟩
  · have hE : zEq 4 (a, b, c) (h, k, l) = ((al a h && (al b k && al c l || al b l && al c k)) || ((al a k && (al b h && al c l || al b l && al c h)) || (al a l && (al b h && al c k || al b k && al c h)))) := zEq_b (by
      simp only [al, Bool.and_eq_true, Bool.or_eq_true, decide_eq_true_eq]
      rfl)
    rw [hE]
    refine xs_tsOut (tgt := 220) dB_areEquivalent_1 (by decide) (by decide) ?_
    refine xs_iload_n dB_areEquivalent_220 rfl ?_
    refine xs_i2l dB_areEquivalent_221 ?_
    refine xs_iload dB_areEquivalent_222 rfl ?_
    refine xs_i2l dB_areEquivalent_224 ?_
    refine xs_cS_i (As := [_, _]) dB_areEquivalent_225 lkB_144 (k_B_areLike ha hh) rfl rfl (Nat.le_of_ble_eq_true rfl) ⟨by decide, by decide⟩ ⟨by omega, by omega⟩ ?_
    refine xs_ifb_eq dB_areEquivalent_228 (fun h228 => ?_) (fun h228 => ?_)
    · refine xs_iload_n dB_areEquivalent_275 rfl ?_
      refine xs_i2l dB_areEquivalent_276 ?_
      refine xs_iload dB_areEquivalent_277 rfl ?_
      refine xs_i2l dB_areEquivalent_279 ?_
      refine xs_cS_i (As := [_, _]) dB_areEquivalent_280 lkB_144 (k_B_areLike ha hk) rfl rfl (Nat.le_of_ble_eq_true rfl) ⟨by decide, by decide⟩ ⟨by omega, by omega⟩ ?_
      refine xs_ifb_eq dB_areEquivalent_283 (fun h283 => ?_) (fun h283 => ?_)
      · refine xs_iload_n dB_areEquivalent_330 rfl ?_
        refine xs_i2l dB_areEquivalent_331 ?_
        refine xs_iload dB_areEquivalent_332 rfl ?_
        refine xs_i2l dB_areEquivalent_334 ?_
        refine xs_cS_i (As := [_, _]) dB_areEquivalent_335 lkB_144 (k_B_areLike ha hl) rfl rfl (Nat.le_of_ble_eq_true rfl) ⟨by decide, by decide⟩ ⟨by omega, by omega⟩ ?_
        refine xs_ifb_eq dB_areEquivalent_338 (fun h338 => ?_) (fun h338 => ?_)
        · refine xs_iconst (v := 0) dB_areEquivalent_389 (by decide) ?_
          exact xs_iret dB_areEquivalent_390 rfl rfl (by omega) (by omega) ⟨(by clear hE; first | (simp [bI, *]; done) | simp_all [bI]), rfl, rfl⟩
        refine xs_iload_n dB_areEquivalent_341 rfl ?_
        refine xs_i2l dB_areEquivalent_342 ?_
        refine xs_iload dB_areEquivalent_343 rfl ?_
        refine xs_i2l dB_areEquivalent_345 ?_
        refine xs_cS_i (As := [_, _]) dB_areEquivalent_346 lkB_144 (k_B_areLike hb hh) rfl rfl (Nat.le_of_ble_eq_true rfl) ⟨by decide, by decide⟩ ⟨by omega, by omega⟩ ?_
        refine xs_ifb_eq dB_areEquivalent_349 (fun h349 => ?_) (fun h349 => ?_)
        · refine xs_iload_n dB_areEquivalent_363 rfl ?_
          refine xs_i2l dB_areEquivalent_364 ?_
          refine xs_iload dB_areEquivalent_365 rfl ?_
          refine xs_i2l dB_areEquivalent_367 ?_
          refine xs_cS_i (As := [_, _]) dB_areEquivalent_368 lkB_144 (k_B_areLike hb hk) rfl rfl (Nat.le_of_ble_eq_true rfl) ⟨by decide, by decide⟩ ⟨by omega, by omega⟩ ?_
          refine xs_ifb_eq dB_areEquivalent_371 (fun h371 => ?_) (fun h371 => ?_)
          · refine xs_iconst (v := 0) dB_areEquivalent_389 (by decide) ?_
            exact xs_iret dB_areEquivalent_390 rfl rfl (by omega) (by omega) ⟨(by clear hE; first | (simp [bI, *]; done) | simp_all [bI]), rfl, rfl⟩
          refine xs_iload_n dB_areEquivalent_374 rfl ?_
          refine xs_i2l dB_areEquivalent_375 ?_
          refine xs_iload dB_areEquivalent_376 rfl ?_
          refine xs_i2l dB_areEquivalent_378 ?_
          refine xs_cS_i (As := [_, _]) dB_areEquivalent_379 lkB_144 (k_B_areLike hc hh) rfl rfl (Nat.le_of_ble_eq_true rfl) ⟨by decide, by decide⟩ ⟨by omega, by omega⟩ ?_
          refine xs_ifb_eq dB_areEquivalent_382 (fun h382 => ?_) (fun h382 => ?_)
          · refine xs_iconst (v := 0) dB_areEquivalent_389 (by decide) ?_
            exact xs_iret dB_areEquivalent_390 rfl rfl (by omega) (by omega) ⟨(by clear hE; first | (simp [bI, *]; done) | simp_all [bI]), rfl, rfl⟩
          refine xs_iconst (v := 1) dB_areEquivalent_385 (by decide) ?_
          refine xs_goto dB_areEquivalent_386 ?_
          exact xs_iret dB_areEquivalent_390 rfl rfl (by omega) (by omega) ⟨(by clear hE; first | (simp [bI, *]; done) | simp_all [bI]), rfl, rfl⟩
        refine xs_iload_n dB_areEquivalent_352 rfl ?_
        refine xs_i2l dB_areEquivalent_353 ?_
        refine xs_iload dB_areEquivalent_354 rfl ?_
        refine xs_i2l dB_areEquivalent_356 ?_
        refine xs_cS_i (As := [_, _]) dB_areEquivalent_357 lkB_144 (k_B_areLike hc hk) rfl rfl (Nat.le_of_ble_eq_true rfl) ⟨by decide, by decide⟩ ⟨by omega, by omega⟩ ?_
        refine xs_ifb_ne dB_areEquivalent_360 (fun h360 => ?_) (fun h360 => ?_)
        · refine xs_iconst (v := 1) dB_areEquivalent_385 (by decide) ?_
          refine xs_goto dB_areEquivalent_386 ?_
          exact xs_iret dB_areEquivalent_390 rfl rfl (by omega) (by omega) ⟨(by clear hE; first | (simp [bI, *]; done) | simp_all [bI]), rfl, rfl⟩
        refine xs_iload_n dB_areEquivalent_363 rfl ?_
        refine xs_i2l dB_areEquivalent_364 ?_
        refine xs_iload dB_areEquivalent_365 rfl ?_
        refine xs_i2l dB_areEquivalent_367 ?_
        refine xs_cS_i (As := [_, _]) dB_areEquivalent_368 lkB_144 (k_B_areLike hb hk) rfl rfl (Nat.le_of_ble_eq_true rfl) ⟨by decide, by decide⟩ ⟨by omega, by omega⟩ ?_
        refine xs_ifb_eq dB_areEquivalent_371 (fun h371 => ?_) (fun h371 => ?_)
        · refine xs_iconst (v := 0) dB_areEquivalent_389 (by decide) ?_
          exact xs_iret dB_areEquivalent_390 rfl rfl (by omega) (by omega) ⟨(by clear hE; first | (simp [bI, *]; done) | simp_all [bI]), rfl, rfl⟩
        refine xs_iload_n dB_areEquivalent_374 rfl ?_
        refine xs_i2l dB_areEquivalent_375 ?_
        refine xs_iload dB_areEquivalent_376 rfl ?_
        refine xs_i2l dB_areEquivalent_378 ?_
        refine xs_cS_i (As := [_, _]) dB_areEquivalent_379 lkB_144 (k_B_areLike hc hh) rfl rfl (Nat.le_of_ble_eq_true rfl) ⟨by decide, by decide⟩ ⟨by omega, by omega⟩ ?_
        refine xs_ifb_eq dB_areEquivalent_382 (fun h382 => ?_) (fun h382 => ?_)
        · refine xs_iconst (v := 0) dB_areEquivalent_389 (by decide) ?_
          exact xs_iret dB_areEquivalent_390 rfl rfl (by omega) (by omega) ⟨(by clear hE; first | (simp [bI, *]; done) | simp_all [bI]), rfl, rfl⟩
        refine xs_iconst (v := 1) dB_areEquivalent_385 (by decide) ?_
        refine xs_goto dB_areEquivalent_386 ?_
        exact xs_iret dB_areEquivalent_390 rfl rfl (by omega) (by omega) ⟨(by clear hE; first | (simp [bI, *]; done) | simp_all [bI]), rfl, rfl⟩
      refine xs_iload_n dB_areEquivalent_286 rfl ?_
      refine xs_i2l dB_areEquivalent_287 ?_
      refine xs_iload dB_areEquivalent_288 rfl ?_
      refine xs_i2l dB_areEquivalent_290 ?_
      refine xs_cS_i (As := [_, _]) dB_areEquivalent_291 lkB_144 (k_B_areLike hb hh) rfl rfl (Nat.le_of_ble_eq_true rfl) ⟨by decide, by decide⟩ ⟨by omega, by omega⟩ ?_
      refine xs_ifb_eq dB_areEquivalent_294 (fun h294 => ?_) (fun h294 => ?_)
      · refine xs_iload_n dB_areEquivalent_308 rfl ?_
        refine xs_i2l dB_areEquivalent_309 ?_
        refine xs_iload dB_areEquivalent_310 rfl ?_
        refine xs_i2l dB_areEquivalent_312 ?_
        refine xs_cS_i (As := [_, _]) dB_areEquivalent_313 lkB_144 (k_B_areLike hb hl) rfl rfl (Nat.le_of_ble_eq_true rfl) ⟨by decide, by decide⟩ ⟨by omega, by omega⟩ ?_
        refine xs_ifb_eq dB_areEquivalent_316 (fun h316 => ?_) (fun h316 => ?_)
        · refine xs_iload_n dB_areEquivalent_330 rfl ?_
          refine xs_i2l dB_areEquivalent_331 ?_
          refine xs_iload dB_areEquivalent_332 rfl ?_
          refine xs_i2l dB_areEquivalent_334 ?_
          refine xs_cS_i (As := [_, _]) dB_areEquivalent_335 lkB_144 (k_B_areLike ha hl) rfl rfl (Nat.le_of_ble_eq_true rfl) ⟨by decide, by decide⟩ ⟨by omega, by omega⟩ ?_
          refine xs_ifb_eq dB_areEquivalent_338 (fun h338 => ?_) (fun h338 => ?_)
          · refine xs_iconst (v := 0) dB_areEquivalent_389 (by decide) ?_
            exact xs_iret dB_areEquivalent_390 rfl rfl (by omega) (by omega) ⟨(by clear hE; first | (simp [bI, *]; done) | simp_all [bI]), rfl, rfl⟩
          refine xs_iload_n dB_areEquivalent_341 rfl ?_
          refine xs_i2l dB_areEquivalent_342 ?_
          refine xs_iload dB_areEquivalent_343 rfl ?_
          refine xs_i2l dB_areEquivalent_345 ?_
          refine xs_cS_i (As := [_, _]) dB_areEquivalent_346 lkB_144 (k_B_areLike hb hh) rfl rfl (Nat.le_of_ble_eq_true rfl) ⟨by decide, by decide⟩ ⟨by omega, by omega⟩ ?_
          refine xs_ifb_eq dB_areEquivalent_349 (fun h349 => ?_) (fun h349 => ?_)
          · refine xs_iload_n dB_areEquivalent_363 rfl ?_
            refine xs_i2l dB_areEquivalent_364 ?_
            refine xs_iload dB_areEquivalent_365 rfl ?_
            refine xs_i2l dB_areEquivalent_367 ?_
            refine xs_cS_i (As := [_, _]) dB_areEquivalent_368 lkB_144 (k_B_areLike hb hk) rfl rfl (Nat.le_of_ble_eq_true rfl) ⟨by decide, by decide⟩ ⟨by omega, by omega⟩ ?_
            refine xs_ifb_eq dB_areEquivalent_371 (fun h371 => ?_) (fun h371 => ?_)
            · refine xs_iconst (v := 0) dB_areEquivalent_389 (by decide) ?_
              exact xs_iret dB_areEquivalent_390 rfl rfl (by omega) (by omega) ⟨(by clear hE; first | (simp [bI, *]; done) | simp_all [bI]), rfl, rfl⟩
            refine xs_iload_n dB_areEquivalent_374 rfl ?_
            refine xs_i2l dB_areEquivalent_375 ?_
            refine xs_iload dB_areEquivalent_376 rfl ?_
            refine xs_i2l dB_areEquivalent_378 ?_
            refine xs_cS_i (As := [_, _]) dB_areEquivalent_379 lkB_144 (k_B_areLike hc hh) rfl rfl (Nat.le_of_ble_eq_true rfl) ⟨by decide, by decide⟩ ⟨by omega, by omega⟩ ?_
            refine xs_ifb_eq dB_areEquivalent_382 (fun h382 => ?_) (fun h382 => ?_)
            · refine xs_iconst (v := 0) dB_areEquivalent_389 (by decide) ?_
              exact xs_iret dB_areEquivalent_390 rfl rfl (by omega) (by omega) ⟨(by clear hE; first | (simp [bI, *]; done) | simp_all [bI]), rfl, rfl⟩
            refine xs_iconst (v := 1) dB_areEquivalent_385 (by decide) ?_
            refine xs_goto dB_areEquivalent_386 ?_
            exact xs_iret dB_areEquivalent_390 rfl rfl (by omega) (by omega) ⟨(by clear hE; first | (simp [bI, *]; done) | simp_all [bI]), rfl, rfl⟩
          refine xs_iload_n dB_areEquivalent_352 rfl ?_
          refine xs_i2l dB_areEquivalent_353 ?_
          refine xs_iload dB_areEquivalent_354 rfl ?_
          refine xs_i2l dB_areEquivalent_356 ?_
          refine xs_cS_i (As := [_, _]) dB_areEquivalent_357 lkB_144 (k_B_areLike hc hk) rfl rfl (Nat.le_of_ble_eq_true rfl) ⟨by decide, by decide⟩ ⟨by omega, by omega⟩ ?_
          refine xs_ifb_ne dB_areEquivalent_360 (fun h360 => ?_) (fun h360 => ?_)
          · refine xs_iconst (v := 1) dB_areEquivalent_385 (by decide) ?_
            refine xs_goto dB_areEquivalent_386 ?_
            exact xs_iret dB_areEquivalent_390 rfl rfl (by omega) (by omega) ⟨(by clear hE; first | (simp [bI, *]; done) | simp_all [bI]), rfl, rfl⟩
          refine xs_iload_n dB_areEquivalent_363 rfl ?_
          refine xs_i2l dB_areEquivalent_364 ?_
          refine xs_iload dB_areEquivalent_365 rfl ?_
          refine xs_i2l dB_areEquivalent_367 ?_
          refine xs_cS_i (As := [_, _]) dB_areEquivalent_368 lkB_144 (k_B_areLike hb hk) rfl rfl (Nat.le_of_ble_eq_true rfl) ⟨by decide, by decide⟩ ⟨by omega, by omega⟩ ?_
          refine xs_ifb_eq dB_areEquivalent_371 (fun h371 => ?_) (fun h371 => ?_)
          · refine xs_iconst (v := 0) dB_areEquivalent_389 (by decide) ?_
            exact xs_iret dB_areEquivalent_390 rfl rfl (by omega) (by omega) ⟨(by clear hE; first | (simp [bI, *]; done) | simp_all [bI]), rfl, rfl⟩
          refine xs_iload_n dB_areEquivalent_374 rfl ?_
          refine xs_i2l dB_areEquivalent_375 ?_
          refine xs_iload dB_areEquivalent_376 rfl ?_
          refine xs_i2l dB_areEquivalent_378 ?_
          refine xs_cS_i (As := [_, _]) dB_areEquivalent_379 lkB_144 (k_B_areLike hc hh) rfl rfl (Nat.le_of_ble_eq_true rfl) ⟨by decide, by decide⟩ ⟨by omega, by omega⟩ ?_
          refine xs_ifb_eq dB_areEquivalent_382 (fun h382 => ?_) (fun h382 => ?_)
          · refine xs_iconst (v := 0) dB_areEquivalent_389 (by decide) ?_
            exact xs_iret dB_areEquivalent_390 rfl rfl (by omega) (by omega) ⟨(by clear hE; first | (simp [bI, *]; done) | simp_all [bI]), rfl, rfl⟩
          refine xs_iconst (v := 1) dB_areEquivalent_385 (by decide) ?_
          refine xs_goto dB_areEquivalent_386 ?_
          exact xs_iret dB_areEquivalent_390 rfl rfl (by omega) (by omega) ⟨(by clear hE; first | (simp [bI, *]; done) | simp_all [bI]), rfl, rfl⟩
        refine xs_iload_n dB_areEquivalent_319 rfl ?_
        refine xs_i2l dB_areEquivalent_320 ?_
        refine xs_iload dB_areEquivalent_321 rfl ?_
        refine xs_i2l dB_areEquivalent_323 ?_
        refine xs_cS_i (As := [_, _]) dB_areEquivalent_324 lkB_144 (k_B_areLike hc hh) rfl rfl (Nat.le_of_ble_eq_true rfl) ⟨by decide, by decide⟩ ⟨by omega, by omega⟩ ?_
        refine xs_ifb_ne dB_areEquivalent_327 (fun h327 => ?_) (fun h327 => ?_)
        · refine xs_iconst (v := 1) dB_areEquivalent_385 (by decide) ?_
          refine xs_goto dB_areEquivalent_386 ?_
          exact xs_iret dB_areEquivalent_390 rfl rfl (by omega) (by omega) ⟨(by clear hE; first | (simp [bI, *]; done) | simp_all [bI]), rfl, rfl⟩
        refine xs_iload_n dB_areEquivalent_330 rfl ?_
        refine xs_i2l dB_areEquivalent_331 ?_
        refine xs_iload dB_areEquivalent_332 rfl ?_
        refine xs_i2l dB_areEquivalent_334 ?_
        refine xs_cS_i (As := [_, _]) dB_areEquivalent_335 lkB_144 (k_B_areLike ha hl) rfl rfl (Nat.le_of_ble_eq_true rfl) ⟨by decide, by decide⟩ ⟨by omega, by omega⟩ ?_
        refine xs_ifb_eq dB_areEquivalent_338 (fun h338 => ?_) (fun h338 => ?_)
        · refine xs_iconst (v := 0) dB_areEquivalent_389 (by decide) ?_
          exact xs_iret dB_areEquivalent_390 rfl rfl (by omega) (by omega) ⟨(by clear hE; first | (simp [bI, *]; done) | simp_all [bI]), rfl, rfl⟩
        refine xs_iload_n dB_areEquivalent_341 rfl ?_
        refine xs_i2l dB_areEquivalent_342 ?_
        refine xs_iload dB_areEquivalent_343 rfl ?_
        refine xs_i2l dB_areEquivalent_345 ?_
        refine xs_cS_i (As := [_, _]) dB_areEquivalent_346 lkB_144 (k_B_areLike hb hh) rfl rfl (Nat.le_of_ble_eq_true rfl) ⟨by decide, by decide⟩ ⟨by omega, by omega⟩ ?_
        refine xs_ifb_eq dB_areEquivalent_349 (fun h349 => ?_) (fun h349 => ?_)
        · refine xs_iload_n dB_areEquivalent_363 rfl ?_
          refine xs_i2l dB_areEquivalent_364 ?_
          refine xs_iload dB_areEquivalent_365 rfl ?_
          refine xs_i2l dB_areEquivalent_367 ?_
          refine xs_cS_i (As := [_, _]) dB_areEquivalent_368 lkB_144 (k_B_areLike hb hk) rfl rfl (Nat.le_of_ble_eq_true rfl) ⟨by decide, by decide⟩ ⟨by omega, by omega⟩ ?_
          refine xs_ifb_eq dB_areEquivalent_371 (fun h371 => ?_) (fun h371 => ?_)
          · refine xs_iconst (v := 0) dB_areEquivalent_389 (by decide) ?_
            exact xs_iret dB_areEquivalent_390 rfl rfl (by omega) (by omega) ⟨(by clear hE; first | (simp [bI, *]; done) | simp_all [bI]), rfl, rfl⟩
          refine xs_iload_n dB_areEquivalent_374 rfl ?_
          refine xs_i2l dB_areEquivalent_375 ?_
          refine xs_iload dB_areEquivalent_376 rfl ?_
          refine xs_i2l dB_areEquivalent_378 ?_
          refine xs_cS_i (As := [_, _]) dB_areEquivalent_379 lkB_144 (k_B_areLike hc hh) rfl rfl (Nat.le_of_ble_eq_true rfl) ⟨by decide, by decide⟩ ⟨by omega, by omega⟩ ?_
          refine xs_ifb_eq dB_areEquivalent_382 (fun h382 => ?_) (fun h382 => ?_)
          · refine xs_iconst (v := 0) dB_areEquivalent_389 (by decide) ?_
            exact xs_iret dB_areEquivalent_390 rfl rfl (by omega) (by omega) ⟨(by clear hE; first | (simp [bI, *]; done) | simp_all [bI]), rfl, rfl⟩
          refine xs_iconst (v := 1) dB_areEquivalent_385 (by decide) ?_
          refine xs_goto dB_areEquivalent_386 ?_
          exact xs_iret dB_areEquivalent_390 rfl rfl (by omega) (by omega) ⟨(by clear hE; first | (simp [bI, *]; done) | simp_all [bI]), rfl, rfl⟩
        refine xs_iload_n dB_areEquivalent_352 rfl ?_
        refine xs_i2l dB_areEquivalent_353 ?_
        refine xs_iload dB_areEquivalent_354 rfl ?_
        refine xs_i2l dB_areEquivalent_356 ?_
        refine xs_cS_i (As := [_, _]) dB_areEquivalent_357 lkB_144 (k_B_areLike hc hk) rfl rfl (Nat.le_of_ble_eq_true rfl) ⟨by decide, by decide⟩ ⟨by omega, by omega⟩ ?_
        refine xs_ifb_ne dB_areEquivalent_360 (fun h360 => ?_) (fun h360 => ?_)
        · refine xs_iconst (v := 1) dB_areEquivalent_385 (by decide) ?_
          refine xs_goto dB_areEquivalent_386 ?_
          exact xs_iret dB_areEquivalent_390 rfl rfl (by omega) (by omega) ⟨(by clear hE; first | (simp [bI, *]; done) | simp_all [bI]), rfl, rfl⟩
        refine xs_iload_n dB_areEquivalent_363 rfl ?_
        refine xs_i2l dB_areEquivalent_364 ?_
        refine xs_iload dB_areEquivalent_365 rfl ?_
        refine xs_i2l dB_areEquivalent_367 ?_
        refine xs_cS_i (As := [_, _]) dB_areEquivalent_368 lkB_144 (k_B_areLike hb hk) rfl rfl (Nat.le_of_ble_eq_true rfl) ⟨by decide, by decide⟩ ⟨by omega, by omega⟩ ?_
        refine xs_ifb_eq dB_areEquivalent_371 (fun h371 => ?_) (fun h371 => ?_)
        · refine xs_iconst (v := 0) dB_areEquivalent_389 (by decide) ?_
          exact xs_iret dB_areEquivalent_390 rfl rfl (by omega) (by omega) ⟨(by clear hE; first | (simp [bI, *]; done) | simp_all [bI]), rfl, rfl⟩
        refine xs_iload_n dB_areEquivalent_374 rfl ?_
        refine xs_i2l dB_areEquivalent_375 ?_
        refine xs_iload dB_areEquivalent_376 rfl ?_
        refine xs_i2l dB_areEquivalent_378 ?_
        refine xs_cS_i (As := [_, _]) dB_areEquivalent_379 lkB_144 (k_B_areLike hc hh) rfl rfl (Nat.le_of_ble_eq_true rfl) ⟨by decide, by decide⟩ ⟨by omega, by omega⟩ ?_
        refine xs_ifb_eq dB_areEquivalent_382 (fun h382 => ?_) (fun h382 => ?_)
        · refine xs_iconst (v := 0) dB_areEquivalent_389 (by decide) ?_
          exact xs_iret dB_areEquivalent_390 rfl rfl (by omega) (by omega) ⟨(by clear hE; first | (simp [bI, *]; done) | simp_all [bI]), rfl, rfl⟩
        refine xs_iconst (v := 1) dB_areEquivalent_385 (by decide) ?_
        refine xs_goto dB_areEquivalent_386 ?_
        exact xs_iret dB_areEquivalent_390 rfl rfl (by omega) (by omega) ⟨(by clear hE; first | (simp [bI, *]; done) | simp_all [bI]), rfl, rfl⟩
      refine xs_iload_n dB_areEquivalent_297 rfl ?_
      refine xs_i2l dB_areEquivalent_298 ?_
      refine xs_iload dB_areEquivalent_299 rfl ?_
      refine xs_i2l dB_areEquivalent_301 ?_
      refine xs_cS_i (As := [_, _]) dB_areEquivalent_302 lkB_144 (k_B_areLike hc hl) rfl rfl (Nat.le_of_ble_eq_true rfl) ⟨by decide, by decide⟩ ⟨by omega, by omega⟩ ?_
      refine xs_ifb_ne dB_areEquivalent_305 (fun h305 => ?_) (fun h305 => ?_)
      · refine xs_iconst (v := 1) dB_areEquivalent_385 (by decide) ?_
        refine xs_goto dB_areEquivalent_386 ?_
        exact xs_iret dB_areEquivalent_390 rfl rfl (by omega) (by omega) ⟨(by clear hE; first | (simp [bI, *]; done) | simp_all [bI]), rfl, rfl⟩
      refine xs_iload_n dB_areEquivalent_308 rfl ?_
      refine xs_i2l dB_areEquivalent_309 ?_
      refine xs_iload dB_areEquivalent_310 rfl ?_
      refine xs_i2l dB_areEquivalent_312 ?_
      refine xs_cS_i (As := [_, _]) dB_areEquivalent_313 lkB_144 (k_B_areLike hb hl) rfl rfl (Nat.le_of_ble_eq_true rfl) ⟨by decide, by decide⟩ ⟨by omega, by omega⟩ ?_
      refine xs_ifb_eq dB_areEquivalent_316 (fun h316 => ?_) (fun h316 => ?_)
      · refine xs_iload_n dB_areEquivalent_330 rfl ?_
        refine xs_i2l dB_areEquivalent_331 ?_
        refine xs_iload dB_areEquivalent_332 rfl ?_
        refine xs_i2l dB_areEquivalent_334 ?_
        refine xs_cS_i (As := [_, _]) dB_areEquivalent_335 lkB_144 (k_B_areLike ha hl) rfl rfl (Nat.le_of_ble_eq_true rfl) ⟨by decide, by decide⟩ ⟨by omega, by omega⟩ ?_
        refine xs_ifb_eq dB_areEquivalent_338 (fun h338 => ?_) (fun h338 => ?_)
        · refine xs_iconst (v := 0) dB_areEquivalent_389 (by decide) ?_
          exact xs_iret dB_areEquivalent_390 rfl rfl (by omega) (by omega) ⟨(by clear hE; first | (simp [bI, *]; done) | simp_all [bI]), rfl, rfl⟩
        refine xs_iload_n dB_areEquivalent_341 rfl ?_
        refine xs_i2l dB_areEquivalent_342 ?_
        refine xs_iload dB_areEquivalent_343 rfl ?_
        refine xs_i2l dB_areEquivalent_345 ?_
        refine xs_cS_i (As := [_, _]) dB_areEquivalent_346 lkB_144 (k_B_areLike hb hh) rfl rfl (Nat.le_of_ble_eq_true rfl) ⟨by decide, by decide⟩ ⟨by omega, by omega⟩ ?_
        refine xs_ifb_eq dB_areEquivalent_349 (fun h349 => ?_) (fun h349 => ?_)
        · refine xs_iload_n dB_areEquivalent_363 rfl ?_
          refine xs_i2l dB_areEquivalent_364 ?_
          refine xs_iload dB_areEquivalent_365 rfl ?_
          refine xs_i2l dB_areEquivalent_367 ?_
          refine xs_cS_i (As := [_, _]) dB_areEquivalent_368 lkB_144 (k_B_areLike hb hk) rfl rfl (Nat.le_of_ble_eq_true rfl) ⟨by decide, by decide⟩ ⟨by omega, by omega⟩ ?_
          refine xs_ifb_eq dB_areEquivalent_371 (fun h371 => ?_) (fun h371 => ?_)
          · refine xs_iconst (v := 0) dB_areEquivalent_389 (by decide) ?_
            exact xs_iret dB_areEquivalent_390 rfl rfl (by omega) (by omega) ⟨(by clear hE; first | (simp [bI, *]; done) | simp_all [bI]), rfl, rfl⟩
          refine xs_iload_n dB_areEquivalent_374 rfl ?_
          refine xs_i2l dB_areEquivalent_375 ?_
          refine xs_iload dB_areEquivalent_376 rfl ?_
          refine xs_i2l dB_areEquivalent_378 ?_
          refine xs_cS_i (As := [_, _]) dB_areEquivalent_379 lkB_144 (k_B_areLike hc hh) rfl rfl (Nat.le_of_ble_eq_true rfl) ⟨by decide, by decide⟩ ⟨by omega, by omega⟩ ?_
          refine xs_ifb_eq dB_areEquivalent_382 (fun h382 => ?_) (fun h382 => ?_)
          · refine xs_iconst (v := 0) dB_areEquivalent_389 (by decide) ?_
            exact xs_iret dB_areEquivalent_390 rfl rfl (by omega) (by omega) ⟨(by clear hE; first | (simp [bI, *]; done) | simp_all [bI]), rfl, rfl⟩
          refine xs_iconst (v := 1) dB_areEquivalent_385 (by decide) ?_
          refine xs_goto dB_areEquivalent_386 ?_
          exact xs_iret dB_areEquivalent_390 rfl rfl (by omega) (by omega) ⟨(by clear hE; first | (simp [bI, *]; done) | simp_all [bI]), rfl, rfl⟩
        refine xs_iload_n dB_areEquivalent_352 rfl ?_
        refine xs_i2l dB_areEquivalent_353 ?_
        refine xs_iload dB_areEquivalent_354 rfl ?_
        refine xs_i2l dB_areEquivalent_356 ?_
        refine xs_cS_i (As := [_, _]) dB_areEquivalent_357 lkB_144 (k_B_areLike hc hk) rfl rfl (Nat.le_of_ble_eq_true rfl) ⟨by decide, by decide⟩ ⟨by omega, by omega⟩ ?_
        refine xs_ifb_ne dB_areEquivalent_360 (fun h360 => ?_) (fun h360 => ?_)
        · refine xs_iconst (v := 1) dB_areEquivalent_385 (by decide) ?_
          refine xs_goto dB_areEquivalent_386 ?_
          exact xs_iret dB_areEquivalent_390 rfl rfl (by omega) (by omega) ⟨(by clear hE; first | (simp [bI, *]; done) | simp_all [bI]), rfl, rfl⟩
        refine xs_iload_n dB_areEquivalent_363 rfl ?_
        refine xs_i2l dB_areEquivalent_364 ?_
        refine xs_iload dB_areEquivalent_365 rfl ?_
        refine xs_i2l dB_areEquivalent_367 ?_
        refine xs_cS_i (As := [_, _]) dB_areEquivalent_368 lkB_144 (k_B_areLike hb hk) rfl rfl (Nat.le_of_ble_eq_true rfl) ⟨by decide, by decide⟩ ⟨by omega, by omega⟩ ?_
        refine xs_ifb_eq dB_areEquivalent_371 (fun h371 => ?_) (fun h371 => ?_)
        · refine xs_iconst (v := 0) dB_areEquivalent_389 (by decide) ?_
          exact xs_iret dB_areEquivalent_390 rfl rfl (by omega) (by omega) ⟨(by clear hE; first | (simp [bI, *]; done) | simp_all [bI]), rfl, rfl⟩
        refine xs_iload_n dB_areEquivalent_374 rfl ?_
        refine xs_i2l dB_areEquivalent_375 ?_
        refine xs_iload dB_areEquivalent_376 rfl ?_
        refine xs_i2l dB_areEquivalent_378 ?_
        refine xs_cS_i (As := [_, _]) dB_areEquivalent_379 lkB_144 (k_B_areLike hc hh) rfl rfl (Nat.le_of_ble_eq_true rfl) ⟨by decide, by decide⟩ ⟨by omega, by omega⟩ ?_
        refine xs_ifb_eq dB_areEquivalent_382 (fun h382 => ?_) (fun h382 => ?_)
        · refine xs_iconst (v := 0) dB_areEquivalent_389 (by decide) ?_
          exact xs_iret dB_areEquivalent_390 rfl rfl (by omega) (by omega) ⟨(by clear hE; first | (simp [bI, *]; done) | simp_all [bI]), rfl, rfl⟩
        refine xs_iconst (v := 1) dB_areEquivalent_385 (by decide) ?_
        refine xs_goto dB_areEquivalent_386 ?_
        exact xs_iret dB_areEquivalent_390 rfl rfl (by omega) (by omega) ⟨(by clear hE; first | (simp [bI, *]; done) | simp_all [bI]), rfl, rfl⟩
      refine xs_iload_n dB_areEquivalent_319 rfl ?_
      refine xs_i2l dB_areEquivalent_320 ?_
      refine xs_iload dB_areEquivalent_321 rfl ?_
      refine xs_i2l dB_areEquivalent_323 ?_
      refine xs_cS_i (As := [_, _]) dB_areEquivalent_324 lkB_144 (k_B_areLike hc hh) rfl rfl (Nat.le_of_ble_eq_true rfl) ⟨by decide, by decide⟩ ⟨by omega, by omega⟩ ?_
      refine xs_ifb_ne dB_areEquivalent_327 (fun h327 => ?_) (fun h327 => ?_)
      · refine xs_iconst (v := 1) dB_areEquivalent_385 (by decide) ?_
        refine xs_goto dB_areEquivalent_386 ?_
        exact xs_iret dB_areEquivalent_390 rfl rfl (by omega) (by omega) ⟨(by clear hE; first | (simp [bI, *]; done) | simp_all [bI]), rfl, rfl⟩
      refine xs_iload_n dB_areEquivalent_330 rfl ?_
      refine xs_i2l dB_areEquivalent_331 ?_
      refine xs_iload dB_areEquivalent_332 rfl ?_
      refine xs_i2l dB_areEquivalent_334 ?_
      refine xs_cS_i (As := [_, _]) dB_areEquivalent_335 lkB_144 (k_B_areLike ha hl) rfl rfl (Nat.le_of_ble_eq_true rfl) ⟨by decide, by decide⟩ ⟨by omega, by omega⟩ ?_
      refine xs_ifb_eq dB_areEquivalent_338 (fun h338 => ?_) (fun h338 => ?_)
      · refine xs_iconst (v := 0) dB_areEquivalent_389 (by decide) ?_
        exact xs_iret dB_areEquivalent_390 rfl rfl (by omega) (by omega) ⟨(by clear hE; first | (simp [bI, *]; done) | simp_all [bI]), rfl, rfl⟩
      refine xs_iload_n dB_areEquivalent_341 rfl ?_
      refine xs_i2l dB_areEquivalent_342 ?_
      refine xs_iload dB_areEquivalent_343 rfl ?_
      refine xs_i2l dB_areEquivalent_345 ?_
      refine xs_cS_i (As := [_, _]) dB_areEquivalent_346 lkB_144 (k_B_areLike hb hh) rfl rfl (Nat.le_of_ble_eq_true rfl) ⟨by decide, by decide⟩ ⟨by omega, by omega⟩ ?_
      refine xs_ifb_eq dB_areEquivalent_349 (fun h349 => ?_) (fun h349 => ?_)
      · refine xs_iload_n dB_areEquivalent_363 rfl ?_
        refine xs_i2l dB_areEquivalent_364 ?_
        refine xs_iload dB_areEquivalent_365 rfl ?_
        refine xs_i2l dB_areEquivalent_367 ?_
        refine xs_cS_i (As := [_, _]) dB_areEquivalent_368 lkB_144 (k_B_areLike hb hk) rfl rfl (Nat.le_of_ble_eq_true rfl) ⟨by decide, by decide⟩ ⟨by omega, by omega⟩ ?_
        refine xs_ifb_eq dB_areEquivalent_371 (fun h371 => ?_) (fun h371 => ?_)
        · refine xs_iconst (v := 0) dB_areEquivalent_389 (by decide) ?_
          exact xs_iret dB_areEquivalent_390 rfl rfl (by omega) (by omega) ⟨(by clear hE; first | (simp [bI, *]; done) | simp_all [bI]), rfl, rfl⟩
        refine xs_iload_n dB_areEquivalent_374 rfl ?_
        refine xs_i2l dB_areEquivalent_375 ?_
        refine xs_iload dB_areEquivalent_376 rfl ?_
        refine xs_i2l dB_areEquivalent_378 ?_
        refine xs_cS_i (As := [_, _]) dB_areEquivalent_379 lkB_144 (k_B_areLike hc hh) rfl rfl (Nat.le_of_ble_eq_true rfl) ⟨by decide, by decide⟩ ⟨by omega, by omega⟩ ?_
        refine xs_ifb_eq dB_areEquivalent_382 (fun h382 => ?_) (fun h382 => ?_)
        · refine xs_iconst (v := 0) dB_areEquivalent_389 (by decide) ?_
          exact xs_iret dB_areEquivalent_390 rfl rfl (by omega) (by omega) ⟨(by clear hE; first | (simp [bI, *]; done) | simp_all [bI]), rfl, rfl⟩
        refine xs_iconst (v := 1) dB_areEquivalent_385 (by decide) ?_
        refine xs_goto dB_areEquivalent_386 ?_
        exact xs_iret dB_areEquivalent_390 rfl rfl (by omega) (by omega) ⟨(by clear hE; first | (simp [bI, *]; done) | simp_all [bI]), rfl, rfl⟩
      refine xs_iload_n dB_areEquivalent_352 rfl ?_
      refine xs_i2l dB_areEquivalent_353 ?_
      refine xs_iload dB_areEquivalent_354 rfl ?_
      refine xs_i2l dB_areEquivalent_356 ?_
      refine xs_cS_i (As := [_, _]) dB_areEquivalent_357 lkB_144 (k_B_areLike hc hk) rfl rfl (Nat.le_of_ble_eq_true rfl) ⟨by decide, by decide⟩ ⟨by omega, by omega⟩ ?_
      refine xs_ifb_ne dB_areEquivalent_360 (fun h360 => ?_) (fun h360 => ?_)
      · refine xs_iconst (v := 1) dB_areEquivalent_385 (by decide) ?_
        refine xs_goto dB_areEquivalent_386 ?_
        exact xs_iret dB_areEquivalent_390 rfl rfl (by omega) (by omega) ⟨(by clear hE; first | (simp [bI, *]; done) | simp_all [bI]), rfl, rfl⟩
      refine xs_iload_n dB_areEquivalent_363 rfl ?_
      refine xs_i2l dB_areEquivalent_364 ?_
      refine xs_iload dB_areEquivalent_365 rfl ?_
      refine xs_i2l dB_areEquivalent_367 ?_
      refine xs_cS_i (As := [_, _]) dB_areEquivalent_368 lkB_144 (k_B_areLike hb hk) rfl rfl (Nat.le_of_ble_eq_true rfl) ⟨by decide, by decide⟩ ⟨by omega, by omega⟩ ?_
      refine xs_ifb_eq dB_areEquivalent_371 (fun h371 => ?_) (fun h371 => ?_)
      · refine xs_iconst (v := 0) dB_areEquivalent_389 (by decide) ?_
        exact xs_iret dB_areEquivalent_390 rfl rfl (by omega) (by omega) ⟨(by clear hE; first | (simp [bI, *]; done) | simp_all [bI]), rfl, rfl⟩
      refine xs_iload_n dB_areEquivalent_374 rfl ?_
      refine xs_i2l dB_areEquivalent_375 ?_
      refine xs_iload dB_areEquivalent_376 rfl ?_
      refine xs_i2l dB_areEquivalent_378 ?_
      refine xs_cS_i (As := [_, _]) dB_areEquivalent_379 lkB_144 (k_B_areLike hc hh) rfl rfl (Nat.le_of_ble_eq_true rfl) ⟨by decide, by decide⟩ ⟨by omega, by omega⟩ ?_
      refine xs_ifb_eq dB_areEquivalent_382 (fun h382 => ?_) (fun h382 => ?_)
      · refine xs_iconst (v := 0) dB_areEquivalent_389 (by decide) ?_
        exact xs_iret dB_areEquivalent_390 rfl rfl (by omega) (by omega) ⟨(by clear hE; first | (simp [bI, *]; done) | simp_all [bI]), rfl, rfl⟩
      refine xs_iconst (v := 1) dB_areEquivalent_385 (by decide) ?_
      refine xs_goto dB_areEquivalent_386 ?_
      exact xs_iret dB_areEquivalent_390 rfl rfl (by omega) (by omega) ⟨(by clear hE; first | (simp [bI, *]; done) | simp_all [bI]), rfl, rfl⟩
    refine xs_iload_n dB_areEquivalent_231 rfl ?_
    refine xs_i2l dB_areEquivalent_232 ?_
    refine xs_iload dB_areEquivalent_233 rfl ?_
    refine xs_i2l dB_areEquivalent_235 ?_
    refine xs_cS_i (As := [_, _]) dB_areEquivalent_236 lkB_144 (k_B_areLike hb hk) rfl rfl (Nat.le_of_ble_eq_true rfl) ⟨by decide, by decide⟩ ⟨by omega, by omega⟩ ?_
    refine xs_ifb_eq dB_areEquivalent_239 (fun h239 => ?_) (fun h239 => ?_)
    · refine xs_iload_n dB_areEquivalent_253 rfl ?_
      refine xs_i2l dB_areEquivalent_254 ?_
      refine xs_iload dB_areEquivalent_255 rfl ?_
      refine xs_i2l dB_areEquivalent_257 ?_
      refine xs_cS_i (As := [_, _]) dB_areEquivalent_258 lkB_144 (k_B_areLike hb hl) rfl rfl (Nat.le_of_ble_eq_true rfl) ⟨by decide, by decide⟩ ⟨by omega, by omega⟩ ?_
      refine xs_ifb_eq dB_areEquivalent_261 (fun h261 => ?_) (fun h261 => ?_)
      · refine xs_iload_n dB_areEquivalent_275 rfl ?_
        refine xs_i2l dB_areEquivalent_276 ?_
        refine xs_iload dB_areEquivalent_277 rfl ?_
        refine xs_i2l dB_areEquivalent_279 ?_
        refine xs_cS_i (As := [_, _]) dB_areEquivalent_280 lkB_144 (k_B_areLike ha hk) rfl rfl (Nat.le_of_ble_eq_true rfl) ⟨by decide, by decide⟩ ⟨by omega, by omega⟩ ?_
        refine xs_ifb_eq dB_areEquivalent_283 (fun h283 => ?_) (fun h283 => ?_)
        · refine xs_iload_n dB_areEquivalent_330 rfl ?_
          refine xs_i2l dB_areEquivalent_331 ?_
          refine xs_iload dB_areEquivalent_332 rfl ?_
          refine xs_i2l dB_areEquivalent_334 ?_
          refine xs_cS_i (As := [_, _]) dB_areEquivalent_335 lkB_144 (k_B_areLike ha hl) rfl rfl (Nat.le_of_ble_eq_true rfl) ⟨by decide, by decide⟩ ⟨by omega, by omega⟩ ?_
          refine xs_ifb_eq dB_areEquivalent_338 (fun h338 => ?_) (fun h338 => ?_)
          · refine xs_iconst (v := 0) dB_areEquivalent_389 (by decide) ?_
            exact xs_iret dB_areEquivalent_390 rfl rfl (by omega) (by omega) ⟨(by clear hE; first | (simp [bI, *]; done) | simp_all [bI]), rfl, rfl⟩
          refine xs_iload_n dB_areEquivalent_341 rfl ?_
          refine xs_i2l dB_areEquivalent_342 ?_
          refine xs_iload dB_areEquivalent_343 rfl ?_
          refine xs_i2l dB_areEquivalent_345 ?_
          refine xs_cS_i (As := [_, _]) dB_areEquivalent_346 lkB_144 (k_B_areLike hb hh) rfl rfl (Nat.le_of_ble_eq_true rfl) ⟨by decide, by decide⟩ ⟨by omega, by omega⟩ ?_
          refine xs_ifb_eq dB_areEquivalent_349 (fun h349 => ?_) (fun h349 => ?_)
          · refine xs_iload_n dB_areEquivalent_363 rfl ?_
            refine xs_i2l dB_areEquivalent_364 ?_
            refine xs_iload dB_areEquivalent_365 rfl ?_
            refine xs_i2l dB_areEquivalent_367 ?_
            refine xs_cS_i (As := [_, _]) dB_areEquivalent_368 lkB_144 (k_B_areLike hb hk) rfl rfl (Nat.le_of_ble_eq_true rfl) ⟨by decide, by decide⟩ ⟨by omega, by omega⟩ ?_
            refine xs_ifb_eq dB_areEquivalent_371 (fun h371 => ?_) (fun h371 => ?_)
            · refine xs_iconst (v := 0) dB_areEquivalent_389 (by decide) ?_
              exact xs_iret dB_areEquivalent_390 rfl rfl (by omega) (by omega) ⟨(by clear hE; first | (simp [bI, *]; done) | simp_all [bI]), rfl, rfl⟩
            refine xs_iload_n dB_areEquivalent_374 rfl ?_
            refine xs_i2l dB_areEquivalent_375 ?_
            refine xs_iload dB_areEquivalent_376 rfl ?_
            refine xs_i2l dB_areEquivalent_378 ?_
            refine xs_cS_i (As := [_, _]) dB_areEquivalent_379 lkB_144 (k_B_areLike hc hh) rfl rfl (Nat.le_of_ble_eq_true rfl) ⟨by decide, by decide⟩ ⟨by omega, by omega⟩ ?_
            refine xs_ifb_eq dB_areEquivalent_382 (fun h382 => ?_) (fun h382 => ?_)
            · refine xs_iconst (v := 0) dB_areEquivalent_389 (by decide) ?_
              exact xs_iret dB_areEquivalent_390 rfl rfl (by omega) (by omega) ⟨(by clear hE; first | (simp [bI, *]; done) | simp_all [bI]), rfl, rfl⟩
            refine xs_iconst (v := 1) dB_areEquivalent_385 (by decide) ?_
            refine xs_goto dB_areEquivalent_386 ?_
            exact xs_iret dB_areEquivalent_390 rfl rfl (by omega) (by omega) ⟨(by clear hE; first | (simp [bI, *]; done) | simp_all [bI]), rfl, rfl⟩
          refine xs_iload_n dB_areEquivalent_352 rfl ?_
          refine xs_i2l dB_areEquivalent_353 ?_
          refine xs_iload dB_areEquivalent_354 rfl ?_
          refine xs_i2l dB_areEquivalent_356 ?_
          refine xs_cS_i (As := [_, _]) dB_areEquivalent_357 lkB_144 (k_B_areLike hc hk) rfl rfl (Nat.le_of_ble_eq_true rfl) ⟨by decide, by decide⟩ ⟨by omega, by omega⟩ ?_
          refine xs_ifb_ne dB_areEquivalent_360 (fun h360 => ?_) (fun h360 => ?_)
          · refine xs_iconst (v := 1) dB_areEquivalent_385 (by decide) ?_
            refine xs_goto dB_areEquivalent_386 ?_
            exact xs_iret dB_areEquivalent_390 rfl rfl (by omega) (by omega) ⟨(by clear hE; first | (simp [bI, *]; done) | simp_all [bI]), rfl, rfl⟩
          refine xs_iload_n dB_areEquivalent_363 rfl ?_
          refine xs_i2l dB_areEquivalent_364 ?_
          refine xs_iload dB_areEquivalent_365 rfl ?_
          refine xs_i2l dB_areEquivalent_367 ?_
          refine xs_cS_i (As := [_, _]) dB_areEquivalent_368 lkB_144 (k_B_areLike hb hk) rfl rfl (Nat.le_of_ble_eq_true rfl) ⟨by decide, by decide⟩ ⟨by omega, by omega⟩ ?_
          refine xs_ifb_eq dB_areEquivalent_371 (fun h371 => ?_) (fun h371 => ?_)
          · refine xs_iconst (v := 0) dB_areEquivalent_389 (by decide) ?_
            exact xs_iret dB_areEquivalent_390 rfl rfl (by omega) (by omega) ⟨(by clear hE; first | (simp [bI, *]; done) | simp_all [bI]), rfl, rfl⟩
          refine xs_iload_n dB_areEquivalent_374 rfl ?_
          refine xs_i2l dB_areEquivalent_375 ?_
          refine xs_iload dB_areEquivalent_376 rfl ?_
          refine xs_i2l dB_areEquivalent_378 ?_
          refine xs_cS_i (As := [_, _]) dB_areEquivalent_379 lkB_144 (k_B_areLike hc hh) rfl rfl (Nat.le_of_ble_eq_true rfl) ⟨by decide, by decide⟩ ⟨by omega, by omega⟩ ?_
          refine xs_ifb_eq dB_areEquivalent_382 (fun h382 => ?_) (fun h382 => ?_)
          · refine xs_iconst (v := 0) dB_areEquivalent_389 (by decide) ?_
            exact xs_iret dB_areEquivalent_390 rfl rfl (by omega) (by omega) ⟨(by clear hE; first | (simp [bI, *]; done) | simp_all [bI]), rfl, rfl⟩
          refine xs_iconst (v := 1) dB_areEquivalent_385 (by decide) ?_
          refine xs_goto dB_areEquivalent_386 ?_
          exact xs_iret dB_areEquivalent_390 rfl rfl (by omega) (by omega) ⟨(by clear hE; first | (simp [bI, *]; done) | simp_all [bI]), rfl, rfl⟩
        refine xs_iload_n dB_areEquivalent_286 rfl ?_
        refine xs_i2l dB_areEquivalent_287 ?_
        refine xs_iload dB_areEquivalent_288 rfl ?_
        refine xs_i2l dB_areEquivalent_290 ?_
        refine xs_cS_i (As := [_, _]) dB_areEquivalent_291 lkB_144 (k_B_areLike hb hh) rfl rfl (Nat.le_of_ble_eq_true rfl) ⟨by decide, by decide⟩ ⟨by omega, by omega⟩ ?_
        refine xs_ifb_eq dB_areEquivalent_294 (fun h294 => ?_) (fun h294 => ?_)
        · refine xs_iload_n dB_areEquivalent_308 rfl ?_
          refine xs_i2l dB_areEquivalent_309 ?_
          refine xs_iload dB_areEquivalent_310 rfl ?_
          refine xs_i2l dB_areEquivalent_312 ?_
          refine xs_cS_i (As := [_, _]) dB_areEquivalent_313 lkB_144 (k_B_areLike hb hl) rfl rfl (Nat.le_of_ble_eq_true rfl) ⟨by decide, by decide⟩ ⟨by omega, by omega⟩ ?_
          refine xs_ifb_eq dB_areEquivalent_316 (fun h316 => ?_) (fun h316 => ?_)
          · refine xs_iload_n dB_areEquivalent_330 rfl ?_
            refine xs_i2l dB_areEquivalent_331 ?_
            refine xs_iload dB_areEquivalent_332 rfl ?_
            refine xs_i2l dB_areEquivalent_334 ?_
            refine xs_cS_i (As := [_, _]) dB_areEquivalent_335 lkB_144 (k_B_areLike ha hl) rfl rfl (Nat.le_of_ble_eq_true rfl) ⟨by decide, by decide⟩ ⟨by omega, by omega⟩ ?_
            refine xs_ifb_eq dB_areEquivalent_338 (fun h338 => ?_) (fun h338 => ?_)
            · refine xs_iconst (v := 0) dB_areEquivalent_389 (by decide) ?_
              exact xs_iret dB_areEquivalent_390 rfl rfl (by omega) (by omega) ⟨(by clear hE; first | (simp [bI, *]; done) | simp_all [bI]), rfl, rfl⟩
            refine xs_iload_n dB_areEquivalent_341 rfl ?_
            refine xs_i2l dB_areEquivalent_342 ?_
            refine xs_iload dB_areEquivalent_343 rfl ?_
            refine xs_i2l dB_areEquivalent_345 ?_
            refine xs_cS_i (As := [_, _]) dB_areEquivalent_346 lkB_144 (k_B_areLike hb hh) rfl rfl (Nat.le_of_ble_eq_true rfl) ⟨by decide, by decide⟩ ⟨by omega, by omega⟩ ?_
            refine xs_ifb_eq dB_areEquivalent_349 (fun h349 => ?_) (fun h349 => ?_)
            · refine xs_iload_n dB_areEquivalent_363 rfl ?_
              refine xs_i2l dB_areEquivalent_364 ?_
              refine xs_iload dB_areEquivalent_365 rfl ?_
              refine xs_i2l dB_areEquivalent_367 ?_
              refine xs_cS_i (As := [_, _]) dB_areEquivalent_368 lkB_144 (k_B_areLike hb hk) rfl rfl (Nat.le_of_ble_eq_true rfl) ⟨by decide, by decide⟩ ⟨by omega, by omega⟩ ?_
              refine xs_ifb_eq dB_areEquivalent_371 (fun h371 => ?_) (fun h371 => ?_)
              · refine xs_iconst (v := 0) dB_areEquivalent_389 (by decide) ?_
                exact xs_iret dB_areEquivalent_390 rfl rfl (by omega) (by omega) ⟨(by clear hE; first | (simp [bI, *]; done) | simp_all [bI]), rfl, rfl⟩
              refine xs_iload_n dB_areEquivalent_374 rfl ?_
              refine xs_i2l dB_areEquivalent_375 ?_
              refine xs_iload dB_areEquivalent_376 rfl ?_
              refine xs_i2l dB_areEquivalent_378 ?_
              refine xs_cS_i (As := [_, _]) dB_areEquivalent_379 lkB_144 (k_B_areLike hc hh) rfl rfl (Nat.le_of_ble_eq_true rfl) ⟨by decide, by decide⟩ ⟨by omega, by omega⟩ ?_
              refine xs_ifb_eq dB_areEquivalent_382 (fun h382 => ?_) (fun h382 => ?_)
              · refine xs_iconst (v := 0) dB_areEquivalent_389 (by decide) ?_
                exact xs_iret dB_areEquivalent_390 rfl rfl (by omega) (by omega) ⟨(by clear hE; first | (simp [bI, *]; done) | simp_all [bI]), rfl, rfl⟩
              refine xs_iconst (v := 1) dB_areEquivalent_385 (by decide) ?_
              refine xs_goto dB_areEquivalent_386 ?_
              exact xs_iret dB_areEquivalent_390 rfl rfl (by omega) (by omega) ⟨(by clear hE; first | (simp [bI, *]; done) | simp_all [bI]), rfl, rfl⟩
            refine xs_iload_n dB_areEquivalent_352 rfl ?_
            refine xs_i2l dB_areEquivalent_353 ?_
            refine xs_iload dB_areEquivalent_354 rfl ?_
            refine xs_i2l dB_areEquivalent_356 ?_
            refine xs_cS_i (As := [_, _]) dB_areEquivalent_357 lkB_144 (k_B_areLike hc hk) rfl rfl (Nat.le_of_ble_eq_true rfl) ⟨by decide, by decide⟩ ⟨by omega, by omega⟩ ?_
            refine xs_ifb_ne dB_areEquivalent_360 (fun h360 => ?_) (fun h360 => ?_)
            · refine xs_iconst (v := 1) dB_areEquivalent_385 (by decide) ?_
              refine xs_goto dB_areEquivalent_386 ?_
              exact xs_iret dB_areEquivalent_390 rfl rfl (by omega) (by omega) ⟨(by clear hE; first | (simp [bI, *]; done) | simp_all [bI]), rfl, rfl⟩
            refine xs_iload_n dB_areEquivalent_363 rfl ?_
            refine xs_i2l dB_areEquivalent_364 ?_
            refine xs_iload dB_areEquivalent_365 rfl ?_
            refine xs_i2l dB_areEquivalent_367 ?_
            refine xs_cS_i (As := [_, _]) dB_areEquivalent_368 lkB_144 (k_B_areLike hb hk) rfl rfl (Nat.le_of_ble_eq_true rfl) ⟨by decide, by decide⟩ ⟨by omega, by omega⟩ ?_
            refine xs_ifb_eq dB_areEquivalent_371 (fun h371 => ?_) (fun h371 => ?_)
            · refine xs_iconst (v := 0) dB_areEquivalent_389 (by decide) ?_
              exact xs_iret dB_areEquivalent_390 rfl rfl (by omega) (by omega) ⟨(by clear hE; first | (simp [bI, *]; done) | simp_all [bI]), rfl, rfl⟩
            refine xs_iload_n dB_areEquivalent_374 rfl ?_
            refine xs_i2l dB_areEquivalent_375 ?_
            refine xs_iload dB_areEquivalent_376 rfl ?_
            refine xs_i2l dB_areEquivalent_378 ?_
            refine xs_cS_i (As := [_, _]) dB_areEquivalent_379 lkB_144 (k_B_areLike hc hh) rfl rfl (Nat.le_of_ble_eq_true rfl) ⟨by decide, by decide⟩ ⟨by omega, by omega⟩ ?_
            refine xs_ifb_eq dB_areEquivalent_382 (fun h382 => ?_) (fun h382 => ?_)
            · refine xs_iconst (v := 0) dB_areEquivalent_389 (by decide) ?_
              exact xs_iret dB_areEquivalent_390 rfl rfl (by omega) (by omega) ⟨(by clear hE; first | (simp [bI, *]; done) | simp_all [bI]), rfl, rfl⟩
            refine xs_iconst (v := 1) dB_areEquivalent_385 (by decide) ?_
            refine xs_goto dB_areEquivalent_386 ?_
            exact xs_iret dB_areEquivalent_390 rfl rfl (by omega) (by omega) ⟨(by clear hE; first | (simp [bI, *]; done) | simp_all [bI]), rfl, rfl⟩
          refine xs_iload_n dB_areEquivalent_319 rfl ?_
          refine xs_i2l dB_areEquivalent_320 ?_
          refine xs_iload dB_areEquivalent_321 rfl ?_
          refine xs_i2l dB_areEquivalent_323 ?_
          refine xs_cS_i (As := [_, _]) dB_areEquivalent_324 lkB_144 (k_B_areLike hc hh) rfl rfl (Nat.le_of_ble_eq_true rfl) ⟨by decide, by decide⟩ ⟨by omega, by omega⟩ ?_
          refine xs_ifb_ne dB_areEquivalent_327 (fun h327 => ?_) (fun h327 => ?_)
          · refine xs_iconst (v := 1) dB_areEquivalent_385 (by decide) ?_
            refine xs_goto dB_areEquivalent_386 ?_
            exact xs_iret dB_areEquivalent_390 rfl rfl (by omega) (by omega) ⟨(by clear hE; first | (simp [bI, *]; done) | simp_all [bI]), rfl, rfl⟩
          refine xs_iload_n dB_areEquivalent_330 rfl ?_
          refine xs_i2l dB_areEquivalent_331 ?_
          refine xs_iload dB_areEquivalent_332 rfl ?_
          refine xs_i2l dB_areEquivalent_334 ?_
          refine xs_cS_i (As := [_, _]) dB_areEquivalent_335 lkB_144 (k_B_areLike ha hl) rfl rfl (Nat.le_of_ble_eq_true rfl) ⟨by decide, by decide⟩ ⟨by omega, by omega⟩ ?_
          refine xs_ifb_eq dB_areEquivalent_338 (fun h338 => ?_) (fun h338 => ?_)
          · refine xs_iconst (v := 0) dB_areEquivalent_389 (by decide) ?_
            exact xs_iret dB_areEquivalent_390 rfl rfl (by omega) (by omega) ⟨(by clear hE; first | (simp [bI, *]; done) | simp_all [bI]), rfl, rfl⟩
          refine xs_iload_n dB_areEquivalent_341 rfl ?_
          refine xs_i2l dB_areEquivalent_342 ?_
          refine xs_iload dB_areEquivalent_343 rfl ?_
          refine xs_i2l dB_areEquivalent_345 ?_
          refine xs_cS_i (As := [_, _]) dB_areEquivalent_346 lkB_144 (k_B_areLike hb hh) rfl rfl (Nat.le_of_ble_eq_true rfl) ⟨by decide, by decide⟩ ⟨by omega, by omega⟩ ?_
          refine xs_ifb_eq dB_areEquivalent_349 (fun h349 => ?_) (fun h349 => ?_)
          · refine xs_iload_n dB_areEquivalent_363 rfl ?_
            refine xs_i2l dB_areEquivalent_364 ?_
            refine xs_iload dB_areEquivalent_365 rfl ?_
            refine xs_i2l dB_areEquivalent_367 ?_
            refine xs_cS_i (As := [_, _]) dB_areEquivalent_368 lkB_144 (k_B_areLike hb hk) rfl rfl (Nat.le_of_ble_eq_true rfl) ⟨by decide, by decide⟩ ⟨by omega, by omega⟩ ?_
            refine xs_ifb_eq dB_areEquivalent_371 (fun h371 => ?_) (fun h371 => ?_)
            · refine xs_iconst (v := 0) dB_areEquivalent_389 (by decide) ?_
              exact xs_iret dB_areEquivalent_390 rfl rfl (by omega) (by omega) ⟨(by clear hE; first | (simp [bI, *]; done) | simp_all [bI]), rfl, rfl⟩
            refine xs_iload_n dB_areEquivalent_374 rfl ?_
            refine xs_i2l dB_areEquivalent_375 ?_
            refine xs_iload dB_areEquivalent_376 rfl ?_
            refine xs_i2l dB_areEquivalent_378 ?_
            refine xs_cS_i (As := [_, _]) dB_areEquivalent_379 lkB_144 (k_B_areLike hc hh) rfl rfl (Nat.le_of_ble_eq_true rfl) ⟨by decide, by decide⟩ ⟨by omega, by omega⟩ ?_
            refine xs_ifb_eq dB_areEquivalent_382 (fun h382 => ?_) (fun h382 => ?_)
            · refine xs_iconst (v := 0) dB_areEquivalent_389 (by decide) ?_
              exact xs_iret dB_areEquivalent_390 rfl rfl (by omega) (by omega) ⟨(by clear hE; first | (simp [bI, *]; done) | simp_all [bI]), rfl, rfl⟩
            refine xs_iconst (v := 1) dB_areEquivalent_385 (by decide) ?_
            refine xs_goto dB_areEquivalent_386 ?_
            exact xs_iret dB_areEquivalent_390 rfl rfl (by omega) (by omega) ⟨(by clear hE; first | (simp [bI, *]; done) | simp_all [bI]), rfl, rfl⟩
          refine xs_iload_n dB_areEquivalent_352 rfl ?_
          refine xs_i2l dB_areEquivalent_353 ?_
          refine xs_iload dB_areEquivalent_354 rfl ?_
          refine xs_i2l dB_areEquivalent_356 ?_
          refine xs_cS_i (As := [_, _]) dB_areEquivalent_357 lkB_144 (k_B_areLike hc hk) rfl rfl (Nat.le_of_ble_eq_true rfl) ⟨by decide, by decide⟩ ⟨by omega, by omega⟩ ?_
          refine xs_ifb_ne dB_areEquivalent_360 (fun h360 => ?_) (fun h360 => ?_)
          · refine xs_iconst (v := 1) dB_areEquivalent_385 (by decide) ?_
            refine xs_goto dB_areEquivalent_386 ?_
            exact xs_iret dB_areEquivalent_390 rfl rfl (by omega) (by omega) ⟨(by clear hE; first | (simp [bI, *]; done) | simp_all [bI]), rfl, rfl⟩
          refine xs_iload_n dB_areEquivalent_363 rfl ?_
          refine xs_i2l dB_areEquivalent_364 ?_
          refine xs_iload dB_areEquivalent_365 rfl ?_
          refine xs_i2l dB_areEquivalent_367 ?_
          refine xs_cS_i (As := [_, _]) dB_areEquivalent_368 lkB_144 (k_B_areLike hb hk) rfl rfl (Nat.le_of_ble_eq_true rfl) ⟨by decide, by decide⟩ ⟨by omega, by omega⟩ ?_
          refine xs_ifb_eq dB_areEquivalent_371 (fun h371 => ?_) (fun h371 => ?_)
          · refine xs_iconst (v := 0) dB_areEquivalent_389 (by decide) ?_
            exact xs_iret dB_areEquivalent_390 rfl rfl (by omega) (by omega) ⟨(by clear hE; first | (simp [bI, *]; done) | simp_all [bI]), rfl, rfl⟩
          refine xs_iload_n dB_areEquivalent_374 rfl ?_
          refine xs_i2l dB_areEquivalent_375 ?_
          refine xs_iload dB_areEquivalent_376 rfl ?_
          refine xs_i2l dB_areEquivalent_378 ?_
          refine xs_cS_i (As := [_, _]) dB_areEquivalent_379 lkB_144 (k_B_areLike hc hh) rfl rfl (Nat.le_of_ble_eq_true rfl) ⟨by decide, by decide⟩ ⟨by omega, by omega⟩ ?_
          refine xs_ifb_eq dB_areEquivalent_382 (fun h382 => ?_) (fun h382 => ?_)
          · refine xs_iconst (v := 0) dB_areEquivalent_389 (by decide) ?_
            exact xs_iret dB_areEquivalent_390 rfl rfl (by omega) (by omega) ⟨(by clear hE; first | (simp [bI, *]; done) | simp_all [bI]), rfl, rfl⟩
          refine xs_iconst (v := 1) dB_areEquivalent_385 (by decide) ?_
          refine xs_goto dB_areEquivalent_386 ?_
          exact xs_iret dB_areEquivalent_390 rfl rfl (by omega) (by omega) ⟨(by clear hE; first | (simp [bI, *]; done) | simp_all [bI]), rfl, rfl⟩
        refine xs_iload_n dB_areEquivalent_297 rfl ?_
        refine xs_i2l dB_areEquivalent_298 ?_
        refine xs_iload dB_areEquivalent_299 rfl ?_
        refine xs_i2l dB_areEquivalent_301 ?_
        refine xs_cS_i (As := [_, _]) dB_areEquivalent_302 lkB_144 (k_B_areLike hc hl) rfl rfl (Nat.le_of_ble_eq_true rfl) ⟨by decide, by decide⟩ ⟨by omega, by omega⟩ ?_
        refine xs_ifb_ne dB_areEquivalent_305 (fun h305 => ?_) (fun h305 => ?_)
        · refine xs_iconst (v := 1) dB_areEquivalent_385 (by decide) ?_
          refine xs_goto dB_areEquivalent_386 ?_
          exact xs_iret dB_areEquivalent_390 rfl rfl (by omega) (by omega) ⟨(by clear hE; first | (simp [bI, *]; done) | simp_all [bI]), rfl, rfl⟩
        refine xs_iload_n dB_areEquivalent_308 rfl ?_
        refine xs_i2l dB_areEquivalent_309 ?_
        refine xs_iload dB_areEquivalent_310 rfl ?_
        refine xs_i2l dB_areEquivalent_312 ?_
        refine xs_cS_i (As := [_, _]) dB_areEquivalent_313 lkB_144 (k_B_areLike hb hl) rfl rfl (Nat.le_of_ble_eq_true rfl) ⟨by decide, by decide⟩ ⟨by omega, by omega⟩ ?_
        refine xs_ifb_eq dB_areEquivalent_316 (fun h316 => ?_) (fun h316 => ?_)
        · refine xs_iload_n dB_areEquivalent_330 rfl ?_
          refine xs_i2l dB_areEquivalent_331 ?_
          refine xs_iload dB_areEquivalent_332 rfl ?_
          refine xs_i2l dB_areEquivalent_334 ?_
          refine xs_cS_i (As := [_, _]) dB_areEquivalent_335 lkB_144 (k_B_areLike ha hl) rfl rfl (Nat.le_of_ble_eq_true rfl) ⟨by decide, by decide⟩ ⟨by omega, by omega⟩ ?_
          refine xs_ifb_eq dB_areEquivalent_338 (fun h338 => ?_) (fun h338 => ?_)
          · refine xs_iconst (v := 0) dB_areEquivalent_389 (by decide) ?_
            exact xs_iret dB_areEquivalent_390 rfl rfl (by omega) (by omega) ⟨(by clear hE; first | (simp [bI, *]; done) | simp_all [bI]), rfl, rfl⟩
          refine xs_iload_n dB_areEquivalent_341 rfl ?_
          refine xs_i2l dB_areEquivalent_342 ?_
          refine xs_iload dB_areEquivalent_343 rfl ?_
          refine xs_i2l dB_areEquivalent_345 ?_
          refine xs_cS_i (As := [_, _]) dB_areEquivalent_346 lkB_144 (k_B_areLike hb hh) rfl rfl (Nat.le_of_ble_eq_true rfl) ⟨by decide, by decide⟩ ⟨by omega, by omega⟩ ?_
          refine xs_ifb_eq dB_areEquivalent_349 (fun h349 => ?_) (fun h349 => ?_)
          · refine xs_iload_n dB_areEquivalent_363 rfl ?_
            refine xs_i2l dB_areEquivalent_364 ?_
            refine xs_iload dB_areEquivalent_365 rfl ?_
            refine xs_i2l dB_areEquivalent_367 ?_
            refine xs_cS_i (As := [_, _]) dB_areEquivalent_368 lkB_144 (k_B_areLike hb hk) rfl rfl (Nat.le_of_ble_eq_true rfl) ⟨by decide, by decide⟩ ⟨by omega, by omega⟩ ?_
            refine xs_ifb_eq dB_areEquivalent_371 (fun h371 => ?_) (fun h371 => ?_)
            · refine xs_iconst (v := 0) dB_areEquivalent_389 (by decide) ?_
              exact xs_iret dB_areEquivalent_390 rfl rfl (by omega) (by omega) ⟨(by clear hE; first | (simp [bI, *]; done) | simp_all [bI]), rfl, rfl⟩
            refine xs_iload_n dB_areEquivalent_374 rfl ?_
            refine xs_i2l dB_areEquivalent_375 ?_
            refine xs_iload dB_areEquivalent_376 rfl ?_
            refine xs_i2l dB_areEquivalent_378 ?_
            refine xs_cS_i (As := [_, _]) dB_areEquivalent_379 lkB_144 (k_B_areLike hc hh) rfl rfl (Nat.le_of_ble_eq_true rfl) ⟨by decide, by decide⟩ ⟨by omega, by omega⟩ ?_
            refine xs_ifb_eq dB_areEquivalent_382 (fun h382 => ?_) (fun h382 => ?_)
            · refine xs_iconst (v := 0) dB_areEquivalent_389 (by decide) ?_
              exact xs_iret dB_areEquivalent_390 rfl rfl (by omega) (by omega) ⟨(by clear hE; first | (simp [bI, *]; done) | simp_all [bI]), rfl, rfl⟩
            refine xs_iconst (v := 1) dB_areEquivalent_385 (by decide) ?_
            refine xs_goto dB_areEquivalent_386 ?_
            exact xs_iret dB_areEquivalent_390 rfl rfl (by omega) (by omega) ⟨(by clear hE; first | (simp [bI, *]; done) | simp_all [bI]), rfl, rfl⟩
          refine xs_iload_n dB_areEquivalent_352 rfl ?_
          refine xs_i2l dB_areEquivalent_353 ?_
          refine xs_iload dB_areEquivalent_354 rfl ?_
          refine xs_i2l dB_areEquivalent_356 ?_
          refine xs_cS_i (As := [_, _]) dB_areEquivalent_357 lkB_144 (k_B_areLike hc hk) rfl rfl (Nat.le_of_ble_eq_true rfl) ⟨by decide, by decide⟩ ⟨by omega, by omega⟩ ?_
          refine xs_ifb_ne dB_areEquivalent_360 (fun h360 => ?_) (fun h360 => ?_)
          · refine xs_iconst (v := 1) dB_areEquivalent_385 (by decide) ?_
            refine xs_goto dB_areEquivalent_386 ?_
            exact xs_iret dB_areEquivalent_390 rfl rfl (by omega) (by omega) ⟨(by clear hE; first | (simp [bI, *]; done) | simp_all [bI]), rfl, rfl⟩
          refine xs_iload_n dB_areEquivalent_363 rfl ?_
          refine xs_i2l dB_areEquivalent_364 ?_
          refine xs_iload dB_areEquivalent_365 rfl ?_
          refine xs_i2l dB_areEquivalent_367 ?_
          refine xs_cS_i (As := [_, _]) dB_areEquivalent_368 lkB_144 (k_B_areLike hb hk) rfl rfl (Nat.le_of_ble_eq_true rfl) ⟨by decide, by decide⟩ ⟨by omega, by omega⟩ ?_
          refine xs_ifb_eq dB_areEquivalent_371 (fun h371 => ?_) (fun h371 => ?_)
          · refine xs_iconst (v := 0) dB_areEquivalent_389 (by decide) ?_
            exact xs_iret dB_areEquivalent_390 rfl rfl (by omega) (by omega) ⟨(by clear hE; first | (simp [bI, *]; done) | simp_all [bI]), rfl, rfl⟩
          refine xs_iload_n dB_areEquivalent_374 rfl ?_
          refine xs_i2l dB_areEquivalent_375 ?_
          refine xs_iload dB_areEquivalent_376 rfl ?_
          refine xs_i2l dB_areEquivalent_378 ?_
          refine xs_cS_i (As := [_, _]) dB_areEquivalent_379 lkB_144 (k_B_areLike hc hh) rfl rfl (Nat.le_of_ble_eq_true rfl) ⟨by decide, by decide⟩ ⟨by omega, by omega⟩ ?_
          refine xs_ifb_eq dB_areEquivalent_382 (fun h382 => ?_) (fun h382 => ?_)
          · refine xs_iconst (v := 0) dB_areEquivalent_389 (by decide) ?_
            exact xs_iret dB_areEquivalent_390 rfl rfl (by omega) (by omega) ⟨(by clear hE; first | (simp [bI, *]; done) | simp_all [bI]), rfl, rfl⟩
          refine xs_iconst (v := 1) dB_areEquivalent_385 (by decide) ?_
          refine xs_goto dB_areEquivalent_386 ?_
          exact xs_iret dB_areEquivalent_390 rfl rfl (by omega) (by omega) ⟨(by clear hE; first | (simp [bI, *]; done) | simp_all [bI]), rfl, rfl⟩
        refine xs_iload_n dB_areEquivalent_319 rfl ?_
        refine xs_i2l dB_areEquivalent_320 ?_
        refine xs_iload dB_areEquivalent_321 rfl ?_
        refine xs_i2l dB_areEquivalent_323 ?_
        refine xs_cS_i (As := [_, _]) dB_areEquivalent_324 lkB_144 (k_B_areLike hc hh) rfl rfl (Nat.le_of_ble_eq_true rfl) ⟨by decide, by decide⟩ ⟨by omega, by omega⟩ ?_
        refine xs_ifb_ne dB_areEquivalent_327 (fun h327 => ?_) (fun h327 => ?_)
        · refine xs_iconst (v := 1) dB_areEquivalent_385 (by decide) ?_
          refine xs_goto dB_areEquivalent_386 ?_
          exact xs_iret dB_areEquivalent_390 rfl rfl (by omega) (by omega) ⟨(by clear hE; first | (simp [bI, *]; done) | simp_all [bI]), rfl, rfl⟩
        refine xs_iload_n dB_areEquivalent_330 rfl ?_
        refine xs_i2l dB_areEquivalent_331 ?_
        refine xs_iload dB_areEquivalent_332 rfl ?_
        refine xs_i2l dB_areEquivalent_334 ?_
        refine xs_cS_i (As := [_, _]) dB_areEquivalent_335 lkB_144 (k_B_areLike ha hl) rfl rfl (Nat.le_of_ble_eq_true rfl) ⟨by decide, by decide⟩ ⟨by omega, by omega⟩ ?_
        refine xs_ifb_eq dB_areEquivalent_338 (fun h338 => ?_) (fun h338 => ?_)
        · refine xs_iconst (v := 0) dB_areEquivalent_389 (by decide) ?_
          exact xs_iret dB_areEquivalent_390 rfl rfl (by omega) (by omega) ⟨(by clear hE; first | (simp [bI, *]; done) | simp_all [bI]), rfl, rfl⟩
        refine xs_iload_n dB_areEquivalent_341 rfl ?_
        refine xs_i2l dB_areEquivalent_342 ?_
        refine xs_iload dB_areEquivalent_343 rfl ?_
        refine xs_i2l dB_areEquivalent_345 ?_
        refine xs_cS_i (As := [_, _]) dB_areEquivalent_346 lkB_144 (k_B_areLike hb hh) rfl rfl (Nat.le_of_ble_eq_true rfl) ⟨by decide, by decide⟩ ⟨by omega, by omega⟩ ?_
        refine xs_ifb_eq dB_areEquivalent_349 (fun h349 => ?_) (fun h349 => ?_)
        · refine xs_iload_n dB_areEquivalent_363 rfl ?_
          refine xs_i2l dB_areEquivalent_364 ?_
          refine xs_iload dB_areEquivalent_365 rfl ?_
          refine xs_i2l dB_areEquivalent_367 ?_
          refine xs_cS_i (As := [_, _]) dB_areEquivalent_368 lkB_144 (k_B_areLike hb hk) rfl rfl (Nat.le_of_ble_eq_true rfl) ⟨by decide, by decide⟩ ⟨by omega, by omega⟩ ?_
          refine xs_ifb_eq dB_areEquivalent_371 (fun h371 => ?_) (fun h371 => ?_)
          · refine xs_iconst (v := 0) dB_areEquivalent_389 (by decide) ?_
            exact xs_iret dB_areEquivalent_390 rfl rfl (by omega) (by omega) ⟨(by clear hE; first | (simp [bI, *]; done) | simp_all [bI]), rfl, rfl⟩
          refine xs_iload_n dB_areEquivalent_374 rfl ?_
          refine xs_i2l dB_areEquivalent_375 ?_
          refine xs_iload dB_areEquivalent_376 rfl ?_
          refine xs_i2l dB_areEquivalent_378 ?_
          refine xs_cS_i (As := [_, _]) dB_areEquivalent_379 lkB_144 (k_B_areLike hc hh) rfl rfl (Nat.le_of_ble_eq_true rfl) ⟨by decide, by decide⟩ ⟨by omega, by omega⟩ ?_
          refine xs_ifb_eq dB_areEquivalent_382 (fun h382 => ?_) (fun h382 => ?_)
          · refine xs_iconst (v := 0) dB_areEquivalent_389 (by decide) ?_
            exact xs_iret dB_areEquivalent_390 rfl rfl (by omega) (by omega) ⟨(by clear hE; first | (simp [bI, *]; done) | simp_all [bI]), rfl, rfl⟩
          refine xs_iconst (v := 1) dB_areEquivalent_385 (by decide) ?_
          refine xs_goto dB_areEquivalent_386 ?_
          exact xs_iret dB_areEquivalent_390 rfl rfl (by omega) (by omega) ⟨(by clear hE; first | (simp [bI, *]; done) | simp_all [bI]), rfl, rfl⟩
        refine xs_iload_n dB_areEquivalent_352 rfl ?_
        refine xs_i2l dB_areEquivalent_353 ?_
        refine xs_iload dB_areEquivalent_354 rfl ?_
        refine xs_i2l dB_areEquivalent_356 ?_
        refine xs_cS_i (As := [_, _]) dB_areEquivalent_357 lkB_144 (k_B_areLike hc hk) rfl rfl (Nat.le_of_ble_eq_true rfl) ⟨by decide, by decide⟩ ⟨by omega, by omega⟩ ?_
        refine xs_ifb_ne dB_areEquivalent_360 (fun h360 => ?_) (fun h360 => ?_)
        · refine xs_iconst (v := 1) dB_areEquivalent_385 (by decide) ?_
          refine xs_goto dB_areEquivalent_386 ?_
          exact xs_iret dB_areEquivalent_390 rfl rfl (by omega) (by omega) ⟨(by clear hE; first | (simp [bI, *]; done) | simp_all [bI]), rfl, rfl⟩
        refine xs_iload_n dB_areEquivalent_363 rfl ?_
        refine xs_i2l dB_areEquivalent_364 ?_
        refine xs_iload dB_areEquivalent_365 rfl ?_
        refine xs_i2l dB_areEquivalent_367 ?_
        refine xs_cS_i (As := [_, _]) dB_areEquivalent_368 lkB_144 (k_B_areLike hb hk) rfl rfl (Nat.le_of_ble_eq_true rfl) ⟨by decide, by decide⟩ ⟨by omega, by omega⟩ ?_
        refine xs_ifb_eq dB_areEquivalent_371 (fun h371 => ?_) (fun h371 => ?_)
        · refine xs_iconst (v := 0) dB_areEquivalent_389 (by decide) ?_
          exact xs_iret dB_areEquivalent_390 rfl rfl (by omega) (by omega) ⟨(by clear hE; first | (simp [bI, *]; done) | simp_all [bI]), rfl, rfl⟩
        refine xs_iload_n dB_areEquivalent_374 rfl ?_
        refine xs_i2l dB_areEquivalent_375 ?_
        refine xs_iload dB_areEquivalent_376 rfl ?_
        refine xs_i2l dB_areEquivalent_378 ?_
        refine xs_cS_i (As := [_, _]) dB_areEquivalent_379 lkB_144 (k_B_areLike hc hh) rfl rfl (Nat.le_of_ble_eq_true rfl) ⟨by decide, by decide⟩ ⟨by omega, by omega⟩ ?_
        refine xs_ifb_eq dB_areEquivalent_382 (fun h382 => ?_) (fun h382 => ?_)
        · refine xs_iconst (v := 0) dB_areEquivalent_389 (by decide) ?_
          exact xs_iret dB_areEquivalent_390 rfl rfl (by omega) (by omega) ⟨(by clear hE; first | (simp [bI, *]; done) | simp_all [bI]), rfl, rfl⟩
        refine xs_iconst (v := 1) dB_areEquivalent_385 (by decide) ?_
        refine xs_goto dB_areEquivalent_386 ?_
        exact xs_iret dB_areEquivalent_390 rfl rfl (by omega) (by omega) ⟨(by clear hE; first | (simp [bI, *]; done) | simp_all [bI]), rfl, rfl⟩
      refine xs_iload_n dB_areEquivalent_264 rfl ?_
      refine xs_i2l dB_areEquivalent_265 ?_
      refine xs_iload dB_areEquivalent_266 rfl ?_
      refine xs_i2l dB_areEquivalent_268 ?_
      refine xs_cS_i (As := [_, _]) dB_areEquivalent_269 lkB_144 (k_B_areLike hc hk) rfl rfl (Nat.le_of_ble_eq_true rfl) ⟨by decide, by decide⟩ ⟨by omega, by omega⟩ ?_
      refine xs_ifb_ne dB_areEquivalent_272 (fun h272 => ?_) (fun h272 => ?_)
      · refine xs_iconst (v := 1) dB_areEquivalent_385 (by decide) ?_
        refine xs_goto dB_areEquivalent_386 ?_
        exact xs_iret dB_areEquivalent_390 rfl rfl (by omega) (by omega) ⟨(by clear hE; first | (simp [bI, *]; done) | simp_all [bI]), rfl, rfl⟩
      refine xs_iload_n dB_areEquivalent_275 rfl ?_
      refine xs_i2l dB_areEquivalent_276 ?_
      refine xs_iload dB_areEquivalent_277 rfl ?_
      refine xs_i2l dB_areEquivalent_279 ?_
      refine xs_cS_i (As := [_, _]) dB_areEquivalent_280 lkB_144 (k_B_areLike ha hk) rfl rfl (Nat.le_of_ble_eq_true rfl) ⟨by decide, by decide⟩ ⟨by omega, by omega⟩ ?_
      refine xs_ifb_eq dB_areEquivalent_283 (fun h283 => ?_) (fun h283 => ?_)
      · refine xs_iload_n dB_areEquivalent_330 rfl ?_
        refine xs_i2l dB_areEquivalent_331 ?_
        refine xs_iload dB_areEquivalent_332 rfl ?_
        refine xs_i2l dB_areEquivalent_334 ?_
        refine xs_cS_i (As := [_, _]) dB_areEquivalent_335 lkB_144 (k_B_areLike ha hl) rfl rfl (Nat.le_of_ble_eq_true rfl) ⟨by decide, by decide⟩ ⟨by omega, by omega⟩ ?_
        refine xs_ifb_eq dB_areEquivalent_338 (fun h338 => ?_) (fun h338 => ?_)
        · refine xs_iconst (v := 0) dB_areEquivalent_389 (by decide) ?_
          exact xs_iret dB_areEquivalent_390 rfl rfl (by omega) (by omega) ⟨(by clear hE; first | (simp [bI, *]; done) | simp_all [bI]), rfl, rfl⟩
        refine xs_iload_n dB_areEquivalent_341 rfl ?_
        refine xs_i2l dB_areEquivalent_342 ?_
        refine xs_iload dB_areEquivalent_343 rfl ?_
        refine xs_i2l dB_areEquivalent_345 ?_
        refine xs_cS_i (As := [_, _]) dB_areEquivalent_346 lkB_144 (k_B_areLike hb hh) rfl rfl (Nat.le_of_ble_eq_true rfl) ⟨by decide, by decide⟩ ⟨by omega, by omega⟩ ?_
        refine xs_ifb_eq dB_areEquivalent_349 (fun h349 => ?_) (fun h349 => ?_)
        · refine xs_iload_n dB_areEquivalent_363 rfl ?_
          refine xs_i2l dB_areEquivalent_364 ?_
          refine xs_iload dB_areEquivalent_365 rfl ?_
          refine xs_i2l dB_areEquivalent_367 ?_
          refine xs_cS_i (As := [_, _]) dB_areEquivalent_368 lkB_144 (k_B_areLike hb hk) rfl rfl (Nat.le_of_ble_eq_true rfl) ⟨by decide, by decide⟩ ⟨by omega, by omega⟩ ?_
          refine xs_ifb_eq dB_areEquivalent_371 (fun h371 => ?_) (fun h371 => ?_)
          · refine xs_iconst (v := 0) dB_areEquivalent_389 (by decide) ?_
            exact xs_iret dB_areEquivalent_390 rfl rfl (by omega) (by omega) ⟨(by clear hE; first | (simp [bI, *]; done) | simp_all [bI]), rfl, rfl⟩
          refine xs_iload_n dB_areEquivalent_374 rfl ?_
          refine xs_i2l dB_areEquivalent_375 ?_
          refine xs_iload dB_areEquivalent_376 rfl ?_
          refine xs_i2l dB_areEquivalent_378 ?_
          refine xs_cS_i (As := [_, _]) dB_areEquivalent_379 lkB_144 (k_B_areLike hc hh) rfl rfl (Nat.le_of_ble_eq_true rfl) ⟨by decide, by decide⟩ ⟨by omega, by omega⟩ ?_
          refine xs_ifb_eq dB_areEquivalent_382 (fun h382 => ?_) (fun h382 => ?_)
          · refine xs_iconst (v := 0) dB_areEquivalent_389 (by decide) ?_
            exact xs_iret dB_areEquivalent_390 rfl rfl (by omega) (by omega) ⟨(by clear hE; first | (simp [bI, *]; done) | simp_all [bI]), rfl, rfl⟩
          refine xs_iconst (v := 1) dB_areEquivalent_385 (by decide) ?_
          refine xs_goto dB_areEquivalent_386 ?_
          exact xs_iret dB_areEquivalent_390 rfl rfl (by omega) (by omega) ⟨(by clear hE; first | (simp [bI, *]; done) | simp_all [bI]), rfl, rfl⟩
        refine xs_iload_n dB_areEquivalent_352 rfl ?_
        refine xs_i2l dB_areEquivalent_353 ?_
        refine xs_iload dB_areEquivalent_354 rfl ?_
        refine xs_i2l dB_areEquivalent_356 ?_
        refine xs_cS_i (As := [_, _]) dB_areEquivalent_357 lkB_144 (k_B_areLike hc hk) rfl rfl (Nat.le_of_ble_eq_true rfl) ⟨by decide, by decide⟩ ⟨by omega, by omega⟩ ?_
        refine xs_ifb_ne dB_areEquivalent_360 (fun h360 => ?_) (fun h360 => ?_)
        · refine xs_iconst (v := 1) dB_areEquivalent_385 (by decide) ?_
          refine xs_goto dB_areEquivalent_386 ?_
          exact xs_iret dB_areEquivalent_390 rfl rfl (by omega) (by omega) ⟨(by clear hE; first | (simp [bI, *]; done) | simp_all [bI]), rfl, rfl⟩
        refine xs_iload_n dB_areEquivalent_363 rfl ?_
        refine xs_i2l dB_areEquivalent_364 ?_
        refine xs_iload dB_areEquivalent_365 rfl ?_
        refine xs_i2l dB_areEquivalent_367 ?_
        refine xs_cS_i (As := [_, _]) dB_areEquivalent_368 lkB_144 (k_B_areLike hb hk) rfl rfl (Nat.le_of_ble_eq_true rfl) ⟨by decide, by decide⟩ ⟨by omega, by omega⟩ ?_
        refine xs_ifb_eq dB_areEquivalent_371 (fun h371 => ?_) (fun h371 => ?_)
        · refine xs_iconst (v := 0) dB_areEquivalent_389 (by decide) ?_
          exact xs_iret dB_areEquivalent_390 rfl rfl (by omega) (by omega) ⟨(by clear hE; first | (simp [bI, *]; done) | simp_all [bI]), rfl, rfl⟩
        refine xs_iload_n dB_areEquivalent_374 rfl ?_
        refine xs_i2l dB_areEquivalent_375 ?_
        refine xs_iload dB_areEquivalent_376 rfl ?_
        refine xs_i2l dB_areEquivalent_378 ?_
        refine xs_cS_i (As := [_, _]) dB_areEquivalent_379 lkB_144 (k_B_areLike hc hh) rfl rfl (Nat.le_of_ble_eq_true rfl) ⟨by decide, by decide⟩ ⟨by omega, by omega⟩ ?_
        refine xs_ifb_eq dB_areEquivalent_382 (fun h382 => ?_) (fun h382 => ?_)
        · refine xs_iconst (v := 0) dB_areEquivalent_389 (by decide) ?_
          exact xs_iret dB_areEquivalent_390 rfl rfl (by omega) (by omega) ⟨(by clear hE; first | (simp [bI, *]; done) | simp_all [bI]), rfl, rfl⟩
        refine xs_iconst (v := 1) dB_areEquivalent_385 (by decide) ?_
        refine xs_goto dB_areEquivalent_386 ?_
        exact xs_iret dB_areEquivalent_390 rfl rfl (by omega) (by omega) ⟨(by clear hE; first | (simp [bI, *]; done) | simp_all [bI]), rfl, rfl⟩
      refine xs_iload_n dB_areEquivalent_286 rfl ?_
      refine xs_i2l dB_areEquivalent_287 ?_
      refine xs_iload dB_areEquivalent_288 rfl ?_
      refine xs_i2l dB_areEquivalent_290 ?_
      refine xs_cS_i (As := [_, _]) dB_areEquivalent_291 lkB_144 (k_B_areLike hb hh) rfl rfl (Nat.le_of_ble_eq_true rfl) ⟨by decide, by decide⟩ ⟨by omega, by omega⟩ ?_
      refine xs_ifb_eq dB_areEquivalent_294 (fun h294 => ?_) (fun h294 => ?_)
      · refine xs_iload_n dB_areEquivalent_308 rfl ?_
        refine xs_i2l dB_areEquivalent_309 ?_
        refine xs_iload dB_areEquivalent_310 rfl ?_
        refine xs_i2l dB_areEquivalent_312 ?_
        refine xs_cS_i (As := [_, _]) dB_areEquivalent_313 lkB_144 (k_B_areLike hb hl) rfl rfl (Nat.le_of_ble_eq_true rfl) ⟨by decide, by decide⟩ ⟨by omega, by omega⟩ ?_
        refine xs_ifb_eq dB_areEquivalent_316 (fun h316 => ?_) (fun h316 => ?_)
        · refine xs_iload_n dB_areEquivalent_330 rfl ?_
          refine xs_i2l dB_areEquivalent_331 ?_
          refine xs_iload dB_areEquivalent_332 rfl ?_
          refine xs_i2l dB_areEquivalent_334 ?_
          refine xs_cS_i (As := [_, _]) dB_areEquivalent_335 lkB_144 (k_B_areLike ha hl) rfl rfl (Nat.le_of_ble_eq_true rfl) ⟨by decide, by decide⟩ ⟨by omega, by omega⟩ ?_
          refine xs_ifb_eq dB_areEquivalent_338 (fun h338 => ?_) (fun h338 => ?_)
          · refine xs_iconst (v := 0) dB_areEquivalent_389 (by decide) ?_
            exact xs_iret dB_areEquivalent_390 rfl rfl (by omega) (by omega) ⟨(by clear hE; first | (simp [bI, *]; done) | simp_all [bI]), rfl, rfl⟩
          refine xs_iload_n dB_areEquivalent_341 rfl ?_
          refine xs_i2l dB_areEquivalent_342 ?_
          refine xs_iload dB_areEquivalent_343 rfl ?_
          refine xs_i2l dB_areEquivalent_345 ?_
          refine xs_cS_i (As := [_, _]) dB_areEquivalent_346 lkB_144 (k_B_areLike hb hh) rfl rfl (Nat.le_of_ble_eq_true rfl) ⟨by decide, by decide⟩ ⟨by omega, by omega⟩ ?_
          refine xs_ifb_eq dB_areEquivalent_349 (fun h349 => ?_) (fun h349 => ?_)
          · refine xs_iload_n dB_areEquivalent_363 rfl ?_
            refine xs_i2l dB_areEquivalent_364 ?_
            refine xs_iload dB_areEquivalent_365 rfl ?_
            refine xs_i2l dB_areEquivalent_367 ?_
            refine xs_cS_i (As := [_, _]) dB_areEquivalent_368 lkB_144 (k_B_areLike hb hk) rfl rfl (Nat.le_of_ble_eq_true rfl) ⟨by decide, by decide⟩ ⟨by omega, by omega⟩ ?_
            refine xs_ifb_eq dB_areEquivalent_371 (fun h371 => ?_) (fun h371 => ?_)
            · refine xs_iconst (v := 0) dB_areEquivalent_389 (by decide) ?_
              exact xs_iret dB_areEquivalent_390 rfl rfl (by omega) (by omega) ⟨(by clear hE; first | (simp [bI, *]; done) | simp_all [bI]), rfl, rfl⟩
            refine xs_iload_n dB_areEquivalent_374 rfl ?_
            refine xs_i2l dB_areEquivalent_375 ?_
            refine xs_iload dB_areEquivalent_376 rfl ?_
            refine xs_i2l dB_areEquivalent_378 ?_
            refine xs_cS_i (As := [_, _]) dB_areEquivalent_379 lkB_144 (k_B_areLike hc hh) rfl rfl (Nat.le_of_ble_eq_true rfl) ⟨by decide, by decide⟩ ⟨by omega, by omega⟩ ?_
            refine xs_ifb_eq dB_areEquivalent_382 (fun h382 => ?_) (fun h382 => ?_)
            · refine xs_iconst (v := 0) dB_areEquivalent_389 (by decide) ?_
              exact xs_iret dB_areEquivalent_390 rfl rfl (by omega) (by omega) ⟨(by clear hE; first | (simp [bI, *]; done) | simp_all [bI]), rfl, rfl⟩
            refine xs_iconst (v := 1) dB_areEquivalent_385 (by decide) ?_
            refine xs_goto dB_areEquivalent_386 ?_
            exact xs_iret dB_areEquivalent_390 rfl rfl (by omega) (by omega) ⟨(by clear hE; first | (simp [bI, *]; done) | simp_all [bI]), rfl, rfl⟩
          refine xs_iload_n dB_areEquivalent_352 rfl ?_
          refine xs_i2l dB_areEquivalent_353 ?_
          refine xs_iload dB_areEquivalent_354 rfl ?_
          refine xs_i2l dB_areEquivalent_356 ?_
          refine xs_cS_i (As := [_, _]) dB_areEquivalent_357 lkB_144 (k_B_areLike hc hk) rfl rfl (Nat.le_of_ble_eq_true rfl) ⟨by decide, by decide⟩ ⟨by omega, by omega⟩ ?_
          refine xs_ifb_ne dB_areEquivalent_360 (fun h360 => ?_) (fun h360 => ?_)
          · refine xs_iconst (v := 1) dB_areEquivalent_385 (by decide) ?_
            refine xs_goto dB_areEquivalent_386 ?_
            exact xs_iret dB_areEquivalent_390 rfl rfl (by omega) (by omega) ⟨(by clear hE; first | (simp [bI, *]; done) | simp_all [bI]), rfl, rfl⟩
          refine xs_iload_n dB_areEquivalent_363 rfl ?_
          refine xs_i2l dB_areEquivalent_364 ?_
          refine xs_iload dB_areEquivalent_365 rfl ?_
          refine xs_i2l dB_areEquivalent_367 ?_
          refine xs_cS_i (As := [_, _]) dB_areEquivalent_368 lkB_144 (k_B_areLike hb hk) rfl rfl (Nat.le_of_ble_eq_true rfl) ⟨by decide, by decide⟩ ⟨by omega, by omega⟩ ?_
          refine xs_ifb_eq dB_areEquivalent_371 (fun h371 => ?_) (fun h371 => ?_)
          · refine xs_iconst (v := 0) dB_areEquivalent_389 (by decide) ?_
            exact xs_iret dB_areEquivalent_390 rfl rfl (by omega) (by omega) ⟨(by clear hE; first | (simp [bI, *]; done) | simp_all [bI]), rfl, rfl⟩
          refine xs_iload_n dB_areEquivalent_374 rfl ?_
          refine xs_i2l dB_areEquivalent_375 ?_
          refine xs_iload dB_areEquivalent_376 rfl ?_
          refine xs_i2l dB_areEquivalent_378 ?_
          refine xs_cS_i (As := [_, _]) dB_areEquivalent_379 lkB_144 (k_B_areLike hc hh) rfl rfl (Nat.le_of_ble_eq_true rfl) ⟨by decide, by decide⟩ ⟨by omega, by omega⟩ ?_
          refine xs_ifb_eq dB_areEquivalent_382 (fun h382 => ?_) (fun h382 => ?_)
          · refine xs_iconst (v := 0) dB_areEquivalent_389 (by decide) ?_
            exact xs_iret dB_areEquivalent_390 rfl rfl (by omega) (by omega) ⟨(by clear hE; first | (simp [bI, *]; done) | simp_all [bI]), rfl, rfl⟩
          refine xs_iconst (v := 1) dB_areEquivalent_385 (by decide) ?_
          refine xs_goto dB_areEquivalent_386 ?_
          exact xs_iret dB_areEquivalent_390 rfl rfl (by omega) (by omega) ⟨(by clear hE; first | (simp [bI, *]; done) | simp_all [bI]), rfl, rfl⟩
        refine xs_iload_n dB_areEquivalent_319 rfl ?_
        refine xs_i2l dB_areEquivalent_320 ?_
        refine xs_iload dB_areEquivalent_321 rfl ?_
        refine xs_i2l dB_areEquivalent_323 ?_
        refine xs_cS_i (As := [_, _]) dB_areEquivalent_324 lkB_144 (k_B_areLike hc hh) rfl rfl (Nat.le_of_ble_eq_true rfl) ⟨by decide, by decide⟩ ⟨by omega, by omega⟩ ?_
        refine xs_ifb_ne dB_areEquivalent_327 (fun h327 => ?_) (fun h327 => ?_)
        · refine xs_iconst (v := 1) dB_areEquivalent_385 (by decide) ?_
          refine xs_goto dB_areEquivalent_386 ?_
          exact xs_iret dB_areEquivalent_390 rfl rfl (by omega) (by omega) ⟨(by clear hE; first | (simp [bI, *]; done) | simp_all [bI]), rfl, rfl⟩
        refine xs_iload_n dB_areEquivalent_330 rfl ?_
        refine xs_i2l dB_areEquivalent_331 ?_
        refine xs_iload dB_areEquivalent_332 rfl ?_
        refine xs_i2l dB_areEquivalent_334 ?_
        refine xs_cS_i (As := [_, _]) dB_areEquivalent_335 lkB_144 (k_B_areLike ha hl) rfl rfl (Nat.le_of_ble_eq_true rfl) ⟨by decide, by decide⟩ ⟨by omega, by omega⟩ ?_
        refine xs_ifb_eq dB_areEquivalent_338 (fun h338 => ?_) (fun h338 => ?_)
        · refine xs_iconst (v := 0) dB_areEquivalent_389 (by decide) ?_
          exact xs_iret dB_areEquivalent_390 rfl rfl (by omega) (by omega) ⟨(by clear hE; first | (simp [bI, *]; done) | simp_all [bI]), rfl, rfl⟩
        refine xs_iload_n dB_areEquivalent_341 rfl ?_
        refine xs_i2l dB_areEquivalent_342 ?_
        refine xs_iload dB_areEquivalent_343 rfl ?_
        refine xs_i2l dB_areEquivalent_345 ?_
        refine xs_cS_i (As := [_, _]) dB_areEquivalent_346 lkB_144 (k_B_areLike hb hh) rfl rfl (Nat.le_of_ble_eq_true rfl) ⟨by decide, by decide⟩ ⟨by omega, by omega⟩ ?_
        refine xs_ifb_eq dB_areEquivalent_349 (fun h349 => ?_) (fun h349 => ?_)
        · refine xs_iload_n dB_areEquivalent_363 rfl ?_
          refine xs_i2l dB_areEquivalent_364 ?_
          refine xs_iload dB_areEquivalent_365 rfl ?_
          refine xs_i2l dB_areEquivalent_367 ?_
          refine xs_cS_i (As := [_, _]) dB_areEquivalent_368 lkB_144 (k_B_areLike hb hk) rfl rfl (Nat.le_of_ble_eq_true rfl) ⟨by decide, by decide⟩ ⟨by omega, by omega⟩ ?_
          refine xs_ifb_eq dB_areEquivalent_371 (fun h371 => ?_) (fun h371 => ?_)
          · refine xs_iconst (v := 0) dB_areEquivalent_389 (by decide) ?_
            exact xs_iret dB_areEquivalent_390 rfl rfl (by omega) (by omega) ⟨(by clear hE; first | (simp [bI, *]; done) | simp_all [bI]), rfl, rfl⟩
          refine xs_iload_n dB_areEquivalent_374 rfl ?_
          refine xs_i2l dB_areEquivalent_375 ?_
          refine xs_iload dB_areEquivalent_376 rfl ?_
          refine xs_i2l dB_areEquivalent_378 ?_
          refine xs_cS_i (As := [_, _]) dB_areEquivalent_379 lkB_144 (k_B_areLike hc hh) rfl rfl (Nat.le_of_ble_eq_true rfl) ⟨by decide, by decide⟩ ⟨by omega, by omega⟩ ?_
          refine xs_ifb_eq dB_areEquivalent_382 (fun h382 => ?_) (fun h382 => ?_)
          · refine xs_iconst (v := 0) dB_areEquivalent_389 (by decide) ?_
            exact xs_iret dB_areEquivalent_390 rfl rfl (by omega) (by omega) ⟨(by clear hE; first | (simp [bI, *]; done) | simp_all [bI]), rfl, rfl⟩
          refine xs_iconst (v := 1) dB_areEquivalent_385 (by decide) ?_
          refine xs_goto dB_areEquivalent_386 ?_
          exact xs_iret dB_areEquivalent_390 rfl rfl (by omega) (by omega) ⟨(by clear hE; first | (simp [bI, *]; done) | simp_all [bI]), rfl, rfl⟩
        refine xs_iload_n dB_areEquivalent_352 rfl ?_
        refine xs_i2l dB_areEquivalent_353 ?_
        refine xs_iload dB_areEquivalent_354 rfl ?_
        refine xs_i2l dB_areEquivalent_356 ?_
        refine xs_cS_i (As := [_, _]) dB_areEquivalent_357 lkB_144 (k_B_areLike hc hk) rfl rfl (Nat.le_of_ble_eq_true rfl) ⟨by decide, by decide⟩ ⟨by omega, by omega⟩ ?_
        refine xs_ifb_ne dB_areEquivalent_360 (fun h360 => ?_) (fun h360 => ?_)
        · refine xs_iconst (v := 1) dB_areEquivalent_385 (by decide) ?_
          refine xs_goto dB_areEquivalent_386 ?_
          exact xs_iret dB_areEquivalent_390 rfl rfl (by omega) (by omega) ⟨(by clear hE; first | (simp [bI, *]; done) | simp_all [bI]), rfl, rfl⟩
        refine xs_iload_n dB_areEquivalent_363 rfl ?_
        refine xs_i2l dB_areEquivalent_364 ?_
        refine xs_iload dB_areEquivalent_365 rfl ?_
        refine xs_i2l dB_areEquivalent_367 ?_
        refine xs_cS_i (As := [_, _]) dB_areEquivalent_368 lkB_144 (k_B_areLike hb hk) rfl rfl (Nat.le_of_ble_eq_true rfl) ⟨by decide, by decide⟩ ⟨by omega, by omega⟩ ?_
        refine xs_ifb_eq dB_areEquivalent_371 (fun h371 => ?_) (fun h371 => ?_)
        · refine xs_iconst (v := 0) dB_areEquivalent_389 (by decide) ?_
          exact xs_iret dB_areEquivalent_390 rfl rfl (by omega) (by omega) ⟨(by clear hE; first | (simp [bI, *]; done) | simp_all [bI]), rfl, rfl⟩
        refine xs_iload_n dB_areEquivalent_374 rfl ?_
        refine xs_i2l dB_areEquivalent_375 ?_
        refine xs_iload dB_areEquivalent_376 rfl ?_
        refine xs_i2l dB_areEquivalent_378 ?_
        refine xs_cS_i (As := [_, _]) dB_areEquivalent_379 lkB_144 (k_B_areLike hc hh) rfl rfl (Nat.le_of_ble_eq_true rfl) ⟨by decide, by decide⟩ ⟨by omega, by omega⟩ ?_
        refine xs_ifb_eq dB_areEquivalent_382 (fun h382 => ?_) (fun h382 => ?_)
        · refine xs_iconst (v := 0) dB_areEquivalent_389 (by decide) ?_
          exact xs_iret dB_areEquivalent_390 rfl rfl (by omega) (by omega) ⟨(by clear hE; first | (simp [bI, *]; done) | simp_all [bI]), rfl, rfl⟩
        refine xs_iconst (v := 1) dB_areEquivalent_385 (by decide) ?_
        refine xs_goto dB_areEquivalent_386 ?_
        exact xs_iret dB_areEquivalent_390 rfl rfl (by omega) (by omega) ⟨(by clear hE; first | (simp [bI, *]; done) | simp_all [bI]), rfl, rfl⟩
      refine xs_iload_n dB_areEquivalent_297 rfl ?_
      refine xs_i2l dB_areEquivalent_298 ?_
      refine xs_iload dB_areEquivalent_299 rfl ?_
      refine xs_i2l dB_areEquivalent_301 ?_
      refine xs_cS_i (As := [_, _]) dB_areEquivalent_302 lkB_144 (k_B_areLike hc hl) rfl rfl (Nat.le_of_ble_eq_true rfl) ⟨by decide, by decide⟩ ⟨by omega, by omega⟩ ?_
      refine xs_ifb_ne dB_areEquivalent_305 (fun h305 => ?_) (fun h305 => ?_)
      · refine xs_iconst (v := 1) dB_areEquivalent_385 (by decide) ?_
        refine xs_goto dB_areEquivalent_386 ?_
        exact xs_iret dB_areEquivalent_390 rfl rfl (by omega) (by omega) ⟨(by clear hE; first | (simp [bI, *]; done) | simp_all [bI]), rfl, rfl⟩
      refine xs_iload_n dB_areEquivalent_308 rfl ?_
      refine xs_i2l dB_areEquivalent_309 ?_
      refine xs_iload dB_areEquivalent_310 rfl ?_
      refine xs_i2l dB_areEquivalent_312 ?_
      refine xs_cS_i (As := [_, _]) dB_areEquivalent_313 lkB_144 (k_B_areLike hb hl) rfl rfl (Nat.le_of_ble_eq_true rfl) ⟨by decide, by decide⟩ ⟨by omega, by omega⟩ ?_
      refine xs_ifb_eq dB_areEquivalent_316 (fun h316 => ?_) (fun h316 => ?_)
      · refine xs_iload_n dB_areEquivalent_330 rfl ?_
        refine xs_i2l dB_areEquivalent_331 ?_
        refine xs_iload dB_areEquivalent_332 rfl ?_
        refine xs_i2l dB_areEquivalent_334 ?_
        refine xs_cS_i (As := [_, _]) dB_areEquivalent_335 lkB_144 (k_B_areLike ha hl) rfl rfl (Nat.le_of_ble_eq_true rfl) ⟨by decide, by decide⟩ ⟨by omega, by omega⟩ ?_
        refine xs_ifb_eq dB_areEquivalent_338 (fun h338 => ?_) (fun h338 => ?_)
        · refine xs_iconst (v := 0) dB_areEquivalent_389 (by decide) ?_
          exact xs_iret dB_areEquivalent_390 rfl rfl (by omega) (by omega) ⟨(by clear hE; first | (simp [bI, *]; done) | simp_all [bI]), rfl, rfl⟩
        refine xs_iload_n dB_areEquivalent_341 rfl ?_
        refine xs_i2l dB_areEquivalent_342 ?_
        refine xs_iload dB_areEquivalent_343 rfl ?_
        refine xs_i2l dB_areEquivalent_345 ?_
        refine xs_cS_i (As := [_, _]) dB_areEquivalent_346 lkB_144 (k_B_areLike hb hh) rfl rfl (Nat.le_of_ble_eq_true rfl) ⟨by decide, by decide⟩ ⟨by omega, by omega⟩ ?_
        refine xs_ifb_eq dB_areEquivalent_349 (fun h349 => ?_) (fun h349 => ?_)
        · refine xs_iload_n dB_areEquivalent_363 rfl ?_
          refine xs_i2l dB_areEquivalent_364 ?_
          refine xs_iload dB_areEquivalent_365 rfl ?_
          refine xs_i2l dB_areEquivalent_367 ?_
          refine xs_cS_i (As := [_, _]) dB_areEquivalent_368 lkB_144 (k_B_areLike hb hk) rfl rfl (Nat.le_of_ble_eq_true rfl) ⟨by decide, by decide⟩ ⟨by omega, by omega⟩ ?_
          refine xs_ifb_eq dB_areEquivalent_371 (fun h371 => ?_) (fun h371 => ?_)
          · refine xs_iconst (v := 0) dB_areEquivalent_389 (by decide) ?_
            exact xs_iret dB_areEquivalent_390 rfl rfl (by omega) (by omega) ⟨(by clear hE; first | (simp [bI, *]; done) | simp_all [bI]), rfl, rfl⟩
          refine xs_iload_n dB_areEquivalent_374 rfl ?_
          refine xs_i2l dB_areEquivalent_375 ?_
          refine xs_iload dB_areEquivalent_376 rfl ?_
          refine xs_i2l dB_areEquivalent_378 ?_
          refine xs_cS_i (As := [_, _]) dB_areEquivalent_379 lkB_144 (k_B_areLike hc hh) rfl rfl (Nat.le_of_ble_eq_true rfl) ⟨by decide, by decide⟩ ⟨by omega, by omega⟩ ?_
          refine xs_ifb_eq dB_areEquivalent_382 (fun h382 => ?_) (fun h382 => ?_)
          · refine xs_iconst (v := 0) dB_areEquivalent_389 (by decide) ?_
            exact xs_iret dB_areEquivalent_390 rfl rfl (by omega) (by omega) ⟨(by clear hE; first | (simp [bI, *]; done) | simp_all [bI]), rfl, rfl⟩
          refine xs_iconst (v := 1) dB_areEquivalent_385 (by decide) ?_
          refine xs_goto dB_areEquivalent_386 ?_
          exact xs_iret dB_areEquivalent_390 rfl rfl (by omega) (by omega) ⟨(by clear hE; first | (simp [bI, *]; done) | simp_all [bI]), rfl, rfl⟩
        refine xs_iload_n dB_areEquivalent_352 rfl ?_
        refine xs_i2l dB_areEquivalent_353 ?_
        refine xs_iload dB_areEquivalent_354 rfl ?_
        refine xs_i2l dB_areEquivalent_356 ?_
        refine xs_cS_i (As := [_, _]) dB_areEquivalent_357 lkB_144 (k_B_areLike hc hk) rfl rfl (Nat.le_of_ble_eq_true rfl) ⟨by decide, by decide⟩ ⟨by omega, by omega⟩ ?_
        refine xs_ifb_ne dB_areEquivalent_360 (fun h360 => ?_) (fun h360 => ?_)
        · refine xs_iconst (v := 1) dB_areEquivalent_385 (by decide) ?_
          refine xs_goto dB_areEquivalent_386 ?_
          exact xs_iret dB_areEquivalent_390 rfl rfl (by omega) (by omega) ⟨(by clear hE; first | (simp [bI, *]; done) | simp_all [bI]), rfl, rfl⟩
        refine xs_iload_n dB_areEquivalent_363 rfl ?_
        refine xs_i2l dB_areEquivalent_364 ?_
        refine xs_iload dB_areEquivalent_365 rfl ?_
        refine xs_i2l dB_areEquivalent_367 ?_
        refine xs_cS_i (As := [_, _]) dB_areEquivalent_368 lkB_144 (k_B_areLike hb hk) rfl rfl (Nat.le_of_ble_eq_true rfl) ⟨by decide, by decide⟩ ⟨by omega, by omega⟩ ?_
        refine xs_ifb_eq dB_areEquivalent_371 (fun h371 => ?_) (fun h371 => ?_)
        · refine xs_iconst (v := 0) dB_areEquivalent_389 (by decide) ?_
          exact xs_iret dB_areEquivalent_390 rfl rfl (by omega) (by omega) ⟨(by clear hE; first | (simp [bI, *]; done) | simp_all [bI]), rfl, rfl⟩
        refine xs_iload_n dB_areEquivalent_374 rfl ?_
        refine xs_i2l dB_areEquivalent_375 ?_
        refine xs_iload dB_areEquivalent_376 rfl ?_
        refine xs_i2l dB_areEquivalent_378 ?_
        refine xs_cS_i (As := [_, _]) dB_areEquivalent_379 lkB_144 (k_B_areLike hc hh) rfl rfl (Nat.le_of_ble_eq_true rfl) ⟨by decide, by decide⟩ ⟨by omega, by omega⟩ ?_
        refine xs_ifb_eq dB_areEquivalent_382 (fun h382 => ?_) (fun h382 => ?_)
        · refine xs_iconst (v := 0) dB_areEquivalent_389 (by decide) ?_
          exact xs_iret dB_areEquivalent_390 rfl rfl (by omega) (by omega) ⟨(by clear hE; first | (simp [bI, *]; done) | simp_all [bI]), rfl, rfl⟩
        refine xs_iconst (v := 1) dB_areEquivalent_385 (by decide) ?_
        refine xs_goto dB_areEquivalent_386 ?_
        exact xs_iret dB_areEquivalent_390 rfl rfl (by omega) (by omega) ⟨(by clear hE; first | (simp [bI, *]; done) | simp_all [bI]), rfl, rfl⟩
      refine xs_iload_n dB_areEquivalent_319 rfl ?_
      refine xs_i2l dB_areEquivalent_320 ?_
      refine xs_iload dB_areEquivalent_321 rfl ?_
      refine xs_i2l dB_areEquivalent_323 ?_
      refine xs_cS_i (As := [_, _]) dB_areEquivalent_324 lkB_144 (k_B_areLike hc hh) rfl rfl (Nat.le_of_ble_eq_true rfl) ⟨by decide, by decide⟩ ⟨by omega, by omega⟩ ?_
      refine xs_ifb_ne dB_areEquivalent_327 (fun h327 => ?_) (fun h327 => ?_)
      · refine xs_iconst (v := 1) dB_areEquivalent_385 (by decide) ?_
        refine xs_goto dB_areEquivalent_386 ?_
        exact xs_iret dB_areEquivalent_390 rfl rfl (by omega) (by omega) ⟨(by clear hE; first | (simp [bI, *]; done) | simp_all [bI]), rfl, rfl⟩
      refine xs_iload_n dB_areEquivalent_330 rfl ?_
      refine xs_i2l dB_areEquivalent_331 ?_
      refine xs_iload dB_areEquivalent_332 rfl ?_
      refine xs_i2l dB_areEquivalent_334 ?_
      refine xs_cS_i (As := [_, _]) dB_areEquivalent_335 lkB_144 (k_B_areLike ha hl) rfl rfl (Nat.le_of_ble_eq_true rfl) ⟨by decide, by decide⟩ ⟨by omega, by omega⟩ ?_
      refine xs_ifb_eq dB_areEquivalent_338 (fun h338 => ?_) (fun h338 => ?_)
      · refine xs_iconst (v := 0) dB_areEquivalent_389 (by decide) ?_
        exact xs_iret dB_areEquivalent_390 rfl rfl (by omega) (by omega) ⟨(by clear hE; first | (simp [bI, *]; done) | simp_all [bI]), rfl, rfl⟩
      refine xs_iload_n dB_areEquivalent_341 rfl ?_
      refine xs_i2l dB_areEquivalent_342 ?_
      refine xs_iload dB_areEquivalent_343 rfl ?_
      refine xs_i2l dB_areEquivalent_345 ?_
      refine xs_cS_i (As := [_, _]) dB_areEquivalent_346 lkB_144 (k_B_areLike hb hh) rfl rfl (Nat.le_of_ble_eq_true rfl) ⟨by decide, by decide⟩ ⟨by omega, by omega⟩ ?_
      refine xs_ifb_eq dB_areEquivalent_349 (fun h349 => ?_) (fun h349 => ?_)
      · refine xs_iload_n dB_areEquivalent_363 rfl ?_
        refine xs_i2l dB_areEquivalent_364 ?_
        refine xs_iload dB_areEquivalent_365 rfl ?_
        refine xs_i2l dB_areEquivalent_367 ?_
        refine xs_cS_i (As := [_, _]) dB_areEquivalent_368 lkB_144 (k_B_areLike hb hk) rfl rfl (Nat.le_of_ble_eq_true rfl) ⟨by decide, by decide⟩ ⟨by omega, by omega⟩ ?_
        refine xs_ifb_eq dB_areEquivalent_371 (fun h371 => ?_) (fun h371 => ?_)
        · refine xs_iconst (v := 0) dB_areEquivalent_389 (by decide) ?_
          exact xs_iret dB_areEquivalent_390 rfl rfl (by omega) (by omega) ⟨(by clear hE; first | (simp [bI, *]; done) | simp_all [bI]), rfl, rfl⟩
        refine xs_iload_n dB_areEquivalent_374 rfl ?_
        refine xs_i2l dB_areEquivalent_375 ?_
        refine xs_iload dB_areEquivalent_376 rfl ?_
        refine xs_i2l dB_areEquivalent_378 ?_
        refine xs_cS_i (As := [_, _]) dB_areEquivalent_379 lkB_144 (k_B_areLike hc hh) rfl rfl (Nat.le_of_ble_eq_true rfl) ⟨by decide, by decide⟩ ⟨by omega, by omega⟩ ?_
        refine xs_ifb_eq dB_areEquivalent_382 (fun h382 => ?_) (fun h382 => ?_)
        · refine xs_iconst (v := 0) dB_areEquivalent_389 (by decide) ?_
          exact xs_iret dB_areEquivalent_390 rfl rfl (by omega) (by omega) ⟨(by clear hE; first | (simp [bI, *]; done) | simp_all [bI]), rfl, rfl⟩
        refine xs_iconst (v := 1) dB_areEquivalent_385 (by decide) ?_
        refine xs_goto dB_areEquivalent_386 ?_
        exact xs_iret dB_areEquivalent_390 rfl rfl (by omega) (by omega) ⟨(by clear hE; first | (simp [bI, *]; done) | simp_all [bI]), rfl, rfl⟩
      refine xs_iload_n dB_areEquivalent_352 rfl ?_
      refine xs_i2l dB_areEquivalent_353 ?_
      refine xs_iload dB_areEquivalent_354 rfl ?_
      refine xs_i2l dB_areEquivalent_356 ?_
      refine xs_cS_i (As := [_, _]) dB_areEquivalent_357 lkB_144 (k_B_areLike hc hk) rfl rfl (Nat.le_of_ble_eq_true rfl) ⟨by decide, by decide⟩ ⟨by omega, by omega⟩ ?_
      refine xs_ifb_ne dB_areEquivalent_360 (fun h360 => ?_) (fun h360 => ?_)
      · refine xs_iconst (v := 1) dB_areEquivalent_385 (by decide) ?_
        refine xs_goto dB_areEquivalent_386 ?_
        exact xs_iret dB_areEquivalent_390 rfl rfl (by omega) (by omega) ⟨(by clear hE; first | (simp [bI, *]; done) | simp_all [bI]), rfl, rfl⟩
      refine xs_iload_n dB_areEquivalent_363 rfl ?_
      refine xs_i2l dB_areEquivalent_364 ?_
      refine xs_iload dB_areEquivalent_365 rfl ?_
      refine xs_i2l dB_areEquivalent_367 ?_
      refine xs_cS_i (As := [_, _]) dB_areEquivalent_368 lkB_144 (k_B_areLike hb hk) rfl rfl (Nat.le_of_ble_eq_true rfl) ⟨by decide, by decide⟩ ⟨by omega, by omega⟩ ?_
      refine xs_ifb_eq dB_areEquivalent_371 (fun h371 => ?_) (fun h371 => ?_)
      · refine xs_iconst (v := 0) dB_areEquivalent_389 (by decide) ?_
        exact xs_iret dB_areEquivalent_390 rfl rfl (by omega) (by omega) ⟨(by clear hE; first | (simp [bI, *]; done) | simp_all [bI]), rfl, rfl⟩
      refine xs_iload_n dB_areEquivalent_374 rfl ?_
      refine xs_i2l dB_areEquivalent_375 ?_
      refine xs_iload dB_areEquivalent_376 rfl ?_
      refine xs_i2l dB_areEquivalent_378 ?_
      refine xs_cS_i (As := [_, _]) dB_areEquivalent_379 lkB_144 (k_B_areLike hc hh) rfl rfl (Nat.le_of_ble_eq_true rfl) ⟨by decide, by decide⟩ ⟨by omega, by omega⟩ ?_
      refine xs_ifb_eq dB_areEquivalent_382 (fun h382 => ?_) (fun h382 => ?_)
      · refine xs_iconst (v := 0) dB_areEquivalent_389 (by decide) ?_
        exact xs_iret dB_areEquivalent_390 rfl rfl (by omega) (by omega) ⟨(by clear hE; first | (simp [bI, *]; done) | simp_all [bI]), rfl, rfl⟩
      refine xs_iconst (v := 1) dB_areEquivalent_385 (by decide) ?_
      refine xs_goto dB_areEquivalent_386 ?_
      exact xs_iret dB_areEquivalent_390 rfl rfl (by omega) (by omega) ⟨(by clear hE; first | (simp [bI, *]; done) | simp_all [bI]), rfl, rfl⟩
    refine xs_iload_n dB_areEquivalent_242 rfl ?_
    refine xs_i2l dB_areEquivalent_243 ?_
    refine xs_iload dB_areEquivalent_244 rfl ?_
    refine xs_i2l dB_areEquivalent_246 ?_
    refine xs_cS_i (As := [_, _]) dB_areEquivalent_247 lkB_144 (k_B_areLike hc hl) rfl rfl (Nat.le_of_ble_eq_true rfl) ⟨by decide, by decide⟩ ⟨by omega, by omega⟩ ?_
    refine xs_ifb_ne dB_areEquivalent_250 (fun h250 => ?_) (fun h250 => ?_)
    · refine xs_iconst (v := 1) dB_areEquivalent_385 (by decide) ?_
      refine xs_goto dB_areEquivalent_386 ?_
      exact xs_iret dB_areEquivalent_390 rfl rfl (by omega) (by omega) ⟨(by clear hE; first | (simp [bI, *]; done) | simp_all [bI]), rfl, rfl⟩
    refine xs_iload_n dB_areEquivalent_253 rfl ?_
    refine xs_i2l dB_areEquivalent_254 ?_
    refine xs_iload dB_areEquivalent_255 rfl ?_
    refine xs_i2l dB_areEquivalent_257 ?_
    refine xs_cS_i (As := [_, _]) dB_areEquivalent_258 lkB_144 (k_B_areLike hb hl) rfl rfl (Nat.le_of_ble_eq_true rfl) ⟨by decide, by decide⟩ ⟨by omega, by omega⟩ ?_
    refine xs_ifb_eq dB_areEquivalent_261 (fun h261 => ?_) (fun h261 => ?_)
    · refine xs_iload_n dB_areEquivalent_275 rfl ?_
      refine xs_i2l dB_areEquivalent_276 ?_
      refine xs_iload dB_areEquivalent_277 rfl ?_
      refine xs_i2l dB_areEquivalent_279 ?_
      refine xs_cS_i (As := [_, _]) dB_areEquivalent_280 lkB_144 (k_B_areLike ha hk) rfl rfl (Nat.le_of_ble_eq_true rfl) ⟨by decide, by decide⟩ ⟨by omega, by omega⟩ ?_
      refine xs_ifb_eq dB_areEquivalent_283 (fun h283 => ?_) (fun h283 => ?_)
      · refine xs_iload_n dB_areEquivalent_330 rfl ?_
        refine xs_i2l dB_areEquivalent_331 ?_
        refine xs_iload dB_areEquivalent_332 rfl ?_
        refine xs_i2l dB_areEquivalent_334 ?_
        refine xs_cS_i (As := [_, _]) dB_areEquivalent_335 lkB_144 (k_B_areLike ha hl) rfl rfl (Nat.le_of_ble_eq_true rfl) ⟨by decide, by decide⟩ ⟨by omega, by omega⟩ ?_
        refine xs_ifb_eq dB_areEquivalent_338 (fun h338 => ?_) (fun h338 => ?_)
        · refine xs_iconst (v := 0) dB_areEquivalent_389 (by decide) ?_
          exact xs_iret dB_areEquivalent_390 rfl rfl (by omega) (by omega) ⟨(by clear hE; first | (simp [bI, *]; done) | simp_all [bI]), rfl, rfl⟩
        refine xs_iload_n dB_areEquivalent_341 rfl ?_
        refine xs_i2l dB_areEquivalent_342 ?_
        refine xs_iload dB_areEquivalent_343 rfl ?_
        refine xs_i2l dB_areEquivalent_345 ?_
        refine xs_cS_i (As := [_, _]) dB_areEquivalent_346 lkB_144 (k_B_areLike hb hh) rfl rfl (Nat.le_of_ble_eq_true rfl) ⟨by decide, by decide⟩ ⟨by omega, by omega⟩ ?_
        refine xs_ifb_eq dB_areEquivalent_349 (fun h349 => ?_) (fun h349 => ?_)
        · refine xs_iload_n dB_areEquivalent_363 rfl ?_
          refine xs_i2l dB_areEquivalent_364 ?_
          refine xs_iload dB_areEquivalent_365 rfl ?_
          refine xs_i2l dB_areEquivalent_367 ?_
          refine xs_cS_i (As := [_, _]) dB_areEquivalent_368 lkB_144 (k_B_areLike hb hk) rfl rfl (Nat.le_of_ble_eq_true rfl) ⟨by decide, by decide⟩ ⟨by omega, by omega⟩ ?_
          refine xs_ifb_eq dB_areEquivalent_371 (fun h371 => ?_) (fun h371 => ?_)
          · refine xs_iconst (v := 0) dB_areEquivalent_389 (by decide) ?_
            exact xs_iret dB_areEquivalent_390 rfl rfl (by omega) (by omega) ⟨(by clear hE; first | (simp [bI, *]; done) | simp_all [bI]), rfl, rfl⟩
          refine xs_iload_n dB_areEquivalent_374 rfl ?_
          refine xs_i2l dB_areEquivalent_375 ?_
          refine xs_iload dB_areEquivalent_376 rfl ?_
          refine xs_i2l dB_areEquivalent_378 ?_
          refine xs_cS_i (As := [_, _]) dB_areEquivalent_379 lkB_144 (k_B_areLike hc hh) rfl rfl (Nat.le_of_ble_eq_true rfl) ⟨by decide, by decide⟩ ⟨by omega, by omega⟩ ?_
          refine xs_ifb_eq dB_areEquivalent_382 (fun h382 => ?_) (fun h382 => ?_)
          · refine xs_iconst (v := 0) dB_areEquivalent_389 (by decide) ?_
            exact xs_iret dB_areEquivalent_390 rfl rfl (by omega) (by omega) ⟨(by clear hE; first | (simp [bI, *]; done) | simp_all [bI]), rfl, rfl⟩
          refine xs_iconst (v := 1) dB_areEquivalent_385 (by decide) ?_
          refine xs_goto dB_areEquivalent_386 ?_
          exact xs_iret dB_areEquivalent_390 rfl rfl (by omega) (by omega) ⟨(by clear hE; first | (simp [bI, *]; done) | simp_all [bI]), rfl, rfl⟩
        refine xs_iload_n dB_areEquivalent_352 rfl ?_
        refine xs_i2l dB_areEquivalent_353 ?_
        refine xs_iload dB_areEquivalent_354 rfl ?_
        refine xs_i2l dB_areEquivalent_356 ?_
        refine xs_cS_i (As := [_, _]) dB_areEquivalent_357 lkB_144 (k_B_areLike hc hk) rfl rfl (Nat.le_of_ble_eq_true rfl) ⟨by decide, by decide⟩ ⟨by omega, by omega⟩ ?_
        refine xs_ifb_ne dB_areEquivalent_360 (fun h360 => ?_) (fun h360 => ?_)
        · refine xs_iconst (v := 1) dB_areEquivalent_385 (by decide) ?_
          refine xs_goto dB_areEquivalent_386 ?_
          exact xs_iret dB_areEquivalent_390 rfl rfl (by omega) (by omega) ⟨(by clear hE; first | (simp [bI, *]; done) | simp_all [bI]), rfl, rfl⟩
        refine xs_iload_n dB_areEquivalent_363 rfl ?_
        refine xs_i2l dB_areEquivalent_364 ?_
        refine xs_iload dB_areEquivalent_365 rfl ?_
        refine xs_i2l dB_areEquivalent_367 ?_
        refine xs_cS_i (As := [_, _]) dB_areEquivalent_368 lkB_144 (k_B_areLike hb hk) rfl rfl (Nat.le_of_ble_eq_true rfl) ⟨by decide, by decide⟩ ⟨by omega, by omega⟩ ?_
        refine xs_ifb_eq dB_areEquivalent_371 (fun h371 => ?_) (fun h371 => ?_)
        · refine xs_iconst (v := 0) dB_areEquivalent_389 (by decide) ?_
          exact xs_iret dB_areEquivalent_390 rfl rfl (by omega) (by omega) ⟨(by clear hE; first | (simp [bI, *]; done) | simp_all [bI]), rfl, rfl⟩
        refine xs_iload_n dB_areEquivalent_374 rfl ?_
        refine xs_i2l dB_areEquivalent_375 ?_
        refine xs_iload dB_areEquivalent_376 rfl ?_
        refine xs_i2l dB_areEquivalent_378 ?_
        refine xs_cS_i (As := [_, _]) dB_areEquivalent_379 lkB_144 (k_B_areLike hc hh) rfl rfl (Nat.le_of_ble_eq_true rfl) ⟨by decide, by decide⟩ ⟨by omega, by omega⟩ ?_
        refine xs_ifb_eq dB_areEquivalent_382 (fun h382 => ?_) (fun h382 => ?_)
        · refine xs_iconst (v := 0) dB_areEquivalent_389 (by decide) ?_
          exact xs_iret dB_areEquivalent_390 rfl rfl (by omega) (by omega) ⟨(by clear hE; first | (simp [bI, *]; done) | simp_all [bI]), rfl, rfl⟩
        refine xs_iconst (v := 1) dB_areEquivalent_385 (by decide) ?_
        refine xs_goto dB_areEquivalent_386 ?_
        exact xs_iret dB_areEquivalent_390 rfl rfl (by omega) (by omega) ⟨(by clear hE; first | (simp [bI, *]; done) | simp_all [bI]), rfl, rfl⟩
      refine xs_iload_n dB_areEquivalent_286 rfl ?_
      refine xs_i2l dB_areEquivalent_287 ?_
      refine xs_iload dB_areEquivalent_288 rfl ?_
      refine xs_i2l dB_areEquivalent_290 ?_
      refine xs_cS_i (As := [_, _]) dB_areEquivalent_291 lkB_144 (k_B_areLike hb hh) rfl rfl (Nat.le_of_ble_eq_true rfl) ⟨by decide, by decide⟩ ⟨by omega, by omega⟩ ?_
      refine xs_ifb_eq dB_areEquivalent_294 (fun h294 => ?_) (fun h294 => ?_)
      · refine xs_iload_n dB_areEquivalent_308 rfl ?_
        refine xs_i2l dB_areEquivalent_309 ?_
        refine xs_iload dB_areEquivalent_310 rfl ?_
        refine xs_i2l dB_areEquivalent_312 ?_
        refine xs_cS_i (As := [_, _]) dB_areEquivalent_313 lkB_144 (k_B_areLike hb hl) rfl rfl (Nat.le_of_ble_eq_true rfl) ⟨by decide, by decide⟩ ⟨by omega, by omega⟩ ?_
        refine xs_ifb_eq dB_areEquivalent_316 (fun h316 => ?_) (fun h316 => ?_)
        · refine xs_iload_n dB_areEquivalent_330 rfl ?_
          refine xs_i2l dB_areEquivalent_331 ?_
          refine xs_iload dB_areEquivalent_332 rfl ?_
          refine xs_i2l dB_areEquivalent_334 ?_
          refine xs_cS_i (As := [_, _]) dB_areEquivalent_335 lkB_144 (k_B_areLike ha hl) rfl rfl (Nat.le_of_ble_eq_true rfl) ⟨by decide, by decide⟩ ⟨by omega, by omega⟩ ?_
          refine xs_ifb_eq dB_areEquivalent_338 (fun h338 => ?_) (fun h338 => ?_)
          · refine xs_iconst (v := 0) dB_areEquivalent_389 (by decide) ?_
            exact xs_iret dB_areEquivalent_390 rfl rfl (by omega) (by omega) ⟨(by clear hE; first | (simp [bI, *]; done) | simp_all [bI]), rfl, rfl⟩
          refine xs_iload_n dB_areEquivalent_341 rfl ?_
          refine xs_i2l dB_areEquivalent_342 ?_
          refine xs_iload dB_areEquivalent_343 rfl ?_
          refine xs_i2l dB_areEquivalent_345 ?_
          refine xs_cS_i (As := [_, _]) dB_areEquivalent_346 lkB_144 (k_B_areLike hb hh) rfl rfl (Nat.le_of_ble_eq_true rfl) ⟨by decide, by decide⟩ ⟨by omega, by omega⟩ ?_
          refine xs_ifb_eq dB_areEquivalent_349 (fun h349 => ?_) (fun h349 => ?_)
          · refine xs_iload_n dB_areEquivalent_363 rfl ?_
            refine xs_i2l dB_areEquivalent_364 ?_
            refine xs_iload dB_areEquivalent_365 rfl ?_
            refine xs_i2l dB_areEquivalent_367 ?_
            refine xs_cS_i (As := [_, _]) dB_areEquivalent_368 lkB_144 (k_B_areLike hb hk) rfl rfl (Nat.le_of_ble_eq_true rfl) ⟨by decide, by decide⟩ ⟨by omega, by omega⟩ ?_
            refine xs_ifb_eq dB_areEquivalent_371 (fun h371 => ?_) (fun h371 => ?_)
            · refine xs_iconst (v := 0) dB_areEquivalent_389 (by decide) ?_
              exact xs_iret dB_areEquivalent_390 rfl rfl (by omega) (by omega) ⟨(by clear hE; first | (simp [bI, *]; done) | simp_all [bI]), rfl, rfl⟩
            refine xs_iload_n dB_areEquivalent_374 rfl ?_
            refine xs_i2l dB_areEquivalent_375 ?_
            refine xs_iload dB_areEquivalent_376 rfl ?_
            refine xs_i2l dB_areEquivalent_378 ?_
            refine xs_cS_i (As := [_, _]) dB_areEquivalent_379 lkB_144 (k_B_areLike hc hh) rfl rfl (Nat.le_of_ble_eq_true rfl) ⟨by decide, by decide⟩ ⟨by omega, by omega⟩ ?_
            refine xs_ifb_eq dB_areEquivalent_382 (fun h382 => ?_) (fun h382 => ?_)
            · refine xs_iconst (v := 0) dB_areEquivalent_389 (by decide) ?_
              exact xs_iret dB_areEquivalent_390 rfl rfl (by omega) (by omega) ⟨(by clear hE; first | (simp [bI, *]; done) | simp_all [bI]), rfl, rfl⟩
            refine xs_iconst (v := 1) dB_areEquivalent_385 (by decide) ?_
            refine xs_goto dB_areEquivalent_386 ?_
            exact xs_iret dB_areEquivalent_390 rfl rfl (by omega) (by omega) ⟨(by clear hE; first | (simp [bI, *]; done) | simp_all [bI]), rfl, rfl⟩
          refine xs_iload_n dB_areEquivalent_352 rfl ?_
          refine xs_i2l dB_areEquivalent_353 ?_
          refine xs_iload dB_areEquivalent_354 rfl ?_
          refine xs_i2l dB_areEquivalent_356 ?_
          refine xs_cS_i (As := [_, _]) dB_areEquivalent_357 lkB_144 (k_B_areLike hc hk) rfl rfl (Nat.le_of_ble_eq_true rfl) ⟨by decide, by decide⟩ ⟨by omega, by omega⟩ ?_
          refine xs_ifb_ne dB_areEquivalent_360 (fun h360 => ?_) (fun h360 => ?_)
          · refine xs_iconst (v := 1) dB_areEquivalent_385 (by decide) ?_
            refine xs_goto dB_areEquivalent_386 ?_
            exact xs_iret dB_areEquivalent_390 rfl rfl (by omega) (by omega) ⟨(by clear hE; first | (simp [bI, *]; done) | simp_all [bI]), rfl, rfl⟩
          refine xs_iload_n dB_areEquivalent_363 rfl ?_
          refine xs_i2l dB_areEquivalent_364 ?_
          refine xs_iload dB_areEquivalent_365 rfl ?_
          refine xs_i2l dB_areEquivalent_367 ?_
          refine xs_cS_i (As := [_, _]) dB_areEquivalent_368 lkB_144 (k_B_areLike hb hk) rfl rfl (Nat.le_of_ble_eq_true rfl) ⟨by decide, by decide⟩ ⟨by omega, by omega⟩ ?_
          refine xs_ifb_eq dB_areEquivalent_371 (fun h371 => ?_) (fun h371 => ?_)
          · refine xs_iconst (v := 0) dB_areEquivalent_389 (by decide) ?_
            exact xs_iret dB_areEquivalent_390 rfl rfl (by omega) (by omega) ⟨(by clear hE; first | (simp [bI, *]; done) | simp_all [bI]), rfl, rfl⟩
          refine xs_iload_n dB_areEquivalent_374 rfl ?_
          refine xs_i2l dB_areEquivalent_375 ?_
          refine xs_iload dB_areEquivalent_376 rfl ?_
          refine xs_i2l dB_areEquivalent_378 ?_
          refine xs_cS_i (As := [_, _]) dB_areEquivalent_379 lkB_144 (k_B_areLike hc hh) rfl rfl (Nat.le_of_ble_eq_true rfl) ⟨by decide, by decide⟩ ⟨by omega, by omega⟩ ?_
          refine xs_ifb_eq dB_areEquivalent_382 (fun h382 => ?_) (fun h382 => ?_)
          · refine xs_iconst (v := 0) dB_areEquivalent_389 (by decide) ?_
            exact xs_iret dB_areEquivalent_390 rfl rfl (by omega) (by omega) ⟨(by clear hE; first | (simp [bI, *]; done) | simp_all [bI]), rfl, rfl⟩
          refine xs_iconst (v := 1) dB_areEquivalent_385 (by decide) ?_
          refine xs_goto dB_areEquivalent_386 ?_
          exact xs_iret dB_areEquivalent_390 rfl rfl (by omega) (by omega) ⟨(by clear hE; first | (simp [bI, *]; done) | simp_all [bI]), rfl, rfl⟩
        refine xs_iload_n dB_areEquivalent_319 rfl ?_
        refine xs_i2l dB_areEquivalent_320 ?_
        refine xs_iload dB_areEquivalent_321 rfl ?_
        refine xs_i2l dB_areEquivalent_323 ?_
        refine xs_cS_i (As := [_, _]) dB_areEquivalent_324 lkB_144 (k_B_areLike hc hh) rfl rfl (Nat.le_of_ble_eq_true rfl) ⟨by decide, by decide⟩ ⟨by omega, by omega⟩ ?_
        refine xs_ifb_ne dB_areEquivalent_327 (fun h327 => ?_) (fun h327 => ?_)
        · refine xs_iconst (v := 1) dB_areEquivalent_385 (by decide) ?_
          refine xs_goto dB_areEquivalent_386 ?_
          exact xs_iret dB_areEquivalent_390 rfl rfl (by omega) (by omega) ⟨(by clear hE; first | (simp [bI, *]; done) | simp_all [bI]), rfl, rfl⟩
        refine xs_iload_n dB_areEquivalent_330 rfl ?_
        refine xs_i2l dB_areEquivalent_331 ?_
        refine xs_iload dB_areEquivalent_332 rfl ?_
        refine xs_i2l dB_areEquivalent_334 ?_
        refine xs_cS_i (As := [_, _]) dB_areEquivalent_335 lkB_144 (k_B_areLike ha hl) rfl rfl (Nat.le_of_ble_eq_true rfl) ⟨by decide, by decide⟩ ⟨by omega, by omega⟩ ?_
        refine xs_ifb_eq dB_areEquivalent_338 (fun h338 => ?_) (fun h338 => ?_)
        · refine xs_iconst (v := 0) dB_areEquivalent_389 (by decide) ?_
          exact xs_iret dB_areEquivalent_390 rfl rfl (by omega) (by omega) ⟨(by clear hE; first | (simp [bI, *]; done) | simp_all [bI]), rfl, rfl⟩
        refine xs_iload_n dB_areEquivalent_341 rfl ?_
        refine xs_i2l dB_areEquivalent_342 ?_
        refine xs_iload dB_areEquivalent_343 rfl ?_
        refine xs_i2l dB_areEquivalent_345 ?_
        refine xs_cS_i (As := [_, _]) dB_areEquivalent_346 lkB_144 (k_B_areLike hb hh) rfl rfl (Nat.le_of_ble_eq_true rfl) ⟨by decide, by decide⟩ ⟨by omega, by omega⟩ ?_
        refine xs_ifb_eq dB_areEquivalent_349 (fun h349 => ?_) (fun h349 => ?_)
        · refine xs_iload_n dB_areEquivalent_363 rfl ?_
          refine xs_i2l dB_areEquivalent_364 ?_
          refine xs_iload dB_areEquivalent_365 rfl ?_
          refine xs_i2l dB_areEquivalent_367 ?_
          refine xs_cS_i (As := [_, _]) dB_areEquivalent_368 lkB_144 (k_B_areLike hb hk) rfl rfl (Nat.le_of_ble_eq_true rfl) ⟨by decide, by decide⟩ ⟨by omega, by omega⟩ ?_
          refine xs_ifb_eq dB_areEquivalent_371 (fun h371 => ?_) (fun h371 => ?_)
          · refine xs_iconst (v := 0) dB_areEquivalent_389 (by decide) ?_
            exact xs_iret dB_areEquivalent_390 rfl rfl (by omega) (by omega) ⟨(by clear hE; first | (simp [bI, *]; done) | simp_all [bI]), rfl, rfl⟩
          refine xs_iload_n dB_areEquivalent_374 rfl ?_
          refine xs_i2l dB_areEquivalent_375 ?_
          refine xs_iload dB_areEquivalent_376 rfl ?_
          refine xs_i2l dB_areEquivalent_378 ?_
          refine xs_cS_i (As := [_, _]) dB_areEquivalent_379 lkB_144 (k_B_areLike hc hh) rfl rfl (Nat.le_of_ble_eq_true rfl) ⟨by decide, by decide⟩ ⟨by omega, by omega⟩ ?_
          refine xs_ifb_eq dB_areEquivalent_382 (fun h382 => ?_) (fun h382 => ?_)
          · refine xs_iconst (v := 0) dB_areEquivalent_389 (by decide) ?_
            exact xs_iret dB_areEquivalent_390 rfl rfl (by omega) (by omega) ⟨(by clear hE; first | (simp [bI, *]; done) | simp_all [bI]), rfl, rfl⟩
          refine xs_iconst (v := 1) dB_areEquivalent_385 (by decide) ?_
          refine xs_goto dB_areEquivalent_386 ?_
          exact xs_iret dB_areEquivalent_390 rfl rfl (by omega) (by omega) ⟨(by clear hE; first | (simp [bI, *]; done) | simp_all [bI]), rfl, rfl⟩
        refine xs_iload_n dB_areEquivalent_352 rfl ?_
        refine xs_i2l dB_areEquivalent_353 ?_
        refine xs_iload dB_areEquivalent_354 rfl ?_
        refine xs_i2l dB_areEquivalent_356 ?_
        refine xs_cS_i (As := [_, _]) dB_areEquivalent_357 lkB_144 (k_B_areLike hc hk) rfl rfl (Nat.le_of_ble_eq_true rfl) ⟨by decide, by decide⟩ ⟨by omega, by omega⟩ ?_
        refine xs_ifb_ne dB_areEquivalent_360 (fun h360 => ?_) (fun h360 => ?_)
        · refine xs_iconst (v := 1) dB_areEquivalent_385 (by decide) ?_
          refine xs_goto dB_areEquivalent_386 ?_
          exact xs_iret dB_areEquivalent_390 rfl rfl (by omega) (by omega) ⟨(by clear hE; first | (simp [bI, *]; done) | simp_all [bI]), rfl, rfl⟩
        refine xs_iload_n dB_areEquivalent_363 rfl ?_
        refine xs_i2l dB_areEquivalent_364 ?_
        refine xs_iload dB_areEquivalent_365 rfl ?_
        refine xs_i2l dB_areEquivalent_367 ?_
        refine xs_cS_i (As := [_, _]) dB_areEquivalent_368 lkB_144 (k_B_areLike hb hk) rfl rfl (Nat.le_of_ble_eq_true rfl) ⟨by decide, by decide⟩ ⟨by omega, by omega⟩ ?_
        refine xs_ifb_eq dB_areEquivalent_371 (fun h371 => ?_) (fun h371 => ?_)
        · refine xs_iconst (v := 0) dB_areEquivalent_389 (by decide) ?_
          exact xs_iret dB_areEquivalent_390 rfl rfl (by omega) (by omega) ⟨(by clear hE; first | (simp [bI, *]; done) | simp_all [bI]), rfl, rfl⟩
        refine xs_iload_n dB_areEquivalent_374 rfl ?_
        refine xs_i2l dB_areEquivalent_375 ?_
        refine xs_iload dB_areEquivalent_376 rfl ?_
        refine xs_i2l dB_areEquivalent_378 ?_
        refine xs_cS_i (As := [_, _]) dB_areEquivalent_379 lkB_144 (k_B_areLike hc hh) rfl rfl (Nat.le_of_ble_eq_true rfl) ⟨by decide, by decide⟩ ⟨by omega, by omega⟩ ?_
        refine xs_ifb_eq dB_areEquivalent_382 (fun h382 => ?_) (fun h382 => ?_)
        · refine xs_iconst (v := 0) dB_areEquivalent_389 (by decide) ?_
          exact xs_iret dB_areEquivalent_390 rfl rfl (by omega) (by omega) ⟨(by clear hE; first | (simp [bI, *]; done) | simp_all [bI]), rfl, rfl⟩
        refine xs_iconst (v := 1) dB_areEquivalent_385 (by decide) ?_
        refine xs_goto dB_areEquivalent_386 ?_
        exact xs_iret dB_areEquivalent_390 rfl rfl (by omega) (by omega) ⟨(by clear hE; first | (simp [bI, *]; done) | simp_all [bI]), rfl, rfl⟩
      refine xs_iload_n dB_areEquivalent_297 rfl ?_
      refine xs_i2l dB_areEquivalent_298 ?_
      refine xs_iload dB_areEquivalent_299 rfl ?_
      refine xs_i2l dB_areEquivalent_301 ?_
      refine xs_cS_i (As := [_, _]) dB_areEquivalent_302 lkB_144 (k_B_areLike hc hl) rfl rfl (Nat.le_of_ble_eq_true rfl) ⟨by decide, by decide⟩ ⟨by omega, by omega⟩ ?_
      refine xs_ifb_ne dB_areEquivalent_305 (fun h305 => ?_) (fun h305 => ?_)
      · refine xs_iconst (v := 1) dB_areEquivalent_385 (by decide) ?_
        refine xs_goto dB_areEquivalent_386 ?_
        exact xs_iret dB_areEquivalent_390 rfl rfl (by omega) (by omega) ⟨(by clear hE; first | (simp [bI, *]; done) | simp_all [bI]), rfl, rfl⟩
      refine xs_iload_n dB_areEquivalent_308 rfl ?_
      refine xs_i2l dB_areEquivalent_309 ?_
      refine xs_iload dB_areEquivalent_310 rfl ?_
      refine xs_i2l dB_areEquivalent_312 ?_
      refine xs_cS_i (As := [_, _]) dB_areEquivalent_313 lkB_144 (k_B_areLike hb hl) rfl rfl (Nat.le_of_ble_eq_true rfl) ⟨by decide, by decide⟩ ⟨by omega, by omega⟩ ?_
      refine xs_ifb_eq dB_areEquivalent_316 (fun h316 => ?_) (fun h316 => ?_)
      · refine xs_iload_n dB_areEquivalent_330 rfl ?_
        refine xs_i2l dB_areEquivalent_331 ?_
        refine xs_iload dB_areEquivalent_332 rfl ?_
        refine xs_i2l dB_areEquivalent_334 ?_
        refine xs_cS_i (As := [_, _]) dB_areEquivalent_335 lkB_144 (k_B_areLike ha hl) rfl rfl (Nat.le_of_ble_eq_true rfl) ⟨by decide, by decide⟩ ⟨by omega, by omega⟩ ?_
        refine xs_ifb_eq dB_areEquivalent_338 (fun h338 => ?_) (fun h338 => ?_)
        · refine xs_iconst (v := 0) dB_areEquivalent_389 (by decide) ?_
          exact xs_iret dB_areEquivalent_390 rfl rfl (by omega) (by omega) ⟨(by clear hE; first | (simp [bI, *]; done) | simp_all [bI]), rfl, rfl⟩
        refine xs_iload_n dB_areEquivalent_341 rfl ?_
        refine xs_i2l dB_areEquivalent_342 ?_
        refine xs_iload dB_areEquivalent_343 rfl ?_
        refine xs_i2l dB_areEquivalent_345 ?_
        refine xs_cS_i (As := [_, _]) dB_areEquivalent_346 lkB_144 (k_B_areLike hb hh) rfl rfl (Nat.le_of_ble_eq_true rfl) ⟨by decide, by decide⟩ ⟨by omega, by omega⟩ ?_
        refine xs_ifb_eq dB_areEquivalent_349 (fun h349 => ?_) (fun h349 => ?_)
        · refine xs_iload_n dB_areEquivalent_363 rfl ?_
          refine xs_i2l dB_areEquivalent_364 ?_
          refine xs_iload dB_areEquivalent_365 rfl ?_
          refine xs_i2l dB_areEquivalent_367 ?_
          refine xs_cS_i (As := [_, _]) dB_areEquivalent_368 lkB_144 (k_B_areLike hb hk) rfl rfl (Nat.le_of_ble_eq_true rfl) ⟨by decide, by decide⟩ ⟨by omega, by omega⟩ ?_
          refine xs_ifb_eq dB_areEquivalent_371 (fun h371 => ?_) (fun h371 => ?_)
          · refine xs_iconst (v := 0) dB_areEquivalent_389 (by decide) ?_
            exact xs_iret dB_areEquivalent_390 rfl rfl (by omega) (by omega) ⟨(by clear hE; first | (simp [bI, *]; done) | simp_all [bI]), rfl, rfl⟩
          refine xs_iload_n dB_areEquivalent_374 rfl ?_
          refine xs_i2l dB_areEquivalent_375 ?_
          refine xs_iload dB_areEquivalent_376 rfl ?_
          refine xs_i2l dB_areEquivalent_378 ?_
          refine xs_cS_i (As := [_, _]) dB_areEquivalent_379 lkB_144 (k_B_areLike hc hh) rfl rfl (Nat.le_of_ble_eq_true rfl) ⟨by decide, by decide⟩ ⟨by omega, by omega⟩ ?_
          refine xs_ifb_eq dB_areEquivalent_382 (fun h382 => ?_) (fun h382 => ?_)
          · refine xs_iconst (v := 0) dB_areEquivalent_389 (by decide) ?_
            exact xs_iret dB_areEquivalent_390 rfl rfl (by omega) (by omega) ⟨(by clear hE; first | (simp [bI, *]; done) | simp_all [bI]), rfl, rfl⟩
          refine xs_iconst (v := 1) dB_areEquivalent_385 (by decide) ?_
          refine xs_goto dB_areEquivalent_386 ?_
          exact xs_iret dB_areEquivalent_390 rfl rfl (by omega) (by omega) ⟨(by clear hE; first | (simp [bI, *]; done) | simp_all [bI]), rfl, rfl⟩
        refine xs_iload_n dB_areEquivalent_352 rfl ?_
        refine xs_i2l dB_areEquivalent_353 ?_
        refine xs_iload dB_areEquivalent_354 rfl ?_
        refine xs_i2l dB_areEquivalent_356 ?_
        refine xs_cS_i (As := [_, _]) dB_areEquivalent_357 lkB_144 (k_B_areLike hc hk) rfl rfl (Nat.le_of_ble_eq_true rfl) ⟨by decide, by decide⟩ ⟨by omega, by omega⟩ ?_
        refine xs_ifb_ne dB_areEquivalent_360 (fun h360 => ?_) (fun h360 => ?_)
        · refine xs_iconst (v := 1) dB_areEquivalent_385 (by decide) ?_
          refine xs_goto dB_areEquivalent_386 ?_
          exact xs_iret dB_areEquivalent_390 rfl rfl (by omega) (by omega) ⟨(by clear hE; first | (simp [bI, *]; done) | simp_all [bI]), rfl, rfl⟩
        refine xs_iload_n dB_areEquivalent_363 rfl ?_
        refine xs_i2l dB_areEquivalent_364 ?_
        refine xs_iload dB_areEquivalent_365 rfl ?_
        refine xs_i2l dB_areEquivalent_367 ?_
        refine xs_cS_i (As := [_, _]) dB_areEquivalent_368 lkB_144 (k_B_areLike hb hk) rfl rfl (Nat.le_of_ble_eq_true rfl) ⟨by decide, by decide⟩ ⟨by omega, by omega⟩ ?_
        refine xs_ifb_eq dB_areEquivalent_371 (fun h371 => ?_) (fun h371 => ?_)
        · refine xs_iconst (v := 0) dB_areEquivalent_389 (by decide) ?_
          exact xs_iret dB_areEquivalent_390 rfl rfl (by omega) (by omega) ⟨(by clear hE; first | (simp [bI, *]; done) | simp_all [bI]), rfl, rfl⟩
        refine xs_iload_n dB_areEquivalent_374 rfl ?_
        refine xs_i2l dB_areEquivalent_375 ?_
        refine xs_iload dB_areEquivalent_376 rfl ?_
        refine xs_i2l dB_areEquivalent_378 ?_
        refine xs_cS_i (As := [_, _]) dB_areEquivalent_379 lkB_144 (k_B_areLike hc hh) rfl rfl (Nat.le_of_ble_eq_true rfl) ⟨by decide, by decide⟩ ⟨by omega, by omega⟩ ?_
        refine xs_ifb_eq dB_areEquivalent_382 (fun h382 => ?_) (fun h382 => ?_)
        · refine xs_iconst (v := 0) dB_areEquivalent_389 (by decide) ?_
          exact xs_iret dB_areEquivalent_390 rfl rfl (by omega) (by omega) ⟨(by clear hE; first | (simp [bI, *]; done) | simp_all [bI]), rfl, rfl⟩
        refine xs_iconst (v := 1) dB_areEquivalent_385 (by decide) ?_
        refine xs_goto dB_areEquivalent_386 ?_
        exact xs_iret dB_areEquivalent_390 rfl rfl (by omega) (by omega) ⟨(by clear hE; first | (simp [bI, *]; done) | simp_all [bI]), rfl, rfl⟩
      refine xs_iload_n dB_areEquivalent_319 rfl ?_
      refine xs_i2l dB_areEquivalent_320 ?_
      refine xs_iload dB_areEquivalent_321 rfl ?_
      refine xs_i2l dB_areEquivalent_323 ?_
      refine xs_cS_i (As := [_, _]) dB_areEquivalent_324 lkB_144 (k_B_areLike hc hh) rfl rfl (Nat.le_of_ble_eq_true rfl) ⟨by decide, by decide⟩ ⟨by omega, by omega⟩ ?_
      refine xs_ifb_ne dB_areEquivalent_327 (fun h327 => ?_) (fun h327 => ?_)
      · refine xs_iconst (v := 1) dB_areEquivalent_385 (by decide) ?_
        refine xs_goto dB_areEquivalent_386 ?_
        exact xs_iret dB_areEquivalent_390 rfl rfl (by omega) (by omega) ⟨(by clear hE; first | (simp [bI, *]; done) | simp_all [bI]), rfl, rfl⟩
      refine xs_iload_n dB_areEquivalent_330 rfl ?_
      refine xs_i2l dB_areEquivalent_331 ?_
      refine xs_iload dB_areEquivalent_332 rfl ?_
      refine xs_i2l dB_areEquivalent_334 ?_
      refine xs_cS_i (As := [_, _]) dB_areEquivalent_335 lkB_144 (k_B_areLike ha hl) rfl rfl (Nat.le_of_ble_eq_true rfl) ⟨by decide, by decide⟩ ⟨by omega, by omega⟩ ?_
      refine xs_ifb_eq dB_areEquivalent_338 (fun h338 => ?_) (fun h338 => ?_)
      · refine xs_iconst (v := 0) dB_areEquivalent_389 (by decide) ?_
        exact xs_iret dB_areEquivalent_390 rfl rfl (by omega) (by omega) ⟨(by clear hE; first | (simp [bI, *]; done) | simp_all [bI]), rfl, rfl⟩
      refine xs_iload_n dB_areEquivalent_341 rfl ?_
      refine xs_i2l dB_areEquivalent_342 ?_
      refine xs_iload dB_areEquivalent_343 rfl ?_
      refine xs_i2l dB_areEquivalent_345 ?_
      refine xs_cS_i (As := [_, _]) dB_areEquivalent_346 lkB_144 (k_B_areLike hb hh) rfl rfl (Nat.le_of_ble_eq_true rfl) ⟨by decide, by decide⟩ ⟨by omega, by omega⟩ ?_
      refine xs_ifb_eq dB_areEquivalent_349 (fun h349 => ?_) (fun h349 => ?_)
      · refine xs_iload_n dB_areEquivalent_363 rfl ?_
        refine xs_i2l dB_areEquivalent_364 ?_
        refine xs_iload dB_areEquivalent_365 rfl ?_
        refine xs_i2l dB_areEquivalent_367 ?_
        refine xs_cS_i (As := [_, _]) dB_areEquivalent_368 lkB_144 (k_B_areLike hb hk) rfl rfl (Nat.le_of_ble_eq_true rfl) ⟨by decide, by decide⟩ ⟨by omega, by omega⟩ ?_
        refine xs_ifb_eq dB_areEquivalent_371 (fun h371 => ?_) (fun h371 => ?_)
        · refine xs_iconst (v := 0) dB_areEquivalent_389 (by decide) ?_
          exact xs_iret dB_areEquivalent_390 rfl rfl (by omega) (by omega) ⟨(by clear hE; first | (simp [bI, *]; done) | simp_all [bI]), rfl, rfl⟩
        refine xs_iload_n dB_areEquivalent_374 rfl ?_
        refine xs_i2l dB_areEquivalent_375 ?_
        refine xs_iload dB_areEquivalent_376 rfl ?_
        refine xs_i2l dB_areEquivalent_378 ?_
        refine xs_cS_i (As := [_, _]) dB_areEquivalent_379 lkB_144 (k_B_areLike hc hh) rfl rfl (Nat.le_of_ble_eq_true rfl) ⟨by decide, by decide⟩ ⟨by omega, by omega⟩ ?_
        refine xs_ifb_eq dB_areEquivalent_382 (fun h382 => ?_) (fun h382 => ?_)
        · refine xs_iconst (v := 0) dB_areEquivalent_389 (by decide) ?_
          exact xs_iret dB_areEquivalent_390 rfl rfl (by omega) (by omega) ⟨(by clear hE; first | (simp [bI, *]; done) | simp_all [bI]), rfl, rfl⟩
        refine xs_iconst (v := 1) dB_areEquivalent_385 (by decide) ?_
        refine xs_goto dB_areEquivalent_386 ?_
        exact xs_iret dB_areEquivalent_390 rfl rfl (by omega) (by omega) ⟨(by clear hE; first | (simp [bI, *]; done) | simp_all [bI]), rfl, rfl⟩
      refine xs_iload_n dB_areEquivalent_352 rfl ?_
      refine xs_i2l dB_areEquivalent_353 ?_
      refine xs_iload dB_areEquivalent_354 rfl ?_
      refine xs_i2l dB_areEquivalent_356 ?_
      refine xs_cS_i (As := [_, _]) dB_areEquivalent_357 lkB_144 (k_B_areLike hc hk) rfl rfl (Nat.le_of_ble_eq_true rfl) ⟨by decide, by decide⟩ ⟨by omega, by omega⟩ ?_
      refine xs_ifb_ne dB_areEquivalent_360 (fun h360 => ?_) (fun h360 => ?_)
      · refine xs_iconst (v := 1) dB_areEquivalent_385 (by decide) ?_
        refine xs_goto dB_areEquivalent_386 ?_
        exact xs_iret dB_areEquivalent_390 rfl rfl (by omega) (by omega) ⟨(by clear hE; first | (simp [bI, *]; done) | simp_all [bI]), rfl, rfl⟩
      refine xs_iload_n dB_areEquivalent_363 rfl ?_
      refine xs_i2l dB_areEquivalent_364 ?_
      refine xs_iload dB_areEquivalent_365 rfl ?_
      refine xs_i2l dB_areEquivalent_367 ?_
      refine xs_cS_i (As := [_, _]) dB_areEquivalent_368 lkB_144 (k_B_areLike hb hk) rfl rfl (Nat.le_of_ble_eq_true rfl) ⟨by decide, by decide⟩ ⟨by omega, by omega⟩ ?_
      refine xs_ifb_eq dB_areEquivalent_371 (fun h371 => ?_) (fun h371 => ?_)
      · refine xs_iconst (v := 0) dB_areEquivalent_389 (by decide) ?_
        exact xs_iret dB_areEquivalent_390 rfl rfl (by omega) (by omega) ⟨(by clear hE; first | (simp [bI, *]; done) | simp_all [bI]), rfl, rfl⟩
      refine xs_iload_n dB_areEquivalent_374 rfl ?_
      refine xs_i2l dB_areEquivalent_375 ?_
      refine xs_iload dB_areEquivalent_376 rfl ?_
      refine xs_i2l dB_areEquivalent_378 ?_
      refine xs_cS_i (As := [_, _]) dB_areEquivalent_379 lkB_144 (k_B_areLike hc hh) rfl rfl (Nat.le_of_ble_eq_true rfl) ⟨by decide, by decide⟩ ⟨by omega, by omega⟩ ?_
      refine xs_ifb_eq dB_areEquivalent_382 (fun h382 => ?_) (fun h382 => ?_)
      · refine xs_iconst (v := 0) dB_areEquivalent_389 (by decide) ?_
        exact xs_iret dB_areEquivalent_390 rfl rfl (by omega) (by omega) ⟨(by clear hE; first | (simp [bI, *]; done) | simp_all [bI]), rfl, rfl⟩
      refine xs_iconst (v := 1) dB_areEquivalent_385 (by decide) ?_
      refine xs_goto dB_areEquivalent_386 ?_
      exact xs_iret dB_areEquivalent_390 rfl rfl (by omega) (by omega) ⟨(by clear hE; first | (simp [bI, *]; done) | simp_all [bI]), rfl, rfl⟩
    refine xs_iload_n dB_areEquivalent_264 rfl ?_
    refine xs_i2l dB_areEquivalent_265 ?_
    refine xs_iload dB_areEquivalent_266 rfl ?_
    refine xs_i2l dB_areEquivalent_268 ?_
    refine xs_cS_i (As := [_, _]) dB_areEquivalent_269 lkB_144 (k_B_areLike hc hk) rfl rfl (Nat.le_of_ble_eq_true rfl) ⟨by decide, by decide⟩ ⟨by omega, by omega⟩ ?_
    refine xs_ifb_ne dB_areEquivalent_272 (fun h272 => ?_) (fun h272 => ?_)
    · refine xs_iconst (v := 1) dB_areEquivalent_385 (by decide) ?_
      refine xs_goto dB_areEquivalent_386 ?_
      exact xs_iret dB_areEquivalent_390 rfl rfl (by omega) (by omega) ⟨(by clear hE; first | (simp [bI, *]; done) | simp_all [bI]), rfl, rfl⟩
    refine xs_iload_n dB_areEquivalent_275 rfl ?_
    refine xs_i2l dB_areEquivalent_276 ?_
    refine xs_iload dB_areEquivalent_277 rfl ?_
    refine xs_i2l dB_areEquivalent_279 ?_
    refine xs_cS_i (As := [_, _]) dB_areEquivalent_280 lkB_144 (k_B_areLike ha hk) rfl rfl (Nat.le_of_ble_eq_true rfl) ⟨by decide, by decide⟩ ⟨by omega, by omega⟩ ?_
    refine xs_ifb_eq dB_areEquivalent_283 (fun h283 => ?_) (fun h283 => ?_)
    · refine xs_iload_n dB_areEquivalent_330 rfl ?_
      refine xs_i2l dB_areEquivalent_331 ?_
      refine xs_iload dB_areEquivalent_332 rfl ?_
      refine xs_i2l dB_areEquivalent_334 ?_
      refine xs_cS_i (As := [_, _]) dB_areEquivalent_335 lkB_144 (k_B_areLike ha hl) rfl rfl (Nat.le_of_ble_eq_true rfl) ⟨by decide, by decide⟩ ⟨by omega, by omega⟩ ?_
      refine xs_ifb_eq dB_areEquivalent_338 (fun h338 => ?_) (fun h338 => ?_)
      · refine xs_iconst (v := 0) dB_areEquivalent_389 (by decide) ?_
        exact xs_iret dB_areEquivalent_390 rfl rfl (by omega) (by omega) ⟨(by clear hE; first | (simp [bI, *]; done) | simp_all [bI]), rfl, rfl⟩
      refine xs_iload_n dB_areEquivalent_341 rfl ?_
      refine xs_i2l dB_areEquivalent_342 ?_
      refine xs_iload dB_areEquivalent_343 rfl ?_
      refine xs_i2l dB_areEquivalent_345 ?_
      refine xs_cS_i (As := [_, _]) dB_areEquivalent_346 lkB_144 (k_B_areLike hb hh) rfl rfl (Nat.le_of_ble_eq_true rfl) ⟨by decide, by decide⟩ ⟨by omega, by omega⟩ ?_
      refine xs_ifb_eq dB_areEquivalent_349 (fun h349 => ?_) (fun h349 => ?_)
      · refine xs_iload_n dB_areEquivalent_363 rfl ?_
        refine xs_i2l dB_areEquivalent_364 ?_
        refine xs_iload dB_areEquivalent_365 rfl ?_
        refine xs_i2l dB_areEquivalent_367 ?_
        refine xs_cS_i (As := [_, _]) dB_areEquivalent_368 lkB_144 (k_B_areLike hb hk) rfl rfl (Nat.le_of_ble_eq_true rfl) ⟨by decide, by decide⟩ ⟨by omega, by omega⟩ ?_
        refine xs_ifb_eq dB_areEquivalent_371 (fun h371 => ?_) (fun h371 => ?_)
        · refine xs_iconst (v := 0) dB_areEquivalent_389 (by decide) ?_
          exact xs_iret dB_areEquivalent_390 rfl rfl (by omega) (by omega) ⟨(by clear hE; first | (simp [bI, *]; done) | simp_all [bI]), rfl, rfl⟩
        refine xs_iload_n dB_areEquivalent_374 rfl ?_
        refine xs_i2l dB_areEquivalent_375 ?_
        refine xs_iload dB_areEquivalent_376 rfl ?_
        refine xs_i2l dB_areEquivalent_378 ?_
        refine xs_cS_i (As := [_, _]) dB_areEquivalent_379 lkB_144 (k_B_areLike hc hh) rfl rfl (Nat.le_of_ble_eq_true rfl) ⟨by decide, by decide⟩ ⟨by omega, by omega⟩ ?_
        refine xs_ifb_eq dB_areEquivalent_382 (fun h382 => ?_) (fun h382 => ?_)
        · refine xs_iconst (v := 0) dB_areEquivalent_389 (by decide) ?_
          exact xs_iret dB_areEquivalent_390 rfl rfl (by omega) (by omega) ⟨(by clear hE; first | (simp [bI, *]; done) | simp_all [bI]), rfl, rfl⟩
        refine xs_iconst (v := 1) dB_areEquivalent_385 (by decide) ?_
        refine xs_goto dB_areEquivalent_386 ?_
        exact xs_iret dB_areEquivalent_390 rfl rfl (by omega) (by omega) ⟨(by clear hE; first | (simp [bI, *]; done) | simp_all [bI]), rfl, rfl⟩
      refine xs_iload_n dB_areEquivalent_352 rfl ?_
      refine xs_i2l dB_areEquivalent_353 ?_
      refine xs_iload dB_areEquivalent_354 rfl ?_
      refine xs_i2l dB_areEquivalent_356 ?_
      refine xs_cS_i (As := [_, _]) dB_areEquivalent_357 lkB_144 (k_B_areLike hc hk) rfl rfl (Nat.le_of_ble_eq_true rfl) ⟨by decide, by decide⟩ ⟨by omega, by omega⟩ ?_
      refine xs_ifb_ne dB_areEquivalent_360 (fun h360 => ?_) (fun h360 => ?_)
      · refine xs_iconst (v := 1) dB_areEquivalent_385 (by decide) ?_
        refine xs_goto dB_areEquivalent_386 ?_
        exact xs_iret dB_areEquivalent_390 rfl rfl (by omega) (by omega) ⟨(by clear hE; first | (simp [bI, *]; done) | simp_all [bI]), rfl, rfl⟩
      refine xs_iload_n dB_areEquivalent_363 rfl ?_
      refine xs_i2l dB_areEquivalent_364 ?_
      refine xs_iload dB_areEquivalent_365 rfl ?_
      refine xs_i2l dB_areEquivalent_367 ?_
      refine xs_cS_i (As := [_, _]) dB_areEquivalent_368 lkB_144 (k_B_areLike hb hk) rfl rfl (Nat.le_of_ble_eq_true rfl) ⟨by decide, by decide⟩ ⟨by omega, by omega⟩ ?_
      refine xs_ifb_eq dB_areEquivalent_371 (fun h371 => ?_) (fun h371 => ?_)
      · refine xs_iconst (v := 0) dB_areEquivalent_389 (by decide) ?_
        exact xs_iret dB_areEquivalent_390 rfl rfl (by omega) (by omega) ⟨(by clear hE; first | (simp [bI, *]; done) | simp_all [bI]), rfl, rfl⟩
      refine xs_iload_n dB_areEquivalent_374 rfl ?_
      refine xs_i2l dB_areEquivalent_375 ?_
      refine xs_iload dB_areEquivalent_376 rfl ?_
      refine xs_i2l dB_areEquivalent_378 ?_
      refine xs_cS_i (As := [_, _]) dB_areEquivalent_379 lkB_144 (k_B_areLike hc hh) rfl rfl (Nat.le_of_ble_eq_true rfl) ⟨by decide, by decide⟩ ⟨by omega, by omega⟩ ?_
      refine xs_ifb_eq dB_areEquivalent_382 (fun h382 => ?_) (fun h382 => ?_)
      · refine xs_iconst (v := 0) dB_areEquivalent_389 (by decide) ?_
        exact xs_iret dB_areEquivalent_390 rfl rfl (by omega) (by omega) ⟨(by clear hE; first | (simp [bI, *]; done) | simp_all [bI]), rfl, rfl⟩
      refine xs_iconst (v := 1) dB_areEquivalent_385 (by decide) ?_
      refine xs_goto dB_areEquivalent_386 ?_
      exact xs_iret dB_areEquivalent_390 rfl rfl (by omega) (by omega) ⟨(by clear hE; first | (simp [bI, *]; done) | simp_all [bI]), rfl, rfl⟩
    refine xs_iload_n dB_areEquivalent_286 rfl ?_
    refine xs_i2l dB_areEquivalent_287 ?_
    refine xs_iload dB_areEquivalent_288 rfl ?_
    refine xs_i2l dB_areEquivalent_290 ?_
    refine xs_cS_i (As := [_, _]) dB_areEquivalent_291 lkB_144 (k_B_areLike hb hh) rfl rfl (Nat.le_of_ble_eq_true rfl) ⟨by decide, by decide⟩ ⟨by omega, by omega⟩ ?_
    refine xs_ifb_eq dB_areEquivalent_294 (fun h294 => ?_) (fun h294 => ?_)
    · refine xs_iload_n dB_areEquivalent_308 rfl ?_
      refine xs_i2l dB_areEquivalent_309 ?_
      refine xs_iload dB_areEquivalent_310 rfl ?_
      refine xs_i2l dB_areEquivalent_312 ?_
      refine xs_cS_i (As := [_, _]) dB_areEquivalent_313 lkB_144 (k_B_areLike hb hl) rfl rfl (Nat.le_of_ble_eq_true rfl) ⟨by decide, by decide⟩ ⟨by omega, by omega⟩ ?_
      refine xs_ifb_eq dB_areEquivalent_316 (fun h316 => ?_) (fun h316 => ?_)
      · refine xs_iload_n dB_areEquivalent_330 rfl ?_
        refine xs_i2l dB_areEquivalent_331 ?_
        refine xs_iload dB_areEquivalent_332 rfl ?_
        refine xs_i2l dB_areEquivalent_334 ?_
        refine xs_cS_i (As := [_, _]) dB_areEquivalent_335 lkB_144 (k_B_areLike ha hl) rfl rfl (Nat.le_of_ble_eq_true rfl) ⟨by decide, by decide⟩ ⟨by omega, by omega⟩ ?_
        refine xs_ifb_eq dB_areEquivalent_338 (fun h338 => ?_) (fun h338 => ?_)
        · refine xs_iconst (v := 0) dB_areEquivalent_389 (by decide) ?_
          exact xs_iret dB_areEquivalent_390 rfl rfl (by omega) (by omega) ⟨(by clear hE; first | (simp [bI, *]; done) | simp_all [bI]), rfl, rfl⟩
        refine xs_iload_n dB_areEquivalent_341 rfl ?_
        refine xs_i2l dB_areEquivalent_342 ?_
        refine xs_iload dB_areEquivalent_343 rfl ?_
        refine xs_i2l dB_areEquivalent_345 ?_
        refine xs_cS_i (As := [_, _]) dB_areEquivalent_346 lkB_144 (k_B_areLike hb hh) rfl rfl (Nat.le_of_ble_eq_true rfl) ⟨by decide, by decide⟩ ⟨by omega, by omega⟩ ?_
        refine xs_ifb_eq dB_areEquivalent_349 (fun h349 => ?_) (fun h349 => ?_)
        · refine xs_iload_n dB_areEquivalent_363 rfl ?_
          refine xs_i2l dB_areEquivalent_364 ?_
          refine xs_iload dB_areEquivalent_365 rfl ?_
          refine xs_i2l dB_areEquivalent_367 ?_
          refine xs_cS_i (As := [_, _]) dB_areEquivalent_368 lkB_144 (k_B_areLike hb hk) rfl rfl (Nat.le_of_ble_eq_true rfl) ⟨by decide, by decide⟩ ⟨by omega, by omega⟩ ?_
          refine xs_ifb_eq dB_areEquivalent_371 (fun h371 => ?_) (fun h371 => ?_)
          · refine xs_iconst (v := 0) dB_areEquivalent_389 (by decide) ?_
            exact xs_iret dB_areEquivalent_390 rfl rfl (by omega) (by omega) ⟨(by clear hE; first | (simp [bI, *]; done) | simp_all [bI]), rfl, rfl⟩
          refine xs_iload_n dB_areEquivalent_374 rfl ?_
          refine xs_i2l dB_areEquivalent_375 ?_
          refine xs_iload dB_areEquivalent_376 rfl ?_
          refine xs_i2l dB_areEquivalent_378 ?_
          refine xs_cS_i (As := [_, _]) dB_areEquivalent_379 lkB_144 (k_B_areLike hc hh) rfl rfl (Nat.le_of_ble_eq_true rfl) ⟨by decide, by decide⟩ ⟨by omega, by omega⟩ ?_
          refine xs_ifb_eq dB_areEquivalent_382 (fun h382 => ?_) (fun h382 => ?_)
          · refine xs_iconst (v := 0) dB_areEquivalent_389 (by decide) ?_
            exact xs_iret dB_areEquivalent_390 rfl rfl (by omega) (by omega) ⟨(by clear hE; first | (simp [bI, *]; done) | simp_all [bI]), rfl, rfl⟩
          refine xs_iconst (v := 1) dB_areEquivalent_385 (by decide) ?_
          refine xs_goto dB_areEquivalent_386 ?_
          exact xs_iret dB_areEquivalent_390 rfl rfl (by omega) (by omega) ⟨(by clear hE; first | (simp [bI, *]; done) | simp_all [bI]), rfl, rfl⟩
        refine xs_iload_n dB_areEquivalent_352 rfl ?_
        refine xs_i2l dB_areEquivalent_353 ?_
        refine xs_iload dB_areEquivalent_354 rfl ?_
        refine xs_i2l dB_areEquivalent_356 ?_
        refine xs_cS_i (As := [_, _]) dB_areEquivalent_357 lkB_144 (k_B_areLike hc hk) rfl rfl (Nat.le_of_ble_eq_true rfl) ⟨by decide, by decide⟩ ⟨by omega, by omega⟩ ?_
        refine xs_ifb_ne dB_areEquivalent_360 (fun h360 => ?_) (fun h360 => ?_)
        · refine xs_iconst (v := 1) dB_areEquivalent_385 (by decide) ?_
          refine xs_goto dB_areEquivalent_386 ?_
          exact xs_iret dB_areEquivalent_390 rfl rfl (by omega) (by omega) ⟨(by clear hE; first | (simp [bI, *]; done) | simp_all [bI]), rfl, rfl⟩
        refine xs_iload_n dB_areEquivalent_363 rfl ?_
        refine xs_i2l dB_areEquivalent_364 ?_
        refine xs_iload dB_areEquivalent_365 rfl ?_
        refine xs_i2l dB_areEquivalent_367 ?_
        refine xs_cS_i (As := [_, _]) dB_areEquivalent_368 lkB_144 (k_B_areLike hb hk) rfl rfl (Nat.le_of_ble_eq_true rfl) ⟨by decide, by decide⟩ ⟨by omega, by omega⟩ ?_
        refine xs_ifb_eq dB_areEquivalent_371 (fun h371 => ?_) (fun h371 => ?_)
        · refine xs_iconst (v := 0) dB_areEquivalent_389 (by decide) ?_
          exact xs_iret dB_areEquivalent_390 rfl rfl (by omega) (by omega) ⟨(by clear hE; first | (simp [bI, *]; done) | simp_all [bI]), rfl, rfl⟩
        refine xs_iload_n dB_areEquivalent_374 rfl ?_
        refine xs_i2l dB_areEquivalent_375 ?_
        refine xs_iload dB_areEquivalent_376 rfl ?_
        refine xs_i2l dB_areEquivalent_378 ?_
        refine xs_cS_i (As := [_, _]) dB_areEquivalent_379 lkB_144 (k_B_areLike hc hh) rfl rfl (Nat.le_of_ble_eq_true rfl) ⟨by decide, by decide⟩ ⟨by omega, by omega⟩ ?_
        refine xs_ifb_eq dB_areEquivalent_382 (fun h382 => ?_) (fun h382 => ?_)
        · refine xs_iconst (v := 0) dB_areEquivalent_389 (by decide) ?_
          exact xs_iret dB_areEquivalent_390 rfl rfl (by omega) (by omega) ⟨(by clear hE; first | (simp [bI, *]; done) | simp_all [bI]), rfl, rfl⟩
        refine xs_iconst (v := 1) dB_areEquivalent_385 (by decide) ?_
        refine xs_goto dB_areEquivalent_386 ?_
        exact xs_iret dB_areEquivalent_390 rfl rfl (by omega) (by omega) ⟨(by clear hE; first | (simp [bI, *]; done) | simp_all [bI]), rfl, rfl⟩
      refine xs_iload_n dB_areEquivalent_319 rfl ?_
      refine xs_i2l dB_areEquivalent_320 ?_
      refine xs_iload dB_areEquivalent_321 rfl ?_
      refine xs_i2l dB_areEquivalent_323 ?_
      refine xs_cS_i (As := [_, _]) dB_areEquivalent_324 lkB_144 (k_B_areLike hc hh) rfl rfl (Nat.le_of_ble_eq_true rfl) ⟨by decide, by decide⟩ ⟨by omega, by omega⟩ ?_
      refine xs_ifb_ne dB_areEquivalent_327 (fun h327 => ?_) (fun h327 => ?_)
      · refine xs_iconst (v := 1) dB_areEquivalent_385 (by decide) ?_
        refine xs_goto dB_areEquivalent_386 ?_
        exact xs_iret dB_areEquivalent_390 rfl rfl (by omega) (by omega) ⟨(by clear hE; first | (simp [bI, *]; done) | simp_all [bI]), rfl, rfl⟩
      refine xs_iload_n dB_areEquivalent_330 rfl ?_
      refine xs_i2l dB_areEquivalent_331 ?_
      refine xs_iload dB_areEquivalent_332 rfl ?_
      refine xs_i2l dB_areEquivalent_334 ?_
      refine xs_cS_i (As := [_, _]) dB_areEquivalent_335 lkB_144 (k_B_areLike ha hl) rfl rfl (Nat.le_of_ble_eq_true rfl) ⟨by decide, by decide⟩ ⟨by omega, by omega⟩ ?_
      refine xs_ifb_eq dB_areEquivalent_338 (fun h338 => ?_) (fun h338 => ?_)
      · refine xs_iconst (v := 0) dB_areEquivalent_389 (by decide) ?_
        exact xs_iret dB_areEquivalent_390 rfl rfl (by omega) (by omega) ⟨(by clear hE; first | (simp [bI, *]; done) | simp_all [bI]), rfl, rfl⟩
      refine xs_iload_n dB_areEquivalent_341 rfl ?_
      refine xs_i2l dB_areEquivalent_342 ?_
      refine xs_iload dB_areEquivalent_343 rfl ?_
      refine xs_i2l dB_areEquivalent_345 ?_
      refine xs_cS_i (As := [_, _]) dB_areEquivalent_346 lkB_144 (k_B_areLike hb hh) rfl rfl (Nat.le_of_ble_eq_true rfl) ⟨by decide, by decide⟩ ⟨by omega, by omega⟩ ?_
      refine xs_ifb_eq dB_areEquivalent_349 (fun h349 => ?_) (fun h349 => ?_)
      · refine xs_iload_n dB_areEquivalent_363 rfl ?_
        refine xs_i2l dB_areEquivalent_364 ?_
        refine xs_iload dB_areEquivalent_365 rfl ?_
        refine xs_i2l dB_areEquivalent_367 ?_
        refine xs_cS_i (As := [_, _]) dB_areEquivalent_368 lkB_144 (k_B_areLike hb hk) rfl rfl (Nat.le_of_ble_eq_true rfl) ⟨by decide, by decide⟩ ⟨by omega, by omega⟩ ?_
        refine xs_ifb_eq dB_areEquivalent_371 (fun h371 => ?_) (fun h371 => ?_)
        · refine xs_iconst (v := 0) dB_areEquivalent_389 (by decide) ?_
          exact xs_iret dB_areEquivalent_390 rfl rfl (by omega) (by omega) ⟨(by clear hE; first | (simp [bI, *]; done) | simp_all [bI]), rfl, rfl⟩
        refine xs_iload_n dB_areEquivalent_374 rfl ?_
        refine xs_i2l dB_areEquivalent_375 ?_
        refine xs_iload dB_areEquivalent_376 rfl ?_
        refine xs_i2l dB_areEquivalent_378 ?_
        refine xs_cS_i (As := [_, _]) dB_areEquivalent_379 lkB_144 (k_B_areLike hc hh) rfl rfl (Nat.le_of_ble_eq_true rfl) ⟨by decide, by decide⟩ ⟨by omega, by omega⟩ ?_
        refine xs_ifb_eq dB_areEquivalent_382 (fun h382 => ?_) (fun h382 => ?_)
        · refine xs_iconst (v := 0) dB_areEquivalent_389 (by decide) ?_
          exact xs_iret dB_areEquivalent_390 rfl rfl (by omega) (by omega) ⟨(by clear hE; first | (simp [bI, *]; done) | simp_all [bI]), rfl, rfl⟩
        refine xs_iconst (v := 1) dB_areEquivalent_385 (by decide) ?_
        refine xs_goto dB_areEquivalent_386 ?_
        exact xs_iret dB_areEquivalent_390 rfl rfl (by omega) (by omega) ⟨(by clear hE; first | (simp [bI, *]; done) | simp_all [bI]), rfl, rfl⟩
      refine xs_iload_n dB_areEquivalent_352 rfl ?_
      refine xs_i2l dB_areEquivalent_353 ?_
      refine xs_iload dB_areEquivalent_354 rfl ?_
      refine xs_i2l dB_areEquivalent_356 ?_
      refine xs_cS_i (As := [_, _]) dB_areEquivalent_357 lkB_144 (k_B_areLike hc hk) rfl rfl (Nat.le_of_ble_eq_true rfl) ⟨by decide, by decide⟩ ⟨by omega, by omega⟩ ?_
      refine xs_ifb_ne dB_areEquivalent_360 (fun h360 => ?_) (fun h360 => ?_)
      · refine xs_iconst (v := 1) dB_areEquivalent_385 (by decide) ?_
        refine xs_goto dB_areEquivalent_386 ?_
        exact xs_iret dB_areEquivalent_390 rfl rfl (by omega) (by omega) ⟨(by clear hE; first | (simp [bI, *]; done) | simp_all [bI]), rfl, rfl⟩
      refine xs_iload_n dB_areEquivalent_363 rfl ?_
      refine xs_i2l dB_areEquivalent_364 ?_
      refine xs_iload dB_areEquivalent_365 rfl ?_
      refine xs_i2l dB_areEquivalent_367 ?_
      refine xs_cS_i (As := [_, _]) dB_areEquivalent_368 lkB_144 (k_B_areLike hb hk) rfl rfl (Nat.le_of_ble_eq_true rfl) ⟨by decide, by decide⟩ ⟨by omega, by omega⟩ ?_
      refine xs_ifb_eq dB_areEquivalent_371 (fun h371 => ?_) (fun h371 => ?_)
      · refine xs_iconst (v := 0) dB_areEquivalent_389 (by decide) ?_
        exact xs_iret dB_areEquivalent_390 rfl rfl (by omega) (by omega) ⟨(by clear hE; first | (simp [bI, *]; done) | simp_all [bI]), rfl, rfl⟩
      refine xs_iload_n dB_areEquivalent_374 rfl ?_
      refine xs_i2l dB_areEquivalent_375 ?_
      refine xs_iload dB_areEquivalent_376 rfl ?_
      refine xs_i2l dB_areEquivalent_378 ?_
      refine xs_cS_i (As := [_, _]) dB_areEquivalent_379 lkB_144 (k_B_areLike hc hh) rfl rfl (Nat.le_of_ble_eq_true rfl) ⟨by decide, by decide⟩ ⟨by omega, by omega⟩ ?_
      refine xs_ifb_eq dB_areEquivalent_382 (fun h382 => ?_) (fun h382 => ?_)
      · refine xs_iconst (v := 0) dB_areEquivalent_389 (by decide) ?_
        exact xs_iret dB_areEquivalent_390 rfl rfl (by omega) (by omega) ⟨(by clear hE; first | (simp [bI, *]; done) | simp_all [bI]), rfl, rfl⟩
      refine xs_iconst (v := 1) dB_areEquivalent_385 (by decide) ?_
      refine xs_goto dB_areEquivalent_386 ?_
      exact xs_iret dB_areEquivalent_390 rfl rfl (by omega) (by omega) ⟨(by clear hE; first | (simp [bI, *]; done) | simp_all [bI]), rfl, rfl⟩
    refine xs_iload_n dB_areEquivalent_297 rfl ?_
    refine xs_i2l dB_areEquivalent_298 ?_
    refine xs_iload dB_areEquivalent_299 rfl ?_
    refine xs_i2l dB_areEquivalent_301 ?_
    refine xs_cS_i (As := [_, _]) dB_areEquivalent_302 lkB_144 (k_B_areLike hc hl) rfl rfl (Nat.le_of_ble_eq_true rfl) ⟨by decide, by decide⟩ ⟨by omega, by omega⟩ ?_
    refine xs_ifb_ne dB_areEquivalent_305 (fun h305 => ?_) (fun h305 => ?_)
    · refine xs_iconst (v := 1) dB_areEquivalent_385 (by decide) ?_
      refine xs_goto dB_areEquivalent_386 ?_
      exact xs_iret dB_areEquivalent_390 rfl rfl (by omega) (by omega) ⟨(by clear hE; first | (simp [bI, *]; done) | simp_all [bI]), rfl, rfl⟩
    refine xs_iload_n dB_areEquivalent_308 rfl ?_
    refine xs_i2l dB_areEquivalent_309 ?_
    refine xs_iload dB_areEquivalent_310 rfl ?_
    refine xs_i2l dB_areEquivalent_312 ?_
    refine xs_cS_i (As := [_, _]) dB_areEquivalent_313 lkB_144 (k_B_areLike hb hl) rfl rfl (Nat.le_of_ble_eq_true rfl) ⟨by decide, by decide⟩ ⟨by omega, by omega⟩ ?_
    refine xs_ifb_eq dB_areEquivalent_316 (fun h316 => ?_) (fun h316 => ?_)
    · refine xs_iload_n dB_areEquivalent_330 rfl ?_
      refine xs_i2l dB_areEquivalent_331 ?_
      refine xs_iload dB_areEquivalent_332 rfl ?_
      refine xs_i2l dB_areEquivalent_334 ?_
      refine xs_cS_i (As := [_, _]) dB_areEquivalent_335 lkB_144 (k_B_areLike ha hl) rfl rfl (Nat.le_of_ble_eq_true rfl) ⟨by decide, by decide⟩ ⟨by omega, by omega⟩ ?_
      refine xs_ifb_eq dB_areEquivalent_338 (fun h338 => ?_) (fun h338 => ?_)
      · refine xs_iconst (v := 0) dB_areEquivalent_389 (by decide) ?_
        exact xs_iret dB_areEquivalent_390 rfl rfl (by omega) (by omega) ⟨(by clear hE; first | (simp [bI, *]; done) | simp_all [bI]), rfl, rfl⟩
      refine xs_iload_n dB_areEquivalent_341 rfl ?_
      refine xs_i2l dB_areEquivalent_342 ?_
      refine xs_iload dB_areEquivalent_343 rfl ?_
      refine xs_i2l dB_areEquivalent_345 ?_
      refine xs_cS_i (As := [_, _]) dB_areEquivalent_346 lkB_144 (k_B_areLike hb hh) rfl rfl (Nat.le_of_ble_eq_true rfl) ⟨by decide, by decide⟩ ⟨by omega, by omega⟩ ?_
      refine xs_ifb_eq dB_areEquivalent_349 (fun h349 => ?_) (fun h349 => ?_)
      · refine xs_iload_n dB_areEquivalent_363 rfl ?_
        refine xs_i2l dB_areEquivalent_364 ?_
        refine xs_iload dB_areEquivalent_365 rfl ?_
        refine xs_i2l dB_areEquivalent_367 ?_
        refine xs_cS_i (As := [_, _]) dB_areEquivalent_368 lkB_144 (k_B_areLike hb hk) rfl rfl (Nat.le_of_ble_eq_true rfl) ⟨by decide, by decide⟩ ⟨by omega, by omega⟩ ?_
        refine xs_ifb_eq dB_areEquivalent_371 (fun h371 => ?_) (fun h371 => ?_)
        · refine xs_iconst (v := 0) dB_areEquivalent_389 (by decide) ?_
          exact xs_iret dB_areEquivalent_390 rfl rfl (by omega) (by omega) ⟨(by clear hE; first | (simp [bI, *]; done) | simp_all [bI]), rfl, rfl⟩
        refine xs_iload_n dB_areEquivalent_374 rfl ?_
        refine xs_i2l dB_areEquivalent_375 ?_
        refine xs_iload dB_areEquivalent_376 rfl ?_
        refine xs_i2l dB_areEquivalent_378 ?_
        refine xs_cS_i (As := [_, _]) dB_areEquivalent_379 lkB_144 (k_B_areLike hc hh) rfl rfl (Nat.le_of_ble_eq_true rfl) ⟨by decide, by decide⟩ ⟨by omega, by omega⟩ ?_
        refine xs_ifb_eq dB_areEquivalent_382 (fun h382 => ?_) (fun h382 => ?_)
        · refine xs_iconst (v := 0) dB_areEquivalent_389 (by decide) ?_
          exact xs_iret dB_areEquivalent_390 rfl rfl (by omega) (by omega) ⟨(by clear hE; first | (simp [bI, *]; done) | simp_all [bI]), rfl, rfl⟩
        refine xs_iconst (v := 1) dB_areEquivalent_385 (by decide) ?_
        refine xs_goto dB_areEquivalent_386 ?_
        exact xs_iret dB_areEquivalent_390 rfl rfl (by omega) (by omega) ⟨(by clear hE; first | (simp [bI, *]; done) | simp_all [bI]), rfl, rfl⟩
      refine xs_iload_n dB_areEquivalent_352 rfl ?_
      refine xs_i2l dB_areEquivalent_353 ?_
      refine xs_iload dB_areEquivalent_354 rfl ?_
      refine xs_i2l dB_areEquivalent_356 ?_
      refine xs_cS_i (As := [_, _]) dB_areEquivalent_357 lkB_144 (k_B_areLike hc hk) rfl rfl (Nat.le_of_ble_eq_true rfl) ⟨by decide, by decide⟩ ⟨by omega, by omega⟩ ?_
      refine xs_ifb_ne dB_areEquivalent_360 (fun h360 => ?_) (fun h360 => ?_)
      · refine xs_iconst (v := 1) dB_areEquivalent_385 (by decide) ?_
        refine xs_goto dB_areEquivalent_386 ?_
        exact xs_iret dB_areEquivalent_390 rfl rfl (by omega) (by omega) ⟨(by clear hE; first | (simp [bI, *]; done) | simp_all [bI]), rfl, rfl⟩
      refine xs_iload_n dB_areEquivalent_363 rfl ?_
      refine xs_i2l dB_areEquivalent_364 ?_
      refine xs_iload dB_areEquivalent_365 rfl ?_
      refine xs_i2l dB_areEquivalent_367 ?_
      refine xs_cS_i (As := [_, _]) dB_areEquivalent_368 lkB_144 (k_B_areLike hb hk) rfl rfl (Nat.le_of_ble_eq_true rfl) ⟨by decide, by decide⟩ ⟨by omega, by omega⟩ ?_
      refine xs_ifb_eq dB_areEquivalent_371 (fun h371 => ?_) (fun h371 => ?_)
      · refine xs_iconst (v := 0) dB_areEquivalent_389 (by decide) ?_
        exact xs_iret dB_areEquivalent_390 rfl rfl (by omega) (by omega) ⟨(by clear hE; first | (simp [bI, *]; done) | simp_all [bI]), rfl, rfl⟩
      refine xs_iload_n dB_areEquivalent_374 rfl ?_
      refine xs_i2l dB_areEquivalent_375 ?_
      refine xs_iload dB_areEquivalent_376 rfl ?_
      refine xs_i2l dB_areEquivalent_378 ?_
      refine xs_cS_i (As := [_, _]) dB_areEquivalent_379 lkB_144 (k_B_areLike hc hh) rfl rfl (Nat.le_of_ble_eq_true rfl) ⟨by decide, by decide⟩ ⟨by omega, by omega⟩ ?_
      refine xs_ifb_eq dB_areEquivalent_382 (fun h382 => ?_) (fun h382 => ?_)
      · refine xs_iconst (v := 0) dB_areEquivalent_389 (by decide) ?_
        exact xs_iret dB_areEquivalent_390 rfl rfl (by omega) (by omega) ⟨(by clear hE; first | (simp [bI, *]; done) | simp_all [bI]), rfl, rfl⟩
      refine xs_iconst (v := 1) dB_areEquivalent_385 (by decide) ?_
      refine xs_goto dB_areEquivalent_386 ?_
      exact xs_iret dB_areEquivalent_390 rfl rfl (by omega) (by omega) ⟨(by clear hE; first | (simp [bI, *]; done) | simp_all [bI]), rfl, rfl⟩
    refine xs_iload_n dB_areEquivalent_319 rfl ?_
    refine xs_i2l dB_areEquivalent_320 ?_
    refine xs_iload dB_areEquivalent_321 rfl ?_
    refine xs_i2l dB_areEquivalent_323 ?_
    refine xs_cS_i (As := [_, _]) dB_areEquivalent_324 lkB_144 (k_B_areLike hc hh) rfl rfl (Nat.le_of_ble_eq_true rfl) ⟨by decide, by decide⟩ ⟨by omega, by omega⟩ ?_
    refine xs_ifb_ne dB_areEquivalent_327 (fun h327 => ?_) (fun h327 => ?_)
    · refine xs_iconst (v := 1) dB_areEquivalent_385 (by decide) ?_
      refine xs_goto dB_areEquivalent_386 ?_
      exact xs_iret dB_areEquivalent_390 rfl rfl (by omega) (by omega) ⟨(by clear hE; first | (simp [bI, *]; done) | simp_all [bI]), rfl, rfl⟩
    refine xs_iload_n dB_areEquivalent_330 rfl ?_
    refine xs_i2l dB_areEquivalent_331 ?_
    refine xs_iload dB_areEquivalent_332 rfl ?_
    refine xs_i2l dB_areEquivalent_334 ?_
    refine xs_cS_i (As := [_, _]) dB_areEquivalent_335 lkB_144 (k_B_areLike ha hl) rfl rfl (Nat.le_of_ble_eq_true rfl) ⟨by decide, by decide⟩ ⟨by omega, by omega⟩ ?_
    refine xs_ifb_eq dB_areEquivalent_338 (fun h338 => ?_) (fun h338 => ?_)
    · refine xs_iconst (v := 0) dB_areEquivalent_389 (by decide) ?_
      exact xs_iret dB_areEquivalent_390 rfl rfl (by omega) (by omega) ⟨(by clear hE; first | (simp [bI, *]; done) | simp_all [bI]), rfl, rfl⟩
    refine xs_iload_n dB_areEquivalent_341 rfl ?_
    refine xs_i2l dB_areEquivalent_342 ?_
    refine xs_iload dB_areEquivalent_343 rfl ?_
    refine xs_i2l dB_areEquivalent_345 ?_
    refine xs_cS_i (As := [_, _]) dB_areEquivalent_346 lkB_144 (k_B_areLike hb hh) rfl rfl (Nat.le_of_ble_eq_true rfl) ⟨by decide, by decide⟩ ⟨by omega, by omega⟩ ?_
    refine xs_ifb_eq dB_areEquivalent_349 (fun h349 => ?_) (fun h349 => ?_)
    · refine xs_iload_n dB_areEquivalent_363 rfl ?_
      refine xs_i2l dB_areEquivalent_364 ?_
      refine xs_iload dB_areEquivalent_365 rfl ?_
      refine xs_i2l dB_areEquivalent_367 ?_
      refine xs_cS_i (As := [_, _]) dB_areEquivalent_368 lkB_144 (k_B_areLike hb hk) rfl rfl (Nat.le_of_ble_eq_true rfl) ⟨by decide, by decide⟩ ⟨by omega, by omega⟩ ?_
      refine xs_ifb_eq dB_areEquivalent_371 (fun h371 => ?_) (fun h371 => ?_)
      · refine xs_iconst (v := 0) dB_areEquivalent_389 (by decide) ?_
        exact xs_iret dB_areEquivalent_390 rfl rfl (by omega) (by omega) ⟨(by clear hE; first | (simp [bI, *]; done) | simp_all [bI]), rfl, rfl⟩
      refine xs_iload_n dB_areEquivalent_374 rfl ?_
      refine xs_i2l dB_areEquivalent_375 ?_
      refine xs_iload dB_areEquivalent_376 rfl ?_
      refine xs_i2l dB_areEquivalent_378 ?_
      refine xs_cS_i (As := [_, _]) dB_areEquivalent_379 lkB_144 (k_B_areLike hc hh) rfl rfl (Nat.le_of_ble_eq_true rfl) ⟨by decide, by decide⟩ ⟨by omega, by omega⟩ ?_
      refine xs_ifb_eq dB_areEquivalent_382 (fun h382 => ?_) (fun h382 => ?_)
      · refine xs_iconst (v := 0) dB_areEquivalent_389 (by decide) ?_
        exact xs_iret dB_areEquivalent_390 rfl rfl (by omega) (by omega) ⟨(by clear hE; first | (simp [bI, *]; done) | simp_all [bI]), rfl, rfl⟩
      refine xs_iconst (v := 1) dB_areEquivalent_385 (by decide) ?_
      refine xs_goto dB_areEquivalent_386 ?_
      exact xs_iret dB_areEquivalent_390 rfl rfl (by omega) (by omega) ⟨(by clear hE; first | (simp [bI, *]; done) | simp_all [bI]), rfl, rfl⟩
    refine xs_iload_n dB_areEquivalent_352 rfl ?_
    refine xs_i2l dB_areEquivalent_353 ?_
    refine xs_iload dB_areEquivalent_354 rfl ?_
    refine xs_i2l dB_areEquivalent_356 ?_
    refine xs_cS_i (As := [_, _]) dB_areEquivalent_357 lkB_144 (k_B_areLike hc hk) rfl rfl (Nat.le_of_ble_eq_true rfl) ⟨by decide, by decide⟩ ⟨by omega, by omega⟩ ?_
    refine xs_ifb_ne dB_areEquivalent_360 (fun h360 => ?_) (fun h360 => ?_)
    · refine xs_iconst (v := 1) dB_areEquivalent_385 (by decide) ?_
      refine xs_goto dB_areEquivalent_386 ?_
      exact xs_iret dB_areEquivalent_390 rfl rfl (by omega) (by omega) ⟨(by clear hE; first | (simp [bI, *]; done) | simp_all [bI]), rfl, rfl⟩
    refine xs_iload_n dB_areEquivalent_363 rfl ?_
    refine xs_i2l dB_areEquivalent_364 ?_
    refine xs_iload dB_areEquivalent_365 rfl ?_
    refine xs_i2l dB_areEquivalent_367 ?_
    refine xs_cS_i (As := [_, _]) dB_areEquivalent_368 lkB_144 (k_B_areLike hb hk) rfl rfl (Nat.le_of_ble_eq_true rfl) ⟨by decide, by decide⟩ ⟨by omega, by omega⟩ ?_
    refine xs_ifb_eq dB_areEquivalent_371 (fun h371 => ?_) (fun h371 => ?_)
    · refine xs_iconst (v := 0) dB_areEquivalent_389 (by decide) ?_
      exact xs_iret dB_areEquivalent_390 rfl rfl (by omega) (by omega) ⟨(by clear hE; first | (simp [bI, *]; done) | simp_all [bI]), rfl, rfl⟩
    refine xs_iload_n dB_areEquivalent_374 rfl ?_
    refine xs_i2l dB_areEquivalent_375 ?_
    refine xs_iload dB_areEquivalent_376 rfl ?_
    refine xs_i2l dB_areEquivalent_378 ?_
    refine xs_cS_i (As := [_, _]) dB_areEquivalent_379 lkB_144 (k_B_areLike hc hh) rfl rfl (Nat.le_of_ble_eq_true rfl) ⟨by decide, by decide⟩ ⟨by omega, by omega⟩ ?_
    refine xs_ifb_eq dB_areEquivalent_382 (fun h382 => ?_) (fun h382 => ?_)
    · refine xs_iconst (v := 0) dB_areEquivalent_389 (by decide) ?_
      exact xs_iret dB_areEquivalent_390 rfl rfl (by omega) (by omega) ⟨(by clear hE; first | (simp [bI, *]; done) | simp_all [bI]), rfl, rfl⟩
    refine xs_iconst (v := 1) dB_areEquivalent_385 (by decide) ?_
    refine xs_goto dB_areEquivalent_386 ?_
    exact xs_iret dB_areEquivalent_390 rfl rfl (by omega) (by omega) ⟨(by clear hE; first | (simp [bI, *]; done) | simp_all [bI]), rfl, rfl⟩
theorem k_B_isLike {r i : Nat} {f : Nat → Int32} {V : zV} {c : zF} {x y z : Int} (hr : G r = oI 70 f) (hV : zOk V) (hf : mrow f V) (hc : V.1[i]? = some c) (hx : x.natAbs < 1000) (hy : y.natAbs < 1000) (hz : z.natAbs < 1000) :
    xK mB_isLike [.ref r, .int (nI i), .int (iI x), .int (iI y), .int (iI z)] n G 0 0 (qI n G (bI (zEq V.2.1 (x, y, z) c.1))) xNo := by
  obtain ⟨⟨k0, k1, k2, k3⟩, g0, g1, g2, g3⟩ := mrow_get hf hc hV.1
  obtain ⟨b1, b2, b3⟩ := (hV.2.1 c (List.mem_of_getElem? hc)).1
  have v1 : vp_in (1 : Int32) 70 := fin70 (j := 1) (by decide)
  have e1 : (1 : Int32).toNatClampNeg = 1 := by decide
  refine xK_of2 (L0 := [(0, _), (1, _), (2, _), (3, _), (4, _)]) (by decide +kernel) rfl (Nat.le_of_ble_eq_true rfl) rfl ?_
  refine xs_aload_n dB_isLike_0 rfl ?_
  refine xs_iconst (v := 1) dB_isLike_1 (by decide) ?_
  refine xs_iald dB_isLike_2 (by repeat (first | exact va_up_self _ _ _ | assumption | refine (va_up_ne _ _ (by omega)).trans ?_)) (by assumption) ?_
  refine xs_iload_n dB_isLike_3 rfl ?_
  refine xs_iload_n dB_isLike_4 rfl ?_
  refine xs_iload dB_isLike_5 rfl ?_
  refine xs_aload_n dB_isLike_7 rfl ?_
  refine xs_iload_n dB_isLike_8 rfl ?_
  refine xs_iconst (v := 0) dB_isLike_9 (by decide) ?_
  refine xs_cS_i (As := [_, _]) dB_isLike_10 lkB_92 (k_B_cell (i:=i) (w:=0)) rfl rfl (Nat.le_of_ble_eq_true rfl) ⟨by decide, by decide⟩ ⟨by omega, by omega⟩ ?_
  rw [e1, hf.1.2.1]
  refine xs_iald dB_isLike_13 (by repeat (first | exact va_up_self _ _ _ | assumption | refine (va_up_ne _ _ (by omega)).trans ?_)) (by assumption) ?_
  refine xs_aload_n dB_isLike_14 rfl ?_
  refine xs_iload_n dB_isLike_15 rfl ?_
  refine xs_iconst (v := 1) dB_isLike_16 (by decide) ?_
  refine xs_cS_i (As := [_, _]) dB_isLike_17 lkB_92 (k_B_cell (i:=i) (w:=1)) rfl rfl (Nat.le_of_ble_eq_true rfl) ⟨by decide, by decide⟩ ⟨by omega, by omega⟩ ?_
  rw [g0]
  refine xs_iald dB_isLike_20 (by repeat (first | exact va_up_self _ _ _ | assumption | refine (va_up_ne _ _ (by omega)).trans ?_)) (by assumption) ?_
  refine xs_aload_n dB_isLike_21 rfl ?_
  refine xs_iload_n dB_isLike_22 rfl ?_
  refine xs_iconst (v := 2) dB_isLike_23 (by decide) ?_
  refine xs_cS_i (As := [_, _]) dB_isLike_24 lkB_92 (k_B_cell (i:=i) (w:=2)) rfl rfl (Nat.le_of_ble_eq_true rfl) ⟨by decide, by decide⟩ ⟨by omega, by omega⟩ ?_
  refine xs_iald dB_isLike_27 (by repeat (first | exact va_up_self _ _ _ | assumption | refine (va_up_ne _ _ (by omega)).trans ?_)) (by assumption) ?_
  rw [g1, g2]
  refine xs_cS_i (As := [_, _, _, _, _, _, _]) dB_isLike_28 lkB_148 (k_B_areEquivalent hV.2.2.1 hx hy hz (h:=c.1.1) (k:=c.1.2.1) (l:=c.1.2.2) (by omega) (by omega) (by omega)) rfl rfl (Nat.le_of_ble_eq_true rfl) ⟨by decide, by decide⟩ ⟨by omega, by omega⟩ ?_
  exact xs_iret dB_isLike_31 rfl (bI_n _) (by omega) (by omega) ⟨rfl, rfl, rfl⟩
end M7
