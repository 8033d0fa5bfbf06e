/-! the law: its start, its cases, its loop -/
abbrev yLE (b Ls : Nat) (xs : Nat → Int32) : State → (Nat → Prop) → Prop := fun s A => (va_X b Ls xs s s.heap ∧ b < s.heap.size ∧ ¬ A b) ∧ yN s
abbrev lQ : Option Value → Nat → xG → Prop := fun v _ _ => v = some (.int 1)
abbrev lW (b Ls : Nat) (xs : Nat → Int32) (pc : Nat) (L : List (Nat × Value)) (st : List Value) (G : xG) (k c : Nat) : Prop := yS (yLE b Ls xs) (some b) mL0 0 601024 7293034 lQ xNo pc L st 546 G k c
def lI (G : xG) (S : zS) : Prop := fzo G 0 S ∧ (∃ rf, mdo G 528 rf S) ∧ ∃ ou, G 545 = oL 1 ou
theorem mdo_fr {G H : xG} {b : Nat} {rf : Int32} {S : zS} (h : mdo G b rf S) (hf : ∀ k, b ≤ k → k < b + 17 → H k = G k) : mdo H b rf S := by
  obtain ⟨⟨sp, gd, zs, ft, k0⟩, k1, k2, k3, k4, k5, k6, k7, k8⟩ := h
  exact ⟨⟨sp, gd, zs, ft, by rw [hf _ (by omega) (by omega)]; exact k0⟩, mTx_fr k1 (hf _ (by omega) (by omega)), mAr_fr k2 (hf _ (by omega) (by omega)), mRw_fr k3 (hf _ (by omega) (by omega)), mAr_fr k4 (hf _ (by omega) (by omega)), mDi_fr k5 (hf _ (by omega) (by omega)), mKp_fr k6 (hf _ (by omega) (by omega)) (hf _ (by omega) (by omega)), mwk_fr k7 (fun k _ _ => hf k (by omega) (by omega)), mGr_fr k8 (fun k _ _ => hf k (by omega) (by omega))⟩
section YL
variable {b Ls : Nat} {xs : Nat → Int32} {M : xM} {n0 mc ms : Nat} {Q : Option Value → Nat → xG → Prop} {X : String → Nat → xG → Prop} {p0 p1 p2 p3 p4 p5 : Nat} {L : List (Nat × Value)} {st : List Value} {n : Nat} {G : xG} {k c k2 c2 : Nat}
theorem ys_widen {E : State → (Nat → Prop) → Prop} {R0 : Option Nat} {pc : Nat} (h1 : k ≤ k2) (h2 : c ≤ c2) (K : yS E R0 M n0 mc ms Q X pc L st n G k2 c2) : yS E R0 M n0 mc ms Q X pc L st n G k c := by
  intro p l e s m args below meth cd D A ad0 ad H locs ls E0 C hH hS hX hl hc
  exact W.widen h1 h2 (K p l e s m args below meth cd D A ad0 ad H locs ls E0 C hH hS hX hl hc)
/-- the script's number at i + j -/
theorem ys_scr {i j : Nat} {jj : Int} (d0 : xD M p0 p1 1 (.aload_n 0)) (d1 : xD M p1 p2 2 (.iload 4)) (d2 : xD M p2 p3 1 (.iconst jj)) (d3 : xD M p3 p4 1 .iadd) (d4 : xD M p4 p5 1 .iaload) (h4 : xlk L 4 = some (.int (nI i))) (hj : Int32.ofInt jj = nI j) (hij : i + j < Ls) (hLs : Ls < 100000)
    (K : yS (yLE b Ls xs) (some b) M n0 mc ms Q X p5 L (.int (xs (i + j)) :: st) n G k c) : yS (yLE b Ls xs) (some b) M n0 mc ms Q X p0 L st n G k c := by
  intro p l e s m args below meth cd D A ad0 ad H locs ls E0 C hH hS hX hl hc
  obtain ⟨d0, rfl⟩ := d0
  obtain ⟨d1, rfl⟩ := d1
  obtain ⟨d2, rfl⟩ := d2
  obtain ⟨d3, rfl⟩ := d3
  obtain ⟨d4, rfl⟩ := d4
  refine lv_aload_n C.1.1 C.1.2.1 d0 rfl (E0.2 b rfl) ?_
  refine lv_iload C.1.1 C.1.2.1 d1 (xlk_ls hl h4) ?_
  refine lv_iconst C.1.1 C.1.2.1 d2 hj ?_
  refine lv_iadd C.1.1 C.1.2.1 d3 ?_
  rw [nI_add2]
  refine va_sld C.1.1 C.1.2.1 E0.1.1.1 E0.1.1.2.1 E0.1.1.2.2 hS (vp_in_nI hij (by omega)) d4 ?_
  rw [nI_clamp (by omega)]
  exact K p l e s m args below meth cd D A ad0 ad H locs ls E0 C hH hS hX hl ⟨hc.1, xSc_cons trivial hc.2⟩
theorem ys_scr0 {i : Nat} (d0 : xD M p0 p1 1 (.aload_n 0)) (d1 : xD M p1 p2 2 (.iload 4)) (d4 : xD M p2 p3 1 .iaload) (h4 : xlk L 4 = some (.int (nI i))) (hij : i < Ls) (hLs : Ls < 100000)
    (K : yS (yLE b Ls xs) (some b) M n0 mc ms Q X p3 L (.int (xs i) :: st) n G k c) : yS (yLE b Ls xs) (some b) M n0 mc ms Q X p0 L st n G k c := by
  intro p l e s m args below meth cd D A ad0 ad H locs ls E0 C hH hS hX hl hc
  obtain ⟨d0, rfl⟩ := d0
  obtain ⟨d1, rfl⟩ := d1
  obtain ⟨d4, rfl⟩ := d4
  refine lv_aload_n C.1.1 C.1.2.1 d0 rfl (E0.2 b rfl) ?_
  refine lv_iload C.1.1 C.1.2.1 d1 (xlk_ls hl h4) ?_
  refine va_sld C.1.1 C.1.2.1 E0.1.1.1 E0.1.1.2.1 E0.1.1.2.2 hS (vp_in_nI hij (by omega)) d4 ?_
  rw [nI_clamp (by omega)]
  exact K p l e s m args below meth cd D A ad0 ad H locs ls E0 C hH hS hX hl ⟨hc.1, xSc_cons trivial hc.2⟩
theorem ys_slen (d0 : xD M p0 p1 1 (.aload_n 0)) (d1 : xD M p1 p2 1 .arraylength)
    (K : yS (yLE b Ls xs) (some b) M n0 mc ms Q X p2 L (.int (nI Ls) :: st) n G k c) : yS (yLE b Ls xs) (some b) M n0 mc ms Q X p0 L st n G k c := by
  intro p l e s m args below meth cd D A ad0 ad H locs ls E0 C hH hS hX hl hc
  obtain ⟨d0, rfl⟩ := d0
  obtain ⟨d1, rfl⟩ := d1
  refine lv_aload_n C.1.1 C.1.2.1 d0 rfl (E0.2 b rfl) ?_
  refine va_slen C.1.1 C.1.2.1 E0.1.1.1 E0.1.1.2.1 E0.1.1.2.2 hS d1 ?_
  exact K p l e s m args below meth cd D A ad0 ad H locs ls E0 C hH hS hX hl ⟨hc.1, xSc_cons trivial hc.2⟩
end YL
section LT
variable {b Ls : Nat} {xs : Nat → Int32} {i k c : Nat} {R : zQ} {H : xG} {ou : Nat → Int64} {p0 p1 p2 p3 p4 p5 p6 p7 p8 p9 p10 p11 p12 p13 p14 p15 p16 p17 pE pF : Nat}
abbrev lL (i : Nat) : List (Nat × Value) := [(1, .ref 0), (2, .ref 528), (3, .ref 545), (4, .int (nI i))]
/-- behind both calls: the exception's number, and the value -/
theorem l_tail {q : Int32} (d0 : xD mL0 p0 p1 2 (.istore 6)) (d1 : xD mL0 p1 p2 1 (.aload_n 2)) (d2 : xD mL0 p2 p3 3 (.invokevirtual 106)) (d3 : xD mL0 p3 p4 2 (.iload 5)) (d4 : xDJ mL0 p4 p5 p6 (.if_icmp .eq)) (d5 : xD mL0 p6 p7 2 (.iload 5)) (d6 : xDJ mL0 p7 p8 pE (.ifCond .ne)) (d7 : xD mL0 p8 p9 1 (.aload_n 3)) (d8 : xD mL0 p9 p10 1 (.iconst 0)) (d9 : xD mL0 p10 p11 1 .laload) (d10 : xD mL0 p11 p12 2 (.iload 6)) (d11 : xD mL0 p12 p13 1 .i2l) (d12 : xD mL0 p13 p14 1 .lcmp) (d13 : xDJ mL0 p14 p15 pE (.ifCond .eq)) (dE : xDJ mL0 pE pF 1834 .goto)
    (hR2 : R.1 ≤ 2) (hz : fzo H 0 R.2.2) (hm : mdo H 528 (nI R.1) R.2.2) (hou : H 545 = oL 1 ou) (hw : R.1 = 0 → ou 0 = q.toInt64) (hkc : k ≤ 601024 ∧ c ≤ 7293034) (K : ∀ G2 S2, lI G2 S2 → lW b Ls xs 1834 (lL i) [] G2 k c) : lW b Ls xs p0 [(5, .int (nI R.1)), (1, .ref 0), (2, .ref 528), (3, .ref 545), (4, .int (nI i))] [.int q] H k c := by
  obtain ⟨⟨sp, gd, zs, ft, hc⟩, _⟩ := id hm
  have fin : lW b Ls xs pE [(6, .int q), (5, .int (nI R.1)), (1, .ref 0), (2, .ref 528), (3, .ref 545), (4, .int (nI i))] [] H k c := by
    refine ys_goto dE ?_
    refine ys_pick (L2 := [(1, _), (2, _), (3, _), (4, _)]) [2, 3, 4, 5] rfl ?_
    exact K H R.2.2 ⟨hz, ⟨_, hm⟩, _, hou⟩
  refine ys_istore (L2 := [(6, _), (5, _), (1, _), (2, _), (3, _), (4, _)]) d0 (by decide) rfl (by decide) ?_
  refine ys_aload_n d1 rfl ?_
  refine ys_cV_i (As := []) d2 lkL_106 hc (k_B_thrown hc) rfl rfl (Nat.le_of_ble_eq_true rfl) ⟨by decide, by decide⟩ hkc ?_
  refine ys_iload d3 rfl ?_
  refine ys_icmp_eq d4 (fun _ => ?_) (fun h => absurd rfl h)
  refine ys_iload d5 rfl ?_
  refine ys_if_ne d6 (fun _ => fin) (fun h => ?_)
  have h0 : R.1 = 0 := (nI_eq (b := 0) (by omega) (by decide)).mp h
  refine ys_aload_n d7 rfl ?_
  refine ys_iconst (v := 0) d8 (by decide) ?_
  refine ys_lald d9 hou in1_0 ?_
  rw [show (0 : Int32).toNatClampNeg = 0 from by decide, hw h0]
  refine ys_iload d10 rfl ?_
  refine ys_i2l d11 ?_
  exact ys_lc_eq d12 d13 (fun _ => fin) (fun h => absurd rfl h)
theorem l_tailL {q : Int64} (d0 : xD mL0 p0 p1 2 (.lstore 6)) (d1 : xD mL0 p1 p2 1 (.aload_n 2)) (d2 : xD mL0 p2 p3 3 (.invokevirtual 106)) (d3 : xD mL0 p3 p4 2 (.iload 5)) (d4 : xDJ mL0 p4 p5 p6 (.if_icmp .eq)) (d5 : xD mL0 p6 p7 2 (.iload 5)) (d6 : xDJ mL0 p7 p8 pE (.ifCond .ne)) (d7 : xD mL0 p8 p9 1 (.aload_n 3)) (d8 : xD mL0 p9 p10 1 (.iconst 0)) (d9 : xD mL0 p10 p11 1 .laload) (d10 : xD mL0 p11 p12 2 (.lload 6)) (d12 : xD mL0 p12 p14 1 .lcmp) (d13 : xDJ mL0 p14 p15 pE (.ifCond .eq)) (dE : xDJ mL0 pE pF 1834 .goto)
    (hR2 : R.1 ≤ 2) (hz : fzo H 0 R.2.2) (hm : mdo H 528 (nI R.1) R.2.2) (hou : H 545 = oL 1 ou) (hw : R.1 = 0 → ou 0 = q) (hkc : k ≤ 601024 ∧ c ≤ 7293034) (K : ∀ G2 S2, lI G2 S2 → lW b Ls xs 1834 (lL i) [] G2 k c) : lW b Ls xs p0 [(5, .int (nI R.1)), (1, .ref 0), (2, .ref 528), (3, .ref 545), (4, .int (nI i))] [.long q] H k c := by
  obtain ⟨⟨sp, gd, zs, ft, hc⟩, _⟩ := id hm
  have fin : lW b Ls xs pE [(6, .long q), (5, .int (nI R.1)), (1, .ref 0), (2, .ref 528), (3, .ref 545), (4, .int (nI i))] [] H k c := by
    refine ys_goto dE ?_
    refine ys_pick (L2 := [(1, _), (2, _), (3, _), (4, _)]) [2, 3, 4, 5] rfl ?_
    exact K H R.2.2 ⟨hz, ⟨_, hm⟩, _, hou⟩
  refine ys_lstore (L2 := [(6, _), (5, _), (1, _), (2, _), (3, _), (4, _)]) d0 (by decide) rfl (by decide) ?_
  refine ys_aload_n d1 rfl ?_
  refine ys_cV_i (As := []) d2 lkL_106 hc (k_B_thrown hc) rfl rfl (Nat.le_of_ble_eq_true rfl) ⟨by decide, by decide⟩ hkc ?_
  refine ys_iload d3 rfl ?_
  refine ys_icmp_eq d4 (fun _ => ?_) (fun h => absurd rfl h)
  refine ys_iload d5 rfl ?_
  refine ys_if_ne d6 (fun _ => fin) (fun h => ?_)
  have h0 : R.1 = 0 := (nI_eq (b := 0) (by omega) (by decide)).mp h
  refine ys_aload_n d7 rfl ?_
  refine ys_iconst (v := 0) d8 (by decide) ?_
  refine ys_lald d9 hou in1_0 ?_
  rw [show (0 : Int32).toNatClampNeg = 0 from by decide, hw h0]
  refine ys_lload d10 rfl ?_
  exact ys_lc_eq d12 d13 (fun _ => fin) (fun h => absurd rfl h)
theorem l_tailZ {q : Int32} (d0 : xD mL0 p0 p1 2 (.istore 6)) (d1 : xD mL0 p1 p2 1 (.aload_n 2)) (d2 : xD mL0 p2 p3 3 (.invokevirtual 106)) (d3 : xD mL0 p3 p4 2 (.iload 5)) (d4 : xDJ mL0 p4 p5 p6 (.if_icmp .eq)) (d5 : xD mL0 p6 p7 2 (.iload 5)) (d6 : xDJ mL0 p7 p8 pE (.ifCond .ne)) (d7 : xD mL0 p8 p9 1 (.aload_n 3)) (d8 : xD mL0 p9 p10 1 (.iconst 0)) (d9 : xD mL0 p10 p11 1 .laload) (d10 : xD mL0 p11 p12 2 (.iload 6)) (d11 : xDJ mL0 p12 p13 p16 (.ifCond .eq)) (d14 : xD mL0 p13 p14 1 (.lconst 1)) (d15 : xDJ mL0 p14 p15 p17 .goto) (d16 : xD mL0 p16 p17 1 (.lconst 0)) {q1 q2 : Nat} (d12 : xD mL0 p17 q1 1 .lcmp) (d13 : xDJ mL0 q1 q2 pE (.ifCond .eq)) (dE : xDJ mL0 pE pF 1834 .goto)
    (hR2 : R.1 ≤ 2) (hz : fzo H 0 R.2.2) (hm : mdo H 528 (nI R.1) R.2.2) (hou : H 545 = oL 1 ou) (hw : R.1 = 0 → ou 0 = if q = 0 then 0 else 1) (hkc : k ≤ 601024 ∧ c ≤ 7293034) (K : ∀ G2 S2, lI G2 S2 → lW b Ls xs 1834 (lL i) [] G2 k c) : lW b Ls xs p0 [(5, .int (nI R.1)), (1, .ref 0), (2, .ref 528), (3, .ref 545), (4, .int (nI i))] [.int q] H k c := by
  obtain ⟨⟨sp, gd, zs, ft, hc⟩, _⟩ := id hm
  have fin : lW b Ls xs pE [(6, .int q), (5, .int (nI R.1)), (1, .ref 0), (2, .ref 528), (3, .ref 545), (4, .int (nI i))] [] H k c := by
    refine ys_goto dE ?_
    refine ys_pick (L2 := [(1, _), (2, _), (3, _), (4, _)]) [2, 3, 4, 5] rfl ?_
    exact K H R.2.2 ⟨hz, ⟨_, hm⟩, _, hou⟩
  refine ys_istore (L2 := [(6, _), (5, _), (1, _), (2, _), (3, _), (4, _)]) d0 (by decide) rfl (by decide) ?_
  refine ys_aload_n d1 rfl ?_
  refine ys_cV_i (As := []) d2 lkL_106 hc (k_B_thrown hc) rfl rfl (Nat.le_of_ble_eq_true rfl) ⟨by decide, by decide⟩ hkc ?_
  refine ys_iload d3 rfl ?_
  refine ys_icmp_eq d4 (fun _ => ?_) (fun h => absurd rfl h)
  refine ys_iload d5 rfl ?_
  refine ys_if_ne d6 (fun _ => fin) (fun h => ?_)
  have h0 : R.1 = 0 := (nI_eq (b := 0) (by omega) (by decide)).mp h
  refine ys_aload_n d7 rfl ?_
  refine ys_iconst (v := 0) d8 (by decide) ?_
  refine ys_lald d9 hou in1_0 ?_
  rw [show (0 : Int32).toNatClampNeg = 0 from by decide, hw h0]
  refine ys_iload d10 rfl ?_
  refine ys_if_eq d11 (fun e => ?_) (fun e => ?_)
  · rw [if_pos e]
    refine ys_lconst (v := 0) d16 (by decide) ?_
    exact ys_lc_eq d12 d13 (fun _ => fin) (fun h => absurd rfl h)
  · rw [if_neg e]
    refine ys_lconst (v := 1) d14 (by decide) ?_
    refine ys_goto d15 ?_
    exact ys_lc_eq d12 d13 (fun _ => fin) (fun h => absurd rfl h)
end LT
section LC
variable {b Ls : Nat} {xs : Nat → Int32} {S : zS} {G : xG} {i k c : Nat}
theorem law_append (hI : lI G S) (hi : i + 5 ≤ Ls) (hL : Ls ≤ 2560) (hkc : k + 1 ≤ 601024 ∧ c + 6 ≤ 7293034) (K : ∀ G2 S2, lI G2 S2 → lW b Ls xs 1834 (lL i) [] G2 (k + 1) (c + 6)) : lW b Ls xs 164 (lL i) [] G k c := by
  obtain ⟨hA, ⟨rf, hB⟩, ou, hO⟩ := hI
  refine ys_aload_n dL_law_164 rfl ?_
  refine ys_scr (j := 1) dL_law_165 dL_law_166 dL_law_168 dL_law_169 dL_law_170 rfl (iI_nat 1).symm (by omega) (by omega) ?_
  refine ys_aload_n dL_law_171 rfl ?_
  refine ys_callSW (As := [_, _, _]) (fun _ _ h => h.2) dL_law_172 lkW_100 (k_L_append hA hO (Or.inr (by omega))) rfl rfl (Nat.le_of_ble_eq_true rfl) ⟨by decide, by decide⟩ hkc (fun v m H hq _ => ?_)
  obtain ⟨rfl, rfl, q0, q1, ⟨ou2, q2, q3⟩, q4⟩ := hq
  refine ys_istore (L2 := [(5, _), (1, _), (2, _), (3, _), (4, _)]) dL_law_175 (by decide) rfl (by decide) ?_
  refine ys_aload_n dL_law_177 rfl ?_
  refine ys_scr (j := 1) dL_law_178 dL_law_179 dL_law_181 dL_law_182 dL_law_183 rfl (iI_nat 1).symm (by omega) (by omega) ?_
  have hB2 := mdo_fr hB (fun k h1 h2 => q4 k (by omega) (by omega))
  obtain ⟨⟨sp, gd, zs, ft, hc⟩, _⟩ := id hB2
  refine ys_cV_ix (As := [_]) dL_law_184 lkL_105 hc (k_B_append hB2) rfl rfl (Nat.le_of_ble_eq_true rfl) ⟨by decide, by decide⟩ hkc ?_
  intro q H2 ⟨r1, r2, r3⟩
  exact l_tail dL_law_187 dL_law_189 dL_law_190 dL_law_193 dL_law_195 dL_law_200 dL_law_202 dL_law_205 dL_law_206 dL_law_207 dL_law_208 dL_law_210 dL_law_211 dL_law_212 dL_law_217 q0 (fzo_fr q1 (fun k h1 h2 => r3 k (by omega))) r2 ((r3 545 (by omega)).trans q2) (fun e => by rw [q3 e, r1 e]) hkc K
theorem law_clearText (hI : lI G S) (hi : i + 5 ≤ Ls) (hL : Ls ≤ 2560) (hkc : k + 1 ≤ 601024 ∧ c + 6 ≤ 7293034) (K : ∀ G2 S2, lI G2 S2 → lW b Ls xs 1834 (lL i) [] G2 (k + 1) (c + 6)) : lW b Ls xs 220 (lL i) [] G k c := by
  obtain ⟨hA, ⟨rf, hB⟩, ou, hO⟩ := hI
  refine ys_aload_n dL_law_220 rfl ?_
  refine ys_A0 (As := []) dL_law_221 lkL_109 hA (k_A_clearText hA) rfl rfl (Nat.le_of_ble_eq_true rfl) ⟨by decide, by decide⟩ hkc (fun H h0 hz hf => ?_)
  refine ys_aload_n dL_law_224 rfl ?_
  have hB2 := mdo_fr hB (fun k h1 h2 => hf k (by omega))
  obtain ⟨⟨sp, gd, zs, ft, hc⟩, _⟩ := id hB2
  refine ys_cV_ix (As := []) dL_law_225 lkL_112 hc (k_B_clearText hB2) rfl rfl (Nat.le_of_ble_eq_true rfl) ⟨by decide, by decide⟩ hkc ?_
  intro q H2 ⟨r1, r2, r3⟩
  rw [r1 h0]
  refine ys_icmp_eq dL_law_228 (fun _ => ?_) (fun h => absurd rfl h)
  exact K H2 _ ⟨fzo_fr hz (fun k h1 h2 => r3 k (by omega)), ⟨_, r2⟩, ou, (r3 545 (by omega)).trans ((hf 545 (by omega)).trans hO)⟩
theorem law_errorPosition (hI : lI G S) (hi : i + 5 ≤ Ls) (hL : Ls ≤ 2560) (hkc : k + 1 ≤ 601024 ∧ c + 6 ≤ 7293034) (K : ∀ G2 S2, lI G2 S2 → lW b Ls xs 1834 (lL i) [] G2 (k + 1) (c + 6)) : lW b Ls xs 233 (lL i) [] G k c := by
  obtain ⟨hA, ⟨rf, hB⟩, ou, hO⟩ := hI
  refine ys_aload_n dL_law_233 rfl ?_
  refine ys_A0 (As := []) dL_law_234 lkL_113 hA (k_A_errorPosition hA) rfl rfl (Nat.le_of_ble_eq_true rfl) ⟨by decide, by decide⟩ hkc (fun H h0 hz hf => ?_)
  refine ys_aload_n dL_law_237 rfl ?_
  have hB2 := mdo_fr hB (fun k h1 h2 => hf k (by omega))
  obtain ⟨⟨sp, gd, zs, ft, hc⟩, _⟩ := id hB2
  refine ys_cV_ix (As := []) dL_law_238 lkL_116 hc (k_B_errorPosition hB2) rfl rfl (Nat.le_of_ble_eq_true rfl) ⟨by decide, by decide⟩ hkc ?_
  intro q H2 ⟨r1, r2, r3⟩
  rw [r1 h0]
  refine ys_icmp_eq dL_law_241 (fun _ => ?_) (fun h => absurd rfl h)
  exact K H2 _ ⟨fzo_fr hz (fun k h1 h2 => r3 k (by omega)), ⟨_, r2⟩, ou, (r3 545 (by omega)).trans ((hf 545 (by omega)).trans hO)⟩
theorem law_load (hI : lI G S) (hi : i + 5 ≤ Ls) (hL : Ls ≤ 2560) (hkc : k + 1 ≤ 601024 ∧ c + 6 ≤ 7293034) (K : ∀ G2 S2, lI G2 S2 → lW b Ls xs 1834 (lL i) [] G2 (k + 1) (c + 6)) : lW b Ls xs 246 (lL i) [] G k c := by
  obtain ⟨hA, ⟨rf, hB⟩, ou, hO⟩ := hI
  refine ys_aload_n dL_law_246 rfl ?_
  refine ys_aload_n dL_law_247 rfl ?_
  refine ys_callSW (As := [_, _]) (fun _ _ h => h.2) dL_law_248 lkW_117 (k_L_load hA hO (Or.inr (by omega))) rfl rfl (Nat.le_of_ble_eq_true rfl) ⟨by decide, by decide⟩ hkc (fun v m H hq _ => ?_)
  obtain ⟨rfl, rfl, q0, q1, ⟨ou2, q2, q3⟩, q4⟩ := hq
  refine ys_istore (L2 := [(5, _), (1, _), (2, _), (3, _), (4, _)]) dL_law_251 (by decide) rfl (by decide) ?_
  refine ys_aload_n dL_law_253 rfl ?_
  have hB2 := mdo_fr hB (fun k h1 h2 => q4 k (by omega) (by omega))
  obtain ⟨⟨sp, gd, zs, ft, hc⟩, _⟩ := id hB2
  refine ys_cV_ix (As := []) dL_law_254 lkL_120 hc (k_B_load hB2) rfl rfl (Nat.le_of_ble_eq_true rfl) ⟨by decide, by decide⟩ hkc ?_
  intro q H2 ⟨r1, r2, r3⟩
  exact l_tail dL_law_257 dL_law_259 dL_law_260 dL_law_263 dL_law_265 dL_law_270 dL_law_272 dL_law_275 dL_law_276 dL_law_277 dL_law_278 dL_law_280 dL_law_281 dL_law_282 dL_law_287 q0 (fzo_fr q1 (fun k h1 h2 => r3 k (by omega))) r2 ((r3 545 (by omega)).trans q2) (fun e => by rw [q3 e, r1 e]) hkc K
theorem law_about (hI : lI G S) (hi : i + 5 ≤ Ls) (hL : Ls ≤ 2560) (hkc : k + 1 ≤ 601024 ∧ c + 6 ≤ 7293034) (K : ∀ G2 S2, lI G2 S2 → lW b Ls xs 1834 (lL i) [] G2 (k + 1) (c + 6)) : lW b Ls xs 290 (lL i) [] G k c := by
  obtain ⟨hA, ⟨rf, hB⟩, ou, hO⟩ := hI
  refine ys_aload_n dL_law_290 rfl ?_
  refine ys_scr (j := 1) dL_law_291 dL_law_292 dL_law_294 dL_law_295 dL_law_296 rfl (iI_nat 1).symm (by omega) (by omega) ?_
  refine ys_aload_n dL_law_297 rfl ?_
  refine ys_callSW (As := [_, _, _]) (fun _ _ h => h.2) dL_law_298 lkW_121 (k_L_about hA hO (Or.inr (by omega))) rfl rfl (Nat.le_of_ble_eq_true rfl) ⟨by decide, by decide⟩ hkc (fun v m H hq _ => ?_)
  obtain ⟨rfl, rfl, q0, q1, ⟨ou2, q2, q3⟩, q4⟩ := hq
  refine ys_istore (L2 := [(5, _), (1, _), (2, _), (3, _), (4, _)]) dL_law_301 (by decide) rfl (by decide) ?_
  refine ys_aload_n dL_law_303 rfl ?_
  refine ys_scr (j := 1) dL_law_304 dL_law_305 dL_law_307 dL_law_308 dL_law_309 rfl (iI_nat 1).symm (by omega) (by omega) ?_
  have hB2 := mdo_fr hB (fun k h1 h2 => q4 k (by omega) (by omega))
  obtain ⟨⟨sp, gd, zs, ft, hc⟩, _⟩ := id hB2
  refine ys_cV_ix (As := [_]) dL_law_310 lkL_123 hc (k_B_about hB2) rfl rfl (Nat.le_of_ble_eq_true rfl) ⟨by decide, by decide⟩ hkc ?_
  intro q H2 ⟨r1, r2, r3⟩
  exact l_tail dL_law_313 dL_law_315 dL_law_316 dL_law_319 dL_law_321 dL_law_326 dL_law_328 dL_law_331 dL_law_332 dL_law_333 dL_law_334 dL_law_336 dL_law_337 dL_law_338 dL_law_343 q0 (fzo_fr q1 (fun k h1 h2 => r3 k (by omega))) r2 ((r3 545 (by omega)).trans q2) (fun e => by rw [q3 e, r1 e]) hkc K
theorem law_face (hI : lI G S) (hi : i + 5 ≤ Ls) (hL : Ls ≤ 2560) (hkc : k + 1 ≤ 601024 ∧ c + 6 ≤ 7293034) (K : ∀ G2 S2, lI G2 S2 → lW b Ls xs 1834 (lL i) [] G2 (k + 1) (c + 6)) : lW b Ls xs 346 (lL i) [] G k c := by
  obtain ⟨hA, ⟨rf, hB⟩, ou, hO⟩ := hI
  refine ys_aload_n dL_law_346 rfl ?_
  refine ys_scr (j := 1) dL_law_347 dL_law_348 dL_law_350 dL_law_351 dL_law_352 rfl (iI_nat 1).symm (by omega) (by omega) ?_
  refine ys_scr (j := 2) dL_law_353 dL_law_354 dL_law_356 dL_law_357 dL_law_358 rfl (iI_nat 2).symm (by omega) (by omega) ?_
  refine ys_aload_n dL_law_359 rfl ?_
  refine ys_callSW (As := [_, _, _, _]) (fun _ _ h => h.2) dL_law_360 lkW_124 (k_L_face hA hO (Or.inr (by omega))) rfl rfl (Nat.le_of_ble_eq_true rfl) ⟨by decide, by decide⟩ hkc (fun v m H hq _ => ?_)
  obtain ⟨rfl, rfl, q0, q1, ⟨ou2, q2, q3⟩, q4⟩ := hq
  refine ys_istore (L2 := [(5, _), (1, _), (2, _), (3, _), (4, _)]) dL_law_363 (by decide) rfl (by decide) ?_
  refine ys_aload_n dL_law_365 rfl ?_
  refine ys_scr (j := 1) dL_law_366 dL_law_367 dL_law_369 dL_law_370 dL_law_371 rfl (iI_nat 1).symm (by omega) (by omega) ?_
  refine ys_scr (j := 2) dL_law_372 dL_law_373 dL_law_375 dL_law_376 dL_law_377 rfl (iI_nat 2).symm (by omega) (by omega) ?_
  have hB2 := mdo_fr hB (fun k h1 h2 => q4 k (by omega) (by omega))
  obtain ⟨⟨sp, gd, zs, ft, hc⟩, _⟩ := id hB2
  refine ys_cV_ix (As := [_, _]) dL_law_378 lkL_127 hc (k_B_face hB2) rfl rfl (Nat.le_of_ble_eq_true rfl) ⟨by decide, by decide⟩ hkc ?_
  intro q H2 ⟨r1, r2, r3⟩
  exact l_tail dL_law_381 dL_law_383 dL_law_384 dL_law_387 dL_law_389 dL_law_394 dL_law_396 dL_law_399 dL_law_400 dL_law_401 dL_law_402 dL_law_404 dL_law_405 dL_law_406 dL_law_411 q0 (fzo_fr q1 (fun k h1 h2 => r3 k (by omega))) r2 ((r3 545 (by omega)).trans q2) (fun e => by rw [q3 e, r1 e]) hkc K
theorem law_zone (hI : lI G S) (hi : i + 5 ≤ Ls) (hL : Ls ≤ 2560) (hkc : k + 1 ≤ 601024 ∧ c + 6 ≤ 7293034) (K : ∀ G2 S2, lI G2 S2 → lW b Ls xs 1834 (lL i) [] G2 (k + 1) (c + 6)) : lW b Ls xs 414 (lL i) [] G k c := by
  obtain ⟨hA, ⟨rf, hB⟩, ou, hO⟩ := hI
  refine ys_aload_n dL_law_414 rfl ?_
  refine ys_scr (j := 1) dL_law_415 dL_law_416 dL_law_418 dL_law_419 dL_law_420 rfl (iI_nat 1).symm (by omega) (by omega) ?_
  refine ys_scr (j := 2) dL_law_421 dL_law_422 dL_law_424 dL_law_425 dL_law_426 rfl (iI_nat 2).symm (by omega) (by omega) ?_
  refine ys_aload_n dL_law_427 rfl ?_
  refine ys_callSW (As := [_, _, _, _]) (fun _ _ h => h.2) dL_law_428 lkW_128 (k_L_zone hA hO (Or.inr (by omega))) rfl rfl (Nat.le_of_ble_eq_true rfl) ⟨by decide, by decide⟩ hkc (fun v m H hq _ => ?_)
  obtain ⟨rfl, rfl, q0, q1, ⟨ou2, q2, q3⟩, q4⟩ := hq
  refine ys_istore (L2 := [(5, _), (1, _), (2, _), (3, _), (4, _)]) dL_law_431 (by decide) rfl (by decide) ?_
  refine ys_aload_n dL_law_433 rfl ?_
  refine ys_scr (j := 1) dL_law_434 dL_law_435 dL_law_437 dL_law_438 dL_law_439 rfl (iI_nat 1).symm (by omega) (by omega) ?_
  refine ys_scr (j := 2) dL_law_440 dL_law_441 dL_law_443 dL_law_444 dL_law_445 rfl (iI_nat 2).symm (by omega) (by omega) ?_
  have hB2 := mdo_fr hB (fun k h1 h2 => q4 k (by omega) (by omega))
  obtain ⟨⟨sp, gd, zs, ft, hc⟩, _⟩ := id hB2
  refine ys_cV_ix (As := [_, _]) dL_law_446 lkL_130 hc (k_B_zone hB2) rfl rfl (Nat.le_of_ble_eq_true rfl) ⟨by decide, by decide⟩ hkc ?_
  intro q H2 ⟨r1, r2, r3⟩
  exact l_tail dL_law_449 dL_law_451 dL_law_452 dL_law_455 dL_law_457 dL_law_462 dL_law_464 dL_law_467 dL_law_468 dL_law_469 dL_law_470 dL_law_472 dL_law_473 dL_law_474 dL_law_479 q0 (fzo_fr q1 (fun k h1 h2 => r3 k (by omega))) r2 ((r3 545 (by omega)).trans q2) (fun e => by rw [q3 e, r1 e]) hkc K
theorem law_zoneOf (hI : lI G S) (hi : i + 5 ≤ Ls) (hL : Ls ≤ 2560) (hkc : k + 1 ≤ 601024 ∧ c + 6 ≤ 7293034) (K : ∀ G2 S2, lI G2 S2 → lW b Ls xs 1834 (lL i) [] G2 (k + 1) (c + 6)) : lW b Ls xs 482 (lL i) [] G k c := by
  obtain ⟨hA, ⟨rf, hB⟩, ou, hO⟩ := hI
  refine ys_aload_n dL_law_482 rfl ?_
  refine ys_scr (j := 1) dL_law_483 dL_law_484 dL_law_486 dL_law_487 dL_law_488 rfl (iI_nat 1).symm (by omega) (by omega) ?_
  refine ys_scr (j := 2) dL_law_489 dL_law_490 dL_law_492 dL_law_493 dL_law_494 rfl (iI_nat 2).symm (by omega) (by omega) ?_
  refine ys_aload_n dL_law_495 rfl ?_
  refine ys_callSW (As := [_, _, _, _]) (fun _ _ h => h.2) dL_law_496 lkW_131 (k_L_zoneOf hA hO (Or.inr (by omega))) rfl rfl (Nat.le_of_ble_eq_true rfl) ⟨by decide, by decide⟩ hkc (fun v m H hq _ => ?_)
  obtain ⟨rfl, rfl, q0, q1, ⟨ou2, q2, q3⟩, q4⟩ := hq
  refine ys_istore (L2 := [(5, _), (1, _), (2, _), (3, _), (4, _)]) dL_law_499 (by decide) rfl (by decide) ?_
  refine ys_aload_n dL_law_501 rfl ?_
  refine ys_scr (j := 1) dL_law_502 dL_law_503 dL_law_505 dL_law_506 dL_law_507 rfl (iI_nat 1).symm (by omega) (by omega) ?_
  refine ys_scr (j := 2) dL_law_508 dL_law_509 dL_law_511 dL_law_512 dL_law_513 rfl (iI_nat 2).symm (by omega) (by omega) ?_
  have hB2 := mdo_fr hB (fun k h1 h2 => q4 k (by omega) (by omega))
  obtain ⟨⟨sp, gd, zs, ft, hc⟩, _⟩ := id hB2
  refine ys_cV_ix (As := [_, _]) dL_law_514 lkL_133 hc (k_B_zoneOf hB2) rfl rfl (Nat.le_of_ble_eq_true rfl) ⟨by decide, by decide⟩ hkc ?_
  intro q H2 ⟨r1, r2, r3⟩
  exact l_tail dL_law_517 dL_law_519 dL_law_520 dL_law_523 dL_law_525 dL_law_530 dL_law_532 dL_law_535 dL_law_536 dL_law_537 dL_law_538 dL_law_540 dL_law_541 dL_law_542 dL_law_547 q0 (fzo_fr q1 (fun k h1 h2 => r3 k (by omega))) r2 ((r3 545 (by omega)).trans q2) (fun e => by rw [q3 e, r1 e]) hkc K
theorem law_inZone (hI : lI G S) (hi : i + 5 ≤ Ls) (hL : Ls ≤ 2560) (hkc : k + 1 ≤ 601024 ∧ c + 6 ≤ 7293034) (K : ∀ G2 S2, lI G2 S2 → lW b Ls xs 1834 (lL i) [] G2 (k + 1) (c + 6)) : lW b Ls xs 550 (lL i) [] G k c := by
  obtain ⟨hA, ⟨rf, hB⟩, ou, hO⟩ := hI
  refine ys_aload_n dL_law_550 rfl ?_
  refine ys_scr (j := 1) dL_law_551 dL_law_552 dL_law_554 dL_law_555 dL_law_556 rfl (iI_nat 1).symm (by omega) (by omega) ?_
  refine ys_scr (j := 2) dL_law_557 dL_law_558 dL_law_560 dL_law_561 dL_law_562 rfl (iI_nat 2).symm (by omega) (by omega) ?_
  refine ys_scr (j := 3) dL_law_563 dL_law_564 dL_law_566 dL_law_567 dL_law_568 rfl (iI_nat 3).symm (by omega) (by omega) ?_
  refine ys_aload_n dL_law_569 rfl ?_
  refine ys_callSW (As := [_, _, _, _, _]) (fun _ _ h => h.2) dL_law_570 lkW_134 (k_L_inZone hA hO (Or.inr (by omega))) rfl rfl (Nat.le_of_ble_eq_true rfl) ⟨by decide, by decide⟩ hkc (fun v m H hq _ => ?_)
  obtain ⟨rfl, rfl, q0, q1, ⟨ou2, q2, q3⟩, q4⟩ := hq
  refine ys_istore (L2 := [(5, _), (1, _), (2, _), (3, _), (4, _)]) dL_law_573 (by decide) rfl (by decide) ?_
  refine ys_aload_n dL_law_575 rfl ?_
  refine ys_scr (j := 1) dL_law_576 dL_law_577 dL_law_579 dL_law_580 dL_law_581 rfl (iI_nat 1).symm (by omega) (by omega) ?_
  refine ys_scr (j := 2) dL_law_582 dL_law_583 dL_law_585 dL_law_586 dL_law_587 rfl (iI_nat 2).symm (by omega) (by omega) ?_
  refine ys_scr (j := 3) dL_law_588 dL_law_589 dL_law_591 dL_law_592 dL_law_593 rfl (iI_nat 3).symm (by omega) (by omega) ?_
  have hB2 := mdo_fr hB (fun k h1 h2 => q4 k (by omega) (by omega))
  obtain ⟨⟨sp, gd, zs, ft, hc⟩, _⟩ := id hB2
  refine ys_cV_ix (As := [_, _, _]) dL_law_594 lkL_137 hc (k_B_inZone hB2) rfl rfl (Nat.le_of_ble_eq_true rfl) ⟨by decide, by decide⟩ hkc ?_
  intro q H2 ⟨r1, r2, r3⟩
  exact l_tail dL_law_597 dL_law_599 dL_law_600 dL_law_603 dL_law_605 dL_law_610 dL_law_612 dL_law_615 dL_law_616 dL_law_617 dL_law_618 dL_law_620 dL_law_621 dL_law_622 dL_law_627 q0 (fzo_fr q1 (fun k h1 h2 => r3 k (by omega))) r2 ((r3 545 (by omega)).trans q2) (fun e => by rw [q3 e, r1 e]) hkc K
theorem law_cross (hI : lI G S) (hi : i + 5 ≤ Ls) (hL : Ls ≤ 2560) (hkc : k + 1 ≤ 601024 ∧ c + 6 ≤ 7293034) (K : ∀ G2 S2, lI G2 S2 → lW b Ls xs 1834 (lL i) [] G2 (k + 1) (c + 6)) : lW b Ls xs 630 (lL i) [] G k c := by
  obtain ⟨hA, ⟨rf, hB⟩, ou, hO⟩ := hI
  refine ys_aload_n dL_law_630 rfl ?_
  refine ys_scr (j := 1) dL_law_631 dL_law_632 dL_law_634 dL_law_635 dL_law_636 rfl (iI_nat 1).symm (by omega) (by omega) ?_
  refine ys_scr (j := 2) dL_law_637 dL_law_638 dL_law_640 dL_law_641 dL_law_642 rfl (iI_nat 2).symm (by omega) (by omega) ?_
  refine ys_scr (j := 3) dL_law_643 dL_law_644 dL_law_646 dL_law_647 dL_law_648 rfl (iI_nat 3).symm (by omega) (by omega) ?_
  refine ys_aload_n dL_law_649 rfl ?_
  refine ys_callSW (As := [_, _, _, _, _]) (fun _ _ h => h.2) dL_law_650 lkW_138 (k_L_cross hA hO (Or.inr (by omega))) rfl rfl (Nat.le_of_ble_eq_true rfl) ⟨by decide, by decide⟩ hkc (fun v m H hq _ => ?_)
  obtain ⟨rfl, rfl, q0, q1, ⟨ou2, q2, q3⟩, q4⟩ := hq
  refine ys_istore (L2 := [(5, _), (1, _), (2, _), (3, _), (4, _)]) dL_law_653 (by decide) rfl (by decide) ?_
  refine ys_aload_n dL_law_655 rfl ?_
  refine ys_scr (j := 1) dL_law_656 dL_law_657 dL_law_659 dL_law_660 dL_law_661 rfl (iI_nat 1).symm (by omega) (by omega) ?_
  refine ys_scr (j := 2) dL_law_662 dL_law_663 dL_law_665 dL_law_666 dL_law_667 rfl (iI_nat 2).symm (by omega) (by omega) ?_
  refine ys_scr (j := 3) dL_law_668 dL_law_669 dL_law_671 dL_law_672 dL_law_673 rfl (iI_nat 3).symm (by omega) (by omega) ?_
  have hB2 := mdo_fr hB (fun k h1 h2 => q4 k (by omega) (by omega))
  obtain ⟨⟨sp, gd, zs, ft, hc⟩, _⟩ := id hB2
  refine ys_cV_lx (As := [_, _, _]) dL_law_674 lkL_140 hc (k_B_cross hB2) rfl rfl (Nat.le_of_ble_eq_true rfl) ⟨by decide, by decide⟩ hkc ?_
  intro q H2 ⟨r1, r2, r3⟩
  exact l_tailL dL_law_677 dL_law_679 dL_law_680 dL_law_683 dL_law_685 dL_law_690 dL_law_692 dL_law_695 dL_law_696 dL_law_697 dL_law_698 dL_law_700 dL_law_701 dL_law_706 q0 (fzo_fr q1 (fun k h1 h2 => r3 k (by omega))) r2 ((r3 545 (by omega)).trans q2) (fun e => by rw [q3 e, r1 e]) hkc K
theorem law_angle (hI : lI G S) (hi : i + 5 ≤ Ls) (hL : Ls ≤ 2560) (hkc : k + 1 ≤ 601024 ∧ c + 6 ≤ 7293034) (K : ∀ G2 S2, lI G2 S2 → lW b Ls xs 1834 (lL i) [] G2 (k + 1) (c + 6)) : lW b Ls xs 709 (lL i) [] G k c := by
  obtain ⟨hA, ⟨rf, hB⟩, ou, hO⟩ := hI
  refine ys_aload_n dL_law_709 rfl ?_
  refine ys_scr (j := 1) dL_law_710 dL_law_711 dL_law_713 dL_law_714 dL_law_715 rfl (iI_nat 1).symm (by omega) (by omega) ?_
  refine ys_scr (j := 2) dL_law_716 dL_law_717 dL_law_719 dL_law_720 dL_law_721 rfl (iI_nat 2).symm (by omega) (by omega) ?_
  refine ys_aload_n dL_law_722 rfl ?_
  refine ys_callSW (As := [_, _, _, _]) (fun _ _ h => h.2) dL_law_723 lkW_141 (k_L_angle hA hO (Or.inr (by omega))) rfl rfl (Nat.le_of_ble_eq_true rfl) ⟨by decide, by decide⟩ hkc (fun v m H hq _ => ?_)
  obtain ⟨rfl, rfl, q0, q1, ⟨ou2, q2, q3⟩, q4⟩ := hq
  refine ys_istore (L2 := [(5, _), (1, _), (2, _), (3, _), (4, _)]) dL_law_726 (by decide) rfl (by decide) ?_
  refine ys_aload_n dL_law_728 rfl ?_
  refine ys_scr (j := 1) dL_law_729 dL_law_730 dL_law_732 dL_law_733 dL_law_734 rfl (iI_nat 1).symm (by omega) (by omega) ?_
  refine ys_scr (j := 2) dL_law_735 dL_law_736 dL_law_738 dL_law_739 dL_law_740 rfl (iI_nat 2).symm (by omega) (by omega) ?_
  have hB2 := mdo_fr hB (fun k h1 h2 => q4 k (by omega) (by omega))
  obtain ⟨⟨sp, gd, zs, ft, hc⟩, _⟩ := id hB2
  refine ys_cV_ix (As := [_, _]) dL_law_741 lkL_143 hc (k_B_angle hB2) rfl rfl (Nat.le_of_ble_eq_true rfl) ⟨by decide, by decide⟩ hkc ?_
  intro q H2 ⟨r1, r2, r3⟩
  exact l_tail dL_law_744 dL_law_746 dL_law_747 dL_law_750 dL_law_752 dL_law_757 dL_law_759 dL_law_762 dL_law_763 dL_law_764 dL_law_765 dL_law_767 dL_law_768 dL_law_769 dL_law_774 q0 (fzo_fr q1 (fun k h1 h2 => r3 k (by omega))) r2 ((r3 545 (by omega)).trans q2) (fun e => by rw [q3 e, r1 e]) hkc K
theorem law_sameForm (hI : lI G S) (hi : i + 5 ≤ Ls) (hL : Ls ≤ 2560) (hkc : k + 1 ≤ 601024 ∧ c + 6 ≤ 7293034) (K : ∀ G2 S2, lI G2 S2 → lW b Ls xs 1834 (lL i) [] G2 (k + 1) (c + 6)) : lW b Ls xs 777 (lL i) [] G k c := by
  obtain ⟨hA, ⟨rf, hB⟩, ou, hO⟩ := hI
  refine ys_aload_n dL_law_777 rfl ?_
  refine ys_scr (j := 1) dL_law_778 dL_law_779 dL_law_781 dL_law_782 dL_law_783 rfl (iI_nat 1).symm (by omega) (by omega) ?_
  refine ys_scr (j := 2) dL_law_784 dL_law_785 dL_law_787 dL_law_788 dL_law_789 rfl (iI_nat 2).symm (by omega) (by omega) ?_
  refine ys_aload_n dL_law_790 rfl ?_
  refine ys_callSW (As := [_, _, _, _]) (fun _ _ h => h.2) dL_law_791 lkW_144 (k_L_sameForm hA hO (Or.inr (by omega))) rfl rfl (Nat.le_of_ble_eq_true rfl) ⟨by decide, by decide⟩ hkc (fun v m H hq _ => ?_)
  obtain ⟨rfl, rfl, q0, q1, ⟨ou2, q2, q3⟩, q4⟩ := hq
  refine ys_istore (L2 := [(5, _), (1, _), (2, _), (3, _), (4, _)]) dL_law_794 (by decide) rfl (by decide) ?_
  refine ys_aload_n dL_law_796 rfl ?_
  refine ys_scr (j := 1) dL_law_797 dL_law_798 dL_law_800 dL_law_801 dL_law_802 rfl (iI_nat 1).symm (by omega) (by omega) ?_
  refine ys_scr (j := 2) dL_law_803 dL_law_804 dL_law_806 dL_law_807 dL_law_808 rfl (iI_nat 2).symm (by omega) (by omega) ?_
  have hB2 := mdo_fr hB (fun k h1 h2 => q4 k (by omega) (by omega))
  obtain ⟨⟨sp, gd, zs, ft, hc⟩, _⟩ := id hB2
  refine ys_cV_ix (As := [_, _]) dL_law_809 lkL_146 hc (k_B_sameForm hB2) rfl rfl (Nat.le_of_ble_eq_true rfl) ⟨by decide, by decide⟩ hkc ?_
  intro q H2 ⟨r1, r2, r3⟩
  exact l_tailZ dL_law_812 dL_law_814 dL_law_815 dL_law_818 dL_law_820 dL_law_825 dL_law_827 dL_law_830 dL_law_831 dL_law_832 dL_law_833 dL_law_835 dL_law_838 dL_law_839 dL_law_842 dL_law_843 dL_law_844 dL_law_849 q0 (fzo_fr q1 (fun k h1 h2 => r3 k (by omega))) r2 ((r3 545 (by omega)).trans q2) (fun e => by rw [q3 e, r1 e]) hkc K
theorem law_addFace (hI : lI G S) (hi : i + 5 ≤ Ls) (hL : Ls ≤ 2560) (hkc : k + 1 ≤ 601024 ∧ c + 6 ≤ 7293034) (K : ∀ G2 S2, lI G2 S2 → lW b Ls xs 1834 (lL i) [] G2 (k + 1) (c + 6)) : lW b Ls xs 852 (lL i) [] G k c := by
  obtain ⟨hA, ⟨rf, hB⟩, ou, hO⟩ := hI
  refine ys_aload_n dL_law_852 rfl ?_
  refine ys_scr (j := 1) dL_law_853 dL_law_854 dL_law_856 dL_law_857 dL_law_858 rfl (iI_nat 1).symm (by omega) (by omega) ?_
  refine ys_scr (j := 2) dL_law_859 dL_law_860 dL_law_862 dL_law_863 dL_law_864 rfl (iI_nat 2).symm (by omega) (by omega) ?_
  refine ys_scr (j := 3) dL_law_865 dL_law_866 dL_law_868 dL_law_869 dL_law_870 rfl (iI_nat 3).symm (by omega) (by omega) ?_
  refine ys_scr (j := 4) dL_law_871 dL_law_872 dL_law_874 dL_law_875 dL_law_876 rfl (iI_nat 4).symm (by omega) (by omega) ?_
  refine ys_aload_n dL_law_877 rfl ?_
  refine ys_callSW (As := [_, _, _, _, _, _]) (fun _ _ h => h.2) dL_law_878 lkW_147 (k_L_addFace hA hO (Or.inr (by omega))) rfl rfl (Nat.le_of_ble_eq_true rfl) ⟨by decide, by decide⟩ hkc (fun v m H hq _ => ?_)
  obtain ⟨rfl, rfl, q0, q1, ⟨ou2, q2, q3⟩, q4⟩ := hq
  refine ys_istore (L2 := [(5, _), (1, _), (2, _), (3, _), (4, _)]) dL_law_881 (by decide) rfl (by decide) ?_
  refine ys_aload_n dL_law_883 rfl ?_
  refine ys_scr (j := 1) dL_law_884 dL_law_885 dL_law_887 dL_law_888 dL_law_889 rfl (iI_nat 1).symm (by omega) (by omega) ?_
  refine ys_scr (j := 2) dL_law_890 dL_law_891 dL_law_893 dL_law_894 dL_law_895 rfl (iI_nat 2).symm (by omega) (by omega) ?_
  refine ys_scr (j := 3) dL_law_896 dL_law_897 dL_law_899 dL_law_900 dL_law_901 rfl (iI_nat 3).symm (by omega) (by omega) ?_
  refine ys_scr (j := 4) dL_law_902 dL_law_903 dL_law_905 dL_law_906 dL_law_907 rfl (iI_nat 4).symm (by omega) (by omega) ?_
  have hB2 := mdo_fr hB (fun k h1 h2 => q4 k (by omega) (by omega))
  obtain ⟨⟨sp, gd, zs, ft, hc⟩, _⟩ := id hB2
  refine ys_cV_ix (As := [_, _, _, _]) dL_law_908 lkL_150 hc (k_B_addFace hB2) rfl rfl (Nat.le_of_ble_eq_true rfl) ⟨by decide, by decide⟩ hkc ?_
  intro q H2 ⟨r1, r2, r3⟩
  exact l_tail dL_law_911 dL_law_913 dL_law_914 dL_law_917 dL_law_919 dL_law_924 dL_law_926 dL_law_929 dL_law_930 dL_law_931 dL_law_932 dL_law_934 dL_law_935 dL_law_936 dL_law_941 q0 (fzo_fr q1 (fun k h1 h2 => r3 k (by omega))) r2 ((r3 545 (by omega)).trans q2) (fun e => by rw [q3 e, r1 e]) hkc K
theorem law_addForm (hI : lI G S) (hi : i + 5 ≤ Ls) (hL : Ls ≤ 2560) (hkc : k + 1 ≤ 601024 ∧ c + 6 ≤ 7293034) (K : ∀ G2 S2, lI G2 S2 → lW b Ls xs 1834 (lL i) [] G2 (k + 1) (c + 6)) : lW b Ls xs 944 (lL i) [] G k c := by
  obtain ⟨hA, ⟨rf, hB⟩, ou, hO⟩ := hI
  refine ys_aload_n dL_law_944 rfl ?_
  refine ys_scr (j := 1) dL_law_945 dL_law_946 dL_law_948 dL_law_949 dL_law_950 rfl (iI_nat 1).symm (by omega) (by omega) ?_
  refine ys_aload_n dL_law_951 rfl ?_
  refine ys_callSW (As := [_, _, _]) (fun _ _ h => h.2) dL_law_952 lkW_151 (k_L_addForm hA hO (Or.inr (by omega))) rfl rfl (Nat.le_of_ble_eq_true rfl) ⟨by decide, by decide⟩ hkc (fun v m H hq _ => ?_)
  obtain ⟨rfl, rfl, q0, q1, ⟨ou2, q2, q3⟩, q4⟩ := hq
  refine ys_istore (L2 := [(5, _), (1, _), (2, _), (3, _), (4, _)]) dL_law_955 (by decide) rfl (by decide) ?_
  refine ys_aload_n dL_law_957 rfl ?_
  refine ys_scr (j := 1) dL_law_958 dL_law_959 dL_law_961 dL_law_962 dL_law_963 rfl (iI_nat 1).symm (by omega) (by omega) ?_
  have hB2 := mdo_fr hB (fun k h1 h2 => q4 k (by omega) (by omega))
  obtain ⟨⟨sp, gd, zs, ft, hc⟩, _⟩ := id hB2
  refine ys_cV_ix (As := [_]) dL_law_964 lkL_153 hc (k_B_addForm hB2) rfl rfl (Nat.le_of_ble_eq_true rfl) ⟨by decide, by decide⟩ hkc ?_
  intro q H2 ⟨r1, r2, r3⟩
  exact l_tail dL_law_967 dL_law_969 dL_law_970 dL_law_973 dL_law_975 dL_law_980 dL_law_982 dL_law_985 dL_law_986 dL_law_987 dL_law_988 dL_law_990 dL_law_991 dL_law_992 dL_law_997 q0 (fzo_fr q1 (fun k h1 h2 => r3 k (by omega))) r2 ((r3 545 (by omega)).trans q2) (fun e => by rw [q3 e, r1 e]) hkc K
theorem law_twin (hI : lI G S) (hi : i + 5 ≤ Ls) (hL : Ls ≤ 2560) (hkc : k + 1 ≤ 601024 ∧ c + 6 ≤ 7293034) (K : ∀ G2 S2, lI G2 S2 → lW b Ls xs 1834 (lL i) [] G2 (k + 1) (c + 6)) : lW b Ls xs 1000 (lL i) [] G k c := by
  obtain ⟨hA, ⟨rf, hB⟩, ou, hO⟩ := hI
  refine ys_aload_n dL_law_1000 rfl ?_
  refine ys_scr (j := 1) dL_law_1001 dL_law_1002 dL_law_1004 dL_law_1005 dL_law_1006 rfl (iI_nat 1).symm (by omega) (by omega) ?_
  refine ys_aload_n dL_law_1007 rfl ?_
  refine ys_callSW (As := [_, _, _]) (fun _ _ h => h.2) dL_law_1008 lkW_154 (k_L_twin hA hO (Or.inr (by omega))) rfl rfl (Nat.le_of_ble_eq_true rfl) ⟨by decide, by decide⟩ hkc (fun v m H hq _ => ?_)
  obtain ⟨rfl, rfl, q0, q1, ⟨ou2, q2, q3⟩, q4⟩ := hq
  refine ys_istore (L2 := [(5, _), (1, _), (2, _), (3, _), (4, _)]) dL_law_1011 (by decide) rfl (by decide) ?_
  refine ys_aload_n dL_law_1013 rfl ?_
  refine ys_scr (j := 1) dL_law_1014 dL_law_1015 dL_law_1017 dL_law_1018 dL_law_1019 rfl (iI_nat 1).symm (by omega) (by omega) ?_
  have hB2 := mdo_fr hB (fun k h1 h2 => q4 k (by omega) (by omega))
  obtain ⟨⟨sp, gd, zs, ft, hc⟩, _⟩ := id hB2
  refine ys_cV_ix (As := [_]) dL_law_1020 lkL_156 hc (k_B_twin hB2) rfl rfl (Nat.le_of_ble_eq_true rfl) ⟨by decide, by decide⟩ hkc ?_
  intro q H2 ⟨r1, r2, r3⟩
  exact l_tail dL_law_1023 dL_law_1025 dL_law_1026 dL_law_1029 dL_law_1031 dL_law_1036 dL_law_1038 dL_law_1041 dL_law_1042 dL_law_1043 dL_law_1044 dL_law_1046 dL_law_1047 dL_law_1048 dL_law_1053 q0 (fzo_fr q1 (fun k h1 h2 => r3 k (by omega))) r2 ((r3 545 (by omega)).trans q2) (fun e => by rw [q3 e, r1 e]) hkc K
theorem law_remove (hI : lI G S) (hi : i + 5 ≤ Ls) (hL : Ls ≤ 2560) (hkc : k + 1 ≤ 601024 ∧ c + 6 ≤ 7293034) (K : ∀ G2 S2, lI G2 S2 → lW b Ls xs 1834 (lL i) [] G2 (k + 1) (c + 6)) : lW b Ls xs 1056 (lL i) [] G k c := by
  obtain ⟨hA, ⟨rf, hB⟩, ou, hO⟩ := hI
  refine ys_aload_n dL_law_1056 rfl ?_
  refine ys_scr (j := 1) dL_law_1057 dL_law_1058 dL_law_1060 dL_law_1061 dL_law_1062 rfl (iI_nat 1).symm (by omega) (by omega) ?_
  refine ys_aload_n dL_law_1063 rfl ?_
  refine ys_callSW (As := [_, _, _]) (fun _ _ h => h.2) dL_law_1064 lkW_157 (k_L_remove hA hO (Or.inr (by omega))) rfl rfl (Nat.le_of_ble_eq_true rfl) ⟨by decide, by decide⟩ hkc (fun v m H hq _ => ?_)
  obtain ⟨rfl, rfl, q0, q1, ⟨ou2, q2, q3⟩, q4⟩ := hq
  refine ys_istore (L2 := [(5, _), (1, _), (2, _), (3, _), (4, _)]) dL_law_1067 (by decide) rfl (by decide) ?_
  refine ys_aload_n dL_law_1069 rfl ?_
  refine ys_scr (j := 1) dL_law_1070 dL_law_1071 dL_law_1073 dL_law_1074 dL_law_1075 rfl (iI_nat 1).symm (by omega) (by omega) ?_
  have hB2 := mdo_fr hB (fun k h1 h2 => q4 k (by omega) (by omega))
  obtain ⟨⟨sp, gd, zs, ft, hc⟩, _⟩ := id hB2
  refine ys_cV_ix (As := [_]) dL_law_1076 lkL_159 hc (k_B_remove hB2) rfl rfl (Nat.le_of_ble_eq_true rfl) ⟨by decide, by decide⟩ hkc ?_
  intro q H2 ⟨r1, r2, r3⟩
  exact l_tail dL_law_1079 dL_law_1081 dL_law_1082 dL_law_1085 dL_law_1087 dL_law_1092 dL_law_1094 dL_law_1097 dL_law_1098 dL_law_1099 dL_law_1100 dL_law_1102 dL_law_1103 dL_law_1104 dL_law_1109 q0 (fzo_fr q1 (fun k h1 h2 => r3 k (by omega))) r2 ((r3 545 (by omega)).trans q2) (fun e => by rw [q3 e, r1 e]) hkc K
theorem law_setSystem (hI : lI G S) (hi : i + 5 ≤ Ls) (hL : Ls ≤ 2560) (hkc : k + 1 ≤ 601024 ∧ c + 6 ≤ 7293034) (K : ∀ G2 S2, lI G2 S2 → lW b Ls xs 1834 (lL i) [] G2 (k + 1) (c + 6)) : lW b Ls xs 1112 (lL i) [] G k c := by
  obtain ⟨hA, ⟨rf, hB⟩, ou, hO⟩ := hI
  refine ys_aload_n dL_law_1112 rfl ?_
  refine ys_scr (j := 1) dL_law_1113 dL_law_1114 dL_law_1116 dL_law_1117 dL_law_1118 rfl (iI_nat 1).symm (by omega) (by omega) ?_
  refine ys_aload_n dL_law_1119 rfl ?_
  refine ys_callSW (As := [_, _, _]) (fun _ _ h => h.2) dL_law_1120 lkW_160 (k_L_setSystem hA hO (Or.inr (by omega))) rfl rfl (Nat.le_of_ble_eq_true rfl) ⟨by decide, by decide⟩ hkc (fun v m H hq _ => ?_)
  obtain ⟨rfl, rfl, q0, q1, ⟨ou2, q2, q3⟩, q4⟩ := hq
  refine ys_istore (L2 := [(5, _), (1, _), (2, _), (3, _), (4, _)]) dL_law_1123 (by decide) rfl (by decide) ?_
  refine ys_aload_n dL_law_1125 rfl ?_
  refine ys_scr (j := 1) dL_law_1126 dL_law_1127 dL_law_1129 dL_law_1130 dL_law_1131 rfl (iI_nat 1).symm (by omega) (by omega) ?_
  have hB2 := mdo_fr hB (fun k h1 h2 => q4 k (by omega) (by omega))
  obtain ⟨⟨sp, gd, zs, ft, hc⟩, _⟩ := id hB2
  refine ys_cV_ix (As := [_]) dL_law_1132 lkL_162 hc (k_B_setSystem hB2) rfl rfl (Nat.le_of_ble_eq_true rfl) ⟨by decide, by decide⟩ hkc ?_
  intro q H2 ⟨r1, r2, r3⟩
  exact l_tail dL_law_1135 dL_law_1137 dL_law_1138 dL_law_1141 dL_law_1143 dL_law_1148 dL_law_1150 dL_law_1153 dL_law_1154 dL_law_1155 dL_law_1156 dL_law_1158 dL_law_1159 dL_law_1160 dL_law_1165 q0 (fzo_fr q1 (fun k h1 h2 => r3 k (by omega))) r2 ((r3 545 (by omega)).trans q2) (fun e => by rw [q3 e, r1 e]) hkc K
theorem law_setLeast (hI : lI G S) (hi : i + 5 ≤ Ls) (hL : Ls ≤ 2560) (hkc : k + 1 ≤ 601024 ∧ c + 6 ≤ 7293034) (K : ∀ G2 S2, lI G2 S2 → lW b Ls xs 1834 (lL i) [] G2 (k + 1) (c + 6)) : lW b Ls xs 1168 (lL i) [] G k c := by
  obtain ⟨hA, ⟨rf, hB⟩, ou, hO⟩ := hI
  refine ys_aload_n dL_law_1168 rfl ?_
  refine ys_scr (j := 1) dL_law_1169 dL_law_1170 dL_law_1172 dL_law_1173 dL_law_1174 rfl (iI_nat 1).symm (by omega) (by omega) ?_
  refine ys_aload_n dL_law_1175 rfl ?_
  refine ys_callSW (As := [_, _, _]) (fun _ _ h => h.2) dL_law_1176 lkW_163 (k_L_setLeast hA hO (Or.inr (by omega))) rfl rfl (Nat.le_of_ble_eq_true rfl) ⟨by decide, by decide⟩ hkc (fun v m H hq _ => ?_)
  obtain ⟨rfl, rfl, q0, q1, ⟨ou2, q2, q3⟩, q4⟩ := hq
  refine ys_istore (L2 := [(5, _), (1, _), (2, _), (3, _), (4, _)]) dL_law_1179 (by decide) rfl (by decide) ?_
  refine ys_aload_n dL_law_1181 rfl ?_
  refine ys_scr (j := 1) dL_law_1182 dL_law_1183 dL_law_1185 dL_law_1186 dL_law_1187 rfl (iI_nat 1).symm (by omega) (by omega) ?_
  have hB2 := mdo_fr hB (fun k h1 h2 => q4 k (by omega) (by omega))
  obtain ⟨⟨sp, gd, zs, ft, hc⟩, _⟩ := id hB2
  refine ys_cV_ix (As := [_]) dL_law_1188 lkL_165 hc (k_B_setLeast hB2) rfl rfl (Nat.le_of_ble_eq_true rfl) ⟨by decide, by decide⟩ hkc ?_
  intro q H2 ⟨r1, r2, r3⟩
  exact l_tail dL_law_1191 dL_law_1193 dL_law_1194 dL_law_1197 dL_law_1199 dL_law_1204 dL_law_1206 dL_law_1209 dL_law_1210 dL_law_1211 dL_law_1212 dL_law_1214 dL_law_1215 dL_law_1216 dL_law_1221 q0 (fzo_fr q1 (fun k h1 h2 => r3 k (by omega))) r2 ((r3 545 (by omega)).trans q2) (fun e => by rw [q3 e, r1 e]) hkc K
theorem law_setTwin (hI : lI G S) (hi : i + 5 ≤ Ls) (hL : Ls ≤ 2560) (hkc : k + 1 ≤ 601024 ∧ c + 6 ≤ 7293034) (K : ∀ G2 S2, lI G2 S2 → lW b Ls xs 1834 (lL i) [] G2 (k + 1) (c + 6)) : lW b Ls xs 1224 (lL i) [] G k c := by
  obtain ⟨hA, ⟨rf, hB⟩, ou, hO⟩ := hI
  refine ys_aload_n dL_law_1224 rfl ?_
  refine ys_scr (j := 1) dL_law_1225 dL_law_1226 dL_law_1228 dL_law_1229 dL_law_1230 rfl (iI_nat 1).symm (by omega) (by omega) ?_
  refine ys_scr (j := 2) dL_law_1231 dL_law_1232 dL_law_1234 dL_law_1235 dL_law_1236 rfl (iI_nat 2).symm (by omega) (by omega) ?_
  refine ys_scr (j := 3) dL_law_1237 dL_law_1238 dL_law_1240 dL_law_1241 dL_law_1242 rfl (iI_nat 3).symm (by omega) (by omega) ?_
  refine ys_aload_n dL_law_1243 rfl ?_
  refine ys_callSW (As := [_, _, _, _, _]) (fun _ _ h => h.2) dL_law_1244 lkW_166 (k_L_setTwin hA hO (Or.inr (by omega))) rfl rfl (Nat.le_of_ble_eq_true rfl) ⟨by decide, by decide⟩ hkc (fun v m H hq _ => ?_)
  obtain ⟨rfl, rfl, q0, q1, ⟨ou2, q2, q3⟩, q4⟩ := hq
  refine ys_istore (L2 := [(5, _), (1, _), (2, _), (3, _), (4, _)]) dL_law_1247 (by decide) rfl (by decide) ?_
  refine ys_aload_n dL_law_1249 rfl ?_
  refine ys_scr (j := 1) dL_law_1250 dL_law_1251 dL_law_1253 dL_law_1254 dL_law_1255 rfl (iI_nat 1).symm (by omega) (by omega) ?_
  refine ys_scr (j := 2) dL_law_1256 dL_law_1257 dL_law_1259 dL_law_1260 dL_law_1261 rfl (iI_nat 2).symm (by omega) (by omega) ?_
  refine ys_scr (j := 3) dL_law_1262 dL_law_1263 dL_law_1265 dL_law_1266 dL_law_1267 rfl (iI_nat 3).symm (by omega) (by omega) ?_
  have hB2 := mdo_fr hB (fun k h1 h2 => q4 k (by omega) (by omega))
  obtain ⟨⟨sp, gd, zs, ft, hc⟩, _⟩ := id hB2
  refine ys_cV_ix (As := [_, _, _]) dL_law_1268 lkL_168 hc (k_B_setTwin hB2) rfl rfl (Nat.le_of_ble_eq_true rfl) ⟨by decide, by decide⟩ hkc ?_
  intro q H2 ⟨r1, r2, r3⟩
  exact l_tail dL_law_1271 dL_law_1273 dL_law_1274 dL_law_1277 dL_law_1279 dL_law_1284 dL_law_1286 dL_law_1289 dL_law_1290 dL_law_1291 dL_law_1292 dL_law_1294 dL_law_1295 dL_law_1296 dL_law_1301 q0 (fzo_fr q1 (fun k h1 h2 => r3 k (by omega))) r2 ((r3 545 (by omega)).trans q2) (fun e => by rw [q3 e, r1 e]) hkc K
theorem law_undo (hI : lI G S) (hi : i + 5 ≤ Ls) (hL : Ls ≤ 2560) (hkc : k + 1 ≤ 601024 ∧ c + 6 ≤ 7293034) (K : ∀ G2 S2, lI G2 S2 → lW b Ls xs 1834 (lL i) [] G2 (k + 1) (c + 6)) : lW b Ls xs 1304 (lL i) [] G k c := by
  obtain ⟨hA, ⟨rf, hB⟩, ou, hO⟩ := hI
  refine ys_aload_n dL_law_1304 rfl ?_
  refine ys_aload_n dL_law_1305 rfl ?_
  refine ys_callSW (As := [_, _]) (fun _ _ h => h.2) dL_law_1306 lkW_169 (k_L_undo hA hO (Or.inr (by omega))) rfl rfl (Nat.le_of_ble_eq_true rfl) ⟨by decide, by decide⟩ hkc (fun v m H hq _ => ?_)
  obtain ⟨rfl, rfl, q0, q1, ⟨ou2, q2, q3⟩, q4⟩ := hq
  refine ys_istore (L2 := [(5, _), (1, _), (2, _), (3, _), (4, _)]) dL_law_1309 (by decide) rfl (by decide) ?_
  refine ys_aload_n dL_law_1311 rfl ?_
  have hB2 := mdo_fr hB (fun k h1 h2 => q4 k (by omega) (by omega))
  obtain ⟨⟨sp, gd, zs, ft, hc⟩, _⟩ := id hB2
  refine ys_cV_ix (As := []) dL_law_1312 lkL_171 hc (k_B_undo hB2) rfl rfl (Nat.le_of_ble_eq_true rfl) ⟨by decide, by decide⟩ hkc ?_
  intro q H2 ⟨r1, r2, r3⟩
  exact l_tail dL_law_1315 dL_law_1317 dL_law_1318 dL_law_1321 dL_law_1323 dL_law_1328 dL_law_1330 dL_law_1333 dL_law_1334 dL_law_1335 dL_law_1336 dL_law_1338 dL_law_1339 dL_law_1340 dL_law_1345 q0 (fzo_fr q1 (fun k h1 h2 => r3 k (by omega))) r2 ((r3 545 (by omega)).trans q2) (fun e => by rw [q3 e, r1 e]) hkc K
theorem law_whyNot (hI : lI G S) (hi : i + 5 ≤ Ls) (hL : Ls ≤ 2560) (hkc : k + 1 ≤ 601024 ∧ c + 6 ≤ 7293034) (K : ∀ G2 S2, lI G2 S2 → lW b Ls xs 1834 (lL i) [] G2 (k + 1) (c + 6)) : lW b Ls xs 1348 (lL i) [] G k c := by
  obtain ⟨hA, ⟨rf, hB⟩, ou, hO⟩ := hI
  refine ys_aload_n dL_law_1348 rfl ?_
  refine ys_scr (j := 1) dL_law_1349 dL_law_1350 dL_law_1352 dL_law_1353 dL_law_1354 rfl (iI_nat 1).symm (by omega) (by omega) ?_
  refine ys_scr (j := 2) dL_law_1355 dL_law_1356 dL_law_1358 dL_law_1359 dL_law_1360 rfl (iI_nat 2).symm (by omega) (by omega) ?_
  refine ys_scr (j := 3) dL_law_1361 dL_law_1362 dL_law_1364 dL_law_1365 dL_law_1366 rfl (iI_nat 3).symm (by omega) (by omega) ?_
  refine ys_scr (j := 4) dL_law_1367 dL_law_1368 dL_law_1370 dL_law_1371 dL_law_1372 rfl (iI_nat 4).symm (by omega) (by omega) ?_
  refine ys_aload_n dL_law_1373 rfl ?_
  refine ys_callSW (As := [_, _, _, _, _, _]) (fun _ _ h => h.2) dL_law_1374 lkW_172 (k_L_whyNot hA hO (Or.inr (by omega))) rfl rfl (Nat.le_of_ble_eq_true rfl) ⟨by decide, by decide⟩ hkc (fun v m H hq _ => ?_)
  obtain ⟨rfl, rfl, q0, q1, ⟨ou2, q2, q3⟩, q4⟩ := hq
  refine ys_istore (L2 := [(5, _), (1, _), (2, _), (3, _), (4, _)]) dL_law_1377 (by decide) rfl (by decide) ?_
  refine ys_aload_n dL_law_1379 rfl ?_
  refine ys_scr (j := 1) dL_law_1380 dL_law_1381 dL_law_1383 dL_law_1384 dL_law_1385 rfl (iI_nat 1).symm (by omega) (by omega) ?_
  refine ys_scr (j := 2) dL_law_1386 dL_law_1387 dL_law_1389 dL_law_1390 dL_law_1391 rfl (iI_nat 2).symm (by omega) (by omega) ?_
  refine ys_scr (j := 3) dL_law_1392 dL_law_1393 dL_law_1395 dL_law_1396 dL_law_1397 rfl (iI_nat 3).symm (by omega) (by omega) ?_
  refine ys_scr (j := 4) dL_law_1398 dL_law_1399 dL_law_1401 dL_law_1402 dL_law_1403 rfl (iI_nat 4).symm (by omega) (by omega) ?_
  have hB2 := mdo_fr hB (fun k h1 h2 => q4 k (by omega) (by omega))
  obtain ⟨⟨sp, gd, zs, ft, hc⟩, _⟩ := id hB2
  refine ys_cV_ix (As := [_, _, _, _]) dL_law_1404 lkL_174 hc (k_B_whyNot hB2) rfl rfl (Nat.le_of_ble_eq_true rfl) ⟨by decide, by decide⟩ hkc ?_
  intro q H2 ⟨r1, r2, r3⟩
  exact l_tail dL_law_1407 dL_law_1409 dL_law_1410 dL_law_1413 dL_law_1415 dL_law_1420 dL_law_1422 dL_law_1425 dL_law_1426 dL_law_1427 dL_law_1428 dL_law_1430 dL_law_1431 dL_law_1432 dL_law_1437 q0 (fzo_fr q1 (fun k h1 h2 => r3 k (by omega))) r2 ((r3 545 (by omega)).trans q2) (fun e => by rw [q3 e, r1 e]) hkc K
theorem law_bestTwin (hI : lI G S) (hi : i + 5 ≤ Ls) (hL : Ls ≤ 2560) (hkc : k + 1 ≤ 601024 ∧ c + 6 ≤ 7293034) (K : ∀ G2 S2, lI G2 S2 → lW b Ls xs 1834 (lL i) [] G2 (k + 1) (c + 6)) : lW b Ls xs 1440 (lL i) [] G k c := by
  obtain ⟨hA, ⟨rf, hB⟩, ou, hO⟩ := hI
  refine ys_aload_n dL_law_1440 rfl ?_
  refine ys_A0 (As := []) dL_law_1441 lkL_175 hA (k_A_bestTwin hA) rfl rfl (Nat.le_of_ble_eq_true rfl) ⟨by decide, by decide⟩ hkc (fun H h0 hz hf => ?_)
  refine ys_aload_n dL_law_1444 rfl ?_
  have hB2 := mdo_fr hB (fun k h1 h2 => hf k (by omega))
  obtain ⟨⟨sp, gd, zs, ft, hc⟩, _⟩ := id hB2
  refine ys_cV_ix (As := []) dL_law_1445 lkL_178 hc (k_B_bestTwin hB2) rfl rfl (Nat.le_of_ble_eq_true rfl) ⟨by decide, by decide⟩ hkc ?_
  intro q H2 ⟨r1, r2, r3⟩
  rw [r1 h0]
  refine ys_icmp_eq dL_law_1448 (fun _ => ?_) (fun h => absurd rfl h)
  exact K H2 _ ⟨fzo_fr hz (fun k h1 h2 => r3 k (by omega)), ⟨_, r2⟩, ou, (r3 545 (by omega)).trans ((hf 545 (by omega)).trans hO)⟩
theorem law_keyFace (hI : lI G S) (hi : i + 5 ≤ Ls) (hL : Ls ≤ 2560) (hkc : k + 1 ≤ 601024 ∧ c + 6 ≤ 7293034) (K : ∀ G2 S2, lI G2 S2 → lW b Ls xs 1834 (lL i) [] G2 (k + 1) (c + 6)) : lW b Ls xs 1453 (lL i) [] G k c := by
  obtain ⟨hA, ⟨rf, hB⟩, ou, hO⟩ := hI
  refine ys_aload_n dL_law_1453 rfl ?_
  refine ys_A0 (As := []) dL_law_1454 lkL_179 hA (k_A_keyFace hA) rfl rfl (Nat.le_of_ble_eq_true rfl) ⟨by decide, by decide⟩ hkc (fun H h0 hz hf => ?_)
  refine ys_aload_n dL_law_1457 rfl ?_
  have hB2 := mdo_fr hB (fun k h1 h2 => hf k (by omega))
  obtain ⟨⟨sp, gd, zs, ft, hc⟩, _⟩ := id hB2
  refine ys_cV_ix (As := []) dL_law_1458 lkL_182 hc (k_B_keyFace hB2) rfl rfl (Nat.le_of_ble_eq_true rfl) ⟨by decide, by decide⟩ hkc ?_
  intro q H2 ⟨r1, r2, r3⟩
  rw [r1 h0]
  refine ys_icmp_eq dL_law_1461 (fun _ => ?_) (fun h => absurd rfl h)
  exact K H2 _ ⟨fzo_fr hz (fun k h1 h2 => r3 k (by omega)), ⟨_, r2⟩, ou, (r3 545 (by omega)).trans ((hf 545 (by omega)).trans hO)⟩
theorem law_grown (hI : lI G S) (hi : i + 5 ≤ Ls) (hL : Ls ≤ 2560) (hkc : k + 1 ≤ 601024 ∧ c + 6 ≤ 7293034) (K : ∀ G2 S2, lI G2 S2 → lW b Ls xs 1834 (lL i) [] G2 (k + 1) (c + 6)) : lW b Ls xs 1466 (lL i) [] G k c := by
  obtain ⟨hA, ⟨rf, hB⟩, ou, hO⟩ := hI
  refine ys_aload_n dL_law_1466 rfl ?_
  refine ys_scr (j := 1) dL_law_1467 dL_law_1468 dL_law_1470 dL_law_1471 dL_law_1472 rfl (iI_nat 1).symm (by omega) (by omega) ?_
  refine ys_aload_n dL_law_1473 rfl ?_
  refine ys_callSW (As := [_, _, _]) (fun _ _ h => h.2) dL_law_1474 lkW_183 (k_L_grown hA hO (Or.inr (by omega))) rfl rfl (Nat.le_of_ble_eq_true rfl) ⟨by decide, by decide⟩ hkc (fun v m H hq _ => ?_)
  obtain ⟨rfl, rfl, q0, q1, ⟨ou2, q2, q3⟩, q4⟩ := hq
  refine ys_istore (L2 := [(5, _), (1, _), (2, _), (3, _), (4, _)]) dL_law_1477 (by decide) rfl (by decide) ?_
  refine ys_aload_n dL_law_1479 rfl ?_
  refine ys_scr (j := 1) dL_law_1480 dL_law_1481 dL_law_1483 dL_law_1484 dL_law_1485 rfl (iI_nat 1).symm (by omega) (by omega) ?_
  have hB2 := mdo_fr hB (fun k h1 h2 => q4 k (by omega) (by omega))
  obtain ⟨⟨sp, gd, zs, ft, hc⟩, _⟩ := id hB2
  refine ys_cV_ix (As := [_]) dL_law_1486 lkL_185 hc (k_B_grown hB2) rfl rfl (Nat.le_of_ble_eq_true rfl) ⟨by decide, by decide⟩ hkc ?_
  intro q H2 ⟨r1, r2, r3⟩
  exact l_tail dL_law_1489 dL_law_1491 dL_law_1492 dL_law_1495 dL_law_1497 dL_law_1502 dL_law_1504 dL_law_1507 dL_law_1508 dL_law_1509 dL_law_1510 dL_law_1512 dL_law_1513 dL_law_1514 dL_law_1519 q0 (fzo_fr q1 (fun k h1 h2 => r3 k (by omega))) r2 ((r3 545 (by omega)).trans q2) (fun e => by rw [q3 e, r1 e]) hkc K
theorem law_runScript (hI : lI G S) (hi : i + 5 ≤ Ls) (hL : Ls ≤ 2560) (hkc : k + 1 ≤ 601024 ∧ c + 6 ≤ 7293034) (K : ∀ G2 S2, lI G2 S2 → lW b Ls xs 1834 (lL i) [] G2 (k + 1) (c + 6)) : lW b Ls xs 1522 (lL i) [] G k c := by
  obtain ⟨hA, ⟨rf, hB⟩, ou, hO⟩ := hI
  refine ys_aload_n dL_law_1522 rfl ?_
  refine ys_scr (j := 1) dL_law_1523 dL_law_1524 dL_law_1526 dL_law_1527 dL_law_1528 rfl (iI_nat 1).symm (by omega) (by omega) ?_
  refine ys_scr (j := 2) dL_law_1529 dL_law_1530 dL_law_1532 dL_law_1533 dL_law_1534 rfl (iI_nat 2).symm (by omega) (by omega) ?_
  refine ys_i2l dL_law_1535 ?_
  refine ys_bipush (v := 32) dL_law_1536 (by decide) ?_
  refine ys_lshl dL_law_1538 ?_
  refine ys_scr (j := 3) dL_law_1539 dL_law_1540 dL_law_1542 dL_law_1543 dL_law_1544 rfl (iI_nat 3).symm (by omega) (by omega) ?_
  refine ys_i2l dL_law_1545 ?_
  refine ys_ldc2 dL_law_1546 kcL_186 ?_
  refine ys_land dL_law_1549 ?_
  refine ys_lor dL_law_1550 ?_
  refine ys_aload_n dL_law_1551 rfl ?_
  refine ys_callSW (As := [_, _, _, _]) (fun _ _ h => h.2) dL_law_1552 lkW_188 (k_L_runScript hA hO (Or.inr (by omega))) rfl rfl (Nat.le_of_ble_eq_true rfl) ⟨by decide, by decide⟩ hkc (fun v m H hq _ => ?_)
  obtain ⟨rfl, rfl, q0, q1, ⟨ou2, q2, q3⟩, q4⟩ := hq
  refine ys_istore (L2 := [(5, _), (1, _), (2, _), (3, _), (4, _)]) dL_law_1555 (by decide) rfl (by decide) ?_
  refine ys_aload_n dL_law_1557 rfl ?_
  refine ys_scr (j := 1) dL_law_1558 dL_law_1559 dL_law_1561 dL_law_1562 dL_law_1563 rfl (iI_nat 1).symm (by omega) (by omega) ?_
  refine ys_scr (j := 2) dL_law_1564 dL_law_1565 dL_law_1567 dL_law_1568 dL_law_1569 rfl (iI_nat 2).symm (by omega) (by omega) ?_
  refine ys_i2l dL_law_1570 ?_
  refine ys_bipush (v := 32) dL_law_1571 (by decide) ?_
  refine ys_lshl dL_law_1573 ?_
  refine ys_scr (j := 3) dL_law_1574 dL_law_1575 dL_law_1577 dL_law_1578 dL_law_1579 rfl (iI_nat 3).symm (by omega) (by omega) ?_
  refine ys_i2l dL_law_1580 ?_
  refine ys_ldc2 dL_law_1581 kcL_186 ?_
  refine ys_land dL_law_1584 ?_
  refine ys_lor dL_law_1585 ?_
  have hB2 := mdo_fr hB (fun k h1 h2 => q4 k (by omega) (by omega))
  obtain ⟨⟨sp, gd, zs, ft, hc⟩, _⟩ := id hB2
  refine ys_cV_ix (As := [_, _]) dL_law_1586 lkL_191 hc (k_B_runScript hB2) rfl rfl (Nat.le_of_ble_eq_true rfl) ⟨by decide, by decide⟩ hkc ?_
  intro q H2 ⟨r1, r2, r3⟩
  exact l_tail dL_law_1589 dL_law_1591 dL_law_1592 dL_law_1595 dL_law_1597 dL_law_1602 dL_law_1604 dL_law_1607 dL_law_1608 dL_law_1609 dL_law_1610 dL_law_1612 dL_law_1613 dL_law_1614 dL_law_1619 q0 (fzo_fr q1 (fun k h1 h2 => r3 k (by omega))) r2 ((r3 545 (by omega)).trans q2) (fun e => by rw [q3 e, r1 e]) hkc K
theorem law_simulate (hI : lI G S) (hi : i + 5 ≤ Ls) (hL : Ls ≤ 2560) (hkc : k + 1 ≤ 601024 ∧ c + 6 ≤ 7293034) (K : ∀ G2 S2, lI G2 S2 → lW b Ls xs 1834 (lL i) [] G2 (k + 1) (c + 6)) : lW b Ls xs 1622 (lL i) [] G k c := by
  obtain ⟨hA, ⟨rf, hB⟩, ou, hO⟩ := hI
  refine ys_aload_n dL_law_1622 rfl ?_
  refine ys_scr (j := 1) dL_law_1623 dL_law_1624 dL_law_1626 dL_law_1627 dL_law_1628 rfl (iI_nat 1).symm (by omega) (by omega) ?_
  refine ys_i2l dL_law_1629 ?_
  refine ys_bipush (v := 32) dL_law_1630 (by decide) ?_
  refine ys_lshl dL_law_1632 ?_
  refine ys_scr (j := 2) dL_law_1633 dL_law_1634 dL_law_1636 dL_law_1637 dL_law_1638 rfl (iI_nat 2).symm (by omega) (by omega) ?_
  refine ys_i2l dL_law_1639 ?_
  refine ys_ldc2 dL_law_1640 kcL_186 ?_
  refine ys_land dL_law_1643 ?_
  refine ys_lor dL_law_1644 ?_
  refine ys_scr (j := 3) dL_law_1645 dL_law_1646 dL_law_1648 dL_law_1649 dL_law_1650 rfl (iI_nat 3).symm (by omega) (by omega) ?_
  refine ys_aload_n dL_law_1651 rfl ?_
  refine ys_callSW (As := [_, _, _, _]) (fun _ _ h => h.2) dL_law_1652 lkW_192 (k_L_simulate hA hO (Or.inr (by omega))) rfl rfl (Nat.le_of_ble_eq_true rfl) ⟨by decide, by decide⟩ hkc (fun v m H hq _ => ?_)
  obtain ⟨rfl, rfl, q0, q1, ⟨ou2, q2, q3⟩, q4⟩ := hq
  refine ys_istore (L2 := [(5, _), (1, _), (2, _), (3, _), (4, _)]) dL_law_1655 (by decide) rfl (by decide) ?_
  refine ys_aload_n dL_law_1657 rfl ?_
  refine ys_scr (j := 1) dL_law_1658 dL_law_1659 dL_law_1661 dL_law_1662 dL_law_1663 rfl (iI_nat 1).symm (by omega) (by omega) ?_
  refine ys_i2l dL_law_1664 ?_
  refine ys_bipush (v := 32) dL_law_1665 (by decide) ?_
  refine ys_lshl dL_law_1667 ?_
  refine ys_scr (j := 2) dL_law_1668 dL_law_1669 dL_law_1671 dL_law_1672 dL_law_1673 rfl (iI_nat 2).symm (by omega) (by omega) ?_
  refine ys_i2l dL_law_1674 ?_
  refine ys_ldc2 dL_law_1675 kcL_186 ?_
  refine ys_land dL_law_1678 ?_
  refine ys_lor dL_law_1679 ?_
  refine ys_scr (j := 3) dL_law_1680 dL_law_1681 dL_law_1683 dL_law_1684 dL_law_1685 rfl (iI_nat 3).symm (by omega) (by omega) ?_
  have hB2 := mdo_fr hB (fun k h1 h2 => q4 k (by omega) (by omega))
  obtain ⟨⟨sp, gd, zs, ft, hc⟩, _⟩ := id hB2
  refine ys_cV_ix (As := [_, _]) dL_law_1686 lkL_195 hc (k_B_simulate hB2) rfl rfl (Nat.le_of_ble_eq_true rfl) ⟨by decide, by decide⟩ hkc ?_
  intro q H2 ⟨r1, r2, r3⟩
  exact l_tail dL_law_1689 dL_law_1691 dL_law_1692 dL_law_1695 dL_law_1697 dL_law_1702 dL_law_1704 dL_law_1707 dL_law_1708 dL_law_1709 dL_law_1710 dL_law_1712 dL_law_1713 dL_law_1714 dL_law_1719 q0 (fzo_fr q1 (fun k h1 h2 => r3 k (by omega))) r2 ((r3 545 (by omega)).trans q2) (fun e => by rw [q3 e, r1 e]) hkc K
theorem law_save (hI : lI G S) (hi : i + 5 ≤ Ls) (hL : Ls ≤ 2560) (hkc : k + 1 ≤ 601024 ∧ c + 6 ≤ 7293034) (K : ∀ G2 S2, lI G2 S2 → lW b Ls xs 1834 (lL i) [] G2 (k + 1) (c + 6)) : lW b Ls xs 1722 (lL i) [] G k c := by
  obtain ⟨hA, ⟨rf, hB⟩, ou, hO⟩ := hI
  refine ys_aload_n dL_law_1722 rfl ?_
  refine ys_scr (j := 1) dL_law_1723 dL_law_1724 dL_law_1726 dL_law_1727 dL_law_1728 rfl (iI_nat 1).symm (by omega) (by omega) ?_
  refine ys_aload_n dL_law_1729 rfl ?_
  refine ys_callSW (As := [_, _, _]) (fun _ _ h => h.2) dL_law_1730 lkW_196 (k_L_save hA hO (Or.inr (by omega))) rfl rfl (Nat.le_of_ble_eq_true rfl) ⟨by decide, by decide⟩ hkc (fun v m H hq _ => ?_)
  obtain ⟨rfl, rfl, q0, q1, ⟨ou2, q2, q3⟩, q4⟩ := hq
  refine ys_istore (L2 := [(5, _), (1, _), (2, _), (3, _), (4, _)]) dL_law_1733 (by decide) rfl (by decide) ?_
  refine ys_aload_n dL_law_1735 rfl ?_
  refine ys_scr (j := 1) dL_law_1736 dL_law_1737 dL_law_1739 dL_law_1740 dL_law_1741 rfl (iI_nat 1).symm (by omega) (by omega) ?_
  have hB2 := mdo_fr hB (fun k h1 h2 => q4 k (by omega) (by omega))
  obtain ⟨⟨sp, gd, zs, ft, hc⟩, _⟩ := id hB2
  refine ys_cV_ix (As := [_]) dL_law_1742 lkL_198 hc (k_B_save hB2) rfl rfl (Nat.le_of_ble_eq_true rfl) ⟨by decide, by decide⟩ hkc ?_
  intro q H2 ⟨r1, r2, r3⟩
  exact l_tail dL_law_1745 dL_law_1747 dL_law_1748 dL_law_1751 dL_law_1753 dL_law_1758 dL_law_1760 dL_law_1763 dL_law_1764 dL_law_1765 dL_law_1766 dL_law_1768 dL_law_1769 dL_law_1770 dL_law_1775 q0 (fzo_fr q1 (fun k h1 h2 => r3 k (by omega))) r2 ((r3 545 (by omega)).trans q2) (fun e => by rw [q3 e, r1 e]) hkc K
theorem law_restore (hI : lI G S) (hi : i + 5 ≤ Ls) (hL : Ls ≤ 2560) (hkc : k + 1 ≤ 601024 ∧ c + 6 ≤ 7293034) (K : ∀ G2 S2, lI G2 S2 → lW b Ls xs 1834 (lL i) [] G2 (k + 1) (c + 6)) : lW b Ls xs 1778 (lL i) [] G k c := by
  obtain ⟨hA, ⟨rf, hB⟩, ou, hO⟩ := hI
  refine ys_aload_n dL_law_1778 rfl ?_
  refine ys_scr (j := 1) dL_law_1779 dL_law_1780 dL_law_1782 dL_law_1783 dL_law_1784 rfl (iI_nat 1).symm (by omega) (by omega) ?_
  refine ys_aload_n dL_law_1785 rfl ?_
  refine ys_callSW (As := [_, _, _]) (fun _ _ h => h.2) dL_law_1786 lkW_199 (k_L_restore hA hO (Or.inr (by omega))) rfl rfl (Nat.le_of_ble_eq_true rfl) ⟨by decide, by decide⟩ hkc (fun v m H hq _ => ?_)
  obtain ⟨rfl, rfl, q0, q1, ⟨ou2, q2, q3⟩, q4⟩ := hq
  refine ys_istore (L2 := [(5, _), (1, _), (2, _), (3, _), (4, _)]) dL_law_1789 (by decide) rfl (by decide) ?_
  refine ys_aload_n dL_law_1791 rfl ?_
  refine ys_scr (j := 1) dL_law_1792 dL_law_1793 dL_law_1795 dL_law_1796 dL_law_1797 rfl (iI_nat 1).symm (by omega) (by omega) ?_
  have hB2 := mdo_fr hB (fun k h1 h2 => q4 k (by omega) (by omega))
  obtain ⟨⟨sp, gd, zs, ft, hc⟩, _⟩ := id hB2
  refine ys_cV_ix (As := [_]) dL_law_1798 lkL_201 hc (k_B_restore hB2) rfl rfl (Nat.le_of_ble_eq_true rfl) ⟨by decide, by decide⟩ hkc ?_
  intro q H2 ⟨r1, r2, r3⟩
  exact l_tail dL_law_1801 dL_law_1803 dL_law_1804 dL_law_1807 dL_law_1809 dL_law_1814 dL_law_1816 dL_law_1819 dL_law_1820 dL_law_1821 dL_law_1822 dL_law_1824 dL_law_1825 dL_law_1826 dL_law_1831 q0 (fzo_fr q1 (fun k h1 h2 => r3 k (by omega))) r2 ((r3 545 (by omega)).trans q2) (fun e => by rw [q3 e, r1 e]) hkc K
theorem and31 (x : Int32) : ∃ r : Nat, r < 32 ∧ x &&& 31 = nI r := by
  refine ⟨(x &&& 31).toBitVec.toNat, ?_, ?_⟩
  · rw [Int32.toBitVec_and, BitVec.toNat_and]
    exact Nat.lt_of_le_of_lt Nat.and_le_right (by decide)
  · show x &&& 31 = Int32.ofNat (x &&& 31).toBitVec.toNat
    exact (Int32.toBitVec_inj.mp (by simp)).symm
theorem law_go {r : Nat} (hr : r < 32) (hI : lI G S) (hi : i + 5 ≤ Ls) (hL : Ls ≤ 2560) (hkc : k + 1 ≤ 601024 ∧ c + 6 ≤ 7293034) (K : ∀ G2 S2, lI G2 S2 → lW b Ls xs 1834 (lL i) [] G2 (k + 1) (c + 6)) : lW b Ls xs 39 (lL i) [.int (nI r)] G k c := by
  have hd : r = 0 ∨ r = 1 ∨ r = 2 ∨ r = 3 ∨ r = 4 ∨ r = 5 ∨ r = 6 ∨ r = 7 ∨ r = 8 ∨ r = 9 ∨ r = 10 ∨ r = 11 ∨ r = 12 ∨ r = 13 ∨ r = 14 ∨ r = 15 ∨ r = 16 ∨ r = 17 ∨ r = 18 ∨ r = 19 ∨ r = 20 ∨ r = 21 ∨ r = 22 ∨ r = 23 ∨ r = 24 ∨ r = 25 ∨ r = 26 ∨ r = 27 ∨ 28 ≤ r := by omega
  rcases hd with rfl | rfl | rfl | rfl | rfl | rfl | rfl | rfl | rfl | rfl | rfl | rfl | rfl | rfl | rfl | rfl | rfl | rfl | rfl | rfl | rfl | rfl | rfl | rfl | rfl | rfl | rfl | rfl | h28
  · refine ys_tsIn (tgt := 164) dL_law_39 (by decide) (by decide) rfl (by decide) ?_
    exact law_append hI hi hL hkc K
  · refine ys_tsIn (tgt := 220) dL_law_39 (by decide) (by decide) rfl (by decide) ?_
    exact law_clearText hI hi hL hkc K
  · refine ys_tsIn (tgt := 233) dL_law_39 (by decide) (by decide) rfl (by decide) ?_
    exact law_errorPosition hI hi hL hkc K
  · refine ys_tsIn (tgt := 246) dL_law_39 (by decide) (by decide) rfl (by decide) ?_
    exact law_load hI hi hL hkc K
  · refine ys_tsIn (tgt := 290) dL_law_39 (by decide) (by decide) rfl (by decide) ?_
    exact law_about hI hi hL hkc K
  · refine ys_tsIn (tgt := 346) dL_law_39 (by decide) (by decide) rfl (by decide) ?_
    exact law_face hI hi hL hkc K
  · refine ys_tsIn (tgt := 414) dL_law_39 (by decide) (by decide) rfl (by decide) ?_
    exact law_zone hI hi hL hkc K
  · refine ys_tsIn (tgt := 482) dL_law_39 (by decide) (by decide) rfl (by decide) ?_
    exact law_zoneOf hI hi hL hkc K
  · refine ys_tsIn (tgt := 550) dL_law_39 (by decide) (by decide) rfl (by decide) ?_
    exact law_inZone hI hi hL hkc K
  · refine ys_tsIn (tgt := 630) dL_law_39 (by decide) (by decide) rfl (by decide) ?_
    exact law_cross hI hi hL hkc K
  · refine ys_tsIn (tgt := 709) dL_law_39 (by decide) (by decide) rfl (by decide) ?_
    exact law_angle hI hi hL hkc K
  · refine ys_tsIn (tgt := 777) dL_law_39 (by decide) (by decide) rfl (by decide) ?_
    exact law_sameForm hI hi hL hkc K
  · refine ys_tsIn (tgt := 852) dL_law_39 (by decide) (by decide) rfl (by decide) ?_
    exact law_addFace hI hi hL hkc K
  · refine ys_tsIn (tgt := 944) dL_law_39 (by decide) (by decide) rfl (by decide) ?_
    exact law_addForm hI hi hL hkc K
  · refine ys_tsIn (tgt := 1000) dL_law_39 (by decide) (by decide) rfl (by decide) ?_
    exact law_twin hI hi hL hkc K
  · refine ys_tsIn (tgt := 1056) dL_law_39 (by decide) (by decide) rfl (by decide) ?_
    exact law_remove hI hi hL hkc K
  · refine ys_tsIn (tgt := 1112) dL_law_39 (by decide) (by decide) rfl (by decide) ?_
    exact law_setSystem hI hi hL hkc K
  · refine ys_tsIn (tgt := 1168) dL_law_39 (by decide) (by decide) rfl (by decide) ?_
    exact law_setLeast hI hi hL hkc K
  · refine ys_tsIn (tgt := 1224) dL_law_39 (by decide) (by decide) rfl (by decide) ?_
    exact law_setTwin hI hi hL hkc K
  · refine ys_tsIn (tgt := 1304) dL_law_39 (by decide) (by decide) rfl (by decide) ?_
    exact law_undo hI hi hL hkc K
  · refine ys_tsIn (tgt := 1348) dL_law_39 (by decide) (by decide) rfl (by decide) ?_
    exact law_whyNot hI hi hL hkc K
  · refine ys_tsIn (tgt := 1440) dL_law_39 (by decide) (by decide) rfl (by decide) ?_
    exact law_bestTwin hI hi hL hkc K
  · refine ys_tsIn (tgt := 1453) dL_law_39 (by decide) (by decide) rfl (by decide) ?_
    exact law_keyFace hI hi hL hkc K
  · refine ys_tsIn (tgt := 1466) dL_law_39 (by decide) (by decide) rfl (by decide) ?_
    exact law_grown hI hi hL hkc K
  · refine ys_tsIn (tgt := 1522) dL_law_39 (by decide) (by decide) rfl (by decide) ?_
    exact law_runScript hI hi hL hkc K
  · refine ys_tsIn (tgt := 1622) dL_law_39 (by decide) (by decide) rfl (by decide) ?_
    exact law_simulate hI hi hL hkc K
  · refine ys_tsIn (tgt := 1722) dL_law_39 (by decide) (by decide) rfl (by decide) ?_
    exact law_save hI hi hL hkc K
  · refine ys_tsIn (tgt := 1778) dL_law_39 (by decide) (by decide) rfl (by decide) ?_
    exact law_restore hI hi hL hkc K
  · refine ys_tsOut (tgt := 1834) dL_law_39 (Or.inr ?_) (by decide) ?_
    · rw [iI_nat, iI_T (by omega)]
      omega
    · exact ys_widen (Nat.le_add_right _ _) (Nat.le_add_right _ _) (K G S hI)
end LC
section LE
variable {b Ls : Nat} {xs : Nat → Int32}
theorem law_loop (hL : Ls ≤ 2560) : ∀ (m t : Nat) (G : xG) (S : zS), Ls + 5 - 5 * t < m → 5 * t ≤ Ls → lI G S → lW b Ls xs 23 (lL (5 * t)) [] G (546 + t) (15842 + 6 * t) := by
  intro m
  induction m with
  | zero => intro t G S h; exact absurd h (by omega)
  | succ m ih =>
    intro t G S hm ht hI
    have ht2 : t ≤ 512 := by omega
    refine ys_iload dL_law_23 rfl ?_
    refine ys_slen dL_law_25 dL_law_26 ?_
    refine ys_iconst (v := 5) dL_law_27 (by decide) ?_
    refine ys_isub dL_law_28 ?_
    rw [show nI Ls - 5 = iI ((Ls : Int) - 5) from by rw [iI_nat, show (5 : Int32) = iI 5 from rfl, iI_sub], iI_nat (5 * t)]
    refine ys_icmp_gt dL_law_29 (fun _ => ?_) (fun h => ?_)
    · refine ys_iconst (v := 1) dL_law_1840 (by decide) ?_
      exact ys_iret dL_law_1841 rfl rfl (by omega) (by omega) rfl
    · have hi : 5 * t + 5 ≤ Ls := by
        have : ¬ ((Ls : Int) - 5 < ((5 * t : Nat) : Int)) := fun e => h ((iI_lt (by omega) (by omega)).mpr e)
        omega
      refine ys_scr0 dL_law_32 dL_law_33 dL_law_35 rfl (by omega) (by omega) ?_
      refine ys_bipush (v := 31) dL_law_36 (by decide) ?_
      refine ys_iand dL_law_38 ?_
      obtain ⟨r, hr, e⟩ := and31 (xs (5 * t))
      rw [e]
      refine law_go hr hI hi hL ⟨by omega, by omega⟩ (fun G2 S2 hI2 => ?_)
      refine ys_iinc (v := nI (5 * (t + 1))) (L2 := [(4, _), (1, _), (2, _), (3, _)]) dL_law_1834 rfl ?_ (by decide) rfl (by decide) ?_
      · rw [show Int32.ofInt 5 = nI 5 from by decide, nI_add2, show 5 * t + 5 = 5 * (t + 1) by omega]
      refine ys_goto dL_law_1837 ?_
      refine ys_pick (L2 := [(1, _), (2, _), (3, _), (4, _)]) [1, 2, 3, 0] rfl ?_
      have hgo := ih (t + 1) G2 S2 (by omega) (by omega) hI2
      rw [show 546 + (t + 1) = 546 + t + 1 by omega, show 15842 + 6 * (t + 1) = 15842 + 6 * t + 6 by omega] at hgo
      exact hgo
theorem ys_kc {E : State → (Nat → Prop) → Prop} {R0 : Option Nat} {M : xM} {n0 mc ms pc n n2 k k2 c c2 : Nat} {Q : Option Value → Nat → xG → Prop} {X : String → Nat → xG → Prop} {L : List (Nat × Value)} {st : List Value} {G : xG} (hn : n = n2) (hk : k = k2) (hc : c = c2) (K : yS E R0 M n0 mc ms Q X pc L st n2 G k2 c2) : yS E R0 M n0 mc ms Q X pc L st n G k c := by
  subst hn
  subst hk
  subst hc
  exact K
theorem law_walk (hL : Ls ≤ 2560) (G : xG) : yS (yLE b Ls xs) (some b) mL0 0 601024 7293034 lQ xNo 0 [] [] 0 G 0 0 := by
  refine ys_new dL_law_0 klL_8 xn7 (by omega) (by omega) ?_
  refine ys_dup dL_law_3 rfl ?_
  refine ys_callI (As := []) dL_law_4 lkL_96 (k_A_init (a := 0) (va_up_self _ _ _)) rfl rfl (Nat.le_of_ble_eq_true rfl) ⟨by decide, by decide⟩ ⟨by omega, by omega⟩ (fun v m H hq _ => ?_) (fun _ _ _ h => h.elim)
  obtain ⟨rfl, hm, hz, _⟩ := hq
  refine ys_kc (n2 := 528) (k2 := 528) (c2 := 3654) hm (by omega) (by omega) ?_
  refine ys_astore_n (L2 := [(1, _)]) dL_law_7 (by decide) rfl (by decide) ?_
  refine ys_new dL_law_8 klL_97 xn8 (by omega) (by omega) ?_
  refine ys_dup dL_law_11 rfl ?_
  refine ys_callI (As := []) dL_law_12 lkL_99 (k_B_init (b := 528) (va_up_self _ _ _)) rfl rfl (Nat.le_of_ble_eq_true rfl) ⟨by decide, by decide⟩ ⟨by omega, by omega⟩ (fun v m H2 hq _ => ?_) (fun _ _ _ h => h.elim)
  obtain ⟨rfl, hm2, hb, hlow⟩ := hq
  refine ys_kc (n2 := 545) (k2 := 545) (c2 := 15841) hm2 (by omega) (by omega) ?_
  have hz2 : fzo H2 0 zS0 := fzo_fr hz (fun k h1 h2 => (hlow k (by omega)).trans (va_up_ne _ _ (by omega)))
  refine ys_astore_n (L2 := [(2, _), (1, _)]) dL_law_15 (by decide) rfl (by decide) ?_
  refine ys_iconst (v := 1) dL_law_16 (by decide) ?_
  refine ys_newJ (N := 1) dL_law_17 rfl (by omega) (by omega) (by omega) ?_
  refine ys_astore_n (L2 := [(3, _), (2, _), (1, _)]) dL_law_19 (by decide) rfl (by decide) ?_
  refine ys_iconst (v := nI (5 * 0)) dL_law_20 (by decide) ?_
  refine ys_istore (L2 := [(4, _), (3, _), (2, _), (1, _)]) dL_law_21 (by decide) rfl (by decide) ?_
  refine ys_pick (L2 := [(1, _), (2, _), (3, _), (4, _)]) [3, 2, 1, 0] rfl ?_
  exact law_loop hL (Ls + 6) 0 _ zS0 (by omega) (by omega) ⟨fzo_fr hz2 (fun k h1 h2 => va_up_ne _ _ (by omega)), ⟨_, mdo_fr hb (fun k h1 h2 => va_up_ne _ _ (by omega))⟩, _, va_up_self _ _ _⟩
end LE
