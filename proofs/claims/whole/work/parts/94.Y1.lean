/-! what the law's own methods that catch need: contracts of methods with handlers, their calls, the catching -/
def xNC : List (String × String) := [(eS, eA), (eA, eX), (eS, eX)]
def yN (s : State) : Prop := ∀ w ∈ xNC, va_Nc w.1 w.2 s
theorem yN_moved {u U : State} (hvm : u.vm.Alike U.vm) (h : yN u) : yN U := fun w hw => va_Nc.moved hvm (h w hw)
def yNE : State → (Nat → Prop) → Prop := fun s _ => yN s
def xwsW (M : xM) : List Cond := Cond.codeWith M.1 M.2.1 M.2.2.1 M.2.2.2.1 M.2.2.2.2.2.2 :: xTB
theorem xwsW_good {M : xM} (hc : Cond.codeWith M.1 M.2.1 M.2.2.1 M.2.2.2.1 M.2.2.2.2.2.2 ∈ xTB) : GoodIn xTB (xwsW M) := fun w hw => by
  rcases List.mem_cons.mp hw with rfl | h
  · exact xTB_good _ hc
  · exact xTB_good _ h
/-- a contract of a method with handlers -/
def yK (M : xM) (av : List Value) (n : Nat) (G : xG) (mc ms : Nat) (Q : Option Value → Nat → xG → Prop) (X : String → Nat → xG → Prop) : Prop :=
  ∀ (l : Launch), l.stackTraces = false → ∀ (D : va_G) (A : Nat → Prop) (ad : Nat → Nat × Nat) (sz : Nat), (∀ q, sz ≤ q → A q) →
    vx_Met l M.1 (xwsW M) (xRm M mc ms) (va_Pc (av.map (xV ad)) (fun U => U.heap.size = sz ∧ (∀ v ∈ av, xVc n v) ∧ (xU D A U ∧ yN U) ∧ xH D A ad n G U U.heap)) (xQ n ad D A Q) (xX n ad D A X) mc ms A
theorem yPc_blind {D : va_G} {A : Nat → Prop} {ad : Nat → Nat × Nat} {n sz : Nat} {G : xG} {av : List Value} : FrameBlind (va_Pc (av.map (xV ad)) (fun U => U.heap.size = sz ∧ (∀ v ∈ av, xVc n v) ∧ (xU D A U ∧ yN U) ∧ xH D A ad n G U U.heap)) := by
  intro a U g mk ⟨h1, h2, h3, h4, h5⟩
  refine ⟨h1, h2, h3, ⟨?_, ?_⟩, h5.moved (t := U.calling g mk a) (Vm.Alike.refl U.vm)⟩
  · exact xU.blind (s := U) (U := U.calling g mk a) (State.WarmedH.refl U) (fun _ _ _ => rfl) h4.1
  · exact yN_moved (u := U) (U := U.calling g mk a) (Vm.Alike.refl U.vm) h4.2
theorem yK_of {M : xM} {av : List Value} {n mc ms : Nat} {G : xG} {Q : Option Value → Nat → xG → Prop} {X : String → Nat → xG → Prop} {L0 : List (Nat × Value)} (hy : plainName M.1.cls = true) (hlen : (lg_sl av).length ≤ M.2.2.1) (hL : lv_args 0 av = L0)
    (B : yS yNE none M n mc ms Q X 0 L0 [] n G 0 0) : yK M av n G mc ms Q X := by
  intro l hlt D A ad sz hA
  refine vx_ofWH (cc := M.2.1) (maxL := M.2.2.1) (ret := M.2.2.2.1) (hh := M.2.2.2.2.2.2) (ws' := xTB) hy rfl ?_
  intro p e s m args below meth cd s₁ Bd hml ⟨hargs, hsz, hcl, hu, hH⟩
  subst hargs
  subst hsz
  subst hL
  have hts : ∀ w ∈ xTB, w.before (av.map (xV ad)).toArray s = true := fun w hw => atoms_spec (ws := xwsW M) Bd.pre w (List.mem_cons_of_mem _ hw)
  have hcw : (Cond.codeWith M.1 M.2.1 M.2.2.1 M.2.2.2.1 M.2.2.2.2.2.2).before (av.map (xV ad)).toArray s = true := atoms_spec (ws := xwsW M) Bd.pre _ List.mem_cons_self
  have hC : yC M p l s m (av.map (xV ad)).toArray meth cd D A := ⟨⟨Bd.exec, Bd.bytes, Bd.returns, hml⟩, ⟨findClass_of_methodNamed Bd.named, hts, Bd.notSynchronized, trivial⟩, ⟨hlt, hA, hu.1⟩, Or.inr (vx_table (x := M.1) Bd hcw)⟩
  rw [lg_entry_eq]
  have hl := lv_entry (av.map (xV ad)) (n := M.2.2.1) (by rw [xlg_len]; exact hlen)
  rw [xlv_args] at hl
  exact B p l e s m _ below meth cd D A ad ad s.heap [] _ ⟨hu.2, fun b h => by cases h⟩ hC hH va_S.rf ⟨fun _ _ => rfl, Nat.le_refl _⟩ hl ⟨fun q hq => hcl _ (xlv_mem av 0 q hq), fun v hv => by cases hv⟩
def xlSW (own : String) (idx : Nat) (Y : xM) (na : Nat) : Prop := (Cond.methodLink own idx Y.1 ∈ xTB ∧ Cond.initialized Y.1.cls ∈ xTB ∧ Cond.codeWith Y.1 Y.2.1 Y.2.2.1 Y.2.2.2.1 Y.2.2.2.2.2.2 ∈ xTB) ∧ (Y.1.cls ≠ "java/lang/invoke/MethodHandle" ∧ Y.1.cls ≠ "java/lang/invoke/VarHandle" ∧ (parseMethodDescriptor Y.1.desc).map (fun d => d.parameters.length) = some na) ∧ Cond.static Y.1 ∈ xTB
section Y1
variable {E : State → (Nat → Prop) → Prop} {R0 : Option Nat} {M : xM} {n0 mc ms : Nat} {Q : Option Value → Nat → xG → Prop} {X : String → Nat → xG → Prop} {pc pc2 tgt : Nat} {L : List (Nat × Value)} {st : List Value} {n : Nat} {G : xG} {k c : Nat}
theorem ys_callSW {Y : xM} {idx na mcY msY : Nat} {As rest : List Value} {QY : Option Value → Nat → xG → Prop} (hE : ∀ s A, E s A → yN s) (d : xD M pc pc2 3 (.invokestatic idx)) (lk : xlSW M.1.cls idx Y na) (hK : yK Y As n G mcY msY QY xNo)
    (hst : st = As.reverse ++ rest) (hna : As.length = na) (hrm : (rest.map fun v => v.category).sum ≤ 8) (hR : xRmOk Y M) (hk : k + mcY ≤ mc ∧ c + msY ≤ ms)
    (kk : ∀ (v : Option Value) (n' : Nat) (G' : xG), QY v n' G' → n ≤ n' → yS E R0 M n0 mc ms Q X pc2 L (v.toList ++ rest) n' G' (k + mcY) (c + msY)) : yS E R0 M n0 mc ms Q X pc L st n G k c := by
  intro p l e s m args below meth cd D A ad0 ad H locs ls E0 C hH hS hX hl hc
  obtain ⟨d, rfl⟩ := d
  subst hst
  have hcR : ∀ v ∈ rest, xVc n v := fun v hv => hc.2 v (List.mem_append_right _ hv)
  have hcA : ∀ v ∈ As, xVc n v := fun v hv => hc.2 v (List.mem_append_left _ (List.mem_reverse.mpr hv))
  refine yr_run (a := (As.map (xV ad)).toArray) (XY := xNo) E0 C hS hX hl hc.1 hcR ?_ kk (fun _ _ _ h => False.elim h)
  have cw : vx_CSW (xRm M mc ms) s args M.1.cls idx Y.1 Y.2.1 Y.2.2.1 Y.2.2.2.1 Y.2.2.2.2.2.2 (xwsW Y) (xRm Y mcY msY) mcY msY na := ⟨⟨rfl, rfl, hR.1, hR.2, pay_in C.2.1.2.1 (xwsW_good lk.1.2.2), List.mem_cons_self⟩, C.2.1.2.1 _ lk.1.2.2, C.2.1.2.1 _ lk.1.2.1, ⟨lk.2.1.1, lk.2.1.2.1⟩, (fun sig h => by have h2 := lk.2.1.2.2; rw [h] at h2; exact (Option.some.inj h2).symm), C.2.1.2.1 _ lk.1.1, C.2.1.2.1 _ lk.2.2⟩
  refine vx_runSX (As := As.map (xV ad)) (Ts := xTB) (nL := M.2.2.1) ⟨C.1.1, C.1.2.1, C.1.2.2.2, C.2.1.1, C.2.1.2.1⟩ (hK l C.2.2.1.1 D A ad H.size (fun q hq => C.2.2.1.2.1 q (Nat.le_trans hS.1 hq))) cw ⟨yPc_blind, fun U hU hW => ?_⟩ rfl (by rw [List.length_map]; exact hna) hl.1 ?_ (lv_room (xr_rest hrm)) d ⟨hk.1, hk.2⟩
  · exact ⟨rfl, by rw [hU], hcA, ⟨C.2.2.1.2.2.blind hW (fun a h1 h2 => by rw [hU]; exact hS.2.1 a h1 h2), yN_moved hW.alike (hE s A E0.1)⟩, by rw [hU]; exact hH.moved hW.alike⟩
  · show (As.reverse ++ rest).map (xV ad) = _
    rw [List.map_append, List.map_reverse]
/-- a handler, and the store of what it caught -/
theorem ys_catch {Ex nm : String} {pre suf : List ExceptionTableEntry} {x : ExceptionTableEntry} {hp len i : Nat} {ig : Instr} {L2 : List (Nat × Value)} (hE : ∀ s A, E s A → yN s) (hsplit : tableOf M.2.2.2.2.2.2 = pre ++ x :: suf) (hpass : ∀ z ∈ pre, covers z pc = false ∨ (z.catchType ≠ 0 ∧ ∃ nm : String, Cond.classLink M.1.cls z.catchType nm ∈ xTB ∧ (Ex, nm) ∈ xNC)) (hx : covers x pc = true) (h0 : x.catchType ≠ 0) (hlink : Cond.classLink M.1.cls x.catchType nm ∈ xTB) (hcast : Cond.castable Ex nm ∈ xNW) (hhp : x.handlerPc = hp) (hi : ¬ i = 0) (hn : i < M.2.2.1) (hL : L.filter (fun q => !(q.1 == i) && !(q.1 + 1 == i && q.2.category == 2)) = L2)
    (d : xD M hp pc2 len ig) (hig : (ig = .astore i ∧ len = 2) ∨ (∃ j : Fin 4, ig = .astore_n j ∧ j.val = i ∧ len = 1)) (K : yS E R0 M n0 mc ms Q X pc2 L2 [] n G k c) : ySX E R0 M n0 mc ms Q X pc L st n G k c Ex := by
  intro p l e s m args below meth cd D A ad0 ad H locs ls E0 q ce C hH hS hX hl hc h1 h2 h3
  refine vx_catch (own := M.1.cls) (name := nm) (E := Ex) (ce := ce) C.2.1.1 pre x suf (C.2.2.2.elim (fun e => by rw [e] at hsplit; exact absurd hsplit (by simp [tableOf])) (fun h => h.trans hsplit)) (fun z hz => ?_) hx h0 (C.2.1.2.1 _ hlink) (va_Nw.use (xNW_tab _ hcast) (C.2.2.1.2.2.1.2 _ hcast)) h1 h2 h3 ?_
  · rcases hpass z hz with h | ⟨h4, nm2, h5, h6⟩
    · exact Or.inl h
    · exact Or.inr ⟨h4, nm2, C.2.1.2.1 _ h5, hE s A E0.1 _ h6⟩
  · rw [hhp]
    obtain ⟨d, rfl⟩ := d
    have ef : (xL ad L).filter (fun q => !(q.1 == i) && !(q.1 + 1 == i && q.2.category == 2)) = xL ad L2 := by
      rw [← hL]
      exact congrArg List.tail (xst1_map (L := L) ad i (.int 0))
    have fin : ∀ ls2 : Array Slot, lv_has ls2 M.2.2.1 ((i, Value.ref q) :: (yR R0 ++ xL ad L).filter (fun q => !(q.1 == i) && !(q.1 + 1 == i && q.2.category == 2))) → W p l e (xRm M mc ms) s m args below meth cd H locs k c (vx_MQ below (xQ n0 ad0 D A Q) (xX n0 ad0 D A X) args s mc ms A) (F0 m (hp + len) ls2 []) := by
      intro ls2 hl2
      obtain ⟨h5, h6⟩ := y_back (E := E) (R0 := R0) (s := s) (A := A) (y_f1 hi) hl2 E0.1
      rw [ef] at h5
      refine K p l e s m args below meth cd D A ad0 ad H locs ls2 h6 C hH hS hX ⟨h5.1, h5.2.1, fun q hq => h5.2.2 q (List.mem_cons_of_mem _ hq)⟩ ⟨fun q hq => hc.1 q ?_, fun v hv => by cases hv⟩
      rw [← hL] at hq
      exact (List.mem_filter.mp hq).1
    rcases hig with ⟨rfl, rfl⟩ | ⟨j, rfl, rfl, rfl⟩
    · exact lv_astore C.1.1 C.1.2.1 d (y_all hl E0) hn rfl fin
    · exact lv_astore_n C.1.1 C.1.2.1 d rfl (y_all hl E0) hn rfl fin
/-- a call of the class's -/
theorem ys_A {Y : xM} {idx na a : Nat} {As rest : List Value} {R : zQ} {S : zS} {E1 E2 : String} (d : xD M pc pc2 3 (.invokevirtual idx)) (lk : xlV M.1.cls idx Y na 7) (hx : fzo G a S) (hK : xK Y (.ref a :: As) n G 1 6 (aPost n a G R) (aExc n a G R E1 E2)) (hst : st = As.reverse ++ .ref a :: rest) (hna : As.length = na) (hrm : (rest.map fun v => v.category).sum ≤ 8) (hR : xRmOk Y M) (hk : k + 1 ≤ mc ∧ c + 6 ≤ ms)
    (K : ∀ H, R.1 = 0 → fzo H a R.2.2 → xfr a (a + 528) G H → yS E R0 M n0 mc ms Q X pc2 L (.int (iI R.2.1) :: rest) n H (k + 1) (c + 6))
    (K1 : ∀ H, R.1 = 1 → fzo H a R.2.2 → xfr a (a + 528) G H → ySX E R0 M n0 mc ms Q X pc L rest n H (k + 1) (c + 6) E1)
    (K2 : ∀ H, R.1 = 2 → fzo H a R.2.2 → xfr a (a + 528) G H → ySX E R0 M n0 mc ms Q X pc L rest n H (k + 1) (c + 6) E2) : yS E R0 M n0 mc ms Q X pc L st n G k c := by
  obtain ⟨Vt, lis, h⟩ := id hx
  refine ys_callV d lk h.1 hK hst hna hrm hR hk (fun v m H hq _ => ?_) (fun Ex m H hq _ => ?_)
  · obtain ⟨rfl, q1, rfl, q2, q3⟩ := hq
    exact K H q1 q2 q3
  · obtain ⟨q1, rfl, q2, q3⟩ := hq
    rcases q1 with ⟨rfl, q1⟩ | ⟨rfl, q1⟩
    · exact K1 H q1 q2 q3
    · exact K2 H q1 q2 q3
theorem ys_AL {Y : xM} {idx na a : Nat} {As rest : List Value} {R : zQ} {S : zS} {E1 E2 : String} (d : xD M pc pc2 3 (.invokevirtual idx)) (lk : xlV M.1.cls idx Y na 7) (hx : fzo G a S) (hK : xK Y (.ref a :: As) n G 1 6 (aPostL n a G R) (aExc n a G R E1 E2)) (hst : st = As.reverse ++ .ref a :: rest) (hna : As.length = na) (hrm : (rest.map fun v => v.category).sum ≤ 8) (hR : xRmOk Y M) (hk : k + 1 ≤ mc ∧ c + 6 ≤ ms)
    (K : ∀ H, R.1 = 0 → fzo H a R.2.2 → xfr a (a + 528) G H → yS E R0 M n0 mc ms Q X pc2 L (.long (iL R.2.1) :: rest) n H (k + 1) (c + 6))
    (K1 : ∀ H, R.1 = 1 → fzo H a R.2.2 → xfr a (a + 528) G H → ySX E R0 M n0 mc ms Q X pc L rest n H (k + 1) (c + 6) E1)
    (K2 : ∀ H, R.1 = 2 → fzo H a R.2.2 → xfr a (a + 528) G H → ySX E R0 M n0 mc ms Q X pc L rest n H (k + 1) (c + 6) E2) : yS E R0 M n0 mc ms Q X pc L st n G k c := by
  obtain ⟨Vt, lis, h⟩ := id hx
  refine ys_callV d lk h.1 hK hst hna hrm hR hk (fun v m H hq _ => ?_) (fun Ex m H hq _ => ?_)
  · obtain ⟨rfl, q1, rfl, q2, q3⟩ := hq
    exact K H q1 q2 q3
  · obtain ⟨q1, rfl, q2, q3⟩ := hq
    rcases q1 with ⟨rfl, q1⟩ | ⟨rfl, q1⟩
    · exact K1 H q1 q2 q3
    · exact K2 H q1 q2 q3
theorem ys_A0 {Y : xM} {idx na a : Nat} {As rest : List Value} {R : zQ} {S : zS} (d : xD M pc pc2 3 (.invokevirtual idx)) (lk : xlV M.1.cls idx Y na 7) (hx : fzo G a S) (hK : xK Y (.ref a :: As) n G 1 6 (aPost n a G R) xNo) (hst : st = As.reverse ++ .ref a :: rest) (hna : As.length = na) (hrm : (rest.map fun v => v.category).sum ≤ 8) (hR : xRmOk Y M) (hk : k + 1 ≤ mc ∧ c + 6 ≤ ms)
    (K : ∀ H, R.1 = 0 → fzo H a R.2.2 → xfr a (a + 528) G H → yS E R0 M n0 mc ms Q X pc2 L (.int (iI R.2.1) :: rest) n H (k + 1) (c + 6)) : yS E R0 M n0 mc ms Q X pc L st n G k c := by
  obtain ⟨Vt, lis, h⟩ := id hx
  refine ys_callV d lk h.1 hK hst hna hrm hR hk (fun v m H hq _ => ?_) (fun _ _ _ h _ => h.elim)
  obtain ⟨rfl, q1, rfl, q2, q3⟩ := hq
  exact K H q1 q2 q3
end Y1
/-- what a wrapper answers: the exception's number, and, if none, the value in the row -/
def qW (n a o : Nat) (G : xG) (R : zQ) (w : Int64) : Option Value → Nat → xG → Prop := fun v m H => v = some (.int (nI R.1)) ∧ m = n ∧ R.1 ≤ 2 ∧ fzo H a R.2.2 ∧ (∃ ou, H o = oL 1 ou ∧ (R.1 = 0 → ou 0 = w)) ∧ ∀ k, k ≠ o → (k < a ∨ a + 528 ≤ k) → H k = G k
theorem qW_x {n a o j : Nat} {G H : xG} {R : zQ} {w : Int64} {ou : Nat → Int64} {r : Int32} (hj : R.1 = j) (hj2 : 0 < j ∧ j ≤ 2) (hr : r = nI j) (hz : fzo H a R.2.2) (hf : xfr a (a + 528) G H) (ho : G o = oL 1 ou) (hoa : o < a ∨ a + 528 ≤ o) : qW n a o G R w (some (.int r)) n H := by
  subst hj
  subst hr
  exact ⟨rfl, rfl, hj2.2, hz, ⟨ou, (hf o hoa).trans ho, fun e => absurd e (by omega)⟩, fun k _ hk => hf k hk⟩
theorem qW_0 {n a o : Nat} {G H : xG} {R : zQ} {w : Int64} {ou : Nat → Int64} (hj : R.1 = 0) (hz : fzo H a R.2.2) (hf : xfr a (a + 528) G H) (hoa : o < a ∨ a + 528 ≤ o) (hw : ou 0 = w) : qW n a o G R w (some (.int 0)) n (va_up H o (oL 1 ou)) := by
  refine ⟨by rw [hj]; rfl, rfl, by omega, fzo_fr hz (fun k h1 h2 => va_up_ne _ _ (by omega)), ⟨ou, va_up_self _ _ _, fun _ => hw⟩, fun k h1 h2 => (va_up_ne _ _ h1).trans (hf k h2)⟩
theorem in1_0 : vp_in (0 : Int32) 1 := (vp_in_nI (by omega) (by omega) : vp_in (nI 0) 1)
theorem updL_0 (f : Nat → Int64) (v : Int64) : vp_updL f (0 : Int32).toNatClampNeg v 0 = v := by
  rw [show (0 : Int32).toNatClampNeg = 0 from by decide]
  simp [vp_updL]
theorem xin_s1 (w : Cond) (i : Nat) (hi : tables_1_1[i]? = some w) : w ∈ lw_tbl := List.mem_append_right _ (show w ∈ tables_1 from List.mem_append_left _ (List.mem_of_getElem? hi))
theorem xin_s2 (w : Cond) (i : Nat) (hi : tables_1_2[i]? = some w) : w ∈ lw_tbl := List.mem_append_right _ (show w ∈ tables_1 from List.mem_append_right _ (List.mem_append_left _ (List.mem_of_getElem? hi)))
theorem xin_s3 (w : Cond) (i : Nat) (hi : tables_1_3[i]? = some w) : w ∈ lw_tbl := List.mem_append_right _ (show w ∈ tables_1 from List.mem_append_right _ (List.mem_append_right _ (List.mem_append_left _ (List.mem_of_getElem? hi))))
theorem xin_s4 (w : Cond) (i : Nat) (hi : tables_1_4[i]? = some w) : w ∈ lw_tbl := List.mem_append_right _ (show w ∈ tables_1 from List.mem_append_right _ (List.mem_append_right _ (List.mem_append_right _ (List.mem_append_left _ (List.mem_of_getElem? hi)))))
theorem xin_s5 (w : Cond) (i : Nat) (hi : tables_1_5[i]? = some w) : w ∈ lw_tbl := List.mem_append_right _ (show w ∈ tables_1 from List.mem_append_right _ (List.mem_append_right _ (List.mem_append_right _ (List.mem_append_right _ (List.mem_append_left _ (List.mem_of_getElem? hi))))))
theorem xin_s6 (w : Cond) (i : Nat) (hi : tables_1_6[i]? = some w) : w ∈ lw_tbl := List.mem_append_right _ (show w ∈ tables_1 from List.mem_append_right _ (List.mem_append_right _ (List.mem_append_right _ (List.mem_append_right _ (List.mem_append_right _ (List.mem_of_getElem? hi))))))
set_option maxRecDepth 100000 in
theorem lkW_100 : xlSW "FaceZonesLaw" 100 mL_append 3 := ⟨⟨(xTB_s2 _ 231 (by decide +kernel) rfl), (xTB_s1 _ 0 (by decide +kernel) rfl), (xTB_s2 _ 233 (by decide +kernel) rfl)⟩, ⟨by decide +kernel, by decide +kernel, by decide +kernel⟩, (xTB_s2 _ 232 (by decide +kernel) rfl)⟩
set_option maxRecDepth 100000 in
theorem lkW_117 : xlSW "FaceZonesLaw" 117 mL_load 2 := ⟨⟨(xTB_s3 _ 94 (by decide +kernel) rfl), (xTB_s1 _ 0 (by decide +kernel) rfl), (xTB_s3 _ 96 (by decide +kernel) rfl)⟩, ⟨by decide +kernel, by decide +kernel, by decide +kernel⟩, (xTB_s3 _ 95 (by decide +kernel) rfl)⟩
set_option maxRecDepth 100000 in
theorem lkW_121 : xlSW "FaceZonesLaw" 121 mL_about 3 := ⟨⟨(xTB_s3 _ 106 (by decide +kernel) rfl), (xTB_s1 _ 0 (by decide +kernel) rfl), (xTB_s3 _ 108 (by decide +kernel) rfl)⟩, ⟨by decide +kernel, by decide +kernel, by decide +kernel⟩, (xTB_s3 _ 107 (by decide +kernel) rfl)⟩
set_option maxRecDepth 100000 in
theorem lkW_124 : xlSW "FaceZonesLaw" 124 mL_face 4 := ⟨⟨(xTB_s3 _ 145 (by decide +kernel) rfl), (xTB_s1 _ 0 (by decide +kernel) rfl), (xTB_s3 _ 147 (by decide +kernel) rfl)⟩, ⟨by decide +kernel, by decide +kernel, by decide +kernel⟩, (xTB_s3 _ 146 (by decide +kernel) rfl)⟩
set_option maxRecDepth 100000 in
theorem lkW_128 : xlSW "FaceZonesLaw" 128 mL_zone 4 := ⟨⟨(xTB_s3 _ 206 (by decide +kernel) rfl), (xTB_s1 _ 0 (by decide +kernel) rfl), (xTB_s3 _ 208 (by decide +kernel) rfl)⟩, ⟨by decide +kernel, by decide +kernel, by decide +kernel⟩, (xTB_s3 _ 207 (by decide +kernel) rfl)⟩
set_option maxRecDepth 100000 in
theorem lkW_131 : xlSW "FaceZonesLaw" 131 mL_zoneOf 4 := ⟨⟨(xTB_s3 _ 219 (by decide +kernel) rfl), (xTB_s1 _ 0 (by decide +kernel) rfl), (xTB_s3 _ 221 (by decide +kernel) rfl)⟩, ⟨by decide +kernel, by decide +kernel, by decide +kernel⟩, (xTB_s3 _ 220 (by decide +kernel) rfl)⟩
set_option maxRecDepth 100000 in
theorem lkW_134 : xlSW "FaceZonesLaw" 134 mL_inZone 5 := ⟨⟨(xTB_s3 _ 230 (by decide +kernel) rfl), (xTB_s1 _ 0 (by decide +kernel) rfl), (xTB_s3 _ 232 (by decide +kernel) rfl)⟩, ⟨by decide +kernel, by decide +kernel, by decide +kernel⟩, (xTB_s3 _ 231 (by decide +kernel) rfl)⟩
set_option maxRecDepth 100000 in
theorem lkW_138 : xlSW "FaceZonesLaw" 138 mL_cross 5 := ⟨⟨(xTB_s3 _ 239 (by decide +kernel) rfl), (xTB_s1 _ 0 (by decide +kernel) rfl), (xTB_s4 _ 1 (by decide +kernel) rfl)⟩, ⟨by decide +kernel, by decide +kernel, by decide +kernel⟩, (xTB_s4 _ 0 (by decide +kernel) rfl)⟩
set_option maxRecDepth 100000 in
theorem lkW_141 : xlSW "FaceZonesLaw" 141 mL_angle 4 := ⟨⟨(xTB_s4 _ 11 (by decide +kernel) rfl), (xTB_s1 _ 0 (by decide +kernel) rfl), (xTB_s4 _ 13 (by decide +kernel) rfl)⟩, ⟨by decide +kernel, by decide +kernel, by decide +kernel⟩, (xTB_s4 _ 12 (by decide +kernel) rfl)⟩
set_option maxRecDepth 100000 in
theorem lkW_144 : xlSW "FaceZonesLaw" 144 mL_sameForm 4 := ⟨⟨(xTB_s4 _ 20 (by decide +kernel) rfl), (xTB_s1 _ 0 (by decide +kernel) rfl), (xTB_s4 _ 22 (by decide +kernel) rfl)⟩, ⟨by decide +kernel, by decide +kernel, by decide +kernel⟩, (xTB_s4 _ 21 (by decide +kernel) rfl)⟩
set_option maxRecDepth 100000 in
theorem lkW_147 : xlSW "FaceZonesLaw" 147 mL_addFace 6 := ⟨⟨(xTB_s4 _ 32 (by decide +kernel) rfl), (xTB_s1 _ 0 (by decide +kernel) rfl), (xTB_s4 _ 34 (by decide +kernel) rfl)⟩, ⟨by decide +kernel, by decide +kernel, by decide +kernel⟩, (xTB_s4 _ 33 (by decide +kernel) rfl)⟩
set_option maxRecDepth 100000 in
theorem lkW_151 : xlSW "FaceZonesLaw" 151 mL_addForm 3 := ⟨⟨(xTB_s4 _ 58 (by decide +kernel) rfl), (xTB_s1 _ 0 (by decide +kernel) rfl), (xTB_s4 _ 60 (by decide +kernel) rfl)⟩, ⟨by decide +kernel, by decide +kernel, by decide +kernel⟩, (xTB_s4 _ 59 (by decide +kernel) rfl)⟩
set_option maxRecDepth 100000 in
theorem lkW_154 : xlSW "FaceZonesLaw" 154 mL_twin 3 := ⟨⟨(xTB_s4 _ 75 (by decide +kernel) rfl), (xTB_s1 _ 0 (by decide +kernel) rfl), (xTB_s4 _ 77 (by decide +kernel) rfl)⟩, ⟨by decide +kernel, by decide +kernel, by decide +kernel⟩, (xTB_s4 _ 76 (by decide +kernel) rfl)⟩
set_option maxRecDepth 100000 in
theorem lkW_157 : xlSW "FaceZonesLaw" 157 mL_remove 3 := ⟨⟨(xTB_s4 _ 92 (by decide +kernel) rfl), (xTB_s1 _ 0 (by decide +kernel) rfl), (xTB_s4 _ 94 (by decide +kernel) rfl)⟩, ⟨by decide +kernel, by decide +kernel, by decide +kernel⟩, (xTB_s4 _ 93 (by decide +kernel) rfl)⟩
set_option maxRecDepth 100000 in
theorem lkW_160 : xlSW "FaceZonesLaw" 160 mL_setSystem 3 := ⟨⟨(xTB_s4 _ 99 (by decide +kernel) rfl), (xTB_s1 _ 0 (by decide +kernel) rfl), (xTB_s4 _ 101 (by decide +kernel) rfl)⟩, ⟨by decide +kernel, by decide +kernel, by decide +kernel⟩, (xTB_s4 _ 100 (by decide +kernel) rfl)⟩
set_option maxRecDepth 100000 in
theorem lkW_163 : xlSW "FaceZonesLaw" 163 mL_setLeast 3 := ⟨⟨(xTB_s4 _ 106 (by decide +kernel) rfl), (xTB_s1 _ 0 (by decide +kernel) rfl), (xTB_s4 _ 108 (by decide +kernel) rfl)⟩, ⟨by decide +kernel, by decide +kernel, by decide +kernel⟩, (xTB_s4 _ 107 (by decide +kernel) rfl)⟩
set_option maxRecDepth 100000 in
theorem lkW_166 : xlSW "FaceZonesLaw" 166 mL_setTwin 5 := ⟨⟨(xTB_s4 _ 113 (by decide +kernel) rfl), (xTB_s1 _ 0 (by decide +kernel) rfl), (xTB_s4 _ 115 (by decide +kernel) rfl)⟩, ⟨by decide +kernel, by decide +kernel, by decide +kernel⟩, (xTB_s4 _ 114 (by decide +kernel) rfl)⟩
set_option maxRecDepth 100000 in
theorem lkW_169 : xlSW "FaceZonesLaw" 169 mL_undo 2 := ⟨⟨(xTB_s4 _ 124 (by decide +kernel) rfl), (xTB_s1 _ 0 (by decide +kernel) rfl), (xTB_s4 _ 126 (by decide +kernel) rfl)⟩, ⟨by decide +kernel, by decide +kernel, by decide +kernel⟩, (xTB_s4 _ 125 (by decide +kernel) rfl)⟩
set_option maxRecDepth 100000 in
theorem lkW_172 : xlSW "FaceZonesLaw" 172 mL_whyNot 6 := ⟨⟨(xTB_s4 _ 136 (by decide +kernel) rfl), (xTB_s1 _ 0 (by decide +kernel) rfl), (xTB_s4 _ 138 (by decide +kernel) rfl)⟩, ⟨by decide +kernel, by decide +kernel, by decide +kernel⟩, (xTB_s4 _ 137 (by decide +kernel) rfl)⟩
set_option maxRecDepth 100000 in
theorem lkW_183 : xlSW "FaceZonesLaw" 183 mL_grown 3 := ⟨⟨(xTB_s4 _ 143 (by decide +kernel) rfl), (xTB_s1 _ 0 (by decide +kernel) rfl), (xTB_s4 _ 145 (by decide +kernel) rfl)⟩, ⟨by decide +kernel, by decide +kernel, by decide +kernel⟩, (xTB_s4 _ 144 (by decide +kernel) rfl)⟩
set_option maxRecDepth 100000 in
theorem lkW_188 : xlSW "FaceZonesLaw" 188 mL_runScript 4 := ⟨⟨(xTB_s4 _ 172 (by decide +kernel) rfl), (xTB_s1 _ 0 (by decide +kernel) rfl), (xTB_s4 _ 174 (by decide +kernel) rfl)⟩, ⟨by decide +kernel, by decide +kernel, by decide +kernel⟩, (xTB_s4 _ 173 (by decide +kernel) rfl)⟩
set_option maxRecDepth 100000 in
theorem lkW_192 : xlSW "FaceZonesLaw" 192 mL_simulate 4 := ⟨⟨(xTB_s4 _ 229 (by decide +kernel) rfl), (xTB_s1 _ 0 (by decide +kernel) rfl), (xTB_s4 _ 231 (by decide +kernel) rfl)⟩, ⟨by decide +kernel, by decide +kernel, by decide +kernel⟩, (xTB_s4 _ 230 (by decide +kernel) rfl)⟩
set_option maxRecDepth 100000 in
theorem lkW_196 : xlSW "FaceZonesLaw" 196 mL_save 3 := ⟨⟨(xTB_s5 _ 2 (by decide +kernel) rfl), (xTB_s1 _ 0 (by decide +kernel) rfl), (xTB_s5 _ 4 (by decide +kernel) rfl)⟩, ⟨by decide +kernel, by decide +kernel, by decide +kernel⟩, (xTB_s5 _ 3 (by decide +kernel) rfl)⟩
set_option maxRecDepth 100000 in
theorem lkW_199 : xlSW "FaceZonesLaw" 199 mL_restore 3 := ⟨⟨(xTB_s5 _ 13 (by decide +kernel) rfl), (xTB_s1 _ 0 (by decide +kernel) rfl), (xTB_s5 _ 15 (by decide +kernel) rfl)⟩, ⟨by decide +kernel, by decide +kernel, by decide +kernel⟩, (xTB_s5 _ 14 (by decide +kernel) rfl)⟩
