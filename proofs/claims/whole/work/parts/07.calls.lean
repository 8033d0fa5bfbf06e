section XC
variable {M : xM} {n0 mc ms : Nat} {Q : Option Value → Nat → xG → Prop} {X : String → Nat → xG → Prop} {pc pc2 tgt : Nat} {L : List (Nat × Value)} {st : List Value} {n : Nat} {G : xG} {k c : Nat}
/-- the same, with an exception of the class E on its way through this frame -/
def xSX (M : xM) (n0 mc ms : Nat) (Q : Option Value → Nat → xG → Prop) (X : String → Nat → xG → Prop) (pc : Nat) (L : List (Nat × Value)) (st : List Value) (n : Nat) (G : xG) (k c : Nat) (E : String) : Prop :=
  ∀ (p : Program) (l : Launch) (e : Env) (s : State) (m : MethodId) (args : Array Value) (below : List Frame) (meth : Method) (cd : Code) (D : va_G) (A : Nat → Prop) (ad0 ad : Nat → Nat × Nat) (H : Heap) (locs : List Loc) (ls : Array Slot) (q : Addr) (ce : Cell),
    xC M p l s m args meth cd D A → xH D A ad n G s H → va_S A s.heap H locs → ((∀ j, j < n0 → ad j = ad0 j) ∧ n0 ≤ n) → lv_has ls M.2.2.1 (xL ad L) → ((∀ q ∈ L, xVc n q.2) ∧ ∀ v ∈ st, xVc n v) →
    H[q]? = some ce → ce.vm = .none → s.vm.findClass E = some ce.cls →
    vx_W p l e (xRm M mc ms) s m args below meth cd H locs k c (vx_MQ below (xQ n0 ad0 D A Q) (xX n0 ad0 D A X) args s mc ms A) (F0 m pc ls (st.map (xV ad))) q
/-- no handler: out of the method -/
theorem xs_out {E : String} (hh : M.2.2.2.2.2.2 = []) (hk : k ≤ mc) (hc0 : c ≤ ms) (hx : X E n G) : xSX M n0 mc ms Q X pc L st n G k c E := by
  intro p l e s m args below meth cd D A ad0 ad H locs ls q ce C hH hS hX hl hc h1 h2 h3
  refine vx_out (E := E) (ce := ce) ?_ C.2.1.2.2.1 h1 h2 h3 (fun t ht hvm => ⟨n, G, ad, hx, hX.2, hX.1, by rw [ht]; exact hH.moved hvm, hS.F ht⟩) hS.2.2 hk hc0
  intro x hx
  rw [C.2.2.2, hh] at hx
  cases hx
theorem xL_ext {ad ad' : Nat → Nat × Nat} (hX : ∀ j, j < n → ad' j = ad j) (hc : ∀ q ∈ L, xVc n q.2) : xL ad' L = xL ad L :=
  List.map_congr_left fun q hq => by rw [xV_ext hX (hc q hq)]
theorem xst_ext {ad ad' : Nat → Nat × Nat} (hX : ∀ j, j < n → ad' j = ad j) (hc : ∀ v ∈ st, xVc n v) : st.map (xV ad') = st.map (xV ad) :=
  List.map_congr_left fun v hv => xV_ext hX (hc v hv)
/-- behind a call -/
theorem xr_run {p : Program} {l : Launch} {e : Env} {s : State} {m : MethodId} {args : Array Value} {below : List Frame} {meth : Method} {cd : Code} {D : va_G} {A : Nat → Prop} {ad0 ad : Nat → Nat × Nat} {H : Heap} {locs : List Loc} {ls : Array Slot} {st0 rest : List Value} {a : Array Value} {mcY msY : Nat} {QY : Option Value → Nat → xG → Prop} {XY : String → Nat → xG → Prop}
    (C : xC M p l s m args meth cd D A) (hS : va_S A s.heap H locs) (hX : (∀ j, j < n0 → ad j = ad0 j) ∧ n0 ≤ n) (hl : lv_has ls M.2.2.1 (xL ad L)) (hcL : ∀ q ∈ L, xVc n q.2) (hcR : ∀ v ∈ rest, xVc n v)
    (hr : vx_Run p l e (xRm M mc ms) s m args below meth cd H locs k c mcY msY (F0 m pc ls st0) (rest.map (xV ad)) (xQ n ad D A QY a) (xX n ad D A XY) A)
    (kk : ∀ (v : Option Value) (n' : Nat) (G' : xG), QY v n' G' → n ≤ n' → xS M n0 mc ms Q X (pc + 3) L (v.toList ++ rest) n' G' (k + mcY) (c + msY))
    (kx : ∀ (E : String) (n' : Nat) (G' : xG), XY E n' G' → n ≤ n' → xSX M n0 mc ms Q X pc L rest n' G' (k + mcY) (c + msY) E) :
    W p l e (xRm M mc ms) s m args below meth cd H locs k c (vx_MQ below (xQ n0 ad0 D A Q) (xX n0 ad0 D A X) args s mc ms A) (F0 m pc ls st0) := by
  intro T hT X1
  rcases hr T hT X1 with ⟨v, st₀, t, T', Lc, h0, X', hL, e1, e2, hq, hgo⟩ | ⟨q, st₀, t, T', Lc, E, ce, h0, X', hL, e1, e2, hq, hce, hcv, hcl, hgo⟩
  · obtain ⟨w, n', G', ad', hov, hQ, hnn, hext, hcw, hH', hF⟩ := hq
    cases hov
    obtain ⟨k1, k2, k3⟩ := vx_keep h0 e1 hS (fun q _ h => h) (fun q h => h) hL hF
    have hvm : s.vm.Alike t.vm := by rw [← e2]; exact X'.warmed.alike
    have hH2 : xH D A ad' n' G' s T'.heap := by rw [e1]; exact hH'.moved hvm.symm
    have hst : (w.toList ++ rest).map (xV ad') = (w.map (xV ad')).toList ++ rest.map (xV ad) := by
      rw [List.map_append, xst_ext hext hcR]
      cases w <;> rfl
    have hg := kk w n' G' hQ hnn p l e s m args below meth cd D A ad0 ad' T'.heap (locs ++ Lc) ls C hH2 k3 ⟨fun j hj => (hext j (Nat.lt_of_lt_of_le hj hX.2)).trans (hX.1 j hj), Nat.le_trans hX.2 hnn⟩ (by rw [xL_ext hext hcL]; exact hl)
      ⟨fun q hq => xVc_mono hnn (hcL q hq), fun u hu => by
        rcases List.mem_append.mp hu with h | h
        · cases w with
          | none => cases h
          | some z =>
            rw [List.mem_singleton.mp h]
            exact hcw z rfl
        · exact xVc_mono hnn (hcR u h)⟩
    rw [hst] at hg
    obtain ⟨t2, a1, b1⟩ := hg T' rfl X'
    exact ⟨t2, hgo t2 a1, b1⟩
  · obtain ⟨n', G', ad', hXY, hnn, hext, hH', hF⟩ := hq
    obtain ⟨k1, k2, k3⟩ := vx_keep h0 e1 hS (fun q _ h => h) (fun q h => h) hL hF
    have hvm : s.vm.Alike t.vm := by rw [← e2]; exact X'.warmed.alike
    have hH2 : xH D A ad' n' G' s T'.heap := by rw [e1]; exact hH'.moved hvm.symm
    have hg := kx E n' G' hXY hnn p l e s m args below meth cd D A ad0 ad' T'.heap (locs ++ Lc) ls q ce C hH2 k3 ⟨fun j hj => (hext j (Nat.lt_of_lt_of_le hj hX.2)).trans (hX.1 j hj), Nat.le_trans hX.2 hnn⟩ (by rw [xL_ext hext hcL]; exact hl)
      ⟨fun q hq => xVc_mono hnn (hcL q hq), fun u hu => xVc_mono hnn (hcR u hu)⟩ (by rw [e1]; exact hce) hcv hcl
    rw [xst_ext hext hcR] at hg
    obtain ⟨t2, a1, b1⟩ := hg T' rfl X'
    exact ⟨t2, hgo.trans a1, b1⟩
/-- the callee's start -/
theorem xr_pre {p : Program} {l : Launch} {s : State} {m : MethodId} {args : Array Value} {meth : Method} {cd : Code} {D : va_G} {A : Nat → Prop} {ad : Nat → Nat × Nat} {H : Heap} {locs : List Loc} {av : List Value}
    (C : xC M p l s m args meth cd D A) (hH : xH D A ad n G s H) (hS : va_S A s.heap H locs) (hcA : ∀ v ∈ av, xVc n v) (U : State) (hU : U.heap = H) (hW : s.WarmedH U.vm) :
    va_Pc (av.map (xV ad)) (fun U => U.heap.size = H.size ∧ (∀ v ∈ av, xVc n v) ∧ xU D A U ∧ xH D A ad n G U U.heap) (av.map (xV ad)).toArray U :=
  ⟨rfl, by rw [hU], hcA, C.2.2.1.2.2.blind hW (fun a h1 h2 => by rw [hU]; exact hS.2.1 a h1 h2), by rw [hU]; exact hH.moved hW.alike⟩
theorem xr_rest {ad : Nat → Nat × Nat} {rest : List Value} (h : (rest.map fun v => v.category).sum ≤ 8) : ((rest.map (xV ad)).map fun v => v.category).sum ≤ 8 := by
  rw [List.map_map]
  rw [show ((fun v : Value => v.category) ∘ xV ad) = fun v => v.category from funext fun v => by cases v <;> rfl]
  exact h
theorem xr_cB {Y : xM} {idx na mcY msY : Nat} {p : Program} {l : Launch} {s : State} {m : MethodId} {args : Array Value} {meth : Method} {cd : Code} {D : va_G} {A : Nat → Prop} (C : xC M p l s m args meth cd D A) (lk : xlB M.1.cls idx Y na) (hR : Y.2.2.2.2.1 + 1 ≤ M.2.2.2.2.1 ∧ 8 + (Y.2.2.1 + 11) + Y.2.2.2.2.2.1 ≤ M.2.2.2.2.2.1) :
    CallB (xRm M mc ms) s args M.1.cls idx Y.1 Y.2.1 Y.2.2.1 Y.2.2.2.1 (xws Y) (xRm Y mcY msY) mcY msY na :=
  callB_of (Ts := xTB) (ws' := xTB) na C.2.1.2.1 (xws_good lk.1.2.2) rfl rfl rfl (C.2.1.2.1 _ lk.1.2.1) (C.2.1.2.1 _ lk.1.1) lk.2 hR
/-- calls -/
theorem xs_callV {Y : xM} {idx na ci b mcY msY : Nat} {As rest fs : List Value} {QY : Option Value → Nat → xG → Prop} {XY : String → Nat → xG → Prop} (d : xD M pc pc2 3 (.invokevirtual idx)) (lk : xlV M.1.cls idx Y na ci) (hb : G b = .inr (ci, fs)) (hK : xK Y (.ref b :: As) n G mcY msY QY XY)
    (hst : st = As.reverse ++ .ref b :: rest) (hna : As.length = na) (hrm : (rest.map fun v => v.category).sum ≤ 8) (hR : Y.2.2.2.2.1 + 1 ≤ M.2.2.2.2.1 ∧ 8 + (Y.2.2.1 + 11) + Y.2.2.2.2.2.1 ≤ M.2.2.2.2.2.1) (hk : k + mcY ≤ mc ∧ c + msY ≤ ms)
    (kk : ∀ (v : Option Value) (n' : Nat) (G' : xG), QY v n' G' → n ≤ n' → xS M n0 mc ms Q X pc2 L (v.toList ++ rest) n' G' (k + mcY) (c + msY))
    (kx : ∀ (E : String) (n' : Nat) (G' : xG), XY E n' G' → n ≤ n' → xSX M n0 mc ms Q X pc L rest n' G' (k + mcY) (c + msY) E) : xS M n0 mc ms Q X pc L st n G k c := by
  intro p l e s m args below meth cd D A ad0 ad H locs ls C hH hS hX hl hc
  obtain ⟨d, rfl⟩ := d
  subst hst
  have hcb : xVc n (.ref b) := hc.2 _ (List.mem_append_right _ List.mem_cons_self)
  have hcR : ∀ v ∈ rest, xVc n v := fun v hv => hc.2 v (List.mem_append_right _ (List.mem_cons_of_mem _ hv))
  have hcA : ∀ v ∈ (Value.ref b :: As), xVc n v := xSc_cons hcb fun v hv => hc.2 v (List.mem_append_left _ (List.mem_reverse.mpr hv))
  have hw := xW_get (ad := ad) (G := G) (show b < n from hcb)
  rw [hb] at hw
  obtain ⟨q, hq, hqc⟩ := Option.map_eq_some_iff.mp lk.2.2
  refine xr_run (a := ((Value.ref b :: As).map (xV ad)).toArray) C hS hX hl hc.1 hcR ?_ kk kx
  refine vx_runV (C := Y.1.cls) (b := (ad b).1) (As := As.map (xV ad)) (Ts := xTB) (nL := M.2.2.1) ⟨C.1.1, C.1.2.1, C.1.2.2.2, C.2.1.1, C.2.1.2.1⟩ (hK l C.2.2.1.1 D A ad H.size (fun q hq => C.2.2.1.2.1 q (Nat.le_trans hS.1 hq))) ⟨xr_cB C lk.1 hR, C.2.1.2.1 _ lk.2.1.1, C.2.1.2.1 _ lk.2.1.2⟩ ⟨xPc_blind, ?_, fun U hU hW => xr_pre C hH hS hcA U hU hW⟩ rfl (by rw [List.length_map]; exact hna) hl.1 ?_ (lv_room (xr_rest hrm)) d ⟨hk.1, hk.2⟩
  · rw [← hqc]
    exact va_recv (D := D) (cl := vwCl) C.2.2.1.2.2.1.1 hH.1 hq hw
  · show (As.reverse ++ Value.ref b :: rest).map (xV ad) = _
    rw [List.map_append, List.map_reverse]
    rfl
theorem xs_callS {Y : xM} {idx na mcY msY : Nat} {As rest : List Value} {QY : Option Value → Nat → xG → Prop} {XY : String → Nat → xG → Prop} (d : xD M pc pc2 3 (.invokestatic idx)) (lk : xlS M.1.cls idx Y na) (hK : xK Y As n G mcY msY QY XY)
    (hst : st = As.reverse ++ rest) (hna : As.length = na) (hrm : (rest.map fun v => v.category).sum ≤ 8) (hR : Y.2.2.2.2.1 + 1 ≤ M.2.2.2.2.1 ∧ 8 + (Y.2.2.1 + 11) + Y.2.2.2.2.2.1 ≤ M.2.2.2.2.2.1) (hk : k + mcY ≤ mc ∧ c + msY ≤ ms)
    (kk : ∀ (v : Option Value) (n' : Nat) (G' : xG), QY v n' G' → n ≤ n' → xS M n0 mc ms Q X pc2 L (v.toList ++ rest) n' G' (k + mcY) (c + msY))
    (kx : ∀ (E : String) (n' : Nat) (G' : xG), XY E n' G' → n ≤ n' → xSX M n0 mc ms Q X pc L rest n' G' (k + mcY) (c + msY) E) : xS M n0 mc ms Q X pc L st n G k c := by
  intro p l e s m args below meth cd D A ad0 ad H locs ls C hH hS hX hl hc
  obtain ⟨d, rfl⟩ := d
  subst hst
  have hcR : ∀ v ∈ rest, xVc n v := fun v hv => hc.2 v (List.mem_append_right _ hv)
  have hcA : ∀ v ∈ As, xVc n v := fun v hv => hc.2 v (List.mem_append_left _ (List.mem_reverse.mpr hv))
  refine xr_run (a := (As.map (xV ad)).toArray) C hS hX hl hc.1 hcR ?_ kk kx
  refine vx_runS (As := As.map (xV ad)) (Ts := xTB) (nL := M.2.2.1) ⟨C.1.1, C.1.2.1, C.1.2.2.2, C.2.1.1, C.2.1.2.1⟩ (hK l C.2.2.1.1 D A ad H.size (fun q hq => C.2.2.1.2.1 q (Nat.le_trans hS.1 hq))) ⟨xr_cB C lk.1 hR, C.2.1.2.1 _ lk.2⟩ ⟨xPc_blind, fun U hU hW => xr_pre C hH hS hcA U hU hW⟩ rfl (by rw [List.length_map]; exact hna) hl.1 ?_ (lv_room (xr_rest hrm)) d ⟨hk.1, hk.2⟩
  show (As.reverse ++ rest).map (xV ad) = _
  rw [List.map_append, List.map_reverse]
theorem xs_callI {Y : xM} {idx na b mcY msY : Nat} {As rest : List Value} {QY : Option Value → Nat → xG → Prop} {XY : String → Nat → xG → Prop} (d : xD M pc pc2 3 (.invokespecial idx)) (lk : xlI M.1.cls idx Y na) (hK : xK Y (.ref b :: As) n G mcY msY QY XY)
    (hst : st = As.reverse ++ .ref b :: rest) (hna : As.length = na) (hrm : (rest.map fun v => v.category).sum ≤ 8) (hR : Y.2.2.2.2.1 + 1 ≤ M.2.2.2.2.1 ∧ 8 + (Y.2.2.1 + 11) + Y.2.2.2.2.2.1 ≤ M.2.2.2.2.2.1) (hk : k + mcY ≤ mc ∧ c + msY ≤ ms)
    (kk : ∀ (v : Option Value) (n' : Nat) (G' : xG), QY v n' G' → n ≤ n' → xS M n0 mc ms Q X pc2 L (v.toList ++ rest) n' G' (k + mcY) (c + msY))
    (kx : ∀ (E : String) (n' : Nat) (G' : xG), XY E n' G' → n ≤ n' → xSX M n0 mc ms Q X pc L rest n' G' (k + mcY) (c + msY) E) : xS M n0 mc ms Q X pc L st n G k c := by
  intro p l e s m args below meth cd D A ad0 ad H locs ls C hH hS hX hl hc
  obtain ⟨d, rfl⟩ := d
  subst hst
  have hcb : xVc n (.ref b) := hc.2 _ (List.mem_append_right _ List.mem_cons_self)
  have hcR : ∀ v ∈ rest, xVc n v := fun v hv => hc.2 v (List.mem_append_right _ (List.mem_cons_of_mem _ hv))
  have hcA : ∀ v ∈ (Value.ref b :: As), xVc n v := xSc_cons hcb fun v hv => hc.2 v (List.mem_append_left _ (List.mem_reverse.mpr hv))
  refine xr_run (a := ((Value.ref b :: As).map (xV ad)).toArray) C hS hX hl hc.1 hcR ?_ kk kx
  have cb := xr_cB (mc := mc) (ms := ms) (mcY := mcY) (msY := msY) C lk.1 hR
  rw [lk.2.2.2] at cb
  refine vx_runI (b := (ad b).1) (As := As.map (xV ad)) (Ts := xTB) (nL := M.2.2.1) ⟨C.1.1, C.1.2.1, C.1.2.2.2, C.2.1.1, C.2.1.2.1⟩ (hK l C.2.2.1.1 D A ad H.size (fun q hq => C.2.2.1.2.1 q (Nat.le_trans hS.1 hq))) ⟨cb, lk.2.2.1, C.2.1.2.1 _ lk.2.1⟩ ⟨xPc_blind, fun U hU hW => xr_pre C hH hS hcA U hU hW⟩ rfl (by rw [List.length_map]; exact hna) hl.1 ?_ (lv_room (xr_rest hrm)) d ⟨hk.1, hk.2⟩
  show (As.reverse ++ Value.ref b :: rest).map (xV ad) = _
  rw [List.map_append, List.map_reverse]
  rfl
theorem xs_callIN {Y : xM} {idx na b mcY msY : Nat} {host : String} {As rest : List Value} {QY : Option Value → Nat → xG → Prop} {XY : String → Nat → xG → Prop} (d : xD M pc pc2 3 (.invokespecial idx)) (lk : xlN M.1.cls idx Y na host) (hK : xK Y (.ref b :: As) n G mcY msY QY XY)
    (hst : st = As.reverse ++ .ref b :: rest) (hna : As.length = na) (hrm : (rest.map fun v => v.category).sum ≤ 8) (hR : Y.2.2.2.2.1 + 1 ≤ M.2.2.2.2.1 ∧ 8 + (Y.2.2.1 + 11) + Y.2.2.2.2.2.1 ≤ M.2.2.2.2.2.1) (hk : k + mcY ≤ mc ∧ c + msY ≤ ms)
    (kk : ∀ (v : Option Value) (n' : Nat) (G' : xG), QY v n' G' → n ≤ n' → xS M n0 mc ms Q X pc2 L (v.toList ++ rest) n' G' (k + mcY) (c + msY))
    (kx : ∀ (E : String) (n' : Nat) (G' : xG), XY E n' G' → n ≤ n' → xSX M n0 mc ms Q X pc L rest n' G' (k + mcY) (c + msY) E) : xS M n0 mc ms Q X pc L st n G k c := by
  intro p l e s m args below meth cd D A ad0 ad H locs ls C hH hS hX hl hc
  obtain ⟨d, rfl⟩ := d
  subst hst
  have hcb : xVc n (.ref b) := hc.2 _ (List.mem_append_right _ List.mem_cons_self)
  have hcR : ∀ v ∈ rest, xVc n v := fun v hv => hc.2 v (List.mem_append_right _ (List.mem_cons_of_mem _ hv))
  have hcA : ∀ v ∈ (Value.ref b :: As), xVc n v := xSc_cons hcb fun v hv => hc.2 v (List.mem_append_left _ (List.mem_reverse.mpr hv))
  refine xr_run (a := ((Value.ref b :: As).map (xV ad)).toArray) C hS hX hl hc.1 hcR ?_ kk kx
  obtain ⟨⟨l1, l2, l3⟩, l4, l5, l6, l7⟩ := lk
  have cb : va_CN (xRm M mc ms) s args M.1.cls idx Y.1 host Y.2.1 Y.2.2.1 Y.2.2.2.1 (xws Y) (xRm Y mcY msY) mcY msY na := va_cnB (Ts := xTB) (ws' := xTB) na C.2.1.2.1 (xws_good l3) rfl rfl rfl (C.2.2.1.2.2.1.2 _ l1) (C.2.1.2.1 _ l2) l4 hR
  rw [l7] at cb
  refine vx_runIN (b := (ad b).1) (As := As.map (xV ad)) (Ts := xTB) (nL := M.2.2.1) ⟨C.1.1, C.1.2.1, C.1.2.2.2, C.2.1.1, C.2.1.2.1⟩ (hK l C.2.2.1.1 D A ad H.size (fun q hq => C.2.2.1.2.1 q (Nat.le_trans hS.1 hq))) ⟨cb, l6, C.2.1.2.1 _ l5⟩ ⟨xPc_blind, fun U hU hW => xr_pre C hH hS hcA U hU hW⟩ rfl (by rw [List.length_map]; exact hna) hl.1 ?_ (lv_room (xr_rest hrm)) d ⟨hk.1, hk.2⟩
  show (As.reverse ++ Value.ref b :: rest).map (xV ad) = _
  rw [List.map_append, List.map_reverse]
  rfl
theorem xs_callSN {Y : xM} {idx na mcY msY : Nat} {host : String} {As rest : List Value} {QY : Option Value → Nat → xG → Prop} {XY : String → Nat → xG → Prop} (d : xD M pc pc2 3 (.invokestatic idx)) (lk : xlNS M.1.cls idx Y na host) (hK : xK Y As n G mcY msY QY XY)
    (hst : st = As.reverse ++ rest) (hna : As.length = na) (hrm : (rest.map fun v => v.category).sum ≤ 8) (hR : Y.2.2.2.2.1 + 1 ≤ M.2.2.2.2.1 ∧ 8 + (Y.2.2.1 + 11) + Y.2.2.2.2.2.1 ≤ M.2.2.2.2.2.1) (hk : k + mcY ≤ mc ∧ c + msY ≤ ms)
    (kk : ∀ (v : Option Value) (n' : Nat) (G' : xG), QY v n' G' → n ≤ n' → xS M n0 mc ms Q X pc2 L (v.toList ++ rest) n' G' (k + mcY) (c + msY))
    (kx : ∀ (E : String) (n' : Nat) (G' : xG), XY E n' G' → n ≤ n' → xSX M n0 mc ms Q X pc L rest n' G' (k + mcY) (c + msY) E) : xS M n0 mc ms Q X pc L st n G k c := by
  intro p l e s m args below meth cd D A ad0 ad H locs ls C hH hS hX hl hc
  obtain ⟨d, rfl⟩ := d
  subst hst
  have hcR : ∀ v ∈ rest, xVc n v := fun v hv => hc.2 v (List.mem_append_right _ hv)
  have hcA : ∀ v ∈ As, xVc n v := fun v hv => hc.2 v (List.mem_append_left _ (List.mem_reverse.mpr hv))
  refine xr_run (a := (As.map (xV ad)).toArray) C hS hX hl hc.1 hcR ?_ kk kx
  obtain ⟨⟨l1, l2, l3⟩, l4, l5⟩ := lk
  have cb : va_CN (xRm M mc ms) s args M.1.cls idx Y.1 host Y.2.1 Y.2.2.1 Y.2.2.2.1 (xws Y) (xRm Y mcY msY) mcY msY na := va_cnB (Ts := xTB) (ws' := xTB) na C.2.1.2.1 (xws_good l3) rfl rfl rfl (C.2.2.1.2.2.1.2 _ l1) (C.2.1.2.1 _ l2) l4 hR
  refine vx_runSN (As := As.map (xV ad)) (Ts := xTB) (nL := M.2.2.1) ⟨C.1.1, C.1.2.1, C.1.2.2.2, C.2.1.1, C.2.1.2.1⟩ (hK l C.2.2.1.1 D A ad H.size (fun q hq => C.2.2.1.2.1 q (Nat.le_trans hS.1 hq))) ⟨cb, C.2.1.2.1 _ l5, trivial⟩ ⟨xPc_blind, fun U hU hW => xr_pre C hH hS hcA U hU hW⟩ rfl (by rw [List.length_map]; exact hna) hl.1 ?_ (lv_room (xr_rest hrm)) d ⟨hk.1, hk.2⟩
  show (As.reverse ++ rest).map (xV ad) = _
  rw [List.map_append, List.map_reverse]
end XC
