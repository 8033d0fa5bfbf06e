/-! contracts that say all: one answer, one heap -/
abbrev xNo : String → Nat → xG → Prop := fun _ _ _ => False
abbrev qV (n : Nat) (G : xG) : Option Value → Nat → xG → Prop := fun v m H => v = none ∧ m = n ∧ H = G
abbrev qI (n : Nat) (G : xG) (r : Int32) : Option Value → Nat → xG → Prop := fun v m H => v = some (.int r) ∧ m = n ∧ H = G
abbrev qL (n : Nat) (G : xG) (r : Int64) : Option Value → Nat → xG → Prop := fun v m H => v = some (.long r) ∧ m = n ∧ H = G
abbrev xT (a b c : Int64) : va_E := .inr (5, [.long a, .long b, .long c])
def bI (b : Bool) : Int32 := if b then 1 else 0
theorem bI_n (b : Bool) : narrow .boolean (.int (bI b)) = .int (bI b) := by cases b <;> rfl
theorem bI_0 (b : Bool) : bI b = 0 ↔ b = false := by cases b <;> decide
theorem bI_t {p : Prop} [Decidable p] (h : p) : bI (decide p) = 1 := by rw [decide_eq_true h]; rfl
theorem bI_f {p : Prop} [Decidable p] (h : ¬ p) : bI (decide p) = 0 := by rw [decide_eq_false h]; rfl
section XE
variable {M : xM} {n0 mc ms : Nat} {Q : Option Value → Nat → xG → Prop} {X : String → Nat → xG → Prop} {pc pc2 tgt : Nat} {L : List (Nat × Value)} {st : List Value} {n : Nat} {G G1 : xG} {k c : Nat}
/-- fewer locals, in another order -/
theorem xs_pick {L2 : List (Nat × Value)} (ks : List Nat) (h : lv_pick L ks = L2) (K : xS M n0 mc ms Q X pc L2 st n G k c) : xS M n0 mc ms Q X pc L st n G k c := by
  intro p l e s m args below meth cd D A ad0 ad H locs ls C hH hS hX hl hc
  subst h
  have hm : lv_pick (xL ad L) ks = xL ad (lv_pick L ks) := by
    simp only [lv_pick, xL, List.map_filterMap, List.getElem?_map]
  refine K p l e s m args below meth cd D A ad0 ad H locs ls C hH hS hX (lv_sub hl ks hm) ⟨fun q hq => ?_, hc.2⟩
  obtain ⟨i, -, hi⟩ := List.mem_filterMap.mp hq
  exact hc.1 q (List.mem_of_getElem? hi)
abbrev xRmOk (Y M : xM) : Prop := Y.2.2.2.2.1 + 1 ≤ M.2.2.2.2.1 ∧ 8 + (Y.2.2.1 + 11) + Y.2.2.2.2.2.1 ≤ M.2.2.2.2.2.1
theorem xs_cV_v {Y : xM} {idx na : Nat} {ci : Nat} {b : Nat} {fs : List Value} {As rest : List Value} (d : xD M pc pc2 3 (.invokevirtual idx)) (lk : xlV M.1.cls idx Y na ci) (hb : G b = .inr (ci, fs)) (hK : xK Y (.ref b :: As) n G 0 0 (qV n G1) xNo) (hst : st = As.reverse ++ .ref b :: rest) (hna : As.length = na) (hrm : (rest.map fun v => v.category).sum ≤ 8) (hR : xRmOk Y M) (hk : k ≤ mc ∧ c ≤ ms) (K : xS M n0 mc ms Q X pc2 L (rest) n G1 k c) : xS M n0 mc ms Q X pc L st n G k c :=
  xs_callV d lk hb hK hst hna hrm hR hk (fun _ _ _ h _ => by obtain ⟨rfl, rfl, rfl⟩ := h; exact K) (fun _ _ _ h => h.elim)
theorem xs_cV_i {Y : xM} {idx na : Nat} {ci : Nat} {b : Nat} {fs : List Value} {As rest : List Value} {r : Int32} (d : xD M pc pc2 3 (.invokevirtual idx)) (lk : xlV M.1.cls idx Y na ci) (hb : G b = .inr (ci, fs)) (hK : xK Y (.ref b :: As) n G 0 0 (qI n G1 r) xNo) (hst : st = As.reverse ++ .ref b :: rest) (hna : As.length = na) (hrm : (rest.map fun v => v.category).sum ≤ 8) (hR : xRmOk Y M) (hk : k ≤ mc ∧ c ≤ ms) (K : xS M n0 mc ms Q X pc2 L (.int r :: rest) n G1 k c) : xS M n0 mc ms Q X pc L st n G k c :=
  xs_callV d lk hb hK hst hna hrm hR hk (fun _ _ _ h _ => by obtain ⟨rfl, rfl, rfl⟩ := h; exact K) (fun _ _ _ h => h.elim)
theorem xs_cV_l {Y : xM} {idx na : Nat} {ci : Nat} {b : Nat} {fs : List Value} {As rest : List Value} {r : Int64} (d : xD M pc pc2 3 (.invokevirtual idx)) (lk : xlV M.1.cls idx Y na ci) (hb : G b = .inr (ci, fs)) (hK : xK Y (.ref b :: As) n G 0 0 (qL n G1 r) xNo) (hst : st = As.reverse ++ .ref b :: rest) (hna : As.length = na) (hrm : (rest.map fun v => v.category).sum ≤ 8) (hR : xRmOk Y M) (hk : k ≤ mc ∧ c ≤ ms) (K : xS M n0 mc ms Q X pc2 L (.long r :: rest) n G1 k c) : xS M n0 mc ms Q X pc L st n G k c :=
  xs_callV d lk hb hK hst hna hrm hR hk (fun _ _ _ h _ => by obtain ⟨rfl, rfl, rfl⟩ := h; exact K) (fun _ _ _ h => h.elim)
theorem xs_cS_v {Y : xM} {idx na : Nat}  {As rest : List Value} (d : xD M pc pc2 3 (.invokestatic idx)) (lk : xlS M.1.cls idx Y na) (hK : xK Y (As) n G 0 0 (qV n G1) xNo) (hst : st = As.reverse ++ rest) (hna : As.length = na) (hrm : (rest.map fun v => v.category).sum ≤ 8) (hR : xRmOk Y M) (hk : k ≤ mc ∧ c ≤ ms) (K : xS M n0 mc ms Q X pc2 L (rest) n G1 k c) : xS M n0 mc ms Q X pc L st n G k c :=
  xs_callS d lk hK hst hna hrm hR hk (fun _ _ _ h _ => by obtain ⟨rfl, rfl, rfl⟩ := h; exact K) (fun _ _ _ h => h.elim)
theorem xs_cS_i {Y : xM} {idx na : Nat}  {As rest : List Value} {r : Int32} (d : xD M pc pc2 3 (.invokestatic idx)) (lk : xlS M.1.cls idx Y na) (hK : xK Y (As) n G 0 0 (qI n G1 r) xNo) (hst : st = As.reverse ++ rest) (hna : As.length = na) (hrm : (rest.map fun v => v.category).sum ≤ 8) (hR : xRmOk Y M) (hk : k ≤ mc ∧ c ≤ ms) (K : xS M n0 mc ms Q X pc2 L (.int r :: rest) n G1 k c) : xS M n0 mc ms Q X pc L st n G k c :=
  xs_callS d lk hK hst hna hrm hR hk (fun _ _ _ h _ => by obtain ⟨rfl, rfl, rfl⟩ := h; exact K) (fun _ _ _ h => h.elim)
theorem xs_cS_l {Y : xM} {idx na : Nat}  {As rest : List Value} {r : Int64} (d : xD M pc pc2 3 (.invokestatic idx)) (lk : xlS M.1.cls idx Y na) (hK : xK Y (As) n G 0 0 (qL n G1 r) xNo) (hst : st = As.reverse ++ rest) (hna : As.length = na) (hrm : (rest.map fun v => v.category).sum ≤ 8) (hR : xRmOk Y M) (hk : k ≤ mc ∧ c ≤ ms) (K : xS M n0 mc ms Q X pc2 L (.long r :: rest) n G1 k c) : xS M n0 mc ms Q X pc L st n G k c :=
  xs_callS d lk hK hst hna hrm hR hk (fun _ _ _ h _ => by obtain ⟨rfl, rfl, rfl⟩ := h; exact K) (fun _ _ _ h => h.elim)
theorem xs_cSN_v {Y : xM} {idx na : Nat} {host : String} {As rest : List Value} (d : xD M pc pc2 3 (.invokestatic idx)) (lk : xlNS M.1.cls idx Y na host) (hK : xK Y (As) n G 0 0 (qV n G1) xNo) (hst : st = As.reverse ++ rest) (hna : As.length = na) (hrm : (rest.map fun v => v.category).sum ≤ 8) (hR : xRmOk Y M) (hk : k ≤ mc ∧ c ≤ ms) (K : xS M n0 mc ms Q X pc2 L (rest) n G1 k c) : xS M n0 mc ms Q X pc L st n G k c :=
  xs_callSN d lk hK hst hna hrm hR hk (fun _ _ _ h _ => by obtain ⟨rfl, rfl, rfl⟩ := h; exact K) (fun _ _ _ h => h.elim)
theorem xs_cSN_i {Y : xM} {idx na : Nat} {host : String} {As rest : List Value} {r : Int32} (d : xD M pc pc2 3 (.invokestatic idx)) (lk : xlNS M.1.cls idx Y na host) (hK : xK Y (As) n G 0 0 (qI n G1 r) xNo) (hst : st = As.reverse ++ rest) (hna : As.length = na) (hrm : (rest.map fun v => v.category).sum ≤ 8) (hR : xRmOk Y M) (hk : k ≤ mc ∧ c ≤ ms) (K : xS M n0 mc ms Q X pc2 L (.int r :: rest) n G1 k c) : xS M n0 mc ms Q X pc L st n G k c :=
  xs_callSN d lk hK hst hna hrm hR hk (fun _ _ _ h _ => by obtain ⟨rfl, rfl, rfl⟩ := h; exact K) (fun _ _ _ h => h.elim)
theorem xs_cSN_l {Y : xM} {idx na : Nat} {host : String} {As rest : List Value} {r : Int64} (d : xD M pc pc2 3 (.invokestatic idx)) (lk : xlNS M.1.cls idx Y na host) (hK : xK Y (As) n G 0 0 (qL n G1 r) xNo) (hst : st = As.reverse ++ rest) (hna : As.length = na) (hrm : (rest.map fun v => v.category).sum ≤ 8) (hR : xRmOk Y M) (hk : k ≤ mc ∧ c ≤ ms) (K : xS M n0 mc ms Q X pc2 L (.long r :: rest) n G1 k c) : xS M n0 mc ms Q X pc L st n G k c :=
  xs_callSN d lk hK hst hna hrm hR hk (fun _ _ _ h _ => by obtain ⟨rfl, rfl, rfl⟩ := h; exact K) (fun _ _ _ h => h.elim)
theorem xs_cI_v {Y : xM} {idx na : Nat} {b : Nat} {As rest : List Value} (d : xD M pc pc2 3 (.invokespecial idx)) (lk : xlI M.1.cls idx Y na) (hK : xK Y (.ref b :: As) n G 0 0 (qV n G1) xNo) (hst : st = As.reverse ++ .ref b :: rest) (hna : As.length = na) (hrm : (rest.map fun v => v.category).sum ≤ 8) (hR : xRmOk Y M) (hk : k ≤ mc ∧ c ≤ ms) (K : xS M n0 mc ms Q X pc2 L (rest) n G1 k c) : xS M n0 mc ms Q X pc L st n G k c :=
  xs_callI d lk hK hst hna hrm hR hk (fun _ _ _ h _ => by obtain ⟨rfl, rfl, rfl⟩ := h; exact K) (fun _ _ _ h => h.elim)
end XE
theorem xK_of2 {M : xM} {av : List Value} {n mc ms : Nat} {G : xG} {Q : Option Value → Nat → xG → Prop} {X : String → Nat → xG → Prop} {L0 : List (Nat × Value)} (hy : plainName M.1.cls = true) (hh : M.2.2.2.2.2.2 = []) (hlen : (lg_sl av).length ≤ M.2.2.1)
    (hL : lv_args 0 av = L0) (B : xS M n mc ms Q X 0 L0 [] n G 0 0) : xK M av n G mc ms Q X := xK_of hy hh hlen (hL ▸ B)
