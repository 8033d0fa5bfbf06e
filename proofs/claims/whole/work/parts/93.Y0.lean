/-! the walk's rules once more, with more known of the start (E), and of the first local, where it is no thing (R0) -/
def yC (M : xM) (p : Program) (l : Launch) (s : State) (m : MethodId) (args : Array Value) (meth : Method) (cd : Code) (D : va_G) (A : Nat → Prop) : Prop :=
  (p.tables.exec = Jvm.exec ∧ cd.code = M.2.1 ∧ meth.sig.returnType = M.2.2.2.1 ∧ cd.maxLocals = M.2.2.1) ∧
  (s.vm.findClass M.1.cls = some m.cls ∧ (∀ w ∈ xTB, w.before args s = true) ∧ meth.locks = false ∧ True) ∧
  (l.stackTraces = false ∧ (∀ q, s.heap.size ≤ q → A q) ∧ xU D A s) ∧ (M.2.2.2.2.2.2 = [] ∨ cd.exceptionTable.toList = tableOf M.2.2.2.2.2.2)
def yE (E : State → (Nat → Prop) → Prop) (R0 : Option Nat) (s : State) (A : Nat → Prop) (ls : Array Slot) : Prop := E s A ∧ ∀ b, R0 = some b → ls[0]? = some (.val (.ref b))
def yS (E : State → (Nat → Prop) → Prop) (R0 : Option Nat) (M : xM) (n0 mc ms : Nat) (Q : Option Value → Nat → xG → Prop) (X : String → Nat → xG → Prop) (pc : Nat) (L : List (Nat × Value)) (st : List Value) (n : Nat) (G : xG) (k c : Nat) : Prop :=
  ∀ (p : Program) (l : Launch) (e : Env) (s : State) (m : MethodId) (args : Array Value) (below : List Frame) (meth : Method) (cd : Code) (D : va_G) (A : Nat → Prop) (ad0 ad : Nat → Nat × Nat) (H : Heap) (locs : List Loc) (ls : Array Slot),
    yE E R0 s A ls → yC M p l s m args meth cd D A → xH D A ad n G s H → va_S A s.heap H locs → ((∀ j, j < n0 → ad j = ad0 j) ∧ n0 ≤ n) → lv_has ls M.2.2.1 (xL ad L) → ((∀ q ∈ L, xVc n q.2) ∧ ∀ v ∈ st, xVc n v) →
    W p l e (xRm M mc ms) s m args below meth cd H locs k c (vx_MQ below (xQ n0 ad0 D A Q) (xX n0 ad0 D A X) args s mc ms A) (F0 m pc ls (st.map (xV ad)))
def ySX (E : State → (Nat → Prop) → Prop) (R0 : Option Nat) (M : xM) (n0 mc ms : Nat) (Q : Option Value → Nat → xG → Prop) (X : String → Nat → xG → Prop) (pc : Nat) (L : List (Nat × Value)) (st : List Value) (n : Nat) (G : xG) (k c : Nat) (Ex : String) : Prop :=
  ∀ (p : Program) (l : Launch) (e : Env) (s : State) (m : MethodId) (args : Array Value) (below : List Frame) (meth : Method) (cd : Code) (D : va_G) (A : Nat → Prop) (ad0 ad : Nat → Nat × Nat) (H : Heap) (locs : List Loc) (ls : Array Slot) (E0 : yE E R0 s A ls) (q : Addr) (ce : Cell),
    yC M p l s m args meth cd D A → xH D A ad n G s H → va_S A s.heap H locs → ((∀ j, j < n0 → ad j = ad0 j) ∧ n0 ≤ n) → lv_has ls M.2.2.1 (xL ad L) → ((∀ q ∈ L, xVc n q.2) ∧ ∀ v ∈ st, xVc n v) →
    H[q]? = some ce → ce.vm = .none → s.vm.findClass Ex = some ce.cls →
    vx_W p l e (xRm M mc ms) s m args below meth cd H locs k c (vx_MQ below (xQ n0 ad0 D A Q) (xX n0 ad0 D A X) args s mc ms A) (F0 m pc ls (st.map (xV ad))) q
def yR (R0 : Option Nat) : List (Nat × Value) := match R0 with
  | none => []
  | some b => [(0, .ref b)]
section YR
variable {E : State → (Nat → Prop) → Prop} {R0 : Option Nat} {M : xM} {n0 mc ms : Nat} {Q : Option Value → Nat → xG → Prop} {X : String → Nat → xG → Prop} {pc pc2 tgt : Nat} {L : List (Nat × Value)} {st : List Value} {n : Nat} {G G1 : xG} {k c : Nat}
theorem y_all {s : State} {A : Nat → Prop} {ls : Array Slot} {nL : Nat} {l : List (Nat × Value)} (hl : lv_has ls nL l) (h : yE E R0 s A ls) : lv_has ls nL (yR R0 ++ l) := by
  refine ⟨hl.1, hl.2.1, fun q hq => ?_⟩
  rcases List.mem_append.mp hq with hq | hq
  · cases R0 with
    | none => cases hq
    | some b =>
      rw [List.mem_singleton.mp hq]
      exact h.2 b rfl
  · exact hl.2.2 q hq
theorem y_back {s : State} {A : Nat → Prop} {ls2 : Array Slot} {nL : Nat} {l : List (Nat × Value)} {f : Nat × Value → Bool} {q0 : Nat × Value} (hf : ∀ b : Nat, f (0, .ref b) = true) (h : lv_has ls2 nL (q0 :: (yR R0 ++ l).filter f)) (hE : E s A) : lv_has ls2 nL (q0 :: l.filter f) ∧ yE E R0 s A ls2 := by
  refine ⟨⟨h.1, h.2.1, fun q hq => h.2.2 q ?_⟩, hE, fun b hb => h.2.2 (0, .ref b) (List.mem_cons_of_mem _ (List.mem_filter.mpr ⟨List.mem_append_left _ ?_, hf b⟩))⟩
  · rcases List.mem_cons.mp hq with rfl | hq
    · exact List.mem_cons_self
    · exact List.mem_cons_of_mem _ (List.mem_filter.mpr ⟨List.mem_append_right _ (List.mem_filter.mp hq).1, (List.mem_filter.mp hq).2⟩)
  · rw [hb]
    exact List.mem_singleton.mpr rfl
theorem y_f1 {i : Nat} (hi : ¬ i = 0) (b : Nat) : (fun q : Nat × Value => !(q.1 == i) && !(q.1 + 1 == i && q.2.category == 2)) (0, .ref b) = true := by
  have e1 : (0 == i) = false := beq_false_of_ne (fun e => hi e.symm)
  show (!(0 == i) && !(0 + 1 == i && ((Value.ref b).category == 2))) = true
  rw [e1, show ((Value.ref b).category == 2) = false from rfl, Bool.and_false]
  rfl
theorem y_f2 {i : Nat} (hi : ¬ i = 0) (b : Nat) : (fun q : Nat × Value => !(q.1 == i) && (!(q.1 == i + 1) && !(q.1 + 1 == i && q.2.category == 2))) (0, .ref b) = true := by
  have e1 : (0 == i) = false := beq_false_of_ne (fun e => hi e.symm)
  have e2 : (0 == i + 1) = false := beq_false_of_ne (fun e => by omega)
  show (!(0 == i) && (!(0 == i + 1) && !(0 + 1 == i && ((Value.ref b).category == 2)))) = true
  rw [e1, e2, show ((Value.ref b).category == 2) = false from rfl, Bool.and_false]
  rfl
theorem ys_iadd {y : Int32} {x : Int32} (d : xD M pc pc2 1 (.iadd)) (K : yS E R0 M n0 mc ms Q X pc2 L (.int (x + y) :: st) n G k c) : yS E R0 M n0 mc ms Q X pc L (.int y :: .int x :: st) n G k c := by
  intro p l e s m args below meth cd D A ad0 ad H locs ls E0 C hH hS hX hl hc
  obtain ⟨d, rfl⟩ := d
  exact lv_iadd C.1.1 C.1.2.1 d (K p l e s m args below meth cd D A ad0 ad H locs ls E0 C hH hS hX hl ⟨hc.1, xSc_cons trivial (xSc_tail (xSc_tail hc.2))⟩)
theorem ys_isub {y : Int32} {x : Int32} (d : xD M pc pc2 1 (.isub)) (K : yS E R0 M n0 mc ms Q X pc2 L (.int (x - y) :: st) n G k c) : yS E R0 M n0 mc ms Q X pc L (.int y :: .int x :: st) n G k c := by
  intro p l e s m args below meth cd D A ad0 ad H locs ls E0 C hH hS hX hl hc
  obtain ⟨d, rfl⟩ := d
  exact lv_isub C.1.1 C.1.2.1 d (K p l e s m args below meth cd D A ad0 ad H locs ls E0 C hH hS hX hl ⟨hc.1, xSc_cons trivial (xSc_tail (xSc_tail hc.2))⟩)
theorem ys_iand {y : Int32} {x : Int32} (d : xD M pc pc2 1 (.iand)) (K : yS E R0 M n0 mc ms Q X pc2 L (.int (x &&& y) :: st) n G k c) : yS E R0 M n0 mc ms Q X pc L (.int y :: .int x :: st) n G k c := by
  intro p l e s m args below meth cd D A ad0 ad H locs ls E0 C hH hS hX hl hc
  obtain ⟨d, rfl⟩ := d
  exact lv_iand C.1.1 C.1.2.1 d (K p l e s m args below meth cd D A ad0 ad H locs ls E0 C hH hS hX hl ⟨hc.1, xSc_cons trivial (xSc_tail (xSc_tail hc.2))⟩)
theorem ys_land {y : Int64} {x : Int64} (d : xD M pc pc2 1 (.land)) (K : yS E R0 M n0 mc ms Q X pc2 L (.long (x &&& y) :: st) n G k c) : yS E R0 M n0 mc ms Q X pc L (.long y :: .long x :: st) n G k c := by
  intro p l e s m args below meth cd D A ad0 ad H locs ls E0 C hH hS hX hl hc
  obtain ⟨d, rfl⟩ := d
  exact lv_land C.1.1 C.1.2.1 d (K p l e s m args below meth cd D A ad0 ad H locs ls E0 C hH hS hX hl ⟨hc.1, xSc_cons trivial (xSc_tail (xSc_tail hc.2))⟩)
theorem ys_lor {y : Int64} {x : Int64} (d : xD M pc pc2 1 (.lor)) (K : yS E R0 M n0 mc ms Q X pc2 L (.long (x ||| y) :: st) n G k c) : yS E R0 M n0 mc ms Q X pc L (.long y :: .long x :: st) n G k c := by
  intro p l e s m args below meth cd D A ad0 ad H locs ls E0 C hH hS hX hl hc
  obtain ⟨d, rfl⟩ := d
  exact lv_lor C.1.1 C.1.2.1 d (K p l e s m args below meth cd D A ad0 ad H locs ls E0 C hH hS hX hl ⟨hc.1, xSc_cons trivial (xSc_tail (xSc_tail hc.2))⟩)
theorem ys_lshl {y : Int32} {x : Int64} (d : xD M pc pc2 1 (.lshl)) (K : yS E R0 M n0 mc ms Q X pc2 L (.long (x <<< (y.toInt64 &&& 63)) :: st) n G k c) : yS E R0 M n0 mc ms Q X pc L (.int y :: .long x :: st) n G k c := by
  intro p l e s m args below meth cd D A ad0 ad H locs ls E0 C hH hS hX hl hc
  obtain ⟨d, rfl⟩ := d
  exact lv_lshl C.1.1 C.1.2.1 d rfl (K p l e s m args below meth cd D A ad0 ad H locs ls E0 C hH hS hX hl ⟨hc.1, xSc_cons trivial (xSc_tail (xSc_tail hc.2))⟩)
theorem ys_i2l {x : Int32} (d : xD M pc pc2 1 (.i2l)) (K : yS E R0 M n0 mc ms Q X pc2 L (.long (x.toInt64) :: st) n G k c) : yS E R0 M n0 mc ms Q X pc L (.int x :: st) n G k c := by
  intro p l e s m args below meth cd D A ad0 ad H locs ls E0 C hH hS hX hl hc
  obtain ⟨d, rfl⟩ := d
  exact lv_i2l C.1.1 C.1.2.1 d rfl (K p l e s m args below meth cd D A ad0 ad H locs ls E0 C hH hS hX hl ⟨hc.1, xSc_cons trivial (xSc_tail hc.2)⟩)
theorem ys_lcmp {y : Int64} {x : Int64} (d : xD M pc pc2 1 (.lcmp)) (K : yS E R0 M n0 mc ms Q X pc2 L (.int (lg_cmp x y) :: st) n G k c) : yS E R0 M n0 mc ms Q X pc L (.long y :: .long x :: st) n G k c := by
  intro p l e s m args below meth cd D A ad0 ad H locs ls E0 C hH hS hX hl hc
  obtain ⟨d, rfl⟩ := d
  exact W.lcmp C.1.1 C.1.2.1 d (K p l e s m args below meth cd D A ad0 ad H locs ls E0 C hH hS hX hl ⟨hc.1, xSc_cons trivial (xSc_tail (xSc_tail hc.2))⟩)
theorem ys_iconst {i : Int} {v : Int32} (d : xD M pc pc2 1 (.iconst i)) (hv : Int32.ofInt i = v) (K : yS E R0 M n0 mc ms Q X pc2 L (.int v :: st) n G k c) : yS E R0 M n0 mc ms Q X pc L (st) n G k c := by
  intro p l e s m args below meth cd D A ad0 ad H locs ls E0 C hH hS hX hl hc
  obtain ⟨d, rfl⟩ := d
  exact lv_iconst C.1.1 C.1.2.1 d hv (K p l e s m args below meth cd D A ad0 ad H locs ls E0 C hH hS hX hl ⟨hc.1, xSc_cons trivial hc.2⟩)
theorem ys_bipush {i : Int} {v : Int32} (d : xD M pc pc2 2 (.bipush i)) (hv : (Int8.ofInt i).toInt32 = v) (K : yS E R0 M n0 mc ms Q X pc2 L (.int v :: st) n G k c) : yS E R0 M n0 mc ms Q X pc L (st) n G k c := by
  intro p l e s m args below meth cd D A ad0 ad H locs ls E0 C hH hS hX hl hc
  obtain ⟨d, rfl⟩ := d
  exact lv_bipush C.1.1 C.1.2.1 d hv (K p l e s m args below meth cd D A ad0 ad H locs ls E0 C hH hS hX hl ⟨hc.1, xSc_cons trivial hc.2⟩)
theorem ys_lconst {i : Fin 2} {v : Int64} (d : xD M pc pc2 1 (.lconst i)) (hv : Int64.ofNat (i : Nat) = v) (K : yS E R0 M n0 mc ms Q X pc2 L (.long v :: st) n G k c) : yS E R0 M n0 mc ms Q X pc L (st) n G k c := by
  intro p l e s m args below meth cd D A ad0 ad H locs ls E0 C hH hS hX hl hc
  obtain ⟨d, rfl⟩ := d
  exact lv_lconst C.1.1 C.1.2.1 d hv (K p l e s m args below meth cd D A ad0 ad H locs ls E0 C hH hS hX hl ⟨hc.1, xSc_cons trivial hc.2⟩)
theorem ys_ldc2 {i : Nat} {v : Int64} (d : xD M pc pc2 3 (.ldc2_w i)) (hk : Cond.constantLong M.1.cls i v ∈ xTB) (K : yS E R0 M n0 mc ms Q X pc2 L (.long v :: st) n G k c) : yS E R0 M n0 mc ms Q X pc L (st) n G k c := by
  intro p l e s m args below meth cd D A ad0 ad H locs ls E0 C hH hS hX hl hc
  obtain ⟨d, rfl⟩ := d
  exact lv_ldc2 C.1.1 C.1.2.1 C.2.1.1 (C.2.1.2.1 _ hk) d (K p l e s m args below meth cd D A ad0 ad H locs ls E0 C hH hS hX hl ⟨hc.1, xSc_cons trivial hc.2⟩)
theorem ys_iload_n {i : Fin 4} {x : Int32} (d : xD M pc pc2 1 (.iload_n i)) (h : xlk L i.val = some (.int x)) (K : yS E R0 M n0 mc ms Q X pc2 L (.int x :: st) n G k c) : yS E R0 M n0 mc ms Q X pc L (st) n G k c := by
  intro p l e s m args below meth cd D A ad0 ad H locs ls E0 C hH hS hX hl hc
  obtain ⟨d, rfl⟩ := d
  exact lv_iload_n C.1.1 C.1.2.1 d rfl (xlk_ls hl h) (K p l e s m args below meth cd D A ad0 ad H locs ls E0 C hH hS hX hl ⟨hc.1, xSc_cons trivial hc.2⟩)
theorem ys_iload {i : Nat} {x : Int32} (d : xD M pc pc2 2 (.iload i)) (h : xlk L i = some (.int x)) (K : yS E R0 M n0 mc ms Q X pc2 L (.int x :: st) n G k c) : yS E R0 M n0 mc ms Q X pc L (st) n G k c := by
  intro p l e s m args below meth cd D A ad0 ad H locs ls E0 C hH hS hX hl hc
  obtain ⟨d, rfl⟩ := d
  exact lv_iload C.1.1 C.1.2.1 d (xlk_ls hl h) (K p l e s m args below meth cd D A ad0 ad H locs ls E0 C hH hS hX hl ⟨hc.1, xSc_cons trivial hc.2⟩)
theorem ys_lload_n {i : Fin 4} {x : Int64} (d : xD M pc pc2 1 (.lload_n i)) (h : xlk L i.val = some (.long x)) (K : yS E R0 M n0 mc ms Q X pc2 L (.long x :: st) n G k c) : yS E R0 M n0 mc ms Q X pc L (st) n G k c := by
  intro p l e s m args below meth cd D A ad0 ad H locs ls E0 C hH hS hX hl hc
  obtain ⟨d, rfl⟩ := d
  exact lv_lload_n C.1.1 C.1.2.1 d rfl (xlk_ls hl h) (K p l e s m args below meth cd D A ad0 ad H locs ls E0 C hH hS hX hl ⟨hc.1, xSc_cons trivial hc.2⟩)
theorem ys_lload {i : Nat} {x : Int64} (d : xD M pc pc2 2 (.lload i)) (h : xlk L i = some (.long x)) (K : yS E R0 M n0 mc ms Q X pc2 L (.long x :: st) n G k c) : yS E R0 M n0 mc ms Q X pc L (st) n G k c := by
  intro p l e s m args below meth cd D A ad0 ad H locs ls E0 C hH hS hX hl hc
  obtain ⟨d, rfl⟩ := d
  exact lv_lload C.1.1 C.1.2.1 d (xlk_ls hl h) (K p l e s m args below meth cd D A ad0 ad H locs ls E0 C hH hS hX hl ⟨hc.1, xSc_cons trivial hc.2⟩)
theorem ys_aload_n {i : Fin 4} {x : Nat} (d : xD M pc pc2 1 (.aload_n i)) (h : xlk L i.val = some (.ref x)) (K : yS E R0 M n0 mc ms Q X pc2 L (.ref x :: st) n G k c) : yS E R0 M n0 mc ms Q X pc L (st) n G k c := by
  intro p l e s m args below meth cd D A ad0 ad H locs ls E0 C hH hS hX hl hc
  obtain ⟨d, rfl⟩ := d
  exact lv_aload_n C.1.1 C.1.2.1 d rfl (xlk_ls hl h) (K p l e s m args below meth cd D A ad0 ad H locs ls E0 C hH hS hX hl ⟨hc.1, xSc_cons (hc.1 _ (xlk_mem h)) hc.2⟩)
theorem ys_aload {i : Nat} {x : Nat} (d : xD M pc pc2 2 (.aload i)) (h : xlk L i = some (.ref x)) (K : yS E R0 M n0 mc ms Q X pc2 L (.ref x :: st) n G k c) : yS E R0 M n0 mc ms Q X pc L (st) n G k c := by
  intro p l e s m args below meth cd D A ad0 ad H locs ls E0 C hH hS hX hl hc
  obtain ⟨d, rfl⟩ := d
  exact lv_aload C.1.1 C.1.2.1 d (xlk_ls hl h) (K p l e s m args below meth cd D A ad0 ad H locs ls E0 C hH hS hX hl ⟨hc.1, xSc_cons (hc.1 _ (xlk_mem h)) hc.2⟩)
theorem ys_dup {v : Value} (d : xD M pc pc2 1 .dup) (hv : v.category = 1) (K : yS E R0 M n0 mc ms Q X pc2 L (v :: v :: st) n G k c) : yS E R0 M n0 mc ms Q X pc L (v :: st) n G k c := by
  intro p l e s m args below meth cd D A ad0 ad H locs ls E0 C hH hS hX hl hc
  obtain ⟨d, rfl⟩ := d
  exact lv_dup C.1.1 C.1.2.1 d ((xV_cat ad v).trans hv) (K p l e s m args below meth cd D A ad0 ad H locs ls E0 C hH hS hX hl ⟨hc.1, xSc_cons (xSc_head hc.2) hc.2⟩)
theorem ys_if_eq {x : Int32} (d : xDJ M pc pc2 tgt (.ifCond .eq)) (kt : x = 0 → yS E R0 M n0 mc ms Q X tgt L st n G k c) (kf : ¬ x = 0 → yS E R0 M n0 mc ms Q X pc2 L st n G k c) : yS E R0 M n0 mc ms Q X pc L (.int x :: st) n G k c := by
  intro p l e s m args below meth cd D A ad0 ad H locs ls E0 C hH hS hX hl hc
  obtain ⟨off, d, rfl, ht⟩ := d
  exact lv_if_eq C.1.1 C.1.2.1 d ht (fun h => kt h p l e s m args below meth cd D A ad0 ad H locs ls E0 C hH hS hX hl ⟨hc.1, (xSc_tail hc.2)⟩) (fun h => kf h p l e s m args below meth cd D A ad0 ad H locs ls E0 C hH hS hX hl ⟨hc.1, (xSc_tail hc.2)⟩)
theorem ys_icmp_eq {x y : Int32} (d : xDJ M pc pc2 tgt (.if_icmp .eq)) (kt : x = y → yS E R0 M n0 mc ms Q X tgt L st n G k c) (kf : ¬ x = y → yS E R0 M n0 mc ms Q X pc2 L st n G k c) : yS E R0 M n0 mc ms Q X pc L (.int y :: .int x :: st) n G k c := by
  intro p l e s m args below meth cd D A ad0 ad H locs ls E0 C hH hS hX hl hc
  obtain ⟨off, d, rfl, ht⟩ := d
  exact lv_icmp_eq C.1.1 C.1.2.1 d ht (fun h => kt h p l e s m args below meth cd D A ad0 ad H locs ls E0 C hH hS hX hl ⟨hc.1, (xSc_tail (xSc_tail hc.2))⟩) (fun h => kf h p l e s m args below meth cd D A ad0 ad H locs ls E0 C hH hS hX hl ⟨hc.1, (xSc_tail (xSc_tail hc.2))⟩)
theorem ys_if_ne {x : Int32} (d : xDJ M pc pc2 tgt (.ifCond .ne)) (kt : ¬ x = 0 → yS E R0 M n0 mc ms Q X tgt L st n G k c) (kf : x = 0 → yS E R0 M n0 mc ms Q X pc2 L st n G k c) : yS E R0 M n0 mc ms Q X pc L (.int x :: st) n G k c := by
  intro p l e s m args below meth cd D A ad0 ad H locs ls E0 C hH hS hX hl hc
  obtain ⟨off, d, rfl, ht⟩ := d
  exact lv_if_ne C.1.1 C.1.2.1 d ht (fun h => kt h p l e s m args below meth cd D A ad0 ad H locs ls E0 C hH hS hX hl ⟨hc.1, (xSc_tail hc.2)⟩) (fun h => kf h p l e s m args below meth cd D A ad0 ad H locs ls E0 C hH hS hX hl ⟨hc.1, (xSc_tail hc.2)⟩)
theorem ys_icmp_gt {x y : Int32} (d : xDJ M pc pc2 tgt (.if_icmp .gt)) (kt : y < x → yS E R0 M n0 mc ms Q X tgt L st n G k c) (kf : ¬ y < x → yS E R0 M n0 mc ms Q X pc2 L st n G k c) : yS E R0 M n0 mc ms Q X pc L (.int y :: .int x :: st) n G k c := by
  intro p l e s m args below meth cd D A ad0 ad H locs ls E0 C hH hS hX hl hc
  obtain ⟨off, d, rfl, ht⟩ := d
  exact lv_icmp_gt C.1.1 C.1.2.1 d ht (fun h => kt h p l e s m args below meth cd D A ad0 ad H locs ls E0 C hH hS hX hl ⟨hc.1, (xSc_tail (xSc_tail hc.2))⟩) (fun h => kf h p l e s m args below meth cd D A ad0 ad H locs ls E0 C hH hS hX hl ⟨hc.1, (xSc_tail (xSc_tail hc.2))⟩)
theorem ys_goto (d : xDJ M pc pc2 tgt .goto) (K : yS E R0 M n0 mc ms Q X tgt L st n G k c) : yS E R0 M n0 mc ms Q X pc L st n G k c := by
  intro p l e s m args below meth cd D A ad0 ad H locs ls E0 C hH hS hX hl hc
  obtain ⟨off, d, rfl, ht⟩ := d
  exact lv_goto C.1.1 C.1.2.1 d ht (K p l e s m args below meth cd D A ad0 ad H locs ls E0 C hH hS hX hl hc)
theorem ys_lc_eq {x y : Int64} {pc1 : Nat} (d0 : xD M pc pc1 1 .lcmp) (d : xDJ M pc1 pc2 tgt (.ifCond .eq)) (kt : x = y → yS E R0 M n0 mc ms Q X tgt L st n G k c) (kf : ¬ x = y → yS E R0 M n0 mc ms Q X pc2 L st n G k c) : yS E R0 M n0 mc ms Q X pc L (.long y :: .long x :: st) n G k c :=
  ys_lcmp d0 (ys_if_eq d (fun h => kt ((lg_cmp_eq x y).mp h)) (fun h => kf (fun e => h ((lg_cmp_eq x y).mpr e))))
theorem ys_tsIn {dflt lo hi off : Int} {offs : Array Int} {len : Nat} {x : Int32} (d : xD M pc pc2 len (.tableswitch dflt lo hi offs)) (h1 : ¬ x.toInt < lo) (h2 : ¬ hi < x.toInt) (ho : offs[(x.toInt - lo).toNat]? = some off) (ht : (pc : Int) + off = (tgt : Int)) (K : yS E R0 M n0 mc ms Q X tgt L st n G k c) : yS E R0 M n0 mc ms Q X pc L (.int x :: st) n G k c := by
  intro p l e s m args below meth cd D A ad0 ad H locs ls E0 C hH hS hX hl hc
  obtain ⟨d, -⟩ := d
  exact lv_tableIn C.1.1 C.1.2.1 d h1 h2 ho ht (K p l e s m args below meth cd D A ad0 ad H locs ls E0 C hH hS hX hl ⟨hc.1, xSc_tail hc.2⟩)
theorem ys_tsOut {dflt lo hi : Int} {offs : Array Int} {len : Nat} {x : Int32} (d : xD M pc pc2 len (.tableswitch dflt lo hi offs)) (h : x.toInt < lo ∨ hi < x.toInt) (ht : (pc : Int) + dflt = (tgt : Int)) (K : yS E R0 M n0 mc ms Q X tgt L st n G k c) : yS E R0 M n0 mc ms Q X pc L (.int x :: st) n G k c := by
  intro p l e s m args below meth cd D A ad0 ad H locs ls E0 C hH hS hX hl hc
  obtain ⟨d, -⟩ := d
  exact lv_tableOut C.1.1 C.1.2.1 d h ht (K p l e s m args below meth cd D A ad0 ad H locs ls E0 C hH hS hX hl ⟨hc.1, xSc_tail hc.2⟩)
theorem ys_lald {a N : Nat} {f : Nat → Int64} {i : Int32} (d : xD M pc pc2 1 .laload) (hG : G a = .inl (1, N, .inr (.inl f))) (hin : vp_in i N) (K : yS E R0 M n0 mc ms Q X pc2 L (.long (f i.toNatClampNeg) :: st) n G k c) : yS E R0 M n0 mc ms Q X pc L (.int i :: .ref a :: st) n G k c := by
  intro p l e s m args below meth cd D A ad0 ad H locs ls E0 C hH hS hX hl hc
  obtain ⟨d, rfl⟩ := d
  have ha : a < n := xSc_head (xSc_tail hc.2)
  have hw := xW_get (ad := ad) (G := G) ha
  rw [hG] at hw
  have hT := hH.2.2.2 a _ _ ha hG
  have hK2 : va_K D vwCl [((ad a).2, xTy 1)] s := ⟨C.2.2.1.2.2.1.1.1, fun j q hq => by
    match j, hq with
    | 0, hq => cases hq; exact hT⟩
  exact va_lald (D := D) (ws := xW n ad G) C.1.1 C.1.2.1 hK2 hH.1 a 0 hw rfl hin d (K p l e s m args below meth cd D A ad0 ad H locs ls E0 C hH hS hX hl ⟨hc.1, xSc_cons trivial (xSc_tail (xSc_tail hc.2))⟩)
theorem ys_last {a N : Nat} {f : Nat → Int64} {i : Int32} {x : Int64} (d : xD M pc pc2 1 .lastore) (hG : G a = .inl (1, N, .inr (.inl f))) (hin : vp_in i N) (K : yS E R0 M n0 mc ms Q X pc2 L st n (va_up G a (.inl (1, N, .inr (.inl (vp_updL f i.toNatClampNeg x))))) k c) : yS E R0 M n0 mc ms Q X pc L (.long x :: .int i :: .ref a :: st) n G k c := by
  intro p l e s m args below meth cd D A ad0 ad H locs ls E0 C hH hS hX hl hc
  obtain ⟨d, rfl⟩ := d
  have ha : a < n := xSc_head (xSc_tail (xSc_tail hc.2))
  have hw := xW_get (ad := ad) (G := G) ha
  rw [hG] at hw
  have hT := hH.2.2.2 a _ _ ha hG
  have hK2 : va_K D vwCl [((ad a).2, xTy 1)] s := ⟨C.2.2.1.2.2.1.1.1, fun j q hq => by
    match j, hq with
    | 0, hq => cases hq; exact hT⟩
  refine va_last (D := D) (ws := xW n ad G) C.1.1 C.1.2.1 hK2 hH.1 hH.2.1 hS a 0 hw rfl hin d (fun H1 locs1 hP1 hD1 hS1 => ?_)
  have he := xW_set (n := n) (k := a) (ad := ad) (G := G) (e := .inl (1, N, .inr (.inl (vp_updL f i.toNatClampNeg x)))) ha
  dsimp only [xA] at he
  rw [he] at hP1 hD1
  refine K p l e s m args below meth cd D A ad0 ad H1 locs1 ls E0 C ⟨hP1, hD1, fun q hq => ?_, fun q t z hq hg => ?_⟩ hS1 hX hl ⟨hc.1, xSc_tail (xSc_tail (xSc_tail hc.2))⟩
  · by_cases hqa : q = a
    · subst hqa
      rw [va_up_self]
      trivial
    · rw [va_up_ne _ _ hqa]
      exact hH.2.2.1 q hq
  · by_cases hqa : q = a
    · subst hqa
      rw [va_up_self] at hg
      cases hg
      exact hT
    · rw [va_up_ne _ _ hqa] at hg
      exact hH.2.2.2 q t z hq hg
theorem ys_iret {x : Int32} {ty : FieldType} (d : xD M pc pc2 1 .ireturn) (hr : M.2.2.2.1 = some ty) (hn : narrow ty (.int x) = .int x) (hk : k ≤ mc) (hc0 : c ≤ ms) (hq : Q (some (.int x)) n G) : yS E R0 M n0 mc ms Q X pc L ([.int x]) n G k c := by
  intro p l e s m args below meth cd D A ad0 ad H locs ls E0 C hH hS hX hl hc
  obtain ⟨d, -⟩ := d
  refine W.widen hk hc0 (vx_ret ?_)
  exact W.zret C.1.1 C.1.2.1 (C.1.2.2.1.trans hr) hn (fun t ht hW => ⟨(some (.int x)), n, G, ad, rfl, hq, hX.2, hX.1, fun w hw => by cases hw; trivial, by rw [ht]; exact hH.moved hW.alike, hS.F ht⟩) hS.2.2 d C.2.1.2.2.1
theorem ys_istore_n {i : Fin 4} {x : Int32} (d : xD M pc pc2 1 (.istore_n i)) (hn : i.val < M.2.2.1) {L2 : List (Nat × Value)} (hL : xst1 L i.val (.int x) = L2) (hi : ¬ i.val = 0) (K : yS E R0 M n0 mc ms Q X pc2 L2 (st) n G k c) : yS E R0 M n0 mc ms Q X pc L (.int x :: st) n G k c := by
  intro p l e s m args below meth cd D A ad0 ad H locs ls E0 C hH hS hX hl hc
  obtain ⟨d, rfl⟩ := d
  subst hL
  refine lv_istore_n C.1.1 C.1.2.1 d rfl (y_all hl E0) hn rfl (fun ls2 hl2 => ?_)
  obtain ⟨h1, h2⟩ := y_back (E := E) (R0 := R0) (s := s) (A := A) (y_f1 hi) hl2 E0.1
  have h1 := xst1_map (L := L) ad i.val (.int x) ▸ h1
  exact K p l e s m args below meth cd D A ad0 ad H locs ls2 h2 C hH hS hX h1 ⟨xst1_c trivial hc.1, xSc_tail hc.2⟩
theorem ys_istore {i : Nat} {x : Int32} (d : xD M pc pc2 2 (.istore i)) (hn : i < M.2.2.1) {L2 : List (Nat × Value)} (hL : xst1 L i (.int x) = L2) (hi : ¬ i = 0) (K : yS E R0 M n0 mc ms Q X pc2 L2 (st) n G k c) : yS E R0 M n0 mc ms Q X pc L (.int x :: st) n G k c := by
  intro p l e s m args below meth cd D A ad0 ad H locs ls E0 C hH hS hX hl hc
  obtain ⟨d, rfl⟩ := d
  subst hL
  refine lv_istore C.1.1 C.1.2.1 d (y_all hl E0) hn rfl (fun ls2 hl2 => ?_)
  obtain ⟨h1, h2⟩ := y_back (E := E) (R0 := R0) (s := s) (A := A) (y_f1 hi) hl2 E0.1
  have h1 := xst1_map (L := L) ad i (.int x) ▸ h1
  exact K p l e s m args below meth cd D A ad0 ad H locs ls2 h2 C hH hS hX h1 ⟨xst1_c trivial hc.1, xSc_tail hc.2⟩
theorem ys_astore_n {i : Fin 4} {x : Nat} (d : xD M pc pc2 1 (.astore_n i)) (hn : i.val < M.2.2.1) {L2 : List (Nat × Value)} (hL : xst1 L i.val (.ref x) = L2) (hi : ¬ i.val = 0) (K : yS E R0 M n0 mc ms Q X pc2 L2 (st) n G k c) : yS E R0 M n0 mc ms Q X pc L (.ref x :: st) n G k c := by
  intro p l e s m args below meth cd D A ad0 ad H locs ls E0 C hH hS hX hl hc
  obtain ⟨d, rfl⟩ := d
  subst hL
  refine lv_astore_n C.1.1 C.1.2.1 d rfl (y_all hl E0) hn rfl (fun ls2 hl2 => ?_)
  obtain ⟨h1, h2⟩ := y_back (E := E) (R0 := R0) (s := s) (A := A) (y_f1 hi) hl2 E0.1
  have h1 := xst1_map (L := L) ad i.val (.ref x) ▸ h1
  exact K p l e s m args below meth cd D A ad0 ad H locs ls2 h2 C hH hS hX h1 ⟨xst1_c (xSc_head hc.2) hc.1, xSc_tail hc.2⟩
theorem ys_lstore {i : Nat} {x : Int64} (d : xD M pc pc2 2 (.lstore i)) (hn : i + 1 < M.2.2.1) {L2 : List (Nat × Value)} (hL : xst2 L i (.long x) = L2) (hi : ¬ i = 0) (K : yS E R0 M n0 mc ms Q X pc2 L2 (st) n G k c) : yS E R0 M n0 mc ms Q X pc L (.long x :: st) n G k c := by
  intro p l e s m args below meth cd D A ad0 ad H locs ls E0 C hH hS hX hl hc
  obtain ⟨d, rfl⟩ := d
  subst hL
  refine lv_lstore C.1.1 C.1.2.1 d (y_all hl E0) hn rfl (fun ls2 hl2 => ?_)
  obtain ⟨h1, h2⟩ := y_back (E := E) (R0 := R0) (s := s) (A := A) (y_f2 hi) hl2 E0.1
  have h1 := xst2_map (L := L) ad i (.long x) ▸ h1
  exact K p l e s m args below meth cd D A ad0 ad H locs ls2 h2 C hH hS hX h1 ⟨xst2_c trivial hc.1, xSc_tail hc.2⟩
theorem ys_iinc {i : Nat} {j : Int} {x v : Int32} (d : xD M pc pc2 3 (.iinc i j)) (h : xlk L i = some (.int x)) (hv : x + Int32.ofInt j = v) (hn : i < M.2.2.1) {L2 : List (Nat × Value)} (hL : xst1 L i (.int v) = L2) (hi : ¬ i = 0) (K : yS E R0 M n0 mc ms Q X pc2 L2 (st) n G k c) : yS E R0 M n0 mc ms Q X pc L (st) n G k c := by
  intro p l e s m args below meth cd D A ad0 ad H locs ls E0 C hH hS hX hl hc
  obtain ⟨d, rfl⟩ := d
  subst hL
  obtain ⟨kk, hkk⟩ := List.getElem?_of_mem (List.mem_append_right (yR R0) (List.mem_map.mpr ⟨(i, Value.int x), xlk_mem h, rfl⟩ : (i, Value.int x) ∈ xL ad L))
  refine lv_iinc (k := kk) C.1.1 C.1.2.1 d (y_all hl E0) hkk hv hn rfl (fun ls2 hl2 => ?_)
  obtain ⟨h1, h2⟩ := y_back (E := E) (R0 := R0) (s := s) (A := A) (y_f1 hi) hl2 E0.1
  have h1 := xst1_map (L := L) ad i (.int v) ▸ h1
  exact K p l e s m args below meth cd D A ad0 ad H locs ls2 h2 C hH hS hX h1 ⟨xst1_c trivial hc.1, hc.2⟩
theorem yr_run {p : Program} {l : Launch} {e : Env} {s : State} {m : MethodId} {args : Array Value} {below : List Frame} {meth : Method} {cd : Code} {D : va_G} {A : Nat → Prop} {ad0 ad : Nat → Nat × Nat} {H : Heap} {locs : List Loc} {ls : Array Slot} {st0 rest : List Value} {a : Array Value} {mcY msY : Nat} {QY : Option Value → Nat → xG → Prop} {XY : String → Nat → xG → Prop}
    (E0 : yE E R0 s A ls) (C : yC M p l s m args meth cd D A) (hS : va_S A s.heap H locs) (hX : (∀ j, j < n0 → ad j = ad0 j) ∧ n0 ≤ n) (hl : lv_has ls M.2.2.1 (xL ad L)) (hcL : ∀ q ∈ L, xVc n q.2) (hcR : ∀ v ∈ rest, xVc n v)
    (hr : vx_Run p l e (xRm M mc ms) s m args below meth cd H locs k c mcY msY (F0 m pc ls st0) (rest.map (xV ad)) (xQ n ad D A QY a) (xX n ad D A XY) A)
    (kk : ∀ (v : Option Value) (n' : Nat) (G' : xG), QY v n' G' → n ≤ n' → yS E R0 M n0 mc ms Q X (pc + 3) L (v.toList ++ rest) n' G' (k + mcY) (c + msY))
    (kx : ∀ (Ex : String) (n' : Nat) (G' : xG), XY Ex n' G' → n ≤ n' → ySX E R0 M n0 mc ms Q X pc L rest n' G' (k + mcY) (c + msY) Ex) :
    W p l e (xRm M mc ms) s m args below meth cd H locs k c (vx_MQ below (xQ n0 ad0 D A Q) (xX n0 ad0 D A X) args s mc ms A) (F0 m pc ls st0) := by
  intro T hT X1
  rcases hr T hT X1 with ⟨v, st₀, t, T', Lc, h0, X', hL, e1, e2, hq, hgo⟩ | ⟨q, st₀, t, T', Lc, E, ce, h0, X', hL, e1, e2, hq, hce, hcv, hcl, hgo⟩
  · obtain ⟨w, n', G', ad', hov, hQ, hnn, hext, hcw, hH', hF⟩ := hq
    cases hov
    obtain ⟨k1, k2, k3⟩ := vx_keep h0 e1 hS (fun q _ h => h) (fun q h => h) hL hF
    have hvm : s.vm.Alike t.vm := by rw [← e2]; exact X'.warmed.alike
    have hH2 : xH D A ad' n' G' s T'.heap := by rw [e1]; exact hH'.moved hvm.symm
    have hst : (w.toList ++ rest).map (xV ad') = (w.map (xV ad')).toList ++ rest.map (xV ad) := by
      rw [List.map_append, xst_ext hext hcR]
      cases w <;> rfl
    have hg := kk w n' G' hQ hnn p l e s m args below meth cd D A ad0 ad' T'.heap (locs ++ Lc) ls E0 C hH2 k3 ⟨fun j hj => (hext j (Nat.lt_of_lt_of_le hj hX.2)).trans (hX.1 j hj), Nat.le_trans hX.2 hnn⟩ (by rw [xL_ext hext hcL]; exact hl)
      ⟨fun q hq => xVc_mono hnn (hcL q hq), fun u hu => by
        rcases List.mem_append.mp hu with h | h
        · cases w with
          | none => cases h
          | some z =>
            rw [List.mem_singleton.mp h]
            exact hcw z rfl
        · exact xVc_mono hnn (hcR u h)⟩
    rw [hst] at hg
    obtain ⟨t2, a1, b1⟩ := hg T' rfl X'
    exact ⟨t2, hgo t2 a1, b1⟩
  · obtain ⟨n', G', ad', hXY, hnn, hext, hH', hF⟩ := hq
    obtain ⟨k1, k2, k3⟩ := vx_keep h0 e1 hS (fun q _ h => h) (fun q h => h) hL hF
    have hvm : s.vm.Alike t.vm := by rw [← e2]; exact X'.warmed.alike
    have hH2 : xH D A ad' n' G' s T'.heap := by rw [e1]; exact hH'.moved hvm.symm
    have hg := kx E n' G' hXY hnn p l e s m args below meth cd D A ad0 ad' T'.heap (locs ++ Lc) ls E0 q ce C hH2 k3 ⟨fun j hj => (hext j (Nat.lt_of_lt_of_le hj hX.2)).trans (hX.1 j hj), Nat.le_trans hX.2 hnn⟩ (by rw [xL_ext hext hcL]; exact hl)
      ⟨fun q hq => xVc_mono hnn (hcL q hq), fun u hu => xVc_mono hnn (hcR u hu)⟩ (by rw [e1]; exact hce) hcv hcl
    rw [xst_ext hext hcR] at hg
    obtain ⟨t2, a1, b1⟩ := hg T' rfl X'
    exact ⟨t2, hgo.trans a1, b1⟩
theorem yr_pre {p : Program} {l : Launch} {s : State} {m : MethodId} {args : Array Value} {meth : Method} {cd : Code} {D : va_G} {A : Nat → Prop} {ad : Nat → Nat × Nat} {H : Heap} {locs : List Loc} {av : List Value}
    (C : yC M p l s m args meth cd D A) (hH : xH D A ad n G s H) (hS : va_S A s.heap H locs) (hcA : ∀ v ∈ av, xVc n v) (U : State) (hU : U.heap = H) (hW : s.WarmedH U.vm) :
    va_Pc (av.map (xV ad)) (fun U => U.heap.size = H.size ∧ (∀ v ∈ av, xVc n v) ∧ xU D A U ∧ xH D A ad n G U U.heap) (av.map (xV ad)).toArray U :=
  ⟨rfl, by rw [hU], hcA, C.2.2.1.2.2.blind hW (fun a h1 h2 => by rw [hU]; exact hS.2.1 a h1 h2), by rw [hU]; exact hH.moved hW.alike⟩
theorem yr_cB {Y : xM} {idx na mcY msY : Nat} {p : Program} {l : Launch} {s : State} {m : MethodId} {args : Array Value} {meth : Method} {cd : Code} {D : va_G} {A : Nat → Prop} (C : yC M p l s m args meth cd D A) (lk : xlB M.1.cls idx Y na) (hR : Y.2.2.2.2.1 + 1 ≤ M.2.2.2.2.1 ∧ 8 + (Y.2.2.1 + 11) + Y.2.2.2.2.2.1 ≤ M.2.2.2.2.2.1) :
    CallB (xRm M mc ms) s args M.1.cls idx Y.1 Y.2.1 Y.2.2.1 Y.2.2.2.1 (xws Y) (xRm Y mcY msY) mcY msY na :=
  callB_of (Ts := xTB) (ws' := xTB) na C.2.1.2.1 (xws_good lk.1.2.2) rfl rfl rfl (C.2.1.2.1 _ lk.1.2.1) (C.2.1.2.1 _ lk.1.1) lk.2 hR
theorem ys_callV {Y : xM} {idx na ci b mcY msY : Nat} {As rest fs : List Value} {QY : Option Value → Nat → xG → Prop} {XY : String → Nat → xG → Prop} (d : xD M pc pc2 3 (.invokevirtual idx)) (lk : xlV M.1.cls idx Y na ci) (hb : G b = .inr (ci, fs)) (hK : xK Y (.ref b :: As) n G mcY msY QY XY)
    (hst : st = As.reverse ++ .ref b :: rest) (hna : As.length = na) (hrm : (rest.map fun v => v.category).sum ≤ 8) (hR : Y.2.2.2.2.1 + 1 ≤ M.2.2.2.2.1 ∧ 8 + (Y.2.2.1 + 11) + Y.2.2.2.2.2.1 ≤ M.2.2.2.2.2.1) (hk : k + mcY ≤ mc ∧ c + msY ≤ ms)
    (kk : ∀ (v : Option Value) (n' : Nat) (G' : xG), QY v n' G' → n ≤ n' → yS E R0 M n0 mc ms Q X pc2 L (v.toList ++ rest) n' G' (k + mcY) (c + msY))
    (kx : ∀ (Ex : String) (n' : Nat) (G' : xG), XY Ex n' G' → n ≤ n' → ySX E R0 M n0 mc ms Q X pc L rest n' G' (k + mcY) (c + msY) Ex) : yS E R0 M n0 mc ms Q X pc L st n G k c := by
  intro p l e s m args below meth cd D A ad0 ad H locs ls E0 C hH hS hX hl hc
  obtain ⟨d, rfl⟩ := d
  subst hst
  have hcb : xVc n (.ref b) := hc.2 _ (List.mem_append_right _ List.mem_cons_self)
  have hcR : ∀ v ∈ rest, xVc n v := fun v hv => hc.2 v (List.mem_append_right _ (List.mem_cons_of_mem _ hv))
  have hcA : ∀ v ∈ (Value.ref b :: As), xVc n v := xSc_cons hcb fun v hv => hc.2 v (List.mem_append_left _ (List.mem_reverse.mpr hv))
  have hw := xW_get (ad := ad) (G := G) (show b < n from hcb)
  rw [hb] at hw
  obtain ⟨q, hq, hqc⟩ := Option.map_eq_some_iff.mp lk.2.2
  refine yr_run (a := ((Value.ref b :: As).map (xV ad)).toArray) E0 C hS hX hl hc.1 hcR ?_ kk kx
  refine vx_runV (C := Y.1.cls) (b := (ad b).1) (As := As.map (xV ad)) (Ts := xTB) (nL := M.2.2.1) ⟨C.1.1, C.1.2.1, C.1.2.2.2, C.2.1.1, C.2.1.2.1⟩ (hK l C.2.2.1.1 D A ad H.size (fun q hq => C.2.2.1.2.1 q (Nat.le_trans hS.1 hq))) ⟨yr_cB C lk.1 hR, C.2.1.2.1 _ lk.2.1.1, C.2.1.2.1 _ lk.2.1.2⟩ ⟨xPc_blind, ?_, fun U hU hW => yr_pre C hH hS hcA U hU hW⟩ rfl (by rw [List.length_map]; exact hna) hl.1 ?_ (lv_room (xr_rest hrm)) d ⟨hk.1, hk.2⟩
  · rw [← hqc]
    exact va_recv (D := D) (cl := vwCl) C.2.2.1.2.2.1.1 hH.1 hq hw
  · show (As.reverse ++ Value.ref b :: rest).map (xV ad) = _
    rw [List.map_append, List.map_reverse]
    rfl
theorem ys_callI {Y : xM} {idx na b mcY msY : Nat} {As rest : List Value} {QY : Option Value → Nat → xG → Prop} {XY : String → Nat → xG → Prop} (d : xD M pc pc2 3 (.invokespecial idx)) (lk : xlI M.1.cls idx Y na) (hK : xK Y (.ref b :: As) n G mcY msY QY XY)
    (hst : st = As.reverse ++ .ref b :: rest) (hna : As.length = na) (hrm : (rest.map fun v => v.category).sum ≤ 8) (hR : Y.2.2.2.2.1 + 1 ≤ M.2.2.2.2.1 ∧ 8 + (Y.2.2.1 + 11) + Y.2.2.2.2.2.1 ≤ M.2.2.2.2.2.1) (hk : k + mcY ≤ mc ∧ c + msY ≤ ms)
    (kk : ∀ (v : Option Value) (n' : Nat) (G' : xG), QY v n' G' → n ≤ n' → yS E R0 M n0 mc ms Q X pc2 L (v.toList ++ rest) n' G' (k + mcY) (c + msY))
    (kx : ∀ (Ex : String) (n' : Nat) (G' : xG), XY Ex n' G' → n ≤ n' → ySX E R0 M n0 mc ms Q X pc L rest n' G' (k + mcY) (c + msY) Ex) : yS E R0 M n0 mc ms Q X pc L st n G k c := by
  intro p l e s m args below meth cd D A ad0 ad H locs ls E0 C hH hS hX hl hc
  obtain ⟨d, rfl⟩ := d
  subst hst
  have hcb : xVc n (.ref b) := hc.2 _ (List.mem_append_right _ List.mem_cons_self)
  have hcR : ∀ v ∈ rest, xVc n v := fun v hv => hc.2 v (List.mem_append_right _ (List.mem_cons_of_mem _ hv))
  have hcA : ∀ v ∈ (Value.ref b :: As), xVc n v := xSc_cons hcb fun v hv => hc.2 v (List.mem_append_left _ (List.mem_reverse.mpr hv))
  refine yr_run (a := ((Value.ref b :: As).map (xV ad)).toArray) E0 C hS hX hl hc.1 hcR ?_ kk kx
  have cb := yr_cB (mc := mc) (ms := ms) (mcY := mcY) (msY := msY) C lk.1 hR
  rw [lk.2.2.2] at cb
  refine vx_runI (b := (ad b).1) (As := As.map (xV ad)) (Ts := xTB) (nL := M.2.2.1) ⟨C.1.1, C.1.2.1, C.1.2.2.2, C.2.1.1, C.2.1.2.1⟩ (hK l C.2.2.1.1 D A ad H.size (fun q hq => C.2.2.1.2.1 q (Nat.le_trans hS.1 hq))) ⟨cb, lk.2.2.1, C.2.1.2.1 _ lk.2.1⟩ ⟨xPc_blind, fun U hU hW => yr_pre C hH hS hcA U hU hW⟩ rfl (by rw [List.length_map]; exact hna) hl.1 ?_ (lv_room (xr_rest hrm)) d ⟨hk.1, hk.2⟩
  show (As.reverse ++ Value.ref b :: rest).map (xV ad) = _
  rw [List.map_append, List.map_reverse]
  rfl
theorem ys_new {idx ci N : Nat} {fs : List Value} {CC : String} (d : xD M pc pc2 3 (.new idx)) (hkl : Cond.classLink M.1.cls idx CC ∈ xTB) (hN : xN ci N fs CC) (hk : k + 1 ≤ mc) (hc0 : c + N ≤ ms)
    (K : yS E R0 M n0 mc ms Q X pc2 L (.ref n :: st) (n + 1) (va_up G n (.inr (ci, fs))) (k + 1) (c + N)) : yS E R0 M n0 mc ms Q X pc L st n G k c := by
  intro p l e s m args below meth cd D A ad0 ad H locs ls E0 C hH hS hX hl hc
  obtain ⟨d, rfl⟩ := d
  obtain ⟨T, ty, h1, h2, h3, h4, h5, h6⟩ := hN
  refine va_new (D := D) (ws := xW n ad G) (ci := ci) (C := CC) (T := T) (N := N) (fs := fs) C.1.1 C.1.2.1 C.2.1.2.1 h2 ty h3 C.2.1.1 (C.2.1.2.1 _ hkl) (C.2.1.2.1 _ h4.1) (C.2.1.2.1 _ h4.2) C.2.2.1.2.2.1.1 hH.1 hH.2.1 hS C.2.2.1.2.1 h1 h5 hk hc0 d (fun q H1 hP hD hS1 => ?_)
  have hfs : ∀ ad : Nat → Nat × Nat, fs.map (xV ad) = fs := fun ad => (List.map_congr_left fun v hv => (h6 v hv).1 ad).trans (List.map_id fs)
  have hH2 : xH D A (va_up ad n (q, 0)) (n + 1) (va_up G n (.inr (ci, fs))) s H1 := xr_push hH (fun v hv => (h6 v hv).2 _) (by show va_P D vwCl (xW n ad G ++ [(q, .inr (ci, fs.map (xV _)))]) H1; rw [hfs]; exact hP) (by show va_D A (xW n ad G ++ [(q, .inr (ci, fs.map (xV _)))]); rw [hfs]; exact hD) (fun t x h => by cases h)
  have hg := K p l e s m args below meth cd D A ad0 (va_up ad n (q, 0)) H1 locs ls E0 C hH2 hS1 ⟨fun j hj => (xr_up j (Nat.lt_of_lt_of_le hj hX.2)).trans (hX.1 j hj), Nat.le_succ_of_le hX.2⟩ (by rw [xL_ext xr_up hc.1]; exact hl) ⟨fun q hq => xVc_mono (Nat.le_succ n) (hc.1 q hq), xSc_cons (Nat.lt_succ_self n) fun v hv => xVc_mono (Nat.le_succ n) (hc.2 v hv)⟩
  rw [List.map_cons, xst_ext xr_up hc.2, show xV (va_up ad n (q, 0)) (.ref n) = .ref q by show Value.ref _ = _; rw [va_up_self]] at hg
  exact hg
theorem yr_newa {at0 : ArrayType} {ty : FieldType} {tag N : Nat} {a0 : vp_A} {i : Int32} (hat : newarray.typeOf at0 = ty) (hty : xTy tag = ty) (hcell : ∀ cA : Nat, vp_cell cA a0 = arrV cA N (fun _ => defaultValue ty)) (hA1 : ∀ (ad : Nat → Nat × Nat) (k : Nat), xA ad k (.inl (tag, a0)) = .inl ((ad k).2, a0)) (hcl : ∀ n, xEc n (.inl (tag, a0)))
    (hw : Cond.arrayClass (newarray.typeOf at0) ∈ xTB) (d : xD M pc pc2 2 (.newarray at0)) (hi : i = nI N) (hN : N < 100000) (hb : N * componentBytes ty ≤ 536870912) (hk : k + 1 ≤ mc) (hc0 : c + N ≤ ms)
    (K : yS E R0 M n0 mc ms Q X pc2 L (.ref n :: st) (n + 1) (va_up G n (.inl (tag, a0))) (k + 1) (c + N)) : yS E R0 M n0 mc ms Q X pc L (.int i :: st) n G k c := by
  intro p l e s m args below meth cd D A ad0 ad H locs ls E0 C hH hS hX hl hc
  obtain ⟨d, rfl⟩ := d
  subst hi
  have hc2 := xSc_tail hc.2
  refine va_newa (D := D) (ws := xW n ad G) (tys := []) (atype := at0) (a0 := a0) (N' := N) C.1.1 C.1.2.1 (C.2.1.2.1 _ hw) hat C.2.2.1.2.2.1.1 hH.1 hH.2.1 hS C.2.2.1.2.1 hcell (by have := nI_pos' (n := N) (by omega); simpa using this) (nI_clamp (by omega)) hb hk hc0 d (fun q cA H1 hK hP hD hS1 => ?_)
  have hT := hK.2 0 (cA, ty) rfl
  have hH2 : xH D A (va_up ad n (q, cA)) (n + 1) (va_up G n (.inl (tag, a0))) s H1 := by
    refine xr_push hH (hcl _) ?_ ?_ (fun t x h => ?_)
    · rw [hA1, va_up_self]; exact hP
    · rw [hA1, va_up_self]; exact hD
    · cases h
      rw [hty]
      exact hT
  have hg := K p l e s m args below meth cd D A ad0 (va_up ad n (q, cA)) H1 locs ls E0 C hH2 hS1 ⟨fun j hj => (xr_up j (Nat.lt_of_lt_of_le hj hX.2)).trans (hX.1 j hj), Nat.le_succ_of_le hX.2⟩ (by rw [xL_ext xr_up hc.1]; exact hl) ⟨fun q hq => xVc_mono (Nat.le_succ n) (hc.1 q hq), xSc_cons (Nat.lt_succ_self n) fun v hv => xVc_mono (Nat.le_succ n) (hc2 v hv)⟩
  rw [List.map_cons, xst_ext xr_up hc2, show xV (va_up ad n (q, cA)) (.ref n) = .ref q by show Value.ref _ = _; rw [va_up_self]] at hg
  exact hg
theorem ys_newJ {N : Nat} {i : Int32} (d : xD M pc pc2 2 (.newarray .long)) (hi : i = nI N) (hN : N < 100000) (hk : k + 1 ≤ mc) (hc0 : c + N ≤ ms)
    (K : yS E R0 M n0 mc ms Q X pc2 L (.ref n :: st) (n + 1) (va_up G n (.inl (1, N, .inr (.inl (fun _ => 0))))) (k + 1) (c + N)) : yS E R0 M n0 mc ms Q X pc L (.int i :: st) n G k c :=
  yr_newa (at0 := .long) (tag := 1) (a0 := (N, .inr (.inl (fun _ => 0)))) rfl rfl (fun _ => rfl) (fun _ _ => rfl) (fun _ => trivial) xw_long d hi hN (by show N * 8 ≤ _; omega) hk hc0 K
theorem ys_pick {L2 : List (Nat × Value)} (ks : List Nat) (h : lv_pick L ks = L2) (K : yS E R0 M n0 mc ms Q X pc L2 st n G k c) : yS E R0 M n0 mc ms Q X pc L st n G k c := by
  intro p l e s m args below meth cd D A ad0 ad H locs ls E0 C hH hS hX hl hc
  subst h
  have hm : lv_pick (xL ad L) ks = xL ad (lv_pick L ks) := by
    simp only [lv_pick, xL, List.map_filterMap, List.getElem?_map]
  refine K p l e s m args below meth cd D A ad0 ad H locs ls E0 C hH hS hX (lv_sub hl ks hm) ⟨fun q hq => ?_, hc.2⟩
  obtain ⟨i, -, hi⟩ := List.mem_filterMap.mp hq
  exact hc.1 q (List.mem_of_getElem? hi)
theorem ys_cV_i {Y : xM} {idx na : Nat} {ci : Nat} {b : Nat} {fs : List Value} {As rest : List Value} {r : Int32} (d : xD M pc pc2 3 (.invokevirtual idx)) (lk : xlV M.1.cls idx Y na ci) (hb : G b = .inr (ci, fs)) (hK : xK Y (.ref b :: As) n G 0 0 (qI n G1 r) xNo) (hst : st = As.reverse ++ .ref b :: rest) (hna : As.length = na) (hrm : (rest.map fun v => v.category).sum ≤ 8) (hR : xRmOk Y M) (hk : k ≤ mc ∧ c ≤ ms) (K : yS E R0 M n0 mc ms Q X pc2 L (.int r :: rest) n G1 k c) : yS E R0 M n0 mc ms Q X pc L st n G k c :=
  ys_callV d lk hb hK hst hna hrm hR hk (fun _ _ _ h _ => by obtain ⟨rfl, rfl, rfl⟩ := h; exact K) (fun _ _ _ h => h.elim)
theorem ys_cV_ix {Y : xM} {idx na : Nat} {ci : Nat} {b : Nat} {fs : List Value} {As rest : List Value} {P : Int32 → xG → Prop} (d : xD M pc pc2 3 (.invokevirtual idx)) (lk : xlV M.1.cls idx Y na ci) (hb : G b = .inr (ci, fs)) (hK : xK Y (.ref b :: As) n G 0 0 (qIx n P) xNo) (hst : st = As.reverse ++ .ref b :: rest) (hna : As.length = na) (hrm : (rest.map fun v => v.category).sum ≤ 8) (hR : xRmOk Y M) (hk : k ≤ mc ∧ c ≤ ms) (K : ∀ (r : Int32) (H : xG), P r H → yS E R0 M n0 mc ms Q X pc2 L (.int r :: rest) n H k c) : yS E R0 M n0 mc ms Q X pc L st n G k c :=
  ys_callV d lk hb hK hst hna hrm hR hk (fun _ _ _ h _ => by obtain ⟨r, rfl, rfl, h⟩ := h; exact K _ _ h) (fun _ _ _ h => h.elim)
theorem ys_cV_lx {Y : xM} {idx na : Nat} {ci : Nat} {b : Nat} {fs : List Value} {As rest : List Value} {P : Int64 → xG → Prop} (d : xD M pc pc2 3 (.invokevirtual idx)) (lk : xlV M.1.cls idx Y na ci) (hb : G b = .inr (ci, fs)) (hK : xK Y (.ref b :: As) n G 0 0 (qLx n P) xNo) (hst : st = As.reverse ++ .ref b :: rest) (hna : As.length = na) (hrm : (rest.map fun v => v.category).sum ≤ 8) (hR : xRmOk Y M) (hk : k ≤ mc ∧ c ≤ ms) (K : ∀ (r : Int64) (H : xG), P r H → yS E R0 M n0 mc ms Q X pc2 L (.long r :: rest) n H k c) : yS E R0 M n0 mc ms Q X pc L st n G k c :=
  ys_callV d lk hb hK hst hna hrm hR hk (fun _ _ _ h _ => by obtain ⟨r, rfl, rfl, h⟩ := h; exact K _ _ h) (fun _ _ _ h => h.elim)
theorem ys_at {H : xG} (h : G = H) (K : yS E R0 M n0 mc ms Q X pc L st n H k c) : yS E R0 M n0 mc ms Q X pc L st n G k c := by
  subst h
  exact K
theorem ys_ifb_eq {b : Bool} (d : xDJ M pc pc2 tgt (.ifCond .eq)) (kt : b = false → yS E R0 M n0 mc ms Q X tgt L st n G k c) (kf : b = true → yS E R0 M n0 mc ms Q X pc2 L st n G k c) : yS E R0 M n0 mc ms Q X pc L (.int (bI b) :: st) n G k c :=
  ys_if_eq d (fun h => kt ((bI_0 _).mp h)) (fun h => kf ((bI_1n _).mp h))
theorem ys_ifb_ne {b : Bool} (d : xDJ M pc pc2 tgt (.ifCond .ne)) (kt : b = true → yS E R0 M n0 mc ms Q X tgt L st n G k c) (kf : b = false → yS E R0 M n0 mc ms Q X pc2 L st n G k c) : yS E R0 M n0 mc ms Q X pc L (.int (bI b) :: st) n G k c :=
  ys_if_ne d (fun h => kt ((bI_1n _).mp h)) (fun h => kf ((bI_0 _).mp h))
end YR
