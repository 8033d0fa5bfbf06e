section XR
variable {M : xM} {n0 mc ms : Nat} {Q : Option Value → Nat → xG → Prop} {X : String → Nat → xG → Prop} {pc pc2 tgt : Nat} {L : List (Nat × Value)} {st : List Value} {n : Nat} {G : xG} {k c : Nat}
/-- a local by its place -/
def xlk (L : List (Nat × Value)) (i : Nat) : Option Value := match L with
  | [] => none
  | q :: r => if q.1 = i then some q.2 else xlk r i
theorem xlk_mem {i : Nat} {v : Value} : ∀ {L : List (Nat × Value)}, xlk L i = some v → (i, v) ∈ L
  | [], h => by cases h
  | q :: r, h => by
    unfold xlk at h
    by_cases hq : q.1 = i
    · rw [if_pos hq] at h
      cases h
      cases hq
      exact List.mem_cons_self
    · rw [if_neg hq] at h
      exact List.mem_cons_of_mem _ (xlk_mem h)
theorem xlk_ls {ad : Nat → Nat × Nat} {ls : Array Slot} {nL i : Nat} {v : Value} (hl : lv_has ls nL (xL ad L)) (h : xlk L i = some v) : ls[i]? = some (.val (xV ad v)) :=
  hl.2.2 (i, xV ad v) (List.mem_map.mpr ⟨(i, v), xlk_mem h, rfl⟩)
theorem xV_cat (ad : Nat → Nat × Nat) (v : Value) : (xV ad v).category = v.category := by cases v <;> rfl
/-- the locals behind a store -/
def xst1 (L : List (Nat × Value)) (i : Nat) (v : Value) : List (Nat × Value) := (i, v) :: L.filter (fun q => !(q.1 == i) && !(q.1 + 1 == i && q.2.category == 2))
def xst2 (L : List (Nat × Value)) (i : Nat) (v : Value) : List (Nat × Value) := (i, v) :: L.filter (fun q => !(q.1 == i) && (!(q.1 == i + 1) && !(q.1 + 1 == i && q.2.category == 2)))
theorem xst1_map (ad : Nat → Nat × Nat) (i : Nat) (v : Value) : (i, xV ad v) :: (xL ad L).filter (fun q => !(q.1 == i) && !(q.1 + 1 == i && q.2.category == 2)) = xL ad (xst1 L i v) := by
  simp only [xL, xst1, List.map_cons, List.filter_map]
  congr 2
  apply List.filter_congr
  intro q _
  simp [xV_cat]
theorem xst2_map (ad : Nat → Nat × Nat) (i : Nat) (v : Value) : (i, xV ad v) :: (xL ad L).filter (fun q => !(q.1 == i) && (!(q.1 == i + 1) && !(q.1 + 1 == i && q.2.category == 2))) = xL ad (xst2 L i v) := by
  simp only [xL, xst2, List.map_cons, List.filter_map]
  congr 2
  apply List.filter_congr
  intro q _
  simp [xV_cat]
theorem xst1_c {i : Nat} {v : Value} (hv : xVc n v) (h : ∀ q ∈ L, xVc n q.2) : ∀ q ∈ xst1 L i v, xVc n q.2 := fun q hq => by
  rcases List.mem_cons.mp hq with rfl | hq
  · exact hv
  · exact h q (List.mem_filter.mp hq).1
theorem xst2_c {i : Nat} {v : Value} (hv : xVc n v) (h : ∀ q ∈ L, xVc n q.2) : ∀ q ∈ xst2 L i v, xVc n q.2 := fun q hq => by
  rcases List.mem_cons.mp hq with rfl | hq
  · exact hv
  · exact h q (List.mem_filter.mp hq).1
theorem xs_iadd {y : Int32} {x : Int32} (d : xD M pc pc2 1 (.iadd)) (K : xS M n0 mc ms Q X pc2 L (.int (x + y) :: st) n G k c) : xS M n0 mc ms Q X pc L (.int y :: .int x :: st) n G k c := by
  intro p l e s m args below meth cd D A ad0 ad H locs ls C hH hS hX hl hc
  obtain ⟨d, rfl⟩ := d
  exact lv_iadd C.1.1 C.1.2.1 d (K p l e s m args below meth cd D A ad0 ad H locs ls C hH hS hX hl ⟨hc.1, xSc_cons trivial (xSc_tail (xSc_tail hc.2))⟩)
theorem xs_isub {y : Int32} {x : Int32} (d : xD M pc pc2 1 (.isub)) (K : xS M n0 mc ms Q X pc2 L (.int (x - y) :: st) n G k c) : xS M n0 mc ms Q X pc L (.int y :: .int x :: st) n G k c := by
  intro p l e s m args below meth cd D A ad0 ad H locs ls C hH hS hX hl hc
  obtain ⟨d, rfl⟩ := d
  exact lv_isub C.1.1 C.1.2.1 d (K p l e s m args below meth cd D A ad0 ad H locs ls C hH hS hX hl ⟨hc.1, xSc_cons trivial (xSc_tail (xSc_tail hc.2))⟩)
theorem xs_imul {y : Int32} {x : Int32} (d : xD M pc pc2 1 (.imul)) (K : xS M n0 mc ms Q X pc2 L (.int (x * y) :: st) n G k c) : xS M n0 mc ms Q X pc L (.int y :: .int x :: st) n G k c := by
  intro p l e s m args below meth cd D A ad0 ad H locs ls C hH hS hX hl hc
  obtain ⟨d, rfl⟩ := d
  exact lv_imul C.1.1 C.1.2.1 d (K p l e s m args below meth cd D A ad0 ad H locs ls C hH hS hX hl ⟨hc.1, xSc_cons trivial (xSc_tail (xSc_tail hc.2))⟩)
theorem xs_iand {y : Int32} {x : Int32} (d : xD M pc pc2 1 (.iand)) (K : xS M n0 mc ms Q X pc2 L (.int (x &&& y) :: st) n G k c) : xS M n0 mc ms Q X pc L (.int y :: .int x :: st) n G k c := by
  intro p l e s m args below meth cd D A ad0 ad H locs ls C hH hS hX hl hc
  obtain ⟨d, rfl⟩ := d
  exact lv_iand C.1.1 C.1.2.1 d (K p l e s m args below meth cd D A ad0 ad H locs ls C hH hS hX hl ⟨hc.1, xSc_cons trivial (xSc_tail (xSc_tail hc.2))⟩)
theorem xs_ior {y : Int32} {x : Int32} (d : xD M pc pc2 1 (.ior)) (K : xS M n0 mc ms Q X pc2 L (.int (x ||| y) :: st) n G k c) : xS M n0 mc ms Q X pc L (.int y :: .int x :: st) n G k c := by
  intro p l e s m args below meth cd D A ad0 ad H locs ls C hH hS hX hl hc
  obtain ⟨d, rfl⟩ := d
  exact lv_ior C.1.1 C.1.2.1 d (K p l e s m args below meth cd D A ad0 ad H locs ls C hH hS hX hl ⟨hc.1, xSc_cons trivial (xSc_tail (xSc_tail hc.2))⟩)
theorem xs_idiv {y : Int32} {x : Int32} (d : xD M pc pc2 1 (.idiv)) (hne : ¬ y = 0) (K : xS M n0 mc ms Q X pc2 L (.int (x / y) :: st) n G k c) : xS M n0 mc ms Q X pc L (.int y :: .int x :: st) n G k c := by
  intro p l e s m args below meth cd D A ad0 ad H locs ls C hH hS hX hl hc
  obtain ⟨d, rfl⟩ := d
  exact lv_idiv C.1.1 C.1.2.1 d hne (K p l e s m args below meth cd D A ad0 ad H locs ls C hH hS hX hl ⟨hc.1, xSc_cons trivial (xSc_tail (xSc_tail hc.2))⟩)
theorem xs_irem {y : Int32} {x : Int32} (d : xD M pc pc2 1 (.irem)) (hne : ¬ y = 0) (K : xS M n0 mc ms Q X pc2 L (.int (x - x / y * y) :: st) n G k c) : xS M n0 mc ms Q X pc L (.int y :: .int x :: st) n G k c := by
  intro p l e s m args below meth cd D A ad0 ad H locs ls C hH hS hX hl hc
  obtain ⟨d, rfl⟩ := d
  exact lv_irem C.1.1 C.1.2.1 d hne (K p l e s m args below meth cd D A ad0 ad H locs ls C hH hS hX hl ⟨hc.1, xSc_cons trivial (xSc_tail (xSc_tail hc.2))⟩)
theorem xs_ladd {y : Int64} {x : Int64} (d : xD M pc pc2 1 (.ladd)) (K : xS M n0 mc ms Q X pc2 L (.long (x + y) :: st) n G k c) : xS M n0 mc ms Q X pc L (.long y :: .long x :: st) n G k c := by
  intro p l e s m args below meth cd D A ad0 ad H locs ls C hH hS hX hl hc
  obtain ⟨d, rfl⟩ := d
  exact lv_ladd C.1.1 C.1.2.1 d (K p l e s m args below meth cd D A ad0 ad H locs ls C hH hS hX hl ⟨hc.1, xSc_cons trivial (xSc_tail (xSc_tail hc.2))⟩)
theorem xs_lsub {y : Int64} {x : Int64} (d : xD M pc pc2 1 (.lsub)) (K : xS M n0 mc ms Q X pc2 L (.long (x - y) :: st) n G k c) : xS M n0 mc ms Q X pc L (.long y :: .long x :: st) n G k c := by
  intro p l e s m args below meth cd D A ad0 ad H locs ls C hH hS hX hl hc
  obtain ⟨d, rfl⟩ := d
  exact lv_lsub C.1.1 C.1.2.1 d (K p l e s m args below meth cd D A ad0 ad H locs ls C hH hS hX hl ⟨hc.1, xSc_cons trivial (xSc_tail (xSc_tail hc.2))⟩)
theorem xs_lmul {y : Int64} {x : Int64} (d : xD M pc pc2 1 (.lmul)) (K : xS M n0 mc ms Q X pc2 L (.long (x * y) :: st) n G k c) : xS M n0 mc ms Q X pc L (.long y :: .long x :: st) n G k c := by
  intro p l e s m args below meth cd D A ad0 ad H locs ls C hH hS hX hl hc
  obtain ⟨d, rfl⟩ := d
  exact lv_lmul C.1.1 C.1.2.1 d (K p l e s m args below meth cd D A ad0 ad H locs ls C hH hS hX hl ⟨hc.1, xSc_cons trivial (xSc_tail (xSc_tail hc.2))⟩)
theorem xs_land {y : Int64} {x : Int64} (d : xD M pc pc2 1 (.land)) (K : xS M n0 mc ms Q X pc2 L (.long (x &&& y) :: st) n G k c) : xS M n0 mc ms Q X pc L (.long y :: .long x :: st) n G k c := by
  intro p l e s m args below meth cd D A ad0 ad H locs ls C hH hS hX hl hc
  obtain ⟨d, rfl⟩ := d
  exact lv_land C.1.1 C.1.2.1 d (K p l e s m args below meth cd D A ad0 ad H locs ls C hH hS hX hl ⟨hc.1, xSc_cons trivial (xSc_tail (xSc_tail hc.2))⟩)
theorem xs_lor {y : Int64} {x : Int64} (d : xD M pc pc2 1 (.lor)) (K : xS M n0 mc ms Q X pc2 L (.long (x ||| y) :: st) n G k c) : xS M n0 mc ms Q X pc L (.long y :: .long x :: st) n G k c := by
  intro p l e s m args below meth cd D A ad0 ad H locs ls C hH hS hX hl hc
  obtain ⟨d, rfl⟩ := d
  exact lv_lor C.1.1 C.1.2.1 d (K p l e s m args below meth cd D A ad0 ad H locs ls C hH hS hX hl ⟨hc.1, xSc_cons trivial (xSc_tail (xSc_tail hc.2))⟩)
theorem xs_ldiv {y : Int64} {x : Int64} (d : xD M pc pc2 1 (.ldiv)) (hne : ¬ y = 0) (K : xS M n0 mc ms Q X pc2 L (.long (x / y) :: st) n G k c) : xS M n0 mc ms Q X pc L (.long y :: .long x :: st) n G k c := by
  intro p l e s m args below meth cd D A ad0 ad H locs ls C hH hS hX hl hc
  obtain ⟨d, rfl⟩ := d
  exact lv_ldiv C.1.1 C.1.2.1 d hne (K p l e s m args below meth cd D A ad0 ad H locs ls C hH hS hX hl ⟨hc.1, xSc_cons trivial (xSc_tail (xSc_tail hc.2))⟩)
theorem xs_lrem {y : Int64} {x : Int64} (d : xD M pc pc2 1 (.lrem)) (hne : ¬ y = 0) (K : xS M n0 mc ms Q X pc2 L (.long (x - x / y * y) :: st) n G k c) : xS M n0 mc ms Q X pc L (.long y :: .long x :: st) n G k c := by
  intro p l e s m args below meth cd D A ad0 ad H locs ls C hH hS hX hl hc
  obtain ⟨d, rfl⟩ := d
  exact lv_lrem C.1.1 C.1.2.1 d hne (K p l e s m args below meth cd D A ad0 ad H locs ls C hH hS hX hl ⟨hc.1, xSc_cons trivial (xSc_tail (xSc_tail hc.2))⟩)
theorem xs_ineg {x : Int32} (d : xD M pc pc2 1 (.ineg)) (K : xS M n0 mc ms Q X pc2 L (.int (-x) :: st) n G k c) : xS M n0 mc ms Q X pc L (.int x :: st) n G k c := by
  intro p l e s m args below meth cd D A ad0 ad H locs ls C hH hS hX hl hc
  obtain ⟨d, rfl⟩ := d
  exact lv_ineg C.1.1 C.1.2.1 d (K p l e s m args below meth cd D A ad0 ad H locs ls C hH hS hX hl ⟨hc.1, xSc_cons trivial (xSc_tail hc.2)⟩)
theorem xs_lneg {x : Int64} (d : xD M pc pc2 1 (.lneg)) (K : xS M n0 mc ms Q X pc2 L (.long (-x) :: st) n G k c) : xS M n0 mc ms Q X pc L (.long x :: st) n G k c := by
  intro p l e s m args below meth cd D A ad0 ad H locs ls C hH hS hX hl hc
  obtain ⟨d, rfl⟩ := d
  exact lv_lneg C.1.1 C.1.2.1 d (K p l e s m args below meth cd D A ad0 ad H locs ls C hH hS hX hl ⟨hc.1, xSc_cons trivial (xSc_tail hc.2)⟩)
theorem xs_ishl {y : Int32} {x : Int32} (d : xD M pc pc2 1 (.ishl)) (K : xS M n0 mc ms Q X pc2 L (.int (x <<< (y &&& 31)) :: st) n G k c) : xS M n0 mc ms Q X pc L (.int y :: .int x :: st) n G k c := by
  intro p l e s m args below meth cd D A ad0 ad H locs ls C hH hS hX hl hc
  obtain ⟨d, rfl⟩ := d
  exact lv_ishl C.1.1 C.1.2.1 d (K p l e s m args below meth cd D A ad0 ad H locs ls C hH hS hX hl ⟨hc.1, xSc_cons trivial (xSc_tail (xSc_tail hc.2))⟩)
theorem xs_ishr {y : Int32} {x : Int32} (d : xD M pc pc2 1 (.ishr)) (K : xS M n0 mc ms Q X pc2 L (.int (x >>> (y &&& 31)) :: st) n G k c) : xS M n0 mc ms Q X pc L (.int y :: .int x :: st) n G k c := by
  intro p l e s m args below meth cd D A ad0 ad H locs ls C hH hS hX hl hc
  obtain ⟨d, rfl⟩ := d
  exact lv_ishr C.1.1 C.1.2.1 d (K p l e s m args below meth cd D A ad0 ad H locs ls C hH hS hX hl ⟨hc.1, xSc_cons trivial (xSc_tail (xSc_tail hc.2))⟩)
theorem xs_iushr {y : Int32} {x : Int32} (d : xD M pc pc2 1 (.iushr)) (K : xS M n0 mc ms Q X pc2 L (.int ((x.toUInt32 >>> (y.toUInt32 &&& Int32.toUInt32 31)).toInt32) :: st) n G k c) : xS M n0 mc ms Q X pc L (.int y :: .int x :: st) n G k c := by
  intro p l e s m args below meth cd D A ad0 ad H locs ls C hH hS hX hl hc
  obtain ⟨d, rfl⟩ := d
  exact lv_iushr C.1.1 C.1.2.1 d rfl (K p l e s m args below meth cd D A ad0 ad H locs ls C hH hS hX hl ⟨hc.1, xSc_cons trivial (xSc_tail (xSc_tail hc.2))⟩)
theorem xs_lushr {y : Int32} {x : Int64} (d : xD M pc pc2 1 (.lushr)) (K : xS M n0 mc ms Q X pc2 L (.long ((x.toUInt64 >>> (y.toInt64.toUInt64 &&& Int64.toUInt64 63)).toInt64) :: st) n G k c) : xS M n0 mc ms Q X pc L (.int y :: .long x :: st) n G k c := by
  intro p l e s m args below meth cd D A ad0 ad H locs ls C hH hS hX hl hc
  obtain ⟨d, rfl⟩ := d
  exact lv_lushr C.1.1 C.1.2.1 d rfl (K p l e s m args below meth cd D A ad0 ad H locs ls C hH hS hX hl ⟨hc.1, xSc_cons trivial (xSc_tail (xSc_tail hc.2))⟩)
theorem xs_lshl {y : Int32} {x : Int64} (d : xD M pc pc2 1 (.lshl)) (K : xS M n0 mc ms Q X pc2 L (.long (x <<< (y.toInt64 &&& 63)) :: st) n G k c) : xS M n0 mc ms Q X pc L (.int y :: .long x :: st) n G k c := by
  intro p l e s m args below meth cd D A ad0 ad H locs ls C hH hS hX hl hc
  obtain ⟨d, rfl⟩ := d
  exact lv_lshl C.1.1 C.1.2.1 d rfl (K p l e s m args below meth cd D A ad0 ad H locs ls C hH hS hX hl ⟨hc.1, xSc_cons trivial (xSc_tail (xSc_tail hc.2))⟩)
theorem xs_i2l {x : Int32} (d : xD M pc pc2 1 (.i2l)) (K : xS M n0 mc ms Q X pc2 L (.long (x.toInt64) :: st) n G k c) : xS M n0 mc ms Q X pc L (.int x :: st) n G k c := by
  intro p l e s m args below meth cd D A ad0 ad H locs ls C hH hS hX hl hc
  obtain ⟨d, rfl⟩ := d
  exact lv_i2l C.1.1 C.1.2.1 d rfl (K p l e s m args below meth cd D A ad0 ad H locs ls C hH hS hX hl ⟨hc.1, xSc_cons trivial (xSc_tail hc.2)⟩)
theorem xs_l2i {x : Int64} (d : xD M pc pc2 1 (.l2i)) (K : xS M n0 mc ms Q X pc2 L (.int (x.toInt32) :: st) n G k c) : xS M n0 mc ms Q X pc L (.long x :: st) n G k c := by
  intro p l e s m args below meth cd D A ad0 ad H locs ls C hH hS hX hl hc
  obtain ⟨d, rfl⟩ := d
  exact lv_l2i C.1.1 C.1.2.1 d rfl (K p l e s m args below meth cd D A ad0 ad H locs ls C hH hS hX hl ⟨hc.1, xSc_cons trivial (xSc_tail hc.2)⟩)
theorem xs_lcmp {y : Int64} {x : Int64} (d : xD M pc pc2 1 (.lcmp)) (K : xS M n0 mc ms Q X pc2 L (.int (lg_cmp x y) :: st) n G k c) : xS M n0 mc ms Q X pc L (.long y :: .long x :: st) n G k c := by
  intro p l e s m args below meth cd D A ad0 ad H locs ls C hH hS hX hl hc
  obtain ⟨d, rfl⟩ := d
  exact W.lcmp C.1.1 C.1.2.1 d (K p l e s m args below meth cd D A ad0 ad H locs ls C hH hS hX hl ⟨hc.1, xSc_cons trivial (xSc_tail (xSc_tail hc.2))⟩)
theorem xs_iconst {i : Int} {v : Int32} (d : xD M pc pc2 1 (.iconst i)) (hv : Int32.ofInt i = v) (K : xS M n0 mc ms Q X pc2 L (.int v :: st) n G k c) : xS M n0 mc ms Q X pc L (st) n G k c := by
  intro p l e s m args below meth cd D A ad0 ad H locs ls C hH hS hX hl hc
  obtain ⟨d, rfl⟩ := d
  exact lv_iconst C.1.1 C.1.2.1 d hv (K p l e s m args below meth cd D A ad0 ad H locs ls C hH hS hX hl ⟨hc.1, xSc_cons trivial hc.2⟩)
theorem xs_bipush {i : Int} {v : Int32} (d : xD M pc pc2 2 (.bipush i)) (hv : (Int8.ofInt i).toInt32 = v) (K : xS M n0 mc ms Q X pc2 L (.int v :: st) n G k c) : xS M n0 mc ms Q X pc L (st) n G k c := by
  intro p l e s m args below meth cd D A ad0 ad H locs ls C hH hS hX hl hc
  obtain ⟨d, rfl⟩ := d
  exact lv_bipush C.1.1 C.1.2.1 d hv (K p l e s m args below meth cd D A ad0 ad H locs ls C hH hS hX hl ⟨hc.1, xSc_cons trivial hc.2⟩)
theorem xs_sipush {i : Int} {v : Int32} (d : xD M pc pc2 3 (.sipush i)) (hv : (Int16.ofInt i).toInt32 = v) (K : xS M n0 mc ms Q X pc2 L (.int v :: st) n G k c) : xS M n0 mc ms Q X pc L (st) n G k c := by
  intro p l e s m args below meth cd D A ad0 ad H locs ls C hH hS hX hl hc
  obtain ⟨d, rfl⟩ := d
  exact lv_sipush C.1.1 C.1.2.1 d hv (K p l e s m args below meth cd D A ad0 ad H locs ls C hH hS hX hl ⟨hc.1, xSc_cons trivial hc.2⟩)
theorem xs_lconst {i : Fin 2} {v : Int64} (d : xD M pc pc2 1 (.lconst i)) (hv : Int64.ofNat (i : Nat) = v) (K : xS M n0 mc ms Q X pc2 L (.long v :: st) n G k c) : xS M n0 mc ms Q X pc L (st) n G k c := by
  intro p l e s m args below meth cd D A ad0 ad H locs ls C hH hS hX hl hc
  obtain ⟨d, rfl⟩ := d
  exact lv_lconst C.1.1 C.1.2.1 d hv (K p l e s m args below meth cd D A ad0 ad H locs ls C hH hS hX hl ⟨hc.1, xSc_cons trivial hc.2⟩)
theorem xs_ldc {i : Nat} {v : Int32} (d : xD M pc pc2 2 (.ldc i)) (hk : Cond.constant M.1.cls i v ∈ xTB) (K : xS M n0 mc ms Q X pc2 L (.int v :: st) n G k c) : xS M n0 mc ms Q X pc L (st) n G k c := by
  intro p l e s m args below meth cd D A ad0 ad H locs ls C hH hS hX hl hc
  obtain ⟨d, rfl⟩ := d
  exact lv_ldc C.1.1 C.1.2.1 C.2.1.1 (C.2.1.2.1 _ hk) d (K p l e s m args below meth cd D A ad0 ad H locs ls C hH hS hX hl ⟨hc.1, xSc_cons trivial hc.2⟩)
theorem xs_ldcw {i : Nat} {v : Int32} (d : xD M pc pc2 3 (.ldc_w i)) (hk : Cond.constant M.1.cls i v ∈ xTB) (K : xS M n0 mc ms Q X pc2 L (.int v :: st) n G k c) : xS M n0 mc ms Q X pc L (st) n G k c := by
  intro p l e s m args below meth cd D A ad0 ad H locs ls C hH hS hX hl hc
  obtain ⟨d, rfl⟩ := d
  exact lv_ldcw C.1.1 C.1.2.1 C.2.1.1 (C.2.1.2.1 _ hk) d (K p l e s m args below meth cd D A ad0 ad H locs ls C hH hS hX hl ⟨hc.1, xSc_cons trivial hc.2⟩)
theorem xs_ldc2 {i : Nat} {v : Int64} (d : xD M pc pc2 3 (.ldc2_w i)) (hk : Cond.constantLong M.1.cls i v ∈ xTB) (K : xS M n0 mc ms Q X pc2 L (.long v :: st) n G k c) : xS M n0 mc ms Q X pc L (st) n G k c := by
  intro p l e s m args below meth cd D A ad0 ad H locs ls C hH hS hX hl hc
  obtain ⟨d, rfl⟩ := d
  exact lv_ldc2 C.1.1 C.1.2.1 C.2.1.1 (C.2.1.2.1 _ hk) d (K p l e s m args below meth cd D A ad0 ad H locs ls C hH hS hX hl ⟨hc.1, xSc_cons trivial hc.2⟩)
theorem xs_iload_n {i : Fin 4} {x : Int32} (d : xD M pc pc2 1 (.iload_n i)) (h : xlk L i.val = some (.int x)) (K : xS M n0 mc ms Q X pc2 L (.int x :: st) n G k c) : xS M n0 mc ms Q X pc L (st) n G k c := by
  intro p l e s m args below meth cd D A ad0 ad H locs ls C hH hS hX hl hc
  obtain ⟨d, rfl⟩ := d
  exact lv_iload_n C.1.1 C.1.2.1 d rfl (xlk_ls hl h) (K p l e s m args below meth cd D A ad0 ad H locs ls C hH hS hX hl ⟨hc.1, xSc_cons trivial hc.2⟩)
theorem xs_iload {i : Nat} {x : Int32} (d : xD M pc pc2 2 (.iload i)) (h : xlk L i = some (.int x)) (K : xS M n0 mc ms Q X pc2 L (.int x :: st) n G k c) : xS M n0 mc ms Q X pc L (st) n G k c := by
  intro p l e s m args below meth cd D A ad0 ad H locs ls C hH hS hX hl hc
  obtain ⟨d, rfl⟩ := d
  exact lv_iload C.1.1 C.1.2.1 d (xlk_ls hl h) (K p l e s m args below meth cd D A ad0 ad H locs ls C hH hS hX hl ⟨hc.1, xSc_cons trivial hc.2⟩)
theorem xs_lload_n {i : Fin 4} {x : Int64} (d : xD M pc pc2 1 (.lload_n i)) (h : xlk L i.val = some (.long x)) (K : xS M n0 mc ms Q X pc2 L (.long x :: st) n G k c) : xS M n0 mc ms Q X pc L (st) n G k c := by
  intro p l e s m args below meth cd D A ad0 ad H locs ls C hH hS hX hl hc
  obtain ⟨d, rfl⟩ := d
  exact lv_lload_n C.1.1 C.1.2.1 d rfl (xlk_ls hl h) (K p l e s m args below meth cd D A ad0 ad H locs ls C hH hS hX hl ⟨hc.1, xSc_cons trivial hc.2⟩)
theorem xs_lload {i : Nat} {x : Int64} (d : xD M pc pc2 2 (.lload i)) (h : xlk L i = some (.long x)) (K : xS M n0 mc ms Q X pc2 L (.long x :: st) n G k c) : xS M n0 mc ms Q X pc L (st) n G k c := by
  intro p l e s m args below meth cd D A ad0 ad H locs ls C hH hS hX hl hc
  obtain ⟨d, rfl⟩ := d
  exact lv_lload C.1.1 C.1.2.1 d (xlk_ls hl h) (K p l e s m args below meth cd D A ad0 ad H locs ls C hH hS hX hl ⟨hc.1, xSc_cons trivial hc.2⟩)
theorem xs_aload_n {i : Fin 4} {x : Nat} (d : xD M pc pc2 1 (.aload_n i)) (h : xlk L i.val = some (.ref x)) (K : xS M n0 mc ms Q X pc2 L (.ref x :: st) n G k c) : xS M n0 mc ms Q X pc L (st) n G k c := by
  intro p l e s m args below meth cd D A ad0 ad H locs ls C hH hS hX hl hc
  obtain ⟨d, rfl⟩ := d
  exact lv_aload_n C.1.1 C.1.2.1 d rfl (xlk_ls hl h) (K p l e s m args below meth cd D A ad0 ad H locs ls C hH hS hX hl ⟨hc.1, xSc_cons (hc.1 _ (xlk_mem h)) hc.2⟩)
theorem xs_aload {i : Nat} {x : Nat} (d : xD M pc pc2 2 (.aload i)) (h : xlk L i = some (.ref x)) (K : xS M n0 mc ms Q X pc2 L (.ref x :: st) n G k c) : xS M n0 mc ms Q X pc L (st) n G k c := by
  intro p l e s m args below meth cd D A ad0 ad H locs ls C hH hS hX hl hc
  obtain ⟨d, rfl⟩ := d
  exact lv_aload C.1.1 C.1.2.1 d (xlk_ls hl h) (K p l e s m args below meth cd D A ad0 ad H locs ls C hH hS hX hl ⟨hc.1, xSc_cons (hc.1 _ (xlk_mem h)) hc.2⟩)
theorem xs_istore_n {i : Fin 4} {x : Int32} (d : xD M pc pc2 1 (.istore_n i)) (hn : i.val < M.2.2.1) {L2 : List (Nat × Value)} (hL : xst1 L i.val (.int x) = L2) (K : xS M n0 mc ms Q X pc2 L2 (st) n G k c) : xS M n0 mc ms Q X pc L (.int x :: st) n G k c := by
  intro p l e s m args below meth cd D A ad0 ad H locs ls C hH hS hX hl hc
  obtain ⟨d, rfl⟩ := d
  subst hL
  exact lv_istore_n C.1.1 C.1.2.1 d rfl hl hn (xst1_map ad i.val (.int x)) (fun ls2 hl2 => K p l e s m args below meth cd D A ad0 ad H locs ls2 C hH hS hX hl2 ⟨xst1_c trivial hc.1, xSc_tail hc.2⟩)
theorem xs_istore {i : Nat} {x : Int32} (d : xD M pc pc2 2 (.istore i)) (hn : i < M.2.2.1) {L2 : List (Nat × Value)} (hL : xst1 L i (.int x) = L2) (K : xS M n0 mc ms Q X pc2 L2 (st) n G k c) : xS M n0 mc ms Q X pc L (.int x :: st) n G k c := by
  intro p l e s m args below meth cd D A ad0 ad H locs ls C hH hS hX hl hc
  obtain ⟨d, rfl⟩ := d
  subst hL
  exact lv_istore C.1.1 C.1.2.1 d hl hn (xst1_map ad i (.int x)) (fun ls2 hl2 => K p l e s m args below meth cd D A ad0 ad H locs ls2 C hH hS hX hl2 ⟨xst1_c trivial hc.1, xSc_tail hc.2⟩)
theorem xs_lstore_n {i : Fin 4} {x : Int64} (d : xD M pc pc2 1 (.lstore_n i)) (hn : i.val + 1 < M.2.2.1) {L2 : List (Nat × Value)} (hL : xst2 L i.val (.long x) = L2) (K : xS M n0 mc ms Q X pc2 L2 (st) n G k c) : xS M n0 mc ms Q X pc L (.long x :: st) n G k c := by
  intro p l e s m args below meth cd D A ad0 ad H locs ls C hH hS hX hl hc
  obtain ⟨d, rfl⟩ := d
  subst hL
  exact lv_lstore_n C.1.1 C.1.2.1 d rfl hl hn (xst2_map ad i.val (.long x)) (fun ls2 hl2 => K p l e s m args below meth cd D A ad0 ad H locs ls2 C hH hS hX hl2 ⟨xst2_c trivial hc.1, xSc_tail hc.2⟩)
theorem xs_lstore {i : Nat} {x : Int64} (d : xD M pc pc2 2 (.lstore i)) (hn : i + 1 < M.2.2.1) {L2 : List (Nat × Value)} (hL : xst2 L i (.long x) = L2) (K : xS M n0 mc ms Q X pc2 L2 (st) n G k c) : xS M n0 mc ms Q X pc L (.long x :: st) n G k c := by
  intro p l e s m args below meth cd D A ad0 ad H locs ls C hH hS hX hl hc
  obtain ⟨d, rfl⟩ := d
  subst hL
  exact lv_lstore C.1.1 C.1.2.1 d hl hn (xst2_map ad i (.long x)) (fun ls2 hl2 => K p l e s m args below meth cd D A ad0 ad H locs ls2 C hH hS hX hl2 ⟨xst2_c trivial hc.1, xSc_tail hc.2⟩)
theorem xs_astore_n {i : Fin 4} {x : Nat} (d : xD M pc pc2 1 (.astore_n i)) (hn : i.val < M.2.2.1) {L2 : List (Nat × Value)} (hL : xst1 L i.val (.ref x) = L2) (K : xS M n0 mc ms Q X pc2 L2 (st) n G k c) : xS M n0 mc ms Q X pc L (.ref x :: st) n G k c := by
  intro p l e s m args below meth cd D A ad0 ad H locs ls C hH hS hX hl hc
  obtain ⟨d, rfl⟩ := d
  subst hL
  exact lv_astore_n C.1.1 C.1.2.1 d rfl hl hn (xst1_map ad i.val (.ref x)) (fun ls2 hl2 => K p l e s m args below meth cd D A ad0 ad H locs ls2 C hH hS hX hl2 ⟨xst1_c (xSc_head hc.2) hc.1, xSc_tail hc.2⟩)
theorem xs_astore {i : Nat} {x : Nat} (d : xD M pc pc2 2 (.astore i)) (hn : i < M.2.2.1) {L2 : List (Nat × Value)} (hL : xst1 L i (.ref x) = L2) (K : xS M n0 mc ms Q X pc2 L2 (st) n G k c) : xS M n0 mc ms Q X pc L (.ref x :: st) n G k c := by
  intro p l e s m args below meth cd D A ad0 ad H locs ls C hH hS hX hl hc
  obtain ⟨d, rfl⟩ := d
  subst hL
  exact lv_astore C.1.1 C.1.2.1 d hl hn (xst1_map ad i (.ref x)) (fun ls2 hl2 => K p l e s m args below meth cd D A ad0 ad H locs ls2 C hH hS hX hl2 ⟨xst1_c (xSc_head hc.2) hc.1, xSc_tail hc.2⟩)
theorem xs_iinc {i : Nat} {j : Int} {x v : Int32} (d : xD M pc pc2 3 (.iinc i j)) (h : xlk L i = some (.int x)) (hv : x + Int32.ofInt j = v) (hn : i < M.2.2.1) {L2 : List (Nat × Value)} (hL : xst1 L i (.int v) = L2) (K : xS M n0 mc ms Q X pc2 L2 (st) n G k c) : xS M n0 mc ms Q X pc L (st) n G k c := by
  intro p l e s m args below meth cd D A ad0 ad H locs ls C hH hS hX hl hc
  obtain ⟨d, rfl⟩ := d
  subst hL
  obtain ⟨kk, hkk⟩ := List.getElem?_of_mem (List.mem_map.mpr ⟨(i, Value.int x), xlk_mem h, rfl⟩ : (i, Value.int x) ∈ xL ad L)
  exact lv_iinc (k := kk) C.1.1 C.1.2.1 d hl hkk hv hn (xst1_map ad i (.int v)) (fun ls2 hl2 => K p l e s m args below meth cd D A ad0 ad H locs ls2 C hH hS hX hl2 ⟨xst1_c trivial hc.1, hc.2⟩)
theorem xs_dup {v : Value} (d : xD M pc pc2 1 .dup) (hv : v.category = 1) (K : xS M n0 mc ms Q X pc2 L (v :: v :: st) n G k c) : xS M n0 mc ms Q X pc L (v :: st) n G k c := by
  intro p l e s m args below meth cd D A ad0 ad H locs ls C hH hS hX hl hc
  obtain ⟨d, rfl⟩ := d
  exact lv_dup C.1.1 C.1.2.1 d ((xV_cat ad v).trans hv) (K p l e s m args below meth cd D A ad0 ad H locs ls C hH hS hX hl ⟨hc.1, xSc_cons (xSc_head hc.2) hc.2⟩)
theorem xs_dup2 {v w : Value} (d : xD M pc pc2 1 .dup2) (hv : v.category = 1) (hw : w.category = 1) (K : xS M n0 mc ms Q X pc2 L (v :: w :: v :: w :: st) n G k c) : xS M n0 mc ms Q X pc L (v :: w :: st) n G k c := by
  intro p l e s m args below meth cd D A ad0 ad H locs ls C hH hS hX hl hc
  obtain ⟨d, rfl⟩ := d
  exact lv_dup2_11 C.1.1 C.1.2.1 d ((xV_cat ad v).trans hv) ((xV_cat ad w).trans hw) (K p l e s m args below meth cd D A ad0 ad H locs ls C hH hS hX hl ⟨hc.1, xSc_cons (xSc_head hc.2) (xSc_cons (xSc_head (xSc_tail hc.2)) hc.2)⟩)
theorem xs_pop {v : Value} (d : xD M pc pc2 1 .pop) (hv : v.category = 1) (K : xS M n0 mc ms Q X pc2 L (st) n G k c) : xS M n0 mc ms Q X pc L (v :: st) n G k c := by
  intro p l e s m args below meth cd D A ad0 ad H locs ls C hH hS hX hl hc
  obtain ⟨d, rfl⟩ := d
  exact lv_pop C.1.1 C.1.2.1 d ((xV_cat ad v).trans hv) (K p l e s m args below meth cd D A ad0 ad H locs ls C hH hS hX hl ⟨hc.1, xSc_tail hc.2⟩)
theorem xs_if_eq {x : Int32} (d : xDJ M pc pc2 tgt (.ifCond .eq)) (kt : x = 0 → xS M n0 mc ms Q X tgt L st n G k c) (kf : ¬ x = 0 → xS M n0 mc ms Q X pc2 L st n G k c) : xS M n0 mc ms Q X pc L (.int x :: st) n G k c := by
  intro p l e s m args below meth cd D A ad0 ad H locs ls C hH hS hX hl hc
  obtain ⟨off, d, rfl, ht⟩ := d
  exact lv_if_eq C.1.1 C.1.2.1 d ht (fun h => kt h p l e s m args below meth cd D A ad0 ad H locs ls C hH hS hX hl ⟨hc.1, (xSc_tail hc.2)⟩) (fun h => kf h p l e s m args below meth cd D A ad0 ad H locs ls C hH hS hX hl ⟨hc.1, (xSc_tail hc.2)⟩)
theorem xs_icmp_eq {x y : Int32} (d : xDJ M pc pc2 tgt (.if_icmp .eq)) (kt : x = y → xS M n0 mc ms Q X tgt L st n G k c) (kf : ¬ x = y → xS M n0 mc ms Q X pc2 L st n G k c) : xS M n0 mc ms Q X pc L (.int y :: .int x :: st) n G k c := by
  intro p l e s m args below meth cd D A ad0 ad H locs ls C hH hS hX hl hc
  obtain ⟨off, d, rfl, ht⟩ := d
  exact lv_icmp_eq C.1.1 C.1.2.1 d ht (fun h => kt h p l e s m args below meth cd D A ad0 ad H locs ls C hH hS hX hl ⟨hc.1, (xSc_tail (xSc_tail hc.2))⟩) (fun h => kf h p l e s m args below meth cd D A ad0 ad H locs ls C hH hS hX hl ⟨hc.1, (xSc_tail (xSc_tail hc.2))⟩)
theorem xs_if_ne {x : Int32} (d : xDJ M pc pc2 tgt (.ifCond .ne)) (kt : ¬ x = 0 → xS M n0 mc ms Q X tgt L st n G k c) (kf : x = 0 → xS M n0 mc ms Q X pc2 L st n G k c) : xS M n0 mc ms Q X pc L (.int x :: st) n G k c := by
  intro p l e s m args below meth cd D A ad0 ad H locs ls C hH hS hX hl hc
  obtain ⟨off, d, rfl, ht⟩ := d
  exact lv_if_ne C.1.1 C.1.2.1 d ht (fun h => kt h p l e s m args below meth cd D A ad0 ad H locs ls C hH hS hX hl ⟨hc.1, (xSc_tail hc.2)⟩) (fun h => kf h p l e s m args below meth cd D A ad0 ad H locs ls C hH hS hX hl ⟨hc.1, (xSc_tail hc.2)⟩)
theorem xs_icmp_ne {x y : Int32} (d : xDJ M pc pc2 tgt (.if_icmp .ne)) (kt : ¬ x = y → xS M n0 mc ms Q X tgt L st n G k c) (kf : x = y → xS M n0 mc ms Q X pc2 L st n G k c) : xS M n0 mc ms Q X pc L (.int y :: .int x :: st) n G k c := by
  intro p l e s m args below meth cd D A ad0 ad H locs ls C hH hS hX hl hc
  obtain ⟨off, d, rfl, ht⟩ := d
  exact lv_icmp_ne C.1.1 C.1.2.1 d ht (fun h => kt h p l e s m args below meth cd D A ad0 ad H locs ls C hH hS hX hl ⟨hc.1, (xSc_tail (xSc_tail hc.2))⟩) (fun h => kf h p l e s m args below meth cd D A ad0 ad H locs ls C hH hS hX hl ⟨hc.1, (xSc_tail (xSc_tail hc.2))⟩)
theorem xs_if_lt {x : Int32} (d : xDJ M pc pc2 tgt (.ifCond .lt)) (kt : x < 0 → xS M n0 mc ms Q X tgt L st n G k c) (kf : ¬ x < 0 → xS M n0 mc ms Q X pc2 L st n G k c) : xS M n0 mc ms Q X pc L (.int x :: st) n G k c := by
  intro p l e s m args below meth cd D A ad0 ad H locs ls C hH hS hX hl hc
  obtain ⟨off, d, rfl, ht⟩ := d
  exact lv_if_lt C.1.1 C.1.2.1 d ht (fun h => kt h p l e s m args below meth cd D A ad0 ad H locs ls C hH hS hX hl ⟨hc.1, (xSc_tail hc.2)⟩) (fun h => kf h p l e s m args below meth cd D A ad0 ad H locs ls C hH hS hX hl ⟨hc.1, (xSc_tail hc.2)⟩)
theorem xs_icmp_lt {x y : Int32} (d : xDJ M pc pc2 tgt (.if_icmp .lt)) (kt : x < y → xS M n0 mc ms Q X tgt L st n G k c) (kf : ¬ x < y → xS M n0 mc ms Q X pc2 L st n G k c) : xS M n0 mc ms Q X pc L (.int y :: .int x :: st) n G k c := by
  intro p l e s m args below meth cd D A ad0 ad H locs ls C hH hS hX hl hc
  obtain ⟨off, d, rfl, ht⟩ := d
  exact lv_icmp_lt C.1.1 C.1.2.1 d ht (fun h => kt h p l e s m args below meth cd D A ad0 ad H locs ls C hH hS hX hl ⟨hc.1, (xSc_tail (xSc_tail hc.2))⟩) (fun h => kf h p l e s m args below meth cd D A ad0 ad H locs ls C hH hS hX hl ⟨hc.1, (xSc_tail (xSc_tail hc.2))⟩)
theorem xs_if_ge {x : Int32} (d : xDJ M pc pc2 tgt (.ifCond .ge)) (kt : 0 ≤ x → xS M n0 mc ms Q X tgt L st n G k c) (kf : ¬ 0 ≤ x → xS M n0 mc ms Q X pc2 L st n G k c) : xS M n0 mc ms Q X pc L (.int x :: st) n G k c := by
  intro p l e s m args below meth cd D A ad0 ad H locs ls C hH hS hX hl hc
  obtain ⟨off, d, rfl, ht⟩ := d
  exact lv_if_ge C.1.1 C.1.2.1 d ht (fun h => kt h p l e s m args below meth cd D A ad0 ad H locs ls C hH hS hX hl ⟨hc.1, (xSc_tail hc.2)⟩) (fun h => kf h p l e s m args below meth cd D A ad0 ad H locs ls C hH hS hX hl ⟨hc.1, (xSc_tail hc.2)⟩)
theorem xs_icmp_ge {x y : Int32} (d : xDJ M pc pc2 tgt (.if_icmp .ge)) (kt : y ≤ x → xS M n0 mc ms Q X tgt L st n G k c) (kf : ¬ y ≤ x → xS M n0 mc ms Q X pc2 L st n G k c) : xS M n0 mc ms Q X pc L (.int y :: .int x :: st) n G k c := by
  intro p l e s m args below meth cd D A ad0 ad H locs ls C hH hS hX hl hc
  obtain ⟨off, d, rfl, ht⟩ := d
  exact lv_icmp_ge C.1.1 C.1.2.1 d ht (fun h => kt h p l e s m args below meth cd D A ad0 ad H locs ls C hH hS hX hl ⟨hc.1, (xSc_tail (xSc_tail hc.2))⟩) (fun h => kf h p l e s m args below meth cd D A ad0 ad H locs ls C hH hS hX hl ⟨hc.1, (xSc_tail (xSc_tail hc.2))⟩)
theorem xs_if_gt {x : Int32} (d : xDJ M pc pc2 tgt (.ifCond .gt)) (kt : 0 < x → xS M n0 mc ms Q X tgt L st n G k c) (kf : ¬ 0 < x → xS M n0 mc ms Q X pc2 L st n G k c) : xS M n0 mc ms Q X pc L (.int x :: st) n G k c := by
  intro p l e s m args below meth cd D A ad0 ad H locs ls C hH hS hX hl hc
  obtain ⟨off, d, rfl, ht⟩ := d
  exact lv_if_gt C.1.1 C.1.2.1 d ht (fun h => kt h p l e s m args below meth cd D A ad0 ad H locs ls C hH hS hX hl ⟨hc.1, (xSc_tail hc.2)⟩) (fun h => kf h p l e s m args below meth cd D A ad0 ad H locs ls C hH hS hX hl ⟨hc.1, (xSc_tail hc.2)⟩)
theorem xs_icmp_gt {x y : Int32} (d : xDJ M pc pc2 tgt (.if_icmp .gt)) (kt : y < x → xS M n0 mc ms Q X tgt L st n G k c) (kf : ¬ y < x → xS M n0 mc ms Q X pc2 L st n G k c) : xS M n0 mc ms Q X pc L (.int y :: .int x :: st) n G k c := by
  intro p l e s m args below meth cd D A ad0 ad H locs ls C hH hS hX hl hc
  obtain ⟨off, d, rfl, ht⟩ := d
  exact lv_icmp_gt C.1.1 C.1.2.1 d ht (fun h => kt h p l e s m args below meth cd D A ad0 ad H locs ls C hH hS hX hl ⟨hc.1, (xSc_tail (xSc_tail hc.2))⟩) (fun h => kf h p l e s m args below meth cd D A ad0 ad H locs ls C hH hS hX hl ⟨hc.1, (xSc_tail (xSc_tail hc.2))⟩)
theorem xs_if_le {x : Int32} (d : xDJ M pc pc2 tgt (.ifCond .le)) (kt : x ≤ 0 → xS M n0 mc ms Q X tgt L st n G k c) (kf : ¬ x ≤ 0 → xS M n0 mc ms Q X pc2 L st n G k c) : xS M n0 mc ms Q X pc L (.int x :: st) n G k c := by
  intro p l e s m args below meth cd D A ad0 ad H locs ls C hH hS hX hl hc
  obtain ⟨off, d, rfl, ht⟩ := d
  exact lv_if_le C.1.1 C.1.2.1 d ht (fun h => kt h p l e s m args below meth cd D A ad0 ad H locs ls C hH hS hX hl ⟨hc.1, (xSc_tail hc.2)⟩) (fun h => kf h p l e s m args below meth cd D A ad0 ad H locs ls C hH hS hX hl ⟨hc.1, (xSc_tail hc.2)⟩)
theorem xs_icmp_le {x y : Int32} (d : xDJ M pc pc2 tgt (.if_icmp .le)) (kt : x ≤ y → xS M n0 mc ms Q X tgt L st n G k c) (kf : ¬ x ≤ y → xS M n0 mc ms Q X pc2 L st n G k c) : xS M n0 mc ms Q X pc L (.int y :: .int x :: st) n G k c := by
  intro p l e s m args below meth cd D A ad0 ad H locs ls C hH hS hX hl hc
  obtain ⟨off, d, rfl, ht⟩ := d
  exact lv_icmp_le C.1.1 C.1.2.1 d ht (fun h => kt h p l e s m args below meth cd D A ad0 ad H locs ls C hH hS hX hl ⟨hc.1, (xSc_tail (xSc_tail hc.2))⟩) (fun h => kf h p l e s m args below meth cd D A ad0 ad H locs ls C hH hS hX hl ⟨hc.1, (xSc_tail (xSc_tail hc.2))⟩)
theorem xs_goto (d : xDJ M pc pc2 tgt .goto) (K : xS M n0 mc ms Q X tgt L st n G k c) : xS M n0 mc ms Q X pc L st n G k c := by
  intro p l e s m args below meth cd D A ad0 ad H locs ls C hH hS hX hl hc
  obtain ⟨off, d, rfl, ht⟩ := d
  exact lv_goto C.1.1 C.1.2.1 d ht (K p l e s m args below meth cd D A ad0 ad H locs ls C hH hS hX hl hc)
theorem xs_lc_eq {x y : Int64} {pc1 : Nat} (d0 : xD M pc pc1 1 .lcmp) (d : xDJ M pc1 pc2 tgt (.ifCond .eq)) (kt : x = y → xS M n0 mc ms Q X tgt L st n G k c) (kf : ¬ x = y → xS M n0 mc ms Q X pc2 L st n G k c) : xS M n0 mc ms Q X pc L (.long y :: .long x :: st) n G k c :=
  xs_lcmp d0 (xs_if_eq d (fun h => kt ((lg_cmp_eq x y).mp h)) (fun h => kf (fun e => h ((lg_cmp_eq x y).mpr e))))
theorem xs_lc_ne {x y : Int64} {pc1 : Nat} (d0 : xD M pc pc1 1 .lcmp) (d : xDJ M pc1 pc2 tgt (.ifCond .ne)) (kt : ¬ x = y → xS M n0 mc ms Q X tgt L st n G k c) (kf : x = y → xS M n0 mc ms Q X pc2 L st n G k c) : xS M n0 mc ms Q X pc L (.long y :: .long x :: st) n G k c :=
  xs_lcmp d0 (xs_if_ne d (fun h => kt (fun e => h ((lg_cmp_eq x y).mpr e))) (fun h => kf ((lg_cmp_eq x y).mp h)))
theorem xs_lc_lt {x y : Int64} {pc1 : Nat} (d0 : xD M pc pc1 1 .lcmp) (d : xDJ M pc1 pc2 tgt (.ifCond .lt)) (kt : x < y → xS M n0 mc ms Q X tgt L st n G k c) (kf : ¬ x < y → xS M n0 mc ms Q X pc2 L st n G k c) : xS M n0 mc ms Q X pc L (.long y :: .long x :: st) n G k c :=
  xs_lcmp d0 (xs_if_lt d (fun h => kt ((lg_cmp_lt x y).mp h)) (fun h => kf (fun e => h ((lg_cmp_lt x y).mpr e))))
theorem xs_lc_ge {x y : Int64} {pc1 : Nat} (d0 : xD M pc pc1 1 .lcmp) (d : xDJ M pc1 pc2 tgt (.ifCond .ge)) (kt : y ≤ x → xS M n0 mc ms Q X tgt L st n G k c) (kf : ¬ y ≤ x → xS M n0 mc ms Q X pc2 L st n G k c) : xS M n0 mc ms Q X pc L (.long y :: .long x :: st) n G k c :=
  xs_lcmp d0 (xs_if_ge d (fun h => kt ((lg_cmp_ge x y).mp h)) (fun h => kf (fun e => h ((lg_cmp_ge x y).mpr e))))
theorem xs_lc_gt {x y : Int64} {pc1 : Nat} (d0 : xD M pc pc1 1 .lcmp) (d : xDJ M pc1 pc2 tgt (.ifCond .gt)) (kt : y < x → xS M n0 mc ms Q X tgt L st n G k c) (kf : ¬ y < x → xS M n0 mc ms Q X pc2 L st n G k c) : xS M n0 mc ms Q X pc L (.long y :: .long x :: st) n G k c :=
  xs_lcmp d0 (xs_if_gt d (fun h => kt ((lg_cmp_gt x y).mp h)) (fun h => kf (fun e => h ((lg_cmp_gt x y).mpr e))))
theorem xs_lc_le {x y : Int64} {pc1 : Nat} (d0 : xD M pc pc1 1 .lcmp) (d : xDJ M pc1 pc2 tgt (.ifCond .le)) (kt : x ≤ y → xS M n0 mc ms Q X tgt L st n G k c) (kf : ¬ x ≤ y → xS M n0 mc ms Q X pc2 L st n G k c) : xS M n0 mc ms Q X pc L (.long y :: .long x :: st) n G k c :=
  xs_lcmp d0 (xs_if_le d (fun h => kt ((lg_cmp_le x y).mp h)) (fun h => kf (fun e => h ((lg_cmp_le x y).mpr e))))
theorem xs_tsIn {dflt lo hi off : Int} {offs : Array Int} {len : Nat} {x : Int32} (d : xD M pc pc2 len (.tableswitch dflt lo hi offs)) (h1 : ¬ x.toInt < lo) (h2 : ¬ hi < x.toInt) (ho : offs[(x.toInt - lo).toNat]? = some off) (ht : (pc : Int) + off = (tgt : Int)) (K : xS M n0 mc ms Q X tgt L st n G k c) : xS M n0 mc ms Q X pc L (.int x :: st) n G k c := by
  intro p l e s m args below meth cd D A ad0 ad H locs ls C hH hS hX hl hc
  obtain ⟨d, -⟩ := d
  exact lv_tableIn C.1.1 C.1.2.1 d h1 h2 ho ht (K p l e s m args below meth cd D A ad0 ad H locs ls C hH hS hX hl ⟨hc.1, xSc_tail hc.2⟩)
theorem xs_tsOut {dflt lo hi : Int} {offs : Array Int} {len : Nat} {x : Int32} (d : xD M pc pc2 len (.tableswitch dflt lo hi offs)) (h : x.toInt < lo ∨ hi < x.toInt) (ht : (pc : Int) + dflt = (tgt : Int)) (K : xS M n0 mc ms Q X tgt L st n G k c) : xS M n0 mc ms Q X pc L (.int x :: st) n G k c := by
  intro p l e s m args below meth cd D A ad0 ad H locs ls C hH hS hX hl hc
  obtain ⟨d, -⟩ := d
  exact lv_tableOut C.1.1 C.1.2.1 d h ht (K p l e s m args below meth cd D A ad0 ad H locs ls C hH hS hX hl ⟨hc.1, xSc_tail hc.2⟩)
theorem xs_get {idx ci j a : Nat} {fs : List Value} {v : Value} (d : xD M pc pc2 3 (.getfield idx)) (f : xlF M.1.cls idx ci j) (hG : G a = .inr (ci, fs)) (hv : fs[j]? = some v) (K : xS M n0 mc ms Q X pc2 L (v :: st) n G k c) : xS M n0 mc ms Q X pc L (.ref a :: st) n G k c := by
  intro p l e s m args below meth cd D A ad0 ad H locs ls C hH hS hX hl hc
  obtain ⟨d, rfl⟩ := d
  obtain ⟨CC, T, N, ty0, ⟨hcl, hj, hT1⟩, hin, hln, hty, hnm⟩ := f
  have ha : a < n := xSc_head hc.2
  have hvc : xVc n v := by
    have h1 := hH.2.2.1 a ha
    rw [hG] at h1
    exact h1 v (List.mem_of_getElem? hv)
  have hw := xW_get (ad := ad) (G := G) ha
  rw [hG] at hw
  exact va_get (D := D) (ws := xW n ad G) (ci := ci) (v := xV ad v) (C := CC) (T := T) (N := N) C.1.1 C.1.2.1 C.2.1.2.1 hin C.2.1.1 C.2.2.1.2.2.1.1 hH.1 a hw hcl j hj (C.2.1.2.1 _ hln) (fun x9 h9 => by rw [hT1] at h9; exact h9) (by rw [List.getElem?_map, hv]; rfl) d (K p l e s m args below meth cd D A ad0 ad H locs ls C hH hS hX hl ⟨hc.1, xSc_cons hvc (xSc_tail hc.2)⟩)
theorem xs_put {idx ci j a : Nat} {fs : List Value} {v : Value} {ty : FieldType} {CC : String} (d : xD M pc pc2 3 (.putfield idx)) (f : xlF M.1.cls idx ci j) (f2 : xlT ci j ty false CC) (hG : G a = .inr (ci, fs)) (hn : ∀ ad : Nat → Nat × Nat, narrow ty (xV ad v) = xV ad v) (hf : ∀ ad : Nat → Nat × Nat, fits ty (xV ad v) = true) (hl : j < fs.length) (K : xS M n0 mc ms Q X pc2 L st n (va_up G a (.inr (ci, fs.set j v))) k c) : xS M n0 mc ms Q X pc L (v :: .ref a :: st) n G k c := by
  intro p l e s m args below meth cd D A ad0 ad H locs ls C hH hS hX hls hc
  obtain ⟨d, rfl⟩ := d
  obtain ⟨CC1, T, N, ty0, ⟨hcl, hj, hT1⟩, hin, hln, hty, hnm⟩ := f
  obtain ⟨T2, N2, hcl2, hpd, hfin⟩ := f2
  cases hcl.symm.trans hcl2
  have ha : a < n := xSc_head (xSc_tail hc.2)
  have hw := xW_get (ad := ad) (G := G) ha
  rw [hG] at hw
  refine va_put (D := D) (ws := xW n ad G) (ci := ci) (v := xV ad v) (ty := ty) (C := CC) (T := T) (N := N) C.1.1 C.1.2.1 C.2.1.2.1 hin ty0 hty hnm C.2.1.1 C.2.2.1.2.2.1.1 hH.1 hH.2.1 hS a hw hcl j hj (C.2.1.2.1 _ hln) (fun x9 h9 => by rw [hT1] at h9; exact h9) hfin hpd (hn ad) (hf ad) (by rw [List.length_map]; exact hl) d (fun H1 locs1 hP1 hD1 hS1 => ?_)
  have he : (xW n ad G).set a ((ad a).1, .inr (ci, (fs.map (xV ad)).set j (xV ad v))) = xW n ad (va_up G a (.inr (ci, fs.set j v))) := by
    rw [← List.map_set]
    exact xW_set (e := .inr (ci, fs.set j v)) ha
  rw [he] at hP1 hD1
  refine K p l e s m args below meth cd D A ad0 ad H1 locs1 ls C ⟨hP1, hD1, fun q hq => ?_, fun q t x hq hg => ?_⟩ hS1 hX hls ⟨hc.1, xSc_tail (xSc_tail hc.2)⟩
  · by_cases hqa : q = a
    · subst hqa
      rw [va_up_self]
      have h1 := hH.2.2.1 q ha
      rw [hG] at h1
      intro w hw2
      rcases List.mem_or_eq_of_mem_set hw2 with h2 | rfl
      · exact h1 w h2
      · exact xSc_head hc.2
    · rw [va_up_ne _ _ hqa]
      exact hH.2.2.1 q hq
  · by_cases hqa : q = a
    · subst hqa
      rw [va_up_self] at hg
      cases hg
    · rw [va_up_ne _ _ hqa] at hg
      exact hH.2.2.2 q t x hq hg
theorem xs_putF {idx ci j a : Nat} {fs : List Value} {v : Value} {ty : FieldType} {CC : String} (d : xD M pc pc2 3 (.putfield idx)) (f : xlF M.1.cls idx ci j) (f2 : xlT ci j ty true CC) (hin2 : M.1.name = "<init>") (hCC : CC = M.1.cls) (hG : G a = .inr (ci, fs)) (hn : ∀ ad : Nat → Nat × Nat, narrow ty (xV ad v) = xV ad v) (hf : ∀ ad : Nat → Nat × Nat, fits ty (xV ad v) = true) (hl : j < fs.length) (K : xS M n0 mc ms Q X pc2 L st n (va_up G a (.inr (ci, fs.set j v))) k c) : xS M n0 mc ms Q X pc L (v :: .ref a :: st) n G k c := by
  intro p l e s m args below meth cd D A ad0 ad H locs ls C hH hS hX hls hc
  obtain ⟨d, rfl⟩ := d
  obtain ⟨CC1, T, N, ty0, ⟨hcl, hj, hT1⟩, hin, hln, hty, hnm⟩ := f
  obtain ⟨T2, N2, hcl2, hpd, hfin⟩ := f2
  cases hcl.symm.trans hcl2
  have ha : a < n := xSc_head (xSc_tail hc.2)
  have hw := xW_get (ad := ad) (G := G) ha
  rw [hG] at hw
  refine va_putF (D := D) (ws := xW n ad G) (ci := ci) (v := xV ad v) (ty := ty) (C := CC) (T := T) (N := N) C.1.1 C.1.2.1 C.2.1.2.1 hin ty0 hty hnm C.2.1.1 C.2.2.1.2.2.1.1 hH.1 hH.2.1 hS a hw hcl j hj (C.2.1.2.1 _ hln) (fun x9 h9 => by rw [hT1] at h9; exact h9) hfin (C.2.1.2.2.2.trans hin2) (hT1.trans hCC) hpd (hn ad) (hf ad) (by rw [List.length_map]; exact hl) d (fun H1 locs1 hP1 hD1 hS1 => ?_)
  have he : (xW n ad G).set a ((ad a).1, .inr (ci, (fs.map (xV ad)).set j (xV ad v))) = xW n ad (va_up G a (.inr (ci, fs.set j v))) := by
    rw [← List.map_set]
    exact xW_set (e := .inr (ci, fs.set j v)) ha
  rw [he] at hP1 hD1
  refine K p l e s m args below meth cd D A ad0 ad H1 locs1 ls C ⟨hP1, hD1, fun q hq => ?_, fun q t x hq hg => ?_⟩ hS1 hX hls ⟨hc.1, xSc_tail (xSc_tail hc.2)⟩
  · by_cases hqa : q = a
    · subst hqa
      rw [va_up_self]
      have h1 := hH.2.2.1 q ha
      rw [hG] at h1
      intro w hw2
      rcases List.mem_or_eq_of_mem_set hw2 with h2 | rfl
      · exact h1 w h2
      · exact xSc_head hc.2
    · rw [va_up_ne _ _ hqa]
      exact hH.2.2.1 q hq
  · by_cases hqa : q = a
    · subst hqa
      rw [va_up_self] at hg
      cases hg
    · rw [va_up_ne _ _ hqa] at hg
      exact hH.2.2.2 q t x hq hg
theorem xs_iald {a N : Nat} {f : Nat → Int32} {i : Int32} (d : xD M pc pc2 1 .iaload) (hG : G a = .inl (0, N, .inl f)) (hin : vp_in i N) (K : xS M n0 mc ms Q X pc2 L (.int (f i.toNatClampNeg) :: st) n G k c) : xS M n0 mc ms Q X pc L (.int i :: .ref a :: st) n G k c := by
  intro p l e s m args below meth cd D A ad0 ad H locs ls C hH hS hX hl hc
  obtain ⟨d, rfl⟩ := d
  have ha : a < n := xSc_head (xSc_tail hc.2)
  have hw := xW_get (ad := ad) (G := G) ha
  rw [hG] at hw
  have hT := hH.2.2.2 a _ _ ha hG
  have hK2 : va_K D vwCl [((ad a).2, xTy 0)] s := ⟨C.2.2.1.2.2.1.1.1, fun j q hq => by
    match j, hq with
    | 0, hq => cases hq; exact hT⟩
  exact va_iald (D := D) (ws := xW n ad G) C.1.1 C.1.2.1 hK2 hH.1 a 0 hw rfl hin d (K p l e s m args below meth cd D A ad0 ad H locs ls C hH hS hX hl ⟨hc.1, xSc_cons trivial (xSc_tail (xSc_tail hc.2))⟩)
theorem xs_zald {a N : Nat} {f : Nat → Int32} {i : Int32} (d : xD M pc pc2 1 .baload) (hG : G a = .inl (2, N, .inl f)) (hin : vp_in i N) (K : xS M n0 mc ms Q X pc2 L (.int (f i.toNatClampNeg) :: st) n G k c) : xS M n0 mc ms Q X pc L (.int i :: .ref a :: st) n G k c := by
  intro p l e s m args below meth cd D A ad0 ad H locs ls C hH hS hX hl hc
  obtain ⟨d, rfl⟩ := d
  have ha : a < n := xSc_head (xSc_tail hc.2)
  have hw := xW_get (ad := ad) (G := G) ha
  rw [hG] at hw
  have hT := hH.2.2.2 a _ _ ha hG
  have hK2 : va_K D vwCl [((ad a).2, xTy 2)] s := ⟨C.2.2.1.2.2.1.1.1, fun j q hq => by
    match j, hq with
    | 0, hq => cases hq; exact hT⟩
  exact va_zald (D := D) (ws := xW n ad G) C.1.1 C.1.2.1 hK2 hH.1 a 0 hw rfl hin d (K p l e s m args below meth cd D A ad0 ad H locs ls C hH hS hX hl ⟨hc.1, xSc_cons trivial (xSc_tail (xSc_tail hc.2))⟩)
theorem xs_lald {a N : Nat} {f : Nat → Int64} {i : Int32} (d : xD M pc pc2 1 .laload) (hG : G a = .inl (1, N, .inr (.inl f))) (hin : vp_in i N) (K : xS M n0 mc ms Q X pc2 L (.long (f i.toNatClampNeg) :: st) n G k c) : xS M n0 mc ms Q X pc L (.int i :: .ref a :: st) n G k c := by
  intro p l e s m args below meth cd D A ad0 ad H locs ls C hH hS hX hl hc
  obtain ⟨d, rfl⟩ := d
  have ha : a < n := xSc_head (xSc_tail hc.2)
  have hw := xW_get (ad := ad) (G := G) ha
  rw [hG] at hw
  have hT := hH.2.2.2 a _ _ ha hG
  have hK2 : va_K D vwCl [((ad a).2, xTy 1)] s := ⟨C.2.2.1.2.2.1.1.1, fun j q hq => by
    match j, hq with
    | 0, hq => cases hq; exact hT⟩
  exact va_lald (D := D) (ws := xW n ad G) C.1.1 C.1.2.1 hK2 hH.1 a 0 hw rfl hin d (K p l e s m args below meth cd D A ad0 ad H locs ls C hH hS hX hl ⟨hc.1, xSc_cons trivial (xSc_tail (xSc_tail hc.2))⟩)
theorem xs_iast {a N : Nat} {f : Nat → Int32} {i : Int32} {x : Int32} (d : xD M pc pc2 1 .iastore) (hG : G a = .inl (0, N, .inl f)) (hin : vp_in i N) (K : xS M n0 mc ms Q X pc2 L st n (va_up G a (.inl (0, N, .inl (upd f i.toNatClampNeg x)))) k c) : xS M n0 mc ms Q X pc L (.int x :: .int i :: .ref a :: st) n G k c := by
  intro p l e s m args below meth cd D A ad0 ad H locs ls C hH hS hX hl hc
  obtain ⟨d, rfl⟩ := d
  have ha : a < n := xSc_head (xSc_tail (xSc_tail hc.2))
  have hw := xW_get (ad := ad) (G := G) ha
  rw [hG] at hw
  have hT := hH.2.2.2 a _ _ ha hG
  have hK2 : va_K D vwCl [((ad a).2, xTy 0)] s := ⟨C.2.2.1.2.2.1.1.1, fun j q hq => by
    match j, hq with
    | 0, hq => cases hq; exact hT⟩
  refine va_iast (D := D) (ws := xW n ad G) C.1.1 C.1.2.1 hK2 hH.1 hH.2.1 hS a 0 hw rfl hin d (fun H1 locs1 hP1 hD1 hS1 => ?_)
  have he := xW_set (n := n) (k := a) (ad := ad) (G := G) (e := .inl (0, N, .inl (upd f i.toNatClampNeg x))) ha
  dsimp only [xA] at he
  rw [he] at hP1 hD1
  refine K p l e s m args below meth cd D A ad0 ad H1 locs1 ls C ⟨hP1, hD1, fun q hq => ?_, fun q t z hq hg => ?_⟩ hS1 hX hl ⟨hc.1, xSc_tail (xSc_tail (xSc_tail hc.2))⟩
  · by_cases hqa : q = a
    · subst hqa
      rw [va_up_self]
      trivial
    · rw [va_up_ne _ _ hqa]
      exact hH.2.2.1 q hq
  · by_cases hqa : q = a
    · subst hqa
      rw [va_up_self] at hg
      cases hg
      exact hT
    · rw [va_up_ne _ _ hqa] at hg
      exact hH.2.2.2 q t z hq hg
theorem xs_zast {a N : Nat} {f : Nat → Int32} {i : Int32} {x : Int32} (d : xD M pc pc2 1 .bastore) (hG : G a = .inl (2, N, .inl f)) (hin : vp_in i N) (K : xS M n0 mc ms Q X pc2 L st n (va_up G a (.inl (2, N, .inl (upd f i.toNatClampNeg (vp_nar .boolean x))))) k c) : xS M n0 mc ms Q X pc L (.int x :: .int i :: .ref a :: st) n G k c := by
  intro p l e s m args below meth cd D A ad0 ad H locs ls C hH hS hX hl hc
  obtain ⟨d, rfl⟩ := d
  have ha : a < n := xSc_head (xSc_tail (xSc_tail hc.2))
  have hw := xW_get (ad := ad) (G := G) ha
  rw [hG] at hw
  have hT := hH.2.2.2 a _ _ ha hG
  have hK2 : va_K D vwCl [((ad a).2, xTy 2)] s := ⟨C.2.2.1.2.2.1.1.1, fun j q hq => by
    match j, hq with
    | 0, hq => cases hq; exact hT⟩
  refine va_zast (D := D) (ws := xW n ad G) C.1.1 C.1.2.1 hK2 hH.1 hH.2.1 hS a 0 hw rfl hin d (fun H1 locs1 hP1 hD1 hS1 => ?_)
  have he := xW_set (n := n) (k := a) (ad := ad) (G := G) (e := .inl (2, N, .inl (upd f i.toNatClampNeg (vp_nar .boolean x)))) ha
  dsimp only [xA] at he
  rw [he] at hP1 hD1
  refine K p l e s m args below meth cd D A ad0 ad H1 locs1 ls C ⟨hP1, hD1, fun q hq => ?_, fun q t z hq hg => ?_⟩ hS1 hX hl ⟨hc.1, xSc_tail (xSc_tail (xSc_tail hc.2))⟩
  · by_cases hqa : q = a
    · subst hqa
      rw [va_up_self]
      trivial
    · rw [va_up_ne _ _ hqa]
      exact hH.2.2.1 q hq
  · by_cases hqa : q = a
    · subst hqa
      rw [va_up_self] at hg
      cases hg
      exact hT
    · rw [va_up_ne _ _ hqa] at hg
      exact hH.2.2.2 q t z hq hg
theorem xs_last {a N : Nat} {f : Nat → Int64} {i : Int32} {x : Int64} (d : xD M pc pc2 1 .lastore) (hG : G a = .inl (1, N, .inr (.inl f))) (hin : vp_in i N) (K : xS M n0 mc ms Q X pc2 L st n (va_up G a (.inl (1, N, .inr (.inl (vp_updL f i.toNatClampNeg x))))) k c) : xS M n0 mc ms Q X pc L (.long x :: .int i :: .ref a :: st) n G k c := by
  intro p l e s m args below meth cd D A ad0 ad H locs ls C hH hS hX hl hc
  obtain ⟨d, rfl⟩ := d
  have ha : a < n := xSc_head (xSc_tail (xSc_tail hc.2))
  have hw := xW_get (ad := ad) (G := G) ha
  rw [hG] at hw
  have hT := hH.2.2.2 a _ _ ha hG
  have hK2 : va_K D vwCl [((ad a).2, xTy 1)] s := ⟨C.2.2.1.2.2.1.1.1, fun j q hq => by
    match j, hq with
    | 0, hq => cases hq; exact hT⟩
  refine va_last (D := D) (ws := xW n ad G) C.1.1 C.1.2.1 hK2 hH.1 hH.2.1 hS a 0 hw rfl hin d (fun H1 locs1 hP1 hD1 hS1 => ?_)
  have he := xW_set (n := n) (k := a) (ad := ad) (G := G) (e := .inl (1, N, .inr (.inl (vp_updL f i.toNatClampNeg x)))) ha
  dsimp only [xA] at he
  rw [he] at hP1 hD1
  refine K p l e s m args below meth cd D A ad0 ad H1 locs1 ls C ⟨hP1, hD1, fun q hq => ?_, fun q t z hq hg => ?_⟩ hS1 hX hl ⟨hc.1, xSc_tail (xSc_tail (xSc_tail hc.2))⟩
  · by_cases hqa : q = a
    · subst hqa
      rw [va_up_self]
      trivial
    · rw [va_up_ne _ _ hqa]
      exact hH.2.2.1 q hq
  · by_cases hqa : q = a
    · subst hqa
      rw [va_up_self] at hg
      cases hg
      exact hT
    · rw [va_up_ne _ _ hqa] at hg
      exact hH.2.2.2 q t z hq hg
theorem xs_ald3 {a N b : Nat} {f : Nat → Option Nat} {i : Int32} (d : xD M pc pc2 1 .aaload) (hG : G a = .inl (3, N, .inr (.inr (.inr (.inr f))))) (hin : vp_in i N) (hb : f i.toNatClampNeg = some b) (K : xS M n0 mc ms Q X pc2 L (.ref b :: st) n G k c) : xS M n0 mc ms Q X pc L (.int i :: .ref a :: st) n G k c := by
  intro p l e s m args below meth cd D A ad0 ad H locs ls C hH hS hX hl hc
  obtain ⟨d, rfl⟩ := d
  have ha : a < n := xSc_head (xSc_tail hc.2)
  have hw := xW_get (ad := ad) (G := G) ha
  have hbn : b < n := by
    have h1 := hH.2.2.1 a ha
    rw [hG] at h1
    exact h1 _ _ hb
  rw [hG] at hw
  have hT := hH.2.2.2 a _ _ ha hG
  have hK2 : va_K D vwCl [((ad a).2, .object "FaceZones$Triple")] s := ⟨C.2.2.1.2.2.1.1.1, fun j q hq => by
    match j, hq with
    | 0, hq => cases hq; exact hT⟩
  refine va_aldq (D := D) (ws := xW n ad G) C.1.1 C.1.2.1 hK2 hH.1 a 0 hw rfl hin d ?_
  rw [hb]
  exact K p l e s m args below meth cd D A ad0 ad H locs ls C hH hS hX hl ⟨hc.1, xSc_cons hbn (xSc_tail (xSc_tail hc.2))⟩
theorem xs_ast3 {a N b : Nat} {f : Nat → Option Nat} {fs : List Value} {i : Int32} (d : xD M pc pc2 1 .aastore) (hG : G a = .inl (3, N, .inr (.inr (.inr (.inr f))))) (hin : vp_in i N) (hb : G b = .inr (5, fs)) (K : xS M n0 mc ms Q X pc2 L st n (va_up G a (.inl (3, N, .inr (.inr (.inr (.inr (va_up f i.toNatClampNeg (some b)))))))) k c) : xS M n0 mc ms Q X pc L (.ref b :: .int i :: .ref a :: st) n G k c := by
  intro p l e s m args below meth cd D A ad0 ad H locs ls C hH hS hX hl hc
  obtain ⟨d, rfl⟩ := d
  have ha : a < n := xSc_head (xSc_tail (xSc_tail hc.2))
  have hbn : b < n := xSc_head hc.2
  have hw := xW_get (ad := ad) (G := G) ha
  have hwb := xW_get (ad := ad) (G := G) hbn
  rw [hG] at hw
  rw [hb] at hwb
  have hT := hH.2.2.2 a _ _ ha hG
  have hcl0 := hH.2.2.1 a ha
  rw [hG] at hcl0
  have hK2 : va_K D vwCl [((ad a).2, .object "FaceZones$Triple")] s := ⟨C.2.2.1.2.2.1.1.1, fun j q hq => by
    match j, hq with
    | 0, hq => cases hq; exact hT⟩
  refine va_astq (D := D) (ws := xW n ad G) (r := (RX5, TX5, 3)) C.1.1 C.1.2.1 hK2 hH.1 hH.2.1 hS a 0 b 5 hw rfl hwb rfl hin d (fun H1 locs1 hP1 hD1 hS1 => ?_)
  have hf : (fun j => (va_up f i.toNatClampNeg (some b) j).map (fun a => (ad a).1)) = va_up (fun j => (f j).map (fun a => (ad a).1)) i.toNatClampNeg (some (ad b).1) := by
    funext j
    unfold va_up
    split <;> rfl
  have he := xW_set (n := n) (k := a) (ad := ad) (G := G) (e := .inl (3, N, .inr (.inr (.inr (.inr (va_up f i.toNatClampNeg (some b))))))) ha
  dsimp only [xA] at he
  rw [hf] at he
  rw [he] at hP1 hD1
  refine K p l e s m args below meth cd D A ad0 ad H1 locs1 ls C ⟨hP1, hD1, fun q hq => ?_, fun q t z hq hg => ?_⟩ hS1 hX hl ⟨hc.1, xSc_tail (xSc_tail (xSc_tail hc.2))⟩
  · by_cases hqa : q = a
    · subst hqa
      rw [va_up_self]
      intro j z hz
      unfold va_up at hz
      split at hz
      · cases hz; exact hbn
      · exact hcl0 j z hz
    · rw [va_up_ne _ _ hqa]
      exact hH.2.2.1 q hq
  · by_cases hqa : q = a
    · subst hqa
      rw [va_up_self] at hg
      cases hg
      exact hT
    · rw [va_up_ne _ _ hqa] at hg
      exact hH.2.2.2 q t z hq hg
theorem xs_ald4 {a N b : Nat} {f : Nat → Option Nat} {i : Int32} (d : xD M pc pc2 1 .aaload) (hG : G a = .inl (4, N, .inr (.inr (.inr (.inr f))))) (hin : vp_in i N) (hb : f i.toNatClampNeg = some b) (K : xS M n0 mc ms Q X pc2 L (.ref b :: st) n G k c) : xS M n0 mc ms Q X pc L (.int i :: .ref a :: st) n G k c := by
  intro p l e s m args below meth cd D A ad0 ad H locs ls C hH hS hX hl hc
  obtain ⟨d, rfl⟩ := d
  have ha : a < n := xSc_head (xSc_tail hc.2)
  have hw := xW_get (ad := ad) (G := G) ha
  have hbn : b < n := by
    have h1 := hH.2.2.1 a ha
    rw [hG] at h1
    exact h1 _ _ hb
  rw [hG] at hw
  have hT := hH.2.2.2 a _ _ ha hG
  have hK2 : va_K D vwCl [((ad a).2, .object "FaceZones$Crystal")] s := ⟨C.2.2.1.2.2.1.1.1, fun j q hq => by
    match j, hq with
    | 0, hq => cases hq; exact hT⟩
  refine va_aldq (D := D) (ws := xW n ad G) C.1.1 C.1.2.1 hK2 hH.1 a 0 hw rfl hin d ?_
  rw [hb]
  exact K p l e s m args below meth cd D A ad0 ad H locs ls C hH hS hX hl ⟨hc.1, xSc_cons hbn (xSc_tail (xSc_tail hc.2))⟩
theorem xs_ast4 {a N b : Nat} {f : Nat → Option Nat} {fs : List Value} {i : Int32} (d : xD M pc pc2 1 .aastore) (hG : G a = .inl (4, N, .inr (.inr (.inr (.inr f))))) (hin : vp_in i N) (hb : G b = .inr (0, fs)) (K : xS M n0 mc ms Q X pc2 L st n (va_up G a (.inl (4, N, .inr (.inr (.inr (.inr (va_up f i.toNatClampNeg (some b)))))))) k c) : xS M n0 mc ms Q X pc L (.ref b :: .int i :: .ref a :: st) n G k c := by
  intro p l e s m args below meth cd D A ad0 ad H locs ls C hH hS hX hl hc
  obtain ⟨d, rfl⟩ := d
  have ha : a < n := xSc_head (xSc_tail (xSc_tail hc.2))
  have hbn : b < n := xSc_head hc.2
  have hw := xW_get (ad := ad) (G := G) ha
  have hwb := xW_get (ad := ad) (G := G) hbn
  rw [hG] at hw
  rw [hb] at hwb
  have hT := hH.2.2.2 a _ _ ha hG
  have hcl0 := hH.2.2.1 a ha
  rw [hG] at hcl0
  have hK2 : va_K D vwCl [((ad a).2, .object "FaceZones$Crystal")] s := ⟨C.2.2.1.2.2.1.1.1, fun j q hq => by
    match j, hq with
    | 0, hq => cases hq; exact hT⟩
  refine va_astq (D := D) (ws := xW n ad G) (r := (RX0, TX0, 12)) C.1.1 C.1.2.1 hK2 hH.1 hH.2.1 hS a 0 b 0 hw rfl hwb rfl hin d (fun H1 locs1 hP1 hD1 hS1 => ?_)
  have hf : (fun j => (va_up f i.toNatClampNeg (some b) j).map (fun a => (ad a).1)) = va_up (fun j => (f j).map (fun a => (ad a).1)) i.toNatClampNeg (some (ad b).1) := by
    funext j
    unfold va_up
    split <;> rfl
  have he := xW_set (n := n) (k := a) (ad := ad) (G := G) (e := .inl (4, N, .inr (.inr (.inr (.inr (va_up f i.toNatClampNeg (some b))))))) ha
  dsimp only [xA] at he
  rw [hf] at he
  rw [he] at hP1 hD1
  refine K p l e s m args below meth cd D A ad0 ad H1 locs1 ls C ⟨hP1, hD1, fun q hq => ?_, fun q t z hq hg => ?_⟩ hS1 hX hl ⟨hc.1, xSc_tail (xSc_tail (xSc_tail hc.2))⟩
  · by_cases hqa : q = a
    · subst hqa
      rw [va_up_self]
      intro j z hz
      unfold va_up at hz
      split at hz
      · cases hz; exact hbn
      · exact hcl0 j z hz
    · rw [va_up_ne _ _ hqa]
      exact hH.2.2.1 q hq
  · by_cases hqa : q = a
    · subst hqa
      rw [va_up_self] at hg
      cases hg
      exact hT
    · rw [va_up_ne _ _ hqa] at hg
      exact hH.2.2.2 q t z hq hg
theorem xs_iret {x : Int32} {ty : FieldType} (d : xD M pc pc2 1 .ireturn) (hr : M.2.2.2.1 = some ty) (hn : narrow ty (.int x) = .int x) (hk : k ≤ mc) (hc0 : c ≤ ms) (hq : Q (some (.int x)) n G) : xS M n0 mc ms Q X pc L ([.int x]) n G k c := by
  intro p l e s m args below meth cd D A ad0 ad H locs ls C hH hS hX hl hc
  obtain ⟨d, -⟩ := d
  refine W.widen hk hc0 (vx_ret ?_)
  exact W.zret C.1.1 C.1.2.1 (C.1.2.2.1.trans hr) hn (fun t ht hW => ⟨(some (.int x)), n, G, ad, rfl, hq, hX.2, hX.1, fun w hw => by cases hw; trivial, by rw [ht]; exact hH.moved hW.alike, hS.F ht⟩) hS.2.2 d C.2.1.2.2.1
theorem xs_lret {x : Int64} (d : xD M pc pc2 1 .lreturn) (hr : M.2.2.2.1 = some .long) (hk : k ≤ mc) (hc0 : c ≤ ms) (hq : Q (some (.long x)) n G) : xS M n0 mc ms Q X pc L ([.long x]) n G k c := by
  intro p l e s m args below meth cd D A ad0 ad H locs ls C hH hS hX hl hc
  obtain ⟨d, -⟩ := d
  refine W.widen hk hc0 (vx_ret ?_)
  exact W.lret C.1.1 C.1.2.1 (C.1.2.2.1.trans hr) (fun t ht hW => ⟨(some (.long x)), n, G, ad, rfl, hq, hX.2, hX.1, fun w hw => by cases hw; trivial, by rw [ht]; exact hH.moved hW.alike, hS.F ht⟩) hS.2.2 d C.2.1.2.2.1
theorem xs_vret (d : xD M pc pc2 1 .return_) (hr : M.2.2.2.1 = none) (hk : k ≤ mc) (hc0 : c ≤ ms) (hq : Q none n G) : xS M n0 mc ms Q X pc L ([]) n G k c := by
  intro p l e s m args below meth cd D A ad0 ad H locs ls C hH hS hX hl hc
  obtain ⟨d, -⟩ := d
  refine W.widen hk hc0 (vx_ret ?_)
  exact W.vret C.1.1 C.1.2.1 (C.1.2.2.1.trans hr) (fun t ht hW => ⟨none, n, G, ad, rfl, hq, hX.2, hX.1, (fun w hw => nomatch hw), by rw [ht]; exact hH.moved hW.alike, hS.F ht⟩) hS.2.2 d C.2.1.2.2.1
theorem xs_aret {a : Nat} {cn : String} (d : xD M pc pc2 1 .areturn) (hr : M.2.2.2.1 = some (.object cn)) (hk : k ≤ mc) (hc0 : c ≤ ms) (hq : Q (some (.ref a)) n G) : xS M n0 mc ms Q X pc L ([.ref a]) n G k c := by
  intro p l e s m args below meth cd D A ad0 ad H locs ls C hH hS hX hl hc
  obtain ⟨d, -⟩ := d
  refine W.widen hk hc0 (vx_ret ?_)
  exact W.aret C.1.1 C.1.2.1 (C.1.2.2.1.trans hr) (Or.inl ⟨_, rfl⟩) (Or.inr ⟨_, rfl⟩) (fun t ht hW => ⟨(some (.ref a)), n, G, ad, rfl, hq, hX.2, hX.1, fun w hw => by cases hw; exact xSc_head hc.2, by rw [ht]; exact hH.moved hW.alike, hS.F ht⟩) hS.2.2 d C.2.1.2.2.1
end XR
