section XN
variable {M : xM} {n0 mc ms : Nat} {Q : Option Value → Nat → xG → Prop} {X : String → Nat → xG → Prop} {pc pc2 tgt : Nat} {L : List (Nat × Value)} {st : List Value} {n : Nat} {G : xG} {k c : Nat}
/-- a class whose objects can be made: N fields, as the new object holds them -/
def xN (ci N : Nat) (fs : List Value) (C : String) : Prop := ∃ (T : u_T) (ty : Nat → FieldType), vwCl[ci]? = some (C, T, N) ∧ (∀ w ∈ u_ws C T N, w ∈ xTB) ∧ (∀ j, j < N → parseFieldDescriptor (T j).2.2.1 = some (ty j)) ∧ (Cond.instantiable C N ∈ xTB ∧ Cond.initialized C ∈ xTB) ∧ (∀ j, j < N → defaultValue (ty j) = vp_V fs j) ∧ ∀ v ∈ fs, (∀ ad, xV ad v = v) ∧ ∀ n, xVc n v
theorem xr_up {n : Nat} {ad : Nat → Nat × Nat} {q : Nat × Nat} : ∀ j, j < n → va_up ad n q j = ad j := fun j hj => va_up_ne _ _ (by omega)
/-- one thing more -/
theorem xr_push {D : va_G} {A : Nat → Prop} {ad : Nat → Nat × Nat} {s : State} {H H1 : Heap} {q : Nat × Nat} {e : va_E} (hH : xH D A ad n G s H) (he : xEc (n + 1) e)
    (hP : va_P D vwCl (xW n ad G ++ [(q.1, xA (va_up ad n q) n e)]) H1) (hD : va_D A (xW n ad G ++ [(q.1, xA (va_up ad n q) n e)]))
    (hT : ∀ t x, e = .inl (t, x) → ArrOfT s q.2 (xTy t) ∧ va_RA s q.2 (xTy t)) : xH D A (va_up ad n q) (n + 1) (va_up G n e) s H1 := by
  have hp := xW_push (ad' := va_up ad n q) (e := e) xr_up hH.2.2.1
  rw [va_up_self] at hp
  rw [hp] at hP hD
  refine ⟨hP, hD, fun j hj => ?_, fun j t x hj hg => ?_⟩
  · by_cases h : j = n
    · subst h
      rw [va_up_self]
      exact he
    · rw [va_up_ne _ _ h]
      exact xEc_mono (Nat.le_succ n) (hH.2.2.1 j (by omega))
  · by_cases h : j = n
    · subst h
      rw [va_up_self] at hg ⊢
      exact hT t x hg
    · rw [va_up_ne _ _ h] at hg ⊢
      exact hH.2.2.2 j t x (by omega) hg
theorem xs_new {idx ci N : Nat} {fs : List Value} {CC : String} (d : xD M pc pc2 3 (.new idx)) (hkl : Cond.classLink M.1.cls idx CC ∈ xTB) (hN : xN ci N fs CC) (hk : k + 1 ≤ mc) (hc0 : c + N ≤ ms)
    (K : xS M n0 mc ms Q X pc2 L (.ref n :: st) (n + 1) (va_up G n (.inr (ci, fs))) (k + 1) (c + N)) : xS M n0 mc ms Q X pc L st n G k c := by
  intro p l e s m args below meth cd D A ad0 ad H locs ls C hH hS hX hl hc
  obtain ⟨d, rfl⟩ := d
  obtain ⟨T, ty, h1, h2, h3, h4, h5, h6⟩ := hN
  refine va_new (D := D) (ws := xW n ad G) (ci := ci) (C := CC) (T := T) (N := N) (fs := fs) C.1.1 C.1.2.1 C.2.1.2.1 h2 ty h3 C.2.1.1 (C.2.1.2.1 _ hkl) (C.2.1.2.1 _ h4.1) (C.2.1.2.1 _ h4.2) C.2.2.1.2.2.1.1 hH.1 hH.2.1 hS C.2.2.1.2.1 h1 h5 hk hc0 d (fun q H1 hP hD hS1 => ?_)
  have hfs : ∀ ad : Nat → Nat × Nat, fs.map (xV ad) = fs := fun ad => (List.map_congr_left fun v hv => (h6 v hv).1 ad).trans (List.map_id fs)
  have hH2 : xH D A (va_up ad n (q, 0)) (n + 1) (va_up G n (.inr (ci, fs))) s H1 := xr_push hH (fun v hv => (h6 v hv).2 _) (by show va_P D vwCl (xW n ad G ++ [(q, .inr (ci, fs.map (xV _)))]) H1; rw [hfs]; exact hP) (by show va_D A (xW n ad G ++ [(q, .inr (ci, fs.map (xV _)))]); rw [hfs]; exact hD) (fun t x h => by cases h)
  have hg := K p l e s m args below meth cd D A ad0 (va_up ad n (q, 0)) H1 locs ls C hH2 hS1 ⟨fun j hj => (xr_up j (Nat.lt_of_lt_of_le hj hX.2)).trans (hX.1 j hj), Nat.le_succ_of_le hX.2⟩ (by rw [xL_ext xr_up hc.1]; exact hl) ⟨fun q hq => xVc_mono (Nat.le_succ n) (hc.1 q hq), xSc_cons (Nat.lt_succ_self n) fun v hv => xVc_mono (Nat.le_succ n) (hc.2 v hv)⟩
  rw [List.map_cons, xst_ext xr_up hc.2, show xV (va_up ad n (q, 0)) (.ref n) = .ref q by show Value.ref _ = _; rw [va_up_self]] at hg
  exact hg
/-- new arrays of numbers -/
theorem xr_newa {at0 : ArrayType} {ty : FieldType} {tag N : Nat} {a0 : vp_A} {i : Int32} (hat : newarray.typeOf at0 = ty) (hty : xTy tag = ty) (hcell : ∀ cA : Nat, vp_cell cA a0 = arrV cA N (fun _ => defaultValue ty)) (hA1 : ∀ (ad : Nat → Nat × Nat) (k : Nat), xA ad k (.inl (tag, a0)) = .inl ((ad k).2, a0)) (hcl : ∀ n, xEc n (.inl (tag, a0)))
    (hw : Cond.arrayClass (newarray.typeOf at0) ∈ xTB) (d : xD M pc pc2 2 (.newarray at0)) (hi : i = nI N) (hN : N < 100000) (hb : N * componentBytes ty ≤ 536870912) (hk : k + 1 ≤ mc) (hc0 : c + N ≤ ms)
    (K : xS M n0 mc ms Q X pc2 L (.ref n :: st) (n + 1) (va_up G n (.inl (tag, a0))) (k + 1) (c + N)) : xS M n0 mc ms Q X pc L (.int i :: st) n G k c := by
  intro p l e s m args below meth cd D A ad0 ad H locs ls C hH hS hX hl hc
  obtain ⟨d, rfl⟩ := d
  subst hi
  have hc2 := xSc_tail hc.2
  refine va_newa (D := D) (ws := xW n ad G) (tys := []) (atype := at0) (a0 := a0) (N' := N) C.1.1 C.1.2.1 (C.2.1.2.1 _ hw) hat C.2.2.1.2.2.1.1 hH.1 hH.2.1 hS C.2.2.1.2.1 hcell (by have := nI_pos' (n := N) (by omega); simpa using this) (nI_clamp (by omega)) hb hk hc0 d (fun q cA H1 hK hP hD hS1 => ?_)
  have hT := hK.2 0 (cA, ty) rfl
  have hH2 : xH D A (va_up ad n (q, cA)) (n + 1) (va_up G n (.inl (tag, a0))) s H1 := by
    refine xr_push hH (hcl _) ?_ ?_ (fun t x h => ?_)
    · rw [hA1, va_up_self]; exact hP
    · rw [hA1, va_up_self]; exact hD
    · cases h
      rw [hty]
      exact hT
  have hg := K p l e s m args below meth cd D A ad0 (va_up ad n (q, cA)) H1 locs ls C hH2 hS1 ⟨fun j hj => (xr_up j (Nat.lt_of_lt_of_le hj hX.2)).trans (hX.1 j hj), Nat.le_succ_of_le hX.2⟩ (by rw [xL_ext xr_up hc.1]; exact hl) ⟨fun q hq => xVc_mono (Nat.le_succ n) (hc.1 q hq), xSc_cons (Nat.lt_succ_self n) fun v hv => xVc_mono (Nat.le_succ n) (hc2 v hv)⟩
  rw [List.map_cons, xst_ext xr_up hc2, show xV (va_up ad n (q, cA)) (.ref n) = .ref q by show Value.ref _ = _; rw [va_up_self]] at hg
  exact hg
theorem xs_newI {N : Nat} {i : Int32} (d : xD M pc pc2 2 (.newarray .int)) (hi : i = nI N) (hN : N < 100000) (hk : k + 1 ≤ mc) (hc0 : c + N ≤ ms)
    (K : xS M n0 mc ms Q X pc2 L (.ref n :: st) (n + 1) (va_up G n (.inl (0, N, .inl (fun _ => 0)))) (k + 1) (c + N)) : xS M n0 mc ms Q X pc L (.int i :: st) n G k c :=
  xr_newa (at0 := .int) (tag := 0) (a0 := (N, .inl (fun _ => 0))) rfl rfl (fun _ => rfl) (fun _ _ => rfl) (fun _ => trivial) xw_int d hi hN (by show N * 4 ≤ _; omega) hk hc0 K
theorem xs_newJ {N : Nat} {i : Int32} (d : xD M pc pc2 2 (.newarray .long)) (hi : i = nI N) (hN : N < 100000) (hk : k + 1 ≤ mc) (hc0 : c + N ≤ ms)
    (K : xS M n0 mc ms Q X pc2 L (.ref n :: st) (n + 1) (va_up G n (.inl (1, N, .inr (.inl (fun _ => 0))))) (k + 1) (c + N)) : xS M n0 mc ms Q X pc L (.int i :: st) n G k c :=
  xr_newa (at0 := .long) (tag := 1) (a0 := (N, .inr (.inl (fun _ => 0)))) rfl rfl (fun _ => rfl) (fun _ _ => rfl) (fun _ => trivial) xw_long d hi hN (by show N * 8 ≤ _; omega) hk hc0 K
theorem xs_newZ {N : Nat} {i : Int32} (d : xD M pc pc2 2 (.newarray .boolean)) (hi : i = nI N) (hN : N < 100000) (hk : k + 1 ≤ mc) (hc0 : c + N ≤ ms)
    (K : xS M n0 mc ms Q X pc2 L (.ref n :: st) (n + 1) (va_up G n (.inl (2, N, .inl (fun _ => 0)))) (k + 1) (c + N)) : xS M n0 mc ms Q X pc L (.int i :: st) n G k c :=
  xr_newa (at0 := .boolean) (tag := 2) (a0 := (N, .inl (fun _ => 0))) rfl rfl (fun _ => rfl) (fun _ _ => rfl) (fun _ => trivial) xw_bool d hi hN (by show N * 1 ≤ _; omega) hk hc0 K
/-- new arrays of references -/
theorem xs_newQ {tag idx N : Nat} {CC : String} {i : Int32} (hty : xTy tag = .object CC) (hover : CC ∈ xAO) (hkl : Cond.classLink M.1.cls idx CC ∈ xTB) (d : xD M pc pc2 3 (.anewarray idx)) (hi : i = nI N) (hN : N < 100000) (hk : k + 1 ≤ mc) (hc0 : c + N ≤ ms)
    (K : xS M n0 mc ms Q X pc2 L (.ref n :: st) (n + 1) (va_up G n (.inl (tag, N, .inr (.inr (.inr (.inr (fun _ => none))))))) (k + 1) (c + N)) : xS M n0 mc ms Q X pc L (.int i :: st) n G k c := by
  intro p l e s m args below meth cd D A ad0 ad H locs ls C hH hS hX hl hc
  obtain ⟨d, rfl⟩ := d
  subst hi
  have hc2 := xSc_tail hc.2
  refine va_newq (D := D) (ws := xW n ad G) (tys := []) (C := CC) (N' := N) C.1.1 C.1.2.1 C.2.1.1 (C.2.1.2.1 _ hkl) (C.2.2.1.2.2.2.2.2 CC hover) C.2.2.1.2.2.1.1 hH.1 hH.2.1 hS C.2.2.1.2.1 (by have := nI_pos' (n := N) (by omega); simpa using this) (nI_clamp (by omega)) (by omega) hk hc0 d (fun q cA H1 hK hP hD hS1 => ?_)
  have hT := hK.2 0 (cA, .object CC) rfl
  have hH2 : xH D A (va_up ad n (q, cA)) (n + 1) (va_up G n (.inl (tag, N, .inr (.inr (.inr (.inr (fun _ => none))))))) s H1 := by
    refine xr_push hH (fun j a h => by cases h) ?_ ?_ (fun t x h => ?_)
    · dsimp only [xA]; rw [va_up_self]; exact hP
    · dsimp only [xA]; rw [va_up_self]; exact hD
    · cases h
      rw [hty]
      exact hT
  have hg := K p l e s m args below meth cd D A ad0 (va_up ad n (q, cA)) H1 locs ls C hH2 hS1 ⟨fun j hj => (xr_up j (Nat.lt_of_lt_of_le hj hX.2)).trans (hX.1 j hj), Nat.le_succ_of_le hX.2⟩ (by rw [xL_ext xr_up hc.1]; exact hl) ⟨fun q hq => xVc_mono (Nat.le_succ n) (hc.1 q hq), xSc_cons (Nat.lt_succ_self n) fun v hv => xVc_mono (Nat.le_succ n) (hc2 v hv)⟩
  rw [List.map_cons, xst_ext xr_up hc2, show xV (va_up ad n (q, cA)) (.ref n) = .ref q by show Value.ref _ = _; rw [va_up_self]] at hg
  exact hg
/-- Object's constructor -/
theorem xs_objInit {idx a : Nat} (d : xD M pc pc2 3 (.invokespecial idx)) (hk : Cond.methodLink M.1.cls idx Lib.objectInit ∈ xTB) (hrm : (st.map fun v => v.category).sum ≤ 8) (hR : 1 ≤ M.2.2.2.2.1 ∧ 20 ≤ M.2.2.2.2.2.1) (K : xS M n0 mc ms Q X pc2 L st n G k c) : xS M n0 mc ms Q X pc L (.ref a :: st) n G k c := by
  intro p l e s m args below meth cd D A ad0 ad H locs ls C hH hS hX hl hc
  obtain ⟨d, rfl⟩ := d
  exact W.objInit (g := F0 m pc ls ((Value.ref a :: st).map (xV ad))) C.1.1 C.1.2.1 C.2.1.1 (C.2.1.2.1 _ hk) (C.2.1.2.1 _ xw_objInst) (C.2.1.2.1 _ xw_objCode) rfl (hl.1.trans C.1.2.2.2.symm) rfl d hR.1 (by have h1 := lv_room (m := m) (pc := pc) (ls := ls) (rest := (Value.ref a :: st).map (xV ad)) (xr_rest (ad := ad) hrm); show _ + 12 ≤ M.2.2.2.2.2.1; omega) (K p l e s m args below meth cd D A ad0 ad H locs ls C hH hS hX hl ⟨hc.1, xSc_tail hc.2⟩)
/-- the JDK's own numbers -/
theorem xs_mmax {idx : Nat} {x y : Int32} (d : xD M pc pc2 3 (.invokestatic idx)) (hk : Cond.methodLink M.1.cls idx Lib.Math.max.name ∈ xTB) (hrm : (st.map fun v => v.category).sum ≤ 8) (hR : 1 ≤ M.2.2.2.2.1 ∧ 21 ≤ M.2.2.2.2.2.1) (hkc : k ≤ mc ∧ c ≤ ms) (K : xS M n0 mc ms Q X pc2 L (.int (if x < y then y else x) :: st) n G k c) : xS M n0 mc ms Q X pc L (.int y :: .int x :: st) n G k c := by
  intro p l e s m args below meth cd D A ad0 ad H locs ls C hH hS hX hl hc
  obtain ⟨d, rfl⟩ := d
  exact va_mmax C.1.1 C.1.2.1 (C.1.2.2.2.trans hl.1.symm) C.2.1.1 (C.2.1.2.1 _ hk) (C.2.1.2.1 _ xw_maxS) (C.2.1.2.1 _ xw_mathI) (C.2.1.2.1 _ xw_maxC) hR.1 (by have h1 := xr_rest (ad := ad) hrm; show _ + 13 ≤ M.2.2.2.2.2.1; omega) hkc.1 hkc.2 d (K p l e s m args below meth cd D A ad0 ad H locs ls C hH hS hX hl ⟨hc.1, xSc_cons trivial (xSc_tail (xSc_tail hc.2))⟩)
theorem xs_mmin {idx : Nat} {x y : Int32} (d : xD M pc pc2 3 (.invokestatic idx)) (hk : Cond.methodLink M.1.cls idx Lib.Math.min.name ∈ xTB) (hrm : (st.map fun v => v.category).sum ≤ 8) (hR : 1 ≤ M.2.2.2.2.1 ∧ 21 ≤ M.2.2.2.2.2.1) (hkc : k ≤ mc ∧ c ≤ ms) (K : xS M n0 mc ms Q X pc2 L (.int (if y < x then y else x) :: st) n G k c) : xS M n0 mc ms Q X pc L (.int y :: .int x :: st) n G k c := by
  intro p l e s m args below meth cd D A ad0 ad H locs ls C hH hS hX hl hc
  obtain ⟨d, rfl⟩ := d
  exact va_mmin C.1.1 C.1.2.1 (C.1.2.2.2.trans hl.1.symm) C.2.1.1 (C.2.1.2.1 _ hk) (C.2.1.2.1 _ xw_minS) (C.2.1.2.1 _ xw_mathI) (C.2.1.2.1 _ xw_minC) hR.1 (by have h1 := xr_rest (ad := ad) hrm; show _ + 13 ≤ M.2.2.2.2.2.1; omega) hkc.1 hkc.2 d (K p l e s m args below meth cd D A ad0 ad H locs ls C hH hS hX hl ⟨hc.1, xSc_cons trivial (xSc_tail (xSc_tail hc.2))⟩)
theorem xs_mabs {idx : Nat} {x : Int64} (d : xD M pc pc2 3 (.invokestatic idx)) (hk : Cond.methodLink M.1.cls idx Lib.MathLoose.abs_long.x ∈ xTB) (hrm : (st.map fun v => v.category).sum ≤ 8) (hR : 1 ≤ M.2.2.2.2.1 ∧ 21 ≤ M.2.2.2.2.2.1) (hkc : k ≤ mc ∧ c ≤ ms) (K : xS M n0 mc ms Q X pc2 L (.long (if 0 < x then x else -x) :: st) n G k c) : xS M n0 mc ms Q X pc L (.long x :: st) n G k c := by
  intro p l e s m args below meth cd D A ad0 ad H locs ls C hH hS hX hl hc
  obtain ⟨d, rfl⟩ := d
  exact va_mabs_long C.1.1 C.1.2.1 (C.1.2.2.2.trans hl.1.symm) C.2.1.1 (C.2.1.2.1 _ hk) (C.2.1.2.1 _ xw_absS) (C.2.1.2.1 _ xw_mathI) (C.2.1.2.1 _ xw_absC) hR.1 (by have h1 := xr_rest (ad := ad) hrm; show _ + 13 ≤ M.2.2.2.2.2.1; omega) hkc.1 hkc.2 d (K p l e s m args below meth cd D A ad0 ad H locs ls C hH hS hX hl ⟨hc.1, xSc_cons trivial (xSc_tail hc.2)⟩)
/-- System.arraycopy of ints, whole rows -/
theorem xs_copyi {idx a b N K0 : Nat} {f g : Nat → Int32} {z1 z2 w : Int32} (d : xD M pc pc2 3 (.invokestatic idx)) (hk : Cond.methodLink M.1.cls idx arraycopyName ∈ xTB) (ha : G a = .inl (0, N, .inl f)) (hb : G b = .inl (0, N, .inl g)) (hz1 : z1 = 0) (hz2 : z2 = 0) (hw : w = nI K0) (hKN : K0 ≤ N) (hN : N < 100000) (hrm : (st.map fun v => v.category).sum ≤ 8) (hR : 1 ≤ M.2.2.2.2.1 ∧ 40 ≤ M.2.2.2.2.2.1)
    (K : xS M n0 mc ms Q X pc2 L st n (va_up G b (.inl (0, N, .inl (va_cpy f g 0 0 K0)))) k c) : xS M n0 mc ms Q X pc L (.int w :: .int z2 :: .ref b :: .int z1 :: .ref a :: st) n G k c := by
  intro p l e s m args below meth cd D A ad0 ad H locs ls C hH hS hX hl hc
  obtain ⟨d, rfl⟩ := d
  subst hz1; subst hz2; subst hw
  have hbn : b < n := xSc_head (xSc_tail (xSc_tail hc.2))
  have han : a < n := xSc_head (xSc_tail (xSc_tail (xSc_tail (xSc_tail hc.2))))
  have hc5 := xSc_tail (xSc_tail (xSc_tail (xSc_tail (xSc_tail hc.2))))
  have hwa := xW_get (ad := ad) (G := G) han
  have hwb := xW_get (ad := ad) (G := G) hbn
  rw [ha] at hwa
  rw [hb] at hwb
  have hTa := hH.2.2.2 a _ _ han ha
  have hTb := hH.2.2.2 b _ _ hbn hb
  have hK2 : va_K D vwCl [((ad a).2, xTy 0), ((ad b).2, xTy 0)] s := ⟨C.2.2.1.2.2.1.1.1, fun j q hq => by
    match j, hq with
    | 0, hq => cases hq; exact hTa
    | 1, hq => cases hq; exact hTb⟩
  have e0 : (0 : Int32).toNatClampNeg = 0 := by decide
  have eN : (nI K0).toNatClampNeg = K0 := nI_clamp (by omega)
  have hroom : (((st.map (xV ad)).map fun v => v.category).sum + (nativeFrameWords "java/lang/System" "arraycopy" 5 + 11)) ≤ M.2.2.2.2.2.1 := by
    have h1 := xr_rest (ad := ad) hrm
    have h2 : nativeFrameWords "java/lang/System" "arraycopy" 5 + 11 ≤ 32 := by decide +kernel
    omega
  refine va_copyi (D := D) (ws := xW n ad G) (sp := 0) (dp := 0) (n := nI K0) C.1.1 C.1.2.1 (C.1.2.2.2.trans hl.1.symm) C.2.1.1 (C.2.1.2.1 _ hk) (C.2.1.2.1 _ xw_copyN) (C.2.1.2.1 _ xw_copyS) (C.2.1.2.1 _ xw_copyI) hK2 hH.1 hH.2.1 hS a b 0 1 hwa hwb rfl rfl rfl (by decide) (by decide) (nI_pos (by omega)) (by rw [e0, eN]; omega) (by rw [e0, eN]; omega) (fun _ _ => rfl) hR.1 hroom d (fun H1 locs1 hP1 hD1 hS1 => ?_)
  rw [e0, eN] at hP1 hD1
  have he := xW_set (n := n) (k := b) (ad := ad) (G := G) (e := .inl (0, N, .inl (va_cpy f g 0 0 K0))) hbn
  dsimp only [xA] at he
  rw [he] at hP1 hD1
  refine K p l e s m args below meth cd D A ad0 ad H1 locs1 ls C ⟨hP1, hD1, fun q hq => ?_, fun q t z hq hg => ?_⟩ hS1 hX hl ⟨hc.1, hc5⟩
  · by_cases hqa : q = b
    · subst hqa
      rw [va_up_self]
      trivial
    · rw [va_up_ne _ _ hqa]
      exact hH.2.2.1 q hq
  · by_cases hqa : q = b
    · subst hqa
      rw [va_up_self] at hg
      cases hg
      exact hTb
    · rw [va_up_ne _ _ hqa] at hg
      exact hH.2.2.2 q t z hq hg
/-- a class of exceptions, with the words of its making -/
def xTh (ik ic : Nat) (E : String) : Prop := Bundle.fit E = true ∧ (∀ nm ∈ ["java/lang/RuntimeException", "java/lang/Exception"], Bundle.fit nm = true) ∧ (Cond.classLink "FaceZones" ik E ∈ xTB ∧ Cond.initialized E ∈ xTB) ∧
  (∀ w ∈ (vx_atS "FaceZones" ic E ["java/lang/RuntimeException", "java/lang/Exception"]).filter goodWord, w ∈ xTB) ∧ (∀ w ∈ (vx_atS "FaceZones" ic E ["java/lang/RuntimeException", "java/lang/Exception"]).filter (fun w => !goodWord w), w ∈ xNW) ∧
  ∀ w ∈ Cond.classLink "FaceZones" ik E :: Cond.initialized E :: vx_atS "FaceZones" ic E ["java/lang/RuntimeException", "java/lang/Exception"], vx_ot w = true
/-- throw new E("text") -/
theorem xs_throw {ik is ic p1 p2 p3 p4 p5 : Nat} {E text : String} (hM : M.1.cls = "FaceZones") (hh : M.2.2.2.2.2.2 = []) (hE : xTh ik ic E) (hstr : ("FaceZones", is, text) ∈ xST)
    (d0 : xD M pc p1 3 (.new ik)) (d1 : xD M p1 p2 1 .dup) (d2 : xD M p2 p3 2 (.ldc is)) (d3 : xD M p3 p4 3 (.invokespecial ic)) (d4 : xD M p4 p5 1 .athrow) (hrm : (st.map fun v => v.category).sum ≤ 8)
    (hR : 6 ≤ M.2.2.2.2.1 ∧ 90 ≤ M.2.2.2.2.2.1) (hk : k + 1 ≤ mc) (hc0 : c + 6 ≤ ms) (hx : X E n G) : xS M n0 mc ms Q X pc L st n G k c := by
  intro p l e s m args below meth cd D A ad0 ad H locs ls C hH hS hX hl hc
  obtain ⟨d0, rfl⟩ := d0
  obtain ⟨d1, rfl⟩ := d1
  obtain ⟨d2, rfl⟩ := d2
  obtain ⟨d3, rfl⟩ := d3
  obtain ⟨d4, rfl⟩ := d4
  obtain ⟨h1, h2, h3, h4, h5, h6⟩ := hE
  obtain ⟨sa, hsa⟩ := C.2.2.1.2.2.2.2.1 _ hstr
  have hown : s.vm.findClass "FaceZones" = some m.cls := hM ▸ C.2.1.1
  refine vx_throwS (own := "FaceZones") (cls := E) (text := text) (names := ["java/lang/RuntimeException", "java/lang/Exception"]) (sa := sa) (A := A) C.1.1 C.1.2.1 C.2.2.1.1 hown h1 h2 (C.2.1.2.1 _ h3.1) (C.2.1.2.1 _ h3.2) hsa
    (vx_hat (fun w hw => C.2.1.2.1 _ (h4 w hw)) h5 (fun w hw => va_Nw.use (xNW_tab w hw) (C.2.2.1.2.2.1.2 w hw))) h6 C.2.2.1.2.2.2.1.1 C.2.2.1.2.2.2.1.2 hS (hl.1.trans C.1.2.2.2.symm) d0 d1 d2 d3 d4 ?_ hR.1 ?_ (by show k + 1 ≤ mc; exact hk) (by show c + 6 ≤ ms; exact hc0) C.2.1.2.2.1 (fun t hvm hsz hq => ⟨n, G, ad, hx, hX.2, hX.1, ?_, ?_⟩) hS.2.2 hk hc0
  · intro x hx
    rw [C.2.2.2, hh] at hx
    cases hx
  · have h9 := xr_rest (ad := ad) hrm
    show _ + (13 * (2 + 1) + 43) ≤ M.2.2.2.2.2.1
    omega
  · refine xH.moved hvm ⟨fun j q hj => (hH.1 j q hj).kept (hq q.1 (hH.1 j q hj).lt), hH.2⟩
  · exact ⟨Nat.le_trans hS.1 hsz, fun q h7 h8 => by rw [hq q (Nat.lt_of_lt_of_le h7 hS.1)]; exact hS.2.1 q h7 h8⟩
/-- the same, the text by a wide index -/
theorem xs_throwW {ik is ic p1 p2 p3 p4 p5 : Nat} {E text : String} (hM : M.1.cls = "FaceZones") (hh : M.2.2.2.2.2.2 = []) (hE : xTh ik ic E) (hstr : ("FaceZones", is, text) ∈ xST)
    (d0 : xD M pc p1 3 (.new ik)) (d1 : xD M p1 p2 1 .dup) (d2 : xD M p2 p3 3 (.ldc_w is)) (d3 : xD M p3 p4 3 (.invokespecial ic)) (d4 : xD M p4 p5 1 .athrow) (hrm : (st.map fun v => v.category).sum ≤ 8)
    (hR : 6 ≤ M.2.2.2.2.1 ∧ 90 ≤ M.2.2.2.2.2.1) (hk : k + 1 ≤ mc) (hc0 : c + 6 ≤ ms) (hx : X E n G) : xS M n0 mc ms Q X pc L st n G k c := by
  intro p l e s m args below meth cd D A ad0 ad H locs ls C hH hS hX hl hc
  obtain ⟨d0, rfl⟩ := d0
  obtain ⟨d1, rfl⟩ := d1
  obtain ⟨d2, rfl⟩ := d2
  obtain ⟨d3, rfl⟩ := d3
  obtain ⟨d4, rfl⟩ := d4
  obtain ⟨h1, h2, h3, h4, h5, h6⟩ := hE
  obtain ⟨sa, hsa⟩ := C.2.2.1.2.2.2.2.1 _ hstr
  have hown : s.vm.findClass "FaceZones" = some m.cls := hM ▸ C.2.1.1
  refine vx_throwSW (own := "FaceZones") (cls := E) (text := text) (names := ["java/lang/RuntimeException", "java/lang/Exception"]) (sa := sa) (A := A) C.1.1 C.1.2.1 C.2.2.1.1 hown h1 h2 (C.2.1.2.1 _ h3.1) (C.2.1.2.1 _ h3.2) hsa
    (vx_hat (fun w hw => C.2.1.2.1 _ (h4 w hw)) h5 (fun w hw => va_Nw.use (xNW_tab w hw) (C.2.2.1.2.2.1.2 w hw))) h6 C.2.2.1.2.2.2.1.1 C.2.2.1.2.2.2.1.2 hS (hl.1.trans C.1.2.2.2.symm) d0 d1 d2 d3 d4 ?_ hR.1 ?_ (by show k + 1 ≤ mc; exact hk) (by show c + 6 ≤ ms; exact hc0) C.2.1.2.2.1 (fun t hvm hsz hq => ⟨n, G, ad, hx, hX.2, hX.1, ?_, ?_⟩) hS.2.2 hk hc0
  · intro x hx
    rw [C.2.2.2, hh] at hx
    cases hx
  · have h9 := xr_rest (ad := ad) hrm
    show _ + (13 * (2 + 1) + 43) ≤ M.2.2.2.2.2.1
    omega
  · refine xH.moved hvm ⟨fun j q hj => (hH.1 j q hj).kept (hq q.1 (hH.1 j q hj).lt), hH.2⟩
  · exact ⟨Nat.le_trans hS.1 hsz, fun q h7 h8 => by rw [hq q (Nat.lt_of_lt_of_le h7 hS.1)]; exact hS.2.1 q h7 h8⟩
end XN
theorem xn0 : xN 0 12 nf0 "FaceZones$Crystal" := ⟨TX0, tyX0, rfl, inX0, tyX0_ok, ⟨xn0_i, xn0_j⟩, xn0_d, by intro v hv; simp only [nf0, List.mem_cons, List.mem_nil_iff, or_false] at hv; rcases hv with rfl | rfl | rfl | rfl | rfl | rfl | rfl | rfl | rfl | rfl | rfl | rfl <;> exact ⟨fun _ => rfl, fun _ => trivial⟩⟩
theorem xn1 : xN 1 5 nf1 "FaceZones$CrystalText" := ⟨TX1, tyX1, rfl, inX1, tyX1_ok, ⟨xn1_i, xn1_j⟩, xn1_d, by intro v hv; simp only [nf1, List.mem_cons, List.mem_nil_iff, or_false] at hv; rcases hv with rfl | rfl | rfl | rfl | rfl <;> exact ⟨fun _ => rfl, fun _ => trivial⟩⟩
theorem xn2 : xN 2 8 nf2 "FaceZones$Form" := ⟨TX2, tyX2, rfl, inX2, tyX2_ok, ⟨xn2_i, xn2_j⟩, xn2_d, by intro v hv; simp only [nf2, List.mem_cons, List.mem_nil_iff, or_false] at hv; rcases hv with rfl | rfl | rfl | rfl | rfl | rfl | rfl | rfl <;> exact ⟨fun _ => rfl, fun _ => trivial⟩⟩
theorem xn3 : xN 3 5 nf3 "FaceZones$Growth" := ⟨TX3, tyX3, rfl, inX3, tyX3_ok, ⟨xn3_i, xn3_j⟩, xn3_d, by intro v hv; simp only [nf3, List.mem_cons, List.mem_nil_iff, or_false] at hv; rcases hv with rfl | rfl | rfl | rfl | rfl <;> exact ⟨fun _ => rfl, fun _ => trivial⟩⟩
theorem xn4 : xN 4 3 nf4 "FaceZones$History" := ⟨TX4, tyX4, rfl, inX4, tyX4_ok, ⟨xn4_i, xn4_j⟩, xn4_d, by intro v hv; simp only [nf4, List.mem_cons, List.mem_nil_iff, or_false] at hv; rcases hv with rfl | rfl | rfl <;> exact ⟨fun _ => rfl, fun _ => trivial⟩⟩
theorem xn5 : xN 5 3 nf5 "FaceZones$Triple" := ⟨TX5, tyX5, rfl, inX5, tyX5_ok, ⟨xn5_i, xn5_j⟩, xn5_d, by intro v hv; simp only [nf5, List.mem_cons, List.mem_nil_iff, or_false] at hv; rcases hv with rfl | rfl | rfl <;> exact ⟨fun _ => rfl, fun _ => trivial⟩⟩
theorem xn6 : xN 6 6 nf6 "FaceZones$ZoneList" := ⟨TX6, tyX6, rfl, inX6, tyX6_ok, ⟨xn6_i, xn6_j⟩, xn6_d, by intro v hv; simp only [nf6, List.mem_cons, List.mem_nil_iff, or_false] at hv; rcases hv with rfl | rfl | rfl | rfl | rfl | rfl <;> exact ⟨fun _ => rfl, fun _ => trivial⟩⟩
theorem xn7 : xN 7 12 nf7 "FaceZones" := ⟨TX7, tyX7, rfl, inX7, tyX7_ok, ⟨xn7_i, xn7_j⟩, xn7_d, by intro v hv; simp only [nf7, List.mem_cons, List.mem_nil_iff, or_false] at hv; rcases hv with rfl | rfl | rfl | rfl | rfl | rfl | rfl | rfl | rfl | rfl | rfl | rfl <;> exact ⟨fun _ => rfl, fun _ => trivial⟩⟩
theorem xn8 : xN 8 23 nf8 "FaceZonesModel" := ⟨TX8, tyX8, rfl, inX8, tyX8_ok, ⟨xn8_i, xn8_j⟩, xn8_d, by intro v hv; simp only [nf8, List.mem_cons, List.mem_nil_iff, or_false] at hv; rcases hv with rfl | rfl | rfl | rfl | rfl | rfl | rfl | rfl | rfl | rfl | rfl | rfl | rfl | rfl | rfl | rfl | rfl | rfl | rfl | rfl | rfl | rfl | rfl <;> exact ⟨fun _ => rfl, fun _ => trivial⟩⟩
theorem xtS : xTh 84 88 "java/lang/IllegalStateException" := ⟨by decide +kernel, by decide +kernel, ⟨klA_84, xtS_4⟩, xtS_1, xtS_2, xtS_3⟩
theorem xtA : xTh 140 144 "java/lang/IllegalArgumentException" := ⟨by decide +kernel, by decide +kernel, ⟨klA_140, xtA_4⟩, xtA_1, xtA_2, xtA_3⟩
theorem xtX : xTh 338 342 "java/lang/IndexOutOfBoundsException" := ⟨by decide +kernel, by decide +kernel, ⟨klA_338, xtX_4⟩, xtX_1, xtX_2, xtX_3⟩
