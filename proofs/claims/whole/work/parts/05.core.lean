/-! the machine under a plain heap: things go by their numbers, G says what each holds, ad where each lies (and, of an array, its class) -/
abbrev xG : Type := Nat → va_E
def xV (ad : Nat → Nat × Nat) (v : Value) : Value := match v with
  | .ref a => .ref (ad a).1
  | v => v
def xVc (n : Nat) (v : Value) : Prop := match v with
  | .ref a => a < n
  | _ => True
def xA (ad : Nat → Nat × Nat) (k : Nat) (e : va_E) : va_E := match e with
  | .inl (_, m, .inl f) => .inl ((ad k).2, m, .inl f)
  | .inl (_, m, .inr (.inl f)) => .inl ((ad k).2, m, .inr (.inl f))
  | .inl (_, m, .inr (.inr (.inl f))) => .inl ((ad k).2, m, .inr (.inr (.inl f)))
  | .inl (_, m, .inr (.inr (.inr (.inl f)))) => .inl ((ad k).2, m, .inr (.inr (.inr (.inl f))))
  | .inl (_, m, .inr (.inr (.inr (.inr f)))) => .inl ((ad k).2, m, .inr (.inr (.inr (.inr (fun j => (f j).map (fun a => (ad a).1))))))
  | .inr (c, fs) => .inr (c, fs.map (xV ad))
def xEc (n : Nat) (e : va_E) : Prop := match e with
  | .inl (_, _, .inr (.inr (.inr (.inr f)))) => ∀ j a, f j = some a → a < n
  | .inl _ => True
  | .inr (_, fs) => ∀ v ∈ fs, xVc n v
def xTy (t : Nat) : FieldType := match t with
  | 0 => .int
  | 1 => .long
  | 2 => .boolean
  | 3 => .object "FaceZones$Triple"
  | _ => .object "FaceZones$Crystal"
def xW (n : Nat) (ad : Nat → Nat × Nat) (G : xG) : va_W := (List.range n).map fun k => ((ad k).1, xA ad k (G k))
theorem xW_get {n k : Nat} {ad : Nat → Nat × Nat} {G : xG} (h : k < n) : (xW n ad G)[k]? = some ((ad k).1, xA ad k (G k)) := by
  simp [xW, h]
theorem xW_set {n k : Nat} {ad : Nat → Nat × Nat} {G : xG} {e : va_E} (h : k < n) : (xW n ad G).set k ((ad k).1, xA ad k e) = xW n ad (va_up G k e) := by
  apply List.ext_getElem?
  intro j
  by_cases hj : j = k
  · subst hj
    rw [List.getElem?_set_self (by simp [xW, h]), xW_get h, va_up_self]
  · rw [List.getElem?_set_ne (Ne.symm hj)]
    by_cases hn : j < n
    · rw [xW_get hn, xW_get hn, va_up_ne _ _ hj]
    · rw [List.getElem?_eq_none (by simp [xW]; omega), List.getElem?_eq_none (by simp [xW]; omega)]
theorem xV_ext {n : Nat} {ad ad' : Nat → Nat × Nat} {v : Value} (hX : ∀ j, j < n → ad' j = ad j) (hc : xVc n v) : xV ad' v = xV ad v := by
  cases v with
  | ref a => show Value.ref _ = Value.ref _; rw [hX a hc]
  | _ => rfl
theorem xA_ext {n k : Nat} {ad ad' : Nat → Nat × Nat} {e : va_E} (hX : ∀ j, j < n → ad' j = ad j) (hk : k < n) (hc : xEc n e) : xA ad' k e = xA ad k e := by
  rcases e with ⟨t, m, f | f | f | f | f⟩ | ⟨c, fs⟩
  · simp only [xA, hX k hk]
  · simp only [xA, hX k hk]
  · simp only [xA, hX k hk]
  · simp only [xA, hX k hk]
  · have h : (fun j => (f j).map (fun a => (ad' a).1)) = (fun j => (f j).map (fun a => (ad a).1)) := by
      funext j
      cases hf : f j with
      | none => rfl
      | some a => simp only [Option.map_some, hX a (hc j a hf)]
    simp only [xA, hX k hk, h]
  · have h : fs.map (xV ad') = fs.map (xV ad) := List.map_congr_left fun v hv => xV_ext hX (hc v hv)
    simp only [xA, h]
theorem xW_ext {n : Nat} {ad ad' : Nat → Nat × Nat} {G : xG} (hX : ∀ j, j < n → ad' j = ad j) (hc : ∀ k, k < n → xEc n (G k)) : xW n ad' G = xW n ad G :=
  List.map_congr_left fun k hk => by
    have hk := List.mem_range.mp hk
    rw [hX k hk, xA_ext hX hk (hc k hk)]
theorem xW_push {n : Nat} {ad ad' : Nat → Nat × Nat} {G : xG} {e : va_E} (hX : ∀ j, j < n → ad' j = ad j) (hc : ∀ k, k < n → xEc n (G k)) : xW n ad G ++ [((ad' n).1, xA ad' n e)] = xW (n + 1) ad' (va_up G n e) := by
  show _ = (List.range (n + 1)).map _
  rw [List.range_succ, List.map_append, ← xW_ext hX hc]
  congr 1
  · exact List.map_congr_left fun k hk => by
      have hk := List.mem_range.mp hk
      rw [va_up_ne _ _ (by omega)]
  · simp [va_up_self]
theorem xVc_mono {n n' : Nat} {v : Value} (h : n ≤ n') (hc : xVc n v) : xVc n' v := by
  cases v with
  | ref a => exact Nat.lt_of_lt_of_le hc h
  | _ => trivial
theorem xEc_mono {n n' : Nat} {e : va_E} (h : n ≤ n') (hc : xEc n e) : xEc n' e := by
  rcases e with ⟨t, m, f | f | f | f | f⟩ | ⟨c, fs⟩
  · trivial
  · trivial
  · trivial
  · trivial
  · exact fun j a hf => Nat.lt_of_lt_of_le (hc j a hf) h
  · exact fun v hv => xVc_mono h (hc v hv)
/-- the heap H holds the things below n, as G says; s tells the arrays' classes -/
def xH (D : va_G) (A : Nat → Prop) (ad : Nat → Nat × Nat) (n : Nat) (G : xG) (s : State) (H : Heap) : Prop :=
  va_P D vwCl (xW n ad G) H ∧ va_D A (xW n ad G) ∧ (∀ k, k < n → xEc n (G k)) ∧ ∀ k t x, k < n → G k = .inl (t, x) → ArrOfT s (ad k).2 (xTy t) ∧ va_RA s (ad k).2 (xTy t)
theorem xH.moved {D : va_G} {A : Nat → Prop} {ad : Nat → Nat × Nat} {n : Nat} {G : xG} {s t : State} {H : Heap} (hvm : s.vm.Alike t.vm) (h : xH D A ad n G s H) : xH D A ad n G t H :=
  ⟨h.1, h.2.1, h.2.2.1, fun k u x hk hg => ⟨arrOfT_moved hvm (h.2.2.2 k u x hk hg).1, (h.2.2.2 k u x hk hg).2.moved hvm⟩⟩
theorem xH.ext {D : va_G} {A : Nat → Prop} {ad ad' : Nat → Nat × Nat} {n : Nat} {G : xG} {s : State} {H : Heap} (hX : ∀ j, j < n → ad' j = ad j) (h : xH D A ad n G s H) : xH D A ad' n G s H := by
  obtain ⟨h1, h2, h3, h4⟩ := h
  rw [← xW_ext hX h3] at h1 h2
  exact ⟨h1, h2, h3, fun k u x hk hg => by rw [hX k hk]; exact h4 k u x hk hg⟩
def xAO : List String := ["FaceZones$Crystal", "FaceZones$Triple"]
/-- what a state says besides: the classes, the static words, the strings -/
def xU (D : va_G) (A : Nat → Prop) (U : State) : Prop :=
  (va_K D vwCl [] U ∧ ∀ w ∈ xNW, va_Nw w U) ∧ (vx_Zq Bundle.tN "UNASSIGNED_STACK" Bundle.steD A U U.heap ∧ vx_Zq Bundle.tN "SUPPRESSED_SENTINEL" Bundle.listD A U U.heap) ∧ (∀ q ∈ xST, ∃ a, vk_R q.1 q.2.1 q.2.2 a U) ∧ ∀ CC ∈ xAO, va_AO CC U
def xws (M : xM) : List Cond := Cond.code M.1 M.2.1 M.2.2.1 M.2.2.2.1 :: xTB
abbrev xRm (M : xM) (mc ms : Nat) : Room := { frames := M.2.2.2.2.1, cells := mc, slots := ms, locals := M.2.2.2.2.2.1 }
def xQ (n0 : Nat) (ad0 : Nat → Nat × Nat) (D : va_G) (A : Nat → Prop) (Q : Option Value → Nat → xG → Prop) : Array Value → State → Outcome → State → Prop := fun _ st o t =>
  ∃ (v : Option Value) (n : Nat) (G : xG) (ad : Nat → Nat × Nat), o = .returned (v.map (xV ad)) ∧ Q v n G ∧ n0 ≤ n ∧ (∀ k, k < n0 → ad k = ad0 k) ∧ (∀ w, v = some w → xVc n w) ∧ xH D A ad n G t t.heap ∧ va_F A st t
def xX (n0 : Nat) (ad0 : Nat → Nat × Nat) (D : va_G) (A : Nat → Prop) (X : String → Nat → xG → Prop) : String → State → State → Prop := fun E st t =>
  ∃ (n : Nat) (G : xG) (ad : Nat → Nat × Nat), X E n G ∧ n0 ≤ n ∧ (∀ k, k < n0 → ad k = ad0 k) ∧ xH D A ad n G t t.heap ∧ va_F A st t
/-- a method's contract: called with av over the n things of G it returns (Q) or throws (X), makes at most mc cells of ms slots -/
def xK (M : xM) (av : List Value) (n : Nat) (G : xG) (mc ms : Nat) (Q : Option Value → Nat → xG → Prop) (X : String → Nat → xG → Prop) : Prop :=
  ∀ (l : Launch), l.stackTraces = false → ∀ (D : va_G) (A : Nat → Prop) (ad : Nat → Nat × Nat) (sz : Nat), (∀ q, sz ≤ q → A q) →
    vx_Met l M.1 (xws M) (xRm M mc ms) (va_Pc (av.map (xV ad)) (fun U => U.heap.size = sz ∧ (∀ v ∈ av, xVc n v) ∧ xU D A U ∧ xH D A ad n G U U.heap)) (xQ n ad D A Q) (xX n ad D A X) mc ms A
/-- what stays while a method runs -/
def xC (M : xM) (p : Program) (l : Launch) (s : State) (m : MethodId) (args : Array Value) (meth : Method) (cd : Code) (D : va_G) (A : Nat → Prop) : Prop :=
  (p.tables.exec = Jvm.exec ∧ cd.code = M.2.1 ∧ meth.sig.returnType = M.2.2.2.1 ∧ cd.maxLocals = M.2.2.1) ∧
  (s.vm.findClass M.1.cls = some m.cls ∧ (∀ w ∈ xTB, w.before args s = true) ∧ meth.locks = false ∧ meth.name = M.1.name) ∧
  (l.stackTraces = false ∧ (∀ q, s.heap.size ≤ q → A q) ∧ xU D A s) ∧ cd.exceptionTable.toList = tableOf M.2.2.2.2.2.2
def xL (ad : Nat → Nat × Nat) (L : List (Nat × Value)) : List (Nat × Value) := L.map fun q => (q.1, xV ad q.2)
/-- the machine in the method M at pc, with locals L and stack st over the n things of G, k cells and c slots made so far, comes to M's end -/
def xS (M : xM) (n0 mc ms : Nat) (Q : Option Value → Nat → xG → Prop) (X : String → Nat → xG → Prop) (pc : Nat) (L : List (Nat × Value)) (st : List Value) (n : Nat) (G : xG) (k c : Nat) : Prop :=
  ∀ (p : Program) (l : Launch) (e : Env) (s : State) (m : MethodId) (args : Array Value) (below : List Frame) (meth : Method) (cd : Code) (D : va_G) (A : Nat → Prop) (ad0 ad : Nat → Nat × Nat) (H : Heap) (locs : List Loc) (ls : Array Slot),
    xC M p l s m args meth cd D A → xH D A ad n G s H → va_S A s.heap H locs → ((∀ j, j < n0 → ad j = ad0 j) ∧ n0 ≤ n) → lv_has ls M.2.2.1 (xL ad L) → ((∀ q ∈ L, xVc n q.2) ∧ ∀ v ∈ st, xVc n v) →
    W p l e (xRm M mc ms) s m args below meth cd H locs k c (vx_MQ below (xQ n0 ad0 D A Q) (xX n0 ad0 D A X) args s mc ms A) (F0 m pc ls (st.map (xV ad)))
theorem xws_good {M : xM} (hc : Cond.code M.1 M.2.1 M.2.2.1 M.2.2.2.1 ∈ xTB) : GoodIn xTB (xws M) := fun w hw => by
  rcases List.mem_cons.mp hw with rfl | h
  · exact xTB_good _ hc
  · exact xTB_good _ h
theorem xU.blind {D : va_G} {A : Nat → Prop} {s U : State} (hW : s.WarmedH U.vm) (hh : ∀ a : Nat, a < s.heap.size → ¬ A a → U.heap[a]? = s.heap[a]?) (h : xU D A s) : xU D A U :=
  ⟨⟨va_K.moved hW.alike h.1.1, fun w hw => xNW_warm w hw s U hW (h.1.2 w hw)⟩, ⟨(h.2.1.1.kept hh).moved hW.alike, (h.2.1.2.kept hh).moved hW.alike⟩, fun q hq => by
    obtain ⟨a, ha⟩ := h.2.2.1 q hq
    exact ⟨a, vk_R.warm hW ha⟩, fun CC hC => va_AO.moved hW.alike (h.2.2.2 CC hC)⟩
theorem xPc_blind {D : va_G} {A : Nat → Prop} {ad : Nat → Nat × Nat} {n sz : Nat} {G : xG} {av : List Value} : FrameBlind (va_Pc (av.map (xV ad)) (fun U => U.heap.size = sz ∧ (∀ v ∈ av, xVc n v) ∧ xU D A U ∧ xH D A ad n G U U.heap)) := by
  intro a U g mk ⟨h1, h2, h3, h4, h5⟩
  refine ⟨h1, h2, h3, ?_, h5.moved (t := U.calling g mk a) (Vm.Alike.refl U.vm)⟩
  exact xU.blind (s := U) (U := U.calling g mk a) (State.WarmedH.refl U) (fun _ _ _ => rfl) h4
theorem xlg_len (ad : Nat → Nat × Nat) : ∀ av : List Value, (lg_sl (av.map (xV ad))).length = (lg_sl av).length
  | [] => rfl
  | v :: vs => by
    have h := xlg_len ad vs
    have hc : (xV ad v).category = v.category := by cases v <;> rfl
    simp only [lg_sl, List.map_cons, List.flatMap_cons, List.length_append] at h ⊢
    rw [h, hc]
    by_cases hz : v.category = 2 <;> simp [hz]
theorem xlv_args (ad : Nat → Nat × Nat) : ∀ (av : List Value) (i : Nat), lv_args i (av.map (xV ad)) = xL ad (lv_args i av)
  | [], _ => rfl
  | v :: vs, i => by
    have hc : (xV ad v).category = v.category := by cases v <;> rfl
    simp only [List.map_cons, lv_args, hc, xL]
    congr 1
    exact xlv_args ad vs _
theorem xlv_mem : ∀ (av : List Value) (i : Nat), ∀ q ∈ lv_args i av, q.2 ∈ av
  | [], _, q, h => by cases h
  | v :: vs, i, q, h => by
    simp only [lv_args] at h
    rcases List.mem_cons.mp h with rfl | h
    · exact List.mem_cons_self
    · exact List.mem_cons_of_mem _ (xlv_mem vs _ q h)
/-- a contract out of a walk of the body -/
theorem xK_of {M : xM} {av : List Value} {n mc ms : Nat} {G : xG} {Q : Option Value → Nat → xG → Prop} {X : String → Nat → xG → Prop} (hy : plainName M.1.cls = true) (hh : M.2.2.2.2.2.2 = []) (hlen : (lg_sl av).length ≤ M.2.2.1)
    (B : xS M n mc ms Q X 0 (lv_args 0 av) [] n G 0 0) : xK M av n G mc ms Q X := by
  intro l hlt D A ad sz hA
  refine vx_ofW (cc := M.2.1) (maxL := M.2.2.1) (ret := M.2.2.2.1) (ws' := xTB) hy rfl ?_
  intro p e s m args below meth cd s₁ Bd hml hex ⟨hargs, hsz, hcl, hu, hH⟩
  subst hargs
  subst hsz
  have hts : ∀ w ∈ xTB, w.before (av.map (xV ad)).toArray s = true := fun w hw => atoms_spec (ws := xws M) Bd.pre w (List.mem_cons_of_mem _ hw)
  have hC : xC M p l s m (av.map (xV ad)).toArray meth cd D A := by
    refine ⟨⟨Bd.exec, Bd.bytes, Bd.returns, hml⟩, ⟨findClass_of_methodNamed Bd.named, hts, Bd.notSynchronized, (name_of_methodNamed Bd.named Bd.method).1⟩, ⟨hlt, hA, hu⟩, ?_⟩
    rw [hh]
    exact List.eq_nil_iff_forall_not_mem.mpr hex
  rw [lg_entry_eq]
  have hl := lv_entry (av.map (xV ad)) (n := M.2.2.1) (by rw [xlg_len]; exact hlen)
  rw [xlv_args] at hl
  exact B p l e s m _ below meth cd D A ad ad s.heap [] _ hC hH va_S.rf ⟨fun _ _ => rfl, Nat.le_refl _⟩ hl ⟨fun q hq => hcl _ (xlv_mem av 0 q hq), fun v hv => by cases hv⟩
theorem xSc_cons {n : Nat} {v : Value} {st : List Value} (h : xVc n v) (hs : ∀ w ∈ st, xVc n w) : ∀ w ∈ v :: st, xVc n w := fun w hw => (List.mem_cons.mp hw).elim (fun e => e ▸ h) (hs w)
theorem xSc_tail {n : Nat} {v : Value} {st : List Value} (h : ∀ w ∈ v :: st, xVc n w) : ∀ w ∈ st, xVc n w := fun w hw => h w (List.mem_cons_of_mem _ hw)
theorem xSc_head {n : Nat} {v : Value} {st : List Value} (h : ∀ w ∈ v :: st, xVc n w) : xVc n v := h v List.mem_cons_self
