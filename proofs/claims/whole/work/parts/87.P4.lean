section P4
variable {n b : Nat} {G : xG} {rf sz sp ac zs ft : Int32} {gd : Bool} {D : List P3} {r : Nat}
theorem k_B_goRound (hD : dOk D) (hc : G b = mCl b rf sz sp gd ac zs ft) (h8 : ∃ th, G (b + 8) = oL 3 th) (hI : mIn G b (gSt D r)) (h14 : ∃ l, G (b + 14) = oI 125 l) (h15 : ∃ y, G (b + 15) = oB 4913 y) (h16 : ∃ w, G (b + 16) = oI 4913 w) :
    xK mB_goRound [.ref b] n G 0 0 (qVx n (fun H => mIn H b (gSt D (r + 1)) ∧ (∃ th, H (b + 8) = oL 3 th) ∧ (∃ x, H (b + 13) = oB 125 x) ∧ (∃ l, H (b + 14) = oI 125 l) ∧ (∃ y, H (b + 15) = oB 4913 y) ∧ (∃ w, H (b + 16) = oI 4913 w) ∧ ∀ k, k ≠ b + 8 → (k < b + 13 ∨ b + 17 ≤ k) → H k = G k)) xNo := by
  obtain ⟨PQ, hPQ⟩ : ∃ PQ : xG → Prop, ∀ H, PQ H ↔ (mIn H b (gSt D (r + 1)) ∧ (∃ th, H (b + 8) = oL 3 th) ∧ (∃ x, H (b + 13) = oB 125 x) ∧ (∃ l, H (b + 14) = oI 125 l) ∧ (∃ y, H (b + 15) = oB 4913 y) ∧ (∃ w, H (b + 16) = oI 4913 w) ∧ ∀ k, k ≠ b + 8 → (k < b + 13 ∨ b + 17 ≤ k) → H k = G k) := ⟨_, fun _ => Iff.rfl⟩
  have hPQ2 : (fun H => mIn H b (gSt D (r + 1)) ∧ (∃ th, H (b + 8) = oL 3 th) ∧ (∃ x, H (b + 13) = oB 125 x) ∧ (∃ l, H (b + 14) = oI 125 l) ∧ (∃ y, H (b + 15) = oB 4913 y) ∧ (∃ w, H (b + 16) = oI 4913 w) ∧ ∀ k, k ≠ b + 8 → (k < b + 13 ∨ b + 17 ≤ k) → H k = G k) = PQ := funext fun H => propext (hPQ H).symm
  rw [hPQ2]
  clear hPQ2
  obtain ⟨x, I, hx, hxI, hII⟩ := id hI
  obtain ⟨l0, h14⟩ := h14
  obtain ⟨y0, h15⟩ := h15
  obtain ⟨w0, h16⟩ := h16
  obtain ⟨th0, h8⟩ := h8
  obtain ⟨L, hL⟩ : ∃ L, L = (mbs I 125).map gat := ⟨_, rfl⟩
  have hLl : L.length = (mbs I 125).length := by rw [hL, List.length_map]
  have hl125 := mbs_le I 125
  have hlns := fun l => lns_iff hD hII l
  rw [← hL] at hlns
  obtain ⟨M, hM⟩ : ∃ M, M = mbs I 125 := ⟨_, rfl⟩
  have hMb : ∀ i k, M[i]? = some k → k < 125 ∧ L[i]? = some (gat k) := fun i k hk => by
    refine ⟨(mbs_in.mp (hM ▸ List.mem_of_getElem? hk)).1, ?_⟩
    rw [hL, List.getElem?_map, ← hM, hk]
    rfl
  rw [← hM] at hLl hl125
  have i0 : vp_in (0 : Int32) 3 := in3 (j := 0) (by decide)
  have i1 : vp_in (1 : Int32) 3 := in3 (j := 1) (by decide)
  have i2 : vp_in (2 : Int32) 3 := in3 (j := 2) (by decide)
  have j0 : (0 : Int32).toNatClampNeg = 0 := by decide
  have j1 : (1 : Int32).toNatClampNeg = 1 := by decide
  have j2 : (2 : Int32).toNatClampNeg = 2 := by decide
  have hnar1 : vp_nar .boolean 1 = 1 := by decide
  have hnar0 : vp_nar .boolean 0 = 0 := by decide
  -- the second half: the lines cross
  have second : ∀ (Z : List Nat) (y w : Nat → Int32) (H0 : xG), zLi y w Z → (∀ l, (∃ z ∈ Z, zat z = l) ↔ gZn D r l) → H0 b = mCl b rf sz sp gd ac zs ft → (∃ th, H0 (b + 8) = oL 3 th) → mIn H0 b (gSt D r) → (∃ l, H0 (b + 14) = oI 125 l) → H0 (b + 15) = oB 4913 y → H0 (b + 16) = oI 4913 w → (∀ k, k ≠ b + 8 → (k < b + 13 ∨ b + 17 ≤ k) → H0 k = G k) →
      xS mB_goRound n 0 0 (qVx n PQ) xNo 200 [(0, .ref b), (2, .int (nI Z.length)), (3, .int (nI 0))] [] n H0 0 0 := by
    intro Z y w H0 hz hZl c0 t0 I0 l0 y0 w0 f0
    have hZL := zLi_len hz
    obtain ⟨hzn, hz49, hzy, hzw⟩ := hz
    obtain ⟨K, hK⟩ : ∃ K, K = Z.map zat := ⟨_, rfl⟩
    have hKl : K.length = Z.length := by rw [hK, List.length_map]
    have hKg : ∀ i k, Z[i]? = some k → k < 4913 ∧ K[i]? = some (zat k) := fun i k hk => by
      refine ⟨hz49 k (List.mem_of_getElem? hk), ?_⟩
      rw [hK, List.getElem?_map, hk]
      rfl
    have hnx := nxt_iff hD hzn hZl
    rw [← hK] at hnx
    obtain ⟨Inv, hInv⟩ : ∃ Inv : (P3 → Prop) → xG → Prop, ∀ P H, Inv P H ↔ (mIn H b P ∧ (∃ th, H (b + 8) = oL 3 th) ∧ (∃ x, H (b + 13) = oB 125 x) ∧ ∀ k, k ≠ b + 8 → k ≠ b + 13 → H k = H0 k) := ⟨_, fun _ _ => Iff.rfl⟩
    have outer : ∀ (m i : Nat) (H : xG), Z.length - i < m → i ≤ Z.length → Inv (fun q => gSt D r q ∨ prp K i 0 q) H → xS mB_goRound n 0 0 (qVx n PQ) xNo 200 [(0, .ref b), (2, .int (nI Z.length)), (3, .int (nI i))] [] n H 0 0 := by
      intro m
      induction m with
      | zero => intro i H q; exact absurd q (by omega)
      | succ m ih =>
        intro i H q1 q2 hI
        refine xs_iload_n dB_goRound_200 rfl ?_
        refine xs_iload_n dB_goRound_201 rfl ?_
        refine xs_icmp_ge dB_goRound_202 (fun hg => ?_) (fun hg => ?_)
        · have hi : i = Z.length := by
            have := (nI_leI (by omega) (by omega)).mp hg
            omega
          obtain ⟨e1, e2, e3, e4⟩ := (hInv _ _).mp hI
          obtain ⟨l, l0⟩ := l0
          rw [hi, ← hKl] at e1
          exact xs_vret dB_goRound_313 rfl (by omega) (by omega) ⟨rfl, rfl, (hPQ H).mpr ⟨mIn_c e1 hnx, e2, e3, ⟨l, by rw [e4 _ (by omega) (by omega)]; exact l0⟩, ⟨y, by rw [e4 _ (by omega) (by omega)]; exact y0⟩, ⟨w, by rw [e4 _ (by omega) (by omega)]; exact w0⟩, fun k h1 h2 => (e4 k h1 (by omega)).trans (f0 k h1 h2)⟩⟩
        · have hi : i < Z.length := nI_lt_of (by omega) (by omega) hg
          obtain ⟨ki, hki⟩ : ∃ k, Z[i]? = some k := ⟨_, List.getElem?_eq_getElem hi⟩
          obtain ⟨ki49, kiK⟩ := hKg i ki hki
          have inner : ∀ (m j : Nat) (H : xG), i - j < m → j ≤ i → Inv (fun q => gSt D r q ∨ prp K i j q) H → xS mB_goRound n 0 0 (qVx n PQ) xNo 208 [(0, .ref b), (2, .int (nI Z.length)), (3, .int (nI i)), (4, .int (nI j))] [] n H 0 0 := by
            intro m
            induction m with
            | zero => intro j H q; exact absurd q (by omega)
            | succ m ih2 =>
              intro j H q1 q2 hI
              refine xs_iload dB_goRound_208 rfl ?_
              refine xs_iload_n dB_goRound_210 rfl ?_
              refine xs_icmp_ge dB_goRound_211 (fun hg => ?_) (fun hg => ?_)
              · have hj : j = i := by
                  have := (nI_leI (by omega) (by omega)).mp hg
                  omega
                subst hj
                refine xs_iinc (L2 := [(3, _), (0, _), (2, _), (4, _)]) dB_goRound_307 rfl rfl (by decide) rfl ?_
                refine xs_goto dB_goRound_310 ?_
                refine xs_pick (L2 := [(0, _), (2, _), (3, _)]) [1, 2, 0] rfl ?_
                rw [xii]
                obtain ⟨e1, e2⟩ := (hInv _ _).mp hI
                exact ih (j + 1) H (by omega) (by omega) ((hInv _ _).mpr ⟨mIn_c e1 (fun p _ => or_congr Iff.rfl (prp_e p)), e2⟩)
              · have hj : j < i := nI_lt_of (by omega) (by omega) hg
                obtain ⟨kj, hkj⟩ : ∃ k, Z[j]? = some k := ⟨_, List.getElem?_eq_getElem (by omega)⟩
                obtain ⟨kj49, kjK⟩ := hKg j kj hkj
                obtain ⟨e1, ⟨th, e2⟩, e3, e4⟩ := (hInv _ _).mp hI
                have cH : H b = mCl b rf sz sp gd ac zs ft := by rw [e4 _ (by omega) (by omega)]; exact c0
                have wH : H (b + 16) = oI 4913 w := by rw [e4 _ (by omega) (by omega)]; exact w0
                have vi : vp_in (nI i) 4913 := vp_in_nI (by omega) (by omega)
                have vj : vp_in (nI j) 4913 := vp_in_nI (by omega) (by omega)
                refine xs_aload_n dB_goRound_214 rfl ?_
                refine xs_get dB_goRound_215 flB_57 (by repeat (first | exact va_up_self _ _ _ | assumption | refine (va_up_ne _ _ (by omega)).trans ?_)) rfl ?_
                refine xs_iload_n dB_goRound_218 rfl ?_
                refine xs_iald dB_goRound_219 (by repeat (first | exact va_up_self _ _ _ | assumption | refine (va_up_ne _ _ (by omega)).trans ?_)) (by assumption) ?_
                refine xs_istore (L2 := [(5, _), (0, _), (2, _), (3, _), (4, _)]) dB_goRound_220 (by decide) rfl ?_
                refine xs_aload_n dB_goRound_222 rfl ?_
                refine xs_get dB_goRound_223 flB_57 (by repeat (first | exact va_up_self _ _ _ | assumption | refine (va_up_ne _ _ (by omega)).trans ?_)) rfl ?_
                refine xs_iload dB_goRound_226 rfl ?_
                refine xs_iald dB_goRound_228 (by repeat (first | exact va_up_self _ _ _ | assumption | refine (va_up_ne _ _ (by omega)).trans ?_)) (by assumption) ?_
                refine xs_istore (L2 := [(6, _), (5, _), (0, _), (2, _), (3, _), (4, _)]) dB_goRound_229 (by decide) rfl ?_
                rw [nI_clamp (by omega), nI_clamp (by omega), hzw i ki hki, hzw j kj hkj]
                obtain ⟨a1, a2, a3⟩ := zat_L ki49
                obtain ⟨a4, a5, a6⟩ := zat_L kj49
                have hb2 := cr_bd200 (zat_bd ki49) (zat_bd kj49)
                refine xs_aload_n dB_goRound_231 rfl ?_
                refine xs_iload dB_goRound_232 rfl ?_
                refine xs_sipush (v := 289) dB_goRound_234 (by decide) ?_
                refine xs_idiv dB_goRound_237 (by decide) ?_
                refine xs_bipush (v := 8) dB_goRound_238 (by decide) ?_
                refine xs_isub dB_goRound_240 ?_
                refine xs_i2l dB_goRound_241 ?_
                refine xs_iload dB_goRound_242 rfl ?_
                refine xs_bipush (v := 17) dB_goRound_244 (by decide) ?_
                refine xs_idiv dB_goRound_246 (by decide) ?_
                refine xs_bipush (v := 17) dB_goRound_247 (by decide) ?_
                refine xs_irem dB_goRound_249 (by decide) ?_
                refine xs_bipush (v := 8) dB_goRound_250 (by decide) ?_
                refine xs_isub dB_goRound_252 ?_
                refine xs_i2l dB_goRound_253 ?_
                refine xs_iload dB_goRound_254 rfl ?_
                refine xs_bipush (v := 17) dB_goRound_256 (by decide) ?_
                refine xs_irem dB_goRound_258 (by decide) ?_
                refine xs_bipush (v := 8) dB_goRound_259 (by decide) ?_
                refine xs_isub dB_goRound_261 ?_
                refine xs_i2l dB_goRound_262 ?_
                refine xs_iload dB_goRound_263 rfl ?_
                refine xs_sipush (v := 289) dB_goRound_265 (by decide) ?_
                refine xs_idiv dB_goRound_268 (by decide) ?_
                refine xs_bipush (v := 8) dB_goRound_269 (by decide) ?_
                refine xs_isub dB_goRound_271 ?_
                refine xs_i2l dB_goRound_272 ?_
                refine xs_iload dB_goRound_273 rfl ?_
                refine xs_bipush (v := 17) dB_goRound_275 (by decide) ?_
                refine xs_idiv dB_goRound_277 (by decide) ?_
                refine xs_bipush (v := 17) dB_goRound_278 (by decide) ?_
                refine xs_irem dB_goRound_280 (by decide) ?_
                refine xs_bipush (v := 8) dB_goRound_281 (by decide) ?_
                refine xs_isub dB_goRound_283 ?_
                refine xs_i2l dB_goRound_284 ?_
                refine xs_iload dB_goRound_285 rfl ?_
                refine xs_bipush (v := 17) dB_goRound_287 (by decide) ?_
                refine xs_irem dB_goRound_289 (by decide) ?_
                refine xs_bipush (v := 8) dB_goRound_290 (by decide) ?_
                refine xs_isub dB_goRound_292 ?_
                refine xs_i2l dB_goRound_293 ?_
                rw [a1, a2, a3, a4, a5, a6]
                refine xs_cV_vx (As := [_, _, _, _, _, _]) dB_goRound_294 lkB_98 (by repeat (first | exact va_up_self _ _ _ | assumption | refine (va_up_ne _ _ (by omega)).trans ?_)) (k_B_crossOf (p:=zat ki) (q:=zat kj) (bd_mono hb2 (by decide)) cH e2) rfl rfl (Nat.le_of_ble_eq_true rfl) ⟨by decide, by decide⟩ ⟨by omega, by omega⟩ ?_
                intro H2 ⟨th2, hH2, ht2⟩
                have c2 : H2 b = mCl b rf sz sp gd ac zs ft := by rw [hH2, va_up_ne _ _ (by omega)]; exact cH
                have t2 : H2 (b + 8) = oL 3 th2 := by rw [hH2, va_up_self]
                have m2 := mIn_fr e1 (show H2 (b + 13) = H (b + 13) by rw [hH2, va_up_ne _ _ (by omega)])
                refine xs_aload_n dB_goRound_297 rfl ?_
                refine xs_cV_vx (As := []) dB_goRound_298 lkB_327 (by repeat (first | exact va_up_self _ _ _ | assumption | refine (va_up_ne _ _ (by omega)).trans ?_)) (k_B_grow_ (bd_mono (bd_nz hb2) (by decide)) c2 t2 ht2 m2) rfl rfl (Nat.le_of_ble_eq_true rfl) ⟨by decide, by decide⟩ ⟨by omega, by omega⟩ ?_
                intro H3 ⟨g1, g2, g3⟩
                refine xs_iinc (L2 := [(4, _), (6, _), (5, _), (0, _), (2, _), (3, _)]) dB_goRound_301 rfl rfl (by decide) rfl ?_
                refine xs_goto dB_goRound_304 ?_
                refine xs_pick (L2 := [(0, _), (2, _), (3, _), (4, _)]) [3, 4, 5, 0] rfl ?_
                rw [xii]
                refine ih2 (j + 1) H3 (by omega) (by omega) ((hInv _ _).mpr ⟨mIn_c g1 (fun p _ => ?_), ⟨th2, by rw [g3 _ (by omega)]; exact t2⟩, g2, fun k h1 h2 => by rw [g3 k h2, hH2, va_up_ne _ _ h1]; exact e4 k h1 h2⟩)
                rw [or_assoc]
                exact or_congr Iff.rfl (prp_s hj kiK kjK p).symm
          refine xs_iconst (v := 0) dB_goRound_205 (by decide) ?_
          refine xs_istore (L2 := [(4, _), (0, _), (2, _), (3, _)]) dB_goRound_206 (by decide) rfl ?_
          refine xs_pick (L2 := [(0, _), (2, _), (3, _), (4, _)]) [1, 2, 3, 0] rfl ?_
          exact inner (i + 1) 0 H (by omega) (by omega) hI
    refine outer (Z.length + 1) 0 H0 (by omega) (by omega) ((hInv _ _).mpr ⟨mIn_c I0 (fun p _ => ⟨Or.inl, fun h => h.elim id (fun q => absurd q (prp_0 p))⟩), t0, ?_, fun _ _ _ => rfl⟩)
    obtain ⟨x, _, e, _⟩ := I0
    exact ⟨x, e⟩
  -- the first half: the members cross
  have first : ∀ (l : Nat → Int32) (H0 : xG), (∀ i k, M[i]? = some k → l i = nI k) → H0 b = mCl b rf sz sp gd ac zs ft → H0 (b + 14) = oI 125 l → mIn H0 b (gSt D r) → (∀ k, k ≠ b + 8 → (k < b + 13 ∨ b + 17 ≤ k) → H0 k = G k) →
      ∀ (y w : Nat → Int32), H0 (b + 15) = oB 4913 y → H0 (b + 16) = oI 4913 w → (∃ th, H0 (b + 8) = oL 3 th) → (∀ k, k < 4913 → y k = 0) →
      xS mB_goRound n 0 0 (qVx n PQ) xNo 31 [(0, .ref b), (1, .int (nI M.length)), (2, .int (nI 0)), (3, .int (nI 0))] [] n H0 0 0 := by
    intro l H0 hl c0 l0 I0 f0 y w y0 w0 t0 hy0
    obtain ⟨Inv, hInv⟩ : ∃ Inv : Nat → Nat → List Nat → xG → Prop, ∀ i j Z H, Inv i j Z H ↔ (∃ y w, zLi y w Z ∧ (∀ q, (∃ z ∈ Z, zat z = q) ↔ prp L i j q) ∧ (∃ th, H (b + 8) = oL 3 th) ∧ H (b + 15) = oB 4913 y ∧ H (b + 16) = oI 4913 w ∧ ∀ k, k ≠ b + 8 → k ≠ b + 15 → k ≠ b + 16 → H k = H0 k) := ⟨_, fun _ _ _ _ => Iff.rfl⟩
    have outer : ∀ (m i : Nat) (Z : List Nat) (H : xG), M.length - i < m → i ≤ M.length → Inv i 0 Z H → xS mB_goRound n 0 0 (qVx n PQ) xNo 31 [(0, .ref b), (1, .int (nI M.length)), (2, .int (nI Z.length)), (3, .int (nI i))] [] n H 0 0 := by
      intro m
      induction m with
      | zero => intro i Z H q; exact absurd q (by omega)
      | succ m ih =>
        intro i Z H q1 q2 hI
        refine xs_iload_n dB_goRound_31 rfl ?_
        refine xs_iload_n dB_goRound_32 rfl ?_
        refine xs_icmp_ge dB_goRound_33 (fun hg => ?_) (fun hg => ?_)
        · have hi : i = M.length := by
            have := (nI_leI (by omega) (by omega)).mp hg
            omega
          obtain ⟨y, w, e1, e2, e3, e4, e5, e6⟩ := (hInv _ _ _ _).mp hI
          refine xs_iconst (v := 0) dB_goRound_198 (by decide) ?_
          refine xs_istore_n (L2 := [(3, _), (0, _), (1, _), (2, _)]) dB_goRound_199 (by decide) rfl ?_
          refine xs_pick (L2 := [(0, _), (2, _), (3, _)]) [1, 3, 0] rfl ?_
          refine second Z y w H e1 (fun q => ?_) (by rw [e6 _ (by omega) (by omega) (by omega)]; exact c0) e3 (mIn_fr I0 (e6 _ (by omega) (by omega) (by omega))) ⟨l, by rw [e6 _ (by omega) (by omega) (by omega)]; exact l0⟩ e4 e5 (fun k h1 h2 => (e6 k h1 (by omega) (by omega)).trans (f0 k h1 h2))
          rw [e2, hi, ← hLl, hlns]
        · have hi : i < M.length := nI_lt_of (by omega) (by omega) hg
          obtain ⟨ki, hki⟩ : ∃ k, M[i]? = some k := ⟨_, List.getElem?_eq_getElem hi⟩
          obtain ⟨ki125, kiL⟩ := hMb i ki hki
          have inner : ∀ (m j : Nat) (Z : List Nat) (H : xG), i - j < m → j ≤ i → Inv i j Z H → xS mB_goRound n 0 0 (qVx n PQ) xNo 39 [(0, .ref b), (1, .int (nI M.length)), (2, .int (nI Z.length)), (3, .int (nI i)), (4, .int (nI j))] [] n H 0 0 := by
            intro m
            induction m with
            | zero => intro j Z H q; exact absurd q (by omega)
            | succ m ih2 =>
              intro j Z H q1 q2 hI
              refine xs_iload dB_goRound_39 rfl ?_
              refine xs_iload_n dB_goRound_41 rfl ?_
              refine xs_icmp_ge dB_goRound_42 (fun hg => ?_) (fun hg => ?_)
              · have hj : j = i := by
                  have := (nI_leI (by omega) (by omega)).mp hg
                  omega
                subst hj
                refine xs_iinc (L2 := [(3, _), (0, _), (1, _), (2, _), (4, _)]) dB_goRound_192 rfl rfl (by decide) rfl ?_
                refine xs_goto dB_goRound_195 ?_
                refine xs_pick (L2 := [(0, _), (1, _), (2, _), (3, _)]) [1, 2, 3, 0] rfl ?_
                rw [xii]
                obtain ⟨y, w, e1, e2, e3⟩ := (hInv _ _ _ _).mp hI
                exact ih (j + 1) Z H (by omega) (by omega) ((hInv _ _ _ _).mpr ⟨y, w, e1, fun q => (e2 q).trans (prp_e q), e3⟩)
              · have hj : j < i := nI_lt_of (by omega) (by omega) hg
                obtain ⟨kj, hkj⟩ : ∃ k, M[j]? = some k := ⟨_, List.getElem?_eq_getElem (by omega)⟩
                obtain ⟨kj125, kjL⟩ := hMb j kj hkj
                obtain ⟨y, w, e1, e2, ⟨th, e3⟩, e4, e5, e6⟩ := (hInv _ _ _ _).mp hI
                have cH : H b = mCl b rf sz sp gd ac zs ft := by rw [e6 _ (by omega) (by omega) (by omega)]; exact c0
                have lH : H (b + 14) = oI 125 l := by rw [e6 _ (by omega) (by omega) (by omega)]; exact l0
                have vi : vp_in (nI i) 125 := vp_in_nI (by omega) (by omega)
                have vj : vp_in (nI j) 125 := vp_in_nI (by omega) (by omega)
                refine xs_aload_n dB_goRound_45 rfl ?_
                refine xs_get dB_goRound_46 flB_51 (by repeat (first | exact va_up_self _ _ _ | assumption | refine (va_up_ne _ _ (by omega)).trans ?_)) rfl ?_
                refine xs_iload_n dB_goRound_49 rfl ?_
                refine xs_iald dB_goRound_50 (by repeat (first | exact va_up_self _ _ _ | assumption | refine (va_up_ne _ _ (by omega)).trans ?_)) (by assumption) ?_
                refine xs_istore (L2 := [(5, _), (0, _), (1, _), (2, _), (3, _), (4, _)]) dB_goRound_51 (by decide) rfl ?_
                refine xs_aload_n dB_goRound_53 rfl ?_
                refine xs_get dB_goRound_54 flB_51 (by repeat (first | exact va_up_self _ _ _ | assumption | refine (va_up_ne _ _ (by omega)).trans ?_)) rfl ?_
                refine xs_iload dB_goRound_57 rfl ?_
                refine xs_iald dB_goRound_59 (by repeat (first | exact va_up_self _ _ _ | assumption | refine (va_up_ne _ _ (by omega)).trans ?_)) (by assumption) ?_
                refine xs_istore (L2 := [(6, _), (5, _), (0, _), (1, _), (2, _), (3, _), (4, _)]) dB_goRound_60 (by decide) rfl ?_
                rw [nI_clamp (by omega), nI_clamp (by omega), hl i ki hki, hl j kj hkj]
                obtain ⟨a1, a2, a3⟩ := gat_L ki125
                obtain ⟨a4, a5, a6⟩ := gat_L kj125
                have hb2 := cr_bd9 (gat_bd ki125) (gat_bd kj125)
                refine xs_aload_n dB_goRound_62 rfl ?_
                refine xs_iload dB_goRound_63 rfl ?_
                refine xs_bipush (v := 25) dB_goRound_65 (by decide) ?_
                refine xs_idiv dB_goRound_67 (by decide) ?_
                refine xs_iconst (v := 2) dB_goRound_68 (by decide) ?_
                refine xs_isub dB_goRound_69 ?_
                refine xs_i2l dB_goRound_70 ?_
                refine xs_iload dB_goRound_71 rfl ?_
                refine xs_iconst (v := 5) dB_goRound_73 (by decide) ?_
                refine xs_idiv dB_goRound_74 (by decide) ?_
                refine xs_iconst (v := 5) dB_goRound_75 (by decide) ?_
                refine xs_irem dB_goRound_76 (by decide) ?_
                refine xs_iconst (v := 2) dB_goRound_77 (by decide) ?_
                refine xs_isub dB_goRound_78 ?_
                refine xs_i2l dB_goRound_79 ?_
                refine xs_iload dB_goRound_80 rfl ?_
                refine xs_iconst (v := 5) dB_goRound_82 (by decide) ?_
                refine xs_irem dB_goRound_83 (by decide) ?_
                refine xs_iconst (v := 2) dB_goRound_84 (by decide) ?_
                refine xs_isub dB_goRound_85 ?_
                refine xs_i2l dB_goRound_86 ?_
                refine xs_iload dB_goRound_87 rfl ?_
                refine xs_bipush (v := 25) dB_goRound_89 (by decide) ?_
                refine xs_idiv dB_goRound_91 (by decide) ?_
                refine xs_iconst (v := 2) dB_goRound_92 (by decide) ?_
                refine xs_isub dB_goRound_93 ?_
                refine xs_i2l dB_goRound_94 ?_
                refine xs_iload dB_goRound_95 rfl ?_
                refine xs_iconst (v := 5) dB_goRound_97 (by decide) ?_
                refine xs_idiv dB_goRound_98 (by decide) ?_
                refine xs_iconst (v := 5) dB_goRound_99 (by decide) ?_
                refine xs_irem dB_goRound_100 (by decide) ?_
                refine xs_iconst (v := 2) dB_goRound_101 (by decide) ?_
                refine xs_isub dB_goRound_102 ?_
                refine xs_i2l dB_goRound_103 ?_
                refine xs_iload dB_goRound_104 rfl ?_
                refine xs_iconst (v := 5) dB_goRound_106 (by decide) ?_
                refine xs_irem dB_goRound_107 (by decide) ?_
                refine xs_iconst (v := 2) dB_goRound_108 (by decide) ?_
                refine xs_isub dB_goRound_109 ?_
                refine xs_i2l dB_goRound_110 ?_
                rw [a1, a2, a3, a4, a5, a6]
                refine xs_cV_vx (As := [_, _, _, _, _, _]) dB_goRound_111 lkB_98 (by repeat (first | exact va_up_self _ _ _ | assumption | refine (va_up_ne _ _ (by omega)).trans ?_)) (k_B_crossOf (p:=gat ki) (q:=gat kj) (bd_mono hb2 (by decide)) cH e3) rfl rfl (Nat.le_of_ble_eq_true rfl) ⟨by decide, by decide⟩ ⟨by omega, by omega⟩ ?_
                intro H2 ⟨th2, hH2, ht2⟩
                obtain ⟨p, hp⟩ : ∃ p, p = nz (cr (gat ki) (gat kj)) := ⟨_, rfl⟩
                have hpb : bd 9 p := by rw [hp]; exact bd_nz hb2
                rw [← hp] at ht2
                obtain ⟨u0, u1, u2⟩ := ht2
                have hzl := zix_lt hpb
                have c2 : H2 b = mCl b rf sz sp gd ac zs ft := by rw [hH2, va_up_ne _ _ (by omega)]; exact cH
                have t2 : H2 (b + 8) = oL 3 th2 := by rw [hH2, va_up_self]
                have y2 : H2 (b + 15) = oB 4913 y := by rw [hH2, va_up_ne _ _ (by omega)]; exact e4
                have w2 : H2 (b + 16) = oI 4913 w := by rw [hH2, va_up_ne _ _ (by omega)]; exact e5
                have f2 : ∀ k, k ≠ b + 8 → k ≠ b + 15 → k ≠ b + 16 → H2 k = H0 k := fun k h1 h2 h3 => by rw [hH2, va_up_ne _ _ h1]; exact e6 k h1 h2 h3
                clear hH2 e3 e4 e5 e6 cH lH hI
                refine xs_ldc2 dB_goRound_114 kcB_323 ?_
                refine xs_aload_n dB_goRound_117 rfl ?_
                refine xs_get dB_goRound_118 flB_32 (by repeat (first | exact va_up_self _ _ _ | assumption | refine (va_up_ne _ _ (by omega)).trans ?_)) rfl ?_
                refine xs_iconst (v := 0) dB_goRound_121 (by decide) ?_
                refine xs_lald dB_goRound_122 (by repeat (first | exact va_up_self _ _ _ | assumption | refine (va_up_ne _ _ (by omega)).trans ?_)) (by assumption) ?_
                refine xs_ldc2 dB_goRound_123 kcB_235 ?_
                refine xs_ladd dB_goRound_126 ?_
                refine xs_lmul dB_goRound_127 ?_
                refine xs_ldc2 dB_goRound_128 kcB_325 ?_
                refine xs_aload_n dB_goRound_131 rfl ?_
                refine xs_get dB_goRound_132 flB_32 (by repeat (first | exact va_up_self _ _ _ | assumption | refine (va_up_ne _ _ (by omega)).trans ?_)) rfl ?_
                refine xs_iconst (v := 1) dB_goRound_135 (by decide) ?_
                refine xs_lald dB_goRound_136 (by repeat (first | exact va_up_self _ _ _ | assumption | refine (va_up_ne _ _ (by omega)).trans ?_)) (by assumption) ?_
                refine xs_ldc2 dB_goRound_137 kcB_235 ?_
                refine xs_ladd dB_goRound_140 ?_
                refine xs_lmul dB_goRound_141 ?_
                refine xs_ladd dB_goRound_142 ?_
                refine xs_aload_n dB_goRound_143 rfl ?_
                refine xs_get dB_goRound_144 flB_32 (by repeat (first | exact va_up_self _ _ _ | assumption | refine (va_up_ne _ _ (by omega)).trans ?_)) rfl ?_
                refine xs_iconst (v := 2) dB_goRound_147 (by decide) ?_
                refine xs_lald dB_goRound_148 (by repeat (first | exact va_up_self _ _ _ | assumption | refine (va_up_ne _ _ (by omega)).trans ?_)) (by assumption) ?_
                refine xs_ladd dB_goRound_149 ?_
                refine xs_ldc2 dB_goRound_150 kcB_235 ?_
                refine xs_ladd dB_goRound_153 ?_
                rw [j0, j1, j2, u0, u1, u2, zix_L hpb]
                refine xs_l2i dB_goRound_154 ?_
                rw [iL_i, ← iI_nat]
                have vz : vp_in (nI (zix p)) 4913 := vp_in_nI hzl (by omega)
                have next : ∀ (Z : List Nat) (H : xG), Inv i (j + 1) Z H → xS mB_goRound n 0 0 (qVx n PQ) xNo 186 [(0, .ref b), (1, .int (nI M.length)), (2, .int (nI Z.length)), (3, .int (nI i)), (4, .int (nI j))] [] n H 0 0 := by
                  intro Z H hI
                  refine xs_iinc (L2 := [(4, _), (0, _), (1, _), (2, _), (3, _)]) dB_goRound_186 rfl rfl (by decide) rfl ?_
                  refine xs_goto dB_goRound_189 ?_
                  refine xs_pick (L2 := [(0, _), (1, _), (2, _), (3, _), (4, _)]) [1, 2, 3, 4, 0] rfl ?_
                  rw [xii]
                  exact ih2 (j + 1) Z H (by omega) (by omega) hI
                have hps := prp_s hj kiL kjL
                rw [← hp] at hps
                refine xs_istore (L2 := [(7, _), (6, _), (5, _), (0, _), (1, _), (2, _), (3, _), (4, _)]) dB_goRound_155 (by decide) rfl ?_
                refine xs_aload_n dB_goRound_157 rfl ?_
                refine xs_get dB_goRound_158 flB_54 (by repeat (first | exact va_up_self _ _ _ | assumption | refine (va_up_ne _ _ (by omega)).trans ?_)) rfl ?_
                refine xs_iload dB_goRound_161 rfl ?_
                refine xs_zald dB_goRound_163 (by repeat (first | exact va_up_self _ _ _ | assumption | refine (va_up_ne _ _ (by omega)).trans ?_)) (by assumption) ?_
                rw [nI_clamp (by omega), e1.2.2.1 _ hzl]
                refine xs_ifb_ne dB_goRound_164 (fun hb => ?_) (fun hb => ?_)
                · have hin := of_decide_eq_true hb
                  refine xs_pick (L2 := [(0, _), (1, _), (2, _), (3, _), (4, _)]) [3, 4, 5, 6, 7] rfl ?_
                  refine next Z H2 ((hInv _ _ _ _).mpr ⟨y, w, e1, fun q => ?_, ⟨th2, t2⟩, y2, w2, f2⟩)
                  rw [hps, ← e2]
                  exact ⟨Or.inl, fun h => h.elim id (fun e => ⟨_, hin, by rw [zat_zix hpb, e]⟩)⟩
                · have hin := of_decide_eq_false hb
                  have hroom := zLi_room e1 hzl hin
                  have vf : vp_in (nI Z.length) 4913 := vp_in_nI hroom (by omega)
                  refine xs_aload_n dB_goRound_167 rfl ?_
                  refine xs_get dB_goRound_168 flB_54 (by repeat (first | exact va_up_self _ _ _ | assumption | refine (va_up_ne _ _ (by omega)).trans ?_)) rfl ?_
                  refine xs_iload dB_goRound_171 rfl ?_
                  refine xs_iconst (v := 1) dB_goRound_173 (by decide) ?_
                  refine xs_zast dB_goRound_174 (by repeat (first | exact va_up_self _ _ _ | assumption | refine (va_up_ne _ _ (by omega)).trans ?_)) (by assumption) ?_
                  refine xs_aload_n dB_goRound_175 rfl ?_
                  refine xs_get dB_goRound_176 flB_57 (by repeat (first | exact va_up_self _ _ _ | assumption | refine (va_up_ne _ _ (by omega)).trans ?_)) rfl ?_
                  refine xs_iload_n dB_goRound_179 rfl ?_
                  refine xs_iload dB_goRound_180 rfl ?_
                  refine xs_iast dB_goRound_182 (by repeat (first | exact va_up_self _ _ _ | assumption | refine (va_up_ne _ _ (by omega)).trans ?_)) (by assumption) ?_
                  refine xs_iinc (L2 := [(2, _), (7, _), (6, _), (5, _), (0, _), (1, _), (3, _), (4, _)]) dB_goRound_183 rfl rfl (by decide) rfl ?_
                  refine xs_pick (L2 := [(0, _), (1, _), (2, _), (3, _), (4, _)]) [4, 5, 0, 6, 7] rfl ?_
                  rw [xii, hnar1, nI_clamp (by omega), nI_clamp (by omega)]
                  have hgo := next (Z ++ [zix p]) (va_up (va_up H2 (b + 15) (oB 4913 (upd y (zix p) 1))) (b + 16) (oI 4913 (upd w Z.length (nI (zix p))))) ((hInv _ _ _ _).mpr ⟨_, _, zLi_add e1 hzl hin, fun q => ?_, ⟨th2, by rw [va_up_ne _ _ (by omega), va_up_ne _ _ (by omega)]; exact t2⟩, by rw [va_up_ne _ _ (by omega), va_up_self], va_up_self _ _ _, fun k h1 h2 h3 => by rw [va_up_ne _ _ h3, va_up_ne _ _ h2]; exact f2 k h1 h2 h3⟩)
                  · rw [List.length_append, List.length_singleton] at hgo
                    exact hgo
                  · rw [hps, ← e2]
                    constructor
                    · rintro ⟨z, h1, h2⟩
                      rcases List.mem_append.mp h1 with e | e
                      · exact Or.inl ⟨z, e, h2⟩
                      · rw [List.mem_singleton.mp e, zat_zix hpb] at h2
                        exact Or.inr h2.symm
                    · rintro (⟨z, h1, h2⟩ | e)
                      · exact ⟨z, List.mem_append.mpr (Or.inl h1), h2⟩
                      · exact ⟨zix p, List.mem_append.mpr (Or.inr (List.mem_singleton.mpr rfl)), by rw [zat_zix hpb, e]⟩
          refine xs_iconst (v := 0) dB_goRound_36 (by decide) ?_
          refine xs_istore (L2 := [(4, _), (0, _), (1, _), (2, _), (3, _)]) dB_goRound_37 (by decide) rfl ?_
          refine xs_pick (L2 := [(0, _), (1, _), (2, _), (3, _), (4, _)]) [1, 2, 3, 4, 0] rfl ?_
          exact inner (i + 1) 0 Z H (by omega) (by omega) hI
    refine outer (M.length + 1) 0 [] H0 (by omega) (by omega) ((hInv _ _ _ _).mpr ⟨y, w, ⟨List.nodup_nil, fun z h => absurd h List.not_mem_nil, fun k hk => by rw [hy0 k hk]; rfl, fun i z h => by cases h⟩, fun q => ⟨fun ⟨z, h, _⟩ => absurd h List.not_mem_nil, fun h => absurd h (prp_0 q)⟩, t0, y0, w0, fun _ _ _ _ => rfl⟩)
  -- all lines are forgotten first
  have clear_ : ∀ (m z : Nat) (l y : Nat → Int32) (H : xG), 4913 - z < m → z ≤ 4913 → (∀ i k, M[i]? = some k → l i = nI k) → (∀ k, k < z → y k = 0) → H b = mCl b rf sz sp gd ac zs ft → H (b + 14) = oI 125 l → H (b + 15) = oB 4913 y → (∀ k, k ≠ b + 14 → k ≠ b + 15 → H k = G k) →
      xS mB_goRound n 0 0 (qVx n PQ) xNo 7 [(0, .ref b), (1, .int (nI M.length)), (2, .int (nI z))] [] n H 0 0 := by
    intro m
    induction m with
    | zero => intro z l y H q; exact absurd q (by omega)
    | succ m ih =>
      intro z l y H q1 q2 hl hy cH lH yH fH
      refine xs_iload_n dB_goRound_7 rfl ?_
      refine xs_sipush (v := 4913) dB_goRound_8 (by decide) ?_
      refine xs_icmp_ge dB_goRound_11 (fun hg => ?_) (fun hg => ?_)
      · have hz : z = 4913 := by
          have := (nI_leI (a := 4913) (by omega) (by omega)).mp hg
          omega
        subst hz
        refine xs_iconst (v := 0) dB_goRound_27 (by decide) ?_
        refine xs_istore_n (L2 := [(2, _), (0, _), (1, _)]) dB_goRound_28 (by decide) rfl ?_
        refine xs_iconst (v := 0) dB_goRound_29 (by decide) ?_
        refine xs_istore_n (L2 := [(3, _), (2, _), (0, _), (1, _)]) dB_goRound_30 (by decide) rfl ?_
        refine xs_pick (L2 := [(0, _), (1, _), (2, _), (3, _)]) [2, 3, 1, 0] rfl ?_
        exact first l H hl cH lH (mIn_fr hI (fH _ (by omega) (by omega))) (fun k h1 h2 => fH k (by omega) (by omega)) y w0 yH (by rw [fH _ (by omega) (by omega)]; exact h16) ⟨th0, by rw [fH _ (by omega) (by omega)]; exact h8⟩ hy
      · have hz : z < 4913 := nI_lt_of (b := 4913) (by omega) (by omega) hg
        have vz : vp_in (nI z) 4913 := vp_in_nI (by omega) (by omega)
        refine xs_aload_n dB_goRound_14 rfl ?_
        refine xs_get dB_goRound_15 flB_54 (by repeat (first | exact va_up_self _ _ _ | assumption | refine (va_up_ne _ _ (by omega)).trans ?_)) rfl ?_
        refine xs_iload_n dB_goRound_18 rfl ?_
        refine xs_iconst (v := 0) dB_goRound_19 (by decide) ?_
        refine xs_zast dB_goRound_20 (by repeat (first | exact va_up_self _ _ _ | assumption | refine (va_up_ne _ _ (by omega)).trans ?_)) (by assumption) ?_
        refine xs_iinc (L2 := [(2, _), (0, _), (1, _)]) dB_goRound_21 rfl rfl (by decide) rfl ?_
        refine xs_goto dB_goRound_24 ?_
        refine xs_pick (L2 := [(0, _), (1, _), (2, _)]) [1, 2, 0] rfl ?_
        rw [xii, hnar0, nI_clamp (by omega)]
        refine ih (z + 1) l (upd y z 0) _ (by omega) (by omega) hl (fun k hk => ?_) (by rw [va_up_ne _ _ (by omega)]; exact cH) (by rw [va_up_ne _ _ (by omega)]; exact lH) (va_up_self _ _ _) (fun k h1 h2 => by rw [va_up_ne _ _ h2]; exact fH k h1 h2)
        simp only [upd]
        by_cases e : k = z
        · rw [if_pos e]
        · rw [if_neg e]
          exact hy k (by omega)
  refine xK_of2 (L0 := [(0, _)]) (by decide +kernel) rfl (Nat.le_of_ble_eq_true rfl) rfl ?_
  refine xs_aload_n dB_goRound_0 rfl ?_
  refine xs_cV_ix (As := []) dB_goRound_1 lkB_320 (by repeat (first | exact va_up_self _ _ _ | assumption | refine (va_up_ne _ _ (by omega)).trans ?_)) (k_B_members hc hx hxI h14) rfl rfl (Nat.le_of_ble_eq_true rfl) ⟨by decide, by decide⟩ ⟨by omega, by omega⟩ ?_
  intro q H ⟨q1, l, hH, hl⟩
  subst q1
  rw [← hM] at hl ⊢
  have e15 : H (b + 15) = oB 4913 y0 := by rw [hH, va_up_ne _ _ (by omega)]; exact h15
  refine xs_istore_n (L2 := [(1, _), (0, _)]) dB_goRound_4 (by decide) rfl ?_
  refine xs_iconst (v := 0) dB_goRound_5 (by decide) ?_
  refine xs_istore_n (L2 := [(2, _), (1, _), (0, _)]) dB_goRound_6 (by decide) rfl ?_
  refine xs_pick (L2 := [(0, _), (1, _), (2, _)]) [2, 1, 0] rfl ?_
  exact clear_ 4914 0 l y0 H (by omega) (by omega) hl (fun k hk => absurd hk (by omega)) (by rw [hH, va_up_ne _ _ (by omega)]; exact hc) (by rw [hH, va_up_self]) e15 (fun k h1 h2 => by rw [hH, va_up_ne _ _ h1])
end P4
