section P4
variable {n b : Nat} {G : xG} {rf sz sp ac zs ft : Int32} {gd : Bool} {D : List P3} {r : Nat}
theorem k_B_goRound (hD : dOk D) (hc : G b = mCl b rf sz sp gd ac zs ft) (h8 : ∃ th, G (b + 8) = oL 3 th) (hI : mIn G b (gSt D r)) (h14 : ∃ l, G (b + 14) = oI 125 l) (h15 : ∃ y, G (b + 15) = oB 4913 y) (h16 : ∃ w, G (b + 16) = oI 4913 w) :
    xK mB_goRound [.ref b] n G 0 0 (qVx n (fun H => mIn H b (gSt D (r + 1)) ∧ (∃ th, H (b + 8) = oL 3 th) ∧ (∃ x, H (b + 13) = oB 125 x) ∧ (∃ l, H (b + 14) = oI 125 l) ∧ (∃ y, H (b + 15) = oB 4913 y) ∧ (∃ w, H (b + 16) = oI 4913 w) ∧ ∀ k, k ≠ b + 8 → (k < b + 13 ∨ b + 17 ≤ k) → H k = G k)) xNo := by
  obtain ⟨PQ, hPQ⟩ : ∃ PQ : xG → Prop, ∀ H, PQ H ↔ (mIn H b (gSt D (r + 1)) ∧ (∃ th, H (b + 8) = oL 3 th) ∧ (∃ x, H (b + 13) = oB 125 x) ∧ (∃ l, H (b + 14) = oI 125 l) ∧ (∃ y, H (b + 15) = oB 4913 y) ∧ (∃ w, H (b + 16) = oI 4913 w) ∧ ∀ k, k ≠ b + 8 → (k < b + 13 ∨ b + 17 ≤ k) → H k = G k) := ⟨_, fun _ => Iff.rfl⟩
  have hPQ2 : (fun H => mIn H b (gSt D (r + 1)) ∧ (∃ th, H (b + 8) = oL 3 th) ∧ (∃ x, H (b + 13) = oB 125 x) ∧ (∃ l, H (b + 14) = oI 125 l) ∧ (∃ y, H (b + 15) = oB 4913 y) ∧ (∃ w, H (b + 16) = oI 4913 w) ∧ ∀ k, k ≠ b + 8 → (k < b + 13 ∨ b + 17 ≤ k) → H k = G k) = PQ := funext fun H => propext (hPQ H).symm
  rw [hPQ2]
  clear hPQ2
  obtain ⟨x, I, hx, hxI, hII⟩ := id hI
  obtain ⟨l0, h14⟩ := h14
  obtain ⟨y0, h15⟩ := h15
  obtain ⟨w0, h16⟩ := h16
  obtain ⟨th0, h8⟩ := h8
  obtain ⟨L, hL⟩ : ∃ L, L = (mbs I 125).map gat := ⟨_, rfl⟩
  have hLl : L.length = (mbs I 125).length := by rw [hL, List.length_map]
  have hl125 := mbs_le I 125
  have hlns := fun l => lns_iff hD hII l
  rw [← hL] at hlns
  obtain ⟨M, hM⟩ : ∃ M, M = mbs I 125 := ⟨_, rfl⟩
  have hMb : ∀ i k, M[i]? = some k → k < 125 ∧ L[i]? = some (gat k) := fun i k hk => by
    refine ⟨(mbs_in.mp (hM ▸ List.mem_of_getElem? hk)).1, ?_⟩
    rw [hL, List.getElem?_map, ← hM, hk]
    rfl
  rw [← hM] at hLl hl125
  have i0 : vp_in (0 : Int32) 3 := in3 (j := 0) (by decide)
  have i1 : vp_in (1 : Int32) 3 := in3 (j := 1) (by decide)
  have i2 : vp_in (2 : Int32) 3 := in3 (j := 2) (by decide)
  have j0 : (0 : Int32).toNatClampNeg = 0 := by decide
  have j1 : (1 : Int32).toNatClampNeg = 1 := by decide
  have j2 : (2 : Int32).toNatClampNeg = 2 := by decide
  have hnar1 : vp_nar .boolean 1 = 1 := by decide
  have hnar0 : vp_nar .boolean 0 = 0 := by decide
  -- the second half: the lines cross
  have second : ∀ (Z : List Nat) (y w : Nat → Int32) (H0 : xG), zLi y w Z → (∀ l, (∃ z ∈ Z, zat z = l) ↔ gZn D r l) → H0 b = mCl b rf sz sp gd ac zs ft → (∃ th, H0 (b + 8) = oL 3 th) → mIn H0 b (gSt D r) → (∃ l, H0 (b + 14) = oI 125 l) → H0 (b + 15) = oB 4913 y → H0 (b + 16) = oI 4913 w → (∀ k, k ≠ b + 8 → (k < b + 13 ∨ b + 17 ≤ k) → H0 k = G k) →
      xS mB_goRound n 0 0 (qVx n PQ) xNo 200 [(0, .ref b), (2, .int (nI Z.length)), (3, .int (nI 0))] [] n H0 0 0 := by
    intro Z y w H0 hz hZl c0 t0 I0 l0 y0 w0 f0
    have hZL := zLi_len hz
    obtain ⟨hzn, hz49, hzy, hzw⟩ := hz
    obtain ⟨K, hK⟩ : ∃ K, K = Z.map zat := ⟨_, rfl⟩
    have hKl : K.length = Z.length := by rw [hK, List.length_map]
    have hKg : ∀ i k, Z[i]? = some k → k < 4913 ∧ K[i]? = some (zat k) := fun i k hk => by
      refine ⟨hz49 k (List.mem_of_getElem? hk), ?_⟩
      rw [hK, List.getElem?_map, hk]
      rfl
    have hnx := nxt_iff hD hzn hZl
    rw [← hK] at hnx
    obtain ⟨Inv, hInv⟩ : ∃ Inv : (P3 → Prop) → xG → Prop, ∀ P H, Inv P H ↔ (mIn H b P ∧ (∃ th, H (b + 8) = oL 3 th) ∧ (∃ x, H (b + 13) = oB 125 x) ∧ ∀ k, k ≠ b + 8 → k ≠ b + 13 → H k = H0 k) := ⟨_, fun _ _ => Iff.rfl⟩
    have outer : ∀ (m i : Nat) (H : xG), Z.length - i < m → i ≤ Z.length → Inv (fun q => gSt D r q ∨ prp K i 0 q) H → xS mB_goRound n 0 0 (qVx n PQ) xNo 200 [(0, .ref b), (2, .int (nI Z.length)), (3, .int (nI i))] [] n H 0 0 := by
      intro m
      induction m with
      | zero => intro i H q; exact absurd q (by omega)
      | succ m ih =>
        intro i H q1 q2 hI
        refine xs_iload_n dB_goRound_200 rfl ?_
        refine xs_iload_n dB_goRound_201 rfl ?_
        refine xs_icmp_ge dB_goRound_202 (fun hg => ?_) (fun hg => ?_)
        · have hi : i = Z.length := by
            have := (nI_leI (by omega) (by omega)).mp hg
            omega
          obtain ⟨e1, e2, e3, e4⟩ := (hInv _ _).mp hI
          obtain ⟨l, l0⟩ := l0
          rw [hi, ← hKl] at e1
          exact xs_vret dB_goRound_313 rfl (by omega) (by omega) ⟨rfl, rfl, (hPQ H).mpr ⟨mIn_c e1 hnx, e2, e3, ⟨l, by rw [e4 _ (by omega) (by omega)]; exact l0⟩, ⟨y, by rw [e4 _ (by omega) (by omega)]; exact y0⟩, ⟨w, by rw [e4 _ (by omega) (by omega)]; exact w0⟩, fun k h1 h2 => (e4 k h1 (by omega)).trans (f0 k h1 h2)⟩⟩
        · have hi : i < Z.length := nI_lt_of (by omega) (by omega) hg
          obtain ⟨ki, hki⟩ : ∃ k, Z[i]? = some k := ⟨_, List.getElem?_eq_getElem hi⟩
          obtain ⟨ki49, kiK⟩ := hKg i ki hki
          have inner : ∀ (m j : Nat) (H : xG), i - j < m → j ≤ i → Inv (fun q => gSt D r q ∨ prp K i j q) H → xS mB_goRound n 0 0 (qVx n PQ) xNo 208 [(0, .ref b), (2, .int (nI Z.length)), (3, .int (nI i)), (4, .int (nI j))] [] n H 0 0 := by
            intro m
            induction m with
            | zero => intro j H q; exact absurd q (by omega)
            | succ m ih2 =>
              intro j H q1 q2 hI
              refine xs_iload dB_goRound_208 rfl ?_
              refine xs_iload_n dB_goRound_210 rfl ?_
              refine xs_icmp_ge dB_goRound_211 (fun hg => ?_) (fun hg => ?_)
              · have hj : j = i := by
                  have := (nI_leI (by omega) (by omega)).mp hg
                  omega
                subst hj
                refine xs_iinc (L2 := [(3, _), (0, _), (2, _), (4, _)]) dB_goRound_307 rfl rfl (by decide) rfl ?_
                refine xs_goto dB_goRound_310 ?_
                refine xs_pick (L2 := [(0, _), (2, _), (3, _)]) [1, 2, 0] rfl ?_
                rw [xii]
                obtain ⟨e1, e2⟩ := (hInv _ _).mp hI
                exact ih (j + 1) H (by omega) (by omega) ((hInv _ _).mpr ⟨mIn_c e1 (fun p _ => or_congr Iff.rfl (prp_e p)), e2⟩)
              · have hj : j < i := nI_lt_of (by omega) (by omega) hg
                obtain ⟨kj, hkj⟩ : ∃ k, Z[j]? = some k := ⟨_, List.getElem?_eq_getElem (by omega)⟩
                obtain ⟨kj49, kjK⟩ := hKg j kj hkj
                obtain ⟨e1, ⟨th, e2⟩, e3, e4⟩ := (hInv _ _).mp hI
                have cH : H b = mCl b rf sz sp gd ac zs ft := by rw [e4 _ (by omega) (by omega)]; exact c0
                have wH : H (b + 16) = oI 4913 w := by rw [e4 _ (by omega) (by omega)]; exact w0
                have vi : vp_in (nI i) 4913 := vp_in_nI (by omega) (by omega)
                have vj : vp_in (nI j) 4913 := vp_in_nI (by omega) (by omega)
                refine xs_aload_n dB_goRound_214 rfl ?_
                refine xs_get dB_goRound_215 flB_57 (by repeat (first | exact va_up_self _ _ _ | assumption | refine (va_up_ne _ _ (by omega)).trans ?_)) rfl ?_
                refine xs_iload_n dB_goRound_218 rfl ?_
                refine xs_iald dB_goRound_219 (by repeat (first | exact va_up_self _ _ _ | assumption | refine (va_up_ne _ _ (by omega)).trans ?_)) (by assumption) ?_
                refine xs_istore (L2 := [(5, _), (0, _), (2, _), (3, _), (4, _)]) dB_goRound_220 (by decide) rfl ?_
                refine xs_aload_n dB_goRound_222 rfl ?_
                refine xs_get dB_goRound_223 flB_57 (by repeat (first | exact va_up_self _ _ _ | assumption | refine (va_up_ne _ _ (by omega)).trans ?_)) rfl ?_
                refine xs_iload dB_goRound_226 rfl ?_
                refine xs_iald dB_goRound_228 (by repeat (first | exact va_up_self _ _ _ | assumption | refine (va_up_ne _ _ (by omega)).trans ?_)) (by assumption) ?_
                refine xs_istore (L2 := [(6, _), (5, _), (0, _), (2, _), (3, _), (4, _)]) dB_goRound_229 (by decide) rfl ?_
                rw [nI_clamp (by omega), nI_clamp (by omega), hzw i ki hki, hzw j kj hkj]
                obtain ⟨a1, a2, a3⟩ := zat_L ki49
                obtain ⟨a4, a5, a6⟩ := zat_L kj49
                have hb2 := cr_bd200 (zat_bd ki49) (zat_bd kj49)
                refine xs_aload_n dB_goRound_231 rfl ?_
                refine xs_iload dB_goRound_232 rfl ?_
                refine xs_sipush (v := 289) dB_goRound_234 (by decide) ?_
                refine xs_idiv dB_goRound_237 (by decide) ?_
                refine xs_bipush (v := 8) dB_goRound_238 (by decide) ?_
                refine xs_isub dB_goRound_240 ?_
                refine xs_i2l dB_goRound_241 ?_
                refine xs_iload dB_goRound_242 rfl ?_
                refine xs_bipush (v := 17) dB_goRound_244 (by decide) ?_
                refine xs_idiv dB_goRound_246 (by decide) ?_
                refine xs_bipush (v := 17) dB_goRound_247 (by decide) ?_
                refine xs_irem dB_goRound_249 (by decide) ?_
                refine xs_bipush (v := 8) dB_goRound_250 (by decide) ?_
                refine xs_isub dB_goRound_252 ?_
                refine xs_i2l dB_goRound_253 ?_
                refine xs_iload dB_goRound_254 rfl ?_
                refine xs_bipush (v := 17) dB_goRound_256 (by decide) ?_
                refine xs_irem dB_goRound_258 (by decide) ?_
                refine xs_bipush (v := 8) dB_goRound_259 (by decide) ?_
                refine xs_isub dB_goRound_261 ?_
                refine xs_i2l dB_goRound_262 ?_
                refine xs_iload dB_goRound_263 rfl ?_
                refine xs_sipush (v := 289) dB_goRound_265 (by decide) ?_
                refine xs_idiv dB_goRound_268 (by decide) ?_
                refine xs_bipush (v := 8) dB_goRound_269 (by decide) ?_
                refine xs_isub dB_goRound_271 ?_
                refine xs_i2l dB_goRound_272 ?_
                refine xs_iload dB_goRound_273 rfl ?_
                refine xs_bipush (v := 17) dB_goRound_275 (by decide) ?_
                refine xs_idiv dB_goRound_277 (by decide) ?_
                refine xs_bipush (v := 17) dB_goRound_278 (by decide) ?_
                refine xs_irem dB_goRound_280 (by decide) ?_
                refine xs_bipush (v := 8) dB_goRound_281 (by decide) ?_
                refine xs_isub dB_goRound_283 ?_
                refine xs_i2l dB_goRound_284 ?_
                refine xs_iload dB_goRound_285 rfl ?_
                refine xs_bipush (v := 17) dB_goRound_287 (by decide) ?_
                refine xs_irem dB_goRound_289 (by decide) ?_
                refine xs_bipush (v := 8) dB_goRound_290 (by decide) ?_
                refine xs_isub dB_goRound_292 ?_
                refine xs_i2l dB_goRound_293 ?_
                rw [a1, a2, a3, a4, a5, a6]
                refine xs_cV_vx (As := [_, _, _, _, _, _]) dB_goRound_294 lkB_98 (by repeat (first | exact va_up_self _ _ _ | assumption | refine (va_up_ne _ _ (by omega)).trans ?_)) (k_B_crossOf (p:=zat ki) (q:=zat kj) (bd_mono hb2 (by decide)) cH e2) rfl rfl (Nat.le_of_ble_eq_true rfl) ⟨by decide, by decide⟩ ⟨by omega, by omega⟩ ?_
                intro H2 ⟨th2, hH2, ht2⟩
                have c2 : H2 b = mCl b rf sz sp gd ac zs ft := by rw [hH2, va_up_ne _ _ (by omega)]; exact cH
                have t2 : H2 (b + 8) = oL 3 th2 := by rw [hH2, va_up_self]
                have m2 := mIn_fr e1 (show H2 (b + 13) = H (b + 13) by rw [hH2, va_up_ne _ _ (by omega)])
                refine xs_aload_n dB_goRound_297 rfl ?_
                refine xs_cV_vx (As := []) dB_goRound_298 lkB_327 (by repeat (first | exact va_up_self _ _ _ | assumption | refine (va_up_ne _ _ (by omega)).trans ?_)) (k_B_grow_ (bd_mono (bd_nz hb2) (by decide)) c2 t2 ht2 m2) rfl rfl (Nat.le_of_ble_eq_true rfl) ⟨by decide, by decide⟩ ⟨by omega, by omega⟩ ?_
                intro H3 ⟨g1, g2, g3⟩
                refine xs_iinc (L2 := [(4, _), (6, _), (5, _), (0, _), (2, _), (3, _)]) dB_goRound_301 rfl rfl (by decide) rfl ?_
                refine xs_goto dB_goRound_304 ?_
                refine xs_pick (L2 := [(0, _), (2, _), (3, _), (4, _)]) [3, 4, 5, 0] rfl ?_
                rw [xii]
                refine ih2 (j + 1) H3 (by omega) (by omega) ((hInv _ _).mpr ⟨mIn_c g1 (fun p _ => ?_), ⟨th2, by rw [g3 _ (by omega)]; exact t2⟩, g2, fun k h1 h2 => by rw [g3 k h2, hH2, va_up_ne _ _ h1]; exact e4 k h1 h2⟩)
                rw [or_assoc]
                exact or_congr Iff.rfl (prp_s hj kiK kjK p).symm
          refine xs_iconst (v := 0) dB_goRound_205 (by decide) ?_
          refine xs_istore (L2 := [(4, _), (0, _), (2, _), (3, _)]) dB_goRound_206 (by decide) rfl ?_
          refine xs_pick (L2 := [(0, _), (2, _), (3, _), (4, _)]) [1, 2, 3, 0] rfl ?_
          exact inner (i + 1) 0 H (by omega) (by omega) hI
    refine outer (Z.length + 1) 0 H0 (by omega) (by omega) ((hInv _ _).mpr ⟨mIn_c I0 (fun p _ => ⟨Or.inl, fun h => h.elim id (fun q => absurd q (prp_0 p))⟩), t0, ?_, fun _ _ _ => rfl⟩)
    obtain ⟨x, _, e, _⟩ := I0
    exact ⟨x, e⟩
  sorry
end P4
