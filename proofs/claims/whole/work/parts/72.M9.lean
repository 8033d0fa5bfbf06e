theorem fm_filter {α β : Type} {P : α → Bool} {Q : β → Bool} {g g2 : α → List β} : ∀ (l : List α), (∀ x ∈ l, (if P x = true then g x else []) = (g2 x).filter Q) → (l.filter P).flatMap g = (l.flatMap g2).filter Q
  | [], _ => rfl
  | x :: l, h => by
    have ih := fm_filter l (fun y hy => h y (List.mem_cons_of_mem _ hy))
    have hx := h x List.mem_cons_self
    rw [List.flatMap_cons, List.filter_append, ← ih, ← hx, List.filter_cons]
    split
    · rw [List.flatMap_cons]
    · rfl
theorem cb_filter (l : List Int) (P : Int → Bool) : cb (l.filter P) = (cb l).filter (fun q => P q.1 && (P q.2.1 && P q.2.2)) := by
  unfold cb
  refine fm_filter l (fun x _ => ?_)
  by_cases hx : P x = true
  · rw [if_pos hx]
    refine fm_filter l (fun y _ => ?_)
    by_cases hy : P y = true
    · rw [if_pos hy, List.filter_map]
      congr 1
      apply List.filter_congr
      intro z _
      simp [hx, hy]
    · rw [if_neg hy]
      symm
      rw [List.filter_eq_nil_iff]
      intro q hq
      obtain ⟨z, _, rfl⟩ := List.mem_map.mp hq
      simp [hy]
  · rw [if_neg hx]
    symm
    rw [List.filter_eq_nil_iff]
    intro q hq
    obtain ⟨y, _, hq⟩ := List.mem_flatMap.mp hq
    obtain ⟨z, _, rfl⟩ := List.mem_map.mp hq
    simp [hx]
theorem frm_dsl (s : Int) (c : P3) : frm s c = (cb (dsl 19)).filter (fun q => zEq s q c) := by
  unfold frm nums
  rw [cb_filter, List.filter_filter]
  apply List.filter_congr
  intro q _
  by_cases h : zEq s q c = true
  · have hp := zEq_perm (zEq_P.mp h)
    have h1 : occ c q.1 = true := occ_iff.mpr (by omega)
    have h2 : occ c q.2.1 = true := occ_iff.mpr (by omega)
    have h3 : occ c q.2.2 = true := occ_iff.mpr (by omega)
    simp [h, h1, h2, h3]
  · simp [h]
def asl : List Int := (List.range 19).map (fun k : Nat => (k : Int) - 9)
theorem asl_get {k : Nat} (hk : k < 19) : asl[k]? = some ((k : Int) - 9) := by
  unfold asl
  rw [List.getElem?_map, List.getElem?_range hk]
  rfl
theorem dsl_get {k : Nat} (hk : k < 19) : (dsl 19)[k]? = some (9 - (k : Int)) := by
  unfold dsl
  rw [List.getElem?_map, List.getElem?_range hk]
  rfl
theorem asl_nodup : asl.Nodup := by decide
theorem asl_mem (x : Int) : x ∈ asl ↔ x ∈ dsl 19 := by
  unfold asl dsl
  simp only [List.mem_map, List.mem_range]
  constructor
  · rintro ⟨k, hk, rfl⟩
    exact ⟨18 - k, by omega, by omega⟩
  · rintro ⟨k, hk, rfl⟩
    exact ⟨18 - k, by omega, by omega⟩
theorem frm_asl (s : Int) (c : P3) : ((cb asl).filter (fun q => zEq s q c)).length = (frm s c).length := by
  rw [frm_dsl]
  have n1 : ((cb asl).filter (fun q => zEq s q c)).Nodup := (cb_nodup asl_nodup).filter _
  have n2 : ((cb (dsl 19)).filter (fun q => zEq s q c)).Nodup := (cb_nodup (dsl_nodup 19)).filter _
  have hm : ∀ q, q ∈ cb asl ↔ q ∈ cb (dsl 19) := fun q => by rw [cb_mem, cb_mem, asl_mem, asl_mem, asl_mem]
  have h1 := nodup_len _ _ n1 (fun q hq => List.mem_filter.mpr ⟨(hm q).mp (List.mem_filter.mp hq).1, (List.mem_filter.mp hq).2⟩ : ∀ q ∈ (cb asl).filter (fun q => zEq s q c), q ∈ (cb (dsl 19)).filter (fun q => zEq s q c))
  have h2 := nodup_len _ _ n2 (fun q hq => List.mem_filter.mpr ⟨(hm q).mpr (List.mem_filter.mp hq).1, (List.mem_filter.mp hq).2⟩ : ∀ q ∈ (cb (dsl 19)).filter (fun q => zEq s q c), q ∈ (cb asl).filter (fun q => zEq s q c))
  omega
theorem take_ninA {α : Type} {l : List α} {i : Nat} {q : α} (hn : l.Nodup) (h : l[i]? = some q) : q ∉ l.take i := by
  intro hq
  rw [take_q h] at hn
  exact (List.nodup_append.mp hn).2.2 q hq q List.mem_cons_self rfl
theorem pre_nin {l : List Int} {a b c : Nat} {x y z : Int} (hn : l.Nodup) (hx : l[a]? = some x) (hy : l[b]? = some y) (hz : l[c]? = some z) : (x, y, z) ∉ pA l a ++ (pB l x b ++ pC l x y c) := by
  intro h
  rcases List.mem_append.mp h with h | h
  · obtain ⟨x2, hx2, h⟩ := List.mem_flatMap.mp h
    obtain ⟨y2, _, h⟩ := List.mem_flatMap.mp h
    obtain ⟨z2, _, e⟩ := List.mem_map.mp h
    simp only [Prod.mk.injEq] at e
    exact take_ninA hn hx (e.1 ▸ hx2)
  · rcases List.mem_append.mp h with h | h
    · obtain ⟨y2, hy2, h⟩ := List.mem_flatMap.mp h
      obtain ⟨z2, _, e⟩ := List.mem_map.mp h
      simp only [Prod.mk.injEq] at e
      exact take_ninA hn hy (e.2.1 ▸ hy2)
    · obtain ⟨z2, hz2, e⟩ := List.mem_map.mp h
      simp only [Prod.mk.injEq] at e
      exact take_ninA hn hz (e.2.2 ▸ hz2)
theorem take16 {α : Type} (X : List α) (y : α) : (X ++ [y]).take 16 = if X.length < 16 then X.take 16 ++ [y] else X.take 16 := by
  split
  · rw [List.take_of_length_le (by rw [List.length_append, List.length_singleton]; omega), List.take_of_length_le (by omega)]
  · rw [List.take_append_of_le_length (by omega)]
section M9
variable {n b : Nat} {G : xG} {rf sz sp ac zs ft : Int32} {gd : Bool} {th : Nat → Int64}
theorem k_B_formOf {r i : Nat} {f : Nat → Int32} {V : zV} {c : zF} (hr : G r = oI 70 f) (hV : zOk V) (hf : mrow f V) (hc : V.1[i]? = some c) :
    xK mB_formOf [.ref r, .int (nI i)] n G 0 0 (qI n G (nI (frm V.2.1 c.1).length)) xNo := by
  obtain ⟨E, hE⟩ : ∃ E : P3 → Bool, E = fun q => zEq V.2.1 q c.1 := ⟨_, rfl⟩
  obtain ⟨l, hl⟩ : ∃ l, l = asl := ⟨_, rfl⟩
  have hll : l.length = 19 := by rw [hl]; rfl
  have hlg : ∀ k : Nat, k < 19 → l[k]? = some ((k : Int) - 9) := fun k hk => by rw [hl]; exact asl_get hk
  have hres : (frm V.2.1 c.1).length = ((cb l).filter E).length := by rw [hE, hl, frm_asl]
  rw [hres]
  have lt2 : ∀ a : Nat, a ≤ 19 → (iI 9 < iI ((a : Int) - 9) ↔ a = 19) := fun a ha => by
    rw [iI_lt (by decide) (by omega)]
    omega
  have inc : ∀ a : Nat, iI ((a : Int) - 9) + Int32.ofInt 1 = iI (((a + 1 : Nat) : Int) - 9) := fun a => by
    rw [show Int32.ofInt 1 = iI 1 from rfl, iI_add]
    congr 1
    omega
  have loop3 : ∀ (u v : Nat) (x y : Int), u < 19 → v < 19 → x = (u : Int) - 9 → y = (v : Int) - 9 → (xS mB_formOf n 0 0 (qI n G (nI ((cb l).filter E).length)) xNo 15 [(0, .ref r), (1, .int (nI i)), (2, .int (nI ((pA l u ++ pB l x (v + 1)).filter E).length)), (3, .int (iI x)), (4, .int (iI (((v + 1 : Nat) : Int) - 9)))] [] n G 0 0) →
      ∀ (m w : Nat), 19 - w < m → w ≤ 19 → xS mB_formOf n 0 0 (qI n G (nI ((cb l).filter E).length)) xNo 26 [(0, .ref r), (1, .int (nI i)), (2, .int (nI ((pA l u ++ (pB l x v ++ pC l x y w)).filter E).length)), (3, .int (iI x)), (4, .int (iI y)), (5, .int (iI ((w : Int) - 9)))] [] n G 0 0 := by
    intro u v x y hu hv hx hy hout m
    induction m with
    | zero => intro w q; exact absurd q (by omega)
    | succ m ih =>
      intro w q1 q2
      have hly : l[v]? = some y := by rw [hy]; exact hlg v hv
      refine xs_iload dB_formOf_26 rfl ?_
      refine xs_bipush (v := 9) dB_formOf_28 (by decide) ?_
      refine xs_icmp_gt dB_formOf_30 (fun hg => ?_) (fun hg => ?_)
      · have hw : w = 19 := (lt2 w q2).mp hg
        subst hw
        rw [pC_e (by omega), ← pB_s hly]
        refine xs_iinc (L2 := [(4, _), (0, _), (1, _), (2, _), (3, _), (5, _)]) dB_formOf_60 rfl rfl (by decide) rfl ?_
        refine xs_goto dB_formOf_63 ?_
        refine xs_pick (L2 := [(0, _), (1, _), (2, _), (3, _), (4, _)]) [1, 2, 3, 4, 0] rfl ?_
        rw [hy, inc]
        exact hout
      · have hw : w < 19 := by
          rcases Nat.lt_or_ge w 19 with e | e
          · exact e
          · exact absurd ((lt2 w q2).mpr (by omega)) hg
        have hs := frm_s (x := x) (y := y) (a := u) (b := v) (E := E) (hlg w hw)
        have hgo := ih (w + 1) (by omega) (by omega)
        rw [hs, List.length_append] at hgo
        refine xs_iload_n dB_formOf_33 rfl ?_
        refine xs_aload_n dB_formOf_34 rfl ?_
        refine xs_iload_n dB_formOf_35 rfl ?_
        refine xs_iload_n dB_formOf_36 rfl ?_
        refine xs_iload dB_formOf_37 rfl ?_
        refine xs_iload dB_formOf_39 rfl ?_
        refine xs_cS_i (As := [_, _, _, _, _]) dB_formOf_41 lkB_152 (k_B_isLike hr hV hf hc (x:=x) (y:=y) (z:=((w : Int) - 9)) (by omega) (by omega) (by omega)) rfl rfl (Nat.le_of_ble_eq_true rfl) ⟨by decide, by decide⟩ ⟨by omega, by omega⟩ ?_
        have hEq : zEq V.2.1 (x, y, (w : Int) - 9) c.1 = E (x, y, (w : Int) - 9) := by rw [hE]
        rw [hEq]
        refine xs_ifb_eq dB_formOf_44 (fun h => ?_) (fun h => ?_)
        · rw [h, if_neg (by decide), List.length_nil, Nat.add_zero] at hgo
          refine xs_iconst (v := 0) dB_formOf_51 (by decide) ?_
          refine xs_iadd dB_formOf_52 ?_
          rw [show nI ((pA l u ++ (pB l x v ++ pC l x y w)).filter E).length + 0 = nI ((pA l u ++ (pB l x v ++ pC l x y w)).filter E).length from nI_add2 _ 0]
          refine xs_istore_n (L2 := [(2, _), (0, _), (1, _), (3, _), (4, _), (5, _)]) dB_formOf_53 (by decide) rfl ?_
          refine xs_iinc (L2 := [(5, _), (2, _), (0, _), (1, _), (3, _), (4, _)]) dB_formOf_54 rfl rfl (by decide) rfl ?_
          refine xs_goto dB_formOf_57 ?_
          refine xs_pick (L2 := [(0, _), (1, _), (2, _), (3, _), (4, _), (5, _)]) [2, 3, 1, 4, 5, 0] rfl ?_
          rw [inc]
          exact hgo
        · rw [h, if_pos rfl, List.length_singleton] at hgo
          refine xs_iconst (v := 1) dB_formOf_47 (by decide) ?_
          refine xs_goto dB_formOf_48 ?_
          refine xs_iadd dB_formOf_52 ?_
          rw [add1]
          refine xs_istore_n (L2 := [(2, _), (0, _), (1, _), (3, _), (4, _), (5, _)]) dB_formOf_53 (by decide) rfl ?_
          refine xs_iinc (L2 := [(5, _), (2, _), (0, _), (1, _), (3, _), (4, _)]) dB_formOf_54 rfl rfl (by decide) rfl ?_
          refine xs_goto dB_formOf_57 ?_
          refine xs_pick (L2 := [(0, _), (1, _), (2, _), (3, _), (4, _), (5, _)]) [2, 3, 1, 4, 5, 0] rfl ?_
          rw [inc]
          exact hgo
  have loop2 : ∀ (u : Nat) (x : Int), u < 19 → x = (u : Int) - 9 → (xS mB_formOf n 0 0 (qI n G (nI ((cb l).filter E).length)) xNo 5 [(0, .ref r), (1, .int (nI i)), (2, .int (nI ((pA l (u + 1)).filter E).length)), (3, .int (iI (((u + 1 : Nat) : Int) - 9)))] [] n G 0 0) →
      ∀ (m v : Nat), 19 - v < m → v ≤ 19 → xS mB_formOf n 0 0 (qI n G (nI ((cb l).filter E).length)) xNo 15 [(0, .ref r), (1, .int (nI i)), (2, .int (nI ((pA l u ++ pB l x v).filter E).length)), (3, .int (iI x)), (4, .int (iI ((v : Int) - 9)))] [] n G 0 0 := by
    intro u x hu hx hout m
    induction m with
    | zero => intro v q; exact absurd q (by omega)
    | succ m ih =>
      intro v q1 q2
      have hlx : l[u]? = some x := by rw [hx]; exact hlg u hu
      refine xs_iload dB_formOf_15 rfl ?_
      refine xs_bipush (v := 9) dB_formOf_17 (by decide) ?_
      refine xs_icmp_gt dB_formOf_19 (fun hg => ?_) (fun hg => ?_)
      · have hv : v = 19 := (lt2 v q2).mp hg
        subst hv
        rw [pB_e (by omega), ← pA_s hlx]
        refine xs_iinc (L2 := [(3, _), (0, _), (1, _), (2, _), (4, _)]) dB_formOf_66 rfl rfl (by decide) rfl ?_
        refine xs_goto dB_formOf_69 ?_
        refine xs_pick (L2 := [(0, _), (1, _), (2, _), (3, _)]) [1, 2, 3, 0] rfl ?_
        rw [hx, inc]
        exact hout
      · have hv : v < 19 := by
          rcases Nat.lt_or_ge v 19 with e | e
          · exact e
          · exact absurd ((lt2 v q2).mpr (by omega)) hg
        refine xs_bipush (v := (-9)) dB_formOf_22 (by decide) ?_
        refine xs_istore (L2 := [(5, _), (0, _), (1, _), (2, _), (3, _), (4, _)]) dB_formOf_24 (by decide) rfl ?_
        refine xs_pick (L2 := [(0, _), (1, _), (2, _), (3, _), (4, _), (5, _)]) [1, 2, 3, 4, 5, 0] rfl ?_
        have hgo := loop3 u v x _ hu hv hx rfl (ih (v + 1) (by omega) (by omega)) 20 0 (by omega) (by omega)
        rw [show pC l x ((v : Int) - 9) 0 = [] from rfl, List.append_nil] at hgo
        exact hgo
  have loop1 : ∀ (m u : Nat), 19 - u < m → u ≤ 19 → xS mB_formOf n 0 0 (qI n G (nI ((cb l).filter E).length)) xNo 5 [(0, .ref r), (1, .int (nI i)), (2, .int (nI ((pA l u).filter E).length)), (3, .int (iI ((u : Int) - 9)))] [] n G 0 0 := by
    intro m
    induction m with
    | zero => intro u q; exact absurd q (by omega)
    | succ m ih =>
      intro u q1 q2
      refine xs_iload_n dB_formOf_5 rfl ?_
      refine xs_bipush (v := 9) dB_formOf_6 (by decide) ?_
      refine xs_icmp_gt dB_formOf_8 (fun hg => ?_) (fun hg => ?_)
      · have hu : u = 19 := (lt2 u q2).mp hg
        subst hu
        rw [pA_e (by omega)]
        refine xs_iload_n dB_formOf_72 rfl ?_
        exact xs_iret dB_formOf_73 rfl rfl (by omega) (by omega) ⟨rfl, rfl, rfl⟩
      · have hu : u < 19 := by
          rcases Nat.lt_or_ge u 19 with e | e
          · exact e
          · exact absurd ((lt2 u q2).mpr (by omega)) hg
        refine xs_bipush (v := (-9)) dB_formOf_11 (by decide) ?_
        refine xs_istore (L2 := [(4, _), (0, _), (1, _), (2, _), (3, _)]) dB_formOf_13 (by decide) rfl ?_
        refine xs_pick (L2 := [(0, _), (1, _), (2, _), (3, _), (4, _)]) [1, 2, 3, 4, 0] rfl ?_
        have hgo := loop2 u _ hu rfl (ih (u + 1) (by omega) (by omega)) 20 0 (by omega) (by omega)
        rw [show pB l ((u : Int) - 9) 0 = [] from rfl, List.append_nil] at hgo
        exact hgo
  refine xK_of2 (L0 := [(0, _), (1, _)]) (by decide +kernel) rfl (Nat.le_of_ble_eq_true rfl) rfl ?_
  refine xs_iconst (v := 0) dB_formOf_0 (by decide) ?_
  refine xs_istore_n (L2 := [(2, _), (0, _), (1, _)]) dB_formOf_1 (by decide) rfl ?_
  refine xs_bipush (v := (-9)) dB_formOf_2 (by decide) ?_
  refine xs_istore_n (L2 := [(3, _), (2, _), (0, _), (1, _)]) dB_formOf_4 (by decide) rfl ?_
  refine xs_pick (L2 := [(0, _), (1, _), (2, _), (3, _)]) [2, 3, 1, 0] rfl ?_
  exact loop1 20 0 (by omega) (by omega)
theorem k_B_addForms {r i : Nat} {f : Nat → Int32} {V : zV} {c : zF} (hc : G b = mCl b rf sz sp gd ac zs ft) (h8 : G (b + 8) = oL 3 th) (hr : G r = oI 70 f) (hrb : b < r ∧ r < b + 8) (hV : zOk V) (hf : mrow f V) (hci : V.1[i]? = some c) :
    xK mB_addForms [.ref b, .ref r, .int (nI i)] n G 0 0 (qIx n (fun q H => q = nI (zMis V c).length ∧ (∃ th, H (b + 8) = oL 3 th) ∧ (∃ f2 W2, H r = oI 70 f2 ∧ mrow f2 W2 ∧ zOk W2 ∧ (V.1.length + (zMis V c).length ≤ 16 → W2 = zFrm V c)) ∧ rfr b r G H)) xNo := by
  have hL := hV.1
  have hil := (List.getElem?_eq_some_iff.mp hci).1
  obtain ⟨hcb, hc0, hcg, hch⟩ := hV.2.1 c (List.mem_of_getElem? hci)
  obtain ⟨E, hE⟩ : ∃ E : P3 → Bool, E = fun q => zEq V.2.1 q c.1 := ⟨_, rfl⟩
  obtain ⟨P, hP⟩ : ∃ P : P3 → Bool, P = fun q => decide ((q, c.2) ∉ V.1) := ⟨_, rfl⟩
  obtain ⟨l, hl⟩ : ∃ l, l = dsl 19 := ⟨_, rfl⟩
  have hll : l.length = 19 := by rw [hl]; rfl
  have hln : l.Nodup := by rw [hl]; exact dsl_nodup 19
  have hlg : ∀ k : Nat, k < 19 → l[k]? = some (9 - (k : Int)) := fun k hk => by rw [hl]; exact dsl_get hk
  have hmis : zMis V c = ((cb l).filter E).filter P := by rw [zMis, frm_dsl, hE, hP, hl]
  obtain ⟨cur, hcur⟩ : ∃ cur : List P3 → zV, ∀ S, cur S = ((V.1 ++ ((S.filter E).filter P).map (fun q => (q, c.2))).take 16, V.2) := ⟨_, fun _ => rfl⟩
  have hcurV : cur [] = V := by
    rw [hcur]
    simp only [List.filter_nil, List.map_nil, List.append_nil]
    rw [List.take_of_length_le hL]
  have hcurE : V.1.length + (zMis V c).length ≤ 16 → cur (cb l) = zFrm V c := fun h => by
    rw [hcur, ← hmis, List.take_of_length_le (by rw [List.length_append, List.length_map]; exact h)]
    rfl
  have hcuri : ∀ S, (cur S).1[i]? = some c := fun S => by
    rw [hcur]
    show (List.take 16 _)[i]? = _
    rw [List.getElem?_take, if_pos (by omega), List.getElem?_append_left hil]
    exact hci
  have hcurs : ∀ S, (cur S).2.1 = V.2.1 := fun S => by rw [hcur]
  obtain ⟨PQ, hPQ⟩ : ∃ PQ : Int32 → xG → Prop, PQ = fun q H => q = nI (zMis V c).length ∧ (∃ th, H (b + 8) = oL 3 th) ∧ (∃ f2 W2, H r = oI 70 f2 ∧ mrow f2 W2 ∧ zOk W2 ∧ (V.1.length + (zMis V c).length ≤ 16 → W2 = zFrm V c)) ∧ rfr b r G H := ⟨_, rfl⟩
  rw [← hPQ]
  have lt2 : ∀ a : Nat, a ≤ 19 → (iI (9 - (a : Int)) < iI (-9) ↔ a = 19) := fun a ha => by
    rw [iI_lt (by omega) (by decide)]
    omega
  have dec : ∀ a : Nat, iI (9 - (a : Int)) + Int32.ofInt (-1) = iI (9 - ((a + 1 : Nat) : Int)) := fun a => by
    rw [show Int32.ofInt (-1) = iI (-1) from rfl, iI_add]
    congr 1
    omega
  obtain ⟨Inv, hInv⟩ : ∃ Inv : List P3 → xG → Prop, ∀ S H, Inv S H ↔ ((∃ th, H (b + 8) = oL 3 th) ∧ (∃ f2, H r = oI 70 f2 ∧ mrow f2 (cur S)) ∧ zOk (cur S) ∧ rfr b r G H) := ⟨_, fun _ _ => Iff.rfl⟩
  have loop3 : ∀ (u v : Nat) (x y : Int), u < 19 → v < 19 → x = 9 - (u : Int) → y = 9 - (v : Int) → (∀ H, Inv (pA l u ++ pB l x (v + 1)) H → xS mB_addForms n 0 0 (qIx n PQ) xNo 26 [(0, .ref b), (1, .ref r), (2, .int (nI i)), (3, .int (iI c.2)), (4, .int (nI (((pA l u ++ pB l x (v + 1)).filter E).filter P).length)), (5, .int (iI x)), (6, .int (iI (9 - ((v + 1 : Nat) : Int))))] [] n H 0 0) →
      ∀ (m w : Nat) (H : xG), 19 - w < m → w ≤ 19 → Inv (pA l u ++ (pB l x v ++ pC l x y w)) H → xS mB_addForms n 0 0 (qIx n PQ) xNo 37 [(0, .ref b), (1, .ref r), (2, .int (nI i)), (3, .int (iI c.2)), (4, .int (nI (((pA l u ++ (pB l x v ++ pC l x y w)).filter E).filter P).length)), (5, .int (iI x)), (6, .int (iI y)), (7, .int (iI (9 - (w : Int))))] [] n H 0 0 := by
    intro u v x y hu hv hx hy hout m
    induction m with
    | zero => intro w H q; exact absurd q (by omega)
    | succ m ih =>
      intro w H q1 q2 hI
      have hlx : l[u]? = some x := by rw [hx]; exact hlg u hu
      have hly : l[v]? = some y := by rw [hy]; exact hlg v hv
      refine xs_iload dB_addForms_37 rfl ?_
      refine xs_bipush (v := (-9)) dB_addForms_39 (by decide) ?_
      refine xs_icmp_lt dB_addForms_41 (fun hg => ?_) (fun hg => ?_)
      · have hw : w = 19 := (lt2 w q2).mp hg
        subst hw
        rw [pC_e (by omega), ← pB_s hly] at hI ⊢
        refine xs_iinc (L2 := [(6, _), (0, _), (1, _), (2, _), (3, _), (4, _), (5, _), (7, _)]) dB_addForms_99 rfl rfl (by decide) rfl ?_
        refine xs_goto dB_addForms_102 ?_
        refine xs_pick (L2 := [(0, _), (1, _), (2, _), (3, _), (4, _), (5, _), (6, _)]) [1, 2, 3, 4, 5, 6, 0] rfl ?_
        rw [hy, dec]
        exact hout H hI
      · have hw : w < 19 := by
          rcases Nat.lt_or_ge w 19 with e | e
          · exact e
          · exact absurd ((lt2 w q2).mpr (by omega)) hg
        obtain ⟨z, hz⟩ : ∃ z, z = 9 - (w : Int) := ⟨_, rfl⟩
        have hlz : l[w]? = some z := by rw [hz]; exact hlg w hw
        have hs := frm_s (x := x) (y := y) (a := u) (b := v) (E := E) hlz
        have hnin := pre_nin hln hlx hly hlz
        obtain ⟨S, hS⟩ : ∃ S, S = pA l u ++ (pB l x v ++ pC l x y w) := ⟨_, rfl⟩
        obtain ⟨S2, hS2⟩ : ∃ S2, S2 = pA l u ++ (pB l x v ++ pC l x y (w + 1)) := ⟨_, rfl⟩
        rw [← hS, ← hS2] at hs
        rw [← hS] at hI hnin ⊢
        rw [← hz]
        have next : ∀ H, Inv S2 H → xS mB_addForms n 0 0 (qIx n PQ) xNo 93 [(0, .ref b), (1, .ref r), (2, .int (nI i)), (3, .int (iI c.2)), (4, .int (nI ((S2.filter E).filter P).length)), (5, .int (iI x)), (6, .int (iI y)), (7, .int (iI z))] [] n H 0 0 := by
          intro H hI
          refine xs_iinc (L2 := [(7, _), (0, _), (1, _), (2, _), (3, _), (4, _), (5, _), (6, _)]) dB_addForms_93 rfl rfl (by decide) rfl ?_
          refine xs_goto dB_addForms_96 ?_
          refine xs_pick (L2 := [(0, _), (1, _), (2, _), (3, _), (4, _), (5, _), (6, _), (7, _)]) [1, 2, 3, 4, 5, 6, 7, 0] rfl ?_
          rw [hz, dec, hS2]
          rw [hS2] at hI
          exact ih (w + 1) H (by omega) (by omega) hI
        have same : (S2.filter E).filter P = (S.filter E).filter P → ∀ H, Inv S H → xS mB_addForms n 0 0 (qIx n PQ) xNo 93 [(0, .ref b), (1, .ref r), (2, .int (nI i)), (3, .int (iI c.2)), (4, .int (nI ((S.filter E).filter P).length)), (5, .int (iI x)), (6, .int (iI y)), (7, .int (iI z))] [] n H 0 0 := by
          intro e H hI
          have hcc : cur S2 = cur S := by rw [hcur, hcur, e]
          have := next H ((hInv _ _).mpr (by rw [hcc]; exact (hInv _ _).mp hI))
          rw [e] at this
          exact this
        obtain ⟨⟨th2, h82⟩, ⟨f2, hr2, hf2⟩, hok2, hfr2⟩ := (hInv _ _).mp hI
        have hc2 : H b = mCl b rf sz sp gd ac zs ft := by rw [hfr2 _ (by omega) (by omega)]; exact hc
        have hE2 : zEq (cur S).2.1 (x, y, z) c.1 = E (x, y, z) := by rw [hcurs, hE]
        refine xs_aload_n dB_addForms_44 rfl ?_
        refine xs_iload_n dB_addForms_45 rfl ?_
        refine xs_iload dB_addForms_46 rfl ?_
        refine xs_iload dB_addForms_48 rfl ?_
        refine xs_iload dB_addForms_50 rfl ?_
        refine xs_cS_i (As := [_, _, _, _, _]) dB_addForms_52 lkB_152 (k_B_isLike hr2 hok2 hf2 (hcuri S) (x:=x) (y:=y) (z:=z) (by omega) (by omega) (by omega)) rfl rfl (Nat.le_of_ble_eq_true rfl) ⟨by decide, by decide⟩ ⟨by omega, by omega⟩ ?_
        rw [hE2]
        refine xs_ifb_eq dB_addForms_55 (fun h => ?_) (fun h => ?_)
        · rw [h, if_neg (by decide), List.append_nil] at hs
          exact same (by rw [hs]) H hI
        · rw [h, if_pos rfl] at hs
          have hfrm : (x, y, z) ∈ frm V.2.1 c.1 := by
            rw [frm_dsl, ← hl]
            refine List.mem_filter.mpr ⟨cb_mem.mpr ⟨List.mem_of_getElem? hlx, List.mem_of_getElem? hly, List.mem_of_getElem? hlz⟩, ?_⟩
            rw [hE] at h
            exact h
          obtain ⟨qb, q0, qg⟩ := frm_ok hcb hc0 hcg hfrm
          have hmem : ((x, y, z), c.2) ∈ (cur S).1 ↔ ((x, y, z), c.2) ∈ V.1 := by
            rw [hcur]
            constructor
            · intro e
              rcases List.mem_append.mp (List.mem_of_mem_take e) with e | e
              · exact e
              · obtain ⟨q2, hq2, e2⟩ := List.mem_map.mp e
                cases e2
                exact absurd (List.mem_filter.mp (List.mem_filter.mp hq2).1).1 hnin
            · intro e
              show _ ∈ List.take 16 _
              rw [List.take_append]
              refine List.mem_append_left _ ?_
              rw [List.take_of_length_le hL]
              exact e
          refine xs_aload_n dB_addForms_58 rfl ?_
          refine xs_iload dB_addForms_59 rfl ?_
          refine xs_i2l dB_addForms_61 ?_
          refine xs_iload dB_addForms_62 rfl ?_
          refine xs_i2l dB_addForms_64 ?_
          refine xs_iload dB_addForms_65 rfl ?_
          refine xs_i2l dB_addForms_67 ?_
          refine xs_iload_n dB_addForms_68 rfl ?_
          rw [iI_l (by omega), iI_l (by omega), iI_l (by omega)]
          refine xs_cS_ix (As := [_, _, _, _, _]) dB_addForms_69 lkB_156 (k_B_faceBy (p:=(x, y, z)) (s:=c.2) hr2 hok2 hf2 (bd_mono qb (by decide)) (by omega)) rfl rfl (Nat.le_of_ble_eq_true rfl) ⟨by decide, by decide⟩ ⟨by omega, by omega⟩ ?_
          intro q H2 ⟨e1, e2⟩
          subst e2
          refine xs_ldc dB_addForms_72 kcB_109 ?_
          refine xs_icmp_ne dB_addForms_74 (fun hh => ?_) (fun hh => ?_)
          · have hPq : P (x, y, z) = false := by
              rw [hP]
              exact decide_eq_false (fun e => hh (e1.mpr (fun w => e (hmem.mp w))))
            exact same (by rw [hs, List.filter_append, List.filter_cons, hPq]; simp) H2 hI
          · have hnm := e1.mp hh
            have hPq : P (x, y, z) = true := by
              rw [hP]
              exact decide_eq_true (fun e => hnm (hmem.mpr e))
            have hs3 : (S2.filter E).filter P = (S.filter E).filter P ++ [(x, y, z)] := by rw [hs, List.filter_append, List.filter_cons, hPq]; simp
            refine xs_iinc (L2 := [(4, _), (0, _), (1, _), (2, _), (3, _), (5, _), (6, _), (7, _)]) dB_addForms_77 rfl rfl (by decide) rfl ?_
            refine xs_aload_n dB_addForms_80 rfl ?_
            refine xs_aload_n dB_addForms_81 rfl ?_
            refine xs_iload dB_addForms_82 rfl ?_
            refine xs_iload dB_addForms_84 rfl ?_
            refine xs_iload dB_addForms_86 rfl ?_
            refine xs_iload_n dB_addForms_88 rfl ?_
            rw [xii]
            refine xs_cV_ix (As := [_, _, _, _, _]) dB_addForms_89 lkB_164 (by repeat (first | exact va_up_self _ _ _ | assumption | refine (va_up_ne _ _ (by omega)).trans ?_)) (k_B_adds hc2 h82 hr2 hrb hok2 hf2 qb hch) rfl rfl (Nat.le_of_ble_eq_true rfl) ⟨by decide, by decide⟩ ⟨by omega, by omega⟩ ?_
            intro q H3 ⟨_, ⟨th3, d1⟩, ⟨f3, d2, d3⟩, d4, d5⟩
            refine xs_pop dB_addForms_92 rfl ?_
            refine xs_pick (L2 := [(0, _), (1, _), (2, _), (3, _), (4, _), (5, _), (6, _), (7, _)]) [1, 2, 3, 4, 0, 5, 6, 7] rfl ?_
            have hcc : cur S2 = zPut (cur S) (x, y, z) c.2 := by
              have hlen : (cur S).1.length < 16 ↔ (V.1 ++ ((S.filter E).filter P).map (fun q => (q, c.2))).length < 16 := by
                rw [hcur]
                show (List.take 16 _).length < 16 ↔ _
                rw [List.length_take]
                omega
              have hzw : zwhy (cur S).1 (x, y, z) c.2 = if 16 ≤ (cur S).1.length then 3 else 0 := by rw [zwhy, if_neg q0, dv_id qg, if_neg hnm]
              have hS2 : cur S2 = ((V.1 ++ ((S.filter E).filter P).map (fun q => (q, c.2)) ++ [((x, y, z), c.2)]).take 16, V.2) := by rw [hcur S2, hs3, List.map_append, List.map_singleton, ← List.append_assoc]
              rw [hS2, take16, zPut, hzw, dv_id qg]
              by_cases h16 : (V.1 ++ ((S.filter E).filter P).map (fun q => (q, c.2))).length < 16
              · have := hlen.mpr h16
                rw [if_pos h16, if_neg (show ¬ 16 ≤ (cur S).1.length by omega), if_pos rfl, zAdd, hcur S]
              · have : ¬ (cur S).1.length < 16 := fun e => h16 (hlen.mp e)
                rw [if_neg h16, if_pos (show 16 ≤ (cur S).1.length by omega), if_neg (by decide), hcur S]
            have hgo := next H3 ((hInv _ _).mpr (by
              rw [hcc]
              exact ⟨⟨th3, d1⟩, ⟨f3, d2, d3⟩, d4, fun k h1 h2 => (d5 k h1 h2).trans (hfr2 k h1 h2)⟩))
            rw [hs3, List.length_append, List.length_singleton] at hgo
            exact hgo
  have loop2 : ∀ (u : Nat) (x : Int), u < 19 → x = 9 - (u : Int) → (∀ H, Inv (pA l (u + 1)) H → xS mB_addForms n 0 0 (qIx n PQ) xNo 15 [(0, .ref b), (1, .ref r), (2, .int (nI i)), (3, .int (iI c.2)), (4, .int (nI (((pA l (u + 1)).filter E).filter P).length)), (5, .int (iI (9 - ((u + 1 : Nat) : Int))))] [] n H 0 0) →
      ∀ (m v : Nat) (H : xG), 19 - v < m → v ≤ 19 → Inv (pA l u ++ pB l x v) H → xS mB_addForms n 0 0 (qIx n PQ) xNo 26 [(0, .ref b), (1, .ref r), (2, .int (nI i)), (3, .int (iI c.2)), (4, .int (nI (((pA l u ++ pB l x v).filter E).filter P).length)), (5, .int (iI x)), (6, .int (iI (9 - (v : Int))))] [] n H 0 0 := by
    intro u x hu hx hout m
    induction m with
    | zero => intro v H q; exact absurd q (by omega)
    | succ m ih =>
      intro v H q1 q2 hI
      have hlx : l[u]? = some x := by rw [hx]; exact hlg u hu
      refine xs_iload dB_addForms_26 rfl ?_
      refine xs_bipush (v := (-9)) dB_addForms_28 (by decide) ?_
      refine xs_icmp_lt dB_addForms_30 (fun hg => ?_) (fun hg => ?_)
      · have hv : v = 19 := (lt2 v q2).mp hg
        subst hv
        rw [pB_e (by omega), ← pA_s hlx] at hI ⊢
        refine xs_iinc (L2 := [(5, _), (0, _), (1, _), (2, _), (3, _), (4, _), (6, _)]) dB_addForms_105 rfl rfl (by decide) rfl ?_
        refine xs_goto dB_addForms_108 ?_
        refine xs_pick (L2 := [(0, _), (1, _), (2, _), (3, _), (4, _), (5, _)]) [1, 2, 3, 4, 5, 0] rfl ?_
        rw [hx, dec]
        exact hout H hI
      · have hv : v < 19 := by
          rcases Nat.lt_or_ge v 19 with e | e
          · exact e
          · exact absurd ((lt2 v q2).mpr (by omega)) hg
        refine xs_bipush (v := 9) dB_addForms_33 (by decide) ?_
        refine xs_istore (L2 := [(7, _), (0, _), (1, _), (2, _), (3, _), (4, _), (5, _), (6, _)]) dB_addForms_35 (by decide) rfl ?_
        refine xs_pick (L2 := [(0, _), (1, _), (2, _), (3, _), (4, _), (5, _), (6, _), (7, _)]) [1, 2, 3, 4, 5, 6, 7, 0] rfl ?_
        have e0 : pA l u ++ (pB l x v ++ pC l x (9 - (v : Int)) 0) = pA l u ++ pB l x v := by rw [show pC l x (9 - (v : Int)) 0 = [] from rfl, List.append_nil]
        have hgo := loop3 u v x _ hu hv hx rfl (fun H hI => ih (v + 1) H (by omega) (by omega) hI) 20 0 H (by omega) (by omega) (by rw [e0]; exact hI)
        rw [e0] at hgo
        exact hgo
  have loop1 : ∀ (m u : Nat) (H : xG), 19 - u < m → u ≤ 19 → Inv (pA l u) H → xS mB_addForms n 0 0 (qIx n PQ) xNo 15 [(0, .ref b), (1, .ref r), (2, .int (nI i)), (3, .int (iI c.2)), (4, .int (nI (((pA l u).filter E).filter P).length)), (5, .int (iI (9 - (u : Int))))] [] n H 0 0 := by
    intro m
    induction m with
    | zero => intro u H q; exact absurd q (by omega)
    | succ m ih =>
      intro u H q1 q2 hI
      refine xs_iload dB_addForms_15 rfl ?_
      refine xs_bipush (v := (-9)) dB_addForms_17 (by decide) ?_
      refine xs_icmp_lt dB_addForms_19 (fun hg => ?_) (fun hg => ?_)
      · have hu : u = 19 := (lt2 u q2).mp hg
        subst hu
        rw [pA_e (by omega)] at hI ⊢
        obtain ⟨d1, ⟨f2, d2, d3⟩, d4, d5⟩ := (hInv _ _).mp hI
        refine xs_iload dB_addForms_111 rfl ?_
        exact xs_iret dB_addForms_113 rfl rfl (by omega) (by omega) ⟨_, rfl, rfl, by rw [hPQ]; exact ⟨by rw [hmis], d1, ⟨f2, _, d2, d3, d4, hcurE⟩, d5⟩⟩
      · have hu : u < 19 := by
          rcases Nat.lt_or_ge u 19 with e | e
          · exact e
          · exact absurd ((lt2 u q2).mpr (by omega)) hg
        refine xs_bipush (v := 9) dB_addForms_22 (by decide) ?_
        refine xs_istore (L2 := [(6, _), (0, _), (1, _), (2, _), (3, _), (4, _), (5, _)]) dB_addForms_24 (by decide) rfl ?_
        refine xs_pick (L2 := [(0, _), (1, _), (2, _), (3, _), (4, _), (5, _), (6, _)]) [1, 2, 3, 4, 5, 6, 0] rfl ?_
        have e0 : pA l u ++ pB l (9 - (u : Int)) 0 = pA l u := by rw [show pB l (9 - (u : Int)) 0 = [] from rfl, List.append_nil]
        have hgo := loop2 u _ hu rfl (fun H hI => ih (u + 1) H (by omega) (by omega) hI) 20 0 H (by omega) (by omega) (by rw [e0]; exact hI)
        rw [e0] at hgo
        exact hgo
  obtain ⟨⟨k0, k1, k2, k3⟩, g0, g1, g2, g3⟩ := mrow_get hf hci hL
  refine xK_of2 (L0 := [(0, _), (1, _), (2, _)]) (by decide +kernel) rfl (Nat.le_of_ble_eq_true rfl) rfl ?_
  refine xs_aload_n dB_addForms_0 rfl ?_
  refine xs_iload_n dB_addForms_1 rfl ?_
  refine xs_iconst (v := 3) dB_addForms_2 (by decide) ?_
  refine xs_cS_i (As := [_, _]) dB_addForms_3 lkB_92 (k_B_cell (i:=i) (w:=3)) rfl rfl (Nat.le_of_ble_eq_true rfl) ⟨by decide, by decide⟩ ⟨by omega, by omega⟩ ?_
  refine xs_iald dB_addForms_6 (by repeat (first | exact va_up_self _ _ _ | assumption | refine (va_up_ne _ _ (by omega)).trans ?_)) (by assumption) ?_
  rw [g3]
  refine xs_istore_n (L2 := [(3, _), (0, _), (1, _), (2, _)]) dB_addForms_7 (by decide) rfl ?_
  refine xs_iconst (v := 0) dB_addForms_8 (by decide) ?_
  refine xs_istore (L2 := [(4, _), (3, _), (0, _), (1, _), (2, _)]) dB_addForms_9 (by decide) rfl ?_
  refine xs_bipush (v := 9) dB_addForms_11 (by decide) ?_
  refine xs_istore (L2 := [(5, _), (4, _), (3, _), (0, _), (1, _), (2, _)]) dB_addForms_13 (by decide) rfl ?_
  refine xs_pick (L2 := [(0, _), (1, _), (2, _), (3, _), (4, _), (5, _)]) [3, 4, 5, 2, 1, 0] rfl ?_
  exact loop1 20 0 G (by omega) (by omega) ((hInv _ _).mpr (by
    rw [show pA l 0 = [] from rfl, hcurV]
    exact ⟨⟨th, h8⟩, ⟨f, hr, hf⟩, hV, fun _ _ _ => rfl⟩))
end M9
