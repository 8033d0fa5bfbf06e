def prM (i j i2 j2 : Nat) : Prop := j2 < i ∨ (j2 = i ∧ i2 < j)
def tri : Nat → Nat
  | 0 => 0
  | i + 1 => tri i + i
theorem tri_lt : ∀ i, i < 16 → ∀ j, j < i → tri i + j < 120 := by decide
def lInv (D : List P3) (lst : Int) (i j : Nat) (Z : List P3) : Prop := Z.Nodup ∧ (∀ a, a ∈ Z ↔ (isAx D a (prM i j) ∧ lsd D lst a = true)) ∧ srt D Z.length Z ∧ Z.length ≤ tri i + j
theorem nz_0 {p : P3} : nz p = (0, 0, 0) ↔ p = (0, 0, 0) := by
  constructor
  · intro h
    by_cases hp : p = (0, 0, 0)
    · exact hp
    · exact absurd h (nz_ne hp)
  · rintro rfl
    decide
theorem isAx_s {D : List P3} {i j : Nat} {d e a : P3} (hji : j < i) (hd : D[i]? = some d) (he : D[j]? = some e) : isAx D a (prM i (j + 1)) ↔ isAx D a (prM i j) ∨ (cr d e ≠ (0, 0, 0) ∧ a = nz (cr d e)) := by
  constructor
  · rintro ⟨i2, j2, x, y, h1, h2, h3, h4, h5, h6⟩
    rcases h2 with h2 | ⟨h2, h7⟩
    · exact Or.inl ⟨i2, j2, x, y, h1, Or.inl h2, h3, h4, h5, h6⟩
    · by_cases hij : i2 = j
      · subst hij
        subst h2
        cases he.symm.trans h3
        cases hd.symm.trans h4
        have hc : cr d e ≠ (0, 0, 0) := fun q => h5 (by rw [cr_swap, q]; decide)
        exact Or.inr ⟨hc, by rw [h6, nz_swap hc]⟩
      · exact Or.inl ⟨i2, j2, x, y, h1, Or.inr ⟨h2, by omega⟩, h3, h4, h5, h6⟩
  · rintro (⟨i2, j2, x, y, h1, h2, h3⟩ | ⟨hc, rfl⟩)
    · refine ⟨i2, j2, x, y, h1, ?_, h3⟩
      rcases h2 with h2 | ⟨h2, h7⟩
      · exact Or.inl h2
      · exact Or.inr ⟨h2, by omega⟩
    · exact ⟨j, i, e, d, hji, Or.inr ⟨rfl, by omega⟩, he, hd, fun q => hc (by rw [cr_swap, q]; decide), (nz_swap hc).symm⟩
theorem lInv_same {D : List P3} {lst : Int} {i j : Nat} {Z : List P3} {d e : P3} (h : lInv D lst i j Z) (hji : j < i) (hd : D[i]? = some d) (he : D[j]? = some e) (hs : cr d e = (0, 0, 0) ∨ nz (cr d e) ∈ Z ∨ lsd D lst (nz (cr d e)) = false) : lInv D lst i (j + 1) Z := by
  obtain ⟨h1, h2, h3, h4⟩ := h
  refine ⟨h1, fun a => ?_, h3, by omega⟩
  rw [h2 a, isAx_s hji hd he]
  constructor
  · rintro ⟨q, q2⟩
    exact ⟨Or.inl q, q2⟩
  · rintro ⟨q | ⟨q, rfl⟩, q2⟩
    · exact ⟨q, q2⟩
    · rcases hs with hs | hs | hs
      · exact absurd hs q
      · exact (h2 _).mp hs
      · rw [hs] at q2
        cases q2
theorem lInv_ins {D : List P3} {lst : Int} {i j p : Nat} {Z : List P3} {d e : P3} (h : lInv D lst i j Z) (hji : j < i) (hd : D[i]? = some d) (he : D[j]? = some e) (hc : cr d e ≠ (0, 0, 0)) (hn : nz (cr d e) ∉ Z) (hl : lsd D lst (nz (cr d e)) = true) (hp : p ≤ Z.length) (hhi : ∀ k x, p ≤ k → Z[k]? = some x → bef D (nz (cr d e)) x) (hlo : ∀ x, 0 < p → Z[p - 1]? = some x → ¬ bef D (nz (cr d e)) x) : lInv D lst i (j + 1) (insL Z (nz (cr d e)) p) := by
  obtain ⟨h1, h2, h3, h4⟩ := h
  have hperm := insL_perm (Z := Z) (a := nz (cr d e)) (p := p)
  refine ⟨hperm.nodup_iff.mpr (List.nodup_cons.mpr ⟨hn, h1⟩), fun a => ?_, srt_ins h3 hp hhi hlo hn, by rw [insL_len]; omega⟩
  rw [hperm.mem_iff, List.mem_cons, h2 a, isAx_s hji hd he]
  constructor
  · rintro (rfl | ⟨q, q2⟩)
    · exact ⟨Or.inr ⟨hc, rfl⟩, hl⟩
    · exact ⟨Or.inl q, q2⟩
  · rintro ⟨q | ⟨q, rfl⟩, q2⟩
    · exact Or.inr ⟨q, q2⟩
    · exact Or.inl rfl
theorem lInv_next {D : List P3} {lst : Int} {i : Nat} {Z : List P3} (h : lInv D lst i i Z) : lInv D lst (i + 1) 0 Z := by
  obtain ⟨h1, h2, h3, h4⟩ := h
  refine ⟨h1, fun a => ?_, h3, by show Z.length ≤ tri i + i + 0; omega⟩
  rw [h2 a]
  have : isAx D a (prM i i) ↔ isAx D a (prM (i + 1) 0) := by
    constructor
    · rintro ⟨i2, j2, x, y, g1, g2, g3⟩
      refine ⟨i2, j2, x, y, g1, ?_, g3⟩
      rcases g2 with g2 | ⟨g2, _⟩
      · exact Or.inl (by omega)
      · exact Or.inl (by omega)
    · rintro ⟨i2, j2, x, y, g1, g2, g3⟩
      refine ⟨i2, j2, x, y, g1, ?_, g3⟩
      rcases g2 with g2 | ⟨g2, _⟩
      · by_cases hji : j2 = i
        · exact Or.inr ⟨hji, by omega⟩
        · exact Or.inl (by omega)
      · omega
  rw [this]
theorem lInv_0 (D : List P3) (lst : Int) : lInv D lst 0 0 [] := by
  refine ⟨List.nodup_nil, fun a => ⟨fun h => absurd h List.not_mem_nil, ?_⟩, fun i j a b _ hj => absurd hj (by simp), Nat.zero_le _⟩
  rintro ⟨⟨i2, j2, x, y, g1, g2, g3⟩, _⟩
  rcases g2 with g2 | ⟨g2, g4⟩ <;> omega
theorem lInv_fin {D : List P3} {lst : Int} {i : Nat} {Z : List P3} (h : lInv D lst i 0 Z) (hi : D.length ≤ i) : zFin D lst Z.length Z := by
  obtain ⟨h1, h2, h3, _⟩ := h
  refine ⟨injL_of h1, fun a => ?_, h3⟩
  rw [h2 a]
  have : isAx D a (prM i 0) ↔ isAx D a (fun _ _ => True) := by
    constructor
    · rintro ⟨i2, j2, x, y, g1, g2, g3⟩
      exact ⟨i2, j2, x, y, g1, trivial, g3⟩
    · rintro ⟨i2, j2, x, y, g1, _, g3, g4, g5⟩
      have := (List.getElem?_eq_some_iff.mp g4).1
      exact ⟨i2, j2, x, y, g1, Or.inl (by omega), g3, g4, g5⟩
  rw [this]
section M6
variable {n b : Nat} {G : xG} {rf sz sp ac zs ft : Int32} {gd : Bool}
/-- the ways, the axes, the zones are there, whatever they hold -/
def mwk (G : xG) (b : Nat) : Prop := (∃ th, G (b + 8) = oL 3 th) ∧ (∃ wy, G (b + 9) = oL 48 wy) ∧ (∃ ax, G (b + 10) = oL 363 ax) ∧ (∃ mn, G (b + 11) = oI 121 mn) ∧ ∃ wh, G (b + 12) = oI 121 wh
/-- what changes while zones are laid -/
def mfr (b : Nat) (G H : xG) : Prop := ∀ k, k ≠ b → (k < b + 8 ∨ b + 13 ≤ k) → H k = G k
/-- the zones of a crystal are laid -/
def mlz (H : xG) (b : Nat) (V : zV) : Prop := (∃ th, H (b + 8) = oL 3 th) ∧ (∃ wy, H (b + 9) = oL 48 wy ∧ wyP wy (zDirs V)) ∧ zmo H b (zDirs V) (zl V) ∧ zFin (zDirs V) V.2.2.1 (zl V).length (zl V)
theorem k_B_layZones {r : Nat} {f : Nat → Int32} {V : zV} (hc : G b = mCl b rf sz sp gd ac zs ft) (hw : mwk G b) (hr : G r = oI 70 f) (hrb : b < r ∧ r < b + 8) (hV : zOk V) (hf : mrow f V) :
    xK mB_layZones [.ref b, .ref r] n G 0 0 (qVx n (fun H => H b = mCl b rf sz sp gd ac (nI (zl V).length) ft ∧ mlz H b V ∧ mfr b G H)) xNo := by
  obtain ⟨⟨th0, h8⟩, ⟨wy0, h9⟩, ⟨ax0, h10⟩, ⟨mn0, h11⟩, ⟨wh0, h12⟩⟩ := hw
  have hok := zDirs_ok hV
  have hL := hok.1
  have hdl : (zDirs V).length = V.1.length := List.length_map _
  obtain ⟨⟨f0, f1, f2, _⟩, _⟩ := id hf
  obtain ⟨D, hD⟩ : ∃ D, D = zDirs V := ⟨_, rfl⟩
  obtain ⟨lst, hlst⟩ : ∃ lst, lst = V.2.2.1 := ⟨_, rfl⟩
  have hlb : 2 ≤ lst ∧ lst ≤ 6 := by rw [hlst]; exact hV.2.2.2.1
  rw [← hlst] at f2
  rw [← hD] at hok hL hdl
  have v0 : vp_in (0 : Int32) 70 := fin70 (j := 0) (by decide)
  have v2 : vp_in (2 : Int32) 70 := fin70 (j := 2) (by decide)
  have e0 : (0 : Int32).toNatClampNeg = 0 := by decide
  have e1 : (1 : Int32).toNatClampNeg = 1 := by decide
  have e2 : (2 : Int32).toNatClampNeg = 2 := by decide
  have u0 : vp_in (0 : Int32) 3 := in3 (j := 0) (by decide)
  have u1 : vp_in (1 : Int32) 3 := in3 (j := 1) (by decide)
  have u2 : vp_in (2 : Int32) 3 := in3 (j := 2) (by decide)
  have hn : (nI V.1.length : Int32) = nI D.length := by rw [hdl]
  rw [hn] at f0
  obtain ⟨PQ, hPQ⟩ : ∃ PQ : xG → Prop, ∀ H, PQ H ↔ (H b = mCl b rf sz sp gd ac (nI (zl V).length) ft ∧ mlz H b V ∧ mfr b G H) := ⟨_, fun _ => Iff.rfl⟩
  have hQ : (fun H => H b = mCl b rf sz sp gd ac (nI (zl V).length) ft ∧ mlz H b V ∧ mfr b G H) = PQ := funext fun H => propext (hPQ H).symm
  rw [hQ]
  have outer : ∀ (m i : Nat) (H : xG) (Z : List P3) (th wy : Nat → Int64), D.length - i < m → i ≤ D.length → H b = mCl b rf sz sp gd ac (nI Z.length) ft → H (b + 8) = oL 3 th → H (b + 9) = oL 48 wy → wyP wy D → zmo H b D Z → lInv D lst i 0 Z → mfr b G H →
      xS mB_layZones n 0 0 (qVx n PQ) xNo 12 [(0, .ref b), (1, .ref r), (2, .int (nI i))] [] n H 0 0 := by
    intro m
    induction m with
    | zero => intro i H Z th wy q; exact absurd q (by omega)
    | succ m ih =>
      intro i H Z th wy q1 q2 hcH h8 h9 hwy hz hinv hfr
      have hrH : H r = oI 70 f := by rw [hfr _ (by omega) (by omega)]; exact hr
      refine xs_iload_n dB_layZones_12 rfl ?_
      refine xs_aload_n dB_layZones_13 rfl ?_
      refine xs_iconst (v := 0) dB_layZones_14 (by decide) ?_
      refine xs_iald dB_layZones_15 (by repeat (first | exact va_up_self _ _ _ | assumption | refine (va_up_ne _ _ (by omega)).trans ?_)) (by assumption) ?_
      rw [e0, f0]
      refine xs_icmp_ge dB_layZones_16 (fun hg => ?_) (fun hg => ?_)
      · have hi := (nI_leI (by omega) (by omega)).mp hg
        have hfin := lInv_fin hinv hi
        have hzl : zl V = Z := zl_eq (by rw [← hD, ← hlst]; exact hfin)
        refine xs_vret dB_layZones_104 rfl (by omega) (by omega) ⟨rfl, rfl, (hPQ _).mpr ⟨by rw [hzl]; exact hcH, ⟨⟨th, h8⟩, ⟨wy, h9, by rw [← hD]; exact hwy⟩, ?_, ?_⟩, hfr⟩⟩
        · rw [hzl, ← hD]
          exact hz
        · rw [hzl, ← hD, ← hlst]
          exact hfin
      · have hi : i < D.length := nI_lt_of (by omega) (by omega) hg
        obtain ⟨d, hd⟩ : ∃ d, D[i]? = some d := ⟨_, List.getElem?_eq_getElem hi⟩
        have inner : ∀ (m j : Nat) (H : xG) (Z : List P3) (th wy : Nat → Int64), i - j < m → j ≤ i → H b = mCl b rf sz sp gd ac (nI Z.length) ft → H (b + 8) = oL 3 th → H (b + 9) = oL 48 wy → wyP wy D → zmo H b D Z → lInv D lst i j Z → mfr b G H →
            xS mB_layZones n 0 0 (qVx n PQ) xNo 21 [(0, .ref b), (1, .ref r), (2, .int (nI i)), (3, .int (nI j))] [] n H 0 0 := by
          intro m
          induction m with
          | zero => intro j H Z th wy q; exact absurd q (by omega)
          | succ m ih2 =>
            intro j H Z th wy q1 q2 hcH h8 h9 hwy hz hinv hfr
            have hrH : H r = oI 70 f := by rw [hfr _ (by omega) (by omega)]; exact hr
            refine xs_iload_n dB_layZones_21 rfl ?_
            refine xs_iload_n dB_layZones_22 rfl ?_
            refine xs_icmp_ge dB_layZones_23 (fun hg => ?_) (fun hg => ?_)
            · have hj : j = i := by
                have := (nI_leI (by omega) (by omega)).mp hg
                omega
              subst hj
              refine xs_iinc (L2 := [(2, _), (0, _), (1, _), (3, _)]) dB_layZones_98 rfl rfl (by decide) rfl ?_
              refine xs_goto dB_layZones_101 ?_
              refine xs_pick (L2 := [(0, _), (1, _), (2, _)]) [1, 2, 0] rfl ?_
              rw [xii]
              exact ih (j + 1) H Z th wy (by omega) (by omega) hcH h8 h9 hwy hz (lInv_next hinv) hfr
            · have hj : j < i := nI_lt_of (by omega) (by omega) hg
              obtain ⟨e, he⟩ : ∃ e, D[j]? = some e := ⟨_, List.getElem?_eq_getElem (by omega)⟩
              have hcb := cr_bd (hok.2 d (List.mem_of_getElem? hd)).1 (hok.2 e (List.mem_of_getElem? he)).1
              have hzlen : Z.length < 120 := by
                have := hinv.2.2.2
                have := tri_lt i (by omega) j hj
                omega
              have hzb : ∀ x ∈ Z, bd 1100000 x := fun x hx => (isAx_bd hok ((hinv.2.1 x).mp hx).1).1
              obtain ⟨a, ha⟩ : ∃ a, a = nz (cr d e) := ⟨_, rfl⟩
              have hab : bd 1100000 a := by rw [ha]; exact bd_nz hcb
              have next : ∀ (H : xG) (Z : List P3) (th : Nat → Int64) (L : List (Nat × Value)), H b = mCl b rf sz sp gd ac (nI Z.length) ft → H (b + 8) = oL 3 th → H (b + 9) = oL 48 wy → zmo H b D Z → lInv D lst i (j + 1) Z → mfr b G H → xS mB_layZones n 0 0 (qVx n PQ) xNo 92 [(0, .ref b), (1, .ref r), (2, .int (nI i)), (3, .int (nI j))] [] n H 0 0 := by
                intro H Z th L hcH h8 h9 hz hinv hfr
                refine xs_iinc (L2 := [(3, _), (0, _), (1, _), (2, _)]) dB_layZones_92 rfl rfl (by decide) rfl ?_
                refine xs_goto dB_layZones_95 ?_
                refine xs_pick (L2 := [(0, _), (1, _), (2, _), (3, _)]) [1, 2, 3, 0] rfl ?_
                rw [xii]
                exact ih2 (j + 1) H Z th wy (by omega) (by omega) hcH h8 h9 hwy hz hinv hfr
              refine xs_aload_n dB_layZones_26 rfl ?_
              refine xs_iload_n dB_layZones_27 rfl ?_
              refine xs_iload_n dB_layZones_28 rfl ?_
              refine xs_cV_vx (As := [_, _]) dB_layZones_29 lkB_121 (by repeat (first | exact va_up_self _ _ _ | assumption | refine (va_up_ne _ _ (by omega)).trans ?_)) (k_B_crossWays hcH h8 h9 hwy hok hd he) rfl rfl (Nat.le_of_ble_eq_true rfl) ⟨by decide, by decide⟩ ⟨by omega, by omega⟩ ?_
              intro H2 ⟨th2, hH2, ht2⟩
              rw [← ha] at ht2
              have hc2 : H2 b = mCl b rf sz sp gd ac (nI Z.length) ft := by rw [hH2, va_up_ne _ _ (by omega)]; exact hcH
              have h82 : H2 (b + 8) = oL 3 th2 := by rw [hH2, va_up_self]
              have h92 : H2 (b + 9) = oL 48 wy := by rw [hH2, va_up_ne _ _ (by omega)]; exact h9
              have hz2 : zmo H2 b D Z := by
                obtain ⟨ax, mn, wh, g1, g2, g3, g4⟩ := hz
                exact ⟨ax, mn, wh, by rw [hH2, va_up_ne _ _ (by omega)]; exact g1, by rw [hH2, va_up_ne _ _ (by omega)]; exact g2, by rw [hH2, va_up_ne _ _ (by omega)]; exact g3, g4⟩
              have hfr2 : mfr b G H2 := fun k h1 h2 => by rw [hH2, va_up_ne _ _ (by omega)]; exact hfr k h1 h2
              have hr2 : H2 r = oI 70 f := by rw [hfr2 _ (by omega) (by omega)]; exact hr
              clear hH2
              refine xs_aload_n dB_layZones_32 rfl ?_
              refine xs_cV_i (As := []) dB_layZones_33 lkB_125 (by repeat (first | exact va_up_self _ _ _ | assumption | refine (va_up_ne _ _ (by omega)).trans ?_)) (k_B_isNothing (bd_mono hab (by decide)) hc2 h82 ht2) rfl rfl (Nat.le_of_ble_eq_true rfl) ⟨by decide, by decide⟩ ⟨by omega, by omega⟩ ?_
              by_cases ha0 : a = (0, 0, 0)
              · rw [bI_t ha0]
                refine xs_if_ne dB_layZones_36 (fun _ => ?_) (fun q => absurd q (by decide))
                exact next H2 Z th2 [] hc2 h82 h92 hz2 (lInv_same hinv hj hd he (Or.inl (nz_0.mp (ha ▸ ha0)))) hfr2
              rw [bI_f ha0]
              refine xs_if_ne dB_layZones_36 (fun q => absurd rfl q) (fun _ => ?_)
              have hcn : cr d e ≠ (0, 0, 0) := fun q => ha0 (by rw [ha]; exact nz_0.mpr q)
              obtain ⟨ax, mn, wh, g1, g2, g3, g4, g5, g6, g7⟩ := id hz2
              refine xs_aload_n dB_layZones_39 rfl ?_
              refine xs_cV_i (As := []) dB_layZones_40 lkB_129 (by repeat (first | exact va_up_self _ _ _ | assumption | refine (va_up_ne _ _ (by omega)).trans ?_)) (k_B_zoneBy hc2 h82 ht2 g1 g4 (by omega) hzb (bd_mono hab (by decide))) rfl rfl (Nat.le_of_ble_eq_true rfl) ⟨by decide, by decide⟩ ⟨by omega, by omega⟩ ?_
              refine xs_ldc dB_layZones_43 kcB_109 ?_
              have hrn : rN (ixA Z a) = -99999 ↔ ixA Z a = none := by
                cases hix : ixA Z a with
                | none => simp [rN]
                | some q =>
                  have hq := (List.findIdx?_eq_some_iff_getElem.mp hix).1
                  rw [nO_r]
                  simp only [nO, reduceCtorEq, iff_false]
                  intro w
                  have w2 : iI (q : Int) = iI (-99999) := w
                  rw [iI_eq (by omega) (by decide)] at w2
                  omega
              refine xs_icmp_ne dB_layZones_45 (fun q => ?_) (fun q => ?_)
              · have hin : a ∈ Z := by
                  cases hix : ixA Z a with
                  | none => exact absurd (hrn.mpr hix) q
                  | some w =>
                    obtain ⟨hk, h1, _⟩ := List.findIdx?_eq_some_iff_getElem.mp hix
                    rw [← of_decide_eq_true h1]
                    exact List.getElem_mem hk
                exact next H2 Z th2 [] hc2 h82 h92 hz2 (lInv_same hinv hj hd he (Or.inr (Or.inl (ha ▸ hin)))) hfr2
              have hnin : a ∉ Z := fun hin => by
                have h1 := List.findIdx?_eq_none_iff.mp (hrn.mp q) a hin
                exact absurd h1 (by simp)
              obtain ⟨t0, t1, t2⟩ := id ht2
              refine xs_aload_n dB_layZones_48 rfl ?_
              refine xs_aload_n dB_layZones_49 rfl ?_
              refine xs_iconst (v := 0) dB_layZones_50 (by decide) ?_
              refine xs_iald dB_layZones_51 (by repeat (first | exact va_up_self _ _ _ | assumption | refine (va_up_ne _ _ (by omega)).trans ?_)) (by assumption) ?_
              refine xs_aload_n dB_layZones_52 rfl ?_
              refine xs_get dB_layZones_53 flB_32 (by repeat (first | exact va_up_self _ _ _ | assumption | refine (va_up_ne _ _ (by omega)).trans ?_)) rfl ?_
              refine xs_iconst (v := 0) dB_layZones_56 (by decide) ?_
              refine xs_lald dB_layZones_57 (by repeat (first | exact va_up_self _ _ _ | assumption | refine (va_up_ne _ _ (by omega)).trans ?_)) (by assumption) ?_
              rw [e0, f0, t0]
              refine xs_aload_n dB_layZones_58 rfl ?_
              refine xs_get dB_layZones_59 flB_32 (by repeat (first | exact va_up_self _ _ _ | assumption | refine (va_up_ne _ _ (by omega)).trans ?_)) rfl ?_
              refine xs_iconst (v := 1) dB_layZones_62 (by decide) ?_
              refine xs_lald dB_layZones_63 (by repeat (first | exact va_up_self _ _ _ | assumption | refine (va_up_ne _ _ (by omega)).trans ?_)) (by assumption) ?_
              rw [e1, t1]
              refine xs_aload_n dB_layZones_64 rfl ?_
              refine xs_get dB_layZones_65 flB_32 (by repeat (first | exact va_up_self _ _ _ | assumption | refine (va_up_ne _ _ (by omega)).trans ?_)) rfl ?_
              refine xs_iconst (v := 2) dB_layZones_68 (by decide) ?_
              refine xs_lald dB_layZones_69 (by repeat (first | exact va_up_self _ _ _ | assumption | refine (va_up_ne _ _ (by omega)).trans ?_)) (by assumption) ?_
              rw [e2, t2]
              have hlt := mem_lt D a hL
              have hpk := pc_le (mem D a)
              refine xs_cV_i (As := [_, _, _, _]) dB_layZones_70 lkB_133 (by repeat (first | exact va_up_self _ _ _ | assumption | refine (va_up_ne _ _ (by omega)).trans ?_)) (k_B_facesIn hc2 h92 hwy hok (bd_mono hab (by decide))) rfl rfl (Nat.le_of_ble_eq_true rfl) ⟨by decide, by decide⟩ ⟨by omega, by omega⟩ ?_
              refine xs_istore (L2 := [(4, _), (0, _), (1, _), (2, _), (3, _)]) dB_layZones_73 (by decide) rfl ?_
              refine xs_iload dB_layZones_75 rfl ?_
              refine xs_cS_i (As := [_]) dB_layZones_77 lkB_110 (k_B_count hlt) rfl rfl (Nat.le_of_ble_eq_true rfl) ⟨by decide, by decide⟩ ⟨by omega, by omega⟩ ?_
              refine xs_aload_n dB_layZones_80 rfl ?_
              refine xs_iconst (v := 2) dB_layZones_81 (by decide) ?_
              refine xs_iald dB_layZones_82 (by repeat (first | exact va_up_self _ _ _ | assumption | refine (va_up_ne _ _ (by omega)).trans ?_)) (by assumption) ?_
              rw [e2, f2]
              have hcmp := iI_lt (x := (pc (mem D a) : Int)) (y := lst) (by omega) (by omega)
              rw [← iI_nat] at hcmp
              refine xs_icmp_lt dB_layZones_83 (fun q => ?_) (fun q => ?_)
              · have h9 := hcmp.mp q
                refine xs_pick (L2 := [(0, _), (1, _), (2, _), (3, _)]) [1, 2, 3, 4] rfl ?_
                exact next H2 Z th2 [] hc2 h82 h92 hz2 (lInv_same hinv hj hd he (Or.inr (Or.inr (by rw [← ha]; exact decide_eq_false (by omega))))) hfr2
              · have h9 : lst ≤ (pc (mem D a) : Int) := by
                  by_cases w : lst ≤ (pc (mem D a) : Int)
                  · exact w
                  · exact absurd (hcmp.mpr (by omega)) q
                refine xs_aload_n dB_layZones_86 rfl ?_
                refine xs_iload dB_layZones_87 rfl ?_
                refine xs_cV_vx (As := [_]) dB_layZones_89 lkB_137 (by repeat (first | exact va_up_self _ _ _ | assumption | refine (va_up_ne _ _ (by omega)).trans ?_)) (k_B_putZone hc2 h82 ht2 hz2 hzlen (fun x hx => bd_mono (hzb x hx) (by decide)) (bd_mono hab (by decide)) hL) rfl rfl (Nat.le_of_ble_eq_true rfl) ⟨by decide, by decide⟩ ⟨by omega, by omega⟩ ?_
                intro H3 ⟨⟨p, p1, p2, p3, p4⟩, p5, p6⟩
                refine xs_pick (L2 := [(0, _), (1, _), (2, _), (3, _)]) [1, 2, 3, 4] rfl ?_
                have hins : lInv D lst i (j + 1) (insL Z (nz (cr d e)) p) := lInv_ins hinv hj hd he hcn (by rw [← ha]; exact hnin) (by rw [← ha]; exact decide_eq_true h9) p1 (by rw [← ha]; exact p2 hinv.2.2.1) (by rw [← ha]; exact p3)
                rw [← ha] at hins
                exact next H3 (insL Z a p) th2 [] (by rw [insL_len]; exact p5) (by rw [p6 _ (by omega) (by omega)]; exact h82) (by rw [p6 _ (by omega) (by omega)]; exact h92) p4 hins (fun k h1 h2 => (p6 k h1 (by omega)).trans (hfr2 k h1 h2))
        refine xs_iconst (v := 0) dB_layZones_19 (by decide) ?_
        refine xs_istore_n (L2 := [(3, _), (0, _), (1, _), (2, _)]) dB_layZones_20 (by decide) rfl ?_
        refine xs_pick (L2 := [(0, _), (1, _), (2, _), (3, _)]) [1, 2, 3, 0] rfl ?_
        exact inner (i + 1) 0 H Z th wy (by omega) (by omega) hcH h8 h9 hwy hz hinv hfr
  refine xK_of2 (L0 := [(0, _), (1, _)]) (by decide +kernel) rfl (Nat.le_of_ble_eq_true rfl) rfl ?_
  refine xs_aload_n dB_layZones_0 rfl ?_
  refine xs_aload_n dB_layZones_1 rfl ?_
  refine xs_cV_vx (As := [_]) dB_layZones_2 lkB_118 (by repeat (first | exact va_up_self _ _ _ | assumption | refine (va_up_ne _ _ (by omega)).trans ?_)) (k_B_layWays hc h8 h9 hr (by omega) hV hf) rfl rfl (Nat.le_of_ble_eq_true rfl) ⟨by decide, by decide⟩ ⟨by omega, by omega⟩ ?_
  intro H ⟨⟨th, q1⟩, ⟨wy, q2, q3⟩, q4⟩
  have hcH : H b = mCl b rf sz sp gd ac zs ft := by rw [q4 _ (by omega)]; exact hc
  rw [← hD] at q3
  refine xs_aload_n dB_layZones_5 rfl ?_
  refine xs_iconst (v := 0) dB_layZones_6 (by decide) ?_
  refine xs_put dB_layZones_7 flB_106 ft8_17 (by repeat (first | exact va_up_self _ _ _ | assumption | refine (va_up_ne _ _ (by omega)).trans ?_)) (fun _ => rfl) (fun _ => rfl) (by simp) ?_
  refine xs_iconst (v := 0) dB_layZones_10 (by decide) ?_
  refine xs_istore_n (L2 := [(2, _), (0, _), (1, _)]) dB_layZones_11 (by decide) rfl ?_
  refine xs_pick (L2 := [(0, _), (1, _), (2, _)]) [1, 2, 0] rfl ?_
  refine outer (D.length + 1) 0 _ [] th wy (by omega) (by omega) (va_up_self _ _ _) ?_ ?_ q3 ⟨ax0, mn0, wh0, ?_, ?_, ?_, (fun k x hk => by cases hk), (fun k x hk => by cases hk), (fun k x hk => by cases hk), Nat.zero_le _⟩ (lInv_0 D lst) (fun k h1 h2 => (va_up_ne _ _ h1).trans (q4 k (by omega)))
  · rw [va_up_ne _ _ (by omega)]; exact q1
  · rw [va_up_ne _ _ (by omega)]; exact q2
  · rw [va_up_ne _ _ (by omega), q4 _ (by omega)]; exact h10
  · rw [va_up_ne _ _ (by omega), q4 _ (by omega)]; exact h11
  · rw [va_up_ne _ _ (by omega), q4 _ (by omega)]; exact h12
theorem k_B_zonesOf {r : Nat} {f : Nat → Int32} {V : zV} (hc : G b = mCl b rf sz sp gd ac zs ft) (hw : mwk G b) (hr : G r = oI 70 f) (hrb : b < r ∧ r < b + 8) (hV : zOk V) (hf : mrow f V) :
    xK mB_zonesOf [.ref b, .ref r] n G 0 0 (qIx n (fun q H => q = nI (zl V).length ∧ H b = mCl b rf sz sp gd ac (nI (zl V).length) ft ∧ mlz H b V ∧ mfr b G H)) xNo := by
  refine xK_of2 (L0 := [(0, _), (1, _)]) (by decide +kernel) rfl (Nat.le_of_ble_eq_true rfl) rfl ?_
  refine xs_aload_n dB_zonesOf_0 rfl ?_
  refine xs_aload_n dB_zonesOf_1 rfl ?_
  refine xs_cV_vx (As := [_]) dB_zonesOf_2 lkB_141 (by repeat (first | exact va_up_self _ _ _ | assumption | refine (va_up_ne _ _ (by omega)).trans ?_)) (k_B_layZones hc hw hr hrb hV hf) rfl rfl (Nat.le_of_ble_eq_true rfl) ⟨by decide, by decide⟩ ⟨by omega, by omega⟩ ?_
  intro H ⟨q1, q2, q3⟩
  refine xs_aload_n dB_zonesOf_5 rfl ?_
  refine xs_get dB_zonesOf_6 flB_106 (by repeat (first | exact va_up_self _ _ _ | assumption | refine (va_up_ne _ _ (by omega)).trans ?_)) rfl ?_
  exact xs_iret dB_zonesOf_9 rfl rfl (by omega) (by omega) ⟨_, rfl, rfl, rfl, q1, q2, q3⟩
end M6
