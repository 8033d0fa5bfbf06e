/-! the whole system's state and answers, pure: text, crystal, remembered crystals (the last first), the two slots -/
abbrev zS : Type := List Nat × zV × List zV × (Option zV × Option zV)
abbrev zQ : Type := Nat × Int × zS
theorem iT (x : Int32) : iI x.toInt = x := Int32.ofInt_toInt x
theorem nodup_inj {Z : List P3} (h : injL Z) : Z.Nodup := by
  rw [List.nodup_iff_pairwise_ne, List.pairwise_iff_getElem]
  intro i j hi hj hij e
  have h1 : Z[i]? = some Z[i] := List.getElem?_eq_getElem hi
  have h2 : Z[j]? = some Z[i] := by rw [e]; exact List.getElem?_eq_getElem hj
  exact absurd (h i j _ h1 h2) (by omega)
theorem zSet_of {D : List P3} {lst : Int} {n : Nat} {Z : List P3} (h : zFin D lst n Z) : zSet D lst Z := ⟨nodup_inj h.1, h.2.1⟩
/-- the listed zones, in their order -/
noncomputable def zl (V : zV) : List P3 := Classical.epsilon (fun Z => zFin (zDirs V) V.2.2.1 Z.length Z)
theorem zl_eq {V : zV} {Z : List P3} (h : zFin (zDirs V) V.2.2.1 Z.length Z) : zl V = Z := by
  have h2 : zFin (zDirs V) V.2.2.1 (zl V).length (zl V) := Classical.epsilon_spec (p := fun Z => zFin (zDirs V) V.2.2.1 Z.length Z) ⟨Z, h⟩
  exact srt_one (zDirs V) _ _ h2.1 h.1 (fun a => (h2.2.1 a).trans (h.2.1 a).symm) h2.2.2 h.2.2
/-- the listed zones, in any order: how many, and how long the longest -/
noncomputable def zu (V : zV) : List P3 := Classical.epsilon (fun Z => zSet (zDirs V) V.2.2.1 Z)
noncomputable def zcn (V : zV) : Nat := (zu V).length
noncomputable def zlg (V : zV) : Nat := lgs (zDirs V) (zu V)
theorem zu_set {V : zV} {Z : List P3} (h : zSet (zDirs V) V.2.2.1 Z) : zSet (zDirs V) V.2.2.1 (zu V) := Classical.epsilon_spec (p := fun Z => zSet (zDirs V) V.2.2.1 Z) ⟨Z, h⟩
theorem lgs_iff (D : List P3) (k : Nat) : ∀ Z : List P3, lgs D Z ≤ k ↔ ∀ a ∈ Z, pc (mem D a) ≤ k := by
  intro Z
  induction Z with
  | nil =>
    have : lgs D [] = 0 := rfl
    rw [this]
    exact ⟨fun _ a ha => absurd ha List.not_mem_nil, fun _ => Nat.zero_le _⟩
  | cons x Z ih =>
    have e : lgs D (x :: Z) = max (pc (mem D x)) (lgs D Z) := rfl
    rw [e, Nat.max_le, ih]
    constructor
    · rintro ⟨h1, h2⟩ a ha
      rcases List.mem_cons.mp ha with rfl | ha
      · exact h1
      · exact h2 a ha
    · intro h
      exact ⟨h x List.mem_cons_self, fun a ha => h a (List.mem_cons_of_mem _ ha)⟩
theorem lgs_mem {D : List P3} {Z Y : List P3} (h : ∀ a, a ∈ Z ↔ a ∈ Y) : lgs D Z = lgs D Y := by
  have h1 := (lgs_iff D (lgs D Y) Z).mpr (fun a ha => (lgs_iff D (lgs D Y) Y).mp (Nat.le_refl _) a ((h a).mp ha))
  have h2 := (lgs_iff D (lgs D Z) Y).mpr (fun a ha => (lgs_iff D (lgs D Z) Z).mp (Nat.le_refl _) a ((h a).mpr ha))
  omega
theorem zcn_eq {V : zV} {Y : List P3} (h : zSet (zDirs V) V.2.2.1 Y) : zcn V = Y.length := by
  have h2 := zu_set h
  have h3 := nodup_len (zu V) Y h2.1 (fun a ha => (h.2 a).mpr ((h2.2 a).mp ha))
  have h4 := nodup_len Y (zu V) h.1 (fun a ha => (h2.2 a).mpr ((h.2 a).mp ha))
  unfold zcn
  omega
theorem zlg_eq {V : zV} {Y : List P3} (h : zSet (zDirs V) V.2.2.1 Y) : zlg V = lgs (zDirs V) Y := by
  have h2 := zu_set h
  exact lgs_mem fun a => (h2.2 a).trans (h.2 a).symm
/-- a number's place in a list -/
def fAt {α : Type} (l : List α) (i : Int) : Option α := if 0 ≤ i then l[i.toNat]? else none
theorem fAt_some {α : Type} {l : List α} {i : Int} {f : α} (h : fAt l i = some f) : ∃ k : Nat, i = k ∧ k < l.length ∧ l[k]? = some f := by
  unfold fAt at h
  split at h
  · exact ⟨i.toNat, by omega, (List.getElem?_eq_some_iff.mp h).1, h⟩
  · cases h
theorem fAt_nat {α : Type} (l : List α) (k : Nat) : fAt l (k : Int) = l[k]? := by
  unfold fAt
  rw [if_pos (by omega), Int.toNat_natCast]
theorem fAt_none {α : Type} {l : List α} {i : Int} : fAt l i = none ↔ ¬ (0 ≤ i ∧ i < l.length) := by
  unfold fAt
  split
  · rw [List.getElem?_eq_none_iff]
    omega
  · simp
    omega
def nO (o : Option Nat) : Int := match o with
  | none => -99999
  | some i => i
theorem nO_r (o : Option Nat) : rN o = iI (nO o) := by
  cases o with
  | none => rfl
  | some i => exact iI_nat i
/-- within -b .. b -/
def wi (b : Nat) (x : Int) : Bool := decide (x.natAbs ≤ b)
def eP (T : List Nat) : Int := match (pRead T).1 with
  | some _ => -99999
  | none => ((pRead T).2 : Int)
def rAppend (S : zS) (c : Int) : zQ := if ¬ (0 ≤ c ∧ c ≤ 255) then (1, 0, S) else if 100 ≤ S.1.length then (2, 0, S) else (0, ((S.1.length + 1 : Nat) : Int), (S.1 ++ [c.toNat], S.2))
def rClear (S : zS) : zQ := (0, (S.1.length : Int), ([], S.2))
def rErr (S : zS) : zQ := (0, eP S.1, S)
def rLoad (S : zS) : zQ := match (pRead S.1).1 with
  | none => (1, 0, S)
  | some W => (0, (W.1.length : Int), (S.1, W, [], (none, none)))
noncomputable def abv (V : zV) (w : Int) : Int := if w = 0 then (V.1.length : Int) else if w = 1 then (zTw V : Int) else if w = 2 then V.2.1 else if w = 3 then V.2.2.1 else if w = 4 then (zcn V : Int) else if w = 5 then (ndir (zDirs V) (zDirs V).length : Int) else if w = 6 then (zlg V : Int) else if w = 7 then V.2.2.2.1 else if w = 8 then V.2.2.2.2.1 else V.2.2.2.2.2
noncomputable def rAbout (S : zS) (w : Int) : zQ := if 0 ≤ w ∧ w ≤ 9 then (0, abv S.2.1 w, S) else (1, 0, S)
noncomputable def fav (V : zV) (i : Nat) (f : zF) (w : Int) : Int := if w = 0 then f.1.1 else if w = 1 then f.1.2.1 else if w = 2 then f.1.2.2 else if w = 3 then f.2 else if w = 4 then (zDir V.2.2.2 f).1 else if w = 5 then (zDir V.2.2.2 f).2.1 else if w = 6 then (zDir V.2.2.2 f).2.2 else if w = 7 then (thr (zDirs V) (zl V) i : Int) else ((frm V.2.1 f.1).length : Int)
noncomputable def rFace (S : zS) (i w : Int) : zQ := match fAt S.2.1.1 i with
  | none => (1, 0, S)
  | some f => if 0 ≤ w ∧ w ≤ 8 then (0, fav S.2.1 i.toNat f w, S) else (2, 0, S)
def zav (D : List P3) (a : P3) (w : Int) : Int := if w = 0 then a.1 else if w = 1 then a.2.1 else if w = 2 then a.2.2 else if w = 3 then (pc (mem D a) : Int) else (mem D a : Int)
noncomputable def rZone (S : zS) (z w : Int) : zQ := match fAt (zl S.2.1) z with
  | none => (1, 0, S)
  | some a => if 0 ≤ w ∧ w ≤ 4 then (0, zav (zDirs S.2.1) a w, S) else (2, 0, S)
/-- the place of an axis among some; of a direction's parallel -/
def ixA (Z : List P3) (a : P3) : Option Nat := Z.findIdx? (fun b => decide (b = a))
def ixP (D : List P3) (a : P3) : Option Nat := D.findIdx? (fun d => decide (d = a) || decide (d = ng a))
noncomputable def zno (V : zV) (f g : zF) : Option Nat := if cr (zDir V.2.2.2 f) (zDir V.2.2.2 g) = (0, 0, 0) then none else ixA (zl V) (nz (cr (zDir V.2.2.2 f) (zDir V.2.2.2 g)))
noncomputable def rZoneOf (S : zS) (i j : Int) : zQ := match fAt S.2.1.1 i, fAt S.2.1.1 j with
  | some f, some g => (0, nO (zno S.2.1 f g), S)
  | _, _ => (1, 0, S)
noncomputable def rInZone (S : zS) (u v w : Int) : zQ := if (wi 99 u && wi 99 v && wi 99 w) = true then (0, if (u, v, w) = ((0, 0, 0) : P3) then -99999 else (pc (mem (zDirs S.2.1) (u, v, w)) : Int), S) else (1, 0, S)
def crv (D : List P3) (c : P3) (w : Int) : Int := if w = 0 then c.1 else if w = 1 then c.2.1 else if w = 2 then c.2.2 else nO (ixP D c)
noncomputable def rCross (S : zS) (z y w : Int) : zQ := match fAt (zl S.2.1) z, fAt (zl S.2.1) y with
  | some a, some b => if z = y ∨ ¬ (0 ≤ w ∧ w ≤ 3) then (2, 0, S) else (0, crv (zDirs S.2.1) (nz (cr a b)) w, S)
  | _, _ => (1, 0, S)
def anv (d e : P3) : Int := if dt d e < 0 then -((10000 * dt d e * dt d e).tdiv (dt d d * dt e e)) else (10000 * dt d e * dt d e).tdiv (dt d d * dt e e)
def rAngle (S : zS) (i j : Int) : zQ := match fAt S.2.1.1 i, fAt S.2.1.1 j with
  | some f, some g => (0, anv (zDir S.2.1.2.2.2 f) (zDir S.2.1.2.2.2 g), S)
  | _, _ => (1, 0, S)
def bN (b : Bool) : Int := if b = true then 1 else 0
theorem bN_I (b : Bool) : bI b = iI (bN b) := by cases b <;> rfl
noncomputable def rSame (S : zS) (i j : Int) : zQ := match fAt S.2.1.1 i, fAt S.2.1.1 j with
  | some f, some g => (0, bN (zSame S.2.1 f g), S)
  | _, _ => (1, 0, S)
def wFa (h k l b : Int) : Bool := wi 9 h && wi 9 k && wi 9 l && decide (0 ≤ b ∧ b ≤ 1)
def rAddFace (S : zS) (h k l b : Int) : zQ := if ¬ (wFa h k l b = true) ∨ (h, k, l) = ((0, 0, 0) : P3) then (1, 0, S) else if zwhy S.2.1.1 (h, k, l) b ≠ 0 then (2, 0, S) else (0, (S.2.1.1.length : Int), (S.1, zAdd S.2.1 (dv (h, k, l), b), hPush S.2.2.1 S.2.1, S.2.2.2))
/-- what a form lacks; a crystal with it -/
noncomputable def zMis (V : zV) (f : zF) : List P3 := (frm V.2.1 f.1).filter (fun q => decide ((q, f.2) ∉ V.1))
noncomputable def zFrm (V : zV) (f : zF) : zV := (V.1 ++ (zMis V f).map (fun q => (q, f.2)), V.2)
noncomputable def rAddForm (S : zS) (i : Int) : zQ := match fAt S.2.1.1 i with
  | none => (1, 0, S)
  | some f => if 16 < S.2.1.1.length + (zMis S.2.1 f).length then (2, 0, S) else (0, ((zMis S.2.1 f).length : Int), (S.1, zFrm S.2.1 f, hPush S.2.2.1 S.2.1, S.2.2.2))
def rTwin (S : zS) (i : Int) : zQ := match fAt S.2.1.1 i with
  | none => (1, 0, S)
  | some f => if zwhy S.2.1.1 f.1 (1 - f.2) ≠ 0 then (2, 0, S) else (0, (S.2.1.1.length : Int), (S.1, zAdd S.2.1 (dv f.1, 1 - f.2), hPush S.2.2.1 S.2.1, S.2.2.2))
def rRemove (S : zS) (i : Int) : zQ := match fAt S.2.1.1 i with
  | none => (1, 0, S)
  | some _ => (0, ((S.2.1.1.length - 1 : Nat) : Int), (S.1, zDrop S.2.1 i.toNat, hPush S.2.2.1 S.2.1, S.2.2.2))
def rSystem (S : zS) (s : Int) : zQ := if 0 ≤ s ∧ s ≤ 4 then (0, S.2.1.2.1, (S.1, (S.2.1.1, s, S.2.1.2.2), hPush S.2.2.1 S.2.1, S.2.2.2)) else (1, 0, S)
def zLst (V : zV) (m : Int) : zV := (V.1, V.2.1, m, V.2.2.2)
noncomputable def rLeast (S : zS) (m : Int) : zQ := if 2 ≤ m ∧ m ≤ 6 then (0, (zcn (zLst S.2.1 m) : Int), (S.1, zLst S.2.1 m, hPush S.2.2.1 S.2.1, S.2.2.2)) else (1, 0, S)
def wPl (p q r : Int) : Bool := wi 3 p && wi 3 q && wi 3 r && decide ((p, q, r) ≠ ((0, 0, 0) : P3))
noncomputable def rSetTwin (S : zS) (p q r : Int) : zQ := if wPl p q r = true then (0, (zcn (zAim S.2.1 (p, q, r)) : Int), (S.1, zAim S.2.1 (p, q, r), hPush S.2.2.1 S.2.1, S.2.2.2)) else (1, 0, S)
def rUndo (S : zS) : zQ := match S.2.2.1 with
  | [] => (1, 0, S)
  | W :: l => (0, (l.length : Int), (S.1, W, l, S.2.2.2))
def rWhy (S : zS) (h k l b : Int) : zQ := if wFa h k l b = true then (0, (zwhy S.2.1.1 (h, k, l) b : Int), S) else (1, 0, S)
/-- the twin planes by their numbers 14 .. 26 -/
def pat (k : Nat) : P3 := (((k / 9 : Nat) : Int) - 1, ((k / 3 % 3 : Nat) : Int) - 1, ((k % 3 : Nat) : Int) - 1)
def pnu (k : Nat) : Int := 100 * ((k / 9 : Nat) : Int) + 10 * ((k / 3 % 3 : Nat) : Int) + ((k % 3 : Nat) : Int)
/-- the best of the planes 14 .. k - 1, and how long its longest zone is -/
noncomputable def bst (V : zV) : Nat → Int × Int
  | 0 => (-99999, -1)
  | k + 1 => if (bst V k).2 < (zlg (zAim V (pat (k + 14))) : Int) then (pnu (k + 14), (zlg (zAim V (pat (k + 14))) : Int)) else bst V k
noncomputable def rBest (S : zS) : zQ := (0, (bst S.2.1 13).1, S)
noncomputable def key (V : zV) : Nat → Int × Nat
  | 0 => (-99999, 121)
  | k + 1 => if zcn (zDrop V k) < (key V k).2 then ((k : Int), zcn (zDrop V k)) else key V k
noncomputable def rKey (S : zS) : zQ := (0, (key S.2.1 S.2.1.1.length).1, S)
/-- what grows: the set after so many rounds -/
def gSt (D : List P3) : Nat → P3 → Prop
  | 0, p => bd 3 p ∧ ∃ d ∈ D, p = nz d
  | r + 1, p => gSt D r p ∨ (bd 3 p ∧ ∃ l1 l2, (∃ a b, gSt D r a ∧ gSt D r b ∧ a ≠ b ∧ l1 = nz (cr a b)) ∧ (∃ a b, gSt D r a ∧ gSt D r b ∧ a ≠ b ∧ l2 = nz (cr a b)) ∧ l1 ≠ l2 ∧ p = nz (cr l1 l2))
noncomputable def gBo (D : List P3) (r : Nat) (p : P3) : Bool := @decide (gSt D r p) (Classical.propDecidable _)
noncomputable def gNo (D : List P3) (r : Nat) : Nat := gsm.countP (gBo D r)
noncomputable def rGrown (S : zS) (r : Int) : zQ := if 0 ≤ r ∧ r ≤ 3 then (0, (gNo (zDirs S.2.1) r.toNat : Int), S) else (1, 0, S)
def sgd (d : Nat) : Int := if d ≤ 4 then (d : Int) else (d : Int) - 10
def sg3 (g : Nat) : P3 := (sgd (g / 100 % 10), sgd (g / 10 % 10), sgd (g % 10))
/-- a script's group: the crystal behind it -/
noncomputable def sCmd (V : zV) (g : Nat) : Option zV :=
  if g / 10000 = 1 then (if g / 1000 % 10 ≤ 1 ∧ zwhy V.1 (sg3 g) ((g / 1000 % 10 : Nat) : Int) = 0 then some (zAdd V (dv (sg3 g), ((g / 1000 % 10 : Nat) : Int))) else none)
  else if g / 10000 = 2 then (if g % 10000 < V.1.length then some (zDrop V (g % 10000)) else none)
  else if g / 10000 = 3 then (if g % 10000 ≤ 4 then some (V.1, ((g % 10000 : Nat) : Int), V.2.2) else none)
  else if g / 10000 = 4 then (match V.1[g % 10000]? with
    | none => none
    | some f => if 16 < V.1.length + (zMis V f).length then none else some (zFrm V f))
  else if g / 10000 = 5 then (if g / 1000 % 10 = 0 ∧ wPl (sg3 g).1 (sg3 g).2.1 (sg3 g).2.2 = true then some (zAim V (sg3 g)) else none)
  else if g / 10000 = 6 then (if sg3 g ≠ (0, 0, 0) ∧ g / 1000 % 10 ≤ pc (mem (zDirs V) (sg3 g)) then some V else none)
  else if g / 10000 = 7 then (if g / 1000 % 10 = 0 ∧ g % 1000 ≤ zcn V then some V else none)
  else if g / 10000 = 8 then (match V.1[g % 10000 / 100]?, V.1[g % 100]? with
    | some e, some f => if zSame V e f = true then some V else none
    | _, _ => none)
  else if g / 10000 = 9 then (match V.1[g % 10000]? with
    | none => none
    | some f => if zwhy V.1 f.1 (1 - f.2) = 0 then some (zAdd V (dv f.1, 1 - f.2)) else none)
  else none
/-- a script from its command k on, n commands in all -/
noncomputable def sRun (s n : Nat) : Nat → Nat → zV → Int
  | 0, _, _ => -99999
  | m + 1, k, V => match sCmd V (s / 100000 ^ (n - 1 - k) % 100000) with
    | none => (k : Int)
    | some W => sRun s n m (k + 1) W
noncomputable def rScript (S : zS) (n s : Int) : zQ := if (1 ≤ n ∧ n ≤ 3) ∧ 0 ≤ s ∧ s < ((100000 ^ n.toNat : Nat) : Int) then (0, sRun s.toNat n.toNat n.toNat 0 S.2.1, S) else (1, 0, S)
/-- a round of a simulation, r its number -/
def simR (V : zV) (r : Nat) : zV :=
  zPut (if V.1.length = 16 then zDrop V (r / 8192 % 16) else V) (((r % 7 : Nat) : Int) - 3, ((r / 8 % 7 : Nat) : Int) - 3, ((r / 64 % 7 : Nat) : Int) - 3) ((r / 512 % 2 : Nat) : Int)
def lcg (x : Int64) : Int64 := x * (6364136223846793005 : Int64) + (1442695040888963407 : Int64)
def rnd (x : Int64) : Nat := (x.toUInt64 >>> 33).toNat
def simS (p : Int64 × zV) : Int64 × zV := (lcg p.1, simR p.2 (rnd (lcg p.1)))
def simI (p : Int64 × zV) : Nat → Int64 × zV
  | 0 => p
  | m + 1 => simS (simI p m)
def simN (m : Nat) (x : Int64) (V : zV) : zV := (simI (x, V) m).2
noncomputable def rSim (S : zS) (x : Int64) (m : Int) : zQ := if 1 ≤ m ∧ m ≤ 99 then (0, 1000 * ((simN m.toNat x S.2.1).1.length : Int) + (zcn (simN m.toNat x S.2.1) : Int), S) else (1, 0, S)
def rSave (S : zS) (s : Int) : zQ := if s = 0 then (0, (S.2.1.1.length : Int), (S.1, S.2.1, S.2.2.1, (some S.2.1, S.2.2.2.2))) else if s = 1 then (0, (S.2.1.1.length : Int), (S.1, S.2.1, S.2.2.1, (S.2.2.2.1, some S.2.1))) else (1, 0, S)
def rRestore (S : zS) (s : Int) : zQ := if ¬ (s = 0 ∨ s = 1) then (1, 0, S) else match (if s = 0 then S.2.2.2.1 else S.2.2.2.2) with
  | none => (2, 0, S)
  | some W => (0, (W.1.length : Int), (S.1, W, [], S.2.2.2))
