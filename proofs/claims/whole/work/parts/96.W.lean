/-! the law's own methods: each calls the class and tells which exception came, if any -/
theorem r2_load {S : zS}  : (rLoad S).1 ≠ 2 := by
  unfold rLoad
  repeat' split
  all_goals first | exact (show (0 : Nat) ≠ 2 by decide) | exact (show (1 : Nat) ≠ 2 by decide)
theorem r2_about {S : zS} {x0 : Int32} : (rAbout S x0.toInt).1 ≠ 2 := by
  unfold rAbout
  repeat' split
  all_goals first | exact (show (0 : Nat) ≠ 2 by decide) | exact (show (1 : Nat) ≠ 2 by decide)
theorem r2_zoneOf {S : zS} {x0 : Int32} {x1 : Int32} : (rZoneOf S x0.toInt x1.toInt).1 ≠ 2 := by
  unfold rZoneOf
  repeat' split
  all_goals first | exact (show (0 : Nat) ≠ 2 by decide) | exact (show (1 : Nat) ≠ 2 by decide)
theorem r2_inZone {S : zS} {x0 : Int32} {x1 : Int32} {x2 : Int32} : (rInZone S x0.toInt x1.toInt x2.toInt).1 ≠ 2 := by
  unfold rInZone
  repeat' split
  all_goals first | exact (show (0 : Nat) ≠ 2 by decide) | exact (show (1 : Nat) ≠ 2 by decide)
theorem r2_angle {S : zS} {x0 : Int32} {x1 : Int32} : (rAngle S x0.toInt x1.toInt).1 ≠ 2 := by
  unfold rAngle
  repeat' split
  all_goals first | exact (show (0 : Nat) ≠ 2 by decide) | exact (show (1 : Nat) ≠ 2 by decide)
theorem r2_sameForm {S : zS} {x0 : Int32} {x1 : Int32} : (rSame S x0.toInt x1.toInt).1 ≠ 2 := by
  unfold rSame
  repeat' split
  all_goals first | exact (show (0 : Nat) ≠ 2 by decide) | exact (show (1 : Nat) ≠ 2 by decide)
theorem r2_remove {S : zS} {x0 : Int32} : (rRemove S x0.toInt).1 ≠ 2 := by
  unfold rRemove
  repeat' split
  all_goals first | exact (show (0 : Nat) ≠ 2 by decide) | exact (show (1 : Nat) ≠ 2 by decide)
theorem r2_setSystem {S : zS} {x0 : Int32} : (rSystem S x0.toInt).1 ≠ 2 := by
  unfold rSystem
  repeat' split
  all_goals first | exact (show (0 : Nat) ≠ 2 by decide) | exact (show (1 : Nat) ≠ 2 by decide)
theorem r2_setLeast {S : zS} {x0 : Int32} : (rLeast S x0.toInt).1 ≠ 2 := by
  unfold rLeast
  repeat' split
  all_goals first | exact (show (0 : Nat) ≠ 2 by decide) | exact (show (1 : Nat) ≠ 2 by decide)
theorem r2_setTwin {S : zS} {x0 : Int32} {x1 : Int32} {x2 : Int32} : (rSetTwin S x0.toInt x1.toInt x2.toInt).1 ≠ 2 := by
  unfold rSetTwin
  repeat' split
  all_goals first | exact (show (0 : Nat) ≠ 2 by decide) | exact (show (1 : Nat) ≠ 2 by decide)
theorem r2_undo {S : zS}  : (rUndo S).1 ≠ 2 := by
  unfold rUndo
  repeat' split
  all_goals first | exact (show (0 : Nat) ≠ 2 by decide) | exact (show (1 : Nat) ≠ 2 by decide)
theorem r2_whyNot {S : zS} {x0 : Int32} {x1 : Int32} {x2 : Int32} {x3 : Int32} : (rWhy S x0.toInt x1.toInt x2.toInt x3.toInt).1 ≠ 2 := by
  unfold rWhy
  repeat' split
  all_goals first | exact (show (0 : Nat) ≠ 2 by decide) | exact (show (1 : Nat) ≠ 2 by decide)
theorem r2_grown {S : zS} {x0 : Int32} : (rGrown S x0.toInt).1 ≠ 2 := by
  unfold rGrown
  repeat' split
  all_goals first | exact (show (0 : Nat) ≠ 2 by decide) | exact (show (1 : Nat) ≠ 2 by decide)
theorem r2_runScript {S : zS} {x0 : Int32} {x1 : Int64} : (rScript S x0.toInt x1.toInt).1 ≠ 2 := by
  unfold rScript
  repeat' split
  all_goals first | exact (show (0 : Nat) ≠ 2 by decide) | exact (show (1 : Nat) ≠ 2 by decide)
theorem r2_simulate {S : zS} {x0 : Int64} {x1 : Int32} : (rSim S x0 x1.toInt).1 ≠ 2 := by
  unfold rSim
  repeat' split
  all_goals first | exact (show (0 : Nat) ≠ 2 by decide) | exact (show (1 : Nat) ≠ 2 by decide)
theorem r2_save {S : zS} {x0 : Int32} : (rSave S x0.toInt).1 ≠ 2 := by
  unfold rSave
  repeat' split
  all_goals first | exact (show (0 : Nat) ≠ 2 by decide) | exact (show (1 : Nat) ≠ 2 by decide)
section Wr
variable {n a o : Nat} {G : xG} {S : zS} {ou : Nat → Int64}
theorem k_L_append {x0 : Int32} (hx : fzo G a S) (ho : G o = oL 1 ou) (hoa : o < a ∨ a + 528 ≤ o) : yK mL_append [.ref a, .int x0, .ref o] n G 1 6 (qW n a o G (rAppend S x0.toInt) (iI (rAppend S x0.toInt).2.1).toInt64) xNo := by
  obtain ⟨R, hR⟩ : ∃ R, R = (rAppend S x0.toInt) := ⟨_, rfl⟩
  have hk : xK mA_append [.ref a, .int x0] n G 1 6 (aPost n a G R) (aExc n a G R eA eS) := by rw [hR]; exact k_A_append hx
  rw [← hR]
  clear hR
  refine yK_of (L0 := [(0, _), (1, _), (2, _)]) (by decide +kernel) (Nat.le_of_ble_eq_true rfl) rfl ?_
  refine ys_aload_n dL_append_0 rfl ?_
  refine ys_iconst (v := 0) dL_append_1 (by decide) ?_
  refine ys_aload_n dL_append_2 rfl ?_
  refine ys_iload_n dL_append_3 rfl ?_
  refine ys_A (As := [_]) dL_append_4 lkL_7 hx hk rfl rfl (Nat.le_of_ble_eq_true rfl) ⟨by decide, by decide⟩ ⟨by omega, by omega⟩ (fun H h0 hz hf => ?_) (fun H h1 hz hf => ?_) (fun H h1 hz hf => ?_)
  · refine ys_i2l dL_append_7 ?_
    refine ys_last dL_append_8 ((hf o hoa).trans ho) in1_0 ?_
    refine ys_goto dL_append_9 ?_
    refine ys_iconst (v := 0) dL_append_18 (by decide) ?_
    exact ys_iret dL_append_19 rfl rfl (by omega) (by omega) (qW_0 h0 hz hf hoa (updL_0 _ _))
  · refine ys_catch (i := 3) (L2 := [(0, _), (1, _), (2, _)]) (nm := eA) (pre := []) (x := ⟨0, 9, 12, 13⟩) (suf := [⟨0, 9, 15, 15⟩]) (fun _ _ h => h) rfl (fun z hz => by cases hz) (by decide) (by decide) klL_13 (List.mem_of_getElem? (i := 10) rfl) rfl (by decide) (by decide) rfl dL_append_12 (Or.inr ⟨3, rfl, rfl, rfl⟩) ?_
    refine ys_iconst (v := 1) dL_append_13 (by decide) ?_
    exact ys_iret dL_append_14 rfl rfl (by omega) (by omega) (qW_x (j := 1) h1 ⟨by decide, by decide⟩ rfl hz hf ho hoa)
  · refine ys_catch (i := 3) (L2 := [(0, _), (1, _), (2, _)]) (nm := eS) (pre := [⟨0, 9, 12, 13⟩]) (x := ⟨0, 9, 15, 15⟩) (suf := []) (fun _ _ h => h) rfl (fun z hz => by rw [List.mem_singleton.mp hz]; exact Or.inr ⟨by decide, eA, klL_13, List.mem_of_getElem? (i := 0) rfl⟩) (by decide) (by decide) klL_15 (List.mem_of_getElem? (i := 17) rfl) rfl (by decide) (by decide) rfl dL_append_15 (Or.inr ⟨3, rfl, rfl, rfl⟩) ?_
    refine ys_iconst (v := 2) dL_append_16 (by decide) ?_
    exact ys_iret dL_append_17 rfl rfl (by omega) (by omega) (qW_x (j := 2) h1 ⟨by decide, by decide⟩ rfl hz hf ho hoa)
theorem k_L_load  (hx : fzo G a S) (ho : G o = oL 1 ou) (hoa : o < a ∨ a + 528 ≤ o) : yK mL_load [.ref a, .ref o] n G 1 6 (qW n a o G (rLoad S) (iI (rLoad S).2.1).toInt64) xNo := by
  obtain ⟨R, hR⟩ : ∃ R, R = (rLoad S) := ⟨_, rfl⟩
  have hk : xK mA_load [.ref a] n G 1 6 (aPost n a G R) (aExc n a G R eS eS) := by rw [hR]; exact k_A_load hx
  have hne : R.1 ≠ 2 := by rw [hR]; exact r2_load
  rw [← hR]
  clear hR
  refine yK_of (L0 := [(0, _), (1, _)]) (by decide +kernel) (Nat.le_of_ble_eq_true rfl) rfl ?_
  refine ys_aload_n dL_load_0 rfl ?_
  refine ys_iconst (v := 0) dL_load_1 (by decide) ?_
  refine ys_aload_n dL_load_2 rfl ?_
  refine ys_A (As := []) dL_load_3 lkL_17 hx hk rfl rfl (Nat.le_of_ble_eq_true rfl) ⟨by decide, by decide⟩ ⟨by omega, by omega⟩ (fun H h0 hz hf => ?_) (fun H h1 hz hf => ?_) (fun H h1 hz hf => ?_)
  · refine ys_i2l dL_load_6 ?_
    refine ys_last dL_load_7 ((hf o hoa).trans ho) in1_0 ?_
    refine ys_goto dL_load_8 ?_
    refine ys_iconst (v := 0) dL_load_14 (by decide) ?_
    exact ys_iret dL_load_15 rfl rfl (by omega) (by omega) (qW_0 h0 hz hf hoa (updL_0 _ _))
  · refine ys_catch (i := 2) (L2 := [(0, _), (1, _)]) (nm := eS) (pre := []) (x := ⟨0, 8, 11, 15⟩) (suf := []) (fun _ _ h => h) rfl (fun z hz => by cases hz) (by decide) (by decide) klL_15 (List.mem_of_getElem? (i := 17) rfl) rfl (by decide) (by decide) rfl dL_load_11 (Or.inr ⟨2, rfl, rfl, rfl⟩) ?_
    refine ys_iconst (v := 1) dL_load_12 (by decide) ?_
    exact ys_iret dL_load_13 rfl rfl (by omega) (by omega) (qW_x (j := 1) h1 ⟨by decide, by decide⟩ rfl hz hf ho hoa)
  · exact absurd h1 hne
theorem k_L_about {x0 : Int32} (hx : fzo G a S) (ho : G o = oL 1 ou) (hoa : o < a ∨ a + 528 ≤ o) : yK mL_about [.ref a, .int x0, .ref o] n G 1 6 (qW n a o G (rAbout S x0.toInt) (iI (rAbout S x0.toInt).2.1).toInt64) xNo := by
  obtain ⟨R, hR⟩ : ∃ R, R = (rAbout S x0.toInt) := ⟨_, rfl⟩
  have hk : xK mA_about [.ref a, .int x0] n G 1 6 (aPost n a G R) (aExc n a G R eA eA) := by rw [hR]; exact k_A_about hx
  have hne : R.1 ≠ 2 := by rw [hR]; exact r2_about
  rw [← hR]
  clear hR
  refine yK_of (L0 := [(0, _), (1, _), (2, _)]) (by decide +kernel) (Nat.le_of_ble_eq_true rfl) rfl ?_
  refine ys_aload_n dL_about_0 rfl ?_
  refine ys_iconst (v := 0) dL_about_1 (by decide) ?_
  refine ys_aload_n dL_about_2 rfl ?_
  refine ys_iload_n dL_about_3 rfl ?_
  refine ys_A (As := [_]) dL_about_4 lkL_21 hx hk rfl rfl (Nat.le_of_ble_eq_true rfl) ⟨by decide, by decide⟩ ⟨by omega, by omega⟩ (fun H h0 hz hf => ?_) (fun H h1 hz hf => ?_) (fun H h1 hz hf => ?_)
  · refine ys_i2l dL_about_7 ?_
    refine ys_last dL_about_8 ((hf o hoa).trans ho) in1_0 ?_
    refine ys_goto dL_about_9 ?_
    refine ys_iconst (v := 0) dL_about_15 (by decide) ?_
    exact ys_iret dL_about_16 rfl rfl (by omega) (by omega) (qW_0 h0 hz hf hoa (updL_0 _ _))
  · refine ys_catch (i := 3) (L2 := [(0, _), (1, _), (2, _)]) (nm := eA) (pre := []) (x := ⟨0, 9, 12, 13⟩) (suf := []) (fun _ _ h => h) rfl (fun z hz => by cases hz) (by decide) (by decide) klL_13 (List.mem_of_getElem? (i := 10) rfl) rfl (by decide) (by decide) rfl dL_about_12 (Or.inr ⟨3, rfl, rfl, rfl⟩) ?_
    refine ys_iconst (v := 1) dL_about_13 (by decide) ?_
    exact ys_iret dL_about_14 rfl rfl (by omega) (by omega) (qW_x (j := 1) h1 ⟨by decide, by decide⟩ rfl hz hf ho hoa)
  · exact absurd h1 hne
theorem k_L_face {x0 : Int32} {x1 : Int32} (hx : fzo G a S) (ho : G o = oL 1 ou) (hoa : o < a ∨ a + 528 ≤ o) : yK mL_face [.ref a, .int x0, .int x1, .ref o] n G 1 6 (qW n a o G (rFace S x0.toInt x1.toInt) (iI (rFace S x0.toInt x1.toInt).2.1).toInt64) xNo := by
  obtain ⟨R, hR⟩ : ∃ R, R = (rFace S x0.toInt x1.toInt) := ⟨_, rfl⟩
  have hk : xK mA_face [.ref a, .int x0, .int x1] n G 1 6 (aPost n a G R) (aExc n a G R eX eA) := by rw [hR]; exact k_A_face hx
  rw [← hR]
  clear hR
  refine yK_of (L0 := [(0, _), (1, _), (2, _), (3, _)]) (by decide +kernel) (Nat.le_of_ble_eq_true rfl) rfl ?_
  refine ys_aload_n dL_face_0 rfl ?_
  refine ys_iconst (v := 0) dL_face_1 (by decide) ?_
  refine ys_aload_n dL_face_2 rfl ?_
  refine ys_iload_n dL_face_3 rfl ?_
  refine ys_iload_n dL_face_4 rfl ?_
  refine ys_A (As := [_, _]) dL_face_5 lkL_24 hx hk rfl rfl (Nat.le_of_ble_eq_true rfl) ⟨by decide, by decide⟩ ⟨by omega, by omega⟩ (fun H h0 hz hf => ?_) (fun H h1 hz hf => ?_) (fun H h1 hz hf => ?_)
  · refine ys_i2l dL_face_8 ?_
    refine ys_last dL_face_9 ((hf o hoa).trans ho) in1_0 ?_
    refine ys_goto dL_face_10 ?_
    refine ys_iconst (v := 0) dL_face_21 (by decide) ?_
    exact ys_iret dL_face_22 rfl rfl (by omega) (by omega) (qW_0 h0 hz hf hoa (updL_0 _ _))
  · refine ys_catch (i := 4) (L2 := [(0, _), (1, _), (2, _), (3, _)]) (nm := eX) (pre := []) (x := ⟨0, 10, 13, 28⟩) (suf := [⟨0, 10, 17, 13⟩]) (fun _ _ h => h) rfl (fun z hz => by cases hz) (by decide) (by decide) klL_28 (List.mem_of_getElem? (i := 18) rfl) rfl (by decide) (by decide) rfl dL_face_13 (Or.inl ⟨rfl, rfl⟩) ?_
    refine ys_iconst (v := 1) dL_face_15 (by decide) ?_
    exact ys_iret dL_face_16 rfl rfl (by omega) (by omega) (qW_x (j := 1) h1 ⟨by decide, by decide⟩ rfl hz hf ho hoa)
  · refine ys_catch (i := 4) (L2 := [(0, _), (1, _), (2, _), (3, _)]) (nm := eA) (pre := [⟨0, 10, 13, 28⟩]) (x := ⟨0, 10, 17, 13⟩) (suf := []) (fun _ _ h => h) rfl (fun z hz => by rw [List.mem_singleton.mp hz]; exact Or.inr ⟨by decide, eX, klL_28, List.mem_of_getElem? (i := 1) rfl⟩) (by decide) (by decide) klL_13 (List.mem_of_getElem? (i := 10) rfl) rfl (by decide) (by decide) rfl dL_face_17 (Or.inl ⟨rfl, rfl⟩) ?_
    refine ys_iconst (v := 2) dL_face_19 (by decide) ?_
    exact ys_iret dL_face_20 rfl rfl (by omega) (by omega) (qW_x (j := 2) h1 ⟨by decide, by decide⟩ rfl hz hf ho hoa)
theorem k_L_zone {x0 : Int32} {x1 : Int32} (hx : fzo G a S) (ho : G o = oL 1 ou) (hoa : o < a ∨ a + 528 ≤ o) : yK mL_zone [.ref a, .int x0, .int x1, .ref o] n G 1 6 (qW n a o G (rZone S x0.toInt x1.toInt) (iI (rZone S x0.toInt x1.toInt).2.1).toInt64) xNo := by
  obtain ⟨R, hR⟩ : ∃ R, R = (rZone S x0.toInt x1.toInt) := ⟨_, rfl⟩
  have hk : xK mA_zone [.ref a, .int x0, .int x1] n G 1 6 (aPost n a G R) (aExc n a G R eX eA) := by rw [hR]; exact k_A_zone hx
  rw [← hR]
  clear hR
  refine yK_of (L0 := [(0, _), (1, _), (2, _), (3, _)]) (by decide +kernel) (Nat.le_of_ble_eq_true rfl) rfl ?_
  refine ys_aload_n dL_zone_0 rfl ?_
  refine ys_iconst (v := 0) dL_zone_1 (by decide) ?_
  refine ys_aload_n dL_zone_2 rfl ?_
  refine ys_iload_n dL_zone_3 rfl ?_
  refine ys_iload_n dL_zone_4 rfl ?_
  refine ys_A (As := [_, _]) dL_zone_5 lkL_30 hx hk rfl rfl (Nat.le_of_ble_eq_true rfl) ⟨by decide, by decide⟩ ⟨by omega, by omega⟩ (fun H h0 hz hf => ?_) (fun H h1 hz hf => ?_) (fun H h1 hz hf => ?_)
  · refine ys_i2l dL_zone_8 ?_
    refine ys_last dL_zone_9 ((hf o hoa).trans ho) in1_0 ?_
    refine ys_goto dL_zone_10 ?_
    refine ys_iconst (v := 0) dL_zone_21 (by decide) ?_
    exact ys_iret dL_zone_22 rfl rfl (by omega) (by omega) (qW_0 h0 hz hf hoa (updL_0 _ _))
  · refine ys_catch (i := 4) (L2 := [(0, _), (1, _), (2, _), (3, _)]) (nm := eX) (pre := []) (x := ⟨0, 10, 13, 28⟩) (suf := [⟨0, 10, 17, 13⟩]) (fun _ _ h => h) rfl (fun z hz => by cases hz) (by decide) (by decide) klL_28 (List.mem_of_getElem? (i := 18) rfl) rfl (by decide) (by decide) rfl dL_zone_13 (Or.inl ⟨rfl, rfl⟩) ?_
    refine ys_iconst (v := 1) dL_zone_15 (by decide) ?_
    exact ys_iret dL_zone_16 rfl rfl (by omega) (by omega) (qW_x (j := 1) h1 ⟨by decide, by decide⟩ rfl hz hf ho hoa)
  · refine ys_catch (i := 4) (L2 := [(0, _), (1, _), (2, _), (3, _)]) (nm := eA) (pre := [⟨0, 10, 13, 28⟩]) (x := ⟨0, 10, 17, 13⟩) (suf := []) (fun _ _ h => h) rfl (fun z hz => by rw [List.mem_singleton.mp hz]; exact Or.inr ⟨by decide, eX, klL_28, List.mem_of_getElem? (i := 1) rfl⟩) (by decide) (by decide) klL_13 (List.mem_of_getElem? (i := 10) rfl) rfl (by decide) (by decide) rfl dL_zone_17 (Or.inl ⟨rfl, rfl⟩) ?_
    refine ys_iconst (v := 2) dL_zone_19 (by decide) ?_
    exact ys_iret dL_zone_20 rfl rfl (by omega) (by omega) (qW_x (j := 2) h1 ⟨by decide, by decide⟩ rfl hz hf ho hoa)
theorem k_L_zoneOf {x0 : Int32} {x1 : Int32} (hx : fzo G a S) (ho : G o = oL 1 ou) (hoa : o < a ∨ a + 528 ≤ o) : yK mL_zoneOf [.ref a, .int x0, .int x1, .ref o] n G 1 6 (qW n a o G (rZoneOf S x0.toInt x1.toInt) (iI (rZoneOf S x0.toInt x1.toInt).2.1).toInt64) xNo := by
  obtain ⟨R, hR⟩ : ∃ R, R = (rZoneOf S x0.toInt x1.toInt) := ⟨_, rfl⟩
  have hk : xK mA_zoneOf [.ref a, .int x0, .int x1] n G 1 6 (aPost n a G R) (aExc n a G R eX eX) := by rw [hR]; exact k_A_zoneOf hx
  have hne : R.1 ≠ 2 := by rw [hR]; exact r2_zoneOf
  rw [← hR]
  clear hR
  refine yK_of (L0 := [(0, _), (1, _), (2, _), (3, _)]) (by decide +kernel) (Nat.le_of_ble_eq_true rfl) rfl ?_
  refine ys_aload_n dL_zoneOf_0 rfl ?_
  refine ys_iconst (v := 0) dL_zoneOf_1 (by decide) ?_
  refine ys_aload_n dL_zoneOf_2 rfl ?_
  refine ys_iload_n dL_zoneOf_3 rfl ?_
  refine ys_iload_n dL_zoneOf_4 rfl ?_
  refine ys_A (As := [_, _]) dL_zoneOf_5 lkL_33 hx hk rfl rfl (Nat.le_of_ble_eq_true rfl) ⟨by decide, by decide⟩ ⟨by omega, by omega⟩ (fun H h0 hz hf => ?_) (fun H h1 hz hf => ?_) (fun H h1 hz hf => ?_)
  · refine ys_i2l dL_zoneOf_8 ?_
    refine ys_last dL_zoneOf_9 ((hf o hoa).trans ho) in1_0 ?_
    refine ys_goto dL_zoneOf_10 ?_
    refine ys_iconst (v := 0) dL_zoneOf_17 (by decide) ?_
    exact ys_iret dL_zoneOf_18 rfl rfl (by omega) (by omega) (qW_0 h0 hz hf hoa (updL_0 _ _))
  · refine ys_catch (i := 4) (L2 := [(0, _), (1, _), (2, _), (3, _)]) (nm := eX) (pre := []) (x := ⟨0, 10, 13, 28⟩) (suf := []) (fun _ _ h => h) rfl (fun z hz => by cases hz) (by decide) (by decide) klL_28 (List.mem_of_getElem? (i := 18) rfl) rfl (by decide) (by decide) rfl dL_zoneOf_13 (Or.inl ⟨rfl, rfl⟩) ?_
    refine ys_iconst (v := 1) dL_zoneOf_15 (by decide) ?_
    exact ys_iret dL_zoneOf_16 rfl rfl (by omega) (by omega) (qW_x (j := 1) h1 ⟨by decide, by decide⟩ rfl hz hf ho hoa)
  · exact absurd h1 hne
theorem k_L_inZone {x0 : Int32} {x1 : Int32} {x2 : Int32} (hx : fzo G a S) (ho : G o = oL 1 ou) (hoa : o < a ∨ a + 528 ≤ o) : yK mL_inZone [.ref a, .int x0, .int x1, .int x2, .ref o] n G 1 6 (qW n a o G (rInZone S x0.toInt x1.toInt x2.toInt) (iI (rInZone S x0.toInt x1.toInt x2.toInt).2.1).toInt64) xNo := by
  obtain ⟨R, hR⟩ : ∃ R, R = (rInZone S x0.toInt x1.toInt x2.toInt) := ⟨_, rfl⟩
  have hk : xK mA_inZone [.ref a, .int x0, .int x1, .int x2] n G 1 6 (aPost n a G R) (aExc n a G R eA eA) := by rw [hR]; exact k_A_inZone hx
  have hne : R.1 ≠ 2 := by rw [hR]; exact r2_inZone
  rw [← hR]
  clear hR
  refine yK_of (L0 := [(0, _), (1, _), (2, _), (3, _), (4, _)]) (by decide +kernel) (Nat.le_of_ble_eq_true rfl) rfl ?_
  refine ys_aload dL_inZone_0 rfl ?_
  refine ys_iconst (v := 0) dL_inZone_2 (by decide) ?_
  refine ys_aload_n dL_inZone_3 rfl ?_
  refine ys_iload_n dL_inZone_4 rfl ?_
  refine ys_iload_n dL_inZone_5 rfl ?_
  refine ys_iload_n dL_inZone_6 rfl ?_
  refine ys_A (As := [_, _, _]) dL_inZone_7 lkL_36 hx hk rfl rfl (Nat.le_of_ble_eq_true rfl) ⟨by decide, by decide⟩ ⟨by omega, by omega⟩ (fun H h0 hz hf => ?_) (fun H h1 hz hf => ?_) (fun H h1 hz hf => ?_)
  · refine ys_i2l dL_inZone_10 ?_
    refine ys_last dL_inZone_11 ((hf o hoa).trans ho) in1_0 ?_
    refine ys_goto dL_inZone_12 ?_
    refine ys_iconst (v := 0) dL_inZone_19 (by decide) ?_
    exact ys_iret dL_inZone_20 rfl rfl (by omega) (by omega) (qW_0 h0 hz hf hoa (updL_0 _ _))
  · refine ys_catch (i := 5) (L2 := [(0, _), (1, _), (2, _), (3, _), (4, _)]) (nm := eA) (pre := []) (x := ⟨0, 12, 15, 13⟩) (suf := []) (fun _ _ h => h) rfl (fun z hz => by cases hz) (by decide) (by decide) klL_13 (List.mem_of_getElem? (i := 10) rfl) rfl (by decide) (by decide) rfl dL_inZone_15 (Or.inl ⟨rfl, rfl⟩) ?_
    refine ys_iconst (v := 1) dL_inZone_17 (by decide) ?_
    exact ys_iret dL_inZone_18 rfl rfl (by omega) (by omega) (qW_x (j := 1) h1 ⟨by decide, by decide⟩ rfl hz hf ho hoa)
  · exact absurd h1 hne
theorem k_L_cross {x0 : Int32} {x1 : Int32} {x2 : Int32} (hx : fzo G a S) (ho : G o = oL 1 ou) (hoa : o < a ∨ a + 528 ≤ o) : yK mL_cross [.ref a, .int x0, .int x1, .int x2, .ref o] n G 1 6 (qW n a o G (rCross S x0.toInt x1.toInt x2.toInt) (iL (rCross S x0.toInt x1.toInt x2.toInt).2.1)) xNo := by
  obtain ⟨R, hR⟩ : ∃ R, R = (rCross S x0.toInt x1.toInt x2.toInt) := ⟨_, rfl⟩
  have hk : xK mA_cross [.ref a, .int x0, .int x1, .int x2] n G 1 6 (aPostL n a G R) (aExc n a G R eX eA) := by rw [hR]; exact k_A_cross hx
  rw [← hR]
  clear hR
  refine yK_of (L0 := [(0, _), (1, _), (2, _), (3, _), (4, _)]) (by decide +kernel) (Nat.le_of_ble_eq_true rfl) rfl ?_
  refine ys_aload dL_cross_0 rfl ?_
  refine ys_iconst (v := 0) dL_cross_2 (by decide) ?_
  refine ys_aload_n dL_cross_3 rfl ?_
  refine ys_iload_n dL_cross_4 rfl ?_
  refine ys_iload_n dL_cross_5 rfl ?_
  refine ys_iload_n dL_cross_6 rfl ?_
  refine ys_AL (As := [_, _, _]) dL_cross_7 lkL_40 hx hk rfl rfl (Nat.le_of_ble_eq_true rfl) ⟨by decide, by decide⟩ ⟨by omega, by omega⟩ (fun H h0 hz hf => ?_) (fun H h1 hz hf => ?_) (fun H h1 hz hf => ?_)
  · refine ys_last dL_cross_10 ((hf o hoa).trans ho) in1_0 ?_
    refine ys_goto dL_cross_11 ?_
    refine ys_iconst (v := 0) dL_cross_22 (by decide) ?_
    exact ys_iret dL_cross_23 rfl rfl (by omega) (by omega) (qW_0 h0 hz hf hoa (updL_0 _ _))
  · refine ys_catch (i := 5) (L2 := [(0, _), (1, _), (2, _), (3, _), (4, _)]) (nm := eX) (pre := []) (x := ⟨0, 11, 14, 28⟩) (suf := [⟨0, 11, 18, 13⟩]) (fun _ _ h => h) rfl (fun z hz => by cases hz) (by decide) (by decide) klL_28 (List.mem_of_getElem? (i := 18) rfl) rfl (by decide) (by decide) rfl dL_cross_14 (Or.inl ⟨rfl, rfl⟩) ?_
    refine ys_iconst (v := 1) dL_cross_16 (by decide) ?_
    exact ys_iret dL_cross_17 rfl rfl (by omega) (by omega) (qW_x (j := 1) h1 ⟨by decide, by decide⟩ rfl hz hf ho hoa)
  · refine ys_catch (i := 5) (L2 := [(0, _), (1, _), (2, _), (3, _), (4, _)]) (nm := eA) (pre := [⟨0, 11, 14, 28⟩]) (x := ⟨0, 11, 18, 13⟩) (suf := []) (fun _ _ h => h) rfl (fun z hz => by rw [List.mem_singleton.mp hz]; exact Or.inr ⟨by decide, eX, klL_28, List.mem_of_getElem? (i := 1) rfl⟩) (by decide) (by decide) klL_13 (List.mem_of_getElem? (i := 10) rfl) rfl (by decide) (by decide) rfl dL_cross_18 (Or.inl ⟨rfl, rfl⟩) ?_
    refine ys_iconst (v := 2) dL_cross_20 (by decide) ?_
    exact ys_iret dL_cross_21 rfl rfl (by omega) (by omega) (qW_x (j := 2) h1 ⟨by decide, by decide⟩ rfl hz hf ho hoa)
theorem k_L_angle {x0 : Int32} {x1 : Int32} (hx : fzo G a S) (ho : G o = oL 1 ou) (hoa : o < a ∨ a + 528 ≤ o) : yK mL_angle [.ref a, .int x0, .int x1, .ref o] n G 1 6 (qW n a o G (rAngle S x0.toInt x1.toInt) (iI (rAngle S x0.toInt x1.toInt).2.1).toInt64) xNo := by
  obtain ⟨R, hR⟩ : ∃ R, R = (rAngle S x0.toInt x1.toInt) := ⟨_, rfl⟩
  have hk : xK mA_angle [.ref a, .int x0, .int x1] n G 1 6 (aPost n a G R) (aExc n a G R eX eX) := by rw [hR]; exact k_A_angle hx
  have hne : R.1 ≠ 2 := by rw [hR]; exact r2_angle
  rw [← hR]
  clear hR
  refine yK_of (L0 := [(0, _), (1, _), (2, _), (3, _)]) (by decide +kernel) (Nat.le_of_ble_eq_true rfl) rfl ?_
  refine ys_aload_n dL_angle_0 rfl ?_
  refine ys_iconst (v := 0) dL_angle_1 (by decide) ?_
  refine ys_aload_n dL_angle_2 rfl ?_
  refine ys_iload_n dL_angle_3 rfl ?_
  refine ys_iload_n dL_angle_4 rfl ?_
  refine ys_A (As := [_, _]) dL_angle_5 lkL_44 hx hk rfl rfl (Nat.le_of_ble_eq_true rfl) ⟨by decide, by decide⟩ ⟨by omega, by omega⟩ (fun H h0 hz hf => ?_) (fun H h1 hz hf => ?_) (fun H h1 hz hf => ?_)
  · refine ys_i2l dL_angle_8 ?_
    refine ys_last dL_angle_9 ((hf o hoa).trans ho) in1_0 ?_
    refine ys_goto dL_angle_10 ?_
    refine ys_iconst (v := 0) dL_angle_17 (by decide) ?_
    exact ys_iret dL_angle_18 rfl rfl (by omega) (by omega) (qW_0 h0 hz hf hoa (updL_0 _ _))
  · refine ys_catch (i := 4) (L2 := [(0, _), (1, _), (2, _), (3, _)]) (nm := eX) (pre := []) (x := ⟨0, 10, 13, 28⟩) (suf := []) (fun _ _ h => h) rfl (fun z hz => by cases hz) (by decide) (by decide) klL_28 (List.mem_of_getElem? (i := 18) rfl) rfl (by decide) (by decide) rfl dL_angle_13 (Or.inl ⟨rfl, rfl⟩) ?_
    refine ys_iconst (v := 1) dL_angle_15 (by decide) ?_
    exact ys_iret dL_angle_16 rfl rfl (by omega) (by omega) (qW_x (j := 1) h1 ⟨by decide, by decide⟩ rfl hz hf ho hoa)
  · exact absurd h1 hne
theorem k_L_sameForm {x0 : Int32} {x1 : Int32} (hx : fzo G a S) (ho : G o = oL 1 ou) (hoa : o < a ∨ a + 528 ≤ o) : yK mL_sameForm [.ref a, .int x0, .int x1, .ref o] n G 1 6 (qW n a o G (rSame S x0.toInt x1.toInt) (if iI (rSame S x0.toInt x1.toInt).2.1 = 0 then 0 else 1)) xNo := by
  obtain ⟨R, hR⟩ : ∃ R, R = (rSame S x0.toInt x1.toInt) := ⟨_, rfl⟩
  have hk : xK mA_sameForm [.ref a, .int x0, .int x1] n G 1 6 (aPost n a G R) (aExc n a G R eX eX) := by rw [hR]; exact k_A_sameForm hx
  have hne : R.1 ≠ 2 := by rw [hR]; exact r2_sameForm
  rw [← hR]
  clear hR
  refine yK_of (L0 := [(0, _), (1, _), (2, _), (3, _)]) (by decide +kernel) (Nat.le_of_ble_eq_true rfl) rfl ?_
  refine ys_aload_n dL_sameForm_0 rfl ?_
  refine ys_iconst (v := 0) dL_sameForm_1 (by decide) ?_
  refine ys_aload_n dL_sameForm_2 rfl ?_
  refine ys_iload_n dL_sameForm_3 rfl ?_
  refine ys_iload_n dL_sameForm_4 rfl ?_
  refine ys_A (As := [_, _]) dL_sameForm_5 lkL_47 hx hk rfl rfl (Nat.le_of_ble_eq_true rfl) ⟨by decide, by decide⟩ ⟨by omega, by omega⟩ (fun H h0 hz hf => ?_) (fun H h1 hz hf => ?_) (fun H h1 hz hf => ?_)
  · refine ys_if_eq dL_sameForm_8 (fun e => ?_) (fun e => ?_)
    · refine ys_lconst (v := 0) dL_sameForm_15 (by decide) ?_
      refine ys_last dL_sameForm_16 ((hf o hoa).trans ho) in1_0 ?_
      refine ys_goto dL_sameForm_17 ?_
      refine ys_iconst (v := 0) dL_sameForm_24 (by decide) ?_
      exact ys_iret dL_sameForm_25 rfl rfl (by omega) (by omega) (qW_0 h0 hz hf hoa ((updL_0 _ _).trans (if_pos e).symm))
    · refine ys_lconst (v := 1) dL_sameForm_11 (by decide) ?_
      refine ys_goto dL_sameForm_12 ?_
      refine ys_last dL_sameForm_16 ((hf o hoa).trans ho) in1_0 ?_
      refine ys_goto dL_sameForm_17 ?_
      refine ys_iconst (v := 0) dL_sameForm_24 (by decide) ?_
      exact ys_iret dL_sameForm_25 rfl rfl (by omega) (by omega) (qW_0 h0 hz hf hoa ((updL_0 _ _).trans (if_neg e).symm))
  · refine ys_catch (i := 4) (L2 := [(0, _), (1, _), (2, _), (3, _)]) (nm := eX) (pre := []) (x := ⟨0, 17, 20, 28⟩) (suf := []) (fun _ _ h => h) rfl (fun z hz => by cases hz) (by decide) (by decide) klL_28 (List.mem_of_getElem? (i := 18) rfl) rfl (by decide) (by decide) rfl dL_sameForm_20 (Or.inl ⟨rfl, rfl⟩) ?_
    refine ys_iconst (v := 1) dL_sameForm_22 (by decide) ?_
    exact ys_iret dL_sameForm_23 rfl rfl (by omega) (by omega) (qW_x (j := 1) h1 ⟨by decide, by decide⟩ rfl hz hf ho hoa)
  · exact absurd h1 hne
theorem k_L_addFace {x0 : Int32} {x1 : Int32} {x2 : Int32} {x3 : Int32} (hx : fzo G a S) (ho : G o = oL 1 ou) (hoa : o < a ∨ a + 528 ≤ o) : yK mL_addFace [.ref a, .int x0, .int x1, .int x2, .int x3, .ref o] n G 1 6 (qW n a o G (rAddFace S x0.toInt x1.toInt x2.toInt x3.toInt) (iI (rAddFace S x0.toInt x1.toInt x2.toInt x3.toInt).2.1).toInt64) xNo := by
  obtain ⟨R, hR⟩ : ∃ R, R = (rAddFace S x0.toInt x1.toInt x2.toInt x3.toInt) := ⟨_, rfl⟩
  have hk : xK mA_addFace [.ref a, .int x0, .int x1, .int x2, .int x3] n G 1 6 (aPost n a G R) (aExc n a G R eA eS) := by rw [hR]; exact k_A_addFace hx
  rw [← hR]
  clear hR
  refine yK_of (L0 := [(0, _), (1, _), (2, _), (3, _), (4, _), (5, _)]) (by decide +kernel) (Nat.le_of_ble_eq_true rfl) rfl ?_
  refine ys_aload dL_addFace_0 rfl ?_
  refine ys_iconst (v := 0) dL_addFace_2 (by decide) ?_
  refine ys_aload_n dL_addFace_3 rfl ?_
  refine ys_iload_n dL_addFace_4 rfl ?_
  refine ys_iload_n dL_addFace_5 rfl ?_
  refine ys_iload_n dL_addFace_6 rfl ?_
  refine ys_iload dL_addFace_7 rfl ?_
  refine ys_A (As := [_, _, _, _]) dL_addFace_9 lkL_51 hx hk rfl rfl (Nat.le_of_ble_eq_true rfl) ⟨by decide, by decide⟩ ⟨by omega, by omega⟩ (fun H h0 hz hf => ?_) (fun H h1 hz hf => ?_) (fun H h1 hz hf => ?_)
  · refine ys_i2l dL_addFace_12 ?_
    refine ys_last dL_addFace_13 ((hf o hoa).trans ho) in1_0 ?_
    refine ys_goto dL_addFace_14 ?_
    refine ys_iconst (v := 0) dL_addFace_25 (by decide) ?_
    exact ys_iret dL_addFace_26 rfl rfl (by omega) (by omega) (qW_0 h0 hz hf hoa (updL_0 _ _))
  · refine ys_catch (i := 6) (L2 := [(0, _), (1, _), (2, _), (3, _), (4, _), (5, _)]) (nm := eA) (pre := []) (x := ⟨0, 14, 17, 13⟩) (suf := [⟨0, 14, 21, 15⟩]) (fun _ _ h => h) rfl (fun z hz => by cases hz) (by decide) (by decide) klL_13 (List.mem_of_getElem? (i := 10) rfl) rfl (by decide) (by decide) rfl dL_addFace_17 (Or.inl ⟨rfl, rfl⟩) ?_
    refine ys_iconst (v := 1) dL_addFace_19 (by decide) ?_
    exact ys_iret dL_addFace_20 rfl rfl (by omega) (by omega) (qW_x (j := 1) h1 ⟨by decide, by decide⟩ rfl hz hf ho hoa)
  · refine ys_catch (i := 6) (L2 := [(0, _), (1, _), (2, _), (3, _), (4, _), (5, _)]) (nm := eS) (pre := [⟨0, 14, 17, 13⟩]) (x := ⟨0, 14, 21, 15⟩) (suf := []) (fun _ _ h => h) rfl (fun z hz => by rw [List.mem_singleton.mp hz]; exact Or.inr ⟨by decide, eA, klL_13, List.mem_of_getElem? (i := 0) rfl⟩) (by decide) (by decide) klL_15 (List.mem_of_getElem? (i := 17) rfl) rfl (by decide) (by decide) rfl dL_addFace_21 (Or.inl ⟨rfl, rfl⟩) ?_
    refine ys_iconst (v := 2) dL_addFace_23 (by decide) ?_
    exact ys_iret dL_addFace_24 rfl rfl (by omega) (by omega) (qW_x (j := 2) h1 ⟨by decide, by decide⟩ rfl hz hf ho hoa)
theorem k_L_addForm {x0 : Int32} (hx : fzo G a S) (ho : G o = oL 1 ou) (hoa : o < a ∨ a + 528 ≤ o) : yK mL_addForm [.ref a, .int x0, .ref o] n G 1 6 (qW n a o G (rAddForm S x0.toInt) (iI (rAddForm S x0.toInt).2.1).toInt64) xNo := by
  obtain ⟨R, hR⟩ : ∃ R, R = (rAddForm S x0.toInt) := ⟨_, rfl⟩
  have hk : xK mA_addForm [.ref a, .int x0] n G 1 6 (aPost n a G R) (aExc n a G R eX eS) := by rw [hR]; exact k_A_addForm hx
  rw [← hR]
  clear hR
  refine yK_of (L0 := [(0, _), (1, _), (2, _)]) (by decide +kernel) (Nat.le_of_ble_eq_true rfl) rfl ?_
  refine ys_aload_n dL_addForm_0 rfl ?_
  refine ys_iconst (v := 0) dL_addForm_1 (by decide) ?_
  refine ys_aload_n dL_addForm_2 rfl ?_
  refine ys_iload_n dL_addForm_3 rfl ?_
  refine ys_A (As := [_]) dL_addForm_4 lkL_55 hx hk rfl rfl (Nat.le_of_ble_eq_true rfl) ⟨by decide, by decide⟩ ⟨by omega, by omega⟩ (fun H h0 hz hf => ?_) (fun H h1 hz hf => ?_) (fun H h1 hz hf => ?_)
  · refine ys_i2l dL_addForm_7 ?_
    refine ys_last dL_addForm_8 ((hf o hoa).trans ho) in1_0 ?_
    refine ys_goto dL_addForm_9 ?_
    refine ys_iconst (v := 0) dL_addForm_18 (by decide) ?_
    exact ys_iret dL_addForm_19 rfl rfl (by omega) (by omega) (qW_0 h0 hz hf hoa (updL_0 _ _))
  · refine ys_catch (i := 3) (L2 := [(0, _), (1, _), (2, _)]) (nm := eX) (pre := []) (x := ⟨0, 9, 12, 28⟩) (suf := [⟨0, 9, 15, 15⟩]) (fun _ _ h => h) rfl (fun z hz => by cases hz) (by decide) (by decide) klL_28 (List.mem_of_getElem? (i := 18) rfl) rfl (by decide) (by decide) rfl dL_addForm_12 (Or.inr ⟨3, rfl, rfl, rfl⟩) ?_
    refine ys_iconst (v := 1) dL_addForm_13 (by decide) ?_
    exact ys_iret dL_addForm_14 rfl rfl (by omega) (by omega) (qW_x (j := 1) h1 ⟨by decide, by decide⟩ rfl hz hf ho hoa)
  · refine ys_catch (i := 3) (L2 := [(0, _), (1, _), (2, _)]) (nm := eS) (pre := [⟨0, 9, 12, 28⟩]) (x := ⟨0, 9, 15, 15⟩) (suf := []) (fun _ _ h => h) rfl (fun z hz => by rw [List.mem_singleton.mp hz]; exact Or.inr ⟨by decide, eX, klL_28, List.mem_of_getElem? (i := 2) rfl⟩) (by decide) (by decide) klL_15 (List.mem_of_getElem? (i := 17) rfl) rfl (by decide) (by decide) rfl dL_addForm_15 (Or.inr ⟨3, rfl, rfl, rfl⟩) ?_
    refine ys_iconst (v := 2) dL_addForm_16 (by decide) ?_
    exact ys_iret dL_addForm_17 rfl rfl (by omega) (by omega) (qW_x (j := 2) h1 ⟨by decide, by decide⟩ rfl hz hf ho hoa)
theorem k_L_twin {x0 : Int32} (hx : fzo G a S) (ho : G o = oL 1 ou) (hoa : o < a ∨ a + 528 ≤ o) : yK mL_twin [.ref a, .int x0, .ref o] n G 1 6 (qW n a o G (rTwin S x0.toInt) (iI (rTwin S x0.toInt).2.1).toInt64) xNo := by
  obtain ⟨R, hR⟩ : ∃ R, R = (rTwin S x0.toInt) := ⟨_, rfl⟩
  have hk : xK mA_twin [.ref a, .int x0] n G 1 6 (aPost n a G R) (aExc n a G R eX eS) := by rw [hR]; exact k_A_twin hx
  rw [← hR]
  clear hR
  refine yK_of (L0 := [(0, _), (1, _), (2, _)]) (by decide +kernel) (Nat.le_of_ble_eq_true rfl) rfl ?_
  refine ys_aload_n dL_twin_0 rfl ?_
  refine ys_iconst (v := 0) dL_twin_1 (by decide) ?_
  refine ys_aload_n dL_twin_2 rfl ?_
  refine ys_iload_n dL_twin_3 rfl ?_
  refine ys_A (As := [_]) dL_twin_4 lkL_58 hx hk rfl rfl (Nat.le_of_ble_eq_true rfl) ⟨by decide, by decide⟩ ⟨by omega, by omega⟩ (fun H h0 hz hf => ?_) (fun H h1 hz hf => ?_) (fun H h1 hz hf => ?_)
  · refine ys_i2l dL_twin_7 ?_
    refine ys_last dL_twin_8 ((hf o hoa).trans ho) in1_0 ?_
    refine ys_goto dL_twin_9 ?_
    refine ys_iconst (v := 0) dL_twin_18 (by decide) ?_
    exact ys_iret dL_twin_19 rfl rfl (by omega) (by omega) (qW_0 h0 hz hf hoa (updL_0 _ _))
  · refine ys_catch (i := 3) (L2 := [(0, _), (1, _), (2, _)]) (nm := eX) (pre := []) (x := ⟨0, 9, 12, 28⟩) (suf := [⟨0, 9, 15, 15⟩]) (fun _ _ h => h) rfl (fun z hz => by cases hz) (by decide) (by decide) klL_28 (List.mem_of_getElem? (i := 18) rfl) rfl (by decide) (by decide) rfl dL_twin_12 (Or.inr ⟨3, rfl, rfl, rfl⟩) ?_
    refine ys_iconst (v := 1) dL_twin_13 (by decide) ?_
    exact ys_iret dL_twin_14 rfl rfl (by omega) (by omega) (qW_x (j := 1) h1 ⟨by decide, by decide⟩ rfl hz hf ho hoa)
  · refine ys_catch (i := 3) (L2 := [(0, _), (1, _), (2, _)]) (nm := eS) (pre := [⟨0, 9, 12, 28⟩]) (x := ⟨0, 9, 15, 15⟩) (suf := []) (fun _ _ h => h) rfl (fun z hz => by rw [List.mem_singleton.mp hz]; exact Or.inr ⟨by decide, eX, klL_28, List.mem_of_getElem? (i := 2) rfl⟩) (by decide) (by decide) klL_15 (List.mem_of_getElem? (i := 17) rfl) rfl (by decide) (by decide) rfl dL_twin_15 (Or.inr ⟨3, rfl, rfl, rfl⟩) ?_
    refine ys_iconst (v := 2) dL_twin_16 (by decide) ?_
    exact ys_iret dL_twin_17 rfl rfl (by omega) (by omega) (qW_x (j := 2) h1 ⟨by decide, by decide⟩ rfl hz hf ho hoa)
theorem k_L_remove {x0 : Int32} (hx : fzo G a S) (ho : G o = oL 1 ou) (hoa : o < a ∨ a + 528 ≤ o) : yK mL_remove [.ref a, .int x0, .ref o] n G 1 6 (qW n a o G (rRemove S x0.toInt) (iI (rRemove S x0.toInt).2.1).toInt64) xNo := by
  obtain ⟨R, hR⟩ : ∃ R, R = (rRemove S x0.toInt) := ⟨_, rfl⟩
  have hk : xK mA_remove [.ref a, .int x0] n G 1 6 (aPost n a G R) (aExc n a G R eX eX) := by rw [hR]; exact k_A_remove hx
  have hne : R.1 ≠ 2 := by rw [hR]; exact r2_remove
  rw [← hR]
  clear hR
  refine yK_of (L0 := [(0, _), (1, _), (2, _)]) (by decide +kernel) (Nat.le_of_ble_eq_true rfl) rfl ?_
  refine ys_aload_n dL_remove_0 rfl ?_
  refine ys_iconst (v := 0) dL_remove_1 (by decide) ?_
  refine ys_aload_n dL_remove_2 rfl ?_
  refine ys_iload_n dL_remove_3 rfl ?_
  refine ys_A (As := [_]) dL_remove_4 lkL_61 hx hk rfl rfl (Nat.le_of_ble_eq_true rfl) ⟨by decide, by decide⟩ ⟨by omega, by omega⟩ (fun H h0 hz hf => ?_) (fun H h1 hz hf => ?_) (fun H h1 hz hf => ?_)
  · refine ys_i2l dL_remove_7 ?_
    refine ys_last dL_remove_8 ((hf o hoa).trans ho) in1_0 ?_
    refine ys_goto dL_remove_9 ?_
    refine ys_iconst (v := 0) dL_remove_15 (by decide) ?_
    exact ys_iret dL_remove_16 rfl rfl (by omega) (by omega) (qW_0 h0 hz hf hoa (updL_0 _ _))
  · refine ys_catch (i := 3) (L2 := [(0, _), (1, _), (2, _)]) (nm := eX) (pre := []) (x := ⟨0, 9, 12, 28⟩) (suf := []) (fun _ _ h => h) rfl (fun z hz => by cases hz) (by decide) (by decide) klL_28 (List.mem_of_getElem? (i := 18) rfl) rfl (by decide) (by decide) rfl dL_remove_12 (Or.inr ⟨3, rfl, rfl, rfl⟩) ?_
    refine ys_iconst (v := 1) dL_remove_13 (by decide) ?_
    exact ys_iret dL_remove_14 rfl rfl (by omega) (by omega) (qW_x (j := 1) h1 ⟨by decide, by decide⟩ rfl hz hf ho hoa)
  · exact absurd h1 hne
theorem k_L_setSystem {x0 : Int32} (hx : fzo G a S) (ho : G o = oL 1 ou) (hoa : o < a ∨ a + 528 ≤ o) : yK mL_setSystem [.ref a, .int x0, .ref o] n G 1 6 (qW n a o G (rSystem S x0.toInt) (iI (rSystem S x0.toInt).2.1).toInt64) xNo := by
  obtain ⟨R, hR⟩ : ∃ R, R = (rSystem S x0.toInt) := ⟨_, rfl⟩
  have hk : xK mA_setSystem [.ref a, .int x0] n G 1 6 (aPost n a G R) (aExc n a G R eA eA) := by rw [hR]; exact k_A_setSystem hx
  have hne : R.1 ≠ 2 := by rw [hR]; exact r2_setSystem
  rw [← hR]
  clear hR
  refine yK_of (L0 := [(0, _), (1, _), (2, _)]) (by decide +kernel) (Nat.le_of_ble_eq_true rfl) rfl ?_
  refine ys_aload_n dL_setSystem_0 rfl ?_
  refine ys_iconst (v := 0) dL_setSystem_1 (by decide) ?_
  refine ys_aload_n dL_setSystem_2 rfl ?_
  refine ys_iload_n dL_setSystem_3 rfl ?_
  refine ys_A (As := [_]) dL_setSystem_4 lkL_64 hx hk rfl rfl (Nat.le_of_ble_eq_true rfl) ⟨by decide, by decide⟩ ⟨by omega, by omega⟩ (fun H h0 hz hf => ?_) (fun H h1 hz hf => ?_) (fun H h1 hz hf => ?_)
  · refine ys_i2l dL_setSystem_7 ?_
    refine ys_last dL_setSystem_8 ((hf o hoa).trans ho) in1_0 ?_
    refine ys_goto dL_setSystem_9 ?_
    refine ys_iconst (v := 0) dL_setSystem_15 (by decide) ?_
    exact ys_iret dL_setSystem_16 rfl rfl (by omega) (by omega) (qW_0 h0 hz hf hoa (updL_0 _ _))
  · refine ys_catch (i := 3) (L2 := [(0, _), (1, _), (2, _)]) (nm := eA) (pre := []) (x := ⟨0, 9, 12, 13⟩) (suf := []) (fun _ _ h => h) rfl (fun z hz => by cases hz) (by decide) (by decide) klL_13 (List.mem_of_getElem? (i := 10) rfl) rfl (by decide) (by decide) rfl dL_setSystem_12 (Or.inr ⟨3, rfl, rfl, rfl⟩) ?_
    refine ys_iconst (v := 1) dL_setSystem_13 (by decide) ?_
    exact ys_iret dL_setSystem_14 rfl rfl (by omega) (by omega) (qW_x (j := 1) h1 ⟨by decide, by decide⟩ rfl hz hf ho hoa)
  · exact absurd h1 hne
theorem k_L_setLeast {x0 : Int32} (hx : fzo G a S) (ho : G o = oL 1 ou) (hoa : o < a ∨ a + 528 ≤ o) : yK mL_setLeast [.ref a, .int x0, .ref o] n G 1 6 (qW n a o G (rLeast S x0.toInt) (iI (rLeast S x0.toInt).2.1).toInt64) xNo := by
  obtain ⟨R, hR⟩ : ∃ R, R = (rLeast S x0.toInt) := ⟨_, rfl⟩
  have hk : xK mA_setLeast [.ref a, .int x0] n G 1 6 (aPost n a G R) (aExc n a G R eA eA) := by rw [hR]; exact k_A_setLeast hx
  have hne : R.1 ≠ 2 := by rw [hR]; exact r2_setLeast
  rw [← hR]
  clear hR
  refine yK_of (L0 := [(0, _), (1, _), (2, _)]) (by decide +kernel) (Nat.le_of_ble_eq_true rfl) rfl ?_
  refine ys_aload_n dL_setLeast_0 rfl ?_
  refine ys_iconst (v := 0) dL_setLeast_1 (by decide) ?_
  refine ys_aload_n dL_setLeast_2 rfl ?_
  refine ys_iload_n dL_setLeast_3 rfl ?_
  refine ys_A (As := [_]) dL_setLeast_4 lkL_67 hx hk rfl rfl (Nat.le_of_ble_eq_true rfl) ⟨by decide, by decide⟩ ⟨by omega, by omega⟩ (fun H h0 hz hf => ?_) (fun H h1 hz hf => ?_) (fun H h1 hz hf => ?_)
  · refine ys_i2l dL_setLeast_7 ?_
    refine ys_last dL_setLeast_8 ((hf o hoa).trans ho) in1_0 ?_
    refine ys_goto dL_setLeast_9 ?_
    refine ys_iconst (v := 0) dL_setLeast_15 (by decide) ?_
    exact ys_iret dL_setLeast_16 rfl rfl (by omega) (by omega) (qW_0 h0 hz hf hoa (updL_0 _ _))
  · refine ys_catch (i := 3) (L2 := [(0, _), (1, _), (2, _)]) (nm := eA) (pre := []) (x := ⟨0, 9, 12, 13⟩) (suf := []) (fun _ _ h => h) rfl (fun z hz => by cases hz) (by decide) (by decide) klL_13 (List.mem_of_getElem? (i := 10) rfl) rfl (by decide) (by decide) rfl dL_setLeast_12 (Or.inr ⟨3, rfl, rfl, rfl⟩) ?_
    refine ys_iconst (v := 1) dL_setLeast_13 (by decide) ?_
    exact ys_iret dL_setLeast_14 rfl rfl (by omega) (by omega) (qW_x (j := 1) h1 ⟨by decide, by decide⟩ rfl hz hf ho hoa)
  · exact absurd h1 hne
theorem k_L_setTwin {x0 : Int32} {x1 : Int32} {x2 : Int32} (hx : fzo G a S) (ho : G o = oL 1 ou) (hoa : o < a ∨ a + 528 ≤ o) : yK mL_setTwin [.ref a, .int x0, .int x1, .int x2, .ref o] n G 1 6 (qW n a o G (rSetTwin S x0.toInt x1.toInt x2.toInt) (iI (rSetTwin S x0.toInt x1.toInt x2.toInt).2.1).toInt64) xNo := by
  obtain ⟨R, hR⟩ : ∃ R, R = (rSetTwin S x0.toInt x1.toInt x2.toInt) := ⟨_, rfl⟩
  have hk : xK mA_setTwin [.ref a, .int x0, .int x1, .int x2] n G 1 6 (aPost n a G R) (aExc n a G R eA eA) := by rw [hR]; exact k_A_setTwin hx
  have hne : R.1 ≠ 2 := by rw [hR]; exact r2_setTwin
  rw [← hR]
  clear hR
  refine yK_of (L0 := [(0, _), (1, _), (2, _), (3, _), (4, _)]) (by decide +kernel) (Nat.le_of_ble_eq_true rfl) rfl ?_
  refine ys_aload dL_setTwin_0 rfl ?_
  refine ys_iconst (v := 0) dL_setTwin_2 (by decide) ?_
  refine ys_aload_n dL_setTwin_3 rfl ?_
  refine ys_iload_n dL_setTwin_4 rfl ?_
  refine ys_iload_n dL_setTwin_5 rfl ?_
  refine ys_iload_n dL_setTwin_6 rfl ?_
  refine ys_A (As := [_, _, _]) dL_setTwin_7 lkL_70 hx hk rfl rfl (Nat.le_of_ble_eq_true rfl) ⟨by decide, by decide⟩ ⟨by omega, by omega⟩ (fun H h0 hz hf => ?_) (fun H h1 hz hf => ?_) (fun H h1 hz hf => ?_)
  · refine ys_i2l dL_setTwin_10 ?_
    refine ys_last dL_setTwin_11 ((hf o hoa).trans ho) in1_0 ?_
    refine ys_goto dL_setTwin_12 ?_
    refine ys_iconst (v := 0) dL_setTwin_19 (by decide) ?_
    exact ys_iret dL_setTwin_20 rfl rfl (by omega) (by omega) (qW_0 h0 hz hf hoa (updL_0 _ _))
  · refine ys_catch (i := 5) (L2 := [(0, _), (1, _), (2, _), (3, _), (4, _)]) (nm := eA) (pre := []) (x := ⟨0, 12, 15, 13⟩) (suf := []) (fun _ _ h => h) rfl (fun z hz => by cases hz) (by decide) (by decide) klL_13 (List.mem_of_getElem? (i := 10) rfl) rfl (by decide) (by decide) rfl dL_setTwin_15 (Or.inl ⟨rfl, rfl⟩) ?_
    refine ys_iconst (v := 1) dL_setTwin_17 (by decide) ?_
    exact ys_iret dL_setTwin_18 rfl rfl (by omega) (by omega) (qW_x (j := 1) h1 ⟨by decide, by decide⟩ rfl hz hf ho hoa)
  · exact absurd h1 hne
theorem k_L_undo  (hx : fzo G a S) (ho : G o = oL 1 ou) (hoa : o < a ∨ a + 528 ≤ o) : yK mL_undo [.ref a, .ref o] n G 1 6 (qW n a o G (rUndo S) (iI (rUndo S).2.1).toInt64) xNo := by
  obtain ⟨R, hR⟩ : ∃ R, R = (rUndo S) := ⟨_, rfl⟩
  have hk : xK mA_undo [.ref a] n G 1 6 (aPost n a G R) (aExc n a G R eS eS) := by rw [hR]; exact k_A_undo hx
  have hne : R.1 ≠ 2 := by rw [hR]; exact r2_undo
  rw [← hR]
  clear hR
  refine yK_of (L0 := [(0, _), (1, _)]) (by decide +kernel) (Nat.le_of_ble_eq_true rfl) rfl ?_
  refine ys_aload_n dL_undo_0 rfl ?_
  refine ys_iconst (v := 0) dL_undo_1 (by decide) ?_
  refine ys_aload_n dL_undo_2 rfl ?_
  refine ys_A (As := []) dL_undo_3 lkL_73 hx hk rfl rfl (Nat.le_of_ble_eq_true rfl) ⟨by decide, by decide⟩ ⟨by omega, by omega⟩ (fun H h0 hz hf => ?_) (fun H h1 hz hf => ?_) (fun H h1 hz hf => ?_)
  · refine ys_i2l dL_undo_6 ?_
    refine ys_last dL_undo_7 ((hf o hoa).trans ho) in1_0 ?_
    refine ys_goto dL_undo_8 ?_
    refine ys_iconst (v := 0) dL_undo_14 (by decide) ?_
    exact ys_iret dL_undo_15 rfl rfl (by omega) (by omega) (qW_0 h0 hz hf hoa (updL_0 _ _))
  · refine ys_catch (i := 2) (L2 := [(0, _), (1, _)]) (nm := eS) (pre := []) (x := ⟨0, 8, 11, 15⟩) (suf := []) (fun _ _ h => h) rfl (fun z hz => by cases hz) (by decide) (by decide) klL_15 (List.mem_of_getElem? (i := 17) rfl) rfl (by decide) (by decide) rfl dL_undo_11 (Or.inr ⟨2, rfl, rfl, rfl⟩) ?_
    refine ys_iconst (v := 1) dL_undo_12 (by decide) ?_
    exact ys_iret dL_undo_13 rfl rfl (by omega) (by omega) (qW_x (j := 1) h1 ⟨by decide, by decide⟩ rfl hz hf ho hoa)
  · exact absurd h1 hne
theorem k_L_whyNot {x0 : Int32} {x1 : Int32} {x2 : Int32} {x3 : Int32} (hx : fzo G a S) (ho : G o = oL 1 ou) (hoa : o < a ∨ a + 528 ≤ o) : yK mL_whyNot [.ref a, .int x0, .int x1, .int x2, .int x3, .ref o] n G 1 6 (qW n a o G (rWhy S x0.toInt x1.toInt x2.toInt x3.toInt) (iI (rWhy S x0.toInt x1.toInt x2.toInt x3.toInt).2.1).toInt64) xNo := by
  obtain ⟨R, hR⟩ : ∃ R, R = (rWhy S x0.toInt x1.toInt x2.toInt x3.toInt) := ⟨_, rfl⟩
  have hk : xK mA_whyNot [.ref a, .int x0, .int x1, .int x2, .int x3] n G 1 6 (aPost n a G R) (aExc n a G R eA eA) := by rw [hR]; exact k_A_whyNot hx
  have hne : R.1 ≠ 2 := by rw [hR]; exact r2_whyNot
  rw [← hR]
  clear hR
  refine yK_of (L0 := [(0, _), (1, _), (2, _), (3, _), (4, _), (5, _)]) (by decide +kernel) (Nat.le_of_ble_eq_true rfl) rfl ?_
  refine ys_aload dL_whyNot_0 rfl ?_
  refine ys_iconst (v := 0) dL_whyNot_2 (by decide) ?_
  refine ys_aload_n dL_whyNot_3 rfl ?_
  refine ys_iload_n dL_whyNot_4 rfl ?_
  refine ys_iload_n dL_whyNot_5 rfl ?_
  refine ys_iload_n dL_whyNot_6 rfl ?_
  refine ys_iload dL_whyNot_7 rfl ?_
  refine ys_A (As := [_, _, _, _]) dL_whyNot_9 lkL_76 hx hk rfl rfl (Nat.le_of_ble_eq_true rfl) ⟨by decide, by decide⟩ ⟨by omega, by omega⟩ (fun H h0 hz hf => ?_) (fun H h1 hz hf => ?_) (fun H h1 hz hf => ?_)
  · refine ys_i2l dL_whyNot_12 ?_
    refine ys_last dL_whyNot_13 ((hf o hoa).trans ho) in1_0 ?_
    refine ys_goto dL_whyNot_14 ?_
    refine ys_iconst (v := 0) dL_whyNot_21 (by decide) ?_
    exact ys_iret dL_whyNot_22 rfl rfl (by omega) (by omega) (qW_0 h0 hz hf hoa (updL_0 _ _))
  · refine ys_catch (i := 6) (L2 := [(0, _), (1, _), (2, _), (3, _), (4, _), (5, _)]) (nm := eA) (pre := []) (x := ⟨0, 14, 17, 13⟩) (suf := []) (fun _ _ h => h) rfl (fun z hz => by cases hz) (by decide) (by decide) klL_13 (List.mem_of_getElem? (i := 10) rfl) rfl (by decide) (by decide) rfl dL_whyNot_17 (Or.inl ⟨rfl, rfl⟩) ?_
    refine ys_iconst (v := 1) dL_whyNot_19 (by decide) ?_
    exact ys_iret dL_whyNot_20 rfl rfl (by omega) (by omega) (qW_x (j := 1) h1 ⟨by decide, by decide⟩ rfl hz hf ho hoa)
  · exact absurd h1 hne
theorem k_L_grown {x0 : Int32} (hx : fzo G a S) (ho : G o = oL 1 ou) (hoa : o < a ∨ a + 528 ≤ o) : yK mL_grown [.ref a, .int x0, .ref o] n G 1 6 (qW n a o G (rGrown S x0.toInt) (iI (rGrown S x0.toInt).2.1).toInt64) xNo := by
  obtain ⟨R, hR⟩ : ∃ R, R = (rGrown S x0.toInt) := ⟨_, rfl⟩
  have hk : xK mA_grown [.ref a, .int x0] n G 1 6 (aPost n a G R) (aExc n a G R eA eA) := by rw [hR]; exact k_A_grown hx
  have hne : R.1 ≠ 2 := by rw [hR]; exact r2_grown
  rw [← hR]
  clear hR
  refine yK_of (L0 := [(0, _), (1, _), (2, _)]) (by decide +kernel) (Nat.le_of_ble_eq_true rfl) rfl ?_
  refine ys_aload_n dL_grown_0 rfl ?_
  refine ys_iconst (v := 0) dL_grown_1 (by decide) ?_
  refine ys_aload_n dL_grown_2 rfl ?_
  refine ys_iload_n dL_grown_3 rfl ?_
  refine ys_A (As := [_]) dL_grown_4 lkL_79 hx hk rfl rfl (Nat.le_of_ble_eq_true rfl) ⟨by decide, by decide⟩ ⟨by omega, by omega⟩ (fun H h0 hz hf => ?_) (fun H h1 hz hf => ?_) (fun H h1 hz hf => ?_)
  · refine ys_i2l dL_grown_7 ?_
    refine ys_last dL_grown_8 ((hf o hoa).trans ho) in1_0 ?_
    refine ys_goto dL_grown_9 ?_
    refine ys_iconst (v := 0) dL_grown_15 (by decide) ?_
    exact ys_iret dL_grown_16 rfl rfl (by omega) (by omega) (qW_0 h0 hz hf hoa (updL_0 _ _))
  · refine ys_catch (i := 3) (L2 := [(0, _), (1, _), (2, _)]) (nm := eA) (pre := []) (x := ⟨0, 9, 12, 13⟩) (suf := []) (fun _ _ h => h) rfl (fun z hz => by cases hz) (by decide) (by decide) klL_13 (List.mem_of_getElem? (i := 10) rfl) rfl (by decide) (by decide) rfl dL_grown_12 (Or.inr ⟨3, rfl, rfl, rfl⟩) ?_
    refine ys_iconst (v := 1) dL_grown_13 (by decide) ?_
    exact ys_iret dL_grown_14 rfl rfl (by omega) (by omega) (qW_x (j := 1) h1 ⟨by decide, by decide⟩ rfl hz hf ho hoa)
  · exact absurd h1 hne
theorem k_L_runScript {x0 : Int32} {x1 : Int64} (hx : fzo G a S) (ho : G o = oL 1 ou) (hoa : o < a ∨ a + 528 ≤ o) : yK mL_runScript [.ref a, .int x0, .long x1, .ref o] n G 1 6 (qW n a o G (rScript S x0.toInt x1.toInt) (iI (rScript S x0.toInt x1.toInt).2.1).toInt64) xNo := by
  obtain ⟨R, hR⟩ : ∃ R, R = (rScript S x0.toInt x1.toInt) := ⟨_, rfl⟩
  have hk : xK mA_runScript [.ref a, .int x0, .long x1] n G 1 6 (aPost n a G R) (aExc n a G R eA eA) := by rw [hR]; exact k_A_runScript hx
  have hne : R.1 ≠ 2 := by rw [hR]; exact r2_runScript
  rw [← hR]
  clear hR
  refine yK_of (L0 := [(0, _), (1, _), (2, _), (4, _)]) (by decide +kernel) (Nat.le_of_ble_eq_true rfl) rfl ?_
  refine ys_aload dL_runScript_0 rfl ?_
  refine ys_iconst (v := 0) dL_runScript_2 (by decide) ?_
  refine ys_aload_n dL_runScript_3 rfl ?_
  refine ys_iload_n dL_runScript_4 rfl ?_
  refine ys_lload_n dL_runScript_5 rfl ?_
  refine ys_A (As := [_, _]) dL_runScript_6 lkL_82 hx hk rfl rfl (Nat.le_of_ble_eq_true rfl) ⟨by decide, by decide⟩ ⟨by omega, by omega⟩ (fun H h0 hz hf => ?_) (fun H h1 hz hf => ?_) (fun H h1 hz hf => ?_)
  · refine ys_i2l dL_runScript_9 ?_
    refine ys_last dL_runScript_10 ((hf o hoa).trans ho) in1_0 ?_
    refine ys_goto dL_runScript_11 ?_
    refine ys_iconst (v := 0) dL_runScript_18 (by decide) ?_
    exact ys_iret dL_runScript_19 rfl rfl (by omega) (by omega) (qW_0 h0 hz hf hoa (updL_0 _ _))
  · refine ys_catch (i := 5) (L2 := [(0, _), (1, _), (2, _), (4, _)]) (nm := eA) (pre := []) (x := ⟨0, 11, 14, 13⟩) (suf := []) (fun _ _ h => h) rfl (fun z hz => by cases hz) (by decide) (by decide) klL_13 (List.mem_of_getElem? (i := 10) rfl) rfl (by decide) (by decide) rfl dL_runScript_14 (Or.inl ⟨rfl, rfl⟩) ?_
    refine ys_iconst (v := 1) dL_runScript_16 (by decide) ?_
    exact ys_iret dL_runScript_17 rfl rfl (by omega) (by omega) (qW_x (j := 1) h1 ⟨by decide, by decide⟩ rfl hz hf ho hoa)
  · exact absurd h1 hne
theorem k_L_simulate {x0 : Int64} {x1 : Int32} (hx : fzo G a S) (ho : G o = oL 1 ou) (hoa : o < a ∨ a + 528 ≤ o) : yK mL_simulate [.ref a, .long x0, .int x1, .ref o] n G 1 6 (qW n a o G (rSim S x0 x1.toInt) (iI (rSim S x0 x1.toInt).2.1).toInt64) xNo := by
  obtain ⟨R, hR⟩ : ∃ R, R = (rSim S x0 x1.toInt) := ⟨_, rfl⟩
  have hk : xK mA_simulate [.ref a, .long x0, .int x1] n G 1 6 (aPost n a G R) (aExc n a G R eA eA) := by rw [hR]; exact k_A_simulate hx
  have hne : R.1 ≠ 2 := by rw [hR]; exact r2_simulate
  rw [← hR]
  clear hR
  refine yK_of (L0 := [(0, _), (1, _), (3, _), (4, _)]) (by decide +kernel) (Nat.le_of_ble_eq_true rfl) rfl ?_
  refine ys_aload dL_simulate_0 rfl ?_
  refine ys_iconst (v := 0) dL_simulate_2 (by decide) ?_
  refine ys_aload_n dL_simulate_3 rfl ?_
  refine ys_lload_n dL_simulate_4 rfl ?_
  refine ys_iload_n dL_simulate_5 rfl ?_
  refine ys_A (As := [_, _]) dL_simulate_6 lkL_86 hx hk rfl rfl (Nat.le_of_ble_eq_true rfl) ⟨by decide, by decide⟩ ⟨by omega, by omega⟩ (fun H h0 hz hf => ?_) (fun H h1 hz hf => ?_) (fun H h1 hz hf => ?_)
  · refine ys_i2l dL_simulate_9 ?_
    refine ys_last dL_simulate_10 ((hf o hoa).trans ho) in1_0 ?_
    refine ys_goto dL_simulate_11 ?_
    refine ys_iconst (v := 0) dL_simulate_18 (by decide) ?_
    exact ys_iret dL_simulate_19 rfl rfl (by omega) (by omega) (qW_0 h0 hz hf hoa (updL_0 _ _))
  · refine ys_catch (i := 5) (L2 := [(0, _), (1, _), (3, _), (4, _)]) (nm := eA) (pre := []) (x := ⟨0, 11, 14, 13⟩) (suf := []) (fun _ _ h => h) rfl (fun z hz => by cases hz) (by decide) (by decide) klL_13 (List.mem_of_getElem? (i := 10) rfl) rfl (by decide) (by decide) rfl dL_simulate_14 (Or.inl ⟨rfl, rfl⟩) ?_
    refine ys_iconst (v := 1) dL_simulate_16 (by decide) ?_
    exact ys_iret dL_simulate_17 rfl rfl (by omega) (by omega) (qW_x (j := 1) h1 ⟨by decide, by decide⟩ rfl hz hf ho hoa)
  · exact absurd h1 hne
theorem k_L_save {x0 : Int32} (hx : fzo G a S) (ho : G o = oL 1 ou) (hoa : o < a ∨ a + 528 ≤ o) : yK mL_save [.ref a, .int x0, .ref o] n G 1 6 (qW n a o G (rSave S x0.toInt) (iI (rSave S x0.toInt).2.1).toInt64) xNo := by
  obtain ⟨R, hR⟩ : ∃ R, R = (rSave S x0.toInt) := ⟨_, rfl⟩
  have hk : xK mA_save [.ref a, .int x0] n G 1 6 (aPost n a G R) (aExc n a G R eX eX) := by rw [hR]; exact k_A_save hx
  have hne : R.1 ≠ 2 := by rw [hR]; exact r2_save
  rw [← hR]
  clear hR
  refine yK_of (L0 := [(0, _), (1, _), (2, _)]) (by decide +kernel) (Nat.le_of_ble_eq_true rfl) rfl ?_
  refine ys_aload_n dL_save_0 rfl ?_
  refine ys_iconst (v := 0) dL_save_1 (by decide) ?_
  refine ys_aload_n dL_save_2 rfl ?_
  refine ys_iload_n dL_save_3 rfl ?_
  refine ys_A (As := [_]) dL_save_4 lkL_90 hx hk rfl rfl (Nat.le_of_ble_eq_true rfl) ⟨by decide, by decide⟩ ⟨by omega, by omega⟩ (fun H h0 hz hf => ?_) (fun H h1 hz hf => ?_) (fun H h1 hz hf => ?_)
  · refine ys_i2l dL_save_7 ?_
    refine ys_last dL_save_8 ((hf o hoa).trans ho) in1_0 ?_
    refine ys_goto dL_save_9 ?_
    refine ys_iconst (v := 0) dL_save_15 (by decide) ?_
    exact ys_iret dL_save_16 rfl rfl (by omega) (by omega) (qW_0 h0 hz hf hoa (updL_0 _ _))
  · refine ys_catch (i := 3) (L2 := [(0, _), (1, _), (2, _)]) (nm := eX) (pre := []) (x := ⟨0, 9, 12, 28⟩) (suf := []) (fun _ _ h => h) rfl (fun z hz => by cases hz) (by decide) (by decide) klL_28 (List.mem_of_getElem? (i := 18) rfl) rfl (by decide) (by decide) rfl dL_save_12 (Or.inr ⟨3, rfl, rfl, rfl⟩) ?_
    refine ys_iconst (v := 1) dL_save_13 (by decide) ?_
    exact ys_iret dL_save_14 rfl rfl (by omega) (by omega) (qW_x (j := 1) h1 ⟨by decide, by decide⟩ rfl hz hf ho hoa)
  · exact absurd h1 hne
theorem k_L_restore {x0 : Int32} (hx : fzo G a S) (ho : G o = oL 1 ou) (hoa : o < a ∨ a + 528 ≤ o) : yK mL_restore [.ref a, .int x0, .ref o] n G 1 6 (qW n a o G (rRestore S x0.toInt) (iI (rRestore S x0.toInt).2.1).toInt64) xNo := by
  obtain ⟨R, hR⟩ : ∃ R, R = (rRestore S x0.toInt) := ⟨_, rfl⟩
  have hk : xK mA_restore [.ref a, .int x0] n G 1 6 (aPost n a G R) (aExc n a G R eX eS) := by rw [hR]; exact k_A_restore hx
  rw [← hR]
  clear hR
  refine yK_of (L0 := [(0, _), (1, _), (2, _)]) (by decide +kernel) (Nat.le_of_ble_eq_true rfl) rfl ?_
  refine ys_aload_n dL_restore_0 rfl ?_
  refine ys_iconst (v := 0) dL_restore_1 (by decide) ?_
  refine ys_aload_n dL_restore_2 rfl ?_
  refine ys_iload_n dL_restore_3 rfl ?_
  refine ys_A (As := [_]) dL_restore_4 lkL_93 hx hk rfl rfl (Nat.le_of_ble_eq_true rfl) ⟨by decide, by decide⟩ ⟨by omega, by omega⟩ (fun H h0 hz hf => ?_) (fun H h1 hz hf => ?_) (fun H h1 hz hf => ?_)
  · refine ys_i2l dL_restore_7 ?_
    refine ys_last dL_restore_8 ((hf o hoa).trans ho) in1_0 ?_
    refine ys_goto dL_restore_9 ?_
    refine ys_iconst (v := 0) dL_restore_18 (by decide) ?_
    exact ys_iret dL_restore_19 rfl rfl (by omega) (by omega) (qW_0 h0 hz hf hoa (updL_0 _ _))
  · refine ys_catch (i := 3) (L2 := [(0, _), (1, _), (2, _)]) (nm := eX) (pre := []) (x := ⟨0, 9, 12, 28⟩) (suf := [⟨0, 9, 15, 15⟩]) (fun _ _ h => h) rfl (fun z hz => by cases hz) (by decide) (by decide) klL_28 (List.mem_of_getElem? (i := 18) rfl) rfl (by decide) (by decide) rfl dL_restore_12 (Or.inr ⟨3, rfl, rfl, rfl⟩) ?_
    refine ys_iconst (v := 1) dL_restore_13 (by decide) ?_
    exact ys_iret dL_restore_14 rfl rfl (by omega) (by omega) (qW_x (j := 1) h1 ⟨by decide, by decide⟩ rfl hz hf ho hoa)
  · refine ys_catch (i := 3) (L2 := [(0, _), (1, _), (2, _)]) (nm := eS) (pre := [⟨0, 9, 12, 28⟩]) (x := ⟨0, 9, 15, 15⟩) (suf := []) (fun _ _ h => h) rfl (fun z hz => by rw [List.mem_singleton.mp hz]; exact Or.inr ⟨by decide, eX, klL_28, List.mem_of_getElem? (i := 2) rfl⟩) (by decide) (by decide) klL_15 (List.mem_of_getElem? (i := 17) rfl) rfl (by decide) (by decide) rfl dL_restore_15 (Or.inr ⟨3, rfl, rfl, rfl⟩) ?_
    refine ys_iconst (v := 2) dL_restore_16 (by decide) ?_
    exact ys_iret dL_restore_17 rfl rfl (by omega) (by omega) (qW_x (j := 2) h1 ⟨by decide, by decide⟩ rfl hz hf ho hoa)
end Wr
