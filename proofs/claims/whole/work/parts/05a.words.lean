theorem xw_int : Cond.arrayClass .int ∈ xTB := (xTB_s1 _ 50 (by decide +kernel) rfl)
theorem xw_long : Cond.arrayClass .long ∈ xTB := (xTB_s5 _ 100 (by decide +kernel) rfl)
theorem xw_bool : Cond.arrayClass .boolean ∈ xTB := (xTB_s1 _ 191 (by decide +kernel) rfl)
theorem xw_objInst : Cond.instanceMethod Lib.objectInit ∈ xTB := (xTB_s1 _ 25 (by decide +kernel) rfl)
theorem xw_objCode : Cond.code Lib.objectInit ⟨#[0xb1]⟩ 1 none ∈ xTB := (xTB_s1 _ 26 (by decide +kernel) rfl)
theorem xw_maxS : Cond.static Lib.Math.max.name ∈ xTB := (xTB_s2 _ 216 (by decide +kernel) rfl)
theorem xw_maxC : Cond.code Lib.Math.max.name Lib.Math.max.code 2 (some .int) ∈ xTB := (xTB_s2 _ 217 (by decide +kernel) rfl)
theorem xw_minS : Cond.static Lib.Math.min.name ∈ xTB := (xTB_s4 _ 55 (by decide +kernel) rfl)
theorem xw_minC : Cond.code Lib.Math.min.name Lib.Math.min.code 2 (some .int) ∈ xTB := (xTB_s4 _ 56 (by decide +kernel) rfl)
theorem xw_absS : Cond.static Lib.MathLoose.abs_long.x ∈ xTB := (xTB_s3 _ 133 (by decide +kernel) rfl)
theorem xw_absC : Cond.code Lib.MathLoose.abs_long.x Lib.MathLoose.abs_long.code 2 (some .long) ∈ xTB := (xTB_s3 _ 134 (by decide +kernel) rfl)
theorem xw_mathI : Cond.initialized "java/lang/Math" ∈ xTB := (xTB_s1 _ 17 (by decide +kernel) rfl)
theorem xw_copyN : Cond.native arraycopyName ∈ xTB := (xTB_s2 _ 161 (by decide +kernel) rfl)
theorem xw_copyS : Cond.static arraycopyName ∈ xTB := (xTB_s2 _ 160 (by decide +kernel) rfl)
theorem xw_copyI : Cond.initialized "java/lang/System" ∈ xTB := (xTB_s1 _ 15 (by decide +kernel) rfl)
theorem ljA_1 : Cond.methodLink "FaceZones" 1 Lib.objectInit ∈ xTB := (xTB_s1 _ 24 (by decide +kernel) rfl)
theorem ljC_3 : Cond.methodLink "FaceZones$Crystal" 3 Lib.objectInit ∈ xTB := (xTB_s1 _ 56 (by decide +kernel) rfl)
theorem ljC_53 : Cond.methodLink "FaceZones$Crystal" 53 arraycopyName ∈ xTB := (xTB_s2 _ 159 (by decide +kernel) rfl)
theorem ljX_3 : Cond.methodLink "FaceZones$CrystalText" 3 Lib.objectInit ∈ xTB := (xTB_s1 _ 32 (by decide +kernel) rfl)
theorem ljF_3 : Cond.methodLink "FaceZones$Form" 3 Lib.objectInit ∈ xTB := (xTB_s1 _ 197 (by decide +kernel) rfl)
theorem ljG_3 : Cond.methodLink "FaceZones$Growth" 3 Lib.objectInit ∈ xTB := (xTB_s1 _ 234 (by decide +kernel) rfl)
theorem ljH_3 : Cond.methodLink "FaceZones$History" 3 Lib.objectInit ∈ xTB := (xTB_s1 _ 144 (by decide +kernel) rfl)
theorem ljH_29 : Cond.methodLink "FaceZones$History" 29 Lib.Math.min.name ∈ xTB := (xTB_s4 _ 54 (by decide +kernel) rfl)
theorem ljT_1 : Cond.methodLink "FaceZones$Triple" 1 Lib.objectInit ∈ xTB := (xTB_s1 _ 62 (by decide +kernel) rfl)
theorem ljT_37 : Cond.methodLink "FaceZones$Triple" 37 Lib.MathLoose.abs_long.x ∈ xTB := (xTB_s3 _ 132 (by decide +kernel) rfl)
theorem ljZ_3 : Cond.methodLink "FaceZones$ZoneList" 3 Lib.objectInit ∈ xTB := (xTB_s1 _ 164 (by decide +kernel) rfl)
theorem ljZ_96 : Cond.methodLink "FaceZones$ZoneList" 96 Lib.Math.max.name ∈ xTB := (xTB_s2 _ 215 (by decide +kernel) rfl)
theorem ljB_1 : Cond.methodLink "FaceZonesModel" 1 Lib.objectInit ∈ xTB := (xTB_s5 _ 26 (by decide +kernel) rfl)
abbrev nf0 : List Value := [.null, .null, .null, .null, .int 0, .int 0, .int 0, .int 0, .int 0, .int 0, .null, .null]
theorem xn0_i : Cond.instantiable "FaceZones$Crystal" 12 ∈ xTB := (xTB_s1 _ 52 (by decide +kernel) rfl)
theorem xn0_j : Cond.initialized "FaceZones$Crystal" ∈ xTB := (xTB_s1 _ 3 (by decide +kernel) rfl)
theorem xn0_d : ∀ j, j < 12 → defaultValue (tyX0 j) = vp_V nf0 j := by decide +kernel
abbrev nf1 : List Value := [.null, .int 0, .int 0, .int 0, .null]
theorem xn1_i : Cond.instantiable "FaceZones$CrystalText" 5 ∈ xTB := (xTB_s1 _ 28 (by decide +kernel) rfl)
theorem xn1_j : Cond.initialized "FaceZones$CrystalText" ∈ xTB := (xTB_s1 _ 2 (by decide +kernel) rfl)
theorem xn1_d : ∀ j, j < 5 → defaultValue (tyX1 j) = vp_V nf1 j := by decide +kernel
abbrev nf2 : List Value := [.null, .null, .null, .int 0, .null, .int 0, .null, .null]
theorem xn2_i : Cond.instantiable "FaceZones$Form" 8 ∈ xTB := (xTB_s1 _ 193 (by decide +kernel) rfl)
theorem xn2_j : Cond.initialized "FaceZones$Form" ∈ xTB := (xTB_s1 _ 7 (by decide +kernel) rfl)
theorem xn2_d : ∀ j, j < 8 → defaultValue (tyX2 j) = vp_V nf2 j := by decide +kernel
abbrev nf3 : List Value := [.null, .null, .null, .null, .null]
theorem xn3_i : Cond.instantiable "FaceZones$Growth" 5 ∈ xTB := (xTB_s1 _ 230 (by decide +kernel) rfl)
theorem xn3_j : Cond.initialized "FaceZones$Growth" ∈ xTB := (xTB_s1 _ 8 (by decide +kernel) rfl)
theorem xn3_d : ∀ j, j < 5 → defaultValue (tyX3 j) = vp_V nf3 j := by decide +kernel
abbrev nf4 : List Value := [.null, .int 0, .int 0]
theorem xn4_i : Cond.instantiable "FaceZones$History" 3 ∈ xTB := (xTB_s1 _ 140 (by decide +kernel) rfl)
theorem xn4_j : Cond.initialized "FaceZones$History" ∈ xTB := (xTB_s1 _ 5 (by decide +kernel) rfl)
theorem xn4_d : ∀ j, j < 3 → defaultValue (tyX4 j) = vp_V nf4 j := by decide +kernel
abbrev nf5 : List Value := [.long 0, .long 0, .long 0]
theorem xn5_i : Cond.instantiable "FaceZones$Triple" 3 ∈ xTB := (xTB_s1 _ 58 (by decide +kernel) rfl)
theorem xn5_j : Cond.initialized "FaceZones$Triple" ∈ xTB := (xTB_s1 _ 4 (by decide +kernel) rfl)
theorem xn5_d : ∀ j, j < 3 → defaultValue (tyX5 j) = vp_V nf5 j := by decide +kernel
abbrev nf6 : List Value := [.null, .null, .null, .null, .int 0, .int 0]
theorem xn6_i : Cond.instantiable "FaceZones$ZoneList" 6 ∈ xTB := (xTB_s1 _ 160 (by decide +kernel) rfl)
theorem xn6_j : Cond.initialized "FaceZones$ZoneList" ∈ xTB := (xTB_s1 _ 6 (by decide +kernel) rfl)
theorem xn6_d : ∀ j, j < 6 → defaultValue (tyX6 j) = vp_V nf6 j := by decide +kernel
abbrev nf7 : List Value := [.null, .null, .null, .null, .null, .null, .null, .null, .null, .null, .null, .int 0]
theorem xn7_i : Cond.instantiable "FaceZones" 12 ∈ xTB := (xTB_s1 _ 20 (by decide +kernel) rfl)
theorem xn7_j : Cond.initialized "FaceZones" ∈ xTB := (xTB_s1 _ 1 (by decide +kernel) rfl)
theorem xn7_d : ∀ j, j < 12 → defaultValue (tyX7 j) = vp_V nf7 j := by decide +kernel
abbrev nf8 : List Value := [.int 0, .null, .int 0, .int 0, .int 0, .null, .null, .null, .null, .int 0, .null, .null, .null, .null, .null, .null, .null, .int 0, .null, .null, .null, .null, .int 0]
theorem xn8_i : Cond.instantiable "FaceZonesModel" 23 ∈ xTB := (xTB_s5 _ 22 (by decide +kernel) rfl)
theorem xn8_j : Cond.initialized "FaceZonesModel" ∈ xTB := (xTB_s1 _ 9 (by decide +kernel) rfl)
theorem xn8_d : ∀ j, j < 23 → defaultValue (tyX8 j) = vp_V nf8 j := by decide +kernel
theorem xtS_1 : ∀ w ∈ (vx_atS "FaceZones" 88 "java/lang/IllegalStateException" ["java/lang/RuntimeException", "java/lang/Exception"]).filter goodWord, w ∈ xTB := fun w hw => by
  have h : (vx_atS "FaceZones" 88 "java/lang/IllegalStateException" ["java/lang/RuntimeException", "java/lang/Exception"]).all (fun w => !goodWord w || decide (w ∈ lw_tbl)) = true := by decide +kernel
  obtain ⟨h1, h2⟩ := List.mem_filter.mp hw
  have h3 := List.all_eq_true.mp h w h1
  rw [h2] at h3
  exact List.mem_filter.mpr ⟨of_decide_eq_true (by simpa using h3), h2⟩
theorem xtS_2 : ∀ w ∈ (vx_atS "FaceZones" 88 "java/lang/IllegalStateException" ["java/lang/RuntimeException", "java/lang/Exception"]).filter (fun w => !goodWord w), w ∈ xNW := fun w hw => by
  have h : (vx_atS "FaceZones" 88 "java/lang/IllegalStateException" ["java/lang/RuntimeException", "java/lang/Exception"]).all (fun w => goodWord w || decide (w ∈ xNW)) = true := by decide +kernel
  obtain ⟨h1, h2⟩ := List.mem_filter.mp hw
  have h3 := List.all_eq_true.mp h w h1
  rw [show goodWord w = false by simpa using h2] at h3
  exact of_decide_eq_true (by simpa using h3)
theorem xtS_3 : ∀ w ∈ Cond.classLink "FaceZones" 84 "java/lang/IllegalStateException" :: Cond.initialized "java/lang/IllegalStateException" :: (vx_atS "FaceZones" 88 "java/lang/IllegalStateException" ["java/lang/RuntimeException", "java/lang/Exception"]), vx_ot w = true := by decide +kernel
theorem xtS_4 : Cond.initialized "java/lang/IllegalStateException" ∈ xTB := (xTB_s1 _ 14 (by decide +kernel) rfl)
theorem xtA_1 : ∀ w ∈ (vx_atS "FaceZones" 144 "java/lang/IllegalArgumentException" ["java/lang/RuntimeException", "java/lang/Exception"]).filter goodWord, w ∈ xTB := fun w hw => by
  have h : (vx_atS "FaceZones" 144 "java/lang/IllegalArgumentException" ["java/lang/RuntimeException", "java/lang/Exception"]).all (fun w => !goodWord w || decide (w ∈ lw_tbl)) = true := by decide +kernel
  obtain ⟨h1, h2⟩ := List.mem_filter.mp hw
  have h3 := List.all_eq_true.mp h w h1
  rw [h2] at h3
  exact List.mem_filter.mpr ⟨of_decide_eq_true (by simpa using h3), h2⟩
theorem xtA_2 : ∀ w ∈ (vx_atS "FaceZones" 144 "java/lang/IllegalArgumentException" ["java/lang/RuntimeException", "java/lang/Exception"]).filter (fun w => !goodWord w), w ∈ xNW := fun w hw => by
  have h : (vx_atS "FaceZones" 144 "java/lang/IllegalArgumentException" ["java/lang/RuntimeException", "java/lang/Exception"]).all (fun w => goodWord w || decide (w ∈ xNW)) = true := by decide +kernel
  obtain ⟨h1, h2⟩ := List.mem_filter.mp hw
  have h3 := List.all_eq_true.mp h w h1
  rw [show goodWord w = false by simpa using h2] at h3
  exact of_decide_eq_true (by simpa using h3)
theorem xtA_3 : ∀ w ∈ Cond.classLink "FaceZones" 140 "java/lang/IllegalArgumentException" :: Cond.initialized "java/lang/IllegalArgumentException" :: (vx_atS "FaceZones" 144 "java/lang/IllegalArgumentException" ["java/lang/RuntimeException", "java/lang/Exception"]), vx_ot w = true := by decide +kernel
theorem xtA_4 : Cond.initialized "java/lang/IllegalArgumentException" ∈ xTB := (xTB_s1 _ 13 (by decide +kernel) rfl)
theorem xtX_1 : ∀ w ∈ (vx_atS "FaceZones" 342 "java/lang/IndexOutOfBoundsException" ["java/lang/RuntimeException", "java/lang/Exception"]).filter goodWord, w ∈ xTB := fun w hw => by
  have h : (vx_atS "FaceZones" 342 "java/lang/IndexOutOfBoundsException" ["java/lang/RuntimeException", "java/lang/Exception"]).all (fun w => !goodWord w || decide (w ∈ lw_tbl)) = true := by decide +kernel
  obtain ⟨h1, h2⟩ := List.mem_filter.mp hw
  have h3 := List.all_eq_true.mp h w h1
  rw [h2] at h3
  exact List.mem_filter.mpr ⟨of_decide_eq_true (by simpa using h3), h2⟩
theorem xtX_2 : ∀ w ∈ (vx_atS "FaceZones" 342 "java/lang/IndexOutOfBoundsException" ["java/lang/RuntimeException", "java/lang/Exception"]).filter (fun w => !goodWord w), w ∈ xNW := fun w hw => by
  have h : (vx_atS "FaceZones" 342 "java/lang/IndexOutOfBoundsException" ["java/lang/RuntimeException", "java/lang/Exception"]).all (fun w => goodWord w || decide (w ∈ xNW)) = true := by decide +kernel
  obtain ⟨h1, h2⟩ := List.mem_filter.mp hw
  have h3 := List.all_eq_true.mp h w h1
  rw [show goodWord w = false by simpa using h2] at h3
  exact of_decide_eq_true (by simpa using h3)
theorem xtX_3 : ∀ w ∈ Cond.classLink "FaceZones" 338 "java/lang/IndexOutOfBoundsException" :: Cond.initialized "java/lang/IndexOutOfBoundsException" :: (vx_atS "FaceZones" 342 "java/lang/IndexOutOfBoundsException" ["java/lang/RuntimeException", "java/lang/Exception"]), vx_ot w = true := by decide +kernel
theorem xtX_4 : Cond.initialized "java/lang/IndexOutOfBoundsException" ∈ xTB := (xTB_s1 _ 18 (by decide +kernel) rfl)
