theorem xw_int : Cond.arrayClass .int ∈ xTB := xTB_1 _ 125 (by decide +kernel) (by decide +kernel)
theorem xw_long : Cond.arrayClass .long ∈ xTB := xTB_1 _ 1135 (by decide +kernel) (by decide +kernel)
theorem xw_bool : Cond.arrayClass .boolean ∈ xTB := xTB_1 _ 266 (by decide +kernel) (by decide +kernel)
theorem xw_objInst : Cond.instanceMethod Lib.objectInit ∈ xTB := xTB_1 _ 100 (by decide +kernel) (by decide +kernel)
theorem xw_objCode : Cond.code Lib.objectInit ⟨#[0xb1]⟩ 1 none ∈ xTB := xTB_1 _ 101 (by decide +kernel) (by decide +kernel)
theorem xw_maxS : Cond.static Lib.Math.max.name ∈ xTB := xTB_1 _ 531 (by decide +kernel) (by decide +kernel)
theorem xw_maxC : Cond.code Lib.Math.max.name Lib.Math.max.code 2 (some .int) ∈ xTB := xTB_1 _ 532 (by decide +kernel) (by decide +kernel)
theorem xw_minS : Cond.static Lib.Math.min.name ∈ xTB := xTB_1 _ 850 (by decide +kernel) (by decide +kernel)
theorem xw_minC : Cond.code Lib.Math.min.name Lib.Math.min.code 2 (some .int) ∈ xTB := xTB_1 _ 851 (by decide +kernel) (by decide +kernel)
theorem xw_absS : Cond.static Lib.MathLoose.abs_long.x ∈ xTB := xTB_1 _ 688 (by decide +kernel) (by decide +kernel)
theorem xw_absC : Cond.code Lib.MathLoose.abs_long.x Lib.MathLoose.abs_long.code 2 (some .long) ∈ xTB := xTB_1 _ 689 (by decide +kernel) (by decide +kernel)
theorem xw_mathI : Cond.initialized "java/lang/Math" ∈ xTB := xTB_1 _ 92 (by decide +kernel) (by decide +kernel)
theorem xw_copyN : Cond.native arraycopyName ∈ xTB := xTB_1 _ 476 (by decide +kernel) (by decide +kernel)
theorem xw_copyS : Cond.static arraycopyName ∈ xTB := xTB_1 _ 475 (by decide +kernel) (by decide +kernel)
theorem xw_copyI : Cond.initialized "java/lang/System" ∈ xTB := xTB_1 _ 90 (by decide +kernel) (by decide +kernel)
theorem ljA_1 : Cond.methodLink "FaceZones" 1 Lib.objectInit ∈ xTB := xTB_1 _ 99 (by decide +kernel) (by decide +kernel)
theorem ljC_3 : Cond.methodLink "FaceZones$Crystal" 3 Lib.objectInit ∈ xTB := xTB_1 _ 131 (by decide +kernel) (by decide +kernel)
theorem ljC_53 : Cond.methodLink "FaceZones$Crystal" 53 arraycopyName ∈ xTB := xTB_1 _ 474 (by decide +kernel) (by decide +kernel)
theorem ljX_3 : Cond.methodLink "FaceZones$CrystalText" 3 Lib.objectInit ∈ xTB := xTB_1 _ 107 (by decide +kernel) (by decide +kernel)
theorem ljF_3 : Cond.methodLink "FaceZones$Form" 3 Lib.objectInit ∈ xTB := xTB_1 _ 272 (by decide +kernel) (by decide +kernel)
theorem ljG_3 : Cond.methodLink "FaceZones$Growth" 3 Lib.objectInit ∈ xTB := xTB_1 _ 309 (by decide +kernel) (by decide +kernel)
theorem ljH_3 : Cond.methodLink "FaceZones$History" 3 Lib.objectInit ∈ xTB := xTB_1 _ 219 (by decide +kernel) (by decide +kernel)
theorem ljH_29 : Cond.methodLink "FaceZones$History" 29 Lib.Math.min.name ∈ xTB := xTB_1 _ 849 (by decide +kernel) (by decide +kernel)
theorem ljT_1 : Cond.methodLink "FaceZones$Triple" 1 Lib.objectInit ∈ xTB := xTB_1 _ 137 (by decide +kernel) (by decide +kernel)
theorem ljT_37 : Cond.methodLink "FaceZones$Triple" 37 Lib.MathLoose.abs_long.x ∈ xTB := xTB_1 _ 687 (by decide +kernel) (by decide +kernel)
theorem ljZ_3 : Cond.methodLink "FaceZones$ZoneList" 3 Lib.objectInit ∈ xTB := xTB_1 _ 239 (by decide +kernel) (by decide +kernel)
theorem ljZ_96 : Cond.methodLink "FaceZones$ZoneList" 96 Lib.Math.max.name ∈ xTB := xTB_1 _ 530 (by decide +kernel) (by decide +kernel)
theorem ljB_1 : Cond.methodLink "FaceZonesModel" 1 Lib.objectInit ∈ xTB := xTB_1 _ 1061 (by decide +kernel) (by decide +kernel)
theorem xw_overC : Cond.arrayOver (.object "FaceZones$Crystal") ∈ xTB := xTB_1 _ 221 (by decide +kernel) (by decide +kernel)
theorem xw_overT : Cond.arrayOver (.object "FaceZones$Triple") ∈ xTB := xTB_1 _ 241 (by decide +kernel) (by decide +kernel)
abbrev nf0 : List Value := [.null, .null, .null, .null, .int 0, .int 0, .int 0, .int 0, .int 0, .int 0, .null, .null]
theorem xn0_i : Cond.instantiable "FaceZones$Crystal" 12 ∈ xTB := xTB_1 _ 127 (by decide +kernel) (by decide +kernel)
theorem xn0_j : Cond.initialized "FaceZones$Crystal" ∈ xTB := xTB_1 _ 78 (by decide +kernel) (by decide +kernel)
theorem xn0_d : ∀ j, j < 12 → defaultValue (tyX0 j) = vp_V nf0 j := by decide +kernel
abbrev nf1 : List Value := [.null, .int 0, .int 0, .int 0, .null]
theorem xn1_i : Cond.instantiable "FaceZones$CrystalText" 5 ∈ xTB := xTB_1 _ 103 (by decide +kernel) (by decide +kernel)
theorem xn1_j : Cond.initialized "FaceZones$CrystalText" ∈ xTB := xTB_1 _ 77 (by decide +kernel) (by decide +kernel)
theorem xn1_d : ∀ j, j < 5 → defaultValue (tyX1 j) = vp_V nf1 j := by decide +kernel
abbrev nf2 : List Value := [.null, .null, .null, .int 0, .null, .int 0, .null, .null]
theorem xn2_i : Cond.instantiable "FaceZones$Form" 8 ∈ xTB := xTB_1 _ 268 (by decide +kernel) (by decide +kernel)
theorem xn2_j : Cond.initialized "FaceZones$Form" ∈ xTB := xTB_1 _ 82 (by decide +kernel) (by decide +kernel)
theorem xn2_d : ∀ j, j < 8 → defaultValue (tyX2 j) = vp_V nf2 j := by decide +kernel
abbrev nf3 : List Value := [.null, .null, .null, .null, .null]
theorem xn3_i : Cond.instantiable "FaceZones$Growth" 5 ∈ xTB := xTB_1 _ 305 (by decide +kernel) (by decide +kernel)
theorem xn3_j : Cond.initialized "FaceZones$Growth" ∈ xTB := xTB_1 _ 83 (by decide +kernel) (by decide +kernel)
theorem xn3_d : ∀ j, j < 5 → defaultValue (tyX3 j) = vp_V nf3 j := by decide +kernel
abbrev nf4 : List Value := [.null, .int 0, .int 0]
theorem xn4_i : Cond.instantiable "FaceZones$History" 3 ∈ xTB := xTB_1 _ 215 (by decide +kernel) (by decide +kernel)
theorem xn4_j : Cond.initialized "FaceZones$History" ∈ xTB := xTB_1 _ 80 (by decide +kernel) (by decide +kernel)
theorem xn4_d : ∀ j, j < 3 → defaultValue (tyX4 j) = vp_V nf4 j := by decide +kernel
abbrev nf5 : List Value := [.long 0, .long 0, .long 0]
theorem xn5_i : Cond.instantiable "FaceZones$Triple" 3 ∈ xTB := xTB_1 _ 133 (by decide +kernel) (by decide +kernel)
theorem xn5_j : Cond.initialized "FaceZones$Triple" ∈ xTB := xTB_1 _ 79 (by decide +kernel) (by decide +kernel)
theorem xn5_d : ∀ j, j < 3 → defaultValue (tyX5 j) = vp_V nf5 j := by decide +kernel
abbrev nf6 : List Value := [.null, .null, .null, .null, .int 0, .int 0]
theorem xn6_i : Cond.instantiable "FaceZones$ZoneList" 6 ∈ xTB := xTB_1 _ 235 (by decide +kernel) (by decide +kernel)
theorem xn6_j : Cond.initialized "FaceZones$ZoneList" ∈ xTB := xTB_1 _ 81 (by decide +kernel) (by decide +kernel)
theorem xn6_d : ∀ j, j < 6 → defaultValue (tyX6 j) = vp_V nf6 j := by decide +kernel
abbrev nf7 : List Value := [.null, .null, .null, .null, .null, .null, .null, .null, .null, .null, .null, .int 0]
theorem xn7_i : Cond.instantiable "FaceZones" 12 ∈ xTB := xTB_1 _ 95 (by decide +kernel) (by decide +kernel)
theorem xn7_j : Cond.initialized "FaceZones" ∈ xTB := xTB_1 _ 76 (by decide +kernel) (by decide +kernel)
theorem xn7_d : ∀ j, j < 12 → defaultValue (tyX7 j) = vp_V nf7 j := by decide +kernel
abbrev nf8 : List Value := [.int 0, .null, .int 0, .int 0, .int 0, .null, .null, .null, .null, .int 0, .null, .null, .null, .null, .null, .null, .null, .int 0, .null, .null, .null, .null, .int 0]
theorem xn8_i : Cond.instantiable "FaceZonesModel" 23 ∈ xTB := xTB_1 _ 1057 (by decide +kernel) (by decide +kernel)
theorem xn8_j : Cond.initialized "FaceZonesModel" ∈ xTB := xTB_1 _ 84 (by decide +kernel) (by decide +kernel)
theorem xn8_d : ∀ j, j < 23 → defaultValue (tyX8 j) = vp_V nf8 j := by decide +kernel
theorem xtS_1 : ∀ w ∈ (vx_atS "FaceZones" 88 "java/lang/IllegalStateException" ["java/lang/RuntimeException", "java/lang/Exception"]).filter goodWord, w ∈ xTB := fun w hw => by
  have h : (vx_atS "FaceZones" 88 "java/lang/IllegalStateException" ["java/lang/RuntimeException", "java/lang/Exception"]).all (fun w => !goodWord w || decide (w ∈ lw_tbl)) = true := by decide +kernel
  obtain ⟨h1, h2⟩ := List.mem_filter.mp hw
  have h3 := List.all_eq_true.mp h w h1
  rw [h2] at h3
  exact List.mem_filter.mpr ⟨of_decide_eq_true (by simpa using h3), h2⟩
theorem xtS_2 : ∀ w ∈ (vx_atS "FaceZones" 88 "java/lang/IllegalStateException" ["java/lang/RuntimeException", "java/lang/Exception"]).filter (fun w => !goodWord w), w ∈ xNW := fun w hw => by
  have h : (vx_atS "FaceZones" 88 "java/lang/IllegalStateException" ["java/lang/RuntimeException", "java/lang/Exception"]).all (fun w => goodWord w || decide (w ∈ xNW)) = true := by decide +kernel
  obtain ⟨h1, h2⟩ := List.mem_filter.mp hw
  have h3 := List.all_eq_true.mp h w h1
  rw [show goodWord w = false by simpa using h2] at h3
  exact of_decide_eq_true (by simpa using h3)
theorem xtS_3 : ∀ w ∈ Cond.classLink "FaceZones" 84 "java/lang/IllegalStateException" :: Cond.initialized "java/lang/IllegalStateException" :: (vx_atS "FaceZones" 88 "java/lang/IllegalStateException" ["java/lang/RuntimeException", "java/lang/Exception"]), vx_ot w = true := by decide +kernel
theorem xtS_4 : Cond.initialized "java/lang/IllegalStateException" ∈ xTB := xTB_1 _ 89 (by decide +kernel) (by decide +kernel)
theorem xtA_1 : ∀ w ∈ (vx_atS "FaceZones" 144 "java/lang/IllegalArgumentException" ["java/lang/RuntimeException", "java/lang/Exception"]).filter goodWord, w ∈ xTB := fun w hw => by
  have h : (vx_atS "FaceZones" 144 "java/lang/IllegalArgumentException" ["java/lang/RuntimeException", "java/lang/Exception"]).all (fun w => !goodWord w || decide (w ∈ lw_tbl)) = true := by decide +kernel
  obtain ⟨h1, h2⟩ := List.mem_filter.mp hw
  have h3 := List.all_eq_true.mp h w h1
  rw [h2] at h3
  exact List.mem_filter.mpr ⟨of_decide_eq_true (by simpa using h3), h2⟩
theorem xtA_2 : ∀ w ∈ (vx_atS "FaceZones" 144 "java/lang/IllegalArgumentException" ["java/lang/RuntimeException", "java/lang/Exception"]).filter (fun w => !goodWord w), w ∈ xNW := fun w hw => by
  have h : (vx_atS "FaceZones" 144 "java/lang/IllegalArgumentException" ["java/lang/RuntimeException", "java/lang/Exception"]).all (fun w => goodWord w || decide (w ∈ xNW)) = true := by decide +kernel
  obtain ⟨h1, h2⟩ := List.mem_filter.mp hw
  have h3 := List.all_eq_true.mp h w h1
  rw [show goodWord w = false by simpa using h2] at h3
  exact of_decide_eq_true (by simpa using h3)
theorem xtA_3 : ∀ w ∈ Cond.classLink "FaceZones" 140 "java/lang/IllegalArgumentException" :: Cond.initialized "java/lang/IllegalArgumentException" :: (vx_atS "FaceZones" 144 "java/lang/IllegalArgumentException" ["java/lang/RuntimeException", "java/lang/Exception"]), vx_ot w = true := by decide +kernel
theorem xtA_4 : Cond.initialized "java/lang/IllegalArgumentException" ∈ xTB := xTB_1 _ 88 (by decide +kernel) (by decide +kernel)
theorem xtX_1 : ∀ w ∈ (vx_atS "FaceZones" 342 "java/lang/IndexOutOfBoundsException" ["java/lang/RuntimeException", "java/lang/Exception"]).filter goodWord, w ∈ xTB := fun w hw => by
  have h : (vx_atS "FaceZones" 342 "java/lang/IndexOutOfBoundsException" ["java/lang/RuntimeException", "java/lang/Exception"]).all (fun w => !goodWord w || decide (w ∈ lw_tbl)) = true := by decide +kernel
  obtain ⟨h1, h2⟩ := List.mem_filter.mp hw
  have h3 := List.all_eq_true.mp h w h1
  rw [h2] at h3
  exact List.mem_filter.mpr ⟨of_decide_eq_true (by simpa using h3), h2⟩
theorem xtX_2 : ∀ w ∈ (vx_atS "FaceZones" 342 "java/lang/IndexOutOfBoundsException" ["java/lang/RuntimeException", "java/lang/Exception"]).filter (fun w => !goodWord w), w ∈ xNW := fun w hw => by
  have h : (vx_atS "FaceZones" 342 "java/lang/IndexOutOfBoundsException" ["java/lang/RuntimeException", "java/lang/Exception"]).all (fun w => goodWord w || decide (w ∈ xNW)) = true := by decide +kernel
  obtain ⟨h1, h2⟩ := List.mem_filter.mp hw
  have h3 := List.all_eq_true.mp h w h1
  rw [show goodWord w = false by simpa using h2] at h3
  exact of_decide_eq_true (by simpa using h3)
theorem xtX_3 : ∀ w ∈ Cond.classLink "FaceZones" 338 "java/lang/IndexOutOfBoundsException" :: Cond.initialized "java/lang/IndexOutOfBoundsException" :: (vx_atS "FaceZones" 342 "java/lang/IndexOutOfBoundsException" ["java/lang/RuntimeException", "java/lang/Exception"]), vx_ot w = true := by decide +kernel
theorem xtX_4 : Cond.initialized "java/lang/IndexOutOfBoundsException" ∈ xTB := xTB_1 _ 93 (by decide +kernel) (by decide +kernel)
