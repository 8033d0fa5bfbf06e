def RX0 : String := "FaceZones$Crystal"
def TX0 : u_T := fun k => match k with
  | 0 => ("FaceZones$Crystal", "h", "[I", true)
  | 1 => ("FaceZones$Crystal", "k", "[I", true)
  | 2 => ("FaceZones$Crystal", "l", "[I", true)
  | 3 => ("FaceZones$Crystal", "half", "[I", true)
  | 4 => ("FaceZones$Crystal", "count", "I", false)
  | 5 => ("FaceZones$Crystal", "system", "I", false)
  | 6 => ("FaceZones$Crystal", "least", "I", false)
  | 7 => ("FaceZones$Crystal", "p", "I", false)
  | 8 => ("FaceZones$Crystal", "q", "I", false)
  | 9 => ("FaceZones$Crystal", "r", "I", false)
  | 10 => ("FaceZones$Crystal", "told", "LFaceZones$Triple;", true)
  | _ => ("FaceZones$Crystal", "compared", "LFaceZones$Triple;", true)
def tyX0 : Nat → FieldType := fun k => match k with
  | 0 => .array .int
  | 1 => .array .int
  | 2 => .array .int
  | 3 => .array .int
  | 4 => .int
  | 5 => .int
  | 6 => .int
  | 7 => .int
  | 8 => .int
  | 9 => .int
  | 10 => .object "FaceZones$Triple"
  | _ => .object "FaceZones$Triple"
abbrev wsX00 : List Cond := u_ws RX0 TX0 12
theorem nmX0 : ∀ a, a < 12 → ∀ b, b < 12 → a ≠ b → (TX0 a).2.1 ≠ (TX0 b).2.1 := by decide +kernel
theorem tyX0_ok : ∀ k, k < 12 → parseFieldDescriptor (TX0 k).2.2.1 = some (tyX0 k) := by decide +kernel
def RX1 : String := "FaceZones$CrystalText"
def TX1 : u_T := fun k => match k with
  | 0 => ("FaceZones$CrystalText", "code", "[I", true)
  | 1 => ("FaceZones$CrystalText", "length", "I", false)
  | 2 => ("FaceZones$CrystalText", "at", "I", false)
  | 3 => ("FaceZones$CrystalText", "told", "I", false)
  | _ => ("FaceZones$CrystalText", "index", "[I", true)
def tyX1 : Nat → FieldType := fun k => match k with
  | 0 => .array .int
  | 1 => .int
  | 2 => .int
  | 3 => .int
  | _ => .array .int
abbrev wsX10 : List Cond := u_ws RX1 TX1 5
theorem nmX1 : ∀ a, a < 5 → ∀ b, b < 5 → a ≠ b → (TX1 a).2.1 ≠ (TX1 b).2.1 := by decide +kernel
theorem tyX1_ok : ∀ k, k < 5 → parseFieldDescriptor (TX1 k).2.2.1 = some (tyX1 k) := by decide +kernel
def RX2 : String := "FaceZones$Form"
def TX2 : u_T := fun k => match k with
  | 0 => ("FaceZones$Form", "h", "[I", true)
  | 1 => ("FaceZones$Form", "k", "[I", true)
  | 2 => ("FaceZones$Form", "l", "[I", true)
  | 3 => ("FaceZones$Form", "count", "I", false)
  | 4 => ("FaceZones$Form", "number", "[I", true)
  | 5 => ("FaceZones$Form", "numbers", "I", false)
  | 6 => ("FaceZones$Form", "begin", "LFaceZones$Triple;", true)
  | _ => ("FaceZones$Form", "candidate", "LFaceZones$Triple;", true)
def tyX2 : Nat → FieldType := fun k => match k with
  | 0 => .array .int
  | 1 => .array .int
  | 2 => .array .int
  | 3 => .int
  | 4 => .array .int
  | 5 => .int
  | 6 => .object "FaceZones$Triple"
  | _ => .object "FaceZones$Triple"
abbrev wsX20 : List Cond := u_ws RX2 TX2 8
theorem nmX2 : ∀ a, a < 8 → ∀ b, b < 8 → a ≠ b → (TX2 a).2.1 ≠ (TX2 b).2.1 := by decide +kernel
theorem tyX2_ok : ∀ k, k < 8 → parseFieldDescriptor (TX2 k).2.2.1 = some (tyX2 k) := by decide +kernel
def RX3 : String := "FaceZones$Growth"
def TX3 : u_T := fun k => match k with
  | 0 => ("FaceZones$Growth", "small", "[LFaceZones$Triple;", true)
  | 1 => ("FaceZones$Growth", "isInside", "[Z", true)
  | 2 => ("FaceZones$Growth", "firstZone", "[LFaceZones$Triple;", true)
  | 3 => ("FaceZones$Growth", "zones", "[I", true)
  | _ => ("FaceZones$Growth", "line", "LFaceZones$Triple;", true)
def tyX3 : Nat → FieldType := fun k => match k with
  | 0 => .array (.object "FaceZones$Triple")
  | 1 => .array .boolean
  | 2 => .array (.object "FaceZones$Triple")
  | 3 => .array .int
  | _ => .object "FaceZones$Triple"
abbrev wsX30 : List Cond := u_ws RX3 TX3 5
theorem nmX3 : ∀ a, a < 5 → ∀ b, b < 5 → a ≠ b → (TX3 a).2.1 ≠ (TX3 b).2.1 := by decide +kernel
theorem tyX3_ok : ∀ k, k < 5 → parseFieldDescriptor (TX3 k).2.2.1 = some (tyX3 k) := by decide +kernel
def RX4 : String := "FaceZones$History"
def TX4 : u_T := fun k => match k with
  | 0 => ("FaceZones$History", "states", "[LFaceZones$Crystal;", true)
  | 1 => ("FaceZones$History", "next", "I", false)
  | _ => ("FaceZones$History", "count", "I", false)
def tyX4 : Nat → FieldType := fun k => match k with
  | 0 => .array (.object "FaceZones$Crystal")
  | 1 => .int
  | _ => .int
abbrev wsX40 : List Cond := u_ws RX4 TX4 3
theorem nmX4 : ∀ a, a < 3 → ∀ b, b < 3 → a ≠ b → (TX4 a).2.1 ≠ (TX4 b).2.1 := by decide +kernel
theorem tyX4_ok : ∀ k, k < 3 → parseFieldDescriptor (TX4 k).2.2.1 = some (tyX4 k) := by decide +kernel
def RX5 : String := "FaceZones$Triple"
def TX5 : u_T := fun k => match k with
  | 0 => ("FaceZones$Triple", "a", "J", false)
  | 1 => ("FaceZones$Triple", "b", "J", false)
  | _ => ("FaceZones$Triple", "c", "J", false)
def tyX5 : Nat → FieldType := fun k => match k with
  | 0 => .long
  | 1 => .long
  | _ => .long
abbrev wsX50 : List Cond := u_ws RX5 TX5 3
theorem nmX5 : ∀ a, a < 3 → ∀ b, b < 3 → a ≠ b → (TX5 a).2.1 ≠ (TX5 b).2.1 := by decide +kernel
theorem tyX5_ok : ∀ k, k < 3 → parseFieldDescriptor (TX5 k).2.2.1 = some (tyX5 k) := by decide +kernel
def RX6 : String := "FaceZones$ZoneList"
def TX6 : u_T := fun k => match k with
  | 0 => ("FaceZones$ZoneList", "direction", "[LFaceZones$Triple;", true)
  | 1 => ("FaceZones$ZoneList", "axis", "[LFaceZones$Triple;", true)
  | 2 => ("FaceZones$ZoneList", "members", "[I", true)
  | 3 => ("FaceZones$ZoneList", "covered", "[I", true)
  | 4 => ("FaceZones$ZoneList", "faces", "I", false)
  | _ => ("FaceZones$ZoneList", "count", "I", false)
def tyX6 : Nat → FieldType := fun k => match k with
  | 0 => .array (.object "FaceZones$Triple")
  | 1 => .array (.object "FaceZones$Triple")
  | 2 => .array .int
  | 3 => .array .int
  | 4 => .int
  | _ => .int
abbrev wsX60 : List Cond := u_ws RX6 TX6 6
theorem nmX6 : ∀ a, a < 6 → ∀ b, b < 6 → a ≠ b → (TX6 a).2.1 ≠ (TX6 b).2.1 := by decide +kernel
theorem tyX6_ok : ∀ k, k < 6 → parseFieldDescriptor (TX6 k).2.2.1 = some (tyX6 k) := by decide +kernel
def RX7 : String := "FaceZones"
def TX7 : u_T := fun k => match k with
  | 0 => ("FaceZones", "text", "LFaceZones$CrystalText;", true)
  | 1 => ("FaceZones", "present", "LFaceZones$Crystal;", true)
  | 2 => ("FaceZones", "trial", "LFaceZones$Crystal;", true)
  | 3 => ("FaceZones", "history", "LFaceZones$History;", true)
  | 4 => ("FaceZones", "saved", "[LFaceZones$Crystal;", true)
  | 5 => ("FaceZones", "isSaved", "[Z", true)
  | 6 => ("FaceZones", "presentZones", "LFaceZones$ZoneList;", true)
  | 7 => ("FaceZones", "trialZones", "LFaceZones$ZoneList;", true)
  | 8 => ("FaceZones", "form", "LFaceZones$Form;", true)
  | 9 => ("FaceZones", "growth", "LFaceZones$Growth;", true)
  | 10 => ("FaceZones", "scratch", "LFaceZones$Triple;", true)
  | _ => ("FaceZones", "isListed", "Z", false)
def tyX7 : Nat → FieldType := fun k => match k with
  | 0 => .object "FaceZones$CrystalText"
  | 1 => .object "FaceZones$Crystal"
  | 2 => .object "FaceZones$Crystal"
  | 3 => .object "FaceZones$History"
  | 4 => .array (.object "FaceZones$Crystal")
  | 5 => .array .boolean
  | 6 => .object "FaceZones$ZoneList"
  | 7 => .object "FaceZones$ZoneList"
  | 8 => .object "FaceZones$Form"
  | 9 => .object "FaceZones$Growth"
  | 10 => .object "FaceZones$Triple"
  | _ => .boolean
abbrev wsX70 : List Cond := u_ws RX7 TX7 12
theorem nmX7 : ∀ a, a < 12 → ∀ b, b < 12 → a ≠ b → (TX7 a).2.1 ≠ (TX7 b).2.1 := by decide +kernel
theorem tyX7_ok : ∀ k, k < 12 → parseFieldDescriptor (TX7 k).2.2.1 = some (tyX7 k) := by decide +kernel
def RX8 : String := "FaceZonesModel"
def TX8 : u_T := fun k => match k with
  | 0 => ("FaceZonesModel", "refusal", "I", false)
  | 1 => ("FaceZonesModel", "script", "[I", true)
  | 2 => ("FaceZonesModel", "scriptSize", "I", false)
  | 3 => ("FaceZonesModel", "spot", "I", false)
  | 4 => ("FaceZonesModel", "isGood", "Z", false)
  | 5 => ("FaceZonesModel", "read", "[I", true)
  | 6 => ("FaceZonesModel", "now", "[I", true)
  | 7 => ("FaceZonesModel", "trial", "[I", true)
  | 8 => ("FaceZonesModel", "diary", "[I", true)
  | 9 => ("FaceZonesModel", "acts", "I", false)
  | 10 => ("FaceZonesModel", "kept", "[I", true)
  | 11 => ("FaceZonesModel", "isKept", "[Z", true)
  | 12 => ("FaceZonesModel", "three", "[J", true)
  | 13 => ("FaceZonesModel", "ways", "[J", true)
  | 14 => ("FaceZonesModel", "axes", "[J", true)
  | 15 => ("FaceZonesModel", "many", "[I", true)
  | 16 => ("FaceZonesModel", "which", "[I", true)
  | 17 => ("FaceZonesModel", "zones", "I", false)
  | 18 => ("FaceZonesModel", "isIn", "[Z", true)
  | 19 => ("FaceZonesModel", "list", "[I", true)
  | 20 => ("FaceZonesModel", "isZone", "[Z", true)
  | 21 => ("FaceZonesModel", "zoneList", "[I", true)
  | _ => ("FaceZonesModel", "facesTold", "I", false)
def tyX8 : Nat → FieldType := fun k => match k with
  | 0 => .int
  | 1 => .array .int
  | 2 => .int
  | 3 => .int
  | 4 => .boolean
  | 5 => .array .int
  | 6 => .array .int
  | 7 => .array .int
  | 8 => .array .int
  | 9 => .int
  | 10 => .array .int
  | 11 => .array .boolean
  | 12 => .array .long
  | 13 => .array .long
  | 14 => .array .long
  | 15 => .array .int
  | 16 => .array .int
  | 17 => .int
  | 18 => .array .boolean
  | 19 => .array .int
  | 20 => .array .boolean
  | 21 => .array .int
  | _ => .int
abbrev wsX80 : List Cond := u_ws RX8 TX8 23
theorem nmX8 : ∀ a, a < 23 → ∀ b, b < 23 → a ≠ b → (TX8 a).2.1 ≠ (TX8 b).2.1 := by decide +kernel
theorem tyX8_ok : ∀ k, k < 23 → parseFieldDescriptor (TX8 k).2.2.1 = some (tyX8 k) := by decide +kernel
abbrev vwCl : List vw_C := [(RX0, TX0, 12), (RX1, TX1, 5), (RX2, TX2, 8), (RX3, TX3, 5), (RX4, TX4, 3), (RX5, TX5, 3), (RX6, TX6, 6), (RX7, TX7, 12), (RX8, TX8, 23)]
/-- the tables' words that stay good in every call -/
def xTB : List Cond := lw_tbl.filter goodWord
theorem xTB_good : GoodIn xTB xTB := fun w h => ⟨h, good_of_word (List.mem_filter.mp h).2⟩
theorem xTB_in (ws : List Cond) (ps : List Nat) (hp : ws = ps.filterMap (fun i => lw_tbl[i]?)) (h : ws.all goodWord = true) : ∀ w ∈ ws, w ∈ xTB := by
  intro w hw
  have h1 := List.all_eq_true.mp h w hw
  rw [hp] at hw
  obtain ⟨i, -, hi⟩ := List.mem_filterMap.mp hw
  exact List.mem_filter.mpr ⟨List.mem_of_getElem? hi, h1⟩
theorem xTB_1 (w : Cond) (i : Nat) (hi : lw_tbl[i]? = some w) (h : goodWord w = true) : w ∈ xTB := List.mem_filter.mpr ⟨List.mem_of_getElem? hi, h⟩
theorem xTB_s1 (w : Cond) (i : Nat) (hi : tables_1_1[i]? = some w) (h : goodWord w = true) : w ∈ xTB := List.mem_filter.mpr ⟨List.mem_append_right _ (show w ∈ tables_1 from have h := List.mem_of_getElem? hi; List.mem_append_left _ h), h⟩
theorem xTB_s2 (w : Cond) (i : Nat) (hi : tables_1_2[i]? = some w) (h : goodWord w = true) : w ∈ xTB := List.mem_filter.mpr ⟨List.mem_append_right _ (show w ∈ tables_1 from have h := List.mem_of_getElem? hi; List.mem_append_right _ (List.mem_append_left _ h)), h⟩
theorem xTB_s3 (w : Cond) (i : Nat) (hi : tables_1_3[i]? = some w) (h : goodWord w = true) : w ∈ xTB := List.mem_filter.mpr ⟨List.mem_append_right _ (show w ∈ tables_1 from have h := List.mem_of_getElem? hi; List.mem_append_right _ (List.mem_append_right _ (List.mem_append_left _ h))), h⟩
theorem xTB_s4 (w : Cond) (i : Nat) (hi : tables_1_4[i]? = some w) (h : goodWord w = true) : w ∈ xTB := List.mem_filter.mpr ⟨List.mem_append_right _ (show w ∈ tables_1 from have h := List.mem_of_getElem? hi; List.mem_append_right _ (List.mem_append_right _ (List.mem_append_right _ (List.mem_append_left _ h)))), h⟩
theorem xTB_s5 (w : Cond) (i : Nat) (hi : tables_1_5[i]? = some w) (h : goodWord w = true) : w ∈ xTB := List.mem_filter.mpr ⟨List.mem_append_right _ (show w ∈ tables_1 from have h := List.mem_of_getElem? hi; List.mem_append_right _ (List.mem_append_right _ (List.mem_append_right _ (List.mem_append_right _ (List.mem_append_left _ h))))), h⟩
theorem xTB_s6 (w : Cond) (i : Nat) (hi : tables_1_6[i]? = some w) (h : goodWord w = true) : w ∈ xTB := List.mem_filter.mpr ⟨List.mem_append_right _ (show w ∈ tables_1 from have h := List.mem_of_getElem? hi; List.mem_append_right _ (List.mem_append_right _ (List.mem_append_right _ (List.mem_append_right _ (List.mem_append_right _ (h)))))), h⟩
theorem xTB_s0 (w : Cond) (i : Nat) (hi : (k2_sels lw_privs)[i]? = some w) (h : goodWord w = true) : w ∈ xTB := List.mem_filter.mpr ⟨List.mem_append_left _ (List.mem_of_getElem? hi), h⟩
set_option maxRecDepth 100000 in
theorem inX0 : ∀ w ∈ wsX00, w ∈ xTB := xTB_in _ [189, 191, 193, 195, 197, 199, 201, 203, 205, 207, 209, 211] (by decide +kernel) (by decide +kernel)
set_option maxRecDepth 100000 in
theorem inX1 : ∀ w ∈ wsX10, w ∈ xTB := xTB_in _ [114, 116, 118, 120, 122] (by decide +kernel) (by decide +kernel)
set_option maxRecDepth 100000 in
theorem inX2 : ∀ w ∈ wsX20, w ∈ xTB := xTB_in _ [287, 289, 291, 293, 295, 297, 299, 301] (by decide +kernel) (by decide +kernel)
set_option maxRecDepth 100000 in
theorem inX3 : ∀ w ∈ wsX30, w ∈ xTB := xTB_in _ [337, 339, 341, 343, 345] (by decide +kernel) (by decide +kernel)
set_option maxRecDepth 100000 in
theorem inX4 : ∀ w ∈ wsX40, w ∈ xTB := xTB_in _ [227, 229, 231] (by decide +kernel) (by decide +kernel)
set_option maxRecDepth 100000 in
theorem inX5 : ∀ w ∈ wsX50, w ∈ xTB := xTB_in _ [153, 155, 157] (by decide +kernel) (by decide +kernel)
set_option maxRecDepth 100000 in
theorem inX6 : ∀ w ∈ wsX60, w ∈ xTB := xTB_in _ [253, 255, 257, 259, 261, 263] (by decide +kernel) (by decide +kernel)
set_option maxRecDepth 100000 in
theorem inX7 : ∀ w ∈ wsX70, w ∈ xTB := xTB_in _ [362, 364, 366, 368, 370, 372, 374, 376, 378, 380, 382, 384] (by decide +kernel) (by decide +kernel)
set_option maxRecDepth 100000 in
theorem inX8 : ∀ w ∈ wsX80, w ∈ xTB := xTB_in _ [1088, 1090, 1092, 1094, 1096, 1098, 1100, 1102, 1104, 1106, 1108, 1110, 1112, 1114, 1116, 1118, 1120, 1122, 1124, 1126, 1128, 1130, 1132] (by decide +kernel) (by decide +kernel)
abbrev xM : Type := MethodName × ByteArray × Nat × Option FieldType × Nat × Nat × List (Nat × Nat × Nat × Nat)
abbrev mA_init : xM := (⟨"FaceZones", "<init>", "()V"⟩, prog_1_method_1_code, 2, (none), 4, 81, [])
abbrev mA_append : xM := (⟨"FaceZones", "append", "(I)I"⟩, prog_1_method_2_code, 2, (Option.some Jvm.ClassFile.FieldType.int), 7, 112, [])
abbrev mA_clearText : xM := (⟨"FaceZones", "clearText", "()I"⟩, prog_1_method_3_code, 2, (Option.some Jvm.ClassFile.FieldType.int), 0, 0, [])
abbrev mA_errorPosition : xM := (⟨"FaceZones", "errorPosition", "()I"⟩, prog_1_method_4_code, 1, (Option.some Jvm.ClassFile.FieldType.int), 6, 139, [])
abbrev mA_load : xM := (⟨"FaceZones", "load", "()I"⟩, prog_1_method_5_code, 2, (Option.some Jvm.ClassFile.FieldType.int), 6, 139, [])
abbrev mA_about : xM := (⟨"FaceZones", "about", "(I)I"⟩, prog_1_method_6_code, 2, (Option.some Jvm.ClassFile.FieldType.int), 6, 139, [])
abbrev mA_face : xM := (⟨"FaceZones", "face", "(II)I"⟩, prog_1_method_7_code, 3, (Option.some Jvm.ClassFile.FieldType.int), 7, 139, [])
abbrev mA_zone : xM := (⟨"FaceZones", "zone", "(II)I"⟩, prog_1_method_8_code, 4, (Option.some Jvm.ClassFile.FieldType.int), 7, 139, [])
abbrev mA_zoneOf : xM := (⟨"FaceZones", "zoneOf", "(II)I"⟩, prog_1_method_9_code, 3, (Option.some Jvm.ClassFile.FieldType.int), 7, 139, [])
abbrev mA_inZone : xM := (⟨"FaceZones", "inZone", "(III)I"⟩, prog_1_method_10_code, 4, (Option.some Jvm.ClassFile.FieldType.int), 7, 139, [])
abbrev mA_cross : xM := (⟨"FaceZones", "cross", "(III)J"⟩, prog_1_method_11_code, 5, (Option.some Jvm.ClassFile.FieldType.long), 7, 139, [])
abbrev mA_angle : xM := (⟨"FaceZones", "angle", "(II)I"⟩, prog_1_method_12_code, 10, (Option.some Jvm.ClassFile.FieldType.int), 7, 139, [])
abbrev mA_sameForm : xM := (⟨"FaceZones", "sameForm", "(II)Z"⟩, prog_1_method_13_code, 3, (Option.some Jvm.ClassFile.FieldType.boolean), 7, 111, [])
abbrev mA_addFace : xM := (⟨"FaceZones", "addFace", "(IIII)I"⟩, prog_1_method_14_code, 6, (Option.some Jvm.ClassFile.FieldType.int), 8, 135, [])
abbrev mA_addForm : xM := (⟨"FaceZones", "addForm", "(I)I"⟩, prog_1_method_15_code, 3, (Option.some Jvm.ClassFile.FieldType.int), 7, 127, [])
abbrev mA_twin : xM := (⟨"FaceZones", "twin", "(I)I"⟩, prog_1_method_16_code, 2, (Option.some Jvm.ClassFile.FieldType.int), 7, 111, [])
abbrev mA_remove : xM := (⟨"FaceZones", "remove", "(I)I"⟩, prog_1_method_17_code, 2, (Option.some Jvm.ClassFile.FieldType.int), 7, 111, [])
abbrev mA_setSystem : xM := (⟨"FaceZones", "setSystem", "(I)I"⟩, prog_1_method_18_code, 3, (Option.some Jvm.ClassFile.FieldType.int), 7, 112, [])
abbrev mA_setLeast : xM := (⟨"FaceZones", "setLeast", "(I)I"⟩, prog_1_method_19_code, 2, (Option.some Jvm.ClassFile.FieldType.int), 7, 139, [])
abbrev mA_setTwin : xM := (⟨"FaceZones", "setTwin", "(III)I"⟩, prog_1_method_20_code, 4, (Option.some Jvm.ClassFile.FieldType.int), 6, 139, [])
abbrev mA_undo : xM := (⟨"FaceZones", "undo", "()I"⟩, prog_1_method_21_code, 1, (Option.some Jvm.ClassFile.FieldType.int), 6, 90, [])
abbrev mA_whyNot : xM := (⟨"FaceZones", "whyNot", "(IIII)I"⟩, prog_1_method_22_code, 5, (Option.some Jvm.ClassFile.FieldType.int), 8, 135, [])
abbrev mA_bestTwin : xM := (⟨"FaceZones", "bestTwin", "()I"⟩, prog_1_method_23_code, 6, (Option.some Jvm.ClassFile.FieldType.int), 5, 119, [])
abbrev mA_keyFace : xM := (⟨"FaceZones", "keyFace", "()I"⟩, prog_1_method_24_code, 4, (Option.some Jvm.ClassFile.FieldType.int), 5, 119, [])
abbrev mA_grown : xM := (⟨"FaceZones", "grown", "(I)I"⟩, prog_1_method_25_code, 3, (Option.some Jvm.ClassFile.FieldType.int), 7, 139, [])
abbrev mA_runScript : xM := (⟨"FaceZones", "runScript", "(IJ)I"⟩, prog_1_method_26_code, 9, (Option.some Jvm.ClassFile.FieldType.int), 7, 172, [])
abbrev mA_simulate : xM := (⟨"FaceZones", "simulate", "(JI)I"⟩, prog_1_method_27_code, 7, (Option.some Jvm.ClassFile.FieldType.int), 7, 119, [])
abbrev mA_save : xM := (⟨"FaceZones", "save", "(I)I"⟩, prog_1_method_28_code, 2, (Option.some Jvm.ClassFile.FieldType.int), 7, 110, [])
abbrev mA_restore : xM := (⟨"FaceZones", "restore", "(I)I"⟩, prog_1_method_29_code, 2, (Option.some Jvm.ClassFile.FieldType.int), 7, 110, [])
abbrev mA_isWithin : xM := (⟨"FaceZones", "isWithin", "(III)Z"⟩, prog_1_method_30_code, 3, (Option.some Jvm.ClassFile.FieldType.boolean), 0, 0, [])
abbrev mA_requireRange : xM := (⟨"FaceZones", "requireRange", "(III)V"⟩, prog_1_method_31_code, 3, (none), 6, 90, [])
abbrev mA_requireFaceArguments : xM := (⟨"FaceZones", "requireFaceArguments", "(IIII)V"⟩, prog_1_method_32_code, 4, (none), 7, 112, [])
abbrev mA_requireFace : xM := (⟨"FaceZones", "requireFace", "(I)V"⟩, prog_1_method_33_code, 2, (none), 6, 90, [])
abbrev mA_requireZone : xM := (⟨"FaceZones", "requireZone", "(ILFaceZones$ZoneList;)V"⟩, prog_1_method_34_code, 2, (none), 6, 90, [])
abbrev mA_requireSlot : xM := (⟨"FaceZones", "requireSlot", "(I)V"⟩, prog_1_method_35_code, 1, (none), 6, 90, [])
abbrev mA_isTwinPlane : xM := (⟨"FaceZones", "isTwinPlane", "(III)Z"⟩, prog_1_method_36_code, 4, (Option.some Jvm.ClassFile.FieldType.boolean), 1, 22, [])
abbrev mA_remember : xM := (⟨"FaceZones", "remember", "()V"⟩, prog_1_method_37_code, 1, (none), 3, 82, [])
abbrev mA_replacePresent : xM := (⟨"FaceZones", "replacePresent", "(LFaceZones$Crystal;)V"⟩, prog_1_method_38_code, 2, (none), 2, 61, [])
abbrev mA_zonesNow : xM := (⟨"FaceZones", "zonesNow", "()LFaceZones$ZoneList;"⟩, prog_1_method_39_code, 1, (Option.some (Jvm.ClassFile.FieldType.object "FaceZones$ZoneList")), 5, 119, [])
abbrev mA_countForm : xM := (⟨"FaceZones", "countForm", "(I)I"⟩, prog_1_method_40_code, 2, (Option.some Jvm.ClassFile.FieldType.int), 4, 103, [])
abbrev mA_countMissing : xM := (⟨"FaceZones", "countMissing", "(LFaceZones$Crystal;I)I"⟩, prog_1_method_41_code, 5, (Option.some Jvm.ClassFile.FieldType.int), 4, 103, [])
abbrev mA_insertForm : xM := (⟨"FaceZones", "insertForm", "(LFaceZones$Crystal;I)V"⟩, prog_1_method_42_code, 5, (none), 4, 103, [])
abbrev mA_simulateRound : xM := (⟨"FaceZones", "simulateRound", "(I)V"⟩, prog_1_method_43_code, 6, (none), 3, 74, [])
abbrev mA_succeeds : xM := (⟨"FaceZones", "succeeds", "(I)Z"⟩, prog_1_method_44_code, 5, (Option.some Jvm.ClassFile.FieldType.boolean), 6, 148, [])
abbrev mA_signed : xM := (⟨"FaceZones", "signed", "(I)I"⟩, prog_1_method_45_code, 1, (Option.some Jvm.ClassFile.FieldType.int), 0, 0, [])
abbrev mA_putSigned : xM := (⟨"FaceZones", "putSigned", "(I)V"⟩, prog_1_method_46_code, 2, (none), 1, 26, [])
abbrev mA_addByScript : xM := (⟨"FaceZones", "addByScript", "(II)Z"⟩, prog_1_method_47_code, 6, (Option.some Jvm.ClassFile.FieldType.boolean), 3, 74, [])
abbrev mA_removeByScript : xM := (⟨"FaceZones", "removeByScript", "(I)Z"⟩, prog_1_method_48_code, 2, (Option.some Jvm.ClassFile.FieldType.boolean), 2, 43, [])
abbrev mA_setSystemByScript : xM := (⟨"FaceZones", "setSystemByScript", "(I)Z"⟩, prog_1_method_49_code, 2, (Option.some Jvm.ClassFile.FieldType.boolean), 0, 0, [])
abbrev mA_addFormByScript : xM := (⟨"FaceZones", "addFormByScript", "(I)Z"⟩, prog_1_method_50_code, 2, (Option.some Jvm.ClassFile.FieldType.boolean), 5, 127, [])
abbrev mA_setTwinByScript : xM := (⟨"FaceZones", "setTwinByScript", "(I)Z"⟩, prog_1_method_51_code, 5, (Option.some Jvm.ClassFile.FieldType.boolean), 3, 73, [])
abbrev mA_hasInZone : xM := (⟨"FaceZones", "hasInZone", "(II)Z"⟩, prog_1_method_52_code, 3, (Option.some Jvm.ClassFile.FieldType.boolean), 4, 96, [])
abbrev mA_hasZones : xM := (⟨"FaceZones", "hasZones", "(I)Z"⟩, prog_1_method_53_code, 2, (Option.some Jvm.ClassFile.FieldType.boolean), 5, 119, [])
abbrev mA_isSameForm : xM := (⟨"FaceZones", "isSameForm", "(II)Z"⟩, prog_1_method_54_code, 3, (Option.some Jvm.ClassFile.FieldType.boolean), 4, 100, [])
abbrev mA_twinByScript : xM := (⟨"FaceZones", "twinByScript", "(I)Z"⟩, prog_1_method_55_code, 2, (Option.some Jvm.ClassFile.FieldType.boolean), 4, 95, [])
abbrev mA_commonDivisor : xM := (⟨"FaceZones", "commonDivisor", "(JJ)J"⟩, prog_1_method_56_code, 11, (Option.some Jvm.ClassFile.FieldType.long), 0, 0, [])
abbrev mB_init : xM := (⟨"FaceZonesModel", "<init>", "()V"⟩, prog_10_method_1_code, 1, (none), 1, 21, [])
abbrev mB_thrown : xM := (⟨"FaceZonesModel", "thrown", "()I"⟩, prog_10_method_2_code, 1, (Option.some Jvm.ClassFile.FieldType.int), 0, 0, [])
abbrev mB_refused : xM := (⟨"FaceZonesModel", "refused", "(I)Z"⟩, prog_10_method_3_code, 2, (Option.some Jvm.ClassFile.FieldType.boolean), 0, 0, [])
abbrev mB_in : xM := (⟨"FaceZonesModel", "in", "(JJJ)Z"⟩, prog_10_method_4_code, 6, (Option.some Jvm.ClassFile.FieldType.boolean), 0, 0, [])
abbrev mB_copy : xM := (⟨"FaceZonesModel", "copy", "([II[III)V"⟩, prog_10_method_5_code, 6, (none), 0, 0, [])
abbrev mB_tenTo : xM := (⟨"FaceZonesModel", "tenTo", "(I)J"⟩, prog_10_method_6_code, 4, (Option.some Jvm.ClassFile.FieldType.long), 0, 0, [])
abbrev mB_size : xM := (⟨"FaceZonesModel", "size", "(J)J"⟩, prog_10_method_7_code, 2, (Option.some Jvm.ClassFile.FieldType.long), 0, 0, [])
abbrev mB_divisor : xM := (⟨"FaceZonesModel", "divisor", "(JJ)J"⟩, prog_10_method_8_code, 10, (Option.some Jvm.ClassFile.FieldType.long), 1, 21, [])
abbrev mB_clean : xM := (⟨"FaceZonesModel", "clean", "([I)V"⟩, prog_10_method_9_code, 2, (none), 0, 0, [])
abbrev mB_note : xM := (⟨"FaceZonesModel", "note", "()V"⟩, prog_10_method_10_code, 1, (none), 1, 25, [])
abbrev mB_begin : xM := (⟨"FaceZonesModel", "begin", "()V"⟩, prog_10_method_11_code, 1, (none), 1, 25, [])
abbrev mB_divide : xM := (⟨"FaceZonesModel", "divide", "(JJJ)V"⟩, prog_10_method_12_code, 9, (none), 2, 50, [])
abbrev mB_normalize : xM := (⟨"FaceZonesModel", "normalize", "(JJJ)V"⟩, prog_10_method_13_code, 9, (none), 3, 78, [])
abbrev mB_crossOf : xM := (⟨"FaceZonesModel", "crossOf", "(JJJJJJ)V"⟩, prog_10_method_14_code, 13, (none), 4, 106, [])
abbrev mB_isNothing : xM := (⟨"FaceZonesModel", "isNothing", "()Z"⟩, prog_10_method_15_code, 1, (Option.some Jvm.ClassFile.FieldType.boolean), 0, 0, [])
abbrev mB_cell : xM := (⟨"FaceZonesModel", "cell", "(II)I"⟩, prog_10_method_16_code, 2, (Option.some Jvm.ClassFile.FieldType.int), 0, 0, [])
abbrev mB_layWays : xM := (⟨"FaceZonesModel", "layWays", "([I)V"⟩, prog_10_method_17_code, 19, (none), 3, 78, [])
abbrev mB_crossWays : xM := (⟨"FaceZonesModel", "crossWays", "(II)V"⟩, prog_10_method_18_code, 3, (none), 5, 138, [])
abbrev mB_lies : xM := (⟨"FaceZonesModel", "lies", "(IJJJ)Z"⟩, prog_10_method_19_code, 8, (Option.some Jvm.ClassFile.FieldType.boolean), 0, 0, [])
abbrev mB_facesIn : xM := (⟨"FaceZonesModel", "facesIn", "(IJJJ)I"⟩, prog_10_method_20_code, 10, (Option.some Jvm.ClassFile.FieldType.int), 1, 27, [])
abbrev mB_count : xM := (⟨"FaceZonesModel", "count", "(I)I"⟩, prog_10_method_21_code, 3, (Option.some Jvm.ClassFile.FieldType.int), 0, 0, [])
abbrev mB_zoneBy : xM := (⟨"FaceZonesModel", "zoneBy", "()I"⟩, prog_10_method_22_code, 2, (Option.some Jvm.ClassFile.FieldType.int), 0, 0, [])
abbrev mB_isAhead : xM := (⟨"FaceZonesModel", "isAhead", "(II)Z"⟩, prog_10_method_23_code, 8, (Option.some Jvm.ClassFile.FieldType.boolean), 1, 21, [])
abbrev mB_putZone : xM := (⟨"FaceZonesModel", "putZone", "(I)V"⟩, prog_10_method_24_code, 5, (none), 2, 48, [])
abbrev mB_layZones : xM := (⟨"FaceZonesModel", "layZones", "([I)V"⟩, prog_10_method_25_code, 5, (none), 6, 160, [])
abbrev mB_zonesOf : xM := (⟨"FaceZonesModel", "zonesOf", "([I)I"⟩, prog_10_method_26_code, 2, (Option.some Jvm.ClassFile.FieldType.int), 7, 184, [])
abbrev mB_areLike : xM := (⟨"FaceZonesModel", "areLike", "(JJ)Z"⟩, prog_10_method_27_code, 4, (Option.some Jvm.ClassFile.FieldType.boolean), 0, 0, [])
abbrev mB_areEquivalent : xM := (⟨"FaceZonesModel", "areEquivalent", "(IIIIIII)Z"⟩, prog_10_method_28_code, 7, (Option.some Jvm.ClassFile.FieldType.boolean), 1, 23, [])
abbrev mB_isLike : xM := (⟨"FaceZonesModel", "isLike", "([IIIII)Z"⟩, prog_10_method_29_code, 5, (Option.some Jvm.ClassFile.FieldType.boolean), 2, 49, [])
abbrev mB_formOf : xM := (⟨"FaceZonesModel", "formOf", "([II)I"⟩, prog_10_method_30_code, 6, (Option.some Jvm.ClassFile.FieldType.int), 3, 73, [])
abbrev mB_areOneForm : xM := (⟨"FaceZonesModel", "areOneForm", "([III)Z"⟩, prog_10_method_31_code, 3, (Option.some Jvm.ClassFile.FieldType.boolean), 3, 73, [])
abbrev mB_faceBy : xM := (⟨"FaceZonesModel", "faceBy", "([IJJJI)I"⟩, prog_10_method_32_code, 9, (Option.some Jvm.ClassFile.FieldType.int), 1, 21, [])
abbrev mB_why : xM := (⟨"FaceZonesModel", "why", "([IIIII)I"⟩, prog_10_method_33_code, 6, (Option.some Jvm.ClassFile.FieldType.int), 3, 78, [])
abbrev mB_adds : xM := (⟨"FaceZonesModel", "adds", "([IIIII)Z"⟩, prog_10_method_34_code, 8, (Option.some Jvm.ClassFile.FieldType.boolean), 4, 103, [])
abbrev mB_addForms : xM := (⟨"FaceZonesModel", "addForms", "([II)I"⟩, prog_10_method_35_code, 8, (Option.some Jvm.ClassFile.FieldType.int), 5, 130, [])
abbrev mB_drop : xM := (⟨"FaceZonesModel", "drop", "([II)V"⟩, prog_10_method_36_code, 3, (none), 1, 21, [])
abbrev mB_setPlane : xM := (⟨"FaceZonesModel", "setPlane", "([IIII)V"⟩, prog_10_method_37_code, 6, (none), 3, 78, [])
abbrev mB_append : xM := (⟨"FaceZonesModel", "append", "(I)I"⟩, prog_10_method_38_code, 2, (Option.some Jvm.ClassFile.FieldType.int), 1, 25, [])
abbrev mB_clearText : xM := (⟨"FaceZonesModel", "clearText", "()I"⟩, prog_10_method_39_code, 2, (Option.some Jvm.ClassFile.FieldType.int), 0, 0, [])
abbrev mB_isNext : xM := (⟨"FaceZonesModel", "isNext", "(I)Z"⟩, prog_10_method_40_code, 2, (Option.some Jvm.ClassFile.FieldType.boolean), 0, 0, [])
abbrev mB_accept : xM := (⟨"FaceZonesModel", "accept", "(Z)V"⟩, prog_10_method_41_code, 2, (none), 0, 0, [])
abbrev mB_digit : xM := (⟨"FaceZonesModel", "digit", "(II)I"⟩, prog_10_method_42_code, 4, (Option.some Jvm.ClassFile.FieldType.int), 1, 25, [])
abbrev mB_index : xM := (⟨"FaceZonesModel", "index", "(IZ)I"⟩, prog_10_method_43_code, 3, (Option.some Jvm.ClassFile.FieldType.int), 2, 48, [])
abbrev mB_readFace : xM := (⟨"FaceZonesModel", "readFace", "()V"⟩, prog_10_method_44_code, 5, (none), 5, 130, [])
abbrev mB_readTwin : xM := (⟨"FaceZonesModel", "readTwin", "()V"⟩, prog_10_method_45_code, 4, (none), 4, 103, [])
abbrev mB_readText : xM := (⟨"FaceZonesModel", "readText", "()I"⟩, prog_10_method_46_code, 1, (Option.some Jvm.ClassFile.FieldType.int), 6, 154, [])
abbrev mB_errorPosition : xM := (⟨"FaceZonesModel", "errorPosition", "()I"⟩, prog_10_method_47_code, 1, (Option.some Jvm.ClassFile.FieldType.int), 7, 174, [])
abbrev mB_load : xM := (⟨"FaceZonesModel", "load", "()I"⟩, prog_10_method_48_code, 1, (Option.some Jvm.ClassFile.FieldType.int), 7, 174, [])
abbrev mB_directions : xM := (⟨"FaceZonesModel", "directions", "()I"⟩, prog_10_method_49_code, 5, (Option.some Jvm.ClassFile.FieldType.int), 6, 160, [])
abbrev mB_twins : xM := (⟨"FaceZonesModel", "twins", "([I)I"⟩, prog_10_method_50_code, 3, (Option.some Jvm.ClassFile.FieldType.int), 1, 21, [])
abbrev mB_longest : xM := (⟨"FaceZonesModel", "longest", "([I)I"⟩, prog_10_method_51_code, 2, (Option.some Jvm.ClassFile.FieldType.int), 7, 184, [])
abbrev mB_about : xM := (⟨"FaceZonesModel", "about", "(I)I"⟩, prog_10_method_52_code, 2, (Option.some Jvm.ClassFile.FieldType.int), 8, 205, [])
abbrev mB_isFace : xM := (⟨"FaceZonesModel", "isFace", "(I)Z"⟩, prog_10_method_53_code, 2, (Option.some Jvm.ClassFile.FieldType.boolean), 1, 25, [])
abbrev mB_zonesAt : xM := (⟨"FaceZonesModel", "zonesAt", "(I)I"⟩, prog_10_method_54_code, 4, (Option.some Jvm.ClassFile.FieldType.int), 0, 0, [])
abbrev mB_face : xM := (⟨"FaceZonesModel", "face", "(II)I"⟩, prog_10_method_55_code, 3, (Option.some Jvm.ClassFile.FieldType.int), 7, 184, [])
abbrev mB_isZoneNumber : xM := (⟨"FaceZonesModel", "isZoneNumber", "(I)Z"⟩, prog_10_method_56_code, 2, (Option.some Jvm.ClassFile.FieldType.boolean), 8, 205, [])
abbrev mB_zone : xM := (⟨"FaceZonesModel", "zone", "(II)I"⟩, prog_10_method_57_code, 3, (Option.some Jvm.ClassFile.FieldType.int), 9, 226, [])
abbrev mB_zoneOf : xM := (⟨"FaceZonesModel", "zoneOf", "(II)I"⟩, prog_10_method_58_code, 3, (Option.some Jvm.ClassFile.FieldType.int), 7, 184, [])
abbrev mB_isAxis : xM := (⟨"FaceZonesModel", "isAxis", "(I)Z"⟩, prog_10_method_59_code, 1, (Option.some Jvm.ClassFile.FieldType.boolean), 1, 25, [])
abbrev mB_inZone : xM := (⟨"FaceZonesModel", "inZone", "(III)I"⟩, prog_10_method_60_code, 4, (Option.some Jvm.ClassFile.FieldType.int), 4, 116, [])
abbrev mB_cross : xM := (⟨"FaceZonesModel", "cross", "(III)J"⟩, prog_10_method_61_code, 12, (Option.some Jvm.ClassFile.FieldType.long), 9, 226, [])
abbrev mB_product : xM := (⟨"FaceZonesModel", "product", "(II)J"⟩, prog_10_method_62_code, 3, (Option.some Jvm.ClassFile.FieldType.long), 0, 0, [])
abbrev mB_angle : xM := (⟨"FaceZonesModel", "angle", "(II)I"⟩, prog_10_method_63_code, 6, (Option.some Jvm.ClassFile.FieldType.int), 4, 116, [])
abbrev mB_sameForm : xM := (⟨"FaceZonesModel", "sameForm", "(II)Z"⟩, prog_10_method_64_code, 3, (Option.some Jvm.ClassFile.FieldType.boolean), 4, 95, [])
abbrev mB_isIndex : xM := (⟨"FaceZonesModel", "isIndex", "(I)Z"⟩, prog_10_method_65_code, 1, (Option.some Jvm.ClassFile.FieldType.boolean), 1, 25, [])
abbrev mB_areIndices : xM := (⟨"FaceZonesModel", "areIndices", "(IIII)Z"⟩, prog_10_method_66_code, 4, (Option.some Jvm.ClassFile.FieldType.boolean), 2, 45, [])
abbrev mB_addFace : xM := (⟨"FaceZonesModel", "addFace", "(IIII)I"⟩, prog_10_method_67_code, 6, (Option.some Jvm.ClassFile.FieldType.int), 5, 130, [])
abbrev mB_hasRoomForForm : xM := (⟨"FaceZonesModel", "hasRoomForForm", "(I)Z"⟩, prog_10_method_68_code, 2, (Option.some Jvm.ClassFile.FieldType.boolean), 6, 157, [])
abbrev mB_addForm : xM := (⟨"FaceZonesModel", "addForm", "(I)I"⟩, prog_10_method_69_code, 2, (Option.some Jvm.ClassFile.FieldType.int), 7, 178, [])
abbrev mB_addsTwin : xM := (⟨"FaceZonesModel", "addsTwin", "([II)Z"⟩, prog_10_method_70_code, 3, (Option.some Jvm.ClassFile.FieldType.boolean), 5, 130, [])
abbrev mB_canTwin : xM := (⟨"FaceZonesModel", "canTwin", "(I)Z"⟩, prog_10_method_71_code, 2, (Option.some Jvm.ClassFile.FieldType.boolean), 4, 103, [])
abbrev mB_twin : xM := (⟨"FaceZonesModel", "twin", "(I)I"⟩, prog_10_method_72_code, 2, (Option.some Jvm.ClassFile.FieldType.int), 6, 152, [])
abbrev mB_remove : xM := (⟨"FaceZonesModel", "remove", "(I)I"⟩, prog_10_method_73_code, 2, (Option.some Jvm.ClassFile.FieldType.int), 2, 46, [])
abbrev mB_setSystem : xM := (⟨"FaceZonesModel", "setSystem", "(I)I"⟩, prog_10_method_74_code, 3, (Option.some Jvm.ClassFile.FieldType.int), 2, 45, [])
abbrev mB_setLeast : xM := (⟨"FaceZonesModel", "setLeast", "(I)I"⟩, prog_10_method_75_code, 2, (Option.some Jvm.ClassFile.FieldType.int), 8, 205, [])
abbrev mB_isPlane : xM := (⟨"FaceZonesModel", "isPlane", "(III)Z"⟩, prog_10_method_76_code, 3, (Option.some Jvm.ClassFile.FieldType.boolean), 1, 25, [])
abbrev mB_setTwin : xM := (⟨"FaceZonesModel", "setTwin", "(III)I"⟩, prog_10_method_77_code, 4, (Option.some Jvm.ClassFile.FieldType.int), 8, 205, [])
abbrev mB_undo : xM := (⟨"FaceZonesModel", "undo", "()I"⟩, prog_10_method_78_code, 1, (Option.some Jvm.ClassFile.FieldType.int), 1, 25, [])
abbrev mB_whyNot : xM := (⟨"FaceZonesModel", "whyNot", "(IIII)I"⟩, prog_10_method_79_code, 5, (Option.some Jvm.ClassFile.FieldType.int), 4, 103, [])
abbrev mB_bestTwin : xM := (⟨"FaceZonesModel", "bestTwin", "()I"⟩, prog_10_method_80_code, 8, (Option.some Jvm.ClassFile.FieldType.int), 8, 205, [])
abbrev mB_keyFace : xM := (⟨"FaceZonesModel", "keyFace", "()I"⟩, prog_10_method_81_code, 5, (Option.some Jvm.ClassFile.FieldType.int), 8, 205, [])
abbrev mB_isSmall : xM := (⟨"FaceZonesModel", "isSmall", "(J)Z"⟩, prog_10_method_82_code, 2, (Option.some Jvm.ClassFile.FieldType.boolean), 1, 25, [])
abbrev mB_grow : xM := (⟨"FaceZonesModel", "grow", "()V"⟩, prog_10_method_83_code, 1, (none), 2, 46, [])
abbrev mB_members : xM := (⟨"FaceZonesModel", "members", "()I"⟩, prog_10_method_84_code, 3, (Option.some Jvm.ClassFile.FieldType.int), 0, 0, [])
abbrev mB_goRound : xM := (⟨"FaceZonesModel", "goRound", "()V"⟩, prog_10_method_85_code, 8, (none), 5, 138, [])
abbrev mB_grown : xM := (⟨"FaceZonesModel", "grown", "(I)I"⟩, prog_10_method_86_code, 3, (Option.some Jvm.ClassFile.FieldType.int), 6, 165, [])
abbrev mB_told : xM := (⟨"FaceZonesModel", "told", "(I)I"⟩, prog_10_method_87_code, 1, (Option.some Jvm.ClassFile.FieldType.int), 0, 0, [])
abbrev mB_has : xM := (⟨"FaceZonesModel", "has", "([II)Z"⟩, prog_10_method_88_code, 2, (Option.some Jvm.ClassFile.FieldType.boolean), 0, 0, [])
abbrev mB_does : xM := (⟨"FaceZonesModel", "does", "(I)Z"⟩, prog_10_method_89_code, 10, (Option.some Jvm.ClassFile.FieldType.boolean), 8, 205, [])
abbrev mB_runScript : xM := (⟨"FaceZonesModel", "runScript", "(IJ)I"⟩, prog_10_method_90_code, 6, (Option.some Jvm.ClassFile.FieldType.int), 9, 234, [])
abbrev mB_simulate : xM := (⟨"FaceZonesModel", "simulate", "(JI)I"⟩, prog_10_method_91_code, 8, (Option.some Jvm.ClassFile.FieldType.int), 8, 205, [])
abbrev mB_save : xM := (⟨"FaceZonesModel", "save", "(I)I"⟩, prog_10_method_92_code, 2, (Option.some Jvm.ClassFile.FieldType.int), 1, 25, [])
abbrev mB_restore : xM := (⟨"FaceZonesModel", "restore", "(I)I"⟩, prog_10_method_93_code, 2, (Option.some Jvm.ClassFile.FieldType.int), 1, 25, [])
abbrev mC_init : xM := (⟨"FaceZones$Crystal", "<init>", "()V"⟩, prog_2_method_1_code, 1, (none), 2, 40, [])
abbrev mC_reset : xM := (⟨"FaceZones$Crystal", "reset", "()V"⟩, prog_2_method_2_code, 1, (none), 0, 0, [])
abbrev mC_copyFrom : xM := (⟨"FaceZones$Crystal", "copyFrom", "(LFaceZones$Crystal;)V"⟩, prog_2_method_3_code, 2, (none), 1, 40, [])
abbrev mC_hasFace : xM := (⟨"FaceZones$Crystal", "hasFace", "(I)Z"⟩, prog_2_method_4_code, 2, (Option.some Jvm.ClassFile.FieldType.boolean), 0, 0, [])
abbrev mC_countHalf : xM := (⟨"FaceZones$Crystal", "countHalf", "(I)I"⟩, prog_2_method_5_code, 4, (Option.some Jvm.ClassFile.FieldType.int), 0, 0, [])
abbrev mC_find : xM := (⟨"FaceZones$Crystal", "find", "(IIII)I"⟩, prog_2_method_6_code, 6, (Option.some Jvm.ClassFile.FieldType.int), 0, 0, [])
abbrev mC_refusalOf : xM := (⟨"FaceZones$Crystal", "refusalOf", "(IIII)I"⟩, prog_2_method_7_code, 5, (Option.some Jvm.ClassFile.FieldType.int), 2, 50, [])
abbrev mC_refusalOfTwin : xM := (⟨"FaceZones$Crystal", "refusalOfTwin", "(I)I"⟩, prog_2_method_8_code, 2, (Option.some Jvm.ClassFile.FieldType.int), 3, 74, [])
abbrev mC_insert : xM := (⟨"FaceZones$Crystal", "insert", "(IIII)V"⟩, prog_2_method_9_code, 5, (none), 2, 50, [])
abbrev mC_insertTwin : xM := (⟨"FaceZones$Crystal", "insertTwin", "(I)V"⟩, prog_2_method_10_code, 2, (none), 3, 74, [])
abbrev mC_dropAt : xM := (⟨"FaceZones$Crystal", "dropAt", "(I)V"⟩, prog_2_method_11_code, 3, (none), 1, 21, [])
abbrev mC_aimTwin : xM := (⟨"FaceZones$Crystal", "aimTwin", "(III)V"⟩, prog_2_method_12_code, 4, (none), 2, 50, [])
abbrev mC_areOfOneForm : xM := (⟨"FaceZones$Crystal", "areOfOneForm", "(II)Z"⟩, prog_2_method_13_code, 3, (Option.some Jvm.ClassFile.FieldType.boolean), 3, 78, [])
abbrev mC_putDirection : xM := (⟨"FaceZones$Crystal", "putDirection", "(ILFaceZones$Triple;)V"⟩, prog_2_method_14_code, 5, (none), 2, 50, [])
abbrev mX_init : xM := (⟨"FaceZones$CrystalText", "<init>", "()V"⟩, prog_3_method_1_code, 1, (none), 1, 20, [])
abbrev mX_put : xM := (⟨"FaceZones$CrystalText", "put", "(I)V"⟩, prog_3_method_2_code, 2, (none), 0, 0, [])
abbrev mX_readInto : xM := (⟨"FaceZones$CrystalText", "readInto", "(LFaceZones$Crystal;)I"⟩, prog_3_method_3_code, 3, (Option.some Jvm.ClassFile.FieldType.int), 5, 117, [])
abbrev mX_isAt : xM := (⟨"FaceZones$CrystalText", "isAt", "(C)Z"⟩, prog_3_method_4_code, 2, (Option.some Jvm.ClassFile.FieldType.boolean), 0, 0, [])
abbrev mX_isDigitAt : xM := (⟨"FaceZones$CrystalText", "isDigitAt", "(II)Z"⟩, prog_3_method_5_code, 3, (Option.some Jvm.ClassFile.FieldType.boolean), 0, 0, [])
abbrev mX_takeDigit : xM := (⟨"FaceZones$CrystalText", "takeDigit", "()I"⟩, prog_3_method_6_code, 2, (Option.some Jvm.ClassFile.FieldType.int), 0, 0, [])
abbrev mX_readHead : xM := (⟨"FaceZones$CrystalText", "readHead", "(LFaceZones$Crystal;)Z"⟩, prog_3_method_7_code, 2, (Option.some Jvm.ClassFile.FieldType.boolean), 1, 22, [])
abbrev mX_readPart : xM := (⟨"FaceZones$CrystalText", "readPart", "(LFaceZones$Crystal;)Z"⟩, prog_3_method_8_code, 2, (Option.some Jvm.ClassFile.FieldType.boolean), 4, 96, [])
abbrev mX_readFace : xM := (⟨"FaceZones$CrystalText", "readFace", "(LFaceZones$Crystal;)Z"⟩, prog_3_method_9_code, 3, (Option.some Jvm.ClassFile.FieldType.boolean), 3, 74, [])
abbrev mX_readTwin : xM := (⟨"FaceZones$CrystalText", "readTwin", "(LFaceZones$Crystal;)Z"⟩, prog_3_method_10_code, 2, (Option.some Jvm.ClassFile.FieldType.boolean), 3, 73, [])
abbrev mX_readIndices : xM := (⟨"FaceZones$CrystalText", "readIndices", "(I)Z"⟩, prog_3_method_11_code, 6, (Option.some Jvm.ClassFile.FieldType.boolean), 1, 22, [])
abbrev mF_init : xM := (⟨"FaceZones$Form", "<init>", "()V"⟩, prog_4_method_1_code, 1, (none), 2, 40, [])
abbrev mF_make : xM := (⟨"FaceZones$Form", "make", "(LFaceZones$Crystal;I)V"⟩, prog_4_method_2_code, 6, (none), 3, 78, [])
abbrev mF_collectNumbers : xM := (⟨"FaceZones$Form", "collectNumbers", "()V"⟩, prog_4_method_3_code, 3, (none), 0, 0, [])
abbrev mF_takeCandidate : xM := (⟨"FaceZones$Form", "takeCandidate", "()V"⟩, prog_4_method_4_code, 1, (none), 0, 0, [])
abbrev mG_init : xM := (⟨"FaceZones$Growth", "<init>", "()V"⟩, prog_5_method_1_code, 5, (none), 2, 50, [])
abbrev mG_beginWith : xM := (⟨"FaceZones$Growth", "beginWith", "(LFaceZones$ZoneList;)V"⟩, prog_5_method_2_code, 3, (none), 3, 64, [])
abbrev mG_size : xM := (⟨"FaceZones$Growth", "size", "()I"⟩, prog_5_method_3_code, 3, (Option.some Jvm.ClassFile.FieldType.int), 0, 0, [])
abbrev mG_grow : xM := (⟨"FaceZones$Growth", "grow", "()V"⟩, prog_5_method_4_code, 3, (none), 3, 68, [])
abbrev mG_countLine : xM := (⟨"FaceZones$Growth", "countLine", "()V"⟩, prog_5_method_5_code, 2, (none), 2, 47, [])
abbrev mH_init : xM := (⟨"FaceZones$History", "<init>", "()V"⟩, prog_6_method_1_code, 2, (none), 3, 60, [])
abbrev mH_push : xM := (⟨"FaceZones$History", "push", "(LFaceZones$Crystal;)V"⟩, prog_6_method_2_code, 2, (none), 2, 61, [])
abbrev mH_popInto : xM := (⟨"FaceZones$History", "popInto", "(LFaceZones$Crystal;)V"⟩, prog_6_method_3_code, 2, (none), 2, 61, [])
abbrev mT_init : xM := (⟨"FaceZones$Triple", "<init>", "()V"⟩, prog_7_method_1_code, 1, (none), 1, 20, [])
abbrev mT_put : xM := (⟨"FaceZones$Triple", "put", "(JJJ)V"⟩, prog_7_method_2_code, 7, (none), 0, 0, [])
abbrev mT_copyFrom : xM := (⟨"FaceZones$Triple", "copyFrom", "(LFaceZones$Triple;)V"⟩, prog_7_method_3_code, 2, (none), 1, 26, [])
abbrev mT_putCross : xM := (⟨"FaceZones$Triple", "putCross", "(LFaceZones$Triple;LFaceZones$Triple;)V"⟩, prog_7_method_4_code, 3, (none), 1, 26, [])
abbrev mT_shorten : xM := (⟨"FaceZones$Triple", "shorten", "()V"⟩, prog_7_method_5_code, 1, (none), 1, 30, [])
abbrev mT_normalize : xM := (⟨"FaceZones$Triple", "normalize", "()V"⟩, prog_7_method_6_code, 3, (none), 1, 30, [])
abbrev mT_divideBy : xM := (⟨"FaceZones$Triple", "divideBy", "(J)V"⟩, prog_7_method_7_code, 3, (none), 0, 0, [])
abbrev mT_isNormalized : xM := (⟨"FaceZones$Triple", "isNormalized", "()Z"⟩, prog_7_method_8_code, 1, (Option.some Jvm.ClassFile.FieldType.boolean), 1, 30, [])
abbrev mT_leadsPositive : xM := (⟨"FaceZones$Triple", "leadsPositive", "()Z"⟩, prog_7_method_9_code, 1, (Option.some Jvm.ClassFile.FieldType.boolean), 0, 0, [])
abbrev mT_isZero : xM := (⟨"FaceZones$Triple", "isZero", "()Z"⟩, prog_7_method_10_code, 1, (Option.some Jvm.ClassFile.FieldType.boolean), 0, 0, [])
abbrev mT_dot : xM := (⟨"FaceZones$Triple", "dot", "(LFaceZones$Triple;)J"⟩, prog_7_method_11_code, 2, (Option.some Jvm.ClassFile.FieldType.long), 0, 0, [])
abbrev mT_sumOfSizes : xM := (⟨"FaceZones$Triple", "sumOfSizes", "()J"⟩, prog_7_method_12_code, 1, (Option.some Jvm.ClassFile.FieldType.long), 1, 21, [])
abbrev mT_isSameAs : xM := (⟨"FaceZones$Triple", "isSameAs", "(LFaceZones$Triple;)Z"⟩, prog_7_method_13_code, 2, (Option.some Jvm.ClassFile.FieldType.boolean), 0, 0, [])
abbrev mT_isParallelTo : xM := (⟨"FaceZones$Triple", "isParallelTo", "(LFaceZones$Triple;)Z"⟩, prog_7_method_14_code, 2, (Option.some Jvm.ClassFile.FieldType.boolean), 1, 21, [])
abbrev mT_isEquivalentTo : xM := (⟨"FaceZones$Triple", "isEquivalentTo", "(LFaceZones$Triple;I)Z"⟩, prog_7_method_15_code, 4, (Option.some Jvm.ClassFile.FieldType.boolean), 2, 55, [])
abbrev mT_isEquivalentBySizes : xM := (⟨"FaceZones$Triple", "isEquivalentBySizes", "(LFaceZones$Triple;I)Z"⟩, prog_7_method_16_code, 15, (Option.some Jvm.ClassFile.FieldType.boolean), 1, 21, [])
abbrev mZ_init : xM := (⟨"FaceZones$ZoneList", "<init>", "()V"⟩, prog_8_method_1_code, 2, (none), 2, 40, [])
abbrev mZ_aim : xM := (⟨"FaceZones$ZoneList", "aim", "(LFaceZones$Crystal;)V"⟩, prog_8_method_2_code, 3, (none), 3, 74, [])
abbrev mZ_gather : xM := (⟨"FaceZones$ZoneList", "gather", "(LFaceZones$Crystal;)V"⟩, prog_8_method_3_code, 4, (none), 4, 96, [])
abbrev mZ_take : xM := (⟨"FaceZones$ZoneList", "take", "(III)V"⟩, prog_8_method_4_code, 6, (none), 2, 52, [])
abbrev mZ_membersOf : xM := (⟨"FaceZones$ZoneList", "membersOf", "(LFaceZones$Triple;)I"⟩, prog_8_method_5_code, 4, (Option.some Jvm.ClassFile.FieldType.int), 1, 21, [])
abbrev mZ_sort : xM := (⟨"FaceZones$ZoneList", "sort", "()V"⟩, prog_8_method_6_code, 5, (none), 3, 67, [])
abbrev mZ_comesBefore : xM := (⟨"FaceZones$ZoneList", "comesBefore", "(LFaceZones$Triple;ILFaceZones$Triple;I)Z"⟩, prog_8_method_7_code, 7, (Option.some Jvm.ClassFile.FieldType.boolean), 2, 41, [])
abbrev mZ_longest : xM := (⟨"FaceZones$ZoneList", "longest", "()I"⟩, prog_8_method_8_code, 3, (Option.some Jvm.ClassFile.FieldType.int), 1, 21, [])
abbrev mZ_countThrough : xM := (⟨"FaceZones$ZoneList", "countThrough", "(I)I"⟩, prog_8_method_9_code, 4, (Option.some Jvm.ClassFile.FieldType.int), 0, 0, [])
abbrev mZ_numberOf : xM := (⟨"FaceZones$ZoneList", "numberOf", "(II)I"⟩, prog_8_method_10_code, 5, (Option.some Jvm.ClassFile.FieldType.int), 2, 42, [])
abbrev mZ_firstParallelTo : xM := (⟨"FaceZones$ZoneList", "firstParallelTo", "(LFaceZones$Triple;)I"⟩, prog_8_method_11_code, 3, (Option.some Jvm.ClassFile.FieldType.int), 2, 42, [])
abbrev mZ_countDirections : xM := (⟨"FaceZones$ZoneList", "countDirections", "()I"⟩, prog_8_method_12_code, 3, (Option.some Jvm.ClassFile.FieldType.int), 3, 64, [])
abbrev mL_append : xM := (⟨"FaceZonesLaw", "append", "(LFaceZones;I[J)I"⟩, method_3_code, 4, (Option.some Jvm.ClassFile.FieldType.int), 8, 133, [((0 : Nat), (9 : Nat), (12 : Nat), (13 : Nat)), ((0 : Nat), (9 : Nat), (15 : Nat), (15 : Nat))])
abbrev mL_load : xM := (⟨"FaceZonesLaw", "load", "(LFaceZones;[J)I"⟩, method_4_code, 3, (Option.some Jvm.ClassFile.FieldType.int), 7, 160, [((0 : Nat), (8 : Nat), (11 : Nat), (15 : Nat))])
abbrev mL_about : xM := (⟨"FaceZonesLaw", "about", "(LFaceZones;I[J)I"⟩, method_5_code, 4, (Option.some Jvm.ClassFile.FieldType.int), 7, 160, [((0 : Nat), (9 : Nat), (12 : Nat), (13 : Nat))])
abbrev mL_face : xM := (⟨"FaceZonesLaw", "face", "(LFaceZones;II[J)I"⟩, method_6_code, 5, (Option.some Jvm.ClassFile.FieldType.int), 8, 161, [((0 : Nat), (10 : Nat), (13 : Nat), (28 : Nat)), ((0 : Nat), (10 : Nat), (17 : Nat), (13 : Nat))])
abbrev mL_zone : xM := (⟨"FaceZonesLaw", "zone", "(LFaceZones;II[J)I"⟩, method_7_code, 5, (Option.some Jvm.ClassFile.FieldType.int), 8, 162, [((0 : Nat), (10 : Nat), (13 : Nat), (28 : Nat)), ((0 : Nat), (10 : Nat), (17 : Nat), (13 : Nat))])
abbrev mL_zoneOf : xM := (⟨"FaceZonesLaw", "zoneOf", "(LFaceZones;II[J)I"⟩, method_8_code, 5, (Option.some Jvm.ClassFile.FieldType.int), 8, 161, [((0 : Nat), (10 : Nat), (13 : Nat), (28 : Nat))])
abbrev mL_inZone : xM := (⟨"FaceZonesLaw", "inZone", "(LFaceZones;III[J)I"⟩, method_9_code, 6, (Option.some Jvm.ClassFile.FieldType.int), 8, 162, [((0 : Nat), (12 : Nat), (15 : Nat), (13 : Nat))])
abbrev mL_cross : xM := (⟨"FaceZonesLaw", "cross", "(LFaceZones;III[J)I"⟩, method_10_code, 6, (Option.some Jvm.ClassFile.FieldType.int), 8, 163, [((0 : Nat), (11 : Nat), (14 : Nat), (28 : Nat)), ((0 : Nat), (11 : Nat), (18 : Nat), (13 : Nat))])
abbrev mL_angle : xM := (⟨"FaceZonesLaw", "angle", "(LFaceZones;II[J)I"⟩, method_11_code, 5, (Option.some Jvm.ClassFile.FieldType.int), 8, 168, [((0 : Nat), (10 : Nat), (13 : Nat), (28 : Nat))])
abbrev mL_sameForm : xM := (⟨"FaceZonesLaw", "sameForm", "(LFaceZones;II[J)I"⟩, method_12_code, 5, (Option.some Jvm.ClassFile.FieldType.int), 8, 133, [((0 : Nat), (17 : Nat), (20 : Nat), (28 : Nat))])
abbrev mL_addFace : xM := (⟨"FaceZonesLaw", "addFace", "(LFaceZones;IIII[J)I"⟩, method_13_code, 7, (Option.some Jvm.ClassFile.FieldType.int), 9, 160, [((0 : Nat), (14 : Nat), (17 : Nat), (13 : Nat)), ((0 : Nat), (14 : Nat), (21 : Nat), (15 : Nat))])
abbrev mL_addForm : xM := (⟨"FaceZonesLaw", "addForm", "(LFaceZones;I[J)I"⟩, method_14_code, 4, (Option.some Jvm.ClassFile.FieldType.int), 8, 149, [((0 : Nat), (9 : Nat), (12 : Nat), (28 : Nat)), ((0 : Nat), (9 : Nat), (15 : Nat), (15 : Nat))])
abbrev mL_twin : xM := (⟨"FaceZonesLaw", "twin", "(LFaceZones;I[J)I"⟩, method_15_code, 4, (Option.some Jvm.ClassFile.FieldType.int), 8, 132, [((0 : Nat), (9 : Nat), (12 : Nat), (28 : Nat)), ((0 : Nat), (9 : Nat), (15 : Nat), (15 : Nat))])
abbrev mL_remove : xM := (⟨"FaceZonesLaw", "remove", "(LFaceZones;I[J)I"⟩, method_16_code, 4, (Option.some Jvm.ClassFile.FieldType.int), 8, 132, [((0 : Nat), (9 : Nat), (12 : Nat), (28 : Nat))])
abbrev mL_setSystem : xM := (⟨"FaceZonesLaw", "setSystem", "(LFaceZones;I[J)I"⟩, method_17_code, 4, (Option.some Jvm.ClassFile.FieldType.int), 8, 134, [((0 : Nat), (9 : Nat), (12 : Nat), (13 : Nat))])
abbrev mL_setLeast : xM := (⟨"FaceZonesLaw", "setLeast", "(LFaceZones;I[J)I"⟩, method_18_code, 4, (Option.some Jvm.ClassFile.FieldType.int), 8, 160, [((0 : Nat), (9 : Nat), (12 : Nat), (13 : Nat))])
abbrev mL_setTwin : xM := (⟨"FaceZonesLaw", "setTwin", "(LFaceZones;III[J)I"⟩, method_19_code, 6, (Option.some Jvm.ClassFile.FieldType.int), 7, 162, [((0 : Nat), (12 : Nat), (15 : Nat), (13 : Nat))])
abbrev mL_undo : xM := (⟨"FaceZonesLaw", "undo", "(LFaceZones;[J)I"⟩, method_20_code, 3, (Option.some Jvm.ClassFile.FieldType.int), 7, 110, [((0 : Nat), (8 : Nat), (11 : Nat), (15 : Nat))])
abbrev mL_whyNot : xM := (⟨"FaceZonesLaw", "whyNot", "(LFaceZones;IIII[J)I"⟩, method_21_code, 7, (Option.some Jvm.ClassFile.FieldType.int), 9, 159, [((0 : Nat), (14 : Nat), (17 : Nat), (13 : Nat))])
abbrev mL_grown : xM := (⟨"FaceZonesLaw", "grown", "(LFaceZones;I[J)I"⟩, method_22_code, 4, (Option.some Jvm.ClassFile.FieldType.int), 8, 161, [((0 : Nat), (9 : Nat), (12 : Nat), (13 : Nat))])
abbrev mL_runScript : xM := (⟨"FaceZonesLaw", "runScript", "(LFaceZones;IJ[J)I"⟩, method_23_code, 6, (Option.some Jvm.ClassFile.FieldType.int), 8, 200, [((0 : Nat), (11 : Nat), (14 : Nat), (13 : Nat))])
abbrev mL_simulate : xM := (⟨"FaceZonesLaw", "simulate", "(LFaceZones;JI[J)I"⟩, method_24_code, 6, (Option.some Jvm.ClassFile.FieldType.int), 8, 145, [((0 : Nat), (11 : Nat), (14 : Nat), (13 : Nat))])
abbrev mL_save : xM := (⟨"FaceZonesLaw", "save", "(LFaceZones;I[J)I"⟩, method_25_code, 4, (Option.some Jvm.ClassFile.FieldType.int), 8, 131, [((0 : Nat), (9 : Nat), (12 : Nat), (28 : Nat))])
abbrev mL_restore : xM := (⟨"FaceZonesLaw", "restore", "(LFaceZones;I[J)I"⟩, method_26_code, 4, (Option.some Jvm.ClassFile.FieldType.int), 8, 131, [((0 : Nat), (9 : Nat), (12 : Nat), (28 : Nat)), ((0 : Nat), (9 : Nat), (15 : Nat), (15 : Nat))])
abbrev mI_bitCount : xM := (⟨"java/lang/Integer", "bitCount", "(I)I"⟩, prog_15_method_49_code, 1, (Option.some Jvm.ClassFile.FieldType.int), 0, 0, [])
abbrev mL_law : xM := (x, code, maxLocals, ret, 10, 259, [])
/-- a decoded instruction and the place behind it -/
def xD (M : xM) (pc pc2 len : Nat) (i : Instr) : Prop := decode M.2.1 pc = .ok (i, len) ∧ pc + len = pc2
def xDJ (M : xM) (pc pc2 tgt : Nat) (f : Int → Instr) : Prop := ∃ off : Int, decode M.2.1 pc = .ok (f off, 3) ∧ pc + 3 = pc2 ∧ (pc : Int) + off = (tgt : Int)
def xlB (own : String) (idx : Nat) (Y : xM) (na : Nat) : Prop := (Cond.methodLink own idx Y.1 ∈ xTB ∧ Cond.initialized Y.1.cls ∈ xTB ∧ Cond.code Y.1 Y.2.1 Y.2.2.1 Y.2.2.2.1 ∈ xTB) ∧ (Y.1.cls ≠ "java/lang/invoke/MethodHandle" ∧ Y.1.cls ≠ "java/lang/invoke/VarHandle" ∧ (parseMethodDescriptor Y.1.desc).map (fun d => d.parameters.length) = some na)
def xlV (own : String) (idx : Nat) (Y : xM) (na ci : Nat) : Prop := xlB own idx Y na ∧ (Cond.instanceMethod Y.1 ∈ xTB ∧ Cond.selects Y.1.cls Y.1 Y.1 ∈ xTB) ∧ (vwCl[ci]?).map (fun q => q.1) = some Y.1.cls
def xlS (own : String) (idx : Nat) (Y : xM) (na : Nat) : Prop := xlB own idx Y na ∧ Cond.static Y.1 ∈ xTB
def xlI (own : String) (idx : Nat) (Y : xM) (na : Nat) : Prop := xlB own idx Y na ∧ Cond.instanceMethod Y.1 ∈ xTB ∧ Y.1.name = "<init>" ∧ Y.2.2.2.1 = none
def xNW : List Cond := [Jvm.Cond.methodLinkNest "FaceZones" (9 : Nat) ({ cls := "FaceZones$CrystalText", name := "<init>", desc := "()V" } : Jvm.MethodName) "FaceZones", Jvm.Cond.methodLinkNest "FaceZones" (18 : Nat) ({ cls := "FaceZones$Crystal", name := "<init>", desc := "()V" } : Jvm.MethodName) "FaceZones", Jvm.Cond.methodLinkNest "FaceZones$Crystal" (45 : Nat) ({ cls := "FaceZones$Triple", name := "<init>", desc := "()V" } : Jvm.MethodName) "FaceZones", Jvm.Cond.methodLinkNest "FaceZones$History" (24 : Nat) ({ cls := "FaceZones$Crystal", name := "<init>", desc := "()V" } : Jvm.MethodName) "FaceZones", Jvm.Cond.methodLinkNest "FaceZones$ZoneList" (34 : Nat) ({ cls := "FaceZones$Triple", name := "<init>", desc := "()V" } : Jvm.MethodName) "FaceZones", Jvm.Cond.methodLinkNest "FaceZones" (53 : Nat) ({ cls := "FaceZones$Form", name := "<init>", desc := "()V" } : Jvm.MethodName) "FaceZones", Jvm.Cond.methodLinkNest "FaceZones$Form" (33 : Nat) ({ cls := "FaceZones$Triple", name := "<init>", desc := "()V" } : Jvm.MethodName) "FaceZones", Jvm.Cond.methodLinkNest "FaceZones$Growth" (28 : Nat) ({ cls := "FaceZones$Triple", name := "<init>", desc := "()V" } : Jvm.MethodName) "FaceZones", Jvm.Cond.methodLinkNest "FaceZones$Triple" (23 : Nat) ({ cls := "FaceZones", name := "commonDivisor", desc := "(JJ)J" } : Jvm.MethodName) "FaceZones", Jvm.Cond.methodLinkNest "FaceZones" (67 : Nat) ({ cls := "FaceZones$Triple", name := "<init>", desc := "()V" } : Jvm.MethodName) "FaceZones", Jvm.Cond.castable "java/lang/IllegalArgumentException" "java/lang/IllegalArgumentException", Jvm.Cond.declares ({ cls := "java/lang/RuntimeException", name := "<init>", desc := "()V" } : Jvm.MethodName), Jvm.Cond.declares ({ cls := "java/lang/RuntimeException", name := "<init>", desc := "(Ljava/lang/String;)V" } : Jvm.MethodName), Jvm.Cond.declares ({ cls := "java/lang/Exception", name := "<init>", desc := "()V" } : Jvm.MethodName), Jvm.Cond.declares ({ cls := "java/lang/Exception", name := "<init>", desc := "(Ljava/lang/String;)V" } : Jvm.MethodName), Jvm.Cond.declares ({ cls := "java/lang/Throwable", name := "<init>", desc := "()V" } : Jvm.MethodName), Jvm.Cond.declares ({ cls := "java/lang/Throwable", name := "<init>", desc := "(Ljava/lang/String;)V" } : Jvm.MethodName), Jvm.Cond.castable "java/lang/IllegalStateException" "java/lang/IllegalStateException", Jvm.Cond.castable "java/lang/IndexOutOfBoundsException" "java/lang/IndexOutOfBoundsException"]
theorem xNW_in : ∀ w ∈ xNW, w ∈ lw_tbl := by
  have h : xNW = [104, 128, 134, 222, 242, 269, 274, 311, 324, 349, 563, 564, 565, 566, 567, 568, 569, 631, 715].filterMap (fun i => lw_tbl[i]?) := by decide +kernel
  intro w hw
  rw [h] at hw
  obtain ⟨i, -, hi⟩ := List.mem_filterMap.mp hw
  exact List.mem_of_getElem? hi
theorem xNW_warm : ∀ w ∈ xNW, ∀ s U : State, s.WarmedH U.vm → va_Nw w s → va_Nw w U := by
  intro w hw s U hW h
  simp only [xNW, List.mem_cons, List.mem_nil_iff, or_false] at hw
  rcases hw with rfl | rfl | rfl | rfl | rfl | rfl | rfl | rfl | rfl | rfl | rfl | rfl | rfl | rfl | rfl | rfl | rfl | rfl | rfl <;> first | exact va_Nw.warmM hW h | exact va_Nw.warmD hW h | exact va_Nw.warmC hW h
theorem xNW_tab : ∀ w ∈ xNW, w.onTables = true := by decide +kernel
def xlN (own : String) (idx : Nat) (Y : xM) (na : Nat) (host : String) : Prop := (Cond.methodLinkNest own idx Y.1 host ∈ xNW ∧ Cond.initialized Y.1.cls ∈ xTB ∧ Cond.code Y.1 Y.2.1 Y.2.2.1 Y.2.2.2.1 ∈ xTB) ∧ (Y.1.cls ≠ "java/lang/invoke/MethodHandle" ∧ Y.1.cls ≠ "java/lang/invoke/VarHandle" ∧ (parseMethodDescriptor Y.1.desc).map (fun d => d.parameters.length) = some na) ∧ Cond.instanceMethod Y.1 ∈ xTB ∧ Y.1.name = "<init>" ∧ Y.2.2.2.1 = none
def xlNS (own : String) (idx : Nat) (Y : xM) (na : Nat) (host : String) : Prop := (Cond.methodLinkNest own idx Y.1 host ∈ xNW ∧ Cond.initialized Y.1.cls ∈ xTB ∧ Cond.code Y.1 Y.2.1 Y.2.2.1 Y.2.2.2.1 ∈ xTB) ∧ (Y.1.cls ≠ "java/lang/invoke/MethodHandle" ∧ Y.1.cls ≠ "java/lang/invoke/VarHandle" ∧ (parseMethodDescriptor Y.1.desc).map (fun d => d.parameters.length) = some na) ∧ Cond.static Y.1 ∈ xTB
set_option maxRecDepth 100000 in
theorem lkA_9 : xlN "FaceZones" 9 mX_init 0 "FaceZones" := ⟨⟨(List.mem_of_getElem? (i := 0) rfl), (xTB_s1 _ 2 (by decide +kernel) rfl), (xTB_s1 _ 31 (by decide +kernel) rfl)⟩, ⟨by decide +kernel, by decide +kernel, by decide +kernel⟩, (xTB_s1 _ 30 (by decide +kernel) rfl), rfl, rfl⟩
set_option maxRecDepth 100000 in
theorem lkA_18 : xlN "FaceZones" 18 mC_init 0 "FaceZones" := ⟨⟨(List.mem_of_getElem? (i := 1) rfl), (xTB_s1 _ 3 (by decide +kernel) rfl), (xTB_s1 _ 55 (by decide +kernel) rfl)⟩, ⟨by decide +kernel, by decide +kernel, by decide +kernel⟩, (xTB_s1 _ 54 (by decide +kernel) rfl), rfl, rfl⟩
set_option maxRecDepth 100000 in
theorem lkA_28 : xlI "FaceZones" 28 mH_init 0 := ⟨⟨⟨(xTB_s1 _ 141 (by decide +kernel) rfl), (xTB_s1 _ 5 (by decide +kernel) rfl), (xTB_s1 _ 143 (by decide +kernel) rfl)⟩, ⟨by decide +kernel, by decide +kernel, by decide +kernel⟩⟩, (xTB_s1 _ 142 (by decide +kernel) rfl), rfl, rfl⟩
set_option maxRecDepth 100000 in
theorem lkA_43 : xlI "FaceZones" 43 mZ_init 0 := ⟨⟨⟨(xTB_s1 _ 161 (by decide +kernel) rfl), (xTB_s1 _ 6 (by decide +kernel) rfl), (xTB_s1 _ 163 (by decide +kernel) rfl)⟩, ⟨by decide +kernel, by decide +kernel, by decide +kernel⟩⟩, (xTB_s1 _ 162 (by decide +kernel) rfl), rfl, rfl⟩
set_option maxRecDepth 100000 in
theorem lkA_53 : xlN "FaceZones" 53 mF_init 0 "FaceZones" := ⟨⟨(List.mem_of_getElem? (i := 5) rfl), (xTB_s1 _ 7 (by decide +kernel) rfl), (xTB_s1 _ 196 (by decide +kernel) rfl)⟩, ⟨by decide +kernel, by decide +kernel, by decide +kernel⟩, (xTB_s1 _ 195 (by decide +kernel) rfl), rfl, rfl⟩
set_option maxRecDepth 100000 in
theorem lkA_60 : xlI "FaceZones" 60 mG_init 0 := ⟨⟨⟨(xTB_s1 _ 231 (by decide +kernel) rfl), (xTB_s1 _ 8 (by decide +kernel) rfl), (xTB_s1 _ 233 (by decide +kernel) rfl)⟩, ⟨by decide +kernel, by decide +kernel, by decide +kernel⟩⟩, (xTB_s1 _ 232 (by decide +kernel) rfl), rfl, rfl⟩
set_option maxRecDepth 100000 in
theorem lkA_67 : xlN "FaceZones" 67 mT_init 0 "FaceZones" := ⟨⟨(List.mem_of_getElem? (i := 9) rfl), (xTB_s1 _ 4 (by decide +kernel) rfl), (xTB_s1 _ 61 (by decide +kernel) rfl)⟩, ⟨by decide +kernel, by decide +kernel, by decide +kernel⟩, (xTB_s1 _ 60 (by decide +kernel) rfl), rfl, rfl⟩
set_option maxRecDepth 100000 in
theorem lkA_76 : xlS "FaceZones" 76 mA_requireRange 3 := ⟨⟨⟨(xTB_s3 _ 0 (by decide +kernel) rfl), (xTB_s1 _ 1 (by decide +kernel) rfl), (xTB_s3 _ 2 (by decide +kernel) rfl)⟩, ⟨by decide +kernel, by decide +kernel, by decide +kernel⟩⟩, (xTB_s3 _ 1 (by decide +kernel) rfl)⟩
set_option maxRecDepth 100000 in
theorem lkA_91 : xlV "FaceZones" 91 mX_put 1 1 := ⟨⟨⟨(xTB_s3 _ 90 (by decide +kernel) rfl), (xTB_s1 _ 2 (by decide +kernel) rfl), (xTB_s3 _ 93 (by decide +kernel) rfl)⟩, ⟨by decide +kernel, by decide +kernel, by decide +kernel⟩⟩, ⟨(xTB_s3 _ 91 (by decide +kernel) rfl), (xTB_s3 _ 92 (by decide +kernel) rfl)⟩, by decide +kernel⟩
set_option maxRecDepth 100000 in
theorem lkA_95 : xlV "FaceZones" 95 mX_readInto 1 1 := ⟨⟨⟨(xTB_s2 _ 80 (by decide +kernel) rfl), (xTB_s1 _ 2 (by decide +kernel) rfl), (xTB_s2 _ 83 (by decide +kernel) rfl)⟩, ⟨by decide +kernel, by decide +kernel, by decide +kernel⟩⟩, ⟨(xTB_s2 _ 81 (by decide +kernel) rfl), (xTB_s2 _ 82 (by decide +kernel) rfl)⟩, by decide +kernel⟩
set_option maxRecDepth 100000 in
theorem lkA_102 : xlV "FaceZones" 102 mA_replacePresent 1 7 := ⟨⟨⟨(xTB_s3 _ 102 (by decide +kernel) rfl), (xTB_s1 _ 1 (by decide +kernel) rfl), (xTB_s3 _ 105 (by decide +kernel) rfl)⟩, ⟨by decide +kernel, by decide +kernel, by decide +kernel⟩⟩, ⟨(xTB_s3 _ 104 (by decide +kernel) rfl), (xTB_s0 _ 12 (by decide +kernel) rfl)⟩, by decide +kernel⟩
set_option maxRecDepth 100000 in
theorem lkA_109 : xlV "FaceZones" 109 mC_countHalf 1 0 := ⟨⟨⟨(xTB_s3 _ 113 (by decide +kernel) rfl), (xTB_s1 _ 3 (by decide +kernel) rfl), (xTB_s3 _ 116 (by decide +kernel) rfl)⟩, ⟨by decide +kernel, by decide +kernel, by decide +kernel⟩⟩, ⟨(xTB_s3 _ 114 (by decide +kernel) rfl), (xTB_s3 _ 115 (by decide +kernel) rfl)⟩, by decide +kernel⟩
set_option maxRecDepth 100000 in
theorem lkA_119 : xlV "FaceZones" 119 mA_zonesNow 0 7 := ⟨⟨⟨(xTB_s3 _ 117 (by decide +kernel) rfl), (xTB_s1 _ 1 (by decide +kernel) rfl), (xTB_s3 _ 120 (by decide +kernel) rfl)⟩, ⟨by decide +kernel, by decide +kernel, by decide +kernel⟩⟩, ⟨(xTB_s3 _ 119 (by decide +kernel) rfl), (xTB_s0 _ 13 (by decide +kernel) rfl)⟩, by decide +kernel⟩
set_option maxRecDepth 100000 in
theorem lkA_124 : xlV "FaceZones" 124 mZ_countDirections 0 6 := ⟨⟨⟨(xTB_s3 _ 135 (by decide +kernel) rfl), (xTB_s1 _ 6 (by decide +kernel) rfl), (xTB_s3 _ 138 (by decide +kernel) rfl)⟩, ⟨by decide +kernel, by decide +kernel, by decide +kernel⟩⟩, ⟨(xTB_s3 _ 136 (by decide +kernel) rfl), (xTB_s3 _ 137 (by decide +kernel) rfl)⟩, by decide +kernel⟩
set_option maxRecDepth 100000 in
theorem lkA_128 : xlV "FaceZones" 128 mZ_longest 0 6 := ⟨⟨⟨(xTB_s2 _ 211 (by decide +kernel) rfl), (xTB_s1 _ 6 (by decide +kernel) rfl), (xTB_s2 _ 214 (by decide +kernel) rfl)⟩, ⟨by decide +kernel, by decide +kernel, by decide +kernel⟩⟩, ⟨(xTB_s2 _ 212 (by decide +kernel) rfl), (xTB_s2 _ 213 (by decide +kernel) rfl)⟩, by decide +kernel⟩
set_option maxRecDepth 100000 in
theorem lkA_145 : xlV "FaceZones" 145 mA_requireFace 1 7 := ⟨⟨⟨(xTB_s3 _ 153 (by decide +kernel) rfl), (xTB_s1 _ 1 (by decide +kernel) rfl), (xTB_s3 _ 156 (by decide +kernel) rfl)⟩, ⟨by decide +kernel, by decide +kernel, by decide +kernel⟩⟩, ⟨(xTB_s3 _ 155 (by decide +kernel) rfl), (xTB_s0 _ 14 (by decide +kernel) rfl)⟩, by decide +kernel⟩
set_option maxRecDepth 100000 in
theorem lkA_175 : xlV "FaceZones" 175 mZ_countThrough 1 6 := ⟨⟨⟨(xTB_s3 _ 174 (by decide +kernel) rfl), (xTB_s1 _ 6 (by decide +kernel) rfl), (xTB_s3 _ 177 (by decide +kernel) rfl)⟩, ⟨by decide +kernel, by decide +kernel, by decide +kernel⟩⟩, ⟨(xTB_s3 _ 175 (by decide +kernel) rfl), (xTB_s3 _ 176 (by decide +kernel) rfl)⟩, by decide +kernel⟩
set_option maxRecDepth 100000 in
theorem lkA_178 : xlV "FaceZones" 178 mA_countForm 1 7 := ⟨⟨⟨(xTB_s3 _ 178 (by decide +kernel) rfl), (xTB_s1 _ 1 (by decide +kernel) rfl), (xTB_s3 _ 181 (by decide +kernel) rfl)⟩, ⟨by decide +kernel, by decide +kernel, by decide +kernel⟩⟩, ⟨(xTB_s3 _ 180 (by decide +kernel) rfl), (xTB_s0 _ 15 (by decide +kernel) rfl)⟩, by decide +kernel⟩
set_option maxRecDepth 100000 in
theorem lkA_183 : xlS "FaceZones" 183 mA_requireZone 2 := ⟨⟨⟨(xTB_s3 _ 213 (by decide +kernel) rfl), (xTB_s1 _ 1 (by decide +kernel) rfl), (xTB_s3 _ 215 (by decide +kernel) rfl)⟩, ⟨by decide +kernel, by decide +kernel, by decide +kernel⟩⟩, (xTB_s3 _ 214 (by decide +kernel) rfl)⟩
set_option maxRecDepth 100000 in
theorem lkA_193 : xlS "FaceZones" 193 mI_bitCount 1 := ⟨⟨⟨(xTB_s3 _ 217 (by decide +kernel) rfl), (xTB_s1 _ 16 (by decide +kernel) rfl), (xTB_s2 _ 207 (by decide +kernel) rfl)⟩, ⟨by decide +kernel, by decide +kernel, by decide +kernel⟩⟩, (xTB_s2 _ 206 (by decide +kernel) rfl)⟩
set_option maxRecDepth 100000 in
theorem lkA_200 : xlV "FaceZones" 200 mZ_numberOf 2 6 := ⟨⟨⟨(xTB_s3 _ 226 (by decide +kernel) rfl), (xTB_s1 _ 6 (by decide +kernel) rfl), (xTB_s3 _ 229 (by decide +kernel) rfl)⟩, ⟨by decide +kernel, by decide +kernel, by decide +kernel⟩⟩, ⟨(xTB_s3 _ 227 (by decide +kernel) rfl), (xTB_s3 _ 228 (by decide +kernel) rfl)⟩, by decide +kernel⟩
set_option maxRecDepth 100000 in
theorem lkA_204 : xlV "FaceZones" 204 mT_put 3 5 := ⟨⟨⟨(xTB_s2 _ 162 (by decide +kernel) rfl), (xTB_s1 _ 4 (by decide +kernel) rfl), (xTB_s2 _ 0 (by decide +kernel) rfl)⟩, ⟨by decide +kernel, by decide +kernel, by decide +kernel⟩⟩, ⟨(xTB_s1 _ 238 (by decide +kernel) rfl), (xTB_s1 _ 239 (by decide +kernel) rfl)⟩, by decide +kernel⟩
set_option maxRecDepth 100000 in
theorem lkA_207 : xlV "FaceZones" 207 mT_isZero 0 5 := ⟨⟨⟨(xTB_s3 _ 237 (by decide +kernel) rfl), (xTB_s1 _ 4 (by decide +kernel) rfl), (xTB_s2 _ 124 (by decide +kernel) rfl)⟩, ⟨by decide +kernel, by decide +kernel, by decide +kernel⟩⟩, ⟨(xTB_s2 _ 122 (by decide +kernel) rfl), (xTB_s2 _ 123 (by decide +kernel) rfl)⟩, by decide +kernel⟩
set_option maxRecDepth 100000 in
theorem lkA_211 : xlV "FaceZones" 211 mZ_membersOf 1 6 := ⟨⟨⟨(xTB_s3 _ 238 (by decide +kernel) rfl), (xTB_s1 _ 6 (by decide +kernel) rfl), (xTB_s2 _ 200 (by decide +kernel) rfl)⟩, ⟨by decide +kernel, by decide +kernel, by decide +kernel⟩⟩, ⟨(xTB_s2 _ 198 (by decide +kernel) rfl), (xTB_s2 _ 199 (by decide +kernel) rfl)⟩, by decide +kernel⟩
set_option maxRecDepth 100000 in
theorem lkA_217 : xlV "FaceZones" 217 mT_putCross 2 5 := ⟨⟨⟨(xTB_s4 _ 7 (by decide +kernel) rfl), (xTB_s1 _ 4 (by decide +kernel) rfl), (xTB_s2 _ 192 (by decide +kernel) rfl)⟩, ⟨by decide +kernel, by decide +kernel, by decide +kernel⟩⟩, ⟨(xTB_s2 _ 190 (by decide +kernel) rfl), (xTB_s2 _ 191 (by decide +kernel) rfl)⟩, by decide +kernel⟩
set_option maxRecDepth 100000 in
theorem lkA_221 : xlV "FaceZones" 221 mT_normalize 0 5 := ⟨⟨⟨(xTB_s4 _ 8 (by decide +kernel) rfl), (xTB_s1 _ 4 (by decide +kernel) rfl), (xTB_s2 _ 196 (by decide +kernel) rfl)⟩, ⟨by decide +kernel, by decide +kernel, by decide +kernel⟩⟩, ⟨(xTB_s2 _ 194 (by decide +kernel) rfl), (xTB_s2 _ 195 (by decide +kernel) rfl)⟩, by decide +kernel⟩
set_option maxRecDepth 100000 in
theorem lkA_224 : xlV "FaceZones" 224 mZ_firstParallelTo 1 6 := ⟨⟨⟨(xTB_s4 _ 9 (by decide +kernel) rfl), (xTB_s1 _ 6 (by decide +kernel) rfl), (xTB_s3 _ 142 (by decide +kernel) rfl)⟩, ⟨by decide +kernel, by decide +kernel, by decide +kernel⟩⟩, ⟨(xTB_s3 _ 140 (by decide +kernel) rfl), (xTB_s3 _ 141 (by decide +kernel) rfl)⟩, by decide +kernel⟩
set_option maxRecDepth 100000 in
theorem lkA_229 : xlV "FaceZones" 229 mT_dot 1 5 := ⟨⟨⟨(xTB_s4 _ 18 (by decide +kernel) rfl), (xTB_s1 _ 4 (by decide +kernel) rfl), (xTB_s2 _ 204 (by decide +kernel) rfl)⟩, ⟨by decide +kernel, by decide +kernel, by decide +kernel⟩⟩, ⟨(xTB_s2 _ 202 (by decide +kernel) rfl), (xTB_s2 _ 203 (by decide +kernel) rfl)⟩, by decide +kernel⟩
set_option maxRecDepth 100000 in
theorem lkA_235 : xlV "FaceZones" 235 mC_areOfOneForm 2 0 := ⟨⟨⟨(xTB_s4 _ 27 (by decide +kernel) rfl), (xTB_s1 _ 3 (by decide +kernel) rfl), (xTB_s4 _ 30 (by decide +kernel) rfl)⟩, ⟨by decide +kernel, by decide +kernel, by decide +kernel⟩⟩, ⟨(xTB_s4 _ 28 (by decide +kernel) rfl), (xTB_s4 _ 29 (by decide +kernel) rfl)⟩, by decide +kernel⟩
set_option maxRecDepth 100000 in
theorem lkA_239 : xlS "FaceZones" 239 mA_requireFaceArguments 4 := ⟨⟨⟨(xTB_s4 _ 39 (by decide +kernel) rfl), (xTB_s1 _ 1 (by decide +kernel) rfl), (xTB_s4 _ 41 (by decide +kernel) rfl)⟩, ⟨by decide +kernel, by decide +kernel, by decide +kernel⟩⟩, (xTB_s4 _ 40 (by decide +kernel) rfl)⟩
set_option maxRecDepth 100000 in
theorem lkA_243 : xlV "FaceZones" 243 mC_refusalOf 4 0 := ⟨⟨⟨(xTB_s4 _ 42 (by decide +kernel) rfl), (xTB_s1 _ 3 (by decide +kernel) rfl), (xTB_s2 _ 119 (by decide +kernel) rfl)⟩, ⟨by decide +kernel, by decide +kernel, by decide +kernel⟩⟩, ⟨(xTB_s2 _ 117 (by decide +kernel) rfl), (xTB_s2 _ 118 (by decide +kernel) rfl)⟩, by decide +kernel⟩
set_option maxRecDepth 100000 in
theorem lkA_251 : xlV "FaceZones" 251 mA_remember 0 7 := ⟨⟨⟨(xTB_s4 _ 45 (by decide +kernel) rfl), (xTB_s1 _ 1 (by decide +kernel) rfl), (xTB_s4 _ 48 (by decide +kernel) rfl)⟩, ⟨by decide +kernel, by decide +kernel, by decide +kernel⟩⟩, ⟨(xTB_s4 _ 47 (by decide +kernel) rfl), (xTB_s0 _ 19 (by decide +kernel) rfl)⟩, by decide +kernel⟩
set_option maxRecDepth 100000 in
theorem lkA_254 : xlV "FaceZones" 254 mC_insert 4 0 := ⟨⟨⟨(xTB_s4 _ 57 (by decide +kernel) rfl), (xTB_s1 _ 3 (by decide +kernel) rfl), (xTB_s2 _ 141 (by decide +kernel) rfl)⟩, ⟨by decide +kernel, by decide +kernel, by decide +kernel⟩⟩, ⟨(xTB_s2 _ 139 (by decide +kernel) rfl), (xTB_s2 _ 140 (by decide +kernel) rfl)⟩, by decide +kernel⟩
set_option maxRecDepth 100000 in
theorem lkA_257 : xlV "FaceZones" 257 mA_countMissing 2 7 := ⟨⟨⟨(xTB_s4 _ 65 (by decide +kernel) rfl), (xTB_s1 _ 1 (by decide +kernel) rfl), (xTB_s4 _ 68 (by decide +kernel) rfl)⟩, ⟨by decide +kernel, by decide +kernel, by decide +kernel⟩⟩, ⟨(xTB_s4 _ 67 (by decide +kernel) rfl), (xTB_s0 _ 20 (by decide +kernel) rfl)⟩, by decide +kernel⟩
set_option maxRecDepth 100000 in
theorem lkA_263 : xlV "FaceZones" 263 mA_insertForm 2 7 := ⟨⟨⟨(xTB_s4 _ 71 (by decide +kernel) rfl), (xTB_s1 _ 1 (by decide +kernel) rfl), (xTB_s4 _ 74 (by decide +kernel) rfl)⟩, ⟨by decide +kernel, by decide +kernel, by decide +kernel⟩⟩, ⟨(xTB_s4 _ 73 (by decide +kernel) rfl), (xTB_s0 _ 21 (by decide +kernel) rfl)⟩, by decide +kernel⟩
set_option maxRecDepth 100000 in
theorem lkA_267 : xlV "FaceZones" 267 mC_refusalOfTwin 1 0 := ⟨⟨⟨(xTB_s4 _ 82 (by decide +kernel) rfl), (xTB_s1 _ 3 (by decide +kernel) rfl), (xTB_s4 _ 85 (by decide +kernel) rfl)⟩, ⟨by decide +kernel, by decide +kernel, by decide +kernel⟩⟩, ⟨(xTB_s4 _ 83 (by decide +kernel) rfl), (xTB_s4 _ 84 (by decide +kernel) rfl)⟩, by decide +kernel⟩
set_option maxRecDepth 100000 in
theorem lkA_270 : xlV "FaceZones" 270 mC_insertTwin 1 0 := ⟨⟨⟨(xTB_s4 _ 87 (by decide +kernel) rfl), (xTB_s1 _ 3 (by decide +kernel) rfl), (xTB_s4 _ 90 (by decide +kernel) rfl)⟩, ⟨by decide +kernel, by decide +kernel, by decide +kernel⟩⟩, ⟨(xTB_s4 _ 88 (by decide +kernel) rfl), (xTB_s4 _ 89 (by decide +kernel) rfl)⟩, by decide +kernel⟩
set_option maxRecDepth 100000 in
theorem lkA_273 : xlV "FaceZones" 273 mC_dropAt 1 0 := ⟨⟨⟨(xTB_s2 _ 223 (by decide +kernel) rfl), (xTB_s1 _ 3 (by decide +kernel) rfl), (xTB_s2 _ 226 (by decide +kernel) rfl)⟩, ⟨by decide +kernel, by decide +kernel, by decide +kernel⟩⟩, ⟨(xTB_s2 _ 224 (by decide +kernel) rfl), (xTB_s2 _ 225 (by decide +kernel) rfl)⟩, by decide +kernel⟩
set_option maxRecDepth 100000 in
theorem lkA_276 : xlS "FaceZones" 276 mA_isTwinPlane 3 := ⟨⟨⟨(xTB_s4 _ 120 (by decide +kernel) rfl), (xTB_s1 _ 1 (by decide +kernel) rfl), (xTB_s4 _ 122 (by decide +kernel) rfl)⟩, ⟨by decide +kernel, by decide +kernel, by decide +kernel⟩⟩, (xTB_s4 _ 121 (by decide +kernel) rfl)⟩
set_option maxRecDepth 100000 in
theorem lkA_282 : xlV "FaceZones" 282 mC_aimTwin 3 0 := ⟨⟨⟨(xTB_s2 _ 164 (by decide +kernel) rfl), (xTB_s1 _ 3 (by decide +kernel) rfl), (xTB_s2 _ 149 (by decide +kernel) rfl)⟩, ⟨by decide +kernel, by decide +kernel, by decide +kernel⟩⟩, ⟨(xTB_s2 _ 147 (by decide +kernel) rfl), (xTB_s2 _ 148 (by decide +kernel) rfl)⟩, by decide +kernel⟩
set_option maxRecDepth 100000 in
theorem lkA_288 : xlV "FaceZones" 288 mH_popInto 1 4 := ⟨⟨⟨(xTB_s4 _ 132 (by decide +kernel) rfl), (xTB_s1 _ 5 (by decide +kernel) rfl), (xTB_s4 _ 135 (by decide +kernel) rfl)⟩, ⟨by decide +kernel, by decide +kernel, by decide +kernel⟩⟩, ⟨(xTB_s4 _ 133 (by decide +kernel) rfl), (xTB_s4 _ 134 (by decide +kernel) rfl)⟩, by decide +kernel⟩
set_option maxRecDepth 100000 in
theorem lkA_291 : xlV "FaceZones" 291 mC_copyFrom 1 0 := ⟨⟨⟨(xTB_s2 _ 155 (by decide +kernel) rfl), (xTB_s1 _ 3 (by decide +kernel) rfl), (xTB_s2 _ 158 (by decide +kernel) rfl)⟩, ⟨by decide +kernel, by decide +kernel, by decide +kernel⟩⟩, ⟨(xTB_s2 _ 156 (by decide +kernel) rfl), (xTB_s2 _ 157 (by decide +kernel) rfl)⟩, by decide +kernel⟩
set_option maxRecDepth 100000 in
theorem lkA_294 : xlV "FaceZones" 294 mT_isNormalized 0 5 := ⟨⟨⟨(xTB_s2 _ 163 (by decide +kernel) rfl), (xTB_s1 _ 4 (by decide +kernel) rfl), (xTB_s2 _ 4 (by decide +kernel) rfl)⟩, ⟨by decide +kernel, by decide +kernel, by decide +kernel⟩⟩, ⟨(xTB_s2 _ 2 (by decide +kernel) rfl), (xTB_s2 _ 3 (by decide +kernel) rfl)⟩, by decide +kernel⟩
set_option maxRecDepth 100000 in
theorem lkA_297 : xlV "FaceZones" 297 mZ_gather 1 6 := ⟨⟨⟨(xTB_s2 _ 165 (by decide +kernel) rfl), (xTB_s1 _ 6 (by decide +kernel) rfl), (xTB_s2 _ 168 (by decide +kernel) rfl)⟩, ⟨by decide +kernel, by decide +kernel, by decide +kernel⟩⟩, ⟨(xTB_s2 _ 166 (by decide +kernel) rfl), (xTB_s2 _ 167 (by decide +kernel) rfl)⟩, by decide +kernel⟩
set_option maxRecDepth 100000 in
theorem lkA_300 : xlV "FaceZones" 300 mG_beginWith 1 3 := ⟨⟨⟨(xTB_s4 _ 150 (by decide +kernel) rfl), (xTB_s1 _ 8 (by decide +kernel) rfl), (xTB_s4 _ 153 (by decide +kernel) rfl)⟩, ⟨by decide +kernel, by decide +kernel, by decide +kernel⟩⟩, ⟨(xTB_s4 _ 151 (by decide +kernel) rfl), (xTB_s4 _ 152 (by decide +kernel) rfl)⟩, by decide +kernel⟩
set_option maxRecDepth 100000 in
theorem lkA_304 : xlV "FaceZones" 304 mG_grow 0 3 := ⟨⟨⟨(xTB_s4 _ 156 (by decide +kernel) rfl), (xTB_s1 _ 8 (by decide +kernel) rfl), (xTB_s4 _ 159 (by decide +kernel) rfl)⟩, ⟨by decide +kernel, by decide +kernel, by decide +kernel⟩⟩, ⟨(xTB_s4 _ 157 (by decide +kernel) rfl), (xTB_s4 _ 158 (by decide +kernel) rfl)⟩, by decide +kernel⟩
set_option maxRecDepth 100000 in
theorem lkA_307 : xlV "FaceZones" 307 mG_size 0 3 := ⟨⟨⟨(xTB_s4 _ 168 (by decide +kernel) rfl), (xTB_s1 _ 8 (by decide +kernel) rfl), (xTB_s4 _ 171 (by decide +kernel) rfl)⟩, ⟨by decide +kernel, by decide +kernel, by decide +kernel⟩⟩, ⟨(xTB_s4 _ 169 (by decide +kernel) rfl), (xTB_s4 _ 170 (by decide +kernel) rfl)⟩, by decide +kernel⟩
set_option maxRecDepth 100000 in
theorem lkA_314 : xlV "FaceZones" 314 mA_succeeds 1 7 := ⟨⟨⟨(xTB_s4 _ 181 (by decide +kernel) rfl), (xTB_s1 _ 1 (by decide +kernel) rfl), (xTB_s4 _ 184 (by decide +kernel) rfl)⟩, ⟨by decide +kernel, by decide +kernel, by decide +kernel⟩⟩, ⟨(xTB_s4 _ 183 (by decide +kernel) rfl), (xTB_s0 _ 23 (by decide +kernel) rfl)⟩, by decide +kernel⟩
set_option maxRecDepth 100000 in
theorem lkA_322 : xlV "FaceZones" 322 mA_simulateRound 1 7 := ⟨⟨⟨(xTB_s4 _ 238 (by decide +kernel) rfl), (xTB_s1 _ 1 (by decide +kernel) rfl), (xTB_s5 _ 1 (by decide +kernel) rfl)⟩, ⟨by decide +kernel, by decide +kernel, by decide +kernel⟩⟩, ⟨(xTB_s5 _ 0 (by decide +kernel) rfl), (xTB_s0 _ 34 (by decide +kernel) rfl)⟩, by decide +kernel⟩
set_option maxRecDepth 100000 in
theorem lkA_325 : xlS "FaceZones" 325 mA_requireSlot 1 := ⟨⟨⟨(xTB_s5 _ 9 (by decide +kernel) rfl), (xTB_s1 _ 1 (by decide +kernel) rfl), (xTB_s5 _ 11 (by decide +kernel) rfl)⟩, ⟨by decide +kernel, by decide +kernel, by decide +kernel⟩⟩, (xTB_s5 _ 10 (by decide +kernel) rfl)⟩
set_option maxRecDepth 100000 in
theorem lkA_330 : xlS "FaceZones" 330 mA_isWithin 3 := ⟨⟨⟨(xTB_s3 _ 3 (by decide +kernel) rfl), (xTB_s1 _ 1 (by decide +kernel) rfl), (xTB_s3 _ 5 (by decide +kernel) rfl)⟩, ⟨by decide +kernel, by decide +kernel, by decide +kernel⟩⟩, (xTB_s3 _ 4 (by decide +kernel) rfl)⟩
set_option maxRecDepth 100000 in
theorem lkA_335 : xlV "FaceZones" 335 mC_hasFace 1 0 := ⟨⟨⟨(xTB_s3 _ 157 (by decide +kernel) rfl), (xTB_s1 _ 3 (by decide +kernel) rfl), (xTB_s2 _ 230 (by decide +kernel) rfl)⟩, ⟨by decide +kernel, by decide +kernel, by decide +kernel⟩⟩, ⟨(xTB_s2 _ 228 (by decide +kernel) rfl), (xTB_s2 _ 229 (by decide +kernel) rfl)⟩, by decide +kernel⟩
set_option maxRecDepth 100000 in
theorem lkA_347 : xlV "FaceZones" 347 mH_push 1 4 := ⟨⟨⟨(xTB_s4 _ 49 (by decide +kernel) rfl), (xTB_s1 _ 5 (by decide +kernel) rfl), (xTB_s4 _ 52 (by decide +kernel) rfl)⟩, ⟨by decide +kernel, by decide +kernel, by decide +kernel⟩⟩, ⟨(xTB_s4 _ 50 (by decide +kernel) rfl), (xTB_s4 _ 51 (by decide +kernel) rfl)⟩, by decide +kernel⟩
set_option maxRecDepth 100000 in
theorem lkA_350 : xlV "FaceZones" 350 mZ_sort 0 6 := ⟨⟨⟨(xTB_s3 _ 121 (by decide +kernel) rfl), (xTB_s1 _ 6 (by decide +kernel) rfl), (xTB_s3 _ 124 (by decide +kernel) rfl)⟩, ⟨by decide +kernel, by decide +kernel, by decide +kernel⟩⟩, ⟨(xTB_s3 _ 122 (by decide +kernel) rfl), (xTB_s3 _ 123 (by decide +kernel) rfl)⟩, by decide +kernel⟩
set_option maxRecDepth 100000 in
theorem lkA_353 : xlV "FaceZones" 353 mF_make 2 2 := ⟨⟨⟨(xTB_s3 _ 182 (by decide +kernel) rfl), (xTB_s1 _ 7 (by decide +kernel) rfl), (xTB_s3 _ 185 (by decide +kernel) rfl)⟩, ⟨by decide +kernel, by decide +kernel, by decide +kernel⟩⟩, ⟨(xTB_s3 _ 183 (by decide +kernel) rfl), (xTB_s3 _ 184 (by decide +kernel) rfl)⟩, by decide +kernel⟩
set_option maxRecDepth 100000 in
theorem lkA_360 : xlV "FaceZones" 360 mC_find 4 0 := ⟨⟨⟨(xTB_s4 _ 69 (by decide +kernel) rfl), (xTB_s1 _ 3 (by decide +kernel) rfl), (xTB_s2 _ 136 (by decide +kernel) rfl)⟩, ⟨by decide +kernel, by decide +kernel, by decide +kernel⟩⟩, ⟨(xTB_s2 _ 134 (by decide +kernel) rfl), (xTB_s2 _ 135 (by decide +kernel) rfl)⟩, by decide +kernel⟩
set_option maxRecDepth 100000 in
theorem lkA_363 : xlV "FaceZones" 363 mA_addByScript 2 7 := ⟨⟨⟨(xTB_s4 _ 185 (by decide +kernel) rfl), (xTB_s1 _ 1 (by decide +kernel) rfl), (xTB_s4 _ 188 (by decide +kernel) rfl)⟩, ⟨by decide +kernel, by decide +kernel, by decide +kernel⟩⟩, ⟨(xTB_s4 _ 187 (by decide +kernel) rfl), (xTB_s0 _ 24 (by decide +kernel) rfl)⟩, by decide +kernel⟩
set_option maxRecDepth 100000 in
theorem lkA_366 : xlV "FaceZones" 366 mA_removeByScript 1 7 := ⟨⟨⟨(xTB_s4 _ 196 (by decide +kernel) rfl), (xTB_s1 _ 1 (by decide +kernel) rfl), (xTB_s4 _ 199 (by decide +kernel) rfl)⟩, ⟨by decide +kernel, by decide +kernel, by decide +kernel⟩⟩, ⟨(xTB_s4 _ 198 (by decide +kernel) rfl), (xTB_s0 _ 26 (by decide +kernel) rfl)⟩, by decide +kernel⟩
set_option maxRecDepth 100000 in
theorem lkA_369 : xlV "FaceZones" 369 mA_setSystemByScript 1 7 := ⟨⟨⟨(xTB_s4 _ 200 (by decide +kernel) rfl), (xTB_s1 _ 1 (by decide +kernel) rfl), (xTB_s4 _ 203 (by decide +kernel) rfl)⟩, ⟨by decide +kernel, by decide +kernel, by decide +kernel⟩⟩, ⟨(xTB_s4 _ 202 (by decide +kernel) rfl), (xTB_s0 _ 27 (by decide +kernel) rfl)⟩, by decide +kernel⟩
set_option maxRecDepth 100000 in
theorem lkA_372 : xlV "FaceZones" 372 mA_addFormByScript 1 7 := ⟨⟨⟨(xTB_s4 _ 204 (by decide +kernel) rfl), (xTB_s1 _ 1 (by decide +kernel) rfl), (xTB_s4 _ 207 (by decide +kernel) rfl)⟩, ⟨by decide +kernel, by decide +kernel, by decide +kernel⟩⟩, ⟨(xTB_s4 _ 206 (by decide +kernel) rfl), (xTB_s0 _ 28 (by decide +kernel) rfl)⟩, by decide +kernel⟩
set_option maxRecDepth 100000 in
theorem lkA_375 : xlV "FaceZones" 375 mA_setTwinByScript 1 7 := ⟨⟨⟨(xTB_s4 _ 208 (by decide +kernel) rfl), (xTB_s1 _ 1 (by decide +kernel) rfl), (xTB_s4 _ 211 (by decide +kernel) rfl)⟩, ⟨by decide +kernel, by decide +kernel, by decide +kernel⟩⟩, ⟨(xTB_s4 _ 210 (by decide +kernel) rfl), (xTB_s0 _ 29 (by decide +kernel) rfl)⟩, by decide +kernel⟩
set_option maxRecDepth 100000 in
theorem lkA_378 : xlV "FaceZones" 378 mA_hasInZone 2 7 := ⟨⟨⟨(xTB_s4 _ 212 (by decide +kernel) rfl), (xTB_s1 _ 1 (by decide +kernel) rfl), (xTB_s4 _ 215 (by decide +kernel) rfl)⟩, ⟨by decide +kernel, by decide +kernel, by decide +kernel⟩⟩, ⟨(xTB_s4 _ 214 (by decide +kernel) rfl), (xTB_s0 _ 30 (by decide +kernel) rfl)⟩, by decide +kernel⟩
set_option maxRecDepth 100000 in
theorem lkA_381 : xlV "FaceZones" 381 mA_hasZones 1 7 := ⟨⟨⟨(xTB_s4 _ 217 (by decide +kernel) rfl), (xTB_s1 _ 1 (by decide +kernel) rfl), (xTB_s4 _ 220 (by decide +kernel) rfl)⟩, ⟨by decide +kernel, by decide +kernel, by decide +kernel⟩⟩, ⟨(xTB_s4 _ 219 (by decide +kernel) rfl), (xTB_s0 _ 31 (by decide +kernel) rfl)⟩, by decide +kernel⟩
set_option maxRecDepth 100000 in
theorem lkA_384 : xlV "FaceZones" 384 mA_isSameForm 2 7 := ⟨⟨⟨(xTB_s4 _ 221 (by decide +kernel) rfl), (xTB_s1 _ 1 (by decide +kernel) rfl), (xTB_s4 _ 224 (by decide +kernel) rfl)⟩, ⟨by decide +kernel, by decide +kernel, by decide +kernel⟩⟩, ⟨(xTB_s4 _ 223 (by decide +kernel) rfl), (xTB_s0 _ 32 (by decide +kernel) rfl)⟩, by decide +kernel⟩
set_option maxRecDepth 100000 in
theorem lkA_387 : xlV "FaceZones" 387 mA_twinByScript 1 7 := ⟨⟨⟨(xTB_s4 _ 225 (by decide +kernel) rfl), (xTB_s1 _ 1 (by decide +kernel) rfl), (xTB_s4 _ 228 (by decide +kernel) rfl)⟩, ⟨by decide +kernel, by decide +kernel, by decide +kernel⟩⟩, ⟨(xTB_s4 _ 227 (by decide +kernel) rfl), (xTB_s0 _ 33 (by decide +kernel) rfl)⟩, by decide +kernel⟩
set_option maxRecDepth 100000 in
theorem lkA_390 : xlS "FaceZones" 390 mA_signed 1 := ⟨⟨⟨(xTB_s4 _ 193 (by decide +kernel) rfl), (xTB_s1 _ 1 (by decide +kernel) rfl), (xTB_s4 _ 195 (by decide +kernel) rfl)⟩, ⟨by decide +kernel, by decide +kernel, by decide +kernel⟩⟩, (xTB_s4 _ 194 (by decide +kernel) rfl)⟩
set_option maxRecDepth 100000 in
theorem lkA_393 : xlV "FaceZones" 393 mA_putSigned 1 7 := ⟨⟨⟨(xTB_s4 _ 189 (by decide +kernel) rfl), (xTB_s1 _ 1 (by decide +kernel) rfl), (xTB_s4 _ 192 (by decide +kernel) rfl)⟩, ⟨by decide +kernel, by decide +kernel, by decide +kernel⟩⟩, ⟨(xTB_s4 _ 191 (by decide +kernel) rfl), (xTB_s0 _ 25 (by decide +kernel) rfl)⟩, by decide +kernel⟩
set_option maxRecDepth 100000 in
theorem lkA_396 : xlV "FaceZones" 396 mZ_aim 1 6 := ⟨⟨⟨(xTB_s4 _ 216 (by decide +kernel) rfl), (xTB_s1 _ 6 (by decide +kernel) rfl), (xTB_s2 _ 172 (by decide +kernel) rfl)⟩, ⟨by decide +kernel, by decide +kernel, by decide +kernel⟩⟩, ⟨(xTB_s2 _ 170 (by decide +kernel) rfl), (xTB_s2 _ 171 (by decide +kernel) rfl)⟩, by decide +kernel⟩
set_option maxRecDepth 100000 in
theorem lkC_45 : xlN "FaceZones$Crystal" 45 mT_init 0 "FaceZones" := ⟨⟨(List.mem_of_getElem? (i := 2) rfl), (xTB_s1 _ 4 (by decide +kernel) rfl), (xTB_s1 _ 61 (by decide +kernel) rfl)⟩, ⟨by decide +kernel, by decide +kernel, by decide +kernel⟩, (xTB_s1 _ 60 (by decide +kernel) rfl), rfl, rfl⟩
set_option maxRecDepth 100000 in
theorem lkC_60 : xlV "FaceZones$Crystal" 60 mT_put 3 5 := ⟨⟨⟨(xTB_s2 _ 120 (by decide +kernel) rfl), (xTB_s1 _ 4 (by decide +kernel) rfl), (xTB_s2 _ 0 (by decide +kernel) rfl)⟩, ⟨by decide +kernel, by decide +kernel, by decide +kernel⟩⟩, ⟨(xTB_s1 _ 238 (by decide +kernel) rfl), (xTB_s1 _ 239 (by decide +kernel) rfl)⟩, by decide +kernel⟩
set_option maxRecDepth 100000 in
theorem lkC_64 : xlV "FaceZones$Crystal" 64 mT_isZero 0 5 := ⟨⟨⟨(xTB_s2 _ 121 (by decide +kernel) rfl), (xTB_s1 _ 4 (by decide +kernel) rfl), (xTB_s2 _ 124 (by decide +kernel) rfl)⟩, ⟨by decide +kernel, by decide +kernel, by decide +kernel⟩⟩, ⟨(xTB_s2 _ 122 (by decide +kernel) rfl), (xTB_s2 _ 123 (by decide +kernel) rfl)⟩, by decide +kernel⟩
set_option maxRecDepth 100000 in
theorem lkC_68 : xlV "FaceZones$Crystal" 68 mT_shorten 0 5 := ⟨⟨⟨(xTB_s2 _ 125 (by decide +kernel) rfl), (xTB_s1 _ 4 (by decide +kernel) rfl), (xTB_s2 _ 128 (by decide +kernel) rfl)⟩, ⟨by decide +kernel, by decide +kernel, by decide +kernel⟩⟩, ⟨(xTB_s2 _ 126 (by decide +kernel) rfl), (xTB_s2 _ 127 (by decide +kernel) rfl)⟩, by decide +kernel⟩
set_option maxRecDepth 100000 in
theorem lkC_81 : xlV "FaceZones$Crystal" 81 mC_find 4 0 := ⟨⟨⟨(xTB_s2 _ 133 (by decide +kernel) rfl), (xTB_s1 _ 3 (by decide +kernel) rfl), (xTB_s2 _ 136 (by decide +kernel) rfl)⟩, ⟨by decide +kernel, by decide +kernel, by decide +kernel⟩⟩, ⟨(xTB_s2 _ 134 (by decide +kernel) rfl), (xTB_s2 _ 135 (by decide +kernel) rfl)⟩, by decide +kernel⟩
set_option maxRecDepth 100000 in
theorem lkC_85 : xlV "FaceZones$Crystal" 85 mC_refusalOf 4 0 := ⟨⟨⟨(xTB_s4 _ 86 (by decide +kernel) rfl), (xTB_s1 _ 3 (by decide +kernel) rfl), (xTB_s2 _ 119 (by decide +kernel) rfl)⟩, ⟨by decide +kernel, by decide +kernel, by decide +kernel⟩⟩, ⟨(xTB_s2 _ 117 (by decide +kernel) rfl), (xTB_s2 _ 118 (by decide +kernel) rfl)⟩, by decide +kernel⟩
set_option maxRecDepth 100000 in
theorem lkC_88 : xlV "FaceZones$Crystal" 88 mC_insert 4 0 := ⟨⟨⟨(xTB_s4 _ 91 (by decide +kernel) rfl), (xTB_s1 _ 3 (by decide +kernel) rfl), (xTB_s2 _ 141 (by decide +kernel) rfl)⟩, ⟨by decide +kernel, by decide +kernel, by decide +kernel⟩⟩, ⟨(xTB_s2 _ 139 (by decide +kernel) rfl), (xTB_s2 _ 140 (by decide +kernel) rfl)⟩, by decide +kernel⟩
set_option maxRecDepth 100000 in
theorem lkC_92 : xlV "FaceZones$Crystal" 92 mC_hasFace 1 0 := ⟨⟨⟨(xTB_s2 _ 227 (by decide +kernel) rfl), (xTB_s1 _ 3 (by decide +kernel) rfl), (xTB_s2 _ 230 (by decide +kernel) rfl)⟩, ⟨by decide +kernel, by decide +kernel, by decide +kernel⟩⟩, ⟨(xTB_s2 _ 228 (by decide +kernel) rfl), (xTB_s2 _ 229 (by decide +kernel) rfl)⟩, by decide +kernel⟩
set_option maxRecDepth 100000 in
theorem lkC_96 : xlV "FaceZones$Crystal" 96 mT_isEquivalentTo 2 5 := ⟨⟨⟨(xTB_s4 _ 31 (by decide +kernel) rfl), (xTB_s1 _ 4 (by decide +kernel) rfl), (xTB_s3 _ 194 (by decide +kernel) rfl)⟩, ⟨by decide +kernel, by decide +kernel, by decide +kernel⟩⟩, ⟨(xTB_s3 _ 192 (by decide +kernel) rfl), (xTB_s3 _ 193 (by decide +kernel) rfl)⟩, by decide +kernel⟩
set_option maxRecDepth 100000 in
theorem lkX_28 : xlV "FaceZones$CrystalText" 28 mC_reset 0 0 := ⟨⟨⟨(xTB_s2 _ 84 (by decide +kernel) rfl), (xTB_s1 _ 3 (by decide +kernel) rfl), (xTB_s2 _ 87 (by decide +kernel) rfl)⟩, ⟨by decide +kernel, by decide +kernel, by decide +kernel⟩⟩, ⟨(xTB_s2 _ 85 (by decide +kernel) rfl), (xTB_s2 _ 86 (by decide +kernel) rfl)⟩, by decide +kernel⟩
set_option maxRecDepth 100000 in
theorem lkX_33 : xlV "FaceZones$CrystalText" 33 mX_readHead 1 1 := ⟨⟨⟨(xTB_s2 _ 88 (by decide +kernel) rfl), (xTB_s1 _ 2 (by decide +kernel) rfl), (xTB_s2 _ 91 (by decide +kernel) rfl)⟩, ⟨by decide +kernel, by decide +kernel, by decide +kernel⟩⟩, ⟨(xTB_s2 _ 90 (by decide +kernel) rfl), (xTB_s0 _ 1 (by decide +kernel) rfl)⟩, by decide +kernel⟩
set_option maxRecDepth 100000 in
theorem lkX_37 : xlV "FaceZones$CrystalText" 37 mX_readPart 1 1 := ⟨⟨⟨(xTB_s2 _ 104 (by decide +kernel) rfl), (xTB_s1 _ 2 (by decide +kernel) rfl), (xTB_s2 _ 107 (by decide +kernel) rfl)⟩, ⟨by decide +kernel, by decide +kernel, by decide +kernel⟩⟩, ⟨(xTB_s2 _ 106 (by decide +kernel) rfl), (xTB_s0 _ 5 (by decide +kernel) rfl)⟩, by decide +kernel⟩
set_option maxRecDepth 100000 in
theorem lkX_41 : xlV "FaceZones$CrystalText" 41 mX_isAt 1 1 := ⟨⟨⟨(xTB_s2 _ 92 (by decide +kernel) rfl), (xTB_s1 _ 2 (by decide +kernel) rfl), (xTB_s2 _ 95 (by decide +kernel) rfl)⟩, ⟨by decide +kernel, by decide +kernel, by decide +kernel⟩⟩, ⟨(xTB_s2 _ 94 (by decide +kernel) rfl), (xTB_s0 _ 2 (by decide +kernel) rfl)⟩, by decide +kernel⟩
set_option maxRecDepth 100000 in
theorem lkX_45 : xlV "FaceZones$CrystalText" 45 mX_isDigitAt 2 1 := ⟨⟨⟨(xTB_s2 _ 96 (by decide +kernel) rfl), (xTB_s1 _ 2 (by decide +kernel) rfl), (xTB_s2 _ 99 (by decide +kernel) rfl)⟩, ⟨by decide +kernel, by decide +kernel, by decide +kernel⟩⟩, ⟨(xTB_s2 _ 98 (by decide +kernel) rfl), (xTB_s0 _ 3 (by decide +kernel) rfl)⟩, by decide +kernel⟩
set_option maxRecDepth 100000 in
theorem lkX_49 : xlV "FaceZones$CrystalText" 49 mX_takeDigit 0 1 := ⟨⟨⟨(xTB_s2 _ 100 (by decide +kernel) rfl), (xTB_s1 _ 2 (by decide +kernel) rfl), (xTB_s2 _ 103 (by decide +kernel) rfl)⟩, ⟨by decide +kernel, by decide +kernel, by decide +kernel⟩⟩, ⟨(xTB_s2 _ 102 (by decide +kernel) rfl), (xTB_s0 _ 4 (by decide +kernel) rfl)⟩, by decide +kernel⟩
set_option maxRecDepth 100000 in
theorem lkX_56 : xlV "FaceZones$CrystalText" 56 mX_readFace 1 1 := ⟨⟨⟨(xTB_s2 _ 108 (by decide +kernel) rfl), (xTB_s1 _ 2 (by decide +kernel) rfl), (xTB_s2 _ 111 (by decide +kernel) rfl)⟩, ⟨by decide +kernel, by decide +kernel, by decide +kernel⟩⟩, ⟨(xTB_s2 _ 110 (by decide +kernel) rfl), (xTB_s0 _ 6 (by decide +kernel) rfl)⟩, by decide +kernel⟩
set_option maxRecDepth 100000 in
theorem lkX_59 : xlV "FaceZones$CrystalText" 59 mX_readTwin 1 1 := ⟨⟨⟨(xTB_s2 _ 142 (by decide +kernel) rfl), (xTB_s1 _ 2 (by decide +kernel) rfl), (xTB_s2 _ 145 (by decide +kernel) rfl)⟩, ⟨by decide +kernel, by decide +kernel, by decide +kernel⟩⟩, ⟨(xTB_s2 _ 144 (by decide +kernel) rfl), (xTB_s0 _ 9 (by decide +kernel) rfl)⟩, by decide +kernel⟩
set_option maxRecDepth 100000 in
theorem lkX_62 : xlV "FaceZones$CrystalText" 62 mX_readIndices 1 1 := ⟨⟨⟨(xTB_s2 _ 112 (by decide +kernel) rfl), (xTB_s1 _ 2 (by decide +kernel) rfl), (xTB_s2 _ 115 (by decide +kernel) rfl)⟩, ⟨by decide +kernel, by decide +kernel, by decide +kernel⟩⟩, ⟨(xTB_s2 _ 114 (by decide +kernel) rfl), (xTB_s0 _ 7 (by decide +kernel) rfl)⟩, by decide +kernel⟩
set_option maxRecDepth 100000 in
theorem lkX_66 : xlV "FaceZones$CrystalText" 66 mC_refusalOf 4 0 := ⟨⟨⟨(xTB_s2 _ 116 (by decide +kernel) rfl), (xTB_s1 _ 3 (by decide +kernel) rfl), (xTB_s2 _ 119 (by decide +kernel) rfl)⟩, ⟨by decide +kernel, by decide +kernel, by decide +kernel⟩⟩, ⟨(xTB_s2 _ 117 (by decide +kernel) rfl), (xTB_s2 _ 118 (by decide +kernel) rfl)⟩, by decide +kernel⟩
set_option maxRecDepth 100000 in
theorem lkX_70 : xlV "FaceZones$CrystalText" 70 mC_insert 4 0 := ⟨⟨⟨(xTB_s2 _ 138 (by decide +kernel) rfl), (xTB_s1 _ 3 (by decide +kernel) rfl), (xTB_s2 _ 141 (by decide +kernel) rfl)⟩, ⟨by decide +kernel, by decide +kernel, by decide +kernel⟩⟩, ⟨(xTB_s2 _ 139 (by decide +kernel) rfl), (xTB_s2 _ 140 (by decide +kernel) rfl)⟩, by decide +kernel⟩
set_option maxRecDepth 100000 in
theorem lkX_74 : xlV "FaceZones$CrystalText" 74 mC_aimTwin 3 0 := ⟨⟨⟨(xTB_s2 _ 146 (by decide +kernel) rfl), (xTB_s1 _ 3 (by decide +kernel) rfl), (xTB_s2 _ 149 (by decide +kernel) rfl)⟩, ⟨by decide +kernel, by decide +kernel, by decide +kernel⟩⟩, ⟨(xTB_s2 _ 147 (by decide +kernel) rfl), (xTB_s2 _ 148 (by decide +kernel) rfl)⟩, by decide +kernel⟩
set_option maxRecDepth 100000 in
theorem lkF_33 : xlN "FaceZones$Form" 33 mT_init 0 "FaceZones" := ⟨⟨(List.mem_of_getElem? (i := 6) rfl), (xTB_s1 _ 4 (by decide +kernel) rfl), (xTB_s1 _ 61 (by decide +kernel) rfl)⟩, ⟨by decide +kernel, by decide +kernel, by decide +kernel⟩, (xTB_s1 _ 60 (by decide +kernel) rfl), rfl, rfl⟩
set_option maxRecDepth 100000 in
theorem lkF_46 : xlV "FaceZones$Form" 46 mT_put 3 5 := ⟨⟨⟨(xTB_s3 _ 186 (by decide +kernel) rfl), (xTB_s1 _ 4 (by decide +kernel) rfl), (xTB_s2 _ 0 (by decide +kernel) rfl)⟩, ⟨by decide +kernel, by decide +kernel, by decide +kernel⟩⟩, ⟨(xTB_s1 _ 238 (by decide +kernel) rfl), (xTB_s1 _ 239 (by decide +kernel) rfl)⟩, by decide +kernel⟩
set_option maxRecDepth 100000 in
theorem lkF_50 : xlV "FaceZones$Form" 50 mF_collectNumbers 0 2 := ⟨⟨⟨(xTB_s3 _ 187 (by decide +kernel) rfl), (xTB_s1 _ 7 (by decide +kernel) rfl), (xTB_s3 _ 190 (by decide +kernel) rfl)⟩, ⟨by decide +kernel, by decide +kernel, by decide +kernel⟩⟩, ⟨(xTB_s3 _ 189 (by decide +kernel) rfl), (xTB_s0 _ 16 (by decide +kernel) rfl)⟩, by decide +kernel⟩
set_option maxRecDepth 100000 in
theorem lkF_56 : xlV "FaceZones$Form" 56 mT_isEquivalentTo 2 5 := ⟨⟨⟨(xTB_s3 _ 191 (by decide +kernel) rfl), (xTB_s1 _ 4 (by decide +kernel) rfl), (xTB_s3 _ 194 (by decide +kernel) rfl)⟩, ⟨by decide +kernel, by decide +kernel, by decide +kernel⟩⟩, ⟨(xTB_s3 _ 192 (by decide +kernel) rfl), (xTB_s3 _ 193 (by decide +kernel) rfl)⟩, by decide +kernel⟩
set_option maxRecDepth 100000 in
theorem lkF_60 : xlV "FaceZones$Form" 60 mF_takeCandidate 0 2 := ⟨⟨⟨(xTB_s3 _ 201 (by decide +kernel) rfl), (xTB_s1 _ 7 (by decide +kernel) rfl), (xTB_s3 _ 204 (by decide +kernel) rfl)⟩, ⟨by decide +kernel, by decide +kernel, by decide +kernel⟩⟩, ⟨(xTB_s3 _ 203 (by decide +kernel) rfl), (xTB_s0 _ 18 (by decide +kernel) rfl)⟩, by decide +kernel⟩
set_option maxRecDepth 100000 in
theorem lkG_28 : xlN "FaceZones$Growth" 28 mT_init 0 "FaceZones" := ⟨⟨(List.mem_of_getElem? (i := 7) rfl), (xTB_s1 _ 4 (by decide +kernel) rfl), (xTB_s1 _ 61 (by decide +kernel) rfl)⟩, ⟨by decide +kernel, by decide +kernel, by decide +kernel⟩, (xTB_s1 _ 60 (by decide +kernel) rfl), rfl, rfl⟩
set_option maxRecDepth 100000 in
theorem lkG_33 : xlV "FaceZones$Growth" 33 mT_put 3 5 := ⟨⟨⟨(xTB_s1 _ 237 (by decide +kernel) rfl), (xTB_s1 _ 4 (by decide +kernel) rfl), (xTB_s2 _ 0 (by decide +kernel) rfl)⟩, ⟨by decide +kernel, by decide +kernel, by decide +kernel⟩⟩, ⟨(xTB_s1 _ 238 (by decide +kernel) rfl), (xTB_s1 _ 239 (by decide +kernel) rfl)⟩, by decide +kernel⟩
set_option maxRecDepth 100000 in
theorem lkG_37 : xlV "FaceZones$Growth" 37 mT_isNormalized 0 5 := ⟨⟨⟨(xTB_s2 _ 1 (by decide +kernel) rfl), (xTB_s1 _ 4 (by decide +kernel) rfl), (xTB_s2 _ 4 (by decide +kernel) rfl)⟩, ⟨by decide +kernel, by decide +kernel, by decide +kernel⟩⟩, ⟨(xTB_s2 _ 2 (by decide +kernel) rfl), (xTB_s2 _ 3 (by decide +kernel) rfl)⟩, by decide +kernel⟩
set_option maxRecDepth 100000 in
theorem lkG_41 : xlV "FaceZones$Growth" 41 mT_copyFrom 1 5 := ⟨⟨⟨(xTB_s2 _ 12 (by decide +kernel) rfl), (xTB_s1 _ 4 (by decide +kernel) rfl), (xTB_s2 _ 15 (by decide +kernel) rfl)⟩, ⟨by decide +kernel, by decide +kernel, by decide +kernel⟩⟩, ⟨(xTB_s2 _ 13 (by decide +kernel) rfl), (xTB_s2 _ 14 (by decide +kernel) rfl)⟩, by decide +kernel⟩
set_option maxRecDepth 100000 in
theorem lkG_45 : xlV "FaceZones$Growth" 45 mZ_firstParallelTo 1 6 := ⟨⟨⟨(xTB_s4 _ 154 (by decide +kernel) rfl), (xTB_s1 _ 6 (by decide +kernel) rfl), (xTB_s3 _ 142 (by decide +kernel) rfl)⟩, ⟨by decide +kernel, by decide +kernel, by decide +kernel⟩⟩, ⟨(xTB_s3 _ 140 (by decide +kernel) rfl), (xTB_s3 _ 141 (by decide +kernel) rfl)⟩, by decide +kernel⟩
set_option maxRecDepth 100000 in
theorem lkG_52 : xlV "FaceZones$Growth" 52 mT_putCross 2 5 := ⟨⟨⟨(xTB_s4 _ 160 (by decide +kernel) rfl), (xTB_s1 _ 4 (by decide +kernel) rfl), (xTB_s2 _ 192 (by decide +kernel) rfl)⟩, ⟨by decide +kernel, by decide +kernel, by decide +kernel⟩⟩, ⟨(xTB_s2 _ 190 (by decide +kernel) rfl), (xTB_s2 _ 191 (by decide +kernel) rfl)⟩, by decide +kernel⟩
set_option maxRecDepth 100000 in
theorem lkG_56 : xlV "FaceZones$Growth" 56 mT_normalize 0 5 := ⟨⟨⟨(xTB_s4 _ 161 (by decide +kernel) rfl), (xTB_s1 _ 4 (by decide +kernel) rfl), (xTB_s2 _ 196 (by decide +kernel) rfl)⟩, ⟨by decide +kernel, by decide +kernel, by decide +kernel⟩⟩, ⟨(xTB_s2 _ 194 (by decide +kernel) rfl), (xTB_s2 _ 195 (by decide +kernel) rfl)⟩, by decide +kernel⟩
set_option maxRecDepth 100000 in
theorem lkG_59 : xlV "FaceZones$Growth" 59 mG_countLine 0 3 := ⟨⟨⟨(xTB_s4 _ 162 (by decide +kernel) rfl), (xTB_s1 _ 8 (by decide +kernel) rfl), (xTB_s4 _ 165 (by decide +kernel) rfl)⟩, ⟨by decide +kernel, by decide +kernel, by decide +kernel⟩⟩, ⟨(xTB_s4 _ 164 (by decide +kernel) rfl), (xTB_s0 _ 22 (by decide +kernel) rfl)⟩, by decide +kernel⟩
set_option maxRecDepth 100000 in
theorem lkG_62 : xlV "FaceZones$Growth" 62 mT_dot 1 5 := ⟨⟨⟨(xTB_s4 _ 166 (by decide +kernel) rfl), (xTB_s1 _ 4 (by decide +kernel) rfl), (xTB_s2 _ 204 (by decide +kernel) rfl)⟩, ⟨by decide +kernel, by decide +kernel, by decide +kernel⟩⟩, ⟨(xTB_s2 _ 202 (by decide +kernel) rfl), (xTB_s2 _ 203 (by decide +kernel) rfl)⟩, by decide +kernel⟩
set_option maxRecDepth 100000 in
theorem lkG_66 : xlV "FaceZones$Growth" 66 mT_isSameAs 1 5 := ⟨⟨⟨(xTB_s4 _ 167 (by decide +kernel) rfl), (xTB_s1 _ 4 (by decide +kernel) rfl), (xTB_s2 _ 184 (by decide +kernel) rfl)⟩, ⟨by decide +kernel, by decide +kernel, by decide +kernel⟩⟩, ⟨(xTB_s2 _ 182 (by decide +kernel) rfl), (xTB_s2 _ 183 (by decide +kernel) rfl)⟩, by decide +kernel⟩
set_option maxRecDepth 100000 in
theorem lkH_24 : xlN "FaceZones$History" 24 mC_init 0 "FaceZones" := ⟨⟨(List.mem_of_getElem? (i := 3) rfl), (xTB_s1 _ 3 (by decide +kernel) rfl), (xTB_s1 _ 55 (by decide +kernel) rfl)⟩, ⟨by decide +kernel, by decide +kernel, by decide +kernel⟩, (xTB_s1 _ 54 (by decide +kernel) rfl), rfl, rfl⟩
set_option maxRecDepth 100000 in
theorem lkH_25 : xlV "FaceZones$History" 25 mC_copyFrom 1 0 := ⟨⟨⟨(xTB_s4 _ 53 (by decide +kernel) rfl), (xTB_s1 _ 3 (by decide +kernel) rfl), (xTB_s2 _ 158 (by decide +kernel) rfl)⟩, ⟨by decide +kernel, by decide +kernel, by decide +kernel⟩⟩, ⟨(xTB_s2 _ 156 (by decide +kernel) rfl), (xTB_s2 _ 157 (by decide +kernel) rfl)⟩, by decide +kernel⟩
set_option maxRecDepth 100000 in
theorem lkT_19 : xlV "FaceZones$Triple" 19 mT_put 3 5 := ⟨⟨⟨(xTB_s2 _ 16 (by decide +kernel) rfl), (xTB_s1 _ 4 (by decide +kernel) rfl), (xTB_s2 _ 0 (by decide +kernel) rfl)⟩, ⟨by decide +kernel, by decide +kernel, by decide +kernel⟩⟩, ⟨(xTB_s1 _ 238 (by decide +kernel) rfl), (xTB_s1 _ 239 (by decide +kernel) rfl)⟩, by decide +kernel⟩
set_option maxRecDepth 100000 in
theorem lkT_23 : xlNS "FaceZones$Triple" 23 mA_commonDivisor 2 "FaceZones" := ⟨⟨(List.mem_of_getElem? (i := 8) rfl), (xTB_s1 _ 1 (by decide +kernel) rfl), (xTB_s2 _ 11 (by decide +kernel) rfl)⟩, ⟨by decide +kernel, by decide +kernel, by decide +kernel⟩, (xTB_s2 _ 10 (by decide +kernel) rfl)⟩
set_option maxRecDepth 100000 in
theorem lkT_29 : xlV "FaceZones$Triple" 29 mT_divideBy 1 5 := ⟨⟨⟨(xTB_s2 _ 129 (by decide +kernel) rfl), (xTB_s1 _ 4 (by decide +kernel) rfl), (xTB_s2 _ 132 (by decide +kernel) rfl)⟩, ⟨by decide +kernel, by decide +kernel, by decide +kernel⟩⟩, ⟨(xTB_s2 _ 131 (by decide +kernel) rfl), (xTB_s0 _ 8 (by decide +kernel) rfl)⟩, by decide +kernel⟩
set_option maxRecDepth 100000 in
theorem lkT_33 : xlV "FaceZones$Triple" 33 mT_leadsPositive 0 5 := ⟨⟨⟨(xTB_s2 _ 5 (by decide +kernel) rfl), (xTB_s1 _ 4 (by decide +kernel) rfl), (xTB_s2 _ 8 (by decide +kernel) rfl)⟩, ⟨by decide +kernel, by decide +kernel, by decide +kernel⟩⟩, ⟨(xTB_s2 _ 7 (by decide +kernel) rfl), (xTB_s0 _ 0 (by decide +kernel) rfl)⟩, by decide +kernel⟩
set_option maxRecDepth 100000 in
theorem lkT_43 : xlV "FaceZones$Triple" 43 mT_isSameAs 1 5 := ⟨⟨⟨(xTB_s2 _ 181 (by decide +kernel) rfl), (xTB_s1 _ 4 (by decide +kernel) rfl), (xTB_s2 _ 184 (by decide +kernel) rfl)⟩, ⟨by decide +kernel, by decide +kernel, by decide +kernel⟩⟩, ⟨(xTB_s2 _ 182 (by decide +kernel) rfl), (xTB_s2 _ 183 (by decide +kernel) rfl)⟩, by decide +kernel⟩
set_option maxRecDepth 100000 in
theorem lkT_47 : xlV "FaceZones$Triple" 47 mT_isParallelTo 1 5 := ⟨⟨⟨(xTB_s3 _ 195 (by decide +kernel) rfl), (xTB_s1 _ 4 (by decide +kernel) rfl), (xTB_s2 _ 180 (by decide +kernel) rfl)⟩, ⟨by decide +kernel, by decide +kernel, by decide +kernel⟩⟩, ⟨(xTB_s2 _ 178 (by decide +kernel) rfl), (xTB_s2 _ 179 (by decide +kernel) rfl)⟩, by decide +kernel⟩
set_option maxRecDepth 100000 in
theorem lkT_50 : xlV "FaceZones$Triple" 50 mT_isEquivalentBySizes 2 5 := ⟨⟨⟨(xTB_s3 _ 196 (by decide +kernel) rfl), (xTB_s1 _ 4 (by decide +kernel) rfl), (xTB_s3 _ 199 (by decide +kernel) rfl)⟩, ⟨by decide +kernel, by decide +kernel, by decide +kernel⟩⟩, ⟨(xTB_s3 _ 198 (by decide +kernel) rfl), (xTB_s0 _ 17 (by decide +kernel) rfl)⟩, by decide +kernel⟩
set_option maxRecDepth 100000 in
theorem lkT_54 : xlV "FaceZones$Triple" 54 mT_dot 1 5 := ⟨⟨⟨(xTB_s3 _ 200 (by decide +kernel) rfl), (xTB_s1 _ 4 (by decide +kernel) rfl), (xTB_s2 _ 204 (by decide +kernel) rfl)⟩, ⟨by decide +kernel, by decide +kernel, by decide +kernel⟩⟩, ⟨(xTB_s2 _ 202 (by decide +kernel) rfl), (xTB_s2 _ 203 (by decide +kernel) rfl)⟩, by decide +kernel⟩
set_option maxRecDepth 100000 in
theorem lkZ_34 : xlN "FaceZones$ZoneList" 34 mT_init 0 "FaceZones" := ⟨⟨(List.mem_of_getElem? (i := 4) rfl), (xTB_s1 _ 4 (by decide +kernel) rfl), (xTB_s1 _ 61 (by decide +kernel) rfl)⟩, ⟨by decide +kernel, by decide +kernel, by decide +kernel⟩, (xTB_s1 _ 60 (by decide +kernel) rfl), rfl, rfl⟩
set_option maxRecDepth 100000 in
theorem lkZ_38 : xlV "FaceZones$ZoneList" 38 mC_putDirection 2 0 := ⟨⟨⟨(xTB_s2 _ 173 (by decide +kernel) rfl), (xTB_s1 _ 3 (by decide +kernel) rfl), (xTB_s2 _ 176 (by decide +kernel) rfl)⟩, ⟨by decide +kernel, by decide +kernel, by decide +kernel⟩⟩, ⟨(xTB_s2 _ 174 (by decide +kernel) rfl), (xTB_s2 _ 175 (by decide +kernel) rfl)⟩, by decide +kernel⟩
set_option maxRecDepth 100000 in
theorem lkZ_42 : xlV "FaceZones$ZoneList" 42 mZ_aim 1 6 := ⟨⟨⟨(xTB_s2 _ 169 (by decide +kernel) rfl), (xTB_s1 _ 6 (by decide +kernel) rfl), (xTB_s2 _ 172 (by decide +kernel) rfl)⟩, ⟨by decide +kernel, by decide +kernel, by decide +kernel⟩⟩, ⟨(xTB_s2 _ 170 (by decide +kernel) rfl), (xTB_s2 _ 171 (by decide +kernel) rfl)⟩, by decide +kernel⟩
set_option maxRecDepth 100000 in
theorem lkZ_46 : xlV "FaceZones$ZoneList" 46 mT_isParallelTo 1 5 := ⟨⟨⟨(xTB_s2 _ 177 (by decide +kernel) rfl), (xTB_s1 _ 4 (by decide +kernel) rfl), (xTB_s2 _ 180 (by decide +kernel) rfl)⟩, ⟨by decide +kernel, by decide +kernel, by decide +kernel⟩⟩, ⟨(xTB_s2 _ 178 (by decide +kernel) rfl), (xTB_s2 _ 179 (by decide +kernel) rfl)⟩, by decide +kernel⟩
set_option maxRecDepth 100000 in
theorem lkZ_53 : xlV "FaceZones$ZoneList" 53 mZ_take 3 6 := ⟨⟨⟨(xTB_s2 _ 185 (by decide +kernel) rfl), (xTB_s1 _ 6 (by decide +kernel) rfl), (xTB_s2 _ 188 (by decide +kernel) rfl)⟩, ⟨by decide +kernel, by decide +kernel, by decide +kernel⟩⟩, ⟨(xTB_s2 _ 187 (by decide +kernel) rfl), (xTB_s0 _ 10 (by decide +kernel) rfl)⟩, by decide +kernel⟩
set_option maxRecDepth 100000 in
theorem lkZ_57 : xlV "FaceZones$ZoneList" 57 mT_putCross 2 5 := ⟨⟨⟨(xTB_s2 _ 189 (by decide +kernel) rfl), (xTB_s1 _ 4 (by decide +kernel) rfl), (xTB_s2 _ 192 (by decide +kernel) rfl)⟩, ⟨by decide +kernel, by decide +kernel, by decide +kernel⟩⟩, ⟨(xTB_s2 _ 190 (by decide +kernel) rfl), (xTB_s2 _ 191 (by decide +kernel) rfl)⟩, by decide +kernel⟩
set_option maxRecDepth 100000 in
theorem lkZ_61 : xlV "FaceZones$ZoneList" 61 mT_normalize 0 5 := ⟨⟨⟨(xTB_s2 _ 193 (by decide +kernel) rfl), (xTB_s1 _ 4 (by decide +kernel) rfl), (xTB_s2 _ 196 (by decide +kernel) rfl)⟩, ⟨by decide +kernel, by decide +kernel, by decide +kernel⟩⟩, ⟨(xTB_s2 _ 194 (by decide +kernel) rfl), (xTB_s2 _ 195 (by decide +kernel) rfl)⟩, by decide +kernel⟩
set_option maxRecDepth 100000 in
theorem lkZ_64 : xlV "FaceZones$ZoneList" 64 mZ_membersOf 1 6 := ⟨⟨⟨(xTB_s2 _ 197 (by decide +kernel) rfl), (xTB_s1 _ 6 (by decide +kernel) rfl), (xTB_s2 _ 200 (by decide +kernel) rfl)⟩, ⟨by decide +kernel, by decide +kernel, by decide +kernel⟩⟩, ⟨(xTB_s2 _ 198 (by decide +kernel) rfl), (xTB_s2 _ 199 (by decide +kernel) rfl)⟩, by decide +kernel⟩
set_option maxRecDepth 100000 in
theorem lkZ_68 : xlS "FaceZones$ZoneList" 68 mI_bitCount 1 := ⟨⟨⟨(xTB_s2 _ 205 (by decide +kernel) rfl), (xTB_s1 _ 16 (by decide +kernel) rfl), (xTB_s2 _ 207 (by decide +kernel) rfl)⟩, ⟨by decide +kernel, by decide +kernel, by decide +kernel⟩⟩, (xTB_s2 _ 206 (by decide +kernel) rfl)⟩
set_option maxRecDepth 100000 in
theorem lkZ_74 : xlV "FaceZones$ZoneList" 74 mT_dot 1 5 := ⟨⟨⟨(xTB_s2 _ 201 (by decide +kernel) rfl), (xTB_s1 _ 4 (by decide +kernel) rfl), (xTB_s2 _ 204 (by decide +kernel) rfl)⟩, ⟨by decide +kernel, by decide +kernel, by decide +kernel⟩⟩, ⟨(xTB_s2 _ 202 (by decide +kernel) rfl), (xTB_s2 _ 203 (by decide +kernel) rfl)⟩, by decide +kernel⟩
set_option maxRecDepth 100000 in
theorem lkZ_78 : xlS "FaceZones$ZoneList" 78 mZ_comesBefore 4 := ⟨⟨⟨(xTB_s3 _ 125 (by decide +kernel) rfl), (xTB_s1 _ 6 (by decide +kernel) rfl), (xTB_s3 _ 127 (by decide +kernel) rfl)⟩, ⟨by decide +kernel, by decide +kernel, by decide +kernel⟩⟩, (xTB_s3 _ 126 (by decide +kernel) rfl)⟩
set_option maxRecDepth 100000 in
theorem lkZ_82 : xlV "FaceZones$ZoneList" 82 mT_sumOfSizes 0 5 := ⟨⟨⟨(xTB_s3 _ 128 (by decide +kernel) rfl), (xTB_s1 _ 4 (by decide +kernel) rfl), (xTB_s3 _ 131 (by decide +kernel) rfl)⟩, ⟨by decide +kernel, by decide +kernel, by decide +kernel⟩⟩, ⟨(xTB_s3 _ 129 (by decide +kernel) rfl), (xTB_s3 _ 130 (by decide +kernel) rfl)⟩, by decide +kernel⟩
set_option maxRecDepth 100000 in
theorem lkZ_103 : xlV "FaceZones$ZoneList" 103 mZ_firstParallelTo 1 6 := ⟨⟨⟨(xTB_s3 _ 139 (by decide +kernel) rfl), (xTB_s1 _ 6 (by decide +kernel) rfl), (xTB_s3 _ 142 (by decide +kernel) rfl)⟩, ⟨by decide +kernel, by decide +kernel, by decide +kernel⟩⟩, ⟨(xTB_s3 _ 140 (by decide +kernel) rfl), (xTB_s3 _ 141 (by decide +kernel) rfl)⟩, by decide +kernel⟩
set_option maxRecDepth 100000 in
theorem lkL_7 : xlV "FaceZonesLaw" 7 mA_append 1 7 := ⟨⟨⟨(xTB_s2 _ 236 (by decide +kernel) rfl), (xTB_s1 _ 1 (by decide +kernel) rfl), (xTB_s2 _ 239 (by decide +kernel) rfl)⟩, ⟨by decide +kernel, by decide +kernel, by decide +kernel⟩⟩, ⟨(xTB_s2 _ 237 (by decide +kernel) rfl), (xTB_s2 _ 238 (by decide +kernel) rfl)⟩, by decide +kernel⟩
set_option maxRecDepth 100000 in
theorem lkL_17 : xlV "FaceZonesLaw" 17 mA_load 0 7 := ⟨⟨⟨(xTB_s3 _ 97 (by decide +kernel) rfl), (xTB_s1 _ 1 (by decide +kernel) rfl), (xTB_s3 _ 100 (by decide +kernel) rfl)⟩, ⟨by decide +kernel, by decide +kernel, by decide +kernel⟩⟩, ⟨(xTB_s3 _ 98 (by decide +kernel) rfl), (xTB_s3 _ 99 (by decide +kernel) rfl)⟩, by decide +kernel⟩
set_option maxRecDepth 100000 in
theorem lkL_21 : xlV "FaceZonesLaw" 21 mA_about 1 7 := ⟨⟨⟨(xTB_s3 _ 109 (by decide +kernel) rfl), (xTB_s1 _ 1 (by decide +kernel) rfl), (xTB_s3 _ 112 (by decide +kernel) rfl)⟩, ⟨by decide +kernel, by decide +kernel, by decide +kernel⟩⟩, ⟨(xTB_s3 _ 110 (by decide +kernel) rfl), (xTB_s3 _ 111 (by decide +kernel) rfl)⟩, by decide +kernel⟩
set_option maxRecDepth 100000 in
theorem lkL_24 : xlV "FaceZonesLaw" 24 mA_face 2 7 := ⟨⟨⟨(xTB_s3 _ 149 (by decide +kernel) rfl), (xTB_s1 _ 1 (by decide +kernel) rfl), (xTB_s3 _ 152 (by decide +kernel) rfl)⟩, ⟨by decide +kernel, by decide +kernel, by decide +kernel⟩⟩, ⟨(xTB_s3 _ 150 (by decide +kernel) rfl), (xTB_s3 _ 151 (by decide +kernel) rfl)⟩, by decide +kernel⟩
set_option maxRecDepth 100000 in
theorem lkL_30 : xlV "FaceZonesLaw" 30 mA_zone 2 7 := ⟨⟨⟨(xTB_s3 _ 209 (by decide +kernel) rfl), (xTB_s1 _ 1 (by decide +kernel) rfl), (xTB_s3 _ 212 (by decide +kernel) rfl)⟩, ⟨by decide +kernel, by decide +kernel, by decide +kernel⟩⟩, ⟨(xTB_s3 _ 210 (by decide +kernel) rfl), (xTB_s3 _ 211 (by decide +kernel) rfl)⟩, by decide +kernel⟩
set_option maxRecDepth 100000 in
theorem lkL_33 : xlV "FaceZonesLaw" 33 mA_zoneOf 2 7 := ⟨⟨⟨(xTB_s3 _ 222 (by decide +kernel) rfl), (xTB_s1 _ 1 (by decide +kernel) rfl), (xTB_s3 _ 225 (by decide +kernel) rfl)⟩, ⟨by decide +kernel, by decide +kernel, by decide +kernel⟩⟩, ⟨(xTB_s3 _ 223 (by decide +kernel) rfl), (xTB_s3 _ 224 (by decide +kernel) rfl)⟩, by decide +kernel⟩
set_option maxRecDepth 100000 in
theorem lkL_36 : xlV "FaceZonesLaw" 36 mA_inZone 3 7 := ⟨⟨⟨(xTB_s3 _ 233 (by decide +kernel) rfl), (xTB_s1 _ 1 (by decide +kernel) rfl), (xTB_s3 _ 236 (by decide +kernel) rfl)⟩, ⟨by decide +kernel, by decide +kernel, by decide +kernel⟩⟩, ⟨(xTB_s3 _ 234 (by decide +kernel) rfl), (xTB_s3 _ 235 (by decide +kernel) rfl)⟩, by decide +kernel⟩
set_option maxRecDepth 100000 in
theorem lkL_40 : xlV "FaceZonesLaw" 40 mA_cross 3 7 := ⟨⟨⟨(xTB_s4 _ 2 (by decide +kernel) rfl), (xTB_s1 _ 1 (by decide +kernel) rfl), (xTB_s4 _ 5 (by decide +kernel) rfl)⟩, ⟨by decide +kernel, by decide +kernel, by decide +kernel⟩⟩, ⟨(xTB_s4 _ 3 (by decide +kernel) rfl), (xTB_s4 _ 4 (by decide +kernel) rfl)⟩, by decide +kernel⟩
set_option maxRecDepth 100000 in
theorem lkL_44 : xlV "FaceZonesLaw" 44 mA_angle 2 7 := ⟨⟨⟨(xTB_s4 _ 14 (by decide +kernel) rfl), (xTB_s1 _ 1 (by decide +kernel) rfl), (xTB_s4 _ 17 (by decide +kernel) rfl)⟩, ⟨by decide +kernel, by decide +kernel, by decide +kernel⟩⟩, ⟨(xTB_s4 _ 15 (by decide +kernel) rfl), (xTB_s4 _ 16 (by decide +kernel) rfl)⟩, by decide +kernel⟩
set_option maxRecDepth 100000 in
theorem lkL_47 : xlV "FaceZonesLaw" 47 mA_sameForm 2 7 := ⟨⟨⟨(xTB_s4 _ 23 (by decide +kernel) rfl), (xTB_s1 _ 1 (by decide +kernel) rfl), (xTB_s4 _ 26 (by decide +kernel) rfl)⟩, ⟨by decide +kernel, by decide +kernel, by decide +kernel⟩⟩, ⟨(xTB_s4 _ 24 (by decide +kernel) rfl), (xTB_s4 _ 25 (by decide +kernel) rfl)⟩, by decide +kernel⟩
set_option maxRecDepth 100000 in
theorem lkL_51 : xlV "FaceZonesLaw" 51 mA_addFace 4 7 := ⟨⟨⟨(xTB_s4 _ 35 (by decide +kernel) rfl), (xTB_s1 _ 1 (by decide +kernel) rfl), (xTB_s4 _ 38 (by decide +kernel) rfl)⟩, ⟨by decide +kernel, by decide +kernel, by decide +kernel⟩⟩, ⟨(xTB_s4 _ 36 (by decide +kernel) rfl), (xTB_s4 _ 37 (by decide +kernel) rfl)⟩, by decide +kernel⟩
set_option maxRecDepth 100000 in
theorem lkL_55 : xlV "FaceZonesLaw" 55 mA_addForm 1 7 := ⟨⟨⟨(xTB_s4 _ 61 (by decide +kernel) rfl), (xTB_s1 _ 1 (by decide +kernel) rfl), (xTB_s4 _ 64 (by decide +kernel) rfl)⟩, ⟨by decide +kernel, by decide +kernel, by decide +kernel⟩⟩, ⟨(xTB_s4 _ 62 (by decide +kernel) rfl), (xTB_s4 _ 63 (by decide +kernel) rfl)⟩, by decide +kernel⟩
set_option maxRecDepth 100000 in
theorem lkL_58 : xlV "FaceZonesLaw" 58 mA_twin 1 7 := ⟨⟨⟨(xTB_s4 _ 78 (by decide +kernel) rfl), (xTB_s1 _ 1 (by decide +kernel) rfl), (xTB_s4 _ 81 (by decide +kernel) rfl)⟩, ⟨by decide +kernel, by decide +kernel, by decide +kernel⟩⟩, ⟨(xTB_s4 _ 79 (by decide +kernel) rfl), (xTB_s4 _ 80 (by decide +kernel) rfl)⟩, by decide +kernel⟩
set_option maxRecDepth 100000 in
theorem lkL_61 : xlV "FaceZonesLaw" 61 mA_remove 1 7 := ⟨⟨⟨(xTB_s4 _ 95 (by decide +kernel) rfl), (xTB_s1 _ 1 (by decide +kernel) rfl), (xTB_s4 _ 98 (by decide +kernel) rfl)⟩, ⟨by decide +kernel, by decide +kernel, by decide +kernel⟩⟩, ⟨(xTB_s4 _ 96 (by decide +kernel) rfl), (xTB_s4 _ 97 (by decide +kernel) rfl)⟩, by decide +kernel⟩
set_option maxRecDepth 100000 in
theorem lkL_64 : xlV "FaceZonesLaw" 64 mA_setSystem 1 7 := ⟨⟨⟨(xTB_s4 _ 102 (by decide +kernel) rfl), (xTB_s1 _ 1 (by decide +kernel) rfl), (xTB_s4 _ 105 (by decide +kernel) rfl)⟩, ⟨by decide +kernel, by decide +kernel, by decide +kernel⟩⟩, ⟨(xTB_s4 _ 103 (by decide +kernel) rfl), (xTB_s4 _ 104 (by decide +kernel) rfl)⟩, by decide +kernel⟩
set_option maxRecDepth 100000 in
theorem lkL_67 : xlV "FaceZonesLaw" 67 mA_setLeast 1 7 := ⟨⟨⟨(xTB_s4 _ 109 (by decide +kernel) rfl), (xTB_s1 _ 1 (by decide +kernel) rfl), (xTB_s4 _ 112 (by decide +kernel) rfl)⟩, ⟨by decide +kernel, by decide +kernel, by decide +kernel⟩⟩, ⟨(xTB_s4 _ 110 (by decide +kernel) rfl), (xTB_s4 _ 111 (by decide +kernel) rfl)⟩, by decide +kernel⟩
set_option maxRecDepth 100000 in
theorem lkL_70 : xlV "FaceZonesLaw" 70 mA_setTwin 3 7 := ⟨⟨⟨(xTB_s4 _ 116 (by decide +kernel) rfl), (xTB_s1 _ 1 (by decide +kernel) rfl), (xTB_s4 _ 119 (by decide +kernel) rfl)⟩, ⟨by decide +kernel, by decide +kernel, by decide +kernel⟩⟩, ⟨(xTB_s4 _ 117 (by decide +kernel) rfl), (xTB_s4 _ 118 (by decide +kernel) rfl)⟩, by decide +kernel⟩
set_option maxRecDepth 100000 in
theorem lkL_73 : xlV "FaceZonesLaw" 73 mA_undo 0 7 := ⟨⟨⟨(xTB_s4 _ 127 (by decide +kernel) rfl), (xTB_s1 _ 1 (by decide +kernel) rfl), (xTB_s4 _ 130 (by decide +kernel) rfl)⟩, ⟨by decide +kernel, by decide +kernel, by decide +kernel⟩⟩, ⟨(xTB_s4 _ 128 (by decide +kernel) rfl), (xTB_s4 _ 129 (by decide +kernel) rfl)⟩, by decide +kernel⟩
set_option maxRecDepth 100000 in
theorem lkL_76 : xlV "FaceZonesLaw" 76 mA_whyNot 4 7 := ⟨⟨⟨(xTB_s4 _ 139 (by decide +kernel) rfl), (xTB_s1 _ 1 (by decide +kernel) rfl), (xTB_s4 _ 142 (by decide +kernel) rfl)⟩, ⟨by decide +kernel, by decide +kernel, by decide +kernel⟩⟩, ⟨(xTB_s4 _ 140 (by decide +kernel) rfl), (xTB_s4 _ 141 (by decide +kernel) rfl)⟩, by decide +kernel⟩
set_option maxRecDepth 100000 in
theorem lkL_79 : xlV "FaceZonesLaw" 79 mA_grown 1 7 := ⟨⟨⟨(xTB_s4 _ 146 (by decide +kernel) rfl), (xTB_s1 _ 1 (by decide +kernel) rfl), (xTB_s4 _ 149 (by decide +kernel) rfl)⟩, ⟨by decide +kernel, by decide +kernel, by decide +kernel⟩⟩, ⟨(xTB_s4 _ 147 (by decide +kernel) rfl), (xTB_s4 _ 148 (by decide +kernel) rfl)⟩, by decide +kernel⟩
set_option maxRecDepth 100000 in
theorem lkL_82 : xlV "FaceZonesLaw" 82 mA_runScript 2 7 := ⟨⟨⟨(xTB_s4 _ 175 (by decide +kernel) rfl), (xTB_s1 _ 1 (by decide +kernel) rfl), (xTB_s4 _ 178 (by decide +kernel) rfl)⟩, ⟨by decide +kernel, by decide +kernel, by decide +kernel⟩⟩, ⟨(xTB_s4 _ 176 (by decide +kernel) rfl), (xTB_s4 _ 177 (by decide +kernel) rfl)⟩, by decide +kernel⟩
set_option maxRecDepth 100000 in
theorem lkL_86 : xlV "FaceZonesLaw" 86 mA_simulate 2 7 := ⟨⟨⟨(xTB_s4 _ 232 (by decide +kernel) rfl), (xTB_s1 _ 1 (by decide +kernel) rfl), (xTB_s4 _ 235 (by decide +kernel) rfl)⟩, ⟨by decide +kernel, by decide +kernel, by decide +kernel⟩⟩, ⟨(xTB_s4 _ 233 (by decide +kernel) rfl), (xTB_s4 _ 234 (by decide +kernel) rfl)⟩, by decide +kernel⟩
set_option maxRecDepth 100000 in
theorem lkL_90 : xlV "FaceZonesLaw" 90 mA_save 1 7 := ⟨⟨⟨(xTB_s5 _ 5 (by decide +kernel) rfl), (xTB_s1 _ 1 (by decide +kernel) rfl), (xTB_s5 _ 8 (by decide +kernel) rfl)⟩, ⟨by decide +kernel, by decide +kernel, by decide +kernel⟩⟩, ⟨(xTB_s5 _ 6 (by decide +kernel) rfl), (xTB_s5 _ 7 (by decide +kernel) rfl)⟩, by decide +kernel⟩
set_option maxRecDepth 100000 in
theorem lkL_93 : xlV "FaceZonesLaw" 93 mA_restore 1 7 := ⟨⟨⟨(xTB_s5 _ 16 (by decide +kernel) rfl), (xTB_s1 _ 1 (by decide +kernel) rfl), (xTB_s5 _ 19 (by decide +kernel) rfl)⟩, ⟨by decide +kernel, by decide +kernel, by decide +kernel⟩⟩, ⟨(xTB_s5 _ 17 (by decide +kernel) rfl), (xTB_s5 _ 18 (by decide +kernel) rfl)⟩, by decide +kernel⟩
set_option maxRecDepth 100000 in
theorem lkL_96 : xlI "FaceZonesLaw" 96 mA_init 0 := ⟨⟨⟨(xTB_s1 _ 21 (by decide +kernel) rfl), (xTB_s1 _ 1 (by decide +kernel) rfl), (xTB_s1 _ 23 (by decide +kernel) rfl)⟩, ⟨by decide +kernel, by decide +kernel, by decide +kernel⟩⟩, (xTB_s1 _ 22 (by decide +kernel) rfl), rfl, rfl⟩
set_option maxRecDepth 100000 in
theorem lkL_99 : xlI "FaceZonesLaw" 99 mB_init 0 := ⟨⟨⟨(xTB_s5 _ 23 (by decide +kernel) rfl), (xTB_s1 _ 9 (by decide +kernel) rfl), (xTB_s5 _ 25 (by decide +kernel) rfl)⟩, ⟨by decide +kernel, by decide +kernel, by decide +kernel⟩⟩, (xTB_s5 _ 24 (by decide +kernel) rfl), rfl, rfl⟩
set_option maxRecDepth 100000 in
theorem lkL_105 : xlV "FaceZonesLaw" 105 mB_append 1 8 := ⟨⟨⟨(xTB_s5 _ 105 (by decide +kernel) rfl), (xTB_s1 _ 9 (by decide +kernel) rfl), (xTB_s5 _ 108 (by decide +kernel) rfl)⟩, ⟨by decide +kernel, by decide +kernel, by decide +kernel⟩⟩, ⟨(xTB_s5 _ 106 (by decide +kernel) rfl), (xTB_s5 _ 107 (by decide +kernel) rfl)⟩, by decide +kernel⟩
set_option maxRecDepth 100000 in
theorem lkL_106 : xlV "FaceZonesLaw" 106 mB_thrown 0 8 := ⟨⟨⟨(xTB_s5 _ 101 (by decide +kernel) rfl), (xTB_s1 _ 9 (by decide +kernel) rfl), (xTB_s5 _ 104 (by decide +kernel) rfl)⟩, ⟨by decide +kernel, by decide +kernel, by decide +kernel⟩⟩, ⟨(xTB_s5 _ 102 (by decide +kernel) rfl), (xTB_s5 _ 103 (by decide +kernel) rfl)⟩, by decide +kernel⟩
set_option maxRecDepth 100000 in
theorem lkL_109 : xlV "FaceZonesLaw" 109 mA_clearText 0 7 := ⟨⟨⟨(xTB_s2 _ 72 (by decide +kernel) rfl), (xTB_s1 _ 1 (by decide +kernel) rfl), (xTB_s2 _ 75 (by decide +kernel) rfl)⟩, ⟨by decide +kernel, by decide +kernel, by decide +kernel⟩⟩, ⟨(xTB_s2 _ 73 (by decide +kernel) rfl), (xTB_s2 _ 74 (by decide +kernel) rfl)⟩, by decide +kernel⟩
set_option maxRecDepth 100000 in
theorem lkL_112 : xlV "FaceZonesLaw" 112 mB_clearText 0 8 := ⟨⟨⟨(xTB_s5 _ 117 (by decide +kernel) rfl), (xTB_s1 _ 9 (by decide +kernel) rfl), (xTB_s5 _ 120 (by decide +kernel) rfl)⟩, ⟨by decide +kernel, by decide +kernel, by decide +kernel⟩⟩, ⟨(xTB_s5 _ 118 (by decide +kernel) rfl), (xTB_s5 _ 119 (by decide +kernel) rfl)⟩, by decide +kernel⟩
set_option maxRecDepth 100000 in
theorem lkL_113 : xlV "FaceZonesLaw" 113 mA_errorPosition 0 7 := ⟨⟨⟨(xTB_s2 _ 76 (by decide +kernel) rfl), (xTB_s1 _ 1 (by decide +kernel) rfl), (xTB_s2 _ 79 (by decide +kernel) rfl)⟩, ⟨by decide +kernel, by decide +kernel, by decide +kernel⟩⟩, ⟨(xTB_s2 _ 77 (by decide +kernel) rfl), (xTB_s2 _ 78 (by decide +kernel) rfl)⟩, by decide +kernel⟩
set_option maxRecDepth 100000 in
theorem lkL_116 : xlV "FaceZonesLaw" 116 mB_errorPosition 0 8 := ⟨⟨⟨(xTB_s5 _ 121 (by decide +kernel) rfl), (xTB_s1 _ 9 (by decide +kernel) rfl), (xTB_s5 _ 124 (by decide +kernel) rfl)⟩, ⟨by decide +kernel, by decide +kernel, by decide +kernel⟩⟩, ⟨(xTB_s5 _ 122 (by decide +kernel) rfl), (xTB_s5 _ 123 (by decide +kernel) rfl)⟩, by decide +kernel⟩
set_option maxRecDepth 100000 in
theorem lkL_120 : xlV "FaceZonesLaw" 120 mB_load 0 8 := ⟨⟨⟨(xTB_s5 _ 187 (by decide +kernel) rfl), (xTB_s1 _ 9 (by decide +kernel) rfl), (xTB_s5 _ 190 (by decide +kernel) rfl)⟩, ⟨by decide +kernel, by decide +kernel, by decide +kernel⟩⟩, ⟨(xTB_s5 _ 188 (by decide +kernel) rfl), (xTB_s5 _ 189 (by decide +kernel) rfl)⟩, by decide +kernel⟩
set_option maxRecDepth 100000 in
theorem lkL_123 : xlV "FaceZonesLaw" 123 mB_about 1 8 := ⟨⟨⟨(xTB_s5 _ 194 (by decide +kernel) rfl), (xTB_s1 _ 9 (by decide +kernel) rfl), (xTB_s5 _ 197 (by decide +kernel) rfl)⟩, ⟨by decide +kernel, by decide +kernel, by decide +kernel⟩⟩, ⟨(xTB_s5 _ 195 (by decide +kernel) rfl), (xTB_s5 _ 196 (by decide +kernel) rfl)⟩, by decide +kernel⟩
set_option maxRecDepth 100000 in
theorem lkL_127 : xlV "FaceZonesLaw" 127 mB_face 2 8 := ⟨⟨⟨(xTB_s6 _ 17 (by decide +kernel) rfl), (xTB_s1 _ 9 (by decide +kernel) rfl), (xTB_s6 _ 20 (by decide +kernel) rfl)⟩, ⟨by decide +kernel, by decide +kernel, by decide +kernel⟩⟩, ⟨(xTB_s6 _ 18 (by decide +kernel) rfl), (xTB_s6 _ 19 (by decide +kernel) rfl)⟩, by decide +kernel⟩
set_option maxRecDepth 100000 in
theorem lkL_130 : xlV "FaceZonesLaw" 130 mB_zone 2 8 := ⟨⟨⟨(xTB_s6 _ 42 (by decide +kernel) rfl), (xTB_s1 _ 9 (by decide +kernel) rfl), (xTB_s6 _ 45 (by decide +kernel) rfl)⟩, ⟨by decide +kernel, by decide +kernel, by decide +kernel⟩⟩, ⟨(xTB_s6 _ 43 (by decide +kernel) rfl), (xTB_s6 _ 44 (by decide +kernel) rfl)⟩, by decide +kernel⟩
set_option maxRecDepth 100000 in
theorem lkL_133 : xlV "FaceZonesLaw" 133 mB_zoneOf 2 8 := ⟨⟨⟨(xTB_s6 _ 51 (by decide +kernel) rfl), (xTB_s1 _ 9 (by decide +kernel) rfl), (xTB_s6 _ 54 (by decide +kernel) rfl)⟩, ⟨by decide +kernel, by decide +kernel, by decide +kernel⟩⟩, ⟨(xTB_s6 _ 52 (by decide +kernel) rfl), (xTB_s6 _ 53 (by decide +kernel) rfl)⟩, by decide +kernel⟩
set_option maxRecDepth 100000 in
theorem lkL_137 : xlV "FaceZonesLaw" 137 mB_inZone 3 8 := ⟨⟨⟨(xTB_s6 _ 55 (by decide +kernel) rfl), (xTB_s1 _ 9 (by decide +kernel) rfl), (xTB_s6 _ 58 (by decide +kernel) rfl)⟩, ⟨by decide +kernel, by decide +kernel, by decide +kernel⟩⟩, ⟨(xTB_s6 _ 56 (by decide +kernel) rfl), (xTB_s6 _ 57 (by decide +kernel) rfl)⟩, by decide +kernel⟩
set_option maxRecDepth 100000 in
theorem lkL_140 : xlV "FaceZonesLaw" 140 mB_cross 3 8 := ⟨⟨⟨(xTB_s6 _ 64 (by decide +kernel) rfl), (xTB_s1 _ 9 (by decide +kernel) rfl), (xTB_s6 _ 67 (by decide +kernel) rfl)⟩, ⟨by decide +kernel, by decide +kernel, by decide +kernel⟩⟩, ⟨(xTB_s6 _ 65 (by decide +kernel) rfl), (xTB_s6 _ 66 (by decide +kernel) rfl)⟩, by decide +kernel⟩
set_option maxRecDepth 100000 in
theorem lkL_143 : xlV "FaceZonesLaw" 143 mB_angle 2 8 := ⟨⟨⟨(xTB_s6 _ 70 (by decide +kernel) rfl), (xTB_s1 _ 9 (by decide +kernel) rfl), (xTB_s6 _ 73 (by decide +kernel) rfl)⟩, ⟨by decide +kernel, by decide +kernel, by decide +kernel⟩⟩, ⟨(xTB_s6 _ 71 (by decide +kernel) rfl), (xTB_s6 _ 72 (by decide +kernel) rfl)⟩, by decide +kernel⟩
set_option maxRecDepth 100000 in
theorem lkL_146 : xlV "FaceZonesLaw" 146 mB_sameForm 2 8 := ⟨⟨⟨(xTB_s6 _ 79 (by decide +kernel) rfl), (xTB_s1 _ 9 (by decide +kernel) rfl), (xTB_s6 _ 82 (by decide +kernel) rfl)⟩, ⟨by decide +kernel, by decide +kernel, by decide +kernel⟩⟩, ⟨(xTB_s6 _ 80 (by decide +kernel) rfl), (xTB_s6 _ 81 (by decide +kernel) rfl)⟩, by decide +kernel⟩
set_option maxRecDepth 100000 in
theorem lkL_150 : xlV "FaceZonesLaw" 150 mB_addFace 4 8 := ⟨⟨⟨(xTB_s6 _ 86 (by decide +kernel) rfl), (xTB_s1 _ 9 (by decide +kernel) rfl), (xTB_s6 _ 89 (by decide +kernel) rfl)⟩, ⟨by decide +kernel, by decide +kernel, by decide +kernel⟩⟩, ⟨(xTB_s6 _ 87 (by decide +kernel) rfl), (xTB_s6 _ 88 (by decide +kernel) rfl)⟩, by decide +kernel⟩
set_option maxRecDepth 100000 in
theorem lkL_153 : xlV "FaceZonesLaw" 153 mB_addForm 1 8 := ⟨⟨⟨(xTB_s6 _ 101 (by decide +kernel) rfl), (xTB_s1 _ 9 (by decide +kernel) rfl), (xTB_s6 _ 104 (by decide +kernel) rfl)⟩, ⟨by decide +kernel, by decide +kernel, by decide +kernel⟩⟩, ⟨(xTB_s6 _ 102 (by decide +kernel) rfl), (xTB_s6 _ 103 (by decide +kernel) rfl)⟩, by decide +kernel⟩
set_option maxRecDepth 100000 in
theorem lkL_156 : xlV "FaceZonesLaw" 156 mB_twin 1 8 := ⟨⟨⟨(xTB_s6 _ 117 (by decide +kernel) rfl), (xTB_s1 _ 9 (by decide +kernel) rfl), (xTB_s6 _ 120 (by decide +kernel) rfl)⟩, ⟨by decide +kernel, by decide +kernel, by decide +kernel⟩⟩, ⟨(xTB_s6 _ 118 (by decide +kernel) rfl), (xTB_s6 _ 119 (by decide +kernel) rfl)⟩, by decide +kernel⟩
set_option maxRecDepth 100000 in
theorem lkL_159 : xlV "FaceZonesLaw" 159 mB_remove 1 8 := ⟨⟨⟨(xTB_s6 _ 129 (by decide +kernel) rfl), (xTB_s1 _ 9 (by decide +kernel) rfl), (xTB_s6 _ 132 (by decide +kernel) rfl)⟩, ⟨by decide +kernel, by decide +kernel, by decide +kernel⟩⟩, ⟨(xTB_s6 _ 130 (by decide +kernel) rfl), (xTB_s6 _ 131 (by decide +kernel) rfl)⟩, by decide +kernel⟩
set_option maxRecDepth 100000 in
theorem lkL_162 : xlV "FaceZonesLaw" 162 mB_setSystem 1 8 := ⟨⟨⟨(xTB_s6 _ 136 (by decide +kernel) rfl), (xTB_s1 _ 9 (by decide +kernel) rfl), (xTB_s6 _ 139 (by decide +kernel) rfl)⟩, ⟨by decide +kernel, by decide +kernel, by decide +kernel⟩⟩, ⟨(xTB_s6 _ 137 (by decide +kernel) rfl), (xTB_s6 _ 138 (by decide +kernel) rfl)⟩, by decide +kernel⟩
set_option maxRecDepth 100000 in
theorem lkL_165 : xlV "FaceZonesLaw" 165 mB_setLeast 1 8 := ⟨⟨⟨(xTB_s6 _ 140 (by decide +kernel) rfl), (xTB_s1 _ 9 (by decide +kernel) rfl), (xTB_s6 _ 143 (by decide +kernel) rfl)⟩, ⟨by decide +kernel, by decide +kernel, by decide +kernel⟩⟩, ⟨(xTB_s6 _ 141 (by decide +kernel) rfl), (xTB_s6 _ 142 (by decide +kernel) rfl)⟩, by decide +kernel⟩
set_option maxRecDepth 100000 in
theorem lkL_168 : xlV "FaceZonesLaw" 168 mB_setTwin 3 8 := ⟨⟨⟨(xTB_s6 _ 145 (by decide +kernel) rfl), (xTB_s1 _ 9 (by decide +kernel) rfl), (xTB_s6 _ 148 (by decide +kernel) rfl)⟩, ⟨by decide +kernel, by decide +kernel, by decide +kernel⟩⟩, ⟨(xTB_s6 _ 146 (by decide +kernel) rfl), (xTB_s6 _ 147 (by decide +kernel) rfl)⟩, by decide +kernel⟩
set_option maxRecDepth 100000 in
theorem lkL_171 : xlV "FaceZonesLaw" 171 mB_undo 0 8 := ⟨⟨⟨(xTB_s6 _ 153 (by decide +kernel) rfl), (xTB_s1 _ 9 (by decide +kernel) rfl), (xTB_s6 _ 156 (by decide +kernel) rfl)⟩, ⟨by decide +kernel, by decide +kernel, by decide +kernel⟩⟩, ⟨(xTB_s6 _ 154 (by decide +kernel) rfl), (xTB_s6 _ 155 (by decide +kernel) rfl)⟩, by decide +kernel⟩
set_option maxRecDepth 100000 in
theorem lkL_174 : xlV "FaceZonesLaw" 174 mB_whyNot 4 8 := ⟨⟨⟨(xTB_s6 _ 157 (by decide +kernel) rfl), (xTB_s1 _ 9 (by decide +kernel) rfl), (xTB_s6 _ 160 (by decide +kernel) rfl)⟩, ⟨by decide +kernel, by decide +kernel, by decide +kernel⟩⟩, ⟨(xTB_s6 _ 158 (by decide +kernel) rfl), (xTB_s6 _ 159 (by decide +kernel) rfl)⟩, by decide +kernel⟩
set_option maxRecDepth 100000 in
theorem lkL_175 : xlV "FaceZonesLaw" 175 mA_bestTwin 0 7 := ⟨⟨⟨(xTB_s2 _ 151 (by decide +kernel) rfl), (xTB_s1 _ 1 (by decide +kernel) rfl), (xTB_s2 _ 154 (by decide +kernel) rfl)⟩, ⟨by decide +kernel, by decide +kernel, by decide +kernel⟩⟩, ⟨(xTB_s2 _ 152 (by decide +kernel) rfl), (xTB_s2 _ 153 (by decide +kernel) rfl)⟩, by decide +kernel⟩
set_option maxRecDepth 100000 in
theorem lkL_178 : xlV "FaceZonesLaw" 178 mB_bestTwin 0 8 := ⟨⟨⟨(xTB_s6 _ 161 (by decide +kernel) rfl), (xTB_s1 _ 9 (by decide +kernel) rfl), (xTB_s6 _ 164 (by decide +kernel) rfl)⟩, ⟨by decide +kernel, by decide +kernel, by decide +kernel⟩⟩, ⟨(xTB_s6 _ 162 (by decide +kernel) rfl), (xTB_s6 _ 163 (by decide +kernel) rfl)⟩, by decide +kernel⟩
set_option maxRecDepth 100000 in
theorem lkL_179 : xlV "FaceZonesLaw" 179 mA_keyFace 0 7 := ⟨⟨⟨(xTB_s2 _ 218 (by decide +kernel) rfl), (xTB_s1 _ 1 (by decide +kernel) rfl), (xTB_s2 _ 221 (by decide +kernel) rfl)⟩, ⟨by decide +kernel, by decide +kernel, by decide +kernel⟩⟩, ⟨(xTB_s2 _ 219 (by decide +kernel) rfl), (xTB_s2 _ 220 (by decide +kernel) rfl)⟩, by decide +kernel⟩
set_option maxRecDepth 100000 in
theorem lkL_182 : xlV "FaceZonesLaw" 182 mB_keyFace 0 8 := ⟨⟨⟨(xTB_s6 _ 165 (by decide +kernel) rfl), (xTB_s1 _ 9 (by decide +kernel) rfl), (xTB_s6 _ 168 (by decide +kernel) rfl)⟩, ⟨by decide +kernel, by decide +kernel, by decide +kernel⟩⟩, ⟨(xTB_s6 _ 166 (by decide +kernel) rfl), (xTB_s6 _ 167 (by decide +kernel) rfl)⟩, by decide +kernel⟩
set_option maxRecDepth 100000 in
theorem lkL_185 : xlV "FaceZonesLaw" 185 mB_grown 1 8 := ⟨⟨⟨(xTB_s6 _ 169 (by decide +kernel) rfl), (xTB_s1 _ 9 (by decide +kernel) rfl), (xTB_s6 _ 172 (by decide +kernel) rfl)⟩, ⟨by decide +kernel, by decide +kernel, by decide +kernel⟩⟩, ⟨(xTB_s6 _ 170 (by decide +kernel) rfl), (xTB_s6 _ 171 (by decide +kernel) rfl)⟩, by decide +kernel⟩
set_option maxRecDepth 100000 in
theorem lkL_191 : xlV "FaceZonesLaw" 191 mB_runScript 2 8 := ⟨⟨⟨(xTB_s6 _ 193 (by decide +kernel) rfl), (xTB_s1 _ 9 (by decide +kernel) rfl), (xTB_s6 _ 196 (by decide +kernel) rfl)⟩, ⟨by decide +kernel, by decide +kernel, by decide +kernel⟩⟩, ⟨(xTB_s6 _ 194 (by decide +kernel) rfl), (xTB_s6 _ 195 (by decide +kernel) rfl)⟩, by decide +kernel⟩
set_option maxRecDepth 100000 in
theorem lkL_195 : xlV "FaceZonesLaw" 195 mB_simulate 2 8 := ⟨⟨⟨(xTB_s6 _ 212 (by decide +kernel) rfl), (xTB_s1 _ 9 (by decide +kernel) rfl), (xTB_s6 _ 215 (by decide +kernel) rfl)⟩, ⟨by decide +kernel, by decide +kernel, by decide +kernel⟩⟩, ⟨(xTB_s6 _ 213 (by decide +kernel) rfl), (xTB_s6 _ 214 (by decide +kernel) rfl)⟩, by decide +kernel⟩
set_option maxRecDepth 100000 in
theorem lkL_198 : xlV "FaceZonesLaw" 198 mB_save 1 8 := ⟨⟨⟨(xTB_s6 _ 218 (by decide +kernel) rfl), (xTB_s1 _ 9 (by decide +kernel) rfl), (xTB_s6 _ 221 (by decide +kernel) rfl)⟩, ⟨by decide +kernel, by decide +kernel, by decide +kernel⟩⟩, ⟨(xTB_s6 _ 219 (by decide +kernel) rfl), (xTB_s6 _ 220 (by decide +kernel) rfl)⟩, by decide +kernel⟩
set_option maxRecDepth 100000 in
theorem lkL_201 : xlV "FaceZonesLaw" 201 mB_restore 1 8 := ⟨⟨⟨(xTB_s6 _ 222 (by decide +kernel) rfl), (xTB_s1 _ 9 (by decide +kernel) rfl), (xTB_s6 _ 225 (by decide +kernel) rfl)⟩, ⟨by decide +kernel, by decide +kernel, by decide +kernel⟩⟩, ⟨(xTB_s6 _ 223 (by decide +kernel) rfl), (xTB_s6 _ 224 (by decide +kernel) rfl)⟩, by decide +kernel⟩
set_option maxRecDepth 100000 in
theorem lkB_60 : xlS "FaceZonesModel" 60 mB_clean 1 := ⟨⟨⟨(xTB_s5 _ 27 (by decide +kernel) rfl), (xTB_s1 _ 9 (by decide +kernel) rfl), (xTB_s5 _ 29 (by decide +kernel) rfl)⟩, ⟨by decide +kernel, by decide +kernel, by decide +kernel⟩⟩, (xTB_s5 _ 28 (by decide +kernel) rfl)⟩
set_option maxRecDepth 100000 in
theorem lkB_70 : xlS "FaceZonesModel" 70 mB_size 1 := ⟨⟨⟨(xTB_s5 _ 166 (by decide +kernel) rfl), (xTB_s1 _ 9 (by decide +kernel) rfl), (xTB_s5 _ 168 (by decide +kernel) rfl)⟩, ⟨by decide +kernel, by decide +kernel, by decide +kernel⟩⟩, (xTB_s5 _ 167 (by decide +kernel) rfl)⟩
set_option maxRecDepth 100000 in
theorem lkB_77 : xlS "FaceZonesModel" 77 mB_copy 5 := ⟨⟨⟨(xTB_s5 _ 191 (by decide +kernel) rfl), (xTB_s1 _ 9 (by decide +kernel) rfl), (xTB_s5 _ 193 (by decide +kernel) rfl)⟩, ⟨by decide +kernel, by decide +kernel, by decide +kernel⟩⟩, (xTB_s5 _ 192 (by decide +kernel) rfl)⟩
set_option maxRecDepth 100000 in
theorem lkB_81 : xlS "FaceZonesModel" 81 mB_divisor 2 := ⟨⟨⟨(xTB_s5 _ 163 (by decide +kernel) rfl), (xTB_s1 _ 9 (by decide +kernel) rfl), (xTB_s5 _ 165 (by decide +kernel) rfl)⟩, ⟨by decide +kernel, by decide +kernel, by decide +kernel⟩⟩, (xTB_s5 _ 164 (by decide +kernel) rfl)⟩
set_option maxRecDepth 100000 in
theorem lkB_85 : xlV "FaceZonesModel" 85 mB_divide 3 8 := ⟨⟨⟨(xTB_s5 _ 159 (by decide +kernel) rfl), (xTB_s1 _ 9 (by decide +kernel) rfl), (xTB_s5 _ 162 (by decide +kernel) rfl)⟩, ⟨by decide +kernel, by decide +kernel, by decide +kernel⟩⟩, ⟨(xTB_s5 _ 161 (by decide +kernel) rfl), (xTB_s0 _ 44 (by decide +kernel) rfl)⟩, by decide +kernel⟩
set_option maxRecDepth 100000 in
theorem lkB_89 : xlV "FaceZonesModel" 89 mB_normalize 3 8 := ⟨⟨⟨(xTB_s5 _ 222 (by decide +kernel) rfl), (xTB_s1 _ 9 (by decide +kernel) rfl), (xTB_s5 _ 225 (by decide +kernel) rfl)⟩, ⟨by decide +kernel, by decide +kernel, by decide +kernel⟩⟩, ⟨(xTB_s5 _ 224 (by decide +kernel) rfl), (xTB_s0 _ 53 (by decide +kernel) rfl)⟩, by decide +kernel⟩
set_option maxRecDepth 100000 in
theorem lkB_92 : xlS "FaceZonesModel" 92 mB_cell 2 := ⟨⟨⟨(xTB_s5 _ 176 (by decide +kernel) rfl), (xTB_s1 _ 9 (by decide +kernel) rfl), (xTB_s5 _ 178 (by decide +kernel) rfl)⟩, ⟨by decide +kernel, by decide +kernel, by decide +kernel⟩⟩, (xTB_s5 _ 177 (by decide +kernel) rfl)⟩
set_option maxRecDepth 100000 in
theorem lkB_98 : xlV "FaceZonesModel" 98 mB_crossOf 6 8 := ⟨⟨⟨(xTB_s5 _ 218 (by decide +kernel) rfl), (xTB_s1 _ 9 (by decide +kernel) rfl), (xTB_s5 _ 221 (by decide +kernel) rfl)⟩, ⟨by decide +kernel, by decide +kernel, by decide +kernel⟩⟩, ⟨(xTB_s5 _ 220 (by decide +kernel) rfl), (xTB_s0 _ 52 (by decide +kernel) rfl)⟩, by decide +kernel⟩
set_option maxRecDepth 100000 in
theorem lkB_102 : xlV "FaceZonesModel" 102 mB_lies 4 8 := ⟨⟨⟨(xTB_s5 _ 234 (by decide +kernel) rfl), (xTB_s1 _ 9 (by decide +kernel) rfl), (xTB_s5 _ 237 (by decide +kernel) rfl)⟩, ⟨by decide +kernel, by decide +kernel, by decide +kernel⟩⟩, ⟨(xTB_s5 _ 236 (by decide +kernel) rfl), (xTB_s0 _ 56 (by decide +kernel) rfl)⟩, by decide +kernel⟩
set_option maxRecDepth 100000 in
theorem lkB_110 : xlS "FaceZonesModel" 110 mB_count 1 := ⟨⟨⟨(xTB_s5 _ 238 (by decide +kernel) rfl), (xTB_s1 _ 9 (by decide +kernel) rfl), (xTB_s6 _ 0 (by decide +kernel) rfl)⟩, ⟨by decide +kernel, by decide +kernel, by decide +kernel⟩⟩, (xTB_s5 _ 239 (by decide +kernel) rfl)⟩
set_option maxRecDepth 100000 in
theorem lkB_114 : xlV "FaceZonesModel" 114 mB_isAhead 2 8 := ⟨⟨⟨(xTB_s6 _ 5 (by decide +kernel) rfl), (xTB_s1 _ 9 (by decide +kernel) rfl), (xTB_s6 _ 8 (by decide +kernel) rfl)⟩, ⟨by decide +kernel, by decide +kernel, by decide +kernel⟩⟩, ⟨(xTB_s6 _ 7 (by decide +kernel) rfl), (xTB_s0 _ 58 (by decide +kernel) rfl)⟩, by decide +kernel⟩
set_option maxRecDepth 100000 in
theorem lkB_118 : xlV "FaceZonesModel" 118 mB_layWays 1 8 := ⟨⟨⟨(xTB_s5 _ 209 (by decide +kernel) rfl), (xTB_s1 _ 9 (by decide +kernel) rfl), (xTB_s5 _ 212 (by decide +kernel) rfl)⟩, ⟨by decide +kernel, by decide +kernel, by decide +kernel⟩⟩, ⟨(xTB_s5 _ 211 (by decide +kernel) rfl), (xTB_s0 _ 50 (by decide +kernel) rfl)⟩, by decide +kernel⟩
set_option maxRecDepth 100000 in
theorem lkB_121 : xlV "FaceZonesModel" 121 mB_crossWays 2 8 := ⟨⟨⟨(xTB_s5 _ 214 (by decide +kernel) rfl), (xTB_s1 _ 9 (by decide +kernel) rfl), (xTB_s5 _ 217 (by decide +kernel) rfl)⟩, ⟨by decide +kernel, by decide +kernel, by decide +kernel⟩⟩, ⟨(xTB_s5 _ 216 (by decide +kernel) rfl), (xTB_s0 _ 51 (by decide +kernel) rfl)⟩, by decide +kernel⟩
set_option maxRecDepth 100000 in
theorem lkB_125 : xlV "FaceZonesModel" 125 mB_isNothing 0 8 := ⟨⟨⟨(xTB_s5 _ 169 (by decide +kernel) rfl), (xTB_s1 _ 9 (by decide +kernel) rfl), (xTB_s5 _ 172 (by decide +kernel) rfl)⟩, ⟨by decide +kernel, by decide +kernel, by decide +kernel⟩⟩, ⟨(xTB_s5 _ 171 (by decide +kernel) rfl), (xTB_s0 _ 45 (by decide +kernel) rfl)⟩, by decide +kernel⟩
set_option maxRecDepth 100000 in
theorem lkB_129 : xlV "FaceZonesModel" 129 mB_zoneBy 0 8 := ⟨⟨⟨(xTB_s5 _ 226 (by decide +kernel) rfl), (xTB_s1 _ 9 (by decide +kernel) rfl), (xTB_s5 _ 229 (by decide +kernel) rfl)⟩, ⟨by decide +kernel, by decide +kernel, by decide +kernel⟩⟩, ⟨(xTB_s5 _ 228 (by decide +kernel) rfl), (xTB_s0 _ 54 (by decide +kernel) rfl)⟩, by decide +kernel⟩
set_option maxRecDepth 100000 in
theorem lkB_133 : xlV "FaceZonesModel" 133 mB_facesIn 4 8 := ⟨⟨⟨(xTB_s5 _ 230 (by decide +kernel) rfl), (xTB_s1 _ 9 (by decide +kernel) rfl), (xTB_s5 _ 233 (by decide +kernel) rfl)⟩, ⟨by decide +kernel, by decide +kernel, by decide +kernel⟩⟩, ⟨(xTB_s5 _ 232 (by decide +kernel) rfl), (xTB_s0 _ 55 (by decide +kernel) rfl)⟩, by decide +kernel⟩
set_option maxRecDepth 100000 in
theorem lkB_137 : xlV "FaceZonesModel" 137 mB_putZone 1 8 := ⟨⟨⟨(xTB_s6 _ 1 (by decide +kernel) rfl), (xTB_s1 _ 9 (by decide +kernel) rfl), (xTB_s6 _ 4 (by decide +kernel) rfl)⟩, ⟨by decide +kernel, by decide +kernel, by decide +kernel⟩⟩, ⟨(xTB_s6 _ 3 (by decide +kernel) rfl), (xTB_s0 _ 57 (by decide +kernel) rfl)⟩, by decide +kernel⟩
set_option maxRecDepth 100000 in
theorem lkB_141 : xlV "FaceZonesModel" 141 mB_layZones 1 8 := ⟨⟨⟨(xTB_s5 _ 205 (by decide +kernel) rfl), (xTB_s1 _ 9 (by decide +kernel) rfl), (xTB_s5 _ 208 (by decide +kernel) rfl)⟩, ⟨by decide +kernel, by decide +kernel, by decide +kernel⟩⟩, ⟨(xTB_s5 _ 207 (by decide +kernel) rfl), (xTB_s0 _ 49 (by decide +kernel) rfl)⟩, by decide +kernel⟩
set_option maxRecDepth 100000 in
theorem lkB_144 : xlS "FaceZonesModel" 144 mB_areLike 2 := ⟨⟨⟨(xTB_s6 _ 39 (by decide +kernel) rfl), (xTB_s1 _ 9 (by decide +kernel) rfl), (xTB_s6 _ 41 (by decide +kernel) rfl)⟩, ⟨by decide +kernel, by decide +kernel, by decide +kernel⟩⟩, (xTB_s6 _ 40 (by decide +kernel) rfl)⟩
set_option maxRecDepth 100000 in
theorem lkB_148 : xlS "FaceZonesModel" 148 mB_areEquivalent 7 := ⟨⟨⟨(xTB_s6 _ 36 (by decide +kernel) rfl), (xTB_s1 _ 9 (by decide +kernel) rfl), (xTB_s6 _ 38 (by decide +kernel) rfl)⟩, ⟨by decide +kernel, by decide +kernel, by decide +kernel⟩⟩, (xTB_s6 _ 37 (by decide +kernel) rfl)⟩
set_option maxRecDepth 100000 in
theorem lkB_152 : xlS "FaceZonesModel" 152 mB_isLike 5 := ⟨⟨⟨(xTB_s6 _ 33 (by decide +kernel) rfl), (xTB_s1 _ 9 (by decide +kernel) rfl), (xTB_s6 _ 35 (by decide +kernel) rfl)⟩, ⟨by decide +kernel, by decide +kernel, by decide +kernel⟩⟩, (xTB_s6 _ 34 (by decide +kernel) rfl)⟩
set_option maxRecDepth 100000 in
theorem lkB_156 : xlS "FaceZonesModel" 156 mB_faceBy 5 := ⟨⟨⟨(xTB_s5 _ 173 (by decide +kernel) rfl), (xTB_s1 _ 9 (by decide +kernel) rfl), (xTB_s5 _ 175 (by decide +kernel) rfl)⟩, ⟨by decide +kernel, by decide +kernel, by decide +kernel⟩⟩, (xTB_s5 _ 174 (by decide +kernel) rfl)⟩
set_option maxRecDepth 100000 in
theorem lkB_160 : xlV "FaceZonesModel" 160 mB_why 5 8 := ⟨⟨⟨(xTB_s5 _ 155 (by decide +kernel) rfl), (xTB_s1 _ 9 (by decide +kernel) rfl), (xTB_s5 _ 158 (by decide +kernel) rfl)⟩, ⟨by decide +kernel, by decide +kernel, by decide +kernel⟩⟩, ⟨(xTB_s5 _ 157 (by decide +kernel) rfl), (xTB_s0 _ 43 (by decide +kernel) rfl)⟩, by decide +kernel⟩
set_option maxRecDepth 100000 in
theorem lkB_164 : xlV "FaceZonesModel" 164 mB_adds 5 8 := ⟨⟨⟨(xTB_s5 _ 151 (by decide +kernel) rfl), (xTB_s1 _ 9 (by decide +kernel) rfl), (xTB_s5 _ 154 (by decide +kernel) rfl)⟩, ⟨by decide +kernel, by decide +kernel, by decide +kernel⟩⟩, ⟨(xTB_s5 _ 153 (by decide +kernel) rfl), (xTB_s0 _ 42 (by decide +kernel) rfl)⟩, by decide +kernel⟩
set_option maxRecDepth 100000 in
theorem lkB_169 : xlS "FaceZonesModel" 169 mB_in 3 := ⟨⟨⟨(xTB_s5 _ 110 (by decide +kernel) rfl), (xTB_s1 _ 9 (by decide +kernel) rfl), (xTB_s5 _ 112 (by decide +kernel) rfl)⟩, ⟨by decide +kernel, by decide +kernel, by decide +kernel⟩⟩, (xTB_s5 _ 111 (by decide +kernel) rfl)⟩
set_option maxRecDepth 100000 in
theorem lkB_176 : xlV "FaceZonesModel" 176 mB_refused 1 8 := ⟨⟨⟨(xTB_s5 _ 113 (by decide +kernel) rfl), (xTB_s1 _ 9 (by decide +kernel) rfl), (xTB_s5 _ 116 (by decide +kernel) rfl)⟩, ⟨by decide +kernel, by decide +kernel, by decide +kernel⟩⟩, ⟨(xTB_s5 _ 115 (by decide +kernel) rfl), (xTB_s0 _ 35 (by decide +kernel) rfl)⟩, by decide +kernel⟩
set_option maxRecDepth 100000 in
theorem lkB_189 : xlV "FaceZonesModel" 189 mB_accept 1 8 := ⟨⟨⟨(xTB_s5 _ 133 (by decide +kernel) rfl), (xTB_s1 _ 9 (by decide +kernel) rfl), (xTB_s5 _ 136 (by decide +kernel) rfl)⟩, ⟨by decide +kernel, by decide +kernel, by decide +kernel⟩⟩, ⟨(xTB_s5 _ 135 (by decide +kernel) rfl), (xTB_s0 _ 38 (by decide +kernel) rfl)⟩, by decide +kernel⟩
set_option maxRecDepth 100000 in
theorem lkB_193 : xlV "FaceZonesModel" 193 mB_isNext 1 8 := ⟨⟨⟨(xTB_s5 _ 129 (by decide +kernel) rfl), (xTB_s1 _ 9 (by decide +kernel) rfl), (xTB_s5 _ 132 (by decide +kernel) rfl)⟩, ⟨by decide +kernel, by decide +kernel, by decide +kernel⟩⟩, ⟨(xTB_s5 _ 131 (by decide +kernel) rfl), (xTB_s0 _ 37 (by decide +kernel) rfl)⟩, by decide +kernel⟩
set_option maxRecDepth 100000 in
theorem lkB_196 : xlV "FaceZonesModel" 196 mB_digit 2 8 := ⟨⟨⟨(xTB_s5 _ 137 (by decide +kernel) rfl), (xTB_s1 _ 9 (by decide +kernel) rfl), (xTB_s5 _ 140 (by decide +kernel) rfl)⟩, ⟨by decide +kernel, by decide +kernel, by decide +kernel⟩⟩, ⟨(xTB_s5 _ 139 (by decide +kernel) rfl), (xTB_s0 _ 39 (by decide +kernel) rfl)⟩, by decide +kernel⟩
set_option maxRecDepth 100000 in
theorem lkB_202 : xlV "FaceZonesModel" 202 mB_index 2 8 := ⟨⟨⟨(xTB_s5 _ 147 (by decide +kernel) rfl), (xTB_s1 _ 9 (by decide +kernel) rfl), (xTB_s5 _ 150 (by decide +kernel) rfl)⟩, ⟨by decide +kernel, by decide +kernel, by decide +kernel⟩⟩, ⟨(xTB_s5 _ 149 (by decide +kernel) rfl), (xTB_s0 _ 41 (by decide +kernel) rfl)⟩, by decide +kernel⟩
set_option maxRecDepth 100000 in
theorem lkB_206 : xlV "FaceZonesModel" 206 mB_setPlane 4 8 := ⟨⟨⟨(xTB_s5 _ 183 (by decide +kernel) rfl), (xTB_s1 _ 9 (by decide +kernel) rfl), (xTB_s5 _ 186 (by decide +kernel) rfl)⟩, ⟨by decide +kernel, by decide +kernel, by decide +kernel⟩⟩, ⟨(xTB_s5 _ 185 (by decide +kernel) rfl), (xTB_s0 _ 47 (by decide +kernel) rfl)⟩, by decide +kernel⟩
set_option maxRecDepth 100000 in
theorem lkB_210 : xlV "FaceZonesModel" 210 mB_readFace 0 8 := ⟨⟨⟨(xTB_s5 _ 143 (by decide +kernel) rfl), (xTB_s1 _ 9 (by decide +kernel) rfl), (xTB_s5 _ 146 (by decide +kernel) rfl)⟩, ⟨by decide +kernel, by decide +kernel, by decide +kernel⟩⟩, ⟨(xTB_s5 _ 145 (by decide +kernel) rfl), (xTB_s0 _ 40 (by decide +kernel) rfl)⟩, by decide +kernel⟩
set_option maxRecDepth 100000 in
theorem lkB_213 : xlV "FaceZonesModel" 213 mB_readTwin 0 8 := ⟨⟨⟨(xTB_s5 _ 179 (by decide +kernel) rfl), (xTB_s1 _ 9 (by decide +kernel) rfl), (xTB_s5 _ 182 (by decide +kernel) rfl)⟩, ⟨by decide +kernel, by decide +kernel, by decide +kernel⟩⟩, ⟨(xTB_s5 _ 181 (by decide +kernel) rfl), (xTB_s0 _ 46 (by decide +kernel) rfl)⟩, by decide +kernel⟩
set_option maxRecDepth 100000 in
theorem lkB_216 : xlV "FaceZonesModel" 216 mB_readText 0 8 := ⟨⟨⟨(xTB_s5 _ 125 (by decide +kernel) rfl), (xTB_s1 _ 9 (by decide +kernel) rfl), (xTB_s5 _ 128 (by decide +kernel) rfl)⟩, ⟨by decide +kernel, by decide +kernel, by decide +kernel⟩⟩, ⟨(xTB_s5 _ 127 (by decide +kernel) rfl), (xTB_s0 _ 36 (by decide +kernel) rfl)⟩, by decide +kernel⟩
set_option maxRecDepth 100000 in
theorem lkB_219 : xlS "FaceZonesModel" 219 mB_twins 1 := ⟨⟨⟨(xTB_s5 _ 198 (by decide +kernel) rfl), (xTB_s1 _ 9 (by decide +kernel) rfl), (xTB_s5 _ 200 (by decide +kernel) rfl)⟩, ⟨by decide +kernel, by decide +kernel, by decide +kernel⟩⟩, (xTB_s5 _ 199 (by decide +kernel) rfl)⟩
set_option maxRecDepth 100000 in
theorem lkB_223 : xlV "FaceZonesModel" 223 mB_zonesOf 1 8 := ⟨⟨⟨(xTB_s5 _ 201 (by decide +kernel) rfl), (xTB_s1 _ 9 (by decide +kernel) rfl), (xTB_s5 _ 204 (by decide +kernel) rfl)⟩, ⟨by decide +kernel, by decide +kernel, by decide +kernel⟩⟩, ⟨(xTB_s5 _ 203 (by decide +kernel) rfl), (xTB_s0 _ 48 (by decide +kernel) rfl)⟩, by decide +kernel⟩
set_option maxRecDepth 100000 in
theorem lkB_226 : xlV "FaceZonesModel" 226 mB_directions 0 8 := ⟨⟨⟨(xTB_s6 _ 9 (by decide +kernel) rfl), (xTB_s1 _ 9 (by decide +kernel) rfl), (xTB_s6 _ 12 (by decide +kernel) rfl)⟩, ⟨by decide +kernel, by decide +kernel, by decide +kernel⟩⟩, ⟨(xTB_s6 _ 11 (by decide +kernel) rfl), (xTB_s0 _ 59 (by decide +kernel) rfl)⟩, by decide +kernel⟩
set_option maxRecDepth 100000 in
theorem lkB_229 : xlV "FaceZonesModel" 229 mB_longest 1 8 := ⟨⟨⟨(xTB_s6 _ 13 (by decide +kernel) rfl), (xTB_s1 _ 9 (by decide +kernel) rfl), (xTB_s6 _ 16 (by decide +kernel) rfl)⟩, ⟨by decide +kernel, by decide +kernel, by decide +kernel⟩⟩, ⟨(xTB_s6 _ 15 (by decide +kernel) rfl), (xTB_s0 _ 60 (by decide +kernel) rfl)⟩, by decide +kernel⟩
set_option maxRecDepth 100000 in
theorem lkB_232 : xlV "FaceZonesModel" 232 mB_isFace 1 8 := ⟨⟨⟨(xTB_s6 _ 21 (by decide +kernel) rfl), (xTB_s1 _ 9 (by decide +kernel) rfl), (xTB_s6 _ 24 (by decide +kernel) rfl)⟩, ⟨by decide +kernel, by decide +kernel, by decide +kernel⟩⟩, ⟨(xTB_s6 _ 23 (by decide +kernel) rfl), (xTB_s0 _ 61 (by decide +kernel) rfl)⟩, by decide +kernel⟩
set_option maxRecDepth 100000 in
theorem lkB_237 : xlV "FaceZonesModel" 237 mB_zonesAt 1 8 := ⟨⟨⟨(xTB_s6 _ 26 (by decide +kernel) rfl), (xTB_s1 _ 9 (by decide +kernel) rfl), (xTB_s6 _ 29 (by decide +kernel) rfl)⟩, ⟨by decide +kernel, by decide +kernel, by decide +kernel⟩⟩, ⟨(xTB_s6 _ 28 (by decide +kernel) rfl), (xTB_s0 _ 62 (by decide +kernel) rfl)⟩, by decide +kernel⟩
set_option maxRecDepth 100000 in
theorem lkB_240 : xlS "FaceZonesModel" 240 mB_formOf 2 := ⟨⟨⟨(xTB_s6 _ 30 (by decide +kernel) rfl), (xTB_s1 _ 9 (by decide +kernel) rfl), (xTB_s6 _ 32 (by decide +kernel) rfl)⟩, ⟨by decide +kernel, by decide +kernel, by decide +kernel⟩⟩, (xTB_s6 _ 31 (by decide +kernel) rfl)⟩
set_option maxRecDepth 100000 in
theorem lkB_244 : xlV "FaceZonesModel" 244 mB_isZoneNumber 1 8 := ⟨⟨⟨(xTB_s6 _ 46 (by decide +kernel) rfl), (xTB_s1 _ 9 (by decide +kernel) rfl), (xTB_s6 _ 49 (by decide +kernel) rfl)⟩, ⟨by decide +kernel, by decide +kernel, by decide +kernel⟩⟩, ⟨(xTB_s6 _ 48 (by decide +kernel) rfl), (xTB_s0 _ 63 (by decide +kernel) rfl)⟩, by decide +kernel⟩
set_option maxRecDepth 100000 in
theorem lkB_253 : xlS "FaceZonesModel" 253 mB_isAxis 1 := ⟨⟨⟨(xTB_s6 _ 59 (by decide +kernel) rfl), (xTB_s1 _ 9 (by decide +kernel) rfl), (xTB_s6 _ 61 (by decide +kernel) rfl)⟩, ⟨by decide +kernel, by decide +kernel, by decide +kernel⟩⟩, (xTB_s6 _ 60 (by decide +kernel) rfl)⟩
set_option maxRecDepth 100000 in
theorem lkB_260 : xlV "FaceZonesModel" 260 mB_product 2 8 := ⟨⟨⟨(xTB_s6 _ 74 (by decide +kernel) rfl), (xTB_s1 _ 9 (by decide +kernel) rfl), (xTB_s6 _ 77 (by decide +kernel) rfl)⟩, ⟨by decide +kernel, by decide +kernel, by decide +kernel⟩⟩, ⟨(xTB_s6 _ 76 (by decide +kernel) rfl), (xTB_s0 _ 64 (by decide +kernel) rfl)⟩, by decide +kernel⟩
set_option maxRecDepth 100000 in
theorem lkB_266 : xlS "FaceZonesModel" 266 mB_areOneForm 3 := ⟨⟨⟨(xTB_s6 _ 83 (by decide +kernel) rfl), (xTB_s1 _ 9 (by decide +kernel) rfl), (xTB_s6 _ 85 (by decide +kernel) rfl)⟩, ⟨by decide +kernel, by decide +kernel, by decide +kernel⟩⟩, (xTB_s6 _ 84 (by decide +kernel) rfl)⟩
set_option maxRecDepth 100000 in
theorem lkB_272 : xlS "FaceZonesModel" 272 mB_isIndex 1 := ⟨⟨⟨(xTB_s6 _ 93 (by decide +kernel) rfl), (xTB_s1 _ 9 (by decide +kernel) rfl), (xTB_s6 _ 95 (by decide +kernel) rfl)⟩, ⟨by decide +kernel, by decide +kernel, by decide +kernel⟩⟩, (xTB_s6 _ 94 (by decide +kernel) rfl)⟩
set_option maxRecDepth 100000 in
theorem lkB_275 : xlS "FaceZonesModel" 275 mB_areIndices 4 := ⟨⟨⟨(xTB_s6 _ 90 (by decide +kernel) rfl), (xTB_s1 _ 9 (by decide +kernel) rfl), (xTB_s6 _ 92 (by decide +kernel) rfl)⟩, ⟨by decide +kernel, by decide +kernel, by decide +kernel⟩⟩, (xTB_s6 _ 91 (by decide +kernel) rfl)⟩
set_option maxRecDepth 100000 in
theorem lkB_279 : xlV "FaceZonesModel" 279 mB_note 0 8 := ⟨⟨⟨(xTB_s6 _ 97 (by decide +kernel) rfl), (xTB_s1 _ 9 (by decide +kernel) rfl), (xTB_s6 _ 100 (by decide +kernel) rfl)⟩, ⟨by decide +kernel, by decide +kernel, by decide +kernel⟩⟩, ⟨(xTB_s6 _ 99 (by decide +kernel) rfl), (xTB_s0 _ 65 (by decide +kernel) rfl)⟩, by decide +kernel⟩
set_option maxRecDepth 100000 in
theorem lkB_282 : xlV "FaceZonesModel" 282 mB_begin 0 8 := ⟨⟨⟨(xTB_s6 _ 109 (by decide +kernel) rfl), (xTB_s1 _ 9 (by decide +kernel) rfl), (xTB_s6 _ 112 (by decide +kernel) rfl)⟩, ⟨by decide +kernel, by decide +kernel, by decide +kernel⟩⟩, ⟨(xTB_s6 _ 111 (by decide +kernel) rfl), (xTB_s0 _ 67 (by decide +kernel) rfl)⟩, by decide +kernel⟩
set_option maxRecDepth 100000 in
theorem lkB_285 : xlV "FaceZonesModel" 285 mB_addForms 2 8 := ⟨⟨⟨(xTB_s6 _ 113 (by decide +kernel) rfl), (xTB_s1 _ 9 (by decide +kernel) rfl), (xTB_s6 _ 116 (by decide +kernel) rfl)⟩, ⟨by decide +kernel, by decide +kernel, by decide +kernel⟩⟩, ⟨(xTB_s6 _ 115 (by decide +kernel) rfl), (xTB_s0 _ 68 (by decide +kernel) rfl)⟩, by decide +kernel⟩
set_option maxRecDepth 100000 in
theorem lkB_288 : xlV "FaceZonesModel" 288 mB_hasRoomForForm 1 8 := ⟨⟨⟨(xTB_s6 _ 105 (by decide +kernel) rfl), (xTB_s1 _ 9 (by decide +kernel) rfl), (xTB_s6 _ 108 (by decide +kernel) rfl)⟩, ⟨by decide +kernel, by decide +kernel, by decide +kernel⟩⟩, ⟨(xTB_s6 _ 107 (by decide +kernel) rfl), (xTB_s0 _ 66 (by decide +kernel) rfl)⟩, by decide +kernel⟩
set_option maxRecDepth 100000 in
theorem lkB_291 : xlV "FaceZonesModel" 291 mB_canTwin 1 8 := ⟨⟨⟨(xTB_s6 _ 121 (by decide +kernel) rfl), (xTB_s1 _ 9 (by decide +kernel) rfl), (xTB_s6 _ 124 (by decide +kernel) rfl)⟩, ⟨by decide +kernel, by decide +kernel, by decide +kernel⟩⟩, ⟨(xTB_s6 _ 123 (by decide +kernel) rfl), (xTB_s0 _ 69 (by decide +kernel) rfl)⟩, by decide +kernel⟩
set_option maxRecDepth 100000 in
theorem lkB_294 : xlV "FaceZonesModel" 294 mB_addsTwin 2 8 := ⟨⟨⟨(xTB_s6 _ 125 (by decide +kernel) rfl), (xTB_s1 _ 9 (by decide +kernel) rfl), (xTB_s6 _ 128 (by decide +kernel) rfl)⟩, ⟨by decide +kernel, by decide +kernel, by decide +kernel⟩⟩, ⟨(xTB_s6 _ 127 (by decide +kernel) rfl), (xTB_s0 _ 70 (by decide +kernel) rfl)⟩, by decide +kernel⟩
set_option maxRecDepth 100000 in
theorem lkB_298 : xlS "FaceZonesModel" 298 mB_drop 2 := ⟨⟨⟨(xTB_s6 _ 133 (by decide +kernel) rfl), (xTB_s1 _ 9 (by decide +kernel) rfl), (xTB_s6 _ 135 (by decide +kernel) rfl)⟩, ⟨by decide +kernel, by decide +kernel, by decide +kernel⟩⟩, (xTB_s6 _ 134 (by decide +kernel) rfl)⟩
set_option maxRecDepth 100000 in
theorem lkB_306 : xlS "FaceZonesModel" 306 mB_isPlane 3 := ⟨⟨⟨(xTB_s6 _ 149 (by decide +kernel) rfl), (xTB_s1 _ 9 (by decide +kernel) rfl), (xTB_s6 _ 151 (by decide +kernel) rfl)⟩, ⟨by decide +kernel, by decide +kernel, by decide +kernel⟩⟩, (xTB_s6 _ 150 (by decide +kernel) rfl)⟩
set_option maxRecDepth 100000 in
theorem lkB_312 : xlS "FaceZonesModel" 312 mB_isSmall 1 := ⟨⟨⟨(xTB_s6 _ 177 (by decide +kernel) rfl), (xTB_s1 _ 9 (by decide +kernel) rfl), (xTB_s6 _ 179 (by decide +kernel) rfl)⟩, ⟨by decide +kernel, by decide +kernel, by decide +kernel⟩⟩, (xTB_s6 _ 178 (by decide +kernel) rfl)⟩
set_option maxRecDepth 100000 in
theorem lkB_320 : xlV "FaceZonesModel" 320 mB_members 0 8 := ⟨⟨⟨(xTB_s6 _ 187 (by decide +kernel) rfl), (xTB_s1 _ 9 (by decide +kernel) rfl), (xTB_s6 _ 190 (by decide +kernel) rfl)⟩, ⟨by decide +kernel, by decide +kernel, by decide +kernel⟩⟩, ⟨(xTB_s6 _ 189 (by decide +kernel) rfl), (xTB_s0 _ 73 (by decide +kernel) rfl)⟩, by decide +kernel⟩
set_option maxRecDepth 100000 in
theorem lkB_327 : xlV "FaceZonesModel" 327 mB_grow 0 8 := ⟨⟨⟨(xTB_s6 _ 173 (by decide +kernel) rfl), (xTB_s1 _ 9 (by decide +kernel) rfl), (xTB_s6 _ 176 (by decide +kernel) rfl)⟩, ⟨by decide +kernel, by decide +kernel, by decide +kernel⟩⟩, ⟨(xTB_s6 _ 175 (by decide +kernel) rfl), (xTB_s0 _ 71 (by decide +kernel) rfl)⟩, by decide +kernel⟩
set_option maxRecDepth 100000 in
theorem lkB_330 : xlV "FaceZonesModel" 330 mB_goRound 0 8 := ⟨⟨⟨(xTB_s6 _ 183 (by decide +kernel) rfl), (xTB_s1 _ 9 (by decide +kernel) rfl), (xTB_s6 _ 186 (by decide +kernel) rfl)⟩, ⟨by decide +kernel, by decide +kernel, by decide +kernel⟩⟩, ⟨(xTB_s6 _ 185 (by decide +kernel) rfl), (xTB_s0 _ 72 (by decide +kernel) rfl)⟩, by decide +kernel⟩
set_option maxRecDepth 100000 in
theorem lkB_333 : xlS "FaceZonesModel" 333 mB_told 1 := ⟨⟨⟨(xTB_s6 _ 206 (by decide +kernel) rfl), (xTB_s1 _ 9 (by decide +kernel) rfl), (xTB_s6 _ 208 (by decide +kernel) rfl)⟩, ⟨by decide +kernel, by decide +kernel, by decide +kernel⟩⟩, (xTB_s6 _ 207 (by decide +kernel) rfl)⟩
set_option maxRecDepth 100000 in
theorem lkB_336 : xlS "FaceZonesModel" 336 mB_has 2 := ⟨⟨⟨(xTB_s6 _ 209 (by decide +kernel) rfl), (xTB_s1 _ 9 (by decide +kernel) rfl), (xTB_s6 _ 211 (by decide +kernel) rfl)⟩, ⟨by decide +kernel, by decide +kernel, by decide +kernel⟩⟩, (xTB_s6 _ 210 (by decide +kernel) rfl)⟩
set_option maxRecDepth 100000 in
theorem lkB_339 : xlS "FaceZonesModel" 339 mB_tenTo 1 := ⟨⟨⟨(xTB_s6 _ 197 (by decide +kernel) rfl), (xTB_s1 _ 9 (by decide +kernel) rfl), (xTB_s6 _ 199 (by decide +kernel) rfl)⟩, ⟨by decide +kernel, by decide +kernel, by decide +kernel⟩⟩, (xTB_s6 _ 198 (by decide +kernel) rfl)⟩
set_option maxRecDepth 100000 in
theorem lkB_345 : xlV "FaceZonesModel" 345 mB_does 1 8 := ⟨⟨⟨(xTB_s6 _ 202 (by decide +kernel) rfl), (xTB_s1 _ 9 (by decide +kernel) rfl), (xTB_s6 _ 205 (by decide +kernel) rfl)⟩, ⟨by decide +kernel, by decide +kernel, by decide +kernel⟩⟩, ⟨(xTB_s6 _ 204 (by decide +kernel) rfl), (xTB_s0 _ 74 (by decide +kernel) rfl)⟩, by decide +kernel⟩
def xlF (own : String) (idx ci k : Nat) : Prop := ∃ (C : String) (T : u_T) (N : Nat) (ty0 : Nat → FieldType), (vwCl[ci]? = some (C, T, N) ∧ k < N ∧ (T k).1 = C) ∧ (∀ w ∈ u_ws C T N, w ∈ xTB) ∧ Cond.fieldLink own idx C (T k).2.1 (T k).2.2.1 ∈ xTB ∧ (∀ j, j < N → parseFieldDescriptor (T j).2.2.1 = some (ty0 j)) ∧ (∀ a, a < N → ∀ b, b < N → a ≠ b → (T a).2.1 ≠ (T b).2.1)
def xlT (ci k : Nat) (ty : FieldType) (fin : Bool) (C : String) : Prop := ∃ (T : u_T) (N : Nat), vwCl[ci]? = some (C, T, N) ∧ parseFieldDescriptor (T k).2.2.1 = some ty ∧ (T k).2.2.2 = fin
set_option maxRecDepth 100000 in
theorem flA_10 : xlF "FaceZones" 10 7 0 := ⟨RX7, TX7, 12, tyX7, ⟨rfl, by decide, rfl⟩, inX7, (xTB_s2 _ 35 (by decide +kernel) rfl), tyX7_ok, nmX7⟩
set_option maxRecDepth 100000 in
theorem flA_19 : xlF "FaceZones" 19 7 1 := ⟨RX7, TX7, 12, tyX7, ⟨rfl, by decide, rfl⟩, inX7, (xTB_s2 _ 36 (by decide +kernel) rfl), tyX7_ok, nmX7⟩
set_option maxRecDepth 100000 in
theorem flA_23 : xlF "FaceZones" 23 7 2 := ⟨RX7, TX7, 12, tyX7, ⟨rfl, by decide, rfl⟩, inX7, (xTB_s2 _ 37 (by decide +kernel) rfl), tyX7_ok, nmX7⟩
set_option maxRecDepth 100000 in
theorem flA_29 : xlF "FaceZones" 29 7 3 := ⟨RX7, TX7, 12, tyX7, ⟨rfl, by decide, rfl⟩, inX7, (xTB_s2 _ 38 (by decide +kernel) rfl), tyX7_ok, nmX7⟩
set_option maxRecDepth 100000 in
theorem flA_33 : xlF "FaceZones" 33 7 4 := ⟨RX7, TX7, 12, tyX7, ⟨rfl, by decide, rfl⟩, inX7, (xTB_s2 _ 39 (by decide +kernel) rfl), tyX7_ok, nmX7⟩
set_option maxRecDepth 100000 in
theorem flA_37 : xlF "FaceZones" 37 7 5 := ⟨RX7, TX7, 12, tyX7, ⟨rfl, by decide, rfl⟩, inX7, (xTB_s2 _ 40 (by decide +kernel) rfl), tyX7_ok, nmX7⟩
set_option maxRecDepth 100000 in
theorem flA_44 : xlF "FaceZones" 44 7 6 := ⟨RX7, TX7, 12, tyX7, ⟨rfl, by decide, rfl⟩, inX7, (xTB_s2 _ 41 (by decide +kernel) rfl), tyX7_ok, nmX7⟩
set_option maxRecDepth 100000 in
theorem flA_48 : xlF "FaceZones" 48 7 7 := ⟨RX7, TX7, 12, tyX7, ⟨rfl, by decide, rfl⟩, inX7, (xTB_s2 _ 42 (by decide +kernel) rfl), tyX7_ok, nmX7⟩
set_option maxRecDepth 100000 in
theorem flA_54 : xlF "FaceZones" 54 7 8 := ⟨RX7, TX7, 12, tyX7, ⟨rfl, by decide, rfl⟩, inX7, (xTB_s2 _ 43 (by decide +kernel) rfl), tyX7_ok, nmX7⟩
set_option maxRecDepth 100000 in
theorem flA_61 : xlF "FaceZones" 61 7 9 := ⟨RX7, TX7, 12, tyX7, ⟨rfl, by decide, rfl⟩, inX7, (xTB_s2 _ 44 (by decide +kernel) rfl), tyX7_ok, nmX7⟩
set_option maxRecDepth 100000 in
theorem flA_68 : xlF "FaceZones" 68 7 10 := ⟨RX7, TX7, 12, tyX7, ⟨rfl, by decide, rfl⟩, inX7, (xTB_s2 _ 45 (by decide +kernel) rfl), tyX7_ok, nmX7⟩
set_option maxRecDepth 100000 in
theorem flA_72 : xlF "FaceZones" 72 7 11 := ⟨RX7, TX7, 12, tyX7, ⟨rfl, by decide, rfl⟩, inX7, (xTB_s2 _ 46 (by decide +kernel) rfl), tyX7_ok, nmX7⟩
set_option maxRecDepth 100000 in
theorem flA_80 : xlF "FaceZones" 80 1 1 := ⟨RX1, TX1, 5, tyX1, ⟨rfl, by decide, rfl⟩, inX1, (xTB_s1 _ 35 (by decide +kernel) rfl), tyX1_ok, nmX1⟩
set_option maxRecDepth 100000 in
theorem flA_106 : xlF "FaceZones" 106 0 4 := ⟨RX0, TX0, 12, tyX0, ⟨rfl, by decide, rfl⟩, inX0, (xTB_s1 _ 98 (by decide +kernel) rfl), tyX0_ok, nmX0⟩
set_option maxRecDepth 100000 in
theorem flA_113 : xlF "FaceZones" 113 0 5 := ⟨RX0, TX0, 12, tyX0, ⟨rfl, by decide, rfl⟩, inX0, (xTB_s1 _ 101 (by decide +kernel) rfl), tyX0_ok, nmX0⟩
set_option maxRecDepth 100000 in
theorem flA_116 : xlF "FaceZones" 116 0 6 := ⟨RX0, TX0, 12, tyX0, ⟨rfl, by decide, rfl⟩, inX0, (xTB_s1 _ 105 (by decide +kernel) rfl), tyX0_ok, nmX0⟩
set_option maxRecDepth 100000 in
theorem flA_123 : xlF "FaceZones" 123 6 5 := ⟨RX6, TX6, 6, tyX6, ⟨rfl, by decide, rfl⟩, inX6, (xTB_s1 _ 177 (by decide +kernel) rfl), tyX6_ok, nmX6⟩
set_option maxRecDepth 100000 in
theorem flA_131 : xlF "FaceZones" 131 0 7 := ⟨RX0, TX0, 12, tyX0, ⟨rfl, by decide, rfl⟩, inX0, (xTB_s1 _ 107 (by decide +kernel) rfl), tyX0_ok, nmX0⟩
set_option maxRecDepth 100000 in
theorem flA_134 : xlF "FaceZones" 134 0 8 := ⟨RX0, TX0, 12, tyX0, ⟨rfl, by decide, rfl⟩, inX0, (xTB_s1 _ 109 (by decide +kernel) rfl), tyX0_ok, nmX0⟩
set_option maxRecDepth 100000 in
theorem flA_137 : xlF "FaceZones" 137 0 9 := ⟨RX0, TX0, 12, tyX0, ⟨rfl, by decide, rfl⟩, inX0, (xTB_s1 _ 111 (by decide +kernel) rfl), tyX0_ok, nmX0⟩
set_option maxRecDepth 100000 in
theorem flA_148 : xlF "FaceZones" 148 0 0 := ⟨RX0, TX0, 12, tyX0, ⟨rfl, by decide, rfl⟩, inX0, (xTB_s1 _ 87 (by decide +kernel) rfl), tyX0_ok, nmX0⟩
set_option maxRecDepth 100000 in
theorem flA_152 : xlF "FaceZones" 152 0 1 := ⟨RX0, TX0, 12, tyX0, ⟨rfl, by decide, rfl⟩, inX0, (xTB_s1 _ 90 (by decide +kernel) rfl), tyX0_ok, nmX0⟩
set_option maxRecDepth 100000 in
theorem flA_155 : xlF "FaceZones" 155 0 2 := ⟨RX0, TX0, 12, tyX0, ⟨rfl, by decide, rfl⟩, inX0, (xTB_s1 _ 93 (by decide +kernel) rfl), tyX0_ok, nmX0⟩
set_option maxRecDepth 100000 in
theorem flA_158 : xlF "FaceZones" 158 0 3 := ⟨RX0, TX0, 12, tyX0, ⟨rfl, by decide, rfl⟩, inX0, (xTB_s1 _ 95 (by decide +kernel) rfl), tyX0_ok, nmX0⟩
set_option maxRecDepth 100000 in
theorem flA_161 : xlF "FaceZones" 161 6 0 := ⟨RX6, TX6, 6, tyX6, ⟨rfl, by decide, rfl⟩, inX6, (xTB_s1 _ 169 (by decide +kernel) rfl), tyX6_ok, nmX6⟩
set_option maxRecDepth 100000 in
theorem flA_165 : xlF "FaceZones" 165 5 0 := ⟨RX5, TX5, 3, tyX5, ⟨rfl, by decide, rfl⟩, inX5, (xTB_s1 _ 67 (by decide +kernel) rfl), tyX5_ok, nmX5⟩
set_option maxRecDepth 100000 in
theorem flA_169 : xlF "FaceZones" 169 5 1 := ⟨RX5, TX5, 3, tyX5, ⟨rfl, by decide, rfl⟩, inX5, (xTB_s1 _ 72 (by decide +kernel) rfl), tyX5_ok, nmX5⟩
set_option maxRecDepth 100000 in
theorem flA_172 : xlF "FaceZones" 172 5 2 := ⟨RX5, TX5, 3, tyX5, ⟨rfl, by decide, rfl⟩, inX5, (xTB_s1 _ 77 (by decide +kernel) rfl), tyX5_ok, nmX5⟩
set_option maxRecDepth 100000 in
theorem flA_187 : xlF "FaceZones" 187 6 1 := ⟨RX6, TX6, 6, tyX6, ⟨rfl, by decide, rfl⟩, inX6, (xTB_s1 _ 171 (by decide +kernel) rfl), tyX6_ok, nmX6⟩
set_option maxRecDepth 100000 in
theorem flA_190 : xlF "FaceZones" 190 6 2 := ⟨RX6, TX6, 6, tyX6, ⟨rfl, by decide, rfl⟩, inX6, (xTB_s1 _ 173 (by decide +kernel) rfl), tyX6_ok, nmX6⟩
set_option maxRecDepth 100000 in
theorem flA_285 : xlF "FaceZones" 285 4 2 := ⟨RX4, TX4, 3, tyX4, ⟨rfl, by decide, rfl⟩, inX4, (xTB_s1 _ 151 (by decide +kernel) rfl), tyX4_ok, nmX4⟩
set_option maxRecDepth 100000 in
theorem flA_356 : xlF "FaceZones" 356 2 3 := ⟨RX2, TX2, 8, tyX2, ⟨rfl, by decide, rfl⟩, inX2, (xTB_s1 _ 207 (by decide +kernel) rfl), tyX2_ok, nmX2⟩
set_option maxRecDepth 100000 in
theorem flA_357 : xlF "FaceZones" 357 2 0 := ⟨RX2, TX2, 8, tyX2, ⟨rfl, by decide, rfl⟩, inX2, (xTB_s1 _ 201 (by decide +kernel) rfl), tyX2_ok, nmX2⟩
set_option maxRecDepth 100000 in
theorem flA_358 : xlF "FaceZones" 358 2 1 := ⟨RX2, TX2, 8, tyX2, ⟨rfl, by decide, rfl⟩, inX2, (xTB_s1 _ 203 (by decide +kernel) rfl), tyX2_ok, nmX2⟩
set_option maxRecDepth 100000 in
theorem flA_359 : xlF "FaceZones" 359 2 2 := ⟨RX2, TX2, 8, tyX2, ⟨rfl, by decide, rfl⟩, inX2, (xTB_s1 _ 205 (by decide +kernel) rfl), tyX2_ok, nmX2⟩
set_option maxRecDepth 100000 in
theorem flC_9 : xlF "FaceZones$Crystal" 9 0 0 := ⟨RX0, TX0, 12, tyX0, ⟨rfl, by decide, rfl⟩, inX0, (xTB_s1 _ 85 (by decide +kernel) rfl), tyX0_ok, nmX0⟩
set_option maxRecDepth 100000 in
theorem flC_15 : xlF "FaceZones$Crystal" 15 0 1 := ⟨RX0, TX0, 12, tyX0, ⟨rfl, by decide, rfl⟩, inX0, (xTB_s1 _ 88 (by decide +kernel) rfl), tyX0_ok, nmX0⟩
set_option maxRecDepth 100000 in
theorem flC_18 : xlF "FaceZones$Crystal" 18 0 2 := ⟨RX0, TX0, 12, tyX0, ⟨rfl, by decide, rfl⟩, inX0, (xTB_s1 _ 91 (by decide +kernel) rfl), tyX0_ok, nmX0⟩
set_option maxRecDepth 100000 in
theorem flC_21 : xlF "FaceZones$Crystal" 21 0 3 := ⟨RX0, TX0, 12, tyX0, ⟨rfl, by decide, rfl⟩, inX0, (xTB_s1 _ 94 (by decide +kernel) rfl), tyX0_ok, nmX0⟩
set_option maxRecDepth 100000 in
theorem flC_24 : xlF "FaceZones$Crystal" 24 0 4 := ⟨RX0, TX0, 12, tyX0, ⟨rfl, by decide, rfl⟩, inX0, (xTB_s1 _ 96 (by decide +kernel) rfl), tyX0_ok, nmX0⟩
set_option maxRecDepth 100000 in
theorem flC_28 : xlF "FaceZones$Crystal" 28 0 5 := ⟨RX0, TX0, 12, tyX0, ⟨rfl, by decide, rfl⟩, inX0, (xTB_s1 _ 99 (by decide +kernel) rfl), tyX0_ok, nmX0⟩
set_option maxRecDepth 100000 in
theorem flC_31 : xlF "FaceZones$Crystal" 31 0 6 := ⟨RX0, TX0, 12, tyX0, ⟨rfl, by decide, rfl⟩, inX0, (xTB_s1 _ 103 (by decide +kernel) rfl), tyX0_ok, nmX0⟩
set_option maxRecDepth 100000 in
theorem flC_34 : xlF "FaceZones$Crystal" 34 0 7 := ⟨RX0, TX0, 12, tyX0, ⟨rfl, by decide, rfl⟩, inX0, (xTB_s1 _ 106 (by decide +kernel) rfl), tyX0_ok, nmX0⟩
set_option maxRecDepth 100000 in
theorem flC_37 : xlF "FaceZones$Crystal" 37 0 8 := ⟨RX0, TX0, 12, tyX0, ⟨rfl, by decide, rfl⟩, inX0, (xTB_s1 _ 108 (by decide +kernel) rfl), tyX0_ok, nmX0⟩
set_option maxRecDepth 100000 in
theorem flC_40 : xlF "FaceZones$Crystal" 40 0 9 := ⟨RX0, TX0, 12, tyX0, ⟨rfl, by decide, rfl⟩, inX0, (xTB_s1 _ 110 (by decide +kernel) rfl), tyX0_ok, nmX0⟩
set_option maxRecDepth 100000 in
theorem flC_46 : xlF "FaceZones$Crystal" 46 0 10 := ⟨RX0, TX0, 12, tyX0, ⟨rfl, by decide, rfl⟩, inX0, (xTB_s1 _ 112 (by decide +kernel) rfl), tyX0_ok, nmX0⟩
set_option maxRecDepth 100000 in
theorem flC_50 : xlF "FaceZones$Crystal" 50 0 11 := ⟨RX0, TX0, 12, tyX0, ⟨rfl, by decide, rfl⟩, inX0, (xTB_s1 _ 113 (by decide +kernel) rfl), tyX0_ok, nmX0⟩
set_option maxRecDepth 100000 in
theorem flC_71 : xlF "FaceZones$Crystal" 71 5 0 := ⟨RX5, TX5, 3, tyX5, ⟨rfl, by decide, rfl⟩, inX5, (xTB_s1 _ 65 (by decide +kernel) rfl), tyX5_ok, nmX5⟩
set_option maxRecDepth 100000 in
theorem flC_75 : xlF "FaceZones$Crystal" 75 5 1 := ⟨RX5, TX5, 3, tyX5, ⟨rfl, by decide, rfl⟩, inX5, (xTB_s1 _ 70 (by decide +kernel) rfl), tyX5_ok, nmX5⟩
set_option maxRecDepth 100000 in
theorem flC_78 : xlF "FaceZones$Crystal" 78 5 2 := ⟨RX5, TX5, 3, tyX5, ⟨rfl, by decide, rfl⟩, inX5, (xTB_s1 _ 75 (by decide +kernel) rfl), tyX5_ok, nmX5⟩
set_option maxRecDepth 100000 in
theorem flX_9 : xlF "FaceZones$CrystalText" 9 1 0 := ⟨RX1, TX1, 5, tyX1, ⟨rfl, by decide, rfl⟩, inX1, (xTB_s1 _ 33 (by decide +kernel) rfl), tyX1_ok, nmX1⟩
set_option maxRecDepth 100000 in
theorem flX_15 : xlF "FaceZones$CrystalText" 15 1 1 := ⟨RX1, TX1, 5, tyX1, ⟨rfl, by decide, rfl⟩, inX1, (xTB_s1 _ 34 (by decide +kernel) rfl), tyX1_ok, nmX1⟩
set_option maxRecDepth 100000 in
theorem flX_19 : xlF "FaceZones$CrystalText" 19 1 2 := ⟨RX1, TX1, 5, tyX1, ⟨rfl, by decide, rfl⟩, inX1, (xTB_s1 _ 36 (by decide +kernel) rfl), tyX1_ok, nmX1⟩
set_option maxRecDepth 100000 in
theorem flX_22 : xlF "FaceZones$CrystalText" 22 1 3 := ⟨RX1, TX1, 5, tyX1, ⟨rfl, by decide, rfl⟩, inX1, (xTB_s1 _ 37 (by decide +kernel) rfl), tyX1_ok, nmX1⟩
set_option maxRecDepth 100000 in
theorem flX_25 : xlF "FaceZones$CrystalText" 25 1 4 := ⟨RX1, TX1, 5, tyX1, ⟨rfl, by decide, rfl⟩, inX1, (xTB_s1 _ 38 (by decide +kernel) rfl), tyX1_ok, nmX1⟩
set_option maxRecDepth 100000 in
theorem flX_53 : xlF "FaceZones$CrystalText" 53 0 5 := ⟨RX0, TX0, 12, tyX0, ⟨rfl, by decide, rfl⟩, inX0, (xTB_s1 _ 102 (by decide +kernel) rfl), tyX0_ok, nmX0⟩
set_option maxRecDepth 100000 in
theorem flF_9 : xlF "FaceZones$Form" 9 2 0 := ⟨RX2, TX2, 8, tyX2, ⟨rfl, by decide, rfl⟩, inX2, (xTB_s1 _ 200 (by decide +kernel) rfl), tyX2_ok, nmX2⟩
set_option maxRecDepth 100000 in
theorem flF_15 : xlF "FaceZones$Form" 15 2 1 := ⟨RX2, TX2, 8, tyX2, ⟨rfl, by decide, rfl⟩, inX2, (xTB_s1 _ 202 (by decide +kernel) rfl), tyX2_ok, nmX2⟩
set_option maxRecDepth 100000 in
theorem flF_18 : xlF "FaceZones$Form" 18 2 2 := ⟨RX2, TX2, 8, tyX2, ⟨rfl, by decide, rfl⟩, inX2, (xTB_s1 _ 204 (by decide +kernel) rfl), tyX2_ok, nmX2⟩
set_option maxRecDepth 100000 in
theorem flF_21 : xlF "FaceZones$Form" 21 2 3 := ⟨RX2, TX2, 8, tyX2, ⟨rfl, by decide, rfl⟩, inX2, (xTB_s1 _ 206 (by decide +kernel) rfl), tyX2_ok, nmX2⟩
set_option maxRecDepth 100000 in
theorem flF_25 : xlF "FaceZones$Form" 25 2 4 := ⟨RX2, TX2, 8, tyX2, ⟨rfl, by decide, rfl⟩, inX2, (xTB_s1 _ 208 (by decide +kernel) rfl), tyX2_ok, nmX2⟩
set_option maxRecDepth 100000 in
theorem flF_28 : xlF "FaceZones$Form" 28 2 5 := ⟨RX2, TX2, 8, tyX2, ⟨rfl, by decide, rfl⟩, inX2, (xTB_s1 _ 209 (by decide +kernel) rfl), tyX2_ok, nmX2⟩
set_option maxRecDepth 100000 in
theorem flF_34 : xlF "FaceZones$Form" 34 2 6 := ⟨RX2, TX2, 8, tyX2, ⟨rfl, by decide, rfl⟩, inX2, (xTB_s1 _ 210 (by decide +kernel) rfl), tyX2_ok, nmX2⟩
set_option maxRecDepth 100000 in
theorem flF_38 : xlF "FaceZones$Form" 38 2 7 := ⟨RX2, TX2, 8, tyX2, ⟨rfl, by decide, rfl⟩, inX2, (xTB_s1 _ 211 (by decide +kernel) rfl), tyX2_ok, nmX2⟩
set_option maxRecDepth 100000 in
theorem flF_41 : xlF "FaceZones$Form" 41 0 0 := ⟨RX0, TX0, 12, tyX0, ⟨rfl, by decide, rfl⟩, inX0, (xTB_s1 _ 86 (by decide +kernel) rfl), tyX0_ok, nmX0⟩
set_option maxRecDepth 100000 in
theorem flF_44 : xlF "FaceZones$Form" 44 0 1 := ⟨RX0, TX0, 12, tyX0, ⟨rfl, by decide, rfl⟩, inX0, (xTB_s1 _ 89 (by decide +kernel) rfl), tyX0_ok, nmX0⟩
set_option maxRecDepth 100000 in
theorem flF_45 : xlF "FaceZones$Form" 45 0 2 := ⟨RX0, TX0, 12, tyX0, ⟨rfl, by decide, rfl⟩, inX0, (xTB_s1 _ 92 (by decide +kernel) rfl), tyX0_ok, nmX0⟩
set_option maxRecDepth 100000 in
theorem flF_53 : xlF "FaceZones$Form" 53 0 5 := ⟨RX0, TX0, 12, tyX0, ⟨rfl, by decide, rfl⟩, inX0, (xTB_s1 _ 100 (by decide +kernel) rfl), tyX0_ok, nmX0⟩
set_option maxRecDepth 100000 in
theorem flF_63 : xlF "FaceZones$Form" 63 5 0 := ⟨RX5, TX5, 3, tyX5, ⟨rfl, by decide, rfl⟩, inX5, (xTB_s1 _ 64 (by decide +kernel) rfl), tyX5_ok, nmX5⟩
set_option maxRecDepth 100000 in
theorem flF_67 : xlF "FaceZones$Form" 67 5 1 := ⟨RX5, TX5, 3, tyX5, ⟨rfl, by decide, rfl⟩, inX5, (xTB_s1 _ 69 (by decide +kernel) rfl), tyX5_ok, nmX5⟩
set_option maxRecDepth 100000 in
theorem flF_70 : xlF "FaceZones$Form" 70 5 2 := ⟨RX5, TX5, 3, tyX5, ⟨rfl, by decide, rfl⟩, inX5, (xTB_s1 _ 74 (by decide +kernel) rfl), tyX5_ok, nmX5⟩
set_option maxRecDepth 100000 in
theorem flG_13 : xlF "FaceZones$Growth" 13 3 0 := ⟨RX3, TX3, 5, tyX3, ⟨rfl, by decide, rfl⟩, inX3, (xTB_s2 _ 17 (by decide +kernel) rfl), tyX3_ok, nmX3⟩
set_option maxRecDepth 100000 in
theorem flG_17 : xlF "FaceZones$Growth" 17 3 1 := ⟨RX3, TX3, 5, tyX3, ⟨rfl, by decide, rfl⟩, inX3, (xTB_s2 _ 18 (by decide +kernel) rfl), tyX3_ok, nmX3⟩
set_option maxRecDepth 100000 in
theorem flG_21 : xlF "FaceZones$Growth" 21 3 2 := ⟨RX3, TX3, 5, tyX3, ⟨rfl, by decide, rfl⟩, inX3, (xTB_s2 _ 19 (by decide +kernel) rfl), tyX3_ok, nmX3⟩
set_option maxRecDepth 100000 in
theorem flG_24 : xlF "FaceZones$Growth" 24 3 3 := ⟨RX3, TX3, 5, tyX3, ⟨rfl, by decide, rfl⟩, inX3, (xTB_s2 _ 20 (by decide +kernel) rfl), tyX3_ok, nmX3⟩
set_option maxRecDepth 100000 in
theorem flG_29 : xlF "FaceZones$Growth" 29 3 4 := ⟨RX3, TX3, 5, tyX3, ⟨rfl, by decide, rfl⟩, inX3, (xTB_s2 _ 21 (by decide +kernel) rfl), tyX3_ok, nmX3⟩
set_option maxRecDepth 100000 in
theorem flH_11 : xlF "FaceZones$History" 11 4 0 := ⟨RX4, TX4, 3, tyX4, ⟨rfl, by decide, rfl⟩, inX4, (xTB_s1 _ 148 (by decide +kernel) rfl), tyX4_ok, nmX4⟩
set_option maxRecDepth 100000 in
theorem flH_17 : xlF "FaceZones$History" 17 4 1 := ⟨RX4, TX4, 3, tyX4, ⟨rfl, by decide, rfl⟩, inX4, (xTB_s1 _ 149 (by decide +kernel) rfl), tyX4_ok, nmX4⟩
set_option maxRecDepth 100000 in
theorem flH_21 : xlF "FaceZones$History" 21 4 2 := ⟨RX4, TX4, 3, tyX4, ⟨rfl, by decide, rfl⟩, inX4, (xTB_s1 _ 150 (by decide +kernel) rfl), tyX4_ok, nmX4⟩
set_option maxRecDepth 100000 in
theorem flT_7 : xlF "FaceZones$Triple" 7 5 0 := ⟨RX5, TX5, 3, tyX5, ⟨rfl, by decide, rfl⟩, inX5, (xTB_s1 _ 63 (by decide +kernel) rfl), tyX5_ok, nmX5⟩
set_option maxRecDepth 100000 in
theorem flT_13 : xlF "FaceZones$Triple" 13 5 1 := ⟨RX5, TX5, 3, tyX5, ⟨rfl, by decide, rfl⟩, inX5, (xTB_s1 _ 68 (by decide +kernel) rfl), tyX5_ok, nmX5⟩
set_option maxRecDepth 100000 in
theorem flT_16 : xlF "FaceZones$Triple" 16 5 2 := ⟨RX5, TX5, 3, tyX5, ⟨rfl, by decide, rfl⟩, inX5, (xTB_s1 _ 73 (by decide +kernel) rfl), tyX5_ok, nmX5⟩
set_option maxRecDepth 100000 in
theorem flZ_11 : xlF "FaceZones$ZoneList" 11 6 0 := ⟨RX6, TX6, 6, tyX6, ⟨rfl, by decide, rfl⟩, inX6, (xTB_s1 _ 168 (by decide +kernel) rfl), tyX6_ok, nmX6⟩
set_option maxRecDepth 100000 in
theorem flZ_17 : xlF "FaceZones$ZoneList" 17 6 1 := ⟨RX6, TX6, 6, tyX6, ⟨rfl, by decide, rfl⟩, inX6, (xTB_s1 _ 170 (by decide +kernel) rfl), tyX6_ok, nmX6⟩
set_option maxRecDepth 100000 in
theorem flZ_20 : xlF "FaceZones$ZoneList" 20 6 2 := ⟨RX6, TX6, 6, tyX6, ⟨rfl, by decide, rfl⟩, inX6, (xTB_s1 _ 172 (by decide +kernel) rfl), tyX6_ok, nmX6⟩
set_option maxRecDepth 100000 in
theorem flZ_24 : xlF "FaceZones$ZoneList" 24 6 3 := ⟨RX6, TX6, 6, tyX6, ⟨rfl, by decide, rfl⟩, inX6, (xTB_s1 _ 174 (by decide +kernel) rfl), tyX6_ok, nmX6⟩
set_option maxRecDepth 100000 in
theorem flZ_27 : xlF "FaceZones$ZoneList" 27 6 4 := ⟨RX6, TX6, 6, tyX6, ⟨rfl, by decide, rfl⟩, inX6, (xTB_s1 _ 175 (by decide +kernel) rfl), tyX6_ok, nmX6⟩
set_option maxRecDepth 100000 in
theorem flZ_31 : xlF "FaceZones$ZoneList" 31 6 5 := ⟨RX6, TX6, 6, tyX6, ⟨rfl, by decide, rfl⟩, inX6, (xTB_s1 _ 176 (by decide +kernel) rfl), tyX6_ok, nmX6⟩
set_option maxRecDepth 100000 in
theorem flZ_35 : xlF "FaceZones$ZoneList" 35 0 4 := ⟨RX0, TX0, 12, tyX0, ⟨rfl, by decide, rfl⟩, inX0, (xTB_s1 _ 97 (by decide +kernel) rfl), tyX0_ok, nmX0⟩
set_option maxRecDepth 100000 in
theorem flZ_50 : xlF "FaceZones$ZoneList" 50 0 6 := ⟨RX0, TX0, 12, tyX0, ⟨rfl, by decide, rfl⟩, inX0, (xTB_s1 _ 104 (by decide +kernel) rfl), tyX0_ok, nmX0⟩
set_option maxRecDepth 100000 in
theorem flZ_86 : xlF "FaceZones$ZoneList" 86 5 0 := ⟨RX5, TX5, 3, tyX5, ⟨rfl, by decide, rfl⟩, inX5, (xTB_s1 _ 66 (by decide +kernel) rfl), tyX5_ok, nmX5⟩
set_option maxRecDepth 100000 in
theorem flZ_90 : xlF "FaceZones$ZoneList" 90 5 1 := ⟨RX5, TX5, 3, tyX5, ⟨rfl, by decide, rfl⟩, inX5, (xTB_s1 _ 71 (by decide +kernel) rfl), tyX5_ok, nmX5⟩
set_option maxRecDepth 100000 in
theorem flZ_93 : xlF "FaceZones$ZoneList" 93 5 2 := ⟨RX5, TX5, 3, tyX5, ⟨rfl, by decide, rfl⟩, inX5, (xTB_s1 _ 76 (by decide +kernel) rfl), tyX5_ok, nmX5⟩
set_option maxRecDepth 100000 in
theorem flB_7 : xlF "FaceZonesModel" 7 8 1 := ⟨RX8, TX8, 23, tyX8, ⟨rfl, by decide, rfl⟩, inX8, (xTB_s5 _ 31 (by decide +kernel) rfl), tyX8_ok, nmX8⟩
set_option maxRecDepth 100000 in
theorem flB_13 : xlF "FaceZonesModel" 13 8 5 := ⟨RX8, TX8, 23, tyX8, ⟨rfl, by decide, rfl⟩, inX8, (xTB_s5 _ 35 (by decide +kernel) rfl), tyX8_ok, nmX8⟩
set_option maxRecDepth 100000 in
theorem flB_16 : xlF "FaceZonesModel" 16 8 6 := ⟨RX8, TX8, 23, tyX8, ⟨rfl, by decide, rfl⟩, inX8, (xTB_s5 _ 36 (by decide +kernel) rfl), tyX8_ok, nmX8⟩
set_option maxRecDepth 100000 in
theorem flB_19 : xlF "FaceZonesModel" 19 8 7 := ⟨RX8, TX8, 23, tyX8, ⟨rfl, by decide, rfl⟩, inX8, (xTB_s5 _ 37 (by decide +kernel) rfl), tyX8_ok, nmX8⟩
set_option maxRecDepth 100000 in
theorem flB_22 : xlF "FaceZonesModel" 22 8 8 := ⟨RX8, TX8, 23, tyX8, ⟨rfl, by decide, rfl⟩, inX8, (xTB_s5 _ 38 (by decide +kernel) rfl), tyX8_ok, nmX8⟩
set_option maxRecDepth 100000 in
theorem flB_25 : xlF "FaceZonesModel" 25 8 10 := ⟨RX8, TX8, 23, tyX8, ⟨rfl, by decide, rfl⟩, inX8, (xTB_s5 _ 40 (by decide +kernel) rfl), tyX8_ok, nmX8⟩
set_option maxRecDepth 100000 in
theorem flB_28 : xlF "FaceZonesModel" 28 8 11 := ⟨RX8, TX8, 23, tyX8, ⟨rfl, by decide, rfl⟩, inX8, (xTB_s5 _ 41 (by decide +kernel) rfl), tyX8_ok, nmX8⟩
set_option maxRecDepth 100000 in
theorem flB_32 : xlF "FaceZonesModel" 32 8 12 := ⟨RX8, TX8, 23, tyX8, ⟨rfl, by decide, rfl⟩, inX8, (xTB_s5 _ 42 (by decide +kernel) rfl), tyX8_ok, nmX8⟩
set_option maxRecDepth 100000 in
theorem flB_36 : xlF "FaceZonesModel" 36 8 13 := ⟨RX8, TX8, 23, tyX8, ⟨rfl, by decide, rfl⟩, inX8, (xTB_s5 _ 43 (by decide +kernel) rfl), tyX8_ok, nmX8⟩
set_option maxRecDepth 100000 in
theorem flB_39 : xlF "FaceZonesModel" 39 8 14 := ⟨RX8, TX8, 23, tyX8, ⟨rfl, by decide, rfl⟩, inX8, (xTB_s5 _ 44 (by decide +kernel) rfl), tyX8_ok, nmX8⟩
set_option maxRecDepth 100000 in
theorem flB_42 : xlF "FaceZonesModel" 42 8 15 := ⟨RX8, TX8, 23, tyX8, ⟨rfl, by decide, rfl⟩, inX8, (xTB_s5 _ 45 (by decide +kernel) rfl), tyX8_ok, nmX8⟩
set_option maxRecDepth 100000 in
theorem flB_45 : xlF "FaceZonesModel" 45 8 16 := ⟨RX8, TX8, 23, tyX8, ⟨rfl, by decide, rfl⟩, inX8, (xTB_s5 _ 46 (by decide +kernel) rfl), tyX8_ok, nmX8⟩
set_option maxRecDepth 100000 in
theorem flB_48 : xlF "FaceZonesModel" 48 8 18 := ⟨RX8, TX8, 23, tyX8, ⟨rfl, by decide, rfl⟩, inX8, (xTB_s5 _ 48 (by decide +kernel) rfl), tyX8_ok, nmX8⟩
set_option maxRecDepth 100000 in
theorem flB_51 : xlF "FaceZonesModel" 51 8 19 := ⟨RX8, TX8, 23, tyX8, ⟨rfl, by decide, rfl⟩, inX8, (xTB_s5 _ 49 (by decide +kernel) rfl), tyX8_ok, nmX8⟩
set_option maxRecDepth 100000 in
theorem flB_54 : xlF "FaceZonesModel" 54 8 20 := ⟨RX8, TX8, 23, tyX8, ⟨rfl, by decide, rfl⟩, inX8, (xTB_s5 _ 50 (by decide +kernel) rfl), tyX8_ok, nmX8⟩
set_option maxRecDepth 100000 in
theorem flB_57 : xlF "FaceZonesModel" 57 8 21 := ⟨RX8, TX8, 23, tyX8, ⟨rfl, by decide, rfl⟩, inX8, (xTB_s5 _ 51 (by decide +kernel) rfl), tyX8_ok, nmX8⟩
set_option maxRecDepth 100000 in
theorem flB_64 : xlF "FaceZonesModel" 64 8 0 := ⟨RX8, TX8, 23, tyX8, ⟨rfl, by decide, rfl⟩, inX8, (xTB_s5 _ 30 (by decide +kernel) rfl), tyX8_ok, nmX8⟩
set_option maxRecDepth 100000 in
theorem flB_74 : xlF "FaceZonesModel" 74 8 9 := ⟨RX8, TX8, 23, tyX8, ⟨rfl, by decide, rfl⟩, inX8, (xTB_s5 _ 39 (by decide +kernel) rfl), tyX8_ok, nmX8⟩
set_option maxRecDepth 100000 in
theorem flB_106 : xlF "FaceZonesModel" 106 8 17 := ⟨RX8, TX8, 23, tyX8, ⟨rfl, by decide, rfl⟩, inX8, (xTB_s5 _ 47 (by decide +kernel) rfl), tyX8_ok, nmX8⟩
set_option maxRecDepth 100000 in
theorem flB_173 : xlF "FaceZonesModel" 173 8 2 := ⟨RX8, TX8, 23, tyX8, ⟨rfl, by decide, rfl⟩, inX8, (xTB_s5 _ 32 (by decide +kernel) rfl), tyX8_ok, nmX8⟩
set_option maxRecDepth 100000 in
theorem flB_180 : xlF "FaceZonesModel" 180 8 3 := ⟨RX8, TX8, 23, tyX8, ⟨rfl, by decide, rfl⟩, inX8, (xTB_s5 _ 33 (by decide +kernel) rfl), tyX8_ok, nmX8⟩
set_option maxRecDepth 100000 in
theorem flB_183 : xlF "FaceZonesModel" 183 8 4 := ⟨RX8, TX8, 23, tyX8, ⟨rfl, by decide, rfl⟩, inX8, (xTB_s5 _ 34 (by decide +kernel) rfl), tyX8_ok, nmX8⟩
set_option maxRecDepth 100000 in
theorem flB_199 : xlF "FaceZonesModel" 199 8 22 := ⟨RX8, TX8, 23, tyX8, ⟨rfl, by decide, rfl⟩, inX8, (xTB_s5 _ 52 (by decide +kernel) rfl), tyX8_ok, nmX8⟩
theorem ft0_0 : xlT 0 0 (.array .int) true "FaceZones$Crystal" := ⟨TX0, 12, rfl, by decide +kernel, rfl⟩
theorem ft0_1 : xlT 0 1 (.array .int) true "FaceZones$Crystal" := ⟨TX0, 12, rfl, by decide +kernel, rfl⟩
theorem ft0_2 : xlT 0 2 (.array .int) true "FaceZones$Crystal" := ⟨TX0, 12, rfl, by decide +kernel, rfl⟩
theorem ft0_3 : xlT 0 3 (.array .int) true "FaceZones$Crystal" := ⟨TX0, 12, rfl, by decide +kernel, rfl⟩
theorem ft0_4 : xlT 0 4 .int false "FaceZones$Crystal" := ⟨TX0, 12, rfl, by decide +kernel, rfl⟩
theorem ft0_5 : xlT 0 5 .int false "FaceZones$Crystal" := ⟨TX0, 12, rfl, by decide +kernel, rfl⟩
theorem ft0_6 : xlT 0 6 .int false "FaceZones$Crystal" := ⟨TX0, 12, rfl, by decide +kernel, rfl⟩
theorem ft0_7 : xlT 0 7 .int false "FaceZones$Crystal" := ⟨TX0, 12, rfl, by decide +kernel, rfl⟩
theorem ft0_8 : xlT 0 8 .int false "FaceZones$Crystal" := ⟨TX0, 12, rfl, by decide +kernel, rfl⟩
theorem ft0_9 : xlT 0 9 .int false "FaceZones$Crystal" := ⟨TX0, 12, rfl, by decide +kernel, rfl⟩
theorem ft0_10 : xlT 0 10 (.object "FaceZones$Triple") true "FaceZones$Crystal" := ⟨TX0, 12, rfl, by decide +kernel, rfl⟩
theorem ft0_11 : xlT 0 11 (.object "FaceZones$Triple") true "FaceZones$Crystal" := ⟨TX0, 12, rfl, by decide +kernel, rfl⟩
theorem ft1_0 : xlT 1 0 (.array .int) true "FaceZones$CrystalText" := ⟨TX1, 5, rfl, by decide +kernel, rfl⟩
theorem ft1_1 : xlT 1 1 .int false "FaceZones$CrystalText" := ⟨TX1, 5, rfl, by decide +kernel, rfl⟩
theorem ft1_2 : xlT 1 2 .int false "FaceZones$CrystalText" := ⟨TX1, 5, rfl, by decide +kernel, rfl⟩
theorem ft1_3 : xlT 1 3 .int false "FaceZones$CrystalText" := ⟨TX1, 5, rfl, by decide +kernel, rfl⟩
theorem ft1_4 : xlT 1 4 (.array .int) true "FaceZones$CrystalText" := ⟨TX1, 5, rfl, by decide +kernel, rfl⟩
theorem ft2_0 : xlT 2 0 (.array .int) true "FaceZones$Form" := ⟨TX2, 8, rfl, by decide +kernel, rfl⟩
theorem ft2_1 : xlT 2 1 (.array .int) true "FaceZones$Form" := ⟨TX2, 8, rfl, by decide +kernel, rfl⟩
theorem ft2_2 : xlT 2 2 (.array .int) true "FaceZones$Form" := ⟨TX2, 8, rfl, by decide +kernel, rfl⟩
theorem ft2_3 : xlT 2 3 .int false "FaceZones$Form" := ⟨TX2, 8, rfl, by decide +kernel, rfl⟩
theorem ft2_4 : xlT 2 4 (.array .int) true "FaceZones$Form" := ⟨TX2, 8, rfl, by decide +kernel, rfl⟩
theorem ft2_5 : xlT 2 5 .int false "FaceZones$Form" := ⟨TX2, 8, rfl, by decide +kernel, rfl⟩
theorem ft2_6 : xlT 2 6 (.object "FaceZones$Triple") true "FaceZones$Form" := ⟨TX2, 8, rfl, by decide +kernel, rfl⟩
theorem ft2_7 : xlT 2 7 (.object "FaceZones$Triple") true "FaceZones$Form" := ⟨TX2, 8, rfl, by decide +kernel, rfl⟩
theorem ft3_0 : xlT 3 0 (.array (.object "FaceZones$Triple")) true "FaceZones$Growth" := ⟨TX3, 5, rfl, by decide +kernel, rfl⟩
theorem ft3_1 : xlT 3 1 (.array .boolean) true "FaceZones$Growth" := ⟨TX3, 5, rfl, by decide +kernel, rfl⟩
theorem ft3_2 : xlT 3 2 (.array (.object "FaceZones$Triple")) true "FaceZones$Growth" := ⟨TX3, 5, rfl, by decide +kernel, rfl⟩
theorem ft3_3 : xlT 3 3 (.array .int) true "FaceZones$Growth" := ⟨TX3, 5, rfl, by decide +kernel, rfl⟩
theorem ft3_4 : xlT 3 4 (.object "FaceZones$Triple") true "FaceZones$Growth" := ⟨TX3, 5, rfl, by decide +kernel, rfl⟩
theorem ft4_0 : xlT 4 0 (.array (.object "FaceZones$Crystal")) true "FaceZones$History" := ⟨TX4, 3, rfl, by decide +kernel, rfl⟩
theorem ft4_1 : xlT 4 1 .int false "FaceZones$History" := ⟨TX4, 3, rfl, by decide +kernel, rfl⟩
theorem ft4_2 : xlT 4 2 .int false "FaceZones$History" := ⟨TX4, 3, rfl, by decide +kernel, rfl⟩
theorem ft5_0 : xlT 5 0 .long false "FaceZones$Triple" := ⟨TX5, 3, rfl, by decide +kernel, rfl⟩
theorem ft5_1 : xlT 5 1 .long false "FaceZones$Triple" := ⟨TX5, 3, rfl, by decide +kernel, rfl⟩
theorem ft5_2 : xlT 5 2 .long false "FaceZones$Triple" := ⟨TX5, 3, rfl, by decide +kernel, rfl⟩
theorem ft6_0 : xlT 6 0 (.array (.object "FaceZones$Triple")) true "FaceZones$ZoneList" := ⟨TX6, 6, rfl, by decide +kernel, rfl⟩
theorem ft6_1 : xlT 6 1 (.array (.object "FaceZones$Triple")) true "FaceZones$ZoneList" := ⟨TX6, 6, rfl, by decide +kernel, rfl⟩
theorem ft6_2 : xlT 6 2 (.array .int) true "FaceZones$ZoneList" := ⟨TX6, 6, rfl, by decide +kernel, rfl⟩
theorem ft6_3 : xlT 6 3 (.array .int) true "FaceZones$ZoneList" := ⟨TX6, 6, rfl, by decide +kernel, rfl⟩
theorem ft6_4 : xlT 6 4 .int false "FaceZones$ZoneList" := ⟨TX6, 6, rfl, by decide +kernel, rfl⟩
theorem ft6_5 : xlT 6 5 .int false "FaceZones$ZoneList" := ⟨TX6, 6, rfl, by decide +kernel, rfl⟩
theorem ft7_0 : xlT 7 0 (.object "FaceZones$CrystalText") true "FaceZones" := ⟨TX7, 12, rfl, by decide +kernel, rfl⟩
theorem ft7_1 : xlT 7 1 (.object "FaceZones$Crystal") true "FaceZones" := ⟨TX7, 12, rfl, by decide +kernel, rfl⟩
theorem ft7_2 : xlT 7 2 (.object "FaceZones$Crystal") true "FaceZones" := ⟨TX7, 12, rfl, by decide +kernel, rfl⟩
theorem ft7_3 : xlT 7 3 (.object "FaceZones$History") true "FaceZones" := ⟨TX7, 12, rfl, by decide +kernel, rfl⟩
theorem ft7_4 : xlT 7 4 (.array (.object "FaceZones$Crystal")) true "FaceZones" := ⟨TX7, 12, rfl, by decide +kernel, rfl⟩
theorem ft7_5 : xlT 7 5 (.array .boolean) true "FaceZones" := ⟨TX7, 12, rfl, by decide +kernel, rfl⟩
theorem ft7_6 : xlT 7 6 (.object "FaceZones$ZoneList") true "FaceZones" := ⟨TX7, 12, rfl, by decide +kernel, rfl⟩
theorem ft7_7 : xlT 7 7 (.object "FaceZones$ZoneList") true "FaceZones" := ⟨TX7, 12, rfl, by decide +kernel, rfl⟩
theorem ft7_8 : xlT 7 8 (.object "FaceZones$Form") true "FaceZones" := ⟨TX7, 12, rfl, by decide +kernel, rfl⟩
theorem ft7_9 : xlT 7 9 (.object "FaceZones$Growth") true "FaceZones" := ⟨TX7, 12, rfl, by decide +kernel, rfl⟩
theorem ft7_10 : xlT 7 10 (.object "FaceZones$Triple") true "FaceZones" := ⟨TX7, 12, rfl, by decide +kernel, rfl⟩
theorem ft7_11 : xlT 7 11 .boolean false "FaceZones" := ⟨TX7, 12, rfl, by decide +kernel, rfl⟩
theorem ft8_0 : xlT 8 0 .int false "FaceZonesModel" := ⟨TX8, 23, rfl, by decide +kernel, rfl⟩
theorem ft8_1 : xlT 8 1 (.array .int) true "FaceZonesModel" := ⟨TX8, 23, rfl, by decide +kernel, rfl⟩
theorem ft8_2 : xlT 8 2 .int false "FaceZonesModel" := ⟨TX8, 23, rfl, by decide +kernel, rfl⟩
theorem ft8_3 : xlT 8 3 .int false "FaceZonesModel" := ⟨TX8, 23, rfl, by decide +kernel, rfl⟩
theorem ft8_4 : xlT 8 4 .boolean false "FaceZonesModel" := ⟨TX8, 23, rfl, by decide +kernel, rfl⟩
theorem ft8_5 : xlT 8 5 (.array .int) true "FaceZonesModel" := ⟨TX8, 23, rfl, by decide +kernel, rfl⟩
theorem ft8_6 : xlT 8 6 (.array .int) true "FaceZonesModel" := ⟨TX8, 23, rfl, by decide +kernel, rfl⟩
theorem ft8_7 : xlT 8 7 (.array .int) true "FaceZonesModel" := ⟨TX8, 23, rfl, by decide +kernel, rfl⟩
theorem ft8_8 : xlT 8 8 (.array .int) true "FaceZonesModel" := ⟨TX8, 23, rfl, by decide +kernel, rfl⟩
theorem ft8_9 : xlT 8 9 .int false "FaceZonesModel" := ⟨TX8, 23, rfl, by decide +kernel, rfl⟩
theorem ft8_10 : xlT 8 10 (.array .int) true "FaceZonesModel" := ⟨TX8, 23, rfl, by decide +kernel, rfl⟩
theorem ft8_11 : xlT 8 11 (.array .boolean) true "FaceZonesModel" := ⟨TX8, 23, rfl, by decide +kernel, rfl⟩
theorem ft8_12 : xlT 8 12 (.array .long) true "FaceZonesModel" := ⟨TX8, 23, rfl, by decide +kernel, rfl⟩
theorem ft8_13 : xlT 8 13 (.array .long) true "FaceZonesModel" := ⟨TX8, 23, rfl, by decide +kernel, rfl⟩
theorem ft8_14 : xlT 8 14 (.array .long) true "FaceZonesModel" := ⟨TX8, 23, rfl, by decide +kernel, rfl⟩
theorem ft8_15 : xlT 8 15 (.array .int) true "FaceZonesModel" := ⟨TX8, 23, rfl, by decide +kernel, rfl⟩
theorem ft8_16 : xlT 8 16 (.array .int) true "FaceZonesModel" := ⟨TX8, 23, rfl, by decide +kernel, rfl⟩
theorem ft8_17 : xlT 8 17 .int false "FaceZonesModel" := ⟨TX8, 23, rfl, by decide +kernel, rfl⟩
theorem ft8_18 : xlT 8 18 (.array .boolean) true "FaceZonesModel" := ⟨TX8, 23, rfl, by decide +kernel, rfl⟩
theorem ft8_19 : xlT 8 19 (.array .int) true "FaceZonesModel" := ⟨TX8, 23, rfl, by decide +kernel, rfl⟩
theorem ft8_20 : xlT 8 20 (.array .boolean) true "FaceZonesModel" := ⟨TX8, 23, rfl, by decide +kernel, rfl⟩
theorem ft8_21 : xlT 8 21 (.array .int) true "FaceZonesModel" := ⟨TX8, 23, rfl, by decide +kernel, rfl⟩
theorem ft8_22 : xlT 8 22 .int false "FaceZonesModel" := ⟨TX8, 23, rfl, by decide +kernel, rfl⟩
theorem klL_8 : Jvm.Cond.classLink "FaceZonesLaw" (8 : Nat) "FaceZones" ∈ xTB := (xTB_s1 _ 19 (by decide +kernel) rfl)
theorem klA_7 : Jvm.Cond.classLink "FaceZones" (7 : Nat) "FaceZones$CrystalText" ∈ xTB := (xTB_s1 _ 27 (by decide +kernel) rfl)
theorem klA_16 : Jvm.Cond.classLink "FaceZones" (16 : Nat) "FaceZones$Crystal" ∈ xTB := (xTB_s1 _ 51 (by decide +kernel) rfl)
theorem klC_43 : Jvm.Cond.classLink "FaceZones$Crystal" (43 : Nat) "FaceZones$Triple" ∈ xTB := (xTB_s1 _ 57 (by decide +kernel) rfl)
theorem klA_26 : Jvm.Cond.classLink "FaceZones" (26 : Nat) "FaceZones$History" ∈ xTB := (xTB_s1 _ 139 (by decide +kernel) rfl)
theorem klH_9 : Jvm.Cond.classLink "FaceZones$History" (9 : Nat) "FaceZones$Crystal" ∈ xTB := (xTB_s1 _ 145 (by decide +kernel) rfl)
theorem klA_41 : Jvm.Cond.classLink "FaceZones" (41 : Nat) "FaceZones$ZoneList" ∈ xTB := (xTB_s1 _ 159 (by decide +kernel) rfl)
theorem klZ_9 : Jvm.Cond.classLink "FaceZones$ZoneList" (9 : Nat) "FaceZones$Triple" ∈ xTB := (xTB_s1 _ 165 (by decide +kernel) rfl)
theorem klA_51 : Jvm.Cond.classLink "FaceZones" (51 : Nat) "FaceZones$Form" ∈ xTB := (xTB_s1 _ 192 (by decide +kernel) rfl)
theorem klF_31 : Jvm.Cond.classLink "FaceZones$Form" (31 : Nat) "FaceZones$Triple" ∈ xTB := (xTB_s1 _ 198 (by decide +kernel) rfl)
theorem klA_58 : Jvm.Cond.classLink "FaceZones" (58 : Nat) "FaceZones$Growth" ∈ xTB := (xTB_s1 _ 229 (by decide +kernel) rfl)
theorem klG_11 : Jvm.Cond.classLink "FaceZones$Growth" (11 : Nat) "FaceZones$Triple" ∈ xTB := (xTB_s1 _ 235 (by decide +kernel) rfl)
theorem klA_65 : Jvm.Cond.classLink "FaceZones" (65 : Nat) "FaceZones$Triple" ∈ xTB := (xTB_s2 _ 33 (by decide +kernel) rfl)
theorem kcC_59 : Jvm.Cond.constant "FaceZones$Crystal" (59 : Nat) (-99999 : Int32) ∈ xTB := (xTB_s2 _ 137 (by decide +kernel) rfl)
theorem kcX_40 : Jvm.Cond.constant "FaceZones$CrystalText" (40 : Nat) (-99999 : Int32) ∈ xTB := (xTB_s2 _ 150 (by decide +kernel) rfl)
theorem kcI_265 : Jvm.Cond.constant "java/lang/Integer" (265 : Nat) (1431655765 : Int32) ∈ xTB := (xTB_s2 _ 208 (by decide +kernel) rfl)
theorem kcI_266 : Jvm.Cond.constant "java/lang/Integer" (266 : Nat) (858993459 : Int32) ∈ xTB := (xTB_s2 _ 209 (by decide +kernel) rfl)
theorem kcI_267 : Jvm.Cond.constant "java/lang/Integer" (267 : Nat) (252645135 : Int32) ∈ xTB := (xTB_s2 _ 210 (by decide +kernel) rfl)
theorem kcA_99 : Jvm.Cond.constant "FaceZones" (99 : Nat) (-99999 : Int32) ∈ xTB := (xTB_s2 _ 222 (by decide +kernel) rfl)
theorem klL_13 : Jvm.Cond.classLink "FaceZonesLaw" (13 : Nat) "java/lang/IllegalArgumentException" ∈ xTB := (xTB_s2 _ 234 (by decide +kernel) rfl)
theorem klL_15 : Jvm.Cond.classLink "FaceZonesLaw" (15 : Nat) "java/lang/IllegalStateException" ∈ xTB := (xTB_s2 _ 235 (by decide +kernel) rfl)
theorem klA_140 : Jvm.Cond.classLink "FaceZones" (140 : Nat) "java/lang/IllegalArgumentException" ∈ xTB := (xTB_s3 _ 6 (by decide +kernel) rfl)
theorem klA_84 : Jvm.Cond.classLink "FaceZones" (84 : Nat) "java/lang/IllegalStateException" ∈ xTB := (xTB_s3 _ 74 (by decide +kernel) rfl)
theorem kcZ_102 : Jvm.Cond.constant "FaceZones$ZoneList" (102 : Nat) (-99999 : Int32) ∈ xTB := (xTB_s3 _ 143 (by decide +kernel) rfl)
theorem klL_28 : Jvm.Cond.classLink "FaceZonesLaw" (28 : Nat) "java/lang/IndexOutOfBoundsException" ∈ xTB := (xTB_s3 _ 148 (by decide +kernel) rfl)
theorem klA_338 : Jvm.Cond.classLink "FaceZones" (338 : Nat) "java/lang/IndexOutOfBoundsException" ∈ xTB := (xTB_s3 _ 158 (by decide +kernel) rfl)
theorem kcA_233 : Jvm.Cond.constantLong "FaceZones" (233 : Nat) (10000 : Int64) ∈ xTB := (xTB_s4 _ 19 (by decide +kernel) rfl)
theorem kcG_51 : Jvm.Cond.constant "FaceZones$Growth" (51 : Nat) (-99999 : Int32) ∈ xTB := (xTB_s4 _ 155 (by decide +kernel) rfl)
theorem kcA_310 : Jvm.Cond.constantLong "FaceZones" (310 : Nat) (100000 : Int64) ∈ xTB := (xTB_s4 _ 179 (by decide +kernel) rfl)
theorem kcA_318 : Jvm.Cond.constantLong "FaceZones" (318 : Nat) (6364136223846793005 : Int64) ∈ xTB := (xTB_s4 _ 236 (by decide +kernel) rfl)
theorem kcA_320 : Jvm.Cond.constantLong "FaceZones" (320 : Nat) (1442695040888963407 : Int64) ∈ xTB := (xTB_s4 _ 237 (by decide +kernel) rfl)
theorem klL_97 : Jvm.Cond.classLink "FaceZonesLaw" (97 : Nat) "FaceZonesModel" ∈ xTB := (xTB_s5 _ 21 (by decide +kernel) rfl)
theorem kcB_167 : Jvm.Cond.constantLong "FaceZonesModel" (167 : Nat) (255 : Int64) ∈ xTB := (xTB_s5 _ 109 (by decide +kernel) rfl)
theorem kcB_109 : Jvm.Cond.constant "FaceZonesModel" (109 : Nat) (-99999 : Int32) ∈ xTB := (xTB_s5 _ 141 (by decide +kernel) rfl)
theorem kcB_187 : Jvm.Cond.constantLong "FaceZonesModel" (187 : Nat) (9 : Int64) ∈ xTB := (xTB_s5 _ 142 (by decide +kernel) rfl)
theorem kcB_96 : Jvm.Cond.constantLong "FaceZonesModel" (96 : Nat) (2 : Int64) ∈ xTB := (xTB_s5 _ 213 (by decide +kernel) rfl)
theorem kcB_235 : Jvm.Cond.constantLong "FaceZonesModel" (235 : Nat) (8 : Int64) ∈ xTB := (xTB_s6 _ 25 (by decide +kernel) rfl)
theorem kcB_247 : Jvm.Cond.constantLong "FaceZonesModel" (247 : Nat) (4 : Int64) ∈ xTB := (xTB_s6 _ 50 (by decide +kernel) rfl)
theorem kcB_249 : Jvm.Cond.constantLong "FaceZonesModel" (249 : Nat) (-99 : Int64) ∈ xTB := (xTB_s6 _ 62 (by decide +kernel) rfl)
theorem kcB_251 : Jvm.Cond.constantLong "FaceZonesModel" (251 : Nat) (99 : Int64) ∈ xTB := (xTB_s6 _ 63 (by decide +kernel) rfl)
theorem kcB_256 : Jvm.Cond.constantLong "FaceZonesModel" (256 : Nat) (3 : Int64) ∈ xTB := (xTB_s6 _ 68 (by decide +kernel) rfl)
theorem kcB_258 : Jvm.Cond.constantLong "FaceZonesModel" (258 : Nat) (-99999 : Int64) ∈ xTB := (xTB_s6 _ 69 (by decide +kernel) rfl)
theorem kcB_264 : Jvm.Cond.constantLong "FaceZonesModel" (264 : Nat) (10000 : Int64) ∈ xTB := (xTB_s6 _ 78 (by decide +kernel) rfl)
theorem kcB_270 : Jvm.Cond.constantLong "FaceZonesModel" (270 : Nat) (-9 : Int64) ∈ xTB := (xTB_s6 _ 96 (by decide +kernel) rfl)
theorem kcB_302 : Jvm.Cond.constantLong "FaceZonesModel" (302 : Nat) (6 : Int64) ∈ xTB := (xTB_s6 _ 144 (by decide +kernel) rfl)
theorem kcB_304 : Jvm.Cond.constantLong "FaceZonesModel" (304 : Nat) (-3 : Int64) ∈ xTB := (xTB_s6 _ 152 (by decide +kernel) rfl)
theorem kcB_310 : Jvm.Cond.constantLong "FaceZonesModel" (310 : Nat) (-2 : Int64) ∈ xTB := (xTB_s6 _ 180 (by decide +kernel) rfl)
theorem kcB_316 : Jvm.Cond.constantLong "FaceZonesModel" (316 : Nat) (25 : Int64) ∈ xTB := (xTB_s6 _ 181 (by decide +kernel) rfl)
theorem kcB_318 : Jvm.Cond.constantLong "FaceZonesModel" (318 : Nat) (5 : Int64) ∈ xTB := (xTB_s6 _ 182 (by decide +kernel) rfl)
theorem kcB_323 : Jvm.Cond.constantLong "FaceZonesModel" (323 : Nat) (289 : Int64) ∈ xTB := (xTB_s6 _ 191 (by decide +kernel) rfl)
theorem kcB_325 : Jvm.Cond.constantLong "FaceZonesModel" (325 : Nat) (17 : Int64) ∈ xTB := (xTB_s6 _ 192 (by decide +kernel) rfl)
theorem kcB_68 : Jvm.Cond.constantLong "FaceZonesModel" (68 : Nat) (10 : Int64) ∈ xTB := (xTB_s6 _ 200 (by decide +kernel) rfl)
theorem kcB_343 : Jvm.Cond.constantLong "FaceZonesModel" (343 : Nat) (100000 : Int64) ∈ xTB := (xTB_s6 _ 201 (by decide +kernel) rfl)
theorem kcB_348 : Jvm.Cond.constantLong "FaceZonesModel" (348 : Nat) (6364136223846793005 : Int64) ∈ xTB := (xTB_s6 _ 216 (by decide +kernel) rfl)
theorem kcB_350 : Jvm.Cond.constantLong "FaceZonesModel" (350 : Nat) (1442695040888963407 : Int64) ∈ xTB := (xTB_s6 _ 217 (by decide +kernel) rfl)
theorem kcL_186 : Jvm.Cond.constantLong "FaceZonesLaw" (186 : Nat) (4294967295 : Int64) ∈ xTB := (xTB_s6 _ 226 (by decide +kernel) rfl)
def xST : List (String × Nat × String) := [("FaceZones", 333, "an argument is out of range"), ("FaceZones", 86, "the text is full"), ("FaceZones", 100, "the text is not a crystal"), ("FaceZones", 142, "what is not 0 to 9"), ("FaceZones", 340, "no such face"), ("FaceZones", 181, "what is not 0 to 8"), ("FaceZones", 343, "no such listed zone"), ("FaceZones", 198, "what is not 0 to 4"), ("FaceZones", 215, "z is y"), ("FaceZones", 227, "what is not 0 to 3"), ("FaceZones", 247, "all indices are 0"), ("FaceZones", 249, "there is such a face, or there are 16"), ("FaceZones", 261, "there would be more than 16 faces"), ("FaceZones", 280, "no such twin plane"), ("FaceZones", 286, "no state is remembered"), ("FaceZones", 312, "script is out of range"), ("FaceZones", 345, "no such save slot"), ("FaceZones", 328, "nothing has been saved in this slot")]
