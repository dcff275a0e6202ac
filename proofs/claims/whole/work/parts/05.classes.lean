def F_WD : u_T := fun k => match k with
  | 0 => ("WallDamp", "materials", "[LWallDamp$Material;", true)
  | 1 => ("WallDamp", "around", "LWallDamp$Surroundings;", true)
  | 2 => ("WallDamp", "mouldRows", "LWallDamp$MouldRows;", true)
  | 3 => ("WallDamp", "standing", "LWallDamp$Wall;", true)
  | 4 => ("WallDamp", "trials", "LWallDamp$Trials;", true)
  | 5 => ("WallDamp", "hoursOver", "I", false)
  | 6 => ("WallDamp", "mouldGrown", "I", false)
  | _ => ("WallDamp", "startWater", "J", false)
def t_WD : Nat → FieldType := fun k => match k with
  | 0 => .array (.object "WallDamp$Material")
  | 1 => .object "WallDamp$Surroundings"
  | 2 => .object "WallDamp$MouldRows"
  | 3 => .object "WallDamp$Wall"
  | 4 => .object "WallDamp$Trials"
  | 5 => .int
  | 6 => .int
  | _ => .long
theorem n_WD : ∀ a, a < 8 → ∀ b, b < 8 → a ≠ b → (F_WD a).2.1 ≠ (F_WD b).2.1 := by decide +kernel
theorem ty_WD : ∀ k, k < 8 → parseFieldDescriptor (F_WD k).2.2.1 = some (t_WD k) := by decide +kernel
theorem i0_WD : ∀ k, k < 8 → u_lay "WallDamp" F_WD k ∈ x_tb := fun k hk => match k, hk with
  | 0, _ => m_353
  | 1, _ => m_355
  | 2, _ => m_357
  | 3, _ => m_359
  | 4, _ => m_361
  | 5, _ => m_363
  | 6, _ => m_365
  | 7, _ => m_367
  | k + 8, h => absurd h (by omega)
theorem i_WD : ∀ w ∈ u_ws "WallDamp" F_WD 8, w ∈ x_tb := fun w hw => by obtain ⟨k, hk, rfl⟩ := List.mem_map.mp hw; exact i0_WD k (List.mem_range.mp hk)
def F_Air : u_T := fun k => match k with
  | 0 => ("WallDamp$Place", "warmth", "I", false)
  | 1 => ("WallDamp$Place", "damp", "I", false)
  | 2 => ("WallDamp$Place", "pressure", "I", false)
  | 3 => ("WallDamp$Place", "supply", "I", false)
  | 4 => ("WallDamp$Place", "room", "I", false)
  | 5 => ("WallDamp$Place", "leaving", "I", false)
  | 6 => ("WallDamp$Place", "coming", "I", false)
  | 7 => ("WallDamp$Air", "gone", "J", false)
  | _ => ("WallDamp$Air", "come", "J", false)
def t_Air : Nat → FieldType := fun k => match k with
  | 0 => .int
  | 1 => .int
  | 2 => .int
  | 3 => .int
  | 4 => .int
  | 5 => .int
  | 6 => .int
  | 7 => .long
  | _ => .long
theorem n_Air : ∀ a, a < 9 → ∀ b, b < 9 → a ≠ b → (F_Air a).2.1 ≠ (F_Air b).2.1 := by decide +kernel
theorem ty_Air : ∀ k, k < 9 → parseFieldDescriptor (F_Air k).2.2.1 = some (t_Air k) := by decide +kernel
theorem i0_Air : ∀ k, k < 9 → u_lay "WallDamp$Air" F_Air k ∈ x_tb := fun k hk => match k, hk with
  | 0, _ => m_209
  | 1, _ => m_211
  | 2, _ => m_213
  | 3, _ => m_215
  | 4, _ => m_217
  | 5, _ => m_219
  | 6, _ => m_221
  | 7, _ => m_205
  | 8, _ => m_207
  | k + 9, h => absurd h (by omega)
theorem i_Air : ∀ w ∈ u_ws "WallDamp$Air" F_Air 9, w ∈ x_tb := fun w hw => by obtain ⟨k, hk, rfl⟩ := List.mem_map.mp hw; exact i0_Air k (List.mem_range.mp hk)
def F_Cell : u_T := fun k => match k with
  | 0 => ("WallDamp$Place", "warmth", "I", false)
  | 1 => ("WallDamp$Place", "damp", "I", false)
  | 2 => ("WallDamp$Place", "pressure", "I", false)
  | 3 => ("WallDamp$Place", "supply", "I", false)
  | 4 => ("WallDamp$Place", "room", "I", false)
  | 5 => ("WallDamp$Place", "leaving", "I", false)
  | 6 => ("WallDamp$Place", "coming", "I", false)
  | 7 => ("WallDamp$Cell", "material", "LWallDamp$Material;", false)
  | 8 => ("WallDamp$Cell", "thickness", "I", false)
  | 9 => ("WallDamp$Cell", "leakRate", "I", false)
  | 10 => ("WallDamp$Cell", "held", "I", false)
  | 11 => ("WallDamp$Cell", "way", "J", false)
  | 12 => ("WallDamp$Cell", "passes", "I", false)
  | 13 => ("WallDamp$Cell", "greatestDamp", "I", false)
  | _ => ("WallDamp$Cell", "frozen", "Z", false)
def t_Cell : Nat → FieldType := fun k => match k with
  | 0 => .int
  | 1 => .int
  | 2 => .int
  | 3 => .int
  | 4 => .int
  | 5 => .int
  | 6 => .int
  | 7 => .object "WallDamp$Material"
  | 8 => .int
  | 9 => .int
  | 10 => .int
  | 11 => .long
  | 12 => .int
  | 13 => .int
  | _ => .boolean
theorem n_Cell : ∀ a, a < 15 → ∀ b, b < 15 → a ≠ b → (F_Cell a).2.1 ≠ (F_Cell b).2.1 := by decide +kernel
theorem ty_Cell : ∀ k, k < 15 → parseFieldDescriptor (F_Cell k).2.2.1 = some (t_Cell k) := by decide +kernel
theorem i0_Cell : ∀ k, k < 15 → u_lay "WallDamp$Cell" F_Cell k ∈ x_tb := fun k hk => match k, hk with
  | 0, _ => m_267
  | 1, _ => m_268
  | 2, _ => m_269
  | 3, _ => m_270
  | 4, _ => m_271
  | 5, _ => m_272
  | 6, _ => m_273
  | 7, _ => m_251
  | 8, _ => m_253
  | 9, _ => m_255
  | 10, _ => m_257
  | 11, _ => m_259
  | 12, _ => m_261
  | 13, _ => m_263
  | 14, _ => m_265
  | k + 15, h => absurd h (by omega)
theorem i_Cell : ∀ w ∈ u_ws "WallDamp$Cell" F_Cell 15, w ∈ x_tb := fun w hw => by obtain ⟨k, hk, rfl⟩ := List.mem_map.mp hw; exact i0_Cell k (List.mem_range.mp hk)
def F_Corners : u_T := fun k => match k with
  | 0 => ("WallDamp$Corners", "xs", "[I", true)
  | 1 => ("WallDamp$Corners", "ys", "[I", true)
  | 2 => ("WallDamp$Corners", "limit", "I", true)
  | _ => ("WallDamp$Corners", "count", "I", false)
def t_Corners : Nat → FieldType := fun k => match k with
  | 0 => .array (.int)
  | 1 => .array (.int)
  | 2 => .int
  | _ => .int
theorem n_Corners : ∀ a, a < 4 → ∀ b, b < 4 → a ≠ b → (F_Corners a).2.1 ≠ (F_Corners b).2.1 := by decide +kernel
theorem ty_Corners : ∀ k, k < 4 → parseFieldDescriptor (F_Corners k).2.2.1 = some (t_Corners k) := by decide +kernel
theorem i0_Corners : ∀ k, k < 4 → u_lay "WallDamp$Corners" F_Corners k ∈ x_tb := fun k hk => match k, hk with
  | 0, _ => m_51
  | 1, _ => m_53
  | 2, _ => m_55
  | 3, _ => m_57
  | k + 4, h => absurd h (by omega)
theorem i_Corners : ∀ w ∈ u_ws "WallDamp$Corners" F_Corners 4, w ∈ x_tb := fun w hw => by obtain ⟨k, hk, rfl⟩ := List.mem_map.mp hw; exact i0_Corners k (List.mem_range.mp hk)
def F_Flow : u_T := fun k => match k with
  | 0 => ("WallDamp$Flow", "outer", "LWallDamp$Place;", true)
  | 1 => ("WallDamp$Flow", "inner", "LWallDamp$Place;", true)
  | 2 => ("WallDamp$Flow", "from", "LWallDamp$Place;", false)
  | 3 => ("WallDamp$Flow", "to", "LWallDamp$Place;", false)
  | _ => ("WallDamp$Flow", "much", "I", false)
def t_Flow : Nat → FieldType := fun k => match k with
  | 0 => .object "WallDamp$Place"
  | 1 => .object "WallDamp$Place"
  | 2 => .object "WallDamp$Place"
  | 3 => .object "WallDamp$Place"
  | _ => .int
theorem n_Flow : ∀ a, a < 5 → ∀ b, b < 5 → a ≠ b → (F_Flow a).2.1 ≠ (F_Flow b).2.1 := by decide +kernel
theorem ty_Flow : ∀ k, k < 5 → parseFieldDescriptor (F_Flow k).2.2.1 = some (t_Flow k) := by decide +kernel
theorem i0_Flow : ∀ k, k < 5 → u_lay "WallDamp$Flow" F_Flow k ∈ x_tb := fun k hk => match k, hk with
  | 0, _ => m_285
  | 1, _ => m_287
  | 2, _ => m_289
  | 3, _ => m_291
  | 4, _ => m_293
  | k + 5, h => absurd h (by omega)
theorem i_Flow : ∀ w ∈ u_ws "WallDamp$Flow" F_Flow 5, w ∈ x_tb := fun w hw => by obtain ⟨k, hk, rfl⟩ := List.mem_map.mp hw; exact i0_Flow k (List.mem_range.mp hk)
def F_Material : u_T := fun k => match k with
  | 0 => ("WallDamp$Material", "damps", "LWallDamp$Corners;", true)
  | 1 => ("WallDamp$Material", "vapour", "I", false)
  | 2 => ("WallDamp$Material", "liquid", "I", false)
  | _ => ("WallDamp$Material", "leads", "I", false)
def t_Material : Nat → FieldType := fun k => match k with
  | 0 => .object "WallDamp$Corners"
  | 1 => .int
  | 2 => .int
  | _ => .int
theorem n_Material : ∀ a, a < 4 → ∀ b, b < 4 → a ≠ b → (F_Material a).2.1 ≠ (F_Material b).2.1 := by decide +kernel
theorem ty_Material : ∀ k, k < 4 → parseFieldDescriptor (F_Material k).2.2.1 = some (t_Material k) := by decide +kernel
theorem i0_Material : ∀ k, k < 4 → u_lay "WallDamp$Material" F_Material k ∈ x_tb := fun k hk => match k, hk with
  | 0, _ => m_77
  | 1, _ => m_79
  | 2, _ => m_81
  | 3, _ => m_83
  | k + 4, h => absurd h (by omega)
theorem i_Material : ∀ w ∈ u_ws "WallDamp$Material" F_Material 4, w ∈ x_tb := fun w hw => by obtain ⟨k, hk, rfl⟩ := List.mem_map.mp hw; exact i0_Material k (List.mem_range.mp hk)
def F_MouldRows : u_T := fun k => match k with
  | 0 => ("WallDamp$MouldRows", "damps", "[I", true)
  | 1 => ("WallDamp$MouldRows", "froms", "[I", true)
  | 2 => ("WallDamp$MouldRows", "tos", "[I", true)
  | 3 => ("WallDamp$MouldRows", "mores", "[I", true)
  | _ => ("WallDamp$MouldRows", "count", "I", false)
def t_MouldRows : Nat → FieldType := fun k => match k with
  | 0 => .array (.int)
  | 1 => .array (.int)
  | 2 => .array (.int)
  | 3 => .array (.int)
  | _ => .int
theorem n_MouldRows : ∀ a, a < 5 → ∀ b, b < 5 → a ≠ b → (F_MouldRows a).2.1 ≠ (F_MouldRows b).2.1 := by decide +kernel
theorem ty_MouldRows : ∀ k, k < 5 → parseFieldDescriptor (F_MouldRows k).2.2.1 = some (t_MouldRows k) := by decide +kernel
theorem i0_MouldRows : ∀ k, k < 5 → u_lay "WallDamp$MouldRows" F_MouldRows k ∈ x_tb := fun k hk => match k, hk with
  | 0, _ => m_150
  | 1, _ => m_152
  | 2, _ => m_154
  | 3, _ => m_156
  | 4, _ => m_158
  | k + 5, h => absurd h (by omega)
theorem i_MouldRows : ∀ w ∈ u_ws "WallDamp$MouldRows" F_MouldRows 5, w ∈ x_tb := fun w hw => by obtain ⟨k, hk, rfl⟩ := List.mem_map.mp hw; exact i0_MouldRows k (List.mem_range.mp hk)
def F_Surroundings : u_T := fun k => match k with
  | 0 => ("WallDamp$Surroundings", "fullPressures", "LWallDamp$Corners;", true)
  | 1 => ("WallDamp$Surroundings", "outerWarmth", "[I", true)
  | 2 => ("WallDamp$Surroundings", "outerDamp", "[I", true)
  | 3 => ("WallDamp$Surroundings", "rainFall", "[I", true)
  | 4 => ("WallDamp$Surroundings", "sunShine", "[I", true)
  | 5 => ("WallDamp$Surroundings", "innerWarmth", "[I", true)
  | 6 => ("WallDamp$Surroundings", "innerDamp", "[I", true)
  | 7 => ("WallDamp$Surroundings", "outerFilm", "I", false)
  | _ => ("WallDamp$Surroundings", "innerFilm", "I", false)
def t_Surroundings : Nat → FieldType := fun k => match k with
  | 0 => .object "WallDamp$Corners"
  | 1 => .array (.int)
  | 2 => .array (.int)
  | 3 => .array (.int)
  | 4 => .array (.int)
  | 5 => .array (.int)
  | 6 => .array (.int)
  | 7 => .int
  | _ => .int
theorem n_Surroundings : ∀ a, a < 9 → ∀ b, b < 9 → a ≠ b → (F_Surroundings a).2.1 ≠ (F_Surroundings b).2.1 := by decide +kernel
theorem ty_Surroundings : ∀ k, k < 9 → parseFieldDescriptor (F_Surroundings k).2.2.1 = some (t_Surroundings k) := by decide +kernel
theorem i0_Surroundings : ∀ k, k < 9 → u_lay "WallDamp$Surroundings" F_Surroundings k ∈ x_tb := fun k hk => match k, hk with
  | 0, _ => m_120
  | 1, _ => m_122
  | 2, _ => m_124
  | 3, _ => m_126
  | 4, _ => m_128
  | 5, _ => m_130
  | 6, _ => m_132
  | 7, _ => m_134
  | 8, _ => m_136
  | k + 9, h => absurd h (by omega)
theorem i_Surroundings : ∀ w ∈ u_ws "WallDamp$Surroundings" F_Surroundings 9, w ∈ x_tb := fun w hw => by obtain ⟨k, hk, rfl⟩ := List.mem_map.mp hw; exact i0_Surroundings k (List.mem_range.mp hk)
def F_Trials : u_T := fun k => match k with
  | 0 => ("WallDamp$Trials", "driest", "[I", true)
  | 1 => ("WallDamp$Trials", "row", "[I", true)
  | _ => ("WallDamp$Trials", "trial", "LWallDamp$Wall;", true)
def t_Trials : Nat → FieldType := fun k => match k with
  | 0 => .array (.int)
  | 1 => .array (.int)
  | _ => .object "WallDamp$Wall"
theorem n_Trials : ∀ a, a < 3 → ∀ b, b < 3 → a ≠ b → (F_Trials a).2.1 ≠ (F_Trials b).2.1 := by decide +kernel
theorem ty_Trials : ∀ k, k < 3 → parseFieldDescriptor (F_Trials k).2.2.1 = some (t_Trials k) := by decide +kernel
theorem i0_Trials : ∀ k, k < 3 → u_lay "WallDamp$Trials" F_Trials k ∈ x_tb := fun k hk => match k, hk with
  | 0, _ => m_338
  | 1, _ => m_340
  | 2, _ => m_342
  | k + 3, h => absurd h (by omega)
theorem i_Trials : ∀ w ∈ u_ws "WallDamp$Trials" F_Trials 3, w ∈ x_tb := fun w hw => by obtain ⟨k, hk, rfl⟩ := List.mem_map.mp hw; exact i0_Trials k (List.mem_range.mp hk)
def F_Wall : u_T := fun k => match k with
  | 0 => ("WallDamp$Wall", "cells", "[LWallDamp$Cell;", true)
  | 1 => ("WallDamp$Wall", "outerAir", "LWallDamp$Air;", true)
  | 2 => ("WallDamp$Wall", "innerAir", "LWallDamp$Air;", true)
  | 3 => ("WallDamp$Wall", "outerVapour", "LWallDamp$Flow;", true)
  | 4 => ("WallDamp$Wall", "innerVapour", "LWallDamp$Flow;", true)
  | 5 => ("WallDamp$Wall", "rain", "LWallDamp$Flow;", true)
  | 6 => ("WallDamp$Wall", "leaks", "[LWallDamp$Flow;", true)
  | 7 => ("WallDamp$Wall", "betweens", "[LWallDamp$Flow;", true)
  | _ => ("WallDamp$Wall", "flows", "[LWallDamp$Flow;", true)
def t_Wall : Nat → FieldType := fun k => match k with
  | 0 => .array (.object "WallDamp$Cell")
  | 1 => .object "WallDamp$Air"
  | 2 => .object "WallDamp$Air"
  | 3 => .object "WallDamp$Flow"
  | 4 => .object "WallDamp$Flow"
  | 5 => .object "WallDamp$Flow"
  | 6 => .array (.object "WallDamp$Flow")
  | 7 => .array (.object "WallDamp$Flow")
  | _ => .array (.object "WallDamp$Flow")
theorem n_Wall : ∀ a, a < 9 → ∀ b, b < 9 → a ≠ b → (F_Wall a).2.1 ≠ (F_Wall b).2.1 := by decide +kernel
theorem ty_Wall : ∀ k, k < 9 → parseFieldDescriptor (F_Wall k).2.2.1 = some (t_Wall k) := by decide +kernel
theorem i0_Wall : ∀ k, k < 9 → u_lay "WallDamp$Wall" F_Wall k ∈ x_tb := fun k hk => match k, hk with
  | 0, _ => m_309
  | 1, _ => m_311
  | 2, _ => m_313
  | 3, _ => m_315
  | 4, _ => m_317
  | 5, _ => m_319
  | 6, _ => m_321
  | 7, _ => m_323
  | 8, _ => m_325
  | k + 9, h => absurd h (by omega)
theorem i_Wall : ∀ w ∈ u_ws "WallDamp$Wall" F_Wall 9, w ∈ x_tb := fun w hw => by obtain ⟨k, hk, rfl⟩ := List.mem_map.mp hw; exact i0_Wall k (List.mem_range.mp hk)
def F_Mod : u_T := fun k => match k with
  | 0 => ("WallDampModel", "thrown", "I", false)
  | 1 => ("WallDampModel", "cells", "I", true)
  | 2 => ("WallDampModel", "corners", "[I", true)
  | 3 => ("WallDampModel", "held", "[I", true)
  | 4 => ("WallDampModel", "damps", "[I", true)
  | 5 => ("WallDampModel", "vapour", "[I", true)
  | 6 => ("WallDampModel", "liquid", "[I", true)
  | 7 => ("WallDampModel", "leads", "[I", true)
  | 8 => ("WallDampModel", "material", "[I", true)
  | 9 => ("WallDampModel", "thickness", "[I", true)
  | 10 => ("WallDampModel", "water", "[J", true)
  | 11 => ("WallDampModel", "leak", "[I", true)
  | 12 => ("WallDampModel", "warmth", "[I", true)
  | 13 => ("WallDampModel", "passes", "[I", true)
  | 14 => ("WallDampModel", "frozen", "[Z", true)
  | 15 => ("WallDampModel", "wettest", "[I", true)
  | 16 => ("WallDampModel", "tables", "I", false)
  | 17 => ("WallDampModel", "tableWarmth", "[I", true)
  | 18 => ("WallDampModel", "tablePressure", "[I", true)
  | 19 => ("WallDampModel", "outer", "I", false)
  | 20 => ("WallDampModel", "inner", "I", false)
  | 21 => ("WallDampModel", "outWarmth", "[I", true)
  | 22 => ("WallDampModel", "outDamp", "[I", true)
  | 23 => ("WallDampModel", "rain", "[I", true)
  | 24 => ("WallDampModel", "sun", "[I", true)
  | 25 => ("WallDampModel", "inWarmth", "[I", true)
  | 26 => ("WallDampModel", "inDamp", "[I", true)
  | 27 => ("WallDampModel", "growths", "I", false)
  | 28 => ("WallDampModel", "growDamp", "[I", true)
  | 29 => ("WallDampModel", "growFrom", "[I", true)
  | 30 => ("WallDampModel", "growTo", "[I", true)
  | 31 => ("WallDampModel", "growMore", "[I", true)
  | 32 => ("WallDampModel", "hours", "I", false)
  | 33 => ("WallDampModel", "mould", "I", false)
  | 34 => ("WallDampModel", "fromOutside", "J", false)
  | 35 => ("WallDampModel", "fromInside", "J", false)
  | 36 => ("WallDampModel", "wentOut", "J", false)
  | 37 => ("WallDampModel", "wentIn", "J", false)
  | 38 => ("WallDampModel", "start", "J", false)
  | 39 => ("WallDampModel", "pressure", "[J", true)
  | 40 => ("WallDampModel", "damp", "[I", true)
  | 41 => ("WallDampModel", "into", "[J", true)
  | 42 => ("WallDampModel", "outFlow", "J", false)
  | 43 => ("WallDampModel", "inFlow", "J", false)
  | 44 => ("WallDampModel", "keptMaterial", "[I", true)
  | 45 => ("WallDampModel", "keptThickness", "[I", true)
  | 46 => ("WallDampModel", "keptLeak", "[I", true)
  | 47 => ("WallDampModel", "row", "[I", true)
  | 48 => ("WallDampModel", "best", "[I", true)
  | 49 => ("WallDampModel", "used", "[Z", true)
  | _ => ("WallDampModel", "saved", "[J", true)
def t_Mod : Nat → FieldType := fun k => match k with
  | 0 => .int
  | 1 => .int
  | 2 => .array (.int)
  | 3 => .array (.int)
  | 4 => .array (.int)
  | 5 => .array (.int)
  | 6 => .array (.int)
  | 7 => .array (.int)
  | 8 => .array (.int)
  | 9 => .array (.int)
  | 10 => .array (.long)
  | 11 => .array (.int)
  | 12 => .array (.int)
  | 13 => .array (.int)
  | 14 => .array (.boolean)
  | 15 => .array (.int)
  | 16 => .int
  | 17 => .array (.int)
  | 18 => .array (.int)
  | 19 => .int
  | 20 => .int
  | 21 => .array (.int)
  | 22 => .array (.int)
  | 23 => .array (.int)
  | 24 => .array (.int)
  | 25 => .array (.int)
  | 26 => .array (.int)
  | 27 => .int
  | 28 => .array (.int)
  | 29 => .array (.int)
  | 30 => .array (.int)
  | 31 => .array (.int)
  | 32 => .int
  | 33 => .int
  | 34 => .long
  | 35 => .long
  | 36 => .long
  | 37 => .long
  | 38 => .long
  | 39 => .array (.long)
  | 40 => .array (.int)
  | 41 => .array (.long)
  | 42 => .long
  | 43 => .long
  | 44 => .array (.int)
  | 45 => .array (.int)
  | 46 => .array (.int)
  | 47 => .array (.int)
  | 48 => .array (.int)
  | 49 => .array (.boolean)
  | _ => .array (.long)
theorem n_Mod : ∀ a, a < 51 → ∀ b, b < 51 → a ≠ b → (F_Mod a).2.1 ≠ (F_Mod b).2.1 := by decide +kernel
theorem ty_Mod : ∀ k, k < 51 → parseFieldDescriptor (F_Mod k).2.2.1 = some (t_Mod k) := by decide +kernel
theorem i0_Mod : ∀ k, k < 51 → u_lay "WallDampModel" F_Mod k ∈ x_tb := fun k hk => match k, hk with
  | 0, _ => m_844
  | 1, _ => m_846
  | 2, _ => m_848
  | 3, _ => m_850
  | 4, _ => m_852
  | 5, _ => m_854
  | 6, _ => m_856
  | 7, _ => m_858
  | 8, _ => m_860
  | 9, _ => m_862
  | 10, _ => m_864
  | 11, _ => m_866
  | 12, _ => m_868
  | 13, _ => m_870
  | 14, _ => m_872
  | 15, _ => m_874
  | 16, _ => m_876
  | 17, _ => m_878
  | 18, _ => m_880
  | 19, _ => m_882
  | 20, _ => m_884
  | 21, _ => m_886
  | 22, _ => m_888
  | 23, _ => m_890
  | 24, _ => m_892
  | 25, _ => m_894
  | 26, _ => m_896
  | 27, _ => m_898
  | 28, _ => m_900
  | 29, _ => m_902
  | 30, _ => m_904
  | 31, _ => m_906
  | 32, _ => m_908
  | 33, _ => m_910
  | 34, _ => m_912
  | 35, _ => m_914
  | 36, _ => m_916
  | 37, _ => m_918
  | 38, _ => m_920
  | 39, _ => m_922
  | 40, _ => m_924
  | 41, _ => m_926
  | 42, _ => m_928
  | 43, _ => m_930
  | 44, _ => m_932
  | 45, _ => m_934
  | 46, _ => m_936
  | 47, _ => m_938
  | 48, _ => m_940
  | 49, _ => m_942
  | 50, _ => m_944
  | k + 51, h => absurd h (by omega)
theorem i_Mod : ∀ w ∈ u_ws "WallDampModel" F_Mod 51, w ∈ x_tb := fun w hw => by obtain ⟨k, hk, rfl⟩ := List.mem_map.mp hw; exact i0_Mod k (List.mem_range.mp hk)
abbrev x_cl : List vw_C := [("WallDamp", F_WD, 8), ("WallDamp$Air", F_Air, 9), ("WallDamp$Cell", F_Cell, 15), ("WallDamp$Corners", F_Corners, 4), ("WallDamp$Flow", F_Flow, 5), ("WallDamp$Material", F_Material, 4), ("WallDamp$MouldRows", F_MouldRows, 5), ("WallDamp$Surroundings", F_Surroundings, 9), ("WallDamp$Trials", F_Trials, 3), ("WallDamp$Wall", F_Wall, 9), ("WallDampModel", F_Mod, 51)]
def x_FT : Nat → List (Nat × Nat) := fun c => match c with
  | 0 => [(2, 7), (2, 8), (2, 9), (2, 10), (2, 11), (0, 12), (0, 13), (1, 14)]
  | 1 => [(0, 0), (0, 1), (0, 2), (0, 3), (0, 4), (0, 5), (0, 6), (1, 15), (1, 16)]
  | 2 => [(0, 0), (0, 1), (0, 2), (0, 3), (0, 4), (0, 5), (0, 6), (2, 17), (0, 18), (0, 19), (0, 20), (1, 21), (0, 22), (0, 23), (0, 24)]
  | 3 => [(2, 25), (2, 26), (0, 27), (0, 28)]
  | 4 => [(2, 29), (2, 30), (2, 31), (2, 32), (0, 33)]
  | 5 => [(2, 34), (0, 35), (0, 36), (0, 37)]
  | 6 => [(2, 38), (2, 39), (2, 40), (2, 41), (0, 42)]
  | 7 => [(2, 43), (2, 44), (2, 45), (2, 46), (2, 47), (2, 48), (2, 49), (0, 50), (0, 51)]
  | 8 => [(2, 52), (2, 53), (2, 54)]
  | 9 => [(2, 55), (2, 56), (2, 57), (2, 58), (2, 59), (2, 60), (2, 61), (2, 62), (2, 63)]
  | 10 => [(0, 64), (0, 65), (2, 66), (2, 67), (2, 68), (2, 69), (2, 70), (2, 71), (2, 72), (2, 73), (2, 74), (2, 75), (2, 76), (2, 77), (2, 78), (2, 79), (0, 80), (2, 81), (2, 82), (0, 83), (0, 84), (2, 85), (2, 86), (2, 87), (2, 88), (2, 89), (2, 90), (0, 91), (2, 92), (2, 93), (2, 94), (2, 95), (0, 96), (0, 97), (1, 98), (1, 99), (1, 100), (1, 101), (1, 102), (2, 103), (2, 104), (2, 105), (1, 106), (1, 107), (2, 108), (2, 109), (2, 110), (2, 111), (2, 112), (2, 113), (2, 114)]
  | _ => []
theorem nd_WD : (x_FT 0).Nodup := by decide +kernel
theorem k3_WD : ∀ y ∈ x_FT 0, y.1 < 3 := by decide +kernel
theorem nd_Air : (x_FT 1).Nodup := by decide +kernel
theorem k3_Air : ∀ y ∈ x_FT 1, y.1 < 3 := by decide +kernel
theorem nd_Cell : (x_FT 2).Nodup := by decide +kernel
theorem k3_Cell : ∀ y ∈ x_FT 2, y.1 < 3 := by decide +kernel
theorem nd_Corners : (x_FT 3).Nodup := by decide +kernel
theorem k3_Corners : ∀ y ∈ x_FT 3, y.1 < 3 := by decide +kernel
theorem nd_Flow : (x_FT 4).Nodup := by decide +kernel
theorem k3_Flow : ∀ y ∈ x_FT 4, y.1 < 3 := by decide +kernel
theorem nd_Material : (x_FT 5).Nodup := by decide +kernel
theorem k3_Material : ∀ y ∈ x_FT 5, y.1 < 3 := by decide +kernel
theorem nd_MouldRows : (x_FT 6).Nodup := by decide +kernel
theorem k3_MouldRows : ∀ y ∈ x_FT 6, y.1 < 3 := by decide +kernel
theorem nd_Surroundings : (x_FT 7).Nodup := by decide +kernel
theorem k3_Surroundings : ∀ y ∈ x_FT 7, y.1 < 3 := by decide +kernel
theorem nd_Trials : (x_FT 8).Nodup := by decide +kernel
theorem k3_Trials : ∀ y ∈ x_FT 8, y.1 < 3 := by decide +kernel
theorem nd_Wall : (x_FT 9).Nodup := by decide +kernel
theorem k3_Wall : ∀ y ∈ x_FT 9, y.1 < 3 := by decide +kernel
theorem nd_Mod : (x_FT 10).Nodup := by decide +kernel
theorem k3_Mod : ∀ y ∈ x_FT 10, y.1 < 3 := by decide +kernel
abbrev x_tys (aC : Nat → ClassId) : List (ClassId × FieldType) := [(aC 100, .int), (aC 101, .long), (aC 102, .boolean), (aC 103, .object "WallDamp$Material"), (aC 104, .object "WallDamp$Cell"), (aC 105, .object "WallDamp$Flow")]
