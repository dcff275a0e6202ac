section
-- ===== PART A: goes FIRST, ahead of the names: the tables' words, and 'selects' of the private methods out of them =====
/-- a private method of a class that the tables say can be made, by its rows of tables_1 -/
def lw_okq (q : MethodName × Nat) : Prop := (q.1.cls ≠ "java/lang/invoke/MethodHandle" ∧ q.1.cls ≠ "java/lang/invoke/VarHandle") ∧ Cond.instantiable q.1.cls q.2 ∈ tables_1 ∧ Cond.privateMethod q.1 ∈ tables_1 ∧ Cond.instanceMethod q.1 ∈ tables_1
theorem lw_p0 : lw_okq (⟨"WallDamp", "materialOf", "(I)LWallDamp$Material;"⟩, 8) := ⟨⟨by decide +kernel, by decide +kernel⟩, List.mem_of_getElem? (i := 20) (by decide +kernel), List.mem_of_getElem? (i := 387) (by decide +kernel), List.mem_of_getElem? (i := 388) (by decide +kernel)⟩
theorem lw_p1 : lw_okq (⟨"java/lang/Throwable", "fillInStackTrace", "(I)Ljava/lang/Throwable;"⟩, 6) := ⟨⟨by decide +kernel, by decide +kernel⟩, List.mem_of_getElem? (i := 431) (by decide +kernel), List.mem_of_getElem? (i := 429) (by decide +kernel), List.mem_of_getElem? (i := 430) (by decide +kernel)⟩
theorem lw_p2 : lw_okq (⟨"WallDamp", "requireNoHourOver", "()V"⟩, 8) := ⟨⟨by decide +kernel, by decide +kernel⟩, List.mem_of_getElem? (i := 20) (by decide +kernel), List.mem_of_getElem? (i := 462) (by decide +kernel), List.mem_of_getElem? (i := 463) (by decide +kernel)⟩
theorem lw_p3 : lw_okq (⟨"WallDamp", "cellAt", "(I)LWallDamp$Cell;"⟩, 8) := ⟨⟨by decide +kernel, by decide +kernel⟩, List.mem_of_getElem? (i := 20) (by decide +kernel), List.mem_of_getElem? (i := 505) (by decide +kernel), List.mem_of_getElem? (i := 506) (by decide +kernel)⟩
theorem lw_p4 : lw_okq (⟨"WallDamp", "passHour", "()V"⟩, 8) := ⟨⟨by decide +kernel, by decide +kernel⟩, List.mem_of_getElem? (i := 20) (by decide +kernel), List.mem_of_getElem? (i := 598) (by decide +kernel), List.mem_of_getElem? (i := 599) (by decide +kernel)⟩
theorem lw_p5 : lw_okq (⟨"WallDamp$Wall", "warmCells", "(LWallDamp$Surroundings;)V"⟩, 9) := ⟨⟨by decide +kernel, by decide +kernel⟩, List.mem_of_getElem? (i := 162) (by decide +kernel), List.mem_of_getElem? (i := 609) (by decide +kernel), List.mem_of_getElem? (i := 610) (by decide +kernel)⟩
theorem lw_p6 : lw_okq (⟨"WallDamp$Wall", "setAirFlows", "(I)V"⟩, 9) := ⟨⟨by decide +kernel, by decide +kernel⟩, List.mem_of_getElem? (i := 162) (by decide +kernel), List.mem_of_getElem? (i := 652) (by decide +kernel), List.mem_of_getElem? (i := 653) (by decide +kernel)⟩
theorem lw_p7 : lw_okq (⟨"WallDamp$Wall", "setFlowsBetween", "()V"⟩, 9) := ⟨⟨by decide +kernel, by decide +kernel⟩, List.mem_of_getElem? (i := 162) (by decide +kernel), List.mem_of_getElem? (i := 664) (by decide +kernel), List.mem_of_getElem? (i := 665) (by decide +kernel)⟩
theorem lw_p8 : lw_okq (⟨"WallDamp$Wall", "limitFlows", "()V"⟩, 9) := ⟨⟨by decide +kernel, by decide +kernel⟩, List.mem_of_getElem? (i := 162) (by decide +kernel), List.mem_of_getElem? (i := 669) (by decide +kernel), List.mem_of_getElem? (i := 670) (by decide +kernel)⟩
theorem lw_p9 : lw_okq (⟨"WallDamp$Flow", "portion", "(II)I"⟩, 5) := ⟨⟨by decide +kernel, by decide +kernel⟩, List.mem_of_getElem? (i := 275) (by decide +kernel), List.mem_of_getElem? (i := 681) (by decide +kernel), List.mem_of_getElem? (i := 682) (by decide +kernel)⟩
theorem lw_p10 : lw_okq (⟨"WallDamp", "growMould", "()V"⟩, 8) := ⟨⟨by decide +kernel, by decide +kernel⟩, List.mem_of_getElem? (i := 20) (by decide +kernel), List.mem_of_getElem? (i := 724) (by decide +kernel), List.mem_of_getElem? (i := 725) (by decide +kernel)⟩
theorem lw_p11 : lw_okq (⟨"WallDamp$Trials", "waterBehind", "(LWallDamp$Wall;LWallDamp$Surroundings;I)J"⟩, 3) := ⟨⟨by decide +kernel, by decide +kernel⟩, List.mem_of_getElem? (i := 329) (by decide +kernel), List.mem_of_getElem? (i := 766) (by decide +kernel), List.mem_of_getElem? (i := 767) (by decide +kernel)⟩
theorem lw_p12 : lw_okq (⟨"WallDamp$Trials", "keepRow", "(I)V"⟩, 3) := ⟨⟨by decide +kernel, by decide +kernel⟩, List.mem_of_getElem? (i := 329) (by decide +kernel), List.mem_of_getElem? (i := 776) (by decide +kernel), List.mem_of_getElem? (i := 777) (by decide +kernel)⟩
theorem lw_p13 : lw_okq (⟨"WallDamp$Trials", "stepRow", "(I)Z"⟩, 3) := ⟨⟨by decide +kernel, by decide +kernel⟩, List.mem_of_getElem? (i := 329) (by decide +kernel), List.mem_of_getElem? (i := 780) (by decide +kernel), List.mem_of_getElem? (i := 781) (by decide +kernel)⟩
theorem lw_p14 : lw_okq (⟨"WallDamp$Trials", "swap", "(II)V"⟩, 3) := ⟨⟨by decide +kernel, by decide +kernel⟩, List.mem_of_getElem? (i := 329) (by decide +kernel), List.mem_of_getElem? (i := 784) (by decide +kernel), List.mem_of_getElem? (i := 785) (by decide +kernel)⟩
theorem lw_p15 : lw_okq (⟨"WallDampModel", "most", "(I)I"⟩, 51) := ⟨⟨by decide +kernel, by decide +kernel⟩, List.mem_of_getElem? (i := 788) (by decide +kernel), List.mem_of_getElem? (i := 964) (by decide +kernel), List.mem_of_getElem? (i := 965) (by decide +kernel)⟩
def lw_privs_1 : List (MethodName × Nat) := [(⟨"WallDamp", "materialOf", "(I)LWallDamp$Material;"⟩, 8), (⟨"java/lang/Throwable", "fillInStackTrace", "(I)Ljava/lang/Throwable;"⟩, 6), (⟨"WallDamp", "requireNoHourOver", "()V"⟩, 8), (⟨"WallDamp", "cellAt", "(I)LWallDamp$Cell;"⟩, 8), (⟨"WallDamp", "passHour", "()V"⟩, 8), (⟨"WallDamp$Wall", "warmCells", "(LWallDamp$Surroundings;)V"⟩, 9), (⟨"WallDamp$Wall", "setAirFlows", "(I)V"⟩, 9), (⟨"WallDamp$Wall", "setFlowsBetween", "()V"⟩, 9), (⟨"WallDamp$Wall", "limitFlows", "()V"⟩, 9), (⟨"WallDamp$Flow", "portion", "(II)I"⟩, 5), (⟨"WallDamp", "growMould", "()V"⟩, 8), (⟨"WallDamp$Trials", "waterBehind", "(LWallDamp$Wall;LWallDamp$Surroundings;I)J"⟩, 3), (⟨"WallDamp$Trials", "keepRow", "(I)V"⟩, 3), (⟨"WallDamp$Trials", "stepRow", "(I)Z"⟩, 3), (⟨"WallDamp$Trials", "swap", "(II)V"⟩, 3), (⟨"WallDampModel", "most", "(I)I"⟩, 51)]
theorem lw_r1 : ∀ q ∈ lw_privs_1, lw_okq q := List.forall_mem_cons.mpr ⟨lw_p0, List.forall_mem_cons.mpr ⟨lw_p1, List.forall_mem_cons.mpr ⟨lw_p2, List.forall_mem_cons.mpr ⟨lw_p3, List.forall_mem_cons.mpr ⟨lw_p4, List.forall_mem_cons.mpr ⟨lw_p5, List.forall_mem_cons.mpr ⟨lw_p6, List.forall_mem_cons.mpr ⟨lw_p7, List.forall_mem_cons.mpr ⟨lw_p8, List.forall_mem_cons.mpr ⟨lw_p9, List.forall_mem_cons.mpr ⟨lw_p10, List.forall_mem_cons.mpr ⟨lw_p11, List.forall_mem_cons.mpr ⟨lw_p12, List.forall_mem_cons.mpr ⟨lw_p13, List.forall_mem_cons.mpr ⟨lw_p14, List.forall_mem_cons.mpr ⟨lw_p15, fun _ h => absurd h List.not_mem_nil⟩⟩⟩⟩⟩⟩⟩⟩⟩⟩⟩⟩⟩⟩⟩⟩
theorem lw_p16 : lw_okq (⟨"WallDampModel", "isCell", "(I)Z"⟩, 51) := ⟨⟨by decide +kernel, by decide +kernel⟩, List.mem_of_getElem? (i := 788) (by decide +kernel), List.mem_of_getElem? (i := 977) (by decide +kernel), List.mem_of_getElem? (i := 978) (by decide +kernel)⟩
theorem lw_p17 : lw_okq (⟨"WallDampModel", "fullAt", "(I)I"⟩, 51) := ⟨⟨by decide +kernel, by decide +kernel⟩, List.mem_of_getElem? (i := 788) (by decide +kernel), List.mem_of_getElem? (i := 991) (by decide +kernel), List.mem_of_getElem? (i := 992) (by decide +kernel)⟩
theorem lw_p18 : lw_okq (⟨"WallDampModel", "hour", "(I)V"⟩, 51) := ⟨⟨by decide +kernel, by decide +kernel⟩, List.mem_of_getElem? (i := 788) (by decide +kernel), List.mem_of_getElem? (i := 1026) (by decide +kernel), List.mem_of_getElem? (i := 1027) (by decide +kernel)⟩
theorem lw_p19 : lw_okq (⟨"WallDampModel", "warm", "(I)V"⟩, 51) := ⟨⟨by decide +kernel, by decide +kernel⟩, List.mem_of_getElem? (i := 788) (by decide +kernel), List.mem_of_getElem? (i := 1030) (by decide +kernel), List.mem_of_getElem? (i := 1031) (by decide +kernel)⟩
theorem lw_p20 : lw_okq (⟨"WallDampModel", "resistance", "(I)I"⟩, 51) := ⟨⟨by decide +kernel, by decide +kernel⟩, List.mem_of_getElem? (i := 788) (by decide +kernel), List.mem_of_getElem? (i := 1035) (by decide +kernel), List.mem_of_getElem? (i := 1036) (by decide +kernel)⟩
theorem lw_p21 : lw_okq (⟨"WallDampModel", "flow", "(I)V"⟩, 51) := ⟨⟨by decide +kernel, by decide +kernel⟩, List.mem_of_getElem? (i := 788) (by decide +kernel), List.mem_of_getElem? (i := 1042) (by decide +kernel), List.mem_of_getElem? (i := 1043) (by decide +kernel)⟩
theorem lw_p22 : lw_okq (⟨"WallDampModel", "dampOf", "(I)I"⟩, 51) := ⟨⟨by decide +kernel, by decide +kernel⟩, List.mem_of_getElem? (i := 788) (by decide +kernel), List.mem_of_getElem? (i := 1046) (by decide +kernel), List.mem_of_getElem? (i := 1047) (by decide +kernel)⟩
theorem lw_p23 : lw_okq (⟨"WallDampModel", "move", "()V"⟩, 51) := ⟨⟨by decide +kernel, by decide +kernel⟩, List.mem_of_getElem? (i := 788) (by decide +kernel), List.mem_of_getElem? (i := 1054) (by decide +kernel), List.mem_of_getElem? (i := 1055) (by decide +kernel)⟩
theorem lw_p24 : lw_okq (⟨"WallDampModel", "lessenLeaving", "(I)V"⟩, 51) := ⟨⟨by decide +kernel, by decide +kernel⟩, List.mem_of_getElem? (i := 788) (by decide +kernel), List.mem_of_getElem? (i := 1058) (by decide +kernel), List.mem_of_getElem? (i := 1059) (by decide +kernel)⟩
theorem lw_p25 : lw_okq (⟨"WallDampModel", "lessenComing", "(I)V"⟩, 51) := ⟨⟨by decide +kernel, by decide +kernel⟩, List.mem_of_getElem? (i := 788) (by decide +kernel), List.mem_of_getElem? (i := 1062) (by decide +kernel), List.mem_of_getElem? (i := 1063) (by decide +kernel)⟩
theorem lw_p26 : lw_okq (⟨"WallDampModel", "frostAndMould", "()V"⟩, 51) := ⟨⟨by decide +kernel, by decide +kernel⟩, List.mem_of_getElem? (i := 788) (by decide +kernel), List.mem_of_getElem? (i := 1066) (by decide +kernel), List.mem_of_getElem? (i := 1067) (by decide +kernel)⟩
theorem lw_p27 : lw_okq (⟨"WallDampModel", "allWater", "()J"⟩, 51) := ⟨⟨by decide +kernel, by decide +kernel⟩, List.mem_of_getElem? (i := 788) (by decide +kernel), List.mem_of_getElem? (i := 1079) (by decide +kernel), List.mem_of_getElem? (i := 1080) (by decide +kernel)⟩
theorem lw_p28 : lw_okq (⟨"WallDampModel", "keep", "()[J"⟩, 51) := ⟨⟨by decide +kernel, by decide +kernel⟩, List.mem_of_getElem? (i := 788) (by decide +kernel), List.mem_of_getElem? (i := 1092) (by decide +kernel), List.mem_of_getElem? (i := 1093) (by decide +kernel)⟩
theorem lw_p29 : lw_okq (⟨"WallDampModel", "dry", "(I)J"⟩, 51) := ⟨⟨by decide +kernel, by decide +kernel⟩, List.mem_of_getElem? (i := 788) (by decide +kernel), List.mem_of_getElem? (i := 1097) (by decide +kernel), List.mem_of_getElem? (i := 1098) (by decide +kernel)⟩
theorem lw_p30 : lw_okq (⟨"WallDampModel", "next", "()Z"⟩, 51) := ⟨⟨by decide +kernel, by decide +kernel⟩, List.mem_of_getElem? (i := 788) (by decide +kernel), List.mem_of_getElem? (i := 1101) (by decide +kernel), List.mem_of_getElem? (i := 1102) (by decide +kernel)⟩
def lw_privs_2 : List (MethodName × Nat) := [(⟨"WallDampModel", "isCell", "(I)Z"⟩, 51), (⟨"WallDampModel", "fullAt", "(I)I"⟩, 51), (⟨"WallDampModel", "hour", "(I)V"⟩, 51), (⟨"WallDampModel", "warm", "(I)V"⟩, 51), (⟨"WallDampModel", "resistance", "(I)I"⟩, 51), (⟨"WallDampModel", "flow", "(I)V"⟩, 51), (⟨"WallDampModel", "dampOf", "(I)I"⟩, 51), (⟨"WallDampModel", "move", "()V"⟩, 51), (⟨"WallDampModel", "lessenLeaving", "(I)V"⟩, 51), (⟨"WallDampModel", "lessenComing", "(I)V"⟩, 51), (⟨"WallDampModel", "frostAndMould", "()V"⟩, 51), (⟨"WallDampModel", "allWater", "()J"⟩, 51), (⟨"WallDampModel", "keep", "()[J"⟩, 51), (⟨"WallDampModel", "dry", "(I)J"⟩, 51), (⟨"WallDampModel", "next", "()Z"⟩, 51)]
theorem lw_r2 : ∀ q ∈ lw_privs_2, lw_okq q := List.forall_mem_cons.mpr ⟨lw_p16, List.forall_mem_cons.mpr ⟨lw_p17, List.forall_mem_cons.mpr ⟨lw_p18, List.forall_mem_cons.mpr ⟨lw_p19, List.forall_mem_cons.mpr ⟨lw_p20, List.forall_mem_cons.mpr ⟨lw_p21, List.forall_mem_cons.mpr ⟨lw_p22, List.forall_mem_cons.mpr ⟨lw_p23, List.forall_mem_cons.mpr ⟨lw_p24, List.forall_mem_cons.mpr ⟨lw_p25, List.forall_mem_cons.mpr ⟨lw_p26, List.forall_mem_cons.mpr ⟨lw_p27, List.forall_mem_cons.mpr ⟨lw_p28, List.forall_mem_cons.mpr ⟨lw_p29, List.forall_mem_cons.mpr ⟨lw_p30, fun _ h => absurd h List.not_mem_nil⟩⟩⟩⟩⟩⟩⟩⟩⟩⟩⟩⟩⟩⟩⟩
def lw_privs : List (MethodName × Nat) := lw_privs_1 ++ (lw_privs_2)
def lw_tbl : List Cond := k2_sels lw_privs ++ tables_1
theorem lw_privs_ok : ∀ q ∈ lw_privs, lw_okq q := by
  show ∀ q ∈ lw_privs_1 ++ (lw_privs_2), lw_okq q
  exact List.forall_mem_append.mpr ⟨lw_r1, lw_r2⟩
-- ===== end of PART A; then your names; then what follows =====
end
section
/-! THE WORLD OF HANDLES: fields are maps (field number, handle) to value; arrays are maps (handle, index) to value. -/
abbrev x_W : Type := (Nat → Nat → Int32) × (Nat → Nat → Int64) × (Nat → Nat → Option Nat) × (Nat → Nat → Int32) × (Nat → Nat → Int64) × (Nat → Nat → Option Nat)
abbrev x_T : Type := Nat → Option (Nat × Nat)
def x_u {α : Type} (f : Nat → Nat → α) (k a : Nat) (v : α) : Nat → Nat → α := fun k' a' => if k' = k then (if a' = a then v else f k' a') else f k' a'
theorem x_u_s {α : Type} {f : Nat → Nat → α} {k a : Nat} {v : α} : x_u f k a v k a = v := by simp [x_u]
theorem x_u_a {α : Type} {f : Nat → Nat → α} {k a a' : Nat} {v : α} (h : a' ≠ a) (k' : Nat) : x_u f k a v k' a' = f k' a' := by simp [x_u, h]
theorem x_u_k {α : Type} {f : Nat → Nat → α} {k a k' : Nat} {v : α} (h : k' ≠ k) (a' : Nat) : x_u f k a v k' a' = f k' a' := by simp [x_u, h]
def x_I (w : x_W) (k h : Nat) : Int32 := w.1 k h
def x_J (w : x_W) (k h : Nat) : Int64 := w.2.1 k h
def x_R (w : x_W) (k h : Nat) : Option Nat := w.2.2.1 k h
def x_A (w : x_W) (h i : Nat) : Int32 := w.2.2.2.1 h i
def x_B (w : x_W) (h i : Nat) : Int64 := w.2.2.2.2.1 h i
def x_Q (w : x_W) (h i : Nat) : Option Nat := w.2.2.2.2.2 h i
def x_sI (w : x_W) (k h : Nat) (v : Int32) : x_W := (x_u w.1 k h v, w.2)
def x_sJ (w : x_W) (k h : Nat) (v : Int64) : x_W := (w.1, x_u w.2.1 k h v, w.2.2)
def x_sR (w : x_W) (k h : Nat) (v : Option Nat) : x_W := (w.1, w.2.1, x_u w.2.2.1 k h v, w.2.2.2)
def x_sA (w : x_W) (h i : Nat) (v : Int32) : x_W := (w.1, w.2.1, w.2.2.1, x_u w.2.2.2.1 h i v, w.2.2.2.2)
def x_sB (w : x_W) (h i : Nat) (v : Int64) : x_W := (w.1, w.2.1, w.2.2.1, w.2.2.2.1, x_u w.2.2.2.2.1 h i v, w.2.2.2.2.2)
def x_sQ (w : x_W) (h i : Nat) (v : Option Nat) : x_W := (w.1, w.2.1, w.2.2.1, w.2.2.2.1, w.2.2.2.2.1, x_u w.2.2.2.2.2 h i v)
def x_fld (ad : Nat → Nat) (w : x_W) (h : Nat) (kd : Nat × Nat) : Value := if kd.1 = 0 then .int (x_I w kd.2 h) else if kd.1 = 1 then .long (x_J w kd.2 h) else va_rf ((x_R w kd.2 h).map ad)
def x_cell (FT : Nat → List (Nat × Nat)) (aC : Nat → ClassId) (ad : Nat → Nat) (T : x_T) (w : x_W) (h : Nat) : va_E :=
  if ((T h).getD (0, 0)).1 < 100 then .inr (((T h).getD (0, 0)).1, (FT ((T h).getD (0, 0)).1).map (x_fld ad w h))
  else if ((T h).getD (0, 0)).1 = 100 then .inl (aC 100, ((T h).getD (0, 0)).2, .inl (x_A w h))
  else if ((T h).getD (0, 0)).1 = 102 then .inl (aC 102, ((T h).getD (0, 0)).2, .inl (x_A w h))
  else if ((T h).getD (0, 0)).1 = 101 then .inl (aC 101, ((T h).getD (0, 0)).2, .inr (.inl (x_B w h)))
  else .inl (aC ((T h).getD (0, 0)).1, ((T h).getD (0, 0)).2, .inr (.inr (.inr (.inr (fun j => (x_Q w h j).map ad)))))
def x_ws (FT : Nat → List (Nat × Nat)) (aC : Nat → ClassId) (ad : Nat → Nat) (T : x_T) (w : x_W) (nx : Nat) : va_W := (List.range nx).map (fun h => (ad h, x_cell FT aC ad T w h))
/-- handles from nx on are not made yet: all is default there; no reference leads there -/
def x_ok (nx : Nat) (w : x_W) : Prop :=
  (∀ h, nx ≤ h → ∀ k, x_I w k h = 0 ∧ x_J w k h = 0 ∧ x_R w k h = none ∧ x_A w h k = 0 ∧ x_B w h k = 0 ∧ x_Q w h k = none) ∧ (∀ k h a, x_R w k h = some a → a < nx) ∧ ∀ h k a, x_Q w h k = some a → a < nx
theorem x_ok_I {nx k h : Nat} {w : x_W} {v : Int32} (hh : h < nx) (ok : x_ok nx w) : x_ok nx (x_sI w k h v) := by
  refine ⟨fun j hj i => ?_, ok.2⟩
  have := ok.1 j hj i
  have hne : j ≠ h := by omega
  simpa [x_I, x_J, x_R, x_A, x_B, x_Q, x_sI, x_u, hne] using this
theorem x_ok_J {nx k h : Nat} {w : x_W} {v : Int64} (hh : h < nx) (ok : x_ok nx w) : x_ok nx (x_sJ w k h v) := by
  refine ⟨fun j hj i => ?_, ok.2⟩
  have := ok.1 j hj i
  have hne : j ≠ h := by omega
  simpa [x_I, x_J, x_R, x_A, x_B, x_Q, x_sJ, x_u, hne] using this
theorem x_ok_A {nx k h : Nat} {w : x_W} {v : Int32} (hh : h < nx) (ok : x_ok nx w) : x_ok nx (x_sA w h k v) := by
  refine ⟨fun j hj i => ?_, ok.2⟩
  have := ok.1 j hj i
  have hne : j ≠ h := by omega
  simpa [x_I, x_J, x_R, x_A, x_B, x_Q, x_sA, x_u, hne] using this
theorem x_ok_B {nx k h : Nat} {w : x_W} {v : Int64} (hh : h < nx) (ok : x_ok nx w) : x_ok nx (x_sB w h k v) := by
  refine ⟨fun j hj i => ?_, ok.2⟩
  have := ok.1 j hj i
  have hne : j ≠ h := by omega
  simpa [x_I, x_J, x_R, x_A, x_B, x_Q, x_sB, x_u, hne] using this
theorem x_ok_R {nx k h : Nat} {w : x_W} {v : Option Nat} (hh : h < nx) (hv : ∀ a, v = some a → a < nx) (ok : x_ok nx w) : x_ok nx (x_sR w k h v) := by
  refine ⟨fun j hj i => ?_, fun k' h' a ha => ?_, ok.2.2⟩
  · have := ok.1 j hj i
    have hne : j ≠ h := by omega
    simpa [x_I, x_J, x_R, x_A, x_B, x_Q, x_sR, x_u, hne] using this
  · by_cases h1 : k' = k ∧ h' = h
    · obtain ⟨rfl, rfl⟩ := h1
      exact hv a (by simpa [x_R, x_sR, x_u] using ha)
    · refine ok.2.1 k' h' a ?_
      unfold x_R x_sR x_u at ha
      unfold x_R
      by_cases hk : k' = k
      · have hh' : h' ≠ h := fun z => h1 ⟨hk, z⟩
        simpa [hk, hh'] using ha
      · simpa [hk] using ha
theorem x_ok_Q {nx k h : Nat} {w : x_W} {v : Option Nat} (hh : h < nx) (hv : ∀ a, v = some a → a < nx) (ok : x_ok nx w) : x_ok nx (x_sQ w h k v) := by
  refine ⟨fun j hj i => ?_, ok.2.1, fun h' k' a ha => ?_⟩
  · have := ok.1 j hj i
    have hne : j ≠ h := by omega
    simpa [x_I, x_J, x_R, x_A, x_B, x_Q, x_sQ, x_u, hne] using this
  · by_cases h1 : h' = h ∧ k' = k
    · obtain ⟨rfl, rfl⟩ := h1
      exact hv a (by simpa [x_Q, x_sQ, x_u] using ha)
    · refine ok.2.2 h' k' a ?_
      unfold x_Q x_sQ x_u at ha
      unfold x_Q
      by_cases hk : h' = h
      · have hh' : k' ≠ k := fun z => h1 ⟨hk, z⟩
        simpa [hk, hh'] using ha
      · simpa [hk] using ha
def x_H (D : va_G) (cl : List vw_C) (FT : Nat → List (Nat × Nat)) (aC : Nat → ClassId) (ad : Nat → Nat) (T : x_T) (nx : Nat) (A : Nat → Prop) (w : x_W) (H : Heap) : Prop :=
  va_P D cl (x_ws FT aC ad T w nx) H ∧ va_D A (x_ws FT aC ad T w nx) ∧ (∀ (h : Nat) (q : Nat × Nat), T h = some q → h < nx) ∧ x_ok nx w
section XB
variable {D : va_G} {cl : List vw_C} {FT : Nat → List (Nat × Nat)} {aC : Nat → ClassId} {ad : Nat → Nat} {T : x_T} {nx : Nat} {A : Nat → Prop} {w w' : x_W} {H H1 : Heap} {h c n : Nat}
theorem x_cell_o (hT : T h = some (c, n)) (hc : c < 100) : x_cell FT aC ad T w h = .inr (c, (FT c).map (x_fld ad w h)) := by simp [x_cell, hT, hc]
theorem x_cell_a (hT : T h = some (100, n)) : x_cell FT aC ad T w h = .inl (aC 100, n, .inl (x_A w h)) := by simp [x_cell, hT]
theorem x_cell_z (hT : T h = some (102, n)) : x_cell FT aC ad T w h = .inl (aC 102, n, .inl (x_A w h)) := by simp [x_cell, hT]
theorem x_cell_b (hT : T h = some (101, n)) : x_cell FT aC ad T w h = .inl (aC 101, n, .inr (.inl (x_B w h))) := by simp [x_cell, hT]
theorem x_cell_q (hT : T h = some (c, n)) (hc : 103 ≤ c) : x_cell FT aC ad T w h = .inl (aC c, n, .inr (.inr (.inr (.inr (fun j => (x_Q w h j).map ad))))) := by
  have h1 : ¬ c < 100 := by omega
  have h2 : ¬ c = 100 := by omega
  have h3 : ¬ c = 101 := by omega
  have h4 : ¬ c = 102 := by omega
  simp [x_cell, hT, h1, h2, h3, h4]
theorem x_ws_at (hh : h < nx) : (x_ws FT aC ad T w nx)[h]? = some (ad h, x_cell FT aC ad T w h) := by simp [x_ws, List.getElem?_map, List.getElem?_range hh]
theorem x_ws_of {k : Nat} {q : Nat × va_E} (hk : (x_ws FT aC ad T w nx)[k]? = some q) : k < nx ∧ q = (ad k, x_cell FT aC ad T w k) := by
  have hl : k < (x_ws FT aC ad T w nx).length := (List.getElem?_eq_some_iff.mp hk).1
  have hl' : k < nx := by simpa [x_ws] using hl
  rw [x_ws_at hl'] at hk
  exact ⟨hl', (Option.some.inj hk).symm⟩
theorem x_ws_set (hh : h < nx) {e : va_E} (he : x_cell FT aC ad T w' h = e) (ho : ∀ k, k ≠ h → x_cell FT aC ad T w' k = x_cell FT aC ad T w k) : (x_ws FT aC ad T w nx).set h (ad h, e) = x_ws FT aC ad T w' nx := by
  apply List.ext_getElem?
  intro k
  by_cases hk : k < nx
  · rw [x_ws_at hk]
    by_cases hkh : k = h
    · subst hkh
      rw [List.getElem?_set_self (by simpa [x_ws] using hk), he]
    · rw [List.getElem?_set_ne (Ne.symm hkh), x_ws_at hk, ho k hkh]
  · rw [List.getElem?_eq_none (by simpa [x_ws] using hk), List.getElem?_eq_none (by simpa [x_ws] using hk)]
theorem x_H.at (hH : x_H D cl FT aC ad T nx A w H) (hT : T h = some (c, n)) : (x_ws FT aC ad T w nx)[h]? = some (ad h, x_cell FT aC ad T w h) := x_ws_at (hH.2.2.1 h _ hT)
theorem x_H.inj (hH : x_H D cl FT aC ad T nx A w H) {i j : Nat} (hi : i < nx) (hj : j < nx) (e : ad i = ad j) : i = j := hH.2.1.1 i j _ _ (x_ws_at hi) (x_ws_at hj) e
theorem x_H.dom (hH : x_H D cl FT aC ad T nx A w H) {i : Nat} (hi : i < nx) : A (ad i) := hH.2.1.2 i _ (x_ws_at hi)
theorem x_H.lt (hH : x_H D cl FT aC ad T nx A w H) {i : Nat} (hi : i < nx) : ad i < H.size := (hH.1 i _ (x_ws_at hi)).lt
theorem x_H.kept (hH : x_H D cl FT aC ad T nx A w H) (hq : ∀ i, i < nx → H1[ad i]? = H[ad i]?) : x_H D cl FT aC ad T nx A w H1 :=
  ⟨hH.1.kept (fun k q hk => by obtain ⟨h1, rfl⟩ := x_ws_of hk; exact hq k h1), hH.2⟩
theorem x_H.weaken {B : Nat → Prop} (hH : x_H D cl FT aC ad T nx A w H) (hAB : ∀ i, i < nx → A (ad i) → B (ad i)) : x_H D cl FT aC ad T nx B w H :=
  ⟨hH.1, hH.2.1.weaken (fun k q hk => by obtain ⟨h1, rfl⟩ := x_ws_of hk; exact hAB k h1), hH.2.2⟩
/-- which addresses a method may touch: those of its handles, and new ones -/
def x_dom (ad : Nat → Nat) (nx sz : Nat) : Nat → Prop := fun q => (∃ h, h < nx ∧ q = ad h) ∨ sz ≤ q
theorem x_H.self {sz : Nat} (hH : x_H D cl FT aC ad T nx A w H) : x_H D cl FT aC ad T nx (x_dom ad nx sz) w H := hH.weaken (fun i hi _ => Or.inl ⟨i, hi, rfl⟩)
end XB
section XS
variable {D : va_G} {cl : List vw_C} {FT : Nat → List (Nat × Nat)} {aC : Nat → ClassId} {ad : Nat → Nat} {T : x_T} {nx : Nat} {A : Nat → Prop} {w : x_W} {h c n : Nat}
theorem x_off_I {k : Nat} {v : Int32} {j : Nat} (hne : j ≠ h) : x_cell FT aC ad T (x_sI w k h v) j = x_cell FT aC ad T w j := by
  have e : x_fld ad (x_sI w k h v) j = x_fld ad w j := funext (fun kd => by unfold x_fld x_I x_J x_R x_sI; simp [x_u, hne])
  unfold x_cell
  rw [e]
  rfl
theorem x_off_J {k : Nat} {v : Int64} {j : Nat} (hne : j ≠ h) : x_cell FT aC ad T (x_sJ w k h v) j = x_cell FT aC ad T w j := by
  have e : x_fld ad (x_sJ w k h v) j = x_fld ad w j := funext (fun kd => by unfold x_fld x_I x_J x_R x_sJ; simp [x_u, hne])
  unfold x_cell
  rw [e]
  rfl
theorem x_off_R {k : Nat} {v : Option Nat} {j : Nat} (hne : j ≠ h) : x_cell FT aC ad T (x_sR w k h v) j = x_cell FT aC ad T w j := by
  have e : x_fld ad (x_sR w k h v) j = x_fld ad w j := funext (fun kd => by unfold x_fld x_I x_J x_R x_sR; simp [x_u, hne])
  unfold x_cell
  rw [e]
  rfl
theorem x_off_A {i : Nat} {v : Int32} {j : Nat} (hne : j ≠ h) : x_cell FT aC ad T (x_sA w h i v) j = x_cell FT aC ad T w j := by
  have e : x_A (x_sA w h i v) j = x_A w j := funext (fun q => by unfold x_A x_sA; simp [x_u, hne])
  unfold x_cell
  rw [e]
  rfl
theorem x_off_B {i : Nat} {v : Int64} {j : Nat} (hne : j ≠ h) : x_cell FT aC ad T (x_sB w h i v) j = x_cell FT aC ad T w j := by
  have e : x_B (x_sB w h i v) j = x_B w j := funext (fun q => by unfold x_B x_sB; simp [x_u, hne])
  unfold x_cell
  rw [e]
  rfl
theorem x_off_Q {i : Nat} {v : Option Nat} {j : Nat} (hne : j ≠ h) : x_cell FT aC ad T (x_sQ w h i v) j = x_cell FT aC ad T w j := by
  have e : x_Q (x_sQ w h i v) j = x_Q w j := funext (fun q => by unfold x_Q x_sQ; simp [x_u, hne])
  unfold x_cell
  rw [e]
  rfl
theorem x_nd {l : List (Nat × Nat)} (hnd : l.Nodup) {i j : Nat} {x : Nat × Nat} (hi : l[i]? = some x) (hj : l[j]? = some x) : i = j := by
  obtain ⟨h1, e1⟩ := List.getElem?_eq_some_iff.mp hi
  obtain ⟨h2, e2⟩ := List.getElem?_eq_some_iff.mp hj
  rcases Nat.lt_trichotomy i j with q | q | q
  · exact absurd (e1.trans e2.symm) ((List.pairwise_iff_getElem.mp hnd) i j h1 h2 q)
  · exact q
  · exact absurd (e2.trans e1.symm) ((List.pairwise_iff_getElem.mp hnd) j i h2 h1 q)
theorem x_map_set {l : List (Nat × Nat)} {f g : Nat × Nat → Value} {i : Nat} {x : Nat × Nat} {v : Value} (hi : l[i]? = some x) (hv : g x = v) (ho : ∀ j y, l[j]? = some y → j ≠ i → g y = f y) : l.map g = (l.map f).set i v := by
  have hl : i < l.length := (List.getElem?_eq_some_iff.mp hi).1
  apply List.ext_getElem?
  intro j
  by_cases hj : j = i
  · subst hj
    rw [List.getElem?_set_self (by simpa using hl), List.getElem?_map, hi, Option.map_some, hv]
  · rw [List.getElem?_set_ne (Ne.symm hj), List.getElem?_map, List.getElem?_map]
    cases hy : l[j]? with
    | none => rfl
    | some y => rw [Option.map_some, Option.map_some, ho j y hy hj]
theorem x_on_I {k i : Nat} {v : Int32} (hT : T h = some (c, n)) (hc : c < 100) (hF : (FT c)[i]? = some (0, k)) (hnd : (FT c).Nodup) : x_cell FT aC ad T (x_sI w k h v) h = .inr (c, ((FT c).map (x_fld ad w h)).set i (.int v)) := by
  rw [x_cell_o hT hc, x_map_set (f := x_fld ad w h) hF (v := .int v) (by simp [x_fld, x_I, x_sI, x_u]) (fun j y hy hj => ?_)]
  have hne : y ≠ (0, k) := fun e => hj (x_nd hnd hy (e ▸ hF))
  unfold x_fld x_I x_J x_R x_sI
  by_cases h0 : y.1 = 0
  · have h1 : y.2 ≠ k := fun e => hne (Prod.ext h0 e)
    simp [h0, x_u, h1]
  · simp [h0]
theorem x_on_J {k i : Nat} {v : Int64} (hT : T h = some (c, n)) (hc : c < 100) (hF : (FT c)[i]? = some (1, k)) (hnd : (FT c).Nodup) : x_cell FT aC ad T (x_sJ w k h v) h = .inr (c, ((FT c).map (x_fld ad w h)).set i (.long v)) := by
  rw [x_cell_o hT hc, x_map_set (f := x_fld ad w h) hF (v := .long v) (by simp [x_fld, x_J, x_sJ, x_u]) (fun j y hy hj => ?_)]
  have hne : y ≠ (1, k) := fun e => hj (x_nd hnd hy (e ▸ hF))
  unfold x_fld x_I x_J x_R x_sJ
  by_cases h0 : y.1 = 0
  · simp [h0]
  · by_cases h1 : y.1 = 1
    · have h2 : y.2 ≠ k := fun e => hne (Prod.ext h1 e)
      simp [h1, x_u, h2]
    · simp [h0, h1]
theorem x_on_R {k i : Nat} {v : Option Nat} (hT : T h = some (c, n)) (hc : c < 100) (hF : (FT c)[i]? = some (2, k)) (hnd : (FT c).Nodup) (hK : ∀ y ∈ FT c, y.1 < 3) : x_cell FT aC ad T (x_sR w k h v) h = .inr (c, ((FT c).map (x_fld ad w h)).set i (va_rf (v.map ad))) := by
  rw [x_cell_o hT hc, x_map_set (f := x_fld ad w h) hF (v := va_rf (v.map ad)) (by simp [x_fld, x_R, x_sR, x_u]) (fun j y hy hj => ?_)]
  have hne : y ≠ (2, k) := fun e => hj (x_nd hnd hy (e ▸ hF))
  have h3 := hK y (List.mem_of_getElem? hy)
  unfold x_fld x_I x_J x_R x_sR
  by_cases h0 : y.1 = 0
  · simp [h0]
  · by_cases h1 : y.1 = 1
    · simp [h1]
    · have h2 : y.2 ≠ k := fun e => hne (Prod.ext (by show y.1 = 2; omega) e)
      simp [h0, h1, x_u, h2]
theorem x_on_A {i : Nat} {v : Int32} (hT : T h = some (100, n)) : x_cell FT aC ad T (x_sA w h i v) h = .inl (aC 100, n, .inl (upd (x_A w h) i v)) := by
  rw [x_cell_a hT]
  congr 4
  funext q
  simp [x_A, x_sA, x_u, upd]
theorem x_on_Z {i : Nat} {v : Int32} (hT : T h = some (102, n)) : x_cell FT aC ad T (x_sA w h i v) h = .inl (aC 102, n, .inl (upd (x_A w h) i v)) := by
  rw [x_cell_z hT]
  congr 4
  funext q
  simp [x_A, x_sA, x_u, upd]
theorem x_on_B {i : Nat} {v : Int64} (hT : T h = some (101, n)) : x_cell FT aC ad T (x_sB w h i v) h = .inl (aC 101, n, .inr (.inl (vp_updL (x_B w h) i v))) := by
  rw [x_cell_b hT]
  congr 5
  funext q
  simp [x_B, x_sB, x_u, vp_updL]
theorem x_on_Q {i : Nat} {v : Option Nat} (hT : T h = some (c, n)) (hc : 103 ≤ c) : x_cell FT aC ad T (x_sQ w h i v) h = .inl (aC c, n, .inr (.inr (.inr (.inr (va_up (fun j => (x_Q w h j).map ad) i (v.map ad)))))) := by
  rw [x_cell_q hT hc]
  congr 8
  funext q
  by_cases hq : q = i
  · simp [x_Q, x_sQ, x_u, va_up, hq]
  · simp [x_Q, x_sQ, x_u, va_up, hq]
end XS
theorem x_fr {ad : Nat → Nat} {w : x_W} {h k a : Nat} (hr : x_R w k h = some a) : x_fld ad w h (2, k) = .ref (ad a) := by simp [x_fld, hr, va_rf]
theorem x_fn {ad : Nat → Nat} {w : x_W} {h k : Nat} (hr : x_R w k h = none) : x_fld ad w h (2, k) = .null := by simp [x_fld, hr, va_rf]
section XR
variable {p : Program} {l : Launch} {e : Env} {R : Room} {s : State} {m : MethodId} {args : Array Value} {below : List Frame} {meth : Method} {c0 : Code} {H : Heap} {locs : List Loc} {cells slots : Nat} {Q : State → Prop}
variable {cc : ByteArray} {pc : Nat} {ls : Array Slot} {rest : List Value} {D : va_G} {cl : List vw_C} {FT : Nat → List (Nat × Nat)} {aC : Nat → ClassId} {ad : Nat → Nat} {T : x_T} {nx : Nat} {A : Nat → Prop} {w : x_W} {tys : List (ClassId × FieldType)} {H0 : Heap} {h ci n : Nat}
theorem x_get (hexec : p.tables.exec = Jvm.exec) (hb : c0.code = cc) {own ref C : String} {F : u_T} {N index : Nat} {Ts : List Cond} (hts : ∀ w ∈ Ts, w.before args s = true) (hin : ∀ w ∈ u_ws C F N, w ∈ Ts) (hown : s.vm.findClass own = some m.cls) (hK : va_K D cl tys s) (hH : x_H D cl FT aC ad T nx A w H) (hT : T h = some (ci, n)) (hci : ci < 100) (hc : cl[ci]? = some (C, F, N)) (k : Nat) (hk : k < N) (hlink : (Cond.fieldLink own index ref (F k).2.1 (F k).2.2.1).before args s = true) (hsame : ∀ x, s.fieldFound? (F k).1 (F k).2.1 (F k).2.2.1 = some x → s.fieldFound? ref (F k).2.1 (F k).2.2.1 = some x) {kd : Nat × Nat} (hF : (FT ci)[k]? = some kd) {v : Value} (hv : x_fld ad w h kd = v) (hdg : decode cc pc = .ok (.getfield index, 3))
    (kk : W p l e R s m args below meth c0 H locs cells slots Q (F0 m (pc + 3) ls (v :: rest))) : W p l e R s m args below meth c0 H locs cells slots Q (F0 m pc ls (.ref (ad h) :: rest)) :=
  va_get hexec hb hts hin hown hK hH.1 h (by rw [hH.at hT, x_cell_o hT hci]) hc k hk hlink hsame (by rw [List.getElem?_map, hF, Option.map_some, hv]) hdg kk
theorem x_getN (hexec : p.tables.exec = Jvm.exec) (hb : c0.code = cc) {own ref C host : String} {F : u_T} {N index : Nat} {Ts : List Cond} (hts : ∀ w ∈ Ts, w.before args s = true) (hin : ∀ w ∈ u_ws C F N, w ∈ Ts) (hown : s.vm.findClass own = some m.cls) (hK : va_K D cl tys s) (hH : x_H D cl FT aC ad T nx A w H) (hT : T h = some (ci, n)) (hci : ci < 100) (hc : cl[ci]? = some (C, F, N)) (k : Nat) (hk : k < N) (hlink : (Cond.fieldLinkNest own index ref (F k).2.1 (F k).2.2.1 host).before args s = true) (hsame : ∀ x, s.fieldFound? (F k).1 (F k).2.1 (F k).2.2.1 = some x → s.fieldFound? ref (F k).2.1 (F k).2.2.1 = some x) {kd : Nat × Nat} (hF : (FT ci)[k]? = some kd) {v : Value} (hv : x_fld ad w h kd = v) (hdg : decode cc pc = .ok (.getfield index, 3))
    (kk : W p l e R s m args below meth c0 H locs cells slots Q (F0 m (pc + 3) ls (v :: rest))) : W p l e R s m args below meth c0 H locs cells slots Q (F0 m pc ls (.ref (ad h) :: rest)) :=
  va_getN hexec hb hts hin hown hK hH.1 h (by rw [hH.at hT, x_cell_o hT hci]) hc k hk hlink hsame (by rw [List.getElem?_map, hF, Option.map_some, hv]) hdg kk
/-- a put, of any kind: w' is the world behind it -/
theorem x_put (hexec : p.tables.exec = Jvm.exec) (hb : c0.code = cc) {own ref C : String} {F : u_T} {N index : Nat} {Ts : List Cond} (hts : ∀ w ∈ Ts, w.before args s = true) (hin : ∀ w ∈ u_ws C F N, w ∈ Ts) (ty0 : Nat → FieldType) (hty : ∀ k, k < N → parseFieldDescriptor (F k).2.2.1 = some (ty0 k)) (hnm : ∀ a, a < N → ∀ b, b < N → a ≠ b → (F a).2.1 ≠ (F b).2.1) (hown : s.vm.findClass own = some m.cls) (hK : va_K D cl tys s) (hH : x_H D cl FT aC ad T nx A w H) (hS : va_S A H0 H locs) (hT : T h = some (ci, n)) (hci : ci < 100) (hc : cl[ci]? = some (C, F, N)) (hl : (FT ci).length = N) (k : Nat) (hk : k < N) (hlink : (Cond.fieldLink own index ref (F k).2.1 (F k).2.2.1).before args s = true) (hsame : ∀ x, s.fieldFound? (F k).1 (F k).2.1 (F k).2.2.1 = some x → s.fieldFound? ref (F k).2.1 (F k).2.2.1 = some x) (hfin : (F k).2.2.2 = false) {ty : FieldType} {v : Value} (hd : parseFieldDescriptor (F k).2.2.1 = some ty) (hn : narrow ty v = v) (hfit : fits ty v = true) {w' : x_W} (hon : x_cell FT aC ad T w' h = .inr (ci, ((FT ci).map (x_fld ad w h)).set k v)) (hoff : ∀ j, j ≠ h → x_cell FT aC ad T w' j = x_cell FT aC ad T w j) (hok : h < nx → x_ok nx w → x_ok nx w') (hdg : decode cc pc = .ok (.putfield index, 3))
    (kk : ∀ (H1 : Heap) (locs1 : List Loc), x_H D cl FT aC ad T nx A w' H1 → va_S A H0 H1 locs1 → W p l e R s m args below meth c0 H1 locs1 cells slots Q (F0 m (pc + 3) ls rest)) : W p l e R s m args below meth c0 H locs cells slots Q (F0 m pc ls (v :: .ref (ad h) :: rest)) :=
  va_put hexec hb hts hin ty0 hty hnm hown hK hH.1 hH.2.1 hS h (by rw [hH.at hT, x_cell_o hT hci]) hc k hk hlink hsame hfin hd hn hfit (by rw [List.length_map, hl]; exact hk) hdg (fun H1 locs1 hP hD hS1 => by
    rw [x_ws_set (hH.2.2.1 _ _ hT) hon hoff] at hP hD
    exact kk H1 locs1 ⟨hP, hD, hH.2.2.1, hok (hH.2.2.1 _ _ hT) hH.2.2.2⟩ hS1)
theorem x_putF (hexec : p.tables.exec = Jvm.exec) (hb : c0.code = cc) {own ref C : String} {F : u_T} {N index : Nat} {Ts : List Cond} (hts : ∀ w ∈ Ts, w.before args s = true) (hin : ∀ w ∈ u_ws C F N, w ∈ Ts) (ty0 : Nat → FieldType) (hty : ∀ k, k < N → parseFieldDescriptor (F k).2.2.1 = some (ty0 k)) (hnm : ∀ a, a < N → ∀ b, b < N → a ≠ b → (F a).2.1 ≠ (F b).2.1) (hown : s.vm.findClass own = some m.cls) (hK : va_K D cl tys s) (hH : x_H D cl FT aC ad T nx A w H) (hS : va_S A H0 H locs) (hT : T h = some (ci, n)) (hci : ci < 100) (hc : cl[ci]? = some (C, F, N)) (hl : (FT ci).length = N) (k : Nat) (hk : k < N) (hlink : (Cond.fieldLink own index ref (F k).2.1 (F k).2.2.1).before args s = true) (hsame : ∀ x, s.fieldFound? (F k).1 (F k).2.1 (F k).2.2.1 = some x → s.fieldFound? ref (F k).2.1 (F k).2.2.1 = some x) (hfin : (F k).2.2.2 = true) (hin2 : meth.name = "<init>") (hdecl : (F k).1 = own) {ty : FieldType} {v : Value} (hd : parseFieldDescriptor (F k).2.2.1 = some ty) (hn : narrow ty v = v) (hfit : fits ty v = true) {w' : x_W} (hon : x_cell FT aC ad T w' h = .inr (ci, ((FT ci).map (x_fld ad w h)).set k v)) (hoff : ∀ j, j ≠ h → x_cell FT aC ad T w' j = x_cell FT aC ad T w j) (hok : h < nx → x_ok nx w → x_ok nx w') (hdg : decode cc pc = .ok (.putfield index, 3))
    (kk : ∀ (H1 : Heap) (locs1 : List Loc), x_H D cl FT aC ad T nx A w' H1 → va_S A H0 H1 locs1 → W p l e R s m args below meth c0 H1 locs1 cells slots Q (F0 m (pc + 3) ls rest)) : W p l e R s m args below meth c0 H locs cells slots Q (F0 m pc ls (v :: .ref (ad h) :: rest)) :=
  va_putF hexec hb hts hin ty0 hty hnm hown hK hH.1 hH.2.1 hS h (by rw [hH.at hT, x_cell_o hT hci]) hc k hk hlink hsame hfin hin2 hdecl hd hn hfit (by rw [List.length_map, hl]; exact hk) hdg (fun H1 locs1 hP hD hS1 => by
    rw [x_ws_set (hH.2.2.1 _ _ hT) hon hoff] at hP hD
    exact kk H1 locs1 ⟨hP, hD, hH.2.2.1, hok (hH.2.2.1 _ _ hT) hH.2.2.2⟩ hS1)
theorem x_putN (hexec : p.tables.exec = Jvm.exec) (hb : c0.code = cc) {own ref C host : String} {F : u_T} {N index : Nat} {Ts : List Cond} (hts : ∀ w ∈ Ts, w.before args s = true) (hin : ∀ w ∈ u_ws C F N, w ∈ Ts) (ty0 : Nat → FieldType) (hty : ∀ k, k < N → parseFieldDescriptor (F k).2.2.1 = some (ty0 k)) (hnm : ∀ a, a < N → ∀ b, b < N → a ≠ b → (F a).2.1 ≠ (F b).2.1) (hown : s.vm.findClass own = some m.cls) (hK : va_K D cl tys s) (hH : x_H D cl FT aC ad T nx A w H) (hS : va_S A H0 H locs) (hT : T h = some (ci, n)) (hci : ci < 100) (hc : cl[ci]? = some (C, F, N)) (hl : (FT ci).length = N) (k : Nat) (hk : k < N) (hlink : (Cond.fieldLinkNest own index ref (F k).2.1 (F k).2.2.1 host).before args s = true) (hsame : ∀ x, s.fieldFound? (F k).1 (F k).2.1 (F k).2.2.1 = some x → s.fieldFound? ref (F k).2.1 (F k).2.2.1 = some x) (hfin : (F k).2.2.2 = false) {ty : FieldType} {v : Value} (hd : parseFieldDescriptor (F k).2.2.1 = some ty) (hn : narrow ty v = v) (hfit : fits ty v = true) {w' : x_W} (hon : x_cell FT aC ad T w' h = .inr (ci, ((FT ci).map (x_fld ad w h)).set k v)) (hoff : ∀ j, j ≠ h → x_cell FT aC ad T w' j = x_cell FT aC ad T w j) (hok : h < nx → x_ok nx w → x_ok nx w') (hdg : decode cc pc = .ok (.putfield index, 3))
    (kk : ∀ (H1 : Heap) (locs1 : List Loc), x_H D cl FT aC ad T nx A w' H1 → va_S A H0 H1 locs1 → W p l e R s m args below meth c0 H1 locs1 cells slots Q (F0 m (pc + 3) ls rest)) : W p l e R s m args below meth c0 H locs cells slots Q (F0 m pc ls (v :: .ref (ad h) :: rest)) :=
  va_putN hexec hb hts hin ty0 hty hnm hown hK hH.1 hH.2.1 hS h (by rw [hH.at hT, x_cell_o hT hci]) hc k hk hlink hsame hfin hd hn hfit (by rw [List.length_map, hl]; exact hk) hdg (fun H1 locs1 hP hD hS1 => by
    rw [x_ws_set (hH.2.2.1 _ _ hT) hon hoff] at hP hD
    exact kk H1 locs1 ⟨hP, hD, hH.2.2.1, hok (hH.2.2.1 _ _ hT) hH.2.2.2⟩ hS1)
theorem x_iald (hexec : p.tables.exec = Jvm.exec) (hb : c0.code = cc) (hK : va_K D cl tys s) (hH : x_H D cl FT aC ad T nx A w H) (hT : T h = some (100, n)) (t0 : Nat) (ht : tys[t0]? = some (aC 100, .int)) {i : Int32} (hin : vp_in i n) (hdg : decode cc pc = .ok (.iaload, 1))
    (kk : W p l e R s m args below meth c0 H locs cells slots Q (F0 m (pc + 1) ls (.int (x_A w h i.toNatClampNeg) :: rest))) : W p l e R s m args below meth c0 H locs cells slots Q (F0 m pc ls (.int i :: .ref (ad h) :: rest)) :=
  va_iald hexec hb hK hH.1 h t0 (by rw [hH.at hT, x_cell_a hT]) ht hin hdg kk
theorem x_zald (hexec : p.tables.exec = Jvm.exec) (hb : c0.code = cc) (hK : va_K D cl tys s) (hH : x_H D cl FT aC ad T nx A w H) (hT : T h = some (102, n)) (t0 : Nat) (ht : tys[t0]? = some (aC 102, .boolean)) {i : Int32} (hin : vp_in i n) (hdg : decode cc pc = .ok (.baload, 1))
    (kk : W p l e R s m args below meth c0 H locs cells slots Q (F0 m (pc + 1) ls (.int (x_A w h i.toNatClampNeg) :: rest))) : W p l e R s m args below meth c0 H locs cells slots Q (F0 m pc ls (.int i :: .ref (ad h) :: rest)) :=
  va_zald hexec hb hK hH.1 h t0 (by rw [hH.at hT, x_cell_z hT]) ht hin hdg kk
theorem x_zast (hexec : p.tables.exec = Jvm.exec) (hb : c0.code = cc) (hK : va_K D cl tys s) (hH : x_H D cl FT aC ad T nx A w H) (hS : va_S A H0 H locs) (hT : T h = some (102, n)) (t0 : Nat) (ht : tys[t0]? = some (aC 102, .boolean)) {i v : Int32} (hin : vp_in i n) (hdg : decode cc pc = .ok (.bastore, 1))
    (kk : ∀ (H1 : Heap) (locs1 : List Loc), x_H D cl FT aC ad T nx A (x_sA w h i.toNatClampNeg (vp_nar .boolean v)) H1 → va_S A H0 H1 locs1 → W p l e R s m args below meth c0 H1 locs1 cells slots Q (F0 m (pc + 1) ls rest)) : W p l e R s m args below meth c0 H locs cells slots Q (F0 m pc ls (.int v :: .int i :: .ref (ad h) :: rest)) :=
  va_zast hexec hb hK hH.1 hH.2.1 hS h t0 (by rw [hH.at hT, x_cell_z hT]) ht hin hdg (fun H1 locs1 hP hD hS1 => by
    rw [x_ws_set (hH.2.2.1 _ _ hT) (x_on_Z hT) (fun j hj => x_off_A hj)] at hP hD
    exact kk H1 locs1 ⟨hP, hD, hH.2.2.1, x_ok_A (hH.2.2.1 _ _ hT) hH.2.2.2⟩ hS1)
theorem x_lald (hexec : p.tables.exec = Jvm.exec) (hb : c0.code = cc) (hK : va_K D cl tys s) (hH : x_H D cl FT aC ad T nx A w H) (hT : T h = some (101, n)) (t0 : Nat) (ht : tys[t0]? = some (aC 101, .long)) {i : Int32} (hin : vp_in i n) (hdg : decode cc pc = .ok (.laload, 1))
    (kk : W p l e R s m args below meth c0 H locs cells slots Q (F0 m (pc + 1) ls (.long (x_B w h i.toNatClampNeg) :: rest))) : W p l e R s m args below meth c0 H locs cells slots Q (F0 m pc ls (.int i :: .ref (ad h) :: rest)) :=
  va_lald hexec hb hK hH.1 h t0 (by rw [hH.at hT, x_cell_b hT]) ht hin hdg kk
theorem x_aald (hexec : p.tables.exec = Jvm.exec) (hb : c0.code = cc) (hK : va_K D cl tys s) (hH : x_H D cl FT aC ad T nx A w H) (hT : T h = some (ci, n)) (hci : 103 ≤ ci) (t0 : Nat) {C : String} (ht : tys[t0]? = some (aC ci, .object C)) {i : Int32} (hin : vp_in i n) {v : Value} (hv : va_rf ((x_Q w h i.toNatClampNeg).map ad) = v) (hdg : decode cc pc = .ok (.aaload, 1))
    (kk : W p l e R s m args below meth c0 H locs cells slots Q (F0 m (pc + 1) ls (v :: rest))) : W p l e R s m args below meth c0 H locs cells slots Q (F0 m pc ls (.int i :: .ref (ad h) :: rest)) :=
  va_aldq hexec hb hK hH.1 h t0 (by rw [hH.at hT, x_cell_q hT hci]) ht hin hdg (by rw [← hv] at kk; exact kk)
theorem x_qr {w : x_W} {i a : Nat} (hr : x_Q w h i = some a) : va_rf ((x_Q w h i).map ad) = .ref (ad a) := by simp [hr, va_rf]
theorem x_alen (hexec : p.tables.exec = Jvm.exec) (hb : c0.code = cc) (hK : va_K D cl tys s) (hH : x_H D cl FT aC ad T nx A w H) (hT : T h = some (ci, n)) (hci : 100 ≤ ci) (t0 : Nat) {ty : FieldType} (ht : tys[t0]? = some (aC ci, ty)) (hdg : decode cc pc = .ok (.arraylength, 1))
    (kk : W p l e R s m args below meth c0 H locs cells slots Q (F0 m (pc + 1) ls (.int (nI n) :: rest))) : W p l e R s m args below meth c0 H locs cells slots Q (F0 m pc ls (.ref (ad h) :: rest)) := by
  rcases (show ci = 100 ∨ ci = 101 ∨ ci = 102 ∨ 103 ≤ ci by omega) with rfl | rfl | rfl | hc
  · exact va_alen (x := (n, .inl (x_A w h))) hexec hb hK hH.1 h t0 (by rw [hH.at hT, x_cell_a hT]) ht rfl hdg kk
  · exact va_alen (x := (n, .inr (.inl (x_B w h)))) hexec hb hK hH.1 h t0 (by rw [hH.at hT, x_cell_b hT]) ht rfl hdg kk
  · exact va_alen (x := (n, .inl (x_A w h))) hexec hb hK hH.1 h t0 (by rw [hH.at hT, x_cell_z hT]) ht rfl hdg kk
  · exact va_alen (x := (n, .inr (.inr (.inr (.inr (fun j => (x_Q w h j).map ad)))))) hexec hb hK hH.1 h t0 (by rw [hH.at hT, x_cell_q hT hc]) ht rfl hdg kk
theorem x_iast (hexec : p.tables.exec = Jvm.exec) (hb : c0.code = cc) (hK : va_K D cl tys s) (hH : x_H D cl FT aC ad T nx A w H) (hS : va_S A H0 H locs) (hT : T h = some (100, n)) (t0 : Nat) (ht : tys[t0]? = some (aC 100, .int)) {i v : Int32} (hin : vp_in i n) (hdg : decode cc pc = .ok (.iastore, 1))
    (kk : ∀ (H1 : Heap) (locs1 : List Loc), x_H D cl FT aC ad T nx A (x_sA w h i.toNatClampNeg v) H1 → va_S A H0 H1 locs1 → W p l e R s m args below meth c0 H1 locs1 cells slots Q (F0 m (pc + 1) ls rest)) : W p l e R s m args below meth c0 H locs cells slots Q (F0 m pc ls (.int v :: .int i :: .ref (ad h) :: rest)) :=
  va_iast hexec hb hK hH.1 hH.2.1 hS h t0 (by rw [hH.at hT, x_cell_a hT]) ht hin hdg (fun H1 locs1 hP hD hS1 => by
    rw [x_ws_set (hH.2.2.1 _ _ hT) (x_on_A hT) (fun j hj => x_off_A hj)] at hP hD
    exact kk H1 locs1 ⟨hP, hD, hH.2.2.1, x_ok_A (hH.2.2.1 _ _ hT) hH.2.2.2⟩ hS1)
theorem x_last (hexec : p.tables.exec = Jvm.exec) (hb : c0.code = cc) (hK : va_K D cl tys s) (hH : x_H D cl FT aC ad T nx A w H) (hS : va_S A H0 H locs) (hT : T h = some (101, n)) (t0 : Nat) (ht : tys[t0]? = some (aC 101, .long)) {i : Int32} {v : Int64} (hin : vp_in i n) (hdg : decode cc pc = .ok (.lastore, 1))
    (kk : ∀ (H1 : Heap) (locs1 : List Loc), x_H D cl FT aC ad T nx A (x_sB w h i.toNatClampNeg v) H1 → va_S A H0 H1 locs1 → W p l e R s m args below meth c0 H1 locs1 cells slots Q (F0 m (pc + 1) ls rest)) : W p l e R s m args below meth c0 H locs cells slots Q (F0 m pc ls (.long v :: .int i :: .ref (ad h) :: rest)) :=
  va_last hexec hb hK hH.1 hH.2.1 hS h t0 (by rw [hH.at hT, x_cell_b hT]) ht hin hdg (fun H1 locs1 hP hD hS1 => by
    rw [x_ws_set (hH.2.2.1 _ _ hT) (x_on_B hT) (fun j hj => x_off_B hj)] at hP hD
    exact kk H1 locs1 ⟨hP, hD, hH.2.2.1, x_ok_B (hH.2.2.1 _ _ hT) hH.2.2.2⟩ hS1)
theorem x_aast (hexec : p.tables.exec = Jvm.exec) (hb : c0.code = cc) (hK : va_K D cl tys s) (hH : x_H D cl FT aC ad T nx A w H) (hS : va_S A H0 H locs) (hT : T h = some (ci, n)) (hci : 103 ≤ ci) (t0 : Nat) {r : vw_C} (ht : tys[t0]? = some (aC ci, .object r.1)) {hv cv nv : Nat} (hTv : T hv = some (cv, nv)) (hcv : cv < 100) (hc : cl[cv]? = some r) {i : Int32} (hin : vp_in i n) (hdg : decode cc pc = .ok (.aastore, 1))
    (kk : ∀ (H1 : Heap) (locs1 : List Loc), x_H D cl FT aC ad T nx A (x_sQ w h i.toNatClampNeg (some hv)) H1 → va_S A H0 H1 locs1 → W p l e R s m args below meth c0 H1 locs1 cells slots Q (F0 m (pc + 1) ls rest)) : W p l e R s m args below meth c0 H locs cells slots Q (F0 m pc ls (.ref (ad hv) :: .int i :: .ref (ad h) :: rest)) :=
  va_astq hexec hb hK hH.1 hH.2.1 hS h t0 hv cv (by rw [hH.at hT, x_cell_q hT hci]) ht (by rw [hH.at hTv, x_cell_o hTv hcv]) hc hin hdg (fun H1 locs1 hP hD hS1 => by
    have e1 := x_ws_set (FT := FT) (aC := aC) (ad := ad) (w := w) (w' := x_sQ w h i.toNatClampNeg (some hv)) (hH.2.2.1 _ _ hT) (x_on_Q hT hci) (fun j hj => x_off_Q hj)
    rw [show ((some hv : Option Nat).map ad) = some (ad hv) from rfl] at e1
    rw [e1] at hP hD
    exact kk H1 locs1 ⟨hP, hD, hH.2.2.1, x_ok_Q (hH.2.2.1 _ _ hT) (fun a ha => by cases ha; exact hH.2.2.1 _ _ hTv) hH.2.2.2⟩ hS1)
end XR
end
section
/-! CONTRACTS OF METHODS THAT MAY THROW -/
def x_FE (first : State) (t : State) (L : List Loc) (k n : Nat) : Prop := first.WarmedH t.vm ∧ first.sameButNew ({ t with vm := first.vm } : State) L k n
def x_Met (l : Launch) (y : MethodName) (ws : List Cond) (rm : Room) (Pc : Array Value → State → Prop) (Qc : Array Value → State → Outcome → State → Prop) (mc ms : Nat) (free : Addr → Prop) : Prop :=
  MetFree l y (headSpec ws rm) Pc (fun _ _ _ _ _ => True) (fun a st o t => Qc a st o t ∧ ∃ L, x_FE st t L mc ms ∧ ∀ q ∈ L, free q.base)
def x_MQ (below : List Frame) (Qc : Array Value → State → Outcome → State → Prop) (a : Array Value) (s : State) (mc ms : Nat) (free : Addr → Prop) : State → Prop := fun t =>
  ∃ o, t.status = .running ∧ Ended t below o ∧ Qc a s o t ∧ ∃ L, x_FE s t L mc ms ∧ ∀ q ∈ L, free q.base
section XM
variable {p : Program} {l : Launch} {e : Env} {R : Room} {s : State} {m : MethodId} {args : Array Value} {below : List Frame} {meth : Method} {c : Code} {H : Heap} {locs : List Loc} {cells slots : Nat}
theorem x_mono {Q Q' : State → Prop} {g : JFrame} (h : ∀ t, Q t → Q' t) (k : W p l e R s m args below meth c H locs cells slots Q g) : W p l e R s m args below meth c H locs cells slots Q' g := fun T hT X => by
  obtain ⟨t, a, b⟩ := k T hT X
  exact ⟨t, a, h t b⟩
theorem x_MQ_of {Qc : Array Value → State → Outcome → State → Prop} {a : Array Value} {mc ms : Nat} {free : Addr → Prop} (t : State) (h : MQ below Qc a s mc ms free t) : x_MQ below Qc a s mc ms free t := by
  obtain ⟨o, h1, h2, h3, L, ⟨-, h4, h5⟩, h6⟩ := h
  exact ⟨o, h1, h2, h3, L, ⟨h4, h5⟩, h6⟩
theorem x_Met.ofW {y : MethodName} {ws ws' : List Cond} {rm : Room} {Pc : Array Value → State → Prop} {Qc : Array Value → State → Outcome → State → Prop} {mc ms : Nat} {free : Addr → Prop} {cc : ByteArray} {maxL : Nat} {ret : Option FieldType}
    (hy : plainName y.cls = true) (hw : ws = Cond.code y cc maxL ret :: ws')
    (body : ∀ p e s m args below meth c s₁, BodyLoose p l y (headSpec ws rm) cc maxL ret e s m args below meth c s₁ → c.maxLocals = maxL → Pc args s →
      W p l e (headSpec ws rm).room s m args below meth c s.heap [] 0 0 (x_MQ below Qc args s mc ms free) (entryFrame m args maxL)) : x_Met l y ws rm Pc Qc mc ms free := by
  refine MetFree.of_bodyS (code := cc) (maxLocals := maxL) (ret := ret) hy ?_ ?_
  · intro args s m h hn
    obtain ⟨meth, c, h1, h2, h3, h4, h5, h6, -, -⟩ := Cond.code_spec hn (atoms_spec (ws := ws) h _ (by rw [hw]; exact List.mem_cons_self))
    exact ⟨meth, c, h1, h2, h3, h4, h5, h6⟩
  · intro p e s m args below meth c s₁ B hml hP _
    have hh0 : s₁.heap = s.heap := by rw [B.state]; rfl
    obtain ⟨t, a1, o, b1, b2, b3⟩ := body p e s m args below meth c s₁ B hml hP s₁ hh0 (Stand.of_body B)
    exact ⟨t, o, a1, b1, b2, b3⟩
theorem x_Met.met {y : MethodName} {ws : List Cond} {rm : Room} {Pc : Array Value → State → Prop} {Qc : Array Value → State → Outcome → State → Prop} {mc ms : Nat} {free : Addr → Prop} (hM : x_Met l y ws rm Pc Qc mc ms free)
    (hq : ∀ a st o t, Qc a st o t → ∃ v, o = .returned v) : Met l y ws rm Pc Qc mc ms free := by
  intro p e ha hc hk s m args below hf happ hP hKK
  obtain ⟨n, o, h1, h2, h3, h4, L, h5, h6⟩ := hM p e ha hc hk s m args below hf happ hP hKK
  exact ⟨n, o, h1, h2, h3, h4, L, ⟨hq _ _ _ _ h4, h5.1, h5.2⟩, h6⟩
end XM
end
section
/-- the words that every contract carries: those of the tables that stay -/
def x_tb : List Cond := lw_tbl.filter goodWord
theorem x_goodTb {w : Cond} (h : w ∈ x_tb) : (w.onTables && w.keeps) = true ∨ ∃ ty, w = .arrayClass ty := good_of_word (List.mem_filter.mp h).2
theorem x_tb_in {w : Cond} (h : w ∈ x_tb) : w ∈ lw_tbl := (List.mem_filter.mp h).1
theorem x_m {c : Cond} (h : c ∈ tables_1) (g : goodWord c = true) : c ∈ x_tb := List.mem_filter.mpr ⟨List.mem_append_right _ h, g⟩
theorem x_m0 {c : Cond} (i : Nat) (h : (k2_sels lw_privs)[i]? = some c) (g : goodWord c = true) : c ∈ x_tb := List.mem_filter.mpr ⟨List.mem_append_left _ (List.mem_of_getElem? h), g⟩
theorem x_m1 {c : Cond} (i : Nat) (h : tables_1_1[i]? = some c) (g : goodWord c = true) : c ∈ x_tb := x_m (List.mem_append_left _ (List.mem_of_getElem? h)) g
theorem x_m2 {c : Cond} (i : Nat) (h : tables_1_2[i]? = some c) (g : goodWord c = true) : c ∈ x_tb := x_m (List.mem_append_right _ (List.mem_append_left _ (List.mem_of_getElem? h))) g
theorem x_m3 {c : Cond} (i : Nat) (h : tables_1_3[i]? = some c) (g : goodWord c = true) : c ∈ x_tb := x_m (List.mem_append_right _ (List.mem_append_right _ (List.mem_append_left _ (List.mem_of_getElem? h)))) g
theorem x_m4 {c : Cond} (i : Nat) (h : tables_1_4[i]? = some c) (g : goodWord c = true) : c ∈ x_tb := x_m (List.mem_append_right _ (List.mem_append_right _ (List.mem_append_right _ (List.mem_append_left _ (List.mem_of_getElem? h))))) g
theorem x_m5 {c : Cond} (i : Nat) (h : tables_1_5[i]? = some c) (g : goodWord c = true) : c ∈ x_tb := x_m (List.mem_append_right _ (List.mem_append_right _ (List.mem_append_right _ (List.mem_append_right _ (List.mem_of_getElem? h))))) g
theorem m_0 : (Jvm.Cond.initialized "WallDampLaw") ∈ x_tb := x_m1 0 rfl rfl
theorem m_1 : (Jvm.Cond.initialized "WallDamp") ∈ x_tb := x_m1 1 rfl rfl
theorem m_2 : (Jvm.Cond.initialized "java/lang/Math") ∈ x_tb := x_m1 2 rfl rfl
theorem m_3 : (Jvm.Cond.initialized "WallDamp$Material") ∈ x_tb := x_m1 3 rfl rfl
theorem m_4 : (Jvm.Cond.initialized "WallDamp$Corners") ∈ x_tb := x_m1 4 rfl rfl
theorem m_5 : (Jvm.Cond.initialized "WallDamp$Surroundings") ∈ x_tb := x_m1 5 rfl rfl
theorem m_6 : (Jvm.Cond.initialized "WallDamp$MouldRows") ∈ x_tb := x_m1 6 rfl rfl
theorem m_7 : (Jvm.Cond.initialized "WallDamp$Wall") ∈ x_tb := x_m1 7 rfl rfl
theorem m_8 : (Jvm.Cond.initialized "WallDamp$Place") ∈ x_tb := x_m1 8 rfl rfl
theorem m_9 : (Jvm.Cond.initialized "WallDamp$Air") ∈ x_tb := x_m1 9 rfl rfl
theorem m_10 : (Jvm.Cond.initialized "WallDamp$Cell") ∈ x_tb := x_m1 10 rfl rfl
theorem m_11 : (Jvm.Cond.initialized "WallDamp$Flow") ∈ x_tb := x_m1 11 rfl rfl
theorem m_12 : (Jvm.Cond.initialized "WallDamp$Trials") ∈ x_tb := x_m1 12 rfl rfl
theorem m_13 : (Jvm.Cond.initialized "WallDampModel") ∈ x_tb := x_m1 13 rfl rfl
theorem m_14 : (Jvm.Cond.initialized "java/lang/Throwable") ∈ x_tb := x_m1 14 rfl rfl
theorem m_15 : (Jvm.Cond.initialized "java/lang/Exception") ∈ x_tb := x_m1 15 rfl rfl
theorem m_16 : (Jvm.Cond.initialized "java/lang/RuntimeException") ∈ x_tb := x_m1 16 rfl rfl
theorem m_17 : (Jvm.Cond.initialized "java/lang/IllegalArgumentException") ∈ x_tb := x_m1 17 rfl rfl
theorem m_18 : (Jvm.Cond.initialized "java/lang/IllegalStateException") ∈ x_tb := x_m1 18 rfl rfl
theorem m_19 : (Jvm.Cond.classLink "WallDampLaw" (8 : Nat) "WallDamp") ∈ x_tb := x_m1 19 rfl rfl
theorem m_20 : (Jvm.Cond.instantiable "WallDamp" (8 : Nat)) ∈ x_tb := x_m1 20 rfl rfl
theorem m_21 : (Jvm.Cond.methodLink "WallDampLaw" (72 : Nat) ({ cls := "WallDamp", name := "<init>", desc := "(I)V" } : Jvm.MethodName)) ∈ x_tb := x_m1 21 rfl rfl
theorem m_22 : (Jvm.Cond.instanceMethod ({ cls := "WallDamp", name := "<init>", desc := "(I)V" } : Jvm.MethodName)) ∈ x_tb := x_m1 22 rfl rfl
theorem m_23 : (Jvm.Cond.code ({ cls := "WallDamp", name := "<init>", desc := "(I)V" } : Jvm.MethodName) prog_1_method_1_code (4 : Nat) (Option.none : Option Jvm.ClassFile.FieldType)) ∈ x_tb := x_m1 23 rfl rfl
theorem m_24 : (Jvm.Cond.methodLink "WallDamp" (1 : Nat) ({ cls := "java/lang/Object", name := "<init>", desc := "()V" } : Jvm.MethodName)) ∈ x_tb := x_m1 24 rfl rfl
theorem m_25 : (Jvm.Cond.instanceMethod ({ cls := "java/lang/Object", name := "<init>", desc := "()V" } : Jvm.MethodName)) ∈ x_tb := x_m1 25 rfl rfl
theorem m_26 : (Jvm.Cond.code ({ cls := "java/lang/Object", name := "<init>", desc := "()V" } : Jvm.MethodName) object_method_1_code (1 : Nat) (Option.none : Option Jvm.ClassFile.FieldType)) ∈ x_tb := x_m1 26 rfl rfl
theorem m_27 : (Jvm.Cond.methodLink "WallDamp" (9 : Nat) ({ cls := "java/lang/Math", name := "min", desc := "(II)I" } : Jvm.MethodName)) ∈ x_tb := x_m1 27 rfl rfl
theorem m_28 : (Jvm.Cond.static ({ cls := "java/lang/Math", name := "min", desc := "(II)I" } : Jvm.MethodName)) ∈ x_tb := x_m1 28 rfl rfl
theorem m_29 : (Jvm.Cond.code ({ cls := "java/lang/Math", name := "min", desc := "(II)I" } : Jvm.MethodName) prog_17_method_69_code (2 : Nat) (Option.some Jvm.ClassFile.FieldType.int)) ∈ x_tb := x_m1 29 rfl rfl
theorem m_30 : (Jvm.Cond.methodLink "WallDamp" (15 : Nat) ({ cls := "java/lang/Math", name := "max", desc := "(II)I" } : Jvm.MethodName)) ∈ x_tb := x_m1 30 rfl rfl
theorem m_31 : (Jvm.Cond.static ({ cls := "java/lang/Math", name := "max", desc := "(II)I" } : Jvm.MethodName)) ∈ x_tb := x_m1 31 rfl rfl
theorem m_32 : (Jvm.Cond.code ({ cls := "java/lang/Math", name := "max", desc := "(II)I" } : Jvm.MethodName) prog_17_method_65_code (2 : Nat) (Option.some Jvm.ClassFile.FieldType.int)) ∈ x_tb := x_m1 32 rfl rfl
theorem m_33 : (Jvm.Cond.classLink "WallDamp" (18 : Nat) "WallDamp$Material") ∈ x_tb := x_m1 33 rfl rfl
theorem m_35 : (Jvm.Cond.instantiable "WallDamp$Material" (4 : Nat)) ∈ x_tb := x_m1 35 rfl rfl
theorem m_36 : (Jvm.Cond.methodLink "WallDamp" (24 : Nat) ({ cls := "WallDamp$Material", name := "<init>", desc := "()V" } : Jvm.MethodName)) ∈ x_tb := x_m1 36 rfl rfl
theorem m_37 : (Jvm.Cond.instanceMethod ({ cls := "WallDamp$Material", name := "<init>", desc := "()V" } : Jvm.MethodName)) ∈ x_tb := x_m1 37 rfl rfl
theorem m_38 : (Jvm.Cond.code ({ cls := "WallDamp$Material", name := "<init>", desc := "()V" } : Jvm.MethodName) prog_6_method_1_code (1 : Nat) (Option.none : Option Jvm.ClassFile.FieldType)) ∈ x_tb := x_m1 38 rfl rfl
theorem m_39 : (Jvm.Cond.methodLink "WallDamp$Material" (1 : Nat) ({ cls := "java/lang/Object", name := "<init>", desc := "()V" } : Jvm.MethodName)) ∈ x_tb := x_m1 39 rfl rfl
theorem m_40 : (Jvm.Cond.classLink "WallDamp$Material" (7 : Nat) "WallDamp$Corners") ∈ x_tb := x_m1 40 rfl rfl
theorem m_41 : (Jvm.Cond.instantiable "WallDamp$Corners" (4 : Nat)) ∈ x_tb := x_m1 41 rfl rfl
theorem m_42 : (Jvm.Cond.methodLink "WallDamp$Material" (11 : Nat) ({ cls := "WallDamp$Corners", name := "<init>", desc := "(I)V" } : Jvm.MethodName)) ∈ x_tb := x_m1 42 rfl rfl
theorem m_43 : (Jvm.Cond.instanceMethod ({ cls := "WallDamp$Corners", name := "<init>", desc := "(I)V" } : Jvm.MethodName)) ∈ x_tb := x_m1 43 rfl rfl
theorem m_44 : (Jvm.Cond.code ({ cls := "WallDamp$Corners", name := "<init>", desc := "(I)V" } : Jvm.MethodName) prog_4_method_1_code (2 : Nat) (Option.none : Option Jvm.ClassFile.FieldType)) ∈ x_tb := x_m1 44 rfl rfl
theorem m_45 : (Jvm.Cond.methodLink "WallDamp$Corners" (1 : Nat) ({ cls := "java/lang/Object", name := "<init>", desc := "()V" } : Jvm.MethodName)) ∈ x_tb := x_m1 45 rfl rfl
theorem m_46 : (Jvm.Cond.methodLink "WallDamp$Corners" (16 : Nat) ({ cls := "java/lang/Math", name := "min", desc := "(II)I" } : Jvm.MethodName)) ∈ x_tb := x_m1 46 rfl rfl
theorem m_47 : (Jvm.Cond.fieldLink "WallDamp$Corners" (9 : Nat) "WallDamp$Corners" "xs" "[I") ∈ x_tb := x_m1 47 rfl rfl
theorem m_48 : (Jvm.Cond.fieldLink "WallDamp$Corners" (13 : Nat) "WallDamp$Corners" "ys" "[I") ∈ x_tb := x_m1 48 rfl rfl
theorem m_49 : (Jvm.Cond.fieldLink "WallDamp$Corners" (22 : Nat) "WallDamp$Corners" "limit" "I") ∈ x_tb := x_m1 49 rfl rfl
theorem m_50 : (Jvm.Cond.fieldLink "WallDamp$Corners" (26 : Nat) "WallDamp$Corners" "count" "I") ∈ x_tb := x_m1 50 rfl rfl
theorem m_51 : (Jvm.Cond.laysFinal "WallDamp$Corners" "WallDamp$Corners" "xs" "[I") ∈ x_tb := x_m1 51 rfl rfl
theorem m_53 : (Jvm.Cond.laysFinal "WallDamp$Corners" "WallDamp$Corners" "ys" "[I") ∈ x_tb := x_m1 53 rfl rfl
theorem m_55 : (Jvm.Cond.laysFinal "WallDamp$Corners" "WallDamp$Corners" "limit" "I") ∈ x_tb := x_m1 55 rfl rfl
theorem m_57 : (Jvm.Cond.lays "WallDamp$Corners" "WallDamp$Corners" "count" "I") ∈ x_tb := x_m1 57 rfl rfl
theorem m_60 : (Jvm.Cond.arrayClass Jvm.ClassFile.FieldType.int) ∈ x_tb := x_m1 60 rfl rfl
theorem m_61 : (Jvm.Cond.methodLink "WallDamp$Material" (18 : Nat) ({ cls := "WallDamp$Corners", name := "add", desc := "(II)I" } : Jvm.MethodName)) ∈ x_tb := x_m1 61 rfl rfl
theorem m_62 : (Jvm.Cond.instanceMethod ({ cls := "WallDamp$Corners", name := "add", desc := "(II)I" } : Jvm.MethodName)) ∈ x_tb := x_m1 62 rfl rfl
theorem m_63 : (Jvm.Cond.selects "WallDamp$Corners" ({ cls := "WallDamp$Corners", name := "add", desc := "(II)I" } : Jvm.MethodName) ({ cls := "WallDamp$Corners", name := "add", desc := "(II)I" } : Jvm.MethodName)) ∈ x_tb := x_m1 63 rfl rfl
theorem m_64 : (Jvm.Cond.code ({ cls := "WallDamp$Corners", name := "add", desc := "(II)I" } : Jvm.MethodName) prog_4_method_3_code (3 : Nat) (Option.some Jvm.ClassFile.FieldType.int)) ∈ x_tb := x_m1 64 rfl rfl
theorem m_65 : (Jvm.Cond.fieldLink "WallDamp$Material" (14 : Nat) "WallDamp$Material" "damps" "LWallDamp$Corners;") ∈ x_tb := x_m1 65 rfl rfl
theorem m_66 : (Jvm.Cond.fieldLink "WallDamp" (80 : Nat) "WallDamp$Material" "damps" "LWallDamp$Corners;") ∈ x_tb := x_m1 66 rfl rfl
theorem m_67 : (Jvm.Cond.fieldLink "WallDamp$Cell" (22 : Nat) "WallDamp$Material" "damps" "LWallDamp$Corners;") ∈ x_tb := x_m1 67 rfl rfl
theorem m_68 : (Jvm.Cond.fieldLink "WallDamp$Material" (22 : Nat) "WallDamp$Material" "vapour" "I") ∈ x_tb := x_m1 68 rfl rfl
theorem m_69 : (Jvm.Cond.fieldLink "WallDamp" (88 : Nat) "WallDamp$Material" "vapour" "I") ∈ x_tb := x_m1 69 rfl rfl
theorem m_70 : (Jvm.Cond.fieldLink "WallDamp$Wall" (151 : Nat) "WallDamp$Material" "vapour" "I") ∈ x_tb := x_m1 70 rfl rfl
theorem m_71 : (Jvm.Cond.fieldLink "WallDamp$Material" (26 : Nat) "WallDamp$Material" "liquid" "I") ∈ x_tb := x_m1 71 rfl rfl
theorem m_72 : (Jvm.Cond.fieldLink "WallDamp" (91 : Nat) "WallDamp$Material" "liquid" "I") ∈ x_tb := x_m1 72 rfl rfl
theorem m_73 : (Jvm.Cond.fieldLink "WallDamp$Wall" (159 : Nat) "WallDamp$Material" "liquid" "I") ∈ x_tb := x_m1 73 rfl rfl
theorem m_74 : (Jvm.Cond.fieldLink "WallDamp$Material" (29 : Nat) "WallDamp$Material" "leads" "I") ∈ x_tb := x_m1 74 rfl rfl
theorem m_75 : (Jvm.Cond.fieldLink "WallDamp" (94 : Nat) "WallDamp$Material" "leads" "I") ∈ x_tb := x_m1 75 rfl rfl
theorem m_76 : (Jvm.Cond.fieldLink "WallDamp$Cell" (34 : Nat) "WallDamp$Material" "leads" "I") ∈ x_tb := x_m1 76 rfl rfl
theorem m_77 : (Jvm.Cond.laysFinal "WallDamp$Material" "WallDamp$Material" "damps" "LWallDamp$Corners;") ∈ x_tb := x_m1 77 rfl rfl
theorem m_79 : (Jvm.Cond.lays "WallDamp$Material" "WallDamp$Material" "vapour" "I") ∈ x_tb := x_m1 79 rfl rfl
theorem m_81 : (Jvm.Cond.lays "WallDamp$Material" "WallDamp$Material" "liquid" "I") ∈ x_tb := x_m1 81 rfl rfl
theorem m_83 : (Jvm.Cond.lays "WallDamp$Material" "WallDamp$Material" "leads" "I") ∈ x_tb := x_m1 83 rfl rfl
theorem m_86 : (Jvm.Cond.classLink "WallDamp" (25 : Nat) "WallDamp$Surroundings") ∈ x_tb := x_m1 86 rfl rfl
theorem m_87 : (Jvm.Cond.instantiable "WallDamp$Surroundings" (9 : Nat)) ∈ x_tb := x_m1 87 rfl rfl
theorem m_88 : (Jvm.Cond.methodLink "WallDamp" (27 : Nat) ({ cls := "WallDamp$Surroundings", name := "<init>", desc := "()V" } : Jvm.MethodName)) ∈ x_tb := x_m1 88 rfl rfl
theorem m_89 : (Jvm.Cond.instanceMethod ({ cls := "WallDamp$Surroundings", name := "<init>", desc := "()V" } : Jvm.MethodName)) ∈ x_tb := x_m1 89 rfl rfl
theorem m_90 : (Jvm.Cond.code ({ cls := "WallDamp$Surroundings", name := "<init>", desc := "()V" } : Jvm.MethodName) prog_9_method_1_code (1 : Nat) (Option.none : Option Jvm.ClassFile.FieldType)) ∈ x_tb := x_m1 90 rfl rfl
theorem m_91 : (Jvm.Cond.methodLink "WallDamp$Surroundings" (3 : Nat) ({ cls := "java/lang/Object", name := "<init>", desc := "()V" } : Jvm.MethodName)) ∈ x_tb := x_m1 91 rfl rfl
theorem m_92 : (Jvm.Cond.classLink "WallDamp$Surroundings" (9 : Nat) "WallDamp$Corners") ∈ x_tb := x_m1 92 rfl rfl
theorem m_93 : (Jvm.Cond.methodLink "WallDamp$Surroundings" (13 : Nat) ({ cls := "WallDamp$Corners", name := "<init>", desc := "(I)V" } : Jvm.MethodName)) ∈ x_tb := x_m1 93 rfl rfl
theorem m_94 : (Jvm.Cond.fieldLink "WallDamp$Surroundings" (16 : Nat) "WallDamp$Surroundings" "fullPressures" "LWallDamp$Corners;") ∈ x_tb := x_m1 94 rfl rfl
theorem m_95 : (Jvm.Cond.fieldLink "WallDamp" (114 : Nat) "WallDamp$Surroundings" "fullPressures" "LWallDamp$Corners;") ∈ x_tb := x_m1 95 rfl rfl
theorem m_96 : (Jvm.Cond.fieldLink "WallDamp$Surroundings" (20 : Nat) "WallDamp$Surroundings" "outerWarmth" "[I") ∈ x_tb := x_m1 96 rfl rfl
theorem m_97 : (Jvm.Cond.fieldLink "WallDamp$Wall" (68 : Nat) "WallDamp$Surroundings" "outerWarmth" "[I") ∈ x_tb := x_m1 97 rfl rfl
theorem m_98 : (Jvm.Cond.fieldLink "WallDamp" (132 : Nat) "WallDamp$Surroundings" "outerWarmth" "[I") ∈ x_tb := x_m1 98 rfl rfl
theorem m_99 : (Jvm.Cond.fieldLink "WallDamp$Surroundings" (24 : Nat) "WallDamp$Surroundings" "outerDamp" "[I") ∈ x_tb := x_m1 99 rfl rfl
theorem m_100 : (Jvm.Cond.fieldLink "WallDamp$Wall" (87 : Nat) "WallDamp$Surroundings" "outerDamp" "[I") ∈ x_tb := x_m1 100 rfl rfl
theorem m_101 : (Jvm.Cond.fieldLink "WallDamp" (136 : Nat) "WallDamp$Surroundings" "outerDamp" "[I") ∈ x_tb := x_m1 101 rfl rfl
theorem m_102 : (Jvm.Cond.fieldLink "WallDamp$Surroundings" (27 : Nat) "WallDamp$Surroundings" "rainFall" "[I") ∈ x_tb := x_m1 102 rfl rfl
theorem m_103 : (Jvm.Cond.fieldLink "WallDamp$Wall" (99 : Nat) "WallDamp$Surroundings" "rainFall" "[I") ∈ x_tb := x_m1 103 rfl rfl
theorem m_104 : (Jvm.Cond.fieldLink "WallDamp" (139 : Nat) "WallDamp$Surroundings" "rainFall" "[I") ∈ x_tb := x_m1 104 rfl rfl
theorem m_105 : (Jvm.Cond.fieldLink "WallDamp$Surroundings" (30 : Nat) "WallDamp$Surroundings" "sunShine" "[I") ∈ x_tb := x_m1 105 rfl rfl
theorem m_106 : (Jvm.Cond.fieldLink "WallDamp$Wall" (74 : Nat) "WallDamp$Surroundings" "sunShine" "[I") ∈ x_tb := x_m1 106 rfl rfl
theorem m_107 : (Jvm.Cond.fieldLink "WallDamp" (142 : Nat) "WallDamp$Surroundings" "sunShine" "[I") ∈ x_tb := x_m1 107 rfl rfl
theorem m_108 : (Jvm.Cond.fieldLink "WallDamp$Surroundings" (33 : Nat) "WallDamp$Surroundings" "innerWarmth" "[I") ∈ x_tb := x_m1 108 rfl rfl
theorem m_109 : (Jvm.Cond.fieldLink "WallDamp$Wall" (80 : Nat) "WallDamp$Surroundings" "innerWarmth" "[I") ∈ x_tb := x_m1 109 rfl rfl
theorem m_110 : (Jvm.Cond.fieldLink "WallDamp" (145 : Nat) "WallDamp$Surroundings" "innerWarmth" "[I") ∈ x_tb := x_m1 110 rfl rfl
theorem m_111 : (Jvm.Cond.fieldLink "WallDamp$Surroundings" (36 : Nat) "WallDamp$Surroundings" "innerDamp" "[I") ∈ x_tb := x_m1 111 rfl rfl
theorem m_112 : (Jvm.Cond.fieldLink "WallDamp$Wall" (94 : Nat) "WallDamp$Surroundings" "innerDamp" "[I") ∈ x_tb := x_m1 112 rfl rfl
theorem m_113 : (Jvm.Cond.fieldLink "WallDamp" (148 : Nat) "WallDamp$Surroundings" "innerDamp" "[I") ∈ x_tb := x_m1 113 rfl rfl
theorem m_114 : (Jvm.Cond.fieldLink "WallDamp$Surroundings" (39 : Nat) "WallDamp$Surroundings" "outerFilm" "I") ∈ x_tb := x_m1 114 rfl rfl
theorem m_115 : (Jvm.Cond.fieldLink "WallDamp$Wall" (120 : Nat) "WallDamp$Surroundings" "outerFilm" "I") ∈ x_tb := x_m1 115 rfl rfl
theorem m_116 : (Jvm.Cond.fieldLink "WallDamp" (123 : Nat) "WallDamp$Surroundings" "outerFilm" "I") ∈ x_tb := x_m1 116 rfl rfl
theorem m_117 : (Jvm.Cond.fieldLink "WallDamp$Surroundings" (43 : Nat) "WallDamp$Surroundings" "innerFilm" "I") ∈ x_tb := x_m1 117 rfl rfl
theorem m_118 : (Jvm.Cond.fieldLink "WallDamp$Wall" (131 : Nat) "WallDamp$Surroundings" "innerFilm" "I") ∈ x_tb := x_m1 118 rfl rfl
theorem m_119 : (Jvm.Cond.fieldLink "WallDamp" (126 : Nat) "WallDamp$Surroundings" "innerFilm" "I") ∈ x_tb := x_m1 119 rfl rfl
theorem m_120 : (Jvm.Cond.laysFinal "WallDamp$Surroundings" "WallDamp$Surroundings" "fullPressures" "LWallDamp$Corners;") ∈ x_tb := x_m1 120 rfl rfl
theorem m_122 : (Jvm.Cond.laysFinal "WallDamp$Surroundings" "WallDamp$Surroundings" "outerWarmth" "[I") ∈ x_tb := x_m1 122 rfl rfl
theorem m_124 : (Jvm.Cond.laysFinal "WallDamp$Surroundings" "WallDamp$Surroundings" "outerDamp" "[I") ∈ x_tb := x_m1 124 rfl rfl
theorem m_126 : (Jvm.Cond.laysFinal "WallDamp$Surroundings" "WallDamp$Surroundings" "rainFall" "[I") ∈ x_tb := x_m1 126 rfl rfl
theorem m_128 : (Jvm.Cond.laysFinal "WallDamp$Surroundings" "WallDamp$Surroundings" "sunShine" "[I") ∈ x_tb := x_m1 128 rfl rfl
theorem m_130 : (Jvm.Cond.laysFinal "WallDamp$Surroundings" "WallDamp$Surroundings" "innerWarmth" "[I") ∈ x_tb := x_m1 130 rfl rfl
theorem m_132 : (Jvm.Cond.laysFinal "WallDamp$Surroundings" "WallDamp$Surroundings" "innerDamp" "[I") ∈ x_tb := x_m1 132 rfl rfl
theorem m_134 : (Jvm.Cond.lays "WallDamp$Surroundings" "WallDamp$Surroundings" "outerFilm" "I") ∈ x_tb := x_m1 134 rfl rfl
theorem m_136 : (Jvm.Cond.lays "WallDamp$Surroundings" "WallDamp$Surroundings" "innerFilm" "I") ∈ x_tb := x_m1 136 rfl rfl
theorem m_139 : (Jvm.Cond.classLink "WallDamp" (32 : Nat) "WallDamp$MouldRows") ∈ x_tb := x_m1 139 rfl rfl
theorem m_140 : (Jvm.Cond.instantiable "WallDamp$MouldRows" (5 : Nat)) ∈ x_tb := x_m1 140 rfl rfl
theorem m_141 : (Jvm.Cond.methodLink "WallDamp" (34 : Nat) ({ cls := "WallDamp$MouldRows", name := "<init>", desc := "()V" } : Jvm.MethodName)) ∈ x_tb := x_m1 141 rfl rfl
theorem m_142 : (Jvm.Cond.instanceMethod ({ cls := "WallDamp$MouldRows", name := "<init>", desc := "()V" } : Jvm.MethodName)) ∈ x_tb := x_m1 142 rfl rfl
theorem m_143 : (Jvm.Cond.code ({ cls := "WallDamp$MouldRows", name := "<init>", desc := "()V" } : Jvm.MethodName) prog_7_method_1_code (1 : Nat) (Option.none : Option Jvm.ClassFile.FieldType)) ∈ x_tb := x_m1 143 rfl rfl
theorem m_144 : (Jvm.Cond.methodLink "WallDamp$MouldRows" (3 : Nat) ({ cls := "java/lang/Object", name := "<init>", desc := "()V" } : Jvm.MethodName)) ∈ x_tb := x_m1 144 rfl rfl
theorem m_145 : (Jvm.Cond.fieldLink "WallDamp$MouldRows" (11 : Nat) "WallDamp$MouldRows" "damps" "[I") ∈ x_tb := x_m1 145 rfl rfl
theorem m_146 : (Jvm.Cond.fieldLink "WallDamp$MouldRows" (15 : Nat) "WallDamp$MouldRows" "froms" "[I") ∈ x_tb := x_m1 146 rfl rfl
theorem m_147 : (Jvm.Cond.fieldLink "WallDamp$MouldRows" (18 : Nat) "WallDamp$MouldRows" "tos" "[I") ∈ x_tb := x_m1 147 rfl rfl
theorem m_148 : (Jvm.Cond.fieldLink "WallDamp$MouldRows" (21 : Nat) "WallDamp$MouldRows" "mores" "[I") ∈ x_tb := x_m1 148 rfl rfl
theorem m_149 : (Jvm.Cond.fieldLink "WallDamp$MouldRows" (24 : Nat) "WallDamp$MouldRows" "count" "I") ∈ x_tb := x_m1 149 rfl rfl
theorem m_150 : (Jvm.Cond.laysFinal "WallDamp$MouldRows" "WallDamp$MouldRows" "damps" "[I") ∈ x_tb := x_m1 150 rfl rfl
theorem m_152 : (Jvm.Cond.laysFinal "WallDamp$MouldRows" "WallDamp$MouldRows" "froms" "[I") ∈ x_tb := x_m1 152 rfl rfl
theorem m_154 : (Jvm.Cond.laysFinal "WallDamp$MouldRows" "WallDamp$MouldRows" "tos" "[I") ∈ x_tb := x_m1 154 rfl rfl
theorem m_156 : (Jvm.Cond.laysFinal "WallDamp$MouldRows" "WallDamp$MouldRows" "mores" "[I") ∈ x_tb := x_m1 156 rfl rfl
theorem m_158 : (Jvm.Cond.lays "WallDamp$MouldRows" "WallDamp$MouldRows" "count" "I") ∈ x_tb := x_m1 158 rfl rfl
theorem m_161 : (Jvm.Cond.classLink "WallDamp" (39 : Nat) "WallDamp$Wall") ∈ x_tb := x_m1 161 rfl rfl
theorem m_162 : (Jvm.Cond.instantiable "WallDamp$Wall" (9 : Nat)) ∈ x_tb := x_m1 162 rfl rfl
theorem m_163 : (Jvm.Cond.methodLink "WallDamp" (41 : Nat) ({ cls := "WallDamp$Wall", name := "<init>", desc := "(ILWallDamp$Material;)V" } : Jvm.MethodName)) ∈ x_tb := x_m1 163 rfl rfl
theorem m_164 : (Jvm.Cond.instanceMethod ({ cls := "WallDamp$Wall", name := "<init>", desc := "(ILWallDamp$Material;)V" } : Jvm.MethodName)) ∈ x_tb := x_m1 164 rfl rfl
theorem m_165 : (Jvm.Cond.code ({ cls := "WallDamp$Wall", name := "<init>", desc := "(ILWallDamp$Material;)V" } : Jvm.MethodName) prog_11_method_1_code (5 : Nat) (Option.none : Option Jvm.ClassFile.FieldType)) ∈ x_tb := x_m1 165 rfl rfl
theorem m_166 : (Jvm.Cond.methodLink "WallDamp$Wall" (3 : Nat) ({ cls := "java/lang/Object", name := "<init>", desc := "()V" } : Jvm.MethodName)) ∈ x_tb := x_m1 166 rfl rfl
theorem m_167 : (Jvm.Cond.methodLink "WallDamp$Wall" (9 : Nat) ({ cls := "java/lang/Math", name := "max", desc := "(II)I" } : Jvm.MethodName)) ∈ x_tb := x_m1 167 rfl rfl
theorem m_168 : (Jvm.Cond.classLink "WallDamp$Wall" (15 : Nat) "WallDamp$Air") ∈ x_tb := x_m1 168 rfl rfl
theorem m_169 : (Jvm.Cond.instantiable "WallDamp$Air" (9 : Nat)) ∈ x_tb := x_m1 169 rfl rfl
theorem m_170 : (Jvm.Cond.methodLink "WallDamp$Wall" (17 : Nat) ({ cls := "WallDamp$Air", name := "<init>", desc := "()V" } : Jvm.MethodName)) ∈ x_tb := x_m1 170 rfl rfl
theorem m_171 : (Jvm.Cond.instanceMethod ({ cls := "WallDamp$Air", name := "<init>", desc := "()V" } : Jvm.MethodName)) ∈ x_tb := x_m1 171 rfl rfl
theorem m_172 : (Jvm.Cond.code ({ cls := "WallDamp$Air", name := "<init>", desc := "()V" } : Jvm.MethodName) prog_2_method_1_code (1 : Nat) (Option.none : Option Jvm.ClassFile.FieldType)) ∈ x_tb := x_m1 172 rfl rfl
theorem m_173 : (Jvm.Cond.methodLink "WallDamp$Air" (1 : Nat) ({ cls := "WallDamp$Place", name := "<init>", desc := "()V" } : Jvm.MethodName)) ∈ x_tb := x_m1 173 rfl rfl
theorem m_174 : (Jvm.Cond.instanceMethod ({ cls := "WallDamp$Place", name := "<init>", desc := "()V" } : Jvm.MethodName)) ∈ x_tb := x_m1 174 rfl rfl
theorem m_175 : (Jvm.Cond.code ({ cls := "WallDamp$Place", name := "<init>", desc := "()V" } : Jvm.MethodName) prog_8_method_1_code (1 : Nat) (Option.none : Option Jvm.ClassFile.FieldType)) ∈ x_tb := x_m1 175 rfl rfl
theorem m_176 : (Jvm.Cond.methodLink "WallDamp$Place" (1 : Nat) ({ cls := "java/lang/Object", name := "<init>", desc := "()V" } : Jvm.MethodName)) ∈ x_tb := x_m1 176 rfl rfl
theorem m_177 : (Jvm.Cond.fieldLink "WallDamp$Air" (7 : Nat) "WallDamp$Air" "gone" "J") ∈ x_tb := x_m1 177 rfl rfl
theorem m_178 : (Jvm.Cond.fieldLink "WallDamp" (202 : Nat) "WallDamp$Air" "gone" "J") ∈ x_tb := x_m1 178 rfl rfl
theorem m_179 : (Jvm.Cond.fieldLink "WallDamp$Air" (13 : Nat) "WallDamp$Air" "come" "J") ∈ x_tb := x_m1 179 rfl rfl
theorem m_180 : (Jvm.Cond.fieldLink "WallDamp" (210 : Nat) "WallDamp$Air" "come" "J") ∈ x_tb := x_m1 180 rfl rfl
theorem m_181 : (Jvm.Cond.fieldLink "WallDamp$Place" (7 : Nat) "WallDamp$Place" "warmth" "I") ∈ x_tb := x_m1 181 rfl rfl
theorem m_182 : (Jvm.Cond.fieldLink "WallDamp$Air" (16 : Nat) "WallDamp$Air" "warmth" "I") ∈ x_tb := x_m1 182 rfl rfl
theorem m_183 : (Jvm.Cond.sameField "WallDamp$Air" "WallDamp$Place" "warmth" "I") ∈ x_tb := x_m1 183 rfl rfl
theorem m_184 : (Jvm.Cond.fieldLink "WallDamp$Wall" (77 : Nat) "WallDamp$Air" "warmth" "I") ∈ x_tb := x_m1 184 rfl rfl
theorem m_185 : (Jvm.Cond.fieldLink "WallDamp$Wall" (138 : Nat) "WallDamp$Cell" "warmth" "I") ∈ x_tb := x_m1 185 rfl rfl
theorem m_186 : (Jvm.Cond.sameField "WallDamp$Cell" "WallDamp$Place" "warmth" "I") ∈ x_tb := x_m1 186 rfl rfl
theorem m_187 : (Jvm.Cond.fieldLink "WallDamp$Cell" (44 : Nat) "WallDamp$Cell" "warmth" "I") ∈ x_tb := x_m1 187 rfl rfl
theorem m_188 : (Jvm.Cond.fieldLink "WallDamp" (181 : Nat) "WallDamp$Cell" "warmth" "I") ∈ x_tb := x_m1 188 rfl rfl
theorem m_189 : (Jvm.Cond.fieldLink "WallDamp$Place" (13 : Nat) "WallDamp$Place" "damp" "I") ∈ x_tb := x_m1 189 rfl rfl
theorem m_190 : (Jvm.Cond.fieldLink "WallDamp$Wall" (168 : Nat) "WallDamp$Cell" "damp" "I") ∈ x_tb := x_m1 190 rfl rfl
theorem m_191 : (Jvm.Cond.sameField "WallDamp$Cell" "WallDamp$Place" "damp" "I") ∈ x_tb := x_m1 191 rfl rfl
theorem m_192 : (Jvm.Cond.fieldLink "WallDamp$Place" (16 : Nat) "WallDamp$Place" "pressure" "I") ∈ x_tb := x_m1 192 rfl rfl
theorem m_193 : (Jvm.Cond.fieldLink "WallDamp$Wall" (143 : Nat) "WallDamp$Air" "pressure" "I") ∈ x_tb := x_m1 193 rfl rfl
theorem m_194 : (Jvm.Cond.sameField "WallDamp$Air" "WallDamp$Place" "pressure" "I") ∈ x_tb := x_m1 194 rfl rfl
theorem m_195 : (Jvm.Cond.fieldLink "WallDamp$Wall" (146 : Nat) "WallDamp$Cell" "pressure" "I") ∈ x_tb := x_m1 195 rfl rfl
theorem m_196 : (Jvm.Cond.sameField "WallDamp$Cell" "WallDamp$Place" "pressure" "I") ∈ x_tb := x_m1 196 rfl rfl
theorem m_197 : (Jvm.Cond.fieldLink "WallDamp$Place" (19 : Nat) "WallDamp$Place" "supply" "I") ∈ x_tb := x_m1 197 rfl rfl
theorem m_198 : (Jvm.Cond.fieldLink "WallDamp$Flow" (31 : Nat) "WallDamp$Place" "supply" "I") ∈ x_tb := x_m1 198 rfl rfl
theorem m_199 : (Jvm.Cond.fieldLink "WallDamp$Place" (22 : Nat) "WallDamp$Place" "room" "I") ∈ x_tb := x_m1 199 rfl rfl
theorem m_200 : (Jvm.Cond.fieldLink "WallDamp$Flow" (41 : Nat) "WallDamp$Place" "room" "I") ∈ x_tb := x_m1 200 rfl rfl
theorem m_201 : (Jvm.Cond.fieldLink "WallDamp$Flow" (26 : Nat) "WallDamp$Place" "leaving" "I") ∈ x_tb := x_m1 201 rfl rfl
theorem m_202 : (Jvm.Cond.fieldLink "WallDamp$Place" (25 : Nat) "WallDamp$Place" "leaving" "I") ∈ x_tb := x_m1 202 rfl rfl
theorem m_203 : (Jvm.Cond.fieldLink "WallDamp$Place" (28 : Nat) "WallDamp$Place" "coming" "I") ∈ x_tb := x_m1 203 rfl rfl
theorem m_204 : (Jvm.Cond.fieldLink "WallDamp$Flow" (38 : Nat) "WallDamp$Place" "coming" "I") ∈ x_tb := x_m1 204 rfl rfl
theorem m_205 : (Jvm.Cond.lays "WallDamp$Air" "WallDamp$Air" "gone" "J") ∈ x_tb := x_m1 205 rfl rfl
theorem m_207 : (Jvm.Cond.lays "WallDamp$Air" "WallDamp$Air" "come" "J") ∈ x_tb := x_m1 207 rfl rfl
theorem m_209 : (Jvm.Cond.lays "WallDamp$Air" "WallDamp$Place" "warmth" "I") ∈ x_tb := x_m1 209 rfl rfl
theorem m_211 : (Jvm.Cond.lays "WallDamp$Air" "WallDamp$Place" "damp" "I") ∈ x_tb := x_m1 211 rfl rfl
theorem m_213 : (Jvm.Cond.lays "WallDamp$Air" "WallDamp$Place" "pressure" "I") ∈ x_tb := x_m1 213 rfl rfl
theorem m_215 : (Jvm.Cond.lays "WallDamp$Air" "WallDamp$Place" "supply" "I") ∈ x_tb := x_m1 215 rfl rfl
theorem m_217 : (Jvm.Cond.lays "WallDamp$Air" "WallDamp$Place" "room" "I") ∈ x_tb := x_m1 217 rfl rfl
theorem m_219 : (Jvm.Cond.lays "WallDamp$Air" "WallDamp$Place" "leaving" "I") ∈ x_tb := x_m1 219 rfl rfl
theorem m_221 : (Jvm.Cond.lays "WallDamp$Air" "WallDamp$Place" "coming" "I") ∈ x_tb := x_m1 221 rfl rfl
theorem m_224 : (Jvm.Cond.classLink "WallDamp$Wall" (27 : Nat) "WallDamp$Cell") ∈ x_tb := x_m1 224 rfl rfl
theorem m_226 : (Jvm.Cond.classLink "WallDamp$Wall" (33 : Nat) "WallDamp$Flow") ∈ x_tb := x_m1 226 rfl rfl
theorem m_228 : (Jvm.Cond.instantiable "WallDamp$Cell" (15 : Nat)) ∈ x_tb := x_m1 228 rfl rfl
theorem m_229 : (Jvm.Cond.methodLink "WallDamp$Wall" (39 : Nat) ({ cls := "WallDamp$Cell", name := "<init>", desc := "(LWallDamp$Material;)V" } : Jvm.MethodName)) ∈ x_tb := x_m1 229 rfl rfl
theorem m_230 : (Jvm.Cond.instanceMethod ({ cls := "WallDamp$Cell", name := "<init>", desc := "(LWallDamp$Material;)V" } : Jvm.MethodName)) ∈ x_tb := x_m1 230 rfl rfl
theorem m_231 : (Jvm.Cond.code ({ cls := "WallDamp$Cell", name := "<init>", desc := "(LWallDamp$Material;)V" } : Jvm.MethodName) prog_3_method_1_code (2 : Nat) (Option.none : Option Jvm.ClassFile.FieldType)) ∈ x_tb := x_m1 231 rfl rfl
theorem m_232 : (Jvm.Cond.methodLink "WallDamp$Cell" (3 : Nat) ({ cls := "WallDamp$Place", name := "<init>", desc := "()V" } : Jvm.MethodName)) ∈ x_tb := x_m1 232 rfl rfl
theorem m_233 : (Jvm.Cond.fieldLink "WallDamp$Cell" (9 : Nat) "WallDamp$Cell" "material" "LWallDamp$Material;") ∈ x_tb := x_m1 233 rfl rfl
theorem m_234 : (Jvm.Cond.fieldLink "WallDamp" (106 : Nat) "WallDamp$Cell" "material" "LWallDamp$Material;") ∈ x_tb := x_m1 234 rfl rfl
theorem m_235 : (Jvm.Cond.fieldLink "WallDamp$Wall" (147 : Nat) "WallDamp$Cell" "material" "LWallDamp$Material;") ∈ x_tb := x_m1 235 rfl rfl
theorem m_236 : (Jvm.Cond.fieldLink "WallDamp$Cell" (15 : Nat) "WallDamp$Cell" "thickness" "I") ∈ x_tb := x_m1 236 rfl rfl
theorem m_237 : (Jvm.Cond.fieldLink "WallDamp" (110 : Nat) "WallDamp$Cell" "thickness" "I") ∈ x_tb := x_m1 237 rfl rfl
theorem m_238 : (Jvm.Cond.fieldLink "WallDamp$Cell" (37 : Nat) "WallDamp$Cell" "leakRate" "I") ∈ x_tb := x_m1 238 rfl rfl
theorem m_239 : (Jvm.Cond.fieldLink "WallDamp$Wall" (162 : Nat) "WallDamp$Cell" "leakRate" "I") ∈ x_tb := x_m1 239 rfl rfl
theorem m_240 : (Jvm.Cond.fieldLink "WallDamp" (155 : Nat) "WallDamp$Cell" "leakRate" "I") ∈ x_tb := x_m2 0 rfl rfl
theorem m_241 : (Jvm.Cond.fieldLink "WallDamp$Cell" (19 : Nat) "WallDamp$Cell" "held" "I") ∈ x_tb := x_m2 1 rfl rfl
theorem m_242 : (Jvm.Cond.fieldLink "WallDamp$Wall" (61 : Nat) "WallDamp$Cell" "held" "I") ∈ x_tb := x_m2 2 rfl rfl
theorem m_243 : (Jvm.Cond.fieldLink "WallDamp" (101 : Nat) "WallDamp$Cell" "held" "I") ∈ x_tb := x_m2 3 rfl rfl
theorem m_244 : (Jvm.Cond.fieldLink "WallDamp$Wall" (127 : Nat) "WallDamp$Cell" "way" "J") ∈ x_tb := x_m2 4 rfl rfl
theorem m_245 : (Jvm.Cond.fieldLink "WallDamp$Cell" (72 : Nat) "WallDamp$Cell" "passes" "I") ∈ x_tb := x_m2 5 rfl rfl
theorem m_246 : (Jvm.Cond.fieldLink "WallDamp" (184 : Nat) "WallDamp$Cell" "passes" "I") ∈ x_tb := x_m2 6 rfl rfl
theorem m_247 : (Jvm.Cond.fieldLink "WallDamp$Cell" (60 : Nat) "WallDamp$Cell" "greatestDamp" "I") ∈ x_tb := x_m2 7 rfl rfl
theorem m_248 : (Jvm.Cond.fieldLink "WallDamp" (191 : Nat) "WallDamp$Cell" "greatestDamp" "I") ∈ x_tb := x_m2 8 rfl rfl
theorem m_249 : (Jvm.Cond.fieldLink "WallDamp$Cell" (68 : Nat) "WallDamp$Cell" "frozen" "Z") ∈ x_tb := x_m2 9 rfl rfl
theorem m_250 : (Jvm.Cond.fieldLink "WallDamp" (187 : Nat) "WallDamp$Cell" "frozen" "Z") ∈ x_tb := x_m2 10 rfl rfl
theorem m_251 : (Jvm.Cond.lays "WallDamp$Cell" "WallDamp$Cell" "material" "LWallDamp$Material;") ∈ x_tb := x_m2 11 rfl rfl
theorem m_253 : (Jvm.Cond.lays "WallDamp$Cell" "WallDamp$Cell" "thickness" "I") ∈ x_tb := x_m2 13 rfl rfl
theorem m_255 : (Jvm.Cond.lays "WallDamp$Cell" "WallDamp$Cell" "leakRate" "I") ∈ x_tb := x_m2 15 rfl rfl
theorem m_257 : (Jvm.Cond.lays "WallDamp$Cell" "WallDamp$Cell" "held" "I") ∈ x_tb := x_m2 17 rfl rfl
theorem m_259 : (Jvm.Cond.lays "WallDamp$Cell" "WallDamp$Cell" "way" "J") ∈ x_tb := x_m2 19 rfl rfl
theorem m_261 : (Jvm.Cond.lays "WallDamp$Cell" "WallDamp$Cell" "passes" "I") ∈ x_tb := x_m2 21 rfl rfl
theorem m_263 : (Jvm.Cond.lays "WallDamp$Cell" "WallDamp$Cell" "greatestDamp" "I") ∈ x_tb := x_m2 23 rfl rfl
theorem m_265 : (Jvm.Cond.lays "WallDamp$Cell" "WallDamp$Cell" "frozen" "Z") ∈ x_tb := x_m2 25 rfl rfl
theorem m_267 : (Jvm.Cond.lays "WallDamp$Cell" "WallDamp$Place" "warmth" "I") ∈ x_tb := x_m2 27 rfl rfl
theorem m_268 : (Jvm.Cond.lays "WallDamp$Cell" "WallDamp$Place" "damp" "I") ∈ x_tb := x_m2 28 rfl rfl
theorem m_269 : (Jvm.Cond.lays "WallDamp$Cell" "WallDamp$Place" "pressure" "I") ∈ x_tb := x_m2 29 rfl rfl
theorem m_270 : (Jvm.Cond.lays "WallDamp$Cell" "WallDamp$Place" "supply" "I") ∈ x_tb := x_m2 30 rfl rfl
theorem m_271 : (Jvm.Cond.lays "WallDamp$Cell" "WallDamp$Place" "room" "I") ∈ x_tb := x_m2 31 rfl rfl
theorem m_272 : (Jvm.Cond.lays "WallDamp$Cell" "WallDamp$Place" "leaving" "I") ∈ x_tb := x_m2 32 rfl rfl
theorem m_273 : (Jvm.Cond.lays "WallDamp$Cell" "WallDamp$Place" "coming" "I") ∈ x_tb := x_m2 33 rfl rfl
theorem m_275 : (Jvm.Cond.instantiable "WallDamp$Flow" (5 : Nat)) ∈ x_tb := x_m2 35 rfl rfl
theorem m_276 : (Jvm.Cond.methodLink "WallDamp$Wall" (42 : Nat) ({ cls := "WallDamp$Flow", name := "<init>", desc := "(LWallDamp$Place;LWallDamp$Place;)V" } : Jvm.MethodName)) ∈ x_tb := x_m2 36 rfl rfl
theorem m_277 : (Jvm.Cond.instanceMethod ({ cls := "WallDamp$Flow", name := "<init>", desc := "(LWallDamp$Place;LWallDamp$Place;)V" } : Jvm.MethodName)) ∈ x_tb := x_m2 37 rfl rfl
theorem m_278 : (Jvm.Cond.code ({ cls := "WallDamp$Flow", name := "<init>", desc := "(LWallDamp$Place;LWallDamp$Place;)V" } : Jvm.MethodName) prog_5_method_1_code (3 : Nat) (Option.none : Option Jvm.ClassFile.FieldType)) ∈ x_tb := x_m2 38 rfl rfl
theorem m_279 : (Jvm.Cond.methodLink "WallDamp$Flow" (1 : Nat) ({ cls := "java/lang/Object", name := "<init>", desc := "()V" } : Jvm.MethodName)) ∈ x_tb := x_m2 39 rfl rfl
theorem m_280 : (Jvm.Cond.fieldLink "WallDamp$Flow" (7 : Nat) "WallDamp$Flow" "outer" "LWallDamp$Place;") ∈ x_tb := x_m2 40 rfl rfl
theorem m_281 : (Jvm.Cond.fieldLink "WallDamp$Flow" (13 : Nat) "WallDamp$Flow" "inner" "LWallDamp$Place;") ∈ x_tb := x_m2 41 rfl rfl
theorem m_282 : (Jvm.Cond.fieldLink "WallDamp$Flow" (16 : Nat) "WallDamp$Flow" "from" "LWallDamp$Place;") ∈ x_tb := x_m2 42 rfl rfl
theorem m_283 : (Jvm.Cond.fieldLink "WallDamp$Flow" (19 : Nat) "WallDamp$Flow" "to" "LWallDamp$Place;") ∈ x_tb := x_m2 43 rfl rfl
theorem m_284 : (Jvm.Cond.fieldLink "WallDamp$Flow" (22 : Nat) "WallDamp$Flow" "much" "I") ∈ x_tb := x_m2 44 rfl rfl
theorem m_285 : (Jvm.Cond.laysFinal "WallDamp$Flow" "WallDamp$Flow" "outer" "LWallDamp$Place;") ∈ x_tb := x_m2 45 rfl rfl
theorem m_287 : (Jvm.Cond.laysFinal "WallDamp$Flow" "WallDamp$Flow" "inner" "LWallDamp$Place;") ∈ x_tb := x_m2 47 rfl rfl
theorem m_289 : (Jvm.Cond.lays "WallDamp$Flow" "WallDamp$Flow" "from" "LWallDamp$Place;") ∈ x_tb := x_m2 49 rfl rfl
theorem m_291 : (Jvm.Cond.lays "WallDamp$Flow" "WallDamp$Flow" "to" "LWallDamp$Place;") ∈ x_tb := x_m2 51 rfl rfl
theorem m_293 : (Jvm.Cond.lays "WallDamp$Flow" "WallDamp$Flow" "much" "I") ∈ x_tb := x_m2 53 rfl rfl
theorem m_296 : (Jvm.Cond.fieldLink "WallDamp$Wall" (29 : Nat) "WallDamp$Wall" "cells" "[LWallDamp$Cell;") ∈ x_tb := x_m2 56 rfl rfl
theorem m_297 : (Jvm.Cond.fieldLink "WallDamp$Trials" (22 : Nat) "WallDamp$Wall" "cells" "[LWallDamp$Cell;") ∈ x_tb := x_m2 57 rfl rfl
theorem m_298 : (Jvm.Cond.fieldLink "WallDamp" (213 : Nat) "WallDamp$Wall" "cells" "[LWallDamp$Cell;") ∈ x_tb := x_m2 58 rfl rfl
theorem m_299 : (Jvm.Cond.fieldLink "WallDamp$Wall" (18 : Nat) "WallDamp$Wall" "outerAir" "LWallDamp$Air;") ∈ x_tb := x_m2 59 rfl rfl
theorem m_300 : (Jvm.Cond.fieldLink "WallDamp" (198 : Nat) "WallDamp$Wall" "outerAir" "LWallDamp$Air;") ∈ x_tb := x_m2 60 rfl rfl
theorem m_301 : (Jvm.Cond.fieldLink "WallDamp$Wall" (24 : Nat) "WallDamp$Wall" "innerAir" "LWallDamp$Air;") ∈ x_tb := x_m2 61 rfl rfl
theorem m_302 : (Jvm.Cond.fieldLink "WallDamp" (207 : Nat) "WallDamp$Wall" "innerAir" "LWallDamp$Air;") ∈ x_tb := x_m2 62 rfl rfl
theorem m_303 : (Jvm.Cond.fieldLink "WallDamp$Wall" (48 : Nat) "WallDamp$Wall" "outerVapour" "LWallDamp$Flow;") ∈ x_tb := x_m2 63 rfl rfl
theorem m_304 : (Jvm.Cond.fieldLink "WallDamp$Wall" (52 : Nat) "WallDamp$Wall" "innerVapour" "LWallDamp$Flow;") ∈ x_tb := x_m2 64 rfl rfl
theorem m_305 : (Jvm.Cond.fieldLink "WallDamp$Wall" (55 : Nat) "WallDamp$Wall" "rain" "LWallDamp$Flow;") ∈ x_tb := x_m2 65 rfl rfl
theorem m_306 : (Jvm.Cond.fieldLink "WallDamp$Wall" (35 : Nat) "WallDamp$Wall" "leaks" "[LWallDamp$Flow;") ∈ x_tb := x_m2 66 rfl rfl
theorem m_307 : (Jvm.Cond.fieldLink "WallDamp$Wall" (45 : Nat) "WallDamp$Wall" "betweens" "[LWallDamp$Flow;") ∈ x_tb := x_m2 67 rfl rfl
theorem m_308 : (Jvm.Cond.fieldLink "WallDamp$Wall" (58 : Nat) "WallDamp$Wall" "flows" "[LWallDamp$Flow;") ∈ x_tb := x_m2 68 rfl rfl
theorem m_309 : (Jvm.Cond.laysFinal "WallDamp$Wall" "WallDamp$Wall" "cells" "[LWallDamp$Cell;") ∈ x_tb := x_m2 69 rfl rfl
theorem m_311 : (Jvm.Cond.laysFinal "WallDamp$Wall" "WallDamp$Wall" "outerAir" "LWallDamp$Air;") ∈ x_tb := x_m2 71 rfl rfl
theorem m_313 : (Jvm.Cond.laysFinal "WallDamp$Wall" "WallDamp$Wall" "innerAir" "LWallDamp$Air;") ∈ x_tb := x_m2 73 rfl rfl
theorem m_315 : (Jvm.Cond.laysFinal "WallDamp$Wall" "WallDamp$Wall" "outerVapour" "LWallDamp$Flow;") ∈ x_tb := x_m2 75 rfl rfl
theorem m_317 : (Jvm.Cond.laysFinal "WallDamp$Wall" "WallDamp$Wall" "innerVapour" "LWallDamp$Flow;") ∈ x_tb := x_m2 77 rfl rfl
theorem m_319 : (Jvm.Cond.laysFinal "WallDamp$Wall" "WallDamp$Wall" "rain" "LWallDamp$Flow;") ∈ x_tb := x_m2 79 rfl rfl
theorem m_321 : (Jvm.Cond.laysFinal "WallDamp$Wall" "WallDamp$Wall" "leaks" "[LWallDamp$Flow;") ∈ x_tb := x_m2 81 rfl rfl
theorem m_323 : (Jvm.Cond.laysFinal "WallDamp$Wall" "WallDamp$Wall" "betweens" "[LWallDamp$Flow;") ∈ x_tb := x_m2 83 rfl rfl
theorem m_325 : (Jvm.Cond.laysFinal "WallDamp$Wall" "WallDamp$Wall" "flows" "[LWallDamp$Flow;") ∈ x_tb := x_m2 85 rfl rfl
theorem m_328 : (Jvm.Cond.classLink "WallDamp" (48 : Nat) "WallDamp$Trials") ∈ x_tb := x_m2 88 rfl rfl
theorem m_329 : (Jvm.Cond.instantiable "WallDamp$Trials" (3 : Nat)) ∈ x_tb := x_m2 89 rfl rfl
theorem m_330 : (Jvm.Cond.methodLink "WallDamp" (50 : Nat) ({ cls := "WallDamp$Trials", name := "<init>", desc := "(LWallDamp$Wall;)V" } : Jvm.MethodName)) ∈ x_tb := x_m2 90 rfl rfl
theorem m_331 : (Jvm.Cond.instanceMethod ({ cls := "WallDamp$Trials", name := "<init>", desc := "(LWallDamp$Wall;)V" } : Jvm.MethodName)) ∈ x_tb := x_m2 91 rfl rfl
theorem m_332 : (Jvm.Cond.code ({ cls := "WallDamp$Trials", name := "<init>", desc := "(LWallDamp$Wall;)V" } : Jvm.MethodName) prog_10_method_1_code (2 : Nat) (Option.none : Option Jvm.ClassFile.FieldType)) ∈ x_tb := x_m2 92 rfl rfl
theorem m_333 : (Jvm.Cond.methodLink "WallDamp$Trials" (3 : Nat) ({ cls := "java/lang/Object", name := "<init>", desc := "()V" } : Jvm.MethodName)) ∈ x_tb := x_m2 93 rfl rfl
theorem m_334 : (Jvm.Cond.fieldLink "WallDamp$Trials" (19 : Nat) "WallDamp$Trials" "driest" "[I") ∈ x_tb := x_m2 94 rfl rfl
theorem m_335 : (Jvm.Cond.fieldLink "WallDamp" (223 : Nat) "WallDamp$Trials" "driest" "[I") ∈ x_tb := x_m2 95 rfl rfl
theorem m_336 : (Jvm.Cond.fieldLink "WallDamp$Trials" (15 : Nat) "WallDamp$Trials" "row" "[I") ∈ x_tb := x_m2 96 rfl rfl
theorem m_337 : (Jvm.Cond.fieldLink "WallDamp$Trials" (9 : Nat) "WallDamp$Trials" "trial" "LWallDamp$Wall;") ∈ x_tb := x_m2 97 rfl rfl
theorem m_338 : (Jvm.Cond.laysFinal "WallDamp$Trials" "WallDamp$Trials" "driest" "[I") ∈ x_tb := x_m2 98 rfl rfl
theorem m_340 : (Jvm.Cond.laysFinal "WallDamp$Trials" "WallDamp$Trials" "row" "[I") ∈ x_tb := x_m2 100 rfl rfl
theorem m_342 : (Jvm.Cond.laysFinal "WallDamp$Trials" "WallDamp$Trials" "trial" "LWallDamp$Wall;") ∈ x_tb := x_m2 102 rfl rfl
theorem m_345 : (Jvm.Cond.fieldLink "WallDamp" (20 : Nat) "WallDamp" "materials" "[LWallDamp$Material;") ∈ x_tb := x_m2 105 rfl rfl
theorem m_346 : (Jvm.Cond.fieldLink "WallDamp" (28 : Nat) "WallDamp" "around" "LWallDamp$Surroundings;") ∈ x_tb := x_m2 106 rfl rfl
theorem m_347 : (Jvm.Cond.fieldLink "WallDamp" (35 : Nat) "WallDamp" "mouldRows" "LWallDamp$MouldRows;") ∈ x_tb := x_m2 107 rfl rfl
theorem m_348 : (Jvm.Cond.fieldLink "WallDamp" (44 : Nat) "WallDamp" "standing" "LWallDamp$Wall;") ∈ x_tb := x_m2 108 rfl rfl
theorem m_349 : (Jvm.Cond.fieldLink "WallDamp" (53 : Nat) "WallDamp" "trials" "LWallDamp$Trials;") ∈ x_tb := x_m2 109 rfl rfl
theorem m_350 : (Jvm.Cond.fieldLink "WallDamp" (57 : Nat) "WallDamp" "hoursOver" "I") ∈ x_tb := x_m2 110 rfl rfl
theorem m_351 : (Jvm.Cond.fieldLink "WallDamp" (61 : Nat) "WallDamp" "mouldGrown" "I") ∈ x_tb := x_m2 111 rfl rfl
theorem m_352 : (Jvm.Cond.fieldLink "WallDamp" (64 : Nat) "WallDamp" "startWater" "J") ∈ x_tb := x_m2 112 rfl rfl
theorem m_353 : (Jvm.Cond.laysFinal "WallDamp" "WallDamp" "materials" "[LWallDamp$Material;") ∈ x_tb := x_m2 113 rfl rfl
theorem m_355 : (Jvm.Cond.laysFinal "WallDamp" "WallDamp" "around" "LWallDamp$Surroundings;") ∈ x_tb := x_m2 115 rfl rfl
theorem m_357 : (Jvm.Cond.laysFinal "WallDamp" "WallDamp" "mouldRows" "LWallDamp$MouldRows;") ∈ x_tb := x_m2 117 rfl rfl
theorem m_359 : (Jvm.Cond.laysFinal "WallDamp" "WallDamp" "standing" "LWallDamp$Wall;") ∈ x_tb := x_m2 119 rfl rfl
theorem m_361 : (Jvm.Cond.laysFinal "WallDamp" "WallDamp" "trials" "LWallDamp$Trials;") ∈ x_tb := x_m2 121 rfl rfl
theorem m_363 : (Jvm.Cond.lays "WallDamp" "WallDamp" "hoursOver" "I") ∈ x_tb := x_m2 123 rfl rfl
theorem m_365 : (Jvm.Cond.lays "WallDamp" "WallDamp" "mouldGrown" "I") ∈ x_tb := x_m2 125 rfl rfl
theorem m_367 : (Jvm.Cond.lays "WallDamp" "WallDamp" "startWater" "J") ∈ x_tb := x_m2 127 rfl rfl
theorem m_370 : (Jvm.Cond.methodLink "WallDampLaw" (132 : Nat) ({ cls := "WallDamp", name := "mould", desc := "()I" } : Jvm.MethodName)) ∈ x_tb := x_m2 130 rfl rfl
theorem m_371 : (Jvm.Cond.instanceMethod ({ cls := "WallDamp", name := "mould", desc := "()I" } : Jvm.MethodName)) ∈ x_tb := x_m2 131 rfl rfl
theorem m_372 : (Jvm.Cond.selects "WallDamp" ({ cls := "WallDamp", name := "mould", desc := "()I" } : Jvm.MethodName) ({ cls := "WallDamp", name := "mould", desc := "()I" } : Jvm.MethodName)) ∈ x_tb := x_m2 132 rfl rfl
theorem m_373 : (Jvm.Cond.code ({ cls := "WallDamp", name := "mould", desc := "()I" } : Jvm.MethodName) prog_1_method_16_code (1 : Nat) (Option.some Jvm.ClassFile.FieldType.int)) ∈ x_tb := x_m2 133 rfl rfl
theorem m_374 : (Jvm.Cond.methodLink "WallDampLaw" (67 : Nat) ({ cls := "WallDampLaw", name := "cell", desc := "([II)I" } : Jvm.MethodName)) ∈ x_tb := x_m2 134 rfl rfl
theorem m_375 : (Jvm.Cond.static ({ cls := "WallDampLaw", name := "cell", desc := "([II)I" } : Jvm.MethodName)) ∈ x_tb := x_m2 135 rfl rfl
theorem m_376 : (Jvm.Cond.code ({ cls := "WallDampLaw", name := "cell", desc := "([II)I" } : Jvm.MethodName) method_2_code (2 : Nat) (Option.some Jvm.ClassFile.FieldType.int)) ∈ x_tb := x_m2 136 rfl rfl
theorem m_377 : (Jvm.Cond.methodLink "WallDampLaw" (78 : Nat) ({ cls := "WallDampLaw", name := "curve", desc := "(LWallDamp;III[J)I" } : Jvm.MethodName)) ∈ x_tb := x_m2 137 rfl rfl
theorem m_378 : (Jvm.Cond.static ({ cls := "WallDampLaw", name := "curve", desc := "(LWallDamp;III[J)I" } : Jvm.MethodName)) ∈ x_tb := x_m2 138 rfl rfl
theorem m_379 : (Jvm.Cond.codeWith ({ cls := "WallDampLaw", name := "curve", desc := "(LWallDamp;III[J)I" } : Jvm.MethodName) method_3_code (6 : Nat) (Option.some Jvm.ClassFile.FieldType.int) [((0 : Nat), (12 : Nat), (15 : Nat), (13 : Nat)), ((0 : Nat), (12 : Nat), (19 : Nat), (15 : Nat))]) ∈ x_tb := x_m2 139 rfl rfl
theorem m_380 : (Jvm.Cond.classLink "WallDampLaw" (13 : Nat) "java/lang/IllegalArgumentException") ∈ x_tb := x_m2 140 rfl rfl
theorem m_381 : (Jvm.Cond.classLink "WallDampLaw" (15 : Nat) "java/lang/IllegalStateException") ∈ x_tb := x_m2 141 rfl rfl
theorem m_382 : (Jvm.Cond.methodLink "WallDampLaw" (7 : Nat) ({ cls := "WallDamp", name := "curve", desc := "(III)I" } : Jvm.MethodName)) ∈ x_tb := x_m2 142 rfl rfl
theorem m_383 : (Jvm.Cond.instanceMethod ({ cls := "WallDamp", name := "curve", desc := "(III)I" } : Jvm.MethodName)) ∈ x_tb := x_m2 143 rfl rfl
theorem m_384 : (Jvm.Cond.selects "WallDamp" ({ cls := "WallDamp", name := "curve", desc := "(III)I" } : Jvm.MethodName) ({ cls := "WallDamp", name := "curve", desc := "(III)I" } : Jvm.MethodName)) ∈ x_tb := x_m2 144 rfl rfl
theorem m_385 : (Jvm.Cond.code ({ cls := "WallDamp", name := "curve", desc := "(III)I" } : Jvm.MethodName) prog_1_method_2_code (5 : Nat) (Option.some Jvm.ClassFile.FieldType.int)) ∈ x_tb := x_m2 145 rfl rfl
theorem m_386 : (Jvm.Cond.methodLink "WallDamp" (68 : Nat) ({ cls := "WallDamp", name := "materialOf", desc := "(I)LWallDamp$Material;" } : Jvm.MethodName)) ∈ x_tb := x_m2 146 rfl rfl
theorem m_388 : (Jvm.Cond.instanceMethod ({ cls := "WallDamp", name := "materialOf", desc := "(I)LWallDamp$Material;" } : Jvm.MethodName)) ∈ x_tb := x_m2 148 rfl rfl
theorem m_389 : (Jvm.Cond.code ({ cls := "WallDamp", name := "materialOf", desc := "(I)LWallDamp$Material;" } : Jvm.MethodName) prog_1_method_21_code (2 : Nat) (Option.some (Jvm.ClassFile.FieldType.object "WallDamp$Material"))) ∈ x_tb := x_m2 149 rfl rfl
theorem m_390 : (Jvm.Cond.methodLink "WallDamp" (73 : Nat) ({ cls := "WallDamp", name := "requireWithin", desc := "(III)V" } : Jvm.MethodName)) ∈ x_tb := x_m2 150 rfl rfl
theorem m_391 : (Jvm.Cond.static ({ cls := "WallDamp", name := "requireWithin", desc := "(III)V" } : Jvm.MethodName)) ∈ x_tb := x_m2 151 rfl rfl
theorem m_392 : (Jvm.Cond.code ({ cls := "WallDamp", name := "requireWithin", desc := "(III)V" } : Jvm.MethodName) prog_1_method_18_code (3 : Nat) (Option.none : Option Jvm.ClassFile.FieldType)) ∈ x_tb := x_m2 152 rfl rfl
theorem m_393 : (Jvm.Cond.classLink "WallDamp" (226 : Nat) "java/lang/IllegalArgumentException") ∈ x_tb := x_m2 153 rfl rfl
theorem m_394 : (Jvm.Cond.instantiable "java/lang/IllegalArgumentException" (6 : Nat)) ∈ x_tb := x_m2 154 rfl rfl
theorem m_402 : (Jvm.Cond.selects "java/lang/IllegalArgumentException" ({ cls := "java/lang/Throwable", name := "fillInStackTrace", desc := "(I)Ljava/lang/Throwable;" } : Jvm.MethodName) ({ cls := "java/lang/Throwable", name := "fillInStackTrace", desc := "(I)Ljava/lang/Throwable;" } : Jvm.MethodName)) ∈ x_tb := x_m2 162 rfl rfl
theorem m_403 : (Jvm.Cond.selects "java/lang/IllegalArgumentException" ({ cls := "java/lang/Throwable", name := "fillInStackTrace", desc := "()Ljava/lang/Throwable;" } : Jvm.MethodName) ({ cls := "java/lang/Throwable", name := "fillInStackTrace", desc := "()Ljava/lang/Throwable;" } : Jvm.MethodName)) ∈ x_tb := x_m2 163 rfl rfl
theorem m_404 : (Jvm.Cond.lays "java/lang/IllegalArgumentException" "java/lang/Throwable" "cause" "Ljava/lang/Throwable;") ∈ x_tb := x_m2 164 rfl rfl
theorem m_405 : (Jvm.Cond.lays "java/lang/Throwable" "java/lang/Throwable" "cause" "Ljava/lang/Throwable;") ∈ x_tb := x_m2 165 rfl rfl
theorem m_406 : (Jvm.Cond.lays "java/lang/IllegalArgumentException" "java/lang/Throwable" "stackTrace" "[Ljava/lang/StackTraceElement;") ∈ x_tb := x_m2 166 rfl rfl
theorem m_407 : (Jvm.Cond.lays "java/lang/Throwable" "java/lang/Throwable" "stackTrace" "[Ljava/lang/StackTraceElement;") ∈ x_tb := x_m2 167 rfl rfl
theorem m_408 : (Jvm.Cond.lays "java/lang/IllegalArgumentException" "java/lang/Throwable" "suppressedExceptions" "Ljava/util/List;") ∈ x_tb := x_m2 168 rfl rfl
theorem m_409 : (Jvm.Cond.lays "java/lang/Throwable" "java/lang/Throwable" "suppressedExceptions" "Ljava/util/List;") ∈ x_tb := x_m2 169 rfl rfl
theorem m_410 : (Jvm.Cond.lays "java/lang/IllegalArgumentException" "java/lang/Throwable" "detailMessage" "Ljava/lang/String;") ∈ x_tb := x_m2 170 rfl rfl
theorem m_411 : (Jvm.Cond.lays "java/lang/Throwable" "java/lang/Throwable" "detailMessage" "Ljava/lang/String;") ∈ x_tb := x_m2 171 rfl rfl
theorem m_412 : (Jvm.Cond.lays "java/lang/IllegalArgumentException" "java/lang/Throwable" "backtrace" "Ljava/lang/Object;") ∈ x_tb := x_m2 172 rfl rfl
theorem m_413 : (Jvm.Cond.lays "java/lang/Throwable" "java/lang/Throwable" "backtrace" "Ljava/lang/Object;") ∈ x_tb := x_m2 173 rfl rfl
theorem m_414 : (Jvm.Cond.fieldLink "java/lang/Throwable" (198 : Nat) "java/lang/Throwable" "backtrace" "Ljava/lang/Object;") ∈ x_tb := x_m2 174 rfl rfl
theorem m_416 : (Jvm.Cond.instanceMethod ({ cls := "java/lang/Throwable", name := "<init>", desc := "()V" } : Jvm.MethodName)) ∈ x_tb := x_m2 176 rfl rfl
theorem m_417 : (Jvm.Cond.code ({ cls := "java/lang/Throwable", name := "<init>", desc := "()V" } : Jvm.MethodName) prog_20_method_1_code (1 : Nat) (Option.none : Option Jvm.ClassFile.FieldType)) ∈ x_tb := x_m2 177 rfl rfl
theorem m_418 : (Jvm.Cond.methodLink "java/lang/Throwable" (1 : Nat) ({ cls := "java/lang/Object", name := "<init>", desc := "()V" } : Jvm.MethodName)) ∈ x_tb := x_m2 178 rfl rfl
theorem m_419 : (Jvm.Cond.fieldLink "java/lang/Throwable" (13 : Nat) "java/lang/Throwable" "UNASSIGNED_STACK" "[Ljava/lang/StackTraceElement;") ∈ x_tb := x_m2 179 rfl rfl
theorem m_421 : (Jvm.Cond.fieldLink "java/lang/Throwable" (20 : Nat) "java/lang/Throwable" "SUPPRESSED_SENTINEL" "Ljava/util/List;") ∈ x_tb := x_m2 181 rfl rfl
theorem m_423 : (Jvm.Cond.methodLink "java/lang/Throwable" (27 : Nat) ({ cls := "java/lang/Throwable", name := "fillInStackTrace", desc := "()Ljava/lang/Throwable;" } : Jvm.MethodName)) ∈ x_tb := x_m2 183 rfl rfl
theorem m_424 : (Jvm.Cond.instanceMethod ({ cls := "java/lang/Throwable", name := "fillInStackTrace", desc := "()Ljava/lang/Throwable;" } : Jvm.MethodName)) ∈ x_tb := x_m2 184 rfl rfl
theorem m_425 : (Jvm.Cond.sameMethod "java/lang/Throwable" "java/lang/Throwable" "fillInStackTrace" "()Ljava/lang/Throwable;") ∈ x_tb := x_m2 185 rfl rfl
theorem m_426 : (Jvm.Cond.selects "java/lang/IllegalStateException" ({ cls := "java/lang/Throwable", name := "fillInStackTrace", desc := "()Ljava/lang/Throwable;" } : Jvm.MethodName) ({ cls := "java/lang/Throwable", name := "fillInStackTrace", desc := "()Ljava/lang/Throwable;" } : Jvm.MethodName)) ∈ x_tb := x_m2 186 rfl rfl
theorem m_428 : (Jvm.Cond.methodLink "java/lang/Throwable" (202 : Nat) ({ cls := "java/lang/Throwable", name := "fillInStackTrace", desc := "(I)Ljava/lang/Throwable;" } : Jvm.MethodName)) ∈ x_tb := x_m2 188 rfl rfl
theorem m_430 : (Jvm.Cond.instanceMethod ({ cls := "java/lang/Throwable", name := "fillInStackTrace", desc := "(I)Ljava/lang/Throwable;" } : Jvm.MethodName)) ∈ x_tb := x_m2 190 rfl rfl
theorem m_431 : (Jvm.Cond.instantiable "java/lang/Throwable" (6 : Nat)) ∈ x_tb := x_m2 191 rfl rfl
theorem m_434 : (Jvm.Cond.methodLink "WallDamp" (230 : Nat) ({ cls := "java/lang/IllegalArgumentException", name := "<init>", desc := "(Ljava/lang/String;)V" } : Jvm.MethodName)) ∈ x_tb := x_m2 194 rfl rfl
theorem m_435 : (Jvm.Cond.instanceMethod ({ cls := "java/lang/IllegalArgumentException", name := "<init>", desc := "(Ljava/lang/String;)V" } : Jvm.MethodName)) ∈ x_tb := x_m2 195 rfl rfl
theorem m_436 : (Jvm.Cond.code ({ cls := "java/lang/IllegalArgumentException", name := "<init>", desc := "(Ljava/lang/String;)V" } : Jvm.MethodName) prog_15_method_2_code (2 : Nat) (Option.none : Option Jvm.ClassFile.FieldType)) ∈ x_tb := x_m2 196 rfl rfl
theorem m_437 : (Jvm.Cond.methodLink "java/lang/IllegalArgumentException" (7 : Nat) ({ cls := "java/lang/RuntimeException", name := "<init>", desc := "(Ljava/lang/String;)V" } : Jvm.MethodName)) ∈ x_tb := x_m2 197 rfl rfl
theorem m_438 : (Jvm.Cond.instanceMethod ({ cls := "java/lang/RuntimeException", name := "<init>", desc := "(Ljava/lang/String;)V" } : Jvm.MethodName)) ∈ x_tb := x_m2 198 rfl rfl
theorem m_439 : (Jvm.Cond.code ({ cls := "java/lang/RuntimeException", name := "<init>", desc := "(Ljava/lang/String;)V" } : Jvm.MethodName) prog_18_method_2_code (2 : Nat) (Option.none : Option Jvm.ClassFile.FieldType)) ∈ x_tb := x_m2 199 rfl rfl
theorem m_440 : (Jvm.Cond.methodLink "java/lang/RuntimeException" (7 : Nat) ({ cls := "java/lang/Exception", name := "<init>", desc := "(Ljava/lang/String;)V" } : Jvm.MethodName)) ∈ x_tb := x_m2 200 rfl rfl
theorem m_441 : (Jvm.Cond.instanceMethod ({ cls := "java/lang/Exception", name := "<init>", desc := "(Ljava/lang/String;)V" } : Jvm.MethodName)) ∈ x_tb := x_m2 201 rfl rfl
theorem m_442 : (Jvm.Cond.code ({ cls := "java/lang/Exception", name := "<init>", desc := "(Ljava/lang/String;)V" } : Jvm.MethodName) prog_14_method_2_code (2 : Nat) (Option.none : Option Jvm.ClassFile.FieldType)) ∈ x_tb := x_m2 202 rfl rfl
theorem m_443 : (Jvm.Cond.methodLink "java/lang/Exception" (7 : Nat) ({ cls := "java/lang/Throwable", name := "<init>", desc := "(Ljava/lang/String;)V" } : Jvm.MethodName)) ∈ x_tb := x_m2 203 rfl rfl
theorem m_444 : (Jvm.Cond.instanceMethod ({ cls := "java/lang/Throwable", name := "<init>", desc := "(Ljava/lang/String;)V" } : Jvm.MethodName)) ∈ x_tb := x_m2 204 rfl rfl
theorem m_445 : (Jvm.Cond.code ({ cls := "java/lang/Throwable", name := "<init>", desc := "(Ljava/lang/String;)V" } : Jvm.MethodName) prog_20_method_2_code (2 : Nat) (Option.none : Option Jvm.ClassFile.FieldType)) ∈ x_tb := x_m2 205 rfl rfl
theorem m_446 : (Jvm.Cond.fieldLink "java/lang/Throwable" (198 : Nat) "java/lang/Throwable" "backtrace" "Ljava/lang/Object;") ∈ x_tb := x_m2 206 rfl rfl
theorem m_447 : (Jvm.Cond.fieldLink "java/lang/Throwable" (31 : Nat) "java/lang/Throwable" "detailMessage" "Ljava/lang/String;") ∈ x_tb := x_m2 207 rfl rfl
theorem m_448 : (Jvm.Cond.fieldLink "java/lang/Throwable" (7 : Nat) "java/lang/Throwable" "cause" "Ljava/lang/Throwable;") ∈ x_tb := x_m2 208 rfl rfl
theorem m_449 : (Jvm.Cond.fieldLink "java/lang/Throwable" (17 : Nat) "java/lang/Throwable" "stackTrace" "[Ljava/lang/StackTraceElement;") ∈ x_tb := x_m2 209 rfl rfl
theorem m_450 : (Jvm.Cond.fieldLink "java/lang/Throwable" (24 : Nat) "java/lang/Throwable" "suppressedExceptions" "Ljava/util/List;") ∈ x_tb := x_m2 210 rfl rfl
theorem m_455 : (Jvm.Cond.lays "java/lang/IllegalArgumentException" "java/lang/Throwable" "depth" "I") ∈ x_tb := x_m2 215 rfl rfl
theorem m_459 : (Jvm.Cond.arrayClass Jvm.ClassFile.FieldType.byte) ∈ x_tb := x_m2 219 rfl rfl
theorem m_460 : (Jvm.Cond.constant "WallDamp" (72 : Nat) (1000000 : Int32)) ∈ x_tb := x_m2 220 rfl rfl
theorem m_461 : (Jvm.Cond.methodLink "WallDamp" (77 : Nat) ({ cls := "WallDamp", name := "requireNoHourOver", desc := "()V" } : Jvm.MethodName)) ∈ x_tb := x_m2 221 rfl rfl
theorem m_463 : (Jvm.Cond.instanceMethod ({ cls := "WallDamp", name := "requireNoHourOver", desc := "()V" } : Jvm.MethodName)) ∈ x_tb := x_m2 223 rfl rfl
theorem m_464 : (Jvm.Cond.code ({ cls := "WallDamp", name := "requireNoHourOver", desc := "()V" } : Jvm.MethodName) prog_1_method_20_code (1 : Nat) (Option.none : Option Jvm.ClassFile.FieldType)) ∈ x_tb := x_m2 224 rfl rfl
theorem m_465 : (Jvm.Cond.classLink "WallDamp" (162 : Nat) "java/lang/IllegalStateException") ∈ x_tb := x_m2 225 rfl rfl
theorem m_466 : (Jvm.Cond.instantiable "java/lang/IllegalStateException" (6 : Nat)) ∈ x_tb := x_m2 226 rfl rfl
theorem m_468 : (Jvm.Cond.selects "java/lang/IllegalStateException" ({ cls := "java/lang/Throwable", name := "fillInStackTrace", desc := "(I)Ljava/lang/Throwable;" } : Jvm.MethodName) ({ cls := "java/lang/Throwable", name := "fillInStackTrace", desc := "(I)Ljava/lang/Throwable;" } : Jvm.MethodName)) ∈ x_tb := x_m2 228 rfl rfl
theorem m_469 : (Jvm.Cond.lays "java/lang/IllegalStateException" "java/lang/Throwable" "cause" "Ljava/lang/Throwable;") ∈ x_tb := x_m2 229 rfl rfl
theorem m_470 : (Jvm.Cond.lays "java/lang/IllegalStateException" "java/lang/Throwable" "stackTrace" "[Ljava/lang/StackTraceElement;") ∈ x_tb := x_m2 230 rfl rfl
theorem m_471 : (Jvm.Cond.lays "java/lang/IllegalStateException" "java/lang/Throwable" "suppressedExceptions" "Ljava/util/List;") ∈ x_tb := x_m2 231 rfl rfl
theorem m_472 : (Jvm.Cond.lays "java/lang/IllegalStateException" "java/lang/Throwable" "detailMessage" "Ljava/lang/String;") ∈ x_tb := x_m2 232 rfl rfl
theorem m_473 : (Jvm.Cond.lays "java/lang/IllegalStateException" "java/lang/Throwable" "backtrace" "Ljava/lang/Object;") ∈ x_tb := x_m2 233 rfl rfl
theorem m_475 : (Jvm.Cond.methodLink "WallDamp" (166 : Nat) ({ cls := "java/lang/IllegalStateException", name := "<init>", desc := "(Ljava/lang/String;)V" } : Jvm.MethodName)) ∈ x_tb := x_m2 235 rfl rfl
theorem m_476 : (Jvm.Cond.instanceMethod ({ cls := "java/lang/IllegalStateException", name := "<init>", desc := "(Ljava/lang/String;)V" } : Jvm.MethodName)) ∈ x_tb := x_m2 236 rfl rfl
theorem m_477 : (Jvm.Cond.code ({ cls := "java/lang/IllegalStateException", name := "<init>", desc := "(Ljava/lang/String;)V" } : Jvm.MethodName) prog_16_method_2_code (2 : Nat) (Option.none : Option Jvm.ClassFile.FieldType)) ∈ x_tb := x_m2 237 rfl rfl
theorem m_478 : (Jvm.Cond.methodLink "java/lang/IllegalStateException" (7 : Nat) ({ cls := "java/lang/RuntimeException", name := "<init>", desc := "(Ljava/lang/String;)V" } : Jvm.MethodName)) ∈ x_tb := x_m2 238 rfl rfl
theorem m_479 : (Jvm.Cond.lays "java/lang/IllegalStateException" "java/lang/Throwable" "depth" "I") ∈ x_tb := x_m2 239 rfl rfl
theorem m_481 : (Jvm.Cond.methodLink "WallDamp" (84 : Nat) ({ cls := "WallDamp", name := "withCorner", desc := "(LWallDamp$Corners;II)I" } : Jvm.MethodName)) ∈ x_tb := x_m3 1 rfl rfl
theorem m_482 : (Jvm.Cond.static ({ cls := "WallDamp", name := "withCorner", desc := "(LWallDamp$Corners;II)I" } : Jvm.MethodName)) ∈ x_tb := x_m3 2 rfl rfl
theorem m_483 : (Jvm.Cond.code ({ cls := "WallDamp", name := "withCorner", desc := "(LWallDamp$Corners;II)I" } : Jvm.MethodName) prog_1_method_23_code (3 : Nat) (Option.some Jvm.ClassFile.FieldType.int)) ∈ x_tb := x_m3 3 rfl rfl
theorem m_484 : (Jvm.Cond.methodLink "WallDamp" (233 : Nat) ({ cls := "WallDamp$Corners", name := "canAdd", desc := "(II)Z" } : Jvm.MethodName)) ∈ x_tb := x_m3 4 rfl rfl
theorem m_485 : (Jvm.Cond.instanceMethod ({ cls := "WallDamp$Corners", name := "canAdd", desc := "(II)Z" } : Jvm.MethodName)) ∈ x_tb := x_m3 5 rfl rfl
theorem m_486 : (Jvm.Cond.selects "WallDamp$Corners" ({ cls := "WallDamp$Corners", name := "canAdd", desc := "(II)Z" } : Jvm.MethodName) ({ cls := "WallDamp$Corners", name := "canAdd", desc := "(II)Z" } : Jvm.MethodName)) ∈ x_tb := x_m3 6 rfl rfl
theorem m_487 : (Jvm.Cond.code ({ cls := "WallDamp$Corners", name := "canAdd", desc := "(II)Z" } : Jvm.MethodName) prog_4_method_2_code (3 : Nat) (Option.some Jvm.ClassFile.FieldType.boolean)) ∈ x_tb := x_m3 7 rfl rfl
theorem m_489 : (Jvm.Cond.methodLink "WallDamp" (239 : Nat) ({ cls := "WallDamp$Corners", name := "add", desc := "(II)I" } : Jvm.MethodName)) ∈ x_tb := x_m3 9 rfl rfl
theorem m_490 : (Jvm.Cond.methodLink "WallDampLaw" (86 : Nat) ({ cls := "WallDampLaw", name := "rates", desc := "(LWallDamp;IIII)I" } : Jvm.MethodName)) ∈ x_tb := x_m3 10 rfl rfl
theorem m_491 : (Jvm.Cond.static ({ cls := "WallDampLaw", name := "rates", desc := "(LWallDamp;IIII)I" } : Jvm.MethodName)) ∈ x_tb := x_m3 11 rfl rfl
theorem m_492 : (Jvm.Cond.codeWith ({ cls := "WallDampLaw", name := "rates", desc := "(LWallDamp;IIII)I" } : Jvm.MethodName) method_4_code (6 : Nat) (Option.some Jvm.ClassFile.FieldType.int) [((0 : Nat), (9 : Nat), (12 : Nat), (13 : Nat))]) ∈ x_tb := x_m3 12 rfl rfl
theorem m_493 : (Jvm.Cond.methodLink "WallDampLaw" (17 : Nat) ({ cls := "WallDamp", name := "rates", desc := "(IIII)V" } : Jvm.MethodName)) ∈ x_tb := x_m3 13 rfl rfl
theorem m_494 : (Jvm.Cond.instanceMethod ({ cls := "WallDamp", name := "rates", desc := "(IIII)V" } : Jvm.MethodName)) ∈ x_tb := x_m3 14 rfl rfl
theorem m_495 : (Jvm.Cond.selects "WallDamp" ({ cls := "WallDamp", name := "rates", desc := "(IIII)V" } : Jvm.MethodName) ({ cls := "WallDamp", name := "rates", desc := "(IIII)V" } : Jvm.MethodName)) ∈ x_tb := x_m3 15 rfl rfl
theorem m_496 : (Jvm.Cond.code ({ cls := "WallDamp", name := "rates", desc := "(IIII)V" } : Jvm.MethodName) prog_1_method_3_code (6 : Nat) (Option.none : Option Jvm.ClassFile.FieldType)) ∈ x_tb := x_m3 16 rfl rfl
theorem m_497 : (Jvm.Cond.methodLink "WallDampLaw" (90 : Nat) ({ cls := "WallDampLaw", name := "cell", desc := "(LWallDamp;III)I" } : Jvm.MethodName)) ∈ x_tb := x_m3 17 rfl rfl
theorem m_498 : (Jvm.Cond.static ({ cls := "WallDampLaw", name := "cell", desc := "(LWallDamp;III)I" } : Jvm.MethodName)) ∈ x_tb := x_m3 18 rfl rfl
theorem m_499 : (Jvm.Cond.codeWith ({ cls := "WallDampLaw", name := "cell", desc := "(LWallDamp;III)I" } : Jvm.MethodName) method_5_code (5 : Nat) (Option.some Jvm.ClassFile.FieldType.int) [((0 : Nat), (7 : Nat), (10 : Nat), (13 : Nat)), ((0 : Nat), (7 : Nat), (14 : Nat), (15 : Nat))]) ∈ x_tb := x_m3 19 rfl rfl
theorem m_500 : (Jvm.Cond.methodLink "WallDampLaw" (21 : Nat) ({ cls := "WallDamp", name := "cell", desc := "(III)V" } : Jvm.MethodName)) ∈ x_tb := x_m3 20 rfl rfl
theorem m_501 : (Jvm.Cond.instanceMethod ({ cls := "WallDamp", name := "cell", desc := "(III)V" } : Jvm.MethodName)) ∈ x_tb := x_m3 21 rfl rfl
theorem m_502 : (Jvm.Cond.selects "WallDamp" ({ cls := "WallDamp", name := "cell", desc := "(III)V" } : Jvm.MethodName) ({ cls := "WallDamp", name := "cell", desc := "(III)V" } : Jvm.MethodName)) ∈ x_tb := x_m3 22 rfl rfl
theorem m_503 : (Jvm.Cond.code ({ cls := "WallDamp", name := "cell", desc := "(III)V" } : Jvm.MethodName) prog_1_method_4_code (6 : Nat) (Option.none : Option Jvm.ClassFile.FieldType)) ∈ x_tb := x_m3 23 rfl rfl
theorem m_504 : (Jvm.Cond.methodLink "WallDamp" (97 : Nat) ({ cls := "WallDamp", name := "cellAt", desc := "(I)LWallDamp$Cell;" } : Jvm.MethodName)) ∈ x_tb := x_m3 24 rfl rfl
theorem m_506 : (Jvm.Cond.instanceMethod ({ cls := "WallDamp", name := "cellAt", desc := "(I)LWallDamp$Cell;" } : Jvm.MethodName)) ∈ x_tb := x_m3 26 rfl rfl
theorem m_507 : (Jvm.Cond.code ({ cls := "WallDamp", name := "cellAt", desc := "(I)LWallDamp$Cell;" } : Jvm.MethodName) prog_1_method_22_code (2 : Nat) (Option.some (Jvm.ClassFile.FieldType.object "WallDamp$Cell"))) ∈ x_tb := x_m3 27 rfl rfl
theorem m_508 : (Jvm.Cond.methodLink "WallDampLaw" (94 : Nat) ({ cls := "WallDampLaw", name := "table", desc := "(LWallDamp;II[J)I" } : Jvm.MethodName)) ∈ x_tb := x_m3 28 rfl rfl
theorem m_509 : (Jvm.Cond.static ({ cls := "WallDampLaw", name := "table", desc := "(LWallDamp;II[J)I" } : Jvm.MethodName)) ∈ x_tb := x_m3 29 rfl rfl
theorem m_510 : (Jvm.Cond.codeWith ({ cls := "WallDampLaw", name := "table", desc := "(LWallDamp;II[J)I" } : Jvm.MethodName) method_6_code (5 : Nat) (Option.some Jvm.ClassFile.FieldType.int) [((0 : Nat), (10 : Nat), (13 : Nat), (13 : Nat)), ((0 : Nat), (10 : Nat), (17 : Nat), (15 : Nat))]) ∈ x_tb := x_m3 30 rfl rfl
theorem m_511 : (Jvm.Cond.methodLink "WallDampLaw" (25 : Nat) ({ cls := "WallDamp", name := "table", desc := "(II)I" } : Jvm.MethodName)) ∈ x_tb := x_m3 31 rfl rfl
theorem m_512 : (Jvm.Cond.instanceMethod ({ cls := "WallDamp", name := "table", desc := "(II)I" } : Jvm.MethodName)) ∈ x_tb := x_m3 32 rfl rfl
theorem m_513 : (Jvm.Cond.selects "WallDamp" ({ cls := "WallDamp", name := "table", desc := "(II)I" } : Jvm.MethodName) ({ cls := "WallDamp", name := "table", desc := "(II)I" } : Jvm.MethodName)) ∈ x_tb := x_m3 33 rfl rfl
theorem m_514 : (Jvm.Cond.code ({ cls := "WallDamp", name := "table", desc := "(II)I" } : Jvm.MethodName) prog_1_method_5_code (3 : Nat) (Option.some Jvm.ClassFile.FieldType.int)) ∈ x_tb := x_m3 34 rfl rfl
theorem m_515 : (Jvm.Cond.constant "WallDamp" (113 : Nat) (100000 : Int32)) ∈ x_tb := x_m3 35 rfl rfl
theorem m_516 : (Jvm.Cond.methodLink "WallDampLaw" (98 : Nat) ({ cls := "WallDampLaw", name := "full", desc := "(LWallDamp;I[J)I" } : Jvm.MethodName)) ∈ x_tb := x_m3 36 rfl rfl
theorem m_517 : (Jvm.Cond.static ({ cls := "WallDampLaw", name := "full", desc := "(LWallDamp;I[J)I" } : Jvm.MethodName)) ∈ x_tb := x_m3 37 rfl rfl
theorem m_518 : (Jvm.Cond.codeWith ({ cls := "WallDampLaw", name := "full", desc := "(LWallDamp;I[J)I" } : Jvm.MethodName) method_7_code (4 : Nat) (Option.some Jvm.ClassFile.FieldType.int) [((0 : Nat), (9 : Nat), (12 : Nat), (13 : Nat))]) ∈ x_tb := x_m3 38 rfl rfl
theorem m_519 : (Jvm.Cond.methodLink "WallDampLaw" (29 : Nat) ({ cls := "WallDamp", name := "full", desc := "(I)I" } : Jvm.MethodName)) ∈ x_tb := x_m3 39 rfl rfl
theorem m_520 : (Jvm.Cond.instanceMethod ({ cls := "WallDamp", name := "full", desc := "(I)I" } : Jvm.MethodName)) ∈ x_tb := x_m3 40 rfl rfl
theorem m_521 : (Jvm.Cond.selects "WallDamp" ({ cls := "WallDamp", name := "full", desc := "(I)I" } : Jvm.MethodName) ({ cls := "WallDamp", name := "full", desc := "(I)I" } : Jvm.MethodName)) ∈ x_tb := x_m3 41 rfl rfl
theorem m_522 : (Jvm.Cond.code ({ cls := "WallDamp", name := "full", desc := "(I)I" } : Jvm.MethodName) prog_1_method_6_code (2 : Nat) (Option.some Jvm.ClassFile.FieldType.int)) ∈ x_tb := x_m3 42 rfl rfl
theorem m_523 : (Jvm.Cond.methodLink "WallDamp" (117 : Nat) ({ cls := "WallDamp$Corners", name := "heightAt", desc := "(I)I" } : Jvm.MethodName)) ∈ x_tb := x_m3 43 rfl rfl
theorem m_524 : (Jvm.Cond.instanceMethod ({ cls := "WallDamp$Corners", name := "heightAt", desc := "(I)I" } : Jvm.MethodName)) ∈ x_tb := x_m3 44 rfl rfl
theorem m_525 : (Jvm.Cond.selects "WallDamp$Corners" ({ cls := "WallDamp$Corners", name := "heightAt", desc := "(I)I" } : Jvm.MethodName) ({ cls := "WallDamp$Corners", name := "heightAt", desc := "(I)I" } : Jvm.MethodName)) ∈ x_tb := x_m3 45 rfl rfl
theorem m_526 : (Jvm.Cond.code ({ cls := "WallDamp$Corners", name := "heightAt", desc := "(I)I" } : Jvm.MethodName) prog_4_method_5_code (6 : Nat) (Option.some Jvm.ClassFile.FieldType.int)) ∈ x_tb := x_m3 46 rfl rfl
theorem m_527 : (Jvm.Cond.methodLink "WallDampLaw" (102 : Nat) ({ cls := "WallDampLaw", name := "films", desc := "(LWallDamp;II)I" } : Jvm.MethodName)) ∈ x_tb := x_m3 47 rfl rfl
theorem m_528 : (Jvm.Cond.static ({ cls := "WallDampLaw", name := "films", desc := "(LWallDamp;II)I" } : Jvm.MethodName)) ∈ x_tb := x_m3 48 rfl rfl
theorem m_529 : (Jvm.Cond.codeWith ({ cls := "WallDampLaw", name := "films", desc := "(LWallDamp;II)I" } : Jvm.MethodName) method_8_code (4 : Nat) (Option.some Jvm.ClassFile.FieldType.int) [((0 : Nat), (6 : Nat), (9 : Nat), (13 : Nat))]) ∈ x_tb := x_m3 49 rfl rfl
theorem m_530 : (Jvm.Cond.methodLink "WallDampLaw" (33 : Nat) ({ cls := "WallDamp", name := "films", desc := "(II)V" } : Jvm.MethodName)) ∈ x_tb := x_m3 50 rfl rfl
theorem m_531 : (Jvm.Cond.instanceMethod ({ cls := "WallDamp", name := "films", desc := "(II)V" } : Jvm.MethodName)) ∈ x_tb := x_m3 51 rfl rfl
theorem m_532 : (Jvm.Cond.selects "WallDamp" ({ cls := "WallDamp", name := "films", desc := "(II)V" } : Jvm.MethodName) ({ cls := "WallDamp", name := "films", desc := "(II)V" } : Jvm.MethodName)) ∈ x_tb := x_m3 52 rfl rfl
theorem m_533 : (Jvm.Cond.code ({ cls := "WallDamp", name := "films", desc := "(II)V" } : Jvm.MethodName) prog_1_method_7_code (3 : Nat) (Option.none : Option Jvm.ClassFile.FieldType)) ∈ x_tb := x_m3 53 rfl rfl
theorem m_534 : (Jvm.Cond.methodLink "WallDampLaw" (106 : Nat) ({ cls := "WallDampLaw", name := "outside", desc := "(LWallDamp;IIIII)I" } : Jvm.MethodName)) ∈ x_tb := x_m3 54 rfl rfl
theorem m_535 : (Jvm.Cond.static ({ cls := "WallDampLaw", name := "outside", desc := "(LWallDamp;IIIII)I" } : Jvm.MethodName)) ∈ x_tb := x_m3 55 rfl rfl
theorem m_536 : (Jvm.Cond.codeWith ({ cls := "WallDampLaw", name := "outside", desc := "(LWallDamp;IIIII)I" } : Jvm.MethodName) method_9_code (7 : Nat) (Option.some Jvm.ClassFile.FieldType.int) [((0 : Nat), (11 : Nat), (14 : Nat), (13 : Nat))]) ∈ x_tb := x_m3 56 rfl rfl
theorem m_537 : (Jvm.Cond.methodLink "WallDampLaw" (37 : Nat) ({ cls := "WallDamp", name := "outside", desc := "(IIIII)V" } : Jvm.MethodName)) ∈ x_tb := x_m3 57 rfl rfl
theorem m_538 : (Jvm.Cond.instanceMethod ({ cls := "WallDamp", name := "outside", desc := "(IIIII)V" } : Jvm.MethodName)) ∈ x_tb := x_m3 58 rfl rfl
theorem m_539 : (Jvm.Cond.selects "WallDamp" ({ cls := "WallDamp", name := "outside", desc := "(IIIII)V" } : Jvm.MethodName) ({ cls := "WallDamp", name := "outside", desc := "(IIIII)V" } : Jvm.MethodName)) ∈ x_tb := x_m3 59 rfl rfl
theorem m_540 : (Jvm.Cond.code ({ cls := "WallDamp", name := "outside", desc := "(IIIII)V" } : Jvm.MethodName) prog_1_method_8_code (6 : Nat) (Option.none : Option Jvm.ClassFile.FieldType)) ∈ x_tb := x_m3 60 rfl rfl
theorem m_541 : (Jvm.Cond.methodLink "WallDamp" (129 : Nat) ({ cls := "WallDamp", name := "requireAir", desc := "(III)V" } : Jvm.MethodName)) ∈ x_tb := x_m3 61 rfl rfl
theorem m_542 : (Jvm.Cond.static ({ cls := "WallDamp", name := "requireAir", desc := "(III)V" } : Jvm.MethodName)) ∈ x_tb := x_m3 62 rfl rfl
theorem m_543 : (Jvm.Cond.code ({ cls := "WallDamp", name := "requireAir", desc := "(III)V" } : Jvm.MethodName) prog_1_method_19_code (3 : Nat) (Option.none : Option Jvm.ClassFile.FieldType)) ∈ x_tb := x_m3 63 rfl rfl
theorem m_544 : (Jvm.Cond.methodLink "WallDampLaw" (110 : Nat) ({ cls := "WallDampLaw", name := "inside", desc := "(LWallDamp;III)I" } : Jvm.MethodName)) ∈ x_tb := x_m3 64 rfl rfl
theorem m_545 : (Jvm.Cond.static ({ cls := "WallDampLaw", name := "inside", desc := "(LWallDamp;III)I" } : Jvm.MethodName)) ∈ x_tb := x_m3 65 rfl rfl
theorem m_546 : (Jvm.Cond.codeWith ({ cls := "WallDampLaw", name := "inside", desc := "(LWallDamp;III)I" } : Jvm.MethodName) method_10_code (5 : Nat) (Option.some Jvm.ClassFile.FieldType.int) [((0 : Nat), (7 : Nat), (10 : Nat), (13 : Nat))]) ∈ x_tb := x_m3 66 rfl rfl
theorem m_547 : (Jvm.Cond.methodLink "WallDampLaw" (41 : Nat) ({ cls := "WallDamp", name := "inside", desc := "(III)V" } : Jvm.MethodName)) ∈ x_tb := x_m3 67 rfl rfl
theorem m_548 : (Jvm.Cond.instanceMethod ({ cls := "WallDamp", name := "inside", desc := "(III)V" } : Jvm.MethodName)) ∈ x_tb := x_m3 68 rfl rfl
theorem m_549 : (Jvm.Cond.selects "WallDamp" ({ cls := "WallDamp", name := "inside", desc := "(III)V" } : Jvm.MethodName) ({ cls := "WallDamp", name := "inside", desc := "(III)V" } : Jvm.MethodName)) ∈ x_tb := x_m3 69 rfl rfl
theorem m_550 : (Jvm.Cond.code ({ cls := "WallDamp", name := "inside", desc := "(III)V" } : Jvm.MethodName) prog_1_method_9_code (4 : Nat) (Option.none : Option Jvm.ClassFile.FieldType)) ∈ x_tb := x_m3 70 rfl rfl
theorem m_551 : (Jvm.Cond.methodLink "WallDampLaw" (113 : Nat) ({ cls := "WallDampLaw", name := "water", desc := "(LWallDamp;II[J)I" } : Jvm.MethodName)) ∈ x_tb := x_m3 71 rfl rfl
theorem m_552 : (Jvm.Cond.static ({ cls := "WallDampLaw", name := "water", desc := "(LWallDamp;II[J)I" } : Jvm.MethodName)) ∈ x_tb := x_m3 72 rfl rfl
theorem m_553 : (Jvm.Cond.codeWith ({ cls := "WallDampLaw", name := "water", desc := "(LWallDamp;II[J)I" } : Jvm.MethodName) method_11_code (5 : Nat) (Option.some Jvm.ClassFile.FieldType.int) [((0 : Nat), (10 : Nat), (13 : Nat), (13 : Nat))]) ∈ x_tb := x_m3 73 rfl rfl
theorem m_554 : (Jvm.Cond.methodLink "WallDampLaw" (44 : Nat) ({ cls := "WallDamp", name := "water", desc := "(II)I" } : Jvm.MethodName)) ∈ x_tb := x_m3 74 rfl rfl
theorem m_555 : (Jvm.Cond.instanceMethod ({ cls := "WallDamp", name := "water", desc := "(II)I" } : Jvm.MethodName)) ∈ x_tb := x_m3 75 rfl rfl
theorem m_556 : (Jvm.Cond.selects "WallDamp" ({ cls := "WallDamp", name := "water", desc := "(II)I" } : Jvm.MethodName) ({ cls := "WallDamp", name := "water", desc := "(II)I" } : Jvm.MethodName)) ∈ x_tb := x_m3 76 rfl rfl
theorem m_557 : (Jvm.Cond.code ({ cls := "WallDamp", name := "water", desc := "(II)I" } : Jvm.MethodName) prog_1_method_10_code (5 : Nat) (Option.some Jvm.ClassFile.FieldType.int)) ∈ x_tb := x_m3 77 rfl rfl
theorem m_558 : (Jvm.Cond.methodLink "WallDamp" (151 : Nat) ({ cls := "WallDamp$Material", name := "most", desc := "()I" } : Jvm.MethodName)) ∈ x_tb := x_m3 78 rfl rfl
theorem m_559 : (Jvm.Cond.instanceMethod ({ cls := "WallDamp$Material", name := "most", desc := "()I" } : Jvm.MethodName)) ∈ x_tb := x_m3 79 rfl rfl
theorem m_560 : (Jvm.Cond.selects "WallDamp$Material" ({ cls := "WallDamp$Material", name := "most", desc := "()I" } : Jvm.MethodName) ({ cls := "WallDamp$Material", name := "most", desc := "()I" } : Jvm.MethodName)) ∈ x_tb := x_m3 80 rfl rfl
theorem m_561 : (Jvm.Cond.code ({ cls := "WallDamp$Material", name := "most", desc := "()I" } : Jvm.MethodName) prog_6_method_2_code (1 : Nat) (Option.some Jvm.ClassFile.FieldType.int)) ∈ x_tb := x_m3 81 rfl rfl
theorem m_562 : (Jvm.Cond.methodLink "WallDamp$Material" (32 : Nat) ({ cls := "WallDamp$Corners", name := "lastX", desc := "()I" } : Jvm.MethodName)) ∈ x_tb := x_m3 82 rfl rfl
theorem m_563 : (Jvm.Cond.instanceMethod ({ cls := "WallDamp$Corners", name := "lastX", desc := "()I" } : Jvm.MethodName)) ∈ x_tb := x_m3 83 rfl rfl
theorem m_564 : (Jvm.Cond.selects "WallDamp$Corners" ({ cls := "WallDamp$Corners", name := "lastX", desc := "()I" } : Jvm.MethodName) ({ cls := "WallDamp$Corners", name := "lastX", desc := "()I" } : Jvm.MethodName)) ∈ x_tb := x_m3 84 rfl rfl
theorem m_565 : (Jvm.Cond.code ({ cls := "WallDamp$Corners", name := "lastX", desc := "()I" } : Jvm.MethodName) prog_4_method_4_code (1 : Nat) (Option.some Jvm.ClassFile.FieldType.int)) ∈ x_tb := x_m3 85 rfl rfl
theorem m_566 : (Jvm.Cond.methodLink "WallDampLaw" (116 : Nat) ({ cls := "WallDampLaw", name := "leak", desc := "(LWallDamp;II[J)I" } : Jvm.MethodName)) ∈ x_tb := x_m3 86 rfl rfl
theorem m_567 : (Jvm.Cond.static ({ cls := "WallDampLaw", name := "leak", desc := "(LWallDamp;II[J)I" } : Jvm.MethodName)) ∈ x_tb := x_m3 87 rfl rfl
theorem m_568 : (Jvm.Cond.codeWith ({ cls := "WallDampLaw", name := "leak", desc := "(LWallDamp;II[J)I" } : Jvm.MethodName) method_12_code (5 : Nat) (Option.some Jvm.ClassFile.FieldType.int) [((0 : Nat), (10 : Nat), (13 : Nat), (13 : Nat))]) ∈ x_tb := x_m3 88 rfl rfl
theorem m_569 : (Jvm.Cond.methodLink "WallDampLaw" (47 : Nat) ({ cls := "WallDamp", name := "leak", desc := "(II)I" } : Jvm.MethodName)) ∈ x_tb := x_m3 89 rfl rfl
theorem m_570 : (Jvm.Cond.instanceMethod ({ cls := "WallDamp", name := "leak", desc := "(II)I" } : Jvm.MethodName)) ∈ x_tb := x_m3 90 rfl rfl
theorem m_571 : (Jvm.Cond.selects "WallDamp" ({ cls := "WallDamp", name := "leak", desc := "(II)I" } : Jvm.MethodName) ({ cls := "WallDamp", name := "leak", desc := "(II)I" } : Jvm.MethodName)) ∈ x_tb := x_m3 91 rfl rfl
theorem m_572 : (Jvm.Cond.code ({ cls := "WallDamp", name := "leak", desc := "(II)I" } : Jvm.MethodName) prog_1_method_11_code (5 : Nat) (Option.some Jvm.ClassFile.FieldType.int)) ∈ x_tb := x_m3 92 rfl rfl
theorem m_573 : (Jvm.Cond.methodLink "WallDampLaw" (119 : Nat) ({ cls := "WallDampLaw", name := "growth", desc := "(LWallDamp;IIII[J)I" } : Jvm.MethodName)) ∈ x_tb := x_m3 93 rfl rfl
theorem m_574 : (Jvm.Cond.static ({ cls := "WallDampLaw", name := "growth", desc := "(LWallDamp;IIII[J)I" } : Jvm.MethodName)) ∈ x_tb := x_m3 94 rfl rfl
theorem m_575 : (Jvm.Cond.codeWith ({ cls := "WallDampLaw", name := "growth", desc := "(LWallDamp;IIII[J)I" } : Jvm.MethodName) method_13_code (7 : Nat) (Option.some Jvm.ClassFile.FieldType.int) [((0 : Nat), (14 : Nat), (17 : Nat), (13 : Nat)), ((0 : Nat), (14 : Nat), (21 : Nat), (15 : Nat))]) ∈ x_tb := x_m3 95 rfl rfl
theorem m_576 : (Jvm.Cond.methodLink "WallDampLaw" (50 : Nat) ({ cls := "WallDamp", name := "growth", desc := "(IIII)I" } : Jvm.MethodName)) ∈ x_tb := x_m3 96 rfl rfl
theorem m_577 : (Jvm.Cond.instanceMethod ({ cls := "WallDamp", name := "growth", desc := "(IIII)I" } : Jvm.MethodName)) ∈ x_tb := x_m3 97 rfl rfl
theorem m_578 : (Jvm.Cond.selects "WallDamp" ({ cls := "WallDamp", name := "growth", desc := "(IIII)I" } : Jvm.MethodName) ({ cls := "WallDamp", name := "growth", desc := "(IIII)I" } : Jvm.MethodName)) ∈ x_tb := x_m3 98 rfl rfl
theorem m_579 : (Jvm.Cond.code ({ cls := "WallDamp", name := "growth", desc := "(IIII)I" } : Jvm.MethodName) prog_1_method_12_code (5 : Nat) (Option.some Jvm.ClassFile.FieldType.int)) ∈ x_tb := x_m3 99 rfl rfl
theorem m_580 : (Jvm.Cond.methodLink "WallDamp" (158 : Nat) ({ cls := "WallDamp$MouldRows", name := "hasPlace", desc := "()Z" } : Jvm.MethodName)) ∈ x_tb := x_m3 100 rfl rfl
theorem m_581 : (Jvm.Cond.instanceMethod ({ cls := "WallDamp$MouldRows", name := "hasPlace", desc := "()Z" } : Jvm.MethodName)) ∈ x_tb := x_m3 101 rfl rfl
theorem m_582 : (Jvm.Cond.selects "WallDamp$MouldRows" ({ cls := "WallDamp$MouldRows", name := "hasPlace", desc := "()Z" } : Jvm.MethodName) ({ cls := "WallDamp$MouldRows", name := "hasPlace", desc := "()Z" } : Jvm.MethodName)) ∈ x_tb := x_m3 102 rfl rfl
theorem m_583 : (Jvm.Cond.code ({ cls := "WallDamp$MouldRows", name := "hasPlace", desc := "()Z" } : Jvm.MethodName) prog_7_method_2_code (1 : Nat) (Option.some Jvm.ClassFile.FieldType.boolean)) ∈ x_tb := x_m3 103 rfl rfl
theorem m_585 : (Jvm.Cond.methodLink "WallDamp" (169 : Nat) ({ cls := "WallDamp$MouldRows", name := "add", desc := "(IIII)I" } : Jvm.MethodName)) ∈ x_tb := x_m3 105 rfl rfl
theorem m_586 : (Jvm.Cond.instanceMethod ({ cls := "WallDamp$MouldRows", name := "add", desc := "(IIII)I" } : Jvm.MethodName)) ∈ x_tb := x_m3 106 rfl rfl
theorem m_587 : (Jvm.Cond.selects "WallDamp$MouldRows" ({ cls := "WallDamp$MouldRows", name := "add", desc := "(IIII)I" } : Jvm.MethodName) ({ cls := "WallDamp$MouldRows", name := "add", desc := "(IIII)I" } : Jvm.MethodName)) ∈ x_tb := x_m3 107 rfl rfl
theorem m_588 : (Jvm.Cond.code ({ cls := "WallDamp$MouldRows", name := "add", desc := "(IIII)I" } : Jvm.MethodName) prog_7_method_3_code (5 : Nat) (Option.some Jvm.ClassFile.FieldType.int)) ∈ x_tb := x_m3 108 rfl rfl
theorem m_589 : (Jvm.Cond.methodLink "WallDampLaw" (123 : Nat) ({ cls := "WallDampLaw", name := "run", desc := "(LWallDamp;I[J)I" } : Jvm.MethodName)) ∈ x_tb := x_m3 109 rfl rfl
theorem m_590 : (Jvm.Cond.static ({ cls := "WallDampLaw", name := "run", desc := "(LWallDamp;I[J)I" } : Jvm.MethodName)) ∈ x_tb := x_m3 110 rfl rfl
theorem m_591 : (Jvm.Cond.codeWith ({ cls := "WallDampLaw", name := "run", desc := "(LWallDamp;I[J)I" } : Jvm.MethodName) method_14_code (4 : Nat) (Option.some Jvm.ClassFile.FieldType.int) [((0 : Nat), (9 : Nat), (12 : Nat), (13 : Nat)), ((0 : Nat), (9 : Nat), (15 : Nat), (15 : Nat))]) ∈ x_tb := x_m3 111 rfl rfl
theorem m_592 : (Jvm.Cond.methodLink "WallDampLaw" (54 : Nat) ({ cls := "WallDamp", name := "run", desc := "(I)I" } : Jvm.MethodName)) ∈ x_tb := x_m3 112 rfl rfl
theorem m_593 : (Jvm.Cond.instanceMethod ({ cls := "WallDamp", name := "run", desc := "(I)I" } : Jvm.MethodName)) ∈ x_tb := x_m3 113 rfl rfl
theorem m_594 : (Jvm.Cond.selects "WallDamp" ({ cls := "WallDamp", name := "run", desc := "(I)I" } : Jvm.MethodName) ({ cls := "WallDamp", name := "run", desc := "(I)I" } : Jvm.MethodName)) ∈ x_tb := x_m3 114 rfl rfl
theorem m_595 : (Jvm.Cond.code ({ cls := "WallDamp", name := "run", desc := "(I)I" } : Jvm.MethodName) prog_1_method_13_code (3 : Nat) (Option.some Jvm.ClassFile.FieldType.int)) ∈ x_tb := x_m3 115 rfl rfl
theorem m_597 : (Jvm.Cond.methodLink "WallDamp" (175 : Nat) ({ cls := "WallDamp", name := "passHour", desc := "()V" } : Jvm.MethodName)) ∈ x_tb := x_m3 117 rfl rfl
theorem m_599 : (Jvm.Cond.instanceMethod ({ cls := "WallDamp", name := "passHour", desc := "()V" } : Jvm.MethodName)) ∈ x_tb := x_m3 119 rfl rfl
theorem m_600 : (Jvm.Cond.code ({ cls := "WallDamp", name := "passHour", desc := "()V" } : Jvm.MethodName) prog_1_method_24_code (1 : Nat) (Option.none : Option Jvm.ClassFile.FieldType)) ∈ x_tb := x_m3 120 rfl rfl
theorem m_601 : (Jvm.Cond.methodLink "WallDamp" (241 : Nat) ({ cls := "WallDamp$Wall", name := "moveWater", desc := "(LWallDamp$Surroundings;I)V" } : Jvm.MethodName)) ∈ x_tb := x_m3 121 rfl rfl
theorem m_602 : (Jvm.Cond.instanceMethod ({ cls := "WallDamp$Wall", name := "moveWater", desc := "(LWallDamp$Surroundings;I)V" } : Jvm.MethodName)) ∈ x_tb := x_m3 122 rfl rfl
theorem m_603 : (Jvm.Cond.selects "WallDamp$Wall" ({ cls := "WallDamp$Wall", name := "moveWater", desc := "(LWallDamp$Surroundings;I)V" } : Jvm.MethodName) ({ cls := "WallDamp$Wall", name := "moveWater", desc := "(LWallDamp$Surroundings;I)V" } : Jvm.MethodName)) ∈ x_tb := x_m3 123 rfl rfl
theorem m_604 : (Jvm.Cond.code ({ cls := "WallDamp$Wall", name := "moveWater", desc := "(LWallDamp$Surroundings;I)V" } : Jvm.MethodName) prog_11_method_4_code (8 : Nat) (Option.none : Option Jvm.ClassFile.FieldType)) ∈ x_tb := x_m3 124 rfl rfl
theorem m_605 : (Jvm.Cond.methodLink "WallDamp$Wall" (65 : Nat) ({ cls := "java/lang/Math", name := "floorMod", desc := "(II)I" } : Jvm.MethodName)) ∈ x_tb := x_m3 125 rfl rfl
theorem m_606 : (Jvm.Cond.static ({ cls := "java/lang/Math", name := "floorMod", desc := "(II)I" } : Jvm.MethodName)) ∈ x_tb := x_m3 126 rfl rfl
theorem m_607 : (Jvm.Cond.code ({ cls := "java/lang/Math", name := "floorMod", desc := "(II)I" } : Jvm.MethodName) prog_17_method_50_code (3 : Nat) (Option.some Jvm.ClassFile.FieldType.int)) ∈ x_tb := x_m3 127 rfl rfl
theorem m_608 : (Jvm.Cond.methodLink "WallDamp$Wall" (83 : Nat) ({ cls := "WallDamp$Wall", name := "warmCells", desc := "(LWallDamp$Surroundings;)V" } : Jvm.MethodName)) ∈ x_tb := x_m3 128 rfl rfl
theorem m_610 : (Jvm.Cond.instanceMethod ({ cls := "WallDamp$Wall", name := "warmCells", desc := "(LWallDamp$Surroundings;)V" } : Jvm.MethodName)) ∈ x_tb := x_m3 130 rfl rfl
theorem m_611 : (Jvm.Cond.code ({ cls := "WallDamp$Wall", name := "warmCells", desc := "(LWallDamp$Surroundings;)V" } : Jvm.MethodName) prog_11_method_6_code (11 : Nat) (Option.none : Option Jvm.ClassFile.FieldType)) ∈ x_tb := x_m3 131 rfl rfl
theorem m_612 : (Jvm.Cond.constantLong "WallDamp$Wall" (118 : Nat) (2 : Int64)) ∈ x_tb := x_m3 132 rfl rfl
theorem m_613 : (Jvm.Cond.methodLink "WallDamp$Wall" (123 : Nat) ({ cls := "WallDamp$Cell", name := "resistance", desc := "()I" } : Jvm.MethodName)) ∈ x_tb := x_m3 133 rfl rfl
theorem m_614 : (Jvm.Cond.instanceMethod ({ cls := "WallDamp$Cell", name := "resistance", desc := "()I" } : Jvm.MethodName)) ∈ x_tb := x_m3 134 rfl rfl
theorem m_615 : (Jvm.Cond.selects "WallDamp$Cell" ({ cls := "WallDamp$Cell", name := "resistance", desc := "()I" } : Jvm.MethodName) ({ cls := "WallDamp$Cell", name := "resistance", desc := "()I" } : Jvm.MethodName)) ∈ x_tb := x_m3 135 rfl rfl
theorem m_616 : (Jvm.Cond.code ({ cls := "WallDamp$Cell", name := "resistance", desc := "()I" } : Jvm.MethodName) prog_3_method_5_code (2 : Nat) (Option.some Jvm.ClassFile.FieldType.int)) ∈ x_tb := x_m3 136 rfl rfl
theorem m_617 : (Jvm.Cond.methodLink "WallDamp$Wall" (134 : Nat) ({ cls := "java/lang/Math", name := "floorDiv", desc := "(JJ)J" } : Jvm.MethodName)) ∈ x_tb := x_m3 137 rfl rfl
theorem m_618 : (Jvm.Cond.static ({ cls := "java/lang/Math", name := "floorDiv", desc := "(JJ)J" } : Jvm.MethodName)) ∈ x_tb := x_m3 138 rfl rfl
theorem m_619 : (Jvm.Cond.code ({ cls := "java/lang/Math", name := "floorDiv", desc := "(JJ)J" } : Jvm.MethodName) prog_17_method_49_code (6 : Nat) (Option.some Jvm.ClassFile.FieldType.long)) ∈ x_tb := x_m3 139 rfl rfl
theorem m_620 : (Jvm.Cond.methodLink "WallDamp$Wall" (90 : Nat) ({ cls := "WallDamp$Air", name := "beginHour", desc := "(LWallDamp$Surroundings;I)V" } : Jvm.MethodName)) ∈ x_tb := x_m3 140 rfl rfl
theorem m_621 : (Jvm.Cond.instanceMethod ({ cls := "WallDamp$Air", name := "beginHour", desc := "(LWallDamp$Surroundings;I)V" } : Jvm.MethodName)) ∈ x_tb := x_m3 141 rfl rfl
theorem m_622 : (Jvm.Cond.selects "WallDamp$Air" ({ cls := "WallDamp$Air", name := "beginHour", desc := "(LWallDamp$Surroundings;I)V" } : Jvm.MethodName) ({ cls := "WallDamp$Air", name := "beginHour", desc := "(LWallDamp$Surroundings;I)V" } : Jvm.MethodName)) ∈ x_tb := x_m3 142 rfl rfl
theorem m_623 : (Jvm.Cond.code ({ cls := "WallDamp$Air", name := "beginHour", desc := "(LWallDamp$Surroundings;I)V" } : Jvm.MethodName) prog_2_method_4_code (3 : Nat) (Option.none : Option Jvm.ClassFile.FieldType)) ∈ x_tb := x_m3 143 rfl rfl
theorem m_624 : (Jvm.Cond.methodLink "WallDamp$Air" (20 : Nat) ({ cls := "WallDamp$Surroundings", name := "pressureAt", desc := "(II)I" } : Jvm.MethodName)) ∈ x_tb := x_m3 144 rfl rfl
theorem m_625 : (Jvm.Cond.instanceMethod ({ cls := "WallDamp$Surroundings", name := "pressureAt", desc := "(II)I" } : Jvm.MethodName)) ∈ x_tb := x_m3 145 rfl rfl
theorem m_626 : (Jvm.Cond.selects "WallDamp$Surroundings" ({ cls := "WallDamp$Surroundings", name := "pressureAt", desc := "(II)I" } : Jvm.MethodName) ({ cls := "WallDamp$Surroundings", name := "pressureAt", desc := "(II)I" } : Jvm.MethodName)) ∈ x_tb := x_m3 146 rfl rfl
theorem m_627 : (Jvm.Cond.code ({ cls := "WallDamp$Surroundings", name := "pressureAt", desc := "(II)I" } : Jvm.MethodName) prog_9_method_2_code (3 : Nat) (Option.some Jvm.ClassFile.FieldType.int)) ∈ x_tb := x_m3 147 rfl rfl
theorem m_628 : (Jvm.Cond.methodLink "WallDamp$Surroundings" (46 : Nat) ({ cls := "WallDamp$Corners", name := "heightAt", desc := "(I)I" } : Jvm.MethodName)) ∈ x_tb := x_m3 148 rfl rfl
theorem m_629 : (Jvm.Cond.constantLong "WallDamp$Surroundings" (50 : Nat) (10000 : Int64)) ∈ x_tb := x_m3 149 rfl rfl
theorem m_630 : (Jvm.Cond.constant "WallDamp$Air" (26 : Nat) (1000000000 : Int32)) ∈ x_tb := x_m3 150 rfl rfl
theorem m_631 : (Jvm.Cond.methodLink "WallDamp$Air" (27 : Nat) ({ cls := "WallDamp$Air", name := "fixHour", desc := "(IIII)V" } : Jvm.MethodName)) ∈ x_tb := x_m3 151 rfl rfl
theorem m_632 : (Jvm.Cond.sameMethod "WallDamp$Air" "WallDamp$Place" "fixHour" "(IIII)V") ∈ x_tb := x_m3 152 rfl rfl
theorem m_634 : (Jvm.Cond.selects "WallDamp$Air" ({ cls := "WallDamp$Air", name := "fixHour", desc := "(IIII)V" } : Jvm.MethodName) ({ cls := "WallDamp$Place", name := "fixHour", desc := "(IIII)V" } : Jvm.MethodName)) ∈ x_tb := x_m3 154 rfl rfl
theorem m_635 : (Jvm.Cond.instanceMethod ({ cls := "WallDamp$Place", name := "fixHour", desc := "(IIII)V" } : Jvm.MethodName)) ∈ x_tb := x_m3 155 rfl rfl
theorem m_636 : (Jvm.Cond.code ({ cls := "WallDamp$Place", name := "fixHour", desc := "(IIII)V" } : Jvm.MethodName) prog_8_method_4_code (5 : Nat) (Option.none : Option Jvm.ClassFile.FieldType)) ∈ x_tb := x_m3 156 rfl rfl
theorem m_637 : (Jvm.Cond.methodLink "WallDamp$Wall" (97 : Nat) ({ cls := "WallDamp$Cell", name := "beginHour", desc := "(LWallDamp$Surroundings;)V" } : Jvm.MethodName)) ∈ x_tb := x_m3 157 rfl rfl
theorem m_638 : (Jvm.Cond.instanceMethod ({ cls := "WallDamp$Cell", name := "beginHour", desc := "(LWallDamp$Surroundings;)V" } : Jvm.MethodName)) ∈ x_tb := x_m3 158 rfl rfl
theorem m_639 : (Jvm.Cond.selects "WallDamp$Cell" ({ cls := "WallDamp$Cell", name := "beginHour", desc := "(LWallDamp$Surroundings;)V" } : Jvm.MethodName) ({ cls := "WallDamp$Cell", name := "beginHour", desc := "(LWallDamp$Surroundings;)V" } : Jvm.MethodName)) ∈ x_tb := x_m3 159 rfl rfl
theorem m_640 : (Jvm.Cond.code ({ cls := "WallDamp$Cell", name := "beginHour", desc := "(LWallDamp$Surroundings;)V" } : Jvm.MethodName) prog_3_method_7_code (3 : Nat) (Option.none : Option Jvm.ClassFile.FieldType)) ∈ x_tb := x_m3 160 rfl rfl
theorem m_641 : (Jvm.Cond.methodLink "WallDamp$Cell" (40 : Nat) ({ cls := "WallDamp$Cell", name := "dampOfHeld", desc := "()I" } : Jvm.MethodName)) ∈ x_tb := x_m3 161 rfl rfl
theorem m_642 : (Jvm.Cond.instanceMethod ({ cls := "WallDamp$Cell", name := "dampOfHeld", desc := "()I" } : Jvm.MethodName)) ∈ x_tb := x_m3 162 rfl rfl
theorem m_643 : (Jvm.Cond.selects "WallDamp$Cell" ({ cls := "WallDamp$Cell", name := "dampOfHeld", desc := "()I" } : Jvm.MethodName) ({ cls := "WallDamp$Cell", name := "dampOfHeld", desc := "()I" } : Jvm.MethodName)) ∈ x_tb := x_m3 163 rfl rfl
theorem m_644 : (Jvm.Cond.code ({ cls := "WallDamp$Cell", name := "dampOfHeld", desc := "()I" } : Jvm.MethodName) prog_3_method_4_code (1 : Nat) (Option.some Jvm.ClassFile.FieldType.int)) ∈ x_tb := x_m3 164 rfl rfl
theorem m_645 : (Jvm.Cond.methodLink "WallDamp$Cell" (28 : Nat) ({ cls := "WallDamp$Corners", name := "heightAt", desc := "(I)I" } : Jvm.MethodName)) ∈ x_tb := x_m3 165 rfl rfl
theorem m_646 : (Jvm.Cond.methodLink "WallDamp$Cell" (47 : Nat) ({ cls := "WallDamp$Surroundings", name := "pressureAt", desc := "(II)I" } : Jvm.MethodName)) ∈ x_tb := x_m3 166 rfl rfl
theorem m_647 : (Jvm.Cond.methodLink "WallDamp$Cell" (53 : Nat) ({ cls := "WallDamp$Material", name := "most", desc := "()I" } : Jvm.MethodName)) ∈ x_tb := x_m3 167 rfl rfl
theorem m_648 : (Jvm.Cond.methodLink "WallDamp$Cell" (56 : Nat) ({ cls := "WallDamp$Cell", name := "fixHour", desc := "(IIII)V" } : Jvm.MethodName)) ∈ x_tb := x_m3 168 rfl rfl
theorem m_649 : (Jvm.Cond.sameMethod "WallDamp$Cell" "WallDamp$Place" "fixHour" "(IIII)V") ∈ x_tb := x_m3 169 rfl rfl
theorem m_650 : (Jvm.Cond.selects "WallDamp$Cell" ({ cls := "WallDamp$Cell", name := "fixHour", desc := "(IIII)V" } : Jvm.MethodName) ({ cls := "WallDamp$Place", name := "fixHour", desc := "(IIII)V" } : Jvm.MethodName)) ∈ x_tb := x_m3 170 rfl rfl
theorem m_651 : (Jvm.Cond.methodLink "WallDamp$Wall" (102 : Nat) ({ cls := "WallDamp$Wall", name := "setAirFlows", desc := "(I)V" } : Jvm.MethodName)) ∈ x_tb := x_m3 171 rfl rfl
theorem m_653 : (Jvm.Cond.instanceMethod ({ cls := "WallDamp$Wall", name := "setAirFlows", desc := "(I)V" } : Jvm.MethodName)) ∈ x_tb := x_m3 173 rfl rfl
theorem m_654 : (Jvm.Cond.code ({ cls := "WallDamp$Wall", name := "setAirFlows", desc := "(I)V" } : Jvm.MethodName) prog_11_method_7_code (6 : Nat) (Option.none : Option Jvm.ClassFile.FieldType)) ∈ x_tb := x_m3 174 rfl rfl
theorem m_655 : (Jvm.Cond.methodLink "WallDamp$Wall" (139 : Nat) ({ cls := "WallDamp$Wall", name := "lastCell", desc := "()LWallDamp$Cell;" } : Jvm.MethodName)) ∈ x_tb := x_m3 175 rfl rfl
theorem m_656 : (Jvm.Cond.instanceMethod ({ cls := "WallDamp$Wall", name := "lastCell", desc := "()LWallDamp$Cell;" } : Jvm.MethodName)) ∈ x_tb := x_m3 176 rfl rfl
theorem m_657 : (Jvm.Cond.selects "WallDamp$Wall" ({ cls := "WallDamp$Wall", name := "lastCell", desc := "()LWallDamp$Cell;" } : Jvm.MethodName) ({ cls := "WallDamp$Wall", name := "lastCell", desc := "()LWallDamp$Cell;" } : Jvm.MethodName)) ∈ x_tb := x_m3 177 rfl rfl
theorem m_658 : (Jvm.Cond.code ({ cls := "WallDamp$Wall", name := "lastCell", desc := "()LWallDamp$Cell;" } : Jvm.MethodName) prog_11_method_2_code (1 : Nat) (Option.some (Jvm.ClassFile.FieldType.object "WallDamp$Cell"))) ∈ x_tb := x_m3 178 rfl rfl
theorem m_659 : (Jvm.Cond.methodLink "WallDamp$Wall" (156 : Nat) ({ cls := "WallDamp$Flow", name := "setInward", desc := "(I)V" } : Jvm.MethodName)) ∈ x_tb := x_m3 179 rfl rfl
theorem m_660 : (Jvm.Cond.instanceMethod ({ cls := "WallDamp$Flow", name := "setInward", desc := "(I)V" } : Jvm.MethodName)) ∈ x_tb := x_m3 180 rfl rfl
theorem m_661 : (Jvm.Cond.selects "WallDamp$Flow" ({ cls := "WallDamp$Flow", name := "setInward", desc := "(I)V" } : Jvm.MethodName) ({ cls := "WallDamp$Flow", name := "setInward", desc := "(I)V" } : Jvm.MethodName)) ∈ x_tb := x_m3 181 rfl rfl
theorem m_662 : (Jvm.Cond.code ({ cls := "WallDamp$Flow", name := "setInward", desc := "(I)V" } : Jvm.MethodName) prog_5_method_2_code (2 : Nat) (Option.none : Option Jvm.ClassFile.FieldType)) ∈ x_tb := x_m3 182 rfl rfl
theorem m_663 : (Jvm.Cond.methodLink "WallDamp$Wall" (106 : Nat) ({ cls := "WallDamp$Wall", name := "setFlowsBetween", desc := "()V" } : Jvm.MethodName)) ∈ x_tb := x_m3 183 rfl rfl
theorem m_665 : (Jvm.Cond.instanceMethod ({ cls := "WallDamp$Wall", name := "setFlowsBetween", desc := "()V" } : Jvm.MethodName)) ∈ x_tb := x_m3 185 rfl rfl
theorem m_666 : (Jvm.Cond.code ({ cls := "WallDamp$Wall", name := "setFlowsBetween", desc := "()V" } : Jvm.MethodName) prog_11_method_8_code (6 : Nat) (Option.none : Option Jvm.ClassFile.FieldType)) ∈ x_tb := x_m3 186 rfl rfl
theorem m_667 : (Jvm.Cond.methodLink "WallDamp$Wall" (165 : Nat) ({ cls := "java/lang/Math", name := "min", desc := "(II)I" } : Jvm.MethodName)) ∈ x_tb := x_m3 187 rfl rfl
theorem m_668 : (Jvm.Cond.methodLink "WallDamp$Wall" (109 : Nat) ({ cls := "WallDamp$Wall", name := "limitFlows", desc := "()V" } : Jvm.MethodName)) ∈ x_tb := x_m3 188 rfl rfl
theorem m_670 : (Jvm.Cond.instanceMethod ({ cls := "WallDamp$Wall", name := "limitFlows", desc := "()V" } : Jvm.MethodName)) ∈ x_tb := x_m3 190 rfl rfl
theorem m_671 : (Jvm.Cond.code ({ cls := "WallDamp$Wall", name := "limitFlows", desc := "()V" } : Jvm.MethodName) prog_11_method_9_code (5 : Nat) (Option.none : Option Jvm.ClassFile.FieldType)) ∈ x_tb := x_m3 191 rfl rfl
theorem m_672 : (Jvm.Cond.methodLink "WallDamp$Wall" (171 : Nat) ({ cls := "WallDamp$Flow", name := "countLeaving", desc := "()V" } : Jvm.MethodName)) ∈ x_tb := x_m3 192 rfl rfl
theorem m_673 : (Jvm.Cond.instanceMethod ({ cls := "WallDamp$Flow", name := "countLeaving", desc := "()V" } : Jvm.MethodName)) ∈ x_tb := x_m3 193 rfl rfl
theorem m_674 : (Jvm.Cond.selects "WallDamp$Flow" ({ cls := "WallDamp$Flow", name := "countLeaving", desc := "()V" } : Jvm.MethodName) ({ cls := "WallDamp$Flow", name := "countLeaving", desc := "()V" } : Jvm.MethodName)) ∈ x_tb := x_m3 194 rfl rfl
theorem m_675 : (Jvm.Cond.code ({ cls := "WallDamp$Flow", name := "countLeaving", desc := "()V" } : Jvm.MethodName) prog_5_method_3_code (1 : Nat) (Option.none : Option Jvm.ClassFile.FieldType)) ∈ x_tb := x_m3 195 rfl rfl
theorem m_676 : (Jvm.Cond.methodLink "WallDamp$Wall" (174 : Nat) ({ cls := "WallDamp$Flow", name := "limitLeaving", desc := "()V" } : Jvm.MethodName)) ∈ x_tb := x_m3 196 rfl rfl
theorem m_677 : (Jvm.Cond.instanceMethod ({ cls := "WallDamp$Flow", name := "limitLeaving", desc := "()V" } : Jvm.MethodName)) ∈ x_tb := x_m3 197 rfl rfl
theorem m_678 : (Jvm.Cond.selects "WallDamp$Flow" ({ cls := "WallDamp$Flow", name := "limitLeaving", desc := "()V" } : Jvm.MethodName) ({ cls := "WallDamp$Flow", name := "limitLeaving", desc := "()V" } : Jvm.MethodName)) ∈ x_tb := x_m3 198 rfl rfl
theorem m_679 : (Jvm.Cond.code ({ cls := "WallDamp$Flow", name := "limitLeaving", desc := "()V" } : Jvm.MethodName) prog_5_method_4_code (1 : Nat) (Option.none : Option Jvm.ClassFile.FieldType)) ∈ x_tb := x_m3 199 rfl rfl
theorem m_680 : (Jvm.Cond.methodLink "WallDamp$Flow" (34 : Nat) ({ cls := "WallDamp$Flow", name := "portion", desc := "(II)I" } : Jvm.MethodName)) ∈ x_tb := x_m3 200 rfl rfl
theorem m_682 : (Jvm.Cond.instanceMethod ({ cls := "WallDamp$Flow", name := "portion", desc := "(II)I" } : Jvm.MethodName)) ∈ x_tb := x_m3 202 rfl rfl
theorem m_683 : (Jvm.Cond.code ({ cls := "WallDamp$Flow", name := "portion", desc := "(II)I" } : Jvm.MethodName) prog_5_method_8_code (3 : Nat) (Option.some Jvm.ClassFile.FieldType.int)) ∈ x_tb := x_m3 203 rfl rfl
theorem m_684 : (Jvm.Cond.methodLink "WallDamp$Wall" (177 : Nat) ({ cls := "WallDamp$Flow", name := "countComing", desc := "()V" } : Jvm.MethodName)) ∈ x_tb := x_m3 204 rfl rfl
theorem m_685 : (Jvm.Cond.instanceMethod ({ cls := "WallDamp$Flow", name := "countComing", desc := "()V" } : Jvm.MethodName)) ∈ x_tb := x_m3 205 rfl rfl
theorem m_686 : (Jvm.Cond.selects "WallDamp$Flow" ({ cls := "WallDamp$Flow", name := "countComing", desc := "()V" } : Jvm.MethodName) ({ cls := "WallDamp$Flow", name := "countComing", desc := "()V" } : Jvm.MethodName)) ∈ x_tb := x_m3 206 rfl rfl
theorem m_687 : (Jvm.Cond.code ({ cls := "WallDamp$Flow", name := "countComing", desc := "()V" } : Jvm.MethodName) prog_5_method_5_code (1 : Nat) (Option.none : Option Jvm.ClassFile.FieldType)) ∈ x_tb := x_m3 207 rfl rfl
theorem m_688 : (Jvm.Cond.methodLink "WallDamp$Wall" (180 : Nat) ({ cls := "WallDamp$Flow", name := "limitComing", desc := "()V" } : Jvm.MethodName)) ∈ x_tb := x_m3 208 rfl rfl
theorem m_689 : (Jvm.Cond.instanceMethod ({ cls := "WallDamp$Flow", name := "limitComing", desc := "()V" } : Jvm.MethodName)) ∈ x_tb := x_m3 209 rfl rfl
theorem m_690 : (Jvm.Cond.selects "WallDamp$Flow" ({ cls := "WallDamp$Flow", name := "limitComing", desc := "()V" } : Jvm.MethodName) ({ cls := "WallDamp$Flow", name := "limitComing", desc := "()V" } : Jvm.MethodName)) ∈ x_tb := x_m3 210 rfl rfl
theorem m_691 : (Jvm.Cond.code ({ cls := "WallDamp$Flow", name := "limitComing", desc := "()V" } : Jvm.MethodName) prog_5_method_6_code (1 : Nat) (Option.none : Option Jvm.ClassFile.FieldType)) ∈ x_tb := x_m3 211 rfl rfl
theorem m_692 : (Jvm.Cond.methodLink "WallDamp$Wall" (112 : Nat) ({ cls := "WallDamp$Flow", name := "move", desc := "()V" } : Jvm.MethodName)) ∈ x_tb := x_m3 212 rfl rfl
theorem m_693 : (Jvm.Cond.instanceMethod ({ cls := "WallDamp$Flow", name := "move", desc := "()V" } : Jvm.MethodName)) ∈ x_tb := x_m3 213 rfl rfl
theorem m_694 : (Jvm.Cond.selects "WallDamp$Flow" ({ cls := "WallDamp$Flow", name := "move", desc := "()V" } : Jvm.MethodName) ({ cls := "WallDamp$Flow", name := "move", desc := "()V" } : Jvm.MethodName)) ∈ x_tb := x_m3 214 rfl rfl
theorem m_695 : (Jvm.Cond.code ({ cls := "WallDamp$Flow", name := "move", desc := "()V" } : Jvm.MethodName) prog_5_method_7_code (1 : Nat) (Option.none : Option Jvm.ClassFile.FieldType)) ∈ x_tb := x_m3 215 rfl rfl
theorem m_696 : (Jvm.Cond.methodLink "WallDamp$Flow" (44 : Nat) ({ cls := "WallDamp$Place", name := "give", desc := "(I)V" } : Jvm.MethodName)) ∈ x_tb := x_m3 216 rfl rfl
theorem m_698 : (Jvm.Cond.sameMethod "WallDamp$Place" "WallDamp$Place" "give" "(I)V") ∈ x_tb := x_m3 218 rfl rfl
theorem m_699 : (Jvm.Cond.selects "WallDamp$Air" ({ cls := "WallDamp$Place", name := "give", desc := "(I)V" } : Jvm.MethodName) ({ cls := "WallDamp$Air", name := "give", desc := "(I)V" } : Jvm.MethodName)) ∈ x_tb := x_m3 219 rfl rfl
theorem m_700 : (Jvm.Cond.instanceMethod ({ cls := "WallDamp$Air", name := "give", desc := "(I)V" } : Jvm.MethodName)) ∈ x_tb := x_m3 220 rfl rfl
theorem m_701 : (Jvm.Cond.code ({ cls := "WallDamp$Air", name := "give", desc := "(I)V" } : Jvm.MethodName) prog_2_method_2_code (2 : Nat) (Option.none : Option Jvm.ClassFile.FieldType)) ∈ x_tb := x_m3 221 rfl rfl
theorem m_702 : (Jvm.Cond.selects "WallDamp$Cell" ({ cls := "WallDamp$Place", name := "give", desc := "(I)V" } : Jvm.MethodName) ({ cls := "WallDamp$Cell", name := "give", desc := "(I)V" } : Jvm.MethodName)) ∈ x_tb := x_m3 222 rfl rfl
theorem m_703 : (Jvm.Cond.instanceMethod ({ cls := "WallDamp$Cell", name := "give", desc := "(I)V" } : Jvm.MethodName)) ∈ x_tb := x_m3 223 rfl rfl
theorem m_704 : (Jvm.Cond.code ({ cls := "WallDamp$Cell", name := "give", desc := "(I)V" } : Jvm.MethodName) prog_3_method_2_code (2 : Nat) (Option.none : Option Jvm.ClassFile.FieldType)) ∈ x_tb := x_m3 224 rfl rfl
theorem m_705 : (Jvm.Cond.methodLink "WallDamp$Flow" (48 : Nat) ({ cls := "WallDamp$Place", name := "take", desc := "(I)V" } : Jvm.MethodName)) ∈ x_tb := x_m3 225 rfl rfl
theorem m_707 : (Jvm.Cond.sameMethod "WallDamp$Place" "WallDamp$Place" "take" "(I)V") ∈ x_tb := x_m3 227 rfl rfl
theorem m_708 : (Jvm.Cond.selects "WallDamp$Air" ({ cls := "WallDamp$Place", name := "take", desc := "(I)V" } : Jvm.MethodName) ({ cls := "WallDamp$Air", name := "take", desc := "(I)V" } : Jvm.MethodName)) ∈ x_tb := x_m3 228 rfl rfl
theorem m_709 : (Jvm.Cond.instanceMethod ({ cls := "WallDamp$Air", name := "take", desc := "(I)V" } : Jvm.MethodName)) ∈ x_tb := x_m3 229 rfl rfl
theorem m_710 : (Jvm.Cond.code ({ cls := "WallDamp$Air", name := "take", desc := "(I)V" } : Jvm.MethodName) prog_2_method_3_code (2 : Nat) (Option.none : Option Jvm.ClassFile.FieldType)) ∈ x_tb := x_m3 230 rfl rfl
theorem m_711 : (Jvm.Cond.selects "WallDamp$Cell" ({ cls := "WallDamp$Place", name := "take", desc := "(I)V" } : Jvm.MethodName) ({ cls := "WallDamp$Cell", name := "take", desc := "(I)V" } : Jvm.MethodName)) ∈ x_tb := x_m3 231 rfl rfl
theorem m_712 : (Jvm.Cond.instanceMethod ({ cls := "WallDamp$Cell", name := "take", desc := "(I)V" } : Jvm.MethodName)) ∈ x_tb := x_m3 232 rfl rfl
theorem m_713 : (Jvm.Cond.code ({ cls := "WallDamp$Cell", name := "take", desc := "(I)V" } : Jvm.MethodName) prog_3_method_3_code (2 : Nat) (Option.none : Option Jvm.ClassFile.FieldType)) ∈ x_tb := x_m3 233 rfl rfl
theorem m_714 : (Jvm.Cond.methodLink "WallDamp" (245 : Nat) ({ cls := "WallDamp$Wall", name := "tellFrost", desc := "()V" } : Jvm.MethodName)) ∈ x_tb := x_m3 234 rfl rfl
theorem m_715 : (Jvm.Cond.instanceMethod ({ cls := "WallDamp$Wall", name := "tellFrost", desc := "()V" } : Jvm.MethodName)) ∈ x_tb := x_m3 235 rfl rfl
theorem m_716 : (Jvm.Cond.selects "WallDamp$Wall" ({ cls := "WallDamp$Wall", name := "tellFrost", desc := "()V" } : Jvm.MethodName) ({ cls := "WallDamp$Wall", name := "tellFrost", desc := "()V" } : Jvm.MethodName)) ∈ x_tb := x_m3 236 rfl rfl
theorem m_717 : (Jvm.Cond.code ({ cls := "WallDamp$Wall", name := "tellFrost", desc := "()V" } : Jvm.MethodName) prog_11_method_5_code (5 : Nat) (Option.none : Option Jvm.ClassFile.FieldType)) ∈ x_tb := x_m3 237 rfl rfl
theorem m_718 : (Jvm.Cond.methodLink "WallDamp$Wall" (115 : Nat) ({ cls := "WallDamp$Cell", name := "endHour", desc := "()V" } : Jvm.MethodName)) ∈ x_tb := x_m3 238 rfl rfl
theorem m_719 : (Jvm.Cond.instanceMethod ({ cls := "WallDamp$Cell", name := "endHour", desc := "()V" } : Jvm.MethodName)) ∈ x_tb := x_m3 239 rfl rfl
theorem m_720 : (Jvm.Cond.selects "WallDamp$Cell" ({ cls := "WallDamp$Cell", name := "endHour", desc := "()V" } : Jvm.MethodName) ({ cls := "WallDamp$Cell", name := "endHour", desc := "()V" } : Jvm.MethodName)) ∈ x_tb := x_m4 0 rfl rfl
theorem m_721 : (Jvm.Cond.code ({ cls := "WallDamp$Cell", name := "endHour", desc := "()V" } : Jvm.MethodName) prog_3_method_8_code (2 : Nat) (Option.none : Option Jvm.ClassFile.FieldType)) ∈ x_tb := x_m4 1 rfl rfl
theorem m_722 : (Jvm.Cond.methodLink "WallDamp$Cell" (63 : Nat) ({ cls := "java/lang/Math", name := "max", desc := "(II)I" } : Jvm.MethodName)) ∈ x_tb := x_m4 2 rfl rfl
theorem m_723 : (Jvm.Cond.methodLink "WallDamp" (248 : Nat) ({ cls := "WallDamp", name := "growMould", desc := "()V" } : Jvm.MethodName)) ∈ x_tb := x_m4 3 rfl rfl
theorem m_725 : (Jvm.Cond.instanceMethod ({ cls := "WallDamp", name := "growMould", desc := "()V" } : Jvm.MethodName)) ∈ x_tb := x_m4 5 rfl rfl
theorem m_726 : (Jvm.Cond.code ({ cls := "WallDamp", name := "growMould", desc := "()V" } : Jvm.MethodName) prog_1_method_25_code (3 : Nat) (Option.none : Option Jvm.ClassFile.FieldType)) ∈ x_tb := x_m4 6 rfl rfl
theorem m_727 : (Jvm.Cond.methodLink "WallDamp" (251 : Nat) ({ cls := "WallDamp$Wall", name := "lastCell", desc := "()LWallDamp$Cell;" } : Jvm.MethodName)) ∈ x_tb := x_m4 7 rfl rfl
theorem m_728 : (Jvm.Cond.methodLink "WallDamp" (178 : Nat) ({ cls := "WallDamp$Cell", name := "dampOfHeld", desc := "()I" } : Jvm.MethodName)) ∈ x_tb := x_m4 8 rfl rfl
theorem m_729 : (Jvm.Cond.methodLink "WallDamp" (255 : Nat) ({ cls := "WallDamp$MouldRows", name := "firstThatFits", desc := "(II)I" } : Jvm.MethodName)) ∈ x_tb := x_m4 9 rfl rfl
theorem m_730 : (Jvm.Cond.instanceMethod ({ cls := "WallDamp$MouldRows", name := "firstThatFits", desc := "(II)I" } : Jvm.MethodName)) ∈ x_tb := x_m4 10 rfl rfl
theorem m_731 : (Jvm.Cond.selects "WallDamp$MouldRows" ({ cls := "WallDamp$MouldRows", name := "firstThatFits", desc := "(II)I" } : Jvm.MethodName) ({ cls := "WallDamp$MouldRows", name := "firstThatFits", desc := "(II)I" } : Jvm.MethodName)) ∈ x_tb := x_m4 11 rfl rfl
theorem m_732 : (Jvm.Cond.code ({ cls := "WallDamp$MouldRows", name := "firstThatFits", desc := "(II)I" } : Jvm.MethodName) prog_7_method_4_code (4 : Nat) (Option.some Jvm.ClassFile.FieldType.int)) ∈ x_tb := x_m4 12 rfl rfl
theorem m_733 : (Jvm.Cond.methodLink "WallDampLaw" (126 : Nat) ({ cls := "WallDampLaw", name := "told", desc := "(LWallDamp;II[J)I" } : Jvm.MethodName)) ∈ x_tb := x_m4 13 rfl rfl
theorem m_734 : (Jvm.Cond.static ({ cls := "WallDampLaw", name := "told", desc := "(LWallDamp;II[J)I" } : Jvm.MethodName)) ∈ x_tb := x_m4 14 rfl rfl
theorem m_735 : (Jvm.Cond.codeWith ({ cls := "WallDampLaw", name := "told", desc := "(LWallDamp;II[J)I" } : Jvm.MethodName) method_15_code (5 : Nat) (Option.some Jvm.ClassFile.FieldType.int) [((0 : Nat), (10 : Nat), (13 : Nat), (13 : Nat))]) ∈ x_tb := x_m4 15 rfl rfl
theorem m_736 : (Jvm.Cond.methodLink "WallDampLaw" (57 : Nat) ({ cls := "WallDamp", name := "told", desc := "(II)I" } : Jvm.MethodName)) ∈ x_tb := x_m4 16 rfl rfl
theorem m_737 : (Jvm.Cond.instanceMethod ({ cls := "WallDamp", name := "told", desc := "(II)I" } : Jvm.MethodName)) ∈ x_tb := x_m4 17 rfl rfl
theorem m_738 : (Jvm.Cond.selects "WallDamp" ({ cls := "WallDamp", name := "told", desc := "(II)I" } : Jvm.MethodName) ({ cls := "WallDamp", name := "told", desc := "(II)I" } : Jvm.MethodName)) ∈ x_tb := x_m4 18 rfl rfl
theorem m_739 : (Jvm.Cond.code ({ cls := "WallDamp", name := "told", desc := "(II)I" } : Jvm.MethodName) prog_1_method_14_code (4 : Nat) (Option.some Jvm.ClassFile.FieldType.int)) ∈ x_tb := x_m4 19 rfl rfl
theorem m_740 : (Jvm.Cond.methodLink "WallDampLaw" (129 : Nat) ({ cls := "WallDampLaw", name := "balance", desc := "(LWallDamp;I[J)I" } : Jvm.MethodName)) ∈ x_tb := x_m4 20 rfl rfl
theorem m_741 : (Jvm.Cond.static ({ cls := "WallDampLaw", name := "balance", desc := "(LWallDamp;I[J)I" } : Jvm.MethodName)) ∈ x_tb := x_m4 21 rfl rfl
theorem m_742 : (Jvm.Cond.codeWith ({ cls := "WallDampLaw", name := "balance", desc := "(LWallDamp;I[J)I" } : Jvm.MethodName) method_16_code (4 : Nat) (Option.some Jvm.ClassFile.FieldType.int) [((0 : Nat), (8 : Nat), (11 : Nat), (13 : Nat))]) ∈ x_tb := x_m4 22 rfl rfl
theorem m_743 : (Jvm.Cond.methodLink "WallDampLaw" (60 : Nat) ({ cls := "WallDamp", name := "balance", desc := "(I)J" } : Jvm.MethodName)) ∈ x_tb := x_m4 23 rfl rfl
theorem m_744 : (Jvm.Cond.instanceMethod ({ cls := "WallDamp", name := "balance", desc := "(I)J" } : Jvm.MethodName)) ∈ x_tb := x_m4 24 rfl rfl
theorem m_745 : (Jvm.Cond.selects "WallDamp" ({ cls := "WallDamp", name := "balance", desc := "(I)J" } : Jvm.MethodName) ({ cls := "WallDamp", name := "balance", desc := "(I)J" } : Jvm.MethodName)) ∈ x_tb := x_m4 25 rfl rfl
theorem m_746 : (Jvm.Cond.code ({ cls := "WallDamp", name := "balance", desc := "(I)J" } : Jvm.MethodName) prog_1_method_15_code (2 : Nat) (Option.some Jvm.ClassFile.FieldType.long)) ∈ x_tb := x_m4 26 rfl rfl
theorem m_747 : (Jvm.Cond.methodLink "WallDamp" (194 : Nat) ({ cls := "WallDamp$Wall", name := "allWater", desc := "()J" } : Jvm.MethodName)) ∈ x_tb := x_m4 27 rfl rfl
theorem m_748 : (Jvm.Cond.instanceMethod ({ cls := "WallDamp$Wall", name := "allWater", desc := "()J" } : Jvm.MethodName)) ∈ x_tb := x_m4 28 rfl rfl
theorem m_749 : (Jvm.Cond.selects "WallDamp$Wall" ({ cls := "WallDamp$Wall", name := "allWater", desc := "()J" } : Jvm.MethodName) ({ cls := "WallDamp$Wall", name := "allWater", desc := "()J" } : Jvm.MethodName)) ∈ x_tb := x_m4 29 rfl rfl
theorem m_750 : (Jvm.Cond.code ({ cls := "WallDamp$Wall", name := "allWater", desc := "()J" } : Jvm.MethodName) prog_11_method_3_code (7 : Nat) (Option.some Jvm.ClassFile.FieldType.long)) ∈ x_tb := x_m4 30 rfl rfl
theorem m_751 : (Jvm.Cond.methodLink "WallDampLaw" (136 : Nat) ({ cls := "WallDampLaw", name := "order", desc := "(LWallDamp;II[J)I" } : Jvm.MethodName)) ∈ x_tb := x_m4 31 rfl rfl
theorem m_752 : (Jvm.Cond.static ({ cls := "WallDampLaw", name := "order", desc := "(LWallDamp;II[J)I" } : Jvm.MethodName)) ∈ x_tb := x_m4 32 rfl rfl
theorem m_753 : (Jvm.Cond.codeWith ({ cls := "WallDampLaw", name := "order", desc := "(LWallDamp;II[J)I" } : Jvm.MethodName) method_17_code (5 : Nat) (Option.some Jvm.ClassFile.FieldType.int) [((0 : Nat), (10 : Nat), (13 : Nat), (13 : Nat)), ((0 : Nat), (10 : Nat), (17 : Nat), (15 : Nat))]) ∈ x_tb := x_m4 33 rfl rfl
theorem m_754 : (Jvm.Cond.methodLink "WallDampLaw" (64 : Nat) ({ cls := "WallDamp", name := "order", desc := "(II)I" } : Jvm.MethodName)) ∈ x_tb := x_m4 34 rfl rfl
theorem m_755 : (Jvm.Cond.instanceMethod ({ cls := "WallDamp", name := "order", desc := "(II)I" } : Jvm.MethodName)) ∈ x_tb := x_m4 35 rfl rfl
theorem m_756 : (Jvm.Cond.selects "WallDamp" ({ cls := "WallDamp", name := "order", desc := "(II)I" } : Jvm.MethodName) ({ cls := "WallDamp", name := "order", desc := "(II)I" } : Jvm.MethodName)) ∈ x_tb := x_m4 36 rfl rfl
theorem m_757 : (Jvm.Cond.code ({ cls := "WallDamp", name := "order", desc := "(II)I" } : Jvm.MethodName) prog_1_method_17_code (3 : Nat) (Option.some Jvm.ClassFile.FieldType.int)) ∈ x_tb := x_m4 37 rfl rfl
theorem m_759 : (Jvm.Cond.methodLink "WallDamp" (219 : Nat) ({ cls := "WallDamp$Trials", name := "findDriest", desc := "(LWallDamp$Wall;LWallDamp$Surroundings;I)V" } : Jvm.MethodName)) ∈ x_tb := x_m4 39 rfl rfl
theorem m_760 : (Jvm.Cond.instanceMethod ({ cls := "WallDamp$Trials", name := "findDriest", desc := "(LWallDamp$Wall;LWallDamp$Surroundings;I)V" } : Jvm.MethodName)) ∈ x_tb := x_m4 40 rfl rfl
theorem m_761 : (Jvm.Cond.selects "WallDamp$Trials" ({ cls := "WallDamp$Trials", name := "findDriest", desc := "(LWallDamp$Wall;LWallDamp$Surroundings;I)V" } : Jvm.MethodName) ({ cls := "WallDamp$Trials", name := "findDriest", desc := "(LWallDamp$Wall;LWallDamp$Surroundings;I)V" } : Jvm.MethodName)) ∈ x_tb := x_m4 41 rfl rfl
theorem m_762 : (Jvm.Cond.code ({ cls := "WallDamp$Trials", name := "findDriest", desc := "(LWallDamp$Wall;LWallDamp$Surroundings;I)V" } : Jvm.MethodName) prog_10_method_2_code (11 : Nat) (Option.none : Option Jvm.ClassFile.FieldType)) ∈ x_tb := x_m4 42 rfl rfl
theorem m_763 : (Jvm.Cond.methodLink "WallDamp$Trials" (28 : Nat) ({ cls := "java/lang/Math", name := "min", desc := "(II)I" } : Jvm.MethodName)) ∈ x_tb := x_m4 43 rfl rfl
theorem m_764 : (Jvm.Cond.constantLong "WallDamp$Trials" (34 : Nat) (1000000000000 : Int64)) ∈ x_tb := x_m4 44 rfl rfl
theorem m_765 : (Jvm.Cond.methodLink "WallDamp$Trials" (36 : Nat) ({ cls := "WallDamp$Trials", name := "waterBehind", desc := "(LWallDamp$Wall;LWallDamp$Surroundings;I)J" } : Jvm.MethodName)) ∈ x_tb := x_m4 45 rfl rfl
theorem m_767 : (Jvm.Cond.instanceMethod ({ cls := "WallDamp$Trials", name := "waterBehind", desc := "(LWallDamp$Wall;LWallDamp$Surroundings;I)J" } : Jvm.MethodName)) ∈ x_tb := x_m4 47 rfl rfl
theorem m_768 : (Jvm.Cond.code ({ cls := "WallDamp$Trials", name := "waterBehind", desc := "(LWallDamp$Wall;LWallDamp$Surroundings;I)J" } : Jvm.MethodName) prog_10_method_4_code (6 : Nat) (Option.some Jvm.ClassFile.FieldType.long)) ∈ x_tb := x_m4 48 rfl rfl
theorem m_769 : (Jvm.Cond.methodLink "WallDamp$Trials" (48 : Nat) ({ cls := "WallDamp$Cell", name := "layDry", desc := "(LWallDamp$Cell;)V" } : Jvm.MethodName)) ∈ x_tb := x_m4 49 rfl rfl
theorem m_770 : (Jvm.Cond.instanceMethod ({ cls := "WallDamp$Cell", name := "layDry", desc := "(LWallDamp$Cell;)V" } : Jvm.MethodName)) ∈ x_tb := x_m4 50 rfl rfl
theorem m_771 : (Jvm.Cond.selects "WallDamp$Cell" ({ cls := "WallDamp$Cell", name := "layDry", desc := "(LWallDamp$Cell;)V" } : Jvm.MethodName) ({ cls := "WallDamp$Cell", name := "layDry", desc := "(LWallDamp$Cell;)V" } : Jvm.MethodName)) ∈ x_tb := x_m4 51 rfl rfl
theorem m_772 : (Jvm.Cond.code ({ cls := "WallDamp$Cell", name := "layDry", desc := "(LWallDamp$Cell;)V" } : Jvm.MethodName) prog_3_method_6_code (2 : Nat) (Option.none : Option Jvm.ClassFile.FieldType)) ∈ x_tb := x_m4 52 rfl rfl
theorem m_773 : (Jvm.Cond.methodLink "WallDamp$Trials" (54 : Nat) ({ cls := "WallDamp$Wall", name := "moveWater", desc := "(LWallDamp$Surroundings;I)V" } : Jvm.MethodName)) ∈ x_tb := x_m4 53 rfl rfl
theorem m_774 : (Jvm.Cond.methodLink "WallDamp$Trials" (58 : Nat) ({ cls := "WallDamp$Wall", name := "allWater", desc := "()J" } : Jvm.MethodName)) ∈ x_tb := x_m4 54 rfl rfl
theorem m_775 : (Jvm.Cond.methodLink "WallDamp$Trials" (40 : Nat) ({ cls := "WallDamp$Trials", name := "keepRow", desc := "(I)V" } : Jvm.MethodName)) ∈ x_tb := x_m4 55 rfl rfl
theorem m_777 : (Jvm.Cond.instanceMethod ({ cls := "WallDamp$Trials", name := "keepRow", desc := "(I)V" } : Jvm.MethodName)) ∈ x_tb := x_m4 57 rfl rfl
theorem m_778 : (Jvm.Cond.code ({ cls := "WallDamp$Trials", name := "keepRow", desc := "(I)V" } : Jvm.MethodName) prog_10_method_3_code (3 : Nat) (Option.none : Option Jvm.ClassFile.FieldType)) ∈ x_tb := x_m4 58 rfl rfl
theorem m_779 : (Jvm.Cond.methodLink "WallDamp$Trials" (44 : Nat) ({ cls := "WallDamp$Trials", name := "stepRow", desc := "(I)Z" } : Jvm.MethodName)) ∈ x_tb := x_m4 59 rfl rfl
theorem m_781 : (Jvm.Cond.instanceMethod ({ cls := "WallDamp$Trials", name := "stepRow", desc := "(I)Z" } : Jvm.MethodName)) ∈ x_tb := x_m4 61 rfl rfl
theorem m_782 : (Jvm.Cond.code ({ cls := "WallDamp$Trials", name := "stepRow", desc := "(I)Z" } : Jvm.MethodName) prog_10_method_5_code (5 : Nat) (Option.some Jvm.ClassFile.FieldType.boolean)) ∈ x_tb := x_m4 62 rfl rfl
theorem m_783 : (Jvm.Cond.methodLink "WallDamp$Trials" (62 : Nat) ({ cls := "WallDamp$Trials", name := "swap", desc := "(II)V" } : Jvm.MethodName)) ∈ x_tb := x_m4 63 rfl rfl
theorem m_785 : (Jvm.Cond.instanceMethod ({ cls := "WallDamp$Trials", name := "swap", desc := "(II)V" } : Jvm.MethodName)) ∈ x_tb := x_m4 65 rfl rfl
theorem m_786 : (Jvm.Cond.code ({ cls := "WallDamp$Trials", name := "swap", desc := "(II)V" } : Jvm.MethodName) prog_10_method_6_code (4 : Nat) (Option.none : Option Jvm.ClassFile.FieldType)) ∈ x_tb := x_m4 66 rfl rfl
theorem m_787 : (Jvm.Cond.classLink "WallDampLaw" (75 : Nat) "WallDampModel") ∈ x_tb := x_m4 67 rfl rfl
theorem m_788 : (Jvm.Cond.instantiable "WallDampModel" (51 : Nat)) ∈ x_tb := x_m4 68 rfl rfl
theorem m_789 : (Jvm.Cond.methodLink "WallDampLaw" (77 : Nat) ({ cls := "WallDampModel", name := "<init>", desc := "(I)V" } : Jvm.MethodName)) ∈ x_tb := x_m4 69 rfl rfl
theorem m_790 : (Jvm.Cond.instanceMethod ({ cls := "WallDampModel", name := "<init>", desc := "(I)V" } : Jvm.MethodName)) ∈ x_tb := x_m4 70 rfl rfl
theorem m_791 : (Jvm.Cond.code ({ cls := "WallDampModel", name := "<init>", desc := "(I)V" } : Jvm.MethodName) prog_13_method_1_code (3 : Nat) (Option.none : Option Jvm.ClassFile.FieldType)) ∈ x_tb := x_m4 71 rfl rfl
theorem m_792 : (Jvm.Cond.methodLink "WallDampModel" (1 : Nat) ({ cls := "java/lang/Object", name := "<init>", desc := "()V" } : Jvm.MethodName)) ∈ x_tb := x_m4 72 rfl rfl
theorem m_793 : (Jvm.Cond.fieldLink "WallDampModel" (130 : Nat) "WallDampModel" "thrown" "I") ∈ x_tb := x_m4 73 rfl rfl
theorem m_794 : (Jvm.Cond.fieldLink "WallDampModel" (127 : Nat) "WallDampModel" "cells" "I") ∈ x_tb := x_m4 74 rfl rfl
theorem m_795 : (Jvm.Cond.fieldLink "WallDampModel" (7 : Nat) "WallDampModel" "corners" "[I") ∈ x_tb := x_m4 75 rfl rfl
theorem m_796 : (Jvm.Cond.fieldLink "WallDampModel" (13 : Nat) "WallDampModel" "held" "[I") ∈ x_tb := x_m4 76 rfl rfl
theorem m_797 : (Jvm.Cond.fieldLink "WallDampModel" (16 : Nat) "WallDampModel" "damps" "[I") ∈ x_tb := x_m4 77 rfl rfl
theorem m_798 : (Jvm.Cond.fieldLink "WallDampModel" (19 : Nat) "WallDampModel" "vapour" "[I") ∈ x_tb := x_m4 78 rfl rfl
theorem m_799 : (Jvm.Cond.fieldLink "WallDampModel" (22 : Nat) "WallDampModel" "liquid" "[I") ∈ x_tb := x_m4 79 rfl rfl
theorem m_800 : (Jvm.Cond.fieldLink "WallDampModel" (25 : Nat) "WallDampModel" "leads" "[I") ∈ x_tb := x_m4 80 rfl rfl
theorem m_801 : (Jvm.Cond.fieldLink "WallDampModel" (28 : Nat) "WallDampModel" "material" "[I") ∈ x_tb := x_m4 81 rfl rfl
theorem m_802 : (Jvm.Cond.fieldLink "WallDampModel" (31 : Nat) "WallDampModel" "thickness" "[I") ∈ x_tb := x_m4 82 rfl rfl
theorem m_803 : (Jvm.Cond.fieldLink "WallDampModel" (34 : Nat) "WallDampModel" "water" "[J") ∈ x_tb := x_m4 83 rfl rfl
theorem m_804 : (Jvm.Cond.fieldLink "WallDampModel" (38 : Nat) "WallDampModel" "leak" "[I") ∈ x_tb := x_m4 84 rfl rfl
theorem m_805 : (Jvm.Cond.fieldLink "WallDampModel" (41 : Nat) "WallDampModel" "warmth" "[I") ∈ x_tb := x_m4 85 rfl rfl
theorem m_806 : (Jvm.Cond.fieldLink "WallDampModel" (44 : Nat) "WallDampModel" "passes" "[I") ∈ x_tb := x_m4 86 rfl rfl
theorem m_807 : (Jvm.Cond.fieldLink "WallDampModel" (47 : Nat) "WallDampModel" "frozen" "[Z") ∈ x_tb := x_m4 87 rfl rfl
theorem m_808 : (Jvm.Cond.fieldLink "WallDampModel" (51 : Nat) "WallDampModel" "wettest" "[I") ∈ x_tb := x_m4 88 rfl rfl
theorem m_809 : (Jvm.Cond.fieldLink "WallDampModel" (164 : Nat) "WallDampModel" "tables" "I") ∈ x_tb := x_m4 89 rfl rfl
theorem m_810 : (Jvm.Cond.fieldLink "WallDampModel" (54 : Nat) "WallDampModel" "tableWarmth" "[I") ∈ x_tb := x_m4 90 rfl rfl
theorem m_811 : (Jvm.Cond.fieldLink "WallDampModel" (57 : Nat) "WallDampModel" "tablePressure" "[I") ∈ x_tb := x_m4 91 rfl rfl
theorem m_812 : (Jvm.Cond.fieldLink "WallDampModel" (60 : Nat) "WallDampModel" "outer" "I") ∈ x_tb := x_m4 92 rfl rfl
theorem m_813 : (Jvm.Cond.fieldLink "WallDampModel" (64 : Nat) "WallDampModel" "inner" "I") ∈ x_tb := x_m4 93 rfl rfl
theorem m_814 : (Jvm.Cond.fieldLink "WallDampModel" (67 : Nat) "WallDampModel" "outWarmth" "[I") ∈ x_tb := x_m4 94 rfl rfl
theorem m_815 : (Jvm.Cond.fieldLink "WallDampModel" (70 : Nat) "WallDampModel" "outDamp" "[I") ∈ x_tb := x_m4 95 rfl rfl
theorem m_816 : (Jvm.Cond.fieldLink "WallDampModel" (73 : Nat) "WallDampModel" "rain" "[I") ∈ x_tb := x_m4 96 rfl rfl
theorem m_817 : (Jvm.Cond.fieldLink "WallDampModel" (76 : Nat) "WallDampModel" "sun" "[I") ∈ x_tb := x_m4 97 rfl rfl
theorem m_818 : (Jvm.Cond.fieldLink "WallDampModel" (79 : Nat) "WallDampModel" "inWarmth" "[I") ∈ x_tb := x_m4 98 rfl rfl
theorem m_819 : (Jvm.Cond.fieldLink "WallDampModel" (82 : Nat) "WallDampModel" "inDamp" "[I") ∈ x_tb := x_m4 99 rfl rfl
theorem m_820 : (Jvm.Cond.fieldLink "WallDampModel" (174 : Nat) "WallDampModel" "growths" "I") ∈ x_tb := x_m4 100 rfl rfl
theorem m_821 : (Jvm.Cond.fieldLink "WallDampModel" (85 : Nat) "WallDampModel" "growDamp" "[I") ∈ x_tb := x_m4 101 rfl rfl
theorem m_822 : (Jvm.Cond.fieldLink "WallDampModel" (88 : Nat) "WallDampModel" "growFrom" "[I") ∈ x_tb := x_m4 102 rfl rfl
theorem m_823 : (Jvm.Cond.fieldLink "WallDampModel" (91 : Nat) "WallDampModel" "growTo" "[I") ∈ x_tb := x_m4 103 rfl rfl
theorem m_824 : (Jvm.Cond.fieldLink "WallDampModel" (94 : Nat) "WallDampModel" "growMore" "[I") ∈ x_tb := x_m4 104 rfl rfl
theorem m_825 : (Jvm.Cond.fieldLink "WallDampModel" (147 : Nat) "WallDampModel" "hours" "I") ∈ x_tb := x_m4 105 rfl rfl
theorem m_826 : (Jvm.Cond.fieldLink "WallDampModel" (219 : Nat) "WallDampModel" "mould" "I") ∈ x_tb := x_m4 106 rfl rfl
theorem m_827 : (Jvm.Cond.fieldLink "WallDampModel" (207 : Nat) "WallDampModel" "fromOutside" "J") ∈ x_tb := x_m4 107 rfl rfl
theorem m_828 : (Jvm.Cond.fieldLink "WallDampModel" (210 : Nat) "WallDampModel" "fromInside" "J") ∈ x_tb := x_m4 108 rfl rfl
theorem m_829 : (Jvm.Cond.fieldLink "WallDampModel" (213 : Nat) "WallDampModel" "wentOut" "J") ∈ x_tb := x_m4 109 rfl rfl
theorem m_830 : (Jvm.Cond.fieldLink "WallDampModel" (216 : Nat) "WallDampModel" "wentIn" "J") ∈ x_tb := x_m4 110 rfl rfl
theorem m_831 : (Jvm.Cond.fieldLink "WallDampModel" (156 : Nat) "WallDampModel" "start" "J") ∈ x_tb := x_m4 111 rfl rfl
theorem m_832 : (Jvm.Cond.fieldLink "WallDampModel" (97 : Nat) "WallDampModel" "pressure" "[J") ∈ x_tb := x_m4 112 rfl rfl
theorem m_833 : (Jvm.Cond.fieldLink "WallDampModel" (100 : Nat) "WallDampModel" "damp" "[I") ∈ x_tb := x_m4 113 rfl rfl
theorem m_834 : (Jvm.Cond.fieldLink "WallDampModel" (103 : Nat) "WallDampModel" "into" "[J") ∈ x_tb := x_m4 114 rfl rfl
theorem m_835 : (Jvm.Cond.fieldLink "WallDampModel" (192 : Nat) "WallDampModel" "outFlow" "J") ∈ x_tb := x_m4 115 rfl rfl
theorem m_836 : (Jvm.Cond.fieldLink "WallDampModel" (197 : Nat) "WallDampModel" "inFlow" "J") ∈ x_tb := x_m4 116 rfl rfl
theorem m_837 : (Jvm.Cond.fieldLink "WallDampModel" (106 : Nat) "WallDampModel" "keptMaterial" "[I") ∈ x_tb := x_m4 117 rfl rfl
theorem m_838 : (Jvm.Cond.fieldLink "WallDampModel" (109 : Nat) "WallDampModel" "keptThickness" "[I") ∈ x_tb := x_m4 118 rfl rfl
theorem m_839 : (Jvm.Cond.fieldLink "WallDampModel" (112 : Nat) "WallDampModel" "keptLeak" "[I") ∈ x_tb := x_m4 119 rfl rfl
theorem m_840 : (Jvm.Cond.fieldLink "WallDampModel" (115 : Nat) "WallDampModel" "row" "[I") ∈ x_tb := x_m4 120 rfl rfl
theorem m_841 : (Jvm.Cond.fieldLink "WallDampModel" (118 : Nat) "WallDampModel" "best" "[I") ∈ x_tb := x_m4 121 rfl rfl
theorem m_842 : (Jvm.Cond.fieldLink "WallDampModel" (121 : Nat) "WallDampModel" "used" "[Z") ∈ x_tb := x_m4 122 rfl rfl
theorem m_843 : (Jvm.Cond.fieldLink "WallDampModel" (124 : Nat) "WallDampModel" "saved" "[J") ∈ x_tb := x_m4 123 rfl rfl
theorem m_844 : (Jvm.Cond.lays "WallDampModel" "WallDampModel" "thrown" "I") ∈ x_tb := x_m4 124 rfl rfl
theorem m_846 : (Jvm.Cond.laysFinal "WallDampModel" "WallDampModel" "cells" "I") ∈ x_tb := x_m4 126 rfl rfl
theorem m_848 : (Jvm.Cond.laysFinal "WallDampModel" "WallDampModel" "corners" "[I") ∈ x_tb := x_m4 128 rfl rfl
theorem m_850 : (Jvm.Cond.laysFinal "WallDampModel" "WallDampModel" "held" "[I") ∈ x_tb := x_m4 130 rfl rfl
theorem m_852 : (Jvm.Cond.laysFinal "WallDampModel" "WallDampModel" "damps" "[I") ∈ x_tb := x_m4 132 rfl rfl
theorem m_854 : (Jvm.Cond.laysFinal "WallDampModel" "WallDampModel" "vapour" "[I") ∈ x_tb := x_m4 134 rfl rfl
theorem m_856 : (Jvm.Cond.laysFinal "WallDampModel" "WallDampModel" "liquid" "[I") ∈ x_tb := x_m4 136 rfl rfl
theorem m_858 : (Jvm.Cond.laysFinal "WallDampModel" "WallDampModel" "leads" "[I") ∈ x_tb := x_m4 138 rfl rfl
theorem m_860 : (Jvm.Cond.laysFinal "WallDampModel" "WallDampModel" "material" "[I") ∈ x_tb := x_m4 140 rfl rfl
theorem m_862 : (Jvm.Cond.laysFinal "WallDampModel" "WallDampModel" "thickness" "[I") ∈ x_tb := x_m4 142 rfl rfl
theorem m_864 : (Jvm.Cond.laysFinal "WallDampModel" "WallDampModel" "water" "[J") ∈ x_tb := x_m4 144 rfl rfl
theorem m_866 : (Jvm.Cond.laysFinal "WallDampModel" "WallDampModel" "leak" "[I") ∈ x_tb := x_m4 146 rfl rfl
theorem m_868 : (Jvm.Cond.laysFinal "WallDampModel" "WallDampModel" "warmth" "[I") ∈ x_tb := x_m4 148 rfl rfl
theorem m_870 : (Jvm.Cond.laysFinal "WallDampModel" "WallDampModel" "passes" "[I") ∈ x_tb := x_m4 150 rfl rfl
theorem m_872 : (Jvm.Cond.laysFinal "WallDampModel" "WallDampModel" "frozen" "[Z") ∈ x_tb := x_m4 152 rfl rfl
theorem m_874 : (Jvm.Cond.laysFinal "WallDampModel" "WallDampModel" "wettest" "[I") ∈ x_tb := x_m4 154 rfl rfl
theorem m_876 : (Jvm.Cond.lays "WallDampModel" "WallDampModel" "tables" "I") ∈ x_tb := x_m4 156 rfl rfl
theorem m_878 : (Jvm.Cond.laysFinal "WallDampModel" "WallDampModel" "tableWarmth" "[I") ∈ x_tb := x_m4 158 rfl rfl
theorem m_880 : (Jvm.Cond.laysFinal "WallDampModel" "WallDampModel" "tablePressure" "[I") ∈ x_tb := x_m4 160 rfl rfl
theorem m_882 : (Jvm.Cond.lays "WallDampModel" "WallDampModel" "outer" "I") ∈ x_tb := x_m4 162 rfl rfl
theorem m_884 : (Jvm.Cond.lays "WallDampModel" "WallDampModel" "inner" "I") ∈ x_tb := x_m4 164 rfl rfl
theorem m_886 : (Jvm.Cond.laysFinal "WallDampModel" "WallDampModel" "outWarmth" "[I") ∈ x_tb := x_m4 166 rfl rfl
theorem m_888 : (Jvm.Cond.laysFinal "WallDampModel" "WallDampModel" "outDamp" "[I") ∈ x_tb := x_m4 168 rfl rfl
theorem m_890 : (Jvm.Cond.laysFinal "WallDampModel" "WallDampModel" "rain" "[I") ∈ x_tb := x_m4 170 rfl rfl
theorem m_892 : (Jvm.Cond.laysFinal "WallDampModel" "WallDampModel" "sun" "[I") ∈ x_tb := x_m4 172 rfl rfl
theorem m_894 : (Jvm.Cond.laysFinal "WallDampModel" "WallDampModel" "inWarmth" "[I") ∈ x_tb := x_m4 174 rfl rfl
theorem m_896 : (Jvm.Cond.laysFinal "WallDampModel" "WallDampModel" "inDamp" "[I") ∈ x_tb := x_m4 176 rfl rfl
theorem m_898 : (Jvm.Cond.lays "WallDampModel" "WallDampModel" "growths" "I") ∈ x_tb := x_m4 178 rfl rfl
theorem m_900 : (Jvm.Cond.laysFinal "WallDampModel" "WallDampModel" "growDamp" "[I") ∈ x_tb := x_m4 180 rfl rfl
theorem m_902 : (Jvm.Cond.laysFinal "WallDampModel" "WallDampModel" "growFrom" "[I") ∈ x_tb := x_m4 182 rfl rfl
theorem m_904 : (Jvm.Cond.laysFinal "WallDampModel" "WallDampModel" "growTo" "[I") ∈ x_tb := x_m4 184 rfl rfl
theorem m_906 : (Jvm.Cond.laysFinal "WallDampModel" "WallDampModel" "growMore" "[I") ∈ x_tb := x_m4 186 rfl rfl
theorem m_908 : (Jvm.Cond.lays "WallDampModel" "WallDampModel" "hours" "I") ∈ x_tb := x_m4 188 rfl rfl
theorem m_910 : (Jvm.Cond.lays "WallDampModel" "WallDampModel" "mould" "I") ∈ x_tb := x_m4 190 rfl rfl
theorem m_912 : (Jvm.Cond.lays "WallDampModel" "WallDampModel" "fromOutside" "J") ∈ x_tb := x_m4 192 rfl rfl
theorem m_914 : (Jvm.Cond.lays "WallDampModel" "WallDampModel" "fromInside" "J") ∈ x_tb := x_m4 194 rfl rfl
theorem m_916 : (Jvm.Cond.lays "WallDampModel" "WallDampModel" "wentOut" "J") ∈ x_tb := x_m4 196 rfl rfl
theorem m_918 : (Jvm.Cond.lays "WallDampModel" "WallDampModel" "wentIn" "J") ∈ x_tb := x_m4 198 rfl rfl
theorem m_920 : (Jvm.Cond.lays "WallDampModel" "WallDampModel" "start" "J") ∈ x_tb := x_m4 200 rfl rfl
theorem m_922 : (Jvm.Cond.laysFinal "WallDampModel" "WallDampModel" "pressure" "[J") ∈ x_tb := x_m4 202 rfl rfl
theorem m_924 : (Jvm.Cond.laysFinal "WallDampModel" "WallDampModel" "damp" "[I") ∈ x_tb := x_m4 204 rfl rfl
theorem m_926 : (Jvm.Cond.laysFinal "WallDampModel" "WallDampModel" "into" "[J") ∈ x_tb := x_m4 206 rfl rfl
theorem m_928 : (Jvm.Cond.lays "WallDampModel" "WallDampModel" "outFlow" "J") ∈ x_tb := x_m4 208 rfl rfl
theorem m_930 : (Jvm.Cond.lays "WallDampModel" "WallDampModel" "inFlow" "J") ∈ x_tb := x_m4 210 rfl rfl
theorem m_932 : (Jvm.Cond.laysFinal "WallDampModel" "WallDampModel" "keptMaterial" "[I") ∈ x_tb := x_m4 212 rfl rfl
theorem m_934 : (Jvm.Cond.laysFinal "WallDampModel" "WallDampModel" "keptThickness" "[I") ∈ x_tb := x_m4 214 rfl rfl
theorem m_936 : (Jvm.Cond.laysFinal "WallDampModel" "WallDampModel" "keptLeak" "[I") ∈ x_tb := x_m4 216 rfl rfl
theorem m_938 : (Jvm.Cond.laysFinal "WallDampModel" "WallDampModel" "row" "[I") ∈ x_tb := x_m4 218 rfl rfl
theorem m_940 : (Jvm.Cond.laysFinal "WallDampModel" "WallDampModel" "best" "[I") ∈ x_tb := x_m4 220 rfl rfl
theorem m_942 : (Jvm.Cond.laysFinal "WallDampModel" "WallDampModel" "used" "[Z") ∈ x_tb := x_m4 222 rfl rfl
theorem m_944 : (Jvm.Cond.laysFinal "WallDampModel" "WallDampModel" "saved" "[J") ∈ x_tb := x_m4 224 rfl rfl
theorem m_947 : (Jvm.Cond.arrayClass Jvm.ClassFile.FieldType.long) ∈ x_tb := x_m4 227 rfl rfl
theorem m_948 : (Jvm.Cond.arrayClass Jvm.ClassFile.FieldType.boolean) ∈ x_tb := x_m4 228 rfl rfl
theorem m_949 : (Jvm.Cond.methodLink "WallDampLaw" (82 : Nat) ({ cls := "WallDampModel", name := "thrown", desc := "()I" } : Jvm.MethodName)) ∈ x_tb := x_m4 229 rfl rfl
theorem m_950 : (Jvm.Cond.instanceMethod ({ cls := "WallDampModel", name := "thrown", desc := "()I" } : Jvm.MethodName)) ∈ x_tb := x_m4 230 rfl rfl
theorem m_951 : (Jvm.Cond.selects "WallDampModel" ({ cls := "WallDampModel", name := "thrown", desc := "()I" } : Jvm.MethodName) ({ cls := "WallDampModel", name := "thrown", desc := "()I" } : Jvm.MethodName)) ∈ x_tb := x_m4 231 rfl rfl
theorem m_952 : (Jvm.Cond.code ({ cls := "WallDampModel", name := "thrown", desc := "()I" } : Jvm.MethodName) prog_13_method_2_code (1 : Nat) (Option.some Jvm.ClassFile.FieldType.int)) ∈ x_tb := x_m4 232 rfl rfl
theorem m_953 : (Jvm.Cond.methodLink "WallDampLaw" (81 : Nat) ({ cls := "WallDampModel", name := "curve", desc := "(III)I" } : Jvm.MethodName)) ∈ x_tb := x_m4 233 rfl rfl
theorem m_954 : (Jvm.Cond.instanceMethod ({ cls := "WallDampModel", name := "curve", desc := "(III)I" } : Jvm.MethodName)) ∈ x_tb := x_m4 234 rfl rfl
theorem m_955 : (Jvm.Cond.selects "WallDampModel" ({ cls := "WallDampModel", name := "curve", desc := "(III)I" } : Jvm.MethodName) ({ cls := "WallDampModel", name := "curve", desc := "(III)I" } : Jvm.MethodName)) ∈ x_tb := x_m4 235 rfl rfl
theorem m_956 : (Jvm.Cond.code ({ cls := "WallDampModel", name := "curve", desc := "(III)I" } : Jvm.MethodName) prog_13_method_7_code (5 : Nat) (Option.some Jvm.ClassFile.FieldType.int)) ∈ x_tb := x_m4 236 rfl rfl
theorem m_957 : (Jvm.Cond.constantLong "WallDampModel" (137 : Nat) (5 : Int64)) ∈ x_tb := x_m4 237 rfl rfl
theorem m_958 : (Jvm.Cond.methodLink "WallDampModel" (133 : Nat) ({ cls := "WallDampModel", name := "in", desc := "(JJJ)Z" } : Jvm.MethodName)) ∈ x_tb := x_m4 238 rfl rfl
theorem m_959 : (Jvm.Cond.static ({ cls := "WallDampModel", name := "in", desc := "(JJJ)Z" } : Jvm.MethodName)) ∈ x_tb := x_m4 239 rfl rfl
theorem m_960 : (Jvm.Cond.code ({ cls := "WallDampModel", name := "in", desc := "(JJJ)Z" } : Jvm.MethodName) prog_13_method_3_code (6 : Nat) (Option.some Jvm.ClassFile.FieldType.boolean)) ∈ x_tb := x_m5 0 rfl rfl
theorem m_961 : (Jvm.Cond.constantLong "WallDampModel" (139 : Nat) (1000000 : Int64)) ∈ x_tb := x_m5 1 rfl rfl
theorem m_962 : (Jvm.Cond.constantLong "WallDampModel" (141 : Nat) (10000 : Int64)) ∈ x_tb := x_m5 2 rfl rfl
theorem m_963 : (Jvm.Cond.methodLink "WallDampModel" (143 : Nat) ({ cls := "WallDampModel", name := "most", desc := "(I)I" } : Jvm.MethodName)) ∈ x_tb := x_m5 3 rfl rfl
theorem m_965 : (Jvm.Cond.instanceMethod ({ cls := "WallDampModel", name := "most", desc := "(I)I" } : Jvm.MethodName)) ∈ x_tb := x_m5 5 rfl rfl
theorem m_966 : (Jvm.Cond.code ({ cls := "WallDampModel", name := "most", desc := "(I)I" } : Jvm.MethodName) prog_13_method_6_code (2 : Nat) (Option.some Jvm.ClassFile.FieldType.int)) ∈ x_tb := x_m5 6 rfl rfl
theorem m_967 : (Jvm.Cond.methodLink "WallDampLaw" (89 : Nat) ({ cls := "WallDampModel", name := "rates", desc := "(IIII)V" } : Jvm.MethodName)) ∈ x_tb := x_m5 7 rfl rfl
theorem m_968 : (Jvm.Cond.instanceMethod ({ cls := "WallDampModel", name := "rates", desc := "(IIII)V" } : Jvm.MethodName)) ∈ x_tb := x_m5 8 rfl rfl
theorem m_969 : (Jvm.Cond.selects "WallDampModel" ({ cls := "WallDampModel", name := "rates", desc := "(IIII)V" } : Jvm.MethodName) ({ cls := "WallDampModel", name := "rates", desc := "(IIII)V" } : Jvm.MethodName)) ∈ x_tb := x_m5 9 rfl rfl
theorem m_970 : (Jvm.Cond.code ({ cls := "WallDampModel", name := "rates", desc := "(IIII)V" } : Jvm.MethodName) prog_13_method_8_code (5 : Nat) (Option.none : Option Jvm.ClassFile.FieldType)) ∈ x_tb := x_m5 10 rfl rfl
theorem m_971 : (Jvm.Cond.constantLong "WallDampModel" (150 : Nat) (1000 : Int64)) ∈ x_tb := x_m5 11 rfl rfl
theorem m_972 : (Jvm.Cond.methodLink "WallDampLaw" (93 : Nat) ({ cls := "WallDampModel", name := "cell", desc := "(III)V" } : Jvm.MethodName)) ∈ x_tb := x_m5 12 rfl rfl
theorem m_973 : (Jvm.Cond.instanceMethod ({ cls := "WallDampModel", name := "cell", desc := "(III)V" } : Jvm.MethodName)) ∈ x_tb := x_m5 13 rfl rfl
theorem m_974 : (Jvm.Cond.selects "WallDampModel" ({ cls := "WallDampModel", name := "cell", desc := "(III)V" } : Jvm.MethodName) ({ cls := "WallDampModel", name := "cell", desc := "(III)V" } : Jvm.MethodName)) ∈ x_tb := x_m5 14 rfl rfl
theorem m_975 : (Jvm.Cond.code ({ cls := "WallDampModel", name := "cell", desc := "(III)V" } : Jvm.MethodName) prog_13_method_9_code (4 : Nat) (Option.none : Option Jvm.ClassFile.FieldType)) ∈ x_tb := x_m5 15 rfl rfl
theorem m_976 : (Jvm.Cond.methodLink "WallDampModel" (152 : Nat) ({ cls := "WallDampModel", name := "isCell", desc := "(I)Z" } : Jvm.MethodName)) ∈ x_tb := x_m5 16 rfl rfl
theorem m_978 : (Jvm.Cond.instanceMethod ({ cls := "WallDampModel", name := "isCell", desc := "(I)Z" } : Jvm.MethodName)) ∈ x_tb := x_m5 18 rfl rfl
theorem m_979 : (Jvm.Cond.code ({ cls := "WallDampModel", name := "isCell", desc := "(I)Z" } : Jvm.MethodName) prog_13_method_4_code (2 : Nat) (Option.some Jvm.ClassFile.FieldType.boolean)) ∈ x_tb := x_m5 19 rfl rfl
theorem m_980 : (Jvm.Cond.methodLink "WallDampLaw" (97 : Nat) ({ cls := "WallDampModel", name := "table", desc := "(II)I" } : Jvm.MethodName)) ∈ x_tb := x_m5 20 rfl rfl
theorem m_981 : (Jvm.Cond.instanceMethod ({ cls := "WallDampModel", name := "table", desc := "(II)I" } : Jvm.MethodName)) ∈ x_tb := x_m5 21 rfl rfl
theorem m_982 : (Jvm.Cond.selects "WallDampModel" ({ cls := "WallDampModel", name := "table", desc := "(II)I" } : Jvm.MethodName) ({ cls := "WallDampModel", name := "table", desc := "(II)I" } : Jvm.MethodName)) ∈ x_tb := x_m5 22 rfl rfl
theorem m_983 : (Jvm.Cond.code ({ cls := "WallDampModel", name := "table", desc := "(II)I" } : Jvm.MethodName) prog_13_method_10_code (4 : Nat) (Option.some Jvm.ClassFile.FieldType.int)) ∈ x_tb := x_m5 23 rfl rfl
theorem m_984 : (Jvm.Cond.constantLong "WallDampModel" (160 : Nat) (-5000 : Int64)) ∈ x_tb := x_m5 24 rfl rfl
theorem m_985 : (Jvm.Cond.constantLong "WallDampModel" (162 : Nat) (100000 : Int64)) ∈ x_tb := x_m5 25 rfl rfl
theorem m_986 : (Jvm.Cond.methodLink "WallDampLaw" (101 : Nat) ({ cls := "WallDampModel", name := "full", desc := "(I)I" } : Jvm.MethodName)) ∈ x_tb := x_m5 26 rfl rfl
theorem m_987 : (Jvm.Cond.instanceMethod ({ cls := "WallDampModel", name := "full", desc := "(I)I" } : Jvm.MethodName)) ∈ x_tb := x_m5 27 rfl rfl
theorem m_988 : (Jvm.Cond.selects "WallDampModel" ({ cls := "WallDampModel", name := "full", desc := "(I)I" } : Jvm.MethodName) ({ cls := "WallDampModel", name := "full", desc := "(I)I" } : Jvm.MethodName)) ∈ x_tb := x_m5 28 rfl rfl
theorem m_989 : (Jvm.Cond.code ({ cls := "WallDampModel", name := "full", desc := "(I)I" } : Jvm.MethodName) prog_13_method_12_code (2 : Nat) (Option.some Jvm.ClassFile.FieldType.int)) ∈ x_tb := x_m5 29 rfl rfl
theorem m_990 : (Jvm.Cond.methodLink "WallDampModel" (167 : Nat) ({ cls := "WallDampModel", name := "fullAt", desc := "(I)I" } : Jvm.MethodName)) ∈ x_tb := x_m5 30 rfl rfl
theorem m_992 : (Jvm.Cond.instanceMethod ({ cls := "WallDampModel", name := "fullAt", desc := "(I)I" } : Jvm.MethodName)) ∈ x_tb := x_m5 32 rfl rfl
theorem m_993 : (Jvm.Cond.code ({ cls := "WallDampModel", name := "fullAt", desc := "(I)I" } : Jvm.MethodName) prog_13_method_11_code (5 : Nat) (Option.some Jvm.ClassFile.FieldType.int)) ∈ x_tb := x_m5 33 rfl rfl
theorem m_994 : (Jvm.Cond.methodLink "WallDampLaw" (105 : Nat) ({ cls := "WallDampModel", name := "films", desc := "(II)V" } : Jvm.MethodName)) ∈ x_tb := x_m5 34 rfl rfl
theorem m_995 : (Jvm.Cond.instanceMethod ({ cls := "WallDampModel", name := "films", desc := "(II)V" } : Jvm.MethodName)) ∈ x_tb := x_m5 35 rfl rfl
theorem m_996 : (Jvm.Cond.selects "WallDampModel" ({ cls := "WallDampModel", name := "films", desc := "(II)V" } : Jvm.MethodName) ({ cls := "WallDampModel", name := "films", desc := "(II)V" } : Jvm.MethodName)) ∈ x_tb := x_m5 36 rfl rfl
theorem m_997 : (Jvm.Cond.code ({ cls := "WallDampModel", name := "films", desc := "(II)V" } : Jvm.MethodName) prog_13_method_13_code (3 : Nat) (Option.none : Option Jvm.ClassFile.FieldType)) ∈ x_tb := x_m5 37 rfl rfl
theorem m_998 : (Jvm.Cond.methodLink "WallDampLaw" (109 : Nat) ({ cls := "WallDampModel", name := "outside", desc := "(IIIII)V" } : Jvm.MethodName)) ∈ x_tb := x_m5 38 rfl rfl
theorem m_999 : (Jvm.Cond.instanceMethod ({ cls := "WallDampModel", name := "outside", desc := "(IIIII)V" } : Jvm.MethodName)) ∈ x_tb := x_m5 39 rfl rfl
theorem m_1000 : (Jvm.Cond.selects "WallDampModel" ({ cls := "WallDampModel", name := "outside", desc := "(IIIII)V" } : Jvm.MethodName) ({ cls := "WallDampModel", name := "outside", desc := "(IIIII)V" } : Jvm.MethodName)) ∈ x_tb := x_m5 40 rfl rfl
theorem m_1001 : (Jvm.Cond.code ({ cls := "WallDampModel", name := "outside", desc := "(IIIII)V" } : Jvm.MethodName) prog_13_method_14_code (6 : Nat) (Option.none : Option Jvm.ClassFile.FieldType)) ∈ x_tb := x_m5 41 rfl rfl
theorem m_1002 : (Jvm.Cond.constantLong "WallDampModel" (170 : Nat) (23 : Int64)) ∈ x_tb := x_m5 42 rfl rfl
theorem m_1003 : (Jvm.Cond.constantLong "WallDampModel" (172 : Nat) (5000 : Int64)) ∈ x_tb := x_m5 43 rfl rfl
theorem m_1004 : (Jvm.Cond.methodLink "WallDampLaw" (112 : Nat) ({ cls := "WallDampModel", name := "inside", desc := "(III)V" } : Jvm.MethodName)) ∈ x_tb := x_m5 44 rfl rfl
theorem m_1005 : (Jvm.Cond.instanceMethod ({ cls := "WallDampModel", name := "inside", desc := "(III)V" } : Jvm.MethodName)) ∈ x_tb := x_m5 45 rfl rfl
theorem m_1006 : (Jvm.Cond.selects "WallDampModel" ({ cls := "WallDampModel", name := "inside", desc := "(III)V" } : Jvm.MethodName) ({ cls := "WallDampModel", name := "inside", desc := "(III)V" } : Jvm.MethodName)) ∈ x_tb := x_m5 46 rfl rfl
theorem m_1007 : (Jvm.Cond.code ({ cls := "WallDampModel", name := "inside", desc := "(III)V" } : Jvm.MethodName) prog_13_method_15_code (4 : Nat) (Option.none : Option Jvm.ClassFile.FieldType)) ∈ x_tb := x_m5 47 rfl rfl
theorem m_1008 : (Jvm.Cond.methodLink "WallDampLaw" (115 : Nat) ({ cls := "WallDampModel", name := "water", desc := "(II)I" } : Jvm.MethodName)) ∈ x_tb := x_m5 48 rfl rfl
theorem m_1009 : (Jvm.Cond.instanceMethod ({ cls := "WallDampModel", name := "water", desc := "(II)I" } : Jvm.MethodName)) ∈ x_tb := x_m5 49 rfl rfl
theorem m_1010 : (Jvm.Cond.selects "WallDampModel" ({ cls := "WallDampModel", name := "water", desc := "(II)I" } : Jvm.MethodName) ({ cls := "WallDampModel", name := "water", desc := "(II)I" } : Jvm.MethodName)) ∈ x_tb := x_m5 50 rfl rfl
theorem m_1011 : (Jvm.Cond.code ({ cls := "WallDampModel", name := "water", desc := "(II)I" } : Jvm.MethodName) prog_13_method_16_code (4 : Nat) (Option.some Jvm.ClassFile.FieldType.int)) ∈ x_tb := x_m5 51 rfl rfl
theorem m_1012 : (Jvm.Cond.methodLink "WallDampLaw" (118 : Nat) ({ cls := "WallDampModel", name := "leak", desc := "(II)I" } : Jvm.MethodName)) ∈ x_tb := x_m5 52 rfl rfl
theorem m_1013 : (Jvm.Cond.instanceMethod ({ cls := "WallDampModel", name := "leak", desc := "(II)I" } : Jvm.MethodName)) ∈ x_tb := x_m5 53 rfl rfl
theorem m_1014 : (Jvm.Cond.selects "WallDampModel" ({ cls := "WallDampModel", name := "leak", desc := "(II)I" } : Jvm.MethodName) ({ cls := "WallDampModel", name := "leak", desc := "(II)I" } : Jvm.MethodName)) ∈ x_tb := x_m5 54 rfl rfl
theorem m_1015 : (Jvm.Cond.code ({ cls := "WallDampModel", name := "leak", desc := "(II)I" } : Jvm.MethodName) prog_13_method_17_code (4 : Nat) (Option.some Jvm.ClassFile.FieldType.int)) ∈ x_tb := x_m5 55 rfl rfl
theorem m_1016 : (Jvm.Cond.methodLink "WallDampLaw" (122 : Nat) ({ cls := "WallDampModel", name := "growth", desc := "(IIII)I" } : Jvm.MethodName)) ∈ x_tb := x_m5 56 rfl rfl
theorem m_1017 : (Jvm.Cond.instanceMethod ({ cls := "WallDampModel", name := "growth", desc := "(IIII)I" } : Jvm.MethodName)) ∈ x_tb := x_m5 57 rfl rfl
theorem m_1018 : (Jvm.Cond.selects "WallDampModel" ({ cls := "WallDampModel", name := "growth", desc := "(IIII)I" } : Jvm.MethodName) ({ cls := "WallDampModel", name := "growth", desc := "(IIII)I" } : Jvm.MethodName)) ∈ x_tb := x_m5 58 rfl rfl
theorem m_1019 : (Jvm.Cond.code ({ cls := "WallDampModel", name := "growth", desc := "(IIII)I" } : Jvm.MethodName) prog_13_method_18_code (6 : Nat) (Option.some Jvm.ClassFile.FieldType.int)) ∈ x_tb := x_m5 59 rfl rfl
theorem m_1020 : (Jvm.Cond.methodLink "WallDampLaw" (125 : Nat) ({ cls := "WallDampModel", name := "run", desc := "(I)I" } : Jvm.MethodName)) ∈ x_tb := x_m5 60 rfl rfl
theorem m_1021 : (Jvm.Cond.instanceMethod ({ cls := "WallDampModel", name := "run", desc := "(I)I" } : Jvm.MethodName)) ∈ x_tb := x_m5 61 rfl rfl
theorem m_1022 : (Jvm.Cond.selects "WallDampModel" ({ cls := "WallDampModel", name := "run", desc := "(I)I" } : Jvm.MethodName) ({ cls := "WallDampModel", name := "run", desc := "(I)I" } : Jvm.MethodName)) ∈ x_tb := x_m5 62 rfl rfl
theorem m_1023 : (Jvm.Cond.code ({ cls := "WallDampModel", name := "run", desc := "(I)I" } : Jvm.MethodName) prog_13_method_29_code (3 : Nat) (Option.some Jvm.ClassFile.FieldType.int)) ∈ x_tb := x_m5 63 rfl rfl
theorem m_1024 : (Jvm.Cond.constantLong "WallDampModel" (232 : Nat) (240 : Int64)) ∈ x_tb := x_m5 64 rfl rfl
theorem m_1025 : (Jvm.Cond.methodLink "WallDampModel" (234 : Nat) ({ cls := "WallDampModel", name := "hour", desc := "(I)V" } : Jvm.MethodName)) ∈ x_tb := x_m5 65 rfl rfl
theorem m_1027 : (Jvm.Cond.instanceMethod ({ cls := "WallDampModel", name := "hour", desc := "(I)V" } : Jvm.MethodName)) ∈ x_tb := x_m5 67 rfl rfl
theorem m_1028 : (Jvm.Cond.code ({ cls := "WallDampModel", name := "hour", desc := "(I)V" } : Jvm.MethodName) prog_13_method_28_code (2 : Nat) (Option.none : Option Jvm.ClassFile.FieldType)) ∈ x_tb := x_m5 68 rfl rfl
theorem m_1029 : (Jvm.Cond.methodLink "WallDampModel" (223 : Nat) ({ cls := "WallDampModel", name := "warm", desc := "(I)V" } : Jvm.MethodName)) ∈ x_tb := x_m5 69 rfl rfl
theorem m_1031 : (Jvm.Cond.instanceMethod ({ cls := "WallDampModel", name := "warm", desc := "(I)V" } : Jvm.MethodName)) ∈ x_tb := x_m5 71 rfl rfl
theorem m_1032 : (Jvm.Cond.code ({ cls := "WallDampModel", name := "warm", desc := "(I)V" } : Jvm.MethodName) prog_13_method_21_code (9 : Nat) (Option.none : Option Jvm.ClassFile.FieldType)) ∈ x_tb := x_m5 72 rfl rfl
theorem m_1033 : (Jvm.Cond.constantLong "WallDampModel" (177 : Nat) (2 : Int64)) ∈ x_tb := x_m5 73 rfl rfl
theorem m_1034 : (Jvm.Cond.methodLink "WallDampModel" (179 : Nat) ({ cls := "WallDampModel", name := "resistance", desc := "(I)I" } : Jvm.MethodName)) ∈ x_tb := x_m5 74 rfl rfl
theorem m_1036 : (Jvm.Cond.instanceMethod ({ cls := "WallDampModel", name := "resistance", desc := "(I)I" } : Jvm.MethodName)) ∈ x_tb := x_m5 76 rfl rfl
theorem m_1037 : (Jvm.Cond.code ({ cls := "WallDampModel", name := "resistance", desc := "(I)I" } : Jvm.MethodName) prog_13_method_20_code (2 : Nat) (Option.some Jvm.ClassFile.FieldType.int)) ∈ x_tb := x_m5 77 rfl rfl
theorem m_1038 : (Jvm.Cond.methodLink "WallDampModel" (182 : Nat) ({ cls := "WallDampModel", name := "floor", desc := "(JJ)J" } : Jvm.MethodName)) ∈ x_tb := x_m5 78 rfl rfl
theorem m_1039 : (Jvm.Cond.static ({ cls := "WallDampModel", name := "floor", desc := "(JJ)J" } : Jvm.MethodName)) ∈ x_tb := x_m5 79 rfl rfl
theorem m_1040 : (Jvm.Cond.code ({ cls := "WallDampModel", name := "floor", desc := "(JJ)J" } : Jvm.MethodName) prog_13_method_5_code (6 : Nat) (Option.some Jvm.ClassFile.FieldType.long)) ∈ x_tb := x_m5 80 rfl rfl
theorem m_1041 : (Jvm.Cond.methodLink "WallDampModel" (226 : Nat) ({ cls := "WallDampModel", name := "flow", desc := "(I)V" } : Jvm.MethodName)) ∈ x_tb := x_m5 81 rfl rfl
theorem m_1043 : (Jvm.Cond.instanceMethod ({ cls := "WallDampModel", name := "flow", desc := "(I)V" } : Jvm.MethodName)) ∈ x_tb := x_m5 83 rfl rfl
theorem m_1044 : (Jvm.Cond.code ({ cls := "WallDampModel", name := "flow", desc := "(I)V" } : Jvm.MethodName) prog_13_method_23_code (12 : Nat) (Option.none : Option Jvm.ClassFile.FieldType)) ∈ x_tb := x_m5 84 rfl rfl
theorem m_1045 : (Jvm.Cond.methodLink "WallDampModel" (186 : Nat) ({ cls := "WallDampModel", name := "dampOf", desc := "(I)I" } : Jvm.MethodName)) ∈ x_tb := x_m5 85 rfl rfl
theorem m_1047 : (Jvm.Cond.instanceMethod ({ cls := "WallDampModel", name := "dampOf", desc := "(I)I" } : Jvm.MethodName)) ∈ x_tb := x_m5 87 rfl rfl
theorem m_1048 : (Jvm.Cond.code ({ cls := "WallDampModel", name := "dampOf", desc := "(I)I" } : Jvm.MethodName) prog_13_method_19_code (4 : Nat) (Option.some Jvm.ClassFile.FieldType.int)) ∈ x_tb := x_m5 88 rfl rfl
theorem m_1049 : (Jvm.Cond.methodLink "WallDampModel" (189 : Nat) ({ cls := "WallDampModel", name := "at", desc := "(JJ)J" } : Jvm.MethodName)) ∈ x_tb := x_m5 89 rfl rfl
theorem m_1050 : (Jvm.Cond.static ({ cls := "WallDampModel", name := "at", desc := "(JJ)J" } : Jvm.MethodName)) ∈ x_tb := x_m5 90 rfl rfl
theorem m_1051 : (Jvm.Cond.code ({ cls := "WallDampModel", name := "at", desc := "(JJ)J" } : Jvm.MethodName) prog_13_method_22_code (4 : Nat) (Option.some Jvm.ClassFile.FieldType.long)) ∈ x_tb := x_m5 91 rfl rfl
theorem m_1052 : (Jvm.Cond.constantLong "WallDampModel" (195 : Nat) (100 : Int64)) ∈ x_tb := x_m5 92 rfl rfl
theorem m_1053 : (Jvm.Cond.methodLink "WallDampModel" (229 : Nat) ({ cls := "WallDampModel", name := "move", desc := "()V" } : Jvm.MethodName)) ∈ x_tb := x_m5 93 rfl rfl
theorem m_1055 : (Jvm.Cond.instanceMethod ({ cls := "WallDampModel", name := "move", desc := "()V" } : Jvm.MethodName)) ∈ x_tb := x_m5 95 rfl rfl
theorem m_1056 : (Jvm.Cond.code ({ cls := "WallDampModel", name := "move", desc := "()V" } : Jvm.MethodName) prog_13_method_26_code (5 : Nat) (Option.none : Option Jvm.ClassFile.FieldType)) ∈ x_tb := x_m5 96 rfl rfl
theorem m_1057 : (Jvm.Cond.methodLink "WallDampModel" (200 : Nat) ({ cls := "WallDampModel", name := "lessenLeaving", desc := "(I)V" } : Jvm.MethodName)) ∈ x_tb := x_m5 97 rfl rfl
theorem m_1059 : (Jvm.Cond.instanceMethod ({ cls := "WallDampModel", name := "lessenLeaving", desc := "(I)V" } : Jvm.MethodName)) ∈ x_tb := x_m5 99 rfl rfl
theorem m_1060 : (Jvm.Cond.code ({ cls := "WallDampModel", name := "lessenLeaving", desc := "(I)V" } : Jvm.MethodName) prog_13_method_24_code (12 : Nat) (Option.none : Option Jvm.ClassFile.FieldType)) ∈ x_tb := x_m5 100 rfl rfl
theorem m_1061 : (Jvm.Cond.methodLink "WallDampModel" (204 : Nat) ({ cls := "WallDampModel", name := "lessenComing", desc := "(I)V" } : Jvm.MethodName)) ∈ x_tb := x_m5 101 rfl rfl
theorem m_1063 : (Jvm.Cond.instanceMethod ({ cls := "WallDampModel", name := "lessenComing", desc := "(I)V" } : Jvm.MethodName)) ∈ x_tb := x_m5 103 rfl rfl
theorem m_1064 : (Jvm.Cond.code ({ cls := "WallDampModel", name := "lessenComing", desc := "(I)V" } : Jvm.MethodName) prog_13_method_25_code (7 : Nat) (Option.none : Option Jvm.ClassFile.FieldType)) ∈ x_tb := x_m5 104 rfl rfl
theorem m_1065 : (Jvm.Cond.methodLink "WallDampModel" (237 : Nat) ({ cls := "WallDampModel", name := "frostAndMould", desc := "()V" } : Jvm.MethodName)) ∈ x_tb := x_m5 105 rfl rfl
theorem m_1067 : (Jvm.Cond.instanceMethod ({ cls := "WallDampModel", name := "frostAndMould", desc := "()V" } : Jvm.MethodName)) ∈ x_tb := x_m5 107 rfl rfl
theorem m_1068 : (Jvm.Cond.code ({ cls := "WallDampModel", name := "frostAndMould", desc := "()V" } : Jvm.MethodName) prog_13_method_27_code (5 : Nat) (Option.none : Option Jvm.ClassFile.FieldType)) ∈ x_tb := x_m5 108 rfl rfl
theorem m_1069 : (Jvm.Cond.constant "WallDampModel" (222 : Nat) (1000000 : Int32)) ∈ x_tb := x_m5 109 rfl rfl
theorem m_1070 : (Jvm.Cond.methodLink "WallDampLaw" (128 : Nat) ({ cls := "WallDampModel", name := "told", desc := "(II)I" } : Jvm.MethodName)) ∈ x_tb := x_m5 110 rfl rfl
theorem m_1071 : (Jvm.Cond.instanceMethod ({ cls := "WallDampModel", name := "told", desc := "(II)I" } : Jvm.MethodName)) ∈ x_tb := x_m5 111 rfl rfl
theorem m_1072 : (Jvm.Cond.selects "WallDampModel" ({ cls := "WallDampModel", name := "told", desc := "(II)I" } : Jvm.MethodName) ({ cls := "WallDampModel", name := "told", desc := "(II)I" } : Jvm.MethodName)) ∈ x_tb := x_m5 112 rfl rfl
theorem m_1073 : (Jvm.Cond.code ({ cls := "WallDampModel", name := "told", desc := "(II)I" } : Jvm.MethodName) prog_13_method_30_code (3 : Nat) (Option.some Jvm.ClassFile.FieldType.int)) ∈ x_tb := x_m5 113 rfl rfl
theorem m_1074 : (Jvm.Cond.methodLink "WallDampLaw" (131 : Nat) ({ cls := "WallDampModel", name := "balance", desc := "(I)J" } : Jvm.MethodName)) ∈ x_tb := x_m5 114 rfl rfl
theorem m_1075 : (Jvm.Cond.instanceMethod ({ cls := "WallDampModel", name := "balance", desc := "(I)J" } : Jvm.MethodName)) ∈ x_tb := x_m5 115 rfl rfl
theorem m_1076 : (Jvm.Cond.selects "WallDampModel" ({ cls := "WallDampModel", name := "balance", desc := "(I)J" } : Jvm.MethodName) ({ cls := "WallDampModel", name := "balance", desc := "(I)J" } : Jvm.MethodName)) ∈ x_tb := x_m5 116 rfl rfl
theorem m_1077 : (Jvm.Cond.code ({ cls := "WallDampModel", name := "balance", desc := "(I)J" } : Jvm.MethodName) prog_13_method_32_code (2 : Nat) (Option.some Jvm.ClassFile.FieldType.long)) ∈ x_tb := x_m5 117 rfl rfl
theorem m_1078 : (Jvm.Cond.methodLink "WallDampModel" (240 : Nat) ({ cls := "WallDampModel", name := "allWater", desc := "()J" } : Jvm.MethodName)) ∈ x_tb := x_m5 118 rfl rfl
theorem m_1080 : (Jvm.Cond.instanceMethod ({ cls := "WallDampModel", name := "allWater", desc := "()J" } : Jvm.MethodName)) ∈ x_tb := x_m5 120 rfl rfl
theorem m_1081 : (Jvm.Cond.code ({ cls := "WallDampModel", name := "allWater", desc := "()J" } : Jvm.MethodName) prog_13_method_31_code (4 : Nat) (Option.some Jvm.ClassFile.FieldType.long)) ∈ x_tb := x_m5 121 rfl rfl
theorem m_1082 : (Jvm.Cond.methodLink "WallDampLaw" (135 : Nat) ({ cls := "WallDampModel", name := "mould", desc := "()I" } : Jvm.MethodName)) ∈ x_tb := x_m5 122 rfl rfl
theorem m_1083 : (Jvm.Cond.instanceMethod ({ cls := "WallDampModel", name := "mould", desc := "()I" } : Jvm.MethodName)) ∈ x_tb := x_m5 123 rfl rfl
theorem m_1084 : (Jvm.Cond.selects "WallDampModel" ({ cls := "WallDampModel", name := "mould", desc := "()I" } : Jvm.MethodName) ({ cls := "WallDampModel", name := "mould", desc := "()I" } : Jvm.MethodName)) ∈ x_tb := x_m5 124 rfl rfl
theorem m_1085 : (Jvm.Cond.code ({ cls := "WallDampModel", name := "mould", desc := "()I" } : Jvm.MethodName) prog_13_method_33_code (1 : Nat) (Option.some Jvm.ClassFile.FieldType.int)) ∈ x_tb := x_m5 125 rfl rfl
theorem m_1086 : (Jvm.Cond.methodLink "WallDampLaw" (138 : Nat) ({ cls := "WallDampModel", name := "order", desc := "(II)I" } : Jvm.MethodName)) ∈ x_tb := x_m5 126 rfl rfl
theorem m_1087 : (Jvm.Cond.instanceMethod ({ cls := "WallDampModel", name := "order", desc := "(II)I" } : Jvm.MethodName)) ∈ x_tb := x_m5 127 rfl rfl
theorem m_1088 : (Jvm.Cond.selects "WallDampModel" ({ cls := "WallDampModel", name := "order", desc := "(II)I" } : Jvm.MethodName) ({ cls := "WallDampModel", name := "order", desc := "(II)I" } : Jvm.MethodName)) ∈ x_tb := x_m5 128 rfl rfl
theorem m_1089 : (Jvm.Cond.code ({ cls := "WallDampModel", name := "order", desc := "(II)I" } : Jvm.MethodName) prog_13_method_36_code (10 : Nat) (Option.some Jvm.ClassFile.FieldType.int)) ∈ x_tb := x_m5 129 rfl rfl
theorem m_1090 : (Jvm.Cond.constantLong "WallDampModel" (244 : Nat) (48 : Int64)) ∈ x_tb := x_m5 130 rfl rfl
theorem m_1091 : (Jvm.Cond.methodLink "WallDampModel" (246 : Nat) ({ cls := "WallDampModel", name := "keep", desc := "()[J" } : Jvm.MethodName)) ∈ x_tb := x_m5 131 rfl rfl
theorem m_1093 : (Jvm.Cond.instanceMethod ({ cls := "WallDampModel", name := "keep", desc := "()[J" } : Jvm.MethodName)) ∈ x_tb := x_m5 133 rfl rfl
theorem m_1094 : (Jvm.Cond.code ({ cls := "WallDampModel", name := "keep", desc := "()[J" } : Jvm.MethodName) prog_13_method_37_code (2 : Nat) (Option.some (Jvm.ClassFile.FieldType.array Jvm.ClassFile.FieldType.long))) ∈ x_tb := x_m5 134 rfl rfl
theorem m_1095 : (Jvm.Cond.constantLong "WallDampModel" (250 : Nat) (-1 : Int64)) ∈ x_tb := x_m5 135 rfl rfl
theorem m_1096 : (Jvm.Cond.methodLink "WallDampModel" (252 : Nat) ({ cls := "WallDampModel", name := "dry", desc := "(I)J" } : Jvm.MethodName)) ∈ x_tb := x_m5 136 rfl rfl
theorem m_1098 : (Jvm.Cond.instanceMethod ({ cls := "WallDampModel", name := "dry", desc := "(I)J" } : Jvm.MethodName)) ∈ x_tb := x_m5 138 rfl rfl
theorem m_1099 : (Jvm.Cond.code ({ cls := "WallDampModel", name := "dry", desc := "(I)J" } : Jvm.MethodName) prog_13_method_35_code (3 : Nat) (Option.some Jvm.ClassFile.FieldType.long)) ∈ x_tb := x_m5 139 rfl rfl
theorem m_1100 : (Jvm.Cond.methodLink "WallDampModel" (256 : Nat) ({ cls := "WallDampModel", name := "next", desc := "()Z" } : Jvm.MethodName)) ∈ x_tb := x_m5 140 rfl rfl
theorem m_1102 : (Jvm.Cond.instanceMethod ({ cls := "WallDampModel", name := "next", desc := "()Z" } : Jvm.MethodName)) ∈ x_tb := x_m5 142 rfl rfl
theorem m_1103 : (Jvm.Cond.code ({ cls := "WallDampModel", name := "next", desc := "()Z" } : Jvm.MethodName) prog_13_method_34_code (5 : Nat) (Option.some Jvm.ClassFile.FieldType.boolean)) ∈ x_tb := x_m5 143 rfl rfl
theorem m_1104 : (Jvm.Cond.sameMethod "java/lang/Throwable" "java/lang/Throwable" "fillInStackTrace" "(I)Ljava/lang/Throwable;") ∈ x_tb := x_m5 144 rfl rfl
theorem ms_0 : Cond.selects "WallDamp" ⟨"WallDamp", "materialOf", "(I)LWallDamp$Material;"⟩ ⟨"WallDamp", "materialOf", "(I)LWallDamp$Material;"⟩ ∈ x_tb := x_m0 0 rfl rfl
theorem ms_1 : Cond.selects "java/lang/Throwable" ⟨"java/lang/Throwable", "fillInStackTrace", "(I)Ljava/lang/Throwable;"⟩ ⟨"java/lang/Throwable", "fillInStackTrace", "(I)Ljava/lang/Throwable;"⟩ ∈ x_tb := x_m0 1 rfl rfl
theorem ms_2 : Cond.selects "WallDamp" ⟨"WallDamp", "requireNoHourOver", "()V"⟩ ⟨"WallDamp", "requireNoHourOver", "()V"⟩ ∈ x_tb := x_m0 2 rfl rfl
theorem ms_3 : Cond.selects "WallDamp" ⟨"WallDamp", "cellAt", "(I)LWallDamp$Cell;"⟩ ⟨"WallDamp", "cellAt", "(I)LWallDamp$Cell;"⟩ ∈ x_tb := x_m0 3 rfl rfl
theorem ms_4 : Cond.selects "WallDamp" ⟨"WallDamp", "passHour", "()V"⟩ ⟨"WallDamp", "passHour", "()V"⟩ ∈ x_tb := x_m0 4 rfl rfl
theorem ms_5 : Cond.selects "WallDamp$Wall" ⟨"WallDamp$Wall", "warmCells", "(LWallDamp$Surroundings;)V"⟩ ⟨"WallDamp$Wall", "warmCells", "(LWallDamp$Surroundings;)V"⟩ ∈ x_tb := x_m0 5 rfl rfl
theorem ms_6 : Cond.selects "WallDamp$Wall" ⟨"WallDamp$Wall", "setAirFlows", "(I)V"⟩ ⟨"WallDamp$Wall", "setAirFlows", "(I)V"⟩ ∈ x_tb := x_m0 6 rfl rfl
theorem ms_7 : Cond.selects "WallDamp$Wall" ⟨"WallDamp$Wall", "setFlowsBetween", "()V"⟩ ⟨"WallDamp$Wall", "setFlowsBetween", "()V"⟩ ∈ x_tb := x_m0 7 rfl rfl
theorem ms_8 : Cond.selects "WallDamp$Wall" ⟨"WallDamp$Wall", "limitFlows", "()V"⟩ ⟨"WallDamp$Wall", "limitFlows", "()V"⟩ ∈ x_tb := x_m0 8 rfl rfl
theorem ms_9 : Cond.selects "WallDamp$Flow" ⟨"WallDamp$Flow", "portion", "(II)I"⟩ ⟨"WallDamp$Flow", "portion", "(II)I"⟩ ∈ x_tb := x_m0 9 rfl rfl
theorem ms_10 : Cond.selects "WallDamp" ⟨"WallDamp", "growMould", "()V"⟩ ⟨"WallDamp", "growMould", "()V"⟩ ∈ x_tb := x_m0 10 rfl rfl
theorem ms_11 : Cond.selects "WallDamp$Trials" ⟨"WallDamp$Trials", "waterBehind", "(LWallDamp$Wall;LWallDamp$Surroundings;I)J"⟩ ⟨"WallDamp$Trials", "waterBehind", "(LWallDamp$Wall;LWallDamp$Surroundings;I)J"⟩ ∈ x_tb := x_m0 11 rfl rfl
theorem ms_12 : Cond.selects "WallDamp$Trials" ⟨"WallDamp$Trials", "keepRow", "(I)V"⟩ ⟨"WallDamp$Trials", "keepRow", "(I)V"⟩ ∈ x_tb := x_m0 12 rfl rfl
theorem ms_13 : Cond.selects "WallDamp$Trials" ⟨"WallDamp$Trials", "stepRow", "(I)Z"⟩ ⟨"WallDamp$Trials", "stepRow", "(I)Z"⟩ ∈ x_tb := x_m0 13 rfl rfl
theorem ms_14 : Cond.selects "WallDamp$Trials" ⟨"WallDamp$Trials", "swap", "(II)V"⟩ ⟨"WallDamp$Trials", "swap", "(II)V"⟩ ∈ x_tb := x_m0 14 rfl rfl
theorem ms_15 : Cond.selects "WallDampModel" ⟨"WallDampModel", "most", "(I)I"⟩ ⟨"WallDampModel", "most", "(I)I"⟩ ∈ x_tb := x_m0 15 rfl rfl
theorem ms_16 : Cond.selects "WallDampModel" ⟨"WallDampModel", "isCell", "(I)Z"⟩ ⟨"WallDampModel", "isCell", "(I)Z"⟩ ∈ x_tb := x_m0 16 rfl rfl
theorem ms_17 : Cond.selects "WallDampModel" ⟨"WallDampModel", "fullAt", "(I)I"⟩ ⟨"WallDampModel", "fullAt", "(I)I"⟩ ∈ x_tb := x_m0 17 rfl rfl
theorem ms_18 : Cond.selects "WallDampModel" ⟨"WallDampModel", "hour", "(I)V"⟩ ⟨"WallDampModel", "hour", "(I)V"⟩ ∈ x_tb := x_m0 18 rfl rfl
theorem ms_19 : Cond.selects "WallDampModel" ⟨"WallDampModel", "warm", "(I)V"⟩ ⟨"WallDampModel", "warm", "(I)V"⟩ ∈ x_tb := x_m0 19 rfl rfl
theorem ms_20 : Cond.selects "WallDampModel" ⟨"WallDampModel", "resistance", "(I)I"⟩ ⟨"WallDampModel", "resistance", "(I)I"⟩ ∈ x_tb := x_m0 20 rfl rfl
theorem ms_21 : Cond.selects "WallDampModel" ⟨"WallDampModel", "flow", "(I)V"⟩ ⟨"WallDampModel", "flow", "(I)V"⟩ ∈ x_tb := x_m0 21 rfl rfl
theorem ms_22 : Cond.selects "WallDampModel" ⟨"WallDampModel", "dampOf", "(I)I"⟩ ⟨"WallDampModel", "dampOf", "(I)I"⟩ ∈ x_tb := x_m0 22 rfl rfl
theorem ms_23 : Cond.selects "WallDampModel" ⟨"WallDampModel", "move", "()V"⟩ ⟨"WallDampModel", "move", "()V"⟩ ∈ x_tb := x_m0 23 rfl rfl
theorem ms_24 : Cond.selects "WallDampModel" ⟨"WallDampModel", "lessenLeaving", "(I)V"⟩ ⟨"WallDampModel", "lessenLeaving", "(I)V"⟩ ∈ x_tb := x_m0 24 rfl rfl
theorem ms_25 : Cond.selects "WallDampModel" ⟨"WallDampModel", "lessenComing", "(I)V"⟩ ⟨"WallDampModel", "lessenComing", "(I)V"⟩ ∈ x_tb := x_m0 25 rfl rfl
theorem ms_26 : Cond.selects "WallDampModel" ⟨"WallDampModel", "frostAndMould", "()V"⟩ ⟨"WallDampModel", "frostAndMould", "()V"⟩ ∈ x_tb := x_m0 26 rfl rfl
theorem ms_27 : Cond.selects "WallDampModel" ⟨"WallDampModel", "allWater", "()J"⟩ ⟨"WallDampModel", "allWater", "()J"⟩ ∈ x_tb := x_m0 27 rfl rfl
theorem ms_28 : Cond.selects "WallDampModel" ⟨"WallDampModel", "keep", "()[J"⟩ ⟨"WallDampModel", "keep", "()[J"⟩ ∈ x_tb := x_m0 28 rfl rfl
theorem ms_29 : Cond.selects "WallDampModel" ⟨"WallDampModel", "dry", "(I)J"⟩ ⟨"WallDampModel", "dry", "(I)J"⟩ ∈ x_tb := x_m0 29 rfl rfl
theorem ms_30 : Cond.selects "WallDampModel" ⟨"WallDampModel", "next", "()Z"⟩ ⟨"WallDampModel", "next", "()Z"⟩ ∈ x_tb := x_m0 30 rfl rfl
end
section
def F_WD : u_T := fun k => match k with
  | 0 => ("WallDamp", "materials", "[LWallDamp$Material;", true)
  | 1 => ("WallDamp", "around", "LWallDamp$Surroundings;", true)
  | 2 => ("WallDamp", "mouldRows", "LWallDamp$MouldRows;", true)
  | 3 => ("WallDamp", "standing", "LWallDamp$Wall;", true)
  | 4 => ("WallDamp", "trials", "LWallDamp$Trials;", true)
  | 5 => ("WallDamp", "hoursOver", "I", false)
  | 6 => ("WallDamp", "mouldGrown", "I", false)
  | _ => ("WallDamp", "startWater", "J", false)
def t_WD : Nat → FieldType := fun k => match k with
  | 0 => .array (.object "WallDamp$Material")
  | 1 => .object "WallDamp$Surroundings"
  | 2 => .object "WallDamp$MouldRows"
  | 3 => .object "WallDamp$Wall"
  | 4 => .object "WallDamp$Trials"
  | 5 => .int
  | 6 => .int
  | _ => .long
theorem n_WD : ∀ a, a < 8 → ∀ b, b < 8 → a ≠ b → (F_WD a).2.1 ≠ (F_WD b).2.1 := by decide +kernel
theorem ty_WD : ∀ k, k < 8 → parseFieldDescriptor (F_WD k).2.2.1 = some (t_WD k) := by decide +kernel
theorem i0_WD : ∀ k, k < 8 → u_lay "WallDamp" F_WD k ∈ x_tb := fun k hk => match k, hk with
  | 0, _ => m_353
  | 1, _ => m_355
  | 2, _ => m_357
  | 3, _ => m_359
  | 4, _ => m_361
  | 5, _ => m_363
  | 6, _ => m_365
  | 7, _ => m_367
  | k + 8, h => absurd h (by omega)
theorem i_WD : ∀ w ∈ u_ws "WallDamp" F_WD 8, w ∈ x_tb := fun w hw => by obtain ⟨k, hk, rfl⟩ := List.mem_map.mp hw; exact i0_WD k (List.mem_range.mp hk)
def F_Air : u_T := fun k => match k with
  | 0 => ("WallDamp$Place", "warmth", "I", false)
  | 1 => ("WallDamp$Place", "damp", "I", false)
  | 2 => ("WallDamp$Place", "pressure", "I", false)
  | 3 => ("WallDamp$Place", "supply", "I", false)
  | 4 => ("WallDamp$Place", "room", "I", false)
  | 5 => ("WallDamp$Place", "leaving", "I", false)
  | 6 => ("WallDamp$Place", "coming", "I", false)
  | 7 => ("WallDamp$Air", "gone", "J", false)
  | _ => ("WallDamp$Air", "come", "J", false)
def t_Air : Nat → FieldType := fun k => match k with
  | 0 => .int
  | 1 => .int
  | 2 => .int
  | 3 => .int
  | 4 => .int
  | 5 => .int
  | 6 => .int
  | 7 => .long
  | _ => .long
theorem n_Air : ∀ a, a < 9 → ∀ b, b < 9 → a ≠ b → (F_Air a).2.1 ≠ (F_Air b).2.1 := by decide +kernel
theorem ty_Air : ∀ k, k < 9 → parseFieldDescriptor (F_Air k).2.2.1 = some (t_Air k) := by decide +kernel
theorem i0_Air : ∀ k, k < 9 → u_lay "WallDamp$Air" F_Air k ∈ x_tb := fun k hk => match k, hk with
  | 0, _ => m_209
  | 1, _ => m_211
  | 2, _ => m_213
  | 3, _ => m_215
  | 4, _ => m_217
  | 5, _ => m_219
  | 6, _ => m_221
  | 7, _ => m_205
  | 8, _ => m_207
  | k + 9, h => absurd h (by omega)
theorem i_Air : ∀ w ∈ u_ws "WallDamp$Air" F_Air 9, w ∈ x_tb := fun w hw => by obtain ⟨k, hk, rfl⟩ := List.mem_map.mp hw; exact i0_Air k (List.mem_range.mp hk)
def F_Cell : u_T := fun k => match k with
  | 0 => ("WallDamp$Place", "warmth", "I", false)
  | 1 => ("WallDamp$Place", "damp", "I", false)
  | 2 => ("WallDamp$Place", "pressure", "I", false)
  | 3 => ("WallDamp$Place", "supply", "I", false)
  | 4 => ("WallDamp$Place", "room", "I", false)
  | 5 => ("WallDamp$Place", "leaving", "I", false)
  | 6 => ("WallDamp$Place", "coming", "I", false)
  | 7 => ("WallDamp$Cell", "material", "LWallDamp$Material;", false)
  | 8 => ("WallDamp$Cell", "thickness", "I", false)
  | 9 => ("WallDamp$Cell", "leakRate", "I", false)
  | 10 => ("WallDamp$Cell", "held", "I", false)
  | 11 => ("WallDamp$Cell", "way", "J", false)
  | 12 => ("WallDamp$Cell", "passes", "I", false)
  | 13 => ("WallDamp$Cell", "greatestDamp", "I", false)
  | _ => ("WallDamp$Cell", "frozen", "Z", false)
def t_Cell : Nat → FieldType := fun k => match k with
  | 0 => .int
  | 1 => .int
  | 2 => .int
  | 3 => .int
  | 4 => .int
  | 5 => .int
  | 6 => .int
  | 7 => .object "WallDamp$Material"
  | 8 => .int
  | 9 => .int
  | 10 => .int
  | 11 => .long
  | 12 => .int
  | 13 => .int
  | _ => .boolean
theorem n_Cell : ∀ a, a < 15 → ∀ b, b < 15 → a ≠ b → (F_Cell a).2.1 ≠ (F_Cell b).2.1 := by decide +kernel
theorem ty_Cell : ∀ k, k < 15 → parseFieldDescriptor (F_Cell k).2.2.1 = some (t_Cell k) := by decide +kernel
theorem i0_Cell : ∀ k, k < 15 → u_lay "WallDamp$Cell" F_Cell k ∈ x_tb := fun k hk => match k, hk with
  | 0, _ => m_267
  | 1, _ => m_268
  | 2, _ => m_269
  | 3, _ => m_270
  | 4, _ => m_271
  | 5, _ => m_272
  | 6, _ => m_273
  | 7, _ => m_251
  | 8, _ => m_253
  | 9, _ => m_255
  | 10, _ => m_257
  | 11, _ => m_259
  | 12, _ => m_261
  | 13, _ => m_263
  | 14, _ => m_265
  | k + 15, h => absurd h (by omega)
theorem i_Cell : ∀ w ∈ u_ws "WallDamp$Cell" F_Cell 15, w ∈ x_tb := fun w hw => by obtain ⟨k, hk, rfl⟩ := List.mem_map.mp hw; exact i0_Cell k (List.mem_range.mp hk)
def F_Corners : u_T := fun k => match k with
  | 0 => ("WallDamp$Corners", "xs", "[I", true)
  | 1 => ("WallDamp$Corners", "ys", "[I", true)
  | 2 => ("WallDamp$Corners", "limit", "I", true)
  | _ => ("WallDamp$Corners", "count", "I", false)
def t_Corners : Nat → FieldType := fun k => match k with
  | 0 => .array (.int)
  | 1 => .array (.int)
  | 2 => .int
  | _ => .int
theorem n_Corners : ∀ a, a < 4 → ∀ b, b < 4 → a ≠ b → (F_Corners a).2.1 ≠ (F_Corners b).2.1 := by decide +kernel
theorem ty_Corners : ∀ k, k < 4 → parseFieldDescriptor (F_Corners k).2.2.1 = some (t_Corners k) := by decide +kernel
theorem i0_Corners : ∀ k, k < 4 → u_lay "WallDamp$Corners" F_Corners k ∈ x_tb := fun k hk => match k, hk with
  | 0, _ => m_51
  | 1, _ => m_53
  | 2, _ => m_55
  | 3, _ => m_57
  | k + 4, h => absurd h (by omega)
theorem i_Corners : ∀ w ∈ u_ws "WallDamp$Corners" F_Corners 4, w ∈ x_tb := fun w hw => by obtain ⟨k, hk, rfl⟩ := List.mem_map.mp hw; exact i0_Corners k (List.mem_range.mp hk)
def F_Flow : u_T := fun k => match k with
  | 0 => ("WallDamp$Flow", "outer", "LWallDamp$Place;", true)
  | 1 => ("WallDamp$Flow", "inner", "LWallDamp$Place;", true)
  | 2 => ("WallDamp$Flow", "from", "LWallDamp$Place;", false)
  | 3 => ("WallDamp$Flow", "to", "LWallDamp$Place;", false)
  | _ => ("WallDamp$Flow", "much", "I", false)
def t_Flow : Nat → FieldType := fun k => match k with
  | 0 => .object "WallDamp$Place"
  | 1 => .object "WallDamp$Place"
  | 2 => .object "WallDamp$Place"
  | 3 => .object "WallDamp$Place"
  | _ => .int
theorem n_Flow : ∀ a, a < 5 → ∀ b, b < 5 → a ≠ b → (F_Flow a).2.1 ≠ (F_Flow b).2.1 := by decide +kernel
theorem ty_Flow : ∀ k, k < 5 → parseFieldDescriptor (F_Flow k).2.2.1 = some (t_Flow k) := by decide +kernel
theorem i0_Flow : ∀ k, k < 5 → u_lay "WallDamp$Flow" F_Flow k ∈ x_tb := fun k hk => match k, hk with
  | 0, _ => m_285
  | 1, _ => m_287
  | 2, _ => m_289
  | 3, _ => m_291
  | 4, _ => m_293
  | k + 5, h => absurd h (by omega)
theorem i_Flow : ∀ w ∈ u_ws "WallDamp$Flow" F_Flow 5, w ∈ x_tb := fun w hw => by obtain ⟨k, hk, rfl⟩ := List.mem_map.mp hw; exact i0_Flow k (List.mem_range.mp hk)
def F_Material : u_T := fun k => match k with
  | 0 => ("WallDamp$Material", "damps", "LWallDamp$Corners;", true)
  | 1 => ("WallDamp$Material", "vapour", "I", false)
  | 2 => ("WallDamp$Material", "liquid", "I", false)
  | _ => ("WallDamp$Material", "leads", "I", false)
def t_Material : Nat → FieldType := fun k => match k with
  | 0 => .object "WallDamp$Corners"
  | 1 => .int
  | 2 => .int
  | _ => .int
theorem n_Material : ∀ a, a < 4 → ∀ b, b < 4 → a ≠ b → (F_Material a).2.1 ≠ (F_Material b).2.1 := by decide +kernel
theorem ty_Material : ∀ k, k < 4 → parseFieldDescriptor (F_Material k).2.2.1 = some (t_Material k) := by decide +kernel
theorem i0_Material : ∀ k, k < 4 → u_lay "WallDamp$Material" F_Material k ∈ x_tb := fun k hk => match k, hk with
  | 0, _ => m_77
  | 1, _ => m_79
  | 2, _ => m_81
  | 3, _ => m_83
  | k + 4, h => absurd h (by omega)
theorem i_Material : ∀ w ∈ u_ws "WallDamp$Material" F_Material 4, w ∈ x_tb := fun w hw => by obtain ⟨k, hk, rfl⟩ := List.mem_map.mp hw; exact i0_Material k (List.mem_range.mp hk)
def F_MouldRows : u_T := fun k => match k with
  | 0 => ("WallDamp$MouldRows", "damps", "[I", true)
  | 1 => ("WallDamp$MouldRows", "froms", "[I", true)
  | 2 => ("WallDamp$MouldRows", "tos", "[I", true)
  | 3 => ("WallDamp$MouldRows", "mores", "[I", true)
  | _ => ("WallDamp$MouldRows", "count", "I", false)
def t_MouldRows : Nat → FieldType := fun k => match k with
  | 0 => .array (.int)
  | 1 => .array (.int)
  | 2 => .array (.int)
  | 3 => .array (.int)
  | _ => .int
theorem n_MouldRows : ∀ a, a < 5 → ∀ b, b < 5 → a ≠ b → (F_MouldRows a).2.1 ≠ (F_MouldRows b).2.1 := by decide +kernel
theorem ty_MouldRows : ∀ k, k < 5 → parseFieldDescriptor (F_MouldRows k).2.2.1 = some (t_MouldRows k) := by decide +kernel
theorem i0_MouldRows : ∀ k, k < 5 → u_lay "WallDamp$MouldRows" F_MouldRows k ∈ x_tb := fun k hk => match k, hk with
  | 0, _ => m_150
  | 1, _ => m_152
  | 2, _ => m_154
  | 3, _ => m_156
  | 4, _ => m_158
  | k + 5, h => absurd h (by omega)
theorem i_MouldRows : ∀ w ∈ u_ws "WallDamp$MouldRows" F_MouldRows 5, w ∈ x_tb := fun w hw => by obtain ⟨k, hk, rfl⟩ := List.mem_map.mp hw; exact i0_MouldRows k (List.mem_range.mp hk)
def F_Surroundings : u_T := fun k => match k with
  | 0 => ("WallDamp$Surroundings", "fullPressures", "LWallDamp$Corners;", true)
  | 1 => ("WallDamp$Surroundings", "outerWarmth", "[I", true)
  | 2 => ("WallDamp$Surroundings", "outerDamp", "[I", true)
  | 3 => ("WallDamp$Surroundings", "rainFall", "[I", true)
  | 4 => ("WallDamp$Surroundings", "sunShine", "[I", true)
  | 5 => ("WallDamp$Surroundings", "innerWarmth", "[I", true)
  | 6 => ("WallDamp$Surroundings", "innerDamp", "[I", true)
  | 7 => ("WallDamp$Surroundings", "outerFilm", "I", false)
  | _ => ("WallDamp$Surroundings", "innerFilm", "I", false)
def t_Surroundings : Nat → FieldType := fun k => match k with
  | 0 => .object "WallDamp$Corners"
  | 1 => .array (.int)
  | 2 => .array (.int)
  | 3 => .array (.int)
  | 4 => .array (.int)
  | 5 => .array (.int)
  | 6 => .array (.int)
  | 7 => .int
  | _ => .int
theorem n_Surroundings : ∀ a, a < 9 → ∀ b, b < 9 → a ≠ b → (F_Surroundings a).2.1 ≠ (F_Surroundings b).2.1 := by decide +kernel
theorem ty_Surroundings : ∀ k, k < 9 → parseFieldDescriptor (F_Surroundings k).2.2.1 = some (t_Surroundings k) := by decide +kernel
theorem i0_Surroundings : ∀ k, k < 9 → u_lay "WallDamp$Surroundings" F_Surroundings k ∈ x_tb := fun k hk => match k, hk with
  | 0, _ => m_120
  | 1, _ => m_122
  | 2, _ => m_124
  | 3, _ => m_126
  | 4, _ => m_128
  | 5, _ => m_130
  | 6, _ => m_132
  | 7, _ => m_134
  | 8, _ => m_136
  | k + 9, h => absurd h (by omega)
theorem i_Surroundings : ∀ w ∈ u_ws "WallDamp$Surroundings" F_Surroundings 9, w ∈ x_tb := fun w hw => by obtain ⟨k, hk, rfl⟩ := List.mem_map.mp hw; exact i0_Surroundings k (List.mem_range.mp hk)
def F_Trials : u_T := fun k => match k with
  | 0 => ("WallDamp$Trials", "driest", "[I", true)
  | 1 => ("WallDamp$Trials", "row", "[I", true)
  | _ => ("WallDamp$Trials", "trial", "LWallDamp$Wall;", true)
def t_Trials : Nat → FieldType := fun k => match k with
  | 0 => .array (.int)
  | 1 => .array (.int)
  | _ => .object "WallDamp$Wall"
theorem n_Trials : ∀ a, a < 3 → ∀ b, b < 3 → a ≠ b → (F_Trials a).2.1 ≠ (F_Trials b).2.1 := by decide +kernel
theorem ty_Trials : ∀ k, k < 3 → parseFieldDescriptor (F_Trials k).2.2.1 = some (t_Trials k) := by decide +kernel
theorem i0_Trials : ∀ k, k < 3 → u_lay "WallDamp$Trials" F_Trials k ∈ x_tb := fun k hk => match k, hk with
  | 0, _ => m_338
  | 1, _ => m_340
  | 2, _ => m_342
  | k + 3, h => absurd h (by omega)
theorem i_Trials : ∀ w ∈ u_ws "WallDamp$Trials" F_Trials 3, w ∈ x_tb := fun w hw => by obtain ⟨k, hk, rfl⟩ := List.mem_map.mp hw; exact i0_Trials k (List.mem_range.mp hk)
def F_Wall : u_T := fun k => match k with
  | 0 => ("WallDamp$Wall", "cells", "[LWallDamp$Cell;", true)
  | 1 => ("WallDamp$Wall", "outerAir", "LWallDamp$Air;", true)
  | 2 => ("WallDamp$Wall", "innerAir", "LWallDamp$Air;", true)
  | 3 => ("WallDamp$Wall", "outerVapour", "LWallDamp$Flow;", true)
  | 4 => ("WallDamp$Wall", "innerVapour", "LWallDamp$Flow;", true)
  | 5 => ("WallDamp$Wall", "rain", "LWallDamp$Flow;", true)
  | 6 => ("WallDamp$Wall", "leaks", "[LWallDamp$Flow;", true)
  | 7 => ("WallDamp$Wall", "betweens", "[LWallDamp$Flow;", true)
  | _ => ("WallDamp$Wall", "flows", "[LWallDamp$Flow;", true)
def t_Wall : Nat → FieldType := fun k => match k with
  | 0 => .array (.object "WallDamp$Cell")
  | 1 => .object "WallDamp$Air"
  | 2 => .object "WallDamp$Air"
  | 3 => .object "WallDamp$Flow"
  | 4 => .object "WallDamp$Flow"
  | 5 => .object "WallDamp$Flow"
  | 6 => .array (.object "WallDamp$Flow")
  | 7 => .array (.object "WallDamp$Flow")
  | _ => .array (.object "WallDamp$Flow")
theorem n_Wall : ∀ a, a < 9 → ∀ b, b < 9 → a ≠ b → (F_Wall a).2.1 ≠ (F_Wall b).2.1 := by decide +kernel
theorem ty_Wall : ∀ k, k < 9 → parseFieldDescriptor (F_Wall k).2.2.1 = some (t_Wall k) := by decide +kernel
theorem i0_Wall : ∀ k, k < 9 → u_lay "WallDamp$Wall" F_Wall k ∈ x_tb := fun k hk => match k, hk with
  | 0, _ => m_309
  | 1, _ => m_311
  | 2, _ => m_313
  | 3, _ => m_315
  | 4, _ => m_317
  | 5, _ => m_319
  | 6, _ => m_321
  | 7, _ => m_323
  | 8, _ => m_325
  | k + 9, h => absurd h (by omega)
theorem i_Wall : ∀ w ∈ u_ws "WallDamp$Wall" F_Wall 9, w ∈ x_tb := fun w hw => by obtain ⟨k, hk, rfl⟩ := List.mem_map.mp hw; exact i0_Wall k (List.mem_range.mp hk)
def F_Mod : u_T := fun k => match k with
  | 0 => ("WallDampModel", "thrown", "I", false)
  | 1 => ("WallDampModel", "cells", "I", true)
  | 2 => ("WallDampModel", "corners", "[I", true)
  | 3 => ("WallDampModel", "held", "[I", true)
  | 4 => ("WallDampModel", "damps", "[I", true)
  | 5 => ("WallDampModel", "vapour", "[I", true)
  | 6 => ("WallDampModel", "liquid", "[I", true)
  | 7 => ("WallDampModel", "leads", "[I", true)
  | 8 => ("WallDampModel", "material", "[I", true)
  | 9 => ("WallDampModel", "thickness", "[I", true)
  | 10 => ("WallDampModel", "water", "[J", true)
  | 11 => ("WallDampModel", "leak", "[I", true)
  | 12 => ("WallDampModel", "warmth", "[I", true)
  | 13 => ("WallDampModel", "passes", "[I", true)
  | 14 => ("WallDampModel", "frozen", "[Z", true)
  | 15 => ("WallDampModel", "wettest", "[I", true)
  | 16 => ("WallDampModel", "tables", "I", false)
  | 17 => ("WallDampModel", "tableWarmth", "[I", true)
  | 18 => ("WallDampModel", "tablePressure", "[I", true)
  | 19 => ("WallDampModel", "outer", "I", false)
  | 20 => ("WallDampModel", "inner", "I", false)
  | 21 => ("WallDampModel", "outWarmth", "[I", true)
  | 22 => ("WallDampModel", "outDamp", "[I", true)
  | 23 => ("WallDampModel", "rain", "[I", true)
  | 24 => ("WallDampModel", "sun", "[I", true)
  | 25 => ("WallDampModel", "inWarmth", "[I", true)
  | 26 => ("WallDampModel", "inDamp", "[I", true)
  | 27 => ("WallDampModel", "growths", "I", false)
  | 28 => ("WallDampModel", "growDamp", "[I", true)
  | 29 => ("WallDampModel", "growFrom", "[I", true)
  | 30 => ("WallDampModel", "growTo", "[I", true)
  | 31 => ("WallDampModel", "growMore", "[I", true)
  | 32 => ("WallDampModel", "hours", "I", false)
  | 33 => ("WallDampModel", "mould", "I", false)
  | 34 => ("WallDampModel", "fromOutside", "J", false)
  | 35 => ("WallDampModel", "fromInside", "J", false)
  | 36 => ("WallDampModel", "wentOut", "J", false)
  | 37 => ("WallDampModel", "wentIn", "J", false)
  | 38 => ("WallDampModel", "start", "J", false)
  | 39 => ("WallDampModel", "pressure", "[J", true)
  | 40 => ("WallDampModel", "damp", "[I", true)
  | 41 => ("WallDampModel", "into", "[J", true)
  | 42 => ("WallDampModel", "outFlow", "J", false)
  | 43 => ("WallDampModel", "inFlow", "J", false)
  | 44 => ("WallDampModel", "keptMaterial", "[I", true)
  | 45 => ("WallDampModel", "keptThickness", "[I", true)
  | 46 => ("WallDampModel", "keptLeak", "[I", true)
  | 47 => ("WallDampModel", "row", "[I", true)
  | 48 => ("WallDampModel", "best", "[I", true)
  | 49 => ("WallDampModel", "used", "[Z", true)
  | _ => ("WallDampModel", "saved", "[J", true)
def t_Mod : Nat → FieldType := fun k => match k with
  | 0 => .int
  | 1 => .int
  | 2 => .array (.int)
  | 3 => .array (.int)
  | 4 => .array (.int)
  | 5 => .array (.int)
  | 6 => .array (.int)
  | 7 => .array (.int)
  | 8 => .array (.int)
  | 9 => .array (.int)
  | 10 => .array (.long)
  | 11 => .array (.int)
  | 12 => .array (.int)
  | 13 => .array (.int)
  | 14 => .array (.boolean)
  | 15 => .array (.int)
  | 16 => .int
  | 17 => .array (.int)
  | 18 => .array (.int)
  | 19 => .int
  | 20 => .int
  | 21 => .array (.int)
  | 22 => .array (.int)
  | 23 => .array (.int)
  | 24 => .array (.int)
  | 25 => .array (.int)
  | 26 => .array (.int)
  | 27 => .int
  | 28 => .array (.int)
  | 29 => .array (.int)
  | 30 => .array (.int)
  | 31 => .array (.int)
  | 32 => .int
  | 33 => .int
  | 34 => .long
  | 35 => .long
  | 36 => .long
  | 37 => .long
  | 38 => .long
  | 39 => .array (.long)
  | 40 => .array (.int)
  | 41 => .array (.long)
  | 42 => .long
  | 43 => .long
  | 44 => .array (.int)
  | 45 => .array (.int)
  | 46 => .array (.int)
  | 47 => .array (.int)
  | 48 => .array (.int)
  | 49 => .array (.boolean)
  | _ => .array (.long)
theorem n_Mod : ∀ a, a < 51 → ∀ b, b < 51 → a ≠ b → (F_Mod a).2.1 ≠ (F_Mod b).2.1 := by decide +kernel
theorem ty_Mod : ∀ k, k < 51 → parseFieldDescriptor (F_Mod k).2.2.1 = some (t_Mod k) := by decide +kernel
theorem i0_Mod : ∀ k, k < 51 → u_lay "WallDampModel" F_Mod k ∈ x_tb := fun k hk => match k, hk with
  | 0, _ => m_844
  | 1, _ => m_846
  | 2, _ => m_848
  | 3, _ => m_850
  | 4, _ => m_852
  | 5, _ => m_854
  | 6, _ => m_856
  | 7, _ => m_858
  | 8, _ => m_860
  | 9, _ => m_862
  | 10, _ => m_864
  | 11, _ => m_866
  | 12, _ => m_868
  | 13, _ => m_870
  | 14, _ => m_872
  | 15, _ => m_874
  | 16, _ => m_876
  | 17, _ => m_878
  | 18, _ => m_880
  | 19, _ => m_882
  | 20, _ => m_884
  | 21, _ => m_886
  | 22, _ => m_888
  | 23, _ => m_890
  | 24, _ => m_892
  | 25, _ => m_894
  | 26, _ => m_896
  | 27, _ => m_898
  | 28, _ => m_900
  | 29, _ => m_902
  | 30, _ => m_904
  | 31, _ => m_906
  | 32, _ => m_908
  | 33, _ => m_910
  | 34, _ => m_912
  | 35, _ => m_914
  | 36, _ => m_916
  | 37, _ => m_918
  | 38, _ => m_920
  | 39, _ => m_922
  | 40, _ => m_924
  | 41, _ => m_926
  | 42, _ => m_928
  | 43, _ => m_930
  | 44, _ => m_932
  | 45, _ => m_934
  | 46, _ => m_936
  | 47, _ => m_938
  | 48, _ => m_940
  | 49, _ => m_942
  | 50, _ => m_944
  | k + 51, h => absurd h (by omega)
theorem i_Mod : ∀ w ∈ u_ws "WallDampModel" F_Mod 51, w ∈ x_tb := fun w hw => by obtain ⟨k, hk, rfl⟩ := List.mem_map.mp hw; exact i0_Mod k (List.mem_range.mp hk)
abbrev x_cl : List vw_C := [("WallDamp", F_WD, 8), ("WallDamp$Air", F_Air, 9), ("WallDamp$Cell", F_Cell, 15), ("WallDamp$Corners", F_Corners, 4), ("WallDamp$Flow", F_Flow, 5), ("WallDamp$Material", F_Material, 4), ("WallDamp$MouldRows", F_MouldRows, 5), ("WallDamp$Surroundings", F_Surroundings, 9), ("WallDamp$Trials", F_Trials, 3), ("WallDamp$Wall", F_Wall, 9), ("WallDampModel", F_Mod, 51)]
def x_FT : Nat → List (Nat × Nat) := fun c => match c with
  | 0 => [(2, 7), (2, 8), (2, 9), (2, 10), (2, 11), (0, 12), (0, 13), (1, 14)]
  | 1 => [(0, 0), (0, 1), (0, 2), (0, 3), (0, 4), (0, 5), (0, 6), (1, 15), (1, 16)]
  | 2 => [(0, 0), (0, 1), (0, 2), (0, 3), (0, 4), (0, 5), (0, 6), (2, 17), (0, 18), (0, 19), (0, 20), (1, 21), (0, 22), (0, 23), (0, 24)]
  | 3 => [(2, 25), (2, 26), (0, 27), (0, 28)]
  | 4 => [(2, 29), (2, 30), (2, 31), (2, 32), (0, 33)]
  | 5 => [(2, 34), (0, 35), (0, 36), (0, 37)]
  | 6 => [(2, 38), (2, 39), (2, 40), (2, 41), (0, 42)]
  | 7 => [(2, 43), (2, 44), (2, 45), (2, 46), (2, 47), (2, 48), (2, 49), (0, 50), (0, 51)]
  | 8 => [(2, 52), (2, 53), (2, 54)]
  | 9 => [(2, 55), (2, 56), (2, 57), (2, 58), (2, 59), (2, 60), (2, 61), (2, 62), (2, 63)]
  | 10 => [(0, 64), (0, 65), (2, 66), (2, 67), (2, 68), (2, 69), (2, 70), (2, 71), (2, 72), (2, 73), (2, 74), (2, 75), (2, 76), (2, 77), (2, 78), (2, 79), (0, 80), (2, 81), (2, 82), (0, 83), (0, 84), (2, 85), (2, 86), (2, 87), (2, 88), (2, 89), (2, 90), (0, 91), (2, 92), (2, 93), (2, 94), (2, 95), (0, 96), (0, 97), (1, 98), (1, 99), (1, 100), (1, 101), (1, 102), (2, 103), (2, 104), (2, 105), (1, 106), (1, 107), (2, 108), (2, 109), (2, 110), (2, 111), (2, 112), (2, 113), (2, 114)]
  | _ => []
theorem nd_WD : (x_FT 0).Nodup := by decide +kernel
theorem k3_WD : ∀ y ∈ x_FT 0, y.1 < 3 := by decide +kernel
theorem nd_Air : (x_FT 1).Nodup := by decide +kernel
theorem k3_Air : ∀ y ∈ x_FT 1, y.1 < 3 := by decide +kernel
theorem nd_Cell : (x_FT 2).Nodup := by decide +kernel
theorem k3_Cell : ∀ y ∈ x_FT 2, y.1 < 3 := by decide +kernel
theorem nd_Corners : (x_FT 3).Nodup := by decide +kernel
theorem k3_Corners : ∀ y ∈ x_FT 3, y.1 < 3 := by decide +kernel
theorem nd_Flow : (x_FT 4).Nodup := by decide +kernel
theorem k3_Flow : ∀ y ∈ x_FT 4, y.1 < 3 := by decide +kernel
theorem nd_Material : (x_FT 5).Nodup := by decide +kernel
theorem k3_Material : ∀ y ∈ x_FT 5, y.1 < 3 := by decide +kernel
theorem nd_MouldRows : (x_FT 6).Nodup := by decide +kernel
theorem k3_MouldRows : ∀ y ∈ x_FT 6, y.1 < 3 := by decide +kernel
theorem nd_Surroundings : (x_FT 7).Nodup := by decide +kernel
theorem k3_Surroundings : ∀ y ∈ x_FT 7, y.1 < 3 := by decide +kernel
theorem nd_Trials : (x_FT 8).Nodup := by decide +kernel
theorem k3_Trials : ∀ y ∈ x_FT 8, y.1 < 3 := by decide +kernel
theorem nd_Wall : (x_FT 9).Nodup := by decide +kernel
theorem k3_Wall : ∀ y ∈ x_FT 9, y.1 < 3 := by decide +kernel
theorem nd_Mod : (x_FT 10).Nodup := by decide +kernel
theorem k3_Mod : ∀ y ∈ x_FT 10, y.1 < 3 := by decide +kernel
abbrev x_tys (aC : Nat → ClassId) : List (ClassId × FieldType) := [(aC 100, .int), (aC 101, .long), (aC 102, .boolean), (aC 103, .object "WallDamp$Material"), (aC 104, .object "WallDamp$Cell"), (aC 105, .object "WallDamp$Flow")]
end
section
abbrev b_WD_init : ByteArray := prog_1_method_1_code
def y_WD_init : MethodName := ⟨"WallDamp", "<init>", "(I)V"⟩
def ws_WD_init : List Cond := .code y_WD_init b_WD_init 4 none :: x_tb
theorem pd_WD_init : y_WD_init.cls ≠ "java/lang/invoke/MethodHandle" ∧ y_WD_init.cls ≠ "java/lang/invoke/VarHandle" ∧ (parseMethodDescriptor y_WD_init.desc).map (fun d => d.parameters.length) = some 1 := by decide +kernel
theorem d_WD_init_0 : decode b_WD_init 0 = .ok (.aload_n 0, 1) := by decide +kernel
theorem d_WD_init_1 : decode b_WD_init 1 = .ok (.invokespecial 1, 3) := by decide +kernel
theorem d_WD_init_4 : decode b_WD_init 4 = .ok (.iconst 1, 1) := by decide +kernel
theorem d_WD_init_5 : decode b_WD_init 5 = .ok (.bipush 12, 2) := by decide +kernel
theorem d_WD_init_7 : decode b_WD_init 7 = .ok (.iload_n 1, 1) := by decide +kernel
theorem d_WD_init_8 : decode b_WD_init 8 = .ok (.invokestatic 9, 3) := by decide +kernel
theorem d_WD_init_11 : decode b_WD_init 11 = .ok (.invokestatic 15, 3) := by decide +kernel
theorem d_WD_init_14 : decode b_WD_init 14 = .ok (.istore_n 2, 1) := by decide +kernel
theorem d_WD_init_15 : decode b_WD_init 15 = .ok (.aload_n 0, 1) := by decide +kernel
theorem d_WD_init_16 : decode b_WD_init 16 = .ok (.bipush 6, 2) := by decide +kernel
theorem d_WD_init_18 : decode b_WD_init 18 = .ok (.anewarray 18, 3) := by decide +kernel
theorem d_WD_init_21 : decode b_WD_init 21 = .ok (.putfield 20, 3) := by decide +kernel
theorem d_WD_init_24 : decode b_WD_init 24 = .ok (.iconst 0, 1) := by decide +kernel
theorem d_WD_init_25 : decode b_WD_init 25 = .ok (.istore_n 3, 1) := by decide +kernel
theorem d_WD_init_26 : decode b_WD_init 26 = .ok (.iload_n 3, 1) := by decide +kernel
theorem d_WD_init_27 : decode b_WD_init 27 = .ok (.aload_n 0, 1) := by decide +kernel
theorem d_WD_init_28 : decode b_WD_init 28 = .ok (.getfield 20, 3) := by decide +kernel
theorem d_WD_init_31 : decode b_WD_init 31 = .ok (.arraylength, 1) := by decide +kernel
theorem d_WD_init_32 : decode b_WD_init 32 = .ok (.if_icmp .ge 22, 3) := by decide +kernel
theorem d_WD_init_35 : decode b_WD_init 35 = .ok (.aload_n 0, 1) := by decide +kernel
theorem d_WD_init_36 : decode b_WD_init 36 = .ok (.getfield 20, 3) := by decide +kernel
theorem d_WD_init_39 : decode b_WD_init 39 = .ok (.iload_n 3, 1) := by decide +kernel
theorem d_WD_init_40 : decode b_WD_init 40 = .ok (.new 18, 3) := by decide +kernel
theorem d_WD_init_43 : decode b_WD_init 43 = .ok (.dup, 1) := by decide +kernel
theorem d_WD_init_44 : decode b_WD_init 44 = .ok (.invokespecial 24, 3) := by decide +kernel
theorem d_WD_init_47 : decode b_WD_init 47 = .ok (.aastore, 1) := by decide +kernel
theorem d_WD_init_48 : decode b_WD_init 48 = .ok (.iinc 3 1, 3) := by decide +kernel
theorem d_WD_init_51 : decode b_WD_init 51 = .ok (.goto (-25), 3) := by decide +kernel
theorem d_WD_init_54 : decode b_WD_init 54 = .ok (.aload_n 0, 1) := by decide +kernel
theorem d_WD_init_55 : decode b_WD_init 55 = .ok (.new 25, 3) := by decide +kernel
theorem d_WD_init_58 : decode b_WD_init 58 = .ok (.dup, 1) := by decide +kernel
theorem d_WD_init_59 : decode b_WD_init 59 = .ok (.invokespecial 27, 3) := by decide +kernel
theorem d_WD_init_62 : decode b_WD_init 62 = .ok (.putfield 28, 3) := by decide +kernel
theorem d_WD_init_65 : decode b_WD_init 65 = .ok (.aload_n 0, 1) := by decide +kernel
theorem d_WD_init_66 : decode b_WD_init 66 = .ok (.new 32, 3) := by decide +kernel
theorem d_WD_init_69 : decode b_WD_init 69 = .ok (.dup, 1) := by decide +kernel
theorem d_WD_init_70 : decode b_WD_init 70 = .ok (.invokespecial 34, 3) := by decide +kernel
theorem d_WD_init_73 : decode b_WD_init 73 = .ok (.putfield 35, 3) := by decide +kernel
theorem d_WD_init_76 : decode b_WD_init 76 = .ok (.aload_n 0, 1) := by decide +kernel
theorem d_WD_init_77 : decode b_WD_init 77 = .ok (.new 39, 3) := by decide +kernel
theorem d_WD_init_80 : decode b_WD_init 80 = .ok (.dup, 1) := by decide +kernel
theorem d_WD_init_81 : decode b_WD_init 81 = .ok (.iload_n 2, 1) := by decide +kernel
theorem d_WD_init_82 : decode b_WD_init 82 = .ok (.aload_n 0, 1) := by decide +kernel
theorem d_WD_init_83 : decode b_WD_init 83 = .ok (.getfield 20, 3) := by decide +kernel
theorem d_WD_init_86 : decode b_WD_init 86 = .ok (.iconst 0, 1) := by decide +kernel
theorem d_WD_init_87 : decode b_WD_init 87 = .ok (.aaload, 1) := by decide +kernel
theorem d_WD_init_88 : decode b_WD_init 88 = .ok (.invokespecial 41, 3) := by decide +kernel
theorem d_WD_init_91 : decode b_WD_init 91 = .ok (.putfield 44, 3) := by decide +kernel
theorem d_WD_init_94 : decode b_WD_init 94 = .ok (.aload_n 0, 1) := by decide +kernel
theorem d_WD_init_95 : decode b_WD_init 95 = .ok (.new 48, 3) := by decide +kernel
theorem d_WD_init_98 : decode b_WD_init 98 = .ok (.dup, 1) := by decide +kernel
theorem d_WD_init_99 : decode b_WD_init 99 = .ok (.new 39, 3) := by decide +kernel
theorem d_WD_init_102 : decode b_WD_init 102 = .ok (.dup, 1) := by decide +kernel
theorem d_WD_init_103 : decode b_WD_init 103 = .ok (.iload_n 2, 1) := by decide +kernel
theorem d_WD_init_104 : decode b_WD_init 104 = .ok (.aload_n 0, 1) := by decide +kernel
theorem d_WD_init_105 : decode b_WD_init 105 = .ok (.getfield 20, 3) := by decide +kernel
theorem d_WD_init_108 : decode b_WD_init 108 = .ok (.iconst 0, 1) := by decide +kernel
theorem d_WD_init_109 : decode b_WD_init 109 = .ok (.aaload, 1) := by decide +kernel
theorem d_WD_init_110 : decode b_WD_init 110 = .ok (.invokespecial 41, 3) := by decide +kernel
theorem d_WD_init_113 : decode b_WD_init 113 = .ok (.invokespecial 50, 3) := by decide +kernel
theorem d_WD_init_116 : decode b_WD_init 116 = .ok (.putfield 53, 3) := by decide +kernel
theorem d_WD_init_119 : decode b_WD_init 119 = .ok (.aload_n 0, 1) := by decide +kernel
theorem d_WD_init_120 : decode b_WD_init 120 = .ok (.iconst 0, 1) := by decide +kernel
theorem d_WD_init_121 : decode b_WD_init 121 = .ok (.putfield 57, 3) := by decide +kernel
theorem d_WD_init_124 : decode b_WD_init 124 = .ok (.aload_n 0, 1) := by decide +kernel
theorem d_WD_init_125 : decode b_WD_init 125 = .ok (.iconst 0, 1) := by decide +kernel
theorem d_WD_init_126 : decode b_WD_init 126 = .ok (.putfield 61, 3) := by decide +kernel
theorem d_WD_init_129 : decode b_WD_init 129 = .ok (.aload_n 0, 1) := by decide +kernel
theorem d_WD_init_130 : decode b_WD_init 130 = .ok (.lconst 0, 1) := by decide +kernel
theorem d_WD_init_131 : decode b_WD_init 131 = .ok (.putfield 64, 3) := by decide +kernel
theorem d_WD_init_134 : decode b_WD_init 134 = .ok (.return_, 1) := by decide +kernel
abbrev b_WD_curve : ByteArray := prog_1_method_2_code
def y_WD_curve : MethodName := ⟨"WallDamp", "curve", "(III)I"⟩
def ws_WD_curve : List Cond := .code y_WD_curve b_WD_curve 5 (some (.int)) :: x_tb
theorem pd_WD_curve : y_WD_curve.cls ≠ "java/lang/invoke/MethodHandle" ∧ y_WD_curve.cls ≠ "java/lang/invoke/VarHandle" ∧ (parseMethodDescriptor y_WD_curve.desc).map (fun d => d.parameters.length) = some 3 := by decide +kernel
theorem d_WD_curve_0 : decode b_WD_curve 0 = .ok (.aload_n 0, 1) := by decide +kernel
theorem d_WD_curve_1 : decode b_WD_curve 1 = .ok (.iload_n 1, 1) := by decide +kernel
theorem d_WD_curve_2 : decode b_WD_curve 2 = .ok (.invokevirtual 68, 3) := by decide +kernel
theorem d_WD_curve_5 : decode b_WD_curve 5 = .ok (.astore 4, 2) := by decide +kernel
theorem d_WD_curve_7 : decode b_WD_curve 7 = .ok (.iload_n 2, 1) := by decide +kernel
theorem d_WD_curve_8 : decode b_WD_curve 8 = .ok (.iconst 0, 1) := by decide +kernel
theorem d_WD_curve_9 : decode b_WD_curve 9 = .ok (.ldc 72, 2) := by decide +kernel
theorem d_WD_curve_11 : decode b_WD_curve 11 = .ok (.invokestatic 73, 3) := by decide +kernel
theorem d_WD_curve_14 : decode b_WD_curve 14 = .ok (.iload_n 3, 1) := by decide +kernel
theorem d_WD_curve_15 : decode b_WD_curve 15 = .ok (.iconst 0, 1) := by decide +kernel
theorem d_WD_curve_16 : decode b_WD_curve 16 = .ok (.sipush 10000, 3) := by decide +kernel
theorem d_WD_curve_19 : decode b_WD_curve 19 = .ok (.invokestatic 73, 3) := by decide +kernel
theorem d_WD_curve_22 : decode b_WD_curve 22 = .ok (.aload_n 0, 1) := by decide +kernel
theorem d_WD_curve_23 : decode b_WD_curve 23 = .ok (.invokevirtual 77, 3) := by decide +kernel
theorem d_WD_curve_26 : decode b_WD_curve 26 = .ok (.aload 4, 2) := by decide +kernel
theorem d_WD_curve_28 : decode b_WD_curve 28 = .ok (.getfield 80, 3) := by decide +kernel
theorem d_WD_curve_31 : decode b_WD_curve 31 = .ok (.iload_n 2, 1) := by decide +kernel
theorem d_WD_curve_32 : decode b_WD_curve 32 = .ok (.iload_n 3, 1) := by decide +kernel
theorem d_WD_curve_33 : decode b_WD_curve 33 = .ok (.invokestatic 84, 3) := by decide +kernel
theorem d_WD_curve_36 : decode b_WD_curve 36 = .ok (.ireturn, 1) := by decide +kernel
abbrev b_WD_rates : ByteArray := prog_1_method_3_code
def y_WD_rates : MethodName := ⟨"WallDamp", "rates", "(IIII)V"⟩
def ws_WD_rates : List Cond := .code y_WD_rates b_WD_rates 6 none :: x_tb
theorem pd_WD_rates : y_WD_rates.cls ≠ "java/lang/invoke/MethodHandle" ∧ y_WD_rates.cls ≠ "java/lang/invoke/VarHandle" ∧ (parseMethodDescriptor y_WD_rates.desc).map (fun d => d.parameters.length) = some 4 := by decide +kernel
theorem d_WD_rates_0 : decode b_WD_rates 0 = .ok (.aload_n 0, 1) := by decide +kernel
theorem d_WD_rates_1 : decode b_WD_rates 1 = .ok (.iload_n 1, 1) := by decide +kernel
theorem d_WD_rates_2 : decode b_WD_rates 2 = .ok (.invokevirtual 68, 3) := by decide +kernel
theorem d_WD_rates_5 : decode b_WD_rates 5 = .ok (.astore 5, 2) := by decide +kernel
theorem d_WD_rates_7 : decode b_WD_rates 7 = .ok (.iload_n 2, 1) := by decide +kernel
theorem d_WD_rates_8 : decode b_WD_rates 8 = .ok (.iconst 0, 1) := by decide +kernel
theorem d_WD_rates_9 : decode b_WD_rates 9 = .ok (.sipush 1000, 3) := by decide +kernel
theorem d_WD_rates_12 : decode b_WD_rates 12 = .ok (.invokestatic 73, 3) := by decide +kernel
theorem d_WD_rates_15 : decode b_WD_rates 15 = .ok (.iload_n 3, 1) := by decide +kernel
theorem d_WD_rates_16 : decode b_WD_rates 16 = .ok (.iconst 0, 1) := by decide +kernel
theorem d_WD_rates_17 : decode b_WD_rates 17 = .ok (.sipush 1000, 3) := by decide +kernel
theorem d_WD_rates_20 : decode b_WD_rates 20 = .ok (.invokestatic 73, 3) := by decide +kernel
theorem d_WD_rates_23 : decode b_WD_rates 23 = .ok (.iload 4, 2) := by decide +kernel
theorem d_WD_rates_25 : decode b_WD_rates 25 = .ok (.iconst 1, 1) := by decide +kernel
theorem d_WD_rates_26 : decode b_WD_rates 26 = .ok (.sipush 1000, 3) := by decide +kernel
theorem d_WD_rates_29 : decode b_WD_rates 29 = .ok (.invokestatic 73, 3) := by decide +kernel
theorem d_WD_rates_32 : decode b_WD_rates 32 = .ok (.aload 5, 2) := by decide +kernel
theorem d_WD_rates_34 : decode b_WD_rates 34 = .ok (.iload_n 2, 1) := by decide +kernel
theorem d_WD_rates_35 : decode b_WD_rates 35 = .ok (.putfield 88, 3) := by decide +kernel
theorem d_WD_rates_38 : decode b_WD_rates 38 = .ok (.aload 5, 2) := by decide +kernel
theorem d_WD_rates_40 : decode b_WD_rates 40 = .ok (.iload_n 3, 1) := by decide +kernel
theorem d_WD_rates_41 : decode b_WD_rates 41 = .ok (.putfield 91, 3) := by decide +kernel
theorem d_WD_rates_44 : decode b_WD_rates 44 = .ok (.aload 5, 2) := by decide +kernel
theorem d_WD_rates_46 : decode b_WD_rates 46 = .ok (.iload 4, 2) := by decide +kernel
theorem d_WD_rates_48 : decode b_WD_rates 48 = .ok (.putfield 94, 3) := by decide +kernel
theorem d_WD_rates_51 : decode b_WD_rates 51 = .ok (.return_, 1) := by decide +kernel
abbrev b_WD_cell : ByteArray := prog_1_method_4_code
def y_WD_cell : MethodName := ⟨"WallDamp", "cell", "(III)V"⟩
def ws_WD_cell : List Cond := .code y_WD_cell b_WD_cell 6 none :: x_tb
theorem pd_WD_cell : y_WD_cell.cls ≠ "java/lang/invoke/MethodHandle" ∧ y_WD_cell.cls ≠ "java/lang/invoke/VarHandle" ∧ (parseMethodDescriptor y_WD_cell.desc).map (fun d => d.parameters.length) = some 3 := by decide +kernel
theorem d_WD_cell_0 : decode b_WD_cell 0 = .ok (.aload_n 0, 1) := by decide +kernel
theorem d_WD_cell_1 : decode b_WD_cell 1 = .ok (.iload_n 1, 1) := by decide +kernel
theorem d_WD_cell_2 : decode b_WD_cell 2 = .ok (.invokevirtual 97, 3) := by decide +kernel
theorem d_WD_cell_5 : decode b_WD_cell 5 = .ok (.astore 4, 2) := by decide +kernel
theorem d_WD_cell_7 : decode b_WD_cell 7 = .ok (.aload_n 0, 1) := by decide +kernel
theorem d_WD_cell_8 : decode b_WD_cell 8 = .ok (.iload_n 2, 1) := by decide +kernel
theorem d_WD_cell_9 : decode b_WD_cell 9 = .ok (.invokevirtual 68, 3) := by decide +kernel
theorem d_WD_cell_12 : decode b_WD_cell 12 = .ok (.astore 5, 2) := by decide +kernel
theorem d_WD_cell_14 : decode b_WD_cell 14 = .ok (.iload_n 3, 1) := by decide +kernel
theorem d_WD_cell_15 : decode b_WD_cell 15 = .ok (.iconst 1, 1) := by decide +kernel
theorem d_WD_cell_16 : decode b_WD_cell 16 = .ok (.sipush 1000, 3) := by decide +kernel
theorem d_WD_cell_19 : decode b_WD_cell 19 = .ok (.invokestatic 73, 3) := by decide +kernel
theorem d_WD_cell_22 : decode b_WD_cell 22 = .ok (.aload_n 0, 1) := by decide +kernel
theorem d_WD_cell_23 : decode b_WD_cell 23 = .ok (.invokevirtual 77, 3) := by decide +kernel
theorem d_WD_cell_26 : decode b_WD_cell 26 = .ok (.aload_n 0, 1) := by decide +kernel
theorem d_WD_cell_27 : decode b_WD_cell 27 = .ok (.dup, 1) := by decide +kernel
theorem d_WD_cell_28 : decode b_WD_cell 28 = .ok (.getfield 64, 3) := by decide +kernel
theorem d_WD_cell_31 : decode b_WD_cell 31 = .ok (.aload 4, 2) := by decide +kernel
theorem d_WD_cell_33 : decode b_WD_cell 33 = .ok (.getfield 101, 3) := by decide +kernel
theorem d_WD_cell_36 : decode b_WD_cell 36 = .ok (.i2l, 1) := by decide +kernel
theorem d_WD_cell_37 : decode b_WD_cell 37 = .ok (.lsub, 1) := by decide +kernel
theorem d_WD_cell_38 : decode b_WD_cell 38 = .ok (.putfield 64, 3) := by decide +kernel
theorem d_WD_cell_41 : decode b_WD_cell 41 = .ok (.aload 4, 2) := by decide +kernel
theorem d_WD_cell_43 : decode b_WD_cell 43 = .ok (.iconst 0, 1) := by decide +kernel
theorem d_WD_cell_44 : decode b_WD_cell 44 = .ok (.putfield 101, 3) := by decide +kernel
theorem d_WD_cell_47 : decode b_WD_cell 47 = .ok (.aload 4, 2) := by decide +kernel
theorem d_WD_cell_49 : decode b_WD_cell 49 = .ok (.aload 5, 2) := by decide +kernel
theorem d_WD_cell_51 : decode b_WD_cell 51 = .ok (.putfield 106, 3) := by decide +kernel
theorem d_WD_cell_54 : decode b_WD_cell 54 = .ok (.aload 4, 2) := by decide +kernel
theorem d_WD_cell_56 : decode b_WD_cell 56 = .ok (.iload_n 3, 1) := by decide +kernel
theorem d_WD_cell_57 : decode b_WD_cell 57 = .ok (.putfield 110, 3) := by decide +kernel
theorem d_WD_cell_60 : decode b_WD_cell 60 = .ok (.return_, 1) := by decide +kernel
abbrev b_WD_table : ByteArray := prog_1_method_5_code
def y_WD_table : MethodName := ⟨"WallDamp", "table", "(II)I"⟩
def ws_WD_table : List Cond := .code y_WD_table b_WD_table 3 (some (.int)) :: x_tb
theorem pd_WD_table : y_WD_table.cls ≠ "java/lang/invoke/MethodHandle" ∧ y_WD_table.cls ≠ "java/lang/invoke/VarHandle" ∧ (parseMethodDescriptor y_WD_table.desc).map (fun d => d.parameters.length) = some 2 := by decide +kernel
theorem d_WD_table_0 : decode b_WD_table 0 = .ok (.iload_n 1, 1) := by decide +kernel
theorem d_WD_table_1 : decode b_WD_table 1 = .ok (.sipush (-5000), 3) := by decide +kernel
theorem d_WD_table_4 : decode b_WD_table 4 = .ok (.sipush 10000, 3) := by decide +kernel
theorem d_WD_table_7 : decode b_WD_table 7 = .ok (.invokestatic 73, 3) := by decide +kernel
theorem d_WD_table_10 : decode b_WD_table 10 = .ok (.iload_n 2, 1) := by decide +kernel
theorem d_WD_table_11 : decode b_WD_table 11 = .ok (.iconst 0, 1) := by decide +kernel
theorem d_WD_table_12 : decode b_WD_table 12 = .ok (.ldc 113, 2) := by decide +kernel
theorem d_WD_table_14 : decode b_WD_table 14 = .ok (.invokestatic 73, 3) := by decide +kernel
theorem d_WD_table_17 : decode b_WD_table 17 = .ok (.aload_n 0, 1) := by decide +kernel
theorem d_WD_table_18 : decode b_WD_table 18 = .ok (.getfield 28, 3) := by decide +kernel
theorem d_WD_table_21 : decode b_WD_table 21 = .ok (.getfield 114, 3) := by decide +kernel
theorem d_WD_table_24 : decode b_WD_table 24 = .ok (.iload_n 1, 1) := by decide +kernel
theorem d_WD_table_25 : decode b_WD_table 25 = .ok (.iload_n 2, 1) := by decide +kernel
theorem d_WD_table_26 : decode b_WD_table 26 = .ok (.invokestatic 84, 3) := by decide +kernel
theorem d_WD_table_29 : decode b_WD_table 29 = .ok (.ireturn, 1) := by decide +kernel
abbrev b_WD_full : ByteArray := prog_1_method_6_code
def y_WD_full : MethodName := ⟨"WallDamp", "full", "(I)I"⟩
def ws_WD_full : List Cond := .code y_WD_full b_WD_full 2 (some (.int)) :: x_tb
theorem pd_WD_full : y_WD_full.cls ≠ "java/lang/invoke/MethodHandle" ∧ y_WD_full.cls ≠ "java/lang/invoke/VarHandle" ∧ (parseMethodDescriptor y_WD_full.desc).map (fun d => d.parameters.length) = some 1 := by decide +kernel
theorem d_WD_full_0 : decode b_WD_full 0 = .ok (.iload_n 1, 1) := by decide +kernel
theorem d_WD_full_1 : decode b_WD_full 1 = .ok (.sipush (-5000), 3) := by decide +kernel
theorem d_WD_full_4 : decode b_WD_full 4 = .ok (.sipush 10000, 3) := by decide +kernel
theorem d_WD_full_7 : decode b_WD_full 7 = .ok (.invokestatic 73, 3) := by decide +kernel
theorem d_WD_full_10 : decode b_WD_full 10 = .ok (.aload_n 0, 1) := by decide +kernel
theorem d_WD_full_11 : decode b_WD_full 11 = .ok (.getfield 28, 3) := by decide +kernel
theorem d_WD_full_14 : decode b_WD_full 14 = .ok (.getfield 114, 3) := by decide +kernel
theorem d_WD_full_17 : decode b_WD_full 17 = .ok (.iload_n 1, 1) := by decide +kernel
theorem d_WD_full_18 : decode b_WD_full 18 = .ok (.invokevirtual 117, 3) := by decide +kernel
theorem d_WD_full_21 : decode b_WD_full 21 = .ok (.ireturn, 1) := by decide +kernel
abbrev b_WD_films : ByteArray := prog_1_method_7_code
def y_WD_films : MethodName := ⟨"WallDamp", "films", "(II)V"⟩
def ws_WD_films : List Cond := .code y_WD_films b_WD_films 3 none :: x_tb
theorem pd_WD_films : y_WD_films.cls ≠ "java/lang/invoke/MethodHandle" ∧ y_WD_films.cls ≠ "java/lang/invoke/VarHandle" ∧ (parseMethodDescriptor y_WD_films.desc).map (fun d => d.parameters.length) = some 2 := by decide +kernel
theorem d_WD_films_0 : decode b_WD_films 0 = .ok (.iload_n 1, 1) := by decide +kernel
theorem d_WD_films_1 : decode b_WD_films 1 = .ok (.iconst 0, 1) := by decide +kernel
theorem d_WD_films_2 : decode b_WD_films 2 = .ok (.sipush 1000, 3) := by decide +kernel
theorem d_WD_films_5 : decode b_WD_films 5 = .ok (.invokestatic 73, 3) := by decide +kernel
theorem d_WD_films_8 : decode b_WD_films 8 = .ok (.iload_n 2, 1) := by decide +kernel
theorem d_WD_films_9 : decode b_WD_films 9 = .ok (.iconst 0, 1) := by decide +kernel
theorem d_WD_films_10 : decode b_WD_films 10 = .ok (.sipush 1000, 3) := by decide +kernel
theorem d_WD_films_13 : decode b_WD_films 13 = .ok (.invokestatic 73, 3) := by decide +kernel
theorem d_WD_films_16 : decode b_WD_films 16 = .ok (.aload_n 0, 1) := by decide +kernel
theorem d_WD_films_17 : decode b_WD_films 17 = .ok (.getfield 28, 3) := by decide +kernel
theorem d_WD_films_20 : decode b_WD_films 20 = .ok (.iload_n 1, 1) := by decide +kernel
theorem d_WD_films_21 : decode b_WD_films 21 = .ok (.putfield 123, 3) := by decide +kernel
theorem d_WD_films_24 : decode b_WD_films 24 = .ok (.aload_n 0, 1) := by decide +kernel
theorem d_WD_films_25 : decode b_WD_films 25 = .ok (.getfield 28, 3) := by decide +kernel
theorem d_WD_films_28 : decode b_WD_films 28 = .ok (.iload_n 2, 1) := by decide +kernel
theorem d_WD_films_29 : decode b_WD_films 29 = .ok (.putfield 126, 3) := by decide +kernel
theorem d_WD_films_32 : decode b_WD_films 32 = .ok (.return_, 1) := by decide +kernel
abbrev b_WD_outside : ByteArray := prog_1_method_8_code
end
