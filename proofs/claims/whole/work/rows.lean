section
-- ===== PART A: goes FIRST, ahead of the names: the tables' words, and 'selects' of the private methods out of them =====
/-- a private method of a class that the tables say can be made, by its rows of tables_1 -/
def lw_okq (q : MethodName × Nat) : Prop := (q.1.cls ≠ "java/lang/invoke/MethodHandle" ∧ q.1.cls ≠ "java/lang/invoke/VarHandle") ∧ Cond.instantiable q.1.cls q.2 ∈ tables_1 ∧ Cond.privateMethod q.1 ∈ tables_1 ∧ Cond.instanceMethod q.1 ∈ tables_1
theorem lw_p0 : lw_okq (⟨"WallDamp", "materialOf", "(I)LWallDamp$Material;"⟩, 8) := ⟨⟨by decide +kernel, by decide +kernel⟩, List.mem_of_getElem? (i := 20) (by decide +kernel), List.mem_of_getElem? (i := 387) (by decide +kernel), List.mem_of_getElem? (i := 388) (by decide +kernel)⟩
theorem lw_p1 : lw_okq (⟨"java/lang/Throwable", "fillInStackTrace", "(I)Ljava/lang/Throwable;"⟩, 6) := ⟨⟨by decide +kernel, by decide +kernel⟩, List.mem_of_getElem? (i := 431) (by decide +kernel), List.mem_of_getElem? (i := 429) (by decide +kernel), List.mem_of_getElem? (i := 430) (by decide +kernel)⟩
theorem lw_p2 : lw_okq (⟨"WallDamp", "requireNoHourOver", "()V"⟩, 8) := ⟨⟨by decide +kernel, by decide +kernel⟩, List.mem_of_getElem? (i := 20) (by decide +kernel), List.mem_of_getElem? (i := 462) (by decide +kernel), List.mem_of_getElem? (i := 463) (by decide +kernel)⟩
theorem lw_p3 : lw_okq (⟨"WallDamp", "cellAt", "(I)LWallDamp$Cell;"⟩, 8) := ⟨⟨by decide +kernel, by decide +kernel⟩, List.mem_of_getElem? (i := 20) (by decide +kernel), List.mem_of_getElem? (i := 505) (by decide +kernel), List.mem_of_getElem? (i := 506) (by decide +kernel)⟩
theorem lw_p4 : lw_okq (⟨"WallDamp", "passHour", "()V"⟩, 8) := ⟨⟨by decide +kernel, by decide +kernel⟩, List.mem_of_getElem? (i := 20) (by decide +kernel), List.mem_of_getElem? (i := 598) (by decide +kernel), List.mem_of_getElem? (i := 599) (by decide +kernel)⟩
theorem lw_p5 : lw_okq (⟨"WallDamp$Wall", "warmCells", "(LWallDamp$Surroundings;)V"⟩, 9) := ⟨⟨by decide +kernel, by decide +kernel⟩, List.mem_of_getElem? (i := 162) (by decide +kernel), List.mem_of_getElem? (i := 609) (by decide +kernel), List.mem_of_getElem? (i := 610) (by decide +kernel)⟩
theorem lw_p6 : lw_okq (⟨"WallDamp$Wall", "setAirFlows", "(I)V"⟩, 9) := ⟨⟨by decide +kernel, by decide +kernel⟩, List.mem_of_getElem? (i := 162) (by decide +kernel), List.mem_of_getElem? (i := 652) (by decide +kernel), List.mem_of_getElem? (i := 653) (by decide +kernel)⟩
theorem lw_p7 : lw_okq (⟨"WallDamp$Wall", "setFlowsBetween", "()V"⟩, 9) := ⟨⟨by decide +kernel, by decide +kernel⟩, List.mem_of_getElem? (i := 162) (by decide +kernel), List.mem_of_getElem? (i := 664) (by decide +kernel), List.mem_of_getElem? (i := 665) (by decide +kernel)⟩
theorem lw_p8 : lw_okq (⟨"WallDamp$Wall", "limitFlows", "()V"⟩, 9) := ⟨⟨by decide +kernel, by decide +kernel⟩, List.mem_of_getElem? (i := 162) (by decide +kernel), List.mem_of_getElem? (i := 669) (by decide +kernel), List.mem_of_getElem? (i := 670) (by decide +kernel)⟩
theorem lw_p9 : lw_okq (⟨"WallDamp$Flow", "portion", "(II)I"⟩, 5) := ⟨⟨by decide +kernel, by decide +kernel⟩, List.mem_of_getElem? (i := 275) (by decide +kernel), List.mem_of_getElem? (i := 681) (by decide +kernel), List.mem_of_getElem? (i := 682) (by decide +kernel)⟩
theorem lw_p10 : lw_okq (⟨"WallDamp", "growMould", "()V"⟩, 8) := ⟨⟨by decide +kernel, by decide +kernel⟩, List.mem_of_getElem? (i := 20) (by decide +kernel), List.mem_of_getElem? (i := 724) (by decide +kernel), List.mem_of_getElem? (i := 725) (by decide +kernel)⟩
theorem lw_p11 : lw_okq (⟨"WallDamp$Trials", "waterBehind", "(LWallDamp$Wall;LWallDamp$Surroundings;I)J"⟩, 3) := ⟨⟨by decide +kernel, by decide +kernel⟩, List.mem_of_getElem? (i := 329) (by decide +kernel), List.mem_of_getElem? (i := 766) (by decide +kernel), List.mem_of_getElem? (i := 767) (by decide +kernel)⟩
theorem lw_p12 : lw_okq (⟨"WallDamp$Trials", "keepRow", "(I)V"⟩, 3) := ⟨⟨by decide +kernel, by decide +kernel⟩, List.mem_of_getElem? (i := 329) (by decide +kernel), List.mem_of_getElem? (i := 776) (by decide +kernel), List.mem_of_getElem? (i := 777) (by decide +kernel)⟩
theorem lw_p13 : lw_okq (⟨"WallDamp$Trials", "stepRow", "(I)Z"⟩, 3) := ⟨⟨by decide +kernel, by decide +kernel⟩, List.mem_of_getElem? (i := 329) (by decide +kernel), List.mem_of_getElem? (i := 780) (by decide +kernel), List.mem_of_getElem? (i := 781) (by decide +kernel)⟩
theorem lw_p14 : lw_okq (⟨"WallDamp$Trials", "swap", "(II)V"⟩, 3) := ⟨⟨by decide +kernel, by decide +kernel⟩, List.mem_of_getElem? (i := 329) (by decide +kernel), List.mem_of_getElem? (i := 784) (by decide +kernel), List.mem_of_getElem? (i := 785) (by decide +kernel)⟩
theorem lw_p15 : lw_okq (⟨"WallDampModel", "most", "(I)I"⟩, 51) := ⟨⟨by decide +kernel, by decide +kernel⟩, List.mem_of_getElem? (i := 788) (by decide +kernel), List.mem_of_getElem? (i := 964) (by decide +kernel), List.mem_of_getElem? (i := 965) (by decide +kernel)⟩
def lw_privs_1 : List (MethodName × Nat) := [(⟨"WallDamp", "materialOf", "(I)LWallDamp$Material;"⟩, 8), (⟨"java/lang/Throwable", "fillInStackTrace", "(I)Ljava/lang/Throwable;"⟩, 6), (⟨"WallDamp", "requireNoHourOver", "()V"⟩, 8), (⟨"WallDamp", "cellAt", "(I)LWallDamp$Cell;"⟩, 8), (⟨"WallDamp", "passHour", "()V"⟩, 8), (⟨"WallDamp$Wall", "warmCells", "(LWallDamp$Surroundings;)V"⟩, 9), (⟨"WallDamp$Wall", "setAirFlows", "(I)V"⟩, 9), (⟨"WallDamp$Wall", "setFlowsBetween", "()V"⟩, 9), (⟨"WallDamp$Wall", "limitFlows", "()V"⟩, 9), (⟨"WallDamp$Flow", "portion", "(II)I"⟩, 5), (⟨"WallDamp", "growMould", "()V"⟩, 8), (⟨"WallDamp$Trials", "waterBehind", "(LWallDamp$Wall;LWallDamp$Surroundings;I)J"⟩, 3), (⟨"WallDamp$Trials", "keepRow", "(I)V"⟩, 3), (⟨"WallDamp$Trials", "stepRow", "(I)Z"⟩, 3), (⟨"WallDamp$Trials", "swap", "(II)V"⟩, 3), (⟨"WallDampModel", "most", "(I)I"⟩, 51)]
theorem lw_r1 : ∀ q ∈ lw_privs_1, lw_okq q := List.forall_mem_cons.mpr ⟨lw_p0, List.forall_mem_cons.mpr ⟨lw_p1, List.forall_mem_cons.mpr ⟨lw_p2, List.forall_mem_cons.mpr ⟨lw_p3, List.forall_mem_cons.mpr ⟨lw_p4, List.forall_mem_cons.mpr ⟨lw_p5, List.forall_mem_cons.mpr ⟨lw_p6, List.forall_mem_cons.mpr ⟨lw_p7, List.forall_mem_cons.mpr ⟨lw_p8, List.forall_mem_cons.mpr ⟨lw_p9, List.forall_mem_cons.mpr ⟨lw_p10, List.forall_mem_cons.mpr ⟨lw_p11, List.forall_mem_cons.mpr ⟨lw_p12, List.forall_mem_cons.mpr ⟨lw_p13, List.forall_mem_cons.mpr ⟨lw_p14, List.forall_mem_cons.mpr ⟨lw_p15, fun _ h => absurd h List.not_mem_nil⟩⟩⟩⟩⟩⟩⟩⟩⟩⟩⟩⟩⟩⟩⟩⟩
theorem lw_p16 : lw_okq (⟨"WallDampModel", "isCell", "(I)Z"⟩, 51) := ⟨⟨by decide +kernel, by decide +kernel⟩, List.mem_of_getElem? (i := 788) (by decide +kernel), List.mem_of_getElem? (i := 977) (by decide +kernel), List.mem_of_getElem? (i := 978) (by decide +kernel)⟩
theorem lw_p17 : lw_okq (⟨"WallDampModel", "fullAt", "(I)I"⟩, 51) := ⟨⟨by decide +kernel, by decide +kernel⟩, List.mem_of_getElem? (i := 788) (by decide +kernel), List.mem_of_getElem? (i := 991) (by decide +kernel), List.mem_of_getElem? (i := 992) (by decide +kernel)⟩
theorem lw_p18 : lw_okq (⟨"WallDampModel", "hour", "(I)V"⟩, 51) := ⟨⟨by decide +kernel, by decide +kernel⟩, List.mem_of_getElem? (i := 788) (by decide +kernel), List.mem_of_getElem? (i := 1026) (by decide +kernel), List.mem_of_getElem? (i := 1027) (by decide +kernel)⟩
theorem lw_p19 : lw_okq (⟨"WallDampModel", "warm", "(I)V"⟩, 51) := ⟨⟨by decide +kernel, by decide +kernel⟩, List.mem_of_getElem? (i := 788) (by decide +kernel), List.mem_of_getElem? (i := 1030) (by decide +kernel), List.mem_of_getElem? (i := 1031) (by decide +kernel)⟩
theorem lw_p20 : lw_okq (⟨"WallDampModel", "resistance", "(I)I"⟩, 51) := ⟨⟨by decide +kernel, by decide +kernel⟩, List.mem_of_getElem? (i := 788) (by decide +kernel), List.mem_of_getElem? (i := 1035) (by decide +kernel), List.mem_of_getElem? (i := 1036) (by decide +kernel)⟩
theorem lw_p21 : lw_okq (⟨"WallDampModel", "flow", "(I)V"⟩, 51) := ⟨⟨by decide +kernel, by decide +kernel⟩, List.mem_of_getElem? (i := 788) (by decide +kernel), List.mem_of_getElem? (i := 1042) (by decide +kernel), List.mem_of_getElem? (i := 1043) (by decide +kernel)⟩
theorem lw_p22 : lw_okq (⟨"WallDampModel", "dampOf", "(I)I"⟩, 51) := ⟨⟨by decide +kernel, by decide +kernel⟩, List.mem_of_getElem? (i := 788) (by decide +kernel), List.mem_of_getElem? (i := 1046) (by decide +kernel), List.mem_of_getElem? (i := 1047) (by decide +kernel)⟩
theorem lw_p23 : lw_okq (⟨"WallDampModel", "move", "()V"⟩, 51) := ⟨⟨by decide +kernel, by decide +kernel⟩, List.mem_of_getElem? (i := 788) (by decide +kernel), List.mem_of_getElem? (i := 1054) (by decide +kernel), List.mem_of_getElem? (i := 1055) (by decide +kernel)⟩
theorem lw_p24 : lw_okq (⟨"WallDampModel", "lessenLeaving", "(I)V"⟩, 51) := ⟨⟨by decide +kernel, by decide +kernel⟩, List.mem_of_getElem? (i := 788) (by decide +kernel), List.mem_of_getElem? (i := 1058) (by decide +kernel), List.mem_of_getElem? (i := 1059) (by decide +kernel)⟩
theorem lw_p25 : lw_okq (⟨"WallDampModel", "lessenComing", "(I)V"⟩, 51) := ⟨⟨by decide +kernel, by decide +kernel⟩, List.mem_of_getElem? (i := 788) (by decide +kernel), List.mem_of_getElem? (i := 1062) (by decide +kernel), List.mem_of_getElem? (i := 1063) (by decide +kernel)⟩
theorem lw_p26 : lw_okq (⟨"WallDampModel", "frostAndMould", "()V"⟩, 51) := ⟨⟨by decide +kernel, by decide +kernel⟩, List.mem_of_getElem? (i := 788) (by decide +kernel), List.mem_of_getElem? (i := 1066) (by decide +kernel), List.mem_of_getElem? (i := 1067) (by decide +kernel)⟩
theorem lw_p27 : lw_okq (⟨"WallDampModel", "allWater", "()J"⟩, 51) := ⟨⟨by decide +kernel, by decide +kernel⟩, List.mem_of_getElem? (i := 788) (by decide +kernel), List.mem_of_getElem? (i := 1079) (by decide +kernel), List.mem_of_getElem? (i := 1080) (by decide +kernel)⟩
theorem lw_p28 : lw_okq (⟨"WallDampModel", "keep", "()[J"⟩, 51) := ⟨⟨by decide +kernel, by decide +kernel⟩, List.mem_of_getElem? (i := 788) (by decide +kernel), List.mem_of_getElem? (i := 1092) (by decide +kernel), List.mem_of_getElem? (i := 1093) (by decide +kernel)⟩
theorem lw_p29 : lw_okq (⟨"WallDampModel", "dry", "(I)J"⟩, 51) := ⟨⟨by decide +kernel, by decide +kernel⟩, List.mem_of_getElem? (i := 788) (by decide +kernel), List.mem_of_getElem? (i := 1097) (by decide +kernel), List.mem_of_getElem? (i := 1098) (by decide +kernel)⟩
theorem lw_p30 : lw_okq (⟨"WallDampModel", "next", "()Z"⟩, 51) := ⟨⟨by decide +kernel, by decide +kernel⟩, List.mem_of_getElem? (i := 788) (by decide +kernel), List.mem_of_getElem? (i := 1101) (by decide +kernel), List.mem_of_getElem? (i := 1102) (by decide +kernel)⟩
def lw_privs_2 : List (MethodName × Nat) := [(⟨"WallDampModel", "isCell", "(I)Z"⟩, 51), (⟨"WallDampModel", "fullAt", "(I)I"⟩, 51), (⟨"WallDampModel", "hour", "(I)V"⟩, 51), (⟨"WallDampModel", "warm", "(I)V"⟩, 51), (⟨"WallDampModel", "resistance", "(I)I"⟩, 51), (⟨"WallDampModel", "flow", "(I)V"⟩, 51), (⟨"WallDampModel", "dampOf", "(I)I"⟩, 51), (⟨"WallDampModel", "move", "()V"⟩, 51), (⟨"WallDampModel", "lessenLeaving", "(I)V"⟩, 51), (⟨"WallDampModel", "lessenComing", "(I)V"⟩, 51), (⟨"WallDampModel", "frostAndMould", "()V"⟩, 51), (⟨"WallDampModel", "allWater", "()J"⟩, 51), (⟨"WallDampModel", "keep", "()[J"⟩, 51), (⟨"WallDampModel", "dry", "(I)J"⟩, 51), (⟨"WallDampModel", "next", "()Z"⟩, 51)]
theorem lw_r2 : ∀ q ∈ lw_privs_2, lw_okq q := List.forall_mem_cons.mpr ⟨lw_p16, List.forall_mem_cons.mpr ⟨lw_p17, List.forall_mem_cons.mpr ⟨lw_p18, List.forall_mem_cons.mpr ⟨lw_p19, List.forall_mem_cons.mpr ⟨lw_p20, List.forall_mem_cons.mpr ⟨lw_p21, List.forall_mem_cons.mpr ⟨lw_p22, List.forall_mem_cons.mpr ⟨lw_p23, List.forall_mem_cons.mpr ⟨lw_p24, List.forall_mem_cons.mpr ⟨lw_p25, List.forall_mem_cons.mpr ⟨lw_p26, List.forall_mem_cons.mpr ⟨lw_p27, List.forall_mem_cons.mpr ⟨lw_p28, List.forall_mem_cons.mpr ⟨lw_p29, List.forall_mem_cons.mpr ⟨lw_p30, fun _ h => absurd h List.not_mem_nil⟩⟩⟩⟩⟩⟩⟩⟩⟩⟩⟩⟩⟩⟩⟩
def lw_privs : List (MethodName × Nat) := lw_privs_1 ++ (lw_privs_2)
def lw_tbl : List Cond := k2_sels lw_privs ++ tables_1
theorem lw_privs_ok : ∀ q ∈ lw_privs, lw_okq q := by
  show ∀ q ∈ lw_privs_1 ++ (lw_privs_2), lw_okq q
  exact List.forall_mem_append.mpr ⟨lw_r1, lw_r2⟩
-- ===== end of PART A; then your names; then what follows =====
end
section
/-! THE WORLD OF HANDLES: fields are maps (field number, handle) to value; arrays are maps (handle, index) to value. -/
abbrev x_W : Type := (Nat → Nat → Int32) × (Nat → Nat → Int64) × (Nat → Nat → Option Nat) × (Nat → Nat → Int32) × (Nat → Nat → Int64) × (Nat → Nat → Option Nat)
abbrev x_T : Type := Nat → Option (Nat × Nat)
def x_u {α : Type} (f : Nat → Nat → α) (k a : Nat) (v : α) : Nat → Nat → α := fun k' a' => if k' = k then (if a' = a then v else f k' a') else f k' a'
theorem x_u_s {α : Type} {f : Nat → Nat → α} {k a : Nat} {v : α} : x_u f k a v k a = v := by simp [x_u]
theorem x_u_a {α : Type} {f : Nat → Nat → α} {k a a' : Nat} {v : α} (h : a' ≠ a) (k' : Nat) : x_u f k a v k' a' = f k' a' := by simp [x_u, h]
theorem x_u_k {α : Type} {f : Nat → Nat → α} {k a k' : Nat} {v : α} (h : k' ≠ k) (a' : Nat) : x_u f k a v k' a' = f k' a' := by simp [x_u, h]
def x_I (w : x_W) (k h : Nat) : Int32 := w.1 k h
def x_J (w : x_W) (k h : Nat) : Int64 := w.2.1 k h
def x_R (w : x_W) (k h : Nat) : Option Nat := w.2.2.1 k h
def x_A (w : x_W) (h i : Nat) : Int32 := w.2.2.2.1 h i
def x_B (w : x_W) (h i : Nat) : Int64 := w.2.2.2.2.1 h i
def x_Q (w : x_W) (h i : Nat) : Option Nat := w.2.2.2.2.2 h i
def x_sI (w : x_W) (k h : Nat) (v : Int32) : x_W := (x_u w.1 k h v, w.2)
def x_sJ (w : x_W) (k h : Nat) (v : Int64) : x_W := (w.1, x_u w.2.1 k h v, w.2.2)
def x_sR (w : x_W) (k h : Nat) (v : Option Nat) : x_W := (w.1, w.2.1, x_u w.2.2.1 k h v, w.2.2.2)
def x_sA (w : x_W) (h i : Nat) (v : Int32) : x_W := (w.1, w.2.1, w.2.2.1, x_u w.2.2.2.1 h i v, w.2.2.2.2)
def x_sB (w : x_W) (h i : Nat) (v : Int64) : x_W := (w.1, w.2.1, w.2.2.1, w.2.2.2.1, x_u w.2.2.2.2.1 h i v, w.2.2.2.2.2)
def x_sQ (w : x_W) (h i : Nat) (v : Option Nat) : x_W := (w.1, w.2.1, w.2.2.1, w.2.2.2.1, w.2.2.2.2.1, x_u w.2.2.2.2.2 h i v)
def x_fld (ad : Nat → Nat) (w : x_W) (h : Nat) (kd : Nat × Nat) : Value := if kd.1 = 0 then .int (x_I w kd.2 h) else if kd.1 = 1 then .long (x_J w kd.2 h) else va_rf ((x_R w kd.2 h).map ad)
def x_cell (FT : Nat → List (Nat × Nat)) (aC : Nat → ClassId) (ad : Nat → Nat) (T : x_T) (w : x_W) (h : Nat) : va_E :=
  if ((T h).getD (0, 0)).1 < 100 then .inr (((T h).getD (0, 0)).1, (FT ((T h).getD (0, 0)).1).map (x_fld ad w h))
  else if ((T h).getD (0, 0)).1 = 100 then .inl (aC 100, ((T h).getD (0, 0)).2, .inl (x_A w h))
  else if ((T h).getD (0, 0)).1 = 102 then .inl (aC 102, ((T h).getD (0, 0)).2, .inl (x_A w h))
  else if ((T h).getD (0, 0)).1 = 101 then .inl (aC 101, ((T h).getD (0, 0)).2, .inr (.inl (x_B w h)))
  else .inl (aC ((T h).getD (0, 0)).1, ((T h).getD (0, 0)).2, .inr (.inr (.inr (.inr (fun j => (x_Q w h j).map ad)))))
def x_ws (FT : Nat → List (Nat × Nat)) (aC : Nat → ClassId) (ad : Nat → Nat) (T : x_T) (w : x_W) (nx : Nat) : va_W := (List.range nx).map (fun h => (ad h, x_cell FT aC ad T w h))
/-- handles from nx on are not made yet: all is default there; no reference leads there -/
def x_ok (nx : Nat) (w : x_W) : Prop :=
  (∀ h, nx ≤ h → ∀ k, x_I w k h = 0 ∧ x_J w k h = 0 ∧ x_R w k h = none ∧ x_A w h k = 0 ∧ x_B w h k = 0 ∧ x_Q w h k = none) ∧ (∀ k h a, x_R w k h = some a → a < nx) ∧ ∀ h k a, x_Q w h k = some a → a < nx
theorem x_ok_I {nx k h : Nat} {w : x_W} {v : Int32} (hh : h < nx) (ok : x_ok nx w) : x_ok nx (x_sI w k h v) := by
  refine ⟨fun j hj i => ?_, ok.2⟩
  have := ok.1 j hj i
  have hne : j ≠ h := by omega
  simpa [x_I, x_J, x_R, x_A, x_B, x_Q, x_sI, x_u, hne] using this
theorem x_ok_J {nx k h : Nat} {w : x_W} {v : Int64} (hh : h < nx) (ok : x_ok nx w) : x_ok nx (x_sJ w k h v) := by
  refine ⟨fun j hj i => ?_, ok.2⟩
  have := ok.1 j hj i
  have hne : j ≠ h := by omega
  simpa [x_I, x_J, x_R, x_A, x_B, x_Q, x_sJ, x_u, hne] using this
theorem x_ok_A {nx k h : Nat} {w : x_W} {v : Int32} (hh : h < nx) (ok : x_ok nx w) : x_ok nx (x_sA w h k v) := by
  refine ⟨fun j hj i => ?_, ok.2⟩
  have := ok.1 j hj i
  have hne : j ≠ h := by omega
  simpa [x_I, x_J, x_R, x_A, x_B, x_Q, x_sA, x_u, hne] using this
theorem x_ok_B {nx k h : Nat} {w : x_W} {v : Int64} (hh : h < nx) (ok : x_ok nx w) : x_ok nx (x_sB w h k v) := by
  refine ⟨fun j hj i => ?_, ok.2⟩
  have := ok.1 j hj i
  have hne : j ≠ h := by omega
  simpa [x_I, x_J, x_R, x_A, x_B, x_Q, x_sB, x_u, hne] using this
theorem x_ok_R {nx k h : Nat} {w : x_W} {v : Option Nat} (hh : h < nx) (hv : ∀ a, v = some a → a < nx) (ok : x_ok nx w) : x_ok nx (x_sR w k h v) := by
  refine ⟨fun j hj i => ?_, fun k' h' a ha => ?_, ok.2.2⟩
  · have := ok.1 j hj i
    have hne : j ≠ h := by omega
    simpa [x_I, x_J, x_R, x_A, x_B, x_Q, x_sR, x_u, hne] using this
  · by_cases h1 : k' = k ∧ h' = h
    · obtain ⟨rfl, rfl⟩ := h1
      exact hv a (by simpa [x_R, x_sR, x_u] using ha)
    · refine ok.2.1 k' h' a ?_
      unfold x_R x_sR x_u at ha
      unfold x_R
      by_cases hk : k' = k
      · have hh' : h' ≠ h := fun z => h1 ⟨hk, z⟩
        simpa [hk, hh'] using ha
      · simpa [hk] using ha
theorem x_ok_Q {nx k h : Nat} {w : x_W} {v : Option Nat} (hh : h < nx) (hv : ∀ a, v = some a → a < nx) (ok : x_ok nx w) : x_ok nx (x_sQ w h k v) := by
  refine ⟨fun j hj i => ?_, ok.2.1, fun h' k' a ha => ?_⟩
  · have := ok.1 j hj i
    have hne : j ≠ h := by omega
    simpa [x_I, x_J, x_R, x_A, x_B, x_Q, x_sQ, x_u, hne] using this
  · by_cases h1 : h' = h ∧ k' = k
    · obtain ⟨rfl, rfl⟩ := h1
      exact hv a (by simpa [x_Q, x_sQ, x_u] using ha)
    · refine ok.2.2 h' k' a ?_
      unfold x_Q x_sQ x_u at ha
      unfold x_Q
      by_cases hk : h' = h
      · have hh' : k' ≠ k := fun z => h1 ⟨hk, z⟩
        simpa [hk, hh'] using ha
      · simpa [hk] using ha
def x_H (D : va_G) (cl : List vw_C) (FT : Nat → List (Nat × Nat)) (aC : Nat → ClassId) (ad : Nat → Nat) (T : x_T) (nx : Nat) (A : Nat → Prop) (w : x_W) (H : Heap) : Prop :=
  va_P D cl (x_ws FT aC ad T w nx) H ∧ va_D A (x_ws FT aC ad T w nx) ∧ (∀ (h : Nat) (q : Nat × Nat), T h = some q → h < nx) ∧ x_ok nx w
section XB
variable {D : va_G} {cl : List vw_C} {FT : Nat → List (Nat × Nat)} {aC : Nat → ClassId} {ad : Nat → Nat} {T : x_T} {nx : Nat} {A : Nat → Prop} {w w' : x_W} {H H1 : Heap} {h c n : Nat}
theorem x_cell_o (hT : T h = some (c, n)) (hc : c < 100) : x_cell FT aC ad T w h = .inr (c, (FT c).map (x_fld ad w h)) := by simp [x_cell, hT, hc]
theorem x_cell_a (hT : T h = some (100, n)) : x_cell FT aC ad T w h = .inl (aC 100, n, .inl (x_A w h)) := by simp [x_cell, hT]
theorem x_cell_z (hT : T h = some (102, n)) : x_cell FT aC ad T w h = .inl (aC 102, n, .inl (x_A w h)) := by simp [x_cell, hT]
theorem x_cell_b (hT : T h = some (101, n)) : x_cell FT aC ad T w h = .inl (aC 101, n, .inr (.inl (x_B w h))) := by simp [x_cell, hT]
theorem x_cell_q (hT : T h = some (c, n)) (hc : 103 ≤ c) : x_cell FT aC ad T w h = .inl (aC c, n, .inr (.inr (.inr (.inr (fun j => (x_Q w h j).map ad))))) := by
  have h1 : ¬ c < 100 := by omega
  have h2 : ¬ c = 100 := by omega
  have h3 : ¬ c = 101 := by omega
  have h4 : ¬ c = 102 := by omega
  simp [x_cell, hT, h1, h2, h3, h4]
theorem x_ws_at (hh : h < nx) : (x_ws FT aC ad T w nx)[h]? = some (ad h, x_cell FT aC ad T w h) := by simp [x_ws, List.getElem?_map, List.getElem?_range hh]
theorem x_ws_of {k : Nat} {q : Nat × va_E} (hk : (x_ws FT aC ad T w nx)[k]? = some q) : k < nx ∧ q = (ad k, x_cell FT aC ad T w k) := by
  have hl : k < (x_ws FT aC ad T w nx).length := (List.getElem?_eq_some_iff.mp hk).1
  have hl' : k < nx := by simpa [x_ws] using hl
  rw [x_ws_at hl'] at hk
  exact ⟨hl', (Option.some.inj hk).symm⟩
theorem x_ws_set (hh : h < nx) {e : va_E} (he : x_cell FT aC ad T w' h = e) (ho : ∀ k, k ≠ h → x_cell FT aC ad T w' k = x_cell FT aC ad T w k) : (x_ws FT aC ad T w nx).set h (ad h, e) = x_ws FT aC ad T w' nx := by
  apply List.ext_getElem?
  intro k
  by_cases hk : k < nx
  · rw [x_ws_at hk]
    by_cases hkh : k = h
    · subst hkh
      rw [List.getElem?_set_self (by simpa [x_ws] using hk), he]
    · rw [List.getElem?_set_ne (Ne.symm hkh), x_ws_at hk, ho k hkh]
  · rw [List.getElem?_eq_none (by simpa [x_ws] using hk), List.getElem?_eq_none (by simpa [x_ws] using hk)]
theorem x_H.at (hH : x_H D cl FT aC ad T nx A w H) (hT : T h = some (c, n)) : (x_ws FT aC ad T w nx)[h]? = some (ad h, x_cell FT aC ad T w h) := x_ws_at (hH.2.2.1 h _ hT)
theorem x_H.inj (hH : x_H D cl FT aC ad T nx A w H) {i j : Nat} (hi : i < nx) (hj : j < nx) (e : ad i = ad j) : i = j := hH.2.1.1 i j _ _ (x_ws_at hi) (x_ws_at hj) e
theorem x_H.dom (hH : x_H D cl FT aC ad T nx A w H) {i : Nat} (hi : i < nx) : A (ad i) := hH.2.1.2 i _ (x_ws_at hi)
theorem x_H.lt (hH : x_H D cl FT aC ad T nx A w H) {i : Nat} (hi : i < nx) : ad i < H.size := (hH.1 i _ (x_ws_at hi)).lt
theorem x_H.kept (hH : x_H D cl FT aC ad T nx A w H) (hq : ∀ i, i < nx → H1[ad i]? = H[ad i]?) : x_H D cl FT aC ad T nx A w H1 :=
  ⟨hH.1.kept (fun k q hk => by obtain ⟨h1, rfl⟩ := x_ws_of hk; exact hq k h1), hH.2⟩
theorem x_H.weaken {B : Nat → Prop} (hH : x_H D cl FT aC ad T nx A w H) (hAB : ∀ i, i < nx → A (ad i) → B (ad i)) : x_H D cl FT aC ad T nx B w H :=
  ⟨hH.1, hH.2.1.weaken (fun k q hk => by obtain ⟨h1, rfl⟩ := x_ws_of hk; exact hAB k h1), hH.2.2⟩
/-- which addresses a method may touch: those of its handles, and new ones -/
def x_dom (ad : Nat → Nat) (nx sz : Nat) : Nat → Prop := fun q => (∃ h, h < nx ∧ q = ad h) ∨ sz ≤ q
theorem x_H.self {sz : Nat} (hH : x_H D cl FT aC ad T nx A w H) : x_H D cl FT aC ad T nx (x_dom ad nx sz) w H := hH.weaken (fun i hi _ => Or.inl ⟨i, hi, rfl⟩)
end XB
section XS
variable {D : va_G} {cl : List vw_C} {FT : Nat → List (Nat × Nat)} {aC : Nat → ClassId} {ad : Nat → Nat} {T : x_T} {nx : Nat} {A : Nat → Prop} {w : x_W} {h c n : Nat}
theorem x_off_I {k : Nat} {v : Int32} {j : Nat} (hne : j ≠ h) : x_cell FT aC ad T (x_sI w k h v) j = x_cell FT aC ad T w j := by
  have e : x_fld ad (x_sI w k h v) j = x_fld ad w j := funext (fun kd => by unfold x_fld x_I x_J x_R x_sI; simp [x_u, hne])
  unfold x_cell
  rw [e]
  rfl
theorem x_off_J {k : Nat} {v : Int64} {j : Nat} (hne : j ≠ h) : x_cell FT aC ad T (x_sJ w k h v) j = x_cell FT aC ad T w j := by
  have e : x_fld ad (x_sJ w k h v) j = x_fld ad w j := funext (fun kd => by unfold x_fld x_I x_J x_R x_sJ; simp [x_u, hne])
  unfold x_cell
  rw [e]
  rfl
theorem x_off_R {k : Nat} {v : Option Nat} {j : Nat} (hne : j ≠ h) : x_cell FT aC ad T (x_sR w k h v) j = x_cell FT aC ad T w j := by
  have e : x_fld ad (x_sR w k h v) j = x_fld ad w j := funext (fun kd => by unfold x_fld x_I x_J x_R x_sR; simp [x_u, hne])
  unfold x_cell
  rw [e]
  rfl
theorem x_off_A {i : Nat} {v : Int32} {j : Nat} (hne : j ≠ h) : x_cell FT aC ad T (x_sA w h i v) j = x_cell FT aC ad T w j := by
  have e : x_A (x_sA w h i v) j = x_A w j := funext (fun q => by unfold x_A x_sA; simp [x_u, hne])
  unfold x_cell
  rw [e]
  rfl
theorem x_off_B {i : Nat} {v : Int64} {j : Nat} (hne : j ≠ h) : x_cell FT aC ad T (x_sB w h i v) j = x_cell FT aC ad T w j := by
  have e : x_B (x_sB w h i v) j = x_B w j := funext (fun q => by unfold x_B x_sB; simp [x_u, hne])
  unfold x_cell
  rw [e]
  rfl
theorem x_off_Q {i : Nat} {v : Option Nat} {j : Nat} (hne : j ≠ h) : x_cell FT aC ad T (x_sQ w h i v) j = x_cell FT aC ad T w j := by
  have e : x_Q (x_sQ w h i v) j = x_Q w j := funext (fun q => by unfold x_Q x_sQ; simp [x_u, hne])
  unfold x_cell
  rw [e]
  rfl
theorem x_nd {l : List (Nat × Nat)} (hnd : l.Nodup) {i j : Nat} {x : Nat × Nat} (hi : l[i]? = some x) (hj : l[j]? = some x) : i = j := by
  obtain ⟨h1, e1⟩ := List.getElem?_eq_some_iff.mp hi
  obtain ⟨h2, e2⟩ := List.getElem?_eq_some_iff.mp hj
  rcases Nat.lt_trichotomy i j with q | q | q
  · exact absurd (e1.trans e2.symm) ((List.pairwise_iff_getElem.mp hnd) i j h1 h2 q)
  · exact q
  · exact absurd (e2.trans e1.symm) ((List.pairwise_iff_getElem.mp hnd) j i h2 h1 q)
theorem x_map_set {l : List (Nat × Nat)} {f g : Nat × Nat → Value} {i : Nat} {x : Nat × Nat} {v : Value} (hi : l[i]? = some x) (hv : g x = v) (ho : ∀ j y, l[j]? = some y → j ≠ i → g y = f y) : l.map g = (l.map f).set i v := by
  have hl : i < l.length := (List.getElem?_eq_some_iff.mp hi).1
  apply List.ext_getElem?
  intro j
  by_cases hj : j = i
  · subst hj
    rw [List.getElem?_set_self (by simpa using hl), List.getElem?_map, hi, Option.map_some, hv]
  · rw [List.getElem?_set_ne (Ne.symm hj), List.getElem?_map, List.getElem?_map]
    cases hy : l[j]? with
    | none => rfl
    | some y => rw [Option.map_some, Option.map_some, ho j y hy hj]
theorem x_on_I {k i : Nat} {v : Int32} (hT : T h = some (c, n)) (hc : c < 100) (hF : (FT c)[i]? = some (0, k)) (hnd : (FT c).Nodup) : x_cell FT aC ad T (x_sI w k h v) h = .inr (c, ((FT c).map (x_fld ad w h)).set i (.int v)) := by
  rw [x_cell_o hT hc, x_map_set (f := x_fld ad w h) hF (v := .int v) (by simp [x_fld, x_I, x_sI, x_u]) (fun j y hy hj => ?_)]
  have hne : y ≠ (0, k) := fun e => hj (x_nd hnd hy (e ▸ hF))
  unfold x_fld x_I x_J x_R x_sI
  by_cases h0 : y.1 = 0
  · have h1 : y.2 ≠ k := fun e => hne (Prod.ext h0 e)
    simp [h0, x_u, h1]
  · simp [h0]
theorem x_on_J {k i : Nat} {v : Int64} (hT : T h = some (c, n)) (hc : c < 100) (hF : (FT c)[i]? = some (1, k)) (hnd : (FT c).Nodup) : x_cell FT aC ad T (x_sJ w k h v) h = .inr (c, ((FT c).map (x_fld ad w h)).set i (.long v)) := by
  rw [x_cell_o hT hc, x_map_set (f := x_fld ad w h) hF (v := .long v) (by simp [x_fld, x_J, x_sJ, x_u]) (fun j y hy hj => ?_)]
  have hne : y ≠ (1, k) := fun e => hj (x_nd hnd hy (e ▸ hF))
  unfold x_fld x_I x_J x_R x_sJ
  by_cases h0 : y.1 = 0
  · simp [h0]
  · by_cases h1 : y.1 = 1
    · have h2 : y.2 ≠ k := fun e => hne (Prod.ext h1 e)
      simp [h1, x_u, h2]
    · simp [h0, h1]
theorem x_on_R {k i : Nat} {v : Option Nat} (hT : T h = some (c, n)) (hc : c < 100) (hF : (FT c)[i]? = some (2, k)) (hnd : (FT c).Nodup) (hK : ∀ y ∈ FT c, y.1 < 3) : x_cell FT aC ad T (x_sR w k h v) h = .inr (c, ((FT c).map (x_fld ad w h)).set i (va_rf (v.map ad))) := by
  rw [x_cell_o hT hc, x_map_set (f := x_fld ad w h) hF (v := va_rf (v.map ad)) (by simp [x_fld, x_R, x_sR, x_u]) (fun j y hy hj => ?_)]
  have hne : y ≠ (2, k) := fun e => hj (x_nd hnd hy (e ▸ hF))
  have h3 := hK y (List.mem_of_getElem? hy)
  unfold x_fld x_I x_J x_R x_sR
  by_cases h0 : y.1 = 0
  · simp [h0]
  · by_cases h1 : y.1 = 1
    · simp [h1]
    · have h2 : y.2 ≠ k := fun e => hne (Prod.ext (by show y.1 = 2; omega) e)
      simp [h0, h1, x_u, h2]
theorem x_on_A {i : Nat} {v : Int32} (hT : T h = some (100, n)) : x_cell FT aC ad T (x_sA w h i v) h = .inl (aC 100, n, .inl (upd (x_A w h) i v)) := by
  rw [x_cell_a hT]
  congr 4
  funext q
  simp [x_A, x_sA, x_u, upd]
theorem x_on_Z {i : Nat} {v : Int32} (hT : T h = some (102, n)) : x_cell FT aC ad T (x_sA w h i v) h = .inl (aC 102, n, .inl (upd (x_A w h) i v)) := by
  rw [x_cell_z hT]
  congr 4
  funext q
  simp [x_A, x_sA, x_u, upd]
theorem x_on_B {i : Nat} {v : Int64} (hT : T h = some (101, n)) : x_cell FT aC ad T (x_sB w h i v) h = .inl (aC 101, n, .inr (.inl (vp_updL (x_B w h) i v))) := by
  rw [x_cell_b hT]
  congr 5
  funext q
  simp [x_B, x_sB, x_u, vp_updL]
theorem x_on_Q {i : Nat} {v : Option Nat} (hT : T h = some (c, n)) (hc : 103 ≤ c) : x_cell FT aC ad T (x_sQ w h i v) h = .inl (aC c, n, .inr (.inr (.inr (.inr (va_up (fun j => (x_Q w h j).map ad) i (v.map ad)))))) := by
  rw [x_cell_q hT hc]
  congr 8
  funext q
  by_cases hq : q = i
  · simp [x_Q, x_sQ, x_u, va_up, hq]
  · simp [x_Q, x_sQ, x_u, va_up, hq]
end XS
theorem x_fr {ad : Nat → Nat} {w : x_W} {h k a : Nat} (hr : x_R w k h = some a) : x_fld ad w h (2, k) = .ref (ad a) := by simp [x_fld, hr, va_rf]
theorem x_fn {ad : Nat → Nat} {w : x_W} {h k : Nat} (hr : x_R w k h = none) : x_fld ad w h (2, k) = .null := by simp [x_fld, hr, va_rf]
section XR
variable {p : Program} {l : Launch} {e : Env} {R : Room} {s : State} {m : MethodId} {args : Array Value} {below : List Frame} {meth : Method} {c0 : Code} {H : Heap} {locs : List Loc} {cells slots : Nat} {Q : State → Prop}
variable {cc : ByteArray} {pc : Nat} {ls : Array Slot} {rest : List Value} {D : va_G} {cl : List vw_C} {FT : Nat → List (Nat × Nat)} {aC : Nat → ClassId} {ad : Nat → Nat} {T : x_T} {nx : Nat} {A : Nat → Prop} {w : x_W} {tys : List (ClassId × FieldType)} {H0 : Heap} {h ci n : Nat}
theorem x_get (hexec : p.tables.exec = Jvm.exec) (hb : c0.code = cc) {own ref C : String} {F : u_T} {N index : Nat} {Ts : List Cond} (hts : ∀ w ∈ Ts, w.before args s = true) (hin : ∀ w ∈ u_ws C F N, w ∈ Ts) (hown : s.vm.findClass own = some m.cls) (hK : va_K D cl tys s) (hH : x_H D cl FT aC ad T nx A w H) (hT : T h = some (ci, n)) (hci : ci < 100) (hc : cl[ci]? = some (C, F, N)) (k : Nat) (hk : k < N) (hlink : (Cond.fieldLink own index ref (F k).2.1 (F k).2.2.1).before args s = true) (hsame : ∀ x, s.fieldFound? (F k).1 (F k).2.1 (F k).2.2.1 = some x → s.fieldFound? ref (F k).2.1 (F k).2.2.1 = some x) {kd : Nat × Nat} (hF : (FT ci)[k]? = some kd) {v : Value} (hv : x_fld ad w h kd = v) (hdg : decode cc pc = .ok (.getfield index, 3))
    (kk : W p l e R s m args below meth c0 H locs cells slots Q (F0 m (pc + 3) ls (v :: rest))) : W p l e R s m args below meth c0 H locs cells slots Q (F0 m pc ls (.ref (ad h) :: rest)) :=
  va_get hexec hb hts hin hown hK hH.1 h (by rw [hH.at hT, x_cell_o hT hci]) hc k hk hlink hsame (by rw [List.getElem?_map, hF, Option.map_some, hv]) hdg kk
theorem x_getN (hexec : p.tables.exec = Jvm.exec) (hb : c0.code = cc) {own ref C host : String} {F : u_T} {N index : Nat} {Ts : List Cond} (hts : ∀ w ∈ Ts, w.before args s = true) (hin : ∀ w ∈ u_ws C F N, w ∈ Ts) (hown : s.vm.findClass own = some m.cls) (hK : va_K D cl tys s) (hH : x_H D cl FT aC ad T nx A w H) (hT : T h = some (ci, n)) (hci : ci < 100) (hc : cl[ci]? = some (C, F, N)) (k : Nat) (hk : k < N) (hlink : (Cond.fieldLinkNest own index ref (F k).2.1 (F k).2.2.1 host).before args s = true) (hsame : ∀ x, s.fieldFound? (F k).1 (F k).2.1 (F k).2.2.1 = some x → s.fieldFound? ref (F k).2.1 (F k).2.2.1 = some x) {kd : Nat × Nat} (hF : (FT ci)[k]? = some kd) {v : Value} (hv : x_fld ad w h kd = v) (hdg : decode cc pc = .ok (.getfield index, 3))
    (kk : W p l e R s m args below meth c0 H locs cells slots Q (F0 m (pc + 3) ls (v :: rest))) : W p l e R s m args below meth c0 H locs cells slots Q (F0 m pc ls (.ref (ad h) :: rest)) :=
  va_getN hexec hb hts hin hown hK hH.1 h (by rw [hH.at hT, x_cell_o hT hci]) hc k hk hlink hsame (by rw [List.getElem?_map, hF, Option.map_some, hv]) hdg kk
/-- a put, of any kind: w' is the world behind it -/
theorem x_put (hexec : p.tables.exec = Jvm.exec) (hb : c0.code = cc) {own ref C : String} {F : u_T} {N index : Nat} {Ts : List Cond} (hts : ∀ w ∈ Ts, w.before args s = true) (hin : ∀ w ∈ u_ws C F N, w ∈ Ts) (ty0 : Nat → FieldType) (hty : ∀ k, k < N → parseFieldDescriptor (F k).2.2.1 = some (ty0 k)) (hnm : ∀ a, a < N → ∀ b, b < N → a ≠ b → (F a).2.1 ≠ (F b).2.1) (hown : s.vm.findClass own = some m.cls) (hK : va_K D cl tys s) (hH : x_H D cl FT aC ad T nx A w H) (hS : va_S A H0 H locs) (hT : T h = some (ci, n)) (hci : ci < 100) (hc : cl[ci]? = some (C, F, N)) (hl : (FT ci).length = N) (k : Nat) (hk : k < N) (hlink : (Cond.fieldLink own index ref (F k).2.1 (F k).2.2.1).before args s = true) (hsame : ∀ x, s.fieldFound? (F k).1 (F k).2.1 (F k).2.2.1 = some x → s.fieldFound? ref (F k).2.1 (F k).2.2.1 = some x) (hfin : (F k).2.2.2 = false) {ty : FieldType} {v : Value} (hd : parseFieldDescriptor (F k).2.2.1 = some ty) (hn : narrow ty v = v) (hfit : fits ty v = true) {w' : x_W} (hon : x_cell FT aC ad T w' h = .inr (ci, ((FT ci).map (x_fld ad w h)).set k v)) (hoff : ∀ j, j ≠ h → x_cell FT aC ad T w' j = x_cell FT aC ad T w j) (hok : h < nx → x_ok nx w → x_ok nx w') (hdg : decode cc pc = .ok (.putfield index, 3))
    (kk : ∀ (H1 : Heap) (locs1 : List Loc), x_H D cl FT aC ad T nx A w' H1 → va_S A H0 H1 locs1 → W p l e R s m args below meth c0 H1 locs1 cells slots Q (F0 m (pc + 3) ls rest)) : W p l e R s m args below meth c0 H locs cells slots Q (F0 m pc ls (v :: .ref (ad h) :: rest)) :=
  va_put hexec hb hts hin ty0 hty hnm hown hK hH.1 hH.2.1 hS h (by rw [hH.at hT, x_cell_o hT hci]) hc k hk hlink hsame hfin hd hn hfit (by rw [List.length_map, hl]; exact hk) hdg (fun H1 locs1 hP hD hS1 => by
    rw [x_ws_set (hH.2.2.1 _ _ hT) hon hoff] at hP hD
    exact kk H1 locs1 ⟨hP, hD, hH.2.2.1, hok (hH.2.2.1 _ _ hT) hH.2.2.2⟩ hS1)
theorem x_putF (hexec : p.tables.exec = Jvm.exec) (hb : c0.code = cc) {own ref C : String} {F : u_T} {N index : Nat} {Ts : List Cond} (hts : ∀ w ∈ Ts, w.before args s = true) (hin : ∀ w ∈ u_ws C F N, w ∈ Ts) (ty0 : Nat → FieldType) (hty : ∀ k, k < N → parseFieldDescriptor (F k).2.2.1 = some (ty0 k)) (hnm : ∀ a, a < N → ∀ b, b < N → a ≠ b → (F a).2.1 ≠ (F b).2.1) (hown : s.vm.findClass own = some m.cls) (hK : va_K D cl tys s) (hH : x_H D cl FT aC ad T nx A w H) (hS : va_S A H0 H locs) (hT : T h = some (ci, n)) (hci : ci < 100) (hc : cl[ci]? = some (C, F, N)) (hl : (FT ci).length = N) (k : Nat) (hk : k < N) (hlink : (Cond.fieldLink own index ref (F k).2.1 (F k).2.2.1).before args s = true) (hsame : ∀ x, s.fieldFound? (F k).1 (F k).2.1 (F k).2.2.1 = some x → s.fieldFound? ref (F k).2.1 (F k).2.2.1 = some x) (hfin : (F k).2.2.2 = true) (hin2 : meth.name = "<init>") (hdecl : (F k).1 = own) {ty : FieldType} {v : Value} (hd : parseFieldDescriptor (F k).2.2.1 = some ty) (hn : narrow ty v = v) (hfit : fits ty v = true) {w' : x_W} (hon : x_cell FT aC ad T w' h = .inr (ci, ((FT ci).map (x_fld ad w h)).set k v)) (hoff : ∀ j, j ≠ h → x_cell FT aC ad T w' j = x_cell FT aC ad T w j) (hok : h < nx → x_ok nx w → x_ok nx w') (hdg : decode cc pc = .ok (.putfield index, 3))
    (kk : ∀ (H1 : Heap) (locs1 : List Loc), x_H D cl FT aC ad T nx A w' H1 → va_S A H0 H1 locs1 → W p l e R s m args below meth c0 H1 locs1 cells slots Q (F0 m (pc + 3) ls rest)) : W p l e R s m args below meth c0 H locs cells slots Q (F0 m pc ls (v :: .ref (ad h) :: rest)) :=
  va_putF hexec hb hts hin ty0 hty hnm hown hK hH.1 hH.2.1 hS h (by rw [hH.at hT, x_cell_o hT hci]) hc k hk hlink hsame hfin hin2 hdecl hd hn hfit (by rw [List.length_map, hl]; exact hk) hdg (fun H1 locs1 hP hD hS1 => by
    rw [x_ws_set (hH.2.2.1 _ _ hT) hon hoff] at hP hD
    exact kk H1 locs1 ⟨hP, hD, hH.2.2.1, hok (hH.2.2.1 _ _ hT) hH.2.2.2⟩ hS1)
theorem x_putN (hexec : p.tables.exec = Jvm.exec) (hb : c0.code = cc) {own ref C host : String} {F : u_T} {N index : Nat} {Ts : List Cond} (hts : ∀ w ∈ Ts, w.before args s = true) (hin : ∀ w ∈ u_ws C F N, w ∈ Ts) (ty0 : Nat → FieldType) (hty : ∀ k, k < N → parseFieldDescriptor (F k).2.2.1 = some (ty0 k)) (hnm : ∀ a, a < N → ∀ b, b < N → a ≠ b → (F a).2.1 ≠ (F b).2.1) (hown : s.vm.findClass own = some m.cls) (hK : va_K D cl tys s) (hH : x_H D cl FT aC ad T nx A w H) (hS : va_S A H0 H locs) (hT : T h = some (ci, n)) (hci : ci < 100) (hc : cl[ci]? = some (C, F, N)) (hl : (FT ci).length = N) (k : Nat) (hk : k < N) (hlink : (Cond.fieldLinkNest own index ref (F k).2.1 (F k).2.2.1 host).before args s = true) (hsame : ∀ x, s.fieldFound? (F k).1 (F k).2.1 (F k).2.2.1 = some x → s.fieldFound? ref (F k).2.1 (F k).2.2.1 = some x) (hfin : (F k).2.2.2 = false) {ty : FieldType} {v : Value} (hd : parseFieldDescriptor (F k).2.2.1 = some ty) (hn : narrow ty v = v) (hfit : fits ty v = true) {w' : x_W} (hon : x_cell FT aC ad T w' h = .inr (ci, ((FT ci).map (x_fld ad w h)).set k v)) (hoff : ∀ j, j ≠ h → x_cell FT aC ad T w' j = x_cell FT aC ad T w j) (hok : h < nx → x_ok nx w → x_ok nx w') (hdg : decode cc pc = .ok (.putfield index, 3))
    (kk : ∀ (H1 : Heap) (locs1 : List Loc), x_H D cl FT aC ad T nx A w' H1 → va_S A H0 H1 locs1 → W p l e R s m args below meth c0 H1 locs1 cells slots Q (F0 m (pc + 3) ls rest)) : W p l e R s m args below meth c0 H locs cells slots Q (F0 m pc ls (v :: .ref (ad h) :: rest)) :=
  va_putN hexec hb hts hin ty0 hty hnm hown hK hH.1 hH.2.1 hS h (by rw [hH.at hT, x_cell_o hT hci]) hc k hk hlink hsame hfin hd hn hfit (by rw [List.length_map, hl]; exact hk) hdg (fun H1 locs1 hP hD hS1 => by
    rw [x_ws_set (hH.2.2.1 _ _ hT) hon hoff] at hP hD
    exact kk H1 locs1 ⟨hP, hD, hH.2.2.1, hok (hH.2.2.1 _ _ hT) hH.2.2.2⟩ hS1)
theorem x_iald (hexec : p.tables.exec = Jvm.exec) (hb : c0.code = cc) (hK : va_K D cl tys s) (hH : x_H D cl FT aC ad T nx A w H) (hT : T h = some (100, n)) (t0 : Nat) (ht : tys[t0]? = some (aC 100, .int)) {i : Int32} (hin : vp_in i n) (hdg : decode cc pc = .ok (.iaload, 1))
    (kk : W p l e R s m args below meth c0 H locs cells slots Q (F0 m (pc + 1) ls (.int (x_A w h i.toNatClampNeg) :: rest))) : W p l e R s m args below meth c0 H locs cells slots Q (F0 m pc ls (.int i :: .ref (ad h) :: rest)) :=
  va_iald hexec hb hK hH.1 h t0 (by rw [hH.at hT, x_cell_a hT]) ht hin hdg kk
theorem x_zald (hexec : p.tables.exec = Jvm.exec) (hb : c0.code = cc) (hK : va_K D cl tys s) (hH : x_H D cl FT aC ad T nx A w H) (hT : T h = some (102, n)) (t0 : Nat) (ht : tys[t0]? = some (aC 102, .boolean)) {i : Int32} (hin : vp_in i n) (hdg : decode cc pc = .ok (.baload, 1))
    (kk : W p l e R s m args below meth c0 H locs cells slots Q (F0 m (pc + 1) ls (.int (x_A w h i.toNatClampNeg) :: rest))) : W p l e R s m args below meth c0 H locs cells slots Q (F0 m pc ls (.int i :: .ref (ad h) :: rest)) :=
  va_zald hexec hb hK hH.1 h t0 (by rw [hH.at hT, x_cell_z hT]) ht hin hdg kk
theorem x_zast (hexec : p.tables.exec = Jvm.exec) (hb : c0.code = cc) (hK : va_K D cl tys s) (hH : x_H D cl FT aC ad T nx A w H) (hS : va_S A H0 H locs) (hT : T h = some (102, n)) (t0 : Nat) (ht : tys[t0]? = some (aC 102, .boolean)) {i v : Int32} (hin : vp_in i n) (hdg : decode cc pc = .ok (.bastore, 1))
    (kk : ∀ (H1 : Heap) (locs1 : List Loc), x_H D cl FT aC ad T nx A (x_sA w h i.toNatClampNeg (vp_nar .boolean v)) H1 → va_S A H0 H1 locs1 → W p l e R s m args below meth c0 H1 locs1 cells slots Q (F0 m (pc + 1) ls rest)) : W p l e R s m args below meth c0 H locs cells slots Q (F0 m pc ls (.int v :: .int i :: .ref (ad h) :: rest)) :=
  va_zast hexec hb hK hH.1 hH.2.1 hS h t0 (by rw [hH.at hT, x_cell_z hT]) ht hin hdg (fun H1 locs1 hP hD hS1 => by
    rw [x_ws_set (hH.2.2.1 _ _ hT) (x_on_Z hT) (fun j hj => x_off_A hj)] at hP hD
    exact kk H1 locs1 ⟨hP, hD, hH.2.2.1, x_ok_A (hH.2.2.1 _ _ hT) hH.2.2.2⟩ hS1)
theorem x_lald (hexec : p.tables.exec = Jvm.exec) (hb : c0.code = cc) (hK : va_K D cl tys s) (hH : x_H D cl FT aC ad T nx A w H) (hT : T h = some (101, n)) (t0 : Nat) (ht : tys[t0]? = some (aC 101, .long)) {i : Int32} (hin : vp_in i n) (hdg : decode cc pc = .ok (.laload, 1))
    (kk : W p l e R s m args below meth c0 H locs cells slots Q (F0 m (pc + 1) ls (.long (x_B w h i.toNatClampNeg) :: rest))) : W p l e R s m args below meth c0 H locs cells slots Q (F0 m pc ls (.int i :: .ref (ad h) :: rest)) :=
  va_lald hexec hb hK hH.1 h t0 (by rw [hH.at hT, x_cell_b hT]) ht hin hdg kk
theorem x_aald (hexec : p.tables.exec = Jvm.exec) (hb : c0.code = cc) (hK : va_K D cl tys s) (hH : x_H D cl FT aC ad T nx A w H) (hT : T h = some (ci, n)) (hci : 103 ≤ ci) (t0 : Nat) {C : String} (ht : tys[t0]? = some (aC ci, .object C)) {i : Int32} (hin : vp_in i n) {v : Value} (hv : va_rf ((x_Q w h i.toNatClampNeg).map ad) = v) (hdg : decode cc pc = .ok (.aaload, 1))
    (kk : W p l e R s m args below meth c0 H locs cells slots Q (F0 m (pc + 1) ls (v :: rest))) : W p l e R s m args below meth c0 H locs cells slots Q (F0 m pc ls (.int i :: .ref (ad h) :: rest)) :=
  va_aldq hexec hb hK hH.1 h t0 (by rw [hH.at hT, x_cell_q hT hci]) ht hin hdg (by rw [← hv] at kk; exact kk)
theorem x_qr {w : x_W} {i a : Nat} (hr : x_Q w h i = some a) : va_rf ((x_Q w h i).map ad) = .ref (ad a) := by simp [hr, va_rf]
theorem x_alen (hexec : p.tables.exec = Jvm.exec) (hb : c0.code = cc) (hK : va_K D cl tys s) (hH : x_H D cl FT aC ad T nx A w H) (hT : T h = some (ci, n)) (hci : 100 ≤ ci) (t0 : Nat) {ty : FieldType} (ht : tys[t0]? = some (aC ci, ty)) (hdg : decode cc pc = .ok (.arraylength, 1))
    (kk : W p l e R s m args below meth c0 H locs cells slots Q (F0 m (pc + 1) ls (.int (nI n) :: rest))) : W p l e R s m args below meth c0 H locs cells slots Q (F0 m pc ls (.ref (ad h) :: rest)) := by
  rcases (show ci = 100 ∨ ci = 101 ∨ ci = 102 ∨ 103 ≤ ci by omega) with rfl | rfl | rfl | hc
  · exact va_alen (x := (n, .inl (x_A w h))) hexec hb hK hH.1 h t0 (by rw [hH.at hT, x_cell_a hT]) ht rfl hdg kk
  · exact va_alen (x := (n, .inr (.inl (x_B w h)))) hexec hb hK hH.1 h t0 (by rw [hH.at hT, x_cell_b hT]) ht rfl hdg kk
  · exact va_alen (x := (n, .inl (x_A w h))) hexec hb hK hH.1 h t0 (by rw [hH.at hT, x_cell_z hT]) ht rfl hdg kk
  · exact va_alen (x := (n, .inr (.inr (.inr (.inr (fun j => (x_Q w h j).map ad)))))) hexec hb hK hH.1 h t0 (by rw [hH.at hT, x_cell_q hT hc]) ht rfl hdg kk
theorem x_iast (hexec : p.tables.exec = Jvm.exec) (hb : c0.code = cc) (hK : va_K D cl tys s) (hH : x_H D cl FT aC ad T nx A w H) (hS : va_S A H0 H locs) (hT : T h = some (100, n)) (t0 : Nat) (ht : tys[t0]? = some (aC 100, .int)) {i v : Int32} (hin : vp_in i n) (hdg : decode cc pc = .ok (.iastore, 1))
    (kk : ∀ (H1 : Heap) (locs1 : List Loc), x_H D cl FT aC ad T nx A (x_sA w h i.toNatClampNeg v) H1 → va_S A H0 H1 locs1 → W p l e R s m args below meth c0 H1 locs1 cells slots Q (F0 m (pc + 1) ls rest)) : W p l e R s m args below meth c0 H locs cells slots Q (F0 m pc ls (.int v :: .int i :: .ref (ad h) :: rest)) :=
  va_iast hexec hb hK hH.1 hH.2.1 hS h t0 (by rw [hH.at hT, x_cell_a hT]) ht hin hdg (fun H1 locs1 hP hD hS1 => by
    rw [x_ws_set (hH.2.2.1 _ _ hT) (x_on_A hT) (fun j hj => x_off_A hj)] at hP hD
    exact kk H1 locs1 ⟨hP, hD, hH.2.2.1, x_ok_A (hH.2.2.1 _ _ hT) hH.2.2.2⟩ hS1)
theorem x_last (hexec : p.tables.exec = Jvm.exec) (hb : c0.code = cc) (hK : va_K D cl tys s) (hH : x_H D cl FT aC ad T nx A w H) (hS : va_S A H0 H locs) (hT : T h = some (101, n)) (t0 : Nat) (ht : tys[t0]? = some (aC 101, .long)) {i : Int32} {v : Int64} (hin : vp_in i n) (hdg : decode cc pc = .ok (.lastore, 1))
    (kk : ∀ (H1 : Heap) (locs1 : List Loc), x_H D cl FT aC ad T nx A (x_sB w h i.toNatClampNeg v) H1 → va_S A H0 H1 locs1 → W p l e R s m args below meth c0 H1 locs1 cells slots Q (F0 m (pc + 1) ls rest)) : W p l e R s m args below meth c0 H locs cells slots Q (F0 m pc ls (.long v :: .int i :: .ref (ad h) :: rest)) :=
  va_last hexec hb hK hH.1 hH.2.1 hS h t0 (by rw [hH.at hT, x_cell_b hT]) ht hin hdg (fun H1 locs1 hP hD hS1 => by
    rw [x_ws_set (hH.2.2.1 _ _ hT) (x_on_B hT) (fun j hj => x_off_B hj)] at hP hD
    exact kk H1 locs1 ⟨hP, hD, hH.2.2.1, x_ok_B (hH.2.2.1 _ _ hT) hH.2.2.2⟩ hS1)
theorem x_aast (hexec : p.tables.exec = Jvm.exec) (hb : c0.code = cc) (hK : va_K D cl tys s) (hH : x_H D cl FT aC ad T nx A w H) (hS : va_S A H0 H locs) (hT : T h = some (ci, n)) (hci : 103 ≤ ci) (t0 : Nat) {r : vw_C} (ht : tys[t0]? = some (aC ci, .object r.1)) {hv cv nv : Nat} (hTv : T hv = some (cv, nv)) (hcv : cv < 100) (hc : cl[cv]? = some r) {i : Int32} (hin : vp_in i n) (hdg : decode cc pc = .ok (.aastore, 1))
    (kk : ∀ (H1 : Heap) (locs1 : List Loc), x_H D cl FT aC ad T nx A (x_sQ w h i.toNatClampNeg (some hv)) H1 → va_S A H0 H1 locs1 → W p l e R s m args below meth c0 H1 locs1 cells slots Q (F0 m (pc + 1) ls rest)) : W p l e R s m args below meth c0 H locs cells slots Q (F0 m pc ls (.ref (ad hv) :: .int i :: .ref (ad h) :: rest)) :=
  va_astq hexec hb hK hH.1 hH.2.1 hS h t0 hv cv (by rw [hH.at hT, x_cell_q hT hci]) ht (by rw [hH.at hTv, x_cell_o hTv hcv]) hc hin hdg (fun H1 locs1 hP hD hS1 => by
    have e1 := x_ws_set (FT := FT) (aC := aC) (ad := ad) (w := w) (w' := x_sQ w h i.toNatClampNeg (some hv)) (hH.2.2.1 _ _ hT) (x_on_Q hT hci) (fun j hj => x_off_Q hj)
    rw [show ((some hv : Option Nat).map ad) = some (ad hv) from rfl] at e1
    rw [e1] at hP hD
    exact kk H1 locs1 ⟨hP, hD, hH.2.2.1, x_ok_Q (hH.2.2.1 _ _ hT) (fun a ha => by cases ha; exact hH.2.2.1 _ _ hTv) hH.2.2.2⟩ hS1)
end XR
end
section
/-! CONTRACTS OF METHODS THAT MAY THROW -/
def x_FE (first : State) (t : State) (L : List Loc) (k n : Nat) : Prop := first.WarmedH t.vm ∧ first.sameButNew ({ t with vm := first.vm } : State) L k n
def x_Met (l : Launch) (y : MethodName) (ws : List Cond) (rm : Room) (Pc : Array Value → State → Prop) (Qc : Array Value → State → Outcome → State → Prop) (mc ms : Nat) (free : Addr → Prop) : Prop :=
  MetFree l y (headSpec ws rm) Pc (fun _ _ _ _ _ => True) (fun a st o t => Qc a st o t ∧ ∃ L, x_FE st t L mc ms ∧ ∀ q ∈ L, free q.base)
def x_MQ (below : List Frame) (Qc : Array Value → State → Outcome → State → Prop) (a : Array Value) (s : State) (mc ms : Nat) (free : Addr → Prop) : State → Prop := fun t =>
  ∃ o, t.status = .running ∧ Ended t below o ∧ Qc a s o t ∧ ∃ L, x_FE s t L mc ms ∧ ∀ q ∈ L, free q.base
section XM
variable {p : Program} {l : Launch} {e : Env} {R : Room} {s : State} {m : MethodId} {args : Array Value} {below : List Frame} {meth : Method} {c : Code} {H : Heap} {locs : List Loc} {cells slots : Nat}
theorem x_mono {Q Q' : State → Prop} {g : JFrame} (h : ∀ t, Q t → Q' t) (k : W p l e R s m args below meth c H locs cells slots Q g) : W p l e R s m args below meth c H locs cells slots Q' g := fun T hT X => by
  obtain ⟨t, a, b⟩ := k T hT X
  exact ⟨t, a, h t b⟩
theorem x_MQ_of {Qc : Array Value → State → Outcome → State → Prop} {a : Array Value} {mc ms : Nat} {free : Addr → Prop} (t : State) (h : MQ below Qc a s mc ms free t) : x_MQ below Qc a s mc ms free t := by
  obtain ⟨o, h1, h2, h3, L, ⟨-, h4, h5⟩, h6⟩ := h
  exact ⟨o, h1, h2, h3, L, ⟨h4, h5⟩, h6⟩
theorem x_Met.ofW {y : MethodName} {ws ws' : List Cond} {rm : Room} {Pc : Array Value → State → Prop} {Qc : Array Value → State → Outcome → State → Prop} {mc ms : Nat} {free : Addr → Prop} {cc : ByteArray} {maxL : Nat} {ret : Option FieldType}
    (hy : plainName y.cls = true) (hw : ws = Cond.code y cc maxL ret :: ws')
    (body : ∀ p e s m args below meth c s₁, BodyLoose p l y (headSpec ws rm) cc maxL ret e s m args below meth c s₁ → c.maxLocals = maxL → Pc args s →
      W p l e (headSpec ws rm).room s m args below meth c s.heap [] 0 0 (x_MQ below Qc args s mc ms free) (entryFrame m args maxL)) : x_Met l y ws rm Pc Qc mc ms free := by
  refine MetFree.of_bodyS (code := cc) (maxLocals := maxL) (ret := ret) hy ?_ ?_
  · intro args s m h hn
    obtain ⟨meth, c, h1, h2, h3, h4, h5, h6, -, -⟩ := Cond.code_spec hn (atoms_spec (ws := ws) h _ (by rw [hw]; exact List.mem_cons_self))
    exact ⟨meth, c, h1, h2, h3, h4, h5, h6⟩
  · intro p e s m args below meth c s₁ B hml hP _
    have hh0 : s₁.heap = s.heap := by rw [B.state]; rfl
    obtain ⟨t, a1, o, b1, b2, b3⟩ := body p e s m args below meth c s₁ B hml hP s₁ hh0 (Stand.of_body B)
    exact ⟨t, o, a1, b1, b2, b3⟩
theorem x_Met.met {y : MethodName} {ws : List Cond} {rm : Room} {Pc : Array Value → State → Prop} {Qc : Array Value → State → Outcome → State → Prop} {mc ms : Nat} {free : Addr → Prop} (hM : x_Met l y ws rm Pc Qc mc ms free)
    (hq : ∀ a st o t, Qc a st o t → ∃ v, o = .returned v) : Met l y ws rm Pc Qc mc ms free := by
  intro p e ha hc hk s m args below hf happ hP hKK
  obtain ⟨n, o, h1, h2, h3, h4, L, h5, h6⟩ := hM p e ha hc hk s m args below hf happ hP hKK
  exact ⟨n, o, h1, h2, h3, h4, L, ⟨hq _ _ _ _ h4, h5.1, h5.2⟩, h6⟩
end XM
end
section
/-- the words that every contract carries: those of the tables that stay -/
def x_tb : List Cond := lw_tbl.filter goodWord
theorem x_goodTb {w : Cond} (h : w ∈ x_tb) : (w.onTables && w.keeps) = true ∨ ∃ ty, w = .arrayClass ty := good_of_word (List.mem_filter.mp h).2
theorem x_tb_in {w : Cond} (h : w ∈ x_tb) : w ∈ lw_tbl := (List.mem_filter.mp h).1
theorem x_m {c : Cond} (h : c ∈ tables_1) (g : goodWord c = true) : c ∈ x_tb := List.mem_filter.mpr ⟨List.mem_append_right _ h, g⟩
theorem x_m0 {c : Cond} (i : Nat) (h : (k2_sels lw_privs)[i]? = some c) (g : goodWord c = true) : c ∈ x_tb := List.mem_filter.mpr ⟨List.mem_append_left _ (List.mem_of_getElem? h), g⟩
theorem x_m1 {c : Cond} (i : Nat) (h : tables_1_1[i]? = some c) (g : goodWord c = true) : c ∈ x_tb := x_m (List.mem_append_left _ (List.mem_of_getElem? h)) g
theorem x_m2 {c : Cond} (i : Nat) (h : tables_1_2[i]? = some c) (g : goodWord c = true) : c ∈ x_tb := x_m (List.mem_append_right _ (List.mem_append_left _ (List.mem_of_getElem? h))) g
theorem x_m3 {c : Cond} (i : Nat) (h : tables_1_3[i]? = some c) (g : goodWord c = true) : c ∈ x_tb := x_m (List.mem_append_right _ (List.mem_append_right _ (List.mem_append_left _ (List.mem_of_getElem? h)))) g
theorem x_m4 {c : Cond} (i : Nat) (h : tables_1_4[i]? = some c) (g : goodWord c = true) : c ∈ x_tb := x_m (List.mem_append_right _ (List.mem_append_right _ (List.mem_append_right _ (List.mem_append_left _ (List.mem_of_getElem? h))))) g
theorem x_m5 {c : Cond} (i : Nat) (h : tables_1_5[i]? = some c) (g : goodWord c = true) : c ∈ x_tb := x_m (List.mem_append_right _ (List.mem_append_right _ (List.mem_append_right _ (List.mem_append_right _ (List.mem_of_getElem? h))))) g
theorem m_0 : (Jvm.Cond.initialized "WallDampLaw") ∈ x_tb := x_m1 0 rfl rfl
theorem m_1 : (Jvm.Cond.initialized "WallDamp") ∈ x_tb := x_m1 1 rfl rfl
theorem m_2 : (Jvm.Cond.initialized "java/lang/Math") ∈ x_tb := x_m1 2 rfl rfl
theorem m_3 : (Jvm.Cond.initialized "WallDamp$Material") ∈ x_tb := x_m1 3 rfl rfl
theorem m_4 : (Jvm.Cond.initialized "WallDamp$Corners") ∈ x_tb := x_m1 4 rfl rfl
theorem m_5 : (Jvm.Cond.initialized "WallDamp$Surroundings") ∈ x_tb := x_m1 5 rfl rfl
theorem m_6 : (Jvm.Cond.initialized "WallDamp$MouldRows") ∈ x_tb := x_m1 6 rfl rfl
theorem m_7 : (Jvm.Cond.initialized "WallDamp$Wall") ∈ x_tb := x_m1 7 rfl rfl
theorem m_8 : (Jvm.Cond.initialized "WallDamp$Place") ∈ x_tb := x_m1 8 rfl rfl
theorem m_9 : (Jvm.Cond.initialized "WallDamp$Air") ∈ x_tb := x_m1 9 rfl rfl
theorem m_10 : (Jvm.Cond.initialized "WallDamp$Cell") ∈ x_tb := x_m1 10 rfl rfl
theorem m_11 : (Jvm.Cond.initialized "WallDamp$Flow") ∈ x_tb := x_m1 11 rfl rfl
theorem m_12 : (Jvm.Cond.initialized "WallDamp$Trials") ∈ x_tb := x_m1 12 rfl rfl
theorem m_13 : (Jvm.Cond.initialized "WallDampModel") ∈ x_tb := x_m1 13 rfl rfl
theorem m_14 : (Jvm.Cond.initialized "java/lang/Throwable") ∈ x_tb := x_m1 14 rfl rfl
theorem m_15 : (Jvm.Cond.initialized "java/lang/Exception") ∈ x_tb := x_m1 15 rfl rfl
theorem m_16 : (Jvm.Cond.initialized "java/lang/RuntimeException") ∈ x_tb := x_m1 16 rfl rfl
theorem m_17 : (Jvm.Cond.initialized "java/lang/IllegalArgumentException") ∈ x_tb := x_m1 17 rfl rfl
theorem m_18 : (Jvm.Cond.initialized "java/lang/IllegalStateException") ∈ x_tb := x_m1 18 rfl rfl
theorem m_19 : (Jvm.Cond.classLink "WallDampLaw" (8 : Nat) "WallDamp") ∈ x_tb := x_m1 19 rfl rfl
theorem m_20 : (Jvm.Cond.instantiable "WallDamp" (8 : Nat)) ∈ x_tb := x_m1 20 rfl rfl
theorem m_21 : (Jvm.Cond.methodLink "WallDampLaw" (72 : Nat) ({ cls := "WallDamp", name := "<init>", desc := "(I)V" } : Jvm.MethodName)) ∈ x_tb := x_m1 21 rfl rfl
theorem m_22 : (Jvm.Cond.instanceMethod ({ cls := "WallDamp", name := "<init>", desc := "(I)V" } : Jvm.MethodName)) ∈ x_tb := x_m1 22 rfl rfl
theorem m_23 : (Jvm.Cond.code ({ cls := "WallDamp", name := "<init>", desc := "(I)V" } : Jvm.MethodName) prog_1_method_1_code (4 : Nat) (Option.none : Option Jvm.ClassFile.FieldType)) ∈ x_tb := x_m1 23 rfl rfl
theorem m_24 : (Jvm.Cond.methodLink "WallDamp" (1 : Nat) ({ cls := "java/lang/Object", name := "<init>", desc := "()V" } : Jvm.MethodName)) ∈ x_tb := x_m1 24 rfl rfl
theorem m_25 : (Jvm.Cond.instanceMethod ({ cls := "java/lang/Object", name := "<init>", desc := "()V" } : Jvm.MethodName)) ∈ x_tb := x_m1 25 rfl rfl
theorem m_26 : (Jvm.Cond.code ({ cls := "java/lang/Object", name := "<init>", desc := "()V" } : Jvm.MethodName) object_method_1_code (1 : Nat) (Option.none : Option Jvm.ClassFile.FieldType)) ∈ x_tb := x_m1 26 rfl rfl
theorem m_27 : (Jvm.Cond.methodLink "WallDamp" (9 : Nat) ({ cls := "java/lang/Math", name := "min", desc := "(II)I" } : Jvm.MethodName)) ∈ x_tb := x_m1 27 rfl rfl
theorem m_28 : (Jvm.Cond.static ({ cls := "java/lang/Math", name := "min", desc := "(II)I" } : Jvm.MethodName)) ∈ x_tb := x_m1 28 rfl rfl
theorem m_29 : (Jvm.Cond.code ({ cls := "java/lang/Math", name := "min", desc := "(II)I" } : Jvm.MethodName) prog_17_method_69_code (2 : Nat) (Option.some Jvm.ClassFile.FieldType.int)) ∈ x_tb := x_m1 29 rfl rfl
theorem m_30 : (Jvm.Cond.methodLink "WallDamp" (15 : Nat) ({ cls := "java/lang/Math", name := "max", desc := "(II)I" } : Jvm.MethodName)) ∈ x_tb := x_m1 30 rfl rfl
theorem m_31 : (Jvm.Cond.static ({ cls := "java/lang/Math", name := "max", desc := "(II)I" } : Jvm.MethodName)) ∈ x_tb := x_m1 31 rfl rfl
theorem m_32 : (Jvm.Cond.code ({ cls := "java/lang/Math", name := "max", desc := "(II)I" } : Jvm.MethodName) prog_17_method_65_code (2 : Nat) (Option.some Jvm.ClassFile.FieldType.int)) ∈ x_tb := x_m1 32 rfl rfl
theorem m_33 : (Jvm.Cond.classLink "WallDamp" (18 : Nat) "WallDamp$Material") ∈ x_tb := x_m1 33 rfl rfl
theorem m_35 : (Jvm.Cond.instantiable "WallDamp$Material" (4 : Nat)) ∈ x_tb := x_m1 35 rfl rfl
theorem m_36 : (Jvm.Cond.methodLink "WallDamp" (24 : Nat) ({ cls := "WallDamp$Material", name := "<init>", desc := "()V" } : Jvm.MethodName)) ∈ x_tb := x_m1 36 rfl rfl
theorem m_37 : (Jvm.Cond.instanceMethod ({ cls := "WallDamp$Material", name := "<init>", desc := "()V" } : Jvm.MethodName)) ∈ x_tb := x_m1 37 rfl rfl
theorem m_38 : (Jvm.Cond.code ({ cls := "WallDamp$Material", name := "<init>", desc := "()V" } : Jvm.MethodName) prog_6_method_1_code (1 : Nat) (Option.none : Option Jvm.ClassFile.FieldType)) ∈ x_tb := x_m1 38 rfl rfl
theorem m_39 : (Jvm.Cond.methodLink "WallDamp$Material" (1 : Nat) ({ cls := "java/lang/Object", name := "<init>", desc := "()V" } : Jvm.MethodName)) ∈ x_tb := x_m1 39 rfl rfl
theorem m_40 : (Jvm.Cond.classLink "WallDamp$Material" (7 : Nat) "WallDamp$Corners") ∈ x_tb := x_m1 40 rfl rfl
theorem m_41 : (Jvm.Cond.instantiable "WallDamp$Corners" (4 : Nat)) ∈ x_tb := x_m1 41 rfl rfl
theorem m_42 : (Jvm.Cond.methodLink "WallDamp$Material" (11 : Nat) ({ cls := "WallDamp$Corners", name := "<init>", desc := "(I)V" } : Jvm.MethodName)) ∈ x_tb := x_m1 42 rfl rfl
theorem m_43 : (Jvm.Cond.instanceMethod ({ cls := "WallDamp$Corners", name := "<init>", desc := "(I)V" } : Jvm.MethodName)) ∈ x_tb := x_m1 43 rfl rfl
theorem m_44 : (Jvm.Cond.code ({ cls := "WallDamp$Corners", name := "<init>", desc := "(I)V" } : Jvm.MethodName) prog_4_method_1_code (2 : Nat) (Option.none : Option Jvm.ClassFile.FieldType)) ∈ x_tb := x_m1 44 rfl rfl
theorem m_45 : (Jvm.Cond.methodLink "WallDamp$Corners" (1 : Nat) ({ cls := "java/lang/Object", name := "<init>", desc := "()V" } : Jvm.MethodName)) ∈ x_tb := x_m1 45 rfl rfl
theorem m_46 : (Jvm.Cond.methodLink "WallDamp$Corners" (16 : Nat) ({ cls := "java/lang/Math", name := "min", desc := "(II)I" } : Jvm.MethodName)) ∈ x_tb := x_m1 46 rfl rfl
theorem m_47 : (Jvm.Cond.fieldLink "WallDamp$Corners" (9 : Nat) "WallDamp$Corners" "xs" "[I") ∈ x_tb := x_m1 47 rfl rfl
theorem m_48 : (Jvm.Cond.fieldLink "WallDamp$Corners" (13 : Nat) "WallDamp$Corners" "ys" "[I") ∈ x_tb := x_m1 48 rfl rfl
theorem m_49 : (Jvm.Cond.fieldLink "WallDamp$Corners" (22 : Nat) "WallDamp$Corners" "limit" "I") ∈ x_tb := x_m1 49 rfl rfl
theorem m_50 : (Jvm.Cond.fieldLink "WallDamp$Corners" (26 : Nat) "WallDamp$Corners" "count" "I") ∈ x_tb := x_m1 50 rfl rfl
theorem m_51 : (Jvm.Cond.laysFinal "WallDamp$Corners" "WallDamp$Corners" "xs" "[I") ∈ x_tb := x_m1 51 rfl rfl
theorem m_53 : (Jvm.Cond.laysFinal "WallDamp$Corners" "WallDamp$Corners" "ys" "[I") ∈ x_tb := x_m1 53 rfl rfl
theorem m_55 : (Jvm.Cond.laysFinal "WallDamp$Corners" "WallDamp$Corners" "limit" "I") ∈ x_tb := x_m1 55 rfl rfl
theorem m_57 : (Jvm.Cond.lays "WallDamp$Corners" "WallDamp$Corners" "count" "I") ∈ x_tb := x_m1 57 rfl rfl
theorem m_60 : (Jvm.Cond.arrayClass Jvm.ClassFile.FieldType.int) ∈ x_tb := x_m1 60 rfl rfl
theorem m_61 : (Jvm.Cond.methodLink "WallDamp$Material" (18 : Nat) ({ cls := "WallDamp$Corners", name := "add", desc := "(II)I" } : Jvm.MethodName)) ∈ x_tb := x_m1 61 rfl rfl
theorem m_62 : (Jvm.Cond.instanceMethod ({ cls := "WallDamp$Corners", name := "add", desc := "(II)I" } : Jvm.MethodName)) ∈ x_tb := x_m1 62 rfl rfl
theorem m_63 : (Jvm.Cond.selects "WallDamp$Corners" ({ cls := "WallDamp$Corners", name := "add", desc := "(II)I" } : Jvm.MethodName) ({ cls := "WallDamp$Corners", name := "add", desc := "(II)I" } : Jvm.MethodName)) ∈ x_tb := x_m1 63 rfl rfl
theorem m_64 : (Jvm.Cond.code ({ cls := "WallDamp$Corners", name := "add", desc := "(II)I" } : Jvm.MethodName) prog_4_method_3_code (3 : Nat) (Option.some Jvm.ClassFile.FieldType.int)) ∈ x_tb := x_m1 64 rfl rfl
theorem m_65 : (Jvm.Cond.fieldLink "WallDamp$Material" (14 : Nat) "WallDamp$Material" "damps" "LWallDamp$Corners;") ∈ x_tb := x_m1 65 rfl rfl
theorem m_66 : (Jvm.Cond.fieldLink "WallDamp" (80 : Nat) "WallDamp$Material" "damps" "LWallDamp$Corners;") ∈ x_tb := x_m1 66 rfl rfl
theorem m_67 : (Jvm.Cond.fieldLink "WallDamp$Cell" (22 : Nat) "WallDamp$Material" "damps" "LWallDamp$Corners;") ∈ x_tb := x_m1 67 rfl rfl
theorem m_68 : (Jvm.Cond.fieldLink "WallDamp$Material" (22 : Nat) "WallDamp$Material" "vapour" "I") ∈ x_tb := x_m1 68 rfl rfl
theorem m_69 : (Jvm.Cond.fieldLink "WallDamp" (88 : Nat) "WallDamp$Material" "vapour" "I") ∈ x_tb := x_m1 69 rfl rfl
theorem m_70 : (Jvm.Cond.fieldLink "WallDamp$Wall" (151 : Nat) "WallDamp$Material" "vapour" "I") ∈ x_tb := x_m1 70 rfl rfl
theorem m_71 : (Jvm.Cond.fieldLink "WallDamp$Material" (26 : Nat) "WallDamp$Material" "liquid" "I") ∈ x_tb := x_m1 71 rfl rfl
theorem m_72 : (Jvm.Cond.fieldLink "WallDamp" (91 : Nat) "WallDamp$Material" "liquid" "I") ∈ x_tb := x_m1 72 rfl rfl
theorem m_73 : (Jvm.Cond.fieldLink "WallDamp$Wall" (159 : Nat) "WallDamp$Material" "liquid" "I") ∈ x_tb := x_m1 73 rfl rfl
theorem m_74 : (Jvm.Cond.fieldLink "WallDamp$Material" (29 : Nat) "WallDamp$Material" "leads" "I") ∈ x_tb := x_m1 74 rfl rfl
theorem m_75 : (Jvm.Cond.fieldLink "WallDamp" (94 : Nat) "WallDamp$Material" "leads" "I") ∈ x_tb := x_m1 75 rfl rfl
theorem m_76 : (Jvm.Cond.fieldLink "WallDamp$Cell" (34 : Nat) "WallDamp$Material" "leads" "I") ∈ x_tb := x_m1 76 rfl rfl
theorem m_77 : (Jvm.Cond.laysFinal "WallDamp$Material" "WallDamp$Material" "damps" "LWallDamp$Corners;") ∈ x_tb := x_m1 77 rfl rfl
theorem m_79 : (Jvm.Cond.lays "WallDamp$Material" "WallDamp$Material" "vapour" "I") ∈ x_tb := x_m1 79 rfl rfl
theorem m_81 : (Jvm.Cond.lays "WallDamp$Material" "WallDamp$Material" "liquid" "I") ∈ x_tb := x_m1 81 rfl rfl
theorem m_83 : (Jvm.Cond.lays "WallDamp$Material" "WallDamp$Material" "leads" "I") ∈ x_tb := x_m1 83 rfl rfl
theorem m_86 : (Jvm.Cond.classLink "WallDamp" (25 : Nat) "WallDamp$Surroundings") ∈ x_tb := x_m1 86 rfl rfl
theorem m_87 : (Jvm.Cond.instantiable "WallDamp$Surroundings" (9 : Nat)) ∈ x_tb := x_m1 87 rfl rfl
theorem m_88 : (Jvm.Cond.methodLink "WallDamp" (27 : Nat) ({ cls := "WallDamp$Surroundings", name := "<init>", desc := "()V" } : Jvm.MethodName)) ∈ x_tb := x_m1 88 rfl rfl
theorem m_89 : (Jvm.Cond.instanceMethod ({ cls := "WallDamp$Surroundings", name := "<init>", desc := "()V" } : Jvm.MethodName)) ∈ x_tb := x_m1 89 rfl rfl
theorem m_90 : (Jvm.Cond.code ({ cls := "WallDamp$Surroundings", name := "<init>", desc := "()V" } : Jvm.MethodName) prog_9_method_1_code (1 : Nat) (Option.none : Option Jvm.ClassFile.FieldType)) ∈ x_tb := x_m1 90 rfl rfl
theorem m_91 : (Jvm.Cond.methodLink "WallDamp$Surroundings" (3 : Nat) ({ cls := "java/lang/Object", name := "<init>", desc := "()V" } : Jvm.MethodName)) ∈ x_tb := x_m1 91 rfl rfl
theorem m_92 : (Jvm.Cond.classLink "WallDamp$Surroundings" (9 : Nat) "WallDamp$Corners") ∈ x_tb := x_m1 92 rfl rfl
theorem m_93 : (Jvm.Cond.methodLink "WallDamp$Surroundings" (13 : Nat) ({ cls := "WallDamp$Corners", name := "<init>", desc := "(I)V" } : Jvm.MethodName)) ∈ x_tb := x_m1 93 rfl rfl
theorem m_94 : (Jvm.Cond.fieldLink "WallDamp$Surroundings" (16 : Nat) "WallDamp$Surroundings" "fullPressures" "LWallDamp$Corners;") ∈ x_tb := x_m1 94 rfl rfl
theorem m_95 : (Jvm.Cond.fieldLink "WallDamp" (114 : Nat) "WallDamp$Surroundings" "fullPressures" "LWallDamp$Corners;") ∈ x_tb := x_m1 95 rfl rfl
theorem m_96 : (Jvm.Cond.fieldLink "WallDamp$Surroundings" (20 : Nat) "WallDamp$Surroundings" "outerWarmth" "[I") ∈ x_tb := x_m1 96 rfl rfl
theorem m_97 : (Jvm.Cond.fieldLink "WallDamp$Wall" (68 : Nat) "WallDamp$Surroundings" "outerWarmth" "[I") ∈ x_tb := x_m1 97 rfl rfl
theorem m_98 : (Jvm.Cond.fieldLink "WallDamp" (132 : Nat) "WallDamp$Surroundings" "outerWarmth" "[I") ∈ x_tb := x_m1 98 rfl rfl
theorem m_99 : (Jvm.Cond.fieldLink "WallDamp$Surroundings" (24 : Nat) "WallDamp$Surroundings" "outerDamp" "[I") ∈ x_tb := x_m1 99 rfl rfl
theorem m_100 : (Jvm.Cond.fieldLink "WallDamp$Wall" (87 : Nat) "WallDamp$Surroundings" "outerDamp" "[I") ∈ x_tb := x_m1 100 rfl rfl
theorem m_101 : (Jvm.Cond.fieldLink "WallDamp" (136 : Nat) "WallDamp$Surroundings" "outerDamp" "[I") ∈ x_tb := x_m1 101 rfl rfl
theorem m_102 : (Jvm.Cond.fieldLink "WallDamp$Surroundings" (27 : Nat) "WallDamp$Surroundings" "rainFall" "[I") ∈ x_tb := x_m1 102 rfl rfl
theorem m_103 : (Jvm.Cond.fieldLink "WallDamp$Wall" (99 : Nat) "WallDamp$Surroundings" "rainFall" "[I") ∈ x_tb := x_m1 103 rfl rfl
theorem m_104 : (Jvm.Cond.fieldLink "WallDamp" (139 : Nat) "WallDamp$Surroundings" "rainFall" "[I") ∈ x_tb := x_m1 104 rfl rfl
theorem m_105 : (Jvm.Cond.fieldLink "WallDamp$Surroundings" (30 : Nat) "WallDamp$Surroundings" "sunShine" "[I") ∈ x_tb := x_m1 105 rfl rfl
theorem m_106 : (Jvm.Cond.fieldLink "WallDamp$Wall" (74 : Nat) "WallDamp$Surroundings" "sunShine" "[I") ∈ x_tb := x_m1 106 rfl rfl
theorem m_107 : (Jvm.Cond.fieldLink "WallDamp" (142 : Nat) "WallDamp$Surroundings" "sunShine" "[I") ∈ x_tb := x_m1 107 rfl rfl
theorem m_108 : (Jvm.Cond.fieldLink "WallDamp$Surroundings" (33 : Nat) "WallDamp$Surroundings" "innerWarmth" "[I") ∈ x_tb := x_m1 108 rfl rfl
theorem m_109 : (Jvm.Cond.fieldLink "WallDamp$Wall" (80 : Nat) "WallDamp$Surroundings" "innerWarmth" "[I") ∈ x_tb := x_m1 109 rfl rfl
theorem m_110 : (Jvm.Cond.fieldLink "WallDamp" (145 : Nat) "WallDamp$Surroundings" "innerWarmth" "[I") ∈ x_tb := x_m1 110 rfl rfl
theorem m_111 : (Jvm.Cond.fieldLink "WallDamp$Surroundings" (36 : Nat) "WallDamp$Surroundings" "innerDamp" "[I") ∈ x_tb := x_m1 111 rfl rfl
theorem m_112 : (Jvm.Cond.fieldLink "WallDamp$Wall" (94 : Nat) "WallDamp$Surroundings" "innerDamp" "[I") ∈ x_tb := x_m1 112 rfl rfl
theorem m_113 : (Jvm.Cond.fieldLink "WallDamp" (148 : Nat) "WallDamp$Surroundings" "innerDamp" "[I") ∈ x_tb := x_m1 113 rfl rfl
theorem m_114 : (Jvm.Cond.fieldLink "WallDamp$Surroundings" (39 : Nat) "WallDamp$Surroundings" "outerFilm" "I") ∈ x_tb := x_m1 114 rfl rfl
theorem m_115 : (Jvm.Cond.fieldLink "WallDamp$Wall" (120 : Nat) "WallDamp$Surroundings" "outerFilm" "I") ∈ x_tb := x_m1 115 rfl rfl
theorem m_116 : (Jvm.Cond.fieldLink "WallDamp" (123 : Nat) "WallDamp$Surroundings" "outerFilm" "I") ∈ x_tb := x_m1 116 rfl rfl
theorem m_117 : (Jvm.Cond.fieldLink "WallDamp$Surroundings" (43 : Nat) "WallDamp$Surroundings" "innerFilm" "I") ∈ x_tb := x_m1 117 rfl rfl
theorem m_118 : (Jvm.Cond.fieldLink "WallDamp$Wall" (131 : Nat) "WallDamp$Surroundings" "innerFilm" "I") ∈ x_tb := x_m1 118 rfl rfl
theorem m_119 : (Jvm.Cond.fieldLink "WallDamp" (126 : Nat) "WallDamp$Surroundings" "innerFilm" "I") ∈ x_tb := x_m1 119 rfl rfl
theorem m_120 : (Jvm.Cond.laysFinal "WallDamp$Surroundings" "WallDamp$Surroundings" "fullPressures" "LWallDamp$Corners;") ∈ x_tb := x_m1 120 rfl rfl
theorem m_122 : (Jvm.Cond.laysFinal "WallDamp$Surroundings" "WallDamp$Surroundings" "outerWarmth" "[I") ∈ x_tb := x_m1 122 rfl rfl
theorem m_124 : (Jvm.Cond.laysFinal "WallDamp$Surroundings" "WallDamp$Surroundings" "outerDamp" "[I") ∈ x_tb := x_m1 124 rfl rfl
theorem m_126 : (Jvm.Cond.laysFinal "WallDamp$Surroundings" "WallDamp$Surroundings" "rainFall" "[I") ∈ x_tb := x_m1 126 rfl rfl
theorem m_128 : (Jvm.Cond.laysFinal "WallDamp$Surroundings" "WallDamp$Surroundings" "sunShine" "[I") ∈ x_tb := x_m1 128 rfl rfl
theorem m_130 : (Jvm.Cond.laysFinal "WallDamp$Surroundings" "WallDamp$Surroundings" "innerWarmth" "[I") ∈ x_tb := x_m1 130 rfl rfl
theorem m_132 : (Jvm.Cond.laysFinal "WallDamp$Surroundings" "WallDamp$Surroundings" "innerDamp" "[I") ∈ x_tb := x_m1 132 rfl rfl
theorem m_134 : (Jvm.Cond.lays "WallDamp$Surroundings" "WallDamp$Surroundings" "outerFilm" "I") ∈ x_tb := x_m1 134 rfl rfl
theorem m_136 : (Jvm.Cond.lays "WallDamp$Surroundings" "WallDamp$Surroundings" "innerFilm" "I") ∈ x_tb := x_m1 136 rfl rfl
theorem m_139 : (Jvm.Cond.classLink "WallDamp" (32 : Nat) "WallDamp$MouldRows") ∈ x_tb := x_m1 139 rfl rfl
theorem m_140 : (Jvm.Cond.instantiable "WallDamp$MouldRows" (5 : Nat)) ∈ x_tb := x_m1 140 rfl rfl
theorem m_141 : (Jvm.Cond.methodLink "WallDamp" (34 : Nat) ({ cls := "WallDamp$MouldRows", name := "<init>", desc := "()V" } : Jvm.MethodName)) ∈ x_tb := x_m1 141 rfl rfl
theorem m_142 : (Jvm.Cond.instanceMethod ({ cls := "WallDamp$MouldRows", name := "<init>", desc := "()V" } : Jvm.MethodName)) ∈ x_tb := x_m1 142 rfl rfl
theorem m_143 : (Jvm.Cond.code ({ cls := "WallDamp$MouldRows", name := "<init>", desc := "()V" } : Jvm.MethodName) prog_7_method_1_code (1 : Nat) (Option.none : Option Jvm.ClassFile.FieldType)) ∈ x_tb := x_m1 143 rfl rfl
theorem m_144 : (Jvm.Cond.methodLink "WallDamp$MouldRows" (3 : Nat) ({ cls := "java/lang/Object", name := "<init>", desc := "()V" } : Jvm.MethodName)) ∈ x_tb := x_m1 144 rfl rfl
theorem m_145 : (Jvm.Cond.fieldLink "WallDamp$MouldRows" (11 : Nat) "WallDamp$MouldRows" "damps" "[I") ∈ x_tb := x_m1 145 rfl rfl
theorem m_146 : (Jvm.Cond.fieldLink "WallDamp$MouldRows" (15 : Nat) "WallDamp$MouldRows" "froms" "[I") ∈ x_tb := x_m1 146 rfl rfl
theorem m_147 : (Jvm.Cond.fieldLink "WallDamp$MouldRows" (18 : Nat) "WallDamp$MouldRows" "tos" "[I") ∈ x_tb := x_m1 147 rfl rfl
theorem m_148 : (Jvm.Cond.fieldLink "WallDamp$MouldRows" (21 : Nat) "WallDamp$MouldRows" "mores" "[I") ∈ x_tb := x_m1 148 rfl rfl
theorem m_149 : (Jvm.Cond.fieldLink "WallDamp$MouldRows" (24 : Nat) "WallDamp$MouldRows" "count" "I") ∈ x_tb := x_m1 149 rfl rfl
theorem m_150 : (Jvm.Cond.laysFinal "WallDamp$MouldRows" "WallDamp$MouldRows" "damps" "[I") ∈ x_tb := x_m1 150 rfl rfl
theorem m_152 : (Jvm.Cond.laysFinal "WallDamp$MouldRows" "WallDamp$MouldRows" "froms" "[I") ∈ x_tb := x_m1 152 rfl rfl
theorem m_154 : (Jvm.Cond.laysFinal "WallDamp$MouldRows" "WallDamp$MouldRows" "tos" "[I") ∈ x_tb := x_m1 154 rfl rfl
theorem m_156 : (Jvm.Cond.laysFinal "WallDamp$MouldRows" "WallDamp$MouldRows" "mores" "[I") ∈ x_tb := x_m1 156 rfl rfl
theorem m_158 : (Jvm.Cond.lays "WallDamp$MouldRows" "WallDamp$MouldRows" "count" "I") ∈ x_tb := x_m1 158 rfl rfl
theorem m_161 : (Jvm.Cond.classLink "WallDamp" (39 : Nat) "WallDamp$Wall") ∈ x_tb := x_m1 161 rfl rfl
theorem m_162 : (Jvm.Cond.instantiable "WallDamp$Wall" (9 : Nat)) ∈ x_tb := x_m1 162 rfl rfl
theorem m_163 : (Jvm.Cond.methodLink "WallDamp" (41 : Nat) ({ cls := "WallDamp$Wall", name := "<init>", desc := "(ILWallDamp$Material;)V" } : Jvm.MethodName)) ∈ x_tb := x_m1 163 rfl rfl
theorem m_164 : (Jvm.Cond.instanceMethod ({ cls := "WallDamp$Wall", name := "<init>", desc := "(ILWallDamp$Material;)V" } : Jvm.MethodName)) ∈ x_tb := x_m1 164 rfl rfl
theorem m_165 : (Jvm.Cond.code ({ cls := "WallDamp$Wall", name := "<init>", desc := "(ILWallDamp$Material;)V" } : Jvm.MethodName) prog_11_method_1_code (5 : Nat) (Option.none : Option Jvm.ClassFile.FieldType)) ∈ x_tb := x_m1 165 rfl rfl
theorem m_166 : (Jvm.Cond.methodLink "WallDamp$Wall" (3 : Nat) ({ cls := "java/lang/Object", name := "<init>", desc := "()V" } : Jvm.MethodName)) ∈ x_tb := x_m1 166 rfl rfl
theorem m_167 : (Jvm.Cond.methodLink "WallDamp$Wall" (9 : Nat) ({ cls := "java/lang/Math", name := "max", desc := "(II)I" } : Jvm.MethodName)) ∈ x_tb := x_m1 167 rfl rfl
theorem m_168 : (Jvm.Cond.classLink "WallDamp$Wall" (15 : Nat) "WallDamp$Air") ∈ x_tb := x_m1 168 rfl rfl
theorem m_169 : (Jvm.Cond.instantiable "WallDamp$Air" (9 : Nat)) ∈ x_tb := x_m1 169 rfl rfl
theorem m_170 : (Jvm.Cond.methodLink "WallDamp$Wall" (17 : Nat) ({ cls := "WallDamp$Air", name := "<init>", desc := "()V" } : Jvm.MethodName)) ∈ x_tb := x_m1 170 rfl rfl
theorem m_171 : (Jvm.Cond.instanceMethod ({ cls := "WallDamp$Air", name := "<init>", desc := "()V" } : Jvm.MethodName)) ∈ x_tb := x_m1 171 rfl rfl
theorem m_172 : (Jvm.Cond.code ({ cls := "WallDamp$Air", name := "<init>", desc := "()V" } : Jvm.MethodName) prog_2_method_1_code (1 : Nat) (Option.none : Option Jvm.ClassFile.FieldType)) ∈ x_tb := x_m1 172 rfl rfl
theorem m_173 : (Jvm.Cond.methodLink "WallDamp$Air" (1 : Nat) ({ cls := "WallDamp$Place", name := "<init>", desc := "()V" } : Jvm.MethodName)) ∈ x_tb := x_m1 173 rfl rfl
theorem m_174 : (Jvm.Cond.instanceMethod ({ cls := "WallDamp$Place", name := "<init>", desc := "()V" } : Jvm.MethodName)) ∈ x_tb := x_m1 174 rfl rfl
theorem m_175 : (Jvm.Cond.code ({ cls := "WallDamp$Place", name := "<init>", desc := "()V" } : Jvm.MethodName) prog_8_method_1_code (1 : Nat) (Option.none : Option Jvm.ClassFile.FieldType)) ∈ x_tb := x_m1 175 rfl rfl
theorem m_176 : (Jvm.Cond.methodLink "WallDamp$Place" (1 : Nat) ({ cls := "java/lang/Object", name := "<init>", desc := "()V" } : Jvm.MethodName)) ∈ x_tb := x_m1 176 rfl rfl
theorem m_177 : (Jvm.Cond.fieldLink "WallDamp$Air" (7 : Nat) "WallDamp$Air" "gone" "J") ∈ x_tb := x_m1 177 rfl rfl
theorem m_178 : (Jvm.Cond.fieldLink "WallDamp" (202 : Nat) "WallDamp$Air" "gone" "J") ∈ x_tb := x_m1 178 rfl rfl
theorem m_179 : (Jvm.Cond.fieldLink "WallDamp$Air" (13 : Nat) "WallDamp$Air" "come" "J") ∈ x_tb := x_m1 179 rfl rfl
theorem m_180 : (Jvm.Cond.fieldLink "WallDamp" (210 : Nat) "WallDamp$Air" "come" "J") ∈ x_tb := x_m1 180 rfl rfl
theorem m_181 : (Jvm.Cond.fieldLink "WallDamp$Place" (7 : Nat) "WallDamp$Place" "warmth" "I") ∈ x_tb := x_m1 181 rfl rfl
theorem m_182 : (Jvm.Cond.fieldLink "WallDamp$Air" (16 : Nat) "WallDamp$Air" "warmth" "I") ∈ x_tb := x_m1 182 rfl rfl
theorem m_183 : (Jvm.Cond.sameField "WallDamp$Air" "WallDamp$Place" "warmth" "I") ∈ x_tb := x_m1 183 rfl rfl
theorem m_184 : (Jvm.Cond.fieldLink "WallDamp$Wall" (77 : Nat) "WallDamp$Air" "warmth" "I") ∈ x_tb := x_m1 184 rfl rfl
theorem m_185 : (Jvm.Cond.fieldLink "WallDamp$Wall" (138 : Nat) "WallDamp$Cell" "warmth" "I") ∈ x_tb := x_m1 185 rfl rfl
theorem m_186 : (Jvm.Cond.sameField "WallDamp$Cell" "WallDamp$Place" "warmth" "I") ∈ x_tb := x_m1 186 rfl rfl
theorem m_187 : (Jvm.Cond.fieldLink "WallDamp$Cell" (44 : Nat) "WallDamp$Cell" "warmth" "I") ∈ x_tb := x_m1 187 rfl rfl
theorem m_188 : (Jvm.Cond.fieldLink "WallDamp" (181 : Nat) "WallDamp$Cell" "warmth" "I") ∈ x_tb := x_m1 188 rfl rfl
theorem m_189 : (Jvm.Cond.fieldLink "WallDamp$Place" (13 : Nat) "WallDamp$Place" "damp" "I") ∈ x_tb := x_m1 189 rfl rfl
theorem m_190 : (Jvm.Cond.fieldLink "WallDamp$Wall" (168 : Nat) "WallDamp$Cell" "damp" "I") ∈ x_tb := x_m1 190 rfl rfl
theorem m_191 : (Jvm.Cond.sameField "WallDamp$Cell" "WallDamp$Place" "damp" "I") ∈ x_tb := x_m1 191 rfl rfl
theorem m_192 : (Jvm.Cond.fieldLink "WallDamp$Place" (16 : Nat) "WallDamp$Place" "pressure" "I") ∈ x_tb := x_m1 192 rfl rfl
theorem m_193 : (Jvm.Cond.fieldLink "WallDamp$Wall" (143 : Nat) "WallDamp$Air" "pressure" "I") ∈ x_tb := x_m1 193 rfl rfl
theorem m_194 : (Jvm.Cond.sameField "WallDamp$Air" "WallDamp$Place" "pressure" "I") ∈ x_tb := x_m1 194 rfl rfl
theorem m_195 : (Jvm.Cond.fieldLink "WallDamp$Wall" (146 : Nat) "WallDamp$Cell" "pressure" "I") ∈ x_tb := x_m1 195 rfl rfl
theorem m_196 : (Jvm.Cond.sameField "WallDamp$Cell" "WallDamp$Place" "pressure" "I") ∈ x_tb := x_m1 196 rfl rfl
theorem m_197 : (Jvm.Cond.fieldLink "WallDamp$Place" (19 : Nat) "WallDamp$Place" "supply" "I") ∈ x_tb := x_m1 197 rfl rfl
theorem m_198 : (Jvm.Cond.fieldLink "WallDamp$Flow" (31 : Nat) "WallDamp$Place" "supply" "I") ∈ x_tb := x_m1 198 rfl rfl
theorem m_199 : (Jvm.Cond.fieldLink "WallDamp$Place" (22 : Nat) "WallDamp$Place" "room" "I") ∈ x_tb := x_m1 199 rfl rfl
theorem m_200 : (Jvm.Cond.fieldLink "WallDamp$Flow" (41 : Nat) "WallDamp$Place" "room" "I") ∈ x_tb := x_m1 200 rfl rfl
theorem m_201 : (Jvm.Cond.fieldLink "WallDamp$Flow" (26 : Nat) "WallDamp$Place" "leaving" "I") ∈ x_tb := x_m1 201 rfl rfl
theorem m_202 : (Jvm.Cond.fieldLink "WallDamp$Place" (25 : Nat) "WallDamp$Place" "leaving" "I") ∈ x_tb := x_m1 202 rfl rfl
theorem m_203 : (Jvm.Cond.fieldLink "WallDamp$Place" (28 : Nat) "WallDamp$Place" "coming" "I") ∈ x_tb := x_m1 203 rfl rfl
theorem m_204 : (Jvm.Cond.fieldLink "WallDamp$Flow" (38 : Nat) "WallDamp$Place" "coming" "I") ∈ x_tb := x_m1 204 rfl rfl
theorem m_205 : (Jvm.Cond.lays "WallDamp$Air" "WallDamp$Air" "gone" "J") ∈ x_tb := x_m1 205 rfl rfl
theorem m_207 : (Jvm.Cond.lays "WallDamp$Air" "WallDamp$Air" "come" "J") ∈ x_tb := x_m1 207 rfl rfl
theorem m_209 : (Jvm.Cond.lays "WallDamp$Air" "WallDamp$Place" "warmth" "I") ∈ x_tb := x_m1 209 rfl rfl
theorem m_211 : (Jvm.Cond.lays "WallDamp$Air" "WallDamp$Place" "damp" "I") ∈ x_tb := x_m1 211 rfl rfl
theorem m_213 : (Jvm.Cond.lays "WallDamp$Air" "WallDamp$Place" "pressure" "I") ∈ x_tb := x_m1 213 rfl rfl
theorem m_215 : (Jvm.Cond.lays "WallDamp$Air" "WallDamp$Place" "supply" "I") ∈ x_tb := x_m1 215 rfl rfl
theorem m_217 : (Jvm.Cond.lays "WallDamp$Air" "WallDamp$Place" "room" "I") ∈ x_tb := x_m1 217 rfl rfl
theorem m_219 : (Jvm.Cond.lays "WallDamp$Air" "WallDamp$Place" "leaving" "I") ∈ x_tb := x_m1 219 rfl rfl
theorem m_221 : (Jvm.Cond.lays "WallDamp$Air" "WallDamp$Place" "coming" "I") ∈ x_tb := x_m1 221 rfl rfl
theorem m_224 : (Jvm.Cond.classLink "WallDamp$Wall" (27 : Nat) "WallDamp$Cell") ∈ x_tb := x_m1 224 rfl rfl
theorem m_226 : (Jvm.Cond.classLink "WallDamp$Wall" (33 : Nat) "WallDamp$Flow") ∈ x_tb := x_m1 226 rfl rfl
theorem m_228 : (Jvm.Cond.instantiable "WallDamp$Cell" (15 : Nat)) ∈ x_tb := x_m1 228 rfl rfl
theorem m_229 : (Jvm.Cond.methodLink "WallDamp$Wall" (39 : Nat) ({ cls := "WallDamp$Cell", name := "<init>", desc := "(LWallDamp$Material;)V" } : Jvm.MethodName)) ∈ x_tb := x_m1 229 rfl rfl
theorem m_230 : (Jvm.Cond.instanceMethod ({ cls := "WallDamp$Cell", name := "<init>", desc := "(LWallDamp$Material;)V" } : Jvm.MethodName)) ∈ x_tb := x_m1 230 rfl rfl
theorem m_231 : (Jvm.Cond.code ({ cls := "WallDamp$Cell", name := "<init>", desc := "(LWallDamp$Material;)V" } : Jvm.MethodName) prog_3_method_1_code (2 : Nat) (Option.none : Option Jvm.ClassFile.FieldType)) ∈ x_tb := x_m1 231 rfl rfl
theorem m_232 : (Jvm.Cond.methodLink "WallDamp$Cell" (3 : Nat) ({ cls := "WallDamp$Place", name := "<init>", desc := "()V" } : Jvm.MethodName)) ∈ x_tb := x_m1 232 rfl rfl
theorem m_233 : (Jvm.Cond.fieldLink "WallDamp$Cell" (9 : Nat) "WallDamp$Cell" "material" "LWallDamp$Material;") ∈ x_tb := x_m1 233 rfl rfl
theorem m_234 : (Jvm.Cond.fieldLink "WallDamp" (106 : Nat) "WallDamp$Cell" "material" "LWallDamp$Material;") ∈ x_tb := x_m1 234 rfl rfl
theorem m_235 : (Jvm.Cond.fieldLink "WallDamp$Wall" (147 : Nat) "WallDamp$Cell" "material" "LWallDamp$Material;") ∈ x_tb := x_m1 235 rfl rfl
theorem m_236 : (Jvm.Cond.fieldLink "WallDamp$Cell" (15 : Nat) "WallDamp$Cell" "thickness" "I") ∈ x_tb := x_m1 236 rfl rfl
theorem m_237 : (Jvm.Cond.fieldLink "WallDamp" (110 : Nat) "WallDamp$Cell" "thickness" "I") ∈ x_tb := x_m1 237 rfl rfl
theorem m_238 : (Jvm.Cond.fieldLink "WallDamp$Cell" (37 : Nat) "WallDamp$Cell" "leakRate" "I") ∈ x_tb := x_m1 238 rfl rfl
theorem m_239 : (Jvm.Cond.fieldLink "WallDamp$Wall" (162 : Nat) "WallDamp$Cell" "leakRate" "I") ∈ x_tb := x_m1 239 rfl rfl
theorem m_240 : (Jvm.Cond.fieldLink "WallDamp" (155 : Nat) "WallDamp$Cell" "leakRate" "I") ∈ x_tb := x_m2 0 rfl rfl
theorem m_241 : (Jvm.Cond.fieldLink "WallDamp$Cell" (19 : Nat) "WallDamp$Cell" "held" "I") ∈ x_tb := x_m2 1 rfl rfl
theorem m_242 : (Jvm.Cond.fieldLink "WallDamp$Wall" (61 : Nat) "WallDamp$Cell" "held" "I") ∈ x_tb := x_m2 2 rfl rfl
theorem m_243 : (Jvm.Cond.fieldLink "WallDamp" (101 : Nat) "WallDamp$Cell" "held" "I") ∈ x_tb := x_m2 3 rfl rfl
theorem m_244 : (Jvm.Cond.fieldLink "WallDamp$Wall" (127 : Nat) "WallDamp$Cell" "way" "J") ∈ x_tb := x_m2 4 rfl rfl
theorem m_245 : (Jvm.Cond.fieldLink "WallDamp$Cell" (72 : Nat) "WallDamp$Cell" "passes" "I") ∈ x_tb := x_m2 5 rfl rfl
theorem m_246 : (Jvm.Cond.fieldLink "WallDamp" (184 : Nat) "WallDamp$Cell" "passes" "I") ∈ x_tb := x_m2 6 rfl rfl
theorem m_247 : (Jvm.Cond.fieldLink "WallDamp$Cell" (60 : Nat) "WallDamp$Cell" "greatestDamp" "I") ∈ x_tb := x_m2 7 rfl rfl
theorem m_248 : (Jvm.Cond.fieldLink "WallDamp" (191 : Nat) "WallDamp$Cell" "greatestDamp" "I") ∈ x_tb := x_m2 8 rfl rfl
theorem m_249 : (Jvm.Cond.fieldLink "WallDamp$Cell" (68 : Nat) "WallDamp$Cell" "frozen" "Z") ∈ x_tb := x_m2 9 rfl rfl
theorem m_250 : (Jvm.Cond.fieldLink "WallDamp" (187 : Nat) "WallDamp$Cell" "frozen" "Z") ∈ x_tb := x_m2 10 rfl rfl
theorem m_251 : (Jvm.Cond.lays "WallDamp$Cell" "WallDamp$Cell" "material" "LWallDamp$Material;") ∈ x_tb := x_m2 11 rfl rfl
theorem m_253 : (Jvm.Cond.lays "WallDamp$Cell" "WallDamp$Cell" "thickness" "I") ∈ x_tb := x_m2 13 rfl rfl
theorem m_255 : (Jvm.Cond.lays "WallDamp$Cell" "WallDamp$Cell" "leakRate" "I") ∈ x_tb := x_m2 15 rfl rfl
theorem m_257 : (Jvm.Cond.lays "WallDamp$Cell" "WallDamp$Cell" "held" "I") ∈ x_tb := x_m2 17 rfl rfl
theorem m_259 : (Jvm.Cond.lays "WallDamp$Cell" "WallDamp$Cell" "way" "J") ∈ x_tb := x_m2 19 rfl rfl
theorem m_261 : (Jvm.Cond.lays "WallDamp$Cell" "WallDamp$Cell" "passes" "I") ∈ x_tb := x_m2 21 rfl rfl
theorem m_263 : (Jvm.Cond.lays "WallDamp$Cell" "WallDamp$Cell" "greatestDamp" "I") ∈ x_tb := x_m2 23 rfl rfl
theorem m_265 : (Jvm.Cond.lays "WallDamp$Cell" "WallDamp$Cell" "frozen" "Z") ∈ x_tb := x_m2 25 rfl rfl
theorem m_267 : (Jvm.Cond.lays "WallDamp$Cell" "WallDamp$Place" "warmth" "I") ∈ x_tb := x_m2 27 rfl rfl
theorem m_268 : (Jvm.Cond.lays "WallDamp$Cell" "WallDamp$Place" "damp" "I") ∈ x_tb := x_m2 28 rfl rfl
theorem m_269 : (Jvm.Cond.lays "WallDamp$Cell" "WallDamp$Place" "pressure" "I") ∈ x_tb := x_m2 29 rfl rfl
theorem m_270 : (Jvm.Cond.lays "WallDamp$Cell" "WallDamp$Place" "supply" "I") ∈ x_tb := x_m2 30 rfl rfl
theorem m_271 : (Jvm.Cond.lays "WallDamp$Cell" "WallDamp$Place" "room" "I") ∈ x_tb := x_m2 31 rfl rfl
theorem m_272 : (Jvm.Cond.lays "WallDamp$Cell" "WallDamp$Place" "leaving" "I") ∈ x_tb := x_m2 32 rfl rfl
theorem m_273 : (Jvm.Cond.lays "WallDamp$Cell" "WallDamp$Place" "coming" "I") ∈ x_tb := x_m2 33 rfl rfl
theorem m_275 : (Jvm.Cond.instantiable "WallDamp$Flow" (5 : Nat)) ∈ x_tb := x_m2 35 rfl rfl
theorem m_276 : (Jvm.Cond.methodLink "WallDamp$Wall" (42 : Nat) ({ cls := "WallDamp$Flow", name := "<init>", desc := "(LWallDamp$Place;LWallDamp$Place;)V" } : Jvm.MethodName)) ∈ x_tb := x_m2 36 rfl rfl
theorem m_277 : (Jvm.Cond.instanceMethod ({ cls := "WallDamp$Flow", name := "<init>", desc := "(LWallDamp$Place;LWallDamp$Place;)V" } : Jvm.MethodName)) ∈ x_tb := x_m2 37 rfl rfl
theorem m_278 : (Jvm.Cond.code ({ cls := "WallDamp$Flow", name := "<init>", desc := "(LWallDamp$Place;LWallDamp$Place;)V" } : Jvm.MethodName) prog_5_method_1_code (3 : Nat) (Option.none : Option Jvm.ClassFile.FieldType)) ∈ x_tb := x_m2 38 rfl rfl
theorem m_279 : (Jvm.Cond.methodLink "WallDamp$Flow" (1 : Nat) ({ cls := "java/lang/Object", name := "<init>", desc := "()V" } : Jvm.MethodName)) ∈ x_tb := x_m2 39 rfl rfl
theorem m_280 : (Jvm.Cond.fieldLink "WallDamp$Flow" (7 : Nat) "WallDamp$Flow" "outer" "LWallDamp$Place;") ∈ x_tb := x_m2 40 rfl rfl
theorem m_281 : (Jvm.Cond.fieldLink "WallDamp$Flow" (13 : Nat) "WallDamp$Flow" "inner" "LWallDamp$Place;") ∈ x_tb := x_m2 41 rfl rfl
theorem m_282 : (Jvm.Cond.fieldLink "WallDamp$Flow" (16 : Nat) "WallDamp$Flow" "from" "LWallDamp$Place;") ∈ x_tb := x_m2 42 rfl rfl
theorem m_283 : (Jvm.Cond.fieldLink "WallDamp$Flow" (19 : Nat) "WallDamp$Flow" "to" "LWallDamp$Place;") ∈ x_tb := x_m2 43 rfl rfl
theorem m_284 : (Jvm.Cond.fieldLink "WallDamp$Flow" (22 : Nat) "WallDamp$Flow" "much" "I") ∈ x_tb := x_m2 44 rfl rfl
theorem m_285 : (Jvm.Cond.laysFinal "WallDamp$Flow" "WallDamp$Flow" "outer" "LWallDamp$Place;") ∈ x_tb := x_m2 45 rfl rfl
theorem m_287 : (Jvm.Cond.laysFinal "WallDamp$Flow" "WallDamp$Flow" "inner" "LWallDamp$Place;") ∈ x_tb := x_m2 47 rfl rfl
theorem m_289 : (Jvm.Cond.lays "WallDamp$Flow" "WallDamp$Flow" "from" "LWallDamp$Place;") ∈ x_tb := x_m2 49 rfl rfl
theorem m_291 : (Jvm.Cond.lays "WallDamp$Flow" "WallDamp$Flow" "to" "LWallDamp$Place;") ∈ x_tb := x_m2 51 rfl rfl
theorem m_293 : (Jvm.Cond.lays "WallDamp$Flow" "WallDamp$Flow" "much" "I") ∈ x_tb := x_m2 53 rfl rfl
theorem m_296 : (Jvm.Cond.fieldLink "WallDamp$Wall" (29 : Nat) "WallDamp$Wall" "cells" "[LWallDamp$Cell;") ∈ x_tb := x_m2 56 rfl rfl
theorem m_297 : (Jvm.Cond.fieldLink "WallDamp$Trials" (22 : Nat) "WallDamp$Wall" "cells" "[LWallDamp$Cell;") ∈ x_tb := x_m2 57 rfl rfl
theorem m_298 : (Jvm.Cond.fieldLink "WallDamp" (213 : Nat) "WallDamp$Wall" "cells" "[LWallDamp$Cell;") ∈ x_tb := x_m2 58 rfl rfl
theorem m_299 : (Jvm.Cond.fieldLink "WallDamp$Wall" (18 : Nat) "WallDamp$Wall" "outerAir" "LWallDamp$Air;") ∈ x_tb := x_m2 59 rfl rfl
theorem m_300 : (Jvm.Cond.fieldLink "WallDamp" (198 : Nat) "WallDamp$Wall" "outerAir" "LWallDamp$Air;") ∈ x_tb := x_m2 60 rfl rfl
theorem m_301 : (Jvm.Cond.fieldLink "WallDamp$Wall" (24 : Nat) "WallDamp$Wall" "innerAir" "LWallDamp$Air;") ∈ x_tb := x_m2 61 rfl rfl
theorem m_302 : (Jvm.Cond.fieldLink "WallDamp" (207 : Nat) "WallDamp$Wall" "innerAir" "LWallDamp$Air;") ∈ x_tb := x_m2 62 rfl rfl
theorem m_303 : (Jvm.Cond.fieldLink "WallDamp$Wall" (48 : Nat) "WallDamp$Wall" "outerVapour" "LWallDamp$Flow;") ∈ x_tb := x_m2 63 rfl rfl
theorem m_304 : (Jvm.Cond.fieldLink "WallDamp$Wall" (52 : Nat) "WallDamp$Wall" "innerVapour" "LWallDamp$Flow;") ∈ x_tb := x_m2 64 rfl rfl
theorem m_305 : (Jvm.Cond.fieldLink "WallDamp$Wall" (55 : Nat) "WallDamp$Wall" "rain" "LWallDamp$Flow;") ∈ x_tb := x_m2 65 rfl rfl
theorem m_306 : (Jvm.Cond.fieldLink "WallDamp$Wall" (35 : Nat) "WallDamp$Wall" "leaks" "[LWallDamp$Flow;") ∈ x_tb := x_m2 66 rfl rfl
theorem m_307 : (Jvm.Cond.fieldLink "WallDamp$Wall" (45 : Nat) "WallDamp$Wall" "betweens" "[LWallDamp$Flow;") ∈ x_tb := x_m2 67 rfl rfl
theorem m_308 : (Jvm.Cond.fieldLink "WallDamp$Wall" (58 : Nat) "WallDamp$Wall" "flows" "[LWallDamp$Flow;") ∈ x_tb := x_m2 68 rfl rfl
theorem m_309 : (Jvm.Cond.laysFinal "WallDamp$Wall" "WallDamp$Wall" "cells" "[LWallDamp$Cell;") ∈ x_tb := x_m2 69 rfl rfl
theorem m_311 : (Jvm.Cond.laysFinal "WallDamp$Wall" "WallDamp$Wall" "outerAir" "LWallDamp$Air;") ∈ x_tb := x_m2 71 rfl rfl
theorem m_313 : (Jvm.Cond.laysFinal "WallDamp$Wall" "WallDamp$Wall" "innerAir" "LWallDamp$Air;") ∈ x_tb := x_m2 73 rfl rfl
theorem m_315 : (Jvm.Cond.laysFinal "WallDamp$Wall" "WallDamp$Wall" "outerVapour" "LWallDamp$Flow;") ∈ x_tb := x_m2 75 rfl rfl
theorem m_317 : (Jvm.Cond.laysFinal "WallDamp$Wall" "WallDamp$Wall" "innerVapour" "LWallDamp$Flow;") ∈ x_tb := x_m2 77 rfl rfl
theorem m_319 : (Jvm.Cond.laysFinal "WallDamp$Wall" "WallDamp$Wall" "rain" "LWallDamp$Flow;") ∈ x_tb := x_m2 79 rfl rfl
theorem m_321 : (Jvm.Cond.laysFinal "WallDamp$Wall" "WallDamp$Wall" "leaks" "[LWallDamp$Flow;") ∈ x_tb := x_m2 81 rfl rfl
theorem m_323 : (Jvm.Cond.laysFinal "WallDamp$Wall" "WallDamp$Wall" "betweens" "[LWallDamp$Flow;") ∈ x_tb := x_m2 83 rfl rfl
theorem m_325 : (Jvm.Cond.laysFinal "WallDamp$Wall" "WallDamp$Wall" "flows" "[LWallDamp$Flow;") ∈ x_tb := x_m2 85 rfl rfl
theorem m_328 : (Jvm.Cond.classLink "WallDamp" (48 : Nat) "WallDamp$Trials") ∈ x_tb := x_m2 88 rfl rfl
theorem m_329 : (Jvm.Cond.instantiable "WallDamp$Trials" (3 : Nat)) ∈ x_tb := x_m2 89 rfl rfl
theorem m_330 : (Jvm.Cond.methodLink "WallDamp" (50 : Nat) ({ cls := "WallDamp$Trials", name := "<init>", desc := "(LWallDamp$Wall;)V" } : Jvm.MethodName)) ∈ x_tb := x_m2 90 rfl rfl
theorem m_331 : (Jvm.Cond.instanceMethod ({ cls := "WallDamp$Trials", name := "<init>", desc := "(LWallDamp$Wall;)V" } : Jvm.MethodName)) ∈ x_tb := x_m2 91 rfl rfl
theorem m_332 : (Jvm.Cond.code ({ cls := "WallDamp$Trials", name := "<init>", desc := "(LWallDamp$Wall;)V" } : Jvm.MethodName) prog_10_method_1_code (2 : Nat) (Option.none : Option Jvm.ClassFile.FieldType)) ∈ x_tb := x_m2 92 rfl rfl
theorem m_333 : (Jvm.Cond.methodLink "WallDamp$Trials" (3 : Nat) ({ cls := "java/lang/Object", name := "<init>", desc := "()V" } : Jvm.MethodName)) ∈ x_tb := x_m2 93 rfl rfl
theorem m_334 : (Jvm.Cond.fieldLink "WallDamp$Trials" (19 : Nat) "WallDamp$Trials" "driest" "[I") ∈ x_tb := x_m2 94 rfl rfl
theorem m_335 : (Jvm.Cond.fieldLink "WallDamp" (223 : Nat) "WallDamp$Trials" "driest" "[I") ∈ x_tb := x_m2 95 rfl rfl
theorem m_336 : (Jvm.Cond.fieldLink "WallDamp$Trials" (15 : Nat) "WallDamp$Trials" "row" "[I") ∈ x_tb := x_m2 96 rfl rfl
theorem m_337 : (Jvm.Cond.fieldLink "WallDamp$Trials" (9 : Nat) "WallDamp$Trials" "trial" "LWallDamp$Wall;") ∈ x_tb := x_m2 97 rfl rfl
theorem m_338 : (Jvm.Cond.laysFinal "WallDamp$Trials" "WallDamp$Trials" "driest" "[I") ∈ x_tb := x_m2 98 rfl rfl
theorem m_340 : (Jvm.Cond.laysFinal "WallDamp$Trials" "WallDamp$Trials" "row" "[I") ∈ x_tb := x_m2 100 rfl rfl
theorem m_342 : (Jvm.Cond.laysFinal "WallDamp$Trials" "WallDamp$Trials" "trial" "LWallDamp$Wall;") ∈ x_tb := x_m2 102 rfl rfl
theorem m_345 : (Jvm.Cond.fieldLink "WallDamp" (20 : Nat) "WallDamp" "materials" "[LWallDamp$Material;") ∈ x_tb := x_m2 105 rfl rfl
theorem m_346 : (Jvm.Cond.fieldLink "WallDamp" (28 : Nat) "WallDamp" "around" "LWallDamp$Surroundings;") ∈ x_tb := x_m2 106 rfl rfl
theorem m_347 : (Jvm.Cond.fieldLink "WallDamp" (35 : Nat) "WallDamp" "mouldRows" "LWallDamp$MouldRows;") ∈ x_tb := x_m2 107 rfl rfl
theorem m_348 : (Jvm.Cond.fieldLink "WallDamp" (44 : Nat) "WallDamp" "standing" "LWallDamp$Wall;") ∈ x_tb := x_m2 108 rfl rfl
theorem m_349 : (Jvm.Cond.fieldLink "WallDamp" (53 : Nat) "WallDamp" "trials" "LWallDamp$Trials;") ∈ x_tb := x_m2 109 rfl rfl
theorem m_350 : (Jvm.Cond.fieldLink "WallDamp" (57 : Nat) "WallDamp" "hoursOver" "I") ∈ x_tb := x_m2 110 rfl rfl
theorem m_351 : (Jvm.Cond.fieldLink "WallDamp" (61 : Nat) "WallDamp" "mouldGrown" "I") ∈ x_tb := x_m2 111 rfl rfl
theorem m_352 : (Jvm.Cond.fieldLink "WallDamp" (64 : Nat) "WallDamp" "startWater" "J") ∈ x_tb := x_m2 112 rfl rfl
theorem m_353 : (Jvm.Cond.laysFinal "WallDamp" "WallDamp" "materials" "[LWallDamp$Material;") ∈ x_tb := x_m2 113 rfl rfl
theorem m_355 : (Jvm.Cond.laysFinal "WallDamp" "WallDamp" "around" "LWallDamp$Surroundings;") ∈ x_tb := x_m2 115 rfl rfl
theorem m_357 : (Jvm.Cond.laysFinal "WallDamp" "WallDamp" "mouldRows" "LWallDamp$MouldRows;") ∈ x_tb := x_m2 117 rfl rfl
theorem m_359 : (Jvm.Cond.laysFinal "WallDamp" "WallDamp" "standing" "LWallDamp$Wall;") ∈ x_tb := x_m2 119 rfl rfl
theorem m_361 : (Jvm.Cond.laysFinal "WallDamp" "WallDamp" "trials" "LWallDamp$Trials;") ∈ x_tb := x_m2 121 rfl rfl
theorem m_363 : (Jvm.Cond.lays "WallDamp" "WallDamp" "hoursOver" "I") ∈ x_tb := x_m2 123 rfl rfl
theorem m_365 : (Jvm.Cond.lays "WallDamp" "WallDamp" "mouldGrown" "I") ∈ x_tb := x_m2 125 rfl rfl
theorem m_367 : (Jvm.Cond.lays "WallDamp" "WallDamp" "startWater" "J") ∈ x_tb := x_m2 127 rfl rfl
theorem m_370 : (Jvm.Cond.methodLink "WallDampLaw" (132 : Nat) ({ cls := "WallDamp", name := "mould", desc := "()I" } : Jvm.MethodName)) ∈ x_tb := x_m2 130 rfl rfl
theorem m_371 : (Jvm.Cond.instanceMethod ({ cls := "WallDamp", name := "mould", desc := "()I" } : Jvm.MethodName)) ∈ x_tb := x_m2 131 rfl rfl
theorem m_372 : (Jvm.Cond.selects "WallDamp" ({ cls := "WallDamp", name := "mould", desc := "()I" } : Jvm.MethodName) ({ cls := "WallDamp", name := "mould", desc := "()I" } : Jvm.MethodName)) ∈ x_tb := x_m2 132 rfl rfl
theorem m_373 : (Jvm.Cond.code ({ cls := "WallDamp", name := "mould", desc := "()I" } : Jvm.MethodName) prog_1_method_16_code (1 : Nat) (Option.some Jvm.ClassFile.FieldType.int)) ∈ x_tb := x_m2 133 rfl rfl
theorem m_374 : (Jvm.Cond.methodLink "WallDampLaw" (67 : Nat) ({ cls := "WallDampLaw", name := "cell", desc := "([II)I" } : Jvm.MethodName)) ∈ x_tb := x_m2 134 rfl rfl
theorem m_375 : (Jvm.Cond.static ({ cls := "WallDampLaw", name := "cell", desc := "([II)I" } : Jvm.MethodName)) ∈ x_tb := x_m2 135 rfl rfl
theorem m_376 : (Jvm.Cond.code ({ cls := "WallDampLaw", name := "cell", desc := "([II)I" } : Jvm.MethodName) method_2_code (2 : Nat) (Option.some Jvm.ClassFile.FieldType.int)) ∈ x_tb := x_m2 136 rfl rfl
theorem m_377 : (Jvm.Cond.methodLink "WallDampLaw" (78 : Nat) ({ cls := "WallDampLaw", name := "curve", desc := "(LWallDamp;III[J)I" } : Jvm.MethodName)) ∈ x_tb := x_m2 137 rfl rfl
theorem m_378 : (Jvm.Cond.static ({ cls := "WallDampLaw", name := "curve", desc := "(LWallDamp;III[J)I" } : Jvm.MethodName)) ∈ x_tb := x_m2 138 rfl rfl
theorem m_379 : (Jvm.Cond.codeWith ({ cls := "WallDampLaw", name := "curve", desc := "(LWallDamp;III[J)I" } : Jvm.MethodName) method_3_code (6 : Nat) (Option.some Jvm.ClassFile.FieldType.int) [((0 : Nat), (12 : Nat), (15 : Nat), (13 : Nat)), ((0 : Nat), (12 : Nat), (19 : Nat), (15 : Nat))]) ∈ x_tb := x_m2 139 rfl rfl
theorem m_380 : (Jvm.Cond.classLink "WallDampLaw" (13 : Nat) "java/lang/IllegalArgumentException") ∈ x_tb := x_m2 140 rfl rfl
theorem m_381 : (Jvm.Cond.classLink "WallDampLaw" (15 : Nat) "java/lang/IllegalStateException") ∈ x_tb := x_m2 141 rfl rfl
theorem m_382 : (Jvm.Cond.methodLink "WallDampLaw" (7 : Nat) ({ cls := "WallDamp", name := "curve", desc := "(III)I" } : Jvm.MethodName)) ∈ x_tb := x_m2 142 rfl rfl
theorem m_383 : (Jvm.Cond.instanceMethod ({ cls := "WallDamp", name := "curve", desc := "(III)I" } : Jvm.MethodName)) ∈ x_tb := x_m2 143 rfl rfl
theorem m_384 : (Jvm.Cond.selects "WallDamp" ({ cls := "WallDamp", name := "curve", desc := "(III)I" } : Jvm.MethodName) ({ cls := "WallDamp", name := "curve", desc := "(III)I" } : Jvm.MethodName)) ∈ x_tb := x_m2 144 rfl rfl
theorem m_385 : (Jvm.Cond.code ({ cls := "WallDamp", name := "curve", desc := "(III)I" } : Jvm.MethodName) prog_1_method_2_code (5 : Nat) (Option.some Jvm.ClassFile.FieldType.int)) ∈ x_tb := x_m2 145 rfl rfl
theorem m_386 : (Jvm.Cond.methodLink "WallDamp" (68 : Nat) ({ cls := "WallDamp", name := "materialOf", desc := "(I)LWallDamp$Material;" } : Jvm.MethodName)) ∈ x_tb := x_m2 146 rfl rfl
theorem m_388 : (Jvm.Cond.instanceMethod ({ cls := "WallDamp", name := "materialOf", desc := "(I)LWallDamp$Material;" } : Jvm.MethodName)) ∈ x_tb := x_m2 148 rfl rfl
theorem m_389 : (Jvm.Cond.code ({ cls := "WallDamp", name := "materialOf", desc := "(I)LWallDamp$Material;" } : Jvm.MethodName) prog_1_method_21_code (2 : Nat) (Option.some (Jvm.ClassFile.FieldType.object "WallDamp$Material"))) ∈ x_tb := x_m2 149 rfl rfl
theorem m_390 : (Jvm.Cond.methodLink "WallDamp" (73 : Nat) ({ cls := "WallDamp", name := "requireWithin", desc := "(III)V" } : Jvm.MethodName)) ∈ x_tb := x_m2 150 rfl rfl
theorem m_391 : (Jvm.Cond.static ({ cls := "WallDamp", name := "requireWithin", desc := "(III)V" } : Jvm.MethodName)) ∈ x_tb := x_m2 151 rfl rfl
theorem m_392 : (Jvm.Cond.code ({ cls := "WallDamp", name := "requireWithin", desc := "(III)V" } : Jvm.MethodName) prog_1_method_18_code (3 : Nat) (Option.none : Option Jvm.ClassFile.FieldType)) ∈ x_tb := x_m2 152 rfl rfl
theorem m_393 : (Jvm.Cond.classLink "WallDamp" (226 : Nat) "java/lang/IllegalArgumentException") ∈ x_tb := x_m2 153 rfl rfl
theorem m_394 : (Jvm.Cond.instantiable "java/lang/IllegalArgumentException" (6 : Nat)) ∈ x_tb := x_m2 154 rfl rfl
theorem m_402 : (Jvm.Cond.selects "java/lang/IllegalArgumentException" ({ cls := "java/lang/Throwable", name := "fillInStackTrace", desc := "(I)Ljava/lang/Throwable;" } : Jvm.MethodName) ({ cls := "java/lang/Throwable", name := "fillInStackTrace", desc := "(I)Ljava/lang/Throwable;" } : Jvm.MethodName)) ∈ x_tb := x_m2 162 rfl rfl
theorem m_403 : (Jvm.Cond.selects "java/lang/IllegalArgumentException" ({ cls := "java/lang/Throwable", name := "fillInStackTrace", desc := "()Ljava/lang/Throwable;" } : Jvm.MethodName) ({ cls := "java/lang/Throwable", name := "fillInStackTrace", desc := "()Ljava/lang/Throwable;" } : Jvm.MethodName)) ∈ x_tb := x_m2 163 rfl rfl
theorem m_404 : (Jvm.Cond.lays "java/lang/IllegalArgumentException" "java/lang/Throwable" "cause" "Ljava/lang/Throwable;") ∈ x_tb := x_m2 164 rfl rfl
theorem m_405 : (Jvm.Cond.lays "java/lang/Throwable" "java/lang/Throwable" "cause" "Ljava/lang/Throwable;") ∈ x_tb := x_m2 165 rfl rfl
theorem m_406 : (Jvm.Cond.lays "java/lang/IllegalArgumentException" "java/lang/Throwable" "stackTrace" "[Ljava/lang/StackTraceElement;") ∈ x_tb := x_m2 166 rfl rfl
theorem m_407 : (Jvm.Cond.lays "java/lang/Throwable" "java/lang/Throwable" "stackTrace" "[Ljava/lang/StackTraceElement;") ∈ x_tb := x_m2 167 rfl rfl
theorem m_408 : (Jvm.Cond.lays "java/lang/IllegalArgumentException" "java/lang/Throwable" "suppressedExceptions" "Ljava/util/List;") ∈ x_tb := x_m2 168 rfl rfl
theorem m_409 : (Jvm.Cond.lays "java/lang/Throwable" "java/lang/Throwable" "suppressedExceptions" "Ljava/util/List;") ∈ x_tb := x_m2 169 rfl rfl
theorem m_410 : (Jvm.Cond.lays "java/lang/IllegalArgumentException" "java/lang/Throwable" "detailMessage" "Ljava/lang/String;") ∈ x_tb := x_m2 170 rfl rfl
theorem m_411 : (Jvm.Cond.lays "java/lang/Throwable" "java/lang/Throwable" "detailMessage" "Ljava/lang/String;") ∈ x_tb := x_m2 171 rfl rfl
theorem m_412 : (Jvm.Cond.lays "java/lang/IllegalArgumentException" "java/lang/Throwable" "backtrace" "Ljava/lang/Object;") ∈ x_tb := x_m2 172 rfl rfl
theorem m_413 : (Jvm.Cond.lays "java/lang/Throwable" "java/lang/Throwable" "backtrace" "Ljava/lang/Object;") ∈ x_tb := x_m2 173 rfl rfl
theorem m_414 : (Jvm.Cond.fieldLink "java/lang/Throwable" (198 : Nat) "java/lang/Throwable" "backtrace" "Ljava/lang/Object;") ∈ x_tb := x_m2 174 rfl rfl
theorem m_416 : (Jvm.Cond.instanceMethod ({ cls := "java/lang/Throwable", name := "<init>", desc := "()V" } : Jvm.MethodName)) ∈ x_tb := x_m2 176 rfl rfl
theorem m_417 : (Jvm.Cond.code ({ cls := "java/lang/Throwable", name := "<init>", desc := "()V" } : Jvm.MethodName) prog_20_method_1_code (1 : Nat) (Option.none : Option Jvm.ClassFile.FieldType)) ∈ x_tb := x_m2 177 rfl rfl
theorem m_418 : (Jvm.Cond.methodLink "java/lang/Throwable" (1 : Nat) ({ cls := "java/lang/Object", name := "<init>", desc := "()V" } : Jvm.MethodName)) ∈ x_tb := x_m2 178 rfl rfl
theorem m_419 : (Jvm.Cond.fieldLink "java/lang/Throwable" (13 : Nat) "java/lang/Throwable" "UNASSIGNED_STACK" "[Ljava/lang/StackTraceElement;") ∈ x_tb := x_m2 179 rfl rfl
theorem m_421 : (Jvm.Cond.fieldLink "java/lang/Throwable" (20 : Nat) "java/lang/Throwable" "SUPPRESSED_SENTINEL" "Ljava/util/List;") ∈ x_tb := x_m2 181 rfl rfl
theorem m_423 : (Jvm.Cond.methodLink "java/lang/Throwable" (27 : Nat) ({ cls := "java/lang/Throwable", name := "fillInStackTrace", desc := "()Ljava/lang/Throwable;" } : Jvm.MethodName)) ∈ x_tb := x_m2 183 rfl rfl
theorem m_424 : (Jvm.Cond.instanceMethod ({ cls := "java/lang/Throwable", name := "fillInStackTrace", desc := "()Ljava/lang/Throwable;" } : Jvm.MethodName)) ∈ x_tb := x_m2 184 rfl rfl
theorem m_425 : (Jvm.Cond.sameMethod "java/lang/Throwable" "java/lang/Throwable" "fillInStackTrace" "()Ljava/lang/Throwable;") ∈ x_tb := x_m2 185 rfl rfl
theorem m_426 : (Jvm.Cond.selects "java/lang/IllegalStateException" ({ cls := "java/lang/Throwable", name := "fillInStackTrace", desc := "()Ljava/lang/Throwable;" } : Jvm.MethodName) ({ cls := "java/lang/Throwable", name := "fillInStackTrace", desc := "()Ljava/lang/Throwable;" } : Jvm.MethodName)) ∈ x_tb := x_m2 186 rfl rfl
theorem m_428 : (Jvm.Cond.methodLink "java/lang/Throwable" (202 : Nat) ({ cls := "java/lang/Throwable", name := "fillInStackTrace", desc := "(I)Ljava/lang/Throwable;" } : Jvm.MethodName)) ∈ x_tb := x_m2 188 rfl rfl
theorem m_430 : (Jvm.Cond.instanceMethod ({ cls := "java/lang/Throwable", name := "fillInStackTrace", desc := "(I)Ljava/lang/Throwable;" } : Jvm.MethodName)) ∈ x_tb := x_m2 190 rfl rfl
theorem m_431 : (Jvm.Cond.instantiable "java/lang/Throwable" (6 : Nat)) ∈ x_tb := x_m2 191 rfl rfl
theorem m_434 : (Jvm.Cond.methodLink "WallDamp" (230 : Nat) ({ cls := "java/lang/IllegalArgumentException", name := "<init>", desc := "(Ljava/lang/String;)V" } : Jvm.MethodName)) ∈ x_tb := x_m2 194 rfl rfl
theorem m_435 : (Jvm.Cond.instanceMethod ({ cls := "java/lang/IllegalArgumentException", name := "<init>", desc := "(Ljava/lang/String;)V" } : Jvm.MethodName)) ∈ x_tb := x_m2 195 rfl rfl
theorem m_436 : (Jvm.Cond.code ({ cls := "java/lang/IllegalArgumentException", name := "<init>", desc := "(Ljava/lang/String;)V" } : Jvm.MethodName) prog_15_method_2_code (2 : Nat) (Option.none : Option Jvm.ClassFile.FieldType)) ∈ x_tb := x_m2 196 rfl rfl
theorem m_437 : (Jvm.Cond.methodLink "java/lang/IllegalArgumentException" (7 : Nat) ({ cls := "java/lang/RuntimeException", name := "<init>", desc := "(Ljava/lang/String;)V" } : Jvm.MethodName)) ∈ x_tb := x_m2 197 rfl rfl
theorem m_438 : (Jvm.Cond.instanceMethod ({ cls := "java/lang/RuntimeException", name := "<init>", desc := "(Ljava/lang/String;)V" } : Jvm.MethodName)) ∈ x_tb := x_m2 198 rfl rfl
theorem m_439 : (Jvm.Cond.code ({ cls := "java/lang/RuntimeException", name := "<init>", desc := "(Ljava/lang/String;)V" } : Jvm.MethodName) prog_18_method_2_code (2 : Nat) (Option.none : Option Jvm.ClassFile.FieldType)) ∈ x_tb := x_m2 199 rfl rfl
theorem m_440 : (Jvm.Cond.methodLink "java/lang/RuntimeException" (7 : Nat) ({ cls := "java/lang/Exception", name := "<init>", desc := "(Ljava/lang/String;)V" } : Jvm.MethodName)) ∈ x_tb := x_m2 200 rfl rfl
theorem m_441 : (Jvm.Cond.instanceMethod ({ cls := "java/lang/Exception", name := "<init>", desc := "(Ljava/lang/String;)V" } : Jvm.MethodName)) ∈ x_tb := x_m2 201 rfl rfl
theorem m_442 : (Jvm.Cond.code ({ cls := "java/lang/Exception", name := "<init>", desc := "(Ljava/lang/String;)V" } : Jvm.MethodName) prog_14_method_2_code (2 : Nat) (Option.none : Option Jvm.ClassFile.FieldType)) ∈ x_tb := x_m2 202 rfl rfl
theorem m_443 : (Jvm.Cond.methodLink "java/lang/Exception" (7 : Nat) ({ cls := "java/lang/Throwable", name := "<init>", desc := "(Ljava/lang/String;)V" } : Jvm.MethodName)) ∈ x_tb := x_m2 203 rfl rfl
theorem m_444 : (Jvm.Cond.instanceMethod ({ cls := "java/lang/Throwable", name := "<init>", desc := "(Ljava/lang/String;)V" } : Jvm.MethodName)) ∈ x_tb := x_m2 204 rfl rfl
theorem m_445 : (Jvm.Cond.code ({ cls := "java/lang/Throwable", name := "<init>", desc := "(Ljava/lang/String;)V" } : Jvm.MethodName) prog_20_method_2_code (2 : Nat) (Option.none : Option Jvm.ClassFile.FieldType)) ∈ x_tb := x_m2 205 rfl rfl
theorem m_446 : (Jvm.Cond.fieldLink "java/lang/Throwable" (198 : Nat) "java/lang/Throwable" "backtrace" "Ljava/lang/Object;") ∈ x_tb := x_m2 206 rfl rfl
theorem m_447 : (Jvm.Cond.fieldLink "java/lang/Throwable" (31 : Nat) "java/lang/Throwable" "detailMessage" "Ljava/lang/String;") ∈ x_tb := x_m2 207 rfl rfl
theorem m_448 : (Jvm.Cond.fieldLink "java/lang/Throwable" (7 : Nat) "java/lang/Throwable" "cause" "Ljava/lang/Throwable;") ∈ x_tb := x_m2 208 rfl rfl
theorem m_449 : (Jvm.Cond.fieldLink "java/lang/Throwable" (17 : Nat) "java/lang/Throwable" "stackTrace" "[Ljava/lang/StackTraceElement;") ∈ x_tb := x_m2 209 rfl rfl
theorem m_450 : (Jvm.Cond.fieldLink "java/lang/Throwable" (24 : Nat) "java/lang/Throwable" "suppressedExceptions" "Ljava/util/List;") ∈ x_tb := x_m2 210 rfl rfl
theorem m_455 : (Jvm.Cond.lays "java/lang/IllegalArgumentException" "java/lang/Throwable" "depth" "I") ∈ x_tb := x_m2 215 rfl rfl
theorem m_459 : (Jvm.Cond.arrayClass Jvm.ClassFile.FieldType.byte) ∈ x_tb := x_m2 219 rfl rfl
theorem m_460 : (Jvm.Cond.constant "WallDamp" (72 : Nat) (1000000 : Int32)) ∈ x_tb := x_m2 220 rfl rfl
theorem m_461 : (Jvm.Cond.methodLink "WallDamp" (77 : Nat) ({ cls := "WallDamp", name := "requireNoHourOver", desc := "()V" } : Jvm.MethodName)) ∈ x_tb := x_m2 221 rfl rfl
theorem m_463 : (Jvm.Cond.instanceMethod ({ cls := "WallDamp", name := "requireNoHourOver", desc := "()V" } : Jvm.MethodName)) ∈ x_tb := x_m2 223 rfl rfl
theorem m_464 : (Jvm.Cond.code ({ cls := "WallDamp", name := "requireNoHourOver", desc := "()V" } : Jvm.MethodName) prog_1_method_20_code (1 : Nat) (Option.none : Option Jvm.ClassFile.FieldType)) ∈ x_tb := x_m2 224 rfl rfl
theorem m_465 : (Jvm.Cond.classLink "WallDamp" (162 : Nat) "java/lang/IllegalStateException") ∈ x_tb := x_m2 225 rfl rfl
theorem m_466 : (Jvm.Cond.instantiable "java/lang/IllegalStateException" (6 : Nat)) ∈ x_tb := x_m2 226 rfl rfl
theorem m_468 : (Jvm.Cond.selects "java/lang/IllegalStateException" ({ cls := "java/lang/Throwable", name := "fillInStackTrace", desc := "(I)Ljava/lang/Throwable;" } : Jvm.MethodName) ({ cls := "java/lang/Throwable", name := "fillInStackTrace", desc := "(I)Ljava/lang/Throwable;" } : Jvm.MethodName)) ∈ x_tb := x_m2 228 rfl rfl
theorem m_469 : (Jvm.Cond.lays "java/lang/IllegalStateException" "java/lang/Throwable" "cause" "Ljava/lang/Throwable;") ∈ x_tb := x_m2 229 rfl rfl
theorem m_470 : (Jvm.Cond.lays "java/lang/IllegalStateException" "java/lang/Throwable" "stackTrace" "[Ljava/lang/StackTraceElement;") ∈ x_tb := x_m2 230 rfl rfl
theorem m_471 : (Jvm.Cond.lays "java/lang/IllegalStateException" "java/lang/Throwable" "suppressedExceptions" "Ljava/util/List;") ∈ x_tb := x_m2 231 rfl rfl
theorem m_472 : (Jvm.Cond.lays "java/lang/IllegalStateException" "java/lang/Throwable" "detailMessage" "Ljava/lang/String;") ∈ x_tb := x_m2 232 rfl rfl
theorem m_473 : (Jvm.Cond.lays "java/lang/IllegalStateException" "java/lang/Throwable" "backtrace" "Ljava/lang/Object;") ∈ x_tb := x_m2 233 rfl rfl
theorem m_475 : (Jvm.Cond.methodLink "WallDamp" (166 : Nat) ({ cls := "java/lang/IllegalStateException", name := "<init>", desc := "(Ljava/lang/String;)V" } : Jvm.MethodName)) ∈ x_tb := x_m2 235 rfl rfl
theorem m_476 : (Jvm.Cond.instanceMethod ({ cls := "java/lang/IllegalStateException", name := "<init>", desc := "(Ljava/lang/String;)V" } : Jvm.MethodName)) ∈ x_tb := x_m2 236 rfl rfl
theorem m_477 : (Jvm.Cond.code ({ cls := "java/lang/IllegalStateException", name := "<init>", desc := "(Ljava/lang/String;)V" } : Jvm.MethodName) prog_16_method_2_code (2 : Nat) (Option.none : Option Jvm.ClassFile.FieldType)) ∈ x_tb := x_m2 237 rfl rfl
theorem m_478 : (Jvm.Cond.methodLink "java/lang/IllegalStateException" (7 : Nat) ({ cls := "java/lang/RuntimeException", name := "<init>", desc := "(Ljava/lang/String;)V" } : Jvm.MethodName)) ∈ x_tb := x_m2 238 rfl rfl
theorem m_479 : (Jvm.Cond.lays "java/lang/IllegalStateException" "java/lang/Throwable" "depth" "I") ∈ x_tb := x_m2 239 rfl rfl
theorem m_481 : (Jvm.Cond.methodLink "WallDamp" (84 : Nat) ({ cls := "WallDamp", name := "withCorner", desc := "(LWallDamp$Corners;II)I" } : Jvm.MethodName)) ∈ x_tb := x_m3 1 rfl rfl
theorem m_482 : (Jvm.Cond.static ({ cls := "WallDamp", name := "withCorner", desc := "(LWallDamp$Corners;II)I" } : Jvm.MethodName)) ∈ x_tb := x_m3 2 rfl rfl
theorem m_483 : (Jvm.Cond.code ({ cls := "WallDamp", name := "withCorner", desc := "(LWallDamp$Corners;II)I" } : Jvm.MethodName) prog_1_method_23_code (3 : Nat) (Option.some Jvm.ClassFile.FieldType.int)) ∈ x_tb := x_m3 3 rfl rfl
theorem m_484 : (Jvm.Cond.methodLink "WallDamp" (233 : Nat) ({ cls := "WallDamp$Corners", name := "canAdd", desc := "(II)Z" } : Jvm.MethodName)) ∈ x_tb := x_m3 4 rfl rfl
theorem m_485 : (Jvm.Cond.instanceMethod ({ cls := "WallDamp$Corners", name := "canAdd", desc := "(II)Z" } : Jvm.MethodName)) ∈ x_tb := x_m3 5 rfl rfl
theorem m_486 : (Jvm.Cond.selects "WallDamp$Corners" ({ cls := "WallDamp$Corners", name := "canAdd", desc := "(II)Z" } : Jvm.MethodName) ({ cls := "WallDamp$Corners", name := "canAdd", desc := "(II)Z" } : Jvm.MethodName)) ∈ x_tb := x_m3 6 rfl rfl
theorem m_487 : (Jvm.Cond.code ({ cls := "WallDamp$Corners", name := "canAdd", desc := "(II)Z" } : Jvm.MethodName) prog_4_method_2_code (3 : Nat) (Option.some Jvm.ClassFile.FieldType.boolean)) ∈ x_tb := x_m3 7 rfl rfl
theorem m_489 : (Jvm.Cond.methodLink "WallDamp" (239 : Nat) ({ cls := "WallDamp$Corners", name := "add", desc := "(II)I" } : Jvm.MethodName)) ∈ x_tb := x_m3 9 rfl rfl
theorem m_490 : (Jvm.Cond.methodLink "WallDampLaw" (86 : Nat) ({ cls := "WallDampLaw", name := "rates", desc := "(LWallDamp;IIII)I" } : Jvm.MethodName)) ∈ x_tb := x_m3 10 rfl rfl
theorem m_491 : (Jvm.Cond.static ({ cls := "WallDampLaw", name := "rates", desc := "(LWallDamp;IIII)I" } : Jvm.MethodName)) ∈ x_tb := x_m3 11 rfl rfl
theorem m_492 : (Jvm.Cond.codeWith ({ cls := "WallDampLaw", name := "rates", desc := "(LWallDamp;IIII)I" } : Jvm.MethodName) method_4_code (6 : Nat) (Option.some Jvm.ClassFile.FieldType.int) [((0 : Nat), (9 : Nat), (12 : Nat), (13 : Nat))]) ∈ x_tb := x_m3 12 rfl rfl
theorem m_493 : (Jvm.Cond.methodLink "WallDampLaw" (17 : Nat) ({ cls := "WallDamp", name := "rates", desc := "(IIII)V" } : Jvm.MethodName)) ∈ x_tb := x_m3 13 rfl rfl
theorem m_494 : (Jvm.Cond.instanceMethod ({ cls := "WallDamp", name := "rates", desc := "(IIII)V" } : Jvm.MethodName)) ∈ x_tb := x_m3 14 rfl rfl
theorem m_495 : (Jvm.Cond.selects "WallDamp" ({ cls := "WallDamp", name := "rates", desc := "(IIII)V" } : Jvm.MethodName) ({ cls := "WallDamp", name := "rates", desc := "(IIII)V" } : Jvm.MethodName)) ∈ x_tb := x_m3 15 rfl rfl
theorem m_496 : (Jvm.Cond.code ({ cls := "WallDamp", name := "rates", desc := "(IIII)V" } : Jvm.MethodName) prog_1_method_3_code (6 : Nat) (Option.none : Option Jvm.ClassFile.FieldType)) ∈ x_tb := x_m3 16 rfl rfl
theorem m_497 : (Jvm.Cond.methodLink "WallDampLaw" (90 : Nat) ({ cls := "WallDampLaw", name := "cell", desc := "(LWallDamp;III)I" } : Jvm.MethodName)) ∈ x_tb := x_m3 17 rfl rfl
theorem m_498 : (Jvm.Cond.static ({ cls := "WallDampLaw", name := "cell", desc := "(LWallDamp;III)I" } : Jvm.MethodName)) ∈ x_tb := x_m3 18 rfl rfl
theorem m_499 : (Jvm.Cond.codeWith ({ cls := "WallDampLaw", name := "cell", desc := "(LWallDamp;III)I" } : Jvm.MethodName) method_5_code (5 : Nat) (Option.some Jvm.ClassFile.FieldType.int) [((0 : Nat), (7 : Nat), (10 : Nat), (13 : Nat)), ((0 : Nat), (7 : Nat), (14 : Nat), (15 : Nat))]) ∈ x_tb := x_m3 19 rfl rfl
theorem m_500 : (Jvm.Cond.methodLink "WallDampLaw" (21 : Nat) ({ cls := "WallDamp", name := "cell", desc := "(III)V" } : Jvm.MethodName)) ∈ x_tb := x_m3 20 rfl rfl
theorem m_501 : (Jvm.Cond.instanceMethod ({ cls := "WallDamp", name := "cell", desc := "(III)V" } : Jvm.MethodName)) ∈ x_tb := x_m3 21 rfl rfl
theorem m_502 : (Jvm.Cond.selects "WallDamp" ({ cls := "WallDamp", name := "cell", desc := "(III)V" } : Jvm.MethodName) ({ cls := "WallDamp", name := "cell", desc := "(III)V" } : Jvm.MethodName)) ∈ x_tb := x_m3 22 rfl rfl
theorem m_503 : (Jvm.Cond.code ({ cls := "WallDamp", name := "cell", desc := "(III)V" } : Jvm.MethodName) prog_1_method_4_code (6 : Nat) (Option.none : Option Jvm.ClassFile.FieldType)) ∈ x_tb := x_m3 23 rfl rfl
theorem m_504 : (Jvm.Cond.methodLink "WallDamp" (97 : Nat) ({ cls := "WallDamp", name := "cellAt", desc := "(I)LWallDamp$Cell;" } : Jvm.MethodName)) ∈ x_tb := x_m3 24 rfl rfl
theorem m_506 : (Jvm.Cond.instanceMethod ({ cls := "WallDamp", name := "cellAt", desc := "(I)LWallDamp$Cell;" } : Jvm.MethodName)) ∈ x_tb := x_m3 26 rfl rfl
theorem m_507 : (Jvm.Cond.code ({ cls := "WallDamp", name := "cellAt", desc := "(I)LWallDamp$Cell;" } : Jvm.MethodName) prog_1_method_22_code (2 : Nat) (Option.some (Jvm.ClassFile.FieldType.object "WallDamp$Cell"))) ∈ x_tb := x_m3 27 rfl rfl
theorem m_508 : (Jvm.Cond.methodLink "WallDampLaw" (94 : Nat) ({ cls := "WallDampLaw", name := "table", desc := "(LWallDamp;II[J)I" } : Jvm.MethodName)) ∈ x_tb := x_m3 28 rfl rfl
theorem m_509 : (Jvm.Cond.static ({ cls := "WallDampLaw", name := "table", desc := "(LWallDamp;II[J)I" } : Jvm.MethodName)) ∈ x_tb := x_m3 29 rfl rfl
theorem m_510 : (Jvm.Cond.codeWith ({ cls := "WallDampLaw", name := "table", desc := "(LWallDamp;II[J)I" } : Jvm.MethodName) method_6_code (5 : Nat) (Option.some Jvm.ClassFile.FieldType.int) [((0 : Nat), (10 : Nat), (13 : Nat), (13 : Nat)), ((0 : Nat), (10 : Nat), (17 : Nat), (15 : Nat))]) ∈ x_tb := x_m3 30 rfl rfl
theorem m_511 : (Jvm.Cond.methodLink "WallDampLaw" (25 : Nat) ({ cls := "WallDamp", name := "table", desc := "(II)I" } : Jvm.MethodName)) ∈ x_tb := x_m3 31 rfl rfl
theorem m_512 : (Jvm.Cond.instanceMethod ({ cls := "WallDamp", name := "table", desc := "(II)I" } : Jvm.MethodName)) ∈ x_tb := x_m3 32 rfl rfl
theorem m_513 : (Jvm.Cond.selects "WallDamp" ({ cls := "WallDamp", name := "table", desc := "(II)I" } : Jvm.MethodName) ({ cls := "WallDamp", name := "table", desc := "(II)I" } : Jvm.MethodName)) ∈ x_tb := x_m3 33 rfl rfl
theorem m_514 : (Jvm.Cond.code ({ cls := "WallDamp", name := "table", desc := "(II)I" } : Jvm.MethodName) prog_1_method_5_code (3 : Nat) (Option.some Jvm.ClassFile.FieldType.int)) ∈ x_tb := x_m3 34 rfl rfl
theorem m_515 : (Jvm.Cond.constant "WallDamp" (113 : Nat) (100000 : Int32)) ∈ x_tb := x_m3 35 rfl rfl
theorem m_516 : (Jvm.Cond.methodLink "WallDampLaw" (98 : Nat) ({ cls := "WallDampLaw", name := "full", desc := "(LWallDamp;I[J)I" } : Jvm.MethodName)) ∈ x_tb := x_m3 36 rfl rfl
theorem m_517 : (Jvm.Cond.static ({ cls := "WallDampLaw", name := "full", desc := "(LWallDamp;I[J)I" } : Jvm.MethodName)) ∈ x_tb := x_m3 37 rfl rfl
theorem m_518 : (Jvm.Cond.codeWith ({ cls := "WallDampLaw", name := "full", desc := "(LWallDamp;I[J)I" } : Jvm.MethodName) method_7_code (4 : Nat) (Option.some Jvm.ClassFile.FieldType.int) [((0 : Nat), (9 : Nat), (12 : Nat), (13 : Nat))]) ∈ x_tb := x_m3 38 rfl rfl
theorem m_519 : (Jvm.Cond.methodLink "WallDampLaw" (29 : Nat) ({ cls := "WallDamp", name := "full", desc := "(I)I" } : Jvm.MethodName)) ∈ x_tb := x_m3 39 rfl rfl
theorem m_520 : (Jvm.Cond.instanceMethod ({ cls := "WallDamp", name := "full", desc := "(I)I" } : Jvm.MethodName)) ∈ x_tb := x_m3 40 rfl rfl
theorem m_521 : (Jvm.Cond.selects "WallDamp" ({ cls := "WallDamp", name := "full", desc := "(I)I" } : Jvm.MethodName) ({ cls := "WallDamp", name := "full", desc := "(I)I" } : Jvm.MethodName)) ∈ x_tb := x_m3 41 rfl rfl
theorem m_522 : (Jvm.Cond.code ({ cls := "WallDamp", name := "full", desc := "(I)I" } : Jvm.MethodName) prog_1_method_6_code (2 : Nat) (Option.some Jvm.ClassFile.FieldType.int)) ∈ x_tb := x_m3 42 rfl rfl
theorem m_523 : (Jvm.Cond.methodLink "WallDamp" (117 : Nat) ({ cls := "WallDamp$Corners", name := "heightAt", desc := "(I)I" } : Jvm.MethodName)) ∈ x_tb := x_m3 43 rfl rfl
theorem m_524 : (Jvm.Cond.instanceMethod ({ cls := "WallDamp$Corners", name := "heightAt", desc := "(I)I" } : Jvm.MethodName)) ∈ x_tb := x_m3 44 rfl rfl
theorem m_525 : (Jvm.Cond.selects "WallDamp$Corners" ({ cls := "WallDamp$Corners", name := "heightAt", desc := "(I)I" } : Jvm.MethodName) ({ cls := "WallDamp$Corners", name := "heightAt", desc := "(I)I" } : Jvm.MethodName)) ∈ x_tb := x_m3 45 rfl rfl
theorem m_526 : (Jvm.Cond.code ({ cls := "WallDamp$Corners", name := "heightAt", desc := "(I)I" } : Jvm.MethodName) prog_4_method_5_code (6 : Nat) (Option.some Jvm.ClassFile.FieldType.int)) ∈ x_tb := x_m3 46 rfl rfl
theorem m_527 : (Jvm.Cond.methodLink "WallDampLaw" (102 : Nat) ({ cls := "WallDampLaw", name := "films", desc := "(LWallDamp;II)I" } : Jvm.MethodName)) ∈ x_tb := x_m3 47 rfl rfl
theorem m_528 : (Jvm.Cond.static ({ cls := "WallDampLaw", name := "films", desc := "(LWallDamp;II)I" } : Jvm.MethodName)) ∈ x_tb := x_m3 48 rfl rfl
theorem m_529 : (Jvm.Cond.codeWith ({ cls := "WallDampLaw", name := "films", desc := "(LWallDamp;II)I" } : Jvm.MethodName) method_8_code (4 : Nat) (Option.some Jvm.ClassFile.FieldType.int) [((0 : Nat), (6 : Nat), (9 : Nat), (13 : Nat))]) ∈ x_tb := x_m3 49 rfl rfl
theorem m_530 : (Jvm.Cond.methodLink "WallDampLaw" (33 : Nat) ({ cls := "WallDamp", name := "films", desc := "(II)V" } : Jvm.MethodName)) ∈ x_tb := x_m3 50 rfl rfl
theorem m_531 : (Jvm.Cond.instanceMethod ({ cls := "WallDamp", name := "films", desc := "(II)V" } : Jvm.MethodName)) ∈ x_tb := x_m3 51 rfl rfl
theorem m_532 : (Jvm.Cond.selects "WallDamp" ({ cls := "WallDamp", name := "films", desc := "(II)V" } : Jvm.MethodName) ({ cls := "WallDamp", name := "films", desc := "(II)V" } : Jvm.MethodName)) ∈ x_tb := x_m3 52 rfl rfl
theorem m_533 : (Jvm.Cond.code ({ cls := "WallDamp", name := "films", desc := "(II)V" } : Jvm.MethodName) prog_1_method_7_code (3 : Nat) (Option.none : Option Jvm.ClassFile.FieldType)) ∈ x_tb := x_m3 53 rfl rfl
theorem m_534 : (Jvm.Cond.methodLink "WallDampLaw" (106 : Nat) ({ cls := "WallDampLaw", name := "outside", desc := "(LWallDamp;IIIII)I" } : Jvm.MethodName)) ∈ x_tb := x_m3 54 rfl rfl
theorem m_535 : (Jvm.Cond.static ({ cls := "WallDampLaw", name := "outside", desc := "(LWallDamp;IIIII)I" } : Jvm.MethodName)) ∈ x_tb := x_m3 55 rfl rfl
theorem m_536 : (Jvm.Cond.codeWith ({ cls := "WallDampLaw", name := "outside", desc := "(LWallDamp;IIIII)I" } : Jvm.MethodName) method_9_code (7 : Nat) (Option.some Jvm.ClassFile.FieldType.int) [((0 : Nat), (11 : Nat), (14 : Nat), (13 : Nat))]) ∈ x_tb := x_m3 56 rfl rfl
theorem m_537 : (Jvm.Cond.methodLink "WallDampLaw" (37 : Nat) ({ cls := "WallDamp", name := "outside", desc := "(IIIII)V" } : Jvm.MethodName)) ∈ x_tb := x_m3 57 rfl rfl
theorem m_538 : (Jvm.Cond.instanceMethod ({ cls := "WallDamp", name := "outside", desc := "(IIIII)V" } : Jvm.MethodName)) ∈ x_tb := x_m3 58 rfl rfl
theorem m_539 : (Jvm.Cond.selects "WallDamp" ({ cls := "WallDamp", name := "outside", desc := "(IIIII)V" } : Jvm.MethodName) ({ cls := "WallDamp", name := "outside", desc := "(IIIII)V" } : Jvm.MethodName)) ∈ x_tb := x_m3 59 rfl rfl
theorem m_540 : (Jvm.Cond.code ({ cls := "WallDamp", name := "outside", desc := "(IIIII)V" } : Jvm.MethodName) prog_1_method_8_code (6 : Nat) (Option.none : Option Jvm.ClassFile.FieldType)) ∈ x_tb := x_m3 60 rfl rfl
theorem m_541 : (Jvm.Cond.methodLink "WallDamp" (129 : Nat) ({ cls := "WallDamp", name := "requireAir", desc := "(III)V" } : Jvm.MethodName)) ∈ x_tb := x_m3 61 rfl rfl
theorem m_542 : (Jvm.Cond.static ({ cls := "WallDamp", name := "requireAir", desc := "(III)V" } : Jvm.MethodName)) ∈ x_tb := x_m3 62 rfl rfl
theorem m_543 : (Jvm.Cond.code ({ cls := "WallDamp", name := "requireAir", desc := "(III)V" } : Jvm.MethodName) prog_1_method_19_code (3 : Nat) (Option.none : Option Jvm.ClassFile.FieldType)) ∈ x_tb := x_m3 63 rfl rfl
theorem m_544 : (Jvm.Cond.methodLink "WallDampLaw" (110 : Nat) ({ cls := "WallDampLaw", name := "inside", desc := "(LWallDamp;III)I" } : Jvm.MethodName)) ∈ x_tb := x_m3 64 rfl rfl
theorem m_545 : (Jvm.Cond.static ({ cls := "WallDampLaw", name := "inside", desc := "(LWallDamp;III)I" } : Jvm.MethodName)) ∈ x_tb := x_m3 65 rfl rfl
theorem m_546 : (Jvm.Cond.codeWith ({ cls := "WallDampLaw", name := "inside", desc := "(LWallDamp;III)I" } : Jvm.MethodName) method_10_code (5 : Nat) (Option.some Jvm.ClassFile.FieldType.int) [((0 : Nat), (7 : Nat), (10 : Nat), (13 : Nat))]) ∈ x_tb := x_m3 66 rfl rfl
theorem m_547 : (Jvm.Cond.methodLink "WallDampLaw" (41 : Nat) ({ cls := "WallDamp", name := "inside", desc := "(III)V" } : Jvm.MethodName)) ∈ x_tb := x_m3 67 rfl rfl
theorem m_548 : (Jvm.Cond.instanceMethod ({ cls := "WallDamp", name := "inside", desc := "(III)V" } : Jvm.MethodName)) ∈ x_tb := x_m3 68 rfl rfl
theorem m_549 : (Jvm.Cond.selects "WallDamp" ({ cls := "WallDamp", name := "inside", desc := "(III)V" } : Jvm.MethodName) ({ cls := "WallDamp", name := "inside", desc := "(III)V" } : Jvm.MethodName)) ∈ x_tb := x_m3 69 rfl rfl
theorem m_550 : (Jvm.Cond.code ({ cls := "WallDamp", name := "inside", desc := "(III)V" } : Jvm.MethodName) prog_1_method_9_code (4 : Nat) (Option.none : Option Jvm.ClassFile.FieldType)) ∈ x_tb := x_m3 70 rfl rfl
theorem m_551 : (Jvm.Cond.methodLink "WallDampLaw" (113 : Nat) ({ cls := "WallDampLaw", name := "water", desc := "(LWallDamp;II[J)I" } : Jvm.MethodName)) ∈ x_tb := x_m3 71 rfl rfl
theorem m_552 : (Jvm.Cond.static ({ cls := "WallDampLaw", name := "water", desc := "(LWallDamp;II[J)I" } : Jvm.MethodName)) ∈ x_tb := x_m3 72 rfl rfl
theorem m_553 : (Jvm.Cond.codeWith ({ cls := "WallDampLaw", name := "water", desc := "(LWallDamp;II[J)I" } : Jvm.MethodName) method_11_code (5 : Nat) (Option.some Jvm.ClassFile.FieldType.int) [((0 : Nat), (10 : Nat), (13 : Nat), (13 : Nat))]) ∈ x_tb := x_m3 73 rfl rfl
theorem m_554 : (Jvm.Cond.methodLink "WallDampLaw" (44 : Nat) ({ cls := "WallDamp", name := "water", desc := "(II)I" } : Jvm.MethodName)) ∈ x_tb := x_m3 74 rfl rfl
theorem m_555 : (Jvm.Cond.instanceMethod ({ cls := "WallDamp", name := "water", desc := "(II)I" } : Jvm.MethodName)) ∈ x_tb := x_m3 75 rfl rfl
theorem m_556 : (Jvm.Cond.selects "WallDamp" ({ cls := "WallDamp", name := "water", desc := "(II)I" } : Jvm.MethodName) ({ cls := "WallDamp", name := "water", desc := "(II)I" } : Jvm.MethodName)) ∈ x_tb := x_m3 76 rfl rfl
theorem m_557 : (Jvm.Cond.code ({ cls := "WallDamp", name := "water", desc := "(II)I" } : Jvm.MethodName) prog_1_method_10_code (5 : Nat) (Option.some Jvm.ClassFile.FieldType.int)) ∈ x_tb := x_m3 77 rfl rfl
theorem m_558 : (Jvm.Cond.methodLink "WallDamp" (151 : Nat) ({ cls := "WallDamp$Material", name := "most", desc := "()I" } : Jvm.MethodName)) ∈ x_tb := x_m3 78 rfl rfl
theorem m_559 : (Jvm.Cond.instanceMethod ({ cls := "WallDamp$Material", name := "most", desc := "()I" } : Jvm.MethodName)) ∈ x_tb := x_m3 79 rfl rfl
theorem m_560 : (Jvm.Cond.selects "WallDamp$Material" ({ cls := "WallDamp$Material", name := "most", desc := "()I" } : Jvm.MethodName) ({ cls := "WallDamp$Material", name := "most", desc := "()I" } : Jvm.MethodName)) ∈ x_tb := x_m3 80 rfl rfl
theorem m_561 : (Jvm.Cond.code ({ cls := "WallDamp$Material", name := "most", desc := "()I" } : Jvm.MethodName) prog_6_method_2_code (1 : Nat) (Option.some Jvm.ClassFile.FieldType.int)) ∈ x_tb := x_m3 81 rfl rfl
theorem m_562 : (Jvm.Cond.methodLink "WallDamp$Material" (32 : Nat) ({ cls := "WallDamp$Corners", name := "lastX", desc := "()I" } : Jvm.MethodName)) ∈ x_tb := x_m3 82 rfl rfl
theorem m_563 : (Jvm.Cond.instanceMethod ({ cls := "WallDamp$Corners", name := "lastX", desc := "()I" } : Jvm.MethodName)) ∈ x_tb := x_m3 83 rfl rfl
theorem m_564 : (Jvm.Cond.selects "WallDamp$Corners" ({ cls := "WallDamp$Corners", name := "lastX", desc := "()I" } : Jvm.MethodName) ({ cls := "WallDamp$Corners", name := "lastX", desc := "()I" } : Jvm.MethodName)) ∈ x_tb := x_m3 84 rfl rfl
theorem m_565 : (Jvm.Cond.code ({ cls := "WallDamp$Corners", name := "lastX", desc := "()I" } : Jvm.MethodName) prog_4_method_4_code (1 : Nat) (Option.some Jvm.ClassFile.FieldType.int)) ∈ x_tb := x_m3 85 rfl rfl
theorem m_566 : (Jvm.Cond.methodLink "WallDampLaw" (116 : Nat) ({ cls := "WallDampLaw", name := "leak", desc := "(LWallDamp;II[J)I" } : Jvm.MethodName)) ∈ x_tb := x_m3 86 rfl rfl
theorem m_567 : (Jvm.Cond.static ({ cls := "WallDampLaw", name := "leak", desc := "(LWallDamp;II[J)I" } : Jvm.MethodName)) ∈ x_tb := x_m3 87 rfl rfl
theorem m_568 : (Jvm.Cond.codeWith ({ cls := "WallDampLaw", name := "leak", desc := "(LWallDamp;II[J)I" } : Jvm.MethodName) method_12_code (5 : Nat) (Option.some Jvm.ClassFile.FieldType.int) [((0 : Nat), (10 : Nat), (13 : Nat), (13 : Nat))]) ∈ x_tb := x_m3 88 rfl rfl
theorem m_569 : (Jvm.Cond.methodLink "WallDampLaw" (47 : Nat) ({ cls := "WallDamp", name := "leak", desc := "(II)I" } : Jvm.MethodName)) ∈ x_tb := x_m3 89 rfl rfl
theorem m_570 : (Jvm.Cond.instanceMethod ({ cls := "WallDamp", name := "leak", desc := "(II)I" } : Jvm.MethodName)) ∈ x_tb := x_m3 90 rfl rfl
theorem m_571 : (Jvm.Cond.selects "WallDamp" ({ cls := "WallDamp", name := "leak", desc := "(II)I" } : Jvm.MethodName) ({ cls := "WallDamp", name := "leak", desc := "(II)I" } : Jvm.MethodName)) ∈ x_tb := x_m3 91 rfl rfl
theorem m_572 : (Jvm.Cond.code ({ cls := "WallDamp", name := "leak", desc := "(II)I" } : Jvm.MethodName) prog_1_method_11_code (5 : Nat) (Option.some Jvm.ClassFile.FieldType.int)) ∈ x_tb := x_m3 92 rfl rfl
theorem m_573 : (Jvm.Cond.methodLink "WallDampLaw" (119 : Nat) ({ cls := "WallDampLaw", name := "growth", desc := "(LWallDamp;IIII[J)I" } : Jvm.MethodName)) ∈ x_tb := x_m3 93 rfl rfl
theorem m_574 : (Jvm.Cond.static ({ cls := "WallDampLaw", name := "growth", desc := "(LWallDamp;IIII[J)I" } : Jvm.MethodName)) ∈ x_tb := x_m3 94 rfl rfl
theorem m_575 : (Jvm.Cond.codeWith ({ cls := "WallDampLaw", name := "growth", desc := "(LWallDamp;IIII[J)I" } : Jvm.MethodName) method_13_code (7 : Nat) (Option.some Jvm.ClassFile.FieldType.int) [((0 : Nat), (14 : Nat), (17 : Nat), (13 : Nat)), ((0 : Nat), (14 : Nat), (21 : Nat), (15 : Nat))]) ∈ x_tb := x_m3 95 rfl rfl
theorem m_576 : (Jvm.Cond.methodLink "WallDampLaw" (50 : Nat) ({ cls := "WallDamp", name := "growth", desc := "(IIII)I" } : Jvm.MethodName)) ∈ x_tb := x_m3 96 rfl rfl
theorem m_577 : (Jvm.Cond.instanceMethod ({ cls := "WallDamp", name := "growth", desc := "(IIII)I" } : Jvm.MethodName)) ∈ x_tb := x_m3 97 rfl rfl
theorem m_578 : (Jvm.Cond.selects "WallDamp" ({ cls := "WallDamp", name := "growth", desc := "(IIII)I" } : Jvm.MethodName) ({ cls := "WallDamp", name := "growth", desc := "(IIII)I" } : Jvm.MethodName)) ∈ x_tb := x_m3 98 rfl rfl
theorem m_579 : (Jvm.Cond.code ({ cls := "WallDamp", name := "growth", desc := "(IIII)I" } : Jvm.MethodName) prog_1_method_12_code (5 : Nat) (Option.some Jvm.ClassFile.FieldType.int)) ∈ x_tb := x_m3 99 rfl rfl
theorem m_580 : (Jvm.Cond.methodLink "WallDamp" (158 : Nat) ({ cls := "WallDamp$MouldRows", name := "hasPlace", desc := "()Z" } : Jvm.MethodName)) ∈ x_tb := x_m3 100 rfl rfl
theorem m_581 : (Jvm.Cond.instanceMethod ({ cls := "WallDamp$MouldRows", name := "hasPlace", desc := "()Z" } : Jvm.MethodName)) ∈ x_tb := x_m3 101 rfl rfl
theorem m_582 : (Jvm.Cond.selects "WallDamp$MouldRows" ({ cls := "WallDamp$MouldRows", name := "hasPlace", desc := "()Z" } : Jvm.MethodName) ({ cls := "WallDamp$MouldRows", name := "hasPlace", desc := "()Z" } : Jvm.MethodName)) ∈ x_tb := x_m3 102 rfl rfl
theorem m_583 : (Jvm.Cond.code ({ cls := "WallDamp$MouldRows", name := "hasPlace", desc := "()Z" } : Jvm.MethodName) prog_7_method_2_code (1 : Nat) (Option.some Jvm.ClassFile.FieldType.boolean)) ∈ x_tb := x_m3 103 rfl rfl
theorem m_585 : (Jvm.Cond.methodLink "WallDamp" (169 : Nat) ({ cls := "WallDamp$MouldRows", name := "add", desc := "(IIII)I" } : Jvm.MethodName)) ∈ x_tb := x_m3 105 rfl rfl
theorem m_586 : (Jvm.Cond.instanceMethod ({ cls := "WallDamp$MouldRows", name := "add", desc := "(IIII)I" } : Jvm.MethodName)) ∈ x_tb := x_m3 106 rfl rfl
theorem m_587 : (Jvm.Cond.selects "WallDamp$MouldRows" ({ cls := "WallDamp$MouldRows", name := "add", desc := "(IIII)I" } : Jvm.MethodName) ({ cls := "WallDamp$MouldRows", name := "add", desc := "(IIII)I" } : Jvm.MethodName)) ∈ x_tb := x_m3 107 rfl rfl
theorem m_588 : (Jvm.Cond.code ({ cls := "WallDamp$MouldRows", name := "add", desc := "(IIII)I" } : Jvm.MethodName) prog_7_method_3_code (5 : Nat) (Option.some Jvm.ClassFile.FieldType.int)) ∈ x_tb := x_m3 108 rfl rfl
theorem m_589 : (Jvm.Cond.methodLink "WallDampLaw" (123 : Nat) ({ cls := "WallDampLaw", name := "run", desc := "(LWallDamp;I[J)I" } : Jvm.MethodName)) ∈ x_tb := x_m3 109 rfl rfl
theorem m_590 : (Jvm.Cond.static ({ cls := "WallDampLaw", name := "run", desc := "(LWallDamp;I[J)I" } : Jvm.MethodName)) ∈ x_tb := x_m3 110 rfl rfl
theorem m_591 : (Jvm.Cond.codeWith ({ cls := "WallDampLaw", name := "run", desc := "(LWallDamp;I[J)I" } : Jvm.MethodName) method_14_code (4 : Nat) (Option.some Jvm.ClassFile.FieldType.int) [((0 : Nat), (9 : Nat), (12 : Nat), (13 : Nat)), ((0 : Nat), (9 : Nat), (15 : Nat), (15 : Nat))]) ∈ x_tb := x_m3 111 rfl rfl
theorem m_592 : (Jvm.Cond.methodLink "WallDampLaw" (54 : Nat) ({ cls := "WallDamp", name := "run", desc := "(I)I" } : Jvm.MethodName)) ∈ x_tb := x_m3 112 rfl rfl
theorem m_593 : (Jvm.Cond.instanceMethod ({ cls := "WallDamp", name := "run", desc := "(I)I" } : Jvm.MethodName)) ∈ x_tb := x_m3 113 rfl rfl
theorem m_594 : (Jvm.Cond.selects "WallDamp" ({ cls := "WallDamp", name := "run", desc := "(I)I" } : Jvm.MethodName) ({ cls := "WallDamp", name := "run", desc := "(I)I" } : Jvm.MethodName)) ∈ x_tb := x_m3 114 rfl rfl
theorem m_595 : (Jvm.Cond.code ({ cls := "WallDamp", name := "run", desc := "(I)I" } : Jvm.MethodName) prog_1_method_13_code (3 : Nat) (Option.some Jvm.ClassFile.FieldType.int)) ∈ x_tb := x_m3 115 rfl rfl
theorem m_597 : (Jvm.Cond.methodLink "WallDamp" (175 : Nat) ({ cls := "WallDamp", name := "passHour", desc := "()V" } : Jvm.MethodName)) ∈ x_tb := x_m3 117 rfl rfl
theorem m_599 : (Jvm.Cond.instanceMethod ({ cls := "WallDamp", name := "passHour", desc := "()V" } : Jvm.MethodName)) ∈ x_tb := x_m3 119 rfl rfl
theorem m_600 : (Jvm.Cond.code ({ cls := "WallDamp", name := "passHour", desc := "()V" } : Jvm.MethodName) prog_1_method_24_code (1 : Nat) (Option.none : Option Jvm.ClassFile.FieldType)) ∈ x_tb := x_m3 120 rfl rfl
theorem m_601 : (Jvm.Cond.methodLink "WallDamp" (241 : Nat) ({ cls := "WallDamp$Wall", name := "moveWater", desc := "(LWallDamp$Surroundings;I)V" } : Jvm.MethodName)) ∈ x_tb := x_m3 121 rfl rfl
theorem m_602 : (Jvm.Cond.instanceMethod ({ cls := "WallDamp$Wall", name := "moveWater", desc := "(LWallDamp$Surroundings;I)V" } : Jvm.MethodName)) ∈ x_tb := x_m3 122 rfl rfl
theorem m_603 : (Jvm.Cond.selects "WallDamp$Wall" ({ cls := "WallDamp$Wall", name := "moveWater", desc := "(LWallDamp$Surroundings;I)V" } : Jvm.MethodName) ({ cls := "WallDamp$Wall", name := "moveWater", desc := "(LWallDamp$Surroundings;I)V" } : Jvm.MethodName)) ∈ x_tb := x_m3 123 rfl rfl
theorem m_604 : (Jvm.Cond.code ({ cls := "WallDamp$Wall", name := "moveWater", desc := "(LWallDamp$Surroundings;I)V" } : Jvm.MethodName) prog_11_method_4_code (8 : Nat) (Option.none : Option Jvm.ClassFile.FieldType)) ∈ x_tb := x_m3 124 rfl rfl
theorem m_605 : (Jvm.Cond.methodLink "WallDamp$Wall" (65 : Nat) ({ cls := "java/lang/Math", name := "floorMod", desc := "(II)I" } : Jvm.MethodName)) ∈ x_tb := x_m3 125 rfl rfl
theorem m_606 : (Jvm.Cond.static ({ cls := "java/lang/Math", name := "floorMod", desc := "(II)I" } : Jvm.MethodName)) ∈ x_tb := x_m3 126 rfl rfl
theorem m_607 : (Jvm.Cond.code ({ cls := "java/lang/Math", name := "floorMod", desc := "(II)I" } : Jvm.MethodName) prog_17_method_50_code (3 : Nat) (Option.some Jvm.ClassFile.FieldType.int)) ∈ x_tb := x_m3 127 rfl rfl
theorem m_608 : (Jvm.Cond.methodLink "WallDamp$Wall" (83 : Nat) ({ cls := "WallDamp$Wall", name := "warmCells", desc := "(LWallDamp$Surroundings;)V" } : Jvm.MethodName)) ∈ x_tb := x_m3 128 rfl rfl
theorem m_610 : (Jvm.Cond.instanceMethod ({ cls := "WallDamp$Wall", name := "warmCells", desc := "(LWallDamp$Surroundings;)V" } : Jvm.MethodName)) ∈ x_tb := x_m3 130 rfl rfl
theorem m_611 : (Jvm.Cond.code ({ cls := "WallDamp$Wall", name := "warmCells", desc := "(LWallDamp$Surroundings;)V" } : Jvm.MethodName) prog_11_method_6_code (11 : Nat) (Option.none : Option Jvm.ClassFile.FieldType)) ∈ x_tb := x_m3 131 rfl rfl
theorem m_612 : (Jvm.Cond.constantLong "WallDamp$Wall" (118 : Nat) (2 : Int64)) ∈ x_tb := x_m3 132 rfl rfl
theorem m_613 : (Jvm.Cond.methodLink "WallDamp$Wall" (123 : Nat) ({ cls := "WallDamp$Cell", name := "resistance", desc := "()I" } : Jvm.MethodName)) ∈ x_tb := x_m3 133 rfl rfl
theorem m_614 : (Jvm.Cond.instanceMethod ({ cls := "WallDamp$Cell", name := "resistance", desc := "()I" } : Jvm.MethodName)) ∈ x_tb := x_m3 134 rfl rfl
theorem m_615 : (Jvm.Cond.selects "WallDamp$Cell" ({ cls := "WallDamp$Cell", name := "resistance", desc := "()I" } : Jvm.MethodName) ({ cls := "WallDamp$Cell", name := "resistance", desc := "()I" } : Jvm.MethodName)) ∈ x_tb := x_m3 135 rfl rfl
theorem m_616 : (Jvm.Cond.code ({ cls := "WallDamp$Cell", name := "resistance", desc := "()I" } : Jvm.MethodName) prog_3_method_5_code (2 : Nat) (Option.some Jvm.ClassFile.FieldType.int)) ∈ x_tb := x_m3 136 rfl rfl
theorem m_617 : (Jvm.Cond.methodLink "WallDamp$Wall" (134 : Nat) ({ cls := "java/lang/Math", name := "floorDiv", desc := "(JJ)J" } : Jvm.MethodName)) ∈ x_tb := x_m3 137 rfl rfl
theorem m_618 : (Jvm.Cond.static ({ cls := "java/lang/Math", name := "floorDiv", desc := "(JJ)J" } : Jvm.MethodName)) ∈ x_tb := x_m3 138 rfl rfl
theorem m_619 : (Jvm.Cond.code ({ cls := "java/lang/Math", name := "floorDiv", desc := "(JJ)J" } : Jvm.MethodName) prog_17_method_49_code (6 : Nat) (Option.some Jvm.ClassFile.FieldType.long)) ∈ x_tb := x_m3 139 rfl rfl
theorem m_620 : (Jvm.Cond.methodLink "WallDamp$Wall" (90 : Nat) ({ cls := "WallDamp$Air", name := "beginHour", desc := "(LWallDamp$Surroundings;I)V" } : Jvm.MethodName)) ∈ x_tb := x_m3 140 rfl rfl
theorem m_621 : (Jvm.Cond.instanceMethod ({ cls := "WallDamp$Air", name := "beginHour", desc := "(LWallDamp$Surroundings;I)V" } : Jvm.MethodName)) ∈ x_tb := x_m3 141 rfl rfl
theorem m_622 : (Jvm.Cond.selects "WallDamp$Air" ({ cls := "WallDamp$Air", name := "beginHour", desc := "(LWallDamp$Surroundings;I)V" } : Jvm.MethodName) ({ cls := "WallDamp$Air", name := "beginHour", desc := "(LWallDamp$Surroundings;I)V" } : Jvm.MethodName)) ∈ x_tb := x_m3 142 rfl rfl
theorem m_623 : (Jvm.Cond.code ({ cls := "WallDamp$Air", name := "beginHour", desc := "(LWallDamp$Surroundings;I)V" } : Jvm.MethodName) prog_2_method_4_code (3 : Nat) (Option.none : Option Jvm.ClassFile.FieldType)) ∈ x_tb := x_m3 143 rfl rfl
theorem m_624 : (Jvm.Cond.methodLink "WallDamp$Air" (20 : Nat) ({ cls := "WallDamp$Surroundings", name := "pressureAt", desc := "(II)I" } : Jvm.MethodName)) ∈ x_tb := x_m3 144 rfl rfl
theorem m_625 : (Jvm.Cond.instanceMethod ({ cls := "WallDamp$Surroundings", name := "pressureAt", desc := "(II)I" } : Jvm.MethodName)) ∈ x_tb := x_m3 145 rfl rfl
theorem m_626 : (Jvm.Cond.selects "WallDamp$Surroundings" ({ cls := "WallDamp$Surroundings", name := "pressureAt", desc := "(II)I" } : Jvm.MethodName) ({ cls := "WallDamp$Surroundings", name := "pressureAt", desc := "(II)I" } : Jvm.MethodName)) ∈ x_tb := x_m3 146 rfl rfl
theorem m_627 : (Jvm.Cond.code ({ cls := "WallDamp$Surroundings", name := "pressureAt", desc := "(II)I" } : Jvm.MethodName) prog_9_method_2_code (3 : Nat) (Option.some Jvm.ClassFile.FieldType.int)) ∈ x_tb := x_m3 147 rfl rfl
theorem m_628 : (Jvm.Cond.methodLink "WallDamp$Surroundings" (46 : Nat) ({ cls := "WallDamp$Corners", name := "heightAt", desc := "(I)I" } : Jvm.MethodName)) ∈ x_tb := x_m3 148 rfl rfl
theorem m_629 : (Jvm.Cond.constantLong "WallDamp$Surroundings" (50 : Nat) (10000 : Int64)) ∈ x_tb := x_m3 149 rfl rfl
theorem m_630 : (Jvm.Cond.constant "WallDamp$Air" (26 : Nat) (1000000000 : Int32)) ∈ x_tb := x_m3 150 rfl rfl
theorem m_631 : (Jvm.Cond.methodLink "WallDamp$Air" (27 : Nat) ({ cls := "WallDamp$Air", name := "fixHour", desc := "(IIII)V" } : Jvm.MethodName)) ∈ x_tb := x_m3 151 rfl rfl
theorem m_632 : (Jvm.Cond.sameMethod "WallDamp$Air" "WallDamp$Place" "fixHour" "(IIII)V") ∈ x_tb := x_m3 152 rfl rfl
theorem m_634 : (Jvm.Cond.selects "WallDamp$Air" ({ cls := "WallDamp$Air", name := "fixHour", desc := "(IIII)V" } : Jvm.MethodName) ({ cls := "WallDamp$Place", name := "fixHour", desc := "(IIII)V" } : Jvm.MethodName)) ∈ x_tb := x_m3 154 rfl rfl
theorem m_635 : (Jvm.Cond.instanceMethod ({ cls := "WallDamp$Place", name := "fixHour", desc := "(IIII)V" } : Jvm.MethodName)) ∈ x_tb := x_m3 155 rfl rfl
theorem m_636 : (Jvm.Cond.code ({ cls := "WallDamp$Place", name := "fixHour", desc := "(IIII)V" } : Jvm.MethodName) prog_8_method_4_code (5 : Nat) (Option.none : Option Jvm.ClassFile.FieldType)) ∈ x_tb := x_m3 156 rfl rfl
theorem m_637 : (Jvm.Cond.methodLink "WallDamp$Wall" (97 : Nat) ({ cls := "WallDamp$Cell", name := "beginHour", desc := "(LWallDamp$Surroundings;)V" } : Jvm.MethodName)) ∈ x_tb := x_m3 157 rfl rfl
theorem m_638 : (Jvm.Cond.instanceMethod ({ cls := "WallDamp$Cell", name := "beginHour", desc := "(LWallDamp$Surroundings;)V" } : Jvm.MethodName)) ∈ x_tb := x_m3 158 rfl rfl
theorem m_639 : (Jvm.Cond.selects "WallDamp$Cell" ({ cls := "WallDamp$Cell", name := "beginHour", desc := "(LWallDamp$Surroundings;)V" } : Jvm.MethodName) ({ cls := "WallDamp$Cell", name := "beginHour", desc := "(LWallDamp$Surroundings;)V" } : Jvm.MethodName)) ∈ x_tb := x_m3 159 rfl rfl
theorem m_640 : (Jvm.Cond.code ({ cls := "WallDamp$Cell", name := "beginHour", desc := "(LWallDamp$Surroundings;)V" } : Jvm.MethodName) prog_3_method_7_code (3 : Nat) (Option.none : Option Jvm.ClassFile.FieldType)) ∈ x_tb := x_m3 160 rfl rfl
theorem m_641 : (Jvm.Cond.methodLink "WallDamp$Cell" (40 : Nat) ({ cls := "WallDamp$Cell", name := "dampOfHeld", desc := "()I" } : Jvm.MethodName)) ∈ x_tb := x_m3 161 rfl rfl
theorem m_642 : (Jvm.Cond.instanceMethod ({ cls := "WallDamp$Cell", name := "dampOfHeld", desc := "()I" } : Jvm.MethodName)) ∈ x_tb := x_m3 162 rfl rfl
theorem m_643 : (Jvm.Cond.selects "WallDamp$Cell" ({ cls := "WallDamp$Cell", name := "dampOfHeld", desc := "()I" } : Jvm.MethodName) ({ cls := "WallDamp$Cell", name := "dampOfHeld", desc := "()I" } : Jvm.MethodName)) ∈ x_tb := x_m3 163 rfl rfl
theorem m_644 : (Jvm.Cond.code ({ cls := "WallDamp$Cell", name := "dampOfHeld", desc := "()I" } : Jvm.MethodName) prog_3_method_4_code (1 : Nat) (Option.some Jvm.ClassFile.FieldType.int)) ∈ x_tb := x_m3 164 rfl rfl
theorem m_645 : (Jvm.Cond.methodLink "WallDamp$Cell" (28 : Nat) ({ cls := "WallDamp$Corners", name := "heightAt", desc := "(I)I" } : Jvm.MethodName)) ∈ x_tb := x_m3 165 rfl rfl
theorem m_646 : (Jvm.Cond.methodLink "WallDamp$Cell" (47 : Nat) ({ cls := "WallDamp$Surroundings", name := "pressureAt", desc := "(II)I" } : Jvm.MethodName)) ∈ x_tb := x_m3 166 rfl rfl
theorem m_647 : (Jvm.Cond.methodLink "WallDamp$Cell" (53 : Nat) ({ cls := "WallDamp$Material", name := "most", desc := "()I" } : Jvm.MethodName)) ∈ x_tb := x_m3 167 rfl rfl
theorem m_648 : (Jvm.Cond.methodLink "WallDamp$Cell" (56 : Nat) ({ cls := "WallDamp$Cell", name := "fixHour", desc := "(IIII)V" } : Jvm.MethodName)) ∈ x_tb := x_m3 168 rfl rfl
theorem m_649 : (Jvm.Cond.sameMethod "WallDamp$Cell" "WallDamp$Place" "fixHour" "(IIII)V") ∈ x_tb := x_m3 169 rfl rfl
theorem m_650 : (Jvm.Cond.selects "WallDamp$Cell" ({ cls := "WallDamp$Cell", name := "fixHour", desc := "(IIII)V" } : Jvm.MethodName) ({ cls := "WallDamp$Place", name := "fixHour", desc := "(IIII)V" } : Jvm.MethodName)) ∈ x_tb := x_m3 170 rfl rfl
theorem m_651 : (Jvm.Cond.methodLink "WallDamp$Wall" (102 : Nat) ({ cls := "WallDamp$Wall", name := "setAirFlows", desc := "(I)V" } : Jvm.MethodName)) ∈ x_tb := x_m3 171 rfl rfl
theorem m_653 : (Jvm.Cond.instanceMethod ({ cls := "WallDamp$Wall", name := "setAirFlows", desc := "(I)V" } : Jvm.MethodName)) ∈ x_tb := x_m3 173 rfl rfl
theorem m_654 : (Jvm.Cond.code ({ cls := "WallDamp$Wall", name := "setAirFlows", desc := "(I)V" } : Jvm.MethodName) prog_11_method_7_code (6 : Nat) (Option.none : Option Jvm.ClassFile.FieldType)) ∈ x_tb := x_m3 174 rfl rfl
theorem m_655 : (Jvm.Cond.methodLink "WallDamp$Wall" (139 : Nat) ({ cls := "WallDamp$Wall", name := "lastCell", desc := "()LWallDamp$Cell;" } : Jvm.MethodName)) ∈ x_tb := x_m3 175 rfl rfl
theorem m_656 : (Jvm.Cond.instanceMethod ({ cls := "WallDamp$Wall", name := "lastCell", desc := "()LWallDamp$Cell;" } : Jvm.MethodName)) ∈ x_tb := x_m3 176 rfl rfl
theorem m_657 : (Jvm.Cond.selects "WallDamp$Wall" ({ cls := "WallDamp$Wall", name := "lastCell", desc := "()LWallDamp$Cell;" } : Jvm.MethodName) ({ cls := "WallDamp$Wall", name := "lastCell", desc := "()LWallDamp$Cell;" } : Jvm.MethodName)) ∈ x_tb := x_m3 177 rfl rfl
theorem m_658 : (Jvm.Cond.code ({ cls := "WallDamp$Wall", name := "lastCell", desc := "()LWallDamp$Cell;" } : Jvm.MethodName) prog_11_method_2_code (1 : Nat) (Option.some (Jvm.ClassFile.FieldType.object "WallDamp$Cell"))) ∈ x_tb := x_m3 178 rfl rfl
theorem m_659 : (Jvm.Cond.methodLink "WallDamp$Wall" (156 : Nat) ({ cls := "WallDamp$Flow", name := "setInward", desc := "(I)V" } : Jvm.MethodName)) ∈ x_tb := x_m3 179 rfl rfl
theorem m_660 : (Jvm.Cond.instanceMethod ({ cls := "WallDamp$Flow", name := "setInward", desc := "(I)V" } : Jvm.MethodName)) ∈ x_tb := x_m3 180 rfl rfl
theorem m_661 : (Jvm.Cond.selects "WallDamp$Flow" ({ cls := "WallDamp$Flow", name := "setInward", desc := "(I)V" } : Jvm.MethodName) ({ cls := "WallDamp$Flow", name := "setInward", desc := "(I)V" } : Jvm.MethodName)) ∈ x_tb := x_m3 181 rfl rfl
theorem m_662 : (Jvm.Cond.code ({ cls := "WallDamp$Flow", name := "setInward", desc := "(I)V" } : Jvm.MethodName) prog_5_method_2_code (2 : Nat) (Option.none : Option Jvm.ClassFile.FieldType)) ∈ x_tb := x_m3 182 rfl rfl
theorem m_663 : (Jvm.Cond.methodLink "WallDamp$Wall" (106 : Nat) ({ cls := "WallDamp$Wall", name := "setFlowsBetween", desc := "()V" } : Jvm.MethodName)) ∈ x_tb := x_m3 183 rfl rfl
theorem m_665 : (Jvm.Cond.instanceMethod ({ cls := "WallDamp$Wall", name := "setFlowsBetween", desc := "()V" } : Jvm.MethodName)) ∈ x_tb := x_m3 185 rfl rfl
theorem m_666 : (Jvm.Cond.code ({ cls := "WallDamp$Wall", name := "setFlowsBetween", desc := "()V" } : Jvm.MethodName) prog_11_method_8_code (6 : Nat) (Option.none : Option Jvm.ClassFile.FieldType)) ∈ x_tb := x_m3 186 rfl rfl
theorem m_667 : (Jvm.Cond.methodLink "WallDamp$Wall" (165 : Nat) ({ cls := "java/lang/Math", name := "min", desc := "(II)I" } : Jvm.MethodName)) ∈ x_tb := x_m3 187 rfl rfl
theorem m_668 : (Jvm.Cond.methodLink "WallDamp$Wall" (109 : Nat) ({ cls := "WallDamp$Wall", name := "limitFlows", desc := "()V" } : Jvm.MethodName)) ∈ x_tb := x_m3 188 rfl rfl
theorem m_670 : (Jvm.Cond.instanceMethod ({ cls := "WallDamp$Wall", name := "limitFlows", desc := "()V" } : Jvm.MethodName)) ∈ x_tb := x_m3 190 rfl rfl
theorem m_671 : (Jvm.Cond.code ({ cls := "WallDamp$Wall", name := "limitFlows", desc := "()V" } : Jvm.MethodName) prog_11_method_9_code (5 : Nat) (Option.none : Option Jvm.ClassFile.FieldType)) ∈ x_tb := x_m3 191 rfl rfl
theorem m_672 : (Jvm.Cond.methodLink "WallDamp$Wall" (171 : Nat) ({ cls := "WallDamp$Flow", name := "countLeaving", desc := "()V" } : Jvm.MethodName)) ∈ x_tb := x_m3 192 rfl rfl
theorem m_673 : (Jvm.Cond.instanceMethod ({ cls := "WallDamp$Flow", name := "countLeaving", desc := "()V" } : Jvm.MethodName)) ∈ x_tb := x_m3 193 rfl rfl
theorem m_674 : (Jvm.Cond.selects "WallDamp$Flow" ({ cls := "WallDamp$Flow", name := "countLeaving", desc := "()V" } : Jvm.MethodName) ({ cls := "WallDamp$Flow", name := "countLeaving", desc := "()V" } : Jvm.MethodName)) ∈ x_tb := x_m3 194 rfl rfl
theorem m_675 : (Jvm.Cond.code ({ cls := "WallDamp$Flow", name := "countLeaving", desc := "()V" } : Jvm.MethodName) prog_5_method_3_code (1 : Nat) (Option.none : Option Jvm.ClassFile.FieldType)) ∈ x_tb := x_m3 195 rfl rfl
theorem m_676 : (Jvm.Cond.methodLink "WallDamp$Wall" (174 : Nat) ({ cls := "WallDamp$Flow", name := "limitLeaving", desc := "()V" } : Jvm.MethodName)) ∈ x_tb := x_m3 196 rfl rfl
theorem m_677 : (Jvm.Cond.instanceMethod ({ cls := "WallDamp$Flow", name := "limitLeaving", desc := "()V" } : Jvm.MethodName)) ∈ x_tb := x_m3 197 rfl rfl
theorem m_678 : (Jvm.Cond.selects "WallDamp$Flow" ({ cls := "WallDamp$Flow", name := "limitLeaving", desc := "()V" } : Jvm.MethodName) ({ cls := "WallDamp$Flow", name := "limitLeaving", desc := "()V" } : Jvm.MethodName)) ∈ x_tb := x_m3 198 rfl rfl
theorem m_679 : (Jvm.Cond.code ({ cls := "WallDamp$Flow", name := "limitLeaving", desc := "()V" } : Jvm.MethodName) prog_5_method_4_code (1 : Nat) (Option.none : Option Jvm.ClassFile.FieldType)) ∈ x_tb := x_m3 199 rfl rfl
theorem m_680 : (Jvm.Cond.methodLink "WallDamp$Flow" (34 : Nat) ({ cls := "WallDamp$Flow", name := "portion", desc := "(II)I" } : Jvm.MethodName)) ∈ x_tb := x_m3 200 rfl rfl
theorem m_682 : (Jvm.Cond.instanceMethod ({ cls := "WallDamp$Flow", name := "portion", desc := "(II)I" } : Jvm.MethodName)) ∈ x_tb := x_m3 202 rfl rfl
theorem m_683 : (Jvm.Cond.code ({ cls := "WallDamp$Flow", name := "portion", desc := "(II)I" } : Jvm.MethodName) prog_5_method_8_code (3 : Nat) (Option.some Jvm.ClassFile.FieldType.int)) ∈ x_tb := x_m3 203 rfl rfl
theorem m_684 : (Jvm.Cond.methodLink "WallDamp$Wall" (177 : Nat) ({ cls := "WallDamp$Flow", name := "countComing", desc := "()V" } : Jvm.MethodName)) ∈ x_tb := x_m3 204 rfl rfl
theorem m_685 : (Jvm.Cond.instanceMethod ({ cls := "WallDamp$Flow", name := "countComing", desc := "()V" } : Jvm.MethodName)) ∈ x_tb := x_m3 205 rfl rfl
theorem m_686 : (Jvm.Cond.selects "WallDamp$Flow" ({ cls := "WallDamp$Flow", name := "countComing", desc := "()V" } : Jvm.MethodName) ({ cls := "WallDamp$Flow", name := "countComing", desc := "()V" } : Jvm.MethodName)) ∈ x_tb := x_m3 206 rfl rfl
theorem m_687 : (Jvm.Cond.code ({ cls := "WallDamp$Flow", name := "countComing", desc := "()V" } : Jvm.MethodName) prog_5_method_5_code (1 : Nat) (Option.none : Option Jvm.ClassFile.FieldType)) ∈ x_tb := x_m3 207 rfl rfl
theorem m_688 : (Jvm.Cond.methodLink "WallDamp$Wall" (180 : Nat) ({ cls := "WallDamp$Flow", name := "limitComing", desc := "()V" } : Jvm.MethodName)) ∈ x_tb := x_m3 208 rfl rfl
theorem m_689 : (Jvm.Cond.instanceMethod ({ cls := "WallDamp$Flow", name := "limitComing", desc := "()V" } : Jvm.MethodName)) ∈ x_tb := x_m3 209 rfl rfl
theorem m_690 : (Jvm.Cond.selects "WallDamp$Flow" ({ cls := "WallDamp$Flow", name := "limitComing", desc := "()V" } : Jvm.MethodName) ({ cls := "WallDamp$Flow", name := "limitComing", desc := "()V" } : Jvm.MethodName)) ∈ x_tb := x_m3 210 rfl rfl
theorem m_691 : (Jvm.Cond.code ({ cls := "WallDamp$Flow", name := "limitComing", desc := "()V" } : Jvm.MethodName) prog_5_method_6_code (1 : Nat) (Option.none : Option Jvm.ClassFile.FieldType)) ∈ x_tb := x_m3 211 rfl rfl
theorem m_692 : (Jvm.Cond.methodLink "WallDamp$Wall" (112 : Nat) ({ cls := "WallDamp$Flow", name := "move", desc := "()V" } : Jvm.MethodName)) ∈ x_tb := x_m3 212 rfl rfl
theorem m_693 : (Jvm.Cond.instanceMethod ({ cls := "WallDamp$Flow", name := "move", desc := "()V" } : Jvm.MethodName)) ∈ x_tb := x_m3 213 rfl rfl
theorem m_694 : (Jvm.Cond.selects "WallDamp$Flow" ({ cls := "WallDamp$Flow", name := "move", desc := "()V" } : Jvm.MethodName) ({ cls := "WallDamp$Flow", name := "move", desc := "()V" } : Jvm.MethodName)) ∈ x_tb := x_m3 214 rfl rfl
theorem m_695 : (Jvm.Cond.code ({ cls := "WallDamp$Flow", name := "move", desc := "()V" } : Jvm.MethodName) prog_5_method_7_code (1 : Nat) (Option.none : Option Jvm.ClassFile.FieldType)) ∈ x_tb := x_m3 215 rfl rfl
theorem m_696 : (Jvm.Cond.methodLink "WallDamp$Flow" (44 : Nat) ({ cls := "WallDamp$Place", name := "give", desc := "(I)V" } : Jvm.MethodName)) ∈ x_tb := x_m3 216 rfl rfl
theorem m_698 : (Jvm.Cond.sameMethod "WallDamp$Place" "WallDamp$Place" "give" "(I)V") ∈ x_tb := x_m3 218 rfl rfl
theorem m_699 : (Jvm.Cond.selects "WallDamp$Air" ({ cls := "WallDamp$Place", name := "give", desc := "(I)V" } : Jvm.MethodName) ({ cls := "WallDamp$Air", name := "give", desc := "(I)V" } : Jvm.MethodName)) ∈ x_tb := x_m3 219 rfl rfl
theorem m_700 : (Jvm.Cond.instanceMethod ({ cls := "WallDamp$Air", name := "give", desc := "(I)V" } : Jvm.MethodName)) ∈ x_tb := x_m3 220 rfl rfl
theorem m_701 : (Jvm.Cond.code ({ cls := "WallDamp$Air", name := "give", desc := "(I)V" } : Jvm.MethodName) prog_2_method_2_code (2 : Nat) (Option.none : Option Jvm.ClassFile.FieldType)) ∈ x_tb := x_m3 221 rfl rfl
theorem m_702 : (Jvm.Cond.selects "WallDamp$Cell" ({ cls := "WallDamp$Place", name := "give", desc := "(I)V" } : Jvm.MethodName) ({ cls := "WallDamp$Cell", name := "give", desc := "(I)V" } : Jvm.MethodName)) ∈ x_tb := x_m3 222 rfl rfl
theorem m_703 : (Jvm.Cond.instanceMethod ({ cls := "WallDamp$Cell", name := "give", desc := "(I)V" } : Jvm.MethodName)) ∈ x_tb := x_m3 223 rfl rfl
theorem m_704 : (Jvm.Cond.code ({ cls := "WallDamp$Cell", name := "give", desc := "(I)V" } : Jvm.MethodName) prog_3_method_2_code (2 : Nat) (Option.none : Option Jvm.ClassFile.FieldType)) ∈ x_tb := x_m3 224 rfl rfl
theorem m_705 : (Jvm.Cond.methodLink "WallDamp$Flow" (48 : Nat) ({ cls := "WallDamp$Place", name := "take", desc := "(I)V" } : Jvm.MethodName)) ∈ x_tb := x_m3 225 rfl rfl
theorem m_707 : (Jvm.Cond.sameMethod "WallDamp$Place" "WallDamp$Place" "take" "(I)V") ∈ x_tb := x_m3 227 rfl rfl
theorem m_708 : (Jvm.Cond.selects "WallDamp$Air" ({ cls := "WallDamp$Place", name := "take", desc := "(I)V" } : Jvm.MethodName) ({ cls := "WallDamp$Air", name := "take", desc := "(I)V" } : Jvm.MethodName)) ∈ x_tb := x_m3 228 rfl rfl
theorem m_709 : (Jvm.Cond.instanceMethod ({ cls := "WallDamp$Air", name := "take", desc := "(I)V" } : Jvm.MethodName)) ∈ x_tb := x_m3 229 rfl rfl
theorem m_710 : (Jvm.Cond.code ({ cls := "WallDamp$Air", name := "take", desc := "(I)V" } : Jvm.MethodName) prog_2_method_3_code (2 : Nat) (Option.none : Option Jvm.ClassFile.FieldType)) ∈ x_tb := x_m3 230 rfl rfl
theorem m_711 : (Jvm.Cond.selects "WallDamp$Cell" ({ cls := "WallDamp$Place", name := "take", desc := "(I)V" } : Jvm.MethodName) ({ cls := "WallDamp$Cell", name := "take", desc := "(I)V" } : Jvm.MethodName)) ∈ x_tb := x_m3 231 rfl rfl
theorem m_712 : (Jvm.Cond.instanceMethod ({ cls := "WallDamp$Cell", name := "take", desc := "(I)V" } : Jvm.MethodName)) ∈ x_tb := x_m3 232 rfl rfl
theorem m_713 : (Jvm.Cond.code ({ cls := "WallDamp$Cell", name := "take", desc := "(I)V" } : Jvm.MethodName) prog_3_method_3_code (2 : Nat) (Option.none : Option Jvm.ClassFile.FieldType)) ∈ x_tb := x_m3 233 rfl rfl
theorem m_714 : (Jvm.Cond.methodLink "WallDamp" (245 : Nat) ({ cls := "WallDamp$Wall", name := "tellFrost", desc := "()V" } : Jvm.MethodName)) ∈ x_tb := x_m3 234 rfl rfl
theorem m_715 : (Jvm.Cond.instanceMethod ({ cls := "WallDamp$Wall", name := "tellFrost", desc := "()V" } : Jvm.MethodName)) ∈ x_tb := x_m3 235 rfl rfl
theorem m_716 : (Jvm.Cond.selects "WallDamp$Wall" ({ cls := "WallDamp$Wall", name := "tellFrost", desc := "()V" } : Jvm.MethodName) ({ cls := "WallDamp$Wall", name := "tellFrost", desc := "()V" } : Jvm.MethodName)) ∈ x_tb := x_m3 236 rfl rfl
theorem m_717 : (Jvm.Cond.code ({ cls := "WallDamp$Wall", name := "tellFrost", desc := "()V" } : Jvm.MethodName) prog_11_method_5_code (5 : Nat) (Option.none : Option Jvm.ClassFile.FieldType)) ∈ x_tb := x_m3 237 rfl rfl
theorem m_718 : (Jvm.Cond.methodLink "WallDamp$Wall" (115 : Nat) ({ cls := "WallDamp$Cell", name := "endHour", desc := "()V" } : Jvm.MethodName)) ∈ x_tb := x_m3 238 rfl rfl
theorem m_719 : (Jvm.Cond.instanceMethod ({ cls := "WallDamp$Cell", name := "endHour", desc := "()V" } : Jvm.MethodName)) ∈ x_tb := x_m3 239 rfl rfl
theorem m_720 : (Jvm.Cond.selects "WallDamp$Cell" ({ cls := "WallDamp$Cell", name := "endHour", desc := "()V" } : Jvm.MethodName) ({ cls := "WallDamp$Cell", name := "endHour", desc := "()V" } : Jvm.MethodName)) ∈ x_tb := x_m4 0 rfl rfl
theorem m_721 : (Jvm.Cond.code ({ cls := "WallDamp$Cell", name := "endHour", desc := "()V" } : Jvm.MethodName) prog_3_method_8_code (2 : Nat) (Option.none : Option Jvm.ClassFile.FieldType)) ∈ x_tb := x_m4 1 rfl rfl
theorem m_722 : (Jvm.Cond.methodLink "WallDamp$Cell" (63 : Nat) ({ cls := "java/lang/Math", name := "max", desc := "(II)I" } : Jvm.MethodName)) ∈ x_tb := x_m4 2 rfl rfl
theorem m_723 : (Jvm.Cond.methodLink "WallDamp" (248 : Nat) ({ cls := "WallDamp", name := "growMould", desc := "()V" } : Jvm.MethodName)) ∈ x_tb := x_m4 3 rfl rfl
theorem m_725 : (Jvm.Cond.instanceMethod ({ cls := "WallDamp", name := "growMould", desc := "()V" } : Jvm.MethodName)) ∈ x_tb := x_m4 5 rfl rfl
theorem m_726 : (Jvm.Cond.code ({ cls := "WallDamp", name := "growMould", desc := "()V" } : Jvm.MethodName) prog_1_method_25_code (3 : Nat) (Option.none : Option Jvm.ClassFile.FieldType)) ∈ x_tb := x_m4 6 rfl rfl
theorem m_727 : (Jvm.Cond.methodLink "WallDamp" (251 : Nat) ({ cls := "WallDamp$Wall", name := "lastCell", desc := "()LWallDamp$Cell;" } : Jvm.MethodName)) ∈ x_tb := x_m4 7 rfl rfl
theorem m_728 : (Jvm.Cond.methodLink "WallDamp" (178 : Nat) ({ cls := "WallDamp$Cell", name := "dampOfHeld", desc := "()I" } : Jvm.MethodName)) ∈ x_tb := x_m4 8 rfl rfl
theorem m_729 : (Jvm.Cond.methodLink "WallDamp" (255 : Nat) ({ cls := "WallDamp$MouldRows", name := "firstThatFits", desc := "(II)I" } : Jvm.MethodName)) ∈ x_tb := x_m4 9 rfl rfl
theorem m_730 : (Jvm.Cond.instanceMethod ({ cls := "WallDamp$MouldRows", name := "firstThatFits", desc := "(II)I" } : Jvm.MethodName)) ∈ x_tb := x_m4 10 rfl rfl
theorem m_731 : (Jvm.Cond.selects "WallDamp$MouldRows" ({ cls := "WallDamp$MouldRows", name := "firstThatFits", desc := "(II)I" } : Jvm.MethodName) ({ cls := "WallDamp$MouldRows", name := "firstThatFits", desc := "(II)I" } : Jvm.MethodName)) ∈ x_tb := x_m4 11 rfl rfl
theorem m_732 : (Jvm.Cond.code ({ cls := "WallDamp$MouldRows", name := "firstThatFits", desc := "(II)I" } : Jvm.MethodName) prog_7_method_4_code (4 : Nat) (Option.some Jvm.ClassFile.FieldType.int)) ∈ x_tb := x_m4 12 rfl rfl
theorem m_733 : (Jvm.Cond.methodLink "WallDampLaw" (126 : Nat) ({ cls := "WallDampLaw", name := "told", desc := "(LWallDamp;II[J)I" } : Jvm.MethodName)) ∈ x_tb := x_m4 13 rfl rfl
theorem m_734 : (Jvm.Cond.static ({ cls := "WallDampLaw", name := "told", desc := "(LWallDamp;II[J)I" } : Jvm.MethodName)) ∈ x_tb := x_m4 14 rfl rfl
theorem m_735 : (Jvm.Cond.codeWith ({ cls := "WallDampLaw", name := "told", desc := "(LWallDamp;II[J)I" } : Jvm.MethodName) method_15_code (5 : Nat) (Option.some Jvm.ClassFile.FieldType.int) [((0 : Nat), (10 : Nat), (13 : Nat), (13 : Nat))]) ∈ x_tb := x_m4 15 rfl rfl
theorem m_736 : (Jvm.Cond.methodLink "WallDampLaw" (57 : Nat) ({ cls := "WallDamp", name := "told", desc := "(II)I" } : Jvm.MethodName)) ∈ x_tb := x_m4 16 rfl rfl
theorem m_737 : (Jvm.Cond.instanceMethod ({ cls := "WallDamp", name := "told", desc := "(II)I" } : Jvm.MethodName)) ∈ x_tb := x_m4 17 rfl rfl
theorem m_738 : (Jvm.Cond.selects "WallDamp" ({ cls := "WallDamp", name := "told", desc := "(II)I" } : Jvm.MethodName) ({ cls := "WallDamp", name := "told", desc := "(II)I" } : Jvm.MethodName)) ∈ x_tb := x_m4 18 rfl rfl
theorem m_739 : (Jvm.Cond.code ({ cls := "WallDamp", name := "told", desc := "(II)I" } : Jvm.MethodName) prog_1_method_14_code (4 : Nat) (Option.some Jvm.ClassFile.FieldType.int)) ∈ x_tb := x_m4 19 rfl rfl
theorem m_740 : (Jvm.Cond.methodLink "WallDampLaw" (129 : Nat) ({ cls := "WallDampLaw", name := "balance", desc := "(LWallDamp;I[J)I" } : Jvm.MethodName)) ∈ x_tb := x_m4 20 rfl rfl
theorem m_741 : (Jvm.Cond.static ({ cls := "WallDampLaw", name := "balance", desc := "(LWallDamp;I[J)I" } : Jvm.MethodName)) ∈ x_tb := x_m4 21 rfl rfl
theorem m_742 : (Jvm.Cond.codeWith ({ cls := "WallDampLaw", name := "balance", desc := "(LWallDamp;I[J)I" } : Jvm.MethodName) method_16_code (4 : Nat) (Option.some Jvm.ClassFile.FieldType.int) [((0 : Nat), (8 : Nat), (11 : Nat), (13 : Nat))]) ∈ x_tb := x_m4 22 rfl rfl
theorem m_743 : (Jvm.Cond.methodLink "WallDampLaw" (60 : Nat) ({ cls := "WallDamp", name := "balance", desc := "(I)J" } : Jvm.MethodName)) ∈ x_tb := x_m4 23 rfl rfl
theorem m_744 : (Jvm.Cond.instanceMethod ({ cls := "WallDamp", name := "balance", desc := "(I)J" } : Jvm.MethodName)) ∈ x_tb := x_m4 24 rfl rfl
theorem m_745 : (Jvm.Cond.selects "WallDamp" ({ cls := "WallDamp", name := "balance", desc := "(I)J" } : Jvm.MethodName) ({ cls := "WallDamp", name := "balance", desc := "(I)J" } : Jvm.MethodName)) ∈ x_tb := x_m4 25 rfl rfl
theorem m_746 : (Jvm.Cond.code ({ cls := "WallDamp", name := "balance", desc := "(I)J" } : Jvm.MethodName) prog_1_method_15_code (2 : Nat) (Option.some Jvm.ClassFile.FieldType.long)) ∈ x_tb := x_m4 26 rfl rfl
theorem m_747 : (Jvm.Cond.methodLink "WallDamp" (194 : Nat) ({ cls := "WallDamp$Wall", name := "allWater", desc := "()J" } : Jvm.MethodName)) ∈ x_tb := x_m4 27 rfl rfl
theorem m_748 : (Jvm.Cond.instanceMethod ({ cls := "WallDamp$Wall", name := "allWater", desc := "()J" } : Jvm.MethodName)) ∈ x_tb := x_m4 28 rfl rfl
theorem m_749 : (Jvm.Cond.selects "WallDamp$Wall" ({ cls := "WallDamp$Wall", name := "allWater", desc := "()J" } : Jvm.MethodName) ({ cls := "WallDamp$Wall", name := "allWater", desc := "()J" } : Jvm.MethodName)) ∈ x_tb := x_m4 29 rfl rfl
theorem m_750 : (Jvm.Cond.code ({ cls := "WallDamp$Wall", name := "allWater", desc := "()J" } : Jvm.MethodName) prog_11_method_3_code (7 : Nat) (Option.some Jvm.ClassFile.FieldType.long)) ∈ x_tb := x_m4 30 rfl rfl
theorem m_751 : (Jvm.Cond.methodLink "WallDampLaw" (136 : Nat) ({ cls := "WallDampLaw", name := "order", desc := "(LWallDamp;II[J)I" } : Jvm.MethodName)) ∈ x_tb := x_m4 31 rfl rfl
theorem m_752 : (Jvm.Cond.static ({ cls := "WallDampLaw", name := "order", desc := "(LWallDamp;II[J)I" } : Jvm.MethodName)) ∈ x_tb := x_m4 32 rfl rfl
theorem m_753 : (Jvm.Cond.codeWith ({ cls := "WallDampLaw", name := "order", desc := "(LWallDamp;II[J)I" } : Jvm.MethodName) method_17_code (5 : Nat) (Option.some Jvm.ClassFile.FieldType.int) [((0 : Nat), (10 : Nat), (13 : Nat), (13 : Nat)), ((0 : Nat), (10 : Nat), (17 : Nat), (15 : Nat))]) ∈ x_tb := x_m4 33 rfl rfl
theorem m_754 : (Jvm.Cond.methodLink "WallDampLaw" (64 : Nat) ({ cls := "WallDamp", name := "order", desc := "(II)I" } : Jvm.MethodName)) ∈ x_tb := x_m4 34 rfl rfl
theorem m_755 : (Jvm.Cond.instanceMethod ({ cls := "WallDamp", name := "order", desc := "(II)I" } : Jvm.MethodName)) ∈ x_tb := x_m4 35 rfl rfl
theorem m_756 : (Jvm.Cond.selects "WallDamp" ({ cls := "WallDamp", name := "order", desc := "(II)I" } : Jvm.MethodName) ({ cls := "WallDamp", name := "order", desc := "(II)I" } : Jvm.MethodName)) ∈ x_tb := x_m4 36 rfl rfl
theorem m_757 : (Jvm.Cond.code ({ cls := "WallDamp", name := "order", desc := "(II)I" } : Jvm.MethodName) prog_1_method_17_code (3 : Nat) (Option.some Jvm.ClassFile.FieldType.int)) ∈ x_tb := x_m4 37 rfl rfl
theorem m_759 : (Jvm.Cond.methodLink "WallDamp" (219 : Nat) ({ cls := "WallDamp$Trials", name := "findDriest", desc := "(LWallDamp$Wall;LWallDamp$Surroundings;I)V" } : Jvm.MethodName)) ∈ x_tb := x_m4 39 rfl rfl
theorem m_760 : (Jvm.Cond.instanceMethod ({ cls := "WallDamp$Trials", name := "findDriest", desc := "(LWallDamp$Wall;LWallDamp$Surroundings;I)V" } : Jvm.MethodName)) ∈ x_tb := x_m4 40 rfl rfl
theorem m_761 : (Jvm.Cond.selects "WallDamp$Trials" ({ cls := "WallDamp$Trials", name := "findDriest", desc := "(LWallDamp$Wall;LWallDamp$Surroundings;I)V" } : Jvm.MethodName) ({ cls := "WallDamp$Trials", name := "findDriest", desc := "(LWallDamp$Wall;LWallDamp$Surroundings;I)V" } : Jvm.MethodName)) ∈ x_tb := x_m4 41 rfl rfl
theorem m_762 : (Jvm.Cond.code ({ cls := "WallDamp$Trials", name := "findDriest", desc := "(LWallDamp$Wall;LWallDamp$Surroundings;I)V" } : Jvm.MethodName) prog_10_method_2_code (11 : Nat) (Option.none : Option Jvm.ClassFile.FieldType)) ∈ x_tb := x_m4 42 rfl rfl
theorem m_763 : (Jvm.Cond.methodLink "WallDamp$Trials" (28 : Nat) ({ cls := "java/lang/Math", name := "min", desc := "(II)I" } : Jvm.MethodName)) ∈ x_tb := x_m4 43 rfl rfl
theorem m_764 : (Jvm.Cond.constantLong "WallDamp$Trials" (34 : Nat) (1000000000000 : Int64)) ∈ x_tb := x_m4 44 rfl rfl
theorem m_765 : (Jvm.Cond.methodLink "WallDamp$Trials" (36 : Nat) ({ cls := "WallDamp$Trials", name := "waterBehind", desc := "(LWallDamp$Wall;LWallDamp$Surroundings;I)J" } : Jvm.MethodName)) ∈ x_tb := x_m4 45 rfl rfl
theorem m_767 : (Jvm.Cond.instanceMethod ({ cls := "WallDamp$Trials", name := "waterBehind", desc := "(LWallDamp$Wall;LWallDamp$Surroundings;I)J" } : Jvm.MethodName)) ∈ x_tb := x_m4 47 rfl rfl
theorem m_768 : (Jvm.Cond.code ({ cls := "WallDamp$Trials", name := "waterBehind", desc := "(LWallDamp$Wall;LWallDamp$Surroundings;I)J" } : Jvm.MethodName) prog_10_method_4_code (6 : Nat) (Option.some Jvm.ClassFile.FieldType.long)) ∈ x_tb := x_m4 48 rfl rfl
theorem m_769 : (Jvm.Cond.methodLink "WallDamp$Trials" (48 : Nat) ({ cls := "WallDamp$Cell", name := "layDry", desc := "(LWallDamp$Cell;)V" } : Jvm.MethodName)) ∈ x_tb := x_m4 49 rfl rfl
theorem m_770 : (Jvm.Cond.instanceMethod ({ cls := "WallDamp$Cell", name := "layDry", desc := "(LWallDamp$Cell;)V" } : Jvm.MethodName)) ∈ x_tb := x_m4 50 rfl rfl
theorem m_771 : (Jvm.Cond.selects "WallDamp$Cell" ({ cls := "WallDamp$Cell", name := "layDry", desc := "(LWallDamp$Cell;)V" } : Jvm.MethodName) ({ cls := "WallDamp$Cell", name := "layDry", desc := "(LWallDamp$Cell;)V" } : Jvm.MethodName)) ∈ x_tb := x_m4 51 rfl rfl
theorem m_772 : (Jvm.Cond.code ({ cls := "WallDamp$Cell", name := "layDry", desc := "(LWallDamp$Cell;)V" } : Jvm.MethodName) prog_3_method_6_code (2 : Nat) (Option.none : Option Jvm.ClassFile.FieldType)) ∈ x_tb := x_m4 52 rfl rfl
theorem m_773 : (Jvm.Cond.methodLink "WallDamp$Trials" (54 : Nat) ({ cls := "WallDamp$Wall", name := "moveWater", desc := "(LWallDamp$Surroundings;I)V" } : Jvm.MethodName)) ∈ x_tb := x_m4 53 rfl rfl
theorem m_774 : (Jvm.Cond.methodLink "WallDamp$Trials" (58 : Nat) ({ cls := "WallDamp$Wall", name := "allWater", desc := "()J" } : Jvm.MethodName)) ∈ x_tb := x_m4 54 rfl rfl
theorem m_775 : (Jvm.Cond.methodLink "WallDamp$Trials" (40 : Nat) ({ cls := "WallDamp$Trials", name := "keepRow", desc := "(I)V" } : Jvm.MethodName)) ∈ x_tb := x_m4 55 rfl rfl
theorem m_777 : (Jvm.Cond.instanceMethod ({ cls := "WallDamp$Trials", name := "keepRow", desc := "(I)V" } : Jvm.MethodName)) ∈ x_tb := x_m4 57 rfl rfl
theorem m_778 : (Jvm.Cond.code ({ cls := "WallDamp$Trials", name := "keepRow", desc := "(I)V" } : Jvm.MethodName) prog_10_method_3_code (3 : Nat) (Option.none : Option Jvm.ClassFile.FieldType)) ∈ x_tb := x_m4 58 rfl rfl
theorem m_779 : (Jvm.Cond.methodLink "WallDamp$Trials" (44 : Nat) ({ cls := "WallDamp$Trials", name := "stepRow", desc := "(I)Z" } : Jvm.MethodName)) ∈ x_tb := x_m4 59 rfl rfl
theorem m_781 : (Jvm.Cond.instanceMethod ({ cls := "WallDamp$Trials", name := "stepRow", desc := "(I)Z" } : Jvm.MethodName)) ∈ x_tb := x_m4 61 rfl rfl
theorem m_782 : (Jvm.Cond.code ({ cls := "WallDamp$Trials", name := "stepRow", desc := "(I)Z" } : Jvm.MethodName) prog_10_method_5_code (5 : Nat) (Option.some Jvm.ClassFile.FieldType.boolean)) ∈ x_tb := x_m4 62 rfl rfl
theorem m_783 : (Jvm.Cond.methodLink "WallDamp$Trials" (62 : Nat) ({ cls := "WallDamp$Trials", name := "swap", desc := "(II)V" } : Jvm.MethodName)) ∈ x_tb := x_m4 63 rfl rfl
theorem m_785 : (Jvm.Cond.instanceMethod ({ cls := "WallDamp$Trials", name := "swap", desc := "(II)V" } : Jvm.MethodName)) ∈ x_tb := x_m4 65 rfl rfl
theorem m_786 : (Jvm.Cond.code ({ cls := "WallDamp$Trials", name := "swap", desc := "(II)V" } : Jvm.MethodName) prog_10_method_6_code (4 : Nat) (Option.none : Option Jvm.ClassFile.FieldType)) ∈ x_tb := x_m4 66 rfl rfl
theorem m_787 : (Jvm.Cond.classLink "WallDampLaw" (75 : Nat) "WallDampModel") ∈ x_tb := x_m4 67 rfl rfl
theorem m_788 : (Jvm.Cond.instantiable "WallDampModel" (51 : Nat)) ∈ x_tb := x_m4 68 rfl rfl
theorem m_789 : (Jvm.Cond.methodLink "WallDampLaw" (77 : Nat) ({ cls := "WallDampModel", name := "<init>", desc := "(I)V" } : Jvm.MethodName)) ∈ x_tb := x_m4 69 rfl rfl
theorem m_790 : (Jvm.Cond.instanceMethod ({ cls := "WallDampModel", name := "<init>", desc := "(I)V" } : Jvm.MethodName)) ∈ x_tb := x_m4 70 rfl rfl
theorem m_791 : (Jvm.Cond.code ({ cls := "WallDampModel", name := "<init>", desc := "(I)V" } : Jvm.MethodName) prog_13_method_1_code (3 : Nat) (Option.none : Option Jvm.ClassFile.FieldType)) ∈ x_tb := x_m4 71 rfl rfl
theorem m_792 : (Jvm.Cond.methodLink "WallDampModel" (1 : Nat) ({ cls := "java/lang/Object", name := "<init>", desc := "()V" } : Jvm.MethodName)) ∈ x_tb := x_m4 72 rfl rfl
theorem m_793 : (Jvm.Cond.fieldLink "WallDampModel" (130 : Nat) "WallDampModel" "thrown" "I") ∈ x_tb := x_m4 73 rfl rfl
theorem m_794 : (Jvm.Cond.fieldLink "WallDampModel" (127 : Nat) "WallDampModel" "cells" "I") ∈ x_tb := x_m4 74 rfl rfl
theorem m_795 : (Jvm.Cond.fieldLink "WallDampModel" (7 : Nat) "WallDampModel" "corners" "[I") ∈ x_tb := x_m4 75 rfl rfl
theorem m_796 : (Jvm.Cond.fieldLink "WallDampModel" (13 : Nat) "WallDampModel" "held" "[I") ∈ x_tb := x_m4 76 rfl rfl
theorem m_797 : (Jvm.Cond.fieldLink "WallDampModel" (16 : Nat) "WallDampModel" "damps" "[I") ∈ x_tb := x_m4 77 rfl rfl
theorem m_798 : (Jvm.Cond.fieldLink "WallDampModel" (19 : Nat) "WallDampModel" "vapour" "[I") ∈ x_tb := x_m4 78 rfl rfl
theorem m_799 : (Jvm.Cond.fieldLink "WallDampModel" (22 : Nat) "WallDampModel" "liquid" "[I") ∈ x_tb := x_m4 79 rfl rfl
theorem m_800 : (Jvm.Cond.fieldLink "WallDampModel" (25 : Nat) "WallDampModel" "leads" "[I") ∈ x_tb := x_m4 80 rfl rfl
theorem m_801 : (Jvm.Cond.fieldLink "WallDampModel" (28 : Nat) "WallDampModel" "material" "[I") ∈ x_tb := x_m4 81 rfl rfl
theorem m_802 : (Jvm.Cond.fieldLink "WallDampModel" (31 : Nat) "WallDampModel" "thickness" "[I") ∈ x_tb := x_m4 82 rfl rfl
theorem m_803 : (Jvm.Cond.fieldLink "WallDampModel" (34 : Nat) "WallDampModel" "water" "[J") ∈ x_tb := x_m4 83 rfl rfl
theorem m_804 : (Jvm.Cond.fieldLink "WallDampModel" (38 : Nat) "WallDampModel" "leak" "[I") ∈ x_tb := x_m4 84 rfl rfl
theorem m_805 : (Jvm.Cond.fieldLink "WallDampModel" (41 : Nat) "WallDampModel" "warmth" "[I") ∈ x_tb := x_m4 85 rfl rfl
theorem m_806 : (Jvm.Cond.fieldLink "WallDampModel" (44 : Nat) "WallDampModel" "passes" "[I") ∈ x_tb := x_m4 86 rfl rfl
theorem m_807 : (Jvm.Cond.fieldLink "WallDampModel" (47 : Nat) "WallDampModel" "frozen" "[Z") ∈ x_tb := x_m4 87 rfl rfl
theorem m_808 : (Jvm.Cond.fieldLink "WallDampModel" (51 : Nat) "WallDampModel" "wettest" "[I") ∈ x_tb := x_m4 88 rfl rfl
theorem m_809 : (Jvm.Cond.fieldLink "WallDampModel" (164 : Nat) "WallDampModel" "tables" "I") ∈ x_tb := x_m4 89 rfl rfl
theorem m_810 : (Jvm.Cond.fieldLink "WallDampModel" (54 : Nat) "WallDampModel" "tableWarmth" "[I") ∈ x_tb := x_m4 90 rfl rfl
theorem m_811 : (Jvm.Cond.fieldLink "WallDampModel" (57 : Nat) "WallDampModel" "tablePressure" "[I") ∈ x_tb := x_m4 91 rfl rfl
theorem m_812 : (Jvm.Cond.fieldLink "WallDampModel" (60 : Nat) "WallDampModel" "outer" "I") ∈ x_tb := x_m4 92 rfl rfl
theorem m_813 : (Jvm.Cond.fieldLink "WallDampModel" (64 : Nat) "WallDampModel" "inner" "I") ∈ x_tb := x_m4 93 rfl rfl
theorem m_814 : (Jvm.Cond.fieldLink "WallDampModel" (67 : Nat) "WallDampModel" "outWarmth" "[I") ∈ x_tb := x_m4 94 rfl rfl
theorem m_815 : (Jvm.Cond.fieldLink "WallDampModel" (70 : Nat) "WallDampModel" "outDamp" "[I") ∈ x_tb := x_m4 95 rfl rfl
theorem m_816 : (Jvm.Cond.fieldLink "WallDampModel" (73 : Nat) "WallDampModel" "rain" "[I") ∈ x_tb := x_m4 96 rfl rfl
theorem m_817 : (Jvm.Cond.fieldLink "WallDampModel" (76 : Nat) "WallDampModel" "sun" "[I") ∈ x_tb := x_m4 97 rfl rfl
theorem m_818 : (Jvm.Cond.fieldLink "WallDampModel" (79 : Nat) "WallDampModel" "inWarmth" "[I") ∈ x_tb := x_m4 98 rfl rfl
theorem m_819 : (Jvm.Cond.fieldLink "WallDampModel" (82 : Nat) "WallDampModel" "inDamp" "[I") ∈ x_tb := x_m4 99 rfl rfl
theorem m_820 : (Jvm.Cond.fieldLink "WallDampModel" (174 : Nat) "WallDampModel" "growths" "I") ∈ x_tb := x_m4 100 rfl rfl
theorem m_821 : (Jvm.Cond.fieldLink "WallDampModel" (85 : Nat) "WallDampModel" "growDamp" "[I") ∈ x_tb := x_m4 101 rfl rfl
theorem m_822 : (Jvm.Cond.fieldLink "WallDampModel" (88 : Nat) "WallDampModel" "growFrom" "[I") ∈ x_tb := x_m4 102 rfl rfl
theorem m_823 : (Jvm.Cond.fieldLink "WallDampModel" (91 : Nat) "WallDampModel" "growTo" "[I") ∈ x_tb := x_m4 103 rfl rfl
theorem m_824 : (Jvm.Cond.fieldLink "WallDampModel" (94 : Nat) "WallDampModel" "growMore" "[I") ∈ x_tb := x_m4 104 rfl rfl
theorem m_825 : (Jvm.Cond.fieldLink "WallDampModel" (147 : Nat) "WallDampModel" "hours" "I") ∈ x_tb := x_m4 105 rfl rfl
theorem m_826 : (Jvm.Cond.fieldLink "WallDampModel" (219 : Nat) "WallDampModel" "mould" "I") ∈ x_tb := x_m4 106 rfl rfl
theorem m_827 : (Jvm.Cond.fieldLink "WallDampModel" (207 : Nat) "WallDampModel" "fromOutside" "J") ∈ x_tb := x_m4 107 rfl rfl
theorem m_828 : (Jvm.Cond.fieldLink "WallDampModel" (210 : Nat) "WallDampModel" "fromInside" "J") ∈ x_tb := x_m4 108 rfl rfl
theorem m_829 : (Jvm.Cond.fieldLink "WallDampModel" (213 : Nat) "WallDampModel" "wentOut" "J") ∈ x_tb := x_m4 109 rfl rfl
theorem m_830 : (Jvm.Cond.fieldLink "WallDampModel" (216 : Nat) "WallDampModel" "wentIn" "J") ∈ x_tb := x_m4 110 rfl rfl
theorem m_831 : (Jvm.Cond.fieldLink "WallDampModel" (156 : Nat) "WallDampModel" "start" "J") ∈ x_tb := x_m4 111 rfl rfl
theorem m_832 : (Jvm.Cond.fieldLink "WallDampModel" (97 : Nat) "WallDampModel" "pressure" "[J") ∈ x_tb := x_m4 112 rfl rfl
theorem m_833 : (Jvm.Cond.fieldLink "WallDampModel" (100 : Nat) "WallDampModel" "damp" "[I") ∈ x_tb := x_m4 113 rfl rfl
theorem m_834 : (Jvm.Cond.fieldLink "WallDampModel" (103 : Nat) "WallDampModel" "into" "[J") ∈ x_tb := x_m4 114 rfl rfl
theorem m_835 : (Jvm.Cond.fieldLink "WallDampModel" (192 : Nat) "WallDampModel" "outFlow" "J") ∈ x_tb := x_m4 115 rfl rfl
theorem m_836 : (Jvm.Cond.fieldLink "WallDampModel" (197 : Nat) "WallDampModel" "inFlow" "J") ∈ x_tb := x_m4 116 rfl rfl
theorem m_837 : (Jvm.Cond.fieldLink "WallDampModel" (106 : Nat) "WallDampModel" "keptMaterial" "[I") ∈ x_tb := x_m4 117 rfl rfl
theorem m_838 : (Jvm.Cond.fieldLink "WallDampModel" (109 : Nat) "WallDampModel" "keptThickness" "[I") ∈ x_tb := x_m4 118 rfl rfl
theorem m_839 : (Jvm.Cond.fieldLink "WallDampModel" (112 : Nat) "WallDampModel" "keptLeak" "[I") ∈ x_tb := x_m4 119 rfl rfl
theorem m_840 : (Jvm.Cond.fieldLink "WallDampModel" (115 : Nat) "WallDampModel" "row" "[I") ∈ x_tb := x_m4 120 rfl rfl
theorem m_841 : (Jvm.Cond.fieldLink "WallDampModel" (118 : Nat) "WallDampModel" "best" "[I") ∈ x_tb := x_m4 121 rfl rfl
theorem m_842 : (Jvm.Cond.fieldLink "WallDampModel" (121 : Nat) "WallDampModel" "used" "[Z") ∈ x_tb := x_m4 122 rfl rfl
theorem m_843 : (Jvm.Cond.fieldLink "WallDampModel" (124 : Nat) "WallDampModel" "saved" "[J") ∈ x_tb := x_m4 123 rfl rfl
theorem m_844 : (Jvm.Cond.lays "WallDampModel" "WallDampModel" "thrown" "I") ∈ x_tb := x_m4 124 rfl rfl
theorem m_846 : (Jvm.Cond.laysFinal "WallDampModel" "WallDampModel" "cells" "I") ∈ x_tb := x_m4 126 rfl rfl
theorem m_848 : (Jvm.Cond.laysFinal "WallDampModel" "WallDampModel" "corners" "[I") ∈ x_tb := x_m4 128 rfl rfl
theorem m_850 : (Jvm.Cond.laysFinal "WallDampModel" "WallDampModel" "held" "[I") ∈ x_tb := x_m4 130 rfl rfl
theorem m_852 : (Jvm.Cond.laysFinal "WallDampModel" "WallDampModel" "damps" "[I") ∈ x_tb := x_m4 132 rfl rfl
theorem m_854 : (Jvm.Cond.laysFinal "WallDampModel" "WallDampModel" "vapour" "[I") ∈ x_tb := x_m4 134 rfl rfl
theorem m_856 : (Jvm.Cond.laysFinal "WallDampModel" "WallDampModel" "liquid" "[I") ∈ x_tb := x_m4 136 rfl rfl
theorem m_858 : (Jvm.Cond.laysFinal "WallDampModel" "WallDampModel" "leads" "[I") ∈ x_tb := x_m4 138 rfl rfl
theorem m_860 : (Jvm.Cond.laysFinal "WallDampModel" "WallDampModel" "material" "[I") ∈ x_tb := x_m4 140 rfl rfl
theorem m_862 : (Jvm.Cond.laysFinal "WallDampModel" "WallDampModel" "thickness" "[I") ∈ x_tb := x_m4 142 rfl rfl
theorem m_864 : (Jvm.Cond.laysFinal "WallDampModel" "WallDampModel" "water" "[J") ∈ x_tb := x_m4 144 rfl rfl
theorem m_866 : (Jvm.Cond.laysFinal "WallDampModel" "WallDampModel" "leak" "[I") ∈ x_tb := x_m4 146 rfl rfl
theorem m_868 : (Jvm.Cond.laysFinal "WallDampModel" "WallDampModel" "warmth" "[I") ∈ x_tb := x_m4 148 rfl rfl
theorem m_870 : (Jvm.Cond.laysFinal "WallDampModel" "WallDampModel" "passes" "[I") ∈ x_tb := x_m4 150 rfl rfl
theorem m_872 : (Jvm.Cond.laysFinal "WallDampModel" "WallDampModel" "frozen" "[Z") ∈ x_tb := x_m4 152 rfl rfl
theorem m_874 : (Jvm.Cond.laysFinal "WallDampModel" "WallDampModel" "wettest" "[I") ∈ x_tb := x_m4 154 rfl rfl
theorem m_876 : (Jvm.Cond.lays "WallDampModel" "WallDampModel" "tables" "I") ∈ x_tb := x_m4 156 rfl rfl
theorem m_878 : (Jvm.Cond.laysFinal "WallDampModel" "WallDampModel" "tableWarmth" "[I") ∈ x_tb := x_m4 158 rfl rfl
theorem m_880 : (Jvm.Cond.laysFinal "WallDampModel" "WallDampModel" "tablePressure" "[I") ∈ x_tb := x_m4 160 rfl rfl
theorem m_882 : (Jvm.Cond.lays "WallDampModel" "WallDampModel" "outer" "I") ∈ x_tb := x_m4 162 rfl rfl
theorem m_884 : (Jvm.Cond.lays "WallDampModel" "WallDampModel" "inner" "I") ∈ x_tb := x_m4 164 rfl rfl
theorem m_886 : (Jvm.Cond.laysFinal "WallDampModel" "WallDampModel" "outWarmth" "[I") ∈ x_tb := x_m4 166 rfl rfl
theorem m_888 : (Jvm.Cond.laysFinal "WallDampModel" "WallDampModel" "outDamp" "[I") ∈ x_tb := x_m4 168 rfl rfl
theorem m_890 : (Jvm.Cond.laysFinal "WallDampModel" "WallDampModel" "rain" "[I") ∈ x_tb := x_m4 170 rfl rfl
theorem m_892 : (Jvm.Cond.laysFinal "WallDampModel" "WallDampModel" "sun" "[I") ∈ x_tb := x_m4 172 rfl rfl
theorem m_894 : (Jvm.Cond.laysFinal "WallDampModel" "WallDampModel" "inWarmth" "[I") ∈ x_tb := x_m4 174 rfl rfl
theorem m_896 : (Jvm.Cond.laysFinal "WallDampModel" "WallDampModel" "inDamp" "[I") ∈ x_tb := x_m4 176 rfl rfl
theorem m_898 : (Jvm.Cond.lays "WallDampModel" "WallDampModel" "growths" "I") ∈ x_tb := x_m4 178 rfl rfl
theorem m_900 : (Jvm.Cond.laysFinal "WallDampModel" "WallDampModel" "growDamp" "[I") ∈ x_tb := x_m4 180 rfl rfl
theorem m_902 : (Jvm.Cond.laysFinal "WallDampModel" "WallDampModel" "growFrom" "[I") ∈ x_tb := x_m4 182 rfl rfl
theorem m_904 : (Jvm.Cond.laysFinal "WallDampModel" "WallDampModel" "growTo" "[I") ∈ x_tb := x_m4 184 rfl rfl
theorem m_906 : (Jvm.Cond.laysFinal "WallDampModel" "WallDampModel" "growMore" "[I") ∈ x_tb := x_m4 186 rfl rfl
theorem m_908 : (Jvm.Cond.lays "WallDampModel" "WallDampModel" "hours" "I") ∈ x_tb := x_m4 188 rfl rfl
theorem m_910 : (Jvm.Cond.lays "WallDampModel" "WallDampModel" "mould" "I") ∈ x_tb := x_m4 190 rfl rfl
theorem m_912 : (Jvm.Cond.lays "WallDampModel" "WallDampModel" "fromOutside" "J") ∈ x_tb := x_m4 192 rfl rfl
theorem m_914 : (Jvm.Cond.lays "WallDampModel" "WallDampModel" "fromInside" "J") ∈ x_tb := x_m4 194 rfl rfl
theorem m_916 : (Jvm.Cond.lays "WallDampModel" "WallDampModel" "wentOut" "J") ∈ x_tb := x_m4 196 rfl rfl
theorem m_918 : (Jvm.Cond.lays "WallDampModel" "WallDampModel" "wentIn" "J") ∈ x_tb := x_m4 198 rfl rfl
theorem m_920 : (Jvm.Cond.lays "WallDampModel" "WallDampModel" "start" "J") ∈ x_tb := x_m4 200 rfl rfl
theorem m_922 : (Jvm.Cond.laysFinal "WallDampModel" "WallDampModel" "pressure" "[J") ∈ x_tb := x_m4 202 rfl rfl
theorem m_924 : (Jvm.Cond.laysFinal "WallDampModel" "WallDampModel" "damp" "[I") ∈ x_tb := x_m4 204 rfl rfl
theorem m_926 : (Jvm.Cond.laysFinal "WallDampModel" "WallDampModel" "into" "[J") ∈ x_tb := x_m4 206 rfl rfl
theorem m_928 : (Jvm.Cond.lays "WallDampModel" "WallDampModel" "outFlow" "J") ∈ x_tb := x_m4 208 rfl rfl
theorem m_930 : (Jvm.Cond.lays "WallDampModel" "WallDampModel" "inFlow" "J") ∈ x_tb := x_m4 210 rfl rfl
theorem m_932 : (Jvm.Cond.laysFinal "WallDampModel" "WallDampModel" "keptMaterial" "[I") ∈ x_tb := x_m4 212 rfl rfl
theorem m_934 : (Jvm.Cond.laysFinal "WallDampModel" "WallDampModel" "keptThickness" "[I") ∈ x_tb := x_m4 214 rfl rfl
theorem m_936 : (Jvm.Cond.laysFinal "WallDampModel" "WallDampModel" "keptLeak" "[I") ∈ x_tb := x_m4 216 rfl rfl
theorem m_938 : (Jvm.Cond.laysFinal "WallDampModel" "WallDampModel" "row" "[I") ∈ x_tb := x_m4 218 rfl rfl
theorem m_940 : (Jvm.Cond.laysFinal "WallDampModel" "WallDampModel" "best" "[I") ∈ x_tb := x_m4 220 rfl rfl
theorem m_942 : (Jvm.Cond.laysFinal "WallDampModel" "WallDampModel" "used" "[Z") ∈ x_tb := x_m4 222 rfl rfl
theorem m_944 : (Jvm.Cond.laysFinal "WallDampModel" "WallDampModel" "saved" "[J") ∈ x_tb := x_m4 224 rfl rfl
theorem m_947 : (Jvm.Cond.arrayClass Jvm.ClassFile.FieldType.long) ∈ x_tb := x_m4 227 rfl rfl
theorem m_948 : (Jvm.Cond.arrayClass Jvm.ClassFile.FieldType.boolean) ∈ x_tb := x_m4 228 rfl rfl
theorem m_949 : (Jvm.Cond.methodLink "WallDampLaw" (82 : Nat) ({ cls := "WallDampModel", name := "thrown", desc := "()I" } : Jvm.MethodName)) ∈ x_tb := x_m4 229 rfl rfl
theorem m_950 : (Jvm.Cond.instanceMethod ({ cls := "WallDampModel", name := "thrown", desc := "()I" } : Jvm.MethodName)) ∈ x_tb := x_m4 230 rfl rfl
theorem m_951 : (Jvm.Cond.selects "WallDampModel" ({ cls := "WallDampModel", name := "thrown", desc := "()I" } : Jvm.MethodName) ({ cls := "WallDampModel", name := "thrown", desc := "()I" } : Jvm.MethodName)) ∈ x_tb := x_m4 231 rfl rfl
theorem m_952 : (Jvm.Cond.code ({ cls := "WallDampModel", name := "thrown", desc := "()I" } : Jvm.MethodName) prog_13_method_2_code (1 : Nat) (Option.some Jvm.ClassFile.FieldType.int)) ∈ x_tb := x_m4 232 rfl rfl
theorem m_953 : (Jvm.Cond.methodLink "WallDampLaw" (81 : Nat) ({ cls := "WallDampModel", name := "curve", desc := "(III)I" } : Jvm.MethodName)) ∈ x_tb := x_m4 233 rfl rfl
theorem m_954 : (Jvm.Cond.instanceMethod ({ cls := "WallDampModel", name := "curve", desc := "(III)I" } : Jvm.MethodName)) ∈ x_tb := x_m4 234 rfl rfl
theorem m_955 : (Jvm.Cond.selects "WallDampModel" ({ cls := "WallDampModel", name := "curve", desc := "(III)I" } : Jvm.MethodName) ({ cls := "WallDampModel", name := "curve", desc := "(III)I" } : Jvm.MethodName)) ∈ x_tb := x_m4 235 rfl rfl
theorem m_956 : (Jvm.Cond.code ({ cls := "WallDampModel", name := "curve", desc := "(III)I" } : Jvm.MethodName) prog_13_method_7_code (5 : Nat) (Option.some Jvm.ClassFile.FieldType.int)) ∈ x_tb := x_m4 236 rfl rfl
theorem m_957 : (Jvm.Cond.constantLong "WallDampModel" (137 : Nat) (5 : Int64)) ∈ x_tb := x_m4 237 rfl rfl
theorem m_958 : (Jvm.Cond.methodLink "WallDampModel" (133 : Nat) ({ cls := "WallDampModel", name := "in", desc := "(JJJ)Z" } : Jvm.MethodName)) ∈ x_tb := x_m4 238 rfl rfl
theorem m_959 : (Jvm.Cond.static ({ cls := "WallDampModel", name := "in", desc := "(JJJ)Z" } : Jvm.MethodName)) ∈ x_tb := x_m4 239 rfl rfl
theorem m_960 : (Jvm.Cond.code ({ cls := "WallDampModel", name := "in", desc := "(JJJ)Z" } : Jvm.MethodName) prog_13_method_3_code (6 : Nat) (Option.some Jvm.ClassFile.FieldType.boolean)) ∈ x_tb := x_m5 0 rfl rfl
theorem m_961 : (Jvm.Cond.constantLong "WallDampModel" (139 : Nat) (1000000 : Int64)) ∈ x_tb := x_m5 1 rfl rfl
theorem m_962 : (Jvm.Cond.constantLong "WallDampModel" (141 : Nat) (10000 : Int64)) ∈ x_tb := x_m5 2 rfl rfl
theorem m_963 : (Jvm.Cond.methodLink "WallDampModel" (143 : Nat) ({ cls := "WallDampModel", name := "most", desc := "(I)I" } : Jvm.MethodName)) ∈ x_tb := x_m5 3 rfl rfl
theorem m_965 : (Jvm.Cond.instanceMethod ({ cls := "WallDampModel", name := "most", desc := "(I)I" } : Jvm.MethodName)) ∈ x_tb := x_m5 5 rfl rfl
theorem m_966 : (Jvm.Cond.code ({ cls := "WallDampModel", name := "most", desc := "(I)I" } : Jvm.MethodName) prog_13_method_6_code (2 : Nat) (Option.some Jvm.ClassFile.FieldType.int)) ∈ x_tb := x_m5 6 rfl rfl
theorem m_967 : (Jvm.Cond.methodLink "WallDampLaw" (89 : Nat) ({ cls := "WallDampModel", name := "rates", desc := "(IIII)V" } : Jvm.MethodName)) ∈ x_tb := x_m5 7 rfl rfl
theorem m_968 : (Jvm.Cond.instanceMethod ({ cls := "WallDampModel", name := "rates", desc := "(IIII)V" } : Jvm.MethodName)) ∈ x_tb := x_m5 8 rfl rfl
theorem m_969 : (Jvm.Cond.selects "WallDampModel" ({ cls := "WallDampModel", name := "rates", desc := "(IIII)V" } : Jvm.MethodName) ({ cls := "WallDampModel", name := "rates", desc := "(IIII)V" } : Jvm.MethodName)) ∈ x_tb := x_m5 9 rfl rfl
theorem m_970 : (Jvm.Cond.code ({ cls := "WallDampModel", name := "rates", desc := "(IIII)V" } : Jvm.MethodName) prog_13_method_8_code (5 : Nat) (Option.none : Option Jvm.ClassFile.FieldType)) ∈ x_tb := x_m5 10 rfl rfl
theorem m_971 : (Jvm.Cond.constantLong "WallDampModel" (150 : Nat) (1000 : Int64)) ∈ x_tb := x_m5 11 rfl rfl
theorem m_972 : (Jvm.Cond.methodLink "WallDampLaw" (93 : Nat) ({ cls := "WallDampModel", name := "cell", desc := "(III)V" } : Jvm.MethodName)) ∈ x_tb := x_m5 12 rfl rfl
theorem m_973 : (Jvm.Cond.instanceMethod ({ cls := "WallDampModel", name := "cell", desc := "(III)V" } : Jvm.MethodName)) ∈ x_tb := x_m5 13 rfl rfl
theorem m_974 : (Jvm.Cond.selects "WallDampModel" ({ cls := "WallDampModel", name := "cell", desc := "(III)V" } : Jvm.MethodName) ({ cls := "WallDampModel", name := "cell", desc := "(III)V" } : Jvm.MethodName)) ∈ x_tb := x_m5 14 rfl rfl
theorem m_975 : (Jvm.Cond.code ({ cls := "WallDampModel", name := "cell", desc := "(III)V" } : Jvm.MethodName) prog_13_method_9_code (4 : Nat) (Option.none : Option Jvm.ClassFile.FieldType)) ∈ x_tb := x_m5 15 rfl rfl
theorem m_976 : (Jvm.Cond.methodLink "WallDampModel" (152 : Nat) ({ cls := "WallDampModel", name := "isCell", desc := "(I)Z" } : Jvm.MethodName)) ∈ x_tb := x_m5 16 rfl rfl
theorem m_978 : (Jvm.Cond.instanceMethod ({ cls := "WallDampModel", name := "isCell", desc := "(I)Z" } : Jvm.MethodName)) ∈ x_tb := x_m5 18 rfl rfl
theorem m_979 : (Jvm.Cond.code ({ cls := "WallDampModel", name := "isCell", desc := "(I)Z" } : Jvm.MethodName) prog_13_method_4_code (2 : Nat) (Option.some Jvm.ClassFile.FieldType.boolean)) ∈ x_tb := x_m5 19 rfl rfl
theorem m_980 : (Jvm.Cond.methodLink "WallDampLaw" (97 : Nat) ({ cls := "WallDampModel", name := "table", desc := "(II)I" } : Jvm.MethodName)) ∈ x_tb := x_m5 20 rfl rfl
theorem m_981 : (Jvm.Cond.instanceMethod ({ cls := "WallDampModel", name := "table", desc := "(II)I" } : Jvm.MethodName)) ∈ x_tb := x_m5 21 rfl rfl
theorem m_982 : (Jvm.Cond.selects "WallDampModel" ({ cls := "WallDampModel", name := "table", desc := "(II)I" } : Jvm.MethodName) ({ cls := "WallDampModel", name := "table", desc := "(II)I" } : Jvm.MethodName)) ∈ x_tb := x_m5 22 rfl rfl
theorem m_983 : (Jvm.Cond.code ({ cls := "WallDampModel", name := "table", desc := "(II)I" } : Jvm.MethodName) prog_13_method_10_code (4 : Nat) (Option.some Jvm.ClassFile.FieldType.int)) ∈ x_tb := x_m5 23 rfl rfl
theorem m_984 : (Jvm.Cond.constantLong "WallDampModel" (160 : Nat) (-5000 : Int64)) ∈ x_tb := x_m5 24 rfl rfl
theorem m_985 : (Jvm.Cond.constantLong "WallDampModel" (162 : Nat) (100000 : Int64)) ∈ x_tb := x_m5 25 rfl rfl
theorem m_986 : (Jvm.Cond.methodLink "WallDampLaw" (101 : Nat) ({ cls := "WallDampModel", name := "full", desc := "(I)I" } : Jvm.MethodName)) ∈ x_tb := x_m5 26 rfl rfl
theorem m_987 : (Jvm.Cond.instanceMethod ({ cls := "WallDampModel", name := "full", desc := "(I)I" } : Jvm.MethodName)) ∈ x_tb := x_m5 27 rfl rfl
theorem m_988 : (Jvm.Cond.selects "WallDampModel" ({ cls := "WallDampModel", name := "full", desc := "(I)I" } : Jvm.MethodName) ({ cls := "WallDampModel", name := "full", desc := "(I)I" } : Jvm.MethodName)) ∈ x_tb := x_m5 28 rfl rfl
theorem m_989 : (Jvm.Cond.code ({ cls := "WallDampModel", name := "full", desc := "(I)I" } : Jvm.MethodName) prog_13_method_12_code (2 : Nat) (Option.some Jvm.ClassFile.FieldType.int)) ∈ x_tb := x_m5 29 rfl rfl
theorem m_990 : (Jvm.Cond.methodLink "WallDampModel" (167 : Nat) ({ cls := "WallDampModel", name := "fullAt", desc := "(I)I" } : Jvm.MethodName)) ∈ x_tb := x_m5 30 rfl rfl
theorem m_992 : (Jvm.Cond.instanceMethod ({ cls := "WallDampModel", name := "fullAt", desc := "(I)I" } : Jvm.MethodName)) ∈ x_tb := x_m5 32 rfl rfl
theorem m_993 : (Jvm.Cond.code ({ cls := "WallDampModel", name := "fullAt", desc := "(I)I" } : Jvm.MethodName) prog_13_method_11_code (5 : Nat) (Option.some Jvm.ClassFile.FieldType.int)) ∈ x_tb := x_m5 33 rfl rfl
theorem m_994 : (Jvm.Cond.methodLink "WallDampLaw" (105 : Nat) ({ cls := "WallDampModel", name := "films", desc := "(II)V" } : Jvm.MethodName)) ∈ x_tb := x_m5 34 rfl rfl
theorem m_995 : (Jvm.Cond.instanceMethod ({ cls := "WallDampModel", name := "films", desc := "(II)V" } : Jvm.MethodName)) ∈ x_tb := x_m5 35 rfl rfl
theorem m_996 : (Jvm.Cond.selects "WallDampModel" ({ cls := "WallDampModel", name := "films", desc := "(II)V" } : Jvm.MethodName) ({ cls := "WallDampModel", name := "films", desc := "(II)V" } : Jvm.MethodName)) ∈ x_tb := x_m5 36 rfl rfl
theorem m_997 : (Jvm.Cond.code ({ cls := "WallDampModel", name := "films", desc := "(II)V" } : Jvm.MethodName) prog_13_method_13_code (3 : Nat) (Option.none : Option Jvm.ClassFile.FieldType)) ∈ x_tb := x_m5 37 rfl rfl
theorem m_998 : (Jvm.Cond.methodLink "WallDampLaw" (109 : Nat) ({ cls := "WallDampModel", name := "outside", desc := "(IIIII)V" } : Jvm.MethodName)) ∈ x_tb := x_m5 38 rfl rfl
theorem m_999 : (Jvm.Cond.instanceMethod ({ cls := "WallDampModel", name := "outside", desc := "(IIIII)V" } : Jvm.MethodName)) ∈ x_tb := x_m5 39 rfl rfl
theorem m_1000 : (Jvm.Cond.selects "WallDampModel" ({ cls := "WallDampModel", name := "outside", desc := "(IIIII)V" } : Jvm.MethodName) ({ cls := "WallDampModel", name := "outside", desc := "(IIIII)V" } : Jvm.MethodName)) ∈ x_tb := x_m5 40 rfl rfl
theorem m_1001 : (Jvm.Cond.code ({ cls := "WallDampModel", name := "outside", desc := "(IIIII)V" } : Jvm.MethodName) prog_13_method_14_code (6 : Nat) (Option.none : Option Jvm.ClassFile.FieldType)) ∈ x_tb := x_m5 41 rfl rfl
theorem m_1002 : (Jvm.Cond.constantLong "WallDampModel" (170 : Nat) (23 : Int64)) ∈ x_tb := x_m5 42 rfl rfl
theorem m_1003 : (Jvm.Cond.constantLong "WallDampModel" (172 : Nat) (5000 : Int64)) ∈ x_tb := x_m5 43 rfl rfl
theorem m_1004 : (Jvm.Cond.methodLink "WallDampLaw" (112 : Nat) ({ cls := "WallDampModel", name := "inside", desc := "(III)V" } : Jvm.MethodName)) ∈ x_tb := x_m5 44 rfl rfl
theorem m_1005 : (Jvm.Cond.instanceMethod ({ cls := "WallDampModel", name := "inside", desc := "(III)V" } : Jvm.MethodName)) ∈ x_tb := x_m5 45 rfl rfl
theorem m_1006 : (Jvm.Cond.selects "WallDampModel" ({ cls := "WallDampModel", name := "inside", desc := "(III)V" } : Jvm.MethodName) ({ cls := "WallDampModel", name := "inside", desc := "(III)V" } : Jvm.MethodName)) ∈ x_tb := x_m5 46 rfl rfl
theorem m_1007 : (Jvm.Cond.code ({ cls := "WallDampModel", name := "inside", desc := "(III)V" } : Jvm.MethodName) prog_13_method_15_code (4 : Nat) (Option.none : Option Jvm.ClassFile.FieldType)) ∈ x_tb := x_m5 47 rfl rfl
theorem m_1008 : (Jvm.Cond.methodLink "WallDampLaw" (115 : Nat) ({ cls := "WallDampModel", name := "water", desc := "(II)I" } : Jvm.MethodName)) ∈ x_tb := x_m5 48 rfl rfl
theorem m_1009 : (Jvm.Cond.instanceMethod ({ cls := "WallDampModel", name := "water", desc := "(II)I" } : Jvm.MethodName)) ∈ x_tb := x_m5 49 rfl rfl
theorem m_1010 : (Jvm.Cond.selects "WallDampModel" ({ cls := "WallDampModel", name := "water", desc := "(II)I" } : Jvm.MethodName) ({ cls := "WallDampModel", name := "water", desc := "(II)I" } : Jvm.MethodName)) ∈ x_tb := x_m5 50 rfl rfl
theorem m_1011 : (Jvm.Cond.code ({ cls := "WallDampModel", name := "water", desc := "(II)I" } : Jvm.MethodName) prog_13_method_16_code (4 : Nat) (Option.some Jvm.ClassFile.FieldType.int)) ∈ x_tb := x_m5 51 rfl rfl
theorem m_1012 : (Jvm.Cond.methodLink "WallDampLaw" (118 : Nat) ({ cls := "WallDampModel", name := "leak", desc := "(II)I" } : Jvm.MethodName)) ∈ x_tb := x_m5 52 rfl rfl
theorem m_1013 : (Jvm.Cond.instanceMethod ({ cls := "WallDampModel", name := "leak", desc := "(II)I" } : Jvm.MethodName)) ∈ x_tb := x_m5 53 rfl rfl
theorem m_1014 : (Jvm.Cond.selects "WallDampModel" ({ cls := "WallDampModel", name := "leak", desc := "(II)I" } : Jvm.MethodName) ({ cls := "WallDampModel", name := "leak", desc := "(II)I" } : Jvm.MethodName)) ∈ x_tb := x_m5 54 rfl rfl
theorem m_1015 : (Jvm.Cond.code ({ cls := "WallDampModel", name := "leak", desc := "(II)I" } : Jvm.MethodName) prog_13_method_17_code (4 : Nat) (Option.some Jvm.ClassFile.FieldType.int)) ∈ x_tb := x_m5 55 rfl rfl
theorem m_1016 : (Jvm.Cond.methodLink "WallDampLaw" (122 : Nat) ({ cls := "WallDampModel", name := "growth", desc := "(IIII)I" } : Jvm.MethodName)) ∈ x_tb := x_m5 56 rfl rfl
theorem m_1017 : (Jvm.Cond.instanceMethod ({ cls := "WallDampModel", name := "growth", desc := "(IIII)I" } : Jvm.MethodName)) ∈ x_tb := x_m5 57 rfl rfl
theorem m_1018 : (Jvm.Cond.selects "WallDampModel" ({ cls := "WallDampModel", name := "growth", desc := "(IIII)I" } : Jvm.MethodName) ({ cls := "WallDampModel", name := "growth", desc := "(IIII)I" } : Jvm.MethodName)) ∈ x_tb := x_m5 58 rfl rfl
theorem m_1019 : (Jvm.Cond.code ({ cls := "WallDampModel", name := "growth", desc := "(IIII)I" } : Jvm.MethodName) prog_13_method_18_code (6 : Nat) (Option.some Jvm.ClassFile.FieldType.int)) ∈ x_tb := x_m5 59 rfl rfl
theorem m_1020 : (Jvm.Cond.methodLink "WallDampLaw" (125 : Nat) ({ cls := "WallDampModel", name := "run", desc := "(I)I" } : Jvm.MethodName)) ∈ x_tb := x_m5 60 rfl rfl
theorem m_1021 : (Jvm.Cond.instanceMethod ({ cls := "WallDampModel", name := "run", desc := "(I)I" } : Jvm.MethodName)) ∈ x_tb := x_m5 61 rfl rfl
theorem m_1022 : (Jvm.Cond.selects "WallDampModel" ({ cls := "WallDampModel", name := "run", desc := "(I)I" } : Jvm.MethodName) ({ cls := "WallDampModel", name := "run", desc := "(I)I" } : Jvm.MethodName)) ∈ x_tb := x_m5 62 rfl rfl
theorem m_1023 : (Jvm.Cond.code ({ cls := "WallDampModel", name := "run", desc := "(I)I" } : Jvm.MethodName) prog_13_method_29_code (3 : Nat) (Option.some Jvm.ClassFile.FieldType.int)) ∈ x_tb := x_m5 63 rfl rfl
theorem m_1024 : (Jvm.Cond.constantLong "WallDampModel" (232 : Nat) (240 : Int64)) ∈ x_tb := x_m5 64 rfl rfl
theorem m_1025 : (Jvm.Cond.methodLink "WallDampModel" (234 : Nat) ({ cls := "WallDampModel", name := "hour", desc := "(I)V" } : Jvm.MethodName)) ∈ x_tb := x_m5 65 rfl rfl
theorem m_1027 : (Jvm.Cond.instanceMethod ({ cls := "WallDampModel", name := "hour", desc := "(I)V" } : Jvm.MethodName)) ∈ x_tb := x_m5 67 rfl rfl
theorem m_1028 : (Jvm.Cond.code ({ cls := "WallDampModel", name := "hour", desc := "(I)V" } : Jvm.MethodName) prog_13_method_28_code (2 : Nat) (Option.none : Option Jvm.ClassFile.FieldType)) ∈ x_tb := x_m5 68 rfl rfl
theorem m_1029 : (Jvm.Cond.methodLink "WallDampModel" (223 : Nat) ({ cls := "WallDampModel", name := "warm", desc := "(I)V" } : Jvm.MethodName)) ∈ x_tb := x_m5 69 rfl rfl
theorem m_1031 : (Jvm.Cond.instanceMethod ({ cls := "WallDampModel", name := "warm", desc := "(I)V" } : Jvm.MethodName)) ∈ x_tb := x_m5 71 rfl rfl
theorem m_1032 : (Jvm.Cond.code ({ cls := "WallDampModel", name := "warm", desc := "(I)V" } : Jvm.MethodName) prog_13_method_21_code (9 : Nat) (Option.none : Option Jvm.ClassFile.FieldType)) ∈ x_tb := x_m5 72 rfl rfl
theorem m_1033 : (Jvm.Cond.constantLong "WallDampModel" (177 : Nat) (2 : Int64)) ∈ x_tb := x_m5 73 rfl rfl
theorem m_1034 : (Jvm.Cond.methodLink "WallDampModel" (179 : Nat) ({ cls := "WallDampModel", name := "resistance", desc := "(I)I" } : Jvm.MethodName)) ∈ x_tb := x_m5 74 rfl rfl
theorem m_1036 : (Jvm.Cond.instanceMethod ({ cls := "WallDampModel", name := "resistance", desc := "(I)I" } : Jvm.MethodName)) ∈ x_tb := x_m5 76 rfl rfl
theorem m_1037 : (Jvm.Cond.code ({ cls := "WallDampModel", name := "resistance", desc := "(I)I" } : Jvm.MethodName) prog_13_method_20_code (2 : Nat) (Option.some Jvm.ClassFile.FieldType.int)) ∈ x_tb := x_m5 77 rfl rfl
theorem m_1038 : (Jvm.Cond.methodLink "WallDampModel" (182 : Nat) ({ cls := "WallDampModel", name := "floor", desc := "(JJ)J" } : Jvm.MethodName)) ∈ x_tb := x_m5 78 rfl rfl
theorem m_1039 : (Jvm.Cond.static ({ cls := "WallDampModel", name := "floor", desc := "(JJ)J" } : Jvm.MethodName)) ∈ x_tb := x_m5 79 rfl rfl
theorem m_1040 : (Jvm.Cond.code ({ cls := "WallDampModel", name := "floor", desc := "(JJ)J" } : Jvm.MethodName) prog_13_method_5_code (6 : Nat) (Option.some Jvm.ClassFile.FieldType.long)) ∈ x_tb := x_m5 80 rfl rfl
theorem m_1041 : (Jvm.Cond.methodLink "WallDampModel" (226 : Nat) ({ cls := "WallDampModel", name := "flow", desc := "(I)V" } : Jvm.MethodName)) ∈ x_tb := x_m5 81 rfl rfl
theorem m_1043 : (Jvm.Cond.instanceMethod ({ cls := "WallDampModel", name := "flow", desc := "(I)V" } : Jvm.MethodName)) ∈ x_tb := x_m5 83 rfl rfl
theorem m_1044 : (Jvm.Cond.code ({ cls := "WallDampModel", name := "flow", desc := "(I)V" } : Jvm.MethodName) prog_13_method_23_code (12 : Nat) (Option.none : Option Jvm.ClassFile.FieldType)) ∈ x_tb := x_m5 84 rfl rfl
theorem m_1045 : (Jvm.Cond.methodLink "WallDampModel" (186 : Nat) ({ cls := "WallDampModel", name := "dampOf", desc := "(I)I" } : Jvm.MethodName)) ∈ x_tb := x_m5 85 rfl rfl
theorem m_1047 : (Jvm.Cond.instanceMethod ({ cls := "WallDampModel", name := "dampOf", desc := "(I)I" } : Jvm.MethodName)) ∈ x_tb := x_m5 87 rfl rfl
theorem m_1048 : (Jvm.Cond.code ({ cls := "WallDampModel", name := "dampOf", desc := "(I)I" } : Jvm.MethodName) prog_13_method_19_code (4 : Nat) (Option.some Jvm.ClassFile.FieldType.int)) ∈ x_tb := x_m5 88 rfl rfl
theorem m_1049 : (Jvm.Cond.methodLink "WallDampModel" (189 : Nat) ({ cls := "WallDampModel", name := "at", desc := "(JJ)J" } : Jvm.MethodName)) ∈ x_tb := x_m5 89 rfl rfl
theorem m_1050 : (Jvm.Cond.static ({ cls := "WallDampModel", name := "at", desc := "(JJ)J" } : Jvm.MethodName)) ∈ x_tb := x_m5 90 rfl rfl
theorem m_1051 : (Jvm.Cond.code ({ cls := "WallDampModel", name := "at", desc := "(JJ)J" } : Jvm.MethodName) prog_13_method_22_code (4 : Nat) (Option.some Jvm.ClassFile.FieldType.long)) ∈ x_tb := x_m5 91 rfl rfl
theorem m_1052 : (Jvm.Cond.constantLong "WallDampModel" (195 : Nat) (100 : Int64)) ∈ x_tb := x_m5 92 rfl rfl
theorem m_1053 : (Jvm.Cond.methodLink "WallDampModel" (229 : Nat) ({ cls := "WallDampModel", name := "move", desc := "()V" } : Jvm.MethodName)) ∈ x_tb := x_m5 93 rfl rfl
theorem m_1055 : (Jvm.Cond.instanceMethod ({ cls := "WallDampModel", name := "move", desc := "()V" } : Jvm.MethodName)) ∈ x_tb := x_m5 95 rfl rfl
theorem m_1056 : (Jvm.Cond.code ({ cls := "WallDampModel", name := "move", desc := "()V" } : Jvm.MethodName) prog_13_method_26_code (5 : Nat) (Option.none : Option Jvm.ClassFile.FieldType)) ∈ x_tb := x_m5 96 rfl rfl
theorem m_1057 : (Jvm.Cond.methodLink "WallDampModel" (200 : Nat) ({ cls := "WallDampModel", name := "lessenLeaving", desc := "(I)V" } : Jvm.MethodName)) ∈ x_tb := x_m5 97 rfl rfl
theorem m_1059 : (Jvm.Cond.instanceMethod ({ cls := "WallDampModel", name := "lessenLeaving", desc := "(I)V" } : Jvm.MethodName)) ∈ x_tb := x_m5 99 rfl rfl
theorem m_1060 : (Jvm.Cond.code ({ cls := "WallDampModel", name := "lessenLeaving", desc := "(I)V" } : Jvm.MethodName) prog_13_method_24_code (12 : Nat) (Option.none : Option Jvm.ClassFile.FieldType)) ∈ x_tb := x_m5 100 rfl rfl
theorem m_1061 : (Jvm.Cond.methodLink "WallDampModel" (204 : Nat) ({ cls := "WallDampModel", name := "lessenComing", desc := "(I)V" } : Jvm.MethodName)) ∈ x_tb := x_m5 101 rfl rfl
theorem m_1063 : (Jvm.Cond.instanceMethod ({ cls := "WallDampModel", name := "lessenComing", desc := "(I)V" } : Jvm.MethodName)) ∈ x_tb := x_m5 103 rfl rfl
theorem m_1064 : (Jvm.Cond.code ({ cls := "WallDampModel", name := "lessenComing", desc := "(I)V" } : Jvm.MethodName) prog_13_method_25_code (7 : Nat) (Option.none : Option Jvm.ClassFile.FieldType)) ∈ x_tb := x_m5 104 rfl rfl
theorem m_1065 : (Jvm.Cond.methodLink "WallDampModel" (237 : Nat) ({ cls := "WallDampModel", name := "frostAndMould", desc := "()V" } : Jvm.MethodName)) ∈ x_tb := x_m5 105 rfl rfl
theorem m_1067 : (Jvm.Cond.instanceMethod ({ cls := "WallDampModel", name := "frostAndMould", desc := "()V" } : Jvm.MethodName)) ∈ x_tb := x_m5 107 rfl rfl
theorem m_1068 : (Jvm.Cond.code ({ cls := "WallDampModel", name := "frostAndMould", desc := "()V" } : Jvm.MethodName) prog_13_method_27_code (5 : Nat) (Option.none : Option Jvm.ClassFile.FieldType)) ∈ x_tb := x_m5 108 rfl rfl
theorem m_1069 : (Jvm.Cond.constant "WallDampModel" (222 : Nat) (1000000 : Int32)) ∈ x_tb := x_m5 109 rfl rfl
theorem m_1070 : (Jvm.Cond.methodLink "WallDampLaw" (128 : Nat) ({ cls := "WallDampModel", name := "told", desc := "(II)I" } : Jvm.MethodName)) ∈ x_tb := x_m5 110 rfl rfl
theorem m_1071 : (Jvm.Cond.instanceMethod ({ cls := "WallDampModel", name := "told", desc := "(II)I" } : Jvm.MethodName)) ∈ x_tb := x_m5 111 rfl rfl
theorem m_1072 : (Jvm.Cond.selects "WallDampModel" ({ cls := "WallDampModel", name := "told", desc := "(II)I" } : Jvm.MethodName) ({ cls := "WallDampModel", name := "told", desc := "(II)I" } : Jvm.MethodName)) ∈ x_tb := x_m5 112 rfl rfl
theorem m_1073 : (Jvm.Cond.code ({ cls := "WallDampModel", name := "told", desc := "(II)I" } : Jvm.MethodName) prog_13_method_30_code (3 : Nat) (Option.some Jvm.ClassFile.FieldType.int)) ∈ x_tb := x_m5 113 rfl rfl
theorem m_1074 : (Jvm.Cond.methodLink "WallDampLaw" (131 : Nat) ({ cls := "WallDampModel", name := "balance", desc := "(I)J" } : Jvm.MethodName)) ∈ x_tb := x_m5 114 rfl rfl
theorem m_1075 : (Jvm.Cond.instanceMethod ({ cls := "WallDampModel", name := "balance", desc := "(I)J" } : Jvm.MethodName)) ∈ x_tb := x_m5 115 rfl rfl
theorem m_1076 : (Jvm.Cond.selects "WallDampModel" ({ cls := "WallDampModel", name := "balance", desc := "(I)J" } : Jvm.MethodName) ({ cls := "WallDampModel", name := "balance", desc := "(I)J" } : Jvm.MethodName)) ∈ x_tb := x_m5 116 rfl rfl
theorem m_1077 : (Jvm.Cond.code ({ cls := "WallDampModel", name := "balance", desc := "(I)J" } : Jvm.MethodName) prog_13_method_32_code (2 : Nat) (Option.some Jvm.ClassFile.FieldType.long)) ∈ x_tb := x_m5 117 rfl rfl
theorem m_1078 : (Jvm.Cond.methodLink "WallDampModel" (240 : Nat) ({ cls := "WallDampModel", name := "allWater", desc := "()J" } : Jvm.MethodName)) ∈ x_tb := x_m5 118 rfl rfl
theorem m_1080 : (Jvm.Cond.instanceMethod ({ cls := "WallDampModel", name := "allWater", desc := "()J" } : Jvm.MethodName)) ∈ x_tb := x_m5 120 rfl rfl
theorem m_1081 : (Jvm.Cond.code ({ cls := "WallDampModel", name := "allWater", desc := "()J" } : Jvm.MethodName) prog_13_method_31_code (4 : Nat) (Option.some Jvm.ClassFile.FieldType.long)) ∈ x_tb := x_m5 121 rfl rfl
theorem m_1082 : (Jvm.Cond.methodLink "WallDampLaw" (135 : Nat) ({ cls := "WallDampModel", name := "mould", desc := "()I" } : Jvm.MethodName)) ∈ x_tb := x_m5 122 rfl rfl
theorem m_1083 : (Jvm.Cond.instanceMethod ({ cls := "WallDampModel", name := "mould", desc := "()I" } : Jvm.MethodName)) ∈ x_tb := x_m5 123 rfl rfl
theorem m_1084 : (Jvm.Cond.selects "WallDampModel" ({ cls := "WallDampModel", name := "mould", desc := "()I" } : Jvm.MethodName) ({ cls := "WallDampModel", name := "mould", desc := "()I" } : Jvm.MethodName)) ∈ x_tb := x_m5 124 rfl rfl
theorem m_1085 : (Jvm.Cond.code ({ cls := "WallDampModel", name := "mould", desc := "()I" } : Jvm.MethodName) prog_13_method_33_code (1 : Nat) (Option.some Jvm.ClassFile.FieldType.int)) ∈ x_tb := x_m5 125 rfl rfl
theorem m_1086 : (Jvm.Cond.methodLink "WallDampLaw" (138 : Nat) ({ cls := "WallDampModel", name := "order", desc := "(II)I" } : Jvm.MethodName)) ∈ x_tb := x_m5 126 rfl rfl
theorem m_1087 : (Jvm.Cond.instanceMethod ({ cls := "WallDampModel", name := "order", desc := "(II)I" } : Jvm.MethodName)) ∈ x_tb := x_m5 127 rfl rfl
theorem m_1088 : (Jvm.Cond.selects "WallDampModel" ({ cls := "WallDampModel", name := "order", desc := "(II)I" } : Jvm.MethodName) ({ cls := "WallDampModel", name := "order", desc := "(II)I" } : Jvm.MethodName)) ∈ x_tb := x_m5 128 rfl rfl
theorem m_1089 : (Jvm.Cond.code ({ cls := "WallDampModel", name := "order", desc := "(II)I" } : Jvm.MethodName) prog_13_method_36_code (10 : Nat) (Option.some Jvm.ClassFile.FieldType.int)) ∈ x_tb := x_m5 129 rfl rfl
theorem m_1090 : (Jvm.Cond.constantLong "WallDampModel" (244 : Nat) (48 : Int64)) ∈ x_tb := x_m5 130 rfl rfl
theorem m_1091 : (Jvm.Cond.methodLink "WallDampModel" (246 : Nat) ({ cls := "WallDampModel", name := "keep", desc := "()[J" } : Jvm.MethodName)) ∈ x_tb := x_m5 131 rfl rfl
theorem m_1093 : (Jvm.Cond.instanceMethod ({ cls := "WallDampModel", name := "keep", desc := "()[J" } : Jvm.MethodName)) ∈ x_tb := x_m5 133 rfl rfl
theorem m_1094 : (Jvm.Cond.code ({ cls := "WallDampModel", name := "keep", desc := "()[J" } : Jvm.MethodName) prog_13_method_37_code (2 : Nat) (Option.some (Jvm.ClassFile.FieldType.array Jvm.ClassFile.FieldType.long))) ∈ x_tb := x_m5 134 rfl rfl
theorem m_1095 : (Jvm.Cond.constantLong "WallDampModel" (250 : Nat) (-1 : Int64)) ∈ x_tb := x_m5 135 rfl rfl
theorem m_1096 : (Jvm.Cond.methodLink "WallDampModel" (252 : Nat) ({ cls := "WallDampModel", name := "dry", desc := "(I)J" } : Jvm.MethodName)) ∈ x_tb := x_m5 136 rfl rfl
theorem m_1098 : (Jvm.Cond.instanceMethod ({ cls := "WallDampModel", name := "dry", desc := "(I)J" } : Jvm.MethodName)) ∈ x_tb := x_m5 138 rfl rfl
theorem m_1099 : (Jvm.Cond.code ({ cls := "WallDampModel", name := "dry", desc := "(I)J" } : Jvm.MethodName) prog_13_method_35_code (3 : Nat) (Option.some Jvm.ClassFile.FieldType.long)) ∈ x_tb := x_m5 139 rfl rfl
theorem m_1100 : (Jvm.Cond.methodLink "WallDampModel" (256 : Nat) ({ cls := "WallDampModel", name := "next", desc := "()Z" } : Jvm.MethodName)) ∈ x_tb := x_m5 140 rfl rfl
theorem m_1102 : (Jvm.Cond.instanceMethod ({ cls := "WallDampModel", name := "next", desc := "()Z" } : Jvm.MethodName)) ∈ x_tb := x_m5 142 rfl rfl
theorem m_1103 : (Jvm.Cond.code ({ cls := "WallDampModel", name := "next", desc := "()Z" } : Jvm.MethodName) prog_13_method_34_code (5 : Nat) (Option.some Jvm.ClassFile.FieldType.boolean)) ∈ x_tb := x_m5 143 rfl rfl
theorem m_1104 : (Jvm.Cond.sameMethod "java/lang/Throwable" "java/lang/Throwable" "fillInStackTrace" "(I)Ljava/lang/Throwable;") ∈ x_tb := x_m5 144 rfl rfl
theorem ms_0 : Cond.selects "WallDamp" ⟨"WallDamp", "materialOf", "(I)LWallDamp$Material;"⟩ ⟨"WallDamp", "materialOf", "(I)LWallDamp$Material;"⟩ ∈ x_tb := x_m0 0 rfl rfl
theorem ms_1 : Cond.selects "java/lang/Throwable" ⟨"java/lang/Throwable", "fillInStackTrace", "(I)Ljava/lang/Throwable;"⟩ ⟨"java/lang/Throwable", "fillInStackTrace", "(I)Ljava/lang/Throwable;"⟩ ∈ x_tb := x_m0 1 rfl rfl
theorem ms_2 : Cond.selects "WallDamp" ⟨"WallDamp", "requireNoHourOver", "()V"⟩ ⟨"WallDamp", "requireNoHourOver", "()V"⟩ ∈ x_tb := x_m0 2 rfl rfl
theorem ms_3 : Cond.selects "WallDamp" ⟨"WallDamp", "cellAt", "(I)LWallDamp$Cell;"⟩ ⟨"WallDamp", "cellAt", "(I)LWallDamp$Cell;"⟩ ∈ x_tb := x_m0 3 rfl rfl
theorem ms_4 : Cond.selects "WallDamp" ⟨"WallDamp", "passHour", "()V"⟩ ⟨"WallDamp", "passHour", "()V"⟩ ∈ x_tb := x_m0 4 rfl rfl
theorem ms_5 : Cond.selects "WallDamp$Wall" ⟨"WallDamp$Wall", "warmCells", "(LWallDamp$Surroundings;)V"⟩ ⟨"WallDamp$Wall", "warmCells", "(LWallDamp$Surroundings;)V"⟩ ∈ x_tb := x_m0 5 rfl rfl
theorem ms_6 : Cond.selects "WallDamp$Wall" ⟨"WallDamp$Wall", "setAirFlows", "(I)V"⟩ ⟨"WallDamp$Wall", "setAirFlows", "(I)V"⟩ ∈ x_tb := x_m0 6 rfl rfl
theorem ms_7 : Cond.selects "WallDamp$Wall" ⟨"WallDamp$Wall", "setFlowsBetween", "()V"⟩ ⟨"WallDamp$Wall", "setFlowsBetween", "()V"⟩ ∈ x_tb := x_m0 7 rfl rfl
theorem ms_8 : Cond.selects "WallDamp$Wall" ⟨"WallDamp$Wall", "limitFlows", "()V"⟩ ⟨"WallDamp$Wall", "limitFlows", "()V"⟩ ∈ x_tb := x_m0 8 rfl rfl
theorem ms_9 : Cond.selects "WallDamp$Flow" ⟨"WallDamp$Flow", "portion", "(II)I"⟩ ⟨"WallDamp$Flow", "portion", "(II)I"⟩ ∈ x_tb := x_m0 9 rfl rfl
theorem ms_10 : Cond.selects "WallDamp" ⟨"WallDamp", "growMould", "()V"⟩ ⟨"WallDamp", "growMould", "()V"⟩ ∈ x_tb := x_m0 10 rfl rfl
theorem ms_11 : Cond.selects "WallDamp$Trials" ⟨"WallDamp$Trials", "waterBehind", "(LWallDamp$Wall;LWallDamp$Surroundings;I)J"⟩ ⟨"WallDamp$Trials", "waterBehind", "(LWallDamp$Wall;LWallDamp$Surroundings;I)J"⟩ ∈ x_tb := x_m0 11 rfl rfl
theorem ms_12 : Cond.selects "WallDamp$Trials" ⟨"WallDamp$Trials", "keepRow", "(I)V"⟩ ⟨"WallDamp$Trials", "keepRow", "(I)V"⟩ ∈ x_tb := x_m0 12 rfl rfl
theorem ms_13 : Cond.selects "WallDamp$Trials" ⟨"WallDamp$Trials", "stepRow", "(I)Z"⟩ ⟨"WallDamp$Trials", "stepRow", "(I)Z"⟩ ∈ x_tb := x_m0 13 rfl rfl
theorem ms_14 : Cond.selects "WallDamp$Trials" ⟨"WallDamp$Trials", "swap", "(II)V"⟩ ⟨"WallDamp$Trials", "swap", "(II)V"⟩ ∈ x_tb := x_m0 14 rfl rfl
theorem ms_15 : Cond.selects "WallDampModel" ⟨"WallDampModel", "most", "(I)I"⟩ ⟨"WallDampModel", "most", "(I)I"⟩ ∈ x_tb := x_m0 15 rfl rfl
theorem ms_16 : Cond.selects "WallDampModel" ⟨"WallDampModel", "isCell", "(I)Z"⟩ ⟨"WallDampModel", "isCell", "(I)Z"⟩ ∈ x_tb := x_m0 16 rfl rfl
theorem ms_17 : Cond.selects "WallDampModel" ⟨"WallDampModel", "fullAt", "(I)I"⟩ ⟨"WallDampModel", "fullAt", "(I)I"⟩ ∈ x_tb := x_m0 17 rfl rfl
theorem ms_18 : Cond.selects "WallDampModel" ⟨"WallDampModel", "hour", "(I)V"⟩ ⟨"WallDampModel", "hour", "(I)V"⟩ ∈ x_tb := x_m0 18 rfl rfl
theorem ms_19 : Cond.selects "WallDampModel" ⟨"WallDampModel", "warm", "(I)V"⟩ ⟨"WallDampModel", "warm", "(I)V"⟩ ∈ x_tb := x_m0 19 rfl rfl
theorem ms_20 : Cond.selects "WallDampModel" ⟨"WallDampModel", "resistance", "(I)I"⟩ ⟨"WallDampModel", "resistance", "(I)I"⟩ ∈ x_tb := x_m0 20 rfl rfl
theorem ms_21 : Cond.selects "WallDampModel" ⟨"WallDampModel", "flow", "(I)V"⟩ ⟨"WallDampModel", "flow", "(I)V"⟩ ∈ x_tb := x_m0 21 rfl rfl
theorem ms_22 : Cond.selects "WallDampModel" ⟨"WallDampModel", "dampOf", "(I)I"⟩ ⟨"WallDampModel", "dampOf", "(I)I"⟩ ∈ x_tb := x_m0 22 rfl rfl
theorem ms_23 : Cond.selects "WallDampModel" ⟨"WallDampModel", "move", "()V"⟩ ⟨"WallDampModel", "move", "()V"⟩ ∈ x_tb := x_m0 23 rfl rfl
theorem ms_24 : Cond.selects "WallDampModel" ⟨"WallDampModel", "lessenLeaving", "(I)V"⟩ ⟨"WallDampModel", "lessenLeaving", "(I)V"⟩ ∈ x_tb := x_m0 24 rfl rfl
theorem ms_25 : Cond.selects "WallDampModel" ⟨"WallDampModel", "lessenComing", "(I)V"⟩ ⟨"WallDampModel", "lessenComing", "(I)V"⟩ ∈ x_tb := x_m0 25 rfl rfl
theorem ms_26 : Cond.selects "WallDampModel" ⟨"WallDampModel", "frostAndMould", "()V"⟩ ⟨"WallDampModel", "frostAndMould", "()V"⟩ ∈ x_tb := x_m0 26 rfl rfl
theorem ms_27 : Cond.selects "WallDampModel" ⟨"WallDampModel", "allWater", "()J"⟩ ⟨"WallDampModel", "allWater", "()J"⟩ ∈ x_tb := x_m0 27 rfl rfl
theorem ms_28 : Cond.selects "WallDampModel" ⟨"WallDampModel", "keep", "()[J"⟩ ⟨"WallDampModel", "keep", "()[J"⟩ ∈ x_tb := x_m0 28 rfl rfl
theorem ms_29 : Cond.selects "WallDampModel" ⟨"WallDampModel", "dry", "(I)J"⟩ ⟨"WallDampModel", "dry", "(I)J"⟩ ∈ x_tb := x_m0 29 rfl rfl
theorem ms_30 : Cond.selects "WallDampModel" ⟨"WallDampModel", "next", "()Z"⟩ ⟨"WallDampModel", "next", "()Z"⟩ ∈ x_tb := x_m0 30 rfl rfl
end
section
def F_WD : u_T := fun k => match k with
  | 0 => ("WallDamp", "materials", "[LWallDamp$Material;", true)
  | 1 => ("WallDamp", "around", "LWallDamp$Surroundings;", true)
  | 2 => ("WallDamp", "mouldRows", "LWallDamp$MouldRows;", true)
  | 3 => ("WallDamp", "standing", "LWallDamp$Wall;", true)
  | 4 => ("WallDamp", "trials", "LWallDamp$Trials;", true)
  | 5 => ("WallDamp", "hoursOver", "I", false)
  | 6 => ("WallDamp", "mouldGrown", "I", false)
  | _ => ("WallDamp", "startWater", "J", false)
def t_WD : Nat → FieldType := fun k => match k with
  | 0 => .array (.object "WallDamp$Material")
  | 1 => .object "WallDamp$Surroundings"
  | 2 => .object "WallDamp$MouldRows"
  | 3 => .object "WallDamp$Wall"
  | 4 => .object "WallDamp$Trials"
  | 5 => .int
  | 6 => .int
  | _ => .long
theorem n_WD : ∀ a, a < 8 → ∀ b, b < 8 → a ≠ b → (F_WD a).2.1 ≠ (F_WD b).2.1 := by decide +kernel
theorem ty_WD : ∀ k, k < 8 → parseFieldDescriptor (F_WD k).2.2.1 = some (t_WD k) := by decide +kernel
theorem i0_WD : ∀ k, k < 8 → u_lay "WallDamp" F_WD k ∈ x_tb := fun k hk => match k, hk with
  | 0, _ => m_353
  | 1, _ => m_355
  | 2, _ => m_357
  | 3, _ => m_359
  | 4, _ => m_361
  | 5, _ => m_363
  | 6, _ => m_365
  | 7, _ => m_367
  | k + 8, h => absurd h (by omega)
theorem i_WD : ∀ w ∈ u_ws "WallDamp" F_WD 8, w ∈ x_tb := fun w hw => by obtain ⟨k, hk, rfl⟩ := List.mem_map.mp hw; exact i0_WD k (List.mem_range.mp hk)
def F_Air : u_T := fun k => match k with
  | 0 => ("WallDamp$Place", "warmth", "I", false)
  | 1 => ("WallDamp$Place", "damp", "I", false)
  | 2 => ("WallDamp$Place", "pressure", "I", false)
  | 3 => ("WallDamp$Place", "supply", "I", false)
  | 4 => ("WallDamp$Place", "room", "I", false)
  | 5 => ("WallDamp$Place", "leaving", "I", false)
  | 6 => ("WallDamp$Place", "coming", "I", false)
  | 7 => ("WallDamp$Air", "gone", "J", false)
  | _ => ("WallDamp$Air", "come", "J", false)
def t_Air : Nat → FieldType := fun k => match k with
  | 0 => .int
  | 1 => .int
  | 2 => .int
  | 3 => .int
  | 4 => .int
  | 5 => .int
  | 6 => .int
  | 7 => .long
  | _ => .long
theorem n_Air : ∀ a, a < 9 → ∀ b, b < 9 → a ≠ b → (F_Air a).2.1 ≠ (F_Air b).2.1 := by decide +kernel
theorem ty_Air : ∀ k, k < 9 → parseFieldDescriptor (F_Air k).2.2.1 = some (t_Air k) := by decide +kernel
theorem i0_Air : ∀ k, k < 9 → u_lay "WallDamp$Air" F_Air k ∈ x_tb := fun k hk => match k, hk with
  | 0, _ => m_209
  | 1, _ => m_211
  | 2, _ => m_213
  | 3, _ => m_215
  | 4, _ => m_217
  | 5, _ => m_219
  | 6, _ => m_221
  | 7, _ => m_205
  | 8, _ => m_207
  | k + 9, h => absurd h (by omega)
theorem i_Air : ∀ w ∈ u_ws "WallDamp$Air" F_Air 9, w ∈ x_tb := fun w hw => by obtain ⟨k, hk, rfl⟩ := List.mem_map.mp hw; exact i0_Air k (List.mem_range.mp hk)
def F_Cell : u_T := fun k => match k with
  | 0 => ("WallDamp$Place", "warmth", "I", false)
  | 1 => ("WallDamp$Place", "damp", "I", false)
  | 2 => ("WallDamp$Place", "pressure", "I", false)
  | 3 => ("WallDamp$Place", "supply", "I", false)
  | 4 => ("WallDamp$Place", "room", "I", false)
  | 5 => ("WallDamp$Place", "leaving", "I", false)
  | 6 => ("WallDamp$Place", "coming", "I", false)
  | 7 => ("WallDamp$Cell", "material", "LWallDamp$Material;", false)
  | 8 => ("WallDamp$Cell", "thickness", "I", false)
  | 9 => ("WallDamp$Cell", "leakRate", "I", false)
  | 10 => ("WallDamp$Cell", "held", "I", false)
  | 11 => ("WallDamp$Cell", "way", "J", false)
  | 12 => ("WallDamp$Cell", "passes", "I", false)
  | 13 => ("WallDamp$Cell", "greatestDamp", "I", false)
  | _ => ("WallDamp$Cell", "frozen", "Z", false)
def t_Cell : Nat → FieldType := fun k => match k with
  | 0 => .int
  | 1 => .int
  | 2 => .int
  | 3 => .int
  | 4 => .int
  | 5 => .int
  | 6 => .int
  | 7 => .object "WallDamp$Material"
  | 8 => .int
  | 9 => .int
  | 10 => .int
  | 11 => .long
  | 12 => .int
  | 13 => .int
  | _ => .boolean
theorem n_Cell : ∀ a, a < 15 → ∀ b, b < 15 → a ≠ b → (F_Cell a).2.1 ≠ (F_Cell b).2.1 := by decide +kernel
theorem ty_Cell : ∀ k, k < 15 → parseFieldDescriptor (F_Cell k).2.2.1 = some (t_Cell k) := by decide +kernel
theorem i0_Cell : ∀ k, k < 15 → u_lay "WallDamp$Cell" F_Cell k ∈ x_tb := fun k hk => match k, hk with
  | 0, _ => m_267
  | 1, _ => m_268
  | 2, _ => m_269
  | 3, _ => m_270
  | 4, _ => m_271
  | 5, _ => m_272
  | 6, _ => m_273
  | 7, _ => m_251
  | 8, _ => m_253
  | 9, _ => m_255
  | 10, _ => m_257
  | 11, _ => m_259
  | 12, _ => m_261
  | 13, _ => m_263
  | 14, _ => m_265
  | k + 15, h => absurd h (by omega)
theorem i_Cell : ∀ w ∈ u_ws "WallDamp$Cell" F_Cell 15, w ∈ x_tb := fun w hw => by obtain ⟨k, hk, rfl⟩ := List.mem_map.mp hw; exact i0_Cell k (List.mem_range.mp hk)
def F_Corners : u_T := fun k => match k with
  | 0 => ("WallDamp$Corners", "xs", "[I", true)
  | 1 => ("WallDamp$Corners", "ys", "[I", true)
  | 2 => ("WallDamp$Corners", "limit", "I", true)
  | _ => ("WallDamp$Corners", "count", "I", false)
def t_Corners : Nat → FieldType := fun k => match k with
  | 0 => .array (.int)
  | 1 => .array (.int)
  | 2 => .int
  | _ => .int
theorem n_Corners : ∀ a, a < 4 → ∀ b, b < 4 → a ≠ b → (F_Corners a).2.1 ≠ (F_Corners b).2.1 := by decide +kernel
theorem ty_Corners : ∀ k, k < 4 → parseFieldDescriptor (F_Corners k).2.2.1 = some (t_Corners k) := by decide +kernel
theorem i0_Corners : ∀ k, k < 4 → u_lay "WallDamp$Corners" F_Corners k ∈ x_tb := fun k hk => match k, hk with
  | 0, _ => m_51
  | 1, _ => m_53
  | 2, _ => m_55
  | 3, _ => m_57
  | k + 4, h => absurd h (by omega)
theorem i_Corners : ∀ w ∈ u_ws "WallDamp$Corners" F_Corners 4, w ∈ x_tb := fun w hw => by obtain ⟨k, hk, rfl⟩ := List.mem_map.mp hw; exact i0_Corners k (List.mem_range.mp hk)
def F_Flow : u_T := fun k => match k with
  | 0 => ("WallDamp$Flow", "outer", "LWallDamp$Place;", true)
  | 1 => ("WallDamp$Flow", "inner", "LWallDamp$Place;", true)
  | 2 => ("WallDamp$Flow", "from", "LWallDamp$Place;", false)
  | 3 => ("WallDamp$Flow", "to", "LWallDamp$Place;", false)
  | _ => ("WallDamp$Flow", "much", "I", false)
def t_Flow : Nat → FieldType := fun k => match k with
  | 0 => .object "WallDamp$Place"
  | 1 => .object "WallDamp$Place"
  | 2 => .object "WallDamp$Place"
  | 3 => .object "WallDamp$Place"
  | _ => .int
theorem n_Flow : ∀ a, a < 5 → ∀ b, b < 5 → a ≠ b → (F_Flow a).2.1 ≠ (F_Flow b).2.1 := by decide +kernel
theorem ty_Flow : ∀ k, k < 5 → parseFieldDescriptor (F_Flow k).2.2.1 = some (t_Flow k) := by decide +kernel
theorem i0_Flow : ∀ k, k < 5 → u_lay "WallDamp$Flow" F_Flow k ∈ x_tb := fun k hk => match k, hk with
  | 0, _ => m_285
  | 1, _ => m_287
  | 2, _ => m_289
  | 3, _ => m_291
  | 4, _ => m_293
  | k + 5, h => absurd h (by omega)
theorem i_Flow : ∀ w ∈ u_ws "WallDamp$Flow" F_Flow 5, w ∈ x_tb := fun w hw => by obtain ⟨k, hk, rfl⟩ := List.mem_map.mp hw; exact i0_Flow k (List.mem_range.mp hk)
def F_Material : u_T := fun k => match k with
  | 0 => ("WallDamp$Material", "damps", "LWallDamp$Corners;", true)
  | 1 => ("WallDamp$Material", "vapour", "I", false)
  | 2 => ("WallDamp$Material", "liquid", "I", false)
  | _ => ("WallDamp$Material", "leads", "I", false)
def t_Material : Nat → FieldType := fun k => match k with
  | 0 => .object "WallDamp$Corners"
  | 1 => .int
  | 2 => .int
  | _ => .int
theorem n_Material : ∀ a, a < 4 → ∀ b, b < 4 → a ≠ b → (F_Material a).2.1 ≠ (F_Material b).2.1 := by decide +kernel
theorem ty_Material : ∀ k, k < 4 → parseFieldDescriptor (F_Material k).2.2.1 = some (t_Material k) := by decide +kernel
theorem i0_Material : ∀ k, k < 4 → u_lay "WallDamp$Material" F_Material k ∈ x_tb := fun k hk => match k, hk with
  | 0, _ => m_77
  | 1, _ => m_79
  | 2, _ => m_81
  | 3, _ => m_83
  | k + 4, h => absurd h (by omega)
theorem i_Material : ∀ w ∈ u_ws "WallDamp$Material" F_Material 4, w ∈ x_tb := fun w hw => by obtain ⟨k, hk, rfl⟩ := List.mem_map.mp hw; exact i0_Material k (List.mem_range.mp hk)
def F_MouldRows : u_T := fun k => match k with
  | 0 => ("WallDamp$MouldRows", "damps", "[I", true)
  | 1 => ("WallDamp$MouldRows", "froms", "[I", true)
  | 2 => ("WallDamp$MouldRows", "tos", "[I", true)
  | 3 => ("WallDamp$MouldRows", "mores", "[I", true)
  | _ => ("WallDamp$MouldRows", "count", "I", false)
def t_MouldRows : Nat → FieldType := fun k => match k with
  | 0 => .array (.int)
  | 1 => .array (.int)
  | 2 => .array (.int)
  | 3 => .array (.int)
  | _ => .int
theorem n_MouldRows : ∀ a, a < 5 → ∀ b, b < 5 → a ≠ b → (F_MouldRows a).2.1 ≠ (F_MouldRows b).2.1 := by decide +kernel
theorem ty_MouldRows : ∀ k, k < 5 → parseFieldDescriptor (F_MouldRows k).2.2.1 = some (t_MouldRows k) := by decide +kernel
theorem i0_MouldRows : ∀ k, k < 5 → u_lay "WallDamp$MouldRows" F_MouldRows k ∈ x_tb := fun k hk => match k, hk with
  | 0, _ => m_150
  | 1, _ => m_152
  | 2, _ => m_154
  | 3, _ => m_156
  | 4, _ => m_158
  | k + 5, h => absurd h (by omega)
theorem i_MouldRows : ∀ w ∈ u_ws "WallDamp$MouldRows" F_MouldRows 5, w ∈ x_tb := fun w hw => by obtain ⟨k, hk, rfl⟩ := List.mem_map.mp hw; exact i0_MouldRows k (List.mem_range.mp hk)
def F_Surroundings : u_T := fun k => match k with
  | 0 => ("WallDamp$Surroundings", "fullPressures", "LWallDamp$Corners;", true)
  | 1 => ("WallDamp$Surroundings", "outerWarmth", "[I", true)
  | 2 => ("WallDamp$Surroundings", "outerDamp", "[I", true)
  | 3 => ("WallDamp$Surroundings", "rainFall", "[I", true)
  | 4 => ("WallDamp$Surroundings", "sunShine", "[I", true)
  | 5 => ("WallDamp$Surroundings", "innerWarmth", "[I", true)
  | 6 => ("WallDamp$Surroundings", "innerDamp", "[I", true)
  | 7 => ("WallDamp$Surroundings", "outerFilm", "I", false)
  | _ => ("WallDamp$Surroundings", "innerFilm", "I", false)
def t_Surroundings : Nat → FieldType := fun k => match k with
  | 0 => .object "WallDamp$Corners"
  | 1 => .array (.int)
  | 2 => .array (.int)
  | 3 => .array (.int)
  | 4 => .array (.int)
  | 5 => .array (.int)
  | 6 => .array (.int)
  | 7 => .int
  | _ => .int
theorem n_Surroundings : ∀ a, a < 9 → ∀ b, b < 9 → a ≠ b → (F_Surroundings a).2.1 ≠ (F_Surroundings b).2.1 := by decide +kernel
theorem ty_Surroundings : ∀ k, k < 9 → parseFieldDescriptor (F_Surroundings k).2.2.1 = some (t_Surroundings k) := by decide +kernel
theorem i0_Surroundings : ∀ k, k < 9 → u_lay "WallDamp$Surroundings" F_Surroundings k ∈ x_tb := fun k hk => match k, hk with
  | 0, _ => m_120
  | 1, _ => m_122
  | 2, _ => m_124
  | 3, _ => m_126
  | 4, _ => m_128
  | 5, _ => m_130
  | 6, _ => m_132
  | 7, _ => m_134
  | 8, _ => m_136
  | k + 9, h => absurd h (by omega)
theorem i_Surroundings : ∀ w ∈ u_ws "WallDamp$Surroundings" F_Surroundings 9, w ∈ x_tb := fun w hw => by obtain ⟨k, hk, rfl⟩ := List.mem_map.mp hw; exact i0_Surroundings k (List.mem_range.mp hk)
def F_Trials : u_T := fun k => match k with
  | 0 => ("WallDamp$Trials", "driest", "[I", true)
  | 1 => ("WallDamp$Trials", "row", "[I", true)
  | _ => ("WallDamp$Trials", "trial", "LWallDamp$Wall;", true)
def t_Trials : Nat → FieldType := fun k => match k with
  | 0 => .array (.int)
  | 1 => .array (.int)
  | _ => .object "WallDamp$Wall"
theorem n_Trials : ∀ a, a < 3 → ∀ b, b < 3 → a ≠ b → (F_Trials a).2.1 ≠ (F_Trials b).2.1 := by decide +kernel
theorem ty_Trials : ∀ k, k < 3 → parseFieldDescriptor (F_Trials k).2.2.1 = some (t_Trials k) := by decide +kernel
theorem i0_Trials : ∀ k, k < 3 → u_lay "WallDamp$Trials" F_Trials k ∈ x_tb := fun k hk => match k, hk with
  | 0, _ => m_338
  | 1, _ => m_340
  | 2, _ => m_342
  | k + 3, h => absurd h (by omega)
theorem i_Trials : ∀ w ∈ u_ws "WallDamp$Trials" F_Trials 3, w ∈ x_tb := fun w hw => by obtain ⟨k, hk, rfl⟩ := List.mem_map.mp hw; exact i0_Trials k (List.mem_range.mp hk)
def F_Wall : u_T := fun k => match k with
  | 0 => ("WallDamp$Wall", "cells", "[LWallDamp$Cell;", true)
  | 1 => ("WallDamp$Wall", "outerAir", "LWallDamp$Air;", true)
  | 2 => ("WallDamp$Wall", "innerAir", "LWallDamp$Air;", true)
  | 3 => ("WallDamp$Wall", "outerVapour", "LWallDamp$Flow;", true)
  | 4 => ("WallDamp$Wall", "innerVapour", "LWallDamp$Flow;", true)
  | 5 => ("WallDamp$Wall", "rain", "LWallDamp$Flow;", true)
  | 6 => ("WallDamp$Wall", "leaks", "[LWallDamp$Flow;", true)
  | 7 => ("WallDamp$Wall", "betweens", "[LWallDamp$Flow;", true)
  | _ => ("WallDamp$Wall", "flows", "[LWallDamp$Flow;", true)
def t_Wall : Nat → FieldType := fun k => match k with
  | 0 => .array (.object "WallDamp$Cell")
  | 1 => .object "WallDamp$Air"
  | 2 => .object "WallDamp$Air"
  | 3 => .object "WallDamp$Flow"
  | 4 => .object "WallDamp$Flow"
  | 5 => .object "WallDamp$Flow"
  | 6 => .array (.object "WallDamp$Flow")
  | 7 => .array (.object "WallDamp$Flow")
  | _ => .array (.object "WallDamp$Flow")
theorem n_Wall : ∀ a, a < 9 → ∀ b, b < 9 → a ≠ b → (F_Wall a).2.1 ≠ (F_Wall b).2.1 := by decide +kernel
theorem ty_Wall : ∀ k, k < 9 → parseFieldDescriptor (F_Wall k).2.2.1 = some (t_Wall k) := by decide +kernel
theorem i0_Wall : ∀ k, k < 9 → u_lay "WallDamp$Wall" F_Wall k ∈ x_tb := fun k hk => match k, hk with
  | 0, _ => m_309
  | 1, _ => m_311
  | 2, _ => m_313
  | 3, _ => m_315
  | 4, _ => m_317
  | 5, _ => m_319
  | 6, _ => m_321
  | 7, _ => m_323
  | 8, _ => m_325
  | k + 9, h => absurd h (by omega)
theorem i_Wall : ∀ w ∈ u_ws "WallDamp$Wall" F_Wall 9, w ∈ x_tb := fun w hw => by obtain ⟨k, hk, rfl⟩ := List.mem_map.mp hw; exact i0_Wall k (List.mem_range.mp hk)
def F_Mod : u_T := fun k => match k with
  | 0 => ("WallDampModel", "thrown", "I", false)
  | 1 => ("WallDampModel", "cells", "I", true)
  | 2 => ("WallDampModel", "corners", "[I", true)
  | 3 => ("WallDampModel", "held", "[I", true)
  | 4 => ("WallDampModel", "damps", "[I", true)
  | 5 => ("WallDampModel", "vapour", "[I", true)
  | 6 => ("WallDampModel", "liquid", "[I", true)
  | 7 => ("WallDampModel", "leads", "[I", true)
  | 8 => ("WallDampModel", "material", "[I", true)
  | 9 => ("WallDampModel", "thickness", "[I", true)
  | 10 => ("WallDampModel", "water", "[J", true)
  | 11 => ("WallDampModel", "leak", "[I", true)
  | 12 => ("WallDampModel", "warmth", "[I", true)
  | 13 => ("WallDampModel", "passes", "[I", true)
  | 14 => ("WallDampModel", "frozen", "[Z", true)
  | 15 => ("WallDampModel", "wettest", "[I", true)
  | 16 => ("WallDampModel", "tables", "I", false)
  | 17 => ("WallDampModel", "tableWarmth", "[I", true)
  | 18 => ("WallDampModel", "tablePressure", "[I", true)
  | 19 => ("WallDampModel", "outer", "I", false)
  | 20 => ("WallDampModel", "inner", "I", false)
  | 21 => ("WallDampModel", "outWarmth", "[I", true)
  | 22 => ("WallDampModel", "outDamp", "[I", true)
  | 23 => ("WallDampModel", "rain", "[I", true)
  | 24 => ("WallDampModel", "sun", "[I", true)
  | 25 => ("WallDampModel", "inWarmth", "[I", true)
  | 26 => ("WallDampModel", "inDamp", "[I", true)
  | 27 => ("WallDampModel", "growths", "I", false)
  | 28 => ("WallDampModel", "growDamp", "[I", true)
  | 29 => ("WallDampModel", "growFrom", "[I", true)
  | 30 => ("WallDampModel", "growTo", "[I", true)
  | 31 => ("WallDampModel", "growMore", "[I", true)
  | 32 => ("WallDampModel", "hours", "I", false)
  | 33 => ("WallDampModel", "mould", "I", false)
  | 34 => ("WallDampModel", "fromOutside", "J", false)
  | 35 => ("WallDampModel", "fromInside", "J", false)
  | 36 => ("WallDampModel", "wentOut", "J", false)
  | 37 => ("WallDampModel", "wentIn", "J", false)
  | 38 => ("WallDampModel", "start", "J", false)
  | 39 => ("WallDampModel", "pressure", "[J", true)
  | 40 => ("WallDampModel", "damp", "[I", true)
  | 41 => ("WallDampModel", "into", "[J", true)
  | 42 => ("WallDampModel", "outFlow", "J", false)
  | 43 => ("WallDampModel", "inFlow", "J", false)
  | 44 => ("WallDampModel", "keptMaterial", "[I", true)
  | 45 => ("WallDampModel", "keptThickness", "[I", true)
  | 46 => ("WallDampModel", "keptLeak", "[I", true)
  | 47 => ("WallDampModel", "row", "[I", true)
  | 48 => ("WallDampModel", "best", "[I", true)
  | 49 => ("WallDampModel", "used", "[Z", true)
  | _ => ("WallDampModel", "saved", "[J", true)
def t_Mod : Nat → FieldType := fun k => match k with
  | 0 => .int
  | 1 => .int
  | 2 => .array (.int)
  | 3 => .array (.int)
  | 4 => .array (.int)
  | 5 => .array (.int)
  | 6 => .array (.int)
  | 7 => .array (.int)
  | 8 => .array (.int)
  | 9 => .array (.int)
  | 10 => .array (.long)
  | 11 => .array (.int)
  | 12 => .array (.int)
  | 13 => .array (.int)
  | 14 => .array (.boolean)
  | 15 => .array (.int)
  | 16 => .int
  | 17 => .array (.int)
  | 18 => .array (.int)
  | 19 => .int
  | 20 => .int
  | 21 => .array (.int)
  | 22 => .array (.int)
  | 23 => .array (.int)
  | 24 => .array (.int)
  | 25 => .array (.int)
  | 26 => .array (.int)
  | 27 => .int
  | 28 => .array (.int)
  | 29 => .array (.int)
  | 30 => .array (.int)
  | 31 => .array (.int)
  | 32 => .int
  | 33 => .int
  | 34 => .long
  | 35 => .long
  | 36 => .long
  | 37 => .long
  | 38 => .long
  | 39 => .array (.long)
  | 40 => .array (.int)
  | 41 => .array (.long)
  | 42 => .long
  | 43 => .long
  | 44 => .array (.int)
  | 45 => .array (.int)
  | 46 => .array (.int)
  | 47 => .array (.int)
  | 48 => .array (.int)
  | 49 => .array (.boolean)
  | _ => .array (.long)
theorem n_Mod : ∀ a, a < 51 → ∀ b, b < 51 → a ≠ b → (F_Mod a).2.1 ≠ (F_Mod b).2.1 := by decide +kernel
theorem ty_Mod : ∀ k, k < 51 → parseFieldDescriptor (F_Mod k).2.2.1 = some (t_Mod k) := by decide +kernel
theorem i0_Mod : ∀ k, k < 51 → u_lay "WallDampModel" F_Mod k ∈ x_tb := fun k hk => match k, hk with
  | 0, _ => m_844
  | 1, _ => m_846
  | 2, _ => m_848
  | 3, _ => m_850
  | 4, _ => m_852
  | 5, _ => m_854
  | 6, _ => m_856
  | 7, _ => m_858
  | 8, _ => m_860
  | 9, _ => m_862
  | 10, _ => m_864
  | 11, _ => m_866
  | 12, _ => m_868
  | 13, _ => m_870
  | 14, _ => m_872
  | 15, _ => m_874
  | 16, _ => m_876
  | 17, _ => m_878
  | 18, _ => m_880
  | 19, _ => m_882
  | 20, _ => m_884
  | 21, _ => m_886
  | 22, _ => m_888
  | 23, _ => m_890
  | 24, _ => m_892
  | 25, _ => m_894
  | 26, _ => m_896
  | 27, _ => m_898
  | 28, _ => m_900
  | 29, _ => m_902
  | 30, _ => m_904
  | 31, _ => m_906
  | 32, _ => m_908
  | 33, _ => m_910
  | 34, _ => m_912
  | 35, _ => m_914
  | 36, _ => m_916
  | 37, _ => m_918
  | 38, _ => m_920
  | 39, _ => m_922
  | 40, _ => m_924
  | 41, _ => m_926
  | 42, _ => m_928
  | 43, _ => m_930
  | 44, _ => m_932
  | 45, _ => m_934
  | 46, _ => m_936
  | 47, _ => m_938
  | 48, _ => m_940
  | 49, _ => m_942
  | 50, _ => m_944
  | k + 51, h => absurd h (by omega)
theorem i_Mod : ∀ w ∈ u_ws "WallDampModel" F_Mod 51, w ∈ x_tb := fun w hw => by obtain ⟨k, hk, rfl⟩ := List.mem_map.mp hw; exact i0_Mod k (List.mem_range.mp hk)
abbrev x_cl : List vw_C := [("WallDamp", F_WD, 8), ("WallDamp$Air", F_Air, 9), ("WallDamp$Cell", F_Cell, 15), ("WallDamp$Corners", F_Corners, 4), ("WallDamp$Flow", F_Flow, 5), ("WallDamp$Material", F_Material, 4), ("WallDamp$MouldRows", F_MouldRows, 5), ("WallDamp$Surroundings", F_Surroundings, 9), ("WallDamp$Trials", F_Trials, 3), ("WallDamp$Wall", F_Wall, 9), ("WallDampModel", F_Mod, 51)]
def x_FT : Nat → List (Nat × Nat) := fun c => match c with
  | 0 => [(2, 7), (2, 8), (2, 9), (2, 10), (2, 11), (0, 12), (0, 13), (1, 14)]
  | 1 => [(0, 0), (0, 1), (0, 2), (0, 3), (0, 4), (0, 5), (0, 6), (1, 15), (1, 16)]
  | 2 => [(0, 0), (0, 1), (0, 2), (0, 3), (0, 4), (0, 5), (0, 6), (2, 17), (0, 18), (0, 19), (0, 20), (1, 21), (0, 22), (0, 23), (0, 24)]
  | 3 => [(2, 25), (2, 26), (0, 27), (0, 28)]
  | 4 => [(2, 29), (2, 30), (2, 31), (2, 32), (0, 33)]
  | 5 => [(2, 34), (0, 35), (0, 36), (0, 37)]
  | 6 => [(2, 38), (2, 39), (2, 40), (2, 41), (0, 42)]
  | 7 => [(2, 43), (2, 44), (2, 45), (2, 46), (2, 47), (2, 48), (2, 49), (0, 50), (0, 51)]
  | 8 => [(2, 52), (2, 53), (2, 54)]
  | 9 => [(2, 55), (2, 56), (2, 57), (2, 58), (2, 59), (2, 60), (2, 61), (2, 62), (2, 63)]
  | 10 => [(0, 64), (0, 65), (2, 66), (2, 67), (2, 68), (2, 69), (2, 70), (2, 71), (2, 72), (2, 73), (2, 74), (2, 75), (2, 76), (2, 77), (2, 78), (2, 79), (0, 80), (2, 81), (2, 82), (0, 83), (0, 84), (2, 85), (2, 86), (2, 87), (2, 88), (2, 89), (2, 90), (0, 91), (2, 92), (2, 93), (2, 94), (2, 95), (0, 96), (0, 97), (1, 98), (1, 99), (1, 100), (1, 101), (1, 102), (2, 103), (2, 104), (2, 105), (1, 106), (1, 107), (2, 108), (2, 109), (2, 110), (2, 111), (2, 112), (2, 113), (2, 114)]
  | _ => []
theorem nd_WD : (x_FT 0).Nodup := by decide +kernel
theorem k3_WD : ∀ y ∈ x_FT 0, y.1 < 3 := by decide +kernel
theorem nd_Air : (x_FT 1).Nodup := by decide +kernel
theorem k3_Air : ∀ y ∈ x_FT 1, y.1 < 3 := by decide +kernel
theorem nd_Cell : (x_FT 2).Nodup := by decide +kernel
theorem k3_Cell : ∀ y ∈ x_FT 2, y.1 < 3 := by decide +kernel
theorem nd_Corners : (x_FT 3).Nodup := by decide +kernel
theorem k3_Corners : ∀ y ∈ x_FT 3, y.1 < 3 := by decide +kernel
theorem nd_Flow : (x_FT 4).Nodup := by decide +kernel
theorem k3_Flow : ∀ y ∈ x_FT 4, y.1 < 3 := by decide +kernel
theorem nd_Material : (x_FT 5).Nodup := by decide +kernel
theorem k3_Material : ∀ y ∈ x_FT 5, y.1 < 3 := by decide +kernel
theorem nd_MouldRows : (x_FT 6).Nodup := by decide +kernel
theorem k3_MouldRows : ∀ y ∈ x_FT 6, y.1 < 3 := by decide +kernel
theorem nd_Surroundings : (x_FT 7).Nodup := by decide +kernel
theorem k3_Surroundings : ∀ y ∈ x_FT 7, y.1 < 3 := by decide +kernel
theorem nd_Trials : (x_FT 8).Nodup := by decide +kernel
theorem k3_Trials : ∀ y ∈ x_FT 8, y.1 < 3 := by decide +kernel
theorem nd_Wall : (x_FT 9).Nodup := by decide +kernel
theorem k3_Wall : ∀ y ∈ x_FT 9, y.1 < 3 := by decide +kernel
theorem nd_Mod : (x_FT 10).Nodup := by decide +kernel
theorem k3_Mod : ∀ y ∈ x_FT 10, y.1 < 3 := by decide +kernel
abbrev x_tys (aC : Nat → ClassId) : List (ClassId × FieldType) := [(aC 100, .int), (aC 101, .long), (aC 102, .boolean), (aC 103, .object "WallDamp$Material"), (aC 104, .object "WallDamp$Cell"), (aC 105, .object "WallDamp$Flow")]
end
section
abbrev b_WD_init : ByteArray := prog_1_method_1_code
def y_WD_init : MethodName := ⟨"WallDamp", "<init>", "(I)V"⟩
def ws_WD_init : List Cond := .code y_WD_init b_WD_init 4 none :: x_tb
theorem pd_WD_init : y_WD_init.cls ≠ "java/lang/invoke/MethodHandle" ∧ y_WD_init.cls ≠ "java/lang/invoke/VarHandle" ∧ (parseMethodDescriptor y_WD_init.desc).map (fun d => d.parameters.length) = some 1 := by decide +kernel
theorem d_WD_init_0 : decode b_WD_init 0 = .ok (.aload_n 0, 1) := by decide +kernel
theorem d_WD_init_1 : decode b_WD_init 1 = .ok (.invokespecial 1, 3) := by decide +kernel
theorem d_WD_init_4 : decode b_WD_init 4 = .ok (.iconst 1, 1) := by decide +kernel
theorem d_WD_init_5 : decode b_WD_init 5 = .ok (.bipush 12, 2) := by decide +kernel
theorem d_WD_init_7 : decode b_WD_init 7 = .ok (.iload_n 1, 1) := by decide +kernel
theorem d_WD_init_8 : decode b_WD_init 8 = .ok (.invokestatic 9, 3) := by decide +kernel
theorem d_WD_init_11 : decode b_WD_init 11 = .ok (.invokestatic 15, 3) := by decide +kernel
theorem d_WD_init_14 : decode b_WD_init 14 = .ok (.istore_n 2, 1) := by decide +kernel
theorem d_WD_init_15 : decode b_WD_init 15 = .ok (.aload_n 0, 1) := by decide +kernel
theorem d_WD_init_16 : decode b_WD_init 16 = .ok (.bipush 6, 2) := by decide +kernel
theorem d_WD_init_18 : decode b_WD_init 18 = .ok (.anewarray 18, 3) := by decide +kernel
theorem d_WD_init_21 : decode b_WD_init 21 = .ok (.putfield 20, 3) := by decide +kernel
theorem d_WD_init_24 : decode b_WD_init 24 = .ok (.iconst 0, 1) := by decide +kernel
theorem d_WD_init_25 : decode b_WD_init 25 = .ok (.istore_n 3, 1) := by decide +kernel
theorem d_WD_init_26 : decode b_WD_init 26 = .ok (.iload_n 3, 1) := by decide +kernel
theorem d_WD_init_27 : decode b_WD_init 27 = .ok (.aload_n 0, 1) := by decide +kernel
theorem d_WD_init_28 : decode b_WD_init 28 = .ok (.getfield 20, 3) := by decide +kernel
theorem d_WD_init_31 : decode b_WD_init 31 = .ok (.arraylength, 1) := by decide +kernel
theorem d_WD_init_32 : decode b_WD_init 32 = .ok (.if_icmp .ge 22, 3) := by decide +kernel
theorem d_WD_init_35 : decode b_WD_init 35 = .ok (.aload_n 0, 1) := by decide +kernel
theorem d_WD_init_36 : decode b_WD_init 36 = .ok (.getfield 20, 3) := by decide +kernel
theorem d_WD_init_39 : decode b_WD_init 39 = .ok (.iload_n 3, 1) := by decide +kernel
theorem d_WD_init_40 : decode b_WD_init 40 = .ok (.new 18, 3) := by decide +kernel
theorem d_WD_init_43 : decode b_WD_init 43 = .ok (.dup, 1) := by decide +kernel
theorem d_WD_init_44 : decode b_WD_init 44 = .ok (.invokespecial 24, 3) := by decide +kernel
theorem d_WD_init_47 : decode b_WD_init 47 = .ok (.aastore, 1) := by decide +kernel
theorem d_WD_init_48 : decode b_WD_init 48 = .ok (.iinc 3 1, 3) := by decide +kernel
theorem d_WD_init_51 : decode b_WD_init 51 = .ok (.goto (-25), 3) := by decide +kernel
theorem d_WD_init_54 : decode b_WD_init 54 = .ok (.aload_n 0, 1) := by decide +kernel
theorem d_WD_init_55 : decode b_WD_init 55 = .ok (.new 25, 3) := by decide +kernel
theorem d_WD_init_58 : decode b_WD_init 58 = .ok (.dup, 1) := by decide +kernel
theorem d_WD_init_59 : decode b_WD_init 59 = .ok (.invokespecial 27, 3) := by decide +kernel
theorem d_WD_init_62 : decode b_WD_init 62 = .ok (.putfield 28, 3) := by decide +kernel
theorem d_WD_init_65 : decode b_WD_init 65 = .ok (.aload_n 0, 1) := by decide +kernel
theorem d_WD_init_66 : decode b_WD_init 66 = .ok (.new 32, 3) := by decide +kernel
theorem d_WD_init_69 : decode b_WD_init 69 = .ok (.dup, 1) := by decide +kernel
theorem d_WD_init_70 : decode b_WD_init 70 = .ok (.invokespecial 34, 3) := by decide +kernel
theorem d_WD_init_73 : decode b_WD_init 73 = .ok (.putfield 35, 3) := by decide +kernel
theorem d_WD_init_76 : decode b_WD_init 76 = .ok (.aload_n 0, 1) := by decide +kernel
theorem d_WD_init_77 : decode b_WD_init 77 = .ok (.new 39, 3) := by decide +kernel
theorem d_WD_init_80 : decode b_WD_init 80 = .ok (.dup, 1) := by decide +kernel
theorem d_WD_init_81 : decode b_WD_init 81 = .ok (.iload_n 2, 1) := by decide +kernel
theorem d_WD_init_82 : decode b_WD_init 82 = .ok (.aload_n 0, 1) := by decide +kernel
theorem d_WD_init_83 : decode b_WD_init 83 = .ok (.getfield 20, 3) := by decide +kernel
theorem d_WD_init_86 : decode b_WD_init 86 = .ok (.iconst 0, 1) := by decide +kernel
theorem d_WD_init_87 : decode b_WD_init 87 = .ok (.aaload, 1) := by decide +kernel
theorem d_WD_init_88 : decode b_WD_init 88 = .ok (.invokespecial 41, 3) := by decide +kernel
theorem d_WD_init_91 : decode b_WD_init 91 = .ok (.putfield 44, 3) := by decide +kernel
theorem d_WD_init_94 : decode b_WD_init 94 = .ok (.aload_n 0, 1) := by decide +kernel
theorem d_WD_init_95 : decode b_WD_init 95 = .ok (.new 48, 3) := by decide +kernel
theorem d_WD_init_98 : decode b_WD_init 98 = .ok (.dup, 1) := by decide +kernel
theorem d_WD_init_99 : decode b_WD_init 99 = .ok (.new 39, 3) := by decide +kernel
theorem d_WD_init_102 : decode b_WD_init 102 = .ok (.dup, 1) := by decide +kernel
theorem d_WD_init_103 : decode b_WD_init 103 = .ok (.iload_n 2, 1) := by decide +kernel
theorem d_WD_init_104 : decode b_WD_init 104 = .ok (.aload_n 0, 1) := by decide +kernel
theorem d_WD_init_105 : decode b_WD_init 105 = .ok (.getfield 20, 3) := by decide +kernel
theorem d_WD_init_108 : decode b_WD_init 108 = .ok (.iconst 0, 1) := by decide +kernel
theorem d_WD_init_109 : decode b_WD_init 109 = .ok (.aaload, 1) := by decide +kernel
theorem d_WD_init_110 : decode b_WD_init 110 = .ok (.invokespecial 41, 3) := by decide +kernel
theorem d_WD_init_113 : decode b_WD_init 113 = .ok (.invokespecial 50, 3) := by decide +kernel
theorem d_WD_init_116 : decode b_WD_init 116 = .ok (.putfield 53, 3) := by decide +kernel
theorem d_WD_init_119 : decode b_WD_init 119 = .ok (.aload_n 0, 1) := by decide +kernel
theorem d_WD_init_120 : decode b_WD_init 120 = .ok (.iconst 0, 1) := by decide +kernel
theorem d_WD_init_121 : decode b_WD_init 121 = .ok (.putfield 57, 3) := by decide +kernel
theorem d_WD_init_124 : decode b_WD_init 124 = .ok (.aload_n 0, 1) := by decide +kernel
theorem d_WD_init_125 : decode b_WD_init 125 = .ok (.iconst 0, 1) := by decide +kernel
theorem d_WD_init_126 : decode b_WD_init 126 = .ok (.putfield 61, 3) := by decide +kernel
theorem d_WD_init_129 : decode b_WD_init 129 = .ok (.aload_n 0, 1) := by decide +kernel
theorem d_WD_init_130 : decode b_WD_init 130 = .ok (.lconst 0, 1) := by decide +kernel
theorem d_WD_init_131 : decode b_WD_init 131 = .ok (.putfield 64, 3) := by decide +kernel
theorem d_WD_init_134 : decode b_WD_init 134 = .ok (.return_, 1) := by decide +kernel
abbrev b_WD_curve : ByteArray := prog_1_method_2_code
def y_WD_curve : MethodName := ⟨"WallDamp", "curve", "(III)I"⟩
def ws_WD_curve : List Cond := .code y_WD_curve b_WD_curve 5 (some (.int)) :: x_tb
theorem pd_WD_curve : y_WD_curve.cls ≠ "java/lang/invoke/MethodHandle" ∧ y_WD_curve.cls ≠ "java/lang/invoke/VarHandle" ∧ (parseMethodDescriptor y_WD_curve.desc).map (fun d => d.parameters.length) = some 3 := by decide +kernel
theorem d_WD_curve_0 : decode b_WD_curve 0 = .ok (.aload_n 0, 1) := by decide +kernel
theorem d_WD_curve_1 : decode b_WD_curve 1 = .ok (.iload_n 1, 1) := by decide +kernel
theorem d_WD_curve_2 : decode b_WD_curve 2 = .ok (.invokevirtual 68, 3) := by decide +kernel
theorem d_WD_curve_5 : decode b_WD_curve 5 = .ok (.astore 4, 2) := by decide +kernel
theorem d_WD_curve_7 : decode b_WD_curve 7 = .ok (.iload_n 2, 1) := by decide +kernel
theorem d_WD_curve_8 : decode b_WD_curve 8 = .ok (.iconst 0, 1) := by decide +kernel
theorem d_WD_curve_9 : decode b_WD_curve 9 = .ok (.ldc 72, 2) := by decide +kernel
theorem d_WD_curve_11 : decode b_WD_curve 11 = .ok (.invokestatic 73, 3) := by decide +kernel
theorem d_WD_curve_14 : decode b_WD_curve 14 = .ok (.iload_n 3, 1) := by decide +kernel
theorem d_WD_curve_15 : decode b_WD_curve 15 = .ok (.iconst 0, 1) := by decide +kernel
theorem d_WD_curve_16 : decode b_WD_curve 16 = .ok (.sipush 10000, 3) := by decide +kernel
theorem d_WD_curve_19 : decode b_WD_curve 19 = .ok (.invokestatic 73, 3) := by decide +kernel
theorem d_WD_curve_22 : decode b_WD_curve 22 = .ok (.aload_n 0, 1) := by decide +kernel
theorem d_WD_curve_23 : decode b_WD_curve 23 = .ok (.invokevirtual 77, 3) := by decide +kernel
theorem d_WD_curve_26 : decode b_WD_curve 26 = .ok (.aload 4, 2) := by decide +kernel
theorem d_WD_curve_28 : decode b_WD_curve 28 = .ok (.getfield 80, 3) := by decide +kernel
theorem d_WD_curve_31 : decode b_WD_curve 31 = .ok (.iload_n 2, 1) := by decide +kernel
theorem d_WD_curve_32 : decode b_WD_curve 32 = .ok (.iload_n 3, 1) := by decide +kernel
theorem d_WD_curve_33 : decode b_WD_curve 33 = .ok (.invokestatic 84, 3) := by decide +kernel
theorem d_WD_curve_36 : decode b_WD_curve 36 = .ok (.ireturn, 1) := by decide +kernel
abbrev b_WD_rates : ByteArray := prog_1_method_3_code
def y_WD_rates : MethodName := ⟨"WallDamp", "rates", "(IIII)V"⟩
def ws_WD_rates : List Cond := .code y_WD_rates b_WD_rates 6 none :: x_tb
theorem pd_WD_rates : y_WD_rates.cls ≠ "java/lang/invoke/MethodHandle" ∧ y_WD_rates.cls ≠ "java/lang/invoke/VarHandle" ∧ (parseMethodDescriptor y_WD_rates.desc).map (fun d => d.parameters.length) = some 4 := by decide +kernel
theorem d_WD_rates_0 : decode b_WD_rates 0 = .ok (.aload_n 0, 1) := by decide +kernel
theorem d_WD_rates_1 : decode b_WD_rates 1 = .ok (.iload_n 1, 1) := by decide +kernel
theorem d_WD_rates_2 : decode b_WD_rates 2 = .ok (.invokevirtual 68, 3) := by decide +kernel
theorem d_WD_rates_5 : decode b_WD_rates 5 = .ok (.astore 5, 2) := by decide +kernel
theorem d_WD_rates_7 : decode b_WD_rates 7 = .ok (.iload_n 2, 1) := by decide +kernel
theorem d_WD_rates_8 : decode b_WD_rates 8 = .ok (.iconst 0, 1) := by decide +kernel
theorem d_WD_rates_9 : decode b_WD_rates 9 = .ok (.sipush 1000, 3) := by decide +kernel
theorem d_WD_rates_12 : decode b_WD_rates 12 = .ok (.invokestatic 73, 3) := by decide +kernel
theorem d_WD_rates_15 : decode b_WD_rates 15 = .ok (.iload_n 3, 1) := by decide +kernel
theorem d_WD_rates_16 : decode b_WD_rates 16 = .ok (.iconst 0, 1) := by decide +kernel
theorem d_WD_rates_17 : decode b_WD_rates 17 = .ok (.sipush 1000, 3) := by decide +kernel
theorem d_WD_rates_20 : decode b_WD_rates 20 = .ok (.invokestatic 73, 3) := by decide +kernel
theorem d_WD_rates_23 : decode b_WD_rates 23 = .ok (.iload 4, 2) := by decide +kernel
theorem d_WD_rates_25 : decode b_WD_rates 25 = .ok (.iconst 1, 1) := by decide +kernel
theorem d_WD_rates_26 : decode b_WD_rates 26 = .ok (.sipush 1000, 3) := by decide +kernel
theorem d_WD_rates_29 : decode b_WD_rates 29 = .ok (.invokestatic 73, 3) := by decide +kernel
theorem d_WD_rates_32 : decode b_WD_rates 32 = .ok (.aload 5, 2) := by decide +kernel
theorem d_WD_rates_34 : decode b_WD_rates 34 = .ok (.iload_n 2, 1) := by decide +kernel
theorem d_WD_rates_35 : decode b_WD_rates 35 = .ok (.putfield 88, 3) := by decide +kernel
theorem d_WD_rates_38 : decode b_WD_rates 38 = .ok (.aload 5, 2) := by decide +kernel
theorem d_WD_rates_40 : decode b_WD_rates 40 = .ok (.iload_n 3, 1) := by decide +kernel
theorem d_WD_rates_41 : decode b_WD_rates 41 = .ok (.putfield 91, 3) := by decide +kernel
theorem d_WD_rates_44 : decode b_WD_rates 44 = .ok (.aload 5, 2) := by decide +kernel
theorem d_WD_rates_46 : decode b_WD_rates 46 = .ok (.iload 4, 2) := by decide +kernel
theorem d_WD_rates_48 : decode b_WD_rates 48 = .ok (.putfield 94, 3) := by decide +kernel
theorem d_WD_rates_51 : decode b_WD_rates 51 = .ok (.return_, 1) := by decide +kernel
abbrev b_WD_cell : ByteArray := prog_1_method_4_code
def y_WD_cell : MethodName := ⟨"WallDamp", "cell", "(III)V"⟩
def ws_WD_cell : List Cond := .code y_WD_cell b_WD_cell 6 none :: x_tb
theorem pd_WD_cell : y_WD_cell.cls ≠ "java/lang/invoke/MethodHandle" ∧ y_WD_cell.cls ≠ "java/lang/invoke/VarHandle" ∧ (parseMethodDescriptor y_WD_cell.desc).map (fun d => d.parameters.length) = some 3 := by decide +kernel
theorem d_WD_cell_0 : decode b_WD_cell 0 = .ok (.aload_n 0, 1) := by decide +kernel
theorem d_WD_cell_1 : decode b_WD_cell 1 = .ok (.iload_n 1, 1) := by decide +kernel
theorem d_WD_cell_2 : decode b_WD_cell 2 = .ok (.invokevirtual 97, 3) := by decide +kernel
theorem d_WD_cell_5 : decode b_WD_cell 5 = .ok (.astore 4, 2) := by decide +kernel
theorem d_WD_cell_7 : decode b_WD_cell 7 = .ok (.aload_n 0, 1) := by decide +kernel
theorem d_WD_cell_8 : decode b_WD_cell 8 = .ok (.iload_n 2, 1) := by decide +kernel
theorem d_WD_cell_9 : decode b_WD_cell 9 = .ok (.invokevirtual 68, 3) := by decide +kernel
theorem d_WD_cell_12 : decode b_WD_cell 12 = .ok (.astore 5, 2) := by decide +kernel
theorem d_WD_cell_14 : decode b_WD_cell 14 = .ok (.iload_n 3, 1) := by decide +kernel
theorem d_WD_cell_15 : decode b_WD_cell 15 = .ok (.iconst 1, 1) := by decide +kernel
theorem d_WD_cell_16 : decode b_WD_cell 16 = .ok (.sipush 1000, 3) := by decide +kernel
theorem d_WD_cell_19 : decode b_WD_cell 19 = .ok (.invokestatic 73, 3) := by decide +kernel
theorem d_WD_cell_22 : decode b_WD_cell 22 = .ok (.aload_n 0, 1) := by decide +kernel
theorem d_WD_cell_23 : decode b_WD_cell 23 = .ok (.invokevirtual 77, 3) := by decide +kernel
theorem d_WD_cell_26 : decode b_WD_cell 26 = .ok (.aload_n 0, 1) := by decide +kernel
theorem d_WD_cell_27 : decode b_WD_cell 27 = .ok (.dup, 1) := by decide +kernel
theorem d_WD_cell_28 : decode b_WD_cell 28 = .ok (.getfield 64, 3) := by decide +kernel
theorem d_WD_cell_31 : decode b_WD_cell 31 = .ok (.aload 4, 2) := by decide +kernel
theorem d_WD_cell_33 : decode b_WD_cell 33 = .ok (.getfield 101, 3) := by decide +kernel
theorem d_WD_cell_36 : decode b_WD_cell 36 = .ok (.i2l, 1) := by decide +kernel
theorem d_WD_cell_37 : decode b_WD_cell 37 = .ok (.lsub, 1) := by decide +kernel
theorem d_WD_cell_38 : decode b_WD_cell 38 = .ok (.putfield 64, 3) := by decide +kernel
theorem d_WD_cell_41 : decode b_WD_cell 41 = .ok (.aload 4, 2) := by decide +kernel
theorem d_WD_cell_43 : decode b_WD_cell 43 = .ok (.iconst 0, 1) := by decide +kernel
theorem d_WD_cell_44 : decode b_WD_cell 44 = .ok (.putfield 101, 3) := by decide +kernel
theorem d_WD_cell_47 : decode b_WD_cell 47 = .ok (.aload 4, 2) := by decide +kernel
theorem d_WD_cell_49 : decode b_WD_cell 49 = .ok (.aload 5, 2) := by decide +kernel
theorem d_WD_cell_51 : decode b_WD_cell 51 = .ok (.putfield 106, 3) := by decide +kernel
theorem d_WD_cell_54 : decode b_WD_cell 54 = .ok (.aload 4, 2) := by decide +kernel
theorem d_WD_cell_56 : decode b_WD_cell 56 = .ok (.iload_n 3, 1) := by decide +kernel
theorem d_WD_cell_57 : decode b_WD_cell 57 = .ok (.putfield 110, 3) := by decide +kernel
theorem d_WD_cell_60 : decode b_WD_cell 60 = .ok (.return_, 1) := by decide +kernel
abbrev b_WD_table : ByteArray := prog_1_method_5_code
def y_WD_table : MethodName := ⟨"WallDamp", "table", "(II)I"⟩
def ws_WD_table : List Cond := .code y_WD_table b_WD_table 3 (some (.int)) :: x_tb
theorem pd_WD_table : y_WD_table.cls ≠ "java/lang/invoke/MethodHandle" ∧ y_WD_table.cls ≠ "java/lang/invoke/VarHandle" ∧ (parseMethodDescriptor y_WD_table.desc).map (fun d => d.parameters.length) = some 2 := by decide +kernel
theorem d_WD_table_0 : decode b_WD_table 0 = .ok (.iload_n 1, 1) := by decide +kernel
theorem d_WD_table_1 : decode b_WD_table 1 = .ok (.sipush (-5000), 3) := by decide +kernel
theorem d_WD_table_4 : decode b_WD_table 4 = .ok (.sipush 10000, 3) := by decide +kernel
theorem d_WD_table_7 : decode b_WD_table 7 = .ok (.invokestatic 73, 3) := by decide +kernel
theorem d_WD_table_10 : decode b_WD_table 10 = .ok (.iload_n 2, 1) := by decide +kernel
theorem d_WD_table_11 : decode b_WD_table 11 = .ok (.iconst 0, 1) := by decide +kernel
theorem d_WD_table_12 : decode b_WD_table 12 = .ok (.ldc 113, 2) := by decide +kernel
theorem d_WD_table_14 : decode b_WD_table 14 = .ok (.invokestatic 73, 3) := by decide +kernel
theorem d_WD_table_17 : decode b_WD_table 17 = .ok (.aload_n 0, 1) := by decide +kernel
theorem d_WD_table_18 : decode b_WD_table 18 = .ok (.getfield 28, 3) := by decide +kernel
theorem d_WD_table_21 : decode b_WD_table 21 = .ok (.getfield 114, 3) := by decide +kernel
theorem d_WD_table_24 : decode b_WD_table 24 = .ok (.iload_n 1, 1) := by decide +kernel
theorem d_WD_table_25 : decode b_WD_table 25 = .ok (.iload_n 2, 1) := by decide +kernel
theorem d_WD_table_26 : decode b_WD_table 26 = .ok (.invokestatic 84, 3) := by decide +kernel
theorem d_WD_table_29 : decode b_WD_table 29 = .ok (.ireturn, 1) := by decide +kernel
abbrev b_WD_full : ByteArray := prog_1_method_6_code
def y_WD_full : MethodName := ⟨"WallDamp", "full", "(I)I"⟩
def ws_WD_full : List Cond := .code y_WD_full b_WD_full 2 (some (.int)) :: x_tb
theorem pd_WD_full : y_WD_full.cls ≠ "java/lang/invoke/MethodHandle" ∧ y_WD_full.cls ≠ "java/lang/invoke/VarHandle" ∧ (parseMethodDescriptor y_WD_full.desc).map (fun d => d.parameters.length) = some 1 := by decide +kernel
theorem d_WD_full_0 : decode b_WD_full 0 = .ok (.iload_n 1, 1) := by decide +kernel
theorem d_WD_full_1 : decode b_WD_full 1 = .ok (.sipush (-5000), 3) := by decide +kernel
theorem d_WD_full_4 : decode b_WD_full 4 = .ok (.sipush 10000, 3) := by decide +kernel
theorem d_WD_full_7 : decode b_WD_full 7 = .ok (.invokestatic 73, 3) := by decide +kernel
theorem d_WD_full_10 : decode b_WD_full 10 = .ok (.aload_n 0, 1) := by decide +kernel
theorem d_WD_full_11 : decode b_WD_full 11 = .ok (.getfield 28, 3) := by decide +kernel
theorem d_WD_full_14 : decode b_WD_full 14 = .ok (.getfield 114, 3) := by decide +kernel
theorem d_WD_full_17 : decode b_WD_full 17 = .ok (.iload_n 1, 1) := by decide +kernel
theorem d_WD_full_18 : decode b_WD_full 18 = .ok (.invokevirtual 117, 3) := by decide +kernel
theorem d_WD_full_21 : decode b_WD_full 21 = .ok (.ireturn, 1) := by decide +kernel
abbrev b_WD_films : ByteArray := prog_1_method_7_code
def y_WD_films : MethodName := ⟨"WallDamp", "films", "(II)V"⟩
def ws_WD_films : List Cond := .code y_WD_films b_WD_films 3 none :: x_tb
theorem pd_WD_films : y_WD_films.cls ≠ "java/lang/invoke/MethodHandle" ∧ y_WD_films.cls ≠ "java/lang/invoke/VarHandle" ∧ (parseMethodDescriptor y_WD_films.desc).map (fun d => d.parameters.length) = some 2 := by decide +kernel
theorem d_WD_films_0 : decode b_WD_films 0 = .ok (.iload_n 1, 1) := by decide +kernel
theorem d_WD_films_1 : decode b_WD_films 1 = .ok (.iconst 0, 1) := by decide +kernel
theorem d_WD_films_2 : decode b_WD_films 2 = .ok (.sipush 1000, 3) := by decide +kernel
theorem d_WD_films_5 : decode b_WD_films 5 = .ok (.invokestatic 73, 3) := by decide +kernel
theorem d_WD_films_8 : decode b_WD_films 8 = .ok (.iload_n 2, 1) := by decide +kernel
theorem d_WD_films_9 : decode b_WD_films 9 = .ok (.iconst 0, 1) := by decide +kernel
theorem d_WD_films_10 : decode b_WD_films 10 = .ok (.sipush 1000, 3) := by decide +kernel
theorem d_WD_films_13 : decode b_WD_films 13 = .ok (.invokestatic 73, 3) := by decide +kernel
theorem d_WD_films_16 : decode b_WD_films 16 = .ok (.aload_n 0, 1) := by decide +kernel
theorem d_WD_films_17 : decode b_WD_films 17 = .ok (.getfield 28, 3) := by decide +kernel
theorem d_WD_films_20 : decode b_WD_films 20 = .ok (.iload_n 1, 1) := by decide +kernel
theorem d_WD_films_21 : decode b_WD_films 21 = .ok (.putfield 123, 3) := by decide +kernel
theorem d_WD_films_24 : decode b_WD_films 24 = .ok (.aload_n 0, 1) := by decide +kernel
theorem d_WD_films_25 : decode b_WD_films 25 = .ok (.getfield 28, 3) := by decide +kernel
theorem d_WD_films_28 : decode b_WD_films 28 = .ok (.iload_n 2, 1) := by decide +kernel
theorem d_WD_films_29 : decode b_WD_films 29 = .ok (.putfield 126, 3) := by decide +kernel
theorem d_WD_films_32 : decode b_WD_films 32 = .ok (.return_, 1) := by decide +kernel
abbrev b_WD_outside : ByteArray := prog_1_method_8_code
def y_WD_outside : MethodName := ⟨"WallDamp", "outside", "(IIIII)V"⟩
def ws_WD_outside : List Cond := .code y_WD_outside b_WD_outside 6 none :: x_tb
theorem pd_WD_outside : y_WD_outside.cls ≠ "java/lang/invoke/MethodHandle" ∧ y_WD_outside.cls ≠ "java/lang/invoke/VarHandle" ∧ (parseMethodDescriptor y_WD_outside.desc).map (fun d => d.parameters.length) = some 5 := by decide +kernel
theorem d_WD_outside_0 : decode b_WD_outside 0 = .ok (.iload_n 1, 1) := by decide +kernel
theorem d_WD_outside_1 : decode b_WD_outside 1 = .ok (.iload_n 2, 1) := by decide +kernel
theorem d_WD_outside_2 : decode b_WD_outside 2 = .ok (.iload_n 3, 1) := by decide +kernel
theorem d_WD_outside_3 : decode b_WD_outside 3 = .ok (.invokestatic 129, 3) := by decide +kernel
theorem d_WD_outside_6 : decode b_WD_outside 6 = .ok (.iload 4, 2) := by decide +kernel
theorem d_WD_outside_8 : decode b_WD_outside 8 = .ok (.iconst 0, 1) := by decide +kernel
theorem d_WD_outside_9 : decode b_WD_outside 9 = .ok (.sipush 1000, 3) := by decide +kernel
theorem d_WD_outside_12 : decode b_WD_outside 12 = .ok (.invokestatic 73, 3) := by decide +kernel
theorem d_WD_outside_15 : decode b_WD_outside 15 = .ok (.iload 5, 2) := by decide +kernel
theorem d_WD_outside_17 : decode b_WD_outside 17 = .ok (.iconst 0, 1) := by decide +kernel
theorem d_WD_outside_18 : decode b_WD_outside 18 = .ok (.sipush 1000, 3) := by decide +kernel
theorem d_WD_outside_21 : decode b_WD_outside 21 = .ok (.invokestatic 73, 3) := by decide +kernel
theorem d_WD_outside_24 : decode b_WD_outside 24 = .ok (.aload_n 0, 1) := by decide +kernel
theorem d_WD_outside_25 : decode b_WD_outside 25 = .ok (.getfield 28, 3) := by decide +kernel
theorem d_WD_outside_28 : decode b_WD_outside 28 = .ok (.getfield 132, 3) := by decide +kernel
theorem d_WD_outside_31 : decode b_WD_outside 31 = .ok (.iload_n 1, 1) := by decide +kernel
theorem d_WD_outside_32 : decode b_WD_outside 32 = .ok (.iload_n 2, 1) := by decide +kernel
theorem d_WD_outside_33 : decode b_WD_outside 33 = .ok (.iastore, 1) := by decide +kernel
theorem d_WD_outside_34 : decode b_WD_outside 34 = .ok (.aload_n 0, 1) := by decide +kernel
theorem d_WD_outside_35 : decode b_WD_outside 35 = .ok (.getfield 28, 3) := by decide +kernel
theorem d_WD_outside_38 : decode b_WD_outside 38 = .ok (.getfield 136, 3) := by decide +kernel
theorem d_WD_outside_41 : decode b_WD_outside 41 = .ok (.iload_n 1, 1) := by decide +kernel
theorem d_WD_outside_42 : decode b_WD_outside 42 = .ok (.iload_n 3, 1) := by decide +kernel
theorem d_WD_outside_43 : decode b_WD_outside 43 = .ok (.iastore, 1) := by decide +kernel
theorem d_WD_outside_44 : decode b_WD_outside 44 = .ok (.aload_n 0, 1) := by decide +kernel
theorem d_WD_outside_45 : decode b_WD_outside 45 = .ok (.getfield 28, 3) := by decide +kernel
theorem d_WD_outside_48 : decode b_WD_outside 48 = .ok (.getfield 139, 3) := by decide +kernel
theorem d_WD_outside_51 : decode b_WD_outside 51 = .ok (.iload_n 1, 1) := by decide +kernel
theorem d_WD_outside_52 : decode b_WD_outside 52 = .ok (.iload 4, 2) := by decide +kernel
theorem d_WD_outside_54 : decode b_WD_outside 54 = .ok (.iastore, 1) := by decide +kernel
theorem d_WD_outside_55 : decode b_WD_outside 55 = .ok (.aload_n 0, 1) := by decide +kernel
theorem d_WD_outside_56 : decode b_WD_outside 56 = .ok (.getfield 28, 3) := by decide +kernel
theorem d_WD_outside_59 : decode b_WD_outside 59 = .ok (.getfield 142, 3) := by decide +kernel
theorem d_WD_outside_62 : decode b_WD_outside 62 = .ok (.iload_n 1, 1) := by decide +kernel
theorem d_WD_outside_63 : decode b_WD_outside 63 = .ok (.iload 5, 2) := by decide +kernel
theorem d_WD_outside_65 : decode b_WD_outside 65 = .ok (.iastore, 1) := by decide +kernel
theorem d_WD_outside_66 : decode b_WD_outside 66 = .ok (.return_, 1) := by decide +kernel
abbrev b_WD_inside : ByteArray := prog_1_method_9_code
def y_WD_inside : MethodName := ⟨"WallDamp", "inside", "(III)V"⟩
def ws_WD_inside : List Cond := .code y_WD_inside b_WD_inside 4 none :: x_tb
theorem pd_WD_inside : y_WD_inside.cls ≠ "java/lang/invoke/MethodHandle" ∧ y_WD_inside.cls ≠ "java/lang/invoke/VarHandle" ∧ (parseMethodDescriptor y_WD_inside.desc).map (fun d => d.parameters.length) = some 3 := by decide +kernel
theorem d_WD_inside_0 : decode b_WD_inside 0 = .ok (.iload_n 1, 1) := by decide +kernel
theorem d_WD_inside_1 : decode b_WD_inside 1 = .ok (.iload_n 2, 1) := by decide +kernel
theorem d_WD_inside_2 : decode b_WD_inside 2 = .ok (.iload_n 3, 1) := by decide +kernel
theorem d_WD_inside_3 : decode b_WD_inside 3 = .ok (.invokestatic 129, 3) := by decide +kernel
theorem d_WD_inside_6 : decode b_WD_inside 6 = .ok (.aload_n 0, 1) := by decide +kernel
theorem d_WD_inside_7 : decode b_WD_inside 7 = .ok (.getfield 28, 3) := by decide +kernel
theorem d_WD_inside_10 : decode b_WD_inside 10 = .ok (.getfield 145, 3) := by decide +kernel
theorem d_WD_inside_13 : decode b_WD_inside 13 = .ok (.iload_n 1, 1) := by decide +kernel
theorem d_WD_inside_14 : decode b_WD_inside 14 = .ok (.iload_n 2, 1) := by decide +kernel
theorem d_WD_inside_15 : decode b_WD_inside 15 = .ok (.iastore, 1) := by decide +kernel
theorem d_WD_inside_16 : decode b_WD_inside 16 = .ok (.aload_n 0, 1) := by decide +kernel
theorem d_WD_inside_17 : decode b_WD_inside 17 = .ok (.getfield 28, 3) := by decide +kernel
theorem d_WD_inside_20 : decode b_WD_inside 20 = .ok (.getfield 148, 3) := by decide +kernel
theorem d_WD_inside_23 : decode b_WD_inside 23 = .ok (.iload_n 1, 1) := by decide +kernel
theorem d_WD_inside_24 : decode b_WD_inside 24 = .ok (.iload_n 3, 1) := by decide +kernel
theorem d_WD_inside_25 : decode b_WD_inside 25 = .ok (.iastore, 1) := by decide +kernel
theorem d_WD_inside_26 : decode b_WD_inside 26 = .ok (.return_, 1) := by decide +kernel
abbrev b_WD_water : ByteArray := prog_1_method_10_code
def y_WD_water : MethodName := ⟨"WallDamp", "water", "(II)I"⟩
def ws_WD_water : List Cond := .code y_WD_water b_WD_water 5 (some (.int)) :: x_tb
theorem pd_WD_water : y_WD_water.cls ≠ "java/lang/invoke/MethodHandle" ∧ y_WD_water.cls ≠ "java/lang/invoke/VarHandle" ∧ (parseMethodDescriptor y_WD_water.desc).map (fun d => d.parameters.length) = some 2 := by decide +kernel
theorem d_WD_water_0 : decode b_WD_water 0 = .ok (.aload_n 0, 1) := by decide +kernel
theorem d_WD_water_1 : decode b_WD_water 1 = .ok (.iload_n 1, 1) := by decide +kernel
theorem d_WD_water_2 : decode b_WD_water 2 = .ok (.invokevirtual 97, 3) := by decide +kernel
theorem d_WD_water_5 : decode b_WD_water 5 = .ok (.astore_n 3, 1) := by decide +kernel
theorem d_WD_water_6 : decode b_WD_water 6 = .ok (.iload_n 2, 1) := by decide +kernel
theorem d_WD_water_7 : decode b_WD_water 7 = .ok (.iconst 0, 1) := by decide +kernel
theorem d_WD_water_8 : decode b_WD_water 8 = .ok (.aload_n 3, 1) := by decide +kernel
theorem d_WD_water_9 : decode b_WD_water 9 = .ok (.getfield 106, 3) := by decide +kernel
theorem d_WD_water_12 : decode b_WD_water 12 = .ok (.invokevirtual 151, 3) := by decide +kernel
theorem d_WD_water_15 : decode b_WD_water 15 = .ok (.invokestatic 73, 3) := by decide +kernel
theorem d_WD_water_18 : decode b_WD_water 18 = .ok (.aload_n 3, 1) := by decide +kernel
theorem d_WD_water_19 : decode b_WD_water 19 = .ok (.getfield 101, 3) := by decide +kernel
theorem d_WD_water_22 : decode b_WD_water 22 = .ok (.istore 4, 2) := by decide +kernel
theorem d_WD_water_24 : decode b_WD_water 24 = .ok (.aload_n 0, 1) := by decide +kernel
theorem d_WD_water_25 : decode b_WD_water 25 = .ok (.dup, 1) := by decide +kernel
theorem d_WD_water_26 : decode b_WD_water 26 = .ok (.getfield 64, 3) := by decide +kernel
theorem d_WD_water_29 : decode b_WD_water 29 = .ok (.iload_n 2, 1) := by decide +kernel
theorem d_WD_water_30 : decode b_WD_water 30 = .ok (.iload 4, 2) := by decide +kernel
theorem d_WD_water_32 : decode b_WD_water 32 = .ok (.isub, 1) := by decide +kernel
theorem d_WD_water_33 : decode b_WD_water 33 = .ok (.i2l, 1) := by decide +kernel
theorem d_WD_water_34 : decode b_WD_water 34 = .ok (.ladd, 1) := by decide +kernel
theorem d_WD_water_35 : decode b_WD_water 35 = .ok (.putfield 64, 3) := by decide +kernel
theorem d_WD_water_38 : decode b_WD_water 38 = .ok (.aload_n 3, 1) := by decide +kernel
theorem d_WD_water_39 : decode b_WD_water 39 = .ok (.iload_n 2, 1) := by decide +kernel
theorem d_WD_water_40 : decode b_WD_water 40 = .ok (.putfield 101, 3) := by decide +kernel
theorem d_WD_water_43 : decode b_WD_water 43 = .ok (.iload 4, 2) := by decide +kernel
theorem d_WD_water_45 : decode b_WD_water 45 = .ok (.ireturn, 1) := by decide +kernel
abbrev b_WD_leak : ByteArray := prog_1_method_11_code
def y_WD_leak : MethodName := ⟨"WallDamp", "leak", "(II)I"⟩
def ws_WD_leak : List Cond := .code y_WD_leak b_WD_leak 5 (some (.int)) :: x_tb
theorem pd_WD_leak : y_WD_leak.cls ≠ "java/lang/invoke/MethodHandle" ∧ y_WD_leak.cls ≠ "java/lang/invoke/VarHandle" ∧ (parseMethodDescriptor y_WD_leak.desc).map (fun d => d.parameters.length) = some 2 := by decide +kernel
theorem d_WD_leak_0 : decode b_WD_leak 0 = .ok (.aload_n 0, 1) := by decide +kernel
theorem d_WD_leak_1 : decode b_WD_leak 1 = .ok (.iload_n 1, 1) := by decide +kernel
theorem d_WD_leak_2 : decode b_WD_leak 2 = .ok (.invokevirtual 97, 3) := by decide +kernel
theorem d_WD_leak_5 : decode b_WD_leak 5 = .ok (.astore_n 3, 1) := by decide +kernel
theorem d_WD_leak_6 : decode b_WD_leak 6 = .ok (.iload_n 2, 1) := by decide +kernel
theorem d_WD_leak_7 : decode b_WD_leak 7 = .ok (.iconst 0, 1) := by decide +kernel
theorem d_WD_leak_8 : decode b_WD_leak 8 = .ok (.sipush 1000, 3) := by decide +kernel
theorem d_WD_leak_11 : decode b_WD_leak 11 = .ok (.invokestatic 73, 3) := by decide +kernel
theorem d_WD_leak_14 : decode b_WD_leak 14 = .ok (.aload_n 3, 1) := by decide +kernel
theorem d_WD_leak_15 : decode b_WD_leak 15 = .ok (.getfield 155, 3) := by decide +kernel
theorem d_WD_leak_18 : decode b_WD_leak 18 = .ok (.istore 4, 2) := by decide +kernel
theorem d_WD_leak_20 : decode b_WD_leak 20 = .ok (.aload_n 3, 1) := by decide +kernel
theorem d_WD_leak_21 : decode b_WD_leak 21 = .ok (.iload_n 2, 1) := by decide +kernel
theorem d_WD_leak_22 : decode b_WD_leak 22 = .ok (.putfield 155, 3) := by decide +kernel
theorem d_WD_leak_25 : decode b_WD_leak 25 = .ok (.iload 4, 2) := by decide +kernel
theorem d_WD_leak_27 : decode b_WD_leak 27 = .ok (.ireturn, 1) := by decide +kernel
abbrev b_WD_growth : ByteArray := prog_1_method_12_code
def y_WD_growth : MethodName := ⟨"WallDamp", "growth", "(IIII)I"⟩
def ws_WD_growth : List Cond := .code y_WD_growth b_WD_growth 5 (some (.int)) :: x_tb
theorem pd_WD_growth : y_WD_growth.cls ≠ "java/lang/invoke/MethodHandle" ∧ y_WD_growth.cls ≠ "java/lang/invoke/VarHandle" ∧ (parseMethodDescriptor y_WD_growth.desc).map (fun d => d.parameters.length) = some 4 := by decide +kernel
theorem d_WD_growth_0 : decode b_WD_growth 0 = .ok (.iload_n 1, 1) := by decide +kernel
theorem d_WD_growth_1 : decode b_WD_growth 1 = .ok (.iconst 0, 1) := by decide +kernel
theorem d_WD_growth_2 : decode b_WD_growth 2 = .ok (.sipush 10000, 3) := by decide +kernel
theorem d_WD_growth_5 : decode b_WD_growth 5 = .ok (.invokestatic 73, 3) := by decide +kernel
theorem d_WD_growth_8 : decode b_WD_growth 8 = .ok (.iload_n 3, 1) := by decide +kernel
theorem d_WD_growth_9 : decode b_WD_growth 9 = .ok (.sipush (-5000), 3) := by decide +kernel
theorem d_WD_growth_12 : decode b_WD_growth 12 = .ok (.sipush 10000, 3) := by decide +kernel
theorem d_WD_growth_15 : decode b_WD_growth 15 = .ok (.invokestatic 73, 3) := by decide +kernel
theorem d_WD_growth_18 : decode b_WD_growth 18 = .ok (.iload_n 2, 1) := by decide +kernel
theorem d_WD_growth_19 : decode b_WD_growth 19 = .ok (.sipush (-5000), 3) := by decide +kernel
theorem d_WD_growth_22 : decode b_WD_growth 22 = .ok (.iload_n 3, 1) := by decide +kernel
theorem d_WD_growth_23 : decode b_WD_growth 23 = .ok (.invokestatic 73, 3) := by decide +kernel
theorem d_WD_growth_26 : decode b_WD_growth 26 = .ok (.iload 4, 2) := by decide +kernel
theorem d_WD_growth_28 : decode b_WD_growth 28 = .ok (.iconst 1, 1) := by decide +kernel
theorem d_WD_growth_29 : decode b_WD_growth 29 = .ok (.sipush 1000, 3) := by decide +kernel
theorem d_WD_growth_32 : decode b_WD_growth 32 = .ok (.invokestatic 73, 3) := by decide +kernel
theorem d_WD_growth_35 : decode b_WD_growth 35 = .ok (.aload_n 0, 1) := by decide +kernel
theorem d_WD_growth_36 : decode b_WD_growth 36 = .ok (.getfield 35, 3) := by decide +kernel
theorem d_WD_growth_39 : decode b_WD_growth 39 = .ok (.invokevirtual 158, 3) := by decide +kernel
theorem d_WD_growth_42 : decode b_WD_growth 42 = .ok (.ifCond .ne 13, 3) := by decide +kernel
theorem d_WD_growth_45 : decode b_WD_growth 45 = .ok (.new 162, 3) := by decide +kernel
theorem d_WD_growth_48 : decode b_WD_growth 48 = .ok (.dup, 1) := by decide +kernel
theorem d_WD_growth_49 : decode b_WD_growth 49 = .ok (.ldc 164, 2) := by decide +kernel
theorem d_WD_growth_51 : decode b_WD_growth 51 = .ok (.invokespecial 166, 3) := by decide +kernel
theorem d_WD_growth_54 : decode b_WD_growth 54 = .ok (.athrow, 1) := by decide +kernel
theorem d_WD_growth_55 : decode b_WD_growth 55 = .ok (.aload_n 0, 1) := by decide +kernel
theorem d_WD_growth_56 : decode b_WD_growth 56 = .ok (.getfield 35, 3) := by decide +kernel
theorem d_WD_growth_59 : decode b_WD_growth 59 = .ok (.iload_n 1, 1) := by decide +kernel
theorem d_WD_growth_60 : decode b_WD_growth 60 = .ok (.iload_n 2, 1) := by decide +kernel
theorem d_WD_growth_61 : decode b_WD_growth 61 = .ok (.iload_n 3, 1) := by decide +kernel
theorem d_WD_growth_62 : decode b_WD_growth 62 = .ok (.iload 4, 2) := by decide +kernel
theorem d_WD_growth_64 : decode b_WD_growth 64 = .ok (.invokevirtual 169, 3) := by decide +kernel
theorem d_WD_growth_67 : decode b_WD_growth 67 = .ok (.ireturn, 1) := by decide +kernel
abbrev b_WD_run : ByteArray := prog_1_method_13_code
def y_WD_run : MethodName := ⟨"WallDamp", "run", "(I)I"⟩
def ws_WD_run : List Cond := .code y_WD_run b_WD_run 3 (some (.int)) :: x_tb
theorem pd_WD_run : y_WD_run.cls ≠ "java/lang/invoke/MethodHandle" ∧ y_WD_run.cls ≠ "java/lang/invoke/VarHandle" ∧ (parseMethodDescriptor y_WD_run.desc).map (fun d => d.parameters.length) = some 1 := by decide +kernel
theorem d_WD_run_0 : decode b_WD_run 0 = .ok (.iload_n 1, 1) := by decide +kernel
theorem d_WD_run_1 : decode b_WD_run 1 = .ok (.iconst 1, 1) := by decide +kernel
theorem d_WD_run_2 : decode b_WD_run 2 = .ok (.sipush 240, 3) := by decide +kernel
theorem d_WD_run_5 : decode b_WD_run 5 = .ok (.invokestatic 73, 3) := by decide +kernel
theorem d_WD_run_8 : decode b_WD_run 8 = .ok (.aload_n 0, 1) := by decide +kernel
theorem d_WD_run_9 : decode b_WD_run 9 = .ok (.getfield 57, 3) := by decide +kernel
theorem d_WD_run_12 : decode b_WD_run 12 = .ok (.iload_n 1, 1) := by decide +kernel
theorem d_WD_run_13 : decode b_WD_run 13 = .ok (.iadd, 1) := by decide +kernel
theorem d_WD_run_14 : decode b_WD_run 14 = .ok (.sipush 10000, 3) := by decide +kernel
theorem d_WD_run_17 : decode b_WD_run 17 = .ok (.if_icmp .le 13, 3) := by decide +kernel
theorem d_WD_run_20 : decode b_WD_run 20 = .ok (.new 162, 3) := by decide +kernel
theorem d_WD_run_23 : decode b_WD_run 23 = .ok (.dup, 1) := by decide +kernel
theorem d_WD_run_24 : decode b_WD_run 24 = .ok (.ldc 173, 2) := by decide +kernel
theorem d_WD_run_26 : decode b_WD_run 26 = .ok (.invokespecial 166, 3) := by decide +kernel
theorem d_WD_run_29 : decode b_WD_run 29 = .ok (.athrow, 1) := by decide +kernel
theorem d_WD_run_30 : decode b_WD_run 30 = .ok (.iconst 0, 1) := by decide +kernel
theorem d_WD_run_31 : decode b_WD_run 31 = .ok (.istore_n 2, 1) := by decide +kernel
theorem d_WD_run_32 : decode b_WD_run 32 = .ok (.iload_n 2, 1) := by decide +kernel
theorem d_WD_run_33 : decode b_WD_run 33 = .ok (.iload_n 1, 1) := by decide +kernel
theorem d_WD_run_34 : decode b_WD_run 34 = .ok (.if_icmp .ge 13, 3) := by decide +kernel
theorem d_WD_run_37 : decode b_WD_run 37 = .ok (.aload_n 0, 1) := by decide +kernel
theorem d_WD_run_38 : decode b_WD_run 38 = .ok (.invokevirtual 175, 3) := by decide +kernel
theorem d_WD_run_41 : decode b_WD_run 41 = .ok (.iinc 2 1, 3) := by decide +kernel
theorem d_WD_run_44 : decode b_WD_run 44 = .ok (.goto (-12), 3) := by decide +kernel
theorem d_WD_run_47 : decode b_WD_run 47 = .ok (.aload_n 0, 1) := by decide +kernel
theorem d_WD_run_48 : decode b_WD_run 48 = .ok (.getfield 57, 3) := by decide +kernel
theorem d_WD_run_51 : decode b_WD_run 51 = .ok (.ireturn, 1) := by decide +kernel
abbrev b_WD_told : ByteArray := prog_1_method_14_code
def y_WD_told : MethodName := ⟨"WallDamp", "told", "(II)I"⟩
def ws_WD_told : List Cond := .code y_WD_told b_WD_told 4 (some (.int)) :: x_tb
theorem pd_WD_told : y_WD_told.cls ≠ "java/lang/invoke/MethodHandle" ∧ y_WD_told.cls ≠ "java/lang/invoke/VarHandle" ∧ (parseMethodDescriptor y_WD_told.desc).map (fun d => d.parameters.length) = some 2 := by decide +kernel
theorem d_WD_told_0 : decode b_WD_told 0 = .ok (.aload_n 0, 1) := by decide +kernel
theorem d_WD_told_1 : decode b_WD_told 1 = .ok (.iload_n 1, 1) := by decide +kernel
theorem d_WD_told_2 : decode b_WD_told 2 = .ok (.invokevirtual 97, 3) := by decide +kernel
theorem d_WD_told_5 : decode b_WD_told 5 = .ok (.astore_n 3, 1) := by decide +kernel
theorem d_WD_told_6 : decode b_WD_told 6 = .ok (.iload_n 2, 1) := by decide +kernel
theorem d_WD_told_7 : decode b_WD_told 7 = .ok (.iconst 0, 1) := by decide +kernel
theorem d_WD_told_8 : decode b_WD_told 8 = .ok (.iconst 5, 1) := by decide +kernel
theorem d_WD_told_9 : decode b_WD_told 9 = .ok (.invokestatic 73, 3) := by decide +kernel
theorem d_WD_told_12 : decode b_WD_told 12 = .ok (.iload_n 2, 1) := by decide +kernel
theorem d_WD_told_13 : decode b_WD_told 13 = .ok (.tableswitch 68 0 4 #[35, 40, 45, 50, 55], 35) := by decide +kernel
theorem d_WD_told_48 : decode b_WD_told 48 = .ok (.aload_n 3, 1) := by decide +kernel
theorem d_WD_told_49 : decode b_WD_told 49 = .ok (.getfield 101, 3) := by decide +kernel
theorem d_WD_told_52 : decode b_WD_told 52 = .ok (.ireturn, 1) := by decide +kernel
theorem d_WD_told_53 : decode b_WD_told 53 = .ok (.aload_n 3, 1) := by decide +kernel
theorem d_WD_told_54 : decode b_WD_told 54 = .ok (.invokevirtual 178, 3) := by decide +kernel
theorem d_WD_told_57 : decode b_WD_told 57 = .ok (.ireturn, 1) := by decide +kernel
theorem d_WD_told_58 : decode b_WD_told 58 = .ok (.aload_n 3, 1) := by decide +kernel
theorem d_WD_told_59 : decode b_WD_told 59 = .ok (.getfield 181, 3) := by decide +kernel
theorem d_WD_told_62 : decode b_WD_told 62 = .ok (.ireturn, 1) := by decide +kernel
theorem d_WD_told_63 : decode b_WD_told 63 = .ok (.aload_n 3, 1) := by decide +kernel
theorem d_WD_told_64 : decode b_WD_told 64 = .ok (.getfield 184, 3) := by decide +kernel
theorem d_WD_told_67 : decode b_WD_told 67 = .ok (.ireturn, 1) := by decide +kernel
theorem d_WD_told_68 : decode b_WD_told 68 = .ok (.aload_n 3, 1) := by decide +kernel
theorem d_WD_told_69 : decode b_WD_told 69 = .ok (.getfield 187, 3) := by decide +kernel
theorem d_WD_told_72 : decode b_WD_told 72 = .ok (.ifCond .eq 7, 3) := by decide +kernel
theorem d_WD_told_75 : decode b_WD_told 75 = .ok (.iconst 1, 1) := by decide +kernel
theorem d_WD_told_76 : decode b_WD_told 76 = .ok (.goto 4, 3) := by decide +kernel
theorem d_WD_told_79 : decode b_WD_told 79 = .ok (.iconst 0, 1) := by decide +kernel
theorem d_WD_told_80 : decode b_WD_told 80 = .ok (.ireturn, 1) := by decide +kernel
theorem d_WD_told_81 : decode b_WD_told 81 = .ok (.aload_n 3, 1) := by decide +kernel
theorem d_WD_told_82 : decode b_WD_told 82 = .ok (.getfield 191, 3) := by decide +kernel
theorem d_WD_told_85 : decode b_WD_told 85 = .ok (.ireturn, 1) := by decide +kernel
abbrev b_WD_balance : ByteArray := prog_1_method_15_code
def y_WD_balance : MethodName := ⟨"WallDamp", "balance", "(I)J"⟩
def ws_WD_balance : List Cond := .code y_WD_balance b_WD_balance 2 (some (.long)) :: x_tb
theorem pd_WD_balance : y_WD_balance.cls ≠ "java/lang/invoke/MethodHandle" ∧ y_WD_balance.cls ≠ "java/lang/invoke/VarHandle" ∧ (parseMethodDescriptor y_WD_balance.desc).map (fun d => d.parameters.length) = some 1 := by decide +kernel
theorem d_WD_balance_0 : decode b_WD_balance 0 = .ok (.iload_n 1, 1) := by decide +kernel
theorem d_WD_balance_1 : decode b_WD_balance 1 = .ok (.iconst 0, 1) := by decide +kernel
theorem d_WD_balance_2 : decode b_WD_balance 2 = .ok (.iconst 5, 1) := by decide +kernel
theorem d_WD_balance_3 : decode b_WD_balance 3 = .ok (.invokestatic 73, 3) := by decide +kernel
theorem d_WD_balance_6 : decode b_WD_balance 6 = .ok (.iload_n 1, 1) := by decide +kernel
theorem d_WD_balance_7 : decode b_WD_balance 7 = .ok (.tableswitch 85 0 4 #[33, 41, 52, 63, 74], 33) := by decide +kernel
theorem d_WD_balance_40 : decode b_WD_balance 40 = .ok (.aload_n 0, 1) := by decide +kernel
theorem d_WD_balance_41 : decode b_WD_balance 41 = .ok (.getfield 44, 3) := by decide +kernel
theorem d_WD_balance_44 : decode b_WD_balance 44 = .ok (.invokevirtual 194, 3) := by decide +kernel
theorem d_WD_balance_47 : decode b_WD_balance 47 = .ok (.lreturn, 1) := by decide +kernel
theorem d_WD_balance_48 : decode b_WD_balance 48 = .ok (.aload_n 0, 1) := by decide +kernel
theorem d_WD_balance_49 : decode b_WD_balance 49 = .ok (.getfield 44, 3) := by decide +kernel
theorem d_WD_balance_52 : decode b_WD_balance 52 = .ok (.getfield 198, 3) := by decide +kernel
theorem d_WD_balance_55 : decode b_WD_balance 55 = .ok (.getfield 202, 3) := by decide +kernel
theorem d_WD_balance_58 : decode b_WD_balance 58 = .ok (.lreturn, 1) := by decide +kernel
theorem d_WD_balance_59 : decode b_WD_balance 59 = .ok (.aload_n 0, 1) := by decide +kernel
theorem d_WD_balance_60 : decode b_WD_balance 60 = .ok (.getfield 44, 3) := by decide +kernel
theorem d_WD_balance_63 : decode b_WD_balance 63 = .ok (.getfield 207, 3) := by decide +kernel
theorem d_WD_balance_66 : decode b_WD_balance 66 = .ok (.getfield 202, 3) := by decide +kernel
theorem d_WD_balance_69 : decode b_WD_balance 69 = .ok (.lreturn, 1) := by decide +kernel
theorem d_WD_balance_70 : decode b_WD_balance 70 = .ok (.aload_n 0, 1) := by decide +kernel
theorem d_WD_balance_71 : decode b_WD_balance 71 = .ok (.getfield 44, 3) := by decide +kernel
theorem d_WD_balance_74 : decode b_WD_balance 74 = .ok (.getfield 198, 3) := by decide +kernel
theorem d_WD_balance_77 : decode b_WD_balance 77 = .ok (.getfield 210, 3) := by decide +kernel
theorem d_WD_balance_80 : decode b_WD_balance 80 = .ok (.lreturn, 1) := by decide +kernel
theorem d_WD_balance_81 : decode b_WD_balance 81 = .ok (.aload_n 0, 1) := by decide +kernel
theorem d_WD_balance_82 : decode b_WD_balance 82 = .ok (.getfield 44, 3) := by decide +kernel
theorem d_WD_balance_85 : decode b_WD_balance 85 = .ok (.getfield 207, 3) := by decide +kernel
theorem d_WD_balance_88 : decode b_WD_balance 88 = .ok (.getfield 210, 3) := by decide +kernel
theorem d_WD_balance_91 : decode b_WD_balance 91 = .ok (.lreturn, 1) := by decide +kernel
theorem d_WD_balance_92 : decode b_WD_balance 92 = .ok (.aload_n 0, 1) := by decide +kernel
theorem d_WD_balance_93 : decode b_WD_balance 93 = .ok (.getfield 64, 3) := by decide +kernel
theorem d_WD_balance_96 : decode b_WD_balance 96 = .ok (.lreturn, 1) := by decide +kernel
abbrev b_WD_mould : ByteArray := prog_1_method_16_code
def y_WD_mould : MethodName := ⟨"WallDamp", "mould", "()I"⟩
def ws_WD_mould : List Cond := .code y_WD_mould b_WD_mould 1 (some (.int)) :: x_tb
theorem pd_WD_mould : y_WD_mould.cls ≠ "java/lang/invoke/MethodHandle" ∧ y_WD_mould.cls ≠ "java/lang/invoke/VarHandle" ∧ (parseMethodDescriptor y_WD_mould.desc).map (fun d => d.parameters.length) = some 0 := by decide +kernel
theorem d_WD_mould_0 : decode b_WD_mould 0 = .ok (.aload_n 0, 1) := by decide +kernel
theorem d_WD_mould_1 : decode b_WD_mould 1 = .ok (.getfield 61, 3) := by decide +kernel
theorem d_WD_mould_4 : decode b_WD_mould 4 = .ok (.ireturn, 1) := by decide +kernel
abbrev b_WD_order : ByteArray := prog_1_method_17_code
def y_WD_order : MethodName := ⟨"WallDamp", "order", "(II)I"⟩
def ws_WD_order : List Cond := .code y_WD_order b_WD_order 3 (some (.int)) :: x_tb
theorem pd_WD_order : y_WD_order.cls ≠ "java/lang/invoke/MethodHandle" ∧ y_WD_order.cls ≠ "java/lang/invoke/VarHandle" ∧ (parseMethodDescriptor y_WD_order.desc).map (fun d => d.parameters.length) = some 2 := by decide +kernel
theorem d_WD_order_0 : decode b_WD_order 0 = .ok (.iload_n 1, 1) := by decide +kernel
theorem d_WD_order_1 : decode b_WD_order 1 = .ok (.iconst 1, 1) := by decide +kernel
theorem d_WD_order_2 : decode b_WD_order 2 = .ok (.bipush 48, 2) := by decide +kernel
theorem d_WD_order_4 : decode b_WD_order 4 = .ok (.invokestatic 73, 3) := by decide +kernel
theorem d_WD_order_7 : decode b_WD_order 7 = .ok (.iload_n 2, 1) := by decide +kernel
theorem d_WD_order_8 : decode b_WD_order 8 = .ok (.iconst 0, 1) := by decide +kernel
theorem d_WD_order_9 : decode b_WD_order 9 = .ok (.aload_n 0, 1) := by decide +kernel
theorem d_WD_order_10 : decode b_WD_order 10 = .ok (.getfield 44, 3) := by decide +kernel
theorem d_WD_order_13 : decode b_WD_order 13 = .ok (.getfield 213, 3) := by decide +kernel
theorem d_WD_order_16 : decode b_WD_order 16 = .ok (.arraylength, 1) := by decide +kernel
theorem d_WD_order_17 : decode b_WD_order 17 = .ok (.iconst 1, 1) := by decide +kernel
theorem d_WD_order_18 : decode b_WD_order 18 = .ok (.isub, 1) := by decide +kernel
theorem d_WD_order_19 : decode b_WD_order 19 = .ok (.invokestatic 73, 3) := by decide +kernel
theorem d_WD_order_22 : decode b_WD_order 22 = .ok (.aload_n 0, 1) := by decide +kernel
theorem d_WD_order_23 : decode b_WD_order 23 = .ok (.getfield 44, 3) := by decide +kernel
theorem d_WD_order_26 : decode b_WD_order 26 = .ok (.getfield 213, 3) := by decide +kernel
theorem d_WD_order_29 : decode b_WD_order 29 = .ok (.arraylength, 1) := by decide +kernel
theorem d_WD_order_30 : decode b_WD_order 30 = .ok (.iconst 5, 1) := by decide +kernel
theorem d_WD_order_31 : decode b_WD_order 31 = .ok (.if_icmp .le 13, 3) := by decide +kernel
theorem d_WD_order_34 : decode b_WD_order 34 = .ok (.new 162, 3) := by decide +kernel
theorem d_WD_order_37 : decode b_WD_order 37 = .ok (.dup, 1) := by decide +kernel
theorem d_WD_order_38 : decode b_WD_order 38 = .ok (.ldc 217, 2) := by decide +kernel
theorem d_WD_order_40 : decode b_WD_order 40 = .ok (.invokespecial 166, 3) := by decide +kernel
theorem d_WD_order_43 : decode b_WD_order 43 = .ok (.athrow, 1) := by decide +kernel
theorem d_WD_order_44 : decode b_WD_order 44 = .ok (.aload_n 0, 1) := by decide +kernel
theorem d_WD_order_45 : decode b_WD_order 45 = .ok (.getfield 53, 3) := by decide +kernel
theorem d_WD_order_48 : decode b_WD_order 48 = .ok (.aload_n 0, 1) := by decide +kernel
theorem d_WD_order_49 : decode b_WD_order 49 = .ok (.getfield 44, 3) := by decide +kernel
theorem d_WD_order_52 : decode b_WD_order 52 = .ok (.aload_n 0, 1) := by decide +kernel
theorem d_WD_order_53 : decode b_WD_order 53 = .ok (.getfield 28, 3) := by decide +kernel
theorem d_WD_order_56 : decode b_WD_order 56 = .ok (.iload_n 1, 1) := by decide +kernel
theorem d_WD_order_57 : decode b_WD_order 57 = .ok (.invokevirtual 219, 3) := by decide +kernel
theorem d_WD_order_60 : decode b_WD_order 60 = .ok (.aload_n 0, 1) := by decide +kernel
theorem d_WD_order_61 : decode b_WD_order 61 = .ok (.getfield 53, 3) := by decide +kernel
theorem d_WD_order_64 : decode b_WD_order 64 = .ok (.getfield 223, 3) := by decide +kernel
theorem d_WD_order_67 : decode b_WD_order 67 = .ok (.iload_n 2, 1) := by decide +kernel
theorem d_WD_order_68 : decode b_WD_order 68 = .ok (.iaload, 1) := by decide +kernel
theorem d_WD_order_69 : decode b_WD_order 69 = .ok (.ireturn, 1) := by decide +kernel
abbrev b_WD_requireWithin : ByteArray := prog_1_method_18_code
def y_WD_requireWithin : MethodName := ⟨"WallDamp", "requireWithin", "(III)V"⟩
def ws_WD_requireWithin : List Cond := .code y_WD_requireWithin b_WD_requireWithin 3 none :: x_tb
theorem pd_WD_requireWithin : y_WD_requireWithin.cls ≠ "java/lang/invoke/MethodHandle" ∧ y_WD_requireWithin.cls ≠ "java/lang/invoke/VarHandle" ∧ (parseMethodDescriptor y_WD_requireWithin.desc).map (fun d => d.parameters.length) = some 3 := by decide +kernel
theorem d_WD_requireWithin_0 : decode b_WD_requireWithin 0 = .ok (.iload_n 0, 1) := by decide +kernel
theorem d_WD_requireWithin_1 : decode b_WD_requireWithin 1 = .ok (.iload_n 1, 1) := by decide +kernel
theorem d_WD_requireWithin_2 : decode b_WD_requireWithin 2 = .ok (.if_icmp .lt 8, 3) := by decide +kernel
theorem d_WD_requireWithin_5 : decode b_WD_requireWithin 5 = .ok (.iload_n 0, 1) := by decide +kernel
theorem d_WD_requireWithin_6 : decode b_WD_requireWithin 6 = .ok (.iload_n 2, 1) := by decide +kernel
theorem d_WD_requireWithin_7 : decode b_WD_requireWithin 7 = .ok (.if_icmp .le 13, 3) := by decide +kernel
theorem d_WD_requireWithin_10 : decode b_WD_requireWithin 10 = .ok (.new 226, 3) := by decide +kernel
theorem d_WD_requireWithin_13 : decode b_WD_requireWithin 13 = .ok (.dup, 1) := by decide +kernel
theorem d_WD_requireWithin_14 : decode b_WD_requireWithin 14 = .ok (.ldc 228, 2) := by decide +kernel
theorem d_WD_requireWithin_16 : decode b_WD_requireWithin 16 = .ok (.invokespecial 230, 3) := by decide +kernel
theorem d_WD_requireWithin_19 : decode b_WD_requireWithin 19 = .ok (.athrow, 1) := by decide +kernel
theorem d_WD_requireWithin_20 : decode b_WD_requireWithin 20 = .ok (.return_, 1) := by decide +kernel
abbrev b_WD_requireAir : ByteArray := prog_1_method_19_code
def y_WD_requireAir : MethodName := ⟨"WallDamp", "requireAir", "(III)V"⟩
def ws_WD_requireAir : List Cond := .code y_WD_requireAir b_WD_requireAir 3 none :: x_tb
theorem pd_WD_requireAir : y_WD_requireAir.cls ≠ "java/lang/invoke/MethodHandle" ∧ y_WD_requireAir.cls ≠ "java/lang/invoke/VarHandle" ∧ (parseMethodDescriptor y_WD_requireAir.desc).map (fun d => d.parameters.length) = some 3 := by decide +kernel
theorem d_WD_requireAir_0 : decode b_WD_requireAir 0 = .ok (.iload_n 0, 1) := by decide +kernel
theorem d_WD_requireAir_1 : decode b_WD_requireAir 1 = .ok (.iconst 0, 1) := by decide +kernel
theorem d_WD_requireAir_2 : decode b_WD_requireAir 2 = .ok (.bipush 23, 2) := by decide +kernel
theorem d_WD_requireAir_4 : decode b_WD_requireAir 4 = .ok (.invokestatic 73, 3) := by decide +kernel
theorem d_WD_requireAir_7 : decode b_WD_requireAir 7 = .ok (.iload_n 1, 1) := by decide +kernel
theorem d_WD_requireAir_8 : decode b_WD_requireAir 8 = .ok (.sipush (-5000), 3) := by decide +kernel
theorem d_WD_requireAir_11 : decode b_WD_requireAir 11 = .ok (.sipush 5000, 3) := by decide +kernel
theorem d_WD_requireAir_14 : decode b_WD_requireAir 14 = .ok (.invokestatic 73, 3) := by decide +kernel
theorem d_WD_requireAir_17 : decode b_WD_requireAir 17 = .ok (.iload_n 2, 1) := by decide +kernel
theorem d_WD_requireAir_18 : decode b_WD_requireAir 18 = .ok (.iconst 0, 1) := by decide +kernel
theorem d_WD_requireAir_19 : decode b_WD_requireAir 19 = .ok (.sipush 10000, 3) := by decide +kernel
theorem d_WD_requireAir_22 : decode b_WD_requireAir 22 = .ok (.invokestatic 73, 3) := by decide +kernel
theorem d_WD_requireAir_25 : decode b_WD_requireAir 25 = .ok (.return_, 1) := by decide +kernel
abbrev b_WD_requireNoHourOver : ByteArray := prog_1_method_20_code
def y_WD_requireNoHourOver : MethodName := ⟨"WallDamp", "requireNoHourOver", "()V"⟩
def ws_WD_requireNoHourOver : List Cond := .code y_WD_requireNoHourOver b_WD_requireNoHourOver 1 none :: x_tb
theorem pd_WD_requireNoHourOver : y_WD_requireNoHourOver.cls ≠ "java/lang/invoke/MethodHandle" ∧ y_WD_requireNoHourOver.cls ≠ "java/lang/invoke/VarHandle" ∧ (parseMethodDescriptor y_WD_requireNoHourOver.desc).map (fun d => d.parameters.length) = some 0 := by decide +kernel
theorem d_WD_requireNoHourOver_0 : decode b_WD_requireNoHourOver 0 = .ok (.aload_n 0, 1) := by decide +kernel
theorem d_WD_requireNoHourOver_1 : decode b_WD_requireNoHourOver 1 = .ok (.getfield 57, 3) := by decide +kernel
theorem d_WD_requireNoHourOver_4 : decode b_WD_requireNoHourOver 4 = .ok (.ifCond .le 13, 3) := by decide +kernel
theorem d_WD_requireNoHourOver_7 : decode b_WD_requireNoHourOver 7 = .ok (.new 162, 3) := by decide +kernel
theorem d_WD_requireNoHourOver_10 : decode b_WD_requireNoHourOver 10 = .ok (.dup, 1) := by decide +kernel
theorem d_WD_requireNoHourOver_11 : decode b_WD_requireNoHourOver 11 = .ok (.ldc 231, 2) := by decide +kernel
theorem d_WD_requireNoHourOver_13 : decode b_WD_requireNoHourOver 13 = .ok (.invokespecial 166, 3) := by decide +kernel
theorem d_WD_requireNoHourOver_16 : decode b_WD_requireNoHourOver 16 = .ok (.athrow, 1) := by decide +kernel
theorem d_WD_requireNoHourOver_17 : decode b_WD_requireNoHourOver 17 = .ok (.return_, 1) := by decide +kernel
abbrev b_WD_materialOf : ByteArray := prog_1_method_21_code
def y_WD_materialOf : MethodName := ⟨"WallDamp", "materialOf", "(I)LWallDamp$Material;"⟩
def ws_WD_materialOf : List Cond := .code y_WD_materialOf b_WD_materialOf 2 (some (.object "WallDamp$Material")) :: x_tb
theorem pd_WD_materialOf : y_WD_materialOf.cls ≠ "java/lang/invoke/MethodHandle" ∧ y_WD_materialOf.cls ≠ "java/lang/invoke/VarHandle" ∧ (parseMethodDescriptor y_WD_materialOf.desc).map (fun d => d.parameters.length) = some 1 := by decide +kernel
theorem d_WD_materialOf_0 : decode b_WD_materialOf 0 = .ok (.iload_n 1, 1) := by decide +kernel
theorem d_WD_materialOf_1 : decode b_WD_materialOf 1 = .ok (.iconst 0, 1) := by decide +kernel
theorem d_WD_materialOf_2 : decode b_WD_materialOf 2 = .ok (.aload_n 0, 1) := by decide +kernel
theorem d_WD_materialOf_3 : decode b_WD_materialOf 3 = .ok (.getfield 20, 3) := by decide +kernel
theorem d_WD_materialOf_6 : decode b_WD_materialOf 6 = .ok (.arraylength, 1) := by decide +kernel
theorem d_WD_materialOf_7 : decode b_WD_materialOf 7 = .ok (.iconst 1, 1) := by decide +kernel
theorem d_WD_materialOf_8 : decode b_WD_materialOf 8 = .ok (.isub, 1) := by decide +kernel
theorem d_WD_materialOf_9 : decode b_WD_materialOf 9 = .ok (.invokestatic 73, 3) := by decide +kernel
theorem d_WD_materialOf_12 : decode b_WD_materialOf 12 = .ok (.aload_n 0, 1) := by decide +kernel
theorem d_WD_materialOf_13 : decode b_WD_materialOf 13 = .ok (.getfield 20, 3) := by decide +kernel
theorem d_WD_materialOf_16 : decode b_WD_materialOf 16 = .ok (.iload_n 1, 1) := by decide +kernel
theorem d_WD_materialOf_17 : decode b_WD_materialOf 17 = .ok (.aaload, 1) := by decide +kernel
theorem d_WD_materialOf_18 : decode b_WD_materialOf 18 = .ok (.areturn, 1) := by decide +kernel
abbrev b_WD_cellAt : ByteArray := prog_1_method_22_code
def y_WD_cellAt : MethodName := ⟨"WallDamp", "cellAt", "(I)LWallDamp$Cell;"⟩
def ws_WD_cellAt : List Cond := .code y_WD_cellAt b_WD_cellAt 2 (some (.object "WallDamp$Cell")) :: x_tb
theorem pd_WD_cellAt : y_WD_cellAt.cls ≠ "java/lang/invoke/MethodHandle" ∧ y_WD_cellAt.cls ≠ "java/lang/invoke/VarHandle" ∧ (parseMethodDescriptor y_WD_cellAt.desc).map (fun d => d.parameters.length) = some 1 := by decide +kernel
theorem d_WD_cellAt_0 : decode b_WD_cellAt 0 = .ok (.iload_n 1, 1) := by decide +kernel
theorem d_WD_cellAt_1 : decode b_WD_cellAt 1 = .ok (.iconst 0, 1) := by decide +kernel
theorem d_WD_cellAt_2 : decode b_WD_cellAt 2 = .ok (.aload_n 0, 1) := by decide +kernel
theorem d_WD_cellAt_3 : decode b_WD_cellAt 3 = .ok (.getfield 44, 3) := by decide +kernel
theorem d_WD_cellAt_6 : decode b_WD_cellAt 6 = .ok (.getfield 213, 3) := by decide +kernel
theorem d_WD_cellAt_9 : decode b_WD_cellAt 9 = .ok (.arraylength, 1) := by decide +kernel
theorem d_WD_cellAt_10 : decode b_WD_cellAt 10 = .ok (.iconst 1, 1) := by decide +kernel
theorem d_WD_cellAt_11 : decode b_WD_cellAt 11 = .ok (.isub, 1) := by decide +kernel
theorem d_WD_cellAt_12 : decode b_WD_cellAt 12 = .ok (.invokestatic 73, 3) := by decide +kernel
theorem d_WD_cellAt_15 : decode b_WD_cellAt 15 = .ok (.aload_n 0, 1) := by decide +kernel
theorem d_WD_cellAt_16 : decode b_WD_cellAt 16 = .ok (.getfield 44, 3) := by decide +kernel
theorem d_WD_cellAt_19 : decode b_WD_cellAt 19 = .ok (.getfield 213, 3) := by decide +kernel
theorem d_WD_cellAt_22 : decode b_WD_cellAt 22 = .ok (.iload_n 1, 1) := by decide +kernel
theorem d_WD_cellAt_23 : decode b_WD_cellAt 23 = .ok (.aaload, 1) := by decide +kernel
theorem d_WD_cellAt_24 : decode b_WD_cellAt 24 = .ok (.areturn, 1) := by decide +kernel
abbrev b_WD_withCorner : ByteArray := prog_1_method_23_code
def y_WD_withCorner : MethodName := ⟨"WallDamp", "withCorner", "(LWallDamp$Corners;II)I"⟩
def ws_WD_withCorner : List Cond := .code y_WD_withCorner b_WD_withCorner 3 (some (.int)) :: x_tb
theorem pd_WD_withCorner : y_WD_withCorner.cls ≠ "java/lang/invoke/MethodHandle" ∧ y_WD_withCorner.cls ≠ "java/lang/invoke/VarHandle" ∧ (parseMethodDescriptor y_WD_withCorner.desc).map (fun d => d.parameters.length) = some 3 := by decide +kernel
theorem d_WD_withCorner_0 : decode b_WD_withCorner 0 = .ok (.aload_n 0, 1) := by decide +kernel
theorem d_WD_withCorner_1 : decode b_WD_withCorner 1 = .ok (.iload_n 1, 1) := by decide +kernel
theorem d_WD_withCorner_2 : decode b_WD_withCorner 2 = .ok (.iload_n 2, 1) := by decide +kernel
theorem d_WD_withCorner_3 : decode b_WD_withCorner 3 = .ok (.invokevirtual 233, 3) := by decide +kernel
theorem d_WD_withCorner_6 : decode b_WD_withCorner 6 = .ok (.ifCond .ne 13, 3) := by decide +kernel
theorem d_WD_withCorner_9 : decode b_WD_withCorner 9 = .ok (.new 162, 3) := by decide +kernel
theorem d_WD_withCorner_12 : decode b_WD_withCorner 12 = .ok (.dup, 1) := by decide +kernel
theorem d_WD_withCorner_13 : decode b_WD_withCorner 13 = .ok (.ldc 237, 2) := by decide +kernel
theorem d_WD_withCorner_15 : decode b_WD_withCorner 15 = .ok (.invokespecial 166, 3) := by decide +kernel
theorem d_WD_withCorner_18 : decode b_WD_withCorner 18 = .ok (.athrow, 1) := by decide +kernel
theorem d_WD_withCorner_19 : decode b_WD_withCorner 19 = .ok (.aload_n 0, 1) := by decide +kernel
theorem d_WD_withCorner_20 : decode b_WD_withCorner 20 = .ok (.iload_n 1, 1) := by decide +kernel
theorem d_WD_withCorner_21 : decode b_WD_withCorner 21 = .ok (.iload_n 2, 1) := by decide +kernel
theorem d_WD_withCorner_22 : decode b_WD_withCorner 22 = .ok (.invokevirtual 239, 3) := by decide +kernel
theorem d_WD_withCorner_25 : decode b_WD_withCorner 25 = .ok (.ireturn, 1) := by decide +kernel
abbrev b_WD_passHour : ByteArray := prog_1_method_24_code
def y_WD_passHour : MethodName := ⟨"WallDamp", "passHour", "()V"⟩
def ws_WD_passHour : List Cond := .code y_WD_passHour b_WD_passHour 1 none :: x_tb
theorem pd_WD_passHour : y_WD_passHour.cls ≠ "java/lang/invoke/MethodHandle" ∧ y_WD_passHour.cls ≠ "java/lang/invoke/VarHandle" ∧ (parseMethodDescriptor y_WD_passHour.desc).map (fun d => d.parameters.length) = some 0 := by decide +kernel
theorem d_WD_passHour_0 : decode b_WD_passHour 0 = .ok (.aload_n 0, 1) := by decide +kernel
theorem d_WD_passHour_1 : decode b_WD_passHour 1 = .ok (.getfield 44, 3) := by decide +kernel
theorem d_WD_passHour_4 : decode b_WD_passHour 4 = .ok (.aload_n 0, 1) := by decide +kernel
theorem d_WD_passHour_5 : decode b_WD_passHour 5 = .ok (.getfield 28, 3) := by decide +kernel
theorem d_WD_passHour_8 : decode b_WD_passHour 8 = .ok (.aload_n 0, 1) := by decide +kernel
theorem d_WD_passHour_9 : decode b_WD_passHour 9 = .ok (.getfield 57, 3) := by decide +kernel
theorem d_WD_passHour_12 : decode b_WD_passHour 12 = .ok (.invokevirtual 241, 3) := by decide +kernel
theorem d_WD_passHour_15 : decode b_WD_passHour 15 = .ok (.aload_n 0, 1) := by decide +kernel
theorem d_WD_passHour_16 : decode b_WD_passHour 16 = .ok (.getfield 44, 3) := by decide +kernel
theorem d_WD_passHour_19 : decode b_WD_passHour 19 = .ok (.invokevirtual 245, 3) := by decide +kernel
theorem d_WD_passHour_22 : decode b_WD_passHour 22 = .ok (.aload_n 0, 1) := by decide +kernel
theorem d_WD_passHour_23 : decode b_WD_passHour 23 = .ok (.invokevirtual 248, 3) := by decide +kernel
theorem d_WD_passHour_26 : decode b_WD_passHour 26 = .ok (.aload_n 0, 1) := by decide +kernel
theorem d_WD_passHour_27 : decode b_WD_passHour 27 = .ok (.dup, 1) := by decide +kernel
theorem d_WD_passHour_28 : decode b_WD_passHour 28 = .ok (.getfield 57, 3) := by decide +kernel
theorem d_WD_passHour_31 : decode b_WD_passHour 31 = .ok (.iconst 1, 1) := by decide +kernel
theorem d_WD_passHour_32 : decode b_WD_passHour 32 = .ok (.iadd, 1) := by decide +kernel
theorem d_WD_passHour_33 : decode b_WD_passHour 33 = .ok (.putfield 57, 3) := by decide +kernel
theorem d_WD_passHour_36 : decode b_WD_passHour 36 = .ok (.return_, 1) := by decide +kernel
abbrev b_WD_growMould : ByteArray := prog_1_method_25_code
def y_WD_growMould : MethodName := ⟨"WallDamp", "growMould", "()V"⟩
def ws_WD_growMould : List Cond := .code y_WD_growMould b_WD_growMould 3 none :: x_tb
theorem pd_WD_growMould : y_WD_growMould.cls ≠ "java/lang/invoke/MethodHandle" ∧ y_WD_growMould.cls ≠ "java/lang/invoke/VarHandle" ∧ (parseMethodDescriptor y_WD_growMould.desc).map (fun d => d.parameters.length) = some 0 := by decide +kernel
theorem d_WD_growMould_0 : decode b_WD_growMould 0 = .ok (.aload_n 0, 1) := by decide +kernel
theorem d_WD_growMould_1 : decode b_WD_growMould 1 = .ok (.getfield 44, 3) := by decide +kernel
theorem d_WD_growMould_4 : decode b_WD_growMould 4 = .ok (.invokevirtual 251, 3) := by decide +kernel
theorem d_WD_growMould_7 : decode b_WD_growMould 7 = .ok (.astore_n 1, 1) := by decide +kernel
theorem d_WD_growMould_8 : decode b_WD_growMould 8 = .ok (.aload_n 0, 1) := by decide +kernel
theorem d_WD_growMould_9 : decode b_WD_growMould 9 = .ok (.getfield 35, 3) := by decide +kernel
theorem d_WD_growMould_12 : decode b_WD_growMould 12 = .ok (.aload_n 1, 1) := by decide +kernel
theorem d_WD_growMould_13 : decode b_WD_growMould 13 = .ok (.invokevirtual 178, 3) := by decide +kernel
theorem d_WD_growMould_16 : decode b_WD_growMould 16 = .ok (.aload_n 1, 1) := by decide +kernel
theorem d_WD_growMould_17 : decode b_WD_growMould 17 = .ok (.getfield 181, 3) := by decide +kernel
theorem d_WD_growMould_20 : decode b_WD_growMould 20 = .ok (.invokevirtual 255, 3) := by decide +kernel
theorem d_WD_growMould_23 : decode b_WD_growMould 23 = .ok (.istore_n 2, 1) := by decide +kernel
theorem d_WD_growMould_24 : decode b_WD_growMould 24 = .ok (.iload_n 2, 1) := by decide +kernel
theorem d_WD_growMould_25 : decode b_WD_growMould 25 = .ok (.iconst (-1), 1) := by decide +kernel
theorem d_WD_growMould_26 : decode b_WD_growMould 26 = .ok (.if_icmp .ne 20, 3) := by decide +kernel
theorem d_WD_growMould_29 : decode b_WD_growMould 29 = .ok (.aload_n 0, 1) := by decide +kernel
theorem d_WD_growMould_30 : decode b_WD_growMould 30 = .ok (.iconst 0, 1) := by decide +kernel
theorem d_WD_growMould_31 : decode b_WD_growMould 31 = .ok (.aload_n 0, 1) := by decide +kernel
theorem d_WD_growMould_32 : decode b_WD_growMould 32 = .ok (.getfield 61, 3) := by decide +kernel
theorem d_WD_growMould_35 : decode b_WD_growMould 35 = .ok (.iconst 1, 1) := by decide +kernel
theorem d_WD_growMould_36 : decode b_WD_growMould 36 = .ok (.isub, 1) := by decide +kernel
theorem d_WD_growMould_37 : decode b_WD_growMould 37 = .ok (.invokestatic 15, 3) := by decide +kernel
theorem d_WD_growMould_40 : decode b_WD_growMould 40 = .ok (.putfield 61, 3) := by decide +kernel
theorem d_WD_growMould_43 : decode b_WD_growMould 43 = .ok (.goto 18, 3) := by decide +kernel
theorem d_WD_growMould_46 : decode b_WD_growMould 46 = .ok (.aload_n 0, 1) := by decide +kernel
theorem d_WD_growMould_47 : decode b_WD_growMould 47 = .ok (.ldc 72, 2) := by decide +kernel
theorem d_WD_growMould_49 : decode b_WD_growMould 49 = .ok (.aload_n 0, 1) := by decide +kernel
theorem d_WD_growMould_50 : decode b_WD_growMould 50 = .ok (.getfield 61, 3) := by decide +kernel
theorem d_WD_growMould_53 : decode b_WD_growMould 53 = .ok (.iload_n 2, 1) := by decide +kernel
theorem d_WD_growMould_54 : decode b_WD_growMould 54 = .ok (.iadd, 1) := by decide +kernel
theorem d_WD_growMould_55 : decode b_WD_growMould 55 = .ok (.invokestatic 9, 3) := by decide +kernel
theorem d_WD_growMould_58 : decode b_WD_growMould 58 = .ok (.putfield 61, 3) := by decide +kernel
theorem d_WD_growMould_61 : decode b_WD_growMould 61 = .ok (.return_, 1) := by decide +kernel
abbrev b_Air_init : ByteArray := prog_2_method_1_code
def y_Air_init : MethodName := ⟨"WallDamp$Air", "<init>", "()V"⟩
def ws_Air_init : List Cond := .code y_Air_init b_Air_init 1 none :: x_tb
theorem pd_Air_init : y_Air_init.cls ≠ "java/lang/invoke/MethodHandle" ∧ y_Air_init.cls ≠ "java/lang/invoke/VarHandle" ∧ (parseMethodDescriptor y_Air_init.desc).map (fun d => d.parameters.length) = some 0 := by decide +kernel
theorem d_Air_init_0 : decode b_Air_init 0 = .ok (.aload_n 0, 1) := by decide +kernel
theorem d_Air_init_1 : decode b_Air_init 1 = .ok (.invokespecial 1, 3) := by decide +kernel
theorem d_Air_init_4 : decode b_Air_init 4 = .ok (.aload_n 0, 1) := by decide +kernel
theorem d_Air_init_5 : decode b_Air_init 5 = .ok (.lconst 0, 1) := by decide +kernel
theorem d_Air_init_6 : decode b_Air_init 6 = .ok (.putfield 7, 3) := by decide +kernel
theorem d_Air_init_9 : decode b_Air_init 9 = .ok (.aload_n 0, 1) := by decide +kernel
theorem d_Air_init_10 : decode b_Air_init 10 = .ok (.lconst 0, 1) := by decide +kernel
theorem d_Air_init_11 : decode b_Air_init 11 = .ok (.putfield 13, 3) := by decide +kernel
theorem d_Air_init_14 : decode b_Air_init 14 = .ok (.return_, 1) := by decide +kernel
abbrev b_Air_give : ByteArray := prog_2_method_2_code
def y_Air_give : MethodName := ⟨"WallDamp$Air", "give", "(I)V"⟩
def ws_Air_give : List Cond := .code y_Air_give b_Air_give 2 none :: x_tb
theorem pd_Air_give : y_Air_give.cls ≠ "java/lang/invoke/MethodHandle" ∧ y_Air_give.cls ≠ "java/lang/invoke/VarHandle" ∧ (parseMethodDescriptor y_Air_give.desc).map (fun d => d.parameters.length) = some 1 := by decide +kernel
theorem d_Air_give_0 : decode b_Air_give 0 = .ok (.aload_n 0, 1) := by decide +kernel
theorem d_Air_give_1 : decode b_Air_give 1 = .ok (.dup, 1) := by decide +kernel
theorem d_Air_give_2 : decode b_Air_give 2 = .ok (.getfield 7, 3) := by decide +kernel
theorem d_Air_give_5 : decode b_Air_give 5 = .ok (.iload_n 1, 1) := by decide +kernel
theorem d_Air_give_6 : decode b_Air_give 6 = .ok (.i2l, 1) := by decide +kernel
theorem d_Air_give_7 : decode b_Air_give 7 = .ok (.ladd, 1) := by decide +kernel
theorem d_Air_give_8 : decode b_Air_give 8 = .ok (.putfield 7, 3) := by decide +kernel
theorem d_Air_give_11 : decode b_Air_give 11 = .ok (.return_, 1) := by decide +kernel
abbrev b_Air_take : ByteArray := prog_2_method_3_code
def y_Air_take : MethodName := ⟨"WallDamp$Air", "take", "(I)V"⟩
def ws_Air_take : List Cond := .code y_Air_take b_Air_take 2 none :: x_tb
theorem pd_Air_take : y_Air_take.cls ≠ "java/lang/invoke/MethodHandle" ∧ y_Air_take.cls ≠ "java/lang/invoke/VarHandle" ∧ (parseMethodDescriptor y_Air_take.desc).map (fun d => d.parameters.length) = some 1 := by decide +kernel
theorem d_Air_take_0 : decode b_Air_take 0 = .ok (.aload_n 0, 1) := by decide +kernel
theorem d_Air_take_1 : decode b_Air_take 1 = .ok (.dup, 1) := by decide +kernel
theorem d_Air_take_2 : decode b_Air_take 2 = .ok (.getfield 13, 3) := by decide +kernel
theorem d_Air_take_5 : decode b_Air_take 5 = .ok (.iload_n 1, 1) := by decide +kernel
theorem d_Air_take_6 : decode b_Air_take 6 = .ok (.i2l, 1) := by decide +kernel
theorem d_Air_take_7 : decode b_Air_take 7 = .ok (.ladd, 1) := by decide +kernel
theorem d_Air_take_8 : decode b_Air_take 8 = .ok (.putfield 13, 3) := by decide +kernel
theorem d_Air_take_11 : decode b_Air_take 11 = .ok (.return_, 1) := by decide +kernel
abbrev b_Air_beginHour : ByteArray := prog_2_method_4_code
def y_Air_beginHour : MethodName := ⟨"WallDamp$Air", "beginHour", "(LWallDamp$Surroundings;I)V"⟩
def ws_Air_beginHour : List Cond := .code y_Air_beginHour b_Air_beginHour 3 none :: x_tb
theorem pd_Air_beginHour : y_Air_beginHour.cls ≠ "java/lang/invoke/MethodHandle" ∧ y_Air_beginHour.cls ≠ "java/lang/invoke/VarHandle" ∧ (parseMethodDescriptor y_Air_beginHour.desc).map (fun d => d.parameters.length) = some 2 := by decide +kernel
theorem d_Air_beginHour_0 : decode b_Air_beginHour 0 = .ok (.aload_n 0, 1) := by decide +kernel
theorem d_Air_beginHour_1 : decode b_Air_beginHour 1 = .ok (.iload_n 2, 1) := by decide +kernel
theorem d_Air_beginHour_2 : decode b_Air_beginHour 2 = .ok (.aload_n 1, 1) := by decide +kernel
theorem d_Air_beginHour_3 : decode b_Air_beginHour 3 = .ok (.aload_n 0, 1) := by decide +kernel
theorem d_Air_beginHour_4 : decode b_Air_beginHour 4 = .ok (.getfield 16, 3) := by decide +kernel
theorem d_Air_beginHour_7 : decode b_Air_beginHour 7 = .ok (.iload_n 2, 1) := by decide +kernel
theorem d_Air_beginHour_8 : decode b_Air_beginHour 8 = .ok (.invokevirtual 20, 3) := by decide +kernel
theorem d_Air_beginHour_11 : decode b_Air_beginHour 11 = .ok (.ldc 26, 2) := by decide +kernel
theorem d_Air_beginHour_13 : decode b_Air_beginHour 13 = .ok (.ldc 26, 2) := by decide +kernel
theorem d_Air_beginHour_15 : decode b_Air_beginHour 15 = .ok (.invokevirtual 27, 3) := by decide +kernel
theorem d_Air_beginHour_18 : decode b_Air_beginHour 18 = .ok (.return_, 1) := by decide +kernel
abbrev b_Cell_init : ByteArray := prog_3_method_1_code
def y_Cell_init : MethodName := ⟨"WallDamp$Cell", "<init>", "(LWallDamp$Material;)V"⟩
def ws_Cell_init : List Cond := .code y_Cell_init b_Cell_init 2 none :: x_tb
theorem pd_Cell_init : y_Cell_init.cls ≠ "java/lang/invoke/MethodHandle" ∧ y_Cell_init.cls ≠ "java/lang/invoke/VarHandle" ∧ (parseMethodDescriptor y_Cell_init.desc).map (fun d => d.parameters.length) = some 1 := by decide +kernel
theorem d_Cell_init_0 : decode b_Cell_init 0 = .ok (.aload_n 0, 1) := by decide +kernel
theorem d_Cell_init_1 : decode b_Cell_init 1 = .ok (.invokespecial 3, 3) := by decide +kernel
theorem d_Cell_init_4 : decode b_Cell_init 4 = .ok (.aload_n 0, 1) := by decide +kernel
theorem d_Cell_init_5 : decode b_Cell_init 5 = .ok (.aload_n 1, 1) := by decide +kernel
theorem d_Cell_init_6 : decode b_Cell_init 6 = .ok (.putfield 9, 3) := by decide +kernel
theorem d_Cell_init_9 : decode b_Cell_init 9 = .ok (.aload_n 0, 1) := by decide +kernel
theorem d_Cell_init_10 : decode b_Cell_init 10 = .ok (.bipush 10, 2) := by decide +kernel
theorem d_Cell_init_12 : decode b_Cell_init 12 = .ok (.putfield 15, 3) := by decide +kernel
theorem d_Cell_init_15 : decode b_Cell_init 15 = .ok (.return_, 1) := by decide +kernel
abbrev b_Cell_give : ByteArray := prog_3_method_2_code
def y_Cell_give : MethodName := ⟨"WallDamp$Cell", "give", "(I)V"⟩
def ws_Cell_give : List Cond := .code y_Cell_give b_Cell_give 2 none :: x_tb
theorem pd_Cell_give : y_Cell_give.cls ≠ "java/lang/invoke/MethodHandle" ∧ y_Cell_give.cls ≠ "java/lang/invoke/VarHandle" ∧ (parseMethodDescriptor y_Cell_give.desc).map (fun d => d.parameters.length) = some 1 := by decide +kernel
theorem d_Cell_give_0 : decode b_Cell_give 0 = .ok (.aload_n 0, 1) := by decide +kernel
theorem d_Cell_give_1 : decode b_Cell_give 1 = .ok (.dup, 1) := by decide +kernel
theorem d_Cell_give_2 : decode b_Cell_give 2 = .ok (.getfield 19, 3) := by decide +kernel
theorem d_Cell_give_5 : decode b_Cell_give 5 = .ok (.iload_n 1, 1) := by decide +kernel
theorem d_Cell_give_6 : decode b_Cell_give 6 = .ok (.isub, 1) := by decide +kernel
theorem d_Cell_give_7 : decode b_Cell_give 7 = .ok (.putfield 19, 3) := by decide +kernel
theorem d_Cell_give_10 : decode b_Cell_give 10 = .ok (.return_, 1) := by decide +kernel
abbrev b_Cell_take : ByteArray := prog_3_method_3_code
def y_Cell_take : MethodName := ⟨"WallDamp$Cell", "take", "(I)V"⟩
def ws_Cell_take : List Cond := .code y_Cell_take b_Cell_take 2 none :: x_tb
theorem pd_Cell_take : y_Cell_take.cls ≠ "java/lang/invoke/MethodHandle" ∧ y_Cell_take.cls ≠ "java/lang/invoke/VarHandle" ∧ (parseMethodDescriptor y_Cell_take.desc).map (fun d => d.parameters.length) = some 1 := by decide +kernel
theorem d_Cell_take_0 : decode b_Cell_take 0 = .ok (.aload_n 0, 1) := by decide +kernel
theorem d_Cell_take_1 : decode b_Cell_take 1 = .ok (.dup, 1) := by decide +kernel
theorem d_Cell_take_2 : decode b_Cell_take 2 = .ok (.getfield 19, 3) := by decide +kernel
theorem d_Cell_take_5 : decode b_Cell_take 5 = .ok (.iload_n 1, 1) := by decide +kernel
theorem d_Cell_take_6 : decode b_Cell_take 6 = .ok (.iadd, 1) := by decide +kernel
theorem d_Cell_take_7 : decode b_Cell_take 7 = .ok (.putfield 19, 3) := by decide +kernel
theorem d_Cell_take_10 : decode b_Cell_take 10 = .ok (.return_, 1) := by decide +kernel
abbrev b_Cell_dampOfHeld : ByteArray := prog_3_method_4_code
def y_Cell_dampOfHeld : MethodName := ⟨"WallDamp$Cell", "dampOfHeld", "()I"⟩
def ws_Cell_dampOfHeld : List Cond := .code y_Cell_dampOfHeld b_Cell_dampOfHeld 1 (some (.int)) :: x_tb
theorem pd_Cell_dampOfHeld : y_Cell_dampOfHeld.cls ≠ "java/lang/invoke/MethodHandle" ∧ y_Cell_dampOfHeld.cls ≠ "java/lang/invoke/VarHandle" ∧ (parseMethodDescriptor y_Cell_dampOfHeld.desc).map (fun d => d.parameters.length) = some 0 := by decide +kernel
theorem d_Cell_dampOfHeld_0 : decode b_Cell_dampOfHeld 0 = .ok (.aload_n 0, 1) := by decide +kernel
theorem d_Cell_dampOfHeld_1 : decode b_Cell_dampOfHeld 1 = .ok (.getfield 9, 3) := by decide +kernel
theorem d_Cell_dampOfHeld_4 : decode b_Cell_dampOfHeld 4 = .ok (.getfield 22, 3) := by decide +kernel
theorem d_Cell_dampOfHeld_7 : decode b_Cell_dampOfHeld 7 = .ok (.aload_n 0, 1) := by decide +kernel
theorem d_Cell_dampOfHeld_8 : decode b_Cell_dampOfHeld 8 = .ok (.getfield 19, 3) := by decide +kernel
theorem d_Cell_dampOfHeld_11 : decode b_Cell_dampOfHeld 11 = .ok (.invokevirtual 28, 3) := by decide +kernel
theorem d_Cell_dampOfHeld_14 : decode b_Cell_dampOfHeld 14 = .ok (.ireturn, 1) := by decide +kernel
abbrev b_Cell_resistance : ByteArray := prog_3_method_5_code
def y_Cell_resistance : MethodName := ⟨"WallDamp$Cell", "resistance", "()I"⟩
def ws_Cell_resistance : List Cond := .code y_Cell_resistance b_Cell_resistance 2 (some (.int)) :: x_tb
theorem pd_Cell_resistance : y_Cell_resistance.cls ≠ "java/lang/invoke/MethodHandle" ∧ y_Cell_resistance.cls ≠ "java/lang/invoke/VarHandle" ∧ (parseMethodDescriptor y_Cell_resistance.desc).map (fun d => d.parameters.length) = some 0 := by decide +kernel
theorem d_Cell_resistance_0 : decode b_Cell_resistance 0 = .ok (.aload_n 0, 1) := by decide +kernel
theorem d_Cell_resistance_1 : decode b_Cell_resistance 1 = .ok (.getfield 9, 3) := by decide +kernel
theorem d_Cell_resistance_4 : decode b_Cell_resistance 4 = .ok (.getfield 34, 3) := by decide +kernel
theorem d_Cell_resistance_7 : decode b_Cell_resistance 7 = .ok (.istore_n 1, 1) := by decide +kernel
theorem d_Cell_resistance_8 : decode b_Cell_resistance 8 = .ok (.iload_n 1, 1) := by decide +kernel
theorem d_Cell_resistance_9 : decode b_Cell_resistance 9 = .ok (.iconst 1, 1) := by decide +kernel
theorem d_Cell_resistance_10 : decode b_Cell_resistance 10 = .ok (.if_icmp .ge 7, 3) := by decide +kernel
theorem d_Cell_resistance_13 : decode b_Cell_resistance 13 = .ok (.iconst 0, 1) := by decide +kernel
theorem d_Cell_resistance_14 : decode b_Cell_resistance 14 = .ok (.goto 12, 3) := by decide +kernel
theorem d_Cell_resistance_17 : decode b_Cell_resistance 17 = .ok (.bipush 100, 2) := by decide +kernel
theorem d_Cell_resistance_19 : decode b_Cell_resistance 19 = .ok (.aload_n 0, 1) := by decide +kernel
theorem d_Cell_resistance_20 : decode b_Cell_resistance 20 = .ok (.getfield 15, 3) := by decide +kernel
theorem d_Cell_resistance_23 : decode b_Cell_resistance 23 = .ok (.imul, 1) := by decide +kernel
theorem d_Cell_resistance_24 : decode b_Cell_resistance 24 = .ok (.iload_n 1, 1) := by decide +kernel
theorem d_Cell_resistance_25 : decode b_Cell_resistance 25 = .ok (.idiv, 1) := by decide +kernel
theorem d_Cell_resistance_26 : decode b_Cell_resistance 26 = .ok (.ireturn, 1) := by decide +kernel
abbrev b_Cell_layDry : ByteArray := prog_3_method_6_code
def y_Cell_layDry : MethodName := ⟨"WallDamp$Cell", "layDry", "(LWallDamp$Cell;)V"⟩
def ws_Cell_layDry : List Cond := .code y_Cell_layDry b_Cell_layDry 2 none :: x_tb
theorem pd_Cell_layDry : y_Cell_layDry.cls ≠ "java/lang/invoke/MethodHandle" ∧ y_Cell_layDry.cls ≠ "java/lang/invoke/VarHandle" ∧ (parseMethodDescriptor y_Cell_layDry.desc).map (fun d => d.parameters.length) = some 1 := by decide +kernel
theorem d_Cell_layDry_0 : decode b_Cell_layDry 0 = .ok (.aload_n 0, 1) := by decide +kernel
theorem d_Cell_layDry_1 : decode b_Cell_layDry 1 = .ok (.aload_n 1, 1) := by decide +kernel
theorem d_Cell_layDry_2 : decode b_Cell_layDry 2 = .ok (.getfield 9, 3) := by decide +kernel
theorem d_Cell_layDry_5 : decode b_Cell_layDry 5 = .ok (.putfield 9, 3) := by decide +kernel
theorem d_Cell_layDry_8 : decode b_Cell_layDry 8 = .ok (.aload_n 0, 1) := by decide +kernel
theorem d_Cell_layDry_9 : decode b_Cell_layDry 9 = .ok (.aload_n 1, 1) := by decide +kernel
theorem d_Cell_layDry_10 : decode b_Cell_layDry 10 = .ok (.getfield 15, 3) := by decide +kernel
theorem d_Cell_layDry_13 : decode b_Cell_layDry 13 = .ok (.putfield 15, 3) := by decide +kernel
theorem d_Cell_layDry_16 : decode b_Cell_layDry 16 = .ok (.aload_n 0, 1) := by decide +kernel
theorem d_Cell_layDry_17 : decode b_Cell_layDry 17 = .ok (.aload_n 1, 1) := by decide +kernel
theorem d_Cell_layDry_18 : decode b_Cell_layDry 18 = .ok (.getfield 37, 3) := by decide +kernel
theorem d_Cell_layDry_21 : decode b_Cell_layDry 21 = .ok (.putfield 37, 3) := by decide +kernel
theorem d_Cell_layDry_24 : decode b_Cell_layDry 24 = .ok (.aload_n 0, 1) := by decide +kernel
theorem d_Cell_layDry_25 : decode b_Cell_layDry 25 = .ok (.iconst 0, 1) := by decide +kernel
theorem d_Cell_layDry_26 : decode b_Cell_layDry 26 = .ok (.putfield 19, 3) := by decide +kernel
theorem d_Cell_layDry_29 : decode b_Cell_layDry 29 = .ok (.return_, 1) := by decide +kernel
abbrev b_Cell_beginHour : ByteArray := prog_3_method_7_code
def y_Cell_beginHour : MethodName := ⟨"WallDamp$Cell", "beginHour", "(LWallDamp$Surroundings;)V"⟩
def ws_Cell_beginHour : List Cond := .code y_Cell_beginHour b_Cell_beginHour 3 none :: x_tb
theorem pd_Cell_beginHour : y_Cell_beginHour.cls ≠ "java/lang/invoke/MethodHandle" ∧ y_Cell_beginHour.cls ≠ "java/lang/invoke/VarHandle" ∧ (parseMethodDescriptor y_Cell_beginHour.desc).map (fun d => d.parameters.length) = some 1 := by decide +kernel
theorem d_Cell_beginHour_0 : decode b_Cell_beginHour 0 = .ok (.aload_n 0, 1) := by decide +kernel
theorem d_Cell_beginHour_1 : decode b_Cell_beginHour 1 = .ok (.invokevirtual 40, 3) := by decide +kernel
theorem d_Cell_beginHour_4 : decode b_Cell_beginHour 4 = .ok (.istore_n 2, 1) := by decide +kernel
theorem d_Cell_beginHour_5 : decode b_Cell_beginHour 5 = .ok (.aload_n 0, 1) := by decide +kernel
theorem d_Cell_beginHour_6 : decode b_Cell_beginHour 6 = .ok (.iload_n 2, 1) := by decide +kernel
theorem d_Cell_beginHour_7 : decode b_Cell_beginHour 7 = .ok (.aload_n 1, 1) := by decide +kernel
theorem d_Cell_beginHour_8 : decode b_Cell_beginHour 8 = .ok (.aload_n 0, 1) := by decide +kernel
theorem d_Cell_beginHour_9 : decode b_Cell_beginHour 9 = .ok (.getfield 44, 3) := by decide +kernel
theorem d_Cell_beginHour_12 : decode b_Cell_beginHour 12 = .ok (.iload_n 2, 1) := by decide +kernel
theorem d_Cell_beginHour_13 : decode b_Cell_beginHour 13 = .ok (.invokevirtual 47, 3) := by decide +kernel
theorem d_Cell_beginHour_16 : decode b_Cell_beginHour 16 = .ok (.aload_n 0, 1) := by decide +kernel
theorem d_Cell_beginHour_17 : decode b_Cell_beginHour 17 = .ok (.getfield 19, 3) := by decide +kernel
theorem d_Cell_beginHour_20 : decode b_Cell_beginHour 20 = .ok (.aload_n 0, 1) := by decide +kernel
theorem d_Cell_beginHour_21 : decode b_Cell_beginHour 21 = .ok (.getfield 9, 3) := by decide +kernel
theorem d_Cell_beginHour_24 : decode b_Cell_beginHour 24 = .ok (.invokevirtual 53, 3) := by decide +kernel
theorem d_Cell_beginHour_27 : decode b_Cell_beginHour 27 = .ok (.aload_n 0, 1) := by decide +kernel
theorem d_Cell_beginHour_28 : decode b_Cell_beginHour 28 = .ok (.getfield 19, 3) := by decide +kernel
theorem d_Cell_beginHour_31 : decode b_Cell_beginHour 31 = .ok (.isub, 1) := by decide +kernel
theorem d_Cell_beginHour_32 : decode b_Cell_beginHour 32 = .ok (.invokevirtual 56, 3) := by decide +kernel
theorem d_Cell_beginHour_35 : decode b_Cell_beginHour 35 = .ok (.return_, 1) := by decide +kernel
abbrev b_Cell_endHour : ByteArray := prog_3_method_8_code
def y_Cell_endHour : MethodName := ⟨"WallDamp$Cell", "endHour", "()V"⟩
def ws_Cell_endHour : List Cond := .code y_Cell_endHour b_Cell_endHour 2 none :: x_tb
theorem pd_Cell_endHour : y_Cell_endHour.cls ≠ "java/lang/invoke/MethodHandle" ∧ y_Cell_endHour.cls ≠ "java/lang/invoke/VarHandle" ∧ (parseMethodDescriptor y_Cell_endHour.desc).map (fun d => d.parameters.length) = some 0 := by decide +kernel
theorem d_Cell_endHour_0 : decode b_Cell_endHour 0 = .ok (.aload_n 0, 1) := by decide +kernel
theorem d_Cell_endHour_1 : decode b_Cell_endHour 1 = .ok (.invokevirtual 40, 3) := by decide +kernel
theorem d_Cell_endHour_4 : decode b_Cell_endHour 4 = .ok (.istore_n 1, 1) := by decide +kernel
theorem d_Cell_endHour_5 : decode b_Cell_endHour 5 = .ok (.aload_n 0, 1) := by decide +kernel
theorem d_Cell_endHour_6 : decode b_Cell_endHour 6 = .ok (.aload_n 0, 1) := by decide +kernel
theorem d_Cell_endHour_7 : decode b_Cell_endHour 7 = .ok (.getfield 60, 3) := by decide +kernel
theorem d_Cell_endHour_10 : decode b_Cell_endHour 10 = .ok (.iload_n 1, 1) := by decide +kernel
theorem d_Cell_endHour_11 : decode b_Cell_endHour 11 = .ok (.invokestatic 63, 3) := by decide +kernel
theorem d_Cell_endHour_14 : decode b_Cell_endHour 14 = .ok (.putfield 60, 3) := by decide +kernel
theorem d_Cell_endHour_17 : decode b_Cell_endHour 17 = .ok (.aload_n 0, 1) := by decide +kernel
theorem d_Cell_endHour_18 : decode b_Cell_endHour 18 = .ok (.getfield 68, 3) := by decide +kernel
theorem d_Cell_endHour_21 : decode b_Cell_endHour 21 = .ok (.ifCond .eq 28, 3) := by decide +kernel
theorem d_Cell_endHour_24 : decode b_Cell_endHour 24 = .ok (.aload_n 0, 1) := by decide +kernel
theorem d_Cell_endHour_25 : decode b_Cell_endHour 25 = .ok (.getfield 44, 3) := by decide +kernel
theorem d_Cell_endHour_28 : decode b_Cell_endHour 28 = .ok (.ifCond .lt 21, 3) := by decide +kernel
theorem d_Cell_endHour_31 : decode b_Cell_endHour 31 = .ok (.aload_n 0, 1) := by decide +kernel
theorem d_Cell_endHour_32 : decode b_Cell_endHour 32 = .ok (.iconst 0, 1) := by decide +kernel
theorem d_Cell_endHour_33 : decode b_Cell_endHour 33 = .ok (.putfield 68, 3) := by decide +kernel
theorem d_Cell_endHour_36 : decode b_Cell_endHour 36 = .ok (.aload_n 0, 1) := by decide +kernel
theorem d_Cell_endHour_37 : decode b_Cell_endHour 37 = .ok (.dup, 1) := by decide +kernel
theorem d_Cell_endHour_38 : decode b_Cell_endHour 38 = .ok (.getfield 72, 3) := by decide +kernel
theorem d_Cell_endHour_41 : decode b_Cell_endHour 41 = .ok (.iconst 1, 1) := by decide +kernel
theorem d_Cell_endHour_42 : decode b_Cell_endHour 42 = .ok (.iadd, 1) := by decide +kernel
theorem d_Cell_endHour_43 : decode b_Cell_endHour 43 = .ok (.putfield 72, 3) := by decide +kernel
theorem d_Cell_endHour_46 : decode b_Cell_endHour 46 = .ok (.goto 22, 3) := by decide +kernel
theorem d_Cell_endHour_49 : decode b_Cell_endHour 49 = .ok (.aload_n 0, 1) := by decide +kernel
theorem d_Cell_endHour_50 : decode b_Cell_endHour 50 = .ok (.getfield 44, 3) := by decide +kernel
theorem d_Cell_endHour_53 : decode b_Cell_endHour 53 = .ok (.ifCond .ge 15, 3) := by decide +kernel
theorem d_Cell_endHour_56 : decode b_Cell_endHour 56 = .ok (.iload_n 1, 1) := by decide +kernel
theorem d_Cell_endHour_57 : decode b_Cell_endHour 57 = .ok (.sipush 9000, 3) := by decide +kernel
theorem d_Cell_endHour_60 : decode b_Cell_endHour 60 = .ok (.if_icmp .lt 8, 3) := by decide +kernel
theorem d_Cell_endHour_63 : decode b_Cell_endHour 63 = .ok (.aload_n 0, 1) := by decide +kernel
theorem d_Cell_endHour_64 : decode b_Cell_endHour 64 = .ok (.iconst 1, 1) := by decide +kernel
theorem d_Cell_endHour_65 : decode b_Cell_endHour 65 = .ok (.putfield 68, 3) := by decide +kernel
theorem d_Cell_endHour_68 : decode b_Cell_endHour 68 = .ok (.return_, 1) := by decide +kernel
abbrev b_Corners_init : ByteArray := prog_4_method_1_code
def y_Corners_init : MethodName := ⟨"WallDamp$Corners", "<init>", "(I)V"⟩
def ws_Corners_init : List Cond := .code y_Corners_init b_Corners_init 2 none :: x_tb
theorem pd_Corners_init : y_Corners_init.cls ≠ "java/lang/invoke/MethodHandle" ∧ y_Corners_init.cls ≠ "java/lang/invoke/VarHandle" ∧ (parseMethodDescriptor y_Corners_init.desc).map (fun d => d.parameters.length) = some 1 := by decide +kernel
theorem d_Corners_init_0 : decode b_Corners_init 0 = .ok (.aload_n 0, 1) := by decide +kernel
theorem d_Corners_init_1 : decode b_Corners_init 1 = .ok (.invokespecial 1, 3) := by decide +kernel
theorem d_Corners_init_4 : decode b_Corners_init 4 = .ok (.aload_n 0, 1) := by decide +kernel
theorem d_Corners_init_5 : decode b_Corners_init 5 = .ok (.bipush 8, 2) := by decide +kernel
theorem d_Corners_init_7 : decode b_Corners_init 7 = .ok (.newarray .int, 2) := by decide +kernel
theorem d_Corners_init_9 : decode b_Corners_init 9 = .ok (.putfield 9, 3) := by decide +kernel
theorem d_Corners_init_12 : decode b_Corners_init 12 = .ok (.aload_n 0, 1) := by decide +kernel
theorem d_Corners_init_13 : decode b_Corners_init 13 = .ok (.bipush 8, 2) := by decide +kernel
theorem d_Corners_init_15 : decode b_Corners_init 15 = .ok (.newarray .int, 2) := by decide +kernel
theorem d_Corners_init_17 : decode b_Corners_init 17 = .ok (.putfield 13, 3) := by decide +kernel
theorem d_Corners_init_20 : decode b_Corners_init 20 = .ok (.aload_n 0, 1) := by decide +kernel
theorem d_Corners_init_21 : decode b_Corners_init 21 = .ok (.iload_n 1, 1) := by decide +kernel
theorem d_Corners_init_22 : decode b_Corners_init 22 = .ok (.bipush 8, 2) := by decide +kernel
theorem d_Corners_init_24 : decode b_Corners_init 24 = .ok (.invokestatic 16, 3) := by decide +kernel
theorem d_Corners_init_27 : decode b_Corners_init 27 = .ok (.putfield 22, 3) := by decide +kernel
theorem d_Corners_init_30 : decode b_Corners_init 30 = .ok (.aload_n 0, 1) := by decide +kernel
theorem d_Corners_init_31 : decode b_Corners_init 31 = .ok (.iconst 0, 1) := by decide +kernel
theorem d_Corners_init_32 : decode b_Corners_init 32 = .ok (.putfield 26, 3) := by decide +kernel
theorem d_Corners_init_35 : decode b_Corners_init 35 = .ok (.return_, 1) := by decide +kernel
abbrev b_Corners_canAdd : ByteArray := prog_4_method_2_code
def y_Corners_canAdd : MethodName := ⟨"WallDamp$Corners", "canAdd", "(II)Z"⟩
def ws_Corners_canAdd : List Cond := .code y_Corners_canAdd b_Corners_canAdd 3 (some (.boolean)) :: x_tb
theorem pd_Corners_canAdd : y_Corners_canAdd.cls ≠ "java/lang/invoke/MethodHandle" ∧ y_Corners_canAdd.cls ≠ "java/lang/invoke/VarHandle" ∧ (parseMethodDescriptor y_Corners_canAdd.desc).map (fun d => d.parameters.length) = some 2 := by decide +kernel
theorem d_Corners_canAdd_0 : decode b_Corners_canAdd 0 = .ok (.aload_n 0, 1) := by decide +kernel
theorem d_Corners_canAdd_1 : decode b_Corners_canAdd 1 = .ok (.getfield 26, 3) := by decide +kernel
theorem d_Corners_canAdd_4 : decode b_Corners_canAdd 4 = .ok (.aload_n 0, 1) := by decide +kernel
theorem d_Corners_canAdd_5 : decode b_Corners_canAdd 5 = .ok (.getfield 22, 3) := by decide +kernel
theorem d_Corners_canAdd_8 : decode b_Corners_canAdd 8 = .ok (.if_icmp .lt 5, 3) := by decide +kernel
theorem d_Corners_canAdd_11 : decode b_Corners_canAdd 11 = .ok (.iconst 0, 1) := by decide +kernel
theorem d_Corners_canAdd_12 : decode b_Corners_canAdd 12 = .ok (.ireturn, 1) := by decide +kernel
theorem d_Corners_canAdd_13 : decode b_Corners_canAdd 13 = .ok (.aload_n 0, 1) := by decide +kernel
theorem d_Corners_canAdd_14 : decode b_Corners_canAdd 14 = .ok (.getfield 26, 3) := by decide +kernel
theorem d_Corners_canAdd_17 : decode b_Corners_canAdd 17 = .ok (.ifCond .eq 33, 3) := by decide +kernel
theorem d_Corners_canAdd_20 : decode b_Corners_canAdd 20 = .ok (.iload_n 1, 1) := by decide +kernel
theorem d_Corners_canAdd_21 : decode b_Corners_canAdd 21 = .ok (.aload_n 0, 1) := by decide +kernel
theorem d_Corners_canAdd_22 : decode b_Corners_canAdd 22 = .ok (.getfield 9, 3) := by decide +kernel
theorem d_Corners_canAdd_25 : decode b_Corners_canAdd 25 = .ok (.aload_n 0, 1) := by decide +kernel
theorem d_Corners_canAdd_26 : decode b_Corners_canAdd 26 = .ok (.getfield 26, 3) := by decide +kernel
theorem d_Corners_canAdd_29 : decode b_Corners_canAdd 29 = .ok (.iconst 1, 1) := by decide +kernel
theorem d_Corners_canAdd_30 : decode b_Corners_canAdd 30 = .ok (.isub, 1) := by decide +kernel
theorem d_Corners_canAdd_31 : decode b_Corners_canAdd 31 = .ok (.iaload, 1) := by decide +kernel
theorem d_Corners_canAdd_32 : decode b_Corners_canAdd 32 = .ok (.if_icmp .le 22, 3) := by decide +kernel
theorem d_Corners_canAdd_35 : decode b_Corners_canAdd 35 = .ok (.iload_n 2, 1) := by decide +kernel
theorem d_Corners_canAdd_36 : decode b_Corners_canAdd 36 = .ok (.aload_n 0, 1) := by decide +kernel
theorem d_Corners_canAdd_37 : decode b_Corners_canAdd 37 = .ok (.getfield 13, 3) := by decide +kernel
theorem d_Corners_canAdd_40 : decode b_Corners_canAdd 40 = .ok (.aload_n 0, 1) := by decide +kernel
theorem d_Corners_canAdd_41 : decode b_Corners_canAdd 41 = .ok (.getfield 26, 3) := by decide +kernel
theorem d_Corners_canAdd_44 : decode b_Corners_canAdd 44 = .ok (.iconst 1, 1) := by decide +kernel
theorem d_Corners_canAdd_45 : decode b_Corners_canAdd 45 = .ok (.isub, 1) := by decide +kernel
theorem d_Corners_canAdd_46 : decode b_Corners_canAdd 46 = .ok (.iaload, 1) := by decide +kernel
theorem d_Corners_canAdd_47 : decode b_Corners_canAdd 47 = .ok (.if_icmp .le 7, 3) := by decide +kernel
theorem d_Corners_canAdd_50 : decode b_Corners_canAdd 50 = .ok (.iconst 1, 1) := by decide +kernel
theorem d_Corners_canAdd_51 : decode b_Corners_canAdd 51 = .ok (.goto 4, 3) := by decide +kernel
theorem d_Corners_canAdd_54 : decode b_Corners_canAdd 54 = .ok (.iconst 0, 1) := by decide +kernel
theorem d_Corners_canAdd_55 : decode b_Corners_canAdd 55 = .ok (.ireturn, 1) := by decide +kernel
abbrev b_Corners_add : ByteArray := prog_4_method_3_code
def y_Corners_add : MethodName := ⟨"WallDamp$Corners", "add", "(II)I"⟩
def ws_Corners_add : List Cond := .code y_Corners_add b_Corners_add 3 (some (.int)) :: x_tb
theorem pd_Corners_add : y_Corners_add.cls ≠ "java/lang/invoke/MethodHandle" ∧ y_Corners_add.cls ≠ "java/lang/invoke/VarHandle" ∧ (parseMethodDescriptor y_Corners_add.desc).map (fun d => d.parameters.length) = some 2 := by decide +kernel
theorem d_Corners_add_0 : decode b_Corners_add 0 = .ok (.aload_n 0, 1) := by decide +kernel
theorem d_Corners_add_1 : decode b_Corners_add 1 = .ok (.getfield 26, 3) := by decide +kernel
theorem d_Corners_add_4 : decode b_Corners_add 4 = .ok (.aload_n 0, 1) := by decide +kernel
theorem d_Corners_add_5 : decode b_Corners_add 5 = .ok (.getfield 9, 3) := by decide +kernel
theorem d_Corners_add_8 : decode b_Corners_add 8 = .ok (.arraylength, 1) := by decide +kernel
theorem d_Corners_add_9 : decode b_Corners_add 9 = .ok (.if_icmp .ge 33, 3) := by decide +kernel
theorem d_Corners_add_12 : decode b_Corners_add 12 = .ok (.aload_n 0, 1) := by decide +kernel
theorem d_Corners_add_13 : decode b_Corners_add 13 = .ok (.getfield 9, 3) := by decide +kernel
theorem d_Corners_add_16 : decode b_Corners_add 16 = .ok (.aload_n 0, 1) := by decide +kernel
theorem d_Corners_add_17 : decode b_Corners_add 17 = .ok (.getfield 26, 3) := by decide +kernel
theorem d_Corners_add_20 : decode b_Corners_add 20 = .ok (.iload_n 1, 1) := by decide +kernel
theorem d_Corners_add_21 : decode b_Corners_add 21 = .ok (.iastore, 1) := by decide +kernel
theorem d_Corners_add_22 : decode b_Corners_add 22 = .ok (.aload_n 0, 1) := by decide +kernel
theorem d_Corners_add_23 : decode b_Corners_add 23 = .ok (.getfield 13, 3) := by decide +kernel
theorem d_Corners_add_26 : decode b_Corners_add 26 = .ok (.aload_n 0, 1) := by decide +kernel
theorem d_Corners_add_27 : decode b_Corners_add 27 = .ok (.getfield 26, 3) := by decide +kernel
theorem d_Corners_add_30 : decode b_Corners_add 30 = .ok (.iload_n 2, 1) := by decide +kernel
theorem d_Corners_add_31 : decode b_Corners_add 31 = .ok (.iastore, 1) := by decide +kernel
theorem d_Corners_add_32 : decode b_Corners_add 32 = .ok (.aload_n 0, 1) := by decide +kernel
theorem d_Corners_add_33 : decode b_Corners_add 33 = .ok (.dup, 1) := by decide +kernel
theorem d_Corners_add_34 : decode b_Corners_add 34 = .ok (.getfield 26, 3) := by decide +kernel
theorem d_Corners_add_37 : decode b_Corners_add 37 = .ok (.iconst 1, 1) := by decide +kernel
theorem d_Corners_add_38 : decode b_Corners_add 38 = .ok (.iadd, 1) := by decide +kernel
theorem d_Corners_add_39 : decode b_Corners_add 39 = .ok (.putfield 26, 3) := by decide +kernel
theorem d_Corners_add_42 : decode b_Corners_add 42 = .ok (.aload_n 0, 1) := by decide +kernel
theorem d_Corners_add_43 : decode b_Corners_add 43 = .ok (.getfield 26, 3) := by decide +kernel
theorem d_Corners_add_46 : decode b_Corners_add 46 = .ok (.ireturn, 1) := by decide +kernel
abbrev b_Corners_lastX : ByteArray := prog_4_method_4_code
def y_Corners_lastX : MethodName := ⟨"WallDamp$Corners", "lastX", "()I"⟩
def ws_Corners_lastX : List Cond := .code y_Corners_lastX b_Corners_lastX 1 (some (.int)) :: x_tb
theorem pd_Corners_lastX : y_Corners_lastX.cls ≠ "java/lang/invoke/MethodHandle" ∧ y_Corners_lastX.cls ≠ "java/lang/invoke/VarHandle" ∧ (parseMethodDescriptor y_Corners_lastX.desc).map (fun d => d.parameters.length) = some 0 := by decide +kernel
theorem d_Corners_lastX_0 : decode b_Corners_lastX 0 = .ok (.aload_n 0, 1) := by decide +kernel
theorem d_Corners_lastX_1 : decode b_Corners_lastX 1 = .ok (.getfield 26, 3) := by decide +kernel
theorem d_Corners_lastX_4 : decode b_Corners_lastX 4 = .ok (.ifCond .ne 7, 3) := by decide +kernel
theorem d_Corners_lastX_7 : decode b_Corners_lastX 7 = .ok (.iconst 0, 1) := by decide +kernel
theorem d_Corners_lastX_8 : decode b_Corners_lastX 8 = .ok (.goto 14, 3) := by decide +kernel
theorem d_Corners_lastX_11 : decode b_Corners_lastX 11 = .ok (.aload_n 0, 1) := by decide +kernel
theorem d_Corners_lastX_12 : decode b_Corners_lastX 12 = .ok (.getfield 9, 3) := by decide +kernel
theorem d_Corners_lastX_15 : decode b_Corners_lastX 15 = .ok (.aload_n 0, 1) := by decide +kernel
theorem d_Corners_lastX_16 : decode b_Corners_lastX 16 = .ok (.getfield 26, 3) := by decide +kernel
theorem d_Corners_lastX_19 : decode b_Corners_lastX 19 = .ok (.iconst 1, 1) := by decide +kernel
theorem d_Corners_lastX_20 : decode b_Corners_lastX 20 = .ok (.isub, 1) := by decide +kernel
theorem d_Corners_lastX_21 : decode b_Corners_lastX 21 = .ok (.iaload, 1) := by decide +kernel
theorem d_Corners_lastX_22 : decode b_Corners_lastX 22 = .ok (.ireturn, 1) := by decide +kernel
abbrev b_Corners_heightAt : ByteArray := prog_4_method_5_code
def y_Corners_heightAt : MethodName := ⟨"WallDamp$Corners", "heightAt", "(I)I"⟩
def ws_Corners_heightAt : List Cond := .code y_Corners_heightAt b_Corners_heightAt 6 (some (.int)) :: x_tb
theorem pd_Corners_heightAt : y_Corners_heightAt.cls ≠ "java/lang/invoke/MethodHandle" ∧ y_Corners_heightAt.cls ≠ "java/lang/invoke/VarHandle" ∧ (parseMethodDescriptor y_Corners_heightAt.desc).map (fun d => d.parameters.length) = some 1 := by decide +kernel
theorem d_Corners_heightAt_0 : decode b_Corners_heightAt 0 = .ok (.aload_n 0, 1) := by decide +kernel
theorem d_Corners_heightAt_1 : decode b_Corners_heightAt 1 = .ok (.getfield 26, 3) := by decide +kernel
theorem d_Corners_heightAt_4 : decode b_Corners_heightAt 4 = .ok (.ifCond .ne 5, 3) := by decide +kernel
theorem d_Corners_heightAt_7 : decode b_Corners_heightAt 7 = .ok (.iconst 0, 1) := by decide +kernel
theorem d_Corners_heightAt_8 : decode b_Corners_heightAt 8 = .ok (.ireturn, 1) := by decide +kernel
theorem d_Corners_heightAt_9 : decode b_Corners_heightAt 9 = .ok (.iload_n 1, 1) := by decide +kernel
theorem d_Corners_heightAt_10 : decode b_Corners_heightAt 10 = .ok (.aload_n 0, 1) := by decide +kernel
theorem d_Corners_heightAt_11 : decode b_Corners_heightAt 11 = .ok (.getfield 9, 3) := by decide +kernel
theorem d_Corners_heightAt_14 : decode b_Corners_heightAt 14 = .ok (.iconst 0, 1) := by decide +kernel
theorem d_Corners_heightAt_15 : decode b_Corners_heightAt 15 = .ok (.iaload, 1) := by decide +kernel
theorem d_Corners_heightAt_16 : decode b_Corners_heightAt 16 = .ok (.if_icmp .gt 10, 3) := by decide +kernel
theorem d_Corners_heightAt_19 : decode b_Corners_heightAt 19 = .ok (.aload_n 0, 1) := by decide +kernel
theorem d_Corners_heightAt_20 : decode b_Corners_heightAt 20 = .ok (.getfield 13, 3) := by decide +kernel
theorem d_Corners_heightAt_23 : decode b_Corners_heightAt 23 = .ok (.iconst 0, 1) := by decide +kernel
theorem d_Corners_heightAt_24 : decode b_Corners_heightAt 24 = .ok (.iaload, 1) := by decide +kernel
theorem d_Corners_heightAt_25 : decode b_Corners_heightAt 25 = .ok (.ireturn, 1) := by decide +kernel
theorem d_Corners_heightAt_26 : decode b_Corners_heightAt 26 = .ok (.iconst 1, 1) := by decide +kernel
theorem d_Corners_heightAt_27 : decode b_Corners_heightAt 27 = .ok (.istore_n 2, 1) := by decide +kernel
theorem d_Corners_heightAt_28 : decode b_Corners_heightAt 28 = .ok (.iload_n 2, 1) := by decide +kernel
theorem d_Corners_heightAt_29 : decode b_Corners_heightAt 29 = .ok (.aload_n 0, 1) := by decide +kernel
theorem d_Corners_heightAt_30 : decode b_Corners_heightAt 30 = .ok (.getfield 26, 3) := by decide +kernel
theorem d_Corners_heightAt_33 : decode b_Corners_heightAt 33 = .ok (.if_icmp .ge 85, 3) := by decide +kernel
theorem d_Corners_heightAt_36 : decode b_Corners_heightAt 36 = .ok (.aload_n 0, 1) := by decide +kernel
theorem d_Corners_heightAt_37 : decode b_Corners_heightAt 37 = .ok (.getfield 9, 3) := by decide +kernel
theorem d_Corners_heightAt_40 : decode b_Corners_heightAt 40 = .ok (.iload_n 2, 1) := by decide +kernel
theorem d_Corners_heightAt_41 : decode b_Corners_heightAt 41 = .ok (.iaload, 1) := by decide +kernel
theorem d_Corners_heightAt_42 : decode b_Corners_heightAt 42 = .ok (.aload_n 0, 1) := by decide +kernel
theorem d_Corners_heightAt_43 : decode b_Corners_heightAt 43 = .ok (.getfield 9, 3) := by decide +kernel
theorem d_Corners_heightAt_46 : decode b_Corners_heightAt 46 = .ok (.iload_n 2, 1) := by decide +kernel
theorem d_Corners_heightAt_47 : decode b_Corners_heightAt 47 = .ok (.iconst 1, 1) := by decide +kernel
theorem d_Corners_heightAt_48 : decode b_Corners_heightAt 48 = .ok (.isub, 1) := by decide +kernel
theorem d_Corners_heightAt_49 : decode b_Corners_heightAt 49 = .ok (.iaload, 1) := by decide +kernel
theorem d_Corners_heightAt_50 : decode b_Corners_heightAt 50 = .ok (.isub, 1) := by decide +kernel
theorem d_Corners_heightAt_51 : decode b_Corners_heightAt 51 = .ok (.istore_n 3, 1) := by decide +kernel
theorem d_Corners_heightAt_52 : decode b_Corners_heightAt 52 = .ok (.iload_n 1, 1) := by decide +kernel
theorem d_Corners_heightAt_53 : decode b_Corners_heightAt 53 = .ok (.aload_n 0, 1) := by decide +kernel
theorem d_Corners_heightAt_54 : decode b_Corners_heightAt 54 = .ok (.getfield 9, 3) := by decide +kernel
theorem d_Corners_heightAt_57 : decode b_Corners_heightAt 57 = .ok (.iload_n 2, 1) := by decide +kernel
theorem d_Corners_heightAt_58 : decode b_Corners_heightAt 58 = .ok (.iaload, 1) := by decide +kernel
theorem d_Corners_heightAt_59 : decode b_Corners_heightAt 59 = .ok (.if_icmp .gt 53, 3) := by decide +kernel
theorem d_Corners_heightAt_62 : decode b_Corners_heightAt 62 = .ok (.iload_n 3, 1) := by decide +kernel
theorem d_Corners_heightAt_63 : decode b_Corners_heightAt 63 = .ok (.ifCond .le 49, 3) := by decide +kernel
theorem d_Corners_heightAt_66 : decode b_Corners_heightAt 66 = .ok (.aload_n 0, 1) := by decide +kernel
theorem d_Corners_heightAt_67 : decode b_Corners_heightAt 67 = .ok (.getfield 13, 3) := by decide +kernel
theorem d_Corners_heightAt_70 : decode b_Corners_heightAt 70 = .ok (.iload_n 2, 1) := by decide +kernel
theorem d_Corners_heightAt_71 : decode b_Corners_heightAt 71 = .ok (.iaload, 1) := by decide +kernel
theorem d_Corners_heightAt_72 : decode b_Corners_heightAt 72 = .ok (.aload_n 0, 1) := by decide +kernel
theorem d_Corners_heightAt_73 : decode b_Corners_heightAt 73 = .ok (.getfield 13, 3) := by decide +kernel
theorem d_Corners_heightAt_76 : decode b_Corners_heightAt 76 = .ok (.iload_n 2, 1) := by decide +kernel
theorem d_Corners_heightAt_77 : decode b_Corners_heightAt 77 = .ok (.iconst 1, 1) := by decide +kernel
theorem d_Corners_heightAt_78 : decode b_Corners_heightAt 78 = .ok (.isub, 1) := by decide +kernel
theorem d_Corners_heightAt_79 : decode b_Corners_heightAt 79 = .ok (.iaload, 1) := by decide +kernel
theorem d_Corners_heightAt_80 : decode b_Corners_heightAt 80 = .ok (.isub, 1) := by decide +kernel
theorem d_Corners_heightAt_81 : decode b_Corners_heightAt 81 = .ok (.i2l, 1) := by decide +kernel
theorem d_Corners_heightAt_82 : decode b_Corners_heightAt 82 = .ok (.iload_n 1, 1) := by decide +kernel
theorem d_Corners_heightAt_83 : decode b_Corners_heightAt 83 = .ok (.aload_n 0, 1) := by decide +kernel
theorem d_Corners_heightAt_84 : decode b_Corners_heightAt 84 = .ok (.getfield 9, 3) := by decide +kernel
theorem d_Corners_heightAt_87 : decode b_Corners_heightAt 87 = .ok (.iload_n 2, 1) := by decide +kernel
theorem d_Corners_heightAt_88 : decode b_Corners_heightAt 88 = .ok (.iconst 1, 1) := by decide +kernel
theorem d_Corners_heightAt_89 : decode b_Corners_heightAt 89 = .ok (.isub, 1) := by decide +kernel
theorem d_Corners_heightAt_90 : decode b_Corners_heightAt 90 = .ok (.iaload, 1) := by decide +kernel
theorem d_Corners_heightAt_91 : decode b_Corners_heightAt 91 = .ok (.isub, 1) := by decide +kernel
theorem d_Corners_heightAt_92 : decode b_Corners_heightAt 92 = .ok (.i2l, 1) := by decide +kernel
theorem d_Corners_heightAt_93 : decode b_Corners_heightAt 93 = .ok (.lmul, 1) := by decide +kernel
theorem d_Corners_heightAt_94 : decode b_Corners_heightAt 94 = .ok (.lstore 4, 2) := by decide +kernel
theorem d_Corners_heightAt_96 : decode b_Corners_heightAt 96 = .ok (.aload_n 0, 1) := by decide +kernel
theorem d_Corners_heightAt_97 : decode b_Corners_heightAt 97 = .ok (.getfield 13, 3) := by decide +kernel
theorem d_Corners_heightAt_100 : decode b_Corners_heightAt 100 = .ok (.iload_n 2, 1) := by decide +kernel
theorem d_Corners_heightAt_101 : decode b_Corners_heightAt 101 = .ok (.iconst 1, 1) := by decide +kernel
theorem d_Corners_heightAt_102 : decode b_Corners_heightAt 102 = .ok (.isub, 1) := by decide +kernel
theorem d_Corners_heightAt_103 : decode b_Corners_heightAt 103 = .ok (.iaload, 1) := by decide +kernel
theorem d_Corners_heightAt_104 : decode b_Corners_heightAt 104 = .ok (.lload 4, 2) := by decide +kernel
theorem d_Corners_heightAt_106 : decode b_Corners_heightAt 106 = .ok (.iload_n 3, 1) := by decide +kernel
theorem d_Corners_heightAt_107 : decode b_Corners_heightAt 107 = .ok (.i2l, 1) := by decide +kernel
theorem d_Corners_heightAt_108 : decode b_Corners_heightAt 108 = .ok (.ldiv, 1) := by decide +kernel
theorem d_Corners_heightAt_109 : decode b_Corners_heightAt 109 = .ok (.l2i, 1) := by decide +kernel
theorem d_Corners_heightAt_110 : decode b_Corners_heightAt 110 = .ok (.iadd, 1) := by decide +kernel
theorem d_Corners_heightAt_111 : decode b_Corners_heightAt 111 = .ok (.ireturn, 1) := by decide +kernel
theorem d_Corners_heightAt_112 : decode b_Corners_heightAt 112 = .ok (.iinc 2 1, 3) := by decide +kernel
theorem d_Corners_heightAt_115 : decode b_Corners_heightAt 115 = .ok (.goto (-87), 3) := by decide +kernel
theorem d_Corners_heightAt_118 : decode b_Corners_heightAt 118 = .ok (.aload_n 0, 1) := by decide +kernel
theorem d_Corners_heightAt_119 : decode b_Corners_heightAt 119 = .ok (.getfield 13, 3) := by decide +kernel
theorem d_Corners_heightAt_122 : decode b_Corners_heightAt 122 = .ok (.aload_n 0, 1) := by decide +kernel
theorem d_Corners_heightAt_123 : decode b_Corners_heightAt 123 = .ok (.getfield 26, 3) := by decide +kernel
theorem d_Corners_heightAt_126 : decode b_Corners_heightAt 126 = .ok (.iconst 1, 1) := by decide +kernel
theorem d_Corners_heightAt_127 : decode b_Corners_heightAt 127 = .ok (.isub, 1) := by decide +kernel
theorem d_Corners_heightAt_128 : decode b_Corners_heightAt 128 = .ok (.iaload, 1) := by decide +kernel
theorem d_Corners_heightAt_129 : decode b_Corners_heightAt 129 = .ok (.ireturn, 1) := by decide +kernel
abbrev b_Flow_init : ByteArray := prog_5_method_1_code
def y_Flow_init : MethodName := ⟨"WallDamp$Flow", "<init>", "(LWallDamp$Place;LWallDamp$Place;)V"⟩
def ws_Flow_init : List Cond := .code y_Flow_init b_Flow_init 3 none :: x_tb
theorem pd_Flow_init : y_Flow_init.cls ≠ "java/lang/invoke/MethodHandle" ∧ y_Flow_init.cls ≠ "java/lang/invoke/VarHandle" ∧ (parseMethodDescriptor y_Flow_init.desc).map (fun d => d.parameters.length) = some 2 := by decide +kernel
theorem d_Flow_init_0 : decode b_Flow_init 0 = .ok (.aload_n 0, 1) := by decide +kernel
theorem d_Flow_init_1 : decode b_Flow_init 1 = .ok (.invokespecial 1, 3) := by decide +kernel
theorem d_Flow_init_4 : decode b_Flow_init 4 = .ok (.aload_n 0, 1) := by decide +kernel
theorem d_Flow_init_5 : decode b_Flow_init 5 = .ok (.aload_n 1, 1) := by decide +kernel
theorem d_Flow_init_6 : decode b_Flow_init 6 = .ok (.putfield 7, 3) := by decide +kernel
theorem d_Flow_init_9 : decode b_Flow_init 9 = .ok (.aload_n 0, 1) := by decide +kernel
theorem d_Flow_init_10 : decode b_Flow_init 10 = .ok (.aload_n 2, 1) := by decide +kernel
theorem d_Flow_init_11 : decode b_Flow_init 11 = .ok (.putfield 13, 3) := by decide +kernel
theorem d_Flow_init_14 : decode b_Flow_init 14 = .ok (.aload_n 0, 1) := by decide +kernel
theorem d_Flow_init_15 : decode b_Flow_init 15 = .ok (.aload_n 1, 1) := by decide +kernel
theorem d_Flow_init_16 : decode b_Flow_init 16 = .ok (.putfield 16, 3) := by decide +kernel
theorem d_Flow_init_19 : decode b_Flow_init 19 = .ok (.aload_n 0, 1) := by decide +kernel
theorem d_Flow_init_20 : decode b_Flow_init 20 = .ok (.aload_n 2, 1) := by decide +kernel
theorem d_Flow_init_21 : decode b_Flow_init 21 = .ok (.putfield 19, 3) := by decide +kernel
theorem d_Flow_init_24 : decode b_Flow_init 24 = .ok (.aload_n 0, 1) := by decide +kernel
theorem d_Flow_init_25 : decode b_Flow_init 25 = .ok (.iconst 0, 1) := by decide +kernel
theorem d_Flow_init_26 : decode b_Flow_init 26 = .ok (.putfield 22, 3) := by decide +kernel
theorem d_Flow_init_29 : decode b_Flow_init 29 = .ok (.return_, 1) := by decide +kernel
abbrev b_Flow_setInward : ByteArray := prog_5_method_2_code
def y_Flow_setInward : MethodName := ⟨"WallDamp$Flow", "setInward", "(I)V"⟩
def ws_Flow_setInward : List Cond := .code y_Flow_setInward b_Flow_setInward 2 none :: x_tb
theorem pd_Flow_setInward : y_Flow_setInward.cls ≠ "java/lang/invoke/MethodHandle" ∧ y_Flow_setInward.cls ≠ "java/lang/invoke/VarHandle" ∧ (parseMethodDescriptor y_Flow_setInward.desc).map (fun d => d.parameters.length) = some 1 := by decide +kernel
theorem d_Flow_setInward_0 : decode b_Flow_setInward 0 = .ok (.iload_n 1, 1) := by decide +kernel
theorem d_Flow_setInward_1 : decode b_Flow_setInward 1 = .ok (.ifCond .lt 27, 3) := by decide +kernel
theorem d_Flow_setInward_4 : decode b_Flow_setInward 4 = .ok (.aload_n 0, 1) := by decide +kernel
theorem d_Flow_setInward_5 : decode b_Flow_setInward 5 = .ok (.aload_n 0, 1) := by decide +kernel
theorem d_Flow_setInward_6 : decode b_Flow_setInward 6 = .ok (.getfield 7, 3) := by decide +kernel
theorem d_Flow_setInward_9 : decode b_Flow_setInward 9 = .ok (.putfield 16, 3) := by decide +kernel
theorem d_Flow_setInward_12 : decode b_Flow_setInward 12 = .ok (.aload_n 0, 1) := by decide +kernel
theorem d_Flow_setInward_13 : decode b_Flow_setInward 13 = .ok (.aload_n 0, 1) := by decide +kernel
theorem d_Flow_setInward_14 : decode b_Flow_setInward 14 = .ok (.getfield 13, 3) := by decide +kernel
theorem d_Flow_setInward_17 : decode b_Flow_setInward 17 = .ok (.putfield 19, 3) := by decide +kernel
theorem d_Flow_setInward_20 : decode b_Flow_setInward 20 = .ok (.aload_n 0, 1) := by decide +kernel
theorem d_Flow_setInward_21 : decode b_Flow_setInward 21 = .ok (.iload_n 1, 1) := by decide +kernel
theorem d_Flow_setInward_22 : decode b_Flow_setInward 22 = .ok (.putfield 22, 3) := by decide +kernel
theorem d_Flow_setInward_25 : decode b_Flow_setInward 25 = .ok (.goto 25, 3) := by decide +kernel
theorem d_Flow_setInward_28 : decode b_Flow_setInward 28 = .ok (.aload_n 0, 1) := by decide +kernel
theorem d_Flow_setInward_29 : decode b_Flow_setInward 29 = .ok (.aload_n 0, 1) := by decide +kernel
theorem d_Flow_setInward_30 : decode b_Flow_setInward 30 = .ok (.getfield 13, 3) := by decide +kernel
theorem d_Flow_setInward_33 : decode b_Flow_setInward 33 = .ok (.putfield 16, 3) := by decide +kernel
theorem d_Flow_setInward_36 : decode b_Flow_setInward 36 = .ok (.aload_n 0, 1) := by decide +kernel
theorem d_Flow_setInward_37 : decode b_Flow_setInward 37 = .ok (.aload_n 0, 1) := by decide +kernel
theorem d_Flow_setInward_38 : decode b_Flow_setInward 38 = .ok (.getfield 7, 3) := by decide +kernel
theorem d_Flow_setInward_41 : decode b_Flow_setInward 41 = .ok (.putfield 19, 3) := by decide +kernel
theorem d_Flow_setInward_44 : decode b_Flow_setInward 44 = .ok (.aload_n 0, 1) := by decide +kernel
theorem d_Flow_setInward_45 : decode b_Flow_setInward 45 = .ok (.iload_n 1, 1) := by decide +kernel
theorem d_Flow_setInward_46 : decode b_Flow_setInward 46 = .ok (.ineg, 1) := by decide +kernel
theorem d_Flow_setInward_47 : decode b_Flow_setInward 47 = .ok (.putfield 22, 3) := by decide +kernel
theorem d_Flow_setInward_50 : decode b_Flow_setInward 50 = .ok (.return_, 1) := by decide +kernel
abbrev b_Flow_countLeaving : ByteArray := prog_5_method_3_code
def y_Flow_countLeaving : MethodName := ⟨"WallDamp$Flow", "countLeaving", "()V"⟩
def ws_Flow_countLeaving : List Cond := .code y_Flow_countLeaving b_Flow_countLeaving 1 none :: x_tb
theorem pd_Flow_countLeaving : y_Flow_countLeaving.cls ≠ "java/lang/invoke/MethodHandle" ∧ y_Flow_countLeaving.cls ≠ "java/lang/invoke/VarHandle" ∧ (parseMethodDescriptor y_Flow_countLeaving.desc).map (fun d => d.parameters.length) = some 0 := by decide +kernel
theorem d_Flow_countLeaving_0 : decode b_Flow_countLeaving 0 = .ok (.aload_n 0, 1) := by decide +kernel
theorem d_Flow_countLeaving_1 : decode b_Flow_countLeaving 1 = .ok (.getfield 16, 3) := by decide +kernel
theorem d_Flow_countLeaving_4 : decode b_Flow_countLeaving 4 = .ok (.dup, 1) := by decide +kernel
theorem d_Flow_countLeaving_5 : decode b_Flow_countLeaving 5 = .ok (.getfield 26, 3) := by decide +kernel
theorem d_Flow_countLeaving_8 : decode b_Flow_countLeaving 8 = .ok (.aload_n 0, 1) := by decide +kernel
theorem d_Flow_countLeaving_9 : decode b_Flow_countLeaving 9 = .ok (.getfield 22, 3) := by decide +kernel
theorem d_Flow_countLeaving_12 : decode b_Flow_countLeaving 12 = .ok (.iadd, 1) := by decide +kernel
theorem d_Flow_countLeaving_13 : decode b_Flow_countLeaving 13 = .ok (.putfield 26, 3) := by decide +kernel
theorem d_Flow_countLeaving_16 : decode b_Flow_countLeaving 16 = .ok (.return_, 1) := by decide +kernel
abbrev b_Flow_limitLeaving : ByteArray := prog_5_method_4_code
def y_Flow_limitLeaving : MethodName := ⟨"WallDamp$Flow", "limitLeaving", "()V"⟩
def ws_Flow_limitLeaving : List Cond := .code y_Flow_limitLeaving b_Flow_limitLeaving 1 none :: x_tb
theorem pd_Flow_limitLeaving : y_Flow_limitLeaving.cls ≠ "java/lang/invoke/MethodHandle" ∧ y_Flow_limitLeaving.cls ≠ "java/lang/invoke/VarHandle" ∧ (parseMethodDescriptor y_Flow_limitLeaving.desc).map (fun d => d.parameters.length) = some 0 := by decide +kernel
theorem d_Flow_limitLeaving_0 : decode b_Flow_limitLeaving 0 = .ok (.aload_n 0, 1) := by decide +kernel
theorem d_Flow_limitLeaving_1 : decode b_Flow_limitLeaving 1 = .ok (.aload_n 0, 1) := by decide +kernel
theorem d_Flow_limitLeaving_2 : decode b_Flow_limitLeaving 2 = .ok (.aload_n 0, 1) := by decide +kernel
theorem d_Flow_limitLeaving_3 : decode b_Flow_limitLeaving 3 = .ok (.getfield 16, 3) := by decide +kernel
theorem d_Flow_limitLeaving_6 : decode b_Flow_limitLeaving 6 = .ok (.getfield 26, 3) := by decide +kernel
theorem d_Flow_limitLeaving_9 : decode b_Flow_limitLeaving 9 = .ok (.aload_n 0, 1) := by decide +kernel
theorem d_Flow_limitLeaving_10 : decode b_Flow_limitLeaving 10 = .ok (.getfield 16, 3) := by decide +kernel
theorem d_Flow_limitLeaving_13 : decode b_Flow_limitLeaving 13 = .ok (.getfield 31, 3) := by decide +kernel
theorem d_Flow_limitLeaving_16 : decode b_Flow_limitLeaving 16 = .ok (.invokevirtual 34, 3) := by decide +kernel
theorem d_Flow_limitLeaving_19 : decode b_Flow_limitLeaving 19 = .ok (.putfield 22, 3) := by decide +kernel
theorem d_Flow_limitLeaving_22 : decode b_Flow_limitLeaving 22 = .ok (.return_, 1) := by decide +kernel
abbrev b_Flow_countComing : ByteArray := prog_5_method_5_code
def y_Flow_countComing : MethodName := ⟨"WallDamp$Flow", "countComing", "()V"⟩
def ws_Flow_countComing : List Cond := .code y_Flow_countComing b_Flow_countComing 1 none :: x_tb
theorem pd_Flow_countComing : y_Flow_countComing.cls ≠ "java/lang/invoke/MethodHandle" ∧ y_Flow_countComing.cls ≠ "java/lang/invoke/VarHandle" ∧ (parseMethodDescriptor y_Flow_countComing.desc).map (fun d => d.parameters.length) = some 0 := by decide +kernel
theorem d_Flow_countComing_0 : decode b_Flow_countComing 0 = .ok (.aload_n 0, 1) := by decide +kernel
theorem d_Flow_countComing_1 : decode b_Flow_countComing 1 = .ok (.getfield 19, 3) := by decide +kernel
theorem d_Flow_countComing_4 : decode b_Flow_countComing 4 = .ok (.dup, 1) := by decide +kernel
theorem d_Flow_countComing_5 : decode b_Flow_countComing 5 = .ok (.getfield 38, 3) := by decide +kernel
theorem d_Flow_countComing_8 : decode b_Flow_countComing 8 = .ok (.aload_n 0, 1) := by decide +kernel
theorem d_Flow_countComing_9 : decode b_Flow_countComing 9 = .ok (.getfield 22, 3) := by decide +kernel
theorem d_Flow_countComing_12 : decode b_Flow_countComing 12 = .ok (.iadd, 1) := by decide +kernel
theorem d_Flow_countComing_13 : decode b_Flow_countComing 13 = .ok (.putfield 38, 3) := by decide +kernel
theorem d_Flow_countComing_16 : decode b_Flow_countComing 16 = .ok (.return_, 1) := by decide +kernel
abbrev b_Flow_limitComing : ByteArray := prog_5_method_6_code
def y_Flow_limitComing : MethodName := ⟨"WallDamp$Flow", "limitComing", "()V"⟩
def ws_Flow_limitComing : List Cond := .code y_Flow_limitComing b_Flow_limitComing 1 none :: x_tb
theorem pd_Flow_limitComing : y_Flow_limitComing.cls ≠ "java/lang/invoke/MethodHandle" ∧ y_Flow_limitComing.cls ≠ "java/lang/invoke/VarHandle" ∧ (parseMethodDescriptor y_Flow_limitComing.desc).map (fun d => d.parameters.length) = some 0 := by decide +kernel
theorem d_Flow_limitComing_0 : decode b_Flow_limitComing 0 = .ok (.aload_n 0, 1) := by decide +kernel
theorem d_Flow_limitComing_1 : decode b_Flow_limitComing 1 = .ok (.aload_n 0, 1) := by decide +kernel
theorem d_Flow_limitComing_2 : decode b_Flow_limitComing 2 = .ok (.aload_n 0, 1) := by decide +kernel
theorem d_Flow_limitComing_3 : decode b_Flow_limitComing 3 = .ok (.getfield 19, 3) := by decide +kernel
theorem d_Flow_limitComing_6 : decode b_Flow_limitComing 6 = .ok (.getfield 38, 3) := by decide +kernel
theorem d_Flow_limitComing_9 : decode b_Flow_limitComing 9 = .ok (.aload_n 0, 1) := by decide +kernel
theorem d_Flow_limitComing_10 : decode b_Flow_limitComing 10 = .ok (.getfield 19, 3) := by decide +kernel
theorem d_Flow_limitComing_13 : decode b_Flow_limitComing 13 = .ok (.getfield 41, 3) := by decide +kernel
theorem d_Flow_limitComing_16 : decode b_Flow_limitComing 16 = .ok (.invokevirtual 34, 3) := by decide +kernel
theorem d_Flow_limitComing_19 : decode b_Flow_limitComing 19 = .ok (.putfield 22, 3) := by decide +kernel
theorem d_Flow_limitComing_22 : decode b_Flow_limitComing 22 = .ok (.return_, 1) := by decide +kernel
abbrev b_Flow_move : ByteArray := prog_5_method_7_code
def y_Flow_move : MethodName := ⟨"WallDamp$Flow", "move", "()V"⟩
def ws_Flow_move : List Cond := .code y_Flow_move b_Flow_move 1 none :: x_tb
theorem pd_Flow_move : y_Flow_move.cls ≠ "java/lang/invoke/MethodHandle" ∧ y_Flow_move.cls ≠ "java/lang/invoke/VarHandle" ∧ (parseMethodDescriptor y_Flow_move.desc).map (fun d => d.parameters.length) = some 0 := by decide +kernel
theorem d_Flow_move_0 : decode b_Flow_move 0 = .ok (.aload_n 0, 1) := by decide +kernel
theorem d_Flow_move_1 : decode b_Flow_move 1 = .ok (.getfield 16, 3) := by decide +kernel
theorem d_Flow_move_4 : decode b_Flow_move 4 = .ok (.aload_n 0, 1) := by decide +kernel
theorem d_Flow_move_5 : decode b_Flow_move 5 = .ok (.getfield 22, 3) := by decide +kernel
theorem d_Flow_move_8 : decode b_Flow_move 8 = .ok (.invokevirtual 44, 3) := by decide +kernel
theorem d_Flow_move_11 : decode b_Flow_move 11 = .ok (.aload_n 0, 1) := by decide +kernel
theorem d_Flow_move_12 : decode b_Flow_move 12 = .ok (.getfield 19, 3) := by decide +kernel
theorem d_Flow_move_15 : decode b_Flow_move 15 = .ok (.aload_n 0, 1) := by decide +kernel
theorem d_Flow_move_16 : decode b_Flow_move 16 = .ok (.getfield 22, 3) := by decide +kernel
theorem d_Flow_move_19 : decode b_Flow_move 19 = .ok (.invokevirtual 48, 3) := by decide +kernel
theorem d_Flow_move_22 : decode b_Flow_move 22 = .ok (.return_, 1) := by decide +kernel
abbrev b_Flow_portion : ByteArray := prog_5_method_8_code
def y_Flow_portion : MethodName := ⟨"WallDamp$Flow", "portion", "(II)I"⟩
def ws_Flow_portion : List Cond := .code y_Flow_portion b_Flow_portion 3 (some (.int)) :: x_tb
theorem pd_Flow_portion : y_Flow_portion.cls ≠ "java/lang/invoke/MethodHandle" ∧ y_Flow_portion.cls ≠ "java/lang/invoke/VarHandle" ∧ (parseMethodDescriptor y_Flow_portion.desc).map (fun d => d.parameters.length) = some 2 := by decide +kernel
theorem d_Flow_portion_0 : decode b_Flow_portion 0 = .ok (.iload_n 1, 1) := by decide +kernel
theorem d_Flow_portion_1 : decode b_Flow_portion 1 = .ok (.iload_n 2, 1) := by decide +kernel
theorem d_Flow_portion_2 : decode b_Flow_portion 2 = .ok (.if_icmp .le 7, 3) := by decide +kernel
theorem d_Flow_portion_5 : decode b_Flow_portion 5 = .ok (.iload_n 1, 1) := by decide +kernel
theorem d_Flow_portion_6 : decode b_Flow_portion 6 = .ok (.ifCond .gt 8, 3) := by decide +kernel
theorem d_Flow_portion_9 : decode b_Flow_portion 9 = .ok (.aload_n 0, 1) := by decide +kernel
theorem d_Flow_portion_10 : decode b_Flow_portion 10 = .ok (.getfield 22, 3) := by decide +kernel
theorem d_Flow_portion_13 : decode b_Flow_portion 13 = .ok (.ireturn, 1) := by decide +kernel
theorem d_Flow_portion_14 : decode b_Flow_portion 14 = .ok (.aload_n 0, 1) := by decide +kernel
theorem d_Flow_portion_15 : decode b_Flow_portion 15 = .ok (.getfield 22, 3) := by decide +kernel
theorem d_Flow_portion_18 : decode b_Flow_portion 18 = .ok (.i2l, 1) := by decide +kernel
theorem d_Flow_portion_19 : decode b_Flow_portion 19 = .ok (.iload_n 2, 1) := by decide +kernel
theorem d_Flow_portion_20 : decode b_Flow_portion 20 = .ok (.i2l, 1) := by decide +kernel
theorem d_Flow_portion_21 : decode b_Flow_portion 21 = .ok (.lmul, 1) := by decide +kernel
theorem d_Flow_portion_22 : decode b_Flow_portion 22 = .ok (.iload_n 1, 1) := by decide +kernel
theorem d_Flow_portion_23 : decode b_Flow_portion 23 = .ok (.i2l, 1) := by decide +kernel
theorem d_Flow_portion_24 : decode b_Flow_portion 24 = .ok (.ldiv, 1) := by decide +kernel
theorem d_Flow_portion_25 : decode b_Flow_portion 25 = .ok (.l2i, 1) := by decide +kernel
theorem d_Flow_portion_26 : decode b_Flow_portion 26 = .ok (.ireturn, 1) := by decide +kernel
abbrev b_Material_init : ByteArray := prog_6_method_1_code
def y_Material_init : MethodName := ⟨"WallDamp$Material", "<init>", "()V"⟩
def ws_Material_init : List Cond := .code y_Material_init b_Material_init 1 none :: x_tb
theorem pd_Material_init : y_Material_init.cls ≠ "java/lang/invoke/MethodHandle" ∧ y_Material_init.cls ≠ "java/lang/invoke/VarHandle" ∧ (parseMethodDescriptor y_Material_init.desc).map (fun d => d.parameters.length) = some 0 := by decide +kernel
theorem d_Material_init_0 : decode b_Material_init 0 = .ok (.aload_n 0, 1) := by decide +kernel
theorem d_Material_init_1 : decode b_Material_init 1 = .ok (.invokespecial 1, 3) := by decide +kernel
theorem d_Material_init_4 : decode b_Material_init 4 = .ok (.aload_n 0, 1) := by decide +kernel
theorem d_Material_init_5 : decode b_Material_init 5 = .ok (.new 7, 3) := by decide +kernel
theorem d_Material_init_8 : decode b_Material_init 8 = .ok (.dup, 1) := by decide +kernel
theorem d_Material_init_9 : decode b_Material_init 9 = .ok (.bipush 7, 2) := by decide +kernel
theorem d_Material_init_11 : decode b_Material_init 11 = .ok (.invokespecial 11, 3) := by decide +kernel
theorem d_Material_init_14 : decode b_Material_init 14 = .ok (.putfield 14, 3) := by decide +kernel
theorem d_Material_init_17 : decode b_Material_init 17 = .ok (.aload_n 0, 1) := by decide +kernel
theorem d_Material_init_18 : decode b_Material_init 18 = .ok (.getfield 14, 3) := by decide +kernel
theorem d_Material_init_21 : decode b_Material_init 21 = .ok (.iconst 0, 1) := by decide +kernel
theorem d_Material_init_22 : decode b_Material_init 22 = .ok (.iconst 0, 1) := by decide +kernel
theorem d_Material_init_23 : decode b_Material_init 23 = .ok (.invokevirtual 18, 3) := by decide +kernel
theorem d_Material_init_26 : decode b_Material_init 26 = .ok (.pop, 1) := by decide +kernel
theorem d_Material_init_27 : decode b_Material_init 27 = .ok (.aload_n 0, 1) := by decide +kernel
theorem d_Material_init_28 : decode b_Material_init 28 = .ok (.iconst 0, 1) := by decide +kernel
theorem d_Material_init_29 : decode b_Material_init 29 = .ok (.putfield 22, 3) := by decide +kernel
theorem d_Material_init_32 : decode b_Material_init 32 = .ok (.aload_n 0, 1) := by decide +kernel
theorem d_Material_init_33 : decode b_Material_init 33 = .ok (.iconst 0, 1) := by decide +kernel
theorem d_Material_init_34 : decode b_Material_init 34 = .ok (.putfield 26, 3) := by decide +kernel
theorem d_Material_init_37 : decode b_Material_init 37 = .ok (.aload_n 0, 1) := by decide +kernel
theorem d_Material_init_38 : decode b_Material_init 38 = .ok (.bipush 100, 2) := by decide +kernel
theorem d_Material_init_40 : decode b_Material_init 40 = .ok (.putfield 29, 3) := by decide +kernel
theorem d_Material_init_43 : decode b_Material_init 43 = .ok (.return_, 1) := by decide +kernel
abbrev b_Material_most : ByteArray := prog_6_method_2_code
def y_Material_most : MethodName := ⟨"WallDamp$Material", "most", "()I"⟩
def ws_Material_most : List Cond := .code y_Material_most b_Material_most 1 (some (.int)) :: x_tb
theorem pd_Material_most : y_Material_most.cls ≠ "java/lang/invoke/MethodHandle" ∧ y_Material_most.cls ≠ "java/lang/invoke/VarHandle" ∧ (parseMethodDescriptor y_Material_most.desc).map (fun d => d.parameters.length) = some 0 := by decide +kernel
theorem d_Material_most_0 : decode b_Material_most 0 = .ok (.aload_n 0, 1) := by decide +kernel
theorem d_Material_most_1 : decode b_Material_most 1 = .ok (.getfield 14, 3) := by decide +kernel
theorem d_Material_most_4 : decode b_Material_most 4 = .ok (.invokevirtual 32, 3) := by decide +kernel
theorem d_Material_most_7 : decode b_Material_most 7 = .ok (.ireturn, 1) := by decide +kernel
abbrev b_MouldRows_init : ByteArray := prog_7_method_1_code
def y_MouldRows_init : MethodName := ⟨"WallDamp$MouldRows", "<init>", "()V"⟩
def ws_MouldRows_init : List Cond := .code y_MouldRows_init b_MouldRows_init 1 none :: x_tb
theorem pd_MouldRows_init : y_MouldRows_init.cls ≠ "java/lang/invoke/MethodHandle" ∧ y_MouldRows_init.cls ≠ "java/lang/invoke/VarHandle" ∧ (parseMethodDescriptor y_MouldRows_init.desc).map (fun d => d.parameters.length) = some 0 := by decide +kernel
theorem d_MouldRows_init_0 : decode b_MouldRows_init 0 = .ok (.aload_n 0, 1) := by decide +kernel
theorem d_MouldRows_init_1 : decode b_MouldRows_init 1 = .ok (.invokespecial 3, 3) := by decide +kernel
theorem d_MouldRows_init_4 : decode b_MouldRows_init 4 = .ok (.aload_n 0, 1) := by decide +kernel
theorem d_MouldRows_init_5 : decode b_MouldRows_init 5 = .ok (.bipush 6, 2) := by decide +kernel
theorem d_MouldRows_init_7 : decode b_MouldRows_init 7 = .ok (.newarray .int, 2) := by decide +kernel
theorem d_MouldRows_init_9 : decode b_MouldRows_init 9 = .ok (.putfield 11, 3) := by decide +kernel
theorem d_MouldRows_init_12 : decode b_MouldRows_init 12 = .ok (.aload_n 0, 1) := by decide +kernel
theorem d_MouldRows_init_13 : decode b_MouldRows_init 13 = .ok (.bipush 6, 2) := by decide +kernel
theorem d_MouldRows_init_15 : decode b_MouldRows_init 15 = .ok (.newarray .int, 2) := by decide +kernel
theorem d_MouldRows_init_17 : decode b_MouldRows_init 17 = .ok (.putfield 15, 3) := by decide +kernel
theorem d_MouldRows_init_20 : decode b_MouldRows_init 20 = .ok (.aload_n 0, 1) := by decide +kernel
theorem d_MouldRows_init_21 : decode b_MouldRows_init 21 = .ok (.bipush 6, 2) := by decide +kernel
theorem d_MouldRows_init_23 : decode b_MouldRows_init 23 = .ok (.newarray .int, 2) := by decide +kernel
theorem d_MouldRows_init_25 : decode b_MouldRows_init 25 = .ok (.putfield 18, 3) := by decide +kernel
theorem d_MouldRows_init_28 : decode b_MouldRows_init 28 = .ok (.aload_n 0, 1) := by decide +kernel
theorem d_MouldRows_init_29 : decode b_MouldRows_init 29 = .ok (.bipush 6, 2) := by decide +kernel
theorem d_MouldRows_init_31 : decode b_MouldRows_init 31 = .ok (.newarray .int, 2) := by decide +kernel
theorem d_MouldRows_init_33 : decode b_MouldRows_init 33 = .ok (.putfield 21, 3) := by decide +kernel
theorem d_MouldRows_init_36 : decode b_MouldRows_init 36 = .ok (.aload_n 0, 1) := by decide +kernel
theorem d_MouldRows_init_37 : decode b_MouldRows_init 37 = .ok (.iconst 0, 1) := by decide +kernel
theorem d_MouldRows_init_38 : decode b_MouldRows_init 38 = .ok (.putfield 24, 3) := by decide +kernel
theorem d_MouldRows_init_41 : decode b_MouldRows_init 41 = .ok (.return_, 1) := by decide +kernel
abbrev b_MouldRows_hasPlace : ByteArray := prog_7_method_2_code
def y_MouldRows_hasPlace : MethodName := ⟨"WallDamp$MouldRows", "hasPlace", "()Z"⟩
def ws_MouldRows_hasPlace : List Cond := .code y_MouldRows_hasPlace b_MouldRows_hasPlace 1 (some (.boolean)) :: x_tb
theorem pd_MouldRows_hasPlace : y_MouldRows_hasPlace.cls ≠ "java/lang/invoke/MethodHandle" ∧ y_MouldRows_hasPlace.cls ≠ "java/lang/invoke/VarHandle" ∧ (parseMethodDescriptor y_MouldRows_hasPlace.desc).map (fun d => d.parameters.length) = some 0 := by decide +kernel
theorem d_MouldRows_hasPlace_0 : decode b_MouldRows_hasPlace 0 = .ok (.aload_n 0, 1) := by decide +kernel
theorem d_MouldRows_hasPlace_1 : decode b_MouldRows_hasPlace 1 = .ok (.getfield 24, 3) := by decide +kernel
theorem d_MouldRows_hasPlace_4 : decode b_MouldRows_hasPlace 4 = .ok (.bipush 6, 2) := by decide +kernel
theorem d_MouldRows_hasPlace_6 : decode b_MouldRows_hasPlace 6 = .ok (.if_icmp .ge 7, 3) := by decide +kernel
theorem d_MouldRows_hasPlace_9 : decode b_MouldRows_hasPlace 9 = .ok (.iconst 1, 1) := by decide +kernel
theorem d_MouldRows_hasPlace_10 : decode b_MouldRows_hasPlace 10 = .ok (.goto 4, 3) := by decide +kernel
theorem d_MouldRows_hasPlace_13 : decode b_MouldRows_hasPlace 13 = .ok (.iconst 0, 1) := by decide +kernel
theorem d_MouldRows_hasPlace_14 : decode b_MouldRows_hasPlace 14 = .ok (.ireturn, 1) := by decide +kernel
abbrev b_MouldRows_add : ByteArray := prog_7_method_3_code
def y_MouldRows_add : MethodName := ⟨"WallDamp$MouldRows", "add", "(IIII)I"⟩
def ws_MouldRows_add : List Cond := .code y_MouldRows_add b_MouldRows_add 5 (some (.int)) :: x_tb
theorem pd_MouldRows_add : y_MouldRows_add.cls ≠ "java/lang/invoke/MethodHandle" ∧ y_MouldRows_add.cls ≠ "java/lang/invoke/VarHandle" ∧ (parseMethodDescriptor y_MouldRows_add.desc).map (fun d => d.parameters.length) = some 4 := by decide +kernel
theorem d_MouldRows_add_0 : decode b_MouldRows_add 0 = .ok (.aload_n 0, 1) := by decide +kernel
theorem d_MouldRows_add_1 : decode b_MouldRows_add 1 = .ok (.getfield 24, 3) := by decide +kernel
theorem d_MouldRows_add_4 : decode b_MouldRows_add 4 = .ok (.bipush 6, 2) := by decide +kernel
theorem d_MouldRows_add_6 : decode b_MouldRows_add 6 = .ok (.if_icmp .ge 54, 3) := by decide +kernel
theorem d_MouldRows_add_9 : decode b_MouldRows_add 9 = .ok (.aload_n 0, 1) := by decide +kernel
theorem d_MouldRows_add_10 : decode b_MouldRows_add 10 = .ok (.getfield 11, 3) := by decide +kernel
theorem d_MouldRows_add_13 : decode b_MouldRows_add 13 = .ok (.aload_n 0, 1) := by decide +kernel
theorem d_MouldRows_add_14 : decode b_MouldRows_add 14 = .ok (.getfield 24, 3) := by decide +kernel
theorem d_MouldRows_add_17 : decode b_MouldRows_add 17 = .ok (.iload_n 1, 1) := by decide +kernel
theorem d_MouldRows_add_18 : decode b_MouldRows_add 18 = .ok (.iastore, 1) := by decide +kernel
theorem d_MouldRows_add_19 : decode b_MouldRows_add 19 = .ok (.aload_n 0, 1) := by decide +kernel
theorem d_MouldRows_add_20 : decode b_MouldRows_add 20 = .ok (.getfield 15, 3) := by decide +kernel
theorem d_MouldRows_add_23 : decode b_MouldRows_add 23 = .ok (.aload_n 0, 1) := by decide +kernel
theorem d_MouldRows_add_24 : decode b_MouldRows_add 24 = .ok (.getfield 24, 3) := by decide +kernel
theorem d_MouldRows_add_27 : decode b_MouldRows_add 27 = .ok (.iload_n 2, 1) := by decide +kernel
theorem d_MouldRows_add_28 : decode b_MouldRows_add 28 = .ok (.iastore, 1) := by decide +kernel
theorem d_MouldRows_add_29 : decode b_MouldRows_add 29 = .ok (.aload_n 0, 1) := by decide +kernel
theorem d_MouldRows_add_30 : decode b_MouldRows_add 30 = .ok (.getfield 18, 3) := by decide +kernel
theorem d_MouldRows_add_33 : decode b_MouldRows_add 33 = .ok (.aload_n 0, 1) := by decide +kernel
theorem d_MouldRows_add_34 : decode b_MouldRows_add 34 = .ok (.getfield 24, 3) := by decide +kernel
theorem d_MouldRows_add_37 : decode b_MouldRows_add 37 = .ok (.iload_n 3, 1) := by decide +kernel
theorem d_MouldRows_add_38 : decode b_MouldRows_add 38 = .ok (.iastore, 1) := by decide +kernel
theorem d_MouldRows_add_39 : decode b_MouldRows_add 39 = .ok (.aload_n 0, 1) := by decide +kernel
theorem d_MouldRows_add_40 : decode b_MouldRows_add 40 = .ok (.getfield 21, 3) := by decide +kernel
theorem d_MouldRows_add_43 : decode b_MouldRows_add 43 = .ok (.aload_n 0, 1) := by decide +kernel
theorem d_MouldRows_add_44 : decode b_MouldRows_add 44 = .ok (.getfield 24, 3) := by decide +kernel
theorem d_MouldRows_add_47 : decode b_MouldRows_add 47 = .ok (.iload 4, 2) := by decide +kernel
theorem d_MouldRows_add_49 : decode b_MouldRows_add 49 = .ok (.iastore, 1) := by decide +kernel
theorem d_MouldRows_add_50 : decode b_MouldRows_add 50 = .ok (.aload_n 0, 1) := by decide +kernel
theorem d_MouldRows_add_51 : decode b_MouldRows_add 51 = .ok (.dup, 1) := by decide +kernel
theorem d_MouldRows_add_52 : decode b_MouldRows_add 52 = .ok (.getfield 24, 3) := by decide +kernel
theorem d_MouldRows_add_55 : decode b_MouldRows_add 55 = .ok (.iconst 1, 1) := by decide +kernel
theorem d_MouldRows_add_56 : decode b_MouldRows_add 56 = .ok (.iadd, 1) := by decide +kernel
theorem d_MouldRows_add_57 : decode b_MouldRows_add 57 = .ok (.putfield 24, 3) := by decide +kernel
theorem d_MouldRows_add_60 : decode b_MouldRows_add 60 = .ok (.aload_n 0, 1) := by decide +kernel
theorem d_MouldRows_add_61 : decode b_MouldRows_add 61 = .ok (.getfield 24, 3) := by decide +kernel
theorem d_MouldRows_add_64 : decode b_MouldRows_add 64 = .ok (.ireturn, 1) := by decide +kernel
abbrev b_MouldRows_firstThatFits : ByteArray := prog_7_method_4_code
def y_MouldRows_firstThatFits : MethodName := ⟨"WallDamp$MouldRows", "firstThatFits", "(II)I"⟩
def ws_MouldRows_firstThatFits : List Cond := .code y_MouldRows_firstThatFits b_MouldRows_firstThatFits 4 (some (.int)) :: x_tb
theorem pd_MouldRows_firstThatFits : y_MouldRows_firstThatFits.cls ≠ "java/lang/invoke/MethodHandle" ∧ y_MouldRows_firstThatFits.cls ≠ "java/lang/invoke/VarHandle" ∧ (parseMethodDescriptor y_MouldRows_firstThatFits.desc).map (fun d => d.parameters.length) = some 2 := by decide +kernel
theorem d_MouldRows_firstThatFits_0 : decode b_MouldRows_firstThatFits 0 = .ok (.iconst 0, 1) := by decide +kernel
theorem d_MouldRows_firstThatFits_1 : decode b_MouldRows_firstThatFits 1 = .ok (.istore_n 3, 1) := by decide +kernel
theorem d_MouldRows_firstThatFits_2 : decode b_MouldRows_firstThatFits 2 = .ok (.iload_n 3, 1) := by decide +kernel
theorem d_MouldRows_firstThatFits_3 : decode b_MouldRows_firstThatFits 3 = .ok (.aload_n 0, 1) := by decide +kernel
theorem d_MouldRows_firstThatFits_4 : decode b_MouldRows_firstThatFits 4 = .ok (.getfield 24, 3) := by decide +kernel
theorem d_MouldRows_firstThatFits_7 : decode b_MouldRows_firstThatFits 7 = .ok (.if_icmp .ge 46, 3) := by decide +kernel
theorem d_MouldRows_firstThatFits_10 : decode b_MouldRows_firstThatFits 10 = .ok (.iload_n 1, 1) := by decide +kernel
theorem d_MouldRows_firstThatFits_11 : decode b_MouldRows_firstThatFits 11 = .ok (.aload_n 0, 1) := by decide +kernel
theorem d_MouldRows_firstThatFits_12 : decode b_MouldRows_firstThatFits 12 = .ok (.getfield 11, 3) := by decide +kernel
theorem d_MouldRows_firstThatFits_15 : decode b_MouldRows_firstThatFits 15 = .ok (.iload_n 3, 1) := by decide +kernel
theorem d_MouldRows_firstThatFits_16 : decode b_MouldRows_firstThatFits 16 = .ok (.iaload, 1) := by decide +kernel
theorem d_MouldRows_firstThatFits_17 : decode b_MouldRows_firstThatFits 17 = .ok (.if_icmp .lt 30, 3) := by decide +kernel
theorem d_MouldRows_firstThatFits_20 : decode b_MouldRows_firstThatFits 20 = .ok (.iload_n 2, 1) := by decide +kernel
theorem d_MouldRows_firstThatFits_21 : decode b_MouldRows_firstThatFits 21 = .ok (.aload_n 0, 1) := by decide +kernel
theorem d_MouldRows_firstThatFits_22 : decode b_MouldRows_firstThatFits 22 = .ok (.getfield 15, 3) := by decide +kernel
theorem d_MouldRows_firstThatFits_25 : decode b_MouldRows_firstThatFits 25 = .ok (.iload_n 3, 1) := by decide +kernel
theorem d_MouldRows_firstThatFits_26 : decode b_MouldRows_firstThatFits 26 = .ok (.iaload, 1) := by decide +kernel
theorem d_MouldRows_firstThatFits_27 : decode b_MouldRows_firstThatFits 27 = .ok (.if_icmp .lt 20, 3) := by decide +kernel
theorem d_MouldRows_firstThatFits_30 : decode b_MouldRows_firstThatFits 30 = .ok (.iload_n 2, 1) := by decide +kernel
theorem d_MouldRows_firstThatFits_31 : decode b_MouldRows_firstThatFits 31 = .ok (.aload_n 0, 1) := by decide +kernel
theorem d_MouldRows_firstThatFits_32 : decode b_MouldRows_firstThatFits 32 = .ok (.getfield 18, 3) := by decide +kernel
theorem d_MouldRows_firstThatFits_35 : decode b_MouldRows_firstThatFits 35 = .ok (.iload_n 3, 1) := by decide +kernel
theorem d_MouldRows_firstThatFits_36 : decode b_MouldRows_firstThatFits 36 = .ok (.iaload, 1) := by decide +kernel
theorem d_MouldRows_firstThatFits_37 : decode b_MouldRows_firstThatFits 37 = .ok (.if_icmp .gt 10, 3) := by decide +kernel
theorem d_MouldRows_firstThatFits_40 : decode b_MouldRows_firstThatFits 40 = .ok (.aload_n 0, 1) := by decide +kernel
theorem d_MouldRows_firstThatFits_41 : decode b_MouldRows_firstThatFits 41 = .ok (.getfield 21, 3) := by decide +kernel
theorem d_MouldRows_firstThatFits_44 : decode b_MouldRows_firstThatFits 44 = .ok (.iload_n 3, 1) := by decide +kernel
theorem d_MouldRows_firstThatFits_45 : decode b_MouldRows_firstThatFits 45 = .ok (.iaload, 1) := by decide +kernel
theorem d_MouldRows_firstThatFits_46 : decode b_MouldRows_firstThatFits 46 = .ok (.ireturn, 1) := by decide +kernel
theorem d_MouldRows_firstThatFits_47 : decode b_MouldRows_firstThatFits 47 = .ok (.iinc 3 1, 3) := by decide +kernel
theorem d_MouldRows_firstThatFits_50 : decode b_MouldRows_firstThatFits 50 = .ok (.goto (-48), 3) := by decide +kernel
theorem d_MouldRows_firstThatFits_53 : decode b_MouldRows_firstThatFits 53 = .ok (.iconst (-1), 1) := by decide +kernel
theorem d_MouldRows_firstThatFits_54 : decode b_MouldRows_firstThatFits 54 = .ok (.ireturn, 1) := by decide +kernel
abbrev b_Place_init : ByteArray := prog_8_method_1_code
def y_Place_init : MethodName := ⟨"WallDamp$Place", "<init>", "()V"⟩
def ws_Place_init : List Cond := .code y_Place_init b_Place_init 1 none :: x_tb
theorem pd_Place_init : y_Place_init.cls ≠ "java/lang/invoke/MethodHandle" ∧ y_Place_init.cls ≠ "java/lang/invoke/VarHandle" ∧ (parseMethodDescriptor y_Place_init.desc).map (fun d => d.parameters.length) = some 0 := by decide +kernel
theorem d_Place_init_0 : decode b_Place_init 0 = .ok (.aload_n 0, 1) := by decide +kernel
theorem d_Place_init_1 : decode b_Place_init 1 = .ok (.invokespecial 1, 3) := by decide +kernel
theorem d_Place_init_4 : decode b_Place_init 4 = .ok (.aload_n 0, 1) := by decide +kernel
theorem d_Place_init_5 : decode b_Place_init 5 = .ok (.iconst 0, 1) := by decide +kernel
theorem d_Place_init_6 : decode b_Place_init 6 = .ok (.putfield 7, 3) := by decide +kernel
theorem d_Place_init_9 : decode b_Place_init 9 = .ok (.return_, 1) := by decide +kernel
abbrev b_Place_fixHour : ByteArray := prog_8_method_4_code
def y_Place_fixHour : MethodName := ⟨"WallDamp$Place", "fixHour", "(IIII)V"⟩
def ws_Place_fixHour : List Cond := .code y_Place_fixHour b_Place_fixHour 5 none :: x_tb
theorem pd_Place_fixHour : y_Place_fixHour.cls ≠ "java/lang/invoke/MethodHandle" ∧ y_Place_fixHour.cls ≠ "java/lang/invoke/VarHandle" ∧ (parseMethodDescriptor y_Place_fixHour.desc).map (fun d => d.parameters.length) = some 4 := by decide +kernel
theorem d_Place_fixHour_0 : decode b_Place_fixHour 0 = .ok (.aload_n 0, 1) := by decide +kernel
theorem d_Place_fixHour_1 : decode b_Place_fixHour 1 = .ok (.iload_n 1, 1) := by decide +kernel
theorem d_Place_fixHour_2 : decode b_Place_fixHour 2 = .ok (.putfield 13, 3) := by decide +kernel
theorem d_Place_fixHour_5 : decode b_Place_fixHour 5 = .ok (.aload_n 0, 1) := by decide +kernel
theorem d_Place_fixHour_6 : decode b_Place_fixHour 6 = .ok (.iload_n 2, 1) := by decide +kernel
theorem d_Place_fixHour_7 : decode b_Place_fixHour 7 = .ok (.putfield 16, 3) := by decide +kernel
theorem d_Place_fixHour_10 : decode b_Place_fixHour 10 = .ok (.aload_n 0, 1) := by decide +kernel
theorem d_Place_fixHour_11 : decode b_Place_fixHour 11 = .ok (.iload_n 3, 1) := by decide +kernel
theorem d_Place_fixHour_12 : decode b_Place_fixHour 12 = .ok (.putfield 19, 3) := by decide +kernel
theorem d_Place_fixHour_15 : decode b_Place_fixHour 15 = .ok (.aload_n 0, 1) := by decide +kernel
theorem d_Place_fixHour_16 : decode b_Place_fixHour 16 = .ok (.iload 4, 2) := by decide +kernel
theorem d_Place_fixHour_18 : decode b_Place_fixHour 18 = .ok (.putfield 22, 3) := by decide +kernel
theorem d_Place_fixHour_21 : decode b_Place_fixHour 21 = .ok (.aload_n 0, 1) := by decide +kernel
theorem d_Place_fixHour_22 : decode b_Place_fixHour 22 = .ok (.iconst 0, 1) := by decide +kernel
theorem d_Place_fixHour_23 : decode b_Place_fixHour 23 = .ok (.putfield 25, 3) := by decide +kernel
theorem d_Place_fixHour_26 : decode b_Place_fixHour 26 = .ok (.aload_n 0, 1) := by decide +kernel
theorem d_Place_fixHour_27 : decode b_Place_fixHour 27 = .ok (.iconst 0, 1) := by decide +kernel
theorem d_Place_fixHour_28 : decode b_Place_fixHour 28 = .ok (.putfield 28, 3) := by decide +kernel
theorem d_Place_fixHour_31 : decode b_Place_fixHour 31 = .ok (.return_, 1) := by decide +kernel
abbrev b_Surroundings_init : ByteArray := prog_9_method_1_code
def y_Surroundings_init : MethodName := ⟨"WallDamp$Surroundings", "<init>", "()V"⟩
def ws_Surroundings_init : List Cond := .code y_Surroundings_init b_Surroundings_init 1 none :: x_tb
theorem pd_Surroundings_init : y_Surroundings_init.cls ≠ "java/lang/invoke/MethodHandle" ∧ y_Surroundings_init.cls ≠ "java/lang/invoke/VarHandle" ∧ (parseMethodDescriptor y_Surroundings_init.desc).map (fun d => d.parameters.length) = some 0 := by decide +kernel
theorem d_Surroundings_init_0 : decode b_Surroundings_init 0 = .ok (.aload_n 0, 1) := by decide +kernel
theorem d_Surroundings_init_1 : decode b_Surroundings_init 1 = .ok (.invokespecial 3, 3) := by decide +kernel
theorem d_Surroundings_init_4 : decode b_Surroundings_init 4 = .ok (.aload_n 0, 1) := by decide +kernel
theorem d_Surroundings_init_5 : decode b_Surroundings_init 5 = .ok (.new 9, 3) := by decide +kernel
theorem d_Surroundings_init_8 : decode b_Surroundings_init 8 = .ok (.dup, 1) := by decide +kernel
theorem d_Surroundings_init_9 : decode b_Surroundings_init 9 = .ok (.bipush 8, 2) := by decide +kernel
theorem d_Surroundings_init_11 : decode b_Surroundings_init 11 = .ok (.invokespecial 13, 3) := by decide +kernel
theorem d_Surroundings_init_14 : decode b_Surroundings_init 14 = .ok (.putfield 16, 3) := by decide +kernel
theorem d_Surroundings_init_17 : decode b_Surroundings_init 17 = .ok (.aload_n 0, 1) := by decide +kernel
theorem d_Surroundings_init_18 : decode b_Surroundings_init 18 = .ok (.bipush 24, 2) := by decide +kernel
theorem d_Surroundings_init_20 : decode b_Surroundings_init 20 = .ok (.newarray .int, 2) := by decide +kernel
theorem d_Surroundings_init_22 : decode b_Surroundings_init 22 = .ok (.putfield 20, 3) := by decide +kernel
theorem d_Surroundings_init_25 : decode b_Surroundings_init 25 = .ok (.aload_n 0, 1) := by decide +kernel
theorem d_Surroundings_init_26 : decode b_Surroundings_init 26 = .ok (.bipush 24, 2) := by decide +kernel
theorem d_Surroundings_init_28 : decode b_Surroundings_init 28 = .ok (.newarray .int, 2) := by decide +kernel
theorem d_Surroundings_init_30 : decode b_Surroundings_init 30 = .ok (.putfield 24, 3) := by decide +kernel
theorem d_Surroundings_init_33 : decode b_Surroundings_init 33 = .ok (.aload_n 0, 1) := by decide +kernel
theorem d_Surroundings_init_34 : decode b_Surroundings_init 34 = .ok (.bipush 24, 2) := by decide +kernel
theorem d_Surroundings_init_36 : decode b_Surroundings_init 36 = .ok (.newarray .int, 2) := by decide +kernel
theorem d_Surroundings_init_38 : decode b_Surroundings_init 38 = .ok (.putfield 27, 3) := by decide +kernel
theorem d_Surroundings_init_41 : decode b_Surroundings_init 41 = .ok (.aload_n 0, 1) := by decide +kernel
theorem d_Surroundings_init_42 : decode b_Surroundings_init 42 = .ok (.bipush 24, 2) := by decide +kernel
theorem d_Surroundings_init_44 : decode b_Surroundings_init 44 = .ok (.newarray .int, 2) := by decide +kernel
theorem d_Surroundings_init_46 : decode b_Surroundings_init 46 = .ok (.putfield 30, 3) := by decide +kernel
theorem d_Surroundings_init_49 : decode b_Surroundings_init 49 = .ok (.aload_n 0, 1) := by decide +kernel
theorem d_Surroundings_init_50 : decode b_Surroundings_init 50 = .ok (.bipush 24, 2) := by decide +kernel
theorem d_Surroundings_init_52 : decode b_Surroundings_init 52 = .ok (.newarray .int, 2) := by decide +kernel
theorem d_Surroundings_init_54 : decode b_Surroundings_init 54 = .ok (.putfield 33, 3) := by decide +kernel
theorem d_Surroundings_init_57 : decode b_Surroundings_init 57 = .ok (.aload_n 0, 1) := by decide +kernel
theorem d_Surroundings_init_58 : decode b_Surroundings_init 58 = .ok (.bipush 24, 2) := by decide +kernel
theorem d_Surroundings_init_60 : decode b_Surroundings_init 60 = .ok (.newarray .int, 2) := by decide +kernel
theorem d_Surroundings_init_62 : decode b_Surroundings_init 62 = .ok (.putfield 36, 3) := by decide +kernel
theorem d_Surroundings_init_65 : decode b_Surroundings_init 65 = .ok (.aload_n 0, 1) := by decide +kernel
theorem d_Surroundings_init_66 : decode b_Surroundings_init 66 = .ok (.bipush 10, 2) := by decide +kernel
theorem d_Surroundings_init_68 : decode b_Surroundings_init 68 = .ok (.putfield 39, 3) := by decide +kernel
theorem d_Surroundings_init_71 : decode b_Surroundings_init 71 = .ok (.aload_n 0, 1) := by decide +kernel
theorem d_Surroundings_init_72 : decode b_Surroundings_init 72 = .ok (.bipush 10, 2) := by decide +kernel
theorem d_Surroundings_init_74 : decode b_Surroundings_init 74 = .ok (.putfield 43, 3) := by decide +kernel
theorem d_Surroundings_init_77 : decode b_Surroundings_init 77 = .ok (.return_, 1) := by decide +kernel
abbrev b_Surroundings_pressureAt : ByteArray := prog_9_method_2_code
def y_Surroundings_pressureAt : MethodName := ⟨"WallDamp$Surroundings", "pressureAt", "(II)I"⟩
def ws_Surroundings_pressureAt : List Cond := .code y_Surroundings_pressureAt b_Surroundings_pressureAt 3 (some (.int)) :: x_tb
theorem pd_Surroundings_pressureAt : y_Surroundings_pressureAt.cls ≠ "java/lang/invoke/MethodHandle" ∧ y_Surroundings_pressureAt.cls ≠ "java/lang/invoke/VarHandle" ∧ (parseMethodDescriptor y_Surroundings_pressureAt.desc).map (fun d => d.parameters.length) = some 2 := by decide +kernel
theorem d_Surroundings_pressureAt_0 : decode b_Surroundings_pressureAt 0 = .ok (.aload_n 0, 1) := by decide +kernel
theorem d_Surroundings_pressureAt_1 : decode b_Surroundings_pressureAt 1 = .ok (.getfield 16, 3) := by decide +kernel
theorem d_Surroundings_pressureAt_4 : decode b_Surroundings_pressureAt 4 = .ok (.iload_n 1, 1) := by decide +kernel
theorem d_Surroundings_pressureAt_5 : decode b_Surroundings_pressureAt 5 = .ok (.invokevirtual 46, 3) := by decide +kernel
theorem d_Surroundings_pressureAt_8 : decode b_Surroundings_pressureAt 8 = .ok (.i2l, 1) := by decide +kernel
theorem d_Surroundings_pressureAt_9 : decode b_Surroundings_pressureAt 9 = .ok (.iload_n 2, 1) := by decide +kernel
theorem d_Surroundings_pressureAt_10 : decode b_Surroundings_pressureAt 10 = .ok (.i2l, 1) := by decide +kernel
theorem d_Surroundings_pressureAt_11 : decode b_Surroundings_pressureAt 11 = .ok (.lmul, 1) := by decide +kernel
theorem d_Surroundings_pressureAt_12 : decode b_Surroundings_pressureAt 12 = .ok (.ldc2_w 50, 3) := by decide +kernel
theorem d_Surroundings_pressureAt_15 : decode b_Surroundings_pressureAt 15 = .ok (.ldiv, 1) := by decide +kernel
theorem d_Surroundings_pressureAt_16 : decode b_Surroundings_pressureAt 16 = .ok (.l2i, 1) := by decide +kernel
theorem d_Surroundings_pressureAt_17 : decode b_Surroundings_pressureAt 17 = .ok (.ireturn, 1) := by decide +kernel
abbrev b_Trials_init : ByteArray := prog_10_method_1_code
def y_Trials_init : MethodName := ⟨"WallDamp$Trials", "<init>", "(LWallDamp$Wall;)V"⟩
def ws_Trials_init : List Cond := .code y_Trials_init b_Trials_init 2 none :: x_tb
theorem pd_Trials_init : y_Trials_init.cls ≠ "java/lang/invoke/MethodHandle" ∧ y_Trials_init.cls ≠ "java/lang/invoke/VarHandle" ∧ (parseMethodDescriptor y_Trials_init.desc).map (fun d => d.parameters.length) = some 1 := by decide +kernel
theorem d_Trials_init_0 : decode b_Trials_init 0 = .ok (.aload_n 0, 1) := by decide +kernel
theorem d_Trials_init_1 : decode b_Trials_init 1 = .ok (.invokespecial 3, 3) := by decide +kernel
theorem d_Trials_init_4 : decode b_Trials_init 4 = .ok (.aload_n 0, 1) := by decide +kernel
theorem d_Trials_init_5 : decode b_Trials_init 5 = .ok (.aload_n 1, 1) := by decide +kernel
theorem d_Trials_init_6 : decode b_Trials_init 6 = .ok (.putfield 9, 3) := by decide +kernel
theorem d_Trials_init_9 : decode b_Trials_init 9 = .ok (.aload_n 0, 1) := by decide +kernel
theorem d_Trials_init_10 : decode b_Trials_init 10 = .ok (.iconst 5, 1) := by decide +kernel
theorem d_Trials_init_11 : decode b_Trials_init 11 = .ok (.newarray .int, 2) := by decide +kernel
theorem d_Trials_init_13 : decode b_Trials_init 13 = .ok (.putfield 15, 3) := by decide +kernel
theorem d_Trials_init_16 : decode b_Trials_init 16 = .ok (.aload_n 0, 1) := by decide +kernel
theorem d_Trials_init_17 : decode b_Trials_init 17 = .ok (.iconst 5, 1) := by decide +kernel
theorem d_Trials_init_18 : decode b_Trials_init 18 = .ok (.newarray .int, 2) := by decide +kernel
theorem d_Trials_init_20 : decode b_Trials_init 20 = .ok (.putfield 19, 3) := by decide +kernel
theorem d_Trials_init_23 : decode b_Trials_init 23 = .ok (.return_, 1) := by decide +kernel
abbrev b_Trials_findDriest : ByteArray := prog_10_method_2_code
def y_Trials_findDriest : MethodName := ⟨"WallDamp$Trials", "findDriest", "(LWallDamp$Wall;LWallDamp$Surroundings;I)V"⟩
def ws_Trials_findDriest : List Cond := .code y_Trials_findDriest b_Trials_findDriest 11 none :: x_tb
theorem pd_Trials_findDriest : y_Trials_findDriest.cls ≠ "java/lang/invoke/MethodHandle" ∧ y_Trials_findDriest.cls ≠ "java/lang/invoke/VarHandle" ∧ (parseMethodDescriptor y_Trials_findDriest.desc).map (fun d => d.parameters.length) = some 3 := by decide +kernel
theorem d_Trials_findDriest_0 : decode b_Trials_findDriest 0 = .ok (.iconst 5, 1) := by decide +kernel
theorem d_Trials_findDriest_1 : decode b_Trials_findDriest 1 = .ok (.aload_n 1, 1) := by decide +kernel
theorem d_Trials_findDriest_2 : decode b_Trials_findDriest 2 = .ok (.getfield 22, 3) := by decide +kernel
theorem d_Trials_findDriest_5 : decode b_Trials_findDriest 5 = .ok (.arraylength, 1) := by decide +kernel
theorem d_Trials_findDriest_6 : decode b_Trials_findDriest 6 = .ok (.invokestatic 28, 3) := by decide +kernel
theorem d_Trials_findDriest_9 : decode b_Trials_findDriest 9 = .ok (.istore 4, 2) := by decide +kernel
theorem d_Trials_findDriest_11 : decode b_Trials_findDriest 11 = .ok (.iconst 0, 1) := by decide +kernel
theorem d_Trials_findDriest_12 : decode b_Trials_findDriest 12 = .ok (.istore 5, 2) := by decide +kernel
theorem d_Trials_findDriest_14 : decode b_Trials_findDriest 14 = .ok (.iload 5, 2) := by decide +kernel
theorem d_Trials_findDriest_16 : decode b_Trials_findDriest 16 = .ok (.iload 4, 2) := by decide +kernel
theorem d_Trials_findDriest_18 : decode b_Trials_findDriest 18 = .ok (.if_icmp .ge 18, 3) := by decide +kernel
theorem d_Trials_findDriest_21 : decode b_Trials_findDriest 21 = .ok (.aload_n 0, 1) := by decide +kernel
theorem d_Trials_findDriest_22 : decode b_Trials_findDriest 22 = .ok (.getfield 15, 3) := by decide +kernel
theorem d_Trials_findDriest_25 : decode b_Trials_findDriest 25 = .ok (.iload 5, 2) := by decide +kernel
theorem d_Trials_findDriest_27 : decode b_Trials_findDriest 27 = .ok (.iload 5, 2) := by decide +kernel
theorem d_Trials_findDriest_29 : decode b_Trials_findDriest 29 = .ok (.iastore, 1) := by decide +kernel
theorem d_Trials_findDriest_30 : decode b_Trials_findDriest 30 = .ok (.iinc 5 1, 3) := by decide +kernel
theorem d_Trials_findDriest_33 : decode b_Trials_findDriest 33 = .ok (.goto (-19), 3) := by decide +kernel
theorem d_Trials_findDriest_36 : decode b_Trials_findDriest 36 = .ok (.ldc2_w 34, 3) := by decide +kernel
theorem d_Trials_findDriest_39 : decode b_Trials_findDriest 39 = .ok (.lstore 5, 2) := by decide +kernel
theorem d_Trials_findDriest_41 : decode b_Trials_findDriest 41 = .ok (.iconst 1, 1) := by decide +kernel
theorem d_Trials_findDriest_42 : decode b_Trials_findDriest 42 = .ok (.istore 7, 2) := by decide +kernel
theorem d_Trials_findDriest_44 : decode b_Trials_findDriest 44 = .ok (.iconst 0, 1) := by decide +kernel
theorem d_Trials_findDriest_45 : decode b_Trials_findDriest 45 = .ok (.istore 8, 2) := by decide +kernel
theorem d_Trials_findDriest_47 : decode b_Trials_findDriest 47 = .ok (.iload 7, 2) := by decide +kernel
theorem d_Trials_findDriest_49 : decode b_Trials_findDriest 49 = .ok (.ifCond .eq 51, 3) := by decide +kernel
theorem d_Trials_findDriest_52 : decode b_Trials_findDriest 52 = .ok (.iload 8, 2) := by decide +kernel
theorem d_Trials_findDriest_54 : decode b_Trials_findDriest 54 = .ok (.bipush 120, 2) := by decide +kernel
theorem d_Trials_findDriest_56 : decode b_Trials_findDriest 56 = .ok (.if_icmp .ge 44, 3) := by decide +kernel
theorem d_Trials_findDriest_59 : decode b_Trials_findDriest 59 = .ok (.aload_n 0, 1) := by decide +kernel
theorem d_Trials_findDriest_60 : decode b_Trials_findDriest 60 = .ok (.aload_n 1, 1) := by decide +kernel
theorem d_Trials_findDriest_61 : decode b_Trials_findDriest 61 = .ok (.aload_n 2, 1) := by decide +kernel
theorem d_Trials_findDriest_62 : decode b_Trials_findDriest 62 = .ok (.iload_n 3, 1) := by decide +kernel
theorem d_Trials_findDriest_63 : decode b_Trials_findDriest 63 = .ok (.invokevirtual 36, 3) := by decide +kernel
theorem d_Trials_findDriest_66 : decode b_Trials_findDriest 66 = .ok (.lstore 9, 2) := by decide +kernel
theorem d_Trials_findDriest_68 : decode b_Trials_findDriest 68 = .ok (.lload 9, 2) := by decide +kernel
theorem d_Trials_findDriest_70 : decode b_Trials_findDriest 70 = .ok (.lload 5, 2) := by decide +kernel
theorem d_Trials_findDriest_72 : decode b_Trials_findDriest 72 = .ok (.lcmp, 1) := by decide +kernel
theorem d_Trials_findDriest_73 : decode b_Trials_findDriest 73 = .ok (.ifCond .ge 13, 3) := by decide +kernel
theorem d_Trials_findDriest_76 : decode b_Trials_findDriest 76 = .ok (.lload 9, 2) := by decide +kernel
theorem d_Trials_findDriest_78 : decode b_Trials_findDriest 78 = .ok (.lstore 5, 2) := by decide +kernel
theorem d_Trials_findDriest_80 : decode b_Trials_findDriest 80 = .ok (.aload_n 0, 1) := by decide +kernel
theorem d_Trials_findDriest_81 : decode b_Trials_findDriest 81 = .ok (.iload 4, 2) := by decide +kernel
theorem d_Trials_findDriest_83 : decode b_Trials_findDriest 83 = .ok (.invokevirtual 40, 3) := by decide +kernel
theorem d_Trials_findDriest_86 : decode b_Trials_findDriest 86 = .ok (.aload_n 0, 1) := by decide +kernel
theorem d_Trials_findDriest_87 : decode b_Trials_findDriest 87 = .ok (.iload 4, 2) := by decide +kernel
theorem d_Trials_findDriest_89 : decode b_Trials_findDriest 89 = .ok (.invokevirtual 44, 3) := by decide +kernel
theorem d_Trials_findDriest_92 : decode b_Trials_findDriest 92 = .ok (.istore 7, 2) := by decide +kernel
theorem d_Trials_findDriest_94 : decode b_Trials_findDriest 94 = .ok (.iinc 8 1, 3) := by decide +kernel
theorem d_Trials_findDriest_97 : decode b_Trials_findDriest 97 = .ok (.goto (-50), 3) := by decide +kernel
theorem d_Trials_findDriest_100 : decode b_Trials_findDriest 100 = .ok (.return_, 1) := by decide +kernel
abbrev b_Trials_keepRow : ByteArray := prog_10_method_3_code
def y_Trials_keepRow : MethodName := ⟨"WallDamp$Trials", "keepRow", "(I)V"⟩
def ws_Trials_keepRow : List Cond := .code y_Trials_keepRow b_Trials_keepRow 3 none :: x_tb
theorem pd_Trials_keepRow : y_Trials_keepRow.cls ≠ "java/lang/invoke/MethodHandle" ∧ y_Trials_keepRow.cls ≠ "java/lang/invoke/VarHandle" ∧ (parseMethodDescriptor y_Trials_keepRow.desc).map (fun d => d.parameters.length) = some 1 := by decide +kernel
theorem d_Trials_keepRow_0 : decode b_Trials_keepRow 0 = .ok (.iconst 0, 1) := by decide +kernel
theorem d_Trials_keepRow_1 : decode b_Trials_keepRow 1 = .ok (.istore_n 2, 1) := by decide +kernel
theorem d_Trials_keepRow_2 : decode b_Trials_keepRow 2 = .ok (.iload_n 2, 1) := by decide +kernel
theorem d_Trials_keepRow_3 : decode b_Trials_keepRow 3 = .ok (.iload_n 1, 1) := by decide +kernel
theorem d_Trials_keepRow_4 : decode b_Trials_keepRow 4 = .ok (.if_icmp .ge 21, 3) := by decide +kernel
theorem d_Trials_keepRow_7 : decode b_Trials_keepRow 7 = .ok (.aload_n 0, 1) := by decide +kernel
theorem d_Trials_keepRow_8 : decode b_Trials_keepRow 8 = .ok (.getfield 19, 3) := by decide +kernel
theorem d_Trials_keepRow_11 : decode b_Trials_keepRow 11 = .ok (.iload_n 2, 1) := by decide +kernel
theorem d_Trials_keepRow_12 : decode b_Trials_keepRow 12 = .ok (.aload_n 0, 1) := by decide +kernel
theorem d_Trials_keepRow_13 : decode b_Trials_keepRow 13 = .ok (.getfield 15, 3) := by decide +kernel
theorem d_Trials_keepRow_16 : decode b_Trials_keepRow 16 = .ok (.iload_n 2, 1) := by decide +kernel
theorem d_Trials_keepRow_17 : decode b_Trials_keepRow 17 = .ok (.iaload, 1) := by decide +kernel
theorem d_Trials_keepRow_18 : decode b_Trials_keepRow 18 = .ok (.iastore, 1) := by decide +kernel
theorem d_Trials_keepRow_19 : decode b_Trials_keepRow 19 = .ok (.iinc 2 1, 3) := by decide +kernel
theorem d_Trials_keepRow_22 : decode b_Trials_keepRow 22 = .ok (.goto (-20), 3) := by decide +kernel
theorem d_Trials_keepRow_25 : decode b_Trials_keepRow 25 = .ok (.return_, 1) := by decide +kernel
abbrev b_Trials_waterBehind : ByteArray := prog_10_method_4_code
def y_Trials_waterBehind : MethodName := ⟨"WallDamp$Trials", "waterBehind", "(LWallDamp$Wall;LWallDamp$Surroundings;I)J"⟩
def ws_Trials_waterBehind : List Cond := .code y_Trials_waterBehind b_Trials_waterBehind 6 (some (.long)) :: x_tb
theorem pd_Trials_waterBehind : y_Trials_waterBehind.cls ≠ "java/lang/invoke/MethodHandle" ∧ y_Trials_waterBehind.cls ≠ "java/lang/invoke/VarHandle" ∧ (parseMethodDescriptor y_Trials_waterBehind.desc).map (fun d => d.parameters.length) = some 3 := by decide +kernel
theorem d_Trials_waterBehind_0 : decode b_Trials_waterBehind 0 = .ok (.iconst 0, 1) := by decide +kernel
theorem d_Trials_waterBehind_1 : decode b_Trials_waterBehind 1 = .ok (.istore 4, 2) := by decide +kernel
theorem d_Trials_waterBehind_3 : decode b_Trials_waterBehind 3 = .ok (.iload 4, 2) := by decide +kernel
theorem d_Trials_waterBehind_5 : decode b_Trials_waterBehind 5 = .ok (.aload_n 0, 1) := by decide +kernel
theorem d_Trials_waterBehind_6 : decode b_Trials_waterBehind 6 = .ok (.getfield 9, 3) := by decide +kernel
theorem d_Trials_waterBehind_9 : decode b_Trials_waterBehind 9 = .ok (.getfield 22, 3) := by decide +kernel
theorem d_Trials_waterBehind_12 : decode b_Trials_waterBehind 12 = .ok (.arraylength, 1) := by decide +kernel
theorem d_Trials_waterBehind_13 : decode b_Trials_waterBehind 13 = .ok (.if_icmp .ge 63, 3) := by decide +kernel
theorem d_Trials_waterBehind_16 : decode b_Trials_waterBehind 16 = .ok (.iload 4, 2) := by decide +kernel
theorem d_Trials_waterBehind_18 : decode b_Trials_waterBehind 18 = .ok (.aload_n 0, 1) := by decide +kernel
theorem d_Trials_waterBehind_19 : decode b_Trials_waterBehind 19 = .ok (.getfield 15, 3) := by decide +kernel
theorem d_Trials_waterBehind_22 : decode b_Trials_waterBehind 22 = .ok (.arraylength, 1) := by decide +kernel
theorem d_Trials_waterBehind_23 : decode b_Trials_waterBehind 23 = .ok (.if_icmp .ge 53, 3) := by decide +kernel
theorem d_Trials_waterBehind_26 : decode b_Trials_waterBehind 26 = .ok (.aload_n 0, 1) := by decide +kernel
theorem d_Trials_waterBehind_27 : decode b_Trials_waterBehind 27 = .ok (.getfield 15, 3) := by decide +kernel
theorem d_Trials_waterBehind_30 : decode b_Trials_waterBehind 30 = .ok (.iload 4, 2) := by decide +kernel
theorem d_Trials_waterBehind_32 : decode b_Trials_waterBehind 32 = .ok (.iaload, 1) := by decide +kernel
theorem d_Trials_waterBehind_33 : decode b_Trials_waterBehind 33 = .ok (.istore 5, 2) := by decide +kernel
theorem d_Trials_waterBehind_35 : decode b_Trials_waterBehind 35 = .ok (.iload 5, 2) := by decide +kernel
theorem d_Trials_waterBehind_37 : decode b_Trials_waterBehind 37 = .ok (.ifCond .lt 33, 3) := by decide +kernel
theorem d_Trials_waterBehind_40 : decode b_Trials_waterBehind 40 = .ok (.iload 5, 2) := by decide +kernel
theorem d_Trials_waterBehind_42 : decode b_Trials_waterBehind 42 = .ok (.aload_n 1, 1) := by decide +kernel
theorem d_Trials_waterBehind_43 : decode b_Trials_waterBehind 43 = .ok (.getfield 22, 3) := by decide +kernel
theorem d_Trials_waterBehind_46 : decode b_Trials_waterBehind 46 = .ok (.arraylength, 1) := by decide +kernel
theorem d_Trials_waterBehind_47 : decode b_Trials_waterBehind 47 = .ok (.if_icmp .ge 23, 3) := by decide +kernel
theorem d_Trials_waterBehind_50 : decode b_Trials_waterBehind 50 = .ok (.aload_n 0, 1) := by decide +kernel
theorem d_Trials_waterBehind_51 : decode b_Trials_waterBehind 51 = .ok (.getfield 9, 3) := by decide +kernel
theorem d_Trials_waterBehind_54 : decode b_Trials_waterBehind 54 = .ok (.getfield 22, 3) := by decide +kernel
theorem d_Trials_waterBehind_57 : decode b_Trials_waterBehind 57 = .ok (.iload 4, 2) := by decide +kernel
theorem d_Trials_waterBehind_59 : decode b_Trials_waterBehind 59 = .ok (.aaload, 1) := by decide +kernel
theorem d_Trials_waterBehind_60 : decode b_Trials_waterBehind 60 = .ok (.aload_n 1, 1) := by decide +kernel
theorem d_Trials_waterBehind_61 : decode b_Trials_waterBehind 61 = .ok (.getfield 22, 3) := by decide +kernel
theorem d_Trials_waterBehind_64 : decode b_Trials_waterBehind 64 = .ok (.iload 5, 2) := by decide +kernel
theorem d_Trials_waterBehind_66 : decode b_Trials_waterBehind 66 = .ok (.aaload, 1) := by decide +kernel
theorem d_Trials_waterBehind_67 : decode b_Trials_waterBehind 67 = .ok (.invokevirtual 48, 3) := by decide +kernel
theorem d_Trials_waterBehind_70 : decode b_Trials_waterBehind 70 = .ok (.iinc 4 1, 3) := by decide +kernel
theorem d_Trials_waterBehind_73 : decode b_Trials_waterBehind 73 = .ok (.goto (-70), 3) := by decide +kernel
theorem d_Trials_waterBehind_76 : decode b_Trials_waterBehind 76 = .ok (.iconst 0, 1) := by decide +kernel
theorem d_Trials_waterBehind_77 : decode b_Trials_waterBehind 77 = .ok (.istore 4, 2) := by decide +kernel
theorem d_Trials_waterBehind_79 : decode b_Trials_waterBehind 79 = .ok (.iload 4, 2) := by decide +kernel
theorem d_Trials_waterBehind_81 : decode b_Trials_waterBehind 81 = .ok (.iload_n 3, 1) := by decide +kernel
theorem d_Trials_waterBehind_82 : decode b_Trials_waterBehind 82 = .ok (.if_icmp .ge 19, 3) := by decide +kernel
theorem d_Trials_waterBehind_85 : decode b_Trials_waterBehind 85 = .ok (.aload_n 0, 1) := by decide +kernel
theorem d_Trials_waterBehind_86 : decode b_Trials_waterBehind 86 = .ok (.getfield 9, 3) := by decide +kernel
theorem d_Trials_waterBehind_89 : decode b_Trials_waterBehind 89 = .ok (.aload_n 2, 1) := by decide +kernel
theorem d_Trials_waterBehind_90 : decode b_Trials_waterBehind 90 = .ok (.iload 4, 2) := by decide +kernel
theorem d_Trials_waterBehind_92 : decode b_Trials_waterBehind 92 = .ok (.invokevirtual 54, 3) := by decide +kernel
theorem d_Trials_waterBehind_95 : decode b_Trials_waterBehind 95 = .ok (.iinc 4 1, 3) := by decide +kernel
theorem d_Trials_waterBehind_98 : decode b_Trials_waterBehind 98 = .ok (.goto (-19), 3) := by decide +kernel
theorem d_Trials_waterBehind_101 : decode b_Trials_waterBehind 101 = .ok (.aload_n 0, 1) := by decide +kernel
theorem d_Trials_waterBehind_102 : decode b_Trials_waterBehind 102 = .ok (.getfield 9, 3) := by decide +kernel
theorem d_Trials_waterBehind_105 : decode b_Trials_waterBehind 105 = .ok (.invokevirtual 58, 3) := by decide +kernel
theorem d_Trials_waterBehind_108 : decode b_Trials_waterBehind 108 = .ok (.lreturn, 1) := by decide +kernel
abbrev b_Trials_stepRow : ByteArray := prog_10_method_5_code
def y_Trials_stepRow : MethodName := ⟨"WallDamp$Trials", "stepRow", "(I)Z"⟩
def ws_Trials_stepRow : List Cond := .code y_Trials_stepRow b_Trials_stepRow 5 (some (.boolean)) :: x_tb
theorem pd_Trials_stepRow : y_Trials_stepRow.cls ≠ "java/lang/invoke/MethodHandle" ∧ y_Trials_stepRow.cls ≠ "java/lang/invoke/VarHandle" ∧ (parseMethodDescriptor y_Trials_stepRow.desc).map (fun d => d.parameters.length) = some 1 := by decide +kernel
theorem d_Trials_stepRow_0 : decode b_Trials_stepRow 0 = .ok (.iload_n 1, 1) := by decide +kernel
theorem d_Trials_stepRow_1 : decode b_Trials_stepRow 1 = .ok (.iconst 2, 1) := by decide +kernel
theorem d_Trials_stepRow_2 : decode b_Trials_stepRow 2 = .ok (.isub, 1) := by decide +kernel
theorem d_Trials_stepRow_3 : decode b_Trials_stepRow 3 = .ok (.istore_n 2, 1) := by decide +kernel
theorem d_Trials_stepRow_4 : decode b_Trials_stepRow 4 = .ok (.iload_n 2, 1) := by decide +kernel
theorem d_Trials_stepRow_5 : decode b_Trials_stepRow 5 = .ok (.ifCond .lt 26, 3) := by decide +kernel
theorem d_Trials_stepRow_8 : decode b_Trials_stepRow 8 = .ok (.aload_n 0, 1) := by decide +kernel
theorem d_Trials_stepRow_9 : decode b_Trials_stepRow 9 = .ok (.getfield 15, 3) := by decide +kernel
theorem d_Trials_stepRow_12 : decode b_Trials_stepRow 12 = .ok (.iload_n 2, 1) := by decide +kernel
theorem d_Trials_stepRow_13 : decode b_Trials_stepRow 13 = .ok (.iaload, 1) := by decide +kernel
theorem d_Trials_stepRow_14 : decode b_Trials_stepRow 14 = .ok (.aload_n 0, 1) := by decide +kernel
theorem d_Trials_stepRow_15 : decode b_Trials_stepRow 15 = .ok (.getfield 15, 3) := by decide +kernel
theorem d_Trials_stepRow_18 : decode b_Trials_stepRow 18 = .ok (.iload_n 2, 1) := by decide +kernel
theorem d_Trials_stepRow_19 : decode b_Trials_stepRow 19 = .ok (.iconst 1, 1) := by decide +kernel
theorem d_Trials_stepRow_20 : decode b_Trials_stepRow 20 = .ok (.iadd, 1) := by decide +kernel
theorem d_Trials_stepRow_21 : decode b_Trials_stepRow 21 = .ok (.iaload, 1) := by decide +kernel
theorem d_Trials_stepRow_22 : decode b_Trials_stepRow 22 = .ok (.if_icmp .le 9, 3) := by decide +kernel
theorem d_Trials_stepRow_25 : decode b_Trials_stepRow 25 = .ok (.iinc 2 (-1), 3) := by decide +kernel
theorem d_Trials_stepRow_28 : decode b_Trials_stepRow 28 = .ok (.goto (-24), 3) := by decide +kernel
theorem d_Trials_stepRow_31 : decode b_Trials_stepRow 31 = .ok (.iload_n 2, 1) := by decide +kernel
theorem d_Trials_stepRow_32 : decode b_Trials_stepRow 32 = .ok (.ifCond .ge 5, 3) := by decide +kernel
theorem d_Trials_stepRow_35 : decode b_Trials_stepRow 35 = .ok (.iconst 0, 1) := by decide +kernel
theorem d_Trials_stepRow_36 : decode b_Trials_stepRow 36 = .ok (.ireturn, 1) := by decide +kernel
theorem d_Trials_stepRow_37 : decode b_Trials_stepRow 37 = .ok (.iload_n 1, 1) := by decide +kernel
theorem d_Trials_stepRow_38 : decode b_Trials_stepRow 38 = .ok (.iconst 1, 1) := by decide +kernel
theorem d_Trials_stepRow_39 : decode b_Trials_stepRow 39 = .ok (.isub, 1) := by decide +kernel
theorem d_Trials_stepRow_40 : decode b_Trials_stepRow 40 = .ok (.istore_n 3, 1) := by decide +kernel
theorem d_Trials_stepRow_41 : decode b_Trials_stepRow 41 = .ok (.iload_n 3, 1) := by decide +kernel
theorem d_Trials_stepRow_42 : decode b_Trials_stepRow 42 = .ok (.iload_n 2, 1) := by decide +kernel
theorem d_Trials_stepRow_43 : decode b_Trials_stepRow 43 = .ok (.if_icmp .le 24, 3) := by decide +kernel
theorem d_Trials_stepRow_46 : decode b_Trials_stepRow 46 = .ok (.aload_n 0, 1) := by decide +kernel
theorem d_Trials_stepRow_47 : decode b_Trials_stepRow 47 = .ok (.getfield 15, 3) := by decide +kernel
theorem d_Trials_stepRow_50 : decode b_Trials_stepRow 50 = .ok (.iload_n 3, 1) := by decide +kernel
theorem d_Trials_stepRow_51 : decode b_Trials_stepRow 51 = .ok (.iaload, 1) := by decide +kernel
theorem d_Trials_stepRow_52 : decode b_Trials_stepRow 52 = .ok (.aload_n 0, 1) := by decide +kernel
theorem d_Trials_stepRow_53 : decode b_Trials_stepRow 53 = .ok (.getfield 15, 3) := by decide +kernel
theorem d_Trials_stepRow_56 : decode b_Trials_stepRow 56 = .ok (.iload_n 2, 1) := by decide +kernel
theorem d_Trials_stepRow_57 : decode b_Trials_stepRow 57 = .ok (.iaload, 1) := by decide +kernel
theorem d_Trials_stepRow_58 : decode b_Trials_stepRow 58 = .ok (.if_icmp .ge 9, 3) := by decide +kernel
theorem d_Trials_stepRow_61 : decode b_Trials_stepRow 61 = .ok (.iinc 3 (-1), 3) := by decide +kernel
theorem d_Trials_stepRow_64 : decode b_Trials_stepRow 64 = .ok (.goto (-23), 3) := by decide +kernel
theorem d_Trials_stepRow_67 : decode b_Trials_stepRow 67 = .ok (.aload_n 0, 1) := by decide +kernel
theorem d_Trials_stepRow_68 : decode b_Trials_stepRow 68 = .ok (.iload_n 2, 1) := by decide +kernel
theorem d_Trials_stepRow_69 : decode b_Trials_stepRow 69 = .ok (.iload_n 3, 1) := by decide +kernel
theorem d_Trials_stepRow_70 : decode b_Trials_stepRow 70 = .ok (.invokevirtual 62, 3) := by decide +kernel
theorem d_Trials_stepRow_73 : decode b_Trials_stepRow 73 = .ok (.iconst 1, 1) := by decide +kernel
theorem d_Trials_stepRow_74 : decode b_Trials_stepRow 74 = .ok (.istore 4, 2) := by decide +kernel
theorem d_Trials_stepRow_76 : decode b_Trials_stepRow 76 = .ok (.iload_n 2, 1) := by decide +kernel
theorem d_Trials_stepRow_77 : decode b_Trials_stepRow 77 = .ok (.iload 4, 2) := by decide +kernel
theorem d_Trials_stepRow_79 : decode b_Trials_stepRow 79 = .ok (.iadd, 1) := by decide +kernel
theorem d_Trials_stepRow_80 : decode b_Trials_stepRow 80 = .ok (.iload_n 1, 1) := by decide +kernel
theorem d_Trials_stepRow_81 : decode b_Trials_stepRow 81 = .ok (.iload 4, 2) := by decide +kernel
theorem d_Trials_stepRow_83 : decode b_Trials_stepRow 83 = .ok (.isub, 1) := by decide +kernel
theorem d_Trials_stepRow_84 : decode b_Trials_stepRow 84 = .ok (.if_icmp .ge 21, 3) := by decide +kernel
theorem d_Trials_stepRow_87 : decode b_Trials_stepRow 87 = .ok (.aload_n 0, 1) := by decide +kernel
theorem d_Trials_stepRow_88 : decode b_Trials_stepRow 88 = .ok (.iload_n 2, 1) := by decide +kernel
theorem d_Trials_stepRow_89 : decode b_Trials_stepRow 89 = .ok (.iload 4, 2) := by decide +kernel
theorem d_Trials_stepRow_91 : decode b_Trials_stepRow 91 = .ok (.iadd, 1) := by decide +kernel
theorem d_Trials_stepRow_92 : decode b_Trials_stepRow 92 = .ok (.iload_n 1, 1) := by decide +kernel
theorem d_Trials_stepRow_93 : decode b_Trials_stepRow 93 = .ok (.iload 4, 2) := by decide +kernel
theorem d_Trials_stepRow_95 : decode b_Trials_stepRow 95 = .ok (.isub, 1) := by decide +kernel
theorem d_Trials_stepRow_96 : decode b_Trials_stepRow 96 = .ok (.invokevirtual 62, 3) := by decide +kernel
theorem d_Trials_stepRow_99 : decode b_Trials_stepRow 99 = .ok (.iinc 4 1, 3) := by decide +kernel
theorem d_Trials_stepRow_102 : decode b_Trials_stepRow 102 = .ok (.goto (-26), 3) := by decide +kernel
theorem d_Trials_stepRow_105 : decode b_Trials_stepRow 105 = .ok (.iconst 1, 1) := by decide +kernel
theorem d_Trials_stepRow_106 : decode b_Trials_stepRow 106 = .ok (.ireturn, 1) := by decide +kernel
abbrev b_Trials_swap : ByteArray := prog_10_method_6_code
def y_Trials_swap : MethodName := ⟨"WallDamp$Trials", "swap", "(II)V"⟩
def ws_Trials_swap : List Cond := .code y_Trials_swap b_Trials_swap 4 none :: x_tb
theorem pd_Trials_swap : y_Trials_swap.cls ≠ "java/lang/invoke/MethodHandle" ∧ y_Trials_swap.cls ≠ "java/lang/invoke/VarHandle" ∧ (parseMethodDescriptor y_Trials_swap.desc).map (fun d => d.parameters.length) = some 2 := by decide +kernel
theorem d_Trials_swap_0 : decode b_Trials_swap 0 = .ok (.aload_n 0, 1) := by decide +kernel
theorem d_Trials_swap_1 : decode b_Trials_swap 1 = .ok (.getfield 15, 3) := by decide +kernel
theorem d_Trials_swap_4 : decode b_Trials_swap 4 = .ok (.iload_n 1, 1) := by decide +kernel
theorem d_Trials_swap_5 : decode b_Trials_swap 5 = .ok (.iaload, 1) := by decide +kernel
theorem d_Trials_swap_6 : decode b_Trials_swap 6 = .ok (.istore_n 3, 1) := by decide +kernel
theorem d_Trials_swap_7 : decode b_Trials_swap 7 = .ok (.aload_n 0, 1) := by decide +kernel
theorem d_Trials_swap_8 : decode b_Trials_swap 8 = .ok (.getfield 15, 3) := by decide +kernel
theorem d_Trials_swap_11 : decode b_Trials_swap 11 = .ok (.iload_n 1, 1) := by decide +kernel
theorem d_Trials_swap_12 : decode b_Trials_swap 12 = .ok (.aload_n 0, 1) := by decide +kernel
theorem d_Trials_swap_13 : decode b_Trials_swap 13 = .ok (.getfield 15, 3) := by decide +kernel
theorem d_Trials_swap_16 : decode b_Trials_swap 16 = .ok (.iload_n 2, 1) := by decide +kernel
theorem d_Trials_swap_17 : decode b_Trials_swap 17 = .ok (.iaload, 1) := by decide +kernel
theorem d_Trials_swap_18 : decode b_Trials_swap 18 = .ok (.iastore, 1) := by decide +kernel
theorem d_Trials_swap_19 : decode b_Trials_swap 19 = .ok (.aload_n 0, 1) := by decide +kernel
theorem d_Trials_swap_20 : decode b_Trials_swap 20 = .ok (.getfield 15, 3) := by decide +kernel
theorem d_Trials_swap_23 : decode b_Trials_swap 23 = .ok (.iload_n 2, 1) := by decide +kernel
theorem d_Trials_swap_24 : decode b_Trials_swap 24 = .ok (.iload_n 3, 1) := by decide +kernel
theorem d_Trials_swap_25 : decode b_Trials_swap 25 = .ok (.iastore, 1) := by decide +kernel
theorem d_Trials_swap_26 : decode b_Trials_swap 26 = .ok (.return_, 1) := by decide +kernel
abbrev b_Wall_init : ByteArray := prog_11_method_1_code
def y_Wall_init : MethodName := ⟨"WallDamp$Wall", "<init>", "(ILWallDamp$Material;)V"⟩
def ws_Wall_init : List Cond := .code y_Wall_init b_Wall_init 5 none :: x_tb
theorem pd_Wall_init : y_Wall_init.cls ≠ "java/lang/invoke/MethodHandle" ∧ y_Wall_init.cls ≠ "java/lang/invoke/VarHandle" ∧ (parseMethodDescriptor y_Wall_init.desc).map (fun d => d.parameters.length) = some 2 := by decide +kernel
theorem d_Wall_init_0 : decode b_Wall_init 0 = .ok (.aload_n 0, 1) := by decide +kernel
theorem d_Wall_init_1 : decode b_Wall_init 1 = .ok (.invokespecial 3, 3) := by decide +kernel
theorem d_Wall_init_4 : decode b_Wall_init 4 = .ok (.iconst 1, 1) := by decide +kernel
theorem d_Wall_init_5 : decode b_Wall_init 5 = .ok (.iload_n 1, 1) := by decide +kernel
theorem d_Wall_init_6 : decode b_Wall_init 6 = .ok (.invokestatic 9, 3) := by decide +kernel
theorem d_Wall_init_9 : decode b_Wall_init 9 = .ok (.istore_n 3, 1) := by decide +kernel
theorem d_Wall_init_10 : decode b_Wall_init 10 = .ok (.aload_n 0, 1) := by decide +kernel
theorem d_Wall_init_11 : decode b_Wall_init 11 = .ok (.new 15, 3) := by decide +kernel
theorem d_Wall_init_14 : decode b_Wall_init 14 = .ok (.dup, 1) := by decide +kernel
theorem d_Wall_init_15 : decode b_Wall_init 15 = .ok (.invokespecial 17, 3) := by decide +kernel
theorem d_Wall_init_18 : decode b_Wall_init 18 = .ok (.putfield 18, 3) := by decide +kernel
theorem d_Wall_init_21 : decode b_Wall_init 21 = .ok (.aload_n 0, 1) := by decide +kernel
theorem d_Wall_init_22 : decode b_Wall_init 22 = .ok (.new 15, 3) := by decide +kernel
theorem d_Wall_init_25 : decode b_Wall_init 25 = .ok (.dup, 1) := by decide +kernel
theorem d_Wall_init_26 : decode b_Wall_init 26 = .ok (.invokespecial 17, 3) := by decide +kernel
theorem d_Wall_init_29 : decode b_Wall_init 29 = .ok (.putfield 24, 3) := by decide +kernel
theorem d_Wall_init_32 : decode b_Wall_init 32 = .ok (.aload_n 0, 1) := by decide +kernel
theorem d_Wall_init_33 : decode b_Wall_init 33 = .ok (.iload_n 3, 1) := by decide +kernel
theorem d_Wall_init_34 : decode b_Wall_init 34 = .ok (.anewarray 27, 3) := by decide +kernel
theorem d_Wall_init_37 : decode b_Wall_init 37 = .ok (.putfield 29, 3) := by decide +kernel
theorem d_Wall_init_40 : decode b_Wall_init 40 = .ok (.aload_n 0, 1) := by decide +kernel
theorem d_Wall_init_41 : decode b_Wall_init 41 = .ok (.iload_n 3, 1) := by decide +kernel
theorem d_Wall_init_42 : decode b_Wall_init 42 = .ok (.anewarray 33, 3) := by decide +kernel
theorem d_Wall_init_45 : decode b_Wall_init 45 = .ok (.putfield 35, 3) := by decide +kernel
theorem d_Wall_init_48 : decode b_Wall_init 48 = .ok (.iconst 0, 1) := by decide +kernel
theorem d_Wall_init_49 : decode b_Wall_init 49 = .ok (.istore 4, 2) := by decide +kernel
theorem d_Wall_init_51 : decode b_Wall_init 51 = .ok (.iload 4, 2) := by decide +kernel
theorem d_Wall_init_53 : decode b_Wall_init 53 = .ok (.iload_n 3, 1) := by decide +kernel
theorem d_Wall_init_54 : decode b_Wall_init 54 = .ok (.if_icmp .ge 49, 3) := by decide +kernel
theorem d_Wall_init_57 : decode b_Wall_init 57 = .ok (.aload_n 0, 1) := by decide +kernel
theorem d_Wall_init_58 : decode b_Wall_init 58 = .ok (.getfield 29, 3) := by decide +kernel
theorem d_Wall_init_61 : decode b_Wall_init 61 = .ok (.iload 4, 2) := by decide +kernel
theorem d_Wall_init_63 : decode b_Wall_init 63 = .ok (.new 27, 3) := by decide +kernel
theorem d_Wall_init_66 : decode b_Wall_init 66 = .ok (.dup, 1) := by decide +kernel
theorem d_Wall_init_67 : decode b_Wall_init 67 = .ok (.aload_n 2, 1) := by decide +kernel
theorem d_Wall_init_68 : decode b_Wall_init 68 = .ok (.invokespecial 39, 3) := by decide +kernel
theorem d_Wall_init_71 : decode b_Wall_init 71 = .ok (.aastore, 1) := by decide +kernel
theorem d_Wall_init_72 : decode b_Wall_init 72 = .ok (.aload_n 0, 1) := by decide +kernel
theorem d_Wall_init_73 : decode b_Wall_init 73 = .ok (.getfield 35, 3) := by decide +kernel
theorem d_Wall_init_76 : decode b_Wall_init 76 = .ok (.iload 4, 2) := by decide +kernel
theorem d_Wall_init_78 : decode b_Wall_init 78 = .ok (.new 33, 3) := by decide +kernel
theorem d_Wall_init_81 : decode b_Wall_init 81 = .ok (.dup, 1) := by decide +kernel
theorem d_Wall_init_82 : decode b_Wall_init 82 = .ok (.aload_n 0, 1) := by decide +kernel
theorem d_Wall_init_83 : decode b_Wall_init 83 = .ok (.getfield 29, 3) := by decide +kernel
theorem d_Wall_init_86 : decode b_Wall_init 86 = .ok (.iload 4, 2) := by decide +kernel
theorem d_Wall_init_88 : decode b_Wall_init 88 = .ok (.aaload, 1) := by decide +kernel
theorem d_Wall_init_89 : decode b_Wall_init 89 = .ok (.aload_n 0, 1) := by decide +kernel
theorem d_Wall_init_90 : decode b_Wall_init 90 = .ok (.getfield 24, 3) := by decide +kernel
theorem d_Wall_init_93 : decode b_Wall_init 93 = .ok (.invokespecial 42, 3) := by decide +kernel
theorem d_Wall_init_96 : decode b_Wall_init 96 = .ok (.aastore, 1) := by decide +kernel
theorem d_Wall_init_97 : decode b_Wall_init 97 = .ok (.iinc 4 1, 3) := by decide +kernel
theorem d_Wall_init_100 : decode b_Wall_init 100 = .ok (.goto (-49), 3) := by decide +kernel
theorem d_Wall_init_103 : decode b_Wall_init 103 = .ok (.aload_n 0, 1) := by decide +kernel
theorem d_Wall_init_104 : decode b_Wall_init 104 = .ok (.iload_n 3, 1) := by decide +kernel
theorem d_Wall_init_105 : decode b_Wall_init 105 = .ok (.iconst 1, 1) := by decide +kernel
theorem d_Wall_init_106 : decode b_Wall_init 106 = .ok (.isub, 1) := by decide +kernel
theorem d_Wall_init_107 : decode b_Wall_init 107 = .ok (.anewarray 33, 3) := by decide +kernel
theorem d_Wall_init_110 : decode b_Wall_init 110 = .ok (.putfield 45, 3) := by decide +kernel
theorem d_Wall_init_113 : decode b_Wall_init 113 = .ok (.iconst 0, 1) := by decide +kernel
theorem d_Wall_init_114 : decode b_Wall_init 114 = .ok (.istore 4, 2) := by decide +kernel
theorem d_Wall_init_116 : decode b_Wall_init 116 = .ok (.iload 4, 2) := by decide +kernel
theorem d_Wall_init_118 : decode b_Wall_init 118 = .ok (.iload_n 3, 1) := by decide +kernel
theorem d_Wall_init_119 : decode b_Wall_init 119 = .ok (.iconst 1, 1) := by decide +kernel
theorem d_Wall_init_120 : decode b_Wall_init 120 = .ok (.isub, 1) := by decide +kernel
theorem d_Wall_init_121 : decode b_Wall_init 121 = .ok (.if_icmp .ge 39, 3) := by decide +kernel
theorem d_Wall_init_124 : decode b_Wall_init 124 = .ok (.aload_n 0, 1) := by decide +kernel
theorem d_Wall_init_125 : decode b_Wall_init 125 = .ok (.getfield 45, 3) := by decide +kernel
theorem d_Wall_init_128 : decode b_Wall_init 128 = .ok (.iload 4, 2) := by decide +kernel
theorem d_Wall_init_130 : decode b_Wall_init 130 = .ok (.new 33, 3) := by decide +kernel
theorem d_Wall_init_133 : decode b_Wall_init 133 = .ok (.dup, 1) := by decide +kernel
theorem d_Wall_init_134 : decode b_Wall_init 134 = .ok (.aload_n 0, 1) := by decide +kernel
theorem d_Wall_init_135 : decode b_Wall_init 135 = .ok (.getfield 29, 3) := by decide +kernel
theorem d_Wall_init_138 : decode b_Wall_init 138 = .ok (.iload 4, 2) := by decide +kernel
theorem d_Wall_init_140 : decode b_Wall_init 140 = .ok (.aaload, 1) := by decide +kernel
theorem d_Wall_init_141 : decode b_Wall_init 141 = .ok (.aload_n 0, 1) := by decide +kernel
theorem d_Wall_init_142 : decode b_Wall_init 142 = .ok (.getfield 29, 3) := by decide +kernel
theorem d_Wall_init_145 : decode b_Wall_init 145 = .ok (.iload 4, 2) := by decide +kernel
theorem d_Wall_init_147 : decode b_Wall_init 147 = .ok (.iconst 1, 1) := by decide +kernel
theorem d_Wall_init_148 : decode b_Wall_init 148 = .ok (.iadd, 1) := by decide +kernel
theorem d_Wall_init_149 : decode b_Wall_init 149 = .ok (.aaload, 1) := by decide +kernel
theorem d_Wall_init_150 : decode b_Wall_init 150 = .ok (.invokespecial 42, 3) := by decide +kernel
theorem d_Wall_init_153 : decode b_Wall_init 153 = .ok (.aastore, 1) := by decide +kernel
theorem d_Wall_init_154 : decode b_Wall_init 154 = .ok (.iinc 4 1, 3) := by decide +kernel
theorem d_Wall_init_157 : decode b_Wall_init 157 = .ok (.goto (-41), 3) := by decide +kernel
theorem d_Wall_init_160 : decode b_Wall_init 160 = .ok (.aload_n 0, 1) := by decide +kernel
theorem d_Wall_init_161 : decode b_Wall_init 161 = .ok (.new 33, 3) := by decide +kernel
theorem d_Wall_init_164 : decode b_Wall_init 164 = .ok (.dup, 1) := by decide +kernel
theorem d_Wall_init_165 : decode b_Wall_init 165 = .ok (.aload_n 0, 1) := by decide +kernel
theorem d_Wall_init_166 : decode b_Wall_init 166 = .ok (.getfield 18, 3) := by decide +kernel
theorem d_Wall_init_169 : decode b_Wall_init 169 = .ok (.aload_n 0, 1) := by decide +kernel
theorem d_Wall_init_170 : decode b_Wall_init 170 = .ok (.getfield 29, 3) := by decide +kernel
theorem d_Wall_init_173 : decode b_Wall_init 173 = .ok (.iconst 0, 1) := by decide +kernel
theorem d_Wall_init_174 : decode b_Wall_init 174 = .ok (.aaload, 1) := by decide +kernel
theorem d_Wall_init_175 : decode b_Wall_init 175 = .ok (.invokespecial 42, 3) := by decide +kernel
theorem d_Wall_init_178 : decode b_Wall_init 178 = .ok (.putfield 48, 3) := by decide +kernel
theorem d_Wall_init_181 : decode b_Wall_init 181 = .ok (.aload_n 0, 1) := by decide +kernel
theorem d_Wall_init_182 : decode b_Wall_init 182 = .ok (.new 33, 3) := by decide +kernel
theorem d_Wall_init_185 : decode b_Wall_init 185 = .ok (.dup, 1) := by decide +kernel
theorem d_Wall_init_186 : decode b_Wall_init 186 = .ok (.aload_n 0, 1) := by decide +kernel
theorem d_Wall_init_187 : decode b_Wall_init 187 = .ok (.getfield 29, 3) := by decide +kernel
theorem d_Wall_init_190 : decode b_Wall_init 190 = .ok (.iload_n 3, 1) := by decide +kernel
theorem d_Wall_init_191 : decode b_Wall_init 191 = .ok (.iconst 1, 1) := by decide +kernel
theorem d_Wall_init_192 : decode b_Wall_init 192 = .ok (.isub, 1) := by decide +kernel
theorem d_Wall_init_193 : decode b_Wall_init 193 = .ok (.aaload, 1) := by decide +kernel
theorem d_Wall_init_194 : decode b_Wall_init 194 = .ok (.aload_n 0, 1) := by decide +kernel
theorem d_Wall_init_195 : decode b_Wall_init 195 = .ok (.getfield 24, 3) := by decide +kernel
theorem d_Wall_init_198 : decode b_Wall_init 198 = .ok (.invokespecial 42, 3) := by decide +kernel
theorem d_Wall_init_201 : decode b_Wall_init 201 = .ok (.putfield 52, 3) := by decide +kernel
theorem d_Wall_init_204 : decode b_Wall_init 204 = .ok (.aload_n 0, 1) := by decide +kernel
theorem d_Wall_init_205 : decode b_Wall_init 205 = .ok (.new 33, 3) := by decide +kernel
theorem d_Wall_init_208 : decode b_Wall_init 208 = .ok (.dup, 1) := by decide +kernel
theorem d_Wall_init_209 : decode b_Wall_init 209 = .ok (.aload_n 0, 1) := by decide +kernel
theorem d_Wall_init_210 : decode b_Wall_init 210 = .ok (.getfield 18, 3) := by decide +kernel
theorem d_Wall_init_213 : decode b_Wall_init 213 = .ok (.aload_n 0, 1) := by decide +kernel
theorem d_Wall_init_214 : decode b_Wall_init 214 = .ok (.getfield 29, 3) := by decide +kernel
theorem d_Wall_init_217 : decode b_Wall_init 217 = .ok (.iconst 0, 1) := by decide +kernel
theorem d_Wall_init_218 : decode b_Wall_init 218 = .ok (.aaload, 1) := by decide +kernel
theorem d_Wall_init_219 : decode b_Wall_init 219 = .ok (.invokespecial 42, 3) := by decide +kernel
theorem d_Wall_init_222 : decode b_Wall_init 222 = .ok (.putfield 55, 3) := by decide +kernel
theorem d_Wall_init_225 : decode b_Wall_init 225 = .ok (.aload_n 0, 1) := by decide +kernel
theorem d_Wall_init_226 : decode b_Wall_init 226 = .ok (.iconst 3, 1) := by decide +kernel
theorem d_Wall_init_227 : decode b_Wall_init 227 = .ok (.iload_n 3, 1) := by decide +kernel
theorem d_Wall_init_228 : decode b_Wall_init 228 = .ok (.iadd, 1) := by decide +kernel
theorem d_Wall_init_229 : decode b_Wall_init 229 = .ok (.iload_n 3, 1) := by decide +kernel
theorem d_Wall_init_230 : decode b_Wall_init 230 = .ok (.iadd, 1) := by decide +kernel
theorem d_Wall_init_231 : decode b_Wall_init 231 = .ok (.iconst 1, 1) := by decide +kernel
theorem d_Wall_init_232 : decode b_Wall_init 232 = .ok (.isub, 1) := by decide +kernel
theorem d_Wall_init_233 : decode b_Wall_init 233 = .ok (.anewarray 33, 3) := by decide +kernel
theorem d_Wall_init_236 : decode b_Wall_init 236 = .ok (.putfield 58, 3) := by decide +kernel
theorem d_Wall_init_239 : decode b_Wall_init 239 = .ok (.aload_n 0, 1) := by decide +kernel
theorem d_Wall_init_240 : decode b_Wall_init 240 = .ok (.getfield 58, 3) := by decide +kernel
theorem d_Wall_init_243 : decode b_Wall_init 243 = .ok (.iconst 0, 1) := by decide +kernel
theorem d_Wall_init_244 : decode b_Wall_init 244 = .ok (.aload_n 0, 1) := by decide +kernel
theorem d_Wall_init_245 : decode b_Wall_init 245 = .ok (.getfield 48, 3) := by decide +kernel
theorem d_Wall_init_248 : decode b_Wall_init 248 = .ok (.aastore, 1) := by decide +kernel
theorem d_Wall_init_249 : decode b_Wall_init 249 = .ok (.aload_n 0, 1) := by decide +kernel
theorem d_Wall_init_250 : decode b_Wall_init 250 = .ok (.getfield 58, 3) := by decide +kernel
theorem d_Wall_init_253 : decode b_Wall_init 253 = .ok (.iconst 1, 1) := by decide +kernel
theorem d_Wall_init_254 : decode b_Wall_init 254 = .ok (.aload_n 0, 1) := by decide +kernel
theorem d_Wall_init_255 : decode b_Wall_init 255 = .ok (.getfield 52, 3) := by decide +kernel
theorem d_Wall_init_258 : decode b_Wall_init 258 = .ok (.aastore, 1) := by decide +kernel
theorem d_Wall_init_259 : decode b_Wall_init 259 = .ok (.aload_n 0, 1) := by decide +kernel
theorem d_Wall_init_260 : decode b_Wall_init 260 = .ok (.getfield 58, 3) := by decide +kernel
theorem d_Wall_init_263 : decode b_Wall_init 263 = .ok (.iconst 2, 1) := by decide +kernel
theorem d_Wall_init_264 : decode b_Wall_init 264 = .ok (.aload_n 0, 1) := by decide +kernel
theorem d_Wall_init_265 : decode b_Wall_init 265 = .ok (.getfield 55, 3) := by decide +kernel
theorem d_Wall_init_268 : decode b_Wall_init 268 = .ok (.aastore, 1) := by decide +kernel
theorem d_Wall_init_269 : decode b_Wall_init 269 = .ok (.iconst 0, 1) := by decide +kernel
theorem d_Wall_init_270 : decode b_Wall_init 270 = .ok (.istore 4, 2) := by decide +kernel
theorem d_Wall_init_272 : decode b_Wall_init 272 = .ok (.iload 4, 2) := by decide +kernel
theorem d_Wall_init_274 : decode b_Wall_init 274 = .ok (.iload_n 3, 1) := by decide +kernel
theorem d_Wall_init_275 : decode b_Wall_init 275 = .ok (.if_icmp .ge 25, 3) := by decide +kernel
theorem d_Wall_init_278 : decode b_Wall_init 278 = .ok (.aload_n 0, 1) := by decide +kernel
theorem d_Wall_init_279 : decode b_Wall_init 279 = .ok (.getfield 58, 3) := by decide +kernel
theorem d_Wall_init_282 : decode b_Wall_init 282 = .ok (.iconst 3, 1) := by decide +kernel
theorem d_Wall_init_283 : decode b_Wall_init 283 = .ok (.iload 4, 2) := by decide +kernel
theorem d_Wall_init_285 : decode b_Wall_init 285 = .ok (.iadd, 1) := by decide +kernel
theorem d_Wall_init_286 : decode b_Wall_init 286 = .ok (.aload_n 0, 1) := by decide +kernel
theorem d_Wall_init_287 : decode b_Wall_init 287 = .ok (.getfield 35, 3) := by decide +kernel
theorem d_Wall_init_290 : decode b_Wall_init 290 = .ok (.iload 4, 2) := by decide +kernel
theorem d_Wall_init_292 : decode b_Wall_init 292 = .ok (.aaload, 1) := by decide +kernel
theorem d_Wall_init_293 : decode b_Wall_init 293 = .ok (.aastore, 1) := by decide +kernel
theorem d_Wall_init_294 : decode b_Wall_init 294 = .ok (.iinc 4 1, 3) := by decide +kernel
theorem d_Wall_init_297 : decode b_Wall_init 297 = .ok (.goto (-25), 3) := by decide +kernel
theorem d_Wall_init_300 : decode b_Wall_init 300 = .ok (.iconst 0, 1) := by decide +kernel
theorem d_Wall_init_301 : decode b_Wall_init 301 = .ok (.istore 4, 2) := by decide +kernel
theorem d_Wall_init_303 : decode b_Wall_init 303 = .ok (.iload 4, 2) := by decide +kernel
theorem d_Wall_init_305 : decode b_Wall_init 305 = .ok (.iload_n 3, 1) := by decide +kernel
theorem d_Wall_init_306 : decode b_Wall_init 306 = .ok (.iconst 1, 1) := by decide +kernel
theorem d_Wall_init_307 : decode b_Wall_init 307 = .ok (.isub, 1) := by decide +kernel
theorem d_Wall_init_308 : decode b_Wall_init 308 = .ok (.if_icmp .ge 27, 3) := by decide +kernel
theorem d_Wall_init_311 : decode b_Wall_init 311 = .ok (.aload_n 0, 1) := by decide +kernel
theorem d_Wall_init_312 : decode b_Wall_init 312 = .ok (.getfield 58, 3) := by decide +kernel
theorem d_Wall_init_315 : decode b_Wall_init 315 = .ok (.iconst 3, 1) := by decide +kernel
theorem d_Wall_init_316 : decode b_Wall_init 316 = .ok (.iload_n 3, 1) := by decide +kernel
theorem d_Wall_init_317 : decode b_Wall_init 317 = .ok (.iadd, 1) := by decide +kernel
theorem d_Wall_init_318 : decode b_Wall_init 318 = .ok (.iload 4, 2) := by decide +kernel
theorem d_Wall_init_320 : decode b_Wall_init 320 = .ok (.iadd, 1) := by decide +kernel
theorem d_Wall_init_321 : decode b_Wall_init 321 = .ok (.aload_n 0, 1) := by decide +kernel
theorem d_Wall_init_322 : decode b_Wall_init 322 = .ok (.getfield 45, 3) := by decide +kernel
theorem d_Wall_init_325 : decode b_Wall_init 325 = .ok (.iload 4, 2) := by decide +kernel
theorem d_Wall_init_327 : decode b_Wall_init 327 = .ok (.aaload, 1) := by decide +kernel
theorem d_Wall_init_328 : decode b_Wall_init 328 = .ok (.aastore, 1) := by decide +kernel
theorem d_Wall_init_329 : decode b_Wall_init 329 = .ok (.iinc 4 1, 3) := by decide +kernel
theorem d_Wall_init_332 : decode b_Wall_init 332 = .ok (.goto (-29), 3) := by decide +kernel
theorem d_Wall_init_335 : decode b_Wall_init 335 = .ok (.return_, 1) := by decide +kernel
abbrev b_Wall_lastCell : ByteArray := prog_11_method_2_code
def y_Wall_lastCell : MethodName := ⟨"WallDamp$Wall", "lastCell", "()LWallDamp$Cell;"⟩
def ws_Wall_lastCell : List Cond := .code y_Wall_lastCell b_Wall_lastCell 1 (some (.object "WallDamp$Cell")) :: x_tb
theorem pd_Wall_lastCell : y_Wall_lastCell.cls ≠ "java/lang/invoke/MethodHandle" ∧ y_Wall_lastCell.cls ≠ "java/lang/invoke/VarHandle" ∧ (parseMethodDescriptor y_Wall_lastCell.desc).map (fun d => d.parameters.length) = some 0 := by decide +kernel
theorem d_Wall_lastCell_0 : decode b_Wall_lastCell 0 = .ok (.aload_n 0, 1) := by decide +kernel
theorem d_Wall_lastCell_1 : decode b_Wall_lastCell 1 = .ok (.getfield 29, 3) := by decide +kernel
theorem d_Wall_lastCell_4 : decode b_Wall_lastCell 4 = .ok (.aload_n 0, 1) := by decide +kernel
theorem d_Wall_lastCell_5 : decode b_Wall_lastCell 5 = .ok (.getfield 29, 3) := by decide +kernel
theorem d_Wall_lastCell_8 : decode b_Wall_lastCell 8 = .ok (.arraylength, 1) := by decide +kernel
theorem d_Wall_lastCell_9 : decode b_Wall_lastCell 9 = .ok (.iconst 1, 1) := by decide +kernel
theorem d_Wall_lastCell_10 : decode b_Wall_lastCell 10 = .ok (.isub, 1) := by decide +kernel
theorem d_Wall_lastCell_11 : decode b_Wall_lastCell 11 = .ok (.aaload, 1) := by decide +kernel
theorem d_Wall_lastCell_12 : decode b_Wall_lastCell 12 = .ok (.areturn, 1) := by decide +kernel
abbrev b_Wall_allWater : ByteArray := prog_11_method_3_code
def y_Wall_allWater : MethodName := ⟨"WallDamp$Wall", "allWater", "()J"⟩
def ws_Wall_allWater : List Cond := .code y_Wall_allWater b_Wall_allWater 7 (some (.long)) :: x_tb
theorem pd_Wall_allWater : y_Wall_allWater.cls ≠ "java/lang/invoke/MethodHandle" ∧ y_Wall_allWater.cls ≠ "java/lang/invoke/VarHandle" ∧ (parseMethodDescriptor y_Wall_allWater.desc).map (fun d => d.parameters.length) = some 0 := by decide +kernel
theorem d_Wall_allWater_0 : decode b_Wall_allWater 0 = .ok (.lconst 0, 1) := by decide +kernel
theorem d_Wall_allWater_1 : decode b_Wall_allWater 1 = .ok (.lstore_n 1, 1) := by decide +kernel
theorem d_Wall_allWater_2 : decode b_Wall_allWater 2 = .ok (.aload_n 0, 1) := by decide +kernel
theorem d_Wall_allWater_3 : decode b_Wall_allWater 3 = .ok (.getfield 29, 3) := by decide +kernel
theorem d_Wall_allWater_6 : decode b_Wall_allWater 6 = .ok (.astore_n 3, 1) := by decide +kernel
theorem d_Wall_allWater_7 : decode b_Wall_allWater 7 = .ok (.aload_n 3, 1) := by decide +kernel
theorem d_Wall_allWater_8 : decode b_Wall_allWater 8 = .ok (.arraylength, 1) := by decide +kernel
theorem d_Wall_allWater_9 : decode b_Wall_allWater 9 = .ok (.istore 4, 2) := by decide +kernel
theorem d_Wall_allWater_11 : decode b_Wall_allWater 11 = .ok (.iconst 0, 1) := by decide +kernel
theorem d_Wall_allWater_12 : decode b_Wall_allWater 12 = .ok (.istore 5, 2) := by decide +kernel
theorem d_Wall_allWater_14 : decode b_Wall_allWater 14 = .ok (.iload 5, 2) := by decide +kernel
theorem d_Wall_allWater_16 : decode b_Wall_allWater 16 = .ok (.iload 4, 2) := by decide +kernel
theorem d_Wall_allWater_18 : decode b_Wall_allWater 18 = .ok (.if_icmp .ge 24, 3) := by decide +kernel
theorem d_Wall_allWater_21 : decode b_Wall_allWater 21 = .ok (.aload_n 3, 1) := by decide +kernel
theorem d_Wall_allWater_22 : decode b_Wall_allWater 22 = .ok (.iload 5, 2) := by decide +kernel
theorem d_Wall_allWater_24 : decode b_Wall_allWater 24 = .ok (.aaload, 1) := by decide +kernel
theorem d_Wall_allWater_25 : decode b_Wall_allWater 25 = .ok (.astore 6, 2) := by decide +kernel
theorem d_Wall_allWater_27 : decode b_Wall_allWater 27 = .ok (.lload_n 1, 1) := by decide +kernel
theorem d_Wall_allWater_28 : decode b_Wall_allWater 28 = .ok (.aload 6, 2) := by decide +kernel
theorem d_Wall_allWater_30 : decode b_Wall_allWater 30 = .ok (.getfield 61, 3) := by decide +kernel
theorem d_Wall_allWater_33 : decode b_Wall_allWater 33 = .ok (.i2l, 1) := by decide +kernel
theorem d_Wall_allWater_34 : decode b_Wall_allWater 34 = .ok (.ladd, 1) := by decide +kernel
theorem d_Wall_allWater_35 : decode b_Wall_allWater 35 = .ok (.lstore_n 1, 1) := by decide +kernel
theorem d_Wall_allWater_36 : decode b_Wall_allWater 36 = .ok (.iinc 5 1, 3) := by decide +kernel
theorem d_Wall_allWater_39 : decode b_Wall_allWater 39 = .ok (.goto (-25), 3) := by decide +kernel
theorem d_Wall_allWater_42 : decode b_Wall_allWater 42 = .ok (.lload_n 1, 1) := by decide +kernel
theorem d_Wall_allWater_43 : decode b_Wall_allWater 43 = .ok (.lreturn, 1) := by decide +kernel
abbrev b_Wall_moveWater : ByteArray := prog_11_method_4_code
def y_Wall_moveWater : MethodName := ⟨"WallDamp$Wall", "moveWater", "(LWallDamp$Surroundings;I)V"⟩
def ws_Wall_moveWater : List Cond := .code y_Wall_moveWater b_Wall_moveWater 8 none :: x_tb
theorem pd_Wall_moveWater : y_Wall_moveWater.cls ≠ "java/lang/invoke/MethodHandle" ∧ y_Wall_moveWater.cls ≠ "java/lang/invoke/VarHandle" ∧ (parseMethodDescriptor y_Wall_moveWater.desc).map (fun d => d.parameters.length) = some 2 := by decide +kernel
theorem d_Wall_moveWater_0 : decode b_Wall_moveWater 0 = .ok (.iload_n 2, 1) := by decide +kernel
theorem d_Wall_moveWater_1 : decode b_Wall_moveWater 1 = .ok (.bipush 24, 2) := by decide +kernel
theorem d_Wall_moveWater_3 : decode b_Wall_moveWater 3 = .ok (.invokestatic 65, 3) := by decide +kernel
theorem d_Wall_moveWater_6 : decode b_Wall_moveWater 6 = .ok (.istore_n 3, 1) := by decide +kernel
theorem d_Wall_moveWater_7 : decode b_Wall_moveWater 7 = .ok (.aload_n 0, 1) := by decide +kernel
theorem d_Wall_moveWater_8 : decode b_Wall_moveWater 8 = .ok (.getfield 18, 3) := by decide +kernel
theorem d_Wall_moveWater_11 : decode b_Wall_moveWater 11 = .ok (.aload_n 1, 1) := by decide +kernel
theorem d_Wall_moveWater_12 : decode b_Wall_moveWater 12 = .ok (.getfield 68, 3) := by decide +kernel
theorem d_Wall_moveWater_15 : decode b_Wall_moveWater 15 = .ok (.iload_n 3, 1) := by decide +kernel
theorem d_Wall_moveWater_16 : decode b_Wall_moveWater 16 = .ok (.iaload, 1) := by decide +kernel
theorem d_Wall_moveWater_17 : decode b_Wall_moveWater 17 = .ok (.aload_n 1, 1) := by decide +kernel
theorem d_Wall_moveWater_18 : decode b_Wall_moveWater 18 = .ok (.getfield 74, 3) := by decide +kernel
theorem d_Wall_moveWater_21 : decode b_Wall_moveWater 21 = .ok (.iload_n 3, 1) := by decide +kernel
theorem d_Wall_moveWater_22 : decode b_Wall_moveWater 22 = .ok (.iaload, 1) := by decide +kernel
theorem d_Wall_moveWater_23 : decode b_Wall_moveWater 23 = .ok (.iadd, 1) := by decide +kernel
theorem d_Wall_moveWater_24 : decode b_Wall_moveWater 24 = .ok (.putfield 77, 3) := by decide +kernel
theorem d_Wall_moveWater_27 : decode b_Wall_moveWater 27 = .ok (.aload_n 0, 1) := by decide +kernel
theorem d_Wall_moveWater_28 : decode b_Wall_moveWater 28 = .ok (.getfield 24, 3) := by decide +kernel
theorem d_Wall_moveWater_31 : decode b_Wall_moveWater 31 = .ok (.aload_n 1, 1) := by decide +kernel
theorem d_Wall_moveWater_32 : decode b_Wall_moveWater 32 = .ok (.getfield 80, 3) := by decide +kernel
theorem d_Wall_moveWater_35 : decode b_Wall_moveWater 35 = .ok (.iload_n 3, 1) := by decide +kernel
theorem d_Wall_moveWater_36 : decode b_Wall_moveWater 36 = .ok (.iaload, 1) := by decide +kernel
theorem d_Wall_moveWater_37 : decode b_Wall_moveWater 37 = .ok (.putfield 77, 3) := by decide +kernel
theorem d_Wall_moveWater_40 : decode b_Wall_moveWater 40 = .ok (.aload_n 0, 1) := by decide +kernel
theorem d_Wall_moveWater_41 : decode b_Wall_moveWater 41 = .ok (.aload_n 1, 1) := by decide +kernel
theorem d_Wall_moveWater_42 : decode b_Wall_moveWater 42 = .ok (.invokevirtual 83, 3) := by decide +kernel
theorem d_Wall_moveWater_45 : decode b_Wall_moveWater 45 = .ok (.aload_n 0, 1) := by decide +kernel
theorem d_Wall_moveWater_46 : decode b_Wall_moveWater 46 = .ok (.getfield 18, 3) := by decide +kernel
theorem d_Wall_moveWater_49 : decode b_Wall_moveWater 49 = .ok (.aload_n 1, 1) := by decide +kernel
theorem d_Wall_moveWater_50 : decode b_Wall_moveWater 50 = .ok (.aload_n 1, 1) := by decide +kernel
theorem d_Wall_moveWater_51 : decode b_Wall_moveWater 51 = .ok (.getfield 87, 3) := by decide +kernel
theorem d_Wall_moveWater_54 : decode b_Wall_moveWater 54 = .ok (.iload_n 3, 1) := by decide +kernel
theorem d_Wall_moveWater_55 : decode b_Wall_moveWater 55 = .ok (.iaload, 1) := by decide +kernel
theorem d_Wall_moveWater_56 : decode b_Wall_moveWater 56 = .ok (.invokevirtual 90, 3) := by decide +kernel
theorem d_Wall_moveWater_59 : decode b_Wall_moveWater 59 = .ok (.aload_n 0, 1) := by decide +kernel
theorem d_Wall_moveWater_60 : decode b_Wall_moveWater 60 = .ok (.getfield 24, 3) := by decide +kernel
theorem d_Wall_moveWater_63 : decode b_Wall_moveWater 63 = .ok (.aload_n 1, 1) := by decide +kernel
theorem d_Wall_moveWater_64 : decode b_Wall_moveWater 64 = .ok (.aload_n 1, 1) := by decide +kernel
theorem d_Wall_moveWater_65 : decode b_Wall_moveWater 65 = .ok (.getfield 94, 3) := by decide +kernel
theorem d_Wall_moveWater_68 : decode b_Wall_moveWater 68 = .ok (.iload_n 3, 1) := by decide +kernel
theorem d_Wall_moveWater_69 : decode b_Wall_moveWater 69 = .ok (.iaload, 1) := by decide +kernel
theorem d_Wall_moveWater_70 : decode b_Wall_moveWater 70 = .ok (.invokevirtual 90, 3) := by decide +kernel
theorem d_Wall_moveWater_73 : decode b_Wall_moveWater 73 = .ok (.aload_n 0, 1) := by decide +kernel
theorem d_Wall_moveWater_74 : decode b_Wall_moveWater 74 = .ok (.getfield 29, 3) := by decide +kernel
theorem d_Wall_moveWater_77 : decode b_Wall_moveWater 77 = .ok (.astore 4, 2) := by decide +kernel
theorem d_Wall_moveWater_79 : decode b_Wall_moveWater 79 = .ok (.aload 4, 2) := by decide +kernel
theorem d_Wall_moveWater_81 : decode b_Wall_moveWater 81 = .ok (.arraylength, 1) := by decide +kernel
theorem d_Wall_moveWater_82 : decode b_Wall_moveWater 82 = .ok (.istore 5, 2) := by decide +kernel
theorem d_Wall_moveWater_84 : decode b_Wall_moveWater 84 = .ok (.iconst 0, 1) := by decide +kernel
theorem d_Wall_moveWater_85 : decode b_Wall_moveWater 85 = .ok (.istore 6, 2) := by decide +kernel
theorem d_Wall_moveWater_87 : decode b_Wall_moveWater 87 = .ok (.iload 6, 2) := by decide +kernel
theorem d_Wall_moveWater_89 : decode b_Wall_moveWater 89 = .ok (.iload 5, 2) := by decide +kernel
theorem d_Wall_moveWater_91 : decode b_Wall_moveWater 91 = .ok (.if_icmp .ge 22, 3) := by decide +kernel
theorem d_Wall_moveWater_94 : decode b_Wall_moveWater 94 = .ok (.aload 4, 2) := by decide +kernel
theorem d_Wall_moveWater_96 : decode b_Wall_moveWater 96 = .ok (.iload 6, 2) := by decide +kernel
theorem d_Wall_moveWater_98 : decode b_Wall_moveWater 98 = .ok (.aaload, 1) := by decide +kernel
theorem d_Wall_moveWater_99 : decode b_Wall_moveWater 99 = .ok (.astore 7, 2) := by decide +kernel
theorem d_Wall_moveWater_101 : decode b_Wall_moveWater 101 = .ok (.aload 7, 2) := by decide +kernel
theorem d_Wall_moveWater_103 : decode b_Wall_moveWater 103 = .ok (.aload_n 1, 1) := by decide +kernel
theorem d_Wall_moveWater_104 : decode b_Wall_moveWater 104 = .ok (.invokevirtual 97, 3) := by decide +kernel
theorem d_Wall_moveWater_107 : decode b_Wall_moveWater 107 = .ok (.iinc 6 1, 3) := by decide +kernel
theorem d_Wall_moveWater_110 : decode b_Wall_moveWater 110 = .ok (.goto (-23), 3) := by decide +kernel
theorem d_Wall_moveWater_113 : decode b_Wall_moveWater 113 = .ok (.aload_n 0, 1) := by decide +kernel
theorem d_Wall_moveWater_114 : decode b_Wall_moveWater 114 = .ok (.aload_n 1, 1) := by decide +kernel
theorem d_Wall_moveWater_115 : decode b_Wall_moveWater 115 = .ok (.getfield 99, 3) := by decide +kernel
theorem d_Wall_moveWater_118 : decode b_Wall_moveWater 118 = .ok (.iload_n 3, 1) := by decide +kernel
theorem d_Wall_moveWater_119 : decode b_Wall_moveWater 119 = .ok (.iaload, 1) := by decide +kernel
theorem d_Wall_moveWater_120 : decode b_Wall_moveWater 120 = .ok (.invokevirtual 102, 3) := by decide +kernel
theorem d_Wall_moveWater_123 : decode b_Wall_moveWater 123 = .ok (.aload_n 0, 1) := by decide +kernel
theorem d_Wall_moveWater_124 : decode b_Wall_moveWater 124 = .ok (.invokevirtual 106, 3) := by decide +kernel
theorem d_Wall_moveWater_127 : decode b_Wall_moveWater 127 = .ok (.aload_n 0, 1) := by decide +kernel
theorem d_Wall_moveWater_128 : decode b_Wall_moveWater 128 = .ok (.invokevirtual 109, 3) := by decide +kernel
theorem d_Wall_moveWater_131 : decode b_Wall_moveWater 131 = .ok (.aload_n 0, 1) := by decide +kernel
theorem d_Wall_moveWater_132 : decode b_Wall_moveWater 132 = .ok (.getfield 58, 3) := by decide +kernel
theorem d_Wall_moveWater_135 : decode b_Wall_moveWater 135 = .ok (.astore 4, 2) := by decide +kernel
theorem d_Wall_moveWater_137 : decode b_Wall_moveWater 137 = .ok (.aload 4, 2) := by decide +kernel
theorem d_Wall_moveWater_139 : decode b_Wall_moveWater 139 = .ok (.arraylength, 1) := by decide +kernel
theorem d_Wall_moveWater_140 : decode b_Wall_moveWater 140 = .ok (.istore 5, 2) := by decide +kernel
theorem d_Wall_moveWater_142 : decode b_Wall_moveWater 142 = .ok (.iconst 0, 1) := by decide +kernel
theorem d_Wall_moveWater_143 : decode b_Wall_moveWater 143 = .ok (.istore 6, 2) := by decide +kernel
theorem d_Wall_moveWater_145 : decode b_Wall_moveWater 145 = .ok (.iload 6, 2) := by decide +kernel
theorem d_Wall_moveWater_147 : decode b_Wall_moveWater 147 = .ok (.iload 5, 2) := by decide +kernel
theorem d_Wall_moveWater_149 : decode b_Wall_moveWater 149 = .ok (.if_icmp .ge 21, 3) := by decide +kernel
theorem d_Wall_moveWater_152 : decode b_Wall_moveWater 152 = .ok (.aload 4, 2) := by decide +kernel
theorem d_Wall_moveWater_154 : decode b_Wall_moveWater 154 = .ok (.iload 6, 2) := by decide +kernel
theorem d_Wall_moveWater_156 : decode b_Wall_moveWater 156 = .ok (.aaload, 1) := by decide +kernel
theorem d_Wall_moveWater_157 : decode b_Wall_moveWater 157 = .ok (.astore 7, 2) := by decide +kernel
theorem d_Wall_moveWater_159 : decode b_Wall_moveWater 159 = .ok (.aload 7, 2) := by decide +kernel
theorem d_Wall_moveWater_161 : decode b_Wall_moveWater 161 = .ok (.invokevirtual 112, 3) := by decide +kernel
theorem d_Wall_moveWater_164 : decode b_Wall_moveWater 164 = .ok (.iinc 6 1, 3) := by decide +kernel
theorem d_Wall_moveWater_167 : decode b_Wall_moveWater 167 = .ok (.goto (-22), 3) := by decide +kernel
theorem d_Wall_moveWater_170 : decode b_Wall_moveWater 170 = .ok (.return_, 1) := by decide +kernel
abbrev b_Wall_tellFrost : ByteArray := prog_11_method_5_code
def y_Wall_tellFrost : MethodName := ⟨"WallDamp$Wall", "tellFrost", "()V"⟩
def ws_Wall_tellFrost : List Cond := .code y_Wall_tellFrost b_Wall_tellFrost 5 none :: x_tb
theorem pd_Wall_tellFrost : y_Wall_tellFrost.cls ≠ "java/lang/invoke/MethodHandle" ∧ y_Wall_tellFrost.cls ≠ "java/lang/invoke/VarHandle" ∧ (parseMethodDescriptor y_Wall_tellFrost.desc).map (fun d => d.parameters.length) = some 0 := by decide +kernel
theorem d_Wall_tellFrost_0 : decode b_Wall_tellFrost 0 = .ok (.aload_n 0, 1) := by decide +kernel
theorem d_Wall_tellFrost_1 : decode b_Wall_tellFrost 1 = .ok (.getfield 29, 3) := by decide +kernel
theorem d_Wall_tellFrost_4 : decode b_Wall_tellFrost 4 = .ok (.astore_n 1, 1) := by decide +kernel
theorem d_Wall_tellFrost_5 : decode b_Wall_tellFrost 5 = .ok (.aload_n 1, 1) := by decide +kernel
theorem d_Wall_tellFrost_6 : decode b_Wall_tellFrost 6 = .ok (.arraylength, 1) := by decide +kernel
theorem d_Wall_tellFrost_7 : decode b_Wall_tellFrost 7 = .ok (.istore_n 2, 1) := by decide +kernel
theorem d_Wall_tellFrost_8 : decode b_Wall_tellFrost 8 = .ok (.iconst 0, 1) := by decide +kernel
theorem d_Wall_tellFrost_9 : decode b_Wall_tellFrost 9 = .ok (.istore_n 3, 1) := by decide +kernel
theorem d_Wall_tellFrost_10 : decode b_Wall_tellFrost 10 = .ok (.iload_n 3, 1) := by decide +kernel
theorem d_Wall_tellFrost_11 : decode b_Wall_tellFrost 11 = .ok (.iload_n 2, 1) := by decide +kernel
theorem d_Wall_tellFrost_12 : decode b_Wall_tellFrost 12 = .ok (.if_icmp .ge 19, 3) := by decide +kernel
theorem d_Wall_tellFrost_15 : decode b_Wall_tellFrost 15 = .ok (.aload_n 1, 1) := by decide +kernel
theorem d_Wall_tellFrost_16 : decode b_Wall_tellFrost 16 = .ok (.iload_n 3, 1) := by decide +kernel
theorem d_Wall_tellFrost_17 : decode b_Wall_tellFrost 17 = .ok (.aaload, 1) := by decide +kernel
theorem d_Wall_tellFrost_18 : decode b_Wall_tellFrost 18 = .ok (.astore 4, 2) := by decide +kernel
theorem d_Wall_tellFrost_20 : decode b_Wall_tellFrost 20 = .ok (.aload 4, 2) := by decide +kernel
theorem d_Wall_tellFrost_22 : decode b_Wall_tellFrost 22 = .ok (.invokevirtual 115, 3) := by decide +kernel
theorem d_Wall_tellFrost_25 : decode b_Wall_tellFrost 25 = .ok (.iinc 3 1, 3) := by decide +kernel
theorem d_Wall_tellFrost_28 : decode b_Wall_tellFrost 28 = .ok (.goto (-18), 3) := by decide +kernel
theorem d_Wall_tellFrost_31 : decode b_Wall_tellFrost 31 = .ok (.return_, 1) := by decide +kernel
abbrev b_Wall_warmCells : ByteArray := prog_11_method_6_code
def y_Wall_warmCells : MethodName := ⟨"WallDamp$Wall", "warmCells", "(LWallDamp$Surroundings;)V"⟩
def ws_Wall_warmCells : List Cond := .code y_Wall_warmCells b_Wall_warmCells 11 none :: x_tb
theorem pd_Wall_warmCells : y_Wall_warmCells.cls ≠ "java/lang/invoke/MethodHandle" ∧ y_Wall_warmCells.cls ≠ "java/lang/invoke/VarHandle" ∧ (parseMethodDescriptor y_Wall_warmCells.desc).map (fun d => d.parameters.length) = some 1 := by decide +kernel
theorem d_Wall_warmCells_0 : decode b_Wall_warmCells 0 = .ok (.ldc2_w 118, 3) := by decide +kernel
theorem d_Wall_warmCells_3 : decode b_Wall_warmCells 3 = .ok (.aload_n 1, 1) := by decide +kernel
theorem d_Wall_warmCells_4 : decode b_Wall_warmCells 4 = .ok (.getfield 120, 3) := by decide +kernel
theorem d_Wall_warmCells_7 : decode b_Wall_warmCells 7 = .ok (.i2l, 1) := by decide +kernel
theorem d_Wall_warmCells_8 : decode b_Wall_warmCells 8 = .ok (.lmul, 1) := by decide +kernel
theorem d_Wall_warmCells_9 : decode b_Wall_warmCells 9 = .ok (.lstore_n 2, 1) := by decide +kernel
theorem d_Wall_warmCells_10 : decode b_Wall_warmCells 10 = .ok (.aload_n 0, 1) := by decide +kernel
theorem d_Wall_warmCells_11 : decode b_Wall_warmCells 11 = .ok (.getfield 29, 3) := by decide +kernel
theorem d_Wall_warmCells_14 : decode b_Wall_warmCells 14 = .ok (.astore 4, 2) := by decide +kernel
theorem d_Wall_warmCells_16 : decode b_Wall_warmCells 16 = .ok (.aload 4, 2) := by decide +kernel
theorem d_Wall_warmCells_18 : decode b_Wall_warmCells 18 = .ok (.arraylength, 1) := by decide +kernel
theorem d_Wall_warmCells_19 : decode b_Wall_warmCells 19 = .ok (.istore 5, 2) := by decide +kernel
theorem d_Wall_warmCells_21 : decode b_Wall_warmCells 21 = .ok (.iconst 0, 1) := by decide +kernel
theorem d_Wall_warmCells_22 : decode b_Wall_warmCells 22 = .ok (.istore 6, 2) := by decide +kernel
theorem d_Wall_warmCells_24 : decode b_Wall_warmCells 24 = .ok (.iload 6, 2) := by decide +kernel
theorem d_Wall_warmCells_26 : decode b_Wall_warmCells 26 = .ok (.iload 5, 2) := by decide +kernel
theorem d_Wall_warmCells_28 : decode b_Wall_warmCells 28 = .ok (.if_icmp .ge 43, 3) := by decide +kernel
theorem d_Wall_warmCells_31 : decode b_Wall_warmCells 31 = .ok (.aload 4, 2) := by decide +kernel
theorem d_Wall_warmCells_33 : decode b_Wall_warmCells 33 = .ok (.iload 6, 2) := by decide +kernel
theorem d_Wall_warmCells_35 : decode b_Wall_warmCells 35 = .ok (.aaload, 1) := by decide +kernel
theorem d_Wall_warmCells_36 : decode b_Wall_warmCells 36 = .ok (.astore 7, 2) := by decide +kernel
theorem d_Wall_warmCells_38 : decode b_Wall_warmCells 38 = .ok (.aload 7, 2) := by decide +kernel
theorem d_Wall_warmCells_40 : decode b_Wall_warmCells 40 = .ok (.invokevirtual 123, 3) := by decide +kernel
theorem d_Wall_warmCells_43 : decode b_Wall_warmCells 43 = .ok (.istore 8, 2) := by decide +kernel
theorem d_Wall_warmCells_45 : decode b_Wall_warmCells 45 = .ok (.aload 7, 2) := by decide +kernel
theorem d_Wall_warmCells_47 : decode b_Wall_warmCells 47 = .ok (.lload_n 2, 1) := by decide +kernel
theorem d_Wall_warmCells_48 : decode b_Wall_warmCells 48 = .ok (.iload 8, 2) := by decide +kernel
theorem d_Wall_warmCells_50 : decode b_Wall_warmCells 50 = .ok (.i2l, 1) := by decide +kernel
theorem d_Wall_warmCells_51 : decode b_Wall_warmCells 51 = .ok (.ladd, 1) := by decide +kernel
theorem d_Wall_warmCells_52 : decode b_Wall_warmCells 52 = .ok (.putfield 127, 3) := by decide +kernel
theorem d_Wall_warmCells_55 : decode b_Wall_warmCells 55 = .ok (.lload_n 2, 1) := by decide +kernel
theorem d_Wall_warmCells_56 : decode b_Wall_warmCells 56 = .ok (.ldc2_w 118, 3) := by decide +kernel
theorem d_Wall_warmCells_59 : decode b_Wall_warmCells 59 = .ok (.iload 8, 2) := by decide +kernel
theorem d_Wall_warmCells_61 : decode b_Wall_warmCells 61 = .ok (.i2l, 1) := by decide +kernel
theorem d_Wall_warmCells_62 : decode b_Wall_warmCells 62 = .ok (.lmul, 1) := by decide +kernel
theorem d_Wall_warmCells_63 : decode b_Wall_warmCells 63 = .ok (.ladd, 1) := by decide +kernel
theorem d_Wall_warmCells_64 : decode b_Wall_warmCells 64 = .ok (.lstore_n 2, 1) := by decide +kernel
theorem d_Wall_warmCells_65 : decode b_Wall_warmCells 65 = .ok (.iinc 6 1, 3) := by decide +kernel
theorem d_Wall_warmCells_68 : decode b_Wall_warmCells 68 = .ok (.goto (-44), 3) := by decide +kernel
theorem d_Wall_warmCells_71 : decode b_Wall_warmCells 71 = .ok (.lload_n 2, 1) := by decide +kernel
theorem d_Wall_warmCells_72 : decode b_Wall_warmCells 72 = .ok (.ldc2_w 118, 3) := by decide +kernel
theorem d_Wall_warmCells_75 : decode b_Wall_warmCells 75 = .ok (.aload_n 1, 1) := by decide +kernel
theorem d_Wall_warmCells_76 : decode b_Wall_warmCells 76 = .ok (.getfield 131, 3) := by decide +kernel
theorem d_Wall_warmCells_79 : decode b_Wall_warmCells 79 = .ok (.i2l, 1) := by decide +kernel
theorem d_Wall_warmCells_80 : decode b_Wall_warmCells 80 = .ok (.lmul, 1) := by decide +kernel
theorem d_Wall_warmCells_81 : decode b_Wall_warmCells 81 = .ok (.ladd, 1) := by decide +kernel
theorem d_Wall_warmCells_82 : decode b_Wall_warmCells 82 = .ok (.lstore_n 2, 1) := by decide +kernel
theorem d_Wall_warmCells_83 : decode b_Wall_warmCells 83 = .ok (.aload_n 0, 1) := by decide +kernel
theorem d_Wall_warmCells_84 : decode b_Wall_warmCells 84 = .ok (.getfield 18, 3) := by decide +kernel
theorem d_Wall_warmCells_87 : decode b_Wall_warmCells 87 = .ok (.getfield 77, 3) := by decide +kernel
theorem d_Wall_warmCells_90 : decode b_Wall_warmCells 90 = .ok (.istore 4, 2) := by decide +kernel
theorem d_Wall_warmCells_92 : decode b_Wall_warmCells 92 = .ok (.aload_n 0, 1) := by decide +kernel
theorem d_Wall_warmCells_93 : decode b_Wall_warmCells 93 = .ok (.getfield 24, 3) := by decide +kernel
theorem d_Wall_warmCells_96 : decode b_Wall_warmCells 96 = .ok (.getfield 77, 3) := by decide +kernel
theorem d_Wall_warmCells_99 : decode b_Wall_warmCells 99 = .ok (.iload 4, 2) := by decide +kernel
theorem d_Wall_warmCells_101 : decode b_Wall_warmCells 101 = .ok (.isub, 1) := by decide +kernel
theorem d_Wall_warmCells_102 : decode b_Wall_warmCells 102 = .ok (.i2l, 1) := by decide +kernel
theorem d_Wall_warmCells_103 : decode b_Wall_warmCells 103 = .ok (.lstore 5, 2) := by decide +kernel
theorem d_Wall_warmCells_105 : decode b_Wall_warmCells 105 = .ok (.aload_n 0, 1) := by decide +kernel
theorem d_Wall_warmCells_106 : decode b_Wall_warmCells 106 = .ok (.getfield 29, 3) := by decide +kernel
theorem d_Wall_warmCells_109 : decode b_Wall_warmCells 109 = .ok (.astore 7, 2) := by decide +kernel
theorem d_Wall_warmCells_111 : decode b_Wall_warmCells 111 = .ok (.aload 7, 2) := by decide +kernel
theorem d_Wall_warmCells_113 : decode b_Wall_warmCells 113 = .ok (.arraylength, 1) := by decide +kernel
theorem d_Wall_warmCells_114 : decode b_Wall_warmCells 114 = .ok (.istore 8, 2) := by decide +kernel
theorem d_Wall_warmCells_116 : decode b_Wall_warmCells 116 = .ok (.iconst 0, 1) := by decide +kernel
theorem d_Wall_warmCells_117 : decode b_Wall_warmCells 117 = .ok (.istore 9, 2) := by decide +kernel
theorem d_Wall_warmCells_119 : decode b_Wall_warmCells 119 = .ok (.iload 9, 2) := by decide +kernel
theorem d_Wall_warmCells_121 : decode b_Wall_warmCells 121 = .ok (.iload 8, 2) := by decide +kernel
theorem d_Wall_warmCells_123 : decode b_Wall_warmCells 123 = .ok (.if_icmp .ge 48, 3) := by decide +kernel
theorem d_Wall_warmCells_126 : decode b_Wall_warmCells 126 = .ok (.aload 7, 2) := by decide +kernel
theorem d_Wall_warmCells_128 : decode b_Wall_warmCells 128 = .ok (.iload 9, 2) := by decide +kernel
theorem d_Wall_warmCells_130 : decode b_Wall_warmCells 130 = .ok (.aaload, 1) := by decide +kernel
theorem d_Wall_warmCells_131 : decode b_Wall_warmCells 131 = .ok (.astore 10, 2) := by decide +kernel
theorem d_Wall_warmCells_133 : decode b_Wall_warmCells 133 = .ok (.aload 10, 2) := by decide +kernel
theorem d_Wall_warmCells_135 : decode b_Wall_warmCells 135 = .ok (.lload_n 2, 1) := by decide +kernel
theorem d_Wall_warmCells_136 : decode b_Wall_warmCells 136 = .ok (.lconst 0, 1) := by decide +kernel
theorem d_Wall_warmCells_137 : decode b_Wall_warmCells 137 = .ok (.lcmp, 1) := by decide +kernel
theorem d_Wall_warmCells_138 : decode b_Wall_warmCells 138 = .ok (.ifCond .gt 8, 3) := by decide +kernel
theorem d_Wall_warmCells_141 : decode b_Wall_warmCells 141 = .ok (.iload 4, 2) := by decide +kernel
theorem d_Wall_warmCells_143 : decode b_Wall_warmCells 143 = .ok (.goto 19, 3) := by decide +kernel
theorem d_Wall_warmCells_146 : decode b_Wall_warmCells 146 = .ok (.iload 4, 2) := by decide +kernel
theorem d_Wall_warmCells_148 : decode b_Wall_warmCells 148 = .ok (.lload 5, 2) := by decide +kernel
theorem d_Wall_warmCells_150 : decode b_Wall_warmCells 150 = .ok (.aload 10, 2) := by decide +kernel
theorem d_Wall_warmCells_152 : decode b_Wall_warmCells 152 = .ok (.getfield 127, 3) := by decide +kernel
theorem d_Wall_warmCells_155 : decode b_Wall_warmCells 155 = .ok (.lmul, 1) := by decide +kernel
theorem d_Wall_warmCells_156 : decode b_Wall_warmCells 156 = .ok (.lload_n 2, 1) := by decide +kernel
theorem d_Wall_warmCells_157 : decode b_Wall_warmCells 157 = .ok (.invokestatic 134, 3) := by decide +kernel
theorem d_Wall_warmCells_160 : decode b_Wall_warmCells 160 = .ok (.l2i, 1) := by decide +kernel
theorem d_Wall_warmCells_161 : decode b_Wall_warmCells 161 = .ok (.iadd, 1) := by decide +kernel
theorem d_Wall_warmCells_162 : decode b_Wall_warmCells 162 = .ok (.putfield 138, 3) := by decide +kernel
theorem d_Wall_warmCells_165 : decode b_Wall_warmCells 165 = .ok (.iinc 9 1, 3) := by decide +kernel
theorem d_Wall_warmCells_168 : decode b_Wall_warmCells 168 = .ok (.goto (-49), 3) := by decide +kernel
theorem d_Wall_warmCells_171 : decode b_Wall_warmCells 171 = .ok (.return_, 1) := by decide +kernel
abbrev b_Wall_setAirFlows : ByteArray := prog_11_method_7_code
def y_Wall_setAirFlows : MethodName := ⟨"WallDamp$Wall", "setAirFlows", "(I)V"⟩
def ws_Wall_setAirFlows : List Cond := .code y_Wall_setAirFlows b_Wall_setAirFlows 6 none :: x_tb
theorem pd_Wall_setAirFlows : y_Wall_setAirFlows.cls ≠ "java/lang/invoke/MethodHandle" ∧ y_Wall_setAirFlows.cls ≠ "java/lang/invoke/VarHandle" ∧ (parseMethodDescriptor y_Wall_setAirFlows.desc).map (fun d => d.parameters.length) = some 1 := by decide +kernel
theorem d_Wall_setAirFlows_0 : decode b_Wall_setAirFlows 0 = .ok (.aload_n 0, 1) := by decide +kernel
theorem d_Wall_setAirFlows_1 : decode b_Wall_setAirFlows 1 = .ok (.getfield 29, 3) := by decide +kernel
theorem d_Wall_setAirFlows_4 : decode b_Wall_setAirFlows 4 = .ok (.iconst 0, 1) := by decide +kernel
theorem d_Wall_setAirFlows_5 : decode b_Wall_setAirFlows 5 = .ok (.aaload, 1) := by decide +kernel
theorem d_Wall_setAirFlows_6 : decode b_Wall_setAirFlows 6 = .ok (.astore_n 2, 1) := by decide +kernel
theorem d_Wall_setAirFlows_7 : decode b_Wall_setAirFlows 7 = .ok (.aload_n 0, 1) := by decide +kernel
theorem d_Wall_setAirFlows_8 : decode b_Wall_setAirFlows 8 = .ok (.invokevirtual 139, 3) := by decide +kernel
theorem d_Wall_setAirFlows_11 : decode b_Wall_setAirFlows 11 = .ok (.astore_n 3, 1) := by decide +kernel
theorem d_Wall_setAirFlows_12 : decode b_Wall_setAirFlows 12 = .ok (.aload_n 0, 1) := by decide +kernel
theorem d_Wall_setAirFlows_13 : decode b_Wall_setAirFlows 13 = .ok (.getfield 48, 3) := by decide +kernel
theorem d_Wall_setAirFlows_16 : decode b_Wall_setAirFlows 16 = .ok (.aload_n 0, 1) := by decide +kernel
theorem d_Wall_setAirFlows_17 : decode b_Wall_setAirFlows 17 = .ok (.getfield 18, 3) := by decide +kernel
theorem d_Wall_setAirFlows_20 : decode b_Wall_setAirFlows 20 = .ok (.getfield 143, 3) := by decide +kernel
theorem d_Wall_setAirFlows_23 : decode b_Wall_setAirFlows 23 = .ok (.aload_n 2, 1) := by decide +kernel
theorem d_Wall_setAirFlows_24 : decode b_Wall_setAirFlows 24 = .ok (.getfield 146, 3) := by decide +kernel
theorem d_Wall_setAirFlows_27 : decode b_Wall_setAirFlows 27 = .ok (.isub, 1) := by decide +kernel
theorem d_Wall_setAirFlows_28 : decode b_Wall_setAirFlows 28 = .ok (.aload_n 2, 1) := by decide +kernel
theorem d_Wall_setAirFlows_29 : decode b_Wall_setAirFlows 29 = .ok (.getfield 147, 3) := by decide +kernel
theorem d_Wall_setAirFlows_32 : decode b_Wall_setAirFlows 32 = .ok (.getfield 151, 3) := by decide +kernel
theorem d_Wall_setAirFlows_35 : decode b_Wall_setAirFlows 35 = .ok (.imul, 1) := by decide +kernel
theorem d_Wall_setAirFlows_36 : decode b_Wall_setAirFlows 36 = .ok (.sipush 1000, 3) := by decide +kernel
theorem d_Wall_setAirFlows_39 : decode b_Wall_setAirFlows 39 = .ok (.idiv, 1) := by decide +kernel
theorem d_Wall_setAirFlows_40 : decode b_Wall_setAirFlows 40 = .ok (.invokevirtual 156, 3) := by decide +kernel
theorem d_Wall_setAirFlows_43 : decode b_Wall_setAirFlows 43 = .ok (.aload_n 0, 1) := by decide +kernel
theorem d_Wall_setAirFlows_44 : decode b_Wall_setAirFlows 44 = .ok (.getfield 52, 3) := by decide +kernel
theorem d_Wall_setAirFlows_47 : decode b_Wall_setAirFlows 47 = .ok (.aload_n 3, 1) := by decide +kernel
theorem d_Wall_setAirFlows_48 : decode b_Wall_setAirFlows 48 = .ok (.getfield 146, 3) := by decide +kernel
theorem d_Wall_setAirFlows_51 : decode b_Wall_setAirFlows 51 = .ok (.aload_n 0, 1) := by decide +kernel
theorem d_Wall_setAirFlows_52 : decode b_Wall_setAirFlows 52 = .ok (.getfield 24, 3) := by decide +kernel
theorem d_Wall_setAirFlows_55 : decode b_Wall_setAirFlows 55 = .ok (.getfield 143, 3) := by decide +kernel
theorem d_Wall_setAirFlows_58 : decode b_Wall_setAirFlows 58 = .ok (.isub, 1) := by decide +kernel
theorem d_Wall_setAirFlows_59 : decode b_Wall_setAirFlows 59 = .ok (.aload_n 3, 1) := by decide +kernel
theorem d_Wall_setAirFlows_60 : decode b_Wall_setAirFlows 60 = .ok (.getfield 147, 3) := by decide +kernel
theorem d_Wall_setAirFlows_63 : decode b_Wall_setAirFlows 63 = .ok (.getfield 151, 3) := by decide +kernel
theorem d_Wall_setAirFlows_66 : decode b_Wall_setAirFlows 66 = .ok (.imul, 1) := by decide +kernel
theorem d_Wall_setAirFlows_67 : decode b_Wall_setAirFlows 67 = .ok (.sipush 1000, 3) := by decide +kernel
theorem d_Wall_setAirFlows_70 : decode b_Wall_setAirFlows 70 = .ok (.idiv, 1) := by decide +kernel
theorem d_Wall_setAirFlows_71 : decode b_Wall_setAirFlows 71 = .ok (.invokevirtual 156, 3) := by decide +kernel
theorem d_Wall_setAirFlows_74 : decode b_Wall_setAirFlows 74 = .ok (.aload_n 0, 1) := by decide +kernel
theorem d_Wall_setAirFlows_75 : decode b_Wall_setAirFlows 75 = .ok (.getfield 55, 3) := by decide +kernel
theorem d_Wall_setAirFlows_78 : decode b_Wall_setAirFlows 78 = .ok (.iload_n 1, 1) := by decide +kernel
theorem d_Wall_setAirFlows_79 : decode b_Wall_setAirFlows 79 = .ok (.aload_n 2, 1) := by decide +kernel
theorem d_Wall_setAirFlows_80 : decode b_Wall_setAirFlows 80 = .ok (.getfield 147, 3) := by decide +kernel
theorem d_Wall_setAirFlows_83 : decode b_Wall_setAirFlows 83 = .ok (.getfield 159, 3) := by decide +kernel
theorem d_Wall_setAirFlows_86 : decode b_Wall_setAirFlows 86 = .ok (.imul, 1) := by decide +kernel
theorem d_Wall_setAirFlows_87 : decode b_Wall_setAirFlows 87 = .ok (.bipush 100, 2) := by decide +kernel
theorem d_Wall_setAirFlows_89 : decode b_Wall_setAirFlows 89 = .ok (.idiv, 1) := by decide +kernel
theorem d_Wall_setAirFlows_90 : decode b_Wall_setAirFlows 90 = .ok (.invokevirtual 156, 3) := by decide +kernel
theorem d_Wall_setAirFlows_93 : decode b_Wall_setAirFlows 93 = .ok (.iconst 0, 1) := by decide +kernel
theorem d_Wall_setAirFlows_94 : decode b_Wall_setAirFlows 94 = .ok (.istore 4, 2) := by decide +kernel
theorem d_Wall_setAirFlows_96 : decode b_Wall_setAirFlows 96 = .ok (.iload 4, 2) := by decide +kernel
theorem d_Wall_setAirFlows_98 : decode b_Wall_setAirFlows 98 = .ok (.aload_n 0, 1) := by decide +kernel
theorem d_Wall_setAirFlows_99 : decode b_Wall_setAirFlows 99 = .ok (.getfield 35, 3) := by decide +kernel
theorem d_Wall_setAirFlows_102 : decode b_Wall_setAirFlows 102 = .ok (.arraylength, 1) := by decide +kernel
theorem d_Wall_setAirFlows_103 : decode b_Wall_setAirFlows 103 = .ok (.if_icmp .ge 71, 3) := by decide +kernel
theorem d_Wall_setAirFlows_106 : decode b_Wall_setAirFlows 106 = .ok (.iload 4, 2) := by decide +kernel
theorem d_Wall_setAirFlows_108 : decode b_Wall_setAirFlows 108 = .ok (.aload_n 0, 1) := by decide +kernel
theorem d_Wall_setAirFlows_109 : decode b_Wall_setAirFlows 109 = .ok (.getfield 29, 3) := by decide +kernel
theorem d_Wall_setAirFlows_112 : decode b_Wall_setAirFlows 112 = .ok (.arraylength, 1) := by decide +kernel
theorem d_Wall_setAirFlows_113 : decode b_Wall_setAirFlows 113 = .ok (.if_icmp .ge 61, 3) := by decide +kernel
theorem d_Wall_setAirFlows_116 : decode b_Wall_setAirFlows 116 = .ok (.iconst 0, 1) := by decide +kernel
theorem d_Wall_setAirFlows_117 : decode b_Wall_setAirFlows 117 = .ok (.aload_n 0, 1) := by decide +kernel
theorem d_Wall_setAirFlows_118 : decode b_Wall_setAirFlows 118 = .ok (.getfield 24, 3) := by decide +kernel
theorem d_Wall_setAirFlows_121 : decode b_Wall_setAirFlows 121 = .ok (.getfield 143, 3) := by decide +kernel
theorem d_Wall_setAirFlows_124 : decode b_Wall_setAirFlows 124 = .ok (.aload_n 0, 1) := by decide +kernel
theorem d_Wall_setAirFlows_125 : decode b_Wall_setAirFlows 125 = .ok (.getfield 29, 3) := by decide +kernel
theorem d_Wall_setAirFlows_128 : decode b_Wall_setAirFlows 128 = .ok (.iload 4, 2) := by decide +kernel
theorem d_Wall_setAirFlows_130 : decode b_Wall_setAirFlows 130 = .ok (.aaload, 1) := by decide +kernel
theorem d_Wall_setAirFlows_131 : decode b_Wall_setAirFlows 131 = .ok (.getfield 146, 3) := by decide +kernel
theorem d_Wall_setAirFlows_134 : decode b_Wall_setAirFlows 134 = .ok (.isub, 1) := by decide +kernel
theorem d_Wall_setAirFlows_135 : decode b_Wall_setAirFlows 135 = .ok (.invokestatic 9, 3) := by decide +kernel
theorem d_Wall_setAirFlows_138 : decode b_Wall_setAirFlows 138 = .ok (.istore 5, 2) := by decide +kernel
theorem d_Wall_setAirFlows_140 : decode b_Wall_setAirFlows 140 = .ok (.aload_n 0, 1) := by decide +kernel
theorem d_Wall_setAirFlows_141 : decode b_Wall_setAirFlows 141 = .ok (.getfield 35, 3) := by decide +kernel
theorem d_Wall_setAirFlows_144 : decode b_Wall_setAirFlows 144 = .ok (.iload 4, 2) := by decide +kernel
theorem d_Wall_setAirFlows_146 : decode b_Wall_setAirFlows 146 = .ok (.aaload, 1) := by decide +kernel
theorem d_Wall_setAirFlows_147 : decode b_Wall_setAirFlows 147 = .ok (.iload 5, 2) := by decide +kernel
theorem d_Wall_setAirFlows_149 : decode b_Wall_setAirFlows 149 = .ok (.aload_n 0, 1) := by decide +kernel
theorem d_Wall_setAirFlows_150 : decode b_Wall_setAirFlows 150 = .ok (.getfield 29, 3) := by decide +kernel
theorem d_Wall_setAirFlows_153 : decode b_Wall_setAirFlows 153 = .ok (.iload 4, 2) := by decide +kernel
theorem d_Wall_setAirFlows_155 : decode b_Wall_setAirFlows 155 = .ok (.aaload, 1) := by decide +kernel
theorem d_Wall_setAirFlows_156 : decode b_Wall_setAirFlows 156 = .ok (.getfield 162, 3) := by decide +kernel
theorem d_Wall_setAirFlows_159 : decode b_Wall_setAirFlows 159 = .ok (.imul, 1) := by decide +kernel
theorem d_Wall_setAirFlows_160 : decode b_Wall_setAirFlows 160 = .ok (.sipush 1000, 3) := by decide +kernel
theorem d_Wall_setAirFlows_163 : decode b_Wall_setAirFlows 163 = .ok (.idiv, 1) := by decide +kernel
theorem d_Wall_setAirFlows_164 : decode b_Wall_setAirFlows 164 = .ok (.ineg, 1) := by decide +kernel
theorem d_Wall_setAirFlows_165 : decode b_Wall_setAirFlows 165 = .ok (.invokevirtual 156, 3) := by decide +kernel
theorem d_Wall_setAirFlows_168 : decode b_Wall_setAirFlows 168 = .ok (.iinc 4 1, 3) := by decide +kernel
theorem d_Wall_setAirFlows_171 : decode b_Wall_setAirFlows 171 = .ok (.goto (-75), 3) := by decide +kernel
theorem d_Wall_setAirFlows_174 : decode b_Wall_setAirFlows 174 = .ok (.return_, 1) := by decide +kernel
abbrev b_Wall_setFlowsBetween : ByteArray := prog_11_method_8_code
def y_Wall_setFlowsBetween : MethodName := ⟨"WallDamp$Wall", "setFlowsBetween", "()V"⟩
def ws_Wall_setFlowsBetween : List Cond := .code y_Wall_setFlowsBetween b_Wall_setFlowsBetween 6 none :: x_tb
theorem pd_Wall_setFlowsBetween : y_Wall_setFlowsBetween.cls ≠ "java/lang/invoke/MethodHandle" ∧ y_Wall_setFlowsBetween.cls ≠ "java/lang/invoke/VarHandle" ∧ (parseMethodDescriptor y_Wall_setFlowsBetween.desc).map (fun d => d.parameters.length) = some 0 := by decide +kernel
theorem d_Wall_setFlowsBetween_0 : decode b_Wall_setFlowsBetween 0 = .ok (.iconst 0, 1) := by decide +kernel
theorem d_Wall_setFlowsBetween_1 : decode b_Wall_setFlowsBetween 1 = .ok (.istore_n 1, 1) := by decide +kernel
theorem d_Wall_setFlowsBetween_2 : decode b_Wall_setFlowsBetween 2 = .ok (.iload_n 1, 1) := by decide +kernel
theorem d_Wall_setFlowsBetween_3 : decode b_Wall_setFlowsBetween 3 = .ok (.aload_n 0, 1) := by decide +kernel
theorem d_Wall_setFlowsBetween_4 : decode b_Wall_setFlowsBetween 4 = .ok (.getfield 45, 3) := by decide +kernel
theorem d_Wall_setFlowsBetween_7 : decode b_Wall_setFlowsBetween 7 = .ok (.arraylength, 1) := by decide +kernel
theorem d_Wall_setFlowsBetween_8 : decode b_Wall_setFlowsBetween 8 = .ok (.if_icmp .ge 116, 3) := by decide +kernel
theorem d_Wall_setFlowsBetween_11 : decode b_Wall_setFlowsBetween 11 = .ok (.iload_n 1, 1) := by decide +kernel
theorem d_Wall_setFlowsBetween_12 : decode b_Wall_setFlowsBetween 12 = .ok (.iconst 1, 1) := by decide +kernel
theorem d_Wall_setFlowsBetween_13 : decode b_Wall_setFlowsBetween 13 = .ok (.iadd, 1) := by decide +kernel
theorem d_Wall_setFlowsBetween_14 : decode b_Wall_setFlowsBetween 14 = .ok (.aload_n 0, 1) := by decide +kernel
theorem d_Wall_setFlowsBetween_15 : decode b_Wall_setFlowsBetween 15 = .ok (.getfield 29, 3) := by decide +kernel
theorem d_Wall_setFlowsBetween_18 : decode b_Wall_setFlowsBetween 18 = .ok (.arraylength, 1) := by decide +kernel
theorem d_Wall_setFlowsBetween_19 : decode b_Wall_setFlowsBetween 19 = .ok (.if_icmp .ge 105, 3) := by decide +kernel
theorem d_Wall_setFlowsBetween_22 : decode b_Wall_setFlowsBetween 22 = .ok (.aload_n 0, 1) := by decide +kernel
theorem d_Wall_setFlowsBetween_23 : decode b_Wall_setFlowsBetween 23 = .ok (.getfield 29, 3) := by decide +kernel
theorem d_Wall_setFlowsBetween_26 : decode b_Wall_setFlowsBetween 26 = .ok (.iload_n 1, 1) := by decide +kernel
theorem d_Wall_setFlowsBetween_27 : decode b_Wall_setFlowsBetween 27 = .ok (.aaload, 1) := by decide +kernel
theorem d_Wall_setFlowsBetween_28 : decode b_Wall_setFlowsBetween 28 = .ok (.astore_n 2, 1) := by decide +kernel
theorem d_Wall_setFlowsBetween_29 : decode b_Wall_setFlowsBetween 29 = .ok (.aload_n 0, 1) := by decide +kernel
theorem d_Wall_setFlowsBetween_30 : decode b_Wall_setFlowsBetween 30 = .ok (.getfield 29, 3) := by decide +kernel
theorem d_Wall_setFlowsBetween_33 : decode b_Wall_setFlowsBetween 33 = .ok (.iload_n 1, 1) := by decide +kernel
theorem d_Wall_setFlowsBetween_34 : decode b_Wall_setFlowsBetween 34 = .ok (.iconst 1, 1) := by decide +kernel
theorem d_Wall_setFlowsBetween_35 : decode b_Wall_setFlowsBetween 35 = .ok (.iadd, 1) := by decide +kernel
theorem d_Wall_setFlowsBetween_36 : decode b_Wall_setFlowsBetween 36 = .ok (.aaload, 1) := by decide +kernel
theorem d_Wall_setFlowsBetween_37 : decode b_Wall_setFlowsBetween 37 = .ok (.astore_n 3, 1) := by decide +kernel
theorem d_Wall_setFlowsBetween_38 : decode b_Wall_setFlowsBetween 38 = .ok (.aload_n 2, 1) := by decide +kernel
theorem d_Wall_setFlowsBetween_39 : decode b_Wall_setFlowsBetween 39 = .ok (.getfield 147, 3) := by decide +kernel
theorem d_Wall_setFlowsBetween_42 : decode b_Wall_setFlowsBetween 42 = .ok (.getfield 151, 3) := by decide +kernel
theorem d_Wall_setFlowsBetween_45 : decode b_Wall_setFlowsBetween 45 = .ok (.aload_n 3, 1) := by decide +kernel
theorem d_Wall_setFlowsBetween_46 : decode b_Wall_setFlowsBetween 46 = .ok (.getfield 147, 3) := by decide +kernel
theorem d_Wall_setFlowsBetween_49 : decode b_Wall_setFlowsBetween 49 = .ok (.getfield 151, 3) := by decide +kernel
theorem d_Wall_setFlowsBetween_52 : decode b_Wall_setFlowsBetween 52 = .ok (.invokestatic 165, 3) := by decide +kernel
theorem d_Wall_setFlowsBetween_55 : decode b_Wall_setFlowsBetween 55 = .ok (.istore 4, 2) := by decide +kernel
theorem d_Wall_setFlowsBetween_57 : decode b_Wall_setFlowsBetween 57 = .ok (.aload_n 2, 1) := by decide +kernel
theorem d_Wall_setFlowsBetween_58 : decode b_Wall_setFlowsBetween 58 = .ok (.getfield 147, 3) := by decide +kernel
theorem d_Wall_setFlowsBetween_61 : decode b_Wall_setFlowsBetween 61 = .ok (.getfield 159, 3) := by decide +kernel
theorem d_Wall_setFlowsBetween_64 : decode b_Wall_setFlowsBetween 64 = .ok (.aload_n 3, 1) := by decide +kernel
theorem d_Wall_setFlowsBetween_65 : decode b_Wall_setFlowsBetween 65 = .ok (.getfield 147, 3) := by decide +kernel
theorem d_Wall_setFlowsBetween_68 : decode b_Wall_setFlowsBetween 68 = .ok (.getfield 159, 3) := by decide +kernel
theorem d_Wall_setFlowsBetween_71 : decode b_Wall_setFlowsBetween 71 = .ok (.invokestatic 165, 3) := by decide +kernel
theorem d_Wall_setFlowsBetween_74 : decode b_Wall_setFlowsBetween 74 = .ok (.istore 5, 2) := by decide +kernel
theorem d_Wall_setFlowsBetween_76 : decode b_Wall_setFlowsBetween 76 = .ok (.aload_n 0, 1) := by decide +kernel
theorem d_Wall_setFlowsBetween_77 : decode b_Wall_setFlowsBetween 77 = .ok (.getfield 45, 3) := by decide +kernel
theorem d_Wall_setFlowsBetween_80 : decode b_Wall_setFlowsBetween 80 = .ok (.iload_n 1, 1) := by decide +kernel
theorem d_Wall_setFlowsBetween_81 : decode b_Wall_setFlowsBetween 81 = .ok (.aaload, 1) := by decide +kernel
theorem d_Wall_setFlowsBetween_82 : decode b_Wall_setFlowsBetween 82 = .ok (.aload_n 2, 1) := by decide +kernel
theorem d_Wall_setFlowsBetween_83 : decode b_Wall_setFlowsBetween 83 = .ok (.getfield 146, 3) := by decide +kernel
theorem d_Wall_setFlowsBetween_86 : decode b_Wall_setFlowsBetween 86 = .ok (.aload_n 3, 1) := by decide +kernel
theorem d_Wall_setFlowsBetween_87 : decode b_Wall_setFlowsBetween 87 = .ok (.getfield 146, 3) := by decide +kernel
theorem d_Wall_setFlowsBetween_90 : decode b_Wall_setFlowsBetween 90 = .ok (.isub, 1) := by decide +kernel
theorem d_Wall_setFlowsBetween_91 : decode b_Wall_setFlowsBetween 91 = .ok (.iload 4, 2) := by decide +kernel
theorem d_Wall_setFlowsBetween_93 : decode b_Wall_setFlowsBetween 93 = .ok (.imul, 1) := by decide +kernel
theorem d_Wall_setFlowsBetween_94 : decode b_Wall_setFlowsBetween 94 = .ok (.sipush 1000, 3) := by decide +kernel
theorem d_Wall_setFlowsBetween_97 : decode b_Wall_setFlowsBetween 97 = .ok (.idiv, 1) := by decide +kernel
theorem d_Wall_setFlowsBetween_98 : decode b_Wall_setFlowsBetween 98 = .ok (.aload_n 2, 1) := by decide +kernel
theorem d_Wall_setFlowsBetween_99 : decode b_Wall_setFlowsBetween 99 = .ok (.getfield 168, 3) := by decide +kernel
theorem d_Wall_setFlowsBetween_102 : decode b_Wall_setFlowsBetween 102 = .ok (.aload_n 3, 1) := by decide +kernel
theorem d_Wall_setFlowsBetween_103 : decode b_Wall_setFlowsBetween 103 = .ok (.getfield 168, 3) := by decide +kernel
theorem d_Wall_setFlowsBetween_106 : decode b_Wall_setFlowsBetween 106 = .ok (.isub, 1) := by decide +kernel
theorem d_Wall_setFlowsBetween_107 : decode b_Wall_setFlowsBetween 107 = .ok (.iload 5, 2) := by decide +kernel
theorem d_Wall_setFlowsBetween_109 : decode b_Wall_setFlowsBetween 109 = .ok (.imul, 1) := by decide +kernel
theorem d_Wall_setFlowsBetween_110 : decode b_Wall_setFlowsBetween 110 = .ok (.sipush 1000, 3) := by decide +kernel
theorem d_Wall_setFlowsBetween_113 : decode b_Wall_setFlowsBetween 113 = .ok (.idiv, 1) := by decide +kernel
theorem d_Wall_setFlowsBetween_114 : decode b_Wall_setFlowsBetween 114 = .ok (.iadd, 1) := by decide +kernel
theorem d_Wall_setFlowsBetween_115 : decode b_Wall_setFlowsBetween 115 = .ok (.invokevirtual 156, 3) := by decide +kernel
theorem d_Wall_setFlowsBetween_118 : decode b_Wall_setFlowsBetween 118 = .ok (.iinc 1 1, 3) := by decide +kernel
theorem d_Wall_setFlowsBetween_121 : decode b_Wall_setFlowsBetween 121 = .ok (.goto (-119), 3) := by decide +kernel
theorem d_Wall_setFlowsBetween_124 : decode b_Wall_setFlowsBetween 124 = .ok (.return_, 1) := by decide +kernel
abbrev b_Wall_limitFlows : ByteArray := prog_11_method_9_code
def y_Wall_limitFlows : MethodName := ⟨"WallDamp$Wall", "limitFlows", "()V"⟩
def ws_Wall_limitFlows : List Cond := .code y_Wall_limitFlows b_Wall_limitFlows 5 none :: x_tb
theorem pd_Wall_limitFlows : y_Wall_limitFlows.cls ≠ "java/lang/invoke/MethodHandle" ∧ y_Wall_limitFlows.cls ≠ "java/lang/invoke/VarHandle" ∧ (parseMethodDescriptor y_Wall_limitFlows.desc).map (fun d => d.parameters.length) = some 0 := by decide +kernel
theorem d_Wall_limitFlows_0 : decode b_Wall_limitFlows 0 = .ok (.aload_n 0, 1) := by decide +kernel
theorem d_Wall_limitFlows_1 : decode b_Wall_limitFlows 1 = .ok (.getfield 58, 3) := by decide +kernel
theorem d_Wall_limitFlows_4 : decode b_Wall_limitFlows 4 = .ok (.astore_n 1, 1) := by decide +kernel
theorem d_Wall_limitFlows_5 : decode b_Wall_limitFlows 5 = .ok (.aload_n 1, 1) := by decide +kernel
theorem d_Wall_limitFlows_6 : decode b_Wall_limitFlows 6 = .ok (.arraylength, 1) := by decide +kernel
theorem d_Wall_limitFlows_7 : decode b_Wall_limitFlows 7 = .ok (.istore_n 2, 1) := by decide +kernel
theorem d_Wall_limitFlows_8 : decode b_Wall_limitFlows 8 = .ok (.iconst 0, 1) := by decide +kernel
theorem d_Wall_limitFlows_9 : decode b_Wall_limitFlows 9 = .ok (.istore_n 3, 1) := by decide +kernel
theorem d_Wall_limitFlows_10 : decode b_Wall_limitFlows 10 = .ok (.iload_n 3, 1) := by decide +kernel
theorem d_Wall_limitFlows_11 : decode b_Wall_limitFlows 11 = .ok (.iload_n 2, 1) := by decide +kernel
theorem d_Wall_limitFlows_12 : decode b_Wall_limitFlows 12 = .ok (.if_icmp .ge 19, 3) := by decide +kernel
theorem d_Wall_limitFlows_15 : decode b_Wall_limitFlows 15 = .ok (.aload_n 1, 1) := by decide +kernel
theorem d_Wall_limitFlows_16 : decode b_Wall_limitFlows 16 = .ok (.iload_n 3, 1) := by decide +kernel
theorem d_Wall_limitFlows_17 : decode b_Wall_limitFlows 17 = .ok (.aaload, 1) := by decide +kernel
theorem d_Wall_limitFlows_18 : decode b_Wall_limitFlows 18 = .ok (.astore 4, 2) := by decide +kernel
theorem d_Wall_limitFlows_20 : decode b_Wall_limitFlows 20 = .ok (.aload 4, 2) := by decide +kernel
theorem d_Wall_limitFlows_22 : decode b_Wall_limitFlows 22 = .ok (.invokevirtual 171, 3) := by decide +kernel
theorem d_Wall_limitFlows_25 : decode b_Wall_limitFlows 25 = .ok (.iinc 3 1, 3) := by decide +kernel
theorem d_Wall_limitFlows_28 : decode b_Wall_limitFlows 28 = .ok (.goto (-18), 3) := by decide +kernel
theorem d_Wall_limitFlows_31 : decode b_Wall_limitFlows 31 = .ok (.aload_n 0, 1) := by decide +kernel
theorem d_Wall_limitFlows_32 : decode b_Wall_limitFlows 32 = .ok (.getfield 58, 3) := by decide +kernel
theorem d_Wall_limitFlows_35 : decode b_Wall_limitFlows 35 = .ok (.astore_n 1, 1) := by decide +kernel
theorem d_Wall_limitFlows_36 : decode b_Wall_limitFlows 36 = .ok (.aload_n 1, 1) := by decide +kernel
theorem d_Wall_limitFlows_37 : decode b_Wall_limitFlows 37 = .ok (.arraylength, 1) := by decide +kernel
theorem d_Wall_limitFlows_38 : decode b_Wall_limitFlows 38 = .ok (.istore_n 2, 1) := by decide +kernel
theorem d_Wall_limitFlows_39 : decode b_Wall_limitFlows 39 = .ok (.iconst 0, 1) := by decide +kernel
theorem d_Wall_limitFlows_40 : decode b_Wall_limitFlows 40 = .ok (.istore_n 3, 1) := by decide +kernel
theorem d_Wall_limitFlows_41 : decode b_Wall_limitFlows 41 = .ok (.iload_n 3, 1) := by decide +kernel
theorem d_Wall_limitFlows_42 : decode b_Wall_limitFlows 42 = .ok (.iload_n 2, 1) := by decide +kernel
theorem d_Wall_limitFlows_43 : decode b_Wall_limitFlows 43 = .ok (.if_icmp .ge 24, 3) := by decide +kernel
theorem d_Wall_limitFlows_46 : decode b_Wall_limitFlows 46 = .ok (.aload_n 1, 1) := by decide +kernel
theorem d_Wall_limitFlows_47 : decode b_Wall_limitFlows 47 = .ok (.iload_n 3, 1) := by decide +kernel
theorem d_Wall_limitFlows_48 : decode b_Wall_limitFlows 48 = .ok (.aaload, 1) := by decide +kernel
theorem d_Wall_limitFlows_49 : decode b_Wall_limitFlows 49 = .ok (.astore 4, 2) := by decide +kernel
theorem d_Wall_limitFlows_51 : decode b_Wall_limitFlows 51 = .ok (.aload 4, 2) := by decide +kernel
theorem d_Wall_limitFlows_53 : decode b_Wall_limitFlows 53 = .ok (.invokevirtual 174, 3) := by decide +kernel
theorem d_Wall_limitFlows_56 : decode b_Wall_limitFlows 56 = .ok (.aload 4, 2) := by decide +kernel
theorem d_Wall_limitFlows_58 : decode b_Wall_limitFlows 58 = .ok (.invokevirtual 177, 3) := by decide +kernel
theorem d_Wall_limitFlows_61 : decode b_Wall_limitFlows 61 = .ok (.iinc 3 1, 3) := by decide +kernel
theorem d_Wall_limitFlows_64 : decode b_Wall_limitFlows 64 = .ok (.goto (-23), 3) := by decide +kernel
theorem d_Wall_limitFlows_67 : decode b_Wall_limitFlows 67 = .ok (.aload_n 0, 1) := by decide +kernel
theorem d_Wall_limitFlows_68 : decode b_Wall_limitFlows 68 = .ok (.getfield 58, 3) := by decide +kernel
theorem d_Wall_limitFlows_71 : decode b_Wall_limitFlows 71 = .ok (.astore_n 1, 1) := by decide +kernel
theorem d_Wall_limitFlows_72 : decode b_Wall_limitFlows 72 = .ok (.aload_n 1, 1) := by decide +kernel
theorem d_Wall_limitFlows_73 : decode b_Wall_limitFlows 73 = .ok (.arraylength, 1) := by decide +kernel
theorem d_Wall_limitFlows_74 : decode b_Wall_limitFlows 74 = .ok (.istore_n 2, 1) := by decide +kernel
theorem d_Wall_limitFlows_75 : decode b_Wall_limitFlows 75 = .ok (.iconst 0, 1) := by decide +kernel
theorem d_Wall_limitFlows_76 : decode b_Wall_limitFlows 76 = .ok (.istore_n 3, 1) := by decide +kernel
theorem d_Wall_limitFlows_77 : decode b_Wall_limitFlows 77 = .ok (.iload_n 3, 1) := by decide +kernel
theorem d_Wall_limitFlows_78 : decode b_Wall_limitFlows 78 = .ok (.iload_n 2, 1) := by decide +kernel
theorem d_Wall_limitFlows_79 : decode b_Wall_limitFlows 79 = .ok (.if_icmp .ge 19, 3) := by decide +kernel
theorem d_Wall_limitFlows_82 : decode b_Wall_limitFlows 82 = .ok (.aload_n 1, 1) := by decide +kernel
theorem d_Wall_limitFlows_83 : decode b_Wall_limitFlows 83 = .ok (.iload_n 3, 1) := by decide +kernel
theorem d_Wall_limitFlows_84 : decode b_Wall_limitFlows 84 = .ok (.aaload, 1) := by decide +kernel
theorem d_Wall_limitFlows_85 : decode b_Wall_limitFlows 85 = .ok (.astore 4, 2) := by decide +kernel
theorem d_Wall_limitFlows_87 : decode b_Wall_limitFlows 87 = .ok (.aload 4, 2) := by decide +kernel
theorem d_Wall_limitFlows_89 : decode b_Wall_limitFlows 89 = .ok (.invokevirtual 180, 3) := by decide +kernel
theorem d_Wall_limitFlows_92 : decode b_Wall_limitFlows 92 = .ok (.iinc 3 1, 3) := by decide +kernel
theorem d_Wall_limitFlows_95 : decode b_Wall_limitFlows 95 = .ok (.goto (-18), 3) := by decide +kernel
theorem d_Wall_limitFlows_98 : decode b_Wall_limitFlows 98 = .ok (.return_, 1) := by decide +kernel
abbrev b_Math_floorDiv : ByteArray := prog_17_method_49_code
def y_Math_floorDiv : MethodName := ⟨"java/lang/Math", "floorDiv", "(JJ)J"⟩
def ws_Math_floorDiv : List Cond := .code y_Math_floorDiv b_Math_floorDiv 6 (some (.long)) :: x_tb
theorem pd_Math_floorDiv : y_Math_floorDiv.cls ≠ "java/lang/invoke/MethodHandle" ∧ y_Math_floorDiv.cls ≠ "java/lang/invoke/VarHandle" ∧ (parseMethodDescriptor y_Math_floorDiv.desc).map (fun d => d.parameters.length) = some 2 := by decide +kernel
theorem d_Math_floorDiv_0 : decode b_Math_floorDiv 0 = .ok (.lload_n 0, 1) := by decide +kernel
theorem d_Math_floorDiv_1 : decode b_Math_floorDiv 1 = .ok (.lload_n 2, 1) := by decide +kernel
theorem d_Math_floorDiv_2 : decode b_Math_floorDiv 2 = .ok (.ldiv, 1) := by decide +kernel
theorem d_Math_floorDiv_3 : decode b_Math_floorDiv 3 = .ok (.lstore 4, 2) := by decide +kernel
theorem d_Math_floorDiv_5 : decode b_Math_floorDiv 5 = .ok (.lload_n 0, 1) := by decide +kernel
theorem d_Math_floorDiv_6 : decode b_Math_floorDiv 6 = .ok (.lload_n 2, 1) := by decide +kernel
theorem d_Math_floorDiv_7 : decode b_Math_floorDiv 7 = .ok (.lxor, 1) := by decide +kernel
theorem d_Math_floorDiv_8 : decode b_Math_floorDiv 8 = .ok (.lconst 0, 1) := by decide +kernel
theorem d_Math_floorDiv_9 : decode b_Math_floorDiv 9 = .ok (.lcmp, 1) := by decide +kernel
theorem d_Math_floorDiv_10 : decode b_Math_floorDiv 10 = .ok (.ifCond .ge 17, 3) := by decide +kernel
theorem d_Math_floorDiv_13 : decode b_Math_floorDiv 13 = .ok (.lload 4, 2) := by decide +kernel
theorem d_Math_floorDiv_15 : decode b_Math_floorDiv 15 = .ok (.lload_n 2, 1) := by decide +kernel
theorem d_Math_floorDiv_16 : decode b_Math_floorDiv 16 = .ok (.lmul, 1) := by decide +kernel
theorem d_Math_floorDiv_17 : decode b_Math_floorDiv 17 = .ok (.lload_n 0, 1) := by decide +kernel
theorem d_Math_floorDiv_18 : decode b_Math_floorDiv 18 = .ok (.lcmp, 1) := by decide +kernel
theorem d_Math_floorDiv_19 : decode b_Math_floorDiv 19 = .ok (.ifCond .eq 8, 3) := by decide +kernel
theorem d_Math_floorDiv_22 : decode b_Math_floorDiv 22 = .ok (.lload 4, 2) := by decide +kernel
theorem d_Math_floorDiv_24 : decode b_Math_floorDiv 24 = .ok (.lconst 1, 1) := by decide +kernel
theorem d_Math_floorDiv_25 : decode b_Math_floorDiv 25 = .ok (.lsub, 1) := by decide +kernel
theorem d_Math_floorDiv_26 : decode b_Math_floorDiv 26 = .ok (.lreturn, 1) := by decide +kernel
theorem d_Math_floorDiv_27 : decode b_Math_floorDiv 27 = .ok (.lload 4, 2) := by decide +kernel
theorem d_Math_floorDiv_29 : decode b_Math_floorDiv 29 = .ok (.lreturn, 1) := by decide +kernel
abbrev b_Math_floorMod : ByteArray := prog_17_method_50_code
def y_Math_floorMod : MethodName := ⟨"java/lang/Math", "floorMod", "(II)I"⟩
def ws_Math_floorMod : List Cond := .code y_Math_floorMod b_Math_floorMod 3 (some (.int)) :: x_tb
theorem pd_Math_floorMod : y_Math_floorMod.cls ≠ "java/lang/invoke/MethodHandle" ∧ y_Math_floorMod.cls ≠ "java/lang/invoke/VarHandle" ∧ (parseMethodDescriptor y_Math_floorMod.desc).map (fun d => d.parameters.length) = some 2 := by decide +kernel
theorem d_Math_floorMod_0 : decode b_Math_floorMod 0 = .ok (.iload_n 0, 1) := by decide +kernel
theorem d_Math_floorMod_1 : decode b_Math_floorMod 1 = .ok (.iload_n 1, 1) := by decide +kernel
theorem d_Math_floorMod_2 : decode b_Math_floorMod 2 = .ok (.irem, 1) := by decide +kernel
theorem d_Math_floorMod_3 : decode b_Math_floorMod 3 = .ok (.istore_n 2, 1) := by decide +kernel
theorem d_Math_floorMod_4 : decode b_Math_floorMod 4 = .ok (.iload_n 0, 1) := by decide +kernel
theorem d_Math_floorMod_5 : decode b_Math_floorMod 5 = .ok (.iload_n 1, 1) := by decide +kernel
theorem d_Math_floorMod_6 : decode b_Math_floorMod 6 = .ok (.ixor, 1) := by decide +kernel
theorem d_Math_floorMod_7 : decode b_Math_floorMod 7 = .ok (.ifCond .ge 11, 3) := by decide +kernel
theorem d_Math_floorMod_10 : decode b_Math_floorMod 10 = .ok (.iload_n 2, 1) := by decide +kernel
theorem d_Math_floorMod_11 : decode b_Math_floorMod 11 = .ok (.ifCond .eq 7, 3) := by decide +kernel
theorem d_Math_floorMod_14 : decode b_Math_floorMod 14 = .ok (.iload_n 2, 1) := by decide +kernel
theorem d_Math_floorMod_15 : decode b_Math_floorMod 15 = .ok (.iload_n 1, 1) := by decide +kernel
theorem d_Math_floorMod_16 : decode b_Math_floorMod 16 = .ok (.iadd, 1) := by decide +kernel
theorem d_Math_floorMod_17 : decode b_Math_floorMod 17 = .ok (.ireturn, 1) := by decide +kernel
theorem d_Math_floorMod_18 : decode b_Math_floorMod 18 = .ok (.iload_n 2, 1) := by decide +kernel
theorem d_Math_floorMod_19 : decode b_Math_floorMod 19 = .ok (.ireturn, 1) := by decide +kernel
abbrev b_Math_max : ByteArray := prog_17_method_65_code
def y_Math_max : MethodName := ⟨"java/lang/Math", "max", "(II)I"⟩
def ws_Math_max : List Cond := .code y_Math_max b_Math_max 2 (some (.int)) :: x_tb
theorem pd_Math_max : y_Math_max.cls ≠ "java/lang/invoke/MethodHandle" ∧ y_Math_max.cls ≠ "java/lang/invoke/VarHandle" ∧ (parseMethodDescriptor y_Math_max.desc).map (fun d => d.parameters.length) = some 2 := by decide +kernel
theorem d_Math_max_0 : decode b_Math_max 0 = .ok (.iload_n 0, 1) := by decide +kernel
theorem d_Math_max_1 : decode b_Math_max 1 = .ok (.iload_n 1, 1) := by decide +kernel
theorem d_Math_max_2 : decode b_Math_max 2 = .ok (.if_icmp .lt 7, 3) := by decide +kernel
theorem d_Math_max_5 : decode b_Math_max 5 = .ok (.iload_n 0, 1) := by decide +kernel
theorem d_Math_max_6 : decode b_Math_max 6 = .ok (.goto 4, 3) := by decide +kernel
theorem d_Math_max_9 : decode b_Math_max 9 = .ok (.iload_n 1, 1) := by decide +kernel
theorem d_Math_max_10 : decode b_Math_max 10 = .ok (.ireturn, 1) := by decide +kernel
abbrev b_Math_min : ByteArray := prog_17_method_69_code
def y_Math_min : MethodName := ⟨"java/lang/Math", "min", "(II)I"⟩
def ws_Math_min : List Cond := .code y_Math_min b_Math_min 2 (some (.int)) :: x_tb
theorem pd_Math_min : y_Math_min.cls ≠ "java/lang/invoke/MethodHandle" ∧ y_Math_min.cls ≠ "java/lang/invoke/VarHandle" ∧ (parseMethodDescriptor y_Math_min.desc).map (fun d => d.parameters.length) = some 2 := by decide +kernel
theorem d_Math_min_0 : decode b_Math_min 0 = .ok (.iload_n 0, 1) := by decide +kernel
theorem d_Math_min_1 : decode b_Math_min 1 = .ok (.iload_n 1, 1) := by decide +kernel
theorem d_Math_min_2 : decode b_Math_min 2 = .ok (.if_icmp .gt 7, 3) := by decide +kernel
theorem d_Math_min_5 : decode b_Math_min 5 = .ok (.iload_n 0, 1) := by decide +kernel
theorem d_Math_min_6 : decode b_Math_min 6 = .ok (.goto 4, 3) := by decide +kernel
theorem d_Math_min_9 : decode b_Math_min 9 = .ok (.iload_n 1, 1) := by decide +kernel
theorem d_Math_min_10 : decode b_Math_min 10 = .ok (.ireturn, 1) := by decide +kernel
end
section
abbrev b_Mod_init : ByteArray := prog_13_method_1_code
def y_Mod_init : MethodName := ⟨"WallDampModel", "<init>", "(I)V"⟩
def ws_Mod_init : List Cond := .code y_Mod_init b_Mod_init 3 none :: x_tb
theorem pd_Mod_init : y_Mod_init.cls ≠ "java/lang/invoke/MethodHandle" ∧ y_Mod_init.cls ≠ "java/lang/invoke/VarHandle" ∧ (parseMethodDescriptor y_Mod_init.desc).map (fun d => d.parameters.length) = some 1 := by decide +kernel
theorem d_Mod_init_0 : decode b_Mod_init 0 = .ok (.aload_n 0, 1) := by decide +kernel
theorem d_Mod_init_1 : decode b_Mod_init 1 = .ok (.invokespecial 1, 3) := by decide +kernel
theorem d_Mod_init_4 : decode b_Mod_init 4 = .ok (.aload_n 0, 1) := by decide +kernel
theorem d_Mod_init_5 : decode b_Mod_init 5 = .ok (.bipush 6, 2) := by decide +kernel
theorem d_Mod_init_7 : decode b_Mod_init 7 = .ok (.newarray .int, 2) := by decide +kernel
theorem d_Mod_init_9 : decode b_Mod_init 9 = .ok (.putfield 7, 3) := by decide +kernel
theorem d_Mod_init_12 : decode b_Mod_init 12 = .ok (.aload_n 0, 1) := by decide +kernel
theorem d_Mod_init_13 : decode b_Mod_init 13 = .ok (.bipush 42, 2) := by decide +kernel
theorem d_Mod_init_15 : decode b_Mod_init 15 = .ok (.newarray .int, 2) := by decide +kernel
theorem d_Mod_init_17 : decode b_Mod_init 17 = .ok (.putfield 13, 3) := by decide +kernel
theorem d_Mod_init_20 : decode b_Mod_init 20 = .ok (.aload_n 0, 1) := by decide +kernel
theorem d_Mod_init_21 : decode b_Mod_init 21 = .ok (.bipush 42, 2) := by decide +kernel
theorem d_Mod_init_23 : decode b_Mod_init 23 = .ok (.newarray .int, 2) := by decide +kernel
theorem d_Mod_init_25 : decode b_Mod_init 25 = .ok (.putfield 16, 3) := by decide +kernel
theorem d_Mod_init_28 : decode b_Mod_init 28 = .ok (.aload_n 0, 1) := by decide +kernel
theorem d_Mod_init_29 : decode b_Mod_init 29 = .ok (.bipush 6, 2) := by decide +kernel
theorem d_Mod_init_31 : decode b_Mod_init 31 = .ok (.newarray .int, 2) := by decide +kernel
theorem d_Mod_init_33 : decode b_Mod_init 33 = .ok (.putfield 19, 3) := by decide +kernel
theorem d_Mod_init_36 : decode b_Mod_init 36 = .ok (.aload_n 0, 1) := by decide +kernel
theorem d_Mod_init_37 : decode b_Mod_init 37 = .ok (.bipush 6, 2) := by decide +kernel
theorem d_Mod_init_39 : decode b_Mod_init 39 = .ok (.newarray .int, 2) := by decide +kernel
theorem d_Mod_init_41 : decode b_Mod_init 41 = .ok (.putfield 22, 3) := by decide +kernel
theorem d_Mod_init_44 : decode b_Mod_init 44 = .ok (.aload_n 0, 1) := by decide +kernel
theorem d_Mod_init_45 : decode b_Mod_init 45 = .ok (.bipush 6, 2) := by decide +kernel
theorem d_Mod_init_47 : decode b_Mod_init 47 = .ok (.newarray .int, 2) := by decide +kernel
theorem d_Mod_init_49 : decode b_Mod_init 49 = .ok (.putfield 25, 3) := by decide +kernel
theorem d_Mod_init_52 : decode b_Mod_init 52 = .ok (.aload_n 0, 1) := by decide +kernel
theorem d_Mod_init_53 : decode b_Mod_init 53 = .ok (.bipush 12, 2) := by decide +kernel
theorem d_Mod_init_55 : decode b_Mod_init 55 = .ok (.newarray .int, 2) := by decide +kernel
theorem d_Mod_init_57 : decode b_Mod_init 57 = .ok (.putfield 28, 3) := by decide +kernel
theorem d_Mod_init_60 : decode b_Mod_init 60 = .ok (.aload_n 0, 1) := by decide +kernel
theorem d_Mod_init_61 : decode b_Mod_init 61 = .ok (.bipush 12, 2) := by decide +kernel
theorem d_Mod_init_63 : decode b_Mod_init 63 = .ok (.newarray .int, 2) := by decide +kernel
theorem d_Mod_init_65 : decode b_Mod_init 65 = .ok (.putfield 31, 3) := by decide +kernel
theorem d_Mod_init_68 : decode b_Mod_init 68 = .ok (.aload_n 0, 1) := by decide +kernel
theorem d_Mod_init_69 : decode b_Mod_init 69 = .ok (.bipush 12, 2) := by decide +kernel
theorem d_Mod_init_71 : decode b_Mod_init 71 = .ok (.newarray .long, 2) := by decide +kernel
theorem d_Mod_init_73 : decode b_Mod_init 73 = .ok (.putfield 34, 3) := by decide +kernel
theorem d_Mod_init_76 : decode b_Mod_init 76 = .ok (.aload_n 0, 1) := by decide +kernel
theorem d_Mod_init_77 : decode b_Mod_init 77 = .ok (.bipush 12, 2) := by decide +kernel
theorem d_Mod_init_79 : decode b_Mod_init 79 = .ok (.newarray .int, 2) := by decide +kernel
theorem d_Mod_init_81 : decode b_Mod_init 81 = .ok (.putfield 38, 3) := by decide +kernel
theorem d_Mod_init_84 : decode b_Mod_init 84 = .ok (.aload_n 0, 1) := by decide +kernel
theorem d_Mod_init_85 : decode b_Mod_init 85 = .ok (.bipush 12, 2) := by decide +kernel
theorem d_Mod_init_87 : decode b_Mod_init 87 = .ok (.newarray .int, 2) := by decide +kernel
theorem d_Mod_init_89 : decode b_Mod_init 89 = .ok (.putfield 41, 3) := by decide +kernel
theorem d_Mod_init_92 : decode b_Mod_init 92 = .ok (.aload_n 0, 1) := by decide +kernel
theorem d_Mod_init_93 : decode b_Mod_init 93 = .ok (.bipush 12, 2) := by decide +kernel
theorem d_Mod_init_95 : decode b_Mod_init 95 = .ok (.newarray .int, 2) := by decide +kernel
theorem d_Mod_init_97 : decode b_Mod_init 97 = .ok (.putfield 44, 3) := by decide +kernel
theorem d_Mod_init_100 : decode b_Mod_init 100 = .ok (.aload_n 0, 1) := by decide +kernel
theorem d_Mod_init_101 : decode b_Mod_init 101 = .ok (.bipush 12, 2) := by decide +kernel
theorem d_Mod_init_103 : decode b_Mod_init 103 = .ok (.newarray .boolean, 2) := by decide +kernel
theorem d_Mod_init_105 : decode b_Mod_init 105 = .ok (.putfield 47, 3) := by decide +kernel
theorem d_Mod_init_108 : decode b_Mod_init 108 = .ok (.aload_n 0, 1) := by decide +kernel
theorem d_Mod_init_109 : decode b_Mod_init 109 = .ok (.bipush 12, 2) := by decide +kernel
theorem d_Mod_init_111 : decode b_Mod_init 111 = .ok (.newarray .int, 2) := by decide +kernel
theorem d_Mod_init_113 : decode b_Mod_init 113 = .ok (.putfield 51, 3) := by decide +kernel
theorem d_Mod_init_116 : decode b_Mod_init 116 = .ok (.aload_n 0, 1) := by decide +kernel
theorem d_Mod_init_117 : decode b_Mod_init 117 = .ok (.bipush 8, 2) := by decide +kernel
theorem d_Mod_init_119 : decode b_Mod_init 119 = .ok (.newarray .int, 2) := by decide +kernel
theorem d_Mod_init_121 : decode b_Mod_init 121 = .ok (.putfield 54, 3) := by decide +kernel
theorem d_Mod_init_124 : decode b_Mod_init 124 = .ok (.aload_n 0, 1) := by decide +kernel
theorem d_Mod_init_125 : decode b_Mod_init 125 = .ok (.bipush 8, 2) := by decide +kernel
theorem d_Mod_init_127 : decode b_Mod_init 127 = .ok (.newarray .int, 2) := by decide +kernel
theorem d_Mod_init_129 : decode b_Mod_init 129 = .ok (.putfield 57, 3) := by decide +kernel
theorem d_Mod_init_132 : decode b_Mod_init 132 = .ok (.aload_n 0, 1) := by decide +kernel
theorem d_Mod_init_133 : decode b_Mod_init 133 = .ok (.bipush 10, 2) := by decide +kernel
theorem d_Mod_init_135 : decode b_Mod_init 135 = .ok (.putfield 60, 3) := by decide +kernel
theorem d_Mod_init_138 : decode b_Mod_init 138 = .ok (.aload_n 0, 1) := by decide +kernel
theorem d_Mod_init_139 : decode b_Mod_init 139 = .ok (.bipush 10, 2) := by decide +kernel
theorem d_Mod_init_141 : decode b_Mod_init 141 = .ok (.putfield 64, 3) := by decide +kernel
theorem d_Mod_init_144 : decode b_Mod_init 144 = .ok (.aload_n 0, 1) := by decide +kernel
theorem d_Mod_init_145 : decode b_Mod_init 145 = .ok (.bipush 24, 2) := by decide +kernel
theorem d_Mod_init_147 : decode b_Mod_init 147 = .ok (.newarray .int, 2) := by decide +kernel
theorem d_Mod_init_149 : decode b_Mod_init 149 = .ok (.putfield 67, 3) := by decide +kernel
theorem d_Mod_init_152 : decode b_Mod_init 152 = .ok (.aload_n 0, 1) := by decide +kernel
theorem d_Mod_init_153 : decode b_Mod_init 153 = .ok (.bipush 24, 2) := by decide +kernel
theorem d_Mod_init_155 : decode b_Mod_init 155 = .ok (.newarray .int, 2) := by decide +kernel
theorem d_Mod_init_157 : decode b_Mod_init 157 = .ok (.putfield 70, 3) := by decide +kernel
theorem d_Mod_init_160 : decode b_Mod_init 160 = .ok (.aload_n 0, 1) := by decide +kernel
theorem d_Mod_init_161 : decode b_Mod_init 161 = .ok (.bipush 24, 2) := by decide +kernel
theorem d_Mod_init_163 : decode b_Mod_init 163 = .ok (.newarray .int, 2) := by decide +kernel
theorem d_Mod_init_165 : decode b_Mod_init 165 = .ok (.putfield 73, 3) := by decide +kernel
theorem d_Mod_init_168 : decode b_Mod_init 168 = .ok (.aload_n 0, 1) := by decide +kernel
theorem d_Mod_init_169 : decode b_Mod_init 169 = .ok (.bipush 24, 2) := by decide +kernel
theorem d_Mod_init_171 : decode b_Mod_init 171 = .ok (.newarray .int, 2) := by decide +kernel
theorem d_Mod_init_173 : decode b_Mod_init 173 = .ok (.putfield 76, 3) := by decide +kernel
theorem d_Mod_init_176 : decode b_Mod_init 176 = .ok (.aload_n 0, 1) := by decide +kernel
theorem d_Mod_init_177 : decode b_Mod_init 177 = .ok (.bipush 24, 2) := by decide +kernel
theorem d_Mod_init_179 : decode b_Mod_init 179 = .ok (.newarray .int, 2) := by decide +kernel
theorem d_Mod_init_181 : decode b_Mod_init 181 = .ok (.putfield 79, 3) := by decide +kernel
theorem d_Mod_init_184 : decode b_Mod_init 184 = .ok (.aload_n 0, 1) := by decide +kernel
theorem d_Mod_init_185 : decode b_Mod_init 185 = .ok (.bipush 24, 2) := by decide +kernel
theorem d_Mod_init_187 : decode b_Mod_init 187 = .ok (.newarray .int, 2) := by decide +kernel
theorem d_Mod_init_189 : decode b_Mod_init 189 = .ok (.putfield 82, 3) := by decide +kernel
theorem d_Mod_init_192 : decode b_Mod_init 192 = .ok (.aload_n 0, 1) := by decide +kernel
theorem d_Mod_init_193 : decode b_Mod_init 193 = .ok (.bipush 6, 2) := by decide +kernel
theorem d_Mod_init_195 : decode b_Mod_init 195 = .ok (.newarray .int, 2) := by decide +kernel
theorem d_Mod_init_197 : decode b_Mod_init 197 = .ok (.putfield 85, 3) := by decide +kernel
theorem d_Mod_init_200 : decode b_Mod_init 200 = .ok (.aload_n 0, 1) := by decide +kernel
theorem d_Mod_init_201 : decode b_Mod_init 201 = .ok (.bipush 6, 2) := by decide +kernel
theorem d_Mod_init_203 : decode b_Mod_init 203 = .ok (.newarray .int, 2) := by decide +kernel
theorem d_Mod_init_205 : decode b_Mod_init 205 = .ok (.putfield 88, 3) := by decide +kernel
theorem d_Mod_init_208 : decode b_Mod_init 208 = .ok (.aload_n 0, 1) := by decide +kernel
theorem d_Mod_init_209 : decode b_Mod_init 209 = .ok (.bipush 6, 2) := by decide +kernel
theorem d_Mod_init_211 : decode b_Mod_init 211 = .ok (.newarray .int, 2) := by decide +kernel
theorem d_Mod_init_213 : decode b_Mod_init 213 = .ok (.putfield 91, 3) := by decide +kernel
theorem d_Mod_init_216 : decode b_Mod_init 216 = .ok (.aload_n 0, 1) := by decide +kernel
theorem d_Mod_init_217 : decode b_Mod_init 217 = .ok (.bipush 6, 2) := by decide +kernel
theorem d_Mod_init_219 : decode b_Mod_init 219 = .ok (.newarray .int, 2) := by decide +kernel
theorem d_Mod_init_221 : decode b_Mod_init 221 = .ok (.putfield 94, 3) := by decide +kernel
theorem d_Mod_init_224 : decode b_Mod_init 224 = .ok (.aload_n 0, 1) := by decide +kernel
theorem d_Mod_init_225 : decode b_Mod_init 225 = .ok (.bipush 12, 2) := by decide +kernel
theorem d_Mod_init_227 : decode b_Mod_init 227 = .ok (.newarray .long, 2) := by decide +kernel
theorem d_Mod_init_229 : decode b_Mod_init 229 = .ok (.putfield 97, 3) := by decide +kernel
theorem d_Mod_init_232 : decode b_Mod_init 232 = .ok (.aload_n 0, 1) := by decide +kernel
theorem d_Mod_init_233 : decode b_Mod_init 233 = .ok (.bipush 12, 2) := by decide +kernel
theorem d_Mod_init_235 : decode b_Mod_init 235 = .ok (.newarray .int, 2) := by decide +kernel
theorem d_Mod_init_237 : decode b_Mod_init 237 = .ok (.putfield 100, 3) := by decide +kernel
theorem d_Mod_init_240 : decode b_Mod_init 240 = .ok (.aload_n 0, 1) := by decide +kernel
theorem d_Mod_init_241 : decode b_Mod_init 241 = .ok (.bipush 72, 2) := by decide +kernel
theorem d_Mod_init_243 : decode b_Mod_init 243 = .ok (.newarray .long, 2) := by decide +kernel
theorem d_Mod_init_245 : decode b_Mod_init 245 = .ok (.putfield 103, 3) := by decide +kernel
theorem d_Mod_init_248 : decode b_Mod_init 248 = .ok (.aload_n 0, 1) := by decide +kernel
theorem d_Mod_init_249 : decode b_Mod_init 249 = .ok (.bipush 12, 2) := by decide +kernel
theorem d_Mod_init_251 : decode b_Mod_init 251 = .ok (.newarray .int, 2) := by decide +kernel
theorem d_Mod_init_253 : decode b_Mod_init 253 = .ok (.putfield 106, 3) := by decide +kernel
theorem d_Mod_init_256 : decode b_Mod_init 256 = .ok (.aload_n 0, 1) := by decide +kernel
theorem d_Mod_init_257 : decode b_Mod_init 257 = .ok (.bipush 12, 2) := by decide +kernel
theorem d_Mod_init_259 : decode b_Mod_init 259 = .ok (.newarray .int, 2) := by decide +kernel
theorem d_Mod_init_261 : decode b_Mod_init 261 = .ok (.putfield 109, 3) := by decide +kernel
theorem d_Mod_init_264 : decode b_Mod_init 264 = .ok (.aload_n 0, 1) := by decide +kernel
theorem d_Mod_init_265 : decode b_Mod_init 265 = .ok (.bipush 12, 2) := by decide +kernel
theorem d_Mod_init_267 : decode b_Mod_init 267 = .ok (.newarray .int, 2) := by decide +kernel
theorem d_Mod_init_269 : decode b_Mod_init 269 = .ok (.putfield 112, 3) := by decide +kernel
theorem d_Mod_init_272 : decode b_Mod_init 272 = .ok (.aload_n 0, 1) := by decide +kernel
theorem d_Mod_init_273 : decode b_Mod_init 273 = .ok (.iconst 5, 1) := by decide +kernel
theorem d_Mod_init_274 : decode b_Mod_init 274 = .ok (.newarray .int, 2) := by decide +kernel
theorem d_Mod_init_276 : decode b_Mod_init 276 = .ok (.putfield 115, 3) := by decide +kernel
theorem d_Mod_init_279 : decode b_Mod_init 279 = .ok (.aload_n 0, 1) := by decide +kernel
theorem d_Mod_init_280 : decode b_Mod_init 280 = .ok (.iconst 5, 1) := by decide +kernel
theorem d_Mod_init_281 : decode b_Mod_init 281 = .ok (.newarray .int, 2) := by decide +kernel
theorem d_Mod_init_283 : decode b_Mod_init 283 = .ok (.putfield 118, 3) := by decide +kernel
theorem d_Mod_init_286 : decode b_Mod_init 286 = .ok (.aload_n 0, 1) := by decide +kernel
theorem d_Mod_init_287 : decode b_Mod_init 287 = .ok (.iconst 5, 1) := by decide +kernel
theorem d_Mod_init_288 : decode b_Mod_init 288 = .ok (.newarray .boolean, 2) := by decide +kernel
theorem d_Mod_init_290 : decode b_Mod_init 290 = .ok (.putfield 121, 3) := by decide +kernel
theorem d_Mod_init_293 : decode b_Mod_init 293 = .ok (.aload_n 0, 1) := by decide +kernel
theorem d_Mod_init_294 : decode b_Mod_init 294 = .ok (.bipush 14, 2) := by decide +kernel
theorem d_Mod_init_296 : decode b_Mod_init 296 = .ok (.newarray .long, 2) := by decide +kernel
theorem d_Mod_init_298 : decode b_Mod_init 298 = .ok (.putfield 124, 3) := by decide +kernel
theorem d_Mod_init_301 : decode b_Mod_init 301 = .ok (.aload_n 0, 1) := by decide +kernel
theorem d_Mod_init_302 : decode b_Mod_init 302 = .ok (.iload_n 1, 1) := by decide +kernel
theorem d_Mod_init_303 : decode b_Mod_init 303 = .ok (.iconst 1, 1) := by decide +kernel
theorem d_Mod_init_304 : decode b_Mod_init 304 = .ok (.if_icmp .ge 7, 3) := by decide +kernel
theorem d_Mod_init_307 : decode b_Mod_init 307 = .ok (.iconst 1, 1) := by decide +kernel
theorem d_Mod_init_308 : decode b_Mod_init 308 = .ok (.goto 15, 3) := by decide +kernel
theorem d_Mod_init_311 : decode b_Mod_init 311 = .ok (.iload_n 1, 1) := by decide +kernel
theorem d_Mod_init_312 : decode b_Mod_init 312 = .ok (.bipush 12, 2) := by decide +kernel
theorem d_Mod_init_314 : decode b_Mod_init 314 = .ok (.if_icmp .le 8, 3) := by decide +kernel
theorem d_Mod_init_317 : decode b_Mod_init 317 = .ok (.bipush 12, 2) := by decide +kernel
theorem d_Mod_init_319 : decode b_Mod_init 319 = .ok (.goto 4, 3) := by decide +kernel
theorem d_Mod_init_322 : decode b_Mod_init 322 = .ok (.iload_n 1, 1) := by decide +kernel
theorem d_Mod_init_323 : decode b_Mod_init 323 = .ok (.putfield 127, 3) := by decide +kernel
theorem d_Mod_init_326 : decode b_Mod_init 326 = .ok (.iconst 0, 1) := by decide +kernel
theorem d_Mod_init_327 : decode b_Mod_init 327 = .ok (.istore_n 2, 1) := by decide +kernel
theorem d_Mod_init_328 : decode b_Mod_init 328 = .ok (.iload_n 2, 1) := by decide +kernel
theorem d_Mod_init_329 : decode b_Mod_init 329 = .ok (.bipush 6, 2) := by decide +kernel
theorem d_Mod_init_331 : decode b_Mod_init 331 = .ok (.if_icmp .ge 24, 3) := by decide +kernel
theorem d_Mod_init_334 : decode b_Mod_init 334 = .ok (.aload_n 0, 1) := by decide +kernel
theorem d_Mod_init_335 : decode b_Mod_init 335 = .ok (.getfield 7, 3) := by decide +kernel
theorem d_Mod_init_338 : decode b_Mod_init 338 = .ok (.iload_n 2, 1) := by decide +kernel
theorem d_Mod_init_339 : decode b_Mod_init 339 = .ok (.iconst 1, 1) := by decide +kernel
theorem d_Mod_init_340 : decode b_Mod_init 340 = .ok (.iastore, 1) := by decide +kernel
theorem d_Mod_init_341 : decode b_Mod_init 341 = .ok (.aload_n 0, 1) := by decide +kernel
theorem d_Mod_init_342 : decode b_Mod_init 342 = .ok (.getfield 25, 3) := by decide +kernel
theorem d_Mod_init_345 : decode b_Mod_init 345 = .ok (.iload_n 2, 1) := by decide +kernel
theorem d_Mod_init_346 : decode b_Mod_init 346 = .ok (.bipush 100, 2) := by decide +kernel
theorem d_Mod_init_348 : decode b_Mod_init 348 = .ok (.iastore, 1) := by decide +kernel
theorem d_Mod_init_349 : decode b_Mod_init 349 = .ok (.iinc 2 1, 3) := by decide +kernel
theorem d_Mod_init_352 : decode b_Mod_init 352 = .ok (.goto (-24), 3) := by decide +kernel
theorem d_Mod_init_355 : decode b_Mod_init 355 = .ok (.iconst 0, 1) := by decide +kernel
theorem d_Mod_init_356 : decode b_Mod_init 356 = .ok (.istore_n 2, 1) := by decide +kernel
theorem d_Mod_init_357 : decode b_Mod_init 357 = .ok (.iload_n 2, 1) := by decide +kernel
theorem d_Mod_init_358 : decode b_Mod_init 358 = .ok (.bipush 12, 2) := by decide +kernel
theorem d_Mod_init_360 : decode b_Mod_init 360 = .ok (.if_icmp .ge 17, 3) := by decide +kernel
theorem d_Mod_init_363 : decode b_Mod_init 363 = .ok (.aload_n 0, 1) := by decide +kernel
theorem d_Mod_init_364 : decode b_Mod_init 364 = .ok (.getfield 31, 3) := by decide +kernel
theorem d_Mod_init_367 : decode b_Mod_init 367 = .ok (.iload_n 2, 1) := by decide +kernel
theorem d_Mod_init_368 : decode b_Mod_init 368 = .ok (.bipush 10, 2) := by decide +kernel
theorem d_Mod_init_370 : decode b_Mod_init 370 = .ok (.iastore, 1) := by decide +kernel
theorem d_Mod_init_371 : decode b_Mod_init 371 = .ok (.iinc 2 1, 3) := by decide +kernel
theorem d_Mod_init_374 : decode b_Mod_init 374 = .ok (.goto (-17), 3) := by decide +kernel
theorem d_Mod_init_377 : decode b_Mod_init 377 = .ok (.return_, 1) := by decide +kernel
abbrev b_Mod_thrown : ByteArray := prog_13_method_2_code
def y_Mod_thrown : MethodName := ⟨"WallDampModel", "thrown", "()I"⟩
def ws_Mod_thrown : List Cond := .code y_Mod_thrown b_Mod_thrown 1 (some (.int)) :: x_tb
theorem pd_Mod_thrown : y_Mod_thrown.cls ≠ "java/lang/invoke/MethodHandle" ∧ y_Mod_thrown.cls ≠ "java/lang/invoke/VarHandle" ∧ (parseMethodDescriptor y_Mod_thrown.desc).map (fun d => d.parameters.length) = some 0 := by decide +kernel
theorem d_Mod_thrown_0 : decode b_Mod_thrown 0 = .ok (.aload_n 0, 1) := by decide +kernel
theorem d_Mod_thrown_1 : decode b_Mod_thrown 1 = .ok (.getfield 130, 3) := by decide +kernel
theorem d_Mod_thrown_4 : decode b_Mod_thrown 4 = .ok (.ireturn, 1) := by decide +kernel
abbrev b_Mod_in : ByteArray := prog_13_method_3_code
def y_Mod_in : MethodName := ⟨"WallDampModel", "in", "(JJJ)Z"⟩
def ws_Mod_in : List Cond := .code y_Mod_in b_Mod_in 6 (some (.boolean)) :: x_tb
theorem pd_Mod_in : y_Mod_in.cls ≠ "java/lang/invoke/MethodHandle" ∧ y_Mod_in.cls ≠ "java/lang/invoke/VarHandle" ∧ (parseMethodDescriptor y_Mod_in.desc).map (fun d => d.parameters.length) = some 3 := by decide +kernel
theorem d_Mod_in_0 : decode b_Mod_in 0 = .ok (.lload_n 0, 1) := by decide +kernel
theorem d_Mod_in_1 : decode b_Mod_in 1 = .ok (.lload_n 2, 1) := by decide +kernel
theorem d_Mod_in_2 : decode b_Mod_in 2 = .ok (.lcmp, 1) := by decide +kernel
theorem d_Mod_in_3 : decode b_Mod_in 3 = .ok (.ifCond .lt 14, 3) := by decide +kernel
theorem d_Mod_in_6 : decode b_Mod_in 6 = .ok (.lload_n 0, 1) := by decide +kernel
theorem d_Mod_in_7 : decode b_Mod_in 7 = .ok (.lload 4, 2) := by decide +kernel
theorem d_Mod_in_9 : decode b_Mod_in 9 = .ok (.lcmp, 1) := by decide +kernel
theorem d_Mod_in_10 : decode b_Mod_in 10 = .ok (.ifCond .gt 7, 3) := by decide +kernel
theorem d_Mod_in_13 : decode b_Mod_in 13 = .ok (.iconst 1, 1) := by decide +kernel
theorem d_Mod_in_14 : decode b_Mod_in 14 = .ok (.goto 4, 3) := by decide +kernel
theorem d_Mod_in_17 : decode b_Mod_in 17 = .ok (.iconst 0, 1) := by decide +kernel
theorem d_Mod_in_18 : decode b_Mod_in 18 = .ok (.ireturn, 1) := by decide +kernel
abbrev b_Mod_isCell : ByteArray := prog_13_method_4_code
def y_Mod_isCell : MethodName := ⟨"WallDampModel", "isCell", "(I)Z"⟩
def ws_Mod_isCell : List Cond := .code y_Mod_isCell b_Mod_isCell 2 (some (.boolean)) :: x_tb
theorem pd_Mod_isCell : y_Mod_isCell.cls ≠ "java/lang/invoke/MethodHandle" ∧ y_Mod_isCell.cls ≠ "java/lang/invoke/VarHandle" ∧ (parseMethodDescriptor y_Mod_isCell.desc).map (fun d => d.parameters.length) = some 1 := by decide +kernel
theorem d_Mod_isCell_0 : decode b_Mod_isCell 0 = .ok (.iload_n 1, 1) := by decide +kernel
theorem d_Mod_isCell_1 : decode b_Mod_isCell 1 = .ok (.i2l, 1) := by decide +kernel
theorem d_Mod_isCell_2 : decode b_Mod_isCell 2 = .ok (.lconst 0, 1) := by decide +kernel
theorem d_Mod_isCell_3 : decode b_Mod_isCell 3 = .ok (.aload_n 0, 1) := by decide +kernel
theorem d_Mod_isCell_4 : decode b_Mod_isCell 4 = .ok (.getfield 127, 3) := by decide +kernel
theorem d_Mod_isCell_7 : decode b_Mod_isCell 7 = .ok (.i2l, 1) := by decide +kernel
theorem d_Mod_isCell_8 : decode b_Mod_isCell 8 = .ok (.lconst 1, 1) := by decide +kernel
theorem d_Mod_isCell_9 : decode b_Mod_isCell 9 = .ok (.lsub, 1) := by decide +kernel
theorem d_Mod_isCell_10 : decode b_Mod_isCell 10 = .ok (.invokestatic 133, 3) := by decide +kernel
theorem d_Mod_isCell_13 : decode b_Mod_isCell 13 = .ok (.ireturn, 1) := by decide +kernel
abbrev b_Mod_floor : ByteArray := prog_13_method_5_code
def y_Mod_floor : MethodName := ⟨"WallDampModel", "floor", "(JJ)J"⟩
def ws_Mod_floor : List Cond := .code y_Mod_floor b_Mod_floor 6 (some (.long)) :: x_tb
theorem pd_Mod_floor : y_Mod_floor.cls ≠ "java/lang/invoke/MethodHandle" ∧ y_Mod_floor.cls ≠ "java/lang/invoke/VarHandle" ∧ (parseMethodDescriptor y_Mod_floor.desc).map (fun d => d.parameters.length) = some 2 := by decide +kernel
theorem d_Mod_floor_0 : decode b_Mod_floor 0 = .ok (.lload_n 0, 1) := by decide +kernel
theorem d_Mod_floor_1 : decode b_Mod_floor 1 = .ok (.lload_n 2, 1) := by decide +kernel
theorem d_Mod_floor_2 : decode b_Mod_floor 2 = .ok (.ldiv, 1) := by decide +kernel
theorem d_Mod_floor_3 : decode b_Mod_floor 3 = .ok (.lstore 4, 2) := by decide +kernel
theorem d_Mod_floor_5 : decode b_Mod_floor 5 = .ok (.lload 4, 2) := by decide +kernel
theorem d_Mod_floor_7 : decode b_Mod_floor 7 = .ok (.lload_n 2, 1) := by decide +kernel
theorem d_Mod_floor_8 : decode b_Mod_floor 8 = .ok (.lmul, 1) := by decide +kernel
theorem d_Mod_floor_9 : decode b_Mod_floor 9 = .ok (.lload_n 0, 1) := by decide +kernel
theorem d_Mod_floor_10 : decode b_Mod_floor 10 = .ok (.lcmp, 1) := by decide +kernel
theorem d_Mod_floor_11 : decode b_Mod_floor 11 = .ok (.ifCond .le 10, 3) := by decide +kernel
theorem d_Mod_floor_14 : decode b_Mod_floor 14 = .ok (.lload 4, 2) := by decide +kernel
theorem d_Mod_floor_16 : decode b_Mod_floor 16 = .ok (.lconst 1, 1) := by decide +kernel
theorem d_Mod_floor_17 : decode b_Mod_floor 17 = .ok (.lsub, 1) := by decide +kernel
theorem d_Mod_floor_18 : decode b_Mod_floor 18 = .ok (.goto 5, 3) := by decide +kernel
theorem d_Mod_floor_21 : decode b_Mod_floor 21 = .ok (.lload 4, 2) := by decide +kernel
theorem d_Mod_floor_23 : decode b_Mod_floor 23 = .ok (.lreturn, 1) := by decide +kernel
abbrev b_Mod_most : ByteArray := prog_13_method_6_code
def y_Mod_most : MethodName := ⟨"WallDampModel", "most", "(I)I"⟩
def ws_Mod_most : List Cond := .code y_Mod_most b_Mod_most 2 (some (.int)) :: x_tb
theorem pd_Mod_most : y_Mod_most.cls ≠ "java/lang/invoke/MethodHandle" ∧ y_Mod_most.cls ≠ "java/lang/invoke/VarHandle" ∧ (parseMethodDescriptor y_Mod_most.desc).map (fun d => d.parameters.length) = some 1 := by decide +kernel
theorem d_Mod_most_0 : decode b_Mod_most 0 = .ok (.aload_n 0, 1) := by decide +kernel
theorem d_Mod_most_1 : decode b_Mod_most 1 = .ok (.getfield 13, 3) := by decide +kernel
theorem d_Mod_most_4 : decode b_Mod_most 4 = .ok (.bipush 7, 2) := by decide +kernel
theorem d_Mod_most_6 : decode b_Mod_most 6 = .ok (.iload_n 1, 1) := by decide +kernel
theorem d_Mod_most_7 : decode b_Mod_most 7 = .ok (.imul, 1) := by decide +kernel
theorem d_Mod_most_8 : decode b_Mod_most 8 = .ok (.aload_n 0, 1) := by decide +kernel
theorem d_Mod_most_9 : decode b_Mod_most 9 = .ok (.getfield 7, 3) := by decide +kernel
theorem d_Mod_most_12 : decode b_Mod_most 12 = .ok (.iload_n 1, 1) := by decide +kernel
theorem d_Mod_most_13 : decode b_Mod_most 13 = .ok (.iaload, 1) := by decide +kernel
theorem d_Mod_most_14 : decode b_Mod_most 14 = .ok (.iadd, 1) := by decide +kernel
theorem d_Mod_most_15 : decode b_Mod_most 15 = .ok (.iconst 1, 1) := by decide +kernel
theorem d_Mod_most_16 : decode b_Mod_most 16 = .ok (.isub, 1) := by decide +kernel
theorem d_Mod_most_17 : decode b_Mod_most 17 = .ok (.iaload, 1) := by decide +kernel
theorem d_Mod_most_18 : decode b_Mod_most 18 = .ok (.ireturn, 1) := by decide +kernel
abbrev b_Mod_curve : ByteArray := prog_13_method_7_code
def y_Mod_curve : MethodName := ⟨"WallDampModel", "curve", "(III)I"⟩
def ws_Mod_curve : List Cond := .code y_Mod_curve b_Mod_curve 5 (some (.int)) :: x_tb
theorem pd_Mod_curve : y_Mod_curve.cls ≠ "java/lang/invoke/MethodHandle" ∧ y_Mod_curve.cls ≠ "java/lang/invoke/VarHandle" ∧ (parseMethodDescriptor y_Mod_curve.desc).map (fun d => d.parameters.length) = some 3 := by decide +kernel
theorem d_Mod_curve_0 : decode b_Mod_curve 0 = .ok (.iload_n 1, 1) := by decide +kernel
theorem d_Mod_curve_1 : decode b_Mod_curve 1 = .ok (.i2l, 1) := by decide +kernel
theorem d_Mod_curve_2 : decode b_Mod_curve 2 = .ok (.lconst 0, 1) := by decide +kernel
theorem d_Mod_curve_3 : decode b_Mod_curve 3 = .ok (.ldc2_w 137, 3) := by decide +kernel
theorem d_Mod_curve_6 : decode b_Mod_curve 6 = .ok (.invokestatic 133, 3) := by decide +kernel
theorem d_Mod_curve_9 : decode b_Mod_curve 9 = .ok (.ifCond .eq 31, 3) := by decide +kernel
theorem d_Mod_curve_12 : decode b_Mod_curve 12 = .ok (.iload_n 2, 1) := by decide +kernel
theorem d_Mod_curve_13 : decode b_Mod_curve 13 = .ok (.i2l, 1) := by decide +kernel
theorem d_Mod_curve_14 : decode b_Mod_curve 14 = .ok (.lconst 0, 1) := by decide +kernel
theorem d_Mod_curve_15 : decode b_Mod_curve 15 = .ok (.ldc2_w 139, 3) := by decide +kernel
theorem d_Mod_curve_18 : decode b_Mod_curve 18 = .ok (.invokestatic 133, 3) := by decide +kernel
theorem d_Mod_curve_21 : decode b_Mod_curve 21 = .ok (.ifCond .eq 19, 3) := by decide +kernel
theorem d_Mod_curve_24 : decode b_Mod_curve 24 = .ok (.iload_n 3, 1) := by decide +kernel
theorem d_Mod_curve_25 : decode b_Mod_curve 25 = .ok (.i2l, 1) := by decide +kernel
theorem d_Mod_curve_26 : decode b_Mod_curve 26 = .ok (.lconst 0, 1) := by decide +kernel
theorem d_Mod_curve_27 : decode b_Mod_curve 27 = .ok (.ldc2_w 141, 3) := by decide +kernel
theorem d_Mod_curve_30 : decode b_Mod_curve 30 = .ok (.invokestatic 133, 3) := by decide +kernel
theorem d_Mod_curve_33 : decode b_Mod_curve 33 = .ok (.ifCond .eq 7, 3) := by decide +kernel
theorem d_Mod_curve_36 : decode b_Mod_curve 36 = .ok (.iconst 1, 1) := by decide +kernel
theorem d_Mod_curve_37 : decode b_Mod_curve 37 = .ok (.goto 4, 3) := by decide +kernel
theorem d_Mod_curve_40 : decode b_Mod_curve 40 = .ok (.iconst 0, 1) := by decide +kernel
theorem d_Mod_curve_41 : decode b_Mod_curve 41 = .ok (.istore 4, 2) := by decide +kernel
theorem d_Mod_curve_43 : decode b_Mod_curve 43 = .ok (.aload_n 0, 1) := by decide +kernel
theorem d_Mod_curve_44 : decode b_Mod_curve 44 = .ok (.iload 4, 2) := by decide +kernel
theorem d_Mod_curve_46 : decode b_Mod_curve 46 = .ok (.ifCond .ne 7, 3) := by decide +kernel
theorem d_Mod_curve_49 : decode b_Mod_curve 49 = .ok (.iconst 1, 1) := by decide +kernel
theorem d_Mod_curve_50 : decode b_Mod_curve 50 = .ok (.goto 57, 3) := by decide +kernel
theorem d_Mod_curve_53 : decode b_Mod_curve 53 = .ok (.aload_n 0, 1) := by decide +kernel
theorem d_Mod_curve_54 : decode b_Mod_curve 54 = .ok (.getfield 7, 3) := by decide +kernel
theorem d_Mod_curve_57 : decode b_Mod_curve 57 = .ok (.iload_n 1, 1) := by decide +kernel
theorem d_Mod_curve_58 : decode b_Mod_curve 58 = .ok (.iaload, 1) := by decide +kernel
theorem d_Mod_curve_59 : decode b_Mod_curve 59 = .ok (.bipush 7, 2) := by decide +kernel
theorem d_Mod_curve_61 : decode b_Mod_curve 61 = .ok (.if_icmp .eq 41, 3) := by decide +kernel
theorem d_Mod_curve_64 : decode b_Mod_curve 64 = .ok (.iload_n 2, 1) := by decide +kernel
theorem d_Mod_curve_65 : decode b_Mod_curve 65 = .ok (.aload_n 0, 1) := by decide +kernel
theorem d_Mod_curve_66 : decode b_Mod_curve 66 = .ok (.iload_n 1, 1) := by decide +kernel
theorem d_Mod_curve_67 : decode b_Mod_curve 67 = .ok (.invokevirtual 143, 3) := by decide +kernel
theorem d_Mod_curve_70 : decode b_Mod_curve 70 = .ok (.if_icmp .le 32, 3) := by decide +kernel
theorem d_Mod_curve_73 : decode b_Mod_curve 73 = .ok (.iload_n 3, 1) := by decide +kernel
theorem d_Mod_curve_74 : decode b_Mod_curve 74 = .ok (.aload_n 0, 1) := by decide +kernel
theorem d_Mod_curve_75 : decode b_Mod_curve 75 = .ok (.getfield 16, 3) := by decide +kernel
theorem d_Mod_curve_78 : decode b_Mod_curve 78 = .ok (.bipush 7, 2) := by decide +kernel
theorem d_Mod_curve_80 : decode b_Mod_curve 80 = .ok (.iload_n 1, 1) := by decide +kernel
theorem d_Mod_curve_81 : decode b_Mod_curve 81 = .ok (.imul, 1) := by decide +kernel
theorem d_Mod_curve_82 : decode b_Mod_curve 82 = .ok (.aload_n 0, 1) := by decide +kernel
theorem d_Mod_curve_83 : decode b_Mod_curve 83 = .ok (.getfield 7, 3) := by decide +kernel
theorem d_Mod_curve_86 : decode b_Mod_curve 86 = .ok (.iload_n 1, 1) := by decide +kernel
theorem d_Mod_curve_87 : decode b_Mod_curve 87 = .ok (.iaload, 1) := by decide +kernel
theorem d_Mod_curve_88 : decode b_Mod_curve 88 = .ok (.iadd, 1) := by decide +kernel
theorem d_Mod_curve_89 : decode b_Mod_curve 89 = .ok (.iconst 1, 1) := by decide +kernel
theorem d_Mod_curve_90 : decode b_Mod_curve 90 = .ok (.isub, 1) := by decide +kernel
theorem d_Mod_curve_91 : decode b_Mod_curve 91 = .ok (.iaload, 1) := by decide +kernel
theorem d_Mod_curve_92 : decode b_Mod_curve 92 = .ok (.if_icmp .le 10, 3) := by decide +kernel
theorem d_Mod_curve_95 : decode b_Mod_curve 95 = .ok (.aload_n 0, 1) := by decide +kernel
theorem d_Mod_curve_96 : decode b_Mod_curve 96 = .ok (.getfield 147, 3) := by decide +kernel
theorem d_Mod_curve_99 : decode b_Mod_curve 99 = .ok (.ifCond .le 7, 3) := by decide +kernel
theorem d_Mod_curve_102 : decode b_Mod_curve 102 = .ok (.iconst 2, 1) := by decide +kernel
theorem d_Mod_curve_103 : decode b_Mod_curve 103 = .ok (.goto 4, 3) := by decide +kernel
theorem d_Mod_curve_106 : decode b_Mod_curve 106 = .ok (.iconst 0, 1) := by decide +kernel
theorem d_Mod_curve_107 : decode b_Mod_curve 107 = .ok (.putfield 130, 3) := by decide +kernel
theorem d_Mod_curve_110 : decode b_Mod_curve 110 = .ok (.aload_n 0, 1) := by decide +kernel
theorem d_Mod_curve_111 : decode b_Mod_curve 111 = .ok (.getfield 130, 3) := by decide +kernel
theorem d_Mod_curve_114 : decode b_Mod_curve 114 = .ok (.ifCond .le 5, 3) := by decide +kernel
theorem d_Mod_curve_117 : decode b_Mod_curve 117 = .ok (.iconst 0, 1) := by decide +kernel
theorem d_Mod_curve_118 : decode b_Mod_curve 118 = .ok (.ireturn, 1) := by decide +kernel
theorem d_Mod_curve_119 : decode b_Mod_curve 119 = .ok (.aload_n 0, 1) := by decide +kernel
theorem d_Mod_curve_120 : decode b_Mod_curve 120 = .ok (.getfield 13, 3) := by decide +kernel
theorem d_Mod_curve_123 : decode b_Mod_curve 123 = .ok (.bipush 7, 2) := by decide +kernel
theorem d_Mod_curve_125 : decode b_Mod_curve 125 = .ok (.iload_n 1, 1) := by decide +kernel
theorem d_Mod_curve_126 : decode b_Mod_curve 126 = .ok (.imul, 1) := by decide +kernel
theorem d_Mod_curve_127 : decode b_Mod_curve 127 = .ok (.aload_n 0, 1) := by decide +kernel
theorem d_Mod_curve_128 : decode b_Mod_curve 128 = .ok (.getfield 7, 3) := by decide +kernel
theorem d_Mod_curve_131 : decode b_Mod_curve 131 = .ok (.iload_n 1, 1) := by decide +kernel
theorem d_Mod_curve_132 : decode b_Mod_curve 132 = .ok (.iaload, 1) := by decide +kernel
theorem d_Mod_curve_133 : decode b_Mod_curve 133 = .ok (.iadd, 1) := by decide +kernel
theorem d_Mod_curve_134 : decode b_Mod_curve 134 = .ok (.iload_n 2, 1) := by decide +kernel
theorem d_Mod_curve_135 : decode b_Mod_curve 135 = .ok (.iastore, 1) := by decide +kernel
theorem d_Mod_curve_136 : decode b_Mod_curve 136 = .ok (.aload_n 0, 1) := by decide +kernel
theorem d_Mod_curve_137 : decode b_Mod_curve 137 = .ok (.getfield 16, 3) := by decide +kernel
theorem d_Mod_curve_140 : decode b_Mod_curve 140 = .ok (.bipush 7, 2) := by decide +kernel
theorem d_Mod_curve_142 : decode b_Mod_curve 142 = .ok (.iload_n 1, 1) := by decide +kernel
theorem d_Mod_curve_143 : decode b_Mod_curve 143 = .ok (.imul, 1) := by decide +kernel
theorem d_Mod_curve_144 : decode b_Mod_curve 144 = .ok (.aload_n 0, 1) := by decide +kernel
theorem d_Mod_curve_145 : decode b_Mod_curve 145 = .ok (.getfield 7, 3) := by decide +kernel
theorem d_Mod_curve_148 : decode b_Mod_curve 148 = .ok (.iload_n 1, 1) := by decide +kernel
theorem d_Mod_curve_149 : decode b_Mod_curve 149 = .ok (.iaload, 1) := by decide +kernel
theorem d_Mod_curve_150 : decode b_Mod_curve 150 = .ok (.iadd, 1) := by decide +kernel
theorem d_Mod_curve_151 : decode b_Mod_curve 151 = .ok (.iload_n 3, 1) := by decide +kernel
theorem d_Mod_curve_152 : decode b_Mod_curve 152 = .ok (.iastore, 1) := by decide +kernel
theorem d_Mod_curve_153 : decode b_Mod_curve 153 = .ok (.aload_n 0, 1) := by decide +kernel
theorem d_Mod_curve_154 : decode b_Mod_curve 154 = .ok (.getfield 7, 3) := by decide +kernel
theorem d_Mod_curve_157 : decode b_Mod_curve 157 = .ok (.iload_n 1, 1) := by decide +kernel
theorem d_Mod_curve_158 : decode b_Mod_curve 158 = .ok (.dup2, 1) := by decide +kernel
theorem d_Mod_curve_159 : decode b_Mod_curve 159 = .ok (.iaload, 1) := by decide +kernel
theorem d_Mod_curve_160 : decode b_Mod_curve 160 = .ok (.iconst 1, 1) := by decide +kernel
theorem d_Mod_curve_161 : decode b_Mod_curve 161 = .ok (.iadd, 1) := by decide +kernel
theorem d_Mod_curve_162 : decode b_Mod_curve 162 = .ok (.iastore, 1) := by decide +kernel
theorem d_Mod_curve_163 : decode b_Mod_curve 163 = .ok (.aload_n 0, 1) := by decide +kernel
theorem d_Mod_curve_164 : decode b_Mod_curve 164 = .ok (.getfield 7, 3) := by decide +kernel
theorem d_Mod_curve_167 : decode b_Mod_curve 167 = .ok (.iload_n 1, 1) := by decide +kernel
theorem d_Mod_curve_168 : decode b_Mod_curve 168 = .ok (.iaload, 1) := by decide +kernel
theorem d_Mod_curve_169 : decode b_Mod_curve 169 = .ok (.ireturn, 1) := by decide +kernel
abbrev b_Mod_rates : ByteArray := prog_13_method_8_code
def y_Mod_rates : MethodName := ⟨"WallDampModel", "rates", "(IIII)V"⟩
def ws_Mod_rates : List Cond := .code y_Mod_rates b_Mod_rates 5 none :: x_tb
theorem pd_Mod_rates : y_Mod_rates.cls ≠ "java/lang/invoke/MethodHandle" ∧ y_Mod_rates.cls ≠ "java/lang/invoke/VarHandle" ∧ (parseMethodDescriptor y_Mod_rates.desc).map (fun d => d.parameters.length) = some 4 := by decide +kernel
theorem d_Mod_rates_0 : decode b_Mod_rates 0 = .ok (.aload_n 0, 1) := by decide +kernel
theorem d_Mod_rates_1 : decode b_Mod_rates 1 = .ok (.iload_n 1, 1) := by decide +kernel
theorem d_Mod_rates_2 : decode b_Mod_rates 2 = .ok (.i2l, 1) := by decide +kernel
theorem d_Mod_rates_3 : decode b_Mod_rates 3 = .ok (.lconst 0, 1) := by decide +kernel
theorem d_Mod_rates_4 : decode b_Mod_rates 4 = .ok (.ldc2_w 137, 3) := by decide +kernel
theorem d_Mod_rates_7 : decode b_Mod_rates 7 = .ok (.invokestatic 133, 3) := by decide +kernel
theorem d_Mod_rates_10 : decode b_Mod_rates 10 = .ok (.ifCond .eq 44, 3) := by decide +kernel
theorem d_Mod_rates_13 : decode b_Mod_rates 13 = .ok (.iload_n 2, 1) := by decide +kernel
theorem d_Mod_rates_14 : decode b_Mod_rates 14 = .ok (.i2l, 1) := by decide +kernel
theorem d_Mod_rates_15 : decode b_Mod_rates 15 = .ok (.lconst 0, 1) := by decide +kernel
theorem d_Mod_rates_16 : decode b_Mod_rates 16 = .ok (.ldc2_w 150, 3) := by decide +kernel
theorem d_Mod_rates_19 : decode b_Mod_rates 19 = .ok (.invokestatic 133, 3) := by decide +kernel
theorem d_Mod_rates_22 : decode b_Mod_rates 22 = .ok (.ifCond .eq 32, 3) := by decide +kernel
theorem d_Mod_rates_25 : decode b_Mod_rates 25 = .ok (.iload_n 3, 1) := by decide +kernel
theorem d_Mod_rates_26 : decode b_Mod_rates 26 = .ok (.i2l, 1) := by decide +kernel
theorem d_Mod_rates_27 : decode b_Mod_rates 27 = .ok (.lconst 0, 1) := by decide +kernel
theorem d_Mod_rates_28 : decode b_Mod_rates 28 = .ok (.ldc2_w 150, 3) := by decide +kernel
theorem d_Mod_rates_31 : decode b_Mod_rates 31 = .ok (.invokestatic 133, 3) := by decide +kernel
theorem d_Mod_rates_34 : decode b_Mod_rates 34 = .ok (.ifCond .eq 20, 3) := by decide +kernel
theorem d_Mod_rates_37 : decode b_Mod_rates 37 = .ok (.iload 4, 2) := by decide +kernel
theorem d_Mod_rates_39 : decode b_Mod_rates 39 = .ok (.i2l, 1) := by decide +kernel
theorem d_Mod_rates_40 : decode b_Mod_rates 40 = .ok (.lconst 1, 1) := by decide +kernel
theorem d_Mod_rates_41 : decode b_Mod_rates 41 = .ok (.ldc2_w 150, 3) := by decide +kernel
theorem d_Mod_rates_44 : decode b_Mod_rates 44 = .ok (.invokestatic 133, 3) := by decide +kernel
theorem d_Mod_rates_47 : decode b_Mod_rates 47 = .ok (.ifCond .eq 7, 3) := by decide +kernel
theorem d_Mod_rates_50 : decode b_Mod_rates 50 = .ok (.iconst 0, 1) := by decide +kernel
theorem d_Mod_rates_51 : decode b_Mod_rates 51 = .ok (.goto 4, 3) := by decide +kernel
theorem d_Mod_rates_54 : decode b_Mod_rates 54 = .ok (.iconst 1, 1) := by decide +kernel
theorem d_Mod_rates_55 : decode b_Mod_rates 55 = .ok (.putfield 130, 3) := by decide +kernel
theorem d_Mod_rates_58 : decode b_Mod_rates 58 = .ok (.aload_n 0, 1) := by decide +kernel
theorem d_Mod_rates_59 : decode b_Mod_rates 59 = .ok (.getfield 130, 3) := by decide +kernel
theorem d_Mod_rates_62 : decode b_Mod_rates 62 = .ok (.ifCond .ne 25, 3) := by decide +kernel
theorem d_Mod_rates_65 : decode b_Mod_rates 65 = .ok (.aload_n 0, 1) := by decide +kernel
theorem d_Mod_rates_66 : decode b_Mod_rates 66 = .ok (.getfield 19, 3) := by decide +kernel
theorem d_Mod_rates_69 : decode b_Mod_rates 69 = .ok (.iload_n 1, 1) := by decide +kernel
theorem d_Mod_rates_70 : decode b_Mod_rates 70 = .ok (.iload_n 2, 1) := by decide +kernel
theorem d_Mod_rates_71 : decode b_Mod_rates 71 = .ok (.iastore, 1) := by decide +kernel
theorem d_Mod_rates_72 : decode b_Mod_rates 72 = .ok (.aload_n 0, 1) := by decide +kernel
theorem d_Mod_rates_73 : decode b_Mod_rates 73 = .ok (.getfield 22, 3) := by decide +kernel
theorem d_Mod_rates_76 : decode b_Mod_rates 76 = .ok (.iload_n 1, 1) := by decide +kernel
theorem d_Mod_rates_77 : decode b_Mod_rates 77 = .ok (.iload_n 3, 1) := by decide +kernel
theorem d_Mod_rates_78 : decode b_Mod_rates 78 = .ok (.iastore, 1) := by decide +kernel
theorem d_Mod_rates_79 : decode b_Mod_rates 79 = .ok (.aload_n 0, 1) := by decide +kernel
theorem d_Mod_rates_80 : decode b_Mod_rates 80 = .ok (.getfield 25, 3) := by decide +kernel
theorem d_Mod_rates_83 : decode b_Mod_rates 83 = .ok (.iload_n 1, 1) := by decide +kernel
theorem d_Mod_rates_84 : decode b_Mod_rates 84 = .ok (.iload 4, 2) := by decide +kernel
theorem d_Mod_rates_86 : decode b_Mod_rates 86 = .ok (.iastore, 1) := by decide +kernel
theorem d_Mod_rates_87 : decode b_Mod_rates 87 = .ok (.return_, 1) := by decide +kernel
abbrev b_Mod_cell : ByteArray := prog_13_method_9_code
def y_Mod_cell : MethodName := ⟨"WallDampModel", "cell", "(III)V"⟩
def ws_Mod_cell : List Cond := .code y_Mod_cell b_Mod_cell 4 none :: x_tb
theorem pd_Mod_cell : y_Mod_cell.cls ≠ "java/lang/invoke/MethodHandle" ∧ y_Mod_cell.cls ≠ "java/lang/invoke/VarHandle" ∧ (parseMethodDescriptor y_Mod_cell.desc).map (fun d => d.parameters.length) = some 3 := by decide +kernel
theorem d_Mod_cell_0 : decode b_Mod_cell 0 = .ok (.aload_n 0, 1) := by decide +kernel
theorem d_Mod_cell_1 : decode b_Mod_cell 1 = .ok (.aload_n 0, 1) := by decide +kernel
theorem d_Mod_cell_2 : decode b_Mod_cell 2 = .ok (.iload_n 1, 1) := by decide +kernel
theorem d_Mod_cell_3 : decode b_Mod_cell 3 = .ok (.invokevirtual 152, 3) := by decide +kernel
theorem d_Mod_cell_6 : decode b_Mod_cell 6 = .ok (.ifCond .eq 27, 3) := by decide +kernel
theorem d_Mod_cell_9 : decode b_Mod_cell 9 = .ok (.iload_n 2, 1) := by decide +kernel
theorem d_Mod_cell_10 : decode b_Mod_cell 10 = .ok (.i2l, 1) := by decide +kernel
theorem d_Mod_cell_11 : decode b_Mod_cell 11 = .ok (.lconst 0, 1) := by decide +kernel
theorem d_Mod_cell_12 : decode b_Mod_cell 12 = .ok (.ldc2_w 137, 3) := by decide +kernel
theorem d_Mod_cell_15 : decode b_Mod_cell 15 = .ok (.invokestatic 133, 3) := by decide +kernel
theorem d_Mod_cell_18 : decode b_Mod_cell 18 = .ok (.ifCond .eq 15, 3) := by decide +kernel
theorem d_Mod_cell_21 : decode b_Mod_cell 21 = .ok (.iload_n 3, 1) := by decide +kernel
theorem d_Mod_cell_22 : decode b_Mod_cell 22 = .ok (.i2l, 1) := by decide +kernel
theorem d_Mod_cell_23 : decode b_Mod_cell 23 = .ok (.lconst 1, 1) := by decide +kernel
theorem d_Mod_cell_24 : decode b_Mod_cell 24 = .ok (.ldc2_w 150, 3) := by decide +kernel
theorem d_Mod_cell_27 : decode b_Mod_cell 27 = .ok (.invokestatic 133, 3) := by decide +kernel
theorem d_Mod_cell_30 : decode b_Mod_cell 30 = .ok (.ifCond .ne 7, 3) := by decide +kernel
theorem d_Mod_cell_33 : decode b_Mod_cell 33 = .ok (.iconst 1, 1) := by decide +kernel
theorem d_Mod_cell_34 : decode b_Mod_cell 34 = .ok (.goto 15, 3) := by decide +kernel
theorem d_Mod_cell_37 : decode b_Mod_cell 37 = .ok (.aload_n 0, 1) := by decide +kernel
theorem d_Mod_cell_38 : decode b_Mod_cell 38 = .ok (.getfield 147, 3) := by decide +kernel
theorem d_Mod_cell_41 : decode b_Mod_cell 41 = .ok (.ifCond .le 7, 3) := by decide +kernel
theorem d_Mod_cell_44 : decode b_Mod_cell 44 = .ok (.iconst 2, 1) := by decide +kernel
theorem d_Mod_cell_45 : decode b_Mod_cell 45 = .ok (.goto 4, 3) := by decide +kernel
theorem d_Mod_cell_48 : decode b_Mod_cell 48 = .ok (.iconst 0, 1) := by decide +kernel
theorem d_Mod_cell_49 : decode b_Mod_cell 49 = .ok (.putfield 130, 3) := by decide +kernel
theorem d_Mod_cell_52 : decode b_Mod_cell 52 = .ok (.aload_n 0, 1) := by decide +kernel
theorem d_Mod_cell_53 : decode b_Mod_cell 53 = .ok (.getfield 130, 3) := by decide +kernel
theorem d_Mod_cell_56 : decode b_Mod_cell 56 = .ok (.ifCond .ne 39, 3) := by decide +kernel
theorem d_Mod_cell_59 : decode b_Mod_cell 59 = .ok (.aload_n 0, 1) := by decide +kernel
theorem d_Mod_cell_60 : decode b_Mod_cell 60 = .ok (.dup, 1) := by decide +kernel
theorem d_Mod_cell_61 : decode b_Mod_cell 61 = .ok (.getfield 156, 3) := by decide +kernel
theorem d_Mod_cell_64 : decode b_Mod_cell 64 = .ok (.aload_n 0, 1) := by decide +kernel
theorem d_Mod_cell_65 : decode b_Mod_cell 65 = .ok (.getfield 34, 3) := by decide +kernel
theorem d_Mod_cell_68 : decode b_Mod_cell 68 = .ok (.iload_n 1, 1) := by decide +kernel
theorem d_Mod_cell_69 : decode b_Mod_cell 69 = .ok (.laload, 1) := by decide +kernel
theorem d_Mod_cell_70 : decode b_Mod_cell 70 = .ok (.lsub, 1) := by decide +kernel
theorem d_Mod_cell_71 : decode b_Mod_cell 71 = .ok (.putfield 156, 3) := by decide +kernel
theorem d_Mod_cell_74 : decode b_Mod_cell 74 = .ok (.aload_n 0, 1) := by decide +kernel
theorem d_Mod_cell_75 : decode b_Mod_cell 75 = .ok (.getfield 34, 3) := by decide +kernel
theorem d_Mod_cell_78 : decode b_Mod_cell 78 = .ok (.iload_n 1, 1) := by decide +kernel
theorem d_Mod_cell_79 : decode b_Mod_cell 79 = .ok (.lconst 0, 1) := by decide +kernel
theorem d_Mod_cell_80 : decode b_Mod_cell 80 = .ok (.lastore, 1) := by decide +kernel
theorem d_Mod_cell_81 : decode b_Mod_cell 81 = .ok (.aload_n 0, 1) := by decide +kernel
theorem d_Mod_cell_82 : decode b_Mod_cell 82 = .ok (.getfield 28, 3) := by decide +kernel
theorem d_Mod_cell_85 : decode b_Mod_cell 85 = .ok (.iload_n 1, 1) := by decide +kernel
theorem d_Mod_cell_86 : decode b_Mod_cell 86 = .ok (.iload_n 2, 1) := by decide +kernel
theorem d_Mod_cell_87 : decode b_Mod_cell 87 = .ok (.iastore, 1) := by decide +kernel
theorem d_Mod_cell_88 : decode b_Mod_cell 88 = .ok (.aload_n 0, 1) := by decide +kernel
theorem d_Mod_cell_89 : decode b_Mod_cell 89 = .ok (.getfield 31, 3) := by decide +kernel
theorem d_Mod_cell_92 : decode b_Mod_cell 92 = .ok (.iload_n 1, 1) := by decide +kernel
theorem d_Mod_cell_93 : decode b_Mod_cell 93 = .ok (.iload_n 3, 1) := by decide +kernel
theorem d_Mod_cell_94 : decode b_Mod_cell 94 = .ok (.iastore, 1) := by decide +kernel
theorem d_Mod_cell_95 : decode b_Mod_cell 95 = .ok (.return_, 1) := by decide +kernel
abbrev b_Mod_table : ByteArray := prog_13_method_10_code
def y_Mod_table : MethodName := ⟨"WallDampModel", "table", "(II)I"⟩
def ws_Mod_table : List Cond := .code y_Mod_table b_Mod_table 4 (some (.int)) :: x_tb
theorem pd_Mod_table : y_Mod_table.cls ≠ "java/lang/invoke/MethodHandle" ∧ y_Mod_table.cls ≠ "java/lang/invoke/VarHandle" ∧ (parseMethodDescriptor y_Mod_table.desc).map (fun d => d.parameters.length) = some 2 := by decide +kernel
theorem d_Mod_table_0 : decode b_Mod_table 0 = .ok (.iload_n 1, 1) := by decide +kernel
theorem d_Mod_table_1 : decode b_Mod_table 1 = .ok (.i2l, 1) := by decide +kernel
theorem d_Mod_table_2 : decode b_Mod_table 2 = .ok (.ldc2_w 160, 3) := by decide +kernel
theorem d_Mod_table_5 : decode b_Mod_table 5 = .ok (.ldc2_w 141, 3) := by decide +kernel
theorem d_Mod_table_8 : decode b_Mod_table 8 = .ok (.invokestatic 133, 3) := by decide +kernel
theorem d_Mod_table_11 : decode b_Mod_table 11 = .ok (.ifCond .eq 19, 3) := by decide +kernel
theorem d_Mod_table_14 : decode b_Mod_table 14 = .ok (.iload_n 2, 1) := by decide +kernel
theorem d_Mod_table_15 : decode b_Mod_table 15 = .ok (.i2l, 1) := by decide +kernel
theorem d_Mod_table_16 : decode b_Mod_table 16 = .ok (.lconst 0, 1) := by decide +kernel
theorem d_Mod_table_17 : decode b_Mod_table 17 = .ok (.ldc2_w 162, 3) := by decide +kernel
theorem d_Mod_table_20 : decode b_Mod_table 20 = .ok (.invokestatic 133, 3) := by decide +kernel
theorem d_Mod_table_23 : decode b_Mod_table 23 = .ok (.ifCond .eq 7, 3) := by decide +kernel
theorem d_Mod_table_26 : decode b_Mod_table 26 = .ok (.iconst 1, 1) := by decide +kernel
theorem d_Mod_table_27 : decode b_Mod_table 27 = .ok (.goto 4, 3) := by decide +kernel
theorem d_Mod_table_30 : decode b_Mod_table 30 = .ok (.iconst 0, 1) := by decide +kernel
theorem d_Mod_table_31 : decode b_Mod_table 31 = .ok (.istore_n 3, 1) := by decide +kernel
theorem d_Mod_table_32 : decode b_Mod_table 32 = .ok (.aload_n 0, 1) := by decide +kernel
theorem d_Mod_table_33 : decode b_Mod_table 33 = .ok (.iload_n 3, 1) := by decide +kernel
theorem d_Mod_table_34 : decode b_Mod_table 34 = .ok (.ifCond .ne 7, 3) := by decide +kernel
theorem d_Mod_table_37 : decode b_Mod_table 37 = .ok (.iconst 1, 1) := by decide +kernel
theorem d_Mod_table_38 : decode b_Mod_table 38 = .ok (.goto 54, 3) := by decide +kernel
theorem d_Mod_table_41 : decode b_Mod_table 41 = .ok (.aload_n 0, 1) := by decide +kernel
theorem d_Mod_table_42 : decode b_Mod_table 42 = .ok (.getfield 164, 3) := by decide +kernel
theorem d_Mod_table_45 : decode b_Mod_table 45 = .ok (.bipush 8, 2) := by decide +kernel
theorem d_Mod_table_47 : decode b_Mod_table 47 = .ok (.if_icmp .eq 40, 3) := by decide +kernel
theorem d_Mod_table_50 : decode b_Mod_table 50 = .ok (.aload_n 0, 1) := by decide +kernel
theorem d_Mod_table_51 : decode b_Mod_table 51 = .ok (.getfield 164, 3) := by decide +kernel
theorem d_Mod_table_54 : decode b_Mod_table 54 = .ok (.ifCond .le 37, 3) := by decide +kernel
theorem d_Mod_table_57 : decode b_Mod_table 57 = .ok (.iload_n 1, 1) := by decide +kernel
theorem d_Mod_table_58 : decode b_Mod_table 58 = .ok (.aload_n 0, 1) := by decide +kernel
theorem d_Mod_table_59 : decode b_Mod_table 59 = .ok (.getfield 54, 3) := by decide +kernel
theorem d_Mod_table_62 : decode b_Mod_table 62 = .ok (.aload_n 0, 1) := by decide +kernel
theorem d_Mod_table_63 : decode b_Mod_table 63 = .ok (.getfield 164, 3) := by decide +kernel
theorem d_Mod_table_66 : decode b_Mod_table 66 = .ok (.iconst 1, 1) := by decide +kernel
theorem d_Mod_table_67 : decode b_Mod_table 67 = .ok (.isub, 1) := by decide +kernel
theorem d_Mod_table_68 : decode b_Mod_table 68 = .ok (.iaload, 1) := by decide +kernel
theorem d_Mod_table_69 : decode b_Mod_table 69 = .ok (.if_icmp .le 18, 3) := by decide +kernel
theorem d_Mod_table_72 : decode b_Mod_table 72 = .ok (.iload_n 2, 1) := by decide +kernel
theorem d_Mod_table_73 : decode b_Mod_table 73 = .ok (.aload_n 0, 1) := by decide +kernel
theorem d_Mod_table_74 : decode b_Mod_table 74 = .ok (.getfield 57, 3) := by decide +kernel
theorem d_Mod_table_77 : decode b_Mod_table 77 = .ok (.aload_n 0, 1) := by decide +kernel
theorem d_Mod_table_78 : decode b_Mod_table 78 = .ok (.getfield 164, 3) := by decide +kernel
theorem d_Mod_table_81 : decode b_Mod_table 81 = .ok (.iconst 1, 1) := by decide +kernel
theorem d_Mod_table_82 : decode b_Mod_table 82 = .ok (.isub, 1) := by decide +kernel
theorem d_Mod_table_83 : decode b_Mod_table 83 = .ok (.iaload, 1) := by decide +kernel
theorem d_Mod_table_84 : decode b_Mod_table 84 = .ok (.if_icmp .gt 7, 3) := by decide +kernel
theorem d_Mod_table_87 : decode b_Mod_table 87 = .ok (.iconst 2, 1) := by decide +kernel
theorem d_Mod_table_88 : decode b_Mod_table 88 = .ok (.goto 4, 3) := by decide +kernel
theorem d_Mod_table_91 : decode b_Mod_table 91 = .ok (.iconst 0, 1) := by decide +kernel
theorem d_Mod_table_92 : decode b_Mod_table 92 = .ok (.putfield 130, 3) := by decide +kernel
theorem d_Mod_table_95 : decode b_Mod_table 95 = .ok (.aload_n 0, 1) := by decide +kernel
theorem d_Mod_table_96 : decode b_Mod_table 96 = .ok (.getfield 130, 3) := by decide +kernel
theorem d_Mod_table_99 : decode b_Mod_table 99 = .ok (.ifCond .le 5, 3) := by decide +kernel
theorem d_Mod_table_102 : decode b_Mod_table 102 = .ok (.iconst 0, 1) := by decide +kernel
theorem d_Mod_table_103 : decode b_Mod_table 103 = .ok (.ireturn, 1) := by decide +kernel
theorem d_Mod_table_104 : decode b_Mod_table 104 = .ok (.aload_n 0, 1) := by decide +kernel
theorem d_Mod_table_105 : decode b_Mod_table 105 = .ok (.getfield 54, 3) := by decide +kernel
theorem d_Mod_table_108 : decode b_Mod_table 108 = .ok (.aload_n 0, 1) := by decide +kernel
theorem d_Mod_table_109 : decode b_Mod_table 109 = .ok (.getfield 164, 3) := by decide +kernel
theorem d_Mod_table_112 : decode b_Mod_table 112 = .ok (.iload_n 1, 1) := by decide +kernel
theorem d_Mod_table_113 : decode b_Mod_table 113 = .ok (.iastore, 1) := by decide +kernel
theorem d_Mod_table_114 : decode b_Mod_table 114 = .ok (.aload_n 0, 1) := by decide +kernel
theorem d_Mod_table_115 : decode b_Mod_table 115 = .ok (.getfield 57, 3) := by decide +kernel
theorem d_Mod_table_118 : decode b_Mod_table 118 = .ok (.aload_n 0, 1) := by decide +kernel
theorem d_Mod_table_119 : decode b_Mod_table 119 = .ok (.getfield 164, 3) := by decide +kernel
theorem d_Mod_table_122 : decode b_Mod_table 122 = .ok (.iload_n 2, 1) := by decide +kernel
theorem d_Mod_table_123 : decode b_Mod_table 123 = .ok (.iastore, 1) := by decide +kernel
theorem d_Mod_table_124 : decode b_Mod_table 124 = .ok (.aload_n 0, 1) := by decide +kernel
theorem d_Mod_table_125 : decode b_Mod_table 125 = .ok (.dup, 1) := by decide +kernel
theorem d_Mod_table_126 : decode b_Mod_table 126 = .ok (.getfield 164, 3) := by decide +kernel
theorem d_Mod_table_129 : decode b_Mod_table 129 = .ok (.iconst 1, 1) := by decide +kernel
theorem d_Mod_table_130 : decode b_Mod_table 130 = .ok (.iadd, 1) := by decide +kernel
theorem d_Mod_table_131 : decode b_Mod_table 131 = .ok (.putfield 164, 3) := by decide +kernel
theorem d_Mod_table_134 : decode b_Mod_table 134 = .ok (.aload_n 0, 1) := by decide +kernel
theorem d_Mod_table_135 : decode b_Mod_table 135 = .ok (.getfield 164, 3) := by decide +kernel
theorem d_Mod_table_138 : decode b_Mod_table 138 = .ok (.ireturn, 1) := by decide +kernel
abbrev b_Mod_fullAt : ByteArray := prog_13_method_11_code
def y_Mod_fullAt : MethodName := ⟨"WallDampModel", "fullAt", "(I)I"⟩
def ws_Mod_fullAt : List Cond := .code y_Mod_fullAt b_Mod_fullAt 5 (some (.int)) :: x_tb
theorem pd_Mod_fullAt : y_Mod_fullAt.cls ≠ "java/lang/invoke/MethodHandle" ∧ y_Mod_fullAt.cls ≠ "java/lang/invoke/VarHandle" ∧ (parseMethodDescriptor y_Mod_fullAt.desc).map (fun d => d.parameters.length) = some 1 := by decide +kernel
theorem d_Mod_fullAt_0 : decode b_Mod_fullAt 0 = .ok (.aload_n 0, 1) := by decide +kernel
theorem d_Mod_fullAt_1 : decode b_Mod_fullAt 1 = .ok (.getfield 164, 3) := by decide +kernel
theorem d_Mod_fullAt_4 : decode b_Mod_fullAt 4 = .ok (.ifCond .ne 5, 3) := by decide +kernel
theorem d_Mod_fullAt_7 : decode b_Mod_fullAt 7 = .ok (.iconst 0, 1) := by decide +kernel
theorem d_Mod_fullAt_8 : decode b_Mod_fullAt 8 = .ok (.ireturn, 1) := by decide +kernel
theorem d_Mod_fullAt_9 : decode b_Mod_fullAt 9 = .ok (.aload_n 0, 1) := by decide +kernel
theorem d_Mod_fullAt_10 : decode b_Mod_fullAt 10 = .ok (.getfield 164, 3) := by decide +kernel
theorem d_Mod_fullAt_13 : decode b_Mod_fullAt 13 = .ok (.iconst 1, 1) := by decide +kernel
theorem d_Mod_fullAt_14 : decode b_Mod_fullAt 14 = .ok (.isub, 1) := by decide +kernel
theorem d_Mod_fullAt_15 : decode b_Mod_fullAt 15 = .ok (.istore_n 2, 1) := by decide +kernel
theorem d_Mod_fullAt_16 : decode b_Mod_fullAt 16 = .ok (.iload_n 2, 1) := by decide +kernel
theorem d_Mod_fullAt_17 : decode b_Mod_fullAt 17 = .ok (.ifCond .le 19, 3) := by decide +kernel
theorem d_Mod_fullAt_20 : decode b_Mod_fullAt 20 = .ok (.aload_n 0, 1) := by decide +kernel
theorem d_Mod_fullAt_21 : decode b_Mod_fullAt 21 = .ok (.getfield 54, 3) := by decide +kernel
theorem d_Mod_fullAt_24 : decode b_Mod_fullAt 24 = .ok (.iload_n 2, 1) := by decide +kernel
theorem d_Mod_fullAt_25 : decode b_Mod_fullAt 25 = .ok (.iaload, 1) := by decide +kernel
theorem d_Mod_fullAt_26 : decode b_Mod_fullAt 26 = .ok (.iload_n 1, 1) := by decide +kernel
theorem d_Mod_fullAt_27 : decode b_Mod_fullAt 27 = .ok (.if_icmp .le 9, 3) := by decide +kernel
theorem d_Mod_fullAt_30 : decode b_Mod_fullAt 30 = .ok (.iinc 2 (-1), 3) := by decide +kernel
theorem d_Mod_fullAt_33 : decode b_Mod_fullAt 33 = .ok (.goto (-17), 3) := by decide +kernel
theorem d_Mod_fullAt_36 : decode b_Mod_fullAt 36 = .ok (.iload_n 1, 1) := by decide +kernel
theorem d_Mod_fullAt_37 : decode b_Mod_fullAt 37 = .ok (.aload_n 0, 1) := by decide +kernel
theorem d_Mod_fullAt_38 : decode b_Mod_fullAt 38 = .ok (.getfield 54, 3) := by decide +kernel
theorem d_Mod_fullAt_41 : decode b_Mod_fullAt 41 = .ok (.iload_n 2, 1) := by decide +kernel
theorem d_Mod_fullAt_42 : decode b_Mod_fullAt 42 = .ok (.iaload, 1) := by decide +kernel
theorem d_Mod_fullAt_43 : decode b_Mod_fullAt 43 = .ok (.if_icmp .le 13, 3) := by decide +kernel
theorem d_Mod_fullAt_46 : decode b_Mod_fullAt 46 = .ok (.iload_n 2, 1) := by decide +kernel
theorem d_Mod_fullAt_47 : decode b_Mod_fullAt 47 = .ok (.aload_n 0, 1) := by decide +kernel
theorem d_Mod_fullAt_48 : decode b_Mod_fullAt 48 = .ok (.getfield 164, 3) := by decide +kernel
theorem d_Mod_fullAt_51 : decode b_Mod_fullAt 51 = .ok (.iconst 1, 1) := by decide +kernel
theorem d_Mod_fullAt_52 : decode b_Mod_fullAt 52 = .ok (.isub, 1) := by decide +kernel
theorem d_Mod_fullAt_53 : decode b_Mod_fullAt 53 = .ok (.if_icmp .ne 10, 3) := by decide +kernel
theorem d_Mod_fullAt_56 : decode b_Mod_fullAt 56 = .ok (.aload_n 0, 1) := by decide +kernel
theorem d_Mod_fullAt_57 : decode b_Mod_fullAt 57 = .ok (.getfield 57, 3) := by decide +kernel
theorem d_Mod_fullAt_60 : decode b_Mod_fullAt 60 = .ok (.iload_n 2, 1) := by decide +kernel
theorem d_Mod_fullAt_61 : decode b_Mod_fullAt 61 = .ok (.iaload, 1) := by decide +kernel
theorem d_Mod_fullAt_62 : decode b_Mod_fullAt 62 = .ok (.ireturn, 1) := by decide +kernel
theorem d_Mod_fullAt_63 : decode b_Mod_fullAt 63 = .ok (.aload_n 0, 1) := by decide +kernel
theorem d_Mod_fullAt_64 : decode b_Mod_fullAt 64 = .ok (.getfield 57, 3) := by decide +kernel
theorem d_Mod_fullAt_67 : decode b_Mod_fullAt 67 = .ok (.iload_n 2, 1) := by decide +kernel
theorem d_Mod_fullAt_68 : decode b_Mod_fullAt 68 = .ok (.iconst 1, 1) := by decide +kernel
theorem d_Mod_fullAt_69 : decode b_Mod_fullAt 69 = .ok (.iadd, 1) := by decide +kernel
theorem d_Mod_fullAt_70 : decode b_Mod_fullAt 70 = .ok (.iaload, 1) := by decide +kernel
theorem d_Mod_fullAt_71 : decode b_Mod_fullAt 71 = .ok (.aload_n 0, 1) := by decide +kernel
theorem d_Mod_fullAt_72 : decode b_Mod_fullAt 72 = .ok (.getfield 57, 3) := by decide +kernel
theorem d_Mod_fullAt_75 : decode b_Mod_fullAt 75 = .ok (.iload_n 2, 1) := by decide +kernel
theorem d_Mod_fullAt_76 : decode b_Mod_fullAt 76 = .ok (.iaload, 1) := by decide +kernel
theorem d_Mod_fullAt_77 : decode b_Mod_fullAt 77 = .ok (.isub, 1) := by decide +kernel
theorem d_Mod_fullAt_78 : decode b_Mod_fullAt 78 = .ok (.i2l, 1) := by decide +kernel
theorem d_Mod_fullAt_79 : decode b_Mod_fullAt 79 = .ok (.iload_n 1, 1) := by decide +kernel
theorem d_Mod_fullAt_80 : decode b_Mod_fullAt 80 = .ok (.aload_n 0, 1) := by decide +kernel
theorem d_Mod_fullAt_81 : decode b_Mod_fullAt 81 = .ok (.getfield 54, 3) := by decide +kernel
theorem d_Mod_fullAt_84 : decode b_Mod_fullAt 84 = .ok (.iload_n 2, 1) := by decide +kernel
theorem d_Mod_fullAt_85 : decode b_Mod_fullAt 85 = .ok (.iaload, 1) := by decide +kernel
theorem d_Mod_fullAt_86 : decode b_Mod_fullAt 86 = .ok (.isub, 1) := by decide +kernel
theorem d_Mod_fullAt_87 : decode b_Mod_fullAt 87 = .ok (.i2l, 1) := by decide +kernel
theorem d_Mod_fullAt_88 : decode b_Mod_fullAt 88 = .ok (.lmul, 1) := by decide +kernel
theorem d_Mod_fullAt_89 : decode b_Mod_fullAt 89 = .ok (.lstore_n 3, 1) := by decide +kernel
theorem d_Mod_fullAt_90 : decode b_Mod_fullAt 90 = .ok (.aload_n 0, 1) := by decide +kernel
theorem d_Mod_fullAt_91 : decode b_Mod_fullAt 91 = .ok (.getfield 57, 3) := by decide +kernel
theorem d_Mod_fullAt_94 : decode b_Mod_fullAt 94 = .ok (.iload_n 2, 1) := by decide +kernel
theorem d_Mod_fullAt_95 : decode b_Mod_fullAt 95 = .ok (.iaload, 1) := by decide +kernel
theorem d_Mod_fullAt_96 : decode b_Mod_fullAt 96 = .ok (.i2l, 1) := by decide +kernel
theorem d_Mod_fullAt_97 : decode b_Mod_fullAt 97 = .ok (.lload_n 3, 1) := by decide +kernel
theorem d_Mod_fullAt_98 : decode b_Mod_fullAt 98 = .ok (.aload_n 0, 1) := by decide +kernel
theorem d_Mod_fullAt_99 : decode b_Mod_fullAt 99 = .ok (.getfield 54, 3) := by decide +kernel
theorem d_Mod_fullAt_102 : decode b_Mod_fullAt 102 = .ok (.iload_n 2, 1) := by decide +kernel
theorem d_Mod_fullAt_103 : decode b_Mod_fullAt 103 = .ok (.iconst 1, 1) := by decide +kernel
theorem d_Mod_fullAt_104 : decode b_Mod_fullAt 104 = .ok (.iadd, 1) := by decide +kernel
theorem d_Mod_fullAt_105 : decode b_Mod_fullAt 105 = .ok (.iaload, 1) := by decide +kernel
theorem d_Mod_fullAt_106 : decode b_Mod_fullAt 106 = .ok (.aload_n 0, 1) := by decide +kernel
theorem d_Mod_fullAt_107 : decode b_Mod_fullAt 107 = .ok (.getfield 54, 3) := by decide +kernel
theorem d_Mod_fullAt_110 : decode b_Mod_fullAt 110 = .ok (.iload_n 2, 1) := by decide +kernel
theorem d_Mod_fullAt_111 : decode b_Mod_fullAt 111 = .ok (.iaload, 1) := by decide +kernel
theorem d_Mod_fullAt_112 : decode b_Mod_fullAt 112 = .ok (.isub, 1) := by decide +kernel
theorem d_Mod_fullAt_113 : decode b_Mod_fullAt 113 = .ok (.i2l, 1) := by decide +kernel
theorem d_Mod_fullAt_114 : decode b_Mod_fullAt 114 = .ok (.ldiv, 1) := by decide +kernel
theorem d_Mod_fullAt_115 : decode b_Mod_fullAt 115 = .ok (.ladd, 1) := by decide +kernel
theorem d_Mod_fullAt_116 : decode b_Mod_fullAt 116 = .ok (.l2i, 1) := by decide +kernel
theorem d_Mod_fullAt_117 : decode b_Mod_fullAt 117 = .ok (.ireturn, 1) := by decide +kernel
abbrev b_Mod_full : ByteArray := prog_13_method_12_code
def y_Mod_full : MethodName := ⟨"WallDampModel", "full", "(I)I"⟩
def ws_Mod_full : List Cond := .code y_Mod_full b_Mod_full 2 (some (.int)) :: x_tb
theorem pd_Mod_full : y_Mod_full.cls ≠ "java/lang/invoke/MethodHandle" ∧ y_Mod_full.cls ≠ "java/lang/invoke/VarHandle" ∧ (parseMethodDescriptor y_Mod_full.desc).map (fun d => d.parameters.length) = some 1 := by decide +kernel
theorem d_Mod_full_0 : decode b_Mod_full 0 = .ok (.aload_n 0, 1) := by decide +kernel
theorem d_Mod_full_1 : decode b_Mod_full 1 = .ok (.iload_n 1, 1) := by decide +kernel
theorem d_Mod_full_2 : decode b_Mod_full 2 = .ok (.i2l, 1) := by decide +kernel
theorem d_Mod_full_3 : decode b_Mod_full 3 = .ok (.ldc2_w 160, 3) := by decide +kernel
theorem d_Mod_full_6 : decode b_Mod_full 6 = .ok (.ldc2_w 141, 3) := by decide +kernel
theorem d_Mod_full_9 : decode b_Mod_full 9 = .ok (.invokestatic 133, 3) := by decide +kernel
theorem d_Mod_full_12 : decode b_Mod_full 12 = .ok (.ifCond .eq 7, 3) := by decide +kernel
theorem d_Mod_full_15 : decode b_Mod_full 15 = .ok (.iconst 0, 1) := by decide +kernel
theorem d_Mod_full_16 : decode b_Mod_full 16 = .ok (.goto 4, 3) := by decide +kernel
theorem d_Mod_full_19 : decode b_Mod_full 19 = .ok (.iconst 1, 1) := by decide +kernel
theorem d_Mod_full_20 : decode b_Mod_full 20 = .ok (.putfield 130, 3) := by decide +kernel
theorem d_Mod_full_23 : decode b_Mod_full 23 = .ok (.aload_n 0, 1) := by decide +kernel
theorem d_Mod_full_24 : decode b_Mod_full 24 = .ok (.getfield 130, 3) := by decide +kernel
theorem d_Mod_full_27 : decode b_Mod_full 27 = .ok (.ifCond .le 7, 3) := by decide +kernel
theorem d_Mod_full_30 : decode b_Mod_full 30 = .ok (.iconst 0, 1) := by decide +kernel
theorem d_Mod_full_31 : decode b_Mod_full 31 = .ok (.goto 8, 3) := by decide +kernel
theorem d_Mod_full_34 : decode b_Mod_full 34 = .ok (.aload_n 0, 1) := by decide +kernel
theorem d_Mod_full_35 : decode b_Mod_full 35 = .ok (.iload_n 1, 1) := by decide +kernel
theorem d_Mod_full_36 : decode b_Mod_full 36 = .ok (.invokevirtual 167, 3) := by decide +kernel
theorem d_Mod_full_39 : decode b_Mod_full 39 = .ok (.ireturn, 1) := by decide +kernel
abbrev b_Mod_films : ByteArray := prog_13_method_13_code
def y_Mod_films : MethodName := ⟨"WallDampModel", "films", "(II)V"⟩
def ws_Mod_films : List Cond := .code y_Mod_films b_Mod_films 3 none :: x_tb
theorem pd_Mod_films : y_Mod_films.cls ≠ "java/lang/invoke/MethodHandle" ∧ y_Mod_films.cls ≠ "java/lang/invoke/VarHandle" ∧ (parseMethodDescriptor y_Mod_films.desc).map (fun d => d.parameters.length) = some 2 := by decide +kernel
theorem d_Mod_films_0 : decode b_Mod_films 0 = .ok (.aload_n 0, 1) := by decide +kernel
theorem d_Mod_films_1 : decode b_Mod_films 1 = .ok (.iload_n 1, 1) := by decide +kernel
theorem d_Mod_films_2 : decode b_Mod_films 2 = .ok (.i2l, 1) := by decide +kernel
theorem d_Mod_films_3 : decode b_Mod_films 3 = .ok (.lconst 0, 1) := by decide +kernel
theorem d_Mod_films_4 : decode b_Mod_films 4 = .ok (.ldc2_w 150, 3) := by decide +kernel
theorem d_Mod_films_7 : decode b_Mod_films 7 = .ok (.invokestatic 133, 3) := by decide +kernel
theorem d_Mod_films_10 : decode b_Mod_films 10 = .ok (.ifCond .eq 19, 3) := by decide +kernel
theorem d_Mod_films_13 : decode b_Mod_films 13 = .ok (.iload_n 2, 1) := by decide +kernel
theorem d_Mod_films_14 : decode b_Mod_films 14 = .ok (.i2l, 1) := by decide +kernel
theorem d_Mod_films_15 : decode b_Mod_films 15 = .ok (.lconst 0, 1) := by decide +kernel
theorem d_Mod_films_16 : decode b_Mod_films 16 = .ok (.ldc2_w 150, 3) := by decide +kernel
theorem d_Mod_films_19 : decode b_Mod_films 19 = .ok (.invokestatic 133, 3) := by decide +kernel
theorem d_Mod_films_22 : decode b_Mod_films 22 = .ok (.ifCond .eq 7, 3) := by decide +kernel
theorem d_Mod_films_25 : decode b_Mod_films 25 = .ok (.iconst 0, 1) := by decide +kernel
theorem d_Mod_films_26 : decode b_Mod_films 26 = .ok (.goto 4, 3) := by decide +kernel
theorem d_Mod_films_29 : decode b_Mod_films 29 = .ok (.iconst 1, 1) := by decide +kernel
theorem d_Mod_films_30 : decode b_Mod_films 30 = .ok (.putfield 130, 3) := by decide +kernel
theorem d_Mod_films_33 : decode b_Mod_films 33 = .ok (.aload_n 0, 1) := by decide +kernel
theorem d_Mod_films_34 : decode b_Mod_films 34 = .ok (.getfield 130, 3) := by decide +kernel
theorem d_Mod_films_37 : decode b_Mod_films 37 = .ok (.ifCond .ne 13, 3) := by decide +kernel
theorem d_Mod_films_40 : decode b_Mod_films 40 = .ok (.aload_n 0, 1) := by decide +kernel
theorem d_Mod_films_41 : decode b_Mod_films 41 = .ok (.iload_n 1, 1) := by decide +kernel
theorem d_Mod_films_42 : decode b_Mod_films 42 = .ok (.putfield 60, 3) := by decide +kernel
theorem d_Mod_films_45 : decode b_Mod_films 45 = .ok (.aload_n 0, 1) := by decide +kernel
theorem d_Mod_films_46 : decode b_Mod_films 46 = .ok (.iload_n 2, 1) := by decide +kernel
theorem d_Mod_films_47 : decode b_Mod_films 47 = .ok (.putfield 64, 3) := by decide +kernel
theorem d_Mod_films_50 : decode b_Mod_films 50 = .ok (.return_, 1) := by decide +kernel
abbrev b_Mod_outside : ByteArray := prog_13_method_14_code
def y_Mod_outside : MethodName := ⟨"WallDampModel", "outside", "(IIIII)V"⟩
def ws_Mod_outside : List Cond := .code y_Mod_outside b_Mod_outside 6 none :: x_tb
theorem pd_Mod_outside : y_Mod_outside.cls ≠ "java/lang/invoke/MethodHandle" ∧ y_Mod_outside.cls ≠ "java/lang/invoke/VarHandle" ∧ (parseMethodDescriptor y_Mod_outside.desc).map (fun d => d.parameters.length) = some 5 := by decide +kernel
theorem d_Mod_outside_0 : decode b_Mod_outside 0 = .ok (.aload_n 0, 1) := by decide +kernel
theorem d_Mod_outside_1 : decode b_Mod_outside 1 = .ok (.iload_n 1, 1) := by decide +kernel
theorem d_Mod_outside_2 : decode b_Mod_outside 2 = .ok (.i2l, 1) := by decide +kernel
theorem d_Mod_outside_3 : decode b_Mod_outside 3 = .ok (.lconst 0, 1) := by decide +kernel
theorem d_Mod_outside_4 : decode b_Mod_outside 4 = .ok (.ldc2_w 170, 3) := by decide +kernel
theorem d_Mod_outside_7 : decode b_Mod_outside 7 = .ok (.invokestatic 133, 3) := by decide +kernel
theorem d_Mod_outside_10 : decode b_Mod_outside 10 = .ok (.ifCond .eq 59, 3) := by decide +kernel
theorem d_Mod_outside_13 : decode b_Mod_outside 13 = .ok (.iload_n 2, 1) := by decide +kernel
theorem d_Mod_outside_14 : decode b_Mod_outside 14 = .ok (.i2l, 1) := by decide +kernel
theorem d_Mod_outside_15 : decode b_Mod_outside 15 = .ok (.ldc2_w 160, 3) := by decide +kernel
theorem d_Mod_outside_18 : decode b_Mod_outside 18 = .ok (.ldc2_w 172, 3) := by decide +kernel
theorem d_Mod_outside_21 : decode b_Mod_outside 21 = .ok (.invokestatic 133, 3) := by decide +kernel
theorem d_Mod_outside_24 : decode b_Mod_outside 24 = .ok (.ifCond .eq 45, 3) := by decide +kernel
theorem d_Mod_outside_27 : decode b_Mod_outside 27 = .ok (.iload_n 3, 1) := by decide +kernel
theorem d_Mod_outside_28 : decode b_Mod_outside 28 = .ok (.i2l, 1) := by decide +kernel
theorem d_Mod_outside_29 : decode b_Mod_outside 29 = .ok (.lconst 0, 1) := by decide +kernel
theorem d_Mod_outside_30 : decode b_Mod_outside 30 = .ok (.ldc2_w 141, 3) := by decide +kernel
theorem d_Mod_outside_33 : decode b_Mod_outside 33 = .ok (.invokestatic 133, 3) := by decide +kernel
theorem d_Mod_outside_36 : decode b_Mod_outside 36 = .ok (.ifCond .eq 33, 3) := by decide +kernel
theorem d_Mod_outside_39 : decode b_Mod_outside 39 = .ok (.iload 4, 2) := by decide +kernel
theorem d_Mod_outside_41 : decode b_Mod_outside 41 = .ok (.i2l, 1) := by decide +kernel
theorem d_Mod_outside_42 : decode b_Mod_outside 42 = .ok (.lconst 0, 1) := by decide +kernel
theorem d_Mod_outside_43 : decode b_Mod_outside 43 = .ok (.ldc2_w 150, 3) := by decide +kernel
theorem d_Mod_outside_46 : decode b_Mod_outside 46 = .ok (.invokestatic 133, 3) := by decide +kernel
theorem d_Mod_outside_49 : decode b_Mod_outside 49 = .ok (.ifCond .eq 20, 3) := by decide +kernel
theorem d_Mod_outside_52 : decode b_Mod_outside 52 = .ok (.iload 5, 2) := by decide +kernel
theorem d_Mod_outside_54 : decode b_Mod_outside 54 = .ok (.i2l, 1) := by decide +kernel
theorem d_Mod_outside_55 : decode b_Mod_outside 55 = .ok (.lconst 0, 1) := by decide +kernel
theorem d_Mod_outside_56 : decode b_Mod_outside 56 = .ok (.ldc2_w 150, 3) := by decide +kernel
theorem d_Mod_outside_59 : decode b_Mod_outside 59 = .ok (.invokestatic 133, 3) := by decide +kernel
theorem d_Mod_outside_62 : decode b_Mod_outside 62 = .ok (.ifCond .eq 7, 3) := by decide +kernel
theorem d_Mod_outside_65 : decode b_Mod_outside 65 = .ok (.iconst 0, 1) := by decide +kernel
theorem d_Mod_outside_66 : decode b_Mod_outside 66 = .ok (.goto 4, 3) := by decide +kernel
theorem d_Mod_outside_69 : decode b_Mod_outside 69 = .ok (.iconst 1, 1) := by decide +kernel
theorem d_Mod_outside_70 : decode b_Mod_outside 70 = .ok (.putfield 130, 3) := by decide +kernel
theorem d_Mod_outside_73 : decode b_Mod_outside 73 = .ok (.aload_n 0, 1) := by decide +kernel
theorem d_Mod_outside_74 : decode b_Mod_outside 74 = .ok (.getfield 130, 3) := by decide +kernel
theorem d_Mod_outside_77 : decode b_Mod_outside 77 = .ok (.ifCond .ne 33, 3) := by decide +kernel
theorem d_Mod_outside_80 : decode b_Mod_outside 80 = .ok (.aload_n 0, 1) := by decide +kernel
theorem d_Mod_outside_81 : decode b_Mod_outside 81 = .ok (.getfield 67, 3) := by decide +kernel
theorem d_Mod_outside_84 : decode b_Mod_outside 84 = .ok (.iload_n 1, 1) := by decide +kernel
theorem d_Mod_outside_85 : decode b_Mod_outside 85 = .ok (.iload_n 2, 1) := by decide +kernel
theorem d_Mod_outside_86 : decode b_Mod_outside 86 = .ok (.iastore, 1) := by decide +kernel
theorem d_Mod_outside_87 : decode b_Mod_outside 87 = .ok (.aload_n 0, 1) := by decide +kernel
theorem d_Mod_outside_88 : decode b_Mod_outside 88 = .ok (.getfield 70, 3) := by decide +kernel
theorem d_Mod_outside_91 : decode b_Mod_outside 91 = .ok (.iload_n 1, 1) := by decide +kernel
theorem d_Mod_outside_92 : decode b_Mod_outside 92 = .ok (.iload_n 3, 1) := by decide +kernel
theorem d_Mod_outside_93 : decode b_Mod_outside 93 = .ok (.iastore, 1) := by decide +kernel
theorem d_Mod_outside_94 : decode b_Mod_outside 94 = .ok (.aload_n 0, 1) := by decide +kernel
theorem d_Mod_outside_95 : decode b_Mod_outside 95 = .ok (.getfield 73, 3) := by decide +kernel
theorem d_Mod_outside_98 : decode b_Mod_outside 98 = .ok (.iload_n 1, 1) := by decide +kernel
theorem d_Mod_outside_99 : decode b_Mod_outside 99 = .ok (.iload 4, 2) := by decide +kernel
theorem d_Mod_outside_101 : decode b_Mod_outside 101 = .ok (.iastore, 1) := by decide +kernel
theorem d_Mod_outside_102 : decode b_Mod_outside 102 = .ok (.aload_n 0, 1) := by decide +kernel
theorem d_Mod_outside_103 : decode b_Mod_outside 103 = .ok (.getfield 76, 3) := by decide +kernel
theorem d_Mod_outside_106 : decode b_Mod_outside 106 = .ok (.iload_n 1, 1) := by decide +kernel
theorem d_Mod_outside_107 : decode b_Mod_outside 107 = .ok (.iload 5, 2) := by decide +kernel
theorem d_Mod_outside_109 : decode b_Mod_outside 109 = .ok (.iastore, 1) := by decide +kernel
theorem d_Mod_outside_110 : decode b_Mod_outside 110 = .ok (.return_, 1) := by decide +kernel
abbrev b_Mod_inside : ByteArray := prog_13_method_15_code
def y_Mod_inside : MethodName := ⟨"WallDampModel", "inside", "(III)V"⟩
def ws_Mod_inside : List Cond := .code y_Mod_inside b_Mod_inside 4 none :: x_tb
theorem pd_Mod_inside : y_Mod_inside.cls ≠ "java/lang/invoke/MethodHandle" ∧ y_Mod_inside.cls ≠ "java/lang/invoke/VarHandle" ∧ (parseMethodDescriptor y_Mod_inside.desc).map (fun d => d.parameters.length) = some 3 := by decide +kernel
theorem d_Mod_inside_0 : decode b_Mod_inside 0 = .ok (.aload_n 0, 1) := by decide +kernel
theorem d_Mod_inside_1 : decode b_Mod_inside 1 = .ok (.iload_n 1, 1) := by decide +kernel
theorem d_Mod_inside_2 : decode b_Mod_inside 2 = .ok (.i2l, 1) := by decide +kernel
theorem d_Mod_inside_3 : decode b_Mod_inside 3 = .ok (.lconst 0, 1) := by decide +kernel
theorem d_Mod_inside_4 : decode b_Mod_inside 4 = .ok (.ldc2_w 170, 3) := by decide +kernel
theorem d_Mod_inside_7 : decode b_Mod_inside 7 = .ok (.invokestatic 133, 3) := by decide +kernel
theorem d_Mod_inside_10 : decode b_Mod_inside 10 = .ok (.ifCond .eq 33, 3) := by decide +kernel
theorem d_Mod_inside_13 : decode b_Mod_inside 13 = .ok (.iload_n 2, 1) := by decide +kernel
theorem d_Mod_inside_14 : decode b_Mod_inside 14 = .ok (.i2l, 1) := by decide +kernel
theorem d_Mod_inside_15 : decode b_Mod_inside 15 = .ok (.ldc2_w 160, 3) := by decide +kernel
theorem d_Mod_inside_18 : decode b_Mod_inside 18 = .ok (.ldc2_w 172, 3) := by decide +kernel
theorem d_Mod_inside_21 : decode b_Mod_inside 21 = .ok (.invokestatic 133, 3) := by decide +kernel
theorem d_Mod_inside_24 : decode b_Mod_inside 24 = .ok (.ifCond .eq 19, 3) := by decide +kernel
theorem d_Mod_inside_27 : decode b_Mod_inside 27 = .ok (.iload_n 3, 1) := by decide +kernel
theorem d_Mod_inside_28 : decode b_Mod_inside 28 = .ok (.i2l, 1) := by decide +kernel
theorem d_Mod_inside_29 : decode b_Mod_inside 29 = .ok (.lconst 0, 1) := by decide +kernel
theorem d_Mod_inside_30 : decode b_Mod_inside 30 = .ok (.ldc2_w 141, 3) := by decide +kernel
theorem d_Mod_inside_33 : decode b_Mod_inside 33 = .ok (.invokestatic 133, 3) := by decide +kernel
theorem d_Mod_inside_36 : decode b_Mod_inside 36 = .ok (.ifCond .eq 7, 3) := by decide +kernel
theorem d_Mod_inside_39 : decode b_Mod_inside 39 = .ok (.iconst 0, 1) := by decide +kernel
theorem d_Mod_inside_40 : decode b_Mod_inside 40 = .ok (.goto 4, 3) := by decide +kernel
theorem d_Mod_inside_43 : decode b_Mod_inside 43 = .ok (.iconst 1, 1) := by decide +kernel
theorem d_Mod_inside_44 : decode b_Mod_inside 44 = .ok (.putfield 130, 3) := by decide +kernel
theorem d_Mod_inside_47 : decode b_Mod_inside 47 = .ok (.aload_n 0, 1) := by decide +kernel
theorem d_Mod_inside_48 : decode b_Mod_inside 48 = .ok (.getfield 130, 3) := by decide +kernel
theorem d_Mod_inside_51 : decode b_Mod_inside 51 = .ok (.ifCond .ne 17, 3) := by decide +kernel
theorem d_Mod_inside_54 : decode b_Mod_inside 54 = .ok (.aload_n 0, 1) := by decide +kernel
theorem d_Mod_inside_55 : decode b_Mod_inside 55 = .ok (.getfield 79, 3) := by decide +kernel
theorem d_Mod_inside_58 : decode b_Mod_inside 58 = .ok (.iload_n 1, 1) := by decide +kernel
theorem d_Mod_inside_59 : decode b_Mod_inside 59 = .ok (.iload_n 2, 1) := by decide +kernel
theorem d_Mod_inside_60 : decode b_Mod_inside 60 = .ok (.iastore, 1) := by decide +kernel
theorem d_Mod_inside_61 : decode b_Mod_inside 61 = .ok (.aload_n 0, 1) := by decide +kernel
theorem d_Mod_inside_62 : decode b_Mod_inside 62 = .ok (.getfield 82, 3) := by decide +kernel
theorem d_Mod_inside_65 : decode b_Mod_inside 65 = .ok (.iload_n 1, 1) := by decide +kernel
theorem d_Mod_inside_66 : decode b_Mod_inside 66 = .ok (.iload_n 3, 1) := by decide +kernel
theorem d_Mod_inside_67 : decode b_Mod_inside 67 = .ok (.iastore, 1) := by decide +kernel
theorem d_Mod_inside_68 : decode b_Mod_inside 68 = .ok (.return_, 1) := by decide +kernel
abbrev b_Mod_water : ByteArray := prog_13_method_16_code
def y_Mod_water : MethodName := ⟨"WallDampModel", "water", "(II)I"⟩
def ws_Mod_water : List Cond := .code y_Mod_water b_Mod_water 4 (some (.int)) :: x_tb
theorem pd_Mod_water : y_Mod_water.cls ≠ "java/lang/invoke/MethodHandle" ∧ y_Mod_water.cls ≠ "java/lang/invoke/VarHandle" ∧ (parseMethodDescriptor y_Mod_water.desc).map (fun d => d.parameters.length) = some 2 := by decide +kernel
theorem d_Mod_water_0 : decode b_Mod_water 0 = .ok (.aload_n 0, 1) := by decide +kernel
theorem d_Mod_water_1 : decode b_Mod_water 1 = .ok (.aload_n 0, 1) := by decide +kernel
theorem d_Mod_water_2 : decode b_Mod_water 2 = .ok (.iload_n 1, 1) := by decide +kernel
theorem d_Mod_water_3 : decode b_Mod_water 3 = .ok (.invokevirtual 152, 3) := by decide +kernel
theorem d_Mod_water_6 : decode b_Mod_water 6 = .ok (.ifCond .eq 27, 3) := by decide +kernel
theorem d_Mod_water_9 : decode b_Mod_water 9 = .ok (.iload_n 2, 1) := by decide +kernel
theorem d_Mod_water_10 : decode b_Mod_water 10 = .ok (.i2l, 1) := by decide +kernel
theorem d_Mod_water_11 : decode b_Mod_water 11 = .ok (.lconst 0, 1) := by decide +kernel
theorem d_Mod_water_12 : decode b_Mod_water 12 = .ok (.aload_n 0, 1) := by decide +kernel
theorem d_Mod_water_13 : decode b_Mod_water 13 = .ok (.aload_n 0, 1) := by decide +kernel
theorem d_Mod_water_14 : decode b_Mod_water 14 = .ok (.getfield 28, 3) := by decide +kernel
theorem d_Mod_water_17 : decode b_Mod_water 17 = .ok (.iload_n 1, 1) := by decide +kernel
theorem d_Mod_water_18 : decode b_Mod_water 18 = .ok (.iaload, 1) := by decide +kernel
theorem d_Mod_water_19 : decode b_Mod_water 19 = .ok (.invokevirtual 143, 3) := by decide +kernel
theorem d_Mod_water_22 : decode b_Mod_water 22 = .ok (.i2l, 1) := by decide +kernel
theorem d_Mod_water_23 : decode b_Mod_water 23 = .ok (.invokestatic 133, 3) := by decide +kernel
theorem d_Mod_water_26 : decode b_Mod_water 26 = .ok (.ifCond .eq 7, 3) := by decide +kernel
theorem d_Mod_water_29 : decode b_Mod_water 29 = .ok (.iconst 0, 1) := by decide +kernel
theorem d_Mod_water_30 : decode b_Mod_water 30 = .ok (.goto 4, 3) := by decide +kernel
theorem d_Mod_water_33 : decode b_Mod_water 33 = .ok (.iconst 1, 1) := by decide +kernel
theorem d_Mod_water_34 : decode b_Mod_water 34 = .ok (.putfield 130, 3) := by decide +kernel
theorem d_Mod_water_37 : decode b_Mod_water 37 = .ok (.aload_n 0, 1) := by decide +kernel
theorem d_Mod_water_38 : decode b_Mod_water 38 = .ok (.getfield 130, 3) := by decide +kernel
theorem d_Mod_water_41 : decode b_Mod_water 41 = .ok (.ifCond .le 5, 3) := by decide +kernel
theorem d_Mod_water_44 : decode b_Mod_water 44 = .ok (.iconst 0, 1) := by decide +kernel
theorem d_Mod_water_45 : decode b_Mod_water 45 = .ok (.ireturn, 1) := by decide +kernel
theorem d_Mod_water_46 : decode b_Mod_water 46 = .ok (.aload_n 0, 1) := by decide +kernel
theorem d_Mod_water_47 : decode b_Mod_water 47 = .ok (.getfield 34, 3) := by decide +kernel
theorem d_Mod_water_50 : decode b_Mod_water 50 = .ok (.iload_n 1, 1) := by decide +kernel
theorem d_Mod_water_51 : decode b_Mod_water 51 = .ok (.laload, 1) := by decide +kernel
theorem d_Mod_water_52 : decode b_Mod_water 52 = .ok (.l2i, 1) := by decide +kernel
theorem d_Mod_water_53 : decode b_Mod_water 53 = .ok (.istore_n 3, 1) := by decide +kernel
theorem d_Mod_water_54 : decode b_Mod_water 54 = .ok (.aload_n 0, 1) := by decide +kernel
theorem d_Mod_water_55 : decode b_Mod_water 55 = .ok (.dup, 1) := by decide +kernel
theorem d_Mod_water_56 : decode b_Mod_water 56 = .ok (.getfield 156, 3) := by decide +kernel
theorem d_Mod_water_59 : decode b_Mod_water 59 = .ok (.iload_n 2, 1) := by decide +kernel
theorem d_Mod_water_60 : decode b_Mod_water 60 = .ok (.iload_n 3, 1) := by decide +kernel
theorem d_Mod_water_61 : decode b_Mod_water 61 = .ok (.isub, 1) := by decide +kernel
theorem d_Mod_water_62 : decode b_Mod_water 62 = .ok (.i2l, 1) := by decide +kernel
theorem d_Mod_water_63 : decode b_Mod_water 63 = .ok (.ladd, 1) := by decide +kernel
theorem d_Mod_water_64 : decode b_Mod_water 64 = .ok (.putfield 156, 3) := by decide +kernel
theorem d_Mod_water_67 : decode b_Mod_water 67 = .ok (.aload_n 0, 1) := by decide +kernel
theorem d_Mod_water_68 : decode b_Mod_water 68 = .ok (.getfield 34, 3) := by decide +kernel
theorem d_Mod_water_71 : decode b_Mod_water 71 = .ok (.iload_n 1, 1) := by decide +kernel
theorem d_Mod_water_72 : decode b_Mod_water 72 = .ok (.iload_n 2, 1) := by decide +kernel
theorem d_Mod_water_73 : decode b_Mod_water 73 = .ok (.i2l, 1) := by decide +kernel
theorem d_Mod_water_74 : decode b_Mod_water 74 = .ok (.lastore, 1) := by decide +kernel
theorem d_Mod_water_75 : decode b_Mod_water 75 = .ok (.iload_n 3, 1) := by decide +kernel
theorem d_Mod_water_76 : decode b_Mod_water 76 = .ok (.ireturn, 1) := by decide +kernel
abbrev b_Mod_leak : ByteArray := prog_13_method_17_code
def y_Mod_leak : MethodName := ⟨"WallDampModel", "leak", "(II)I"⟩
def ws_Mod_leak : List Cond := .code y_Mod_leak b_Mod_leak 4 (some (.int)) :: x_tb
theorem pd_Mod_leak : y_Mod_leak.cls ≠ "java/lang/invoke/MethodHandle" ∧ y_Mod_leak.cls ≠ "java/lang/invoke/VarHandle" ∧ (parseMethodDescriptor y_Mod_leak.desc).map (fun d => d.parameters.length) = some 2 := by decide +kernel
theorem d_Mod_leak_0 : decode b_Mod_leak 0 = .ok (.aload_n 0, 1) := by decide +kernel
theorem d_Mod_leak_1 : decode b_Mod_leak 1 = .ok (.aload_n 0, 1) := by decide +kernel
theorem d_Mod_leak_2 : decode b_Mod_leak 2 = .ok (.iload_n 1, 1) := by decide +kernel
theorem d_Mod_leak_3 : decode b_Mod_leak 3 = .ok (.invokevirtual 152, 3) := by decide +kernel
theorem d_Mod_leak_6 : decode b_Mod_leak 6 = .ok (.ifCond .eq 19, 3) := by decide +kernel
theorem d_Mod_leak_9 : decode b_Mod_leak 9 = .ok (.iload_n 2, 1) := by decide +kernel
theorem d_Mod_leak_10 : decode b_Mod_leak 10 = .ok (.i2l, 1) := by decide +kernel
theorem d_Mod_leak_11 : decode b_Mod_leak 11 = .ok (.lconst 0, 1) := by decide +kernel
theorem d_Mod_leak_12 : decode b_Mod_leak 12 = .ok (.ldc2_w 150, 3) := by decide +kernel
theorem d_Mod_leak_15 : decode b_Mod_leak 15 = .ok (.invokestatic 133, 3) := by decide +kernel
theorem d_Mod_leak_18 : decode b_Mod_leak 18 = .ok (.ifCond .eq 7, 3) := by decide +kernel
theorem d_Mod_leak_21 : decode b_Mod_leak 21 = .ok (.iconst 0, 1) := by decide +kernel
theorem d_Mod_leak_22 : decode b_Mod_leak 22 = .ok (.goto 4, 3) := by decide +kernel
theorem d_Mod_leak_25 : decode b_Mod_leak 25 = .ok (.iconst 1, 1) := by decide +kernel
theorem d_Mod_leak_26 : decode b_Mod_leak 26 = .ok (.putfield 130, 3) := by decide +kernel
theorem d_Mod_leak_29 : decode b_Mod_leak 29 = .ok (.aload_n 0, 1) := by decide +kernel
theorem d_Mod_leak_30 : decode b_Mod_leak 30 = .ok (.getfield 130, 3) := by decide +kernel
theorem d_Mod_leak_33 : decode b_Mod_leak 33 = .ok (.ifCond .le 5, 3) := by decide +kernel
theorem d_Mod_leak_36 : decode b_Mod_leak 36 = .ok (.iconst 0, 1) := by decide +kernel
theorem d_Mod_leak_37 : decode b_Mod_leak 37 = .ok (.ireturn, 1) := by decide +kernel
theorem d_Mod_leak_38 : decode b_Mod_leak 38 = .ok (.aload_n 0, 1) := by decide +kernel
theorem d_Mod_leak_39 : decode b_Mod_leak 39 = .ok (.getfield 38, 3) := by decide +kernel
theorem d_Mod_leak_42 : decode b_Mod_leak 42 = .ok (.iload_n 1, 1) := by decide +kernel
theorem d_Mod_leak_43 : decode b_Mod_leak 43 = .ok (.iaload, 1) := by decide +kernel
theorem d_Mod_leak_44 : decode b_Mod_leak 44 = .ok (.istore_n 3, 1) := by decide +kernel
theorem d_Mod_leak_45 : decode b_Mod_leak 45 = .ok (.aload_n 0, 1) := by decide +kernel
theorem d_Mod_leak_46 : decode b_Mod_leak 46 = .ok (.getfield 38, 3) := by decide +kernel
theorem d_Mod_leak_49 : decode b_Mod_leak 49 = .ok (.iload_n 1, 1) := by decide +kernel
theorem d_Mod_leak_50 : decode b_Mod_leak 50 = .ok (.iload_n 2, 1) := by decide +kernel
theorem d_Mod_leak_51 : decode b_Mod_leak 51 = .ok (.iastore, 1) := by decide +kernel
theorem d_Mod_leak_52 : decode b_Mod_leak 52 = .ok (.iload_n 3, 1) := by decide +kernel
theorem d_Mod_leak_53 : decode b_Mod_leak 53 = .ok (.ireturn, 1) := by decide +kernel
abbrev b_Mod_growth : ByteArray := prog_13_method_18_code
def y_Mod_growth : MethodName := ⟨"WallDampModel", "growth", "(IIII)I"⟩
def ws_Mod_growth : List Cond := .code y_Mod_growth b_Mod_growth 6 (some (.int)) :: x_tb
theorem pd_Mod_growth : y_Mod_growth.cls ≠ "java/lang/invoke/MethodHandle" ∧ y_Mod_growth.cls ≠ "java/lang/invoke/VarHandle" ∧ (parseMethodDescriptor y_Mod_growth.desc).map (fun d => d.parameters.length) = some 4 := by decide +kernel
theorem d_Mod_growth_0 : decode b_Mod_growth 0 = .ok (.iload_n 1, 1) := by decide +kernel
theorem d_Mod_growth_1 : decode b_Mod_growth 1 = .ok (.i2l, 1) := by decide +kernel
theorem d_Mod_growth_2 : decode b_Mod_growth 2 = .ok (.lconst 0, 1) := by decide +kernel
theorem d_Mod_growth_3 : decode b_Mod_growth 3 = .ok (.ldc2_w 141, 3) := by decide +kernel
theorem d_Mod_growth_6 : decode b_Mod_growth 6 = .ok (.invokestatic 133, 3) := by decide +kernel
theorem d_Mod_growth_9 : decode b_Mod_growth 9 = .ok (.ifCond .eq 53, 3) := by decide +kernel
theorem d_Mod_growth_12 : decode b_Mod_growth 12 = .ok (.iload_n 2, 1) := by decide +kernel
theorem d_Mod_growth_13 : decode b_Mod_growth 13 = .ok (.i2l, 1) := by decide +kernel
theorem d_Mod_growth_14 : decode b_Mod_growth 14 = .ok (.ldc2_w 160, 3) := by decide +kernel
theorem d_Mod_growth_17 : decode b_Mod_growth 17 = .ok (.ldc2_w 141, 3) := by decide +kernel
theorem d_Mod_growth_20 : decode b_Mod_growth 20 = .ok (.invokestatic 133, 3) := by decide +kernel
theorem d_Mod_growth_23 : decode b_Mod_growth 23 = .ok (.ifCond .eq 39, 3) := by decide +kernel
theorem d_Mod_growth_26 : decode b_Mod_growth 26 = .ok (.iload_n 3, 1) := by decide +kernel
theorem d_Mod_growth_27 : decode b_Mod_growth 27 = .ok (.i2l, 1) := by decide +kernel
theorem d_Mod_growth_28 : decode b_Mod_growth 28 = .ok (.ldc2_w 160, 3) := by decide +kernel
theorem d_Mod_growth_31 : decode b_Mod_growth 31 = .ok (.ldc2_w 141, 3) := by decide +kernel
theorem d_Mod_growth_34 : decode b_Mod_growth 34 = .ok (.invokestatic 133, 3) := by decide +kernel
theorem d_Mod_growth_37 : decode b_Mod_growth 37 = .ok (.ifCond .eq 25, 3) := by decide +kernel
theorem d_Mod_growth_40 : decode b_Mod_growth 40 = .ok (.iload_n 2, 1) := by decide +kernel
theorem d_Mod_growth_41 : decode b_Mod_growth 41 = .ok (.iload_n 3, 1) := by decide +kernel
theorem d_Mod_growth_42 : decode b_Mod_growth 42 = .ok (.if_icmp .gt 20, 3) := by decide +kernel
theorem d_Mod_growth_45 : decode b_Mod_growth 45 = .ok (.iload 4, 2) := by decide +kernel
theorem d_Mod_growth_47 : decode b_Mod_growth 47 = .ok (.i2l, 1) := by decide +kernel
theorem d_Mod_growth_48 : decode b_Mod_growth 48 = .ok (.lconst 1, 1) := by decide +kernel
theorem d_Mod_growth_49 : decode b_Mod_growth 49 = .ok (.ldc2_w 150, 3) := by decide +kernel
theorem d_Mod_growth_52 : decode b_Mod_growth 52 = .ok (.invokestatic 133, 3) := by decide +kernel
theorem d_Mod_growth_55 : decode b_Mod_growth 55 = .ok (.ifCond .eq 7, 3) := by decide +kernel
theorem d_Mod_growth_58 : decode b_Mod_growth 58 = .ok (.iconst 1, 1) := by decide +kernel
theorem d_Mod_growth_59 : decode b_Mod_growth 59 = .ok (.goto 4, 3) := by decide +kernel
theorem d_Mod_growth_62 : decode b_Mod_growth 62 = .ok (.iconst 0, 1) := by decide +kernel
theorem d_Mod_growth_63 : decode b_Mod_growth 63 = .ok (.istore 5, 2) := by decide +kernel
theorem d_Mod_growth_65 : decode b_Mod_growth 65 = .ok (.aload_n 0, 1) := by decide +kernel
theorem d_Mod_growth_66 : decode b_Mod_growth 66 = .ok (.iload 5, 2) := by decide +kernel
theorem d_Mod_growth_68 : decode b_Mod_growth 68 = .ok (.ifCond .ne 7, 3) := by decide +kernel
theorem d_Mod_growth_71 : decode b_Mod_growth 71 = .ok (.iconst 1, 1) := by decide +kernel
theorem d_Mod_growth_72 : decode b_Mod_growth 72 = .ok (.goto 17, 3) := by decide +kernel
theorem d_Mod_growth_75 : decode b_Mod_growth 75 = .ok (.aload_n 0, 1) := by decide +kernel
theorem d_Mod_growth_76 : decode b_Mod_growth 76 = .ok (.getfield 174, 3) := by decide +kernel
theorem d_Mod_growth_79 : decode b_Mod_growth 79 = .ok (.bipush 6, 2) := by decide +kernel
theorem d_Mod_growth_81 : decode b_Mod_growth 81 = .ok (.if_icmp .ne 7, 3) := by decide +kernel
theorem d_Mod_growth_84 : decode b_Mod_growth 84 = .ok (.iconst 2, 1) := by decide +kernel
theorem d_Mod_growth_85 : decode b_Mod_growth 85 = .ok (.goto 4, 3) := by decide +kernel
theorem d_Mod_growth_88 : decode b_Mod_growth 88 = .ok (.iconst 0, 1) := by decide +kernel
theorem d_Mod_growth_89 : decode b_Mod_growth 89 = .ok (.putfield 130, 3) := by decide +kernel
theorem d_Mod_growth_92 : decode b_Mod_growth 92 = .ok (.aload_n 0, 1) := by decide +kernel
theorem d_Mod_growth_93 : decode b_Mod_growth 93 = .ok (.getfield 130, 3) := by decide +kernel
theorem d_Mod_growth_96 : decode b_Mod_growth 96 = .ok (.ifCond .le 5, 3) := by decide +kernel
theorem d_Mod_growth_99 : decode b_Mod_growth 99 = .ok (.iconst 0, 1) := by decide +kernel
theorem d_Mod_growth_100 : decode b_Mod_growth 100 = .ok (.ireturn, 1) := by decide +kernel
theorem d_Mod_growth_101 : decode b_Mod_growth 101 = .ok (.aload_n 0, 1) := by decide +kernel
theorem d_Mod_growth_102 : decode b_Mod_growth 102 = .ok (.getfield 85, 3) := by decide +kernel
theorem d_Mod_growth_105 : decode b_Mod_growth 105 = .ok (.aload_n 0, 1) := by decide +kernel
theorem d_Mod_growth_106 : decode b_Mod_growth 106 = .ok (.getfield 174, 3) := by decide +kernel
theorem d_Mod_growth_109 : decode b_Mod_growth 109 = .ok (.iload_n 1, 1) := by decide +kernel
theorem d_Mod_growth_110 : decode b_Mod_growth 110 = .ok (.iastore, 1) := by decide +kernel
theorem d_Mod_growth_111 : decode b_Mod_growth 111 = .ok (.aload_n 0, 1) := by decide +kernel
theorem d_Mod_growth_112 : decode b_Mod_growth 112 = .ok (.getfield 88, 3) := by decide +kernel
theorem d_Mod_growth_115 : decode b_Mod_growth 115 = .ok (.aload_n 0, 1) := by decide +kernel
theorem d_Mod_growth_116 : decode b_Mod_growth 116 = .ok (.getfield 174, 3) := by decide +kernel
theorem d_Mod_growth_119 : decode b_Mod_growth 119 = .ok (.iload_n 2, 1) := by decide +kernel
theorem d_Mod_growth_120 : decode b_Mod_growth 120 = .ok (.iastore, 1) := by decide +kernel
theorem d_Mod_growth_121 : decode b_Mod_growth 121 = .ok (.aload_n 0, 1) := by decide +kernel
theorem d_Mod_growth_122 : decode b_Mod_growth 122 = .ok (.getfield 91, 3) := by decide +kernel
theorem d_Mod_growth_125 : decode b_Mod_growth 125 = .ok (.aload_n 0, 1) := by decide +kernel
theorem d_Mod_growth_126 : decode b_Mod_growth 126 = .ok (.getfield 174, 3) := by decide +kernel
theorem d_Mod_growth_129 : decode b_Mod_growth 129 = .ok (.iload_n 3, 1) := by decide +kernel
theorem d_Mod_growth_130 : decode b_Mod_growth 130 = .ok (.iastore, 1) := by decide +kernel
theorem d_Mod_growth_131 : decode b_Mod_growth 131 = .ok (.aload_n 0, 1) := by decide +kernel
theorem d_Mod_growth_132 : decode b_Mod_growth 132 = .ok (.getfield 94, 3) := by decide +kernel
theorem d_Mod_growth_135 : decode b_Mod_growth 135 = .ok (.aload_n 0, 1) := by decide +kernel
theorem d_Mod_growth_136 : decode b_Mod_growth 136 = .ok (.getfield 174, 3) := by decide +kernel
theorem d_Mod_growth_139 : decode b_Mod_growth 139 = .ok (.iload 4, 2) := by decide +kernel
theorem d_Mod_growth_141 : decode b_Mod_growth 141 = .ok (.iastore, 1) := by decide +kernel
theorem d_Mod_growth_142 : decode b_Mod_growth 142 = .ok (.aload_n 0, 1) := by decide +kernel
theorem d_Mod_growth_143 : decode b_Mod_growth 143 = .ok (.dup, 1) := by decide +kernel
theorem d_Mod_growth_144 : decode b_Mod_growth 144 = .ok (.getfield 174, 3) := by decide +kernel
theorem d_Mod_growth_147 : decode b_Mod_growth 147 = .ok (.iconst 1, 1) := by decide +kernel
theorem d_Mod_growth_148 : decode b_Mod_growth 148 = .ok (.iadd, 1) := by decide +kernel
theorem d_Mod_growth_149 : decode b_Mod_growth 149 = .ok (.putfield 174, 3) := by decide +kernel
theorem d_Mod_growth_152 : decode b_Mod_growth 152 = .ok (.aload_n 0, 1) := by decide +kernel
theorem d_Mod_growth_153 : decode b_Mod_growth 153 = .ok (.getfield 174, 3) := by decide +kernel
theorem d_Mod_growth_156 : decode b_Mod_growth 156 = .ok (.ireturn, 1) := by decide +kernel
abbrev b_Mod_dampOf : ByteArray := prog_13_method_19_code
def y_Mod_dampOf : MethodName := ⟨"WallDampModel", "dampOf", "(I)I"⟩
def ws_Mod_dampOf : List Cond := .code y_Mod_dampOf b_Mod_dampOf 4 (some (.int)) :: x_tb
theorem pd_Mod_dampOf : y_Mod_dampOf.cls ≠ "java/lang/invoke/MethodHandle" ∧ y_Mod_dampOf.cls ≠ "java/lang/invoke/VarHandle" ∧ (parseMethodDescriptor y_Mod_dampOf.desc).map (fun d => d.parameters.length) = some 1 := by decide +kernel
theorem d_Mod_dampOf_0 : decode b_Mod_dampOf 0 = .ok (.bipush 7, 2) := by decide +kernel
theorem d_Mod_dampOf_2 : decode b_Mod_dampOf 2 = .ok (.aload_n 0, 1) := by decide +kernel
theorem d_Mod_dampOf_3 : decode b_Mod_dampOf 3 = .ok (.getfield 28, 3) := by decide +kernel
theorem d_Mod_dampOf_6 : decode b_Mod_dampOf 6 = .ok (.iload_n 1, 1) := by decide +kernel
theorem d_Mod_dampOf_7 : decode b_Mod_dampOf 7 = .ok (.iaload, 1) := by decide +kernel
theorem d_Mod_dampOf_8 : decode b_Mod_dampOf 8 = .ok (.imul, 1) := by decide +kernel
theorem d_Mod_dampOf_9 : decode b_Mod_dampOf 9 = .ok (.istore_n 2, 1) := by decide +kernel
theorem d_Mod_dampOf_10 : decode b_Mod_dampOf 10 = .ok (.aload_n 0, 1) := by decide +kernel
theorem d_Mod_dampOf_11 : decode b_Mod_dampOf 11 = .ok (.getfield 7, 3) := by decide +kernel
theorem d_Mod_dampOf_14 : decode b_Mod_dampOf 14 = .ok (.aload_n 0, 1) := by decide +kernel
theorem d_Mod_dampOf_15 : decode b_Mod_dampOf 15 = .ok (.getfield 28, 3) := by decide +kernel
theorem d_Mod_dampOf_18 : decode b_Mod_dampOf 18 = .ok (.iload_n 1, 1) := by decide +kernel
theorem d_Mod_dampOf_19 : decode b_Mod_dampOf 19 = .ok (.iaload, 1) := by decide +kernel
theorem d_Mod_dampOf_20 : decode b_Mod_dampOf 20 = .ok (.iaload, 1) := by decide +kernel
theorem d_Mod_dampOf_21 : decode b_Mod_dampOf 21 = .ok (.iconst 1, 1) := by decide +kernel
theorem d_Mod_dampOf_22 : decode b_Mod_dampOf 22 = .ok (.isub, 1) := by decide +kernel
theorem d_Mod_dampOf_23 : decode b_Mod_dampOf 23 = .ok (.istore_n 3, 1) := by decide +kernel
theorem d_Mod_dampOf_24 : decode b_Mod_dampOf 24 = .ok (.iload_n 3, 1) := by decide +kernel
theorem d_Mod_dampOf_25 : decode b_Mod_dampOf 25 = .ok (.ifCond .le 28, 3) := by decide +kernel
theorem d_Mod_dampOf_28 : decode b_Mod_dampOf 28 = .ok (.aload_n 0, 1) := by decide +kernel
theorem d_Mod_dampOf_29 : decode b_Mod_dampOf 29 = .ok (.getfield 13, 3) := by decide +kernel
theorem d_Mod_dampOf_32 : decode b_Mod_dampOf 32 = .ok (.iload_n 2, 1) := by decide +kernel
theorem d_Mod_dampOf_33 : decode b_Mod_dampOf 33 = .ok (.iload_n 3, 1) := by decide +kernel
theorem d_Mod_dampOf_34 : decode b_Mod_dampOf 34 = .ok (.iadd, 1) := by decide +kernel
theorem d_Mod_dampOf_35 : decode b_Mod_dampOf 35 = .ok (.iaload, 1) := by decide +kernel
theorem d_Mod_dampOf_36 : decode b_Mod_dampOf 36 = .ok (.i2l, 1) := by decide +kernel
theorem d_Mod_dampOf_37 : decode b_Mod_dampOf 37 = .ok (.aload_n 0, 1) := by decide +kernel
theorem d_Mod_dampOf_38 : decode b_Mod_dampOf 38 = .ok (.getfield 34, 3) := by decide +kernel
theorem d_Mod_dampOf_41 : decode b_Mod_dampOf 41 = .ok (.iload_n 1, 1) := by decide +kernel
theorem d_Mod_dampOf_42 : decode b_Mod_dampOf 42 = .ok (.laload, 1) := by decide +kernel
theorem d_Mod_dampOf_43 : decode b_Mod_dampOf 43 = .ok (.lcmp, 1) := by decide +kernel
theorem d_Mod_dampOf_44 : decode b_Mod_dampOf 44 = .ok (.ifCond .le 9, 3) := by decide +kernel
theorem d_Mod_dampOf_47 : decode b_Mod_dampOf 47 = .ok (.iinc 3 (-1), 3) := by decide +kernel
theorem d_Mod_dampOf_50 : decode b_Mod_dampOf 50 = .ok (.goto (-26), 3) := by decide +kernel
theorem d_Mod_dampOf_53 : decode b_Mod_dampOf 53 = .ok (.iload_n 3, 1) := by decide +kernel
theorem d_Mod_dampOf_54 : decode b_Mod_dampOf 54 = .ok (.aload_n 0, 1) := by decide +kernel
theorem d_Mod_dampOf_55 : decode b_Mod_dampOf 55 = .ok (.getfield 7, 3) := by decide +kernel
theorem d_Mod_dampOf_58 : decode b_Mod_dampOf 58 = .ok (.aload_n 0, 1) := by decide +kernel
theorem d_Mod_dampOf_59 : decode b_Mod_dampOf 59 = .ok (.getfield 28, 3) := by decide +kernel
theorem d_Mod_dampOf_62 : decode b_Mod_dampOf 62 = .ok (.iload_n 1, 1) := by decide +kernel
theorem d_Mod_dampOf_63 : decode b_Mod_dampOf 63 = .ok (.iaload, 1) := by decide +kernel
theorem d_Mod_dampOf_64 : decode b_Mod_dampOf 64 = .ok (.iaload, 1) := by decide +kernel
theorem d_Mod_dampOf_65 : decode b_Mod_dampOf 65 = .ok (.iconst 1, 1) := by decide +kernel
theorem d_Mod_dampOf_66 : decode b_Mod_dampOf 66 = .ok (.isub, 1) := by decide +kernel
theorem d_Mod_dampOf_67 : decode b_Mod_dampOf 67 = .ok (.if_icmp .ne 12, 3) := by decide +kernel
theorem d_Mod_dampOf_70 : decode b_Mod_dampOf 70 = .ok (.aload_n 0, 1) := by decide +kernel
theorem d_Mod_dampOf_71 : decode b_Mod_dampOf 71 = .ok (.getfield 16, 3) := by decide +kernel
theorem d_Mod_dampOf_74 : decode b_Mod_dampOf 74 = .ok (.iload_n 2, 1) := by decide +kernel
theorem d_Mod_dampOf_75 : decode b_Mod_dampOf 75 = .ok (.iload_n 3, 1) := by decide +kernel
theorem d_Mod_dampOf_76 : decode b_Mod_dampOf 76 = .ok (.iadd, 1) := by decide +kernel
theorem d_Mod_dampOf_77 : decode b_Mod_dampOf 77 = .ok (.iaload, 1) := by decide +kernel
theorem d_Mod_dampOf_78 : decode b_Mod_dampOf 78 = .ok (.ireturn, 1) := by decide +kernel
theorem d_Mod_dampOf_79 : decode b_Mod_dampOf 79 = .ok (.aload_n 0, 1) := by decide +kernel
theorem d_Mod_dampOf_80 : decode b_Mod_dampOf 80 = .ok (.getfield 16, 3) := by decide +kernel
theorem d_Mod_dampOf_83 : decode b_Mod_dampOf 83 = .ok (.iload_n 2, 1) := by decide +kernel
theorem d_Mod_dampOf_84 : decode b_Mod_dampOf 84 = .ok (.iload_n 3, 1) := by decide +kernel
theorem d_Mod_dampOf_85 : decode b_Mod_dampOf 85 = .ok (.iadd, 1) := by decide +kernel
theorem d_Mod_dampOf_86 : decode b_Mod_dampOf 86 = .ok (.iaload, 1) := by decide +kernel
theorem d_Mod_dampOf_87 : decode b_Mod_dampOf 87 = .ok (.i2l, 1) := by decide +kernel
theorem d_Mod_dampOf_88 : decode b_Mod_dampOf 88 = .ok (.aload_n 0, 1) := by decide +kernel
theorem d_Mod_dampOf_89 : decode b_Mod_dampOf 89 = .ok (.getfield 16, 3) := by decide +kernel
theorem d_Mod_dampOf_92 : decode b_Mod_dampOf 92 = .ok (.iload_n 2, 1) := by decide +kernel
theorem d_Mod_dampOf_93 : decode b_Mod_dampOf 93 = .ok (.iload_n 3, 1) := by decide +kernel
theorem d_Mod_dampOf_94 : decode b_Mod_dampOf 94 = .ok (.iadd, 1) := by decide +kernel
theorem d_Mod_dampOf_95 : decode b_Mod_dampOf 95 = .ok (.iconst 1, 1) := by decide +kernel
theorem d_Mod_dampOf_96 : decode b_Mod_dampOf 96 = .ok (.iadd, 1) := by decide +kernel
theorem d_Mod_dampOf_97 : decode b_Mod_dampOf 97 = .ok (.iaload, 1) := by decide +kernel
theorem d_Mod_dampOf_98 : decode b_Mod_dampOf 98 = .ok (.aload_n 0, 1) := by decide +kernel
theorem d_Mod_dampOf_99 : decode b_Mod_dampOf 99 = .ok (.getfield 16, 3) := by decide +kernel
theorem d_Mod_dampOf_102 : decode b_Mod_dampOf 102 = .ok (.iload_n 2, 1) := by decide +kernel
theorem d_Mod_dampOf_103 : decode b_Mod_dampOf 103 = .ok (.iload_n 3, 1) := by decide +kernel
theorem d_Mod_dampOf_104 : decode b_Mod_dampOf 104 = .ok (.iadd, 1) := by decide +kernel
theorem d_Mod_dampOf_105 : decode b_Mod_dampOf 105 = .ok (.iaload, 1) := by decide +kernel
theorem d_Mod_dampOf_106 : decode b_Mod_dampOf 106 = .ok (.isub, 1) := by decide +kernel
theorem d_Mod_dampOf_107 : decode b_Mod_dampOf 107 = .ok (.i2l, 1) := by decide +kernel
theorem d_Mod_dampOf_108 : decode b_Mod_dampOf 108 = .ok (.aload_n 0, 1) := by decide +kernel
theorem d_Mod_dampOf_109 : decode b_Mod_dampOf 109 = .ok (.getfield 34, 3) := by decide +kernel
theorem d_Mod_dampOf_112 : decode b_Mod_dampOf 112 = .ok (.iload_n 1, 1) := by decide +kernel
theorem d_Mod_dampOf_113 : decode b_Mod_dampOf 113 = .ok (.laload, 1) := by decide +kernel
theorem d_Mod_dampOf_114 : decode b_Mod_dampOf 114 = .ok (.aload_n 0, 1) := by decide +kernel
theorem d_Mod_dampOf_115 : decode b_Mod_dampOf 115 = .ok (.getfield 13, 3) := by decide +kernel
theorem d_Mod_dampOf_118 : decode b_Mod_dampOf 118 = .ok (.iload_n 2, 1) := by decide +kernel
theorem d_Mod_dampOf_119 : decode b_Mod_dampOf 119 = .ok (.iload_n 3, 1) := by decide +kernel
theorem d_Mod_dampOf_120 : decode b_Mod_dampOf 120 = .ok (.iadd, 1) := by decide +kernel
theorem d_Mod_dampOf_121 : decode b_Mod_dampOf 121 = .ok (.iaload, 1) := by decide +kernel
theorem d_Mod_dampOf_122 : decode b_Mod_dampOf 122 = .ok (.i2l, 1) := by decide +kernel
theorem d_Mod_dampOf_123 : decode b_Mod_dampOf 123 = .ok (.lsub, 1) := by decide +kernel
theorem d_Mod_dampOf_124 : decode b_Mod_dampOf 124 = .ok (.lmul, 1) := by decide +kernel
theorem d_Mod_dampOf_125 : decode b_Mod_dampOf 125 = .ok (.aload_n 0, 1) := by decide +kernel
theorem d_Mod_dampOf_126 : decode b_Mod_dampOf 126 = .ok (.getfield 13, 3) := by decide +kernel
theorem d_Mod_dampOf_129 : decode b_Mod_dampOf 129 = .ok (.iload_n 2, 1) := by decide +kernel
theorem d_Mod_dampOf_130 : decode b_Mod_dampOf 130 = .ok (.iload_n 3, 1) := by decide +kernel
theorem d_Mod_dampOf_131 : decode b_Mod_dampOf 131 = .ok (.iadd, 1) := by decide +kernel
theorem d_Mod_dampOf_132 : decode b_Mod_dampOf 132 = .ok (.iconst 1, 1) := by decide +kernel
theorem d_Mod_dampOf_133 : decode b_Mod_dampOf 133 = .ok (.iadd, 1) := by decide +kernel
theorem d_Mod_dampOf_134 : decode b_Mod_dampOf 134 = .ok (.iaload, 1) := by decide +kernel
theorem d_Mod_dampOf_135 : decode b_Mod_dampOf 135 = .ok (.aload_n 0, 1) := by decide +kernel
theorem d_Mod_dampOf_136 : decode b_Mod_dampOf 136 = .ok (.getfield 13, 3) := by decide +kernel
theorem d_Mod_dampOf_139 : decode b_Mod_dampOf 139 = .ok (.iload_n 2, 1) := by decide +kernel
theorem d_Mod_dampOf_140 : decode b_Mod_dampOf 140 = .ok (.iload_n 3, 1) := by decide +kernel
theorem d_Mod_dampOf_141 : decode b_Mod_dampOf 141 = .ok (.iadd, 1) := by decide +kernel
theorem d_Mod_dampOf_142 : decode b_Mod_dampOf 142 = .ok (.iaload, 1) := by decide +kernel
theorem d_Mod_dampOf_143 : decode b_Mod_dampOf 143 = .ok (.isub, 1) := by decide +kernel
theorem d_Mod_dampOf_144 : decode b_Mod_dampOf 144 = .ok (.i2l, 1) := by decide +kernel
theorem d_Mod_dampOf_145 : decode b_Mod_dampOf 145 = .ok (.ldiv, 1) := by decide +kernel
theorem d_Mod_dampOf_146 : decode b_Mod_dampOf 146 = .ok (.ladd, 1) := by decide +kernel
theorem d_Mod_dampOf_147 : decode b_Mod_dampOf 147 = .ok (.l2i, 1) := by decide +kernel
theorem d_Mod_dampOf_148 : decode b_Mod_dampOf 148 = .ok (.ireturn, 1) := by decide +kernel
abbrev b_Mod_resistance : ByteArray := prog_13_method_20_code
def y_Mod_resistance : MethodName := ⟨"WallDampModel", "resistance", "(I)I"⟩
def ws_Mod_resistance : List Cond := .code y_Mod_resistance b_Mod_resistance 2 (some (.int)) :: x_tb
theorem pd_Mod_resistance : y_Mod_resistance.cls ≠ "java/lang/invoke/MethodHandle" ∧ y_Mod_resistance.cls ≠ "java/lang/invoke/VarHandle" ∧ (parseMethodDescriptor y_Mod_resistance.desc).map (fun d => d.parameters.length) = some 1 := by decide +kernel
theorem d_Mod_resistance_0 : decode b_Mod_resistance 0 = .ok (.bipush 100, 2) := by decide +kernel
theorem d_Mod_resistance_2 : decode b_Mod_resistance 2 = .ok (.aload_n 0, 1) := by decide +kernel
theorem d_Mod_resistance_3 : decode b_Mod_resistance 3 = .ok (.getfield 31, 3) := by decide +kernel
theorem d_Mod_resistance_6 : decode b_Mod_resistance 6 = .ok (.iload_n 1, 1) := by decide +kernel
theorem d_Mod_resistance_7 : decode b_Mod_resistance 7 = .ok (.iaload, 1) := by decide +kernel
theorem d_Mod_resistance_8 : decode b_Mod_resistance 8 = .ok (.imul, 1) := by decide +kernel
theorem d_Mod_resistance_9 : decode b_Mod_resistance 9 = .ok (.aload_n 0, 1) := by decide +kernel
theorem d_Mod_resistance_10 : decode b_Mod_resistance 10 = .ok (.getfield 25, 3) := by decide +kernel
theorem d_Mod_resistance_13 : decode b_Mod_resistance 13 = .ok (.aload_n 0, 1) := by decide +kernel
theorem d_Mod_resistance_14 : decode b_Mod_resistance 14 = .ok (.getfield 28, 3) := by decide +kernel
theorem d_Mod_resistance_17 : decode b_Mod_resistance 17 = .ok (.iload_n 1, 1) := by decide +kernel
theorem d_Mod_resistance_18 : decode b_Mod_resistance 18 = .ok (.iaload, 1) := by decide +kernel
theorem d_Mod_resistance_19 : decode b_Mod_resistance 19 = .ok (.iaload, 1) := by decide +kernel
theorem d_Mod_resistance_20 : decode b_Mod_resistance 20 = .ok (.idiv, 1) := by decide +kernel
theorem d_Mod_resistance_21 : decode b_Mod_resistance 21 = .ok (.ireturn, 1) := by decide +kernel
abbrev b_Mod_warm : ByteArray := prog_13_method_21_code
def y_Mod_warm : MethodName := ⟨"WallDampModel", "warm", "(I)V"⟩
def ws_Mod_warm : List Cond := .code y_Mod_warm b_Mod_warm 9 none :: x_tb
theorem pd_Mod_warm : y_Mod_warm.cls ≠ "java/lang/invoke/MethodHandle" ∧ y_Mod_warm.cls ≠ "java/lang/invoke/VarHandle" ∧ (parseMethodDescriptor y_Mod_warm.desc).map (fun d => d.parameters.length) = some 1 := by decide +kernel
theorem d_Mod_warm_0 : decode b_Mod_warm 0 = .ok (.ldc2_w 177, 3) := by decide +kernel
theorem d_Mod_warm_3 : decode b_Mod_warm 3 = .ok (.aload_n 0, 1) := by decide +kernel
theorem d_Mod_warm_4 : decode b_Mod_warm 4 = .ok (.getfield 60, 3) := by decide +kernel
theorem d_Mod_warm_7 : decode b_Mod_warm 7 = .ok (.aload_n 0, 1) := by decide +kernel
theorem d_Mod_warm_8 : decode b_Mod_warm 8 = .ok (.getfield 64, 3) := by decide +kernel
theorem d_Mod_warm_11 : decode b_Mod_warm 11 = .ok (.iadd, 1) := by decide +kernel
theorem d_Mod_warm_12 : decode b_Mod_warm 12 = .ok (.i2l, 1) := by decide +kernel
theorem d_Mod_warm_13 : decode b_Mod_warm 13 = .ok (.lmul, 1) := by decide +kernel
theorem d_Mod_warm_14 : decode b_Mod_warm 14 = .ok (.lstore_n 2, 1) := by decide +kernel
theorem d_Mod_warm_15 : decode b_Mod_warm 15 = .ok (.iconst 0, 1) := by decide +kernel
theorem d_Mod_warm_16 : decode b_Mod_warm 16 = .ok (.istore 4, 2) := by decide +kernel
theorem d_Mod_warm_18 : decode b_Mod_warm 18 = .ok (.iload 4, 2) := by decide +kernel
theorem d_Mod_warm_20 : decode b_Mod_warm 20 = .ok (.aload_n 0, 1) := by decide +kernel
theorem d_Mod_warm_21 : decode b_Mod_warm 21 = .ok (.getfield 127, 3) := by decide +kernel
theorem d_Mod_warm_24 : decode b_Mod_warm 24 = .ok (.if_icmp .ge 23, 3) := by decide +kernel
theorem d_Mod_warm_27 : decode b_Mod_warm 27 = .ok (.lload_n 2, 1) := by decide +kernel
theorem d_Mod_warm_28 : decode b_Mod_warm 28 = .ok (.ldc2_w 177, 3) := by decide +kernel
theorem d_Mod_warm_31 : decode b_Mod_warm 31 = .ok (.aload_n 0, 1) := by decide +kernel
theorem d_Mod_warm_32 : decode b_Mod_warm 32 = .ok (.iload 4, 2) := by decide +kernel
theorem d_Mod_warm_34 : decode b_Mod_warm 34 = .ok (.invokevirtual 179, 3) := by decide +kernel
theorem d_Mod_warm_37 : decode b_Mod_warm 37 = .ok (.i2l, 1) := by decide +kernel
theorem d_Mod_warm_38 : decode b_Mod_warm 38 = .ok (.lmul, 1) := by decide +kernel
theorem d_Mod_warm_39 : decode b_Mod_warm 39 = .ok (.ladd, 1) := by decide +kernel
theorem d_Mod_warm_40 : decode b_Mod_warm 40 = .ok (.lstore_n 2, 1) := by decide +kernel
theorem d_Mod_warm_41 : decode b_Mod_warm 41 = .ok (.iinc 4 1, 3) := by decide +kernel
theorem d_Mod_warm_44 : decode b_Mod_warm 44 = .ok (.goto (-26), 3) := by decide +kernel
theorem d_Mod_warm_47 : decode b_Mod_warm 47 = .ok (.aload_n 0, 1) := by decide +kernel
theorem d_Mod_warm_48 : decode b_Mod_warm 48 = .ok (.getfield 67, 3) := by decide +kernel
theorem d_Mod_warm_51 : decode b_Mod_warm 51 = .ok (.iload_n 1, 1) := by decide +kernel
theorem d_Mod_warm_52 : decode b_Mod_warm 52 = .ok (.iaload, 1) := by decide +kernel
theorem d_Mod_warm_53 : decode b_Mod_warm 53 = .ok (.aload_n 0, 1) := by decide +kernel
theorem d_Mod_warm_54 : decode b_Mod_warm 54 = .ok (.getfield 76, 3) := by decide +kernel
theorem d_Mod_warm_57 : decode b_Mod_warm 57 = .ok (.iload_n 1, 1) := by decide +kernel
theorem d_Mod_warm_58 : decode b_Mod_warm 58 = .ok (.iaload, 1) := by decide +kernel
theorem d_Mod_warm_59 : decode b_Mod_warm 59 = .ok (.iadd, 1) := by decide +kernel
theorem d_Mod_warm_60 : decode b_Mod_warm 60 = .ok (.i2l, 1) := by decide +kernel
theorem d_Mod_warm_61 : decode b_Mod_warm 61 = .ok (.lstore 4, 2) := by decide +kernel
theorem d_Mod_warm_63 : decode b_Mod_warm 63 = .ok (.ldc2_w 177, 3) := by decide +kernel
theorem d_Mod_warm_66 : decode b_Mod_warm 66 = .ok (.aload_n 0, 1) := by decide +kernel
theorem d_Mod_warm_67 : decode b_Mod_warm 67 = .ok (.getfield 60, 3) := by decide +kernel
theorem d_Mod_warm_70 : decode b_Mod_warm 70 = .ok (.i2l, 1) := by decide +kernel
theorem d_Mod_warm_71 : decode b_Mod_warm 71 = .ok (.lmul, 1) := by decide +kernel
theorem d_Mod_warm_72 : decode b_Mod_warm 72 = .ok (.lstore 6, 2) := by decide +kernel
theorem d_Mod_warm_74 : decode b_Mod_warm 74 = .ok (.iconst 0, 1) := by decide +kernel
theorem d_Mod_warm_75 : decode b_Mod_warm 75 = .ok (.istore 8, 2) := by decide +kernel
theorem d_Mod_warm_77 : decode b_Mod_warm 77 = .ok (.iload 8, 2) := by decide +kernel
theorem d_Mod_warm_79 : decode b_Mod_warm 79 = .ok (.aload_n 0, 1) := by decide +kernel
theorem d_Mod_warm_80 : decode b_Mod_warm 80 = .ok (.getfield 127, 3) := by decide +kernel
theorem d_Mod_warm_83 : decode b_Mod_warm 83 = .ok (.if_icmp .ge 71, 3) := by decide +kernel
theorem d_Mod_warm_86 : decode b_Mod_warm 86 = .ok (.lload 6, 2) := by decide +kernel
theorem d_Mod_warm_88 : decode b_Mod_warm 88 = .ok (.aload_n 0, 1) := by decide +kernel
theorem d_Mod_warm_89 : decode b_Mod_warm 89 = .ok (.iload 8, 2) := by decide +kernel
theorem d_Mod_warm_91 : decode b_Mod_warm 91 = .ok (.invokevirtual 179, 3) := by decide +kernel
theorem d_Mod_warm_94 : decode b_Mod_warm 94 = .ok (.i2l, 1) := by decide +kernel
theorem d_Mod_warm_95 : decode b_Mod_warm 95 = .ok (.ladd, 1) := by decide +kernel
theorem d_Mod_warm_96 : decode b_Mod_warm 96 = .ok (.lstore 6, 2) := by decide +kernel
theorem d_Mod_warm_98 : decode b_Mod_warm 98 = .ok (.aload_n 0, 1) := by decide +kernel
theorem d_Mod_warm_99 : decode b_Mod_warm 99 = .ok (.getfield 41, 3) := by decide +kernel
theorem d_Mod_warm_102 : decode b_Mod_warm 102 = .ok (.iload 8, 2) := by decide +kernel
theorem d_Mod_warm_104 : decode b_Mod_warm 104 = .ok (.lload 4, 2) := by decide +kernel
theorem d_Mod_warm_106 : decode b_Mod_warm 106 = .ok (.lload_n 2, 1) := by decide +kernel
theorem d_Mod_warm_107 : decode b_Mod_warm 107 = .ok (.lconst 0, 1) := by decide +kernel
theorem d_Mod_warm_108 : decode b_Mod_warm 108 = .ok (.lcmp, 1) := by decide +kernel
theorem d_Mod_warm_109 : decode b_Mod_warm 109 = .ok (.ifCond .ne 7, 3) := by decide +kernel
theorem d_Mod_warm_112 : decode b_Mod_warm 112 = .ok (.lconst 0, 1) := by decide +kernel
theorem d_Mod_warm_113 : decode b_Mod_warm 113 = .ok (.goto 20, 3) := by decide +kernel
theorem d_Mod_warm_116 : decode b_Mod_warm 116 = .ok (.aload_n 0, 1) := by decide +kernel
theorem d_Mod_warm_117 : decode b_Mod_warm 117 = .ok (.getfield 79, 3) := by decide +kernel
theorem d_Mod_warm_120 : decode b_Mod_warm 120 = .ok (.iload_n 1, 1) := by decide +kernel
theorem d_Mod_warm_121 : decode b_Mod_warm 121 = .ok (.iaload, 1) := by decide +kernel
theorem d_Mod_warm_122 : decode b_Mod_warm 122 = .ok (.i2l, 1) := by decide +kernel
theorem d_Mod_warm_123 : decode b_Mod_warm 123 = .ok (.lload 4, 2) := by decide +kernel
theorem d_Mod_warm_125 : decode b_Mod_warm 125 = .ok (.lsub, 1) := by decide +kernel
theorem d_Mod_warm_126 : decode b_Mod_warm 126 = .ok (.lload 6, 2) := by decide +kernel
theorem d_Mod_warm_128 : decode b_Mod_warm 128 = .ok (.lmul, 1) := by decide +kernel
theorem d_Mod_warm_129 : decode b_Mod_warm 129 = .ok (.lload_n 2, 1) := by decide +kernel
theorem d_Mod_warm_130 : decode b_Mod_warm 130 = .ok (.invokestatic 182, 3) := by decide +kernel
theorem d_Mod_warm_133 : decode b_Mod_warm 133 = .ok (.ladd, 1) := by decide +kernel
theorem d_Mod_warm_134 : decode b_Mod_warm 134 = .ok (.l2i, 1) := by decide +kernel
theorem d_Mod_warm_135 : decode b_Mod_warm 135 = .ok (.iastore, 1) := by decide +kernel
theorem d_Mod_warm_136 : decode b_Mod_warm 136 = .ok (.lload 6, 2) := by decide +kernel
theorem d_Mod_warm_138 : decode b_Mod_warm 138 = .ok (.aload_n 0, 1) := by decide +kernel
theorem d_Mod_warm_139 : decode b_Mod_warm 139 = .ok (.iload 8, 2) := by decide +kernel
theorem d_Mod_warm_141 : decode b_Mod_warm 141 = .ok (.invokevirtual 179, 3) := by decide +kernel
theorem d_Mod_warm_144 : decode b_Mod_warm 144 = .ok (.i2l, 1) := by decide +kernel
theorem d_Mod_warm_145 : decode b_Mod_warm 145 = .ok (.ladd, 1) := by decide +kernel
theorem d_Mod_warm_146 : decode b_Mod_warm 146 = .ok (.lstore 6, 2) := by decide +kernel
theorem d_Mod_warm_148 : decode b_Mod_warm 148 = .ok (.iinc 8 1, 3) := by decide +kernel
theorem d_Mod_warm_151 : decode b_Mod_warm 151 = .ok (.goto (-74), 3) := by decide +kernel
theorem d_Mod_warm_154 : decode b_Mod_warm 154 = .ok (.return_, 1) := by decide +kernel
abbrev b_Mod_at : ByteArray := prog_13_method_22_code
def y_Mod_at : MethodName := ⟨"WallDampModel", "at", "(JJ)J"⟩
def ws_Mod_at : List Cond := .code y_Mod_at b_Mod_at 4 (some (.long)) :: x_tb
theorem pd_Mod_at : y_Mod_at.cls ≠ "java/lang/invoke/MethodHandle" ∧ y_Mod_at.cls ≠ "java/lang/invoke/VarHandle" ∧ (parseMethodDescriptor y_Mod_at.desc).map (fun d => d.parameters.length) = some 2 := by decide +kernel
theorem d_Mod_at_0 : decode b_Mod_at 0 = .ok (.lload_n 0, 1) := by decide +kernel
theorem d_Mod_at_1 : decode b_Mod_at 1 = .ok (.lload_n 2, 1) := by decide +kernel
theorem d_Mod_at_2 : decode b_Mod_at 2 = .ok (.lmul, 1) := by decide +kernel
theorem d_Mod_at_3 : decode b_Mod_at 3 = .ok (.ldc2_w 141, 3) := by decide +kernel
theorem d_Mod_at_6 : decode b_Mod_at 6 = .ok (.ldiv, 1) := by decide +kernel
theorem d_Mod_at_7 : decode b_Mod_at 7 = .ok (.lreturn, 1) := by decide +kernel
abbrev b_Mod_flow : ByteArray := prog_13_method_23_code
def y_Mod_flow : MethodName := ⟨"WallDampModel", "flow", "(I)V"⟩
def ws_Mod_flow : List Cond := .code y_Mod_flow b_Mod_flow 12 none :: x_tb
theorem pd_Mod_flow : y_Mod_flow.cls ≠ "java/lang/invoke/MethodHandle" ∧ y_Mod_flow.cls ≠ "java/lang/invoke/VarHandle" ∧ (parseMethodDescriptor y_Mod_flow.desc).map (fun d => d.parameters.length) = some 1 := by decide +kernel
theorem d_Mod_flow_0 : decode b_Mod_flow 0 = .ok (.iconst 0, 1) := by decide +kernel
theorem d_Mod_flow_1 : decode b_Mod_flow 1 = .ok (.istore_n 2, 1) := by decide +kernel
theorem d_Mod_flow_2 : decode b_Mod_flow 2 = .ok (.iload_n 2, 1) := by decide +kernel
theorem d_Mod_flow_3 : decode b_Mod_flow 3 = .ok (.aload_n 0, 1) := by decide +kernel
theorem d_Mod_flow_4 : decode b_Mod_flow 4 = .ok (.getfield 127, 3) := by decide +kernel
theorem d_Mod_flow_7 : decode b_Mod_flow 7 = .ok (.if_icmp .ge 47, 3) := by decide +kernel
theorem d_Mod_flow_10 : decode b_Mod_flow 10 = .ok (.aload_n 0, 1) := by decide +kernel
theorem d_Mod_flow_11 : decode b_Mod_flow 11 = .ok (.getfield 100, 3) := by decide +kernel
theorem d_Mod_flow_14 : decode b_Mod_flow 14 = .ok (.iload_n 2, 1) := by decide +kernel
theorem d_Mod_flow_15 : decode b_Mod_flow 15 = .ok (.aload_n 0, 1) := by decide +kernel
theorem d_Mod_flow_16 : decode b_Mod_flow 16 = .ok (.iload_n 2, 1) := by decide +kernel
theorem d_Mod_flow_17 : decode b_Mod_flow 17 = .ok (.invokevirtual 186, 3) := by decide +kernel
theorem d_Mod_flow_20 : decode b_Mod_flow 20 = .ok (.iastore, 1) := by decide +kernel
theorem d_Mod_flow_21 : decode b_Mod_flow 21 = .ok (.aload_n 0, 1) := by decide +kernel
theorem d_Mod_flow_22 : decode b_Mod_flow 22 = .ok (.getfield 97, 3) := by decide +kernel
theorem d_Mod_flow_25 : decode b_Mod_flow 25 = .ok (.iload_n 2, 1) := by decide +kernel
theorem d_Mod_flow_26 : decode b_Mod_flow 26 = .ok (.aload_n 0, 1) := by decide +kernel
theorem d_Mod_flow_27 : decode b_Mod_flow 27 = .ok (.aload_n 0, 1) := by decide +kernel
theorem d_Mod_flow_28 : decode b_Mod_flow 28 = .ok (.getfield 41, 3) := by decide +kernel
theorem d_Mod_flow_31 : decode b_Mod_flow 31 = .ok (.iload_n 2, 1) := by decide +kernel
theorem d_Mod_flow_32 : decode b_Mod_flow 32 = .ok (.iaload, 1) := by decide +kernel
theorem d_Mod_flow_33 : decode b_Mod_flow 33 = .ok (.invokevirtual 167, 3) := by decide +kernel
theorem d_Mod_flow_36 : decode b_Mod_flow 36 = .ok (.i2l, 1) := by decide +kernel
theorem d_Mod_flow_37 : decode b_Mod_flow 37 = .ok (.aload_n 0, 1) := by decide +kernel
theorem d_Mod_flow_38 : decode b_Mod_flow 38 = .ok (.getfield 100, 3) := by decide +kernel
theorem d_Mod_flow_41 : decode b_Mod_flow 41 = .ok (.iload_n 2, 1) := by decide +kernel
theorem d_Mod_flow_42 : decode b_Mod_flow 42 = .ok (.iaload, 1) := by decide +kernel
theorem d_Mod_flow_43 : decode b_Mod_flow 43 = .ok (.i2l, 1) := by decide +kernel
theorem d_Mod_flow_44 : decode b_Mod_flow 44 = .ok (.invokestatic 189, 3) := by decide +kernel
theorem d_Mod_flow_47 : decode b_Mod_flow 47 = .ok (.lastore, 1) := by decide +kernel
theorem d_Mod_flow_48 : decode b_Mod_flow 48 = .ok (.iinc 2 1, 3) := by decide +kernel
theorem d_Mod_flow_51 : decode b_Mod_flow 51 = .ok (.goto (-49), 3) := by decide +kernel
theorem d_Mod_flow_54 : decode b_Mod_flow 54 = .ok (.iconst 0, 1) := by decide +kernel
theorem d_Mod_flow_55 : decode b_Mod_flow 55 = .ok (.istore_n 2, 1) := by decide +kernel
theorem d_Mod_flow_56 : decode b_Mod_flow 56 = .ok (.iload_n 2, 1) := by decide +kernel
theorem d_Mod_flow_57 : decode b_Mod_flow 57 = .ok (.bipush 6, 2) := by decide +kernel
theorem d_Mod_flow_59 : decode b_Mod_flow 59 = .ok (.aload_n 0, 1) := by decide +kernel
theorem d_Mod_flow_60 : decode b_Mod_flow 60 = .ok (.getfield 127, 3) := by decide +kernel
theorem d_Mod_flow_63 : decode b_Mod_flow 63 = .ok (.imul, 1) := by decide +kernel
theorem d_Mod_flow_64 : decode b_Mod_flow 64 = .ok (.if_icmp .ge 16, 3) := by decide +kernel
theorem d_Mod_flow_67 : decode b_Mod_flow 67 = .ok (.aload_n 0, 1) := by decide +kernel
theorem d_Mod_flow_68 : decode b_Mod_flow 68 = .ok (.getfield 103, 3) := by decide +kernel
theorem d_Mod_flow_71 : decode b_Mod_flow 71 = .ok (.iload_n 2, 1) := by decide +kernel
theorem d_Mod_flow_72 : decode b_Mod_flow 72 = .ok (.lconst 0, 1) := by decide +kernel
theorem d_Mod_flow_73 : decode b_Mod_flow 73 = .ok (.lastore, 1) := by decide +kernel
theorem d_Mod_flow_74 : decode b_Mod_flow 74 = .ok (.iinc 2 1, 3) := by decide +kernel
theorem d_Mod_flow_77 : decode b_Mod_flow 77 = .ok (.goto (-21), 3) := by decide +kernel
theorem d_Mod_flow_80 : decode b_Mod_flow 80 = .ok (.iconst 0, 1) := by decide +kernel
theorem d_Mod_flow_81 : decode b_Mod_flow 81 = .ok (.istore_n 2, 1) := by decide +kernel
theorem d_Mod_flow_82 : decode b_Mod_flow 82 = .ok (.iload_n 2, 1) := by decide +kernel
theorem d_Mod_flow_83 : decode b_Mod_flow 83 = .ok (.iconst 1, 1) := by decide +kernel
theorem d_Mod_flow_84 : decode b_Mod_flow 84 = .ok (.iadd, 1) := by decide +kernel
theorem d_Mod_flow_85 : decode b_Mod_flow 85 = .ok (.aload_n 0, 1) := by decide +kernel
theorem d_Mod_flow_86 : decode b_Mod_flow 86 = .ok (.getfield 127, 3) := by decide +kernel
theorem d_Mod_flow_89 : decode b_Mod_flow 89 = .ok (.if_icmp .ge 198, 3) := by decide +kernel
theorem d_Mod_flow_92 : decode b_Mod_flow 92 = .ok (.aload_n 0, 1) := by decide +kernel
theorem d_Mod_flow_93 : decode b_Mod_flow 93 = .ok (.getfield 28, 3) := by decide +kernel
theorem d_Mod_flow_96 : decode b_Mod_flow 96 = .ok (.iload_n 2, 1) := by decide +kernel
theorem d_Mod_flow_97 : decode b_Mod_flow 97 = .ok (.iaload, 1) := by decide +kernel
theorem d_Mod_flow_98 : decode b_Mod_flow 98 = .ok (.istore_n 3, 1) := by decide +kernel
theorem d_Mod_flow_99 : decode b_Mod_flow 99 = .ok (.aload_n 0, 1) := by decide +kernel
theorem d_Mod_flow_100 : decode b_Mod_flow 100 = .ok (.getfield 28, 3) := by decide +kernel
theorem d_Mod_flow_103 : decode b_Mod_flow 103 = .ok (.iload_n 2, 1) := by decide +kernel
theorem d_Mod_flow_104 : decode b_Mod_flow 104 = .ok (.iconst 1, 1) := by decide +kernel
theorem d_Mod_flow_105 : decode b_Mod_flow 105 = .ok (.iadd, 1) := by decide +kernel
theorem d_Mod_flow_106 : decode b_Mod_flow 106 = .ok (.iaload, 1) := by decide +kernel
theorem d_Mod_flow_107 : decode b_Mod_flow 107 = .ok (.istore 4, 2) := by decide +kernel
theorem d_Mod_flow_109 : decode b_Mod_flow 109 = .ok (.aload_n 0, 1) := by decide +kernel
theorem d_Mod_flow_110 : decode b_Mod_flow 110 = .ok (.getfield 97, 3) := by decide +kernel
theorem d_Mod_flow_113 : decode b_Mod_flow 113 = .ok (.iload_n 2, 1) := by decide +kernel
theorem d_Mod_flow_114 : decode b_Mod_flow 114 = .ok (.laload, 1) := by decide +kernel
theorem d_Mod_flow_115 : decode b_Mod_flow 115 = .ok (.aload_n 0, 1) := by decide +kernel
theorem d_Mod_flow_116 : decode b_Mod_flow 116 = .ok (.getfield 97, 3) := by decide +kernel
theorem d_Mod_flow_119 : decode b_Mod_flow 119 = .ok (.iload_n 2, 1) := by decide +kernel
theorem d_Mod_flow_120 : decode b_Mod_flow 120 = .ok (.iconst 1, 1) := by decide +kernel
theorem d_Mod_flow_121 : decode b_Mod_flow 121 = .ok (.iadd, 1) := by decide +kernel
theorem d_Mod_flow_122 : decode b_Mod_flow 122 = .ok (.laload, 1) := by decide +kernel
theorem d_Mod_flow_123 : decode b_Mod_flow 123 = .ok (.lsub, 1) := by decide +kernel
theorem d_Mod_flow_124 : decode b_Mod_flow 124 = .ok (.aload_n 0, 1) := by decide +kernel
theorem d_Mod_flow_125 : decode b_Mod_flow 125 = .ok (.getfield 19, 3) := by decide +kernel
theorem d_Mod_flow_128 : decode b_Mod_flow 128 = .ok (.iload_n 3, 1) := by decide +kernel
theorem d_Mod_flow_129 : decode b_Mod_flow 129 = .ok (.iaload, 1) := by decide +kernel
theorem d_Mod_flow_130 : decode b_Mod_flow 130 = .ok (.aload_n 0, 1) := by decide +kernel
theorem d_Mod_flow_131 : decode b_Mod_flow 131 = .ok (.getfield 19, 3) := by decide +kernel
theorem d_Mod_flow_134 : decode b_Mod_flow 134 = .ok (.iload 4, 2) := by decide +kernel
theorem d_Mod_flow_136 : decode b_Mod_flow 136 = .ok (.iaload, 1) := by decide +kernel
theorem d_Mod_flow_137 : decode b_Mod_flow 137 = .ok (.if_icmp .ge 12, 3) := by decide +kernel
theorem d_Mod_flow_140 : decode b_Mod_flow 140 = .ok (.aload_n 0, 1) := by decide +kernel
theorem d_Mod_flow_141 : decode b_Mod_flow 141 = .ok (.getfield 19, 3) := by decide +kernel
theorem d_Mod_flow_144 : decode b_Mod_flow 144 = .ok (.iload_n 3, 1) := by decide +kernel
theorem d_Mod_flow_145 : decode b_Mod_flow 145 = .ok (.iaload, 1) := by decide +kernel
theorem d_Mod_flow_146 : decode b_Mod_flow 146 = .ok (.goto 10, 3) := by decide +kernel
theorem d_Mod_flow_149 : decode b_Mod_flow 149 = .ok (.aload_n 0, 1) := by decide +kernel
theorem d_Mod_flow_150 : decode b_Mod_flow 150 = .ok (.getfield 19, 3) := by decide +kernel
theorem d_Mod_flow_153 : decode b_Mod_flow 153 = .ok (.iload 4, 2) := by decide +kernel
theorem d_Mod_flow_155 : decode b_Mod_flow 155 = .ok (.iaload, 1) := by decide +kernel
theorem d_Mod_flow_156 : decode b_Mod_flow 156 = .ok (.i2l, 1) := by decide +kernel
theorem d_Mod_flow_157 : decode b_Mod_flow 157 = .ok (.lmul, 1) := by decide +kernel
theorem d_Mod_flow_158 : decode b_Mod_flow 158 = .ok (.ldc2_w 150, 3) := by decide +kernel
theorem d_Mod_flow_161 : decode b_Mod_flow 161 = .ok (.ldiv, 1) := by decide +kernel
theorem d_Mod_flow_162 : decode b_Mod_flow 162 = .ok (.lstore 5, 2) := by decide +kernel
theorem d_Mod_flow_164 : decode b_Mod_flow 164 = .ok (.aload_n 0, 1) := by decide +kernel
theorem d_Mod_flow_165 : decode b_Mod_flow 165 = .ok (.getfield 100, 3) := by decide +kernel
theorem d_Mod_flow_168 : decode b_Mod_flow 168 = .ok (.iload_n 2, 1) := by decide +kernel
theorem d_Mod_flow_169 : decode b_Mod_flow 169 = .ok (.iaload, 1) := by decide +kernel
theorem d_Mod_flow_170 : decode b_Mod_flow 170 = .ok (.aload_n 0, 1) := by decide +kernel
theorem d_Mod_flow_171 : decode b_Mod_flow 171 = .ok (.getfield 100, 3) := by decide +kernel
theorem d_Mod_flow_174 : decode b_Mod_flow 174 = .ok (.iload_n 2, 1) := by decide +kernel
theorem d_Mod_flow_175 : decode b_Mod_flow 175 = .ok (.iconst 1, 1) := by decide +kernel
theorem d_Mod_flow_176 : decode b_Mod_flow 176 = .ok (.iadd, 1) := by decide +kernel
theorem d_Mod_flow_177 : decode b_Mod_flow 177 = .ok (.iaload, 1) := by decide +kernel
theorem d_Mod_flow_178 : decode b_Mod_flow 178 = .ok (.isub, 1) := by decide +kernel
theorem d_Mod_flow_179 : decode b_Mod_flow 179 = .ok (.i2l, 1) := by decide +kernel
theorem d_Mod_flow_180 : decode b_Mod_flow 180 = .ok (.aload_n 0, 1) := by decide +kernel
theorem d_Mod_flow_181 : decode b_Mod_flow 181 = .ok (.getfield 22, 3) := by decide +kernel
theorem d_Mod_flow_184 : decode b_Mod_flow 184 = .ok (.iload_n 3, 1) := by decide +kernel
theorem d_Mod_flow_185 : decode b_Mod_flow 185 = .ok (.iaload, 1) := by decide +kernel
theorem d_Mod_flow_186 : decode b_Mod_flow 186 = .ok (.aload_n 0, 1) := by decide +kernel
theorem d_Mod_flow_187 : decode b_Mod_flow 187 = .ok (.getfield 22, 3) := by decide +kernel
theorem d_Mod_flow_190 : decode b_Mod_flow 190 = .ok (.iload 4, 2) := by decide +kernel
theorem d_Mod_flow_192 : decode b_Mod_flow 192 = .ok (.iaload, 1) := by decide +kernel
theorem d_Mod_flow_193 : decode b_Mod_flow 193 = .ok (.if_icmp .ge 12, 3) := by decide +kernel
theorem d_Mod_flow_196 : decode b_Mod_flow 196 = .ok (.aload_n 0, 1) := by decide +kernel
theorem d_Mod_flow_197 : decode b_Mod_flow 197 = .ok (.getfield 22, 3) := by decide +kernel
theorem d_Mod_flow_200 : decode b_Mod_flow 200 = .ok (.iload_n 3, 1) := by decide +kernel
theorem d_Mod_flow_201 : decode b_Mod_flow 201 = .ok (.iaload, 1) := by decide +kernel
theorem d_Mod_flow_202 : decode b_Mod_flow 202 = .ok (.goto 10, 3) := by decide +kernel
theorem d_Mod_flow_205 : decode b_Mod_flow 205 = .ok (.aload_n 0, 1) := by decide +kernel
theorem d_Mod_flow_206 : decode b_Mod_flow 206 = .ok (.getfield 22, 3) := by decide +kernel
theorem d_Mod_flow_209 : decode b_Mod_flow 209 = .ok (.iload 4, 2) := by decide +kernel
theorem d_Mod_flow_211 : decode b_Mod_flow 211 = .ok (.iaload, 1) := by decide +kernel
theorem d_Mod_flow_212 : decode b_Mod_flow 212 = .ok (.i2l, 1) := by decide +kernel
theorem d_Mod_flow_213 : decode b_Mod_flow 213 = .ok (.lmul, 1) := by decide +kernel
theorem d_Mod_flow_214 : decode b_Mod_flow 214 = .ok (.ldc2_w 150, 3) := by decide +kernel
theorem d_Mod_flow_217 : decode b_Mod_flow 217 = .ok (.ldiv, 1) := by decide +kernel
theorem d_Mod_flow_218 : decode b_Mod_flow 218 = .ok (.lstore 7, 2) := by decide +kernel
theorem d_Mod_flow_220 : decode b_Mod_flow 220 = .ok (.aload_n 0, 1) := by decide +kernel
theorem d_Mod_flow_221 : decode b_Mod_flow 221 = .ok (.getfield 103, 3) := by decide +kernel
theorem d_Mod_flow_224 : decode b_Mod_flow 224 = .ok (.bipush 6, 2) := by decide +kernel
theorem d_Mod_flow_226 : decode b_Mod_flow 226 = .ok (.iload_n 2, 1) := by decide +kernel
theorem d_Mod_flow_227 : decode b_Mod_flow 227 = .ok (.iconst 1, 1) := by decide +kernel
theorem d_Mod_flow_228 : decode b_Mod_flow 228 = .ok (.iadd, 1) := by decide +kernel
theorem d_Mod_flow_229 : decode b_Mod_flow 229 = .ok (.imul, 1) := by decide +kernel
theorem d_Mod_flow_230 : decode b_Mod_flow 230 = .ok (.lload 5, 2) := by decide +kernel
theorem d_Mod_flow_232 : decode b_Mod_flow 232 = .ok (.lload 7, 2) := by decide +kernel
theorem d_Mod_flow_234 : decode b_Mod_flow 234 = .ok (.ladd, 1) := by decide +kernel
theorem d_Mod_flow_235 : decode b_Mod_flow 235 = .ok (.lconst 0, 1) := by decide +kernel
theorem d_Mod_flow_236 : decode b_Mod_flow 236 = .ok (.lcmp, 1) := by decide +kernel
theorem d_Mod_flow_237 : decode b_Mod_flow 237 = .ok (.ifCond .le 11, 3) := by decide +kernel
theorem d_Mod_flow_240 : decode b_Mod_flow 240 = .ok (.lload 5, 2) := by decide +kernel
theorem d_Mod_flow_242 : decode b_Mod_flow 242 = .ok (.lload 7, 2) := by decide +kernel
theorem d_Mod_flow_244 : decode b_Mod_flow 244 = .ok (.ladd, 1) := by decide +kernel
theorem d_Mod_flow_245 : decode b_Mod_flow 245 = .ok (.goto 4, 3) := by decide +kernel
theorem d_Mod_flow_248 : decode b_Mod_flow 248 = .ok (.lconst 0, 1) := by decide +kernel
theorem d_Mod_flow_249 : decode b_Mod_flow 249 = .ok (.lastore, 1) := by decide +kernel
theorem d_Mod_flow_250 : decode b_Mod_flow 250 = .ok (.aload_n 0, 1) := by decide +kernel
theorem d_Mod_flow_251 : decode b_Mod_flow 251 = .ok (.getfield 103, 3) := by decide +kernel
theorem d_Mod_flow_254 : decode b_Mod_flow 254 = .ok (.bipush 6, 2) := by decide +kernel
theorem d_Mod_flow_256 : decode b_Mod_flow 256 = .ok (.iload_n 2, 1) := by decide +kernel
theorem d_Mod_flow_257 : decode b_Mod_flow 257 = .ok (.imul, 1) := by decide +kernel
theorem d_Mod_flow_258 : decode b_Mod_flow 258 = .ok (.iconst 1, 1) := by decide +kernel
theorem d_Mod_flow_259 : decode b_Mod_flow 259 = .ok (.iadd, 1) := by decide +kernel
theorem d_Mod_flow_260 : decode b_Mod_flow 260 = .ok (.lload 5, 2) := by decide +kernel
theorem d_Mod_flow_262 : decode b_Mod_flow 262 = .ok (.lload 7, 2) := by decide +kernel
theorem d_Mod_flow_264 : decode b_Mod_flow 264 = .ok (.ladd, 1) := by decide +kernel
theorem d_Mod_flow_265 : decode b_Mod_flow 265 = .ok (.lconst 0, 1) := by decide +kernel
theorem d_Mod_flow_266 : decode b_Mod_flow 266 = .ok (.lcmp, 1) := by decide +kernel
theorem d_Mod_flow_267 : decode b_Mod_flow 267 = .ok (.ifCond .ge 12, 3) := by decide +kernel
theorem d_Mod_flow_270 : decode b_Mod_flow 270 = .ok (.lload 5, 2) := by decide +kernel
theorem d_Mod_flow_272 : decode b_Mod_flow 272 = .ok (.lneg, 1) := by decide +kernel
theorem d_Mod_flow_273 : decode b_Mod_flow 273 = .ok (.lload 7, 2) := by decide +kernel
theorem d_Mod_flow_275 : decode b_Mod_flow 275 = .ok (.lsub, 1) := by decide +kernel
theorem d_Mod_flow_276 : decode b_Mod_flow 276 = .ok (.goto 4, 3) := by decide +kernel
theorem d_Mod_flow_279 : decode b_Mod_flow 279 = .ok (.lconst 0, 1) := by decide +kernel
theorem d_Mod_flow_280 : decode b_Mod_flow 280 = .ok (.lastore, 1) := by decide +kernel
theorem d_Mod_flow_281 : decode b_Mod_flow 281 = .ok (.iinc 2 1, 3) := by decide +kernel
theorem d_Mod_flow_284 : decode b_Mod_flow 284 = .ok (.goto (-202), 3) := by decide +kernel
theorem d_Mod_flow_287 : decode b_Mod_flow 287 = .ok (.aload_n 0, 1) := by decide +kernel
theorem d_Mod_flow_288 : decode b_Mod_flow 288 = .ok (.aload_n 0, 1) := by decide +kernel
theorem d_Mod_flow_289 : decode b_Mod_flow 289 = .ok (.getfield 67, 3) := by decide +kernel
theorem d_Mod_flow_292 : decode b_Mod_flow 292 = .ok (.iload_n 1, 1) := by decide +kernel
theorem d_Mod_flow_293 : decode b_Mod_flow 293 = .ok (.iaload, 1) := by decide +kernel
theorem d_Mod_flow_294 : decode b_Mod_flow 294 = .ok (.aload_n 0, 1) := by decide +kernel
theorem d_Mod_flow_295 : decode b_Mod_flow 295 = .ok (.getfield 76, 3) := by decide +kernel
theorem d_Mod_flow_298 : decode b_Mod_flow 298 = .ok (.iload_n 1, 1) := by decide +kernel
theorem d_Mod_flow_299 : decode b_Mod_flow 299 = .ok (.iaload, 1) := by decide +kernel
theorem d_Mod_flow_300 : decode b_Mod_flow 300 = .ok (.iadd, 1) := by decide +kernel
theorem d_Mod_flow_301 : decode b_Mod_flow 301 = .ok (.invokevirtual 167, 3) := by decide +kernel
theorem d_Mod_flow_304 : decode b_Mod_flow 304 = .ok (.i2l, 1) := by decide +kernel
theorem d_Mod_flow_305 : decode b_Mod_flow 305 = .ok (.aload_n 0, 1) := by decide +kernel
theorem d_Mod_flow_306 : decode b_Mod_flow 306 = .ok (.getfield 70, 3) := by decide +kernel
theorem d_Mod_flow_309 : decode b_Mod_flow 309 = .ok (.iload_n 1, 1) := by decide +kernel
theorem d_Mod_flow_310 : decode b_Mod_flow 310 = .ok (.iaload, 1) := by decide +kernel
theorem d_Mod_flow_311 : decode b_Mod_flow 311 = .ok (.i2l, 1) := by decide +kernel
theorem d_Mod_flow_312 : decode b_Mod_flow 312 = .ok (.invokestatic 189, 3) := by decide +kernel
theorem d_Mod_flow_315 : decode b_Mod_flow 315 = .ok (.lstore_n 2, 1) := by decide +kernel
theorem d_Mod_flow_316 : decode b_Mod_flow 316 = .ok (.lload_n 2, 1) := by decide +kernel
theorem d_Mod_flow_317 : decode b_Mod_flow 317 = .ok (.aload_n 0, 1) := by decide +kernel
theorem d_Mod_flow_318 : decode b_Mod_flow 318 = .ok (.getfield 97, 3) := by decide +kernel
theorem d_Mod_flow_321 : decode b_Mod_flow 321 = .ok (.iconst 0, 1) := by decide +kernel
theorem d_Mod_flow_322 : decode b_Mod_flow 322 = .ok (.laload, 1) := by decide +kernel
theorem d_Mod_flow_323 : decode b_Mod_flow 323 = .ok (.lsub, 1) := by decide +kernel
theorem d_Mod_flow_324 : decode b_Mod_flow 324 = .ok (.aload_n 0, 1) := by decide +kernel
theorem d_Mod_flow_325 : decode b_Mod_flow 325 = .ok (.getfield 19, 3) := by decide +kernel
theorem d_Mod_flow_328 : decode b_Mod_flow 328 = .ok (.aload_n 0, 1) := by decide +kernel
theorem d_Mod_flow_329 : decode b_Mod_flow 329 = .ok (.getfield 28, 3) := by decide +kernel
theorem d_Mod_flow_332 : decode b_Mod_flow 332 = .ok (.iconst 0, 1) := by decide +kernel
theorem d_Mod_flow_333 : decode b_Mod_flow 333 = .ok (.iaload, 1) := by decide +kernel
theorem d_Mod_flow_334 : decode b_Mod_flow 334 = .ok (.iaload, 1) := by decide +kernel
theorem d_Mod_flow_335 : decode b_Mod_flow 335 = .ok (.i2l, 1) := by decide +kernel
theorem d_Mod_flow_336 : decode b_Mod_flow 336 = .ok (.lmul, 1) := by decide +kernel
theorem d_Mod_flow_337 : decode b_Mod_flow 337 = .ok (.ldc2_w 150, 3) := by decide +kernel
theorem d_Mod_flow_340 : decode b_Mod_flow 340 = .ok (.ldiv, 1) := by decide +kernel
theorem d_Mod_flow_341 : decode b_Mod_flow 341 = .ok (.lstore 4, 2) := by decide +kernel
theorem d_Mod_flow_343 : decode b_Mod_flow 343 = .ok (.aload_n 0, 1) := by decide +kernel
theorem d_Mod_flow_344 : decode b_Mod_flow 344 = .ok (.getfield 103, 3) := by decide +kernel
theorem d_Mod_flow_347 : decode b_Mod_flow 347 = .ok (.iconst 2, 1) := by decide +kernel
theorem d_Mod_flow_348 : decode b_Mod_flow 348 = .ok (.lload 4, 2) := by decide +kernel
theorem d_Mod_flow_350 : decode b_Mod_flow 350 = .ok (.lconst 0, 1) := by decide +kernel
theorem d_Mod_flow_351 : decode b_Mod_flow 351 = .ok (.lcmp, 1) := by decide +kernel
theorem d_Mod_flow_352 : decode b_Mod_flow 352 = .ok (.ifCond .le 8, 3) := by decide +kernel
theorem d_Mod_flow_355 : decode b_Mod_flow 355 = .ok (.lload 4, 2) := by decide +kernel
theorem d_Mod_flow_357 : decode b_Mod_flow 357 = .ok (.goto 4, 3) := by decide +kernel
theorem d_Mod_flow_360 : decode b_Mod_flow 360 = .ok (.lconst 0, 1) := by decide +kernel
theorem d_Mod_flow_361 : decode b_Mod_flow 361 = .ok (.lastore, 1) := by decide +kernel
theorem d_Mod_flow_362 : decode b_Mod_flow 362 = .ok (.aload_n 0, 1) := by decide +kernel
theorem d_Mod_flow_363 : decode b_Mod_flow 363 = .ok (.lload 4, 2) := by decide +kernel
theorem d_Mod_flow_365 : decode b_Mod_flow 365 = .ok (.lconst 0, 1) := by decide +kernel
theorem d_Mod_flow_366 : decode b_Mod_flow 366 = .ok (.lcmp, 1) := by decide +kernel
theorem d_Mod_flow_367 : decode b_Mod_flow 367 = .ok (.ifCond .ge 9, 3) := by decide +kernel
theorem d_Mod_flow_370 : decode b_Mod_flow 370 = .ok (.lload 4, 2) := by decide +kernel
theorem d_Mod_flow_372 : decode b_Mod_flow 372 = .ok (.lneg, 1) := by decide +kernel
theorem d_Mod_flow_373 : decode b_Mod_flow 373 = .ok (.goto 4, 3) := by decide +kernel
theorem d_Mod_flow_376 : decode b_Mod_flow 376 = .ok (.lconst 0, 1) := by decide +kernel
theorem d_Mod_flow_377 : decode b_Mod_flow 377 = .ok (.putfield 192, 3) := by decide +kernel
theorem d_Mod_flow_380 : decode b_Mod_flow 380 = .ok (.aload_n 0, 1) := by decide +kernel
theorem d_Mod_flow_381 : decode b_Mod_flow 381 = .ok (.getfield 103, 3) := by decide +kernel
theorem d_Mod_flow_384 : decode b_Mod_flow 384 = .ok (.iconst 3, 1) := by decide +kernel
theorem d_Mod_flow_385 : decode b_Mod_flow 385 = .ok (.aload_n 0, 1) := by decide +kernel
theorem d_Mod_flow_386 : decode b_Mod_flow 386 = .ok (.getfield 73, 3) := by decide +kernel
theorem d_Mod_flow_389 : decode b_Mod_flow 389 = .ok (.iload_n 1, 1) := by decide +kernel
theorem d_Mod_flow_390 : decode b_Mod_flow 390 = .ok (.iaload, 1) := by decide +kernel
theorem d_Mod_flow_391 : decode b_Mod_flow 391 = .ok (.i2l, 1) := by decide +kernel
theorem d_Mod_flow_392 : decode b_Mod_flow 392 = .ok (.aload_n 0, 1) := by decide +kernel
theorem d_Mod_flow_393 : decode b_Mod_flow 393 = .ok (.getfield 22, 3) := by decide +kernel
theorem d_Mod_flow_396 : decode b_Mod_flow 396 = .ok (.aload_n 0, 1) := by decide +kernel
theorem d_Mod_flow_397 : decode b_Mod_flow 397 = .ok (.getfield 28, 3) := by decide +kernel
theorem d_Mod_flow_400 : decode b_Mod_flow 400 = .ok (.iconst 0, 1) := by decide +kernel
theorem d_Mod_flow_401 : decode b_Mod_flow 401 = .ok (.iaload, 1) := by decide +kernel
theorem d_Mod_flow_402 : decode b_Mod_flow 402 = .ok (.iaload, 1) := by decide +kernel
theorem d_Mod_flow_403 : decode b_Mod_flow 403 = .ok (.i2l, 1) := by decide +kernel
theorem d_Mod_flow_404 : decode b_Mod_flow 404 = .ok (.lmul, 1) := by decide +kernel
theorem d_Mod_flow_405 : decode b_Mod_flow 405 = .ok (.ldc2_w 195, 3) := by decide +kernel
theorem d_Mod_flow_408 : decode b_Mod_flow 408 = .ok (.ldiv, 1) := by decide +kernel
theorem d_Mod_flow_409 : decode b_Mod_flow 409 = .ok (.lastore, 1) := by decide +kernel
theorem d_Mod_flow_410 : decode b_Mod_flow 410 = .ok (.aload_n 0, 1) := by decide +kernel
theorem d_Mod_flow_411 : decode b_Mod_flow 411 = .ok (.aload_n 0, 1) := by decide +kernel
theorem d_Mod_flow_412 : decode b_Mod_flow 412 = .ok (.getfield 79, 3) := by decide +kernel
theorem d_Mod_flow_415 : decode b_Mod_flow 415 = .ok (.iload_n 1, 1) := by decide +kernel
theorem d_Mod_flow_416 : decode b_Mod_flow 416 = .ok (.iaload, 1) := by decide +kernel
theorem d_Mod_flow_417 : decode b_Mod_flow 417 = .ok (.invokevirtual 167, 3) := by decide +kernel
theorem d_Mod_flow_420 : decode b_Mod_flow 420 = .ok (.i2l, 1) := by decide +kernel
theorem d_Mod_flow_421 : decode b_Mod_flow 421 = .ok (.aload_n 0, 1) := by decide +kernel
theorem d_Mod_flow_422 : decode b_Mod_flow 422 = .ok (.getfield 82, 3) := by decide +kernel
theorem d_Mod_flow_425 : decode b_Mod_flow 425 = .ok (.iload_n 1, 1) := by decide +kernel
theorem d_Mod_flow_426 : decode b_Mod_flow 426 = .ok (.iaload, 1) := by decide +kernel
theorem d_Mod_flow_427 : decode b_Mod_flow 427 = .ok (.i2l, 1) := by decide +kernel
theorem d_Mod_flow_428 : decode b_Mod_flow 428 = .ok (.invokestatic 189, 3) := by decide +kernel
theorem d_Mod_flow_431 : decode b_Mod_flow 431 = .ok (.lstore 6, 2) := by decide +kernel
theorem d_Mod_flow_433 : decode b_Mod_flow 433 = .ok (.aload_n 0, 1) := by decide +kernel
theorem d_Mod_flow_434 : decode b_Mod_flow 434 = .ok (.getfield 127, 3) := by decide +kernel
theorem d_Mod_flow_437 : decode b_Mod_flow 437 = .ok (.iconst 1, 1) := by decide +kernel
theorem d_Mod_flow_438 : decode b_Mod_flow 438 = .ok (.isub, 1) := by decide +kernel
theorem d_Mod_flow_439 : decode b_Mod_flow 439 = .ok (.istore 8, 2) := by decide +kernel
theorem d_Mod_flow_441 : decode b_Mod_flow 441 = .ok (.lload 6, 2) := by decide +kernel
theorem d_Mod_flow_443 : decode b_Mod_flow 443 = .ok (.aload_n 0, 1) := by decide +kernel
theorem d_Mod_flow_444 : decode b_Mod_flow 444 = .ok (.getfield 97, 3) := by decide +kernel
theorem d_Mod_flow_447 : decode b_Mod_flow 447 = .ok (.iload 8, 2) := by decide +kernel
theorem d_Mod_flow_449 : decode b_Mod_flow 449 = .ok (.laload, 1) := by decide +kernel
theorem d_Mod_flow_450 : decode b_Mod_flow 450 = .ok (.lsub, 1) := by decide +kernel
theorem d_Mod_flow_451 : decode b_Mod_flow 451 = .ok (.aload_n 0, 1) := by decide +kernel
theorem d_Mod_flow_452 : decode b_Mod_flow 452 = .ok (.getfield 19, 3) := by decide +kernel
theorem d_Mod_flow_455 : decode b_Mod_flow 455 = .ok (.aload_n 0, 1) := by decide +kernel
theorem d_Mod_flow_456 : decode b_Mod_flow 456 = .ok (.getfield 28, 3) := by decide +kernel
theorem d_Mod_flow_459 : decode b_Mod_flow 459 = .ok (.iload 8, 2) := by decide +kernel
theorem d_Mod_flow_461 : decode b_Mod_flow 461 = .ok (.iaload, 1) := by decide +kernel
theorem d_Mod_flow_462 : decode b_Mod_flow 462 = .ok (.iaload, 1) := by decide +kernel
theorem d_Mod_flow_463 : decode b_Mod_flow 463 = .ok (.i2l, 1) := by decide +kernel
theorem d_Mod_flow_464 : decode b_Mod_flow 464 = .ok (.lmul, 1) := by decide +kernel
theorem d_Mod_flow_465 : decode b_Mod_flow 465 = .ok (.ldc2_w 150, 3) := by decide +kernel
theorem d_Mod_flow_468 : decode b_Mod_flow 468 = .ok (.ldiv, 1) := by decide +kernel
theorem d_Mod_flow_469 : decode b_Mod_flow 469 = .ok (.lstore 9, 2) := by decide +kernel
theorem d_Mod_flow_471 : decode b_Mod_flow 471 = .ok (.aload_n 0, 1) := by decide +kernel
theorem d_Mod_flow_472 : decode b_Mod_flow 472 = .ok (.getfield 103, 3) := by decide +kernel
theorem d_Mod_flow_475 : decode b_Mod_flow 475 = .ok (.bipush 6, 2) := by decide +kernel
theorem d_Mod_flow_477 : decode b_Mod_flow 477 = .ok (.iload 8, 2) := by decide +kernel
theorem d_Mod_flow_479 : decode b_Mod_flow 479 = .ok (.imul, 1) := by decide +kernel
theorem d_Mod_flow_480 : decode b_Mod_flow 480 = .ok (.iconst 4, 1) := by decide +kernel
theorem d_Mod_flow_481 : decode b_Mod_flow 481 = .ok (.iadd, 1) := by decide +kernel
theorem d_Mod_flow_482 : decode b_Mod_flow 482 = .ok (.lload 9, 2) := by decide +kernel
theorem d_Mod_flow_484 : decode b_Mod_flow 484 = .ok (.lconst 0, 1) := by decide +kernel
theorem d_Mod_flow_485 : decode b_Mod_flow 485 = .ok (.lcmp, 1) := by decide +kernel
theorem d_Mod_flow_486 : decode b_Mod_flow 486 = .ok (.ifCond .le 8, 3) := by decide +kernel
theorem d_Mod_flow_489 : decode b_Mod_flow 489 = .ok (.lload 9, 2) := by decide +kernel
theorem d_Mod_flow_491 : decode b_Mod_flow 491 = .ok (.goto 4, 3) := by decide +kernel
theorem d_Mod_flow_494 : decode b_Mod_flow 494 = .ok (.lconst 0, 1) := by decide +kernel
theorem d_Mod_flow_495 : decode b_Mod_flow 495 = .ok (.lastore, 1) := by decide +kernel
theorem d_Mod_flow_496 : decode b_Mod_flow 496 = .ok (.aload_n 0, 1) := by decide +kernel
theorem d_Mod_flow_497 : decode b_Mod_flow 497 = .ok (.lload 9, 2) := by decide +kernel
theorem d_Mod_flow_499 : decode b_Mod_flow 499 = .ok (.lconst 0, 1) := by decide +kernel
theorem d_Mod_flow_500 : decode b_Mod_flow 500 = .ok (.lcmp, 1) := by decide +kernel
theorem d_Mod_flow_501 : decode b_Mod_flow 501 = .ok (.ifCond .ge 9, 3) := by decide +kernel
theorem d_Mod_flow_504 : decode b_Mod_flow 504 = .ok (.lload 9, 2) := by decide +kernel
theorem d_Mod_flow_506 : decode b_Mod_flow 506 = .ok (.lneg, 1) := by decide +kernel
theorem d_Mod_flow_507 : decode b_Mod_flow 507 = .ok (.goto 4, 3) := by decide +kernel
theorem d_Mod_flow_510 : decode b_Mod_flow 510 = .ok (.lconst 0, 1) := by decide +kernel
theorem d_Mod_flow_511 : decode b_Mod_flow 511 = .ok (.putfield 197, 3) := by decide +kernel
theorem d_Mod_flow_514 : decode b_Mod_flow 514 = .ok (.iconst 0, 1) := by decide +kernel
theorem d_Mod_flow_515 : decode b_Mod_flow 515 = .ok (.istore 11, 2) := by decide +kernel
theorem d_Mod_flow_517 : decode b_Mod_flow 517 = .ok (.iload 11, 2) := by decide +kernel
theorem d_Mod_flow_519 : decode b_Mod_flow 519 = .ok (.aload_n 0, 1) := by decide +kernel
theorem d_Mod_flow_520 : decode b_Mod_flow 520 = .ok (.getfield 127, 3) := by decide +kernel
theorem d_Mod_flow_523 : decode b_Mod_flow 523 = .ok (.if_icmp .ge 61, 3) := by decide +kernel
theorem d_Mod_flow_526 : decode b_Mod_flow 526 = .ok (.aload_n 0, 1) := by decide +kernel
theorem d_Mod_flow_527 : decode b_Mod_flow 527 = .ok (.getfield 103, 3) := by decide +kernel
theorem d_Mod_flow_530 : decode b_Mod_flow 530 = .ok (.bipush 6, 2) := by decide +kernel
theorem d_Mod_flow_532 : decode b_Mod_flow 532 = .ok (.iload 11, 2) := by decide +kernel
theorem d_Mod_flow_534 : decode b_Mod_flow 534 = .ok (.imul, 1) := by decide +kernel
theorem d_Mod_flow_535 : decode b_Mod_flow 535 = .ok (.iconst 5, 1) := by decide +kernel
theorem d_Mod_flow_536 : decode b_Mod_flow 536 = .ok (.iadd, 1) := by decide +kernel
theorem d_Mod_flow_537 : decode b_Mod_flow 537 = .ok (.lload 6, 2) := by decide +kernel
theorem d_Mod_flow_539 : decode b_Mod_flow 539 = .ok (.aload_n 0, 1) := by decide +kernel
theorem d_Mod_flow_540 : decode b_Mod_flow 540 = .ok (.getfield 97, 3) := by decide +kernel
theorem d_Mod_flow_543 : decode b_Mod_flow 543 = .ok (.iload 11, 2) := by decide +kernel
theorem d_Mod_flow_545 : decode b_Mod_flow 545 = .ok (.laload, 1) := by decide +kernel
theorem d_Mod_flow_546 : decode b_Mod_flow 546 = .ok (.lcmp, 1) := by decide +kernel
theorem d_Mod_flow_547 : decode b_Mod_flow 547 = .ok (.ifCond .le 29, 3) := by decide +kernel
theorem d_Mod_flow_550 : decode b_Mod_flow 550 = .ok (.lload 6, 2) := by decide +kernel
theorem d_Mod_flow_552 : decode b_Mod_flow 552 = .ok (.aload_n 0, 1) := by decide +kernel
theorem d_Mod_flow_553 : decode b_Mod_flow 553 = .ok (.getfield 97, 3) := by decide +kernel
theorem d_Mod_flow_556 : decode b_Mod_flow 556 = .ok (.iload 11, 2) := by decide +kernel
theorem d_Mod_flow_558 : decode b_Mod_flow 558 = .ok (.laload, 1) := by decide +kernel
theorem d_Mod_flow_559 : decode b_Mod_flow 559 = .ok (.lsub, 1) := by decide +kernel
theorem d_Mod_flow_560 : decode b_Mod_flow 560 = .ok (.aload_n 0, 1) := by decide +kernel
theorem d_Mod_flow_561 : decode b_Mod_flow 561 = .ok (.getfield 38, 3) := by decide +kernel
theorem d_Mod_flow_564 : decode b_Mod_flow 564 = .ok (.iload 11, 2) := by decide +kernel
theorem d_Mod_flow_566 : decode b_Mod_flow 566 = .ok (.iaload, 1) := by decide +kernel
theorem d_Mod_flow_567 : decode b_Mod_flow 567 = .ok (.i2l, 1) := by decide +kernel
theorem d_Mod_flow_568 : decode b_Mod_flow 568 = .ok (.lmul, 1) := by decide +kernel
theorem d_Mod_flow_569 : decode b_Mod_flow 569 = .ok (.ldc2_w 150, 3) := by decide +kernel
theorem d_Mod_flow_572 : decode b_Mod_flow 572 = .ok (.ldiv, 1) := by decide +kernel
theorem d_Mod_flow_573 : decode b_Mod_flow 573 = .ok (.goto 4, 3) := by decide +kernel
theorem d_Mod_flow_576 : decode b_Mod_flow 576 = .ok (.lconst 0, 1) := by decide +kernel
theorem d_Mod_flow_577 : decode b_Mod_flow 577 = .ok (.lastore, 1) := by decide +kernel
theorem d_Mod_flow_578 : decode b_Mod_flow 578 = .ok (.iinc 11 1, 3) := by decide +kernel
theorem d_Mod_flow_581 : decode b_Mod_flow 581 = .ok (.goto (-64), 3) := by decide +kernel
theorem d_Mod_flow_584 : decode b_Mod_flow 584 = .ok (.return_, 1) := by decide +kernel
abbrev b_Mod_lessenLeaving : ByteArray := prog_13_method_24_code
def y_Mod_lessenLeaving : MethodName := ⟨"WallDampModel", "lessenLeaving", "(I)V"⟩
def ws_Mod_lessenLeaving : List Cond := .code y_Mod_lessenLeaving b_Mod_lessenLeaving 12 none :: x_tb
theorem pd_Mod_lessenLeaving : y_Mod_lessenLeaving.cls ≠ "java/lang/invoke/MethodHandle" ∧ y_Mod_lessenLeaving.cls ≠ "java/lang/invoke/VarHandle" ∧ (parseMethodDescriptor y_Mod_lessenLeaving.desc).map (fun d => d.parameters.length) = some 1 := by decide +kernel
theorem d_Mod_lessenLeaving_0 : decode b_Mod_lessenLeaving 0 = .ok (.iload_n 1, 1) := by decide +kernel
theorem d_Mod_lessenLeaving_1 : decode b_Mod_lessenLeaving 1 = .ok (.iconst 1, 1) := by decide +kernel
theorem d_Mod_lessenLeaving_2 : decode b_Mod_lessenLeaving 2 = .ok (.iadd, 1) := by decide +kernel
theorem d_Mod_lessenLeaving_3 : decode b_Mod_lessenLeaving 3 = .ok (.aload_n 0, 1) := by decide +kernel
theorem d_Mod_lessenLeaving_4 : decode b_Mod_lessenLeaving 4 = .ok (.getfield 127, 3) := by decide +kernel
theorem d_Mod_lessenLeaving_7 : decode b_Mod_lessenLeaving 7 = .ok (.if_icmp .ge 17, 3) := by decide +kernel
theorem d_Mod_lessenLeaving_10 : decode b_Mod_lessenLeaving 10 = .ok (.aload_n 0, 1) := by decide +kernel
theorem d_Mod_lessenLeaving_11 : decode b_Mod_lessenLeaving 11 = .ok (.getfield 103, 3) := by decide +kernel
theorem d_Mod_lessenLeaving_14 : decode b_Mod_lessenLeaving 14 = .ok (.bipush 6, 2) := by decide +kernel
theorem d_Mod_lessenLeaving_16 : decode b_Mod_lessenLeaving 16 = .ok (.iload_n 1, 1) := by decide +kernel
theorem d_Mod_lessenLeaving_17 : decode b_Mod_lessenLeaving 17 = .ok (.iconst 1, 1) := by decide +kernel
theorem d_Mod_lessenLeaving_18 : decode b_Mod_lessenLeaving 18 = .ok (.iadd, 1) := by decide +kernel
theorem d_Mod_lessenLeaving_19 : decode b_Mod_lessenLeaving 19 = .ok (.imul, 1) := by decide +kernel
theorem d_Mod_lessenLeaving_20 : decode b_Mod_lessenLeaving 20 = .ok (.laload, 1) := by decide +kernel
theorem d_Mod_lessenLeaving_21 : decode b_Mod_lessenLeaving 21 = .ok (.goto 4, 3) := by decide +kernel
theorem d_Mod_lessenLeaving_24 : decode b_Mod_lessenLeaving 24 = .ok (.lconst 0, 1) := by decide +kernel
theorem d_Mod_lessenLeaving_25 : decode b_Mod_lessenLeaving 25 = .ok (.lstore_n 2, 1) := by decide +kernel
theorem d_Mod_lessenLeaving_26 : decode b_Mod_lessenLeaving 26 = .ok (.iload_n 1, 1) := by decide +kernel
theorem d_Mod_lessenLeaving_27 : decode b_Mod_lessenLeaving 27 = .ok (.ifCond .le 19, 3) := by decide +kernel
theorem d_Mod_lessenLeaving_30 : decode b_Mod_lessenLeaving 30 = .ok (.aload_n 0, 1) := by decide +kernel
theorem d_Mod_lessenLeaving_31 : decode b_Mod_lessenLeaving 31 = .ok (.getfield 103, 3) := by decide +kernel
theorem d_Mod_lessenLeaving_34 : decode b_Mod_lessenLeaving 34 = .ok (.bipush 6, 2) := by decide +kernel
theorem d_Mod_lessenLeaving_36 : decode b_Mod_lessenLeaving 36 = .ok (.iload_n 1, 1) := by decide +kernel
theorem d_Mod_lessenLeaving_37 : decode b_Mod_lessenLeaving 37 = .ok (.iconst 1, 1) := by decide +kernel
theorem d_Mod_lessenLeaving_38 : decode b_Mod_lessenLeaving 38 = .ok (.isub, 1) := by decide +kernel
theorem d_Mod_lessenLeaving_39 : decode b_Mod_lessenLeaving 39 = .ok (.imul, 1) := by decide +kernel
theorem d_Mod_lessenLeaving_40 : decode b_Mod_lessenLeaving 40 = .ok (.iconst 1, 1) := by decide +kernel
theorem d_Mod_lessenLeaving_41 : decode b_Mod_lessenLeaving 41 = .ok (.iadd, 1) := by decide +kernel
theorem d_Mod_lessenLeaving_42 : decode b_Mod_lessenLeaving 42 = .ok (.laload, 1) := by decide +kernel
theorem d_Mod_lessenLeaving_43 : decode b_Mod_lessenLeaving 43 = .ok (.goto 4, 3) := by decide +kernel
theorem d_Mod_lessenLeaving_46 : decode b_Mod_lessenLeaving 46 = .ok (.lconst 0, 1) := by decide +kernel
theorem d_Mod_lessenLeaving_47 : decode b_Mod_lessenLeaving 47 = .ok (.lstore 4, 2) := by decide +kernel
theorem d_Mod_lessenLeaving_49 : decode b_Mod_lessenLeaving 49 = .ok (.iload_n 1, 1) := by decide +kernel
theorem d_Mod_lessenLeaving_50 : decode b_Mod_lessenLeaving 50 = .ok (.ifCond .ne 10, 3) := by decide +kernel
theorem d_Mod_lessenLeaving_53 : decode b_Mod_lessenLeaving 53 = .ok (.aload_n 0, 1) := by decide +kernel
theorem d_Mod_lessenLeaving_54 : decode b_Mod_lessenLeaving 54 = .ok (.getfield 192, 3) := by decide +kernel
theorem d_Mod_lessenLeaving_57 : decode b_Mod_lessenLeaving 57 = .ok (.goto 4, 3) := by decide +kernel
theorem d_Mod_lessenLeaving_60 : decode b_Mod_lessenLeaving 60 = .ok (.lconst 0, 1) := by decide +kernel
theorem d_Mod_lessenLeaving_61 : decode b_Mod_lessenLeaving 61 = .ok (.lstore 6, 2) := by decide +kernel
theorem d_Mod_lessenLeaving_63 : decode b_Mod_lessenLeaving 63 = .ok (.iload_n 1, 1) := by decide +kernel
theorem d_Mod_lessenLeaving_64 : decode b_Mod_lessenLeaving 64 = .ok (.aload_n 0, 1) := by decide +kernel
theorem d_Mod_lessenLeaving_65 : decode b_Mod_lessenLeaving 65 = .ok (.getfield 127, 3) := by decide +kernel
theorem d_Mod_lessenLeaving_68 : decode b_Mod_lessenLeaving 68 = .ok (.iconst 1, 1) := by decide +kernel
theorem d_Mod_lessenLeaving_69 : decode b_Mod_lessenLeaving 69 = .ok (.isub, 1) := by decide +kernel
theorem d_Mod_lessenLeaving_70 : decode b_Mod_lessenLeaving 70 = .ok (.if_icmp .ne 10, 3) := by decide +kernel
theorem d_Mod_lessenLeaving_73 : decode b_Mod_lessenLeaving 73 = .ok (.aload_n 0, 1) := by decide +kernel
theorem d_Mod_lessenLeaving_74 : decode b_Mod_lessenLeaving 74 = .ok (.getfield 197, 3) := by decide +kernel
theorem d_Mod_lessenLeaving_77 : decode b_Mod_lessenLeaving 77 = .ok (.goto 4, 3) := by decide +kernel
theorem d_Mod_lessenLeaving_80 : decode b_Mod_lessenLeaving 80 = .ok (.lconst 0, 1) := by decide +kernel
theorem d_Mod_lessenLeaving_81 : decode b_Mod_lessenLeaving 81 = .ok (.lstore 8, 2) := by decide +kernel
theorem d_Mod_lessenLeaving_83 : decode b_Mod_lessenLeaving 83 = .ok (.lload_n 2, 1) := by decide +kernel
theorem d_Mod_lessenLeaving_84 : decode b_Mod_lessenLeaving 84 = .ok (.lload 4, 2) := by decide +kernel
theorem d_Mod_lessenLeaving_86 : decode b_Mod_lessenLeaving 86 = .ok (.ladd, 1) := by decide +kernel
theorem d_Mod_lessenLeaving_87 : decode b_Mod_lessenLeaving 87 = .ok (.lload 6, 2) := by decide +kernel
theorem d_Mod_lessenLeaving_89 : decode b_Mod_lessenLeaving 89 = .ok (.ladd, 1) := by decide +kernel
theorem d_Mod_lessenLeaving_90 : decode b_Mod_lessenLeaving 90 = .ok (.lload 8, 2) := by decide +kernel
theorem d_Mod_lessenLeaving_92 : decode b_Mod_lessenLeaving 92 = .ok (.ladd, 1) := by decide +kernel
theorem d_Mod_lessenLeaving_93 : decode b_Mod_lessenLeaving 93 = .ok (.lstore 10, 2) := by decide +kernel
theorem d_Mod_lessenLeaving_95 : decode b_Mod_lessenLeaving 95 = .ok (.lload 10, 2) := by decide +kernel
theorem d_Mod_lessenLeaving_97 : decode b_Mod_lessenLeaving 97 = .ok (.aload_n 0, 1) := by decide +kernel
theorem d_Mod_lessenLeaving_98 : decode b_Mod_lessenLeaving 98 = .ok (.getfield 34, 3) := by decide +kernel
theorem d_Mod_lessenLeaving_101 : decode b_Mod_lessenLeaving 101 = .ok (.iload_n 1, 1) := by decide +kernel
theorem d_Mod_lessenLeaving_102 : decode b_Mod_lessenLeaving 102 = .ok (.laload, 1) := by decide +kernel
theorem d_Mod_lessenLeaving_103 : decode b_Mod_lessenLeaving 103 = .ok (.lcmp, 1) := by decide +kernel
theorem d_Mod_lessenLeaving_104 : decode b_Mod_lessenLeaving 104 = .ok (.ifCond .le 124, 3) := by decide +kernel
theorem d_Mod_lessenLeaving_107 : decode b_Mod_lessenLeaving 107 = .ok (.iload_n 1, 1) := by decide +kernel
theorem d_Mod_lessenLeaving_108 : decode b_Mod_lessenLeaving 108 = .ok (.iconst 1, 1) := by decide +kernel
theorem d_Mod_lessenLeaving_109 : decode b_Mod_lessenLeaving 109 = .ok (.iadd, 1) := by decide +kernel
theorem d_Mod_lessenLeaving_110 : decode b_Mod_lessenLeaving 110 = .ok (.aload_n 0, 1) := by decide +kernel
theorem d_Mod_lessenLeaving_111 : decode b_Mod_lessenLeaving 111 = .ok (.getfield 127, 3) := by decide +kernel
theorem d_Mod_lessenLeaving_114 : decode b_Mod_lessenLeaving 114 = .ok (.if_icmp .ge 25, 3) := by decide +kernel
theorem d_Mod_lessenLeaving_117 : decode b_Mod_lessenLeaving 117 = .ok (.aload_n 0, 1) := by decide +kernel
theorem d_Mod_lessenLeaving_118 : decode b_Mod_lessenLeaving 118 = .ok (.getfield 103, 3) := by decide +kernel
theorem d_Mod_lessenLeaving_121 : decode b_Mod_lessenLeaving 121 = .ok (.bipush 6, 2) := by decide +kernel
theorem d_Mod_lessenLeaving_123 : decode b_Mod_lessenLeaving 123 = .ok (.iload_n 1, 1) := by decide +kernel
theorem d_Mod_lessenLeaving_124 : decode b_Mod_lessenLeaving 124 = .ok (.iconst 1, 1) := by decide +kernel
theorem d_Mod_lessenLeaving_125 : decode b_Mod_lessenLeaving 125 = .ok (.iadd, 1) := by decide +kernel
theorem d_Mod_lessenLeaving_126 : decode b_Mod_lessenLeaving 126 = .ok (.imul, 1) := by decide +kernel
theorem d_Mod_lessenLeaving_127 : decode b_Mod_lessenLeaving 127 = .ok (.lload_n 2, 1) := by decide +kernel
theorem d_Mod_lessenLeaving_128 : decode b_Mod_lessenLeaving 128 = .ok (.aload_n 0, 1) := by decide +kernel
theorem d_Mod_lessenLeaving_129 : decode b_Mod_lessenLeaving 129 = .ok (.getfield 34, 3) := by decide +kernel
theorem d_Mod_lessenLeaving_132 : decode b_Mod_lessenLeaving 132 = .ok (.iload_n 1, 1) := by decide +kernel
theorem d_Mod_lessenLeaving_133 : decode b_Mod_lessenLeaving 133 = .ok (.laload, 1) := by decide +kernel
theorem d_Mod_lessenLeaving_134 : decode b_Mod_lessenLeaving 134 = .ok (.lmul, 1) := by decide +kernel
theorem d_Mod_lessenLeaving_135 : decode b_Mod_lessenLeaving 135 = .ok (.lload 10, 2) := by decide +kernel
theorem d_Mod_lessenLeaving_137 : decode b_Mod_lessenLeaving 137 = .ok (.ldiv, 1) := by decide +kernel
theorem d_Mod_lessenLeaving_138 : decode b_Mod_lessenLeaving 138 = .ok (.lastore, 1) := by decide +kernel
theorem d_Mod_lessenLeaving_139 : decode b_Mod_lessenLeaving 139 = .ok (.iload_n 1, 1) := by decide +kernel
theorem d_Mod_lessenLeaving_140 : decode b_Mod_lessenLeaving 140 = .ok (.ifCond .le 28, 3) := by decide +kernel
theorem d_Mod_lessenLeaving_143 : decode b_Mod_lessenLeaving 143 = .ok (.aload_n 0, 1) := by decide +kernel
theorem d_Mod_lessenLeaving_144 : decode b_Mod_lessenLeaving 144 = .ok (.getfield 103, 3) := by decide +kernel
theorem d_Mod_lessenLeaving_147 : decode b_Mod_lessenLeaving 147 = .ok (.bipush 6, 2) := by decide +kernel
theorem d_Mod_lessenLeaving_149 : decode b_Mod_lessenLeaving 149 = .ok (.iload_n 1, 1) := by decide +kernel
theorem d_Mod_lessenLeaving_150 : decode b_Mod_lessenLeaving 150 = .ok (.iconst 1, 1) := by decide +kernel
theorem d_Mod_lessenLeaving_151 : decode b_Mod_lessenLeaving 151 = .ok (.isub, 1) := by decide +kernel
theorem d_Mod_lessenLeaving_152 : decode b_Mod_lessenLeaving 152 = .ok (.imul, 1) := by decide +kernel
theorem d_Mod_lessenLeaving_153 : decode b_Mod_lessenLeaving 153 = .ok (.iconst 1, 1) := by decide +kernel
theorem d_Mod_lessenLeaving_154 : decode b_Mod_lessenLeaving 154 = .ok (.iadd, 1) := by decide +kernel
theorem d_Mod_lessenLeaving_155 : decode b_Mod_lessenLeaving 155 = .ok (.lload 4, 2) := by decide +kernel
theorem d_Mod_lessenLeaving_157 : decode b_Mod_lessenLeaving 157 = .ok (.aload_n 0, 1) := by decide +kernel
theorem d_Mod_lessenLeaving_158 : decode b_Mod_lessenLeaving 158 = .ok (.getfield 34, 3) := by decide +kernel
theorem d_Mod_lessenLeaving_161 : decode b_Mod_lessenLeaving 161 = .ok (.iload_n 1, 1) := by decide +kernel
theorem d_Mod_lessenLeaving_162 : decode b_Mod_lessenLeaving 162 = .ok (.laload, 1) := by decide +kernel
theorem d_Mod_lessenLeaving_163 : decode b_Mod_lessenLeaving 163 = .ok (.lmul, 1) := by decide +kernel
theorem d_Mod_lessenLeaving_164 : decode b_Mod_lessenLeaving 164 = .ok (.lload 10, 2) := by decide +kernel
theorem d_Mod_lessenLeaving_166 : decode b_Mod_lessenLeaving 166 = .ok (.ldiv, 1) := by decide +kernel
theorem d_Mod_lessenLeaving_167 : decode b_Mod_lessenLeaving 167 = .ok (.lastore, 1) := by decide +kernel
theorem d_Mod_lessenLeaving_168 : decode b_Mod_lessenLeaving 168 = .ok (.aload_n 0, 1) := by decide +kernel
theorem d_Mod_lessenLeaving_169 : decode b_Mod_lessenLeaving 169 = .ok (.iload_n 1, 1) := by decide +kernel
theorem d_Mod_lessenLeaving_170 : decode b_Mod_lessenLeaving 170 = .ok (.ifCond .ne 18, 3) := by decide +kernel
theorem d_Mod_lessenLeaving_173 : decode b_Mod_lessenLeaving 173 = .ok (.lload 6, 2) := by decide +kernel
theorem d_Mod_lessenLeaving_175 : decode b_Mod_lessenLeaving 175 = .ok (.aload_n 0, 1) := by decide +kernel
theorem d_Mod_lessenLeaving_176 : decode b_Mod_lessenLeaving 176 = .ok (.getfield 34, 3) := by decide +kernel
theorem d_Mod_lessenLeaving_179 : decode b_Mod_lessenLeaving 179 = .ok (.iload_n 1, 1) := by decide +kernel
theorem d_Mod_lessenLeaving_180 : decode b_Mod_lessenLeaving 180 = .ok (.laload, 1) := by decide +kernel
theorem d_Mod_lessenLeaving_181 : decode b_Mod_lessenLeaving 181 = .ok (.lmul, 1) := by decide +kernel
theorem d_Mod_lessenLeaving_182 : decode b_Mod_lessenLeaving 182 = .ok (.lload 10, 2) := by decide +kernel
theorem d_Mod_lessenLeaving_184 : decode b_Mod_lessenLeaving 184 = .ok (.ldiv, 1) := by decide +kernel
theorem d_Mod_lessenLeaving_185 : decode b_Mod_lessenLeaving 185 = .ok (.goto 7, 3) := by decide +kernel
theorem d_Mod_lessenLeaving_188 : decode b_Mod_lessenLeaving 188 = .ok (.aload_n 0, 1) := by decide +kernel
theorem d_Mod_lessenLeaving_189 : decode b_Mod_lessenLeaving 189 = .ok (.getfield 192, 3) := by decide +kernel
theorem d_Mod_lessenLeaving_192 : decode b_Mod_lessenLeaving 192 = .ok (.putfield 192, 3) := by decide +kernel
theorem d_Mod_lessenLeaving_195 : decode b_Mod_lessenLeaving 195 = .ok (.aload_n 0, 1) := by decide +kernel
theorem d_Mod_lessenLeaving_196 : decode b_Mod_lessenLeaving 196 = .ok (.iload_n 1, 1) := by decide +kernel
theorem d_Mod_lessenLeaving_197 : decode b_Mod_lessenLeaving 197 = .ok (.aload_n 0, 1) := by decide +kernel
theorem d_Mod_lessenLeaving_198 : decode b_Mod_lessenLeaving 198 = .ok (.getfield 127, 3) := by decide +kernel
theorem d_Mod_lessenLeaving_201 : decode b_Mod_lessenLeaving 201 = .ok (.iconst 1, 1) := by decide +kernel
theorem d_Mod_lessenLeaving_202 : decode b_Mod_lessenLeaving 202 = .ok (.isub, 1) := by decide +kernel
theorem d_Mod_lessenLeaving_203 : decode b_Mod_lessenLeaving 203 = .ok (.if_icmp .ne 18, 3) := by decide +kernel
theorem d_Mod_lessenLeaving_206 : decode b_Mod_lessenLeaving 206 = .ok (.lload 8, 2) := by decide +kernel
theorem d_Mod_lessenLeaving_208 : decode b_Mod_lessenLeaving 208 = .ok (.aload_n 0, 1) := by decide +kernel
theorem d_Mod_lessenLeaving_209 : decode b_Mod_lessenLeaving 209 = .ok (.getfield 34, 3) := by decide +kernel
theorem d_Mod_lessenLeaving_212 : decode b_Mod_lessenLeaving 212 = .ok (.iload_n 1, 1) := by decide +kernel
theorem d_Mod_lessenLeaving_213 : decode b_Mod_lessenLeaving 213 = .ok (.laload, 1) := by decide +kernel
theorem d_Mod_lessenLeaving_214 : decode b_Mod_lessenLeaving 214 = .ok (.lmul, 1) := by decide +kernel
theorem d_Mod_lessenLeaving_215 : decode b_Mod_lessenLeaving 215 = .ok (.lload 10, 2) := by decide +kernel
theorem d_Mod_lessenLeaving_217 : decode b_Mod_lessenLeaving 217 = .ok (.ldiv, 1) := by decide +kernel
theorem d_Mod_lessenLeaving_218 : decode b_Mod_lessenLeaving 218 = .ok (.goto 7, 3) := by decide +kernel
theorem d_Mod_lessenLeaving_221 : decode b_Mod_lessenLeaving 221 = .ok (.aload_n 0, 1) := by decide +kernel
theorem d_Mod_lessenLeaving_222 : decode b_Mod_lessenLeaving 222 = .ok (.getfield 197, 3) := by decide +kernel
theorem d_Mod_lessenLeaving_225 : decode b_Mod_lessenLeaving 225 = .ok (.putfield 197, 3) := by decide +kernel
theorem d_Mod_lessenLeaving_228 : decode b_Mod_lessenLeaving 228 = .ok (.return_, 1) := by decide +kernel
abbrev b_Mod_lessenComing : ByteArray := prog_13_method_25_code
def y_Mod_lessenComing : MethodName := ⟨"WallDampModel", "lessenComing", "(I)V"⟩
def ws_Mod_lessenComing : List Cond := .code y_Mod_lessenComing b_Mod_lessenComing 7 none :: x_tb
theorem pd_Mod_lessenComing : y_Mod_lessenComing.cls ≠ "java/lang/invoke/MethodHandle" ∧ y_Mod_lessenComing.cls ≠ "java/lang/invoke/VarHandle" ∧ (parseMethodDescriptor y_Mod_lessenComing.desc).map (fun d => d.parameters.length) = some 1 := by decide +kernel
theorem d_Mod_lessenComing_0 : decode b_Mod_lessenComing 0 = .ok (.aload_n 0, 1) := by decide +kernel
theorem d_Mod_lessenComing_1 : decode b_Mod_lessenComing 1 = .ok (.aload_n 0, 1) := by decide +kernel
theorem d_Mod_lessenComing_2 : decode b_Mod_lessenComing 2 = .ok (.getfield 28, 3) := by decide +kernel
theorem d_Mod_lessenComing_5 : decode b_Mod_lessenComing 5 = .ok (.iload_n 1, 1) := by decide +kernel
theorem d_Mod_lessenComing_6 : decode b_Mod_lessenComing 6 = .ok (.iaload, 1) := by decide +kernel
theorem d_Mod_lessenComing_7 : decode b_Mod_lessenComing 7 = .ok (.invokevirtual 143, 3) := by decide +kernel
theorem d_Mod_lessenComing_10 : decode b_Mod_lessenComing 10 = .ok (.i2l, 1) := by decide +kernel
theorem d_Mod_lessenComing_11 : decode b_Mod_lessenComing 11 = .ok (.aload_n 0, 1) := by decide +kernel
theorem d_Mod_lessenComing_12 : decode b_Mod_lessenComing 12 = .ok (.getfield 34, 3) := by decide +kernel
theorem d_Mod_lessenComing_15 : decode b_Mod_lessenComing 15 = .ok (.iload_n 1, 1) := by decide +kernel
theorem d_Mod_lessenComing_16 : decode b_Mod_lessenComing 16 = .ok (.laload, 1) := by decide +kernel
theorem d_Mod_lessenComing_17 : decode b_Mod_lessenComing 17 = .ok (.lsub, 1) := by decide +kernel
theorem d_Mod_lessenComing_18 : decode b_Mod_lessenComing 18 = .ok (.lstore_n 2, 1) := by decide +kernel
theorem d_Mod_lessenComing_19 : decode b_Mod_lessenComing 19 = .ok (.lconst 0, 1) := by decide +kernel
theorem d_Mod_lessenComing_20 : decode b_Mod_lessenComing 20 = .ok (.lstore 4, 2) := by decide +kernel
theorem d_Mod_lessenComing_22 : decode b_Mod_lessenComing 22 = .ok (.iconst 0, 1) := by decide +kernel
theorem d_Mod_lessenComing_23 : decode b_Mod_lessenComing 23 = .ok (.istore 6, 2) := by decide +kernel
theorem d_Mod_lessenComing_25 : decode b_Mod_lessenComing 25 = .ok (.iload 6, 2) := by decide +kernel
theorem d_Mod_lessenComing_27 : decode b_Mod_lessenComing 27 = .ok (.bipush 6, 2) := by decide +kernel
theorem d_Mod_lessenComing_29 : decode b_Mod_lessenComing 29 = .ok (.if_icmp .ge 26, 3) := by decide +kernel
theorem d_Mod_lessenComing_32 : decode b_Mod_lessenComing 32 = .ok (.lload 4, 2) := by decide +kernel
theorem d_Mod_lessenComing_34 : decode b_Mod_lessenComing 34 = .ok (.aload_n 0, 1) := by decide +kernel
theorem d_Mod_lessenComing_35 : decode b_Mod_lessenComing 35 = .ok (.getfield 103, 3) := by decide +kernel
theorem d_Mod_lessenComing_38 : decode b_Mod_lessenComing 38 = .ok (.bipush 6, 2) := by decide +kernel
theorem d_Mod_lessenComing_40 : decode b_Mod_lessenComing 40 = .ok (.iload_n 1, 1) := by decide +kernel
theorem d_Mod_lessenComing_41 : decode b_Mod_lessenComing 41 = .ok (.imul, 1) := by decide +kernel
theorem d_Mod_lessenComing_42 : decode b_Mod_lessenComing 42 = .ok (.iload 6, 2) := by decide +kernel
theorem d_Mod_lessenComing_44 : decode b_Mod_lessenComing 44 = .ok (.iadd, 1) := by decide +kernel
theorem d_Mod_lessenComing_45 : decode b_Mod_lessenComing 45 = .ok (.laload, 1) := by decide +kernel
theorem d_Mod_lessenComing_46 : decode b_Mod_lessenComing 46 = .ok (.ladd, 1) := by decide +kernel
theorem d_Mod_lessenComing_47 : decode b_Mod_lessenComing 47 = .ok (.lstore 4, 2) := by decide +kernel
theorem d_Mod_lessenComing_49 : decode b_Mod_lessenComing 49 = .ok (.iinc 6 1, 3) := by decide +kernel
theorem d_Mod_lessenComing_52 : decode b_Mod_lessenComing 52 = .ok (.goto (-27), 3) := by decide +kernel
theorem d_Mod_lessenComing_55 : decode b_Mod_lessenComing 55 = .ok (.iconst 0, 1) := by decide +kernel
theorem d_Mod_lessenComing_56 : decode b_Mod_lessenComing 56 = .ok (.istore 6, 2) := by decide +kernel
theorem d_Mod_lessenComing_58 : decode b_Mod_lessenComing 58 = .ok (.iload 6, 2) := by decide +kernel
theorem d_Mod_lessenComing_60 : decode b_Mod_lessenComing 60 = .ok (.bipush 6, 2) := by decide +kernel
theorem d_Mod_lessenComing_62 : decode b_Mod_lessenComing 62 = .ok (.if_icmp .ge 45, 3) := by decide +kernel
theorem d_Mod_lessenComing_65 : decode b_Mod_lessenComing 65 = .ok (.lload 4, 2) := by decide +kernel
theorem d_Mod_lessenComing_67 : decode b_Mod_lessenComing 67 = .ok (.lload_n 2, 1) := by decide +kernel
theorem d_Mod_lessenComing_68 : decode b_Mod_lessenComing 68 = .ok (.lcmp, 1) := by decide +kernel
theorem d_Mod_lessenComing_69 : decode b_Mod_lessenComing 69 = .ok (.ifCond .le 38, 3) := by decide +kernel
theorem d_Mod_lessenComing_72 : decode b_Mod_lessenComing 72 = .ok (.aload_n 0, 1) := by decide +kernel
theorem d_Mod_lessenComing_73 : decode b_Mod_lessenComing 73 = .ok (.getfield 103, 3) := by decide +kernel
theorem d_Mod_lessenComing_76 : decode b_Mod_lessenComing 76 = .ok (.bipush 6, 2) := by decide +kernel
theorem d_Mod_lessenComing_78 : decode b_Mod_lessenComing 78 = .ok (.iload_n 1, 1) := by decide +kernel
theorem d_Mod_lessenComing_79 : decode b_Mod_lessenComing 79 = .ok (.imul, 1) := by decide +kernel
theorem d_Mod_lessenComing_80 : decode b_Mod_lessenComing 80 = .ok (.iload 6, 2) := by decide +kernel
theorem d_Mod_lessenComing_82 : decode b_Mod_lessenComing 82 = .ok (.iadd, 1) := by decide +kernel
theorem d_Mod_lessenComing_83 : decode b_Mod_lessenComing 83 = .ok (.aload_n 0, 1) := by decide +kernel
theorem d_Mod_lessenComing_84 : decode b_Mod_lessenComing 84 = .ok (.getfield 103, 3) := by decide +kernel
theorem d_Mod_lessenComing_87 : decode b_Mod_lessenComing 87 = .ok (.bipush 6, 2) := by decide +kernel
theorem d_Mod_lessenComing_89 : decode b_Mod_lessenComing 89 = .ok (.iload_n 1, 1) := by decide +kernel
theorem d_Mod_lessenComing_90 : decode b_Mod_lessenComing 90 = .ok (.imul, 1) := by decide +kernel
theorem d_Mod_lessenComing_91 : decode b_Mod_lessenComing 91 = .ok (.iload 6, 2) := by decide +kernel
theorem d_Mod_lessenComing_93 : decode b_Mod_lessenComing 93 = .ok (.iadd, 1) := by decide +kernel
theorem d_Mod_lessenComing_94 : decode b_Mod_lessenComing 94 = .ok (.laload, 1) := by decide +kernel
theorem d_Mod_lessenComing_95 : decode b_Mod_lessenComing 95 = .ok (.lload_n 2, 1) := by decide +kernel
theorem d_Mod_lessenComing_96 : decode b_Mod_lessenComing 96 = .ok (.lmul, 1) := by decide +kernel
theorem d_Mod_lessenComing_97 : decode b_Mod_lessenComing 97 = .ok (.lload 4, 2) := by decide +kernel
theorem d_Mod_lessenComing_99 : decode b_Mod_lessenComing 99 = .ok (.ldiv, 1) := by decide +kernel
theorem d_Mod_lessenComing_100 : decode b_Mod_lessenComing 100 = .ok (.lastore, 1) := by decide +kernel
theorem d_Mod_lessenComing_101 : decode b_Mod_lessenComing 101 = .ok (.iinc 6 1, 3) := by decide +kernel
theorem d_Mod_lessenComing_104 : decode b_Mod_lessenComing 104 = .ok (.goto (-46), 3) := by decide +kernel
theorem d_Mod_lessenComing_107 : decode b_Mod_lessenComing 107 = .ok (.return_, 1) := by decide +kernel
abbrev b_Mod_move : ByteArray := prog_13_method_26_code
def y_Mod_move : MethodName := ⟨"WallDampModel", "move", "()V"⟩
def ws_Mod_move : List Cond := .code y_Mod_move b_Mod_move 5 none :: x_tb
theorem pd_Mod_move : y_Mod_move.cls ≠ "java/lang/invoke/MethodHandle" ∧ y_Mod_move.cls ≠ "java/lang/invoke/VarHandle" ∧ (parseMethodDescriptor y_Mod_move.desc).map (fun d => d.parameters.length) = some 0 := by decide +kernel
theorem d_Mod_move_0 : decode b_Mod_move 0 = .ok (.iconst 0, 1) := by decide +kernel
theorem d_Mod_move_1 : decode b_Mod_move 1 = .ok (.istore_n 1, 1) := by decide +kernel
theorem d_Mod_move_2 : decode b_Mod_move 2 = .ok (.iload_n 1, 1) := by decide +kernel
theorem d_Mod_move_3 : decode b_Mod_move 3 = .ok (.aload_n 0, 1) := by decide +kernel
theorem d_Mod_move_4 : decode b_Mod_move 4 = .ok (.getfield 127, 3) := by decide +kernel
theorem d_Mod_move_7 : decode b_Mod_move 7 = .ok (.if_icmp .ge 14, 3) := by decide +kernel
theorem d_Mod_move_10 : decode b_Mod_move 10 = .ok (.aload_n 0, 1) := by decide +kernel
theorem d_Mod_move_11 : decode b_Mod_move 11 = .ok (.iload_n 1, 1) := by decide +kernel
theorem d_Mod_move_12 : decode b_Mod_move 12 = .ok (.invokevirtual 200, 3) := by decide +kernel
theorem d_Mod_move_15 : decode b_Mod_move 15 = .ok (.iinc 1 1, 3) := by decide +kernel
theorem d_Mod_move_18 : decode b_Mod_move 18 = .ok (.goto (-16), 3) := by decide +kernel
theorem d_Mod_move_21 : decode b_Mod_move 21 = .ok (.iconst 0, 1) := by decide +kernel
theorem d_Mod_move_22 : decode b_Mod_move 22 = .ok (.istore_n 1, 1) := by decide +kernel
theorem d_Mod_move_23 : decode b_Mod_move 23 = .ok (.iload_n 1, 1) := by decide +kernel
theorem d_Mod_move_24 : decode b_Mod_move 24 = .ok (.aload_n 0, 1) := by decide +kernel
theorem d_Mod_move_25 : decode b_Mod_move 25 = .ok (.getfield 127, 3) := by decide +kernel
theorem d_Mod_move_28 : decode b_Mod_move 28 = .ok (.if_icmp .ge 14, 3) := by decide +kernel
theorem d_Mod_move_31 : decode b_Mod_move 31 = .ok (.aload_n 0, 1) := by decide +kernel
theorem d_Mod_move_32 : decode b_Mod_move 32 = .ok (.iload_n 1, 1) := by decide +kernel
theorem d_Mod_move_33 : decode b_Mod_move 33 = .ok (.invokevirtual 204, 3) := by decide +kernel
theorem d_Mod_move_36 : decode b_Mod_move 36 = .ok (.iinc 1 1, 3) := by decide +kernel
theorem d_Mod_move_39 : decode b_Mod_move 39 = .ok (.goto (-16), 3) := by decide +kernel
theorem d_Mod_move_42 : decode b_Mod_move 42 = .ok (.iconst 0, 1) := by decide +kernel
theorem d_Mod_move_43 : decode b_Mod_move 43 = .ok (.istore_n 1, 1) := by decide +kernel
theorem d_Mod_move_44 : decode b_Mod_move 44 = .ok (.iload_n 1, 1) := by decide +kernel
theorem d_Mod_move_45 : decode b_Mod_move 45 = .ok (.aload_n 0, 1) := by decide +kernel
theorem d_Mod_move_46 : decode b_Mod_move 46 = .ok (.getfield 127, 3) := by decide +kernel
theorem d_Mod_move_49 : decode b_Mod_move 49 = .ok (.if_icmp .ge 134, 3) := by decide +kernel
theorem d_Mod_move_52 : decode b_Mod_move 52 = .ok (.iconst 0, 1) := by decide +kernel
theorem d_Mod_move_53 : decode b_Mod_move 53 = .ok (.istore_n 2, 1) := by decide +kernel
theorem d_Mod_move_54 : decode b_Mod_move 54 = .ok (.iload_n 2, 1) := by decide +kernel
theorem d_Mod_move_55 : decode b_Mod_move 55 = .ok (.bipush 6, 2) := by decide +kernel
theorem d_Mod_move_57 : decode b_Mod_move 57 = .ok (.if_icmp .ge 120, 3) := by decide +kernel
theorem d_Mod_move_60 : decode b_Mod_move 60 = .ok (.aload_n 0, 1) := by decide +kernel
theorem d_Mod_move_61 : decode b_Mod_move 61 = .ok (.getfield 103, 3) := by decide +kernel
theorem d_Mod_move_64 : decode b_Mod_move 64 = .ok (.bipush 6, 2) := by decide +kernel
theorem d_Mod_move_66 : decode b_Mod_move 66 = .ok (.iload_n 1, 1) := by decide +kernel
theorem d_Mod_move_67 : decode b_Mod_move 67 = .ok (.imul, 1) := by decide +kernel
theorem d_Mod_move_68 : decode b_Mod_move 68 = .ok (.iload_n 2, 1) := by decide +kernel
theorem d_Mod_move_69 : decode b_Mod_move 69 = .ok (.iadd, 1) := by decide +kernel
theorem d_Mod_move_70 : decode b_Mod_move 70 = .ok (.laload, 1) := by decide +kernel
theorem d_Mod_move_71 : decode b_Mod_move 71 = .ok (.lstore_n 3, 1) := by decide +kernel
theorem d_Mod_move_72 : decode b_Mod_move 72 = .ok (.aload_n 0, 1) := by decide +kernel
theorem d_Mod_move_73 : decode b_Mod_move 73 = .ok (.getfield 34, 3) := by decide +kernel
theorem d_Mod_move_76 : decode b_Mod_move 76 = .ok (.iload_n 1, 1) := by decide +kernel
theorem d_Mod_move_77 : decode b_Mod_move 77 = .ok (.dup2, 1) := by decide +kernel
theorem d_Mod_move_78 : decode b_Mod_move 78 = .ok (.laload, 1) := by decide +kernel
theorem d_Mod_move_79 : decode b_Mod_move 79 = .ok (.lload_n 3, 1) := by decide +kernel
theorem d_Mod_move_80 : decode b_Mod_move 80 = .ok (.ladd, 1) := by decide +kernel
theorem d_Mod_move_81 : decode b_Mod_move 81 = .ok (.lastore, 1) := by decide +kernel
theorem d_Mod_move_82 : decode b_Mod_move 82 = .ok (.iload_n 2, 1) := by decide +kernel
theorem d_Mod_move_83 : decode b_Mod_move 83 = .ok (.ifCond .ne 26, 3) := by decide +kernel
theorem d_Mod_move_86 : decode b_Mod_move 86 = .ok (.aload_n 0, 1) := by decide +kernel
theorem d_Mod_move_87 : decode b_Mod_move 87 = .ok (.getfield 34, 3) := by decide +kernel
theorem d_Mod_move_90 : decode b_Mod_move 90 = .ok (.iload_n 1, 1) := by decide +kernel
theorem d_Mod_move_91 : decode b_Mod_move 91 = .ok (.ifCond .le 9, 3) := by decide +kernel
theorem d_Mod_move_94 : decode b_Mod_move 94 = .ok (.iload_n 1, 1) := by decide +kernel
theorem d_Mod_move_95 : decode b_Mod_move 95 = .ok (.iconst 1, 1) := by decide +kernel
theorem d_Mod_move_96 : decode b_Mod_move 96 = .ok (.isub, 1) := by decide +kernel
theorem d_Mod_move_97 : decode b_Mod_move 97 = .ok (.goto 4, 3) := by decide +kernel
theorem d_Mod_move_100 : decode b_Mod_move 100 = .ok (.iconst 0, 1) := by decide +kernel
theorem d_Mod_move_101 : decode b_Mod_move 101 = .ok (.dup2, 1) := by decide +kernel
theorem d_Mod_move_102 : decode b_Mod_move 102 = .ok (.laload, 1) := by decide +kernel
theorem d_Mod_move_103 : decode b_Mod_move 103 = .ok (.lload_n 3, 1) := by decide +kernel
theorem d_Mod_move_104 : decode b_Mod_move 104 = .ok (.lsub, 1) := by decide +kernel
theorem d_Mod_move_105 : decode b_Mod_move 105 = .ok (.lastore, 1) := by decide +kernel
theorem d_Mod_move_106 : decode b_Mod_move 106 = .ok (.goto 65, 3) := by decide +kernel
theorem d_Mod_move_109 : decode b_Mod_move 109 = .ok (.iload_n 2, 1) := by decide +kernel
theorem d_Mod_move_110 : decode b_Mod_move 110 = .ok (.iconst 1, 1) := by decide +kernel
theorem d_Mod_move_111 : decode b_Mod_move 111 = .ok (.if_icmp .ne 32, 3) := by decide +kernel
theorem d_Mod_move_114 : decode b_Mod_move 114 = .ok (.aload_n 0, 1) := by decide +kernel
theorem d_Mod_move_115 : decode b_Mod_move 115 = .ok (.getfield 34, 3) := by decide +kernel
theorem d_Mod_move_118 : decode b_Mod_move 118 = .ok (.iload_n 1, 1) := by decide +kernel
theorem d_Mod_move_119 : decode b_Mod_move 119 = .ok (.iconst 1, 1) := by decide +kernel
theorem d_Mod_move_120 : decode b_Mod_move 120 = .ok (.iadd, 1) := by decide +kernel
theorem d_Mod_move_121 : decode b_Mod_move 121 = .ok (.aload_n 0, 1) := by decide +kernel
theorem d_Mod_move_122 : decode b_Mod_move 122 = .ok (.getfield 127, 3) := by decide +kernel
theorem d_Mod_move_125 : decode b_Mod_move 125 = .ok (.if_icmp .ge 9, 3) := by decide +kernel
theorem d_Mod_move_128 : decode b_Mod_move 128 = .ok (.iload_n 1, 1) := by decide +kernel
theorem d_Mod_move_129 : decode b_Mod_move 129 = .ok (.iconst 1, 1) := by decide +kernel
theorem d_Mod_move_130 : decode b_Mod_move 130 = .ok (.iadd, 1) := by decide +kernel
theorem d_Mod_move_131 : decode b_Mod_move 131 = .ok (.goto 4, 3) := by decide +kernel
theorem d_Mod_move_134 : decode b_Mod_move 134 = .ok (.iload_n 1, 1) := by decide +kernel
theorem d_Mod_move_135 : decode b_Mod_move 135 = .ok (.dup2, 1) := by decide +kernel
theorem d_Mod_move_136 : decode b_Mod_move 136 = .ok (.laload, 1) := by decide +kernel
theorem d_Mod_move_137 : decode b_Mod_move 137 = .ok (.lload_n 3, 1) := by decide +kernel
theorem d_Mod_move_138 : decode b_Mod_move 138 = .ok (.lsub, 1) := by decide +kernel
theorem d_Mod_move_139 : decode b_Mod_move 139 = .ok (.lastore, 1) := by decide +kernel
theorem d_Mod_move_140 : decode b_Mod_move 140 = .ok (.goto 31, 3) := by decide +kernel
theorem d_Mod_move_143 : decode b_Mod_move 143 = .ok (.iload_n 2, 1) := by decide +kernel
theorem d_Mod_move_144 : decode b_Mod_move 144 = .ok (.iconst 4, 1) := by decide +kernel
theorem d_Mod_move_145 : decode b_Mod_move 145 = .ok (.if_icmp .ge 16, 3) := by decide +kernel
theorem d_Mod_move_148 : decode b_Mod_move 148 = .ok (.aload_n 0, 1) := by decide +kernel
theorem d_Mod_move_149 : decode b_Mod_move 149 = .ok (.dup, 1) := by decide +kernel
theorem d_Mod_move_150 : decode b_Mod_move 150 = .ok (.getfield 207, 3) := by decide +kernel
theorem d_Mod_move_153 : decode b_Mod_move 153 = .ok (.lload_n 3, 1) := by decide +kernel
theorem d_Mod_move_154 : decode b_Mod_move 154 = .ok (.ladd, 1) := by decide +kernel
theorem d_Mod_move_155 : decode b_Mod_move 155 = .ok (.putfield 207, 3) := by decide +kernel
theorem d_Mod_move_158 : decode b_Mod_move 158 = .ok (.goto 13, 3) := by decide +kernel
theorem d_Mod_move_161 : decode b_Mod_move 161 = .ok (.aload_n 0, 1) := by decide +kernel
theorem d_Mod_move_162 : decode b_Mod_move 162 = .ok (.dup, 1) := by decide +kernel
theorem d_Mod_move_163 : decode b_Mod_move 163 = .ok (.getfield 210, 3) := by decide +kernel
theorem d_Mod_move_166 : decode b_Mod_move 166 = .ok (.lload_n 3, 1) := by decide +kernel
theorem d_Mod_move_167 : decode b_Mod_move 167 = .ok (.ladd, 1) := by decide +kernel
theorem d_Mod_move_168 : decode b_Mod_move 168 = .ok (.putfield 210, 3) := by decide +kernel
theorem d_Mod_move_171 : decode b_Mod_move 171 = .ok (.iinc 2 1, 3) := by decide +kernel
theorem d_Mod_move_174 : decode b_Mod_move 174 = .ok (.goto (-120), 3) := by decide +kernel
theorem d_Mod_move_177 : decode b_Mod_move 177 = .ok (.iinc 1 1, 3) := by decide +kernel
theorem d_Mod_move_180 : decode b_Mod_move 180 = .ok (.goto (-136), 3) := by decide +kernel
theorem d_Mod_move_183 : decode b_Mod_move 183 = .ok (.aload_n 0, 1) := by decide +kernel
theorem d_Mod_move_184 : decode b_Mod_move 184 = .ok (.getfield 34, 3) := by decide +kernel
theorem d_Mod_move_187 : decode b_Mod_move 187 = .ok (.iconst 0, 1) := by decide +kernel
theorem d_Mod_move_188 : decode b_Mod_move 188 = .ok (.dup2, 1) := by decide +kernel
theorem d_Mod_move_189 : decode b_Mod_move 189 = .ok (.laload, 1) := by decide +kernel
theorem d_Mod_move_190 : decode b_Mod_move 190 = .ok (.aload_n 0, 1) := by decide +kernel
theorem d_Mod_move_191 : decode b_Mod_move 191 = .ok (.getfield 192, 3) := by decide +kernel
theorem d_Mod_move_194 : decode b_Mod_move 194 = .ok (.lsub, 1) := by decide +kernel
theorem d_Mod_move_195 : decode b_Mod_move 195 = .ok (.lastore, 1) := by decide +kernel
theorem d_Mod_move_196 : decode b_Mod_move 196 = .ok (.aload_n 0, 1) := by decide +kernel
theorem d_Mod_move_197 : decode b_Mod_move 197 = .ok (.dup, 1) := by decide +kernel
theorem d_Mod_move_198 : decode b_Mod_move 198 = .ok (.getfield 213, 3) := by decide +kernel
theorem d_Mod_move_201 : decode b_Mod_move 201 = .ok (.aload_n 0, 1) := by decide +kernel
theorem d_Mod_move_202 : decode b_Mod_move 202 = .ok (.getfield 192, 3) := by decide +kernel
theorem d_Mod_move_205 : decode b_Mod_move 205 = .ok (.ladd, 1) := by decide +kernel
theorem d_Mod_move_206 : decode b_Mod_move 206 = .ok (.putfield 213, 3) := by decide +kernel
theorem d_Mod_move_209 : decode b_Mod_move 209 = .ok (.aload_n 0, 1) := by decide +kernel
theorem d_Mod_move_210 : decode b_Mod_move 210 = .ok (.getfield 34, 3) := by decide +kernel
theorem d_Mod_move_213 : decode b_Mod_move 213 = .ok (.aload_n 0, 1) := by decide +kernel
theorem d_Mod_move_214 : decode b_Mod_move 214 = .ok (.getfield 127, 3) := by decide +kernel
theorem d_Mod_move_217 : decode b_Mod_move 217 = .ok (.iconst 1, 1) := by decide +kernel
theorem d_Mod_move_218 : decode b_Mod_move 218 = .ok (.isub, 1) := by decide +kernel
theorem d_Mod_move_219 : decode b_Mod_move 219 = .ok (.dup2, 1) := by decide +kernel
theorem d_Mod_move_220 : decode b_Mod_move 220 = .ok (.laload, 1) := by decide +kernel
theorem d_Mod_move_221 : decode b_Mod_move 221 = .ok (.aload_n 0, 1) := by decide +kernel
theorem d_Mod_move_222 : decode b_Mod_move 222 = .ok (.getfield 197, 3) := by decide +kernel
theorem d_Mod_move_225 : decode b_Mod_move 225 = .ok (.lsub, 1) := by decide +kernel
theorem d_Mod_move_226 : decode b_Mod_move 226 = .ok (.lastore, 1) := by decide +kernel
theorem d_Mod_move_227 : decode b_Mod_move 227 = .ok (.aload_n 0, 1) := by decide +kernel
theorem d_Mod_move_228 : decode b_Mod_move 228 = .ok (.dup, 1) := by decide +kernel
theorem d_Mod_move_229 : decode b_Mod_move 229 = .ok (.getfield 216, 3) := by decide +kernel
theorem d_Mod_move_232 : decode b_Mod_move 232 = .ok (.aload_n 0, 1) := by decide +kernel
theorem d_Mod_move_233 : decode b_Mod_move 233 = .ok (.getfield 197, 3) := by decide +kernel
theorem d_Mod_move_236 : decode b_Mod_move 236 = .ok (.ladd, 1) := by decide +kernel
theorem d_Mod_move_237 : decode b_Mod_move 237 = .ok (.putfield 216, 3) := by decide +kernel
theorem d_Mod_move_240 : decode b_Mod_move 240 = .ok (.return_, 1) := by decide +kernel
abbrev b_Mod_frostAndMould : ByteArray := prog_13_method_27_code
def y_Mod_frostAndMould : MethodName := ⟨"WallDampModel", "frostAndMould", "()V"⟩
def ws_Mod_frostAndMould : List Cond := .code y_Mod_frostAndMould b_Mod_frostAndMould 5 none :: x_tb
theorem pd_Mod_frostAndMould : y_Mod_frostAndMould.cls ≠ "java/lang/invoke/MethodHandle" ∧ y_Mod_frostAndMould.cls ≠ "java/lang/invoke/VarHandle" ∧ (parseMethodDescriptor y_Mod_frostAndMould.desc).map (fun d => d.parameters.length) = some 0 := by decide +kernel
theorem d_Mod_frostAndMould_0 : decode b_Mod_frostAndMould 0 = .ok (.iconst 0, 1) := by decide +kernel
theorem d_Mod_frostAndMould_1 : decode b_Mod_frostAndMould 1 = .ok (.istore_n 1, 1) := by decide +kernel
theorem d_Mod_frostAndMould_2 : decode b_Mod_frostAndMould 2 = .ok (.iload_n 1, 1) := by decide +kernel
theorem d_Mod_frostAndMould_3 : decode b_Mod_frostAndMould 3 = .ok (.aload_n 0, 1) := by decide +kernel
theorem d_Mod_frostAndMould_4 : decode b_Mod_frostAndMould 4 = .ok (.getfield 127, 3) := by decide +kernel
theorem d_Mod_frostAndMould_7 : decode b_Mod_frostAndMould 7 = .ok (.if_icmp .ge 106, 3) := by decide +kernel
theorem d_Mod_frostAndMould_10 : decode b_Mod_frostAndMould 10 = .ok (.aload_n 0, 1) := by decide +kernel
theorem d_Mod_frostAndMould_11 : decode b_Mod_frostAndMould 11 = .ok (.iload_n 1, 1) := by decide +kernel
theorem d_Mod_frostAndMould_12 : decode b_Mod_frostAndMould 12 = .ok (.invokevirtual 186, 3) := by decide +kernel
theorem d_Mod_frostAndMould_15 : decode b_Mod_frostAndMould 15 = .ok (.istore_n 2, 1) := by decide +kernel
theorem d_Mod_frostAndMould_16 : decode b_Mod_frostAndMould 16 = .ok (.aload_n 0, 1) := by decide +kernel
theorem d_Mod_frostAndMould_17 : decode b_Mod_frostAndMould 17 = .ok (.getfield 51, 3) := by decide +kernel
theorem d_Mod_frostAndMould_20 : decode b_Mod_frostAndMould 20 = .ok (.iload_n 1, 1) := by decide +kernel
theorem d_Mod_frostAndMould_21 : decode b_Mod_frostAndMould 21 = .ok (.iload_n 2, 1) := by decide +kernel
theorem d_Mod_frostAndMould_22 : decode b_Mod_frostAndMould 22 = .ok (.aload_n 0, 1) := by decide +kernel
theorem d_Mod_frostAndMould_23 : decode b_Mod_frostAndMould 23 = .ok (.getfield 51, 3) := by decide +kernel
theorem d_Mod_frostAndMould_26 : decode b_Mod_frostAndMould 26 = .ok (.iload_n 1, 1) := by decide +kernel
theorem d_Mod_frostAndMould_27 : decode b_Mod_frostAndMould 27 = .ok (.iaload, 1) := by decide +kernel
theorem d_Mod_frostAndMould_28 : decode b_Mod_frostAndMould 28 = .ok (.if_icmp .le 7, 3) := by decide +kernel
theorem d_Mod_frostAndMould_31 : decode b_Mod_frostAndMould 31 = .ok (.iload_n 2, 1) := by decide +kernel
theorem d_Mod_frostAndMould_32 : decode b_Mod_frostAndMould 32 = .ok (.goto 9, 3) := by decide +kernel
theorem d_Mod_frostAndMould_35 : decode b_Mod_frostAndMould 35 = .ok (.aload_n 0, 1) := by decide +kernel
theorem d_Mod_frostAndMould_36 : decode b_Mod_frostAndMould 36 = .ok (.getfield 51, 3) := by decide +kernel
theorem d_Mod_frostAndMould_39 : decode b_Mod_frostAndMould 39 = .ok (.iload_n 1, 1) := by decide +kernel
theorem d_Mod_frostAndMould_40 : decode b_Mod_frostAndMould 40 = .ok (.iaload, 1) := by decide +kernel
theorem d_Mod_frostAndMould_41 : decode b_Mod_frostAndMould 41 = .ok (.iastore, 1) := by decide +kernel
theorem d_Mod_frostAndMould_42 : decode b_Mod_frostAndMould 42 = .ok (.aload_n 0, 1) := by decide +kernel
theorem d_Mod_frostAndMould_43 : decode b_Mod_frostAndMould 43 = .ok (.getfield 47, 3) := by decide +kernel
theorem d_Mod_frostAndMould_46 : decode b_Mod_frostAndMould 46 = .ok (.iload_n 1, 1) := by decide +kernel
theorem d_Mod_frostAndMould_47 : decode b_Mod_frostAndMould 47 = .ok (.baload, 1) := by decide +kernel
theorem d_Mod_frostAndMould_48 : decode b_Mod_frostAndMould 48 = .ok (.ifCond .ne 33, 3) := by decide +kernel
theorem d_Mod_frostAndMould_51 : decode b_Mod_frostAndMould 51 = .ok (.aload_n 0, 1) := by decide +kernel
theorem d_Mod_frostAndMould_52 : decode b_Mod_frostAndMould 52 = .ok (.getfield 47, 3) := by decide +kernel
theorem d_Mod_frostAndMould_55 : decode b_Mod_frostAndMould 55 = .ok (.iload_n 1, 1) := by decide +kernel
theorem d_Mod_frostAndMould_56 : decode b_Mod_frostAndMould 56 = .ok (.aload_n 0, 1) := by decide +kernel
theorem d_Mod_frostAndMould_57 : decode b_Mod_frostAndMould 57 = .ok (.getfield 41, 3) := by decide +kernel
theorem d_Mod_frostAndMould_60 : decode b_Mod_frostAndMould 60 = .ok (.iload_n 1, 1) := by decide +kernel
theorem d_Mod_frostAndMould_61 : decode b_Mod_frostAndMould 61 = .ok (.iaload, 1) := by decide +kernel
theorem d_Mod_frostAndMould_62 : decode b_Mod_frostAndMould 62 = .ok (.ifCond .ge 14, 3) := by decide +kernel
theorem d_Mod_frostAndMould_65 : decode b_Mod_frostAndMould 65 = .ok (.iload_n 2, 1) := by decide +kernel
theorem d_Mod_frostAndMould_66 : decode b_Mod_frostAndMould 66 = .ok (.sipush 9000, 3) := by decide +kernel
theorem d_Mod_frostAndMould_69 : decode b_Mod_frostAndMould 69 = .ok (.if_icmp .lt 7, 3) := by decide +kernel
theorem d_Mod_frostAndMould_72 : decode b_Mod_frostAndMould 72 = .ok (.iconst 1, 1) := by decide +kernel
theorem d_Mod_frostAndMould_73 : decode b_Mod_frostAndMould 73 = .ok (.goto 4, 3) := by decide +kernel
theorem d_Mod_frostAndMould_76 : decode b_Mod_frostAndMould 76 = .ok (.iconst 0, 1) := by decide +kernel
theorem d_Mod_frostAndMould_77 : decode b_Mod_frostAndMould 77 = .ok (.bastore, 1) := by decide +kernel
theorem d_Mod_frostAndMould_78 : decode b_Mod_frostAndMould 78 = .ok (.goto 29, 3) := by decide +kernel
theorem d_Mod_frostAndMould_81 : decode b_Mod_frostAndMould 81 = .ok (.aload_n 0, 1) := by decide +kernel
theorem d_Mod_frostAndMould_82 : decode b_Mod_frostAndMould 82 = .ok (.getfield 41, 3) := by decide +kernel
theorem d_Mod_frostAndMould_85 : decode b_Mod_frostAndMould 85 = .ok (.iload_n 1, 1) := by decide +kernel
theorem d_Mod_frostAndMould_86 : decode b_Mod_frostAndMould 86 = .ok (.iaload, 1) := by decide +kernel
theorem d_Mod_frostAndMould_87 : decode b_Mod_frostAndMould 87 = .ok (.ifCond .lt 20, 3) := by decide +kernel
theorem d_Mod_frostAndMould_90 : decode b_Mod_frostAndMould 90 = .ok (.aload_n 0, 1) := by decide +kernel
theorem d_Mod_frostAndMould_91 : decode b_Mod_frostAndMould 91 = .ok (.getfield 47, 3) := by decide +kernel
theorem d_Mod_frostAndMould_94 : decode b_Mod_frostAndMould 94 = .ok (.iload_n 1, 1) := by decide +kernel
theorem d_Mod_frostAndMould_95 : decode b_Mod_frostAndMould 95 = .ok (.iconst 0, 1) := by decide +kernel
theorem d_Mod_frostAndMould_96 : decode b_Mod_frostAndMould 96 = .ok (.bastore, 1) := by decide +kernel
theorem d_Mod_frostAndMould_97 : decode b_Mod_frostAndMould 97 = .ok (.aload_n 0, 1) := by decide +kernel
theorem d_Mod_frostAndMould_98 : decode b_Mod_frostAndMould 98 = .ok (.getfield 44, 3) := by decide +kernel
theorem d_Mod_frostAndMould_101 : decode b_Mod_frostAndMould 101 = .ok (.iload_n 1, 1) := by decide +kernel
theorem d_Mod_frostAndMould_102 : decode b_Mod_frostAndMould 102 = .ok (.dup2, 1) := by decide +kernel
theorem d_Mod_frostAndMould_103 : decode b_Mod_frostAndMould 103 = .ok (.iaload, 1) := by decide +kernel
theorem d_Mod_frostAndMould_104 : decode b_Mod_frostAndMould 104 = .ok (.iconst 1, 1) := by decide +kernel
theorem d_Mod_frostAndMould_105 : decode b_Mod_frostAndMould 105 = .ok (.iadd, 1) := by decide +kernel
theorem d_Mod_frostAndMould_106 : decode b_Mod_frostAndMould 106 = .ok (.iastore, 1) := by decide +kernel
theorem d_Mod_frostAndMould_107 : decode b_Mod_frostAndMould 107 = .ok (.iinc 1 1, 3) := by decide +kernel
theorem d_Mod_frostAndMould_110 : decode b_Mod_frostAndMould 110 = .ok (.goto (-108), 3) := by decide +kernel
theorem d_Mod_frostAndMould_113 : decode b_Mod_frostAndMould 113 = .ok (.aload_n 0, 1) := by decide +kernel
theorem d_Mod_frostAndMould_114 : decode b_Mod_frostAndMould 114 = .ok (.getfield 127, 3) := by decide +kernel
theorem d_Mod_frostAndMould_117 : decode b_Mod_frostAndMould 117 = .ok (.iconst 1, 1) := by decide +kernel
theorem d_Mod_frostAndMould_118 : decode b_Mod_frostAndMould 118 = .ok (.isub, 1) := by decide +kernel
theorem d_Mod_frostAndMould_119 : decode b_Mod_frostAndMould 119 = .ok (.istore_n 1, 1) := by decide +kernel
theorem d_Mod_frostAndMould_120 : decode b_Mod_frostAndMould 120 = .ok (.aload_n 0, 1) := by decide +kernel
theorem d_Mod_frostAndMould_121 : decode b_Mod_frostAndMould 121 = .ok (.iload_n 1, 1) := by decide +kernel
theorem d_Mod_frostAndMould_122 : decode b_Mod_frostAndMould 122 = .ok (.invokevirtual 186, 3) := by decide +kernel
theorem d_Mod_frostAndMould_125 : decode b_Mod_frostAndMould 125 = .ok (.istore_n 2, 1) := by decide +kernel
theorem d_Mod_frostAndMould_126 : decode b_Mod_frostAndMould 126 = .ok (.iconst (-1), 1) := by decide +kernel
theorem d_Mod_frostAndMould_127 : decode b_Mod_frostAndMould 127 = .ok (.istore_n 3, 1) := by decide +kernel
theorem d_Mod_frostAndMould_128 : decode b_Mod_frostAndMould 128 = .ok (.aload_n 0, 1) := by decide +kernel
theorem d_Mod_frostAndMould_129 : decode b_Mod_frostAndMould 129 = .ok (.getfield 174, 3) := by decide +kernel
theorem d_Mod_frostAndMould_132 : decode b_Mod_frostAndMould 132 = .ok (.iconst 1, 1) := by decide +kernel
theorem d_Mod_frostAndMould_133 : decode b_Mod_frostAndMould 133 = .ok (.isub, 1) := by decide +kernel
theorem d_Mod_frostAndMould_134 : decode b_Mod_frostAndMould 134 = .ok (.istore 4, 2) := by decide +kernel
theorem d_Mod_frostAndMould_136 : decode b_Mod_frostAndMould 136 = .ok (.iload 4, 2) := by decide +kernel
theorem d_Mod_frostAndMould_138 : decode b_Mod_frostAndMould 138 = .ok (.ifCond .lt 61, 3) := by decide +kernel
theorem d_Mod_frostAndMould_141 : decode b_Mod_frostAndMould 141 = .ok (.iload_n 2, 1) := by decide +kernel
theorem d_Mod_frostAndMould_142 : decode b_Mod_frostAndMould 142 = .ok (.aload_n 0, 1) := by decide +kernel
theorem d_Mod_frostAndMould_143 : decode b_Mod_frostAndMould 143 = .ok (.getfield 85, 3) := by decide +kernel
theorem d_Mod_frostAndMould_146 : decode b_Mod_frostAndMould 146 = .ok (.iload 4, 2) := by decide +kernel
theorem d_Mod_frostAndMould_148 : decode b_Mod_frostAndMould 148 = .ok (.iaload, 1) := by decide +kernel
theorem d_Mod_frostAndMould_149 : decode b_Mod_frostAndMould 149 = .ok (.if_icmp .lt 42, 3) := by decide +kernel
theorem d_Mod_frostAndMould_152 : decode b_Mod_frostAndMould 152 = .ok (.aload_n 0, 1) := by decide +kernel
theorem d_Mod_frostAndMould_153 : decode b_Mod_frostAndMould 153 = .ok (.getfield 41, 3) := by decide +kernel
theorem d_Mod_frostAndMould_156 : decode b_Mod_frostAndMould 156 = .ok (.iload_n 1, 1) := by decide +kernel
theorem d_Mod_frostAndMould_157 : decode b_Mod_frostAndMould 157 = .ok (.iaload, 1) := by decide +kernel
theorem d_Mod_frostAndMould_158 : decode b_Mod_frostAndMould 158 = .ok (.i2l, 1) := by decide +kernel
theorem d_Mod_frostAndMould_159 : decode b_Mod_frostAndMould 159 = .ok (.aload_n 0, 1) := by decide +kernel
theorem d_Mod_frostAndMould_160 : decode b_Mod_frostAndMould 160 = .ok (.getfield 88, 3) := by decide +kernel
theorem d_Mod_frostAndMould_163 : decode b_Mod_frostAndMould 163 = .ok (.iload 4, 2) := by decide +kernel
theorem d_Mod_frostAndMould_165 : decode b_Mod_frostAndMould 165 = .ok (.iaload, 1) := by decide +kernel
theorem d_Mod_frostAndMould_166 : decode b_Mod_frostAndMould 166 = .ok (.i2l, 1) := by decide +kernel
theorem d_Mod_frostAndMould_167 : decode b_Mod_frostAndMould 167 = .ok (.aload_n 0, 1) := by decide +kernel
theorem d_Mod_frostAndMould_168 : decode b_Mod_frostAndMould 168 = .ok (.getfield 91, 3) := by decide +kernel
theorem d_Mod_frostAndMould_171 : decode b_Mod_frostAndMould 171 = .ok (.iload 4, 2) := by decide +kernel
theorem d_Mod_frostAndMould_173 : decode b_Mod_frostAndMould 173 = .ok (.iaload, 1) := by decide +kernel
theorem d_Mod_frostAndMould_174 : decode b_Mod_frostAndMould 174 = .ok (.i2l, 1) := by decide +kernel
theorem d_Mod_frostAndMould_175 : decode b_Mod_frostAndMould 175 = .ok (.invokestatic 133, 3) := by decide +kernel
theorem d_Mod_frostAndMould_178 : decode b_Mod_frostAndMould 178 = .ok (.ifCond .eq 13, 3) := by decide +kernel
theorem d_Mod_frostAndMould_181 : decode b_Mod_frostAndMould 181 = .ok (.aload_n 0, 1) := by decide +kernel
theorem d_Mod_frostAndMould_182 : decode b_Mod_frostAndMould 182 = .ok (.getfield 94, 3) := by decide +kernel
theorem d_Mod_frostAndMould_185 : decode b_Mod_frostAndMould 185 = .ok (.iload 4, 2) := by decide +kernel
theorem d_Mod_frostAndMould_187 : decode b_Mod_frostAndMould 187 = .ok (.iaload, 1) := by decide +kernel
theorem d_Mod_frostAndMould_188 : decode b_Mod_frostAndMould 188 = .ok (.goto 4, 3) := by decide +kernel
theorem d_Mod_frostAndMould_191 : decode b_Mod_frostAndMould 191 = .ok (.iload_n 3, 1) := by decide +kernel
theorem d_Mod_frostAndMould_192 : decode b_Mod_frostAndMould 192 = .ok (.istore_n 3, 1) := by decide +kernel
theorem d_Mod_frostAndMould_193 : decode b_Mod_frostAndMould 193 = .ok (.iinc 4 (-1), 3) := by decide +kernel
theorem d_Mod_frostAndMould_196 : decode b_Mod_frostAndMould 196 = .ok (.goto (-60), 3) := by decide +kernel
theorem d_Mod_frostAndMould_199 : decode b_Mod_frostAndMould 199 = .ok (.aload_n 0, 1) := by decide +kernel
theorem d_Mod_frostAndMould_200 : decode b_Mod_frostAndMould 200 = .ok (.dup, 1) := by decide +kernel
theorem d_Mod_frostAndMould_201 : decode b_Mod_frostAndMould 201 = .ok (.getfield 219, 3) := by decide +kernel
theorem d_Mod_frostAndMould_204 : decode b_Mod_frostAndMould 204 = .ok (.iload_n 3, 1) := by decide +kernel
theorem d_Mod_frostAndMould_205 : decode b_Mod_frostAndMould 205 = .ok (.iadd, 1) := by decide +kernel
theorem d_Mod_frostAndMould_206 : decode b_Mod_frostAndMould 206 = .ok (.putfield 219, 3) := by decide +kernel
theorem d_Mod_frostAndMould_209 : decode b_Mod_frostAndMould 209 = .ok (.aload_n 0, 1) := by decide +kernel
theorem d_Mod_frostAndMould_210 : decode b_Mod_frostAndMould 210 = .ok (.aload_n 0, 1) := by decide +kernel
theorem d_Mod_frostAndMould_211 : decode b_Mod_frostAndMould 211 = .ok (.getfield 219, 3) := by decide +kernel
theorem d_Mod_frostAndMould_214 : decode b_Mod_frostAndMould 214 = .ok (.ifCond .ge 7, 3) := by decide +kernel
theorem d_Mod_frostAndMould_217 : decode b_Mod_frostAndMould 217 = .ok (.iconst 0, 1) := by decide +kernel
theorem d_Mod_frostAndMould_218 : decode b_Mod_frostAndMould 218 = .ok (.goto 21, 3) := by decide +kernel
theorem d_Mod_frostAndMould_221 : decode b_Mod_frostAndMould 221 = .ok (.aload_n 0, 1) := by decide +kernel
theorem d_Mod_frostAndMould_222 : decode b_Mod_frostAndMould 222 = .ok (.getfield 219, 3) := by decide +kernel
theorem d_Mod_frostAndMould_225 : decode b_Mod_frostAndMould 225 = .ok (.ldc 222, 2) := by decide +kernel
theorem d_Mod_frostAndMould_227 : decode b_Mod_frostAndMould 227 = .ok (.if_icmp .le 8, 3) := by decide +kernel
theorem d_Mod_frostAndMould_230 : decode b_Mod_frostAndMould 230 = .ok (.ldc 222, 2) := by decide +kernel
theorem d_Mod_frostAndMould_232 : decode b_Mod_frostAndMould 232 = .ok (.goto 7, 3) := by decide +kernel
theorem d_Mod_frostAndMould_235 : decode b_Mod_frostAndMould 235 = .ok (.aload_n 0, 1) := by decide +kernel
theorem d_Mod_frostAndMould_236 : decode b_Mod_frostAndMould 236 = .ok (.getfield 219, 3) := by decide +kernel
theorem d_Mod_frostAndMould_239 : decode b_Mod_frostAndMould 239 = .ok (.putfield 219, 3) := by decide +kernel
theorem d_Mod_frostAndMould_242 : decode b_Mod_frostAndMould 242 = .ok (.return_, 1) := by decide +kernel
abbrev b_Mod_hour : ByteArray := prog_13_method_28_code
def y_Mod_hour : MethodName := ⟨"WallDampModel", "hour", "(I)V"⟩
def ws_Mod_hour : List Cond := .code y_Mod_hour b_Mod_hour 2 none :: x_tb
theorem pd_Mod_hour : y_Mod_hour.cls ≠ "java/lang/invoke/MethodHandle" ∧ y_Mod_hour.cls ≠ "java/lang/invoke/VarHandle" ∧ (parseMethodDescriptor y_Mod_hour.desc).map (fun d => d.parameters.length) = some 1 := by decide +kernel
theorem d_Mod_hour_0 : decode b_Mod_hour 0 = .ok (.aload_n 0, 1) := by decide +kernel
theorem d_Mod_hour_1 : decode b_Mod_hour 1 = .ok (.iload_n 1, 1) := by decide +kernel
theorem d_Mod_hour_2 : decode b_Mod_hour 2 = .ok (.invokevirtual 223, 3) := by decide +kernel
theorem d_Mod_hour_5 : decode b_Mod_hour 5 = .ok (.aload_n 0, 1) := by decide +kernel
theorem d_Mod_hour_6 : decode b_Mod_hour 6 = .ok (.iload_n 1, 1) := by decide +kernel
theorem d_Mod_hour_7 : decode b_Mod_hour 7 = .ok (.invokevirtual 226, 3) := by decide +kernel
theorem d_Mod_hour_10 : decode b_Mod_hour 10 = .ok (.aload_n 0, 1) := by decide +kernel
theorem d_Mod_hour_11 : decode b_Mod_hour 11 = .ok (.invokevirtual 229, 3) := by decide +kernel
theorem d_Mod_hour_14 : decode b_Mod_hour 14 = .ok (.return_, 1) := by decide +kernel
abbrev b_Mod_run : ByteArray := prog_13_method_29_code
def y_Mod_run : MethodName := ⟨"WallDampModel", "run", "(I)I"⟩
def ws_Mod_run : List Cond := .code y_Mod_run b_Mod_run 3 (some (.int)) :: x_tb
theorem pd_Mod_run : y_Mod_run.cls ≠ "java/lang/invoke/MethodHandle" ∧ y_Mod_run.cls ≠ "java/lang/invoke/VarHandle" ∧ (parseMethodDescriptor y_Mod_run.desc).map (fun d => d.parameters.length) = some 1 := by decide +kernel
theorem d_Mod_run_0 : decode b_Mod_run 0 = .ok (.aload_n 0, 1) := by decide +kernel
theorem d_Mod_run_1 : decode b_Mod_run 1 = .ok (.iload_n 1, 1) := by decide +kernel
theorem d_Mod_run_2 : decode b_Mod_run 2 = .ok (.i2l, 1) := by decide +kernel
theorem d_Mod_run_3 : decode b_Mod_run 3 = .ok (.lconst 1, 1) := by decide +kernel
theorem d_Mod_run_4 : decode b_Mod_run 4 = .ok (.ldc2_w 232, 3) := by decide +kernel
theorem d_Mod_run_7 : decode b_Mod_run 7 = .ok (.invokestatic 133, 3) := by decide +kernel
theorem d_Mod_run_10 : decode b_Mod_run 10 = .ok (.ifCond .ne 7, 3) := by decide +kernel
theorem d_Mod_run_13 : decode b_Mod_run 13 = .ok (.iconst 1, 1) := by decide +kernel
theorem d_Mod_run_14 : decode b_Mod_run 14 = .ok (.goto 20, 3) := by decide +kernel
theorem d_Mod_run_17 : decode b_Mod_run 17 = .ok (.aload_n 0, 1) := by decide +kernel
theorem d_Mod_run_18 : decode b_Mod_run 18 = .ok (.getfield 147, 3) := by decide +kernel
theorem d_Mod_run_21 : decode b_Mod_run 21 = .ok (.iload_n 1, 1) := by decide +kernel
theorem d_Mod_run_22 : decode b_Mod_run 22 = .ok (.iadd, 1) := by decide +kernel
theorem d_Mod_run_23 : decode b_Mod_run 23 = .ok (.sipush 10000, 3) := by decide +kernel
theorem d_Mod_run_26 : decode b_Mod_run 26 = .ok (.if_icmp .le 7, 3) := by decide +kernel
theorem d_Mod_run_29 : decode b_Mod_run 29 = .ok (.iconst 2, 1) := by decide +kernel
theorem d_Mod_run_30 : decode b_Mod_run 30 = .ok (.goto 4, 3) := by decide +kernel
theorem d_Mod_run_33 : decode b_Mod_run 33 = .ok (.iconst 0, 1) := by decide +kernel
theorem d_Mod_run_34 : decode b_Mod_run 34 = .ok (.putfield 130, 3) := by decide +kernel
theorem d_Mod_run_37 : decode b_Mod_run 37 = .ok (.aload_n 0, 1) := by decide +kernel
theorem d_Mod_run_38 : decode b_Mod_run 38 = .ok (.getfield 130, 3) := by decide +kernel
theorem d_Mod_run_41 : decode b_Mod_run 41 = .ok (.ifCond .le 5, 3) := by decide +kernel
theorem d_Mod_run_44 : decode b_Mod_run 44 = .ok (.iconst 0, 1) := by decide +kernel
theorem d_Mod_run_45 : decode b_Mod_run 45 = .ok (.ireturn, 1) := by decide +kernel
theorem d_Mod_run_46 : decode b_Mod_run 46 = .ok (.iconst 0, 1) := by decide +kernel
theorem d_Mod_run_47 : decode b_Mod_run 47 = .ok (.istore_n 2, 1) := by decide +kernel
theorem d_Mod_run_48 : decode b_Mod_run 48 = .ok (.iload_n 2, 1) := by decide +kernel
theorem d_Mod_run_49 : decode b_Mod_run 49 = .ok (.iload_n 1, 1) := by decide +kernel
theorem d_Mod_run_50 : decode b_Mod_run 50 = .ok (.if_icmp .ge 34, 3) := by decide +kernel
theorem d_Mod_run_53 : decode b_Mod_run 53 = .ok (.aload_n 0, 1) := by decide +kernel
theorem d_Mod_run_54 : decode b_Mod_run 54 = .ok (.aload_n 0, 1) := by decide +kernel
theorem d_Mod_run_55 : decode b_Mod_run 55 = .ok (.getfield 147, 3) := by decide +kernel
theorem d_Mod_run_58 : decode b_Mod_run 58 = .ok (.bipush 24, 2) := by decide +kernel
theorem d_Mod_run_60 : decode b_Mod_run 60 = .ok (.irem, 1) := by decide +kernel
theorem d_Mod_run_61 : decode b_Mod_run 61 = .ok (.invokevirtual 234, 3) := by decide +kernel
theorem d_Mod_run_64 : decode b_Mod_run 64 = .ok (.aload_n 0, 1) := by decide +kernel
theorem d_Mod_run_65 : decode b_Mod_run 65 = .ok (.invokevirtual 237, 3) := by decide +kernel
theorem d_Mod_run_68 : decode b_Mod_run 68 = .ok (.aload_n 0, 1) := by decide +kernel
theorem d_Mod_run_69 : decode b_Mod_run 69 = .ok (.dup, 1) := by decide +kernel
theorem d_Mod_run_70 : decode b_Mod_run 70 = .ok (.getfield 147, 3) := by decide +kernel
theorem d_Mod_run_73 : decode b_Mod_run 73 = .ok (.iconst 1, 1) := by decide +kernel
theorem d_Mod_run_74 : decode b_Mod_run 74 = .ok (.iadd, 1) := by decide +kernel
theorem d_Mod_run_75 : decode b_Mod_run 75 = .ok (.putfield 147, 3) := by decide +kernel
theorem d_Mod_run_78 : decode b_Mod_run 78 = .ok (.iinc 2 1, 3) := by decide +kernel
theorem d_Mod_run_81 : decode b_Mod_run 81 = .ok (.goto (-33), 3) := by decide +kernel
theorem d_Mod_run_84 : decode b_Mod_run 84 = .ok (.aload_n 0, 1) := by decide +kernel
theorem d_Mod_run_85 : decode b_Mod_run 85 = .ok (.getfield 147, 3) := by decide +kernel
theorem d_Mod_run_88 : decode b_Mod_run 88 = .ok (.ireturn, 1) := by decide +kernel
abbrev b_Mod_told : ByteArray := prog_13_method_30_code
def y_Mod_told : MethodName := ⟨"WallDampModel", "told", "(II)I"⟩
def ws_Mod_told : List Cond := .code y_Mod_told b_Mod_told 3 (some (.int)) :: x_tb
theorem pd_Mod_told : y_Mod_told.cls ≠ "java/lang/invoke/MethodHandle" ∧ y_Mod_told.cls ≠ "java/lang/invoke/VarHandle" ∧ (parseMethodDescriptor y_Mod_told.desc).map (fun d => d.parameters.length) = some 2 := by decide +kernel
theorem d_Mod_told_0 : decode b_Mod_told 0 = .ok (.aload_n 0, 1) := by decide +kernel
theorem d_Mod_told_1 : decode b_Mod_told 1 = .ok (.aload_n 0, 1) := by decide +kernel
theorem d_Mod_told_2 : decode b_Mod_told 2 = .ok (.iload_n 1, 1) := by decide +kernel
theorem d_Mod_told_3 : decode b_Mod_told 3 = .ok (.invokevirtual 152, 3) := by decide +kernel
theorem d_Mod_told_6 : decode b_Mod_told 6 = .ok (.ifCond .eq 19, 3) := by decide +kernel
theorem d_Mod_told_9 : decode b_Mod_told 9 = .ok (.iload_n 2, 1) := by decide +kernel
theorem d_Mod_told_10 : decode b_Mod_told 10 = .ok (.i2l, 1) := by decide +kernel
theorem d_Mod_told_11 : decode b_Mod_told 11 = .ok (.lconst 0, 1) := by decide +kernel
theorem d_Mod_told_12 : decode b_Mod_told 12 = .ok (.ldc2_w 137, 3) := by decide +kernel
theorem d_Mod_told_15 : decode b_Mod_told 15 = .ok (.invokestatic 133, 3) := by decide +kernel
theorem d_Mod_told_18 : decode b_Mod_told 18 = .ok (.ifCond .eq 7, 3) := by decide +kernel
theorem d_Mod_told_21 : decode b_Mod_told 21 = .ok (.iconst 0, 1) := by decide +kernel
theorem d_Mod_told_22 : decode b_Mod_told 22 = .ok (.goto 4, 3) := by decide +kernel
theorem d_Mod_told_25 : decode b_Mod_told 25 = .ok (.iconst 1, 1) := by decide +kernel
theorem d_Mod_told_26 : decode b_Mod_told 26 = .ok (.putfield 130, 3) := by decide +kernel
theorem d_Mod_told_29 : decode b_Mod_told 29 = .ok (.aload_n 0, 1) := by decide +kernel
theorem d_Mod_told_30 : decode b_Mod_told 30 = .ok (.getfield 130, 3) := by decide +kernel
theorem d_Mod_told_33 : decode b_Mod_told 33 = .ok (.ifCond .le 5, 3) := by decide +kernel
theorem d_Mod_told_36 : decode b_Mod_told 36 = .ok (.iconst 0, 1) := by decide +kernel
theorem d_Mod_told_37 : decode b_Mod_told 37 = .ok (.ireturn, 1) := by decide +kernel
theorem d_Mod_told_38 : decode b_Mod_told 38 = .ok (.iload_n 2, 1) := by decide +kernel
theorem d_Mod_told_39 : decode b_Mod_told 39 = .ok (.tableswitch 76 0 4 #[33, 41, 47, 54, 61], 33) := by decide +kernel
theorem d_Mod_told_72 : decode b_Mod_told 72 = .ok (.aload_n 0, 1) := by decide +kernel
theorem d_Mod_told_73 : decode b_Mod_told 73 = .ok (.getfield 34, 3) := by decide +kernel
theorem d_Mod_told_76 : decode b_Mod_told 76 = .ok (.iload_n 1, 1) := by decide +kernel
theorem d_Mod_told_77 : decode b_Mod_told 77 = .ok (.laload, 1) := by decide +kernel
theorem d_Mod_told_78 : decode b_Mod_told 78 = .ok (.l2i, 1) := by decide +kernel
theorem d_Mod_told_79 : decode b_Mod_told 79 = .ok (.ireturn, 1) := by decide +kernel
theorem d_Mod_told_80 : decode b_Mod_told 80 = .ok (.aload_n 0, 1) := by decide +kernel
theorem d_Mod_told_81 : decode b_Mod_told 81 = .ok (.iload_n 1, 1) := by decide +kernel
theorem d_Mod_told_82 : decode b_Mod_told 82 = .ok (.invokevirtual 186, 3) := by decide +kernel
theorem d_Mod_told_85 : decode b_Mod_told 85 = .ok (.ireturn, 1) := by decide +kernel
theorem d_Mod_told_86 : decode b_Mod_told 86 = .ok (.aload_n 0, 1) := by decide +kernel
theorem d_Mod_told_87 : decode b_Mod_told 87 = .ok (.getfield 41, 3) := by decide +kernel
theorem d_Mod_told_90 : decode b_Mod_told 90 = .ok (.iload_n 1, 1) := by decide +kernel
theorem d_Mod_told_91 : decode b_Mod_told 91 = .ok (.iaload, 1) := by decide +kernel
theorem d_Mod_told_92 : decode b_Mod_told 92 = .ok (.ireturn, 1) := by decide +kernel
theorem d_Mod_told_93 : decode b_Mod_told 93 = .ok (.aload_n 0, 1) := by decide +kernel
theorem d_Mod_told_94 : decode b_Mod_told 94 = .ok (.getfield 44, 3) := by decide +kernel
theorem d_Mod_told_97 : decode b_Mod_told 97 = .ok (.iload_n 1, 1) := by decide +kernel
theorem d_Mod_told_98 : decode b_Mod_told 98 = .ok (.iaload, 1) := by decide +kernel
theorem d_Mod_told_99 : decode b_Mod_told 99 = .ok (.ireturn, 1) := by decide +kernel
theorem d_Mod_told_100 : decode b_Mod_told 100 = .ok (.aload_n 0, 1) := by decide +kernel
theorem d_Mod_told_101 : decode b_Mod_told 101 = .ok (.getfield 47, 3) := by decide +kernel
theorem d_Mod_told_104 : decode b_Mod_told 104 = .ok (.iload_n 1, 1) := by decide +kernel
theorem d_Mod_told_105 : decode b_Mod_told 105 = .ok (.baload, 1) := by decide +kernel
theorem d_Mod_told_106 : decode b_Mod_told 106 = .ok (.ifCond .eq 7, 3) := by decide +kernel
theorem d_Mod_told_109 : decode b_Mod_told 109 = .ok (.iconst 1, 1) := by decide +kernel
theorem d_Mod_told_110 : decode b_Mod_told 110 = .ok (.goto 4, 3) := by decide +kernel
theorem d_Mod_told_113 : decode b_Mod_told 113 = .ok (.iconst 0, 1) := by decide +kernel
theorem d_Mod_told_114 : decode b_Mod_told 114 = .ok (.ireturn, 1) := by decide +kernel
theorem d_Mod_told_115 : decode b_Mod_told 115 = .ok (.aload_n 0, 1) := by decide +kernel
theorem d_Mod_told_116 : decode b_Mod_told 116 = .ok (.getfield 51, 3) := by decide +kernel
theorem d_Mod_told_119 : decode b_Mod_told 119 = .ok (.iload_n 1, 1) := by decide +kernel
theorem d_Mod_told_120 : decode b_Mod_told 120 = .ok (.iaload, 1) := by decide +kernel
theorem d_Mod_told_121 : decode b_Mod_told 121 = .ok (.ireturn, 1) := by decide +kernel
abbrev b_Mod_allWater : ByteArray := prog_13_method_31_code
def y_Mod_allWater : MethodName := ⟨"WallDampModel", "allWater", "()J"⟩
def ws_Mod_allWater : List Cond := .code y_Mod_allWater b_Mod_allWater 4 (some (.long)) :: x_tb
theorem pd_Mod_allWater : y_Mod_allWater.cls ≠ "java/lang/invoke/MethodHandle" ∧ y_Mod_allWater.cls ≠ "java/lang/invoke/VarHandle" ∧ (parseMethodDescriptor y_Mod_allWater.desc).map (fun d => d.parameters.length) = some 0 := by decide +kernel
theorem d_Mod_allWater_0 : decode b_Mod_allWater 0 = .ok (.lconst 0, 1) := by decide +kernel
theorem d_Mod_allWater_1 : decode b_Mod_allWater 1 = .ok (.lstore_n 1, 1) := by decide +kernel
theorem d_Mod_allWater_2 : decode b_Mod_allWater 2 = .ok (.iconst 0, 1) := by decide +kernel
theorem d_Mod_allWater_3 : decode b_Mod_allWater 3 = .ok (.istore_n 3, 1) := by decide +kernel
theorem d_Mod_allWater_4 : decode b_Mod_allWater 4 = .ok (.iload_n 3, 1) := by decide +kernel
theorem d_Mod_allWater_5 : decode b_Mod_allWater 5 = .ok (.aload_n 0, 1) := by decide +kernel
theorem d_Mod_allWater_6 : decode b_Mod_allWater 6 = .ok (.getfield 127, 3) := by decide +kernel
theorem d_Mod_allWater_9 : decode b_Mod_allWater 9 = .ok (.if_icmp .ge 18, 3) := by decide +kernel
theorem d_Mod_allWater_12 : decode b_Mod_allWater 12 = .ok (.lload_n 1, 1) := by decide +kernel
theorem d_Mod_allWater_13 : decode b_Mod_allWater 13 = .ok (.aload_n 0, 1) := by decide +kernel
theorem d_Mod_allWater_14 : decode b_Mod_allWater 14 = .ok (.getfield 34, 3) := by decide +kernel
theorem d_Mod_allWater_17 : decode b_Mod_allWater 17 = .ok (.iload_n 3, 1) := by decide +kernel
theorem d_Mod_allWater_18 : decode b_Mod_allWater 18 = .ok (.laload, 1) := by decide +kernel
theorem d_Mod_allWater_19 : decode b_Mod_allWater 19 = .ok (.ladd, 1) := by decide +kernel
theorem d_Mod_allWater_20 : decode b_Mod_allWater 20 = .ok (.lstore_n 1, 1) := by decide +kernel
theorem d_Mod_allWater_21 : decode b_Mod_allWater 21 = .ok (.iinc 3 1, 3) := by decide +kernel
theorem d_Mod_allWater_24 : decode b_Mod_allWater 24 = .ok (.goto (-20), 3) := by decide +kernel
theorem d_Mod_allWater_27 : decode b_Mod_allWater 27 = .ok (.lload_n 1, 1) := by decide +kernel
theorem d_Mod_allWater_28 : decode b_Mod_allWater 28 = .ok (.lreturn, 1) := by decide +kernel
abbrev b_Mod_balance : ByteArray := prog_13_method_32_code
def y_Mod_balance : MethodName := ⟨"WallDampModel", "balance", "(I)J"⟩
def ws_Mod_balance : List Cond := .code y_Mod_balance b_Mod_balance 2 (some (.long)) :: x_tb
theorem pd_Mod_balance : y_Mod_balance.cls ≠ "java/lang/invoke/MethodHandle" ∧ y_Mod_balance.cls ≠ "java/lang/invoke/VarHandle" ∧ (parseMethodDescriptor y_Mod_balance.desc).map (fun d => d.parameters.length) = some 1 := by decide +kernel
theorem d_Mod_balance_0 : decode b_Mod_balance 0 = .ok (.aload_n 0, 1) := by decide +kernel
theorem d_Mod_balance_1 : decode b_Mod_balance 1 = .ok (.iload_n 1, 1) := by decide +kernel
theorem d_Mod_balance_2 : decode b_Mod_balance 2 = .ok (.i2l, 1) := by decide +kernel
theorem d_Mod_balance_3 : decode b_Mod_balance 3 = .ok (.lconst 0, 1) := by decide +kernel
theorem d_Mod_balance_4 : decode b_Mod_balance 4 = .ok (.ldc2_w 137, 3) := by decide +kernel
theorem d_Mod_balance_7 : decode b_Mod_balance 7 = .ok (.invokestatic 133, 3) := by decide +kernel
theorem d_Mod_balance_10 : decode b_Mod_balance 10 = .ok (.ifCond .eq 7, 3) := by decide +kernel
theorem d_Mod_balance_13 : decode b_Mod_balance 13 = .ok (.iconst 0, 1) := by decide +kernel
theorem d_Mod_balance_14 : decode b_Mod_balance 14 = .ok (.goto 4, 3) := by decide +kernel
theorem d_Mod_balance_17 : decode b_Mod_balance 17 = .ok (.iconst 1, 1) := by decide +kernel
theorem d_Mod_balance_18 : decode b_Mod_balance 18 = .ok (.putfield 130, 3) := by decide +kernel
theorem d_Mod_balance_21 : decode b_Mod_balance 21 = .ok (.aload_n 0, 1) := by decide +kernel
theorem d_Mod_balance_22 : decode b_Mod_balance 22 = .ok (.getfield 130, 3) := by decide +kernel
theorem d_Mod_balance_25 : decode b_Mod_balance 25 = .ok (.ifCond .le 5, 3) := by decide +kernel
theorem d_Mod_balance_28 : decode b_Mod_balance 28 = .ok (.lconst 0, 1) := by decide +kernel
theorem d_Mod_balance_29 : decode b_Mod_balance 29 = .ok (.lreturn, 1) := by decide +kernel
theorem d_Mod_balance_30 : decode b_Mod_balance 30 = .ok (.iload_n 1, 1) := by decide +kernel
theorem d_Mod_balance_31 : decode b_Mod_balance 31 = .ok (.tableswitch 58 0 4 #[33, 38, 43, 48, 53], 33) := by decide +kernel
theorem d_Mod_balance_64 : decode b_Mod_balance 64 = .ok (.aload_n 0, 1) := by decide +kernel
theorem d_Mod_balance_65 : decode b_Mod_balance 65 = .ok (.invokevirtual 240, 3) := by decide +kernel
theorem d_Mod_balance_68 : decode b_Mod_balance 68 = .ok (.lreturn, 1) := by decide +kernel
theorem d_Mod_balance_69 : decode b_Mod_balance 69 = .ok (.aload_n 0, 1) := by decide +kernel
theorem d_Mod_balance_70 : decode b_Mod_balance 70 = .ok (.getfield 207, 3) := by decide +kernel
theorem d_Mod_balance_73 : decode b_Mod_balance 73 = .ok (.lreturn, 1) := by decide +kernel
theorem d_Mod_balance_74 : decode b_Mod_balance 74 = .ok (.aload_n 0, 1) := by decide +kernel
theorem d_Mod_balance_75 : decode b_Mod_balance 75 = .ok (.getfield 210, 3) := by decide +kernel
theorem d_Mod_balance_78 : decode b_Mod_balance 78 = .ok (.lreturn, 1) := by decide +kernel
theorem d_Mod_balance_79 : decode b_Mod_balance 79 = .ok (.aload_n 0, 1) := by decide +kernel
theorem d_Mod_balance_80 : decode b_Mod_balance 80 = .ok (.getfield 213, 3) := by decide +kernel
theorem d_Mod_balance_83 : decode b_Mod_balance 83 = .ok (.lreturn, 1) := by decide +kernel
theorem d_Mod_balance_84 : decode b_Mod_balance 84 = .ok (.aload_n 0, 1) := by decide +kernel
theorem d_Mod_balance_85 : decode b_Mod_balance 85 = .ok (.getfield 216, 3) := by decide +kernel
theorem d_Mod_balance_88 : decode b_Mod_balance 88 = .ok (.lreturn, 1) := by decide +kernel
theorem d_Mod_balance_89 : decode b_Mod_balance 89 = .ok (.aload_n 0, 1) := by decide +kernel
theorem d_Mod_balance_90 : decode b_Mod_balance 90 = .ok (.getfield 156, 3) := by decide +kernel
theorem d_Mod_balance_93 : decode b_Mod_balance 93 = .ok (.lreturn, 1) := by decide +kernel
abbrev b_Mod_mould : ByteArray := prog_13_method_33_code
def y_Mod_mould : MethodName := ⟨"WallDampModel", "mould", "()I"⟩
def ws_Mod_mould : List Cond := .code y_Mod_mould b_Mod_mould 1 (some (.int)) :: x_tb
theorem pd_Mod_mould : y_Mod_mould.cls ≠ "java/lang/invoke/MethodHandle" ∧ y_Mod_mould.cls ≠ "java/lang/invoke/VarHandle" ∧ (parseMethodDescriptor y_Mod_mould.desc).map (fun d => d.parameters.length) = some 0 := by decide +kernel
theorem d_Mod_mould_0 : decode b_Mod_mould 0 = .ok (.aload_n 0, 1) := by decide +kernel
theorem d_Mod_mould_1 : decode b_Mod_mould 1 = .ok (.iconst 0, 1) := by decide +kernel
theorem d_Mod_mould_2 : decode b_Mod_mould 2 = .ok (.putfield 130, 3) := by decide +kernel
theorem d_Mod_mould_5 : decode b_Mod_mould 5 = .ok (.aload_n 0, 1) := by decide +kernel
theorem d_Mod_mould_6 : decode b_Mod_mould 6 = .ok (.getfield 219, 3) := by decide +kernel
theorem d_Mod_mould_9 : decode b_Mod_mould 9 = .ok (.ireturn, 1) := by decide +kernel
abbrev b_Mod_next : ByteArray := prog_13_method_34_code
def y_Mod_next : MethodName := ⟨"WallDampModel", "next", "()Z"⟩
def ws_Mod_next : List Cond := .code y_Mod_next b_Mod_next 5 (some (.boolean)) :: x_tb
theorem pd_Mod_next : y_Mod_next.cls ≠ "java/lang/invoke/MethodHandle" ∧ y_Mod_next.cls ≠ "java/lang/invoke/VarHandle" ∧ (parseMethodDescriptor y_Mod_next.desc).map (fun d => d.parameters.length) = some 0 := by decide +kernel
theorem d_Mod_next_0 : decode b_Mod_next 0 = .ok (.aload_n 0, 1) := by decide +kernel
theorem d_Mod_next_1 : decode b_Mod_next 1 = .ok (.getfield 127, 3) := by decide +kernel
theorem d_Mod_next_4 : decode b_Mod_next 4 = .ok (.iconst 1, 1) := by decide +kernel
theorem d_Mod_next_5 : decode b_Mod_next 5 = .ok (.isub, 1) := by decide +kernel
theorem d_Mod_next_6 : decode b_Mod_next 6 = .ok (.istore_n 1, 1) := by decide +kernel
theorem d_Mod_next_7 : decode b_Mod_next 7 = .ok (.iload_n 1, 1) := by decide +kernel
theorem d_Mod_next_8 : decode b_Mod_next 8 = .ok (.ifCond .lt 166, 3) := by decide +kernel
theorem d_Mod_next_11 : decode b_Mod_next 11 = .ok (.aload_n 0, 1) := by decide +kernel
theorem d_Mod_next_12 : decode b_Mod_next 12 = .ok (.getfield 115, 3) := by decide +kernel
theorem d_Mod_next_15 : decode b_Mod_next 15 = .ok (.iload_n 1, 1) := by decide +kernel
theorem d_Mod_next_16 : decode b_Mod_next 16 = .ok (.iaload, 1) := by decide +kernel
theorem d_Mod_next_17 : decode b_Mod_next 17 = .ok (.iconst 1, 1) := by decide +kernel
theorem d_Mod_next_18 : decode b_Mod_next 18 = .ok (.iadd, 1) := by decide +kernel
theorem d_Mod_next_19 : decode b_Mod_next 19 = .ok (.istore_n 2, 1) := by decide +kernel
theorem d_Mod_next_20 : decode b_Mod_next 20 = .ok (.iconst 0, 1) := by decide +kernel
theorem d_Mod_next_21 : decode b_Mod_next 21 = .ok (.istore_n 3, 1) := by decide +kernel
theorem d_Mod_next_22 : decode b_Mod_next 22 = .ok (.iload_n 3, 1) := by decide +kernel
theorem d_Mod_next_23 : decode b_Mod_next 23 = .ok (.aload_n 0, 1) := by decide +kernel
theorem d_Mod_next_24 : decode b_Mod_next 24 = .ok (.getfield 127, 3) := by decide +kernel
theorem d_Mod_next_27 : decode b_Mod_next 27 = .ok (.if_icmp .ge 16, 3) := by decide +kernel
theorem d_Mod_next_30 : decode b_Mod_next 30 = .ok (.aload_n 0, 1) := by decide +kernel
theorem d_Mod_next_31 : decode b_Mod_next 31 = .ok (.getfield 121, 3) := by decide +kernel
theorem d_Mod_next_34 : decode b_Mod_next 34 = .ok (.iload_n 3, 1) := by decide +kernel
theorem d_Mod_next_35 : decode b_Mod_next 35 = .ok (.iconst 0, 1) := by decide +kernel
theorem d_Mod_next_36 : decode b_Mod_next 36 = .ok (.bastore, 1) := by decide +kernel
theorem d_Mod_next_37 : decode b_Mod_next 37 = .ok (.iinc 3 1, 3) := by decide +kernel
theorem d_Mod_next_40 : decode b_Mod_next 40 = .ok (.goto (-18), 3) := by decide +kernel
theorem d_Mod_next_43 : decode b_Mod_next 43 = .ok (.iconst 0, 1) := by decide +kernel
theorem d_Mod_next_44 : decode b_Mod_next 44 = .ok (.istore_n 3, 1) := by decide +kernel
theorem d_Mod_next_45 : decode b_Mod_next 45 = .ok (.iload_n 3, 1) := by decide +kernel
theorem d_Mod_next_46 : decode b_Mod_next 46 = .ok (.iload_n 1, 1) := by decide +kernel
theorem d_Mod_next_47 : decode b_Mod_next 47 = .ok (.if_icmp .ge 21, 3) := by decide +kernel
theorem d_Mod_next_50 : decode b_Mod_next 50 = .ok (.aload_n 0, 1) := by decide +kernel
theorem d_Mod_next_51 : decode b_Mod_next 51 = .ok (.getfield 121, 3) := by decide +kernel
theorem d_Mod_next_54 : decode b_Mod_next 54 = .ok (.aload_n 0, 1) := by decide +kernel
theorem d_Mod_next_55 : decode b_Mod_next 55 = .ok (.getfield 115, 3) := by decide +kernel
theorem d_Mod_next_58 : decode b_Mod_next 58 = .ok (.iload_n 3, 1) := by decide +kernel
theorem d_Mod_next_59 : decode b_Mod_next 59 = .ok (.iaload, 1) := by decide +kernel
theorem d_Mod_next_60 : decode b_Mod_next 60 = .ok (.iconst 1, 1) := by decide +kernel
theorem d_Mod_next_61 : decode b_Mod_next 61 = .ok (.bastore, 1) := by decide +kernel
theorem d_Mod_next_62 : decode b_Mod_next 62 = .ok (.iinc 3 1, 3) := by decide +kernel
theorem d_Mod_next_65 : decode b_Mod_next 65 = .ok (.goto (-20), 3) := by decide +kernel
theorem d_Mod_next_68 : decode b_Mod_next 68 = .ok (.iload_n 2, 1) := by decide +kernel
theorem d_Mod_next_69 : decode b_Mod_next 69 = .ok (.aload_n 0, 1) := by decide +kernel
theorem d_Mod_next_70 : decode b_Mod_next 70 = .ok (.getfield 127, 3) := by decide +kernel
theorem d_Mod_next_73 : decode b_Mod_next 73 = .ok (.if_icmp .ge 18, 3) := by decide +kernel
theorem d_Mod_next_76 : decode b_Mod_next 76 = .ok (.aload_n 0, 1) := by decide +kernel
theorem d_Mod_next_77 : decode b_Mod_next 77 = .ok (.getfield 121, 3) := by decide +kernel
theorem d_Mod_next_80 : decode b_Mod_next 80 = .ok (.iload_n 2, 1) := by decide +kernel
theorem d_Mod_next_81 : decode b_Mod_next 81 = .ok (.baload, 1) := by decide +kernel
theorem d_Mod_next_82 : decode b_Mod_next 82 = .ok (.ifCond .eq 9, 3) := by decide +kernel
theorem d_Mod_next_85 : decode b_Mod_next 85 = .ok (.iinc 2 1, 3) := by decide +kernel
theorem d_Mod_next_88 : decode b_Mod_next 88 = .ok (.goto (-20), 3) := by decide +kernel
theorem d_Mod_next_91 : decode b_Mod_next 91 = .ok (.iload_n 2, 1) := by decide +kernel
theorem d_Mod_next_92 : decode b_Mod_next 92 = .ok (.aload_n 0, 1) := by decide +kernel
theorem d_Mod_next_93 : decode b_Mod_next 93 = .ok (.getfield 127, 3) := by decide +kernel
theorem d_Mod_next_96 : decode b_Mod_next 96 = .ok (.if_icmp .ge 72, 3) := by decide +kernel
theorem d_Mod_next_99 : decode b_Mod_next 99 = .ok (.aload_n 0, 1) := by decide +kernel
theorem d_Mod_next_100 : decode b_Mod_next 100 = .ok (.getfield 115, 3) := by decide +kernel
theorem d_Mod_next_103 : decode b_Mod_next 103 = .ok (.iload_n 1, 1) := by decide +kernel
theorem d_Mod_next_104 : decode b_Mod_next 104 = .ok (.iload_n 2, 1) := by decide +kernel
theorem d_Mod_next_105 : decode b_Mod_next 105 = .ok (.iastore, 1) := by decide +kernel
theorem d_Mod_next_106 : decode b_Mod_next 106 = .ok (.aload_n 0, 1) := by decide +kernel
theorem d_Mod_next_107 : decode b_Mod_next 107 = .ok (.getfield 121, 3) := by decide +kernel
theorem d_Mod_next_110 : decode b_Mod_next 110 = .ok (.iload_n 2, 1) := by decide +kernel
theorem d_Mod_next_111 : decode b_Mod_next 111 = .ok (.iconst 1, 1) := by decide +kernel
theorem d_Mod_next_112 : decode b_Mod_next 112 = .ok (.bastore, 1) := by decide +kernel
theorem d_Mod_next_113 : decode b_Mod_next 113 = .ok (.iload_n 1, 1) := by decide +kernel
theorem d_Mod_next_114 : decode b_Mod_next 114 = .ok (.iconst 1, 1) := by decide +kernel
theorem d_Mod_next_115 : decode b_Mod_next 115 = .ok (.iadd, 1) := by decide +kernel
theorem d_Mod_next_116 : decode b_Mod_next 116 = .ok (.istore_n 3, 1) := by decide +kernel
theorem d_Mod_next_117 : decode b_Mod_next 117 = .ok (.iload_n 3, 1) := by decide +kernel
theorem d_Mod_next_118 : decode b_Mod_next 118 = .ok (.aload_n 0, 1) := by decide +kernel
theorem d_Mod_next_119 : decode b_Mod_next 119 = .ok (.getfield 127, 3) := by decide +kernel
theorem d_Mod_next_122 : decode b_Mod_next 122 = .ok (.if_icmp .ge 44, 3) := by decide +kernel
theorem d_Mod_next_125 : decode b_Mod_next 125 = .ok (.iconst 0, 1) := by decide +kernel
theorem d_Mod_next_126 : decode b_Mod_next 126 = .ok (.istore 4, 2) := by decide +kernel
theorem d_Mod_next_128 : decode b_Mod_next 128 = .ok (.aload_n 0, 1) := by decide +kernel
theorem d_Mod_next_129 : decode b_Mod_next 129 = .ok (.getfield 121, 3) := by decide +kernel
theorem d_Mod_next_132 : decode b_Mod_next 132 = .ok (.iload 4, 2) := by decide +kernel
theorem d_Mod_next_134 : decode b_Mod_next 134 = .ok (.baload, 1) := by decide +kernel
theorem d_Mod_next_135 : decode b_Mod_next 135 = .ok (.ifCond .eq 9, 3) := by decide +kernel
theorem d_Mod_next_138 : decode b_Mod_next 138 = .ok (.iinc 4 1, 3) := by decide +kernel
theorem d_Mod_next_141 : decode b_Mod_next 141 = .ok (.goto (-13), 3) := by decide +kernel
theorem d_Mod_next_144 : decode b_Mod_next 144 = .ok (.aload_n 0, 1) := by decide +kernel
theorem d_Mod_next_145 : decode b_Mod_next 145 = .ok (.getfield 115, 3) := by decide +kernel
theorem d_Mod_next_148 : decode b_Mod_next 148 = .ok (.iload_n 3, 1) := by decide +kernel
theorem d_Mod_next_149 : decode b_Mod_next 149 = .ok (.iload 4, 2) := by decide +kernel
theorem d_Mod_next_151 : decode b_Mod_next 151 = .ok (.iastore, 1) := by decide +kernel
theorem d_Mod_next_152 : decode b_Mod_next 152 = .ok (.aload_n 0, 1) := by decide +kernel
theorem d_Mod_next_153 : decode b_Mod_next 153 = .ok (.getfield 121, 3) := by decide +kernel
theorem d_Mod_next_156 : decode b_Mod_next 156 = .ok (.iload 4, 2) := by decide +kernel
theorem d_Mod_next_158 : decode b_Mod_next 158 = .ok (.iconst 1, 1) := by decide +kernel
theorem d_Mod_next_159 : decode b_Mod_next 159 = .ok (.bastore, 1) := by decide +kernel
theorem d_Mod_next_160 : decode b_Mod_next 160 = .ok (.iinc 3 1, 3) := by decide +kernel
theorem d_Mod_next_163 : decode b_Mod_next 163 = .ok (.goto (-46), 3) := by decide +kernel
theorem d_Mod_next_166 : decode b_Mod_next 166 = .ok (.iconst 1, 1) := by decide +kernel
theorem d_Mod_next_167 : decode b_Mod_next 167 = .ok (.ireturn, 1) := by decide +kernel
theorem d_Mod_next_168 : decode b_Mod_next 168 = .ok (.iinc 1 (-1), 3) := by decide +kernel
theorem d_Mod_next_171 : decode b_Mod_next 171 = .ok (.goto (-164), 3) := by decide +kernel
theorem d_Mod_next_174 : decode b_Mod_next 174 = .ok (.iconst 0, 1) := by decide +kernel
theorem d_Mod_next_175 : decode b_Mod_next 175 = .ok (.ireturn, 1) := by decide +kernel
abbrev b_Mod_dry : ByteArray := prog_13_method_35_code
def y_Mod_dry : MethodName := ⟨"WallDampModel", "dry", "(I)J"⟩
def ws_Mod_dry : List Cond := .code y_Mod_dry b_Mod_dry 3 (some (.long)) :: x_tb
theorem pd_Mod_dry : y_Mod_dry.cls ≠ "java/lang/invoke/MethodHandle" ∧ y_Mod_dry.cls ≠ "java/lang/invoke/VarHandle" ∧ (parseMethodDescriptor y_Mod_dry.desc).map (fun d => d.parameters.length) = some 1 := by decide +kernel
theorem d_Mod_dry_0 : decode b_Mod_dry 0 = .ok (.iconst 0, 1) := by decide +kernel
theorem d_Mod_dry_1 : decode b_Mod_dry 1 = .ok (.istore_n 2, 1) := by decide +kernel
theorem d_Mod_dry_2 : decode b_Mod_dry 2 = .ok (.iload_n 2, 1) := by decide +kernel
theorem d_Mod_dry_3 : decode b_Mod_dry 3 = .ok (.aload_n 0, 1) := by decide +kernel
theorem d_Mod_dry_4 : decode b_Mod_dry 4 = .ok (.getfield 127, 3) := by decide +kernel
theorem d_Mod_dry_7 : decode b_Mod_dry 7 = .ok (.if_icmp .ge 67, 3) := by decide +kernel
theorem d_Mod_dry_10 : decode b_Mod_dry 10 = .ok (.aload_n 0, 1) := by decide +kernel
theorem d_Mod_dry_11 : decode b_Mod_dry 11 = .ok (.getfield 28, 3) := by decide +kernel
theorem d_Mod_dry_14 : decode b_Mod_dry 14 = .ok (.iload_n 2, 1) := by decide +kernel
theorem d_Mod_dry_15 : decode b_Mod_dry 15 = .ok (.aload_n 0, 1) := by decide +kernel
theorem d_Mod_dry_16 : decode b_Mod_dry 16 = .ok (.getfield 106, 3) := by decide +kernel
theorem d_Mod_dry_19 : decode b_Mod_dry 19 = .ok (.aload_n 0, 1) := by decide +kernel
theorem d_Mod_dry_20 : decode b_Mod_dry 20 = .ok (.getfield 115, 3) := by decide +kernel
theorem d_Mod_dry_23 : decode b_Mod_dry 23 = .ok (.iload_n 2, 1) := by decide +kernel
theorem d_Mod_dry_24 : decode b_Mod_dry 24 = .ok (.iaload, 1) := by decide +kernel
theorem d_Mod_dry_25 : decode b_Mod_dry 25 = .ok (.iaload, 1) := by decide +kernel
theorem d_Mod_dry_26 : decode b_Mod_dry 26 = .ok (.iastore, 1) := by decide +kernel
theorem d_Mod_dry_27 : decode b_Mod_dry 27 = .ok (.aload_n 0, 1) := by decide +kernel
theorem d_Mod_dry_28 : decode b_Mod_dry 28 = .ok (.getfield 31, 3) := by decide +kernel
theorem d_Mod_dry_31 : decode b_Mod_dry 31 = .ok (.iload_n 2, 1) := by decide +kernel
theorem d_Mod_dry_32 : decode b_Mod_dry 32 = .ok (.aload_n 0, 1) := by decide +kernel
theorem d_Mod_dry_33 : decode b_Mod_dry 33 = .ok (.getfield 109, 3) := by decide +kernel
theorem d_Mod_dry_36 : decode b_Mod_dry 36 = .ok (.aload_n 0, 1) := by decide +kernel
theorem d_Mod_dry_37 : decode b_Mod_dry 37 = .ok (.getfield 115, 3) := by decide +kernel
theorem d_Mod_dry_40 : decode b_Mod_dry 40 = .ok (.iload_n 2, 1) := by decide +kernel
theorem d_Mod_dry_41 : decode b_Mod_dry 41 = .ok (.iaload, 1) := by decide +kernel
theorem d_Mod_dry_42 : decode b_Mod_dry 42 = .ok (.iaload, 1) := by decide +kernel
theorem d_Mod_dry_43 : decode b_Mod_dry 43 = .ok (.iastore, 1) := by decide +kernel
theorem d_Mod_dry_44 : decode b_Mod_dry 44 = .ok (.aload_n 0, 1) := by decide +kernel
theorem d_Mod_dry_45 : decode b_Mod_dry 45 = .ok (.getfield 38, 3) := by decide +kernel
theorem d_Mod_dry_48 : decode b_Mod_dry 48 = .ok (.iload_n 2, 1) := by decide +kernel
theorem d_Mod_dry_49 : decode b_Mod_dry 49 = .ok (.aload_n 0, 1) := by decide +kernel
theorem d_Mod_dry_50 : decode b_Mod_dry 50 = .ok (.getfield 112, 3) := by decide +kernel
theorem d_Mod_dry_53 : decode b_Mod_dry 53 = .ok (.aload_n 0, 1) := by decide +kernel
theorem d_Mod_dry_54 : decode b_Mod_dry 54 = .ok (.getfield 115, 3) := by decide +kernel
theorem d_Mod_dry_57 : decode b_Mod_dry 57 = .ok (.iload_n 2, 1) := by decide +kernel
theorem d_Mod_dry_58 : decode b_Mod_dry 58 = .ok (.iaload, 1) := by decide +kernel
theorem d_Mod_dry_59 : decode b_Mod_dry 59 = .ok (.iaload, 1) := by decide +kernel
theorem d_Mod_dry_60 : decode b_Mod_dry 60 = .ok (.iastore, 1) := by decide +kernel
theorem d_Mod_dry_61 : decode b_Mod_dry 61 = .ok (.aload_n 0, 1) := by decide +kernel
theorem d_Mod_dry_62 : decode b_Mod_dry 62 = .ok (.getfield 34, 3) := by decide +kernel
theorem d_Mod_dry_65 : decode b_Mod_dry 65 = .ok (.iload_n 2, 1) := by decide +kernel
theorem d_Mod_dry_66 : decode b_Mod_dry 66 = .ok (.lconst 0, 1) := by decide +kernel
theorem d_Mod_dry_67 : decode b_Mod_dry 67 = .ok (.lastore, 1) := by decide +kernel
theorem d_Mod_dry_68 : decode b_Mod_dry 68 = .ok (.iinc 2 1, 3) := by decide +kernel
theorem d_Mod_dry_71 : decode b_Mod_dry 71 = .ok (.goto (-69), 3) := by decide +kernel
theorem d_Mod_dry_74 : decode b_Mod_dry 74 = .ok (.iconst 0, 1) := by decide +kernel
theorem d_Mod_dry_75 : decode b_Mod_dry 75 = .ok (.istore_n 2, 1) := by decide +kernel
theorem d_Mod_dry_76 : decode b_Mod_dry 76 = .ok (.iload_n 2, 1) := by decide +kernel
theorem d_Mod_dry_77 : decode b_Mod_dry 77 = .ok (.iload_n 1, 1) := by decide +kernel
theorem d_Mod_dry_78 : decode b_Mod_dry 78 = .ok (.if_icmp .ge 17, 3) := by decide +kernel
theorem d_Mod_dry_81 : decode b_Mod_dry 81 = .ok (.aload_n 0, 1) := by decide +kernel
theorem d_Mod_dry_82 : decode b_Mod_dry 82 = .ok (.iload_n 2, 1) := by decide +kernel
theorem d_Mod_dry_83 : decode b_Mod_dry 83 = .ok (.bipush 24, 2) := by decide +kernel
theorem d_Mod_dry_85 : decode b_Mod_dry 85 = .ok (.irem, 1) := by decide +kernel
theorem d_Mod_dry_86 : decode b_Mod_dry 86 = .ok (.invokevirtual 234, 3) := by decide +kernel
theorem d_Mod_dry_89 : decode b_Mod_dry 89 = .ok (.iinc 2 1, 3) := by decide +kernel
theorem d_Mod_dry_92 : decode b_Mod_dry 92 = .ok (.goto (-16), 3) := by decide +kernel
theorem d_Mod_dry_95 : decode b_Mod_dry 95 = .ok (.aload_n 0, 1) := by decide +kernel
theorem d_Mod_dry_96 : decode b_Mod_dry 96 = .ok (.invokevirtual 240, 3) := by decide +kernel
theorem d_Mod_dry_99 : decode b_Mod_dry 99 = .ok (.lreturn, 1) := by decide +kernel
abbrev b_Mod_order : ByteArray := prog_13_method_36_code
def y_Mod_order : MethodName := ⟨"WallDampModel", "order", "(II)I"⟩
def ws_Mod_order : List Cond := .code y_Mod_order b_Mod_order 10 (some (.int)) :: x_tb
theorem pd_Mod_order : y_Mod_order.cls ≠ "java/lang/invoke/MethodHandle" ∧ y_Mod_order.cls ≠ "java/lang/invoke/VarHandle" ∧ (parseMethodDescriptor y_Mod_order.desc).map (fun d => d.parameters.length) = some 2 := by decide +kernel
theorem d_Mod_order_0 : decode b_Mod_order 0 = .ok (.aload_n 0, 1) := by decide +kernel
theorem d_Mod_order_1 : decode b_Mod_order 1 = .ok (.iload_n 1, 1) := by decide +kernel
theorem d_Mod_order_2 : decode b_Mod_order 2 = .ok (.i2l, 1) := by decide +kernel
theorem d_Mod_order_3 : decode b_Mod_order 3 = .ok (.lconst 1, 1) := by decide +kernel
theorem d_Mod_order_4 : decode b_Mod_order 4 = .ok (.ldc2_w 244, 3) := by decide +kernel
theorem d_Mod_order_7 : decode b_Mod_order 7 = .ok (.invokestatic 133, 3) := by decide +kernel
theorem d_Mod_order_10 : decode b_Mod_order 10 = .ok (.ifCond .eq 11, 3) := by decide +kernel
theorem d_Mod_order_13 : decode b_Mod_order 13 = .ok (.aload_n 0, 1) := by decide +kernel
theorem d_Mod_order_14 : decode b_Mod_order 14 = .ok (.iload_n 2, 1) := by decide +kernel
theorem d_Mod_order_15 : decode b_Mod_order 15 = .ok (.invokevirtual 152, 3) := by decide +kernel
theorem d_Mod_order_18 : decode b_Mod_order 18 = .ok (.ifCond .ne 7, 3) := by decide +kernel
theorem d_Mod_order_21 : decode b_Mod_order 21 = .ok (.iconst 1, 1) := by decide +kernel
theorem d_Mod_order_22 : decode b_Mod_order 22 = .ok (.goto 16, 3) := by decide +kernel
theorem d_Mod_order_25 : decode b_Mod_order 25 = .ok (.aload_n 0, 1) := by decide +kernel
theorem d_Mod_order_26 : decode b_Mod_order 26 = .ok (.getfield 127, 3) := by decide +kernel
theorem d_Mod_order_29 : decode b_Mod_order 29 = .ok (.iconst 5, 1) := by decide +kernel
theorem d_Mod_order_30 : decode b_Mod_order 30 = .ok (.if_icmp .le 7, 3) := by decide +kernel
theorem d_Mod_order_33 : decode b_Mod_order 33 = .ok (.iconst 2, 1) := by decide +kernel
theorem d_Mod_order_34 : decode b_Mod_order 34 = .ok (.goto 4, 3) := by decide +kernel
theorem d_Mod_order_37 : decode b_Mod_order 37 = .ok (.iconst 0, 1) := by decide +kernel
theorem d_Mod_order_38 : decode b_Mod_order 38 = .ok (.putfield 130, 3) := by decide +kernel
theorem d_Mod_order_41 : decode b_Mod_order 41 = .ok (.aload_n 0, 1) := by decide +kernel
theorem d_Mod_order_42 : decode b_Mod_order 42 = .ok (.getfield 130, 3) := by decide +kernel
theorem d_Mod_order_45 : decode b_Mod_order 45 = .ok (.ifCond .le 5, 3) := by decide +kernel
theorem d_Mod_order_48 : decode b_Mod_order 48 = .ok (.iconst 0, 1) := by decide +kernel
theorem d_Mod_order_49 : decode b_Mod_order 49 = .ok (.ireturn, 1) := by decide +kernel
theorem d_Mod_order_50 : decode b_Mod_order 50 = .ok (.aload_n 0, 1) := by decide +kernel
theorem d_Mod_order_51 : decode b_Mod_order 51 = .ok (.invokevirtual 246, 3) := by decide +kernel
theorem d_Mod_order_54 : decode b_Mod_order 54 = .ok (.astore_n 3, 1) := by decide +kernel
theorem d_Mod_order_55 : decode b_Mod_order 55 = .ok (.ldc2_w 250, 3) := by decide +kernel
theorem d_Mod_order_58 : decode b_Mod_order 58 = .ok (.lstore 4, 2) := by decide +kernel
theorem d_Mod_order_60 : decode b_Mod_order 60 = .ok (.iconst 0, 1) := by decide +kernel
theorem d_Mod_order_61 : decode b_Mod_order 61 = .ok (.istore 6, 2) := by decide +kernel
theorem d_Mod_order_63 : decode b_Mod_order 63 = .ok (.iload 6, 2) := by decide +kernel
theorem d_Mod_order_65 : decode b_Mod_order 65 = .ok (.aload_n 0, 1) := by decide +kernel
theorem d_Mod_order_66 : decode b_Mod_order 66 = .ok (.getfield 127, 3) := by decide +kernel
theorem d_Mod_order_69 : decode b_Mod_order 69 = .ok (.if_icmp .ge 18, 3) := by decide +kernel
theorem d_Mod_order_72 : decode b_Mod_order 72 = .ok (.aload_n 0, 1) := by decide +kernel
theorem d_Mod_order_73 : decode b_Mod_order 73 = .ok (.getfield 115, 3) := by decide +kernel
theorem d_Mod_order_76 : decode b_Mod_order 76 = .ok (.iload 6, 2) := by decide +kernel
theorem d_Mod_order_78 : decode b_Mod_order 78 = .ok (.iload 6, 2) := by decide +kernel
theorem d_Mod_order_80 : decode b_Mod_order 80 = .ok (.iastore, 1) := by decide +kernel
theorem d_Mod_order_81 : decode b_Mod_order 81 = .ok (.iinc 6 1, 3) := by decide +kernel
theorem d_Mod_order_84 : decode b_Mod_order 84 = .ok (.goto (-21), 3) := by decide +kernel
theorem d_Mod_order_87 : decode b_Mod_order 87 = .ok (.iconst 1, 1) := by decide +kernel
theorem d_Mod_order_88 : decode b_Mod_order 88 = .ok (.istore 6, 2) := by decide +kernel
theorem d_Mod_order_90 : decode b_Mod_order 90 = .ok (.iload 6, 2) := by decide +kernel
theorem d_Mod_order_92 : decode b_Mod_order 92 = .ok (.ifCond .eq 70, 3) := by decide +kernel
theorem d_Mod_order_95 : decode b_Mod_order 95 = .ok (.aload_n 0, 1) := by decide +kernel
theorem d_Mod_order_96 : decode b_Mod_order 96 = .ok (.iload_n 1, 1) := by decide +kernel
theorem d_Mod_order_97 : decode b_Mod_order 97 = .ok (.invokevirtual 252, 3) := by decide +kernel
theorem d_Mod_order_100 : decode b_Mod_order 100 = .ok (.lstore 7, 2) := by decide +kernel
theorem d_Mod_order_102 : decode b_Mod_order 102 = .ok (.lload 4, 2) := by decide +kernel
theorem d_Mod_order_104 : decode b_Mod_order 104 = .ok (.lconst 0, 1) := by decide +kernel
theorem d_Mod_order_105 : decode b_Mod_order 105 = .ok (.lcmp, 1) := by decide +kernel
theorem d_Mod_order_106 : decode b_Mod_order 106 = .ok (.ifCond .lt 11, 3) := by decide +kernel
theorem d_Mod_order_109 : decode b_Mod_order 109 = .ok (.lload 7, 2) := by decide +kernel
theorem d_Mod_order_111 : decode b_Mod_order 111 = .ok (.lload 4, 2) := by decide +kernel
theorem d_Mod_order_113 : decode b_Mod_order 113 = .ok (.lcmp, 1) := by decide +kernel
theorem d_Mod_order_114 : decode b_Mod_order 114 = .ok (.ifCond .ge 39, 3) := by decide +kernel
theorem d_Mod_order_117 : decode b_Mod_order 117 = .ok (.lload 7, 2) := by decide +kernel
theorem d_Mod_order_119 : decode b_Mod_order 119 = .ok (.lstore 4, 2) := by decide +kernel
theorem d_Mod_order_121 : decode b_Mod_order 121 = .ok (.iconst 0, 1) := by decide +kernel
theorem d_Mod_order_122 : decode b_Mod_order 122 = .ok (.istore 9, 2) := by decide +kernel
theorem d_Mod_order_124 : decode b_Mod_order 124 = .ok (.iload 9, 2) := by decide +kernel
theorem d_Mod_order_126 : decode b_Mod_order 126 = .ok (.aload_n 0, 1) := by decide +kernel
theorem d_Mod_order_127 : decode b_Mod_order 127 = .ok (.getfield 127, 3) := by decide +kernel
theorem d_Mod_order_130 : decode b_Mod_order 130 = .ok (.if_icmp .ge 23, 3) := by decide +kernel
theorem d_Mod_order_133 : decode b_Mod_order 133 = .ok (.aload_n 0, 1) := by decide +kernel
theorem d_Mod_order_134 : decode b_Mod_order 134 = .ok (.getfield 118, 3) := by decide +kernel
theorem d_Mod_order_137 : decode b_Mod_order 137 = .ok (.iload 9, 2) := by decide +kernel
theorem d_Mod_order_139 : decode b_Mod_order 139 = .ok (.aload_n 0, 1) := by decide +kernel
theorem d_Mod_order_140 : decode b_Mod_order 140 = .ok (.getfield 115, 3) := by decide +kernel
theorem d_Mod_order_143 : decode b_Mod_order 143 = .ok (.iload 9, 2) := by decide +kernel
theorem d_Mod_order_145 : decode b_Mod_order 145 = .ok (.iaload, 1) := by decide +kernel
theorem d_Mod_order_146 : decode b_Mod_order 146 = .ok (.iastore, 1) := by decide +kernel
theorem d_Mod_order_147 : decode b_Mod_order 147 = .ok (.iinc 9 1, 3) := by decide +kernel
theorem d_Mod_order_150 : decode b_Mod_order 150 = .ok (.goto (-26), 3) := by decide +kernel
theorem d_Mod_order_153 : decode b_Mod_order 153 = .ok (.aload_n 0, 1) := by decide +kernel
theorem d_Mod_order_154 : decode b_Mod_order 154 = .ok (.invokevirtual 256, 3) := by decide +kernel
theorem d_Mod_order_157 : decode b_Mod_order 157 = .ok (.istore 6, 2) := by decide +kernel
theorem d_Mod_order_159 : decode b_Mod_order 159 = .ok (.goto (-69), 3) := by decide +kernel
theorem d_Mod_order_162 : decode b_Mod_order 162 = .ok (.iconst 0, 1) := by decide +kernel
theorem d_Mod_order_163 : decode b_Mod_order 163 = .ok (.istore 7, 2) := by decide +kernel
theorem d_Mod_order_165 : decode b_Mod_order 165 = .ok (.iload 7, 2) := by decide +kernel
theorem d_Mod_order_167 : decode b_Mod_order 167 = .ok (.aload_n 0, 1) := by decide +kernel
theorem d_Mod_order_168 : decode b_Mod_order 168 = .ok (.getfield 127, 3) := by decide +kernel
theorem d_Mod_order_171 : decode b_Mod_order 171 = .ok (.if_icmp .ge 76, 3) := by decide +kernel
theorem d_Mod_order_174 : decode b_Mod_order 174 = .ok (.aload_n 0, 1) := by decide +kernel
theorem d_Mod_order_175 : decode b_Mod_order 175 = .ok (.getfield 28, 3) := by decide +kernel
theorem d_Mod_order_178 : decode b_Mod_order 178 = .ok (.iload 7, 2) := by decide +kernel
theorem d_Mod_order_180 : decode b_Mod_order 180 = .ok (.aload_n 0, 1) := by decide +kernel
theorem d_Mod_order_181 : decode b_Mod_order 181 = .ok (.getfield 106, 3) := by decide +kernel
theorem d_Mod_order_184 : decode b_Mod_order 184 = .ok (.iload 7, 2) := by decide +kernel
theorem d_Mod_order_186 : decode b_Mod_order 186 = .ok (.iaload, 1) := by decide +kernel
theorem d_Mod_order_187 : decode b_Mod_order 187 = .ok (.iastore, 1) := by decide +kernel
theorem d_Mod_order_188 : decode b_Mod_order 188 = .ok (.aload_n 0, 1) := by decide +kernel
theorem d_Mod_order_189 : decode b_Mod_order 189 = .ok (.getfield 31, 3) := by decide +kernel
theorem d_Mod_order_192 : decode b_Mod_order 192 = .ok (.iload 7, 2) := by decide +kernel
theorem d_Mod_order_194 : decode b_Mod_order 194 = .ok (.aload_n 0, 1) := by decide +kernel
theorem d_Mod_order_195 : decode b_Mod_order 195 = .ok (.getfield 109, 3) := by decide +kernel
theorem d_Mod_order_198 : decode b_Mod_order 198 = .ok (.iload 7, 2) := by decide +kernel
theorem d_Mod_order_200 : decode b_Mod_order 200 = .ok (.iaload, 1) := by decide +kernel
theorem d_Mod_order_201 : decode b_Mod_order 201 = .ok (.iastore, 1) := by decide +kernel
theorem d_Mod_order_202 : decode b_Mod_order 202 = .ok (.aload_n 0, 1) := by decide +kernel
theorem d_Mod_order_203 : decode b_Mod_order 203 = .ok (.getfield 38, 3) := by decide +kernel
theorem d_Mod_order_206 : decode b_Mod_order 206 = .ok (.iload 7, 2) := by decide +kernel
theorem d_Mod_order_208 : decode b_Mod_order 208 = .ok (.aload_n 0, 1) := by decide +kernel
theorem d_Mod_order_209 : decode b_Mod_order 209 = .ok (.getfield 112, 3) := by decide +kernel
theorem d_Mod_order_212 : decode b_Mod_order 212 = .ok (.iload 7, 2) := by decide +kernel
theorem d_Mod_order_214 : decode b_Mod_order 214 = .ok (.iaload, 1) := by decide +kernel
theorem d_Mod_order_215 : decode b_Mod_order 215 = .ok (.iastore, 1) := by decide +kernel
theorem d_Mod_order_216 : decode b_Mod_order 216 = .ok (.aload_n 0, 1) := by decide +kernel
theorem d_Mod_order_217 : decode b_Mod_order 217 = .ok (.getfield 34, 3) := by decide +kernel
theorem d_Mod_order_220 : decode b_Mod_order 220 = .ok (.iload 7, 2) := by decide +kernel
theorem d_Mod_order_222 : decode b_Mod_order 222 = .ok (.aload_n 3, 1) := by decide +kernel
theorem d_Mod_order_223 : decode b_Mod_order 223 = .ok (.iload 7, 2) := by decide +kernel
theorem d_Mod_order_225 : decode b_Mod_order 225 = .ok (.laload, 1) := by decide +kernel
theorem d_Mod_order_226 : decode b_Mod_order 226 = .ok (.lastore, 1) := by decide +kernel
theorem d_Mod_order_227 : decode b_Mod_order 227 = .ok (.aload_n 0, 1) := by decide +kernel
theorem d_Mod_order_228 : decode b_Mod_order 228 = .ok (.getfield 41, 3) := by decide +kernel
theorem d_Mod_order_231 : decode b_Mod_order 231 = .ok (.iload 7, 2) := by decide +kernel
theorem d_Mod_order_233 : decode b_Mod_order 233 = .ok (.aload_n 3, 1) := by decide +kernel
theorem d_Mod_order_234 : decode b_Mod_order 234 = .ok (.iconst 5, 1) := by decide +kernel
theorem d_Mod_order_235 : decode b_Mod_order 235 = .ok (.iload 7, 2) := by decide +kernel
theorem d_Mod_order_237 : decode b_Mod_order 237 = .ok (.iadd, 1) := by decide +kernel
theorem d_Mod_order_238 : decode b_Mod_order 238 = .ok (.laload, 1) := by decide +kernel
theorem d_Mod_order_239 : decode b_Mod_order 239 = .ok (.l2i, 1) := by decide +kernel
theorem d_Mod_order_240 : decode b_Mod_order 240 = .ok (.iastore, 1) := by decide +kernel
theorem d_Mod_order_241 : decode b_Mod_order 241 = .ok (.iinc 7 1, 3) := by decide +kernel
theorem d_Mod_order_244 : decode b_Mod_order 244 = .ok (.goto (-79), 3) := by decide +kernel
theorem d_Mod_order_247 : decode b_Mod_order 247 = .ok (.aload_n 0, 1) := by decide +kernel
theorem d_Mod_order_248 : decode b_Mod_order 248 = .ok (.aload_n 3, 1) := by decide +kernel
theorem d_Mod_order_249 : decode b_Mod_order 249 = .ok (.bipush 10, 2) := by decide +kernel
theorem d_Mod_order_251 : decode b_Mod_order 251 = .ok (.laload, 1) := by decide +kernel
theorem d_Mod_order_252 : decode b_Mod_order 252 = .ok (.putfield 207, 3) := by decide +kernel
theorem d_Mod_order_255 : decode b_Mod_order 255 = .ok (.aload_n 0, 1) := by decide +kernel
theorem d_Mod_order_256 : decode b_Mod_order 256 = .ok (.aload_n 3, 1) := by decide +kernel
theorem d_Mod_order_257 : decode b_Mod_order 257 = .ok (.bipush 11, 2) := by decide +kernel
theorem d_Mod_order_259 : decode b_Mod_order 259 = .ok (.laload, 1) := by decide +kernel
theorem d_Mod_order_260 : decode b_Mod_order 260 = .ok (.putfield 210, 3) := by decide +kernel
theorem d_Mod_order_263 : decode b_Mod_order 263 = .ok (.aload_n 0, 1) := by decide +kernel
theorem d_Mod_order_264 : decode b_Mod_order 264 = .ok (.aload_n 3, 1) := by decide +kernel
theorem d_Mod_order_265 : decode b_Mod_order 265 = .ok (.bipush 12, 2) := by decide +kernel
theorem d_Mod_order_267 : decode b_Mod_order 267 = .ok (.laload, 1) := by decide +kernel
theorem d_Mod_order_268 : decode b_Mod_order 268 = .ok (.putfield 213, 3) := by decide +kernel
theorem d_Mod_order_271 : decode b_Mod_order 271 = .ok (.aload_n 0, 1) := by decide +kernel
theorem d_Mod_order_272 : decode b_Mod_order 272 = .ok (.aload_n 3, 1) := by decide +kernel
theorem d_Mod_order_273 : decode b_Mod_order 273 = .ok (.bipush 13, 2) := by decide +kernel
theorem d_Mod_order_275 : decode b_Mod_order 275 = .ok (.laload, 1) := by decide +kernel
theorem d_Mod_order_276 : decode b_Mod_order 276 = .ok (.putfield 216, 3) := by decide +kernel
theorem d_Mod_order_279 : decode b_Mod_order 279 = .ok (.aload_n 0, 1) := by decide +kernel
theorem d_Mod_order_280 : decode b_Mod_order 280 = .ok (.getfield 118, 3) := by decide +kernel
theorem d_Mod_order_283 : decode b_Mod_order 283 = .ok (.iload_n 2, 1) := by decide +kernel
theorem d_Mod_order_284 : decode b_Mod_order 284 = .ok (.iaload, 1) := by decide +kernel
theorem d_Mod_order_285 : decode b_Mod_order 285 = .ok (.ireturn, 1) := by decide +kernel
abbrev b_Mod_keep : ByteArray := prog_13_method_37_code
def y_Mod_keep : MethodName := ⟨"WallDampModel", "keep", "()[J"⟩
def ws_Mod_keep : List Cond := .code y_Mod_keep b_Mod_keep 2 (some (.array (.long))) :: x_tb
theorem pd_Mod_keep : y_Mod_keep.cls ≠ "java/lang/invoke/MethodHandle" ∧ y_Mod_keep.cls ≠ "java/lang/invoke/VarHandle" ∧ (parseMethodDescriptor y_Mod_keep.desc).map (fun d => d.parameters.length) = some 0 := by decide +kernel
theorem d_Mod_keep_0 : decode b_Mod_keep 0 = .ok (.iconst 0, 1) := by decide +kernel
theorem d_Mod_keep_1 : decode b_Mod_keep 1 = .ok (.istore_n 1, 1) := by decide +kernel
theorem d_Mod_keep_2 : decode b_Mod_keep 2 = .ok (.iload_n 1, 1) := by decide +kernel
theorem d_Mod_keep_3 : decode b_Mod_keep 3 = .ok (.aload_n 0, 1) := by decide +kernel
theorem d_Mod_keep_4 : decode b_Mod_keep 4 = .ok (.getfield 127, 3) := by decide +kernel
theorem d_Mod_keep_7 : decode b_Mod_keep 7 = .ok (.if_icmp .ge 72, 3) := by decide +kernel
theorem d_Mod_keep_10 : decode b_Mod_keep 10 = .ok (.aload_n 0, 1) := by decide +kernel
theorem d_Mod_keep_11 : decode b_Mod_keep 11 = .ok (.getfield 106, 3) := by decide +kernel
theorem d_Mod_keep_14 : decode b_Mod_keep 14 = .ok (.iload_n 1, 1) := by decide +kernel
theorem d_Mod_keep_15 : decode b_Mod_keep 15 = .ok (.aload_n 0, 1) := by decide +kernel
theorem d_Mod_keep_16 : decode b_Mod_keep 16 = .ok (.getfield 28, 3) := by decide +kernel
theorem d_Mod_keep_19 : decode b_Mod_keep 19 = .ok (.iload_n 1, 1) := by decide +kernel
theorem d_Mod_keep_20 : decode b_Mod_keep 20 = .ok (.iaload, 1) := by decide +kernel
theorem d_Mod_keep_21 : decode b_Mod_keep 21 = .ok (.iastore, 1) := by decide +kernel
theorem d_Mod_keep_22 : decode b_Mod_keep 22 = .ok (.aload_n 0, 1) := by decide +kernel
theorem d_Mod_keep_23 : decode b_Mod_keep 23 = .ok (.getfield 109, 3) := by decide +kernel
theorem d_Mod_keep_26 : decode b_Mod_keep 26 = .ok (.iload_n 1, 1) := by decide +kernel
theorem d_Mod_keep_27 : decode b_Mod_keep 27 = .ok (.aload_n 0, 1) := by decide +kernel
theorem d_Mod_keep_28 : decode b_Mod_keep 28 = .ok (.getfield 31, 3) := by decide +kernel
theorem d_Mod_keep_31 : decode b_Mod_keep 31 = .ok (.iload_n 1, 1) := by decide +kernel
theorem d_Mod_keep_32 : decode b_Mod_keep 32 = .ok (.iaload, 1) := by decide +kernel
theorem d_Mod_keep_33 : decode b_Mod_keep 33 = .ok (.iastore, 1) := by decide +kernel
theorem d_Mod_keep_34 : decode b_Mod_keep 34 = .ok (.aload_n 0, 1) := by decide +kernel
theorem d_Mod_keep_35 : decode b_Mod_keep 35 = .ok (.getfield 112, 3) := by decide +kernel
theorem d_Mod_keep_38 : decode b_Mod_keep 38 = .ok (.iload_n 1, 1) := by decide +kernel
theorem d_Mod_keep_39 : decode b_Mod_keep 39 = .ok (.aload_n 0, 1) := by decide +kernel
theorem d_Mod_keep_40 : decode b_Mod_keep 40 = .ok (.getfield 38, 3) := by decide +kernel
theorem d_Mod_keep_43 : decode b_Mod_keep 43 = .ok (.iload_n 1, 1) := by decide +kernel
theorem d_Mod_keep_44 : decode b_Mod_keep 44 = .ok (.iaload, 1) := by decide +kernel
theorem d_Mod_keep_45 : decode b_Mod_keep 45 = .ok (.iastore, 1) := by decide +kernel
theorem d_Mod_keep_46 : decode b_Mod_keep 46 = .ok (.aload_n 0, 1) := by decide +kernel
theorem d_Mod_keep_47 : decode b_Mod_keep 47 = .ok (.getfield 124, 3) := by decide +kernel
theorem d_Mod_keep_50 : decode b_Mod_keep 50 = .ok (.iload_n 1, 1) := by decide +kernel
theorem d_Mod_keep_51 : decode b_Mod_keep 51 = .ok (.aload_n 0, 1) := by decide +kernel
theorem d_Mod_keep_52 : decode b_Mod_keep 52 = .ok (.getfield 34, 3) := by decide +kernel
theorem d_Mod_keep_55 : decode b_Mod_keep 55 = .ok (.iload_n 1, 1) := by decide +kernel
theorem d_Mod_keep_56 : decode b_Mod_keep 56 = .ok (.laload, 1) := by decide +kernel
theorem d_Mod_keep_57 : decode b_Mod_keep 57 = .ok (.lastore, 1) := by decide +kernel
theorem d_Mod_keep_58 : decode b_Mod_keep 58 = .ok (.aload_n 0, 1) := by decide +kernel
theorem d_Mod_keep_59 : decode b_Mod_keep 59 = .ok (.getfield 124, 3) := by decide +kernel
theorem d_Mod_keep_62 : decode b_Mod_keep 62 = .ok (.iconst 5, 1) := by decide +kernel
theorem d_Mod_keep_63 : decode b_Mod_keep 63 = .ok (.iload_n 1, 1) := by decide +kernel
theorem d_Mod_keep_64 : decode b_Mod_keep 64 = .ok (.iadd, 1) := by decide +kernel
theorem d_Mod_keep_65 : decode b_Mod_keep 65 = .ok (.aload_n 0, 1) := by decide +kernel
theorem d_Mod_keep_66 : decode b_Mod_keep 66 = .ok (.getfield 41, 3) := by decide +kernel
theorem d_Mod_keep_69 : decode b_Mod_keep 69 = .ok (.iload_n 1, 1) := by decide +kernel
theorem d_Mod_keep_70 : decode b_Mod_keep 70 = .ok (.iaload, 1) := by decide +kernel
theorem d_Mod_keep_71 : decode b_Mod_keep 71 = .ok (.i2l, 1) := by decide +kernel
theorem d_Mod_keep_72 : decode b_Mod_keep 72 = .ok (.lastore, 1) := by decide +kernel
theorem d_Mod_keep_73 : decode b_Mod_keep 73 = .ok (.iinc 1 1, 3) := by decide +kernel
theorem d_Mod_keep_76 : decode b_Mod_keep 76 = .ok (.goto (-74), 3) := by decide +kernel
theorem d_Mod_keep_79 : decode b_Mod_keep 79 = .ok (.aload_n 0, 1) := by decide +kernel
theorem d_Mod_keep_80 : decode b_Mod_keep 80 = .ok (.getfield 124, 3) := by decide +kernel
theorem d_Mod_keep_83 : decode b_Mod_keep 83 = .ok (.bipush 10, 2) := by decide +kernel
theorem d_Mod_keep_85 : decode b_Mod_keep 85 = .ok (.aload_n 0, 1) := by decide +kernel
theorem d_Mod_keep_86 : decode b_Mod_keep 86 = .ok (.getfield 207, 3) := by decide +kernel
theorem d_Mod_keep_89 : decode b_Mod_keep 89 = .ok (.lastore, 1) := by decide +kernel
theorem d_Mod_keep_90 : decode b_Mod_keep 90 = .ok (.aload_n 0, 1) := by decide +kernel
theorem d_Mod_keep_91 : decode b_Mod_keep 91 = .ok (.getfield 124, 3) := by decide +kernel
theorem d_Mod_keep_94 : decode b_Mod_keep 94 = .ok (.bipush 11, 2) := by decide +kernel
theorem d_Mod_keep_96 : decode b_Mod_keep 96 = .ok (.aload_n 0, 1) := by decide +kernel
theorem d_Mod_keep_97 : decode b_Mod_keep 97 = .ok (.getfield 210, 3) := by decide +kernel
theorem d_Mod_keep_100 : decode b_Mod_keep 100 = .ok (.lastore, 1) := by decide +kernel
theorem d_Mod_keep_101 : decode b_Mod_keep 101 = .ok (.aload_n 0, 1) := by decide +kernel
theorem d_Mod_keep_102 : decode b_Mod_keep 102 = .ok (.getfield 124, 3) := by decide +kernel
theorem d_Mod_keep_105 : decode b_Mod_keep 105 = .ok (.bipush 12, 2) := by decide +kernel
theorem d_Mod_keep_107 : decode b_Mod_keep 107 = .ok (.aload_n 0, 1) := by decide +kernel
theorem d_Mod_keep_108 : decode b_Mod_keep 108 = .ok (.getfield 213, 3) := by decide +kernel
theorem d_Mod_keep_111 : decode b_Mod_keep 111 = .ok (.lastore, 1) := by decide +kernel
theorem d_Mod_keep_112 : decode b_Mod_keep 112 = .ok (.aload_n 0, 1) := by decide +kernel
theorem d_Mod_keep_113 : decode b_Mod_keep 113 = .ok (.getfield 124, 3) := by decide +kernel
theorem d_Mod_keep_116 : decode b_Mod_keep 116 = .ok (.bipush 13, 2) := by decide +kernel
theorem d_Mod_keep_118 : decode b_Mod_keep 118 = .ok (.aload_n 0, 1) := by decide +kernel
theorem d_Mod_keep_119 : decode b_Mod_keep 119 = .ok (.getfield 216, 3) := by decide +kernel
theorem d_Mod_keep_122 : decode b_Mod_keep 122 = .ok (.lastore, 1) := by decide +kernel
theorem d_Mod_keep_123 : decode b_Mod_keep 123 = .ok (.aload_n 0, 1) := by decide +kernel
theorem d_Mod_keep_124 : decode b_Mod_keep 124 = .ok (.getfield 124, 3) := by decide +kernel
theorem d_Mod_keep_127 : decode b_Mod_keep 127 = .ok (.areturn, 1) := by decide +kernel
end
section
abbrev b_Law_cell : ByteArray := method_2_code
def y_Law_cell : MethodName := ⟨"WallDampLaw", "cell", "([II)I"⟩
def ws_Law_cell : List Cond := .code y_Law_cell b_Law_cell 2 (some (.int)) :: x_tb
theorem pd_Law_cell : y_Law_cell.cls ≠ "java/lang/invoke/MethodHandle" ∧ y_Law_cell.cls ≠ "java/lang/invoke/VarHandle" ∧ (parseMethodDescriptor y_Law_cell.desc).map (fun d => d.parameters.length) = some 2 := by decide +kernel
theorem d_Law_cell_0 : decode b_Law_cell 0 = .ok (.iload_n 1, 1) := by decide +kernel
theorem d_Law_cell_1 : decode b_Law_cell 1 = .ok (.aload_n 0, 1) := by decide +kernel
theorem d_Law_cell_2 : decode b_Law_cell 2 = .ok (.arraylength, 1) := by decide +kernel
theorem d_Law_cell_3 : decode b_Law_cell 3 = .ok (.if_icmp .ge 9, 3) := by decide +kernel
theorem d_Law_cell_6 : decode b_Law_cell 6 = .ok (.aload_n 0, 1) := by decide +kernel
theorem d_Law_cell_7 : decode b_Law_cell 7 = .ok (.iload_n 1, 1) := by decide +kernel
theorem d_Law_cell_8 : decode b_Law_cell 8 = .ok (.iaload, 1) := by decide +kernel
theorem d_Law_cell_9 : decode b_Law_cell 9 = .ok (.goto 4, 3) := by decide +kernel
theorem d_Law_cell_12 : decode b_Law_cell 12 = .ok (.iconst 0, 1) := by decide +kernel
theorem d_Law_cell_13 : decode b_Law_cell 13 = .ok (.ireturn, 1) := by decide +kernel
abbrev b_Law_curve : ByteArray := method_3_code
def y_Law_curve : MethodName := ⟨"WallDampLaw", "curve", "(LWallDamp;III[J)I"⟩
theorem d_Law_curve_0 : decode b_Law_curve 0 = .ok (.aload 4, 2) := by decide +kernel
theorem d_Law_curve_2 : decode b_Law_curve 2 = .ok (.iconst 0, 1) := by decide +kernel
theorem d_Law_curve_3 : decode b_Law_curve 3 = .ok (.aload_n 0, 1) := by decide +kernel
theorem d_Law_curve_4 : decode b_Law_curve 4 = .ok (.iload_n 1, 1) := by decide +kernel
theorem d_Law_curve_5 : decode b_Law_curve 5 = .ok (.iload_n 2, 1) := by decide +kernel
theorem d_Law_curve_6 : decode b_Law_curve 6 = .ok (.iload_n 3, 1) := by decide +kernel
theorem d_Law_curve_7 : decode b_Law_curve 7 = .ok (.invokevirtual 7, 3) := by decide +kernel
theorem d_Law_curve_10 : decode b_Law_curve 10 = .ok (.i2l, 1) := by decide +kernel
theorem d_Law_curve_11 : decode b_Law_curve 11 = .ok (.lastore, 1) := by decide +kernel
theorem d_Law_curve_12 : decode b_Law_curve 12 = .ok (.goto 11, 3) := by decide +kernel
theorem d_Law_curve_15 : decode b_Law_curve 15 = .ok (.astore 5, 2) := by decide +kernel
theorem d_Law_curve_17 : decode b_Law_curve 17 = .ok (.iconst 1, 1) := by decide +kernel
theorem d_Law_curve_18 : decode b_Law_curve 18 = .ok (.ireturn, 1) := by decide +kernel
theorem d_Law_curve_19 : decode b_Law_curve 19 = .ok (.astore 5, 2) := by decide +kernel
theorem d_Law_curve_21 : decode b_Law_curve 21 = .ok (.iconst 2, 1) := by decide +kernel
theorem d_Law_curve_22 : decode b_Law_curve 22 = .ok (.ireturn, 1) := by decide +kernel
theorem d_Law_curve_23 : decode b_Law_curve 23 = .ok (.iconst 0, 1) := by decide +kernel
theorem d_Law_curve_24 : decode b_Law_curve 24 = .ok (.ireturn, 1) := by decide +kernel
abbrev b_Law_rates : ByteArray := method_4_code
def y_Law_rates : MethodName := ⟨"WallDampLaw", "rates", "(LWallDamp;IIII)I"⟩
theorem d_Law_rates_0 : decode b_Law_rates 0 = .ok (.aload_n 0, 1) := by decide +kernel
theorem d_Law_rates_1 : decode b_Law_rates 1 = .ok (.iload_n 1, 1) := by decide +kernel
theorem d_Law_rates_2 : decode b_Law_rates 2 = .ok (.iload_n 2, 1) := by decide +kernel
theorem d_Law_rates_3 : decode b_Law_rates 3 = .ok (.iload_n 3, 1) := by decide +kernel
theorem d_Law_rates_4 : decode b_Law_rates 4 = .ok (.iload 4, 2) := by decide +kernel
theorem d_Law_rates_6 : decode b_Law_rates 6 = .ok (.invokevirtual 17, 3) := by decide +kernel
theorem d_Law_rates_9 : decode b_Law_rates 9 = .ok (.goto 7, 3) := by decide +kernel
theorem d_Law_rates_12 : decode b_Law_rates 12 = .ok (.astore 5, 2) := by decide +kernel
theorem d_Law_rates_14 : decode b_Law_rates 14 = .ok (.iconst 1, 1) := by decide +kernel
theorem d_Law_rates_15 : decode b_Law_rates 15 = .ok (.ireturn, 1) := by decide +kernel
theorem d_Law_rates_16 : decode b_Law_rates 16 = .ok (.iconst 0, 1) := by decide +kernel
theorem d_Law_rates_17 : decode b_Law_rates 17 = .ok (.ireturn, 1) := by decide +kernel
abbrev b_Law_cell1 : ByteArray := method_5_code
def y_Law_cell1 : MethodName := ⟨"WallDampLaw", "cell", "(LWallDamp;III)I"⟩
theorem d_Law_cell1_0 : decode b_Law_cell1 0 = .ok (.aload_n 0, 1) := by decide +kernel
theorem d_Law_cell1_1 : decode b_Law_cell1 1 = .ok (.iload_n 1, 1) := by decide +kernel
theorem d_Law_cell1_2 : decode b_Law_cell1 2 = .ok (.iload_n 2, 1) := by decide +kernel
theorem d_Law_cell1_3 : decode b_Law_cell1 3 = .ok (.iload_n 3, 1) := by decide +kernel
theorem d_Law_cell1_4 : decode b_Law_cell1 4 = .ok (.invokevirtual 21, 3) := by decide +kernel
theorem d_Law_cell1_7 : decode b_Law_cell1 7 = .ok (.goto 11, 3) := by decide +kernel
theorem d_Law_cell1_10 : decode b_Law_cell1 10 = .ok (.astore 4, 2) := by decide +kernel
theorem d_Law_cell1_12 : decode b_Law_cell1 12 = .ok (.iconst 1, 1) := by decide +kernel
theorem d_Law_cell1_13 : decode b_Law_cell1 13 = .ok (.ireturn, 1) := by decide +kernel
theorem d_Law_cell1_14 : decode b_Law_cell1 14 = .ok (.astore 4, 2) := by decide +kernel
theorem d_Law_cell1_16 : decode b_Law_cell1 16 = .ok (.iconst 2, 1) := by decide +kernel
theorem d_Law_cell1_17 : decode b_Law_cell1 17 = .ok (.ireturn, 1) := by decide +kernel
theorem d_Law_cell1_18 : decode b_Law_cell1 18 = .ok (.iconst 0, 1) := by decide +kernel
theorem d_Law_cell1_19 : decode b_Law_cell1 19 = .ok (.ireturn, 1) := by decide +kernel
abbrev b_Law_table : ByteArray := method_6_code
def y_Law_table : MethodName := ⟨"WallDampLaw", "table", "(LWallDamp;II[J)I"⟩
theorem d_Law_table_0 : decode b_Law_table 0 = .ok (.aload_n 3, 1) := by decide +kernel
theorem d_Law_table_1 : decode b_Law_table 1 = .ok (.iconst 0, 1) := by decide +kernel
theorem d_Law_table_2 : decode b_Law_table 2 = .ok (.aload_n 0, 1) := by decide +kernel
theorem d_Law_table_3 : decode b_Law_table 3 = .ok (.iload_n 1, 1) := by decide +kernel
theorem d_Law_table_4 : decode b_Law_table 4 = .ok (.iload_n 2, 1) := by decide +kernel
theorem d_Law_table_5 : decode b_Law_table 5 = .ok (.invokevirtual 25, 3) := by decide +kernel
theorem d_Law_table_8 : decode b_Law_table 8 = .ok (.i2l, 1) := by decide +kernel
theorem d_Law_table_9 : decode b_Law_table 9 = .ok (.lastore, 1) := by decide +kernel
theorem d_Law_table_10 : decode b_Law_table 10 = .ok (.goto 11, 3) := by decide +kernel
theorem d_Law_table_13 : decode b_Law_table 13 = .ok (.astore 4, 2) := by decide +kernel
theorem d_Law_table_15 : decode b_Law_table 15 = .ok (.iconst 1, 1) := by decide +kernel
theorem d_Law_table_16 : decode b_Law_table 16 = .ok (.ireturn, 1) := by decide +kernel
theorem d_Law_table_17 : decode b_Law_table 17 = .ok (.astore 4, 2) := by decide +kernel
theorem d_Law_table_19 : decode b_Law_table 19 = .ok (.iconst 2, 1) := by decide +kernel
theorem d_Law_table_20 : decode b_Law_table 20 = .ok (.ireturn, 1) := by decide +kernel
theorem d_Law_table_21 : decode b_Law_table 21 = .ok (.iconst 0, 1) := by decide +kernel
theorem d_Law_table_22 : decode b_Law_table 22 = .ok (.ireturn, 1) := by decide +kernel
abbrev b_Law_full : ByteArray := method_7_code
def y_Law_full : MethodName := ⟨"WallDampLaw", "full", "(LWallDamp;I[J)I"⟩
theorem d_Law_full_0 : decode b_Law_full 0 = .ok (.aload_n 2, 1) := by decide +kernel
theorem d_Law_full_1 : decode b_Law_full 1 = .ok (.iconst 0, 1) := by decide +kernel
theorem d_Law_full_2 : decode b_Law_full 2 = .ok (.aload_n 0, 1) := by decide +kernel
theorem d_Law_full_3 : decode b_Law_full 3 = .ok (.iload_n 1, 1) := by decide +kernel
theorem d_Law_full_4 : decode b_Law_full 4 = .ok (.invokevirtual 29, 3) := by decide +kernel
theorem d_Law_full_7 : decode b_Law_full 7 = .ok (.i2l, 1) := by decide +kernel
theorem d_Law_full_8 : decode b_Law_full 8 = .ok (.lastore, 1) := by decide +kernel
theorem d_Law_full_9 : decode b_Law_full 9 = .ok (.goto 6, 3) := by decide +kernel
theorem d_Law_full_12 : decode b_Law_full 12 = .ok (.astore_n 3, 1) := by decide +kernel
theorem d_Law_full_13 : decode b_Law_full 13 = .ok (.iconst 1, 1) := by decide +kernel
theorem d_Law_full_14 : decode b_Law_full 14 = .ok (.ireturn, 1) := by decide +kernel
theorem d_Law_full_15 : decode b_Law_full 15 = .ok (.iconst 0, 1) := by decide +kernel
theorem d_Law_full_16 : decode b_Law_full 16 = .ok (.ireturn, 1) := by decide +kernel
abbrev b_Law_films : ByteArray := method_8_code
def y_Law_films : MethodName := ⟨"WallDampLaw", "films", "(LWallDamp;II)I"⟩
theorem d_Law_films_0 : decode b_Law_films 0 = .ok (.aload_n 0, 1) := by decide +kernel
theorem d_Law_films_1 : decode b_Law_films 1 = .ok (.iload_n 1, 1) := by decide +kernel
theorem d_Law_films_2 : decode b_Law_films 2 = .ok (.iload_n 2, 1) := by decide +kernel
theorem d_Law_films_3 : decode b_Law_films 3 = .ok (.invokevirtual 33, 3) := by decide +kernel
theorem d_Law_films_6 : decode b_Law_films 6 = .ok (.goto 6, 3) := by decide +kernel
theorem d_Law_films_9 : decode b_Law_films 9 = .ok (.astore_n 3, 1) := by decide +kernel
theorem d_Law_films_10 : decode b_Law_films 10 = .ok (.iconst 1, 1) := by decide +kernel
theorem d_Law_films_11 : decode b_Law_films 11 = .ok (.ireturn, 1) := by decide +kernel
theorem d_Law_films_12 : decode b_Law_films 12 = .ok (.iconst 0, 1) := by decide +kernel
theorem d_Law_films_13 : decode b_Law_films 13 = .ok (.ireturn, 1) := by decide +kernel
abbrev b_Law_outside : ByteArray := method_9_code
def y_Law_outside : MethodName := ⟨"WallDampLaw", "outside", "(LWallDamp;IIIII)I"⟩
theorem d_Law_outside_0 : decode b_Law_outside 0 = .ok (.aload_n 0, 1) := by decide +kernel
theorem d_Law_outside_1 : decode b_Law_outside 1 = .ok (.iload_n 1, 1) := by decide +kernel
theorem d_Law_outside_2 : decode b_Law_outside 2 = .ok (.iload_n 2, 1) := by decide +kernel
theorem d_Law_outside_3 : decode b_Law_outside 3 = .ok (.iload_n 3, 1) := by decide +kernel
theorem d_Law_outside_4 : decode b_Law_outside 4 = .ok (.iload 4, 2) := by decide +kernel
theorem d_Law_outside_6 : decode b_Law_outside 6 = .ok (.iload 5, 2) := by decide +kernel
theorem d_Law_outside_8 : decode b_Law_outside 8 = .ok (.invokevirtual 37, 3) := by decide +kernel
theorem d_Law_outside_11 : decode b_Law_outside 11 = .ok (.goto 7, 3) := by decide +kernel
theorem d_Law_outside_14 : decode b_Law_outside 14 = .ok (.astore 6, 2) := by decide +kernel
theorem d_Law_outside_16 : decode b_Law_outside 16 = .ok (.iconst 1, 1) := by decide +kernel
theorem d_Law_outside_17 : decode b_Law_outside 17 = .ok (.ireturn, 1) := by decide +kernel
theorem d_Law_outside_18 : decode b_Law_outside 18 = .ok (.iconst 0, 1) := by decide +kernel
theorem d_Law_outside_19 : decode b_Law_outside 19 = .ok (.ireturn, 1) := by decide +kernel
abbrev b_Law_inside : ByteArray := method_10_code
def y_Law_inside : MethodName := ⟨"WallDampLaw", "inside", "(LWallDamp;III)I"⟩
theorem d_Law_inside_0 : decode b_Law_inside 0 = .ok (.aload_n 0, 1) := by decide +kernel
theorem d_Law_inside_1 : decode b_Law_inside 1 = .ok (.iload_n 1, 1) := by decide +kernel
theorem d_Law_inside_2 : decode b_Law_inside 2 = .ok (.iload_n 2, 1) := by decide +kernel
theorem d_Law_inside_3 : decode b_Law_inside 3 = .ok (.iload_n 3, 1) := by decide +kernel
theorem d_Law_inside_4 : decode b_Law_inside 4 = .ok (.invokevirtual 41, 3) := by decide +kernel
theorem d_Law_inside_7 : decode b_Law_inside 7 = .ok (.goto 7, 3) := by decide +kernel
theorem d_Law_inside_10 : decode b_Law_inside 10 = .ok (.astore 4, 2) := by decide +kernel
theorem d_Law_inside_12 : decode b_Law_inside 12 = .ok (.iconst 1, 1) := by decide +kernel
theorem d_Law_inside_13 : decode b_Law_inside 13 = .ok (.ireturn, 1) := by decide +kernel
theorem d_Law_inside_14 : decode b_Law_inside 14 = .ok (.iconst 0, 1) := by decide +kernel
theorem d_Law_inside_15 : decode b_Law_inside 15 = .ok (.ireturn, 1) := by decide +kernel
abbrev b_Law_water : ByteArray := method_11_code
def y_Law_water : MethodName := ⟨"WallDampLaw", "water", "(LWallDamp;II[J)I"⟩
theorem d_Law_water_0 : decode b_Law_water 0 = .ok (.aload_n 3, 1) := by decide +kernel
theorem d_Law_water_1 : decode b_Law_water 1 = .ok (.iconst 0, 1) := by decide +kernel
theorem d_Law_water_2 : decode b_Law_water 2 = .ok (.aload_n 0, 1) := by decide +kernel
theorem d_Law_water_3 : decode b_Law_water 3 = .ok (.iload_n 1, 1) := by decide +kernel
theorem d_Law_water_4 : decode b_Law_water 4 = .ok (.iload_n 2, 1) := by decide +kernel
theorem d_Law_water_5 : decode b_Law_water 5 = .ok (.invokevirtual 44, 3) := by decide +kernel
theorem d_Law_water_8 : decode b_Law_water 8 = .ok (.i2l, 1) := by decide +kernel
theorem d_Law_water_9 : decode b_Law_water 9 = .ok (.lastore, 1) := by decide +kernel
theorem d_Law_water_10 : decode b_Law_water 10 = .ok (.goto 7, 3) := by decide +kernel
theorem d_Law_water_13 : decode b_Law_water 13 = .ok (.astore 4, 2) := by decide +kernel
theorem d_Law_water_15 : decode b_Law_water 15 = .ok (.iconst 1, 1) := by decide +kernel
theorem d_Law_water_16 : decode b_Law_water 16 = .ok (.ireturn, 1) := by decide +kernel
theorem d_Law_water_17 : decode b_Law_water 17 = .ok (.iconst 0, 1) := by decide +kernel
theorem d_Law_water_18 : decode b_Law_water 18 = .ok (.ireturn, 1) := by decide +kernel
abbrev b_Law_leak : ByteArray := method_12_code
def y_Law_leak : MethodName := ⟨"WallDampLaw", "leak", "(LWallDamp;II[J)I"⟩
theorem d_Law_leak_0 : decode b_Law_leak 0 = .ok (.aload_n 3, 1) := by decide +kernel
theorem d_Law_leak_1 : decode b_Law_leak 1 = .ok (.iconst 0, 1) := by decide +kernel
theorem d_Law_leak_2 : decode b_Law_leak 2 = .ok (.aload_n 0, 1) := by decide +kernel
theorem d_Law_leak_3 : decode b_Law_leak 3 = .ok (.iload_n 1, 1) := by decide +kernel
theorem d_Law_leak_4 : decode b_Law_leak 4 = .ok (.iload_n 2, 1) := by decide +kernel
theorem d_Law_leak_5 : decode b_Law_leak 5 = .ok (.invokevirtual 47, 3) := by decide +kernel
theorem d_Law_leak_8 : decode b_Law_leak 8 = .ok (.i2l, 1) := by decide +kernel
theorem d_Law_leak_9 : decode b_Law_leak 9 = .ok (.lastore, 1) := by decide +kernel
theorem d_Law_leak_10 : decode b_Law_leak 10 = .ok (.goto 7, 3) := by decide +kernel
theorem d_Law_leak_13 : decode b_Law_leak 13 = .ok (.astore 4, 2) := by decide +kernel
theorem d_Law_leak_15 : decode b_Law_leak 15 = .ok (.iconst 1, 1) := by decide +kernel
theorem d_Law_leak_16 : decode b_Law_leak 16 = .ok (.ireturn, 1) := by decide +kernel
theorem d_Law_leak_17 : decode b_Law_leak 17 = .ok (.iconst 0, 1) := by decide +kernel
theorem d_Law_leak_18 : decode b_Law_leak 18 = .ok (.ireturn, 1) := by decide +kernel
abbrev b_Law_growth : ByteArray := method_13_code
def y_Law_growth : MethodName := ⟨"WallDampLaw", "growth", "(LWallDamp;IIII[J)I"⟩
theorem d_Law_growth_0 : decode b_Law_growth 0 = .ok (.aload 5, 2) := by decide +kernel
theorem d_Law_growth_2 : decode b_Law_growth 2 = .ok (.iconst 0, 1) := by decide +kernel
theorem d_Law_growth_3 : decode b_Law_growth 3 = .ok (.aload_n 0, 1) := by decide +kernel
theorem d_Law_growth_4 : decode b_Law_growth 4 = .ok (.iload_n 1, 1) := by decide +kernel
theorem d_Law_growth_5 : decode b_Law_growth 5 = .ok (.iload_n 2, 1) := by decide +kernel
theorem d_Law_growth_6 : decode b_Law_growth 6 = .ok (.iload_n 3, 1) := by decide +kernel
theorem d_Law_growth_7 : decode b_Law_growth 7 = .ok (.iload 4, 2) := by decide +kernel
theorem d_Law_growth_9 : decode b_Law_growth 9 = .ok (.invokevirtual 50, 3) := by decide +kernel
theorem d_Law_growth_12 : decode b_Law_growth 12 = .ok (.i2l, 1) := by decide +kernel
theorem d_Law_growth_13 : decode b_Law_growth 13 = .ok (.lastore, 1) := by decide +kernel
theorem d_Law_growth_14 : decode b_Law_growth 14 = .ok (.goto 11, 3) := by decide +kernel
theorem d_Law_growth_17 : decode b_Law_growth 17 = .ok (.astore 6, 2) := by decide +kernel
theorem d_Law_growth_19 : decode b_Law_growth 19 = .ok (.iconst 1, 1) := by decide +kernel
theorem d_Law_growth_20 : decode b_Law_growth 20 = .ok (.ireturn, 1) := by decide +kernel
theorem d_Law_growth_21 : decode b_Law_growth 21 = .ok (.astore 6, 2) := by decide +kernel
theorem d_Law_growth_23 : decode b_Law_growth 23 = .ok (.iconst 2, 1) := by decide +kernel
theorem d_Law_growth_24 : decode b_Law_growth 24 = .ok (.ireturn, 1) := by decide +kernel
theorem d_Law_growth_25 : decode b_Law_growth 25 = .ok (.iconst 0, 1) := by decide +kernel
theorem d_Law_growth_26 : decode b_Law_growth 26 = .ok (.ireturn, 1) := by decide +kernel
abbrev b_Law_run : ByteArray := method_14_code
def y_Law_run : MethodName := ⟨"WallDampLaw", "run", "(LWallDamp;I[J)I"⟩
theorem d_Law_run_0 : decode b_Law_run 0 = .ok (.aload_n 2, 1) := by decide +kernel
theorem d_Law_run_1 : decode b_Law_run 1 = .ok (.iconst 0, 1) := by decide +kernel
theorem d_Law_run_2 : decode b_Law_run 2 = .ok (.aload_n 0, 1) := by decide +kernel
theorem d_Law_run_3 : decode b_Law_run 3 = .ok (.iload_n 1, 1) := by decide +kernel
theorem d_Law_run_4 : decode b_Law_run 4 = .ok (.invokevirtual 54, 3) := by decide +kernel
theorem d_Law_run_7 : decode b_Law_run 7 = .ok (.i2l, 1) := by decide +kernel
theorem d_Law_run_8 : decode b_Law_run 8 = .ok (.lastore, 1) := by decide +kernel
theorem d_Law_run_9 : decode b_Law_run 9 = .ok (.goto 9, 3) := by decide +kernel
theorem d_Law_run_12 : decode b_Law_run 12 = .ok (.astore_n 3, 1) := by decide +kernel
theorem d_Law_run_13 : decode b_Law_run 13 = .ok (.iconst 1, 1) := by decide +kernel
theorem d_Law_run_14 : decode b_Law_run 14 = .ok (.ireturn, 1) := by decide +kernel
theorem d_Law_run_15 : decode b_Law_run 15 = .ok (.astore_n 3, 1) := by decide +kernel
theorem d_Law_run_16 : decode b_Law_run 16 = .ok (.iconst 2, 1) := by decide +kernel
theorem d_Law_run_17 : decode b_Law_run 17 = .ok (.ireturn, 1) := by decide +kernel
theorem d_Law_run_18 : decode b_Law_run 18 = .ok (.iconst 0, 1) := by decide +kernel
theorem d_Law_run_19 : decode b_Law_run 19 = .ok (.ireturn, 1) := by decide +kernel
abbrev b_Law_told : ByteArray := method_15_code
def y_Law_told : MethodName := ⟨"WallDampLaw", "told", "(LWallDamp;II[J)I"⟩
theorem d_Law_told_0 : decode b_Law_told 0 = .ok (.aload_n 3, 1) := by decide +kernel
theorem d_Law_told_1 : decode b_Law_told 1 = .ok (.iconst 0, 1) := by decide +kernel
theorem d_Law_told_2 : decode b_Law_told 2 = .ok (.aload_n 0, 1) := by decide +kernel
theorem d_Law_told_3 : decode b_Law_told 3 = .ok (.iload_n 1, 1) := by decide +kernel
theorem d_Law_told_4 : decode b_Law_told 4 = .ok (.iload_n 2, 1) := by decide +kernel
theorem d_Law_told_5 : decode b_Law_told 5 = .ok (.invokevirtual 57, 3) := by decide +kernel
theorem d_Law_told_8 : decode b_Law_told 8 = .ok (.i2l, 1) := by decide +kernel
theorem d_Law_told_9 : decode b_Law_told 9 = .ok (.lastore, 1) := by decide +kernel
theorem d_Law_told_10 : decode b_Law_told 10 = .ok (.goto 7, 3) := by decide +kernel
theorem d_Law_told_13 : decode b_Law_told 13 = .ok (.astore 4, 2) := by decide +kernel
theorem d_Law_told_15 : decode b_Law_told 15 = .ok (.iconst 1, 1) := by decide +kernel
theorem d_Law_told_16 : decode b_Law_told 16 = .ok (.ireturn, 1) := by decide +kernel
theorem d_Law_told_17 : decode b_Law_told 17 = .ok (.iconst 0, 1) := by decide +kernel
theorem d_Law_told_18 : decode b_Law_told 18 = .ok (.ireturn, 1) := by decide +kernel
abbrev b_Law_balance : ByteArray := method_16_code
def y_Law_balance : MethodName := ⟨"WallDampLaw", "balance", "(LWallDamp;I[J)I"⟩
theorem d_Law_balance_0 : decode b_Law_balance 0 = .ok (.aload_n 2, 1) := by decide +kernel
theorem d_Law_balance_1 : decode b_Law_balance 1 = .ok (.iconst 0, 1) := by decide +kernel
theorem d_Law_balance_2 : decode b_Law_balance 2 = .ok (.aload_n 0, 1) := by decide +kernel
theorem d_Law_balance_3 : decode b_Law_balance 3 = .ok (.iload_n 1, 1) := by decide +kernel
theorem d_Law_balance_4 : decode b_Law_balance 4 = .ok (.invokevirtual 60, 3) := by decide +kernel
theorem d_Law_balance_7 : decode b_Law_balance 7 = .ok (.lastore, 1) := by decide +kernel
theorem d_Law_balance_8 : decode b_Law_balance 8 = .ok (.goto 6, 3) := by decide +kernel
theorem d_Law_balance_11 : decode b_Law_balance 11 = .ok (.astore_n 3, 1) := by decide +kernel
theorem d_Law_balance_12 : decode b_Law_balance 12 = .ok (.iconst 1, 1) := by decide +kernel
theorem d_Law_balance_13 : decode b_Law_balance 13 = .ok (.ireturn, 1) := by decide +kernel
theorem d_Law_balance_14 : decode b_Law_balance 14 = .ok (.iconst 0, 1) := by decide +kernel
theorem d_Law_balance_15 : decode b_Law_balance 15 = .ok (.ireturn, 1) := by decide +kernel
abbrev b_Law_order : ByteArray := method_17_code
def y_Law_order : MethodName := ⟨"WallDampLaw", "order", "(LWallDamp;II[J)I"⟩
theorem d_Law_order_0 : decode b_Law_order 0 = .ok (.aload_n 3, 1) := by decide +kernel
theorem d_Law_order_1 : decode b_Law_order 1 = .ok (.iconst 0, 1) := by decide +kernel
theorem d_Law_order_2 : decode b_Law_order 2 = .ok (.aload_n 0, 1) := by decide +kernel
theorem d_Law_order_3 : decode b_Law_order 3 = .ok (.iload_n 1, 1) := by decide +kernel
theorem d_Law_order_4 : decode b_Law_order 4 = .ok (.iload_n 2, 1) := by decide +kernel
theorem d_Law_order_5 : decode b_Law_order 5 = .ok (.invokevirtual 64, 3) := by decide +kernel
theorem d_Law_order_8 : decode b_Law_order 8 = .ok (.i2l, 1) := by decide +kernel
theorem d_Law_order_9 : decode b_Law_order 9 = .ok (.lastore, 1) := by decide +kernel
theorem d_Law_order_10 : decode b_Law_order 10 = .ok (.goto 11, 3) := by decide +kernel
theorem d_Law_order_13 : decode b_Law_order 13 = .ok (.astore 4, 2) := by decide +kernel
theorem d_Law_order_15 : decode b_Law_order 15 = .ok (.iconst 1, 1) := by decide +kernel
theorem d_Law_order_16 : decode b_Law_order 16 = .ok (.ireturn, 1) := by decide +kernel
theorem d_Law_order_17 : decode b_Law_order 17 = .ok (.astore 4, 2) := by decide +kernel
theorem d_Law_order_19 : decode b_Law_order 19 = .ok (.iconst 2, 1) := by decide +kernel
theorem d_Law_order_20 : decode b_Law_order 20 = .ok (.ireturn, 1) := by decide +kernel
theorem d_Law_order_21 : decode b_Law_order 21 = .ok (.iconst 0, 1) := by decide +kernel
theorem d_Law_order_22 : decode b_Law_order 22 = .ok (.ireturn, 1) := by decide +kernel
abbrev b_Law_law : ByteArray := code
def y_Law_law : MethodName := ⟨"WallDampLaw", "law", "([I)Z"⟩
theorem d_Law_law_0 : decode b_Law_law 0 = .ok (.new 8, 3) := by decide +kernel
theorem d_Law_law_3 : decode b_Law_law 3 = .ok (.dup, 1) := by decide +kernel
theorem d_Law_law_4 : decode b_Law_law 4 = .ok (.aload_n 0, 1) := by decide +kernel
theorem d_Law_law_5 : decode b_Law_law 5 = .ok (.iconst 0, 1) := by decide +kernel
theorem d_Law_law_6 : decode b_Law_law 6 = .ok (.invokestatic 67, 3) := by decide +kernel
theorem d_Law_law_9 : decode b_Law_law 9 = .ok (.invokespecial 72, 3) := by decide +kernel
theorem d_Law_law_12 : decode b_Law_law 12 = .ok (.astore_n 1, 1) := by decide +kernel
theorem d_Law_law_13 : decode b_Law_law 13 = .ok (.new 75, 3) := by decide +kernel
theorem d_Law_law_16 : decode b_Law_law 16 = .ok (.dup, 1) := by decide +kernel
theorem d_Law_law_17 : decode b_Law_law 17 = .ok (.aload_n 0, 1) := by decide +kernel
theorem d_Law_law_18 : decode b_Law_law 18 = .ok (.iconst 0, 1) := by decide +kernel
theorem d_Law_law_19 : decode b_Law_law 19 = .ok (.invokestatic 67, 3) := by decide +kernel
theorem d_Law_law_22 : decode b_Law_law 22 = .ok (.invokespecial 77, 3) := by decide +kernel
theorem d_Law_law_25 : decode b_Law_law 25 = .ok (.astore_n 2, 1) := by decide +kernel
theorem d_Law_law_26 : decode b_Law_law 26 = .ok (.iconst 1, 1) := by decide +kernel
theorem d_Law_law_27 : decode b_Law_law 27 = .ok (.newarray .long, 2) := by decide +kernel
theorem d_Law_law_29 : decode b_Law_law 29 = .ok (.astore_n 3, 1) := by decide +kernel
theorem d_Law_law_30 : decode b_Law_law 30 = .ok (.iconst 1, 1) := by decide +kernel
theorem d_Law_law_31 : decode b_Law_law 31 = .ok (.istore 4, 2) := by decide +kernel
theorem d_Law_law_33 : decode b_Law_law 33 = .ok (.iload 4, 2) := by decide +kernel
theorem d_Law_law_35 : decode b_Law_law 35 = .ok (.aload_n 0, 1) := by decide +kernel
theorem d_Law_law_36 : decode b_Law_law 36 = .ok (.arraylength, 1) := by decide +kernel
theorem d_Law_law_37 : decode b_Law_law 37 = .ok (.bipush 6, 2) := by decide +kernel
theorem d_Law_law_39 : decode b_Law_law 39 = .ok (.isub, 1) := by decide +kernel
theorem d_Law_law_40 : decode b_Law_law 40 = .ok (.if_icmp .gt 1110, 3) := by decide +kernel
theorem d_Law_law_43 : decode b_Law_law 43 = .ok (.aload_n 0, 1) := by decide +kernel
theorem d_Law_law_44 : decode b_Law_law 44 = .ok (.iload 4, 2) := by decide +kernel
theorem d_Law_law_46 : decode b_Law_law 46 = .ok (.iaload, 1) := by decide +kernel
theorem d_Law_law_47 : decode b_Law_law 47 = .ok (.bipush 15, 2) := by decide +kernel
theorem d_Law_law_49 : decode b_Law_law 49 = .ok (.iand, 1) := by decide +kernel
theorem d_Law_law_50 : decode b_Law_law 50 = .ok (.tableswitch 1094 0 15 #[78, 158, 230, 290, 358, 414, 462, 546, 606, 674, 742, 834, 890, 958, 1013, 1026], 78) := by decide +kernel
theorem d_Law_law_128 : decode b_Law_law 128 = .ok (.aload_n 1, 1) := by decide +kernel
theorem d_Law_law_129 : decode b_Law_law 129 = .ok (.aload_n 0, 1) := by decide +kernel
theorem d_Law_law_130 : decode b_Law_law 130 = .ok (.iload 4, 2) := by decide +kernel
theorem d_Law_law_132 : decode b_Law_law 132 = .ok (.iconst 1, 1) := by decide +kernel
theorem d_Law_law_133 : decode b_Law_law 133 = .ok (.iadd, 1) := by decide +kernel
theorem d_Law_law_134 : decode b_Law_law 134 = .ok (.iaload, 1) := by decide +kernel
theorem d_Law_law_135 : decode b_Law_law 135 = .ok (.aload_n 0, 1) := by decide +kernel
theorem d_Law_law_136 : decode b_Law_law 136 = .ok (.iload 4, 2) := by decide +kernel
theorem d_Law_law_138 : decode b_Law_law 138 = .ok (.iconst 2, 1) := by decide +kernel
theorem d_Law_law_139 : decode b_Law_law 139 = .ok (.iadd, 1) := by decide +kernel
theorem d_Law_law_140 : decode b_Law_law 140 = .ok (.iaload, 1) := by decide +kernel
theorem d_Law_law_141 : decode b_Law_law 141 = .ok (.aload_n 0, 1) := by decide +kernel
theorem d_Law_law_142 : decode b_Law_law 142 = .ok (.iload 4, 2) := by decide +kernel
theorem d_Law_law_144 : decode b_Law_law 144 = .ok (.iconst 3, 1) := by decide +kernel
theorem d_Law_law_145 : decode b_Law_law 145 = .ok (.iadd, 1) := by decide +kernel
theorem d_Law_law_146 : decode b_Law_law 146 = .ok (.iaload, 1) := by decide +kernel
theorem d_Law_law_147 : decode b_Law_law 147 = .ok (.aload_n 3, 1) := by decide +kernel
theorem d_Law_law_148 : decode b_Law_law 148 = .ok (.invokestatic 78, 3) := by decide +kernel
theorem d_Law_law_151 : decode b_Law_law 151 = .ok (.istore 5, 2) := by decide +kernel
theorem d_Law_law_153 : decode b_Law_law 153 = .ok (.aload_n 2, 1) := by decide +kernel
theorem d_Law_law_154 : decode b_Law_law 154 = .ok (.aload_n 0, 1) := by decide +kernel
theorem d_Law_law_155 : decode b_Law_law 155 = .ok (.iload 4, 2) := by decide +kernel
theorem d_Law_law_157 : decode b_Law_law 157 = .ok (.iconst 1, 1) := by decide +kernel
theorem d_Law_law_158 : decode b_Law_law 158 = .ok (.iadd, 1) := by decide +kernel
theorem d_Law_law_159 : decode b_Law_law 159 = .ok (.iaload, 1) := by decide +kernel
theorem d_Law_law_160 : decode b_Law_law 160 = .ok (.aload_n 0, 1) := by decide +kernel
theorem d_Law_law_161 : decode b_Law_law 161 = .ok (.iload 4, 2) := by decide +kernel
theorem d_Law_law_163 : decode b_Law_law 163 = .ok (.iconst 2, 1) := by decide +kernel
theorem d_Law_law_164 : decode b_Law_law 164 = .ok (.iadd, 1) := by decide +kernel
theorem d_Law_law_165 : decode b_Law_law 165 = .ok (.iaload, 1) := by decide +kernel
theorem d_Law_law_166 : decode b_Law_law 166 = .ok (.aload_n 0, 1) := by decide +kernel
theorem d_Law_law_167 : decode b_Law_law 167 = .ok (.iload 4, 2) := by decide +kernel
theorem d_Law_law_169 : decode b_Law_law 169 = .ok (.iconst 3, 1) := by decide +kernel
theorem d_Law_law_170 : decode b_Law_law 170 = .ok (.iadd, 1) := by decide +kernel
theorem d_Law_law_171 : decode b_Law_law 171 = .ok (.iaload, 1) := by decide +kernel
theorem d_Law_law_172 : decode b_Law_law 172 = .ok (.invokevirtual 81, 3) := by decide +kernel
theorem d_Law_law_175 : decode b_Law_law 175 = .ok (.istore 6, 2) := by decide +kernel
theorem d_Law_law_177 : decode b_Law_law 177 = .ok (.aload_n 2, 1) := by decide +kernel
theorem d_Law_law_178 : decode b_Law_law 178 = .ok (.invokevirtual 82, 3) := by decide +kernel
theorem d_Law_law_181 : decode b_Law_law 181 = .ok (.iload 5, 2) := by decide +kernel
theorem d_Law_law_183 : decode b_Law_law 183 = .ok (.if_icmp .eq 5, 3) := by decide +kernel
theorem d_Law_law_186 : decode b_Law_law 186 = .ok (.iconst 0, 1) := by decide +kernel
theorem d_Law_law_187 : decode b_Law_law 187 = .ok (.ireturn, 1) := by decide +kernel
theorem d_Law_law_188 : decode b_Law_law 188 = .ok (.iload 5, 2) := by decide +kernel
theorem d_Law_law_190 : decode b_Law_law 190 = .ok (.ifCond .ne 15, 3) := by decide +kernel
theorem d_Law_law_193 : decode b_Law_law 193 = .ok (.aload_n 3, 1) := by decide +kernel
theorem d_Law_law_194 : decode b_Law_law 194 = .ok (.iconst 0, 1) := by decide +kernel
theorem d_Law_law_195 : decode b_Law_law 195 = .ok (.laload, 1) := by decide +kernel
theorem d_Law_law_196 : decode b_Law_law 196 = .ok (.iload 6, 2) := by decide +kernel
theorem d_Law_law_198 : decode b_Law_law 198 = .ok (.i2l, 1) := by decide +kernel
theorem d_Law_law_199 : decode b_Law_law 199 = .ok (.lcmp, 1) := by decide +kernel
theorem d_Law_law_200 : decode b_Law_law 200 = .ok (.ifCond .eq 5, 3) := by decide +kernel
theorem d_Law_law_203 : decode b_Law_law 203 = .ok (.iconst 0, 1) := by decide +kernel
theorem d_Law_law_204 : decode b_Law_law 204 = .ok (.ireturn, 1) := by decide +kernel
theorem d_Law_law_205 : decode b_Law_law 205 = .ok (.goto 939, 3) := by decide +kernel
theorem d_Law_law_208 : decode b_Law_law 208 = .ok (.aload_n 1, 1) := by decide +kernel
theorem d_Law_law_209 : decode b_Law_law 209 = .ok (.aload_n 0, 1) := by decide +kernel
theorem d_Law_law_210 : decode b_Law_law 210 = .ok (.iload 4, 2) := by decide +kernel
theorem d_Law_law_212 : decode b_Law_law 212 = .ok (.iconst 1, 1) := by decide +kernel
theorem d_Law_law_213 : decode b_Law_law 213 = .ok (.iadd, 1) := by decide +kernel
theorem d_Law_law_214 : decode b_Law_law 214 = .ok (.iaload, 1) := by decide +kernel
theorem d_Law_law_215 : decode b_Law_law 215 = .ok (.aload_n 0, 1) := by decide +kernel
theorem d_Law_law_216 : decode b_Law_law 216 = .ok (.iload 4, 2) := by decide +kernel
theorem d_Law_law_218 : decode b_Law_law 218 = .ok (.iconst 2, 1) := by decide +kernel
theorem d_Law_law_219 : decode b_Law_law 219 = .ok (.iadd, 1) := by decide +kernel
theorem d_Law_law_220 : decode b_Law_law 220 = .ok (.iaload, 1) := by decide +kernel
theorem d_Law_law_221 : decode b_Law_law 221 = .ok (.aload_n 0, 1) := by decide +kernel
theorem d_Law_law_222 : decode b_Law_law 222 = .ok (.iload 4, 2) := by decide +kernel
theorem d_Law_law_224 : decode b_Law_law 224 = .ok (.iconst 3, 1) := by decide +kernel
theorem d_Law_law_225 : decode b_Law_law 225 = .ok (.iadd, 1) := by decide +kernel
theorem d_Law_law_226 : decode b_Law_law 226 = .ok (.iaload, 1) := by decide +kernel
theorem d_Law_law_227 : decode b_Law_law 227 = .ok (.aload_n 0, 1) := by decide +kernel
theorem d_Law_law_228 : decode b_Law_law 228 = .ok (.iload 4, 2) := by decide +kernel
theorem d_Law_law_230 : decode b_Law_law 230 = .ok (.iconst 4, 1) := by decide +kernel
theorem d_Law_law_231 : decode b_Law_law 231 = .ok (.iadd, 1) := by decide +kernel
theorem d_Law_law_232 : decode b_Law_law 232 = .ok (.iaload, 1) := by decide +kernel
theorem d_Law_law_233 : decode b_Law_law 233 = .ok (.invokestatic 86, 3) := by decide +kernel
theorem d_Law_law_236 : decode b_Law_law 236 = .ok (.istore 5, 2) := by decide +kernel
theorem d_Law_law_238 : decode b_Law_law 238 = .ok (.aload_n 2, 1) := by decide +kernel
theorem d_Law_law_239 : decode b_Law_law 239 = .ok (.aload_n 0, 1) := by decide +kernel
theorem d_Law_law_240 : decode b_Law_law 240 = .ok (.iload 4, 2) := by decide +kernel
theorem d_Law_law_242 : decode b_Law_law 242 = .ok (.iconst 1, 1) := by decide +kernel
theorem d_Law_law_243 : decode b_Law_law 243 = .ok (.iadd, 1) := by decide +kernel
theorem d_Law_law_244 : decode b_Law_law 244 = .ok (.iaload, 1) := by decide +kernel
theorem d_Law_law_245 : decode b_Law_law 245 = .ok (.aload_n 0, 1) := by decide +kernel
theorem d_Law_law_246 : decode b_Law_law 246 = .ok (.iload 4, 2) := by decide +kernel
theorem d_Law_law_248 : decode b_Law_law 248 = .ok (.iconst 2, 1) := by decide +kernel
theorem d_Law_law_249 : decode b_Law_law 249 = .ok (.iadd, 1) := by decide +kernel
theorem d_Law_law_250 : decode b_Law_law 250 = .ok (.iaload, 1) := by decide +kernel
theorem d_Law_law_251 : decode b_Law_law 251 = .ok (.aload_n 0, 1) := by decide +kernel
theorem d_Law_law_252 : decode b_Law_law 252 = .ok (.iload 4, 2) := by decide +kernel
theorem d_Law_law_254 : decode b_Law_law 254 = .ok (.iconst 3, 1) := by decide +kernel
theorem d_Law_law_255 : decode b_Law_law 255 = .ok (.iadd, 1) := by decide +kernel
theorem d_Law_law_256 : decode b_Law_law 256 = .ok (.iaload, 1) := by decide +kernel
theorem d_Law_law_257 : decode b_Law_law 257 = .ok (.aload_n 0, 1) := by decide +kernel
theorem d_Law_law_258 : decode b_Law_law 258 = .ok (.iload 4, 2) := by decide +kernel
theorem d_Law_law_260 : decode b_Law_law 260 = .ok (.iconst 4, 1) := by decide +kernel
theorem d_Law_law_261 : decode b_Law_law 261 = .ok (.iadd, 1) := by decide +kernel
theorem d_Law_law_262 : decode b_Law_law 262 = .ok (.iaload, 1) := by decide +kernel
theorem d_Law_law_263 : decode b_Law_law 263 = .ok (.invokevirtual 89, 3) := by decide +kernel
theorem d_Law_law_266 : decode b_Law_law 266 = .ok (.aload_n 2, 1) := by decide +kernel
theorem d_Law_law_267 : decode b_Law_law 267 = .ok (.invokevirtual 82, 3) := by decide +kernel
theorem d_Law_law_270 : decode b_Law_law 270 = .ok (.iload 5, 2) := by decide +kernel
theorem d_Law_law_272 : decode b_Law_law 272 = .ok (.if_icmp .eq 5, 3) := by decide +kernel
theorem d_Law_law_275 : decode b_Law_law 275 = .ok (.iconst 0, 1) := by decide +kernel
theorem d_Law_law_276 : decode b_Law_law 276 = .ok (.ireturn, 1) := by decide +kernel
theorem d_Law_law_277 : decode b_Law_law 277 = .ok (.goto 867, 3) := by decide +kernel
theorem d_Law_law_280 : decode b_Law_law 280 = .ok (.aload_n 1, 1) := by decide +kernel
theorem d_Law_law_281 : decode b_Law_law 281 = .ok (.aload_n 0, 1) := by decide +kernel
theorem d_Law_law_282 : decode b_Law_law 282 = .ok (.iload 4, 2) := by decide +kernel
theorem d_Law_law_284 : decode b_Law_law 284 = .ok (.iconst 1, 1) := by decide +kernel
theorem d_Law_law_285 : decode b_Law_law 285 = .ok (.iadd, 1) := by decide +kernel
theorem d_Law_law_286 : decode b_Law_law 286 = .ok (.iaload, 1) := by decide +kernel
theorem d_Law_law_287 : decode b_Law_law 287 = .ok (.aload_n 0, 1) := by decide +kernel
theorem d_Law_law_288 : decode b_Law_law 288 = .ok (.iload 4, 2) := by decide +kernel
theorem d_Law_law_290 : decode b_Law_law 290 = .ok (.iconst 2, 1) := by decide +kernel
theorem d_Law_law_291 : decode b_Law_law 291 = .ok (.iadd, 1) := by decide +kernel
theorem d_Law_law_292 : decode b_Law_law 292 = .ok (.iaload, 1) := by decide +kernel
theorem d_Law_law_293 : decode b_Law_law 293 = .ok (.aload_n 0, 1) := by decide +kernel
theorem d_Law_law_294 : decode b_Law_law 294 = .ok (.iload 4, 2) := by decide +kernel
theorem d_Law_law_296 : decode b_Law_law 296 = .ok (.iconst 3, 1) := by decide +kernel
theorem d_Law_law_297 : decode b_Law_law 297 = .ok (.iadd, 1) := by decide +kernel
theorem d_Law_law_298 : decode b_Law_law 298 = .ok (.iaload, 1) := by decide +kernel
theorem d_Law_law_299 : decode b_Law_law 299 = .ok (.invokestatic 90, 3) := by decide +kernel
theorem d_Law_law_302 : decode b_Law_law 302 = .ok (.istore 5, 2) := by decide +kernel
theorem d_Law_law_304 : decode b_Law_law 304 = .ok (.aload_n 2, 1) := by decide +kernel
theorem d_Law_law_305 : decode b_Law_law 305 = .ok (.aload_n 0, 1) := by decide +kernel
theorem d_Law_law_306 : decode b_Law_law 306 = .ok (.iload 4, 2) := by decide +kernel
theorem d_Law_law_308 : decode b_Law_law 308 = .ok (.iconst 1, 1) := by decide +kernel
theorem d_Law_law_309 : decode b_Law_law 309 = .ok (.iadd, 1) := by decide +kernel
theorem d_Law_law_310 : decode b_Law_law 310 = .ok (.iaload, 1) := by decide +kernel
theorem d_Law_law_311 : decode b_Law_law 311 = .ok (.aload_n 0, 1) := by decide +kernel
theorem d_Law_law_312 : decode b_Law_law 312 = .ok (.iload 4, 2) := by decide +kernel
theorem d_Law_law_314 : decode b_Law_law 314 = .ok (.iconst 2, 1) := by decide +kernel
theorem d_Law_law_315 : decode b_Law_law 315 = .ok (.iadd, 1) := by decide +kernel
theorem d_Law_law_316 : decode b_Law_law 316 = .ok (.iaload, 1) := by decide +kernel
theorem d_Law_law_317 : decode b_Law_law 317 = .ok (.aload_n 0, 1) := by decide +kernel
theorem d_Law_law_318 : decode b_Law_law 318 = .ok (.iload 4, 2) := by decide +kernel
theorem d_Law_law_320 : decode b_Law_law 320 = .ok (.iconst 3, 1) := by decide +kernel
theorem d_Law_law_321 : decode b_Law_law 321 = .ok (.iadd, 1) := by decide +kernel
theorem d_Law_law_322 : decode b_Law_law 322 = .ok (.iaload, 1) := by decide +kernel
theorem d_Law_law_323 : decode b_Law_law 323 = .ok (.invokevirtual 93, 3) := by decide +kernel
theorem d_Law_law_326 : decode b_Law_law 326 = .ok (.aload_n 2, 1) := by decide +kernel
theorem d_Law_law_327 : decode b_Law_law 327 = .ok (.invokevirtual 82, 3) := by decide +kernel
theorem d_Law_law_330 : decode b_Law_law 330 = .ok (.iload 5, 2) := by decide +kernel
theorem d_Law_law_332 : decode b_Law_law 332 = .ok (.if_icmp .eq 5, 3) := by decide +kernel
theorem d_Law_law_335 : decode b_Law_law 335 = .ok (.iconst 0, 1) := by decide +kernel
theorem d_Law_law_336 : decode b_Law_law 336 = .ok (.ireturn, 1) := by decide +kernel
theorem d_Law_law_337 : decode b_Law_law 337 = .ok (.goto 807, 3) := by decide +kernel
theorem d_Law_law_340 : decode b_Law_law 340 = .ok (.aload_n 1, 1) := by decide +kernel
theorem d_Law_law_341 : decode b_Law_law 341 = .ok (.aload_n 0, 1) := by decide +kernel
theorem d_Law_law_342 : decode b_Law_law 342 = .ok (.iload 4, 2) := by decide +kernel
theorem d_Law_law_344 : decode b_Law_law 344 = .ok (.iconst 1, 1) := by decide +kernel
theorem d_Law_law_345 : decode b_Law_law 345 = .ok (.iadd, 1) := by decide +kernel
theorem d_Law_law_346 : decode b_Law_law 346 = .ok (.iaload, 1) := by decide +kernel
theorem d_Law_law_347 : decode b_Law_law 347 = .ok (.aload_n 0, 1) := by decide +kernel
theorem d_Law_law_348 : decode b_Law_law 348 = .ok (.iload 4, 2) := by decide +kernel
theorem d_Law_law_350 : decode b_Law_law 350 = .ok (.iconst 2, 1) := by decide +kernel
theorem d_Law_law_351 : decode b_Law_law 351 = .ok (.iadd, 1) := by decide +kernel
theorem d_Law_law_352 : decode b_Law_law 352 = .ok (.iaload, 1) := by decide +kernel
theorem d_Law_law_353 : decode b_Law_law 353 = .ok (.aload_n 3, 1) := by decide +kernel
theorem d_Law_law_354 : decode b_Law_law 354 = .ok (.invokestatic 94, 3) := by decide +kernel
theorem d_Law_law_357 : decode b_Law_law 357 = .ok (.istore 5, 2) := by decide +kernel
theorem d_Law_law_359 : decode b_Law_law 359 = .ok (.aload_n 2, 1) := by decide +kernel
theorem d_Law_law_360 : decode b_Law_law 360 = .ok (.aload_n 0, 1) := by decide +kernel
theorem d_Law_law_361 : decode b_Law_law 361 = .ok (.iload 4, 2) := by decide +kernel
theorem d_Law_law_363 : decode b_Law_law 363 = .ok (.iconst 1, 1) := by decide +kernel
theorem d_Law_law_364 : decode b_Law_law 364 = .ok (.iadd, 1) := by decide +kernel
theorem d_Law_law_365 : decode b_Law_law 365 = .ok (.iaload, 1) := by decide +kernel
theorem d_Law_law_366 : decode b_Law_law 366 = .ok (.aload_n 0, 1) := by decide +kernel
theorem d_Law_law_367 : decode b_Law_law 367 = .ok (.iload 4, 2) := by decide +kernel
theorem d_Law_law_369 : decode b_Law_law 369 = .ok (.iconst 2, 1) := by decide +kernel
theorem d_Law_law_370 : decode b_Law_law 370 = .ok (.iadd, 1) := by decide +kernel
theorem d_Law_law_371 : decode b_Law_law 371 = .ok (.iaload, 1) := by decide +kernel
theorem d_Law_law_372 : decode b_Law_law 372 = .ok (.invokevirtual 97, 3) := by decide +kernel
theorem d_Law_law_375 : decode b_Law_law 375 = .ok (.istore 6, 2) := by decide +kernel
theorem d_Law_law_377 : decode b_Law_law 377 = .ok (.aload_n 2, 1) := by decide +kernel
theorem d_Law_law_378 : decode b_Law_law 378 = .ok (.invokevirtual 82, 3) := by decide +kernel
theorem d_Law_law_381 : decode b_Law_law 381 = .ok (.iload 5, 2) := by decide +kernel
theorem d_Law_law_383 : decode b_Law_law 383 = .ok (.if_icmp .eq 5, 3) := by decide +kernel
theorem d_Law_law_386 : decode b_Law_law 386 = .ok (.iconst 0, 1) := by decide +kernel
theorem d_Law_law_387 : decode b_Law_law 387 = .ok (.ireturn, 1) := by decide +kernel
theorem d_Law_law_388 : decode b_Law_law 388 = .ok (.iload 5, 2) := by decide +kernel
theorem d_Law_law_390 : decode b_Law_law 390 = .ok (.ifCond .ne 15, 3) := by decide +kernel
theorem d_Law_law_393 : decode b_Law_law 393 = .ok (.aload_n 3, 1) := by decide +kernel
theorem d_Law_law_394 : decode b_Law_law 394 = .ok (.iconst 0, 1) := by decide +kernel
theorem d_Law_law_395 : decode b_Law_law 395 = .ok (.laload, 1) := by decide +kernel
theorem d_Law_law_396 : decode b_Law_law 396 = .ok (.iload 6, 2) := by decide +kernel
theorem d_Law_law_398 : decode b_Law_law 398 = .ok (.i2l, 1) := by decide +kernel
theorem d_Law_law_399 : decode b_Law_law 399 = .ok (.lcmp, 1) := by decide +kernel
theorem d_Law_law_400 : decode b_Law_law 400 = .ok (.ifCond .eq 5, 3) := by decide +kernel
theorem d_Law_law_403 : decode b_Law_law 403 = .ok (.iconst 0, 1) := by decide +kernel
theorem d_Law_law_404 : decode b_Law_law 404 = .ok (.ireturn, 1) := by decide +kernel
theorem d_Law_law_405 : decode b_Law_law 405 = .ok (.goto 739, 3) := by decide +kernel
theorem d_Law_law_408 : decode b_Law_law 408 = .ok (.aload_n 1, 1) := by decide +kernel
theorem d_Law_law_409 : decode b_Law_law 409 = .ok (.aload_n 0, 1) := by decide +kernel
theorem d_Law_law_410 : decode b_Law_law 410 = .ok (.iload 4, 2) := by decide +kernel
theorem d_Law_law_412 : decode b_Law_law 412 = .ok (.iconst 1, 1) := by decide +kernel
theorem d_Law_law_413 : decode b_Law_law 413 = .ok (.iadd, 1) := by decide +kernel
theorem d_Law_law_414 : decode b_Law_law 414 = .ok (.iaload, 1) := by decide +kernel
theorem d_Law_law_415 : decode b_Law_law 415 = .ok (.aload_n 3, 1) := by decide +kernel
theorem d_Law_law_416 : decode b_Law_law 416 = .ok (.invokestatic 98, 3) := by decide +kernel
theorem d_Law_law_419 : decode b_Law_law 419 = .ok (.istore 5, 2) := by decide +kernel
theorem d_Law_law_421 : decode b_Law_law 421 = .ok (.aload_n 2, 1) := by decide +kernel
theorem d_Law_law_422 : decode b_Law_law 422 = .ok (.aload_n 0, 1) := by decide +kernel
theorem d_Law_law_423 : decode b_Law_law 423 = .ok (.iload 4, 2) := by decide +kernel
theorem d_Law_law_425 : decode b_Law_law 425 = .ok (.iconst 1, 1) := by decide +kernel
theorem d_Law_law_426 : decode b_Law_law 426 = .ok (.iadd, 1) := by decide +kernel
theorem d_Law_law_427 : decode b_Law_law 427 = .ok (.iaload, 1) := by decide +kernel
theorem d_Law_law_428 : decode b_Law_law 428 = .ok (.invokevirtual 101, 3) := by decide +kernel
theorem d_Law_law_431 : decode b_Law_law 431 = .ok (.istore 6, 2) := by decide +kernel
theorem d_Law_law_433 : decode b_Law_law 433 = .ok (.aload_n 2, 1) := by decide +kernel
theorem d_Law_law_434 : decode b_Law_law 434 = .ok (.invokevirtual 82, 3) := by decide +kernel
theorem d_Law_law_437 : decode b_Law_law 437 = .ok (.iload 5, 2) := by decide +kernel
theorem d_Law_law_439 : decode b_Law_law 439 = .ok (.if_icmp .eq 5, 3) := by decide +kernel
theorem d_Law_law_442 : decode b_Law_law 442 = .ok (.iconst 0, 1) := by decide +kernel
theorem d_Law_law_443 : decode b_Law_law 443 = .ok (.ireturn, 1) := by decide +kernel
theorem d_Law_law_444 : decode b_Law_law 444 = .ok (.iload 5, 2) := by decide +kernel
theorem d_Law_law_446 : decode b_Law_law 446 = .ok (.ifCond .ne 15, 3) := by decide +kernel
theorem d_Law_law_449 : decode b_Law_law 449 = .ok (.aload_n 3, 1) := by decide +kernel
theorem d_Law_law_450 : decode b_Law_law 450 = .ok (.iconst 0, 1) := by decide +kernel
theorem d_Law_law_451 : decode b_Law_law 451 = .ok (.laload, 1) := by decide +kernel
theorem d_Law_law_452 : decode b_Law_law 452 = .ok (.iload 6, 2) := by decide +kernel
theorem d_Law_law_454 : decode b_Law_law 454 = .ok (.i2l, 1) := by decide +kernel
theorem d_Law_law_455 : decode b_Law_law 455 = .ok (.lcmp, 1) := by decide +kernel
theorem d_Law_law_456 : decode b_Law_law 456 = .ok (.ifCond .eq 5, 3) := by decide +kernel
theorem d_Law_law_459 : decode b_Law_law 459 = .ok (.iconst 0, 1) := by decide +kernel
theorem d_Law_law_460 : decode b_Law_law 460 = .ok (.ireturn, 1) := by decide +kernel
theorem d_Law_law_461 : decode b_Law_law 461 = .ok (.goto 683, 3) := by decide +kernel
theorem d_Law_law_464 : decode b_Law_law 464 = .ok (.aload_n 1, 1) := by decide +kernel
theorem d_Law_law_465 : decode b_Law_law 465 = .ok (.aload_n 0, 1) := by decide +kernel
theorem d_Law_law_466 : decode b_Law_law 466 = .ok (.iload 4, 2) := by decide +kernel
theorem d_Law_law_468 : decode b_Law_law 468 = .ok (.iconst 1, 1) := by decide +kernel
theorem d_Law_law_469 : decode b_Law_law 469 = .ok (.iadd, 1) := by decide +kernel
theorem d_Law_law_470 : decode b_Law_law 470 = .ok (.iaload, 1) := by decide +kernel
theorem d_Law_law_471 : decode b_Law_law 471 = .ok (.aload_n 0, 1) := by decide +kernel
theorem d_Law_law_472 : decode b_Law_law 472 = .ok (.iload 4, 2) := by decide +kernel
theorem d_Law_law_474 : decode b_Law_law 474 = .ok (.iconst 2, 1) := by decide +kernel
theorem d_Law_law_475 : decode b_Law_law 475 = .ok (.iadd, 1) := by decide +kernel
theorem d_Law_law_476 : decode b_Law_law 476 = .ok (.iaload, 1) := by decide +kernel
theorem d_Law_law_477 : decode b_Law_law 477 = .ok (.invokestatic 102, 3) := by decide +kernel
theorem d_Law_law_480 : decode b_Law_law 480 = .ok (.istore 5, 2) := by decide +kernel
theorem d_Law_law_482 : decode b_Law_law 482 = .ok (.aload_n 2, 1) := by decide +kernel
theorem d_Law_law_483 : decode b_Law_law 483 = .ok (.aload_n 0, 1) := by decide +kernel
theorem d_Law_law_484 : decode b_Law_law 484 = .ok (.iload 4, 2) := by decide +kernel
theorem d_Law_law_486 : decode b_Law_law 486 = .ok (.iconst 1, 1) := by decide +kernel
theorem d_Law_law_487 : decode b_Law_law 487 = .ok (.iadd, 1) := by decide +kernel
theorem d_Law_law_488 : decode b_Law_law 488 = .ok (.iaload, 1) := by decide +kernel
theorem d_Law_law_489 : decode b_Law_law 489 = .ok (.aload_n 0, 1) := by decide +kernel
theorem d_Law_law_490 : decode b_Law_law 490 = .ok (.iload 4, 2) := by decide +kernel
theorem d_Law_law_492 : decode b_Law_law 492 = .ok (.iconst 2, 1) := by decide +kernel
theorem d_Law_law_493 : decode b_Law_law 493 = .ok (.iadd, 1) := by decide +kernel
theorem d_Law_law_494 : decode b_Law_law 494 = .ok (.iaload, 1) := by decide +kernel
theorem d_Law_law_495 : decode b_Law_law 495 = .ok (.invokevirtual 105, 3) := by decide +kernel
theorem d_Law_law_498 : decode b_Law_law 498 = .ok (.aload_n 2, 1) := by decide +kernel
theorem d_Law_law_499 : decode b_Law_law 499 = .ok (.invokevirtual 82, 3) := by decide +kernel
theorem d_Law_law_502 : decode b_Law_law 502 = .ok (.iload 5, 2) := by decide +kernel
theorem d_Law_law_504 : decode b_Law_law 504 = .ok (.if_icmp .eq 5, 3) := by decide +kernel
theorem d_Law_law_507 : decode b_Law_law 507 = .ok (.iconst 0, 1) := by decide +kernel
theorem d_Law_law_508 : decode b_Law_law 508 = .ok (.ireturn, 1) := by decide +kernel
theorem d_Law_law_509 : decode b_Law_law 509 = .ok (.goto 635, 3) := by decide +kernel
theorem d_Law_law_512 : decode b_Law_law 512 = .ok (.aload_n 1, 1) := by decide +kernel
theorem d_Law_law_513 : decode b_Law_law 513 = .ok (.aload_n 0, 1) := by decide +kernel
theorem d_Law_law_514 : decode b_Law_law 514 = .ok (.iload 4, 2) := by decide +kernel
theorem d_Law_law_516 : decode b_Law_law 516 = .ok (.iconst 1, 1) := by decide +kernel
theorem d_Law_law_517 : decode b_Law_law 517 = .ok (.iadd, 1) := by decide +kernel
theorem d_Law_law_518 : decode b_Law_law 518 = .ok (.iaload, 1) := by decide +kernel
theorem d_Law_law_519 : decode b_Law_law 519 = .ok (.aload_n 0, 1) := by decide +kernel
theorem d_Law_law_520 : decode b_Law_law 520 = .ok (.iload 4, 2) := by decide +kernel
theorem d_Law_law_522 : decode b_Law_law 522 = .ok (.iconst 2, 1) := by decide +kernel
theorem d_Law_law_523 : decode b_Law_law 523 = .ok (.iadd, 1) := by decide +kernel
theorem d_Law_law_524 : decode b_Law_law 524 = .ok (.iaload, 1) := by decide +kernel
theorem d_Law_law_525 : decode b_Law_law 525 = .ok (.aload_n 0, 1) := by decide +kernel
theorem d_Law_law_526 : decode b_Law_law 526 = .ok (.iload 4, 2) := by decide +kernel
theorem d_Law_law_528 : decode b_Law_law 528 = .ok (.iconst 3, 1) := by decide +kernel
theorem d_Law_law_529 : decode b_Law_law 529 = .ok (.iadd, 1) := by decide +kernel
theorem d_Law_law_530 : decode b_Law_law 530 = .ok (.iaload, 1) := by decide +kernel
theorem d_Law_law_531 : decode b_Law_law 531 = .ok (.aload_n 0, 1) := by decide +kernel
theorem d_Law_law_532 : decode b_Law_law 532 = .ok (.iload 4, 2) := by decide +kernel
theorem d_Law_law_534 : decode b_Law_law 534 = .ok (.iconst 4, 1) := by decide +kernel
theorem d_Law_law_535 : decode b_Law_law 535 = .ok (.iadd, 1) := by decide +kernel
theorem d_Law_law_536 : decode b_Law_law 536 = .ok (.iaload, 1) := by decide +kernel
theorem d_Law_law_537 : decode b_Law_law 537 = .ok (.aload_n 0, 1) := by decide +kernel
theorem d_Law_law_538 : decode b_Law_law 538 = .ok (.iload 4, 2) := by decide +kernel
theorem d_Law_law_540 : decode b_Law_law 540 = .ok (.iconst 5, 1) := by decide +kernel
theorem d_Law_law_541 : decode b_Law_law 541 = .ok (.iadd, 1) := by decide +kernel
theorem d_Law_law_542 : decode b_Law_law 542 = .ok (.iaload, 1) := by decide +kernel
theorem d_Law_law_543 : decode b_Law_law 543 = .ok (.invokestatic 106, 3) := by decide +kernel
theorem d_Law_law_546 : decode b_Law_law 546 = .ok (.istore 5, 2) := by decide +kernel
theorem d_Law_law_548 : decode b_Law_law 548 = .ok (.aload_n 2, 1) := by decide +kernel
theorem d_Law_law_549 : decode b_Law_law 549 = .ok (.aload_n 0, 1) := by decide +kernel
theorem d_Law_law_550 : decode b_Law_law 550 = .ok (.iload 4, 2) := by decide +kernel
theorem d_Law_law_552 : decode b_Law_law 552 = .ok (.iconst 1, 1) := by decide +kernel
theorem d_Law_law_553 : decode b_Law_law 553 = .ok (.iadd, 1) := by decide +kernel
theorem d_Law_law_554 : decode b_Law_law 554 = .ok (.iaload, 1) := by decide +kernel
theorem d_Law_law_555 : decode b_Law_law 555 = .ok (.aload_n 0, 1) := by decide +kernel
theorem d_Law_law_556 : decode b_Law_law 556 = .ok (.iload 4, 2) := by decide +kernel
theorem d_Law_law_558 : decode b_Law_law 558 = .ok (.iconst 2, 1) := by decide +kernel
theorem d_Law_law_559 : decode b_Law_law 559 = .ok (.iadd, 1) := by decide +kernel
theorem d_Law_law_560 : decode b_Law_law 560 = .ok (.iaload, 1) := by decide +kernel
theorem d_Law_law_561 : decode b_Law_law 561 = .ok (.aload_n 0, 1) := by decide +kernel
theorem d_Law_law_562 : decode b_Law_law 562 = .ok (.iload 4, 2) := by decide +kernel
theorem d_Law_law_564 : decode b_Law_law 564 = .ok (.iconst 3, 1) := by decide +kernel
theorem d_Law_law_565 : decode b_Law_law 565 = .ok (.iadd, 1) := by decide +kernel
theorem d_Law_law_566 : decode b_Law_law 566 = .ok (.iaload, 1) := by decide +kernel
theorem d_Law_law_567 : decode b_Law_law 567 = .ok (.aload_n 0, 1) := by decide +kernel
theorem d_Law_law_568 : decode b_Law_law 568 = .ok (.iload 4, 2) := by decide +kernel
theorem d_Law_law_570 : decode b_Law_law 570 = .ok (.iconst 4, 1) := by decide +kernel
theorem d_Law_law_571 : decode b_Law_law 571 = .ok (.iadd, 1) := by decide +kernel
theorem d_Law_law_572 : decode b_Law_law 572 = .ok (.iaload, 1) := by decide +kernel
theorem d_Law_law_573 : decode b_Law_law 573 = .ok (.aload_n 0, 1) := by decide +kernel
theorem d_Law_law_574 : decode b_Law_law 574 = .ok (.iload 4, 2) := by decide +kernel
theorem d_Law_law_576 : decode b_Law_law 576 = .ok (.iconst 5, 1) := by decide +kernel
theorem d_Law_law_577 : decode b_Law_law 577 = .ok (.iadd, 1) := by decide +kernel
theorem d_Law_law_578 : decode b_Law_law 578 = .ok (.iaload, 1) := by decide +kernel
theorem d_Law_law_579 : decode b_Law_law 579 = .ok (.invokevirtual 109, 3) := by decide +kernel
theorem d_Law_law_582 : decode b_Law_law 582 = .ok (.aload_n 2, 1) := by decide +kernel
theorem d_Law_law_583 : decode b_Law_law 583 = .ok (.invokevirtual 82, 3) := by decide +kernel
theorem d_Law_law_586 : decode b_Law_law 586 = .ok (.iload 5, 2) := by decide +kernel
theorem d_Law_law_588 : decode b_Law_law 588 = .ok (.if_icmp .eq 5, 3) := by decide +kernel
theorem d_Law_law_591 : decode b_Law_law 591 = .ok (.iconst 0, 1) := by decide +kernel
theorem d_Law_law_592 : decode b_Law_law 592 = .ok (.ireturn, 1) := by decide +kernel
theorem d_Law_law_593 : decode b_Law_law 593 = .ok (.goto 551, 3) := by decide +kernel
theorem d_Law_law_596 : decode b_Law_law 596 = .ok (.aload_n 1, 1) := by decide +kernel
theorem d_Law_law_597 : decode b_Law_law 597 = .ok (.aload_n 0, 1) := by decide +kernel
theorem d_Law_law_598 : decode b_Law_law 598 = .ok (.iload 4, 2) := by decide +kernel
theorem d_Law_law_600 : decode b_Law_law 600 = .ok (.iconst 1, 1) := by decide +kernel
theorem d_Law_law_601 : decode b_Law_law 601 = .ok (.iadd, 1) := by decide +kernel
theorem d_Law_law_602 : decode b_Law_law 602 = .ok (.iaload, 1) := by decide +kernel
theorem d_Law_law_603 : decode b_Law_law 603 = .ok (.aload_n 0, 1) := by decide +kernel
theorem d_Law_law_604 : decode b_Law_law 604 = .ok (.iload 4, 2) := by decide +kernel
theorem d_Law_law_606 : decode b_Law_law 606 = .ok (.iconst 2, 1) := by decide +kernel
theorem d_Law_law_607 : decode b_Law_law 607 = .ok (.iadd, 1) := by decide +kernel
theorem d_Law_law_608 : decode b_Law_law 608 = .ok (.iaload, 1) := by decide +kernel
theorem d_Law_law_609 : decode b_Law_law 609 = .ok (.aload_n 0, 1) := by decide +kernel
theorem d_Law_law_610 : decode b_Law_law 610 = .ok (.iload 4, 2) := by decide +kernel
theorem d_Law_law_612 : decode b_Law_law 612 = .ok (.iconst 3, 1) := by decide +kernel
theorem d_Law_law_613 : decode b_Law_law 613 = .ok (.iadd, 1) := by decide +kernel
theorem d_Law_law_614 : decode b_Law_law 614 = .ok (.iaload, 1) := by decide +kernel
theorem d_Law_law_615 : decode b_Law_law 615 = .ok (.invokestatic 110, 3) := by decide +kernel
theorem d_Law_law_618 : decode b_Law_law 618 = .ok (.istore 5, 2) := by decide +kernel
theorem d_Law_law_620 : decode b_Law_law 620 = .ok (.aload_n 2, 1) := by decide +kernel
theorem d_Law_law_621 : decode b_Law_law 621 = .ok (.aload_n 0, 1) := by decide +kernel
theorem d_Law_law_622 : decode b_Law_law 622 = .ok (.iload 4, 2) := by decide +kernel
theorem d_Law_law_624 : decode b_Law_law 624 = .ok (.iconst 1, 1) := by decide +kernel
theorem d_Law_law_625 : decode b_Law_law 625 = .ok (.iadd, 1) := by decide +kernel
theorem d_Law_law_626 : decode b_Law_law 626 = .ok (.iaload, 1) := by decide +kernel
theorem d_Law_law_627 : decode b_Law_law 627 = .ok (.aload_n 0, 1) := by decide +kernel
theorem d_Law_law_628 : decode b_Law_law 628 = .ok (.iload 4, 2) := by decide +kernel
theorem d_Law_law_630 : decode b_Law_law 630 = .ok (.iconst 2, 1) := by decide +kernel
theorem d_Law_law_631 : decode b_Law_law 631 = .ok (.iadd, 1) := by decide +kernel
theorem d_Law_law_632 : decode b_Law_law 632 = .ok (.iaload, 1) := by decide +kernel
theorem d_Law_law_633 : decode b_Law_law 633 = .ok (.aload_n 0, 1) := by decide +kernel
theorem d_Law_law_634 : decode b_Law_law 634 = .ok (.iload 4, 2) := by decide +kernel
theorem d_Law_law_636 : decode b_Law_law 636 = .ok (.iconst 3, 1) := by decide +kernel
theorem d_Law_law_637 : decode b_Law_law 637 = .ok (.iadd, 1) := by decide +kernel
theorem d_Law_law_638 : decode b_Law_law 638 = .ok (.iaload, 1) := by decide +kernel
theorem d_Law_law_639 : decode b_Law_law 639 = .ok (.invokevirtual 112, 3) := by decide +kernel
theorem d_Law_law_642 : decode b_Law_law 642 = .ok (.aload_n 2, 1) := by decide +kernel
theorem d_Law_law_643 : decode b_Law_law 643 = .ok (.invokevirtual 82, 3) := by decide +kernel
theorem d_Law_law_646 : decode b_Law_law 646 = .ok (.iload 5, 2) := by decide +kernel
theorem d_Law_law_648 : decode b_Law_law 648 = .ok (.if_icmp .eq 5, 3) := by decide +kernel
theorem d_Law_law_651 : decode b_Law_law 651 = .ok (.iconst 0, 1) := by decide +kernel
theorem d_Law_law_652 : decode b_Law_law 652 = .ok (.ireturn, 1) := by decide +kernel
theorem d_Law_law_653 : decode b_Law_law 653 = .ok (.goto 491, 3) := by decide +kernel
theorem d_Law_law_656 : decode b_Law_law 656 = .ok (.aload_n 1, 1) := by decide +kernel
theorem d_Law_law_657 : decode b_Law_law 657 = .ok (.aload_n 0, 1) := by decide +kernel
theorem d_Law_law_658 : decode b_Law_law 658 = .ok (.iload 4, 2) := by decide +kernel
theorem d_Law_law_660 : decode b_Law_law 660 = .ok (.iconst 1, 1) := by decide +kernel
theorem d_Law_law_661 : decode b_Law_law 661 = .ok (.iadd, 1) := by decide +kernel
theorem d_Law_law_662 : decode b_Law_law 662 = .ok (.iaload, 1) := by decide +kernel
theorem d_Law_law_663 : decode b_Law_law 663 = .ok (.aload_n 0, 1) := by decide +kernel
theorem d_Law_law_664 : decode b_Law_law 664 = .ok (.iload 4, 2) := by decide +kernel
theorem d_Law_law_666 : decode b_Law_law 666 = .ok (.iconst 2, 1) := by decide +kernel
theorem d_Law_law_667 : decode b_Law_law 667 = .ok (.iadd, 1) := by decide +kernel
theorem d_Law_law_668 : decode b_Law_law 668 = .ok (.iaload, 1) := by decide +kernel
theorem d_Law_law_669 : decode b_Law_law 669 = .ok (.aload_n 3, 1) := by decide +kernel
theorem d_Law_law_670 : decode b_Law_law 670 = .ok (.invokestatic 113, 3) := by decide +kernel
theorem d_Law_law_673 : decode b_Law_law 673 = .ok (.istore 5, 2) := by decide +kernel
theorem d_Law_law_675 : decode b_Law_law 675 = .ok (.aload_n 2, 1) := by decide +kernel
theorem d_Law_law_676 : decode b_Law_law 676 = .ok (.aload_n 0, 1) := by decide +kernel
theorem d_Law_law_677 : decode b_Law_law 677 = .ok (.iload 4, 2) := by decide +kernel
theorem d_Law_law_679 : decode b_Law_law 679 = .ok (.iconst 1, 1) := by decide +kernel
theorem d_Law_law_680 : decode b_Law_law 680 = .ok (.iadd, 1) := by decide +kernel
theorem d_Law_law_681 : decode b_Law_law 681 = .ok (.iaload, 1) := by decide +kernel
theorem d_Law_law_682 : decode b_Law_law 682 = .ok (.aload_n 0, 1) := by decide +kernel
theorem d_Law_law_683 : decode b_Law_law 683 = .ok (.iload 4, 2) := by decide +kernel
theorem d_Law_law_685 : decode b_Law_law 685 = .ok (.iconst 2, 1) := by decide +kernel
theorem d_Law_law_686 : decode b_Law_law 686 = .ok (.iadd, 1) := by decide +kernel
theorem d_Law_law_687 : decode b_Law_law 687 = .ok (.iaload, 1) := by decide +kernel
theorem d_Law_law_688 : decode b_Law_law 688 = .ok (.invokevirtual 115, 3) := by decide +kernel
theorem d_Law_law_691 : decode b_Law_law 691 = .ok (.istore 6, 2) := by decide +kernel
theorem d_Law_law_693 : decode b_Law_law 693 = .ok (.aload_n 2, 1) := by decide +kernel
theorem d_Law_law_694 : decode b_Law_law 694 = .ok (.invokevirtual 82, 3) := by decide +kernel
theorem d_Law_law_697 : decode b_Law_law 697 = .ok (.iload 5, 2) := by decide +kernel
theorem d_Law_law_699 : decode b_Law_law 699 = .ok (.if_icmp .eq 5, 3) := by decide +kernel
theorem d_Law_law_702 : decode b_Law_law 702 = .ok (.iconst 0, 1) := by decide +kernel
theorem d_Law_law_703 : decode b_Law_law 703 = .ok (.ireturn, 1) := by decide +kernel
theorem d_Law_law_704 : decode b_Law_law 704 = .ok (.iload 5, 2) := by decide +kernel
theorem d_Law_law_706 : decode b_Law_law 706 = .ok (.ifCond .ne 15, 3) := by decide +kernel
theorem d_Law_law_709 : decode b_Law_law 709 = .ok (.aload_n 3, 1) := by decide +kernel
theorem d_Law_law_710 : decode b_Law_law 710 = .ok (.iconst 0, 1) := by decide +kernel
theorem d_Law_law_711 : decode b_Law_law 711 = .ok (.laload, 1) := by decide +kernel
theorem d_Law_law_712 : decode b_Law_law 712 = .ok (.iload 6, 2) := by decide +kernel
theorem d_Law_law_714 : decode b_Law_law 714 = .ok (.i2l, 1) := by decide +kernel
theorem d_Law_law_715 : decode b_Law_law 715 = .ok (.lcmp, 1) := by decide +kernel
theorem d_Law_law_716 : decode b_Law_law 716 = .ok (.ifCond .eq 5, 3) := by decide +kernel
theorem d_Law_law_719 : decode b_Law_law 719 = .ok (.iconst 0, 1) := by decide +kernel
theorem d_Law_law_720 : decode b_Law_law 720 = .ok (.ireturn, 1) := by decide +kernel
theorem d_Law_law_721 : decode b_Law_law 721 = .ok (.goto 423, 3) := by decide +kernel
theorem d_Law_law_724 : decode b_Law_law 724 = .ok (.aload_n 1, 1) := by decide +kernel
theorem d_Law_law_725 : decode b_Law_law 725 = .ok (.aload_n 0, 1) := by decide +kernel
theorem d_Law_law_726 : decode b_Law_law 726 = .ok (.iload 4, 2) := by decide +kernel
theorem d_Law_law_728 : decode b_Law_law 728 = .ok (.iconst 1, 1) := by decide +kernel
theorem d_Law_law_729 : decode b_Law_law 729 = .ok (.iadd, 1) := by decide +kernel
theorem d_Law_law_730 : decode b_Law_law 730 = .ok (.iaload, 1) := by decide +kernel
theorem d_Law_law_731 : decode b_Law_law 731 = .ok (.aload_n 0, 1) := by decide +kernel
theorem d_Law_law_732 : decode b_Law_law 732 = .ok (.iload 4, 2) := by decide +kernel
theorem d_Law_law_734 : decode b_Law_law 734 = .ok (.iconst 2, 1) := by decide +kernel
theorem d_Law_law_735 : decode b_Law_law 735 = .ok (.iadd, 1) := by decide +kernel
theorem d_Law_law_736 : decode b_Law_law 736 = .ok (.iaload, 1) := by decide +kernel
theorem d_Law_law_737 : decode b_Law_law 737 = .ok (.aload_n 3, 1) := by decide +kernel
theorem d_Law_law_738 : decode b_Law_law 738 = .ok (.invokestatic 116, 3) := by decide +kernel
theorem d_Law_law_741 : decode b_Law_law 741 = .ok (.istore 5, 2) := by decide +kernel
theorem d_Law_law_743 : decode b_Law_law 743 = .ok (.aload_n 2, 1) := by decide +kernel
theorem d_Law_law_744 : decode b_Law_law 744 = .ok (.aload_n 0, 1) := by decide +kernel
theorem d_Law_law_745 : decode b_Law_law 745 = .ok (.iload 4, 2) := by decide +kernel
theorem d_Law_law_747 : decode b_Law_law 747 = .ok (.iconst 1, 1) := by decide +kernel
theorem d_Law_law_748 : decode b_Law_law 748 = .ok (.iadd, 1) := by decide +kernel
theorem d_Law_law_749 : decode b_Law_law 749 = .ok (.iaload, 1) := by decide +kernel
theorem d_Law_law_750 : decode b_Law_law 750 = .ok (.aload_n 0, 1) := by decide +kernel
theorem d_Law_law_751 : decode b_Law_law 751 = .ok (.iload 4, 2) := by decide +kernel
theorem d_Law_law_753 : decode b_Law_law 753 = .ok (.iconst 2, 1) := by decide +kernel
theorem d_Law_law_754 : decode b_Law_law 754 = .ok (.iadd, 1) := by decide +kernel
theorem d_Law_law_755 : decode b_Law_law 755 = .ok (.iaload, 1) := by decide +kernel
theorem d_Law_law_756 : decode b_Law_law 756 = .ok (.invokevirtual 118, 3) := by decide +kernel
theorem d_Law_law_759 : decode b_Law_law 759 = .ok (.istore 6, 2) := by decide +kernel
theorem d_Law_law_761 : decode b_Law_law 761 = .ok (.aload_n 2, 1) := by decide +kernel
theorem d_Law_law_762 : decode b_Law_law 762 = .ok (.invokevirtual 82, 3) := by decide +kernel
theorem d_Law_law_765 : decode b_Law_law 765 = .ok (.iload 5, 2) := by decide +kernel
theorem d_Law_law_767 : decode b_Law_law 767 = .ok (.if_icmp .eq 5, 3) := by decide +kernel
theorem d_Law_law_770 : decode b_Law_law 770 = .ok (.iconst 0, 1) := by decide +kernel
theorem d_Law_law_771 : decode b_Law_law 771 = .ok (.ireturn, 1) := by decide +kernel
theorem d_Law_law_772 : decode b_Law_law 772 = .ok (.iload 5, 2) := by decide +kernel
theorem d_Law_law_774 : decode b_Law_law 774 = .ok (.ifCond .ne 15, 3) := by decide +kernel
theorem d_Law_law_777 : decode b_Law_law 777 = .ok (.aload_n 3, 1) := by decide +kernel
theorem d_Law_law_778 : decode b_Law_law 778 = .ok (.iconst 0, 1) := by decide +kernel
theorem d_Law_law_779 : decode b_Law_law 779 = .ok (.laload, 1) := by decide +kernel
theorem d_Law_law_780 : decode b_Law_law 780 = .ok (.iload 6, 2) := by decide +kernel
theorem d_Law_law_782 : decode b_Law_law 782 = .ok (.i2l, 1) := by decide +kernel
theorem d_Law_law_783 : decode b_Law_law 783 = .ok (.lcmp, 1) := by decide +kernel
theorem d_Law_law_784 : decode b_Law_law 784 = .ok (.ifCond .eq 5, 3) := by decide +kernel
theorem d_Law_law_787 : decode b_Law_law 787 = .ok (.iconst 0, 1) := by decide +kernel
theorem d_Law_law_788 : decode b_Law_law 788 = .ok (.ireturn, 1) := by decide +kernel
theorem d_Law_law_789 : decode b_Law_law 789 = .ok (.goto 355, 3) := by decide +kernel
theorem d_Law_law_792 : decode b_Law_law 792 = .ok (.aload_n 1, 1) := by decide +kernel
theorem d_Law_law_793 : decode b_Law_law 793 = .ok (.aload_n 0, 1) := by decide +kernel
theorem d_Law_law_794 : decode b_Law_law 794 = .ok (.iload 4, 2) := by decide +kernel
theorem d_Law_law_796 : decode b_Law_law 796 = .ok (.iconst 1, 1) := by decide +kernel
theorem d_Law_law_797 : decode b_Law_law 797 = .ok (.iadd, 1) := by decide +kernel
theorem d_Law_law_798 : decode b_Law_law 798 = .ok (.iaload, 1) := by decide +kernel
theorem d_Law_law_799 : decode b_Law_law 799 = .ok (.aload_n 0, 1) := by decide +kernel
theorem d_Law_law_800 : decode b_Law_law 800 = .ok (.iload 4, 2) := by decide +kernel
theorem d_Law_law_802 : decode b_Law_law 802 = .ok (.iconst 2, 1) := by decide +kernel
theorem d_Law_law_803 : decode b_Law_law 803 = .ok (.iadd, 1) := by decide +kernel
theorem d_Law_law_804 : decode b_Law_law 804 = .ok (.iaload, 1) := by decide +kernel
theorem d_Law_law_805 : decode b_Law_law 805 = .ok (.aload_n 0, 1) := by decide +kernel
theorem d_Law_law_806 : decode b_Law_law 806 = .ok (.iload 4, 2) := by decide +kernel
theorem d_Law_law_808 : decode b_Law_law 808 = .ok (.iconst 3, 1) := by decide +kernel
theorem d_Law_law_809 : decode b_Law_law 809 = .ok (.iadd, 1) := by decide +kernel
theorem d_Law_law_810 : decode b_Law_law 810 = .ok (.iaload, 1) := by decide +kernel
theorem d_Law_law_811 : decode b_Law_law 811 = .ok (.aload_n 0, 1) := by decide +kernel
theorem d_Law_law_812 : decode b_Law_law 812 = .ok (.iload 4, 2) := by decide +kernel
theorem d_Law_law_814 : decode b_Law_law 814 = .ok (.iconst 4, 1) := by decide +kernel
theorem d_Law_law_815 : decode b_Law_law 815 = .ok (.iadd, 1) := by decide +kernel
theorem d_Law_law_816 : decode b_Law_law 816 = .ok (.iaload, 1) := by decide +kernel
theorem d_Law_law_817 : decode b_Law_law 817 = .ok (.aload_n 3, 1) := by decide +kernel
theorem d_Law_law_818 : decode b_Law_law 818 = .ok (.invokestatic 119, 3) := by decide +kernel
theorem d_Law_law_821 : decode b_Law_law 821 = .ok (.istore 5, 2) := by decide +kernel
theorem d_Law_law_823 : decode b_Law_law 823 = .ok (.aload_n 2, 1) := by decide +kernel
theorem d_Law_law_824 : decode b_Law_law 824 = .ok (.aload_n 0, 1) := by decide +kernel
theorem d_Law_law_825 : decode b_Law_law 825 = .ok (.iload 4, 2) := by decide +kernel
theorem d_Law_law_827 : decode b_Law_law 827 = .ok (.iconst 1, 1) := by decide +kernel
theorem d_Law_law_828 : decode b_Law_law 828 = .ok (.iadd, 1) := by decide +kernel
theorem d_Law_law_829 : decode b_Law_law 829 = .ok (.iaload, 1) := by decide +kernel
theorem d_Law_law_830 : decode b_Law_law 830 = .ok (.aload_n 0, 1) := by decide +kernel
theorem d_Law_law_831 : decode b_Law_law 831 = .ok (.iload 4, 2) := by decide +kernel
theorem d_Law_law_833 : decode b_Law_law 833 = .ok (.iconst 2, 1) := by decide +kernel
theorem d_Law_law_834 : decode b_Law_law 834 = .ok (.iadd, 1) := by decide +kernel
theorem d_Law_law_835 : decode b_Law_law 835 = .ok (.iaload, 1) := by decide +kernel
theorem d_Law_law_836 : decode b_Law_law 836 = .ok (.aload_n 0, 1) := by decide +kernel
theorem d_Law_law_837 : decode b_Law_law 837 = .ok (.iload 4, 2) := by decide +kernel
theorem d_Law_law_839 : decode b_Law_law 839 = .ok (.iconst 3, 1) := by decide +kernel
theorem d_Law_law_840 : decode b_Law_law 840 = .ok (.iadd, 1) := by decide +kernel
theorem d_Law_law_841 : decode b_Law_law 841 = .ok (.iaload, 1) := by decide +kernel
theorem d_Law_law_842 : decode b_Law_law 842 = .ok (.aload_n 0, 1) := by decide +kernel
theorem d_Law_law_843 : decode b_Law_law 843 = .ok (.iload 4, 2) := by decide +kernel
theorem d_Law_law_845 : decode b_Law_law 845 = .ok (.iconst 4, 1) := by decide +kernel
theorem d_Law_law_846 : decode b_Law_law 846 = .ok (.iadd, 1) := by decide +kernel
theorem d_Law_law_847 : decode b_Law_law 847 = .ok (.iaload, 1) := by decide +kernel
theorem d_Law_law_848 : decode b_Law_law 848 = .ok (.invokevirtual 122, 3) := by decide +kernel
theorem d_Law_law_851 : decode b_Law_law 851 = .ok (.istore 6, 2) := by decide +kernel
theorem d_Law_law_853 : decode b_Law_law 853 = .ok (.aload_n 2, 1) := by decide +kernel
theorem d_Law_law_854 : decode b_Law_law 854 = .ok (.invokevirtual 82, 3) := by decide +kernel
theorem d_Law_law_857 : decode b_Law_law 857 = .ok (.iload 5, 2) := by decide +kernel
theorem d_Law_law_859 : decode b_Law_law 859 = .ok (.if_icmp .eq 5, 3) := by decide +kernel
theorem d_Law_law_862 : decode b_Law_law 862 = .ok (.iconst 0, 1) := by decide +kernel
theorem d_Law_law_863 : decode b_Law_law 863 = .ok (.ireturn, 1) := by decide +kernel
theorem d_Law_law_864 : decode b_Law_law 864 = .ok (.iload 5, 2) := by decide +kernel
theorem d_Law_law_866 : decode b_Law_law 866 = .ok (.ifCond .ne 15, 3) := by decide +kernel
theorem d_Law_law_869 : decode b_Law_law 869 = .ok (.aload_n 3, 1) := by decide +kernel
theorem d_Law_law_870 : decode b_Law_law 870 = .ok (.iconst 0, 1) := by decide +kernel
theorem d_Law_law_871 : decode b_Law_law 871 = .ok (.laload, 1) := by decide +kernel
theorem d_Law_law_872 : decode b_Law_law 872 = .ok (.iload 6, 2) := by decide +kernel
theorem d_Law_law_874 : decode b_Law_law 874 = .ok (.i2l, 1) := by decide +kernel
theorem d_Law_law_875 : decode b_Law_law 875 = .ok (.lcmp, 1) := by decide +kernel
theorem d_Law_law_876 : decode b_Law_law 876 = .ok (.ifCond .eq 5, 3) := by decide +kernel
theorem d_Law_law_879 : decode b_Law_law 879 = .ok (.iconst 0, 1) := by decide +kernel
theorem d_Law_law_880 : decode b_Law_law 880 = .ok (.ireturn, 1) := by decide +kernel
theorem d_Law_law_881 : decode b_Law_law 881 = .ok (.goto 263, 3) := by decide +kernel
theorem d_Law_law_884 : decode b_Law_law 884 = .ok (.aload_n 1, 1) := by decide +kernel
theorem d_Law_law_885 : decode b_Law_law 885 = .ok (.aload_n 0, 1) := by decide +kernel
theorem d_Law_law_886 : decode b_Law_law 886 = .ok (.iload 4, 2) := by decide +kernel
theorem d_Law_law_888 : decode b_Law_law 888 = .ok (.iconst 1, 1) := by decide +kernel
theorem d_Law_law_889 : decode b_Law_law 889 = .ok (.iadd, 1) := by decide +kernel
theorem d_Law_law_890 : decode b_Law_law 890 = .ok (.iaload, 1) := by decide +kernel
theorem d_Law_law_891 : decode b_Law_law 891 = .ok (.aload_n 3, 1) := by decide +kernel
theorem d_Law_law_892 : decode b_Law_law 892 = .ok (.invokestatic 123, 3) := by decide +kernel
theorem d_Law_law_895 : decode b_Law_law 895 = .ok (.istore 5, 2) := by decide +kernel
theorem d_Law_law_897 : decode b_Law_law 897 = .ok (.aload_n 2, 1) := by decide +kernel
theorem d_Law_law_898 : decode b_Law_law 898 = .ok (.aload_n 0, 1) := by decide +kernel
theorem d_Law_law_899 : decode b_Law_law 899 = .ok (.iload 4, 2) := by decide +kernel
theorem d_Law_law_901 : decode b_Law_law 901 = .ok (.iconst 1, 1) := by decide +kernel
theorem d_Law_law_902 : decode b_Law_law 902 = .ok (.iadd, 1) := by decide +kernel
theorem d_Law_law_903 : decode b_Law_law 903 = .ok (.iaload, 1) := by decide +kernel
theorem d_Law_law_904 : decode b_Law_law 904 = .ok (.invokevirtual 125, 3) := by decide +kernel
theorem d_Law_law_907 : decode b_Law_law 907 = .ok (.istore 6, 2) := by decide +kernel
theorem d_Law_law_909 : decode b_Law_law 909 = .ok (.aload_n 2, 1) := by decide +kernel
theorem d_Law_law_910 : decode b_Law_law 910 = .ok (.invokevirtual 82, 3) := by decide +kernel
theorem d_Law_law_913 : decode b_Law_law 913 = .ok (.iload 5, 2) := by decide +kernel
theorem d_Law_law_915 : decode b_Law_law 915 = .ok (.if_icmp .eq 5, 3) := by decide +kernel
theorem d_Law_law_918 : decode b_Law_law 918 = .ok (.iconst 0, 1) := by decide +kernel
theorem d_Law_law_919 : decode b_Law_law 919 = .ok (.ireturn, 1) := by decide +kernel
theorem d_Law_law_920 : decode b_Law_law 920 = .ok (.iload 5, 2) := by decide +kernel
theorem d_Law_law_922 : decode b_Law_law 922 = .ok (.ifCond .ne 15, 3) := by decide +kernel
theorem d_Law_law_925 : decode b_Law_law 925 = .ok (.aload_n 3, 1) := by decide +kernel
theorem d_Law_law_926 : decode b_Law_law 926 = .ok (.iconst 0, 1) := by decide +kernel
theorem d_Law_law_927 : decode b_Law_law 927 = .ok (.laload, 1) := by decide +kernel
theorem d_Law_law_928 : decode b_Law_law 928 = .ok (.iload 6, 2) := by decide +kernel
theorem d_Law_law_930 : decode b_Law_law 930 = .ok (.i2l, 1) := by decide +kernel
theorem d_Law_law_931 : decode b_Law_law 931 = .ok (.lcmp, 1) := by decide +kernel
theorem d_Law_law_932 : decode b_Law_law 932 = .ok (.ifCond .eq 5, 3) := by decide +kernel
theorem d_Law_law_935 : decode b_Law_law 935 = .ok (.iconst 0, 1) := by decide +kernel
theorem d_Law_law_936 : decode b_Law_law 936 = .ok (.ireturn, 1) := by decide +kernel
theorem d_Law_law_937 : decode b_Law_law 937 = .ok (.goto 207, 3) := by decide +kernel
theorem d_Law_law_940 : decode b_Law_law 940 = .ok (.aload_n 1, 1) := by decide +kernel
theorem d_Law_law_941 : decode b_Law_law 941 = .ok (.aload_n 0, 1) := by decide +kernel
theorem d_Law_law_942 : decode b_Law_law 942 = .ok (.iload 4, 2) := by decide +kernel
theorem d_Law_law_944 : decode b_Law_law 944 = .ok (.iconst 1, 1) := by decide +kernel
theorem d_Law_law_945 : decode b_Law_law 945 = .ok (.iadd, 1) := by decide +kernel
theorem d_Law_law_946 : decode b_Law_law 946 = .ok (.iaload, 1) := by decide +kernel
theorem d_Law_law_947 : decode b_Law_law 947 = .ok (.aload_n 0, 1) := by decide +kernel
theorem d_Law_law_948 : decode b_Law_law 948 = .ok (.iload 4, 2) := by decide +kernel
theorem d_Law_law_950 : decode b_Law_law 950 = .ok (.iconst 2, 1) := by decide +kernel
theorem d_Law_law_951 : decode b_Law_law 951 = .ok (.iadd, 1) := by decide +kernel
theorem d_Law_law_952 : decode b_Law_law 952 = .ok (.iaload, 1) := by decide +kernel
theorem d_Law_law_953 : decode b_Law_law 953 = .ok (.aload_n 3, 1) := by decide +kernel
theorem d_Law_law_954 : decode b_Law_law 954 = .ok (.invokestatic 126, 3) := by decide +kernel
theorem d_Law_law_957 : decode b_Law_law 957 = .ok (.istore 5, 2) := by decide +kernel
theorem d_Law_law_959 : decode b_Law_law 959 = .ok (.aload_n 2, 1) := by decide +kernel
theorem d_Law_law_960 : decode b_Law_law 960 = .ok (.aload_n 0, 1) := by decide +kernel
theorem d_Law_law_961 : decode b_Law_law 961 = .ok (.iload 4, 2) := by decide +kernel
theorem d_Law_law_963 : decode b_Law_law 963 = .ok (.iconst 1, 1) := by decide +kernel
theorem d_Law_law_964 : decode b_Law_law 964 = .ok (.iadd, 1) := by decide +kernel
theorem d_Law_law_965 : decode b_Law_law 965 = .ok (.iaload, 1) := by decide +kernel
theorem d_Law_law_966 : decode b_Law_law 966 = .ok (.aload_n 0, 1) := by decide +kernel
theorem d_Law_law_967 : decode b_Law_law 967 = .ok (.iload 4, 2) := by decide +kernel
theorem d_Law_law_969 : decode b_Law_law 969 = .ok (.iconst 2, 1) := by decide +kernel
theorem d_Law_law_970 : decode b_Law_law 970 = .ok (.iadd, 1) := by decide +kernel
theorem d_Law_law_971 : decode b_Law_law 971 = .ok (.iaload, 1) := by decide +kernel
theorem d_Law_law_972 : decode b_Law_law 972 = .ok (.invokevirtual 128, 3) := by decide +kernel
theorem d_Law_law_975 : decode b_Law_law 975 = .ok (.istore 6, 2) := by decide +kernel
theorem d_Law_law_977 : decode b_Law_law 977 = .ok (.aload_n 2, 1) := by decide +kernel
theorem d_Law_law_978 : decode b_Law_law 978 = .ok (.invokevirtual 82, 3) := by decide +kernel
theorem d_Law_law_981 : decode b_Law_law 981 = .ok (.iload 5, 2) := by decide +kernel
theorem d_Law_law_983 : decode b_Law_law 983 = .ok (.if_icmp .eq 5, 3) := by decide +kernel
theorem d_Law_law_986 : decode b_Law_law 986 = .ok (.iconst 0, 1) := by decide +kernel
theorem d_Law_law_987 : decode b_Law_law 987 = .ok (.ireturn, 1) := by decide +kernel
theorem d_Law_law_988 : decode b_Law_law 988 = .ok (.iload 5, 2) := by decide +kernel
theorem d_Law_law_990 : decode b_Law_law 990 = .ok (.ifCond .ne 15, 3) := by decide +kernel
theorem d_Law_law_993 : decode b_Law_law 993 = .ok (.aload_n 3, 1) := by decide +kernel
theorem d_Law_law_994 : decode b_Law_law 994 = .ok (.iconst 0, 1) := by decide +kernel
theorem d_Law_law_995 : decode b_Law_law 995 = .ok (.laload, 1) := by decide +kernel
theorem d_Law_law_996 : decode b_Law_law 996 = .ok (.iload 6, 2) := by decide +kernel
theorem d_Law_law_998 : decode b_Law_law 998 = .ok (.i2l, 1) := by decide +kernel
theorem d_Law_law_999 : decode b_Law_law 999 = .ok (.lcmp, 1) := by decide +kernel
theorem d_Law_law_1000 : decode b_Law_law 1000 = .ok (.ifCond .eq 5, 3) := by decide +kernel
theorem d_Law_law_1003 : decode b_Law_law 1003 = .ok (.iconst 0, 1) := by decide +kernel
theorem d_Law_law_1004 : decode b_Law_law 1004 = .ok (.ireturn, 1) := by decide +kernel
theorem d_Law_law_1005 : decode b_Law_law 1005 = .ok (.goto 139, 3) := by decide +kernel
theorem d_Law_law_1008 : decode b_Law_law 1008 = .ok (.aload_n 1, 1) := by decide +kernel
theorem d_Law_law_1009 : decode b_Law_law 1009 = .ok (.aload_n 0, 1) := by decide +kernel
theorem d_Law_law_1010 : decode b_Law_law 1010 = .ok (.iload 4, 2) := by decide +kernel
theorem d_Law_law_1012 : decode b_Law_law 1012 = .ok (.iconst 1, 1) := by decide +kernel
theorem d_Law_law_1013 : decode b_Law_law 1013 = .ok (.iadd, 1) := by decide +kernel
theorem d_Law_law_1014 : decode b_Law_law 1014 = .ok (.iaload, 1) := by decide +kernel
theorem d_Law_law_1015 : decode b_Law_law 1015 = .ok (.aload_n 3, 1) := by decide +kernel
theorem d_Law_law_1016 : decode b_Law_law 1016 = .ok (.invokestatic 129, 3) := by decide +kernel
theorem d_Law_law_1019 : decode b_Law_law 1019 = .ok (.istore 5, 2) := by decide +kernel
theorem d_Law_law_1021 : decode b_Law_law 1021 = .ok (.aload_n 2, 1) := by decide +kernel
theorem d_Law_law_1022 : decode b_Law_law 1022 = .ok (.aload_n 0, 1) := by decide +kernel
theorem d_Law_law_1023 : decode b_Law_law 1023 = .ok (.iload 4, 2) := by decide +kernel
theorem d_Law_law_1025 : decode b_Law_law 1025 = .ok (.iconst 1, 1) := by decide +kernel
theorem d_Law_law_1026 : decode b_Law_law 1026 = .ok (.iadd, 1) := by decide +kernel
theorem d_Law_law_1027 : decode b_Law_law 1027 = .ok (.iaload, 1) := by decide +kernel
theorem d_Law_law_1028 : decode b_Law_law 1028 = .ok (.invokevirtual 131, 3) := by decide +kernel
theorem d_Law_law_1031 : decode b_Law_law 1031 = .ok (.lstore 6, 2) := by decide +kernel
theorem d_Law_law_1033 : decode b_Law_law 1033 = .ok (.aload_n 2, 1) := by decide +kernel
theorem d_Law_law_1034 : decode b_Law_law 1034 = .ok (.invokevirtual 82, 3) := by decide +kernel
theorem d_Law_law_1037 : decode b_Law_law 1037 = .ok (.iload 5, 2) := by decide +kernel
theorem d_Law_law_1039 : decode b_Law_law 1039 = .ok (.if_icmp .eq 5, 3) := by decide +kernel
theorem d_Law_law_1042 : decode b_Law_law 1042 = .ok (.iconst 0, 1) := by decide +kernel
theorem d_Law_law_1043 : decode b_Law_law 1043 = .ok (.ireturn, 1) := by decide +kernel
theorem d_Law_law_1044 : decode b_Law_law 1044 = .ok (.iload 5, 2) := by decide +kernel
theorem d_Law_law_1046 : decode b_Law_law 1046 = .ok (.ifCond .ne 14, 3) := by decide +kernel
theorem d_Law_law_1049 : decode b_Law_law 1049 = .ok (.aload_n 3, 1) := by decide +kernel
theorem d_Law_law_1050 : decode b_Law_law 1050 = .ok (.iconst 0, 1) := by decide +kernel
theorem d_Law_law_1051 : decode b_Law_law 1051 = .ok (.laload, 1) := by decide +kernel
theorem d_Law_law_1052 : decode b_Law_law 1052 = .ok (.lload 6, 2) := by decide +kernel
theorem d_Law_law_1054 : decode b_Law_law 1054 = .ok (.lcmp, 1) := by decide +kernel
theorem d_Law_law_1055 : decode b_Law_law 1055 = .ok (.ifCond .eq 5, 3) := by decide +kernel
theorem d_Law_law_1058 : decode b_Law_law 1058 = .ok (.iconst 0, 1) := by decide +kernel
theorem d_Law_law_1059 : decode b_Law_law 1059 = .ok (.ireturn, 1) := by decide +kernel
theorem d_Law_law_1060 : decode b_Law_law 1060 = .ok (.goto 84, 3) := by decide +kernel
theorem d_Law_law_1063 : decode b_Law_law 1063 = .ok (.aload_n 1, 1) := by decide +kernel
theorem d_Law_law_1064 : decode b_Law_law 1064 = .ok (.invokevirtual 132, 3) := by decide +kernel
theorem d_Law_law_1067 : decode b_Law_law 1067 = .ok (.aload_n 2, 1) := by decide +kernel
theorem d_Law_law_1068 : decode b_Law_law 1068 = .ok (.invokevirtual 135, 3) := by decide +kernel
theorem d_Law_law_1071 : decode b_Law_law 1071 = .ok (.if_icmp .eq 73, 3) := by decide +kernel
theorem d_Law_law_1074 : decode b_Law_law 1074 = .ok (.iconst 0, 1) := by decide +kernel
theorem d_Law_law_1075 : decode b_Law_law 1075 = .ok (.ireturn, 1) := by decide +kernel
theorem d_Law_law_1076 : decode b_Law_law 1076 = .ok (.aload_n 1, 1) := by decide +kernel
theorem d_Law_law_1077 : decode b_Law_law 1077 = .ok (.aload_n 0, 1) := by decide +kernel
theorem d_Law_law_1078 : decode b_Law_law 1078 = .ok (.iload 4, 2) := by decide +kernel
theorem d_Law_law_1080 : decode b_Law_law 1080 = .ok (.iconst 1, 1) := by decide +kernel
theorem d_Law_law_1081 : decode b_Law_law 1081 = .ok (.iadd, 1) := by decide +kernel
theorem d_Law_law_1082 : decode b_Law_law 1082 = .ok (.iaload, 1) := by decide +kernel
theorem d_Law_law_1083 : decode b_Law_law 1083 = .ok (.aload_n 0, 1) := by decide +kernel
theorem d_Law_law_1084 : decode b_Law_law 1084 = .ok (.iload 4, 2) := by decide +kernel
theorem d_Law_law_1086 : decode b_Law_law 1086 = .ok (.iconst 2, 1) := by decide +kernel
theorem d_Law_law_1087 : decode b_Law_law 1087 = .ok (.iadd, 1) := by decide +kernel
theorem d_Law_law_1088 : decode b_Law_law 1088 = .ok (.iaload, 1) := by decide +kernel
theorem d_Law_law_1089 : decode b_Law_law 1089 = .ok (.aload_n 3, 1) := by decide +kernel
theorem d_Law_law_1090 : decode b_Law_law 1090 = .ok (.invokestatic 136, 3) := by decide +kernel
theorem d_Law_law_1093 : decode b_Law_law 1093 = .ok (.istore 5, 2) := by decide +kernel
theorem d_Law_law_1095 : decode b_Law_law 1095 = .ok (.aload_n 2, 1) := by decide +kernel
theorem d_Law_law_1096 : decode b_Law_law 1096 = .ok (.aload_n 0, 1) := by decide +kernel
theorem d_Law_law_1097 : decode b_Law_law 1097 = .ok (.iload 4, 2) := by decide +kernel
theorem d_Law_law_1099 : decode b_Law_law 1099 = .ok (.iconst 1, 1) := by decide +kernel
theorem d_Law_law_1100 : decode b_Law_law 1100 = .ok (.iadd, 1) := by decide +kernel
theorem d_Law_law_1101 : decode b_Law_law 1101 = .ok (.iaload, 1) := by decide +kernel
theorem d_Law_law_1102 : decode b_Law_law 1102 = .ok (.aload_n 0, 1) := by decide +kernel
theorem d_Law_law_1103 : decode b_Law_law 1103 = .ok (.iload 4, 2) := by decide +kernel
theorem d_Law_law_1105 : decode b_Law_law 1105 = .ok (.iconst 2, 1) := by decide +kernel
theorem d_Law_law_1106 : decode b_Law_law 1106 = .ok (.iadd, 1) := by decide +kernel
theorem d_Law_law_1107 : decode b_Law_law 1107 = .ok (.iaload, 1) := by decide +kernel
theorem d_Law_law_1108 : decode b_Law_law 1108 = .ok (.invokevirtual 138, 3) := by decide +kernel
theorem d_Law_law_1111 : decode b_Law_law 1111 = .ok (.istore 6, 2) := by decide +kernel
theorem d_Law_law_1113 : decode b_Law_law 1113 = .ok (.aload_n 2, 1) := by decide +kernel
theorem d_Law_law_1114 : decode b_Law_law 1114 = .ok (.invokevirtual 82, 3) := by decide +kernel
theorem d_Law_law_1117 : decode b_Law_law 1117 = .ok (.iload 5, 2) := by decide +kernel
theorem d_Law_law_1119 : decode b_Law_law 1119 = .ok (.if_icmp .eq 5, 3) := by decide +kernel
theorem d_Law_law_1122 : decode b_Law_law 1122 = .ok (.iconst 0, 1) := by decide +kernel
theorem d_Law_law_1123 : decode b_Law_law 1123 = .ok (.ireturn, 1) := by decide +kernel
theorem d_Law_law_1124 : decode b_Law_law 1124 = .ok (.iload 5, 2) := by decide +kernel
theorem d_Law_law_1126 : decode b_Law_law 1126 = .ok (.ifCond .ne 15, 3) := by decide +kernel
theorem d_Law_law_1129 : decode b_Law_law 1129 = .ok (.aload_n 3, 1) := by decide +kernel
theorem d_Law_law_1130 : decode b_Law_law 1130 = .ok (.iconst 0, 1) := by decide +kernel
theorem d_Law_law_1131 : decode b_Law_law 1131 = .ok (.laload, 1) := by decide +kernel
theorem d_Law_law_1132 : decode b_Law_law 1132 = .ok (.iload 6, 2) := by decide +kernel
theorem d_Law_law_1134 : decode b_Law_law 1134 = .ok (.i2l, 1) := by decide +kernel
theorem d_Law_law_1135 : decode b_Law_law 1135 = .ok (.lcmp, 1) := by decide +kernel
theorem d_Law_law_1136 : decode b_Law_law 1136 = .ok (.ifCond .eq 5, 3) := by decide +kernel
theorem d_Law_law_1139 : decode b_Law_law 1139 = .ok (.iconst 0, 1) := by decide +kernel
theorem d_Law_law_1140 : decode b_Law_law 1140 = .ok (.ireturn, 1) := by decide +kernel
theorem d_Law_law_1141 : decode b_Law_law 1141 = .ok (.goto 3, 3) := by decide +kernel
theorem d_Law_law_1144 : decode b_Law_law 1144 = .ok (.iinc 4 6, 3) := by decide +kernel
theorem d_Law_law_1147 : decode b_Law_law 1147 = .ok (.goto (-1114), 3) := by decide +kernel
theorem d_Law_law_1150 : decode b_Law_law 1150 = .ok (.iconst 1, 1) := by decide +kernel
theorem d_Law_law_1151 : decode b_Law_law 1151 = .ok (.ireturn, 1) := by decide +kernel
end
section
/-! WHAT A METHOD'S WALK STANDS ON -/
theorem x_b {α β : Type} {o : Option α} {k : α → Option β} {r : β} (h : o.bind k = some r) : ∃ a, o = some a ∧ k a = some r := by
  cases o with
  | none => cases h
  | some a => exact ⟨a, rfl, h⟩
theorem x_it {c : Prop} [Decidable c] {α : Type} {a b : Option α} {r : α} (h : (if c then a else b) = some r) (hc : c) : a = some r := by rwa [if_pos hc] at h
theorem x_if {c : Prop} [Decidable c] {α : Type} {a b : Option α} {r : α} (h : (if c then a else b) = some r) (hc : ¬ c) : b = some r := by rwa [if_neg hc] at h
/-- the handle is an object of the class c -/
def x_is (T : x_T) (h c : Nat) : Option Unit := if (T h).map Prod.fst = some c then some () else none
theorem x_is_e {T : x_T} {h c : Nat} {u : Unit} (e : x_is T h c = some u) : ∃ n, T h = some (c, n) := by
  unfold x_is at e
  cases hq : T h with
  | none => rw [hq] at e; simp at e
  | some q =>
    obtain ⟨a, n⟩ := q
    rw [hq] at e
    by_cases hc : a = c
    · subst hc; exact ⟨n, rfl⟩
    · simp [hc] at e
/-- the handle is an array of the code c, and the index lies in it -/
def x_ix (T : x_T) (h c : Nat) (i : Int32) : Option Unit := if ((T h).map Prod.fst = some c ∧ 0 ≤ i.toInt ∧ i.toInt < (((T h).getD (0, 0)).2 : Int)) then some () else none
theorem x_ix_e {T : x_T} {h c : Nat} {i : Int32} {u : Unit} (e : x_ix T h c i = some u) : ∃ n, T h = some (c, n) ∧ vp_in i n := by
  unfold x_ix at e
  cases hq : T h with
  | none => rw [hq] at e; simp at e
  | some q =>
    obtain ⟨a, n⟩ := q
    rw [hq] at e
    by_cases hc : (a = c ∧ 0 ≤ i.toInt ∧ i.toInt < (n : Int))
    · obtain ⟨h1, h2, h3⟩ := hc
      subst h1
      exact ⟨n, rfl, vp_in_iff.mpr ⟨h2, h3⟩⟩
    · simp only [Option.map_some, Option.some.injEq, Option.getD_some] at e
      rw [if_neg hc] at e
      cases e
def x_len (T : x_T) (h c : Nat) : Option Nat := if (T h).map Prod.fst = some c then some ((T h).getD (0, 0)).2 else none
theorem x_len_e {T : x_T} {h c n : Nat} (e : x_len T h c = some n) : T h = some (c, n) := by
  unfold x_len at e
  cases hq : T h with
  | none => rw [hq] at e; simp at e
  | some q =>
    obtain ⟨a, k⟩ := q
    rw [hq] at e
    by_cases hc : a = c
    · subst hc; simp at e; subst e; rfl
    · simp [hc] at e
def x_nzi (y : Int32) : Option Unit := if y = 0 then none else some ()
theorem x_nzi_e {y : Int32} {u : Unit} (e : x_nzi y = some u) : ¬ y = 0 := fun h => by simp [x_nzi, h] at e
def x_nzl (y : Int64) : Option Unit := if y = 0 then none else some ()
theorem x_nzl_e {y : Int64} {u : Unit} (e : x_nzl y = some u) : ¬ y = 0 := fun h => by simp [x_nzl, h] at e
/-- a number that is 0 or 1 -/
def x_bo (y : Int32) : Option Unit := if y = 0 ∨ y = 1 then some () else none
theorem x_bo_e {y : Int32} {u : Unit} (e : x_bo y = some u) : narrow .boolean (.int y) = .int y ∧ fits .boolean (.int y) = true := by
  by_cases h : y = 0 ∨ y = 1
  · rcases h with rfl | rfl
    · exact ⟨rfl, rfl⟩
    · exact ⟨rfl, rfl⟩
  · simp [x_bo, h] at e
def x_Pc (D : va_G) (aC : Nat → ClassId) (ad : Nat → Nat) (T : x_T) (nx sz : Nat) (w : x_W) (av : List Value) : Array Value → State → Prop :=
  va_Pc av (fun U => U.heap.size = sz ∧ x_H D x_cl x_FT aC ad T nx (fun _ => True) w U.heap ∧ va_K D x_cl (x_tys aC) U)
def x_Qc (D : va_G) (aC : Nat → ClassId) (ad : Nat → Nat) (T : x_T) (nx : Nat) (v : Option Value) (w' : x_W) (A : Nat → Prop) : Array Value → State → Outcome → State → Prop :=
  fun _ st o t => o = .returned v ∧ va_F A st t ∧ x_H D x_cl x_FT aC ad T nx (fun _ => True) w' t.heap
def x_At (p : Program) (s : State) (m : MethodId) (meth : Method) (c : Code) (args : Array Value) (own : String) (cc : ByteArray) (ret : Option FieldType) (maxL : Nat) (D : va_G) (aC : Nat → ClassId) (A : Nat → Prop) : Prop :=
  p.tables.exec = Jvm.exec ∧ c.code = cc ∧ meth.sig.returnType = ret ∧ c.maxLocals = maxL ∧ s.vm.findClass own = some m.cls ∧ (∀ w ∈ x_tb, w.before args s = true) ∧ meth.locks = false ∧ va_K D x_cl (x_tys aC) s ∧ ∀ q, s.heap.size ≤ q → A q
section XC
variable {p : Program} {l : Launch} {e : Env} {R : Room} {s : State} {m : MethodId} {args : Array Value} {below : List Frame} {meth : Method} {c : Code} {H : Heap} {locs : List Loc} {cells slots : Nat} {Q : State → Prop}
variable {D : va_G} {aC : Nat → ClassId} {ad : Nat → Nat} {T : x_T} {nx sz : Nat} {w w' : x_W} {A : Nat → Prop}
theorem x_blind {av : List Value} : FrameBlind (x_Pc D aC ad T nx sz w av) := fun a U g mk q => by
  obtain ⟨h1, h2, h3, h4⟩ := q
  exact ⟨h1, h2, h3, va_K.moved (u := U) (U := U.calling g mk a) (Vm.Alike.refl U.vm) h4⟩
theorem x_met {y : MethodName} {own : String} {cc : ByteArray} {maxL : Nat} {ret : Option FieldType} {rm : Room} {av : List Value} {v : Option Value} (lv : List (Nat × Value)) (hy : plainFor y = true) (ho : y.cls = own) (hlv : lv_args 0 av = lv) (hle : (lg_sl av).length ≤ maxL)
    (walk : ∀ (p : Program) (e : Env) (s : State) (m : MethodId) (args : Array Value) (below : List Frame) (meth : Method) (c : Code) (ls : Array Slot), x_At p s m meth c args own cc ret maxL D aC (x_dom ad nx sz) → x_H D x_cl x_FT aC ad T nx (x_dom ad nx sz) w s.heap → va_S (x_dom ad nx sz) s.heap s.heap [] → lv_has ls maxL lv →
      W p l e rm s m args below meth c s.heap [] 0 0 (MQ below (x_Qc D aC ad T nx v w' (x_dom ad nx sz)) args s 0 0 (x_dom ad nx sz)) (F0 m 0 ls [])) :
    Met l y (.code y cc maxL ret :: x_tb) rm (x_Pc D aC ad T nx sz w av) (x_Qc D aC ad T nx v w' (x_dom ad nx sz)) 0 0 (x_dom ad nx sz) := by
  refine va_MetF (cc := cc) (maxL := maxL) (ret := ret) hy rfl ?_
  intro p e s m args below meth c s₁ B hml hv
  obtain ⟨rfl, hsz, hH, hK⟩ := hv
  have hts : ∀ w ∈ x_tb, w.before av.toArray s = true := fun w h => atoms_spec (ws := .code y cc maxL ret :: x_tb) B.pre w (List.mem_cons_of_mem _ h)
  have hown : s.vm.findClass own = some m.cls := ho ▸ findClass_of_methodNamed B.named
  have hl := lv_entry av (n := maxL) hle
  rw [hlv] at hl
  rw [lg_entry_eq]
  generalize (lg_sl av ++ List.replicate (maxL - (lg_sl av).length) Slot.unset).toArray = ls at hl ⊢
  exact walk p e s m av.toArray below meth c ls ⟨B.exec, B.bytes, B.returns, hml, hown, hts, B.notSynchronized, hK, fun q h => Or.inr (hsz ▸ h)⟩ hH.self va_S.rf hl
theorem x_call {a : Array Value} {v : Option Value} {pc : Nat} {ls : Array Slot} {st0 rest st1 : List Value} (hr : va_Run p l e R s m args below meth c H locs cells slots 0 0 (F0 m pc ls st0) rest (x_Qc D aC ad T nx v w' (x_dom ad nx H.size) a) (x_dom ad nx H.size)) (hst : v.toList ++ rest = st1)
    (hH : x_H D x_cl x_FT aC ad T nx A w H) (hA : ∀ q, s.heap.size ≤ q → A q) (hS : va_S A s.heap H locs)
    (kk : ∀ (H1 : Heap) (locs1 : List Loc), x_H D x_cl x_FT aC ad T nx A w' H1 → va_S A s.heap H1 locs1 → W p l e R s m args below meth c H1 locs1 cells slots Q (F0 m (pc + 3) ls st1)) : W p l e R s m args below meth c H locs cells slots Q (F0 m pc ls st0) := by
  subst hst
  intro T' hT X
  obtain ⟨v1, st₀, t, T1, L, h0, X', hL, e1, e2, ⟨hv, ⟨hz, hk⟩, hH1⟩, st⟩ := hr T' hT X
  cases hv
  rw [h0] at hz hk
  have hdom : ∀ q, x_dom ad nx H.size q → A q := fun q h => by
    rcases h with ⟨i, hi, rfl⟩ | h
    · exact hH.dom hi
    · exact hA q (Nat.le_trans hS.1 h)
  obtain ⟨t2, a1, b1⟩ := kk T1.heap (locs ++ L) (by rw [e1]; exact hH1.weaken (fun i hi _ => hH.dom hi))
    ⟨Nat.le_trans hS.1 (by rw [e1]; exact hz), fun q h1 h2 => by rw [e1, hk q (Nat.lt_of_lt_of_le h1 hS.1) (fun z => h2 (hdom q z))]; exact hS.2.1 q h1 h2, fun q hq => by
      rcases List.mem_append.mp hq with h | h
      · exact hS.2.2 q h
      · exact hdom _ (hL q h)⟩ T1 rfl X'
  exact ⟨t2, st t2 a1, b1⟩
variable {y : MethodName} {bytes cc : ByteArray} {maxL nL n index : Nat} {ret : Option FieldType} {ws : List Cond} {rm : Room} {Qc : Array Value → State → Outcome → State → Prop} {free : Addr → Prop} {Ts : List Cond} {own C : String} {As rest : List Value} {pc : Nat} {ls : Array Slot} {st0 : List Value} {h ci n0 : Nat} {q : vw_C}
theorem x_runV (S : CallFix p m c cc nL s args Ts own) (hM : Met l y ws rm (x_Pc D aC ad T nx H.size w (.ref (ad h) :: As)) Qc 0 0 free) (cw : CallW R s args own C index y bytes maxL ret ws rm 0 0 n) (hH : x_H D x_cl x_FT aC ad T nx A w H) (hK : va_K D x_cl (x_tys aC) s) (hT : T h = some (ci, n0)) (hci : ci < 100) (hc : x_cl[ci]? = some q) (hq : q.1 = C)
    (hn : As.length = n) (hsize : ls.size = nL) (hstack : st0 = As.reverse ++ .ref (ad h) :: rest) (hW : 2 * (F0 m pc ls st0).monitorRoom + (rest.map fun v => v.category).sum ≤ 8) (hdg : decode cc pc = .ok (.invokevirtual index, 3)) (hf : cells ≤ R.cells ∧ slots ≤ R.slots) :
    va_Run p l e R s m args below meth c H locs cells slots 0 0 (F0 m pc ls st0) rest (Qc (Value.ref (ad h) :: As).toArray) free :=
  va_runV S hM cw ⟨x_blind, hq ▸ va_recv hK hH.1 hc (q0 := h) (by rw [hH.at hT, x_cell_o hT hci]), fun U hU hW => ⟨rfl, by rw [hU], by rw [hU]; exact hH.weaken (fun _ _ _ => trivial), va_K.moved hW.alike hK⟩⟩ rfl hn hsize hstack hW hdg hf
theorem x_runS (S : CallFix p m c cc nL s args Ts own) (hM : Met l y ws rm (x_Pc D aC ad T nx H.size w As) Qc 0 0 free) (cw : CallB R s args own index y bytes maxL ret ws rm 0 0 n ∧ (Cond.static y).before args s = true) (hH : x_H D x_cl x_FT aC ad T nx A w H) (hK : va_K D x_cl (x_tys aC) s)
    (hn : As.length = n) (hsize : ls.size = nL) (hstack : st0 = As.reverse ++ rest) (hW : 2 * (F0 m pc ls st0).monitorRoom + (rest.map fun v => v.category).sum ≤ 8) (hdg : decode cc pc = .ok (.invokestatic index, 3)) (hf : cells ≤ R.cells ∧ slots ≤ R.slots) :
    va_Run p l e R s m args below meth c H locs cells slots 0 0 (F0 m pc ls st0) rest (Qc As.toArray) free :=
  va_runS S hM cw ⟨x_blind, fun U hU hW => ⟨rfl, by rw [hU], by rw [hU]; exact hH.weaken (fun _ _ _ => trivial), va_K.moved hW.alike hK⟩⟩ rfl hn hsize hstack hW hdg hf
end XC
theorem x_gV {own C : String} {idx : Nat} {y : MethodName} {b : ByteArray} {n : Nat} {ret : Option FieldType} (h1 : Cond.methodLink own idx y ∈ x_tb) (h2 : Cond.instanceMethod y ∈ x_tb) (h3 : Cond.selects C y y ∈ x_tb) (h4 : Cond.initialized C ∈ x_tb) (h5 : Cond.code y b n ret ∈ x_tb) : GoodIn x_tb (wsV own idx C y (.code y b n ret :: x_tb)) := by
  intro w hw
  have hm : w ∈ x_tb := by
    rcases List.mem_append.mp hw with h | h
    · simp only [List.mem_cons, List.not_mem_nil, or_false] at h
      rcases h with rfl | rfl | rfl | rfl
      · exact h1
      · exact h2
      · exact h3
      · exact h4
    · rcases List.mem_cons.mp h with rfl | h
      · exact h5
      · exact h
  exact ⟨hm, x_goodTb hm⟩
theorem x_gS {own : String} {idx : Nat} {y : MethodName} {b : ByteArray} {n : Nat} {ret : Option FieldType} (h1 : Cond.methodLink own idx y ∈ x_tb) (h2 : Cond.static y ∈ x_tb) (h4 : Cond.initialized y.cls ∈ x_tb) (h5 : Cond.code y b n ret ∈ x_tb) : GoodIn x_tb (va_wsS own idx y (.code y b n ret :: x_tb)) := by
  intro w hw
  have hm : w ∈ x_tb := by
    rcases List.mem_append.mp hw with h | h
    · simp only [List.mem_cons, List.not_mem_nil, or_false] at h
      rcases h with rfl | rfl | rfl
      · exact h1
      · exact h2
      · exact h4
    · rcases List.mem_cons.mp h with rfl | h
      · exact h5
      · exact h
  exact ⟨hm, x_goodTb hm⟩
section XN
variable {p : Program} {l : Launch} {e : Env} {R : Room} {s : State} {m : MethodId} {args : Array Value} {below : List Frame} {meth : Method} {c : Code} {H : Heap} {locs : List Loc} {cells slots : Nat} {Q : State → Prop} {pc : Nat} {ls : Array Slot} {rest : List Value}
theorem x_nmi {x v : Int32} (e1 : some x = some v) (k : W p l e R s m args below meth c H locs cells slots Q (F0 m pc ls (.int v :: rest))) : W p l e R s m args below meth c H locs cells slots Q (F0 m pc ls (.int x :: rest)) := by cases e1; exact k
theorem x_nml {x v : Int64} (e1 : some x = some v) (k : W p l e R s m args below meth c H locs cells slots Q (F0 m pc ls (.long v :: rest))) : W p l e R s m args below meth c H locs cells slots Q (F0 m pc ls (.long x :: rest)) := by cases e1; exact k
theorem x_nw {D : va_G} {cl : List vw_C} {FT : Nat → List (Nat × Nat)} {aC : Nat → ClassId} {ad : Nat → Nat} {T : x_T} {nx : Nat} {A : Nat → Prop} {w w' : x_W} (e1 : some w = some w') (h : x_H D cl FT aC ad T nx A w H) : x_H D cl FT aC ad T nx A w' H := by cases e1; exact h
end XN
/-- the handle is there -/
def x_ex (T : x_T) (h : Nat) : Option Unit := if (T h).isSome = true then some () else none
theorem x_ex_lt {D : va_G} {cl : List vw_C} {FT : Nat → List (Nat × Nat)} {aC : Nat → ClassId} {ad : Nat → Nat} {T : x_T} {nx : Nat} {A : Nat → Prop} {w : x_W} {H : Heap} {a : Nat} {u : Unit} (e : x_ex T a = some u) (hH : x_H D cl FT aC ad T nx A w H) : ∀ b, some a = some b → b < nx := by
  intro b hb
  cases hb
  unfold x_ex at e
  cases hq : T a with
  | none => rw [hq] at e; simp at e
  | some q => exact hH.2.2.1 a q hq
/-- the handle is an Air or a Cell -/
def x_pl (T : x_T) (h : Nat) : Option Unit := if (T h).map Prod.fst = some 1 ∨ (T h).map Prod.fst = some 2 then some () else none
def x_isP (T : x_T) (h : Nat) : Prop := (∃ n, T h = some (1, n)) ∨ ∃ n, T h = some (2, n)
theorem x_isP_Air {T : x_T} {h n : Nat} (e : T h = some (1, n)) : x_isP T h := Or.inl ⟨n, e⟩
theorem x_isP_Cell {T : x_T} {h n : Nat} (e : T h = some (2, n)) : x_isP T h := Or.inr ⟨n, e⟩
theorem x_pl_e {T : x_T} {h : Nat} {u : Unit} (e : x_pl T h = some u) : x_isP T h := by
  unfold x_pl at e
  cases hq : T h with
  | none => rw [hq] at e; simp at e
  | some q =>
    obtain ⟨a, n⟩ := q
    rw [hq] at e
    by_cases h1 : a = 1
    · subst h1; exact Or.inl ⟨n, hq⟩
    · by_cases h2 : a = 2
      · subst h2; exact Or.inr ⟨n, hq⟩
      · simp [h1, h2] at e
section XP
variable {p : Program} {l : Launch} {e : Env} {R : Room} {s : State} {m : MethodId} {args : Array Value} {below : List Frame} {meth : Method} {c : Code} {H : Heap} {locs : List Loc} {cells slots : Nat} {Q : State → Prop} {pc : Nat} {ls : Array Slot} {rest : List Value} {cc : ByteArray}
variable {D : va_G} {aC : Nat → ClassId} {ad : Nat → Nat} {T : x_T} {nx : Nat} {w : x_W} {A : Nat → Prop} {H0 : Heap} {own : String} {index h : Nat}
theorem x_getP (hexec : p.tables.exec = Jvm.exec) (hb : c.code = cc) (hts : ∀ w ∈ x_tb, w.before args s = true) (hown : s.vm.findClass own = some m.cls) (hK : va_K D x_cl (x_tys aC) s) (hH : x_H D x_cl x_FT aC ad T nx A w H) (hT : x_isP T h) (k : Nat) (hk : k < 7) (hF : F_Air k = F_Cell k) (hlink : (Cond.fieldLink own index (F_Cell k).1 (F_Cell k).2.1 (F_Cell k).2.2.1).before args s = true) {kd : Nat × Nat} (h1 : (x_FT 1)[k]? = some kd) (h2 : (x_FT 2)[k]? = some kd) {v : Value} (hv : x_fld ad w h kd = v) (hdg : decode cc pc = .ok (.getfield index, 3))
    (kk : W p l e R s m args below meth c H locs cells slots Q (F0 m (pc + 3) ls (v :: rest))) : W p l e R s m args below meth c H locs cells slots Q (F0 m pc ls (.ref (ad h) :: rest)) := by
  rcases hT with ⟨n, hT⟩ | ⟨n, hT⟩
  · exact x_get (C := "WallDamp$Air") (F := F_Air) (N := 9) (ref := (F_Cell k).1) hexec hb hts i_Air hown hK hH hT (by decide) rfl k (by omega) (by rw [hF]; exact hlink) (by rw [hF]; exact fun _ h9 => h9) h1 hv hdg kk
  · exact x_get (C := "WallDamp$Cell") (F := F_Cell) (N := 15) (ref := (F_Cell k).1) hexec hb hts i_Cell hown hK hH hT (by decide) rfl k (by omega) hlink (fun _ h9 => h9) h2 hv hdg kk
theorem x_putPI (hexec : p.tables.exec = Jvm.exec) (hb : c.code = cc) (hts : ∀ w ∈ x_tb, w.before args s = true) (hown : s.vm.findClass own = some m.cls) (hK : va_K D x_cl (x_tys aC) s) (hH : x_H D x_cl x_FT aC ad T nx A w H) (hS : va_S A H0 H locs) (hT : x_isP T h) (k : Nat) (hk : k < 7) (hF : F_Air k = F_Cell k) (hlink : (Cond.fieldLink own index (F_Cell k).1 (F_Cell k).2.1 (F_Cell k).2.2.1).before args s = true) {j : Nat} {v : Int32} (h1 : (x_FT 1)[k]? = some (0, j)) (h2 : (x_FT 2)[k]? = some (0, j)) (hfin : (F_Cell k).2.2.2 = false) (hty : t_Cell k = .int) (hdg : decode cc pc = .ok (.putfield index, 3))
    (kk : ∀ (H1 : Heap) (locs1 : List Loc), x_H D x_cl x_FT aC ad T nx A (x_sI w j h v) H1 → va_S A H0 H1 locs1 → W p l e R s m args below meth c H1 locs1 cells slots Q (F0 m (pc + 3) ls rest)) : W p l e R s m args below meth c H locs cells slots Q (F0 m pc ls (.int v :: .ref (ad h) :: rest)) := by
  have hd : parseFieldDescriptor (F_Cell k).2.2.1 = some .int := by rw [← hty]; exact ty_Cell k (by omega)
  rcases hT with ⟨n, hT⟩ | ⟨n, hT⟩
  · exact x_put (C := "WallDamp$Air") (F := F_Air) (N := 9) (ref := (F_Cell k).1) (ty := .int) (v := .int v) (w' := x_sI w j h v) hexec hb hts i_Air t_Air ty_Air n_Air hown hK hH hS hT (by decide) rfl rfl k (by omega) (by rw [hF]; exact hlink) (by rw [hF]; exact fun _ h9 => h9) (by rw [hF]; exact hfin) (by rw [hF]; exact hd) rfl rfl (x_on_I hT (by decide) h1 nd_Air) (fun j hj => x_off_I hj) (fun hh ok => x_ok_I hh ok) hdg kk
  · exact x_put (C := "WallDamp$Cell") (F := F_Cell) (N := 15) (ref := (F_Cell k).1) (ty := .int) (v := .int v) (w' := x_sI w j h v) hexec hb hts i_Cell t_Cell ty_Cell n_Cell hown hK hH hS hT (by decide) rfl rfl k (by omega) hlink (fun _ h9 => h9) hfin hd rfl rfl (x_on_I hT (by decide) h2 nd_Cell) (fun j hj => x_off_I hj) (fun hh ok => x_ok_I hh ok) hdg kk
theorem x_tin {x k : Int32} (e1 : x = k) (hexec : p.tables.exec = Jvm.exec) (hb : c.code = cc) {dflt lo hi : Int} {offs : Array Int} {len : Nat} {off : Int} {tgt : Nat} (hdg : decode cc pc = .ok (.tableswitch dflt lo hi offs, len)) (h1 : ¬ k.toInt < lo) (h2 : ¬ hi < k.toInt) (ho : offs[(k.toInt - lo).toNat]? = some off) (ht : (pc : Int) + off = (tgt : Int))
    (kk : W p l e R s m args below meth c H locs cells slots Q (F0 m tgt ls rest)) : W p l e R s m args below meth c H locs cells slots Q (F0 m pc ls (.int x :: rest)) := by
  subst e1
  exact lv_tableIn hexec hb hdg h1 h2 ho ht kk
end XP
end
section
/-! java/lang/Math.max(II)I -/
def f_Math_max_10 (T : x_T) (w : x_W) (t0 : Int32) : Option (Int32 × x_W) :=
  some (t0, w)
def f_Math_max (T : x_T) (w : x_W) (l0 : Int32) (l1 : Int32) : Option (Int32 × x_W) :=
  if l0 < l1 then
    (f_Math_max_10 T w l1)
  else
    (f_Math_max_10 T w l0)
set_option maxHeartbeats 4000000 in
set_option maxRecDepth 100000 in
theorem k_Math_max_10 {p : Program} {l : Launch} {e : Env} {s : State} {m : MethodId} {args : Array Value} {below : List Frame} {meth : Method} {c : Code} {D : va_G} {aC : Nat → ClassId} {ad : Nat → Nat} {T : x_T} {nx : Nat} {A : Nat → Prop} {q : Int32 × x_W} (C0 : x_At p s m meth c args "java/lang/Math" b_Math_max (some (.int)) 2 D aC A) : ∀ (w : x_W) (H : Heap) (locs : List Loc) (ls : Array Slot) (t0 : Int32), f_Math_max_10 T w t0 = some q → x_H D x_cl x_FT aC ad T nx A w H → va_S A s.heap H locs → lv_has ls 2 [] → W p l e { frames := 0, cells := 0, slots := 0, locals := 0 } s m args below meth c H locs 0 0 (MQ below (x_Qc D aC ad T nx (some (.int q.1)) q.2 A) args s 0 0 A) (F0 m 10 ls [.int t0]) := by
  obtain ⟨hx, hb, hr, hml, hown, hts, hlocks, hK, hA⟩ := id C0
  intro w H locs ls t0 hf hH hS hl
  unfold f_Math_max_10 at hf
  cases hf
  exact W.iret hx hb hr (fun t ht hW => ⟨rfl, hS.F ht, by rw [ht]; exact hH.weaken (fun _ _ _ => trivial)⟩) hS.2.2 d_Math_max_10
set_option maxHeartbeats 4000000 in
set_option maxRecDepth 100000 in
theorem k_Math_max {p : Program} {l : Launch} {e : Env} {s : State} {m : MethodId} {args : Array Value} {below : List Frame} {meth : Method} {c : Code} {D : va_G} {aC : Nat → ClassId} {ad : Nat → Nat} {T : x_T} {nx : Nat} {A : Nat → Prop} {q : Int32 × x_W} (C0 : x_At p s m meth c args "java/lang/Math" b_Math_max (some (.int)) 2 D aC A) : ∀ (w : x_W) (H : Heap) (locs : List Loc) (ls : Array Slot) (l0 : Int32) (l1 : Int32), f_Math_max T w l0 l1 = some q → x_H D x_cl x_FT aC ad T nx A w H → va_S A s.heap H locs → lv_has ls 2 [(0, .int l0), (1, .int l1)] → W p l e { frames := 0, cells := 0, slots := 0, locals := 0 } s m args below meth c H locs 0 0 (MQ below (x_Qc D aC ad T nx (some (.int q.1)) q.2 A) args s 0 0 A) (F0 m 0 ls []) := by
  obtain ⟨hx, hb, hr, hml, hown, hts, hlocks, hK, hA⟩ := id C0
  intro w H locs ls l0 l1 hf hH hS hl
  unfold f_Math_max at hf
  refine lv_iload_n hx hb d_Math_max_0 rfl (lv_at hl 0 rfl) ?_
  refine lv_iload_n hx hb d_Math_max_1 rfl (lv_at hl 1 rfl) ?_
  refine lv_icmp_lt (tgt := 9) hx hb d_Math_max_2 (by decide) (fun c1 => ?_) (fun c1 => ?_)
  · have hf := x_it hf c1
    refine lv_iload_n hx hb d_Math_max_9 rfl (lv_at hl 1 rfl) ?_
    exact k_Math_max_10 C0 w _ _ _ l1 hf hH hS (lv_sub hl [] rfl)
  · have hf := x_if hf c1
    refine lv_iload_n hx hb d_Math_max_5 rfl (lv_at hl 0 rfl) ?_
    refine lv_goto (tgt := 10) hx hb d_Math_max_6 (by decide) ?_
    exact k_Math_max_10 C0 w _ _ _ l0 hf hH hS (lv_sub hl [] rfl)
theorem c_Math_max (l : Launch) (D : va_G) (aC : Nat → ClassId) (ad : Nat → Nat) (T : x_T) (nx sz : Nat) (w : x_W) (a0 : Int32) (a1 : Int32) (q : Int32 × x_W) (hf : f_Math_max T w a0 a1 = some q) : Met l y_Math_max ws_Math_max { frames := 0, cells := 0, slots := 0, locals := 0 } (x_Pc D aC ad T nx sz w [.int a0, .int a1]) (x_Qc D aC ad T nx (some (.int q.1)) q.2 (x_dom ad nx sz)) 0 0 (x_dom ad nx sz) :=
  x_met [(0, .int a0), (1, .int a1)] (by decide +kernel) rfl rfl (Nat.le_of_ble_eq_true rfl) (fun p e s m args below meth c ls C0 hH hS hl => k_Math_max C0 w _ _ _ a0 a1 hf hH hS (lv_sub hl [0, 1] rfl))
/-! java/lang/Math.min(II)I -/
def f_Math_min_10 (T : x_T) (w : x_W) (t0 : Int32) : Option (Int32 × x_W) :=
  some (t0, w)
def f_Math_min (T : x_T) (w : x_W) (l0 : Int32) (l1 : Int32) : Option (Int32 × x_W) :=
  if l1 < l0 then
    (f_Math_min_10 T w l1)
  else
    (f_Math_min_10 T w l0)
set_option maxHeartbeats 4000000 in
set_option maxRecDepth 100000 in
theorem k_Math_min_10 {p : Program} {l : Launch} {e : Env} {s : State} {m : MethodId} {args : Array Value} {below : List Frame} {meth : Method} {c : Code} {D : va_G} {aC : Nat → ClassId} {ad : Nat → Nat} {T : x_T} {nx : Nat} {A : Nat → Prop} {q : Int32 × x_W} (C0 : x_At p s m meth c args "java/lang/Math" b_Math_min (some (.int)) 2 D aC A) : ∀ (w : x_W) (H : Heap) (locs : List Loc) (ls : Array Slot) (t0 : Int32), f_Math_min_10 T w t0 = some q → x_H D x_cl x_FT aC ad T nx A w H → va_S A s.heap H locs → lv_has ls 2 [] → W p l e { frames := 0, cells := 0, slots := 0, locals := 0 } s m args below meth c H locs 0 0 (MQ below (x_Qc D aC ad T nx (some (.int q.1)) q.2 A) args s 0 0 A) (F0 m 10 ls [.int t0]) := by
  obtain ⟨hx, hb, hr, hml, hown, hts, hlocks, hK, hA⟩ := id C0
  intro w H locs ls t0 hf hH hS hl
  unfold f_Math_min_10 at hf
  cases hf
  exact W.iret hx hb hr (fun t ht hW => ⟨rfl, hS.F ht, by rw [ht]; exact hH.weaken (fun _ _ _ => trivial)⟩) hS.2.2 d_Math_min_10
set_option maxHeartbeats 4000000 in
set_option maxRecDepth 100000 in
theorem k_Math_min {p : Program} {l : Launch} {e : Env} {s : State} {m : MethodId} {args : Array Value} {below : List Frame} {meth : Method} {c : Code} {D : va_G} {aC : Nat → ClassId} {ad : Nat → Nat} {T : x_T} {nx : Nat} {A : Nat → Prop} {q : Int32 × x_W} (C0 : x_At p s m meth c args "java/lang/Math" b_Math_min (some (.int)) 2 D aC A) : ∀ (w : x_W) (H : Heap) (locs : List Loc) (ls : Array Slot) (l0 : Int32) (l1 : Int32), f_Math_min T w l0 l1 = some q → x_H D x_cl x_FT aC ad T nx A w H → va_S A s.heap H locs → lv_has ls 2 [(0, .int l0), (1, .int l1)] → W p l e { frames := 0, cells := 0, slots := 0, locals := 0 } s m args below meth c H locs 0 0 (MQ below (x_Qc D aC ad T nx (some (.int q.1)) q.2 A) args s 0 0 A) (F0 m 0 ls []) := by
  obtain ⟨hx, hb, hr, hml, hown, hts, hlocks, hK, hA⟩ := id C0
  intro w H locs ls l0 l1 hf hH hS hl
  unfold f_Math_min at hf
  refine lv_iload_n hx hb d_Math_min_0 rfl (lv_at hl 0 rfl) ?_
  refine lv_iload_n hx hb d_Math_min_1 rfl (lv_at hl 1 rfl) ?_
  refine lv_icmp_gt (tgt := 9) hx hb d_Math_min_2 (by decide) (fun c1 => ?_) (fun c1 => ?_)
  · have hf := x_it hf c1
    refine lv_iload_n hx hb d_Math_min_9 rfl (lv_at hl 1 rfl) ?_
    exact k_Math_min_10 C0 w _ _ _ l1 hf hH hS (lv_sub hl [] rfl)
  · have hf := x_if hf c1
    refine lv_iload_n hx hb d_Math_min_5 rfl (lv_at hl 0 rfl) ?_
    refine lv_goto (tgt := 10) hx hb d_Math_min_6 (by decide) ?_
    exact k_Math_min_10 C0 w _ _ _ l0 hf hH hS (lv_sub hl [] rfl)
theorem c_Math_min (l : Launch) (D : va_G) (aC : Nat → ClassId) (ad : Nat → Nat) (T : x_T) (nx sz : Nat) (w : x_W) (a0 : Int32) (a1 : Int32) (q : Int32 × x_W) (hf : f_Math_min T w a0 a1 = some q) : Met l y_Math_min ws_Math_min { frames := 0, cells := 0, slots := 0, locals := 0 } (x_Pc D aC ad T nx sz w [.int a0, .int a1]) (x_Qc D aC ad T nx (some (.int q.1)) q.2 (x_dom ad nx sz)) 0 0 (x_dom ad nx sz) :=
  x_met [(0, .int a0), (1, .int a1)] (by decide +kernel) rfl rfl (Nat.le_of_ble_eq_true rfl) (fun p e s m args below meth c ls C0 hH hS hl => k_Math_min C0 w _ _ _ a0 a1 hf hH hS (lv_sub hl [0, 1] rfl))
/-! java/lang/Math.floorMod(II)I -/
def f_Math_floorMod_18 (T : x_T) (w : x_W) (l2 : Int32) : Option (Int32 × x_W) :=
  some (l2, w)
def f_Math_floorMod (T : x_T) (w : x_W) (l0 : Int32) (l1 : Int32) : Option (Int32 × x_W) :=
  (x_nzi l1).bind fun _ =>
  (some ((l0 - l0 / l1 * l1))).bind fun v2 =>
  if 0 ≤ (l0 ^^^ l1) then
    (f_Math_floorMod_18 T w v2)
  else
    (if v2 = 0 then
      (f_Math_floorMod_18 T w v2)
    else
      (some ((v2 + l1), w)))
set_option maxHeartbeats 4000000 in
set_option maxRecDepth 100000 in
theorem k_Math_floorMod_18 {p : Program} {l : Launch} {e : Env} {s : State} {m : MethodId} {args : Array Value} {below : List Frame} {meth : Method} {c : Code} {D : va_G} {aC : Nat → ClassId} {ad : Nat → Nat} {T : x_T} {nx : Nat} {A : Nat → Prop} {q : Int32 × x_W} (C0 : x_At p s m meth c args "java/lang/Math" b_Math_floorMod (some (.int)) 3 D aC A) : ∀ (w : x_W) (H : Heap) (locs : List Loc) (ls : Array Slot) (l2 : Int32), f_Math_floorMod_18 T w l2 = some q → x_H D x_cl x_FT aC ad T nx A w H → va_S A s.heap H locs → lv_has ls 3 [(2, .int l2)] → W p l e { frames := 0, cells := 0, slots := 0, locals := 0 } s m args below meth c H locs 0 0 (MQ below (x_Qc D aC ad T nx (some (.int q.1)) q.2 A) args s 0 0 A) (F0 m 18 ls []) := by
  obtain ⟨hx, hb, hr, hml, hown, hts, hlocks, hK, hA⟩ := id C0
  intro w H locs ls l2 hf hH hS hl
  unfold f_Math_floorMod_18 at hf
  refine lv_iload_n hx hb d_Math_floorMod_18 rfl (lv_at hl 0 rfl) ?_
  cases hf
  exact W.iret hx hb hr (fun t ht hW => ⟨rfl, hS.F ht, by rw [ht]; exact hH.weaken (fun _ _ _ => trivial)⟩) hS.2.2 d_Math_floorMod_19
set_option maxHeartbeats 4000000 in
set_option maxRecDepth 100000 in
theorem k_Math_floorMod {p : Program} {l : Launch} {e : Env} {s : State} {m : MethodId} {args : Array Value} {below : List Frame} {meth : Method} {c : Code} {D : va_G} {aC : Nat → ClassId} {ad : Nat → Nat} {T : x_T} {nx : Nat} {A : Nat → Prop} {q : Int32 × x_W} (C0 : x_At p s m meth c args "java/lang/Math" b_Math_floorMod (some (.int)) 3 D aC A) : ∀ (w : x_W) (H : Heap) (locs : List Loc) (ls : Array Slot) (l0 : Int32) (l1 : Int32), f_Math_floorMod T w l0 l1 = some q → x_H D x_cl x_FT aC ad T nx A w H → va_S A s.heap H locs → lv_has ls 3 [(0, .int l0), (1, .int l1)] → W p l e { frames := 0, cells := 0, slots := 0, locals := 0 } s m args below meth c H locs 0 0 (MQ below (x_Qc D aC ad T nx (some (.int q.1)) q.2 A) args s 0 0 A) (F0 m 0 ls []) := by
  obtain ⟨hx, hb, hr, hml, hown, hts, hlocks, hK, hA⟩ := id C0
  intro w H locs ls l0 l1 hf hH hS hl
  unfold f_Math_floorMod at hf
  refine lv_iload_n hx hb d_Math_floorMod_0 rfl (lv_at hl 0 rfl) ?_
  refine lv_iload_n hx hb d_Math_floorMod_1 rfl (lv_at hl 1 rfl) ?_
  obtain ⟨_, e1, hf⟩ := x_b hf
  refine lv_irem hx hb d_Math_floorMod_2 (x_nzi_e e1) ?_
  obtain ⟨v2, e3, hf⟩ := x_b hf
  refine x_nmi e3 ?_
  refine lv_istore_n (lv' := [(2, .int v2), (0, .int l0), (1, .int l1)]) hx hb d_Math_floorMod_3 rfl hl (by decide) rfl (fun ls hl => ?_)
  refine lv_iload_n hx hb d_Math_floorMod_4 rfl (lv_at hl 1 rfl) ?_
  refine lv_iload_n hx hb d_Math_floorMod_5 rfl (lv_at hl 2 rfl) ?_
  refine lv_ixor hx hb d_Math_floorMod_6 ?_
  refine lv_if_ge (tgt := 18) hx hb d_Math_floorMod_7 (by decide) (fun c4 => ?_) (fun c4 => ?_)
  · have hf := x_it hf c4
    exact k_Math_floorMod_18 C0 w _ _ _ v2 hf hH hS (lv_sub hl [0] rfl)
  · have hf := x_if hf c4
    refine lv_iload_n hx hb d_Math_floorMod_10 rfl (lv_at hl 0 rfl) ?_
    refine lv_if_eq (tgt := 18) hx hb d_Math_floorMod_11 (by decide) (fun c5 => ?_) (fun c5 => ?_)
    · have hf := x_it hf c5
      exact k_Math_floorMod_18 C0 w _ _ _ v2 hf hH hS (lv_sub hl [0] rfl)
    · have hf := x_if hf c5
      refine lv_iload_n hx hb d_Math_floorMod_14 rfl (lv_at hl 0 rfl) ?_
      refine lv_iload_n hx hb d_Math_floorMod_15 rfl (lv_at hl 2 rfl) ?_
      refine lv_iadd hx hb d_Math_floorMod_16 ?_
      cases hf
      exact W.iret hx hb hr (fun t ht hW => ⟨rfl, hS.F ht, by rw [ht]; exact hH.weaken (fun _ _ _ => trivial)⟩) hS.2.2 d_Math_floorMod_17
theorem c_Math_floorMod (l : Launch) (D : va_G) (aC : Nat → ClassId) (ad : Nat → Nat) (T : x_T) (nx sz : Nat) (w : x_W) (a0 : Int32) (a1 : Int32) (q : Int32 × x_W) (hf : f_Math_floorMod T w a0 a1 = some q) : Met l y_Math_floorMod ws_Math_floorMod { frames := 0, cells := 0, slots := 0, locals := 0 } (x_Pc D aC ad T nx sz w [.int a0, .int a1]) (x_Qc D aC ad T nx (some (.int q.1)) q.2 (x_dom ad nx sz)) 0 0 (x_dom ad nx sz) :=
  x_met [(0, .int a0), (1, .int a1)] (by decide +kernel) rfl rfl (Nat.le_of_ble_eq_true rfl) (fun p e s m args below meth c ls C0 hH hS hl => k_Math_floorMod C0 w _ _ _ a0 a1 hf hH hS (lv_sub hl [0, 1] rfl))
/-! java/lang/Math.floorDiv(JJ)J -/
def f_Math_floorDiv_27 (T : x_T) (w : x_W) (l4 : Int64) : Option (Int64 × x_W) :=
  some (l4, w)
def f_Math_floorDiv (T : x_T) (w : x_W) (l0 : Int64) (l2 : Int64) : Option (Int64 × x_W) :=
  (x_nzl l2).bind fun _ =>
  (some ((l0 / l2))).bind fun v2 =>
  if 0 ≤ (lg_cmp (l0 ^^^ l2) (0 : Int64)) then
    (f_Math_floorDiv_27 T w v2)
  else
    (if (lg_cmp (v2 * l2) l0) = 0 then
      (f_Math_floorDiv_27 T w v2)
    else
      (some ((v2 - (1 : Int64)), w)))
set_option maxHeartbeats 4000000 in
set_option maxRecDepth 100000 in
theorem k_Math_floorDiv_27 {p : Program} {l : Launch} {e : Env} {s : State} {m : MethodId} {args : Array Value} {below : List Frame} {meth : Method} {c : Code} {D : va_G} {aC : Nat → ClassId} {ad : Nat → Nat} {T : x_T} {nx : Nat} {A : Nat → Prop} {q : Int64 × x_W} (C0 : x_At p s m meth c args "java/lang/Math" b_Math_floorDiv (some (.long)) 6 D aC A) : ∀ (w : x_W) (H : Heap) (locs : List Loc) (ls : Array Slot) (l4 : Int64), f_Math_floorDiv_27 T w l4 = some q → x_H D x_cl x_FT aC ad T nx A w H → va_S A s.heap H locs → lv_has ls 6 [(4, .long l4)] → W p l e { frames := 0, cells := 0, slots := 0, locals := 0 } s m args below meth c H locs 0 0 (MQ below (x_Qc D aC ad T nx (some (.long q.1)) q.2 A) args s 0 0 A) (F0 m 27 ls []) := by
  obtain ⟨hx, hb, hr, hml, hown, hts, hlocks, hK, hA⟩ := id C0
  intro w H locs ls l4 hf hH hS hl
  unfold f_Math_floorDiv_27 at hf
  refine lv_lload hx hb d_Math_floorDiv_27 (lv_at hl 0 rfl) ?_
  cases hf
  exact W.lret hx hb hr (fun t ht hW => ⟨rfl, hS.F ht, by rw [ht]; exact hH.weaken (fun _ _ _ => trivial)⟩) hS.2.2 d_Math_floorDiv_29
set_option maxHeartbeats 4000000 in
set_option maxRecDepth 100000 in
theorem k_Math_floorDiv {p : Program} {l : Launch} {e : Env} {s : State} {m : MethodId} {args : Array Value} {below : List Frame} {meth : Method} {c : Code} {D : va_G} {aC : Nat → ClassId} {ad : Nat → Nat} {T : x_T} {nx : Nat} {A : Nat → Prop} {q : Int64 × x_W} (C0 : x_At p s m meth c args "java/lang/Math" b_Math_floorDiv (some (.long)) 6 D aC A) : ∀ (w : x_W) (H : Heap) (locs : List Loc) (ls : Array Slot) (l0 : Int64) (l2 : Int64), f_Math_floorDiv T w l0 l2 = some q → x_H D x_cl x_FT aC ad T nx A w H → va_S A s.heap H locs → lv_has ls 6 [(0, .long l0), (2, .long l2)] → W p l e { frames := 0, cells := 0, slots := 0, locals := 0 } s m args below meth c H locs 0 0 (MQ below (x_Qc D aC ad T nx (some (.long q.1)) q.2 A) args s 0 0 A) (F0 m 0 ls []) := by
  obtain ⟨hx, hb, hr, hml, hown, hts, hlocks, hK, hA⟩ := id C0
  intro w H locs ls l0 l2 hf hH hS hl
  unfold f_Math_floorDiv at hf
  refine lv_lload_n hx hb d_Math_floorDiv_0 rfl (lv_at hl 0 rfl) ?_
  refine lv_lload_n hx hb d_Math_floorDiv_1 rfl (lv_at hl 1 rfl) ?_
  obtain ⟨_, e1, hf⟩ := x_b hf
  refine lv_ldiv hx hb d_Math_floorDiv_2 (x_nzl_e e1) ?_
  obtain ⟨v2, e3, hf⟩ := x_b hf
  refine x_nml e3 ?_
  refine lv_lstore (lv' := [(4, .long v2), (0, .long l0), (2, .long l2)]) hx hb d_Math_floorDiv_3 hl (by decide) rfl (fun ls hl => ?_)
  refine lv_lload_n hx hb d_Math_floorDiv_5 rfl (lv_at hl 1 rfl) ?_
  refine lv_lload_n hx hb d_Math_floorDiv_6 rfl (lv_at hl 2 rfl) ?_
  refine lv_lxor hx hb d_Math_floorDiv_7 ?_
  refine lv_lconst (v := 0) hx hb d_Math_floorDiv_8 (by decide) ?_
  refine W.lcmp hx hb d_Math_floorDiv_9 ?_
  refine lv_if_ge (tgt := 27) hx hb d_Math_floorDiv_10 (by decide) (fun c4 => ?_) (fun c4 => ?_)
  · have hf := x_it hf c4
    exact k_Math_floorDiv_27 C0 w _ _ _ v2 hf hH hS (lv_sub hl [0] rfl)
  · have hf := x_if hf c4
    refine lv_lload hx hb d_Math_floorDiv_13 (lv_at hl 0 rfl) ?_
    refine lv_lload_n hx hb d_Math_floorDiv_15 rfl (lv_at hl 2 rfl) ?_
    refine lv_lmul hx hb d_Math_floorDiv_16 ?_
    refine lv_lload_n hx hb d_Math_floorDiv_17 rfl (lv_at hl 1 rfl) ?_
    refine W.lcmp hx hb d_Math_floorDiv_18 ?_
    refine lv_if_eq (tgt := 27) hx hb d_Math_floorDiv_19 (by decide) (fun c5 => ?_) (fun c5 => ?_)
    · have hf := x_it hf c5
      exact k_Math_floorDiv_27 C0 w _ _ _ v2 hf hH hS (lv_sub hl [0] rfl)
    · have hf := x_if hf c5
      refine lv_lload hx hb d_Math_floorDiv_22 (lv_at hl 0 rfl) ?_
      refine lv_lconst (v := 1) hx hb d_Math_floorDiv_24 (by decide) ?_
      refine lv_lsub hx hb d_Math_floorDiv_25 ?_
      cases hf
      exact W.lret hx hb hr (fun t ht hW => ⟨rfl, hS.F ht, by rw [ht]; exact hH.weaken (fun _ _ _ => trivial)⟩) hS.2.2 d_Math_floorDiv_26
theorem c_Math_floorDiv (l : Launch) (D : va_G) (aC : Nat → ClassId) (ad : Nat → Nat) (T : x_T) (nx sz : Nat) (w : x_W) (a0 : Int64) (a1 : Int64) (q : Int64 × x_W) (hf : f_Math_floorDiv T w a0 a1 = some q) : Met l y_Math_floorDiv ws_Math_floorDiv { frames := 0, cells := 0, slots := 0, locals := 0 } (x_Pc D aC ad T nx sz w [.long a0, .long a1]) (x_Qc D aC ad T nx (some (.long q.1)) q.2 (x_dom ad nx sz)) 0 0 (x_dom ad nx sz) :=
  x_met [(0, .long a0), (2, .long a1)] (by decide +kernel) rfl rfl (Nat.le_of_ble_eq_true rfl) (fun p e s m args below meth c ls C0 hH hS hl => k_Math_floorDiv C0 w _ _ _ a0 a1 hf hH hS (lv_sub hl [0, 1] rfl))
end
section
/-! WallDamp$Corners.lastX()I -/
def f_Corners_lastX_22 (T : x_T) (w : x_W) (t0 : Int32) : Option (Int32 × x_W) :=
  some (t0, w)
def f_Corners_lastX (T : x_T) (w : x_W) (l0 : Nat) : Option (Int32 × x_W) :=
  (x_is T l0 3).bind fun _ =>
  if (x_I w 28 l0) = 0 then
    (f_Corners_lastX_22 T w (0 : Int32))
  else
    ((x_R w 25 l0).bind fun a5 =>
    (x_ix T a5 100 ((x_I w 28 l0) - (1 : Int32))).bind fun _ =>
    f_Corners_lastX_22 T w (x_A w a5 ((x_I w 28 l0) - (1 : Int32)).toNatClampNeg))
set_option maxHeartbeats 4000000 in
set_option maxRecDepth 100000 in
theorem k_Corners_lastX_22 {p : Program} {l : Launch} {e : Env} {s : State} {m : MethodId} {args : Array Value} {below : List Frame} {meth : Method} {c : Code} {D : va_G} {aC : Nat → ClassId} {ad : Nat → Nat} {T : x_T} {nx : Nat} {A : Nat → Prop} {q : Int32 × x_W} (C0 : x_At p s m meth c args "WallDamp$Corners" b_Corners_lastX (some (.int)) 1 D aC A) : ∀ (w : x_W) (H : Heap) (locs : List Loc) (ls : Array Slot) (t0 : Int32), f_Corners_lastX_22 T w t0 = some q → x_H D x_cl x_FT aC ad T nx A w H → va_S A s.heap H locs → lv_has ls 1 [] → W p l e { frames := 0, cells := 0, slots := 0, locals := 0 } s m args below meth c H locs 0 0 (MQ below (x_Qc D aC ad T nx (some (.int q.1)) q.2 A) args s 0 0 A) (F0 m 22 ls [.int t0]) := by
  obtain ⟨hx, hb, hr, hml, hown, hts, hlocks, hK, hA⟩ := id C0
  intro w H locs ls t0 hf hH hS hl
  unfold f_Corners_lastX_22 at hf
  cases hf
  exact W.iret hx hb hr (fun t ht hW => ⟨rfl, hS.F ht, by rw [ht]; exact hH.weaken (fun _ _ _ => trivial)⟩) hS.2.2 d_Corners_lastX_22
set_option maxHeartbeats 4000000 in
set_option maxRecDepth 100000 in
theorem k_Corners_lastX {p : Program} {l : Launch} {e : Env} {s : State} {m : MethodId} {args : Array Value} {below : List Frame} {meth : Method} {c : Code} {D : va_G} {aC : Nat → ClassId} {ad : Nat → Nat} {T : x_T} {nx : Nat} {A : Nat → Prop} {q : Int32 × x_W} (C0 : x_At p s m meth c args "WallDamp$Corners" b_Corners_lastX (some (.int)) 1 D aC A) : ∀ (w : x_W) (H : Heap) (locs : List Loc) (ls : Array Slot) (l0 : Nat), f_Corners_lastX T w l0 = some q → x_H D x_cl x_FT aC ad T nx A w H → va_S A s.heap H locs → lv_has ls 1 [(0, .ref (ad l0))] → W p l e { frames := 0, cells := 0, slots := 0, locals := 0 } s m args below meth c H locs 0 0 (MQ below (x_Qc D aC ad T nx (some (.int q.1)) q.2 A) args s 0 0 A) (F0 m 0 ls []) := by
  obtain ⟨hx, hb, hr, hml, hown, hts, hlocks, hK, hA⟩ := id C0
  intro w H locs ls l0 hf hH hS hl
  unfold f_Corners_lastX at hf
  refine lv_aload_n hx hb d_Corners_lastX_0 rfl (lv_at hl 0 rfl) ?_
  obtain ⟨_, e1, hf⟩ := x_b hf
  obtain ⟨n2, hT3⟩ := x_is_e e1
  refine x_get (C := "WallDamp$Corners") (F := F_Corners) (N := 4) hx hb hts i_Corners hown hK hH hT3 (by decide) rfl 3 (by decide) (hts _ m_50) (fun _ h9 => h9) (kd := (0, 28)) rfl rfl d_Corners_lastX_1 ?_
  refine lv_if_ne (tgt := 11) hx hb d_Corners_lastX_4 (by decide) (fun c4 => ?_) (fun c4 => ?_)
  · have hf := x_if hf c4
    refine lv_aload_n hx hb d_Corners_lastX_11 rfl (lv_at hl 0 rfl) ?_
    obtain ⟨a5, e6, hf⟩ := x_b hf
    refine x_get (C := "WallDamp$Corners") (F := F_Corners) (N := 4) hx hb hts i_Corners hown hK hH hT3 (by decide) rfl 0 (by decide) (hts _ m_47) (fun _ h9 => h9) (kd := (2, 25)) rfl (x_fr e6) d_Corners_lastX_12 ?_
    refine lv_aload_n hx hb d_Corners_lastX_15 rfl (lv_at hl 0 rfl) ?_
    refine x_get (C := "WallDamp$Corners") (F := F_Corners) (N := 4) hx hb hts i_Corners hown hK hH hT3 (by decide) rfl 3 (by decide) (hts _ m_50) (fun _ h9 => h9) (kd := (0, 28)) rfl rfl d_Corners_lastX_16 ?_
    refine lv_iconst (v := 1) hx hb d_Corners_lastX_19 (by decide) ?_
    refine lv_isub hx hb d_Corners_lastX_20 ?_
    obtain ⟨_, e7, hf⟩ := x_b hf
    obtain ⟨n8, hT9, hi10⟩ := x_ix_e e7
    refine x_iald hx hb hK hH hT9 0 rfl hi10 d_Corners_lastX_21 ?_
    exact k_Corners_lastX_22 C0 w _ _ _ (x_A w a5 ((x_I w 28 l0) - (1 : Int32)).toNatClampNeg) hf hH hS (lv_sub hl [] rfl)
  · have hf := x_it hf c4
    refine lv_iconst (v := 0) hx hb d_Corners_lastX_7 (by decide) ?_
    refine lv_goto (tgt := 22) hx hb d_Corners_lastX_8 (by decide) ?_
    exact k_Corners_lastX_22 C0 w _ _ _ (0 : Int32) hf hH hS (lv_sub hl [] rfl)
theorem c_Corners_lastX (l : Launch) (D : va_G) (aC : Nat → ClassId) (ad : Nat → Nat) (T : x_T) (nx sz : Nat) (w : x_W) (a0 : Nat) (q : Int32 × x_W) (hf : f_Corners_lastX T w a0 = some q) : Met l y_Corners_lastX ws_Corners_lastX { frames := 0, cells := 0, slots := 0, locals := 0 } (x_Pc D aC ad T nx sz w [.ref (ad a0)]) (x_Qc D aC ad T nx (some (.int q.1)) q.2 (x_dom ad nx sz)) 0 0 (x_dom ad nx sz) :=
  x_met [(0, .ref (ad a0))] (plainFor_of_name (by decide)) rfl rfl (Nat.le_of_ble_eq_true rfl) (fun p e s m args below meth c ls C0 hH hS hl => k_Corners_lastX C0 w _ _ _ a0 hf hH hS (lv_sub hl [0] rfl))
/-! WallDamp$Corners.canAdd(II)Z -/
def f_Corners_canAdd_55 (T : x_T) (w : x_W) (t0 : Int32) : Option (Int32 × x_W) :=
  (x_bo t0).bind fun _ =>
  some (t0, w)
def f_Corners_canAdd_54 (T : x_T) (w : x_W) : Option (Int32 × x_W) :=
  f_Corners_canAdd_55 T w (0 : Int32)
def f_Corners_canAdd_50 (T : x_T) (w : x_W) : Option (Int32 × x_W) :=
  f_Corners_canAdd_55 T w (1 : Int32)
def f_Corners_canAdd (T : x_T) (w : x_W) (l0 : Nat) (l1 : Int32) (l2 : Int32) : Option (Int32 × x_W) :=
  (x_is T l0 3).bind fun _ =>
  if (x_I w 28 l0) < (x_I w 27 l0) then
    (if (x_I w 28 l0) = 0 then
      (f_Corners_canAdd_50 T w)
    else
      ((x_R w 25 l0).bind fun a6 =>
      (x_ix T a6 100 ((x_I w 28 l0) - (1 : Int32))).bind fun _ =>
      if l1 ≤ (x_A w a6 ((x_I w 28 l0) - (1 : Int32)).toNatClampNeg) then
        (f_Corners_canAdd_54 T w)
      else
        ((x_R w 26 l0).bind fun a13 =>
        (x_ix T a13 100 ((x_I w 28 l0) - (1 : Int32))).bind fun _ =>
        if l2 ≤ (x_A w a13 ((x_I w 28 l0) - (1 : Int32)).toNatClampNeg) then
          (f_Corners_canAdd_54 T w)
        else
          (f_Corners_canAdd_50 T w))))
  else
    (some ((0 : Int32), w))
set_option maxHeartbeats 4000000 in
set_option maxRecDepth 100000 in
theorem k_Corners_canAdd_55 {p : Program} {l : Launch} {e : Env} {s : State} {m : MethodId} {args : Array Value} {below : List Frame} {meth : Method} {c : Code} {D : va_G} {aC : Nat → ClassId} {ad : Nat → Nat} {T : x_T} {nx : Nat} {A : Nat → Prop} {q : Int32 × x_W} (C0 : x_At p s m meth c args "WallDamp$Corners" b_Corners_canAdd (some (.boolean)) 3 D aC A) : ∀ (w : x_W) (H : Heap) (locs : List Loc) (ls : Array Slot) (t0 : Int32), f_Corners_canAdd_55 T w t0 = some q → x_H D x_cl x_FT aC ad T nx A w H → va_S A s.heap H locs → lv_has ls 3 [] → W p l e { frames := 0, cells := 0, slots := 0, locals := 0 } s m args below meth c H locs 0 0 (MQ below (x_Qc D aC ad T nx (some (.int q.1)) q.2 A) args s 0 0 A) (F0 m 55 ls [.int t0]) := by
  obtain ⟨hx, hb, hr, hml, hown, hts, hlocks, hK, hA⟩ := id C0
  intro w H locs ls t0 hf hH hS hl
  unfold f_Corners_canAdd_55 at hf
  obtain ⟨_, e1, hf⟩ := x_b hf
  cases hf
  exact W.zret hx hb hr (x_bo_e e1).1 (fun t ht hW => ⟨rfl, hS.F ht, by rw [ht]; exact hH.weaken (fun _ _ _ => trivial)⟩) hS.2.2 d_Corners_canAdd_55
set_option maxHeartbeats 4000000 in
set_option maxRecDepth 100000 in
theorem k_Corners_canAdd_54 {p : Program} {l : Launch} {e : Env} {s : State} {m : MethodId} {args : Array Value} {below : List Frame} {meth : Method} {c : Code} {D : va_G} {aC : Nat → ClassId} {ad : Nat → Nat} {T : x_T} {nx : Nat} {A : Nat → Prop} {q : Int32 × x_W} (C0 : x_At p s m meth c args "WallDamp$Corners" b_Corners_canAdd (some (.boolean)) 3 D aC A) : ∀ (w : x_W) (H : Heap) (locs : List Loc) (ls : Array Slot), f_Corners_canAdd_54 T w = some q → x_H D x_cl x_FT aC ad T nx A w H → va_S A s.heap H locs → lv_has ls 3 [] → W p l e { frames := 0, cells := 0, slots := 0, locals := 0 } s m args below meth c H locs 0 0 (MQ below (x_Qc D aC ad T nx (some (.int q.1)) q.2 A) args s 0 0 A) (F0 m 54 ls []) := by
  obtain ⟨hx, hb, hr, hml, hown, hts, hlocks, hK, hA⟩ := id C0
  intro w H locs ls hf hH hS hl
  unfold f_Corners_canAdd_54 at hf
  refine lv_iconst (v := 0) hx hb d_Corners_canAdd_54 (by decide) ?_
  exact k_Corners_canAdd_55 C0 w _ _ _ (0 : Int32) hf hH hS (lv_sub hl [] rfl)
set_option maxHeartbeats 4000000 in
set_option maxRecDepth 100000 in
theorem k_Corners_canAdd_50 {p : Program} {l : Launch} {e : Env} {s : State} {m : MethodId} {args : Array Value} {below : List Frame} {meth : Method} {c : Code} {D : va_G} {aC : Nat → ClassId} {ad : Nat → Nat} {T : x_T} {nx : Nat} {A : Nat → Prop} {q : Int32 × x_W} (C0 : x_At p s m meth c args "WallDamp$Corners" b_Corners_canAdd (some (.boolean)) 3 D aC A) : ∀ (w : x_W) (H : Heap) (locs : List Loc) (ls : Array Slot), f_Corners_canAdd_50 T w = some q → x_H D x_cl x_FT aC ad T nx A w H → va_S A s.heap H locs → lv_has ls 3 [] → W p l e { frames := 0, cells := 0, slots := 0, locals := 0 } s m args below meth c H locs 0 0 (MQ below (x_Qc D aC ad T nx (some (.int q.1)) q.2 A) args s 0 0 A) (F0 m 50 ls []) := by
  obtain ⟨hx, hb, hr, hml, hown, hts, hlocks, hK, hA⟩ := id C0
  intro w H locs ls hf hH hS hl
  unfold f_Corners_canAdd_50 at hf
  refine lv_iconst (v := 1) hx hb d_Corners_canAdd_50 (by decide) ?_
  refine lv_goto (tgt := 55) hx hb d_Corners_canAdd_51 (by decide) ?_
  exact k_Corners_canAdd_55 C0 w _ _ _ (1 : Int32) hf hH hS (lv_sub hl [] rfl)
set_option maxHeartbeats 4000000 in
set_option maxRecDepth 100000 in
theorem k_Corners_canAdd {p : Program} {l : Launch} {e : Env} {s : State} {m : MethodId} {args : Array Value} {below : List Frame} {meth : Method} {c : Code} {D : va_G} {aC : Nat → ClassId} {ad : Nat → Nat} {T : x_T} {nx : Nat} {A : Nat → Prop} {q : Int32 × x_W} (C0 : x_At p s m meth c args "WallDamp$Corners" b_Corners_canAdd (some (.boolean)) 3 D aC A) : ∀ (w : x_W) (H : Heap) (locs : List Loc) (ls : Array Slot) (l0 : Nat) (l1 : Int32) (l2 : Int32), f_Corners_canAdd T w l0 l1 l2 = some q → x_H D x_cl x_FT aC ad T nx A w H → va_S A s.heap H locs → lv_has ls 3 [(0, .ref (ad l0)), (1, .int l1), (2, .int l2)] → W p l e { frames := 0, cells := 0, slots := 0, locals := 0 } s m args below meth c H locs 0 0 (MQ below (x_Qc D aC ad T nx (some (.int q.1)) q.2 A) args s 0 0 A) (F0 m 0 ls []) := by
  obtain ⟨hx, hb, hr, hml, hown, hts, hlocks, hK, hA⟩ := id C0
  intro w H locs ls l0 l1 l2 hf hH hS hl
  unfold f_Corners_canAdd at hf
  refine lv_aload_n hx hb d_Corners_canAdd_0 rfl (lv_at hl 0 rfl) ?_
  obtain ⟨_, e1, hf⟩ := x_b hf
  obtain ⟨n2, hT3⟩ := x_is_e e1
  refine x_get (C := "WallDamp$Corners") (F := F_Corners) (N := 4) hx hb hts i_Corners hown hK hH hT3 (by decide) rfl 3 (by decide) (hts _ m_50) (fun _ h9 => h9) (kd := (0, 28)) rfl rfl d_Corners_canAdd_1 ?_
  refine lv_aload_n hx hb d_Corners_canAdd_4 rfl (lv_at hl 0 rfl) ?_
  refine x_get (C := "WallDamp$Corners") (F := F_Corners) (N := 4) hx hb hts i_Corners hown hK hH hT3 (by decide) rfl 2 (by decide) (hts _ m_49) (fun _ h9 => h9) (kd := (0, 27)) rfl rfl d_Corners_canAdd_5 ?_
  refine lv_icmp_lt (tgt := 13) hx hb d_Corners_canAdd_8 (by decide) (fun c4 => ?_) (fun c4 => ?_)
  · have hf := x_it hf c4
    refine lv_aload_n hx hb d_Corners_canAdd_13 rfl (lv_at hl 0 rfl) ?_
    refine x_get (C := "WallDamp$Corners") (F := F_Corners) (N := 4) hx hb hts i_Corners hown hK hH hT3 (by decide) rfl 3 (by decide) (hts _ m_50) (fun _ h9 => h9) (kd := (0, 28)) rfl rfl d_Corners_canAdd_14 ?_
    refine lv_if_eq (tgt := 50) hx hb d_Corners_canAdd_17 (by decide) (fun c5 => ?_) (fun c5 => ?_)
    · have hf := x_it hf c5
      exact k_Corners_canAdd_50 C0 w _ _ _ hf hH hS (lv_sub hl [] rfl)
    · have hf := x_if hf c5
      refine lv_iload_n hx hb d_Corners_canAdd_20 rfl (lv_at hl 1 rfl) ?_
      refine lv_aload_n hx hb d_Corners_canAdd_21 rfl (lv_at hl 0 rfl) ?_
      obtain ⟨a6, e7, hf⟩ := x_b hf
      refine x_get (C := "WallDamp$Corners") (F := F_Corners) (N := 4) hx hb hts i_Corners hown hK hH hT3 (by decide) rfl 0 (by decide) (hts _ m_47) (fun _ h9 => h9) (kd := (2, 25)) rfl (x_fr e7) d_Corners_canAdd_22 ?_
      refine lv_aload_n hx hb d_Corners_canAdd_25 rfl (lv_at hl 0 rfl) ?_
      refine x_get (C := "WallDamp$Corners") (F := F_Corners) (N := 4) hx hb hts i_Corners hown hK hH hT3 (by decide) rfl 3 (by decide) (hts _ m_50) (fun _ h9 => h9) (kd := (0, 28)) rfl rfl d_Corners_canAdd_26 ?_
      refine lv_iconst (v := 1) hx hb d_Corners_canAdd_29 (by decide) ?_
      refine lv_isub hx hb d_Corners_canAdd_30 ?_
      obtain ⟨_, e8, hf⟩ := x_b hf
      obtain ⟨n9, hT10, hi11⟩ := x_ix_e e8
      refine x_iald hx hb hK hH hT10 0 rfl hi11 d_Corners_canAdd_31 ?_
      refine lv_icmp_le (tgt := 54) hx hb d_Corners_canAdd_32 (by decide) (fun c12 => ?_) (fun c12 => ?_)
      · have hf := x_it hf c12
        exact k_Corners_canAdd_54 C0 w _ _ _ hf hH hS (lv_sub hl [] rfl)
      · have hf := x_if hf c12
        refine lv_iload_n hx hb d_Corners_canAdd_35 rfl (lv_at hl 2 rfl) ?_
        refine lv_aload_n hx hb d_Corners_canAdd_36 rfl (lv_at hl 0 rfl) ?_
        obtain ⟨a13, e14, hf⟩ := x_b hf
        refine x_get (C := "WallDamp$Corners") (F := F_Corners) (N := 4) hx hb hts i_Corners hown hK hH hT3 (by decide) rfl 1 (by decide) (hts _ m_48) (fun _ h9 => h9) (kd := (2, 26)) rfl (x_fr e14) d_Corners_canAdd_37 ?_
        refine lv_aload_n hx hb d_Corners_canAdd_40 rfl (lv_at hl 0 rfl) ?_
        refine x_get (C := "WallDamp$Corners") (F := F_Corners) (N := 4) hx hb hts i_Corners hown hK hH hT3 (by decide) rfl 3 (by decide) (hts _ m_50) (fun _ h9 => h9) (kd := (0, 28)) rfl rfl d_Corners_canAdd_41 ?_
        refine lv_iconst (v := 1) hx hb d_Corners_canAdd_44 (by decide) ?_
        refine lv_isub hx hb d_Corners_canAdd_45 ?_
        obtain ⟨_, e15, hf⟩ := x_b hf
        obtain ⟨n16, hT17, hi18⟩ := x_ix_e e15
        refine x_iald hx hb hK hH hT17 0 rfl hi18 d_Corners_canAdd_46 ?_
        refine lv_icmp_le (tgt := 54) hx hb d_Corners_canAdd_47 (by decide) (fun c19 => ?_) (fun c19 => ?_)
        · have hf := x_it hf c19
          exact k_Corners_canAdd_54 C0 w _ _ _ hf hH hS (lv_sub hl [] rfl)
        · have hf := x_if hf c19
          exact k_Corners_canAdd_50 C0 w _ _ _ hf hH hS (lv_sub hl [] rfl)
  · have hf := x_if hf c4
    refine lv_iconst (v := 0) hx hb d_Corners_canAdd_11 (by decide) ?_
    cases hf
    exact W.zret hx hb hr rfl (fun t ht hW => ⟨rfl, hS.F ht, by rw [ht]; exact hH.weaken (fun _ _ _ => trivial)⟩) hS.2.2 d_Corners_canAdd_12
theorem c_Corners_canAdd (l : Launch) (D : va_G) (aC : Nat → ClassId) (ad : Nat → Nat) (T : x_T) (nx sz : Nat) (w : x_W) (a0 : Nat) (a1 : Int32) (a2 : Int32) (q : Int32 × x_W) (hf : f_Corners_canAdd T w a0 a1 a2 = some q) : Met l y_Corners_canAdd ws_Corners_canAdd { frames := 0, cells := 0, slots := 0, locals := 0 } (x_Pc D aC ad T nx sz w [.ref (ad a0), .int a1, .int a2]) (x_Qc D aC ad T nx (some (.int q.1)) q.2 (x_dom ad nx sz)) 0 0 (x_dom ad nx sz) :=
  x_met [(0, .ref (ad a0)), (1, .int a1), (2, .int a2)] (plainFor_of_name (by decide)) rfl rfl (Nat.le_of_ble_eq_true rfl) (fun p e s m args below meth c ls C0 hH hS hl => k_Corners_canAdd C0 w _ _ _ a0 a1 a2 hf hH hS (lv_sub hl [0, 1, 2] rfl))
/-! WallDamp$Corners.add(II)I -/
def f_Corners_add_42 (T : x_T) (w : x_W) (l0 : Nat) : Option (Int32 × x_W) :=
  (x_is T l0 3).bind fun _ =>
  some ((x_I w 28 l0), w)
def f_Corners_add (T : x_T) (w : x_W) (l0 : Nat) (l1 : Int32) (l2 : Int32) : Option (Int32 × x_W) :=
  (x_is T l0 3).bind fun _ =>
  (x_R w 25 l0).bind fun a4 =>
  (x_len T a4 100).bind fun n6 =>
  if (nI n6) ≤ (x_I w 28 l0) then
    (f_Corners_add_42 T w l0)
  else
    ((x_R w 25 l0).bind fun a9 =>
    (x_ix T a9 100 (x_I w 28 l0)).bind fun _ =>
    (some (x_sA w a9 (x_I w 28 l0).toNatClampNeg l1)).bind fun w15 =>
    (x_R w15 26 l0).bind fun a17 =>
    (x_ix T a17 100 (x_I w15 28 l0)).bind fun _ =>
    (some (x_sA w15 a17 (x_I w15 28 l0).toNatClampNeg l2)).bind fun w23 =>
    (some (x_sI w23 28 l0 ((x_I w23 28 l0) + (1 : Int32)))).bind fun w25 =>
    f_Corners_add_42 T w25 l0)
set_option maxHeartbeats 4000000 in
set_option maxRecDepth 100000 in
theorem k_Corners_add_42 {p : Program} {l : Launch} {e : Env} {s : State} {m : MethodId} {args : Array Value} {below : List Frame} {meth : Method} {c : Code} {D : va_G} {aC : Nat → ClassId} {ad : Nat → Nat} {T : x_T} {nx : Nat} {A : Nat → Prop} {q : Int32 × x_W} (C0 : x_At p s m meth c args "WallDamp$Corners" b_Corners_add (some (.int)) 3 D aC A) : ∀ (w : x_W) (H : Heap) (locs : List Loc) (ls : Array Slot) (l0 : Nat), f_Corners_add_42 T w l0 = some q → x_H D x_cl x_FT aC ad T nx A w H → va_S A s.heap H locs → lv_has ls 3 [(0, .ref (ad l0))] → W p l e { frames := 0, cells := 0, slots := 0, locals := 0 } s m args below meth c H locs 0 0 (MQ below (x_Qc D aC ad T nx (some (.int q.1)) q.2 A) args s 0 0 A) (F0 m 42 ls []) := by
  obtain ⟨hx, hb, hr, hml, hown, hts, hlocks, hK, hA⟩ := id C0
  intro w H locs ls l0 hf hH hS hl
  unfold f_Corners_add_42 at hf
  refine lv_aload_n hx hb d_Corners_add_42 rfl (lv_at hl 0 rfl) ?_
  obtain ⟨_, e1, hf⟩ := x_b hf
  obtain ⟨n2, hT3⟩ := x_is_e e1
  refine x_get (C := "WallDamp$Corners") (F := F_Corners) (N := 4) hx hb hts i_Corners hown hK hH hT3 (by decide) rfl 3 (by decide) (hts _ m_50) (fun _ h9 => h9) (kd := (0, 28)) rfl rfl d_Corners_add_43 ?_
  cases hf
  exact W.iret hx hb hr (fun t ht hW => ⟨rfl, hS.F ht, by rw [ht]; exact hH.weaken (fun _ _ _ => trivial)⟩) hS.2.2 d_Corners_add_46
set_option maxHeartbeats 4000000 in
set_option maxRecDepth 100000 in
theorem k_Corners_add {p : Program} {l : Launch} {e : Env} {s : State} {m : MethodId} {args : Array Value} {below : List Frame} {meth : Method} {c : Code} {D : va_G} {aC : Nat → ClassId} {ad : Nat → Nat} {T : x_T} {nx : Nat} {A : Nat → Prop} {q : Int32 × x_W} (C0 : x_At p s m meth c args "WallDamp$Corners" b_Corners_add (some (.int)) 3 D aC A) : ∀ (w : x_W) (H : Heap) (locs : List Loc) (ls : Array Slot) (l0 : Nat) (l1 : Int32) (l2 : Int32), f_Corners_add T w l0 l1 l2 = some q → x_H D x_cl x_FT aC ad T nx A w H → va_S A s.heap H locs → lv_has ls 3 [(0, .ref (ad l0)), (1, .int l1), (2, .int l2)] → W p l e { frames := 0, cells := 0, slots := 0, locals := 0 } s m args below meth c H locs 0 0 (MQ below (x_Qc D aC ad T nx (some (.int q.1)) q.2 A) args s 0 0 A) (F0 m 0 ls []) := by
  obtain ⟨hx, hb, hr, hml, hown, hts, hlocks, hK, hA⟩ := id C0
  intro w H locs ls l0 l1 l2 hf hH hS hl
  unfold f_Corners_add at hf
  refine lv_aload_n hx hb d_Corners_add_0 rfl (lv_at hl 0 rfl) ?_
  obtain ⟨_, e1, hf⟩ := x_b hf
  obtain ⟨n2, hT3⟩ := x_is_e e1
  refine x_get (C := "WallDamp$Corners") (F := F_Corners) (N := 4) hx hb hts i_Corners hown hK hH hT3 (by decide) rfl 3 (by decide) (hts _ m_50) (fun _ h9 => h9) (kd := (0, 28)) rfl rfl d_Corners_add_1 ?_
  refine lv_aload_n hx hb d_Corners_add_4 rfl (lv_at hl 0 rfl) ?_
  obtain ⟨a4, e5, hf⟩ := x_b hf
  refine x_get (C := "WallDamp$Corners") (F := F_Corners) (N := 4) hx hb hts i_Corners hown hK hH hT3 (by decide) rfl 0 (by decide) (hts _ m_47) (fun _ h9 => h9) (kd := (2, 25)) rfl (x_fr e5) d_Corners_add_5 ?_
  obtain ⟨n6, e7, hf⟩ := x_b hf
  refine x_alen hx hb hK hH (x_len_e e7) (by decide) 0 rfl d_Corners_add_8 ?_
  refine lv_icmp_ge (tgt := 42) hx hb d_Corners_add_9 (by decide) (fun c8 => ?_) (fun c8 => ?_)
  · have hf := x_it hf c8
    exact k_Corners_add_42 C0 w _ _ _ l0 hf hH hS (lv_sub hl [0] rfl)
  · have hf := x_if hf c8
    refine lv_aload_n hx hb d_Corners_add_12 rfl (lv_at hl 0 rfl) ?_
    obtain ⟨a9, e10, hf⟩ := x_b hf
    refine x_get (C := "WallDamp$Corners") (F := F_Corners) (N := 4) hx hb hts i_Corners hown hK hH hT3 (by decide) rfl 0 (by decide) (hts _ m_47) (fun _ h9 => h9) (kd := (2, 25)) rfl (x_fr e10) d_Corners_add_13 ?_
    refine lv_aload_n hx hb d_Corners_add_16 rfl (lv_at hl 0 rfl) ?_
    refine x_get (C := "WallDamp$Corners") (F := F_Corners) (N := 4) hx hb hts i_Corners hown hK hH hT3 (by decide) rfl 3 (by decide) (hts _ m_50) (fun _ h9 => h9) (kd := (0, 28)) rfl rfl d_Corners_add_17 ?_
    refine lv_iload_n hx hb d_Corners_add_20 rfl (lv_at hl 1 rfl) ?_
    obtain ⟨_, e11, hf⟩ := x_b hf
    obtain ⟨n12, hT13, hi14⟩ := x_ix_e e11
    refine x_iast hx hb hK hH hS hT13 0 rfl hi14 d_Corners_add_21 (fun H locs hH hS => ?_)
    obtain ⟨w15, e16, hf⟩ := x_b hf
    have hH := x_nw e16 hH
    refine lv_aload_n hx hb d_Corners_add_22 rfl (lv_at hl 0 rfl) ?_
    obtain ⟨a17, e18, hf⟩ := x_b hf
    refine x_get (C := "WallDamp$Corners") (F := F_Corners) (N := 4) hx hb hts i_Corners hown hK hH hT3 (by decide) rfl 1 (by decide) (hts _ m_48) (fun _ h9 => h9) (kd := (2, 26)) rfl (x_fr e18) d_Corners_add_23 ?_
    refine lv_aload_n hx hb d_Corners_add_26 rfl (lv_at hl 0 rfl) ?_
    refine x_get (C := "WallDamp$Corners") (F := F_Corners) (N := 4) hx hb hts i_Corners hown hK hH hT3 (by decide) rfl 3 (by decide) (hts _ m_50) (fun _ h9 => h9) (kd := (0, 28)) rfl rfl d_Corners_add_27 ?_
    refine lv_iload_n hx hb d_Corners_add_30 rfl (lv_at hl 2 rfl) ?_
    obtain ⟨_, e19, hf⟩ := x_b hf
    obtain ⟨n20, hT21, hi22⟩ := x_ix_e e19
    refine x_iast hx hb hK hH hS hT21 0 rfl hi22 d_Corners_add_31 (fun H locs hH hS => ?_)
    obtain ⟨w23, e24, hf⟩ := x_b hf
    have hH := x_nw e24 hH
    refine lv_aload_n hx hb d_Corners_add_32 rfl (lv_at hl 0 rfl) ?_
    refine lv_dup hx hb d_Corners_add_33 rfl ?_
    refine x_get (C := "WallDamp$Corners") (F := F_Corners) (N := 4) hx hb hts i_Corners hown hK hH hT3 (by decide) rfl 3 (by decide) (hts _ m_50) (fun _ h9 => h9) (kd := (0, 28)) rfl rfl d_Corners_add_34 ?_
    refine lv_iconst (v := 1) hx hb d_Corners_add_37 (by decide) ?_
    refine lv_iadd hx hb d_Corners_add_38 ?_
    refine x_put (C := "WallDamp$Corners") (F := F_Corners) (N := 4) (ty := t_Corners 3) (v := .int ((x_I w23 28 l0) + (1 : Int32))) (w' := x_sI w23 28 l0 ((x_I w23 28 l0) + (1 : Int32))) hx hb hts i_Corners t_Corners ty_Corners n_Corners hown hK hH hS hT3 (by decide) rfl rfl 3 (by decide) (hts _ m_50) (fun _ h9 => h9) rfl (ty_Corners 3 (by decide)) rfl rfl (x_on_I hT3 (by decide) rfl nd_Corners) (fun j hj => x_off_I hj) (fun hh ok => x_ok_I hh ok) d_Corners_add_39 (fun H locs hH hS => ?_)
    obtain ⟨w25, e26, hf⟩ := x_b hf
    have hH := x_nw e26 hH
    exact k_Corners_add_42 C0 w25 _ _ _ l0 hf hH hS (lv_sub hl [0] rfl)
theorem c_Corners_add (l : Launch) (D : va_G) (aC : Nat → ClassId) (ad : Nat → Nat) (T : x_T) (nx sz : Nat) (w : x_W) (a0 : Nat) (a1 : Int32) (a2 : Int32) (q : Int32 × x_W) (hf : f_Corners_add T w a0 a1 a2 = some q) : Met l y_Corners_add ws_Corners_add { frames := 0, cells := 0, slots := 0, locals := 0 } (x_Pc D aC ad T nx sz w [.ref (ad a0), .int a1, .int a2]) (x_Qc D aC ad T nx (some (.int q.1)) q.2 (x_dom ad nx sz)) 0 0 (x_dom ad nx sz) :=
  x_met [(0, .ref (ad a0)), (1, .int a1), (2, .int a2)] (plainFor_of_name (by decide)) rfl rfl (Nat.le_of_ble_eq_true rfl) (fun p e s m args below meth c ls C0 hH hS hl => k_Corners_add C0 w _ _ _ a0 a1 a2 hf hH hS (lv_sub hl [0, 1, 2] rfl))
/-! WallDamp$Corners.heightAt(I)I -/
def f_Corners_heightAt_112 (T : x_T) (K28 : x_W → Nat → Int32 → Int32 → Option (Int32 × x_W)) (w : x_W) (l0 : Nat) (l1 : Int32) (l2 : Int32) : Option (Int32 × x_W) :=
  K28 w l0 l1 (l2 + 1)
def f_Corners_heightAt_28 (T : x_T) : Nat → x_W → Nat → Int32 → Int32 → Option (Int32 × x_W)
  | 0, _, _, _, _ => none
  | n + 1, w, l0, l1, l2 =>
    (x_is T l0 3).bind fun _ =>
    if (x_I w 28 l0) ≤ l2 then
      ((x_R w 26 l0).bind fun a5 =>
      (x_ix T a5 100 ((x_I w 28 l0) - (1 : Int32))).bind fun _ =>
      some ((x_A w a5 ((x_I w 28 l0) - (1 : Int32)).toNatClampNeg), w))
    else
      ((x_R w 25 l0).bind fun a11 =>
      (x_ix T a11 100 l2).bind fun _ =>
      (x_R w 25 l0).bind fun a17 =>
      (x_ix T a17 100 (l2 - (1 : Int32))).bind fun _ =>
      (some (((x_A w a11 l2.toNatClampNeg) - (x_A w a17 (l2 - (1 : Int32)).toNatClampNeg)))).bind fun v23 =>
      (x_R w 25 l0).bind fun a25 =>
      (x_ix T a25 100 l2).bind fun _ =>
      if (x_A w a25 l2.toNatClampNeg) < l1 then
        (f_Corners_heightAt_112 T (f_Corners_heightAt_28 T n) w l0 l1 l2)
      else
        (if v23 ≤ 0 then
          (f_Corners_heightAt_112 T (f_Corners_heightAt_28 T n) w l0 l1 l2)
        else
          ((x_R w 26 l0).bind fun a33 =>
          (x_ix T a33 100 l2).bind fun _ =>
          (x_R w 26 l0).bind fun a39 =>
          (x_ix T a39 100 (l2 - (1 : Int32))).bind fun _ =>
          (x_R w 25 l0).bind fun a45 =>
          (x_ix T a45 100 (l2 - (1 : Int32))).bind fun _ =>
          (some (((((x_A w a33 l2.toNatClampNeg) - (x_A w a39 (l2 - (1 : Int32)).toNatClampNeg)).toInt64) * ((l1 - (x_A w a45 (l2 - (1 : Int32)).toNatClampNeg)).toInt64)))).bind fun v51 =>
          (x_R w 26 l0).bind fun a53 =>
          (x_ix T a53 100 (l2 - (1 : Int32))).bind fun _ =>
          (x_nzl (v23.toInt64)).bind fun _ =>
          some (((x_A w a53 (l2 - (1 : Int32)).toNatClampNeg) + ((v51 / (v23.toInt64)).toInt32)), w))))
def f_Corners_heightAt (T : x_T) (w : x_W) (l0 : Nat) (l1 : Int32) : Option (Int32 × x_W) :=
  (x_is T l0 3).bind fun _ =>
  if (x_I w 28 l0) = 0 then
    (some ((0 : Int32), w))
  else
    ((x_R w 25 l0).bind fun a5 =>
    (x_ix T a5 100 (0 : Int32)).bind fun _ =>
    if (x_A w a5 (0 : Int32).toNatClampNeg) < l1 then
      (f_Corners_heightAt_28 T 1000 w l0 l1 (1 : Int32))
    else
      ((x_R w 26 l0).bind fun a12 =>
      (x_ix T a12 100 (0 : Int32)).bind fun _ =>
      some ((x_A w a12 (0 : Int32).toNatClampNeg), w)))
set_option maxHeartbeats 4000000 in
set_option maxRecDepth 100000 in
theorem k_Corners_heightAt_112 {p : Program} {l : Launch} {e : Env} {s : State} {m : MethodId} {args : Array Value} {below : List Frame} {meth : Method} {c : Code} {D : va_G} {aC : Nat → ClassId} {ad : Nat → Nat} {T : x_T} {nx : Nat} {A : Nat → Prop} {q : Int32 × x_W} (C0 : x_At p s m meth c args "WallDamp$Corners" b_Corners_heightAt (some (.int)) 6 D aC A) {K28 : x_W → Nat → Int32 → Int32 → Option (Int32 × x_W)} (hK28 : ∀ (w : x_W) (H : Heap) (locs : List Loc) (ls : Array Slot) (l0 : Nat) (l1 : Int32) (l2 : Int32), K28 w l0 l1 l2 = some q → x_H D x_cl x_FT aC ad T nx A w H → va_S A s.heap H locs → lv_has ls 6 [(0, .ref (ad l0)), (1, .int l1), (2, .int l2)] → W p l e { frames := 0, cells := 0, slots := 0, locals := 0 } s m args below meth c H locs 0 0 (MQ below (x_Qc D aC ad T nx (some (.int q.1)) q.2 A) args s 0 0 A) (F0 m 28 ls [])) : ∀ (w : x_W) (H : Heap) (locs : List Loc) (ls : Array Slot) (l0 : Nat) (l1 : Int32) (l2 : Int32), f_Corners_heightAt_112 T K28 w l0 l1 l2 = some q → x_H D x_cl x_FT aC ad T nx A w H → va_S A s.heap H locs → lv_has ls 6 [(0, .ref (ad l0)), (1, .int l1), (2, .int l2)] → W p l e { frames := 0, cells := 0, slots := 0, locals := 0 } s m args below meth c H locs 0 0 (MQ below (x_Qc D aC ad T nx (some (.int q.1)) q.2 A) args s 0 0 A) (F0 m 112 ls []) := by
  obtain ⟨hx, hb, hr, hml, hown, hts, hlocks, hK, hA⟩ := id C0
  intro w H locs ls l0 l1 l2 hf hH hS hl
  unfold f_Corners_heightAt_112 at hf
  refine lv_iinc (v := (l2 + 1)) (lv' := [(2, .int (l2 + 1)), (0, .ref (ad l0)), (1, .int l1)]) hx hb d_Corners_heightAt_112 hl (k := 2) rfl rfl (by decide) rfl (fun ls hl => ?_)
  refine lv_goto (tgt := 28) hx hb d_Corners_heightAt_115 (by decide) ?_
  exact hK28 w _ _ _ l0 l1 (l2 + 1) hf hH hS (lv_sub hl [1, 2, 0] rfl)
set_option maxHeartbeats 4000000 in
set_option maxRecDepth 100000 in
theorem k_Corners_heightAt_28 {p : Program} {l : Launch} {e : Env} {s : State} {m : MethodId} {args : Array Value} {below : List Frame} {meth : Method} {c : Code} {D : va_G} {aC : Nat → ClassId} {ad : Nat → Nat} {T : x_T} {nx : Nat} {A : Nat → Prop} {q : Int32 × x_W} (C0 : x_At p s m meth c args "WallDamp$Corners" b_Corners_heightAt (some (.int)) 6 D aC A) : ∀ (n : Nat), ∀ (w : x_W) (H : Heap) (locs : List Loc) (ls : Array Slot) (l0 : Nat) (l1 : Int32) (l2 : Int32), f_Corners_heightAt_28 T n w l0 l1 l2 = some q → x_H D x_cl x_FT aC ad T nx A w H → va_S A s.heap H locs → lv_has ls 6 [(0, .ref (ad l0)), (1, .int l1), (2, .int l2)] → W p l e { frames := 0, cells := 0, slots := 0, locals := 0 } s m args below meth c H locs 0 0 (MQ below (x_Qc D aC ad T nx (some (.int q.1)) q.2 A) args s 0 0 A) (F0 m 28 ls []) := by
  obtain ⟨hx, hb, hr, hml, hown, hts, hlocks, hK, hA⟩ := id C0
  intro n
  induction n with
  | zero => intro w H locs ls l0 l1 l2 hf; cases (show none = some q from hf)
  | succ n ih =>
    intro w H locs ls l0 l1 l2 hf hH hS hl
    unfold f_Corners_heightAt_28 at hf
    refine lv_iload_n hx hb d_Corners_heightAt_28 rfl (lv_at hl 2 rfl) ?_
    refine lv_aload_n hx hb d_Corners_heightAt_29 rfl (lv_at hl 0 rfl) ?_
    obtain ⟨_, e1, hf⟩ := x_b hf
    obtain ⟨n2, hT3⟩ := x_is_e e1
    refine x_get (C := "WallDamp$Corners") (F := F_Corners) (N := 4) hx hb hts i_Corners hown hK hH hT3 (by decide) rfl 3 (by decide) (hts _ m_50) (fun _ h9 => h9) (kd := (0, 28)) rfl rfl d_Corners_heightAt_30 ?_
    refine lv_icmp_ge (tgt := 118) hx hb d_Corners_heightAt_33 (by decide) (fun c4 => ?_) (fun c4 => ?_)
    · have hf := x_it hf c4
      refine lv_aload_n hx hb d_Corners_heightAt_118 rfl (lv_at hl 0 rfl) ?_
      obtain ⟨a5, e6, hf⟩ := x_b hf
      refine x_get (C := "WallDamp$Corners") (F := F_Corners) (N := 4) hx hb hts i_Corners hown hK hH hT3 (by decide) rfl 1 (by decide) (hts _ m_48) (fun _ h9 => h9) (kd := (2, 26)) rfl (x_fr e6) d_Corners_heightAt_119 ?_
      refine lv_aload_n hx hb d_Corners_heightAt_122 rfl (lv_at hl 0 rfl) ?_
      refine x_get (C := "WallDamp$Corners") (F := F_Corners) (N := 4) hx hb hts i_Corners hown hK hH hT3 (by decide) rfl 3 (by decide) (hts _ m_50) (fun _ h9 => h9) (kd := (0, 28)) rfl rfl d_Corners_heightAt_123 ?_
      refine lv_iconst (v := 1) hx hb d_Corners_heightAt_126 (by decide) ?_
      refine lv_isub hx hb d_Corners_heightAt_127 ?_
      obtain ⟨_, e7, hf⟩ := x_b hf
      obtain ⟨n8, hT9, hi10⟩ := x_ix_e e7
      refine x_iald hx hb hK hH hT9 0 rfl hi10 d_Corners_heightAt_128 ?_
      cases hf
      exact W.iret hx hb hr (fun t ht hW => ⟨rfl, hS.F ht, by rw [ht]; exact hH.weaken (fun _ _ _ => trivial)⟩) hS.2.2 d_Corners_heightAt_129
    · have hf := x_if hf c4
      refine lv_aload_n hx hb d_Corners_heightAt_36 rfl (lv_at hl 0 rfl) ?_
      obtain ⟨a11, e12, hf⟩ := x_b hf
      refine x_get (C := "WallDamp$Corners") (F := F_Corners) (N := 4) hx hb hts i_Corners hown hK hH hT3 (by decide) rfl 0 (by decide) (hts _ m_47) (fun _ h9 => h9) (kd := (2, 25)) rfl (x_fr e12) d_Corners_heightAt_37 ?_
      refine lv_iload_n hx hb d_Corners_heightAt_40 rfl (lv_at hl 2 rfl) ?_
      obtain ⟨_, e13, hf⟩ := x_b hf
      obtain ⟨n14, hT15, hi16⟩ := x_ix_e e13
      refine x_iald hx hb hK hH hT15 0 rfl hi16 d_Corners_heightAt_41 ?_
      refine lv_aload_n hx hb d_Corners_heightAt_42 rfl (lv_at hl 0 rfl) ?_
      obtain ⟨a17, e18, hf⟩ := x_b hf
      refine x_get (C := "WallDamp$Corners") (F := F_Corners) (N := 4) hx hb hts i_Corners hown hK hH hT3 (by decide) rfl 0 (by decide) (hts _ m_47) (fun _ h9 => h9) (kd := (2, 25)) rfl (x_fr e18) d_Corners_heightAt_43 ?_
      refine lv_iload_n hx hb d_Corners_heightAt_46 rfl (lv_at hl 2 rfl) ?_
      refine lv_iconst (v := 1) hx hb d_Corners_heightAt_47 (by decide) ?_
      refine lv_isub hx hb d_Corners_heightAt_48 ?_
      obtain ⟨_, e19, hf⟩ := x_b hf
      obtain ⟨n20, hT21, hi22⟩ := x_ix_e e19
      refine x_iald hx hb hK hH hT21 0 rfl hi22 d_Corners_heightAt_49 ?_
      refine lv_isub hx hb d_Corners_heightAt_50 ?_
      obtain ⟨v23, e24, hf⟩ := x_b hf
      refine x_nmi e24 ?_
      refine lv_istore_n (lv' := [(3, .int v23), (0, .ref (ad l0)), (1, .int l1), (2, .int l2)]) hx hb d_Corners_heightAt_51 rfl hl (by decide) rfl (fun ls hl => ?_)
      refine lv_iload_n hx hb d_Corners_heightAt_52 rfl (lv_at hl 2 rfl) ?_
      refine lv_aload_n hx hb d_Corners_heightAt_53 rfl (lv_at hl 1 rfl) ?_
      obtain ⟨a25, e26, hf⟩ := x_b hf
      refine x_get (C := "WallDamp$Corners") (F := F_Corners) (N := 4) hx hb hts i_Corners hown hK hH hT3 (by decide) rfl 0 (by decide) (hts _ m_47) (fun _ h9 => h9) (kd := (2, 25)) rfl (x_fr e26) d_Corners_heightAt_54 ?_
      refine lv_iload_n hx hb d_Corners_heightAt_57 rfl (lv_at hl 3 rfl) ?_
      obtain ⟨_, e27, hf⟩ := x_b hf
      obtain ⟨n28, hT29, hi30⟩ := x_ix_e e27
      refine x_iald hx hb hK hH hT29 0 rfl hi30 d_Corners_heightAt_58 ?_
      refine lv_icmp_gt (tgt := 112) hx hb d_Corners_heightAt_59 (by decide) (fun c31 => ?_) (fun c31 => ?_)
      · have hf := x_it hf c31
        exact k_Corners_heightAt_112 C0 ih w _ _ _ l0 l1 l2 hf hH hS (lv_sub hl [1, 2, 3] rfl)
      · have hf := x_if hf c31
        refine lv_iload_n hx hb d_Corners_heightAt_62 rfl (lv_at hl 0 rfl) ?_
        refine lv_if_le (tgt := 112) hx hb d_Corners_heightAt_63 (by decide) (fun c32 => ?_) (fun c32 => ?_)
        · have hf := x_it hf c32
          exact k_Corners_heightAt_112 C0 ih w _ _ _ l0 l1 l2 hf hH hS (lv_sub hl [1, 2, 3] rfl)
        · have hf := x_if hf c32
          refine lv_aload_n hx hb d_Corners_heightAt_66 rfl (lv_at hl 1 rfl) ?_
          obtain ⟨a33, e34, hf⟩ := x_b hf
          refine x_get (C := "WallDamp$Corners") (F := F_Corners) (N := 4) hx hb hts i_Corners hown hK hH hT3 (by decide) rfl 1 (by decide) (hts _ m_48) (fun _ h9 => h9) (kd := (2, 26)) rfl (x_fr e34) d_Corners_heightAt_67 ?_
          refine lv_iload_n hx hb d_Corners_heightAt_70 rfl (lv_at hl 3 rfl) ?_
          obtain ⟨_, e35, hf⟩ := x_b hf
          obtain ⟨n36, hT37, hi38⟩ := x_ix_e e35
          refine x_iald hx hb hK hH hT37 0 rfl hi38 d_Corners_heightAt_71 ?_
          refine lv_aload_n hx hb d_Corners_heightAt_72 rfl (lv_at hl 1 rfl) ?_
          obtain ⟨a39, e40, hf⟩ := x_b hf
          refine x_get (C := "WallDamp$Corners") (F := F_Corners) (N := 4) hx hb hts i_Corners hown hK hH hT3 (by decide) rfl 1 (by decide) (hts _ m_48) (fun _ h9 => h9) (kd := (2, 26)) rfl (x_fr e40) d_Corners_heightAt_73 ?_
          refine lv_iload_n hx hb d_Corners_heightAt_76 rfl (lv_at hl 3 rfl) ?_
          refine lv_iconst (v := 1) hx hb d_Corners_heightAt_77 (by decide) ?_
          refine lv_isub hx hb d_Corners_heightAt_78 ?_
          obtain ⟨_, e41, hf⟩ := x_b hf
          obtain ⟨n42, hT43, hi44⟩ := x_ix_e e41
          refine x_iald hx hb hK hH hT43 0 rfl hi44 d_Corners_heightAt_79 ?_
          refine lv_isub hx hb d_Corners_heightAt_80 ?_
          refine lv_i2l (v := ((x_A w a33 l2.toNatClampNeg) - (x_A w a39 (l2 - (1 : Int32)).toNatClampNeg)).toInt64) hx hb d_Corners_heightAt_81 rfl ?_
          refine lv_iload_n hx hb d_Corners_heightAt_82 rfl (lv_at hl 2 rfl) ?_
          refine lv_aload_n hx hb d_Corners_heightAt_83 rfl (lv_at hl 1 rfl) ?_
          obtain ⟨a45, e46, hf⟩ := x_b hf
          refine x_get (C := "WallDamp$Corners") (F := F_Corners) (N := 4) hx hb hts i_Corners hown hK hH hT3 (by decide) rfl 0 (by decide) (hts _ m_47) (fun _ h9 => h9) (kd := (2, 25)) rfl (x_fr e46) d_Corners_heightAt_84 ?_
          refine lv_iload_n hx hb d_Corners_heightAt_87 rfl (lv_at hl 3 rfl) ?_
          refine lv_iconst (v := 1) hx hb d_Corners_heightAt_88 (by decide) ?_
          refine lv_isub hx hb d_Corners_heightAt_89 ?_
          obtain ⟨_, e47, hf⟩ := x_b hf
          obtain ⟨n48, hT49, hi50⟩ := x_ix_e e47
          refine x_iald hx hb hK hH hT49 0 rfl hi50 d_Corners_heightAt_90 ?_
          refine lv_isub hx hb d_Corners_heightAt_91 ?_
          refine lv_i2l (v := (l1 - (x_A w a45 (l2 - (1 : Int32)).toNatClampNeg)).toInt64) hx hb d_Corners_heightAt_92 rfl ?_
          refine lv_lmul hx hb d_Corners_heightAt_93 ?_
          obtain ⟨v51, e52, hf⟩ := x_b hf
          refine x_nml e52 ?_
          refine lv_lstore (lv' := [(4, .long v51), (3, .int v23), (0, .ref (ad l0)), (1, .int l1), (2, .int l2)]) hx hb d_Corners_heightAt_94 hl (by decide) rfl (fun ls hl => ?_)
          refine lv_aload_n hx hb d_Corners_heightAt_96 rfl (lv_at hl 2 rfl) ?_
          obtain ⟨a53, e54, hf⟩ := x_b hf
          refine x_get (C := "WallDamp$Corners") (F := F_Corners) (N := 4) hx hb hts i_Corners hown hK hH hT3 (by decide) rfl 1 (by decide) (hts _ m_48) (fun _ h9 => h9) (kd := (2, 26)) rfl (x_fr e54) d_Corners_heightAt_97 ?_
          refine lv_iload_n hx hb d_Corners_heightAt_100 rfl (lv_at hl 4 rfl) ?_
          refine lv_iconst (v := 1) hx hb d_Corners_heightAt_101 (by decide) ?_
          refine lv_isub hx hb d_Corners_heightAt_102 ?_
          obtain ⟨_, e55, hf⟩ := x_b hf
          obtain ⟨n56, hT57, hi58⟩ := x_ix_e e55
          refine x_iald hx hb hK hH hT57 0 rfl hi58 d_Corners_heightAt_103 ?_
          refine lv_lload hx hb d_Corners_heightAt_104 (lv_at hl 0 rfl) ?_
          refine lv_iload_n hx hb d_Corners_heightAt_106 rfl (lv_at hl 1 rfl) ?_
          refine lv_i2l (v := v23.toInt64) hx hb d_Corners_heightAt_107 rfl ?_
          obtain ⟨_, e59, hf⟩ := x_b hf
          refine lv_ldiv hx hb d_Corners_heightAt_108 (x_nzl_e e59) ?_
          refine lv_l2i (v := (v51 / (v23.toInt64)).toInt32) hx hb d_Corners_heightAt_109 rfl ?_
          refine lv_iadd hx hb d_Corners_heightAt_110 ?_
          cases hf
          exact W.iret hx hb hr (fun t ht hW => ⟨rfl, hS.F ht, by rw [ht]; exact hH.weaken (fun _ _ _ => trivial)⟩) hS.2.2 d_Corners_heightAt_111
set_option maxHeartbeats 4000000 in
set_option maxRecDepth 100000 in
theorem k_Corners_heightAt {p : Program} {l : Launch} {e : Env} {s : State} {m : MethodId} {args : Array Value} {below : List Frame} {meth : Method} {c : Code} {D : va_G} {aC : Nat → ClassId} {ad : Nat → Nat} {T : x_T} {nx : Nat} {A : Nat → Prop} {q : Int32 × x_W} (C0 : x_At p s m meth c args "WallDamp$Corners" b_Corners_heightAt (some (.int)) 6 D aC A) : ∀ (w : x_W) (H : Heap) (locs : List Loc) (ls : Array Slot) (l0 : Nat) (l1 : Int32), f_Corners_heightAt T w l0 l1 = some q → x_H D x_cl x_FT aC ad T nx A w H → va_S A s.heap H locs → lv_has ls 6 [(0, .ref (ad l0)), (1, .int l1)] → W p l e { frames := 0, cells := 0, slots := 0, locals := 0 } s m args below meth c H locs 0 0 (MQ below (x_Qc D aC ad T nx (some (.int q.1)) q.2 A) args s 0 0 A) (F0 m 0 ls []) := by
  obtain ⟨hx, hb, hr, hml, hown, hts, hlocks, hK, hA⟩ := id C0
  intro w H locs ls l0 l1 hf hH hS hl
  unfold f_Corners_heightAt at hf
  refine lv_aload_n hx hb d_Corners_heightAt_0 rfl (lv_at hl 0 rfl) ?_
  obtain ⟨_, e1, hf⟩ := x_b hf
  obtain ⟨n2, hT3⟩ := x_is_e e1
  refine x_get (C := "WallDamp$Corners") (F := F_Corners) (N := 4) hx hb hts i_Corners hown hK hH hT3 (by decide) rfl 3 (by decide) (hts _ m_50) (fun _ h9 => h9) (kd := (0, 28)) rfl rfl d_Corners_heightAt_1 ?_
  refine lv_if_ne (tgt := 9) hx hb d_Corners_heightAt_4 (by decide) (fun c4 => ?_) (fun c4 => ?_)
  · have hf := x_if hf c4
    refine lv_iload_n hx hb d_Corners_heightAt_9 rfl (lv_at hl 1 rfl) ?_
    refine lv_aload_n hx hb d_Corners_heightAt_10 rfl (lv_at hl 0 rfl) ?_
    obtain ⟨a5, e6, hf⟩ := x_b hf
    refine x_get (C := "WallDamp$Corners") (F := F_Corners) (N := 4) hx hb hts i_Corners hown hK hH hT3 (by decide) rfl 0 (by decide) (hts _ m_47) (fun _ h9 => h9) (kd := (2, 25)) rfl (x_fr e6) d_Corners_heightAt_11 ?_
    refine lv_iconst (v := 0) hx hb d_Corners_heightAt_14 (by decide) ?_
    obtain ⟨_, e7, hf⟩ := x_b hf
    obtain ⟨n8, hT9, hi10⟩ := x_ix_e e7
    refine x_iald hx hb hK hH hT9 0 rfl hi10 d_Corners_heightAt_15 ?_
    refine lv_icmp_gt (tgt := 26) hx hb d_Corners_heightAt_16 (by decide) (fun c11 => ?_) (fun c11 => ?_)
    · have hf := x_it hf c11
      refine lv_iconst (v := 1) hx hb d_Corners_heightAt_26 (by decide) ?_
      refine lv_istore_n (lv' := [(2, .int (1 : Int32)), (0, .ref (ad l0)), (1, .int l1)]) hx hb d_Corners_heightAt_27 rfl hl (by decide) rfl (fun ls hl => ?_)
      exact k_Corners_heightAt_28 C0 1000 w _ _ _ l0 l1 (1 : Int32) hf hH hS (lv_sub hl [1, 2, 0] rfl)
    · have hf := x_if hf c11
      refine lv_aload_n hx hb d_Corners_heightAt_19 rfl (lv_at hl 0 rfl) ?_
      obtain ⟨a12, e13, hf⟩ := x_b hf
      refine x_get (C := "WallDamp$Corners") (F := F_Corners) (N := 4) hx hb hts i_Corners hown hK hH hT3 (by decide) rfl 1 (by decide) (hts _ m_48) (fun _ h9 => h9) (kd := (2, 26)) rfl (x_fr e13) d_Corners_heightAt_20 ?_
      refine lv_iconst (v := 0) hx hb d_Corners_heightAt_23 (by decide) ?_
      obtain ⟨_, e14, hf⟩ := x_b hf
      obtain ⟨n15, hT16, hi17⟩ := x_ix_e e14
      refine x_iald hx hb hK hH hT16 0 rfl hi17 d_Corners_heightAt_24 ?_
      cases hf
      exact W.iret hx hb hr (fun t ht hW => ⟨rfl, hS.F ht, by rw [ht]; exact hH.weaken (fun _ _ _ => trivial)⟩) hS.2.2 d_Corners_heightAt_25
  · have hf := x_it hf c4
    refine lv_iconst (v := 0) hx hb d_Corners_heightAt_7 (by decide) ?_
    cases hf
    exact W.iret hx hb hr (fun t ht hW => ⟨rfl, hS.F ht, by rw [ht]; exact hH.weaken (fun _ _ _ => trivial)⟩) hS.2.2 d_Corners_heightAt_8
theorem c_Corners_heightAt (l : Launch) (D : va_G) (aC : Nat → ClassId) (ad : Nat → Nat) (T : x_T) (nx sz : Nat) (w : x_W) (a0 : Nat) (a1 : Int32) (q : Int32 × x_W) (hf : f_Corners_heightAt T w a0 a1 = some q) : Met l y_Corners_heightAt ws_Corners_heightAt { frames := 0, cells := 0, slots := 0, locals := 0 } (x_Pc D aC ad T nx sz w [.ref (ad a0), .int a1]) (x_Qc D aC ad T nx (some (.int q.1)) q.2 (x_dom ad nx sz)) 0 0 (x_dom ad nx sz) :=
  x_met [(0, .ref (ad a0)), (1, .int a1)] (plainFor_of_name (by decide)) rfl rfl (Nat.le_of_ble_eq_true rfl) (fun p e s m args below meth c ls C0 hH hS hl => k_Corners_heightAt C0 w _ _ _ a0 a1 hf hH hS (lv_sub hl [0, 1] rfl))
end
