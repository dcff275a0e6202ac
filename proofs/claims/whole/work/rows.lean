section
-- ===== PART A: goes FIRST, ahead of the names: the tables' words, and 'selects' of the private methods out of them =====
/-- a private method of a class that the tables say can be made, by its rows of tables_1 -/
def lw_okq (q : MethodName × Nat) : Prop := (q.1.cls ≠ "java/lang/invoke/MethodHandle" ∧ q.1.cls ≠ "java/lang/invoke/VarHandle") ∧ Cond.instantiable q.1.cls q.2 ∈ tables_1 ∧ Cond.privateMethod q.1 ∈ tables_1 ∧ Cond.instanceMethod q.1 ∈ tables_1
theorem lw_p0 : lw_okq (⟨"WallDamp", "materialOf", "(I)LWallDamp$Material;"⟩, 8) := ⟨⟨by decide +kernel, by decide +kernel⟩, List.mem_of_getElem? (i := 20) (by decide +kernel), List.mem_of_getElem? (i := 387) (by decide +kernel), List.mem_of_getElem? (i := 388) (by decide +kernel)⟩
theorem lw_p1 : lw_okq (⟨"java/lang/Throwable", "fillInStackTrace", "(I)Ljava/lang/Throwable;"⟩, 6) := ⟨⟨by decide +kernel, by decide +kernel⟩, List.mem_of_getElem? (i := 431) (by decide +kernel), List.mem_of_getElem? (i := 429) (by decide +kernel), List.mem_of_getElem? (i := 430) (by decide +kernel)⟩
theorem lw_p2 : lw_okq (⟨"WallDamp", "requireNoHourOver", "()V"⟩, 8) := ⟨⟨by decide +kernel, by decide +kernel⟩, List.mem_of_getElem? (i := 20) (by decide +kernel), List.mem_of_getElem? (i := 462) (by decide +kernel), List.mem_of_getElem? (i := 463) (by decide +kernel)⟩
theorem lw_p3 : lw_okq (⟨"WallDamp", "cellAt", "(I)LWallDamp$Cell;"⟩, 8) := ⟨⟨by decide +kernel, by decide +kernel⟩, List.mem_of_getElem? (i := 20) (by decide +kernel), List.mem_of_getElem? (i := 505) (by decide +kernel), List.mem_of_getElem? (i := 506) (by decide +kernel)⟩
theorem lw_p4 : lw_okq (⟨"WallDamp", "passHour", "()V"⟩, 8) := ⟨⟨by decide +kernel, by decide +kernel⟩, List.mem_of_getElem? (i := 20) (by decide +kernel), List.mem_of_getElem? (i := 598) (by decide +kernel), List.mem_of_getElem? (i := 599) (by decide +kernel)⟩
theorem lw_p5 : lw_okq (⟨"WallDamp$Wall", "warmCells", "(LWallDamp$Surroundings;)V"⟩, 9) := ⟨⟨by decide +kernel, by decide +kernel⟩, List.mem_of_getElem? (i := 162) (by decide +kernel), List.mem_of_getElem? (i := 609) (by decide +kernel), List.mem_of_getElem? (i := 610) (by decide +kernel)⟩
theorem lw_p6 : lw_okq (⟨"WallDamp$Wall", "setAirFlows", "(I)V"⟩, 9) := ⟨⟨by decide +kernel, by decide +kernel⟩, List.mem_of_getElem? (i := 162) (by decide +kernel), List.mem_of_getElem? (i := 652) (by decide +kernel), List.mem_of_getElem? (i := 653) (by decide +kernel)⟩
theorem lw_p7 : lw_okq (⟨"WallDamp$Wall", "setFlowsBetween", "()V"⟩, 9) := ⟨⟨by decide +kernel, by decide +kernel⟩, List.mem_of_getElem? (i := 162) (by decide +kernel), List.mem_of_getElem? (i := 664) (by decide +kernel), List.mem_of_getElem? (i := 665) (by decide +kernel)⟩
theorem lw_p8 : lw_okq (⟨"WallDamp$Wall", "limitFlows", "()V"⟩, 9) := ⟨⟨by decide +kernel, by decide +kernel⟩, List.mem_of_getElem? (i := 162) (by decide +kernel), List.mem_of_getElem? (i := 669) (by decide +kernel), List.mem_of_getElem? (i := 670) (by decide +kernel)⟩
theorem lw_p9 : lw_okq (⟨"WallDamp$Flow", "portion", "(II)I"⟩, 5) := ⟨⟨by decide +kernel, by decide +kernel⟩, List.mem_of_getElem? (i := 275) (by decide +kernel), List.mem_of_getElem? (i := 681) (by decide +kernel), List.mem_of_getElem? (i := 682) (by decide +kernel)⟩
theorem lw_p10 : lw_okq (⟨"WallDamp", "growMould", "()V"⟩, 8) := ⟨⟨by decide +kernel, by decide +kernel⟩, List.mem_of_getElem? (i := 20) (by decide +kernel), List.mem_of_getElem? (i := 724) (by decide +kernel), List.mem_of_getElem? (i := 725) (by decide +kernel)⟩
theorem lw_p11 : lw_okq (⟨"WallDamp$Trials", "waterBehind", "(LWallDamp$Wall;LWallDamp$Surroundings;I)J"⟩, 3) := ⟨⟨by decide +kernel, by decide +kernel⟩, List.mem_of_getElem? (i := 329) (by decide +kernel), List.mem_of_getElem? (i := 766) (by decide +kernel), List.mem_of_getElem? (i := 767) (by decide +kernel)⟩
theorem lw_p12 : lw_okq (⟨"WallDamp$Trials", "keepRow", "(I)V"⟩, 3) := ⟨⟨by decide +kernel, by decide +kernel⟩, List.mem_of_getElem? (i := 329) (by decide +kernel), List.mem_of_getElem? (i := 776) (by decide +kernel), List.mem_of_getElem? (i := 777) (by decide +kernel)⟩
theorem lw_p13 : lw_okq (⟨"WallDamp$Trials", "stepRow", "(I)Z"⟩, 3) := ⟨⟨by decide +kernel, by decide +kernel⟩, List.mem_of_getElem? (i := 329) (by decide +kernel), List.mem_of_getElem? (i := 780) (by decide +kernel), List.mem_of_getElem? (i := 781) (by decide +kernel)⟩
theorem lw_p14 : lw_okq (⟨"WallDamp$Trials", "swap", "(II)V"⟩, 3) := ⟨⟨by decide +kernel, by decide +kernel⟩, List.mem_of_getElem? (i := 329) (by decide +kernel), List.mem_of_getElem? (i := 784) (by decide +kernel), List.mem_of_getElem? (i := 785) (by decide +kernel)⟩
theorem lw_p15 : lw_okq (⟨"WallDampModel", "most", "(I)I"⟩, 51) := ⟨⟨by decide +kernel, by decide +kernel⟩, List.mem_of_getElem? (i := 788) (by decide +kernel), List.mem_of_getElem? (i := 964) (by decide +kernel), List.mem_of_getElem? (i := 965) (by decide +kernel)⟩
def lw_privs_1 : List (MethodName × Nat) := [(⟨"WallDamp", "materialOf", "(I)LWallDamp$Material;"⟩, 8), (⟨"java/lang/Throwable", "fillInStackTrace", "(I)Ljava/lang/Throwable;"⟩, 6), (⟨"WallDamp", "requireNoHourOver", "()V"⟩, 8), (⟨"WallDamp", "cellAt", "(I)LWallDamp$Cell;"⟩, 8), (⟨"WallDamp", "passHour", "()V"⟩, 8), (⟨"WallDamp$Wall", "warmCells", "(LWallDamp$Surroundings;)V"⟩, 9), (⟨"WallDamp$Wall", "setAirFlows", "(I)V"⟩, 9), (⟨"WallDamp$Wall", "setFlowsBetween", "()V"⟩, 9), (⟨"WallDamp$Wall", "limitFlows", "()V"⟩, 9), (⟨"WallDamp$Flow", "portion", "(II)I"⟩, 5), (⟨"WallDamp", "growMould", "()V"⟩, 8), (⟨"WallDamp$Trials", "waterBehind", "(LWallDamp$Wall;LWallDamp$Surroundings;I)J"⟩, 3), (⟨"WallDamp$Trials", "keepRow", "(I)V"⟩, 3), (⟨"WallDamp$Trials", "stepRow", "(I)Z"⟩, 3), (⟨"WallDamp$Trials", "swap", "(II)V"⟩, 3), (⟨"WallDampModel", "most", "(I)I"⟩, 51)]
theorem lw_r1 : ∀ q ∈ lw_privs_1, lw_okq q := List.forall_mem_cons.mpr ⟨lw_p0, List.forall_mem_cons.mpr ⟨lw_p1, List.forall_mem_cons.mpr ⟨lw_p2, List.forall_mem_cons.mpr ⟨lw_p3, List.forall_mem_cons.mpr ⟨lw_p4, List.forall_mem_cons.mpr ⟨lw_p5, List.forall_mem_cons.mpr ⟨lw_p6, List.forall_mem_cons.mpr ⟨lw_p7, List.forall_mem_cons.mpr ⟨lw_p8, List.forall_mem_cons.mpr ⟨lw_p9, List.forall_mem_cons.mpr ⟨lw_p10, List.forall_mem_cons.mpr ⟨lw_p11, List.forall_mem_cons.mpr ⟨lw_p12, List.forall_mem_cons.mpr ⟨lw_p13, List.forall_mem_cons.mpr ⟨lw_p14, List.forall_mem_cons.mpr ⟨lw_p15, fun _ h => absurd h List.not_mem_nil⟩⟩⟩⟩⟩⟩⟩⟩⟩⟩⟩⟩⟩⟩⟩⟩
theorem lw_p16 : lw_okq (⟨"WallDampModel", "isCell", "(I)Z"⟩, 51) := ⟨⟨by decide +kernel, by decide +kernel⟩, List.mem_of_getElem? (i := 788) (by decide +kernel), List.mem_of_getElem? (i := 977) (by decide +kernel), List.mem_of_getElem? (i := 978) (by decide +kernel)⟩
theorem lw_p17 : lw_okq (⟨"WallDampModel", "fullAt", "(I)I"⟩, 51) := ⟨⟨by decide +kernel, by decide +kernel⟩, List.mem_of_getElem? (i := 788) (by decide +kernel), List.mem_of_getElem? (i := 991) (by decide +kernel), List.mem_of_getElem? (i := 992) (by decide +kernel)⟩
theorem lw_p18 : lw_okq (⟨"WallDampModel", "hour", "(I)V"⟩, 51) := ⟨⟨by decide +kernel, by decide +kernel⟩, List.mem_of_getElem? (i := 788) (by decide +kernel), List.mem_of_getElem? (i := 1026) (by decide +kernel), List.mem_of_getElem? (i := 1027) (by decide +kernel)⟩
theorem lw_p19 : lw_okq (⟨"WallDampModel", "warm", "(I)V"⟩, 51) := ⟨⟨by decide +kernel, by decide +kernel⟩, List.mem_of_getElem? (i := 788) (by decide +kernel), List.mem_of_getElem? (i := 1030) (by decide +kernel), List.mem_of_getElem? (i := 1031) (by decide +kernel)⟩
theorem lw_p20 : lw_okq (⟨"WallDampModel", "resistance", "(I)I"⟩, 51) := ⟨⟨by decide +kernel, by decide +kernel⟩, List.mem_of_getElem? (i := 788) (by decide +kernel), List.mem_of_getElem? (i := 1035) (by decide +kernel), List.mem_of_getElem? (i := 1036) (by decide +kernel)⟩
theorem lw_p21 : lw_okq (⟨"WallDampModel", "flow", "(I)V"⟩, 51) := ⟨⟨by decide +kernel, by decide +kernel⟩, List.mem_of_getElem? (i := 788) (by decide +kernel), List.mem_of_getElem? (i := 1042) (by decide +kernel), List.mem_of_getElem? (i := 1043) (by decide +kernel)⟩
theorem lw_p22 : lw_okq (⟨"WallDampModel", "dampOf", "(I)I"⟩, 51) := ⟨⟨by decide +kernel, by decide +kernel⟩, List.mem_of_getElem? (i := 788) (by decide +kernel), List.mem_of_getElem? (i := 1046) (by decide +kernel), List.mem_of_getElem? (i := 1047) (by decide +kernel)⟩
theorem lw_p23 : lw_okq (⟨"WallDampModel", "move", "()V"⟩, 51) := ⟨⟨by decide +kernel, by decide +kernel⟩, List.mem_of_getElem? (i := 788) (by decide +kernel), List.mem_of_getElem? (i := 1054) (by decide +kernel), List.mem_of_getElem? (i := 1055) (by decide +kernel)⟩
theorem lw_p24 : lw_okq (⟨"WallDampModel", "lessenLeaving", "(I)V"⟩, 51) := ⟨⟨by decide +kernel, by decide +kernel⟩, List.mem_of_getElem? (i := 788) (by decide +kernel), List.mem_of_getElem? (i := 1058) (by decide +kernel), List.mem_of_getElem? (i := 1059) (by decide +kernel)⟩
theorem lw_p25 : lw_okq (⟨"WallDampModel", "lessenComing", "(I)V"⟩, 51) := ⟨⟨by decide +kernel, by decide +kernel⟩, List.mem_of_getElem? (i := 788) (by decide +kernel), List.mem_of_getElem? (i := 1062) (by decide +kernel), List.mem_of_getElem? (i := 1063) (by decide +kernel)⟩
theorem lw_p26 : lw_okq (⟨"WallDampModel", "frostAndMould", "()V"⟩, 51) := ⟨⟨by decide +kernel, by decide +kernel⟩, List.mem_of_getElem? (i := 788) (by decide +kernel), List.mem_of_getElem? (i := 1066) (by decide +kernel), List.mem_of_getElem? (i := 1067) (by decide +kernel)⟩
theorem lw_p27 : lw_okq (⟨"WallDampModel", "allWater", "()J"⟩, 51) := ⟨⟨by decide +kernel, by decide +kernel⟩, List.mem_of_getElem? (i := 788) (by decide +kernel), List.mem_of_getElem? (i := 1079) (by decide +kernel), List.mem_of_getElem? (i := 1080) (by decide +kernel)⟩
theorem lw_p28 : lw_okq (⟨"WallDampModel", "keep", "()[J"⟩, 51) := ⟨⟨by decide +kernel, by decide +kernel⟩, List.mem_of_getElem? (i := 788) (by decide +kernel), List.mem_of_getElem? (i := 1092) (by decide +kernel), List.mem_of_getElem? (i := 1093) (by decide +kernel)⟩
theorem lw_p29 : lw_okq (⟨"WallDampModel", "dry", "(I)J"⟩, 51) := ⟨⟨by decide +kernel, by decide +kernel⟩, List.mem_of_getElem? (i := 788) (by decide +kernel), List.mem_of_getElem? (i := 1097) (by decide +kernel), List.mem_of_getElem? (i := 1098) (by decide +kernel)⟩
theorem lw_p30 : lw_okq (⟨"WallDampModel", "next", "()Z"⟩, 51) := ⟨⟨by decide +kernel, by decide +kernel⟩, List.mem_of_getElem? (i := 788) (by decide +kernel), List.mem_of_getElem? (i := 1101) (by decide +kernel), List.mem_of_getElem? (i := 1102) (by decide +kernel)⟩
def lw_privs_2 : List (MethodName × Nat) := [(⟨"WallDampModel", "isCell", "(I)Z"⟩, 51), (⟨"WallDampModel", "fullAt", "(I)I"⟩, 51), (⟨"WallDampModel", "hour", "(I)V"⟩, 51), (⟨"WallDampModel", "warm", "(I)V"⟩, 51), (⟨"WallDampModel", "resistance", "(I)I"⟩, 51), (⟨"WallDampModel", "flow", "(I)V"⟩, 51), (⟨"WallDampModel", "dampOf", "(I)I"⟩, 51), (⟨"WallDampModel", "move", "()V"⟩, 51), (⟨"WallDampModel", "lessenLeaving", "(I)V"⟩, 51), (⟨"WallDampModel", "lessenComing", "(I)V"⟩, 51), (⟨"WallDampModel", "frostAndMould", "()V"⟩, 51), (⟨"WallDampModel", "allWater", "()J"⟩, 51), (⟨"WallDampModel", "keep", "()[J"⟩, 51), (⟨"WallDampModel", "dry", "(I)J"⟩, 51), (⟨"WallDampModel", "next", "()Z"⟩, 51)]
theorem lw_r2 : ∀ q ∈ lw_privs_2, lw_okq q := List.forall_mem_cons.mpr ⟨lw_p16, List.forall_mem_cons.mpr ⟨lw_p17, List.forall_mem_cons.mpr ⟨lw_p18, List.forall_mem_cons.mpr ⟨lw_p19, List.forall_mem_cons.mpr ⟨lw_p20, List.forall_mem_cons.mpr ⟨lw_p21, List.forall_mem_cons.mpr ⟨lw_p22, List.forall_mem_cons.mpr ⟨lw_p23, List.forall_mem_cons.mpr ⟨lw_p24, List.forall_mem_cons.mpr ⟨lw_p25, List.forall_mem_cons.mpr ⟨lw_p26, List.forall_mem_cons.mpr ⟨lw_p27, List.forall_mem_cons.mpr ⟨lw_p28, List.forall_mem_cons.mpr ⟨lw_p29, List.forall_mem_cons.mpr ⟨lw_p30, fun _ h => absurd h List.not_mem_nil⟩⟩⟩⟩⟩⟩⟩⟩⟩⟩⟩⟩⟩⟩⟩
def lw_privs : List (MethodName × Nat) := lw_privs_1 ++ (lw_privs_2)
def lw_tbl : List Cond := k2_sels lw_privs ++ tables_1
theorem lw_privs_ok : ∀ q ∈ lw_privs, lw_okq q := by
  show ∀ q ∈ lw_privs_1 ++ (lw_privs_2), lw_okq q
  exact List.forall_mem_append.mpr ⟨lw_r1, lw_r2⟩
-- ===== end of PART A; then your names; then what follows =====
end
section
/-! THE WORLD OF HANDLES: fields are maps (field number, handle) to value; arrays are maps (handle, index) to value. -/
abbrev x_W : Type := (Nat → Nat → Int32) × (Nat → Nat → Int64) × (Nat → Nat → Option Nat) × (Nat → Nat → Int32) × (Nat → Nat → Int64) × (Nat → Nat → Option Nat)
abbrev x_T : Type := Nat → Option (Nat × Nat)
def x_u {α : Type} (f : Nat → Nat → α) (k a : Nat) (v : α) : Nat → Nat → α := fun k' a' => if k' = k then (if a' = a then v else f k' a') else f k' a'
theorem x_u_s {α : Type} {f : Nat → Nat → α} {k a : Nat} {v : α} : x_u f k a v k a = v := by simp [x_u]
theorem x_u_a {α : Type} {f : Nat → Nat → α} {k a a' : Nat} {v : α} (h : a' ≠ a) (k' : Nat) : x_u f k a v k' a' = f k' a' := by simp [x_u, h]
theorem x_u_k {α : Type} {f : Nat → Nat → α} {k a k' : Nat} {v : α} (h : k' ≠ k) (a' : Nat) : x_u f k a v k' a' = f k' a' := by simp [x_u, h]
def x_I (w : x_W) (k h : Nat) : Int32 := w.1 k h
def x_J (w : x_W) (k h : Nat) : Int64 := w.2.1 k h
def x_R (w : x_W) (k h : Nat) : Option Nat := w.2.2.1 k h
def x_A (w : x_W) (h i : Nat) : Int32 := w.2.2.2.1 h i
def x_B (w : x_W) (h i : Nat) : Int64 := w.2.2.2.2.1 h i
def x_Q (w : x_W) (h i : Nat) : Option Nat := w.2.2.2.2.2 h i
def x_sI (w : x_W) (k h : Nat) (v : Int32) : x_W := (x_u w.1 k h v, w.2)
def x_sJ (w : x_W) (k h : Nat) (v : Int64) : x_W := (w.1, x_u w.2.1 k h v, w.2.2)
def x_sR (w : x_W) (k h : Nat) (v : Option Nat) : x_W := (w.1, w.2.1, x_u w.2.2.1 k h v, w.2.2.2)
def x_sA (w : x_W) (h i : Nat) (v : Int32) : x_W := (w.1, w.2.1, w.2.2.1, x_u w.2.2.2.1 h i v, w.2.2.2.2)
def x_sB (w : x_W) (h i : Nat) (v : Int64) : x_W := (w.1, w.2.1, w.2.2.1, w.2.2.2.1, x_u w.2.2.2.2.1 h i v, w.2.2.2.2.2)
def x_sQ (w : x_W) (h i : Nat) (v : Option Nat) : x_W := (w.1, w.2.1, w.2.2.1, w.2.2.2.1, w.2.2.2.2.1, x_u w.2.2.2.2.2 h i v)
def x_fld (ad : Nat → Nat) (w : x_W) (h : Nat) (kd : Nat × Nat) : Value := if kd.1 = 0 then .int (x_I w kd.2 h) else if kd.1 = 1 then .long (x_J w kd.2 h) else va_rf ((x_R w kd.2 h).map ad)
def x_cell (FT : Nat → List (Nat × Nat)) (aC : Nat → ClassId) (ad : Nat → Nat) (T : x_T) (w : x_W) (h : Nat) : va_E :=
  if ((T h).getD (0, 0)).1 < 100 then .inr (((T h).getD (0, 0)).1, (FT ((T h).getD (0, 0)).1).map (x_fld ad w h))
  else if ((T h).getD (0, 0)).1 = 100 then .inl (aC 100, ((T h).getD (0, 0)).2, .inl (x_A w h))
  else if ((T h).getD (0, 0)).1 = 102 then .inl (aC 102, ((T h).getD (0, 0)).2, .inl (x_A w h))
  else if ((T h).getD (0, 0)).1 = 101 then .inl (aC 101, ((T h).getD (0, 0)).2, .inr (.inl (x_B w h)))
  else .inl (aC ((T h).getD (0, 0)).1, ((T h).getD (0, 0)).2, .inr (.inr (.inr (.inr (fun j => (x_Q w h j).map ad)))))
def x_ws (FT : Nat → List (Nat × Nat)) (aC : Nat → ClassId) (ad : Nat → Nat) (T : x_T) (w : x_W) (nx : Nat) : va_W := (List.range nx).map (fun h => (ad h, x_cell FT aC ad T w h))
/-- handles from nx on are not made yet: all is default there; no reference leads there -/
def x_ok (nx : Nat) (w : x_W) : Prop :=
  (∀ h, nx ≤ h → ∀ k, x_I w k h = 0 ∧ x_J w k h = 0 ∧ x_R w k h = none ∧ x_A w h k = 0 ∧ x_B w h k = 0 ∧ x_Q w h k = none) ∧ (∀ k h a, x_R w k h = some a → a < nx) ∧ ∀ h k a, x_Q w h k = some a → a < nx
theorem x_ok_I {nx k h : Nat} {w : x_W} {v : Int32} (hh : h < nx) (ok : x_ok nx w) : x_ok nx (x_sI w k h v) := by
  refine ⟨fun j hj i => ?_, ok.2⟩
  have := ok.1 j hj i
  have hne : j ≠ h := by omega
  simpa [x_I, x_J, x_R, x_A, x_B, x_Q, x_sI, x_u, hne] using this
theorem x_ok_J {nx k h : Nat} {w : x_W} {v : Int64} (hh : h < nx) (ok : x_ok nx w) : x_ok nx (x_sJ w k h v) := by
  refine ⟨fun j hj i => ?_, ok.2⟩
  have := ok.1 j hj i
  have hne : j ≠ h := by omega
  simpa [x_I, x_J, x_R, x_A, x_B, x_Q, x_sJ, x_u, hne] using this
theorem x_ok_A {nx k h : Nat} {w : x_W} {v : Int32} (hh : h < nx) (ok : x_ok nx w) : x_ok nx (x_sA w h k v) := by
  refine ⟨fun j hj i => ?_, ok.2⟩
  have := ok.1 j hj i
  have hne : j ≠ h := by omega
  simpa [x_I, x_J, x_R, x_A, x_B, x_Q, x_sA, x_u, hne] using this
theorem x_ok_B {nx k h : Nat} {w : x_W} {v : Int64} (hh : h < nx) (ok : x_ok nx w) : x_ok nx (x_sB w h k v) := by
  refine ⟨fun j hj i => ?_, ok.2⟩
  have := ok.1 j hj i
  have hne : j ≠ h := by omega
  simpa [x_I, x_J, x_R, x_A, x_B, x_Q, x_sB, x_u, hne] using this
theorem x_ok_R {nx k h : Nat} {w : x_W} {v : Option Nat} (hh : h < nx) (hv : ∀ a, v = some a → a < nx) (ok : x_ok nx w) : x_ok nx (x_sR w k h v) := by
  refine ⟨fun j hj i => ?_, fun k' h' a ha => ?_, ok.2.2⟩
  · have := ok.1 j hj i
    have hne : j ≠ h := by omega
    simpa [x_I, x_J, x_R, x_A, x_B, x_Q, x_sR, x_u, hne] using this
  · by_cases h1 : k' = k ∧ h' = h
    · obtain ⟨rfl, rfl⟩ := h1
      exact hv a (by simpa [x_R, x_sR, x_u] using ha)
    · refine ok.2.1 k' h' a ?_
      unfold x_R x_sR x_u at ha
      unfold x_R
      by_cases hk : k' = k
      · have hh' : h' ≠ h := fun z => h1 ⟨hk, z⟩
        simpa [hk, hh'] using ha
      · simpa [hk] using ha
theorem x_ok_Q {nx k h : Nat} {w : x_W} {v : Option Nat} (hh : h < nx) (hv : ∀ a, v = some a → a < nx) (ok : x_ok nx w) : x_ok nx (x_sQ w h k v) := by
  refine ⟨fun j hj i => ?_, ok.2.1, fun h' k' a ha => ?_⟩
  · have := ok.1 j hj i
    have hne : j ≠ h := by omega
    simpa [x_I, x_J, x_R, x_A, x_B, x_Q, x_sQ, x_u, hne] using this
  · by_cases h1 : h' = h ∧ k' = k
    · obtain ⟨rfl, rfl⟩ := h1
      exact hv a (by simpa [x_Q, x_sQ, x_u] using ha)
    · refine ok.2.2 h' k' a ?_
      unfold x_Q x_sQ x_u at ha
      unfold x_Q
      by_cases hk : h' = h
      · have hh' : k' ≠ k := fun z => h1 ⟨hk, z⟩
        simpa [hk, hh'] using ha
      · simpa [hk] using ha
def x_H (D : va_G) (cl : List vw_C) (FT : Nat → List (Nat × Nat)) (aC : Nat → ClassId) (ad : Nat → Nat) (T : x_T) (nx : Nat) (A : Nat → Prop) (w : x_W) (H : Heap) : Prop :=
  va_P D cl (x_ws FT aC ad T w nx) H ∧ va_D A (x_ws FT aC ad T w nx) ∧ (∀ (h : Nat) (q : Nat × Nat), T h = some q → h < nx) ∧ x_ok nx w
section XB
variable {D : va_G} {cl : List vw_C} {FT : Nat → List (Nat × Nat)} {aC : Nat → ClassId} {ad : Nat → Nat} {T : x_T} {nx : Nat} {A : Nat → Prop} {w w' : x_W} {H H1 : Heap} {h c n : Nat}
theorem x_cell_o (hT : T h = some (c, n)) (hc : c < 100) : x_cell FT aC ad T w h = .inr (c, (FT c).map (x_fld ad w h)) := by simp [x_cell, hT, hc]
theorem x_cell_a (hT : T h = some (100, n)) : x_cell FT aC ad T w h = .inl (aC 100, n, .inl (x_A w h)) := by simp [x_cell, hT]
theorem x_cell_z (hT : T h = some (102, n)) : x_cell FT aC ad T w h = .inl (aC 102, n, .inl (x_A w h)) := by simp [x_cell, hT]
theorem x_cell_b (hT : T h = some (101, n)) : x_cell FT aC ad T w h = .inl (aC 101, n, .inr (.inl (x_B w h))) := by simp [x_cell, hT]
theorem x_cell_q (hT : T h = some (c, n)) (hc : 103 ≤ c) : x_cell FT aC ad T w h = .inl (aC c, n, .inr (.inr (.inr (.inr (fun j => (x_Q w h j).map ad))))) := by
  have h1 : ¬ c < 100 := by omega
  have h2 : ¬ c = 100 := by omega
  have h3 : ¬ c = 101 := by omega
  have h4 : ¬ c = 102 := by omega
  simp [x_cell, hT, h1, h2, h3, h4]
theorem x_ws_at (hh : h < nx) : (x_ws FT aC ad T w nx)[h]? = some (ad h, x_cell FT aC ad T w h) := by simp [x_ws, List.getElem?_map, List.getElem?_range hh]
theorem x_ws_of {k : Nat} {q : Nat × va_E} (hk : (x_ws FT aC ad T w nx)[k]? = some q) : k < nx ∧ q = (ad k, x_cell FT aC ad T w k) := by
  have hl : k < (x_ws FT aC ad T w nx).length := (List.getElem?_eq_some_iff.mp hk).1
  have hl' : k < nx := by simpa [x_ws] using hl
  rw [x_ws_at hl'] at hk
  exact ⟨hl', (Option.some.inj hk).symm⟩
theorem x_ws_set (hh : h < nx) {e : va_E} (he : x_cell FT aC ad T w' h = e) (ho : ∀ k, k ≠ h → x_cell FT aC ad T w' k = x_cell FT aC ad T w k) : (x_ws FT aC ad T w nx).set h (ad h, e) = x_ws FT aC ad T w' nx := by
  apply List.ext_getElem?
  intro k
  by_cases hk : k < nx
  · rw [x_ws_at hk]
    by_cases hkh : k = h
    · subst hkh
      rw [List.getElem?_set_self (by simpa [x_ws] using hk), he]
    · rw [List.getElem?_set_ne (Ne.symm hkh), x_ws_at hk, ho k hkh]
  · rw [List.getElem?_eq_none (by simpa [x_ws] using hk), List.getElem?_eq_none (by simpa [x_ws] using hk)]
theorem x_H.at (hH : x_H D cl FT aC ad T nx A w H) (hT : T h = some (c, n)) : (x_ws FT aC ad T w nx)[h]? = some (ad h, x_cell FT aC ad T w h) := x_ws_at (hH.2.2.1 h _ hT)
theorem x_H.inj (hH : x_H D cl FT aC ad T nx A w H) {i j : Nat} (hi : i < nx) (hj : j < nx) (e : ad i = ad j) : i = j := hH.2.1.1 i j _ _ (x_ws_at hi) (x_ws_at hj) e
theorem x_H.dom (hH : x_H D cl FT aC ad T nx A w H) {i : Nat} (hi : i < nx) : A (ad i) := hH.2.1.2 i _ (x_ws_at hi)
theorem x_H.lt (hH : x_H D cl FT aC ad T nx A w H) {i : Nat} (hi : i < nx) : ad i < H.size := (hH.1 i _ (x_ws_at hi)).lt
theorem x_H.kept (hH : x_H D cl FT aC ad T nx A w H) (hq : ∀ i, i < nx → H1[ad i]? = H[ad i]?) : x_H D cl FT aC ad T nx A w H1 :=
  ⟨hH.1.kept (fun k q hk => by obtain ⟨h1, rfl⟩ := x_ws_of hk; exact hq k h1), hH.2⟩
theorem x_H.weaken {B : Nat → Prop} (hH : x_H D cl FT aC ad T nx A w H) (hAB : ∀ i, i < nx → A (ad i) → B (ad i)) : x_H D cl FT aC ad T nx B w H :=
  ⟨hH.1, hH.2.1.weaken (fun k q hk => by obtain ⟨h1, rfl⟩ := x_ws_of hk; exact hAB k h1), hH.2.2⟩
/-- which addresses a method may touch: those of its handles, and new ones -/
def x_dom (ad : Nat → Nat) (nx sz : Nat) : Nat → Prop := fun q => (∃ h, h < nx ∧ q = ad h) ∨ sz ≤ q
theorem x_H.self {sz : Nat} (hH : x_H D cl FT aC ad T nx A w H) : x_H D cl FT aC ad T nx (x_dom ad nx sz) w H := hH.weaken (fun i hi _ => Or.inl ⟨i, hi, rfl⟩)
end XB
section XS
variable {D : va_G} {cl : List vw_C} {FT : Nat → List (Nat × Nat)} {aC : Nat → ClassId} {ad : Nat → Nat} {T : x_T} {nx : Nat} {A : Nat → Prop} {w : x_W} {h c n : Nat}
theorem x_off_I {k : Nat} {v : Int32} {j : Nat} (hne : j ≠ h) : x_cell FT aC ad T (x_sI w k h v) j = x_cell FT aC ad T w j := by
  have e : x_fld ad (x_sI w k h v) j = x_fld ad w j := funext (fun kd => by unfold x_fld x_I x_J x_R x_sI; simp [x_u, hne])
  unfold x_cell
  rw [e]
  rfl
theorem x_off_J {k : Nat} {v : Int64} {j : Nat} (hne : j ≠ h) : x_cell FT aC ad T (x_sJ w k h v) j = x_cell FT aC ad T w j := by
  have e : x_fld ad (x_sJ w k h v) j = x_fld ad w j := funext (fun kd => by unfold x_fld x_I x_J x_R x_sJ; simp [x_u, hne])
  unfold x_cell
  rw [e]
  rfl
theorem x_off_R {k : Nat} {v : Option Nat} {j : Nat} (hne : j ≠ h) : x_cell FT aC ad T (x_sR w k h v) j = x_cell FT aC ad T w j := by
  have e : x_fld ad (x_sR w k h v) j = x_fld ad w j := funext (fun kd => by unfold x_fld x_I x_J x_R x_sR; simp [x_u, hne])
  unfold x_cell
  rw [e]
  rfl
theorem x_off_A {i : Nat} {v : Int32} {j : Nat} (hne : j ≠ h) : x_cell FT aC ad T (x_sA w h i v) j = x_cell FT aC ad T w j := by
  have e : x_A (x_sA w h i v) j = x_A w j := funext (fun q => by unfold x_A x_sA; simp [x_u, hne])
  unfold x_cell
  rw [e]
  rfl
theorem x_off_B {i : Nat} {v : Int64} {j : Nat} (hne : j ≠ h) : x_cell FT aC ad T (x_sB w h i v) j = x_cell FT aC ad T w j := by
  have e : x_B (x_sB w h i v) j = x_B w j := funext (fun q => by unfold x_B x_sB; simp [x_u, hne])
  unfold x_cell
  rw [e]
  rfl
theorem x_off_Q {i : Nat} {v : Option Nat} {j : Nat} (hne : j ≠ h) : x_cell FT aC ad T (x_sQ w h i v) j = x_cell FT aC ad T w j := by
  have e : x_Q (x_sQ w h i v) j = x_Q w j := funext (fun q => by unfold x_Q x_sQ; simp [x_u, hne])
  unfold x_cell
  rw [e]
  rfl
theorem x_nd {l : List (Nat × Nat)} (hnd : l.Nodup) {i j : Nat} {x : Nat × Nat} (hi : l[i]? = some x) (hj : l[j]? = some x) : i = j := by
  obtain ⟨h1, e1⟩ := List.getElem?_eq_some_iff.mp hi
  obtain ⟨h2, e2⟩ := List.getElem?_eq_some_iff.mp hj
  rcases Nat.lt_trichotomy i j with q | q | q
  · exact absurd (e1.trans e2.symm) ((List.pairwise_iff_getElem.mp hnd) i j h1 h2 q)
  · exact q
  · exact absurd (e2.trans e1.symm) ((List.pairwise_iff_getElem.mp hnd) j i h2 h1 q)
theorem x_map_set {l : List (Nat × Nat)} {f g : Nat × Nat → Value} {i : Nat} {x : Nat × Nat} {v : Value} (hi : l[i]? = some x) (hv : g x = v) (ho : ∀ j y, l[j]? = some y → j ≠ i → g y = f y) : l.map g = (l.map f).set i v := by
  have hl : i < l.length := (List.getElem?_eq_some_iff.mp hi).1
  apply List.ext_getElem?
  intro j
  by_cases hj : j = i
  · subst hj
    rw [List.getElem?_set_self (by simpa using hl), List.getElem?_map, hi, Option.map_some, hv]
  · rw [List.getElem?_set_ne (Ne.symm hj), List.getElem?_map, List.getElem?_map]
    cases hy : l[j]? with
    | none => rfl
    | some y => rw [Option.map_some, Option.map_some, ho j y hy hj]
theorem x_on_I {k i : Nat} {v : Int32} (hT : T h = some (c, n)) (hc : c < 100) (hF : (FT c)[i]? = some (0, k)) (hnd : (FT c).Nodup) : x_cell FT aC ad T (x_sI w k h v) h = .inr (c, ((FT c).map (x_fld ad w h)).set i (.int v)) := by
  rw [x_cell_o hT hc, x_map_set (f := x_fld ad w h) hF (v := .int v) (by simp [x_fld, x_I, x_sI, x_u]) (fun j y hy hj => ?_)]
  have hne : y ≠ (0, k) := fun e => hj (x_nd hnd hy (e ▸ hF))
  unfold x_fld x_I x_J x_R x_sI
  by_cases h0 : y.1 = 0
  · have h1 : y.2 ≠ k := fun e => hne (Prod.ext h0 e)
    simp [h0, x_u, h1]
  · simp [h0]
theorem x_on_J {k i : Nat} {v : Int64} (hT : T h = some (c, n)) (hc : c < 100) (hF : (FT c)[i]? = some (1, k)) (hnd : (FT c).Nodup) : x_cell FT aC ad T (x_sJ w k h v) h = .inr (c, ((FT c).map (x_fld ad w h)).set i (.long v)) := by
  rw [x_cell_o hT hc, x_map_set (f := x_fld ad w h) hF (v := .long v) (by simp [x_fld, x_J, x_sJ, x_u]) (fun j y hy hj => ?_)]
  have hne : y ≠ (1, k) := fun e => hj (x_nd hnd hy (e ▸ hF))
  unfold x_fld x_I x_J x_R x_sJ
  by_cases h0 : y.1 = 0
  · simp [h0]
  · by_cases h1 : y.1 = 1
    · have h2 : y.2 ≠ k := fun e => hne (Prod.ext h1 e)
      simp [h1, x_u, h2]
    · simp [h0, h1]
theorem x_on_R {k i : Nat} {v : Option Nat} (hT : T h = some (c, n)) (hc : c < 100) (hF : (FT c)[i]? = some (2, k)) (hnd : (FT c).Nodup) (hK : ∀ y ∈ FT c, y.1 < 3) : x_cell FT aC ad T (x_sR w k h v) h = .inr (c, ((FT c).map (x_fld ad w h)).set i (va_rf (v.map ad))) := by
  rw [x_cell_o hT hc, x_map_set (f := x_fld ad w h) hF (v := va_rf (v.map ad)) (by simp [x_fld, x_R, x_sR, x_u]) (fun j y hy hj => ?_)]
  have hne : y ≠ (2, k) := fun e => hj (x_nd hnd hy (e ▸ hF))
  have h3 := hK y (List.mem_of_getElem? hy)
  unfold x_fld x_I x_J x_R x_sR
  by_cases h0 : y.1 = 0
  · simp [h0]
  · by_cases h1 : y.1 = 1
    · simp [h1]
    · have h2 : y.2 ≠ k := fun e => hne (Prod.ext (by show y.1 = 2; omega) e)
      simp [h0, h1, x_u, h2]
theorem x_on_A {i : Nat} {v : Int32} (hT : T h = some (100, n)) : x_cell FT aC ad T (x_sA w h i v) h = .inl (aC 100, n, .inl (upd (x_A w h) i v)) := by
  rw [x_cell_a hT]
  congr 4
  funext q
  simp [x_A, x_sA, x_u, upd]
theorem x_on_Z {i : Nat} {v : Int32} (hT : T h = some (102, n)) : x_cell FT aC ad T (x_sA w h i v) h = .inl (aC 102, n, .inl (upd (x_A w h) i v)) := by
  rw [x_cell_z hT]
  congr 4
  funext q
  simp [x_A, x_sA, x_u, upd]
theorem x_on_B {i : Nat} {v : Int64} (hT : T h = some (101, n)) : x_cell FT aC ad T (x_sB w h i v) h = .inl (aC 101, n, .inr (.inl (vp_updL (x_B w h) i v))) := by
  rw [x_cell_b hT]
  congr 5
  funext q
  simp [x_B, x_sB, x_u, vp_updL]
theorem x_on_Q {i : Nat} {v : Option Nat} (hT : T h = some (c, n)) (hc : 103 ≤ c) : x_cell FT aC ad T (x_sQ w h i v) h = .inl (aC c, n, .inr (.inr (.inr (.inr (va_up (fun j => (x_Q w h j).map ad) i (v.map ad)))))) := by
  rw [x_cell_q hT hc]
  congr 8
  funext q
  by_cases hq : q = i
  · simp [x_Q, x_sQ, x_u, va_up, hq]
  · simp [x_Q, x_sQ, x_u, va_up, hq]
end XS
theorem x_fr {ad : Nat → Nat} {w : x_W} {h k a : Nat} (hr : x_R w k h = some a) : x_fld ad w h (2, k) = .ref (ad a) := by simp [x_fld, hr, va_rf]
theorem x_fn {ad : Nat → Nat} {w : x_W} {h k : Nat} (hr : x_R w k h = none) : x_fld ad w h (2, k) = .null := by simp [x_fld, hr, va_rf]
section XR
variable {p : Program} {l : Launch} {e : Env} {R : Room} {s : State} {m : MethodId} {args : Array Value} {below : List Frame} {meth : Method} {c0 : Code} {H : Heap} {locs : List Loc} {cells slots : Nat} {Q : State → Prop}
variable {cc : ByteArray} {pc : Nat} {ls : Array Slot} {rest : List Value} {D : va_G} {cl : List vw_C} {FT : Nat → List (Nat × Nat)} {aC : Nat → ClassId} {ad : Nat → Nat} {T : x_T} {nx : Nat} {A : Nat → Prop} {w : x_W} {tys : List (ClassId × FieldType)} {H0 : Heap} {h ci n : Nat}
theorem x_get (hexec : p.tables.exec = Jvm.exec) (hb : c0.code = cc) {own ref C : String} {F : u_T} {N index : Nat} {Ts : List Cond} (hts : ∀ w ∈ Ts, w.before args s = true) (hin : ∀ w ∈ u_ws C F N, w ∈ Ts) (hown : s.vm.findClass own = some m.cls) (hK : va_K D cl tys s) (hH : x_H D cl FT aC ad T nx A w H) (hT : T h = some (ci, n)) (hci : ci < 100) (hc : cl[ci]? = some (C, F, N)) (k : Nat) (hk : k < N) (hlink : (Cond.fieldLink own index ref (F k).2.1 (F k).2.2.1).before args s = true) (hsame : ∀ x, s.fieldFound? (F k).1 (F k).2.1 (F k).2.2.1 = some x → s.fieldFound? ref (F k).2.1 (F k).2.2.1 = some x) {kd : Nat × Nat} (hF : (FT ci)[k]? = some kd) {v : Value} (hv : x_fld ad w h kd = v) (hdg : decode cc pc = .ok (.getfield index, 3))
    (kk : W p l e R s m args below meth c0 H locs cells slots Q (F0 m (pc + 3) ls (v :: rest))) : W p l e R s m args below meth c0 H locs cells slots Q (F0 m pc ls (.ref (ad h) :: rest)) :=
  va_get hexec hb hts hin hown hK hH.1 h (by rw [hH.at hT, x_cell_o hT hci]) hc k hk hlink hsame (by rw [List.getElem?_map, hF, Option.map_some, hv]) hdg kk
theorem x_getN (hexec : p.tables.exec = Jvm.exec) (hb : c0.code = cc) {own ref C host : String} {F : u_T} {N index : Nat} {Ts : List Cond} (hts : ∀ w ∈ Ts, w.before args s = true) (hin : ∀ w ∈ u_ws C F N, w ∈ Ts) (hown : s.vm.findClass own = some m.cls) (hK : va_K D cl tys s) (hH : x_H D cl FT aC ad T nx A w H) (hT : T h = some (ci, n)) (hci : ci < 100) (hc : cl[ci]? = some (C, F, N)) (k : Nat) (hk : k < N) (hlink : (Cond.fieldLinkNest own index ref (F k).2.1 (F k).2.2.1 host).before args s = true) (hsame : ∀ x, s.fieldFound? (F k).1 (F k).2.1 (F k).2.2.1 = some x → s.fieldFound? ref (F k).2.1 (F k).2.2.1 = some x) {kd : Nat × Nat} (hF : (FT ci)[k]? = some kd) {v : Value} (hv : x_fld ad w h kd = v) (hdg : decode cc pc = .ok (.getfield index, 3))
    (kk : W p l e R s m args below meth c0 H locs cells slots Q (F0 m (pc + 3) ls (v :: rest))) : W p l e R s m args below meth c0 H locs cells slots Q (F0 m pc ls (.ref (ad h) :: rest)) :=
  va_getN hexec hb hts hin hown hK hH.1 h (by rw [hH.at hT, x_cell_o hT hci]) hc k hk hlink hsame (by rw [List.getElem?_map, hF, Option.map_some, hv]) hdg kk
/-- a put, of any kind: w' is the world behind it -/
theorem x_put (hexec : p.tables.exec = Jvm.exec) (hb : c0.code = cc) {own ref C : String} {F : u_T} {N index : Nat} {Ts : List Cond} (hts : ∀ w ∈ Ts, w.before args s = true) (hin : ∀ w ∈ u_ws C F N, w ∈ Ts) (ty0 : Nat → FieldType) (hty : ∀ k, k < N → parseFieldDescriptor (F k).2.2.1 = some (ty0 k)) (hnm : ∀ a, a < N → ∀ b, b < N → a ≠ b → (F a).2.1 ≠ (F b).2.1) (hown : s.vm.findClass own = some m.cls) (hK : va_K D cl tys s) (hH : x_H D cl FT aC ad T nx A w H) (hS : va_S A H0 H locs) (hT : T h = some (ci, n)) (hci : ci < 100) (hc : cl[ci]? = some (C, F, N)) (hl : (FT ci).length = N) (k : Nat) (hk : k < N) (hlink : (Cond.fieldLink own index ref (F k).2.1 (F k).2.2.1).before args s = true) (hsame : ∀ x, s.fieldFound? (F k).1 (F k).2.1 (F k).2.2.1 = some x → s.fieldFound? ref (F k).2.1 (F k).2.2.1 = some x) (hfin : (F k).2.2.2 = false) {ty : FieldType} {v : Value} (hd : parseFieldDescriptor (F k).2.2.1 = some ty) (hn : narrow ty v = v) (hfit : fits ty v = true) {w' : x_W} (hon : x_cell FT aC ad T w' h = .inr (ci, ((FT ci).map (x_fld ad w h)).set k v)) (hoff : ∀ j, j ≠ h → x_cell FT aC ad T w' j = x_cell FT aC ad T w j) (hok : h < nx → x_ok nx w → x_ok nx w') (hdg : decode cc pc = .ok (.putfield index, 3))
    (kk : ∀ (H1 : Heap) (locs1 : List Loc), x_H D cl FT aC ad T nx A w' H1 → va_S A H0 H1 locs1 → W p l e R s m args below meth c0 H1 locs1 cells slots Q (F0 m (pc + 3) ls rest)) : W p l e R s m args below meth c0 H locs cells slots Q (F0 m pc ls (v :: .ref (ad h) :: rest)) :=
  va_put hexec hb hts hin ty0 hty hnm hown hK hH.1 hH.2.1 hS h (by rw [hH.at hT, x_cell_o hT hci]) hc k hk hlink hsame hfin hd hn hfit (by rw [List.length_map, hl]; exact hk) hdg (fun H1 locs1 hP hD hS1 => by
    rw [x_ws_set (hH.2.2.1 _ _ hT) hon hoff] at hP hD
    exact kk H1 locs1 ⟨hP, hD, hH.2.2.1, hok (hH.2.2.1 _ _ hT) hH.2.2.2⟩ hS1)
theorem x_putF (hexec : p.tables.exec = Jvm.exec) (hb : c0.code = cc) {own ref C : String} {F : u_T} {N index : Nat} {Ts : List Cond} (hts : ∀ w ∈ Ts, w.before args s = true) (hin : ∀ w ∈ u_ws C F N, w ∈ Ts) (ty0 : Nat → FieldType) (hty : ∀ k, k < N → parseFieldDescriptor (F k).2.2.1 = some (ty0 k)) (hnm : ∀ a, a < N → ∀ b, b < N → a ≠ b → (F a).2.1 ≠ (F b).2.1) (hown : s.vm.findClass own = some m.cls) (hK : va_K D cl tys s) (hH : x_H D cl FT aC ad T nx A w H) (hS : va_S A H0 H locs) (hT : T h = some (ci, n)) (hci : ci < 100) (hc : cl[ci]? = some (C, F, N)) (hl : (FT ci).length = N) (k : Nat) (hk : k < N) (hlink : (Cond.fieldLink own index ref (F k).2.1 (F k).2.2.1).before args s = true) (hsame : ∀ x, s.fieldFound? (F k).1 (F k).2.1 (F k).2.2.1 = some x → s.fieldFound? ref (F k).2.1 (F k).2.2.1 = some x) (hfin : (F k).2.2.2 = true) (hin2 : meth.name = "<init>") (hdecl : (F k).1 = own) {ty : FieldType} {v : Value} (hd : parseFieldDescriptor (F k).2.2.1 = some ty) (hn : narrow ty v = v) (hfit : fits ty v = true) {w' : x_W} (hon : x_cell FT aC ad T w' h = .inr (ci, ((FT ci).map (x_fld ad w h)).set k v)) (hoff : ∀ j, j ≠ h → x_cell FT aC ad T w' j = x_cell FT aC ad T w j) (hok : h < nx → x_ok nx w → x_ok nx w') (hdg : decode cc pc = .ok (.putfield index, 3))
    (kk : ∀ (H1 : Heap) (locs1 : List Loc), x_H D cl FT aC ad T nx A w' H1 → va_S A H0 H1 locs1 → W p l e R s m args below meth c0 H1 locs1 cells slots Q (F0 m (pc + 3) ls rest)) : W p l e R s m args below meth c0 H locs cells slots Q (F0 m pc ls (v :: .ref (ad h) :: rest)) :=
  va_putF hexec hb hts hin ty0 hty hnm hown hK hH.1 hH.2.1 hS h (by rw [hH.at hT, x_cell_o hT hci]) hc k hk hlink hsame hfin hin2 hdecl hd hn hfit (by rw [List.length_map, hl]; exact hk) hdg (fun H1 locs1 hP hD hS1 => by
    rw [x_ws_set (hH.2.2.1 _ _ hT) hon hoff] at hP hD
    exact kk H1 locs1 ⟨hP, hD, hH.2.2.1, hok (hH.2.2.1 _ _ hT) hH.2.2.2⟩ hS1)
theorem x_putN (hexec : p.tables.exec = Jvm.exec) (hb : c0.code = cc) {own ref C host : String} {F : u_T} {N index : Nat} {Ts : List Cond} (hts : ∀ w ∈ Ts, w.before args s = true) (hin : ∀ w ∈ u_ws C F N, w ∈ Ts) (ty0 : Nat → FieldType) (hty : ∀ k, k < N → parseFieldDescriptor (F k).2.2.1 = some (ty0 k)) (hnm : ∀ a, a < N → ∀ b, b < N → a ≠ b → (F a).2.1 ≠ (F b).2.1) (hown : s.vm.findClass own = some m.cls) (hK : va_K D cl tys s) (hH : x_H D cl FT aC ad T nx A w H) (hS : va_S A H0 H locs) (hT : T h = some (ci, n)) (hci : ci < 100) (hc : cl[ci]? = some (C, F, N)) (hl : (FT ci).length = N) (k : Nat) (hk : k < N) (hlink : (Cond.fieldLinkNest own index ref (F k).2.1 (F k).2.2.1 host).before args s = true) (hsame : ∀ x, s.fieldFound? (F k).1 (F k).2.1 (F k).2.2.1 = some x → s.fieldFound? ref (F k).2.1 (F k).2.2.1 = some x) (hfin : (F k).2.2.2 = false) {ty : FieldType} {v : Value} (hd : parseFieldDescriptor (F k).2.2.1 = some ty) (hn : narrow ty v = v) (hfit : fits ty v = true) {w' : x_W} (hon : x_cell FT aC ad T w' h = .inr (ci, ((FT ci).map (x_fld ad w h)).set k v)) (hoff : ∀ j, j ≠ h → x_cell FT aC ad T w' j = x_cell FT aC ad T w j) (hok : h < nx → x_ok nx w → x_ok nx w') (hdg : decode cc pc = .ok (.putfield index, 3))
    (kk : ∀ (H1 : Heap) (locs1 : List Loc), x_H D cl FT aC ad T nx A w' H1 → va_S A H0 H1 locs1 → W p l e R s m args below meth c0 H1 locs1 cells slots Q (F0 m (pc + 3) ls rest)) : W p l e R s m args below meth c0 H locs cells slots Q (F0 m pc ls (v :: .ref (ad h) :: rest)) :=
  va_putN hexec hb hts hin ty0 hty hnm hown hK hH.1 hH.2.1 hS h (by rw [hH.at hT, x_cell_o hT hci]) hc k hk hlink hsame hfin hd hn hfit (by rw [List.length_map, hl]; exact hk) hdg (fun H1 locs1 hP hD hS1 => by
    rw [x_ws_set (hH.2.2.1 _ _ hT) hon hoff] at hP hD
    exact kk H1 locs1 ⟨hP, hD, hH.2.2.1, hok (hH.2.2.1 _ _ hT) hH.2.2.2⟩ hS1)
theorem x_iald (hexec : p.tables.exec = Jvm.exec) (hb : c0.code = cc) (hK : va_K D cl tys s) (hH : x_H D cl FT aC ad T nx A w H) (hT : T h = some (100, n)) (t0 : Nat) (ht : tys[t0]? = some (aC 100, .int)) {i : Int32} (hin : vp_in i n) (hdg : decode cc pc = .ok (.iaload, 1))
    (kk : W p l e R s m args below meth c0 H locs cells slots Q (F0 m (pc + 1) ls (.int (x_A w h i.toNatClampNeg) :: rest))) : W p l e R s m args below meth c0 H locs cells slots Q (F0 m pc ls (.int i :: .ref (ad h) :: rest)) :=
  va_iald hexec hb hK hH.1 h t0 (by rw [hH.at hT, x_cell_a hT]) ht hin hdg kk
theorem x_zald (hexec : p.tables.exec = Jvm.exec) (hb : c0.code = cc) (hK : va_K D cl tys s) (hH : x_H D cl FT aC ad T nx A w H) (hT : T h = some (102, n)) (t0 : Nat) (ht : tys[t0]? = some (aC 102, .boolean)) {i : Int32} (hin : vp_in i n) (hdg : decode cc pc = .ok (.baload, 1))
    (kk : W p l e R s m args below meth c0 H locs cells slots Q (F0 m (pc + 1) ls (.int (x_A w h i.toNatClampNeg) :: rest))) : W p l e R s m args below meth c0 H locs cells slots Q (F0 m pc ls (.int i :: .ref (ad h) :: rest)) :=
  va_zald hexec hb hK hH.1 h t0 (by rw [hH.at hT, x_cell_z hT]) ht hin hdg kk
theorem x_zast (hexec : p.tables.exec = Jvm.exec) (hb : c0.code = cc) (hK : va_K D cl tys s) (hH : x_H D cl FT aC ad T nx A w H) (hS : va_S A H0 H locs) (hT : T h = some (102, n)) (t0 : Nat) (ht : tys[t0]? = some (aC 102, .boolean)) {i v : Int32} (hin : vp_in i n) (hdg : decode cc pc = .ok (.bastore, 1))
    (kk : ∀ (H1 : Heap) (locs1 : List Loc), x_H D cl FT aC ad T nx A (x_sA w h i.toNatClampNeg (vp_nar .boolean v)) H1 → va_S A H0 H1 locs1 → W p l e R s m args below meth c0 H1 locs1 cells slots Q (F0 m (pc + 1) ls rest)) : W p l e R s m args below meth c0 H locs cells slots Q (F0 m pc ls (.int v :: .int i :: .ref (ad h) :: rest)) :=
  va_zast hexec hb hK hH.1 hH.2.1 hS h t0 (by rw [hH.at hT, x_cell_z hT]) ht hin hdg (fun H1 locs1 hP hD hS1 => by
    rw [x_ws_set (hH.2.2.1 _ _ hT) (x_on_Z hT) (fun j hj => x_off_A hj)] at hP hD
    exact kk H1 locs1 ⟨hP, hD, hH.2.2.1, x_ok_A (hH.2.2.1 _ _ hT) hH.2.2.2⟩ hS1)
theorem x_lald (hexec : p.tables.exec = Jvm.exec) (hb : c0.code = cc) (hK : va_K D cl tys s) (hH : x_H D cl FT aC ad T nx A w H) (hT : T h = some (101, n)) (t0 : Nat) (ht : tys[t0]? = some (aC 101, .long)) {i : Int32} (hin : vp_in i n) (hdg : decode cc pc = .ok (.laload, 1))
    (kk : W p l e R s m args below meth c0 H locs cells slots Q (F0 m (pc + 1) ls (.long (x_B w h i.toNatClampNeg) :: rest))) : W p l e R s m args below meth c0 H locs cells slots Q (F0 m pc ls (.int i :: .ref (ad h) :: rest)) :=
  va_lald hexec hb hK hH.1 h t0 (by rw [hH.at hT, x_cell_b hT]) ht hin hdg kk
theorem x_aald (hexec : p.tables.exec = Jvm.exec) (hb : c0.code = cc) (hK : va_K D cl tys s) (hH : x_H D cl FT aC ad T nx A w H) (hT : T h = some (ci, n)) (hci : 103 ≤ ci) (t0 : Nat) {C : String} (ht : tys[t0]? = some (aC ci, .object C)) {i : Int32} (hin : vp_in i n) {v : Value} (hv : va_rf ((x_Q w h i.toNatClampNeg).map ad) = v) (hdg : decode cc pc = .ok (.aaload, 1))
    (kk : W p l e R s m args below meth c0 H locs cells slots Q (F0 m (pc + 1) ls (v :: rest))) : W p l e R s m args below meth c0 H locs cells slots Q (F0 m pc ls (.int i :: .ref (ad h) :: rest)) :=
  va_aldq hexec hb hK hH.1 h t0 (by rw [hH.at hT, x_cell_q hT hci]) ht hin hdg (by rw [← hv] at kk; exact kk)
theorem x_qr {w : x_W} {i a : Nat} (hr : x_Q w h i = some a) : va_rf ((x_Q w h i).map ad) = .ref (ad a) := by simp [hr, va_rf]
theorem x_alen (hexec : p.tables.exec = Jvm.exec) (hb : c0.code = cc) (hK : va_K D cl tys s) (hH : x_H D cl FT aC ad T nx A w H) (hT : T h = some (ci, n)) (hci : 100 ≤ ci) (t0 : Nat) {ty : FieldType} (ht : tys[t0]? = some (aC ci, ty)) (hdg : decode cc pc = .ok (.arraylength, 1))
    (kk : W p l e R s m args below meth c0 H locs cells slots Q (F0 m (pc + 1) ls (.int (nI n) :: rest))) : W p l e R s m args below meth c0 H locs cells slots Q (F0 m pc ls (.ref (ad h) :: rest)) := by
  rcases (show ci = 100 ∨ ci = 101 ∨ ci = 102 ∨ 103 ≤ ci by omega) with rfl | rfl | rfl | hc
  · exact va_alen (x := (n, .inl (x_A w h))) hexec hb hK hH.1 h t0 (by rw [hH.at hT, x_cell_a hT]) ht rfl hdg kk
  · exact va_alen (x := (n, .inr (.inl (x_B w h)))) hexec hb hK hH.1 h t0 (by rw [hH.at hT, x_cell_b hT]) ht rfl hdg kk
  · exact va_alen (x := (n, .inl (x_A w h))) hexec hb hK hH.1 h t0 (by rw [hH.at hT, x_cell_z hT]) ht rfl hdg kk
  · exact va_alen (x := (n, .inr (.inr (.inr (.inr (fun j => (x_Q w h j).map ad)))))) hexec hb hK hH.1 h t0 (by rw [hH.at hT, x_cell_q hT hc]) ht rfl hdg kk
theorem x_iast (hexec : p.tables.exec = Jvm.exec) (hb : c0.code = cc) (hK : va_K D cl tys s) (hH : x_H D cl FT aC ad T nx A w H) (hS : va_S A H0 H locs) (hT : T h = some (100, n)) (t0 : Nat) (ht : tys[t0]? = some (aC 100, .int)) {i v : Int32} (hin : vp_in i n) (hdg : decode cc pc = .ok (.iastore, 1))
    (kk : ∀ (H1 : Heap) (locs1 : List Loc), x_H D cl FT aC ad T nx A (x_sA w h i.toNatClampNeg v) H1 → va_S A H0 H1 locs1 → W p l e R s m args below meth c0 H1 locs1 cells slots Q (F0 m (pc + 1) ls rest)) : W p l e R s m args below meth c0 H locs cells slots Q (F0 m pc ls (.int v :: .int i :: .ref (ad h) :: rest)) :=
  va_iast hexec hb hK hH.1 hH.2.1 hS h t0 (by rw [hH.at hT, x_cell_a hT]) ht hin hdg (fun H1 locs1 hP hD hS1 => by
    rw [x_ws_set (hH.2.2.1 _ _ hT) (x_on_A hT) (fun j hj => x_off_A hj)] at hP hD
    exact kk H1 locs1 ⟨hP, hD, hH.2.2.1, x_ok_A (hH.2.2.1 _ _ hT) hH.2.2.2⟩ hS1)
theorem x_last (hexec : p.tables.exec = Jvm.exec) (hb : c0.code = cc) (hK : va_K D cl tys s) (hH : x_H D cl FT aC ad T nx A w H) (hS : va_S A H0 H locs) (hT : T h = some (101, n)) (t0 : Nat) (ht : tys[t0]? = some (aC 101, .long)) {i : Int32} {v : Int64} (hin : vp_in i n) (hdg : decode cc pc = .ok (.lastore, 1))
    (kk : ∀ (H1 : Heap) (locs1 : List Loc), x_H D cl FT aC ad T nx A (x_sB w h i.toNatClampNeg v) H1 → va_S A H0 H1 locs1 → W p l e R s m args below meth c0 H1 locs1 cells slots Q (F0 m (pc + 1) ls rest)) : W p l e R s m args below meth c0 H locs cells slots Q (F0 m pc ls (.long v :: .int i :: .ref (ad h) :: rest)) :=
  va_last hexec hb hK hH.1 hH.2.1 hS h t0 (by rw [hH.at hT, x_cell_b hT]) ht hin hdg (fun H1 locs1 hP hD hS1 => by
    rw [x_ws_set (hH.2.2.1 _ _ hT) (x_on_B hT) (fun j hj => x_off_B hj)] at hP hD
    exact kk H1 locs1 ⟨hP, hD, hH.2.2.1, x_ok_B (hH.2.2.1 _ _ hT) hH.2.2.2⟩ hS1)
theorem x_aast (hexec : p.tables.exec = Jvm.exec) (hb : c0.code = cc) (hK : va_K D cl tys s) (hH : x_H D cl FT aC ad T nx A w H) (hS : va_S A H0 H locs) (hT : T h = some (ci, n)) (hci : 103 ≤ ci) (t0 : Nat) {r : vw_C} (ht : tys[t0]? = some (aC ci, .object r.1)) {hv cv nv : Nat} (hTv : T hv = some (cv, nv)) (hcv : cv < 100) (hc : cl[cv]? = some r) {i : Int32} (hin : vp_in i n) (hdg : decode cc pc = .ok (.aastore, 1))
    (kk : ∀ (H1 : Heap) (locs1 : List Loc), x_H D cl FT aC ad T nx A (x_sQ w h i.toNatClampNeg (some hv)) H1 → va_S A H0 H1 locs1 → W p l e R s m args below meth c0 H1 locs1 cells slots Q (F0 m (pc + 1) ls rest)) : W p l e R s m args below meth c0 H locs cells slots Q (F0 m pc ls (.ref (ad hv) :: .int i :: .ref (ad h) :: rest)) :=
  va_astq hexec hb hK hH.1 hH.2.1 hS h t0 hv cv (by rw [hH.at hT, x_cell_q hT hci]) ht (by rw [hH.at hTv, x_cell_o hTv hcv]) hc hin hdg (fun H1 locs1 hP hD hS1 => by
    have e1 := x_ws_set (FT := FT) (aC := aC) (ad := ad) (w := w) (w' := x_sQ w h i.toNatClampNeg (some hv)) (hH.2.2.1 _ _ hT) (x_on_Q hT hci) (fun j hj => x_off_Q hj)
    rw [show ((some hv : Option Nat).map ad) = some (ad hv) from rfl] at e1
    rw [e1] at hP hD
    exact kk H1 locs1 ⟨hP, hD, hH.2.2.1, x_ok_Q (hH.2.2.1 _ _ hT) (fun a ha => by cases ha; exact hH.2.2.1 _ _ hTv) hH.2.2.2⟩ hS1)
end XR
end
section
/-! CONTRACTS OF METHODS THAT MAY THROW -/
def x_FE (first : State) (t : State) (L : List Loc) (k n : Nat) : Prop := first.WarmedH t.vm ∧ first.sameButNew ({ t with vm := first.vm } : State) L k n
def x_Met (l : Launch) (y : MethodName) (ws : List Cond) (rm : Room) (Pc : Array Value → State → Prop) (Qc : Array Value → State → Outcome → State → Prop) (mc ms : Nat) (free : Addr → Prop) : Prop :=
  MetFree l y (headSpec ws rm) Pc (fun _ _ _ _ _ => True) (fun a st o t => Qc a st o t ∧ ∃ L, x_FE st t L mc ms ∧ ∀ q ∈ L, free q.base)
def x_MQ (below : List Frame) (Qc : Array Value → State → Outcome → State → Prop) (a : Array Value) (s : State) (mc ms : Nat) (free : Addr → Prop) : State → Prop := fun t =>
  ∃ o, t.status = .running ∧ Ended t below o ∧ Qc a s o t ∧ ∃ L, x_FE s t L mc ms ∧ ∀ q ∈ L, free q.base
section XM
variable {p : Program} {l : Launch} {e : Env} {R : Room} {s : State} {m : MethodId} {args : Array Value} {below : List Frame} {meth : Method} {c : Code} {H : Heap} {locs : List Loc} {cells slots : Nat}
theorem x_mono {Q Q' : State → Prop} {g : JFrame} (h : ∀ t, Q t → Q' t) (k : W p l e R s m args below meth c H locs cells slots Q g) : W p l e R s m args below meth c H locs cells slots Q' g := fun T hT X => by
  obtain ⟨t, a, b⟩ := k T hT X
  exact ⟨t, a, h t b⟩
theorem x_MQ_of {Qc : Array Value → State → Outcome → State → Prop} {a : Array Value} {mc ms : Nat} {free : Addr → Prop} (t : State) (h : MQ below Qc a s mc ms free t) : x_MQ below Qc a s mc ms free t := by
  obtain ⟨o, h1, h2, h3, L, ⟨-, h4, h5⟩, h6⟩ := h
  exact ⟨o, h1, h2, h3, L, ⟨h4, h5⟩, h6⟩
theorem x_Met.ofW {y : MethodName} {ws ws' : List Cond} {rm : Room} {Pc : Array Value → State → Prop} {Qc : Array Value → State → Outcome → State → Prop} {mc ms : Nat} {free : Addr → Prop} {cc : ByteArray} {maxL : Nat} {ret : Option FieldType}
    (hy : plainName y.cls = true) (hw : ws = Cond.code y cc maxL ret :: ws')
    (body : ∀ p e s m args below meth c s₁, BodyLoose p l y (headSpec ws rm) cc maxL ret e s m args below meth c s₁ → c.maxLocals = maxL → Pc args s →
      W p l e (headSpec ws rm).room s m args below meth c s.heap [] 0 0 (x_MQ below Qc args s mc ms free) (entryFrame m args maxL)) : x_Met l y ws rm Pc Qc mc ms free := by
  refine MetFree.of_bodyS (code := cc) (maxLocals := maxL) (ret := ret) hy ?_ ?_
  · intro args s m h hn
    obtain ⟨meth, c, h1, h2, h3, h4, h5, h6, -, -⟩ := Cond.code_spec hn (atoms_spec (ws := ws) h _ (by rw [hw]; exact List.mem_cons_self))
    exact ⟨meth, c, h1, h2, h3, h4, h5, h6⟩
  · intro p e s m args below meth c s₁ B hml hP _
    have hh0 : s₁.heap = s.heap := by rw [B.state]; rfl
    obtain ⟨t, a1, o, b1, b2, b3⟩ := body p e s m args below meth c s₁ B hml hP s₁ hh0 (Stand.of_body B)
    exact ⟨t, o, a1, b1, b2, b3⟩
theorem x_Met.met {y : MethodName} {ws : List Cond} {rm : Room} {Pc : Array Value → State → Prop} {Qc : Array Value → State → Outcome → State → Prop} {mc ms : Nat} {free : Addr → Prop} (hM : x_Met l y ws rm Pc Qc mc ms free)
    (hq : ∀ a st o t, Qc a st o t → ∃ v, o = .returned v) : Met l y ws rm Pc Qc mc ms free := by
  intro p e ha hc hk s m args below hf happ hP hKK
  obtain ⟨n, o, h1, h2, h3, h4, L, h5, h6⟩ := hM p e ha hc hk s m args below hf happ hP hKK
  exact ⟨n, o, h1, h2, h3, h4, L, ⟨hq _ _ _ _ h4, h5.1, h5.2⟩, h6⟩
end XM
end
