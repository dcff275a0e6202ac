/-! WallDamp$Corners.<init>(I)V -/
def f_Corners_init (M : Nat) (T : x_T) (nx : Nat) (w : x_W) (l0 : Nat) (l1 : Int32) : Option (x_T × Nat × x_W) :=
  (x_lt nx M).bind fun _ =>
  (x_sz (8 : Int32) 8).bind fun n3 =>
  (some (x_uT T nx 100 n3)).bind fun T8 =>
  (x_is T8 l0 3).bind fun _ =>
  (x_ex T8 nx).bind fun _ =>
  (some (x_sR w 25 l0 (some nx))).bind fun w13 =>
  (x_lt (nx + 1) M).bind fun _ =>
  (x_sz (8 : Int32) 8).bind fun n17 =>
  (some (x_uT T8 (nx + 1) 100 n17)).bind fun T22 =>
  (x_is T22 l0 3).bind fun _ =>
  (x_ex T22 (nx + 1)).bind fun _ =>
  (some (x_sR w13 26 l0 (some (nx + 1)))).bind fun w27 =>
  (f_Math_min T22 w27 l1 (8 : Int32)).bind fun q29 =>
  (some (x_sI w27 27 l0 q29)).bind fun w31 =>
  (some (x_sI w31 28 l0 (0 : Int32))).bind fun w33 =>
  some (T22, (nx + 2), w33)
set_option maxHeartbeats 4000000 in
set_option maxRecDepth 100000 in
theorem k_Corners_init {p : Program} {l : Launch} {e : Env} {s : State} {m : MethodId} {args : Array Value} {below : List Frame} {meth : Method} {c : Code} {D : va_G} {aC : Nat → ClassId} {ad : Nat → Nat} {M : Nat} {A : Nat → Prop} {q : x_T × Nat × x_W} (C0 : x_At p s m meth c args "WallDamp$Corners" b_Corners_init none 2 D aC A) (hin : meth.name = "<init>") (hAo : x_Ao s) (hlin : x_Lin ad M) : ∀ (T : x_T) (nx : Nat) (w : x_W) (H : Heap) (locs : List Loc) (ls : Array Slot) (l0 : Nat) (l1 : Int32), f_Corners_init M T nx w l0 l1 = some q → H.size = ad nx → x_H D x_cl x_FT aC ad T nx A w H → va_S A s.heap H locs → lv_has ls 2 [(0, .ref (ad l0)), (1, .int l1)] → W p l e { frames := 1, cells := 2, slots := 16, locals := 21 } s m args below meth c H locs 0 0 (MQ below (x_Qn D aC ad q A) args s 2 16 A) (F0 m 0 ls []) := by
  obtain ⟨hx, hb, hr, hml, hown, hts, hlocks, hK, hA, hX⟩ := id C0
  intro T nx w H locs ls l0 l1 hf hz hH hS hl
  unfold f_Corners_init at hf
  refine lv_aload_n hx hb d_Corners_init_0 rfl (lv_at hl 0 rfl) ?_
  refine W.objInit hx hb hown (hts _ m_45) (hts _ m_25) (hts _ m_26) (g := F0 m 1 ls (.ref (ad l0) :: [])) rfl (hl.1.trans hml.symm) rfl d_Corners_init_1 (Nat.le_of_ble_eq_true rfl) (Nat.le_of_ble_eq_true rfl) ?_
  refine lv_aload_n hx hb d_Corners_init_4 rfl (lv_at hl 0 rfl) ?_
  refine lv_bipush (v := 8) hx hb d_Corners_init_5 (by decide) ?_
  obtain ⟨_, e1, hf⟩ := x_b hf
  obtain ⟨n3, e2, hf⟩ := x_b hf
  obtain ⟨hn4, hN5, hM6⟩ := x_sz_e e2
  refine x_newa (atype := .int) (ci := 100) hx hb (hts _ m_60) hK hH hS hA hz 0 rfl (fun h => h) hn4 hN5 (by show n3 * 4 ≤ _; omega) (by show _ ≤ 2; omega) (by show _ ≤ 16; omega) (Or.inl ⟨x_cell_a (by simp [x_uT]), rfl⟩) d_Corners_init_7 (fun H hz1 hH hS => ?_)
  have hz := x_lin hlin e1 hz1
  obtain ⟨T8, e7, hf⟩ := x_b hf
  have hH := x_nT e7 hH
  refine W.widen (k := 1) (n := 8) (by omega) (by omega) ?_
  obtain ⟨_, e9, hf⟩ := x_b hf
  obtain ⟨n10, hT11⟩ := x_is_e e9
  obtain ⟨_, e12, hf⟩ := x_b hf
  refine x_putFZ (C := "WallDamp$Corners") (F := F_Corners) (N := 4) (ty := t_Corners 0) (v := .ref (ad nx)) (w' := x_sR w 25 l0 (some nx)) hx hb hts i_Corners t_Corners ty_Corners n_Corners hown hK hH hS hT11 (by decide) rfl rfl 0 (by decide) (hts _ m_47) (fun _ h9 => h9) rfl hin rfl (ty_Corners 0 (by decide)) rfl rfl (x_on_R (v := some nx) hT11 (by decide) rfl nd_Corners k3_Corners) (fun j hj => x_off_R hj) (fun hh => x_ok_R hh (x_ex_lt e12 hH)) d_Corners_init_9 (fun H locs hz1 hH hS => ?_)
  have hz := hz1.trans hz
  obtain ⟨w13, e14, hf⟩ := x_b hf
  have hH := x_nw e14 hH
  refine lv_aload_n hx hb d_Corners_init_12 rfl (lv_at hl 0 rfl) ?_
  refine x_pc 13 rfl ?_
  refine x_cs 1 8 rfl rfl ?_
  refine lv_bipush (v := 8) hx hb d_Corners_init_13 (by decide) ?_
  obtain ⟨_, e15, hf⟩ := x_b hf
  obtain ⟨n17, e16, hf⟩ := x_b hf
  obtain ⟨hn18, hN19, hM20⟩ := x_sz_e e16
  refine x_newa (atype := .int) (ci := 100) hx hb (hts _ m_60) hK hH hS hA hz 0 rfl (fun h => h) hn18 hN19 (by show n17 * 4 ≤ _; omega) (by show _ ≤ 2; omega) (by show _ ≤ 16; omega) (Or.inl ⟨x_cell_a (by simp [x_uT]), rfl⟩) d_Corners_init_15 (fun H hz1 hH hS => ?_)
  have hz := x_lin hlin e15 hz1
  obtain ⟨T22, e21, hf⟩ := x_b hf
  have hH := x_nT e21 hH
  refine W.widen (k := 2) (n := 16) (by omega) (by omega) ?_
  obtain ⟨_, e23, hf⟩ := x_b hf
  obtain ⟨n24, hT25⟩ := x_is_e e23
  obtain ⟨_, e26, hf⟩ := x_b hf
  refine x_putFZ (C := "WallDamp$Corners") (F := F_Corners) (N := 4) (ty := t_Corners 1) (v := .ref (ad (nx + 1))) (w' := x_sR w13 26 l0 (some (nx + 1))) hx hb hts i_Corners t_Corners ty_Corners n_Corners hown hK hH hS hT25 (by decide) rfl rfl 1 (by decide) (hts _ m_48) (fun _ h9 => h9) rfl hin rfl (ty_Corners 1 (by decide)) rfl rfl (x_on_R (v := some (nx + 1)) hT25 (by decide) rfl nd_Corners k3_Corners) (fun j hj => x_off_R hj) (fun hh => x_ok_R hh (x_ex_lt e26 hH)) d_Corners_init_17 (fun H locs hz1 hH hS => ?_)
  have hz := hz1.trans hz
  obtain ⟨w27, e28, hf⟩ := x_b hf
  have hH := x_nw e28 hH
  refine lv_aload_n hx hb d_Corners_init_20 rfl (lv_at hl 0 rfl) ?_
  refine lv_iload_n hx hb d_Corners_init_21 rfl (lv_at hl 1 rfl) ?_
  refine lv_bipush (v := 8) hx hb d_Corners_init_22 (by decide) ?_
  obtain ⟨q29, e30, hf⟩ := x_b hf
  refine x_callP (st1 := [.int q29, .ref (ad l0)]) (x_runS (As := [.int l1, .int (8 : Int32)]) (rest := [.ref (ad l0)]) ⟨hx, hb, hml, hown, hts⟩ (c_Math_min l D aC ad T22 (nx + 2) H.size w27 l1 (8 : Int32) q29 e30) (va_cwS 2 hts (x_gS m_46 m_28 m_2 m_29) rfl rfl rfl pd_Math_min ⟨Nat.le_of_ble_eq_true rfl, Nat.le_of_ble_eq_true rfl⟩) hH hK hX rfl hl.1 rfl (lv_room (Nat.le_of_ble_eq_true rfl)) d_Corners_init_24 ⟨(by show _ ≤ 2; omega), (by show _ ≤ 16; omega)⟩) rfl ?_
  refine x_putFZ (C := "WallDamp$Corners") (F := F_Corners) (N := 4) (ty := t_Corners 2) (v := .int q29) (w' := x_sI w27 27 l0 q29) hx hb hts i_Corners t_Corners ty_Corners n_Corners hown hK hH hS hT25 (by decide) rfl rfl 2 (by decide) (hts _ m_49) (fun _ h9 => h9) rfl hin rfl (ty_Corners 2 (by decide)) rfl rfl (x_on_I hT25 (by decide) rfl nd_Corners) (fun j hj => x_off_I hj) (fun hh ok => x_ok_I hh ok) d_Corners_init_27 (fun H locs hz1 hH hS => ?_)
  have hz := hz1.trans hz
  obtain ⟨w31, e32, hf⟩ := x_b hf
  have hH := x_nw e32 hH
  refine x_pc 30 rfl ?_
  refine x_cs 2 16 rfl rfl ?_
  refine lv_aload_n hx hb d_Corners_init_30 rfl (lv_at hl 0 rfl) ?_
  refine lv_iconst (v := 0) hx hb d_Corners_init_31 (by decide) ?_
  refine x_putZ (C := "WallDamp$Corners") (F := F_Corners) (N := 4) (ty := t_Corners 3) (v := .int (0 : Int32)) (w' := x_sI w31 28 l0 (0 : Int32)) hx hb hts i_Corners t_Corners ty_Corners n_Corners hown hK hH hS hT25 (by decide) rfl rfl 3 (by decide) (hts _ m_50) (fun _ h9 => h9) rfl (ty_Corners 3 (by decide)) rfl rfl (x_on_I hT25 (by decide) rfl nd_Corners) (fun j hj => x_off_I hj) (fun hh ok => x_ok_I hh ok) d_Corners_init_32 (fun H locs hz1 hH hS => ?_)
  have hz := hz1.trans hz
  obtain ⟨w33, e34, hf⟩ := x_b hf
  have hH := x_nw e34 hH
  cases hf
  refine W.widen (k := 2) (n := 16) (by omega) (by omega) ?_
  exact W.vret hx hb hr (fun t ht hW => ⟨rfl, hS.F ht, by rw [ht]; exact hz, by rw [ht]; exact hH⟩) hS.2.2 d_Corners_init_35
theorem c_Corners_init (l : Launch) (D : va_G) (aC : Nat → ClassId) (ad : Nat → Nat) (M : Nat) (hlin : x_Lin ad M) (T : x_T) (nx : Nat) (w : x_W) (a0 : Nat) (a1 : Int32) (q : x_T × Nat × x_W) (hf : f_Corners_init M T nx w a0 a1 = some q) : Met l y_Corners_init ws_Corners_init { frames := 1, cells := 2, slots := 16, locals := 21 } (x_Pn D aC ad T nx w [.ref (ad a0), .int a1]) (x_Qn D aC ad q (x_dom ad nx (ad nx))) 2 16 (x_dom ad nx (ad nx)) :=
  x_metN [(0, .ref (ad a0)), (1, .int a1)] (by decide) rfl rfl rfl (Nat.le_of_ble_eq_true rfl) (fun p e s m args below meth c ls C0 hin hAo hz hH hS hl => k_Corners_init C0 hin hAo hlin T nx w _ _ _ a0 a1 hf hz hH hS (lv_sub hl [0, 1] rfl))
/-! WallDamp$Material.<init>()V -/
def f_Material_init (M : Nat) (T : x_T) (nx : Nat) (w : x_W) (l0 : Nat) : Option (x_T × Nat × x_W) :=
  (x_lt nx M).bind fun _ =>
  (some (x_uT T nx 3 0)).bind fun T3 =>
  (f_Corners_init M T3 (nx + 1) w nx (7 : Int32)).bind fun q4 =>
  (x_is q4.1 l0 5).bind fun _ =>
  (x_ex q4.1 nx).bind fun _ =>
  (some (x_sR q4.2.2 34 l0 (some nx))).bind fun w10 =>
  (x_R w10 34 l0).bind fun a12 =>
  (x_is q4.1 a12 3).bind fun _ =>
  (f_Corners_add q4.1 w10 a12 (0 : Int32) (0 : Int32)).bind fun q14 =>
  (some (x_sI q14.2 35 l0 (0 : Int32))).bind fun w19 =>
  (some (x_sI w19 36 l0 (0 : Int32))).bind fun w21 =>
  (some (x_sI w21 37 l0 (100 : Int32))).bind fun w23 =>
  some (q4.1, q4.2.1, w23)
set_option maxHeartbeats 4000000 in
set_option maxRecDepth 100000 in
theorem k_Material_init {p : Program} {l : Launch} {e : Env} {s : State} {m : MethodId} {args : Array Value} {below : List Frame} {meth : Method} {c : Code} {D : va_G} {aC : Nat → ClassId} {ad : Nat → Nat} {M : Nat} {A : Nat → Prop} {q : x_T × Nat × x_W} (C0 : x_At p s m meth c args "WallDamp$Material" b_Material_init none 1 D aC A) (hin : meth.name = "<init>") (hAo : x_Ao s) (hlin : x_Lin ad M) : ∀ (T : x_T) (nx : Nat) (w : x_W) (H : Heap) (locs : List Loc) (ls : Array Slot) (l0 : Nat), f_Material_init M T nx w l0 = some q → H.size = ad nx → x_H D x_cl x_FT aC ad T nx A w H → va_S A s.heap H locs → lv_has ls 1 [(0, .ref (ad l0))] → W p l e { frames := 2, cells := 3, slots := 20, locals := 42 } s m args below meth c H locs 0 0 (MQ below (x_Qn D aC ad q A) args s 3 20 A) (F0 m 0 ls []) := by
  obtain ⟨hx, hb, hr, hml, hown, hts, hlocks, hK, hA, hX⟩ := id C0
  intro T nx w H locs ls l0 hf hz hH hS hl
  unfold f_Material_init at hf
  refine lv_aload_n hx hb d_Material_init_0 rfl (lv_at hl 0 rfl) ?_
  refine W.objInit hx hb hown (hts _ m_39) (hts _ m_25) (hts _ m_26) (g := F0 m 1 ls (.ref (ad l0) :: [])) rfl (hl.1.trans hml.symm) rfl d_Material_init_1 (Nat.le_of_ble_eq_true rfl) (Nat.le_of_ble_eq_true rfl) ?_
  refine lv_aload_n hx hb d_Material_init_4 rfl (lv_at hl 0 rfl) ?_
  obtain ⟨_, e1, hf⟩ := x_b hf
  refine x_new (C := "WallDamp$Corners") (F := F_Corners) (N := 4) (ci := 3) hx hb hts i_Corners t_Corners ty_Corners hown (hts _ m_40) (hts _ m_41) (hts _ m_4) hK hH hS hA hz (by decide) rfl df_Corners (by show _ ≤ 3; omega) (by show _ ≤ 20; omega) d_Material_init_5 (fun H hz1 hH hS => ?_)
  have hz := x_lin hlin e1 hz1
  obtain ⟨T3, e2, hf⟩ := x_b hf
  have hH := x_nT e2 hH
  refine lv_dup hx hb d_Material_init_8 rfl ?_
  refine lv_bipush (v := 7) hx hb d_Material_init_9 (by decide) ?_
  obtain ⟨q4, e5, hf⟩ := x_b hf
  refine x_callN (va_runI (As := [.int (7 : Int32)]) (rest := [.ref (ad nx), .ref (ad l0)]) ⟨hx, hb, hml, hown, hts⟩ (c_Corners_init l D aC ad M hlin T3 (nx + 1) w nx (7 : Int32) q4 e5) (cwI 1 hts (x_gI m_44) rfl rfl rfl (hts _ m_4) (hts _ m_42) (hts _ m_43) rfl pd_Corners_init ⟨Nat.le_of_ble_eq_true rfl, Nat.le_of_ble_eq_true rfl⟩) (x_preN hz hH hK hX hAo) rfl rfl hl.1 rfl (lv_room (Nat.le_of_ble_eq_true rfl)) d_Material_init_11 ⟨(by show _ ≤ 3; omega), (by show _ ≤ 20; omega)⟩) hz hH hA hS (fun H locs hz hH hS => ?_)
  refine x_pc 14 rfl ?_
  refine x_cs 3 20 rfl rfl ?_
  obtain ⟨_, e6, hf⟩ := x_b hf
  obtain ⟨n7, hT8⟩ := x_is_e e6
  obtain ⟨_, e9, hf⟩ := x_b hf
  refine x_putFZ (C := "WallDamp$Material") (F := F_Material) (N := 4) (ty := t_Material 0) (v := .ref (ad nx)) (w' := x_sR q4.2.2 34 l0 (some nx)) hx hb hts i_Material t_Material ty_Material n_Material hown hK hH hS hT8 (by decide) rfl rfl 0 (by decide) (hts _ m_65) (fun _ h9 => h9) rfl hin rfl (ty_Material 0 (by decide)) rfl rfl (x_on_R (v := some nx) hT8 (by decide) rfl nd_Material k3_Material) (fun j hj => x_off_R hj) (fun hh => x_ok_R hh (x_ex_lt e9 hH)) d_Material_init_14 (fun H locs hz1 hH hS => ?_)
  have hz := hz1.trans hz
  obtain ⟨w10, e11, hf⟩ := x_b hf
  have hH := x_nw e11 hH
  refine lv_aload_n hx hb d_Material_init_17 rfl (lv_at hl 0 rfl) ?_
  obtain ⟨a12, e13, hf⟩ := x_b hf
  refine x_get (C := "WallDamp$Material") (F := F_Material) (N := 4) hx hb hts i_Material hown hK hH hT8 (by decide) rfl 0 (by decide) (hts _ m_65) (fun _ h9 => h9) (kd := (2, 34)) rfl (x_fr e13) d_Material_init_18 ?_
  refine lv_iconst (v := 0) hx hb d_Material_init_21 (by decide) ?_
  refine lv_iconst (v := 0) hx hb d_Material_init_22 (by decide) ?_
  obtain ⟨_, e16, hf⟩ := x_b hf
  obtain ⟨n17, hT18⟩ := x_is_e e16
  obtain ⟨q14, e15, hf⟩ := x_b hf
  refine x_callZ (st1 := [.int q14.1]) (x_runV (As := [.int (0 : Int32), .int (0 : Int32)]) (rest := []) ⟨hx, hb, hml, hown, hts⟩ (c_Corners_add l D aC ad q4.1 q4.2.1 H.size w10 a12 (0 : Int32) (0 : Int32) q14 e15) (cwV 2 hts (x_gV m_61 m_62 m_63 m_4 m_64) rfl rfl rfl ⟨rfl, pd_Corners_add⟩ ⟨Nat.le_of_ble_eq_true rfl, Nat.le_of_ble_eq_true rfl⟩) hH hK hX hT18 (by decide) rfl rfl rfl hl.1 rfl (lv_room (Nat.le_of_ble_eq_true rfl)) d_Material_init_23 ⟨(by show _ ≤ 3; omega), (by show _ ≤ 20; omega)⟩) rfl hH hA hS (fun H locs hz1 hH hS => ?_)
  have hz := hz1.trans hz
  refine lv_pop hx hb d_Material_init_26 rfl ?_
  refine lv_aload_n hx hb d_Material_init_27 rfl (lv_at hl 0 rfl) ?_
  refine x_pc 28 rfl ?_
  refine x_cs 3 20 rfl rfl ?_
  refine lv_iconst (v := 0) hx hb d_Material_init_28 (by decide) ?_
  refine x_putZ (C := "WallDamp$Material") (F := F_Material) (N := 4) (ty := t_Material 1) (v := .int (0 : Int32)) (w' := x_sI q14.2 35 l0 (0 : Int32)) hx hb hts i_Material t_Material ty_Material n_Material hown hK hH hS hT8 (by decide) rfl rfl 1 (by decide) (hts _ m_68) (fun _ h9 => h9) rfl (ty_Material 1 (by decide)) rfl rfl (x_on_I hT8 (by decide) rfl nd_Material) (fun j hj => x_off_I hj) (fun hh ok => x_ok_I hh ok) d_Material_init_29 (fun H locs hz1 hH hS => ?_)
  have hz := hz1.trans hz
  obtain ⟨w19, e20, hf⟩ := x_b hf
  have hH := x_nw e20 hH
  refine lv_aload_n hx hb d_Material_init_32 rfl (lv_at hl 0 rfl) ?_
  refine lv_iconst (v := 0) hx hb d_Material_init_33 (by decide) ?_
  refine x_putZ (C := "WallDamp$Material") (F := F_Material) (N := 4) (ty := t_Material 2) (v := .int (0 : Int32)) (w' := x_sI w19 36 l0 (0 : Int32)) hx hb hts i_Material t_Material ty_Material n_Material hown hK hH hS hT8 (by decide) rfl rfl 2 (by decide) (hts _ m_71) (fun _ h9 => h9) rfl (ty_Material 2 (by decide)) rfl rfl (x_on_I hT8 (by decide) rfl nd_Material) (fun j hj => x_off_I hj) (fun hh ok => x_ok_I hh ok) d_Material_init_34 (fun H locs hz1 hH hS => ?_)
  have hz := hz1.trans hz
  obtain ⟨w21, e22, hf⟩ := x_b hf
  have hH := x_nw e22 hH
  refine lv_aload_n hx hb d_Material_init_37 rfl (lv_at hl 0 rfl) ?_
  refine lv_bipush (v := 100) hx hb d_Material_init_38 (by decide) ?_
  refine x_putZ (C := "WallDamp$Material") (F := F_Material) (N := 4) (ty := t_Material 3) (v := .int (100 : Int32)) (w' := x_sI w21 37 l0 (100 : Int32)) hx hb hts i_Material t_Material ty_Material n_Material hown hK hH hS hT8 (by decide) rfl rfl 3 (by decide) (hts _ m_74) (fun _ h9 => h9) rfl (ty_Material 3 (by decide)) rfl rfl (x_on_I hT8 (by decide) rfl nd_Material) (fun j hj => x_off_I hj) (fun hh ok => x_ok_I hh ok) d_Material_init_40 (fun H locs hz1 hH hS => ?_)
  have hz := hz1.trans hz
  obtain ⟨w23, e24, hf⟩ := x_b hf
  have hH := x_nw e24 hH
  refine x_pc 43 rfl ?_
  refine x_cs 3 20 rfl rfl ?_
  cases hf
  refine W.widen (k := 3) (n := 20) (by omega) (by omega) ?_
  exact W.vret hx hb hr (fun t ht hW => ⟨rfl, hS.F ht, by rw [ht]; exact hz, by rw [ht]; exact hH⟩) hS.2.2 d_Material_init_43
theorem c_Material_init (l : Launch) (D : va_G) (aC : Nat → ClassId) (ad : Nat → Nat) (M : Nat) (hlin : x_Lin ad M) (T : x_T) (nx : Nat) (w : x_W) (a0 : Nat) (q : x_T × Nat × x_W) (hf : f_Material_init M T nx w a0 = some q) : Met l y_Material_init ws_Material_init { frames := 2, cells := 3, slots := 20, locals := 42 } (x_Pn D aC ad T nx w [.ref (ad a0)]) (x_Qn D aC ad q (x_dom ad nx (ad nx))) 3 20 (x_dom ad nx (ad nx)) :=
  x_metN [(0, .ref (ad a0))] (by decide) rfl rfl rfl (Nat.le_of_ble_eq_true rfl) (fun p e s m args below meth c ls C0 hin hAo hz hH hS hl => k_Material_init C0 hin hAo hlin T nx w _ _ _ a0 hf hz hH hS (lv_sub hl [0] rfl))
/-! WallDamp$Surroundings.<init>()V -/
def f_Surroundings_init (M : Nat) (T : x_T) (nx : Nat) (w : x_W) (l0 : Nat) : Option (x_T × Nat × x_W) :=
  (x_lt nx M).bind fun _ =>
  (some (x_uT T nx 3 0)).bind fun T3 =>
  (f_Corners_init M T3 (nx + 1) w nx (8 : Int32)).bind fun q4 =>
  (x_is q4.1 l0 7).bind fun _ =>
  (x_ex q4.1 nx).bind fun _ =>
  (some (x_sR q4.2.2 43 l0 (some nx))).bind fun w10 =>
  (x_lt q4.2.1 M).bind fun _ =>
  (x_sz (24 : Int32) 24).bind fun n14 =>
  (some (x_uT q4.1 q4.2.1 100 n14)).bind fun T19 =>
  (x_is T19 l0 7).bind fun _ =>
  (x_ex T19 q4.2.1).bind fun _ =>
  (some (x_sR w10 44 l0 (some q4.2.1))).bind fun w24 =>
  (x_lt (q4.2.1 + 1) M).bind fun _ =>
  (x_sz (24 : Int32) 24).bind fun n28 =>
  (some (x_uT T19 (q4.2.1 + 1) 100 n28)).bind fun T33 =>
  (x_is T33 l0 7).bind fun _ =>
  (x_ex T33 (q4.2.1 + 1)).bind fun _ =>
  (some (x_sR w24 45 l0 (some (q4.2.1 + 1)))).bind fun w38 =>
  (x_lt (q4.2.1 + 2) M).bind fun _ =>
  (x_sz (24 : Int32) 24).bind fun n42 =>
  (some (x_uT T33 (q4.2.1 + 2) 100 n42)).bind fun T47 =>
  (x_is T47 l0 7).bind fun _ =>
  (x_ex T47 (q4.2.1 + 2)).bind fun _ =>
  (some (x_sR w38 46 l0 (some (q4.2.1 + 2)))).bind fun w52 =>
  (x_lt (q4.2.1 + 3) M).bind fun _ =>
  (x_sz (24 : Int32) 24).bind fun n56 =>
  (some (x_uT T47 (q4.2.1 + 3) 100 n56)).bind fun T61 =>
  (x_is T61 l0 7).bind fun _ =>
  (x_ex T61 (q4.2.1 + 3)).bind fun _ =>
  (some (x_sR w52 47 l0 (some (q4.2.1 + 3)))).bind fun w66 =>
  (x_lt (q4.2.1 + 4) M).bind fun _ =>
  (x_sz (24 : Int32) 24).bind fun n70 =>
  (some (x_uT T61 (q4.2.1 + 4) 100 n70)).bind fun T75 =>
  (x_is T75 l0 7).bind fun _ =>
  (x_ex T75 (q4.2.1 + 4)).bind fun _ =>
  (some (x_sR w66 48 l0 (some (q4.2.1 + 4)))).bind fun w80 =>
  (x_lt (q4.2.1 + 5) M).bind fun _ =>
  (x_sz (24 : Int32) 24).bind fun n84 =>
  (some (x_uT T75 (q4.2.1 + 5) 100 n84)).bind fun T89 =>
  (x_is T89 l0 7).bind fun _ =>
  (x_ex T89 (q4.2.1 + 5)).bind fun _ =>
  (some (x_sR w80 49 l0 (some (q4.2.1 + 5)))).bind fun w94 =>
  (some (x_sI w94 50 l0 (10 : Int32))).bind fun w96 =>
  (some (x_sI w96 51 l0 (10 : Int32))).bind fun w98 =>
  some (T89, (q4.2.1 + 6), w98)
set_option maxHeartbeats 4000000 in
set_option maxRecDepth 100000 in
theorem k_Surroundings_init {p : Program} {l : Launch} {e : Env} {s : State} {m : MethodId} {args : Array Value} {below : List Frame} {meth : Method} {c : Code} {D : va_G} {aC : Nat → ClassId} {ad : Nat → Nat} {M : Nat} {A : Nat → Prop} {q : x_T × Nat × x_W} (C0 : x_At p s m meth c args "WallDamp$Surroundings" b_Surroundings_init none 1 D aC A) (hin : meth.name = "<init>") (hAo : x_Ao s) (hlin : x_Lin ad M) : ∀ (T : x_T) (nx : Nat) (w : x_W) (H : Heap) (locs : List Loc) (ls : Array Slot) (l0 : Nat), f_Surroundings_init M T nx w l0 = some q → H.size = ad nx → x_H D x_cl x_FT aC ad T nx A w H → va_S A s.heap H locs → lv_has ls 1 [(0, .ref (ad l0))] → W p l e { frames := 2, cells := 9, slots := 164, locals := 42 } s m args below meth c H locs 0 0 (MQ below (x_Qn D aC ad q A) args s 9 164 A) (F0 m 0 ls []) := by
  obtain ⟨hx, hb, hr, hml, hown, hts, hlocks, hK, hA, hX⟩ := id C0
  intro T nx w H locs ls l0 hf hz hH hS hl
  unfold f_Surroundings_init at hf
  refine lv_aload_n hx hb d_Surroundings_init_0 rfl (lv_at hl 0 rfl) ?_
  refine W.objInit hx hb hown (hts _ m_91) (hts _ m_25) (hts _ m_26) (g := F0 m 1 ls (.ref (ad l0) :: [])) rfl (hl.1.trans hml.symm) rfl d_Surroundings_init_1 (Nat.le_of_ble_eq_true rfl) (Nat.le_of_ble_eq_true rfl) ?_
  refine lv_aload_n hx hb d_Surroundings_init_4 rfl (lv_at hl 0 rfl) ?_
  obtain ⟨_, e1, hf⟩ := x_b hf
  refine x_new (C := "WallDamp$Corners") (F := F_Corners) (N := 4) (ci := 3) hx hb hts i_Corners t_Corners ty_Corners hown (hts _ m_92) (hts _ m_41) (hts _ m_4) hK hH hS hA hz (by decide) rfl df_Corners (by show _ ≤ 9; omega) (by show _ ≤ 164; omega) d_Surroundings_init_5 (fun H hz1 hH hS => ?_)
  have hz := x_lin hlin e1 hz1
  obtain ⟨T3, e2, hf⟩ := x_b hf
  have hH := x_nT e2 hH
  refine lv_dup hx hb d_Surroundings_init_8 rfl ?_
  refine lv_bipush (v := 8) hx hb d_Surroundings_init_9 (by decide) ?_
  obtain ⟨q4, e5, hf⟩ := x_b hf
  refine x_callN (va_runI (As := [.int (8 : Int32)]) (rest := [.ref (ad nx), .ref (ad l0)]) ⟨hx, hb, hml, hown, hts⟩ (c_Corners_init l D aC ad M hlin T3 (nx + 1) w nx (8 : Int32) q4 e5) (cwI 1 hts (x_gI m_44) rfl rfl rfl (hts _ m_4) (hts _ m_93) (hts _ m_43) rfl pd_Corners_init ⟨Nat.le_of_ble_eq_true rfl, Nat.le_of_ble_eq_true rfl⟩) (x_preN hz hH hK hX hAo) rfl rfl hl.1 rfl (lv_room (Nat.le_of_ble_eq_true rfl)) d_Surroundings_init_11 ⟨(by show _ ≤ 9; omega), (by show _ ≤ 164; omega)⟩) hz hH hA hS (fun H locs hz hH hS => ?_)
  refine x_pc 14 rfl ?_
  refine x_cs 3 20 rfl rfl ?_
  obtain ⟨_, e6, hf⟩ := x_b hf
  obtain ⟨n7, hT8⟩ := x_is_e e6
  obtain ⟨_, e9, hf⟩ := x_b hf
  refine x_putFZ (C := "WallDamp$Surroundings") (F := F_Surroundings) (N := 9) (ty := t_Surroundings 0) (v := .ref (ad nx)) (w' := x_sR q4.2.2 43 l0 (some nx)) hx hb hts i_Surroundings t_Surroundings ty_Surroundings n_Surroundings hown hK hH hS hT8 (by decide) rfl rfl 0 (by decide) (hts _ m_94) (fun _ h9 => h9) rfl hin rfl (ty_Surroundings 0 (by decide)) rfl rfl (x_on_R (v := some nx) hT8 (by decide) rfl nd_Surroundings k3_Surroundings) (fun j hj => x_off_R hj) (fun hh => x_ok_R hh (x_ex_lt e9 hH)) d_Surroundings_init_14 (fun H locs hz1 hH hS => ?_)
  have hz := hz1.trans hz
  obtain ⟨w10, e11, hf⟩ := x_b hf
  have hH := x_nw e11 hH
  refine lv_aload_n hx hb d_Surroundings_init_17 rfl (lv_at hl 0 rfl) ?_
  refine lv_bipush (v := 24) hx hb d_Surroundings_init_18 (by decide) ?_
  obtain ⟨_, e12, hf⟩ := x_b hf
  obtain ⟨n14, e13, hf⟩ := x_b hf
  obtain ⟨hn15, hN16, hM17⟩ := x_sz_e e13
  refine x_newa (atype := .int) (ci := 100) hx hb (hts _ m_60) hK hH hS hA hz 0 rfl (fun h => h) hn15 hN16 (by show n14 * 4 ≤ _; omega) (by show _ ≤ 9; omega) (by show _ ≤ 164; omega) (Or.inl ⟨x_cell_a (by simp [x_uT]), rfl⟩) d_Surroundings_init_20 (fun H hz1 hH hS => ?_)
  have hz := x_lin hlin e12 hz1
  obtain ⟨T19, e18, hf⟩ := x_b hf
  have hH := x_nT e18 hH
  refine W.widen (k := 4) (n := 44) (by omega) (by omega) ?_
  obtain ⟨_, e20, hf⟩ := x_b hf
  obtain ⟨n21, hT22⟩ := x_is_e e20
  obtain ⟨_, e23, hf⟩ := x_b hf
  refine x_putFZ (C := "WallDamp$Surroundings") (F := F_Surroundings) (N := 9) (ty := t_Surroundings 1) (v := .ref (ad q4.2.1)) (w' := x_sR w10 44 l0 (some q4.2.1)) hx hb hts i_Surroundings t_Surroundings ty_Surroundings n_Surroundings hown hK hH hS hT22 (by decide) rfl rfl 1 (by decide) (hts _ m_96) (fun _ h9 => h9) rfl hin rfl (ty_Surroundings 1 (by decide)) rfl rfl (x_on_R (v := some q4.2.1) hT22 (by decide) rfl nd_Surroundings k3_Surroundings) (fun j hj => x_off_R hj) (fun hh => x_ok_R hh (x_ex_lt e23 hH)) d_Surroundings_init_22 (fun H locs hz1 hH hS => ?_)
  have hz := hz1.trans hz
  obtain ⟨w24, e25, hf⟩ := x_b hf
  have hH := x_nw e25 hH
  refine lv_aload_n hx hb d_Surroundings_init_25 rfl (lv_at hl 0 rfl) ?_
  refine lv_bipush (v := 24) hx hb d_Surroundings_init_26 (by decide) ?_
  obtain ⟨_, e26, hf⟩ := x_b hf
  obtain ⟨n28, e27, hf⟩ := x_b hf
  obtain ⟨hn29, hN30, hM31⟩ := x_sz_e e27
  refine x_newa (atype := .int) (ci := 100) hx hb (hts _ m_60) hK hH hS hA hz 0 rfl (fun h => h) hn29 hN30 (by show n28 * 4 ≤ _; omega) (by show _ ≤ 9; omega) (by show _ ≤ 164; omega) (Or.inl ⟨x_cell_a (by simp [x_uT]), rfl⟩) d_Surroundings_init_28 (fun H hz1 hH hS => ?_)
  have hz := x_lin hlin e26 hz1
  obtain ⟨T33, e32, hf⟩ := x_b hf
  have hH := x_nT e32 hH
  refine W.widen (k := 5) (n := 68) (by omega) (by omega) ?_
  refine x_pc 30 rfl ?_
  refine x_cs 5 68 rfl rfl ?_
  obtain ⟨_, e34, hf⟩ := x_b hf
  obtain ⟨n35, hT36⟩ := x_is_e e34
  obtain ⟨_, e37, hf⟩ := x_b hf
  refine x_putFZ (C := "WallDamp$Surroundings") (F := F_Surroundings) (N := 9) (ty := t_Surroundings 2) (v := .ref (ad (q4.2.1 + 1))) (w' := x_sR w24 45 l0 (some (q4.2.1 + 1))) hx hb hts i_Surroundings t_Surroundings ty_Surroundings n_Surroundings hown hK hH hS hT36 (by decide) rfl rfl 2 (by decide) (hts _ m_99) (fun _ h9 => h9) rfl hin rfl (ty_Surroundings 2 (by decide)) rfl rfl (x_on_R (v := some (q4.2.1 + 1)) hT36 (by decide) rfl nd_Surroundings k3_Surroundings) (fun j hj => x_off_R hj) (fun hh => x_ok_R hh (x_ex_lt e37 hH)) d_Surroundings_init_30 (fun H locs hz1 hH hS => ?_)
  have hz := hz1.trans hz
  obtain ⟨w38, e39, hf⟩ := x_b hf
  have hH := x_nw e39 hH
  refine lv_aload_n hx hb d_Surroundings_init_33 rfl (lv_at hl 0 rfl) ?_
  refine lv_bipush (v := 24) hx hb d_Surroundings_init_34 (by decide) ?_
  obtain ⟨_, e40, hf⟩ := x_b hf
  obtain ⟨n42, e41, hf⟩ := x_b hf
  obtain ⟨hn43, hN44, hM45⟩ := x_sz_e e41
  refine x_newa (atype := .int) (ci := 100) hx hb (hts _ m_60) hK hH hS hA hz 0 rfl (fun h => h) hn43 hN44 (by show n42 * 4 ≤ _; omega) (by show _ ≤ 9; omega) (by show _ ≤ 164; omega) (Or.inl ⟨x_cell_a (by simp [x_uT]), rfl⟩) d_Surroundings_init_36 (fun H hz1 hH hS => ?_)
  have hz := x_lin hlin e40 hz1
  obtain ⟨T47, e46, hf⟩ := x_b hf
  have hH := x_nT e46 hH
  refine W.widen (k := 6) (n := 92) (by omega) (by omega) ?_
  obtain ⟨_, e48, hf⟩ := x_b hf
  obtain ⟨n49, hT50⟩ := x_is_e e48
  obtain ⟨_, e51, hf⟩ := x_b hf
  refine x_putFZ (C := "WallDamp$Surroundings") (F := F_Surroundings) (N := 9) (ty := t_Surroundings 3) (v := .ref (ad (q4.2.1 + 2))) (w' := x_sR w38 46 l0 (some (q4.2.1 + 2))) hx hb hts i_Surroundings t_Surroundings ty_Surroundings n_Surroundings hown hK hH hS hT50 (by decide) rfl rfl 3 (by decide) (hts _ m_102) (fun _ h9 => h9) rfl hin rfl (ty_Surroundings 3 (by decide)) rfl rfl (x_on_R (v := some (q4.2.1 + 2)) hT50 (by decide) rfl nd_Surroundings k3_Surroundings) (fun j hj => x_off_R hj) (fun hh => x_ok_R hh (x_ex_lt e51 hH)) d_Surroundings_init_38 (fun H locs hz1 hH hS => ?_)
  have hz := hz1.trans hz
  obtain ⟨w52, e53, hf⟩ := x_b hf
  have hH := x_nw e53 hH
  refine lv_aload_n hx hb d_Surroundings_init_41 rfl (lv_at hl 0 rfl) ?_
  refine lv_bipush (v := 24) hx hb d_Surroundings_init_42 (by decide) ?_
  obtain ⟨_, e54, hf⟩ := x_b hf
  obtain ⟨n56, e55, hf⟩ := x_b hf
  obtain ⟨hn57, hN58, hM59⟩ := x_sz_e e55
  refine x_newa (atype := .int) (ci := 100) hx hb (hts _ m_60) hK hH hS hA hz 0 rfl (fun h => h) hn57 hN58 (by show n56 * 4 ≤ _; omega) (by show _ ≤ 9; omega) (by show _ ≤ 164; omega) (Or.inl ⟨x_cell_a (by simp [x_uT]), rfl⟩) d_Surroundings_init_44 (fun H hz1 hH hS => ?_)
  have hz := x_lin hlin e54 hz1
  obtain ⟨T61, e60, hf⟩ := x_b hf
  have hH := x_nT e60 hH
  refine W.widen (k := 7) (n := 116) (by omega) (by omega) ?_
  refine x_pc 46 rfl ?_
  refine x_cs 7 116 rfl rfl ?_
  obtain ⟨_, e62, hf⟩ := x_b hf
  obtain ⟨n63, hT64⟩ := x_is_e e62
  obtain ⟨_, e65, hf⟩ := x_b hf
  refine x_putFZ (C := "WallDamp$Surroundings") (F := F_Surroundings) (N := 9) (ty := t_Surroundings 4) (v := .ref (ad (q4.2.1 + 3))) (w' := x_sR w52 47 l0 (some (q4.2.1 + 3))) hx hb hts i_Surroundings t_Surroundings ty_Surroundings n_Surroundings hown hK hH hS hT64 (by decide) rfl rfl 4 (by decide) (hts _ m_105) (fun _ h9 => h9) rfl hin rfl (ty_Surroundings 4 (by decide)) rfl rfl (x_on_R (v := some (q4.2.1 + 3)) hT64 (by decide) rfl nd_Surroundings k3_Surroundings) (fun j hj => x_off_R hj) (fun hh => x_ok_R hh (x_ex_lt e65 hH)) d_Surroundings_init_46 (fun H locs hz1 hH hS => ?_)
  have hz := hz1.trans hz
  obtain ⟨w66, e67, hf⟩ := x_b hf
  have hH := x_nw e67 hH
  refine lv_aload_n hx hb d_Surroundings_init_49 rfl (lv_at hl 0 rfl) ?_
  refine lv_bipush (v := 24) hx hb d_Surroundings_init_50 (by decide) ?_
  obtain ⟨_, e68, hf⟩ := x_b hf
  obtain ⟨n70, e69, hf⟩ := x_b hf
  obtain ⟨hn71, hN72, hM73⟩ := x_sz_e e69
  refine x_newa (atype := .int) (ci := 100) hx hb (hts _ m_60) hK hH hS hA hz 0 rfl (fun h => h) hn71 hN72 (by show n70 * 4 ≤ _; omega) (by show _ ≤ 9; omega) (by show _ ≤ 164; omega) (Or.inl ⟨x_cell_a (by simp [x_uT]), rfl⟩) d_Surroundings_init_52 (fun H hz1 hH hS => ?_)
  have hz := x_lin hlin e68 hz1
  obtain ⟨T75, e74, hf⟩ := x_b hf
  have hH := x_nT e74 hH
  refine W.widen (k := 8) (n := 140) (by omega) (by omega) ?_
  obtain ⟨_, e76, hf⟩ := x_b hf
  obtain ⟨n77, hT78⟩ := x_is_e e76
  obtain ⟨_, e79, hf⟩ := x_b hf
  refine x_putFZ (C := "WallDamp$Surroundings") (F := F_Surroundings) (N := 9) (ty := t_Surroundings 5) (v := .ref (ad (q4.2.1 + 4))) (w' := x_sR w66 48 l0 (some (q4.2.1 + 4))) hx hb hts i_Surroundings t_Surroundings ty_Surroundings n_Surroundings hown hK hH hS hT78 (by decide) rfl rfl 5 (by decide) (hts _ m_108) (fun _ h9 => h9) rfl hin rfl (ty_Surroundings 5 (by decide)) rfl rfl (x_on_R (v := some (q4.2.1 + 4)) hT78 (by decide) rfl nd_Surroundings k3_Surroundings) (fun j hj => x_off_R hj) (fun hh => x_ok_R hh (x_ex_lt e79 hH)) d_Surroundings_init_54 (fun H locs hz1 hH hS => ?_)
  have hz := hz1.trans hz
  obtain ⟨w80, e81, hf⟩ := x_b hf
  have hH := x_nw e81 hH
  refine lv_aload_n hx hb d_Surroundings_init_57 rfl (lv_at hl 0 rfl) ?_
  refine lv_bipush (v := 24) hx hb d_Surroundings_init_58 (by decide) ?_
  obtain ⟨_, e82, hf⟩ := x_b hf
  obtain ⟨n84, e83, hf⟩ := x_b hf
  obtain ⟨hn85, hN86, hM87⟩ := x_sz_e e83
  refine x_newa (atype := .int) (ci := 100) hx hb (hts _ m_60) hK hH hS hA hz 0 rfl (fun h => h) hn85 hN86 (by show n84 * 4 ≤ _; omega) (by show _ ≤ 9; omega) (by show _ ≤ 164; omega) (Or.inl ⟨x_cell_a (by simp [x_uT]), rfl⟩) d_Surroundings_init_60 (fun H hz1 hH hS => ?_)
  have hz := x_lin hlin e82 hz1
  obtain ⟨T89, e88, hf⟩ := x_b hf
  have hH := x_nT e88 hH
  refine W.widen (k := 9) (n := 164) (by omega) (by omega) ?_
  refine x_pc 62 rfl ?_
  refine x_cs 9 164 rfl rfl ?_
  obtain ⟨_, e90, hf⟩ := x_b hf
  obtain ⟨n91, hT92⟩ := x_is_e e90
  obtain ⟨_, e93, hf⟩ := x_b hf
  refine x_putFZ (C := "WallDamp$Surroundings") (F := F_Surroundings) (N := 9) (ty := t_Surroundings 6) (v := .ref (ad (q4.2.1 + 5))) (w' := x_sR w80 49 l0 (some (q4.2.1 + 5))) hx hb hts i_Surroundings t_Surroundings ty_Surroundings n_Surroundings hown hK hH hS hT92 (by decide) rfl rfl 6 (by decide) (hts _ m_111) (fun _ h9 => h9) rfl hin rfl (ty_Surroundings 6 (by decide)) rfl rfl (x_on_R (v := some (q4.2.1 + 5)) hT92 (by decide) rfl nd_Surroundings k3_Surroundings) (fun j hj => x_off_R hj) (fun hh => x_ok_R hh (x_ex_lt e93 hH)) d_Surroundings_init_62 (fun H locs hz1 hH hS => ?_)
  have hz := hz1.trans hz
  obtain ⟨w94, e95, hf⟩ := x_b hf
  have hH := x_nw e95 hH
  refine lv_aload_n hx hb d_Surroundings_init_65 rfl (lv_at hl 0 rfl) ?_
  refine lv_bipush (v := 10) hx hb d_Surroundings_init_66 (by decide) ?_
  refine x_putZ (C := "WallDamp$Surroundings") (F := F_Surroundings) (N := 9) (ty := t_Surroundings 7) (v := .int (10 : Int32)) (w' := x_sI w94 50 l0 (10 : Int32)) hx hb hts i_Surroundings t_Surroundings ty_Surroundings n_Surroundings hown hK hH hS hT92 (by decide) rfl rfl 7 (by decide) (hts _ m_114) (fun _ h9 => h9) rfl (ty_Surroundings 7 (by decide)) rfl rfl (x_on_I hT92 (by decide) rfl nd_Surroundings) (fun j hj => x_off_I hj) (fun hh ok => x_ok_I hh ok) d_Surroundings_init_68 (fun H locs hz1 hH hS => ?_)
  have hz := hz1.trans hz
  obtain ⟨w96, e97, hf⟩ := x_b hf
  have hH := x_nw e97 hH
  refine lv_aload_n hx hb d_Surroundings_init_71 rfl (lv_at hl 0 rfl) ?_
  refine lv_bipush (v := 10) hx hb d_Surroundings_init_72 (by decide) ?_
  refine x_putZ (C := "WallDamp$Surroundings") (F := F_Surroundings) (N := 9) (ty := t_Surroundings 8) (v := .int (10 : Int32)) (w' := x_sI w96 51 l0 (10 : Int32)) hx hb hts i_Surroundings t_Surroundings ty_Surroundings n_Surroundings hown hK hH hS hT92 (by decide) rfl rfl 8 (by decide) (hts _ m_117) (fun _ h9 => h9) rfl (ty_Surroundings 8 (by decide)) rfl rfl (x_on_I hT92 (by decide) rfl nd_Surroundings) (fun j hj => x_off_I hj) (fun hh ok => x_ok_I hh ok) d_Surroundings_init_74 (fun H locs hz1 hH hS => ?_)
  have hz := hz1.trans hz
  obtain ⟨w98, e99, hf⟩ := x_b hf
  have hH := x_nw e99 hH
  cases hf
  refine W.widen (k := 9) (n := 164) (by omega) (by omega) ?_
  exact W.vret hx hb hr (fun t ht hW => ⟨rfl, hS.F ht, by rw [ht]; exact hz, by rw [ht]; exact hH⟩) hS.2.2 d_Surroundings_init_77
theorem c_Surroundings_init (l : Launch) (D : va_G) (aC : Nat → ClassId) (ad : Nat → Nat) (M : Nat) (hlin : x_Lin ad M) (T : x_T) (nx : Nat) (w : x_W) (a0 : Nat) (q : x_T × Nat × x_W) (hf : f_Surroundings_init M T nx w a0 = some q) : Met l y_Surroundings_init ws_Surroundings_init { frames := 2, cells := 9, slots := 164, locals := 42 } (x_Pn D aC ad T nx w [.ref (ad a0)]) (x_Qn D aC ad q (x_dom ad nx (ad nx))) 9 164 (x_dom ad nx (ad nx)) :=
  x_metN [(0, .ref (ad a0))] (by decide) rfl rfl rfl (Nat.le_of_ble_eq_true rfl) (fun p e s m args below meth c ls C0 hin hAo hz hH hS hl => k_Surroundings_init C0 hin hAo hlin T nx w _ _ _ a0 hf hz hH hS (lv_sub hl [0] rfl))
/-! WallDamp$MouldRows.<init>()V -/
def f_MouldRows_init (M : Nat) (T : x_T) (nx : Nat) (w : x_W) (l0 : Nat) : Option (x_T × Nat × x_W) :=
  (x_lt nx M).bind fun _ =>
  (x_sz (6 : Int32) 6).bind fun n3 =>
  (some (x_uT T nx 100 n3)).bind fun T8 =>
  (x_is T8 l0 6).bind fun _ =>
  (x_ex T8 nx).bind fun _ =>
  (some (x_sR w 38 l0 (some nx))).bind fun w13 =>
  (x_lt (nx + 1) M).bind fun _ =>
  (x_sz (6 : Int32) 6).bind fun n17 =>
  (some (x_uT T8 (nx + 1) 100 n17)).bind fun T22 =>
  (x_is T22 l0 6).bind fun _ =>
  (x_ex T22 (nx + 1)).bind fun _ =>
  (some (x_sR w13 39 l0 (some (nx + 1)))).bind fun w27 =>
  (x_lt (nx + 2) M).bind fun _ =>
  (x_sz (6 : Int32) 6).bind fun n31 =>
  (some (x_uT T22 (nx + 2) 100 n31)).bind fun T36 =>
  (x_is T36 l0 6).bind fun _ =>
  (x_ex T36 (nx + 2)).bind fun _ =>
  (some (x_sR w27 40 l0 (some (nx + 2)))).bind fun w41 =>
  (x_lt (nx + 3) M).bind fun _ =>
  (x_sz (6 : Int32) 6).bind fun n45 =>
  (some (x_uT T36 (nx + 3) 100 n45)).bind fun T50 =>
  (x_is T50 l0 6).bind fun _ =>
  (x_ex T50 (nx + 3)).bind fun _ =>
  (some (x_sR w41 41 l0 (some (nx + 3)))).bind fun w55 =>
  (some (x_sI w55 42 l0 (0 : Int32))).bind fun w57 =>
  some (T50, (nx + 4), w57)
set_option maxHeartbeats 4000000 in
set_option maxRecDepth 100000 in
theorem k_MouldRows_init {p : Program} {l : Launch} {e : Env} {s : State} {m : MethodId} {args : Array Value} {below : List Frame} {meth : Method} {c : Code} {D : va_G} {aC : Nat → ClassId} {ad : Nat → Nat} {M : Nat} {A : Nat → Prop} {q : x_T × Nat × x_W} (C0 : x_At p s m meth c args "WallDamp$MouldRows" b_MouldRows_init none 1 D aC A) (hin : meth.name = "<init>") (hAo : x_Ao s) (hlin : x_Lin ad M) : ∀ (T : x_T) (nx : Nat) (w : x_W) (H : Heap) (locs : List Loc) (ls : Array Slot) (l0 : Nat), f_MouldRows_init M T nx w l0 = some q → H.size = ad nx → x_H D x_cl x_FT aC ad T nx A w H → va_S A s.heap H locs → lv_has ls 1 [(0, .ref (ad l0))] → W p l e { frames := 1, cells := 4, slots := 24, locals := 20 } s m args below meth c H locs 0 0 (MQ below (x_Qn D aC ad q A) args s 4 24 A) (F0 m 0 ls []) := by
  obtain ⟨hx, hb, hr, hml, hown, hts, hlocks, hK, hA, hX⟩ := id C0
  intro T nx w H locs ls l0 hf hz hH hS hl
  unfold f_MouldRows_init at hf
  refine lv_aload_n hx hb d_MouldRows_init_0 rfl (lv_at hl 0 rfl) ?_
  refine W.objInit hx hb hown (hts _ m_144) (hts _ m_25) (hts _ m_26) (g := F0 m 1 ls (.ref (ad l0) :: [])) rfl (hl.1.trans hml.symm) rfl d_MouldRows_init_1 (Nat.le_of_ble_eq_true rfl) (Nat.le_of_ble_eq_true rfl) ?_
  refine lv_aload_n hx hb d_MouldRows_init_4 rfl (lv_at hl 0 rfl) ?_
  refine lv_bipush (v := 6) hx hb d_MouldRows_init_5 (by decide) ?_
  obtain ⟨_, e1, hf⟩ := x_b hf
  obtain ⟨n3, e2, hf⟩ := x_b hf
  obtain ⟨hn4, hN5, hM6⟩ := x_sz_e e2
  refine x_newa (atype := .int) (ci := 100) hx hb (hts _ m_60) hK hH hS hA hz 0 rfl (fun h => h) hn4 hN5 (by show n3 * 4 ≤ _; omega) (by show _ ≤ 4; omega) (by show _ ≤ 24; omega) (Or.inl ⟨x_cell_a (by simp [x_uT]), rfl⟩) d_MouldRows_init_7 (fun H hz1 hH hS => ?_)
  have hz := x_lin hlin e1 hz1
  obtain ⟨T8, e7, hf⟩ := x_b hf
  have hH := x_nT e7 hH
  refine W.widen (k := 1) (n := 6) (by omega) (by omega) ?_
  obtain ⟨_, e9, hf⟩ := x_b hf
  obtain ⟨n10, hT11⟩ := x_is_e e9
  obtain ⟨_, e12, hf⟩ := x_b hf
  refine x_putFZ (C := "WallDamp$MouldRows") (F := F_MouldRows) (N := 5) (ty := t_MouldRows 0) (v := .ref (ad nx)) (w' := x_sR w 38 l0 (some nx)) hx hb hts i_MouldRows t_MouldRows ty_MouldRows n_MouldRows hown hK hH hS hT11 (by decide) rfl rfl 0 (by decide) (hts _ m_145) (fun _ h9 => h9) rfl hin rfl (ty_MouldRows 0 (by decide)) rfl rfl (x_on_R (v := some nx) hT11 (by decide) rfl nd_MouldRows k3_MouldRows) (fun j hj => x_off_R hj) (fun hh => x_ok_R hh (x_ex_lt e12 hH)) d_MouldRows_init_9 (fun H locs hz1 hH hS => ?_)
  have hz := hz1.trans hz
  obtain ⟨w13, e14, hf⟩ := x_b hf
  have hH := x_nw e14 hH
  refine lv_aload_n hx hb d_MouldRows_init_12 rfl (lv_at hl 0 rfl) ?_
  refine x_pc 13 rfl ?_
  refine x_cs 1 6 rfl rfl ?_
  refine lv_bipush (v := 6) hx hb d_MouldRows_init_13 (by decide) ?_
  obtain ⟨_, e15, hf⟩ := x_b hf
  obtain ⟨n17, e16, hf⟩ := x_b hf
  obtain ⟨hn18, hN19, hM20⟩ := x_sz_e e16
  refine x_newa (atype := .int) (ci := 100) hx hb (hts _ m_60) hK hH hS hA hz 0 rfl (fun h => h) hn18 hN19 (by show n17 * 4 ≤ _; omega) (by show _ ≤ 4; omega) (by show _ ≤ 24; omega) (Or.inl ⟨x_cell_a (by simp [x_uT]), rfl⟩) d_MouldRows_init_15 (fun H hz1 hH hS => ?_)
  have hz := x_lin hlin e15 hz1
  obtain ⟨T22, e21, hf⟩ := x_b hf
  have hH := x_nT e21 hH
  refine W.widen (k := 2) (n := 12) (by omega) (by omega) ?_
  obtain ⟨_, e23, hf⟩ := x_b hf
  obtain ⟨n24, hT25⟩ := x_is_e e23
  obtain ⟨_, e26, hf⟩ := x_b hf
  refine x_putFZ (C := "WallDamp$MouldRows") (F := F_MouldRows) (N := 5) (ty := t_MouldRows 1) (v := .ref (ad (nx + 1))) (w' := x_sR w13 39 l0 (some (nx + 1))) hx hb hts i_MouldRows t_MouldRows ty_MouldRows n_MouldRows hown hK hH hS hT25 (by decide) rfl rfl 1 (by decide) (hts _ m_146) (fun _ h9 => h9) rfl hin rfl (ty_MouldRows 1 (by decide)) rfl rfl (x_on_R (v := some (nx + 1)) hT25 (by decide) rfl nd_MouldRows k3_MouldRows) (fun j hj => x_off_R hj) (fun hh => x_ok_R hh (x_ex_lt e26 hH)) d_MouldRows_init_17 (fun H locs hz1 hH hS => ?_)
  have hz := hz1.trans hz
  obtain ⟨w27, e28, hf⟩ := x_b hf
  have hH := x_nw e28 hH
  refine lv_aload_n hx hb d_MouldRows_init_20 rfl (lv_at hl 0 rfl) ?_
  refine lv_bipush (v := 6) hx hb d_MouldRows_init_21 (by decide) ?_
  obtain ⟨_, e29, hf⟩ := x_b hf
  obtain ⟨n31, e30, hf⟩ := x_b hf
  obtain ⟨hn32, hN33, hM34⟩ := x_sz_e e30
  refine x_newa (atype := .int) (ci := 100) hx hb (hts _ m_60) hK hH hS hA hz 0 rfl (fun h => h) hn32 hN33 (by show n31 * 4 ≤ _; omega) (by show _ ≤ 4; omega) (by show _ ≤ 24; omega) (Or.inl ⟨x_cell_a (by simp [x_uT]), rfl⟩) d_MouldRows_init_23 (fun H hz1 hH hS => ?_)
  have hz := x_lin hlin e29 hz1
  obtain ⟨T36, e35, hf⟩ := x_b hf
  have hH := x_nT e35 hH
  refine W.widen (k := 3) (n := 18) (by omega) (by omega) ?_
  obtain ⟨_, e37, hf⟩ := x_b hf
  obtain ⟨n38, hT39⟩ := x_is_e e37
  obtain ⟨_, e40, hf⟩ := x_b hf
  refine x_putFZ (C := "WallDamp$MouldRows") (F := F_MouldRows) (N := 5) (ty := t_MouldRows 2) (v := .ref (ad (nx + 2))) (w' := x_sR w27 40 l0 (some (nx + 2))) hx hb hts i_MouldRows t_MouldRows ty_MouldRows n_MouldRows hown hK hH hS hT39 (by decide) rfl rfl 2 (by decide) (hts _ m_147) (fun _ h9 => h9) rfl hin rfl (ty_MouldRows 2 (by decide)) rfl rfl (x_on_R (v := some (nx + 2)) hT39 (by decide) rfl nd_MouldRows k3_MouldRows) (fun j hj => x_off_R hj) (fun hh => x_ok_R hh (x_ex_lt e40 hH)) d_MouldRows_init_25 (fun H locs hz1 hH hS => ?_)
  have hz := hz1.trans hz
  obtain ⟨w41, e42, hf⟩ := x_b hf
  have hH := x_nw e42 hH
  refine lv_aload_n hx hb d_MouldRows_init_28 rfl (lv_at hl 0 rfl) ?_
  refine x_pc 29 rfl ?_
  refine x_cs 3 18 rfl rfl ?_
  refine lv_bipush (v := 6) hx hb d_MouldRows_init_29 (by decide) ?_
  obtain ⟨_, e43, hf⟩ := x_b hf
  obtain ⟨n45, e44, hf⟩ := x_b hf
  obtain ⟨hn46, hN47, hM48⟩ := x_sz_e e44
  refine x_newa (atype := .int) (ci := 100) hx hb (hts _ m_60) hK hH hS hA hz 0 rfl (fun h => h) hn46 hN47 (by show n45 * 4 ≤ _; omega) (by show _ ≤ 4; omega) (by show _ ≤ 24; omega) (Or.inl ⟨x_cell_a (by simp [x_uT]), rfl⟩) d_MouldRows_init_31 (fun H hz1 hH hS => ?_)
  have hz := x_lin hlin e43 hz1
  obtain ⟨T50, e49, hf⟩ := x_b hf
  have hH := x_nT e49 hH
  refine W.widen (k := 4) (n := 24) (by omega) (by omega) ?_
  obtain ⟨_, e51, hf⟩ := x_b hf
  obtain ⟨n52, hT53⟩ := x_is_e e51
  obtain ⟨_, e54, hf⟩ := x_b hf
  refine x_putFZ (C := "WallDamp$MouldRows") (F := F_MouldRows) (N := 5) (ty := t_MouldRows 3) (v := .ref (ad (nx + 3))) (w' := x_sR w41 41 l0 (some (nx + 3))) hx hb hts i_MouldRows t_MouldRows ty_MouldRows n_MouldRows hown hK hH hS hT53 (by decide) rfl rfl 3 (by decide) (hts _ m_148) (fun _ h9 => h9) rfl hin rfl (ty_MouldRows 3 (by decide)) rfl rfl (x_on_R (v := some (nx + 3)) hT53 (by decide) rfl nd_MouldRows k3_MouldRows) (fun j hj => x_off_R hj) (fun hh => x_ok_R hh (x_ex_lt e54 hH)) d_MouldRows_init_33 (fun H locs hz1 hH hS => ?_)
  have hz := hz1.trans hz
  obtain ⟨w55, e56, hf⟩ := x_b hf
  have hH := x_nw e56 hH
  refine lv_aload_n hx hb d_MouldRows_init_36 rfl (lv_at hl 0 rfl) ?_
  refine lv_iconst (v := 0) hx hb d_MouldRows_init_37 (by decide) ?_
  refine x_putZ (C := "WallDamp$MouldRows") (F := F_MouldRows) (N := 5) (ty := t_MouldRows 4) (v := .int (0 : Int32)) (w' := x_sI w55 42 l0 (0 : Int32)) hx hb hts i_MouldRows t_MouldRows ty_MouldRows n_MouldRows hown hK hH hS hT53 (by decide) rfl rfl 4 (by decide) (hts _ m_149) (fun _ h9 => h9) rfl (ty_MouldRows 4 (by decide)) rfl rfl (x_on_I hT53 (by decide) rfl nd_MouldRows) (fun j hj => x_off_I hj) (fun hh ok => x_ok_I hh ok) d_MouldRows_init_38 (fun H locs hz1 hH hS => ?_)
  have hz := hz1.trans hz
  obtain ⟨w57, e58, hf⟩ := x_b hf
  have hH := x_nw e58 hH
  cases hf
  refine W.widen (k := 4) (n := 24) (by omega) (by omega) ?_
  exact W.vret hx hb hr (fun t ht hW => ⟨rfl, hS.F ht, by rw [ht]; exact hz, by rw [ht]; exact hH⟩) hS.2.2 d_MouldRows_init_41
theorem c_MouldRows_init (l : Launch) (D : va_G) (aC : Nat → ClassId) (ad : Nat → Nat) (M : Nat) (hlin : x_Lin ad M) (T : x_T) (nx : Nat) (w : x_W) (a0 : Nat) (q : x_T × Nat × x_W) (hf : f_MouldRows_init M T nx w a0 = some q) : Met l y_MouldRows_init ws_MouldRows_init { frames := 1, cells := 4, slots := 24, locals := 20 } (x_Pn D aC ad T nx w [.ref (ad a0)]) (x_Qn D aC ad q (x_dom ad nx (ad nx))) 4 24 (x_dom ad nx (ad nx)) :=
  x_metN [(0, .ref (ad a0))] (by decide) rfl rfl rfl (Nat.le_of_ble_eq_true rfl) (fun p e s m args below meth c ls C0 hin hAo hz hH hS hl => k_MouldRows_init C0 hin hAo hlin T nx w _ _ _ a0 hf hz hH hS (lv_sub hl [0] rfl))
/-! WallDamp$Place.<init>()V -/
def f_Place_init (M : Nat) (T : x_T) (nx : Nat) (w : x_W) (l0 : Nat) : Option (x_T × Nat × x_W) :=
  (x_pl T l0).bind fun _ =>
  (some (x_sI w 0 l0 (0 : Int32))).bind fun w3 =>
  some (T, nx, w3)
set_option maxHeartbeats 4000000 in
set_option maxRecDepth 100000 in
theorem k_Place_init {p : Program} {l : Launch} {e : Env} {s : State} {m : MethodId} {args : Array Value} {below : List Frame} {meth : Method} {c : Code} {D : va_G} {aC : Nat → ClassId} {ad : Nat → Nat} {M : Nat} {A : Nat → Prop} {q : x_T × Nat × x_W} (C0 : x_At p s m meth c args "WallDamp$Place" b_Place_init none 1 D aC A) (hin : meth.name = "<init>") (hAo : x_Ao s) (hlin : x_Lin ad M) : ∀ (T : x_T) (nx : Nat) (w : x_W) (H : Heap) (locs : List Loc) (ls : Array Slot) (l0 : Nat), f_Place_init M T nx w l0 = some q → H.size = ad nx → x_H D x_cl x_FT aC ad T nx A w H → va_S A s.heap H locs → lv_has ls 1 [(0, .ref (ad l0))] → W p l e { frames := 1, cells := 0, slots := 0, locals := 20 } s m args below meth c H locs 0 0 (MQ below (x_Qn D aC ad q A) args s 0 0 A) (F0 m 0 ls []) := by
  obtain ⟨hx, hb, hr, hml, hown, hts, hlocks, hK, hA, hX⟩ := id C0
  intro T nx w H locs ls l0 hf hz hH hS hl
  unfold f_Place_init at hf
  refine lv_aload_n hx hb d_Place_init_0 rfl (lv_at hl 0 rfl) ?_
  refine W.objInit hx hb hown (hts _ m_176) (hts _ m_25) (hts _ m_26) (g := F0 m 1 ls (.ref (ad l0) :: [])) rfl (hl.1.trans hml.symm) rfl d_Place_init_1 (Nat.le_of_ble_eq_true rfl) (Nat.le_of_ble_eq_true rfl) ?_
  refine lv_aload_n hx hb d_Place_init_4 rfl (lv_at hl 0 rfl) ?_
  refine lv_iconst (v := 0) hx hb d_Place_init_5 (by decide) ?_
  obtain ⟨_, e1, hf⟩ := x_b hf
  have hT2 := x_pl_e e1
  refine x_putPIZ (v := (0 : Int32)) hx hb hts hown hK hH hS hT2 0 (by decide) rfl (hts _ m_181) (j := 0) rfl rfl rfl rfl d_Place_init_6 (fun H locs hz1 hH hS => ?_)
  have hz := hz1.trans hz
  obtain ⟨w3, e4, hf⟩ := x_b hf
  have hH := x_nw e4 hH
  cases hf
  refine W.widen (k := 0) (n := 0) (by omega) (by omega) ?_
  exact W.vret hx hb hr (fun t ht hW => ⟨rfl, hS.F ht, by rw [ht]; exact hz, by rw [ht]; exact hH⟩) hS.2.2 d_Place_init_9
theorem c_Place_init (l : Launch) (D : va_G) (aC : Nat → ClassId) (ad : Nat → Nat) (M : Nat) (hlin : x_Lin ad M) (T : x_T) (nx : Nat) (w : x_W) (a0 : Nat) (q : x_T × Nat × x_W) (hf : f_Place_init M T nx w a0 = some q) : Met l y_Place_init ws_Place_init { frames := 1, cells := 0, slots := 0, locals := 20 } (x_Pn D aC ad T nx w [.ref (ad a0)]) (x_Qn D aC ad q (x_dom ad nx (ad nx))) 0 0 (x_dom ad nx (ad nx)) :=
  x_metN [(0, .ref (ad a0))] (by decide) rfl rfl rfl (Nat.le_of_ble_eq_true rfl) (fun p e s m args below meth c ls C0 hin hAo hz hH hS hl => k_Place_init C0 hin hAo hlin T nx w _ _ _ a0 hf hz hH hS (lv_sub hl [0] rfl))
/-! WallDamp$Air.<init>()V -/
def f_Air_init (M : Nat) (T : x_T) (nx : Nat) (w : x_W) (l0 : Nat) : Option (x_T × Nat × x_W) :=
  (f_Place_init M T nx w l0).bind fun q1 =>
  (x_is q1.1 l0 1).bind fun _ =>
  (some (x_sJ q1.2.2 15 l0 (0 : Int64))).bind fun w6 =>
  (some (x_sJ w6 16 l0 (0 : Int64))).bind fun w8 =>
  some (q1.1, q1.2.1, w8)
set_option maxHeartbeats 4000000 in
set_option maxRecDepth 100000 in
theorem k_Air_init {p : Program} {l : Launch} {e : Env} {s : State} {m : MethodId} {args : Array Value} {below : List Frame} {meth : Method} {c : Code} {D : va_G} {aC : Nat → ClassId} {ad : Nat → Nat} {M : Nat} {A : Nat → Prop} {q : x_T × Nat × x_W} (C0 : x_At p s m meth c args "WallDamp$Air" b_Air_init none 1 D aC A) (hin : meth.name = "<init>") (hAo : x_Ao s) (hlin : x_Lin ad M) : ∀ (T : x_T) (nx : Nat) (w : x_W) (H : Heap) (locs : List Loc) (ls : Array Slot) (l0 : Nat), f_Air_init M T nx w l0 = some q → H.size = ad nx → x_H D x_cl x_FT aC ad T nx A w H → va_S A s.heap H locs → lv_has ls 1 [(0, .ref (ad l0))] → W p l e { frames := 2, cells := 0, slots := 0, locals := 40 } s m args below meth c H locs 0 0 (MQ below (x_Qn D aC ad q A) args s 0 0 A) (F0 m 0 ls []) := by
  obtain ⟨hx, hb, hr, hml, hown, hts, hlocks, hK, hA, hX⟩ := id C0
  intro T nx w H locs ls l0 hf hz hH hS hl
  unfold f_Air_init at hf
  refine lv_aload_n hx hb d_Air_init_0 rfl (lv_at hl 0 rfl) ?_
  obtain ⟨q1, e2, hf⟩ := x_b hf
  refine x_callN (va_runI (As := []) (rest := []) ⟨hx, hb, hml, hown, hts⟩ (c_Place_init l D aC ad M hlin T nx w l0 q1 e2) (cwI 0 hts (x_gI m_175) rfl rfl rfl (hts _ m_8) (hts _ m_173) (hts _ m_174) rfl pd_Place_init ⟨Nat.le_of_ble_eq_true rfl, Nat.le_of_ble_eq_true rfl⟩) (x_preN hz hH hK hX hAo) rfl rfl hl.1 rfl (lv_room (Nat.le_of_ble_eq_true rfl)) d_Air_init_1 ⟨(by show _ ≤ 0; omega), (by show _ ≤ 0; omega)⟩) hz hH hA hS (fun H locs hz hH hS => ?_)
  refine lv_aload_n hx hb d_Air_init_4 rfl (lv_at hl 0 rfl) ?_
  refine lv_lconst (v := 0) hx hb d_Air_init_5 (by decide) ?_
  obtain ⟨_, e3, hf⟩ := x_b hf
  obtain ⟨n4, hT5⟩ := x_is_e e3
  refine x_putZ (C := "WallDamp$Air") (F := F_Air) (N := 9) (ty := t_Air 7) (v := .long (0 : Int64)) (w' := x_sJ q1.2.2 15 l0 (0 : Int64)) hx hb hts i_Air t_Air ty_Air n_Air hown hK hH hS hT5 (by decide) rfl rfl 7 (by decide) (hts _ m_177) (fun _ h9 => h9) rfl (ty_Air 7 (by decide)) rfl rfl (x_on_J hT5 (by decide) rfl nd_Air) (fun j hj => x_off_J hj) (fun hh ok => x_ok_J hh ok) d_Air_init_6 (fun H locs hz1 hH hS => ?_)
  have hz := hz1.trans hz
  obtain ⟨w6, e7, hf⟩ := x_b hf
  have hH := x_nw e7 hH
  refine lv_aload_n hx hb d_Air_init_9 rfl (lv_at hl 0 rfl) ?_
  refine lv_lconst (v := 0) hx hb d_Air_init_10 (by decide) ?_
  refine x_pc 11 rfl ?_
  refine x_cs 0 0 rfl rfl ?_
  refine x_putZ (C := "WallDamp$Air") (F := F_Air) (N := 9) (ty := t_Air 8) (v := .long (0 : Int64)) (w' := x_sJ w6 16 l0 (0 : Int64)) hx hb hts i_Air t_Air ty_Air n_Air hown hK hH hS hT5 (by decide) rfl rfl 8 (by decide) (hts _ m_179) (fun _ h9 => h9) rfl (ty_Air 8 (by decide)) rfl rfl (x_on_J hT5 (by decide) rfl nd_Air) (fun j hj => x_off_J hj) (fun hh ok => x_ok_J hh ok) d_Air_init_11 (fun H locs hz1 hH hS => ?_)
  have hz := hz1.trans hz
  obtain ⟨w8, e9, hf⟩ := x_b hf
  have hH := x_nw e9 hH
  cases hf
  refine W.widen (k := 0) (n := 0) (by omega) (by omega) ?_
  exact W.vret hx hb hr (fun t ht hW => ⟨rfl, hS.F ht, by rw [ht]; exact hz, by rw [ht]; exact hH⟩) hS.2.2 d_Air_init_14
theorem c_Air_init (l : Launch) (D : va_G) (aC : Nat → ClassId) (ad : Nat → Nat) (M : Nat) (hlin : x_Lin ad M) (T : x_T) (nx : Nat) (w : x_W) (a0 : Nat) (q : x_T × Nat × x_W) (hf : f_Air_init M T nx w a0 = some q) : Met l y_Air_init ws_Air_init { frames := 2, cells := 0, slots := 0, locals := 40 } (x_Pn D aC ad T nx w [.ref (ad a0)]) (x_Qn D aC ad q (x_dom ad nx (ad nx))) 0 0 (x_dom ad nx (ad nx)) :=
  x_metN [(0, .ref (ad a0))] (by decide) rfl rfl rfl (Nat.le_of_ble_eq_true rfl) (fun p e s m args below meth c ls C0 hin hAo hz hH hS hl => k_Air_init C0 hin hAo hlin T nx w _ _ _ a0 hf hz hH hS (lv_sub hl [0] rfl))
/-! WallDamp$Cell.<init>(LWallDamp$Material;)V -/
def f_Cell_init (M : Nat) (T : x_T) (nx : Nat) (w : x_W) (l0 : Nat) (l1 : Nat) : Option (x_T × Nat × x_W) :=
  (f_Place_init M T nx w l0).bind fun q1 =>
  (x_is q1.1 l0 2).bind fun _ =>
  (x_ex q1.1 l1).bind fun _ =>
  (some (x_sR q1.2.2 17 l0 (some l1))).bind fun w7 =>
  (some (x_sI w7 18 l0 (10 : Int32))).bind fun w9 =>
  some (q1.1, q1.2.1, w9)
set_option maxHeartbeats 4000000 in
set_option maxRecDepth 100000 in
theorem k_Cell_init {p : Program} {l : Launch} {e : Env} {s : State} {m : MethodId} {args : Array Value} {below : List Frame} {meth : Method} {c : Code} {D : va_G} {aC : Nat → ClassId} {ad : Nat → Nat} {M : Nat} {A : Nat → Prop} {q : x_T × Nat × x_W} (C0 : x_At p s m meth c args "WallDamp$Cell" b_Cell_init none 2 D aC A) (hin : meth.name = "<init>") (hAo : x_Ao s) (hlin : x_Lin ad M) : ∀ (T : x_T) (nx : Nat) (w : x_W) (H : Heap) (locs : List Loc) (ls : Array Slot) (l0 : Nat) (l1 : Nat), f_Cell_init M T nx w l0 l1 = some q → H.size = ad nx → x_H D x_cl x_FT aC ad T nx A w H → va_S A s.heap H locs → lv_has ls 2 [(0, .ref (ad l0)), (1, .ref (ad l1))] → W p l e { frames := 2, cells := 0, slots := 0, locals := 40 } s m args below meth c H locs 0 0 (MQ below (x_Qn D aC ad q A) args s 0 0 A) (F0 m 0 ls []) := by
  obtain ⟨hx, hb, hr, hml, hown, hts, hlocks, hK, hA, hX⟩ := id C0
  intro T nx w H locs ls l0 l1 hf hz hH hS hl
  unfold f_Cell_init at hf
  refine lv_aload_n hx hb d_Cell_init_0 rfl (lv_at hl 0 rfl) ?_
  obtain ⟨q1, e2, hf⟩ := x_b hf
  refine x_callN (va_runI (As := []) (rest := []) ⟨hx, hb, hml, hown, hts⟩ (c_Place_init l D aC ad M hlin T nx w l0 q1 e2) (cwI 0 hts (x_gI m_175) rfl rfl rfl (hts _ m_8) (hts _ m_232) (hts _ m_174) rfl pd_Place_init ⟨Nat.le_of_ble_eq_true rfl, Nat.le_of_ble_eq_true rfl⟩) (x_preN hz hH hK hX hAo) rfl rfl hl.1 rfl (lv_room (Nat.le_of_ble_eq_true rfl)) d_Cell_init_1 ⟨(by show _ ≤ 0; omega), (by show _ ≤ 0; omega)⟩) hz hH hA hS (fun H locs hz hH hS => ?_)
  refine lv_aload_n hx hb d_Cell_init_4 rfl (lv_at hl 0 rfl) ?_
  refine lv_aload_n hx hb d_Cell_init_5 rfl (lv_at hl 1 rfl) ?_
  obtain ⟨_, e3, hf⟩ := x_b hf
  obtain ⟨n4, hT5⟩ := x_is_e e3
  obtain ⟨_, e6, hf⟩ := x_b hf
  refine x_putZ (C := "WallDamp$Cell") (F := F_Cell) (N := 15) (ty := t_Cell 7) (v := .ref (ad l1)) (w' := x_sR q1.2.2 17 l0 (some l1)) hx hb hts i_Cell t_Cell ty_Cell n_Cell hown hK hH hS hT5 (by decide) rfl rfl 7 (by decide) (hts _ m_233) (fun _ h9 => h9) rfl (ty_Cell 7 (by decide)) rfl rfl (x_on_R (v := some l1) hT5 (by decide) rfl nd_Cell k3_Cell) (fun j hj => x_off_R hj) (fun hh => x_ok_R hh (x_ex_lt e6 hH)) d_Cell_init_6 (fun H locs hz1 hH hS => ?_)
  have hz := hz1.trans hz
  obtain ⟨w7, e8, hf⟩ := x_b hf
  have hH := x_nw e8 hH
  refine lv_aload_n hx hb d_Cell_init_9 rfl (lv_at hl 0 rfl) ?_
  refine lv_bipush (v := 10) hx hb d_Cell_init_10 (by decide) ?_
  refine x_pc 12 rfl ?_
  refine x_cs 0 0 rfl rfl ?_
  refine x_putZ (C := "WallDamp$Cell") (F := F_Cell) (N := 15) (ty := t_Cell 8) (v := .int (10 : Int32)) (w' := x_sI w7 18 l0 (10 : Int32)) hx hb hts i_Cell t_Cell ty_Cell n_Cell hown hK hH hS hT5 (by decide) rfl rfl 8 (by decide) (hts _ m_236) (fun _ h9 => h9) rfl (ty_Cell 8 (by decide)) rfl rfl (x_on_I hT5 (by decide) rfl nd_Cell) (fun j hj => x_off_I hj) (fun hh ok => x_ok_I hh ok) d_Cell_init_12 (fun H locs hz1 hH hS => ?_)
  have hz := hz1.trans hz
  obtain ⟨w9, e10, hf⟩ := x_b hf
  have hH := x_nw e10 hH
  cases hf
  refine W.widen (k := 0) (n := 0) (by omega) (by omega) ?_
  exact W.vret hx hb hr (fun t ht hW => ⟨rfl, hS.F ht, by rw [ht]; exact hz, by rw [ht]; exact hH⟩) hS.2.2 d_Cell_init_15
theorem c_Cell_init (l : Launch) (D : va_G) (aC : Nat → ClassId) (ad : Nat → Nat) (M : Nat) (hlin : x_Lin ad M) (T : x_T) (nx : Nat) (w : x_W) (a0 : Nat) (a1 : Nat) (q : x_T × Nat × x_W) (hf : f_Cell_init M T nx w a0 a1 = some q) : Met l y_Cell_init ws_Cell_init { frames := 2, cells := 0, slots := 0, locals := 40 } (x_Pn D aC ad T nx w [.ref (ad a0), .ref (ad a1)]) (x_Qn D aC ad q (x_dom ad nx (ad nx))) 0 0 (x_dom ad nx (ad nx)) :=
  x_metN [(0, .ref (ad a0)), (1, .ref (ad a1))] (by decide) rfl rfl rfl (Nat.le_of_ble_eq_true rfl) (fun p e s m args below meth c ls C0 hin hAo hz hH hS hl => k_Cell_init C0 hin hAo hlin T nx w _ _ _ a0 a1 hf hz hH hS (lv_sub hl [0, 1] rfl))
/-! WallDamp$Flow.<init>(LWallDamp$Place;LWallDamp$Place;)V -/
def f_Flow_init (M : Nat) (T : x_T) (nx : Nat) (w : x_W) (l0 : Nat) (l1 : Nat) (l2 : Nat) : Option (x_T × Nat × x_W) :=
  (x_is T l0 4).bind fun _ =>
  (x_ex T l1).bind fun _ =>
  (some (x_sR w 29 l0 (some l1))).bind fun w5 =>
  (x_ex T l2).bind fun _ =>
  (some (x_sR w5 30 l0 (some l2))).bind fun w8 =>
  (x_ex T l1).bind fun _ =>
  (some (x_sR w8 31 l0 (some l1))).bind fun w11 =>
  (x_ex T l2).bind fun _ =>
  (some (x_sR w11 32 l0 (some l2))).bind fun w14 =>
  (some (x_sI w14 33 l0 (0 : Int32))).bind fun w16 =>
  some (T, nx, w16)
set_option maxHeartbeats 4000000 in
set_option maxRecDepth 100000 in
theorem k_Flow_init {p : Program} {l : Launch} {e : Env} {s : State} {m : MethodId} {args : Array Value} {below : List Frame} {meth : Method} {c : Code} {D : va_G} {aC : Nat → ClassId} {ad : Nat → Nat} {M : Nat} {A : Nat → Prop} {q : x_T × Nat × x_W} (C0 : x_At p s m meth c args "WallDamp$Flow" b_Flow_init none 3 D aC A) (hin : meth.name = "<init>") (hAo : x_Ao s) (hlin : x_Lin ad M) : ∀ (T : x_T) (nx : Nat) (w : x_W) (H : Heap) (locs : List Loc) (ls : Array Slot) (l0 : Nat) (l1 : Nat) (l2 : Nat), f_Flow_init M T nx w l0 l1 l2 = some q → H.size = ad nx → x_H D x_cl x_FT aC ad T nx A w H → va_S A s.heap H locs → lv_has ls 3 [(0, .ref (ad l0)), (1, .ref (ad l1)), (2, .ref (ad l2))] → W p l e { frames := 1, cells := 0, slots := 0, locals := 20 } s m args below meth c H locs 0 0 (MQ below (x_Qn D aC ad q A) args s 0 0 A) (F0 m 0 ls []) := by
  obtain ⟨hx, hb, hr, hml, hown, hts, hlocks, hK, hA, hX⟩ := id C0
  intro T nx w H locs ls l0 l1 l2 hf hz hH hS hl
  unfold f_Flow_init at hf
  refine lv_aload_n hx hb d_Flow_init_0 rfl (lv_at hl 0 rfl) ?_
  refine W.objInit hx hb hown (hts _ m_279) (hts _ m_25) (hts _ m_26) (g := F0 m 1 ls (.ref (ad l0) :: [])) rfl (hl.1.trans hml.symm) rfl d_Flow_init_1 (Nat.le_of_ble_eq_true rfl) (Nat.le_of_ble_eq_true rfl) ?_
  refine lv_aload_n hx hb d_Flow_init_4 rfl (lv_at hl 0 rfl) ?_
  refine lv_aload_n hx hb d_Flow_init_5 rfl (lv_at hl 1 rfl) ?_
  obtain ⟨_, e1, hf⟩ := x_b hf
  obtain ⟨n2, hT3⟩ := x_is_e e1
  obtain ⟨_, e4, hf⟩ := x_b hf
  refine x_putFZ (C := "WallDamp$Flow") (F := F_Flow) (N := 5) (ty := t_Flow 0) (v := .ref (ad l1)) (w' := x_sR w 29 l0 (some l1)) hx hb hts i_Flow t_Flow ty_Flow n_Flow hown hK hH hS hT3 (by decide) rfl rfl 0 (by decide) (hts _ m_280) (fun _ h9 => h9) rfl hin rfl (ty_Flow 0 (by decide)) rfl rfl (x_on_R (v := some l1) hT3 (by decide) rfl nd_Flow k3_Flow) (fun j hj => x_off_R hj) (fun hh => x_ok_R hh (x_ex_lt e4 hH)) d_Flow_init_6 (fun H locs hz1 hH hS => ?_)
  have hz := hz1.trans hz
  obtain ⟨w5, e6, hf⟩ := x_b hf
  have hH := x_nw e6 hH
  refine lv_aload_n hx hb d_Flow_init_9 rfl (lv_at hl 0 rfl) ?_
  refine lv_aload_n hx hb d_Flow_init_10 rfl (lv_at hl 2 rfl) ?_
  refine x_pc 11 rfl ?_
  refine x_cs 0 0 rfl rfl ?_
  obtain ⟨_, e7, hf⟩ := x_b hf
  refine x_putFZ (C := "WallDamp$Flow") (F := F_Flow) (N := 5) (ty := t_Flow 1) (v := .ref (ad l2)) (w' := x_sR w5 30 l0 (some l2)) hx hb hts i_Flow t_Flow ty_Flow n_Flow hown hK hH hS hT3 (by decide) rfl rfl 1 (by decide) (hts _ m_281) (fun _ h9 => h9) rfl hin rfl (ty_Flow 1 (by decide)) rfl rfl (x_on_R (v := some l2) hT3 (by decide) rfl nd_Flow k3_Flow) (fun j hj => x_off_R hj) (fun hh => x_ok_R hh (x_ex_lt e7 hH)) d_Flow_init_11 (fun H locs hz1 hH hS => ?_)
  have hz := hz1.trans hz
  obtain ⟨w8, e9, hf⟩ := x_b hf
  have hH := x_nw e9 hH
  refine lv_aload_n hx hb d_Flow_init_14 rfl (lv_at hl 0 rfl) ?_
  refine lv_aload_n hx hb d_Flow_init_15 rfl (lv_at hl 1 rfl) ?_
  obtain ⟨_, e10, hf⟩ := x_b hf
  refine x_putZ (C := "WallDamp$Flow") (F := F_Flow) (N := 5) (ty := t_Flow 2) (v := .ref (ad l1)) (w' := x_sR w8 31 l0 (some l1)) hx hb hts i_Flow t_Flow ty_Flow n_Flow hown hK hH hS hT3 (by decide) rfl rfl 2 (by decide) (hts _ m_282) (fun _ h9 => h9) rfl (ty_Flow 2 (by decide)) rfl rfl (x_on_R (v := some l1) hT3 (by decide) rfl nd_Flow k3_Flow) (fun j hj => x_off_R hj) (fun hh => x_ok_R hh (x_ex_lt e10 hH)) d_Flow_init_16 (fun H locs hz1 hH hS => ?_)
  have hz := hz1.trans hz
  obtain ⟨w11, e12, hf⟩ := x_b hf
  have hH := x_nw e12 hH
  refine lv_aload_n hx hb d_Flow_init_19 rfl (lv_at hl 0 rfl) ?_
  refine lv_aload_n hx hb d_Flow_init_20 rfl (lv_at hl 2 rfl) ?_
  obtain ⟨_, e13, hf⟩ := x_b hf
  refine x_putZ (C := "WallDamp$Flow") (F := F_Flow) (N := 5) (ty := t_Flow 3) (v := .ref (ad l2)) (w' := x_sR w11 32 l0 (some l2)) hx hb hts i_Flow t_Flow ty_Flow n_Flow hown hK hH hS hT3 (by decide) rfl rfl 3 (by decide) (hts _ m_283) (fun _ h9 => h9) rfl (ty_Flow 3 (by decide)) rfl rfl (x_on_R (v := some l2) hT3 (by decide) rfl nd_Flow k3_Flow) (fun j hj => x_off_R hj) (fun hh => x_ok_R hh (x_ex_lt e13 hH)) d_Flow_init_21 (fun H locs hz1 hH hS => ?_)
  have hz := hz1.trans hz
  obtain ⟨w14, e15, hf⟩ := x_b hf
  have hH := x_nw e15 hH
  refine lv_aload_n hx hb d_Flow_init_24 rfl (lv_at hl 0 rfl) ?_
  refine x_pc 25 rfl ?_
  refine x_cs 0 0 rfl rfl ?_
  refine lv_iconst (v := 0) hx hb d_Flow_init_25 (by decide) ?_
  refine x_putZ (C := "WallDamp$Flow") (F := F_Flow) (N := 5) (ty := t_Flow 4) (v := .int (0 : Int32)) (w' := x_sI w14 33 l0 (0 : Int32)) hx hb hts i_Flow t_Flow ty_Flow n_Flow hown hK hH hS hT3 (by decide) rfl rfl 4 (by decide) (hts _ m_284) (fun _ h9 => h9) rfl (ty_Flow 4 (by decide)) rfl rfl (x_on_I hT3 (by decide) rfl nd_Flow) (fun j hj => x_off_I hj) (fun hh ok => x_ok_I hh ok) d_Flow_init_26 (fun H locs hz1 hH hS => ?_)
  have hz := hz1.trans hz
  obtain ⟨w16, e17, hf⟩ := x_b hf
  have hH := x_nw e17 hH
  cases hf
  refine W.widen (k := 0) (n := 0) (by omega) (by omega) ?_
  exact W.vret hx hb hr (fun t ht hW => ⟨rfl, hS.F ht, by rw [ht]; exact hz, by rw [ht]; exact hH⟩) hS.2.2 d_Flow_init_29
theorem c_Flow_init (l : Launch) (D : va_G) (aC : Nat → ClassId) (ad : Nat → Nat) (M : Nat) (hlin : x_Lin ad M) (T : x_T) (nx : Nat) (w : x_W) (a0 : Nat) (a1 : Nat) (a2 : Nat) (q : x_T × Nat × x_W) (hf : f_Flow_init M T nx w a0 a1 a2 = some q) : Met l y_Flow_init ws_Flow_init { frames := 1, cells := 0, slots := 0, locals := 20 } (x_Pn D aC ad T nx w [.ref (ad a0), .ref (ad a1), .ref (ad a2)]) (x_Qn D aC ad q (x_dom ad nx (ad nx))) 0 0 (x_dom ad nx (ad nx)) :=
  x_metN [(0, .ref (ad a0)), (1, .ref (ad a1)), (2, .ref (ad a2))] (by decide) rfl rfl rfl (Nat.le_of_ble_eq_true rfl) (fun p e s m args below meth c ls C0 hin hAo hz hH hS hl => k_Flow_init C0 hin hAo hlin T nx w _ _ _ a0 a1 a2 hf hz hH hS (lv_sub hl [0, 1, 2] rfl))
/-! WallDamp$Trials.<init>(LWallDamp$Wall;)V -/
def f_Trials_init (M : Nat) (T : x_T) (nx : Nat) (w : x_W) (l0 : Nat) (l1 : Nat) : Option (x_T × Nat × x_W) :=
  (x_is T l0 8).bind fun _ =>
  (x_ex T l1).bind fun _ =>
  (some (x_sR w 54 l0 (some l1))).bind fun w5 =>
  (x_lt nx M).bind fun _ =>
  (x_sz (5 : Int32) 5).bind fun n9 =>
  (some (x_uT T nx 100 n9)).bind fun T14 =>
  (x_is T14 l0 8).bind fun _ =>
  (x_ex T14 nx).bind fun _ =>
  (some (x_sR w5 53 l0 (some nx))).bind fun w19 =>
  (x_lt (nx + 1) M).bind fun _ =>
  (x_sz (5 : Int32) 5).bind fun n23 =>
  (some (x_uT T14 (nx + 1) 100 n23)).bind fun T28 =>
  (x_is T28 l0 8).bind fun _ =>
  (x_ex T28 (nx + 1)).bind fun _ =>
  (some (x_sR w19 52 l0 (some (nx + 1)))).bind fun w33 =>
  some (T28, (nx + 2), w33)
set_option maxHeartbeats 4000000 in
set_option maxRecDepth 100000 in
theorem k_Trials_init {p : Program} {l : Launch} {e : Env} {s : State} {m : MethodId} {args : Array Value} {below : List Frame} {meth : Method} {c : Code} {D : va_G} {aC : Nat → ClassId} {ad : Nat → Nat} {M : Nat} {A : Nat → Prop} {q : x_T × Nat × x_W} (C0 : x_At p s m meth c args "WallDamp$Trials" b_Trials_init none 2 D aC A) (hin : meth.name = "<init>") (hAo : x_Ao s) (hlin : x_Lin ad M) : ∀ (T : x_T) (nx : Nat) (w : x_W) (H : Heap) (locs : List Loc) (ls : Array Slot) (l0 : Nat) (l1 : Nat), f_Trials_init M T nx w l0 l1 = some q → H.size = ad nx → x_H D x_cl x_FT aC ad T nx A w H → va_S A s.heap H locs → lv_has ls 2 [(0, .ref (ad l0)), (1, .ref (ad l1))] → W p l e { frames := 1, cells := 2, slots := 10, locals := 20 } s m args below meth c H locs 0 0 (MQ below (x_Qn D aC ad q A) args s 2 10 A) (F0 m 0 ls []) := by
  obtain ⟨hx, hb, hr, hml, hown, hts, hlocks, hK, hA, hX⟩ := id C0
  intro T nx w H locs ls l0 l1 hf hz hH hS hl
  unfold f_Trials_init at hf
  refine lv_aload_n hx hb d_Trials_init_0 rfl (lv_at hl 0 rfl) ?_
  refine W.objInit hx hb hown (hts _ m_333) (hts _ m_25) (hts _ m_26) (g := F0 m 1 ls (.ref (ad l0) :: [])) rfl (hl.1.trans hml.symm) rfl d_Trials_init_1 (Nat.le_of_ble_eq_true rfl) (Nat.le_of_ble_eq_true rfl) ?_
  refine lv_aload_n hx hb d_Trials_init_4 rfl (lv_at hl 0 rfl) ?_
  refine lv_aload_n hx hb d_Trials_init_5 rfl (lv_at hl 1 rfl) ?_
  obtain ⟨_, e1, hf⟩ := x_b hf
  obtain ⟨n2, hT3⟩ := x_is_e e1
  obtain ⟨_, e4, hf⟩ := x_b hf
  refine x_putFZ (C := "WallDamp$Trials") (F := F_Trials) (N := 3) (ty := t_Trials 2) (v := .ref (ad l1)) (w' := x_sR w 54 l0 (some l1)) hx hb hts i_Trials t_Trials ty_Trials n_Trials hown hK hH hS hT3 (by decide) rfl rfl 2 (by decide) (hts _ m_337) (fun _ h9 => h9) rfl hin rfl (ty_Trials 2 (by decide)) rfl rfl (x_on_R (v := some l1) hT3 (by decide) rfl nd_Trials k3_Trials) (fun j hj => x_off_R hj) (fun hh => x_ok_R hh (x_ex_lt e4 hH)) d_Trials_init_6 (fun H locs hz1 hH hS => ?_)
  have hz := hz1.trans hz
  obtain ⟨w5, e6, hf⟩ := x_b hf
  have hH := x_nw e6 hH
  refine lv_aload_n hx hb d_Trials_init_9 rfl (lv_at hl 0 rfl) ?_
  refine lv_iconst (v := 5) hx hb d_Trials_init_10 (by decide) ?_
  refine x_pc 11 rfl ?_
  refine x_cs 0 0 rfl rfl ?_
  obtain ⟨_, e7, hf⟩ := x_b hf
  obtain ⟨n9, e8, hf⟩ := x_b hf
  obtain ⟨hn10, hN11, hM12⟩ := x_sz_e e8
  refine x_newa (atype := .int) (ci := 100) hx hb (hts _ m_60) hK hH hS hA hz 0 rfl (fun h => h) hn10 hN11 (by show n9 * 4 ≤ _; omega) (by show _ ≤ 2; omega) (by show _ ≤ 10; omega) (Or.inl ⟨x_cell_a (by simp [x_uT]), rfl⟩) d_Trials_init_11 (fun H hz1 hH hS => ?_)
  have hz := x_lin hlin e7 hz1
  obtain ⟨T14, e13, hf⟩ := x_b hf
  have hH := x_nT e13 hH
  refine W.widen (k := 1) (n := 5) (by omega) (by omega) ?_
  obtain ⟨_, e15, hf⟩ := x_b hf
  obtain ⟨n16, hT17⟩ := x_is_e e15
  obtain ⟨_, e18, hf⟩ := x_b hf
  refine x_putFZ (C := "WallDamp$Trials") (F := F_Trials) (N := 3) (ty := t_Trials 1) (v := .ref (ad nx)) (w' := x_sR w5 53 l0 (some nx)) hx hb hts i_Trials t_Trials ty_Trials n_Trials hown hK hH hS hT17 (by decide) rfl rfl 1 (by decide) (hts _ m_336) (fun _ h9 => h9) rfl hin rfl (ty_Trials 1 (by decide)) rfl rfl (x_on_R (v := some nx) hT17 (by decide) rfl nd_Trials k3_Trials) (fun j hj => x_off_R hj) (fun hh => x_ok_R hh (x_ex_lt e18 hH)) d_Trials_init_13 (fun H locs hz1 hH hS => ?_)
  have hz := hz1.trans hz
  obtain ⟨w19, e20, hf⟩ := x_b hf
  have hH := x_nw e20 hH
  refine lv_aload_n hx hb d_Trials_init_16 rfl (lv_at hl 0 rfl) ?_
  refine lv_iconst (v := 5) hx hb d_Trials_init_17 (by decide) ?_
  obtain ⟨_, e21, hf⟩ := x_b hf
  obtain ⟨n23, e22, hf⟩ := x_b hf
  obtain ⟨hn24, hN25, hM26⟩ := x_sz_e e22
  refine x_newa (atype := .int) (ci := 100) hx hb (hts _ m_60) hK hH hS hA hz 0 rfl (fun h => h) hn24 hN25 (by show n23 * 4 ≤ _; omega) (by show _ ≤ 2; omega) (by show _ ≤ 10; omega) (Or.inl ⟨x_cell_a (by simp [x_uT]), rfl⟩) d_Trials_init_18 (fun H hz1 hH hS => ?_)
  have hz := x_lin hlin e21 hz1
  obtain ⟨T28, e27, hf⟩ := x_b hf
  have hH := x_nT e27 hH
  refine W.widen (k := 2) (n := 10) (by omega) (by omega) ?_
  obtain ⟨_, e29, hf⟩ := x_b hf
  obtain ⟨n30, hT31⟩ := x_is_e e29
  obtain ⟨_, e32, hf⟩ := x_b hf
  refine x_putFZ (C := "WallDamp$Trials") (F := F_Trials) (N := 3) (ty := t_Trials 0) (v := .ref (ad (nx + 1))) (w' := x_sR w19 52 l0 (some (nx + 1))) hx hb hts i_Trials t_Trials ty_Trials n_Trials hown hK hH hS hT31 (by decide) rfl rfl 0 (by decide) (hts _ m_334) (fun _ h9 => h9) rfl hin rfl (ty_Trials 0 (by decide)) rfl rfl (x_on_R (v := some (nx + 1)) hT31 (by decide) rfl nd_Trials k3_Trials) (fun j hj => x_off_R hj) (fun hh => x_ok_R hh (x_ex_lt e32 hH)) d_Trials_init_20 (fun H locs hz1 hH hS => ?_)
  have hz := hz1.trans hz
  obtain ⟨w33, e34, hf⟩ := x_b hf
  have hH := x_nw e34 hH
  cases hf
  refine W.widen (k := 2) (n := 10) (by omega) (by omega) ?_
  exact W.vret hx hb hr (fun t ht hW => ⟨rfl, hS.F ht, by rw [ht]; exact hz, by rw [ht]; exact hH⟩) hS.2.2 d_Trials_init_23
theorem c_Trials_init (l : Launch) (D : va_G) (aC : Nat → ClassId) (ad : Nat → Nat) (M : Nat) (hlin : x_Lin ad M) (T : x_T) (nx : Nat) (w : x_W) (a0 : Nat) (a1 : Nat) (q : x_T × Nat × x_W) (hf : f_Trials_init M T nx w a0 a1 = some q) : Met l y_Trials_init ws_Trials_init { frames := 1, cells := 2, slots := 10, locals := 20 } (x_Pn D aC ad T nx w [.ref (ad a0), .ref (ad a1)]) (x_Qn D aC ad q (x_dom ad nx (ad nx))) 2 10 (x_dom ad nx (ad nx)) :=
  x_metN [(0, .ref (ad a0)), (1, .ref (ad a1))] (by decide) rfl rfl rfl (Nat.le_of_ble_eq_true rfl) (fun p e s m args below meth c ls C0 hin hAo hz hH hS hl => k_Trials_init C0 hin hAo hlin T nx w _ _ _ a0 a1 hf hz hH hS (lv_sub hl [0, 1] rfl))
