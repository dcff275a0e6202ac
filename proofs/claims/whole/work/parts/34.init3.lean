/-! WallDamp.<init>(I)V -/
def f_WD_init_26 (M : Nat) : Nat → x_T → Nat → x_W → Nat → Int32 → Int32 → Option (x_T × Nat × x_W)
  | 0, _, _, _, _, _, _ => none
  | n + 1, T, nx, w, l0, l2, l3 =>
    (x_is T l0 0).bind fun _ =>
    (x_R w 7 l0).bind fun a4 =>
    (x_len T a4 103).bind fun n6 =>
    if (nI n6) ≤ l3 then
      ((x_lt nx M).bind fun _ =>
      (some (x_uT T nx 7 0)).bind fun T11 =>
      (f_Surroundings_init M T11 (nx + 1) w nx).bind fun q12 =>
      (x_is q12.1 l0 0).bind fun _ =>
      (x_ex q12.1 nx).bind fun _ =>
      (some (x_sR q12.2.2 8 l0 (some nx))).bind fun w18 =>
      (x_lt q12.2.1 M).bind fun _ =>
      (some (x_uT q12.1 q12.2.1 6 0)).bind fun T22 =>
      (f_MouldRows_init M T22 (q12.2.1 + 1) w18 q12.2.1).bind fun q23 =>
      (x_is q23.1 l0 0).bind fun _ =>
      (x_ex q23.1 q12.2.1).bind fun _ =>
      (some (x_sR q23.2.2 9 l0 (some q12.2.1))).bind fun w29 =>
      (x_lt q23.2.1 M).bind fun _ =>
      (some (x_uT q23.1 q23.2.1 9 0)).bind fun T33 =>
      (x_is T33 l0 0).bind fun _ =>
      (x_R w29 7 l0).bind fun a37 =>
      (x_ix T33 a37 103 (0 : Int32)).bind fun _ =>
      (x_Q w29 a37 (0 : Int32).toNatClampNeg).bind fun a43 =>
      (f_Wall_init M T33 (q23.2.1 + 1) w29 q23.2.1 l2 a43).bind fun q45 =>
      (x_is q45.1 l0 0).bind fun _ =>
      (x_ex q45.1 q23.2.1).bind fun _ =>
      (some (x_sR q45.2.2 10 l0 (some q23.2.1))).bind fun w51 =>
      (x_lt q45.2.1 M).bind fun _ =>
      (some (x_uT q45.1 q45.2.1 8 0)).bind fun T55 =>
      (x_lt (q45.2.1 + 1) M).bind fun _ =>
      (some (x_uT T55 (q45.2.1 + 1) 9 0)).bind fun T58 =>
      (x_is T58 l0 0).bind fun _ =>
      (x_R w51 7 l0).bind fun a62 =>
      (x_ix T58 a62 103 (0 : Int32)).bind fun _ =>
      (x_Q w51 a62 (0 : Int32).toNatClampNeg).bind fun a68 =>
      (f_Wall_init M T58 (q45.2.1 + 2) w51 (q45.2.1 + 1) l2 a68).bind fun q70 =>
      (f_Trials_init M q70.1 q70.2.1 q70.2.2 q45.2.1 (q45.2.1 + 1)).bind fun q72 =>
      (x_is q72.1 l0 0).bind fun _ =>
      (x_ex q72.1 q45.2.1).bind fun _ =>
      (some (x_sR q72.2.2 11 l0 (some q45.2.1))).bind fun w78 =>
      (some (x_sI w78 12 l0 (0 : Int32))).bind fun w80 =>
      (some (x_sI w80 13 l0 (0 : Int32))).bind fun w82 =>
      (some (x_sJ w82 14 l0 (0 : Int64))).bind fun w84 =>
      some (q72.1, q72.2.1, w84))
    else
      ((x_R w 7 l0).bind fun a86 =>
      (x_lt nx M).bind fun _ =>
      (some (x_uT T nx 5 0)).bind fun T90 =>
      (f_Material_init M T90 (nx + 1) w nx).bind fun q91 =>
      (x_is q91.1 nx 5).bind fun _ =>
      (x_ix q91.1 a86 103 l3).bind fun _ =>
      (some (x_sQ q91.2.2 a86 l3.toNatClampNeg (some nx))).bind fun w100 =>
      f_WD_init_26 M n q91.1 q91.2.1 w100 l0 l2 (l3 + 1))
def f_WD_init (M : Nat) (T : x_T) (nx : Nat) (w : x_W) (l0 : Nat) (l1 : Int32) : Option (x_T × Nat × x_W) :=
  (f_Math_min T w (12 : Int32) l1).bind fun q1 =>
  (f_Math_max T w (1 : Int32) q1).bind fun q3 =>
  (x_lt nx M).bind fun _ =>
  (x_sz (6 : Int32) 6).bind fun n7 =>
  (some (x_uT T nx 103 n7)).bind fun T12 =>
  (x_is T12 l0 0).bind fun _ =>
  (x_ex T12 nx).bind fun _ =>
  (some (x_sR w 7 l0 (some nx))).bind fun w17 =>
  f_WD_init_26 M 7 T12 (nx + 1) w17 l0 q3 (0 : Int32)
set_option maxHeartbeats 4000000 in
set_option maxRecDepth 100000 in
theorem k_WD_init_26 {p : Program} {l : Launch} {e : Env} {s : State} {m : MethodId} {args : Array Value} {below : List Frame} {meth : Method} {c : Code} {D : va_G} {aC : Nat → ClassId} {ad : Nat → Nat} {M : Nat} {A : Nat → Prop} {q : x_T × Nat × x_W} (C0 : x_At p s m meth c args "WallDamp" b_WD_init none 4 D aC A) (hin : meth.name = "<init>") (hAo : x_Ao s) (hlin : x_Lin ad M) : ∀ (n cn sl : Nat), cn + 4 * n ≤ 29 → sl + 24 * n ≤ 174 → ∀ (T : x_T) (nx : Nat) (w : x_W) (H : Heap) (locs : List Loc) (ls : Array Slot) (l0 : Nat) (l2 : Int32) (l3 : Int32), f_WD_init_26 M n T nx w l0 l2 l3 = some q → H.size = ad nx → x_H D x_cl x_FT aC ad T nx A w H → va_S A s.heap H locs → lv_has ls 4 [(0, .ref (ad l0)), (2, .int l2), (3, .int l3)] → W p l e { frames := 4, cells := 145, slots := 1443, locals := 85 } s m args below meth c H locs cn sl (MQ below (x_Qn D aC ad q A) args s 145 1443 A) (F0 m 26 ls []) := by
  obtain ⟨hx, hb, hr, hml, hown, hts, hlocks, hK, hA, hX⟩ := id C0
  intro n
  induction n with
  | zero => intro cn sl hcn hsl T nx w H locs ls l0 l2 l3 hf; cases (show none = some q from hf)
  | succ n ih =>
    intro cn sl hcn hsl T nx w H locs ls l0 l2 l3 hf hz hH hS hl
    unfold f_WD_init_26 at hf
    refine lv_iload_n hx hb d_WD_init_26 rfl (lv_at hl 2 rfl) ?_
    refine lv_aload_n hx hb d_WD_init_27 rfl (lv_at hl 0 rfl) ?_
    obtain ⟨_, e1, hf⟩ := x_b hf
    obtain ⟨n2, hT3⟩ := x_is_e e1
    obtain ⟨a4, e5, hf⟩ := x_b hf
    refine x_get (C := "WallDamp") (F := F_WD) (N := 8) hx hb hts i_WD hown hK hH hT3 (by decide) rfl 0 (by decide) (hts _ m_345) (fun _ h9 => h9) (kd := (2, 7)) rfl (x_fr e5) d_WD_init_28 ?_
    obtain ⟨n6, e7, hf⟩ := x_b hf
    refine x_alen hx hb hK hH (x_len_e e7) (by decide) 3 rfl d_WD_init_31 ?_
    refine x_pc 32 rfl ?_
    refine lv_icmp_ge (tgt := 54) hx hb d_WD_init_32 (by decide) (fun c8 => ?_) (fun c8 => ?_)
    · have hf := x_it hf c8
      refine W.widen (k := 29) (n := 174) (by omega) (by omega) ?_
      refine lv_aload_n hx hb d_WD_init_54 rfl (lv_at hl 0 rfl) ?_
      obtain ⟨_, e9, hf⟩ := x_b hf
      refine x_new (C := "WallDamp$Surroundings") (F := F_Surroundings) (N := 9) (ci := 7) hx hb hts i_Surroundings t_Surroundings ty_Surroundings hown (hts _ m_86) (hts _ m_87) (hts _ m_5) hK hH hS hA hz (by decide) rfl df_Surroundings (by show _ ≤ 145; omega) (by show _ ≤ 1443; omega) d_WD_init_55 (fun H hz1 hH hS => ?_)
      have hz := x_lin hlin e9 hz1
      obtain ⟨T11, e10, hf⟩ := x_b hf
      have hH := x_nT e10 hH
      refine x_pc 58 rfl ?_
      refine x_cs 30 183 rfl rfl ?_
      refine lv_dup hx hb d_WD_init_58 rfl ?_
      obtain ⟨q12, e13, hf⟩ := x_b hf
      refine x_callN (va_runI (As := []) (rest := [.ref (ad nx), .ref (ad l0)]) ⟨hx, hb, hml, hown, hts⟩ (c_Surroundings_init l D aC ad M hlin T11 (nx + 1) w nx q12 e13) (cwI 0 hts (x_gI m_90) rfl rfl rfl (hts _ m_5) (hts _ m_88) (hts _ m_89) rfl pd_Surroundings_init ⟨Nat.le_of_ble_eq_true rfl, Nat.le_of_ble_eq_true rfl⟩) (x_preN hz hH hK hX hAo) rfl rfl hl.1 rfl (lv_room (Nat.le_of_ble_eq_true rfl)) d_WD_init_59 ⟨(by show _ ≤ 145; omega), (by show _ ≤ 1443; omega)⟩) hz hH hA hS (fun H locs hz hH hS => ?_)
      obtain ⟨_, e14, hf⟩ := x_b hf
      obtain ⟨n15, hT16⟩ := x_is_e e14
      obtain ⟨_, e17, hf⟩ := x_b hf
      refine x_putFZ (C := "WallDamp") (F := F_WD) (N := 8) (ty := t_WD 1) (v := .ref (ad nx)) (w' := x_sR q12.2.2 8 l0 (some nx)) hx hb hts i_WD t_WD ty_WD n_WD hown hK hH hS hT16 (by decide) rfl rfl 1 (by decide) (hts _ m_346) (fun _ h9 => h9) rfl hin rfl (ty_WD 1 (by decide)) rfl rfl (x_on_R (v := some nx) hT16 (by decide) rfl nd_WD k3_WD) (fun j hj => x_off_R hj) (fun hh => x_ok_R hh (x_ex_lt e17 hH)) d_WD_init_62 (fun H locs hz1 hH hS => ?_)
      have hz := hz1.trans hz
      obtain ⟨w18, e19, hf⟩ := x_b hf
      have hH := x_nw e19 hH
      refine lv_aload_n hx hb d_WD_init_65 rfl (lv_at hl 0 rfl) ?_
      obtain ⟨_, e20, hf⟩ := x_b hf
      refine x_new (C := "WallDamp$MouldRows") (F := F_MouldRows) (N := 5) (ci := 6) hx hb hts i_MouldRows t_MouldRows ty_MouldRows hown (hts _ m_139) (hts _ m_140) (hts _ m_6) hK hH hS hA hz (by decide) rfl df_MouldRows (by show _ ≤ 145; omega) (by show _ ≤ 1443; omega) d_WD_init_66 (fun H hz1 hH hS => ?_)
      have hz := x_lin hlin e20 hz1
      obtain ⟨T22, e21, hf⟩ := x_b hf
      have hH := x_nT e21 hH
      refine lv_dup hx hb d_WD_init_69 rfl ?_
      obtain ⟨q23, e24, hf⟩ := x_b hf
      refine x_callN (va_runI (As := []) (rest := [.ref (ad q12.2.1), .ref (ad l0)]) ⟨hx, hb, hml, hown, hts⟩ (c_MouldRows_init l D aC ad M hlin T22 (q12.2.1 + 1) w18 q12.2.1 q23 e24) (cwI 0 hts (x_gI m_143) rfl rfl rfl (hts _ m_6) (hts _ m_141) (hts _ m_142) rfl pd_MouldRows_init ⟨Nat.le_of_ble_eq_true rfl, Nat.le_of_ble_eq_true rfl⟩) (x_preN hz hH hK hX hAo) rfl rfl hl.1 rfl (lv_room (Nat.le_of_ble_eq_true rfl)) d_WD_init_70 ⟨(by show _ ≤ 145; omega), (by show _ ≤ 1443; omega)⟩) hz hH hA hS (fun H locs hz hH hS => ?_)
      obtain ⟨_, e25, hf⟩ := x_b hf
      obtain ⟨n26, hT27⟩ := x_is_e e25
      obtain ⟨_, e28, hf⟩ := x_b hf
      refine x_putFZ (C := "WallDamp") (F := F_WD) (N := 8) (ty := t_WD 2) (v := .ref (ad q12.2.1)) (w' := x_sR q23.2.2 9 l0 (some q12.2.1)) hx hb hts i_WD t_WD ty_WD n_WD hown hK hH hS hT27 (by decide) rfl rfl 2 (by decide) (hts _ m_347) (fun _ h9 => h9) rfl hin rfl (ty_WD 2 (by decide)) rfl rfl (x_on_R (v := some q12.2.1) hT27 (by decide) rfl nd_WD k3_WD) (fun j hj => x_off_R hj) (fun hh => x_ok_R hh (x_ex_lt e28 hH)) d_WD_init_73 (fun H locs hz1 hH hS => ?_)
      have hz := hz1.trans hz
      obtain ⟨w29, e30, hf⟩ := x_b hf
      have hH := x_nw e30 hH
      refine x_pc 76 rfl ?_
      refine x_cs 44 376 rfl rfl ?_
      refine lv_aload_n hx hb d_WD_init_76 rfl (lv_at hl 0 rfl) ?_
      obtain ⟨_, e31, hf⟩ := x_b hf
      refine x_new (C := "WallDamp$Wall") (F := F_Wall) (N := 9) (ci := 9) hx hb hts i_Wall t_Wall ty_Wall hown (hts _ m_161) (hts _ m_162) (hts _ m_7) hK hH hS hA hz (by decide) rfl df_Wall (by show _ ≤ 145; omega) (by show _ ≤ 1443; omega) d_WD_init_77 (fun H hz1 hH hS => ?_)
      have hz := x_lin hlin e31 hz1
      obtain ⟨T33, e32, hf⟩ := x_b hf
      have hH := x_nT e32 hH
      refine lv_dup hx hb d_WD_init_80 rfl ?_
      refine lv_iload_n hx hb d_WD_init_81 rfl (lv_at hl 1 rfl) ?_
      refine lv_aload_n hx hb d_WD_init_82 rfl (lv_at hl 0 rfl) ?_
      obtain ⟨_, e34, hf⟩ := x_b hf
      obtain ⟨n35, hT36⟩ := x_is_e e34
      obtain ⟨a37, e38, hf⟩ := x_b hf
      refine x_get (C := "WallDamp") (F := F_WD) (N := 8) hx hb hts i_WD hown hK hH hT36 (by decide) rfl 0 (by decide) (hts _ m_345) (fun _ h9 => h9) (kd := (2, 7)) rfl (x_fr e38) d_WD_init_83 ?_
      refine lv_iconst (v := 0) hx hb d_WD_init_86 (by decide) ?_
      obtain ⟨_, e39, hf⟩ := x_b hf
      obtain ⟨n40, hT41, hi42⟩ := x_ix_e e39
      obtain ⟨a43, e44, hf⟩ := x_b hf
      refine x_aald hx hb hK hH hT41 (by decide) 3 rfl hi42 (x_qr e44) d_WD_init_87 ?_
      refine x_pc 88 rfl ?_
      refine x_cs 45 385 rfl rfl ?_
      obtain ⟨q45, e46, hf⟩ := x_b hf
      refine x_callN (va_runI (As := [.int l2, .ref (ad a43)]) (rest := [.ref (ad q23.2.1), .ref (ad l0)]) ⟨hx, hb, hml, hown, hts⟩ (c_Wall_init l D aC ad M hlin T33 (q23.2.1 + 1) w29 q23.2.1 l2 a43 q45 e46) (cwI 2 hts (x_gI m_165) rfl rfl rfl (hts _ m_7) (hts _ m_163) (hts _ m_164) rfl pd_Wall_init ⟨Nat.le_of_ble_eq_true rfl, Nat.le_of_ble_eq_true rfl⟩) (x_preN hz hH hK hX hAo) rfl rfl hl.1 rfl (lv_room (Nat.le_of_ble_eq_true rfl)) d_WD_init_88 ⟨(by show _ ≤ 145; omega), (by show _ ≤ 1443; omega)⟩) hz hH hA hS (fun H locs hz hH hS => ?_)
      obtain ⟨_, e47, hf⟩ := x_b hf
      obtain ⟨n48, hT49⟩ := x_is_e e47
      obtain ⟨_, e50, hf⟩ := x_b hf
      refine x_putFZ (C := "WallDamp") (F := F_WD) (N := 8) (ty := t_WD 3) (v := .ref (ad q23.2.1)) (w' := x_sR q45.2.2 10 l0 (some q23.2.1)) hx hb hts i_WD t_WD ty_WD n_WD hown hK hH hS hT49 (by decide) rfl rfl 3 (by decide) (hts _ m_348) (fun _ h9 => h9) rfl hin rfl (ty_WD 3 (by decide)) rfl rfl (x_on_R (v := some q23.2.1) hT49 (by decide) rfl nd_WD k3_WD) (fun j hj => x_off_R hj) (fun hh => x_ok_R hh (x_ex_lt e50 hH)) d_WD_init_91 (fun H locs hz1 hH hS => ?_)
      have hz := hz1.trans hz
      obtain ⟨w51, e52, hf⟩ := x_b hf
      have hH := x_nw e52 hH
      refine lv_aload_n hx hb d_WD_init_94 rfl (lv_at hl 0 rfl) ?_
      obtain ⟨_, e53, hf⟩ := x_b hf
      refine x_new (C := "WallDamp$Trials") (F := F_Trials) (N := 3) (ci := 8) hx hb hts i_Trials t_Trials ty_Trials hown (hts _ m_328) (hts _ m_329) (hts _ m_12) hK hH hS hA hz (by decide) rfl df_Trials (by show _ ≤ 145; omega) (by show _ ≤ 1443; omega) d_WD_init_95 (fun H hz1 hH hS => ?_)
      have hz := x_lin hlin e53 hz1
      obtain ⟨T55, e54, hf⟩ := x_b hf
      have hH := x_nT e54 hH
      refine lv_dup hx hb d_WD_init_98 rfl ?_
      obtain ⟨_, e56, hf⟩ := x_b hf
      refine x_new (C := "WallDamp$Wall") (F := F_Wall) (N := 9) (ci := 9) hx hb hts i_Wall t_Wall ty_Wall hown (hts _ m_161) (hts _ m_162) (hts _ m_7) hK hH hS hA hz (by decide) rfl df_Wall (by show _ ≤ 145; omega) (by show _ ≤ 1443; omega) d_WD_init_99 (fun H hz1 hH hS => ?_)
      have hz := x_lin hlin e56 hz1
      obtain ⟨T58, e57, hf⟩ := x_b hf
      have hH := x_nT e57 hH
      refine lv_dup hx hb d_WD_init_102 rfl ?_
      refine lv_iload_n hx hb d_WD_init_103 rfl (lv_at hl 1 rfl) ?_
      refine x_pc 104 rfl ?_
      refine x_cs 95 915 rfl rfl ?_
      refine lv_aload_n hx hb d_WD_init_104 rfl (lv_at hl 0 rfl) ?_
      obtain ⟨_, e59, hf⟩ := x_b hf
      obtain ⟨n60, hT61⟩ := x_is_e e59
      obtain ⟨a62, e63, hf⟩ := x_b hf
      refine x_get (C := "WallDamp") (F := F_WD) (N := 8) hx hb hts i_WD hown hK hH hT61 (by decide) rfl 0 (by decide) (hts _ m_345) (fun _ h9 => h9) (kd := (2, 7)) rfl (x_fr e63) d_WD_init_105 ?_
      refine lv_iconst (v := 0) hx hb d_WD_init_108 (by decide) ?_
      obtain ⟨_, e64, hf⟩ := x_b hf
      obtain ⟨n65, hT66, hi67⟩ := x_ix_e e64
      obtain ⟨a68, e69, hf⟩ := x_b hf
      refine x_aald hx hb hK hH hT66 (by decide) 3 rfl hi67 (x_qr e69) d_WD_init_109 ?_
      obtain ⟨q70, e71, hf⟩ := x_b hf
      refine x_callN (va_runI (As := [.int l2, .ref (ad a68)]) (rest := [.ref (ad (q45.2.1 + 1)), .ref (ad q45.2.1), .ref (ad q45.2.1), .ref (ad l0)]) ⟨hx, hb, hml, hown, hts⟩ (c_Wall_init l D aC ad M hlin T58 (q45.2.1 + 2) w51 (q45.2.1 + 1) l2 a68 q70 e71) (cwI 2 hts (x_gI m_165) rfl rfl rfl (hts _ m_7) (hts _ m_163) (hts _ m_164) rfl pd_Wall_init ⟨Nat.le_of_ble_eq_true rfl, Nat.le_of_ble_eq_true rfl⟩) (x_preN hz hH hK hX hAo) rfl rfl hl.1 rfl (lv_room (Nat.le_of_ble_eq_true rfl)) d_WD_init_110 ⟨(by show _ ≤ 145; omega), (by show _ ≤ 1443; omega)⟩) hz hH hA hS (fun H locs hz hH hS => ?_)
      obtain ⟨q72, e73, hf⟩ := x_b hf
      refine x_callN (va_runI (As := [.ref (ad (q45.2.1 + 1))]) (rest := [.ref (ad q45.2.1), .ref (ad l0)]) ⟨hx, hb, hml, hown, hts⟩ (c_Trials_init l D aC ad M hlin q70.1 q70.2.1 q70.2.2 q45.2.1 (q45.2.1 + 1) q72 e73) (cwI 1 hts (x_gI m_332) rfl rfl rfl (hts _ m_12) (hts _ m_330) (hts _ m_331) rfl pd_Trials_init ⟨Nat.le_of_ble_eq_true rfl, Nat.le_of_ble_eq_true rfl⟩) (x_preN hz hH hK hX hAo) rfl rfl hl.1 rfl (lv_room (Nat.le_of_ble_eq_true rfl)) d_WD_init_113 ⟨(by show _ ≤ 145; omega), (by show _ ≤ 1443; omega)⟩) hz hH hA hS (fun H locs hz hH hS => ?_)
      obtain ⟨_, e74, hf⟩ := x_b hf
      obtain ⟨n75, hT76⟩ := x_is_e e74
      obtain ⟨_, e77, hf⟩ := x_b hf
      refine x_putFZ (C := "WallDamp") (F := F_WD) (N := 8) (ty := t_WD 4) (v := .ref (ad q45.2.1)) (w' := x_sR q72.2.2 11 l0 (some q45.2.1)) hx hb hts i_WD t_WD ty_WD n_WD hown hK hH hS hT76 (by decide) rfl rfl 4 (by decide) (hts _ m_349) (fun _ h9 => h9) rfl hin rfl (ty_WD 4 (by decide)) rfl rfl (x_on_R (v := some q45.2.1) hT76 (by decide) rfl nd_WD k3_WD) (fun j hj => x_off_R hj) (fun hh => x_ok_R hh (x_ex_lt e77 hH)) d_WD_init_116 (fun H locs hz1 hH hS => ?_)
      have hz := hz1.trans hz
      obtain ⟨w78, e79, hf⟩ := x_b hf
      have hH := x_nw e79 hH
      refine lv_aload_n hx hb d_WD_init_119 rfl (lv_at hl 0 rfl) ?_
      refine x_pc 120 rfl ?_
      refine x_cs 145 1443 rfl rfl ?_
      refine lv_iconst (v := 0) hx hb d_WD_init_120 (by decide) ?_
      refine x_putZ (C := "WallDamp") (F := F_WD) (N := 8) (ty := t_WD 5) (v := .int (0 : Int32)) (w' := x_sI w78 12 l0 (0 : Int32)) hx hb hts i_WD t_WD ty_WD n_WD hown hK hH hS hT76 (by decide) rfl rfl 5 (by decide) (hts _ m_350) (fun _ h9 => h9) rfl (ty_WD 5 (by decide)) rfl rfl (x_on_I hT76 (by decide) rfl nd_WD) (fun j hj => x_off_I hj) (fun hh ok => x_ok_I hh ok) d_WD_init_121 (fun H locs hz1 hH hS => ?_)
      have hz := hz1.trans hz
      obtain ⟨w80, e81, hf⟩ := x_b hf
      have hH := x_nw e81 hH
      refine lv_aload_n hx hb d_WD_init_124 rfl (lv_at hl 0 rfl) ?_
      refine lv_iconst (v := 0) hx hb d_WD_init_125 (by decide) ?_
      refine x_putZ (C := "WallDamp") (F := F_WD) (N := 8) (ty := t_WD 6) (v := .int (0 : Int32)) (w' := x_sI w80 13 l0 (0 : Int32)) hx hb hts i_WD t_WD ty_WD n_WD hown hK hH hS hT76 (by decide) rfl rfl 6 (by decide) (hts _ m_351) (fun _ h9 => h9) rfl (ty_WD 6 (by decide)) rfl rfl (x_on_I hT76 (by decide) rfl nd_WD) (fun j hj => x_off_I hj) (fun hh ok => x_ok_I hh ok) d_WD_init_126 (fun H locs hz1 hH hS => ?_)
      have hz := hz1.trans hz
      obtain ⟨w82, e83, hf⟩ := x_b hf
      have hH := x_nw e83 hH
      refine lv_aload_n hx hb d_WD_init_129 rfl (lv_at hl 0 rfl) ?_
      refine lv_lconst (v := 0) hx hb d_WD_init_130 (by decide) ?_
      refine x_putZ (C := "WallDamp") (F := F_WD) (N := 8) (ty := t_WD 7) (v := .long (0 : Int64)) (w' := x_sJ w82 14 l0 (0 : Int64)) hx hb hts i_WD t_WD ty_WD n_WD hown hK hH hS hT76 (by decide) rfl rfl 7 (by decide) (hts _ m_352) (fun _ h9 => h9) rfl (ty_WD 7 (by decide)) rfl rfl (x_on_J hT76 (by decide) rfl nd_WD) (fun j hj => x_off_J hj) (fun hh ok => x_ok_J hh ok) d_WD_init_131 (fun H locs hz1 hH hS => ?_)
      have hz := hz1.trans hz
      obtain ⟨w84, e85, hf⟩ := x_b hf
      have hH := x_nw e85 hH
      refine x_pc 134 rfl ?_
      refine x_cs 145 1443 rfl rfl ?_
      cases hf
      refine W.widen (k := 145) (n := 1443) (by omega) (by omega) ?_
      exact W.vret hx hb hr (fun t ht hW => ⟨rfl, hS.F ht, by rw [ht]; exact hz, by rw [ht]; exact hH⟩) hS.2.2 d_WD_init_134
    · have hf := x_if hf c8
      refine lv_aload_n hx hb d_WD_init_35 rfl (lv_at hl 0 rfl) ?_
      obtain ⟨a86, e87, hf⟩ := x_b hf
      refine x_get (C := "WallDamp") (F := F_WD) (N := 8) hx hb hts i_WD hown hK hH hT3 (by decide) rfl 0 (by decide) (hts _ m_345) (fun _ h9 => h9) (kd := (2, 7)) rfl (x_fr e87) d_WD_init_36 ?_
      refine x_pc 39 rfl ?_
      refine lv_iload_n hx hb d_WD_init_39 rfl (lv_at hl 2 rfl) ?_
      obtain ⟨_, e88, hf⟩ := x_b hf
      refine x_new (C := "WallDamp$Material") (F := F_Material) (N := 4) (ci := 5) hx hb hts i_Material t_Material ty_Material hown (hts _ m_33) (hts _ m_35) (hts _ m_3) hK hH hS hA hz (by decide) rfl df_Material (by show _ ≤ 145; omega) (by show _ ≤ 1443; omega) d_WD_init_40 (fun H hz1 hH hS => ?_)
      have hz := x_lin hlin e88 hz1
      obtain ⟨T90, e89, hf⟩ := x_b hf
      have hH := x_nT e89 hH
      refine lv_dup hx hb d_WD_init_43 rfl ?_
      obtain ⟨q91, e92, hf⟩ := x_b hf
      refine x_callN (va_runI (As := []) (rest := [.ref (ad nx), .int l3, .ref (ad a86)]) ⟨hx, hb, hml, hown, hts⟩ (c_Material_init l D aC ad M hlin T90 (nx + 1) w nx q91 e92) (cwI 0 hts (x_gI m_38) rfl rfl rfl (hts _ m_3) (hts _ m_36) (hts _ m_37) rfl pd_Material_init ⟨Nat.le_of_ble_eq_true rfl, Nat.le_of_ble_eq_true rfl⟩) (x_preN hz hH hK hX hAo) rfl rfl hl.1 rfl (lv_room (Nat.le_of_ble_eq_true rfl)) d_WD_init_44 ⟨(by show _ ≤ 145; omega), (by show _ ≤ 1443; omega)⟩) hz hH hA hS (fun H locs hz hH hS => ?_)
      obtain ⟨_, e93, hf⟩ := x_b hf
      obtain ⟨n94, hT95⟩ := x_is_e e93
      obtain ⟨_, e96, hf⟩ := x_b hf
      obtain ⟨n97, hT98, hi99⟩ := x_ix_e e96
      refine x_aastZ (r := ("WallDamp$Material", F_Material, 4)) hx hb hK hH hS hT98 (by decide) 3 rfl hT95 (by decide) rfl hi99 d_WD_init_47 (fun H locs hz1 hH hS => ?_)
      have hz := hz1.trans hz
      obtain ⟨w100, e101, hf⟩ := x_b hf
      have hH := x_nw e101 hH
      refine lv_iinc (v := (l3 + 1)) (lv' := [(3, .int (l3 + 1)), (0, .ref (ad l0)), (2, .int l2)]) hx hb d_WD_init_48 hl (k := 2) rfl rfl (by decide) rfl (fun ls hl => ?_)
      refine x_pc 51 rfl ?_
      refine lv_goto (tgt := 26) hx hb d_WD_init_51 (by decide) ?_
      exact ih (cn + 4) (sl + 24) (by omega) (by omega) q91.1 q91.2.1 w100 _ _ _ l0 l2 (l3 + 1) hf hz hH hS (lv_sub hl [1, 2, 0] rfl)
set_option maxHeartbeats 4000000 in
set_option maxRecDepth 100000 in
theorem k_WD_init {p : Program} {l : Launch} {e : Env} {s : State} {m : MethodId} {args : Array Value} {below : List Frame} {meth : Method} {c : Code} {D : va_G} {aC : Nat → ClassId} {ad : Nat → Nat} {M : Nat} {A : Nat → Prop} {q : x_T × Nat × x_W} (C0 : x_At p s m meth c args "WallDamp" b_WD_init none 4 D aC A) (hin : meth.name = "<init>") (hAo : x_Ao s) (hlin : x_Lin ad M) : ∀ (T : x_T) (nx : Nat) (w : x_W) (H : Heap) (locs : List Loc) (ls : Array Slot) (l0 : Nat) (l1 : Int32), f_WD_init M T nx w l0 l1 = some q → H.size = ad nx → x_H D x_cl x_FT aC ad T nx A w H → va_S A s.heap H locs → lv_has ls 4 [(0, .ref (ad l0)), (1, .int l1)] → W p l e { frames := 4, cells := 145, slots := 1443, locals := 85 } s m args below meth c H locs 0 0 (MQ below (x_Qn D aC ad q A) args s 145 1443 A) (F0 m 0 ls []) := by
  obtain ⟨hx, hb, hr, hml, hown, hts, hlocks, hK, hA, hX⟩ := id C0
  intro T nx w H locs ls l0 l1 hf hz hH hS hl
  unfold f_WD_init at hf
  refine lv_aload_n hx hb d_WD_init_0 rfl (lv_at hl 0 rfl) ?_
  refine W.objInit hx hb hown (hts _ m_24) (hts _ m_25) (hts _ m_26) (g := F0 m 1 ls (.ref (ad l0) :: [])) rfl (hl.1.trans hml.symm) rfl d_WD_init_1 (Nat.le_of_ble_eq_true rfl) (Nat.le_of_ble_eq_true rfl) ?_
  refine lv_iconst (v := 1) hx hb d_WD_init_4 (by decide) ?_
  refine lv_bipush (v := 12) hx hb d_WD_init_5 (by decide) ?_
  refine lv_iload_n hx hb d_WD_init_7 rfl (lv_at hl 1 rfl) ?_
  obtain ⟨q1, e2, hf⟩ := x_b hf
  refine x_callP (st1 := [.int q1, .int (1 : Int32)]) (x_runS (As := [.int (12 : Int32), .int l1]) (rest := [.int (1 : Int32)]) ⟨hx, hb, hml, hown, hts⟩ (c_Math_min l D aC ad T nx H.size w (12 : Int32) l1 q1 e2) (va_cwS 2 hts (x_gS m_27 m_28 m_2 m_29) rfl rfl rfl pd_Math_min ⟨Nat.le_of_ble_eq_true rfl, Nat.le_of_ble_eq_true rfl⟩) hH hK hX rfl hl.1 rfl (lv_room (Nat.le_of_ble_eq_true rfl)) d_WD_init_8 ⟨(by show _ ≤ 145; omega), (by show _ ≤ 1443; omega)⟩) rfl ?_
  obtain ⟨q3, e4, hf⟩ := x_b hf
  refine x_callP (st1 := [.int q3]) (x_runS (As := [.int (1 : Int32), .int q1]) (rest := []) ⟨hx, hb, hml, hown, hts⟩ (c_Math_max l D aC ad T nx H.size w (1 : Int32) q1 q3 e4) (va_cwS 2 hts (x_gS m_30 m_31 m_2 m_32) rfl rfl rfl pd_Math_max ⟨Nat.le_of_ble_eq_true rfl, Nat.le_of_ble_eq_true rfl⟩) hH hK hX rfl hl.1 rfl (lv_room (Nat.le_of_ble_eq_true rfl)) d_WD_init_11 ⟨(by show _ ≤ 145; omega), (by show _ ≤ 1443; omega)⟩) rfl ?_
  refine x_pc 14 rfl ?_
  refine x_cs 0 0 rfl rfl ?_
  refine lv_istore_n (lv' := [(2, .int q3), (0, .ref (ad l0)), (1, .int l1)]) hx hb d_WD_init_14 rfl hl (by decide) rfl (fun ls hl => ?_)
  refine lv_aload_n hx hb d_WD_init_15 rfl (lv_at hl 1 rfl) ?_
  refine lv_bipush (v := 6) hx hb d_WD_init_16 (by decide) ?_
  obtain ⟨_, e5, hf⟩ := x_b hf
  obtain ⟨n7, e6, hf⟩ := x_b hf
  obtain ⟨hn8, hN9, hM10⟩ := x_sz_e e6
  refine x_newq (ci := 103) hx hb hown (hts _ m_33) hAo.1 hK hH hS hA hz 3 rfl (by decide) hn8 hN9 (by omega) (by show _ ≤ 145; omega) (by show _ ≤ 1443; omega) d_WD_init_18 (fun H hz1 hH hS => ?_)
  have hz := x_lin hlin e5 hz1
  obtain ⟨T12, e11, hf⟩ := x_b hf
  have hH := x_nT e11 hH
  refine W.widen (k := 1) (n := 6) (by omega) (by omega) ?_
  obtain ⟨_, e13, hf⟩ := x_b hf
  obtain ⟨n14, hT15⟩ := x_is_e e13
  obtain ⟨_, e16, hf⟩ := x_b hf
  refine x_putFZ (C := "WallDamp") (F := F_WD) (N := 8) (ty := t_WD 0) (v := .ref (ad nx)) (w' := x_sR w 7 l0 (some nx)) hx hb hts i_WD t_WD ty_WD n_WD hown hK hH hS hT15 (by decide) rfl rfl 0 (by decide) (hts _ m_345) (fun _ h9 => h9) rfl hin rfl (ty_WD 0 (by decide)) rfl rfl (x_on_R (v := some nx) hT15 (by decide) rfl nd_WD k3_WD) (fun j hj => x_off_R hj) (fun hh => x_ok_R hh (x_ex_lt e16 hH)) d_WD_init_21 (fun H locs hz1 hH hS => ?_)
  have hz := hz1.trans hz
  obtain ⟨w17, e18, hf⟩ := x_b hf
  have hH := x_nw e18 hH
  refine lv_iconst (v := 0) hx hb d_WD_init_24 (by decide) ?_
  refine lv_istore_n (lv' := [(3, .int (0 : Int32)), (2, .int q3), (0, .ref (ad l0)), (1, .int l1)]) hx hb d_WD_init_25 rfl hl (by decide) rfl (fun ls hl => ?_)
  exact k_WD_init_26 C0 hin hAo hlin 7 1 6 (by decide) (by decide) T12 (nx + 1) w17 _ _ _ l0 q3 (0 : Int32) hf hz hH hS (lv_sub hl [2, 1, 0] rfl)
theorem c_WD_init (l : Launch) (D : va_G) (aC : Nat → ClassId) (ad : Nat → Nat) (M : Nat) (hlin : x_Lin ad M) (T : x_T) (nx : Nat) (w : x_W) (a0 : Nat) (a1 : Int32) (q : x_T × Nat × x_W) (hf : f_WD_init M T nx w a0 a1 = some q) : Met l y_WD_init ws_WD_init { frames := 4, cells := 145, slots := 1443, locals := 85 } (x_Pn D aC ad T nx w [.ref (ad a0), .int a1]) (x_Qn D aC ad q (x_dom ad nx (ad nx))) 145 1443 (x_dom ad nx (ad nx)) :=
  x_metN [(0, .ref (ad a0)), (1, .int a1)] (by decide) rfl rfl rfl (Nat.le_of_ble_eq_true rfl) (fun p e s m args below meth c ls C0 hin hAo hz hH hS hl => k_WD_init C0 hin hAo hlin T nx w _ _ _ a0 a1 hf hz hH hS (lv_sub hl [0, 1] rfl))
