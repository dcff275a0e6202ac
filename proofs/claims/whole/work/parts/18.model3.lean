/-! WallDampModel.told(II)I -/
def f_Mod_told_114 (T : x_T) (w : x_W) (t0 : Int32) : Option (Int32 × x_W) :=
  some (t0, w)
def f_Mod_told_26 (T : x_T) (w : x_W) (l0 : Nat) (l1 : Int32) (l2 : Int32) (t0 : Nat) (t1 : Int32) : Option (Int32 × x_W) :=
  (x_is T t0 10).bind fun _ =>
  (some (x_sI w 64 t0 t1)).bind fun w4 =>
  (x_is T l0 10).bind fun _ =>
  if (x_I w4 64 l0) ≤ 0 then
    (if l2 = 0 then
      ((x_R w4 74 l0).bind fun a11 =>
      (x_ix T a11 101 l1).bind fun _ =>
      some (((x_B w4 a11 l1.toNatClampNeg).toInt32), w4))
    else
      (if l2 = 1 then
        ((f_Mod_dampOf T w4 l0 l1).bind fun q18 =>
        some (q18, w4))
      else
        (if l2 = 2 then
          ((x_R w4 76 l0).bind fun a21 =>
          (x_ix T a21 100 l1).bind fun _ =>
          some ((x_A w4 a21 l1.toNatClampNeg), w4))
        else
          (if l2 = 3 then
            ((x_R w4 77 l0).bind fun a28 =>
            (x_ix T a28 100 l1).bind fun _ =>
            some ((x_A w4 a28 l1.toNatClampNeg), w4))
          else
            (if l2 = 4 then
              ((x_R w4 78 l0).bind fun a35 =>
              (x_ix T a35 102 l1).bind fun _ =>
              if (x_A w4 a35 l1.toNatClampNeg) = 0 then
                (f_Mod_told_114 T w4 (0 : Int32))
              else
                (f_Mod_told_114 T w4 (1 : Int32)))
            else
              ((x_R w4 79 l0).bind fun a42 =>
              (x_ix T a42 100 l1).bind fun _ =>
              some ((x_A w4 a42 l1.toNatClampNeg), w4)))))))
  else
    (some ((0 : Int32), w4))
def f_Mod_told_25 (T : x_T) (w : x_W) (l0 : Nat) (l1 : Int32) (l2 : Int32) (t0 : Nat) : Option (Int32 × x_W) :=
  f_Mod_told_26 T w l0 l1 l2 t0 (1 : Int32)
def f_Mod_told (T : x_T) (w : x_W) (l0 : Nat) (l1 : Int32) (l2 : Int32) : Option (Int32 × x_W) :=
  (x_is T l0 10).bind fun _ =>
  (f_Mod_isCell T w l0 l1).bind fun q1 =>
  if q1 = 0 then
    (f_Mod_told_25 T w l0 l1 l2 l0)
  else
    ((f_Mod_in T w (l2.toInt64) (0 : Int64) (5 : Int64)).bind fun q7 =>
    if q7 = 0 then
      (f_Mod_told_25 T w l0 l1 l2 l0)
    else
      (f_Mod_told_26 T w l0 l1 l2 l0 (0 : Int32)))
set_option maxHeartbeats 4000000 in
set_option maxRecDepth 100000 in
theorem k_Mod_told_114 {p : Program} {l : Launch} {e : Env} {s : State} {m : MethodId} {args : Array Value} {below : List Frame} {meth : Method} {c : Code} {D : va_G} {aC : Nat → ClassId} {ad : Nat → Nat} {T : x_T} {nx : Nat} {A : Nat → Prop} {q : Int32 × x_W} (C0 : x_At p s m meth c args "WallDampModel" b_Mod_told (some (.int)) 3 D aC A) : ∀ (w : x_W) (H : Heap) (locs : List Loc) (ls : Array Slot) (t0 : Int32), f_Mod_told_114 T w t0 = some q → x_H D x_cl x_FT aC ad T nx A w H → va_S A s.heap H locs → lv_has ls 3 [] → W p l e { frames := 2, cells := 0, slots := 0, locals := 46 } s m args below meth c H locs 0 0 (MQ below (x_Qc D aC ad T nx (some (.int q.1)) q.2 A) args s 0 0 A) (F0 m 114 ls [.int t0]) := by
  obtain ⟨hx, hb, hr, hml, hown, hts, hlocks, hK, hA, hX⟩ := id C0
  intro w H locs ls t0 hf hH hS hl
  unfold f_Mod_told_114 at hf
  cases hf
  refine x_sz0 hS (fun hz => ?_)
  exact W.iret hx hb hr (fun t ht hW => ⟨rfl, hS.F ht, by rw [ht]; exact hz, by rw [ht]; exact hH.weaken (fun _ _ _ => trivial)⟩) hS.2.2 d_Mod_told_114
set_option maxHeartbeats 4000000 in
set_option maxRecDepth 100000 in
theorem k_Mod_told_26 {p : Program} {l : Launch} {e : Env} {s : State} {m : MethodId} {args : Array Value} {below : List Frame} {meth : Method} {c : Code} {D : va_G} {aC : Nat → ClassId} {ad : Nat → Nat} {T : x_T} {nx : Nat} {A : Nat → Prop} {q : Int32 × x_W} (C0 : x_At p s m meth c args "WallDampModel" b_Mod_told (some (.int)) 3 D aC A) : ∀ (w : x_W) (H : Heap) (locs : List Loc) (ls : Array Slot) (l0 : Nat) (l1 : Int32) (l2 : Int32) (t0 : Nat) (t1 : Int32), f_Mod_told_26 T w l0 l1 l2 t0 t1 = some q → x_H D x_cl x_FT aC ad T nx A w H → va_S A s.heap H locs → lv_has ls 3 [(0, .ref (ad l0)), (1, .int l1), (2, .int l2)] → W p l e { frames := 2, cells := 0, slots := 0, locals := 46 } s m args below meth c H locs 0 0 (MQ below (x_Qc D aC ad T nx (some (.int q.1)) q.2 A) args s 0 0 A) (F0 m 26 ls [.int t1, .ref (ad t0)]) := by
  obtain ⟨hx, hb, hr, hml, hown, hts, hlocks, hK, hA, hX⟩ := id C0
  intro w H locs ls l0 l1 l2 t0 t1 hf hH hS hl
  unfold f_Mod_told_26 at hf
  obtain ⟨_, e1, hf⟩ := x_b hf
  obtain ⟨n2, hT3⟩ := x_is_e e1
  refine x_put (C := "WallDampModel") (F := F_Mod) (N := 51) (ty := t_Mod 0) (v := .int t1) (w' := x_sI w 64 t0 t1) hx hb hts i_Mod t_Mod ty_Mod n_Mod hown hK hH hS hT3 (by decide) rfl rfl 0 (by decide) (hts _ m_793) (fun _ h9 => h9) rfl (ty_Mod 0 (by decide)) rfl rfl (x_on_I hT3 (by decide) rfl nd_Mod) (fun j hj => x_off_I hj) (fun hh ok => x_ok_I hh ok) d_Mod_told_26 (fun H locs hH hS => ?_)
  obtain ⟨w4, e5, hf⟩ := x_b hf
  have hH := x_nw e5 hH
  refine lv_aload_n hx hb d_Mod_told_29 rfl (lv_at hl 0 rfl) ?_
  obtain ⟨_, e6, hf⟩ := x_b hf
  obtain ⟨n7, hT8⟩ := x_is_e e6
  refine x_get (C := "WallDampModel") (F := F_Mod) (N := 51) hx hb hts i_Mod hown hK hH hT8 (by decide) rfl 0 (by decide) (hts _ m_793) (fun _ h9 => h9) (kd := (0, 64)) rfl rfl d_Mod_told_30 ?_
  refine lv_if_le (tgt := 38) hx hb d_Mod_told_33 (by decide) (fun c9 => ?_) (fun c9 => ?_)
  · have hf := x_it hf c9
    refine lv_iload_n hx hb d_Mod_told_38 rfl (lv_at hl 2 rfl) ?_
    by_cases c10 : l2 = 0
    · have hf := x_it hf c10
      refine x_tin (k := 0) (off := 33) (tgt := 72) c10 hx hb d_Mod_told_39 (by decide) (by decide) rfl (by decide) ?_
      refine lv_aload_n hx hb d_Mod_told_72 rfl (lv_at hl 0 rfl) ?_
      obtain ⟨a11, e12, hf⟩ := x_b hf
      refine x_get (C := "WallDampModel") (F := F_Mod) (N := 51) hx hb hts i_Mod hown hK hH hT8 (by decide) rfl 10 (by decide) (hts _ m_803) (fun _ h9 => h9) (kd := (2, 74)) rfl (x_fr e12) d_Mod_told_73 ?_
      refine lv_iload_n hx hb d_Mod_told_76 rfl (lv_at hl 1 rfl) ?_
      obtain ⟨_, e13, hf⟩ := x_b hf
      obtain ⟨n14, hT15, hi16⟩ := x_ix_e e13
      refine x_lald hx hb hK hH hT15 1 rfl hi16 d_Mod_told_77 ?_
      refine lv_l2i (v := (x_B w4 a11 l1.toNatClampNeg).toInt32) hx hb d_Mod_told_78 rfl ?_
      cases hf
      refine x_sz0 hS (fun hz => ?_)
      exact W.iret hx hb hr (fun t ht hW => ⟨rfl, hS.F ht, by rw [ht]; exact hz, by rw [ht]; exact hH.weaken (fun _ _ _ => trivial)⟩) hS.2.2 d_Mod_told_79
    · have hf := x_if hf c10
      by_cases c17 : l2 = 1
      · have hf := x_it hf c17
        refine x_tin (k := 1) (off := 41) (tgt := 80) c17 hx hb d_Mod_told_39 (by decide) (by decide) rfl (by decide) ?_
        refine lv_aload_n hx hb d_Mod_told_80 rfl (lv_at hl 0 rfl) ?_
        refine lv_iload_n hx hb d_Mod_told_81 rfl (lv_at hl 1 rfl) ?_
        obtain ⟨q18, e19, hf⟩ := x_b hf
        refine x_callP (st1 := [.int q18]) (x_runV (As := [.int l1]) (rest := []) ⟨hx, hb, hml, hown, hts⟩ (c_Mod_dampOf l D aC ad T nx H.size w4 l0 l1 q18 e19) (cwV 1 hts (x_gV m_1045 m_1047 ms_22 m_13 m_1048) rfl rfl rfl ⟨rfl, pd_Mod_dampOf⟩ ⟨Nat.le_of_ble_eq_true rfl, Nat.le_of_ble_eq_true rfl⟩) hH hK hX hT8 (by decide) rfl rfl rfl hl.1 rfl (lv_room (Nat.le_of_ble_eq_true rfl)) d_Mod_told_82 ⟨Nat.zero_le _, Nat.zero_le _⟩) rfl ?_
        cases hf
        refine x_sz0 hS (fun hz => ?_)
        exact W.iret hx hb hr (fun t ht hW => ⟨rfl, hS.F ht, by rw [ht]; exact hz, by rw [ht]; exact hH.weaken (fun _ _ _ => trivial)⟩) hS.2.2 d_Mod_told_85
      · have hf := x_if hf c17
        by_cases c20 : l2 = 2
        · have hf := x_it hf c20
          refine x_tin (k := 2) (off := 47) (tgt := 86) c20 hx hb d_Mod_told_39 (by decide) (by decide) rfl (by decide) ?_
          refine lv_aload_n hx hb d_Mod_told_86 rfl (lv_at hl 0 rfl) ?_
          obtain ⟨a21, e22, hf⟩ := x_b hf
          refine x_get (C := "WallDampModel") (F := F_Mod) (N := 51) hx hb hts i_Mod hown hK hH hT8 (by decide) rfl 12 (by decide) (hts _ m_805) (fun _ h9 => h9) (kd := (2, 76)) rfl (x_fr e22) d_Mod_told_87 ?_
          refine lv_iload_n hx hb d_Mod_told_90 rfl (lv_at hl 1 rfl) ?_
          obtain ⟨_, e23, hf⟩ := x_b hf
          obtain ⟨n24, hT25, hi26⟩ := x_ix_e e23
          refine x_iald hx hb hK hH hT25 0 rfl hi26 d_Mod_told_91 ?_
          cases hf
          refine x_sz0 hS (fun hz => ?_)
          exact W.iret hx hb hr (fun t ht hW => ⟨rfl, hS.F ht, by rw [ht]; exact hz, by rw [ht]; exact hH.weaken (fun _ _ _ => trivial)⟩) hS.2.2 d_Mod_told_92
        · have hf := x_if hf c20
          by_cases c27 : l2 = 3
          · have hf := x_it hf c27
            refine x_tin (k := 3) (off := 54) (tgt := 93) c27 hx hb d_Mod_told_39 (by decide) (by decide) rfl (by decide) ?_
            refine lv_aload_n hx hb d_Mod_told_93 rfl (lv_at hl 0 rfl) ?_
            obtain ⟨a28, e29, hf⟩ := x_b hf
            refine x_get (C := "WallDampModel") (F := F_Mod) (N := 51) hx hb hts i_Mod hown hK hH hT8 (by decide) rfl 13 (by decide) (hts _ m_806) (fun _ h9 => h9) (kd := (2, 77)) rfl (x_fr e29) d_Mod_told_94 ?_
            refine lv_iload_n hx hb d_Mod_told_97 rfl (lv_at hl 1 rfl) ?_
            obtain ⟨_, e30, hf⟩ := x_b hf
            obtain ⟨n31, hT32, hi33⟩ := x_ix_e e30
            refine x_iald hx hb hK hH hT32 0 rfl hi33 d_Mod_told_98 ?_
            cases hf
            refine x_sz0 hS (fun hz => ?_)
            exact W.iret hx hb hr (fun t ht hW => ⟨rfl, hS.F ht, by rw [ht]; exact hz, by rw [ht]; exact hH.weaken (fun _ _ _ => trivial)⟩) hS.2.2 d_Mod_told_99
          · have hf := x_if hf c27
            by_cases c34 : l2 = 4
            · have hf := x_it hf c34
              refine x_tin (k := 4) (off := 61) (tgt := 100) c34 hx hb d_Mod_told_39 (by decide) (by decide) rfl (by decide) ?_
              refine lv_aload_n hx hb d_Mod_told_100 rfl (lv_at hl 0 rfl) ?_
              obtain ⟨a35, e36, hf⟩ := x_b hf
              refine x_get (C := "WallDampModel") (F := F_Mod) (N := 51) hx hb hts i_Mod hown hK hH hT8 (by decide) rfl 14 (by decide) (hts _ m_807) (fun _ h9 => h9) (kd := (2, 78)) rfl (x_fr e36) d_Mod_told_101 ?_
              refine lv_iload_n hx hb d_Mod_told_104 rfl (lv_at hl 1 rfl) ?_
              obtain ⟨_, e37, hf⟩ := x_b hf
              obtain ⟨n38, hT39, hi40⟩ := x_ix_e e37
              refine x_zald hx hb hK hH hT39 2 rfl hi40 d_Mod_told_105 ?_
              refine lv_if_eq (tgt := 113) hx hb d_Mod_told_106 (by decide) (fun c41 => ?_) (fun c41 => ?_)
              · have hf := x_it hf c41
                refine lv_iconst (v := 0) hx hb d_Mod_told_113 (by decide) ?_
                exact k_Mod_told_114 C0 w4 _ _ _ (0 : Int32) hf hH hS (lv_sub hl [] rfl)
              · have hf := x_if hf c41
                refine lv_iconst (v := 1) hx hb d_Mod_told_109 (by decide) ?_
                refine lv_goto (tgt := 114) hx hb d_Mod_told_110 (by decide) ?_
                exact k_Mod_told_114 C0 w4 _ _ _ (1 : Int32) hf hH hS (lv_sub hl [] rfl)
            · have hf := x_if hf c34
              refine lv_tableOut (tgt := 115) hx hb d_Mod_told_39 (by have := lv_neT c10 (a := 0) rfl; have := lv_neT c17 (a := 1) rfl; have := lv_neT c20 (a := 2) rfl; have := lv_neT c27 (a := 3) rfl; have := lv_neT c34 (a := 4) rfl; omega) (by decide) ?_
              refine lv_aload_n hx hb d_Mod_told_115 rfl (lv_at hl 0 rfl) ?_
              obtain ⟨a42, e43, hf⟩ := x_b hf
              refine x_get (C := "WallDampModel") (F := F_Mod) (N := 51) hx hb hts i_Mod hown hK hH hT8 (by decide) rfl 15 (by decide) (hts _ m_808) (fun _ h9 => h9) (kd := (2, 79)) rfl (x_fr e43) d_Mod_told_116 ?_
              refine lv_iload_n hx hb d_Mod_told_119 rfl (lv_at hl 1 rfl) ?_
              obtain ⟨_, e44, hf⟩ := x_b hf
              obtain ⟨n45, hT46, hi47⟩ := x_ix_e e44
              refine x_iald hx hb hK hH hT46 0 rfl hi47 d_Mod_told_120 ?_
              cases hf
              refine x_sz0 hS (fun hz => ?_)
              exact W.iret hx hb hr (fun t ht hW => ⟨rfl, hS.F ht, by rw [ht]; exact hz, by rw [ht]; exact hH.weaken (fun _ _ _ => trivial)⟩) hS.2.2 d_Mod_told_121
  · have hf := x_if hf c9
    refine lv_iconst (v := 0) hx hb d_Mod_told_36 (by decide) ?_
    cases hf
    refine x_sz0 hS (fun hz => ?_)
    exact W.iret hx hb hr (fun t ht hW => ⟨rfl, hS.F ht, by rw [ht]; exact hz, by rw [ht]; exact hH.weaken (fun _ _ _ => trivial)⟩) hS.2.2 d_Mod_told_37
set_option maxHeartbeats 4000000 in
set_option maxRecDepth 100000 in
theorem k_Mod_told_25 {p : Program} {l : Launch} {e : Env} {s : State} {m : MethodId} {args : Array Value} {below : List Frame} {meth : Method} {c : Code} {D : va_G} {aC : Nat → ClassId} {ad : Nat → Nat} {T : x_T} {nx : Nat} {A : Nat → Prop} {q : Int32 × x_W} (C0 : x_At p s m meth c args "WallDampModel" b_Mod_told (some (.int)) 3 D aC A) : ∀ (w : x_W) (H : Heap) (locs : List Loc) (ls : Array Slot) (l0 : Nat) (l1 : Int32) (l2 : Int32) (t0 : Nat), f_Mod_told_25 T w l0 l1 l2 t0 = some q → x_H D x_cl x_FT aC ad T nx A w H → va_S A s.heap H locs → lv_has ls 3 [(0, .ref (ad l0)), (1, .int l1), (2, .int l2)] → W p l e { frames := 2, cells := 0, slots := 0, locals := 46 } s m args below meth c H locs 0 0 (MQ below (x_Qc D aC ad T nx (some (.int q.1)) q.2 A) args s 0 0 A) (F0 m 25 ls [.ref (ad t0)]) := by
  obtain ⟨hx, hb, hr, hml, hown, hts, hlocks, hK, hA, hX⟩ := id C0
  intro w H locs ls l0 l1 l2 t0 hf hH hS hl
  unfold f_Mod_told_25 at hf
  refine lv_iconst (v := 1) hx hb d_Mod_told_25 (by decide) ?_
  exact k_Mod_told_26 C0 w _ _ _ l0 l1 l2 t0 (1 : Int32) hf hH hS (lv_sub hl [0, 1, 2] rfl)
set_option maxHeartbeats 4000000 in
set_option maxRecDepth 100000 in
theorem k_Mod_told {p : Program} {l : Launch} {e : Env} {s : State} {m : MethodId} {args : Array Value} {below : List Frame} {meth : Method} {c : Code} {D : va_G} {aC : Nat → ClassId} {ad : Nat → Nat} {T : x_T} {nx : Nat} {A : Nat → Prop} {q : Int32 × x_W} (C0 : x_At p s m meth c args "WallDampModel" b_Mod_told (some (.int)) 3 D aC A) : ∀ (w : x_W) (H : Heap) (locs : List Loc) (ls : Array Slot) (l0 : Nat) (l1 : Int32) (l2 : Int32), f_Mod_told T w l0 l1 l2 = some q → x_H D x_cl x_FT aC ad T nx A w H → va_S A s.heap H locs → lv_has ls 3 [(0, .ref (ad l0)), (1, .int l1), (2, .int l2)] → W p l e { frames := 2, cells := 0, slots := 0, locals := 46 } s m args below meth c H locs 0 0 (MQ below (x_Qc D aC ad T nx (some (.int q.1)) q.2 A) args s 0 0 A) (F0 m 0 ls []) := by
  obtain ⟨hx, hb, hr, hml, hown, hts, hlocks, hK, hA, hX⟩ := id C0
  intro w H locs ls l0 l1 l2 hf hH hS hl
  unfold f_Mod_told at hf
  refine lv_aload_n hx hb d_Mod_told_0 rfl (lv_at hl 0 rfl) ?_
  refine lv_aload_n hx hb d_Mod_told_1 rfl (lv_at hl 0 rfl) ?_
  refine lv_iload_n hx hb d_Mod_told_2 rfl (lv_at hl 1 rfl) ?_
  obtain ⟨_, e3, hf⟩ := x_b hf
  obtain ⟨n4, hT5⟩ := x_is_e e3
  obtain ⟨q1, e2, hf⟩ := x_b hf
  refine x_callP (st1 := [.int q1, .ref (ad l0)]) (x_runV (As := [.int l1]) (rest := [.ref (ad l0)]) ⟨hx, hb, hml, hown, hts⟩ (c_Mod_isCell l D aC ad T nx H.size w l0 l1 q1 e2) (cwV 1 hts (x_gV m_976 m_978 ms_16 m_13 m_979) rfl rfl rfl ⟨rfl, pd_Mod_isCell⟩ ⟨Nat.le_of_ble_eq_true rfl, Nat.le_of_ble_eq_true rfl⟩) hH hK hX hT5 (by decide) rfl rfl rfl hl.1 rfl (lv_room (Nat.le_of_ble_eq_true rfl)) d_Mod_told_3 ⟨Nat.zero_le _, Nat.zero_le _⟩) rfl ?_
  refine lv_if_eq (tgt := 25) hx hb d_Mod_told_6 (by decide) (fun c6 => ?_) (fun c6 => ?_)
  · have hf := x_it hf c6
    exact k_Mod_told_25 C0 w _ _ _ l0 l1 l2 l0 hf hH hS (lv_sub hl [0, 1, 2] rfl)
  · have hf := x_if hf c6
    refine lv_iload_n hx hb d_Mod_told_9 rfl (lv_at hl 2 rfl) ?_
    refine lv_i2l (v := l2.toInt64) hx hb d_Mod_told_10 rfl ?_
    refine lv_lconst (v := 0) hx hb d_Mod_told_11 (by decide) ?_
    refine lv_ldc2 (v := (5 : Int64)) hx hb hown (hts _ m_957) d_Mod_told_12 ?_
    obtain ⟨q7, e8, hf⟩ := x_b hf
    refine x_callP (st1 := [.int q7, .ref (ad l0)]) (x_runS (As := [.long (l2.toInt64), .long (0 : Int64), .long (5 : Int64)]) (rest := [.ref (ad l0)]) ⟨hx, hb, hml, hown, hts⟩ (c_Mod_in l D aC ad T nx H.size w (l2.toInt64) (0 : Int64) (5 : Int64) q7 e8) (va_cwS 3 hts (x_gS m_958 m_959 m_13 m_960) rfl rfl rfl pd_Mod_in ⟨Nat.le_of_ble_eq_true rfl, Nat.le_of_ble_eq_true rfl⟩) hH hK hX rfl hl.1 rfl (lv_room (Nat.le_of_ble_eq_true rfl)) d_Mod_told_15 ⟨Nat.zero_le _, Nat.zero_le _⟩) rfl ?_
    refine lv_if_eq (tgt := 25) hx hb d_Mod_told_18 (by decide) (fun c9 => ?_) (fun c9 => ?_)
    · have hf := x_it hf c9
      exact k_Mod_told_25 C0 w _ _ _ l0 l1 l2 l0 hf hH hS (lv_sub hl [0, 1, 2] rfl)
    · have hf := x_if hf c9
      refine lv_iconst (v := 0) hx hb d_Mod_told_21 (by decide) ?_
      refine lv_goto (tgt := 26) hx hb d_Mod_told_22 (by decide) ?_
      exact k_Mod_told_26 C0 w _ _ _ l0 l1 l2 l0 (0 : Int32) hf hH hS (lv_sub hl [0, 1, 2] rfl)
theorem c_Mod_told (l : Launch) (D : va_G) (aC : Nat → ClassId) (ad : Nat → Nat) (T : x_T) (nx sz : Nat) (w : x_W) (a0 : Nat) (a1 : Int32) (a2 : Int32) (q : Int32 × x_W) (hf : f_Mod_told T w a0 a1 a2 = some q) : Met l y_Mod_told ws_Mod_told { frames := 2, cells := 0, slots := 0, locals := 46 } (x_Pc D aC ad T nx sz w [.ref (ad a0), .int a1, .int a2]) (x_Qc D aC ad T nx (some (.int q.1)) q.2 (x_dom ad nx sz)) 0 0 (x_dom ad nx sz) :=
  x_met [(0, .ref (ad a0)), (1, .int a1), (2, .int a2)] (plainFor_of_name (by decide)) rfl rfl (Nat.le_of_ble_eq_true rfl) (fun p e s m args below meth c ls C0 hH hS hl => k_Mod_told C0 w _ _ _ a0 a1 a2 hf hH hS (lv_sub hl [0, 1, 2] rfl))
/-! WallDampModel.allWater()J -/
def f_Mod_allWater_4 (T : x_T) : Nat → x_W → Nat → Int64 → Int32 → Option (Int64)
  | 0, _, _, _, _ => none
  | n + 1, w, l0, l1, l3 =>
    (x_is T l0 10).bind fun _ =>
    if (x_I w 65 l0) ≤ l3 then
      (some l1)
    else
      ((x_R w 74 l0).bind fun a5 =>
      (x_ix T a5 101 l3).bind fun _ =>
      (some ((l1 + (x_B w a5 l3.toNatClampNeg)))).bind fun v11 =>
      f_Mod_allWater_4 T n w l0 v11 (l3 + 1))
def f_Mod_allWater (T : x_T) (w : x_W) (l0 : Nat) : Option (Int64) :=
  f_Mod_allWater_4 T 1000 w l0 (0 : Int64) (0 : Int32)
set_option maxHeartbeats 4000000 in
set_option maxRecDepth 100000 in
theorem k_Mod_allWater_4 {p : Program} {l : Launch} {e : Env} {s : State} {m : MethodId} {args : Array Value} {below : List Frame} {meth : Method} {c : Code} {D : va_G} {aC : Nat → ClassId} {ad : Nat → Nat} {T : x_T} {nx : Nat} {A : Nat → Prop} {q : Int64} (C0 : x_At p s m meth c args "WallDampModel" b_Mod_allWater (some (.long)) 4 D aC A) : ∀ (n : Nat), ∀ (w : x_W) (ls : Array Slot) (l0 : Nat) (l1 : Int64) (l3 : Int32), f_Mod_allWater_4 T n w l0 l1 l3 = some q → x_H D x_cl x_FT aC ad T nx A w s.heap → lv_has ls 4 [(0, .ref (ad l0)), (1, .long l1), (3, .int l3)] → W p l e { frames := 0, cells := 0, slots := 0, locals := 0 } s m args below meth c s.heap [] 0 0 (MQ below (x_Qp (some (.long q))) args s 0 0 (fun _ => False)) (F0 m 4 ls []) := by
  obtain ⟨hx, hb, hr, hml, hown, hts, hlocks, hK, hA, hX⟩ := id C0
  intro n
  induction n with
  | zero => intro w ls l0 l1 l3 hf; cases (show none = some q from hf)
  | succ n ih =>
    intro w ls l0 l1 l3 hf hH hl
    unfold f_Mod_allWater_4 at hf
    refine lv_iload_n hx hb d_Mod_allWater_4 rfl (lv_at hl 2 rfl) ?_
    refine lv_aload_n hx hb d_Mod_allWater_5 rfl (lv_at hl 0 rfl) ?_
    obtain ⟨_, e1, hf⟩ := x_b hf
    obtain ⟨n2, hT3⟩ := x_is_e e1
    refine x_get (C := "WallDampModel") (F := F_Mod) (N := 51) hx hb hts i_Mod hown hK hH hT3 (by decide) rfl 1 (by decide) (hts _ m_794) (fun _ h9 => h9) (kd := (0, 65)) rfl rfl d_Mod_allWater_6 ?_
    refine lv_icmp_ge (tgt := 27) hx hb d_Mod_allWater_9 (by decide) (fun c4 => ?_) (fun c4 => ?_)
    · have hf := x_it hf c4
      refine lv_lload_n hx hb d_Mod_allWater_27 rfl (lv_at hl 1 rfl) ?_
      cases hf
      exact W.lret hx hb hr (fun t ht hW => ⟨rfl, ht⟩) (fun _ h => by cases h) d_Mod_allWater_28
    · have hf := x_if hf c4
      refine lv_lload_n hx hb d_Mod_allWater_12 rfl (lv_at hl 1 rfl) ?_
      refine lv_aload_n hx hb d_Mod_allWater_13 rfl (lv_at hl 0 rfl) ?_
      obtain ⟨a5, e6, hf⟩ := x_b hf
      refine x_get (C := "WallDampModel") (F := F_Mod) (N := 51) hx hb hts i_Mod hown hK hH hT3 (by decide) rfl 10 (by decide) (hts _ m_803) (fun _ h9 => h9) (kd := (2, 74)) rfl (x_fr e6) d_Mod_allWater_14 ?_
      refine lv_iload_n hx hb d_Mod_allWater_17 rfl (lv_at hl 2 rfl) ?_
      obtain ⟨_, e7, hf⟩ := x_b hf
      obtain ⟨n8, hT9, hi10⟩ := x_ix_e e7
      refine x_lald hx hb hK hH hT9 1 rfl hi10 d_Mod_allWater_18 ?_
      refine lv_ladd hx hb d_Mod_allWater_19 ?_
      obtain ⟨v11, e12, hf⟩ := x_b hf
      refine x_nml e12 ?_
      refine lv_lstore_n (lv' := [(1, .long v11), (0, .ref (ad l0)), (3, .int l3)]) hx hb d_Mod_allWater_20 rfl hl (by decide) rfl (fun ls hl => ?_)
      refine lv_iinc (v := (l3 + 1)) (lv' := [(3, .int (l3 + 1)), (1, .long v11), (0, .ref (ad l0))]) hx hb d_Mod_allWater_21 hl (k := 2) rfl rfl (by decide) rfl (fun ls hl => ?_)
      refine lv_goto (tgt := 4) hx hb d_Mod_allWater_24 (by decide) ?_
      exact ih w _ l0 v11 (l3 + 1) hf hH (lv_sub hl [2, 1, 0] rfl)
set_option maxHeartbeats 4000000 in
set_option maxRecDepth 100000 in
theorem k_Mod_allWater {p : Program} {l : Launch} {e : Env} {s : State} {m : MethodId} {args : Array Value} {below : List Frame} {meth : Method} {c : Code} {D : va_G} {aC : Nat → ClassId} {ad : Nat → Nat} {T : x_T} {nx : Nat} {A : Nat → Prop} {q : Int64} (C0 : x_At p s m meth c args "WallDampModel" b_Mod_allWater (some (.long)) 4 D aC A) : ∀ (w : x_W) (ls : Array Slot) (l0 : Nat), f_Mod_allWater T w l0 = some q → x_H D x_cl x_FT aC ad T nx A w s.heap → lv_has ls 4 [(0, .ref (ad l0))] → W p l e { frames := 0, cells := 0, slots := 0, locals := 0 } s m args below meth c s.heap [] 0 0 (MQ below (x_Qp (some (.long q))) args s 0 0 (fun _ => False)) (F0 m 0 ls []) := by
  obtain ⟨hx, hb, hr, hml, hown, hts, hlocks, hK, hA, hX⟩ := id C0
  intro w ls l0 hf hH hl
  unfold f_Mod_allWater at hf
  refine lv_lconst (v := 0) hx hb d_Mod_allWater_0 (by decide) ?_
  refine lv_lstore_n (lv' := [(1, .long (0 : Int64)), (0, .ref (ad l0))]) hx hb d_Mod_allWater_1 rfl hl (by decide) rfl (fun ls hl => ?_)
  refine lv_iconst (v := 0) hx hb d_Mod_allWater_2 (by decide) ?_
  refine lv_istore_n (lv' := [(3, .int (0 : Int32)), (1, .long (0 : Int64)), (0, .ref (ad l0))]) hx hb d_Mod_allWater_3 rfl hl (by decide) rfl (fun ls hl => ?_)
  exact k_Mod_allWater_4 C0 1000 w _ l0 (0 : Int64) (0 : Int32) hf hH (lv_sub hl [2, 1, 0] rfl)
theorem c_Mod_allWater (l : Launch) (D : va_G) (aC : Nat → ClassId) (ad : Nat → Nat) (T : x_T) (nx sz : Nat) (w : x_W) (a0 : Nat) (q : Int64) (hf : f_Mod_allWater T w a0 = some q) : Met l y_Mod_allWater ws_Mod_allWater { frames := 0, cells := 0, slots := 0, locals := 0 } (x_Pc D aC ad T nx sz w [.ref (ad a0)]) (x_Qp (some (.long q))) 0 0 (fun _ => False) :=
  x_metP [(0, .ref (ad a0))] (plainFor_of_name (by decide)) rfl rfl (Nat.le_of_ble_eq_true rfl) (fun p e s m args below meth c ls C0 hH hl => k_Mod_allWater C0 w _ a0 hf hH (lv_sub hl [0] rfl))
/-! WallDampModel.balance(I)J -/
def f_Mod_balance_18 (T : x_T) (w : x_W) (l0 : Nat) (l1 : Int32) (t0 : Nat) (t1 : Int32) : Option (Int64 × x_W) :=
  (x_is T t0 10).bind fun _ =>
  (some (x_sI w 64 t0 t1)).bind fun w4 =>
  (x_is T l0 10).bind fun _ =>
  if (x_I w4 64 l0) ≤ 0 then
    (if l1 = 0 then
      ((f_Mod_allWater T w4 l0).bind fun q11 =>
      some (q11, w4))
    else
      (if l1 = 1 then
        (some ((x_J w4 98 l0), w4))
      else
        (if l1 = 2 then
          (some ((x_J w4 99 l0), w4))
        else
          (if l1 = 3 then
            (some ((x_J w4 100 l0), w4))
          else
            (if l1 = 4 then
              (some ((x_J w4 101 l0), w4))
            else
              (some ((x_J w4 102 l0), w4)))))))
  else
    (some ((0 : Int64), w4))
def f_Mod_balance (T : x_T) (w : x_W) (l0 : Nat) (l1 : Int32) : Option (Int64 × x_W) :=
  (f_Mod_in T w (l1.toInt64) (0 : Int64) (5 : Int64)).bind fun q1 =>
  if q1 = 0 then
    (f_Mod_balance_18 T w l0 l1 l0 (1 : Int32))
  else
    (f_Mod_balance_18 T w l0 l1 l0 (0 : Int32))
set_option maxHeartbeats 4000000 in
set_option maxRecDepth 100000 in
theorem k_Mod_balance_18 {p : Program} {l : Launch} {e : Env} {s : State} {m : MethodId} {args : Array Value} {below : List Frame} {meth : Method} {c : Code} {D : va_G} {aC : Nat → ClassId} {ad : Nat → Nat} {T : x_T} {nx : Nat} {A : Nat → Prop} {q : Int64 × x_W} (C0 : x_At p s m meth c args "WallDampModel" b_Mod_balance (some (.long)) 2 D aC A) : ∀ (w : x_W) (H : Heap) (locs : List Loc) (ls : Array Slot) (l0 : Nat) (l1 : Int32) (t0 : Nat) (t1 : Int32), f_Mod_balance_18 T w l0 l1 t0 t1 = some q → x_H D x_cl x_FT aC ad T nx A w H → va_S A s.heap H locs → lv_has ls 2 [(0, .ref (ad l0)), (1, .int l1)] → W p l e { frames := 1, cells := 0, slots := 0, locals := 25 } s m args below meth c H locs 0 0 (MQ below (x_Qc D aC ad T nx (some (.long q.1)) q.2 A) args s 0 0 A) (F0 m 18 ls [.int t1, .ref (ad t0)]) := by
  obtain ⟨hx, hb, hr, hml, hown, hts, hlocks, hK, hA, hX⟩ := id C0
  intro w H locs ls l0 l1 t0 t1 hf hH hS hl
  unfold f_Mod_balance_18 at hf
  obtain ⟨_, e1, hf⟩ := x_b hf
  obtain ⟨n2, hT3⟩ := x_is_e e1
  refine x_put (C := "WallDampModel") (F := F_Mod) (N := 51) (ty := t_Mod 0) (v := .int t1) (w' := x_sI w 64 t0 t1) hx hb hts i_Mod t_Mod ty_Mod n_Mod hown hK hH hS hT3 (by decide) rfl rfl 0 (by decide) (hts _ m_793) (fun _ h9 => h9) rfl (ty_Mod 0 (by decide)) rfl rfl (x_on_I hT3 (by decide) rfl nd_Mod) (fun j hj => x_off_I hj) (fun hh ok => x_ok_I hh ok) d_Mod_balance_18 (fun H locs hH hS => ?_)
  obtain ⟨w4, e5, hf⟩ := x_b hf
  have hH := x_nw e5 hH
  refine lv_aload_n hx hb d_Mod_balance_21 rfl (lv_at hl 0 rfl) ?_
  obtain ⟨_, e6, hf⟩ := x_b hf
  obtain ⟨n7, hT8⟩ := x_is_e e6
  refine x_get (C := "WallDampModel") (F := F_Mod) (N := 51) hx hb hts i_Mod hown hK hH hT8 (by decide) rfl 0 (by decide) (hts _ m_793) (fun _ h9 => h9) (kd := (0, 64)) rfl rfl d_Mod_balance_22 ?_
  refine lv_if_le (tgt := 30) hx hb d_Mod_balance_25 (by decide) (fun c9 => ?_) (fun c9 => ?_)
  · have hf := x_it hf c9
    refine lv_iload_n hx hb d_Mod_balance_30 rfl (lv_at hl 1 rfl) ?_
    by_cases c10 : l1 = 0
    · have hf := x_it hf c10
      refine x_tin (k := 0) (off := 33) (tgt := 64) c10 hx hb d_Mod_balance_31 (by decide) (by decide) rfl (by decide) ?_
      refine lv_aload_n hx hb d_Mod_balance_64 rfl (lv_at hl 0 rfl) ?_
      obtain ⟨q11, e12, hf⟩ := x_b hf
      refine x_callP (st1 := [.long q11]) (x_runV (As := []) (rest := []) ⟨hx, hb, hml, hown, hts⟩ (c_Mod_allWater l D aC ad T nx H.size w4 l0 q11 e12) (cwV 0 hts (x_gV m_1078 m_1080 ms_27 m_13 m_1081) rfl rfl rfl ⟨rfl, pd_Mod_allWater⟩ ⟨Nat.le_of_ble_eq_true rfl, Nat.le_of_ble_eq_true rfl⟩) hH hK hX hT8 (by decide) rfl rfl rfl hl.1 rfl (lv_room (Nat.le_of_ble_eq_true rfl)) d_Mod_balance_65 ⟨Nat.zero_le _, Nat.zero_le _⟩) rfl ?_
      cases hf
      refine x_sz0 hS (fun hz => ?_)
      exact W.lret hx hb hr (fun t ht hW => ⟨rfl, hS.F ht, by rw [ht]; exact hz, by rw [ht]; exact hH.weaken (fun _ _ _ => trivial)⟩) hS.2.2 d_Mod_balance_68
    · have hf := x_if hf c10
      by_cases c13 : l1 = 1
      · have hf := x_it hf c13
        refine x_tin (k := 1) (off := 38) (tgt := 69) c13 hx hb d_Mod_balance_31 (by decide) (by decide) rfl (by decide) ?_
        refine lv_aload_n hx hb d_Mod_balance_69 rfl (lv_at hl 0 rfl) ?_
        refine x_get (C := "WallDampModel") (F := F_Mod) (N := 51) hx hb hts i_Mod hown hK hH hT8 (by decide) rfl 34 (by decide) (hts _ m_827) (fun _ h9 => h9) (kd := (1, 98)) rfl rfl d_Mod_balance_70 ?_
        cases hf
        refine x_sz0 hS (fun hz => ?_)
        exact W.lret hx hb hr (fun t ht hW => ⟨rfl, hS.F ht, by rw [ht]; exact hz, by rw [ht]; exact hH.weaken (fun _ _ _ => trivial)⟩) hS.2.2 d_Mod_balance_73
      · have hf := x_if hf c13
        by_cases c14 : l1 = 2
        · have hf := x_it hf c14
          refine x_tin (k := 2) (off := 43) (tgt := 74) c14 hx hb d_Mod_balance_31 (by decide) (by decide) rfl (by decide) ?_
          refine lv_aload_n hx hb d_Mod_balance_74 rfl (lv_at hl 0 rfl) ?_
          refine x_get (C := "WallDampModel") (F := F_Mod) (N := 51) hx hb hts i_Mod hown hK hH hT8 (by decide) rfl 35 (by decide) (hts _ m_828) (fun _ h9 => h9) (kd := (1, 99)) rfl rfl d_Mod_balance_75 ?_
          cases hf
          refine x_sz0 hS (fun hz => ?_)
          exact W.lret hx hb hr (fun t ht hW => ⟨rfl, hS.F ht, by rw [ht]; exact hz, by rw [ht]; exact hH.weaken (fun _ _ _ => trivial)⟩) hS.2.2 d_Mod_balance_78
        · have hf := x_if hf c14
          by_cases c15 : l1 = 3
          · have hf := x_it hf c15
            refine x_tin (k := 3) (off := 48) (tgt := 79) c15 hx hb d_Mod_balance_31 (by decide) (by decide) rfl (by decide) ?_
            refine lv_aload_n hx hb d_Mod_balance_79 rfl (lv_at hl 0 rfl) ?_
            refine x_get (C := "WallDampModel") (F := F_Mod) (N := 51) hx hb hts i_Mod hown hK hH hT8 (by decide) rfl 36 (by decide) (hts _ m_829) (fun _ h9 => h9) (kd := (1, 100)) rfl rfl d_Mod_balance_80 ?_
            cases hf
            refine x_sz0 hS (fun hz => ?_)
            exact W.lret hx hb hr (fun t ht hW => ⟨rfl, hS.F ht, by rw [ht]; exact hz, by rw [ht]; exact hH.weaken (fun _ _ _ => trivial)⟩) hS.2.2 d_Mod_balance_83
          · have hf := x_if hf c15
            by_cases c16 : l1 = 4
            · have hf := x_it hf c16
              refine x_tin (k := 4) (off := 53) (tgt := 84) c16 hx hb d_Mod_balance_31 (by decide) (by decide) rfl (by decide) ?_
              refine lv_aload_n hx hb d_Mod_balance_84 rfl (lv_at hl 0 rfl) ?_
              refine x_get (C := "WallDampModel") (F := F_Mod) (N := 51) hx hb hts i_Mod hown hK hH hT8 (by decide) rfl 37 (by decide) (hts _ m_830) (fun _ h9 => h9) (kd := (1, 101)) rfl rfl d_Mod_balance_85 ?_
              cases hf
              refine x_sz0 hS (fun hz => ?_)
              exact W.lret hx hb hr (fun t ht hW => ⟨rfl, hS.F ht, by rw [ht]; exact hz, by rw [ht]; exact hH.weaken (fun _ _ _ => trivial)⟩) hS.2.2 d_Mod_balance_88
            · have hf := x_if hf c16
              refine lv_tableOut (tgt := 89) hx hb d_Mod_balance_31 (by have := lv_neT c10 (a := 0) rfl; have := lv_neT c13 (a := 1) rfl; have := lv_neT c14 (a := 2) rfl; have := lv_neT c15 (a := 3) rfl; have := lv_neT c16 (a := 4) rfl; omega) (by decide) ?_
              refine lv_aload_n hx hb d_Mod_balance_89 rfl (lv_at hl 0 rfl) ?_
              refine x_get (C := "WallDampModel") (F := F_Mod) (N := 51) hx hb hts i_Mod hown hK hH hT8 (by decide) rfl 38 (by decide) (hts _ m_831) (fun _ h9 => h9) (kd := (1, 102)) rfl rfl d_Mod_balance_90 ?_
              cases hf
              refine x_sz0 hS (fun hz => ?_)
              exact W.lret hx hb hr (fun t ht hW => ⟨rfl, hS.F ht, by rw [ht]; exact hz, by rw [ht]; exact hH.weaken (fun _ _ _ => trivial)⟩) hS.2.2 d_Mod_balance_93
  · have hf := x_if hf c9
    refine lv_lconst (v := 0) hx hb d_Mod_balance_28 (by decide) ?_
    cases hf
    refine x_sz0 hS (fun hz => ?_)
    exact W.lret hx hb hr (fun t ht hW => ⟨rfl, hS.F ht, by rw [ht]; exact hz, by rw [ht]; exact hH.weaken (fun _ _ _ => trivial)⟩) hS.2.2 d_Mod_balance_29
set_option maxHeartbeats 4000000 in
set_option maxRecDepth 100000 in
theorem k_Mod_balance {p : Program} {l : Launch} {e : Env} {s : State} {m : MethodId} {args : Array Value} {below : List Frame} {meth : Method} {c : Code} {D : va_G} {aC : Nat → ClassId} {ad : Nat → Nat} {T : x_T} {nx : Nat} {A : Nat → Prop} {q : Int64 × x_W} (C0 : x_At p s m meth c args "WallDampModel" b_Mod_balance (some (.long)) 2 D aC A) : ∀ (w : x_W) (H : Heap) (locs : List Loc) (ls : Array Slot) (l0 : Nat) (l1 : Int32), f_Mod_balance T w l0 l1 = some q → x_H D x_cl x_FT aC ad T nx A w H → va_S A s.heap H locs → lv_has ls 2 [(0, .ref (ad l0)), (1, .int l1)] → W p l e { frames := 1, cells := 0, slots := 0, locals := 25 } s m args below meth c H locs 0 0 (MQ below (x_Qc D aC ad T nx (some (.long q.1)) q.2 A) args s 0 0 A) (F0 m 0 ls []) := by
  obtain ⟨hx, hb, hr, hml, hown, hts, hlocks, hK, hA, hX⟩ := id C0
  intro w H locs ls l0 l1 hf hH hS hl
  unfold f_Mod_balance at hf
  refine lv_aload_n hx hb d_Mod_balance_0 rfl (lv_at hl 0 rfl) ?_
  refine lv_iload_n hx hb d_Mod_balance_1 rfl (lv_at hl 1 rfl) ?_
  refine lv_i2l (v := l1.toInt64) hx hb d_Mod_balance_2 rfl ?_
  refine lv_lconst (v := 0) hx hb d_Mod_balance_3 (by decide) ?_
  refine lv_ldc2 (v := (5 : Int64)) hx hb hown (hts _ m_957) d_Mod_balance_4 ?_
  obtain ⟨q1, e2, hf⟩ := x_b hf
  refine x_callP (st1 := [.int q1, .ref (ad l0)]) (x_runS (As := [.long (l1.toInt64), .long (0 : Int64), .long (5 : Int64)]) (rest := [.ref (ad l0)]) ⟨hx, hb, hml, hown, hts⟩ (c_Mod_in l D aC ad T nx H.size w (l1.toInt64) (0 : Int64) (5 : Int64) q1 e2) (va_cwS 3 hts (x_gS m_958 m_959 m_13 m_960) rfl rfl rfl pd_Mod_in ⟨Nat.le_of_ble_eq_true rfl, Nat.le_of_ble_eq_true rfl⟩) hH hK hX rfl hl.1 rfl (lv_room (Nat.le_of_ble_eq_true rfl)) d_Mod_balance_7 ⟨Nat.zero_le _, Nat.zero_le _⟩) rfl ?_
  refine lv_if_eq (tgt := 17) hx hb d_Mod_balance_10 (by decide) (fun c3 => ?_) (fun c3 => ?_)
  · have hf := x_it hf c3
    refine lv_iconst (v := 1) hx hb d_Mod_balance_17 (by decide) ?_
    exact k_Mod_balance_18 C0 w _ _ _ l0 l1 l0 (1 : Int32) hf hH hS (lv_sub hl [0, 1] rfl)
  · have hf := x_if hf c3
    refine lv_iconst (v := 0) hx hb d_Mod_balance_13 (by decide) ?_
    refine lv_goto (tgt := 18) hx hb d_Mod_balance_14 (by decide) ?_
    exact k_Mod_balance_18 C0 w _ _ _ l0 l1 l0 (0 : Int32) hf hH hS (lv_sub hl [0, 1] rfl)
theorem c_Mod_balance (l : Launch) (D : va_G) (aC : Nat → ClassId) (ad : Nat → Nat) (T : x_T) (nx sz : Nat) (w : x_W) (a0 : Nat) (a1 : Int32) (q : Int64 × x_W) (hf : f_Mod_balance T w a0 a1 = some q) : Met l y_Mod_balance ws_Mod_balance { frames := 1, cells := 0, slots := 0, locals := 25 } (x_Pc D aC ad T nx sz w [.ref (ad a0), .int a1]) (x_Qc D aC ad T nx (some (.long q.1)) q.2 (x_dom ad nx sz)) 0 0 (x_dom ad nx sz) :=
  x_met [(0, .ref (ad a0)), (1, .int a1)] (plainFor_of_name (by decide)) rfl rfl (Nat.le_of_ble_eq_true rfl) (fun p e s m args below meth c ls C0 hH hS hl => k_Mod_balance C0 w _ _ _ a0 a1 hf hH hS (lv_sub hl [0, 1] rfl))
/-! WallDampModel.mould()I -/
def f_Mod_mould (T : x_T) (w : x_W) (l0 : Nat) : Option (Int32 × x_W) :=
  (x_is T l0 10).bind fun _ =>
  (some (x_sI w 64 l0 (0 : Int32))).bind fun w4 =>
  some ((x_I w4 97 l0), w4)
set_option maxHeartbeats 4000000 in
set_option maxRecDepth 100000 in
theorem k_Mod_mould {p : Program} {l : Launch} {e : Env} {s : State} {m : MethodId} {args : Array Value} {below : List Frame} {meth : Method} {c : Code} {D : va_G} {aC : Nat → ClassId} {ad : Nat → Nat} {T : x_T} {nx : Nat} {A : Nat → Prop} {q : Int32 × x_W} (C0 : x_At p s m meth c args "WallDampModel" b_Mod_mould (some (.int)) 1 D aC A) : ∀ (w : x_W) (H : Heap) (locs : List Loc) (ls : Array Slot) (l0 : Nat), f_Mod_mould T w l0 = some q → x_H D x_cl x_FT aC ad T nx A w H → va_S A s.heap H locs → lv_has ls 1 [(0, .ref (ad l0))] → W p l e { frames := 0, cells := 0, slots := 0, locals := 0 } s m args below meth c H locs 0 0 (MQ below (x_Qc D aC ad T nx (some (.int q.1)) q.2 A) args s 0 0 A) (F0 m 0 ls []) := by
  obtain ⟨hx, hb, hr, hml, hown, hts, hlocks, hK, hA, hX⟩ := id C0
  intro w H locs ls l0 hf hH hS hl
  unfold f_Mod_mould at hf
  refine lv_aload_n hx hb d_Mod_mould_0 rfl (lv_at hl 0 rfl) ?_
  refine lv_iconst (v := 0) hx hb d_Mod_mould_1 (by decide) ?_
  obtain ⟨_, e1, hf⟩ := x_b hf
  obtain ⟨n2, hT3⟩ := x_is_e e1
  refine x_put (C := "WallDampModel") (F := F_Mod) (N := 51) (ty := t_Mod 0) (v := .int (0 : Int32)) (w' := x_sI w 64 l0 (0 : Int32)) hx hb hts i_Mod t_Mod ty_Mod n_Mod hown hK hH hS hT3 (by decide) rfl rfl 0 (by decide) (hts _ m_793) (fun _ h9 => h9) rfl (ty_Mod 0 (by decide)) rfl rfl (x_on_I hT3 (by decide) rfl nd_Mod) (fun j hj => x_off_I hj) (fun hh ok => x_ok_I hh ok) d_Mod_mould_2 (fun H locs hH hS => ?_)
  obtain ⟨w4, e5, hf⟩ := x_b hf
  have hH := x_nw e5 hH
  refine lv_aload_n hx hb d_Mod_mould_5 rfl (lv_at hl 0 rfl) ?_
  refine x_get (C := "WallDampModel") (F := F_Mod) (N := 51) hx hb hts i_Mod hown hK hH hT3 (by decide) rfl 33 (by decide) (hts _ m_826) (fun _ h9 => h9) (kd := (0, 97)) rfl rfl d_Mod_mould_6 ?_
  cases hf
  refine x_sz0 hS (fun hz => ?_)
  exact W.iret hx hb hr (fun t ht hW => ⟨rfl, hS.F ht, by rw [ht]; exact hz, by rw [ht]; exact hH.weaken (fun _ _ _ => trivial)⟩) hS.2.2 d_Mod_mould_9
theorem c_Mod_mould (l : Launch) (D : va_G) (aC : Nat → ClassId) (ad : Nat → Nat) (T : x_T) (nx sz : Nat) (w : x_W) (a0 : Nat) (q : Int32 × x_W) (hf : f_Mod_mould T w a0 = some q) : Met l y_Mod_mould ws_Mod_mould { frames := 0, cells := 0, slots := 0, locals := 0 } (x_Pc D aC ad T nx sz w [.ref (ad a0)]) (x_Qc D aC ad T nx (some (.int q.1)) q.2 (x_dom ad nx sz)) 0 0 (x_dom ad nx sz) :=
  x_met [(0, .ref (ad a0))] (plainFor_of_name (by decide)) rfl rfl (Nat.le_of_ble_eq_true rfl) (fun p e s m args below meth c ls C0 hH hS hl => k_Mod_mould C0 w _ _ _ a0 hf hH hS (lv_sub hl [0] rfl))
/-! WallDampModel.next()Z -/
def f_Mod_next_128 (T : x_T) (K117 : x_W → Nat → Int32 → Option (Int32 × x_W)) : Nat → x_W → Nat → Int32 → Int32 → Option (Int32 × x_W)
  | 0, _, _, _, _ => none
  | n + 1, w, l0, l3, l4 =>
    (x_is T l0 10).bind fun _ =>
    (x_R w 113 l0).bind fun a4 =>
    (x_ix T a4 102 l4).bind fun _ =>
    if (x_A w a4 l4.toNatClampNeg) = 0 then
      ((x_R w 111 l0).bind fun a11 =>
      (x_ix T a11 100 l3).bind fun _ =>
      (some (x_sA w a11 l3.toNatClampNeg l4)).bind fun w17 =>
      (x_R w17 113 l0).bind fun a19 =>
      (x_ix T a19 102 l4).bind fun _ =>
      (some (x_sA w17 a19 l4.toNatClampNeg (vp_nar .boolean (1 : Int32)))).bind fun w25 =>
      K117 w25 l0 (l3 + 1))
    else
      (f_Mod_next_128 T K117 n w l0 l3 (l4 + 1))
def f_Mod_next_117 (T : x_T) : Nat → x_W → Nat → Int32 → Option (Int32 × x_W)
  | 0, _, _, _ => none
  | n + 1, w, l0, l3 =>
    (x_is T l0 10).bind fun _ =>
    if (x_I w 65 l0) ≤ l3 then
      (some ((1 : Int32), w))
    else
      (f_Mod_next_128 T (f_Mod_next_117 T n) 1000 w l0 l3 (0 : Int32))
def f_Mod_next_91 (T : x_T) (K7 : x_W → Nat → Int32 → Option (Int32 × x_W)) (w : x_W) (l0 : Nat) (l1 : Int32) (l2 : Int32) : Option (Int32 × x_W) :=
  (x_is T l0 10).bind fun _ =>
  if (x_I w 65 l0) ≤ l2 then
    (K7 w l0 (l1 + (-1)))
  else
    ((x_R w 111 l0).bind fun a5 =>
    (x_ix T a5 100 l1).bind fun _ =>
    (some (x_sA w a5 l1.toNatClampNeg l2)).bind fun w11 =>
    (x_R w11 113 l0).bind fun a13 =>
    (x_ix T a13 102 l2).bind fun _ =>
    (some (x_sA w11 a13 l2.toNatClampNeg (vp_nar .boolean (1 : Int32)))).bind fun w19 =>
    (some ((l1 + (1 : Int32)))).bind fun v21 =>
    f_Mod_next_117 T 1000 w19 l0 v21)
def f_Mod_next_68 (T : x_T) (K7 : x_W → Nat → Int32 → Option (Int32 × x_W)) : Nat → x_W → Nat → Int32 → Int32 → Option (Int32 × x_W)
  | 0, _, _, _, _ => none
  | n + 1, w, l0, l1, l2 =>
    (x_is T l0 10).bind fun _ =>
    if (x_I w 65 l0) ≤ l2 then
      (f_Mod_next_91 T K7 w l0 l1 l2)
    else
      ((x_R w 113 l0).bind fun a5 =>
      (x_ix T a5 102 l2).bind fun _ =>
      if (x_A w a5 l2.toNatClampNeg) = 0 then
        (f_Mod_next_91 T K7 w l0 l1 l2)
      else
        (f_Mod_next_68 T K7 n w l0 l1 (l2 + 1)))
def f_Mod_next_45 (T : x_T) (K7 : x_W → Nat → Int32 → Option (Int32 × x_W)) : Nat → x_W → Nat → Int32 → Int32 → Int32 → Option (Int32 × x_W)
  | 0, _, _, _, _, _ => none
  | n + 1, w, l0, l1, l2, l3 =>
    if l1 ≤ l3 then
      (f_Mod_next_68 T K7 1000 w l0 l1 l2)
    else
      ((x_is T l0 10).bind fun _ =>
      (x_R w 113 l0).bind fun a5 =>
      (x_R w 111 l0).bind fun a7 =>
      (x_ix T a7 100 l3).bind fun _ =>
      (x_ix T a5 102 (x_A w a7 l3.toNatClampNeg)).bind fun _ =>
      (some (x_sA w a5 (x_A w a7 l3.toNatClampNeg).toNatClampNeg (vp_nar .boolean (1 : Int32)))).bind fun w17 =>
      f_Mod_next_45 T K7 n w17 l0 l1 l2 (l3 + 1))
def f_Mod_next_22 (T : x_T) (K7 : x_W → Nat → Int32 → Option (Int32 × x_W)) : Nat → x_W → Nat → Int32 → Int32 → Int32 → Option (Int32 × x_W)
  | 0, _, _, _, _, _ => none
  | n + 1, w, l0, l1, l2, l3 =>
    (x_is T l0 10).bind fun _ =>
    if (x_I w 65 l0) ≤ l3 then
      (f_Mod_next_45 T K7 1000 w l0 l1 l2 (0 : Int32))
    else
      ((x_R w 113 l0).bind fun a5 =>
      (x_ix T a5 102 l3).bind fun _ =>
      (some (x_sA w a5 l3.toNatClampNeg (vp_nar .boolean (0 : Int32)))).bind fun w11 =>
      f_Mod_next_22 T K7 n w11 l0 l1 l2 (l3 + 1))
def f_Mod_next_7 (T : x_T) : Nat → x_W → Nat → Int32 → Option (Int32 × x_W)
  | 0, _, _, _ => none
  | n + 1, w, l0, l1 =>
    if l1 < 0 then
      (some ((0 : Int32), w))
    else
      ((x_is T l0 10).bind fun _ =>
      (x_R w 111 l0).bind fun a5 =>
      (x_ix T a5 100 l1).bind fun _ =>
      (some (((x_A w a5 l1.toNatClampNeg) + (1 : Int32)))).bind fun v11 =>
      f_Mod_next_22 T (f_Mod_next_7 T n) 1000 w l0 l1 v11 (0 : Int32))
def f_Mod_next (T : x_T) (w : x_W) (l0 : Nat) : Option (Int32 × x_W) :=
  (x_is T l0 10).bind fun _ =>
  (some (((x_I w 65 l0) - (1 : Int32)))).bind fun v4 =>
  f_Mod_next_7 T 1000 w l0 v4
set_option maxHeartbeats 4000000 in
set_option maxRecDepth 100000 in
theorem k_Mod_next_128 {p : Program} {l : Launch} {e : Env} {s : State} {m : MethodId} {args : Array Value} {below : List Frame} {meth : Method} {c : Code} {D : va_G} {aC : Nat → ClassId} {ad : Nat → Nat} {T : x_T} {nx : Nat} {A : Nat → Prop} {q : Int32 × x_W} (C0 : x_At p s m meth c args "WallDampModel" b_Mod_next (some (.boolean)) 5 D aC A) {K117 : x_W → Nat → Int32 → Option (Int32 × x_W)} (hK117 : ∀ (w : x_W) (H : Heap) (locs : List Loc) (ls : Array Slot) (l0 : Nat) (l3 : Int32), K117 w l0 l3 = some q → x_H D x_cl x_FT aC ad T nx A w H → va_S A s.heap H locs → lv_has ls 5 [(0, .ref (ad l0)), (3, .int l3)] → W p l e { frames := 0, cells := 0, slots := 0, locals := 0 } s m args below meth c H locs 0 0 (MQ below (x_Qc D aC ad T nx (some (.int q.1)) q.2 A) args s 0 0 A) (F0 m 117 ls [])) : ∀ (n : Nat), ∀ (w : x_W) (H : Heap) (locs : List Loc) (ls : Array Slot) (l0 : Nat) (l3 : Int32) (l4 : Int32), f_Mod_next_128 T K117 n w l0 l3 l4 = some q → x_H D x_cl x_FT aC ad T nx A w H → va_S A s.heap H locs → lv_has ls 5 [(0, .ref (ad l0)), (3, .int l3), (4, .int l4)] → W p l e { frames := 0, cells := 0, slots := 0, locals := 0 } s m args below meth c H locs 0 0 (MQ below (x_Qc D aC ad T nx (some (.int q.1)) q.2 A) args s 0 0 A) (F0 m 128 ls []) := by
  obtain ⟨hx, hb, hr, hml, hown, hts, hlocks, hK, hA, hX⟩ := id C0
  intro n
  induction n with
  | zero => intro w H locs ls l0 l3 l4 hf; cases (show none = some q from hf)
  | succ n ih =>
    intro w H locs ls l0 l3 l4 hf hH hS hl
    unfold f_Mod_next_128 at hf
    refine lv_aload_n hx hb d_Mod_next_128 rfl (lv_at hl 0 rfl) ?_
    obtain ⟨_, e1, hf⟩ := x_b hf
    obtain ⟨n2, hT3⟩ := x_is_e e1
    obtain ⟨a4, e5, hf⟩ := x_b hf
    refine x_get (C := "WallDampModel") (F := F_Mod) (N := 51) hx hb hts i_Mod hown hK hH hT3 (by decide) rfl 49 (by decide) (hts _ m_842) (fun _ h9 => h9) (kd := (2, 113)) rfl (x_fr e5) d_Mod_next_129 ?_
    refine lv_iload hx hb d_Mod_next_132 (lv_at hl 2 rfl) ?_
    obtain ⟨_, e6, hf⟩ := x_b hf
    obtain ⟨n7, hT8, hi9⟩ := x_ix_e e6
    refine x_zald hx hb hK hH hT8 2 rfl hi9 d_Mod_next_134 ?_
    refine lv_if_eq (tgt := 144) hx hb d_Mod_next_135 (by decide) (fun c10 => ?_) (fun c10 => ?_)
    · have hf := x_it hf c10
      refine lv_aload_n hx hb d_Mod_next_144 rfl (lv_at hl 0 rfl) ?_
      obtain ⟨a11, e12, hf⟩ := x_b hf
      refine x_get (C := "WallDampModel") (F := F_Mod) (N := 51) hx hb hts i_Mod hown hK hH hT3 (by decide) rfl 47 (by decide) (hts _ m_840) (fun _ h9 => h9) (kd := (2, 111)) rfl (x_fr e12) d_Mod_next_145 ?_
      refine lv_iload_n hx hb d_Mod_next_148 rfl (lv_at hl 1 rfl) ?_
      refine lv_iload hx hb d_Mod_next_149 (lv_at hl 2 rfl) ?_
      obtain ⟨_, e13, hf⟩ := x_b hf
      obtain ⟨n14, hT15, hi16⟩ := x_ix_e e13
      refine x_iast hx hb hK hH hS hT15 0 rfl hi16 d_Mod_next_151 (fun H locs hH hS => ?_)
      obtain ⟨w17, e18, hf⟩ := x_b hf
      have hH := x_nw e18 hH
      refine lv_aload_n hx hb d_Mod_next_152 rfl (lv_at hl 0 rfl) ?_
      obtain ⟨a19, e20, hf⟩ := x_b hf
      refine x_get (C := "WallDampModel") (F := F_Mod) (N := 51) hx hb hts i_Mod hown hK hH hT3 (by decide) rfl 49 (by decide) (hts _ m_842) (fun _ h9 => h9) (kd := (2, 113)) rfl (x_fr e20) d_Mod_next_153 ?_
      refine lv_iload hx hb d_Mod_next_156 (lv_at hl 2 rfl) ?_
      refine lv_iconst (v := 1) hx hb d_Mod_next_158 (by decide) ?_
      obtain ⟨_, e21, hf⟩ := x_b hf
      obtain ⟨n22, hT23, hi24⟩ := x_ix_e e21
      refine x_zast hx hb hK hH hS hT23 2 rfl hi24 d_Mod_next_159 (fun H locs hH hS => ?_)
      obtain ⟨w25, e26, hf⟩ := x_b hf
      have hH := x_nw e26 hH
      refine lv_iinc (v := (l3 + 1)) (lv' := [(3, .int (l3 + 1)), (0, .ref (ad l0)), (4, .int l4)]) hx hb d_Mod_next_160 hl (k := 1) rfl rfl (by decide) rfl (fun ls hl => ?_)
      refine lv_goto (tgt := 117) hx hb d_Mod_next_163 (by decide) ?_
      exact hK117 w25 _ _ _ l0 (l3 + 1) hf hH hS (lv_sub hl [1, 0] rfl)
    · have hf := x_if hf c10
      refine lv_iinc (v := (l4 + 1)) (lv' := [(4, .int (l4 + 1)), (0, .ref (ad l0)), (3, .int l3)]) hx hb d_Mod_next_138 hl (k := 2) rfl rfl (by decide) rfl (fun ls hl => ?_)
      refine lv_goto (tgt := 128) hx hb d_Mod_next_141 (by decide) ?_
      exact ih w _ _ _ l0 l3 (l4 + 1) hf hH hS (lv_sub hl [1, 2, 0] rfl)
set_option maxHeartbeats 4000000 in
set_option maxRecDepth 100000 in
theorem k_Mod_next_117 {p : Program} {l : Launch} {e : Env} {s : State} {m : MethodId} {args : Array Value} {below : List Frame} {meth : Method} {c : Code} {D : va_G} {aC : Nat → ClassId} {ad : Nat → Nat} {T : x_T} {nx : Nat} {A : Nat → Prop} {q : Int32 × x_W} (C0 : x_At p s m meth c args "WallDampModel" b_Mod_next (some (.boolean)) 5 D aC A) : ∀ (n : Nat), ∀ (w : x_W) (H : Heap) (locs : List Loc) (ls : Array Slot) (l0 : Nat) (l3 : Int32), f_Mod_next_117 T n w l0 l3 = some q → x_H D x_cl x_FT aC ad T nx A w H → va_S A s.heap H locs → lv_has ls 5 [(0, .ref (ad l0)), (3, .int l3)] → W p l e { frames := 0, cells := 0, slots := 0, locals := 0 } s m args below meth c H locs 0 0 (MQ below (x_Qc D aC ad T nx (some (.int q.1)) q.2 A) args s 0 0 A) (F0 m 117 ls []) := by
  obtain ⟨hx, hb, hr, hml, hown, hts, hlocks, hK, hA, hX⟩ := id C0
  intro n
  induction n with
  | zero => intro w H locs ls l0 l3 hf; cases (show none = some q from hf)
  | succ n ih =>
    intro w H locs ls l0 l3 hf hH hS hl
    unfold f_Mod_next_117 at hf
    refine lv_iload_n hx hb d_Mod_next_117 rfl (lv_at hl 1 rfl) ?_
    refine lv_aload_n hx hb d_Mod_next_118 rfl (lv_at hl 0 rfl) ?_
    obtain ⟨_, e1, hf⟩ := x_b hf
    obtain ⟨n2, hT3⟩ := x_is_e e1
    refine x_get (C := "WallDampModel") (F := F_Mod) (N := 51) hx hb hts i_Mod hown hK hH hT3 (by decide) rfl 1 (by decide) (hts _ m_794) (fun _ h9 => h9) (kd := (0, 65)) rfl rfl d_Mod_next_119 ?_
    refine lv_icmp_ge (tgt := 166) hx hb d_Mod_next_122 (by decide) (fun c4 => ?_) (fun c4 => ?_)
    · have hf := x_it hf c4
      refine lv_iconst (v := 1) hx hb d_Mod_next_166 (by decide) ?_
      cases hf
      refine x_sz0 hS (fun hz => ?_)
      exact W.zret hx hb hr rfl (fun t ht hW => ⟨rfl, hS.F ht, by rw [ht]; exact hz, by rw [ht]; exact hH.weaken (fun _ _ _ => trivial)⟩) hS.2.2 d_Mod_next_167
    · have hf := x_if hf c4
      refine lv_iconst (v := 0) hx hb d_Mod_next_125 (by decide) ?_
      refine lv_istore (lv' := [(4, .int (0 : Int32)), (0, .ref (ad l0)), (3, .int l3)]) hx hb d_Mod_next_126 hl (by decide) rfl (fun ls hl => ?_)
      exact k_Mod_next_128 C0 ih 1000 w _ _ _ l0 l3 (0 : Int32) hf hH hS (lv_sub hl [1, 2, 0] rfl)
set_option maxHeartbeats 4000000 in
set_option maxRecDepth 100000 in
theorem k_Mod_next_91 {p : Program} {l : Launch} {e : Env} {s : State} {m : MethodId} {args : Array Value} {below : List Frame} {meth : Method} {c : Code} {D : va_G} {aC : Nat → ClassId} {ad : Nat → Nat} {T : x_T} {nx : Nat} {A : Nat → Prop} {q : Int32 × x_W} (C0 : x_At p s m meth c args "WallDampModel" b_Mod_next (some (.boolean)) 5 D aC A) {K7 : x_W → Nat → Int32 → Option (Int32 × x_W)} (hK7 : ∀ (w : x_W) (H : Heap) (locs : List Loc) (ls : Array Slot) (l0 : Nat) (l1 : Int32), K7 w l0 l1 = some q → x_H D x_cl x_FT aC ad T nx A w H → va_S A s.heap H locs → lv_has ls 5 [(0, .ref (ad l0)), (1, .int l1)] → W p l e { frames := 0, cells := 0, slots := 0, locals := 0 } s m args below meth c H locs 0 0 (MQ below (x_Qc D aC ad T nx (some (.int q.1)) q.2 A) args s 0 0 A) (F0 m 7 ls [])) : ∀ (w : x_W) (H : Heap) (locs : List Loc) (ls : Array Slot) (l0 : Nat) (l1 : Int32) (l2 : Int32), f_Mod_next_91 T K7 w l0 l1 l2 = some q → x_H D x_cl x_FT aC ad T nx A w H → va_S A s.heap H locs → lv_has ls 5 [(0, .ref (ad l0)), (1, .int l1), (2, .int l2)] → W p l e { frames := 0, cells := 0, slots := 0, locals := 0 } s m args below meth c H locs 0 0 (MQ below (x_Qc D aC ad T nx (some (.int q.1)) q.2 A) args s 0 0 A) (F0 m 91 ls []) := by
  obtain ⟨hx, hb, hr, hml, hown, hts, hlocks, hK, hA, hX⟩ := id C0
  intro w H locs ls l0 l1 l2 hf hH hS hl
  unfold f_Mod_next_91 at hf
  refine lv_iload_n hx hb d_Mod_next_91 rfl (lv_at hl 2 rfl) ?_
  refine lv_aload_n hx hb d_Mod_next_92 rfl (lv_at hl 0 rfl) ?_
  obtain ⟨_, e1, hf⟩ := x_b hf
  obtain ⟨n2, hT3⟩ := x_is_e e1
  refine x_get (C := "WallDampModel") (F := F_Mod) (N := 51) hx hb hts i_Mod hown hK hH hT3 (by decide) rfl 1 (by decide) (hts _ m_794) (fun _ h9 => h9) (kd := (0, 65)) rfl rfl d_Mod_next_93 ?_
  refine lv_icmp_ge (tgt := 168) hx hb d_Mod_next_96 (by decide) (fun c4 => ?_) (fun c4 => ?_)
  · have hf := x_it hf c4
    refine lv_iinc (v := (l1 + (-1))) (lv' := [(1, .int (l1 + (-1))), (0, .ref (ad l0)), (2, .int l2)]) hx hb d_Mod_next_168 hl (k := 1) rfl rfl (by decide) rfl (fun ls hl => ?_)
    refine lv_goto (tgt := 7) hx hb d_Mod_next_171 (by decide) ?_
    exact hK7 w _ _ _ l0 (l1 + (-1)) hf hH hS (lv_sub hl [1, 0] rfl)
  · have hf := x_if hf c4
    refine lv_aload_n hx hb d_Mod_next_99 rfl (lv_at hl 0 rfl) ?_
    obtain ⟨a5, e6, hf⟩ := x_b hf
    refine x_get (C := "WallDampModel") (F := F_Mod) (N := 51) hx hb hts i_Mod hown hK hH hT3 (by decide) rfl 47 (by decide) (hts _ m_840) (fun _ h9 => h9) (kd := (2, 111)) rfl (x_fr e6) d_Mod_next_100 ?_
    refine lv_iload_n hx hb d_Mod_next_103 rfl (lv_at hl 1 rfl) ?_
    refine lv_iload_n hx hb d_Mod_next_104 rfl (lv_at hl 2 rfl) ?_
    obtain ⟨_, e7, hf⟩ := x_b hf
    obtain ⟨n8, hT9, hi10⟩ := x_ix_e e7
    refine x_iast hx hb hK hH hS hT9 0 rfl hi10 d_Mod_next_105 (fun H locs hH hS => ?_)
    obtain ⟨w11, e12, hf⟩ := x_b hf
    have hH := x_nw e12 hH
    refine lv_aload_n hx hb d_Mod_next_106 rfl (lv_at hl 0 rfl) ?_
    obtain ⟨a13, e14, hf⟩ := x_b hf
    refine x_get (C := "WallDampModel") (F := F_Mod) (N := 51) hx hb hts i_Mod hown hK hH hT3 (by decide) rfl 49 (by decide) (hts _ m_842) (fun _ h9 => h9) (kd := (2, 113)) rfl (x_fr e14) d_Mod_next_107 ?_
    refine lv_iload_n hx hb d_Mod_next_110 rfl (lv_at hl 2 rfl) ?_
    refine lv_iconst (v := 1) hx hb d_Mod_next_111 (by decide) ?_
    obtain ⟨_, e15, hf⟩ := x_b hf
    obtain ⟨n16, hT17, hi18⟩ := x_ix_e e15
    refine x_zast hx hb hK hH hS hT17 2 rfl hi18 d_Mod_next_112 (fun H locs hH hS => ?_)
    obtain ⟨w19, e20, hf⟩ := x_b hf
    have hH := x_nw e20 hH
    refine lv_iload_n hx hb d_Mod_next_113 rfl (lv_at hl 1 rfl) ?_
    refine lv_iconst (v := 1) hx hb d_Mod_next_114 (by decide) ?_
    refine lv_iadd hx hb d_Mod_next_115 ?_
    obtain ⟨v21, e22, hf⟩ := x_b hf
    refine x_nmi e22 ?_
    refine lv_istore_n (lv' := [(3, .int v21), (0, .ref (ad l0)), (1, .int l1), (2, .int l2)]) hx hb d_Mod_next_116 rfl hl (by decide) rfl (fun ls hl => ?_)
    exact k_Mod_next_117 C0 1000 w19 _ _ _ l0 v21 hf hH hS (lv_sub hl [1, 0] rfl)
set_option maxHeartbeats 4000000 in
set_option maxRecDepth 100000 in
theorem k_Mod_next_68 {p : Program} {l : Launch} {e : Env} {s : State} {m : MethodId} {args : Array Value} {below : List Frame} {meth : Method} {c : Code} {D : va_G} {aC : Nat → ClassId} {ad : Nat → Nat} {T : x_T} {nx : Nat} {A : Nat → Prop} {q : Int32 × x_W} (C0 : x_At p s m meth c args "WallDampModel" b_Mod_next (some (.boolean)) 5 D aC A) {K7 : x_W → Nat → Int32 → Option (Int32 × x_W)} (hK7 : ∀ (w : x_W) (H : Heap) (locs : List Loc) (ls : Array Slot) (l0 : Nat) (l1 : Int32), K7 w l0 l1 = some q → x_H D x_cl x_FT aC ad T nx A w H → va_S A s.heap H locs → lv_has ls 5 [(0, .ref (ad l0)), (1, .int l1)] → W p l e { frames := 0, cells := 0, slots := 0, locals := 0 } s m args below meth c H locs 0 0 (MQ below (x_Qc D aC ad T nx (some (.int q.1)) q.2 A) args s 0 0 A) (F0 m 7 ls [])) : ∀ (n : Nat), ∀ (w : x_W) (H : Heap) (locs : List Loc) (ls : Array Slot) (l0 : Nat) (l1 : Int32) (l2 : Int32), f_Mod_next_68 T K7 n w l0 l1 l2 = some q → x_H D x_cl x_FT aC ad T nx A w H → va_S A s.heap H locs → lv_has ls 5 [(0, .ref (ad l0)), (1, .int l1), (2, .int l2)] → W p l e { frames := 0, cells := 0, slots := 0, locals := 0 } s m args below meth c H locs 0 0 (MQ below (x_Qc D aC ad T nx (some (.int q.1)) q.2 A) args s 0 0 A) (F0 m 68 ls []) := by
  obtain ⟨hx, hb, hr, hml, hown, hts, hlocks, hK, hA, hX⟩ := id C0
  intro n
  induction n with
  | zero => intro w H locs ls l0 l1 l2 hf; cases (show none = some q from hf)
  | succ n ih =>
    intro w H locs ls l0 l1 l2 hf hH hS hl
    unfold f_Mod_next_68 at hf
    refine lv_iload_n hx hb d_Mod_next_68 rfl (lv_at hl 2 rfl) ?_
    refine lv_aload_n hx hb d_Mod_next_69 rfl (lv_at hl 0 rfl) ?_
    obtain ⟨_, e1, hf⟩ := x_b hf
    obtain ⟨n2, hT3⟩ := x_is_e e1
    refine x_get (C := "WallDampModel") (F := F_Mod) (N := 51) hx hb hts i_Mod hown hK hH hT3 (by decide) rfl 1 (by decide) (hts _ m_794) (fun _ h9 => h9) (kd := (0, 65)) rfl rfl d_Mod_next_70 ?_
    refine lv_icmp_ge (tgt := 91) hx hb d_Mod_next_73 (by decide) (fun c4 => ?_) (fun c4 => ?_)
    · have hf := x_it hf c4
      exact k_Mod_next_91 C0 hK7 w _ _ _ l0 l1 l2 hf hH hS (lv_sub hl [0, 1, 2] rfl)
    · have hf := x_if hf c4
      refine lv_aload_n hx hb d_Mod_next_76 rfl (lv_at hl 0 rfl) ?_
      obtain ⟨a5, e6, hf⟩ := x_b hf
      refine x_get (C := "WallDampModel") (F := F_Mod) (N := 51) hx hb hts i_Mod hown hK hH hT3 (by decide) rfl 49 (by decide) (hts _ m_842) (fun _ h9 => h9) (kd := (2, 113)) rfl (x_fr e6) d_Mod_next_77 ?_
      refine lv_iload_n hx hb d_Mod_next_80 rfl (lv_at hl 2 rfl) ?_
      obtain ⟨_, e7, hf⟩ := x_b hf
      obtain ⟨n8, hT9, hi10⟩ := x_ix_e e7
      refine x_zald hx hb hK hH hT9 2 rfl hi10 d_Mod_next_81 ?_
      refine lv_if_eq (tgt := 91) hx hb d_Mod_next_82 (by decide) (fun c11 => ?_) (fun c11 => ?_)
      · have hf := x_it hf c11
        exact k_Mod_next_91 C0 hK7 w _ _ _ l0 l1 l2 hf hH hS (lv_sub hl [0, 1, 2] rfl)
      · have hf := x_if hf c11
        refine lv_iinc (v := (l2 + 1)) (lv' := [(2, .int (l2 + 1)), (0, .ref (ad l0)), (1, .int l1)]) hx hb d_Mod_next_85 hl (k := 2) rfl rfl (by decide) rfl (fun ls hl => ?_)
        refine lv_goto (tgt := 68) hx hb d_Mod_next_88 (by decide) ?_
        exact ih w _ _ _ l0 l1 (l2 + 1) hf hH hS (lv_sub hl [1, 2, 0] rfl)
set_option maxHeartbeats 4000000 in
set_option maxRecDepth 100000 in
theorem k_Mod_next_45 {p : Program} {l : Launch} {e : Env} {s : State} {m : MethodId} {args : Array Value} {below : List Frame} {meth : Method} {c : Code} {D : va_G} {aC : Nat → ClassId} {ad : Nat → Nat} {T : x_T} {nx : Nat} {A : Nat → Prop} {q : Int32 × x_W} (C0 : x_At p s m meth c args "WallDampModel" b_Mod_next (some (.boolean)) 5 D aC A) {K7 : x_W → Nat → Int32 → Option (Int32 × x_W)} (hK7 : ∀ (w : x_W) (H : Heap) (locs : List Loc) (ls : Array Slot) (l0 : Nat) (l1 : Int32), K7 w l0 l1 = some q → x_H D x_cl x_FT aC ad T nx A w H → va_S A s.heap H locs → lv_has ls 5 [(0, .ref (ad l0)), (1, .int l1)] → W p l e { frames := 0, cells := 0, slots := 0, locals := 0 } s m args below meth c H locs 0 0 (MQ below (x_Qc D aC ad T nx (some (.int q.1)) q.2 A) args s 0 0 A) (F0 m 7 ls [])) : ∀ (n : Nat), ∀ (w : x_W) (H : Heap) (locs : List Loc) (ls : Array Slot) (l0 : Nat) (l1 : Int32) (l2 : Int32) (l3 : Int32), f_Mod_next_45 T K7 n w l0 l1 l2 l3 = some q → x_H D x_cl x_FT aC ad T nx A w H → va_S A s.heap H locs → lv_has ls 5 [(0, .ref (ad l0)), (1, .int l1), (2, .int l2), (3, .int l3)] → W p l e { frames := 0, cells := 0, slots := 0, locals := 0 } s m args below meth c H locs 0 0 (MQ below (x_Qc D aC ad T nx (some (.int q.1)) q.2 A) args s 0 0 A) (F0 m 45 ls []) := by
  obtain ⟨hx, hb, hr, hml, hown, hts, hlocks, hK, hA, hX⟩ := id C0
  intro n
  induction n with
  | zero => intro w H locs ls l0 l1 l2 l3 hf; cases (show none = some q from hf)
  | succ n ih =>
    intro w H locs ls l0 l1 l2 l3 hf hH hS hl
    unfold f_Mod_next_45 at hf
    refine lv_iload_n hx hb d_Mod_next_45 rfl (lv_at hl 3 rfl) ?_
    refine lv_iload_n hx hb d_Mod_next_46 rfl (lv_at hl 1 rfl) ?_
    refine lv_icmp_ge (tgt := 68) hx hb d_Mod_next_47 (by decide) (fun c1 => ?_) (fun c1 => ?_)
    · have hf := x_it hf c1
      exact k_Mod_next_68 C0 hK7 1000 w _ _ _ l0 l1 l2 hf hH hS (lv_sub hl [0, 1, 2] rfl)
    · have hf := x_if hf c1
      refine lv_aload_n hx hb d_Mod_next_50 rfl (lv_at hl 0 rfl) ?_
      obtain ⟨_, e2, hf⟩ := x_b hf
      obtain ⟨n3, hT4⟩ := x_is_e e2
      obtain ⟨a5, e6, hf⟩ := x_b hf
      refine x_get (C := "WallDampModel") (F := F_Mod) (N := 51) hx hb hts i_Mod hown hK hH hT4 (by decide) rfl 49 (by decide) (hts _ m_842) (fun _ h9 => h9) (kd := (2, 113)) rfl (x_fr e6) d_Mod_next_51 ?_
      refine lv_aload_n hx hb d_Mod_next_54 rfl (lv_at hl 0 rfl) ?_
      obtain ⟨a7, e8, hf⟩ := x_b hf
      refine x_get (C := "WallDampModel") (F := F_Mod) (N := 51) hx hb hts i_Mod hown hK hH hT4 (by decide) rfl 47 (by decide) (hts _ m_840) (fun _ h9 => h9) (kd := (2, 111)) rfl (x_fr e8) d_Mod_next_55 ?_
      refine lv_iload_n hx hb d_Mod_next_58 rfl (lv_at hl 3 rfl) ?_
      obtain ⟨_, e9, hf⟩ := x_b hf
      obtain ⟨n10, hT11, hi12⟩ := x_ix_e e9
      refine x_iald hx hb hK hH hT11 0 rfl hi12 d_Mod_next_59 ?_
      refine lv_iconst (v := 1) hx hb d_Mod_next_60 (by decide) ?_
      obtain ⟨_, e13, hf⟩ := x_b hf
      obtain ⟨n14, hT15, hi16⟩ := x_ix_e e13
      refine x_zast hx hb hK hH hS hT15 2 rfl hi16 d_Mod_next_61 (fun H locs hH hS => ?_)
      obtain ⟨w17, e18, hf⟩ := x_b hf
      have hH := x_nw e18 hH
      refine lv_iinc (v := (l3 + 1)) (lv' := [(3, .int (l3 + 1)), (0, .ref (ad l0)), (1, .int l1), (2, .int l2)]) hx hb d_Mod_next_62 hl (k := 3) rfl rfl (by decide) rfl (fun ls hl => ?_)
      refine lv_goto (tgt := 45) hx hb d_Mod_next_65 (by decide) ?_
      exact ih w17 _ _ _ l0 l1 l2 (l3 + 1) hf hH hS (lv_sub hl [1, 2, 3, 0] rfl)
set_option maxHeartbeats 4000000 in
set_option maxRecDepth 100000 in
theorem k_Mod_next_22 {p : Program} {l : Launch} {e : Env} {s : State} {m : MethodId} {args : Array Value} {below : List Frame} {meth : Method} {c : Code} {D : va_G} {aC : Nat → ClassId} {ad : Nat → Nat} {T : x_T} {nx : Nat} {A : Nat → Prop} {q : Int32 × x_W} (C0 : x_At p s m meth c args "WallDampModel" b_Mod_next (some (.boolean)) 5 D aC A) {K7 : x_W → Nat → Int32 → Option (Int32 × x_W)} (hK7 : ∀ (w : x_W) (H : Heap) (locs : List Loc) (ls : Array Slot) (l0 : Nat) (l1 : Int32), K7 w l0 l1 = some q → x_H D x_cl x_FT aC ad T nx A w H → va_S A s.heap H locs → lv_has ls 5 [(0, .ref (ad l0)), (1, .int l1)] → W p l e { frames := 0, cells := 0, slots := 0, locals := 0 } s m args below meth c H locs 0 0 (MQ below (x_Qc D aC ad T nx (some (.int q.1)) q.2 A) args s 0 0 A) (F0 m 7 ls [])) : ∀ (n : Nat), ∀ (w : x_W) (H : Heap) (locs : List Loc) (ls : Array Slot) (l0 : Nat) (l1 : Int32) (l2 : Int32) (l3 : Int32), f_Mod_next_22 T K7 n w l0 l1 l2 l3 = some q → x_H D x_cl x_FT aC ad T nx A w H → va_S A s.heap H locs → lv_has ls 5 [(0, .ref (ad l0)), (1, .int l1), (2, .int l2), (3, .int l3)] → W p l e { frames := 0, cells := 0, slots := 0, locals := 0 } s m args below meth c H locs 0 0 (MQ below (x_Qc D aC ad T nx (some (.int q.1)) q.2 A) args s 0 0 A) (F0 m 22 ls []) := by
  obtain ⟨hx, hb, hr, hml, hown, hts, hlocks, hK, hA, hX⟩ := id C0
  intro n
  induction n with
  | zero => intro w H locs ls l0 l1 l2 l3 hf; cases (show none = some q from hf)
  | succ n ih =>
    intro w H locs ls l0 l1 l2 l3 hf hH hS hl
    unfold f_Mod_next_22 at hf
    refine lv_iload_n hx hb d_Mod_next_22 rfl (lv_at hl 3 rfl) ?_
    refine lv_aload_n hx hb d_Mod_next_23 rfl (lv_at hl 0 rfl) ?_
    obtain ⟨_, e1, hf⟩ := x_b hf
    obtain ⟨n2, hT3⟩ := x_is_e e1
    refine x_get (C := "WallDampModel") (F := F_Mod) (N := 51) hx hb hts i_Mod hown hK hH hT3 (by decide) rfl 1 (by decide) (hts _ m_794) (fun _ h9 => h9) (kd := (0, 65)) rfl rfl d_Mod_next_24 ?_
    refine lv_icmp_ge (tgt := 43) hx hb d_Mod_next_27 (by decide) (fun c4 => ?_) (fun c4 => ?_)
    · have hf := x_it hf c4
      refine lv_iconst (v := 0) hx hb d_Mod_next_43 (by decide) ?_
      refine lv_istore_n (lv' := [(3, .int (0 : Int32)), (0, .ref (ad l0)), (1, .int l1), (2, .int l2)]) hx hb d_Mod_next_44 rfl hl (by decide) rfl (fun ls hl => ?_)
      exact k_Mod_next_45 C0 hK7 1000 w _ _ _ l0 l1 l2 (0 : Int32) hf hH hS (lv_sub hl [1, 2, 3, 0] rfl)
    · have hf := x_if hf c4
      refine lv_aload_n hx hb d_Mod_next_30 rfl (lv_at hl 0 rfl) ?_
      obtain ⟨a5, e6, hf⟩ := x_b hf
      refine x_get (C := "WallDampModel") (F := F_Mod) (N := 51) hx hb hts i_Mod hown hK hH hT3 (by decide) rfl 49 (by decide) (hts _ m_842) (fun _ h9 => h9) (kd := (2, 113)) rfl (x_fr e6) d_Mod_next_31 ?_
      refine lv_iload_n hx hb d_Mod_next_34 rfl (lv_at hl 3 rfl) ?_
      refine lv_iconst (v := 0) hx hb d_Mod_next_35 (by decide) ?_
      obtain ⟨_, e7, hf⟩ := x_b hf
      obtain ⟨n8, hT9, hi10⟩ := x_ix_e e7
      refine x_zast hx hb hK hH hS hT9 2 rfl hi10 d_Mod_next_36 (fun H locs hH hS => ?_)
      obtain ⟨w11, e12, hf⟩ := x_b hf
      have hH := x_nw e12 hH
      refine lv_iinc (v := (l3 + 1)) (lv' := [(3, .int (l3 + 1)), (0, .ref (ad l0)), (1, .int l1), (2, .int l2)]) hx hb d_Mod_next_37 hl (k := 3) rfl rfl (by decide) rfl (fun ls hl => ?_)
      refine lv_goto (tgt := 22) hx hb d_Mod_next_40 (by decide) ?_
      exact ih w11 _ _ _ l0 l1 l2 (l3 + 1) hf hH hS (lv_sub hl [1, 2, 3, 0] rfl)
set_option maxHeartbeats 4000000 in
set_option maxRecDepth 100000 in
theorem k_Mod_next_7 {p : Program} {l : Launch} {e : Env} {s : State} {m : MethodId} {args : Array Value} {below : List Frame} {meth : Method} {c : Code} {D : va_G} {aC : Nat → ClassId} {ad : Nat → Nat} {T : x_T} {nx : Nat} {A : Nat → Prop} {q : Int32 × x_W} (C0 : x_At p s m meth c args "WallDampModel" b_Mod_next (some (.boolean)) 5 D aC A) : ∀ (n : Nat), ∀ (w : x_W) (H : Heap) (locs : List Loc) (ls : Array Slot) (l0 : Nat) (l1 : Int32), f_Mod_next_7 T n w l0 l1 = some q → x_H D x_cl x_FT aC ad T nx A w H → va_S A s.heap H locs → lv_has ls 5 [(0, .ref (ad l0)), (1, .int l1)] → W p l e { frames := 0, cells := 0, slots := 0, locals := 0 } s m args below meth c H locs 0 0 (MQ below (x_Qc D aC ad T nx (some (.int q.1)) q.2 A) args s 0 0 A) (F0 m 7 ls []) := by
  obtain ⟨hx, hb, hr, hml, hown, hts, hlocks, hK, hA, hX⟩ := id C0
  intro n
  induction n with
  | zero => intro w H locs ls l0 l1 hf; cases (show none = some q from hf)
  | succ n ih =>
    intro w H locs ls l0 l1 hf hH hS hl
    unfold f_Mod_next_7 at hf
    refine lv_iload_n hx hb d_Mod_next_7 rfl (lv_at hl 1 rfl) ?_
    refine lv_if_lt (tgt := 174) hx hb d_Mod_next_8 (by decide) (fun c1 => ?_) (fun c1 => ?_)
    · have hf := x_it hf c1
      refine lv_iconst (v := 0) hx hb d_Mod_next_174 (by decide) ?_
      cases hf
      refine x_sz0 hS (fun hz => ?_)
      exact W.zret hx hb hr rfl (fun t ht hW => ⟨rfl, hS.F ht, by rw [ht]; exact hz, by rw [ht]; exact hH.weaken (fun _ _ _ => trivial)⟩) hS.2.2 d_Mod_next_175
    · have hf := x_if hf c1
      refine lv_aload_n hx hb d_Mod_next_11 rfl (lv_at hl 0 rfl) ?_
      obtain ⟨_, e2, hf⟩ := x_b hf
      obtain ⟨n3, hT4⟩ := x_is_e e2
      obtain ⟨a5, e6, hf⟩ := x_b hf
      refine x_get (C := "WallDampModel") (F := F_Mod) (N := 51) hx hb hts i_Mod hown hK hH hT4 (by decide) rfl 47 (by decide) (hts _ m_840) (fun _ h9 => h9) (kd := (2, 111)) rfl (x_fr e6) d_Mod_next_12 ?_
      refine lv_iload_n hx hb d_Mod_next_15 rfl (lv_at hl 1 rfl) ?_
      obtain ⟨_, e7, hf⟩ := x_b hf
      obtain ⟨n8, hT9, hi10⟩ := x_ix_e e7
      refine x_iald hx hb hK hH hT9 0 rfl hi10 d_Mod_next_16 ?_
      refine lv_iconst (v := 1) hx hb d_Mod_next_17 (by decide) ?_
      refine lv_iadd hx hb d_Mod_next_18 ?_
      obtain ⟨v11, e12, hf⟩ := x_b hf
      refine x_nmi e12 ?_
      refine lv_istore_n (lv' := [(2, .int v11), (0, .ref (ad l0)), (1, .int l1)]) hx hb d_Mod_next_19 rfl hl (by decide) rfl (fun ls hl => ?_)
      refine lv_iconst (v := 0) hx hb d_Mod_next_20 (by decide) ?_
      refine lv_istore_n (lv' := [(3, .int (0 : Int32)), (2, .int v11), (0, .ref (ad l0)), (1, .int l1)]) hx hb d_Mod_next_21 rfl hl (by decide) rfl (fun ls hl => ?_)
      exact k_Mod_next_22 C0 ih 1000 w _ _ _ l0 l1 v11 (0 : Int32) hf hH hS (lv_sub hl [2, 3, 1, 0] rfl)
set_option maxHeartbeats 4000000 in
set_option maxRecDepth 100000 in
theorem k_Mod_next {p : Program} {l : Launch} {e : Env} {s : State} {m : MethodId} {args : Array Value} {below : List Frame} {meth : Method} {c : Code} {D : va_G} {aC : Nat → ClassId} {ad : Nat → Nat} {T : x_T} {nx : Nat} {A : Nat → Prop} {q : Int32 × x_W} (C0 : x_At p s m meth c args "WallDampModel" b_Mod_next (some (.boolean)) 5 D aC A) : ∀ (w : x_W) (H : Heap) (locs : List Loc) (ls : Array Slot) (l0 : Nat), f_Mod_next T w l0 = some q → x_H D x_cl x_FT aC ad T nx A w H → va_S A s.heap H locs → lv_has ls 5 [(0, .ref (ad l0))] → W p l e { frames := 0, cells := 0, slots := 0, locals := 0 } s m args below meth c H locs 0 0 (MQ below (x_Qc D aC ad T nx (some (.int q.1)) q.2 A) args s 0 0 A) (F0 m 0 ls []) := by
  obtain ⟨hx, hb, hr, hml, hown, hts, hlocks, hK, hA, hX⟩ := id C0
  intro w H locs ls l0 hf hH hS hl
  unfold f_Mod_next at hf
  refine lv_aload_n hx hb d_Mod_next_0 rfl (lv_at hl 0 rfl) ?_
  obtain ⟨_, e1, hf⟩ := x_b hf
  obtain ⟨n2, hT3⟩ := x_is_e e1
  refine x_get (C := "WallDampModel") (F := F_Mod) (N := 51) hx hb hts i_Mod hown hK hH hT3 (by decide) rfl 1 (by decide) (hts _ m_794) (fun _ h9 => h9) (kd := (0, 65)) rfl rfl d_Mod_next_1 ?_
  refine lv_iconst (v := 1) hx hb d_Mod_next_4 (by decide) ?_
  refine lv_isub hx hb d_Mod_next_5 ?_
  obtain ⟨v4, e5, hf⟩ := x_b hf
  refine x_nmi e5 ?_
  refine lv_istore_n (lv' := [(1, .int v4), (0, .ref (ad l0))]) hx hb d_Mod_next_6 rfl hl (by decide) rfl (fun ls hl => ?_)
  exact k_Mod_next_7 C0 1000 w _ _ _ l0 v4 hf hH hS (lv_sub hl [1, 0] rfl)
theorem c_Mod_next (l : Launch) (D : va_G) (aC : Nat → ClassId) (ad : Nat → Nat) (T : x_T) (nx sz : Nat) (w : x_W) (a0 : Nat) (q : Int32 × x_W) (hf : f_Mod_next T w a0 = some q) : Met l y_Mod_next ws_Mod_next { frames := 0, cells := 0, slots := 0, locals := 0 } (x_Pc D aC ad T nx sz w [.ref (ad a0)]) (x_Qc D aC ad T nx (some (.int q.1)) q.2 (x_dom ad nx sz)) 0 0 (x_dom ad nx sz) :=
  x_met [(0, .ref (ad a0))] (plainFor_of_name (by decide)) rfl rfl (Nat.le_of_ble_eq_true rfl) (fun p e s m args below meth c ls C0 hH hS hl => k_Mod_next C0 w _ _ _ a0 hf hH hS (lv_sub hl [0] rfl))
/-! WallDampModel.dry(I)J -/
def f_Mod_dry_76 (T : x_T) : Nat → x_W → Nat → Int32 → Int32 → Option (Int64 × x_W)
  | 0, _, _, _, _ => none
  | n + 1, w, l0, l1, l2 =>
    if l1 ≤ l2 then
      ((x_is T l0 10).bind fun _ =>
      (f_Mod_allWater T w l0).bind fun q2 =>
      some (q2, w))
    else
      ((x_is T l0 10).bind fun _ =>
      (f_Mod_hour T w l0 (l2 - l2 / (24 : Int32) * (24 : Int32))).bind fun q7 =>
      f_Mod_dry_76 T n q7 l0 l1 (l2 + 1))
def f_Mod_dry_2 (T : x_T) : Nat → x_W → Nat → Int32 → Int32 → Option (Int64 × x_W)
  | 0, _, _, _, _ => none
  | n + 1, w, l0, l1, l2 =>
    (x_is T l0 10).bind fun _ =>
    if (x_I w 65 l0) ≤ l2 then
      (f_Mod_dry_76 T 1000 w l0 l1 (0 : Int32))
    else
      ((x_R w 72 l0).bind fun a5 =>
      (x_R w 108 l0).bind fun a7 =>
      (x_R w 111 l0).bind fun a9 =>
      (x_ix T a9 100 l2).bind fun _ =>
      (x_ix T a7 100 (x_A w a9 l2.toNatClampNeg)).bind fun _ =>
      (x_ix T a5 100 l2).bind fun _ =>
      (some (x_sA w a5 l2.toNatClampNeg (x_A w a7 (x_A w a9 l2.toNatClampNeg).toNatClampNeg))).bind fun w23 =>
      (x_R w23 73 l0).bind fun a25 =>
      (x_R w23 109 l0).bind fun a27 =>
      (x_R w23 111 l0).bind fun a29 =>
      (x_ix T a29 100 l2).bind fun _ =>
      (x_ix T a27 100 (x_A w23 a29 l2.toNatClampNeg)).bind fun _ =>
      (x_ix T a25 100 l2).bind fun _ =>
      (some (x_sA w23 a25 l2.toNatClampNeg (x_A w23 a27 (x_A w23 a29 l2.toNatClampNeg).toNatClampNeg))).bind fun w43 =>
      (x_R w43 75 l0).bind fun a45 =>
      (x_R w43 110 l0).bind fun a47 =>
      (x_R w43 111 l0).bind fun a49 =>
      (x_ix T a49 100 l2).bind fun _ =>
      (x_ix T a47 100 (x_A w43 a49 l2.toNatClampNeg)).bind fun _ =>
      (x_ix T a45 100 l2).bind fun _ =>
      (some (x_sA w43 a45 l2.toNatClampNeg (x_A w43 a47 (x_A w43 a49 l2.toNatClampNeg).toNatClampNeg))).bind fun w63 =>
      (x_R w63 74 l0).bind fun a65 =>
      (x_ix T a65 101 l2).bind fun _ =>
      (some (x_sB w63 a65 l2.toNatClampNeg (0 : Int64))).bind fun w71 =>
      f_Mod_dry_2 T n w71 l0 l1 (l2 + 1))
def f_Mod_dry (T : x_T) (w : x_W) (l0 : Nat) (l1 : Int32) : Option (Int64 × x_W) :=
  f_Mod_dry_2 T 1000 w l0 l1 (0 : Int32)
set_option maxHeartbeats 4000000 in
set_option maxRecDepth 100000 in
theorem k_Mod_dry_76 {p : Program} {l : Launch} {e : Env} {s : State} {m : MethodId} {args : Array Value} {below : List Frame} {meth : Method} {c : Code} {D : va_G} {aC : Nat → ClassId} {ad : Nat → Nat} {T : x_T} {nx : Nat} {A : Nat → Prop} {q : Int64 × x_W} (C0 : x_At p s m meth c args "WallDampModel" b_Mod_dry (some (.long)) 3 D aC A) : ∀ (n : Nat), ∀ (w : x_W) (H : Heap) (locs : List Loc) (ls : Array Slot) (l0 : Nat) (l1 : Int32) (l2 : Int32), f_Mod_dry_76 T n w l0 l1 l2 = some q → x_H D x_cl x_FT aC ad T nx A w H → va_S A s.heap H locs → lv_has ls 3 [(0, .ref (ad l0)), (1, .int l1), (2, .int l2)] → W p l e { frames := 4, cells := 0, slots := 0, locals := 92 } s m args below meth c H locs 0 0 (MQ below (x_Qc D aC ad T nx (some (.long q.1)) q.2 A) args s 0 0 A) (F0 m 76 ls []) := by
  obtain ⟨hx, hb, hr, hml, hown, hts, hlocks, hK, hA, hX⟩ := id C0
  intro n
  induction n with
  | zero => intro w H locs ls l0 l1 l2 hf; cases (show none = some q from hf)
  | succ n ih =>
    intro w H locs ls l0 l1 l2 hf hH hS hl
    unfold f_Mod_dry_76 at hf
    refine lv_iload_n hx hb d_Mod_dry_76 rfl (lv_at hl 2 rfl) ?_
    refine lv_iload_n hx hb d_Mod_dry_77 rfl (lv_at hl 1 rfl) ?_
    refine lv_icmp_ge (tgt := 95) hx hb d_Mod_dry_78 (by decide) (fun c1 => ?_) (fun c1 => ?_)
    · have hf := x_it hf c1
      refine lv_aload_n hx hb d_Mod_dry_95 rfl (lv_at hl 0 rfl) ?_
      obtain ⟨_, e4, hf⟩ := x_b hf
      obtain ⟨n5, hT6⟩ := x_is_e e4
      obtain ⟨q2, e3, hf⟩ := x_b hf
      refine x_callP (st1 := [.long q2]) (x_runV (As := []) (rest := []) ⟨hx, hb, hml, hown, hts⟩ (c_Mod_allWater l D aC ad T nx H.size w l0 q2 e3) (cwV 0 hts (x_gV m_1078 m_1080 ms_27 m_13 m_1081) rfl rfl rfl ⟨rfl, pd_Mod_allWater⟩ ⟨Nat.le_of_ble_eq_true rfl, Nat.le_of_ble_eq_true rfl⟩) hH hK hX hT6 (by decide) rfl rfl rfl hl.1 rfl (lv_room (Nat.le_of_ble_eq_true rfl)) d_Mod_dry_96 ⟨Nat.zero_le _, Nat.zero_le _⟩) rfl ?_
      cases hf
      refine x_sz0 hS (fun hz => ?_)
      exact W.lret hx hb hr (fun t ht hW => ⟨rfl, hS.F ht, by rw [ht]; exact hz, by rw [ht]; exact hH.weaken (fun _ _ _ => trivial)⟩) hS.2.2 d_Mod_dry_99
    · have hf := x_if hf c1
      refine lv_aload_n hx hb d_Mod_dry_81 rfl (lv_at hl 0 rfl) ?_
      refine lv_iload_n hx hb d_Mod_dry_82 rfl (lv_at hl 2 rfl) ?_
      refine lv_bipush (v := 24) hx hb d_Mod_dry_83 (by decide) ?_
      refine lv_irem hx hb d_Mod_dry_85 (by decide) ?_
      obtain ⟨_, e9, hf⟩ := x_b hf
      obtain ⟨n10, hT11⟩ := x_is_e e9
      obtain ⟨q7, e8, hf⟩ := x_b hf
      refine x_call (st1 := []) (x_runV (As := [.int (l2 - l2 / (24 : Int32) * (24 : Int32))]) (rest := []) ⟨hx, hb, hml, hown, hts⟩ (c_Mod_hour l D aC ad T nx H.size w l0 (l2 - l2 / (24 : Int32) * (24 : Int32)) q7 e8) (cwV 1 hts (x_gV m_1025 m_1027 ms_18 m_13 m_1028) rfl rfl rfl ⟨rfl, pd_Mod_hour⟩ ⟨Nat.le_of_ble_eq_true rfl, Nat.le_of_ble_eq_true rfl⟩) hH hK hX hT11 (by decide) rfl rfl rfl hl.1 rfl (lv_room (Nat.le_of_ble_eq_true rfl)) d_Mod_dry_86 ⟨Nat.zero_le _, Nat.zero_le _⟩) rfl hH hA hS (fun H locs hH hS => ?_)
      refine lv_iinc (v := (l2 + 1)) (lv' := [(2, .int (l2 + 1)), (0, .ref (ad l0)), (1, .int l1)]) hx hb d_Mod_dry_89 hl (k := 2) rfl rfl (by decide) rfl (fun ls hl => ?_)
      refine lv_goto (tgt := 76) hx hb d_Mod_dry_92 (by decide) ?_
      exact ih q7 _ _ _ l0 l1 (l2 + 1) hf hH hS (lv_sub hl [1, 2, 0] rfl)
set_option maxHeartbeats 4000000 in
set_option maxRecDepth 100000 in
theorem k_Mod_dry_2 {p : Program} {l : Launch} {e : Env} {s : State} {m : MethodId} {args : Array Value} {below : List Frame} {meth : Method} {c : Code} {D : va_G} {aC : Nat → ClassId} {ad : Nat → Nat} {T : x_T} {nx : Nat} {A : Nat → Prop} {q : Int64 × x_W} (C0 : x_At p s m meth c args "WallDampModel" b_Mod_dry (some (.long)) 3 D aC A) : ∀ (n : Nat), ∀ (w : x_W) (H : Heap) (locs : List Loc) (ls : Array Slot) (l0 : Nat) (l1 : Int32) (l2 : Int32), f_Mod_dry_2 T n w l0 l1 l2 = some q → x_H D x_cl x_FT aC ad T nx A w H → va_S A s.heap H locs → lv_has ls 3 [(0, .ref (ad l0)), (1, .int l1), (2, .int l2)] → W p l e { frames := 4, cells := 0, slots := 0, locals := 92 } s m args below meth c H locs 0 0 (MQ below (x_Qc D aC ad T nx (some (.long q.1)) q.2 A) args s 0 0 A) (F0 m 2 ls []) := by
  obtain ⟨hx, hb, hr, hml, hown, hts, hlocks, hK, hA, hX⟩ := id C0
  intro n
  induction n with
  | zero => intro w H locs ls l0 l1 l2 hf; cases (show none = some q from hf)
  | succ n ih =>
    intro w H locs ls l0 l1 l2 hf hH hS hl
    unfold f_Mod_dry_2 at hf
    refine lv_iload_n hx hb d_Mod_dry_2 rfl (lv_at hl 2 rfl) ?_
    refine lv_aload_n hx hb d_Mod_dry_3 rfl (lv_at hl 0 rfl) ?_
    obtain ⟨_, e1, hf⟩ := x_b hf
    obtain ⟨n2, hT3⟩ := x_is_e e1
    refine x_get (C := "WallDampModel") (F := F_Mod) (N := 51) hx hb hts i_Mod hown hK hH hT3 (by decide) rfl 1 (by decide) (hts _ m_794) (fun _ h9 => h9) (kd := (0, 65)) rfl rfl d_Mod_dry_4 ?_
    refine lv_icmp_ge (tgt := 74) hx hb d_Mod_dry_7 (by decide) (fun c4 => ?_) (fun c4 => ?_)
    · have hf := x_it hf c4
      refine lv_iconst (v := 0) hx hb d_Mod_dry_74 (by decide) ?_
      refine lv_istore_n (lv' := [(2, .int (0 : Int32)), (0, .ref (ad l0)), (1, .int l1)]) hx hb d_Mod_dry_75 rfl hl (by decide) rfl (fun ls hl => ?_)
      exact k_Mod_dry_76 C0 1000 w _ _ _ l0 l1 (0 : Int32) hf hH hS (lv_sub hl [1, 2, 0] rfl)
    · have hf := x_if hf c4
      refine lv_aload_n hx hb d_Mod_dry_10 rfl (lv_at hl 0 rfl) ?_
      obtain ⟨a5, e6, hf⟩ := x_b hf
      refine x_get (C := "WallDampModel") (F := F_Mod) (N := 51) hx hb hts i_Mod hown hK hH hT3 (by decide) rfl 8 (by decide) (hts _ m_801) (fun _ h9 => h9) (kd := (2, 72)) rfl (x_fr e6) d_Mod_dry_11 ?_
      refine lv_iload_n hx hb d_Mod_dry_14 rfl (lv_at hl 2 rfl) ?_
      refine lv_aload_n hx hb d_Mod_dry_15 rfl (lv_at hl 0 rfl) ?_
      obtain ⟨a7, e8, hf⟩ := x_b hf
      refine x_get (C := "WallDampModel") (F := F_Mod) (N := 51) hx hb hts i_Mod hown hK hH hT3 (by decide) rfl 44 (by decide) (hts _ m_837) (fun _ h9 => h9) (kd := (2, 108)) rfl (x_fr e8) d_Mod_dry_16 ?_
      refine lv_aload_n hx hb d_Mod_dry_19 rfl (lv_at hl 0 rfl) ?_
      obtain ⟨a9, e10, hf⟩ := x_b hf
      refine x_get (C := "WallDampModel") (F := F_Mod) (N := 51) hx hb hts i_Mod hown hK hH hT3 (by decide) rfl 47 (by decide) (hts _ m_840) (fun _ h9 => h9) (kd := (2, 111)) rfl (x_fr e10) d_Mod_dry_20 ?_
      refine lv_iload_n hx hb d_Mod_dry_23 rfl (lv_at hl 2 rfl) ?_
      obtain ⟨_, e11, hf⟩ := x_b hf
      obtain ⟨n12, hT13, hi14⟩ := x_ix_e e11
      refine x_iald hx hb hK hH hT13 0 rfl hi14 d_Mod_dry_24 ?_
      obtain ⟨_, e15, hf⟩ := x_b hf
      obtain ⟨n16, hT17, hi18⟩ := x_ix_e e15
      refine x_iald hx hb hK hH hT17 0 rfl hi18 d_Mod_dry_25 ?_
      obtain ⟨_, e19, hf⟩ := x_b hf
      obtain ⟨n20, hT21, hi22⟩ := x_ix_e e19
      refine x_iast hx hb hK hH hS hT21 0 rfl hi22 d_Mod_dry_26 (fun H locs hH hS => ?_)
      obtain ⟨w23, e24, hf⟩ := x_b hf
      have hH := x_nw e24 hH
      refine lv_aload_n hx hb d_Mod_dry_27 rfl (lv_at hl 0 rfl) ?_
      obtain ⟨a25, e26, hf⟩ := x_b hf
      refine x_get (C := "WallDampModel") (F := F_Mod) (N := 51) hx hb hts i_Mod hown hK hH hT3 (by decide) rfl 9 (by decide) (hts _ m_802) (fun _ h9 => h9) (kd := (2, 73)) rfl (x_fr e26) d_Mod_dry_28 ?_
      refine lv_iload_n hx hb d_Mod_dry_31 rfl (lv_at hl 2 rfl) ?_
      refine lv_aload_n hx hb d_Mod_dry_32 rfl (lv_at hl 0 rfl) ?_
      obtain ⟨a27, e28, hf⟩ := x_b hf
      refine x_get (C := "WallDampModel") (F := F_Mod) (N := 51) hx hb hts i_Mod hown hK hH hT3 (by decide) rfl 45 (by decide) (hts _ m_838) (fun _ h9 => h9) (kd := (2, 109)) rfl (x_fr e28) d_Mod_dry_33 ?_
      refine lv_aload_n hx hb d_Mod_dry_36 rfl (lv_at hl 0 rfl) ?_
      obtain ⟨a29, e30, hf⟩ := x_b hf
      refine x_get (C := "WallDampModel") (F := F_Mod) (N := 51) hx hb hts i_Mod hown hK hH hT3 (by decide) rfl 47 (by decide) (hts _ m_840) (fun _ h9 => h9) (kd := (2, 111)) rfl (x_fr e30) d_Mod_dry_37 ?_
      refine lv_iload_n hx hb d_Mod_dry_40 rfl (lv_at hl 2 rfl) ?_
      obtain ⟨_, e31, hf⟩ := x_b hf
      obtain ⟨n32, hT33, hi34⟩ := x_ix_e e31
      refine x_iald hx hb hK hH hT33 0 rfl hi34 d_Mod_dry_41 ?_
      obtain ⟨_, e35, hf⟩ := x_b hf
      obtain ⟨n36, hT37, hi38⟩ := x_ix_e e35
      refine x_iald hx hb hK hH hT37 0 rfl hi38 d_Mod_dry_42 ?_
      obtain ⟨_, e39, hf⟩ := x_b hf
      obtain ⟨n40, hT41, hi42⟩ := x_ix_e e39
      refine x_iast hx hb hK hH hS hT41 0 rfl hi42 d_Mod_dry_43 (fun H locs hH hS => ?_)
      obtain ⟨w43, e44, hf⟩ := x_b hf
      have hH := x_nw e44 hH
      refine lv_aload_n hx hb d_Mod_dry_44 rfl (lv_at hl 0 rfl) ?_
      obtain ⟨a45, e46, hf⟩ := x_b hf
      refine x_get (C := "WallDampModel") (F := F_Mod) (N := 51) hx hb hts i_Mod hown hK hH hT3 (by decide) rfl 11 (by decide) (hts _ m_804) (fun _ h9 => h9) (kd := (2, 75)) rfl (x_fr e46) d_Mod_dry_45 ?_
      refine lv_iload_n hx hb d_Mod_dry_48 rfl (lv_at hl 2 rfl) ?_
      refine lv_aload_n hx hb d_Mod_dry_49 rfl (lv_at hl 0 rfl) ?_
      obtain ⟨a47, e48, hf⟩ := x_b hf
      refine x_get (C := "WallDampModel") (F := F_Mod) (N := 51) hx hb hts i_Mod hown hK hH hT3 (by decide) rfl 46 (by decide) (hts _ m_839) (fun _ h9 => h9) (kd := (2, 110)) rfl (x_fr e48) d_Mod_dry_50 ?_
      refine lv_aload_n hx hb d_Mod_dry_53 rfl (lv_at hl 0 rfl) ?_
      obtain ⟨a49, e50, hf⟩ := x_b hf
      refine x_get (C := "WallDampModel") (F := F_Mod) (N := 51) hx hb hts i_Mod hown hK hH hT3 (by decide) rfl 47 (by decide) (hts _ m_840) (fun _ h9 => h9) (kd := (2, 111)) rfl (x_fr e50) d_Mod_dry_54 ?_
      refine lv_iload_n hx hb d_Mod_dry_57 rfl (lv_at hl 2 rfl) ?_
      obtain ⟨_, e51, hf⟩ := x_b hf
      obtain ⟨n52, hT53, hi54⟩ := x_ix_e e51
      refine x_iald hx hb hK hH hT53 0 rfl hi54 d_Mod_dry_58 ?_
      obtain ⟨_, e55, hf⟩ := x_b hf
      obtain ⟨n56, hT57, hi58⟩ := x_ix_e e55
      refine x_iald hx hb hK hH hT57 0 rfl hi58 d_Mod_dry_59 ?_
      obtain ⟨_, e59, hf⟩ := x_b hf
      obtain ⟨n60, hT61, hi62⟩ := x_ix_e e59
      refine x_iast hx hb hK hH hS hT61 0 rfl hi62 d_Mod_dry_60 (fun H locs hH hS => ?_)
      obtain ⟨w63, e64, hf⟩ := x_b hf
      have hH := x_nw e64 hH
      refine lv_aload_n hx hb d_Mod_dry_61 rfl (lv_at hl 0 rfl) ?_
      obtain ⟨a65, e66, hf⟩ := x_b hf
      refine x_get (C := "WallDampModel") (F := F_Mod) (N := 51) hx hb hts i_Mod hown hK hH hT3 (by decide) rfl 10 (by decide) (hts _ m_803) (fun _ h9 => h9) (kd := (2, 74)) rfl (x_fr e66) d_Mod_dry_62 ?_
      refine lv_iload_n hx hb d_Mod_dry_65 rfl (lv_at hl 2 rfl) ?_
      refine lv_lconst (v := 0) hx hb d_Mod_dry_66 (by decide) ?_
      obtain ⟨_, e67, hf⟩ := x_b hf
      obtain ⟨n68, hT69, hi70⟩ := x_ix_e e67
      refine x_last hx hb hK hH hS hT69 1 rfl hi70 d_Mod_dry_67 (fun H locs hH hS => ?_)
      obtain ⟨w71, e72, hf⟩ := x_b hf
      have hH := x_nw e72 hH
      refine lv_iinc (v := (l2 + 1)) (lv' := [(2, .int (l2 + 1)), (0, .ref (ad l0)), (1, .int l1)]) hx hb d_Mod_dry_68 hl (k := 2) rfl rfl (by decide) rfl (fun ls hl => ?_)
      refine lv_goto (tgt := 2) hx hb d_Mod_dry_71 (by decide) ?_
      exact ih w71 _ _ _ l0 l1 (l2 + 1) hf hH hS (lv_sub hl [1, 2, 0] rfl)
set_option maxHeartbeats 4000000 in
set_option maxRecDepth 100000 in
theorem k_Mod_dry {p : Program} {l : Launch} {e : Env} {s : State} {m : MethodId} {args : Array Value} {below : List Frame} {meth : Method} {c : Code} {D : va_G} {aC : Nat → ClassId} {ad : Nat → Nat} {T : x_T} {nx : Nat} {A : Nat → Prop} {q : Int64 × x_W} (C0 : x_At p s m meth c args "WallDampModel" b_Mod_dry (some (.long)) 3 D aC A) : ∀ (w : x_W) (H : Heap) (locs : List Loc) (ls : Array Slot) (l0 : Nat) (l1 : Int32), f_Mod_dry T w l0 l1 = some q → x_H D x_cl x_FT aC ad T nx A w H → va_S A s.heap H locs → lv_has ls 3 [(0, .ref (ad l0)), (1, .int l1)] → W p l e { frames := 4, cells := 0, slots := 0, locals := 92 } s m args below meth c H locs 0 0 (MQ below (x_Qc D aC ad T nx (some (.long q.1)) q.2 A) args s 0 0 A) (F0 m 0 ls []) := by
  obtain ⟨hx, hb, hr, hml, hown, hts, hlocks, hK, hA, hX⟩ := id C0
  intro w H locs ls l0 l1 hf hH hS hl
  unfold f_Mod_dry at hf
  refine lv_iconst (v := 0) hx hb d_Mod_dry_0 (by decide) ?_
  refine lv_istore_n (lv' := [(2, .int (0 : Int32)), (0, .ref (ad l0)), (1, .int l1)]) hx hb d_Mod_dry_1 rfl hl (by decide) rfl (fun ls hl => ?_)
  exact k_Mod_dry_2 C0 1000 w _ _ _ l0 l1 (0 : Int32) hf hH hS (lv_sub hl [1, 2, 0] rfl)
theorem c_Mod_dry (l : Launch) (D : va_G) (aC : Nat → ClassId) (ad : Nat → Nat) (T : x_T) (nx sz : Nat) (w : x_W) (a0 : Nat) (a1 : Int32) (q : Int64 × x_W) (hf : f_Mod_dry T w a0 a1 = some q) : Met l y_Mod_dry ws_Mod_dry { frames := 4, cells := 0, slots := 0, locals := 92 } (x_Pc D aC ad T nx sz w [.ref (ad a0), .int a1]) (x_Qc D aC ad T nx (some (.long q.1)) q.2 (x_dom ad nx sz)) 0 0 (x_dom ad nx sz) :=
  x_met [(0, .ref (ad a0)), (1, .int a1)] (plainFor_of_name (by decide)) rfl rfl (Nat.le_of_ble_eq_true rfl) (fun p e s m args below meth c ls C0 hH hS hl => k_Mod_dry C0 w _ _ _ a0 a1 hf hH hS (lv_sub hl [0, 1] rfl))
/-! WallDampModel.keep()[J -/
def f_Mod_keep_2 (T : x_T) : Nat → x_W → Nat → Int32 → Option (Nat × x_W)
  | 0, _, _, _ => none
  | n + 1, w, l0, l1 =>
    (x_is T l0 10).bind fun _ =>
    if (x_I w 65 l0) ≤ l1 then
      ((x_R w 114 l0).bind fun a5 =>
      (x_ix T a5 101 (10 : Int32)).bind fun _ =>
      (some (x_sB w a5 (10 : Int32).toNatClampNeg (x_J w 98 l0))).bind fun w11 =>
      (x_R w11 114 l0).bind fun a13 =>
      (x_ix T a13 101 (11 : Int32)).bind fun _ =>
      (some (x_sB w11 a13 (11 : Int32).toNatClampNeg (x_J w11 99 l0))).bind fun w19 =>
      (x_R w19 114 l0).bind fun a21 =>
      (x_ix T a21 101 (12 : Int32)).bind fun _ =>
      (some (x_sB w19 a21 (12 : Int32).toNatClampNeg (x_J w19 100 l0))).bind fun w27 =>
      (x_R w27 114 l0).bind fun a29 =>
      (x_ix T a29 101 (13 : Int32)).bind fun _ =>
      (some (x_sB w27 a29 (13 : Int32).toNatClampNeg (x_J w27 101 l0))).bind fun w35 =>
      (x_R w35 114 l0).bind fun a37 =>
      some (a37, w35))
    else
      ((x_R w 108 l0).bind fun a39 =>
      (x_R w 72 l0).bind fun a41 =>
      (x_ix T a41 100 l1).bind fun _ =>
      (x_ix T a39 100 l1).bind fun _ =>
      (some (x_sA w a39 l1.toNatClampNeg (x_A w a41 l1.toNatClampNeg))).bind fun w51 =>
      (x_R w51 109 l0).bind fun a53 =>
      (x_R w51 73 l0).bind fun a55 =>
      (x_ix T a55 100 l1).bind fun _ =>
      (x_ix T a53 100 l1).bind fun _ =>
      (some (x_sA w51 a53 l1.toNatClampNeg (x_A w51 a55 l1.toNatClampNeg))).bind fun w65 =>
      (x_R w65 110 l0).bind fun a67 =>
      (x_R w65 75 l0).bind fun a69 =>
      (x_ix T a69 100 l1).bind fun _ =>
      (x_ix T a67 100 l1).bind fun _ =>
      (some (x_sA w65 a67 l1.toNatClampNeg (x_A w65 a69 l1.toNatClampNeg))).bind fun w79 =>
      (x_R w79 114 l0).bind fun a81 =>
      (x_R w79 74 l0).bind fun a83 =>
      (x_ix T a83 101 l1).bind fun _ =>
      (x_ix T a81 101 l1).bind fun _ =>
      (some (x_sB w79 a81 l1.toNatClampNeg (x_B w79 a83 l1.toNatClampNeg))).bind fun w93 =>
      (x_R w93 114 l0).bind fun a95 =>
      (x_R w93 76 l0).bind fun a97 =>
      (x_ix T a97 100 l1).bind fun _ =>
      (x_ix T a95 101 ((5 : Int32) + l1)).bind fun _ =>
      (some (x_sB w93 a95 ((5 : Int32) + l1).toNatClampNeg ((x_A w93 a97 l1.toNatClampNeg).toInt64))).bind fun w107 =>
      f_Mod_keep_2 T n w107 l0 (l1 + 1))
def f_Mod_keep (T : x_T) (w : x_W) (l0 : Nat) : Option (Nat × x_W) :=
  f_Mod_keep_2 T 1000 w l0 (0 : Int32)
set_option maxHeartbeats 4000000 in
set_option maxRecDepth 100000 in
theorem k_Mod_keep_2 {p : Program} {l : Launch} {e : Env} {s : State} {m : MethodId} {args : Array Value} {below : List Frame} {meth : Method} {c : Code} {D : va_G} {aC : Nat → ClassId} {ad : Nat → Nat} {T : x_T} {nx : Nat} {A : Nat → Prop} {q : Nat × x_W} (C0 : x_At p s m meth c args "WallDampModel" b_Mod_keep (some (.array (.long))) 2 D aC A) : ∀ (n : Nat), ∀ (w : x_W) (H : Heap) (locs : List Loc) (ls : Array Slot) (l0 : Nat) (l1 : Int32), f_Mod_keep_2 T n w l0 l1 = some q → x_H D x_cl x_FT aC ad T nx A w H → va_S A s.heap H locs → lv_has ls 2 [(0, .ref (ad l0)), (1, .int l1)] → W p l e { frames := 0, cells := 0, slots := 0, locals := 0 } s m args below meth c H locs 0 0 (MQ below (x_Qc D aC ad T nx (some (.ref (ad q.1))) q.2 A) args s 0 0 A) (F0 m 2 ls []) := by
  obtain ⟨hx, hb, hr, hml, hown, hts, hlocks, hK, hA, hX⟩ := id C0
  intro n
  induction n with
  | zero => intro w H locs ls l0 l1 hf; cases (show none = some q from hf)
  | succ n ih =>
    intro w H locs ls l0 l1 hf hH hS hl
    unfold f_Mod_keep_2 at hf
    refine lv_iload_n hx hb d_Mod_keep_2 rfl (lv_at hl 1 rfl) ?_
    refine lv_aload_n hx hb d_Mod_keep_3 rfl (lv_at hl 0 rfl) ?_
    obtain ⟨_, e1, hf⟩ := x_b hf
    obtain ⟨n2, hT3⟩ := x_is_e e1
    refine x_get (C := "WallDampModel") (F := F_Mod) (N := 51) hx hb hts i_Mod hown hK hH hT3 (by decide) rfl 1 (by decide) (hts _ m_794) (fun _ h9 => h9) (kd := (0, 65)) rfl rfl d_Mod_keep_4 ?_
    refine lv_icmp_ge (tgt := 79) hx hb d_Mod_keep_7 (by decide) (fun c4 => ?_) (fun c4 => ?_)
    · have hf := x_it hf c4
      refine lv_aload_n hx hb d_Mod_keep_79 rfl (lv_at hl 0 rfl) ?_
      obtain ⟨a5, e6, hf⟩ := x_b hf
      refine x_get (C := "WallDampModel") (F := F_Mod) (N := 51) hx hb hts i_Mod hown hK hH hT3 (by decide) rfl 50 (by decide) (hts _ m_843) (fun _ h9 => h9) (kd := (2, 114)) rfl (x_fr e6) d_Mod_keep_80 ?_
      refine lv_bipush (v := 10) hx hb d_Mod_keep_83 (by decide) ?_
      refine lv_aload_n hx hb d_Mod_keep_85 rfl (lv_at hl 0 rfl) ?_
      refine x_get (C := "WallDampModel") (F := F_Mod) (N := 51) hx hb hts i_Mod hown hK hH hT3 (by decide) rfl 34 (by decide) (hts _ m_827) (fun _ h9 => h9) (kd := (1, 98)) rfl rfl d_Mod_keep_86 ?_
      obtain ⟨_, e7, hf⟩ := x_b hf
      obtain ⟨n8, hT9, hi10⟩ := x_ix_e e7
      refine x_last hx hb hK hH hS hT9 1 rfl hi10 d_Mod_keep_89 (fun H locs hH hS => ?_)
      obtain ⟨w11, e12, hf⟩ := x_b hf
      have hH := x_nw e12 hH
      refine lv_aload_n hx hb d_Mod_keep_90 rfl (lv_at hl 0 rfl) ?_
      obtain ⟨a13, e14, hf⟩ := x_b hf
      refine x_get (C := "WallDampModel") (F := F_Mod) (N := 51) hx hb hts i_Mod hown hK hH hT3 (by decide) rfl 50 (by decide) (hts _ m_843) (fun _ h9 => h9) (kd := (2, 114)) rfl (x_fr e14) d_Mod_keep_91 ?_
      refine lv_bipush (v := 11) hx hb d_Mod_keep_94 (by decide) ?_
      refine lv_aload_n hx hb d_Mod_keep_96 rfl (lv_at hl 0 rfl) ?_
      refine x_get (C := "WallDampModel") (F := F_Mod) (N := 51) hx hb hts i_Mod hown hK hH hT3 (by decide) rfl 35 (by decide) (hts _ m_828) (fun _ h9 => h9) (kd := (1, 99)) rfl rfl d_Mod_keep_97 ?_
      obtain ⟨_, e15, hf⟩ := x_b hf
      obtain ⟨n16, hT17, hi18⟩ := x_ix_e e15
      refine x_last hx hb hK hH hS hT17 1 rfl hi18 d_Mod_keep_100 (fun H locs hH hS => ?_)
      obtain ⟨w19, e20, hf⟩ := x_b hf
      have hH := x_nw e20 hH
      refine lv_aload_n hx hb d_Mod_keep_101 rfl (lv_at hl 0 rfl) ?_
      obtain ⟨a21, e22, hf⟩ := x_b hf
      refine x_get (C := "WallDampModel") (F := F_Mod) (N := 51) hx hb hts i_Mod hown hK hH hT3 (by decide) rfl 50 (by decide) (hts _ m_843) (fun _ h9 => h9) (kd := (2, 114)) rfl (x_fr e22) d_Mod_keep_102 ?_
      refine lv_bipush (v := 12) hx hb d_Mod_keep_105 (by decide) ?_
      refine lv_aload_n hx hb d_Mod_keep_107 rfl (lv_at hl 0 rfl) ?_
      refine x_get (C := "WallDampModel") (F := F_Mod) (N := 51) hx hb hts i_Mod hown hK hH hT3 (by decide) rfl 36 (by decide) (hts _ m_829) (fun _ h9 => h9) (kd := (1, 100)) rfl rfl d_Mod_keep_108 ?_
      obtain ⟨_, e23, hf⟩ := x_b hf
      obtain ⟨n24, hT25, hi26⟩ := x_ix_e e23
      refine x_last hx hb hK hH hS hT25 1 rfl hi26 d_Mod_keep_111 (fun H locs hH hS => ?_)
      obtain ⟨w27, e28, hf⟩ := x_b hf
      have hH := x_nw e28 hH
      refine lv_aload_n hx hb d_Mod_keep_112 rfl (lv_at hl 0 rfl) ?_
      obtain ⟨a29, e30, hf⟩ := x_b hf
      refine x_get (C := "WallDampModel") (F := F_Mod) (N := 51) hx hb hts i_Mod hown hK hH hT3 (by decide) rfl 50 (by decide) (hts _ m_843) (fun _ h9 => h9) (kd := (2, 114)) rfl (x_fr e30) d_Mod_keep_113 ?_
      refine lv_bipush (v := 13) hx hb d_Mod_keep_116 (by decide) ?_
      refine lv_aload_n hx hb d_Mod_keep_118 rfl (lv_at hl 0 rfl) ?_
      refine x_get (C := "WallDampModel") (F := F_Mod) (N := 51) hx hb hts i_Mod hown hK hH hT3 (by decide) rfl 37 (by decide) (hts _ m_830) (fun _ h9 => h9) (kd := (1, 101)) rfl rfl d_Mod_keep_119 ?_
      obtain ⟨_, e31, hf⟩ := x_b hf
      obtain ⟨n32, hT33, hi34⟩ := x_ix_e e31
      refine x_last hx hb hK hH hS hT33 1 rfl hi34 d_Mod_keep_122 (fun H locs hH hS => ?_)
      obtain ⟨w35, e36, hf⟩ := x_b hf
      have hH := x_nw e36 hH
      refine lv_aload_n hx hb d_Mod_keep_123 rfl (lv_at hl 0 rfl) ?_
      obtain ⟨a37, e38, hf⟩ := x_b hf
      refine x_get (C := "WallDampModel") (F := F_Mod) (N := 51) hx hb hts i_Mod hown hK hH hT3 (by decide) rfl 50 (by decide) (hts _ m_843) (fun _ h9 => h9) (kd := (2, 114)) rfl (x_fr e38) d_Mod_keep_124 ?_
      cases hf
      refine x_sz0 hS (fun hz => ?_)
      exact W.aret hx hb hr (Or.inr ⟨_, rfl⟩) (Or.inr ⟨_, rfl⟩) (fun t ht hW => ⟨rfl, hS.F ht, by rw [ht]; exact hz, by rw [ht]; exact hH.weaken (fun _ _ _ => trivial)⟩) hS.2.2 d_Mod_keep_127
    · have hf := x_if hf c4
      refine lv_aload_n hx hb d_Mod_keep_10 rfl (lv_at hl 0 rfl) ?_
      obtain ⟨a39, e40, hf⟩ := x_b hf
      refine x_get (C := "WallDampModel") (F := F_Mod) (N := 51) hx hb hts i_Mod hown hK hH hT3 (by decide) rfl 44 (by decide) (hts _ m_837) (fun _ h9 => h9) (kd := (2, 108)) rfl (x_fr e40) d_Mod_keep_11 ?_
      refine lv_iload_n hx hb d_Mod_keep_14 rfl (lv_at hl 1 rfl) ?_
      refine lv_aload_n hx hb d_Mod_keep_15 rfl (lv_at hl 0 rfl) ?_
      obtain ⟨a41, e42, hf⟩ := x_b hf
      refine x_get (C := "WallDampModel") (F := F_Mod) (N := 51) hx hb hts i_Mod hown hK hH hT3 (by decide) rfl 8 (by decide) (hts _ m_801) (fun _ h9 => h9) (kd := (2, 72)) rfl (x_fr e42) d_Mod_keep_16 ?_
      refine lv_iload_n hx hb d_Mod_keep_19 rfl (lv_at hl 1 rfl) ?_
      obtain ⟨_, e43, hf⟩ := x_b hf
      obtain ⟨n44, hT45, hi46⟩ := x_ix_e e43
      refine x_iald hx hb hK hH hT45 0 rfl hi46 d_Mod_keep_20 ?_
      obtain ⟨_, e47, hf⟩ := x_b hf
      obtain ⟨n48, hT49, hi50⟩ := x_ix_e e47
      refine x_iast hx hb hK hH hS hT49 0 rfl hi50 d_Mod_keep_21 (fun H locs hH hS => ?_)
      obtain ⟨w51, e52, hf⟩ := x_b hf
      have hH := x_nw e52 hH
      refine lv_aload_n hx hb d_Mod_keep_22 rfl (lv_at hl 0 rfl) ?_
      obtain ⟨a53, e54, hf⟩ := x_b hf
      refine x_get (C := "WallDampModel") (F := F_Mod) (N := 51) hx hb hts i_Mod hown hK hH hT3 (by decide) rfl 45 (by decide) (hts _ m_838) (fun _ h9 => h9) (kd := (2, 109)) rfl (x_fr e54) d_Mod_keep_23 ?_
      refine lv_iload_n hx hb d_Mod_keep_26 rfl (lv_at hl 1 rfl) ?_
      refine lv_aload_n hx hb d_Mod_keep_27 rfl (lv_at hl 0 rfl) ?_
      obtain ⟨a55, e56, hf⟩ := x_b hf
      refine x_get (C := "WallDampModel") (F := F_Mod) (N := 51) hx hb hts i_Mod hown hK hH hT3 (by decide) rfl 9 (by decide) (hts _ m_802) (fun _ h9 => h9) (kd := (2, 73)) rfl (x_fr e56) d_Mod_keep_28 ?_
      refine lv_iload_n hx hb d_Mod_keep_31 rfl (lv_at hl 1 rfl) ?_
      obtain ⟨_, e57, hf⟩ := x_b hf
      obtain ⟨n58, hT59, hi60⟩ := x_ix_e e57
      refine x_iald hx hb hK hH hT59 0 rfl hi60 d_Mod_keep_32 ?_
      obtain ⟨_, e61, hf⟩ := x_b hf
      obtain ⟨n62, hT63, hi64⟩ := x_ix_e e61
      refine x_iast hx hb hK hH hS hT63 0 rfl hi64 d_Mod_keep_33 (fun H locs hH hS => ?_)
      obtain ⟨w65, e66, hf⟩ := x_b hf
      have hH := x_nw e66 hH
      refine lv_aload_n hx hb d_Mod_keep_34 rfl (lv_at hl 0 rfl) ?_
      obtain ⟨a67, e68, hf⟩ := x_b hf
      refine x_get (C := "WallDampModel") (F := F_Mod) (N := 51) hx hb hts i_Mod hown hK hH hT3 (by decide) rfl 46 (by decide) (hts _ m_839) (fun _ h9 => h9) (kd := (2, 110)) rfl (x_fr e68) d_Mod_keep_35 ?_
      refine lv_iload_n hx hb d_Mod_keep_38 rfl (lv_at hl 1 rfl) ?_
      refine lv_aload_n hx hb d_Mod_keep_39 rfl (lv_at hl 0 rfl) ?_
      obtain ⟨a69, e70, hf⟩ := x_b hf
      refine x_get (C := "WallDampModel") (F := F_Mod) (N := 51) hx hb hts i_Mod hown hK hH hT3 (by decide) rfl 11 (by decide) (hts _ m_804) (fun _ h9 => h9) (kd := (2, 75)) rfl (x_fr e70) d_Mod_keep_40 ?_
      refine lv_iload_n hx hb d_Mod_keep_43 rfl (lv_at hl 1 rfl) ?_
      obtain ⟨_, e71, hf⟩ := x_b hf
      obtain ⟨n72, hT73, hi74⟩ := x_ix_e e71
      refine x_iald hx hb hK hH hT73 0 rfl hi74 d_Mod_keep_44 ?_
      obtain ⟨_, e75, hf⟩ := x_b hf
      obtain ⟨n76, hT77, hi78⟩ := x_ix_e e75
      refine x_iast hx hb hK hH hS hT77 0 rfl hi78 d_Mod_keep_45 (fun H locs hH hS => ?_)
      obtain ⟨w79, e80, hf⟩ := x_b hf
      have hH := x_nw e80 hH
      refine lv_aload_n hx hb d_Mod_keep_46 rfl (lv_at hl 0 rfl) ?_
      obtain ⟨a81, e82, hf⟩ := x_b hf
      refine x_get (C := "WallDampModel") (F := F_Mod) (N := 51) hx hb hts i_Mod hown hK hH hT3 (by decide) rfl 50 (by decide) (hts _ m_843) (fun _ h9 => h9) (kd := (2, 114)) rfl (x_fr e82) d_Mod_keep_47 ?_
      refine lv_iload_n hx hb d_Mod_keep_50 rfl (lv_at hl 1 rfl) ?_
      refine lv_aload_n hx hb d_Mod_keep_51 rfl (lv_at hl 0 rfl) ?_
      obtain ⟨a83, e84, hf⟩ := x_b hf
      refine x_get (C := "WallDampModel") (F := F_Mod) (N := 51) hx hb hts i_Mod hown hK hH hT3 (by decide) rfl 10 (by decide) (hts _ m_803) (fun _ h9 => h9) (kd := (2, 74)) rfl (x_fr e84) d_Mod_keep_52 ?_
      refine lv_iload_n hx hb d_Mod_keep_55 rfl (lv_at hl 1 rfl) ?_
      obtain ⟨_, e85, hf⟩ := x_b hf
      obtain ⟨n86, hT87, hi88⟩ := x_ix_e e85
      refine x_lald hx hb hK hH hT87 1 rfl hi88 d_Mod_keep_56 ?_
      obtain ⟨_, e89, hf⟩ := x_b hf
      obtain ⟨n90, hT91, hi92⟩ := x_ix_e e89
      refine x_last hx hb hK hH hS hT91 1 rfl hi92 d_Mod_keep_57 (fun H locs hH hS => ?_)
      obtain ⟨w93, e94, hf⟩ := x_b hf
      have hH := x_nw e94 hH
      refine lv_aload_n hx hb d_Mod_keep_58 rfl (lv_at hl 0 rfl) ?_
      obtain ⟨a95, e96, hf⟩ := x_b hf
      refine x_get (C := "WallDampModel") (F := F_Mod) (N := 51) hx hb hts i_Mod hown hK hH hT3 (by decide) rfl 50 (by decide) (hts _ m_843) (fun _ h9 => h9) (kd := (2, 114)) rfl (x_fr e96) d_Mod_keep_59 ?_
      refine lv_iconst (v := 5) hx hb d_Mod_keep_62 (by decide) ?_
      refine lv_iload_n hx hb d_Mod_keep_63 rfl (lv_at hl 1 rfl) ?_
      refine lv_iadd hx hb d_Mod_keep_64 ?_
      refine lv_aload_n hx hb d_Mod_keep_65 rfl (lv_at hl 0 rfl) ?_
      obtain ⟨a97, e98, hf⟩ := x_b hf
      refine x_get (C := "WallDampModel") (F := F_Mod) (N := 51) hx hb hts i_Mod hown hK hH hT3 (by decide) rfl 12 (by decide) (hts _ m_805) (fun _ h9 => h9) (kd := (2, 76)) rfl (x_fr e98) d_Mod_keep_66 ?_
      refine lv_iload_n hx hb d_Mod_keep_69 rfl (lv_at hl 1 rfl) ?_
      obtain ⟨_, e99, hf⟩ := x_b hf
      obtain ⟨n100, hT101, hi102⟩ := x_ix_e e99
      refine x_iald hx hb hK hH hT101 0 rfl hi102 d_Mod_keep_70 ?_
      refine lv_i2l (v := (x_A w93 a97 l1.toNatClampNeg).toInt64) hx hb d_Mod_keep_71 rfl ?_
      obtain ⟨_, e103, hf⟩ := x_b hf
      obtain ⟨n104, hT105, hi106⟩ := x_ix_e e103
      refine x_last hx hb hK hH hS hT105 1 rfl hi106 d_Mod_keep_72 (fun H locs hH hS => ?_)
      obtain ⟨w107, e108, hf⟩ := x_b hf
      have hH := x_nw e108 hH
      refine lv_iinc (v := (l1 + 1)) (lv' := [(1, .int (l1 + 1)), (0, .ref (ad l0))]) hx hb d_Mod_keep_73 hl (k := 1) rfl rfl (by decide) rfl (fun ls hl => ?_)
      refine lv_goto (tgt := 2) hx hb d_Mod_keep_76 (by decide) ?_
      exact ih w107 _ _ _ l0 (l1 + 1) hf hH hS (lv_sub hl [1, 0] rfl)
set_option maxHeartbeats 4000000 in
set_option maxRecDepth 100000 in
theorem k_Mod_keep {p : Program} {l : Launch} {e : Env} {s : State} {m : MethodId} {args : Array Value} {below : List Frame} {meth : Method} {c : Code} {D : va_G} {aC : Nat → ClassId} {ad : Nat → Nat} {T : x_T} {nx : Nat} {A : Nat → Prop} {q : Nat × x_W} (C0 : x_At p s m meth c args "WallDampModel" b_Mod_keep (some (.array (.long))) 2 D aC A) : ∀ (w : x_W) (H : Heap) (locs : List Loc) (ls : Array Slot) (l0 : Nat), f_Mod_keep T w l0 = some q → x_H D x_cl x_FT aC ad T nx A w H → va_S A s.heap H locs → lv_has ls 2 [(0, .ref (ad l0))] → W p l e { frames := 0, cells := 0, slots := 0, locals := 0 } s m args below meth c H locs 0 0 (MQ below (x_Qc D aC ad T nx (some (.ref (ad q.1))) q.2 A) args s 0 0 A) (F0 m 0 ls []) := by
  obtain ⟨hx, hb, hr, hml, hown, hts, hlocks, hK, hA, hX⟩ := id C0
  intro w H locs ls l0 hf hH hS hl
  unfold f_Mod_keep at hf
  refine lv_iconst (v := 0) hx hb d_Mod_keep_0 (by decide) ?_
  refine lv_istore_n (lv' := [(1, .int (0 : Int32)), (0, .ref (ad l0))]) hx hb d_Mod_keep_1 rfl hl (by decide) rfl (fun ls hl => ?_)
  exact k_Mod_keep_2 C0 1000 w _ _ _ l0 (0 : Int32) hf hH hS (lv_sub hl [1, 0] rfl)
theorem c_Mod_keep (l : Launch) (D : va_G) (aC : Nat → ClassId) (ad : Nat → Nat) (T : x_T) (nx sz : Nat) (w : x_W) (a0 : Nat) (q : Nat × x_W) (hf : f_Mod_keep T w a0 = some q) : Met l y_Mod_keep ws_Mod_keep { frames := 0, cells := 0, slots := 0, locals := 0 } (x_Pc D aC ad T nx sz w [.ref (ad a0)]) (x_Qc D aC ad T nx (some (.ref (ad q.1))) q.2 (x_dom ad nx sz)) 0 0 (x_dom ad nx sz) :=
  x_met [(0, .ref (ad a0))] (plainFor_of_name (by decide)) rfl rfl (Nat.le_of_ble_eq_true rfl) (fun p e s m args below meth c ls C0 hH hS hl => k_Mod_keep C0 w _ _ _ a0 hf hH hS (lv_sub hl [0] rfl))
/-! WallDampModel.order(II)I -/
def f_Mod_order_165 (T : x_T) : Nat → x_W → Nat → Int32 → Nat → Int32 → Option (Int32 × x_W)
  | 0, _, _, _, _, _ => none
  | n + 1, w, l0, l2, l3, l7 =>
    (x_is T l0 10).bind fun _ =>
    if (x_I w 65 l0) ≤ l7 then
      ((x_ix T l3 101 (10 : Int32)).bind fun _ =>
      (some (x_sJ w 98 l0 (x_B w l3 (10 : Int32).toNatClampNeg))).bind fun w9 =>
      (x_ix T l3 101 (11 : Int32)).bind fun _ =>
      (some (x_sJ w9 99 l0 (x_B w9 l3 (11 : Int32).toNatClampNeg))).bind fun w15 =>
      (x_ix T l3 101 (12 : Int32)).bind fun _ =>
      (some (x_sJ w15 100 l0 (x_B w15 l3 (12 : Int32).toNatClampNeg))).bind fun w21 =>
      (x_ix T l3 101 (13 : Int32)).bind fun _ =>
      (some (x_sJ w21 101 l0 (x_B w21 l3 (13 : Int32).toNatClampNeg))).bind fun w27 =>
      (x_R w27 112 l0).bind fun a29 =>
      (x_ix T a29 100 l2).bind fun _ =>
      some ((x_A w27 a29 l2.toNatClampNeg), w27))
    else
      ((x_R w 72 l0).bind fun a35 =>
      (x_R w 108 l0).bind fun a37 =>
      (x_ix T a37 100 l7).bind fun _ =>
      (x_ix T a35 100 l7).bind fun _ =>
      (some (x_sA w a35 l7.toNatClampNeg (x_A w a37 l7.toNatClampNeg))).bind fun w47 =>
      (x_R w47 73 l0).bind fun a49 =>
      (x_R w47 109 l0).bind fun a51 =>
      (x_ix T a51 100 l7).bind fun _ =>
      (x_ix T a49 100 l7).bind fun _ =>
      (some (x_sA w47 a49 l7.toNatClampNeg (x_A w47 a51 l7.toNatClampNeg))).bind fun w61 =>
      (x_R w61 75 l0).bind fun a63 =>
      (x_R w61 110 l0).bind fun a65 =>
      (x_ix T a65 100 l7).bind fun _ =>
      (x_ix T a63 100 l7).bind fun _ =>
      (some (x_sA w61 a63 l7.toNatClampNeg (x_A w61 a65 l7.toNatClampNeg))).bind fun w75 =>
      (x_R w75 74 l0).bind fun a77 =>
      (x_ix T l3 101 l7).bind fun _ =>
      (x_ix T a77 101 l7).bind fun _ =>
      (some (x_sB w75 a77 l7.toNatClampNeg (x_B w75 l3 l7.toNatClampNeg))).bind fun w87 =>
      (x_R w87 76 l0).bind fun a89 =>
      (x_ix T l3 101 ((5 : Int32) + l7)).bind fun _ =>
      (x_ix T a89 100 l7).bind fun _ =>
      (some (x_sA w87 a89 l7.toNatClampNeg ((x_B w87 l3 ((5 : Int32) + l7).toNatClampNeg).toInt32))).bind fun w99 =>
      f_Mod_order_165 T n w99 l0 l2 l3 (l7 + 1))
def f_Mod_order_153 (T : x_T) (K90 : x_W → Nat → Int32 → Int32 → Nat → Int64 → Int32 → Option (Int32 × x_W)) (w : x_W) (l0 : Nat) (l1 : Int32) (l2 : Int32) (l3 : Nat) (l4 : Int64) : Option (Int32 × x_W) :=
  (x_is T l0 10).bind fun _ =>
  (f_Mod_next T w l0).bind fun q1 =>
  K90 q1.2 l0 l1 l2 l3 l4 q1.1
def f_Mod_order_124 (T : x_T) (K90 : x_W → Nat → Int32 → Int32 → Nat → Int64 → Int32 → Option (Int32 × x_W)) : Nat → x_W → Nat → Int32 → Int32 → Nat → Int64 → Int32 → Option (Int32 × x_W)
  | 0, _, _, _, _, _, _, _ => none
  | n + 1, w, l0, l1, l2, l3, l4, l9 =>
    (x_is T l0 10).bind fun _ =>
    if (x_I w 65 l0) ≤ l9 then
      (f_Mod_order_153 T K90 w l0 l1 l2 l3 l4)
    else
      ((x_R w 112 l0).bind fun a5 =>
      (x_R w 111 l0).bind fun a7 =>
      (x_ix T a7 100 l9).bind fun _ =>
      (x_ix T a5 100 l9).bind fun _ =>
      (some (x_sA w a5 l9.toNatClampNeg (x_A w a7 l9.toNatClampNeg))).bind fun w17 =>
      f_Mod_order_124 T K90 n w17 l0 l1 l2 l3 l4 (l9 + 1))
def f_Mod_order_117 (T : x_T) (K90 : x_W → Nat → Int32 → Int32 → Nat → Int64 → Int32 → Option (Int32 × x_W)) (w : x_W) (l0 : Nat) (l1 : Int32) (l2 : Int32) (l3 : Nat) (l7 : Int64) : Option (Int32 × x_W) :=
  f_Mod_order_124 T K90 1000 w l0 l1 l2 l3 l7 (0 : Int32)
def f_Mod_order_90 (T : x_T) : Nat → x_W → Nat → Int32 → Int32 → Nat → Int64 → Int32 → Option (Int32 × x_W)
  | 0, _, _, _, _, _, _, _ => none
  | n + 1, w, l0, l1, l2, l3, l4, l6 =>
    if l6 = 0 then
      (f_Mod_order_165 T 1000 w l0 l2 l3 (0 : Int32))
    else
      ((x_is T l0 10).bind fun _ =>
      (f_Mod_dry T w l0 l1).bind fun q2 =>
      if (lg_cmp l4 (0 : Int64)) < 0 then
        (f_Mod_order_117 T (f_Mod_order_90 T n) q2.2 l0 l1 l2 l3 q2.1)
      else
        (if 0 ≤ (lg_cmp q2.1 l4) then
          (f_Mod_order_153 T (f_Mod_order_90 T n) q2.2 l0 l1 l2 l3 l4)
        else
          (f_Mod_order_117 T (f_Mod_order_90 T n) q2.2 l0 l1 l2 l3 q2.1)))
def f_Mod_order_63 (T : x_T) : Nat → x_W → Nat → Int32 → Int32 → Nat → Int64 → Int32 → Option (Int32 × x_W)
  | 0, _, _, _, _, _, _, _ => none
  | n + 1, w, l0, l1, l2, l3, l4, l6 =>
    (x_is T l0 10).bind fun _ =>
    if (x_I w 65 l0) ≤ l6 then
      (f_Mod_order_90 T 1000 w l0 l1 l2 l3 l4 (1 : Int32))
    else
      ((x_R w 111 l0).bind fun a5 =>
      (x_ix T a5 100 l6).bind fun _ =>
      (some (x_sA w a5 l6.toNatClampNeg l6)).bind fun w11 =>
      f_Mod_order_63 T n w11 l0 l1 l2 l3 l4 (l6 + 1))
def f_Mod_order_38 (T : x_T) (w : x_W) (l0 : Nat) (l1 : Int32) (l2 : Int32) (t0 : Nat) (t1 : Int32) : Option (Int32 × x_W) :=
  (x_is T t0 10).bind fun _ =>
  (some (x_sI w 64 t0 t1)).bind fun w4 =>
  (x_is T l0 10).bind fun _ =>
  if (x_I w4 64 l0) ≤ 0 then
    ((f_Mod_keep T w4 l0).bind fun q10 =>
    f_Mod_order_63 T 1000 q10.2 l0 l1 l2 q10.1 (-1 : Int64) (0 : Int32))
  else
    (some ((0 : Int32), w4))
def f_Mod_order_21 (T : x_T) (w : x_W) (l0 : Nat) (l1 : Int32) (l2 : Int32) (t0 : Nat) : Option (Int32 × x_W) :=
  f_Mod_order_38 T w l0 l1 l2 t0 (1 : Int32)
def f_Mod_order (T : x_T) (w : x_W) (l0 : Nat) (l1 : Int32) (l2 : Int32) : Option (Int32 × x_W) :=
  (f_Mod_in T w (l1.toInt64) (1 : Int64) (48 : Int64)).bind fun q1 =>
  if q1 = 0 then
    (f_Mod_order_21 T w l0 l1 l2 l0)
  else
    ((x_is T l0 10).bind fun _ =>
    (f_Mod_isCell T w l0 l2).bind fun q4 =>
    if q4 = 0 then
      (f_Mod_order_21 T w l0 l1 l2 l0)
    else
      (if (x_I w 65 l0) ≤ (5 : Int32) then
        (f_Mod_order_38 T w l0 l1 l2 l0 (0 : Int32))
      else
        (f_Mod_order_38 T w l0 l1 l2 l0 (2 : Int32))))
set_option maxHeartbeats 4000000 in
set_option maxRecDepth 100000 in
theorem k_Mod_order_165 {p : Program} {l : Launch} {e : Env} {s : State} {m : MethodId} {args : Array Value} {below : List Frame} {meth : Method} {c : Code} {D : va_G} {aC : Nat → ClassId} {ad : Nat → Nat} {T : x_T} {nx : Nat} {A : Nat → Prop} {q : Int32 × x_W} (C0 : x_At p s m meth c args "WallDampModel" b_Mod_order (some (.int)) 10 D aC A) : ∀ (n : Nat), ∀ (w : x_W) (H : Heap) (locs : List Loc) (ls : Array Slot) (l0 : Nat) (l2 : Int32) (l3 : Nat) (l7 : Int32), f_Mod_order_165 T n w l0 l2 l3 l7 = some q → x_H D x_cl x_FT aC ad T nx A w H → va_S A s.heap H locs → lv_has ls 10 [(0, .ref (ad l0)), (2, .int l2), (3, .ref (ad l3)), (7, .int l7)] → W p l e { frames := 5, cells := 0, slots := 0, locals := 114 } s m args below meth c H locs 0 0 (MQ below (x_Qc D aC ad T nx (some (.int q.1)) q.2 A) args s 0 0 A) (F0 m 165 ls []) := by
  obtain ⟨hx, hb, hr, hml, hown, hts, hlocks, hK, hA, hX⟩ := id C0
  intro n
  induction n with
  | zero => intro w H locs ls l0 l2 l3 l7 hf; cases (show none = some q from hf)
  | succ n ih =>
    intro w H locs ls l0 l2 l3 l7 hf hH hS hl
    unfold f_Mod_order_165 at hf
    refine lv_iload hx hb d_Mod_order_165 (lv_at hl 3 rfl) ?_
    refine lv_aload_n hx hb d_Mod_order_167 rfl (lv_at hl 0 rfl) ?_
    obtain ⟨_, e1, hf⟩ := x_b hf
    obtain ⟨n2, hT3⟩ := x_is_e e1
    refine x_get (C := "WallDampModel") (F := F_Mod) (N := 51) hx hb hts i_Mod hown hK hH hT3 (by decide) rfl 1 (by decide) (hts _ m_794) (fun _ h9 => h9) (kd := (0, 65)) rfl rfl d_Mod_order_168 ?_
    refine lv_icmp_ge (tgt := 247) hx hb d_Mod_order_171 (by decide) (fun c4 => ?_) (fun c4 => ?_)
    · have hf := x_it hf c4
      refine lv_aload_n hx hb d_Mod_order_247 rfl (lv_at hl 0 rfl) ?_
      refine lv_aload_n hx hb d_Mod_order_248 rfl (lv_at hl 2 rfl) ?_
      refine lv_bipush (v := 10) hx hb d_Mod_order_249 (by decide) ?_
      obtain ⟨_, e5, hf⟩ := x_b hf
      obtain ⟨n6, hT7, hi8⟩ := x_ix_e e5
      refine x_lald hx hb hK hH hT7 1 rfl hi8 d_Mod_order_251 ?_
      refine x_put (C := "WallDampModel") (F := F_Mod) (N := 51) (ty := t_Mod 34) (v := .long (x_B w l3 (10 : Int32).toNatClampNeg)) (w' := x_sJ w 98 l0 (x_B w l3 (10 : Int32).toNatClampNeg)) hx hb hts i_Mod t_Mod ty_Mod n_Mod hown hK hH hS hT3 (by decide) rfl rfl 34 (by decide) (hts _ m_827) (fun _ h9 => h9) rfl (ty_Mod 34 (by decide)) rfl rfl (x_on_J hT3 (by decide) rfl nd_Mod) (fun j hj => x_off_J hj) (fun hh ok => x_ok_J hh ok) d_Mod_order_252 (fun H locs hH hS => ?_)
      obtain ⟨w9, e10, hf⟩ := x_b hf
      have hH := x_nw e10 hH
      refine lv_aload_n hx hb d_Mod_order_255 rfl (lv_at hl 0 rfl) ?_
      refine lv_aload_n hx hb d_Mod_order_256 rfl (lv_at hl 2 rfl) ?_
      refine lv_bipush (v := 11) hx hb d_Mod_order_257 (by decide) ?_
      obtain ⟨_, e11, hf⟩ := x_b hf
      obtain ⟨n12, hT13, hi14⟩ := x_ix_e e11
      refine x_lald hx hb hK hH hT13 1 rfl hi14 d_Mod_order_259 ?_
      refine x_put (C := "WallDampModel") (F := F_Mod) (N := 51) (ty := t_Mod 35) (v := .long (x_B w9 l3 (11 : Int32).toNatClampNeg)) (w' := x_sJ w9 99 l0 (x_B w9 l3 (11 : Int32).toNatClampNeg)) hx hb hts i_Mod t_Mod ty_Mod n_Mod hown hK hH hS hT3 (by decide) rfl rfl 35 (by decide) (hts _ m_828) (fun _ h9 => h9) rfl (ty_Mod 35 (by decide)) rfl rfl (x_on_J hT3 (by decide) rfl nd_Mod) (fun j hj => x_off_J hj) (fun hh ok => x_ok_J hh ok) d_Mod_order_260 (fun H locs hH hS => ?_)
      obtain ⟨w15, e16, hf⟩ := x_b hf
      have hH := x_nw e16 hH
      refine lv_aload_n hx hb d_Mod_order_263 rfl (lv_at hl 0 rfl) ?_
      refine lv_aload_n hx hb d_Mod_order_264 rfl (lv_at hl 2 rfl) ?_
      refine lv_bipush (v := 12) hx hb d_Mod_order_265 (by decide) ?_
      obtain ⟨_, e17, hf⟩ := x_b hf
      obtain ⟨n18, hT19, hi20⟩ := x_ix_e e17
      refine x_lald hx hb hK hH hT19 1 rfl hi20 d_Mod_order_267 ?_
      refine x_put (C := "WallDampModel") (F := F_Mod) (N := 51) (ty := t_Mod 36) (v := .long (x_B w15 l3 (12 : Int32).toNatClampNeg)) (w' := x_sJ w15 100 l0 (x_B w15 l3 (12 : Int32).toNatClampNeg)) hx hb hts i_Mod t_Mod ty_Mod n_Mod hown hK hH hS hT3 (by decide) rfl rfl 36 (by decide) (hts _ m_829) (fun _ h9 => h9) rfl (ty_Mod 36 (by decide)) rfl rfl (x_on_J hT3 (by decide) rfl nd_Mod) (fun j hj => x_off_J hj) (fun hh ok => x_ok_J hh ok) d_Mod_order_268 (fun H locs hH hS => ?_)
      obtain ⟨w21, e22, hf⟩ := x_b hf
      have hH := x_nw e22 hH
      refine lv_aload_n hx hb d_Mod_order_271 rfl (lv_at hl 0 rfl) ?_
      refine lv_aload_n hx hb d_Mod_order_272 rfl (lv_at hl 2 rfl) ?_
      refine lv_bipush (v := 13) hx hb d_Mod_order_273 (by decide) ?_
      obtain ⟨_, e23, hf⟩ := x_b hf
      obtain ⟨n24, hT25, hi26⟩ := x_ix_e e23
      refine x_lald hx hb hK hH hT25 1 rfl hi26 d_Mod_order_275 ?_
      refine x_put (C := "WallDampModel") (F := F_Mod) (N := 51) (ty := t_Mod 37) (v := .long (x_B w21 l3 (13 : Int32).toNatClampNeg)) (w' := x_sJ w21 101 l0 (x_B w21 l3 (13 : Int32).toNatClampNeg)) hx hb hts i_Mod t_Mod ty_Mod n_Mod hown hK hH hS hT3 (by decide) rfl rfl 37 (by decide) (hts _ m_830) (fun _ h9 => h9) rfl (ty_Mod 37 (by decide)) rfl rfl (x_on_J hT3 (by decide) rfl nd_Mod) (fun j hj => x_off_J hj) (fun hh ok => x_ok_J hh ok) d_Mod_order_276 (fun H locs hH hS => ?_)
      obtain ⟨w27, e28, hf⟩ := x_b hf
      have hH := x_nw e28 hH
      refine lv_aload_n hx hb d_Mod_order_279 rfl (lv_at hl 0 rfl) ?_
      obtain ⟨a29, e30, hf⟩ := x_b hf
      refine x_get (C := "WallDampModel") (F := F_Mod) (N := 51) hx hb hts i_Mod hown hK hH hT3 (by decide) rfl 48 (by decide) (hts _ m_841) (fun _ h9 => h9) (kd := (2, 112)) rfl (x_fr e30) d_Mod_order_280 ?_
      refine lv_iload_n hx hb d_Mod_order_283 rfl (lv_at hl 1 rfl) ?_
      obtain ⟨_, e31, hf⟩ := x_b hf
      obtain ⟨n32, hT33, hi34⟩ := x_ix_e e31
      refine x_iald hx hb hK hH hT33 0 rfl hi34 d_Mod_order_284 ?_
      cases hf
      refine x_sz0 hS (fun hz => ?_)
      exact W.iret hx hb hr (fun t ht hW => ⟨rfl, hS.F ht, by rw [ht]; exact hz, by rw [ht]; exact hH.weaken (fun _ _ _ => trivial)⟩) hS.2.2 d_Mod_order_285
    · have hf := x_if hf c4
      refine lv_aload_n hx hb d_Mod_order_174 rfl (lv_at hl 0 rfl) ?_
      obtain ⟨a35, e36, hf⟩ := x_b hf
      refine x_get (C := "WallDampModel") (F := F_Mod) (N := 51) hx hb hts i_Mod hown hK hH hT3 (by decide) rfl 8 (by decide) (hts _ m_801) (fun _ h9 => h9) (kd := (2, 72)) rfl (x_fr e36) d_Mod_order_175 ?_
      refine lv_iload hx hb d_Mod_order_178 (lv_at hl 3 rfl) ?_
      refine lv_aload_n hx hb d_Mod_order_180 rfl (lv_at hl 0 rfl) ?_
      obtain ⟨a37, e38, hf⟩ := x_b hf
      refine x_get (C := "WallDampModel") (F := F_Mod) (N := 51) hx hb hts i_Mod hown hK hH hT3 (by decide) rfl 44 (by decide) (hts _ m_837) (fun _ h9 => h9) (kd := (2, 108)) rfl (x_fr e38) d_Mod_order_181 ?_
      refine lv_iload hx hb d_Mod_order_184 (lv_at hl 3 rfl) ?_
      obtain ⟨_, e39, hf⟩ := x_b hf
      obtain ⟨n40, hT41, hi42⟩ := x_ix_e e39
      refine x_iald hx hb hK hH hT41 0 rfl hi42 d_Mod_order_186 ?_
      obtain ⟨_, e43, hf⟩ := x_b hf
      obtain ⟨n44, hT45, hi46⟩ := x_ix_e e43
      refine x_iast hx hb hK hH hS hT45 0 rfl hi46 d_Mod_order_187 (fun H locs hH hS => ?_)
      obtain ⟨w47, e48, hf⟩ := x_b hf
      have hH := x_nw e48 hH
      refine lv_aload_n hx hb d_Mod_order_188 rfl (lv_at hl 0 rfl) ?_
      obtain ⟨a49, e50, hf⟩ := x_b hf
      refine x_get (C := "WallDampModel") (F := F_Mod) (N := 51) hx hb hts i_Mod hown hK hH hT3 (by decide) rfl 9 (by decide) (hts _ m_802) (fun _ h9 => h9) (kd := (2, 73)) rfl (x_fr e50) d_Mod_order_189 ?_
      refine lv_iload hx hb d_Mod_order_192 (lv_at hl 3 rfl) ?_
      refine lv_aload_n hx hb d_Mod_order_194 rfl (lv_at hl 0 rfl) ?_
      obtain ⟨a51, e52, hf⟩ := x_b hf
      refine x_get (C := "WallDampModel") (F := F_Mod) (N := 51) hx hb hts i_Mod hown hK hH hT3 (by decide) rfl 45 (by decide) (hts _ m_838) (fun _ h9 => h9) (kd := (2, 109)) rfl (x_fr e52) d_Mod_order_195 ?_
      refine lv_iload hx hb d_Mod_order_198 (lv_at hl 3 rfl) ?_
      obtain ⟨_, e53, hf⟩ := x_b hf
      obtain ⟨n54, hT55, hi56⟩ := x_ix_e e53
      refine x_iald hx hb hK hH hT55 0 rfl hi56 d_Mod_order_200 ?_
      obtain ⟨_, e57, hf⟩ := x_b hf
      obtain ⟨n58, hT59, hi60⟩ := x_ix_e e57
      refine x_iast hx hb hK hH hS hT59 0 rfl hi60 d_Mod_order_201 (fun H locs hH hS => ?_)
      obtain ⟨w61, e62, hf⟩ := x_b hf
      have hH := x_nw e62 hH
      refine lv_aload_n hx hb d_Mod_order_202 rfl (lv_at hl 0 rfl) ?_
      obtain ⟨a63, e64, hf⟩ := x_b hf
      refine x_get (C := "WallDampModel") (F := F_Mod) (N := 51) hx hb hts i_Mod hown hK hH hT3 (by decide) rfl 11 (by decide) (hts _ m_804) (fun _ h9 => h9) (kd := (2, 75)) rfl (x_fr e64) d_Mod_order_203 ?_
      refine lv_iload hx hb d_Mod_order_206 (lv_at hl 3 rfl) ?_
      refine lv_aload_n hx hb d_Mod_order_208 rfl (lv_at hl 0 rfl) ?_
      obtain ⟨a65, e66, hf⟩ := x_b hf
      refine x_get (C := "WallDampModel") (F := F_Mod) (N := 51) hx hb hts i_Mod hown hK hH hT3 (by decide) rfl 46 (by decide) (hts _ m_839) (fun _ h9 => h9) (kd := (2, 110)) rfl (x_fr e66) d_Mod_order_209 ?_
      refine lv_iload hx hb d_Mod_order_212 (lv_at hl 3 rfl) ?_
      obtain ⟨_, e67, hf⟩ := x_b hf
      obtain ⟨n68, hT69, hi70⟩ := x_ix_e e67
      refine x_iald hx hb hK hH hT69 0 rfl hi70 d_Mod_order_214 ?_
      obtain ⟨_, e71, hf⟩ := x_b hf
      obtain ⟨n72, hT73, hi74⟩ := x_ix_e e71
      refine x_iast hx hb hK hH hS hT73 0 rfl hi74 d_Mod_order_215 (fun H locs hH hS => ?_)
      obtain ⟨w75, e76, hf⟩ := x_b hf
      have hH := x_nw e76 hH
      refine lv_aload_n hx hb d_Mod_order_216 rfl (lv_at hl 0 rfl) ?_
      obtain ⟨a77, e78, hf⟩ := x_b hf
      refine x_get (C := "WallDampModel") (F := F_Mod) (N := 51) hx hb hts i_Mod hown hK hH hT3 (by decide) rfl 10 (by decide) (hts _ m_803) (fun _ h9 => h9) (kd := (2, 74)) rfl (x_fr e78) d_Mod_order_217 ?_
      refine lv_iload hx hb d_Mod_order_220 (lv_at hl 3 rfl) ?_
      refine lv_aload_n hx hb d_Mod_order_222 rfl (lv_at hl 2 rfl) ?_
      refine lv_iload hx hb d_Mod_order_223 (lv_at hl 3 rfl) ?_
      obtain ⟨_, e79, hf⟩ := x_b hf
      obtain ⟨n80, hT81, hi82⟩ := x_ix_e e79
      refine x_lald hx hb hK hH hT81 1 rfl hi82 d_Mod_order_225 ?_
      obtain ⟨_, e83, hf⟩ := x_b hf
      obtain ⟨n84, hT85, hi86⟩ := x_ix_e e83
      refine x_last hx hb hK hH hS hT85 1 rfl hi86 d_Mod_order_226 (fun H locs hH hS => ?_)
      obtain ⟨w87, e88, hf⟩ := x_b hf
      have hH := x_nw e88 hH
      refine lv_aload_n hx hb d_Mod_order_227 rfl (lv_at hl 0 rfl) ?_
      obtain ⟨a89, e90, hf⟩ := x_b hf
      refine x_get (C := "WallDampModel") (F := F_Mod) (N := 51) hx hb hts i_Mod hown hK hH hT3 (by decide) rfl 12 (by decide) (hts _ m_805) (fun _ h9 => h9) (kd := (2, 76)) rfl (x_fr e90) d_Mod_order_228 ?_
      refine lv_iload hx hb d_Mod_order_231 (lv_at hl 3 rfl) ?_
      refine lv_aload_n hx hb d_Mod_order_233 rfl (lv_at hl 2 rfl) ?_
      refine lv_iconst (v := 5) hx hb d_Mod_order_234 (by decide) ?_
      refine lv_iload hx hb d_Mod_order_235 (lv_at hl 3 rfl) ?_
      refine lv_iadd hx hb d_Mod_order_237 ?_
      obtain ⟨_, e91, hf⟩ := x_b hf
      obtain ⟨n92, hT93, hi94⟩ := x_ix_e e91
      refine x_lald hx hb hK hH hT93 1 rfl hi94 d_Mod_order_238 ?_
      refine lv_l2i (v := (x_B w87 l3 ((5 : Int32) + l7).toNatClampNeg).toInt32) hx hb d_Mod_order_239 rfl ?_
      obtain ⟨_, e95, hf⟩ := x_b hf
      obtain ⟨n96, hT97, hi98⟩ := x_ix_e e95
      refine x_iast hx hb hK hH hS hT97 0 rfl hi98 d_Mod_order_240 (fun H locs hH hS => ?_)
      obtain ⟨w99, e100, hf⟩ := x_b hf
      have hH := x_nw e100 hH
      refine lv_iinc (v := (l7 + 1)) (lv' := [(7, .int (l7 + 1)), (0, .ref (ad l0)), (2, .int l2), (3, .ref (ad l3))]) hx hb d_Mod_order_241 hl (k := 3) rfl rfl (by decide) rfl (fun ls hl => ?_)
      refine lv_goto (tgt := 165) hx hb d_Mod_order_244 (by decide) ?_
      exact ih w99 _ _ _ l0 l2 l3 (l7 + 1) hf hH hS (lv_sub hl [1, 2, 3, 0] rfl)
set_option maxHeartbeats 4000000 in
set_option maxRecDepth 100000 in
theorem k_Mod_order_153 {p : Program} {l : Launch} {e : Env} {s : State} {m : MethodId} {args : Array Value} {below : List Frame} {meth : Method} {c : Code} {D : va_G} {aC : Nat → ClassId} {ad : Nat → Nat} {T : x_T} {nx : Nat} {A : Nat → Prop} {q : Int32 × x_W} (C0 : x_At p s m meth c args "WallDampModel" b_Mod_order (some (.int)) 10 D aC A) {K90 : x_W → Nat → Int32 → Int32 → Nat → Int64 → Int32 → Option (Int32 × x_W)} (hK90 : ∀ (w : x_W) (H : Heap) (locs : List Loc) (ls : Array Slot) (l0 : Nat) (l1 : Int32) (l2 : Int32) (l3 : Nat) (l4 : Int64) (l6 : Int32), K90 w l0 l1 l2 l3 l4 l6 = some q → x_H D x_cl x_FT aC ad T nx A w H → va_S A s.heap H locs → lv_has ls 10 [(0, .ref (ad l0)), (1, .int l1), (2, .int l2), (3, .ref (ad l3)), (4, .long l4), (6, .int l6)] → W p l e { frames := 5, cells := 0, slots := 0, locals := 114 } s m args below meth c H locs 0 0 (MQ below (x_Qc D aC ad T nx (some (.int q.1)) q.2 A) args s 0 0 A) (F0 m 90 ls [])) : ∀ (w : x_W) (H : Heap) (locs : List Loc) (ls : Array Slot) (l0 : Nat) (l1 : Int32) (l2 : Int32) (l3 : Nat) (l4 : Int64), f_Mod_order_153 T K90 w l0 l1 l2 l3 l4 = some q → x_H D x_cl x_FT aC ad T nx A w H → va_S A s.heap H locs → lv_has ls 10 [(0, .ref (ad l0)), (1, .int l1), (2, .int l2), (3, .ref (ad l3)), (4, .long l4)] → W p l e { frames := 5, cells := 0, slots := 0, locals := 114 } s m args below meth c H locs 0 0 (MQ below (x_Qc D aC ad T nx (some (.int q.1)) q.2 A) args s 0 0 A) (F0 m 153 ls []) := by
  obtain ⟨hx, hb, hr, hml, hown, hts, hlocks, hK, hA, hX⟩ := id C0
  intro w H locs ls l0 l1 l2 l3 l4 hf hH hS hl
  unfold f_Mod_order_153 at hf
  refine lv_aload_n hx hb d_Mod_order_153 rfl (lv_at hl 0 rfl) ?_
  obtain ⟨_, e3, hf⟩ := x_b hf
  obtain ⟨n4, hT5⟩ := x_is_e e3
  obtain ⟨q1, e2, hf⟩ := x_b hf
  refine x_call (st1 := [.int q1.1]) (x_runV (As := []) (rest := []) ⟨hx, hb, hml, hown, hts⟩ (c_Mod_next l D aC ad T nx H.size w l0 q1 e2) (cwV 0 hts (x_gV m_1100 m_1102 ms_30 m_13 m_1103) rfl rfl rfl ⟨rfl, pd_Mod_next⟩ ⟨Nat.le_of_ble_eq_true rfl, Nat.le_of_ble_eq_true rfl⟩) hH hK hX hT5 (by decide) rfl rfl rfl hl.1 rfl (lv_room (Nat.le_of_ble_eq_true rfl)) d_Mod_order_154 ⟨Nat.zero_le _, Nat.zero_le _⟩) rfl hH hA hS (fun H locs hH hS => ?_)
  refine lv_istore (lv' := [(6, .int q1.1), (0, .ref (ad l0)), (1, .int l1), (2, .int l2), (3, .ref (ad l3)), (4, .long l4)]) hx hb d_Mod_order_157 hl (by decide) rfl (fun ls hl => ?_)
  refine lv_goto (tgt := 90) hx hb d_Mod_order_159 (by decide) ?_
  exact hK90 q1.2 _ _ _ l0 l1 l2 l3 l4 q1.1 hf hH hS (lv_sub hl [1, 2, 3, 4, 5, 0] rfl)
set_option maxHeartbeats 4000000 in
set_option maxRecDepth 100000 in
theorem k_Mod_order_124 {p : Program} {l : Launch} {e : Env} {s : State} {m : MethodId} {args : Array Value} {below : List Frame} {meth : Method} {c : Code} {D : va_G} {aC : Nat → ClassId} {ad : Nat → Nat} {T : x_T} {nx : Nat} {A : Nat → Prop} {q : Int32 × x_W} (C0 : x_At p s m meth c args "WallDampModel" b_Mod_order (some (.int)) 10 D aC A) {K90 : x_W → Nat → Int32 → Int32 → Nat → Int64 → Int32 → Option (Int32 × x_W)} (hK90 : ∀ (w : x_W) (H : Heap) (locs : List Loc) (ls : Array Slot) (l0 : Nat) (l1 : Int32) (l2 : Int32) (l3 : Nat) (l4 : Int64) (l6 : Int32), K90 w l0 l1 l2 l3 l4 l6 = some q → x_H D x_cl x_FT aC ad T nx A w H → va_S A s.heap H locs → lv_has ls 10 [(0, .ref (ad l0)), (1, .int l1), (2, .int l2), (3, .ref (ad l3)), (4, .long l4), (6, .int l6)] → W p l e { frames := 5, cells := 0, slots := 0, locals := 114 } s m args below meth c H locs 0 0 (MQ below (x_Qc D aC ad T nx (some (.int q.1)) q.2 A) args s 0 0 A) (F0 m 90 ls [])) : ∀ (n : Nat), ∀ (w : x_W) (H : Heap) (locs : List Loc) (ls : Array Slot) (l0 : Nat) (l1 : Int32) (l2 : Int32) (l3 : Nat) (l4 : Int64) (l9 : Int32), f_Mod_order_124 T K90 n w l0 l1 l2 l3 l4 l9 = some q → x_H D x_cl x_FT aC ad T nx A w H → va_S A s.heap H locs → lv_has ls 10 [(0, .ref (ad l0)), (1, .int l1), (2, .int l2), (3, .ref (ad l3)), (4, .long l4), (9, .int l9)] → W p l e { frames := 5, cells := 0, slots := 0, locals := 114 } s m args below meth c H locs 0 0 (MQ below (x_Qc D aC ad T nx (some (.int q.1)) q.2 A) args s 0 0 A) (F0 m 124 ls []) := by
  obtain ⟨hx, hb, hr, hml, hown, hts, hlocks, hK, hA, hX⟩ := id C0
  intro n
  induction n with
  | zero => intro w H locs ls l0 l1 l2 l3 l4 l9 hf; cases (show none = some q from hf)
  | succ n ih =>
    intro w H locs ls l0 l1 l2 l3 l4 l9 hf hH hS hl
    unfold f_Mod_order_124 at hf
    refine lv_iload hx hb d_Mod_order_124 (lv_at hl 5 rfl) ?_
    refine lv_aload_n hx hb d_Mod_order_126 rfl (lv_at hl 0 rfl) ?_
    obtain ⟨_, e1, hf⟩ := x_b hf
    obtain ⟨n2, hT3⟩ := x_is_e e1
    refine x_get (C := "WallDampModel") (F := F_Mod) (N := 51) hx hb hts i_Mod hown hK hH hT3 (by decide) rfl 1 (by decide) (hts _ m_794) (fun _ h9 => h9) (kd := (0, 65)) rfl rfl d_Mod_order_127 ?_
    refine lv_icmp_ge (tgt := 153) hx hb d_Mod_order_130 (by decide) (fun c4 => ?_) (fun c4 => ?_)
    · have hf := x_it hf c4
      exact k_Mod_order_153 C0 hK90 w _ _ _ l0 l1 l2 l3 l4 hf hH hS (lv_sub hl [0, 1, 2, 3, 4] rfl)
    · have hf := x_if hf c4
      refine lv_aload_n hx hb d_Mod_order_133 rfl (lv_at hl 0 rfl) ?_
      obtain ⟨a5, e6, hf⟩ := x_b hf
      refine x_get (C := "WallDampModel") (F := F_Mod) (N := 51) hx hb hts i_Mod hown hK hH hT3 (by decide) rfl 48 (by decide) (hts _ m_841) (fun _ h9 => h9) (kd := (2, 112)) rfl (x_fr e6) d_Mod_order_134 ?_
      refine lv_iload hx hb d_Mod_order_137 (lv_at hl 5 rfl) ?_
      refine lv_aload_n hx hb d_Mod_order_139 rfl (lv_at hl 0 rfl) ?_
      obtain ⟨a7, e8, hf⟩ := x_b hf
      refine x_get (C := "WallDampModel") (F := F_Mod) (N := 51) hx hb hts i_Mod hown hK hH hT3 (by decide) rfl 47 (by decide) (hts _ m_840) (fun _ h9 => h9) (kd := (2, 111)) rfl (x_fr e8) d_Mod_order_140 ?_
      refine lv_iload hx hb d_Mod_order_143 (lv_at hl 5 rfl) ?_
      obtain ⟨_, e9, hf⟩ := x_b hf
      obtain ⟨n10, hT11, hi12⟩ := x_ix_e e9
      refine x_iald hx hb hK hH hT11 0 rfl hi12 d_Mod_order_145 ?_
      obtain ⟨_, e13, hf⟩ := x_b hf
      obtain ⟨n14, hT15, hi16⟩ := x_ix_e e13
      refine x_iast hx hb hK hH hS hT15 0 rfl hi16 d_Mod_order_146 (fun H locs hH hS => ?_)
      obtain ⟨w17, e18, hf⟩ := x_b hf
      have hH := x_nw e18 hH
      refine lv_iinc (v := (l9 + 1)) (lv' := [(9, .int (l9 + 1)), (0, .ref (ad l0)), (1, .int l1), (2, .int l2), (3, .ref (ad l3)), (4, .long l4)]) hx hb d_Mod_order_147 hl (k := 5) rfl rfl (by decide) rfl (fun ls hl => ?_)
      refine lv_goto (tgt := 124) hx hb d_Mod_order_150 (by decide) ?_
      exact ih w17 _ _ _ l0 l1 l2 l3 l4 (l9 + 1) hf hH hS (lv_sub hl [1, 2, 3, 4, 5, 0] rfl)
set_option maxHeartbeats 4000000 in
set_option maxRecDepth 100000 in
theorem k_Mod_order_117 {p : Program} {l : Launch} {e : Env} {s : State} {m : MethodId} {args : Array Value} {below : List Frame} {meth : Method} {c : Code} {D : va_G} {aC : Nat → ClassId} {ad : Nat → Nat} {T : x_T} {nx : Nat} {A : Nat → Prop} {q : Int32 × x_W} (C0 : x_At p s m meth c args "WallDampModel" b_Mod_order (some (.int)) 10 D aC A) {K90 : x_W → Nat → Int32 → Int32 → Nat → Int64 → Int32 → Option (Int32 × x_W)} (hK90 : ∀ (w : x_W) (H : Heap) (locs : List Loc) (ls : Array Slot) (l0 : Nat) (l1 : Int32) (l2 : Int32) (l3 : Nat) (l4 : Int64) (l6 : Int32), K90 w l0 l1 l2 l3 l4 l6 = some q → x_H D x_cl x_FT aC ad T nx A w H → va_S A s.heap H locs → lv_has ls 10 [(0, .ref (ad l0)), (1, .int l1), (2, .int l2), (3, .ref (ad l3)), (4, .long l4), (6, .int l6)] → W p l e { frames := 5, cells := 0, slots := 0, locals := 114 } s m args below meth c H locs 0 0 (MQ below (x_Qc D aC ad T nx (some (.int q.1)) q.2 A) args s 0 0 A) (F0 m 90 ls [])) : ∀ (w : x_W) (H : Heap) (locs : List Loc) (ls : Array Slot) (l0 : Nat) (l1 : Int32) (l2 : Int32) (l3 : Nat) (l7 : Int64), f_Mod_order_117 T K90 w l0 l1 l2 l3 l7 = some q → x_H D x_cl x_FT aC ad T nx A w H → va_S A s.heap H locs → lv_has ls 10 [(0, .ref (ad l0)), (1, .int l1), (2, .int l2), (3, .ref (ad l3)), (7, .long l7)] → W p l e { frames := 5, cells := 0, slots := 0, locals := 114 } s m args below meth c H locs 0 0 (MQ below (x_Qc D aC ad T nx (some (.int q.1)) q.2 A) args s 0 0 A) (F0 m 117 ls []) := by
  obtain ⟨hx, hb, hr, hml, hown, hts, hlocks, hK, hA, hX⟩ := id C0
  intro w H locs ls l0 l1 l2 l3 l7 hf hH hS hl
  unfold f_Mod_order_117 at hf
  refine lv_lload hx hb d_Mod_order_117 (lv_at hl 4 rfl) ?_
  refine lv_lstore (lv' := [(4, .long l7), (0, .ref (ad l0)), (1, .int l1), (2, .int l2), (3, .ref (ad l3)), (7, .long l7)]) hx hb d_Mod_order_119 hl (by decide) rfl (fun ls hl => ?_)
  refine lv_iconst (v := 0) hx hb d_Mod_order_121 (by decide) ?_
  refine lv_istore (lv' := [(9, .int (0 : Int32)), (4, .long l7), (0, .ref (ad l0)), (1, .int l1), (2, .int l2), (3, .ref (ad l3)), (7, .long l7)]) hx hb d_Mod_order_122 hl (by decide) rfl (fun ls hl => ?_)
  exact k_Mod_order_124 C0 hK90 1000 w _ _ _ l0 l1 l2 l3 l7 (0 : Int32) hf hH hS (lv_sub hl [2, 3, 4, 5, 1, 0] rfl)
set_option maxHeartbeats 4000000 in
set_option maxRecDepth 100000 in
theorem k_Mod_order_90 {p : Program} {l : Launch} {e : Env} {s : State} {m : MethodId} {args : Array Value} {below : List Frame} {meth : Method} {c : Code} {D : va_G} {aC : Nat → ClassId} {ad : Nat → Nat} {T : x_T} {nx : Nat} {A : Nat → Prop} {q : Int32 × x_W} (C0 : x_At p s m meth c args "WallDampModel" b_Mod_order (some (.int)) 10 D aC A) : ∀ (n : Nat), ∀ (w : x_W) (H : Heap) (locs : List Loc) (ls : Array Slot) (l0 : Nat) (l1 : Int32) (l2 : Int32) (l3 : Nat) (l4 : Int64) (l6 : Int32), f_Mod_order_90 T n w l0 l1 l2 l3 l4 l6 = some q → x_H D x_cl x_FT aC ad T nx A w H → va_S A s.heap H locs → lv_has ls 10 [(0, .ref (ad l0)), (1, .int l1), (2, .int l2), (3, .ref (ad l3)), (4, .long l4), (6, .int l6)] → W p l e { frames := 5, cells := 0, slots := 0, locals := 114 } s m args below meth c H locs 0 0 (MQ below (x_Qc D aC ad T nx (some (.int q.1)) q.2 A) args s 0 0 A) (F0 m 90 ls []) := by
  obtain ⟨hx, hb, hr, hml, hown, hts, hlocks, hK, hA, hX⟩ := id C0
  intro n
  induction n with
  | zero => intro w H locs ls l0 l1 l2 l3 l4 l6 hf; cases (show none = some q from hf)
  | succ n ih =>
    intro w H locs ls l0 l1 l2 l3 l4 l6 hf hH hS hl
    unfold f_Mod_order_90 at hf
    refine lv_iload hx hb d_Mod_order_90 (lv_at hl 5 rfl) ?_
    refine lv_if_eq (tgt := 162) hx hb d_Mod_order_92 (by decide) (fun c1 => ?_) (fun c1 => ?_)
    · have hf := x_it hf c1
      refine lv_iconst (v := 0) hx hb d_Mod_order_162 (by decide) ?_
      refine lv_istore (lv' := [(7, .int (0 : Int32)), (0, .ref (ad l0)), (1, .int l1), (2, .int l2), (3, .ref (ad l3)), (4, .long l4), (6, .int l6)]) hx hb d_Mod_order_163 hl (by decide) rfl (fun ls hl => ?_)
      exact k_Mod_order_165 C0 1000 w _ _ _ l0 l2 l3 (0 : Int32) hf hH hS (lv_sub hl [1, 3, 4, 0] rfl)
    · have hf := x_if hf c1
      refine lv_aload_n hx hb d_Mod_order_95 rfl (lv_at hl 0 rfl) ?_
      refine lv_iload_n hx hb d_Mod_order_96 rfl (lv_at hl 1 rfl) ?_
      obtain ⟨_, e4, hf⟩ := x_b hf
      obtain ⟨n5, hT6⟩ := x_is_e e4
      obtain ⟨q2, e3, hf⟩ := x_b hf
      refine x_call (st1 := [.long q2.1]) (x_runV (As := [.int l1]) (rest := []) ⟨hx, hb, hml, hown, hts⟩ (c_Mod_dry l D aC ad T nx H.size w l0 l1 q2 e3) (cwV 1 hts (x_gV m_1096 m_1098 ms_29 m_13 m_1099) rfl rfl rfl ⟨rfl, pd_Mod_dry⟩ ⟨Nat.le_of_ble_eq_true rfl, Nat.le_of_ble_eq_true rfl⟩) hH hK hX hT6 (by decide) rfl rfl rfl hl.1 rfl (lv_room (Nat.le_of_ble_eq_true rfl)) d_Mod_order_97 ⟨Nat.zero_le _, Nat.zero_le _⟩) rfl hH hA hS (fun H locs hH hS => ?_)
      refine lv_lstore (lv' := [(7, .long q2.1), (0, .ref (ad l0)), (1, .int l1), (2, .int l2), (3, .ref (ad l3)), (4, .long l4), (6, .int l6)]) hx hb d_Mod_order_100 hl (by decide) rfl (fun ls hl => ?_)
      refine lv_lload hx hb d_Mod_order_102 (lv_at hl 5 rfl) ?_
      refine lv_lconst (v := 0) hx hb d_Mod_order_104 (by decide) ?_
      refine W.lcmp hx hb d_Mod_order_105 ?_
      refine lv_if_lt (tgt := 117) hx hb d_Mod_order_106 (by decide) (fun c7 => ?_) (fun c7 => ?_)
      · have hf := x_it hf c7
        exact k_Mod_order_117 C0 ih q2.2 _ _ _ l0 l1 l2 l3 q2.1 hf hH hS (lv_sub hl [1, 2, 3, 4, 0] rfl)
      · have hf := x_if hf c7
        refine lv_lload hx hb d_Mod_order_109 (lv_at hl 0 rfl) ?_
        refine lv_lload hx hb d_Mod_order_111 (lv_at hl 5 rfl) ?_
        refine W.lcmp hx hb d_Mod_order_113 ?_
        refine lv_if_ge (tgt := 153) hx hb d_Mod_order_114 (by decide) (fun c8 => ?_) (fun c8 => ?_)
        · have hf := x_it hf c8
          exact k_Mod_order_153 C0 ih q2.2 _ _ _ l0 l1 l2 l3 l4 hf hH hS (lv_sub hl [1, 2, 3, 4, 5] rfl)
        · have hf := x_if hf c8
          exact k_Mod_order_117 C0 ih q2.2 _ _ _ l0 l1 l2 l3 q2.1 hf hH hS (lv_sub hl [1, 2, 3, 4, 0] rfl)
set_option maxHeartbeats 4000000 in
set_option maxRecDepth 100000 in
theorem k_Mod_order_63 {p : Program} {l : Launch} {e : Env} {s : State} {m : MethodId} {args : Array Value} {below : List Frame} {meth : Method} {c : Code} {D : va_G} {aC : Nat → ClassId} {ad : Nat → Nat} {T : x_T} {nx : Nat} {A : Nat → Prop} {q : Int32 × x_W} (C0 : x_At p s m meth c args "WallDampModel" b_Mod_order (some (.int)) 10 D aC A) : ∀ (n : Nat), ∀ (w : x_W) (H : Heap) (locs : List Loc) (ls : Array Slot) (l0 : Nat) (l1 : Int32) (l2 : Int32) (l3 : Nat) (l4 : Int64) (l6 : Int32), f_Mod_order_63 T n w l0 l1 l2 l3 l4 l6 = some q → x_H D x_cl x_FT aC ad T nx A w H → va_S A s.heap H locs → lv_has ls 10 [(0, .ref (ad l0)), (1, .int l1), (2, .int l2), (3, .ref (ad l3)), (4, .long l4), (6, .int l6)] → W p l e { frames := 5, cells := 0, slots := 0, locals := 114 } s m args below meth c H locs 0 0 (MQ below (x_Qc D aC ad T nx (some (.int q.1)) q.2 A) args s 0 0 A) (F0 m 63 ls []) := by
  obtain ⟨hx, hb, hr, hml, hown, hts, hlocks, hK, hA, hX⟩ := id C0
  intro n
  induction n with
  | zero => intro w H locs ls l0 l1 l2 l3 l4 l6 hf; cases (show none = some q from hf)
  | succ n ih =>
    intro w H locs ls l0 l1 l2 l3 l4 l6 hf hH hS hl
    unfold f_Mod_order_63 at hf
    refine lv_iload hx hb d_Mod_order_63 (lv_at hl 5 rfl) ?_
    refine lv_aload_n hx hb d_Mod_order_65 rfl (lv_at hl 0 rfl) ?_
    obtain ⟨_, e1, hf⟩ := x_b hf
    obtain ⟨n2, hT3⟩ := x_is_e e1
    refine x_get (C := "WallDampModel") (F := F_Mod) (N := 51) hx hb hts i_Mod hown hK hH hT3 (by decide) rfl 1 (by decide) (hts _ m_794) (fun _ h9 => h9) (kd := (0, 65)) rfl rfl d_Mod_order_66 ?_
    refine lv_icmp_ge (tgt := 87) hx hb d_Mod_order_69 (by decide) (fun c4 => ?_) (fun c4 => ?_)
    · have hf := x_it hf c4
      refine lv_iconst (v := 1) hx hb d_Mod_order_87 (by decide) ?_
      refine lv_istore (lv' := [(6, .int (1 : Int32)), (0, .ref (ad l0)), (1, .int l1), (2, .int l2), (3, .ref (ad l3)), (4, .long l4)]) hx hb d_Mod_order_88 hl (by decide) rfl (fun ls hl => ?_)
      exact k_Mod_order_90 C0 1000 w _ _ _ l0 l1 l2 l3 l4 (1 : Int32) hf hH hS (lv_sub hl [1, 2, 3, 4, 5, 0] rfl)
    · have hf := x_if hf c4
      refine lv_aload_n hx hb d_Mod_order_72 rfl (lv_at hl 0 rfl) ?_
      obtain ⟨a5, e6, hf⟩ := x_b hf
      refine x_get (C := "WallDampModel") (F := F_Mod) (N := 51) hx hb hts i_Mod hown hK hH hT3 (by decide) rfl 47 (by decide) (hts _ m_840) (fun _ h9 => h9) (kd := (2, 111)) rfl (x_fr e6) d_Mod_order_73 ?_
      refine lv_iload hx hb d_Mod_order_76 (lv_at hl 5 rfl) ?_
      refine lv_iload hx hb d_Mod_order_78 (lv_at hl 5 rfl) ?_
      obtain ⟨_, e7, hf⟩ := x_b hf
      obtain ⟨n8, hT9, hi10⟩ := x_ix_e e7
      refine x_iast hx hb hK hH hS hT9 0 rfl hi10 d_Mod_order_80 (fun H locs hH hS => ?_)
      obtain ⟨w11, e12, hf⟩ := x_b hf
      have hH := x_nw e12 hH
      refine lv_iinc (v := (l6 + 1)) (lv' := [(6, .int (l6 + 1)), (0, .ref (ad l0)), (1, .int l1), (2, .int l2), (3, .ref (ad l3)), (4, .long l4)]) hx hb d_Mod_order_81 hl (k := 5) rfl rfl (by decide) rfl (fun ls hl => ?_)
      refine lv_goto (tgt := 63) hx hb d_Mod_order_84 (by decide) ?_
      exact ih w11 _ _ _ l0 l1 l2 l3 l4 (l6 + 1) hf hH hS (lv_sub hl [1, 2, 3, 4, 5, 0] rfl)
set_option maxHeartbeats 4000000 in
set_option maxRecDepth 100000 in
theorem k_Mod_order_38 {p : Program} {l : Launch} {e : Env} {s : State} {m : MethodId} {args : Array Value} {below : List Frame} {meth : Method} {c : Code} {D : va_G} {aC : Nat → ClassId} {ad : Nat → Nat} {T : x_T} {nx : Nat} {A : Nat → Prop} {q : Int32 × x_W} (C0 : x_At p s m meth c args "WallDampModel" b_Mod_order (some (.int)) 10 D aC A) : ∀ (w : x_W) (H : Heap) (locs : List Loc) (ls : Array Slot) (l0 : Nat) (l1 : Int32) (l2 : Int32) (t0 : Nat) (t1 : Int32), f_Mod_order_38 T w l0 l1 l2 t0 t1 = some q → x_H D x_cl x_FT aC ad T nx A w H → va_S A s.heap H locs → lv_has ls 10 [(0, .ref (ad l0)), (1, .int l1), (2, .int l2)] → W p l e { frames := 5, cells := 0, slots := 0, locals := 114 } s m args below meth c H locs 0 0 (MQ below (x_Qc D aC ad T nx (some (.int q.1)) q.2 A) args s 0 0 A) (F0 m 38 ls [.int t1, .ref (ad t0)]) := by
  obtain ⟨hx, hb, hr, hml, hown, hts, hlocks, hK, hA, hX⟩ := id C0
  intro w H locs ls l0 l1 l2 t0 t1 hf hH hS hl
  unfold f_Mod_order_38 at hf
  obtain ⟨_, e1, hf⟩ := x_b hf
  obtain ⟨n2, hT3⟩ := x_is_e e1
  refine x_put (C := "WallDampModel") (F := F_Mod) (N := 51) (ty := t_Mod 0) (v := .int t1) (w' := x_sI w 64 t0 t1) hx hb hts i_Mod t_Mod ty_Mod n_Mod hown hK hH hS hT3 (by decide) rfl rfl 0 (by decide) (hts _ m_793) (fun _ h9 => h9) rfl (ty_Mod 0 (by decide)) rfl rfl (x_on_I hT3 (by decide) rfl nd_Mod) (fun j hj => x_off_I hj) (fun hh ok => x_ok_I hh ok) d_Mod_order_38 (fun H locs hH hS => ?_)
  obtain ⟨w4, e5, hf⟩ := x_b hf
  have hH := x_nw e5 hH
  refine lv_aload_n hx hb d_Mod_order_41 rfl (lv_at hl 0 rfl) ?_
  obtain ⟨_, e6, hf⟩ := x_b hf
  obtain ⟨n7, hT8⟩ := x_is_e e6
  refine x_get (C := "WallDampModel") (F := F_Mod) (N := 51) hx hb hts i_Mod hown hK hH hT8 (by decide) rfl 0 (by decide) (hts _ m_793) (fun _ h9 => h9) (kd := (0, 64)) rfl rfl d_Mod_order_42 ?_
  refine lv_if_le (tgt := 50) hx hb d_Mod_order_45 (by decide) (fun c9 => ?_) (fun c9 => ?_)
  · have hf := x_it hf c9
    refine lv_aload_n hx hb d_Mod_order_50 rfl (lv_at hl 0 rfl) ?_
    obtain ⟨q10, e11, hf⟩ := x_b hf
    refine x_call (st1 := [.ref (ad q10.1)]) (x_runV (As := []) (rest := []) ⟨hx, hb, hml, hown, hts⟩ (c_Mod_keep l D aC ad T nx H.size w4 l0 q10 e11) (cwV 0 hts (x_gV m_1091 m_1093 ms_28 m_13 m_1094) rfl rfl rfl ⟨rfl, pd_Mod_keep⟩ ⟨Nat.le_of_ble_eq_true rfl, Nat.le_of_ble_eq_true rfl⟩) hH hK hX hT8 (by decide) rfl rfl rfl hl.1 rfl (lv_room (Nat.le_of_ble_eq_true rfl)) d_Mod_order_51 ⟨Nat.zero_le _, Nat.zero_le _⟩) rfl hH hA hS (fun H locs hH hS => ?_)
    refine lv_astore_n (lv' := [(3, .ref (ad q10.1)), (0, .ref (ad l0)), (1, .int l1), (2, .int l2)]) hx hb d_Mod_order_54 rfl hl (by decide) rfl (fun ls hl => ?_)
    refine lv_ldc2 (v := (-1 : Int64)) hx hb hown (hts _ m_1095) d_Mod_order_55 ?_
    refine lv_lstore (lv' := [(4, .long (-1 : Int64)), (3, .ref (ad q10.1)), (0, .ref (ad l0)), (1, .int l1), (2, .int l2)]) hx hb d_Mod_order_58 hl (by decide) rfl (fun ls hl => ?_)
    refine lv_iconst (v := 0) hx hb d_Mod_order_60 (by decide) ?_
    refine lv_istore (lv' := [(6, .int (0 : Int32)), (4, .long (-1 : Int64)), (3, .ref (ad q10.1)), (0, .ref (ad l0)), (1, .int l1), (2, .int l2)]) hx hb d_Mod_order_61 hl (by decide) rfl (fun ls hl => ?_)
    exact k_Mod_order_63 C0 1000 q10.2 _ _ _ l0 l1 l2 q10.1 (-1 : Int64) (0 : Int32) hf hH hS (lv_sub hl [3, 4, 5, 2, 1, 0] rfl)
  · have hf := x_if hf c9
    refine lv_iconst (v := 0) hx hb d_Mod_order_48 (by decide) ?_
    cases hf
    refine x_sz0 hS (fun hz => ?_)
    exact W.iret hx hb hr (fun t ht hW => ⟨rfl, hS.F ht, by rw [ht]; exact hz, by rw [ht]; exact hH.weaken (fun _ _ _ => trivial)⟩) hS.2.2 d_Mod_order_49
set_option maxHeartbeats 4000000 in
set_option maxRecDepth 100000 in
theorem k_Mod_order_21 {p : Program} {l : Launch} {e : Env} {s : State} {m : MethodId} {args : Array Value} {below : List Frame} {meth : Method} {c : Code} {D : va_G} {aC : Nat → ClassId} {ad : Nat → Nat} {T : x_T} {nx : Nat} {A : Nat → Prop} {q : Int32 × x_W} (C0 : x_At p s m meth c args "WallDampModel" b_Mod_order (some (.int)) 10 D aC A) : ∀ (w : x_W) (H : Heap) (locs : List Loc) (ls : Array Slot) (l0 : Nat) (l1 : Int32) (l2 : Int32) (t0 : Nat), f_Mod_order_21 T w l0 l1 l2 t0 = some q → x_H D x_cl x_FT aC ad T nx A w H → va_S A s.heap H locs → lv_has ls 10 [(0, .ref (ad l0)), (1, .int l1), (2, .int l2)] → W p l e { frames := 5, cells := 0, slots := 0, locals := 114 } s m args below meth c H locs 0 0 (MQ below (x_Qc D aC ad T nx (some (.int q.1)) q.2 A) args s 0 0 A) (F0 m 21 ls [.ref (ad t0)]) := by
  obtain ⟨hx, hb, hr, hml, hown, hts, hlocks, hK, hA, hX⟩ := id C0
  intro w H locs ls l0 l1 l2 t0 hf hH hS hl
  unfold f_Mod_order_21 at hf
  refine lv_iconst (v := 1) hx hb d_Mod_order_21 (by decide) ?_
  refine lv_goto (tgt := 38) hx hb d_Mod_order_22 (by decide) ?_
  exact k_Mod_order_38 C0 w _ _ _ l0 l1 l2 t0 (1 : Int32) hf hH hS (lv_sub hl [0, 1, 2] rfl)
set_option maxHeartbeats 4000000 in
set_option maxRecDepth 100000 in
theorem k_Mod_order {p : Program} {l : Launch} {e : Env} {s : State} {m : MethodId} {args : Array Value} {below : List Frame} {meth : Method} {c : Code} {D : va_G} {aC : Nat → ClassId} {ad : Nat → Nat} {T : x_T} {nx : Nat} {A : Nat → Prop} {q : Int32 × x_W} (C0 : x_At p s m meth c args "WallDampModel" b_Mod_order (some (.int)) 10 D aC A) : ∀ (w : x_W) (H : Heap) (locs : List Loc) (ls : Array Slot) (l0 : Nat) (l1 : Int32) (l2 : Int32), f_Mod_order T w l0 l1 l2 = some q → x_H D x_cl x_FT aC ad T nx A w H → va_S A s.heap H locs → lv_has ls 10 [(0, .ref (ad l0)), (1, .int l1), (2, .int l2)] → W p l e { frames := 5, cells := 0, slots := 0, locals := 114 } s m args below meth c H locs 0 0 (MQ below (x_Qc D aC ad T nx (some (.int q.1)) q.2 A) args s 0 0 A) (F0 m 0 ls []) := by
  obtain ⟨hx, hb, hr, hml, hown, hts, hlocks, hK, hA, hX⟩ := id C0
  intro w H locs ls l0 l1 l2 hf hH hS hl
  unfold f_Mod_order at hf
  refine lv_aload_n hx hb d_Mod_order_0 rfl (lv_at hl 0 rfl) ?_
  refine lv_iload_n hx hb d_Mod_order_1 rfl (lv_at hl 1 rfl) ?_
  refine lv_i2l (v := l1.toInt64) hx hb d_Mod_order_2 rfl ?_
  refine lv_lconst (v := 1) hx hb d_Mod_order_3 (by decide) ?_
  refine lv_ldc2 (v := (48 : Int64)) hx hb hown (hts _ m_1090) d_Mod_order_4 ?_
  obtain ⟨q1, e2, hf⟩ := x_b hf
  refine x_callP (st1 := [.int q1, .ref (ad l0)]) (x_runS (As := [.long (l1.toInt64), .long (1 : Int64), .long (48 : Int64)]) (rest := [.ref (ad l0)]) ⟨hx, hb, hml, hown, hts⟩ (c_Mod_in l D aC ad T nx H.size w (l1.toInt64) (1 : Int64) (48 : Int64) q1 e2) (va_cwS 3 hts (x_gS m_958 m_959 m_13 m_960) rfl rfl rfl pd_Mod_in ⟨Nat.le_of_ble_eq_true rfl, Nat.le_of_ble_eq_true rfl⟩) hH hK hX rfl hl.1 rfl (lv_room (Nat.le_of_ble_eq_true rfl)) d_Mod_order_7 ⟨Nat.zero_le _, Nat.zero_le _⟩) rfl ?_
  refine lv_if_eq (tgt := 21) hx hb d_Mod_order_10 (by decide) (fun c3 => ?_) (fun c3 => ?_)
  · have hf := x_it hf c3
    exact k_Mod_order_21 C0 w _ _ _ l0 l1 l2 l0 hf hH hS (lv_sub hl [0, 1, 2] rfl)
  · have hf := x_if hf c3
    refine lv_aload_n hx hb d_Mod_order_13 rfl (lv_at hl 0 rfl) ?_
    refine lv_iload_n hx hb d_Mod_order_14 rfl (lv_at hl 2 rfl) ?_
    obtain ⟨_, e6, hf⟩ := x_b hf
    obtain ⟨n7, hT8⟩ := x_is_e e6
    obtain ⟨q4, e5, hf⟩ := x_b hf
    refine x_callP (st1 := [.int q4, .ref (ad l0)]) (x_runV (As := [.int l2]) (rest := [.ref (ad l0)]) ⟨hx, hb, hml, hown, hts⟩ (c_Mod_isCell l D aC ad T nx H.size w l0 l2 q4 e5) (cwV 1 hts (x_gV m_976 m_978 ms_16 m_13 m_979) rfl rfl rfl ⟨rfl, pd_Mod_isCell⟩ ⟨Nat.le_of_ble_eq_true rfl, Nat.le_of_ble_eq_true rfl⟩) hH hK hX hT8 (by decide) rfl rfl rfl hl.1 rfl (lv_room (Nat.le_of_ble_eq_true rfl)) d_Mod_order_15 ⟨Nat.zero_le _, Nat.zero_le _⟩) rfl ?_
    refine lv_if_ne (tgt := 25) hx hb d_Mod_order_18 (by decide) (fun c9 => ?_) (fun c9 => ?_)
    · have hf := x_if hf c9
      refine lv_aload_n hx hb d_Mod_order_25 rfl (lv_at hl 0 rfl) ?_
      refine x_get (C := "WallDampModel") (F := F_Mod) (N := 51) hx hb hts i_Mod hown hK hH hT8 (by decide) rfl 1 (by decide) (hts _ m_794) (fun _ h9 => h9) (kd := (0, 65)) rfl rfl d_Mod_order_26 ?_
      refine lv_iconst (v := 5) hx hb d_Mod_order_29 (by decide) ?_
      refine lv_icmp_le (tgt := 37) hx hb d_Mod_order_30 (by decide) (fun c10 => ?_) (fun c10 => ?_)
      · have hf := x_it hf c10
        refine lv_iconst (v := 0) hx hb d_Mod_order_37 (by decide) ?_
        exact k_Mod_order_38 C0 w _ _ _ l0 l1 l2 l0 (0 : Int32) hf hH hS (lv_sub hl [0, 1, 2] rfl)
      · have hf := x_if hf c10
        refine lv_iconst (v := 2) hx hb d_Mod_order_33 (by decide) ?_
        refine lv_goto (tgt := 38) hx hb d_Mod_order_34 (by decide) ?_
        exact k_Mod_order_38 C0 w _ _ _ l0 l1 l2 l0 (2 : Int32) hf hH hS (lv_sub hl [0, 1, 2] rfl)
    · have hf := x_it hf c9
      exact k_Mod_order_21 C0 w _ _ _ l0 l1 l2 l0 hf hH hS (lv_sub hl [0, 1, 2] rfl)
theorem c_Mod_order (l : Launch) (D : va_G) (aC : Nat → ClassId) (ad : Nat → Nat) (T : x_T) (nx sz : Nat) (w : x_W) (a0 : Nat) (a1 : Int32) (a2 : Int32) (q : Int32 × x_W) (hf : f_Mod_order T w a0 a1 a2 = some q) : Met l y_Mod_order ws_Mod_order { frames := 5, cells := 0, slots := 0, locals := 114 } (x_Pc D aC ad T nx sz w [.ref (ad a0), .int a1, .int a2]) (x_Qc D aC ad T nx (some (.int q.1)) q.2 (x_dom ad nx sz)) 0 0 (x_dom ad nx sz) :=
  x_met [(0, .ref (ad a0)), (1, .int a1), (2, .int a2)] (plainFor_of_name (by decide)) rfl rfl (Nat.le_of_ble_eq_true rfl) (fun p e s m args below meth c ls C0 hH hS hl => k_Mod_order C0 w _ _ _ a0 a1 a2 hf hH hS (lv_sub hl [0, 1, 2] rfl))
