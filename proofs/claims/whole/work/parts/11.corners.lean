/-! WallDamp$Corners.lastX()I -/
def f_Corners_lastX_22 (T : x_T) (w : x_W) (t0 : Int32) : Option (Int32) :=
  some t0
def f_Corners_lastX (T : x_T) (w : x_W) (l0 : Nat) : Option (Int32) :=
  (x_is T l0 3).bind fun _ =>
  if (x_I w 28 l0) = 0 then
    (f_Corners_lastX_22 T w (0 : Int32))
  else
    ((x_R w 25 l0).bind fun a5 =>
    (x_ix T a5 100 ((x_I w 28 l0) - (1 : Int32))).bind fun _ =>
    f_Corners_lastX_22 T w (x_A w a5 ((x_I w 28 l0) - (1 : Int32)).toNatClampNeg))
set_option maxHeartbeats 4000000 in
set_option maxRecDepth 100000 in
theorem k_Corners_lastX_22 {p : Program} {l : Launch} {e : Env} {s : State} {m : MethodId} {args : Array Value} {below : List Frame} {meth : Method} {c : Code} {D : va_G} {aC : Nat → ClassId} {ad : Nat → Nat} {T : x_T} {nx : Nat} {A : Nat → Prop} {q : Int32} (C0 : x_At p s m meth c args "WallDamp$Corners" b_Corners_lastX (some (.int)) 1 D aC A) : ∀ (w : x_W) (ls : Array Slot) (t0 : Int32), f_Corners_lastX_22 T w t0 = some q → x_H D x_cl x_FT aC ad T nx A w s.heap → lv_has ls 1 [] → W p l e { frames := 0, cells := 0, slots := 0, locals := 0 } s m args below meth c s.heap [] 0 0 (MQ below (x_Qp (some (.int q))) args s 0 0 (fun _ => False)) (F0 m 22 ls [.int t0]) := by
  obtain ⟨hx, hb, hr, hml, hown, hts, hlocks, hK, hA, hX⟩ := id C0
  intro w ls t0 hf hH hl
  unfold f_Corners_lastX_22 at hf
  cases hf
  exact W.iret hx hb hr (fun t ht hW => ⟨rfl, ht⟩) (fun _ h => by cases h) d_Corners_lastX_22
set_option maxHeartbeats 4000000 in
set_option maxRecDepth 100000 in
theorem k_Corners_lastX {p : Program} {l : Launch} {e : Env} {s : State} {m : MethodId} {args : Array Value} {below : List Frame} {meth : Method} {c : Code} {D : va_G} {aC : Nat → ClassId} {ad : Nat → Nat} {T : x_T} {nx : Nat} {A : Nat → Prop} {q : Int32} (C0 : x_At p s m meth c args "WallDamp$Corners" b_Corners_lastX (some (.int)) 1 D aC A) : ∀ (w : x_W) (ls : Array Slot) (l0 : Nat), f_Corners_lastX T w l0 = some q → x_H D x_cl x_FT aC ad T nx A w s.heap → lv_has ls 1 [(0, .ref (ad l0))] → W p l e { frames := 0, cells := 0, slots := 0, locals := 0 } s m args below meth c s.heap [] 0 0 (MQ below (x_Qp (some (.int q))) args s 0 0 (fun _ => False)) (F0 m 0 ls []) := by
  obtain ⟨hx, hb, hr, hml, hown, hts, hlocks, hK, hA, hX⟩ := id C0
  intro w ls l0 hf hH hl
  unfold f_Corners_lastX at hf
  refine lv_aload_n hx hb d_Corners_lastX_0 rfl (lv_at hl 0 rfl) ?_
  obtain ⟨_, e1, hf⟩ := x_b hf
  obtain ⟨n2, hT3⟩ := x_is_e e1
  refine x_get (C := "WallDamp$Corners") (F := F_Corners) (N := 4) hx hb hts i_Corners hown hK hH hT3 (by decide) rfl 3 (by decide) (hts _ m_50) (fun _ h9 => h9) (kd := (0, 28)) rfl rfl d_Corners_lastX_1 ?_
  refine lv_if_ne (tgt := 11) hx hb d_Corners_lastX_4 (by decide) (fun c4 => ?_) (fun c4 => ?_)
  · have hf := x_if hf c4
    refine lv_aload_n hx hb d_Corners_lastX_11 rfl (lv_at hl 0 rfl) ?_
    obtain ⟨a5, e6, hf⟩ := x_b hf
    refine x_get (C := "WallDamp$Corners") (F := F_Corners) (N := 4) hx hb hts i_Corners hown hK hH hT3 (by decide) rfl 0 (by decide) (hts _ m_47) (fun _ h9 => h9) (kd := (2, 25)) rfl (x_fr e6) d_Corners_lastX_12 ?_
    refine lv_aload_n hx hb d_Corners_lastX_15 rfl (lv_at hl 0 rfl) ?_
    refine x_get (C := "WallDamp$Corners") (F := F_Corners) (N := 4) hx hb hts i_Corners hown hK hH hT3 (by decide) rfl 3 (by decide) (hts _ m_50) (fun _ h9 => h9) (kd := (0, 28)) rfl rfl d_Corners_lastX_16 ?_
    refine lv_iconst (v := 1) hx hb d_Corners_lastX_19 (by decide) ?_
    refine lv_isub hx hb d_Corners_lastX_20 ?_
    obtain ⟨_, e7, hf⟩ := x_b hf
    obtain ⟨n8, hT9, hi10⟩ := x_ix_e e7
    refine x_iald hx hb hK hH hT9 0 rfl hi10 d_Corners_lastX_21 ?_
    exact k_Corners_lastX_22 C0 w _ (x_A w a5 ((x_I w 28 l0) - (1 : Int32)).toNatClampNeg) hf hH (lv_sub hl [] rfl)
  · have hf := x_it hf c4
    refine lv_iconst (v := 0) hx hb d_Corners_lastX_7 (by decide) ?_
    refine lv_goto (tgt := 22) hx hb d_Corners_lastX_8 (by decide) ?_
    exact k_Corners_lastX_22 C0 w _ (0 : Int32) hf hH (lv_sub hl [] rfl)
theorem c_Corners_lastX (l : Launch) (D : va_G) (aC : Nat → ClassId) (ad : Nat → Nat) (T : x_T) (nx sz : Nat) (w : x_W) (a0 : Nat) (q : Int32) (hf : f_Corners_lastX T w a0 = some q) : Met l y_Corners_lastX ws_Corners_lastX { frames := 0, cells := 0, slots := 0, locals := 0 } (x_Pc D aC ad T nx sz w [.ref (ad a0)]) (x_Qp (some (.int q))) 0 0 (fun _ => False) :=
  x_metP [(0, .ref (ad a0))] (plainFor_of_name (by decide)) rfl rfl (Nat.le_of_ble_eq_true rfl) (fun p e s m args below meth c ls C0 hH hl => k_Corners_lastX C0 w _ a0 hf hH (lv_sub hl [0] rfl))
/-! WallDamp$Corners.canAdd(II)Z -/
def f_Corners_canAdd_55 (T : x_T) (w : x_W) (t0 : Int32) : Option (Int32) :=
  (x_bo t0).bind fun _ =>
  some t0
def f_Corners_canAdd_54 (T : x_T) (w : x_W) : Option (Int32) :=
  f_Corners_canAdd_55 T w (0 : Int32)
def f_Corners_canAdd_50 (T : x_T) (w : x_W) : Option (Int32) :=
  f_Corners_canAdd_55 T w (1 : Int32)
def f_Corners_canAdd (T : x_T) (w : x_W) (l0 : Nat) (l1 : Int32) (l2 : Int32) : Option (Int32) :=
  (x_is T l0 3).bind fun _ =>
  if (x_I w 28 l0) < (x_I w 27 l0) then
    (if (x_I w 28 l0) = 0 then
      (f_Corners_canAdd_50 T w)
    else
      ((x_R w 25 l0).bind fun a6 =>
      (x_ix T a6 100 ((x_I w 28 l0) - (1 : Int32))).bind fun _ =>
      if l1 ≤ (x_A w a6 ((x_I w 28 l0) - (1 : Int32)).toNatClampNeg) then
        (f_Corners_canAdd_54 T w)
      else
        ((x_R w 26 l0).bind fun a13 =>
        (x_ix T a13 100 ((x_I w 28 l0) - (1 : Int32))).bind fun _ =>
        if l2 ≤ (x_A w a13 ((x_I w 28 l0) - (1 : Int32)).toNatClampNeg) then
          (f_Corners_canAdd_54 T w)
        else
          (f_Corners_canAdd_50 T w))))
  else
    (some (0 : Int32))
set_option maxHeartbeats 4000000 in
set_option maxRecDepth 100000 in
theorem k_Corners_canAdd_55 {p : Program} {l : Launch} {e : Env} {s : State} {m : MethodId} {args : Array Value} {below : List Frame} {meth : Method} {c : Code} {D : va_G} {aC : Nat → ClassId} {ad : Nat → Nat} {T : x_T} {nx : Nat} {A : Nat → Prop} {q : Int32} (C0 : x_At p s m meth c args "WallDamp$Corners" b_Corners_canAdd (some (.boolean)) 3 D aC A) : ∀ (w : x_W) (ls : Array Slot) (t0 : Int32), f_Corners_canAdd_55 T w t0 = some q → x_H D x_cl x_FT aC ad T nx A w s.heap → lv_has ls 3 [] → W p l e { frames := 0, cells := 0, slots := 0, locals := 0 } s m args below meth c s.heap [] 0 0 (MQ below (x_Qp (some (.int q))) args s 0 0 (fun _ => False)) (F0 m 55 ls [.int t0]) := by
  obtain ⟨hx, hb, hr, hml, hown, hts, hlocks, hK, hA, hX⟩ := id C0
  intro w ls t0 hf hH hl
  unfold f_Corners_canAdd_55 at hf
  obtain ⟨_, e1, hf⟩ := x_b hf
  cases hf
  exact W.zret hx hb hr (x_bo_e e1).1 (fun t ht hW => ⟨rfl, ht⟩) (fun _ h => by cases h) d_Corners_canAdd_55
set_option maxHeartbeats 4000000 in
set_option maxRecDepth 100000 in
theorem k_Corners_canAdd_54 {p : Program} {l : Launch} {e : Env} {s : State} {m : MethodId} {args : Array Value} {below : List Frame} {meth : Method} {c : Code} {D : va_G} {aC : Nat → ClassId} {ad : Nat → Nat} {T : x_T} {nx : Nat} {A : Nat → Prop} {q : Int32} (C0 : x_At p s m meth c args "WallDamp$Corners" b_Corners_canAdd (some (.boolean)) 3 D aC A) : ∀ (w : x_W) (ls : Array Slot), f_Corners_canAdd_54 T w = some q → x_H D x_cl x_FT aC ad T nx A w s.heap → lv_has ls 3 [] → W p l e { frames := 0, cells := 0, slots := 0, locals := 0 } s m args below meth c s.heap [] 0 0 (MQ below (x_Qp (some (.int q))) args s 0 0 (fun _ => False)) (F0 m 54 ls []) := by
  obtain ⟨hx, hb, hr, hml, hown, hts, hlocks, hK, hA, hX⟩ := id C0
  intro w ls hf hH hl
  unfold f_Corners_canAdd_54 at hf
  refine lv_iconst (v := 0) hx hb d_Corners_canAdd_54 (by decide) ?_
  exact k_Corners_canAdd_55 C0 w _ (0 : Int32) hf hH (lv_sub hl [] rfl)
set_option maxHeartbeats 4000000 in
set_option maxRecDepth 100000 in
theorem k_Corners_canAdd_50 {p : Program} {l : Launch} {e : Env} {s : State} {m : MethodId} {args : Array Value} {below : List Frame} {meth : Method} {c : Code} {D : va_G} {aC : Nat → ClassId} {ad : Nat → Nat} {T : x_T} {nx : Nat} {A : Nat → Prop} {q : Int32} (C0 : x_At p s m meth c args "WallDamp$Corners" b_Corners_canAdd (some (.boolean)) 3 D aC A) : ∀ (w : x_W) (ls : Array Slot), f_Corners_canAdd_50 T w = some q → x_H D x_cl x_FT aC ad T nx A w s.heap → lv_has ls 3 [] → W p l e { frames := 0, cells := 0, slots := 0, locals := 0 } s m args below meth c s.heap [] 0 0 (MQ below (x_Qp (some (.int q))) args s 0 0 (fun _ => False)) (F0 m 50 ls []) := by
  obtain ⟨hx, hb, hr, hml, hown, hts, hlocks, hK, hA, hX⟩ := id C0
  intro w ls hf hH hl
  unfold f_Corners_canAdd_50 at hf
  refine lv_iconst (v := 1) hx hb d_Corners_canAdd_50 (by decide) ?_
  refine lv_goto (tgt := 55) hx hb d_Corners_canAdd_51 (by decide) ?_
  exact k_Corners_canAdd_55 C0 w _ (1 : Int32) hf hH (lv_sub hl [] rfl)
set_option maxHeartbeats 4000000 in
set_option maxRecDepth 100000 in
theorem k_Corners_canAdd {p : Program} {l : Launch} {e : Env} {s : State} {m : MethodId} {args : Array Value} {below : List Frame} {meth : Method} {c : Code} {D : va_G} {aC : Nat → ClassId} {ad : Nat → Nat} {T : x_T} {nx : Nat} {A : Nat → Prop} {q : Int32} (C0 : x_At p s m meth c args "WallDamp$Corners" b_Corners_canAdd (some (.boolean)) 3 D aC A) : ∀ (w : x_W) (ls : Array Slot) (l0 : Nat) (l1 : Int32) (l2 : Int32), f_Corners_canAdd T w l0 l1 l2 = some q → x_H D x_cl x_FT aC ad T nx A w s.heap → lv_has ls 3 [(0, .ref (ad l0)), (1, .int l1), (2, .int l2)] → W p l e { frames := 0, cells := 0, slots := 0, locals := 0 } s m args below meth c s.heap [] 0 0 (MQ below (x_Qp (some (.int q))) args s 0 0 (fun _ => False)) (F0 m 0 ls []) := by
  obtain ⟨hx, hb, hr, hml, hown, hts, hlocks, hK, hA, hX⟩ := id C0
  intro w ls l0 l1 l2 hf hH hl
  unfold f_Corners_canAdd at hf
  refine lv_aload_n hx hb d_Corners_canAdd_0 rfl (lv_at hl 0 rfl) ?_
  obtain ⟨_, e1, hf⟩ := x_b hf
  obtain ⟨n2, hT3⟩ := x_is_e e1
  refine x_get (C := "WallDamp$Corners") (F := F_Corners) (N := 4) hx hb hts i_Corners hown hK hH hT3 (by decide) rfl 3 (by decide) (hts _ m_50) (fun _ h9 => h9) (kd := (0, 28)) rfl rfl d_Corners_canAdd_1 ?_
  refine lv_aload_n hx hb d_Corners_canAdd_4 rfl (lv_at hl 0 rfl) ?_
  refine x_get (C := "WallDamp$Corners") (F := F_Corners) (N := 4) hx hb hts i_Corners hown hK hH hT3 (by decide) rfl 2 (by decide) (hts _ m_49) (fun _ h9 => h9) (kd := (0, 27)) rfl rfl d_Corners_canAdd_5 ?_
  refine lv_icmp_lt (tgt := 13) hx hb d_Corners_canAdd_8 (by decide) (fun c4 => ?_) (fun c4 => ?_)
  · have hf := x_it hf c4
    refine lv_aload_n hx hb d_Corners_canAdd_13 rfl (lv_at hl 0 rfl) ?_
    refine x_get (C := "WallDamp$Corners") (F := F_Corners) (N := 4) hx hb hts i_Corners hown hK hH hT3 (by decide) rfl 3 (by decide) (hts _ m_50) (fun _ h9 => h9) (kd := (0, 28)) rfl rfl d_Corners_canAdd_14 ?_
    refine lv_if_eq (tgt := 50) hx hb d_Corners_canAdd_17 (by decide) (fun c5 => ?_) (fun c5 => ?_)
    · have hf := x_it hf c5
      exact k_Corners_canAdd_50 C0 w _ hf hH (lv_sub hl [] rfl)
    · have hf := x_if hf c5
      refine lv_iload_n hx hb d_Corners_canAdd_20 rfl (lv_at hl 1 rfl) ?_
      refine lv_aload_n hx hb d_Corners_canAdd_21 rfl (lv_at hl 0 rfl) ?_
      obtain ⟨a6, e7, hf⟩ := x_b hf
      refine x_get (C := "WallDamp$Corners") (F := F_Corners) (N := 4) hx hb hts i_Corners hown hK hH hT3 (by decide) rfl 0 (by decide) (hts _ m_47) (fun _ h9 => h9) (kd := (2, 25)) rfl (x_fr e7) d_Corners_canAdd_22 ?_
      refine lv_aload_n hx hb d_Corners_canAdd_25 rfl (lv_at hl 0 rfl) ?_
      refine x_get (C := "WallDamp$Corners") (F := F_Corners) (N := 4) hx hb hts i_Corners hown hK hH hT3 (by decide) rfl 3 (by decide) (hts _ m_50) (fun _ h9 => h9) (kd := (0, 28)) rfl rfl d_Corners_canAdd_26 ?_
      refine lv_iconst (v := 1) hx hb d_Corners_canAdd_29 (by decide) ?_
      refine lv_isub hx hb d_Corners_canAdd_30 ?_
      obtain ⟨_, e8, hf⟩ := x_b hf
      obtain ⟨n9, hT10, hi11⟩ := x_ix_e e8
      refine x_iald hx hb hK hH hT10 0 rfl hi11 d_Corners_canAdd_31 ?_
      refine lv_icmp_le (tgt := 54) hx hb d_Corners_canAdd_32 (by decide) (fun c12 => ?_) (fun c12 => ?_)
      · have hf := x_it hf c12
        exact k_Corners_canAdd_54 C0 w _ hf hH (lv_sub hl [] rfl)
      · have hf := x_if hf c12
        refine lv_iload_n hx hb d_Corners_canAdd_35 rfl (lv_at hl 2 rfl) ?_
        refine lv_aload_n hx hb d_Corners_canAdd_36 rfl (lv_at hl 0 rfl) ?_
        obtain ⟨a13, e14, hf⟩ := x_b hf
        refine x_get (C := "WallDamp$Corners") (F := F_Corners) (N := 4) hx hb hts i_Corners hown hK hH hT3 (by decide) rfl 1 (by decide) (hts _ m_48) (fun _ h9 => h9) (kd := (2, 26)) rfl (x_fr e14) d_Corners_canAdd_37 ?_
        refine lv_aload_n hx hb d_Corners_canAdd_40 rfl (lv_at hl 0 rfl) ?_
        refine x_get (C := "WallDamp$Corners") (F := F_Corners) (N := 4) hx hb hts i_Corners hown hK hH hT3 (by decide) rfl 3 (by decide) (hts _ m_50) (fun _ h9 => h9) (kd := (0, 28)) rfl rfl d_Corners_canAdd_41 ?_
        refine lv_iconst (v := 1) hx hb d_Corners_canAdd_44 (by decide) ?_
        refine lv_isub hx hb d_Corners_canAdd_45 ?_
        obtain ⟨_, e15, hf⟩ := x_b hf
        obtain ⟨n16, hT17, hi18⟩ := x_ix_e e15
        refine x_iald hx hb hK hH hT17 0 rfl hi18 d_Corners_canAdd_46 ?_
        refine lv_icmp_le (tgt := 54) hx hb d_Corners_canAdd_47 (by decide) (fun c19 => ?_) (fun c19 => ?_)
        · have hf := x_it hf c19
          exact k_Corners_canAdd_54 C0 w _ hf hH (lv_sub hl [] rfl)
        · have hf := x_if hf c19
          exact k_Corners_canAdd_50 C0 w _ hf hH (lv_sub hl [] rfl)
  · have hf := x_if hf c4
    refine lv_iconst (v := 0) hx hb d_Corners_canAdd_11 (by decide) ?_
    cases hf
    exact W.zret hx hb hr rfl (fun t ht hW => ⟨rfl, ht⟩) (fun _ h => by cases h) d_Corners_canAdd_12
theorem c_Corners_canAdd (l : Launch) (D : va_G) (aC : Nat → ClassId) (ad : Nat → Nat) (T : x_T) (nx sz : Nat) (w : x_W) (a0 : Nat) (a1 : Int32) (a2 : Int32) (q : Int32) (hf : f_Corners_canAdd T w a0 a1 a2 = some q) : Met l y_Corners_canAdd ws_Corners_canAdd { frames := 0, cells := 0, slots := 0, locals := 0 } (x_Pc D aC ad T nx sz w [.ref (ad a0), .int a1, .int a2]) (x_Qp (some (.int q))) 0 0 (fun _ => False) :=
  x_metP [(0, .ref (ad a0)), (1, .int a1), (2, .int a2)] (plainFor_of_name (by decide)) rfl rfl (Nat.le_of_ble_eq_true rfl) (fun p e s m args below meth c ls C0 hH hl => k_Corners_canAdd C0 w _ a0 a1 a2 hf hH (lv_sub hl [0, 1, 2] rfl))
/-! WallDamp$Corners.add(II)I -/
def f_Corners_add_42 (T : x_T) (w : x_W) (l0 : Nat) : Option (Int32 × x_W) :=
  (x_is T l0 3).bind fun _ =>
  some ((x_I w 28 l0), w)
def f_Corners_add (T : x_T) (w : x_W) (l0 : Nat) (l1 : Int32) (l2 : Int32) : Option (Int32 × x_W) :=
  (x_is T l0 3).bind fun _ =>
  (x_R w 25 l0).bind fun a4 =>
  (x_len T a4 100).bind fun n6 =>
  if (nI n6) ≤ (x_I w 28 l0) then
    (f_Corners_add_42 T w l0)
  else
    ((x_R w 25 l0).bind fun a9 =>
    (x_ix T a9 100 (x_I w 28 l0)).bind fun _ =>
    (some (x_sA w a9 (x_I w 28 l0).toNatClampNeg l1)).bind fun w15 =>
    (x_R w15 26 l0).bind fun a17 =>
    (x_ix T a17 100 (x_I w15 28 l0)).bind fun _ =>
    (some (x_sA w15 a17 (x_I w15 28 l0).toNatClampNeg l2)).bind fun w23 =>
    (some (x_sI w23 28 l0 ((x_I w23 28 l0) + (1 : Int32)))).bind fun w25 =>
    f_Corners_add_42 T w25 l0)
set_option maxHeartbeats 4000000 in
set_option maxRecDepth 100000 in
theorem k_Corners_add_42 {p : Program} {l : Launch} {e : Env} {s : State} {m : MethodId} {args : Array Value} {below : List Frame} {meth : Method} {c : Code} {D : va_G} {aC : Nat → ClassId} {ad : Nat → Nat} {T : x_T} {nx : Nat} {A : Nat → Prop} {q : Int32 × x_W} (C0 : x_At p s m meth c args "WallDamp$Corners" b_Corners_add (some (.int)) 3 D aC A) : ∀ (w : x_W) (H : Heap) (locs : List Loc) (ls : Array Slot) (l0 : Nat), f_Corners_add_42 T w l0 = some q → x_H D x_cl x_FT aC ad T nx A w H → va_S A s.heap H locs → lv_has ls 3 [(0, .ref (ad l0))] → W p l e { frames := 0, cells := 0, slots := 0, locals := 0 } s m args below meth c H locs 0 0 (MQ below (x_Qc D aC ad T nx (some (.int q.1)) q.2 A) args s 0 0 A) (F0 m 42 ls []) := by
  obtain ⟨hx, hb, hr, hml, hown, hts, hlocks, hK, hA, hX⟩ := id C0
  intro w H locs ls l0 hf hH hS hl
  unfold f_Corners_add_42 at hf
  refine lv_aload_n hx hb d_Corners_add_42 rfl (lv_at hl 0 rfl) ?_
  obtain ⟨_, e1, hf⟩ := x_b hf
  obtain ⟨n2, hT3⟩ := x_is_e e1
  refine x_get (C := "WallDamp$Corners") (F := F_Corners) (N := 4) hx hb hts i_Corners hown hK hH hT3 (by decide) rfl 3 (by decide) (hts _ m_50) (fun _ h9 => h9) (kd := (0, 28)) rfl rfl d_Corners_add_43 ?_
  cases hf
  refine x_sz0 hS (fun hz => ?_)
  exact W.iret hx hb hr (fun t ht hW => ⟨rfl, hS.F ht, by rw [ht]; exact hz, by rw [ht]; exact hH.weaken (fun _ _ _ => trivial)⟩) hS.2.2 d_Corners_add_46
set_option maxHeartbeats 4000000 in
set_option maxRecDepth 100000 in
theorem k_Corners_add {p : Program} {l : Launch} {e : Env} {s : State} {m : MethodId} {args : Array Value} {below : List Frame} {meth : Method} {c : Code} {D : va_G} {aC : Nat → ClassId} {ad : Nat → Nat} {T : x_T} {nx : Nat} {A : Nat → Prop} {q : Int32 × x_W} (C0 : x_At p s m meth c args "WallDamp$Corners" b_Corners_add (some (.int)) 3 D aC A) : ∀ (w : x_W) (H : Heap) (locs : List Loc) (ls : Array Slot) (l0 : Nat) (l1 : Int32) (l2 : Int32), f_Corners_add T w l0 l1 l2 = some q → x_H D x_cl x_FT aC ad T nx A w H → va_S A s.heap H locs → lv_has ls 3 [(0, .ref (ad l0)), (1, .int l1), (2, .int l2)] → W p l e { frames := 0, cells := 0, slots := 0, locals := 0 } s m args below meth c H locs 0 0 (MQ below (x_Qc D aC ad T nx (some (.int q.1)) q.2 A) args s 0 0 A) (F0 m 0 ls []) := by
  obtain ⟨hx, hb, hr, hml, hown, hts, hlocks, hK, hA, hX⟩ := id C0
  intro w H locs ls l0 l1 l2 hf hH hS hl
  unfold f_Corners_add at hf
  refine lv_aload_n hx hb d_Corners_add_0 rfl (lv_at hl 0 rfl) ?_
  obtain ⟨_, e1, hf⟩ := x_b hf
  obtain ⟨n2, hT3⟩ := x_is_e e1
  refine x_get (C := "WallDamp$Corners") (F := F_Corners) (N := 4) hx hb hts i_Corners hown hK hH hT3 (by decide) rfl 3 (by decide) (hts _ m_50) (fun _ h9 => h9) (kd := (0, 28)) rfl rfl d_Corners_add_1 ?_
  refine lv_aload_n hx hb d_Corners_add_4 rfl (lv_at hl 0 rfl) ?_
  obtain ⟨a4, e5, hf⟩ := x_b hf
  refine x_get (C := "WallDamp$Corners") (F := F_Corners) (N := 4) hx hb hts i_Corners hown hK hH hT3 (by decide) rfl 0 (by decide) (hts _ m_47) (fun _ h9 => h9) (kd := (2, 25)) rfl (x_fr e5) d_Corners_add_5 ?_
  obtain ⟨n6, e7, hf⟩ := x_b hf
  refine x_alen hx hb hK hH (x_len_e e7) (by decide) 0 rfl d_Corners_add_8 ?_
  refine lv_icmp_ge (tgt := 42) hx hb d_Corners_add_9 (by decide) (fun c8 => ?_) (fun c8 => ?_)
  · have hf := x_it hf c8
    exact k_Corners_add_42 C0 w _ _ _ l0 hf hH hS (lv_sub hl [0] rfl)
  · have hf := x_if hf c8
    refine lv_aload_n hx hb d_Corners_add_12 rfl (lv_at hl 0 rfl) ?_
    obtain ⟨a9, e10, hf⟩ := x_b hf
    refine x_get (C := "WallDamp$Corners") (F := F_Corners) (N := 4) hx hb hts i_Corners hown hK hH hT3 (by decide) rfl 0 (by decide) (hts _ m_47) (fun _ h9 => h9) (kd := (2, 25)) rfl (x_fr e10) d_Corners_add_13 ?_
    refine lv_aload_n hx hb d_Corners_add_16 rfl (lv_at hl 0 rfl) ?_
    refine x_get (C := "WallDamp$Corners") (F := F_Corners) (N := 4) hx hb hts i_Corners hown hK hH hT3 (by decide) rfl 3 (by decide) (hts _ m_50) (fun _ h9 => h9) (kd := (0, 28)) rfl rfl d_Corners_add_17 ?_
    refine lv_iload_n hx hb d_Corners_add_20 rfl (lv_at hl 1 rfl) ?_
    obtain ⟨_, e11, hf⟩ := x_b hf
    obtain ⟨n12, hT13, hi14⟩ := x_ix_e e11
    refine x_iast hx hb hK hH hS hT13 0 rfl hi14 d_Corners_add_21 (fun H locs hH hS => ?_)
    obtain ⟨w15, e16, hf⟩ := x_b hf
    have hH := x_nw e16 hH
    refine lv_aload_n hx hb d_Corners_add_22 rfl (lv_at hl 0 rfl) ?_
    obtain ⟨a17, e18, hf⟩ := x_b hf
    refine x_get (C := "WallDamp$Corners") (F := F_Corners) (N := 4) hx hb hts i_Corners hown hK hH hT3 (by decide) rfl 1 (by decide) (hts _ m_48) (fun _ h9 => h9) (kd := (2, 26)) rfl (x_fr e18) d_Corners_add_23 ?_
    refine lv_aload_n hx hb d_Corners_add_26 rfl (lv_at hl 0 rfl) ?_
    refine x_get (C := "WallDamp$Corners") (F := F_Corners) (N := 4) hx hb hts i_Corners hown hK hH hT3 (by decide) rfl 3 (by decide) (hts _ m_50) (fun _ h9 => h9) (kd := (0, 28)) rfl rfl d_Corners_add_27 ?_
    refine lv_iload_n hx hb d_Corners_add_30 rfl (lv_at hl 2 rfl) ?_
    obtain ⟨_, e19, hf⟩ := x_b hf
    obtain ⟨n20, hT21, hi22⟩ := x_ix_e e19
    refine x_iast hx hb hK hH hS hT21 0 rfl hi22 d_Corners_add_31 (fun H locs hH hS => ?_)
    obtain ⟨w23, e24, hf⟩ := x_b hf
    have hH := x_nw e24 hH
    refine lv_aload_n hx hb d_Corners_add_32 rfl (lv_at hl 0 rfl) ?_
    refine lv_dup hx hb d_Corners_add_33 rfl ?_
    refine x_get (C := "WallDamp$Corners") (F := F_Corners) (N := 4) hx hb hts i_Corners hown hK hH hT3 (by decide) rfl 3 (by decide) (hts _ m_50) (fun _ h9 => h9) (kd := (0, 28)) rfl rfl d_Corners_add_34 ?_
    refine lv_iconst (v := 1) hx hb d_Corners_add_37 (by decide) ?_
    refine lv_iadd hx hb d_Corners_add_38 ?_
    refine x_put (C := "WallDamp$Corners") (F := F_Corners) (N := 4) (ty := t_Corners 3) (v := .int ((x_I w23 28 l0) + (1 : Int32))) (w' := x_sI w23 28 l0 ((x_I w23 28 l0) + (1 : Int32))) hx hb hts i_Corners t_Corners ty_Corners n_Corners hown hK hH hS hT3 (by decide) rfl rfl 3 (by decide) (hts _ m_50) (fun _ h9 => h9) rfl (ty_Corners 3 (by decide)) rfl rfl (x_on_I hT3 (by decide) rfl nd_Corners) (fun j hj => x_off_I hj) (fun hh ok => x_ok_I hh ok) d_Corners_add_39 (fun H locs hH hS => ?_)
    obtain ⟨w25, e26, hf⟩ := x_b hf
    have hH := x_nw e26 hH
    exact k_Corners_add_42 C0 w25 _ _ _ l0 hf hH hS (lv_sub hl [0] rfl)
theorem c_Corners_add (l : Launch) (D : va_G) (aC : Nat → ClassId) (ad : Nat → Nat) (T : x_T) (nx sz : Nat) (w : x_W) (a0 : Nat) (a1 : Int32) (a2 : Int32) (q : Int32 × x_W) (hf : f_Corners_add T w a0 a1 a2 = some q) : Met l y_Corners_add ws_Corners_add { frames := 0, cells := 0, slots := 0, locals := 0 } (x_Pc D aC ad T nx sz w [.ref (ad a0), .int a1, .int a2]) (x_Qc D aC ad T nx (some (.int q.1)) q.2 (x_dom ad nx sz)) 0 0 (x_dom ad nx sz) :=
  x_met [(0, .ref (ad a0)), (1, .int a1), (2, .int a2)] (plainFor_of_name (by decide)) rfl rfl (Nat.le_of_ble_eq_true rfl) (fun p e s m args below meth c ls C0 hH hS hl => k_Corners_add C0 w _ _ _ a0 a1 a2 hf hH hS (lv_sub hl [0, 1, 2] rfl))
/-! WallDamp$Corners.heightAt(I)I -/
def f_Corners_heightAt_112 (T : x_T) (K28 : x_W → Nat → Int32 → Int32 → Option (Int32)) (w : x_W) (l0 : Nat) (l1 : Int32) (l2 : Int32) : Option (Int32) :=
  K28 w l0 l1 (l2 + 1)
def f_Corners_heightAt_28 (T : x_T) : Nat → x_W → Nat → Int32 → Int32 → Option (Int32)
  | 0, _, _, _, _ => none
  | n + 1, w, l0, l1, l2 =>
    (x_is T l0 3).bind fun _ =>
    if (x_I w 28 l0) ≤ l2 then
      ((x_R w 26 l0).bind fun a5 =>
      (x_ix T a5 100 ((x_I w 28 l0) - (1 : Int32))).bind fun _ =>
      some (x_A w a5 ((x_I w 28 l0) - (1 : Int32)).toNatClampNeg))
    else
      ((x_R w 25 l0).bind fun a11 =>
      (x_ix T a11 100 l2).bind fun _ =>
      (x_R w 25 l0).bind fun a17 =>
      (x_ix T a17 100 (l2 - (1 : Int32))).bind fun _ =>
      (some (((x_A w a11 l2.toNatClampNeg) - (x_A w a17 (l2 - (1 : Int32)).toNatClampNeg)))).bind fun v23 =>
      (x_R w 25 l0).bind fun a25 =>
      (x_ix T a25 100 l2).bind fun _ =>
      if (x_A w a25 l2.toNatClampNeg) < l1 then
        (f_Corners_heightAt_112 T (f_Corners_heightAt_28 T n) w l0 l1 l2)
      else
        (if v23 ≤ 0 then
          (f_Corners_heightAt_112 T (f_Corners_heightAt_28 T n) w l0 l1 l2)
        else
          ((x_R w 26 l0).bind fun a33 =>
          (x_ix T a33 100 l2).bind fun _ =>
          (x_R w 26 l0).bind fun a39 =>
          (x_ix T a39 100 (l2 - (1 : Int32))).bind fun _ =>
          (x_R w 25 l0).bind fun a45 =>
          (x_ix T a45 100 (l2 - (1 : Int32))).bind fun _ =>
          (some (((((x_A w a33 l2.toNatClampNeg) - (x_A w a39 (l2 - (1 : Int32)).toNatClampNeg)).toInt64) * ((l1 - (x_A w a45 (l2 - (1 : Int32)).toNatClampNeg)).toInt64)))).bind fun v51 =>
          (x_R w 26 l0).bind fun a53 =>
          (x_ix T a53 100 (l2 - (1 : Int32))).bind fun _ =>
          (x_nzl (v23.toInt64)).bind fun _ =>
          some ((x_A w a53 (l2 - (1 : Int32)).toNatClampNeg) + ((v51 / (v23.toInt64)).toInt32)))))
def f_Corners_heightAt (T : x_T) (w : x_W) (l0 : Nat) (l1 : Int32) : Option (Int32) :=
  (x_is T l0 3).bind fun _ =>
  if (x_I w 28 l0) = 0 then
    (some (0 : Int32))
  else
    ((x_R w 25 l0).bind fun a5 =>
    (x_ix T a5 100 (0 : Int32)).bind fun _ =>
    if (x_A w a5 (0 : Int32).toNatClampNeg) < l1 then
      (f_Corners_heightAt_28 T 1000 w l0 l1 (1 : Int32))
    else
      ((x_R w 26 l0).bind fun a12 =>
      (x_ix T a12 100 (0 : Int32)).bind fun _ =>
      some (x_A w a12 (0 : Int32).toNatClampNeg)))
set_option maxHeartbeats 4000000 in
set_option maxRecDepth 100000 in
theorem k_Corners_heightAt_112 {p : Program} {l : Launch} {e : Env} {s : State} {m : MethodId} {args : Array Value} {below : List Frame} {meth : Method} {c : Code} {D : va_G} {aC : Nat → ClassId} {ad : Nat → Nat} {T : x_T} {nx : Nat} {A : Nat → Prop} {q : Int32} (C0 : x_At p s m meth c args "WallDamp$Corners" b_Corners_heightAt (some (.int)) 6 D aC A) {K28 : x_W → Nat → Int32 → Int32 → Option (Int32)} (hK28 : ∀ (w : x_W) (ls : Array Slot) (l0 : Nat) (l1 : Int32) (l2 : Int32), K28 w l0 l1 l2 = some q → x_H D x_cl x_FT aC ad T nx A w s.heap → lv_has ls 6 [(0, .ref (ad l0)), (1, .int l1), (2, .int l2)] → W p l e { frames := 0, cells := 0, slots := 0, locals := 0 } s m args below meth c s.heap [] 0 0 (MQ below (x_Qp (some (.int q))) args s 0 0 (fun _ => False)) (F0 m 28 ls [])) : ∀ (w : x_W) (ls : Array Slot) (l0 : Nat) (l1 : Int32) (l2 : Int32), f_Corners_heightAt_112 T K28 w l0 l1 l2 = some q → x_H D x_cl x_FT aC ad T nx A w s.heap → lv_has ls 6 [(0, .ref (ad l0)), (1, .int l1), (2, .int l2)] → W p l e { frames := 0, cells := 0, slots := 0, locals := 0 } s m args below meth c s.heap [] 0 0 (MQ below (x_Qp (some (.int q))) args s 0 0 (fun _ => False)) (F0 m 112 ls []) := by
  obtain ⟨hx, hb, hr, hml, hown, hts, hlocks, hK, hA, hX⟩ := id C0
  intro w ls l0 l1 l2 hf hH hl
  unfold f_Corners_heightAt_112 at hf
  refine lv_iinc (v := (l2 + 1)) (lv' := [(2, .int (l2 + 1)), (0, .ref (ad l0)), (1, .int l1)]) hx hb d_Corners_heightAt_112 hl (k := 2) rfl rfl (by decide) rfl (fun ls hl => ?_)
  refine lv_goto (tgt := 28) hx hb d_Corners_heightAt_115 (by decide) ?_
  exact hK28 w _ l0 l1 (l2 + 1) hf hH (lv_sub hl [1, 2, 0] rfl)
set_option maxHeartbeats 4000000 in
set_option maxRecDepth 100000 in
theorem k_Corners_heightAt_28 {p : Program} {l : Launch} {e : Env} {s : State} {m : MethodId} {args : Array Value} {below : List Frame} {meth : Method} {c : Code} {D : va_G} {aC : Nat → ClassId} {ad : Nat → Nat} {T : x_T} {nx : Nat} {A : Nat → Prop} {q : Int32} (C0 : x_At p s m meth c args "WallDamp$Corners" b_Corners_heightAt (some (.int)) 6 D aC A) : ∀ (n : Nat), ∀ (w : x_W) (ls : Array Slot) (l0 : Nat) (l1 : Int32) (l2 : Int32), f_Corners_heightAt_28 T n w l0 l1 l2 = some q → x_H D x_cl x_FT aC ad T nx A w s.heap → lv_has ls 6 [(0, .ref (ad l0)), (1, .int l1), (2, .int l2)] → W p l e { frames := 0, cells := 0, slots := 0, locals := 0 } s m args below meth c s.heap [] 0 0 (MQ below (x_Qp (some (.int q))) args s 0 0 (fun _ => False)) (F0 m 28 ls []) := by
  obtain ⟨hx, hb, hr, hml, hown, hts, hlocks, hK, hA, hX⟩ := id C0
  intro n
  induction n with
  | zero => intro w ls l0 l1 l2 hf; cases (show none = some q from hf)
  | succ n ih =>
    intro w ls l0 l1 l2 hf hH hl
    unfold f_Corners_heightAt_28 at hf
    refine lv_iload_n hx hb d_Corners_heightAt_28 rfl (lv_at hl 2 rfl) ?_
    refine lv_aload_n hx hb d_Corners_heightAt_29 rfl (lv_at hl 0 rfl) ?_
    obtain ⟨_, e1, hf⟩ := x_b hf
    obtain ⟨n2, hT3⟩ := x_is_e e1
    refine x_get (C := "WallDamp$Corners") (F := F_Corners) (N := 4) hx hb hts i_Corners hown hK hH hT3 (by decide) rfl 3 (by decide) (hts _ m_50) (fun _ h9 => h9) (kd := (0, 28)) rfl rfl d_Corners_heightAt_30 ?_
    refine lv_icmp_ge (tgt := 118) hx hb d_Corners_heightAt_33 (by decide) (fun c4 => ?_) (fun c4 => ?_)
    · have hf := x_it hf c4
      refine lv_aload_n hx hb d_Corners_heightAt_118 rfl (lv_at hl 0 rfl) ?_
      obtain ⟨a5, e6, hf⟩ := x_b hf
      refine x_get (C := "WallDamp$Corners") (F := F_Corners) (N := 4) hx hb hts i_Corners hown hK hH hT3 (by decide) rfl 1 (by decide) (hts _ m_48) (fun _ h9 => h9) (kd := (2, 26)) rfl (x_fr e6) d_Corners_heightAt_119 ?_
      refine lv_aload_n hx hb d_Corners_heightAt_122 rfl (lv_at hl 0 rfl) ?_
      refine x_get (C := "WallDamp$Corners") (F := F_Corners) (N := 4) hx hb hts i_Corners hown hK hH hT3 (by decide) rfl 3 (by decide) (hts _ m_50) (fun _ h9 => h9) (kd := (0, 28)) rfl rfl d_Corners_heightAt_123 ?_
      refine lv_iconst (v := 1) hx hb d_Corners_heightAt_126 (by decide) ?_
      refine lv_isub hx hb d_Corners_heightAt_127 ?_
      obtain ⟨_, e7, hf⟩ := x_b hf
      obtain ⟨n8, hT9, hi10⟩ := x_ix_e e7
      refine x_iald hx hb hK hH hT9 0 rfl hi10 d_Corners_heightAt_128 ?_
      cases hf
      exact W.iret hx hb hr (fun t ht hW => ⟨rfl, ht⟩) (fun _ h => by cases h) d_Corners_heightAt_129
    · have hf := x_if hf c4
      refine lv_aload_n hx hb d_Corners_heightAt_36 rfl (lv_at hl 0 rfl) ?_
      obtain ⟨a11, e12, hf⟩ := x_b hf
      refine x_get (C := "WallDamp$Corners") (F := F_Corners) (N := 4) hx hb hts i_Corners hown hK hH hT3 (by decide) rfl 0 (by decide) (hts _ m_47) (fun _ h9 => h9) (kd := (2, 25)) rfl (x_fr e12) d_Corners_heightAt_37 ?_
      refine lv_iload_n hx hb d_Corners_heightAt_40 rfl (lv_at hl 2 rfl) ?_
      obtain ⟨_, e13, hf⟩ := x_b hf
      obtain ⟨n14, hT15, hi16⟩ := x_ix_e e13
      refine x_iald hx hb hK hH hT15 0 rfl hi16 d_Corners_heightAt_41 ?_
      refine lv_aload_n hx hb d_Corners_heightAt_42 rfl (lv_at hl 0 rfl) ?_
      obtain ⟨a17, e18, hf⟩ := x_b hf
      refine x_get (C := "WallDamp$Corners") (F := F_Corners) (N := 4) hx hb hts i_Corners hown hK hH hT3 (by decide) rfl 0 (by decide) (hts _ m_47) (fun _ h9 => h9) (kd := (2, 25)) rfl (x_fr e18) d_Corners_heightAt_43 ?_
      refine lv_iload_n hx hb d_Corners_heightAt_46 rfl (lv_at hl 2 rfl) ?_
      refine lv_iconst (v := 1) hx hb d_Corners_heightAt_47 (by decide) ?_
      refine lv_isub hx hb d_Corners_heightAt_48 ?_
      obtain ⟨_, e19, hf⟩ := x_b hf
      obtain ⟨n20, hT21, hi22⟩ := x_ix_e e19
      refine x_iald hx hb hK hH hT21 0 rfl hi22 d_Corners_heightAt_49 ?_
      refine lv_isub hx hb d_Corners_heightAt_50 ?_
      obtain ⟨v23, e24, hf⟩ := x_b hf
      refine x_nmi e24 ?_
      refine lv_istore_n (lv' := [(3, .int v23), (0, .ref (ad l0)), (1, .int l1), (2, .int l2)]) hx hb d_Corners_heightAt_51 rfl hl (by decide) rfl (fun ls hl => ?_)
      refine lv_iload_n hx hb d_Corners_heightAt_52 rfl (lv_at hl 2 rfl) ?_
      refine lv_aload_n hx hb d_Corners_heightAt_53 rfl (lv_at hl 1 rfl) ?_
      obtain ⟨a25, e26, hf⟩ := x_b hf
      refine x_get (C := "WallDamp$Corners") (F := F_Corners) (N := 4) hx hb hts i_Corners hown hK hH hT3 (by decide) rfl 0 (by decide) (hts _ m_47) (fun _ h9 => h9) (kd := (2, 25)) rfl (x_fr e26) d_Corners_heightAt_54 ?_
      refine lv_iload_n hx hb d_Corners_heightAt_57 rfl (lv_at hl 3 rfl) ?_
      obtain ⟨_, e27, hf⟩ := x_b hf
      obtain ⟨n28, hT29, hi30⟩ := x_ix_e e27
      refine x_iald hx hb hK hH hT29 0 rfl hi30 d_Corners_heightAt_58 ?_
      refine lv_icmp_gt (tgt := 112) hx hb d_Corners_heightAt_59 (by decide) (fun c31 => ?_) (fun c31 => ?_)
      · have hf := x_it hf c31
        exact k_Corners_heightAt_112 C0 ih w _ l0 l1 l2 hf hH (lv_sub hl [1, 2, 3] rfl)
      · have hf := x_if hf c31
        refine lv_iload_n hx hb d_Corners_heightAt_62 rfl (lv_at hl 0 rfl) ?_
        refine lv_if_le (tgt := 112) hx hb d_Corners_heightAt_63 (by decide) (fun c32 => ?_) (fun c32 => ?_)
        · have hf := x_it hf c32
          exact k_Corners_heightAt_112 C0 ih w _ l0 l1 l2 hf hH (lv_sub hl [1, 2, 3] rfl)
        · have hf := x_if hf c32
          refine lv_aload_n hx hb d_Corners_heightAt_66 rfl (lv_at hl 1 rfl) ?_
          obtain ⟨a33, e34, hf⟩ := x_b hf
          refine x_get (C := "WallDamp$Corners") (F := F_Corners) (N := 4) hx hb hts i_Corners hown hK hH hT3 (by decide) rfl 1 (by decide) (hts _ m_48) (fun _ h9 => h9) (kd := (2, 26)) rfl (x_fr e34) d_Corners_heightAt_67 ?_
          refine lv_iload_n hx hb d_Corners_heightAt_70 rfl (lv_at hl 3 rfl) ?_
          obtain ⟨_, e35, hf⟩ := x_b hf
          obtain ⟨n36, hT37, hi38⟩ := x_ix_e e35
          refine x_iald hx hb hK hH hT37 0 rfl hi38 d_Corners_heightAt_71 ?_
          refine lv_aload_n hx hb d_Corners_heightAt_72 rfl (lv_at hl 1 rfl) ?_
          obtain ⟨a39, e40, hf⟩ := x_b hf
          refine x_get (C := "WallDamp$Corners") (F := F_Corners) (N := 4) hx hb hts i_Corners hown hK hH hT3 (by decide) rfl 1 (by decide) (hts _ m_48) (fun _ h9 => h9) (kd := (2, 26)) rfl (x_fr e40) d_Corners_heightAt_73 ?_
          refine lv_iload_n hx hb d_Corners_heightAt_76 rfl (lv_at hl 3 rfl) ?_
          refine lv_iconst (v := 1) hx hb d_Corners_heightAt_77 (by decide) ?_
          refine lv_isub hx hb d_Corners_heightAt_78 ?_
          obtain ⟨_, e41, hf⟩ := x_b hf
          obtain ⟨n42, hT43, hi44⟩ := x_ix_e e41
          refine x_iald hx hb hK hH hT43 0 rfl hi44 d_Corners_heightAt_79 ?_
          refine lv_isub hx hb d_Corners_heightAt_80 ?_
          refine lv_i2l (v := ((x_A w a33 l2.toNatClampNeg) - (x_A w a39 (l2 - (1 : Int32)).toNatClampNeg)).toInt64) hx hb d_Corners_heightAt_81 rfl ?_
          refine lv_iload_n hx hb d_Corners_heightAt_82 rfl (lv_at hl 2 rfl) ?_
          refine lv_aload_n hx hb d_Corners_heightAt_83 rfl (lv_at hl 1 rfl) ?_
          obtain ⟨a45, e46, hf⟩ := x_b hf
          refine x_get (C := "WallDamp$Corners") (F := F_Corners) (N := 4) hx hb hts i_Corners hown hK hH hT3 (by decide) rfl 0 (by decide) (hts _ m_47) (fun _ h9 => h9) (kd := (2, 25)) rfl (x_fr e46) d_Corners_heightAt_84 ?_
          refine lv_iload_n hx hb d_Corners_heightAt_87 rfl (lv_at hl 3 rfl) ?_
          refine lv_iconst (v := 1) hx hb d_Corners_heightAt_88 (by decide) ?_
          refine lv_isub hx hb d_Corners_heightAt_89 ?_
          obtain ⟨_, e47, hf⟩ := x_b hf
          obtain ⟨n48, hT49, hi50⟩ := x_ix_e e47
          refine x_iald hx hb hK hH hT49 0 rfl hi50 d_Corners_heightAt_90 ?_
          refine lv_isub hx hb d_Corners_heightAt_91 ?_
          refine lv_i2l (v := (l1 - (x_A w a45 (l2 - (1 : Int32)).toNatClampNeg)).toInt64) hx hb d_Corners_heightAt_92 rfl ?_
          refine lv_lmul hx hb d_Corners_heightAt_93 ?_
          obtain ⟨v51, e52, hf⟩ := x_b hf
          refine x_nml e52 ?_
          refine lv_lstore (lv' := [(4, .long v51), (3, .int v23), (0, .ref (ad l0)), (1, .int l1), (2, .int l2)]) hx hb d_Corners_heightAt_94 hl (by decide) rfl (fun ls hl => ?_)
          refine lv_aload_n hx hb d_Corners_heightAt_96 rfl (lv_at hl 2 rfl) ?_
          obtain ⟨a53, e54, hf⟩ := x_b hf
          refine x_get (C := "WallDamp$Corners") (F := F_Corners) (N := 4) hx hb hts i_Corners hown hK hH hT3 (by decide) rfl 1 (by decide) (hts _ m_48) (fun _ h9 => h9) (kd := (2, 26)) rfl (x_fr e54) d_Corners_heightAt_97 ?_
          refine lv_iload_n hx hb d_Corners_heightAt_100 rfl (lv_at hl 4 rfl) ?_
          refine lv_iconst (v := 1) hx hb d_Corners_heightAt_101 (by decide) ?_
          refine lv_isub hx hb d_Corners_heightAt_102 ?_
          obtain ⟨_, e55, hf⟩ := x_b hf
          obtain ⟨n56, hT57, hi58⟩ := x_ix_e e55
          refine x_iald hx hb hK hH hT57 0 rfl hi58 d_Corners_heightAt_103 ?_
          refine lv_lload hx hb d_Corners_heightAt_104 (lv_at hl 0 rfl) ?_
          refine lv_iload_n hx hb d_Corners_heightAt_106 rfl (lv_at hl 1 rfl) ?_
          refine lv_i2l (v := v23.toInt64) hx hb d_Corners_heightAt_107 rfl ?_
          obtain ⟨_, e59, hf⟩ := x_b hf
          refine lv_ldiv hx hb d_Corners_heightAt_108 (x_nzl_e e59) ?_
          refine lv_l2i (v := (v51 / (v23.toInt64)).toInt32) hx hb d_Corners_heightAt_109 rfl ?_
          refine lv_iadd hx hb d_Corners_heightAt_110 ?_
          cases hf
          exact W.iret hx hb hr (fun t ht hW => ⟨rfl, ht⟩) (fun _ h => by cases h) d_Corners_heightAt_111
set_option maxHeartbeats 4000000 in
set_option maxRecDepth 100000 in
theorem k_Corners_heightAt {p : Program} {l : Launch} {e : Env} {s : State} {m : MethodId} {args : Array Value} {below : List Frame} {meth : Method} {c : Code} {D : va_G} {aC : Nat → ClassId} {ad : Nat → Nat} {T : x_T} {nx : Nat} {A : Nat → Prop} {q : Int32} (C0 : x_At p s m meth c args "WallDamp$Corners" b_Corners_heightAt (some (.int)) 6 D aC A) : ∀ (w : x_W) (ls : Array Slot) (l0 : Nat) (l1 : Int32), f_Corners_heightAt T w l0 l1 = some q → x_H D x_cl x_FT aC ad T nx A w s.heap → lv_has ls 6 [(0, .ref (ad l0)), (1, .int l1)] → W p l e { frames := 0, cells := 0, slots := 0, locals := 0 } s m args below meth c s.heap [] 0 0 (MQ below (x_Qp (some (.int q))) args s 0 0 (fun _ => False)) (F0 m 0 ls []) := by
  obtain ⟨hx, hb, hr, hml, hown, hts, hlocks, hK, hA, hX⟩ := id C0
  intro w ls l0 l1 hf hH hl
  unfold f_Corners_heightAt at hf
  refine lv_aload_n hx hb d_Corners_heightAt_0 rfl (lv_at hl 0 rfl) ?_
  obtain ⟨_, e1, hf⟩ := x_b hf
  obtain ⟨n2, hT3⟩ := x_is_e e1
  refine x_get (C := "WallDamp$Corners") (F := F_Corners) (N := 4) hx hb hts i_Corners hown hK hH hT3 (by decide) rfl 3 (by decide) (hts _ m_50) (fun _ h9 => h9) (kd := (0, 28)) rfl rfl d_Corners_heightAt_1 ?_
  refine lv_if_ne (tgt := 9) hx hb d_Corners_heightAt_4 (by decide) (fun c4 => ?_) (fun c4 => ?_)
  · have hf := x_if hf c4
    refine lv_iload_n hx hb d_Corners_heightAt_9 rfl (lv_at hl 1 rfl) ?_
    refine lv_aload_n hx hb d_Corners_heightAt_10 rfl (lv_at hl 0 rfl) ?_
    obtain ⟨a5, e6, hf⟩ := x_b hf
    refine x_get (C := "WallDamp$Corners") (F := F_Corners) (N := 4) hx hb hts i_Corners hown hK hH hT3 (by decide) rfl 0 (by decide) (hts _ m_47) (fun _ h9 => h9) (kd := (2, 25)) rfl (x_fr e6) d_Corners_heightAt_11 ?_
    refine lv_iconst (v := 0) hx hb d_Corners_heightAt_14 (by decide) ?_
    obtain ⟨_, e7, hf⟩ := x_b hf
    obtain ⟨n8, hT9, hi10⟩ := x_ix_e e7
    refine x_iald hx hb hK hH hT9 0 rfl hi10 d_Corners_heightAt_15 ?_
    refine lv_icmp_gt (tgt := 26) hx hb d_Corners_heightAt_16 (by decide) (fun c11 => ?_) (fun c11 => ?_)
    · have hf := x_it hf c11
      refine lv_iconst (v := 1) hx hb d_Corners_heightAt_26 (by decide) ?_
      refine lv_istore_n (lv' := [(2, .int (1 : Int32)), (0, .ref (ad l0)), (1, .int l1)]) hx hb d_Corners_heightAt_27 rfl hl (by decide) rfl (fun ls hl => ?_)
      exact k_Corners_heightAt_28 C0 1000 w _ l0 l1 (1 : Int32) hf hH (lv_sub hl [1, 2, 0] rfl)
    · have hf := x_if hf c11
      refine lv_aload_n hx hb d_Corners_heightAt_19 rfl (lv_at hl 0 rfl) ?_
      obtain ⟨a12, e13, hf⟩ := x_b hf
      refine x_get (C := "WallDamp$Corners") (F := F_Corners) (N := 4) hx hb hts i_Corners hown hK hH hT3 (by decide) rfl 1 (by decide) (hts _ m_48) (fun _ h9 => h9) (kd := (2, 26)) rfl (x_fr e13) d_Corners_heightAt_20 ?_
      refine lv_iconst (v := 0) hx hb d_Corners_heightAt_23 (by decide) ?_
      obtain ⟨_, e14, hf⟩ := x_b hf
      obtain ⟨n15, hT16, hi17⟩ := x_ix_e e14
      refine x_iald hx hb hK hH hT16 0 rfl hi17 d_Corners_heightAt_24 ?_
      cases hf
      exact W.iret hx hb hr (fun t ht hW => ⟨rfl, ht⟩) (fun _ h => by cases h) d_Corners_heightAt_25
  · have hf := x_it hf c4
    refine lv_iconst (v := 0) hx hb d_Corners_heightAt_7 (by decide) ?_
    cases hf
    exact W.iret hx hb hr (fun t ht hW => ⟨rfl, ht⟩) (fun _ h => by cases h) d_Corners_heightAt_8
theorem c_Corners_heightAt (l : Launch) (D : va_G) (aC : Nat → ClassId) (ad : Nat → Nat) (T : x_T) (nx sz : Nat) (w : x_W) (a0 : Nat) (a1 : Int32) (q : Int32) (hf : f_Corners_heightAt T w a0 a1 = some q) : Met l y_Corners_heightAt ws_Corners_heightAt { frames := 0, cells := 0, slots := 0, locals := 0 } (x_Pc D aC ad T nx sz w [.ref (ad a0), .int a1]) (x_Qp (some (.int q))) 0 0 (fun _ => False) :=
  x_metP [(0, .ref (ad a0)), (1, .int a1)] (plainFor_of_name (by decide)) rfl rfl (Nat.le_of_ble_eq_true rfl) (fun p e s m args below meth c ls C0 hH hl => k_Corners_heightAt C0 w _ a0 a1 hf hH (lv_sub hl [0, 1] rfl))
