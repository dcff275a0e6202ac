/-! WallDampModel.thrown()I -/
def f_Mod_thrown (T : x_T) (w : x_W) (l0 : Nat) : Option (Int32) :=
  (x_is T l0 10).bind fun _ =>
  some (x_I w 64 l0)
set_option maxHeartbeats 4000000 in
set_option maxRecDepth 100000 in
theorem k_Mod_thrown {p : Program} {l : Launch} {e : Env} {s : State} {m : MethodId} {args : Array Value} {below : List Frame} {meth : Method} {c : Code} {D : va_G} {aC : Nat → ClassId} {ad : Nat → Nat} {T : x_T} {nx : Nat} {A : Nat → Prop} {q : Int32} (C0 : x_At p s m meth c args "WallDampModel" b_Mod_thrown (some (.int)) 1 D aC A) : ∀ (w : x_W) (ls : Array Slot) (l0 : Nat), f_Mod_thrown T w l0 = some q → x_H D x_cl x_FT aC ad T nx A w s.heap → lv_has ls 1 [(0, .ref (ad l0))] → W p l e { frames := 0, cells := 0, slots := 0, locals := 0 } s m args below meth c s.heap [] 0 0 (MQ below (x_Qp (some (.int q))) args s 0 0 (fun _ => False)) (F0 m 0 ls []) := by
  obtain ⟨hx, hb, hr, hml, hown, hts, hlocks, hK, hA, hX⟩ := id C0
  intro w ls l0 hf hH hl
  unfold f_Mod_thrown at hf
  refine lv_aload_n hx hb d_Mod_thrown_0 rfl (lv_at hl 0 rfl) ?_
  obtain ⟨_, e1, hf⟩ := x_b hf
  obtain ⟨n2, hT3⟩ := x_is_e e1
  refine x_get (C := "WallDampModel") (F := F_Mod) (N := 51) hx hb hts i_Mod hown hK hH hT3 (by decide) rfl 0 (by decide) (hts _ m_793) (fun _ h9 => h9) (kd := (0, 64)) rfl rfl d_Mod_thrown_1 ?_
  cases hf
  exact W.iret hx hb hr (fun t ht hW => ⟨rfl, ht⟩) (fun _ h => by cases h) d_Mod_thrown_4
theorem c_Mod_thrown (l : Launch) (D : va_G) (aC : Nat → ClassId) (ad : Nat → Nat) (T : x_T) (nx sz : Nat) (w : x_W) (a0 : Nat) (q : Int32) (hf : f_Mod_thrown T w a0 = some q) : Met l y_Mod_thrown ws_Mod_thrown { frames := 0, cells := 0, slots := 0, locals := 0 } (x_Pc D aC ad T nx sz w [.ref (ad a0)]) (x_Qp (some (.int q))) 0 0 (fun _ => False) :=
  x_metP [(0, .ref (ad a0))] (plainFor_of_name (by decide)) rfl rfl (Nat.le_of_ble_eq_true rfl) (fun p e s m args below meth c ls C0 hH hl => k_Mod_thrown C0 w _ a0 hf hH (lv_sub hl [0] rfl))
/-! WallDampModel.in(JJJ)Z -/
def f_Mod_in_18 (T : x_T) (w : x_W) (t0 : Int32) : Option (Int32) :=
  (x_bo t0).bind fun _ =>
  some t0
def f_Mod_in_17 (T : x_T) (w : x_W) : Option (Int32) :=
  f_Mod_in_18 T w (0 : Int32)
def f_Mod_in (T : x_T) (w : x_W) (l0 : Int64) (l2 : Int64) (l4 : Int64) : Option (Int32) :=
  if (lg_cmp l0 l2) < 0 then
    (f_Mod_in_17 T w)
  else
    (if 0 < (lg_cmp l0 l4) then
      (f_Mod_in_17 T w)
    else
      (f_Mod_in_18 T w (1 : Int32)))
set_option maxHeartbeats 4000000 in
set_option maxRecDepth 100000 in
theorem k_Mod_in_18 {p : Program} {l : Launch} {e : Env} {s : State} {m : MethodId} {args : Array Value} {below : List Frame} {meth : Method} {c : Code} {D : va_G} {aC : Nat → ClassId} {ad : Nat → Nat} {T : x_T} {nx : Nat} {A : Nat → Prop} {q : Int32} (C0 : x_At p s m meth c args "WallDampModel" b_Mod_in (some (.boolean)) 6 D aC A) : ∀ (w : x_W) (ls : Array Slot) (t0 : Int32), f_Mod_in_18 T w t0 = some q → x_H D x_cl x_FT aC ad T nx A w s.heap → lv_has ls 6 [] → W p l e { frames := 0, cells := 0, slots := 0, locals := 0 } s m args below meth c s.heap [] 0 0 (MQ below (x_Qp (some (.int q))) args s 0 0 (fun _ => False)) (F0 m 18 ls [.int t0]) := by
  obtain ⟨hx, hb, hr, hml, hown, hts, hlocks, hK, hA, hX⟩ := id C0
  intro w ls t0 hf hH hl
  unfold f_Mod_in_18 at hf
  obtain ⟨_, e1, hf⟩ := x_b hf
  cases hf
  exact W.zret hx hb hr (x_bo_e e1).1 (fun t ht hW => ⟨rfl, ht⟩) (fun _ h => by cases h) d_Mod_in_18
set_option maxHeartbeats 4000000 in
set_option maxRecDepth 100000 in
theorem k_Mod_in_17 {p : Program} {l : Launch} {e : Env} {s : State} {m : MethodId} {args : Array Value} {below : List Frame} {meth : Method} {c : Code} {D : va_G} {aC : Nat → ClassId} {ad : Nat → Nat} {T : x_T} {nx : Nat} {A : Nat → Prop} {q : Int32} (C0 : x_At p s m meth c args "WallDampModel" b_Mod_in (some (.boolean)) 6 D aC A) : ∀ (w : x_W) (ls : Array Slot), f_Mod_in_17 T w = some q → x_H D x_cl x_FT aC ad T nx A w s.heap → lv_has ls 6 [] → W p l e { frames := 0, cells := 0, slots := 0, locals := 0 } s m args below meth c s.heap [] 0 0 (MQ below (x_Qp (some (.int q))) args s 0 0 (fun _ => False)) (F0 m 17 ls []) := by
  obtain ⟨hx, hb, hr, hml, hown, hts, hlocks, hK, hA, hX⟩ := id C0
  intro w ls hf hH hl
  unfold f_Mod_in_17 at hf
  refine lv_iconst (v := 0) hx hb d_Mod_in_17 (by decide) ?_
  exact k_Mod_in_18 C0 w _ (0 : Int32) hf hH (lv_sub hl [] rfl)
set_option maxHeartbeats 4000000 in
set_option maxRecDepth 100000 in
theorem k_Mod_in {p : Program} {l : Launch} {e : Env} {s : State} {m : MethodId} {args : Array Value} {below : List Frame} {meth : Method} {c : Code} {D : va_G} {aC : Nat → ClassId} {ad : Nat → Nat} {T : x_T} {nx : Nat} {A : Nat → Prop} {q : Int32} (C0 : x_At p s m meth c args "WallDampModel" b_Mod_in (some (.boolean)) 6 D aC A) : ∀ (w : x_W) (ls : Array Slot) (l0 : Int64) (l2 : Int64) (l4 : Int64), f_Mod_in T w l0 l2 l4 = some q → x_H D x_cl x_FT aC ad T nx A w s.heap → lv_has ls 6 [(0, .long l0), (2, .long l2), (4, .long l4)] → W p l e { frames := 0, cells := 0, slots := 0, locals := 0 } s m args below meth c s.heap [] 0 0 (MQ below (x_Qp (some (.int q))) args s 0 0 (fun _ => False)) (F0 m 0 ls []) := by
  obtain ⟨hx, hb, hr, hml, hown, hts, hlocks, hK, hA, hX⟩ := id C0
  intro w ls l0 l2 l4 hf hH hl
  unfold f_Mod_in at hf
  refine lv_lload_n hx hb d_Mod_in_0 rfl (lv_at hl 0 rfl) ?_
  refine lv_lload_n hx hb d_Mod_in_1 rfl (lv_at hl 1 rfl) ?_
  refine W.lcmp hx hb d_Mod_in_2 ?_
  refine lv_if_lt (tgt := 17) hx hb d_Mod_in_3 (by decide) (fun c1 => ?_) (fun c1 => ?_)
  · have hf := x_it hf c1
    exact k_Mod_in_17 C0 w _ hf hH (lv_sub hl [] rfl)
  · have hf := x_if hf c1
    refine lv_lload_n hx hb d_Mod_in_6 rfl (lv_at hl 0 rfl) ?_
    refine lv_lload hx hb d_Mod_in_7 (lv_at hl 2 rfl) ?_
    refine W.lcmp hx hb d_Mod_in_9 ?_
    refine lv_if_gt (tgt := 17) hx hb d_Mod_in_10 (by decide) (fun c2 => ?_) (fun c2 => ?_)
    · have hf := x_it hf c2
      exact k_Mod_in_17 C0 w _ hf hH (lv_sub hl [] rfl)
    · have hf := x_if hf c2
      refine lv_iconst (v := 1) hx hb d_Mod_in_13 (by decide) ?_
      refine lv_goto (tgt := 18) hx hb d_Mod_in_14 (by decide) ?_
      exact k_Mod_in_18 C0 w _ (1 : Int32) hf hH (lv_sub hl [] rfl)
theorem c_Mod_in (l : Launch) (D : va_G) (aC : Nat → ClassId) (ad : Nat → Nat) (T : x_T) (nx sz : Nat) (w : x_W) (a0 : Int64) (a1 : Int64) (a2 : Int64) (q : Int32) (hf : f_Mod_in T w a0 a1 a2 = some q) : Met l y_Mod_in ws_Mod_in { frames := 0, cells := 0, slots := 0, locals := 0 } (x_Pc D aC ad T nx sz w [.long a0, .long a1, .long a2]) (x_Qp (some (.int q))) 0 0 (fun _ => False) :=
  x_metP [(0, .long a0), (2, .long a1), (4, .long a2)] (plainFor_of_name (by decide)) rfl rfl (Nat.le_of_ble_eq_true rfl) (fun p e s m args below meth c ls C0 hH hl => k_Mod_in C0 w _ a0 a1 a2 hf hH (lv_sub hl [0, 1, 2] rfl))
/-! WallDampModel.isCell(I)Z -/
def f_Mod_isCell (T : x_T) (w : x_W) (l0 : Nat) (l1 : Int32) : Option (Int32) :=
  (x_is T l0 10).bind fun _ =>
  (f_Mod_in T w (l1.toInt64) (0 : Int64) (((x_I w 65 l0).toInt64) - (1 : Int64))).bind fun q4 =>
  (x_bo q4).bind fun _ =>
  some q4
set_option maxHeartbeats 4000000 in
set_option maxRecDepth 100000 in
theorem k_Mod_isCell {p : Program} {l : Launch} {e : Env} {s : State} {m : MethodId} {args : Array Value} {below : List Frame} {meth : Method} {c : Code} {D : va_G} {aC : Nat → ClassId} {ad : Nat → Nat} {T : x_T} {nx : Nat} {A : Nat → Prop} {q : Int32} (C0 : x_At p s m meth c args "WallDampModel" b_Mod_isCell (some (.boolean)) 2 D aC A) : ∀ (w : x_W) (ls : Array Slot) (l0 : Nat) (l1 : Int32), f_Mod_isCell T w l0 l1 = some q → x_H D x_cl x_FT aC ad T nx A w s.heap → lv_has ls 2 [(0, .ref (ad l0)), (1, .int l1)] → W p l e { frames := 1, cells := 0, slots := 0, locals := 25 } s m args below meth c s.heap [] 0 0 (MQ below (x_Qp (some (.int q))) args s 0 0 (fun _ => False)) (F0 m 0 ls []) := by
  obtain ⟨hx, hb, hr, hml, hown, hts, hlocks, hK, hA, hX⟩ := id C0
  intro w ls l0 l1 hf hH hl
  unfold f_Mod_isCell at hf
  refine lv_iload_n hx hb d_Mod_isCell_0 rfl (lv_at hl 1 rfl) ?_
  refine lv_i2l (v := l1.toInt64) hx hb d_Mod_isCell_1 rfl ?_
  refine lv_lconst (v := 0) hx hb d_Mod_isCell_2 (by decide) ?_
  refine lv_aload_n hx hb d_Mod_isCell_3 rfl (lv_at hl 0 rfl) ?_
  obtain ⟨_, e1, hf⟩ := x_b hf
  obtain ⟨n2, hT3⟩ := x_is_e e1
  refine x_get (C := "WallDampModel") (F := F_Mod) (N := 51) hx hb hts i_Mod hown hK hH hT3 (by decide) rfl 1 (by decide) (hts _ m_794) (fun _ h9 => h9) (kd := (0, 65)) rfl rfl d_Mod_isCell_4 ?_
  refine lv_i2l (v := (x_I w 65 l0).toInt64) hx hb d_Mod_isCell_7 rfl ?_
  refine lv_lconst (v := 1) hx hb d_Mod_isCell_8 (by decide) ?_
  refine lv_lsub hx hb d_Mod_isCell_9 ?_
  obtain ⟨q4, e5, hf⟩ := x_b hf
  refine x_callP (st1 := [.int q4]) (x_runS (As := [.long (l1.toInt64), .long (0 : Int64), .long (((x_I w 65 l0).toInt64) - (1 : Int64))]) (rest := []) ⟨hx, hb, hml, hown, hts⟩ (c_Mod_in l D aC ad T nx s.heap.size w (l1.toInt64) (0 : Int64) (((x_I w 65 l0).toInt64) - (1 : Int64)) q4 e5) (va_cwS 3 hts (x_gS m_958 m_959 m_13 m_960) rfl rfl rfl pd_Mod_in ⟨Nat.le_of_ble_eq_true rfl, Nat.le_of_ble_eq_true rfl⟩) hH hK hX rfl hl.1 rfl (lv_room (Nat.le_of_ble_eq_true rfl)) d_Mod_isCell_10 ⟨Nat.zero_le _, Nat.zero_le _⟩) rfl ?_
  obtain ⟨_, e6, hf⟩ := x_b hf
  cases hf
  exact W.zret hx hb hr (x_bo_e e6).1 (fun t ht hW => ⟨rfl, ht⟩) (fun _ h => by cases h) d_Mod_isCell_13
theorem c_Mod_isCell (l : Launch) (D : va_G) (aC : Nat → ClassId) (ad : Nat → Nat) (T : x_T) (nx sz : Nat) (w : x_W) (a0 : Nat) (a1 : Int32) (q : Int32) (hf : f_Mod_isCell T w a0 a1 = some q) : Met l y_Mod_isCell ws_Mod_isCell { frames := 1, cells := 0, slots := 0, locals := 25 } (x_Pc D aC ad T nx sz w [.ref (ad a0), .int a1]) (x_Qp (some (.int q))) 0 0 (fun _ => False) :=
  x_metP [(0, .ref (ad a0)), (1, .int a1)] (plainFor_of_name (by decide)) rfl rfl (Nat.le_of_ble_eq_true rfl) (fun p e s m args below meth c ls C0 hH hl => k_Mod_isCell C0 w _ a0 a1 hf hH (lv_sub hl [0, 1] rfl))
/-! WallDampModel.floor(JJ)J -/
def f_Mod_floor_23 (T : x_T) (w : x_W) (t0 : Int64) : Option (Int64) :=
  some t0
def f_Mod_floor (T : x_T) (w : x_W) (l0 : Int64) (l2 : Int64) : Option (Int64) :=
  (x_nzl l2).bind fun _ =>
  (some ((l0 / l2))).bind fun v2 =>
  if (lg_cmp (v2 * l2) l0) ≤ 0 then
    (f_Mod_floor_23 T w v2)
  else
    (f_Mod_floor_23 T w (v2 - (1 : Int64)))
set_option maxHeartbeats 4000000 in
set_option maxRecDepth 100000 in
theorem k_Mod_floor_23 {p : Program} {l : Launch} {e : Env} {s : State} {m : MethodId} {args : Array Value} {below : List Frame} {meth : Method} {c : Code} {D : va_G} {aC : Nat → ClassId} {ad : Nat → Nat} {T : x_T} {nx : Nat} {A : Nat → Prop} {q : Int64} (C0 : x_At p s m meth c args "WallDampModel" b_Mod_floor (some (.long)) 6 D aC A) : ∀ (w : x_W) (ls : Array Slot) (t0 : Int64), f_Mod_floor_23 T w t0 = some q → x_H D x_cl x_FT aC ad T nx A w s.heap → lv_has ls 6 [] → W p l e { frames := 0, cells := 0, slots := 0, locals := 0 } s m args below meth c s.heap [] 0 0 (MQ below (x_Qp (some (.long q))) args s 0 0 (fun _ => False)) (F0 m 23 ls [.long t0]) := by
  obtain ⟨hx, hb, hr, hml, hown, hts, hlocks, hK, hA, hX⟩ := id C0
  intro w ls t0 hf hH hl
  unfold f_Mod_floor_23 at hf
  cases hf
  exact W.lret hx hb hr (fun t ht hW => ⟨rfl, ht⟩) (fun _ h => by cases h) d_Mod_floor_23
set_option maxHeartbeats 4000000 in
set_option maxRecDepth 100000 in
theorem k_Mod_floor {p : Program} {l : Launch} {e : Env} {s : State} {m : MethodId} {args : Array Value} {below : List Frame} {meth : Method} {c : Code} {D : va_G} {aC : Nat → ClassId} {ad : Nat → Nat} {T : x_T} {nx : Nat} {A : Nat → Prop} {q : Int64} (C0 : x_At p s m meth c args "WallDampModel" b_Mod_floor (some (.long)) 6 D aC A) : ∀ (w : x_W) (ls : Array Slot) (l0 : Int64) (l2 : Int64), f_Mod_floor T w l0 l2 = some q → x_H D x_cl x_FT aC ad T nx A w s.heap → lv_has ls 6 [(0, .long l0), (2, .long l2)] → W p l e { frames := 0, cells := 0, slots := 0, locals := 0 } s m args below meth c s.heap [] 0 0 (MQ below (x_Qp (some (.long q))) args s 0 0 (fun _ => False)) (F0 m 0 ls []) := by
  obtain ⟨hx, hb, hr, hml, hown, hts, hlocks, hK, hA, hX⟩ := id C0
  intro w ls l0 l2 hf hH hl
  unfold f_Mod_floor at hf
  refine lv_lload_n hx hb d_Mod_floor_0 rfl (lv_at hl 0 rfl) ?_
  refine lv_lload_n hx hb d_Mod_floor_1 rfl (lv_at hl 1 rfl) ?_
  obtain ⟨_, e1, hf⟩ := x_b hf
  refine lv_ldiv hx hb d_Mod_floor_2 (x_nzl_e e1) ?_
  obtain ⟨v2, e3, hf⟩ := x_b hf
  refine x_nml e3 ?_
  refine lv_lstore (lv' := [(4, .long v2), (0, .long l0), (2, .long l2)]) hx hb d_Mod_floor_3 hl (by decide) rfl (fun ls hl => ?_)
  refine lv_lload hx hb d_Mod_floor_5 (lv_at hl 0 rfl) ?_
  refine lv_lload_n hx hb d_Mod_floor_7 rfl (lv_at hl 2 rfl) ?_
  refine lv_lmul hx hb d_Mod_floor_8 ?_
  refine lv_lload_n hx hb d_Mod_floor_9 rfl (lv_at hl 1 rfl) ?_
  refine W.lcmp hx hb d_Mod_floor_10 ?_
  refine lv_if_le (tgt := 21) hx hb d_Mod_floor_11 (by decide) (fun c4 => ?_) (fun c4 => ?_)
  · have hf := x_it hf c4
    refine lv_lload hx hb d_Mod_floor_21 (lv_at hl 0 rfl) ?_
    exact k_Mod_floor_23 C0 w _ v2 hf hH (lv_sub hl [] rfl)
  · have hf := x_if hf c4
    refine lv_lload hx hb d_Mod_floor_14 (lv_at hl 0 rfl) ?_
    refine lv_lconst (v := 1) hx hb d_Mod_floor_16 (by decide) ?_
    refine lv_lsub hx hb d_Mod_floor_17 ?_
    refine lv_goto (tgt := 23) hx hb d_Mod_floor_18 (by decide) ?_
    exact k_Mod_floor_23 C0 w _ (v2 - (1 : Int64)) hf hH (lv_sub hl [] rfl)
theorem c_Mod_floor (l : Launch) (D : va_G) (aC : Nat → ClassId) (ad : Nat → Nat) (T : x_T) (nx sz : Nat) (w : x_W) (a0 : Int64) (a1 : Int64) (q : Int64) (hf : f_Mod_floor T w a0 a1 = some q) : Met l y_Mod_floor ws_Mod_floor { frames := 0, cells := 0, slots := 0, locals := 0 } (x_Pc D aC ad T nx sz w [.long a0, .long a1]) (x_Qp (some (.long q))) 0 0 (fun _ => False) :=
  x_metP [(0, .long a0), (2, .long a1)] (plainFor_of_name (by decide)) rfl rfl (Nat.le_of_ble_eq_true rfl) (fun p e s m args below meth c ls C0 hH hl => k_Mod_floor C0 w _ a0 a1 hf hH (lv_sub hl [0, 1] rfl))
/-! WallDampModel.most(I)I -/
def f_Mod_most (T : x_T) (w : x_W) (l0 : Nat) (l1 : Int32) : Option (Int32) :=
  (x_is T l0 10).bind fun _ =>
  (x_R w 67 l0).bind fun a4 =>
  (x_R w 66 l0).bind fun a6 =>
  (x_ix T a6 100 l1).bind fun _ =>
  (x_ix T a4 100 ((((7 : Int32) * l1) + (x_A w a6 l1.toNatClampNeg)) - (1 : Int32))).bind fun _ =>
  some (x_A w a4 ((((7 : Int32) * l1) + (x_A w a6 l1.toNatClampNeg)) - (1 : Int32)).toNatClampNeg)
set_option maxHeartbeats 4000000 in
set_option maxRecDepth 100000 in
theorem k_Mod_most {p : Program} {l : Launch} {e : Env} {s : State} {m : MethodId} {args : Array Value} {below : List Frame} {meth : Method} {c : Code} {D : va_G} {aC : Nat → ClassId} {ad : Nat → Nat} {T : x_T} {nx : Nat} {A : Nat → Prop} {q : Int32} (C0 : x_At p s m meth c args "WallDampModel" b_Mod_most (some (.int)) 2 D aC A) : ∀ (w : x_W) (ls : Array Slot) (l0 : Nat) (l1 : Int32), f_Mod_most T w l0 l1 = some q → x_H D x_cl x_FT aC ad T nx A w s.heap → lv_has ls 2 [(0, .ref (ad l0)), (1, .int l1)] → W p l e { frames := 0, cells := 0, slots := 0, locals := 0 } s m args below meth c s.heap [] 0 0 (MQ below (x_Qp (some (.int q))) args s 0 0 (fun _ => False)) (F0 m 0 ls []) := by
  obtain ⟨hx, hb, hr, hml, hown, hts, hlocks, hK, hA, hX⟩ := id C0
  intro w ls l0 l1 hf hH hl
  unfold f_Mod_most at hf
  refine lv_aload_n hx hb d_Mod_most_0 rfl (lv_at hl 0 rfl) ?_
  obtain ⟨_, e1, hf⟩ := x_b hf
  obtain ⟨n2, hT3⟩ := x_is_e e1
  obtain ⟨a4, e5, hf⟩ := x_b hf
  refine x_get (C := "WallDampModel") (F := F_Mod) (N := 51) hx hb hts i_Mod hown hK hH hT3 (by decide) rfl 3 (by decide) (hts _ m_796) (fun _ h9 => h9) (kd := (2, 67)) rfl (x_fr e5) d_Mod_most_1 ?_
  refine lv_bipush (v := 7) hx hb d_Mod_most_4 (by decide) ?_
  refine lv_iload_n hx hb d_Mod_most_6 rfl (lv_at hl 1 rfl) ?_
  refine lv_imul hx hb d_Mod_most_7 ?_
  refine lv_aload_n hx hb d_Mod_most_8 rfl (lv_at hl 0 rfl) ?_
  obtain ⟨a6, e7, hf⟩ := x_b hf
  refine x_get (C := "WallDampModel") (F := F_Mod) (N := 51) hx hb hts i_Mod hown hK hH hT3 (by decide) rfl 2 (by decide) (hts _ m_795) (fun _ h9 => h9) (kd := (2, 66)) rfl (x_fr e7) d_Mod_most_9 ?_
  refine lv_iload_n hx hb d_Mod_most_12 rfl (lv_at hl 1 rfl) ?_
  obtain ⟨_, e8, hf⟩ := x_b hf
  obtain ⟨n9, hT10, hi11⟩ := x_ix_e e8
  refine x_iald hx hb hK hH hT10 0 rfl hi11 d_Mod_most_13 ?_
  refine lv_iadd hx hb d_Mod_most_14 ?_
  refine lv_iconst (v := 1) hx hb d_Mod_most_15 (by decide) ?_
  refine lv_isub hx hb d_Mod_most_16 ?_
  obtain ⟨_, e12, hf⟩ := x_b hf
  obtain ⟨n13, hT14, hi15⟩ := x_ix_e e12
  refine x_iald hx hb hK hH hT14 0 rfl hi15 d_Mod_most_17 ?_
  cases hf
  exact W.iret hx hb hr (fun t ht hW => ⟨rfl, ht⟩) (fun _ h => by cases h) d_Mod_most_18
theorem c_Mod_most (l : Launch) (D : va_G) (aC : Nat → ClassId) (ad : Nat → Nat) (T : x_T) (nx sz : Nat) (w : x_W) (a0 : Nat) (a1 : Int32) (q : Int32) (hf : f_Mod_most T w a0 a1 = some q) : Met l y_Mod_most ws_Mod_most { frames := 0, cells := 0, slots := 0, locals := 0 } (x_Pc D aC ad T nx sz w [.ref (ad a0), .int a1]) (x_Qp (some (.int q))) 0 0 (fun _ => False) :=
  x_metP [(0, .ref (ad a0)), (1, .int a1)] (plainFor_of_name (by decide)) rfl rfl (Nat.le_of_ble_eq_true rfl) (fun p e s m args below meth c ls C0 hH hl => k_Mod_most C0 w _ a0 a1 hf hH (lv_sub hl [0, 1] rfl))
/-! WallDampModel.curve(III)I -/
def f_Mod_curve_107 (T : x_T) (w : x_W) (l0 : Nat) (l1 : Int32) (l2 : Int32) (l3 : Int32) (t0 : Nat) (t1 : Int32) : Option (Int32 × x_W) :=
  (x_is T t0 10).bind fun _ =>
  (some (x_sI w 64 t0 t1)).bind fun w4 =>
  (x_is T l0 10).bind fun _ =>
  if (x_I w4 64 l0) ≤ 0 then
    ((x_R w4 67 l0).bind fun a10 =>
    (x_R w4 66 l0).bind fun a12 =>
    (x_ix T a12 100 l1).bind fun _ =>
    (x_ix T a10 100 (((7 : Int32) * l1) + (x_A w4 a12 l1.toNatClampNeg))).bind fun _ =>
    (some (x_sA w4 a10 (((7 : Int32) * l1) + (x_A w4 a12 l1.toNatClampNeg)).toNatClampNeg l2)).bind fun w22 =>
    (x_R w22 68 l0).bind fun a24 =>
    (x_R w22 66 l0).bind fun a26 =>
    (x_ix T a26 100 l1).bind fun _ =>
    (x_ix T a24 100 (((7 : Int32) * l1) + (x_A w22 a26 l1.toNatClampNeg))).bind fun _ =>
    (some (x_sA w22 a24 (((7 : Int32) * l1) + (x_A w22 a26 l1.toNatClampNeg)).toNatClampNeg l3)).bind fun w36 =>
    (x_R w36 66 l0).bind fun a38 =>
    (x_ix T a38 100 l1).bind fun _ =>
    (x_ix T a38 100 l1).bind fun _ =>
    (some (x_sA w36 a38 l1.toNatClampNeg ((x_A w36 a38 l1.toNatClampNeg) + (1 : Int32)))).bind fun w48 =>
    (x_R w48 66 l0).bind fun a50 =>
    (x_ix T a50 100 l1).bind fun _ =>
    some ((x_A w48 a50 l1.toNatClampNeg), w48))
  else
    (some ((0 : Int32), w4))
def f_Mod_curve_102 (T : x_T) (w : x_W) (l0 : Nat) (l1 : Int32) (l2 : Int32) (l3 : Int32) (t0 : Nat) : Option (Int32 × x_W) :=
  f_Mod_curve_107 T w l0 l1 l2 l3 t0 (2 : Int32)
def f_Mod_curve_41 (T : x_T) (w : x_W) (l0 : Nat) (l1 : Int32) (l2 : Int32) (l3 : Int32) (t0 : Int32) : Option (Int32 × x_W) :=
  if t0 = 0 then
    (f_Mod_curve_107 T w l0 l1 l2 l3 l0 (1 : Int32))
  else
    ((x_is T l0 10).bind fun _ =>
    (x_R w 66 l0).bind fun a5 =>
    (x_ix T a5 100 l1).bind fun _ =>
    if (x_A w a5 l1.toNatClampNeg) = (7 : Int32) then
      (f_Mod_curve_102 T w l0 l1 l2 l3 l0)
    else
      ((f_Mod_most T w l0 l1).bind fun q12 =>
      if l2 ≤ q12 then
        (f_Mod_curve_102 T w l0 l1 l2 l3 l0)
      else
        ((x_R w 68 l0).bind fun a15 =>
        (x_R w 66 l0).bind fun a17 =>
        (x_ix T a17 100 l1).bind fun _ =>
        (x_ix T a15 100 ((((7 : Int32) * l1) + (x_A w a17 l1.toNatClampNeg)) - (1 : Int32))).bind fun _ =>
        if l3 ≤ (x_A w a15 ((((7 : Int32) * l1) + (x_A w a17 l1.toNatClampNeg)) - (1 : Int32)).toNatClampNeg) then
          (f_Mod_curve_102 T w l0 l1 l2 l3 l0)
        else
          (if (x_I w 96 l0) ≤ 0 then
            (f_Mod_curve_107 T w l0 l1 l2 l3 l0 (0 : Int32))
          else
            (f_Mod_curve_102 T w l0 l1 l2 l3 l0)))))
def f_Mod_curve_40 (T : x_T) (w : x_W) (l0 : Nat) (l1 : Int32) (l2 : Int32) (l3 : Int32) : Option (Int32 × x_W) :=
  f_Mod_curve_41 T w l0 l1 l2 l3 (0 : Int32)
def f_Mod_curve (T : x_T) (w : x_W) (l0 : Nat) (l1 : Int32) (l2 : Int32) (l3 : Int32) : Option (Int32 × x_W) :=
  (f_Mod_in T w (l1.toInt64) (0 : Int64) (5 : Int64)).bind fun q1 =>
  if q1 = 0 then
    (f_Mod_curve_40 T w l0 l1 l2 l3)
  else
    ((f_Mod_in T w (l2.toInt64) (0 : Int64) (1000000 : Int64)).bind fun q4 =>
    if q4 = 0 then
      (f_Mod_curve_40 T w l0 l1 l2 l3)
    else
      ((f_Mod_in T w (l3.toInt64) (0 : Int64) (10000 : Int64)).bind fun q7 =>
      if q7 = 0 then
        (f_Mod_curve_40 T w l0 l1 l2 l3)
      else
        (f_Mod_curve_41 T w l0 l1 l2 l3 (1 : Int32))))
set_option maxHeartbeats 4000000 in
set_option maxRecDepth 100000 in
theorem k_Mod_curve_107 {p : Program} {l : Launch} {e : Env} {s : State} {m : MethodId} {args : Array Value} {below : List Frame} {meth : Method} {c : Code} {D : va_G} {aC : Nat → ClassId} {ad : Nat → Nat} {T : x_T} {nx : Nat} {A : Nat → Prop} {q : Int32 × x_W} (C0 : x_At p s m meth c args "WallDampModel" b_Mod_curve (some (.int)) 5 D aC A) : ∀ (w : x_W) (H : Heap) (locs : List Loc) (ls : Array Slot) (l0 : Nat) (l1 : Int32) (l2 : Int32) (l3 : Int32) (t0 : Nat) (t1 : Int32), f_Mod_curve_107 T w l0 l1 l2 l3 t0 t1 = some q → x_H D x_cl x_FT aC ad T nx A w H → va_S A s.heap H locs → lv_has ls 5 [(0, .ref (ad l0)), (1, .int l1), (2, .int l2), (3, .int l3)] → W p l e { frames := 1, cells := 0, slots := 0, locals := 25 } s m args below meth c H locs 0 0 (MQ below (x_Qc D aC ad T nx (some (.int q.1)) q.2 A) args s 0 0 A) (F0 m 107 ls [.int t1, .ref (ad t0)]) := by
  obtain ⟨hx, hb, hr, hml, hown, hts, hlocks, hK, hA, hX⟩ := id C0
  intro w H locs ls l0 l1 l2 l3 t0 t1 hf hH hS hl
  unfold f_Mod_curve_107 at hf
  obtain ⟨_, e1, hf⟩ := x_b hf
  obtain ⟨n2, hT3⟩ := x_is_e e1
  refine x_put (C := "WallDampModel") (F := F_Mod) (N := 51) (ty := t_Mod 0) (v := .int t1) (w' := x_sI w 64 t0 t1) hx hb hts i_Mod t_Mod ty_Mod n_Mod hown hK hH hS hT3 (by decide) rfl rfl 0 (by decide) (hts _ m_793) (fun _ h9 => h9) rfl (ty_Mod 0 (by decide)) rfl rfl (x_on_I hT3 (by decide) rfl nd_Mod) (fun j hj => x_off_I hj) (fun hh ok => x_ok_I hh ok) d_Mod_curve_107 (fun H locs hH hS => ?_)
  obtain ⟨w4, e5, hf⟩ := x_b hf
  have hH := x_nw e5 hH
  refine lv_aload_n hx hb d_Mod_curve_110 rfl (lv_at hl 0 rfl) ?_
  obtain ⟨_, e6, hf⟩ := x_b hf
  obtain ⟨n7, hT8⟩ := x_is_e e6
  refine x_get (C := "WallDampModel") (F := F_Mod) (N := 51) hx hb hts i_Mod hown hK hH hT8 (by decide) rfl 0 (by decide) (hts _ m_793) (fun _ h9 => h9) (kd := (0, 64)) rfl rfl d_Mod_curve_111 ?_
  refine lv_if_le (tgt := 119) hx hb d_Mod_curve_114 (by decide) (fun c9 => ?_) (fun c9 => ?_)
  · have hf := x_it hf c9
    refine lv_aload_n hx hb d_Mod_curve_119 rfl (lv_at hl 0 rfl) ?_
    obtain ⟨a10, e11, hf⟩ := x_b hf
    refine x_get (C := "WallDampModel") (F := F_Mod) (N := 51) hx hb hts i_Mod hown hK hH hT8 (by decide) rfl 3 (by decide) (hts _ m_796) (fun _ h9 => h9) (kd := (2, 67)) rfl (x_fr e11) d_Mod_curve_120 ?_
    refine lv_bipush (v := 7) hx hb d_Mod_curve_123 (by decide) ?_
    refine lv_iload_n hx hb d_Mod_curve_125 rfl (lv_at hl 1 rfl) ?_
    refine lv_imul hx hb d_Mod_curve_126 ?_
    refine lv_aload_n hx hb d_Mod_curve_127 rfl (lv_at hl 0 rfl) ?_
    obtain ⟨a12, e13, hf⟩ := x_b hf
    refine x_get (C := "WallDampModel") (F := F_Mod) (N := 51) hx hb hts i_Mod hown hK hH hT8 (by decide) rfl 2 (by decide) (hts _ m_795) (fun _ h9 => h9) (kd := (2, 66)) rfl (x_fr e13) d_Mod_curve_128 ?_
    refine lv_iload_n hx hb d_Mod_curve_131 rfl (lv_at hl 1 rfl) ?_
    obtain ⟨_, e14, hf⟩ := x_b hf
    obtain ⟨n15, hT16, hi17⟩ := x_ix_e e14
    refine x_iald hx hb hK hH hT16 0 rfl hi17 d_Mod_curve_132 ?_
    refine lv_iadd hx hb d_Mod_curve_133 ?_
    refine lv_iload_n hx hb d_Mod_curve_134 rfl (lv_at hl 2 rfl) ?_
    obtain ⟨_, e18, hf⟩ := x_b hf
    obtain ⟨n19, hT20, hi21⟩ := x_ix_e e18
    refine x_iast hx hb hK hH hS hT20 0 rfl hi21 d_Mod_curve_135 (fun H locs hH hS => ?_)
    obtain ⟨w22, e23, hf⟩ := x_b hf
    have hH := x_nw e23 hH
    refine lv_aload_n hx hb d_Mod_curve_136 rfl (lv_at hl 0 rfl) ?_
    obtain ⟨a24, e25, hf⟩ := x_b hf
    refine x_get (C := "WallDampModel") (F := F_Mod) (N := 51) hx hb hts i_Mod hown hK hH hT8 (by decide) rfl 4 (by decide) (hts _ m_797) (fun _ h9 => h9) (kd := (2, 68)) rfl (x_fr e25) d_Mod_curve_137 ?_
    refine lv_bipush (v := 7) hx hb d_Mod_curve_140 (by decide) ?_
    refine lv_iload_n hx hb d_Mod_curve_142 rfl (lv_at hl 1 rfl) ?_
    refine lv_imul hx hb d_Mod_curve_143 ?_
    refine lv_aload_n hx hb d_Mod_curve_144 rfl (lv_at hl 0 rfl) ?_
    obtain ⟨a26, e27, hf⟩ := x_b hf
    refine x_get (C := "WallDampModel") (F := F_Mod) (N := 51) hx hb hts i_Mod hown hK hH hT8 (by decide) rfl 2 (by decide) (hts _ m_795) (fun _ h9 => h9) (kd := (2, 66)) rfl (x_fr e27) d_Mod_curve_145 ?_
    refine lv_iload_n hx hb d_Mod_curve_148 rfl (lv_at hl 1 rfl) ?_
    obtain ⟨_, e28, hf⟩ := x_b hf
    obtain ⟨n29, hT30, hi31⟩ := x_ix_e e28
    refine x_iald hx hb hK hH hT30 0 rfl hi31 d_Mod_curve_149 ?_
    refine lv_iadd hx hb d_Mod_curve_150 ?_
    refine lv_iload_n hx hb d_Mod_curve_151 rfl (lv_at hl 3 rfl) ?_
    obtain ⟨_, e32, hf⟩ := x_b hf
    obtain ⟨n33, hT34, hi35⟩ := x_ix_e e32
    refine x_iast hx hb hK hH hS hT34 0 rfl hi35 d_Mod_curve_152 (fun H locs hH hS => ?_)
    obtain ⟨w36, e37, hf⟩ := x_b hf
    have hH := x_nw e37 hH
    refine lv_aload_n hx hb d_Mod_curve_153 rfl (lv_at hl 0 rfl) ?_
    obtain ⟨a38, e39, hf⟩ := x_b hf
    refine x_get (C := "WallDampModel") (F := F_Mod) (N := 51) hx hb hts i_Mod hown hK hH hT8 (by decide) rfl 2 (by decide) (hts _ m_795) (fun _ h9 => h9) (kd := (2, 66)) rfl (x_fr e39) d_Mod_curve_154 ?_
    refine lv_iload_n hx hb d_Mod_curve_157 rfl (lv_at hl 1 rfl) ?_
    refine lv_dup2_11 hx hb d_Mod_curve_158 rfl rfl ?_
    obtain ⟨_, e40, hf⟩ := x_b hf
    obtain ⟨n41, hT42, hi43⟩ := x_ix_e e40
    refine x_iald hx hb hK hH hT42 0 rfl hi43 d_Mod_curve_159 ?_
    refine lv_iconst (v := 1) hx hb d_Mod_curve_160 (by decide) ?_
    refine lv_iadd hx hb d_Mod_curve_161 ?_
    obtain ⟨_, e44, hf⟩ := x_b hf
    obtain ⟨n45, hT46, hi47⟩ := x_ix_e e44
    refine x_iast hx hb hK hH hS hT46 0 rfl hi47 d_Mod_curve_162 (fun H locs hH hS => ?_)
    obtain ⟨w48, e49, hf⟩ := x_b hf
    have hH := x_nw e49 hH
    refine lv_aload_n hx hb d_Mod_curve_163 rfl (lv_at hl 0 rfl) ?_
    obtain ⟨a50, e51, hf⟩ := x_b hf
    refine x_get (C := "WallDampModel") (F := F_Mod) (N := 51) hx hb hts i_Mod hown hK hH hT8 (by decide) rfl 2 (by decide) (hts _ m_795) (fun _ h9 => h9) (kd := (2, 66)) rfl (x_fr e51) d_Mod_curve_164 ?_
    refine lv_iload_n hx hb d_Mod_curve_167 rfl (lv_at hl 1 rfl) ?_
    obtain ⟨_, e52, hf⟩ := x_b hf
    obtain ⟨n53, hT54, hi55⟩ := x_ix_e e52
    refine x_iald hx hb hK hH hT54 0 rfl hi55 d_Mod_curve_168 ?_
    cases hf
    refine x_sz0 hS (fun hz => ?_)
    exact W.iret hx hb hr (fun t ht hW => ⟨rfl, hS.F ht, by rw [ht]; exact hz, by rw [ht]; exact hH.weaken (fun _ _ _ => trivial)⟩) hS.2.2 d_Mod_curve_169
  · have hf := x_if hf c9
    refine lv_iconst (v := 0) hx hb d_Mod_curve_117 (by decide) ?_
    cases hf
    refine x_sz0 hS (fun hz => ?_)
    exact W.iret hx hb hr (fun t ht hW => ⟨rfl, hS.F ht, by rw [ht]; exact hz, by rw [ht]; exact hH.weaken (fun _ _ _ => trivial)⟩) hS.2.2 d_Mod_curve_118
set_option maxHeartbeats 4000000 in
set_option maxRecDepth 100000 in
theorem k_Mod_curve_102 {p : Program} {l : Launch} {e : Env} {s : State} {m : MethodId} {args : Array Value} {below : List Frame} {meth : Method} {c : Code} {D : va_G} {aC : Nat → ClassId} {ad : Nat → Nat} {T : x_T} {nx : Nat} {A : Nat → Prop} {q : Int32 × x_W} (C0 : x_At p s m meth c args "WallDampModel" b_Mod_curve (some (.int)) 5 D aC A) : ∀ (w : x_W) (H : Heap) (locs : List Loc) (ls : Array Slot) (l0 : Nat) (l1 : Int32) (l2 : Int32) (l3 : Int32) (t0 : Nat), f_Mod_curve_102 T w l0 l1 l2 l3 t0 = some q → x_H D x_cl x_FT aC ad T nx A w H → va_S A s.heap H locs → lv_has ls 5 [(0, .ref (ad l0)), (1, .int l1), (2, .int l2), (3, .int l3)] → W p l e { frames := 1, cells := 0, slots := 0, locals := 25 } s m args below meth c H locs 0 0 (MQ below (x_Qc D aC ad T nx (some (.int q.1)) q.2 A) args s 0 0 A) (F0 m 102 ls [.ref (ad t0)]) := by
  obtain ⟨hx, hb, hr, hml, hown, hts, hlocks, hK, hA, hX⟩ := id C0
  intro w H locs ls l0 l1 l2 l3 t0 hf hH hS hl
  unfold f_Mod_curve_102 at hf
  refine lv_iconst (v := 2) hx hb d_Mod_curve_102 (by decide) ?_
  refine lv_goto (tgt := 107) hx hb d_Mod_curve_103 (by decide) ?_
  exact k_Mod_curve_107 C0 w _ _ _ l0 l1 l2 l3 t0 (2 : Int32) hf hH hS (lv_sub hl [0, 1, 2, 3] rfl)
set_option maxHeartbeats 4000000 in
set_option maxRecDepth 100000 in
theorem k_Mod_curve_41 {p : Program} {l : Launch} {e : Env} {s : State} {m : MethodId} {args : Array Value} {below : List Frame} {meth : Method} {c : Code} {D : va_G} {aC : Nat → ClassId} {ad : Nat → Nat} {T : x_T} {nx : Nat} {A : Nat → Prop} {q : Int32 × x_W} (C0 : x_At p s m meth c args "WallDampModel" b_Mod_curve (some (.int)) 5 D aC A) : ∀ (w : x_W) (H : Heap) (locs : List Loc) (ls : Array Slot) (l0 : Nat) (l1 : Int32) (l2 : Int32) (l3 : Int32) (t0 : Int32), f_Mod_curve_41 T w l0 l1 l2 l3 t0 = some q → x_H D x_cl x_FT aC ad T nx A w H → va_S A s.heap H locs → lv_has ls 5 [(0, .ref (ad l0)), (1, .int l1), (2, .int l2), (3, .int l3)] → W p l e { frames := 1, cells := 0, slots := 0, locals := 25 } s m args below meth c H locs 0 0 (MQ below (x_Qc D aC ad T nx (some (.int q.1)) q.2 A) args s 0 0 A) (F0 m 41 ls [.int t0]) := by
  obtain ⟨hx, hb, hr, hml, hown, hts, hlocks, hK, hA, hX⟩ := id C0
  intro w H locs ls l0 l1 l2 l3 t0 hf hH hS hl
  unfold f_Mod_curve_41 at hf
  refine lv_istore (lv' := [(4, .int t0), (0, .ref (ad l0)), (1, .int l1), (2, .int l2), (3, .int l3)]) hx hb d_Mod_curve_41 hl (by decide) rfl (fun ls hl => ?_)
  refine lv_aload_n hx hb d_Mod_curve_43 rfl (lv_at hl 1 rfl) ?_
  refine lv_iload hx hb d_Mod_curve_44 (lv_at hl 0 rfl) ?_
  refine lv_if_ne (tgt := 53) hx hb d_Mod_curve_46 (by decide) (fun c1 => ?_) (fun c1 => ?_)
  · have hf := x_if hf c1
    refine lv_aload_n hx hb d_Mod_curve_53 rfl (lv_at hl 1 rfl) ?_
    obtain ⟨_, e2, hf⟩ := x_b hf
    obtain ⟨n3, hT4⟩ := x_is_e e2
    obtain ⟨a5, e6, hf⟩ := x_b hf
    refine x_get (C := "WallDampModel") (F := F_Mod) (N := 51) hx hb hts i_Mod hown hK hH hT4 (by decide) rfl 2 (by decide) (hts _ m_795) (fun _ h9 => h9) (kd := (2, 66)) rfl (x_fr e6) d_Mod_curve_54 ?_
    refine lv_iload_n hx hb d_Mod_curve_57 rfl (lv_at hl 2 rfl) ?_
    obtain ⟨_, e7, hf⟩ := x_b hf
    obtain ⟨n8, hT9, hi10⟩ := x_ix_e e7
    refine x_iald hx hb hK hH hT9 0 rfl hi10 d_Mod_curve_58 ?_
    refine lv_bipush (v := 7) hx hb d_Mod_curve_59 (by decide) ?_
    refine lv_icmp_eq (tgt := 102) hx hb d_Mod_curve_61 (by decide) (fun c11 => ?_) (fun c11 => ?_)
    · have hf := x_it hf c11
      exact k_Mod_curve_102 C0 w _ _ _ l0 l1 l2 l3 l0 hf hH hS (lv_sub hl [1, 2, 3, 4] rfl)
    · have hf := x_if hf c11
      refine lv_iload_n hx hb d_Mod_curve_64 rfl (lv_at hl 3 rfl) ?_
      refine lv_aload_n hx hb d_Mod_curve_65 rfl (lv_at hl 1 rfl) ?_
      refine lv_iload_n hx hb d_Mod_curve_66 rfl (lv_at hl 2 rfl) ?_
      obtain ⟨q12, e13, hf⟩ := x_b hf
      refine x_callP (st1 := [.int q12, .int l2, .ref (ad l0)]) (x_runV (As := [.int l1]) (rest := [.int l2, .ref (ad l0)]) ⟨hx, hb, hml, hown, hts⟩ (c_Mod_most l D aC ad T nx H.size w l0 l1 q12 e13) (cwV 1 hts (x_gV m_963 m_965 ms_15 m_13 m_966) rfl rfl rfl ⟨rfl, pd_Mod_most⟩ ⟨Nat.le_of_ble_eq_true rfl, Nat.le_of_ble_eq_true rfl⟩) hH hK hX hT4 (by decide) rfl rfl rfl hl.1 rfl (lv_room (Nat.le_of_ble_eq_true rfl)) d_Mod_curve_67 ⟨Nat.zero_le _, Nat.zero_le _⟩) rfl ?_
      refine lv_icmp_le (tgt := 102) hx hb d_Mod_curve_70 (by decide) (fun c14 => ?_) (fun c14 => ?_)
      · have hf := x_it hf c14
        exact k_Mod_curve_102 C0 w _ _ _ l0 l1 l2 l3 l0 hf hH hS (lv_sub hl [1, 2, 3, 4] rfl)
      · have hf := x_if hf c14
        refine lv_iload_n hx hb d_Mod_curve_73 rfl (lv_at hl 4 rfl) ?_
        refine lv_aload_n hx hb d_Mod_curve_74 rfl (lv_at hl 1 rfl) ?_
        obtain ⟨a15, e16, hf⟩ := x_b hf
        refine x_get (C := "WallDampModel") (F := F_Mod) (N := 51) hx hb hts i_Mod hown hK hH hT4 (by decide) rfl 4 (by decide) (hts _ m_797) (fun _ h9 => h9) (kd := (2, 68)) rfl (x_fr e16) d_Mod_curve_75 ?_
        refine lv_bipush (v := 7) hx hb d_Mod_curve_78 (by decide) ?_
        refine lv_iload_n hx hb d_Mod_curve_80 rfl (lv_at hl 2 rfl) ?_
        refine lv_imul hx hb d_Mod_curve_81 ?_
        refine lv_aload_n hx hb d_Mod_curve_82 rfl (lv_at hl 1 rfl) ?_
        obtain ⟨a17, e18, hf⟩ := x_b hf
        refine x_get (C := "WallDampModel") (F := F_Mod) (N := 51) hx hb hts i_Mod hown hK hH hT4 (by decide) rfl 2 (by decide) (hts _ m_795) (fun _ h9 => h9) (kd := (2, 66)) rfl (x_fr e18) d_Mod_curve_83 ?_
        refine lv_iload_n hx hb d_Mod_curve_86 rfl (lv_at hl 2 rfl) ?_
        obtain ⟨_, e19, hf⟩ := x_b hf
        obtain ⟨n20, hT21, hi22⟩ := x_ix_e e19
        refine x_iald hx hb hK hH hT21 0 rfl hi22 d_Mod_curve_87 ?_
        refine lv_iadd hx hb d_Mod_curve_88 ?_
        refine lv_iconst (v := 1) hx hb d_Mod_curve_89 (by decide) ?_
        refine lv_isub hx hb d_Mod_curve_90 ?_
        obtain ⟨_, e23, hf⟩ := x_b hf
        obtain ⟨n24, hT25, hi26⟩ := x_ix_e e23
        refine x_iald hx hb hK hH hT25 0 rfl hi26 d_Mod_curve_91 ?_
        refine lv_icmp_le (tgt := 102) hx hb d_Mod_curve_92 (by decide) (fun c27 => ?_) (fun c27 => ?_)
        · have hf := x_it hf c27
          exact k_Mod_curve_102 C0 w _ _ _ l0 l1 l2 l3 l0 hf hH hS (lv_sub hl [1, 2, 3, 4] rfl)
        · have hf := x_if hf c27
          refine lv_aload_n hx hb d_Mod_curve_95 rfl (lv_at hl 1 rfl) ?_
          refine x_get (C := "WallDampModel") (F := F_Mod) (N := 51) hx hb hts i_Mod hown hK hH hT4 (by decide) rfl 32 (by decide) (hts _ m_825) (fun _ h9 => h9) (kd := (0, 96)) rfl rfl d_Mod_curve_96 ?_
          refine lv_if_le (tgt := 106) hx hb d_Mod_curve_99 (by decide) (fun c28 => ?_) (fun c28 => ?_)
          · have hf := x_it hf c28
            refine lv_iconst (v := 0) hx hb d_Mod_curve_106 (by decide) ?_
            exact k_Mod_curve_107 C0 w _ _ _ l0 l1 l2 l3 l0 (0 : Int32) hf hH hS (lv_sub hl [1, 2, 3, 4] rfl)
          · have hf := x_if hf c28
            exact k_Mod_curve_102 C0 w _ _ _ l0 l1 l2 l3 l0 hf hH hS (lv_sub hl [1, 2, 3, 4] rfl)
  · have hf := x_it hf c1
    refine lv_iconst (v := 1) hx hb d_Mod_curve_49 (by decide) ?_
    refine lv_goto (tgt := 107) hx hb d_Mod_curve_50 (by decide) ?_
    exact k_Mod_curve_107 C0 w _ _ _ l0 l1 l2 l3 l0 (1 : Int32) hf hH hS (lv_sub hl [1, 2, 3, 4] rfl)
set_option maxHeartbeats 4000000 in
set_option maxRecDepth 100000 in
theorem k_Mod_curve_40 {p : Program} {l : Launch} {e : Env} {s : State} {m : MethodId} {args : Array Value} {below : List Frame} {meth : Method} {c : Code} {D : va_G} {aC : Nat → ClassId} {ad : Nat → Nat} {T : x_T} {nx : Nat} {A : Nat → Prop} {q : Int32 × x_W} (C0 : x_At p s m meth c args "WallDampModel" b_Mod_curve (some (.int)) 5 D aC A) : ∀ (w : x_W) (H : Heap) (locs : List Loc) (ls : Array Slot) (l0 : Nat) (l1 : Int32) (l2 : Int32) (l3 : Int32), f_Mod_curve_40 T w l0 l1 l2 l3 = some q → x_H D x_cl x_FT aC ad T nx A w H → va_S A s.heap H locs → lv_has ls 5 [(0, .ref (ad l0)), (1, .int l1), (2, .int l2), (3, .int l3)] → W p l e { frames := 1, cells := 0, slots := 0, locals := 25 } s m args below meth c H locs 0 0 (MQ below (x_Qc D aC ad T nx (some (.int q.1)) q.2 A) args s 0 0 A) (F0 m 40 ls []) := by
  obtain ⟨hx, hb, hr, hml, hown, hts, hlocks, hK, hA, hX⟩ := id C0
  intro w H locs ls l0 l1 l2 l3 hf hH hS hl
  unfold f_Mod_curve_40 at hf
  refine lv_iconst (v := 0) hx hb d_Mod_curve_40 (by decide) ?_
  exact k_Mod_curve_41 C0 w _ _ _ l0 l1 l2 l3 (0 : Int32) hf hH hS (lv_sub hl [0, 1, 2, 3] rfl)
set_option maxHeartbeats 4000000 in
set_option maxRecDepth 100000 in
theorem k_Mod_curve {p : Program} {l : Launch} {e : Env} {s : State} {m : MethodId} {args : Array Value} {below : List Frame} {meth : Method} {c : Code} {D : va_G} {aC : Nat → ClassId} {ad : Nat → Nat} {T : x_T} {nx : Nat} {A : Nat → Prop} {q : Int32 × x_W} (C0 : x_At p s m meth c args "WallDampModel" b_Mod_curve (some (.int)) 5 D aC A) : ∀ (w : x_W) (H : Heap) (locs : List Loc) (ls : Array Slot) (l0 : Nat) (l1 : Int32) (l2 : Int32) (l3 : Int32), f_Mod_curve T w l0 l1 l2 l3 = some q → x_H D x_cl x_FT aC ad T nx A w H → va_S A s.heap H locs → lv_has ls 5 [(0, .ref (ad l0)), (1, .int l1), (2, .int l2), (3, .int l3)] → W p l e { frames := 1, cells := 0, slots := 0, locals := 25 } s m args below meth c H locs 0 0 (MQ below (x_Qc D aC ad T nx (some (.int q.1)) q.2 A) args s 0 0 A) (F0 m 0 ls []) := by
  obtain ⟨hx, hb, hr, hml, hown, hts, hlocks, hK, hA, hX⟩ := id C0
  intro w H locs ls l0 l1 l2 l3 hf hH hS hl
  unfold f_Mod_curve at hf
  refine lv_iload_n hx hb d_Mod_curve_0 rfl (lv_at hl 1 rfl) ?_
  refine lv_i2l (v := l1.toInt64) hx hb d_Mod_curve_1 rfl ?_
  refine lv_lconst (v := 0) hx hb d_Mod_curve_2 (by decide) ?_
  refine lv_ldc2 (v := (5 : Int64)) hx hb hown (hts _ m_957) d_Mod_curve_3 ?_
  obtain ⟨q1, e2, hf⟩ := x_b hf
  refine x_callP (st1 := [.int q1]) (x_runS (As := [.long (l1.toInt64), .long (0 : Int64), .long (5 : Int64)]) (rest := []) ⟨hx, hb, hml, hown, hts⟩ (c_Mod_in l D aC ad T nx H.size w (l1.toInt64) (0 : Int64) (5 : Int64) q1 e2) (va_cwS 3 hts (x_gS m_958 m_959 m_13 m_960) rfl rfl rfl pd_Mod_in ⟨Nat.le_of_ble_eq_true rfl, Nat.le_of_ble_eq_true rfl⟩) hH hK hX rfl hl.1 rfl (lv_room (Nat.le_of_ble_eq_true rfl)) d_Mod_curve_6 ⟨Nat.zero_le _, Nat.zero_le _⟩) rfl ?_
  refine lv_if_eq (tgt := 40) hx hb d_Mod_curve_9 (by decide) (fun c3 => ?_) (fun c3 => ?_)
  · have hf := x_it hf c3
    exact k_Mod_curve_40 C0 w _ _ _ l0 l1 l2 l3 hf hH hS (lv_sub hl [0, 1, 2, 3] rfl)
  · have hf := x_if hf c3
    refine lv_iload_n hx hb d_Mod_curve_12 rfl (lv_at hl 2 rfl) ?_
    refine lv_i2l (v := l2.toInt64) hx hb d_Mod_curve_13 rfl ?_
    refine lv_lconst (v := 0) hx hb d_Mod_curve_14 (by decide) ?_
    refine lv_ldc2 (v := (1000000 : Int64)) hx hb hown (hts _ m_961) d_Mod_curve_15 ?_
    obtain ⟨q4, e5, hf⟩ := x_b hf
    refine x_callP (st1 := [.int q4]) (x_runS (As := [.long (l2.toInt64), .long (0 : Int64), .long (1000000 : Int64)]) (rest := []) ⟨hx, hb, hml, hown, hts⟩ (c_Mod_in l D aC ad T nx H.size w (l2.toInt64) (0 : Int64) (1000000 : Int64) q4 e5) (va_cwS 3 hts (x_gS m_958 m_959 m_13 m_960) rfl rfl rfl pd_Mod_in ⟨Nat.le_of_ble_eq_true rfl, Nat.le_of_ble_eq_true rfl⟩) hH hK hX rfl hl.1 rfl (lv_room (Nat.le_of_ble_eq_true rfl)) d_Mod_curve_18 ⟨Nat.zero_le _, Nat.zero_le _⟩) rfl ?_
    refine lv_if_eq (tgt := 40) hx hb d_Mod_curve_21 (by decide) (fun c6 => ?_) (fun c6 => ?_)
    · have hf := x_it hf c6
      exact k_Mod_curve_40 C0 w _ _ _ l0 l1 l2 l3 hf hH hS (lv_sub hl [0, 1, 2, 3] rfl)
    · have hf := x_if hf c6
      refine lv_iload_n hx hb d_Mod_curve_24 rfl (lv_at hl 3 rfl) ?_
      refine lv_i2l (v := l3.toInt64) hx hb d_Mod_curve_25 rfl ?_
      refine lv_lconst (v := 0) hx hb d_Mod_curve_26 (by decide) ?_
      refine lv_ldc2 (v := (10000 : Int64)) hx hb hown (hts _ m_962) d_Mod_curve_27 ?_
      obtain ⟨q7, e8, hf⟩ := x_b hf
      refine x_callP (st1 := [.int q7]) (x_runS (As := [.long (l3.toInt64), .long (0 : Int64), .long (10000 : Int64)]) (rest := []) ⟨hx, hb, hml, hown, hts⟩ (c_Mod_in l D aC ad T nx H.size w (l3.toInt64) (0 : Int64) (10000 : Int64) q7 e8) (va_cwS 3 hts (x_gS m_958 m_959 m_13 m_960) rfl rfl rfl pd_Mod_in ⟨Nat.le_of_ble_eq_true rfl, Nat.le_of_ble_eq_true rfl⟩) hH hK hX rfl hl.1 rfl (lv_room (Nat.le_of_ble_eq_true rfl)) d_Mod_curve_30 ⟨Nat.zero_le _, Nat.zero_le _⟩) rfl ?_
      refine lv_if_eq (tgt := 40) hx hb d_Mod_curve_33 (by decide) (fun c9 => ?_) (fun c9 => ?_)
      · have hf := x_it hf c9
        exact k_Mod_curve_40 C0 w _ _ _ l0 l1 l2 l3 hf hH hS (lv_sub hl [0, 1, 2, 3] rfl)
      · have hf := x_if hf c9
        refine lv_iconst (v := 1) hx hb d_Mod_curve_36 (by decide) ?_
        refine lv_goto (tgt := 41) hx hb d_Mod_curve_37 (by decide) ?_
        exact k_Mod_curve_41 C0 w _ _ _ l0 l1 l2 l3 (1 : Int32) hf hH hS (lv_sub hl [0, 1, 2, 3] rfl)
theorem c_Mod_curve (l : Launch) (D : va_G) (aC : Nat → ClassId) (ad : Nat → Nat) (T : x_T) (nx sz : Nat) (w : x_W) (a0 : Nat) (a1 : Int32) (a2 : Int32) (a3 : Int32) (q : Int32 × x_W) (hf : f_Mod_curve T w a0 a1 a2 a3 = some q) : Met l y_Mod_curve ws_Mod_curve { frames := 1, cells := 0, slots := 0, locals := 25 } (x_Pc D aC ad T nx sz w [.ref (ad a0), .int a1, .int a2, .int a3]) (x_Qc D aC ad T nx (some (.int q.1)) q.2 (x_dom ad nx sz)) 0 0 (x_dom ad nx sz) :=
  x_met [(0, .ref (ad a0)), (1, .int a1), (2, .int a2), (3, .int a3)] (plainFor_of_name (by decide)) rfl rfl (Nat.le_of_ble_eq_true rfl) (fun p e s m args below meth c ls C0 hH hS hl => k_Mod_curve C0 w _ _ _ a0 a1 a2 a3 hf hH hS (lv_sub hl [0, 1, 2, 3] rfl))
/-! WallDampModel.rates(IIII)V -/
def f_Mod_rates_87 (T : x_T) (w : x_W) : Option (x_W) :=
  some w
def f_Mod_rates_55 (T : x_T) (w : x_W) (l0 : Nat) (l1 : Int32) (l2 : Int32) (l3 : Int32) (l4 : Int32) (t0 : Nat) (t1 : Int32) : Option (x_W) :=
  (x_is T t0 10).bind fun _ =>
  (some (x_sI w 64 t0 t1)).bind fun w4 =>
  (x_is T l0 10).bind fun _ =>
  if (x_I w4 64 l0) = 0 then
    ((x_R w4 69 l0).bind fun a10 =>
    (x_ix T a10 100 l1).bind fun _ =>
    (some (x_sA w4 a10 l1.toNatClampNeg l2)).bind fun w16 =>
    (x_R w16 70 l0).bind fun a18 =>
    (x_ix T a18 100 l1).bind fun _ =>
    (some (x_sA w16 a18 l1.toNatClampNeg l3)).bind fun w24 =>
    (x_R w24 71 l0).bind fun a26 =>
    (x_ix T a26 100 l1).bind fun _ =>
    (some (x_sA w24 a26 l1.toNatClampNeg l4)).bind fun w32 =>
    f_Mod_rates_87 T w32)
  else
    (f_Mod_rates_87 T w4)
def f_Mod_rates_54 (T : x_T) (w : x_W) (l0 : Nat) (l1 : Int32) (l2 : Int32) (l3 : Int32) (l4 : Int32) (t0 : Nat) : Option (x_W) :=
  f_Mod_rates_55 T w l0 l1 l2 l3 l4 t0 (1 : Int32)
def f_Mod_rates (T : x_T) (w : x_W) (l0 : Nat) (l1 : Int32) (l2 : Int32) (l3 : Int32) (l4 : Int32) : Option (x_W) :=
  (f_Mod_in T w (l1.toInt64) (0 : Int64) (5 : Int64)).bind fun q1 =>
  if q1 = 0 then
    (f_Mod_rates_54 T w l0 l1 l2 l3 l4 l0)
  else
    ((f_Mod_in T w (l2.toInt64) (0 : Int64) (1000 : Int64)).bind fun q4 =>
    if q4 = 0 then
      (f_Mod_rates_54 T w l0 l1 l2 l3 l4 l0)
    else
      ((f_Mod_in T w (l3.toInt64) (0 : Int64) (1000 : Int64)).bind fun q7 =>
      if q7 = 0 then
        (f_Mod_rates_54 T w l0 l1 l2 l3 l4 l0)
      else
        ((f_Mod_in T w (l4.toInt64) (1 : Int64) (1000 : Int64)).bind fun q10 =>
        if q10 = 0 then
          (f_Mod_rates_54 T w l0 l1 l2 l3 l4 l0)
        else
          (f_Mod_rates_55 T w l0 l1 l2 l3 l4 l0 (0 : Int32)))))
set_option maxHeartbeats 4000000 in
set_option maxRecDepth 100000 in
theorem k_Mod_rates_87 {p : Program} {l : Launch} {e : Env} {s : State} {m : MethodId} {args : Array Value} {below : List Frame} {meth : Method} {c : Code} {D : va_G} {aC : Nat → ClassId} {ad : Nat → Nat} {T : x_T} {nx : Nat} {A : Nat → Prop} {q : x_W} (C0 : x_At p s m meth c args "WallDampModel" b_Mod_rates none 5 D aC A) : ∀ (w : x_W) (H : Heap) (locs : List Loc) (ls : Array Slot), f_Mod_rates_87 T w = some q → x_H D x_cl x_FT aC ad T nx A w H → va_S A s.heap H locs → lv_has ls 5 [] → W p l e { frames := 1, cells := 0, slots := 0, locals := 25 } s m args below meth c H locs 0 0 (MQ below (x_Qc D aC ad T nx none q A) args s 0 0 A) (F0 m 87 ls []) := by
  obtain ⟨hx, hb, hr, hml, hown, hts, hlocks, hK, hA, hX⟩ := id C0
  intro w H locs ls hf hH hS hl
  unfold f_Mod_rates_87 at hf
  cases hf
  refine x_sz0 hS (fun hz => ?_)
  exact W.vret hx hb hr (fun t ht hW => ⟨rfl, hS.F ht, by rw [ht]; exact hz, by rw [ht]; exact hH.weaken (fun _ _ _ => trivial)⟩) hS.2.2 d_Mod_rates_87
set_option maxHeartbeats 4000000 in
set_option maxRecDepth 100000 in
theorem k_Mod_rates_55 {p : Program} {l : Launch} {e : Env} {s : State} {m : MethodId} {args : Array Value} {below : List Frame} {meth : Method} {c : Code} {D : va_G} {aC : Nat → ClassId} {ad : Nat → Nat} {T : x_T} {nx : Nat} {A : Nat → Prop} {q : x_W} (C0 : x_At p s m meth c args "WallDampModel" b_Mod_rates none 5 D aC A) : ∀ (w : x_W) (H : Heap) (locs : List Loc) (ls : Array Slot) (l0 : Nat) (l1 : Int32) (l2 : Int32) (l3 : Int32) (l4 : Int32) (t0 : Nat) (t1 : Int32), f_Mod_rates_55 T w l0 l1 l2 l3 l4 t0 t1 = some q → x_H D x_cl x_FT aC ad T nx A w H → va_S A s.heap H locs → lv_has ls 5 [(0, .ref (ad l0)), (1, .int l1), (2, .int l2), (3, .int l3), (4, .int l4)] → W p l e { frames := 1, cells := 0, slots := 0, locals := 25 } s m args below meth c H locs 0 0 (MQ below (x_Qc D aC ad T nx none q A) args s 0 0 A) (F0 m 55 ls [.int t1, .ref (ad t0)]) := by
  obtain ⟨hx, hb, hr, hml, hown, hts, hlocks, hK, hA, hX⟩ := id C0
  intro w H locs ls l0 l1 l2 l3 l4 t0 t1 hf hH hS hl
  unfold f_Mod_rates_55 at hf
  obtain ⟨_, e1, hf⟩ := x_b hf
  obtain ⟨n2, hT3⟩ := x_is_e e1
  refine x_put (C := "WallDampModel") (F := F_Mod) (N := 51) (ty := t_Mod 0) (v := .int t1) (w' := x_sI w 64 t0 t1) hx hb hts i_Mod t_Mod ty_Mod n_Mod hown hK hH hS hT3 (by decide) rfl rfl 0 (by decide) (hts _ m_793) (fun _ h9 => h9) rfl (ty_Mod 0 (by decide)) rfl rfl (x_on_I hT3 (by decide) rfl nd_Mod) (fun j hj => x_off_I hj) (fun hh ok => x_ok_I hh ok) d_Mod_rates_55 (fun H locs hH hS => ?_)
  obtain ⟨w4, e5, hf⟩ := x_b hf
  have hH := x_nw e5 hH
  refine lv_aload_n hx hb d_Mod_rates_58 rfl (lv_at hl 0 rfl) ?_
  obtain ⟨_, e6, hf⟩ := x_b hf
  obtain ⟨n7, hT8⟩ := x_is_e e6
  refine x_get (C := "WallDampModel") (F := F_Mod) (N := 51) hx hb hts i_Mod hown hK hH hT8 (by decide) rfl 0 (by decide) (hts _ m_793) (fun _ h9 => h9) (kd := (0, 64)) rfl rfl d_Mod_rates_59 ?_
  refine lv_if_ne (tgt := 87) hx hb d_Mod_rates_62 (by decide) (fun c9 => ?_) (fun c9 => ?_)
  · have hf := x_if hf c9
    exact k_Mod_rates_87 C0 w4 _ _ _ hf hH hS (lv_sub hl [] rfl)
  · have hf := x_it hf c9
    refine lv_aload_n hx hb d_Mod_rates_65 rfl (lv_at hl 0 rfl) ?_
    obtain ⟨a10, e11, hf⟩ := x_b hf
    refine x_get (C := "WallDampModel") (F := F_Mod) (N := 51) hx hb hts i_Mod hown hK hH hT8 (by decide) rfl 5 (by decide) (hts _ m_798) (fun _ h9 => h9) (kd := (2, 69)) rfl (x_fr e11) d_Mod_rates_66 ?_
    refine lv_iload_n hx hb d_Mod_rates_69 rfl (lv_at hl 1 rfl) ?_
    refine lv_iload_n hx hb d_Mod_rates_70 rfl (lv_at hl 2 rfl) ?_
    obtain ⟨_, e12, hf⟩ := x_b hf
    obtain ⟨n13, hT14, hi15⟩ := x_ix_e e12
    refine x_iast hx hb hK hH hS hT14 0 rfl hi15 d_Mod_rates_71 (fun H locs hH hS => ?_)
    obtain ⟨w16, e17, hf⟩ := x_b hf
    have hH := x_nw e17 hH
    refine lv_aload_n hx hb d_Mod_rates_72 rfl (lv_at hl 0 rfl) ?_
    obtain ⟨a18, e19, hf⟩ := x_b hf
    refine x_get (C := "WallDampModel") (F := F_Mod) (N := 51) hx hb hts i_Mod hown hK hH hT8 (by decide) rfl 6 (by decide) (hts _ m_799) (fun _ h9 => h9) (kd := (2, 70)) rfl (x_fr e19) d_Mod_rates_73 ?_
    refine lv_iload_n hx hb d_Mod_rates_76 rfl (lv_at hl 1 rfl) ?_
    refine lv_iload_n hx hb d_Mod_rates_77 rfl (lv_at hl 3 rfl) ?_
    obtain ⟨_, e20, hf⟩ := x_b hf
    obtain ⟨n21, hT22, hi23⟩ := x_ix_e e20
    refine x_iast hx hb hK hH hS hT22 0 rfl hi23 d_Mod_rates_78 (fun H locs hH hS => ?_)
    obtain ⟨w24, e25, hf⟩ := x_b hf
    have hH := x_nw e25 hH
    refine lv_aload_n hx hb d_Mod_rates_79 rfl (lv_at hl 0 rfl) ?_
    obtain ⟨a26, e27, hf⟩ := x_b hf
    refine x_get (C := "WallDampModel") (F := F_Mod) (N := 51) hx hb hts i_Mod hown hK hH hT8 (by decide) rfl 7 (by decide) (hts _ m_800) (fun _ h9 => h9) (kd := (2, 71)) rfl (x_fr e27) d_Mod_rates_80 ?_
    refine lv_iload_n hx hb d_Mod_rates_83 rfl (lv_at hl 1 rfl) ?_
    refine lv_iload hx hb d_Mod_rates_84 (lv_at hl 4 rfl) ?_
    obtain ⟨_, e28, hf⟩ := x_b hf
    obtain ⟨n29, hT30, hi31⟩ := x_ix_e e28
    refine x_iast hx hb hK hH hS hT30 0 rfl hi31 d_Mod_rates_86 (fun H locs hH hS => ?_)
    obtain ⟨w32, e33, hf⟩ := x_b hf
    have hH := x_nw e33 hH
    exact k_Mod_rates_87 C0 w32 _ _ _ hf hH hS (lv_sub hl [] rfl)
set_option maxHeartbeats 4000000 in
set_option maxRecDepth 100000 in
theorem k_Mod_rates_54 {p : Program} {l : Launch} {e : Env} {s : State} {m : MethodId} {args : Array Value} {below : List Frame} {meth : Method} {c : Code} {D : va_G} {aC : Nat → ClassId} {ad : Nat → Nat} {T : x_T} {nx : Nat} {A : Nat → Prop} {q : x_W} (C0 : x_At p s m meth c args "WallDampModel" b_Mod_rates none 5 D aC A) : ∀ (w : x_W) (H : Heap) (locs : List Loc) (ls : Array Slot) (l0 : Nat) (l1 : Int32) (l2 : Int32) (l3 : Int32) (l4 : Int32) (t0 : Nat), f_Mod_rates_54 T w l0 l1 l2 l3 l4 t0 = some q → x_H D x_cl x_FT aC ad T nx A w H → va_S A s.heap H locs → lv_has ls 5 [(0, .ref (ad l0)), (1, .int l1), (2, .int l2), (3, .int l3), (4, .int l4)] → W p l e { frames := 1, cells := 0, slots := 0, locals := 25 } s m args below meth c H locs 0 0 (MQ below (x_Qc D aC ad T nx none q A) args s 0 0 A) (F0 m 54 ls [.ref (ad t0)]) := by
  obtain ⟨hx, hb, hr, hml, hown, hts, hlocks, hK, hA, hX⟩ := id C0
  intro w H locs ls l0 l1 l2 l3 l4 t0 hf hH hS hl
  unfold f_Mod_rates_54 at hf
  refine lv_iconst (v := 1) hx hb d_Mod_rates_54 (by decide) ?_
  exact k_Mod_rates_55 C0 w _ _ _ l0 l1 l2 l3 l4 t0 (1 : Int32) hf hH hS (lv_sub hl [0, 1, 2, 3, 4] rfl)
set_option maxHeartbeats 4000000 in
set_option maxRecDepth 100000 in
theorem k_Mod_rates {p : Program} {l : Launch} {e : Env} {s : State} {m : MethodId} {args : Array Value} {below : List Frame} {meth : Method} {c : Code} {D : va_G} {aC : Nat → ClassId} {ad : Nat → Nat} {T : x_T} {nx : Nat} {A : Nat → Prop} {q : x_W} (C0 : x_At p s m meth c args "WallDampModel" b_Mod_rates none 5 D aC A) : ∀ (w : x_W) (H : Heap) (locs : List Loc) (ls : Array Slot) (l0 : Nat) (l1 : Int32) (l2 : Int32) (l3 : Int32) (l4 : Int32), f_Mod_rates T w l0 l1 l2 l3 l4 = some q → x_H D x_cl x_FT aC ad T nx A w H → va_S A s.heap H locs → lv_has ls 5 [(0, .ref (ad l0)), (1, .int l1), (2, .int l2), (3, .int l3), (4, .int l4)] → W p l e { frames := 1, cells := 0, slots := 0, locals := 25 } s m args below meth c H locs 0 0 (MQ below (x_Qc D aC ad T nx none q A) args s 0 0 A) (F0 m 0 ls []) := by
  obtain ⟨hx, hb, hr, hml, hown, hts, hlocks, hK, hA, hX⟩ := id C0
  intro w H locs ls l0 l1 l2 l3 l4 hf hH hS hl
  unfold f_Mod_rates at hf
  refine lv_aload_n hx hb d_Mod_rates_0 rfl (lv_at hl 0 rfl) ?_
  refine lv_iload_n hx hb d_Mod_rates_1 rfl (lv_at hl 1 rfl) ?_
  refine lv_i2l (v := l1.toInt64) hx hb d_Mod_rates_2 rfl ?_
  refine lv_lconst (v := 0) hx hb d_Mod_rates_3 (by decide) ?_
  refine lv_ldc2 (v := (5 : Int64)) hx hb hown (hts _ m_957) d_Mod_rates_4 ?_
  obtain ⟨q1, e2, hf⟩ := x_b hf
  refine x_callP (st1 := [.int q1, .ref (ad l0)]) (x_runS (As := [.long (l1.toInt64), .long (0 : Int64), .long (5 : Int64)]) (rest := [.ref (ad l0)]) ⟨hx, hb, hml, hown, hts⟩ (c_Mod_in l D aC ad T nx H.size w (l1.toInt64) (0 : Int64) (5 : Int64) q1 e2) (va_cwS 3 hts (x_gS m_958 m_959 m_13 m_960) rfl rfl rfl pd_Mod_in ⟨Nat.le_of_ble_eq_true rfl, Nat.le_of_ble_eq_true rfl⟩) hH hK hX rfl hl.1 rfl (lv_room (Nat.le_of_ble_eq_true rfl)) d_Mod_rates_7 ⟨Nat.zero_le _, Nat.zero_le _⟩) rfl ?_
  refine lv_if_eq (tgt := 54) hx hb d_Mod_rates_10 (by decide) (fun c3 => ?_) (fun c3 => ?_)
  · have hf := x_it hf c3
    exact k_Mod_rates_54 C0 w _ _ _ l0 l1 l2 l3 l4 l0 hf hH hS (lv_sub hl [0, 1, 2, 3, 4] rfl)
  · have hf := x_if hf c3
    refine lv_iload_n hx hb d_Mod_rates_13 rfl (lv_at hl 2 rfl) ?_
    refine lv_i2l (v := l2.toInt64) hx hb d_Mod_rates_14 rfl ?_
    refine lv_lconst (v := 0) hx hb d_Mod_rates_15 (by decide) ?_
    refine lv_ldc2 (v := (1000 : Int64)) hx hb hown (hts _ m_971) d_Mod_rates_16 ?_
    obtain ⟨q4, e5, hf⟩ := x_b hf
    refine x_callP (st1 := [.int q4, .ref (ad l0)]) (x_runS (As := [.long (l2.toInt64), .long (0 : Int64), .long (1000 : Int64)]) (rest := [.ref (ad l0)]) ⟨hx, hb, hml, hown, hts⟩ (c_Mod_in l D aC ad T nx H.size w (l2.toInt64) (0 : Int64) (1000 : Int64) q4 e5) (va_cwS 3 hts (x_gS m_958 m_959 m_13 m_960) rfl rfl rfl pd_Mod_in ⟨Nat.le_of_ble_eq_true rfl, Nat.le_of_ble_eq_true rfl⟩) hH hK hX rfl hl.1 rfl (lv_room (Nat.le_of_ble_eq_true rfl)) d_Mod_rates_19 ⟨Nat.zero_le _, Nat.zero_le _⟩) rfl ?_
    refine lv_if_eq (tgt := 54) hx hb d_Mod_rates_22 (by decide) (fun c6 => ?_) (fun c6 => ?_)
    · have hf := x_it hf c6
      exact k_Mod_rates_54 C0 w _ _ _ l0 l1 l2 l3 l4 l0 hf hH hS (lv_sub hl [0, 1, 2, 3, 4] rfl)
    · have hf := x_if hf c6
      refine lv_iload_n hx hb d_Mod_rates_25 rfl (lv_at hl 3 rfl) ?_
      refine lv_i2l (v := l3.toInt64) hx hb d_Mod_rates_26 rfl ?_
      refine lv_lconst (v := 0) hx hb d_Mod_rates_27 (by decide) ?_
      refine lv_ldc2 (v := (1000 : Int64)) hx hb hown (hts _ m_971) d_Mod_rates_28 ?_
      obtain ⟨q7, e8, hf⟩ := x_b hf
      refine x_callP (st1 := [.int q7, .ref (ad l0)]) (x_runS (As := [.long (l3.toInt64), .long (0 : Int64), .long (1000 : Int64)]) (rest := [.ref (ad l0)]) ⟨hx, hb, hml, hown, hts⟩ (c_Mod_in l D aC ad T nx H.size w (l3.toInt64) (0 : Int64) (1000 : Int64) q7 e8) (va_cwS 3 hts (x_gS m_958 m_959 m_13 m_960) rfl rfl rfl pd_Mod_in ⟨Nat.le_of_ble_eq_true rfl, Nat.le_of_ble_eq_true rfl⟩) hH hK hX rfl hl.1 rfl (lv_room (Nat.le_of_ble_eq_true rfl)) d_Mod_rates_31 ⟨Nat.zero_le _, Nat.zero_le _⟩) rfl ?_
      refine lv_if_eq (tgt := 54) hx hb d_Mod_rates_34 (by decide) (fun c9 => ?_) (fun c9 => ?_)
      · have hf := x_it hf c9
        exact k_Mod_rates_54 C0 w _ _ _ l0 l1 l2 l3 l4 l0 hf hH hS (lv_sub hl [0, 1, 2, 3, 4] rfl)
      · have hf := x_if hf c9
        refine lv_iload hx hb d_Mod_rates_37 (lv_at hl 4 rfl) ?_
        refine lv_i2l (v := l4.toInt64) hx hb d_Mod_rates_39 rfl ?_
        refine lv_lconst (v := 1) hx hb d_Mod_rates_40 (by decide) ?_
        refine lv_ldc2 (v := (1000 : Int64)) hx hb hown (hts _ m_971) d_Mod_rates_41 ?_
        obtain ⟨q10, e11, hf⟩ := x_b hf
        refine x_callP (st1 := [.int q10, .ref (ad l0)]) (x_runS (As := [.long (l4.toInt64), .long (1 : Int64), .long (1000 : Int64)]) (rest := [.ref (ad l0)]) ⟨hx, hb, hml, hown, hts⟩ (c_Mod_in l D aC ad T nx H.size w (l4.toInt64) (1 : Int64) (1000 : Int64) q10 e11) (va_cwS 3 hts (x_gS m_958 m_959 m_13 m_960) rfl rfl rfl pd_Mod_in ⟨Nat.le_of_ble_eq_true rfl, Nat.le_of_ble_eq_true rfl⟩) hH hK hX rfl hl.1 rfl (lv_room (Nat.le_of_ble_eq_true rfl)) d_Mod_rates_44 ⟨Nat.zero_le _, Nat.zero_le _⟩) rfl ?_
        refine lv_if_eq (tgt := 54) hx hb d_Mod_rates_47 (by decide) (fun c12 => ?_) (fun c12 => ?_)
        · have hf := x_it hf c12
          exact k_Mod_rates_54 C0 w _ _ _ l0 l1 l2 l3 l4 l0 hf hH hS (lv_sub hl [0, 1, 2, 3, 4] rfl)
        · have hf := x_if hf c12
          refine lv_iconst (v := 0) hx hb d_Mod_rates_50 (by decide) ?_
          refine lv_goto (tgt := 55) hx hb d_Mod_rates_51 (by decide) ?_
          exact k_Mod_rates_55 C0 w _ _ _ l0 l1 l2 l3 l4 l0 (0 : Int32) hf hH hS (lv_sub hl [0, 1, 2, 3, 4] rfl)
theorem c_Mod_rates (l : Launch) (D : va_G) (aC : Nat → ClassId) (ad : Nat → Nat) (T : x_T) (nx sz : Nat) (w : x_W) (a0 : Nat) (a1 : Int32) (a2 : Int32) (a3 : Int32) (a4 : Int32) (q : x_W) (hf : f_Mod_rates T w a0 a1 a2 a3 a4 = some q) : Met l y_Mod_rates ws_Mod_rates { frames := 1, cells := 0, slots := 0, locals := 25 } (x_Pc D aC ad T nx sz w [.ref (ad a0), .int a1, .int a2, .int a3, .int a4]) (x_Qc D aC ad T nx none q (x_dom ad nx sz)) 0 0 (x_dom ad nx sz) :=
  x_met [(0, .ref (ad a0)), (1, .int a1), (2, .int a2), (3, .int a3), (4, .int a4)] (plainFor_of_name (by decide)) rfl rfl (Nat.le_of_ble_eq_true rfl) (fun p e s m args below meth c ls C0 hH hS hl => k_Mod_rates C0 w _ _ _ a0 a1 a2 a3 a4 hf hH hS (lv_sub hl [0, 1, 2, 3, 4] rfl))
/-! WallDampModel.cell(III)V -/
def f_Mod_cell_95 (T : x_T) (w : x_W) : Option (x_W) :=
  some w
def f_Mod_cell_49 (T : x_T) (w : x_W) (l0 : Nat) (l1 : Int32) (l2 : Int32) (l3 : Int32) (t0 : Nat) (t1 : Int32) : Option (x_W) :=
  (x_is T t0 10).bind fun _ =>
  (some (x_sI w 64 t0 t1)).bind fun w4 =>
  (x_is T l0 10).bind fun _ =>
  if (x_I w4 64 l0) = 0 then
    ((x_R w4 74 l0).bind fun a10 =>
    (x_ix T a10 101 l1).bind fun _ =>
    (some (x_sJ w4 102 l0 ((x_J w4 102 l0) - (x_B w4 a10 l1.toNatClampNeg)))).bind fun w16 =>
    (x_R w16 74 l0).bind fun a18 =>
    (x_ix T a18 101 l1).bind fun _ =>
    (some (x_sB w16 a18 l1.toNatClampNeg (0 : Int64))).bind fun w24 =>
    (x_R w24 72 l0).bind fun a26 =>
    (x_ix T a26 100 l1).bind fun _ =>
    (some (x_sA w24 a26 l1.toNatClampNeg l2)).bind fun w32 =>
    (x_R w32 73 l0).bind fun a34 =>
    (x_ix T a34 100 l1).bind fun _ =>
    (some (x_sA w32 a34 l1.toNatClampNeg l3)).bind fun w40 =>
    f_Mod_cell_95 T w40)
  else
    (f_Mod_cell_95 T w4)
def f_Mod_cell_33 (T : x_T) (w : x_W) (l0 : Nat) (l1 : Int32) (l2 : Int32) (l3 : Int32) (t0 : Nat) : Option (x_W) :=
  f_Mod_cell_49 T w l0 l1 l2 l3 t0 (1 : Int32)
def f_Mod_cell (T : x_T) (w : x_W) (l0 : Nat) (l1 : Int32) (l2 : Int32) (l3 : Int32) : Option (x_W) :=
  (x_is T l0 10).bind fun _ =>
  (f_Mod_isCell T w l0 l1).bind fun q1 =>
  if q1 = 0 then
    (f_Mod_cell_33 T w l0 l1 l2 l3 l0)
  else
    ((f_Mod_in T w (l2.toInt64) (0 : Int64) (5 : Int64)).bind fun q7 =>
    if q7 = 0 then
      (f_Mod_cell_33 T w l0 l1 l2 l3 l0)
    else
      ((f_Mod_in T w (l3.toInt64) (1 : Int64) (1000 : Int64)).bind fun q10 =>
      if q10 = 0 then
        (f_Mod_cell_33 T w l0 l1 l2 l3 l0)
      else
        (if (x_I w 96 l0) ≤ 0 then
          (f_Mod_cell_49 T w l0 l1 l2 l3 l0 (0 : Int32))
        else
          (f_Mod_cell_49 T w l0 l1 l2 l3 l0 (2 : Int32)))))
set_option maxHeartbeats 4000000 in
set_option maxRecDepth 100000 in
theorem k_Mod_cell_95 {p : Program} {l : Launch} {e : Env} {s : State} {m : MethodId} {args : Array Value} {below : List Frame} {meth : Method} {c : Code} {D : va_G} {aC : Nat → ClassId} {ad : Nat → Nat} {T : x_T} {nx : Nat} {A : Nat → Prop} {q : x_W} (C0 : x_At p s m meth c args "WallDampModel" b_Mod_cell none 4 D aC A) : ∀ (w : x_W) (H : Heap) (locs : List Loc) (ls : Array Slot), f_Mod_cell_95 T w = some q → x_H D x_cl x_FT aC ad T nx A w H → va_S A s.heap H locs → lv_has ls 4 [] → W p l e { frames := 2, cells := 0, slots := 0, locals := 46 } s m args below meth c H locs 0 0 (MQ below (x_Qc D aC ad T nx none q A) args s 0 0 A) (F0 m 95 ls []) := by
  obtain ⟨hx, hb, hr, hml, hown, hts, hlocks, hK, hA, hX⟩ := id C0
  intro w H locs ls hf hH hS hl
  unfold f_Mod_cell_95 at hf
  cases hf
  refine x_sz0 hS (fun hz => ?_)
  exact W.vret hx hb hr (fun t ht hW => ⟨rfl, hS.F ht, by rw [ht]; exact hz, by rw [ht]; exact hH.weaken (fun _ _ _ => trivial)⟩) hS.2.2 d_Mod_cell_95
set_option maxHeartbeats 4000000 in
set_option maxRecDepth 100000 in
theorem k_Mod_cell_49 {p : Program} {l : Launch} {e : Env} {s : State} {m : MethodId} {args : Array Value} {below : List Frame} {meth : Method} {c : Code} {D : va_G} {aC : Nat → ClassId} {ad : Nat → Nat} {T : x_T} {nx : Nat} {A : Nat → Prop} {q : x_W} (C0 : x_At p s m meth c args "WallDampModel" b_Mod_cell none 4 D aC A) : ∀ (w : x_W) (H : Heap) (locs : List Loc) (ls : Array Slot) (l0 : Nat) (l1 : Int32) (l2 : Int32) (l3 : Int32) (t0 : Nat) (t1 : Int32), f_Mod_cell_49 T w l0 l1 l2 l3 t0 t1 = some q → x_H D x_cl x_FT aC ad T nx A w H → va_S A s.heap H locs → lv_has ls 4 [(0, .ref (ad l0)), (1, .int l1), (2, .int l2), (3, .int l3)] → W p l e { frames := 2, cells := 0, slots := 0, locals := 46 } s m args below meth c H locs 0 0 (MQ below (x_Qc D aC ad T nx none q A) args s 0 0 A) (F0 m 49 ls [.int t1, .ref (ad t0)]) := by
  obtain ⟨hx, hb, hr, hml, hown, hts, hlocks, hK, hA, hX⟩ := id C0
  intro w H locs ls l0 l1 l2 l3 t0 t1 hf hH hS hl
  unfold f_Mod_cell_49 at hf
  obtain ⟨_, e1, hf⟩ := x_b hf
  obtain ⟨n2, hT3⟩ := x_is_e e1
  refine x_put (C := "WallDampModel") (F := F_Mod) (N := 51) (ty := t_Mod 0) (v := .int t1) (w' := x_sI w 64 t0 t1) hx hb hts i_Mod t_Mod ty_Mod n_Mod hown hK hH hS hT3 (by decide) rfl rfl 0 (by decide) (hts _ m_793) (fun _ h9 => h9) rfl (ty_Mod 0 (by decide)) rfl rfl (x_on_I hT3 (by decide) rfl nd_Mod) (fun j hj => x_off_I hj) (fun hh ok => x_ok_I hh ok) d_Mod_cell_49 (fun H locs hH hS => ?_)
  obtain ⟨w4, e5, hf⟩ := x_b hf
  have hH := x_nw e5 hH
  refine lv_aload_n hx hb d_Mod_cell_52 rfl (lv_at hl 0 rfl) ?_
  obtain ⟨_, e6, hf⟩ := x_b hf
  obtain ⟨n7, hT8⟩ := x_is_e e6
  refine x_get (C := "WallDampModel") (F := F_Mod) (N := 51) hx hb hts i_Mod hown hK hH hT8 (by decide) rfl 0 (by decide) (hts _ m_793) (fun _ h9 => h9) (kd := (0, 64)) rfl rfl d_Mod_cell_53 ?_
  refine lv_if_ne (tgt := 95) hx hb d_Mod_cell_56 (by decide) (fun c9 => ?_) (fun c9 => ?_)
  · have hf := x_if hf c9
    exact k_Mod_cell_95 C0 w4 _ _ _ hf hH hS (lv_sub hl [] rfl)
  · have hf := x_it hf c9
    refine lv_aload_n hx hb d_Mod_cell_59 rfl (lv_at hl 0 rfl) ?_
    refine lv_dup hx hb d_Mod_cell_60 rfl ?_
    refine x_get (C := "WallDampModel") (F := F_Mod) (N := 51) hx hb hts i_Mod hown hK hH hT8 (by decide) rfl 38 (by decide) (hts _ m_831) (fun _ h9 => h9) (kd := (1, 102)) rfl rfl d_Mod_cell_61 ?_
    refine lv_aload_n hx hb d_Mod_cell_64 rfl (lv_at hl 0 rfl) ?_
    obtain ⟨a10, e11, hf⟩ := x_b hf
    refine x_get (C := "WallDampModel") (F := F_Mod) (N := 51) hx hb hts i_Mod hown hK hH hT8 (by decide) rfl 10 (by decide) (hts _ m_803) (fun _ h9 => h9) (kd := (2, 74)) rfl (x_fr e11) d_Mod_cell_65 ?_
    refine lv_iload_n hx hb d_Mod_cell_68 rfl (lv_at hl 1 rfl) ?_
    obtain ⟨_, e12, hf⟩ := x_b hf
    obtain ⟨n13, hT14, hi15⟩ := x_ix_e e12
    refine x_lald hx hb hK hH hT14 1 rfl hi15 d_Mod_cell_69 ?_
    refine lv_lsub hx hb d_Mod_cell_70 ?_
    refine x_put (C := "WallDampModel") (F := F_Mod) (N := 51) (ty := t_Mod 38) (v := .long ((x_J w4 102 l0) - (x_B w4 a10 l1.toNatClampNeg))) (w' := x_sJ w4 102 l0 ((x_J w4 102 l0) - (x_B w4 a10 l1.toNatClampNeg))) hx hb hts i_Mod t_Mod ty_Mod n_Mod hown hK hH hS hT8 (by decide) rfl rfl 38 (by decide) (hts _ m_831) (fun _ h9 => h9) rfl (ty_Mod 38 (by decide)) rfl rfl (x_on_J hT8 (by decide) rfl nd_Mod) (fun j hj => x_off_J hj) (fun hh ok => x_ok_J hh ok) d_Mod_cell_71 (fun H locs hH hS => ?_)
    obtain ⟨w16, e17, hf⟩ := x_b hf
    have hH := x_nw e17 hH
    refine lv_aload_n hx hb d_Mod_cell_74 rfl (lv_at hl 0 rfl) ?_
    obtain ⟨a18, e19, hf⟩ := x_b hf
    refine x_get (C := "WallDampModel") (F := F_Mod) (N := 51) hx hb hts i_Mod hown hK hH hT8 (by decide) rfl 10 (by decide) (hts _ m_803) (fun _ h9 => h9) (kd := (2, 74)) rfl (x_fr e19) d_Mod_cell_75 ?_
    refine lv_iload_n hx hb d_Mod_cell_78 rfl (lv_at hl 1 rfl) ?_
    refine lv_lconst (v := 0) hx hb d_Mod_cell_79 (by decide) ?_
    obtain ⟨_, e20, hf⟩ := x_b hf
    obtain ⟨n21, hT22, hi23⟩ := x_ix_e e20
    refine x_last hx hb hK hH hS hT22 1 rfl hi23 d_Mod_cell_80 (fun H locs hH hS => ?_)
    obtain ⟨w24, e25, hf⟩ := x_b hf
    have hH := x_nw e25 hH
    refine lv_aload_n hx hb d_Mod_cell_81 rfl (lv_at hl 0 rfl) ?_
    obtain ⟨a26, e27, hf⟩ := x_b hf
    refine x_get (C := "WallDampModel") (F := F_Mod) (N := 51) hx hb hts i_Mod hown hK hH hT8 (by decide) rfl 8 (by decide) (hts _ m_801) (fun _ h9 => h9) (kd := (2, 72)) rfl (x_fr e27) d_Mod_cell_82 ?_
    refine lv_iload_n hx hb d_Mod_cell_85 rfl (lv_at hl 1 rfl) ?_
    refine lv_iload_n hx hb d_Mod_cell_86 rfl (lv_at hl 2 rfl) ?_
    obtain ⟨_, e28, hf⟩ := x_b hf
    obtain ⟨n29, hT30, hi31⟩ := x_ix_e e28
    refine x_iast hx hb hK hH hS hT30 0 rfl hi31 d_Mod_cell_87 (fun H locs hH hS => ?_)
    obtain ⟨w32, e33, hf⟩ := x_b hf
    have hH := x_nw e33 hH
    refine lv_aload_n hx hb d_Mod_cell_88 rfl (lv_at hl 0 rfl) ?_
    obtain ⟨a34, e35, hf⟩ := x_b hf
    refine x_get (C := "WallDampModel") (F := F_Mod) (N := 51) hx hb hts i_Mod hown hK hH hT8 (by decide) rfl 9 (by decide) (hts _ m_802) (fun _ h9 => h9) (kd := (2, 73)) rfl (x_fr e35) d_Mod_cell_89 ?_
    refine lv_iload_n hx hb d_Mod_cell_92 rfl (lv_at hl 1 rfl) ?_
    refine lv_iload_n hx hb d_Mod_cell_93 rfl (lv_at hl 3 rfl) ?_
    obtain ⟨_, e36, hf⟩ := x_b hf
    obtain ⟨n37, hT38, hi39⟩ := x_ix_e e36
    refine x_iast hx hb hK hH hS hT38 0 rfl hi39 d_Mod_cell_94 (fun H locs hH hS => ?_)
    obtain ⟨w40, e41, hf⟩ := x_b hf
    have hH := x_nw e41 hH
    exact k_Mod_cell_95 C0 w40 _ _ _ hf hH hS (lv_sub hl [] rfl)
set_option maxHeartbeats 4000000 in
set_option maxRecDepth 100000 in
theorem k_Mod_cell_33 {p : Program} {l : Launch} {e : Env} {s : State} {m : MethodId} {args : Array Value} {below : List Frame} {meth : Method} {c : Code} {D : va_G} {aC : Nat → ClassId} {ad : Nat → Nat} {T : x_T} {nx : Nat} {A : Nat → Prop} {q : x_W} (C0 : x_At p s m meth c args "WallDampModel" b_Mod_cell none 4 D aC A) : ∀ (w : x_W) (H : Heap) (locs : List Loc) (ls : Array Slot) (l0 : Nat) (l1 : Int32) (l2 : Int32) (l3 : Int32) (t0 : Nat), f_Mod_cell_33 T w l0 l1 l2 l3 t0 = some q → x_H D x_cl x_FT aC ad T nx A w H → va_S A s.heap H locs → lv_has ls 4 [(0, .ref (ad l0)), (1, .int l1), (2, .int l2), (3, .int l3)] → W p l e { frames := 2, cells := 0, slots := 0, locals := 46 } s m args below meth c H locs 0 0 (MQ below (x_Qc D aC ad T nx none q A) args s 0 0 A) (F0 m 33 ls [.ref (ad t0)]) := by
  obtain ⟨hx, hb, hr, hml, hown, hts, hlocks, hK, hA, hX⟩ := id C0
  intro w H locs ls l0 l1 l2 l3 t0 hf hH hS hl
  unfold f_Mod_cell_33 at hf
  refine lv_iconst (v := 1) hx hb d_Mod_cell_33 (by decide) ?_
  refine lv_goto (tgt := 49) hx hb d_Mod_cell_34 (by decide) ?_
  exact k_Mod_cell_49 C0 w _ _ _ l0 l1 l2 l3 t0 (1 : Int32) hf hH hS (lv_sub hl [0, 1, 2, 3] rfl)
set_option maxHeartbeats 4000000 in
set_option maxRecDepth 100000 in
theorem k_Mod_cell {p : Program} {l : Launch} {e : Env} {s : State} {m : MethodId} {args : Array Value} {below : List Frame} {meth : Method} {c : Code} {D : va_G} {aC : Nat → ClassId} {ad : Nat → Nat} {T : x_T} {nx : Nat} {A : Nat → Prop} {q : x_W} (C0 : x_At p s m meth c args "WallDampModel" b_Mod_cell none 4 D aC A) : ∀ (w : x_W) (H : Heap) (locs : List Loc) (ls : Array Slot) (l0 : Nat) (l1 : Int32) (l2 : Int32) (l3 : Int32), f_Mod_cell T w l0 l1 l2 l3 = some q → x_H D x_cl x_FT aC ad T nx A w H → va_S A s.heap H locs → lv_has ls 4 [(0, .ref (ad l0)), (1, .int l1), (2, .int l2), (3, .int l3)] → W p l e { frames := 2, cells := 0, slots := 0, locals := 46 } s m args below meth c H locs 0 0 (MQ below (x_Qc D aC ad T nx none q A) args s 0 0 A) (F0 m 0 ls []) := by
  obtain ⟨hx, hb, hr, hml, hown, hts, hlocks, hK, hA, hX⟩ := id C0
  intro w H locs ls l0 l1 l2 l3 hf hH hS hl
  unfold f_Mod_cell at hf
  refine lv_aload_n hx hb d_Mod_cell_0 rfl (lv_at hl 0 rfl) ?_
  refine lv_aload_n hx hb d_Mod_cell_1 rfl (lv_at hl 0 rfl) ?_
  refine lv_iload_n hx hb d_Mod_cell_2 rfl (lv_at hl 1 rfl) ?_
  obtain ⟨_, e3, hf⟩ := x_b hf
  obtain ⟨n4, hT5⟩ := x_is_e e3
  obtain ⟨q1, e2, hf⟩ := x_b hf
  refine x_callP (st1 := [.int q1, .ref (ad l0)]) (x_runV (As := [.int l1]) (rest := [.ref (ad l0)]) ⟨hx, hb, hml, hown, hts⟩ (c_Mod_isCell l D aC ad T nx H.size w l0 l1 q1 e2) (cwV 1 hts (x_gV m_976 m_978 ms_16 m_13 m_979) rfl rfl rfl ⟨rfl, pd_Mod_isCell⟩ ⟨Nat.le_of_ble_eq_true rfl, Nat.le_of_ble_eq_true rfl⟩) hH hK hX hT5 (by decide) rfl rfl rfl hl.1 rfl (lv_room (Nat.le_of_ble_eq_true rfl)) d_Mod_cell_3 ⟨Nat.zero_le _, Nat.zero_le _⟩) rfl ?_
  refine lv_if_eq (tgt := 33) hx hb d_Mod_cell_6 (by decide) (fun c6 => ?_) (fun c6 => ?_)
  · have hf := x_it hf c6
    exact k_Mod_cell_33 C0 w _ _ _ l0 l1 l2 l3 l0 hf hH hS (lv_sub hl [0, 1, 2, 3] rfl)
  · have hf := x_if hf c6
    refine lv_iload_n hx hb d_Mod_cell_9 rfl (lv_at hl 2 rfl) ?_
    refine lv_i2l (v := l2.toInt64) hx hb d_Mod_cell_10 rfl ?_
    refine lv_lconst (v := 0) hx hb d_Mod_cell_11 (by decide) ?_
    refine lv_ldc2 (v := (5 : Int64)) hx hb hown (hts _ m_957) d_Mod_cell_12 ?_
    obtain ⟨q7, e8, hf⟩ := x_b hf
    refine x_callP (st1 := [.int q7, .ref (ad l0)]) (x_runS (As := [.long (l2.toInt64), .long (0 : Int64), .long (5 : Int64)]) (rest := [.ref (ad l0)]) ⟨hx, hb, hml, hown, hts⟩ (c_Mod_in l D aC ad T nx H.size w (l2.toInt64) (0 : Int64) (5 : Int64) q7 e8) (va_cwS 3 hts (x_gS m_958 m_959 m_13 m_960) rfl rfl rfl pd_Mod_in ⟨Nat.le_of_ble_eq_true rfl, Nat.le_of_ble_eq_true rfl⟩) hH hK hX rfl hl.1 rfl (lv_room (Nat.le_of_ble_eq_true rfl)) d_Mod_cell_15 ⟨Nat.zero_le _, Nat.zero_le _⟩) rfl ?_
    refine lv_if_eq (tgt := 33) hx hb d_Mod_cell_18 (by decide) (fun c9 => ?_) (fun c9 => ?_)
    · have hf := x_it hf c9
      exact k_Mod_cell_33 C0 w _ _ _ l0 l1 l2 l3 l0 hf hH hS (lv_sub hl [0, 1, 2, 3] rfl)
    · have hf := x_if hf c9
      refine lv_iload_n hx hb d_Mod_cell_21 rfl (lv_at hl 3 rfl) ?_
      refine lv_i2l (v := l3.toInt64) hx hb d_Mod_cell_22 rfl ?_
      refine lv_lconst (v := 1) hx hb d_Mod_cell_23 (by decide) ?_
      refine lv_ldc2 (v := (1000 : Int64)) hx hb hown (hts _ m_971) d_Mod_cell_24 ?_
      obtain ⟨q10, e11, hf⟩ := x_b hf
      refine x_callP (st1 := [.int q10, .ref (ad l0)]) (x_runS (As := [.long (l3.toInt64), .long (1 : Int64), .long (1000 : Int64)]) (rest := [.ref (ad l0)]) ⟨hx, hb, hml, hown, hts⟩ (c_Mod_in l D aC ad T nx H.size w (l3.toInt64) (1 : Int64) (1000 : Int64) q10 e11) (va_cwS 3 hts (x_gS m_958 m_959 m_13 m_960) rfl rfl rfl pd_Mod_in ⟨Nat.le_of_ble_eq_true rfl, Nat.le_of_ble_eq_true rfl⟩) hH hK hX rfl hl.1 rfl (lv_room (Nat.le_of_ble_eq_true rfl)) d_Mod_cell_27 ⟨Nat.zero_le _, Nat.zero_le _⟩) rfl ?_
      refine lv_if_ne (tgt := 37) hx hb d_Mod_cell_30 (by decide) (fun c12 => ?_) (fun c12 => ?_)
      · have hf := x_if hf c12
        refine lv_aload_n hx hb d_Mod_cell_37 rfl (lv_at hl 0 rfl) ?_
        refine x_get (C := "WallDampModel") (F := F_Mod) (N := 51) hx hb hts i_Mod hown hK hH hT5 (by decide) rfl 32 (by decide) (hts _ m_825) (fun _ h9 => h9) (kd := (0, 96)) rfl rfl d_Mod_cell_38 ?_
        refine lv_if_le (tgt := 48) hx hb d_Mod_cell_41 (by decide) (fun c13 => ?_) (fun c13 => ?_)
        · have hf := x_it hf c13
          refine lv_iconst (v := 0) hx hb d_Mod_cell_48 (by decide) ?_
          exact k_Mod_cell_49 C0 w _ _ _ l0 l1 l2 l3 l0 (0 : Int32) hf hH hS (lv_sub hl [0, 1, 2, 3] rfl)
        · have hf := x_if hf c13
          refine lv_iconst (v := 2) hx hb d_Mod_cell_44 (by decide) ?_
          refine lv_goto (tgt := 49) hx hb d_Mod_cell_45 (by decide) ?_
          exact k_Mod_cell_49 C0 w _ _ _ l0 l1 l2 l3 l0 (2 : Int32) hf hH hS (lv_sub hl [0, 1, 2, 3] rfl)
      · have hf := x_it hf c12
        exact k_Mod_cell_33 C0 w _ _ _ l0 l1 l2 l3 l0 hf hH hS (lv_sub hl [0, 1, 2, 3] rfl)
theorem c_Mod_cell (l : Launch) (D : va_G) (aC : Nat → ClassId) (ad : Nat → Nat) (T : x_T) (nx sz : Nat) (w : x_W) (a0 : Nat) (a1 : Int32) (a2 : Int32) (a3 : Int32) (q : x_W) (hf : f_Mod_cell T w a0 a1 a2 a3 = some q) : Met l y_Mod_cell ws_Mod_cell { frames := 2, cells := 0, slots := 0, locals := 46 } (x_Pc D aC ad T nx sz w [.ref (ad a0), .int a1, .int a2, .int a3]) (x_Qc D aC ad T nx none q (x_dom ad nx sz)) 0 0 (x_dom ad nx sz) :=
  x_met [(0, .ref (ad a0)), (1, .int a1), (2, .int a2), (3, .int a3)] (plainFor_of_name (by decide)) rfl rfl (Nat.le_of_ble_eq_true rfl) (fun p e s m args below meth c ls C0 hH hS hl => k_Mod_cell C0 w _ _ _ a0 a1 a2 a3 hf hH hS (lv_sub hl [0, 1, 2, 3] rfl))
/-! WallDampModel.table(II)I -/
def f_Mod_table_92 (T : x_T) (w : x_W) (l0 : Nat) (l1 : Int32) (l2 : Int32) (t0 : Nat) (t1 : Int32) : Option (Int32 × x_W) :=
  (x_is T t0 10).bind fun _ =>
  (some (x_sI w 64 t0 t1)).bind fun w4 =>
  (x_is T l0 10).bind fun _ =>
  if (x_I w4 64 l0) ≤ 0 then
    ((x_R w4 81 l0).bind fun a10 =>
    (x_ix T a10 100 (x_I w4 80 l0)).bind fun _ =>
    (some (x_sA w4 a10 (x_I w4 80 l0).toNatClampNeg l1)).bind fun w16 =>
    (x_R w16 82 l0).bind fun a18 =>
    (x_ix T a18 100 (x_I w16 80 l0)).bind fun _ =>
    (some (x_sA w16 a18 (x_I w16 80 l0).toNatClampNeg l2)).bind fun w24 =>
    (some (x_sI w24 80 l0 ((x_I w24 80 l0) + (1 : Int32)))).bind fun w26 =>
    some ((x_I w26 80 l0), w26))
  else
    (some ((0 : Int32), w4))
def f_Mod_table_91 (T : x_T) (w : x_W) (l0 : Nat) (l1 : Int32) (l2 : Int32) (t0 : Nat) : Option (Int32 × x_W) :=
  f_Mod_table_92 T w l0 l1 l2 t0 (0 : Int32)
def f_Mod_table_87 (T : x_T) (w : x_W) (l0 : Nat) (l1 : Int32) (l2 : Int32) (t0 : Nat) : Option (Int32 × x_W) :=
  f_Mod_table_92 T w l0 l1 l2 t0 (2 : Int32)
def f_Mod_table_31 (T : x_T) (w : x_W) (l0 : Nat) (l1 : Int32) (l2 : Int32) (t0 : Int32) : Option (Int32 × x_W) :=
  if t0 = 0 then
    (f_Mod_table_92 T w l0 l1 l2 l0 (1 : Int32))
  else
    ((x_is T l0 10).bind fun _ =>
    if (x_I w 80 l0) = (8 : Int32) then
      (f_Mod_table_87 T w l0 l1 l2 l0)
    else
      (if (x_I w 80 l0) ≤ 0 then
        (f_Mod_table_91 T w l0 l1 l2 l0)
      else
        ((x_R w 81 l0).bind fun a7 =>
        (x_ix T a7 100 ((x_I w 80 l0) - (1 : Int32))).bind fun _ =>
        if l1 ≤ (x_A w a7 ((x_I w 80 l0) - (1 : Int32)).toNatClampNeg) then
          (f_Mod_table_87 T w l0 l1 l2 l0)
        else
          ((x_R w 82 l0).bind fun a14 =>
          (x_ix T a14 100 ((x_I w 80 l0) - (1 : Int32))).bind fun _ =>
          if (x_A w a14 ((x_I w 80 l0) - (1 : Int32)).toNatClampNeg) < l2 then
            (f_Mod_table_91 T w l0 l1 l2 l0)
          else
            (f_Mod_table_87 T w l0 l1 l2 l0)))))
def f_Mod_table_30 (T : x_T) (w : x_W) (l0 : Nat) (l1 : Int32) (l2 : Int32) : Option (Int32 × x_W) :=
  f_Mod_table_31 T w l0 l1 l2 (0 : Int32)
def f_Mod_table (T : x_T) (w : x_W) (l0 : Nat) (l1 : Int32) (l2 : Int32) : Option (Int32 × x_W) :=
  (f_Mod_in T w (l1.toInt64) (-5000 : Int64) (10000 : Int64)).bind fun q1 =>
  if q1 = 0 then
    (f_Mod_table_30 T w l0 l1 l2)
  else
    ((f_Mod_in T w (l2.toInt64) (0 : Int64) (100000 : Int64)).bind fun q4 =>
    if q4 = 0 then
      (f_Mod_table_30 T w l0 l1 l2)
    else
      (f_Mod_table_31 T w l0 l1 l2 (1 : Int32)))
set_option maxHeartbeats 4000000 in
set_option maxRecDepth 100000 in
theorem k_Mod_table_92 {p : Program} {l : Launch} {e : Env} {s : State} {m : MethodId} {args : Array Value} {below : List Frame} {meth : Method} {c : Code} {D : va_G} {aC : Nat → ClassId} {ad : Nat → Nat} {T : x_T} {nx : Nat} {A : Nat → Prop} {q : Int32 × x_W} (C0 : x_At p s m meth c args "WallDampModel" b_Mod_table (some (.int)) 4 D aC A) : ∀ (w : x_W) (H : Heap) (locs : List Loc) (ls : Array Slot) (l0 : Nat) (l1 : Int32) (l2 : Int32) (t0 : Nat) (t1 : Int32), f_Mod_table_92 T w l0 l1 l2 t0 t1 = some q → x_H D x_cl x_FT aC ad T nx A w H → va_S A s.heap H locs → lv_has ls 4 [(0, .ref (ad l0)), (1, .int l1), (2, .int l2)] → W p l e { frames := 1, cells := 0, slots := 0, locals := 25 } s m args below meth c H locs 0 0 (MQ below (x_Qc D aC ad T nx (some (.int q.1)) q.2 A) args s 0 0 A) (F0 m 92 ls [.int t1, .ref (ad t0)]) := by
  obtain ⟨hx, hb, hr, hml, hown, hts, hlocks, hK, hA, hX⟩ := id C0
  intro w H locs ls l0 l1 l2 t0 t1 hf hH hS hl
  unfold f_Mod_table_92 at hf
  obtain ⟨_, e1, hf⟩ := x_b hf
  obtain ⟨n2, hT3⟩ := x_is_e e1
  refine x_put (C := "WallDampModel") (F := F_Mod) (N := 51) (ty := t_Mod 0) (v := .int t1) (w' := x_sI w 64 t0 t1) hx hb hts i_Mod t_Mod ty_Mod n_Mod hown hK hH hS hT3 (by decide) rfl rfl 0 (by decide) (hts _ m_793) (fun _ h9 => h9) rfl (ty_Mod 0 (by decide)) rfl rfl (x_on_I hT3 (by decide) rfl nd_Mod) (fun j hj => x_off_I hj) (fun hh ok => x_ok_I hh ok) d_Mod_table_92 (fun H locs hH hS => ?_)
  obtain ⟨w4, e5, hf⟩ := x_b hf
  have hH := x_nw e5 hH
  refine lv_aload_n hx hb d_Mod_table_95 rfl (lv_at hl 0 rfl) ?_
  obtain ⟨_, e6, hf⟩ := x_b hf
  obtain ⟨n7, hT8⟩ := x_is_e e6
  refine x_get (C := "WallDampModel") (F := F_Mod) (N := 51) hx hb hts i_Mod hown hK hH hT8 (by decide) rfl 0 (by decide) (hts _ m_793) (fun _ h9 => h9) (kd := (0, 64)) rfl rfl d_Mod_table_96 ?_
  refine lv_if_le (tgt := 104) hx hb d_Mod_table_99 (by decide) (fun c9 => ?_) (fun c9 => ?_)
  · have hf := x_it hf c9
    refine lv_aload_n hx hb d_Mod_table_104 rfl (lv_at hl 0 rfl) ?_
    obtain ⟨a10, e11, hf⟩ := x_b hf
    refine x_get (C := "WallDampModel") (F := F_Mod) (N := 51) hx hb hts i_Mod hown hK hH hT8 (by decide) rfl 17 (by decide) (hts _ m_810) (fun _ h9 => h9) (kd := (2, 81)) rfl (x_fr e11) d_Mod_table_105 ?_
    refine lv_aload_n hx hb d_Mod_table_108 rfl (lv_at hl 0 rfl) ?_
    refine x_get (C := "WallDampModel") (F := F_Mod) (N := 51) hx hb hts i_Mod hown hK hH hT8 (by decide) rfl 16 (by decide) (hts _ m_809) (fun _ h9 => h9) (kd := (0, 80)) rfl rfl d_Mod_table_109 ?_
    refine lv_iload_n hx hb d_Mod_table_112 rfl (lv_at hl 1 rfl) ?_
    obtain ⟨_, e12, hf⟩ := x_b hf
    obtain ⟨n13, hT14, hi15⟩ := x_ix_e e12
    refine x_iast hx hb hK hH hS hT14 0 rfl hi15 d_Mod_table_113 (fun H locs hH hS => ?_)
    obtain ⟨w16, e17, hf⟩ := x_b hf
    have hH := x_nw e17 hH
    refine lv_aload_n hx hb d_Mod_table_114 rfl (lv_at hl 0 rfl) ?_
    obtain ⟨a18, e19, hf⟩ := x_b hf
    refine x_get (C := "WallDampModel") (F := F_Mod) (N := 51) hx hb hts i_Mod hown hK hH hT8 (by decide) rfl 18 (by decide) (hts _ m_811) (fun _ h9 => h9) (kd := (2, 82)) rfl (x_fr e19) d_Mod_table_115 ?_
    refine lv_aload_n hx hb d_Mod_table_118 rfl (lv_at hl 0 rfl) ?_
    refine x_get (C := "WallDampModel") (F := F_Mod) (N := 51) hx hb hts i_Mod hown hK hH hT8 (by decide) rfl 16 (by decide) (hts _ m_809) (fun _ h9 => h9) (kd := (0, 80)) rfl rfl d_Mod_table_119 ?_
    refine lv_iload_n hx hb d_Mod_table_122 rfl (lv_at hl 2 rfl) ?_
    obtain ⟨_, e20, hf⟩ := x_b hf
    obtain ⟨n21, hT22, hi23⟩ := x_ix_e e20
    refine x_iast hx hb hK hH hS hT22 0 rfl hi23 d_Mod_table_123 (fun H locs hH hS => ?_)
    obtain ⟨w24, e25, hf⟩ := x_b hf
    have hH := x_nw e25 hH
    refine lv_aload_n hx hb d_Mod_table_124 rfl (lv_at hl 0 rfl) ?_
    refine lv_dup hx hb d_Mod_table_125 rfl ?_
    refine x_get (C := "WallDampModel") (F := F_Mod) (N := 51) hx hb hts i_Mod hown hK hH hT8 (by decide) rfl 16 (by decide) (hts _ m_809) (fun _ h9 => h9) (kd := (0, 80)) rfl rfl d_Mod_table_126 ?_
    refine lv_iconst (v := 1) hx hb d_Mod_table_129 (by decide) ?_
    refine lv_iadd hx hb d_Mod_table_130 ?_
    refine x_put (C := "WallDampModel") (F := F_Mod) (N := 51) (ty := t_Mod 16) (v := .int ((x_I w24 80 l0) + (1 : Int32))) (w' := x_sI w24 80 l0 ((x_I w24 80 l0) + (1 : Int32))) hx hb hts i_Mod t_Mod ty_Mod n_Mod hown hK hH hS hT8 (by decide) rfl rfl 16 (by decide) (hts _ m_809) (fun _ h9 => h9) rfl (ty_Mod 16 (by decide)) rfl rfl (x_on_I hT8 (by decide) rfl nd_Mod) (fun j hj => x_off_I hj) (fun hh ok => x_ok_I hh ok) d_Mod_table_131 (fun H locs hH hS => ?_)
    obtain ⟨w26, e27, hf⟩ := x_b hf
    have hH := x_nw e27 hH
    refine lv_aload_n hx hb d_Mod_table_134 rfl (lv_at hl 0 rfl) ?_
    refine x_get (C := "WallDampModel") (F := F_Mod) (N := 51) hx hb hts i_Mod hown hK hH hT8 (by decide) rfl 16 (by decide) (hts _ m_809) (fun _ h9 => h9) (kd := (0, 80)) rfl rfl d_Mod_table_135 ?_
    cases hf
    refine x_sz0 hS (fun hz => ?_)
    exact W.iret hx hb hr (fun t ht hW => ⟨rfl, hS.F ht, by rw [ht]; exact hz, by rw [ht]; exact hH.weaken (fun _ _ _ => trivial)⟩) hS.2.2 d_Mod_table_138
  · have hf := x_if hf c9
    refine lv_iconst (v := 0) hx hb d_Mod_table_102 (by decide) ?_
    cases hf
    refine x_sz0 hS (fun hz => ?_)
    exact W.iret hx hb hr (fun t ht hW => ⟨rfl, hS.F ht, by rw [ht]; exact hz, by rw [ht]; exact hH.weaken (fun _ _ _ => trivial)⟩) hS.2.2 d_Mod_table_103
set_option maxHeartbeats 4000000 in
set_option maxRecDepth 100000 in
theorem k_Mod_table_91 {p : Program} {l : Launch} {e : Env} {s : State} {m : MethodId} {args : Array Value} {below : List Frame} {meth : Method} {c : Code} {D : va_G} {aC : Nat → ClassId} {ad : Nat → Nat} {T : x_T} {nx : Nat} {A : Nat → Prop} {q : Int32 × x_W} (C0 : x_At p s m meth c args "WallDampModel" b_Mod_table (some (.int)) 4 D aC A) : ∀ (w : x_W) (H : Heap) (locs : List Loc) (ls : Array Slot) (l0 : Nat) (l1 : Int32) (l2 : Int32) (t0 : Nat), f_Mod_table_91 T w l0 l1 l2 t0 = some q → x_H D x_cl x_FT aC ad T nx A w H → va_S A s.heap H locs → lv_has ls 4 [(0, .ref (ad l0)), (1, .int l1), (2, .int l2)] → W p l e { frames := 1, cells := 0, slots := 0, locals := 25 } s m args below meth c H locs 0 0 (MQ below (x_Qc D aC ad T nx (some (.int q.1)) q.2 A) args s 0 0 A) (F0 m 91 ls [.ref (ad t0)]) := by
  obtain ⟨hx, hb, hr, hml, hown, hts, hlocks, hK, hA, hX⟩ := id C0
  intro w H locs ls l0 l1 l2 t0 hf hH hS hl
  unfold f_Mod_table_91 at hf
  refine lv_iconst (v := 0) hx hb d_Mod_table_91 (by decide) ?_
  exact k_Mod_table_92 C0 w _ _ _ l0 l1 l2 t0 (0 : Int32) hf hH hS (lv_sub hl [0, 1, 2] rfl)
set_option maxHeartbeats 4000000 in
set_option maxRecDepth 100000 in
theorem k_Mod_table_87 {p : Program} {l : Launch} {e : Env} {s : State} {m : MethodId} {args : Array Value} {below : List Frame} {meth : Method} {c : Code} {D : va_G} {aC : Nat → ClassId} {ad : Nat → Nat} {T : x_T} {nx : Nat} {A : Nat → Prop} {q : Int32 × x_W} (C0 : x_At p s m meth c args "WallDampModel" b_Mod_table (some (.int)) 4 D aC A) : ∀ (w : x_W) (H : Heap) (locs : List Loc) (ls : Array Slot) (l0 : Nat) (l1 : Int32) (l2 : Int32) (t0 : Nat), f_Mod_table_87 T w l0 l1 l2 t0 = some q → x_H D x_cl x_FT aC ad T nx A w H → va_S A s.heap H locs → lv_has ls 4 [(0, .ref (ad l0)), (1, .int l1), (2, .int l2)] → W p l e { frames := 1, cells := 0, slots := 0, locals := 25 } s m args below meth c H locs 0 0 (MQ below (x_Qc D aC ad T nx (some (.int q.1)) q.2 A) args s 0 0 A) (F0 m 87 ls [.ref (ad t0)]) := by
  obtain ⟨hx, hb, hr, hml, hown, hts, hlocks, hK, hA, hX⟩ := id C0
  intro w H locs ls l0 l1 l2 t0 hf hH hS hl
  unfold f_Mod_table_87 at hf
  refine lv_iconst (v := 2) hx hb d_Mod_table_87 (by decide) ?_
  refine lv_goto (tgt := 92) hx hb d_Mod_table_88 (by decide) ?_
  exact k_Mod_table_92 C0 w _ _ _ l0 l1 l2 t0 (2 : Int32) hf hH hS (lv_sub hl [0, 1, 2] rfl)
set_option maxHeartbeats 4000000 in
set_option maxRecDepth 100000 in
theorem k_Mod_table_31 {p : Program} {l : Launch} {e : Env} {s : State} {m : MethodId} {args : Array Value} {below : List Frame} {meth : Method} {c : Code} {D : va_G} {aC : Nat → ClassId} {ad : Nat → Nat} {T : x_T} {nx : Nat} {A : Nat → Prop} {q : Int32 × x_W} (C0 : x_At p s m meth c args "WallDampModel" b_Mod_table (some (.int)) 4 D aC A) : ∀ (w : x_W) (H : Heap) (locs : List Loc) (ls : Array Slot) (l0 : Nat) (l1 : Int32) (l2 : Int32) (t0 : Int32), f_Mod_table_31 T w l0 l1 l2 t0 = some q → x_H D x_cl x_FT aC ad T nx A w H → va_S A s.heap H locs → lv_has ls 4 [(0, .ref (ad l0)), (1, .int l1), (2, .int l2)] → W p l e { frames := 1, cells := 0, slots := 0, locals := 25 } s m args below meth c H locs 0 0 (MQ below (x_Qc D aC ad T nx (some (.int q.1)) q.2 A) args s 0 0 A) (F0 m 31 ls [.int t0]) := by
  obtain ⟨hx, hb, hr, hml, hown, hts, hlocks, hK, hA, hX⟩ := id C0
  intro w H locs ls l0 l1 l2 t0 hf hH hS hl
  unfold f_Mod_table_31 at hf
  refine lv_istore_n (lv' := [(3, .int t0), (0, .ref (ad l0)), (1, .int l1), (2, .int l2)]) hx hb d_Mod_table_31 rfl hl (by decide) rfl (fun ls hl => ?_)
  refine lv_aload_n hx hb d_Mod_table_32 rfl (lv_at hl 1 rfl) ?_
  refine lv_iload_n hx hb d_Mod_table_33 rfl (lv_at hl 0 rfl) ?_
  refine lv_if_ne (tgt := 41) hx hb d_Mod_table_34 (by decide) (fun c1 => ?_) (fun c1 => ?_)
  · have hf := x_if hf c1
    refine lv_aload_n hx hb d_Mod_table_41 rfl (lv_at hl 1 rfl) ?_
    obtain ⟨_, e2, hf⟩ := x_b hf
    obtain ⟨n3, hT4⟩ := x_is_e e2
    refine x_get (C := "WallDampModel") (F := F_Mod) (N := 51) hx hb hts i_Mod hown hK hH hT4 (by decide) rfl 16 (by decide) (hts _ m_809) (fun _ h9 => h9) (kd := (0, 80)) rfl rfl d_Mod_table_42 ?_
    refine lv_bipush (v := 8) hx hb d_Mod_table_45 (by decide) ?_
    refine lv_icmp_eq (tgt := 87) hx hb d_Mod_table_47 (by decide) (fun c5 => ?_) (fun c5 => ?_)
    · have hf := x_it hf c5
      exact k_Mod_table_87 C0 w _ _ _ l0 l1 l2 l0 hf hH hS (lv_sub hl [1, 2, 3] rfl)
    · have hf := x_if hf c5
      refine lv_aload_n hx hb d_Mod_table_50 rfl (lv_at hl 1 rfl) ?_
      refine x_get (C := "WallDampModel") (F := F_Mod) (N := 51) hx hb hts i_Mod hown hK hH hT4 (by decide) rfl 16 (by decide) (hts _ m_809) (fun _ h9 => h9) (kd := (0, 80)) rfl rfl d_Mod_table_51 ?_
      refine lv_if_le (tgt := 91) hx hb d_Mod_table_54 (by decide) (fun c6 => ?_) (fun c6 => ?_)
      · have hf := x_it hf c6
        exact k_Mod_table_91 C0 w _ _ _ l0 l1 l2 l0 hf hH hS (lv_sub hl [1, 2, 3] rfl)
      · have hf := x_if hf c6
        refine lv_iload_n hx hb d_Mod_table_57 rfl (lv_at hl 2 rfl) ?_
        refine lv_aload_n hx hb d_Mod_table_58 rfl (lv_at hl 1 rfl) ?_
        obtain ⟨a7, e8, hf⟩ := x_b hf
        refine x_get (C := "WallDampModel") (F := F_Mod) (N := 51) hx hb hts i_Mod hown hK hH hT4 (by decide) rfl 17 (by decide) (hts _ m_810) (fun _ h9 => h9) (kd := (2, 81)) rfl (x_fr e8) d_Mod_table_59 ?_
        refine lv_aload_n hx hb d_Mod_table_62 rfl (lv_at hl 1 rfl) ?_
        refine x_get (C := "WallDampModel") (F := F_Mod) (N := 51) hx hb hts i_Mod hown hK hH hT4 (by decide) rfl 16 (by decide) (hts _ m_809) (fun _ h9 => h9) (kd := (0, 80)) rfl rfl d_Mod_table_63 ?_
        refine lv_iconst (v := 1) hx hb d_Mod_table_66 (by decide) ?_
        refine lv_isub hx hb d_Mod_table_67 ?_
        obtain ⟨_, e9, hf⟩ := x_b hf
        obtain ⟨n10, hT11, hi12⟩ := x_ix_e e9
        refine x_iald hx hb hK hH hT11 0 rfl hi12 d_Mod_table_68 ?_
        refine lv_icmp_le (tgt := 87) hx hb d_Mod_table_69 (by decide) (fun c13 => ?_) (fun c13 => ?_)
        · have hf := x_it hf c13
          exact k_Mod_table_87 C0 w _ _ _ l0 l1 l2 l0 hf hH hS (lv_sub hl [1, 2, 3] rfl)
        · have hf := x_if hf c13
          refine lv_iload_n hx hb d_Mod_table_72 rfl (lv_at hl 3 rfl) ?_
          refine lv_aload_n hx hb d_Mod_table_73 rfl (lv_at hl 1 rfl) ?_
          obtain ⟨a14, e15, hf⟩ := x_b hf
          refine x_get (C := "WallDampModel") (F := F_Mod) (N := 51) hx hb hts i_Mod hown hK hH hT4 (by decide) rfl 18 (by decide) (hts _ m_811) (fun _ h9 => h9) (kd := (2, 82)) rfl (x_fr e15) d_Mod_table_74 ?_
          refine lv_aload_n hx hb d_Mod_table_77 rfl (lv_at hl 1 rfl) ?_
          refine x_get (C := "WallDampModel") (F := F_Mod) (N := 51) hx hb hts i_Mod hown hK hH hT4 (by decide) rfl 16 (by decide) (hts _ m_809) (fun _ h9 => h9) (kd := (0, 80)) rfl rfl d_Mod_table_78 ?_
          refine lv_iconst (v := 1) hx hb d_Mod_table_81 (by decide) ?_
          refine lv_isub hx hb d_Mod_table_82 ?_
          obtain ⟨_, e16, hf⟩ := x_b hf
          obtain ⟨n17, hT18, hi19⟩ := x_ix_e e16
          refine x_iald hx hb hK hH hT18 0 rfl hi19 d_Mod_table_83 ?_
          refine lv_icmp_gt (tgt := 91) hx hb d_Mod_table_84 (by decide) (fun c20 => ?_) (fun c20 => ?_)
          · have hf := x_it hf c20
            exact k_Mod_table_91 C0 w _ _ _ l0 l1 l2 l0 hf hH hS (lv_sub hl [1, 2, 3] rfl)
          · have hf := x_if hf c20
            exact k_Mod_table_87 C0 w _ _ _ l0 l1 l2 l0 hf hH hS (lv_sub hl [1, 2, 3] rfl)
  · have hf := x_it hf c1
    refine lv_iconst (v := 1) hx hb d_Mod_table_37 (by decide) ?_
    refine lv_goto (tgt := 92) hx hb d_Mod_table_38 (by decide) ?_
    exact k_Mod_table_92 C0 w _ _ _ l0 l1 l2 l0 (1 : Int32) hf hH hS (lv_sub hl [1, 2, 3] rfl)
set_option maxHeartbeats 4000000 in
set_option maxRecDepth 100000 in
theorem k_Mod_table_30 {p : Program} {l : Launch} {e : Env} {s : State} {m : MethodId} {args : Array Value} {below : List Frame} {meth : Method} {c : Code} {D : va_G} {aC : Nat → ClassId} {ad : Nat → Nat} {T : x_T} {nx : Nat} {A : Nat → Prop} {q : Int32 × x_W} (C0 : x_At p s m meth c args "WallDampModel" b_Mod_table (some (.int)) 4 D aC A) : ∀ (w : x_W) (H : Heap) (locs : List Loc) (ls : Array Slot) (l0 : Nat) (l1 : Int32) (l2 : Int32), f_Mod_table_30 T w l0 l1 l2 = some q → x_H D x_cl x_FT aC ad T nx A w H → va_S A s.heap H locs → lv_has ls 4 [(0, .ref (ad l0)), (1, .int l1), (2, .int l2)] → W p l e { frames := 1, cells := 0, slots := 0, locals := 25 } s m args below meth c H locs 0 0 (MQ below (x_Qc D aC ad T nx (some (.int q.1)) q.2 A) args s 0 0 A) (F0 m 30 ls []) := by
  obtain ⟨hx, hb, hr, hml, hown, hts, hlocks, hK, hA, hX⟩ := id C0
  intro w H locs ls l0 l1 l2 hf hH hS hl
  unfold f_Mod_table_30 at hf
  refine lv_iconst (v := 0) hx hb d_Mod_table_30 (by decide) ?_
  exact k_Mod_table_31 C0 w _ _ _ l0 l1 l2 (0 : Int32) hf hH hS (lv_sub hl [0, 1, 2] rfl)
set_option maxHeartbeats 4000000 in
set_option maxRecDepth 100000 in
theorem k_Mod_table {p : Program} {l : Launch} {e : Env} {s : State} {m : MethodId} {args : Array Value} {below : List Frame} {meth : Method} {c : Code} {D : va_G} {aC : Nat → ClassId} {ad : Nat → Nat} {T : x_T} {nx : Nat} {A : Nat → Prop} {q : Int32 × x_W} (C0 : x_At p s m meth c args "WallDampModel" b_Mod_table (some (.int)) 4 D aC A) : ∀ (w : x_W) (H : Heap) (locs : List Loc) (ls : Array Slot) (l0 : Nat) (l1 : Int32) (l2 : Int32), f_Mod_table T w l0 l1 l2 = some q → x_H D x_cl x_FT aC ad T nx A w H → va_S A s.heap H locs → lv_has ls 4 [(0, .ref (ad l0)), (1, .int l1), (2, .int l2)] → W p l e { frames := 1, cells := 0, slots := 0, locals := 25 } s m args below meth c H locs 0 0 (MQ below (x_Qc D aC ad T nx (some (.int q.1)) q.2 A) args s 0 0 A) (F0 m 0 ls []) := by
  obtain ⟨hx, hb, hr, hml, hown, hts, hlocks, hK, hA, hX⟩ := id C0
  intro w H locs ls l0 l1 l2 hf hH hS hl
  unfold f_Mod_table at hf
  refine lv_iload_n hx hb d_Mod_table_0 rfl (lv_at hl 1 rfl) ?_
  refine lv_i2l (v := l1.toInt64) hx hb d_Mod_table_1 rfl ?_
  refine lv_ldc2 (v := (-5000 : Int64)) hx hb hown (hts _ m_984) d_Mod_table_2 ?_
  refine lv_ldc2 (v := (10000 : Int64)) hx hb hown (hts _ m_962) d_Mod_table_5 ?_
  obtain ⟨q1, e2, hf⟩ := x_b hf
  refine x_callP (st1 := [.int q1]) (x_runS (As := [.long (l1.toInt64), .long (-5000 : Int64), .long (10000 : Int64)]) (rest := []) ⟨hx, hb, hml, hown, hts⟩ (c_Mod_in l D aC ad T nx H.size w (l1.toInt64) (-5000 : Int64) (10000 : Int64) q1 e2) (va_cwS 3 hts (x_gS m_958 m_959 m_13 m_960) rfl rfl rfl pd_Mod_in ⟨Nat.le_of_ble_eq_true rfl, Nat.le_of_ble_eq_true rfl⟩) hH hK hX rfl hl.1 rfl (lv_room (Nat.le_of_ble_eq_true rfl)) d_Mod_table_8 ⟨Nat.zero_le _, Nat.zero_le _⟩) rfl ?_
  refine lv_if_eq (tgt := 30) hx hb d_Mod_table_11 (by decide) (fun c3 => ?_) (fun c3 => ?_)
  · have hf := x_it hf c3
    exact k_Mod_table_30 C0 w _ _ _ l0 l1 l2 hf hH hS (lv_sub hl [0, 1, 2] rfl)
  · have hf := x_if hf c3
    refine lv_iload_n hx hb d_Mod_table_14 rfl (lv_at hl 2 rfl) ?_
    refine lv_i2l (v := l2.toInt64) hx hb d_Mod_table_15 rfl ?_
    refine lv_lconst (v := 0) hx hb d_Mod_table_16 (by decide) ?_
    refine lv_ldc2 (v := (100000 : Int64)) hx hb hown (hts _ m_985) d_Mod_table_17 ?_
    obtain ⟨q4, e5, hf⟩ := x_b hf
    refine x_callP (st1 := [.int q4]) (x_runS (As := [.long (l2.toInt64), .long (0 : Int64), .long (100000 : Int64)]) (rest := []) ⟨hx, hb, hml, hown, hts⟩ (c_Mod_in l D aC ad T nx H.size w (l2.toInt64) (0 : Int64) (100000 : Int64) q4 e5) (va_cwS 3 hts (x_gS m_958 m_959 m_13 m_960) rfl rfl rfl pd_Mod_in ⟨Nat.le_of_ble_eq_true rfl, Nat.le_of_ble_eq_true rfl⟩) hH hK hX rfl hl.1 rfl (lv_room (Nat.le_of_ble_eq_true rfl)) d_Mod_table_20 ⟨Nat.zero_le _, Nat.zero_le _⟩) rfl ?_
    refine lv_if_eq (tgt := 30) hx hb d_Mod_table_23 (by decide) (fun c6 => ?_) (fun c6 => ?_)
    · have hf := x_it hf c6
      exact k_Mod_table_30 C0 w _ _ _ l0 l1 l2 hf hH hS (lv_sub hl [0, 1, 2] rfl)
    · have hf := x_if hf c6
      refine lv_iconst (v := 1) hx hb d_Mod_table_26 (by decide) ?_
      refine lv_goto (tgt := 31) hx hb d_Mod_table_27 (by decide) ?_
      exact k_Mod_table_31 C0 w _ _ _ l0 l1 l2 (1 : Int32) hf hH hS (lv_sub hl [0, 1, 2] rfl)
theorem c_Mod_table (l : Launch) (D : va_G) (aC : Nat → ClassId) (ad : Nat → Nat) (T : x_T) (nx sz : Nat) (w : x_W) (a0 : Nat) (a1 : Int32) (a2 : Int32) (q : Int32 × x_W) (hf : f_Mod_table T w a0 a1 a2 = some q) : Met l y_Mod_table ws_Mod_table { frames := 1, cells := 0, slots := 0, locals := 25 } (x_Pc D aC ad T nx sz w [.ref (ad a0), .int a1, .int a2]) (x_Qc D aC ad T nx (some (.int q.1)) q.2 (x_dom ad nx sz)) 0 0 (x_dom ad nx sz) :=
  x_met [(0, .ref (ad a0)), (1, .int a1), (2, .int a2)] (plainFor_of_name (by decide)) rfl rfl (Nat.le_of_ble_eq_true rfl) (fun p e s m args below meth c ls C0 hH hS hl => k_Mod_table C0 w _ _ _ a0 a1 a2 hf hH hS (lv_sub hl [0, 1, 2] rfl))
/-! WallDampModel.fullAt(I)I -/
def f_Mod_fullAt_56 (T : x_T) (w : x_W) (l0 : Nat) (l2 : Int32) : Option (Int32) :=
  (x_is T l0 10).bind fun _ =>
  (x_R w 82 l0).bind fun a4 =>
  (x_ix T a4 100 l2).bind fun _ =>
  some (x_A w a4 l2.toNatClampNeg)
def f_Mod_fullAt_36 (T : x_T) (w : x_W) (l0 : Nat) (l1 : Int32) (l2 : Int32) : Option (Int32) :=
  (x_is T l0 10).bind fun _ =>
  (x_R w 81 l0).bind fun a4 =>
  (x_ix T a4 100 l2).bind fun _ =>
  if l1 ≤ (x_A w a4 l2.toNatClampNeg) then
    (f_Mod_fullAt_56 T w l0 l2)
  else
    (if l2 = ((x_I w 80 l0) - (1 : Int32)) then
      (f_Mod_fullAt_56 T w l0 l2)
    else
      ((x_R w 82 l0).bind fun a12 =>
      (x_ix T a12 100 (l2 + (1 : Int32))).bind fun _ =>
      (x_R w 82 l0).bind fun a18 =>
      (x_ix T a18 100 l2).bind fun _ =>
      (x_R w 81 l0).bind fun a24 =>
      (x_ix T a24 100 l2).bind fun _ =>
      (some (((((x_A w a12 (l2 + (1 : Int32)).toNatClampNeg) - (x_A w a18 l2.toNatClampNeg)).toInt64) * ((l1 - (x_A w a24 l2.toNatClampNeg)).toInt64)))).bind fun v30 =>
      (x_R w 82 l0).bind fun a32 =>
      (x_ix T a32 100 l2).bind fun _ =>
      (x_R w 81 l0).bind fun a38 =>
      (x_ix T a38 100 (l2 + (1 : Int32))).bind fun _ =>
      (x_R w 81 l0).bind fun a44 =>
      (x_ix T a44 100 l2).bind fun _ =>
      (x_nzl (((x_A w a38 (l2 + (1 : Int32)).toNatClampNeg) - (x_A w a44 l2.toNatClampNeg)).toInt64)).bind fun _ =>
      some ((((x_A w a32 l2.toNatClampNeg).toInt64) + (v30 / (((x_A w a38 (l2 + (1 : Int32)).toNatClampNeg) - (x_A w a44 l2.toNatClampNeg)).toInt64))).toInt32)))
def f_Mod_fullAt_16 (T : x_T) : Nat → x_W → Nat → Int32 → Int32 → Option (Int32)
  | 0, _, _, _, _ => none
  | n + 1, w, l0, l1, l2 =>
    if l2 ≤ 0 then
      (f_Mod_fullAt_36 T w l0 l1 l2)
    else
      ((x_is T l0 10).bind fun _ =>
      (x_R w 81 l0).bind fun a5 =>
      (x_ix T a5 100 l2).bind fun _ =>
      if (x_A w a5 l2.toNatClampNeg) ≤ l1 then
        (f_Mod_fullAt_36 T w l0 l1 l2)
      else
        (f_Mod_fullAt_16 T n w l0 l1 (l2 + (-1))))
def f_Mod_fullAt (T : x_T) (w : x_W) (l0 : Nat) (l1 : Int32) : Option (Int32) :=
  (x_is T l0 10).bind fun _ =>
  if (x_I w 80 l0) = 0 then
    (some (0 : Int32))
  else
    ((some (((x_I w 80 l0) - (1 : Int32)))).bind fun v5 =>
    f_Mod_fullAt_16 T 1000 w l0 l1 v5)
set_option maxHeartbeats 4000000 in
set_option maxRecDepth 100000 in
theorem k_Mod_fullAt_56 {p : Program} {l : Launch} {e : Env} {s : State} {m : MethodId} {args : Array Value} {below : List Frame} {meth : Method} {c : Code} {D : va_G} {aC : Nat → ClassId} {ad : Nat → Nat} {T : x_T} {nx : Nat} {A : Nat → Prop} {q : Int32} (C0 : x_At p s m meth c args "WallDampModel" b_Mod_fullAt (some (.int)) 5 D aC A) : ∀ (w : x_W) (ls : Array Slot) (l0 : Nat) (l2 : Int32), f_Mod_fullAt_56 T w l0 l2 = some q → x_H D x_cl x_FT aC ad T nx A w s.heap → lv_has ls 5 [(0, .ref (ad l0)), (2, .int l2)] → W p l e { frames := 0, cells := 0, slots := 0, locals := 0 } s m args below meth c s.heap [] 0 0 (MQ below (x_Qp (some (.int q))) args s 0 0 (fun _ => False)) (F0 m 56 ls []) := by
  obtain ⟨hx, hb, hr, hml, hown, hts, hlocks, hK, hA, hX⟩ := id C0
  intro w ls l0 l2 hf hH hl
  unfold f_Mod_fullAt_56 at hf
  refine lv_aload_n hx hb d_Mod_fullAt_56 rfl (lv_at hl 0 rfl) ?_
  obtain ⟨_, e1, hf⟩ := x_b hf
  obtain ⟨n2, hT3⟩ := x_is_e e1
  obtain ⟨a4, e5, hf⟩ := x_b hf
  refine x_get (C := "WallDampModel") (F := F_Mod) (N := 51) hx hb hts i_Mod hown hK hH hT3 (by decide) rfl 18 (by decide) (hts _ m_811) (fun _ h9 => h9) (kd := (2, 82)) rfl (x_fr e5) d_Mod_fullAt_57 ?_
  refine lv_iload_n hx hb d_Mod_fullAt_60 rfl (lv_at hl 1 rfl) ?_
  obtain ⟨_, e6, hf⟩ := x_b hf
  obtain ⟨n7, hT8, hi9⟩ := x_ix_e e6
  refine x_iald hx hb hK hH hT8 0 rfl hi9 d_Mod_fullAt_61 ?_
  cases hf
  exact W.iret hx hb hr (fun t ht hW => ⟨rfl, ht⟩) (fun _ h => by cases h) d_Mod_fullAt_62
set_option maxHeartbeats 4000000 in
set_option maxRecDepth 100000 in
theorem k_Mod_fullAt_36 {p : Program} {l : Launch} {e : Env} {s : State} {m : MethodId} {args : Array Value} {below : List Frame} {meth : Method} {c : Code} {D : va_G} {aC : Nat → ClassId} {ad : Nat → Nat} {T : x_T} {nx : Nat} {A : Nat → Prop} {q : Int32} (C0 : x_At p s m meth c args "WallDampModel" b_Mod_fullAt (some (.int)) 5 D aC A) : ∀ (w : x_W) (ls : Array Slot) (l0 : Nat) (l1 : Int32) (l2 : Int32), f_Mod_fullAt_36 T w l0 l1 l2 = some q → x_H D x_cl x_FT aC ad T nx A w s.heap → lv_has ls 5 [(0, .ref (ad l0)), (1, .int l1), (2, .int l2)] → W p l e { frames := 0, cells := 0, slots := 0, locals := 0 } s m args below meth c s.heap [] 0 0 (MQ below (x_Qp (some (.int q))) args s 0 0 (fun _ => False)) (F0 m 36 ls []) := by
  obtain ⟨hx, hb, hr, hml, hown, hts, hlocks, hK, hA, hX⟩ := id C0
  intro w ls l0 l1 l2 hf hH hl
  unfold f_Mod_fullAt_36 at hf
  refine lv_iload_n hx hb d_Mod_fullAt_36 rfl (lv_at hl 1 rfl) ?_
  refine lv_aload_n hx hb d_Mod_fullAt_37 rfl (lv_at hl 0 rfl) ?_
  obtain ⟨_, e1, hf⟩ := x_b hf
  obtain ⟨n2, hT3⟩ := x_is_e e1
  obtain ⟨a4, e5, hf⟩ := x_b hf
  refine x_get (C := "WallDampModel") (F := F_Mod) (N := 51) hx hb hts i_Mod hown hK hH hT3 (by decide) rfl 17 (by decide) (hts _ m_810) (fun _ h9 => h9) (kd := (2, 81)) rfl (x_fr e5) d_Mod_fullAt_38 ?_
  refine lv_iload_n hx hb d_Mod_fullAt_41 rfl (lv_at hl 2 rfl) ?_
  obtain ⟨_, e6, hf⟩ := x_b hf
  obtain ⟨n7, hT8, hi9⟩ := x_ix_e e6
  refine x_iald hx hb hK hH hT8 0 rfl hi9 d_Mod_fullAt_42 ?_
  refine lv_icmp_le (tgt := 56) hx hb d_Mod_fullAt_43 (by decide) (fun c10 => ?_) (fun c10 => ?_)
  · have hf := x_it hf c10
    exact k_Mod_fullAt_56 C0 w _ l0 l2 hf hH (lv_sub hl [0, 2] rfl)
  · have hf := x_if hf c10
    refine lv_iload_n hx hb d_Mod_fullAt_46 rfl (lv_at hl 2 rfl) ?_
    refine lv_aload_n hx hb d_Mod_fullAt_47 rfl (lv_at hl 0 rfl) ?_
    refine x_get (C := "WallDampModel") (F := F_Mod) (N := 51) hx hb hts i_Mod hown hK hH hT3 (by decide) rfl 16 (by decide) (hts _ m_809) (fun _ h9 => h9) (kd := (0, 80)) rfl rfl d_Mod_fullAt_48 ?_
    refine lv_iconst (v := 1) hx hb d_Mod_fullAt_51 (by decide) ?_
    refine lv_isub hx hb d_Mod_fullAt_52 ?_
    refine lv_icmp_ne (tgt := 63) hx hb d_Mod_fullAt_53 (by decide) (fun c11 => ?_) (fun c11 => ?_)
    · have hf := x_if hf c11
      refine lv_aload_n hx hb d_Mod_fullAt_63 rfl (lv_at hl 0 rfl) ?_
      obtain ⟨a12, e13, hf⟩ := x_b hf
      refine x_get (C := "WallDampModel") (F := F_Mod) (N := 51) hx hb hts i_Mod hown hK hH hT3 (by decide) rfl 18 (by decide) (hts _ m_811) (fun _ h9 => h9) (kd := (2, 82)) rfl (x_fr e13) d_Mod_fullAt_64 ?_
      refine lv_iload_n hx hb d_Mod_fullAt_67 rfl (lv_at hl 2 rfl) ?_
      refine lv_iconst (v := 1) hx hb d_Mod_fullAt_68 (by decide) ?_
      refine lv_iadd hx hb d_Mod_fullAt_69 ?_
      obtain ⟨_, e14, hf⟩ := x_b hf
      obtain ⟨n15, hT16, hi17⟩ := x_ix_e e14
      refine x_iald hx hb hK hH hT16 0 rfl hi17 d_Mod_fullAt_70 ?_
      refine lv_aload_n hx hb d_Mod_fullAt_71 rfl (lv_at hl 0 rfl) ?_
      obtain ⟨a18, e19, hf⟩ := x_b hf
      refine x_get (C := "WallDampModel") (F := F_Mod) (N := 51) hx hb hts i_Mod hown hK hH hT3 (by decide) rfl 18 (by decide) (hts _ m_811) (fun _ h9 => h9) (kd := (2, 82)) rfl (x_fr e19) d_Mod_fullAt_72 ?_
      refine lv_iload_n hx hb d_Mod_fullAt_75 rfl (lv_at hl 2 rfl) ?_
      obtain ⟨_, e20, hf⟩ := x_b hf
      obtain ⟨n21, hT22, hi23⟩ := x_ix_e e20
      refine x_iald hx hb hK hH hT22 0 rfl hi23 d_Mod_fullAt_76 ?_
      refine lv_isub hx hb d_Mod_fullAt_77 ?_
      refine lv_i2l (v := ((x_A w a12 (l2 + (1 : Int32)).toNatClampNeg) - (x_A w a18 l2.toNatClampNeg)).toInt64) hx hb d_Mod_fullAt_78 rfl ?_
      refine lv_iload_n hx hb d_Mod_fullAt_79 rfl (lv_at hl 1 rfl) ?_
      refine lv_aload_n hx hb d_Mod_fullAt_80 rfl (lv_at hl 0 rfl) ?_
      obtain ⟨a24, e25, hf⟩ := x_b hf
      refine x_get (C := "WallDampModel") (F := F_Mod) (N := 51) hx hb hts i_Mod hown hK hH hT3 (by decide) rfl 17 (by decide) (hts _ m_810) (fun _ h9 => h9) (kd := (2, 81)) rfl (x_fr e25) d_Mod_fullAt_81 ?_
      refine lv_iload_n hx hb d_Mod_fullAt_84 rfl (lv_at hl 2 rfl) ?_
      obtain ⟨_, e26, hf⟩ := x_b hf
      obtain ⟨n27, hT28, hi29⟩ := x_ix_e e26
      refine x_iald hx hb hK hH hT28 0 rfl hi29 d_Mod_fullAt_85 ?_
      refine lv_isub hx hb d_Mod_fullAt_86 ?_
      refine lv_i2l (v := (l1 - (x_A w a24 l2.toNatClampNeg)).toInt64) hx hb d_Mod_fullAt_87 rfl ?_
      refine lv_lmul hx hb d_Mod_fullAt_88 ?_
      obtain ⟨v30, e31, hf⟩ := x_b hf
      refine x_nml e31 ?_
      refine lv_lstore_n (lv' := [(3, .long v30), (0, .ref (ad l0)), (1, .int l1), (2, .int l2)]) hx hb d_Mod_fullAt_89 rfl hl (by decide) rfl (fun ls hl => ?_)
      refine lv_aload_n hx hb d_Mod_fullAt_90 rfl (lv_at hl 1 rfl) ?_
      obtain ⟨a32, e33, hf⟩ := x_b hf
      refine x_get (C := "WallDampModel") (F := F_Mod) (N := 51) hx hb hts i_Mod hown hK hH hT3 (by decide) rfl 18 (by decide) (hts _ m_811) (fun _ h9 => h9) (kd := (2, 82)) rfl (x_fr e33) d_Mod_fullAt_91 ?_
      refine lv_iload_n hx hb d_Mod_fullAt_94 rfl (lv_at hl 3 rfl) ?_
      obtain ⟨_, e34, hf⟩ := x_b hf
      obtain ⟨n35, hT36, hi37⟩ := x_ix_e e34
      refine x_iald hx hb hK hH hT36 0 rfl hi37 d_Mod_fullAt_95 ?_
      refine lv_i2l (v := (x_A w a32 l2.toNatClampNeg).toInt64) hx hb d_Mod_fullAt_96 rfl ?_
      refine lv_lload_n hx hb d_Mod_fullAt_97 rfl (lv_at hl 0 rfl) ?_
      refine lv_aload_n hx hb d_Mod_fullAt_98 rfl (lv_at hl 1 rfl) ?_
      obtain ⟨a38, e39, hf⟩ := x_b hf
      refine x_get (C := "WallDampModel") (F := F_Mod) (N := 51) hx hb hts i_Mod hown hK hH hT3 (by decide) rfl 17 (by decide) (hts _ m_810) (fun _ h9 => h9) (kd := (2, 81)) rfl (x_fr e39) d_Mod_fullAt_99 ?_
      refine lv_iload_n hx hb d_Mod_fullAt_102 rfl (lv_at hl 3 rfl) ?_
      refine lv_iconst (v := 1) hx hb d_Mod_fullAt_103 (by decide) ?_
      refine lv_iadd hx hb d_Mod_fullAt_104 ?_
      obtain ⟨_, e40, hf⟩ := x_b hf
      obtain ⟨n41, hT42, hi43⟩ := x_ix_e e40
      refine x_iald hx hb hK hH hT42 0 rfl hi43 d_Mod_fullAt_105 ?_
      refine lv_aload_n hx hb d_Mod_fullAt_106 rfl (lv_at hl 1 rfl) ?_
      obtain ⟨a44, e45, hf⟩ := x_b hf
      refine x_get (C := "WallDampModel") (F := F_Mod) (N := 51) hx hb hts i_Mod hown hK hH hT3 (by decide) rfl 17 (by decide) (hts _ m_810) (fun _ h9 => h9) (kd := (2, 81)) rfl (x_fr e45) d_Mod_fullAt_107 ?_
      refine lv_iload_n hx hb d_Mod_fullAt_110 rfl (lv_at hl 3 rfl) ?_
      obtain ⟨_, e46, hf⟩ := x_b hf
      obtain ⟨n47, hT48, hi49⟩ := x_ix_e e46
      refine x_iald hx hb hK hH hT48 0 rfl hi49 d_Mod_fullAt_111 ?_
      refine lv_isub hx hb d_Mod_fullAt_112 ?_
      refine lv_i2l (v := ((x_A w a38 (l2 + (1 : Int32)).toNatClampNeg) - (x_A w a44 l2.toNatClampNeg)).toInt64) hx hb d_Mod_fullAt_113 rfl ?_
      obtain ⟨_, e50, hf⟩ := x_b hf
      refine lv_ldiv hx hb d_Mod_fullAt_114 (x_nzl_e e50) ?_
      refine lv_ladd hx hb d_Mod_fullAt_115 ?_
      refine lv_l2i (v := (((x_A w a32 l2.toNatClampNeg).toInt64) + (v30 / (((x_A w a38 (l2 + (1 : Int32)).toNatClampNeg) - (x_A w a44 l2.toNatClampNeg)).toInt64))).toInt32) hx hb d_Mod_fullAt_116 rfl ?_
      cases hf
      exact W.iret hx hb hr (fun t ht hW => ⟨rfl, ht⟩) (fun _ h => by cases h) d_Mod_fullAt_117
    · have hf := x_it hf c11
      exact k_Mod_fullAt_56 C0 w _ l0 l2 hf hH (lv_sub hl [0, 2] rfl)
set_option maxHeartbeats 4000000 in
set_option maxRecDepth 100000 in
theorem k_Mod_fullAt_16 {p : Program} {l : Launch} {e : Env} {s : State} {m : MethodId} {args : Array Value} {below : List Frame} {meth : Method} {c : Code} {D : va_G} {aC : Nat → ClassId} {ad : Nat → Nat} {T : x_T} {nx : Nat} {A : Nat → Prop} {q : Int32} (C0 : x_At p s m meth c args "WallDampModel" b_Mod_fullAt (some (.int)) 5 D aC A) : ∀ (n : Nat), ∀ (w : x_W) (ls : Array Slot) (l0 : Nat) (l1 : Int32) (l2 : Int32), f_Mod_fullAt_16 T n w l0 l1 l2 = some q → x_H D x_cl x_FT aC ad T nx A w s.heap → lv_has ls 5 [(0, .ref (ad l0)), (1, .int l1), (2, .int l2)] → W p l e { frames := 0, cells := 0, slots := 0, locals := 0 } s m args below meth c s.heap [] 0 0 (MQ below (x_Qp (some (.int q))) args s 0 0 (fun _ => False)) (F0 m 16 ls []) := by
  obtain ⟨hx, hb, hr, hml, hown, hts, hlocks, hK, hA, hX⟩ := id C0
  intro n
  induction n with
  | zero => intro w ls l0 l1 l2 hf; cases (show none = some q from hf)
  | succ n ih =>
    intro w ls l0 l1 l2 hf hH hl
    unfold f_Mod_fullAt_16 at hf
    refine lv_iload_n hx hb d_Mod_fullAt_16 rfl (lv_at hl 2 rfl) ?_
    refine lv_if_le (tgt := 36) hx hb d_Mod_fullAt_17 (by decide) (fun c1 => ?_) (fun c1 => ?_)
    · have hf := x_it hf c1
      exact k_Mod_fullAt_36 C0 w _ l0 l1 l2 hf hH (lv_sub hl [0, 1, 2] rfl)
    · have hf := x_if hf c1
      refine lv_aload_n hx hb d_Mod_fullAt_20 rfl (lv_at hl 0 rfl) ?_
      obtain ⟨_, e2, hf⟩ := x_b hf
      obtain ⟨n3, hT4⟩ := x_is_e e2
      obtain ⟨a5, e6, hf⟩ := x_b hf
      refine x_get (C := "WallDampModel") (F := F_Mod) (N := 51) hx hb hts i_Mod hown hK hH hT4 (by decide) rfl 17 (by decide) (hts _ m_810) (fun _ h9 => h9) (kd := (2, 81)) rfl (x_fr e6) d_Mod_fullAt_21 ?_
      refine lv_iload_n hx hb d_Mod_fullAt_24 rfl (lv_at hl 2 rfl) ?_
      obtain ⟨_, e7, hf⟩ := x_b hf
      obtain ⟨n8, hT9, hi10⟩ := x_ix_e e7
      refine x_iald hx hb hK hH hT9 0 rfl hi10 d_Mod_fullAt_25 ?_
      refine lv_iload_n hx hb d_Mod_fullAt_26 rfl (lv_at hl 1 rfl) ?_
      refine lv_icmp_le (tgt := 36) hx hb d_Mod_fullAt_27 (by decide) (fun c11 => ?_) (fun c11 => ?_)
      · have hf := x_it hf c11
        exact k_Mod_fullAt_36 C0 w _ l0 l1 l2 hf hH (lv_sub hl [0, 1, 2] rfl)
      · have hf := x_if hf c11
        refine lv_iinc (v := (l2 + (-1))) (lv' := [(2, .int (l2 + (-1))), (0, .ref (ad l0)), (1, .int l1)]) hx hb d_Mod_fullAt_30 hl (k := 2) rfl rfl (by decide) rfl (fun ls hl => ?_)
        refine lv_goto (tgt := 16) hx hb d_Mod_fullAt_33 (by decide) ?_
        exact ih w _ l0 l1 (l2 + (-1)) hf hH (lv_sub hl [1, 2, 0] rfl)
set_option maxHeartbeats 4000000 in
set_option maxRecDepth 100000 in
theorem k_Mod_fullAt {p : Program} {l : Launch} {e : Env} {s : State} {m : MethodId} {args : Array Value} {below : List Frame} {meth : Method} {c : Code} {D : va_G} {aC : Nat → ClassId} {ad : Nat → Nat} {T : x_T} {nx : Nat} {A : Nat → Prop} {q : Int32} (C0 : x_At p s m meth c args "WallDampModel" b_Mod_fullAt (some (.int)) 5 D aC A) : ∀ (w : x_W) (ls : Array Slot) (l0 : Nat) (l1 : Int32), f_Mod_fullAt T w l0 l1 = some q → x_H D x_cl x_FT aC ad T nx A w s.heap → lv_has ls 5 [(0, .ref (ad l0)), (1, .int l1)] → W p l e { frames := 0, cells := 0, slots := 0, locals := 0 } s m args below meth c s.heap [] 0 0 (MQ below (x_Qp (some (.int q))) args s 0 0 (fun _ => False)) (F0 m 0 ls []) := by
  obtain ⟨hx, hb, hr, hml, hown, hts, hlocks, hK, hA, hX⟩ := id C0
  intro w ls l0 l1 hf hH hl
  unfold f_Mod_fullAt at hf
  refine lv_aload_n hx hb d_Mod_fullAt_0 rfl (lv_at hl 0 rfl) ?_
  obtain ⟨_, e1, hf⟩ := x_b hf
  obtain ⟨n2, hT3⟩ := x_is_e e1
  refine x_get (C := "WallDampModel") (F := F_Mod) (N := 51) hx hb hts i_Mod hown hK hH hT3 (by decide) rfl 16 (by decide) (hts _ m_809) (fun _ h9 => h9) (kd := (0, 80)) rfl rfl d_Mod_fullAt_1 ?_
  refine lv_if_ne (tgt := 9) hx hb d_Mod_fullAt_4 (by decide) (fun c4 => ?_) (fun c4 => ?_)
  · have hf := x_if hf c4
    refine lv_aload_n hx hb d_Mod_fullAt_9 rfl (lv_at hl 0 rfl) ?_
    refine x_get (C := "WallDampModel") (F := F_Mod) (N := 51) hx hb hts i_Mod hown hK hH hT3 (by decide) rfl 16 (by decide) (hts _ m_809) (fun _ h9 => h9) (kd := (0, 80)) rfl rfl d_Mod_fullAt_10 ?_
    refine lv_iconst (v := 1) hx hb d_Mod_fullAt_13 (by decide) ?_
    refine lv_isub hx hb d_Mod_fullAt_14 ?_
    obtain ⟨v5, e6, hf⟩ := x_b hf
    refine x_nmi e6 ?_
    refine lv_istore_n (lv' := [(2, .int v5), (0, .ref (ad l0)), (1, .int l1)]) hx hb d_Mod_fullAt_15 rfl hl (by decide) rfl (fun ls hl => ?_)
    exact k_Mod_fullAt_16 C0 1000 w _ l0 l1 v5 hf hH (lv_sub hl [1, 2, 0] rfl)
  · have hf := x_it hf c4
    refine lv_iconst (v := 0) hx hb d_Mod_fullAt_7 (by decide) ?_
    cases hf
    exact W.iret hx hb hr (fun t ht hW => ⟨rfl, ht⟩) (fun _ h => by cases h) d_Mod_fullAt_8
theorem c_Mod_fullAt (l : Launch) (D : va_G) (aC : Nat → ClassId) (ad : Nat → Nat) (T : x_T) (nx sz : Nat) (w : x_W) (a0 : Nat) (a1 : Int32) (q : Int32) (hf : f_Mod_fullAt T w a0 a1 = some q) : Met l y_Mod_fullAt ws_Mod_fullAt { frames := 0, cells := 0, slots := 0, locals := 0 } (x_Pc D aC ad T nx sz w [.ref (ad a0), .int a1]) (x_Qp (some (.int q))) 0 0 (fun _ => False) :=
  x_metP [(0, .ref (ad a0)), (1, .int a1)] (plainFor_of_name (by decide)) rfl rfl (Nat.le_of_ble_eq_true rfl) (fun p e s m args below meth c ls C0 hH hl => k_Mod_fullAt C0 w _ a0 a1 hf hH (lv_sub hl [0, 1] rfl))
/-! WallDampModel.full(I)I -/
def f_Mod_full_39 (T : x_T) (w : x_W) (t0 : Int32) : Option (Int32 × x_W) :=
  some (t0, w)
def f_Mod_full_20 (T : x_T) (w : x_W) (l0 : Nat) (l1 : Int32) (t0 : Nat) (t1 : Int32) : Option (Int32 × x_W) :=
  (x_is T t0 10).bind fun _ =>
  (some (x_sI w 64 t0 t1)).bind fun w4 =>
  (x_is T l0 10).bind fun _ =>
  if (x_I w4 64 l0) ≤ 0 then
    ((f_Mod_fullAt T w4 l0 l1).bind fun q10 =>
    f_Mod_full_39 T w4 q10)
  else
    (f_Mod_full_39 T w4 (0 : Int32))
def f_Mod_full (T : x_T) (w : x_W) (l0 : Nat) (l1 : Int32) : Option (Int32 × x_W) :=
  (f_Mod_in T w (l1.toInt64) (-5000 : Int64) (10000 : Int64)).bind fun q1 =>
  if q1 = 0 then
    (f_Mod_full_20 T w l0 l1 l0 (1 : Int32))
  else
    (f_Mod_full_20 T w l0 l1 l0 (0 : Int32))
set_option maxHeartbeats 4000000 in
set_option maxRecDepth 100000 in
theorem k_Mod_full_39 {p : Program} {l : Launch} {e : Env} {s : State} {m : MethodId} {args : Array Value} {below : List Frame} {meth : Method} {c : Code} {D : va_G} {aC : Nat → ClassId} {ad : Nat → Nat} {T : x_T} {nx : Nat} {A : Nat → Prop} {q : Int32 × x_W} (C0 : x_At p s m meth c args "WallDampModel" b_Mod_full (some (.int)) 2 D aC A) : ∀ (w : x_W) (H : Heap) (locs : List Loc) (ls : Array Slot) (t0 : Int32), f_Mod_full_39 T w t0 = some q → x_H D x_cl x_FT aC ad T nx A w H → va_S A s.heap H locs → lv_has ls 2 [] → W p l e { frames := 1, cells := 0, slots := 0, locals := 25 } s m args below meth c H locs 0 0 (MQ below (x_Qc D aC ad T nx (some (.int q.1)) q.2 A) args s 0 0 A) (F0 m 39 ls [.int t0]) := by
  obtain ⟨hx, hb, hr, hml, hown, hts, hlocks, hK, hA, hX⟩ := id C0
  intro w H locs ls t0 hf hH hS hl
  unfold f_Mod_full_39 at hf
  cases hf
  refine x_sz0 hS (fun hz => ?_)
  exact W.iret hx hb hr (fun t ht hW => ⟨rfl, hS.F ht, by rw [ht]; exact hz, by rw [ht]; exact hH.weaken (fun _ _ _ => trivial)⟩) hS.2.2 d_Mod_full_39
set_option maxHeartbeats 4000000 in
set_option maxRecDepth 100000 in
theorem k_Mod_full_20 {p : Program} {l : Launch} {e : Env} {s : State} {m : MethodId} {args : Array Value} {below : List Frame} {meth : Method} {c : Code} {D : va_G} {aC : Nat → ClassId} {ad : Nat → Nat} {T : x_T} {nx : Nat} {A : Nat → Prop} {q : Int32 × x_W} (C0 : x_At p s m meth c args "WallDampModel" b_Mod_full (some (.int)) 2 D aC A) : ∀ (w : x_W) (H : Heap) (locs : List Loc) (ls : Array Slot) (l0 : Nat) (l1 : Int32) (t0 : Nat) (t1 : Int32), f_Mod_full_20 T w l0 l1 t0 t1 = some q → x_H D x_cl x_FT aC ad T nx A w H → va_S A s.heap H locs → lv_has ls 2 [(0, .ref (ad l0)), (1, .int l1)] → W p l e { frames := 1, cells := 0, slots := 0, locals := 25 } s m args below meth c H locs 0 0 (MQ below (x_Qc D aC ad T nx (some (.int q.1)) q.2 A) args s 0 0 A) (F0 m 20 ls [.int t1, .ref (ad t0)]) := by
  obtain ⟨hx, hb, hr, hml, hown, hts, hlocks, hK, hA, hX⟩ := id C0
  intro w H locs ls l0 l1 t0 t1 hf hH hS hl
  unfold f_Mod_full_20 at hf
  obtain ⟨_, e1, hf⟩ := x_b hf
  obtain ⟨n2, hT3⟩ := x_is_e e1
  refine x_put (C := "WallDampModel") (F := F_Mod) (N := 51) (ty := t_Mod 0) (v := .int t1) (w' := x_sI w 64 t0 t1) hx hb hts i_Mod t_Mod ty_Mod n_Mod hown hK hH hS hT3 (by decide) rfl rfl 0 (by decide) (hts _ m_793) (fun _ h9 => h9) rfl (ty_Mod 0 (by decide)) rfl rfl (x_on_I hT3 (by decide) rfl nd_Mod) (fun j hj => x_off_I hj) (fun hh ok => x_ok_I hh ok) d_Mod_full_20 (fun H locs hH hS => ?_)
  obtain ⟨w4, e5, hf⟩ := x_b hf
  have hH := x_nw e5 hH
  refine lv_aload_n hx hb d_Mod_full_23 rfl (lv_at hl 0 rfl) ?_
  obtain ⟨_, e6, hf⟩ := x_b hf
  obtain ⟨n7, hT8⟩ := x_is_e e6
  refine x_get (C := "WallDampModel") (F := F_Mod) (N := 51) hx hb hts i_Mod hown hK hH hT8 (by decide) rfl 0 (by decide) (hts _ m_793) (fun _ h9 => h9) (kd := (0, 64)) rfl rfl d_Mod_full_24 ?_
  refine lv_if_le (tgt := 34) hx hb d_Mod_full_27 (by decide) (fun c9 => ?_) (fun c9 => ?_)
  · have hf := x_it hf c9
    refine lv_aload_n hx hb d_Mod_full_34 rfl (lv_at hl 0 rfl) ?_
    refine lv_iload_n hx hb d_Mod_full_35 rfl (lv_at hl 1 rfl) ?_
    obtain ⟨q10, e11, hf⟩ := x_b hf
    refine x_callP (st1 := [.int q10]) (x_runV (As := [.int l1]) (rest := []) ⟨hx, hb, hml, hown, hts⟩ (c_Mod_fullAt l D aC ad T nx H.size w4 l0 l1 q10 e11) (cwV 1 hts (x_gV m_990 m_992 ms_17 m_13 m_993) rfl rfl rfl ⟨rfl, pd_Mod_fullAt⟩ ⟨Nat.le_of_ble_eq_true rfl, Nat.le_of_ble_eq_true rfl⟩) hH hK hX hT8 (by decide) rfl rfl rfl hl.1 rfl (lv_room (Nat.le_of_ble_eq_true rfl)) d_Mod_full_36 ⟨Nat.zero_le _, Nat.zero_le _⟩) rfl ?_
    exact k_Mod_full_39 C0 w4 _ _ _ q10 hf hH hS (lv_sub hl [] rfl)
  · have hf := x_if hf c9
    refine lv_iconst (v := 0) hx hb d_Mod_full_30 (by decide) ?_
    refine lv_goto (tgt := 39) hx hb d_Mod_full_31 (by decide) ?_
    exact k_Mod_full_39 C0 w4 _ _ _ (0 : Int32) hf hH hS (lv_sub hl [] rfl)
set_option maxHeartbeats 4000000 in
set_option maxRecDepth 100000 in
theorem k_Mod_full {p : Program} {l : Launch} {e : Env} {s : State} {m : MethodId} {args : Array Value} {below : List Frame} {meth : Method} {c : Code} {D : va_G} {aC : Nat → ClassId} {ad : Nat → Nat} {T : x_T} {nx : Nat} {A : Nat → Prop} {q : Int32 × x_W} (C0 : x_At p s m meth c args "WallDampModel" b_Mod_full (some (.int)) 2 D aC A) : ∀ (w : x_W) (H : Heap) (locs : List Loc) (ls : Array Slot) (l0 : Nat) (l1 : Int32), f_Mod_full T w l0 l1 = some q → x_H D x_cl x_FT aC ad T nx A w H → va_S A s.heap H locs → lv_has ls 2 [(0, .ref (ad l0)), (1, .int l1)] → W p l e { frames := 1, cells := 0, slots := 0, locals := 25 } s m args below meth c H locs 0 0 (MQ below (x_Qc D aC ad T nx (some (.int q.1)) q.2 A) args s 0 0 A) (F0 m 0 ls []) := by
  obtain ⟨hx, hb, hr, hml, hown, hts, hlocks, hK, hA, hX⟩ := id C0
  intro w H locs ls l0 l1 hf hH hS hl
  unfold f_Mod_full at hf
  refine lv_aload_n hx hb d_Mod_full_0 rfl (lv_at hl 0 rfl) ?_
  refine lv_iload_n hx hb d_Mod_full_1 rfl (lv_at hl 1 rfl) ?_
  refine lv_i2l (v := l1.toInt64) hx hb d_Mod_full_2 rfl ?_
  refine lv_ldc2 (v := (-5000 : Int64)) hx hb hown (hts _ m_984) d_Mod_full_3 ?_
  refine lv_ldc2 (v := (10000 : Int64)) hx hb hown (hts _ m_962) d_Mod_full_6 ?_
  obtain ⟨q1, e2, hf⟩ := x_b hf
  refine x_callP (st1 := [.int q1, .ref (ad l0)]) (x_runS (As := [.long (l1.toInt64), .long (-5000 : Int64), .long (10000 : Int64)]) (rest := [.ref (ad l0)]) ⟨hx, hb, hml, hown, hts⟩ (c_Mod_in l D aC ad T nx H.size w (l1.toInt64) (-5000 : Int64) (10000 : Int64) q1 e2) (va_cwS 3 hts (x_gS m_958 m_959 m_13 m_960) rfl rfl rfl pd_Mod_in ⟨Nat.le_of_ble_eq_true rfl, Nat.le_of_ble_eq_true rfl⟩) hH hK hX rfl hl.1 rfl (lv_room (Nat.le_of_ble_eq_true rfl)) d_Mod_full_9 ⟨Nat.zero_le _, Nat.zero_le _⟩) rfl ?_
  refine lv_if_eq (tgt := 19) hx hb d_Mod_full_12 (by decide) (fun c3 => ?_) (fun c3 => ?_)
  · have hf := x_it hf c3
    refine lv_iconst (v := 1) hx hb d_Mod_full_19 (by decide) ?_
    exact k_Mod_full_20 C0 w _ _ _ l0 l1 l0 (1 : Int32) hf hH hS (lv_sub hl [0, 1] rfl)
  · have hf := x_if hf c3
    refine lv_iconst (v := 0) hx hb d_Mod_full_15 (by decide) ?_
    refine lv_goto (tgt := 20) hx hb d_Mod_full_16 (by decide) ?_
    exact k_Mod_full_20 C0 w _ _ _ l0 l1 l0 (0 : Int32) hf hH hS (lv_sub hl [0, 1] rfl)
theorem c_Mod_full (l : Launch) (D : va_G) (aC : Nat → ClassId) (ad : Nat → Nat) (T : x_T) (nx sz : Nat) (w : x_W) (a0 : Nat) (a1 : Int32) (q : Int32 × x_W) (hf : f_Mod_full T w a0 a1 = some q) : Met l y_Mod_full ws_Mod_full { frames := 1, cells := 0, slots := 0, locals := 25 } (x_Pc D aC ad T nx sz w [.ref (ad a0), .int a1]) (x_Qc D aC ad T nx (some (.int q.1)) q.2 (x_dom ad nx sz)) 0 0 (x_dom ad nx sz) :=
  x_met [(0, .ref (ad a0)), (1, .int a1)] (plainFor_of_name (by decide)) rfl rfl (Nat.le_of_ble_eq_true rfl) (fun p e s m args below meth c ls C0 hH hS hl => k_Mod_full C0 w _ _ _ a0 a1 hf hH hS (lv_sub hl [0, 1] rfl))
/-! WallDampModel.films(II)V -/
def f_Mod_films_50 (T : x_T) (w : x_W) : Option (x_W) :=
  some w
def f_Mod_films_30 (T : x_T) (w : x_W) (l0 : Nat) (l1 : Int32) (l2 : Int32) (t0 : Nat) (t1 : Int32) : Option (x_W) :=
  (x_is T t0 10).bind fun _ =>
  (some (x_sI w 64 t0 t1)).bind fun w4 =>
  (x_is T l0 10).bind fun _ =>
  if (x_I w4 64 l0) = 0 then
    ((some (x_sI w4 83 l0 l1)).bind fun w10 =>
    (some (x_sI w10 84 l0 l2)).bind fun w12 =>
    f_Mod_films_50 T w12)
  else
    (f_Mod_films_50 T w4)
def f_Mod_films_29 (T : x_T) (w : x_W) (l0 : Nat) (l1 : Int32) (l2 : Int32) (t0 : Nat) : Option (x_W) :=
  f_Mod_films_30 T w l0 l1 l2 t0 (1 : Int32)
def f_Mod_films (T : x_T) (w : x_W) (l0 : Nat) (l1 : Int32) (l2 : Int32) : Option (x_W) :=
  (f_Mod_in T w (l1.toInt64) (0 : Int64) (1000 : Int64)).bind fun q1 =>
  if q1 = 0 then
    (f_Mod_films_29 T w l0 l1 l2 l0)
  else
    ((f_Mod_in T w (l2.toInt64) (0 : Int64) (1000 : Int64)).bind fun q4 =>
    if q4 = 0 then
      (f_Mod_films_29 T w l0 l1 l2 l0)
    else
      (f_Mod_films_30 T w l0 l1 l2 l0 (0 : Int32)))
set_option maxHeartbeats 4000000 in
set_option maxRecDepth 100000 in
theorem k_Mod_films_50 {p : Program} {l : Launch} {e : Env} {s : State} {m : MethodId} {args : Array Value} {below : List Frame} {meth : Method} {c : Code} {D : va_G} {aC : Nat → ClassId} {ad : Nat → Nat} {T : x_T} {nx : Nat} {A : Nat → Prop} {q : x_W} (C0 : x_At p s m meth c args "WallDampModel" b_Mod_films none 3 D aC A) : ∀ (w : x_W) (H : Heap) (locs : List Loc) (ls : Array Slot), f_Mod_films_50 T w = some q → x_H D x_cl x_FT aC ad T nx A w H → va_S A s.heap H locs → lv_has ls 3 [] → W p l e { frames := 1, cells := 0, slots := 0, locals := 25 } s m args below meth c H locs 0 0 (MQ below (x_Qc D aC ad T nx none q A) args s 0 0 A) (F0 m 50 ls []) := by
  obtain ⟨hx, hb, hr, hml, hown, hts, hlocks, hK, hA, hX⟩ := id C0
  intro w H locs ls hf hH hS hl
  unfold f_Mod_films_50 at hf
  cases hf
  refine x_sz0 hS (fun hz => ?_)
  exact W.vret hx hb hr (fun t ht hW => ⟨rfl, hS.F ht, by rw [ht]; exact hz, by rw [ht]; exact hH.weaken (fun _ _ _ => trivial)⟩) hS.2.2 d_Mod_films_50
set_option maxHeartbeats 4000000 in
set_option maxRecDepth 100000 in
theorem k_Mod_films_30 {p : Program} {l : Launch} {e : Env} {s : State} {m : MethodId} {args : Array Value} {below : List Frame} {meth : Method} {c : Code} {D : va_G} {aC : Nat → ClassId} {ad : Nat → Nat} {T : x_T} {nx : Nat} {A : Nat → Prop} {q : x_W} (C0 : x_At p s m meth c args "WallDampModel" b_Mod_films none 3 D aC A) : ∀ (w : x_W) (H : Heap) (locs : List Loc) (ls : Array Slot) (l0 : Nat) (l1 : Int32) (l2 : Int32) (t0 : Nat) (t1 : Int32), f_Mod_films_30 T w l0 l1 l2 t0 t1 = some q → x_H D x_cl x_FT aC ad T nx A w H → va_S A s.heap H locs → lv_has ls 3 [(0, .ref (ad l0)), (1, .int l1), (2, .int l2)] → W p l e { frames := 1, cells := 0, slots := 0, locals := 25 } s m args below meth c H locs 0 0 (MQ below (x_Qc D aC ad T nx none q A) args s 0 0 A) (F0 m 30 ls [.int t1, .ref (ad t0)]) := by
  obtain ⟨hx, hb, hr, hml, hown, hts, hlocks, hK, hA, hX⟩ := id C0
  intro w H locs ls l0 l1 l2 t0 t1 hf hH hS hl
  unfold f_Mod_films_30 at hf
  obtain ⟨_, e1, hf⟩ := x_b hf
  obtain ⟨n2, hT3⟩ := x_is_e e1
  refine x_put (C := "WallDampModel") (F := F_Mod) (N := 51) (ty := t_Mod 0) (v := .int t1) (w' := x_sI w 64 t0 t1) hx hb hts i_Mod t_Mod ty_Mod n_Mod hown hK hH hS hT3 (by decide) rfl rfl 0 (by decide) (hts _ m_793) (fun _ h9 => h9) rfl (ty_Mod 0 (by decide)) rfl rfl (x_on_I hT3 (by decide) rfl nd_Mod) (fun j hj => x_off_I hj) (fun hh ok => x_ok_I hh ok) d_Mod_films_30 (fun H locs hH hS => ?_)
  obtain ⟨w4, e5, hf⟩ := x_b hf
  have hH := x_nw e5 hH
  refine lv_aload_n hx hb d_Mod_films_33 rfl (lv_at hl 0 rfl) ?_
  obtain ⟨_, e6, hf⟩ := x_b hf
  obtain ⟨n7, hT8⟩ := x_is_e e6
  refine x_get (C := "WallDampModel") (F := F_Mod) (N := 51) hx hb hts i_Mod hown hK hH hT8 (by decide) rfl 0 (by decide) (hts _ m_793) (fun _ h9 => h9) (kd := (0, 64)) rfl rfl d_Mod_films_34 ?_
  refine lv_if_ne (tgt := 50) hx hb d_Mod_films_37 (by decide) (fun c9 => ?_) (fun c9 => ?_)
  · have hf := x_if hf c9
    exact k_Mod_films_50 C0 w4 _ _ _ hf hH hS (lv_sub hl [] rfl)
  · have hf := x_it hf c9
    refine lv_aload_n hx hb d_Mod_films_40 rfl (lv_at hl 0 rfl) ?_
    refine lv_iload_n hx hb d_Mod_films_41 rfl (lv_at hl 1 rfl) ?_
    refine x_put (C := "WallDampModel") (F := F_Mod) (N := 51) (ty := t_Mod 19) (v := .int l1) (w' := x_sI w4 83 l0 l1) hx hb hts i_Mod t_Mod ty_Mod n_Mod hown hK hH hS hT8 (by decide) rfl rfl 19 (by decide) (hts _ m_812) (fun _ h9 => h9) rfl (ty_Mod 19 (by decide)) rfl rfl (x_on_I hT8 (by decide) rfl nd_Mod) (fun j hj => x_off_I hj) (fun hh ok => x_ok_I hh ok) d_Mod_films_42 (fun H locs hH hS => ?_)
    obtain ⟨w10, e11, hf⟩ := x_b hf
    have hH := x_nw e11 hH
    refine lv_aload_n hx hb d_Mod_films_45 rfl (lv_at hl 0 rfl) ?_
    refine lv_iload_n hx hb d_Mod_films_46 rfl (lv_at hl 2 rfl) ?_
    refine x_put (C := "WallDampModel") (F := F_Mod) (N := 51) (ty := t_Mod 20) (v := .int l2) (w' := x_sI w10 84 l0 l2) hx hb hts i_Mod t_Mod ty_Mod n_Mod hown hK hH hS hT8 (by decide) rfl rfl 20 (by decide) (hts _ m_813) (fun _ h9 => h9) rfl (ty_Mod 20 (by decide)) rfl rfl (x_on_I hT8 (by decide) rfl nd_Mod) (fun j hj => x_off_I hj) (fun hh ok => x_ok_I hh ok) d_Mod_films_47 (fun H locs hH hS => ?_)
    obtain ⟨w12, e13, hf⟩ := x_b hf
    have hH := x_nw e13 hH
    exact k_Mod_films_50 C0 w12 _ _ _ hf hH hS (lv_sub hl [] rfl)
set_option maxHeartbeats 4000000 in
set_option maxRecDepth 100000 in
theorem k_Mod_films_29 {p : Program} {l : Launch} {e : Env} {s : State} {m : MethodId} {args : Array Value} {below : List Frame} {meth : Method} {c : Code} {D : va_G} {aC : Nat → ClassId} {ad : Nat → Nat} {T : x_T} {nx : Nat} {A : Nat → Prop} {q : x_W} (C0 : x_At p s m meth c args "WallDampModel" b_Mod_films none 3 D aC A) : ∀ (w : x_W) (H : Heap) (locs : List Loc) (ls : Array Slot) (l0 : Nat) (l1 : Int32) (l2 : Int32) (t0 : Nat), f_Mod_films_29 T w l0 l1 l2 t0 = some q → x_H D x_cl x_FT aC ad T nx A w H → va_S A s.heap H locs → lv_has ls 3 [(0, .ref (ad l0)), (1, .int l1), (2, .int l2)] → W p l e { frames := 1, cells := 0, slots := 0, locals := 25 } s m args below meth c H locs 0 0 (MQ below (x_Qc D aC ad T nx none q A) args s 0 0 A) (F0 m 29 ls [.ref (ad t0)]) := by
  obtain ⟨hx, hb, hr, hml, hown, hts, hlocks, hK, hA, hX⟩ := id C0
  intro w H locs ls l0 l1 l2 t0 hf hH hS hl
  unfold f_Mod_films_29 at hf
  refine lv_iconst (v := 1) hx hb d_Mod_films_29 (by decide) ?_
  exact k_Mod_films_30 C0 w _ _ _ l0 l1 l2 t0 (1 : Int32) hf hH hS (lv_sub hl [0, 1, 2] rfl)
set_option maxHeartbeats 4000000 in
set_option maxRecDepth 100000 in
theorem k_Mod_films {p : Program} {l : Launch} {e : Env} {s : State} {m : MethodId} {args : Array Value} {below : List Frame} {meth : Method} {c : Code} {D : va_G} {aC : Nat → ClassId} {ad : Nat → Nat} {T : x_T} {nx : Nat} {A : Nat → Prop} {q : x_W} (C0 : x_At p s m meth c args "WallDampModel" b_Mod_films none 3 D aC A) : ∀ (w : x_W) (H : Heap) (locs : List Loc) (ls : Array Slot) (l0 : Nat) (l1 : Int32) (l2 : Int32), f_Mod_films T w l0 l1 l2 = some q → x_H D x_cl x_FT aC ad T nx A w H → va_S A s.heap H locs → lv_has ls 3 [(0, .ref (ad l0)), (1, .int l1), (2, .int l2)] → W p l e { frames := 1, cells := 0, slots := 0, locals := 25 } s m args below meth c H locs 0 0 (MQ below (x_Qc D aC ad T nx none q A) args s 0 0 A) (F0 m 0 ls []) := by
  obtain ⟨hx, hb, hr, hml, hown, hts, hlocks, hK, hA, hX⟩ := id C0
  intro w H locs ls l0 l1 l2 hf hH hS hl
  unfold f_Mod_films at hf
  refine lv_aload_n hx hb d_Mod_films_0 rfl (lv_at hl 0 rfl) ?_
  refine lv_iload_n hx hb d_Mod_films_1 rfl (lv_at hl 1 rfl) ?_
  refine lv_i2l (v := l1.toInt64) hx hb d_Mod_films_2 rfl ?_
  refine lv_lconst (v := 0) hx hb d_Mod_films_3 (by decide) ?_
  refine lv_ldc2 (v := (1000 : Int64)) hx hb hown (hts _ m_971) d_Mod_films_4 ?_
  obtain ⟨q1, e2, hf⟩ := x_b hf
  refine x_callP (st1 := [.int q1, .ref (ad l0)]) (x_runS (As := [.long (l1.toInt64), .long (0 : Int64), .long (1000 : Int64)]) (rest := [.ref (ad l0)]) ⟨hx, hb, hml, hown, hts⟩ (c_Mod_in l D aC ad T nx H.size w (l1.toInt64) (0 : Int64) (1000 : Int64) q1 e2) (va_cwS 3 hts (x_gS m_958 m_959 m_13 m_960) rfl rfl rfl pd_Mod_in ⟨Nat.le_of_ble_eq_true rfl, Nat.le_of_ble_eq_true rfl⟩) hH hK hX rfl hl.1 rfl (lv_room (Nat.le_of_ble_eq_true rfl)) d_Mod_films_7 ⟨Nat.zero_le _, Nat.zero_le _⟩) rfl ?_
  refine lv_if_eq (tgt := 29) hx hb d_Mod_films_10 (by decide) (fun c3 => ?_) (fun c3 => ?_)
  · have hf := x_it hf c3
    exact k_Mod_films_29 C0 w _ _ _ l0 l1 l2 l0 hf hH hS (lv_sub hl [0, 1, 2] rfl)
  · have hf := x_if hf c3
    refine lv_iload_n hx hb d_Mod_films_13 rfl (lv_at hl 2 rfl) ?_
    refine lv_i2l (v := l2.toInt64) hx hb d_Mod_films_14 rfl ?_
    refine lv_lconst (v := 0) hx hb d_Mod_films_15 (by decide) ?_
    refine lv_ldc2 (v := (1000 : Int64)) hx hb hown (hts _ m_971) d_Mod_films_16 ?_
    obtain ⟨q4, e5, hf⟩ := x_b hf
    refine x_callP (st1 := [.int q4, .ref (ad l0)]) (x_runS (As := [.long (l2.toInt64), .long (0 : Int64), .long (1000 : Int64)]) (rest := [.ref (ad l0)]) ⟨hx, hb, hml, hown, hts⟩ (c_Mod_in l D aC ad T nx H.size w (l2.toInt64) (0 : Int64) (1000 : Int64) q4 e5) (va_cwS 3 hts (x_gS m_958 m_959 m_13 m_960) rfl rfl rfl pd_Mod_in ⟨Nat.le_of_ble_eq_true rfl, Nat.le_of_ble_eq_true rfl⟩) hH hK hX rfl hl.1 rfl (lv_room (Nat.le_of_ble_eq_true rfl)) d_Mod_films_19 ⟨Nat.zero_le _, Nat.zero_le _⟩) rfl ?_
    refine lv_if_eq (tgt := 29) hx hb d_Mod_films_22 (by decide) (fun c6 => ?_) (fun c6 => ?_)
    · have hf := x_it hf c6
      exact k_Mod_films_29 C0 w _ _ _ l0 l1 l2 l0 hf hH hS (lv_sub hl [0, 1, 2] rfl)
    · have hf := x_if hf c6
      refine lv_iconst (v := 0) hx hb d_Mod_films_25 (by decide) ?_
      refine lv_goto (tgt := 30) hx hb d_Mod_films_26 (by decide) ?_
      exact k_Mod_films_30 C0 w _ _ _ l0 l1 l2 l0 (0 : Int32) hf hH hS (lv_sub hl [0, 1, 2] rfl)
theorem c_Mod_films (l : Launch) (D : va_G) (aC : Nat → ClassId) (ad : Nat → Nat) (T : x_T) (nx sz : Nat) (w : x_W) (a0 : Nat) (a1 : Int32) (a2 : Int32) (q : x_W) (hf : f_Mod_films T w a0 a1 a2 = some q) : Met l y_Mod_films ws_Mod_films { frames := 1, cells := 0, slots := 0, locals := 25 } (x_Pc D aC ad T nx sz w [.ref (ad a0), .int a1, .int a2]) (x_Qc D aC ad T nx none q (x_dom ad nx sz)) 0 0 (x_dom ad nx sz) :=
  x_met [(0, .ref (ad a0)), (1, .int a1), (2, .int a2)] (plainFor_of_name (by decide)) rfl rfl (Nat.le_of_ble_eq_true rfl) (fun p e s m args below meth c ls C0 hH hS hl => k_Mod_films C0 w _ _ _ a0 a1 a2 hf hH hS (lv_sub hl [0, 1, 2] rfl))
/-! WallDampModel.outside(IIIII)V -/
def f_Mod_outside_110 (T : x_T) (w : x_W) : Option (x_W) :=
  some w
def f_Mod_outside_70 (T : x_T) (w : x_W) (l0 : Nat) (l1 : Int32) (l2 : Int32) (l3 : Int32) (l4 : Int32) (l5 : Int32) (t0 : Nat) (t1 : Int32) : Option (x_W) :=
  (x_is T t0 10).bind fun _ =>
  (some (x_sI w 64 t0 t1)).bind fun w4 =>
  (x_is T l0 10).bind fun _ =>
  if (x_I w4 64 l0) = 0 then
    ((x_R w4 85 l0).bind fun a10 =>
    (x_ix T a10 100 l1).bind fun _ =>
    (some (x_sA w4 a10 l1.toNatClampNeg l2)).bind fun w16 =>
    (x_R w16 86 l0).bind fun a18 =>
    (x_ix T a18 100 l1).bind fun _ =>
    (some (x_sA w16 a18 l1.toNatClampNeg l3)).bind fun w24 =>
    (x_R w24 87 l0).bind fun a26 =>
    (x_ix T a26 100 l1).bind fun _ =>
    (some (x_sA w24 a26 l1.toNatClampNeg l4)).bind fun w32 =>
    (x_R w32 88 l0).bind fun a34 =>
    (x_ix T a34 100 l1).bind fun _ =>
    (some (x_sA w32 a34 l1.toNatClampNeg l5)).bind fun w40 =>
    f_Mod_outside_110 T w40)
  else
    (f_Mod_outside_110 T w4)
def f_Mod_outside_69 (T : x_T) (w : x_W) (l0 : Nat) (l1 : Int32) (l2 : Int32) (l3 : Int32) (l4 : Int32) (l5 : Int32) (t0 : Nat) : Option (x_W) :=
  f_Mod_outside_70 T w l0 l1 l2 l3 l4 l5 t0 (1 : Int32)
def f_Mod_outside (T : x_T) (w : x_W) (l0 : Nat) (l1 : Int32) (l2 : Int32) (l3 : Int32) (l4 : Int32) (l5 : Int32) : Option (x_W) :=
  (f_Mod_in T w (l1.toInt64) (0 : Int64) (23 : Int64)).bind fun q1 =>
  if q1 = 0 then
    (f_Mod_outside_69 T w l0 l1 l2 l3 l4 l5 l0)
  else
    ((f_Mod_in T w (l2.toInt64) (-5000 : Int64) (5000 : Int64)).bind fun q4 =>
    if q4 = 0 then
      (f_Mod_outside_69 T w l0 l1 l2 l3 l4 l5 l0)
    else
      ((f_Mod_in T w (l3.toInt64) (0 : Int64) (10000 : Int64)).bind fun q7 =>
      if q7 = 0 then
        (f_Mod_outside_69 T w l0 l1 l2 l3 l4 l5 l0)
      else
        ((f_Mod_in T w (l4.toInt64) (0 : Int64) (1000 : Int64)).bind fun q10 =>
        if q10 = 0 then
          (f_Mod_outside_69 T w l0 l1 l2 l3 l4 l5 l0)
        else
          ((f_Mod_in T w (l5.toInt64) (0 : Int64) (1000 : Int64)).bind fun q13 =>
          if q13 = 0 then
            (f_Mod_outside_69 T w l0 l1 l2 l3 l4 l5 l0)
          else
            (f_Mod_outside_70 T w l0 l1 l2 l3 l4 l5 l0 (0 : Int32))))))
set_option maxHeartbeats 4000000 in
set_option maxRecDepth 100000 in
theorem k_Mod_outside_110 {p : Program} {l : Launch} {e : Env} {s : State} {m : MethodId} {args : Array Value} {below : List Frame} {meth : Method} {c : Code} {D : va_G} {aC : Nat → ClassId} {ad : Nat → Nat} {T : x_T} {nx : Nat} {A : Nat → Prop} {q : x_W} (C0 : x_At p s m meth c args "WallDampModel" b_Mod_outside none 6 D aC A) : ∀ (w : x_W) (H : Heap) (locs : List Loc) (ls : Array Slot), f_Mod_outside_110 T w = some q → x_H D x_cl x_FT aC ad T nx A w H → va_S A s.heap H locs → lv_has ls 6 [] → W p l e { frames := 1, cells := 0, slots := 0, locals := 25 } s m args below meth c H locs 0 0 (MQ below (x_Qc D aC ad T nx none q A) args s 0 0 A) (F0 m 110 ls []) := by
  obtain ⟨hx, hb, hr, hml, hown, hts, hlocks, hK, hA, hX⟩ := id C0
  intro w H locs ls hf hH hS hl
  unfold f_Mod_outside_110 at hf
  cases hf
  refine x_sz0 hS (fun hz => ?_)
  exact W.vret hx hb hr (fun t ht hW => ⟨rfl, hS.F ht, by rw [ht]; exact hz, by rw [ht]; exact hH.weaken (fun _ _ _ => trivial)⟩) hS.2.2 d_Mod_outside_110
set_option maxHeartbeats 4000000 in
set_option maxRecDepth 100000 in
theorem k_Mod_outside_70 {p : Program} {l : Launch} {e : Env} {s : State} {m : MethodId} {args : Array Value} {below : List Frame} {meth : Method} {c : Code} {D : va_G} {aC : Nat → ClassId} {ad : Nat → Nat} {T : x_T} {nx : Nat} {A : Nat → Prop} {q : x_W} (C0 : x_At p s m meth c args "WallDampModel" b_Mod_outside none 6 D aC A) : ∀ (w : x_W) (H : Heap) (locs : List Loc) (ls : Array Slot) (l0 : Nat) (l1 : Int32) (l2 : Int32) (l3 : Int32) (l4 : Int32) (l5 : Int32) (t0 : Nat) (t1 : Int32), f_Mod_outside_70 T w l0 l1 l2 l3 l4 l5 t0 t1 = some q → x_H D x_cl x_FT aC ad T nx A w H → va_S A s.heap H locs → lv_has ls 6 [(0, .ref (ad l0)), (1, .int l1), (2, .int l2), (3, .int l3), (4, .int l4), (5, .int l5)] → W p l e { frames := 1, cells := 0, slots := 0, locals := 25 } s m args below meth c H locs 0 0 (MQ below (x_Qc D aC ad T nx none q A) args s 0 0 A) (F0 m 70 ls [.int t1, .ref (ad t0)]) := by
  obtain ⟨hx, hb, hr, hml, hown, hts, hlocks, hK, hA, hX⟩ := id C0
  intro w H locs ls l0 l1 l2 l3 l4 l5 t0 t1 hf hH hS hl
  unfold f_Mod_outside_70 at hf
  obtain ⟨_, e1, hf⟩ := x_b hf
  obtain ⟨n2, hT3⟩ := x_is_e e1
  refine x_put (C := "WallDampModel") (F := F_Mod) (N := 51) (ty := t_Mod 0) (v := .int t1) (w' := x_sI w 64 t0 t1) hx hb hts i_Mod t_Mod ty_Mod n_Mod hown hK hH hS hT3 (by decide) rfl rfl 0 (by decide) (hts _ m_793) (fun _ h9 => h9) rfl (ty_Mod 0 (by decide)) rfl rfl (x_on_I hT3 (by decide) rfl nd_Mod) (fun j hj => x_off_I hj) (fun hh ok => x_ok_I hh ok) d_Mod_outside_70 (fun H locs hH hS => ?_)
  obtain ⟨w4, e5, hf⟩ := x_b hf
  have hH := x_nw e5 hH
  refine lv_aload_n hx hb d_Mod_outside_73 rfl (lv_at hl 0 rfl) ?_
  obtain ⟨_, e6, hf⟩ := x_b hf
  obtain ⟨n7, hT8⟩ := x_is_e e6
  refine x_get (C := "WallDampModel") (F := F_Mod) (N := 51) hx hb hts i_Mod hown hK hH hT8 (by decide) rfl 0 (by decide) (hts _ m_793) (fun _ h9 => h9) (kd := (0, 64)) rfl rfl d_Mod_outside_74 ?_
  refine lv_if_ne (tgt := 110) hx hb d_Mod_outside_77 (by decide) (fun c9 => ?_) (fun c9 => ?_)
  · have hf := x_if hf c9
    exact k_Mod_outside_110 C0 w4 _ _ _ hf hH hS (lv_sub hl [] rfl)
  · have hf := x_it hf c9
    refine lv_aload_n hx hb d_Mod_outside_80 rfl (lv_at hl 0 rfl) ?_
    obtain ⟨a10, e11, hf⟩ := x_b hf
    refine x_get (C := "WallDampModel") (F := F_Mod) (N := 51) hx hb hts i_Mod hown hK hH hT8 (by decide) rfl 21 (by decide) (hts _ m_814) (fun _ h9 => h9) (kd := (2, 85)) rfl (x_fr e11) d_Mod_outside_81 ?_
    refine lv_iload_n hx hb d_Mod_outside_84 rfl (lv_at hl 1 rfl) ?_
    refine lv_iload_n hx hb d_Mod_outside_85 rfl (lv_at hl 2 rfl) ?_
    obtain ⟨_, e12, hf⟩ := x_b hf
    obtain ⟨n13, hT14, hi15⟩ := x_ix_e e12
    refine x_iast hx hb hK hH hS hT14 0 rfl hi15 d_Mod_outside_86 (fun H locs hH hS => ?_)
    obtain ⟨w16, e17, hf⟩ := x_b hf
    have hH := x_nw e17 hH
    refine lv_aload_n hx hb d_Mod_outside_87 rfl (lv_at hl 0 rfl) ?_
    obtain ⟨a18, e19, hf⟩ := x_b hf
    refine x_get (C := "WallDampModel") (F := F_Mod) (N := 51) hx hb hts i_Mod hown hK hH hT8 (by decide) rfl 22 (by decide) (hts _ m_815) (fun _ h9 => h9) (kd := (2, 86)) rfl (x_fr e19) d_Mod_outside_88 ?_
    refine lv_iload_n hx hb d_Mod_outside_91 rfl (lv_at hl 1 rfl) ?_
    refine lv_iload_n hx hb d_Mod_outside_92 rfl (lv_at hl 3 rfl) ?_
    obtain ⟨_, e20, hf⟩ := x_b hf
    obtain ⟨n21, hT22, hi23⟩ := x_ix_e e20
    refine x_iast hx hb hK hH hS hT22 0 rfl hi23 d_Mod_outside_93 (fun H locs hH hS => ?_)
    obtain ⟨w24, e25, hf⟩ := x_b hf
    have hH := x_nw e25 hH
    refine lv_aload_n hx hb d_Mod_outside_94 rfl (lv_at hl 0 rfl) ?_
    obtain ⟨a26, e27, hf⟩ := x_b hf
    refine x_get (C := "WallDampModel") (F := F_Mod) (N := 51) hx hb hts i_Mod hown hK hH hT8 (by decide) rfl 23 (by decide) (hts _ m_816) (fun _ h9 => h9) (kd := (2, 87)) rfl (x_fr e27) d_Mod_outside_95 ?_
    refine lv_iload_n hx hb d_Mod_outside_98 rfl (lv_at hl 1 rfl) ?_
    refine lv_iload hx hb d_Mod_outside_99 (lv_at hl 4 rfl) ?_
    obtain ⟨_, e28, hf⟩ := x_b hf
    obtain ⟨n29, hT30, hi31⟩ := x_ix_e e28
    refine x_iast hx hb hK hH hS hT30 0 rfl hi31 d_Mod_outside_101 (fun H locs hH hS => ?_)
    obtain ⟨w32, e33, hf⟩ := x_b hf
    have hH := x_nw e33 hH
    refine lv_aload_n hx hb d_Mod_outside_102 rfl (lv_at hl 0 rfl) ?_
    obtain ⟨a34, e35, hf⟩ := x_b hf
    refine x_get (C := "WallDampModel") (F := F_Mod) (N := 51) hx hb hts i_Mod hown hK hH hT8 (by decide) rfl 24 (by decide) (hts _ m_817) (fun _ h9 => h9) (kd := (2, 88)) rfl (x_fr e35) d_Mod_outside_103 ?_
    refine lv_iload_n hx hb d_Mod_outside_106 rfl (lv_at hl 1 rfl) ?_
    refine lv_iload hx hb d_Mod_outside_107 (lv_at hl 5 rfl) ?_
    obtain ⟨_, e36, hf⟩ := x_b hf
    obtain ⟨n37, hT38, hi39⟩ := x_ix_e e36
    refine x_iast hx hb hK hH hS hT38 0 rfl hi39 d_Mod_outside_109 (fun H locs hH hS => ?_)
    obtain ⟨w40, e41, hf⟩ := x_b hf
    have hH := x_nw e41 hH
    exact k_Mod_outside_110 C0 w40 _ _ _ hf hH hS (lv_sub hl [] rfl)
set_option maxHeartbeats 4000000 in
set_option maxRecDepth 100000 in
theorem k_Mod_outside_69 {p : Program} {l : Launch} {e : Env} {s : State} {m : MethodId} {args : Array Value} {below : List Frame} {meth : Method} {c : Code} {D : va_G} {aC : Nat → ClassId} {ad : Nat → Nat} {T : x_T} {nx : Nat} {A : Nat → Prop} {q : x_W} (C0 : x_At p s m meth c args "WallDampModel" b_Mod_outside none 6 D aC A) : ∀ (w : x_W) (H : Heap) (locs : List Loc) (ls : Array Slot) (l0 : Nat) (l1 : Int32) (l2 : Int32) (l3 : Int32) (l4 : Int32) (l5 : Int32) (t0 : Nat), f_Mod_outside_69 T w l0 l1 l2 l3 l4 l5 t0 = some q → x_H D x_cl x_FT aC ad T nx A w H → va_S A s.heap H locs → lv_has ls 6 [(0, .ref (ad l0)), (1, .int l1), (2, .int l2), (3, .int l3), (4, .int l4), (5, .int l5)] → W p l e { frames := 1, cells := 0, slots := 0, locals := 25 } s m args below meth c H locs 0 0 (MQ below (x_Qc D aC ad T nx none q A) args s 0 0 A) (F0 m 69 ls [.ref (ad t0)]) := by
  obtain ⟨hx, hb, hr, hml, hown, hts, hlocks, hK, hA, hX⟩ := id C0
  intro w H locs ls l0 l1 l2 l3 l4 l5 t0 hf hH hS hl
  unfold f_Mod_outside_69 at hf
  refine lv_iconst (v := 1) hx hb d_Mod_outside_69 (by decide) ?_
  exact k_Mod_outside_70 C0 w _ _ _ l0 l1 l2 l3 l4 l5 t0 (1 : Int32) hf hH hS (lv_sub hl [0, 1, 2, 3, 4, 5] rfl)
set_option maxHeartbeats 4000000 in
set_option maxRecDepth 100000 in
theorem k_Mod_outside {p : Program} {l : Launch} {e : Env} {s : State} {m : MethodId} {args : Array Value} {below : List Frame} {meth : Method} {c : Code} {D : va_G} {aC : Nat → ClassId} {ad : Nat → Nat} {T : x_T} {nx : Nat} {A : Nat → Prop} {q : x_W} (C0 : x_At p s m meth c args "WallDampModel" b_Mod_outside none 6 D aC A) : ∀ (w : x_W) (H : Heap) (locs : List Loc) (ls : Array Slot) (l0 : Nat) (l1 : Int32) (l2 : Int32) (l3 : Int32) (l4 : Int32) (l5 : Int32), f_Mod_outside T w l0 l1 l2 l3 l4 l5 = some q → x_H D x_cl x_FT aC ad T nx A w H → va_S A s.heap H locs → lv_has ls 6 [(0, .ref (ad l0)), (1, .int l1), (2, .int l2), (3, .int l3), (4, .int l4), (5, .int l5)] → W p l e { frames := 1, cells := 0, slots := 0, locals := 25 } s m args below meth c H locs 0 0 (MQ below (x_Qc D aC ad T nx none q A) args s 0 0 A) (F0 m 0 ls []) := by
  obtain ⟨hx, hb, hr, hml, hown, hts, hlocks, hK, hA, hX⟩ := id C0
  intro w H locs ls l0 l1 l2 l3 l4 l5 hf hH hS hl
  unfold f_Mod_outside at hf
  refine lv_aload_n hx hb d_Mod_outside_0 rfl (lv_at hl 0 rfl) ?_
  refine lv_iload_n hx hb d_Mod_outside_1 rfl (lv_at hl 1 rfl) ?_
  refine lv_i2l (v := l1.toInt64) hx hb d_Mod_outside_2 rfl ?_
  refine lv_lconst (v := 0) hx hb d_Mod_outside_3 (by decide) ?_
  refine lv_ldc2 (v := (23 : Int64)) hx hb hown (hts _ m_1002) d_Mod_outside_4 ?_
  obtain ⟨q1, e2, hf⟩ := x_b hf
  refine x_callP (st1 := [.int q1, .ref (ad l0)]) (x_runS (As := [.long (l1.toInt64), .long (0 : Int64), .long (23 : Int64)]) (rest := [.ref (ad l0)]) ⟨hx, hb, hml, hown, hts⟩ (c_Mod_in l D aC ad T nx H.size w (l1.toInt64) (0 : Int64) (23 : Int64) q1 e2) (va_cwS 3 hts (x_gS m_958 m_959 m_13 m_960) rfl rfl rfl pd_Mod_in ⟨Nat.le_of_ble_eq_true rfl, Nat.le_of_ble_eq_true rfl⟩) hH hK hX rfl hl.1 rfl (lv_room (Nat.le_of_ble_eq_true rfl)) d_Mod_outside_7 ⟨Nat.zero_le _, Nat.zero_le _⟩) rfl ?_
  refine lv_if_eq (tgt := 69) hx hb d_Mod_outside_10 (by decide) (fun c3 => ?_) (fun c3 => ?_)
  · have hf := x_it hf c3
    exact k_Mod_outside_69 C0 w _ _ _ l0 l1 l2 l3 l4 l5 l0 hf hH hS (lv_sub hl [0, 1, 2, 3, 4, 5] rfl)
  · have hf := x_if hf c3
    refine lv_iload_n hx hb d_Mod_outside_13 rfl (lv_at hl 2 rfl) ?_
    refine lv_i2l (v := l2.toInt64) hx hb d_Mod_outside_14 rfl ?_
    refine lv_ldc2 (v := (-5000 : Int64)) hx hb hown (hts _ m_984) d_Mod_outside_15 ?_
    refine lv_ldc2 (v := (5000 : Int64)) hx hb hown (hts _ m_1003) d_Mod_outside_18 ?_
    obtain ⟨q4, e5, hf⟩ := x_b hf
    refine x_callP (st1 := [.int q4, .ref (ad l0)]) (x_runS (As := [.long (l2.toInt64), .long (-5000 : Int64), .long (5000 : Int64)]) (rest := [.ref (ad l0)]) ⟨hx, hb, hml, hown, hts⟩ (c_Mod_in l D aC ad T nx H.size w (l2.toInt64) (-5000 : Int64) (5000 : Int64) q4 e5) (va_cwS 3 hts (x_gS m_958 m_959 m_13 m_960) rfl rfl rfl pd_Mod_in ⟨Nat.le_of_ble_eq_true rfl, Nat.le_of_ble_eq_true rfl⟩) hH hK hX rfl hl.1 rfl (lv_room (Nat.le_of_ble_eq_true rfl)) d_Mod_outside_21 ⟨Nat.zero_le _, Nat.zero_le _⟩) rfl ?_
    refine lv_if_eq (tgt := 69) hx hb d_Mod_outside_24 (by decide) (fun c6 => ?_) (fun c6 => ?_)
    · have hf := x_it hf c6
      exact k_Mod_outside_69 C0 w _ _ _ l0 l1 l2 l3 l4 l5 l0 hf hH hS (lv_sub hl [0, 1, 2, 3, 4, 5] rfl)
    · have hf := x_if hf c6
      refine lv_iload_n hx hb d_Mod_outside_27 rfl (lv_at hl 3 rfl) ?_
      refine lv_i2l (v := l3.toInt64) hx hb d_Mod_outside_28 rfl ?_
      refine lv_lconst (v := 0) hx hb d_Mod_outside_29 (by decide) ?_
      refine lv_ldc2 (v := (10000 : Int64)) hx hb hown (hts _ m_962) d_Mod_outside_30 ?_
      obtain ⟨q7, e8, hf⟩ := x_b hf
      refine x_callP (st1 := [.int q7, .ref (ad l0)]) (x_runS (As := [.long (l3.toInt64), .long (0 : Int64), .long (10000 : Int64)]) (rest := [.ref (ad l0)]) ⟨hx, hb, hml, hown, hts⟩ (c_Mod_in l D aC ad T nx H.size w (l3.toInt64) (0 : Int64) (10000 : Int64) q7 e8) (va_cwS 3 hts (x_gS m_958 m_959 m_13 m_960) rfl rfl rfl pd_Mod_in ⟨Nat.le_of_ble_eq_true rfl, Nat.le_of_ble_eq_true rfl⟩) hH hK hX rfl hl.1 rfl (lv_room (Nat.le_of_ble_eq_true rfl)) d_Mod_outside_33 ⟨Nat.zero_le _, Nat.zero_le _⟩) rfl ?_
      refine lv_if_eq (tgt := 69) hx hb d_Mod_outside_36 (by decide) (fun c9 => ?_) (fun c9 => ?_)
      · have hf := x_it hf c9
        exact k_Mod_outside_69 C0 w _ _ _ l0 l1 l2 l3 l4 l5 l0 hf hH hS (lv_sub hl [0, 1, 2, 3, 4, 5] rfl)
      · have hf := x_if hf c9
        refine lv_iload hx hb d_Mod_outside_39 (lv_at hl 4 rfl) ?_
        refine lv_i2l (v := l4.toInt64) hx hb d_Mod_outside_41 rfl ?_
        refine lv_lconst (v := 0) hx hb d_Mod_outside_42 (by decide) ?_
        refine lv_ldc2 (v := (1000 : Int64)) hx hb hown (hts _ m_971) d_Mod_outside_43 ?_
        obtain ⟨q10, e11, hf⟩ := x_b hf
        refine x_callP (st1 := [.int q10, .ref (ad l0)]) (x_runS (As := [.long (l4.toInt64), .long (0 : Int64), .long (1000 : Int64)]) (rest := [.ref (ad l0)]) ⟨hx, hb, hml, hown, hts⟩ (c_Mod_in l D aC ad T nx H.size w (l4.toInt64) (0 : Int64) (1000 : Int64) q10 e11) (va_cwS 3 hts (x_gS m_958 m_959 m_13 m_960) rfl rfl rfl pd_Mod_in ⟨Nat.le_of_ble_eq_true rfl, Nat.le_of_ble_eq_true rfl⟩) hH hK hX rfl hl.1 rfl (lv_room (Nat.le_of_ble_eq_true rfl)) d_Mod_outside_46 ⟨Nat.zero_le _, Nat.zero_le _⟩) rfl ?_
        refine lv_if_eq (tgt := 69) hx hb d_Mod_outside_49 (by decide) (fun c12 => ?_) (fun c12 => ?_)
        · have hf := x_it hf c12
          exact k_Mod_outside_69 C0 w _ _ _ l0 l1 l2 l3 l4 l5 l0 hf hH hS (lv_sub hl [0, 1, 2, 3, 4, 5] rfl)
        · have hf := x_if hf c12
          refine lv_iload hx hb d_Mod_outside_52 (lv_at hl 5 rfl) ?_
          refine lv_i2l (v := l5.toInt64) hx hb d_Mod_outside_54 rfl ?_
          refine lv_lconst (v := 0) hx hb d_Mod_outside_55 (by decide) ?_
          refine lv_ldc2 (v := (1000 : Int64)) hx hb hown (hts _ m_971) d_Mod_outside_56 ?_
          obtain ⟨q13, e14, hf⟩ := x_b hf
          refine x_callP (st1 := [.int q13, .ref (ad l0)]) (x_runS (As := [.long (l5.toInt64), .long (0 : Int64), .long (1000 : Int64)]) (rest := [.ref (ad l0)]) ⟨hx, hb, hml, hown, hts⟩ (c_Mod_in l D aC ad T nx H.size w (l5.toInt64) (0 : Int64) (1000 : Int64) q13 e14) (va_cwS 3 hts (x_gS m_958 m_959 m_13 m_960) rfl rfl rfl pd_Mod_in ⟨Nat.le_of_ble_eq_true rfl, Nat.le_of_ble_eq_true rfl⟩) hH hK hX rfl hl.1 rfl (lv_room (Nat.le_of_ble_eq_true rfl)) d_Mod_outside_59 ⟨Nat.zero_le _, Nat.zero_le _⟩) rfl ?_
          refine lv_if_eq (tgt := 69) hx hb d_Mod_outside_62 (by decide) (fun c15 => ?_) (fun c15 => ?_)
          · have hf := x_it hf c15
            exact k_Mod_outside_69 C0 w _ _ _ l0 l1 l2 l3 l4 l5 l0 hf hH hS (lv_sub hl [0, 1, 2, 3, 4, 5] rfl)
          · have hf := x_if hf c15
            refine lv_iconst (v := 0) hx hb d_Mod_outside_65 (by decide) ?_
            refine lv_goto (tgt := 70) hx hb d_Mod_outside_66 (by decide) ?_
            exact k_Mod_outside_70 C0 w _ _ _ l0 l1 l2 l3 l4 l5 l0 (0 : Int32) hf hH hS (lv_sub hl [0, 1, 2, 3, 4, 5] rfl)
theorem c_Mod_outside (l : Launch) (D : va_G) (aC : Nat → ClassId) (ad : Nat → Nat) (T : x_T) (nx sz : Nat) (w : x_W) (a0 : Nat) (a1 : Int32) (a2 : Int32) (a3 : Int32) (a4 : Int32) (a5 : Int32) (q : x_W) (hf : f_Mod_outside T w a0 a1 a2 a3 a4 a5 = some q) : Met l y_Mod_outside ws_Mod_outside { frames := 1, cells := 0, slots := 0, locals := 25 } (x_Pc D aC ad T nx sz w [.ref (ad a0), .int a1, .int a2, .int a3, .int a4, .int a5]) (x_Qc D aC ad T nx none q (x_dom ad nx sz)) 0 0 (x_dom ad nx sz) :=
  x_met [(0, .ref (ad a0)), (1, .int a1), (2, .int a2), (3, .int a3), (4, .int a4), (5, .int a5)] (plainFor_of_name (by decide)) rfl rfl (Nat.le_of_ble_eq_true rfl) (fun p e s m args below meth c ls C0 hH hS hl => k_Mod_outside C0 w _ _ _ a0 a1 a2 a3 a4 a5 hf hH hS (lv_sub hl [0, 1, 2, 3, 4, 5] rfl))
/-! WallDampModel.inside(III)V -/
def f_Mod_inside_68 (T : x_T) (w : x_W) : Option (x_W) :=
  some w
def f_Mod_inside_44 (T : x_T) (w : x_W) (l0 : Nat) (l1 : Int32) (l2 : Int32) (l3 : Int32) (t0 : Nat) (t1 : Int32) : Option (x_W) :=
  (x_is T t0 10).bind fun _ =>
  (some (x_sI w 64 t0 t1)).bind fun w4 =>
  (x_is T l0 10).bind fun _ =>
  if (x_I w4 64 l0) = 0 then
    ((x_R w4 89 l0).bind fun a10 =>
    (x_ix T a10 100 l1).bind fun _ =>
    (some (x_sA w4 a10 l1.toNatClampNeg l2)).bind fun w16 =>
    (x_R w16 90 l0).bind fun a18 =>
    (x_ix T a18 100 l1).bind fun _ =>
    (some (x_sA w16 a18 l1.toNatClampNeg l3)).bind fun w24 =>
    f_Mod_inside_68 T w24)
  else
    (f_Mod_inside_68 T w4)
def f_Mod_inside_43 (T : x_T) (w : x_W) (l0 : Nat) (l1 : Int32) (l2 : Int32) (l3 : Int32) (t0 : Nat) : Option (x_W) :=
  f_Mod_inside_44 T w l0 l1 l2 l3 t0 (1 : Int32)
def f_Mod_inside (T : x_T) (w : x_W) (l0 : Nat) (l1 : Int32) (l2 : Int32) (l3 : Int32) : Option (x_W) :=
  (f_Mod_in T w (l1.toInt64) (0 : Int64) (23 : Int64)).bind fun q1 =>
  if q1 = 0 then
    (f_Mod_inside_43 T w l0 l1 l2 l3 l0)
  else
    ((f_Mod_in T w (l2.toInt64) (-5000 : Int64) (5000 : Int64)).bind fun q4 =>
    if q4 = 0 then
      (f_Mod_inside_43 T w l0 l1 l2 l3 l0)
    else
      ((f_Mod_in T w (l3.toInt64) (0 : Int64) (10000 : Int64)).bind fun q7 =>
      if q7 = 0 then
        (f_Mod_inside_43 T w l0 l1 l2 l3 l0)
      else
        (f_Mod_inside_44 T w l0 l1 l2 l3 l0 (0 : Int32))))
set_option maxHeartbeats 4000000 in
set_option maxRecDepth 100000 in
theorem k_Mod_inside_68 {p : Program} {l : Launch} {e : Env} {s : State} {m : MethodId} {args : Array Value} {below : List Frame} {meth : Method} {c : Code} {D : va_G} {aC : Nat → ClassId} {ad : Nat → Nat} {T : x_T} {nx : Nat} {A : Nat → Prop} {q : x_W} (C0 : x_At p s m meth c args "WallDampModel" b_Mod_inside none 4 D aC A) : ∀ (w : x_W) (H : Heap) (locs : List Loc) (ls : Array Slot), f_Mod_inside_68 T w = some q → x_H D x_cl x_FT aC ad T nx A w H → va_S A s.heap H locs → lv_has ls 4 [] → W p l e { frames := 1, cells := 0, slots := 0, locals := 25 } s m args below meth c H locs 0 0 (MQ below (x_Qc D aC ad T nx none q A) args s 0 0 A) (F0 m 68 ls []) := by
  obtain ⟨hx, hb, hr, hml, hown, hts, hlocks, hK, hA, hX⟩ := id C0
  intro w H locs ls hf hH hS hl
  unfold f_Mod_inside_68 at hf
  cases hf
  refine x_sz0 hS (fun hz => ?_)
  exact W.vret hx hb hr (fun t ht hW => ⟨rfl, hS.F ht, by rw [ht]; exact hz, by rw [ht]; exact hH.weaken (fun _ _ _ => trivial)⟩) hS.2.2 d_Mod_inside_68
set_option maxHeartbeats 4000000 in
set_option maxRecDepth 100000 in
theorem k_Mod_inside_44 {p : Program} {l : Launch} {e : Env} {s : State} {m : MethodId} {args : Array Value} {below : List Frame} {meth : Method} {c : Code} {D : va_G} {aC : Nat → ClassId} {ad : Nat → Nat} {T : x_T} {nx : Nat} {A : Nat → Prop} {q : x_W} (C0 : x_At p s m meth c args "WallDampModel" b_Mod_inside none 4 D aC A) : ∀ (w : x_W) (H : Heap) (locs : List Loc) (ls : Array Slot) (l0 : Nat) (l1 : Int32) (l2 : Int32) (l3 : Int32) (t0 : Nat) (t1 : Int32), f_Mod_inside_44 T w l0 l1 l2 l3 t0 t1 = some q → x_H D x_cl x_FT aC ad T nx A w H → va_S A s.heap H locs → lv_has ls 4 [(0, .ref (ad l0)), (1, .int l1), (2, .int l2), (3, .int l3)] → W p l e { frames := 1, cells := 0, slots := 0, locals := 25 } s m args below meth c H locs 0 0 (MQ below (x_Qc D aC ad T nx none q A) args s 0 0 A) (F0 m 44 ls [.int t1, .ref (ad t0)]) := by
  obtain ⟨hx, hb, hr, hml, hown, hts, hlocks, hK, hA, hX⟩ := id C0
  intro w H locs ls l0 l1 l2 l3 t0 t1 hf hH hS hl
  unfold f_Mod_inside_44 at hf
  obtain ⟨_, e1, hf⟩ := x_b hf
  obtain ⟨n2, hT3⟩ := x_is_e e1
  refine x_put (C := "WallDampModel") (F := F_Mod) (N := 51) (ty := t_Mod 0) (v := .int t1) (w' := x_sI w 64 t0 t1) hx hb hts i_Mod t_Mod ty_Mod n_Mod hown hK hH hS hT3 (by decide) rfl rfl 0 (by decide) (hts _ m_793) (fun _ h9 => h9) rfl (ty_Mod 0 (by decide)) rfl rfl (x_on_I hT3 (by decide) rfl nd_Mod) (fun j hj => x_off_I hj) (fun hh ok => x_ok_I hh ok) d_Mod_inside_44 (fun H locs hH hS => ?_)
  obtain ⟨w4, e5, hf⟩ := x_b hf
  have hH := x_nw e5 hH
  refine lv_aload_n hx hb d_Mod_inside_47 rfl (lv_at hl 0 rfl) ?_
  obtain ⟨_, e6, hf⟩ := x_b hf
  obtain ⟨n7, hT8⟩ := x_is_e e6
  refine x_get (C := "WallDampModel") (F := F_Mod) (N := 51) hx hb hts i_Mod hown hK hH hT8 (by decide) rfl 0 (by decide) (hts _ m_793) (fun _ h9 => h9) (kd := (0, 64)) rfl rfl d_Mod_inside_48 ?_
  refine lv_if_ne (tgt := 68) hx hb d_Mod_inside_51 (by decide) (fun c9 => ?_) (fun c9 => ?_)
  · have hf := x_if hf c9
    exact k_Mod_inside_68 C0 w4 _ _ _ hf hH hS (lv_sub hl [] rfl)
  · have hf := x_it hf c9
    refine lv_aload_n hx hb d_Mod_inside_54 rfl (lv_at hl 0 rfl) ?_
    obtain ⟨a10, e11, hf⟩ := x_b hf
    refine x_get (C := "WallDampModel") (F := F_Mod) (N := 51) hx hb hts i_Mod hown hK hH hT8 (by decide) rfl 25 (by decide) (hts _ m_818) (fun _ h9 => h9) (kd := (2, 89)) rfl (x_fr e11) d_Mod_inside_55 ?_
    refine lv_iload_n hx hb d_Mod_inside_58 rfl (lv_at hl 1 rfl) ?_
    refine lv_iload_n hx hb d_Mod_inside_59 rfl (lv_at hl 2 rfl) ?_
    obtain ⟨_, e12, hf⟩ := x_b hf
    obtain ⟨n13, hT14, hi15⟩ := x_ix_e e12
    refine x_iast hx hb hK hH hS hT14 0 rfl hi15 d_Mod_inside_60 (fun H locs hH hS => ?_)
    obtain ⟨w16, e17, hf⟩ := x_b hf
    have hH := x_nw e17 hH
    refine lv_aload_n hx hb d_Mod_inside_61 rfl (lv_at hl 0 rfl) ?_
    obtain ⟨a18, e19, hf⟩ := x_b hf
    refine x_get (C := "WallDampModel") (F := F_Mod) (N := 51) hx hb hts i_Mod hown hK hH hT8 (by decide) rfl 26 (by decide) (hts _ m_819) (fun _ h9 => h9) (kd := (2, 90)) rfl (x_fr e19) d_Mod_inside_62 ?_
    refine lv_iload_n hx hb d_Mod_inside_65 rfl (lv_at hl 1 rfl) ?_
    refine lv_iload_n hx hb d_Mod_inside_66 rfl (lv_at hl 3 rfl) ?_
    obtain ⟨_, e20, hf⟩ := x_b hf
    obtain ⟨n21, hT22, hi23⟩ := x_ix_e e20
    refine x_iast hx hb hK hH hS hT22 0 rfl hi23 d_Mod_inside_67 (fun H locs hH hS => ?_)
    obtain ⟨w24, e25, hf⟩ := x_b hf
    have hH := x_nw e25 hH
    exact k_Mod_inside_68 C0 w24 _ _ _ hf hH hS (lv_sub hl [] rfl)
set_option maxHeartbeats 4000000 in
set_option maxRecDepth 100000 in
theorem k_Mod_inside_43 {p : Program} {l : Launch} {e : Env} {s : State} {m : MethodId} {args : Array Value} {below : List Frame} {meth : Method} {c : Code} {D : va_G} {aC : Nat → ClassId} {ad : Nat → Nat} {T : x_T} {nx : Nat} {A : Nat → Prop} {q : x_W} (C0 : x_At p s m meth c args "WallDampModel" b_Mod_inside none 4 D aC A) : ∀ (w : x_W) (H : Heap) (locs : List Loc) (ls : Array Slot) (l0 : Nat) (l1 : Int32) (l2 : Int32) (l3 : Int32) (t0 : Nat), f_Mod_inside_43 T w l0 l1 l2 l3 t0 = some q → x_H D x_cl x_FT aC ad T nx A w H → va_S A s.heap H locs → lv_has ls 4 [(0, .ref (ad l0)), (1, .int l1), (2, .int l2), (3, .int l3)] → W p l e { frames := 1, cells := 0, slots := 0, locals := 25 } s m args below meth c H locs 0 0 (MQ below (x_Qc D aC ad T nx none q A) args s 0 0 A) (F0 m 43 ls [.ref (ad t0)]) := by
  obtain ⟨hx, hb, hr, hml, hown, hts, hlocks, hK, hA, hX⟩ := id C0
  intro w H locs ls l0 l1 l2 l3 t0 hf hH hS hl
  unfold f_Mod_inside_43 at hf
  refine lv_iconst (v := 1) hx hb d_Mod_inside_43 (by decide) ?_
  exact k_Mod_inside_44 C0 w _ _ _ l0 l1 l2 l3 t0 (1 : Int32) hf hH hS (lv_sub hl [0, 1, 2, 3] rfl)
set_option maxHeartbeats 4000000 in
set_option maxRecDepth 100000 in
theorem k_Mod_inside {p : Program} {l : Launch} {e : Env} {s : State} {m : MethodId} {args : Array Value} {below : List Frame} {meth : Method} {c : Code} {D : va_G} {aC : Nat → ClassId} {ad : Nat → Nat} {T : x_T} {nx : Nat} {A : Nat → Prop} {q : x_W} (C0 : x_At p s m meth c args "WallDampModel" b_Mod_inside none 4 D aC A) : ∀ (w : x_W) (H : Heap) (locs : List Loc) (ls : Array Slot) (l0 : Nat) (l1 : Int32) (l2 : Int32) (l3 : Int32), f_Mod_inside T w l0 l1 l2 l3 = some q → x_H D x_cl x_FT aC ad T nx A w H → va_S A s.heap H locs → lv_has ls 4 [(0, .ref (ad l0)), (1, .int l1), (2, .int l2), (3, .int l3)] → W p l e { frames := 1, cells := 0, slots := 0, locals := 25 } s m args below meth c H locs 0 0 (MQ below (x_Qc D aC ad T nx none q A) args s 0 0 A) (F0 m 0 ls []) := by
  obtain ⟨hx, hb, hr, hml, hown, hts, hlocks, hK, hA, hX⟩ := id C0
  intro w H locs ls l0 l1 l2 l3 hf hH hS hl
  unfold f_Mod_inside at hf
  refine lv_aload_n hx hb d_Mod_inside_0 rfl (lv_at hl 0 rfl) ?_
  refine lv_iload_n hx hb d_Mod_inside_1 rfl (lv_at hl 1 rfl) ?_
  refine lv_i2l (v := l1.toInt64) hx hb d_Mod_inside_2 rfl ?_
  refine lv_lconst (v := 0) hx hb d_Mod_inside_3 (by decide) ?_
  refine lv_ldc2 (v := (23 : Int64)) hx hb hown (hts _ m_1002) d_Mod_inside_4 ?_
  obtain ⟨q1, e2, hf⟩ := x_b hf
  refine x_callP (st1 := [.int q1, .ref (ad l0)]) (x_runS (As := [.long (l1.toInt64), .long (0 : Int64), .long (23 : Int64)]) (rest := [.ref (ad l0)]) ⟨hx, hb, hml, hown, hts⟩ (c_Mod_in l D aC ad T nx H.size w (l1.toInt64) (0 : Int64) (23 : Int64) q1 e2) (va_cwS 3 hts (x_gS m_958 m_959 m_13 m_960) rfl rfl rfl pd_Mod_in ⟨Nat.le_of_ble_eq_true rfl, Nat.le_of_ble_eq_true rfl⟩) hH hK hX rfl hl.1 rfl (lv_room (Nat.le_of_ble_eq_true rfl)) d_Mod_inside_7 ⟨Nat.zero_le _, Nat.zero_le _⟩) rfl ?_
  refine lv_if_eq (tgt := 43) hx hb d_Mod_inside_10 (by decide) (fun c3 => ?_) (fun c3 => ?_)
  · have hf := x_it hf c3
    exact k_Mod_inside_43 C0 w _ _ _ l0 l1 l2 l3 l0 hf hH hS (lv_sub hl [0, 1, 2, 3] rfl)
  · have hf := x_if hf c3
    refine lv_iload_n hx hb d_Mod_inside_13 rfl (lv_at hl 2 rfl) ?_
    refine lv_i2l (v := l2.toInt64) hx hb d_Mod_inside_14 rfl ?_
    refine lv_ldc2 (v := (-5000 : Int64)) hx hb hown (hts _ m_984) d_Mod_inside_15 ?_
    refine lv_ldc2 (v := (5000 : Int64)) hx hb hown (hts _ m_1003) d_Mod_inside_18 ?_
    obtain ⟨q4, e5, hf⟩ := x_b hf
    refine x_callP (st1 := [.int q4, .ref (ad l0)]) (x_runS (As := [.long (l2.toInt64), .long (-5000 : Int64), .long (5000 : Int64)]) (rest := [.ref (ad l0)]) ⟨hx, hb, hml, hown, hts⟩ (c_Mod_in l D aC ad T nx H.size w (l2.toInt64) (-5000 : Int64) (5000 : Int64) q4 e5) (va_cwS 3 hts (x_gS m_958 m_959 m_13 m_960) rfl rfl rfl pd_Mod_in ⟨Nat.le_of_ble_eq_true rfl, Nat.le_of_ble_eq_true rfl⟩) hH hK hX rfl hl.1 rfl (lv_room (Nat.le_of_ble_eq_true rfl)) d_Mod_inside_21 ⟨Nat.zero_le _, Nat.zero_le _⟩) rfl ?_
    refine lv_if_eq (tgt := 43) hx hb d_Mod_inside_24 (by decide) (fun c6 => ?_) (fun c6 => ?_)
    · have hf := x_it hf c6
      exact k_Mod_inside_43 C0 w _ _ _ l0 l1 l2 l3 l0 hf hH hS (lv_sub hl [0, 1, 2, 3] rfl)
    · have hf := x_if hf c6
      refine lv_iload_n hx hb d_Mod_inside_27 rfl (lv_at hl 3 rfl) ?_
      refine lv_i2l (v := l3.toInt64) hx hb d_Mod_inside_28 rfl ?_
      refine lv_lconst (v := 0) hx hb d_Mod_inside_29 (by decide) ?_
      refine lv_ldc2 (v := (10000 : Int64)) hx hb hown (hts _ m_962) d_Mod_inside_30 ?_
      obtain ⟨q7, e8, hf⟩ := x_b hf
      refine x_callP (st1 := [.int q7, .ref (ad l0)]) (x_runS (As := [.long (l3.toInt64), .long (0 : Int64), .long (10000 : Int64)]) (rest := [.ref (ad l0)]) ⟨hx, hb, hml, hown, hts⟩ (c_Mod_in l D aC ad T nx H.size w (l3.toInt64) (0 : Int64) (10000 : Int64) q7 e8) (va_cwS 3 hts (x_gS m_958 m_959 m_13 m_960) rfl rfl rfl pd_Mod_in ⟨Nat.le_of_ble_eq_true rfl, Nat.le_of_ble_eq_true rfl⟩) hH hK hX rfl hl.1 rfl (lv_room (Nat.le_of_ble_eq_true rfl)) d_Mod_inside_33 ⟨Nat.zero_le _, Nat.zero_le _⟩) rfl ?_
      refine lv_if_eq (tgt := 43) hx hb d_Mod_inside_36 (by decide) (fun c9 => ?_) (fun c9 => ?_)
      · have hf := x_it hf c9
        exact k_Mod_inside_43 C0 w _ _ _ l0 l1 l2 l3 l0 hf hH hS (lv_sub hl [0, 1, 2, 3] rfl)
      · have hf := x_if hf c9
        refine lv_iconst (v := 0) hx hb d_Mod_inside_39 (by decide) ?_
        refine lv_goto (tgt := 44) hx hb d_Mod_inside_40 (by decide) ?_
        exact k_Mod_inside_44 C0 w _ _ _ l0 l1 l2 l3 l0 (0 : Int32) hf hH hS (lv_sub hl [0, 1, 2, 3] rfl)
theorem c_Mod_inside (l : Launch) (D : va_G) (aC : Nat → ClassId) (ad : Nat → Nat) (T : x_T) (nx sz : Nat) (w : x_W) (a0 : Nat) (a1 : Int32) (a2 : Int32) (a3 : Int32) (q : x_W) (hf : f_Mod_inside T w a0 a1 a2 a3 = some q) : Met l y_Mod_inside ws_Mod_inside { frames := 1, cells := 0, slots := 0, locals := 25 } (x_Pc D aC ad T nx sz w [.ref (ad a0), .int a1, .int a2, .int a3]) (x_Qc D aC ad T nx none q (x_dom ad nx sz)) 0 0 (x_dom ad nx sz) :=
  x_met [(0, .ref (ad a0)), (1, .int a1), (2, .int a2), (3, .int a3)] (plainFor_of_name (by decide)) rfl rfl (Nat.le_of_ble_eq_true rfl) (fun p e s m args below meth c ls C0 hH hS hl => k_Mod_inside C0 w _ _ _ a0 a1 a2 a3 hf hH hS (lv_sub hl [0, 1, 2, 3] rfl))
/-! WallDampModel.water(II)I -/
def f_Mod_water_34 (T : x_T) (w : x_W) (l0 : Nat) (l1 : Int32) (l2 : Int32) (t0 : Nat) (t1 : Int32) : Option (Int32 × x_W) :=
  (x_is T t0 10).bind fun _ =>
  (some (x_sI w 64 t0 t1)).bind fun w4 =>
  (x_is T l0 10).bind fun _ =>
  if (x_I w4 64 l0) ≤ 0 then
    ((x_R w4 74 l0).bind fun a10 =>
    (x_ix T a10 101 l1).bind fun _ =>
    (some (((x_B w4 a10 l1.toNatClampNeg).toInt32))).bind fun v16 =>
    (some (x_sJ w4 102 l0 ((x_J w4 102 l0) + ((l2 - v16).toInt64)))).bind fun w18 =>
    (x_R w18 74 l0).bind fun a20 =>
    (x_ix T a20 101 l1).bind fun _ =>
    (some (x_sB w18 a20 l1.toNatClampNeg (l2.toInt64))).bind fun w26 =>
    some (v16, w26))
  else
    (some ((0 : Int32), w4))
def f_Mod_water_33 (T : x_T) (w : x_W) (l0 : Nat) (l1 : Int32) (l2 : Int32) (t0 : Nat) : Option (Int32 × x_W) :=
  f_Mod_water_34 T w l0 l1 l2 t0 (1 : Int32)
def f_Mod_water (T : x_T) (w : x_W) (l0 : Nat) (l1 : Int32) (l2 : Int32) : Option (Int32 × x_W) :=
  (x_is T l0 10).bind fun _ =>
  (f_Mod_isCell T w l0 l1).bind fun q1 =>
  if q1 = 0 then
    (f_Mod_water_33 T w l0 l1 l2 l0)
  else
    ((x_R w 72 l0).bind fun a7 =>
    (x_ix T a7 100 l1).bind fun _ =>
    (f_Mod_most T w l0 (x_A w a7 l1.toNatClampNeg)).bind fun q13 =>
    (f_Mod_in T w (l2.toInt64) (0 : Int64) (q13.toInt64)).bind fun q15 =>
    if q15 = 0 then
      (f_Mod_water_33 T w l0 l1 l2 l0)
    else
      (f_Mod_water_34 T w l0 l1 l2 l0 (0 : Int32)))
set_option maxHeartbeats 4000000 in
set_option maxRecDepth 100000 in
theorem k_Mod_water_34 {p : Program} {l : Launch} {e : Env} {s : State} {m : MethodId} {args : Array Value} {below : List Frame} {meth : Method} {c : Code} {D : va_G} {aC : Nat → ClassId} {ad : Nat → Nat} {T : x_T} {nx : Nat} {A : Nat → Prop} {q : Int32 × x_W} (C0 : x_At p s m meth c args "WallDampModel" b_Mod_water (some (.int)) 4 D aC A) : ∀ (w : x_W) (H : Heap) (locs : List Loc) (ls : Array Slot) (l0 : Nat) (l1 : Int32) (l2 : Int32) (t0 : Nat) (t1 : Int32), f_Mod_water_34 T w l0 l1 l2 t0 t1 = some q → x_H D x_cl x_FT aC ad T nx A w H → va_S A s.heap H locs → lv_has ls 4 [(0, .ref (ad l0)), (1, .int l1), (2, .int l2)] → W p l e { frames := 2, cells := 0, slots := 0, locals := 46 } s m args below meth c H locs 0 0 (MQ below (x_Qc D aC ad T nx (some (.int q.1)) q.2 A) args s 0 0 A) (F0 m 34 ls [.int t1, .ref (ad t0)]) := by
  obtain ⟨hx, hb, hr, hml, hown, hts, hlocks, hK, hA, hX⟩ := id C0
  intro w H locs ls l0 l1 l2 t0 t1 hf hH hS hl
  unfold f_Mod_water_34 at hf
  obtain ⟨_, e1, hf⟩ := x_b hf
  obtain ⟨n2, hT3⟩ := x_is_e e1
  refine x_put (C := "WallDampModel") (F := F_Mod) (N := 51) (ty := t_Mod 0) (v := .int t1) (w' := x_sI w 64 t0 t1) hx hb hts i_Mod t_Mod ty_Mod n_Mod hown hK hH hS hT3 (by decide) rfl rfl 0 (by decide) (hts _ m_793) (fun _ h9 => h9) rfl (ty_Mod 0 (by decide)) rfl rfl (x_on_I hT3 (by decide) rfl nd_Mod) (fun j hj => x_off_I hj) (fun hh ok => x_ok_I hh ok) d_Mod_water_34 (fun H locs hH hS => ?_)
  obtain ⟨w4, e5, hf⟩ := x_b hf
  have hH := x_nw e5 hH
  refine lv_aload_n hx hb d_Mod_water_37 rfl (lv_at hl 0 rfl) ?_
  obtain ⟨_, e6, hf⟩ := x_b hf
  obtain ⟨n7, hT8⟩ := x_is_e e6
  refine x_get (C := "WallDampModel") (F := F_Mod) (N := 51) hx hb hts i_Mod hown hK hH hT8 (by decide) rfl 0 (by decide) (hts _ m_793) (fun _ h9 => h9) (kd := (0, 64)) rfl rfl d_Mod_water_38 ?_
  refine lv_if_le (tgt := 46) hx hb d_Mod_water_41 (by decide) (fun c9 => ?_) (fun c9 => ?_)
  · have hf := x_it hf c9
    refine lv_aload_n hx hb d_Mod_water_46 rfl (lv_at hl 0 rfl) ?_
    obtain ⟨a10, e11, hf⟩ := x_b hf
    refine x_get (C := "WallDampModel") (F := F_Mod) (N := 51) hx hb hts i_Mod hown hK hH hT8 (by decide) rfl 10 (by decide) (hts _ m_803) (fun _ h9 => h9) (kd := (2, 74)) rfl (x_fr e11) d_Mod_water_47 ?_
    refine lv_iload_n hx hb d_Mod_water_50 rfl (lv_at hl 1 rfl) ?_
    obtain ⟨_, e12, hf⟩ := x_b hf
    obtain ⟨n13, hT14, hi15⟩ := x_ix_e e12
    refine x_lald hx hb hK hH hT14 1 rfl hi15 d_Mod_water_51 ?_
    refine lv_l2i (v := (x_B w4 a10 l1.toNatClampNeg).toInt32) hx hb d_Mod_water_52 rfl ?_
    obtain ⟨v16, e17, hf⟩ := x_b hf
    refine x_nmi e17 ?_
    refine lv_istore_n (lv' := [(3, .int v16), (0, .ref (ad l0)), (1, .int l1), (2, .int l2)]) hx hb d_Mod_water_53 rfl hl (by decide) rfl (fun ls hl => ?_)
    refine lv_aload_n hx hb d_Mod_water_54 rfl (lv_at hl 1 rfl) ?_
    refine lv_dup hx hb d_Mod_water_55 rfl ?_
    refine x_get (C := "WallDampModel") (F := F_Mod) (N := 51) hx hb hts i_Mod hown hK hH hT8 (by decide) rfl 38 (by decide) (hts _ m_831) (fun _ h9 => h9) (kd := (1, 102)) rfl rfl d_Mod_water_56 ?_
    refine lv_iload_n hx hb d_Mod_water_59 rfl (lv_at hl 3 rfl) ?_
    refine lv_iload_n hx hb d_Mod_water_60 rfl (lv_at hl 0 rfl) ?_
    refine lv_isub hx hb d_Mod_water_61 ?_
    refine lv_i2l (v := (l2 - v16).toInt64) hx hb d_Mod_water_62 rfl ?_
    refine lv_ladd hx hb d_Mod_water_63 ?_
    refine x_put (C := "WallDampModel") (F := F_Mod) (N := 51) (ty := t_Mod 38) (v := .long ((x_J w4 102 l0) + ((l2 - v16).toInt64))) (w' := x_sJ w4 102 l0 ((x_J w4 102 l0) + ((l2 - v16).toInt64))) hx hb hts i_Mod t_Mod ty_Mod n_Mod hown hK hH hS hT8 (by decide) rfl rfl 38 (by decide) (hts _ m_831) (fun _ h9 => h9) rfl (ty_Mod 38 (by decide)) rfl rfl (x_on_J hT8 (by decide) rfl nd_Mod) (fun j hj => x_off_J hj) (fun hh ok => x_ok_J hh ok) d_Mod_water_64 (fun H locs hH hS => ?_)
    obtain ⟨w18, e19, hf⟩ := x_b hf
    have hH := x_nw e19 hH
    refine lv_aload_n hx hb d_Mod_water_67 rfl (lv_at hl 1 rfl) ?_
    obtain ⟨a20, e21, hf⟩ := x_b hf
    refine x_get (C := "WallDampModel") (F := F_Mod) (N := 51) hx hb hts i_Mod hown hK hH hT8 (by decide) rfl 10 (by decide) (hts _ m_803) (fun _ h9 => h9) (kd := (2, 74)) rfl (x_fr e21) d_Mod_water_68 ?_
    refine lv_iload_n hx hb d_Mod_water_71 rfl (lv_at hl 2 rfl) ?_
    refine lv_iload_n hx hb d_Mod_water_72 rfl (lv_at hl 3 rfl) ?_
    refine lv_i2l (v := l2.toInt64) hx hb d_Mod_water_73 rfl ?_
    obtain ⟨_, e22, hf⟩ := x_b hf
    obtain ⟨n23, hT24, hi25⟩ := x_ix_e e22
    refine x_last hx hb hK hH hS hT24 1 rfl hi25 d_Mod_water_74 (fun H locs hH hS => ?_)
    obtain ⟨w26, e27, hf⟩ := x_b hf
    have hH := x_nw e27 hH
    refine lv_iload_n hx hb d_Mod_water_75 rfl (lv_at hl 0 rfl) ?_
    cases hf
    refine x_sz0 hS (fun hz => ?_)
    exact W.iret hx hb hr (fun t ht hW => ⟨rfl, hS.F ht, by rw [ht]; exact hz, by rw [ht]; exact hH.weaken (fun _ _ _ => trivial)⟩) hS.2.2 d_Mod_water_76
  · have hf := x_if hf c9
    refine lv_iconst (v := 0) hx hb d_Mod_water_44 (by decide) ?_
    cases hf
    refine x_sz0 hS (fun hz => ?_)
    exact W.iret hx hb hr (fun t ht hW => ⟨rfl, hS.F ht, by rw [ht]; exact hz, by rw [ht]; exact hH.weaken (fun _ _ _ => trivial)⟩) hS.2.2 d_Mod_water_45
set_option maxHeartbeats 4000000 in
set_option maxRecDepth 100000 in
theorem k_Mod_water_33 {p : Program} {l : Launch} {e : Env} {s : State} {m : MethodId} {args : Array Value} {below : List Frame} {meth : Method} {c : Code} {D : va_G} {aC : Nat → ClassId} {ad : Nat → Nat} {T : x_T} {nx : Nat} {A : Nat → Prop} {q : Int32 × x_W} (C0 : x_At p s m meth c args "WallDampModel" b_Mod_water (some (.int)) 4 D aC A) : ∀ (w : x_W) (H : Heap) (locs : List Loc) (ls : Array Slot) (l0 : Nat) (l1 : Int32) (l2 : Int32) (t0 : Nat), f_Mod_water_33 T w l0 l1 l2 t0 = some q → x_H D x_cl x_FT aC ad T nx A w H → va_S A s.heap H locs → lv_has ls 4 [(0, .ref (ad l0)), (1, .int l1), (2, .int l2)] → W p l e { frames := 2, cells := 0, slots := 0, locals := 46 } s m args below meth c H locs 0 0 (MQ below (x_Qc D aC ad T nx (some (.int q.1)) q.2 A) args s 0 0 A) (F0 m 33 ls [.ref (ad t0)]) := by
  obtain ⟨hx, hb, hr, hml, hown, hts, hlocks, hK, hA, hX⟩ := id C0
  intro w H locs ls l0 l1 l2 t0 hf hH hS hl
  unfold f_Mod_water_33 at hf
  refine lv_iconst (v := 1) hx hb d_Mod_water_33 (by decide) ?_
  exact k_Mod_water_34 C0 w _ _ _ l0 l1 l2 t0 (1 : Int32) hf hH hS (lv_sub hl [0, 1, 2] rfl)
set_option maxHeartbeats 4000000 in
set_option maxRecDepth 100000 in
theorem k_Mod_water {p : Program} {l : Launch} {e : Env} {s : State} {m : MethodId} {args : Array Value} {below : List Frame} {meth : Method} {c : Code} {D : va_G} {aC : Nat → ClassId} {ad : Nat → Nat} {T : x_T} {nx : Nat} {A : Nat → Prop} {q : Int32 × x_W} (C0 : x_At p s m meth c args "WallDampModel" b_Mod_water (some (.int)) 4 D aC A) : ∀ (w : x_W) (H : Heap) (locs : List Loc) (ls : Array Slot) (l0 : Nat) (l1 : Int32) (l2 : Int32), f_Mod_water T w l0 l1 l2 = some q → x_H D x_cl x_FT aC ad T nx A w H → va_S A s.heap H locs → lv_has ls 4 [(0, .ref (ad l0)), (1, .int l1), (2, .int l2)] → W p l e { frames := 2, cells := 0, slots := 0, locals := 46 } s m args below meth c H locs 0 0 (MQ below (x_Qc D aC ad T nx (some (.int q.1)) q.2 A) args s 0 0 A) (F0 m 0 ls []) := by
  obtain ⟨hx, hb, hr, hml, hown, hts, hlocks, hK, hA, hX⟩ := id C0
  intro w H locs ls l0 l1 l2 hf hH hS hl
  unfold f_Mod_water at hf
  refine lv_aload_n hx hb d_Mod_water_0 rfl (lv_at hl 0 rfl) ?_
  refine lv_aload_n hx hb d_Mod_water_1 rfl (lv_at hl 0 rfl) ?_
  refine lv_iload_n hx hb d_Mod_water_2 rfl (lv_at hl 1 rfl) ?_
  obtain ⟨_, e3, hf⟩ := x_b hf
  obtain ⟨n4, hT5⟩ := x_is_e e3
  obtain ⟨q1, e2, hf⟩ := x_b hf
  refine x_callP (st1 := [.int q1, .ref (ad l0)]) (x_runV (As := [.int l1]) (rest := [.ref (ad l0)]) ⟨hx, hb, hml, hown, hts⟩ (c_Mod_isCell l D aC ad T nx H.size w l0 l1 q1 e2) (cwV 1 hts (x_gV m_976 m_978 ms_16 m_13 m_979) rfl rfl rfl ⟨rfl, pd_Mod_isCell⟩ ⟨Nat.le_of_ble_eq_true rfl, Nat.le_of_ble_eq_true rfl⟩) hH hK hX hT5 (by decide) rfl rfl rfl hl.1 rfl (lv_room (Nat.le_of_ble_eq_true rfl)) d_Mod_water_3 ⟨Nat.zero_le _, Nat.zero_le _⟩) rfl ?_
  refine lv_if_eq (tgt := 33) hx hb d_Mod_water_6 (by decide) (fun c6 => ?_) (fun c6 => ?_)
  · have hf := x_it hf c6
    exact k_Mod_water_33 C0 w _ _ _ l0 l1 l2 l0 hf hH hS (lv_sub hl [0, 1, 2] rfl)
  · have hf := x_if hf c6
    refine lv_iload_n hx hb d_Mod_water_9 rfl (lv_at hl 2 rfl) ?_
    refine lv_i2l (v := l2.toInt64) hx hb d_Mod_water_10 rfl ?_
    refine lv_lconst (v := 0) hx hb d_Mod_water_11 (by decide) ?_
    refine lv_aload_n hx hb d_Mod_water_12 rfl (lv_at hl 0 rfl) ?_
    refine lv_aload_n hx hb d_Mod_water_13 rfl (lv_at hl 0 rfl) ?_
    obtain ⟨a7, e8, hf⟩ := x_b hf
    refine x_get (C := "WallDampModel") (F := F_Mod) (N := 51) hx hb hts i_Mod hown hK hH hT5 (by decide) rfl 8 (by decide) (hts _ m_801) (fun _ h9 => h9) (kd := (2, 72)) rfl (x_fr e8) d_Mod_water_14 ?_
    refine lv_iload_n hx hb d_Mod_water_17 rfl (lv_at hl 1 rfl) ?_
    obtain ⟨_, e9, hf⟩ := x_b hf
    obtain ⟨n10, hT11, hi12⟩ := x_ix_e e9
    refine x_iald hx hb hK hH hT11 0 rfl hi12 d_Mod_water_18 ?_
    obtain ⟨q13, e14, hf⟩ := x_b hf
    refine x_callP (st1 := [.int q13, .long (0 : Int64), .long (l2.toInt64), .ref (ad l0)]) (x_runV (As := [.int (x_A w a7 l1.toNatClampNeg)]) (rest := [.long (0 : Int64), .long (l2.toInt64), .ref (ad l0)]) ⟨hx, hb, hml, hown, hts⟩ (c_Mod_most l D aC ad T nx H.size w l0 (x_A w a7 l1.toNatClampNeg) q13 e14) (cwV 1 hts (x_gV m_963 m_965 ms_15 m_13 m_966) rfl rfl rfl ⟨rfl, pd_Mod_most⟩ ⟨Nat.le_of_ble_eq_true rfl, Nat.le_of_ble_eq_true rfl⟩) hH hK hX hT5 (by decide) rfl rfl rfl hl.1 rfl (lv_room (Nat.le_of_ble_eq_true rfl)) d_Mod_water_19 ⟨Nat.zero_le _, Nat.zero_le _⟩) rfl ?_
    refine lv_i2l (v := q13.toInt64) hx hb d_Mod_water_22 rfl ?_
    obtain ⟨q15, e16, hf⟩ := x_b hf
    refine x_callP (st1 := [.int q15, .ref (ad l0)]) (x_runS (As := [.long (l2.toInt64), .long (0 : Int64), .long (q13.toInt64)]) (rest := [.ref (ad l0)]) ⟨hx, hb, hml, hown, hts⟩ (c_Mod_in l D aC ad T nx H.size w (l2.toInt64) (0 : Int64) (q13.toInt64) q15 e16) (va_cwS 3 hts (x_gS m_958 m_959 m_13 m_960) rfl rfl rfl pd_Mod_in ⟨Nat.le_of_ble_eq_true rfl, Nat.le_of_ble_eq_true rfl⟩) hH hK hX rfl hl.1 rfl (lv_room (Nat.le_of_ble_eq_true rfl)) d_Mod_water_23 ⟨Nat.zero_le _, Nat.zero_le _⟩) rfl ?_
    refine lv_if_eq (tgt := 33) hx hb d_Mod_water_26 (by decide) (fun c17 => ?_) (fun c17 => ?_)
    · have hf := x_it hf c17
      exact k_Mod_water_33 C0 w _ _ _ l0 l1 l2 l0 hf hH hS (lv_sub hl [0, 1, 2] rfl)
    · have hf := x_if hf c17
      refine lv_iconst (v := 0) hx hb d_Mod_water_29 (by decide) ?_
      refine lv_goto (tgt := 34) hx hb d_Mod_water_30 (by decide) ?_
      exact k_Mod_water_34 C0 w _ _ _ l0 l1 l2 l0 (0 : Int32) hf hH hS (lv_sub hl [0, 1, 2] rfl)
theorem c_Mod_water (l : Launch) (D : va_G) (aC : Nat → ClassId) (ad : Nat → Nat) (T : x_T) (nx sz : Nat) (w : x_W) (a0 : Nat) (a1 : Int32) (a2 : Int32) (q : Int32 × x_W) (hf : f_Mod_water T w a0 a1 a2 = some q) : Met l y_Mod_water ws_Mod_water { frames := 2, cells := 0, slots := 0, locals := 46 } (x_Pc D aC ad T nx sz w [.ref (ad a0), .int a1, .int a2]) (x_Qc D aC ad T nx (some (.int q.1)) q.2 (x_dom ad nx sz)) 0 0 (x_dom ad nx sz) :=
  x_met [(0, .ref (ad a0)), (1, .int a1), (2, .int a2)] (plainFor_of_name (by decide)) rfl rfl (Nat.le_of_ble_eq_true rfl) (fun p e s m args below meth c ls C0 hH hS hl => k_Mod_water C0 w _ _ _ a0 a1 a2 hf hH hS (lv_sub hl [0, 1, 2] rfl))
/-! WallDampModel.leak(II)I -/
def f_Mod_leak_26 (T : x_T) (w : x_W) (l0 : Nat) (l1 : Int32) (l2 : Int32) (t0 : Nat) (t1 : Int32) : Option (Int32 × x_W) :=
  (x_is T t0 10).bind fun _ =>
  (some (x_sI w 64 t0 t1)).bind fun w4 =>
  (x_is T l0 10).bind fun _ =>
  if (x_I w4 64 l0) ≤ 0 then
    ((x_R w4 75 l0).bind fun a10 =>
    (x_ix T a10 100 l1).bind fun _ =>
    (some ((x_A w4 a10 l1.toNatClampNeg))).bind fun v16 =>
    (x_R w4 75 l0).bind fun a18 =>
    (x_ix T a18 100 l1).bind fun _ =>
    (some (x_sA w4 a18 l1.toNatClampNeg l2)).bind fun w24 =>
    some (v16, w24))
  else
    (some ((0 : Int32), w4))
def f_Mod_leak_25 (T : x_T) (w : x_W) (l0 : Nat) (l1 : Int32) (l2 : Int32) (t0 : Nat) : Option (Int32 × x_W) :=
  f_Mod_leak_26 T w l0 l1 l2 t0 (1 : Int32)
def f_Mod_leak (T : x_T) (w : x_W) (l0 : Nat) (l1 : Int32) (l2 : Int32) : Option (Int32 × x_W) :=
  (x_is T l0 10).bind fun _ =>
  (f_Mod_isCell T w l0 l1).bind fun q1 =>
  if q1 = 0 then
    (f_Mod_leak_25 T w l0 l1 l2 l0)
  else
    ((f_Mod_in T w (l2.toInt64) (0 : Int64) (1000 : Int64)).bind fun q7 =>
    if q7 = 0 then
      (f_Mod_leak_25 T w l0 l1 l2 l0)
    else
      (f_Mod_leak_26 T w l0 l1 l2 l0 (0 : Int32)))
set_option maxHeartbeats 4000000 in
set_option maxRecDepth 100000 in
theorem k_Mod_leak_26 {p : Program} {l : Launch} {e : Env} {s : State} {m : MethodId} {args : Array Value} {below : List Frame} {meth : Method} {c : Code} {D : va_G} {aC : Nat → ClassId} {ad : Nat → Nat} {T : x_T} {nx : Nat} {A : Nat → Prop} {q : Int32 × x_W} (C0 : x_At p s m meth c args "WallDampModel" b_Mod_leak (some (.int)) 4 D aC A) : ∀ (w : x_W) (H : Heap) (locs : List Loc) (ls : Array Slot) (l0 : Nat) (l1 : Int32) (l2 : Int32) (t0 : Nat) (t1 : Int32), f_Mod_leak_26 T w l0 l1 l2 t0 t1 = some q → x_H D x_cl x_FT aC ad T nx A w H → va_S A s.heap H locs → lv_has ls 4 [(0, .ref (ad l0)), (1, .int l1), (2, .int l2)] → W p l e { frames := 2, cells := 0, slots := 0, locals := 46 } s m args below meth c H locs 0 0 (MQ below (x_Qc D aC ad T nx (some (.int q.1)) q.2 A) args s 0 0 A) (F0 m 26 ls [.int t1, .ref (ad t0)]) := by
  obtain ⟨hx, hb, hr, hml, hown, hts, hlocks, hK, hA, hX⟩ := id C0
  intro w H locs ls l0 l1 l2 t0 t1 hf hH hS hl
  unfold f_Mod_leak_26 at hf
  obtain ⟨_, e1, hf⟩ := x_b hf
  obtain ⟨n2, hT3⟩ := x_is_e e1
  refine x_put (C := "WallDampModel") (F := F_Mod) (N := 51) (ty := t_Mod 0) (v := .int t1) (w' := x_sI w 64 t0 t1) hx hb hts i_Mod t_Mod ty_Mod n_Mod hown hK hH hS hT3 (by decide) rfl rfl 0 (by decide) (hts _ m_793) (fun _ h9 => h9) rfl (ty_Mod 0 (by decide)) rfl rfl (x_on_I hT3 (by decide) rfl nd_Mod) (fun j hj => x_off_I hj) (fun hh ok => x_ok_I hh ok) d_Mod_leak_26 (fun H locs hH hS => ?_)
  obtain ⟨w4, e5, hf⟩ := x_b hf
  have hH := x_nw e5 hH
  refine lv_aload_n hx hb d_Mod_leak_29 rfl (lv_at hl 0 rfl) ?_
  obtain ⟨_, e6, hf⟩ := x_b hf
  obtain ⟨n7, hT8⟩ := x_is_e e6
  refine x_get (C := "WallDampModel") (F := F_Mod) (N := 51) hx hb hts i_Mod hown hK hH hT8 (by decide) rfl 0 (by decide) (hts _ m_793) (fun _ h9 => h9) (kd := (0, 64)) rfl rfl d_Mod_leak_30 ?_
  refine lv_if_le (tgt := 38) hx hb d_Mod_leak_33 (by decide) (fun c9 => ?_) (fun c9 => ?_)
  · have hf := x_it hf c9
    refine lv_aload_n hx hb d_Mod_leak_38 rfl (lv_at hl 0 rfl) ?_
    obtain ⟨a10, e11, hf⟩ := x_b hf
    refine x_get (C := "WallDampModel") (F := F_Mod) (N := 51) hx hb hts i_Mod hown hK hH hT8 (by decide) rfl 11 (by decide) (hts _ m_804) (fun _ h9 => h9) (kd := (2, 75)) rfl (x_fr e11) d_Mod_leak_39 ?_
    refine lv_iload_n hx hb d_Mod_leak_42 rfl (lv_at hl 1 rfl) ?_
    obtain ⟨_, e12, hf⟩ := x_b hf
    obtain ⟨n13, hT14, hi15⟩ := x_ix_e e12
    refine x_iald hx hb hK hH hT14 0 rfl hi15 d_Mod_leak_43 ?_
    obtain ⟨v16, e17, hf⟩ := x_b hf
    refine x_nmi e17 ?_
    refine lv_istore_n (lv' := [(3, .int v16), (0, .ref (ad l0)), (1, .int l1), (2, .int l2)]) hx hb d_Mod_leak_44 rfl hl (by decide) rfl (fun ls hl => ?_)
    refine lv_aload_n hx hb d_Mod_leak_45 rfl (lv_at hl 1 rfl) ?_
    obtain ⟨a18, e19, hf⟩ := x_b hf
    refine x_get (C := "WallDampModel") (F := F_Mod) (N := 51) hx hb hts i_Mod hown hK hH hT8 (by decide) rfl 11 (by decide) (hts _ m_804) (fun _ h9 => h9) (kd := (2, 75)) rfl (x_fr e19) d_Mod_leak_46 ?_
    refine lv_iload_n hx hb d_Mod_leak_49 rfl (lv_at hl 2 rfl) ?_
    refine lv_iload_n hx hb d_Mod_leak_50 rfl (lv_at hl 3 rfl) ?_
    obtain ⟨_, e20, hf⟩ := x_b hf
    obtain ⟨n21, hT22, hi23⟩ := x_ix_e e20
    refine x_iast hx hb hK hH hS hT22 0 rfl hi23 d_Mod_leak_51 (fun H locs hH hS => ?_)
    obtain ⟨w24, e25, hf⟩ := x_b hf
    have hH := x_nw e25 hH
    refine lv_iload_n hx hb d_Mod_leak_52 rfl (lv_at hl 0 rfl) ?_
    cases hf
    refine x_sz0 hS (fun hz => ?_)
    exact W.iret hx hb hr (fun t ht hW => ⟨rfl, hS.F ht, by rw [ht]; exact hz, by rw [ht]; exact hH.weaken (fun _ _ _ => trivial)⟩) hS.2.2 d_Mod_leak_53
  · have hf := x_if hf c9
    refine lv_iconst (v := 0) hx hb d_Mod_leak_36 (by decide) ?_
    cases hf
    refine x_sz0 hS (fun hz => ?_)
    exact W.iret hx hb hr (fun t ht hW => ⟨rfl, hS.F ht, by rw [ht]; exact hz, by rw [ht]; exact hH.weaken (fun _ _ _ => trivial)⟩) hS.2.2 d_Mod_leak_37
set_option maxHeartbeats 4000000 in
set_option maxRecDepth 100000 in
theorem k_Mod_leak_25 {p : Program} {l : Launch} {e : Env} {s : State} {m : MethodId} {args : Array Value} {below : List Frame} {meth : Method} {c : Code} {D : va_G} {aC : Nat → ClassId} {ad : Nat → Nat} {T : x_T} {nx : Nat} {A : Nat → Prop} {q : Int32 × x_W} (C0 : x_At p s m meth c args "WallDampModel" b_Mod_leak (some (.int)) 4 D aC A) : ∀ (w : x_W) (H : Heap) (locs : List Loc) (ls : Array Slot) (l0 : Nat) (l1 : Int32) (l2 : Int32) (t0 : Nat), f_Mod_leak_25 T w l0 l1 l2 t0 = some q → x_H D x_cl x_FT aC ad T nx A w H → va_S A s.heap H locs → lv_has ls 4 [(0, .ref (ad l0)), (1, .int l1), (2, .int l2)] → W p l e { frames := 2, cells := 0, slots := 0, locals := 46 } s m args below meth c H locs 0 0 (MQ below (x_Qc D aC ad T nx (some (.int q.1)) q.2 A) args s 0 0 A) (F0 m 25 ls [.ref (ad t0)]) := by
  obtain ⟨hx, hb, hr, hml, hown, hts, hlocks, hK, hA, hX⟩ := id C0
  intro w H locs ls l0 l1 l2 t0 hf hH hS hl
  unfold f_Mod_leak_25 at hf
  refine lv_iconst (v := 1) hx hb d_Mod_leak_25 (by decide) ?_
  exact k_Mod_leak_26 C0 w _ _ _ l0 l1 l2 t0 (1 : Int32) hf hH hS (lv_sub hl [0, 1, 2] rfl)
set_option maxHeartbeats 4000000 in
set_option maxRecDepth 100000 in
theorem k_Mod_leak {p : Program} {l : Launch} {e : Env} {s : State} {m : MethodId} {args : Array Value} {below : List Frame} {meth : Method} {c : Code} {D : va_G} {aC : Nat → ClassId} {ad : Nat → Nat} {T : x_T} {nx : Nat} {A : Nat → Prop} {q : Int32 × x_W} (C0 : x_At p s m meth c args "WallDampModel" b_Mod_leak (some (.int)) 4 D aC A) : ∀ (w : x_W) (H : Heap) (locs : List Loc) (ls : Array Slot) (l0 : Nat) (l1 : Int32) (l2 : Int32), f_Mod_leak T w l0 l1 l2 = some q → x_H D x_cl x_FT aC ad T nx A w H → va_S A s.heap H locs → lv_has ls 4 [(0, .ref (ad l0)), (1, .int l1), (2, .int l2)] → W p l e { frames := 2, cells := 0, slots := 0, locals := 46 } s m args below meth c H locs 0 0 (MQ below (x_Qc D aC ad T nx (some (.int q.1)) q.2 A) args s 0 0 A) (F0 m 0 ls []) := by
  obtain ⟨hx, hb, hr, hml, hown, hts, hlocks, hK, hA, hX⟩ := id C0
  intro w H locs ls l0 l1 l2 hf hH hS hl
  unfold f_Mod_leak at hf
  refine lv_aload_n hx hb d_Mod_leak_0 rfl (lv_at hl 0 rfl) ?_
  refine lv_aload_n hx hb d_Mod_leak_1 rfl (lv_at hl 0 rfl) ?_
  refine lv_iload_n hx hb d_Mod_leak_2 rfl (lv_at hl 1 rfl) ?_
  obtain ⟨_, e3, hf⟩ := x_b hf
  obtain ⟨n4, hT5⟩ := x_is_e e3
  obtain ⟨q1, e2, hf⟩ := x_b hf
  refine x_callP (st1 := [.int q1, .ref (ad l0)]) (x_runV (As := [.int l1]) (rest := [.ref (ad l0)]) ⟨hx, hb, hml, hown, hts⟩ (c_Mod_isCell l D aC ad T nx H.size w l0 l1 q1 e2) (cwV 1 hts (x_gV m_976 m_978 ms_16 m_13 m_979) rfl rfl rfl ⟨rfl, pd_Mod_isCell⟩ ⟨Nat.le_of_ble_eq_true rfl, Nat.le_of_ble_eq_true rfl⟩) hH hK hX hT5 (by decide) rfl rfl rfl hl.1 rfl (lv_room (Nat.le_of_ble_eq_true rfl)) d_Mod_leak_3 ⟨Nat.zero_le _, Nat.zero_le _⟩) rfl ?_
  refine lv_if_eq (tgt := 25) hx hb d_Mod_leak_6 (by decide) (fun c6 => ?_) (fun c6 => ?_)
  · have hf := x_it hf c6
    exact k_Mod_leak_25 C0 w _ _ _ l0 l1 l2 l0 hf hH hS (lv_sub hl [0, 1, 2] rfl)
  · have hf := x_if hf c6
    refine lv_iload_n hx hb d_Mod_leak_9 rfl (lv_at hl 2 rfl) ?_
    refine lv_i2l (v := l2.toInt64) hx hb d_Mod_leak_10 rfl ?_
    refine lv_lconst (v := 0) hx hb d_Mod_leak_11 (by decide) ?_
    refine lv_ldc2 (v := (1000 : Int64)) hx hb hown (hts _ m_971) d_Mod_leak_12 ?_
    obtain ⟨q7, e8, hf⟩ := x_b hf
    refine x_callP (st1 := [.int q7, .ref (ad l0)]) (x_runS (As := [.long (l2.toInt64), .long (0 : Int64), .long (1000 : Int64)]) (rest := [.ref (ad l0)]) ⟨hx, hb, hml, hown, hts⟩ (c_Mod_in l D aC ad T nx H.size w (l2.toInt64) (0 : Int64) (1000 : Int64) q7 e8) (va_cwS 3 hts (x_gS m_958 m_959 m_13 m_960) rfl rfl rfl pd_Mod_in ⟨Nat.le_of_ble_eq_true rfl, Nat.le_of_ble_eq_true rfl⟩) hH hK hX rfl hl.1 rfl (lv_room (Nat.le_of_ble_eq_true rfl)) d_Mod_leak_15 ⟨Nat.zero_le _, Nat.zero_le _⟩) rfl ?_
    refine lv_if_eq (tgt := 25) hx hb d_Mod_leak_18 (by decide) (fun c9 => ?_) (fun c9 => ?_)
    · have hf := x_it hf c9
      exact k_Mod_leak_25 C0 w _ _ _ l0 l1 l2 l0 hf hH hS (lv_sub hl [0, 1, 2] rfl)
    · have hf := x_if hf c9
      refine lv_iconst (v := 0) hx hb d_Mod_leak_21 (by decide) ?_
      refine lv_goto (tgt := 26) hx hb d_Mod_leak_22 (by decide) ?_
      exact k_Mod_leak_26 C0 w _ _ _ l0 l1 l2 l0 (0 : Int32) hf hH hS (lv_sub hl [0, 1, 2] rfl)
theorem c_Mod_leak (l : Launch) (D : va_G) (aC : Nat → ClassId) (ad : Nat → Nat) (T : x_T) (nx sz : Nat) (w : x_W) (a0 : Nat) (a1 : Int32) (a2 : Int32) (q : Int32 × x_W) (hf : f_Mod_leak T w a0 a1 a2 = some q) : Met l y_Mod_leak ws_Mod_leak { frames := 2, cells := 0, slots := 0, locals := 46 } (x_Pc D aC ad T nx sz w [.ref (ad a0), .int a1, .int a2]) (x_Qc D aC ad T nx (some (.int q.1)) q.2 (x_dom ad nx sz)) 0 0 (x_dom ad nx sz) :=
  x_met [(0, .ref (ad a0)), (1, .int a1), (2, .int a2)] (plainFor_of_name (by decide)) rfl rfl (Nat.le_of_ble_eq_true rfl) (fun p e s m args below meth c ls C0 hH hS hl => k_Mod_leak C0 w _ _ _ a0 a1 a2 hf hH hS (lv_sub hl [0, 1, 2] rfl))
/-! WallDampModel.growth(IIII)I -/
def f_Mod_growth_89 (T : x_T) (w : x_W) (l0 : Nat) (l1 : Int32) (l2 : Int32) (l3 : Int32) (l4 : Int32) (t0 : Nat) (t1 : Int32) : Option (Int32 × x_W) :=
  (x_is T t0 10).bind fun _ =>
  (some (x_sI w 64 t0 t1)).bind fun w4 =>
  (x_is T l0 10).bind fun _ =>
  if (x_I w4 64 l0) ≤ 0 then
    ((x_R w4 92 l0).bind fun a10 =>
    (x_ix T a10 100 (x_I w4 91 l0)).bind fun _ =>
    (some (x_sA w4 a10 (x_I w4 91 l0).toNatClampNeg l1)).bind fun w16 =>
    (x_R w16 93 l0).bind fun a18 =>
    (x_ix T a18 100 (x_I w16 91 l0)).bind fun _ =>
    (some (x_sA w16 a18 (x_I w16 91 l0).toNatClampNeg l2)).bind fun w24 =>
    (x_R w24 94 l0).bind fun a26 =>
    (x_ix T a26 100 (x_I w24 91 l0)).bind fun _ =>
    (some (x_sA w24 a26 (x_I w24 91 l0).toNatClampNeg l3)).bind fun w32 =>
    (x_R w32 95 l0).bind fun a34 =>
    (x_ix T a34 100 (x_I w32 91 l0)).bind fun _ =>
    (some (x_sA w32 a34 (x_I w32 91 l0).toNatClampNeg l4)).bind fun w40 =>
    (some (x_sI w40 91 l0 ((x_I w40 91 l0) + (1 : Int32)))).bind fun w42 =>
    some ((x_I w42 91 l0), w42))
  else
    (some ((0 : Int32), w4))
def f_Mod_growth_63 (T : x_T) (w : x_W) (l0 : Nat) (l1 : Int32) (l2 : Int32) (l3 : Int32) (l4 : Int32) (t0 : Int32) : Option (Int32 × x_W) :=
  if t0 = 0 then
    (f_Mod_growth_89 T w l0 l1 l2 l3 l4 l0 (1 : Int32))
  else
    ((x_is T l0 10).bind fun _ =>
    if (x_I w 91 l0) = (6 : Int32) then
      (f_Mod_growth_89 T w l0 l1 l2 l3 l4 l0 (2 : Int32))
    else
      (f_Mod_growth_89 T w l0 l1 l2 l3 l4 l0 (0 : Int32)))
def f_Mod_growth_62 (T : x_T) (w : x_W) (l0 : Nat) (l1 : Int32) (l2 : Int32) (l3 : Int32) (l4 : Int32) : Option (Int32 × x_W) :=
  f_Mod_growth_63 T w l0 l1 l2 l3 l4 (0 : Int32)
def f_Mod_growth (T : x_T) (w : x_W) (l0 : Nat) (l1 : Int32) (l2 : Int32) (l3 : Int32) (l4 : Int32) : Option (Int32 × x_W) :=
  (f_Mod_in T w (l1.toInt64) (0 : Int64) (10000 : Int64)).bind fun q1 =>
  if q1 = 0 then
    (f_Mod_growth_62 T w l0 l1 l2 l3 l4)
  else
    ((f_Mod_in T w (l2.toInt64) (-5000 : Int64) (10000 : Int64)).bind fun q4 =>
    if q4 = 0 then
      (f_Mod_growth_62 T w l0 l1 l2 l3 l4)
    else
      ((f_Mod_in T w (l3.toInt64) (-5000 : Int64) (10000 : Int64)).bind fun q7 =>
      if q7 = 0 then
        (f_Mod_growth_62 T w l0 l1 l2 l3 l4)
      else
        (if l3 < l2 then
          (f_Mod_growth_62 T w l0 l1 l2 l3 l4)
        else
          ((f_Mod_in T w (l4.toInt64) (1 : Int64) (1000 : Int64)).bind fun q11 =>
          if q11 = 0 then
            (f_Mod_growth_62 T w l0 l1 l2 l3 l4)
          else
            (f_Mod_growth_63 T w l0 l1 l2 l3 l4 (1 : Int32))))))
set_option maxHeartbeats 4000000 in
set_option maxRecDepth 100000 in
theorem k_Mod_growth_89 {p : Program} {l : Launch} {e : Env} {s : State} {m : MethodId} {args : Array Value} {below : List Frame} {meth : Method} {c : Code} {D : va_G} {aC : Nat → ClassId} {ad : Nat → Nat} {T : x_T} {nx : Nat} {A : Nat → Prop} {q : Int32 × x_W} (C0 : x_At p s m meth c args "WallDampModel" b_Mod_growth (some (.int)) 6 D aC A) : ∀ (w : x_W) (H : Heap) (locs : List Loc) (ls : Array Slot) (l0 : Nat) (l1 : Int32) (l2 : Int32) (l3 : Int32) (l4 : Int32) (t0 : Nat) (t1 : Int32), f_Mod_growth_89 T w l0 l1 l2 l3 l4 t0 t1 = some q → x_H D x_cl x_FT aC ad T nx A w H → va_S A s.heap H locs → lv_has ls 6 [(0, .ref (ad l0)), (1, .int l1), (2, .int l2), (3, .int l3), (4, .int l4)] → W p l e { frames := 1, cells := 0, slots := 0, locals := 25 } s m args below meth c H locs 0 0 (MQ below (x_Qc D aC ad T nx (some (.int q.1)) q.2 A) args s 0 0 A) (F0 m 89 ls [.int t1, .ref (ad t0)]) := by
  obtain ⟨hx, hb, hr, hml, hown, hts, hlocks, hK, hA, hX⟩ := id C0
  intro w H locs ls l0 l1 l2 l3 l4 t0 t1 hf hH hS hl
  unfold f_Mod_growth_89 at hf
  obtain ⟨_, e1, hf⟩ := x_b hf
  obtain ⟨n2, hT3⟩ := x_is_e e1
  refine x_put (C := "WallDampModel") (F := F_Mod) (N := 51) (ty := t_Mod 0) (v := .int t1) (w' := x_sI w 64 t0 t1) hx hb hts i_Mod t_Mod ty_Mod n_Mod hown hK hH hS hT3 (by decide) rfl rfl 0 (by decide) (hts _ m_793) (fun _ h9 => h9) rfl (ty_Mod 0 (by decide)) rfl rfl (x_on_I hT3 (by decide) rfl nd_Mod) (fun j hj => x_off_I hj) (fun hh ok => x_ok_I hh ok) d_Mod_growth_89 (fun H locs hH hS => ?_)
  obtain ⟨w4, e5, hf⟩ := x_b hf
  have hH := x_nw e5 hH
  refine lv_aload_n hx hb d_Mod_growth_92 rfl (lv_at hl 0 rfl) ?_
  obtain ⟨_, e6, hf⟩ := x_b hf
  obtain ⟨n7, hT8⟩ := x_is_e e6
  refine x_get (C := "WallDampModel") (F := F_Mod) (N := 51) hx hb hts i_Mod hown hK hH hT8 (by decide) rfl 0 (by decide) (hts _ m_793) (fun _ h9 => h9) (kd := (0, 64)) rfl rfl d_Mod_growth_93 ?_
  refine lv_if_le (tgt := 101) hx hb d_Mod_growth_96 (by decide) (fun c9 => ?_) (fun c9 => ?_)
  · have hf := x_it hf c9
    refine lv_aload_n hx hb d_Mod_growth_101 rfl (lv_at hl 0 rfl) ?_
    obtain ⟨a10, e11, hf⟩ := x_b hf
    refine x_get (C := "WallDampModel") (F := F_Mod) (N := 51) hx hb hts i_Mod hown hK hH hT8 (by decide) rfl 28 (by decide) (hts _ m_821) (fun _ h9 => h9) (kd := (2, 92)) rfl (x_fr e11) d_Mod_growth_102 ?_
    refine lv_aload_n hx hb d_Mod_growth_105 rfl (lv_at hl 0 rfl) ?_
    refine x_get (C := "WallDampModel") (F := F_Mod) (N := 51) hx hb hts i_Mod hown hK hH hT8 (by decide) rfl 27 (by decide) (hts _ m_820) (fun _ h9 => h9) (kd := (0, 91)) rfl rfl d_Mod_growth_106 ?_
    refine lv_iload_n hx hb d_Mod_growth_109 rfl (lv_at hl 1 rfl) ?_
    obtain ⟨_, e12, hf⟩ := x_b hf
    obtain ⟨n13, hT14, hi15⟩ := x_ix_e e12
    refine x_iast hx hb hK hH hS hT14 0 rfl hi15 d_Mod_growth_110 (fun H locs hH hS => ?_)
    obtain ⟨w16, e17, hf⟩ := x_b hf
    have hH := x_nw e17 hH
    refine lv_aload_n hx hb d_Mod_growth_111 rfl (lv_at hl 0 rfl) ?_
    obtain ⟨a18, e19, hf⟩ := x_b hf
    refine x_get (C := "WallDampModel") (F := F_Mod) (N := 51) hx hb hts i_Mod hown hK hH hT8 (by decide) rfl 29 (by decide) (hts _ m_822) (fun _ h9 => h9) (kd := (2, 93)) rfl (x_fr e19) d_Mod_growth_112 ?_
    refine lv_aload_n hx hb d_Mod_growth_115 rfl (lv_at hl 0 rfl) ?_
    refine x_get (C := "WallDampModel") (F := F_Mod) (N := 51) hx hb hts i_Mod hown hK hH hT8 (by decide) rfl 27 (by decide) (hts _ m_820) (fun _ h9 => h9) (kd := (0, 91)) rfl rfl d_Mod_growth_116 ?_
    refine lv_iload_n hx hb d_Mod_growth_119 rfl (lv_at hl 2 rfl) ?_
    obtain ⟨_, e20, hf⟩ := x_b hf
    obtain ⟨n21, hT22, hi23⟩ := x_ix_e e20
    refine x_iast hx hb hK hH hS hT22 0 rfl hi23 d_Mod_growth_120 (fun H locs hH hS => ?_)
    obtain ⟨w24, e25, hf⟩ := x_b hf
    have hH := x_nw e25 hH
    refine lv_aload_n hx hb d_Mod_growth_121 rfl (lv_at hl 0 rfl) ?_
    obtain ⟨a26, e27, hf⟩ := x_b hf
    refine x_get (C := "WallDampModel") (F := F_Mod) (N := 51) hx hb hts i_Mod hown hK hH hT8 (by decide) rfl 30 (by decide) (hts _ m_823) (fun _ h9 => h9) (kd := (2, 94)) rfl (x_fr e27) d_Mod_growth_122 ?_
    refine lv_aload_n hx hb d_Mod_growth_125 rfl (lv_at hl 0 rfl) ?_
    refine x_get (C := "WallDampModel") (F := F_Mod) (N := 51) hx hb hts i_Mod hown hK hH hT8 (by decide) rfl 27 (by decide) (hts _ m_820) (fun _ h9 => h9) (kd := (0, 91)) rfl rfl d_Mod_growth_126 ?_
    refine lv_iload_n hx hb d_Mod_growth_129 rfl (lv_at hl 3 rfl) ?_
    obtain ⟨_, e28, hf⟩ := x_b hf
    obtain ⟨n29, hT30, hi31⟩ := x_ix_e e28
    refine x_iast hx hb hK hH hS hT30 0 rfl hi31 d_Mod_growth_130 (fun H locs hH hS => ?_)
    obtain ⟨w32, e33, hf⟩ := x_b hf
    have hH := x_nw e33 hH
    refine lv_aload_n hx hb d_Mod_growth_131 rfl (lv_at hl 0 rfl) ?_
    obtain ⟨a34, e35, hf⟩ := x_b hf
    refine x_get (C := "WallDampModel") (F := F_Mod) (N := 51) hx hb hts i_Mod hown hK hH hT8 (by decide) rfl 31 (by decide) (hts _ m_824) (fun _ h9 => h9) (kd := (2, 95)) rfl (x_fr e35) d_Mod_growth_132 ?_
    refine lv_aload_n hx hb d_Mod_growth_135 rfl (lv_at hl 0 rfl) ?_
    refine x_get (C := "WallDampModel") (F := F_Mod) (N := 51) hx hb hts i_Mod hown hK hH hT8 (by decide) rfl 27 (by decide) (hts _ m_820) (fun _ h9 => h9) (kd := (0, 91)) rfl rfl d_Mod_growth_136 ?_
    refine lv_iload hx hb d_Mod_growth_139 (lv_at hl 4 rfl) ?_
    obtain ⟨_, e36, hf⟩ := x_b hf
    obtain ⟨n37, hT38, hi39⟩ := x_ix_e e36
    refine x_iast hx hb hK hH hS hT38 0 rfl hi39 d_Mod_growth_141 (fun H locs hH hS => ?_)
    obtain ⟨w40, e41, hf⟩ := x_b hf
    have hH := x_nw e41 hH
    refine lv_aload_n hx hb d_Mod_growth_142 rfl (lv_at hl 0 rfl) ?_
    refine lv_dup hx hb d_Mod_growth_143 rfl ?_
    refine x_get (C := "WallDampModel") (F := F_Mod) (N := 51) hx hb hts i_Mod hown hK hH hT8 (by decide) rfl 27 (by decide) (hts _ m_820) (fun _ h9 => h9) (kd := (0, 91)) rfl rfl d_Mod_growth_144 ?_
    refine lv_iconst (v := 1) hx hb d_Mod_growth_147 (by decide) ?_
    refine lv_iadd hx hb d_Mod_growth_148 ?_
    refine x_put (C := "WallDampModel") (F := F_Mod) (N := 51) (ty := t_Mod 27) (v := .int ((x_I w40 91 l0) + (1 : Int32))) (w' := x_sI w40 91 l0 ((x_I w40 91 l0) + (1 : Int32))) hx hb hts i_Mod t_Mod ty_Mod n_Mod hown hK hH hS hT8 (by decide) rfl rfl 27 (by decide) (hts _ m_820) (fun _ h9 => h9) rfl (ty_Mod 27 (by decide)) rfl rfl (x_on_I hT8 (by decide) rfl nd_Mod) (fun j hj => x_off_I hj) (fun hh ok => x_ok_I hh ok) d_Mod_growth_149 (fun H locs hH hS => ?_)
    obtain ⟨w42, e43, hf⟩ := x_b hf
    have hH := x_nw e43 hH
    refine lv_aload_n hx hb d_Mod_growth_152 rfl (lv_at hl 0 rfl) ?_
    refine x_get (C := "WallDampModel") (F := F_Mod) (N := 51) hx hb hts i_Mod hown hK hH hT8 (by decide) rfl 27 (by decide) (hts _ m_820) (fun _ h9 => h9) (kd := (0, 91)) rfl rfl d_Mod_growth_153 ?_
    cases hf
    refine x_sz0 hS (fun hz => ?_)
    exact W.iret hx hb hr (fun t ht hW => ⟨rfl, hS.F ht, by rw [ht]; exact hz, by rw [ht]; exact hH.weaken (fun _ _ _ => trivial)⟩) hS.2.2 d_Mod_growth_156
  · have hf := x_if hf c9
    refine lv_iconst (v := 0) hx hb d_Mod_growth_99 (by decide) ?_
    cases hf
    refine x_sz0 hS (fun hz => ?_)
    exact W.iret hx hb hr (fun t ht hW => ⟨rfl, hS.F ht, by rw [ht]; exact hz, by rw [ht]; exact hH.weaken (fun _ _ _ => trivial)⟩) hS.2.2 d_Mod_growth_100
set_option maxHeartbeats 4000000 in
set_option maxRecDepth 100000 in
theorem k_Mod_growth_63 {p : Program} {l : Launch} {e : Env} {s : State} {m : MethodId} {args : Array Value} {below : List Frame} {meth : Method} {c : Code} {D : va_G} {aC : Nat → ClassId} {ad : Nat → Nat} {T : x_T} {nx : Nat} {A : Nat → Prop} {q : Int32 × x_W} (C0 : x_At p s m meth c args "WallDampModel" b_Mod_growth (some (.int)) 6 D aC A) : ∀ (w : x_W) (H : Heap) (locs : List Loc) (ls : Array Slot) (l0 : Nat) (l1 : Int32) (l2 : Int32) (l3 : Int32) (l4 : Int32) (t0 : Int32), f_Mod_growth_63 T w l0 l1 l2 l3 l4 t0 = some q → x_H D x_cl x_FT aC ad T nx A w H → va_S A s.heap H locs → lv_has ls 6 [(0, .ref (ad l0)), (1, .int l1), (2, .int l2), (3, .int l3), (4, .int l4)] → W p l e { frames := 1, cells := 0, slots := 0, locals := 25 } s m args below meth c H locs 0 0 (MQ below (x_Qc D aC ad T nx (some (.int q.1)) q.2 A) args s 0 0 A) (F0 m 63 ls [.int t0]) := by
  obtain ⟨hx, hb, hr, hml, hown, hts, hlocks, hK, hA, hX⟩ := id C0
  intro w H locs ls l0 l1 l2 l3 l4 t0 hf hH hS hl
  unfold f_Mod_growth_63 at hf
  refine lv_istore (lv' := [(5, .int t0), (0, .ref (ad l0)), (1, .int l1), (2, .int l2), (3, .int l3), (4, .int l4)]) hx hb d_Mod_growth_63 hl (by decide) rfl (fun ls hl => ?_)
  refine lv_aload_n hx hb d_Mod_growth_65 rfl (lv_at hl 1 rfl) ?_
  refine lv_iload hx hb d_Mod_growth_66 (lv_at hl 0 rfl) ?_
  refine lv_if_ne (tgt := 75) hx hb d_Mod_growth_68 (by decide) (fun c1 => ?_) (fun c1 => ?_)
  · have hf := x_if hf c1
    refine lv_aload_n hx hb d_Mod_growth_75 rfl (lv_at hl 1 rfl) ?_
    obtain ⟨_, e2, hf⟩ := x_b hf
    obtain ⟨n3, hT4⟩ := x_is_e e2
    refine x_get (C := "WallDampModel") (F := F_Mod) (N := 51) hx hb hts i_Mod hown hK hH hT4 (by decide) rfl 27 (by decide) (hts _ m_820) (fun _ h9 => h9) (kd := (0, 91)) rfl rfl d_Mod_growth_76 ?_
    refine lv_bipush (v := 6) hx hb d_Mod_growth_79 (by decide) ?_
    refine lv_icmp_ne (tgt := 88) hx hb d_Mod_growth_81 (by decide) (fun c5 => ?_) (fun c5 => ?_)
    · have hf := x_if hf c5
      refine lv_iconst (v := 0) hx hb d_Mod_growth_88 (by decide) ?_
      exact k_Mod_growth_89 C0 w _ _ _ l0 l1 l2 l3 l4 l0 (0 : Int32) hf hH hS (lv_sub hl [1, 2, 3, 4, 5] rfl)
    · have hf := x_it hf c5
      refine lv_iconst (v := 2) hx hb d_Mod_growth_84 (by decide) ?_
      refine lv_goto (tgt := 89) hx hb d_Mod_growth_85 (by decide) ?_
      exact k_Mod_growth_89 C0 w _ _ _ l0 l1 l2 l3 l4 l0 (2 : Int32) hf hH hS (lv_sub hl [1, 2, 3, 4, 5] rfl)
  · have hf := x_it hf c1
    refine lv_iconst (v := 1) hx hb d_Mod_growth_71 (by decide) ?_
    refine lv_goto (tgt := 89) hx hb d_Mod_growth_72 (by decide) ?_
    exact k_Mod_growth_89 C0 w _ _ _ l0 l1 l2 l3 l4 l0 (1 : Int32) hf hH hS (lv_sub hl [1, 2, 3, 4, 5] rfl)
set_option maxHeartbeats 4000000 in
set_option maxRecDepth 100000 in
theorem k_Mod_growth_62 {p : Program} {l : Launch} {e : Env} {s : State} {m : MethodId} {args : Array Value} {below : List Frame} {meth : Method} {c : Code} {D : va_G} {aC : Nat → ClassId} {ad : Nat → Nat} {T : x_T} {nx : Nat} {A : Nat → Prop} {q : Int32 × x_W} (C0 : x_At p s m meth c args "WallDampModel" b_Mod_growth (some (.int)) 6 D aC A) : ∀ (w : x_W) (H : Heap) (locs : List Loc) (ls : Array Slot) (l0 : Nat) (l1 : Int32) (l2 : Int32) (l3 : Int32) (l4 : Int32), f_Mod_growth_62 T w l0 l1 l2 l3 l4 = some q → x_H D x_cl x_FT aC ad T nx A w H → va_S A s.heap H locs → lv_has ls 6 [(0, .ref (ad l0)), (1, .int l1), (2, .int l2), (3, .int l3), (4, .int l4)] → W p l e { frames := 1, cells := 0, slots := 0, locals := 25 } s m args below meth c H locs 0 0 (MQ below (x_Qc D aC ad T nx (some (.int q.1)) q.2 A) args s 0 0 A) (F0 m 62 ls []) := by
  obtain ⟨hx, hb, hr, hml, hown, hts, hlocks, hK, hA, hX⟩ := id C0
  intro w H locs ls l0 l1 l2 l3 l4 hf hH hS hl
  unfold f_Mod_growth_62 at hf
  refine lv_iconst (v := 0) hx hb d_Mod_growth_62 (by decide) ?_
  exact k_Mod_growth_63 C0 w _ _ _ l0 l1 l2 l3 l4 (0 : Int32) hf hH hS (lv_sub hl [0, 1, 2, 3, 4] rfl)
set_option maxHeartbeats 4000000 in
set_option maxRecDepth 100000 in
theorem k_Mod_growth {p : Program} {l : Launch} {e : Env} {s : State} {m : MethodId} {args : Array Value} {below : List Frame} {meth : Method} {c : Code} {D : va_G} {aC : Nat → ClassId} {ad : Nat → Nat} {T : x_T} {nx : Nat} {A : Nat → Prop} {q : Int32 × x_W} (C0 : x_At p s m meth c args "WallDampModel" b_Mod_growth (some (.int)) 6 D aC A) : ∀ (w : x_W) (H : Heap) (locs : List Loc) (ls : Array Slot) (l0 : Nat) (l1 : Int32) (l2 : Int32) (l3 : Int32) (l4 : Int32), f_Mod_growth T w l0 l1 l2 l3 l4 = some q → x_H D x_cl x_FT aC ad T nx A w H → va_S A s.heap H locs → lv_has ls 6 [(0, .ref (ad l0)), (1, .int l1), (2, .int l2), (3, .int l3), (4, .int l4)] → W p l e { frames := 1, cells := 0, slots := 0, locals := 25 } s m args below meth c H locs 0 0 (MQ below (x_Qc D aC ad T nx (some (.int q.1)) q.2 A) args s 0 0 A) (F0 m 0 ls []) := by
  obtain ⟨hx, hb, hr, hml, hown, hts, hlocks, hK, hA, hX⟩ := id C0
  intro w H locs ls l0 l1 l2 l3 l4 hf hH hS hl
  unfold f_Mod_growth at hf
  refine lv_iload_n hx hb d_Mod_growth_0 rfl (lv_at hl 1 rfl) ?_
  refine lv_i2l (v := l1.toInt64) hx hb d_Mod_growth_1 rfl ?_
  refine lv_lconst (v := 0) hx hb d_Mod_growth_2 (by decide) ?_
  refine lv_ldc2 (v := (10000 : Int64)) hx hb hown (hts _ m_962) d_Mod_growth_3 ?_
  obtain ⟨q1, e2, hf⟩ := x_b hf
  refine x_callP (st1 := [.int q1]) (x_runS (As := [.long (l1.toInt64), .long (0 : Int64), .long (10000 : Int64)]) (rest := []) ⟨hx, hb, hml, hown, hts⟩ (c_Mod_in l D aC ad T nx H.size w (l1.toInt64) (0 : Int64) (10000 : Int64) q1 e2) (va_cwS 3 hts (x_gS m_958 m_959 m_13 m_960) rfl rfl rfl pd_Mod_in ⟨Nat.le_of_ble_eq_true rfl, Nat.le_of_ble_eq_true rfl⟩) hH hK hX rfl hl.1 rfl (lv_room (Nat.le_of_ble_eq_true rfl)) d_Mod_growth_6 ⟨Nat.zero_le _, Nat.zero_le _⟩) rfl ?_
  refine lv_if_eq (tgt := 62) hx hb d_Mod_growth_9 (by decide) (fun c3 => ?_) (fun c3 => ?_)
  · have hf := x_it hf c3
    exact k_Mod_growth_62 C0 w _ _ _ l0 l1 l2 l3 l4 hf hH hS (lv_sub hl [0, 1, 2, 3, 4] rfl)
  · have hf := x_if hf c3
    refine lv_iload_n hx hb d_Mod_growth_12 rfl (lv_at hl 2 rfl) ?_
    refine lv_i2l (v := l2.toInt64) hx hb d_Mod_growth_13 rfl ?_
    refine lv_ldc2 (v := (-5000 : Int64)) hx hb hown (hts _ m_984) d_Mod_growth_14 ?_
    refine lv_ldc2 (v := (10000 : Int64)) hx hb hown (hts _ m_962) d_Mod_growth_17 ?_
    obtain ⟨q4, e5, hf⟩ := x_b hf
    refine x_callP (st1 := [.int q4]) (x_runS (As := [.long (l2.toInt64), .long (-5000 : Int64), .long (10000 : Int64)]) (rest := []) ⟨hx, hb, hml, hown, hts⟩ (c_Mod_in l D aC ad T nx H.size w (l2.toInt64) (-5000 : Int64) (10000 : Int64) q4 e5) (va_cwS 3 hts (x_gS m_958 m_959 m_13 m_960) rfl rfl rfl pd_Mod_in ⟨Nat.le_of_ble_eq_true rfl, Nat.le_of_ble_eq_true rfl⟩) hH hK hX rfl hl.1 rfl (lv_room (Nat.le_of_ble_eq_true rfl)) d_Mod_growth_20 ⟨Nat.zero_le _, Nat.zero_le _⟩) rfl ?_
    refine lv_if_eq (tgt := 62) hx hb d_Mod_growth_23 (by decide) (fun c6 => ?_) (fun c6 => ?_)
    · have hf := x_it hf c6
      exact k_Mod_growth_62 C0 w _ _ _ l0 l1 l2 l3 l4 hf hH hS (lv_sub hl [0, 1, 2, 3, 4] rfl)
    · have hf := x_if hf c6
      refine lv_iload_n hx hb d_Mod_growth_26 rfl (lv_at hl 3 rfl) ?_
      refine lv_i2l (v := l3.toInt64) hx hb d_Mod_growth_27 rfl ?_
      refine lv_ldc2 (v := (-5000 : Int64)) hx hb hown (hts _ m_984) d_Mod_growth_28 ?_
      refine lv_ldc2 (v := (10000 : Int64)) hx hb hown (hts _ m_962) d_Mod_growth_31 ?_
      obtain ⟨q7, e8, hf⟩ := x_b hf
      refine x_callP (st1 := [.int q7]) (x_runS (As := [.long (l3.toInt64), .long (-5000 : Int64), .long (10000 : Int64)]) (rest := []) ⟨hx, hb, hml, hown, hts⟩ (c_Mod_in l D aC ad T nx H.size w (l3.toInt64) (-5000 : Int64) (10000 : Int64) q7 e8) (va_cwS 3 hts (x_gS m_958 m_959 m_13 m_960) rfl rfl rfl pd_Mod_in ⟨Nat.le_of_ble_eq_true rfl, Nat.le_of_ble_eq_true rfl⟩) hH hK hX rfl hl.1 rfl (lv_room (Nat.le_of_ble_eq_true rfl)) d_Mod_growth_34 ⟨Nat.zero_le _, Nat.zero_le _⟩) rfl ?_
      refine lv_if_eq (tgt := 62) hx hb d_Mod_growth_37 (by decide) (fun c9 => ?_) (fun c9 => ?_)
      · have hf := x_it hf c9
        exact k_Mod_growth_62 C0 w _ _ _ l0 l1 l2 l3 l4 hf hH hS (lv_sub hl [0, 1, 2, 3, 4] rfl)
      · have hf := x_if hf c9
        refine lv_iload_n hx hb d_Mod_growth_40 rfl (lv_at hl 2 rfl) ?_
        refine lv_iload_n hx hb d_Mod_growth_41 rfl (lv_at hl 3 rfl) ?_
        refine lv_icmp_gt (tgt := 62) hx hb d_Mod_growth_42 (by decide) (fun c10 => ?_) (fun c10 => ?_)
        · have hf := x_it hf c10
          exact k_Mod_growth_62 C0 w _ _ _ l0 l1 l2 l3 l4 hf hH hS (lv_sub hl [0, 1, 2, 3, 4] rfl)
        · have hf := x_if hf c10
          refine lv_iload hx hb d_Mod_growth_45 (lv_at hl 4 rfl) ?_
          refine lv_i2l (v := l4.toInt64) hx hb d_Mod_growth_47 rfl ?_
          refine lv_lconst (v := 1) hx hb d_Mod_growth_48 (by decide) ?_
          refine lv_ldc2 (v := (1000 : Int64)) hx hb hown (hts _ m_971) d_Mod_growth_49 ?_
          obtain ⟨q11, e12, hf⟩ := x_b hf
          refine x_callP (st1 := [.int q11]) (x_runS (As := [.long (l4.toInt64), .long (1 : Int64), .long (1000 : Int64)]) (rest := []) ⟨hx, hb, hml, hown, hts⟩ (c_Mod_in l D aC ad T nx H.size w (l4.toInt64) (1 : Int64) (1000 : Int64) q11 e12) (va_cwS 3 hts (x_gS m_958 m_959 m_13 m_960) rfl rfl rfl pd_Mod_in ⟨Nat.le_of_ble_eq_true rfl, Nat.le_of_ble_eq_true rfl⟩) hH hK hX rfl hl.1 rfl (lv_room (Nat.le_of_ble_eq_true rfl)) d_Mod_growth_52 ⟨Nat.zero_le _, Nat.zero_le _⟩) rfl ?_
          refine lv_if_eq (tgt := 62) hx hb d_Mod_growth_55 (by decide) (fun c13 => ?_) (fun c13 => ?_)
          · have hf := x_it hf c13
            exact k_Mod_growth_62 C0 w _ _ _ l0 l1 l2 l3 l4 hf hH hS (lv_sub hl [0, 1, 2, 3, 4] rfl)
          · have hf := x_if hf c13
            refine lv_iconst (v := 1) hx hb d_Mod_growth_58 (by decide) ?_
            refine lv_goto (tgt := 63) hx hb d_Mod_growth_59 (by decide) ?_
            exact k_Mod_growth_63 C0 w _ _ _ l0 l1 l2 l3 l4 (1 : Int32) hf hH hS (lv_sub hl [0, 1, 2, 3, 4] rfl)
theorem c_Mod_growth (l : Launch) (D : va_G) (aC : Nat → ClassId) (ad : Nat → Nat) (T : x_T) (nx sz : Nat) (w : x_W) (a0 : Nat) (a1 : Int32) (a2 : Int32) (a3 : Int32) (a4 : Int32) (q : Int32 × x_W) (hf : f_Mod_growth T w a0 a1 a2 a3 a4 = some q) : Met l y_Mod_growth ws_Mod_growth { frames := 1, cells := 0, slots := 0, locals := 25 } (x_Pc D aC ad T nx sz w [.ref (ad a0), .int a1, .int a2, .int a3, .int a4]) (x_Qc D aC ad T nx (some (.int q.1)) q.2 (x_dom ad nx sz)) 0 0 (x_dom ad nx sz) :=
  x_met [(0, .ref (ad a0)), (1, .int a1), (2, .int a2), (3, .int a3), (4, .int a4)] (plainFor_of_name (by decide)) rfl rfl (Nat.le_of_ble_eq_true rfl) (fun p e s m args below meth c ls C0 hH hS hl => k_Mod_growth C0 w _ _ _ a0 a1 a2 a3 a4 hf hH hS (lv_sub hl [0, 1, 2, 3, 4] rfl))
