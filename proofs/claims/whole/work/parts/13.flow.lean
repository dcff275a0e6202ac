/-! WallDamp$Flow.portion(II)I -/
def f_Flow_portion_9 (T : x_T) (w : x_W) (l0 : Nat) : Option (Int32) :=
  (x_is T l0 4).bind fun _ =>
  some (x_I w 33 l0)
def f_Flow_portion (T : x_T) (w : x_W) (l0 : Nat) (l1 : Int32) (l2 : Int32) : Option (Int32) :=
  if l1 ≤ l2 then
    (f_Flow_portion_9 T w l0)
  else
    (if 0 < l1 then
      ((x_is T l0 4).bind fun _ =>
      (x_nzl (l1.toInt64)).bind fun _ =>
      some (((((x_I w 33 l0).toInt64) * (l2.toInt64)) / (l1.toInt64)).toInt32))
    else
      (f_Flow_portion_9 T w l0))
set_option maxHeartbeats 4000000 in
set_option maxRecDepth 100000 in
theorem k_Flow_portion_9 {p : Program} {l : Launch} {e : Env} {s : State} {m : MethodId} {args : Array Value} {below : List Frame} {meth : Method} {c : Code} {D : va_G} {aC : Nat → ClassId} {ad : Nat → Nat} {T : x_T} {nx : Nat} {A : Nat → Prop} {q : Int32} (C0 : x_At p s m meth c args "WallDamp$Flow" b_Flow_portion (some (.int)) 3 D aC A) : ∀ (w : x_W) (ls : Array Slot) (l0 : Nat), f_Flow_portion_9 T w l0 = some q → x_H D x_cl x_FT aC ad T nx A w s.heap → lv_has ls 3 [(0, .ref (ad l0))] → W p l e { frames := 0, cells := 0, slots := 0, locals := 0 } s m args below meth c s.heap [] 0 0 (MQ below (x_Qp (some (.int q))) args s 0 0 (fun _ => False)) (F0 m 9 ls []) := by
  obtain ⟨hx, hb, hr, hml, hown, hts, hlocks, hK, hA, hX⟩ := id C0
  intro w ls l0 hf hH hl
  unfold f_Flow_portion_9 at hf
  refine lv_aload_n hx hb d_Flow_portion_9 rfl (lv_at hl 0 rfl) ?_
  obtain ⟨_, e1, hf⟩ := x_b hf
  obtain ⟨n2, hT3⟩ := x_is_e e1
  refine x_get (C := "WallDamp$Flow") (F := F_Flow) (N := 5) hx hb hts i_Flow hown hK hH hT3 (by decide) rfl 4 (by decide) (hts _ m_284) (fun _ h9 => h9) (kd := (0, 33)) rfl rfl d_Flow_portion_10 ?_
  cases hf
  exact W.iret hx hb hr (fun t ht hW => ⟨rfl, ht⟩) (fun _ h => by cases h) d_Flow_portion_13
set_option maxHeartbeats 4000000 in
set_option maxRecDepth 100000 in
theorem k_Flow_portion {p : Program} {l : Launch} {e : Env} {s : State} {m : MethodId} {args : Array Value} {below : List Frame} {meth : Method} {c : Code} {D : va_G} {aC : Nat → ClassId} {ad : Nat → Nat} {T : x_T} {nx : Nat} {A : Nat → Prop} {q : Int32} (C0 : x_At p s m meth c args "WallDamp$Flow" b_Flow_portion (some (.int)) 3 D aC A) : ∀ (w : x_W) (ls : Array Slot) (l0 : Nat) (l1 : Int32) (l2 : Int32), f_Flow_portion T w l0 l1 l2 = some q → x_H D x_cl x_FT aC ad T nx A w s.heap → lv_has ls 3 [(0, .ref (ad l0)), (1, .int l1), (2, .int l2)] → W p l e { frames := 0, cells := 0, slots := 0, locals := 0 } s m args below meth c s.heap [] 0 0 (MQ below (x_Qp (some (.int q))) args s 0 0 (fun _ => False)) (F0 m 0 ls []) := by
  obtain ⟨hx, hb, hr, hml, hown, hts, hlocks, hK, hA, hX⟩ := id C0
  intro w ls l0 l1 l2 hf hH hl
  unfold f_Flow_portion at hf
  refine lv_iload_n hx hb d_Flow_portion_0 rfl (lv_at hl 1 rfl) ?_
  refine lv_iload_n hx hb d_Flow_portion_1 rfl (lv_at hl 2 rfl) ?_
  refine lv_icmp_le (tgt := 9) hx hb d_Flow_portion_2 (by decide) (fun c1 => ?_) (fun c1 => ?_)
  · have hf := x_it hf c1
    exact k_Flow_portion_9 C0 w _ l0 hf hH (lv_sub hl [0] rfl)
  · have hf := x_if hf c1
    refine lv_iload_n hx hb d_Flow_portion_5 rfl (lv_at hl 1 rfl) ?_
    refine lv_if_gt (tgt := 14) hx hb d_Flow_portion_6 (by decide) (fun c2 => ?_) (fun c2 => ?_)
    · have hf := x_it hf c2
      refine lv_aload_n hx hb d_Flow_portion_14 rfl (lv_at hl 0 rfl) ?_
      obtain ⟨_, e3, hf⟩ := x_b hf
      obtain ⟨n4, hT5⟩ := x_is_e e3
      refine x_get (C := "WallDamp$Flow") (F := F_Flow) (N := 5) hx hb hts i_Flow hown hK hH hT5 (by decide) rfl 4 (by decide) (hts _ m_284) (fun _ h9 => h9) (kd := (0, 33)) rfl rfl d_Flow_portion_15 ?_
      refine lv_i2l (v := (x_I w 33 l0).toInt64) hx hb d_Flow_portion_18 rfl ?_
      refine lv_iload_n hx hb d_Flow_portion_19 rfl (lv_at hl 2 rfl) ?_
      refine lv_i2l (v := l2.toInt64) hx hb d_Flow_portion_20 rfl ?_
      refine lv_lmul hx hb d_Flow_portion_21 ?_
      refine lv_iload_n hx hb d_Flow_portion_22 rfl (lv_at hl 1 rfl) ?_
      refine lv_i2l (v := l1.toInt64) hx hb d_Flow_portion_23 rfl ?_
      obtain ⟨_, e6, hf⟩ := x_b hf
      refine lv_ldiv hx hb d_Flow_portion_24 (x_nzl_e e6) ?_
      refine lv_l2i (v := ((((x_I w 33 l0).toInt64) * (l2.toInt64)) / (l1.toInt64)).toInt32) hx hb d_Flow_portion_25 rfl ?_
      cases hf
      exact W.iret hx hb hr (fun t ht hW => ⟨rfl, ht⟩) (fun _ h => by cases h) d_Flow_portion_26
    · have hf := x_if hf c2
      exact k_Flow_portion_9 C0 w _ l0 hf hH (lv_sub hl [0] rfl)
theorem c_Flow_portion (l : Launch) (D : va_G) (aC : Nat → ClassId) (ad : Nat → Nat) (T : x_T) (nx sz : Nat) (w : x_W) (a0 : Nat) (a1 : Int32) (a2 : Int32) (q : Int32) (hf : f_Flow_portion T w a0 a1 a2 = some q) : Met l y_Flow_portion ws_Flow_portion { frames := 0, cells := 0, slots := 0, locals := 0 } (x_Pc D aC ad T nx sz w [.ref (ad a0), .int a1, .int a2]) (x_Qp (some (.int q))) 0 0 (fun _ => False) :=
  x_metP [(0, .ref (ad a0)), (1, .int a1), (2, .int a2)] (plainFor_of_name (by decide)) rfl rfl (Nat.le_of_ble_eq_true rfl) (fun p e s m args below meth c ls C0 hH hl => k_Flow_portion C0 w _ a0 a1 a2 hf hH (lv_sub hl [0, 1, 2] rfl))
/-! WallDamp$Flow.setInward(I)V -/
def f_Flow_setInward_50 (T : x_T) (w : x_W) : Option (x_W) :=
  some w
def f_Flow_setInward (T : x_T) (w : x_W) (l0 : Nat) (l1 : Int32) : Option (x_W) :=
  if l1 < 0 then
    ((x_is T l0 4).bind fun _ =>
    (x_R w 30 l0).bind fun a5 =>
    (x_ex T a5).bind fun _ =>
    (some (x_sR w 31 l0 (some a5))).bind fun w8 =>
    (x_R w8 29 l0).bind fun a10 =>
    (x_ex T a10).bind fun _ =>
    (some (x_sR w8 32 l0 (some a10))).bind fun w13 =>
    (some (x_sI w13 33 l0 (-l1))).bind fun w15 =>
    f_Flow_setInward_50 T w15)
  else
    ((x_is T l0 4).bind fun _ =>
    (x_R w 29 l0).bind fun a20 =>
    (x_ex T a20).bind fun _ =>
    (some (x_sR w 31 l0 (some a20))).bind fun w23 =>
    (x_R w23 30 l0).bind fun a25 =>
    (x_ex T a25).bind fun _ =>
    (some (x_sR w23 32 l0 (some a25))).bind fun w28 =>
    (some (x_sI w28 33 l0 l1)).bind fun w30 =>
    f_Flow_setInward_50 T w30)
set_option maxHeartbeats 4000000 in
set_option maxRecDepth 100000 in
theorem k_Flow_setInward_50 {p : Program} {l : Launch} {e : Env} {s : State} {m : MethodId} {args : Array Value} {below : List Frame} {meth : Method} {c : Code} {D : va_G} {aC : Nat → ClassId} {ad : Nat → Nat} {T : x_T} {nx : Nat} {A : Nat → Prop} {q : x_W} (C0 : x_At p s m meth c args "WallDamp$Flow" b_Flow_setInward none 2 D aC A) : ∀ (w : x_W) (H : Heap) (locs : List Loc) (ls : Array Slot), f_Flow_setInward_50 T w = some q → x_H D x_cl x_FT aC ad T nx A w H → va_S A s.heap H locs → lv_has ls 2 [] → W p l e { frames := 0, cells := 0, slots := 0, locals := 0 } s m args below meth c H locs 0 0 (MQ below (x_Qc D aC ad T nx none q A) args s 0 0 A) (F0 m 50 ls []) := by
  obtain ⟨hx, hb, hr, hml, hown, hts, hlocks, hK, hA, hX⟩ := id C0
  intro w H locs ls hf hH hS hl
  unfold f_Flow_setInward_50 at hf
  cases hf
  refine x_sz0 hS (fun hz => ?_)
  exact W.vret hx hb hr (fun t ht hW => ⟨rfl, hS.F ht, by rw [ht]; exact hz, by rw [ht]; exact hH.weaken (fun _ _ _ => trivial)⟩) hS.2.2 d_Flow_setInward_50
set_option maxHeartbeats 4000000 in
set_option maxRecDepth 100000 in
theorem k_Flow_setInward {p : Program} {l : Launch} {e : Env} {s : State} {m : MethodId} {args : Array Value} {below : List Frame} {meth : Method} {c : Code} {D : va_G} {aC : Nat → ClassId} {ad : Nat → Nat} {T : x_T} {nx : Nat} {A : Nat → Prop} {q : x_W} (C0 : x_At p s m meth c args "WallDamp$Flow" b_Flow_setInward none 2 D aC A) : ∀ (w : x_W) (H : Heap) (locs : List Loc) (ls : Array Slot) (l0 : Nat) (l1 : Int32), f_Flow_setInward T w l0 l1 = some q → x_H D x_cl x_FT aC ad T nx A w H → va_S A s.heap H locs → lv_has ls 2 [(0, .ref (ad l0)), (1, .int l1)] → W p l e { frames := 0, cells := 0, slots := 0, locals := 0 } s m args below meth c H locs 0 0 (MQ below (x_Qc D aC ad T nx none q A) args s 0 0 A) (F0 m 0 ls []) := by
  obtain ⟨hx, hb, hr, hml, hown, hts, hlocks, hK, hA, hX⟩ := id C0
  intro w H locs ls l0 l1 hf hH hS hl
  unfold f_Flow_setInward at hf
  refine lv_iload_n hx hb d_Flow_setInward_0 rfl (lv_at hl 1 rfl) ?_
  refine lv_if_lt (tgt := 28) hx hb d_Flow_setInward_1 (by decide) (fun c1 => ?_) (fun c1 => ?_)
  · have hf := x_it hf c1
    refine lv_aload_n hx hb d_Flow_setInward_28 rfl (lv_at hl 0 rfl) ?_
    refine lv_aload_n hx hb d_Flow_setInward_29 rfl (lv_at hl 0 rfl) ?_
    obtain ⟨_, e2, hf⟩ := x_b hf
    obtain ⟨n3, hT4⟩ := x_is_e e2
    obtain ⟨a5, e6, hf⟩ := x_b hf
    refine x_get (C := "WallDamp$Flow") (F := F_Flow) (N := 5) hx hb hts i_Flow hown hK hH hT4 (by decide) rfl 1 (by decide) (hts _ m_281) (fun _ h9 => h9) (kd := (2, 30)) rfl (x_fr e6) d_Flow_setInward_30 ?_
    obtain ⟨_, e7, hf⟩ := x_b hf
    refine x_put (C := "WallDamp$Flow") (F := F_Flow) (N := 5) (ty := t_Flow 2) (v := .ref (ad a5)) (w' := x_sR w 31 l0 (some a5)) hx hb hts i_Flow t_Flow ty_Flow n_Flow hown hK hH hS hT4 (by decide) rfl rfl 2 (by decide) (hts _ m_282) (fun _ h9 => h9) rfl (ty_Flow 2 (by decide)) rfl rfl (x_on_R (v := some a5) hT4 (by decide) rfl nd_Flow k3_Flow) (fun j hj => x_off_R hj) (fun hh => x_ok_R hh (x_ex_lt e7 hH)) d_Flow_setInward_33 (fun H locs hH hS => ?_)
    obtain ⟨w8, e9, hf⟩ := x_b hf
    have hH := x_nw e9 hH
    refine lv_aload_n hx hb d_Flow_setInward_36 rfl (lv_at hl 0 rfl) ?_
    refine lv_aload_n hx hb d_Flow_setInward_37 rfl (lv_at hl 0 rfl) ?_
    obtain ⟨a10, e11, hf⟩ := x_b hf
    refine x_get (C := "WallDamp$Flow") (F := F_Flow) (N := 5) hx hb hts i_Flow hown hK hH hT4 (by decide) rfl 0 (by decide) (hts _ m_280) (fun _ h9 => h9) (kd := (2, 29)) rfl (x_fr e11) d_Flow_setInward_38 ?_
    obtain ⟨_, e12, hf⟩ := x_b hf
    refine x_put (C := "WallDamp$Flow") (F := F_Flow) (N := 5) (ty := t_Flow 3) (v := .ref (ad a10)) (w' := x_sR w8 32 l0 (some a10)) hx hb hts i_Flow t_Flow ty_Flow n_Flow hown hK hH hS hT4 (by decide) rfl rfl 3 (by decide) (hts _ m_283) (fun _ h9 => h9) rfl (ty_Flow 3 (by decide)) rfl rfl (x_on_R (v := some a10) hT4 (by decide) rfl nd_Flow k3_Flow) (fun j hj => x_off_R hj) (fun hh => x_ok_R hh (x_ex_lt e12 hH)) d_Flow_setInward_41 (fun H locs hH hS => ?_)
    obtain ⟨w13, e14, hf⟩ := x_b hf
    have hH := x_nw e14 hH
    refine lv_aload_n hx hb d_Flow_setInward_44 rfl (lv_at hl 0 rfl) ?_
    refine lv_iload_n hx hb d_Flow_setInward_45 rfl (lv_at hl 1 rfl) ?_
    refine lv_ineg hx hb d_Flow_setInward_46 ?_
    refine x_put (C := "WallDamp$Flow") (F := F_Flow) (N := 5) (ty := t_Flow 4) (v := .int (-l1)) (w' := x_sI w13 33 l0 (-l1)) hx hb hts i_Flow t_Flow ty_Flow n_Flow hown hK hH hS hT4 (by decide) rfl rfl 4 (by decide) (hts _ m_284) (fun _ h9 => h9) rfl (ty_Flow 4 (by decide)) rfl rfl (x_on_I hT4 (by decide) rfl nd_Flow) (fun j hj => x_off_I hj) (fun hh ok => x_ok_I hh ok) d_Flow_setInward_47 (fun H locs hH hS => ?_)
    obtain ⟨w15, e16, hf⟩ := x_b hf
    have hH := x_nw e16 hH
    exact k_Flow_setInward_50 C0 w15 _ _ _ hf hH hS (lv_sub hl [] rfl)
  · have hf := x_if hf c1
    refine lv_aload_n hx hb d_Flow_setInward_4 rfl (lv_at hl 0 rfl) ?_
    refine lv_aload_n hx hb d_Flow_setInward_5 rfl (lv_at hl 0 rfl) ?_
    obtain ⟨_, e17, hf⟩ := x_b hf
    obtain ⟨n18, hT19⟩ := x_is_e e17
    obtain ⟨a20, e21, hf⟩ := x_b hf
    refine x_get (C := "WallDamp$Flow") (F := F_Flow) (N := 5) hx hb hts i_Flow hown hK hH hT19 (by decide) rfl 0 (by decide) (hts _ m_280) (fun _ h9 => h9) (kd := (2, 29)) rfl (x_fr e21) d_Flow_setInward_6 ?_
    obtain ⟨_, e22, hf⟩ := x_b hf
    refine x_put (C := "WallDamp$Flow") (F := F_Flow) (N := 5) (ty := t_Flow 2) (v := .ref (ad a20)) (w' := x_sR w 31 l0 (some a20)) hx hb hts i_Flow t_Flow ty_Flow n_Flow hown hK hH hS hT19 (by decide) rfl rfl 2 (by decide) (hts _ m_282) (fun _ h9 => h9) rfl (ty_Flow 2 (by decide)) rfl rfl (x_on_R (v := some a20) hT19 (by decide) rfl nd_Flow k3_Flow) (fun j hj => x_off_R hj) (fun hh => x_ok_R hh (x_ex_lt e22 hH)) d_Flow_setInward_9 (fun H locs hH hS => ?_)
    obtain ⟨w23, e24, hf⟩ := x_b hf
    have hH := x_nw e24 hH
    refine lv_aload_n hx hb d_Flow_setInward_12 rfl (lv_at hl 0 rfl) ?_
    refine lv_aload_n hx hb d_Flow_setInward_13 rfl (lv_at hl 0 rfl) ?_
    obtain ⟨a25, e26, hf⟩ := x_b hf
    refine x_get (C := "WallDamp$Flow") (F := F_Flow) (N := 5) hx hb hts i_Flow hown hK hH hT19 (by decide) rfl 1 (by decide) (hts _ m_281) (fun _ h9 => h9) (kd := (2, 30)) rfl (x_fr e26) d_Flow_setInward_14 ?_
    obtain ⟨_, e27, hf⟩ := x_b hf
    refine x_put (C := "WallDamp$Flow") (F := F_Flow) (N := 5) (ty := t_Flow 3) (v := .ref (ad a25)) (w' := x_sR w23 32 l0 (some a25)) hx hb hts i_Flow t_Flow ty_Flow n_Flow hown hK hH hS hT19 (by decide) rfl rfl 3 (by decide) (hts _ m_283) (fun _ h9 => h9) rfl (ty_Flow 3 (by decide)) rfl rfl (x_on_R (v := some a25) hT19 (by decide) rfl nd_Flow k3_Flow) (fun j hj => x_off_R hj) (fun hh => x_ok_R hh (x_ex_lt e27 hH)) d_Flow_setInward_17 (fun H locs hH hS => ?_)
    obtain ⟨w28, e29, hf⟩ := x_b hf
    have hH := x_nw e29 hH
    refine lv_aload_n hx hb d_Flow_setInward_20 rfl (lv_at hl 0 rfl) ?_
    refine lv_iload_n hx hb d_Flow_setInward_21 rfl (lv_at hl 1 rfl) ?_
    refine x_put (C := "WallDamp$Flow") (F := F_Flow) (N := 5) (ty := t_Flow 4) (v := .int l1) (w' := x_sI w28 33 l0 l1) hx hb hts i_Flow t_Flow ty_Flow n_Flow hown hK hH hS hT19 (by decide) rfl rfl 4 (by decide) (hts _ m_284) (fun _ h9 => h9) rfl (ty_Flow 4 (by decide)) rfl rfl (x_on_I hT19 (by decide) rfl nd_Flow) (fun j hj => x_off_I hj) (fun hh ok => x_ok_I hh ok) d_Flow_setInward_22 (fun H locs hH hS => ?_)
    obtain ⟨w30, e31, hf⟩ := x_b hf
    have hH := x_nw e31 hH
    refine lv_goto (tgt := 50) hx hb d_Flow_setInward_25 (by decide) ?_
    exact k_Flow_setInward_50 C0 w30 _ _ _ hf hH hS (lv_sub hl [] rfl)
theorem c_Flow_setInward (l : Launch) (D : va_G) (aC : Nat → ClassId) (ad : Nat → Nat) (T : x_T) (nx sz : Nat) (w : x_W) (a0 : Nat) (a1 : Int32) (q : x_W) (hf : f_Flow_setInward T w a0 a1 = some q) : Met l y_Flow_setInward ws_Flow_setInward { frames := 0, cells := 0, slots := 0, locals := 0 } (x_Pc D aC ad T nx sz w [.ref (ad a0), .int a1]) (x_Qc D aC ad T nx none q (x_dom ad nx sz)) 0 0 (x_dom ad nx sz) :=
  x_met [(0, .ref (ad a0)), (1, .int a1)] (plainFor_of_name (by decide)) rfl rfl (Nat.le_of_ble_eq_true rfl) (fun p e s m args below meth c ls C0 hH hS hl => k_Flow_setInward C0 w _ _ _ a0 a1 hf hH hS (lv_sub hl [0, 1] rfl))
/-! WallDamp$Flow.countLeaving()V -/
def f_Flow_countLeaving (T : x_T) (w : x_W) (l0 : Nat) : Option (x_W) :=
  (x_is T l0 4).bind fun _ =>
  (x_R w 31 l0).bind fun a4 =>
  (x_pl T a4).bind fun _ =>
  (some (x_sI w 5 a4 ((x_I w 5 a4) + (x_I w 33 l0)))).bind fun w8 =>
  some w8
set_option maxHeartbeats 4000000 in
set_option maxRecDepth 100000 in
theorem k_Flow_countLeaving {p : Program} {l : Launch} {e : Env} {s : State} {m : MethodId} {args : Array Value} {below : List Frame} {meth : Method} {c : Code} {D : va_G} {aC : Nat → ClassId} {ad : Nat → Nat} {T : x_T} {nx : Nat} {A : Nat → Prop} {q : x_W} (C0 : x_At p s m meth c args "WallDamp$Flow" b_Flow_countLeaving none 1 D aC A) : ∀ (w : x_W) (H : Heap) (locs : List Loc) (ls : Array Slot) (l0 : Nat), f_Flow_countLeaving T w l0 = some q → x_H D x_cl x_FT aC ad T nx A w H → va_S A s.heap H locs → lv_has ls 1 [(0, .ref (ad l0))] → W p l e { frames := 0, cells := 0, slots := 0, locals := 0 } s m args below meth c H locs 0 0 (MQ below (x_Qc D aC ad T nx none q A) args s 0 0 A) (F0 m 0 ls []) := by
  obtain ⟨hx, hb, hr, hml, hown, hts, hlocks, hK, hA, hX⟩ := id C0
  intro w H locs ls l0 hf hH hS hl
  unfold f_Flow_countLeaving at hf
  refine lv_aload_n hx hb d_Flow_countLeaving_0 rfl (lv_at hl 0 rfl) ?_
  obtain ⟨_, e1, hf⟩ := x_b hf
  obtain ⟨n2, hT3⟩ := x_is_e e1
  obtain ⟨a4, e5, hf⟩ := x_b hf
  refine x_get (C := "WallDamp$Flow") (F := F_Flow) (N := 5) hx hb hts i_Flow hown hK hH hT3 (by decide) rfl 2 (by decide) (hts _ m_282) (fun _ h9 => h9) (kd := (2, 31)) rfl (x_fr e5) d_Flow_countLeaving_1 ?_
  refine lv_dup hx hb d_Flow_countLeaving_4 rfl ?_
  obtain ⟨_, e6, hf⟩ := x_b hf
  have hT7 := x_pl_e e6
  refine x_getP hx hb hts hown hK hH hT7 5 (by decide) rfl (hts _ m_201) (kd := (0, 5)) rfl rfl rfl d_Flow_countLeaving_5 ?_
  refine lv_aload_n hx hb d_Flow_countLeaving_8 rfl (lv_at hl 0 rfl) ?_
  refine x_get (C := "WallDamp$Flow") (F := F_Flow) (N := 5) hx hb hts i_Flow hown hK hH hT3 (by decide) rfl 4 (by decide) (hts _ m_284) (fun _ h9 => h9) (kd := (0, 33)) rfl rfl d_Flow_countLeaving_9 ?_
  refine lv_iadd hx hb d_Flow_countLeaving_12 ?_
  refine x_putPI (v := ((x_I w 5 a4) + (x_I w 33 l0))) hx hb hts hown hK hH hS hT7 5 (by decide) rfl (hts _ m_201) (j := 5) rfl rfl rfl rfl d_Flow_countLeaving_13 (fun H locs hH hS => ?_)
  obtain ⟨w8, e9, hf⟩ := x_b hf
  have hH := x_nw e9 hH
  cases hf
  refine x_sz0 hS (fun hz => ?_)
  exact W.vret hx hb hr (fun t ht hW => ⟨rfl, hS.F ht, by rw [ht]; exact hz, by rw [ht]; exact hH.weaken (fun _ _ _ => trivial)⟩) hS.2.2 d_Flow_countLeaving_16
theorem c_Flow_countLeaving (l : Launch) (D : va_G) (aC : Nat → ClassId) (ad : Nat → Nat) (T : x_T) (nx sz : Nat) (w : x_W) (a0 : Nat) (q : x_W) (hf : f_Flow_countLeaving T w a0 = some q) : Met l y_Flow_countLeaving ws_Flow_countLeaving { frames := 0, cells := 0, slots := 0, locals := 0 } (x_Pc D aC ad T nx sz w [.ref (ad a0)]) (x_Qc D aC ad T nx none q (x_dom ad nx sz)) 0 0 (x_dom ad nx sz) :=
  x_met [(0, .ref (ad a0))] (plainFor_of_name (by decide)) rfl rfl (Nat.le_of_ble_eq_true rfl) (fun p e s m args below meth c ls C0 hH hS hl => k_Flow_countLeaving C0 w _ _ _ a0 hf hH hS (lv_sub hl [0] rfl))
/-! WallDamp$Flow.limitLeaving()V -/
def f_Flow_limitLeaving (T : x_T) (w : x_W) (l0 : Nat) : Option (x_W) :=
  (x_is T l0 4).bind fun _ =>
  (x_R w 31 l0).bind fun a4 =>
  (x_pl T a4).bind fun _ =>
  (x_R w 31 l0).bind fun a8 =>
  (x_pl T a8).bind fun _ =>
  (f_Flow_portion T w l0 (x_I w 5 a4) (x_I w 3 a8)).bind fun q12 =>
  (some (x_sI w 33 l0 q12)).bind fun w14 =>
  some w14
set_option maxHeartbeats 4000000 in
set_option maxRecDepth 100000 in
theorem k_Flow_limitLeaving {p : Program} {l : Launch} {e : Env} {s : State} {m : MethodId} {args : Array Value} {below : List Frame} {meth : Method} {c : Code} {D : va_G} {aC : Nat → ClassId} {ad : Nat → Nat} {T : x_T} {nx : Nat} {A : Nat → Prop} {q : x_W} (C0 : x_At p s m meth c args "WallDamp$Flow" b_Flow_limitLeaving none 1 D aC A) : ∀ (w : x_W) (H : Heap) (locs : List Loc) (ls : Array Slot) (l0 : Nat), f_Flow_limitLeaving T w l0 = some q → x_H D x_cl x_FT aC ad T nx A w H → va_S A s.heap H locs → lv_has ls 1 [(0, .ref (ad l0))] → W p l e { frames := 1, cells := 0, slots := 0, locals := 22 } s m args below meth c H locs 0 0 (MQ below (x_Qc D aC ad T nx none q A) args s 0 0 A) (F0 m 0 ls []) := by
  obtain ⟨hx, hb, hr, hml, hown, hts, hlocks, hK, hA, hX⟩ := id C0
  intro w H locs ls l0 hf hH hS hl
  unfold f_Flow_limitLeaving at hf
  refine lv_aload_n hx hb d_Flow_limitLeaving_0 rfl (lv_at hl 0 rfl) ?_
  refine lv_aload_n hx hb d_Flow_limitLeaving_1 rfl (lv_at hl 0 rfl) ?_
  refine lv_aload_n hx hb d_Flow_limitLeaving_2 rfl (lv_at hl 0 rfl) ?_
  obtain ⟨_, e1, hf⟩ := x_b hf
  obtain ⟨n2, hT3⟩ := x_is_e e1
  obtain ⟨a4, e5, hf⟩ := x_b hf
  refine x_get (C := "WallDamp$Flow") (F := F_Flow) (N := 5) hx hb hts i_Flow hown hK hH hT3 (by decide) rfl 2 (by decide) (hts _ m_282) (fun _ h9 => h9) (kd := (2, 31)) rfl (x_fr e5) d_Flow_limitLeaving_3 ?_
  obtain ⟨_, e6, hf⟩ := x_b hf
  have hT7 := x_pl_e e6
  refine x_getP hx hb hts hown hK hH hT7 5 (by decide) rfl (hts _ m_201) (kd := (0, 5)) rfl rfl rfl d_Flow_limitLeaving_6 ?_
  refine lv_aload_n hx hb d_Flow_limitLeaving_9 rfl (lv_at hl 0 rfl) ?_
  obtain ⟨a8, e9, hf⟩ := x_b hf
  refine x_get (C := "WallDamp$Flow") (F := F_Flow) (N := 5) hx hb hts i_Flow hown hK hH hT3 (by decide) rfl 2 (by decide) (hts _ m_282) (fun _ h9 => h9) (kd := (2, 31)) rfl (x_fr e9) d_Flow_limitLeaving_10 ?_
  obtain ⟨_, e10, hf⟩ := x_b hf
  have hT11 := x_pl_e e10
  refine x_getP hx hb hts hown hK hH hT11 3 (by decide) rfl (hts _ m_198) (kd := (0, 3)) rfl rfl rfl d_Flow_limitLeaving_13 ?_
  obtain ⟨q12, e13, hf⟩ := x_b hf
  refine x_callP (st1 := [.int q12, .ref (ad l0)]) (x_runV (As := [.int (x_I w 5 a4), .int (x_I w 3 a8)]) (rest := [.ref (ad l0)]) ⟨hx, hb, hml, hown, hts⟩ (c_Flow_portion l D aC ad T nx H.size w l0 (x_I w 5 a4) (x_I w 3 a8) q12 e13) (cwV 2 hts (x_gV m_680 m_682 ms_9 m_11 m_683) rfl rfl rfl ⟨rfl, pd_Flow_portion⟩ ⟨Nat.le_of_ble_eq_true rfl, Nat.le_of_ble_eq_true rfl⟩) hH hK hX hT3 (by decide) rfl rfl rfl hl.1 rfl (lv_room (Nat.le_of_ble_eq_true rfl)) d_Flow_limitLeaving_16 ⟨Nat.zero_le _, Nat.zero_le _⟩) rfl ?_
  refine x_put (C := "WallDamp$Flow") (F := F_Flow) (N := 5) (ty := t_Flow 4) (v := .int q12) (w' := x_sI w 33 l0 q12) hx hb hts i_Flow t_Flow ty_Flow n_Flow hown hK hH hS hT3 (by decide) rfl rfl 4 (by decide) (hts _ m_284) (fun _ h9 => h9) rfl (ty_Flow 4 (by decide)) rfl rfl (x_on_I hT3 (by decide) rfl nd_Flow) (fun j hj => x_off_I hj) (fun hh ok => x_ok_I hh ok) d_Flow_limitLeaving_19 (fun H locs hH hS => ?_)
  obtain ⟨w14, e15, hf⟩ := x_b hf
  have hH := x_nw e15 hH
  cases hf
  refine x_sz0 hS (fun hz => ?_)
  exact W.vret hx hb hr (fun t ht hW => ⟨rfl, hS.F ht, by rw [ht]; exact hz, by rw [ht]; exact hH.weaken (fun _ _ _ => trivial)⟩) hS.2.2 d_Flow_limitLeaving_22
theorem c_Flow_limitLeaving (l : Launch) (D : va_G) (aC : Nat → ClassId) (ad : Nat → Nat) (T : x_T) (nx sz : Nat) (w : x_W) (a0 : Nat) (q : x_W) (hf : f_Flow_limitLeaving T w a0 = some q) : Met l y_Flow_limitLeaving ws_Flow_limitLeaving { frames := 1, cells := 0, slots := 0, locals := 22 } (x_Pc D aC ad T nx sz w [.ref (ad a0)]) (x_Qc D aC ad T nx none q (x_dom ad nx sz)) 0 0 (x_dom ad nx sz) :=
  x_met [(0, .ref (ad a0))] (plainFor_of_name (by decide)) rfl rfl (Nat.le_of_ble_eq_true rfl) (fun p e s m args below meth c ls C0 hH hS hl => k_Flow_limitLeaving C0 w _ _ _ a0 hf hH hS (lv_sub hl [0] rfl))
/-! WallDamp$Flow.countComing()V -/
def f_Flow_countComing (T : x_T) (w : x_W) (l0 : Nat) : Option (x_W) :=
  (x_is T l0 4).bind fun _ =>
  (x_R w 32 l0).bind fun a4 =>
  (x_pl T a4).bind fun _ =>
  (some (x_sI w 6 a4 ((x_I w 6 a4) + (x_I w 33 l0)))).bind fun w8 =>
  some w8
set_option maxHeartbeats 4000000 in
set_option maxRecDepth 100000 in
theorem k_Flow_countComing {p : Program} {l : Launch} {e : Env} {s : State} {m : MethodId} {args : Array Value} {below : List Frame} {meth : Method} {c : Code} {D : va_G} {aC : Nat → ClassId} {ad : Nat → Nat} {T : x_T} {nx : Nat} {A : Nat → Prop} {q : x_W} (C0 : x_At p s m meth c args "WallDamp$Flow" b_Flow_countComing none 1 D aC A) : ∀ (w : x_W) (H : Heap) (locs : List Loc) (ls : Array Slot) (l0 : Nat), f_Flow_countComing T w l0 = some q → x_H D x_cl x_FT aC ad T nx A w H → va_S A s.heap H locs → lv_has ls 1 [(0, .ref (ad l0))] → W p l e { frames := 0, cells := 0, slots := 0, locals := 0 } s m args below meth c H locs 0 0 (MQ below (x_Qc D aC ad T nx none q A) args s 0 0 A) (F0 m 0 ls []) := by
  obtain ⟨hx, hb, hr, hml, hown, hts, hlocks, hK, hA, hX⟩ := id C0
  intro w H locs ls l0 hf hH hS hl
  unfold f_Flow_countComing at hf
  refine lv_aload_n hx hb d_Flow_countComing_0 rfl (lv_at hl 0 rfl) ?_
  obtain ⟨_, e1, hf⟩ := x_b hf
  obtain ⟨n2, hT3⟩ := x_is_e e1
  obtain ⟨a4, e5, hf⟩ := x_b hf
  refine x_get (C := "WallDamp$Flow") (F := F_Flow) (N := 5) hx hb hts i_Flow hown hK hH hT3 (by decide) rfl 3 (by decide) (hts _ m_283) (fun _ h9 => h9) (kd := (2, 32)) rfl (x_fr e5) d_Flow_countComing_1 ?_
  refine lv_dup hx hb d_Flow_countComing_4 rfl ?_
  obtain ⟨_, e6, hf⟩ := x_b hf
  have hT7 := x_pl_e e6
  refine x_getP hx hb hts hown hK hH hT7 6 (by decide) rfl (hts _ m_204) (kd := (0, 6)) rfl rfl rfl d_Flow_countComing_5 ?_
  refine lv_aload_n hx hb d_Flow_countComing_8 rfl (lv_at hl 0 rfl) ?_
  refine x_get (C := "WallDamp$Flow") (F := F_Flow) (N := 5) hx hb hts i_Flow hown hK hH hT3 (by decide) rfl 4 (by decide) (hts _ m_284) (fun _ h9 => h9) (kd := (0, 33)) rfl rfl d_Flow_countComing_9 ?_
  refine lv_iadd hx hb d_Flow_countComing_12 ?_
  refine x_putPI (v := ((x_I w 6 a4) + (x_I w 33 l0))) hx hb hts hown hK hH hS hT7 6 (by decide) rfl (hts _ m_204) (j := 6) rfl rfl rfl rfl d_Flow_countComing_13 (fun H locs hH hS => ?_)
  obtain ⟨w8, e9, hf⟩ := x_b hf
  have hH := x_nw e9 hH
  cases hf
  refine x_sz0 hS (fun hz => ?_)
  exact W.vret hx hb hr (fun t ht hW => ⟨rfl, hS.F ht, by rw [ht]; exact hz, by rw [ht]; exact hH.weaken (fun _ _ _ => trivial)⟩) hS.2.2 d_Flow_countComing_16
theorem c_Flow_countComing (l : Launch) (D : va_G) (aC : Nat → ClassId) (ad : Nat → Nat) (T : x_T) (nx sz : Nat) (w : x_W) (a0 : Nat) (q : x_W) (hf : f_Flow_countComing T w a0 = some q) : Met l y_Flow_countComing ws_Flow_countComing { frames := 0, cells := 0, slots := 0, locals := 0 } (x_Pc D aC ad T nx sz w [.ref (ad a0)]) (x_Qc D aC ad T nx none q (x_dom ad nx sz)) 0 0 (x_dom ad nx sz) :=
  x_met [(0, .ref (ad a0))] (plainFor_of_name (by decide)) rfl rfl (Nat.le_of_ble_eq_true rfl) (fun p e s m args below meth c ls C0 hH hS hl => k_Flow_countComing C0 w _ _ _ a0 hf hH hS (lv_sub hl [0] rfl))
/-! WallDamp$Flow.limitComing()V -/
def f_Flow_limitComing (T : x_T) (w : x_W) (l0 : Nat) : Option (x_W) :=
  (x_is T l0 4).bind fun _ =>
  (x_R w 32 l0).bind fun a4 =>
  (x_pl T a4).bind fun _ =>
  (x_R w 32 l0).bind fun a8 =>
  (x_pl T a8).bind fun _ =>
  (f_Flow_portion T w l0 (x_I w 6 a4) (x_I w 4 a8)).bind fun q12 =>
  (some (x_sI w 33 l0 q12)).bind fun w14 =>
  some w14
set_option maxHeartbeats 4000000 in
set_option maxRecDepth 100000 in
theorem k_Flow_limitComing {p : Program} {l : Launch} {e : Env} {s : State} {m : MethodId} {args : Array Value} {below : List Frame} {meth : Method} {c : Code} {D : va_G} {aC : Nat → ClassId} {ad : Nat → Nat} {T : x_T} {nx : Nat} {A : Nat → Prop} {q : x_W} (C0 : x_At p s m meth c args "WallDamp$Flow" b_Flow_limitComing none 1 D aC A) : ∀ (w : x_W) (H : Heap) (locs : List Loc) (ls : Array Slot) (l0 : Nat), f_Flow_limitComing T w l0 = some q → x_H D x_cl x_FT aC ad T nx A w H → va_S A s.heap H locs → lv_has ls 1 [(0, .ref (ad l0))] → W p l e { frames := 1, cells := 0, slots := 0, locals := 22 } s m args below meth c H locs 0 0 (MQ below (x_Qc D aC ad T nx none q A) args s 0 0 A) (F0 m 0 ls []) := by
  obtain ⟨hx, hb, hr, hml, hown, hts, hlocks, hK, hA, hX⟩ := id C0
  intro w H locs ls l0 hf hH hS hl
  unfold f_Flow_limitComing at hf
  refine lv_aload_n hx hb d_Flow_limitComing_0 rfl (lv_at hl 0 rfl) ?_
  refine lv_aload_n hx hb d_Flow_limitComing_1 rfl (lv_at hl 0 rfl) ?_
  refine lv_aload_n hx hb d_Flow_limitComing_2 rfl (lv_at hl 0 rfl) ?_
  obtain ⟨_, e1, hf⟩ := x_b hf
  obtain ⟨n2, hT3⟩ := x_is_e e1
  obtain ⟨a4, e5, hf⟩ := x_b hf
  refine x_get (C := "WallDamp$Flow") (F := F_Flow) (N := 5) hx hb hts i_Flow hown hK hH hT3 (by decide) rfl 3 (by decide) (hts _ m_283) (fun _ h9 => h9) (kd := (2, 32)) rfl (x_fr e5) d_Flow_limitComing_3 ?_
  obtain ⟨_, e6, hf⟩ := x_b hf
  have hT7 := x_pl_e e6
  refine x_getP hx hb hts hown hK hH hT7 6 (by decide) rfl (hts _ m_204) (kd := (0, 6)) rfl rfl rfl d_Flow_limitComing_6 ?_
  refine lv_aload_n hx hb d_Flow_limitComing_9 rfl (lv_at hl 0 rfl) ?_
  obtain ⟨a8, e9, hf⟩ := x_b hf
  refine x_get (C := "WallDamp$Flow") (F := F_Flow) (N := 5) hx hb hts i_Flow hown hK hH hT3 (by decide) rfl 3 (by decide) (hts _ m_283) (fun _ h9 => h9) (kd := (2, 32)) rfl (x_fr e9) d_Flow_limitComing_10 ?_
  obtain ⟨_, e10, hf⟩ := x_b hf
  have hT11 := x_pl_e e10
  refine x_getP hx hb hts hown hK hH hT11 4 (by decide) rfl (hts _ m_200) (kd := (0, 4)) rfl rfl rfl d_Flow_limitComing_13 ?_
  obtain ⟨q12, e13, hf⟩ := x_b hf
  refine x_callP (st1 := [.int q12, .ref (ad l0)]) (x_runV (As := [.int (x_I w 6 a4), .int (x_I w 4 a8)]) (rest := [.ref (ad l0)]) ⟨hx, hb, hml, hown, hts⟩ (c_Flow_portion l D aC ad T nx H.size w l0 (x_I w 6 a4) (x_I w 4 a8) q12 e13) (cwV 2 hts (x_gV m_680 m_682 ms_9 m_11 m_683) rfl rfl rfl ⟨rfl, pd_Flow_portion⟩ ⟨Nat.le_of_ble_eq_true rfl, Nat.le_of_ble_eq_true rfl⟩) hH hK hX hT3 (by decide) rfl rfl rfl hl.1 rfl (lv_room (Nat.le_of_ble_eq_true rfl)) d_Flow_limitComing_16 ⟨Nat.zero_le _, Nat.zero_le _⟩) rfl ?_
  refine x_put (C := "WallDamp$Flow") (F := F_Flow) (N := 5) (ty := t_Flow 4) (v := .int q12) (w' := x_sI w 33 l0 q12) hx hb hts i_Flow t_Flow ty_Flow n_Flow hown hK hH hS hT3 (by decide) rfl rfl 4 (by decide) (hts _ m_284) (fun _ h9 => h9) rfl (ty_Flow 4 (by decide)) rfl rfl (x_on_I hT3 (by decide) rfl nd_Flow) (fun j hj => x_off_I hj) (fun hh ok => x_ok_I hh ok) d_Flow_limitComing_19 (fun H locs hH hS => ?_)
  obtain ⟨w14, e15, hf⟩ := x_b hf
  have hH := x_nw e15 hH
  cases hf
  refine x_sz0 hS (fun hz => ?_)
  exact W.vret hx hb hr (fun t ht hW => ⟨rfl, hS.F ht, by rw [ht]; exact hz, by rw [ht]; exact hH.weaken (fun _ _ _ => trivial)⟩) hS.2.2 d_Flow_limitComing_22
theorem c_Flow_limitComing (l : Launch) (D : va_G) (aC : Nat → ClassId) (ad : Nat → Nat) (T : x_T) (nx sz : Nat) (w : x_W) (a0 : Nat) (q : x_W) (hf : f_Flow_limitComing T w a0 = some q) : Met l y_Flow_limitComing ws_Flow_limitComing { frames := 1, cells := 0, slots := 0, locals := 22 } (x_Pc D aC ad T nx sz w [.ref (ad a0)]) (x_Qc D aC ad T nx none q (x_dom ad nx sz)) 0 0 (x_dom ad nx sz) :=
  x_met [(0, .ref (ad a0))] (plainFor_of_name (by decide)) rfl rfl (Nat.le_of_ble_eq_true rfl) (fun p e s m args below meth c ls C0 hH hS hl => k_Flow_limitComing C0 w _ _ _ a0 hf hH hS (lv_sub hl [0] rfl))
/-! WallDamp$Flow.move()V -/
def f_Flow_move (T : x_T) (w : x_W) (l0 : Nat) : Option (x_W) :=
  (x_is T l0 4).bind fun _ =>
  (x_R w 31 l0).bind fun a4 =>
  if (T a4).map Prod.fst = some 1 then
    ((f_Air_give T w a4 (x_I w 33 l0)).bind fun q12 =>
    (x_R q12 32 l0).bind fun a14 =>
    if (T a14).map Prod.fst = some 1 then
      ((f_Air_take T q12 a14 (x_I q12 33 l0)).bind fun q22 =>
      some q22)
    else
      ((x_is T a14 2).bind fun _ =>
      (f_Cell_take T q12 a14 (x_I q12 33 l0)).bind fun q24 =>
      some q24))
  else
    ((x_is T a4 2).bind fun _ =>
    (f_Cell_give T w a4 (x_I w 33 l0)).bind fun q26 =>
    (x_R q26 32 l0).bind fun a28 =>
    if (T a28).map Prod.fst = some 1 then
      ((f_Air_take T q26 a28 (x_I q26 33 l0)).bind fun q36 =>
      some q36)
    else
      ((x_is T a28 2).bind fun _ =>
      (f_Cell_take T q26 a28 (x_I q26 33 l0)).bind fun q38 =>
      some q38))
set_option maxHeartbeats 4000000 in
set_option maxRecDepth 100000 in
theorem k_Flow_move {p : Program} {l : Launch} {e : Env} {s : State} {m : MethodId} {args : Array Value} {below : List Frame} {meth : Method} {c : Code} {D : va_G} {aC : Nat → ClassId} {ad : Nat → Nat} {T : x_T} {nx : Nat} {A : Nat → Prop} {q : x_W} (C0 : x_At p s m meth c args "WallDamp$Flow" b_Flow_move none 1 D aC A) : ∀ (w : x_W) (H : Heap) (locs : List Loc) (ls : Array Slot) (l0 : Nat), f_Flow_move T w l0 = some q → x_H D x_cl x_FT aC ad T nx A w H → va_S A s.heap H locs → lv_has ls 1 [(0, .ref (ad l0))] → W p l e { frames := 1, cells := 0, slots := 0, locals := 21 } s m args below meth c H locs 0 0 (MQ below (x_Qc D aC ad T nx none q A) args s 0 0 A) (F0 m 0 ls []) := by
  obtain ⟨hx, hb, hr, hml, hown, hts, hlocks, hK, hA, hX⟩ := id C0
  intro w H locs ls l0 hf hH hS hl
  unfold f_Flow_move at hf
  refine lv_aload_n hx hb d_Flow_move_0 rfl (lv_at hl 0 rfl) ?_
  obtain ⟨_, e1, hf⟩ := x_b hf
  obtain ⟨n2, hT3⟩ := x_is_e e1
  obtain ⟨a4, e5, hf⟩ := x_b hf
  refine x_get (C := "WallDamp$Flow") (F := F_Flow) (N := 5) hx hb hts i_Flow hown hK hH hT3 (by decide) rfl 2 (by decide) (hts _ m_282) (fun _ h9 => h9) (kd := (2, 31)) rfl (x_fr e5) d_Flow_move_1 ?_
  refine lv_aload_n hx hb d_Flow_move_4 rfl (lv_at hl 0 rfl) ?_
  refine x_get (C := "WallDamp$Flow") (F := F_Flow) (N := 5) hx hb hts i_Flow hown hK hH hT3 (by decide) rfl 4 (by decide) (hts _ m_284) (fun _ h9 => h9) (kd := (0, 33)) rfl rfl d_Flow_move_5 ?_
  by_cases c6 : (T a4).map Prod.fst = some 1
  · have hf := x_it hf c6
    obtain ⟨n7, hT8⟩ := x_cl_e c6
    obtain ⟨q12, e13, hf⟩ := x_b hf
    refine x_call (st1 := []) (x_runU (As := [.int (x_I w 33 l0)]) (rest := []) ⟨hx, hb, hml, hown, hts⟩ (c_Air_give l D aC ad T nx H.size w a4 (x_I w 33 l0) q12 e13) (va_cwA 1 hts (x_gU m_696 m_698 m_699 m_700 m_9 m_701) rfl rfl rfl hX.1 ⟨by decide, by decide, pd_Air_give.2.2⟩ ⟨Nat.le_of_ble_eq_true rfl, Nat.le_of_ble_eq_true rfl⟩) hH hK hX hT8 (by decide) rfl rfl rfl hl.1 rfl (lv_room (Nat.le_of_ble_eq_true rfl)) d_Flow_move_8 ⟨Nat.zero_le _, Nat.zero_le _⟩) rfl hH hA hS (fun H locs hH hS => ?_)
    refine lv_aload_n hx hb d_Flow_move_11 rfl (lv_at hl 0 rfl) ?_
    obtain ⟨a14, e15, hf⟩ := x_b hf
    refine x_get (C := "WallDamp$Flow") (F := F_Flow) (N := 5) hx hb hts i_Flow hown hK hH hT3 (by decide) rfl 3 (by decide) (hts _ m_283) (fun _ h9 => h9) (kd := (2, 32)) rfl (x_fr e15) d_Flow_move_12 ?_
    refine lv_aload_n hx hb d_Flow_move_15 rfl (lv_at hl 0 rfl) ?_
    refine x_get (C := "WallDamp$Flow") (F := F_Flow) (N := 5) hx hb hts i_Flow hown hK hH hT3 (by decide) rfl 4 (by decide) (hts _ m_284) (fun _ h9 => h9) (kd := (0, 33)) rfl rfl d_Flow_move_16 ?_
    by_cases c16 : (T a14).map Prod.fst = some 1
    · have hf := x_it hf c16
      obtain ⟨n17, hT18⟩ := x_cl_e c16
      obtain ⟨q22, e23, hf⟩ := x_b hf
      refine x_call (st1 := []) (x_runU (As := [.int (x_I q12 33 l0)]) (rest := []) ⟨hx, hb, hml, hown, hts⟩ (c_Air_take l D aC ad T nx H.size q12 a14 (x_I q12 33 l0) q22 e23) (va_cwA 1 hts (x_gU m_705 m_707 m_708 m_709 m_9 m_710) rfl rfl rfl hX.2 ⟨by decide, by decide, pd_Air_take.2.2⟩ ⟨Nat.le_of_ble_eq_true rfl, Nat.le_of_ble_eq_true rfl⟩) hH hK hX hT18 (by decide) rfl rfl rfl hl.1 rfl (lv_room (Nat.le_of_ble_eq_true rfl)) d_Flow_move_19 ⟨Nat.zero_le _, Nat.zero_le _⟩) rfl hH hA hS (fun H locs hH hS => ?_)
      cases hf
      refine x_sz0 hS (fun hz => ?_)
      exact W.vret hx hb hr (fun t ht hW => ⟨rfl, hS.F ht, by rw [ht]; exact hz, by rw [ht]; exact hH.weaken (fun _ _ _ => trivial)⟩) hS.2.2 d_Flow_move_22
    · have hf := x_if hf c16
      obtain ⟨_, e19, hf⟩ := x_b hf
      obtain ⟨n20, hT21⟩ := x_is_e e19
      obtain ⟨q24, e25, hf⟩ := x_b hf
      refine x_call (st1 := []) (x_runU (As := [.int (x_I q12 33 l0)]) (rest := []) ⟨hx, hb, hml, hown, hts⟩ (c_Cell_take l D aC ad T nx H.size q12 a14 (x_I q12 33 l0) q24 e25) (va_cwA 1 hts (x_gU m_705 m_707 m_711 m_712 m_10 m_713) rfl rfl rfl hX.2 ⟨by decide, by decide, pd_Cell_take.2.2⟩ ⟨Nat.le_of_ble_eq_true rfl, Nat.le_of_ble_eq_true rfl⟩) hH hK hX hT21 (by decide) rfl rfl rfl hl.1 rfl (lv_room (Nat.le_of_ble_eq_true rfl)) d_Flow_move_19 ⟨Nat.zero_le _, Nat.zero_le _⟩) rfl hH hA hS (fun H locs hH hS => ?_)
      cases hf
      refine x_sz0 hS (fun hz => ?_)
      exact W.vret hx hb hr (fun t ht hW => ⟨rfl, hS.F ht, by rw [ht]; exact hz, by rw [ht]; exact hH.weaken (fun _ _ _ => trivial)⟩) hS.2.2 d_Flow_move_22
  · have hf := x_if hf c6
    obtain ⟨_, e9, hf⟩ := x_b hf
    obtain ⟨n10, hT11⟩ := x_is_e e9
    obtain ⟨q26, e27, hf⟩ := x_b hf
    refine x_call (st1 := []) (x_runU (As := [.int (x_I w 33 l0)]) (rest := []) ⟨hx, hb, hml, hown, hts⟩ (c_Cell_give l D aC ad T nx H.size w a4 (x_I w 33 l0) q26 e27) (va_cwA 1 hts (x_gU m_696 m_698 m_702 m_703 m_10 m_704) rfl rfl rfl hX.1 ⟨by decide, by decide, pd_Cell_give.2.2⟩ ⟨Nat.le_of_ble_eq_true rfl, Nat.le_of_ble_eq_true rfl⟩) hH hK hX hT11 (by decide) rfl rfl rfl hl.1 rfl (lv_room (Nat.le_of_ble_eq_true rfl)) d_Flow_move_8 ⟨Nat.zero_le _, Nat.zero_le _⟩) rfl hH hA hS (fun H locs hH hS => ?_)
    refine lv_aload_n hx hb d_Flow_move_11 rfl (lv_at hl 0 rfl) ?_
    obtain ⟨a28, e29, hf⟩ := x_b hf
    refine x_get (C := "WallDamp$Flow") (F := F_Flow) (N := 5) hx hb hts i_Flow hown hK hH hT3 (by decide) rfl 3 (by decide) (hts _ m_283) (fun _ h9 => h9) (kd := (2, 32)) rfl (x_fr e29) d_Flow_move_12 ?_
    refine lv_aload_n hx hb d_Flow_move_15 rfl (lv_at hl 0 rfl) ?_
    refine x_get (C := "WallDamp$Flow") (F := F_Flow) (N := 5) hx hb hts i_Flow hown hK hH hT3 (by decide) rfl 4 (by decide) (hts _ m_284) (fun _ h9 => h9) (kd := (0, 33)) rfl rfl d_Flow_move_16 ?_
    by_cases c30 : (T a28).map Prod.fst = some 1
    · have hf := x_it hf c30
      obtain ⟨n31, hT32⟩ := x_cl_e c30
      obtain ⟨q36, e37, hf⟩ := x_b hf
      refine x_call (st1 := []) (x_runU (As := [.int (x_I q26 33 l0)]) (rest := []) ⟨hx, hb, hml, hown, hts⟩ (c_Air_take l D aC ad T nx H.size q26 a28 (x_I q26 33 l0) q36 e37) (va_cwA 1 hts (x_gU m_705 m_707 m_708 m_709 m_9 m_710) rfl rfl rfl hX.2 ⟨by decide, by decide, pd_Air_take.2.2⟩ ⟨Nat.le_of_ble_eq_true rfl, Nat.le_of_ble_eq_true rfl⟩) hH hK hX hT32 (by decide) rfl rfl rfl hl.1 rfl (lv_room (Nat.le_of_ble_eq_true rfl)) d_Flow_move_19 ⟨Nat.zero_le _, Nat.zero_le _⟩) rfl hH hA hS (fun H locs hH hS => ?_)
      cases hf
      refine x_sz0 hS (fun hz => ?_)
      exact W.vret hx hb hr (fun t ht hW => ⟨rfl, hS.F ht, by rw [ht]; exact hz, by rw [ht]; exact hH.weaken (fun _ _ _ => trivial)⟩) hS.2.2 d_Flow_move_22
    · have hf := x_if hf c30
      obtain ⟨_, e33, hf⟩ := x_b hf
      obtain ⟨n34, hT35⟩ := x_is_e e33
      obtain ⟨q38, e39, hf⟩ := x_b hf
      refine x_call (st1 := []) (x_runU (As := [.int (x_I q26 33 l0)]) (rest := []) ⟨hx, hb, hml, hown, hts⟩ (c_Cell_take l D aC ad T nx H.size q26 a28 (x_I q26 33 l0) q38 e39) (va_cwA 1 hts (x_gU m_705 m_707 m_711 m_712 m_10 m_713) rfl rfl rfl hX.2 ⟨by decide, by decide, pd_Cell_take.2.2⟩ ⟨Nat.le_of_ble_eq_true rfl, Nat.le_of_ble_eq_true rfl⟩) hH hK hX hT35 (by decide) rfl rfl rfl hl.1 rfl (lv_room (Nat.le_of_ble_eq_true rfl)) d_Flow_move_19 ⟨Nat.zero_le _, Nat.zero_le _⟩) rfl hH hA hS (fun H locs hH hS => ?_)
      cases hf
      refine x_sz0 hS (fun hz => ?_)
      exact W.vret hx hb hr (fun t ht hW => ⟨rfl, hS.F ht, by rw [ht]; exact hz, by rw [ht]; exact hH.weaken (fun _ _ _ => trivial)⟩) hS.2.2 d_Flow_move_22
theorem c_Flow_move (l : Launch) (D : va_G) (aC : Nat → ClassId) (ad : Nat → Nat) (T : x_T) (nx sz : Nat) (w : x_W) (a0 : Nat) (q : x_W) (hf : f_Flow_move T w a0 = some q) : Met l y_Flow_move ws_Flow_move { frames := 1, cells := 0, slots := 0, locals := 21 } (x_Pc D aC ad T nx sz w [.ref (ad a0)]) (x_Qc D aC ad T nx none q (x_dom ad nx sz)) 0 0 (x_dom ad nx sz) :=
  x_met [(0, .ref (ad a0))] (plainFor_of_name (by decide)) rfl rfl (Nat.le_of_ble_eq_true rfl) (fun p e s m args below meth c ls C0 hH hS hl => k_Flow_move C0 w _ _ _ a0 hf hH hS (lv_sub hl [0] rfl))
