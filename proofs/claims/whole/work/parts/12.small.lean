/-! WallDamp$MouldRows.hasPlace()Z -/
def f_MouldRows_hasPlace_14 (T : x_T) (w : x_W) (t0 : Int32) : Option (Int32) :=
  (x_bo t0).bind fun _ =>
  some t0
def f_MouldRows_hasPlace (T : x_T) (w : x_W) (l0 : Nat) : Option (Int32) :=
  (x_is T l0 6).bind fun _ =>
  if (6 : Int32) ≤ (x_I w 42 l0) then
    (f_MouldRows_hasPlace_14 T w (0 : Int32))
  else
    (f_MouldRows_hasPlace_14 T w (1 : Int32))
set_option maxHeartbeats 4000000 in
set_option maxRecDepth 100000 in
theorem k_MouldRows_hasPlace_14 {p : Program} {l : Launch} {e : Env} {s : State} {m : MethodId} {args : Array Value} {below : List Frame} {meth : Method} {c : Code} {D : va_G} {aC : Nat → ClassId} {ad : Nat → Nat} {T : x_T} {nx : Nat} {A : Nat → Prop} {q : Int32} (C0 : x_At p s m meth c args "WallDamp$MouldRows" b_MouldRows_hasPlace (some (.boolean)) 1 D aC A) : ∀ (w : x_W) (ls : Array Slot) (t0 : Int32), f_MouldRows_hasPlace_14 T w t0 = some q → x_H D x_cl x_FT aC ad T nx A w s.heap → lv_has ls 1 [] → W p l e { frames := 0, cells := 0, slots := 0, locals := 0 } s m args below meth c s.heap [] 0 0 (MQ below (x_Qp (some (.int q))) args s 0 0 (fun _ => False)) (F0 m 14 ls [.int t0]) := by
  obtain ⟨hx, hb, hr, hml, hown, hts, hlocks, hK, hA, hX⟩ := id C0
  intro w ls t0 hf hH hl
  unfold f_MouldRows_hasPlace_14 at hf
  obtain ⟨_, e1, hf⟩ := x_b hf
  cases hf
  exact W.zret hx hb hr (x_bo_e e1).1 (fun t ht hW => ⟨rfl, ht⟩) (fun _ h => by cases h) d_MouldRows_hasPlace_14
set_option maxHeartbeats 4000000 in
set_option maxRecDepth 100000 in
theorem k_MouldRows_hasPlace {p : Program} {l : Launch} {e : Env} {s : State} {m : MethodId} {args : Array Value} {below : List Frame} {meth : Method} {c : Code} {D : va_G} {aC : Nat → ClassId} {ad : Nat → Nat} {T : x_T} {nx : Nat} {A : Nat → Prop} {q : Int32} (C0 : x_At p s m meth c args "WallDamp$MouldRows" b_MouldRows_hasPlace (some (.boolean)) 1 D aC A) : ∀ (w : x_W) (ls : Array Slot) (l0 : Nat), f_MouldRows_hasPlace T w l0 = some q → x_H D x_cl x_FT aC ad T nx A w s.heap → lv_has ls 1 [(0, .ref (ad l0))] → W p l e { frames := 0, cells := 0, slots := 0, locals := 0 } s m args below meth c s.heap [] 0 0 (MQ below (x_Qp (some (.int q))) args s 0 0 (fun _ => False)) (F0 m 0 ls []) := by
  obtain ⟨hx, hb, hr, hml, hown, hts, hlocks, hK, hA, hX⟩ := id C0
  intro w ls l0 hf hH hl
  unfold f_MouldRows_hasPlace at hf
  refine lv_aload_n hx hb d_MouldRows_hasPlace_0 rfl (lv_at hl 0 rfl) ?_
  obtain ⟨_, e1, hf⟩ := x_b hf
  obtain ⟨n2, hT3⟩ := x_is_e e1
  refine x_get (C := "WallDamp$MouldRows") (F := F_MouldRows) (N := 5) hx hb hts i_MouldRows hown hK hH hT3 (by decide) rfl 4 (by decide) (hts _ m_149) (fun _ h9 => h9) (kd := (0, 42)) rfl rfl d_MouldRows_hasPlace_1 ?_
  refine lv_bipush (v := 6) hx hb d_MouldRows_hasPlace_4 (by decide) ?_
  refine lv_icmp_ge (tgt := 13) hx hb d_MouldRows_hasPlace_6 (by decide) (fun c4 => ?_) (fun c4 => ?_)
  · have hf := x_it hf c4
    refine lv_iconst (v := 0) hx hb d_MouldRows_hasPlace_13 (by decide) ?_
    exact k_MouldRows_hasPlace_14 C0 w _ (0 : Int32) hf hH (lv_sub hl [] rfl)
  · have hf := x_if hf c4
    refine lv_iconst (v := 1) hx hb d_MouldRows_hasPlace_9 (by decide) ?_
    refine lv_goto (tgt := 14) hx hb d_MouldRows_hasPlace_10 (by decide) ?_
    exact k_MouldRows_hasPlace_14 C0 w _ (1 : Int32) hf hH (lv_sub hl [] rfl)
theorem c_MouldRows_hasPlace (l : Launch) (D : va_G) (aC : Nat → ClassId) (ad : Nat → Nat) (T : x_T) (nx sz : Nat) (w : x_W) (a0 : Nat) (q : Int32) (hf : f_MouldRows_hasPlace T w a0 = some q) : Met l y_MouldRows_hasPlace ws_MouldRows_hasPlace { frames := 0, cells := 0, slots := 0, locals := 0 } (x_Pc D aC ad T nx sz w [.ref (ad a0)]) (x_Qp (some (.int q))) 0 0 (fun _ => False) :=
  x_metP [(0, .ref (ad a0))] (plainFor_of_name (by decide)) rfl rfl (Nat.le_of_ble_eq_true rfl) (fun p e s m args below meth c ls C0 hH hl => k_MouldRows_hasPlace C0 w _ a0 hf hH (lv_sub hl [0] rfl))
/-! WallDamp$MouldRows.add(IIII)I -/
def f_MouldRows_add_60 (T : x_T) (w : x_W) (l0 : Nat) : Option (Int32 × x_W) :=
  (x_is T l0 6).bind fun _ =>
  some ((x_I w 42 l0), w)
def f_MouldRows_add (T : x_T) (w : x_W) (l0 : Nat) (l1 : Int32) (l2 : Int32) (l3 : Int32) (l4 : Int32) : Option (Int32 × x_W) :=
  (x_is T l0 6).bind fun _ =>
  if (6 : Int32) ≤ (x_I w 42 l0) then
    (f_MouldRows_add_60 T w l0)
  else
    ((x_R w 38 l0).bind fun a5 =>
    (x_ix T a5 100 (x_I w 42 l0)).bind fun _ =>
    (some (x_sA w a5 (x_I w 42 l0).toNatClampNeg l1)).bind fun w11 =>
    (x_R w11 39 l0).bind fun a13 =>
    (x_ix T a13 100 (x_I w11 42 l0)).bind fun _ =>
    (some (x_sA w11 a13 (x_I w11 42 l0).toNatClampNeg l2)).bind fun w19 =>
    (x_R w19 40 l0).bind fun a21 =>
    (x_ix T a21 100 (x_I w19 42 l0)).bind fun _ =>
    (some (x_sA w19 a21 (x_I w19 42 l0).toNatClampNeg l3)).bind fun w27 =>
    (x_R w27 41 l0).bind fun a29 =>
    (x_ix T a29 100 (x_I w27 42 l0)).bind fun _ =>
    (some (x_sA w27 a29 (x_I w27 42 l0).toNatClampNeg l4)).bind fun w35 =>
    (some (x_sI w35 42 l0 ((x_I w35 42 l0) + (1 : Int32)))).bind fun w37 =>
    f_MouldRows_add_60 T w37 l0)
set_option maxHeartbeats 4000000 in
set_option maxRecDepth 100000 in
theorem k_MouldRows_add_60 {p : Program} {l : Launch} {e : Env} {s : State} {m : MethodId} {args : Array Value} {below : List Frame} {meth : Method} {c : Code} {D : va_G} {aC : Nat → ClassId} {ad : Nat → Nat} {T : x_T} {nx : Nat} {A : Nat → Prop} {q : Int32 × x_W} (C0 : x_At p s m meth c args "WallDamp$MouldRows" b_MouldRows_add (some (.int)) 5 D aC A) : ∀ (w : x_W) (H : Heap) (locs : List Loc) (ls : Array Slot) (l0 : Nat), f_MouldRows_add_60 T w l0 = some q → x_H D x_cl x_FT aC ad T nx A w H → va_S A s.heap H locs → lv_has ls 5 [(0, .ref (ad l0))] → W p l e { frames := 0, cells := 0, slots := 0, locals := 0 } s m args below meth c H locs 0 0 (MQ below (x_Qc D aC ad T nx (some (.int q.1)) q.2 A) args s 0 0 A) (F0 m 60 ls []) := by
  obtain ⟨hx, hb, hr, hml, hown, hts, hlocks, hK, hA, hX⟩ := id C0
  intro w H locs ls l0 hf hH hS hl
  unfold f_MouldRows_add_60 at hf
  refine lv_aload_n hx hb d_MouldRows_add_60 rfl (lv_at hl 0 rfl) ?_
  obtain ⟨_, e1, hf⟩ := x_b hf
  obtain ⟨n2, hT3⟩ := x_is_e e1
  refine x_get (C := "WallDamp$MouldRows") (F := F_MouldRows) (N := 5) hx hb hts i_MouldRows hown hK hH hT3 (by decide) rfl 4 (by decide) (hts _ m_149) (fun _ h9 => h9) (kd := (0, 42)) rfl rfl d_MouldRows_add_61 ?_
  cases hf
  refine x_sz0 hS (fun hz => ?_)
  exact W.iret hx hb hr (fun t ht hW => ⟨rfl, hS.F ht, by rw [ht]; exact hz, by rw [ht]; exact hH.weaken (fun _ _ _ => trivial)⟩) hS.2.2 d_MouldRows_add_64
set_option maxHeartbeats 4000000 in
set_option maxRecDepth 100000 in
theorem k_MouldRows_add {p : Program} {l : Launch} {e : Env} {s : State} {m : MethodId} {args : Array Value} {below : List Frame} {meth : Method} {c : Code} {D : va_G} {aC : Nat → ClassId} {ad : Nat → Nat} {T : x_T} {nx : Nat} {A : Nat → Prop} {q : Int32 × x_W} (C0 : x_At p s m meth c args "WallDamp$MouldRows" b_MouldRows_add (some (.int)) 5 D aC A) : ∀ (w : x_W) (H : Heap) (locs : List Loc) (ls : Array Slot) (l0 : Nat) (l1 : Int32) (l2 : Int32) (l3 : Int32) (l4 : Int32), f_MouldRows_add T w l0 l1 l2 l3 l4 = some q → x_H D x_cl x_FT aC ad T nx A w H → va_S A s.heap H locs → lv_has ls 5 [(0, .ref (ad l0)), (1, .int l1), (2, .int l2), (3, .int l3), (4, .int l4)] → W p l e { frames := 0, cells := 0, slots := 0, locals := 0 } s m args below meth c H locs 0 0 (MQ below (x_Qc D aC ad T nx (some (.int q.1)) q.2 A) args s 0 0 A) (F0 m 0 ls []) := by
  obtain ⟨hx, hb, hr, hml, hown, hts, hlocks, hK, hA, hX⟩ := id C0
  intro w H locs ls l0 l1 l2 l3 l4 hf hH hS hl
  unfold f_MouldRows_add at hf
  refine lv_aload_n hx hb d_MouldRows_add_0 rfl (lv_at hl 0 rfl) ?_
  obtain ⟨_, e1, hf⟩ := x_b hf
  obtain ⟨n2, hT3⟩ := x_is_e e1
  refine x_get (C := "WallDamp$MouldRows") (F := F_MouldRows) (N := 5) hx hb hts i_MouldRows hown hK hH hT3 (by decide) rfl 4 (by decide) (hts _ m_149) (fun _ h9 => h9) (kd := (0, 42)) rfl rfl d_MouldRows_add_1 ?_
  refine lv_bipush (v := 6) hx hb d_MouldRows_add_4 (by decide) ?_
  refine lv_icmp_ge (tgt := 60) hx hb d_MouldRows_add_6 (by decide) (fun c4 => ?_) (fun c4 => ?_)
  · have hf := x_it hf c4
    exact k_MouldRows_add_60 C0 w _ _ _ l0 hf hH hS (lv_sub hl [0] rfl)
  · have hf := x_if hf c4
    refine lv_aload_n hx hb d_MouldRows_add_9 rfl (lv_at hl 0 rfl) ?_
    obtain ⟨a5, e6, hf⟩ := x_b hf
    refine x_get (C := "WallDamp$MouldRows") (F := F_MouldRows) (N := 5) hx hb hts i_MouldRows hown hK hH hT3 (by decide) rfl 0 (by decide) (hts _ m_145) (fun _ h9 => h9) (kd := (2, 38)) rfl (x_fr e6) d_MouldRows_add_10 ?_
    refine lv_aload_n hx hb d_MouldRows_add_13 rfl (lv_at hl 0 rfl) ?_
    refine x_get (C := "WallDamp$MouldRows") (F := F_MouldRows) (N := 5) hx hb hts i_MouldRows hown hK hH hT3 (by decide) rfl 4 (by decide) (hts _ m_149) (fun _ h9 => h9) (kd := (0, 42)) rfl rfl d_MouldRows_add_14 ?_
    refine lv_iload_n hx hb d_MouldRows_add_17 rfl (lv_at hl 1 rfl) ?_
    obtain ⟨_, e7, hf⟩ := x_b hf
    obtain ⟨n8, hT9, hi10⟩ := x_ix_e e7
    refine x_iast hx hb hK hH hS hT9 0 rfl hi10 d_MouldRows_add_18 (fun H locs hH hS => ?_)
    obtain ⟨w11, e12, hf⟩ := x_b hf
    have hH := x_nw e12 hH
    refine lv_aload_n hx hb d_MouldRows_add_19 rfl (lv_at hl 0 rfl) ?_
    obtain ⟨a13, e14, hf⟩ := x_b hf
    refine x_get (C := "WallDamp$MouldRows") (F := F_MouldRows) (N := 5) hx hb hts i_MouldRows hown hK hH hT3 (by decide) rfl 1 (by decide) (hts _ m_146) (fun _ h9 => h9) (kd := (2, 39)) rfl (x_fr e14) d_MouldRows_add_20 ?_
    refine lv_aload_n hx hb d_MouldRows_add_23 rfl (lv_at hl 0 rfl) ?_
    refine x_get (C := "WallDamp$MouldRows") (F := F_MouldRows) (N := 5) hx hb hts i_MouldRows hown hK hH hT3 (by decide) rfl 4 (by decide) (hts _ m_149) (fun _ h9 => h9) (kd := (0, 42)) rfl rfl d_MouldRows_add_24 ?_
    refine lv_iload_n hx hb d_MouldRows_add_27 rfl (lv_at hl 2 rfl) ?_
    obtain ⟨_, e15, hf⟩ := x_b hf
    obtain ⟨n16, hT17, hi18⟩ := x_ix_e e15
    refine x_iast hx hb hK hH hS hT17 0 rfl hi18 d_MouldRows_add_28 (fun H locs hH hS => ?_)
    obtain ⟨w19, e20, hf⟩ := x_b hf
    have hH := x_nw e20 hH
    refine lv_aload_n hx hb d_MouldRows_add_29 rfl (lv_at hl 0 rfl) ?_
    obtain ⟨a21, e22, hf⟩ := x_b hf
    refine x_get (C := "WallDamp$MouldRows") (F := F_MouldRows) (N := 5) hx hb hts i_MouldRows hown hK hH hT3 (by decide) rfl 2 (by decide) (hts _ m_147) (fun _ h9 => h9) (kd := (2, 40)) rfl (x_fr e22) d_MouldRows_add_30 ?_
    refine lv_aload_n hx hb d_MouldRows_add_33 rfl (lv_at hl 0 rfl) ?_
    refine x_get (C := "WallDamp$MouldRows") (F := F_MouldRows) (N := 5) hx hb hts i_MouldRows hown hK hH hT3 (by decide) rfl 4 (by decide) (hts _ m_149) (fun _ h9 => h9) (kd := (0, 42)) rfl rfl d_MouldRows_add_34 ?_
    refine lv_iload_n hx hb d_MouldRows_add_37 rfl (lv_at hl 3 rfl) ?_
    obtain ⟨_, e23, hf⟩ := x_b hf
    obtain ⟨n24, hT25, hi26⟩ := x_ix_e e23
    refine x_iast hx hb hK hH hS hT25 0 rfl hi26 d_MouldRows_add_38 (fun H locs hH hS => ?_)
    obtain ⟨w27, e28, hf⟩ := x_b hf
    have hH := x_nw e28 hH
    refine lv_aload_n hx hb d_MouldRows_add_39 rfl (lv_at hl 0 rfl) ?_
    obtain ⟨a29, e30, hf⟩ := x_b hf
    refine x_get (C := "WallDamp$MouldRows") (F := F_MouldRows) (N := 5) hx hb hts i_MouldRows hown hK hH hT3 (by decide) rfl 3 (by decide) (hts _ m_148) (fun _ h9 => h9) (kd := (2, 41)) rfl (x_fr e30) d_MouldRows_add_40 ?_
    refine lv_aload_n hx hb d_MouldRows_add_43 rfl (lv_at hl 0 rfl) ?_
    refine x_get (C := "WallDamp$MouldRows") (F := F_MouldRows) (N := 5) hx hb hts i_MouldRows hown hK hH hT3 (by decide) rfl 4 (by decide) (hts _ m_149) (fun _ h9 => h9) (kd := (0, 42)) rfl rfl d_MouldRows_add_44 ?_
    refine lv_iload hx hb d_MouldRows_add_47 (lv_at hl 4 rfl) ?_
    obtain ⟨_, e31, hf⟩ := x_b hf
    obtain ⟨n32, hT33, hi34⟩ := x_ix_e e31
    refine x_iast hx hb hK hH hS hT33 0 rfl hi34 d_MouldRows_add_49 (fun H locs hH hS => ?_)
    obtain ⟨w35, e36, hf⟩ := x_b hf
    have hH := x_nw e36 hH
    refine lv_aload_n hx hb d_MouldRows_add_50 rfl (lv_at hl 0 rfl) ?_
    refine lv_dup hx hb d_MouldRows_add_51 rfl ?_
    refine x_get (C := "WallDamp$MouldRows") (F := F_MouldRows) (N := 5) hx hb hts i_MouldRows hown hK hH hT3 (by decide) rfl 4 (by decide) (hts _ m_149) (fun _ h9 => h9) (kd := (0, 42)) rfl rfl d_MouldRows_add_52 ?_
    refine lv_iconst (v := 1) hx hb d_MouldRows_add_55 (by decide) ?_
    refine lv_iadd hx hb d_MouldRows_add_56 ?_
    refine x_put (C := "WallDamp$MouldRows") (F := F_MouldRows) (N := 5) (ty := t_MouldRows 4) (v := .int ((x_I w35 42 l0) + (1 : Int32))) (w' := x_sI w35 42 l0 ((x_I w35 42 l0) + (1 : Int32))) hx hb hts i_MouldRows t_MouldRows ty_MouldRows n_MouldRows hown hK hH hS hT3 (by decide) rfl rfl 4 (by decide) (hts _ m_149) (fun _ h9 => h9) rfl (ty_MouldRows 4 (by decide)) rfl rfl (x_on_I hT3 (by decide) rfl nd_MouldRows) (fun j hj => x_off_I hj) (fun hh ok => x_ok_I hh ok) d_MouldRows_add_57 (fun H locs hH hS => ?_)
    obtain ⟨w37, e38, hf⟩ := x_b hf
    have hH := x_nw e38 hH
    exact k_MouldRows_add_60 C0 w37 _ _ _ l0 hf hH hS (lv_sub hl [0] rfl)
theorem c_MouldRows_add (l : Launch) (D : va_G) (aC : Nat → ClassId) (ad : Nat → Nat) (T : x_T) (nx sz : Nat) (w : x_W) (a0 : Nat) (a1 : Int32) (a2 : Int32) (a3 : Int32) (a4 : Int32) (q : Int32 × x_W) (hf : f_MouldRows_add T w a0 a1 a2 a3 a4 = some q) : Met l y_MouldRows_add ws_MouldRows_add { frames := 0, cells := 0, slots := 0, locals := 0 } (x_Pc D aC ad T nx sz w [.ref (ad a0), .int a1, .int a2, .int a3, .int a4]) (x_Qc D aC ad T nx (some (.int q.1)) q.2 (x_dom ad nx sz)) 0 0 (x_dom ad nx sz) :=
  x_met [(0, .ref (ad a0)), (1, .int a1), (2, .int a2), (3, .int a3), (4, .int a4)] (plainFor_of_name (by decide)) rfl rfl (Nat.le_of_ble_eq_true rfl) (fun p e s m args below meth c ls C0 hH hS hl => k_MouldRows_add C0 w _ _ _ a0 a1 a2 a3 a4 hf hH hS (lv_sub hl [0, 1, 2, 3, 4] rfl))
/-! WallDamp$MouldRows.firstThatFits(II)I -/
def f_MouldRows_firstThatFits_47 (T : x_T) (K2 : x_W → Nat → Int32 → Int32 → Int32 → Option (Int32)) (w : x_W) (l0 : Nat) (l1 : Int32) (l2 : Int32) (l3 : Int32) : Option (Int32) :=
  K2 w l0 l1 l2 (l3 + 1)
def f_MouldRows_firstThatFits_2 (T : x_T) : Nat → x_W → Nat → Int32 → Int32 → Int32 → Option (Int32)
  | 0, _, _, _, _, _ => none
  | n + 1, w, l0, l1, l2, l3 =>
    (x_is T l0 6).bind fun _ =>
    if (x_I w 42 l0) ≤ l3 then
      (some (-1))
    else
      ((x_R w 38 l0).bind fun a5 =>
      (x_ix T a5 100 l3).bind fun _ =>
      if l1 < (x_A w a5 l3.toNatClampNeg) then
        (f_MouldRows_firstThatFits_47 T (f_MouldRows_firstThatFits_2 T n) w l0 l1 l2 l3)
      else
        ((x_R w 39 l0).bind fun a12 =>
        (x_ix T a12 100 l3).bind fun _ =>
        if l2 < (x_A w a12 l3.toNatClampNeg) then
          (f_MouldRows_firstThatFits_47 T (f_MouldRows_firstThatFits_2 T n) w l0 l1 l2 l3)
        else
          ((x_R w 40 l0).bind fun a19 =>
          (x_ix T a19 100 l3).bind fun _ =>
          if (x_A w a19 l3.toNatClampNeg) < l2 then
            (f_MouldRows_firstThatFits_47 T (f_MouldRows_firstThatFits_2 T n) w l0 l1 l2 l3)
          else
            ((x_R w 41 l0).bind fun a26 =>
            (x_ix T a26 100 l3).bind fun _ =>
            some (x_A w a26 l3.toNatClampNeg)))))
def f_MouldRows_firstThatFits (T : x_T) (w : x_W) (l0 : Nat) (l1 : Int32) (l2 : Int32) : Option (Int32) :=
  f_MouldRows_firstThatFits_2 T 1000 w l0 l1 l2 (0 : Int32)
set_option maxHeartbeats 4000000 in
set_option maxRecDepth 100000 in
theorem k_MouldRows_firstThatFits_47 {p : Program} {l : Launch} {e : Env} {s : State} {m : MethodId} {args : Array Value} {below : List Frame} {meth : Method} {c : Code} {D : va_G} {aC : Nat → ClassId} {ad : Nat → Nat} {T : x_T} {nx : Nat} {A : Nat → Prop} {q : Int32} (C0 : x_At p s m meth c args "WallDamp$MouldRows" b_MouldRows_firstThatFits (some (.int)) 4 D aC A) {K2 : x_W → Nat → Int32 → Int32 → Int32 → Option (Int32)} (hK2 : ∀ (w : x_W) (ls : Array Slot) (l0 : Nat) (l1 : Int32) (l2 : Int32) (l3 : Int32), K2 w l0 l1 l2 l3 = some q → x_H D x_cl x_FT aC ad T nx A w s.heap → lv_has ls 4 [(0, .ref (ad l0)), (1, .int l1), (2, .int l2), (3, .int l3)] → W p l e { frames := 0, cells := 0, slots := 0, locals := 0 } s m args below meth c s.heap [] 0 0 (MQ below (x_Qp (some (.int q))) args s 0 0 (fun _ => False)) (F0 m 2 ls [])) : ∀ (w : x_W) (ls : Array Slot) (l0 : Nat) (l1 : Int32) (l2 : Int32) (l3 : Int32), f_MouldRows_firstThatFits_47 T K2 w l0 l1 l2 l3 = some q → x_H D x_cl x_FT aC ad T nx A w s.heap → lv_has ls 4 [(0, .ref (ad l0)), (1, .int l1), (2, .int l2), (3, .int l3)] → W p l e { frames := 0, cells := 0, slots := 0, locals := 0 } s m args below meth c s.heap [] 0 0 (MQ below (x_Qp (some (.int q))) args s 0 0 (fun _ => False)) (F0 m 47 ls []) := by
  obtain ⟨hx, hb, hr, hml, hown, hts, hlocks, hK, hA, hX⟩ := id C0
  intro w ls l0 l1 l2 l3 hf hH hl
  unfold f_MouldRows_firstThatFits_47 at hf
  refine lv_iinc (v := (l3 + 1)) (lv' := [(3, .int (l3 + 1)), (0, .ref (ad l0)), (1, .int l1), (2, .int l2)]) hx hb d_MouldRows_firstThatFits_47 hl (k := 3) rfl rfl (by decide) rfl (fun ls hl => ?_)
  refine lv_goto (tgt := 2) hx hb d_MouldRows_firstThatFits_50 (by decide) ?_
  exact hK2 w _ l0 l1 l2 (l3 + 1) hf hH (lv_sub hl [1, 2, 3, 0] rfl)
set_option maxHeartbeats 4000000 in
set_option maxRecDepth 100000 in
theorem k_MouldRows_firstThatFits_2 {p : Program} {l : Launch} {e : Env} {s : State} {m : MethodId} {args : Array Value} {below : List Frame} {meth : Method} {c : Code} {D : va_G} {aC : Nat → ClassId} {ad : Nat → Nat} {T : x_T} {nx : Nat} {A : Nat → Prop} {q : Int32} (C0 : x_At p s m meth c args "WallDamp$MouldRows" b_MouldRows_firstThatFits (some (.int)) 4 D aC A) : ∀ (n : Nat), ∀ (w : x_W) (ls : Array Slot) (l0 : Nat) (l1 : Int32) (l2 : Int32) (l3 : Int32), f_MouldRows_firstThatFits_2 T n w l0 l1 l2 l3 = some q → x_H D x_cl x_FT aC ad T nx A w s.heap → lv_has ls 4 [(0, .ref (ad l0)), (1, .int l1), (2, .int l2), (3, .int l3)] → W p l e { frames := 0, cells := 0, slots := 0, locals := 0 } s m args below meth c s.heap [] 0 0 (MQ below (x_Qp (some (.int q))) args s 0 0 (fun _ => False)) (F0 m 2 ls []) := by
  obtain ⟨hx, hb, hr, hml, hown, hts, hlocks, hK, hA, hX⟩ := id C0
  intro n
  induction n with
  | zero => intro w ls l0 l1 l2 l3 hf; cases (show none = some q from hf)
  | succ n ih =>
    intro w ls l0 l1 l2 l3 hf hH hl
    unfold f_MouldRows_firstThatFits_2 at hf
    refine lv_iload_n hx hb d_MouldRows_firstThatFits_2 rfl (lv_at hl 3 rfl) ?_
    refine lv_aload_n hx hb d_MouldRows_firstThatFits_3 rfl (lv_at hl 0 rfl) ?_
    obtain ⟨_, e1, hf⟩ := x_b hf
    obtain ⟨n2, hT3⟩ := x_is_e e1
    refine x_get (C := "WallDamp$MouldRows") (F := F_MouldRows) (N := 5) hx hb hts i_MouldRows hown hK hH hT3 (by decide) rfl 4 (by decide) (hts _ m_149) (fun _ h9 => h9) (kd := (0, 42)) rfl rfl d_MouldRows_firstThatFits_4 ?_
    refine lv_icmp_ge (tgt := 53) hx hb d_MouldRows_firstThatFits_7 (by decide) (fun c4 => ?_) (fun c4 => ?_)
    · have hf := x_it hf c4
      refine lv_iconst (v := (-1)) hx hb d_MouldRows_firstThatFits_53 (by decide) ?_
      cases hf
      exact W.iret hx hb hr (fun t ht hW => ⟨rfl, ht⟩) (fun _ h => by cases h) d_MouldRows_firstThatFits_54
    · have hf := x_if hf c4
      refine lv_iload_n hx hb d_MouldRows_firstThatFits_10 rfl (lv_at hl 1 rfl) ?_
      refine lv_aload_n hx hb d_MouldRows_firstThatFits_11 rfl (lv_at hl 0 rfl) ?_
      obtain ⟨a5, e6, hf⟩ := x_b hf
      refine x_get (C := "WallDamp$MouldRows") (F := F_MouldRows) (N := 5) hx hb hts i_MouldRows hown hK hH hT3 (by decide) rfl 0 (by decide) (hts _ m_145) (fun _ h9 => h9) (kd := (2, 38)) rfl (x_fr e6) d_MouldRows_firstThatFits_12 ?_
      refine lv_iload_n hx hb d_MouldRows_firstThatFits_15 rfl (lv_at hl 3 rfl) ?_
      obtain ⟨_, e7, hf⟩ := x_b hf
      obtain ⟨n8, hT9, hi10⟩ := x_ix_e e7
      refine x_iald hx hb hK hH hT9 0 rfl hi10 d_MouldRows_firstThatFits_16 ?_
      refine lv_icmp_lt (tgt := 47) hx hb d_MouldRows_firstThatFits_17 (by decide) (fun c11 => ?_) (fun c11 => ?_)
      · have hf := x_it hf c11
        exact k_MouldRows_firstThatFits_47 C0 ih w _ l0 l1 l2 l3 hf hH (lv_sub hl [0, 1, 2, 3] rfl)
      · have hf := x_if hf c11
        refine lv_iload_n hx hb d_MouldRows_firstThatFits_20 rfl (lv_at hl 2 rfl) ?_
        refine lv_aload_n hx hb d_MouldRows_firstThatFits_21 rfl (lv_at hl 0 rfl) ?_
        obtain ⟨a12, e13, hf⟩ := x_b hf
        refine x_get (C := "WallDamp$MouldRows") (F := F_MouldRows) (N := 5) hx hb hts i_MouldRows hown hK hH hT3 (by decide) rfl 1 (by decide) (hts _ m_146) (fun _ h9 => h9) (kd := (2, 39)) rfl (x_fr e13) d_MouldRows_firstThatFits_22 ?_
        refine lv_iload_n hx hb d_MouldRows_firstThatFits_25 rfl (lv_at hl 3 rfl) ?_
        obtain ⟨_, e14, hf⟩ := x_b hf
        obtain ⟨n15, hT16, hi17⟩ := x_ix_e e14
        refine x_iald hx hb hK hH hT16 0 rfl hi17 d_MouldRows_firstThatFits_26 ?_
        refine lv_icmp_lt (tgt := 47) hx hb d_MouldRows_firstThatFits_27 (by decide) (fun c18 => ?_) (fun c18 => ?_)
        · have hf := x_it hf c18
          exact k_MouldRows_firstThatFits_47 C0 ih w _ l0 l1 l2 l3 hf hH (lv_sub hl [0, 1, 2, 3] rfl)
        · have hf := x_if hf c18
          refine lv_iload_n hx hb d_MouldRows_firstThatFits_30 rfl (lv_at hl 2 rfl) ?_
          refine lv_aload_n hx hb d_MouldRows_firstThatFits_31 rfl (lv_at hl 0 rfl) ?_
          obtain ⟨a19, e20, hf⟩ := x_b hf
          refine x_get (C := "WallDamp$MouldRows") (F := F_MouldRows) (N := 5) hx hb hts i_MouldRows hown hK hH hT3 (by decide) rfl 2 (by decide) (hts _ m_147) (fun _ h9 => h9) (kd := (2, 40)) rfl (x_fr e20) d_MouldRows_firstThatFits_32 ?_
          refine lv_iload_n hx hb d_MouldRows_firstThatFits_35 rfl (lv_at hl 3 rfl) ?_
          obtain ⟨_, e21, hf⟩ := x_b hf
          obtain ⟨n22, hT23, hi24⟩ := x_ix_e e21
          refine x_iald hx hb hK hH hT23 0 rfl hi24 d_MouldRows_firstThatFits_36 ?_
          refine lv_icmp_gt (tgt := 47) hx hb d_MouldRows_firstThatFits_37 (by decide) (fun c25 => ?_) (fun c25 => ?_)
          · have hf := x_it hf c25
            exact k_MouldRows_firstThatFits_47 C0 ih w _ l0 l1 l2 l3 hf hH (lv_sub hl [0, 1, 2, 3] rfl)
          · have hf := x_if hf c25
            refine lv_aload_n hx hb d_MouldRows_firstThatFits_40 rfl (lv_at hl 0 rfl) ?_
            obtain ⟨a26, e27, hf⟩ := x_b hf
            refine x_get (C := "WallDamp$MouldRows") (F := F_MouldRows) (N := 5) hx hb hts i_MouldRows hown hK hH hT3 (by decide) rfl 3 (by decide) (hts _ m_148) (fun _ h9 => h9) (kd := (2, 41)) rfl (x_fr e27) d_MouldRows_firstThatFits_41 ?_
            refine lv_iload_n hx hb d_MouldRows_firstThatFits_44 rfl (lv_at hl 3 rfl) ?_
            obtain ⟨_, e28, hf⟩ := x_b hf
            obtain ⟨n29, hT30, hi31⟩ := x_ix_e e28
            refine x_iald hx hb hK hH hT30 0 rfl hi31 d_MouldRows_firstThatFits_45 ?_
            cases hf
            exact W.iret hx hb hr (fun t ht hW => ⟨rfl, ht⟩) (fun _ h => by cases h) d_MouldRows_firstThatFits_46
set_option maxHeartbeats 4000000 in
set_option maxRecDepth 100000 in
theorem k_MouldRows_firstThatFits {p : Program} {l : Launch} {e : Env} {s : State} {m : MethodId} {args : Array Value} {below : List Frame} {meth : Method} {c : Code} {D : va_G} {aC : Nat → ClassId} {ad : Nat → Nat} {T : x_T} {nx : Nat} {A : Nat → Prop} {q : Int32} (C0 : x_At p s m meth c args "WallDamp$MouldRows" b_MouldRows_firstThatFits (some (.int)) 4 D aC A) : ∀ (w : x_W) (ls : Array Slot) (l0 : Nat) (l1 : Int32) (l2 : Int32), f_MouldRows_firstThatFits T w l0 l1 l2 = some q → x_H D x_cl x_FT aC ad T nx A w s.heap → lv_has ls 4 [(0, .ref (ad l0)), (1, .int l1), (2, .int l2)] → W p l e { frames := 0, cells := 0, slots := 0, locals := 0 } s m args below meth c s.heap [] 0 0 (MQ below (x_Qp (some (.int q))) args s 0 0 (fun _ => False)) (F0 m 0 ls []) := by
  obtain ⟨hx, hb, hr, hml, hown, hts, hlocks, hK, hA, hX⟩ := id C0
  intro w ls l0 l1 l2 hf hH hl
  unfold f_MouldRows_firstThatFits at hf
  refine lv_iconst (v := 0) hx hb d_MouldRows_firstThatFits_0 (by decide) ?_
  refine lv_istore_n (lv' := [(3, .int (0 : Int32)), (0, .ref (ad l0)), (1, .int l1), (2, .int l2)]) hx hb d_MouldRows_firstThatFits_1 rfl hl (by decide) rfl (fun ls hl => ?_)
  exact k_MouldRows_firstThatFits_2 C0 1000 w _ l0 l1 l2 (0 : Int32) hf hH (lv_sub hl [1, 2, 3, 0] rfl)
theorem c_MouldRows_firstThatFits (l : Launch) (D : va_G) (aC : Nat → ClassId) (ad : Nat → Nat) (T : x_T) (nx sz : Nat) (w : x_W) (a0 : Nat) (a1 : Int32) (a2 : Int32) (q : Int32) (hf : f_MouldRows_firstThatFits T w a0 a1 a2 = some q) : Met l y_MouldRows_firstThatFits ws_MouldRows_firstThatFits { frames := 0, cells := 0, slots := 0, locals := 0 } (x_Pc D aC ad T nx sz w [.ref (ad a0), .int a1, .int a2]) (x_Qp (some (.int q))) 0 0 (fun _ => False) :=
  x_metP [(0, .ref (ad a0)), (1, .int a1), (2, .int a2)] (plainFor_of_name (by decide)) rfl rfl (Nat.le_of_ble_eq_true rfl) (fun p e s m args below meth c ls C0 hH hl => k_MouldRows_firstThatFits C0 w _ a0 a1 a2 hf hH (lv_sub hl [0, 1, 2] rfl))
/-! WallDamp$Place.fixHour(IIII)V -/
def f_Place_fixHour (T : x_T) (w : x_W) (l0 : Nat) (l1 : Int32) (l2 : Int32) (l3 : Int32) (l4 : Int32) : Option (x_W) :=
  (x_pl T l0).bind fun _ =>
  (some (x_sI w 1 l0 l1)).bind fun w3 =>
  (some (x_sI w3 2 l0 l2)).bind fun w5 =>
  (some (x_sI w5 3 l0 l3)).bind fun w7 =>
  (some (x_sI w7 4 l0 l4)).bind fun w9 =>
  (some (x_sI w9 5 l0 (0 : Int32))).bind fun w11 =>
  (some (x_sI w11 6 l0 (0 : Int32))).bind fun w13 =>
  some w13
set_option maxHeartbeats 4000000 in
set_option maxRecDepth 100000 in
theorem k_Place_fixHour {p : Program} {l : Launch} {e : Env} {s : State} {m : MethodId} {args : Array Value} {below : List Frame} {meth : Method} {c : Code} {D : va_G} {aC : Nat → ClassId} {ad : Nat → Nat} {T : x_T} {nx : Nat} {A : Nat → Prop} {q : x_W} (C0 : x_At p s m meth c args "WallDamp$Place" b_Place_fixHour none 5 D aC A) : ∀ (w : x_W) (H : Heap) (locs : List Loc) (ls : Array Slot) (l0 : Nat) (l1 : Int32) (l2 : Int32) (l3 : Int32) (l4 : Int32), f_Place_fixHour T w l0 l1 l2 l3 l4 = some q → x_H D x_cl x_FT aC ad T nx A w H → va_S A s.heap H locs → lv_has ls 5 [(0, .ref (ad l0)), (1, .int l1), (2, .int l2), (3, .int l3), (4, .int l4)] → W p l e { frames := 0, cells := 0, slots := 0, locals := 0 } s m args below meth c H locs 0 0 (MQ below (x_Qc D aC ad T nx none q A) args s 0 0 A) (F0 m 0 ls []) := by
  obtain ⟨hx, hb, hr, hml, hown, hts, hlocks, hK, hA, hX⟩ := id C0
  intro w H locs ls l0 l1 l2 l3 l4 hf hH hS hl
  unfold f_Place_fixHour at hf
  refine lv_aload_n hx hb d_Place_fixHour_0 rfl (lv_at hl 0 rfl) ?_
  refine lv_iload_n hx hb d_Place_fixHour_1 rfl (lv_at hl 1 rfl) ?_
  obtain ⟨_, e1, hf⟩ := x_b hf
  have hT2 := x_pl_e e1
  refine x_putPI (v := l1) hx hb hts hown hK hH hS hT2 1 (by decide) rfl (hts _ m_189) (j := 1) rfl rfl rfl rfl d_Place_fixHour_2 (fun H locs hH hS => ?_)
  obtain ⟨w3, e4, hf⟩ := x_b hf
  have hH := x_nw e4 hH
  refine lv_aload_n hx hb d_Place_fixHour_5 rfl (lv_at hl 0 rfl) ?_
  refine lv_iload_n hx hb d_Place_fixHour_6 rfl (lv_at hl 2 rfl) ?_
  refine x_putPI (v := l2) hx hb hts hown hK hH hS hT2 2 (by decide) rfl (hts _ m_192) (j := 2) rfl rfl rfl rfl d_Place_fixHour_7 (fun H locs hH hS => ?_)
  obtain ⟨w5, e6, hf⟩ := x_b hf
  have hH := x_nw e6 hH
  refine lv_aload_n hx hb d_Place_fixHour_10 rfl (lv_at hl 0 rfl) ?_
  refine lv_iload_n hx hb d_Place_fixHour_11 rfl (lv_at hl 3 rfl) ?_
  refine x_putPI (v := l3) hx hb hts hown hK hH hS hT2 3 (by decide) rfl (hts _ m_197) (j := 3) rfl rfl rfl rfl d_Place_fixHour_12 (fun H locs hH hS => ?_)
  obtain ⟨w7, e8, hf⟩ := x_b hf
  have hH := x_nw e8 hH
  refine lv_aload_n hx hb d_Place_fixHour_15 rfl (lv_at hl 0 rfl) ?_
  refine lv_iload hx hb d_Place_fixHour_16 (lv_at hl 4 rfl) ?_
  refine x_putPI (v := l4) hx hb hts hown hK hH hS hT2 4 (by decide) rfl (hts _ m_199) (j := 4) rfl rfl rfl rfl d_Place_fixHour_18 (fun H locs hH hS => ?_)
  obtain ⟨w9, e10, hf⟩ := x_b hf
  have hH := x_nw e10 hH
  refine lv_aload_n hx hb d_Place_fixHour_21 rfl (lv_at hl 0 rfl) ?_
  refine lv_iconst (v := 0) hx hb d_Place_fixHour_22 (by decide) ?_
  refine x_putPI (v := (0 : Int32)) hx hb hts hown hK hH hS hT2 5 (by decide) rfl (hts _ m_202) (j := 5) rfl rfl rfl rfl d_Place_fixHour_23 (fun H locs hH hS => ?_)
  obtain ⟨w11, e12, hf⟩ := x_b hf
  have hH := x_nw e12 hH
  refine lv_aload_n hx hb d_Place_fixHour_26 rfl (lv_at hl 0 rfl) ?_
  refine lv_iconst (v := 0) hx hb d_Place_fixHour_27 (by decide) ?_
  refine x_putPI (v := (0 : Int32)) hx hb hts hown hK hH hS hT2 6 (by decide) rfl (hts _ m_203) (j := 6) rfl rfl rfl rfl d_Place_fixHour_28 (fun H locs hH hS => ?_)
  obtain ⟨w13, e14, hf⟩ := x_b hf
  have hH := x_nw e14 hH
  cases hf
  refine x_sz0 hS (fun hz => ?_)
  exact W.vret hx hb hr (fun t ht hW => ⟨rfl, hS.F ht, by rw [ht]; exact hz, by rw [ht]; exact hH.weaken (fun _ _ _ => trivial)⟩) hS.2.2 d_Place_fixHour_31
theorem c_Place_fixHour (l : Launch) (D : va_G) (aC : Nat → ClassId) (ad : Nat → Nat) (T : x_T) (nx sz : Nat) (w : x_W) (a0 : Nat) (a1 : Int32) (a2 : Int32) (a3 : Int32) (a4 : Int32) (q : x_W) (hf : f_Place_fixHour T w a0 a1 a2 a3 a4 = some q) : Met l y_Place_fixHour ws_Place_fixHour { frames := 0, cells := 0, slots := 0, locals := 0 } (x_Pc D aC ad T nx sz w [.ref (ad a0), .int a1, .int a2, .int a3, .int a4]) (x_Qc D aC ad T nx none q (x_dom ad nx sz)) 0 0 (x_dom ad nx sz) :=
  x_met [(0, .ref (ad a0)), (1, .int a1), (2, .int a2), (3, .int a3), (4, .int a4)] (plainFor_of_name (by decide)) rfl rfl (Nat.le_of_ble_eq_true rfl) (fun p e s m args below meth c ls C0 hH hS hl => k_Place_fixHour C0 w _ _ _ a0 a1 a2 a3 a4 hf hH hS (lv_sub hl [0, 1, 2, 3, 4] rfl))
/-! WallDamp$Material.most()I -/
def f_Material_most (T : x_T) (w : x_W) (l0 : Nat) : Option (Int32) :=
  (x_is T l0 5).bind fun _ =>
  (x_R w 34 l0).bind fun a4 =>
  (x_is T a4 3).bind fun _ =>
  (f_Corners_lastX T w a4).bind fun q6 =>
  some q6
set_option maxHeartbeats 4000000 in
set_option maxRecDepth 100000 in
theorem k_Material_most {p : Program} {l : Launch} {e : Env} {s : State} {m : MethodId} {args : Array Value} {below : List Frame} {meth : Method} {c : Code} {D : va_G} {aC : Nat → ClassId} {ad : Nat → Nat} {T : x_T} {nx : Nat} {A : Nat → Prop} {q : Int32} (C0 : x_At p s m meth c args "WallDamp$Material" b_Material_most (some (.int)) 1 D aC A) : ∀ (w : x_W) (ls : Array Slot) (l0 : Nat), f_Material_most T w l0 = some q → x_H D x_cl x_FT aC ad T nx A w s.heap → lv_has ls 1 [(0, .ref (ad l0))] → W p l e { frames := 1, cells := 0, slots := 0, locals := 20 } s m args below meth c s.heap [] 0 0 (MQ below (x_Qp (some (.int q))) args s 0 0 (fun _ => False)) (F0 m 0 ls []) := by
  obtain ⟨hx, hb, hr, hml, hown, hts, hlocks, hK, hA, hX⟩ := id C0
  intro w ls l0 hf hH hl
  unfold f_Material_most at hf
  refine lv_aload_n hx hb d_Material_most_0 rfl (lv_at hl 0 rfl) ?_
  obtain ⟨_, e1, hf⟩ := x_b hf
  obtain ⟨n2, hT3⟩ := x_is_e e1
  obtain ⟨a4, e5, hf⟩ := x_b hf
  refine x_get (C := "WallDamp$Material") (F := F_Material) (N := 4) hx hb hts i_Material hown hK hH hT3 (by decide) rfl 0 (by decide) (hts _ m_65) (fun _ h9 => h9) (kd := (2, 34)) rfl (x_fr e5) d_Material_most_1 ?_
  obtain ⟨_, e8, hf⟩ := x_b hf
  obtain ⟨n9, hT10⟩ := x_is_e e8
  obtain ⟨q6, e7, hf⟩ := x_b hf
  refine x_callP (st1 := [.int q6]) (x_runV (As := []) (rest := []) ⟨hx, hb, hml, hown, hts⟩ (c_Corners_lastX l D aC ad T nx s.heap.size w a4 q6 e7) (cwV 0 hts (x_gV m_562 m_563 m_564 m_4 m_565) rfl rfl rfl ⟨rfl, pd_Corners_lastX⟩ ⟨Nat.le_of_ble_eq_true rfl, Nat.le_of_ble_eq_true rfl⟩) hH hK hX hT10 (by decide) rfl rfl rfl hl.1 rfl (lv_room (Nat.le_of_ble_eq_true rfl)) d_Material_most_4 ⟨Nat.zero_le _, Nat.zero_le _⟩) rfl ?_
  cases hf
  exact W.iret hx hb hr (fun t ht hW => ⟨rfl, ht⟩) (fun _ h => by cases h) d_Material_most_7
theorem c_Material_most (l : Launch) (D : va_G) (aC : Nat → ClassId) (ad : Nat → Nat) (T : x_T) (nx sz : Nat) (w : x_W) (a0 : Nat) (q : Int32) (hf : f_Material_most T w a0 = some q) : Met l y_Material_most ws_Material_most { frames := 1, cells := 0, slots := 0, locals := 20 } (x_Pc D aC ad T nx sz w [.ref (ad a0)]) (x_Qp (some (.int q))) 0 0 (fun _ => False) :=
  x_metP [(0, .ref (ad a0))] (plainFor_of_name (by decide)) rfl rfl (Nat.le_of_ble_eq_true rfl) (fun p e s m args below meth c ls C0 hH hl => k_Material_most C0 w _ a0 hf hH (lv_sub hl [0] rfl))
/-! WallDamp$Surroundings.pressureAt(II)I -/
def f_Surroundings_pressureAt (T : x_T) (w : x_W) (l0 : Nat) (l1 : Int32) (l2 : Int32) : Option (Int32) :=
  (x_is T l0 7).bind fun _ =>
  (x_R w 43 l0).bind fun a4 =>
  (x_is T a4 3).bind fun _ =>
  (f_Corners_heightAt T w a4 l1).bind fun q6 =>
  some ((((q6.toInt64) * (l2.toInt64)) / (10000 : Int64)).toInt32)
set_option maxHeartbeats 4000000 in
set_option maxRecDepth 100000 in
theorem k_Surroundings_pressureAt {p : Program} {l : Launch} {e : Env} {s : State} {m : MethodId} {args : Array Value} {below : List Frame} {meth : Method} {c : Code} {D : va_G} {aC : Nat → ClassId} {ad : Nat → Nat} {T : x_T} {nx : Nat} {A : Nat → Prop} {q : Int32} (C0 : x_At p s m meth c args "WallDamp$Surroundings" b_Surroundings_pressureAt (some (.int)) 3 D aC A) : ∀ (w : x_W) (ls : Array Slot) (l0 : Nat) (l1 : Int32) (l2 : Int32), f_Surroundings_pressureAt T w l0 l1 l2 = some q → x_H D x_cl x_FT aC ad T nx A w s.heap → lv_has ls 3 [(0, .ref (ad l0)), (1, .int l1), (2, .int l2)] → W p l e { frames := 1, cells := 0, slots := 0, locals := 25 } s m args below meth c s.heap [] 0 0 (MQ below (x_Qp (some (.int q))) args s 0 0 (fun _ => False)) (F0 m 0 ls []) := by
  obtain ⟨hx, hb, hr, hml, hown, hts, hlocks, hK, hA, hX⟩ := id C0
  intro w ls l0 l1 l2 hf hH hl
  unfold f_Surroundings_pressureAt at hf
  refine lv_aload_n hx hb d_Surroundings_pressureAt_0 rfl (lv_at hl 0 rfl) ?_
  obtain ⟨_, e1, hf⟩ := x_b hf
  obtain ⟨n2, hT3⟩ := x_is_e e1
  obtain ⟨a4, e5, hf⟩ := x_b hf
  refine x_get (C := "WallDamp$Surroundings") (F := F_Surroundings) (N := 9) hx hb hts i_Surroundings hown hK hH hT3 (by decide) rfl 0 (by decide) (hts _ m_94) (fun _ h9 => h9) (kd := (2, 43)) rfl (x_fr e5) d_Surroundings_pressureAt_1 ?_
  refine lv_iload_n hx hb d_Surroundings_pressureAt_4 rfl (lv_at hl 1 rfl) ?_
  obtain ⟨_, e8, hf⟩ := x_b hf
  obtain ⟨n9, hT10⟩ := x_is_e e8
  obtain ⟨q6, e7, hf⟩ := x_b hf
  refine x_callP (st1 := [.int q6]) (x_runV (As := [.int l1]) (rest := []) ⟨hx, hb, hml, hown, hts⟩ (c_Corners_heightAt l D aC ad T nx s.heap.size w a4 l1 q6 e7) (cwV 1 hts (x_gV m_628 m_524 m_525 m_4 m_526) rfl rfl rfl ⟨rfl, pd_Corners_heightAt⟩ ⟨Nat.le_of_ble_eq_true rfl, Nat.le_of_ble_eq_true rfl⟩) hH hK hX hT10 (by decide) rfl rfl rfl hl.1 rfl (lv_room (Nat.le_of_ble_eq_true rfl)) d_Surroundings_pressureAt_5 ⟨Nat.zero_le _, Nat.zero_le _⟩) rfl ?_
  refine lv_i2l (v := q6.toInt64) hx hb d_Surroundings_pressureAt_8 rfl ?_
  refine lv_iload_n hx hb d_Surroundings_pressureAt_9 rfl (lv_at hl 2 rfl) ?_
  refine lv_i2l (v := l2.toInt64) hx hb d_Surroundings_pressureAt_10 rfl ?_
  refine lv_lmul hx hb d_Surroundings_pressureAt_11 ?_
  refine lv_ldc2 (v := (10000 : Int64)) hx hb hown (hts _ m_629) d_Surroundings_pressureAt_12 ?_
  refine lv_ldiv hx hb d_Surroundings_pressureAt_15 (by decide) ?_
  refine lv_l2i (v := (((q6.toInt64) * (l2.toInt64)) / (10000 : Int64)).toInt32) hx hb d_Surroundings_pressureAt_16 rfl ?_
  cases hf
  exact W.iret hx hb hr (fun t ht hW => ⟨rfl, ht⟩) (fun _ h => by cases h) d_Surroundings_pressureAt_17
theorem c_Surroundings_pressureAt (l : Launch) (D : va_G) (aC : Nat → ClassId) (ad : Nat → Nat) (T : x_T) (nx sz : Nat) (w : x_W) (a0 : Nat) (a1 : Int32) (a2 : Int32) (q : Int32) (hf : f_Surroundings_pressureAt T w a0 a1 a2 = some q) : Met l y_Surroundings_pressureAt ws_Surroundings_pressureAt { frames := 1, cells := 0, slots := 0, locals := 25 } (x_Pc D aC ad T nx sz w [.ref (ad a0), .int a1, .int a2]) (x_Qp (some (.int q))) 0 0 (fun _ => False) :=
  x_metP [(0, .ref (ad a0)), (1, .int a1), (2, .int a2)] (plainFor_of_name (by decide)) rfl rfl (Nat.le_of_ble_eq_true rfl) (fun p e s m args below meth c ls C0 hH hl => k_Surroundings_pressureAt C0 w _ a0 a1 a2 hf hH (lv_sub hl [0, 1, 2] rfl))
/-! WallDamp$Air.give(I)V -/
def f_Air_give (T : x_T) (w : x_W) (l0 : Nat) (l1 : Int32) : Option (x_W) :=
  (x_is T l0 1).bind fun _ =>
  (some (x_sJ w 15 l0 ((x_J w 15 l0) + (l1.toInt64)))).bind fun w4 =>
  some w4
set_option maxHeartbeats 4000000 in
set_option maxRecDepth 100000 in
theorem k_Air_give {p : Program} {l : Launch} {e : Env} {s : State} {m : MethodId} {args : Array Value} {below : List Frame} {meth : Method} {c : Code} {D : va_G} {aC : Nat → ClassId} {ad : Nat → Nat} {T : x_T} {nx : Nat} {A : Nat → Prop} {q : x_W} (C0 : x_At p s m meth c args "WallDamp$Air" b_Air_give none 2 D aC A) : ∀ (w : x_W) (H : Heap) (locs : List Loc) (ls : Array Slot) (l0 : Nat) (l1 : Int32), f_Air_give T w l0 l1 = some q → x_H D x_cl x_FT aC ad T nx A w H → va_S A s.heap H locs → lv_has ls 2 [(0, .ref (ad l0)), (1, .int l1)] → W p l e { frames := 0, cells := 0, slots := 0, locals := 0 } s m args below meth c H locs 0 0 (MQ below (x_Qc D aC ad T nx none q A) args s 0 0 A) (F0 m 0 ls []) := by
  obtain ⟨hx, hb, hr, hml, hown, hts, hlocks, hK, hA, hX⟩ := id C0
  intro w H locs ls l0 l1 hf hH hS hl
  unfold f_Air_give at hf
  refine lv_aload_n hx hb d_Air_give_0 rfl (lv_at hl 0 rfl) ?_
  refine lv_dup hx hb d_Air_give_1 rfl ?_
  obtain ⟨_, e1, hf⟩ := x_b hf
  obtain ⟨n2, hT3⟩ := x_is_e e1
  refine x_get (C := "WallDamp$Air") (F := F_Air) (N := 9) hx hb hts i_Air hown hK hH hT3 (by decide) rfl 7 (by decide) (hts _ m_177) (fun _ h9 => h9) (kd := (1, 15)) rfl rfl d_Air_give_2 ?_
  refine lv_iload_n hx hb d_Air_give_5 rfl (lv_at hl 1 rfl) ?_
  refine lv_i2l (v := l1.toInt64) hx hb d_Air_give_6 rfl ?_
  refine lv_ladd hx hb d_Air_give_7 ?_
  refine x_put (C := "WallDamp$Air") (F := F_Air) (N := 9) (ty := t_Air 7) (v := .long ((x_J w 15 l0) + (l1.toInt64))) (w' := x_sJ w 15 l0 ((x_J w 15 l0) + (l1.toInt64))) hx hb hts i_Air t_Air ty_Air n_Air hown hK hH hS hT3 (by decide) rfl rfl 7 (by decide) (hts _ m_177) (fun _ h9 => h9) rfl (ty_Air 7 (by decide)) rfl rfl (x_on_J hT3 (by decide) rfl nd_Air) (fun j hj => x_off_J hj) (fun hh ok => x_ok_J hh ok) d_Air_give_8 (fun H locs hH hS => ?_)
  obtain ⟨w4, e5, hf⟩ := x_b hf
  have hH := x_nw e5 hH
  cases hf
  refine x_sz0 hS (fun hz => ?_)
  exact W.vret hx hb hr (fun t ht hW => ⟨rfl, hS.F ht, by rw [ht]; exact hz, by rw [ht]; exact hH.weaken (fun _ _ _ => trivial)⟩) hS.2.2 d_Air_give_11
theorem c_Air_give (l : Launch) (D : va_G) (aC : Nat → ClassId) (ad : Nat → Nat) (T : x_T) (nx sz : Nat) (w : x_W) (a0 : Nat) (a1 : Int32) (q : x_W) (hf : f_Air_give T w a0 a1 = some q) : Met l y_Air_give ws_Air_give { frames := 0, cells := 0, slots := 0, locals := 0 } (x_Pc D aC ad T nx sz w [.ref (ad a0), .int a1]) (x_Qc D aC ad T nx none q (x_dom ad nx sz)) 0 0 (x_dom ad nx sz) :=
  x_met [(0, .ref (ad a0)), (1, .int a1)] (plainFor_of_name (by decide)) rfl rfl (Nat.le_of_ble_eq_true rfl) (fun p e s m args below meth c ls C0 hH hS hl => k_Air_give C0 w _ _ _ a0 a1 hf hH hS (lv_sub hl [0, 1] rfl))
/-! WallDamp$Air.take(I)V -/
def f_Air_take (T : x_T) (w : x_W) (l0 : Nat) (l1 : Int32) : Option (x_W) :=
  (x_is T l0 1).bind fun _ =>
  (some (x_sJ w 16 l0 ((x_J w 16 l0) + (l1.toInt64)))).bind fun w4 =>
  some w4
set_option maxHeartbeats 4000000 in
set_option maxRecDepth 100000 in
theorem k_Air_take {p : Program} {l : Launch} {e : Env} {s : State} {m : MethodId} {args : Array Value} {below : List Frame} {meth : Method} {c : Code} {D : va_G} {aC : Nat → ClassId} {ad : Nat → Nat} {T : x_T} {nx : Nat} {A : Nat → Prop} {q : x_W} (C0 : x_At p s m meth c args "WallDamp$Air" b_Air_take none 2 D aC A) : ∀ (w : x_W) (H : Heap) (locs : List Loc) (ls : Array Slot) (l0 : Nat) (l1 : Int32), f_Air_take T w l0 l1 = some q → x_H D x_cl x_FT aC ad T nx A w H → va_S A s.heap H locs → lv_has ls 2 [(0, .ref (ad l0)), (1, .int l1)] → W p l e { frames := 0, cells := 0, slots := 0, locals := 0 } s m args below meth c H locs 0 0 (MQ below (x_Qc D aC ad T nx none q A) args s 0 0 A) (F0 m 0 ls []) := by
  obtain ⟨hx, hb, hr, hml, hown, hts, hlocks, hK, hA, hX⟩ := id C0
  intro w H locs ls l0 l1 hf hH hS hl
  unfold f_Air_take at hf
  refine lv_aload_n hx hb d_Air_take_0 rfl (lv_at hl 0 rfl) ?_
  refine lv_dup hx hb d_Air_take_1 rfl ?_
  obtain ⟨_, e1, hf⟩ := x_b hf
  obtain ⟨n2, hT3⟩ := x_is_e e1
  refine x_get (C := "WallDamp$Air") (F := F_Air) (N := 9) hx hb hts i_Air hown hK hH hT3 (by decide) rfl 8 (by decide) (hts _ m_179) (fun _ h9 => h9) (kd := (1, 16)) rfl rfl d_Air_take_2 ?_
  refine lv_iload_n hx hb d_Air_take_5 rfl (lv_at hl 1 rfl) ?_
  refine lv_i2l (v := l1.toInt64) hx hb d_Air_take_6 rfl ?_
  refine lv_ladd hx hb d_Air_take_7 ?_
  refine x_put (C := "WallDamp$Air") (F := F_Air) (N := 9) (ty := t_Air 8) (v := .long ((x_J w 16 l0) + (l1.toInt64))) (w' := x_sJ w 16 l0 ((x_J w 16 l0) + (l1.toInt64))) hx hb hts i_Air t_Air ty_Air n_Air hown hK hH hS hT3 (by decide) rfl rfl 8 (by decide) (hts _ m_179) (fun _ h9 => h9) rfl (ty_Air 8 (by decide)) rfl rfl (x_on_J hT3 (by decide) rfl nd_Air) (fun j hj => x_off_J hj) (fun hh ok => x_ok_J hh ok) d_Air_take_8 (fun H locs hH hS => ?_)
  obtain ⟨w4, e5, hf⟩ := x_b hf
  have hH := x_nw e5 hH
  cases hf
  refine x_sz0 hS (fun hz => ?_)
  exact W.vret hx hb hr (fun t ht hW => ⟨rfl, hS.F ht, by rw [ht]; exact hz, by rw [ht]; exact hH.weaken (fun _ _ _ => trivial)⟩) hS.2.2 d_Air_take_11
theorem c_Air_take (l : Launch) (D : va_G) (aC : Nat → ClassId) (ad : Nat → Nat) (T : x_T) (nx sz : Nat) (w : x_W) (a0 : Nat) (a1 : Int32) (q : x_W) (hf : f_Air_take T w a0 a1 = some q) : Met l y_Air_take ws_Air_take { frames := 0, cells := 0, slots := 0, locals := 0 } (x_Pc D aC ad T nx sz w [.ref (ad a0), .int a1]) (x_Qc D aC ad T nx none q (x_dom ad nx sz)) 0 0 (x_dom ad nx sz) :=
  x_met [(0, .ref (ad a0)), (1, .int a1)] (plainFor_of_name (by decide)) rfl rfl (Nat.le_of_ble_eq_true rfl) (fun p e s m args below meth c ls C0 hH hS hl => k_Air_take C0 w _ _ _ a0 a1 hf hH hS (lv_sub hl [0, 1] rfl))
/-! WallDamp$Air.beginHour(LWallDamp$Surroundings;I)V -/
def f_Air_beginHour (T : x_T) (w : x_W) (l0 : Nat) (l1 : Nat) (l2 : Int32) : Option (x_W) :=
  (x_is T l0 1).bind fun _ =>
  (x_is T l1 7).bind fun _ =>
  (f_Surroundings_pressureAt T w l1 (x_I w 0 l0) l2).bind fun q4 =>
  (f_Place_fixHour T w l0 l2 q4 (1000000000 : Int32) (1000000000 : Int32)).bind fun q9 =>
  some q9
set_option maxHeartbeats 4000000 in
set_option maxRecDepth 100000 in
theorem k_Air_beginHour {p : Program} {l : Launch} {e : Env} {s : State} {m : MethodId} {args : Array Value} {below : List Frame} {meth : Method} {c : Code} {D : va_G} {aC : Nat → ClassId} {ad : Nat → Nat} {T : x_T} {nx : Nat} {A : Nat → Prop} {q : x_W} (C0 : x_At p s m meth c args "WallDamp$Air" b_Air_beginHour none 3 D aC A) : ∀ (w : x_W) (H : Heap) (locs : List Loc) (ls : Array Slot) (l0 : Nat) (l1 : Nat) (l2 : Int32), f_Air_beginHour T w l0 l1 l2 = some q → x_H D x_cl x_FT aC ad T nx A w H → va_S A s.heap H locs → lv_has ls 3 [(0, .ref (ad l0)), (1, .ref (ad l1)), (2, .int l2)] → W p l e { frames := 2, cells := 0, slots := 0, locals := 47 } s m args below meth c H locs 0 0 (MQ below (x_Qc D aC ad T nx none q A) args s 0 0 A) (F0 m 0 ls []) := by
  obtain ⟨hx, hb, hr, hml, hown, hts, hlocks, hK, hA, hX⟩ := id C0
  intro w H locs ls l0 l1 l2 hf hH hS hl
  unfold f_Air_beginHour at hf
  refine lv_aload_n hx hb d_Air_beginHour_0 rfl (lv_at hl 0 rfl) ?_
  refine lv_iload_n hx hb d_Air_beginHour_1 rfl (lv_at hl 2 rfl) ?_
  refine lv_aload_n hx hb d_Air_beginHour_2 rfl (lv_at hl 1 rfl) ?_
  refine lv_aload_n hx hb d_Air_beginHour_3 rfl (lv_at hl 0 rfl) ?_
  obtain ⟨_, e1, hf⟩ := x_b hf
  obtain ⟨n2, hT3⟩ := x_is_e e1
  refine x_get (C := "WallDamp$Air") (F := F_Air) (N := 9) hx hb hts i_Air hown hK hH hT3 (by decide) rfl 0 (by decide) (hts _ m_182) (u_same (hts _ m_183)) (kd := (0, 0)) rfl rfl d_Air_beginHour_4 ?_
  refine lv_iload_n hx hb d_Air_beginHour_7 rfl (lv_at hl 2 rfl) ?_
  obtain ⟨_, e6, hf⟩ := x_b hf
  obtain ⟨n7, hT8⟩ := x_is_e e6
  obtain ⟨q4, e5, hf⟩ := x_b hf
  refine x_callP (st1 := [.int q4, .int l2, .ref (ad l0)]) (x_runV (As := [.int (x_I w 0 l0), .int l2]) (rest := [.int l2, .ref (ad l0)]) ⟨hx, hb, hml, hown, hts⟩ (c_Surroundings_pressureAt l D aC ad T nx H.size w l1 (x_I w 0 l0) l2 q4 e5) (cwV 2 hts (x_gV m_624 m_625 m_626 m_5 m_627) rfl rfl rfl ⟨rfl, pd_Surroundings_pressureAt⟩ ⟨Nat.le_of_ble_eq_true rfl, Nat.le_of_ble_eq_true rfl⟩) hH hK hX hT8 (by decide) rfl rfl rfl hl.1 rfl (lv_room (Nat.le_of_ble_eq_true rfl)) d_Air_beginHour_8 ⟨Nat.zero_le _, Nat.zero_le _⟩) rfl ?_
  refine lv_ldc (v := (1000000000 : Int32)) hx hb hown (hts _ m_630) d_Air_beginHour_11 ?_
  refine lv_ldc (v := (1000000000 : Int32)) hx hb hown (hts _ m_630) d_Air_beginHour_13 ?_
  obtain ⟨q9, e10, hf⟩ := x_b hf
  refine x_call (st1 := []) (x_runU (As := [.int l2, .int q4, .int (1000000000 : Int32), .int (1000000000 : Int32)]) (rest := []) ⟨hx, hb, hml, hown, hts⟩ (c_Place_fixHour l D aC ad T nx H.size w l0 l2 q4 (1000000000 : Int32) (1000000000 : Int32) q9 e10) (va_cwU 4 hts (x_gU m_631 m_632 m_634 m_635 m_8 m_636) rfl rfl rfl rfl pd_Place_fixHour ⟨Nat.le_of_ble_eq_true rfl, Nat.le_of_ble_eq_true rfl⟩) hH hK hX hT3 (by decide) rfl rfl rfl hl.1 rfl (lv_room (Nat.le_of_ble_eq_true rfl)) d_Air_beginHour_15 ⟨Nat.zero_le _, Nat.zero_le _⟩) rfl hH hA hS (fun H locs hH hS => ?_)
  cases hf
  refine x_sz0 hS (fun hz => ?_)
  exact W.vret hx hb hr (fun t ht hW => ⟨rfl, hS.F ht, by rw [ht]; exact hz, by rw [ht]; exact hH.weaken (fun _ _ _ => trivial)⟩) hS.2.2 d_Air_beginHour_18
theorem c_Air_beginHour (l : Launch) (D : va_G) (aC : Nat → ClassId) (ad : Nat → Nat) (T : x_T) (nx sz : Nat) (w : x_W) (a0 : Nat) (a1 : Nat) (a2 : Int32) (q : x_W) (hf : f_Air_beginHour T w a0 a1 a2 = some q) : Met l y_Air_beginHour ws_Air_beginHour { frames := 2, cells := 0, slots := 0, locals := 47 } (x_Pc D aC ad T nx sz w [.ref (ad a0), .ref (ad a1), .int a2]) (x_Qc D aC ad T nx none q (x_dom ad nx sz)) 0 0 (x_dom ad nx sz) :=
  x_met [(0, .ref (ad a0)), (1, .ref (ad a1)), (2, .int a2)] (plainFor_of_name (by decide)) rfl rfl (Nat.le_of_ble_eq_true rfl) (fun p e s m args below meth c ls C0 hH hS hl => k_Air_beginHour C0 w _ _ _ a0 a1 a2 hf hH hS (lv_sub hl [0, 1, 2] rfl))
/-! WallDamp$Cell.give(I)V -/
def f_Cell_give (T : x_T) (w : x_W) (l0 : Nat) (l1 : Int32) : Option (x_W) :=
  (x_is T l0 2).bind fun _ =>
  (some (x_sI w 20 l0 ((x_I w 20 l0) - l1))).bind fun w4 =>
  some w4
set_option maxHeartbeats 4000000 in
set_option maxRecDepth 100000 in
theorem k_Cell_give {p : Program} {l : Launch} {e : Env} {s : State} {m : MethodId} {args : Array Value} {below : List Frame} {meth : Method} {c : Code} {D : va_G} {aC : Nat → ClassId} {ad : Nat → Nat} {T : x_T} {nx : Nat} {A : Nat → Prop} {q : x_W} (C0 : x_At p s m meth c args "WallDamp$Cell" b_Cell_give none 2 D aC A) : ∀ (w : x_W) (H : Heap) (locs : List Loc) (ls : Array Slot) (l0 : Nat) (l1 : Int32), f_Cell_give T w l0 l1 = some q → x_H D x_cl x_FT aC ad T nx A w H → va_S A s.heap H locs → lv_has ls 2 [(0, .ref (ad l0)), (1, .int l1)] → W p l e { frames := 0, cells := 0, slots := 0, locals := 0 } s m args below meth c H locs 0 0 (MQ below (x_Qc D aC ad T nx none q A) args s 0 0 A) (F0 m 0 ls []) := by
  obtain ⟨hx, hb, hr, hml, hown, hts, hlocks, hK, hA, hX⟩ := id C0
  intro w H locs ls l0 l1 hf hH hS hl
  unfold f_Cell_give at hf
  refine lv_aload_n hx hb d_Cell_give_0 rfl (lv_at hl 0 rfl) ?_
  refine lv_dup hx hb d_Cell_give_1 rfl ?_
  obtain ⟨_, e1, hf⟩ := x_b hf
  obtain ⟨n2, hT3⟩ := x_is_e e1
  refine x_get (C := "WallDamp$Cell") (F := F_Cell) (N := 15) hx hb hts i_Cell hown hK hH hT3 (by decide) rfl 10 (by decide) (hts _ m_241) (fun _ h9 => h9) (kd := (0, 20)) rfl rfl d_Cell_give_2 ?_
  refine lv_iload_n hx hb d_Cell_give_5 rfl (lv_at hl 1 rfl) ?_
  refine lv_isub hx hb d_Cell_give_6 ?_
  refine x_put (C := "WallDamp$Cell") (F := F_Cell) (N := 15) (ty := t_Cell 10) (v := .int ((x_I w 20 l0) - l1)) (w' := x_sI w 20 l0 ((x_I w 20 l0) - l1)) hx hb hts i_Cell t_Cell ty_Cell n_Cell hown hK hH hS hT3 (by decide) rfl rfl 10 (by decide) (hts _ m_241) (fun _ h9 => h9) rfl (ty_Cell 10 (by decide)) rfl rfl (x_on_I hT3 (by decide) rfl nd_Cell) (fun j hj => x_off_I hj) (fun hh ok => x_ok_I hh ok) d_Cell_give_7 (fun H locs hH hS => ?_)
  obtain ⟨w4, e5, hf⟩ := x_b hf
  have hH := x_nw e5 hH
  cases hf
  refine x_sz0 hS (fun hz => ?_)
  exact W.vret hx hb hr (fun t ht hW => ⟨rfl, hS.F ht, by rw [ht]; exact hz, by rw [ht]; exact hH.weaken (fun _ _ _ => trivial)⟩) hS.2.2 d_Cell_give_10
theorem c_Cell_give (l : Launch) (D : va_G) (aC : Nat → ClassId) (ad : Nat → Nat) (T : x_T) (nx sz : Nat) (w : x_W) (a0 : Nat) (a1 : Int32) (q : x_W) (hf : f_Cell_give T w a0 a1 = some q) : Met l y_Cell_give ws_Cell_give { frames := 0, cells := 0, slots := 0, locals := 0 } (x_Pc D aC ad T nx sz w [.ref (ad a0), .int a1]) (x_Qc D aC ad T nx none q (x_dom ad nx sz)) 0 0 (x_dom ad nx sz) :=
  x_met [(0, .ref (ad a0)), (1, .int a1)] (plainFor_of_name (by decide)) rfl rfl (Nat.le_of_ble_eq_true rfl) (fun p e s m args below meth c ls C0 hH hS hl => k_Cell_give C0 w _ _ _ a0 a1 hf hH hS (lv_sub hl [0, 1] rfl))
/-! WallDamp$Cell.take(I)V -/
def f_Cell_take (T : x_T) (w : x_W) (l0 : Nat) (l1 : Int32) : Option (x_W) :=
  (x_is T l0 2).bind fun _ =>
  (some (x_sI w 20 l0 ((x_I w 20 l0) + l1))).bind fun w4 =>
  some w4
set_option maxHeartbeats 4000000 in
set_option maxRecDepth 100000 in
theorem k_Cell_take {p : Program} {l : Launch} {e : Env} {s : State} {m : MethodId} {args : Array Value} {below : List Frame} {meth : Method} {c : Code} {D : va_G} {aC : Nat → ClassId} {ad : Nat → Nat} {T : x_T} {nx : Nat} {A : Nat → Prop} {q : x_W} (C0 : x_At p s m meth c args "WallDamp$Cell" b_Cell_take none 2 D aC A) : ∀ (w : x_W) (H : Heap) (locs : List Loc) (ls : Array Slot) (l0 : Nat) (l1 : Int32), f_Cell_take T w l0 l1 = some q → x_H D x_cl x_FT aC ad T nx A w H → va_S A s.heap H locs → lv_has ls 2 [(0, .ref (ad l0)), (1, .int l1)] → W p l e { frames := 0, cells := 0, slots := 0, locals := 0 } s m args below meth c H locs 0 0 (MQ below (x_Qc D aC ad T nx none q A) args s 0 0 A) (F0 m 0 ls []) := by
  obtain ⟨hx, hb, hr, hml, hown, hts, hlocks, hK, hA, hX⟩ := id C0
  intro w H locs ls l0 l1 hf hH hS hl
  unfold f_Cell_take at hf
  refine lv_aload_n hx hb d_Cell_take_0 rfl (lv_at hl 0 rfl) ?_
  refine lv_dup hx hb d_Cell_take_1 rfl ?_
  obtain ⟨_, e1, hf⟩ := x_b hf
  obtain ⟨n2, hT3⟩ := x_is_e e1
  refine x_get (C := "WallDamp$Cell") (F := F_Cell) (N := 15) hx hb hts i_Cell hown hK hH hT3 (by decide) rfl 10 (by decide) (hts _ m_241) (fun _ h9 => h9) (kd := (0, 20)) rfl rfl d_Cell_take_2 ?_
  refine lv_iload_n hx hb d_Cell_take_5 rfl (lv_at hl 1 rfl) ?_
  refine lv_iadd hx hb d_Cell_take_6 ?_
  refine x_put (C := "WallDamp$Cell") (F := F_Cell) (N := 15) (ty := t_Cell 10) (v := .int ((x_I w 20 l0) + l1)) (w' := x_sI w 20 l0 ((x_I w 20 l0) + l1)) hx hb hts i_Cell t_Cell ty_Cell n_Cell hown hK hH hS hT3 (by decide) rfl rfl 10 (by decide) (hts _ m_241) (fun _ h9 => h9) rfl (ty_Cell 10 (by decide)) rfl rfl (x_on_I hT3 (by decide) rfl nd_Cell) (fun j hj => x_off_I hj) (fun hh ok => x_ok_I hh ok) d_Cell_take_7 (fun H locs hH hS => ?_)
  obtain ⟨w4, e5, hf⟩ := x_b hf
  have hH := x_nw e5 hH
  cases hf
  refine x_sz0 hS (fun hz => ?_)
  exact W.vret hx hb hr (fun t ht hW => ⟨rfl, hS.F ht, by rw [ht]; exact hz, by rw [ht]; exact hH.weaken (fun _ _ _ => trivial)⟩) hS.2.2 d_Cell_take_10
theorem c_Cell_take (l : Launch) (D : va_G) (aC : Nat → ClassId) (ad : Nat → Nat) (T : x_T) (nx sz : Nat) (w : x_W) (a0 : Nat) (a1 : Int32) (q : x_W) (hf : f_Cell_take T w a0 a1 = some q) : Met l y_Cell_take ws_Cell_take { frames := 0, cells := 0, slots := 0, locals := 0 } (x_Pc D aC ad T nx sz w [.ref (ad a0), .int a1]) (x_Qc D aC ad T nx none q (x_dom ad nx sz)) 0 0 (x_dom ad nx sz) :=
  x_met [(0, .ref (ad a0)), (1, .int a1)] (plainFor_of_name (by decide)) rfl rfl (Nat.le_of_ble_eq_true rfl) (fun p e s m args below meth c ls C0 hH hS hl => k_Cell_take C0 w _ _ _ a0 a1 hf hH hS (lv_sub hl [0, 1] rfl))
/-! WallDamp$Cell.dampOfHeld()I -/
def f_Cell_dampOfHeld (T : x_T) (w : x_W) (l0 : Nat) : Option (Int32) :=
  (x_is T l0 2).bind fun _ =>
  (x_R w 17 l0).bind fun a4 =>
  (x_is T a4 5).bind fun _ =>
  (x_R w 34 a4).bind fun a9 =>
  (x_is T a9 3).bind fun _ =>
  (f_Corners_heightAt T w a9 (x_I w 20 l0)).bind fun q11 =>
  some q11
set_option maxHeartbeats 4000000 in
set_option maxRecDepth 100000 in
theorem k_Cell_dampOfHeld {p : Program} {l : Launch} {e : Env} {s : State} {m : MethodId} {args : Array Value} {below : List Frame} {meth : Method} {c : Code} {D : va_G} {aC : Nat → ClassId} {ad : Nat → Nat} {T : x_T} {nx : Nat} {A : Nat → Prop} {q : Int32} (C0 : x_At p s m meth c args "WallDamp$Cell" b_Cell_dampOfHeld (some (.int)) 1 D aC A) : ∀ (w : x_W) (ls : Array Slot) (l0 : Nat), f_Cell_dampOfHeld T w l0 = some q → x_H D x_cl x_FT aC ad T nx A w s.heap → lv_has ls 1 [(0, .ref (ad l0))] → W p l e { frames := 1, cells := 0, slots := 0, locals := 25 } s m args below meth c s.heap [] 0 0 (MQ below (x_Qp (some (.int q))) args s 0 0 (fun _ => False)) (F0 m 0 ls []) := by
  obtain ⟨hx, hb, hr, hml, hown, hts, hlocks, hK, hA, hX⟩ := id C0
  intro w ls l0 hf hH hl
  unfold f_Cell_dampOfHeld at hf
  refine lv_aload_n hx hb d_Cell_dampOfHeld_0 rfl (lv_at hl 0 rfl) ?_
  obtain ⟨_, e1, hf⟩ := x_b hf
  obtain ⟨n2, hT3⟩ := x_is_e e1
  obtain ⟨a4, e5, hf⟩ := x_b hf
  refine x_get (C := "WallDamp$Cell") (F := F_Cell) (N := 15) hx hb hts i_Cell hown hK hH hT3 (by decide) rfl 7 (by decide) (hts _ m_233) (fun _ h9 => h9) (kd := (2, 17)) rfl (x_fr e5) d_Cell_dampOfHeld_1 ?_
  obtain ⟨_, e6, hf⟩ := x_b hf
  obtain ⟨n7, hT8⟩ := x_is_e e6
  obtain ⟨a9, e10, hf⟩ := x_b hf
  refine x_get (C := "WallDamp$Material") (F := F_Material) (N := 4) hx hb hts i_Material hown hK hH hT8 (by decide) rfl 0 (by decide) (hts _ m_67) (fun _ h9 => h9) (kd := (2, 34)) rfl (x_fr e10) d_Cell_dampOfHeld_4 ?_
  refine lv_aload_n hx hb d_Cell_dampOfHeld_7 rfl (lv_at hl 0 rfl) ?_
  refine x_get (C := "WallDamp$Cell") (F := F_Cell) (N := 15) hx hb hts i_Cell hown hK hH hT3 (by decide) rfl 10 (by decide) (hts _ m_241) (fun _ h9 => h9) (kd := (0, 20)) rfl rfl d_Cell_dampOfHeld_8 ?_
  obtain ⟨_, e13, hf⟩ := x_b hf
  obtain ⟨n14, hT15⟩ := x_is_e e13
  obtain ⟨q11, e12, hf⟩ := x_b hf
  refine x_callP (st1 := [.int q11]) (x_runV (As := [.int (x_I w 20 l0)]) (rest := []) ⟨hx, hb, hml, hown, hts⟩ (c_Corners_heightAt l D aC ad T nx s.heap.size w a9 (x_I w 20 l0) q11 e12) (cwV 1 hts (x_gV m_645 m_524 m_525 m_4 m_526) rfl rfl rfl ⟨rfl, pd_Corners_heightAt⟩ ⟨Nat.le_of_ble_eq_true rfl, Nat.le_of_ble_eq_true rfl⟩) hH hK hX hT15 (by decide) rfl rfl rfl hl.1 rfl (lv_room (Nat.le_of_ble_eq_true rfl)) d_Cell_dampOfHeld_11 ⟨Nat.zero_le _, Nat.zero_le _⟩) rfl ?_
  cases hf
  exact W.iret hx hb hr (fun t ht hW => ⟨rfl, ht⟩) (fun _ h => by cases h) d_Cell_dampOfHeld_14
theorem c_Cell_dampOfHeld (l : Launch) (D : va_G) (aC : Nat → ClassId) (ad : Nat → Nat) (T : x_T) (nx sz : Nat) (w : x_W) (a0 : Nat) (q : Int32) (hf : f_Cell_dampOfHeld T w a0 = some q) : Met l y_Cell_dampOfHeld ws_Cell_dampOfHeld { frames := 1, cells := 0, slots := 0, locals := 25 } (x_Pc D aC ad T nx sz w [.ref (ad a0)]) (x_Qp (some (.int q))) 0 0 (fun _ => False) :=
  x_metP [(0, .ref (ad a0))] (plainFor_of_name (by decide)) rfl rfl (Nat.le_of_ble_eq_true rfl) (fun p e s m args below meth c ls C0 hH hl => k_Cell_dampOfHeld C0 w _ a0 hf hH (lv_sub hl [0] rfl))
/-! WallDamp$Cell.resistance()I -/
def f_Cell_resistance_26 (T : x_T) (w : x_W) (t0 : Int32) : Option (Int32) :=
  some t0
def f_Cell_resistance (T : x_T) (w : x_W) (l0 : Nat) : Option (Int32) :=
  (x_is T l0 2).bind fun _ =>
  (x_R w 17 l0).bind fun a4 =>
  (x_is T a4 5).bind fun _ =>
  (some ((x_I w 37 a4))).bind fun v9 =>
  if (1 : Int32) ≤ v9 then
    ((x_nzi v9).bind fun _ =>
    f_Cell_resistance_26 T w (((100 : Int32) * (x_I w 18 l0)) / v9))
  else
    (f_Cell_resistance_26 T w (0 : Int32))
set_option maxHeartbeats 4000000 in
set_option maxRecDepth 100000 in
theorem k_Cell_resistance_26 {p : Program} {l : Launch} {e : Env} {s : State} {m : MethodId} {args : Array Value} {below : List Frame} {meth : Method} {c : Code} {D : va_G} {aC : Nat → ClassId} {ad : Nat → Nat} {T : x_T} {nx : Nat} {A : Nat → Prop} {q : Int32} (C0 : x_At p s m meth c args "WallDamp$Cell" b_Cell_resistance (some (.int)) 2 D aC A) : ∀ (w : x_W) (ls : Array Slot) (t0 : Int32), f_Cell_resistance_26 T w t0 = some q → x_H D x_cl x_FT aC ad T nx A w s.heap → lv_has ls 2 [] → W p l e { frames := 0, cells := 0, slots := 0, locals := 0 } s m args below meth c s.heap [] 0 0 (MQ below (x_Qp (some (.int q))) args s 0 0 (fun _ => False)) (F0 m 26 ls [.int t0]) := by
  obtain ⟨hx, hb, hr, hml, hown, hts, hlocks, hK, hA, hX⟩ := id C0
  intro w ls t0 hf hH hl
  unfold f_Cell_resistance_26 at hf
  cases hf
  exact W.iret hx hb hr (fun t ht hW => ⟨rfl, ht⟩) (fun _ h => by cases h) d_Cell_resistance_26
set_option maxHeartbeats 4000000 in
set_option maxRecDepth 100000 in
theorem k_Cell_resistance {p : Program} {l : Launch} {e : Env} {s : State} {m : MethodId} {args : Array Value} {below : List Frame} {meth : Method} {c : Code} {D : va_G} {aC : Nat → ClassId} {ad : Nat → Nat} {T : x_T} {nx : Nat} {A : Nat → Prop} {q : Int32} (C0 : x_At p s m meth c args "WallDamp$Cell" b_Cell_resistance (some (.int)) 2 D aC A) : ∀ (w : x_W) (ls : Array Slot) (l0 : Nat), f_Cell_resistance T w l0 = some q → x_H D x_cl x_FT aC ad T nx A w s.heap → lv_has ls 2 [(0, .ref (ad l0))] → W p l e { frames := 0, cells := 0, slots := 0, locals := 0 } s m args below meth c s.heap [] 0 0 (MQ below (x_Qp (some (.int q))) args s 0 0 (fun _ => False)) (F0 m 0 ls []) := by
  obtain ⟨hx, hb, hr, hml, hown, hts, hlocks, hK, hA, hX⟩ := id C0
  intro w ls l0 hf hH hl
  unfold f_Cell_resistance at hf
  refine lv_aload_n hx hb d_Cell_resistance_0 rfl (lv_at hl 0 rfl) ?_
  obtain ⟨_, e1, hf⟩ := x_b hf
  obtain ⟨n2, hT3⟩ := x_is_e e1
  obtain ⟨a4, e5, hf⟩ := x_b hf
  refine x_get (C := "WallDamp$Cell") (F := F_Cell) (N := 15) hx hb hts i_Cell hown hK hH hT3 (by decide) rfl 7 (by decide) (hts _ m_233) (fun _ h9 => h9) (kd := (2, 17)) rfl (x_fr e5) d_Cell_resistance_1 ?_
  obtain ⟨_, e6, hf⟩ := x_b hf
  obtain ⟨n7, hT8⟩ := x_is_e e6
  refine x_get (C := "WallDamp$Material") (F := F_Material) (N := 4) hx hb hts i_Material hown hK hH hT8 (by decide) rfl 3 (by decide) (hts _ m_76) (fun _ h9 => h9) (kd := (0, 37)) rfl rfl d_Cell_resistance_4 ?_
  obtain ⟨v9, e10, hf⟩ := x_b hf
  refine x_nmi e10 ?_
  refine lv_istore_n (lv' := [(1, .int v9), (0, .ref (ad l0))]) hx hb d_Cell_resistance_7 rfl hl (by decide) rfl (fun ls hl => ?_)
  refine lv_iload_n hx hb d_Cell_resistance_8 rfl (lv_at hl 0 rfl) ?_
  refine lv_iconst (v := 1) hx hb d_Cell_resistance_9 (by decide) ?_
  refine lv_icmp_ge (tgt := 17) hx hb d_Cell_resistance_10 (by decide) (fun c11 => ?_) (fun c11 => ?_)
  · have hf := x_it hf c11
    refine lv_bipush (v := 100) hx hb d_Cell_resistance_17 (by decide) ?_
    refine lv_aload_n hx hb d_Cell_resistance_19 rfl (lv_at hl 1 rfl) ?_
    refine x_get (C := "WallDamp$Cell") (F := F_Cell) (N := 15) hx hb hts i_Cell hown hK hH hT3 (by decide) rfl 8 (by decide) (hts _ m_236) (fun _ h9 => h9) (kd := (0, 18)) rfl rfl d_Cell_resistance_20 ?_
    refine lv_imul hx hb d_Cell_resistance_23 ?_
    refine lv_iload_n hx hb d_Cell_resistance_24 rfl (lv_at hl 0 rfl) ?_
    obtain ⟨_, e12, hf⟩ := x_b hf
    refine lv_idiv hx hb d_Cell_resistance_25 (x_nzi_e e12) ?_
    exact k_Cell_resistance_26 C0 w _ (((100 : Int32) * (x_I w 18 l0)) / v9) hf hH (lv_sub hl [] rfl)
  · have hf := x_if hf c11
    refine lv_iconst (v := 0) hx hb d_Cell_resistance_13 (by decide) ?_
    refine lv_goto (tgt := 26) hx hb d_Cell_resistance_14 (by decide) ?_
    exact k_Cell_resistance_26 C0 w _ (0 : Int32) hf hH (lv_sub hl [] rfl)
theorem c_Cell_resistance (l : Launch) (D : va_G) (aC : Nat → ClassId) (ad : Nat → Nat) (T : x_T) (nx sz : Nat) (w : x_W) (a0 : Nat) (q : Int32) (hf : f_Cell_resistance T w a0 = some q) : Met l y_Cell_resistance ws_Cell_resistance { frames := 0, cells := 0, slots := 0, locals := 0 } (x_Pc D aC ad T nx sz w [.ref (ad a0)]) (x_Qp (some (.int q))) 0 0 (fun _ => False) :=
  x_metP [(0, .ref (ad a0))] (plainFor_of_name (by decide)) rfl rfl (Nat.le_of_ble_eq_true rfl) (fun p e s m args below meth c ls C0 hH hl => k_Cell_resistance C0 w _ a0 hf hH (lv_sub hl [0] rfl))
/-! WallDamp$Cell.layDry(LWallDamp$Cell;)V -/
def f_Cell_layDry (T : x_T) (w : x_W) (l0 : Nat) (l1 : Nat) : Option (x_W) :=
  (x_is T l1 2).bind fun _ =>
  (x_R w 17 l1).bind fun a4 =>
  (x_is T l0 2).bind fun _ =>
  (x_ex T a4).bind fun _ =>
  (some (x_sR w 17 l0 (some a4))).bind fun w10 =>
  (some (x_sI w10 18 l0 (x_I w10 18 l1))).bind fun w12 =>
  (some (x_sI w12 19 l0 (x_I w12 19 l1))).bind fun w14 =>
  (some (x_sI w14 20 l0 (0 : Int32))).bind fun w16 =>
  some w16
set_option maxHeartbeats 4000000 in
set_option maxRecDepth 100000 in
theorem k_Cell_layDry {p : Program} {l : Launch} {e : Env} {s : State} {m : MethodId} {args : Array Value} {below : List Frame} {meth : Method} {c : Code} {D : va_G} {aC : Nat → ClassId} {ad : Nat → Nat} {T : x_T} {nx : Nat} {A : Nat → Prop} {q : x_W} (C0 : x_At p s m meth c args "WallDamp$Cell" b_Cell_layDry none 2 D aC A) : ∀ (w : x_W) (H : Heap) (locs : List Loc) (ls : Array Slot) (l0 : Nat) (l1 : Nat), f_Cell_layDry T w l0 l1 = some q → x_H D x_cl x_FT aC ad T nx A w H → va_S A s.heap H locs → lv_has ls 2 [(0, .ref (ad l0)), (1, .ref (ad l1))] → W p l e { frames := 0, cells := 0, slots := 0, locals := 0 } s m args below meth c H locs 0 0 (MQ below (x_Qc D aC ad T nx none q A) args s 0 0 A) (F0 m 0 ls []) := by
  obtain ⟨hx, hb, hr, hml, hown, hts, hlocks, hK, hA, hX⟩ := id C0
  intro w H locs ls l0 l1 hf hH hS hl
  unfold f_Cell_layDry at hf
  refine lv_aload_n hx hb d_Cell_layDry_0 rfl (lv_at hl 0 rfl) ?_
  refine lv_aload_n hx hb d_Cell_layDry_1 rfl (lv_at hl 1 rfl) ?_
  obtain ⟨_, e1, hf⟩ := x_b hf
  obtain ⟨n2, hT3⟩ := x_is_e e1
  obtain ⟨a4, e5, hf⟩ := x_b hf
  refine x_get (C := "WallDamp$Cell") (F := F_Cell) (N := 15) hx hb hts i_Cell hown hK hH hT3 (by decide) rfl 7 (by decide) (hts _ m_233) (fun _ h9 => h9) (kd := (2, 17)) rfl (x_fr e5) d_Cell_layDry_2 ?_
  obtain ⟨_, e6, hf⟩ := x_b hf
  obtain ⟨n7, hT8⟩ := x_is_e e6
  obtain ⟨_, e9, hf⟩ := x_b hf
  refine x_put (C := "WallDamp$Cell") (F := F_Cell) (N := 15) (ty := t_Cell 7) (v := .ref (ad a4)) (w' := x_sR w 17 l0 (some a4)) hx hb hts i_Cell t_Cell ty_Cell n_Cell hown hK hH hS hT8 (by decide) rfl rfl 7 (by decide) (hts _ m_233) (fun _ h9 => h9) rfl (ty_Cell 7 (by decide)) rfl rfl (x_on_R (v := some a4) hT8 (by decide) rfl nd_Cell k3_Cell) (fun j hj => x_off_R hj) (fun hh => x_ok_R hh (x_ex_lt e9 hH)) d_Cell_layDry_5 (fun H locs hH hS => ?_)
  obtain ⟨w10, e11, hf⟩ := x_b hf
  have hH := x_nw e11 hH
  refine lv_aload_n hx hb d_Cell_layDry_8 rfl (lv_at hl 0 rfl) ?_
  refine lv_aload_n hx hb d_Cell_layDry_9 rfl (lv_at hl 1 rfl) ?_
  refine x_get (C := "WallDamp$Cell") (F := F_Cell) (N := 15) hx hb hts i_Cell hown hK hH hT3 (by decide) rfl 8 (by decide) (hts _ m_236) (fun _ h9 => h9) (kd := (0, 18)) rfl rfl d_Cell_layDry_10 ?_
  refine x_put (C := "WallDamp$Cell") (F := F_Cell) (N := 15) (ty := t_Cell 8) (v := .int (x_I w10 18 l1)) (w' := x_sI w10 18 l0 (x_I w10 18 l1)) hx hb hts i_Cell t_Cell ty_Cell n_Cell hown hK hH hS hT8 (by decide) rfl rfl 8 (by decide) (hts _ m_236) (fun _ h9 => h9) rfl (ty_Cell 8 (by decide)) rfl rfl (x_on_I hT8 (by decide) rfl nd_Cell) (fun j hj => x_off_I hj) (fun hh ok => x_ok_I hh ok) d_Cell_layDry_13 (fun H locs hH hS => ?_)
  obtain ⟨w12, e13, hf⟩ := x_b hf
  have hH := x_nw e13 hH
  refine lv_aload_n hx hb d_Cell_layDry_16 rfl (lv_at hl 0 rfl) ?_
  refine lv_aload_n hx hb d_Cell_layDry_17 rfl (lv_at hl 1 rfl) ?_
  refine x_get (C := "WallDamp$Cell") (F := F_Cell) (N := 15) hx hb hts i_Cell hown hK hH hT3 (by decide) rfl 9 (by decide) (hts _ m_238) (fun _ h9 => h9) (kd := (0, 19)) rfl rfl d_Cell_layDry_18 ?_
  refine x_put (C := "WallDamp$Cell") (F := F_Cell) (N := 15) (ty := t_Cell 9) (v := .int (x_I w12 19 l1)) (w' := x_sI w12 19 l0 (x_I w12 19 l1)) hx hb hts i_Cell t_Cell ty_Cell n_Cell hown hK hH hS hT8 (by decide) rfl rfl 9 (by decide) (hts _ m_238) (fun _ h9 => h9) rfl (ty_Cell 9 (by decide)) rfl rfl (x_on_I hT8 (by decide) rfl nd_Cell) (fun j hj => x_off_I hj) (fun hh ok => x_ok_I hh ok) d_Cell_layDry_21 (fun H locs hH hS => ?_)
  obtain ⟨w14, e15, hf⟩ := x_b hf
  have hH := x_nw e15 hH
  refine lv_aload_n hx hb d_Cell_layDry_24 rfl (lv_at hl 0 rfl) ?_
  refine lv_iconst (v := 0) hx hb d_Cell_layDry_25 (by decide) ?_
  refine x_put (C := "WallDamp$Cell") (F := F_Cell) (N := 15) (ty := t_Cell 10) (v := .int (0 : Int32)) (w' := x_sI w14 20 l0 (0 : Int32)) hx hb hts i_Cell t_Cell ty_Cell n_Cell hown hK hH hS hT8 (by decide) rfl rfl 10 (by decide) (hts _ m_241) (fun _ h9 => h9) rfl (ty_Cell 10 (by decide)) rfl rfl (x_on_I hT8 (by decide) rfl nd_Cell) (fun j hj => x_off_I hj) (fun hh ok => x_ok_I hh ok) d_Cell_layDry_26 (fun H locs hH hS => ?_)
  obtain ⟨w16, e17, hf⟩ := x_b hf
  have hH := x_nw e17 hH
  cases hf
  refine x_sz0 hS (fun hz => ?_)
  exact W.vret hx hb hr (fun t ht hW => ⟨rfl, hS.F ht, by rw [ht]; exact hz, by rw [ht]; exact hH.weaken (fun _ _ _ => trivial)⟩) hS.2.2 d_Cell_layDry_29
theorem c_Cell_layDry (l : Launch) (D : va_G) (aC : Nat → ClassId) (ad : Nat → Nat) (T : x_T) (nx sz : Nat) (w : x_W) (a0 : Nat) (a1 : Nat) (q : x_W) (hf : f_Cell_layDry T w a0 a1 = some q) : Met l y_Cell_layDry ws_Cell_layDry { frames := 0, cells := 0, slots := 0, locals := 0 } (x_Pc D aC ad T nx sz w [.ref (ad a0), .ref (ad a1)]) (x_Qc D aC ad T nx none q (x_dom ad nx sz)) 0 0 (x_dom ad nx sz) :=
  x_met [(0, .ref (ad a0)), (1, .ref (ad a1))] (plainFor_of_name (by decide)) rfl rfl (Nat.le_of_ble_eq_true rfl) (fun p e s m args below meth c ls C0 hH hS hl => k_Cell_layDry C0 w _ _ _ a0 a1 hf hH hS (lv_sub hl [0, 1] rfl))
/-! WallDamp$Cell.beginHour(LWallDamp$Surroundings;)V -/
def f_Cell_beginHour (T : x_T) (w : x_W) (l0 : Nat) (l1 : Nat) : Option (x_W) :=
  (x_is T l0 2).bind fun _ =>
  (f_Cell_dampOfHeld T w l0).bind fun q1 =>
  (x_is T l1 7).bind fun _ =>
  (f_Surroundings_pressureAt T w l1 (x_I w 0 l0) q1).bind fun q6 =>
  (x_R w 17 l0).bind fun a11 =>
  (x_is T a11 5).bind fun _ =>
  (f_Material_most T w a11).bind fun q13 =>
  (f_Place_fixHour T w l0 q1 q6 (x_I w 20 l0) (q13 - (x_I w 20 l0))).bind fun q18 =>
  some q18
set_option maxHeartbeats 4000000 in
set_option maxRecDepth 100000 in
theorem k_Cell_beginHour {p : Program} {l : Launch} {e : Env} {s : State} {m : MethodId} {args : Array Value} {below : List Frame} {meth : Method} {c : Code} {D : va_G} {aC : Nat → ClassId} {ad : Nat → Nat} {T : x_T} {nx : Nat} {A : Nat → Prop} {q : x_W} (C0 : x_At p s m meth c args "WallDamp$Cell" b_Cell_beginHour none 3 D aC A) : ∀ (w : x_W) (H : Heap) (locs : List Loc) (ls : Array Slot) (l0 : Nat) (l1 : Nat), f_Cell_beginHour T w l0 l1 = some q → x_H D x_cl x_FT aC ad T nx A w H → va_S A s.heap H locs → lv_has ls 3 [(0, .ref (ad l0)), (1, .ref (ad l1))] → W p l e { frames := 2, cells := 0, slots := 0, locals := 47 } s m args below meth c H locs 0 0 (MQ below (x_Qc D aC ad T nx none q A) args s 0 0 A) (F0 m 0 ls []) := by
  obtain ⟨hx, hb, hr, hml, hown, hts, hlocks, hK, hA, hX⟩ := id C0
  intro w H locs ls l0 l1 hf hH hS hl
  unfold f_Cell_beginHour at hf
  refine lv_aload_n hx hb d_Cell_beginHour_0 rfl (lv_at hl 0 rfl) ?_
  obtain ⟨_, e3, hf⟩ := x_b hf
  obtain ⟨n4, hT5⟩ := x_is_e e3
  obtain ⟨q1, e2, hf⟩ := x_b hf
  refine x_callP (st1 := [.int q1]) (x_runV (As := []) (rest := []) ⟨hx, hb, hml, hown, hts⟩ (c_Cell_dampOfHeld l D aC ad T nx H.size w l0 q1 e2) (cwV 0 hts (x_gV m_641 m_642 m_643 m_10 m_644) rfl rfl rfl ⟨rfl, pd_Cell_dampOfHeld⟩ ⟨Nat.le_of_ble_eq_true rfl, Nat.le_of_ble_eq_true rfl⟩) hH hK hX hT5 (by decide) rfl rfl rfl hl.1 rfl (lv_room (Nat.le_of_ble_eq_true rfl)) d_Cell_beginHour_1 ⟨Nat.zero_le _, Nat.zero_le _⟩) rfl ?_
  refine lv_istore_n (lv' := [(2, .int q1), (0, .ref (ad l0)), (1, .ref (ad l1))]) hx hb d_Cell_beginHour_4 rfl hl (by decide) rfl (fun ls hl => ?_)
  refine lv_aload_n hx hb d_Cell_beginHour_5 rfl (lv_at hl 1 rfl) ?_
  refine lv_iload_n hx hb d_Cell_beginHour_6 rfl (lv_at hl 0 rfl) ?_
  refine lv_aload_n hx hb d_Cell_beginHour_7 rfl (lv_at hl 2 rfl) ?_
  refine lv_aload_n hx hb d_Cell_beginHour_8 rfl (lv_at hl 1 rfl) ?_
  refine x_get (C := "WallDamp$Cell") (F := F_Cell) (N := 15) hx hb hts i_Cell hown hK hH hT5 (by decide) rfl 0 (by decide) (hts _ m_187) (u_same (hts _ m_186)) (kd := (0, 0)) rfl rfl d_Cell_beginHour_9 ?_
  refine lv_iload_n hx hb d_Cell_beginHour_12 rfl (lv_at hl 0 rfl) ?_
  obtain ⟨_, e8, hf⟩ := x_b hf
  obtain ⟨n9, hT10⟩ := x_is_e e8
  obtain ⟨q6, e7, hf⟩ := x_b hf
  refine x_callP (st1 := [.int q6, .int q1, .ref (ad l0)]) (x_runV (As := [.int (x_I w 0 l0), .int q1]) (rest := [.int q1, .ref (ad l0)]) ⟨hx, hb, hml, hown, hts⟩ (c_Surroundings_pressureAt l D aC ad T nx H.size w l1 (x_I w 0 l0) q1 q6 e7) (cwV 2 hts (x_gV m_646 m_625 m_626 m_5 m_627) rfl rfl rfl ⟨rfl, pd_Surroundings_pressureAt⟩ ⟨Nat.le_of_ble_eq_true rfl, Nat.le_of_ble_eq_true rfl⟩) hH hK hX hT10 (by decide) rfl rfl rfl hl.1 rfl (lv_room (Nat.le_of_ble_eq_true rfl)) d_Cell_beginHour_13 ⟨Nat.zero_le _, Nat.zero_le _⟩) rfl ?_
  refine lv_aload_n hx hb d_Cell_beginHour_16 rfl (lv_at hl 1 rfl) ?_
  refine x_get (C := "WallDamp$Cell") (F := F_Cell) (N := 15) hx hb hts i_Cell hown hK hH hT5 (by decide) rfl 10 (by decide) (hts _ m_241) (fun _ h9 => h9) (kd := (0, 20)) rfl rfl d_Cell_beginHour_17 ?_
  refine lv_aload_n hx hb d_Cell_beginHour_20 rfl (lv_at hl 1 rfl) ?_
  obtain ⟨a11, e12, hf⟩ := x_b hf
  refine x_get (C := "WallDamp$Cell") (F := F_Cell) (N := 15) hx hb hts i_Cell hown hK hH hT5 (by decide) rfl 7 (by decide) (hts _ m_233) (fun _ h9 => h9) (kd := (2, 17)) rfl (x_fr e12) d_Cell_beginHour_21 ?_
  obtain ⟨_, e15, hf⟩ := x_b hf
  obtain ⟨n16, hT17⟩ := x_is_e e15
  obtain ⟨q13, e14, hf⟩ := x_b hf
  refine x_callP (st1 := [.int q13, .int (x_I w 20 l0), .int q6, .int q1, .ref (ad l0)]) (x_runV (As := []) (rest := [.int (x_I w 20 l0), .int q6, .int q1, .ref (ad l0)]) ⟨hx, hb, hml, hown, hts⟩ (c_Material_most l D aC ad T nx H.size w a11 q13 e14) (cwV 0 hts (x_gV m_647 m_559 m_560 m_3 m_561) rfl rfl rfl ⟨rfl, pd_Material_most⟩ ⟨Nat.le_of_ble_eq_true rfl, Nat.le_of_ble_eq_true rfl⟩) hH hK hX hT17 (by decide) rfl rfl rfl hl.1 rfl (lv_room (Nat.le_of_ble_eq_true rfl)) d_Cell_beginHour_24 ⟨Nat.zero_le _, Nat.zero_le _⟩) rfl ?_
  refine lv_aload_n hx hb d_Cell_beginHour_27 rfl (lv_at hl 1 rfl) ?_
  refine x_get (C := "WallDamp$Cell") (F := F_Cell) (N := 15) hx hb hts i_Cell hown hK hH hT5 (by decide) rfl 10 (by decide) (hts _ m_241) (fun _ h9 => h9) (kd := (0, 20)) rfl rfl d_Cell_beginHour_28 ?_
  refine lv_isub hx hb d_Cell_beginHour_31 ?_
  obtain ⟨q18, e19, hf⟩ := x_b hf
  refine x_call (st1 := []) (x_runU (As := [.int q1, .int q6, .int (x_I w 20 l0), .int (q13 - (x_I w 20 l0))]) (rest := []) ⟨hx, hb, hml, hown, hts⟩ (c_Place_fixHour l D aC ad T nx H.size w l0 q1 q6 (x_I w 20 l0) (q13 - (x_I w 20 l0)) q18 e19) (va_cwU 4 hts (x_gU m_648 m_649 m_650 m_635 m_8 m_636) rfl rfl rfl rfl pd_Place_fixHour ⟨Nat.le_of_ble_eq_true rfl, Nat.le_of_ble_eq_true rfl⟩) hH hK hX hT5 (by decide) rfl rfl rfl hl.1 rfl (lv_room (Nat.le_of_ble_eq_true rfl)) d_Cell_beginHour_32 ⟨Nat.zero_le _, Nat.zero_le _⟩) rfl hH hA hS (fun H locs hH hS => ?_)
  cases hf
  refine x_sz0 hS (fun hz => ?_)
  exact W.vret hx hb hr (fun t ht hW => ⟨rfl, hS.F ht, by rw [ht]; exact hz, by rw [ht]; exact hH.weaken (fun _ _ _ => trivial)⟩) hS.2.2 d_Cell_beginHour_35
theorem c_Cell_beginHour (l : Launch) (D : va_G) (aC : Nat → ClassId) (ad : Nat → Nat) (T : x_T) (nx sz : Nat) (w : x_W) (a0 : Nat) (a1 : Nat) (q : x_W) (hf : f_Cell_beginHour T w a0 a1 = some q) : Met l y_Cell_beginHour ws_Cell_beginHour { frames := 2, cells := 0, slots := 0, locals := 47 } (x_Pc D aC ad T nx sz w [.ref (ad a0), .ref (ad a1)]) (x_Qc D aC ad T nx none q (x_dom ad nx sz)) 0 0 (x_dom ad nx sz) :=
  x_met [(0, .ref (ad a0)), (1, .ref (ad a1))] (plainFor_of_name (by decide)) rfl rfl (Nat.le_of_ble_eq_true rfl) (fun p e s m args below meth c ls C0 hH hS hl => k_Cell_beginHour C0 w _ _ _ a0 a1 hf hH hS (lv_sub hl [0, 1] rfl))
/-! WallDamp$Cell.endHour()V -/
def f_Cell_endHour_68 (T : x_T) (w : x_W) : Option (x_W) :=
  some w
def f_Cell_endHour_49 (T : x_T) (w : x_W) (l0 : Nat) (l1 : Int32) : Option (x_W) :=
  (x_is T l0 2).bind fun _ =>
  if 0 ≤ (x_I w 0 l0) then
    (f_Cell_endHour_68 T w)
  else
    (if l1 < (9000 : Int32) then
      (f_Cell_endHour_68 T w)
    else
      ((some (x_sI w 24 l0 (1 : Int32))).bind fun w6 =>
      f_Cell_endHour_68 T w6))
def f_Cell_endHour (T : x_T) (w : x_W) (l0 : Nat) : Option (x_W) :=
  (x_is T l0 2).bind fun _ =>
  (f_Cell_dampOfHeld T w l0).bind fun q1 =>
  (f_Math_max T w (x_I w 23 l0) q1).bind fun q6 =>
  (some (x_sI w 23 l0 q6)).bind fun w8 =>
  if (x_I w8 24 l0) = 0 then
    (f_Cell_endHour_49 T w8 l0 q1)
  else
    (if (x_I w8 0 l0) < 0 then
      (f_Cell_endHour_49 T w8 l0 q1)
    else
      ((some (x_sI w8 24 l0 (0 : Int32))).bind fun w12 =>
      (some (x_sI w12 22 l0 ((x_I w12 22 l0) + (1 : Int32)))).bind fun w14 =>
      f_Cell_endHour_68 T w14))
set_option maxHeartbeats 4000000 in
set_option maxRecDepth 100000 in
theorem k_Cell_endHour_68 {p : Program} {l : Launch} {e : Env} {s : State} {m : MethodId} {args : Array Value} {below : List Frame} {meth : Method} {c : Code} {D : va_G} {aC : Nat → ClassId} {ad : Nat → Nat} {T : x_T} {nx : Nat} {A : Nat → Prop} {q : x_W} (C0 : x_At p s m meth c args "WallDamp$Cell" b_Cell_endHour none 2 D aC A) : ∀ (w : x_W) (H : Heap) (locs : List Loc) (ls : Array Slot), f_Cell_endHour_68 T w = some q → x_H D x_cl x_FT aC ad T nx A w H → va_S A s.heap H locs → lv_has ls 2 [] → W p l e { frames := 2, cells := 0, slots := 0, locals := 45 } s m args below meth c H locs 0 0 (MQ below (x_Qc D aC ad T nx none q A) args s 0 0 A) (F0 m 68 ls []) := by
  obtain ⟨hx, hb, hr, hml, hown, hts, hlocks, hK, hA, hX⟩ := id C0
  intro w H locs ls hf hH hS hl
  unfold f_Cell_endHour_68 at hf
  cases hf
  refine x_sz0 hS (fun hz => ?_)
  exact W.vret hx hb hr (fun t ht hW => ⟨rfl, hS.F ht, by rw [ht]; exact hz, by rw [ht]; exact hH.weaken (fun _ _ _ => trivial)⟩) hS.2.2 d_Cell_endHour_68
set_option maxHeartbeats 4000000 in
set_option maxRecDepth 100000 in
theorem k_Cell_endHour_49 {p : Program} {l : Launch} {e : Env} {s : State} {m : MethodId} {args : Array Value} {below : List Frame} {meth : Method} {c : Code} {D : va_G} {aC : Nat → ClassId} {ad : Nat → Nat} {T : x_T} {nx : Nat} {A : Nat → Prop} {q : x_W} (C0 : x_At p s m meth c args "WallDamp$Cell" b_Cell_endHour none 2 D aC A) : ∀ (w : x_W) (H : Heap) (locs : List Loc) (ls : Array Slot) (l0 : Nat) (l1 : Int32), f_Cell_endHour_49 T w l0 l1 = some q → x_H D x_cl x_FT aC ad T nx A w H → va_S A s.heap H locs → lv_has ls 2 [(0, .ref (ad l0)), (1, .int l1)] → W p l e { frames := 2, cells := 0, slots := 0, locals := 45 } s m args below meth c H locs 0 0 (MQ below (x_Qc D aC ad T nx none q A) args s 0 0 A) (F0 m 49 ls []) := by
  obtain ⟨hx, hb, hr, hml, hown, hts, hlocks, hK, hA, hX⟩ := id C0
  intro w H locs ls l0 l1 hf hH hS hl
  unfold f_Cell_endHour_49 at hf
  refine lv_aload_n hx hb d_Cell_endHour_49 rfl (lv_at hl 0 rfl) ?_
  obtain ⟨_, e1, hf⟩ := x_b hf
  obtain ⟨n2, hT3⟩ := x_is_e e1
  refine x_get (C := "WallDamp$Cell") (F := F_Cell) (N := 15) hx hb hts i_Cell hown hK hH hT3 (by decide) rfl 0 (by decide) (hts _ m_187) (u_same (hts _ m_186)) (kd := (0, 0)) rfl rfl d_Cell_endHour_50 ?_
  refine lv_if_ge (tgt := 68) hx hb d_Cell_endHour_53 (by decide) (fun c4 => ?_) (fun c4 => ?_)
  · have hf := x_it hf c4
    exact k_Cell_endHour_68 C0 w _ _ _ hf hH hS (lv_sub hl [] rfl)
  · have hf := x_if hf c4
    refine lv_iload_n hx hb d_Cell_endHour_56 rfl (lv_at hl 1 rfl) ?_
    refine lv_sipush (v := 9000) hx hb d_Cell_endHour_57 (by decide) ?_
    refine lv_icmp_lt (tgt := 68) hx hb d_Cell_endHour_60 (by decide) (fun c5 => ?_) (fun c5 => ?_)
    · have hf := x_it hf c5
      exact k_Cell_endHour_68 C0 w _ _ _ hf hH hS (lv_sub hl [] rfl)
    · have hf := x_if hf c5
      refine lv_aload_n hx hb d_Cell_endHour_63 rfl (lv_at hl 0 rfl) ?_
      refine lv_iconst (v := 1) hx hb d_Cell_endHour_64 (by decide) ?_
      refine x_put (C := "WallDamp$Cell") (F := F_Cell) (N := 15) (ty := t_Cell 14) (v := .int (1 : Int32)) (w' := x_sI w 24 l0 (1 : Int32)) hx hb hts i_Cell t_Cell ty_Cell n_Cell hown hK hH hS hT3 (by decide) rfl rfl 14 (by decide) (hts _ m_249) (fun _ h9 => h9) rfl (ty_Cell 14 (by decide)) rfl rfl (x_on_I hT3 (by decide) rfl nd_Cell) (fun j hj => x_off_I hj) (fun hh ok => x_ok_I hh ok) d_Cell_endHour_65 (fun H locs hH hS => ?_)
      obtain ⟨w6, e7, hf⟩ := x_b hf
      have hH := x_nw e7 hH
      exact k_Cell_endHour_68 C0 w6 _ _ _ hf hH hS (lv_sub hl [] rfl)
set_option maxHeartbeats 4000000 in
set_option maxRecDepth 100000 in
theorem k_Cell_endHour {p : Program} {l : Launch} {e : Env} {s : State} {m : MethodId} {args : Array Value} {below : List Frame} {meth : Method} {c : Code} {D : va_G} {aC : Nat → ClassId} {ad : Nat → Nat} {T : x_T} {nx : Nat} {A : Nat → Prop} {q : x_W} (C0 : x_At p s m meth c args "WallDamp$Cell" b_Cell_endHour none 2 D aC A) : ∀ (w : x_W) (H : Heap) (locs : List Loc) (ls : Array Slot) (l0 : Nat), f_Cell_endHour T w l0 = some q → x_H D x_cl x_FT aC ad T nx A w H → va_S A s.heap H locs → lv_has ls 2 [(0, .ref (ad l0))] → W p l e { frames := 2, cells := 0, slots := 0, locals := 45 } s m args below meth c H locs 0 0 (MQ below (x_Qc D aC ad T nx none q A) args s 0 0 A) (F0 m 0 ls []) := by
  obtain ⟨hx, hb, hr, hml, hown, hts, hlocks, hK, hA, hX⟩ := id C0
  intro w H locs ls l0 hf hH hS hl
  unfold f_Cell_endHour at hf
  refine lv_aload_n hx hb d_Cell_endHour_0 rfl (lv_at hl 0 rfl) ?_
  obtain ⟨_, e3, hf⟩ := x_b hf
  obtain ⟨n4, hT5⟩ := x_is_e e3
  obtain ⟨q1, e2, hf⟩ := x_b hf
  refine x_callP (st1 := [.int q1]) (x_runV (As := []) (rest := []) ⟨hx, hb, hml, hown, hts⟩ (c_Cell_dampOfHeld l D aC ad T nx H.size w l0 q1 e2) (cwV 0 hts (x_gV m_641 m_642 m_643 m_10 m_644) rfl rfl rfl ⟨rfl, pd_Cell_dampOfHeld⟩ ⟨Nat.le_of_ble_eq_true rfl, Nat.le_of_ble_eq_true rfl⟩) hH hK hX hT5 (by decide) rfl rfl rfl hl.1 rfl (lv_room (Nat.le_of_ble_eq_true rfl)) d_Cell_endHour_1 ⟨Nat.zero_le _, Nat.zero_le _⟩) rfl ?_
  refine lv_istore_n (lv' := [(1, .int q1), (0, .ref (ad l0))]) hx hb d_Cell_endHour_4 rfl hl (by decide) rfl (fun ls hl => ?_)
  refine lv_aload_n hx hb d_Cell_endHour_5 rfl (lv_at hl 1 rfl) ?_
  refine lv_aload_n hx hb d_Cell_endHour_6 rfl (lv_at hl 1 rfl) ?_
  refine x_get (C := "WallDamp$Cell") (F := F_Cell) (N := 15) hx hb hts i_Cell hown hK hH hT5 (by decide) rfl 13 (by decide) (hts _ m_247) (fun _ h9 => h9) (kd := (0, 23)) rfl rfl d_Cell_endHour_7 ?_
  refine lv_iload_n hx hb d_Cell_endHour_10 rfl (lv_at hl 0 rfl) ?_
  obtain ⟨q6, e7, hf⟩ := x_b hf
  refine x_callP (st1 := [.int q6, .ref (ad l0)]) (x_runS (As := [.int (x_I w 23 l0), .int q1]) (rest := [.ref (ad l0)]) ⟨hx, hb, hml, hown, hts⟩ (c_Math_max l D aC ad T nx H.size w (x_I w 23 l0) q1 q6 e7) (va_cwS 2 hts (x_gS m_722 m_31 m_2 m_32) rfl rfl rfl pd_Math_max ⟨Nat.le_of_ble_eq_true rfl, Nat.le_of_ble_eq_true rfl⟩) hH hK hX rfl hl.1 rfl (lv_room (Nat.le_of_ble_eq_true rfl)) d_Cell_endHour_11 ⟨Nat.zero_le _, Nat.zero_le _⟩) rfl ?_
  refine x_put (C := "WallDamp$Cell") (F := F_Cell) (N := 15) (ty := t_Cell 13) (v := .int q6) (w' := x_sI w 23 l0 q6) hx hb hts i_Cell t_Cell ty_Cell n_Cell hown hK hH hS hT5 (by decide) rfl rfl 13 (by decide) (hts _ m_247) (fun _ h9 => h9) rfl (ty_Cell 13 (by decide)) rfl rfl (x_on_I hT5 (by decide) rfl nd_Cell) (fun j hj => x_off_I hj) (fun hh ok => x_ok_I hh ok) d_Cell_endHour_14 (fun H locs hH hS => ?_)
  obtain ⟨w8, e9, hf⟩ := x_b hf
  have hH := x_nw e9 hH
  refine lv_aload_n hx hb d_Cell_endHour_17 rfl (lv_at hl 1 rfl) ?_
  refine x_get (C := "WallDamp$Cell") (F := F_Cell) (N := 15) hx hb hts i_Cell hown hK hH hT5 (by decide) rfl 14 (by decide) (hts _ m_249) (fun _ h9 => h9) (kd := (0, 24)) rfl rfl d_Cell_endHour_18 ?_
  refine lv_if_eq (tgt := 49) hx hb d_Cell_endHour_21 (by decide) (fun c10 => ?_) (fun c10 => ?_)
  · have hf := x_it hf c10
    exact k_Cell_endHour_49 C0 w8 _ _ _ l0 q1 hf hH hS (lv_sub hl [1, 0] rfl)
  · have hf := x_if hf c10
    refine lv_aload_n hx hb d_Cell_endHour_24 rfl (lv_at hl 1 rfl) ?_
    refine x_get (C := "WallDamp$Cell") (F := F_Cell) (N := 15) hx hb hts i_Cell hown hK hH hT5 (by decide) rfl 0 (by decide) (hts _ m_187) (u_same (hts _ m_186)) (kd := (0, 0)) rfl rfl d_Cell_endHour_25 ?_
    refine lv_if_lt (tgt := 49) hx hb d_Cell_endHour_28 (by decide) (fun c11 => ?_) (fun c11 => ?_)
    · have hf := x_it hf c11
      exact k_Cell_endHour_49 C0 w8 _ _ _ l0 q1 hf hH hS (lv_sub hl [1, 0] rfl)
    · have hf := x_if hf c11
      refine lv_aload_n hx hb d_Cell_endHour_31 rfl (lv_at hl 1 rfl) ?_
      refine lv_iconst (v := 0) hx hb d_Cell_endHour_32 (by decide) ?_
      refine x_put (C := "WallDamp$Cell") (F := F_Cell) (N := 15) (ty := t_Cell 14) (v := .int (0 : Int32)) (w' := x_sI w8 24 l0 (0 : Int32)) hx hb hts i_Cell t_Cell ty_Cell n_Cell hown hK hH hS hT5 (by decide) rfl rfl 14 (by decide) (hts _ m_249) (fun _ h9 => h9) rfl (ty_Cell 14 (by decide)) rfl rfl (x_on_I hT5 (by decide) rfl nd_Cell) (fun j hj => x_off_I hj) (fun hh ok => x_ok_I hh ok) d_Cell_endHour_33 (fun H locs hH hS => ?_)
      obtain ⟨w12, e13, hf⟩ := x_b hf
      have hH := x_nw e13 hH
      refine lv_aload_n hx hb d_Cell_endHour_36 rfl (lv_at hl 1 rfl) ?_
      refine lv_dup hx hb d_Cell_endHour_37 rfl ?_
      refine x_get (C := "WallDamp$Cell") (F := F_Cell) (N := 15) hx hb hts i_Cell hown hK hH hT5 (by decide) rfl 12 (by decide) (hts _ m_245) (fun _ h9 => h9) (kd := (0, 22)) rfl rfl d_Cell_endHour_38 ?_
      refine lv_iconst (v := 1) hx hb d_Cell_endHour_41 (by decide) ?_
      refine lv_iadd hx hb d_Cell_endHour_42 ?_
      refine x_put (C := "WallDamp$Cell") (F := F_Cell) (N := 15) (ty := t_Cell 12) (v := .int ((x_I w12 22 l0) + (1 : Int32))) (w' := x_sI w12 22 l0 ((x_I w12 22 l0) + (1 : Int32))) hx hb hts i_Cell t_Cell ty_Cell n_Cell hown hK hH hS hT5 (by decide) rfl rfl 12 (by decide) (hts _ m_245) (fun _ h9 => h9) rfl (ty_Cell 12 (by decide)) rfl rfl (x_on_I hT5 (by decide) rfl nd_Cell) (fun j hj => x_off_I hj) (fun hh ok => x_ok_I hh ok) d_Cell_endHour_43 (fun H locs hH hS => ?_)
      obtain ⟨w14, e15, hf⟩ := x_b hf
      have hH := x_nw e15 hH
      refine lv_goto (tgt := 68) hx hb d_Cell_endHour_46 (by decide) ?_
      exact k_Cell_endHour_68 C0 w14 _ _ _ hf hH hS (lv_sub hl [] rfl)
theorem c_Cell_endHour (l : Launch) (D : va_G) (aC : Nat → ClassId) (ad : Nat → Nat) (T : x_T) (nx sz : Nat) (w : x_W) (a0 : Nat) (q : x_W) (hf : f_Cell_endHour T w a0 = some q) : Met l y_Cell_endHour ws_Cell_endHour { frames := 2, cells := 0, slots := 0, locals := 45 } (x_Pc D aC ad T nx sz w [.ref (ad a0)]) (x_Qc D aC ad T nx none q (x_dom ad nx sz)) 0 0 (x_dom ad nx sz) :=
  x_met [(0, .ref (ad a0))] (plainFor_of_name (by decide)) rfl rfl (Nat.le_of_ble_eq_true rfl) (fun p e s m args below meth c ls C0 hH hS hl => k_Cell_endHour C0 w _ _ _ a0 hf hH hS (lv_sub hl [0] rfl))
