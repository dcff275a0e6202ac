/-! WallDamp$Wall.lastCell()LWallDamp$Cell; -/
def f_Wall_lastCell (T : x_T) (w : x_W) (l0 : Nat) : Option (Nat) :=
  (x_is T l0 9).bind fun _ =>
  (x_R w 55 l0).bind fun a4 =>
  (x_R w 55 l0).bind fun a6 =>
  (x_len T a6 104).bind fun n8 =>
  (x_ix T a4 104 ((nI n8) - (1 : Int32))).bind fun _ =>
  (x_Q w a4 ((nI n8) - (1 : Int32)).toNatClampNeg).bind fun a14 =>
  some a14
set_option maxHeartbeats 4000000 in
set_option maxRecDepth 100000 in
theorem k_Wall_lastCell {p : Program} {l : Launch} {e : Env} {s : State} {m : MethodId} {args : Array Value} {below : List Frame} {meth : Method} {c : Code} {D : va_G} {aC : Nat → ClassId} {ad : Nat → Nat} {T : x_T} {nx : Nat} {A : Nat → Prop} {q : Nat} (C0 : x_At p s m meth c args "WallDamp$Wall" b_Wall_lastCell (some (.object "WallDamp$Cell")) 1 D aC A) : ∀ (w : x_W) (ls : Array Slot) (l0 : Nat), f_Wall_lastCell T w l0 = some q → x_H D x_cl x_FT aC ad T nx A w s.heap → lv_has ls 1 [(0, .ref (ad l0))] → W p l e { frames := 0, cells := 0, slots := 0, locals := 0 } s m args below meth c s.heap [] 0 0 (MQ below (x_Qp (some (.ref (ad q)))) args s 0 0 (fun _ => False)) (F0 m 0 ls []) := by
  obtain ⟨hx, hb, hr, hml, hown, hts, hlocks, hK, hA, hX⟩ := id C0
  intro w ls l0 hf hH hl
  unfold f_Wall_lastCell at hf
  refine lv_aload_n hx hb d_Wall_lastCell_0 rfl (lv_at hl 0 rfl) ?_
  obtain ⟨_, e1, hf⟩ := x_b hf
  obtain ⟨n2, hT3⟩ := x_is_e e1
  obtain ⟨a4, e5, hf⟩ := x_b hf
  refine x_get (C := "WallDamp$Wall") (F := F_Wall) (N := 9) hx hb hts i_Wall hown hK hH hT3 (by decide) rfl 0 (by decide) (hts _ m_296) (fun _ h9 => h9) (kd := (2, 55)) rfl (x_fr e5) d_Wall_lastCell_1 ?_
  refine lv_aload_n hx hb d_Wall_lastCell_4 rfl (lv_at hl 0 rfl) ?_
  obtain ⟨a6, e7, hf⟩ := x_b hf
  refine x_get (C := "WallDamp$Wall") (F := F_Wall) (N := 9) hx hb hts i_Wall hown hK hH hT3 (by decide) rfl 0 (by decide) (hts _ m_296) (fun _ h9 => h9) (kd := (2, 55)) rfl (x_fr e7) d_Wall_lastCell_5 ?_
  obtain ⟨n8, e9, hf⟩ := x_b hf
  refine x_alen hx hb hK hH (x_len_e e9) (by decide) 4 rfl d_Wall_lastCell_8 ?_
  refine lv_iconst (v := 1) hx hb d_Wall_lastCell_9 (by decide) ?_
  refine lv_isub hx hb d_Wall_lastCell_10 ?_
  obtain ⟨_, e10, hf⟩ := x_b hf
  obtain ⟨n11, hT12, hi13⟩ := x_ix_e e10
  obtain ⟨a14, e15, hf⟩ := x_b hf
  refine x_aald hx hb hK hH hT12 (by decide) 4 rfl hi13 (x_qr e15) d_Wall_lastCell_11 ?_
  cases hf
  exact W.aret hx hb hr (Or.inl ⟨_, rfl⟩) (Or.inr ⟨_, rfl⟩) (fun t ht hW => ⟨rfl, ht⟩) (fun _ h => by cases h) d_Wall_lastCell_12
theorem c_Wall_lastCell (l : Launch) (D : va_G) (aC : Nat → ClassId) (ad : Nat → Nat) (T : x_T) (nx sz : Nat) (w : x_W) (a0 : Nat) (q : Nat) (hf : f_Wall_lastCell T w a0 = some q) : Met l y_Wall_lastCell ws_Wall_lastCell { frames := 0, cells := 0, slots := 0, locals := 0 } (x_Pc D aC ad T nx sz w [.ref (ad a0)]) (x_Qp (some (.ref (ad q)))) 0 0 (fun _ => False) :=
  x_metP [(0, .ref (ad a0))] (plainFor_of_name (by decide)) rfl rfl (Nat.le_of_ble_eq_true rfl) (fun p e s m args below meth c ls C0 hH hl => k_Wall_lastCell C0 w _ a0 hf hH (lv_sub hl [0] rfl))
/-! WallDamp$Wall.allWater()J -/
def f_Wall_allWater_14 (T : x_T) : Nat → x_W → Int64 → Nat → Int32 → Int32 → Option (Int64)
  | 0, _, _, _, _, _ => none
  | n + 1, w, l1, l3, l4, l5 =>
    if l4 ≤ l5 then
      (some l1)
    else
      ((x_ix T l3 104 l5).bind fun _ =>
      (x_Q w l3 l5.toNatClampNeg).bind fun a6 =>
      (x_is T a6 2).bind fun _ =>
      (some ((l1 + ((x_I w 20 a6).toInt64)))).bind fun v11 =>
      f_Wall_allWater_14 T n w v11 l3 l4 (l5 + 1))
def f_Wall_allWater (T : x_T) (w : x_W) (l0 : Nat) : Option (Int64) :=
  (x_is T l0 9).bind fun _ =>
  (x_R w 55 l0).bind fun a4 =>
  (x_len T a4 104).bind fun n6 =>
  (some ((nI n6))).bind fun v8 =>
  f_Wall_allWater_14 T 1000 w (0 : Int64) a4 v8 (0 : Int32)
set_option maxHeartbeats 4000000 in
set_option maxRecDepth 100000 in
theorem k_Wall_allWater_14 {p : Program} {l : Launch} {e : Env} {s : State} {m : MethodId} {args : Array Value} {below : List Frame} {meth : Method} {c : Code} {D : va_G} {aC : Nat → ClassId} {ad : Nat → Nat} {T : x_T} {nx : Nat} {A : Nat → Prop} {q : Int64} (C0 : x_At p s m meth c args "WallDamp$Wall" b_Wall_allWater (some (.long)) 7 D aC A) : ∀ (n : Nat), ∀ (w : x_W) (ls : Array Slot) (l1 : Int64) (l3 : Nat) (l4 : Int32) (l5 : Int32), f_Wall_allWater_14 T n w l1 l3 l4 l5 = some q → x_H D x_cl x_FT aC ad T nx A w s.heap → lv_has ls 7 [(1, .long l1), (3, .ref (ad l3)), (4, .int l4), (5, .int l5)] → W p l e { frames := 0, cells := 0, slots := 0, locals := 0 } s m args below meth c s.heap [] 0 0 (MQ below (x_Qp (some (.long q))) args s 0 0 (fun _ => False)) (F0 m 14 ls []) := by
  obtain ⟨hx, hb, hr, hml, hown, hts, hlocks, hK, hA, hX⟩ := id C0
  intro n
  induction n with
  | zero => intro w ls l1 l3 l4 l5 hf; cases (show none = some q from hf)
  | succ n ih =>
    intro w ls l1 l3 l4 l5 hf hH hl
    unfold f_Wall_allWater_14 at hf
    refine lv_iload hx hb d_Wall_allWater_14 (lv_at hl 3 rfl) ?_
    refine lv_iload hx hb d_Wall_allWater_16 (lv_at hl 2 rfl) ?_
    refine lv_icmp_ge (tgt := 42) hx hb d_Wall_allWater_18 (by decide) (fun c1 => ?_) (fun c1 => ?_)
    · have hf := x_it hf c1
      refine lv_lload_n hx hb d_Wall_allWater_42 rfl (lv_at hl 0 rfl) ?_
      cases hf
      exact W.lret hx hb hr (fun t ht hW => ⟨rfl, ht⟩) (fun _ h => by cases h) d_Wall_allWater_43
    · have hf := x_if hf c1
      refine lv_aload_n hx hb d_Wall_allWater_21 rfl (lv_at hl 1 rfl) ?_
      refine lv_iload hx hb d_Wall_allWater_22 (lv_at hl 3 rfl) ?_
      obtain ⟨_, e2, hf⟩ := x_b hf
      obtain ⟨n3, hT4, hi5⟩ := x_ix_e e2
      obtain ⟨a6, e7, hf⟩ := x_b hf
      refine x_aald hx hb hK hH hT4 (by decide) 4 rfl hi5 (x_qr e7) d_Wall_allWater_24 ?_
      refine lv_astore (lv' := [(6, .ref (ad a6)), (1, .long l1), (3, .ref (ad l3)), (4, .int l4), (5, .int l5)]) hx hb d_Wall_allWater_25 hl (by decide) rfl (fun ls hl => ?_)
      refine lv_lload_n hx hb d_Wall_allWater_27 rfl (lv_at hl 1 rfl) ?_
      refine lv_aload hx hb d_Wall_allWater_28 (lv_at hl 0 rfl) ?_
      obtain ⟨_, e8, hf⟩ := x_b hf
      obtain ⟨n9, hT10⟩ := x_is_e e8
      refine x_get (C := "WallDamp$Cell") (F := F_Cell) (N := 15) hx hb hts i_Cell hown hK hH hT10 (by decide) rfl 10 (by decide) (hts _ m_242) (fun _ h9 => h9) (kd := (0, 20)) rfl rfl d_Wall_allWater_30 ?_
      refine lv_i2l (v := (x_I w 20 a6).toInt64) hx hb d_Wall_allWater_33 rfl ?_
      refine lv_ladd hx hb d_Wall_allWater_34 ?_
      obtain ⟨v11, e12, hf⟩ := x_b hf
      refine x_nml e12 ?_
      refine lv_lstore_n (lv' := [(1, .long v11), (6, .ref (ad a6)), (3, .ref (ad l3)), (4, .int l4), (5, .int l5)]) hx hb d_Wall_allWater_35 rfl hl (by decide) rfl (fun ls hl => ?_)
      refine lv_iinc (v := (l5 + 1)) (lv' := [(5, .int (l5 + 1)), (1, .long v11), (6, .ref (ad a6)), (3, .ref (ad l3)), (4, .int l4)]) hx hb d_Wall_allWater_36 hl (k := 4) rfl rfl (by decide) rfl (fun ls hl => ?_)
      refine lv_goto (tgt := 14) hx hb d_Wall_allWater_39 (by decide) ?_
      exact ih w _ v11 l3 l4 (l5 + 1) hf hH (lv_sub hl [1, 3, 4, 0] rfl)
set_option maxHeartbeats 4000000 in
set_option maxRecDepth 100000 in
theorem k_Wall_allWater {p : Program} {l : Launch} {e : Env} {s : State} {m : MethodId} {args : Array Value} {below : List Frame} {meth : Method} {c : Code} {D : va_G} {aC : Nat → ClassId} {ad : Nat → Nat} {T : x_T} {nx : Nat} {A : Nat → Prop} {q : Int64} (C0 : x_At p s m meth c args "WallDamp$Wall" b_Wall_allWater (some (.long)) 7 D aC A) : ∀ (w : x_W) (ls : Array Slot) (l0 : Nat), f_Wall_allWater T w l0 = some q → x_H D x_cl x_FT aC ad T nx A w s.heap → lv_has ls 7 [(0, .ref (ad l0))] → W p l e { frames := 0, cells := 0, slots := 0, locals := 0 } s m args below meth c s.heap [] 0 0 (MQ below (x_Qp (some (.long q))) args s 0 0 (fun _ => False)) (F0 m 0 ls []) := by
  obtain ⟨hx, hb, hr, hml, hown, hts, hlocks, hK, hA, hX⟩ := id C0
  intro w ls l0 hf hH hl
  unfold f_Wall_allWater at hf
  refine lv_lconst (v := 0) hx hb d_Wall_allWater_0 (by decide) ?_
  refine lv_lstore_n (lv' := [(1, .long (0 : Int64)), (0, .ref (ad l0))]) hx hb d_Wall_allWater_1 rfl hl (by decide) rfl (fun ls hl => ?_)
  refine lv_aload_n hx hb d_Wall_allWater_2 rfl (lv_at hl 1 rfl) ?_
  obtain ⟨_, e1, hf⟩ := x_b hf
  obtain ⟨n2, hT3⟩ := x_is_e e1
  obtain ⟨a4, e5, hf⟩ := x_b hf
  refine x_get (C := "WallDamp$Wall") (F := F_Wall) (N := 9) hx hb hts i_Wall hown hK hH hT3 (by decide) rfl 0 (by decide) (hts _ m_296) (fun _ h9 => h9) (kd := (2, 55)) rfl (x_fr e5) d_Wall_allWater_3 ?_
  refine lv_astore_n (lv' := [(3, .ref (ad a4)), (1, .long (0 : Int64)), (0, .ref (ad l0))]) hx hb d_Wall_allWater_6 rfl hl (by decide) rfl (fun ls hl => ?_)
  refine lv_aload_n hx hb d_Wall_allWater_7 rfl (lv_at hl 0 rfl) ?_
  obtain ⟨n6, e7, hf⟩ := x_b hf
  refine x_alen hx hb hK hH (x_len_e e7) (by decide) 4 rfl d_Wall_allWater_8 ?_
  obtain ⟨v8, e9, hf⟩ := x_b hf
  refine x_nmi e9 ?_
  refine lv_istore (lv' := [(4, .int v8), (3, .ref (ad a4)), (1, .long (0 : Int64)), (0, .ref (ad l0))]) hx hb d_Wall_allWater_9 hl (by decide) rfl (fun ls hl => ?_)
  refine lv_iconst (v := 0) hx hb d_Wall_allWater_11 (by decide) ?_
  refine lv_istore (lv' := [(5, .int (0 : Int32)), (4, .int v8), (3, .ref (ad a4)), (1, .long (0 : Int64)), (0, .ref (ad l0))]) hx hb d_Wall_allWater_12 hl (by decide) rfl (fun ls hl => ?_)
  exact k_Wall_allWater_14 C0 1000 w _ (0 : Int64) a4 v8 (0 : Int32) hf hH (lv_sub hl [3, 2, 1, 0] rfl)
theorem c_Wall_allWater (l : Launch) (D : va_G) (aC : Nat → ClassId) (ad : Nat → Nat) (T : x_T) (nx sz : Nat) (w : x_W) (a0 : Nat) (q : Int64) (hf : f_Wall_allWater T w a0 = some q) : Met l y_Wall_allWater ws_Wall_allWater { frames := 0, cells := 0, slots := 0, locals := 0 } (x_Pc D aC ad T nx sz w [.ref (ad a0)]) (x_Qp (some (.long q))) 0 0 (fun _ => False) :=
  x_metP [(0, .ref (ad a0))] (plainFor_of_name (by decide)) rfl rfl (Nat.le_of_ble_eq_true rfl) (fun p e s m args below meth c ls C0 hH hl => k_Wall_allWater C0 w _ a0 hf hH (lv_sub hl [0] rfl))
/-! WallDamp$Wall.warmCells(LWallDamp$Surroundings;)V -/
def f_Wall_warmCells_162 (T : x_T) (K119 : x_W → Int64 → Int32 → Int64 → Nat → Int32 → Int32 → Option (x_W)) (w : x_W) (l2 : Int64) (l4 : Int32) (l5 : Int64) (l7 : Nat) (l8 : Int32) (l9 : Int32) (t0 : Nat) (t1 : Int32) : Option (x_W) :=
  (x_is T t0 2).bind fun _ =>
  (some (x_sI w 0 t0 t1)).bind fun w4 =>
  K119 w4 l2 l4 l5 l7 l8 (l9 + 1)
def f_Wall_warmCells_119 (T : x_T) : Nat → x_W → Int64 → Int32 → Int64 → Nat → Int32 → Int32 → Option (x_W)
  | 0, _, _, _, _, _, _, _ => none
  | n + 1, w, l2, l4, l5, l7, l8, l9 =>
    if l8 ≤ l9 then
      (some w)
    else
      ((x_ix T l7 104 l9).bind fun _ =>
      (x_Q w l7 l9.toNatClampNeg).bind fun a6 =>
      if 0 < (lg_cmp l2 (0 : Int64)) then
        ((x_is T a6 2).bind fun _ =>
        (f_Math_floorDiv T w (l5 * (x_J w 21 a6)) l2).bind fun q12 =>
        f_Wall_warmCells_162 T (f_Wall_warmCells_119 T n) w l2 l4 l5 l7 l8 l9 a6 (l4 + (q12.toInt32)))
      else
        (f_Wall_warmCells_162 T (f_Wall_warmCells_119 T n) w l2 l4 l5 l7 l8 l9 a6 l4))
def f_Wall_warmCells_24 (T : x_T) : Nat → x_W → Nat → Nat → Int64 → Nat → Int32 → Int32 → Option (x_W)
  | 0, _, _, _, _, _, _, _ => none
  | n + 1, w, l0, l1, l2, l4, l5, l6 =>
    if l5 ≤ l6 then
      ((x_is T l1 7).bind fun _ =>
      (some ((l2 + ((2 : Int64) * ((x_I w 51 l1).toInt64))))).bind fun v5 =>
      (x_is T l0 9).bind fun _ =>
      (x_R w 56 l0).bind fun a10 =>
      (x_is T a10 1).bind fun _ =>
      (some ((x_I w 0 a10))).bind fun v15 =>
      (x_R w 57 l0).bind fun a17 =>
      (x_is T a17 1).bind fun _ =>
      (some ((((x_I w 0 a17) - v15).toInt64))).bind fun v22 =>
      (x_R w 55 l0).bind fun a24 =>
      (x_len T a24 104).bind fun n26 =>
      (some ((nI n26))).bind fun v28 =>
      f_Wall_warmCells_119 T 1000 w v5 v15 v22 a24 v28 (0 : Int32))
    else
      ((x_ix T l4 104 l6).bind fun _ =>
      (x_Q w l4 l6.toNatClampNeg).bind fun a34 =>
      (x_is T a34 2).bind fun _ =>
      (f_Cell_resistance T w a34).bind fun q36 =>
      (some (x_sJ w 21 a34 (l2 + (q36.toInt64)))).bind fun w41 =>
      (some ((l2 + ((2 : Int64) * (q36.toInt64))))).bind fun v43 =>
      f_Wall_warmCells_24 T n w41 l0 l1 v43 l4 l5 (l6 + 1))
def f_Wall_warmCells (T : x_T) (w : x_W) (l0 : Nat) (l1 : Nat) : Option (x_W) :=
  (x_is T l1 7).bind fun _ =>
  (some (((2 : Int64) * ((x_I w 50 l1).toInt64)))).bind fun v4 =>
  (x_is T l0 9).bind fun _ =>
  (x_R w 55 l0).bind fun a9 =>
  (x_len T a9 104).bind fun n11 =>
  (some ((nI n11))).bind fun v13 =>
  f_Wall_warmCells_24 T 1000 w l0 l1 v4 a9 v13 (0 : Int32)
set_option maxHeartbeats 4000000 in
set_option maxRecDepth 100000 in
theorem k_Wall_warmCells_162 {p : Program} {l : Launch} {e : Env} {s : State} {m : MethodId} {args : Array Value} {below : List Frame} {meth : Method} {c : Code} {D : va_G} {aC : Nat → ClassId} {ad : Nat → Nat} {T : x_T} {nx : Nat} {A : Nat → Prop} {q : x_W} (C0 : x_At p s m meth c args "WallDamp$Wall" b_Wall_warmCells none 11 D aC A) {K119 : x_W → Int64 → Int32 → Int64 → Nat → Int32 → Int32 → Option (x_W)} (hK119 : ∀ (w : x_W) (H : Heap) (locs : List Loc) (ls : Array Slot) (l2 : Int64) (l4 : Int32) (l5 : Int64) (l7 : Nat) (l8 : Int32) (l9 : Int32), K119 w l2 l4 l5 l7 l8 l9 = some q → x_H D x_cl x_FT aC ad T nx A w H → va_S A s.heap H locs → lv_has ls 11 [(2, .long l2), (4, .int l4), (5, .long l5), (7, .ref (ad l7)), (8, .int l8), (9, .int l9)] → W p l e { frames := 1, cells := 0, slots := 0, locals := 25 } s m args below meth c H locs 0 0 (MQ below (x_Qc D aC ad T nx none q A) args s 0 0 A) (F0 m 119 ls [])) : ∀ (w : x_W) (H : Heap) (locs : List Loc) (ls : Array Slot) (l2 : Int64) (l4 : Int32) (l5 : Int64) (l7 : Nat) (l8 : Int32) (l9 : Int32) (t0 : Nat) (t1 : Int32), f_Wall_warmCells_162 T K119 w l2 l4 l5 l7 l8 l9 t0 t1 = some q → x_H D x_cl x_FT aC ad T nx A w H → va_S A s.heap H locs → lv_has ls 11 [(2, .long l2), (4, .int l4), (5, .long l5), (7, .ref (ad l7)), (8, .int l8), (9, .int l9)] → W p l e { frames := 1, cells := 0, slots := 0, locals := 25 } s m args below meth c H locs 0 0 (MQ below (x_Qc D aC ad T nx none q A) args s 0 0 A) (F0 m 162 ls [.int t1, .ref (ad t0)]) := by
  obtain ⟨hx, hb, hr, hml, hown, hts, hlocks, hK, hA, hX⟩ := id C0
  intro w H locs ls l2 l4 l5 l7 l8 l9 t0 t1 hf hH hS hl
  unfold f_Wall_warmCells_162 at hf
  obtain ⟨_, e1, hf⟩ := x_b hf
  obtain ⟨n2, hT3⟩ := x_is_e e1
  refine x_put (C := "WallDamp$Cell") (F := F_Cell) (N := 15) (ty := t_Cell 0) (v := .int t1) (w' := x_sI w 0 t0 t1) hx hb hts i_Cell t_Cell ty_Cell n_Cell hown hK hH hS hT3 (by decide) rfl rfl 0 (by decide) (hts _ m_185) (u_same (hts _ m_186)) rfl (ty_Cell 0 (by decide)) rfl rfl (x_on_I hT3 (by decide) rfl nd_Cell) (fun j hj => x_off_I hj) (fun hh ok => x_ok_I hh ok) d_Wall_warmCells_162 (fun H locs hH hS => ?_)
  obtain ⟨w4, e5, hf⟩ := x_b hf
  have hH := x_nw e5 hH
  refine lv_iinc (v := (l9 + 1)) (lv' := [(9, .int (l9 + 1)), (2, .long l2), (4, .int l4), (5, .long l5), (7, .ref (ad l7)), (8, .int l8)]) hx hb d_Wall_warmCells_165 hl (k := 5) rfl rfl (by decide) rfl (fun ls hl => ?_)
  refine lv_goto (tgt := 119) hx hb d_Wall_warmCells_168 (by decide) ?_
  exact hK119 w4 _ _ _ l2 l4 l5 l7 l8 (l9 + 1) hf hH hS (lv_sub hl [1, 2, 3, 4, 5, 0] rfl)
set_option maxHeartbeats 4000000 in
set_option maxRecDepth 100000 in
theorem k_Wall_warmCells_119 {p : Program} {l : Launch} {e : Env} {s : State} {m : MethodId} {args : Array Value} {below : List Frame} {meth : Method} {c : Code} {D : va_G} {aC : Nat → ClassId} {ad : Nat → Nat} {T : x_T} {nx : Nat} {A : Nat → Prop} {q : x_W} (C0 : x_At p s m meth c args "WallDamp$Wall" b_Wall_warmCells none 11 D aC A) : ∀ (n : Nat), ∀ (w : x_W) (H : Heap) (locs : List Loc) (ls : Array Slot) (l2 : Int64) (l4 : Int32) (l5 : Int64) (l7 : Nat) (l8 : Int32) (l9 : Int32), f_Wall_warmCells_119 T n w l2 l4 l5 l7 l8 l9 = some q → x_H D x_cl x_FT aC ad T nx A w H → va_S A s.heap H locs → lv_has ls 11 [(2, .long l2), (4, .int l4), (5, .long l5), (7, .ref (ad l7)), (8, .int l8), (9, .int l9)] → W p l e { frames := 1, cells := 0, slots := 0, locals := 25 } s m args below meth c H locs 0 0 (MQ below (x_Qc D aC ad T nx none q A) args s 0 0 A) (F0 m 119 ls []) := by
  obtain ⟨hx, hb, hr, hml, hown, hts, hlocks, hK, hA, hX⟩ := id C0
  intro n
  induction n with
  | zero => intro w H locs ls l2 l4 l5 l7 l8 l9 hf; cases (show none = some q from hf)
  | succ n ih =>
    intro w H locs ls l2 l4 l5 l7 l8 l9 hf hH hS hl
    unfold f_Wall_warmCells_119 at hf
    refine lv_iload hx hb d_Wall_warmCells_119 (lv_at hl 5 rfl) ?_
    refine lv_iload hx hb d_Wall_warmCells_121 (lv_at hl 4 rfl) ?_
    refine lv_icmp_ge (tgt := 171) hx hb d_Wall_warmCells_123 (by decide) (fun c1 => ?_) (fun c1 => ?_)
    · have hf := x_it hf c1
      cases hf
      refine x_sz0 hS (fun hz => ?_)
      exact W.vret hx hb hr (fun t ht hW => ⟨rfl, hS.F ht, by rw [ht]; exact hz, by rw [ht]; exact hH.weaken (fun _ _ _ => trivial)⟩) hS.2.2 d_Wall_warmCells_171
    · have hf := x_if hf c1
      refine lv_aload hx hb d_Wall_warmCells_126 (lv_at hl 3 rfl) ?_
      refine lv_iload hx hb d_Wall_warmCells_128 (lv_at hl 5 rfl) ?_
      obtain ⟨_, e2, hf⟩ := x_b hf
      obtain ⟨n3, hT4, hi5⟩ := x_ix_e e2
      obtain ⟨a6, e7, hf⟩ := x_b hf
      refine x_aald hx hb hK hH hT4 (by decide) 4 rfl hi5 (x_qr e7) d_Wall_warmCells_130 ?_
      refine lv_astore (lv' := [(10, .ref (ad a6)), (2, .long l2), (4, .int l4), (5, .long l5), (7, .ref (ad l7)), (8, .int l8), (9, .int l9)]) hx hb d_Wall_warmCells_131 hl (by decide) rfl (fun ls hl => ?_)
      refine lv_aload hx hb d_Wall_warmCells_133 (lv_at hl 0 rfl) ?_
      refine lv_lload_n hx hb d_Wall_warmCells_135 rfl (lv_at hl 1 rfl) ?_
      refine lv_lconst (v := 0) hx hb d_Wall_warmCells_136 (by decide) ?_
      refine W.lcmp hx hb d_Wall_warmCells_137 ?_
      refine lv_if_gt (tgt := 146) hx hb d_Wall_warmCells_138 (by decide) (fun c8 => ?_) (fun c8 => ?_)
      · have hf := x_it hf c8
        refine lv_iload hx hb d_Wall_warmCells_146 (lv_at hl 2 rfl) ?_
        refine lv_lload hx hb d_Wall_warmCells_148 (lv_at hl 3 rfl) ?_
        refine lv_aload hx hb d_Wall_warmCells_150 (lv_at hl 0 rfl) ?_
        obtain ⟨_, e9, hf⟩ := x_b hf
        obtain ⟨n10, hT11⟩ := x_is_e e9
        refine x_get (C := "WallDamp$Cell") (F := F_Cell) (N := 15) hx hb hts i_Cell hown hK hH hT11 (by decide) rfl 11 (by decide) (hts _ m_244) (fun _ h9 => h9) (kd := (1, 21)) rfl rfl d_Wall_warmCells_152 ?_
        refine lv_lmul hx hb d_Wall_warmCells_155 ?_
        refine lv_lload_n hx hb d_Wall_warmCells_156 rfl (lv_at hl 1 rfl) ?_
        obtain ⟨q12, e13, hf⟩ := x_b hf
        refine x_callP (st1 := [.long q12, .int l4, .ref (ad a6)]) (x_runS (As := [.long (l5 * (x_J w 21 a6)), .long l2]) (rest := [.int l4, .ref (ad a6)]) ⟨hx, hb, hml, hown, hts⟩ (c_Math_floorDiv l D aC ad T nx H.size w (l5 * (x_J w 21 a6)) l2 q12 e13) (va_cwS 2 hts (x_gS m_617 m_618 m_2 m_619) rfl rfl rfl pd_Math_floorDiv ⟨Nat.le_of_ble_eq_true rfl, Nat.le_of_ble_eq_true rfl⟩) hH hK hX rfl hl.1 rfl (lv_room (Nat.le_of_ble_eq_true rfl)) d_Wall_warmCells_157 ⟨Nat.zero_le _, Nat.zero_le _⟩) rfl ?_
        refine lv_l2i (v := q12.toInt32) hx hb d_Wall_warmCells_160 rfl ?_
        refine lv_iadd hx hb d_Wall_warmCells_161 ?_
        exact k_Wall_warmCells_162 C0 ih w _ _ _ l2 l4 l5 l7 l8 l9 a6 (l4 + (q12.toInt32)) hf hH hS (lv_sub hl [1, 2, 3, 4, 5, 6] rfl)
      · have hf := x_if hf c8
        refine lv_iload hx hb d_Wall_warmCells_141 (lv_at hl 2 rfl) ?_
        refine lv_goto (tgt := 162) hx hb d_Wall_warmCells_143 (by decide) ?_
        exact k_Wall_warmCells_162 C0 ih w _ _ _ l2 l4 l5 l7 l8 l9 a6 l4 hf hH hS (lv_sub hl [1, 2, 3, 4, 5, 6] rfl)
set_option maxHeartbeats 4000000 in
set_option maxRecDepth 100000 in
theorem k_Wall_warmCells_24 {p : Program} {l : Launch} {e : Env} {s : State} {m : MethodId} {args : Array Value} {below : List Frame} {meth : Method} {c : Code} {D : va_G} {aC : Nat → ClassId} {ad : Nat → Nat} {T : x_T} {nx : Nat} {A : Nat → Prop} {q : x_W} (C0 : x_At p s m meth c args "WallDamp$Wall" b_Wall_warmCells none 11 D aC A) : ∀ (n : Nat), ∀ (w : x_W) (H : Heap) (locs : List Loc) (ls : Array Slot) (l0 : Nat) (l1 : Nat) (l2 : Int64) (l4 : Nat) (l5 : Int32) (l6 : Int32), f_Wall_warmCells_24 T n w l0 l1 l2 l4 l5 l6 = some q → x_H D x_cl x_FT aC ad T nx A w H → va_S A s.heap H locs → lv_has ls 11 [(0, .ref (ad l0)), (1, .ref (ad l1)), (2, .long l2), (4, .ref (ad l4)), (5, .int l5), (6, .int l6)] → W p l e { frames := 1, cells := 0, slots := 0, locals := 25 } s m args below meth c H locs 0 0 (MQ below (x_Qc D aC ad T nx none q A) args s 0 0 A) (F0 m 24 ls []) := by
  obtain ⟨hx, hb, hr, hml, hown, hts, hlocks, hK, hA, hX⟩ := id C0
  intro n
  induction n with
  | zero => intro w H locs ls l0 l1 l2 l4 l5 l6 hf; cases (show none = some q from hf)
  | succ n ih =>
    intro w H locs ls l0 l1 l2 l4 l5 l6 hf hH hS hl
    unfold f_Wall_warmCells_24 at hf
    refine lv_iload hx hb d_Wall_warmCells_24 (lv_at hl 5 rfl) ?_
    refine lv_iload hx hb d_Wall_warmCells_26 (lv_at hl 4 rfl) ?_
    refine lv_icmp_ge (tgt := 71) hx hb d_Wall_warmCells_28 (by decide) (fun c1 => ?_) (fun c1 => ?_)
    · have hf := x_it hf c1
      refine lv_lload_n hx hb d_Wall_warmCells_71 rfl (lv_at hl 2 rfl) ?_
      refine lv_ldc2 (v := (2 : Int64)) hx hb hown (hts _ m_612) d_Wall_warmCells_72 ?_
      refine lv_aload_n hx hb d_Wall_warmCells_75 rfl (lv_at hl 1 rfl) ?_
      obtain ⟨_, e2, hf⟩ := x_b hf
      obtain ⟨n3, hT4⟩ := x_is_e e2
      refine x_get (C := "WallDamp$Surroundings") (F := F_Surroundings) (N := 9) hx hb hts i_Surroundings hown hK hH hT4 (by decide) rfl 8 (by decide) (hts _ m_118) (fun _ h9 => h9) (kd := (0, 51)) rfl rfl d_Wall_warmCells_76 ?_
      refine lv_i2l (v := (x_I w 51 l1).toInt64) hx hb d_Wall_warmCells_79 rfl ?_
      refine lv_lmul hx hb d_Wall_warmCells_80 ?_
      refine lv_ladd hx hb d_Wall_warmCells_81 ?_
      obtain ⟨v5, e6, hf⟩ := x_b hf
      refine x_nml e6 ?_
      refine lv_lstore_n (lv' := [(2, .long v5), (0, .ref (ad l0)), (1, .ref (ad l1)), (4, .ref (ad l4)), (5, .int l5), (6, .int l6)]) hx hb d_Wall_warmCells_82 rfl hl (by decide) rfl (fun ls hl => ?_)
      refine lv_aload_n hx hb d_Wall_warmCells_83 rfl (lv_at hl 1 rfl) ?_
      obtain ⟨_, e7, hf⟩ := x_b hf
      obtain ⟨n8, hT9⟩ := x_is_e e7
      obtain ⟨a10, e11, hf⟩ := x_b hf
      refine x_get (C := "WallDamp$Wall") (F := F_Wall) (N := 9) hx hb hts i_Wall hown hK hH hT9 (by decide) rfl 1 (by decide) (hts _ m_299) (fun _ h9 => h9) (kd := (2, 56)) rfl (x_fr e11) d_Wall_warmCells_84 ?_
      obtain ⟨_, e12, hf⟩ := x_b hf
      obtain ⟨n13, hT14⟩ := x_is_e e12
      refine x_get (C := "WallDamp$Air") (F := F_Air) (N := 9) hx hb hts i_Air hown hK hH hT14 (by decide) rfl 0 (by decide) (hts _ m_184) (u_same (hts _ m_183)) (kd := (0, 0)) rfl rfl d_Wall_warmCells_87 ?_
      obtain ⟨v15, e16, hf⟩ := x_b hf
      refine x_nmi e16 ?_
      refine lv_istore (lv' := [(4, .int v15), (2, .long v5), (0, .ref (ad l0)), (1, .ref (ad l1)), (5, .int l5), (6, .int l6)]) hx hb d_Wall_warmCells_90 hl (by decide) rfl (fun ls hl => ?_)
      refine lv_aload_n hx hb d_Wall_warmCells_92 rfl (lv_at hl 2 rfl) ?_
      obtain ⟨a17, e18, hf⟩ := x_b hf
      refine x_get (C := "WallDamp$Wall") (F := F_Wall) (N := 9) hx hb hts i_Wall hown hK hH hT9 (by decide) rfl 2 (by decide) (hts _ m_301) (fun _ h9 => h9) (kd := (2, 57)) rfl (x_fr e18) d_Wall_warmCells_93 ?_
      obtain ⟨_, e19, hf⟩ := x_b hf
      obtain ⟨n20, hT21⟩ := x_is_e e19
      refine x_get (C := "WallDamp$Air") (F := F_Air) (N := 9) hx hb hts i_Air hown hK hH hT21 (by decide) rfl 0 (by decide) (hts _ m_184) (u_same (hts _ m_183)) (kd := (0, 0)) rfl rfl d_Wall_warmCells_96 ?_
      refine lv_iload hx hb d_Wall_warmCells_99 (lv_at hl 0 rfl) ?_
      refine lv_isub hx hb d_Wall_warmCells_101 ?_
      refine lv_i2l (v := ((x_I w 0 a17) - v15).toInt64) hx hb d_Wall_warmCells_102 rfl ?_
      obtain ⟨v22, e23, hf⟩ := x_b hf
      refine x_nml e23 ?_
      refine lv_lstore (lv' := [(5, .long v22), (4, .int v15), (2, .long v5), (0, .ref (ad l0)), (1, .ref (ad l1))]) hx hb d_Wall_warmCells_103 hl (by decide) rfl (fun ls hl => ?_)
      refine lv_aload_n hx hb d_Wall_warmCells_105 rfl (lv_at hl 3 rfl) ?_
      obtain ⟨a24, e25, hf⟩ := x_b hf
      refine x_get (C := "WallDamp$Wall") (F := F_Wall) (N := 9) hx hb hts i_Wall hown hK hH hT9 (by decide) rfl 0 (by decide) (hts _ m_296) (fun _ h9 => h9) (kd := (2, 55)) rfl (x_fr e25) d_Wall_warmCells_106 ?_
      refine lv_astore (lv' := [(7, .ref (ad a24)), (5, .long v22), (4, .int v15), (2, .long v5), (0, .ref (ad l0)), (1, .ref (ad l1))]) hx hb d_Wall_warmCells_109 hl (by decide) rfl (fun ls hl => ?_)
      refine lv_aload hx hb d_Wall_warmCells_111 (lv_at hl 0 rfl) ?_
      obtain ⟨n26, e27, hf⟩ := x_b hf
      refine x_alen hx hb hK hH (x_len_e e27) (by decide) 4 rfl d_Wall_warmCells_113 ?_
      obtain ⟨v28, e29, hf⟩ := x_b hf
      refine x_nmi e29 ?_
      refine lv_istore (lv' := [(8, .int v28), (7, .ref (ad a24)), (5, .long v22), (4, .int v15), (2, .long v5), (0, .ref (ad l0)), (1, .ref (ad l1))]) hx hb d_Wall_warmCells_114 hl (by decide) rfl (fun ls hl => ?_)
      refine lv_iconst (v := 0) hx hb d_Wall_warmCells_116 (by decide) ?_
      refine lv_istore (lv' := [(9, .int (0 : Int32)), (8, .int v28), (7, .ref (ad a24)), (5, .long v22), (4, .int v15), (2, .long v5), (0, .ref (ad l0)), (1, .ref (ad l1))]) hx hb d_Wall_warmCells_117 hl (by decide) rfl (fun ls hl => ?_)
      exact k_Wall_warmCells_119 C0 1000 w _ _ _ v5 v15 v22 a24 v28 (0 : Int32) hf hH hS (lv_sub hl [5, 4, 3, 2, 1, 0] rfl)
    · have hf := x_if hf c1
      refine lv_aload hx hb d_Wall_warmCells_31 (lv_at hl 3 rfl) ?_
      refine lv_iload hx hb d_Wall_warmCells_33 (lv_at hl 5 rfl) ?_
      obtain ⟨_, e30, hf⟩ := x_b hf
      obtain ⟨n31, hT32, hi33⟩ := x_ix_e e30
      obtain ⟨a34, e35, hf⟩ := x_b hf
      refine x_aald hx hb hK hH hT32 (by decide) 4 rfl hi33 (x_qr e35) d_Wall_warmCells_35 ?_
      refine lv_astore (lv' := [(7, .ref (ad a34)), (0, .ref (ad l0)), (1, .ref (ad l1)), (2, .long l2), (4, .ref (ad l4)), (5, .int l5), (6, .int l6)]) hx hb d_Wall_warmCells_36 hl (by decide) rfl (fun ls hl => ?_)
      refine lv_aload hx hb d_Wall_warmCells_38 (lv_at hl 0 rfl) ?_
      obtain ⟨_, e38, hf⟩ := x_b hf
      obtain ⟨n39, hT40⟩ := x_is_e e38
      obtain ⟨q36, e37, hf⟩ := x_b hf
      refine x_callP (st1 := [.int q36]) (x_runV (As := []) (rest := []) ⟨hx, hb, hml, hown, hts⟩ (c_Cell_resistance l D aC ad T nx H.size w a34 q36 e37) (cwV 0 hts (x_gV m_613 m_614 m_615 m_10 m_616) rfl rfl rfl ⟨rfl, pd_Cell_resistance⟩ ⟨Nat.le_of_ble_eq_true rfl, Nat.le_of_ble_eq_true rfl⟩) hH hK hX hT40 (by decide) rfl rfl rfl hl.1 rfl (lv_room (Nat.le_of_ble_eq_true rfl)) d_Wall_warmCells_40 ⟨Nat.zero_le _, Nat.zero_le _⟩) rfl ?_
      refine lv_istore (lv' := [(8, .int q36), (7, .ref (ad a34)), (0, .ref (ad l0)), (1, .ref (ad l1)), (2, .long l2), (4, .ref (ad l4)), (5, .int l5), (6, .int l6)]) hx hb d_Wall_warmCells_43 hl (by decide) rfl (fun ls hl => ?_)
      refine lv_aload hx hb d_Wall_warmCells_45 (lv_at hl 1 rfl) ?_
      refine lv_lload_n hx hb d_Wall_warmCells_47 rfl (lv_at hl 4 rfl) ?_
      refine lv_iload hx hb d_Wall_warmCells_48 (lv_at hl 0 rfl) ?_
      refine lv_i2l (v := q36.toInt64) hx hb d_Wall_warmCells_50 rfl ?_
      refine lv_ladd hx hb d_Wall_warmCells_51 ?_
      refine x_put (C := "WallDamp$Cell") (F := F_Cell) (N := 15) (ty := t_Cell 11) (v := .long (l2 + (q36.toInt64))) (w' := x_sJ w 21 a34 (l2 + (q36.toInt64))) hx hb hts i_Cell t_Cell ty_Cell n_Cell hown hK hH hS hT40 (by decide) rfl rfl 11 (by decide) (hts _ m_244) (fun _ h9 => h9) rfl (ty_Cell 11 (by decide)) rfl rfl (x_on_J hT40 (by decide) rfl nd_Cell) (fun j hj => x_off_J hj) (fun hh ok => x_ok_J hh ok) d_Wall_warmCells_52 (fun H locs hH hS => ?_)
      obtain ⟨w41, e42, hf⟩ := x_b hf
      have hH := x_nw e42 hH
      refine lv_lload_n hx hb d_Wall_warmCells_55 rfl (lv_at hl 4 rfl) ?_
      refine lv_ldc2 (v := (2 : Int64)) hx hb hown (hts _ m_612) d_Wall_warmCells_56 ?_
      refine lv_iload hx hb d_Wall_warmCells_59 (lv_at hl 0 rfl) ?_
      refine lv_i2l (v := q36.toInt64) hx hb d_Wall_warmCells_61 rfl ?_
      refine lv_lmul hx hb d_Wall_warmCells_62 ?_
      refine lv_ladd hx hb d_Wall_warmCells_63 ?_
      obtain ⟨v43, e44, hf⟩ := x_b hf
      refine x_nml e44 ?_
      refine lv_lstore_n (lv' := [(2, .long v43), (8, .int q36), (7, .ref (ad a34)), (0, .ref (ad l0)), (1, .ref (ad l1)), (4, .ref (ad l4)), (5, .int l5), (6, .int l6)]) hx hb d_Wall_warmCells_64 rfl hl (by decide) rfl (fun ls hl => ?_)
      refine lv_iinc (v := (l6 + 1)) (lv' := [(6, .int (l6 + 1)), (2, .long v43), (8, .int q36), (7, .ref (ad a34)), (0, .ref (ad l0)), (1, .ref (ad l1)), (4, .ref (ad l4)), (5, .int l5)]) hx hb d_Wall_warmCells_65 hl (k := 7) rfl rfl (by decide) rfl (fun ls hl => ?_)
      refine lv_goto (tgt := 24) hx hb d_Wall_warmCells_68 (by decide) ?_
      exact ih w41 _ _ _ l0 l1 v43 l4 l5 (l6 + 1) hf hH hS (lv_sub hl [4, 5, 1, 6, 7, 0] rfl)
set_option maxHeartbeats 4000000 in
set_option maxRecDepth 100000 in
theorem k_Wall_warmCells {p : Program} {l : Launch} {e : Env} {s : State} {m : MethodId} {args : Array Value} {below : List Frame} {meth : Method} {c : Code} {D : va_G} {aC : Nat → ClassId} {ad : Nat → Nat} {T : x_T} {nx : Nat} {A : Nat → Prop} {q : x_W} (C0 : x_At p s m meth c args "WallDamp$Wall" b_Wall_warmCells none 11 D aC A) : ∀ (w : x_W) (H : Heap) (locs : List Loc) (ls : Array Slot) (l0 : Nat) (l1 : Nat), f_Wall_warmCells T w l0 l1 = some q → x_H D x_cl x_FT aC ad T nx A w H → va_S A s.heap H locs → lv_has ls 11 [(0, .ref (ad l0)), (1, .ref (ad l1))] → W p l e { frames := 1, cells := 0, slots := 0, locals := 25 } s m args below meth c H locs 0 0 (MQ below (x_Qc D aC ad T nx none q A) args s 0 0 A) (F0 m 0 ls []) := by
  obtain ⟨hx, hb, hr, hml, hown, hts, hlocks, hK, hA, hX⟩ := id C0
  intro w H locs ls l0 l1 hf hH hS hl
  unfold f_Wall_warmCells at hf
  refine lv_ldc2 (v := (2 : Int64)) hx hb hown (hts _ m_612) d_Wall_warmCells_0 ?_
  refine lv_aload_n hx hb d_Wall_warmCells_3 rfl (lv_at hl 1 rfl) ?_
  obtain ⟨_, e1, hf⟩ := x_b hf
  obtain ⟨n2, hT3⟩ := x_is_e e1
  refine x_get (C := "WallDamp$Surroundings") (F := F_Surroundings) (N := 9) hx hb hts i_Surroundings hown hK hH hT3 (by decide) rfl 7 (by decide) (hts _ m_115) (fun _ h9 => h9) (kd := (0, 50)) rfl rfl d_Wall_warmCells_4 ?_
  refine lv_i2l (v := (x_I w 50 l1).toInt64) hx hb d_Wall_warmCells_7 rfl ?_
  refine lv_lmul hx hb d_Wall_warmCells_8 ?_
  obtain ⟨v4, e5, hf⟩ := x_b hf
  refine x_nml e5 ?_
  refine lv_lstore_n (lv' := [(2, .long v4), (0, .ref (ad l0)), (1, .ref (ad l1))]) hx hb d_Wall_warmCells_9 rfl hl (by decide) rfl (fun ls hl => ?_)
  refine lv_aload_n hx hb d_Wall_warmCells_10 rfl (lv_at hl 1 rfl) ?_
  obtain ⟨_, e6, hf⟩ := x_b hf
  obtain ⟨n7, hT8⟩ := x_is_e e6
  obtain ⟨a9, e10, hf⟩ := x_b hf
  refine x_get (C := "WallDamp$Wall") (F := F_Wall) (N := 9) hx hb hts i_Wall hown hK hH hT8 (by decide) rfl 0 (by decide) (hts _ m_296) (fun _ h9 => h9) (kd := (2, 55)) rfl (x_fr e10) d_Wall_warmCells_11 ?_
  refine lv_astore (lv' := [(4, .ref (ad a9)), (2, .long v4), (0, .ref (ad l0)), (1, .ref (ad l1))]) hx hb d_Wall_warmCells_14 hl (by decide) rfl (fun ls hl => ?_)
  refine lv_aload hx hb d_Wall_warmCells_16 (lv_at hl 0 rfl) ?_
  obtain ⟨n11, e12, hf⟩ := x_b hf
  refine x_alen hx hb hK hH (x_len_e e12) (by decide) 4 rfl d_Wall_warmCells_18 ?_
  obtain ⟨v13, e14, hf⟩ := x_b hf
  refine x_nmi e14 ?_
  refine lv_istore (lv' := [(5, .int v13), (4, .ref (ad a9)), (2, .long v4), (0, .ref (ad l0)), (1, .ref (ad l1))]) hx hb d_Wall_warmCells_19 hl (by decide) rfl (fun ls hl => ?_)
  refine lv_iconst (v := 0) hx hb d_Wall_warmCells_21 (by decide) ?_
  refine lv_istore (lv' := [(6, .int (0 : Int32)), (5, .int v13), (4, .ref (ad a9)), (2, .long v4), (0, .ref (ad l0)), (1, .ref (ad l1))]) hx hb d_Wall_warmCells_22 hl (by decide) rfl (fun ls hl => ?_)
  exact k_Wall_warmCells_24 C0 1000 w _ _ _ l0 l1 v4 a9 v13 (0 : Int32) hf hH hS (lv_sub hl [4, 5, 3, 2, 1, 0] rfl)
theorem c_Wall_warmCells (l : Launch) (D : va_G) (aC : Nat → ClassId) (ad : Nat → Nat) (T : x_T) (nx sz : Nat) (w : x_W) (a0 : Nat) (a1 : Nat) (q : x_W) (hf : f_Wall_warmCells T w a0 a1 = some q) : Met l y_Wall_warmCells ws_Wall_warmCells { frames := 1, cells := 0, slots := 0, locals := 25 } (x_Pc D aC ad T nx sz w [.ref (ad a0), .ref (ad a1)]) (x_Qc D aC ad T nx none q (x_dom ad nx sz)) 0 0 (x_dom ad nx sz) :=
  x_met [(0, .ref (ad a0)), (1, .ref (ad a1))] (plainFor_of_name (by decide)) rfl rfl (Nat.le_of_ble_eq_true rfl) (fun p e s m args below meth c ls C0 hH hS hl => k_Wall_warmCells C0 w _ _ _ a0 a1 hf hH hS (lv_sub hl [0, 1] rfl))
/-! WallDamp$Wall.setAirFlows(I)V -/
def f_Wall_setAirFlows_174 (T : x_T) (w : x_W) : Option (x_W) :=
  some w
def f_Wall_setAirFlows_96 (T : x_T) : Nat → x_W → Nat → Int32 → Option (x_W)
  | 0, _, _, _ => none
  | n + 1, w, l0, l4 =>
    (x_is T l0 9).bind fun _ =>
    (x_R w 61 l0).bind fun a4 =>
    (x_len T a4 105).bind fun n6 =>
    if (nI n6) ≤ l4 then
      (f_Wall_setAirFlows_174 T w)
    else
      ((x_R w 55 l0).bind fun a9 =>
      (x_len T a9 104).bind fun n11 =>
      if (nI n11) ≤ l4 then
        (f_Wall_setAirFlows_174 T w)
      else
        ((x_R w 57 l0).bind fun a14 =>
        (x_is T a14 1).bind fun _ =>
        (x_R w 55 l0).bind fun a19 =>
        (x_ix T a19 104 l4).bind fun _ =>
        (x_Q w a19 l4.toNatClampNeg).bind fun a25 =>
        (x_is T a25 2).bind fun _ =>
        (f_Math_max T w (0 : Int32) ((x_I w 2 a14) - (x_I w 2 a25))).bind fun q30 =>
        (x_R w 61 l0).bind fun a32 =>
        (x_ix T a32 105 l4).bind fun _ =>
        (x_Q w a32 l4.toNatClampNeg).bind fun a38 =>
        (x_R w 55 l0).bind fun a40 =>
        (x_ix T a40 104 l4).bind fun _ =>
        (x_Q w a40 l4.toNatClampNeg).bind fun a46 =>
        (x_is T a46 2).bind fun _ =>
        (x_is T a38 4).bind fun _ =>
        (f_Flow_setInward T w a38 (-((q30 * (x_I w 19 a46)) / (1000 : Int32)))).bind fun q51 =>
        f_Wall_setAirFlows_96 T n q51 l0 (l4 + 1)))
def f_Wall_setAirFlows (T : x_T) (w : x_W) (l0 : Nat) (l1 : Int32) : Option (x_W) :=
  (x_is T l0 9).bind fun _ =>
  (x_R w 55 l0).bind fun a4 =>
  (x_ix T a4 104 (0 : Int32)).bind fun _ =>
  (x_Q w a4 (0 : Int32).toNatClampNeg).bind fun a10 =>
  (f_Wall_lastCell T w l0).bind fun q12 =>
  (x_R w 58 l0).bind fun a14 =>
  (x_R w 56 l0).bind fun a16 =>
  (x_is T a16 1).bind fun _ =>
  (x_is T a10 2).bind fun _ =>
  (x_R w 17 a10).bind fun a24 =>
  (x_is T a24 5).bind fun _ =>
  (x_is T a14 4).bind fun _ =>
  (f_Flow_setInward T w a14 ((((x_I w 2 a16) - (x_I w 2 a10)) * (x_I w 35 a24)) / (1000 : Int32))).bind fun q29 =>
  (x_R q29 59 l0).bind fun a34 =>
  (x_is T q12 2).bind fun _ =>
  (x_R q29 57 l0).bind fun a39 =>
  (x_is T a39 1).bind fun _ =>
  (x_R q29 17 q12).bind fun a44 =>
  (x_is T a44 5).bind fun _ =>
  (x_is T a34 4).bind fun _ =>
  (f_Flow_setInward T q29 a34 ((((x_I q29 2 q12) - (x_I q29 2 a39)) * (x_I q29 35 a44)) / (1000 : Int32))).bind fun q49 =>
  (x_R q49 60 l0).bind fun a54 =>
  (x_R q49 17 a10).bind fun a56 =>
  (x_is T a56 5).bind fun _ =>
  (x_is T a54 4).bind fun _ =>
  (f_Flow_setInward T q49 a54 ((l1 * (x_I q49 36 a56)) / (100 : Int32))).bind fun q61 =>
  f_Wall_setAirFlows_96 T 1000 q61 l0 (0 : Int32)
set_option maxHeartbeats 4000000 in
set_option maxRecDepth 100000 in
theorem k_Wall_setAirFlows_174 {p : Program} {l : Launch} {e : Env} {s : State} {m : MethodId} {args : Array Value} {below : List Frame} {meth : Method} {c : Code} {D : va_G} {aC : Nat → ClassId} {ad : Nat → Nat} {T : x_T} {nx : Nat} {A : Nat → Prop} {q : x_W} (C0 : x_At p s m meth c args "WallDamp$Wall" b_Wall_setAirFlows none 6 D aC A) : ∀ (w : x_W) (H : Heap) (locs : List Loc) (ls : Array Slot), f_Wall_setAirFlows_174 T w = some q → x_H D x_cl x_FT aC ad T nx A w H → va_S A s.heap H locs → lv_has ls 6 [] → W p l e { frames := 1, cells := 0, slots := 0, locals := 21 } s m args below meth c H locs 0 0 (MQ below (x_Qc D aC ad T nx none q A) args s 0 0 A) (F0 m 174 ls []) := by
  obtain ⟨hx, hb, hr, hml, hown, hts, hlocks, hK, hA, hX⟩ := id C0
  intro w H locs ls hf hH hS hl
  unfold f_Wall_setAirFlows_174 at hf
  cases hf
  refine x_sz0 hS (fun hz => ?_)
  exact W.vret hx hb hr (fun t ht hW => ⟨rfl, hS.F ht, by rw [ht]; exact hz, by rw [ht]; exact hH.weaken (fun _ _ _ => trivial)⟩) hS.2.2 d_Wall_setAirFlows_174
set_option maxHeartbeats 4000000 in
set_option maxRecDepth 100000 in
theorem k_Wall_setAirFlows_96 {p : Program} {l : Launch} {e : Env} {s : State} {m : MethodId} {args : Array Value} {below : List Frame} {meth : Method} {c : Code} {D : va_G} {aC : Nat → ClassId} {ad : Nat → Nat} {T : x_T} {nx : Nat} {A : Nat → Prop} {q : x_W} (C0 : x_At p s m meth c args "WallDamp$Wall" b_Wall_setAirFlows none 6 D aC A) : ∀ (n : Nat), ∀ (w : x_W) (H : Heap) (locs : List Loc) (ls : Array Slot) (l0 : Nat) (l4 : Int32), f_Wall_setAirFlows_96 T n w l0 l4 = some q → x_H D x_cl x_FT aC ad T nx A w H → va_S A s.heap H locs → lv_has ls 6 [(0, .ref (ad l0)), (4, .int l4)] → W p l e { frames := 1, cells := 0, slots := 0, locals := 21 } s m args below meth c H locs 0 0 (MQ below (x_Qc D aC ad T nx none q A) args s 0 0 A) (F0 m 96 ls []) := by
  obtain ⟨hx, hb, hr, hml, hown, hts, hlocks, hK, hA, hX⟩ := id C0
  intro n
  induction n with
  | zero => intro w H locs ls l0 l4 hf; cases (show none = some q from hf)
  | succ n ih =>
    intro w H locs ls l0 l4 hf hH hS hl
    unfold f_Wall_setAirFlows_96 at hf
    refine lv_iload hx hb d_Wall_setAirFlows_96 (lv_at hl 1 rfl) ?_
    refine lv_aload_n hx hb d_Wall_setAirFlows_98 rfl (lv_at hl 0 rfl) ?_
    obtain ⟨_, e1, hf⟩ := x_b hf
    obtain ⟨n2, hT3⟩ := x_is_e e1
    obtain ⟨a4, e5, hf⟩ := x_b hf
    refine x_get (C := "WallDamp$Wall") (F := F_Wall) (N := 9) hx hb hts i_Wall hown hK hH hT3 (by decide) rfl 6 (by decide) (hts _ m_306) (fun _ h9 => h9) (kd := (2, 61)) rfl (x_fr e5) d_Wall_setAirFlows_99 ?_
    obtain ⟨n6, e7, hf⟩ := x_b hf
    refine x_alen hx hb hK hH (x_len_e e7) (by decide) 5 rfl d_Wall_setAirFlows_102 ?_
    refine lv_icmp_ge (tgt := 174) hx hb d_Wall_setAirFlows_103 (by decide) (fun c8 => ?_) (fun c8 => ?_)
    · have hf := x_it hf c8
      exact k_Wall_setAirFlows_174 C0 w _ _ _ hf hH hS (lv_sub hl [] rfl)
    · have hf := x_if hf c8
      refine lv_iload hx hb d_Wall_setAirFlows_106 (lv_at hl 1 rfl) ?_
      refine lv_aload_n hx hb d_Wall_setAirFlows_108 rfl (lv_at hl 0 rfl) ?_
      obtain ⟨a9, e10, hf⟩ := x_b hf
      refine x_get (C := "WallDamp$Wall") (F := F_Wall) (N := 9) hx hb hts i_Wall hown hK hH hT3 (by decide) rfl 0 (by decide) (hts _ m_296) (fun _ h9 => h9) (kd := (2, 55)) rfl (x_fr e10) d_Wall_setAirFlows_109 ?_
      obtain ⟨n11, e12, hf⟩ := x_b hf
      refine x_alen hx hb hK hH (x_len_e e12) (by decide) 4 rfl d_Wall_setAirFlows_112 ?_
      refine lv_icmp_ge (tgt := 174) hx hb d_Wall_setAirFlows_113 (by decide) (fun c13 => ?_) (fun c13 => ?_)
      · have hf := x_it hf c13
        exact k_Wall_setAirFlows_174 C0 w _ _ _ hf hH hS (lv_sub hl [] rfl)
      · have hf := x_if hf c13
        refine lv_iconst (v := 0) hx hb d_Wall_setAirFlows_116 (by decide) ?_
        refine lv_aload_n hx hb d_Wall_setAirFlows_117 rfl (lv_at hl 0 rfl) ?_
        obtain ⟨a14, e15, hf⟩ := x_b hf
        refine x_get (C := "WallDamp$Wall") (F := F_Wall) (N := 9) hx hb hts i_Wall hown hK hH hT3 (by decide) rfl 2 (by decide) (hts _ m_301) (fun _ h9 => h9) (kd := (2, 57)) rfl (x_fr e15) d_Wall_setAirFlows_118 ?_
        obtain ⟨_, e16, hf⟩ := x_b hf
        obtain ⟨n17, hT18⟩ := x_is_e e16
        refine x_get (C := "WallDamp$Air") (F := F_Air) (N := 9) hx hb hts i_Air hown hK hH hT18 (by decide) rfl 2 (by decide) (hts _ m_193) (u_same (hts _ m_194)) (kd := (0, 2)) rfl rfl d_Wall_setAirFlows_121 ?_
        refine lv_aload_n hx hb d_Wall_setAirFlows_124 rfl (lv_at hl 0 rfl) ?_
        obtain ⟨a19, e20, hf⟩ := x_b hf
        refine x_get (C := "WallDamp$Wall") (F := F_Wall) (N := 9) hx hb hts i_Wall hown hK hH hT3 (by decide) rfl 0 (by decide) (hts _ m_296) (fun _ h9 => h9) (kd := (2, 55)) rfl (x_fr e20) d_Wall_setAirFlows_125 ?_
        refine lv_iload hx hb d_Wall_setAirFlows_128 (lv_at hl 1 rfl) ?_
        obtain ⟨_, e21, hf⟩ := x_b hf
        obtain ⟨n22, hT23, hi24⟩ := x_ix_e e21
        obtain ⟨a25, e26, hf⟩ := x_b hf
        refine x_aald hx hb hK hH hT23 (by decide) 4 rfl hi24 (x_qr e26) d_Wall_setAirFlows_130 ?_
        obtain ⟨_, e27, hf⟩ := x_b hf
        obtain ⟨n28, hT29⟩ := x_is_e e27
        refine x_get (C := "WallDamp$Cell") (F := F_Cell) (N := 15) hx hb hts i_Cell hown hK hH hT29 (by decide) rfl 2 (by decide) (hts _ m_195) (u_same (hts _ m_196)) (kd := (0, 2)) rfl rfl d_Wall_setAirFlows_131 ?_
        refine lv_isub hx hb d_Wall_setAirFlows_134 ?_
        obtain ⟨q30, e31, hf⟩ := x_b hf
        refine x_callP (st1 := [.int q30]) (x_runS (As := [.int (0 : Int32), .int ((x_I w 2 a14) - (x_I w 2 a25))]) (rest := []) ⟨hx, hb, hml, hown, hts⟩ (c_Math_max l D aC ad T nx H.size w (0 : Int32) ((x_I w 2 a14) - (x_I w 2 a25)) q30 e31) (va_cwS 2 hts (x_gS m_167 m_31 m_2 m_32) rfl rfl rfl pd_Math_max ⟨Nat.le_of_ble_eq_true rfl, Nat.le_of_ble_eq_true rfl⟩) hH hK hX rfl hl.1 rfl (lv_room (Nat.le_of_ble_eq_true rfl)) d_Wall_setAirFlows_135 ⟨Nat.zero_le _, Nat.zero_le _⟩) rfl ?_
        refine lv_istore (lv' := [(5, .int q30), (0, .ref (ad l0)), (4, .int l4)]) hx hb d_Wall_setAirFlows_138 hl (by decide) rfl (fun ls hl => ?_)
        refine lv_aload_n hx hb d_Wall_setAirFlows_140 rfl (lv_at hl 1 rfl) ?_
        obtain ⟨a32, e33, hf⟩ := x_b hf
        refine x_get (C := "WallDamp$Wall") (F := F_Wall) (N := 9) hx hb hts i_Wall hown hK hH hT3 (by decide) rfl 6 (by decide) (hts _ m_306) (fun _ h9 => h9) (kd := (2, 61)) rfl (x_fr e33) d_Wall_setAirFlows_141 ?_
        refine lv_iload hx hb d_Wall_setAirFlows_144 (lv_at hl 2 rfl) ?_
        obtain ⟨_, e34, hf⟩ := x_b hf
        obtain ⟨n35, hT36, hi37⟩ := x_ix_e e34
        obtain ⟨a38, e39, hf⟩ := x_b hf
        refine x_aald hx hb hK hH hT36 (by decide) 5 rfl hi37 (x_qr e39) d_Wall_setAirFlows_146 ?_
        refine lv_iload hx hb d_Wall_setAirFlows_147 (lv_at hl 0 rfl) ?_
        refine lv_aload_n hx hb d_Wall_setAirFlows_149 rfl (lv_at hl 1 rfl) ?_
        obtain ⟨a40, e41, hf⟩ := x_b hf
        refine x_get (C := "WallDamp$Wall") (F := F_Wall) (N := 9) hx hb hts i_Wall hown hK hH hT3 (by decide) rfl 0 (by decide) (hts _ m_296) (fun _ h9 => h9) (kd := (2, 55)) rfl (x_fr e41) d_Wall_setAirFlows_150 ?_
        refine lv_iload hx hb d_Wall_setAirFlows_153 (lv_at hl 2 rfl) ?_
        obtain ⟨_, e42, hf⟩ := x_b hf
        obtain ⟨n43, hT44, hi45⟩ := x_ix_e e42
        obtain ⟨a46, e47, hf⟩ := x_b hf
        refine x_aald hx hb hK hH hT44 (by decide) 4 rfl hi45 (x_qr e47) d_Wall_setAirFlows_155 ?_
        obtain ⟨_, e48, hf⟩ := x_b hf
        obtain ⟨n49, hT50⟩ := x_is_e e48
        refine x_get (C := "WallDamp$Cell") (F := F_Cell) (N := 15) hx hb hts i_Cell hown hK hH hT50 (by decide) rfl 9 (by decide) (hts _ m_239) (fun _ h9 => h9) (kd := (0, 19)) rfl rfl d_Wall_setAirFlows_156 ?_
        refine lv_imul hx hb d_Wall_setAirFlows_159 ?_
        refine lv_sipush (v := 1000) hx hb d_Wall_setAirFlows_160 (by decide) ?_
        refine lv_idiv hx hb d_Wall_setAirFlows_163 (by decide) ?_
        refine lv_ineg hx hb d_Wall_setAirFlows_164 ?_
        obtain ⟨_, e53, hf⟩ := x_b hf
        obtain ⟨n54, hT55⟩ := x_is_e e53
        obtain ⟨q51, e52, hf⟩ := x_b hf
        refine x_call (st1 := []) (x_runV (As := [.int (-((q30 * (x_I w 19 a46)) / (1000 : Int32)))]) (rest := []) ⟨hx, hb, hml, hown, hts⟩ (c_Flow_setInward l D aC ad T nx H.size w a38 (-((q30 * (x_I w 19 a46)) / (1000 : Int32))) q51 e52) (cwV 1 hts (x_gV m_659 m_660 m_661 m_11 m_662) rfl rfl rfl ⟨rfl, pd_Flow_setInward⟩ ⟨Nat.le_of_ble_eq_true rfl, Nat.le_of_ble_eq_true rfl⟩) hH hK hX hT55 (by decide) rfl rfl rfl hl.1 rfl (lv_room (Nat.le_of_ble_eq_true rfl)) d_Wall_setAirFlows_165 ⟨Nat.zero_le _, Nat.zero_le _⟩) rfl hH hA hS (fun H locs hH hS => ?_)
        refine lv_iinc (v := (l4 + 1)) (lv' := [(4, .int (l4 + 1)), (5, .int q30), (0, .ref (ad l0))]) hx hb d_Wall_setAirFlows_168 hl (k := 2) rfl rfl (by decide) rfl (fun ls hl => ?_)
        refine lv_goto (tgt := 96) hx hb d_Wall_setAirFlows_171 (by decide) ?_
        exact ih q51 _ _ _ l0 (l4 + 1) hf hH hS (lv_sub hl [2, 0] rfl)
set_option maxHeartbeats 4000000 in
set_option maxRecDepth 100000 in
theorem k_Wall_setAirFlows {p : Program} {l : Launch} {e : Env} {s : State} {m : MethodId} {args : Array Value} {below : List Frame} {meth : Method} {c : Code} {D : va_G} {aC : Nat → ClassId} {ad : Nat → Nat} {T : x_T} {nx : Nat} {A : Nat → Prop} {q : x_W} (C0 : x_At p s m meth c args "WallDamp$Wall" b_Wall_setAirFlows none 6 D aC A) : ∀ (w : x_W) (H : Heap) (locs : List Loc) (ls : Array Slot) (l0 : Nat) (l1 : Int32), f_Wall_setAirFlows T w l0 l1 = some q → x_H D x_cl x_FT aC ad T nx A w H → va_S A s.heap H locs → lv_has ls 6 [(0, .ref (ad l0)), (1, .int l1)] → W p l e { frames := 1, cells := 0, slots := 0, locals := 21 } s m args below meth c H locs 0 0 (MQ below (x_Qc D aC ad T nx none q A) args s 0 0 A) (F0 m 0 ls []) := by
  obtain ⟨hx, hb, hr, hml, hown, hts, hlocks, hK, hA, hX⟩ := id C0
  intro w H locs ls l0 l1 hf hH hS hl
  unfold f_Wall_setAirFlows at hf
  refine lv_aload_n hx hb d_Wall_setAirFlows_0 rfl (lv_at hl 0 rfl) ?_
  obtain ⟨_, e1, hf⟩ := x_b hf
  obtain ⟨n2, hT3⟩ := x_is_e e1
  obtain ⟨a4, e5, hf⟩ := x_b hf
  refine x_get (C := "WallDamp$Wall") (F := F_Wall) (N := 9) hx hb hts i_Wall hown hK hH hT3 (by decide) rfl 0 (by decide) (hts _ m_296) (fun _ h9 => h9) (kd := (2, 55)) rfl (x_fr e5) d_Wall_setAirFlows_1 ?_
  refine lv_iconst (v := 0) hx hb d_Wall_setAirFlows_4 (by decide) ?_
  obtain ⟨_, e6, hf⟩ := x_b hf
  obtain ⟨n7, hT8, hi9⟩ := x_ix_e e6
  obtain ⟨a10, e11, hf⟩ := x_b hf
  refine x_aald hx hb hK hH hT8 (by decide) 4 rfl hi9 (x_qr e11) d_Wall_setAirFlows_5 ?_
  refine lv_astore_n (lv' := [(2, .ref (ad a10)), (0, .ref (ad l0)), (1, .int l1)]) hx hb d_Wall_setAirFlows_6 rfl hl (by decide) rfl (fun ls hl => ?_)
  refine lv_aload_n hx hb d_Wall_setAirFlows_7 rfl (lv_at hl 1 rfl) ?_
  obtain ⟨q12, e13, hf⟩ := x_b hf
  refine x_callP (st1 := [.ref (ad q12)]) (x_runV (As := []) (rest := []) ⟨hx, hb, hml, hown, hts⟩ (c_Wall_lastCell l D aC ad T nx H.size w l0 q12 e13) (cwV 0 hts (x_gV m_655 m_656 m_657 m_7 m_658) rfl rfl rfl ⟨rfl, pd_Wall_lastCell⟩ ⟨Nat.le_of_ble_eq_true rfl, Nat.le_of_ble_eq_true rfl⟩) hH hK hX hT3 (by decide) rfl rfl rfl hl.1 rfl (lv_room (Nat.le_of_ble_eq_true rfl)) d_Wall_setAirFlows_8 ⟨Nat.zero_le _, Nat.zero_le _⟩) rfl ?_
  refine lv_astore_n (lv' := [(3, .ref (ad q12)), (2, .ref (ad a10)), (0, .ref (ad l0)), (1, .int l1)]) hx hb d_Wall_setAirFlows_11 rfl hl (by decide) rfl (fun ls hl => ?_)
  refine lv_aload_n hx hb d_Wall_setAirFlows_12 rfl (lv_at hl 2 rfl) ?_
  obtain ⟨a14, e15, hf⟩ := x_b hf
  refine x_get (C := "WallDamp$Wall") (F := F_Wall) (N := 9) hx hb hts i_Wall hown hK hH hT3 (by decide) rfl 3 (by decide) (hts _ m_303) (fun _ h9 => h9) (kd := (2, 58)) rfl (x_fr e15) d_Wall_setAirFlows_13 ?_
  refine lv_aload_n hx hb d_Wall_setAirFlows_16 rfl (lv_at hl 2 rfl) ?_
  obtain ⟨a16, e17, hf⟩ := x_b hf
  refine x_get (C := "WallDamp$Wall") (F := F_Wall) (N := 9) hx hb hts i_Wall hown hK hH hT3 (by decide) rfl 1 (by decide) (hts _ m_299) (fun _ h9 => h9) (kd := (2, 56)) rfl (x_fr e17) d_Wall_setAirFlows_17 ?_
  obtain ⟨_, e18, hf⟩ := x_b hf
  obtain ⟨n19, hT20⟩ := x_is_e e18
  refine x_get (C := "WallDamp$Air") (F := F_Air) (N := 9) hx hb hts i_Air hown hK hH hT20 (by decide) rfl 2 (by decide) (hts _ m_193) (u_same (hts _ m_194)) (kd := (0, 2)) rfl rfl d_Wall_setAirFlows_20 ?_
  refine lv_aload_n hx hb d_Wall_setAirFlows_23 rfl (lv_at hl 1 rfl) ?_
  obtain ⟨_, e21, hf⟩ := x_b hf
  obtain ⟨n22, hT23⟩ := x_is_e e21
  refine x_get (C := "WallDamp$Cell") (F := F_Cell) (N := 15) hx hb hts i_Cell hown hK hH hT23 (by decide) rfl 2 (by decide) (hts _ m_195) (u_same (hts _ m_196)) (kd := (0, 2)) rfl rfl d_Wall_setAirFlows_24 ?_
  refine lv_isub hx hb d_Wall_setAirFlows_27 ?_
  refine lv_aload_n hx hb d_Wall_setAirFlows_28 rfl (lv_at hl 1 rfl) ?_
  obtain ⟨a24, e25, hf⟩ := x_b hf
  refine x_get (C := "WallDamp$Cell") (F := F_Cell) (N := 15) hx hb hts i_Cell hown hK hH hT23 (by decide) rfl 7 (by decide) (hts _ m_235) (fun _ h9 => h9) (kd := (2, 17)) rfl (x_fr e25) d_Wall_setAirFlows_29 ?_
  obtain ⟨_, e26, hf⟩ := x_b hf
  obtain ⟨n27, hT28⟩ := x_is_e e26
  refine x_get (C := "WallDamp$Material") (F := F_Material) (N := 4) hx hb hts i_Material hown hK hH hT28 (by decide) rfl 1 (by decide) (hts _ m_70) (fun _ h9 => h9) (kd := (0, 35)) rfl rfl d_Wall_setAirFlows_32 ?_
  refine lv_imul hx hb d_Wall_setAirFlows_35 ?_
  refine lv_sipush (v := 1000) hx hb d_Wall_setAirFlows_36 (by decide) ?_
  refine lv_idiv hx hb d_Wall_setAirFlows_39 (by decide) ?_
  obtain ⟨_, e31, hf⟩ := x_b hf
  obtain ⟨n32, hT33⟩ := x_is_e e31
  obtain ⟨q29, e30, hf⟩ := x_b hf
  refine x_call (st1 := []) (x_runV (As := [.int ((((x_I w 2 a16) - (x_I w 2 a10)) * (x_I w 35 a24)) / (1000 : Int32))]) (rest := []) ⟨hx, hb, hml, hown, hts⟩ (c_Flow_setInward l D aC ad T nx H.size w a14 ((((x_I w 2 a16) - (x_I w 2 a10)) * (x_I w 35 a24)) / (1000 : Int32)) q29 e30) (cwV 1 hts (x_gV m_659 m_660 m_661 m_11 m_662) rfl rfl rfl ⟨rfl, pd_Flow_setInward⟩ ⟨Nat.le_of_ble_eq_true rfl, Nat.le_of_ble_eq_true rfl⟩) hH hK hX hT33 (by decide) rfl rfl rfl hl.1 rfl (lv_room (Nat.le_of_ble_eq_true rfl)) d_Wall_setAirFlows_40 ⟨Nat.zero_le _, Nat.zero_le _⟩) rfl hH hA hS (fun H locs hH hS => ?_)
  refine lv_aload_n hx hb d_Wall_setAirFlows_43 rfl (lv_at hl 2 rfl) ?_
  obtain ⟨a34, e35, hf⟩ := x_b hf
  refine x_get (C := "WallDamp$Wall") (F := F_Wall) (N := 9) hx hb hts i_Wall hown hK hH hT3 (by decide) rfl 4 (by decide) (hts _ m_304) (fun _ h9 => h9) (kd := (2, 59)) rfl (x_fr e35) d_Wall_setAirFlows_44 ?_
  refine lv_aload_n hx hb d_Wall_setAirFlows_47 rfl (lv_at hl 0 rfl) ?_
  obtain ⟨_, e36, hf⟩ := x_b hf
  obtain ⟨n37, hT38⟩ := x_is_e e36
  refine x_get (C := "WallDamp$Cell") (F := F_Cell) (N := 15) hx hb hts i_Cell hown hK hH hT38 (by decide) rfl 2 (by decide) (hts _ m_195) (u_same (hts _ m_196)) (kd := (0, 2)) rfl rfl d_Wall_setAirFlows_48 ?_
  refine lv_aload_n hx hb d_Wall_setAirFlows_51 rfl (lv_at hl 2 rfl) ?_
  obtain ⟨a39, e40, hf⟩ := x_b hf
  refine x_get (C := "WallDamp$Wall") (F := F_Wall) (N := 9) hx hb hts i_Wall hown hK hH hT3 (by decide) rfl 2 (by decide) (hts _ m_301) (fun _ h9 => h9) (kd := (2, 57)) rfl (x_fr e40) d_Wall_setAirFlows_52 ?_
  obtain ⟨_, e41, hf⟩ := x_b hf
  obtain ⟨n42, hT43⟩ := x_is_e e41
  refine x_get (C := "WallDamp$Air") (F := F_Air) (N := 9) hx hb hts i_Air hown hK hH hT43 (by decide) rfl 2 (by decide) (hts _ m_193) (u_same (hts _ m_194)) (kd := (0, 2)) rfl rfl d_Wall_setAirFlows_55 ?_
  refine lv_isub hx hb d_Wall_setAirFlows_58 ?_
  refine lv_aload_n hx hb d_Wall_setAirFlows_59 rfl (lv_at hl 0 rfl) ?_
  obtain ⟨a44, e45, hf⟩ := x_b hf
  refine x_get (C := "WallDamp$Cell") (F := F_Cell) (N := 15) hx hb hts i_Cell hown hK hH hT38 (by decide) rfl 7 (by decide) (hts _ m_235) (fun _ h9 => h9) (kd := (2, 17)) rfl (x_fr e45) d_Wall_setAirFlows_60 ?_
  obtain ⟨_, e46, hf⟩ := x_b hf
  obtain ⟨n47, hT48⟩ := x_is_e e46
  refine x_get (C := "WallDamp$Material") (F := F_Material) (N := 4) hx hb hts i_Material hown hK hH hT48 (by decide) rfl 1 (by decide) (hts _ m_70) (fun _ h9 => h9) (kd := (0, 35)) rfl rfl d_Wall_setAirFlows_63 ?_
  refine lv_imul hx hb d_Wall_setAirFlows_66 ?_
  refine lv_sipush (v := 1000) hx hb d_Wall_setAirFlows_67 (by decide) ?_
  refine lv_idiv hx hb d_Wall_setAirFlows_70 (by decide) ?_
  obtain ⟨_, e51, hf⟩ := x_b hf
  obtain ⟨n52, hT53⟩ := x_is_e e51
  obtain ⟨q49, e50, hf⟩ := x_b hf
  refine x_call (st1 := []) (x_runV (As := [.int ((((x_I q29 2 q12) - (x_I q29 2 a39)) * (x_I q29 35 a44)) / (1000 : Int32))]) (rest := []) ⟨hx, hb, hml, hown, hts⟩ (c_Flow_setInward l D aC ad T nx H.size q29 a34 ((((x_I q29 2 q12) - (x_I q29 2 a39)) * (x_I q29 35 a44)) / (1000 : Int32)) q49 e50) (cwV 1 hts (x_gV m_659 m_660 m_661 m_11 m_662) rfl rfl rfl ⟨rfl, pd_Flow_setInward⟩ ⟨Nat.le_of_ble_eq_true rfl, Nat.le_of_ble_eq_true rfl⟩) hH hK hX hT53 (by decide) rfl rfl rfl hl.1 rfl (lv_room (Nat.le_of_ble_eq_true rfl)) d_Wall_setAirFlows_71 ⟨Nat.zero_le _, Nat.zero_le _⟩) rfl hH hA hS (fun H locs hH hS => ?_)
  refine lv_aload_n hx hb d_Wall_setAirFlows_74 rfl (lv_at hl 2 rfl) ?_
  obtain ⟨a54, e55, hf⟩ := x_b hf
  refine x_get (C := "WallDamp$Wall") (F := F_Wall) (N := 9) hx hb hts i_Wall hown hK hH hT3 (by decide) rfl 5 (by decide) (hts _ m_305) (fun _ h9 => h9) (kd := (2, 60)) rfl (x_fr e55) d_Wall_setAirFlows_75 ?_
  refine lv_iload_n hx hb d_Wall_setAirFlows_78 rfl (lv_at hl 3 rfl) ?_
  refine lv_aload_n hx hb d_Wall_setAirFlows_79 rfl (lv_at hl 1 rfl) ?_
  obtain ⟨a56, e57, hf⟩ := x_b hf
  refine x_get (C := "WallDamp$Cell") (F := F_Cell) (N := 15) hx hb hts i_Cell hown hK hH hT23 (by decide) rfl 7 (by decide) (hts _ m_235) (fun _ h9 => h9) (kd := (2, 17)) rfl (x_fr e57) d_Wall_setAirFlows_80 ?_
  obtain ⟨_, e58, hf⟩ := x_b hf
  obtain ⟨n59, hT60⟩ := x_is_e e58
  refine x_get (C := "WallDamp$Material") (F := F_Material) (N := 4) hx hb hts i_Material hown hK hH hT60 (by decide) rfl 2 (by decide) (hts _ m_73) (fun _ h9 => h9) (kd := (0, 36)) rfl rfl d_Wall_setAirFlows_83 ?_
  refine lv_imul hx hb d_Wall_setAirFlows_86 ?_
  refine lv_bipush (v := 100) hx hb d_Wall_setAirFlows_87 (by decide) ?_
  refine lv_idiv hx hb d_Wall_setAirFlows_89 (by decide) ?_
  obtain ⟨_, e63, hf⟩ := x_b hf
  obtain ⟨n64, hT65⟩ := x_is_e e63
  obtain ⟨q61, e62, hf⟩ := x_b hf
  refine x_call (st1 := []) (x_runV (As := [.int ((l1 * (x_I q49 36 a56)) / (100 : Int32))]) (rest := []) ⟨hx, hb, hml, hown, hts⟩ (c_Flow_setInward l D aC ad T nx H.size q49 a54 ((l1 * (x_I q49 36 a56)) / (100 : Int32)) q61 e62) (cwV 1 hts (x_gV m_659 m_660 m_661 m_11 m_662) rfl rfl rfl ⟨rfl, pd_Flow_setInward⟩ ⟨Nat.le_of_ble_eq_true rfl, Nat.le_of_ble_eq_true rfl⟩) hH hK hX hT65 (by decide) rfl rfl rfl hl.1 rfl (lv_room (Nat.le_of_ble_eq_true rfl)) d_Wall_setAirFlows_90 ⟨Nat.zero_le _, Nat.zero_le _⟩) rfl hH hA hS (fun H locs hH hS => ?_)
  refine lv_iconst (v := 0) hx hb d_Wall_setAirFlows_93 (by decide) ?_
  refine lv_istore (lv' := [(4, .int (0 : Int32)), (3, .ref (ad q12)), (2, .ref (ad a10)), (0, .ref (ad l0)), (1, .int l1)]) hx hb d_Wall_setAirFlows_94 hl (by decide) rfl (fun ls hl => ?_)
  exact k_Wall_setAirFlows_96 C0 1000 q61 _ _ _ l0 (0 : Int32) hf hH hS (lv_sub hl [3, 0] rfl)
theorem c_Wall_setAirFlows (l : Launch) (D : va_G) (aC : Nat → ClassId) (ad : Nat → Nat) (T : x_T) (nx sz : Nat) (w : x_W) (a0 : Nat) (a1 : Int32) (q : x_W) (hf : f_Wall_setAirFlows T w a0 a1 = some q) : Met l y_Wall_setAirFlows ws_Wall_setAirFlows { frames := 1, cells := 0, slots := 0, locals := 21 } (x_Pc D aC ad T nx sz w [.ref (ad a0), .int a1]) (x_Qc D aC ad T nx none q (x_dom ad nx sz)) 0 0 (x_dom ad nx sz) :=
  x_met [(0, .ref (ad a0)), (1, .int a1)] (plainFor_of_name (by decide)) rfl rfl (Nat.le_of_ble_eq_true rfl) (fun p e s m args below meth c ls C0 hH hS hl => k_Wall_setAirFlows C0 w _ _ _ a0 a1 hf hH hS (lv_sub hl [0, 1] rfl))
/-! WallDamp$Wall.setFlowsBetween()V -/
def f_Wall_setFlowsBetween_124 (T : x_T) (w : x_W) : Option (x_W) :=
  some w
def f_Wall_setFlowsBetween_2 (T : x_T) : Nat → x_W → Nat → Int32 → Option (x_W)
  | 0, _, _, _ => none
  | n + 1, w, l0, l1 =>
    (x_is T l0 9).bind fun _ =>
    (x_R w 62 l0).bind fun a4 =>
    (x_len T a4 105).bind fun n6 =>
    if (nI n6) ≤ l1 then
      (f_Wall_setFlowsBetween_124 T w)
    else
      ((x_R w 55 l0).bind fun a9 =>
      (x_len T a9 104).bind fun n11 =>
      if (nI n11) ≤ (l1 + (1 : Int32)) then
        (f_Wall_setFlowsBetween_124 T w)
      else
        ((x_R w 55 l0).bind fun a14 =>
        (x_ix T a14 104 l1).bind fun _ =>
        (x_Q w a14 l1.toNatClampNeg).bind fun a20 =>
        (x_R w 55 l0).bind fun a22 =>
        (x_ix T a22 104 (l1 + (1 : Int32))).bind fun _ =>
        (x_Q w a22 (l1 + (1 : Int32)).toNatClampNeg).bind fun a28 =>
        (x_is T a20 2).bind fun _ =>
        (x_R w 17 a20).bind fun a33 =>
        (x_is T a33 5).bind fun _ =>
        (x_is T a28 2).bind fun _ =>
        (x_R w 17 a28).bind fun a41 =>
        (x_is T a41 5).bind fun _ =>
        (f_Math_min T w (x_I w 35 a33) (x_I w 35 a41)).bind fun q46 =>
        (x_R w 17 a20).bind fun a48 =>
        (x_is T a48 5).bind fun _ =>
        (x_R w 17 a28).bind fun a53 =>
        (x_is T a53 5).bind fun _ =>
        (f_Math_min T w (x_I w 36 a48) (x_I w 36 a53)).bind fun q58 =>
        (x_R w 62 l0).bind fun a60 =>
        (x_ix T a60 105 l1).bind fun _ =>
        (x_Q w a60 l1.toNatClampNeg).bind fun a66 =>
        (x_is T a66 4).bind fun _ =>
        (f_Flow_setInward T w a66 (((((x_I w 2 a20) - (x_I w 2 a28)) * q46) / (1000 : Int32)) + ((((x_I w 1 a20) - (x_I w 1 a28)) * q58) / (1000 : Int32)))).bind fun q68 =>
        f_Wall_setFlowsBetween_2 T n q68 l0 (l1 + 1)))
def f_Wall_setFlowsBetween (T : x_T) (w : x_W) (l0 : Nat) : Option (x_W) :=
  f_Wall_setFlowsBetween_2 T 1000 w l0 (0 : Int32)
set_option maxHeartbeats 4000000 in
set_option maxRecDepth 100000 in
theorem k_Wall_setFlowsBetween_124 {p : Program} {l : Launch} {e : Env} {s : State} {m : MethodId} {args : Array Value} {below : List Frame} {meth : Method} {c : Code} {D : va_G} {aC : Nat → ClassId} {ad : Nat → Nat} {T : x_T} {nx : Nat} {A : Nat → Prop} {q : x_W} (C0 : x_At p s m meth c args "WallDamp$Wall" b_Wall_setFlowsBetween none 6 D aC A) : ∀ (w : x_W) (H : Heap) (locs : List Loc) (ls : Array Slot), f_Wall_setFlowsBetween_124 T w = some q → x_H D x_cl x_FT aC ad T nx A w H → va_S A s.heap H locs → lv_has ls 6 [] → W p l e { frames := 1, cells := 0, slots := 0, locals := 21 } s m args below meth c H locs 0 0 (MQ below (x_Qc D aC ad T nx none q A) args s 0 0 A) (F0 m 124 ls []) := by
  obtain ⟨hx, hb, hr, hml, hown, hts, hlocks, hK, hA, hX⟩ := id C0
  intro w H locs ls hf hH hS hl
  unfold f_Wall_setFlowsBetween_124 at hf
  cases hf
  refine x_sz0 hS (fun hz => ?_)
  exact W.vret hx hb hr (fun t ht hW => ⟨rfl, hS.F ht, by rw [ht]; exact hz, by rw [ht]; exact hH.weaken (fun _ _ _ => trivial)⟩) hS.2.2 d_Wall_setFlowsBetween_124
set_option maxHeartbeats 4000000 in
set_option maxRecDepth 100000 in
theorem k_Wall_setFlowsBetween_2 {p : Program} {l : Launch} {e : Env} {s : State} {m : MethodId} {args : Array Value} {below : List Frame} {meth : Method} {c : Code} {D : va_G} {aC : Nat → ClassId} {ad : Nat → Nat} {T : x_T} {nx : Nat} {A : Nat → Prop} {q : x_W} (C0 : x_At p s m meth c args "WallDamp$Wall" b_Wall_setFlowsBetween none 6 D aC A) : ∀ (n : Nat), ∀ (w : x_W) (H : Heap) (locs : List Loc) (ls : Array Slot) (l0 : Nat) (l1 : Int32), f_Wall_setFlowsBetween_2 T n w l0 l1 = some q → x_H D x_cl x_FT aC ad T nx A w H → va_S A s.heap H locs → lv_has ls 6 [(0, .ref (ad l0)), (1, .int l1)] → W p l e { frames := 1, cells := 0, slots := 0, locals := 21 } s m args below meth c H locs 0 0 (MQ below (x_Qc D aC ad T nx none q A) args s 0 0 A) (F0 m 2 ls []) := by
  obtain ⟨hx, hb, hr, hml, hown, hts, hlocks, hK, hA, hX⟩ := id C0
  intro n
  induction n with
  | zero => intro w H locs ls l0 l1 hf; cases (show none = some q from hf)
  | succ n ih =>
    intro w H locs ls l0 l1 hf hH hS hl
    unfold f_Wall_setFlowsBetween_2 at hf
    refine lv_iload_n hx hb d_Wall_setFlowsBetween_2 rfl (lv_at hl 1 rfl) ?_
    refine lv_aload_n hx hb d_Wall_setFlowsBetween_3 rfl (lv_at hl 0 rfl) ?_
    obtain ⟨_, e1, hf⟩ := x_b hf
    obtain ⟨n2, hT3⟩ := x_is_e e1
    obtain ⟨a4, e5, hf⟩ := x_b hf
    refine x_get (C := "WallDamp$Wall") (F := F_Wall) (N := 9) hx hb hts i_Wall hown hK hH hT3 (by decide) rfl 7 (by decide) (hts _ m_307) (fun _ h9 => h9) (kd := (2, 62)) rfl (x_fr e5) d_Wall_setFlowsBetween_4 ?_
    obtain ⟨n6, e7, hf⟩ := x_b hf
    refine x_alen hx hb hK hH (x_len_e e7) (by decide) 5 rfl d_Wall_setFlowsBetween_7 ?_
    refine lv_icmp_ge (tgt := 124) hx hb d_Wall_setFlowsBetween_8 (by decide) (fun c8 => ?_) (fun c8 => ?_)
    · have hf := x_it hf c8
      exact k_Wall_setFlowsBetween_124 C0 w _ _ _ hf hH hS (lv_sub hl [] rfl)
    · have hf := x_if hf c8
      refine lv_iload_n hx hb d_Wall_setFlowsBetween_11 rfl (lv_at hl 1 rfl) ?_
      refine lv_iconst (v := 1) hx hb d_Wall_setFlowsBetween_12 (by decide) ?_
      refine lv_iadd hx hb d_Wall_setFlowsBetween_13 ?_
      refine lv_aload_n hx hb d_Wall_setFlowsBetween_14 rfl (lv_at hl 0 rfl) ?_
      obtain ⟨a9, e10, hf⟩ := x_b hf
      refine x_get (C := "WallDamp$Wall") (F := F_Wall) (N := 9) hx hb hts i_Wall hown hK hH hT3 (by decide) rfl 0 (by decide) (hts _ m_296) (fun _ h9 => h9) (kd := (2, 55)) rfl (x_fr e10) d_Wall_setFlowsBetween_15 ?_
      obtain ⟨n11, e12, hf⟩ := x_b hf
      refine x_alen hx hb hK hH (x_len_e e12) (by decide) 4 rfl d_Wall_setFlowsBetween_18 ?_
      refine lv_icmp_ge (tgt := 124) hx hb d_Wall_setFlowsBetween_19 (by decide) (fun c13 => ?_) (fun c13 => ?_)
      · have hf := x_it hf c13
        exact k_Wall_setFlowsBetween_124 C0 w _ _ _ hf hH hS (lv_sub hl [] rfl)
      · have hf := x_if hf c13
        refine lv_aload_n hx hb d_Wall_setFlowsBetween_22 rfl (lv_at hl 0 rfl) ?_
        obtain ⟨a14, e15, hf⟩ := x_b hf
        refine x_get (C := "WallDamp$Wall") (F := F_Wall) (N := 9) hx hb hts i_Wall hown hK hH hT3 (by decide) rfl 0 (by decide) (hts _ m_296) (fun _ h9 => h9) (kd := (2, 55)) rfl (x_fr e15) d_Wall_setFlowsBetween_23 ?_
        refine lv_iload_n hx hb d_Wall_setFlowsBetween_26 rfl (lv_at hl 1 rfl) ?_
        obtain ⟨_, e16, hf⟩ := x_b hf
        obtain ⟨n17, hT18, hi19⟩ := x_ix_e e16
        obtain ⟨a20, e21, hf⟩ := x_b hf
        refine x_aald hx hb hK hH hT18 (by decide) 4 rfl hi19 (x_qr e21) d_Wall_setFlowsBetween_27 ?_
        refine lv_astore_n (lv' := [(2, .ref (ad a20)), (0, .ref (ad l0)), (1, .int l1)]) hx hb d_Wall_setFlowsBetween_28 rfl hl (by decide) rfl (fun ls hl => ?_)
        refine lv_aload_n hx hb d_Wall_setFlowsBetween_29 rfl (lv_at hl 1 rfl) ?_
        obtain ⟨a22, e23, hf⟩ := x_b hf
        refine x_get (C := "WallDamp$Wall") (F := F_Wall) (N := 9) hx hb hts i_Wall hown hK hH hT3 (by decide) rfl 0 (by decide) (hts _ m_296) (fun _ h9 => h9) (kd := (2, 55)) rfl (x_fr e23) d_Wall_setFlowsBetween_30 ?_
        refine lv_iload_n hx hb d_Wall_setFlowsBetween_33 rfl (lv_at hl 2 rfl) ?_
        refine lv_iconst (v := 1) hx hb d_Wall_setFlowsBetween_34 (by decide) ?_
        refine lv_iadd hx hb d_Wall_setFlowsBetween_35 ?_
        obtain ⟨_, e24, hf⟩ := x_b hf
        obtain ⟨n25, hT26, hi27⟩ := x_ix_e e24
        obtain ⟨a28, e29, hf⟩ := x_b hf
        refine x_aald hx hb hK hH hT26 (by decide) 4 rfl hi27 (x_qr e29) d_Wall_setFlowsBetween_36 ?_
        refine lv_astore_n (lv' := [(3, .ref (ad a28)), (2, .ref (ad a20)), (0, .ref (ad l0)), (1, .int l1)]) hx hb d_Wall_setFlowsBetween_37 rfl hl (by decide) rfl (fun ls hl => ?_)
        refine lv_aload_n hx hb d_Wall_setFlowsBetween_38 rfl (lv_at hl 1 rfl) ?_
        obtain ⟨_, e30, hf⟩ := x_b hf
        obtain ⟨n31, hT32⟩ := x_is_e e30
        obtain ⟨a33, e34, hf⟩ := x_b hf
        refine x_get (C := "WallDamp$Cell") (F := F_Cell) (N := 15) hx hb hts i_Cell hown hK hH hT32 (by decide) rfl 7 (by decide) (hts _ m_235) (fun _ h9 => h9) (kd := (2, 17)) rfl (x_fr e34) d_Wall_setFlowsBetween_39 ?_
        obtain ⟨_, e35, hf⟩ := x_b hf
        obtain ⟨n36, hT37⟩ := x_is_e e35
        refine x_get (C := "WallDamp$Material") (F := F_Material) (N := 4) hx hb hts i_Material hown hK hH hT37 (by decide) rfl 1 (by decide) (hts _ m_70) (fun _ h9 => h9) (kd := (0, 35)) rfl rfl d_Wall_setFlowsBetween_42 ?_
        refine lv_aload_n hx hb d_Wall_setFlowsBetween_45 rfl (lv_at hl 0 rfl) ?_
        obtain ⟨_, e38, hf⟩ := x_b hf
        obtain ⟨n39, hT40⟩ := x_is_e e38
        obtain ⟨a41, e42, hf⟩ := x_b hf
        refine x_get (C := "WallDamp$Cell") (F := F_Cell) (N := 15) hx hb hts i_Cell hown hK hH hT40 (by decide) rfl 7 (by decide) (hts _ m_235) (fun _ h9 => h9) (kd := (2, 17)) rfl (x_fr e42) d_Wall_setFlowsBetween_46 ?_
        obtain ⟨_, e43, hf⟩ := x_b hf
        obtain ⟨n44, hT45⟩ := x_is_e e43
        refine x_get (C := "WallDamp$Material") (F := F_Material) (N := 4) hx hb hts i_Material hown hK hH hT45 (by decide) rfl 1 (by decide) (hts _ m_70) (fun _ h9 => h9) (kd := (0, 35)) rfl rfl d_Wall_setFlowsBetween_49 ?_
        obtain ⟨q46, e47, hf⟩ := x_b hf
        refine x_callP (st1 := [.int q46]) (x_runS (As := [.int (x_I w 35 a33), .int (x_I w 35 a41)]) (rest := []) ⟨hx, hb, hml, hown, hts⟩ (c_Math_min l D aC ad T nx H.size w (x_I w 35 a33) (x_I w 35 a41) q46 e47) (va_cwS 2 hts (x_gS m_667 m_28 m_2 m_29) rfl rfl rfl pd_Math_min ⟨Nat.le_of_ble_eq_true rfl, Nat.le_of_ble_eq_true rfl⟩) hH hK hX rfl hl.1 rfl (lv_room (Nat.le_of_ble_eq_true rfl)) d_Wall_setFlowsBetween_52 ⟨Nat.zero_le _, Nat.zero_le _⟩) rfl ?_
        refine lv_istore (lv' := [(4, .int q46), (3, .ref (ad a28)), (2, .ref (ad a20)), (0, .ref (ad l0)), (1, .int l1)]) hx hb d_Wall_setFlowsBetween_55 hl (by decide) rfl (fun ls hl => ?_)
        refine lv_aload_n hx hb d_Wall_setFlowsBetween_57 rfl (lv_at hl 2 rfl) ?_
        obtain ⟨a48, e49, hf⟩ := x_b hf
        refine x_get (C := "WallDamp$Cell") (F := F_Cell) (N := 15) hx hb hts i_Cell hown hK hH hT32 (by decide) rfl 7 (by decide) (hts _ m_235) (fun _ h9 => h9) (kd := (2, 17)) rfl (x_fr e49) d_Wall_setFlowsBetween_58 ?_
        obtain ⟨_, e50, hf⟩ := x_b hf
        obtain ⟨n51, hT52⟩ := x_is_e e50
        refine x_get (C := "WallDamp$Material") (F := F_Material) (N := 4) hx hb hts i_Material hown hK hH hT52 (by decide) rfl 2 (by decide) (hts _ m_73) (fun _ h9 => h9) (kd := (0, 36)) rfl rfl d_Wall_setFlowsBetween_61 ?_
        refine lv_aload_n hx hb d_Wall_setFlowsBetween_64 rfl (lv_at hl 1 rfl) ?_
        obtain ⟨a53, e54, hf⟩ := x_b hf
        refine x_get (C := "WallDamp$Cell") (F := F_Cell) (N := 15) hx hb hts i_Cell hown hK hH hT40 (by decide) rfl 7 (by decide) (hts _ m_235) (fun _ h9 => h9) (kd := (2, 17)) rfl (x_fr e54) d_Wall_setFlowsBetween_65 ?_
        obtain ⟨_, e55, hf⟩ := x_b hf
        obtain ⟨n56, hT57⟩ := x_is_e e55
        refine x_get (C := "WallDamp$Material") (F := F_Material) (N := 4) hx hb hts i_Material hown hK hH hT57 (by decide) rfl 2 (by decide) (hts _ m_73) (fun _ h9 => h9) (kd := (0, 36)) rfl rfl d_Wall_setFlowsBetween_68 ?_
        obtain ⟨q58, e59, hf⟩ := x_b hf
        refine x_callP (st1 := [.int q58]) (x_runS (As := [.int (x_I w 36 a48), .int (x_I w 36 a53)]) (rest := []) ⟨hx, hb, hml, hown, hts⟩ (c_Math_min l D aC ad T nx H.size w (x_I w 36 a48) (x_I w 36 a53) q58 e59) (va_cwS 2 hts (x_gS m_667 m_28 m_2 m_29) rfl rfl rfl pd_Math_min ⟨Nat.le_of_ble_eq_true rfl, Nat.le_of_ble_eq_true rfl⟩) hH hK hX rfl hl.1 rfl (lv_room (Nat.le_of_ble_eq_true rfl)) d_Wall_setFlowsBetween_71 ⟨Nat.zero_le _, Nat.zero_le _⟩) rfl ?_
        refine lv_istore (lv' := [(5, .int q58), (4, .int q46), (3, .ref (ad a28)), (2, .ref (ad a20)), (0, .ref (ad l0)), (1, .int l1)]) hx hb d_Wall_setFlowsBetween_74 hl (by decide) rfl (fun ls hl => ?_)
        refine lv_aload_n hx hb d_Wall_setFlowsBetween_76 rfl (lv_at hl 4 rfl) ?_
        obtain ⟨a60, e61, hf⟩ := x_b hf
        refine x_get (C := "WallDamp$Wall") (F := F_Wall) (N := 9) hx hb hts i_Wall hown hK hH hT3 (by decide) rfl 7 (by decide) (hts _ m_307) (fun _ h9 => h9) (kd := (2, 62)) rfl (x_fr e61) d_Wall_setFlowsBetween_77 ?_
        refine lv_iload_n hx hb d_Wall_setFlowsBetween_80 rfl (lv_at hl 5 rfl) ?_
        obtain ⟨_, e62, hf⟩ := x_b hf
        obtain ⟨n63, hT64, hi65⟩ := x_ix_e e62
        obtain ⟨a66, e67, hf⟩ := x_b hf
        refine x_aald hx hb hK hH hT64 (by decide) 5 rfl hi65 (x_qr e67) d_Wall_setFlowsBetween_81 ?_
        refine lv_aload_n hx hb d_Wall_setFlowsBetween_82 rfl (lv_at hl 3 rfl) ?_
        refine x_get (C := "WallDamp$Cell") (F := F_Cell) (N := 15) hx hb hts i_Cell hown hK hH hT32 (by decide) rfl 2 (by decide) (hts _ m_195) (u_same (hts _ m_196)) (kd := (0, 2)) rfl rfl d_Wall_setFlowsBetween_83 ?_
        refine lv_aload_n hx hb d_Wall_setFlowsBetween_86 rfl (lv_at hl 2 rfl) ?_
        refine x_get (C := "WallDamp$Cell") (F := F_Cell) (N := 15) hx hb hts i_Cell hown hK hH hT40 (by decide) rfl 2 (by decide) (hts _ m_195) (u_same (hts _ m_196)) (kd := (0, 2)) rfl rfl d_Wall_setFlowsBetween_87 ?_
        refine lv_isub hx hb d_Wall_setFlowsBetween_90 ?_
        refine lv_iload hx hb d_Wall_setFlowsBetween_91 (lv_at hl 1 rfl) ?_
        refine lv_imul hx hb d_Wall_setFlowsBetween_93 ?_
        refine lv_sipush (v := 1000) hx hb d_Wall_setFlowsBetween_94 (by decide) ?_
        refine lv_idiv hx hb d_Wall_setFlowsBetween_97 (by decide) ?_
        refine lv_aload_n hx hb d_Wall_setFlowsBetween_98 rfl (lv_at hl 3 rfl) ?_
        refine x_get (C := "WallDamp$Cell") (F := F_Cell) (N := 15) hx hb hts i_Cell hown hK hH hT32 (by decide) rfl 1 (by decide) (hts _ m_190) (u_same (hts _ m_191)) (kd := (0, 1)) rfl rfl d_Wall_setFlowsBetween_99 ?_
        refine lv_aload_n hx hb d_Wall_setFlowsBetween_102 rfl (lv_at hl 2 rfl) ?_
        refine x_get (C := "WallDamp$Cell") (F := F_Cell) (N := 15) hx hb hts i_Cell hown hK hH hT40 (by decide) rfl 1 (by decide) (hts _ m_190) (u_same (hts _ m_191)) (kd := (0, 1)) rfl rfl d_Wall_setFlowsBetween_103 ?_
        refine lv_isub hx hb d_Wall_setFlowsBetween_106 ?_
        refine lv_iload hx hb d_Wall_setFlowsBetween_107 (lv_at hl 0 rfl) ?_
        refine lv_imul hx hb d_Wall_setFlowsBetween_109 ?_
        refine lv_sipush (v := 1000) hx hb d_Wall_setFlowsBetween_110 (by decide) ?_
        refine lv_idiv hx hb d_Wall_setFlowsBetween_113 (by decide) ?_
        refine lv_iadd hx hb d_Wall_setFlowsBetween_114 ?_
        obtain ⟨_, e70, hf⟩ := x_b hf
        obtain ⟨n71, hT72⟩ := x_is_e e70
        obtain ⟨q68, e69, hf⟩ := x_b hf
        refine x_call (st1 := []) (x_runV (As := [.int (((((x_I w 2 a20) - (x_I w 2 a28)) * q46) / (1000 : Int32)) + ((((x_I w 1 a20) - (x_I w 1 a28)) * q58) / (1000 : Int32)))]) (rest := []) ⟨hx, hb, hml, hown, hts⟩ (c_Flow_setInward l D aC ad T nx H.size w a66 (((((x_I w 2 a20) - (x_I w 2 a28)) * q46) / (1000 : Int32)) + ((((x_I w 1 a20) - (x_I w 1 a28)) * q58) / (1000 : Int32))) q68 e69) (cwV 1 hts (x_gV m_659 m_660 m_661 m_11 m_662) rfl rfl rfl ⟨rfl, pd_Flow_setInward⟩ ⟨Nat.le_of_ble_eq_true rfl, Nat.le_of_ble_eq_true rfl⟩) hH hK hX hT72 (by decide) rfl rfl rfl hl.1 rfl (lv_room (Nat.le_of_ble_eq_true rfl)) d_Wall_setFlowsBetween_115 ⟨Nat.zero_le _, Nat.zero_le _⟩) rfl hH hA hS (fun H locs hH hS => ?_)
        refine lv_iinc (v := (l1 + 1)) (lv' := [(1, .int (l1 + 1)), (5, .int q58), (4, .int q46), (3, .ref (ad a28)), (2, .ref (ad a20)), (0, .ref (ad l0))]) hx hb d_Wall_setFlowsBetween_118 hl (k := 5) rfl rfl (by decide) rfl (fun ls hl => ?_)
        refine lv_goto (tgt := 2) hx hb d_Wall_setFlowsBetween_121 (by decide) ?_
        exact ih q68 _ _ _ l0 (l1 + 1) hf hH hS (lv_sub hl [5, 0] rfl)
set_option maxHeartbeats 4000000 in
set_option maxRecDepth 100000 in
theorem k_Wall_setFlowsBetween {p : Program} {l : Launch} {e : Env} {s : State} {m : MethodId} {args : Array Value} {below : List Frame} {meth : Method} {c : Code} {D : va_G} {aC : Nat → ClassId} {ad : Nat → Nat} {T : x_T} {nx : Nat} {A : Nat → Prop} {q : x_W} (C0 : x_At p s m meth c args "WallDamp$Wall" b_Wall_setFlowsBetween none 6 D aC A) : ∀ (w : x_W) (H : Heap) (locs : List Loc) (ls : Array Slot) (l0 : Nat), f_Wall_setFlowsBetween T w l0 = some q → x_H D x_cl x_FT aC ad T nx A w H → va_S A s.heap H locs → lv_has ls 6 [(0, .ref (ad l0))] → W p l e { frames := 1, cells := 0, slots := 0, locals := 21 } s m args below meth c H locs 0 0 (MQ below (x_Qc D aC ad T nx none q A) args s 0 0 A) (F0 m 0 ls []) := by
  obtain ⟨hx, hb, hr, hml, hown, hts, hlocks, hK, hA, hX⟩ := id C0
  intro w H locs ls l0 hf hH hS hl
  unfold f_Wall_setFlowsBetween at hf
  refine lv_iconst (v := 0) hx hb d_Wall_setFlowsBetween_0 (by decide) ?_
  refine lv_istore_n (lv' := [(1, .int (0 : Int32)), (0, .ref (ad l0))]) hx hb d_Wall_setFlowsBetween_1 rfl hl (by decide) rfl (fun ls hl => ?_)
  exact k_Wall_setFlowsBetween_2 C0 1000 w _ _ _ l0 (0 : Int32) hf hH hS (lv_sub hl [1, 0] rfl)
theorem c_Wall_setFlowsBetween (l : Launch) (D : va_G) (aC : Nat → ClassId) (ad : Nat → Nat) (T : x_T) (nx sz : Nat) (w : x_W) (a0 : Nat) (q : x_W) (hf : f_Wall_setFlowsBetween T w a0 = some q) : Met l y_Wall_setFlowsBetween ws_Wall_setFlowsBetween { frames := 1, cells := 0, slots := 0, locals := 21 } (x_Pc D aC ad T nx sz w [.ref (ad a0)]) (x_Qc D aC ad T nx none q (x_dom ad nx sz)) 0 0 (x_dom ad nx sz) :=
  x_met [(0, .ref (ad a0))] (plainFor_of_name (by decide)) rfl rfl (Nat.le_of_ble_eq_true rfl) (fun p e s m args below meth c ls C0 hH hS hl => k_Wall_setFlowsBetween C0 w _ _ _ a0 hf hH hS (lv_sub hl [0] rfl))
/-! WallDamp$Wall.limitFlows()V -/
def f_Wall_limitFlows_77 (T : x_T) : Nat → x_W → Nat → Int32 → Int32 → Option (x_W)
  | 0, _, _, _, _ => none
  | n + 1, w, l1, l2, l3 =>
    if l2 ≤ l3 then
      (some w)
    else
      ((x_ix T l1 105 l3).bind fun _ =>
      (x_Q w l1 l3.toNatClampNeg).bind fun a6 =>
      (x_is T a6 4).bind fun _ =>
      (f_Flow_limitComing T w a6).bind fun q8 =>
      f_Wall_limitFlows_77 T n q8 l1 l2 (l3 + 1))
def f_Wall_limitFlows_41 (T : x_T) : Nat → x_W → Nat → Nat → Int32 → Int32 → Option (x_W)
  | 0, _, _, _, _, _ => none
  | n + 1, w, l0, l1, l2, l3 =>
    if l2 ≤ l3 then
      ((x_is T l0 9).bind fun _ =>
      (x_R w 63 l0).bind fun a5 =>
      (x_len T a5 105).bind fun n7 =>
      (some ((nI n7))).bind fun v9 =>
      f_Wall_limitFlows_77 T 1000 w a5 v9 (0 : Int32))
    else
      ((x_ix T l1 105 l3).bind fun _ =>
      (x_Q w l1 l3.toNatClampNeg).bind fun a15 =>
      (x_is T a15 4).bind fun _ =>
      (f_Flow_limitLeaving T w a15).bind fun q17 =>
      (f_Flow_countComing T q17 a15).bind fun q22 =>
      f_Wall_limitFlows_41 T n q22 l0 l1 l2 (l3 + 1))
def f_Wall_limitFlows_10 (T : x_T) : Nat → x_W → Nat → Nat → Int32 → Int32 → Option (x_W)
  | 0, _, _, _, _, _ => none
  | n + 1, w, l0, l1, l2, l3 =>
    if l2 ≤ l3 then
      ((x_is T l0 9).bind fun _ =>
      (x_R w 63 l0).bind fun a5 =>
      (x_len T a5 105).bind fun n7 =>
      (some ((nI n7))).bind fun v9 =>
      f_Wall_limitFlows_41 T 1000 w l0 a5 v9 (0 : Int32))
    else
      ((x_ix T l1 105 l3).bind fun _ =>
      (x_Q w l1 l3.toNatClampNeg).bind fun a15 =>
      (x_is T a15 4).bind fun _ =>
      (f_Flow_countLeaving T w a15).bind fun q17 =>
      f_Wall_limitFlows_10 T n q17 l0 l1 l2 (l3 + 1))
def f_Wall_limitFlows (T : x_T) (w : x_W) (l0 : Nat) : Option (x_W) :=
  (x_is T l0 9).bind fun _ =>
  (x_R w 63 l0).bind fun a4 =>
  (x_len T a4 105).bind fun n6 =>
  (some ((nI n6))).bind fun v8 =>
  f_Wall_limitFlows_10 T 1000 w l0 a4 v8 (0 : Int32)
set_option maxHeartbeats 4000000 in
set_option maxRecDepth 100000 in
theorem k_Wall_limitFlows_77 {p : Program} {l : Launch} {e : Env} {s : State} {m : MethodId} {args : Array Value} {below : List Frame} {meth : Method} {c : Code} {D : va_G} {aC : Nat → ClassId} {ad : Nat → Nat} {T : x_T} {nx : Nat} {A : Nat → Prop} {q : x_W} (C0 : x_At p s m meth c args "WallDamp$Wall" b_Wall_limitFlows none 5 D aC A) : ∀ (n : Nat), ∀ (w : x_W) (H : Heap) (locs : List Loc) (ls : Array Slot) (l1 : Nat) (l2 : Int32) (l3 : Int32), f_Wall_limitFlows_77 T n w l1 l2 l3 = some q → x_H D x_cl x_FT aC ad T nx A w H → va_S A s.heap H locs → lv_has ls 5 [(1, .ref (ad l1)), (2, .int l2), (3, .int l3)] → W p l e { frames := 2, cells := 0, slots := 0, locals := 42 } s m args below meth c H locs 0 0 (MQ below (x_Qc D aC ad T nx none q A) args s 0 0 A) (F0 m 77 ls []) := by
  obtain ⟨hx, hb, hr, hml, hown, hts, hlocks, hK, hA, hX⟩ := id C0
  intro n
  induction n with
  | zero => intro w H locs ls l1 l2 l3 hf; cases (show none = some q from hf)
  | succ n ih =>
    intro w H locs ls l1 l2 l3 hf hH hS hl
    unfold f_Wall_limitFlows_77 at hf
    refine lv_iload_n hx hb d_Wall_limitFlows_77 rfl (lv_at hl 2 rfl) ?_
    refine lv_iload_n hx hb d_Wall_limitFlows_78 rfl (lv_at hl 1 rfl) ?_
    refine lv_icmp_ge (tgt := 98) hx hb d_Wall_limitFlows_79 (by decide) (fun c1 => ?_) (fun c1 => ?_)
    · have hf := x_it hf c1
      cases hf
      refine x_sz0 hS (fun hz => ?_)
      exact W.vret hx hb hr (fun t ht hW => ⟨rfl, hS.F ht, by rw [ht]; exact hz, by rw [ht]; exact hH.weaken (fun _ _ _ => trivial)⟩) hS.2.2 d_Wall_limitFlows_98
    · have hf := x_if hf c1
      refine lv_aload_n hx hb d_Wall_limitFlows_82 rfl (lv_at hl 0 rfl) ?_
      refine lv_iload_n hx hb d_Wall_limitFlows_83 rfl (lv_at hl 2 rfl) ?_
      obtain ⟨_, e2, hf⟩ := x_b hf
      obtain ⟨n3, hT4, hi5⟩ := x_ix_e e2
      obtain ⟨a6, e7, hf⟩ := x_b hf
      refine x_aald hx hb hK hH hT4 (by decide) 5 rfl hi5 (x_qr e7) d_Wall_limitFlows_84 ?_
      refine lv_astore (lv' := [(4, .ref (ad a6)), (1, .ref (ad l1)), (2, .int l2), (3, .int l3)]) hx hb d_Wall_limitFlows_85 hl (by decide) rfl (fun ls hl => ?_)
      refine lv_aload hx hb d_Wall_limitFlows_87 (lv_at hl 0 rfl) ?_
      obtain ⟨_, e10, hf⟩ := x_b hf
      obtain ⟨n11, hT12⟩ := x_is_e e10
      obtain ⟨q8, e9, hf⟩ := x_b hf
      refine x_call (st1 := []) (x_runV (As := []) (rest := []) ⟨hx, hb, hml, hown, hts⟩ (c_Flow_limitComing l D aC ad T nx H.size w a6 q8 e9) (cwV 0 hts (x_gV m_688 m_689 m_690 m_11 m_691) rfl rfl rfl ⟨rfl, pd_Flow_limitComing⟩ ⟨Nat.le_of_ble_eq_true rfl, Nat.le_of_ble_eq_true rfl⟩) hH hK hX hT12 (by decide) rfl rfl rfl hl.1 rfl (lv_room (Nat.le_of_ble_eq_true rfl)) d_Wall_limitFlows_89 ⟨Nat.zero_le _, Nat.zero_le _⟩) rfl hH hA hS (fun H locs hH hS => ?_)
      refine lv_iinc (v := (l3 + 1)) (lv' := [(3, .int (l3 + 1)), (4, .ref (ad a6)), (1, .ref (ad l1)), (2, .int l2)]) hx hb d_Wall_limitFlows_92 hl (k := 3) rfl rfl (by decide) rfl (fun ls hl => ?_)
      refine lv_goto (tgt := 77) hx hb d_Wall_limitFlows_95 (by decide) ?_
      exact ih q8 _ _ _ l1 l2 (l3 + 1) hf hH hS (lv_sub hl [2, 3, 0] rfl)
set_option maxHeartbeats 4000000 in
set_option maxRecDepth 100000 in
theorem k_Wall_limitFlows_41 {p : Program} {l : Launch} {e : Env} {s : State} {m : MethodId} {args : Array Value} {below : List Frame} {meth : Method} {c : Code} {D : va_G} {aC : Nat → ClassId} {ad : Nat → Nat} {T : x_T} {nx : Nat} {A : Nat → Prop} {q : x_W} (C0 : x_At p s m meth c args "WallDamp$Wall" b_Wall_limitFlows none 5 D aC A) : ∀ (n : Nat), ∀ (w : x_W) (H : Heap) (locs : List Loc) (ls : Array Slot) (l0 : Nat) (l1 : Nat) (l2 : Int32) (l3 : Int32), f_Wall_limitFlows_41 T n w l0 l1 l2 l3 = some q → x_H D x_cl x_FT aC ad T nx A w H → va_S A s.heap H locs → lv_has ls 5 [(0, .ref (ad l0)), (1, .ref (ad l1)), (2, .int l2), (3, .int l3)] → W p l e { frames := 2, cells := 0, slots := 0, locals := 42 } s m args below meth c H locs 0 0 (MQ below (x_Qc D aC ad T nx none q A) args s 0 0 A) (F0 m 41 ls []) := by
  obtain ⟨hx, hb, hr, hml, hown, hts, hlocks, hK, hA, hX⟩ := id C0
  intro n
  induction n with
  | zero => intro w H locs ls l0 l1 l2 l3 hf; cases (show none = some q from hf)
  | succ n ih =>
    intro w H locs ls l0 l1 l2 l3 hf hH hS hl
    unfold f_Wall_limitFlows_41 at hf
    refine lv_iload_n hx hb d_Wall_limitFlows_41 rfl (lv_at hl 3 rfl) ?_
    refine lv_iload_n hx hb d_Wall_limitFlows_42 rfl (lv_at hl 2 rfl) ?_
    refine lv_icmp_ge (tgt := 67) hx hb d_Wall_limitFlows_43 (by decide) (fun c1 => ?_) (fun c1 => ?_)
    · have hf := x_it hf c1
      refine lv_aload_n hx hb d_Wall_limitFlows_67 rfl (lv_at hl 0 rfl) ?_
      obtain ⟨_, e2, hf⟩ := x_b hf
      obtain ⟨n3, hT4⟩ := x_is_e e2
      obtain ⟨a5, e6, hf⟩ := x_b hf
      refine x_get (C := "WallDamp$Wall") (F := F_Wall) (N := 9) hx hb hts i_Wall hown hK hH hT4 (by decide) rfl 8 (by decide) (hts _ m_308) (fun _ h9 => h9) (kd := (2, 63)) rfl (x_fr e6) d_Wall_limitFlows_68 ?_
      refine lv_astore_n (lv' := [(1, .ref (ad a5)), (0, .ref (ad l0)), (2, .int l2), (3, .int l3)]) hx hb d_Wall_limitFlows_71 rfl hl (by decide) rfl (fun ls hl => ?_)
      refine lv_aload_n hx hb d_Wall_limitFlows_72 rfl (lv_at hl 0 rfl) ?_
      obtain ⟨n7, e8, hf⟩ := x_b hf
      refine x_alen hx hb hK hH (x_len_e e8) (by decide) 5 rfl d_Wall_limitFlows_73 ?_
      obtain ⟨v9, e10, hf⟩ := x_b hf
      refine x_nmi e10 ?_
      refine lv_istore_n (lv' := [(2, .int v9), (1, .ref (ad a5)), (0, .ref (ad l0)), (3, .int l3)]) hx hb d_Wall_limitFlows_74 rfl hl (by decide) rfl (fun ls hl => ?_)
      refine lv_iconst (v := 0) hx hb d_Wall_limitFlows_75 (by decide) ?_
      refine lv_istore_n (lv' := [(3, .int (0 : Int32)), (2, .int v9), (1, .ref (ad a5)), (0, .ref (ad l0))]) hx hb d_Wall_limitFlows_76 rfl hl (by decide) rfl (fun ls hl => ?_)
      exact k_Wall_limitFlows_77 C0 1000 w _ _ _ a5 v9 (0 : Int32) hf hH hS (lv_sub hl [2, 1, 0] rfl)
    · have hf := x_if hf c1
      refine lv_aload_n hx hb d_Wall_limitFlows_46 rfl (lv_at hl 1 rfl) ?_
      refine lv_iload_n hx hb d_Wall_limitFlows_47 rfl (lv_at hl 3 rfl) ?_
      obtain ⟨_, e11, hf⟩ := x_b hf
      obtain ⟨n12, hT13, hi14⟩ := x_ix_e e11
      obtain ⟨a15, e16, hf⟩ := x_b hf
      refine x_aald hx hb hK hH hT13 (by decide) 5 rfl hi14 (x_qr e16) d_Wall_limitFlows_48 ?_
      refine lv_astore (lv' := [(4, .ref (ad a15)), (0, .ref (ad l0)), (1, .ref (ad l1)), (2, .int l2), (3, .int l3)]) hx hb d_Wall_limitFlows_49 hl (by decide) rfl (fun ls hl => ?_)
      refine lv_aload hx hb d_Wall_limitFlows_51 (lv_at hl 0 rfl) ?_
      obtain ⟨_, e19, hf⟩ := x_b hf
      obtain ⟨n20, hT21⟩ := x_is_e e19
      obtain ⟨q17, e18, hf⟩ := x_b hf
      refine x_call (st1 := []) (x_runV (As := []) (rest := []) ⟨hx, hb, hml, hown, hts⟩ (c_Flow_limitLeaving l D aC ad T nx H.size w a15 q17 e18) (cwV 0 hts (x_gV m_676 m_677 m_678 m_11 m_679) rfl rfl rfl ⟨rfl, pd_Flow_limitLeaving⟩ ⟨Nat.le_of_ble_eq_true rfl, Nat.le_of_ble_eq_true rfl⟩) hH hK hX hT21 (by decide) rfl rfl rfl hl.1 rfl (lv_room (Nat.le_of_ble_eq_true rfl)) d_Wall_limitFlows_53 ⟨Nat.zero_le _, Nat.zero_le _⟩) rfl hH hA hS (fun H locs hH hS => ?_)
      refine lv_aload hx hb d_Wall_limitFlows_56 (lv_at hl 0 rfl) ?_
      obtain ⟨q22, e23, hf⟩ := x_b hf
      refine x_call (st1 := []) (x_runV (As := []) (rest := []) ⟨hx, hb, hml, hown, hts⟩ (c_Flow_countComing l D aC ad T nx H.size q17 a15 q22 e23) (cwV 0 hts (x_gV m_684 m_685 m_686 m_11 m_687) rfl rfl rfl ⟨rfl, pd_Flow_countComing⟩ ⟨Nat.le_of_ble_eq_true rfl, Nat.le_of_ble_eq_true rfl⟩) hH hK hX hT21 (by decide) rfl rfl rfl hl.1 rfl (lv_room (Nat.le_of_ble_eq_true rfl)) d_Wall_limitFlows_58 ⟨Nat.zero_le _, Nat.zero_le _⟩) rfl hH hA hS (fun H locs hH hS => ?_)
      refine lv_iinc (v := (l3 + 1)) (lv' := [(3, .int (l3 + 1)), (4, .ref (ad a15)), (0, .ref (ad l0)), (1, .ref (ad l1)), (2, .int l2)]) hx hb d_Wall_limitFlows_61 hl (k := 4) rfl rfl (by decide) rfl (fun ls hl => ?_)
      refine lv_goto (tgt := 41) hx hb d_Wall_limitFlows_64 (by decide) ?_
      exact ih q22 _ _ _ l0 l1 l2 (l3 + 1) hf hH hS (lv_sub hl [2, 3, 4, 0] rfl)
set_option maxHeartbeats 4000000 in
set_option maxRecDepth 100000 in
theorem k_Wall_limitFlows_10 {p : Program} {l : Launch} {e : Env} {s : State} {m : MethodId} {args : Array Value} {below : List Frame} {meth : Method} {c : Code} {D : va_G} {aC : Nat → ClassId} {ad : Nat → Nat} {T : x_T} {nx : Nat} {A : Nat → Prop} {q : x_W} (C0 : x_At p s m meth c args "WallDamp$Wall" b_Wall_limitFlows none 5 D aC A) : ∀ (n : Nat), ∀ (w : x_W) (H : Heap) (locs : List Loc) (ls : Array Slot) (l0 : Nat) (l1 : Nat) (l2 : Int32) (l3 : Int32), f_Wall_limitFlows_10 T n w l0 l1 l2 l3 = some q → x_H D x_cl x_FT aC ad T nx A w H → va_S A s.heap H locs → lv_has ls 5 [(0, .ref (ad l0)), (1, .ref (ad l1)), (2, .int l2), (3, .int l3)] → W p l e { frames := 2, cells := 0, slots := 0, locals := 42 } s m args below meth c H locs 0 0 (MQ below (x_Qc D aC ad T nx none q A) args s 0 0 A) (F0 m 10 ls []) := by
  obtain ⟨hx, hb, hr, hml, hown, hts, hlocks, hK, hA, hX⟩ := id C0
  intro n
  induction n with
  | zero => intro w H locs ls l0 l1 l2 l3 hf; cases (show none = some q from hf)
  | succ n ih =>
    intro w H locs ls l0 l1 l2 l3 hf hH hS hl
    unfold f_Wall_limitFlows_10 at hf
    refine lv_iload_n hx hb d_Wall_limitFlows_10 rfl (lv_at hl 3 rfl) ?_
    refine lv_iload_n hx hb d_Wall_limitFlows_11 rfl (lv_at hl 2 rfl) ?_
    refine lv_icmp_ge (tgt := 31) hx hb d_Wall_limitFlows_12 (by decide) (fun c1 => ?_) (fun c1 => ?_)
    · have hf := x_it hf c1
      refine lv_aload_n hx hb d_Wall_limitFlows_31 rfl (lv_at hl 0 rfl) ?_
      obtain ⟨_, e2, hf⟩ := x_b hf
      obtain ⟨n3, hT4⟩ := x_is_e e2
      obtain ⟨a5, e6, hf⟩ := x_b hf
      refine x_get (C := "WallDamp$Wall") (F := F_Wall) (N := 9) hx hb hts i_Wall hown hK hH hT4 (by decide) rfl 8 (by decide) (hts _ m_308) (fun _ h9 => h9) (kd := (2, 63)) rfl (x_fr e6) d_Wall_limitFlows_32 ?_
      refine lv_astore_n (lv' := [(1, .ref (ad a5)), (0, .ref (ad l0)), (2, .int l2), (3, .int l3)]) hx hb d_Wall_limitFlows_35 rfl hl (by decide) rfl (fun ls hl => ?_)
      refine lv_aload_n hx hb d_Wall_limitFlows_36 rfl (lv_at hl 0 rfl) ?_
      obtain ⟨n7, e8, hf⟩ := x_b hf
      refine x_alen hx hb hK hH (x_len_e e8) (by decide) 5 rfl d_Wall_limitFlows_37 ?_
      obtain ⟨v9, e10, hf⟩ := x_b hf
      refine x_nmi e10 ?_
      refine lv_istore_n (lv' := [(2, .int v9), (1, .ref (ad a5)), (0, .ref (ad l0)), (3, .int l3)]) hx hb d_Wall_limitFlows_38 rfl hl (by decide) rfl (fun ls hl => ?_)
      refine lv_iconst (v := 0) hx hb d_Wall_limitFlows_39 (by decide) ?_
      refine lv_istore_n (lv' := [(3, .int (0 : Int32)), (2, .int v9), (1, .ref (ad a5)), (0, .ref (ad l0))]) hx hb d_Wall_limitFlows_40 rfl hl (by decide) rfl (fun ls hl => ?_)
      exact k_Wall_limitFlows_41 C0 1000 w _ _ _ l0 a5 v9 (0 : Int32) hf hH hS (lv_sub hl [3, 2, 1, 0] rfl)
    · have hf := x_if hf c1
      refine lv_aload_n hx hb d_Wall_limitFlows_15 rfl (lv_at hl 1 rfl) ?_
      refine lv_iload_n hx hb d_Wall_limitFlows_16 rfl (lv_at hl 3 rfl) ?_
      obtain ⟨_, e11, hf⟩ := x_b hf
      obtain ⟨n12, hT13, hi14⟩ := x_ix_e e11
      obtain ⟨a15, e16, hf⟩ := x_b hf
      refine x_aald hx hb hK hH hT13 (by decide) 5 rfl hi14 (x_qr e16) d_Wall_limitFlows_17 ?_
      refine lv_astore (lv' := [(4, .ref (ad a15)), (0, .ref (ad l0)), (1, .ref (ad l1)), (2, .int l2), (3, .int l3)]) hx hb d_Wall_limitFlows_18 hl (by decide) rfl (fun ls hl => ?_)
      refine lv_aload hx hb d_Wall_limitFlows_20 (lv_at hl 0 rfl) ?_
      obtain ⟨_, e19, hf⟩ := x_b hf
      obtain ⟨n20, hT21⟩ := x_is_e e19
      obtain ⟨q17, e18, hf⟩ := x_b hf
      refine x_call (st1 := []) (x_runV (As := []) (rest := []) ⟨hx, hb, hml, hown, hts⟩ (c_Flow_countLeaving l D aC ad T nx H.size w a15 q17 e18) (cwV 0 hts (x_gV m_672 m_673 m_674 m_11 m_675) rfl rfl rfl ⟨rfl, pd_Flow_countLeaving⟩ ⟨Nat.le_of_ble_eq_true rfl, Nat.le_of_ble_eq_true rfl⟩) hH hK hX hT21 (by decide) rfl rfl rfl hl.1 rfl (lv_room (Nat.le_of_ble_eq_true rfl)) d_Wall_limitFlows_22 ⟨Nat.zero_le _, Nat.zero_le _⟩) rfl hH hA hS (fun H locs hH hS => ?_)
      refine lv_iinc (v := (l3 + 1)) (lv' := [(3, .int (l3 + 1)), (4, .ref (ad a15)), (0, .ref (ad l0)), (1, .ref (ad l1)), (2, .int l2)]) hx hb d_Wall_limitFlows_25 hl (k := 4) rfl rfl (by decide) rfl (fun ls hl => ?_)
      refine lv_goto (tgt := 10) hx hb d_Wall_limitFlows_28 (by decide) ?_
      exact ih q17 _ _ _ l0 l1 l2 (l3 + 1) hf hH hS (lv_sub hl [2, 3, 4, 0] rfl)
set_option maxHeartbeats 4000000 in
set_option maxRecDepth 100000 in
theorem k_Wall_limitFlows {p : Program} {l : Launch} {e : Env} {s : State} {m : MethodId} {args : Array Value} {below : List Frame} {meth : Method} {c : Code} {D : va_G} {aC : Nat → ClassId} {ad : Nat → Nat} {T : x_T} {nx : Nat} {A : Nat → Prop} {q : x_W} (C0 : x_At p s m meth c args "WallDamp$Wall" b_Wall_limitFlows none 5 D aC A) : ∀ (w : x_W) (H : Heap) (locs : List Loc) (ls : Array Slot) (l0 : Nat), f_Wall_limitFlows T w l0 = some q → x_H D x_cl x_FT aC ad T nx A w H → va_S A s.heap H locs → lv_has ls 5 [(0, .ref (ad l0))] → W p l e { frames := 2, cells := 0, slots := 0, locals := 42 } s m args below meth c H locs 0 0 (MQ below (x_Qc D aC ad T nx none q A) args s 0 0 A) (F0 m 0 ls []) := by
  obtain ⟨hx, hb, hr, hml, hown, hts, hlocks, hK, hA, hX⟩ := id C0
  intro w H locs ls l0 hf hH hS hl
  unfold f_Wall_limitFlows at hf
  refine lv_aload_n hx hb d_Wall_limitFlows_0 rfl (lv_at hl 0 rfl) ?_
  obtain ⟨_, e1, hf⟩ := x_b hf
  obtain ⟨n2, hT3⟩ := x_is_e e1
  obtain ⟨a4, e5, hf⟩ := x_b hf
  refine x_get (C := "WallDamp$Wall") (F := F_Wall) (N := 9) hx hb hts i_Wall hown hK hH hT3 (by decide) rfl 8 (by decide) (hts _ m_308) (fun _ h9 => h9) (kd := (2, 63)) rfl (x_fr e5) d_Wall_limitFlows_1 ?_
  refine lv_astore_n (lv' := [(1, .ref (ad a4)), (0, .ref (ad l0))]) hx hb d_Wall_limitFlows_4 rfl hl (by decide) rfl (fun ls hl => ?_)
  refine lv_aload_n hx hb d_Wall_limitFlows_5 rfl (lv_at hl 0 rfl) ?_
  obtain ⟨n6, e7, hf⟩ := x_b hf
  refine x_alen hx hb hK hH (x_len_e e7) (by decide) 5 rfl d_Wall_limitFlows_6 ?_
  obtain ⟨v8, e9, hf⟩ := x_b hf
  refine x_nmi e9 ?_
  refine lv_istore_n (lv' := [(2, .int v8), (1, .ref (ad a4)), (0, .ref (ad l0))]) hx hb d_Wall_limitFlows_7 rfl hl (by decide) rfl (fun ls hl => ?_)
  refine lv_iconst (v := 0) hx hb d_Wall_limitFlows_8 (by decide) ?_
  refine lv_istore_n (lv' := [(3, .int (0 : Int32)), (2, .int v8), (1, .ref (ad a4)), (0, .ref (ad l0))]) hx hb d_Wall_limitFlows_9 rfl hl (by decide) rfl (fun ls hl => ?_)
  exact k_Wall_limitFlows_10 C0 1000 w _ _ _ l0 a4 v8 (0 : Int32) hf hH hS (lv_sub hl [3, 2, 1, 0] rfl)
theorem c_Wall_limitFlows (l : Launch) (D : va_G) (aC : Nat → ClassId) (ad : Nat → Nat) (T : x_T) (nx sz : Nat) (w : x_W) (a0 : Nat) (q : x_W) (hf : f_Wall_limitFlows T w a0 = some q) : Met l y_Wall_limitFlows ws_Wall_limitFlows { frames := 2, cells := 0, slots := 0, locals := 42 } (x_Pc D aC ad T nx sz w [.ref (ad a0)]) (x_Qc D aC ad T nx none q (x_dom ad nx sz)) 0 0 (x_dom ad nx sz) :=
  x_met [(0, .ref (ad a0))] (plainFor_of_name (by decide)) rfl rfl (Nat.le_of_ble_eq_true rfl) (fun p e s m args below meth c ls C0 hH hS hl => k_Wall_limitFlows C0 w _ _ _ a0 hf hH hS (lv_sub hl [0] rfl))
/-! WallDamp$Wall.moveWater(LWallDamp$Surroundings;I)V -/
def f_Wall_moveWater_145 (T : x_T) : Nat → x_W → Nat → Int32 → Int32 → Option (x_W)
  | 0, _, _, _, _ => none
  | n + 1, w, l4, l5, l6 =>
    if l5 ≤ l6 then
      (some w)
    else
      ((x_ix T l4 105 l6).bind fun _ =>
      (x_Q w l4 l6.toNatClampNeg).bind fun a6 =>
      (x_is T a6 4).bind fun _ =>
      (f_Flow_move T w a6).bind fun q8 =>
      f_Wall_moveWater_145 T n q8 l4 l5 (l6 + 1))
def f_Wall_moveWater_87 (T : x_T) : Nat → x_W → Nat → Nat → Int32 → Nat → Int32 → Int32 → Option (x_W)
  | 0, _, _, _, _, _, _, _ => none
  | n + 1, w, l0, l1, l3, l4, l5, l6 =>
    if l5 ≤ l6 then
      ((x_is T l1 7).bind fun _ =>
      (x_R w 46 l1).bind fun a5 =>
      (x_ix T a5 100 l3).bind fun _ =>
      (x_is T l0 9).bind fun _ =>
      (f_Wall_setAirFlows T w l0 (x_A w a5 l3.toNatClampNeg)).bind fun q11 =>
      (f_Wall_setFlowsBetween T q11 l0).bind fun q16 =>
      (f_Wall_limitFlows T q16 l0).bind fun q18 =>
      (x_R q18 63 l0).bind fun a20 =>
      (x_len T a20 105).bind fun n22 =>
      (some ((nI n22))).bind fun v24 =>
      f_Wall_moveWater_145 T 1000 q18 a20 v24 (0 : Int32))
    else
      ((x_ix T l4 104 l6).bind fun _ =>
      (x_Q w l4 l6.toNatClampNeg).bind fun a30 =>
      (x_is T a30 2).bind fun _ =>
      (f_Cell_beginHour T w a30 l1).bind fun q32 =>
      f_Wall_moveWater_87 T n q32 l0 l1 l3 l4 l5 (l6 + 1))
def f_Wall_moveWater (T : x_T) (w : x_W) (l0 : Nat) (l1 : Nat) (l2 : Int32) : Option (x_W) :=
  (f_Math_floorMod T w l2 (24 : Int32)).bind fun q1 =>
  (x_is T l0 9).bind fun _ =>
  (x_R w 56 l0).bind fun a6 =>
  (x_is T l1 7).bind fun _ =>
  (x_R w 44 l1).bind fun a11 =>
  (x_ix T a11 100 q1).bind fun _ =>
  (x_R w 47 l1).bind fun a17 =>
  (x_ix T a17 100 q1).bind fun _ =>
  (x_is T a6 1).bind fun _ =>
  (some (x_sI w 0 a6 ((x_A w a11 q1.toNatClampNeg) + (x_A w a17 q1.toNatClampNeg)))).bind fun w26 =>
  (x_R w26 57 l0).bind fun a28 =>
  (x_R w26 48 l1).bind fun a30 =>
  (x_ix T a30 100 q1).bind fun _ =>
  (x_is T a28 1).bind fun _ =>
  (some (x_sI w26 0 a28 (x_A w26 a30 q1.toNatClampNeg))).bind fun w39 =>
  (f_Wall_warmCells T w39 l0 l1).bind fun q41 =>
  (x_R q41 56 l0).bind fun a43 =>
  (x_R q41 45 l1).bind fun a45 =>
  (x_ix T a45 100 q1).bind fun _ =>
  (x_is T a43 1).bind fun _ =>
  (f_Air_beginHour T q41 a43 l1 (x_A q41 a45 q1.toNatClampNeg)).bind fun q51 =>
  (x_R q51 57 l0).bind fun a56 =>
  (x_R q51 49 l1).bind fun a58 =>
  (x_ix T a58 100 q1).bind fun _ =>
  (x_is T a56 1).bind fun _ =>
  (f_Air_beginHour T q51 a56 l1 (x_A q51 a58 q1.toNatClampNeg)).bind fun q64 =>
  (x_R q64 55 l0).bind fun a69 =>
  (x_len T a69 104).bind fun n71 =>
  (some ((nI n71))).bind fun v73 =>
  f_Wall_moveWater_87 T 1000 q64 l0 l1 q1 a69 v73 (0 : Int32)
set_option maxHeartbeats 4000000 in
set_option maxRecDepth 100000 in
theorem k_Wall_moveWater_145 {p : Program} {l : Launch} {e : Env} {s : State} {m : MethodId} {args : Array Value} {below : List Frame} {meth : Method} {c : Code} {D : va_G} {aC : Nat → ClassId} {ad : Nat → Nat} {T : x_T} {nx : Nat} {A : Nat → Prop} {q : x_W} (C0 : x_At p s m meth c args "WallDamp$Wall" b_Wall_moveWater none 8 D aC A) : ∀ (n : Nat), ∀ (w : x_W) (H : Heap) (locs : List Loc) (ls : Array Slot) (l4 : Nat) (l5 : Int32) (l6 : Int32), f_Wall_moveWater_145 T n w l4 l5 l6 = some q → x_H D x_cl x_FT aC ad T nx A w H → va_S A s.heap H locs → lv_has ls 8 [(4, .ref (ad l4)), (5, .int l5), (6, .int l6)] → W p l e { frames := 3, cells := 0, slots := 0, locals := 69 } s m args below meth c H locs 0 0 (MQ below (x_Qc D aC ad T nx none q A) args s 0 0 A) (F0 m 145 ls []) := by
  obtain ⟨hx, hb, hr, hml, hown, hts, hlocks, hK, hA, hX⟩ := id C0
  intro n
  induction n with
  | zero => intro w H locs ls l4 l5 l6 hf; cases (show none = some q from hf)
  | succ n ih =>
    intro w H locs ls l4 l5 l6 hf hH hS hl
    unfold f_Wall_moveWater_145 at hf
    refine lv_iload hx hb d_Wall_moveWater_145 (lv_at hl 2 rfl) ?_
    refine lv_iload hx hb d_Wall_moveWater_147 (lv_at hl 1 rfl) ?_
    refine lv_icmp_ge (tgt := 170) hx hb d_Wall_moveWater_149 (by decide) (fun c1 => ?_) (fun c1 => ?_)
    · have hf := x_it hf c1
      cases hf
      refine x_sz0 hS (fun hz => ?_)
      exact W.vret hx hb hr (fun t ht hW => ⟨rfl, hS.F ht, by rw [ht]; exact hz, by rw [ht]; exact hH.weaken (fun _ _ _ => trivial)⟩) hS.2.2 d_Wall_moveWater_170
    · have hf := x_if hf c1
      refine lv_aload hx hb d_Wall_moveWater_152 (lv_at hl 0 rfl) ?_
      refine lv_iload hx hb d_Wall_moveWater_154 (lv_at hl 2 rfl) ?_
      obtain ⟨_, e2, hf⟩ := x_b hf
      obtain ⟨n3, hT4, hi5⟩ := x_ix_e e2
      obtain ⟨a6, e7, hf⟩ := x_b hf
      refine x_aald hx hb hK hH hT4 (by decide) 5 rfl hi5 (x_qr e7) d_Wall_moveWater_156 ?_
      refine lv_astore (lv' := [(7, .ref (ad a6)), (4, .ref (ad l4)), (5, .int l5), (6, .int l6)]) hx hb d_Wall_moveWater_157 hl (by decide) rfl (fun ls hl => ?_)
      refine lv_aload hx hb d_Wall_moveWater_159 (lv_at hl 0 rfl) ?_
      obtain ⟨_, e10, hf⟩ := x_b hf
      obtain ⟨n11, hT12⟩ := x_is_e e10
      obtain ⟨q8, e9, hf⟩ := x_b hf
      refine x_call (st1 := []) (x_runV (As := []) (rest := []) ⟨hx, hb, hml, hown, hts⟩ (c_Flow_move l D aC ad T nx H.size w a6 q8 e9) (cwV 0 hts (x_gV m_692 m_693 m_694 m_11 m_695) rfl rfl rfl ⟨rfl, pd_Flow_move⟩ ⟨Nat.le_of_ble_eq_true rfl, Nat.le_of_ble_eq_true rfl⟩) hH hK hX hT12 (by decide) rfl rfl rfl hl.1 rfl (lv_room (Nat.le_of_ble_eq_true rfl)) d_Wall_moveWater_161 ⟨Nat.zero_le _, Nat.zero_le _⟩) rfl hH hA hS (fun H locs hH hS => ?_)
      refine lv_iinc (v := (l6 + 1)) (lv' := [(6, .int (l6 + 1)), (7, .ref (ad a6)), (4, .ref (ad l4)), (5, .int l5)]) hx hb d_Wall_moveWater_164 hl (k := 3) rfl rfl (by decide) rfl (fun ls hl => ?_)
      refine lv_goto (tgt := 145) hx hb d_Wall_moveWater_167 (by decide) ?_
      exact ih q8 _ _ _ l4 l5 (l6 + 1) hf hH hS (lv_sub hl [2, 3, 0] rfl)
set_option maxHeartbeats 4000000 in
set_option maxRecDepth 100000 in
theorem k_Wall_moveWater_87 {p : Program} {l : Launch} {e : Env} {s : State} {m : MethodId} {args : Array Value} {below : List Frame} {meth : Method} {c : Code} {D : va_G} {aC : Nat → ClassId} {ad : Nat → Nat} {T : x_T} {nx : Nat} {A : Nat → Prop} {q : x_W} (C0 : x_At p s m meth c args "WallDamp$Wall" b_Wall_moveWater none 8 D aC A) : ∀ (n : Nat), ∀ (w : x_W) (H : Heap) (locs : List Loc) (ls : Array Slot) (l0 : Nat) (l1 : Nat) (l3 : Int32) (l4 : Nat) (l5 : Int32) (l6 : Int32), f_Wall_moveWater_87 T n w l0 l1 l3 l4 l5 l6 = some q → x_H D x_cl x_FT aC ad T nx A w H → va_S A s.heap H locs → lv_has ls 8 [(0, .ref (ad l0)), (1, .ref (ad l1)), (3, .int l3), (4, .ref (ad l4)), (5, .int l5), (6, .int l6)] → W p l e { frames := 3, cells := 0, slots := 0, locals := 69 } s m args below meth c H locs 0 0 (MQ below (x_Qc D aC ad T nx none q A) args s 0 0 A) (F0 m 87 ls []) := by
  obtain ⟨hx, hb, hr, hml, hown, hts, hlocks, hK, hA, hX⟩ := id C0
  intro n
  induction n with
  | zero => intro w H locs ls l0 l1 l3 l4 l5 l6 hf; cases (show none = some q from hf)
  | succ n ih =>
    intro w H locs ls l0 l1 l3 l4 l5 l6 hf hH hS hl
    unfold f_Wall_moveWater_87 at hf
    refine lv_iload hx hb d_Wall_moveWater_87 (lv_at hl 5 rfl) ?_
    refine lv_iload hx hb d_Wall_moveWater_89 (lv_at hl 4 rfl) ?_
    refine lv_icmp_ge (tgt := 113) hx hb d_Wall_moveWater_91 (by decide) (fun c1 => ?_) (fun c1 => ?_)
    · have hf := x_it hf c1
      refine lv_aload_n hx hb d_Wall_moveWater_113 rfl (lv_at hl 0 rfl) ?_
      refine lv_aload_n hx hb d_Wall_moveWater_114 rfl (lv_at hl 1 rfl) ?_
      obtain ⟨_, e2, hf⟩ := x_b hf
      obtain ⟨n3, hT4⟩ := x_is_e e2
      obtain ⟨a5, e6, hf⟩ := x_b hf
      refine x_get (C := "WallDamp$Surroundings") (F := F_Surroundings) (N := 9) hx hb hts i_Surroundings hown hK hH hT4 (by decide) rfl 3 (by decide) (hts _ m_103) (fun _ h9 => h9) (kd := (2, 46)) rfl (x_fr e6) d_Wall_moveWater_115 ?_
      refine lv_iload_n hx hb d_Wall_moveWater_118 rfl (lv_at hl 2 rfl) ?_
      obtain ⟨_, e7, hf⟩ := x_b hf
      obtain ⟨n8, hT9, hi10⟩ := x_ix_e e7
      refine x_iald hx hb hK hH hT9 0 rfl hi10 d_Wall_moveWater_119 ?_
      obtain ⟨_, e13, hf⟩ := x_b hf
      obtain ⟨n14, hT15⟩ := x_is_e e13
      obtain ⟨q11, e12, hf⟩ := x_b hf
      refine x_call (st1 := []) (x_runV (As := [.int (x_A w a5 l3.toNatClampNeg)]) (rest := []) ⟨hx, hb, hml, hown, hts⟩ (c_Wall_setAirFlows l D aC ad T nx H.size w l0 (x_A w a5 l3.toNatClampNeg) q11 e12) (cwV 1 hts (x_gV m_651 m_653 ms_6 m_7 m_654) rfl rfl rfl ⟨rfl, pd_Wall_setAirFlows⟩ ⟨Nat.le_of_ble_eq_true rfl, Nat.le_of_ble_eq_true rfl⟩) hH hK hX hT15 (by decide) rfl rfl rfl hl.1 rfl (lv_room (Nat.le_of_ble_eq_true rfl)) d_Wall_moveWater_120 ⟨Nat.zero_le _, Nat.zero_le _⟩) rfl hH hA hS (fun H locs hH hS => ?_)
      refine lv_aload_n hx hb d_Wall_moveWater_123 rfl (lv_at hl 0 rfl) ?_
      obtain ⟨q16, e17, hf⟩ := x_b hf
      refine x_call (st1 := []) (x_runV (As := []) (rest := []) ⟨hx, hb, hml, hown, hts⟩ (c_Wall_setFlowsBetween l D aC ad T nx H.size q11 l0 q16 e17) (cwV 0 hts (x_gV m_663 m_665 ms_7 m_7 m_666) rfl rfl rfl ⟨rfl, pd_Wall_setFlowsBetween⟩ ⟨Nat.le_of_ble_eq_true rfl, Nat.le_of_ble_eq_true rfl⟩) hH hK hX hT15 (by decide) rfl rfl rfl hl.1 rfl (lv_room (Nat.le_of_ble_eq_true rfl)) d_Wall_moveWater_124 ⟨Nat.zero_le _, Nat.zero_le _⟩) rfl hH hA hS (fun H locs hH hS => ?_)
      refine lv_aload_n hx hb d_Wall_moveWater_127 rfl (lv_at hl 0 rfl) ?_
      obtain ⟨q18, e19, hf⟩ := x_b hf
      refine x_call (st1 := []) (x_runV (As := []) (rest := []) ⟨hx, hb, hml, hown, hts⟩ (c_Wall_limitFlows l D aC ad T nx H.size q16 l0 q18 e19) (cwV 0 hts (x_gV m_668 m_670 ms_8 m_7 m_671) rfl rfl rfl ⟨rfl, pd_Wall_limitFlows⟩ ⟨Nat.le_of_ble_eq_true rfl, Nat.le_of_ble_eq_true rfl⟩) hH hK hX hT15 (by decide) rfl rfl rfl hl.1 rfl (lv_room (Nat.le_of_ble_eq_true rfl)) d_Wall_moveWater_128 ⟨Nat.zero_le _, Nat.zero_le _⟩) rfl hH hA hS (fun H locs hH hS => ?_)
      refine lv_aload_n hx hb d_Wall_moveWater_131 rfl (lv_at hl 0 rfl) ?_
      obtain ⟨a20, e21, hf⟩ := x_b hf
      refine x_get (C := "WallDamp$Wall") (F := F_Wall) (N := 9) hx hb hts i_Wall hown hK hH hT15 (by decide) rfl 8 (by decide) (hts _ m_308) (fun _ h9 => h9) (kd := (2, 63)) rfl (x_fr e21) d_Wall_moveWater_132 ?_
      refine lv_astore (lv' := [(4, .ref (ad a20)), (0, .ref (ad l0)), (1, .ref (ad l1)), (3, .int l3), (5, .int l5), (6, .int l6)]) hx hb d_Wall_moveWater_135 hl (by decide) rfl (fun ls hl => ?_)
      refine lv_aload hx hb d_Wall_moveWater_137 (lv_at hl 0 rfl) ?_
      obtain ⟨n22, e23, hf⟩ := x_b hf
      refine x_alen hx hb hK hH (x_len_e e23) (by decide) 5 rfl d_Wall_moveWater_139 ?_
      obtain ⟨v24, e25, hf⟩ := x_b hf
      refine x_nmi e25 ?_
      refine lv_istore (lv' := [(5, .int v24), (4, .ref (ad a20)), (0, .ref (ad l0)), (1, .ref (ad l1)), (3, .int l3), (6, .int l6)]) hx hb d_Wall_moveWater_140 hl (by decide) rfl (fun ls hl => ?_)
      refine lv_iconst (v := 0) hx hb d_Wall_moveWater_142 (by decide) ?_
      refine lv_istore (lv' := [(6, .int (0 : Int32)), (5, .int v24), (4, .ref (ad a20)), (0, .ref (ad l0)), (1, .ref (ad l1)), (3, .int l3)]) hx hb d_Wall_moveWater_143 hl (by decide) rfl (fun ls hl => ?_)
      exact k_Wall_moveWater_145 C0 1000 q18 _ _ _ a20 v24 (0 : Int32) hf hH hS (lv_sub hl [2, 1, 0] rfl)
    · have hf := x_if hf c1
      refine lv_aload hx hb d_Wall_moveWater_94 (lv_at hl 3 rfl) ?_
      refine lv_iload hx hb d_Wall_moveWater_96 (lv_at hl 5 rfl) ?_
      obtain ⟨_, e26, hf⟩ := x_b hf
      obtain ⟨n27, hT28, hi29⟩ := x_ix_e e26
      obtain ⟨a30, e31, hf⟩ := x_b hf
      refine x_aald hx hb hK hH hT28 (by decide) 4 rfl hi29 (x_qr e31) d_Wall_moveWater_98 ?_
      refine lv_astore (lv' := [(7, .ref (ad a30)), (0, .ref (ad l0)), (1, .ref (ad l1)), (3, .int l3), (4, .ref (ad l4)), (5, .int l5), (6, .int l6)]) hx hb d_Wall_moveWater_99 hl (by decide) rfl (fun ls hl => ?_)
      refine lv_aload hx hb d_Wall_moveWater_101 (lv_at hl 0 rfl) ?_
      refine lv_aload_n hx hb d_Wall_moveWater_103 rfl (lv_at hl 2 rfl) ?_
      obtain ⟨_, e34, hf⟩ := x_b hf
      obtain ⟨n35, hT36⟩ := x_is_e e34
      obtain ⟨q32, e33, hf⟩ := x_b hf
      refine x_call (st1 := []) (x_runV (As := [.ref (ad l1)]) (rest := []) ⟨hx, hb, hml, hown, hts⟩ (c_Cell_beginHour l D aC ad T nx H.size w a30 l1 q32 e33) (cwV 1 hts (x_gV m_637 m_638 m_639 m_10 m_640) rfl rfl rfl ⟨rfl, pd_Cell_beginHour⟩ ⟨Nat.le_of_ble_eq_true rfl, Nat.le_of_ble_eq_true rfl⟩) hH hK hX hT36 (by decide) rfl rfl rfl hl.1 rfl (lv_room (Nat.le_of_ble_eq_true rfl)) d_Wall_moveWater_104 ⟨Nat.zero_le _, Nat.zero_le _⟩) rfl hH hA hS (fun H locs hH hS => ?_)
      refine lv_iinc (v := (l6 + 1)) (lv' := [(6, .int (l6 + 1)), (7, .ref (ad a30)), (0, .ref (ad l0)), (1, .ref (ad l1)), (3, .int l3), (4, .ref (ad l4)), (5, .int l5)]) hx hb d_Wall_moveWater_107 hl (k := 6) rfl rfl (by decide) rfl (fun ls hl => ?_)
      refine lv_goto (tgt := 87) hx hb d_Wall_moveWater_110 (by decide) ?_
      exact ih q32 _ _ _ l0 l1 l3 l4 l5 (l6 + 1) hf hH hS (lv_sub hl [2, 3, 4, 5, 6, 0] rfl)
set_option maxHeartbeats 4000000 in
set_option maxRecDepth 100000 in
theorem k_Wall_moveWater {p : Program} {l : Launch} {e : Env} {s : State} {m : MethodId} {args : Array Value} {below : List Frame} {meth : Method} {c : Code} {D : va_G} {aC : Nat → ClassId} {ad : Nat → Nat} {T : x_T} {nx : Nat} {A : Nat → Prop} {q : x_W} (C0 : x_At p s m meth c args "WallDamp$Wall" b_Wall_moveWater none 8 D aC A) : ∀ (w : x_W) (H : Heap) (locs : List Loc) (ls : Array Slot) (l0 : Nat) (l1 : Nat) (l2 : Int32), f_Wall_moveWater T w l0 l1 l2 = some q → x_H D x_cl x_FT aC ad T nx A w H → va_S A s.heap H locs → lv_has ls 8 [(0, .ref (ad l0)), (1, .ref (ad l1)), (2, .int l2)] → W p l e { frames := 3, cells := 0, slots := 0, locals := 69 } s m args below meth c H locs 0 0 (MQ below (x_Qc D aC ad T nx none q A) args s 0 0 A) (F0 m 0 ls []) := by
  obtain ⟨hx, hb, hr, hml, hown, hts, hlocks, hK, hA, hX⟩ := id C0
  intro w H locs ls l0 l1 l2 hf hH hS hl
  unfold f_Wall_moveWater at hf
  refine lv_iload_n hx hb d_Wall_moveWater_0 rfl (lv_at hl 2 rfl) ?_
  refine lv_bipush (v := 24) hx hb d_Wall_moveWater_1 (by decide) ?_
  obtain ⟨q1, e2, hf⟩ := x_b hf
  refine x_callP (st1 := [.int q1]) (x_runS (As := [.int l2, .int (24 : Int32)]) (rest := []) ⟨hx, hb, hml, hown, hts⟩ (c_Math_floorMod l D aC ad T nx H.size w l2 (24 : Int32) q1 e2) (va_cwS 2 hts (x_gS m_605 m_606 m_2 m_607) rfl rfl rfl pd_Math_floorMod ⟨Nat.le_of_ble_eq_true rfl, Nat.le_of_ble_eq_true rfl⟩) hH hK hX rfl hl.1 rfl (lv_room (Nat.le_of_ble_eq_true rfl)) d_Wall_moveWater_3 ⟨Nat.zero_le _, Nat.zero_le _⟩) rfl ?_
  refine lv_istore_n (lv' := [(3, .int q1), (0, .ref (ad l0)), (1, .ref (ad l1)), (2, .int l2)]) hx hb d_Wall_moveWater_6 rfl hl (by decide) rfl (fun ls hl => ?_)
  refine lv_aload_n hx hb d_Wall_moveWater_7 rfl (lv_at hl 1 rfl) ?_
  obtain ⟨_, e3, hf⟩ := x_b hf
  obtain ⟨n4, hT5⟩ := x_is_e e3
  obtain ⟨a6, e7, hf⟩ := x_b hf
  refine x_get (C := "WallDamp$Wall") (F := F_Wall) (N := 9) hx hb hts i_Wall hown hK hH hT5 (by decide) rfl 1 (by decide) (hts _ m_299) (fun _ h9 => h9) (kd := (2, 56)) rfl (x_fr e7) d_Wall_moveWater_8 ?_
  refine lv_aload_n hx hb d_Wall_moveWater_11 rfl (lv_at hl 2 rfl) ?_
  obtain ⟨_, e8, hf⟩ := x_b hf
  obtain ⟨n9, hT10⟩ := x_is_e e8
  obtain ⟨a11, e12, hf⟩ := x_b hf
  refine x_get (C := "WallDamp$Surroundings") (F := F_Surroundings) (N := 9) hx hb hts i_Surroundings hown hK hH hT10 (by decide) rfl 1 (by decide) (hts _ m_97) (fun _ h9 => h9) (kd := (2, 44)) rfl (x_fr e12) d_Wall_moveWater_12 ?_
  refine lv_iload_n hx hb d_Wall_moveWater_15 rfl (lv_at hl 0 rfl) ?_
  obtain ⟨_, e13, hf⟩ := x_b hf
  obtain ⟨n14, hT15, hi16⟩ := x_ix_e e13
  refine x_iald hx hb hK hH hT15 0 rfl hi16 d_Wall_moveWater_16 ?_
  refine lv_aload_n hx hb d_Wall_moveWater_17 rfl (lv_at hl 2 rfl) ?_
  obtain ⟨a17, e18, hf⟩ := x_b hf
  refine x_get (C := "WallDamp$Surroundings") (F := F_Surroundings) (N := 9) hx hb hts i_Surroundings hown hK hH hT10 (by decide) rfl 4 (by decide) (hts _ m_106) (fun _ h9 => h9) (kd := (2, 47)) rfl (x_fr e18) d_Wall_moveWater_18 ?_
  refine lv_iload_n hx hb d_Wall_moveWater_21 rfl (lv_at hl 0 rfl) ?_
  obtain ⟨_, e19, hf⟩ := x_b hf
  obtain ⟨n20, hT21, hi22⟩ := x_ix_e e19
  refine x_iald hx hb hK hH hT21 0 rfl hi22 d_Wall_moveWater_22 ?_
  refine lv_iadd hx hb d_Wall_moveWater_23 ?_
  obtain ⟨_, e23, hf⟩ := x_b hf
  obtain ⟨n24, hT25⟩ := x_is_e e23
  refine x_put (C := "WallDamp$Air") (F := F_Air) (N := 9) (ty := t_Air 0) (v := .int ((x_A w a11 q1.toNatClampNeg) + (x_A w a17 q1.toNatClampNeg))) (w' := x_sI w 0 a6 ((x_A w a11 q1.toNatClampNeg) + (x_A w a17 q1.toNatClampNeg))) hx hb hts i_Air t_Air ty_Air n_Air hown hK hH hS hT25 (by decide) rfl rfl 0 (by decide) (hts _ m_184) (u_same (hts _ m_183)) rfl (ty_Air 0 (by decide)) rfl rfl (x_on_I hT25 (by decide) rfl nd_Air) (fun j hj => x_off_I hj) (fun hh ok => x_ok_I hh ok) d_Wall_moveWater_24 (fun H locs hH hS => ?_)
  obtain ⟨w26, e27, hf⟩ := x_b hf
  have hH := x_nw e27 hH
  refine lv_aload_n hx hb d_Wall_moveWater_27 rfl (lv_at hl 1 rfl) ?_
  obtain ⟨a28, e29, hf⟩ := x_b hf
  refine x_get (C := "WallDamp$Wall") (F := F_Wall) (N := 9) hx hb hts i_Wall hown hK hH hT5 (by decide) rfl 2 (by decide) (hts _ m_301) (fun _ h9 => h9) (kd := (2, 57)) rfl (x_fr e29) d_Wall_moveWater_28 ?_
  refine lv_aload_n hx hb d_Wall_moveWater_31 rfl (lv_at hl 2 rfl) ?_
  obtain ⟨a30, e31, hf⟩ := x_b hf
  refine x_get (C := "WallDamp$Surroundings") (F := F_Surroundings) (N := 9) hx hb hts i_Surroundings hown hK hH hT10 (by decide) rfl 5 (by decide) (hts _ m_109) (fun _ h9 => h9) (kd := (2, 48)) rfl (x_fr e31) d_Wall_moveWater_32 ?_
  refine lv_iload_n hx hb d_Wall_moveWater_35 rfl (lv_at hl 0 rfl) ?_
  obtain ⟨_, e32, hf⟩ := x_b hf
  obtain ⟨n33, hT34, hi35⟩ := x_ix_e e32
  refine x_iald hx hb hK hH hT34 0 rfl hi35 d_Wall_moveWater_36 ?_
  obtain ⟨_, e36, hf⟩ := x_b hf
  obtain ⟨n37, hT38⟩ := x_is_e e36
  refine x_put (C := "WallDamp$Air") (F := F_Air) (N := 9) (ty := t_Air 0) (v := .int (x_A w26 a30 q1.toNatClampNeg)) (w' := x_sI w26 0 a28 (x_A w26 a30 q1.toNatClampNeg)) hx hb hts i_Air t_Air ty_Air n_Air hown hK hH hS hT38 (by decide) rfl rfl 0 (by decide) (hts _ m_184) (u_same (hts _ m_183)) rfl (ty_Air 0 (by decide)) rfl rfl (x_on_I hT38 (by decide) rfl nd_Air) (fun j hj => x_off_I hj) (fun hh ok => x_ok_I hh ok) d_Wall_moveWater_37 (fun H locs hH hS => ?_)
  obtain ⟨w39, e40, hf⟩ := x_b hf
  have hH := x_nw e40 hH
  refine lv_aload_n hx hb d_Wall_moveWater_40 rfl (lv_at hl 1 rfl) ?_
  refine lv_aload_n hx hb d_Wall_moveWater_41 rfl (lv_at hl 2 rfl) ?_
  obtain ⟨q41, e42, hf⟩ := x_b hf
  refine x_call (st1 := []) (x_runV (As := [.ref (ad l1)]) (rest := []) ⟨hx, hb, hml, hown, hts⟩ (c_Wall_warmCells l D aC ad T nx H.size w39 l0 l1 q41 e42) (cwV 1 hts (x_gV m_608 m_610 ms_5 m_7 m_611) rfl rfl rfl ⟨rfl, pd_Wall_warmCells⟩ ⟨Nat.le_of_ble_eq_true rfl, Nat.le_of_ble_eq_true rfl⟩) hH hK hX hT5 (by decide) rfl rfl rfl hl.1 rfl (lv_room (Nat.le_of_ble_eq_true rfl)) d_Wall_moveWater_42 ⟨Nat.zero_le _, Nat.zero_le _⟩) rfl hH hA hS (fun H locs hH hS => ?_)
  refine lv_aload_n hx hb d_Wall_moveWater_45 rfl (lv_at hl 1 rfl) ?_
  obtain ⟨a43, e44, hf⟩ := x_b hf
  refine x_get (C := "WallDamp$Wall") (F := F_Wall) (N := 9) hx hb hts i_Wall hown hK hH hT5 (by decide) rfl 1 (by decide) (hts _ m_299) (fun _ h9 => h9) (kd := (2, 56)) rfl (x_fr e44) d_Wall_moveWater_46 ?_
  refine lv_aload_n hx hb d_Wall_moveWater_49 rfl (lv_at hl 2 rfl) ?_
  refine lv_aload_n hx hb d_Wall_moveWater_50 rfl (lv_at hl 2 rfl) ?_
  obtain ⟨a45, e46, hf⟩ := x_b hf
  refine x_get (C := "WallDamp$Surroundings") (F := F_Surroundings) (N := 9) hx hb hts i_Surroundings hown hK hH hT10 (by decide) rfl 2 (by decide) (hts _ m_100) (fun _ h9 => h9) (kd := (2, 45)) rfl (x_fr e46) d_Wall_moveWater_51 ?_
  refine lv_iload_n hx hb d_Wall_moveWater_54 rfl (lv_at hl 0 rfl) ?_
  obtain ⟨_, e47, hf⟩ := x_b hf
  obtain ⟨n48, hT49, hi50⟩ := x_ix_e e47
  refine x_iald hx hb hK hH hT49 0 rfl hi50 d_Wall_moveWater_55 ?_
  obtain ⟨_, e53, hf⟩ := x_b hf
  obtain ⟨n54, hT55⟩ := x_is_e e53
  obtain ⟨q51, e52, hf⟩ := x_b hf
  refine x_call (st1 := []) (x_runV (As := [.ref (ad l1), .int (x_A q41 a45 q1.toNatClampNeg)]) (rest := []) ⟨hx, hb, hml, hown, hts⟩ (c_Air_beginHour l D aC ad T nx H.size q41 a43 l1 (x_A q41 a45 q1.toNatClampNeg) q51 e52) (cwV 2 hts (x_gV m_620 m_621 m_622 m_9 m_623) rfl rfl rfl ⟨rfl, pd_Air_beginHour⟩ ⟨Nat.le_of_ble_eq_true rfl, Nat.le_of_ble_eq_true rfl⟩) hH hK hX hT55 (by decide) rfl rfl rfl hl.1 rfl (lv_room (Nat.le_of_ble_eq_true rfl)) d_Wall_moveWater_56 ⟨Nat.zero_le _, Nat.zero_le _⟩) rfl hH hA hS (fun H locs hH hS => ?_)
  refine lv_aload_n hx hb d_Wall_moveWater_59 rfl (lv_at hl 1 rfl) ?_
  obtain ⟨a56, e57, hf⟩ := x_b hf
  refine x_get (C := "WallDamp$Wall") (F := F_Wall) (N := 9) hx hb hts i_Wall hown hK hH hT5 (by decide) rfl 2 (by decide) (hts _ m_301) (fun _ h9 => h9) (kd := (2, 57)) rfl (x_fr e57) d_Wall_moveWater_60 ?_
  refine lv_aload_n hx hb d_Wall_moveWater_63 rfl (lv_at hl 2 rfl) ?_
  refine lv_aload_n hx hb d_Wall_moveWater_64 rfl (lv_at hl 2 rfl) ?_
  obtain ⟨a58, e59, hf⟩ := x_b hf
  refine x_get (C := "WallDamp$Surroundings") (F := F_Surroundings) (N := 9) hx hb hts i_Surroundings hown hK hH hT10 (by decide) rfl 6 (by decide) (hts _ m_112) (fun _ h9 => h9) (kd := (2, 49)) rfl (x_fr e59) d_Wall_moveWater_65 ?_
  refine lv_iload_n hx hb d_Wall_moveWater_68 rfl (lv_at hl 0 rfl) ?_
  obtain ⟨_, e60, hf⟩ := x_b hf
  obtain ⟨n61, hT62, hi63⟩ := x_ix_e e60
  refine x_iald hx hb hK hH hT62 0 rfl hi63 d_Wall_moveWater_69 ?_
  obtain ⟨_, e66, hf⟩ := x_b hf
  obtain ⟨n67, hT68⟩ := x_is_e e66
  obtain ⟨q64, e65, hf⟩ := x_b hf
  refine x_call (st1 := []) (x_runV (As := [.ref (ad l1), .int (x_A q51 a58 q1.toNatClampNeg)]) (rest := []) ⟨hx, hb, hml, hown, hts⟩ (c_Air_beginHour l D aC ad T nx H.size q51 a56 l1 (x_A q51 a58 q1.toNatClampNeg) q64 e65) (cwV 2 hts (x_gV m_620 m_621 m_622 m_9 m_623) rfl rfl rfl ⟨rfl, pd_Air_beginHour⟩ ⟨Nat.le_of_ble_eq_true rfl, Nat.le_of_ble_eq_true rfl⟩) hH hK hX hT68 (by decide) rfl rfl rfl hl.1 rfl (lv_room (Nat.le_of_ble_eq_true rfl)) d_Wall_moveWater_70 ⟨Nat.zero_le _, Nat.zero_le _⟩) rfl hH hA hS (fun H locs hH hS => ?_)
  refine lv_aload_n hx hb d_Wall_moveWater_73 rfl (lv_at hl 1 rfl) ?_
  obtain ⟨a69, e70, hf⟩ := x_b hf
  refine x_get (C := "WallDamp$Wall") (F := F_Wall) (N := 9) hx hb hts i_Wall hown hK hH hT5 (by decide) rfl 0 (by decide) (hts _ m_296) (fun _ h9 => h9) (kd := (2, 55)) rfl (x_fr e70) d_Wall_moveWater_74 ?_
  refine lv_astore (lv' := [(4, .ref (ad a69)), (3, .int q1), (0, .ref (ad l0)), (1, .ref (ad l1)), (2, .int l2)]) hx hb d_Wall_moveWater_77 hl (by decide) rfl (fun ls hl => ?_)
  refine lv_aload hx hb d_Wall_moveWater_79 (lv_at hl 0 rfl) ?_
  obtain ⟨n71, e72, hf⟩ := x_b hf
  refine x_alen hx hb hK hH (x_len_e e72) (by decide) 4 rfl d_Wall_moveWater_81 ?_
  obtain ⟨v73, e74, hf⟩ := x_b hf
  refine x_nmi e74 ?_
  refine lv_istore (lv' := [(5, .int v73), (4, .ref (ad a69)), (3, .int q1), (0, .ref (ad l0)), (1, .ref (ad l1)), (2, .int l2)]) hx hb d_Wall_moveWater_82 hl (by decide) rfl (fun ls hl => ?_)
  refine lv_iconst (v := 0) hx hb d_Wall_moveWater_84 (by decide) ?_
  refine lv_istore (lv' := [(6, .int (0 : Int32)), (5, .int v73), (4, .ref (ad a69)), (3, .int q1), (0, .ref (ad l0)), (1, .ref (ad l1)), (2, .int l2)]) hx hb d_Wall_moveWater_85 hl (by decide) rfl (fun ls hl => ?_)
  exact k_Wall_moveWater_87 C0 1000 q64 _ _ _ l0 l1 q1 a69 v73 (0 : Int32) hf hH hS (lv_sub hl [4, 5, 3, 2, 1, 0] rfl)
theorem c_Wall_moveWater (l : Launch) (D : va_G) (aC : Nat → ClassId) (ad : Nat → Nat) (T : x_T) (nx sz : Nat) (w : x_W) (a0 : Nat) (a1 : Nat) (a2 : Int32) (q : x_W) (hf : f_Wall_moveWater T w a0 a1 a2 = some q) : Met l y_Wall_moveWater ws_Wall_moveWater { frames := 3, cells := 0, slots := 0, locals := 69 } (x_Pc D aC ad T nx sz w [.ref (ad a0), .ref (ad a1), .int a2]) (x_Qc D aC ad T nx none q (x_dom ad nx sz)) 0 0 (x_dom ad nx sz) :=
  x_met [(0, .ref (ad a0)), (1, .ref (ad a1)), (2, .int a2)] (plainFor_of_name (by decide)) rfl rfl (Nat.le_of_ble_eq_true rfl) (fun p e s m args below meth c ls C0 hH hS hl => k_Wall_moveWater C0 w _ _ _ a0 a1 a2 hf hH hS (lv_sub hl [0, 1, 2] rfl))
/-! WallDamp$Wall.tellFrost()V -/
def f_Wall_tellFrost_10 (T : x_T) : Nat → x_W → Nat → Int32 → Int32 → Option (x_W)
  | 0, _, _, _, _ => none
  | n + 1, w, l1, l2, l3 =>
    if l2 ≤ l3 then
      (some w)
    else
      ((x_ix T l1 104 l3).bind fun _ =>
      (x_Q w l1 l3.toNatClampNeg).bind fun a6 =>
      (x_is T a6 2).bind fun _ =>
      (f_Cell_endHour T w a6).bind fun q8 =>
      f_Wall_tellFrost_10 T n q8 l1 l2 (l3 + 1))
def f_Wall_tellFrost (T : x_T) (w : x_W) (l0 : Nat) : Option (x_W) :=
  (x_is T l0 9).bind fun _ =>
  (x_R w 55 l0).bind fun a4 =>
  (x_len T a4 104).bind fun n6 =>
  (some ((nI n6))).bind fun v8 =>
  f_Wall_tellFrost_10 T 1000 w a4 v8 (0 : Int32)
set_option maxHeartbeats 4000000 in
set_option maxRecDepth 100000 in
theorem k_Wall_tellFrost_10 {p : Program} {l : Launch} {e : Env} {s : State} {m : MethodId} {args : Array Value} {below : List Frame} {meth : Method} {c : Code} {D : va_G} {aC : Nat → ClassId} {ad : Nat → Nat} {T : x_T} {nx : Nat} {A : Nat → Prop} {q : x_W} (C0 : x_At p s m meth c args "WallDamp$Wall" b_Wall_tellFrost none 5 D aC A) : ∀ (n : Nat), ∀ (w : x_W) (H : Heap) (locs : List Loc) (ls : Array Slot) (l1 : Nat) (l2 : Int32) (l3 : Int32), f_Wall_tellFrost_10 T n w l1 l2 l3 = some q → x_H D x_cl x_FT aC ad T nx A w H → va_S A s.heap H locs → lv_has ls 5 [(1, .ref (ad l1)), (2, .int l2), (3, .int l3)] → W p l e { frames := 3, cells := 0, slots := 0, locals := 66 } s m args below meth c H locs 0 0 (MQ below (x_Qc D aC ad T nx none q A) args s 0 0 A) (F0 m 10 ls []) := by
  obtain ⟨hx, hb, hr, hml, hown, hts, hlocks, hK, hA, hX⟩ := id C0
  intro n
  induction n with
  | zero => intro w H locs ls l1 l2 l3 hf; cases (show none = some q from hf)
  | succ n ih =>
    intro w H locs ls l1 l2 l3 hf hH hS hl
    unfold f_Wall_tellFrost_10 at hf
    refine lv_iload_n hx hb d_Wall_tellFrost_10 rfl (lv_at hl 2 rfl) ?_
    refine lv_iload_n hx hb d_Wall_tellFrost_11 rfl (lv_at hl 1 rfl) ?_
    refine lv_icmp_ge (tgt := 31) hx hb d_Wall_tellFrost_12 (by decide) (fun c1 => ?_) (fun c1 => ?_)
    · have hf := x_it hf c1
      cases hf
      refine x_sz0 hS (fun hz => ?_)
      exact W.vret hx hb hr (fun t ht hW => ⟨rfl, hS.F ht, by rw [ht]; exact hz, by rw [ht]; exact hH.weaken (fun _ _ _ => trivial)⟩) hS.2.2 d_Wall_tellFrost_31
    · have hf := x_if hf c1
      refine lv_aload_n hx hb d_Wall_tellFrost_15 rfl (lv_at hl 0 rfl) ?_
      refine lv_iload_n hx hb d_Wall_tellFrost_16 rfl (lv_at hl 2 rfl) ?_
      obtain ⟨_, e2, hf⟩ := x_b hf
      obtain ⟨n3, hT4, hi5⟩ := x_ix_e e2
      obtain ⟨a6, e7, hf⟩ := x_b hf
      refine x_aald hx hb hK hH hT4 (by decide) 4 rfl hi5 (x_qr e7) d_Wall_tellFrost_17 ?_
      refine lv_astore (lv' := [(4, .ref (ad a6)), (1, .ref (ad l1)), (2, .int l2), (3, .int l3)]) hx hb d_Wall_tellFrost_18 hl (by decide) rfl (fun ls hl => ?_)
      refine lv_aload hx hb d_Wall_tellFrost_20 (lv_at hl 0 rfl) ?_
      obtain ⟨_, e10, hf⟩ := x_b hf
      obtain ⟨n11, hT12⟩ := x_is_e e10
      obtain ⟨q8, e9, hf⟩ := x_b hf
      refine x_call (st1 := []) (x_runV (As := []) (rest := []) ⟨hx, hb, hml, hown, hts⟩ (c_Cell_endHour l D aC ad T nx H.size w a6 q8 e9) (cwV 0 hts (x_gV m_718 m_719 m_720 m_10 m_721) rfl rfl rfl ⟨rfl, pd_Cell_endHour⟩ ⟨Nat.le_of_ble_eq_true rfl, Nat.le_of_ble_eq_true rfl⟩) hH hK hX hT12 (by decide) rfl rfl rfl hl.1 rfl (lv_room (Nat.le_of_ble_eq_true rfl)) d_Wall_tellFrost_22 ⟨Nat.zero_le _, Nat.zero_le _⟩) rfl hH hA hS (fun H locs hH hS => ?_)
      refine lv_iinc (v := (l3 + 1)) (lv' := [(3, .int (l3 + 1)), (4, .ref (ad a6)), (1, .ref (ad l1)), (2, .int l2)]) hx hb d_Wall_tellFrost_25 hl (k := 3) rfl rfl (by decide) rfl (fun ls hl => ?_)
      refine lv_goto (tgt := 10) hx hb d_Wall_tellFrost_28 (by decide) ?_
      exact ih q8 _ _ _ l1 l2 (l3 + 1) hf hH hS (lv_sub hl [2, 3, 0] rfl)
set_option maxHeartbeats 4000000 in
set_option maxRecDepth 100000 in
theorem k_Wall_tellFrost {p : Program} {l : Launch} {e : Env} {s : State} {m : MethodId} {args : Array Value} {below : List Frame} {meth : Method} {c : Code} {D : va_G} {aC : Nat → ClassId} {ad : Nat → Nat} {T : x_T} {nx : Nat} {A : Nat → Prop} {q : x_W} (C0 : x_At p s m meth c args "WallDamp$Wall" b_Wall_tellFrost none 5 D aC A) : ∀ (w : x_W) (H : Heap) (locs : List Loc) (ls : Array Slot) (l0 : Nat), f_Wall_tellFrost T w l0 = some q → x_H D x_cl x_FT aC ad T nx A w H → va_S A s.heap H locs → lv_has ls 5 [(0, .ref (ad l0))] → W p l e { frames := 3, cells := 0, slots := 0, locals := 66 } s m args below meth c H locs 0 0 (MQ below (x_Qc D aC ad T nx none q A) args s 0 0 A) (F0 m 0 ls []) := by
  obtain ⟨hx, hb, hr, hml, hown, hts, hlocks, hK, hA, hX⟩ := id C0
  intro w H locs ls l0 hf hH hS hl
  unfold f_Wall_tellFrost at hf
  refine lv_aload_n hx hb d_Wall_tellFrost_0 rfl (lv_at hl 0 rfl) ?_
  obtain ⟨_, e1, hf⟩ := x_b hf
  obtain ⟨n2, hT3⟩ := x_is_e e1
  obtain ⟨a4, e5, hf⟩ := x_b hf
  refine x_get (C := "WallDamp$Wall") (F := F_Wall) (N := 9) hx hb hts i_Wall hown hK hH hT3 (by decide) rfl 0 (by decide) (hts _ m_296) (fun _ h9 => h9) (kd := (2, 55)) rfl (x_fr e5) d_Wall_tellFrost_1 ?_
  refine lv_astore_n (lv' := [(1, .ref (ad a4)), (0, .ref (ad l0))]) hx hb d_Wall_tellFrost_4 rfl hl (by decide) rfl (fun ls hl => ?_)
  refine lv_aload_n hx hb d_Wall_tellFrost_5 rfl (lv_at hl 0 rfl) ?_
  obtain ⟨n6, e7, hf⟩ := x_b hf
  refine x_alen hx hb hK hH (x_len_e e7) (by decide) 4 rfl d_Wall_tellFrost_6 ?_
  obtain ⟨v8, e9, hf⟩ := x_b hf
  refine x_nmi e9 ?_
  refine lv_istore_n (lv' := [(2, .int v8), (1, .ref (ad a4)), (0, .ref (ad l0))]) hx hb d_Wall_tellFrost_7 rfl hl (by decide) rfl (fun ls hl => ?_)
  refine lv_iconst (v := 0) hx hb d_Wall_tellFrost_8 (by decide) ?_
  refine lv_istore_n (lv' := [(3, .int (0 : Int32)), (2, .int v8), (1, .ref (ad a4)), (0, .ref (ad l0))]) hx hb d_Wall_tellFrost_9 rfl hl (by decide) rfl (fun ls hl => ?_)
  exact k_Wall_tellFrost_10 C0 1000 w _ _ _ a4 v8 (0 : Int32) hf hH hS (lv_sub hl [2, 1, 0] rfl)
theorem c_Wall_tellFrost (l : Launch) (D : va_G) (aC : Nat → ClassId) (ad : Nat → Nat) (T : x_T) (nx sz : Nat) (w : x_W) (a0 : Nat) (q : x_W) (hf : f_Wall_tellFrost T w a0 = some q) : Met l y_Wall_tellFrost ws_Wall_tellFrost { frames := 3, cells := 0, slots := 0, locals := 66 } (x_Pc D aC ad T nx sz w [.ref (ad a0)]) (x_Qc D aC ad T nx none q (x_dom ad nx sz)) 0 0 (x_dom ad nx sz) :=
  x_met [(0, .ref (ad a0))] (plainFor_of_name (by decide)) rfl rfl (Nat.le_of_ble_eq_true rfl) (fun p e s m args below meth c ls C0 hH hS hl => k_Wall_tellFrost C0 w _ _ _ a0 hf hH hS (lv_sub hl [0] rfl))
