/-! java/lang/Math.max(II)I -/
def f_Math_max_10 (T : x_T) (w : x_W) (t0 : Int32) : Option (Int32) :=
  some t0
def f_Math_max (T : x_T) (w : x_W) (l0 : Int32) (l1 : Int32) : Option (Int32) :=
  if l0 < l1 then
    (f_Math_max_10 T w l1)
  else
    (f_Math_max_10 T w l0)
set_option maxHeartbeats 4000000 in
set_option maxRecDepth 100000 in
theorem k_Math_max_10 {p : Program} {l : Launch} {e : Env} {s : State} {m : MethodId} {args : Array Value} {below : List Frame} {meth : Method} {c : Code} {D : va_G} {aC : Nat → ClassId} {ad : Nat → Nat} {T : x_T} {nx : Nat} {A : Nat → Prop} {q : Int32} (C0 : x_At p s m meth c args "java/lang/Math" b_Math_max (some (.int)) 2 D aC A) : ∀ (w : x_W) (ls : Array Slot) (t0 : Int32), f_Math_max_10 T w t0 = some q → x_H D x_cl x_FT aC ad T nx A w s.heap → lv_has ls 2 [] → W p l e { frames := 0, cells := 0, slots := 0, locals := 0 } s m args below meth c s.heap [] 0 0 (MQ below (x_Qp (some (.int q))) args s 0 0 (fun _ => False)) (F0 m 10 ls [.int t0]) := by
  obtain ⟨hx, hb, hr, hml, hown, hts, hlocks, hK, hA, hX⟩ := id C0
  intro w ls t0 hf hH hl
  unfold f_Math_max_10 at hf
  cases hf
  exact W.iret hx hb hr (fun t ht hW => ⟨rfl, ht⟩) (fun _ h => by cases h) d_Math_max_10
set_option maxHeartbeats 4000000 in
set_option maxRecDepth 100000 in
theorem k_Math_max {p : Program} {l : Launch} {e : Env} {s : State} {m : MethodId} {args : Array Value} {below : List Frame} {meth : Method} {c : Code} {D : va_G} {aC : Nat → ClassId} {ad : Nat → Nat} {T : x_T} {nx : Nat} {A : Nat → Prop} {q : Int32} (C0 : x_At p s m meth c args "java/lang/Math" b_Math_max (some (.int)) 2 D aC A) : ∀ (w : x_W) (ls : Array Slot) (l0 : Int32) (l1 : Int32), f_Math_max T w l0 l1 = some q → x_H D x_cl x_FT aC ad T nx A w s.heap → lv_has ls 2 [(0, .int l0), (1, .int l1)] → W p l e { frames := 0, cells := 0, slots := 0, locals := 0 } s m args below meth c s.heap [] 0 0 (MQ below (x_Qp (some (.int q))) args s 0 0 (fun _ => False)) (F0 m 0 ls []) := by
  obtain ⟨hx, hb, hr, hml, hown, hts, hlocks, hK, hA, hX⟩ := id C0
  intro w ls l0 l1 hf hH hl
  unfold f_Math_max at hf
  refine lv_iload_n hx hb d_Math_max_0 rfl (lv_at hl 0 rfl) ?_
  refine lv_iload_n hx hb d_Math_max_1 rfl (lv_at hl 1 rfl) ?_
  refine lv_icmp_lt (tgt := 9) hx hb d_Math_max_2 (by decide) (fun c1 => ?_) (fun c1 => ?_)
  · have hf := x_it hf c1
    refine lv_iload_n hx hb d_Math_max_9 rfl (lv_at hl 1 rfl) ?_
    exact k_Math_max_10 C0 w _ l1 hf hH (lv_sub hl [] rfl)
  · have hf := x_if hf c1
    refine lv_iload_n hx hb d_Math_max_5 rfl (lv_at hl 0 rfl) ?_
    refine lv_goto (tgt := 10) hx hb d_Math_max_6 (by decide) ?_
    exact k_Math_max_10 C0 w _ l0 hf hH (lv_sub hl [] rfl)
theorem c_Math_max (l : Launch) (D : va_G) (aC : Nat → ClassId) (ad : Nat → Nat) (T : x_T) (nx sz : Nat) (w : x_W) (a0 : Int32) (a1 : Int32) (q : Int32) (hf : f_Math_max T w a0 a1 = some q) : Met l y_Math_max ws_Math_max { frames := 0, cells := 0, slots := 0, locals := 0 } (x_Pc D aC ad T nx sz w [.int a0, .int a1]) (x_Qp (some (.int q))) 0 0 (fun _ => False) :=
  x_metP [(0, .int a0), (1, .int a1)] (by decide +kernel) rfl rfl (Nat.le_of_ble_eq_true rfl) (fun p e s m args below meth c ls C0 hH hl => k_Math_max C0 w _ a0 a1 hf hH (lv_sub hl [0, 1] rfl))
/-! java/lang/Math.min(II)I -/
def f_Math_min_10 (T : x_T) (w : x_W) (t0 : Int32) : Option (Int32) :=
  some t0
def f_Math_min (T : x_T) (w : x_W) (l0 : Int32) (l1 : Int32) : Option (Int32) :=
  if l1 < l0 then
    (f_Math_min_10 T w l1)
  else
    (f_Math_min_10 T w l0)
set_option maxHeartbeats 4000000 in
set_option maxRecDepth 100000 in
theorem k_Math_min_10 {p : Program} {l : Launch} {e : Env} {s : State} {m : MethodId} {args : Array Value} {below : List Frame} {meth : Method} {c : Code} {D : va_G} {aC : Nat → ClassId} {ad : Nat → Nat} {T : x_T} {nx : Nat} {A : Nat → Prop} {q : Int32} (C0 : x_At p s m meth c args "java/lang/Math" b_Math_min (some (.int)) 2 D aC A) : ∀ (w : x_W) (ls : Array Slot) (t0 : Int32), f_Math_min_10 T w t0 = some q → x_H D x_cl x_FT aC ad T nx A w s.heap → lv_has ls 2 [] → W p l e { frames := 0, cells := 0, slots := 0, locals := 0 } s m args below meth c s.heap [] 0 0 (MQ below (x_Qp (some (.int q))) args s 0 0 (fun _ => False)) (F0 m 10 ls [.int t0]) := by
  obtain ⟨hx, hb, hr, hml, hown, hts, hlocks, hK, hA, hX⟩ := id C0
  intro w ls t0 hf hH hl
  unfold f_Math_min_10 at hf
  cases hf
  exact W.iret hx hb hr (fun t ht hW => ⟨rfl, ht⟩) (fun _ h => by cases h) d_Math_min_10
set_option maxHeartbeats 4000000 in
set_option maxRecDepth 100000 in
theorem k_Math_min {p : Program} {l : Launch} {e : Env} {s : State} {m : MethodId} {args : Array Value} {below : List Frame} {meth : Method} {c : Code} {D : va_G} {aC : Nat → ClassId} {ad : Nat → Nat} {T : x_T} {nx : Nat} {A : Nat → Prop} {q : Int32} (C0 : x_At p s m meth c args "java/lang/Math" b_Math_min (some (.int)) 2 D aC A) : ∀ (w : x_W) (ls : Array Slot) (l0 : Int32) (l1 : Int32), f_Math_min T w l0 l1 = some q → x_H D x_cl x_FT aC ad T nx A w s.heap → lv_has ls 2 [(0, .int l0), (1, .int l1)] → W p l e { frames := 0, cells := 0, slots := 0, locals := 0 } s m args below meth c s.heap [] 0 0 (MQ below (x_Qp (some (.int q))) args s 0 0 (fun _ => False)) (F0 m 0 ls []) := by
  obtain ⟨hx, hb, hr, hml, hown, hts, hlocks, hK, hA, hX⟩ := id C0
  intro w ls l0 l1 hf hH hl
  unfold f_Math_min at hf
  refine lv_iload_n hx hb d_Math_min_0 rfl (lv_at hl 0 rfl) ?_
  refine lv_iload_n hx hb d_Math_min_1 rfl (lv_at hl 1 rfl) ?_
  refine lv_icmp_gt (tgt := 9) hx hb d_Math_min_2 (by decide) (fun c1 => ?_) (fun c1 => ?_)
  · have hf := x_it hf c1
    refine lv_iload_n hx hb d_Math_min_9 rfl (lv_at hl 1 rfl) ?_
    exact k_Math_min_10 C0 w _ l1 hf hH (lv_sub hl [] rfl)
  · have hf := x_if hf c1
    refine lv_iload_n hx hb d_Math_min_5 rfl (lv_at hl 0 rfl) ?_
    refine lv_goto (tgt := 10) hx hb d_Math_min_6 (by decide) ?_
    exact k_Math_min_10 C0 w _ l0 hf hH (lv_sub hl [] rfl)
theorem c_Math_min (l : Launch) (D : va_G) (aC : Nat → ClassId) (ad : Nat → Nat) (T : x_T) (nx sz : Nat) (w : x_W) (a0 : Int32) (a1 : Int32) (q : Int32) (hf : f_Math_min T w a0 a1 = some q) : Met l y_Math_min ws_Math_min { frames := 0, cells := 0, slots := 0, locals := 0 } (x_Pc D aC ad T nx sz w [.int a0, .int a1]) (x_Qp (some (.int q))) 0 0 (fun _ => False) :=
  x_metP [(0, .int a0), (1, .int a1)] (by decide +kernel) rfl rfl (Nat.le_of_ble_eq_true rfl) (fun p e s m args below meth c ls C0 hH hl => k_Math_min C0 w _ a0 a1 hf hH (lv_sub hl [0, 1] rfl))
/-! java/lang/Math.floorMod(II)I -/
def f_Math_floorMod_18 (T : x_T) (w : x_W) (l2 : Int32) : Option (Int32) :=
  some l2
def f_Math_floorMod (T : x_T) (w : x_W) (l0 : Int32) (l1 : Int32) : Option (Int32) :=
  (x_nzi l1).bind fun _ =>
  (some ((l0 - l0 / l1 * l1))).bind fun v2 =>
  if 0 ≤ (l0 ^^^ l1) then
    (f_Math_floorMod_18 T w v2)
  else
    (if v2 = 0 then
      (f_Math_floorMod_18 T w v2)
    else
      (some (v2 + l1)))
set_option maxHeartbeats 4000000 in
set_option maxRecDepth 100000 in
theorem k_Math_floorMod_18 {p : Program} {l : Launch} {e : Env} {s : State} {m : MethodId} {args : Array Value} {below : List Frame} {meth : Method} {c : Code} {D : va_G} {aC : Nat → ClassId} {ad : Nat → Nat} {T : x_T} {nx : Nat} {A : Nat → Prop} {q : Int32} (C0 : x_At p s m meth c args "java/lang/Math" b_Math_floorMod (some (.int)) 3 D aC A) : ∀ (w : x_W) (ls : Array Slot) (l2 : Int32), f_Math_floorMod_18 T w l2 = some q → x_H D x_cl x_FT aC ad T nx A w s.heap → lv_has ls 3 [(2, .int l2)] → W p l e { frames := 0, cells := 0, slots := 0, locals := 0 } s m args below meth c s.heap [] 0 0 (MQ below (x_Qp (some (.int q))) args s 0 0 (fun _ => False)) (F0 m 18 ls []) := by
  obtain ⟨hx, hb, hr, hml, hown, hts, hlocks, hK, hA, hX⟩ := id C0
  intro w ls l2 hf hH hl
  unfold f_Math_floorMod_18 at hf
  refine lv_iload_n hx hb d_Math_floorMod_18 rfl (lv_at hl 0 rfl) ?_
  cases hf
  exact W.iret hx hb hr (fun t ht hW => ⟨rfl, ht⟩) (fun _ h => by cases h) d_Math_floorMod_19
set_option maxHeartbeats 4000000 in
set_option maxRecDepth 100000 in
theorem k_Math_floorMod {p : Program} {l : Launch} {e : Env} {s : State} {m : MethodId} {args : Array Value} {below : List Frame} {meth : Method} {c : Code} {D : va_G} {aC : Nat → ClassId} {ad : Nat → Nat} {T : x_T} {nx : Nat} {A : Nat → Prop} {q : Int32} (C0 : x_At p s m meth c args "java/lang/Math" b_Math_floorMod (some (.int)) 3 D aC A) : ∀ (w : x_W) (ls : Array Slot) (l0 : Int32) (l1 : Int32), f_Math_floorMod T w l0 l1 = some q → x_H D x_cl x_FT aC ad T nx A w s.heap → lv_has ls 3 [(0, .int l0), (1, .int l1)] → W p l e { frames := 0, cells := 0, slots := 0, locals := 0 } s m args below meth c s.heap [] 0 0 (MQ below (x_Qp (some (.int q))) args s 0 0 (fun _ => False)) (F0 m 0 ls []) := by
  obtain ⟨hx, hb, hr, hml, hown, hts, hlocks, hK, hA, hX⟩ := id C0
  intro w ls l0 l1 hf hH hl
  unfold f_Math_floorMod at hf
  refine lv_iload_n hx hb d_Math_floorMod_0 rfl (lv_at hl 0 rfl) ?_
  refine lv_iload_n hx hb d_Math_floorMod_1 rfl (lv_at hl 1 rfl) ?_
  obtain ⟨_, e1, hf⟩ := x_b hf
  refine lv_irem hx hb d_Math_floorMod_2 (x_nzi_e e1) ?_
  obtain ⟨v2, e3, hf⟩ := x_b hf
  refine x_nmi e3 ?_
  refine lv_istore_n (lv' := [(2, .int v2), (0, .int l0), (1, .int l1)]) hx hb d_Math_floorMod_3 rfl hl (by decide) rfl (fun ls hl => ?_)
  refine lv_iload_n hx hb d_Math_floorMod_4 rfl (lv_at hl 1 rfl) ?_
  refine lv_iload_n hx hb d_Math_floorMod_5 rfl (lv_at hl 2 rfl) ?_
  refine lv_ixor hx hb d_Math_floorMod_6 ?_
  refine lv_if_ge (tgt := 18) hx hb d_Math_floorMod_7 (by decide) (fun c4 => ?_) (fun c4 => ?_)
  · have hf := x_it hf c4
    exact k_Math_floorMod_18 C0 w _ v2 hf hH (lv_sub hl [0] rfl)
  · have hf := x_if hf c4
    refine lv_iload_n hx hb d_Math_floorMod_10 rfl (lv_at hl 0 rfl) ?_
    refine lv_if_eq (tgt := 18) hx hb d_Math_floorMod_11 (by decide) (fun c5 => ?_) (fun c5 => ?_)
    · have hf := x_it hf c5
      exact k_Math_floorMod_18 C0 w _ v2 hf hH (lv_sub hl [0] rfl)
    · have hf := x_if hf c5
      refine lv_iload_n hx hb d_Math_floorMod_14 rfl (lv_at hl 0 rfl) ?_
      refine lv_iload_n hx hb d_Math_floorMod_15 rfl (lv_at hl 2 rfl) ?_
      refine lv_iadd hx hb d_Math_floorMod_16 ?_
      cases hf
      exact W.iret hx hb hr (fun t ht hW => ⟨rfl, ht⟩) (fun _ h => by cases h) d_Math_floorMod_17
theorem c_Math_floorMod (l : Launch) (D : va_G) (aC : Nat → ClassId) (ad : Nat → Nat) (T : x_T) (nx sz : Nat) (w : x_W) (a0 : Int32) (a1 : Int32) (q : Int32) (hf : f_Math_floorMod T w a0 a1 = some q) : Met l y_Math_floorMod ws_Math_floorMod { frames := 0, cells := 0, slots := 0, locals := 0 } (x_Pc D aC ad T nx sz w [.int a0, .int a1]) (x_Qp (some (.int q))) 0 0 (fun _ => False) :=
  x_metP [(0, .int a0), (1, .int a1)] (by decide +kernel) rfl rfl (Nat.le_of_ble_eq_true rfl) (fun p e s m args below meth c ls C0 hH hl => k_Math_floorMod C0 w _ a0 a1 hf hH (lv_sub hl [0, 1] rfl))
/-! java/lang/Math.floorDiv(JJ)J -/
def f_Math_floorDiv_27 (T : x_T) (w : x_W) (l4 : Int64) : Option (Int64) :=
  some l4
def f_Math_floorDiv (T : x_T) (w : x_W) (l0 : Int64) (l2 : Int64) : Option (Int64) :=
  (x_nzl l2).bind fun _ =>
  (some ((l0 / l2))).bind fun v2 =>
  if 0 ≤ (lg_cmp (l0 ^^^ l2) (0 : Int64)) then
    (f_Math_floorDiv_27 T w v2)
  else
    (if (lg_cmp (v2 * l2) l0) = 0 then
      (f_Math_floorDiv_27 T w v2)
    else
      (some (v2 - (1 : Int64))))
set_option maxHeartbeats 4000000 in
set_option maxRecDepth 100000 in
theorem k_Math_floorDiv_27 {p : Program} {l : Launch} {e : Env} {s : State} {m : MethodId} {args : Array Value} {below : List Frame} {meth : Method} {c : Code} {D : va_G} {aC : Nat → ClassId} {ad : Nat → Nat} {T : x_T} {nx : Nat} {A : Nat → Prop} {q : Int64} (C0 : x_At p s m meth c args "java/lang/Math" b_Math_floorDiv (some (.long)) 6 D aC A) : ∀ (w : x_W) (ls : Array Slot) (l4 : Int64), f_Math_floorDiv_27 T w l4 = some q → x_H D x_cl x_FT aC ad T nx A w s.heap → lv_has ls 6 [(4, .long l4)] → W p l e { frames := 0, cells := 0, slots := 0, locals := 0 } s m args below meth c s.heap [] 0 0 (MQ below (x_Qp (some (.long q))) args s 0 0 (fun _ => False)) (F0 m 27 ls []) := by
  obtain ⟨hx, hb, hr, hml, hown, hts, hlocks, hK, hA, hX⟩ := id C0
  intro w ls l4 hf hH hl
  unfold f_Math_floorDiv_27 at hf
  refine lv_lload hx hb d_Math_floorDiv_27 (lv_at hl 0 rfl) ?_
  cases hf
  exact W.lret hx hb hr (fun t ht hW => ⟨rfl, ht⟩) (fun _ h => by cases h) d_Math_floorDiv_29
set_option maxHeartbeats 4000000 in
set_option maxRecDepth 100000 in
theorem k_Math_floorDiv {p : Program} {l : Launch} {e : Env} {s : State} {m : MethodId} {args : Array Value} {below : List Frame} {meth : Method} {c : Code} {D : va_G} {aC : Nat → ClassId} {ad : Nat → Nat} {T : x_T} {nx : Nat} {A : Nat → Prop} {q : Int64} (C0 : x_At p s m meth c args "java/lang/Math" b_Math_floorDiv (some (.long)) 6 D aC A) : ∀ (w : x_W) (ls : Array Slot) (l0 : Int64) (l2 : Int64), f_Math_floorDiv T w l0 l2 = some q → x_H D x_cl x_FT aC ad T nx A w s.heap → lv_has ls 6 [(0, .long l0), (2, .long l2)] → W p l e { frames := 0, cells := 0, slots := 0, locals := 0 } s m args below meth c s.heap [] 0 0 (MQ below (x_Qp (some (.long q))) args s 0 0 (fun _ => False)) (F0 m 0 ls []) := by
  obtain ⟨hx, hb, hr, hml, hown, hts, hlocks, hK, hA, hX⟩ := id C0
  intro w ls l0 l2 hf hH hl
  unfold f_Math_floorDiv at hf
  refine lv_lload_n hx hb d_Math_floorDiv_0 rfl (lv_at hl 0 rfl) ?_
  refine lv_lload_n hx hb d_Math_floorDiv_1 rfl (lv_at hl 1 rfl) ?_
  obtain ⟨_, e1, hf⟩ := x_b hf
  refine lv_ldiv hx hb d_Math_floorDiv_2 (x_nzl_e e1) ?_
  obtain ⟨v2, e3, hf⟩ := x_b hf
  refine x_nml e3 ?_
  refine lv_lstore (lv' := [(4, .long v2), (0, .long l0), (2, .long l2)]) hx hb d_Math_floorDiv_3 hl (by decide) rfl (fun ls hl => ?_)
  refine lv_lload_n hx hb d_Math_floorDiv_5 rfl (lv_at hl 1 rfl) ?_
  refine lv_lload_n hx hb d_Math_floorDiv_6 rfl (lv_at hl 2 rfl) ?_
  refine lv_lxor hx hb d_Math_floorDiv_7 ?_
  refine lv_lconst (v := 0) hx hb d_Math_floorDiv_8 (by decide) ?_
  refine W.lcmp hx hb d_Math_floorDiv_9 ?_
  refine lv_if_ge (tgt := 27) hx hb d_Math_floorDiv_10 (by decide) (fun c4 => ?_) (fun c4 => ?_)
  · have hf := x_it hf c4
    exact k_Math_floorDiv_27 C0 w _ v2 hf hH (lv_sub hl [0] rfl)
  · have hf := x_if hf c4
    refine lv_lload hx hb d_Math_floorDiv_13 (lv_at hl 0 rfl) ?_
    refine lv_lload_n hx hb d_Math_floorDiv_15 rfl (lv_at hl 2 rfl) ?_
    refine lv_lmul hx hb d_Math_floorDiv_16 ?_
    refine lv_lload_n hx hb d_Math_floorDiv_17 rfl (lv_at hl 1 rfl) ?_
    refine W.lcmp hx hb d_Math_floorDiv_18 ?_
    refine lv_if_eq (tgt := 27) hx hb d_Math_floorDiv_19 (by decide) (fun c5 => ?_) (fun c5 => ?_)
    · have hf := x_it hf c5
      exact k_Math_floorDiv_27 C0 w _ v2 hf hH (lv_sub hl [0] rfl)
    · have hf := x_if hf c5
      refine lv_lload hx hb d_Math_floorDiv_22 (lv_at hl 0 rfl) ?_
      refine lv_lconst (v := 1) hx hb d_Math_floorDiv_24 (by decide) ?_
      refine lv_lsub hx hb d_Math_floorDiv_25 ?_
      cases hf
      exact W.lret hx hb hr (fun t ht hW => ⟨rfl, ht⟩) (fun _ h => by cases h) d_Math_floorDiv_26
theorem c_Math_floorDiv (l : Launch) (D : va_G) (aC : Nat → ClassId) (ad : Nat → Nat) (T : x_T) (nx sz : Nat) (w : x_W) (a0 : Int64) (a1 : Int64) (q : Int64) (hf : f_Math_floorDiv T w a0 a1 = some q) : Met l y_Math_floorDiv ws_Math_floorDiv { frames := 0, cells := 0, slots := 0, locals := 0 } (x_Pc D aC ad T nx sz w [.long a0, .long a1]) (x_Qp (some (.long q))) 0 0 (fun _ => False) :=
  x_metP [(0, .long a0), (2, .long a1)] (by decide +kernel) rfl rfl (Nat.le_of_ble_eq_true rfl) (fun p e s m args below meth c ls C0 hH hl => k_Math_floorDiv C0 w _ a0 a1 hf hH (lv_sub hl [0, 1] rfl))
