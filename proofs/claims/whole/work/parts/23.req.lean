/-! WallDamp.requireWithin(III)V -/
def f_WD_requireWithin_10 (T : x_T) (w : x_W) : Option (Except Nat (Unit)) :=
  some (.error 1)
def f_WD_requireWithin (T : x_T) (w : x_W) (l0 : Int32) (l1 : Int32) (l2 : Int32) : Option (Except Nat (Unit)) :=
  if l0 < l1 then
    (f_WD_requireWithin_10 T w)
  else
    (if l0 ≤ l2 then
      (some (.ok ()))
    else
      (f_WD_requireWithin_10 T w))
set_option maxHeartbeats 4000000 in
set_option maxRecDepth 100000 in
theorem k_WD_requireWithin_10 {p : Program} {l : Launch} {e : Env} {s : State} {m : MethodId} {args : Array Value} {below : List Frame} {meth : Method} {c : Code} {D : va_G} {aC : Nat → ClassId} {ad : Nat → Nat} {T : x_T} {nx : Nat} {A : Nat → Prop} {q : Except Nat (Unit)} (C0 : x_At2 p l s m meth c args "WallDamp" b_WD_requireWithin none 3 D aC A) : ∀ (w : x_W) (ls : Array Slot), f_WD_requireWithin_10 T w = some q → x_H D x_cl x_FT aC ad T nx A w s.heap → lv_has ls 3 [] → W p l e { frames := 6, cells := x_mc q, slots := x_ms q, locals := 90 } s m args below meth c s.heap [] 0 0 (x_MQ below (x_Qxp (α := Unit) (fun _ => none) q) args s (x_mc q) (x_ms q) (fun _ => False)) (F0 m 10 ls []) := by
  obtain ⟨⟨hx, hb, hr, hml, hown, hts, hlocks, hK, hA, hX⟩, hTf, hexc, hfl⟩ := id C0
  intro w ls hf hH hl
  unfold f_WD_requireWithin_10 at hf
  cases hf
  exact x_throw hx hb hml hl.1 hown hlocks hexc hfl hTf (k := 1) (iS := 228) (tx := "a number is out of its bounds") (by simp [x_str]) (by decide) (at_IAE_230 hts hTf) (hts _ m_393) (hts _ m_394) (hts _ m_17) (by decide) (by decide) (Nat.le_refl _) (Nat.le_refl _) d_WD_requireWithin_10 d_WD_requireWithin_13 d_WD_requireWithin_14 d_WD_requireWithin_16 d_WD_requireWithin_19 (fun x t h => ⟨x, rfl, h⟩)
set_option maxHeartbeats 4000000 in
set_option maxRecDepth 100000 in
theorem k_WD_requireWithin {p : Program} {l : Launch} {e : Env} {s : State} {m : MethodId} {args : Array Value} {below : List Frame} {meth : Method} {c : Code} {D : va_G} {aC : Nat → ClassId} {ad : Nat → Nat} {T : x_T} {nx : Nat} {A : Nat → Prop} {q : Except Nat (Unit)} (C0 : x_At2 p l s m meth c args "WallDamp" b_WD_requireWithin none 3 D aC A) : ∀ (w : x_W) (ls : Array Slot) (l0 : Int32) (l1 : Int32) (l2 : Int32), f_WD_requireWithin T w l0 l1 l2 = some q → x_H D x_cl x_FT aC ad T nx A w s.heap → lv_has ls 3 [(0, .int l0), (1, .int l1), (2, .int l2)] → W p l e { frames := 6, cells := x_mc q, slots := x_ms q, locals := 90 } s m args below meth c s.heap [] 0 0 (x_MQ below (x_Qxp (α := Unit) (fun _ => none) q) args s (x_mc q) (x_ms q) (fun _ => False)) (F0 m 0 ls []) := by
  obtain ⟨⟨hx, hb, hr, hml, hown, hts, hlocks, hK, hA, hX⟩, hTf, hexc, hfl⟩ := id C0
  intro w ls l0 l1 l2 hf hH hl
  unfold f_WD_requireWithin at hf
  refine lv_iload_n hx hb d_WD_requireWithin_0 rfl (lv_at hl 0 rfl) ?_
  refine lv_iload_n hx hb d_WD_requireWithin_1 rfl (lv_at hl 1 rfl) ?_
  refine lv_icmp_lt (tgt := 10) hx hb d_WD_requireWithin_2 (by decide) (fun c1 => ?_) (fun c1 => ?_)
  · have hf := x_it hf c1
    exact k_WD_requireWithin_10 C0 w _ hf hH (lv_sub hl [] rfl)
  · have hf := x_if hf c1
    refine lv_iload_n hx hb d_WD_requireWithin_5 rfl (lv_at hl 0 rfl) ?_
    refine lv_iload_n hx hb d_WD_requireWithin_6 rfl (lv_at hl 2 rfl) ?_
    refine lv_icmp_le (tgt := 20) hx hb d_WD_requireWithin_7 (by decide) (fun c2 => ?_) (fun c2 => ?_)
    · have hf := x_it hf c2
      cases hf
      exact x_mono x_MQ_of (W.vret hx hb hr (fun t ht hW => ⟨rfl, ht⟩) (fun _ h => by cases h) d_WD_requireWithin_20)
    · have hf := x_if hf c2
      exact k_WD_requireWithin_10 C0 w _ hf hH (lv_sub hl [] rfl)
theorem c_WD_requireWithin (l : Launch) (hfl : l.flags = pinnedFlags ++ [noTraceFlag]) (D : va_G) (aC : Nat → ClassId) (ad : Nat → Nat) (T : x_T) (nx sz : Nat) (w : x_W) (a0 : Int32) (a1 : Int32) (a2 : Int32) (q : Except Nat (Unit)) (hf : f_WD_requireWithin T w a0 a1 a2 = some q) : x_Met l y_WD_requireWithin ws_WD_requireWithin { frames := 6, cells := x_mc q, slots := x_ms q, locals := 90 } (x_Pt D aC ad T nx sz w [.int a0, .int a1, .int a2]) (x_Qxp (α := Unit) (fun _ => none) q) (x_mc q) (x_ms q) (fun _ => False) :=
  x_metT hfl [(0, .int a0), (1, .int a1), (2, .int a2)] (by decide) rfl rfl (Nat.le_of_ble_eq_true rfl) m_392 (fun p e s m args below meth c ls C0 hH hl => k_WD_requireWithin C0 w _ a0 a1 a2 hf hH (lv_sub hl [0, 1, 2] rfl))
/-! WallDamp.requireAir(III)V -/
def f_WD_requireAir (T : x_T) (w : x_W) (l0 : Int32) (l1 : Int32) (l2 : Int32) : Option (Except Nat (Unit)) :=
  (f_WD_requireWithin T w l0 (0 : Int32) (23 : Int32)).bind fun o1 => x_ec o1 fun q3 =>
  (f_WD_requireWithin T w l1 (-5000) (5000 : Int32)).bind fun o5 => x_ec o5 fun q7 =>
  (f_WD_requireWithin T w l2 (0 : Int32) (10000 : Int32)).bind fun o9 => x_ec o9 fun q11 =>
  some (.ok ())
set_option maxHeartbeats 4000000 in
set_option maxRecDepth 100000 in
theorem k_WD_requireAir {p : Program} {l : Launch} {e : Env} {s : State} {m : MethodId} {args : Array Value} {below : List Frame} {meth : Method} {c : Code} {D : va_G} {aC : Nat → ClassId} {ad : Nat → Nat} {T : x_T} {nx : Nat} {A : Nat → Prop} {q : Except Nat (Unit)} (C0 : x_At2 p l s m meth c args "WallDamp" b_WD_requireAir none 3 D aC A) : ∀ (w : x_W) (ls : Array Slot) (l0 : Int32) (l1 : Int32) (l2 : Int32), f_WD_requireAir T w l0 l1 l2 = some q → x_H D x_cl x_FT aC ad T nx A w s.heap → lv_has ls 3 [(0, .int l0), (1, .int l1), (2, .int l2)] → W p l e { frames := 7, cells := x_mc q, slots := x_ms q, locals := 112 } s m args below meth c s.heap [] 0 0 (x_MQ below (x_Qxp (α := Unit) (fun _ => none) q) args s (x_mc q) (x_ms q) (fun _ => False)) (F0 m 0 ls []) := by
  obtain ⟨⟨hx, hb, hr, hml, hown, hts, hlocks, hK, hA, hX⟩, hTf, hexc, hfl⟩ := id C0
  intro w ls l0 l1 l2 hf hH hl
  unfold f_WD_requireAir at hf
  refine lv_iload_n hx hb d_WD_requireAir_0 rfl (lv_at hl 0 rfl) ?_
  refine lv_iconst (v := 0) hx hb d_WD_requireAir_1 (by decide) ?_
  refine lv_bipush (v := 23) hx hb d_WD_requireAir_2 (by decide) ?_
  obtain ⟨o1, e2, hf⟩ := x_b hf
  cases o1 with
  | error k4 =>
    cases x_ee hf
    exact x_pass (x_runTS (As := [.int l0, .int (0 : Int32), .int (23 : Int32)]) (rest := []) ⟨hx, hb, hml, hown, hts⟩ (c_WD_requireWithin l hfl D aC ad T nx s.heap.size w l0 (0 : Int32) (23 : Int32) _ e2) (fun _ _ _ _ h => ⟨_, h.choose_spec.1⟩) (va_cwS 3 hts (x_gS m_390 m_391 m_1 m_392) rfl rfl rfl pd_WD_requireWithin ⟨Nat.le_of_ble_eq_true rfl, Nat.le_of_ble_eq_true rfl⟩) (x_preSt hH hK hX hTf) rfl rfl hl.1 rfl (lv_room (Nat.le_of_ble_eq_true rfl)) d_WD_requireAir_4 ⟨Nat.le_refl _, Nat.le_refl _⟩) hlocks hexc (fun _ h => h) (fun _ h => by cases h) (fun x st0 t tf h0 hal h ht => ⟨x, rfl, by obtain ⟨x9, e9, h9⟩ := h; cases e9; exact x_excT h0 hal h9 ht⟩)
  | ok q3 =>
    have hf := x_eo hf
    refine x_callP (v := none) (st1 := []) (va_runS (As := [.int l0, .int (0 : Int32), .int (23 : Int32)]) (rest := []) ⟨hx, hb, hml, hown, hts⟩ (x_Met.met (c_WD_requireWithin l hfl D aC ad T nx s.heap.size w l0 (0 : Int32) (23 : Int32) _ e2) (fun _ _ _ _ h => ⟨_, h.1⟩)) (va_cwS 3 hts (x_gS m_390 m_391 m_1 m_392) rfl rfl rfl pd_WD_requireWithin ⟨Nat.le_of_ble_eq_true rfl, Nat.le_of_ble_eq_true rfl⟩) (x_preSt hH hK hX hTf) rfl rfl hl.1 rfl (lv_room (Nat.le_of_ble_eq_true rfl)) d_WD_requireAir_4 ⟨Nat.zero_le _, Nat.zero_le _⟩) rfl ?_
    refine lv_iload_n hx hb d_WD_requireAir_7 rfl (lv_at hl 1 rfl) ?_
    refine lv_sipush (v := (-5000)) hx hb d_WD_requireAir_8 (by decide) ?_
    refine lv_sipush (v := 5000) hx hb d_WD_requireAir_11 (by decide) ?_
    obtain ⟨o5, e6, hf⟩ := x_b hf
    cases o5 with
    | error k8 =>
      cases x_ee hf
      exact x_pass (x_runTS (As := [.int l1, .int (-5000), .int (5000 : Int32)]) (rest := []) ⟨hx, hb, hml, hown, hts⟩ (c_WD_requireWithin l hfl D aC ad T nx s.heap.size w l1 (-5000) (5000 : Int32) _ e6) (fun _ _ _ _ h => ⟨_, h.choose_spec.1⟩) (va_cwS 3 hts (x_gS m_390 m_391 m_1 m_392) rfl rfl rfl pd_WD_requireWithin ⟨Nat.le_of_ble_eq_true rfl, Nat.le_of_ble_eq_true rfl⟩) (x_preSt hH hK hX hTf) rfl rfl hl.1 rfl (lv_room (Nat.le_of_ble_eq_true rfl)) d_WD_requireAir_14 ⟨Nat.le_refl _, Nat.le_refl _⟩) hlocks hexc (fun _ h => h) (fun _ h => by cases h) (fun x st0 t tf h0 hal h ht => ⟨x, rfl, by obtain ⟨x9, e9, h9⟩ := h; cases e9; exact x_excT h0 hal h9 ht⟩)
    | ok q7 =>
      have hf := x_eo hf
      refine x_callP (v := none) (st1 := []) (va_runS (As := [.int l1, .int (-5000), .int (5000 : Int32)]) (rest := []) ⟨hx, hb, hml, hown, hts⟩ (x_Met.met (c_WD_requireWithin l hfl D aC ad T nx s.heap.size w l1 (-5000) (5000 : Int32) _ e6) (fun _ _ _ _ h => ⟨_, h.1⟩)) (va_cwS 3 hts (x_gS m_390 m_391 m_1 m_392) rfl rfl rfl pd_WD_requireWithin ⟨Nat.le_of_ble_eq_true rfl, Nat.le_of_ble_eq_true rfl⟩) (x_preSt hH hK hX hTf) rfl rfl hl.1 rfl (lv_room (Nat.le_of_ble_eq_true rfl)) d_WD_requireAir_14 ⟨Nat.zero_le _, Nat.zero_le _⟩) rfl ?_
      refine lv_iload_n hx hb d_WD_requireAir_17 rfl (lv_at hl 2 rfl) ?_
      refine lv_iconst (v := 0) hx hb d_WD_requireAir_18 (by decide) ?_
      refine lv_sipush (v := 10000) hx hb d_WD_requireAir_19 (by decide) ?_
      obtain ⟨o9, e10, hf⟩ := x_b hf
      cases o9 with
      | error k12 =>
        cases x_ee hf
        exact x_pass (x_runTS (As := [.int l2, .int (0 : Int32), .int (10000 : Int32)]) (rest := []) ⟨hx, hb, hml, hown, hts⟩ (c_WD_requireWithin l hfl D aC ad T nx s.heap.size w l2 (0 : Int32) (10000 : Int32) _ e10) (fun _ _ _ _ h => ⟨_, h.choose_spec.1⟩) (va_cwS 3 hts (x_gS m_390 m_391 m_1 m_392) rfl rfl rfl pd_WD_requireWithin ⟨Nat.le_of_ble_eq_true rfl, Nat.le_of_ble_eq_true rfl⟩) (x_preSt hH hK hX hTf) rfl rfl hl.1 rfl (lv_room (Nat.le_of_ble_eq_true rfl)) d_WD_requireAir_22 ⟨Nat.le_refl _, Nat.le_refl _⟩) hlocks hexc (fun _ h => h) (fun _ h => by cases h) (fun x st0 t tf h0 hal h ht => ⟨x, rfl, by obtain ⟨x9, e9, h9⟩ := h; cases e9; exact x_excT h0 hal h9 ht⟩)
      | ok q11 =>
        have hf := x_eo hf
        refine x_callP (v := none) (st1 := []) (va_runS (As := [.int l2, .int (0 : Int32), .int (10000 : Int32)]) (rest := []) ⟨hx, hb, hml, hown, hts⟩ (x_Met.met (c_WD_requireWithin l hfl D aC ad T nx s.heap.size w l2 (0 : Int32) (10000 : Int32) _ e10) (fun _ _ _ _ h => ⟨_, h.1⟩)) (va_cwS 3 hts (x_gS m_390 m_391 m_1 m_392) rfl rfl rfl pd_WD_requireWithin ⟨Nat.le_of_ble_eq_true rfl, Nat.le_of_ble_eq_true rfl⟩) (x_preSt hH hK hX hTf) rfl rfl hl.1 rfl (lv_room (Nat.le_of_ble_eq_true rfl)) d_WD_requireAir_22 ⟨Nat.zero_le _, Nat.zero_le _⟩) rfl ?_
        cases hf
        exact x_mono x_MQ_of (W.vret hx hb hr (fun t ht hW => ⟨rfl, ht⟩) (fun _ h => by cases h) d_WD_requireAir_25)
theorem c_WD_requireAir (l : Launch) (hfl : l.flags = pinnedFlags ++ [noTraceFlag]) (D : va_G) (aC : Nat → ClassId) (ad : Nat → Nat) (T : x_T) (nx sz : Nat) (w : x_W) (a0 : Int32) (a1 : Int32) (a2 : Int32) (q : Except Nat (Unit)) (hf : f_WD_requireAir T w a0 a1 a2 = some q) : x_Met l y_WD_requireAir ws_WD_requireAir { frames := 7, cells := x_mc q, slots := x_ms q, locals := 112 } (x_Pt D aC ad T nx sz w [.int a0, .int a1, .int a2]) (x_Qxp (α := Unit) (fun _ => none) q) (x_mc q) (x_ms q) (fun _ => False) :=
  x_metT hfl [(0, .int a0), (1, .int a1), (2, .int a2)] (by decide) rfl rfl (Nat.le_of_ble_eq_true rfl) m_543 (fun p e s m args below meth c ls C0 hH hl => k_WD_requireAir C0 w _ a0 a1 a2 hf hH (lv_sub hl [0, 1, 2] rfl))
/-! WallDamp.requireNoHourOver()V -/
def f_WD_requireNoHourOver (T : x_T) (w : x_W) (l0 : Nat) : Option (Except Nat (Unit)) :=
  (x_is T l0 0).bind fun _ =>
  if (x_I w 12 l0) ≤ 0 then
    (some (.ok ()))
  else
    (some (.error 2))
set_option maxHeartbeats 4000000 in
set_option maxRecDepth 100000 in
theorem k_WD_requireNoHourOver {p : Program} {l : Launch} {e : Env} {s : State} {m : MethodId} {args : Array Value} {below : List Frame} {meth : Method} {c : Code} {D : va_G} {aC : Nat → ClassId} {ad : Nat → Nat} {T : x_T} {nx : Nat} {A : Nat → Prop} {q : Except Nat (Unit)} (C0 : x_At2 p l s m meth c args "WallDamp" b_WD_requireNoHourOver none 1 D aC A) : ∀ (w : x_W) (ls : Array Slot) (l0 : Nat), f_WD_requireNoHourOver T w l0 = some q → x_H D x_cl x_FT aC ad T nx A w s.heap → lv_has ls 1 [(0, .ref (ad l0))] → W p l e { frames := 6, cells := x_mc q, slots := x_ms q, locals := 90 } s m args below meth c s.heap [] 0 0 (x_MQ below (x_Qxp (α := Unit) (fun _ => none) q) args s (x_mc q) (x_ms q) (fun _ => False)) (F0 m 0 ls []) := by
  obtain ⟨⟨hx, hb, hr, hml, hown, hts, hlocks, hK, hA, hX⟩, hTf, hexc, hfl⟩ := id C0
  intro w ls l0 hf hH hl
  unfold f_WD_requireNoHourOver at hf
  refine lv_aload_n hx hb d_WD_requireNoHourOver_0 rfl (lv_at hl 0 rfl) ?_
  obtain ⟨_, e1, hf⟩ := x_b hf
  obtain ⟨n2, hT3⟩ := x_is_e e1
  refine x_get (C := "WallDamp") (F := F_WD) (N := 8) hx hb hts i_WD hown hK hH hT3 (by decide) rfl 5 (by decide) (hts _ m_350) (fun _ h9 => h9) (kd := (0, 12)) rfl rfl d_WD_requireNoHourOver_1 ?_
  refine lv_if_le (tgt := 17) hx hb d_WD_requireNoHourOver_4 (by decide) (fun c4 => ?_) (fun c4 => ?_)
  · have hf := x_it hf c4
    cases hf
    exact x_mono x_MQ_of (W.vret hx hb hr (fun t ht hW => ⟨rfl, ht⟩) (fun _ h => by cases h) d_WD_requireNoHourOver_17)
  · have hf := x_if hf c4
    cases hf
    exact x_throw hx hb hml hl.1 hown hlocks hexc hfl hTf (k := 2) (iS := 231) (tx := "an hour is over") (by simp [x_str]) (by decide) (at_ISE_166 hts hTf) (hts _ m_465) (hts _ m_466) (hts _ m_18) (by decide) (by decide) (Nat.le_refl _) (Nat.le_refl _) d_WD_requireNoHourOver_7 d_WD_requireNoHourOver_10 d_WD_requireNoHourOver_11 d_WD_requireNoHourOver_13 d_WD_requireNoHourOver_16 (fun x t h => ⟨x, rfl, h⟩)
theorem c_WD_requireNoHourOver (l : Launch) (hfl : l.flags = pinnedFlags ++ [noTraceFlag]) (D : va_G) (aC : Nat → ClassId) (ad : Nat → Nat) (T : x_T) (nx sz : Nat) (w : x_W) (a0 : Nat) (q : Except Nat (Unit)) (hf : f_WD_requireNoHourOver T w a0 = some q) : x_Met l y_WD_requireNoHourOver ws_WD_requireNoHourOver { frames := 6, cells := x_mc q, slots := x_ms q, locals := 90 } (x_Pt D aC ad T nx sz w [.ref (ad a0)]) (x_Qxp (α := Unit) (fun _ => none) q) (x_mc q) (x_ms q) (fun _ => False) :=
  x_metT hfl [(0, .ref (ad a0))] (by decide) rfl rfl (Nat.le_of_ble_eq_true rfl) m_464 (fun p e s m args below meth c ls C0 hH hl => k_WD_requireNoHourOver C0 w _ a0 hf hH (lv_sub hl [0] rfl))
/-! WallDamp.materialOf(I)LWallDamp$Material; -/
def f_WD_materialOf (T : x_T) (w : x_W) (l0 : Nat) (l1 : Int32) : Option (Except Nat (Nat)) :=
  (x_is T l0 0).bind fun _ =>
  (x_R w 7 l0).bind fun a4 =>
  (x_len T a4 103).bind fun n6 =>
  (f_WD_requireWithin T w l1 (0 : Int32) ((nI n6) - (1 : Int32))).bind fun o8 => x_ec o8 fun q10 =>
  (x_R w 7 l0).bind fun a12 =>
  (x_ix T a12 103 l1).bind fun _ =>
  (x_Q w a12 l1.toNatClampNeg).bind fun a18 =>
  some (.ok a18)
set_option maxHeartbeats 4000000 in
set_option maxRecDepth 100000 in
theorem k_WD_materialOf {p : Program} {l : Launch} {e : Env} {s : State} {m : MethodId} {args : Array Value} {below : List Frame} {meth : Method} {c : Code} {D : va_G} {aC : Nat → ClassId} {ad : Nat → Nat} {T : x_T} {nx : Nat} {A : Nat → Prop} {q : Except Nat (Nat)} (C0 : x_At2 p l s m meth c args "WallDamp" b_WD_materialOf (some (.object "WallDamp$Material")) 2 D aC A) : ∀ (w : x_W) (ls : Array Slot) (l0 : Nat) (l1 : Int32), f_WD_materialOf T w l0 l1 = some q → x_H D x_cl x_FT aC ad T nx A w s.heap → lv_has ls 2 [(0, .ref (ad l0)), (1, .int l1)] → W p l e { frames := 7, cells := x_mc q, slots := x_ms q, locals := 112 } s m args below meth c s.heap [] 0 0 (x_MQ below (x_Qxp (α := Nat) (fun r => some (.ref (ad r))) q) args s (x_mc q) (x_ms q) (fun _ => False)) (F0 m 0 ls []) := by
  obtain ⟨⟨hx, hb, hr, hml, hown, hts, hlocks, hK, hA, hX⟩, hTf, hexc, hfl⟩ := id C0
  intro w ls l0 l1 hf hH hl
  unfold f_WD_materialOf at hf
  refine lv_iload_n hx hb d_WD_materialOf_0 rfl (lv_at hl 1 rfl) ?_
  refine lv_iconst (v := 0) hx hb d_WD_materialOf_1 (by decide) ?_
  refine lv_aload_n hx hb d_WD_materialOf_2 rfl (lv_at hl 0 rfl) ?_
  obtain ⟨_, e1, hf⟩ := x_b hf
  obtain ⟨n2, hT3⟩ := x_is_e e1
  obtain ⟨a4, e5, hf⟩ := x_b hf
  refine x_get (C := "WallDamp") (F := F_WD) (N := 8) hx hb hts i_WD hown hK hH hT3 (by decide) rfl 0 (by decide) (hts _ m_345) (fun _ h9 => h9) (kd := (2, 7)) rfl (x_fr e5) d_WD_materialOf_3 ?_
  obtain ⟨n6, e7, hf⟩ := x_b hf
  refine x_alen hx hb hK hH (x_len_e e7) (by decide) 3 rfl d_WD_materialOf_6 ?_
  refine lv_iconst (v := 1) hx hb d_WD_materialOf_7 (by decide) ?_
  refine lv_isub hx hb d_WD_materialOf_8 ?_
  obtain ⟨o8, e9, hf⟩ := x_b hf
  cases o8 with
  | error k11 =>
    cases x_ee hf
    exact x_pass (x_runTS (As := [.int l1, .int (0 : Int32), .int ((nI n6) - (1 : Int32))]) (rest := []) ⟨hx, hb, hml, hown, hts⟩ (c_WD_requireWithin l hfl D aC ad T nx s.heap.size w l1 (0 : Int32) ((nI n6) - (1 : Int32)) _ e9) (fun _ _ _ _ h => ⟨_, h.choose_spec.1⟩) (va_cwS 3 hts (x_gS m_390 m_391 m_1 m_392) rfl rfl rfl pd_WD_requireWithin ⟨Nat.le_of_ble_eq_true rfl, Nat.le_of_ble_eq_true rfl⟩) (x_preSt hH hK hX hTf) rfl rfl hl.1 rfl (lv_room (Nat.le_of_ble_eq_true rfl)) d_WD_materialOf_9 ⟨Nat.le_refl _, Nat.le_refl _⟩) hlocks hexc (fun _ h => h) (fun _ h => by cases h) (fun x st0 t tf h0 hal h ht => ⟨x, rfl, by obtain ⟨x9, e9, h9⟩ := h; cases e9; exact x_excT h0 hal h9 ht⟩)
  | ok q10 =>
    have hf := x_eo hf
    refine x_callP (v := none) (st1 := []) (va_runS (As := [.int l1, .int (0 : Int32), .int ((nI n6) - (1 : Int32))]) (rest := []) ⟨hx, hb, hml, hown, hts⟩ (x_Met.met (c_WD_requireWithin l hfl D aC ad T nx s.heap.size w l1 (0 : Int32) ((nI n6) - (1 : Int32)) _ e9) (fun _ _ _ _ h => ⟨_, h.1⟩)) (va_cwS 3 hts (x_gS m_390 m_391 m_1 m_392) rfl rfl rfl pd_WD_requireWithin ⟨Nat.le_of_ble_eq_true rfl, Nat.le_of_ble_eq_true rfl⟩) (x_preSt hH hK hX hTf) rfl rfl hl.1 rfl (lv_room (Nat.le_of_ble_eq_true rfl)) d_WD_materialOf_9 ⟨Nat.zero_le _, Nat.zero_le _⟩) rfl ?_
    refine lv_aload_n hx hb d_WD_materialOf_12 rfl (lv_at hl 0 rfl) ?_
    obtain ⟨a12, e13, hf⟩ := x_b hf
    refine x_get (C := "WallDamp") (F := F_WD) (N := 8) hx hb hts i_WD hown hK hH hT3 (by decide) rfl 0 (by decide) (hts _ m_345) (fun _ h9 => h9) (kd := (2, 7)) rfl (x_fr e13) d_WD_materialOf_13 ?_
    refine lv_iload_n hx hb d_WD_materialOf_16 rfl (lv_at hl 1 rfl) ?_
    obtain ⟨_, e14, hf⟩ := x_b hf
    obtain ⟨n15, hT16, hi17⟩ := x_ix_e e14
    obtain ⟨a18, e19, hf⟩ := x_b hf
    refine x_aald hx hb hK hH hT16 (by decide) 3 rfl hi17 (x_qr e19) d_WD_materialOf_17 ?_
    cases hf
    exact x_mono x_MQ_of (W.aret hx hb hr (Or.inl ⟨_, rfl⟩) (Or.inr ⟨_, rfl⟩) (fun t ht hW => ⟨rfl, ht⟩) (fun _ h => by cases h) d_WD_materialOf_18)
theorem c_WD_materialOf (l : Launch) (hfl : l.flags = pinnedFlags ++ [noTraceFlag]) (D : va_G) (aC : Nat → ClassId) (ad : Nat → Nat) (T : x_T) (nx sz : Nat) (w : x_W) (a0 : Nat) (a1 : Int32) (q : Except Nat (Nat)) (hf : f_WD_materialOf T w a0 a1 = some q) : x_Met l y_WD_materialOf ws_WD_materialOf { frames := 7, cells := x_mc q, slots := x_ms q, locals := 112 } (x_Pt D aC ad T nx sz w [.ref (ad a0), .int a1]) (x_Qxp (α := Nat) (fun r => some (.ref (ad r))) q) (x_mc q) (x_ms q) (fun _ => False) :=
  x_metT hfl [(0, .ref (ad a0)), (1, .int a1)] (by decide) rfl rfl (Nat.le_of_ble_eq_true rfl) m_389 (fun p e s m args below meth c ls C0 hH hl => k_WD_materialOf C0 w _ a0 a1 hf hH (lv_sub hl [0, 1] rfl))
/-! WallDamp.cellAt(I)LWallDamp$Cell; -/
def f_WD_cellAt (T : x_T) (w : x_W) (l0 : Nat) (l1 : Int32) : Option (Except Nat (Nat)) :=
  (x_is T l0 0).bind fun _ =>
  (x_R w 10 l0).bind fun a4 =>
  (x_is T a4 9).bind fun _ =>
  (x_R w 55 a4).bind fun a9 =>
  (x_len T a9 104).bind fun n11 =>
  (f_WD_requireWithin T w l1 (0 : Int32) ((nI n11) - (1 : Int32))).bind fun o13 => x_ec o13 fun q15 =>
  (x_R w 10 l0).bind fun a17 =>
  (x_is T a17 9).bind fun _ =>
  (x_R w 55 a17).bind fun a22 =>
  (x_ix T a22 104 l1).bind fun _ =>
  (x_Q w a22 l1.toNatClampNeg).bind fun a28 =>
  some (.ok a28)
set_option maxHeartbeats 4000000 in
set_option maxRecDepth 100000 in
theorem k_WD_cellAt {p : Program} {l : Launch} {e : Env} {s : State} {m : MethodId} {args : Array Value} {below : List Frame} {meth : Method} {c : Code} {D : va_G} {aC : Nat → ClassId} {ad : Nat → Nat} {T : x_T} {nx : Nat} {A : Nat → Prop} {q : Except Nat (Nat)} (C0 : x_At2 p l s m meth c args "WallDamp" b_WD_cellAt (some (.object "WallDamp$Cell")) 2 D aC A) : ∀ (w : x_W) (ls : Array Slot) (l0 : Nat) (l1 : Int32), f_WD_cellAt T w l0 l1 = some q → x_H D x_cl x_FT aC ad T nx A w s.heap → lv_has ls 2 [(0, .ref (ad l0)), (1, .int l1)] → W p l e { frames := 7, cells := x_mc q, slots := x_ms q, locals := 112 } s m args below meth c s.heap [] 0 0 (x_MQ below (x_Qxp (α := Nat) (fun r => some (.ref (ad r))) q) args s (x_mc q) (x_ms q) (fun _ => False)) (F0 m 0 ls []) := by
  obtain ⟨⟨hx, hb, hr, hml, hown, hts, hlocks, hK, hA, hX⟩, hTf, hexc, hfl⟩ := id C0
  intro w ls l0 l1 hf hH hl
  unfold f_WD_cellAt at hf
  refine lv_iload_n hx hb d_WD_cellAt_0 rfl (lv_at hl 1 rfl) ?_
  refine lv_iconst (v := 0) hx hb d_WD_cellAt_1 (by decide) ?_
  refine lv_aload_n hx hb d_WD_cellAt_2 rfl (lv_at hl 0 rfl) ?_
  obtain ⟨_, e1, hf⟩ := x_b hf
  obtain ⟨n2, hT3⟩ := x_is_e e1
  obtain ⟨a4, e5, hf⟩ := x_b hf
  refine x_get (C := "WallDamp") (F := F_WD) (N := 8) hx hb hts i_WD hown hK hH hT3 (by decide) rfl 3 (by decide) (hts _ m_348) (fun _ h9 => h9) (kd := (2, 10)) rfl (x_fr e5) d_WD_cellAt_3 ?_
  obtain ⟨_, e6, hf⟩ := x_b hf
  obtain ⟨n7, hT8⟩ := x_is_e e6
  obtain ⟨a9, e10, hf⟩ := x_b hf
  refine x_get (C := "WallDamp$Wall") (F := F_Wall) (N := 9) hx hb hts i_Wall hown hK hH hT8 (by decide) rfl 0 (by decide) (hts _ m_298) (fun _ h9 => h9) (kd := (2, 55)) rfl (x_fr e10) d_WD_cellAt_6 ?_
  obtain ⟨n11, e12, hf⟩ := x_b hf
  refine x_alen hx hb hK hH (x_len_e e12) (by decide) 4 rfl d_WD_cellAt_9 ?_
  refine lv_iconst (v := 1) hx hb d_WD_cellAt_10 (by decide) ?_
  refine lv_isub hx hb d_WD_cellAt_11 ?_
  obtain ⟨o13, e14, hf⟩ := x_b hf
  cases o13 with
  | error k16 =>
    cases x_ee hf
    exact x_pass (x_runTS (As := [.int l1, .int (0 : Int32), .int ((nI n11) - (1 : Int32))]) (rest := []) ⟨hx, hb, hml, hown, hts⟩ (c_WD_requireWithin l hfl D aC ad T nx s.heap.size w l1 (0 : Int32) ((nI n11) - (1 : Int32)) _ e14) (fun _ _ _ _ h => ⟨_, h.choose_spec.1⟩) (va_cwS 3 hts (x_gS m_390 m_391 m_1 m_392) rfl rfl rfl pd_WD_requireWithin ⟨Nat.le_of_ble_eq_true rfl, Nat.le_of_ble_eq_true rfl⟩) (x_preSt hH hK hX hTf) rfl rfl hl.1 rfl (lv_room (Nat.le_of_ble_eq_true rfl)) d_WD_cellAt_12 ⟨Nat.le_refl _, Nat.le_refl _⟩) hlocks hexc (fun _ h => h) (fun _ h => by cases h) (fun x st0 t tf h0 hal h ht => ⟨x, rfl, by obtain ⟨x9, e9, h9⟩ := h; cases e9; exact x_excT h0 hal h9 ht⟩)
  | ok q15 =>
    have hf := x_eo hf
    refine x_callP (v := none) (st1 := []) (va_runS (As := [.int l1, .int (0 : Int32), .int ((nI n11) - (1 : Int32))]) (rest := []) ⟨hx, hb, hml, hown, hts⟩ (x_Met.met (c_WD_requireWithin l hfl D aC ad T nx s.heap.size w l1 (0 : Int32) ((nI n11) - (1 : Int32)) _ e14) (fun _ _ _ _ h => ⟨_, h.1⟩)) (va_cwS 3 hts (x_gS m_390 m_391 m_1 m_392) rfl rfl rfl pd_WD_requireWithin ⟨Nat.le_of_ble_eq_true rfl, Nat.le_of_ble_eq_true rfl⟩) (x_preSt hH hK hX hTf) rfl rfl hl.1 rfl (lv_room (Nat.le_of_ble_eq_true rfl)) d_WD_cellAt_12 ⟨Nat.zero_le _, Nat.zero_le _⟩) rfl ?_
    refine lv_aload_n hx hb d_WD_cellAt_15 rfl (lv_at hl 0 rfl) ?_
    obtain ⟨a17, e18, hf⟩ := x_b hf
    refine x_get (C := "WallDamp") (F := F_WD) (N := 8) hx hb hts i_WD hown hK hH hT3 (by decide) rfl 3 (by decide) (hts _ m_348) (fun _ h9 => h9) (kd := (2, 10)) rfl (x_fr e18) d_WD_cellAt_16 ?_
    obtain ⟨_, e19, hf⟩ := x_b hf
    obtain ⟨n20, hT21⟩ := x_is_e e19
    obtain ⟨a22, e23, hf⟩ := x_b hf
    refine x_get (C := "WallDamp$Wall") (F := F_Wall) (N := 9) hx hb hts i_Wall hown hK hH hT21 (by decide) rfl 0 (by decide) (hts _ m_298) (fun _ h9 => h9) (kd := (2, 55)) rfl (x_fr e23) d_WD_cellAt_19 ?_
    refine lv_iload_n hx hb d_WD_cellAt_22 rfl (lv_at hl 1 rfl) ?_
    obtain ⟨_, e24, hf⟩ := x_b hf
    obtain ⟨n25, hT26, hi27⟩ := x_ix_e e24
    obtain ⟨a28, e29, hf⟩ := x_b hf
    refine x_aald hx hb hK hH hT26 (by decide) 4 rfl hi27 (x_qr e29) d_WD_cellAt_23 ?_
    cases hf
    exact x_mono x_MQ_of (W.aret hx hb hr (Or.inl ⟨_, rfl⟩) (Or.inr ⟨_, rfl⟩) (fun t ht hW => ⟨rfl, ht⟩) (fun _ h => by cases h) d_WD_cellAt_24)
theorem c_WD_cellAt (l : Launch) (hfl : l.flags = pinnedFlags ++ [noTraceFlag]) (D : va_G) (aC : Nat → ClassId) (ad : Nat → Nat) (T : x_T) (nx sz : Nat) (w : x_W) (a0 : Nat) (a1 : Int32) (q : Except Nat (Nat)) (hf : f_WD_cellAt T w a0 a1 = some q) : x_Met l y_WD_cellAt ws_WD_cellAt { frames := 7, cells := x_mc q, slots := x_ms q, locals := 112 } (x_Pt D aC ad T nx sz w [.ref (ad a0), .int a1]) (x_Qxp (α := Nat) (fun r => some (.ref (ad r))) q) (x_mc q) (x_ms q) (fun _ => False) :=
  x_metT hfl [(0, .ref (ad a0)), (1, .int a1)] (by decide) rfl rfl (Nat.le_of_ble_eq_true rfl) m_507 (fun p e s m args below meth c ls C0 hH hl => k_WD_cellAt C0 w _ a0 a1 hf hH (lv_sub hl [0, 1] rfl))
/-! WallDamp.withCorner(LWallDamp$Corners;II)I -/
def f_WD_withCorner (T : x_T) (w : x_W) (l0 : Nat) (l1 : Int32) (l2 : Int32) : Option (Except Nat (Int32 × x_W)) :=
  (x_is T l0 3).bind fun _ =>
  (f_Corners_canAdd T w l0 l1 l2).bind fun q1 =>
  if q1 = 0 then
    (some (.error 2))
  else
    ((f_Corners_add T w l0 l1 l2).bind fun q7 =>
    some (.ok (q7.1, q7.2)))
set_option maxHeartbeats 4000000 in
set_option maxRecDepth 100000 in
theorem k_WD_withCorner {p : Program} {l : Launch} {e : Env} {s : State} {m : MethodId} {args : Array Value} {below : List Frame} {meth : Method} {c : Code} {D : va_G} {aC : Nat → ClassId} {ad : Nat → Nat} {T : x_T} {nx : Nat} {A : Nat → Prop} {q : Except Nat (Int32 × x_W)} (C0 : x_At2 p l s m meth c args "WallDamp" b_WD_withCorner (some (.int)) 3 D aC A) : ∀ (w : x_W) (ls : Array Slot) (l0 : Nat) (l1 : Int32) (l2 : Int32), f_WD_withCorner T w l0 l1 l2 = some q → x_H D x_cl x_FT aC ad T nx A w s.heap → lv_has ls 3 [(0, .ref (ad l0)), (1, .int l1), (2, .int l2)] → W p l e { frames := 6, cells := x_mc q, slots := x_ms q, locals := 90 } s m args below meth c s.heap [] 0 0 (x_MQ below (x_Qx (α := Int32 × x_W) D aC ad T nx (fun r => some (.int r.1)) (fun r => r.2) A q) args s (x_mc q) (x_ms q) A) (F0 m 0 ls []) := by
  obtain ⟨⟨hx, hb, hr, hml, hown, hts, hlocks, hK, hA, hX⟩, hTf, hexc, hfl⟩ := id C0
  intro w ls l0 l1 l2 hf hH hl
  have hS : va_S A s.heap s.heap [] := va_S.rf
  unfold f_WD_withCorner at hf
  refine lv_aload_n hx hb d_WD_withCorner_0 rfl (lv_at hl 0 rfl) ?_
  refine lv_iload_n hx hb d_WD_withCorner_1 rfl (lv_at hl 1 rfl) ?_
  refine lv_iload_n hx hb d_WD_withCorner_2 rfl (lv_at hl 2 rfl) ?_
  obtain ⟨_, e3, hf⟩ := x_b hf
  obtain ⟨n4, hT5⟩ := x_is_e e3
  obtain ⟨q1, e2, hf⟩ := x_b hf
  refine x_callP (st1 := [.int q1]) (x_runV (As := [.int l1, .int l2]) (rest := []) ⟨hx, hb, hml, hown, hts⟩ (c_Corners_canAdd l D aC ad T nx s.heap.size w l0 l1 l2 q1 e2) (cwV 2 hts (x_gV m_484 m_485 m_486 m_4 m_487) rfl rfl rfl ⟨rfl, pd_Corners_canAdd⟩ ⟨Nat.le_of_ble_eq_true rfl, Nat.le_of_ble_eq_true rfl⟩) hH hK hX hT5 (by decide) rfl rfl rfl hl.1 rfl (lv_room (Nat.le_of_ble_eq_true rfl)) d_WD_withCorner_3 ⟨Nat.zero_le _, Nat.zero_le _⟩) rfl ?_
  refine lv_if_ne (tgt := 19) hx hb d_WD_withCorner_6 (by decide) (fun c6 => ?_) (fun c6 => ?_)
  · have hf := x_if hf c6
    refine lv_aload_n hx hb d_WD_withCorner_19 rfl (lv_at hl 0 rfl) ?_
    refine lv_iload_n hx hb d_WD_withCorner_20 rfl (lv_at hl 1 rfl) ?_
    refine lv_iload_n hx hb d_WD_withCorner_21 rfl (lv_at hl 2 rfl) ?_
    obtain ⟨q7, e8, hf⟩ := x_b hf
    refine x_call (st1 := [.int q7.1]) (x_runV (As := [.int l1, .int l2]) (rest := []) ⟨hx, hb, hml, hown, hts⟩ (c_Corners_add l D aC ad T nx s.heap.size w l0 l1 l2 q7 e8) (cwV 2 hts (x_gV m_489 m_62 m_63 m_4 m_64) rfl rfl rfl ⟨rfl, pd_Corners_add⟩ ⟨Nat.le_of_ble_eq_true rfl, Nat.le_of_ble_eq_true rfl⟩) hH hK hX hT5 (by decide) rfl rfl rfl hl.1 rfl (lv_room (Nat.le_of_ble_eq_true rfl)) d_WD_withCorner_22 ⟨Nat.zero_le _, Nat.zero_le _⟩) rfl hH hA hS (fun H locs hH hS => ?_)
    cases hf
    refine x_sz0 hS (fun hz => ?_)
    exact x_mono x_MQ_of (W.iret hx hb hr (fun t ht hW => ⟨rfl, hS.F ht, by rw [ht]; exact hz, by rw [ht]; exact hH.weaken (fun _ _ _ => trivial)⟩) hS.2.2 d_WD_withCorner_25)
  · have hf := x_it hf c6
    cases hf
    exact x_throw hx hb hml hl.1 hown hlocks hexc hfl hTf (k := 2) (iS := 237) (tx := "no such corner can follow") (by simp [x_str]) (by decide) (at_ISE_166 hts hTf) (hts _ m_465) (hts _ m_466) (hts _ m_18) (by decide) (by decide) (Nat.le_refl _) (Nat.le_refl _) d_WD_withCorner_9 d_WD_withCorner_12 d_WD_withCorner_13 d_WD_withCorner_15 d_WD_withCorner_18 (fun x t h => ⟨x, rfl, h⟩)
theorem c_WD_withCorner (l : Launch) (hfl : l.flags = pinnedFlags ++ [noTraceFlag]) (D : va_G) (aC : Nat → ClassId) (ad : Nat → Nat) (T : x_T) (nx sz : Nat) (w : x_W) (a0 : Nat) (a1 : Int32) (a2 : Int32) (q : Except Nat (Int32 × x_W)) (hf : f_WD_withCorner T w a0 a1 a2 = some q) : x_Met l y_WD_withCorner ws_WD_withCorner { frames := 6, cells := x_mc q, slots := x_ms q, locals := 90 } (x_Pt D aC ad T nx sz w [.ref (ad a0), .int a1, .int a2]) (x_Qx (α := Int32 × x_W) D aC ad T nx (fun r => some (.int r.1)) (fun r => r.2) (x_dom ad nx sz) q) (x_mc q) (x_ms q) (x_dom ad nx sz) :=
  x_metT hfl [(0, .ref (ad a0)), (1, .int a1), (2, .int a2)] (by decide) rfl rfl (Nat.le_of_ble_eq_true rfl) m_483 (fun p e s m args below meth c ls C0 hH hl => k_WD_withCorner C0 w _ a0 a1 a2 hf hH (lv_sub hl [0, 1, 2] rfl))
