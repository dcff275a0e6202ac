/-! WallDamp.curve(III)I -/
def f_WD_curve (T : x_T) (w : x_W) (l0 : Nat) (l1 : Int32) (l2 : Int32) (l3 : Int32) : Option (Except Nat (Int32 × x_W)) :=
  (x_is T l0 0).bind fun _ =>
  (f_WD_materialOf T w l0 l1).bind fun o1 => x_ec o1 fun q3 =>
  (f_WD_requireWithin T w l2 (0 : Int32) (1000000 : Int32)).bind fun o8 => x_ec o8 fun q10 =>
  (f_WD_requireWithin T w l3 (0 : Int32) (10000 : Int32)).bind fun o12 => x_ec o12 fun q14 =>
  (f_WD_requireNoHourOver T w l0).bind fun o16 => x_ec o16 fun q18 =>
  (x_is T q3 5).bind fun _ =>
  (x_R w 34 q3).bind fun a23 =>
  (f_WD_withCorner T w a23 l2 l3).bind fun o25 => x_ec o25 fun q27 =>
  some (.ok (q27.1, q27.2))
set_option maxHeartbeats 4000000 in
set_option maxRecDepth 100000 in
theorem k_WD_curve {p : Program} {l : Launch} {e : Env} {s : State} {m : MethodId} {args : Array Value} {below : List Frame} {meth : Method} {c : Code} {D : va_G} {aC : Nat → ClassId} {ad : Nat → Nat} {T : x_T} {nx : Nat} {A : Nat → Prop} {q : Except Nat (Int32 × x_W)} (C0 : x_At2 p l s m meth c args "WallDamp" b_WD_curve (some (.int)) 5 D aC A) : ∀ (w : x_W) (ls : Array Slot) (l0 : Nat) (l1 : Int32) (l2 : Int32) (l3 : Int32), f_WD_curve T w l0 l1 l2 l3 = some q → x_H D x_cl x_FT aC ad T nx A w s.heap → lv_has ls 5 [(0, .ref (ad l0)), (1, .int l1), (2, .int l2), (3, .int l3)] → W p l e { frames := 8, cells := x_mc q, slots := x_ms q, locals := 133 } s m args below meth c s.heap [] 0 0 (x_MQ below (x_Qx (α := Int32 × x_W) D aC ad T nx (fun r => some (.int r.1)) (fun r => r.2) A q) args s (x_mc q) (x_ms q) A) (F0 m 0 ls []) := by
  obtain ⟨⟨hx, hb, hr, hml, hown, hts, hlocks, hK, hA, hX⟩, hTf, hexc, hfl⟩ := id C0
  intro w ls l0 l1 l2 l3 hf hH hl
  have hS : va_S A s.heap s.heap [] := va_S.rf
  unfold f_WD_curve at hf
  refine lv_aload_n hx hb d_WD_curve_0 rfl (lv_at hl 0 rfl) ?_
  refine lv_iload_n hx hb d_WD_curve_1 rfl (lv_at hl 1 rfl) ?_
  obtain ⟨_, e5, hf⟩ := x_b hf
  obtain ⟨n6, hT7⟩ := x_is_e e5
  obtain ⟨o1, e2, hf⟩ := x_b hf
  cases o1 with
  | error k4 =>
    cases x_ee hf
    exact x_pass (x_runTV (As := [.int l1]) (rest := []) ⟨hx, hb, hml, hown, hts⟩ (c_WD_materialOf l hfl D aC ad T nx s.heap.size w l0 l1 _ e2) (fun _ _ _ _ h => ⟨_, h.choose_spec.1⟩) (cwV 1 hts (x_gV m_386 m_388 ms_0 m_1 m_389) rfl rfl rfl ⟨rfl, pd_WD_materialOf⟩ ⟨Nat.le_of_ble_eq_true rfl, Nat.le_of_ble_eq_true rfl⟩) (x_preVt hH hK hX hTf hT7 (by decide) rfl rfl) rfl rfl hl.1 rfl (lv_room (Nat.le_of_ble_eq_true rfl)) d_WD_curve_2 ⟨Nat.le_refl _, Nat.le_refl _⟩) hlocks hexc (fun _ h => h.elim) (fun _ h => by cases h) (fun x st0 t tf h0 hal h ht => ⟨x, rfl, by obtain ⟨x9, e9, h9⟩ := h; cases e9; exact x_excT h0 hal h9 ht⟩)
  | ok q3 =>
    have hf := x_eo hf
    refine x_callP (v := some (.ref (ad q3))) (st1 := [.ref (ad q3)]) (va_runV (As := [.int l1]) (rest := []) ⟨hx, hb, hml, hown, hts⟩ (x_Met.met (c_WD_materialOf l hfl D aC ad T nx s.heap.size w l0 l1 _ e2) (fun _ _ _ _ h => ⟨_, h.1⟩)) (cwV 1 hts (x_gV m_386 m_388 ms_0 m_1 m_389) rfl rfl rfl ⟨rfl, pd_WD_materialOf⟩ ⟨Nat.le_of_ble_eq_true rfl, Nat.le_of_ble_eq_true rfl⟩) (x_preVt hH hK hX hTf hT7 (by decide) rfl rfl) rfl rfl hl.1 rfl (lv_room (Nat.le_of_ble_eq_true rfl)) d_WD_curve_2 ⟨Nat.zero_le _, Nat.zero_le _⟩) rfl ?_
    refine lv_astore (lv' := [(4, .ref (ad q3)), (0, .ref (ad l0)), (1, .int l1), (2, .int l2), (3, .int l3)]) hx hb d_WD_curve_5 hl (by decide) rfl (fun ls hl => ?_)
    refine lv_iload_n hx hb d_WD_curve_7 rfl (lv_at hl 3 rfl) ?_
    refine lv_iconst (v := 0) hx hb d_WD_curve_8 (by decide) ?_
    refine lv_ldc (v := (1000000 : Int32)) hx hb hown (hts _ m_460) d_WD_curve_9 ?_
    obtain ⟨o8, e9, hf⟩ := x_b hf
    cases o8 with
    | error k11 =>
      cases x_ee hf
      exact x_pass (x_runTS (As := [.int l2, .int (0 : Int32), .int (1000000 : Int32)]) (rest := []) ⟨hx, hb, hml, hown, hts⟩ (c_WD_requireWithin l hfl D aC ad T nx s.heap.size w l2 (0 : Int32) (1000000 : Int32) _ e9) (fun _ _ _ _ h => ⟨_, h.choose_spec.1⟩) (va_cwS 3 hts (x_gS m_390 m_391 m_1 m_392) rfl rfl rfl pd_WD_requireWithin ⟨Nat.le_of_ble_eq_true rfl, Nat.le_of_ble_eq_true rfl⟩) (x_preSt hH hK hX hTf) rfl rfl hl.1 rfl (lv_room (Nat.le_of_ble_eq_true rfl)) d_WD_curve_11 ⟨Nat.le_refl _, Nat.le_refl _⟩) hlocks hexc (fun _ h => h.elim) (fun _ h => by cases h) (fun x st0 t tf h0 hal h ht => ⟨x, rfl, by obtain ⟨x9, e9, h9⟩ := h; cases e9; exact x_excT h0 hal h9 ht⟩)
    | ok q10 =>
      have hf := x_eo hf
      refine x_callP (v := none) (st1 := []) (va_runS (As := [.int l2, .int (0 : Int32), .int (1000000 : Int32)]) (rest := []) ⟨hx, hb, hml, hown, hts⟩ (x_Met.met (c_WD_requireWithin l hfl D aC ad T nx s.heap.size w l2 (0 : Int32) (1000000 : Int32) _ e9) (fun _ _ _ _ h => ⟨_, h.1⟩)) (va_cwS 3 hts (x_gS m_390 m_391 m_1 m_392) rfl rfl rfl pd_WD_requireWithin ⟨Nat.le_of_ble_eq_true rfl, Nat.le_of_ble_eq_true rfl⟩) (x_preSt hH hK hX hTf) rfl rfl hl.1 rfl (lv_room (Nat.le_of_ble_eq_true rfl)) d_WD_curve_11 ⟨Nat.zero_le _, Nat.zero_le _⟩) rfl ?_
      refine lv_iload_n hx hb d_WD_curve_14 rfl (lv_at hl 4 rfl) ?_
      refine lv_iconst (v := 0) hx hb d_WD_curve_15 (by decide) ?_
      refine lv_sipush (v := 10000) hx hb d_WD_curve_16 (by decide) ?_
      obtain ⟨o12, e13, hf⟩ := x_b hf
      cases o12 with
      | error k15 =>
        cases x_ee hf
        exact x_pass (x_runTS (As := [.int l3, .int (0 : Int32), .int (10000 : Int32)]) (rest := []) ⟨hx, hb, hml, hown, hts⟩ (c_WD_requireWithin l hfl D aC ad T nx s.heap.size w l3 (0 : Int32) (10000 : Int32) _ e13) (fun _ _ _ _ h => ⟨_, h.choose_spec.1⟩) (va_cwS 3 hts (x_gS m_390 m_391 m_1 m_392) rfl rfl rfl pd_WD_requireWithin ⟨Nat.le_of_ble_eq_true rfl, Nat.le_of_ble_eq_true rfl⟩) (x_preSt hH hK hX hTf) rfl rfl hl.1 rfl (lv_room (Nat.le_of_ble_eq_true rfl)) d_WD_curve_19 ⟨Nat.le_refl _, Nat.le_refl _⟩) hlocks hexc (fun _ h => h.elim) (fun _ h => by cases h) (fun x st0 t tf h0 hal h ht => ⟨x, rfl, by obtain ⟨x9, e9, h9⟩ := h; cases e9; exact x_excT h0 hal h9 ht⟩)
      | ok q14 =>
        have hf := x_eo hf
        refine x_callP (v := none) (st1 := []) (va_runS (As := [.int l3, .int (0 : Int32), .int (10000 : Int32)]) (rest := []) ⟨hx, hb, hml, hown, hts⟩ (x_Met.met (c_WD_requireWithin l hfl D aC ad T nx s.heap.size w l3 (0 : Int32) (10000 : Int32) _ e13) (fun _ _ _ _ h => ⟨_, h.1⟩)) (va_cwS 3 hts (x_gS m_390 m_391 m_1 m_392) rfl rfl rfl pd_WD_requireWithin ⟨Nat.le_of_ble_eq_true rfl, Nat.le_of_ble_eq_true rfl⟩) (x_preSt hH hK hX hTf) rfl rfl hl.1 rfl (lv_room (Nat.le_of_ble_eq_true rfl)) d_WD_curve_19 ⟨Nat.zero_le _, Nat.zero_le _⟩) rfl ?_
        refine lv_aload_n hx hb d_WD_curve_22 rfl (lv_at hl 1 rfl) ?_
        obtain ⟨o16, e17, hf⟩ := x_b hf
        cases o16 with
        | error k19 =>
          cases x_ee hf
          exact x_pass (x_runTV (As := []) (rest := []) ⟨hx, hb, hml, hown, hts⟩ (c_WD_requireNoHourOver l hfl D aC ad T nx s.heap.size w l0 _ e17) (fun _ _ _ _ h => ⟨_, h.choose_spec.1⟩) (cwV 0 hts (x_gV m_461 m_463 ms_2 m_1 m_464) rfl rfl rfl ⟨rfl, pd_WD_requireNoHourOver⟩ ⟨Nat.le_of_ble_eq_true rfl, Nat.le_of_ble_eq_true rfl⟩) (x_preVt hH hK hX hTf hT7 (by decide) rfl rfl) rfl rfl hl.1 rfl (lv_room (Nat.le_of_ble_eq_true rfl)) d_WD_curve_23 ⟨Nat.le_refl _, Nat.le_refl _⟩) hlocks hexc (fun _ h => h.elim) (fun _ h => by cases h) (fun x st0 t tf h0 hal h ht => ⟨x, rfl, by obtain ⟨x9, e9, h9⟩ := h; cases e9; exact x_excT h0 hal h9 ht⟩)
        | ok q18 =>
          have hf := x_eo hf
          refine x_callP (v := none) (st1 := []) (va_runV (As := []) (rest := []) ⟨hx, hb, hml, hown, hts⟩ (x_Met.met (c_WD_requireNoHourOver l hfl D aC ad T nx s.heap.size w l0 _ e17) (fun _ _ _ _ h => ⟨_, h.1⟩)) (cwV 0 hts (x_gV m_461 m_463 ms_2 m_1 m_464) rfl rfl rfl ⟨rfl, pd_WD_requireNoHourOver⟩ ⟨Nat.le_of_ble_eq_true rfl, Nat.le_of_ble_eq_true rfl⟩) (x_preVt hH hK hX hTf hT7 (by decide) rfl rfl) rfl rfl hl.1 rfl (lv_room (Nat.le_of_ble_eq_true rfl)) d_WD_curve_23 ⟨Nat.zero_le _, Nat.zero_le _⟩) rfl ?_
          refine lv_aload hx hb d_WD_curve_26 (lv_at hl 0 rfl) ?_
          obtain ⟨_, e20, hf⟩ := x_b hf
          obtain ⟨n21, hT22⟩ := x_is_e e20
          obtain ⟨a23, e24, hf⟩ := x_b hf
          refine x_get (C := "WallDamp$Material") (F := F_Material) (N := 4) hx hb hts i_Material hown hK hH hT22 (by decide) rfl 0 (by decide) (hts _ m_66) (fun _ h9 => h9) (kd := (2, 34)) rfl (x_fr e24) d_WD_curve_28 ?_
          refine lv_iload_n hx hb d_WD_curve_31 rfl (lv_at hl 3 rfl) ?_
          refine lv_iload_n hx hb d_WD_curve_32 rfl (lv_at hl 4 rfl) ?_
          obtain ⟨o25, e26, hf⟩ := x_b hf
          cases o25 with
          | error k28 =>
            cases x_ee hf
            exact x_pass (x_runTS (As := [.ref (ad a23), .int l2, .int l3]) (rest := []) ⟨hx, hb, hml, hown, hts⟩ (c_WD_withCorner l hfl D aC ad T nx s.heap.size w a23 l2 l3 _ e26) (fun _ _ _ _ h => ⟨_, h.choose_spec.1⟩) (va_cwS 3 hts (x_gS m_481 m_482 m_1 m_483) rfl rfl rfl pd_WD_withCorner ⟨Nat.le_of_ble_eq_true rfl, Nat.le_of_ble_eq_true rfl⟩) (x_preSt hH hK hX hTf) rfl rfl hl.1 rfl (lv_room (Nat.le_of_ble_eq_true rfl)) d_WD_curve_33 ⟨Nat.le_refl _, Nat.le_refl _⟩) hlocks hexc (x_domA hH hA) (fun _ h => by cases h) (fun x st0 t tf h0 hal h ht => ⟨x, rfl, by obtain ⟨x9, e9, h9⟩ := h; cases e9; exact x_excT h0 hal h9 ht⟩)
          | ok q27 =>
            have hf := x_eo hf
            refine x_call (v := some (.int q27.1)) (w' := q27.2) (st1 := [.int q27.1]) (va_runS (As := [.ref (ad a23), .int l2, .int l3]) (rest := []) ⟨hx, hb, hml, hown, hts⟩ (x_Met.met (c_WD_withCorner l hfl D aC ad T nx s.heap.size w a23 l2 l3 _ e26) (fun _ _ _ _ h => ⟨_, h.1⟩)) (va_cwS 3 hts (x_gS m_481 m_482 m_1 m_483) rfl rfl rfl pd_WD_withCorner ⟨Nat.le_of_ble_eq_true rfl, Nat.le_of_ble_eq_true rfl⟩) (x_preSt hH hK hX hTf) rfl rfl hl.1 rfl (lv_room (Nat.le_of_ble_eq_true rfl)) d_WD_curve_33 ⟨Nat.zero_le _, Nat.zero_le _⟩) rfl hH hA hS (fun H locs hH hS => ?_)
            cases hf
            refine x_sz0 hS (fun hz => ?_)
            exact x_mono x_MQ_of (W.iret hx hb hr (fun t ht hW => ⟨rfl, hS.F ht, by rw [ht]; exact hz, by rw [ht]; exact hH.weaken (fun _ _ _ => trivial)⟩) hS.2.2 d_WD_curve_36)
theorem c_WD_curve (l : Launch) (hfl : l.flags = pinnedFlags ++ [noTraceFlag]) (D : va_G) (aC : Nat → ClassId) (ad : Nat → Nat) (T : x_T) (nx sz : Nat) (w : x_W) (a0 : Nat) (a1 : Int32) (a2 : Int32) (a3 : Int32) (q : Except Nat (Int32 × x_W)) (hf : f_WD_curve T w a0 a1 a2 a3 = some q) : x_Met l y_WD_curve ws_WD_curve { frames := 8, cells := x_mc q, slots := x_ms q, locals := 133 } (x_Pt D aC ad T nx sz w [.ref (ad a0), .int a1, .int a2, .int a3]) (x_Qx (α := Int32 × x_W) D aC ad T nx (fun r => some (.int r.1)) (fun r => r.2) (x_dom ad nx sz) q) (x_mc q) (x_ms q) (x_dom ad nx sz) :=
  x_metT hfl [(0, .ref (ad a0)), (1, .int a1), (2, .int a2), (3, .int a3)] (by decide) rfl rfl (Nat.le_of_ble_eq_true rfl) m_385 (fun p e s m args below meth c ls C0 hH hl => k_WD_curve C0 w _ a0 a1 a2 a3 hf hH (lv_sub hl [0, 1, 2, 3] rfl))
/-! WallDamp.rates(IIII)V -/
def f_WD_rates (T : x_T) (w : x_W) (l0 : Nat) (l1 : Int32) (l2 : Int32) (l3 : Int32) (l4 : Int32) : Option (Except Nat (x_W)) :=
  (x_is T l0 0).bind fun _ =>
  (f_WD_materialOf T w l0 l1).bind fun o1 => x_ec o1 fun q3 =>
  (f_WD_requireWithin T w l2 (0 : Int32) (1000 : Int32)).bind fun o8 => x_ec o8 fun q10 =>
  (f_WD_requireWithin T w l3 (0 : Int32) (1000 : Int32)).bind fun o12 => x_ec o12 fun q14 =>
  (f_WD_requireWithin T w l4 (1 : Int32) (1000 : Int32)).bind fun o16 => x_ec o16 fun q18 =>
  (x_is T q3 5).bind fun _ =>
  (some (x_sI w 35 q3 l2)).bind fun w23 =>
  (some (x_sI w23 36 q3 l3)).bind fun w25 =>
  (some (x_sI w25 37 q3 l4)).bind fun w27 =>
  some (.ok w27)
set_option maxHeartbeats 4000000 in
set_option maxRecDepth 100000 in
theorem k_WD_rates {p : Program} {l : Launch} {e : Env} {s : State} {m : MethodId} {args : Array Value} {below : List Frame} {meth : Method} {c : Code} {D : va_G} {aC : Nat → ClassId} {ad : Nat → Nat} {T : x_T} {nx : Nat} {A : Nat → Prop} {q : Except Nat (x_W)} (C0 : x_At2 p l s m meth c args "WallDamp" b_WD_rates none 6 D aC A) : ∀ (w : x_W) (ls : Array Slot) (l0 : Nat) (l1 : Int32) (l2 : Int32) (l3 : Int32) (l4 : Int32), f_WD_rates T w l0 l1 l2 l3 l4 = some q → x_H D x_cl x_FT aC ad T nx A w s.heap → lv_has ls 6 [(0, .ref (ad l0)), (1, .int l1), (2, .int l2), (3, .int l3), (4, .int l4)] → W p l e { frames := 8, cells := x_mc q, slots := x_ms q, locals := 133 } s m args below meth c s.heap [] 0 0 (x_MQ below (x_Qx (α := x_W) D aC ad T nx (fun _ => none) (fun r => r) A q) args s (x_mc q) (x_ms q) A) (F0 m 0 ls []) := by
  obtain ⟨⟨hx, hb, hr, hml, hown, hts, hlocks, hK, hA, hX⟩, hTf, hexc, hfl⟩ := id C0
  intro w ls l0 l1 l2 l3 l4 hf hH hl
  have hS : va_S A s.heap s.heap [] := va_S.rf
  unfold f_WD_rates at hf
  refine lv_aload_n hx hb d_WD_rates_0 rfl (lv_at hl 0 rfl) ?_
  refine lv_iload_n hx hb d_WD_rates_1 rfl (lv_at hl 1 rfl) ?_
  obtain ⟨_, e5, hf⟩ := x_b hf
  obtain ⟨n6, hT7⟩ := x_is_e e5
  obtain ⟨o1, e2, hf⟩ := x_b hf
  cases o1 with
  | error k4 =>
    cases x_ee hf
    exact x_pass (x_runTV (As := [.int l1]) (rest := []) ⟨hx, hb, hml, hown, hts⟩ (c_WD_materialOf l hfl D aC ad T nx s.heap.size w l0 l1 _ e2) (fun _ _ _ _ h => ⟨_, h.choose_spec.1⟩) (cwV 1 hts (x_gV m_386 m_388 ms_0 m_1 m_389) rfl rfl rfl ⟨rfl, pd_WD_materialOf⟩ ⟨Nat.le_of_ble_eq_true rfl, Nat.le_of_ble_eq_true rfl⟩) (x_preVt hH hK hX hTf hT7 (by decide) rfl rfl) rfl rfl hl.1 rfl (lv_room (Nat.le_of_ble_eq_true rfl)) d_WD_rates_2 ⟨Nat.le_refl _, Nat.le_refl _⟩) hlocks hexc (fun _ h => h.elim) (fun _ h => by cases h) (fun x st0 t tf h0 hal h ht => ⟨x, rfl, by obtain ⟨x9, e9, h9⟩ := h; cases e9; exact x_excT h0 hal h9 ht⟩)
  | ok q3 =>
    have hf := x_eo hf
    refine x_callP (v := some (.ref (ad q3))) (st1 := [.ref (ad q3)]) (va_runV (As := [.int l1]) (rest := []) ⟨hx, hb, hml, hown, hts⟩ (x_Met.met (c_WD_materialOf l hfl D aC ad T nx s.heap.size w l0 l1 _ e2) (fun _ _ _ _ h => ⟨_, h.1⟩)) (cwV 1 hts (x_gV m_386 m_388 ms_0 m_1 m_389) rfl rfl rfl ⟨rfl, pd_WD_materialOf⟩ ⟨Nat.le_of_ble_eq_true rfl, Nat.le_of_ble_eq_true rfl⟩) (x_preVt hH hK hX hTf hT7 (by decide) rfl rfl) rfl rfl hl.1 rfl (lv_room (Nat.le_of_ble_eq_true rfl)) d_WD_rates_2 ⟨Nat.zero_le _, Nat.zero_le _⟩) rfl ?_
    refine lv_astore (lv' := [(5, .ref (ad q3)), (0, .ref (ad l0)), (1, .int l1), (2, .int l2), (3, .int l3), (4, .int l4)]) hx hb d_WD_rates_5 hl (by decide) rfl (fun ls hl => ?_)
    refine lv_iload_n hx hb d_WD_rates_7 rfl (lv_at hl 3 rfl) ?_
    refine lv_iconst (v := 0) hx hb d_WD_rates_8 (by decide) ?_
    refine lv_sipush (v := 1000) hx hb d_WD_rates_9 (by decide) ?_
    obtain ⟨o8, e9, hf⟩ := x_b hf
    cases o8 with
    | error k11 =>
      cases x_ee hf
      exact x_pass (x_runTS (As := [.int l2, .int (0 : Int32), .int (1000 : Int32)]) (rest := []) ⟨hx, hb, hml, hown, hts⟩ (c_WD_requireWithin l hfl D aC ad T nx s.heap.size w l2 (0 : Int32) (1000 : Int32) _ e9) (fun _ _ _ _ h => ⟨_, h.choose_spec.1⟩) (va_cwS 3 hts (x_gS m_390 m_391 m_1 m_392) rfl rfl rfl pd_WD_requireWithin ⟨Nat.le_of_ble_eq_true rfl, Nat.le_of_ble_eq_true rfl⟩) (x_preSt hH hK hX hTf) rfl rfl hl.1 rfl (lv_room (Nat.le_of_ble_eq_true rfl)) d_WD_rates_12 ⟨Nat.le_refl _, Nat.le_refl _⟩) hlocks hexc (fun _ h => h.elim) (fun _ h => by cases h) (fun x st0 t tf h0 hal h ht => ⟨x, rfl, by obtain ⟨x9, e9, h9⟩ := h; cases e9; exact x_excT h0 hal h9 ht⟩)
    | ok q10 =>
      have hf := x_eo hf
      refine x_callP (v := none) (st1 := []) (va_runS (As := [.int l2, .int (0 : Int32), .int (1000 : Int32)]) (rest := []) ⟨hx, hb, hml, hown, hts⟩ (x_Met.met (c_WD_requireWithin l hfl D aC ad T nx s.heap.size w l2 (0 : Int32) (1000 : Int32) _ e9) (fun _ _ _ _ h => ⟨_, h.1⟩)) (va_cwS 3 hts (x_gS m_390 m_391 m_1 m_392) rfl rfl rfl pd_WD_requireWithin ⟨Nat.le_of_ble_eq_true rfl, Nat.le_of_ble_eq_true rfl⟩) (x_preSt hH hK hX hTf) rfl rfl hl.1 rfl (lv_room (Nat.le_of_ble_eq_true rfl)) d_WD_rates_12 ⟨Nat.zero_le _, Nat.zero_le _⟩) rfl ?_
      refine lv_iload_n hx hb d_WD_rates_15 rfl (lv_at hl 4 rfl) ?_
      refine lv_iconst (v := 0) hx hb d_WD_rates_16 (by decide) ?_
      refine lv_sipush (v := 1000) hx hb d_WD_rates_17 (by decide) ?_
      obtain ⟨o12, e13, hf⟩ := x_b hf
      cases o12 with
      | error k15 =>
        cases x_ee hf
        exact x_pass (x_runTS (As := [.int l3, .int (0 : Int32), .int (1000 : Int32)]) (rest := []) ⟨hx, hb, hml, hown, hts⟩ (c_WD_requireWithin l hfl D aC ad T nx s.heap.size w l3 (0 : Int32) (1000 : Int32) _ e13) (fun _ _ _ _ h => ⟨_, h.choose_spec.1⟩) (va_cwS 3 hts (x_gS m_390 m_391 m_1 m_392) rfl rfl rfl pd_WD_requireWithin ⟨Nat.le_of_ble_eq_true rfl, Nat.le_of_ble_eq_true rfl⟩) (x_preSt hH hK hX hTf) rfl rfl hl.1 rfl (lv_room (Nat.le_of_ble_eq_true rfl)) d_WD_rates_20 ⟨Nat.le_refl _, Nat.le_refl _⟩) hlocks hexc (fun _ h => h.elim) (fun _ h => by cases h) (fun x st0 t tf h0 hal h ht => ⟨x, rfl, by obtain ⟨x9, e9, h9⟩ := h; cases e9; exact x_excT h0 hal h9 ht⟩)
      | ok q14 =>
        have hf := x_eo hf
        refine x_callP (v := none) (st1 := []) (va_runS (As := [.int l3, .int (0 : Int32), .int (1000 : Int32)]) (rest := []) ⟨hx, hb, hml, hown, hts⟩ (x_Met.met (c_WD_requireWithin l hfl D aC ad T nx s.heap.size w l3 (0 : Int32) (1000 : Int32) _ e13) (fun _ _ _ _ h => ⟨_, h.1⟩)) (va_cwS 3 hts (x_gS m_390 m_391 m_1 m_392) rfl rfl rfl pd_WD_requireWithin ⟨Nat.le_of_ble_eq_true rfl, Nat.le_of_ble_eq_true rfl⟩) (x_preSt hH hK hX hTf) rfl rfl hl.1 rfl (lv_room (Nat.le_of_ble_eq_true rfl)) d_WD_rates_20 ⟨Nat.zero_le _, Nat.zero_le _⟩) rfl ?_
        refine lv_iload hx hb d_WD_rates_23 (lv_at hl 5 rfl) ?_
        refine lv_iconst (v := 1) hx hb d_WD_rates_25 (by decide) ?_
        refine lv_sipush (v := 1000) hx hb d_WD_rates_26 (by decide) ?_
        obtain ⟨o16, e17, hf⟩ := x_b hf
        cases o16 with
        | error k19 =>
          cases x_ee hf
          exact x_pass (x_runTS (As := [.int l4, .int (1 : Int32), .int (1000 : Int32)]) (rest := []) ⟨hx, hb, hml, hown, hts⟩ (c_WD_requireWithin l hfl D aC ad T nx s.heap.size w l4 (1 : Int32) (1000 : Int32) _ e17) (fun _ _ _ _ h => ⟨_, h.choose_spec.1⟩) (va_cwS 3 hts (x_gS m_390 m_391 m_1 m_392) rfl rfl rfl pd_WD_requireWithin ⟨Nat.le_of_ble_eq_true rfl, Nat.le_of_ble_eq_true rfl⟩) (x_preSt hH hK hX hTf) rfl rfl hl.1 rfl (lv_room (Nat.le_of_ble_eq_true rfl)) d_WD_rates_29 ⟨Nat.le_refl _, Nat.le_refl _⟩) hlocks hexc (fun _ h => h.elim) (fun _ h => by cases h) (fun x st0 t tf h0 hal h ht => ⟨x, rfl, by obtain ⟨x9, e9, h9⟩ := h; cases e9; exact x_excT h0 hal h9 ht⟩)
        | ok q18 =>
          have hf := x_eo hf
          refine x_callP (v := none) (st1 := []) (va_runS (As := [.int l4, .int (1 : Int32), .int (1000 : Int32)]) (rest := []) ⟨hx, hb, hml, hown, hts⟩ (x_Met.met (c_WD_requireWithin l hfl D aC ad T nx s.heap.size w l4 (1 : Int32) (1000 : Int32) _ e17) (fun _ _ _ _ h => ⟨_, h.1⟩)) (va_cwS 3 hts (x_gS m_390 m_391 m_1 m_392) rfl rfl rfl pd_WD_requireWithin ⟨Nat.le_of_ble_eq_true rfl, Nat.le_of_ble_eq_true rfl⟩) (x_preSt hH hK hX hTf) rfl rfl hl.1 rfl (lv_room (Nat.le_of_ble_eq_true rfl)) d_WD_rates_29 ⟨Nat.zero_le _, Nat.zero_le _⟩) rfl ?_
          refine lv_aload hx hb d_WD_rates_32 (lv_at hl 0 rfl) ?_
          refine lv_iload_n hx hb d_WD_rates_34 rfl (lv_at hl 3 rfl) ?_
          obtain ⟨_, e20, hf⟩ := x_b hf
          obtain ⟨n21, hT22⟩ := x_is_e e20
          refine x_put (C := "WallDamp$Material") (F := F_Material) (N := 4) (ty := t_Material 1) (v := .int l2) (w' := x_sI w 35 q3 l2) hx hb hts i_Material t_Material ty_Material n_Material hown hK hH hS hT22 (by decide) rfl rfl 1 (by decide) (hts _ m_69) (fun _ h9 => h9) rfl (ty_Material 1 (by decide)) rfl rfl (x_on_I hT22 (by decide) rfl nd_Material) (fun j hj => x_off_I hj) (fun hh ok => x_ok_I hh ok) d_WD_rates_35 (fun H locs hH hS => ?_)
          obtain ⟨w23, e24, hf⟩ := x_b hf
          have hH := x_nw e24 hH
          refine lv_aload hx hb d_WD_rates_38 (lv_at hl 0 rfl) ?_
          refine lv_iload_n hx hb d_WD_rates_40 rfl (lv_at hl 4 rfl) ?_
          refine x_put (C := "WallDamp$Material") (F := F_Material) (N := 4) (ty := t_Material 2) (v := .int l3) (w' := x_sI w23 36 q3 l3) hx hb hts i_Material t_Material ty_Material n_Material hown hK hH hS hT22 (by decide) rfl rfl 2 (by decide) (hts _ m_72) (fun _ h9 => h9) rfl (ty_Material 2 (by decide)) rfl rfl (x_on_I hT22 (by decide) rfl nd_Material) (fun j hj => x_off_I hj) (fun hh ok => x_ok_I hh ok) d_WD_rates_41 (fun H locs hH hS => ?_)
          obtain ⟨w25, e26, hf⟩ := x_b hf
          have hH := x_nw e26 hH
          refine lv_aload hx hb d_WD_rates_44 (lv_at hl 0 rfl) ?_
          refine lv_iload hx hb d_WD_rates_46 (lv_at hl 5 rfl) ?_
          refine x_put (C := "WallDamp$Material") (F := F_Material) (N := 4) (ty := t_Material 3) (v := .int l4) (w' := x_sI w25 37 q3 l4) hx hb hts i_Material t_Material ty_Material n_Material hown hK hH hS hT22 (by decide) rfl rfl 3 (by decide) (hts _ m_75) (fun _ h9 => h9) rfl (ty_Material 3 (by decide)) rfl rfl (x_on_I hT22 (by decide) rfl nd_Material) (fun j hj => x_off_I hj) (fun hh ok => x_ok_I hh ok) d_WD_rates_48 (fun H locs hH hS => ?_)
          obtain ⟨w27, e28, hf⟩ := x_b hf
          have hH := x_nw e28 hH
          cases hf
          refine x_sz0 hS (fun hz => ?_)
          exact x_mono x_MQ_of (W.vret hx hb hr (fun t ht hW => ⟨rfl, hS.F ht, by rw [ht]; exact hz, by rw [ht]; exact hH.weaken (fun _ _ _ => trivial)⟩) hS.2.2 d_WD_rates_51)
theorem c_WD_rates (l : Launch) (hfl : l.flags = pinnedFlags ++ [noTraceFlag]) (D : va_G) (aC : Nat → ClassId) (ad : Nat → Nat) (T : x_T) (nx sz : Nat) (w : x_W) (a0 : Nat) (a1 : Int32) (a2 : Int32) (a3 : Int32) (a4 : Int32) (q : Except Nat (x_W)) (hf : f_WD_rates T w a0 a1 a2 a3 a4 = some q) : x_Met l y_WD_rates ws_WD_rates { frames := 8, cells := x_mc q, slots := x_ms q, locals := 133 } (x_Pt D aC ad T nx sz w [.ref (ad a0), .int a1, .int a2, .int a3, .int a4]) (x_Qx (α := x_W) D aC ad T nx (fun _ => none) (fun r => r) (x_dom ad nx sz) q) (x_mc q) (x_ms q) (x_dom ad nx sz) :=
  x_metT hfl [(0, .ref (ad a0)), (1, .int a1), (2, .int a2), (3, .int a3), (4, .int a4)] (by decide) rfl rfl (Nat.le_of_ble_eq_true rfl) m_496 (fun p e s m args below meth c ls C0 hH hl => k_WD_rates C0 w _ a0 a1 a2 a3 a4 hf hH (lv_sub hl [0, 1, 2, 3, 4] rfl))
/-! WallDamp.cell(III)V -/
def f_WD_cell (T : x_T) (w : x_W) (l0 : Nat) (l1 : Int32) (l2 : Int32) (l3 : Int32) : Option (Except Nat (x_W)) :=
  (x_is T l0 0).bind fun _ =>
  (f_WD_cellAt T w l0 l1).bind fun o1 => x_ec o1 fun q3 =>
  (f_WD_materialOf T w l0 l2).bind fun o8 => x_ec o8 fun q10 =>
  (f_WD_requireWithin T w l3 (1 : Int32) (1000 : Int32)).bind fun o12 => x_ec o12 fun q14 =>
  (f_WD_requireNoHourOver T w l0).bind fun o16 => x_ec o16 fun q18 =>
  (x_is T q3 2).bind fun _ =>
  (some (x_sJ w 14 l0 ((x_J w 14 l0) - ((x_I w 20 q3).toInt64)))).bind fun w23 =>
  (some (x_sI w23 20 q3 (0 : Int32))).bind fun w25 =>
  (x_ex T q10).bind fun _ =>
  (some (x_sR w25 17 q3 (some q10))).bind fun w28 =>
  (some (x_sI w28 18 q3 l3)).bind fun w30 =>
  some (.ok w30)
set_option maxHeartbeats 4000000 in
set_option maxRecDepth 100000 in
theorem k_WD_cell {p : Program} {l : Launch} {e : Env} {s : State} {m : MethodId} {args : Array Value} {below : List Frame} {meth : Method} {c : Code} {D : va_G} {aC : Nat → ClassId} {ad : Nat → Nat} {T : x_T} {nx : Nat} {A : Nat → Prop} {q : Except Nat (x_W)} (C0 : x_At2 p l s m meth c args "WallDamp" b_WD_cell none 6 D aC A) : ∀ (w : x_W) (ls : Array Slot) (l0 : Nat) (l1 : Int32) (l2 : Int32) (l3 : Int32), f_WD_cell T w l0 l1 l2 l3 = some q → x_H D x_cl x_FT aC ad T nx A w s.heap → lv_has ls 6 [(0, .ref (ad l0)), (1, .int l1), (2, .int l2), (3, .int l3)] → W p l e { frames := 8, cells := x_mc q, slots := x_ms q, locals := 133 } s m args below meth c s.heap [] 0 0 (x_MQ below (x_Qx (α := x_W) D aC ad T nx (fun _ => none) (fun r => r) A q) args s (x_mc q) (x_ms q) A) (F0 m 0 ls []) := by
  obtain ⟨⟨hx, hb, hr, hml, hown, hts, hlocks, hK, hA, hX⟩, hTf, hexc, hfl⟩ := id C0
  intro w ls l0 l1 l2 l3 hf hH hl
  have hS : va_S A s.heap s.heap [] := va_S.rf
  unfold f_WD_cell at hf
  refine lv_aload_n hx hb d_WD_cell_0 rfl (lv_at hl 0 rfl) ?_
  refine lv_iload_n hx hb d_WD_cell_1 rfl (lv_at hl 1 rfl) ?_
  obtain ⟨_, e5, hf⟩ := x_b hf
  obtain ⟨n6, hT7⟩ := x_is_e e5
  obtain ⟨o1, e2, hf⟩ := x_b hf
  cases o1 with
  | error k4 =>
    cases x_ee hf
    exact x_pass (x_runTV (As := [.int l1]) (rest := []) ⟨hx, hb, hml, hown, hts⟩ (c_WD_cellAt l hfl D aC ad T nx s.heap.size w l0 l1 _ e2) (fun _ _ _ _ h => ⟨_, h.choose_spec.1⟩) (cwV 1 hts (x_gV m_504 m_506 ms_3 m_1 m_507) rfl rfl rfl ⟨rfl, pd_WD_cellAt⟩ ⟨Nat.le_of_ble_eq_true rfl, Nat.le_of_ble_eq_true rfl⟩) (x_preVt hH hK hX hTf hT7 (by decide) rfl rfl) rfl rfl hl.1 rfl (lv_room (Nat.le_of_ble_eq_true rfl)) d_WD_cell_2 ⟨Nat.le_refl _, Nat.le_refl _⟩) hlocks hexc (fun _ h => h.elim) (fun _ h => by cases h) (fun x st0 t tf h0 hal h ht => ⟨x, rfl, by obtain ⟨x9, e9, h9⟩ := h; cases e9; exact x_excT h0 hal h9 ht⟩)
  | ok q3 =>
    have hf := x_eo hf
    refine x_callP (v := some (.ref (ad q3))) (st1 := [.ref (ad q3)]) (va_runV (As := [.int l1]) (rest := []) ⟨hx, hb, hml, hown, hts⟩ (x_Met.met (c_WD_cellAt l hfl D aC ad T nx s.heap.size w l0 l1 _ e2) (fun _ _ _ _ h => ⟨_, h.1⟩)) (cwV 1 hts (x_gV m_504 m_506 ms_3 m_1 m_507) rfl rfl rfl ⟨rfl, pd_WD_cellAt⟩ ⟨Nat.le_of_ble_eq_true rfl, Nat.le_of_ble_eq_true rfl⟩) (x_preVt hH hK hX hTf hT7 (by decide) rfl rfl) rfl rfl hl.1 rfl (lv_room (Nat.le_of_ble_eq_true rfl)) d_WD_cell_2 ⟨Nat.zero_le _, Nat.zero_le _⟩) rfl ?_
    refine lv_astore (lv' := [(4, .ref (ad q3)), (0, .ref (ad l0)), (1, .int l1), (2, .int l2), (3, .int l3)]) hx hb d_WD_cell_5 hl (by decide) rfl (fun ls hl => ?_)
    refine lv_aload_n hx hb d_WD_cell_7 rfl (lv_at hl 1 rfl) ?_
    refine lv_iload_n hx hb d_WD_cell_8 rfl (lv_at hl 3 rfl) ?_
    obtain ⟨o8, e9, hf⟩ := x_b hf
    cases o8 with
    | error k11 =>
      cases x_ee hf
      exact x_pass (x_runTV (As := [.int l2]) (rest := []) ⟨hx, hb, hml, hown, hts⟩ (c_WD_materialOf l hfl D aC ad T nx s.heap.size w l0 l2 _ e9) (fun _ _ _ _ h => ⟨_, h.choose_spec.1⟩) (cwV 1 hts (x_gV m_386 m_388 ms_0 m_1 m_389) rfl rfl rfl ⟨rfl, pd_WD_materialOf⟩ ⟨Nat.le_of_ble_eq_true rfl, Nat.le_of_ble_eq_true rfl⟩) (x_preVt hH hK hX hTf hT7 (by decide) rfl rfl) rfl rfl hl.1 rfl (lv_room (Nat.le_of_ble_eq_true rfl)) d_WD_cell_9 ⟨Nat.le_refl _, Nat.le_refl _⟩) hlocks hexc (fun _ h => h.elim) (fun _ h => by cases h) (fun x st0 t tf h0 hal h ht => ⟨x, rfl, by obtain ⟨x9, e9, h9⟩ := h; cases e9; exact x_excT h0 hal h9 ht⟩)
    | ok q10 =>
      have hf := x_eo hf
      refine x_callP (v := some (.ref (ad q10))) (st1 := [.ref (ad q10)]) (va_runV (As := [.int l2]) (rest := []) ⟨hx, hb, hml, hown, hts⟩ (x_Met.met (c_WD_materialOf l hfl D aC ad T nx s.heap.size w l0 l2 _ e9) (fun _ _ _ _ h => ⟨_, h.1⟩)) (cwV 1 hts (x_gV m_386 m_388 ms_0 m_1 m_389) rfl rfl rfl ⟨rfl, pd_WD_materialOf⟩ ⟨Nat.le_of_ble_eq_true rfl, Nat.le_of_ble_eq_true rfl⟩) (x_preVt hH hK hX hTf hT7 (by decide) rfl rfl) rfl rfl hl.1 rfl (lv_room (Nat.le_of_ble_eq_true rfl)) d_WD_cell_9 ⟨Nat.zero_le _, Nat.zero_le _⟩) rfl ?_
      refine lv_astore (lv' := [(5, .ref (ad q10)), (4, .ref (ad q3)), (0, .ref (ad l0)), (1, .int l1), (2, .int l2), (3, .int l3)]) hx hb d_WD_cell_12 hl (by decide) rfl (fun ls hl => ?_)
      refine lv_iload_n hx hb d_WD_cell_14 rfl (lv_at hl 5 rfl) ?_
      refine lv_iconst (v := 1) hx hb d_WD_cell_15 (by decide) ?_
      refine lv_sipush (v := 1000) hx hb d_WD_cell_16 (by decide) ?_
      obtain ⟨o12, e13, hf⟩ := x_b hf
      cases o12 with
      | error k15 =>
        cases x_ee hf
        exact x_pass (x_runTS (As := [.int l3, .int (1 : Int32), .int (1000 : Int32)]) (rest := []) ⟨hx, hb, hml, hown, hts⟩ (c_WD_requireWithin l hfl D aC ad T nx s.heap.size w l3 (1 : Int32) (1000 : Int32) _ e13) (fun _ _ _ _ h => ⟨_, h.choose_spec.1⟩) (va_cwS 3 hts (x_gS m_390 m_391 m_1 m_392) rfl rfl rfl pd_WD_requireWithin ⟨Nat.le_of_ble_eq_true rfl, Nat.le_of_ble_eq_true rfl⟩) (x_preSt hH hK hX hTf) rfl rfl hl.1 rfl (lv_room (Nat.le_of_ble_eq_true rfl)) d_WD_cell_19 ⟨Nat.le_refl _, Nat.le_refl _⟩) hlocks hexc (fun _ h => h.elim) (fun _ h => by cases h) (fun x st0 t tf h0 hal h ht => ⟨x, rfl, by obtain ⟨x9, e9, h9⟩ := h; cases e9; exact x_excT h0 hal h9 ht⟩)
      | ok q14 =>
        have hf := x_eo hf
        refine x_callP (v := none) (st1 := []) (va_runS (As := [.int l3, .int (1 : Int32), .int (1000 : Int32)]) (rest := []) ⟨hx, hb, hml, hown, hts⟩ (x_Met.met (c_WD_requireWithin l hfl D aC ad T nx s.heap.size w l3 (1 : Int32) (1000 : Int32) _ e13) (fun _ _ _ _ h => ⟨_, h.1⟩)) (va_cwS 3 hts (x_gS m_390 m_391 m_1 m_392) rfl rfl rfl pd_WD_requireWithin ⟨Nat.le_of_ble_eq_true rfl, Nat.le_of_ble_eq_true rfl⟩) (x_preSt hH hK hX hTf) rfl rfl hl.1 rfl (lv_room (Nat.le_of_ble_eq_true rfl)) d_WD_cell_19 ⟨Nat.zero_le _, Nat.zero_le _⟩) rfl ?_
        refine lv_aload_n hx hb d_WD_cell_22 rfl (lv_at hl 2 rfl) ?_
        obtain ⟨o16, e17, hf⟩ := x_b hf
        cases o16 with
        | error k19 =>
          cases x_ee hf
          exact x_pass (x_runTV (As := []) (rest := []) ⟨hx, hb, hml, hown, hts⟩ (c_WD_requireNoHourOver l hfl D aC ad T nx s.heap.size w l0 _ e17) (fun _ _ _ _ h => ⟨_, h.choose_spec.1⟩) (cwV 0 hts (x_gV m_461 m_463 ms_2 m_1 m_464) rfl rfl rfl ⟨rfl, pd_WD_requireNoHourOver⟩ ⟨Nat.le_of_ble_eq_true rfl, Nat.le_of_ble_eq_true rfl⟩) (x_preVt hH hK hX hTf hT7 (by decide) rfl rfl) rfl rfl hl.1 rfl (lv_room (Nat.le_of_ble_eq_true rfl)) d_WD_cell_23 ⟨Nat.le_refl _, Nat.le_refl _⟩) hlocks hexc (fun _ h => h.elim) (fun _ h => by cases h) (fun x st0 t tf h0 hal h ht => ⟨x, rfl, by obtain ⟨x9, e9, h9⟩ := h; cases e9; exact x_excT h0 hal h9 ht⟩)
        | ok q18 =>
          have hf := x_eo hf
          refine x_callP (v := none) (st1 := []) (va_runV (As := []) (rest := []) ⟨hx, hb, hml, hown, hts⟩ (x_Met.met (c_WD_requireNoHourOver l hfl D aC ad T nx s.heap.size w l0 _ e17) (fun _ _ _ _ h => ⟨_, h.1⟩)) (cwV 0 hts (x_gV m_461 m_463 ms_2 m_1 m_464) rfl rfl rfl ⟨rfl, pd_WD_requireNoHourOver⟩ ⟨Nat.le_of_ble_eq_true rfl, Nat.le_of_ble_eq_true rfl⟩) (x_preVt hH hK hX hTf hT7 (by decide) rfl rfl) rfl rfl hl.1 rfl (lv_room (Nat.le_of_ble_eq_true rfl)) d_WD_cell_23 ⟨Nat.zero_le _, Nat.zero_le _⟩) rfl ?_
          refine lv_aload_n hx hb d_WD_cell_26 rfl (lv_at hl 2 rfl) ?_
          refine lv_dup hx hb d_WD_cell_27 rfl ?_
          refine x_get (C := "WallDamp") (F := F_WD) (N := 8) hx hb hts i_WD hown hK hH hT7 (by decide) rfl 7 (by decide) (hts _ m_352) (fun _ h9 => h9) (kd := (1, 14)) rfl rfl d_WD_cell_28 ?_
          refine lv_aload hx hb d_WD_cell_31 (lv_at hl 1 rfl) ?_
          obtain ⟨_, e20, hf⟩ := x_b hf
          obtain ⟨n21, hT22⟩ := x_is_e e20
          refine x_get (C := "WallDamp$Cell") (F := F_Cell) (N := 15) hx hb hts i_Cell hown hK hH hT22 (by decide) rfl 10 (by decide) (hts _ m_243) (fun _ h9 => h9) (kd := (0, 20)) rfl rfl d_WD_cell_33 ?_
          refine lv_i2l (v := (x_I w 20 q3).toInt64) hx hb d_WD_cell_36 rfl ?_
          refine lv_lsub hx hb d_WD_cell_37 ?_
          refine x_put (C := "WallDamp") (F := F_WD) (N := 8) (ty := t_WD 7) (v := .long ((x_J w 14 l0) - ((x_I w 20 q3).toInt64))) (w' := x_sJ w 14 l0 ((x_J w 14 l0) - ((x_I w 20 q3).toInt64))) hx hb hts i_WD t_WD ty_WD n_WD hown hK hH hS hT7 (by decide) rfl rfl 7 (by decide) (hts _ m_352) (fun _ h9 => h9) rfl (ty_WD 7 (by decide)) rfl rfl (x_on_J hT7 (by decide) rfl nd_WD) (fun j hj => x_off_J hj) (fun hh ok => x_ok_J hh ok) d_WD_cell_38 (fun H locs hH hS => ?_)
          obtain ⟨w23, e24, hf⟩ := x_b hf
          have hH := x_nw e24 hH
          refine lv_aload hx hb d_WD_cell_41 (lv_at hl 1 rfl) ?_
          refine lv_iconst (v := 0) hx hb d_WD_cell_43 (by decide) ?_
          refine x_put (C := "WallDamp$Cell") (F := F_Cell) (N := 15) (ty := t_Cell 10) (v := .int (0 : Int32)) (w' := x_sI w23 20 q3 (0 : Int32)) hx hb hts i_Cell t_Cell ty_Cell n_Cell hown hK hH hS hT22 (by decide) rfl rfl 10 (by decide) (hts _ m_243) (fun _ h9 => h9) rfl (ty_Cell 10 (by decide)) rfl rfl (x_on_I hT22 (by decide) rfl nd_Cell) (fun j hj => x_off_I hj) (fun hh ok => x_ok_I hh ok) d_WD_cell_44 (fun H locs hH hS => ?_)
          obtain ⟨w25, e26, hf⟩ := x_b hf
          have hH := x_nw e26 hH
          refine lv_aload hx hb d_WD_cell_47 (lv_at hl 1 rfl) ?_
          refine lv_aload hx hb d_WD_cell_49 (lv_at hl 0 rfl) ?_
          obtain ⟨_, e27, hf⟩ := x_b hf
          refine x_put (C := "WallDamp$Cell") (F := F_Cell) (N := 15) (ty := t_Cell 7) (v := .ref (ad q10)) (w' := x_sR w25 17 q3 (some q10)) hx hb hts i_Cell t_Cell ty_Cell n_Cell hown hK hH hS hT22 (by decide) rfl rfl 7 (by decide) (hts _ m_234) (fun _ h9 => h9) rfl (ty_Cell 7 (by decide)) rfl rfl (x_on_R (v := some q10) hT22 (by decide) rfl nd_Cell k3_Cell) (fun j hj => x_off_R hj) (fun hh => x_ok_R hh (x_ex_lt e27 hH)) d_WD_cell_51 (fun H locs hH hS => ?_)
          obtain ⟨w28, e29, hf⟩ := x_b hf
          have hH := x_nw e29 hH
          refine lv_aload hx hb d_WD_cell_54 (lv_at hl 1 rfl) ?_
          refine lv_iload_n hx hb d_WD_cell_56 rfl (lv_at hl 5 rfl) ?_
          refine x_put (C := "WallDamp$Cell") (F := F_Cell) (N := 15) (ty := t_Cell 8) (v := .int l3) (w' := x_sI w28 18 q3 l3) hx hb hts i_Cell t_Cell ty_Cell n_Cell hown hK hH hS hT22 (by decide) rfl rfl 8 (by decide) (hts _ m_237) (fun _ h9 => h9) rfl (ty_Cell 8 (by decide)) rfl rfl (x_on_I hT22 (by decide) rfl nd_Cell) (fun j hj => x_off_I hj) (fun hh ok => x_ok_I hh ok) d_WD_cell_57 (fun H locs hH hS => ?_)
          obtain ⟨w30, e31, hf⟩ := x_b hf
          have hH := x_nw e31 hH
          cases hf
          refine x_sz0 hS (fun hz => ?_)
          exact x_mono x_MQ_of (W.vret hx hb hr (fun t ht hW => ⟨rfl, hS.F ht, by rw [ht]; exact hz, by rw [ht]; exact hH.weaken (fun _ _ _ => trivial)⟩) hS.2.2 d_WD_cell_60)
theorem c_WD_cell (l : Launch) (hfl : l.flags = pinnedFlags ++ [noTraceFlag]) (D : va_G) (aC : Nat → ClassId) (ad : Nat → Nat) (T : x_T) (nx sz : Nat) (w : x_W) (a0 : Nat) (a1 : Int32) (a2 : Int32) (a3 : Int32) (q : Except Nat (x_W)) (hf : f_WD_cell T w a0 a1 a2 a3 = some q) : x_Met l y_WD_cell ws_WD_cell { frames := 8, cells := x_mc q, slots := x_ms q, locals := 133 } (x_Pt D aC ad T nx sz w [.ref (ad a0), .int a1, .int a2, .int a3]) (x_Qx (α := x_W) D aC ad T nx (fun _ => none) (fun r => r) (x_dom ad nx sz) q) (x_mc q) (x_ms q) (x_dom ad nx sz) :=
  x_metT hfl [(0, .ref (ad a0)), (1, .int a1), (2, .int a2), (3, .int a3)] (by decide) rfl rfl (Nat.le_of_ble_eq_true rfl) m_503 (fun p e s m args below meth c ls C0 hH hl => k_WD_cell C0 w _ a0 a1 a2 a3 hf hH (lv_sub hl [0, 1, 2, 3] rfl))
/-! WallDamp.table(II)I -/
def f_WD_table (T : x_T) (w : x_W) (l0 : Nat) (l1 : Int32) (l2 : Int32) : Option (Except Nat (Int32 × x_W)) :=
  (f_WD_requireWithin T w l1 (-5000) (10000 : Int32)).bind fun o1 => x_ec o1 fun q3 =>
  (f_WD_requireWithin T w l2 (0 : Int32) (100000 : Int32)).bind fun o5 => x_ec o5 fun q7 =>
  (x_is T l0 0).bind fun _ =>
  (x_R w 8 l0).bind fun a12 =>
  (x_is T a12 7).bind fun _ =>
  (x_R w 43 a12).bind fun a17 =>
  (f_WD_withCorner T w a17 l1 l2).bind fun o19 => x_ec o19 fun q21 =>
  some (.ok (q21.1, q21.2))
set_option maxHeartbeats 4000000 in
set_option maxRecDepth 100000 in
theorem k_WD_table {p : Program} {l : Launch} {e : Env} {s : State} {m : MethodId} {args : Array Value} {below : List Frame} {meth : Method} {c : Code} {D : va_G} {aC : Nat → ClassId} {ad : Nat → Nat} {T : x_T} {nx : Nat} {A : Nat → Prop} {q : Except Nat (Int32 × x_W)} (C0 : x_At2 p l s m meth c args "WallDamp" b_WD_table (some (.int)) 3 D aC A) : ∀ (w : x_W) (ls : Array Slot) (l0 : Nat) (l1 : Int32) (l2 : Int32), f_WD_table T w l0 l1 l2 = some q → x_H D x_cl x_FT aC ad T nx A w s.heap → lv_has ls 3 [(0, .ref (ad l0)), (1, .int l1), (2, .int l2)] → W p l e { frames := 7, cells := x_mc q, slots := x_ms q, locals := 112 } s m args below meth c s.heap [] 0 0 (x_MQ below (x_Qx (α := Int32 × x_W) D aC ad T nx (fun r => some (.int r.1)) (fun r => r.2) A q) args s (x_mc q) (x_ms q) A) (F0 m 0 ls []) := by
  obtain ⟨⟨hx, hb, hr, hml, hown, hts, hlocks, hK, hA, hX⟩, hTf, hexc, hfl⟩ := id C0
  intro w ls l0 l1 l2 hf hH hl
  have hS : va_S A s.heap s.heap [] := va_S.rf
  unfold f_WD_table at hf
  refine lv_iload_n hx hb d_WD_table_0 rfl (lv_at hl 1 rfl) ?_
  refine lv_sipush (v := (-5000)) hx hb d_WD_table_1 (by decide) ?_
  refine lv_sipush (v := 10000) hx hb d_WD_table_4 (by decide) ?_
  obtain ⟨o1, e2, hf⟩ := x_b hf
  cases o1 with
  | error k4 =>
    cases x_ee hf
    exact x_pass (x_runTS (As := [.int l1, .int (-5000), .int (10000 : Int32)]) (rest := []) ⟨hx, hb, hml, hown, hts⟩ (c_WD_requireWithin l hfl D aC ad T nx s.heap.size w l1 (-5000) (10000 : Int32) _ e2) (fun _ _ _ _ h => ⟨_, h.choose_spec.1⟩) (va_cwS 3 hts (x_gS m_390 m_391 m_1 m_392) rfl rfl rfl pd_WD_requireWithin ⟨Nat.le_of_ble_eq_true rfl, Nat.le_of_ble_eq_true rfl⟩) (x_preSt hH hK hX hTf) rfl rfl hl.1 rfl (lv_room (Nat.le_of_ble_eq_true rfl)) d_WD_table_7 ⟨Nat.le_refl _, Nat.le_refl _⟩) hlocks hexc (fun _ h => h.elim) (fun _ h => by cases h) (fun x st0 t tf h0 hal h ht => ⟨x, rfl, by obtain ⟨x9, e9, h9⟩ := h; cases e9; exact x_excT h0 hal h9 ht⟩)
  | ok q3 =>
    have hf := x_eo hf
    refine x_callP (v := none) (st1 := []) (va_runS (As := [.int l1, .int (-5000), .int (10000 : Int32)]) (rest := []) ⟨hx, hb, hml, hown, hts⟩ (x_Met.met (c_WD_requireWithin l hfl D aC ad T nx s.heap.size w l1 (-5000) (10000 : Int32) _ e2) (fun _ _ _ _ h => ⟨_, h.1⟩)) (va_cwS 3 hts (x_gS m_390 m_391 m_1 m_392) rfl rfl rfl pd_WD_requireWithin ⟨Nat.le_of_ble_eq_true rfl, Nat.le_of_ble_eq_true rfl⟩) (x_preSt hH hK hX hTf) rfl rfl hl.1 rfl (lv_room (Nat.le_of_ble_eq_true rfl)) d_WD_table_7 ⟨Nat.zero_le _, Nat.zero_le _⟩) rfl ?_
    refine lv_iload_n hx hb d_WD_table_10 rfl (lv_at hl 2 rfl) ?_
    refine lv_iconst (v := 0) hx hb d_WD_table_11 (by decide) ?_
    refine lv_ldc (v := (100000 : Int32)) hx hb hown (hts _ m_515) d_WD_table_12 ?_
    obtain ⟨o5, e6, hf⟩ := x_b hf
    cases o5 with
    | error k8 =>
      cases x_ee hf
      exact x_pass (x_runTS (As := [.int l2, .int (0 : Int32), .int (100000 : Int32)]) (rest := []) ⟨hx, hb, hml, hown, hts⟩ (c_WD_requireWithin l hfl D aC ad T nx s.heap.size w l2 (0 : Int32) (100000 : Int32) _ e6) (fun _ _ _ _ h => ⟨_, h.choose_spec.1⟩) (va_cwS 3 hts (x_gS m_390 m_391 m_1 m_392) rfl rfl rfl pd_WD_requireWithin ⟨Nat.le_of_ble_eq_true rfl, Nat.le_of_ble_eq_true rfl⟩) (x_preSt hH hK hX hTf) rfl rfl hl.1 rfl (lv_room (Nat.le_of_ble_eq_true rfl)) d_WD_table_14 ⟨Nat.le_refl _, Nat.le_refl _⟩) hlocks hexc (fun _ h => h.elim) (fun _ h => by cases h) (fun x st0 t tf h0 hal h ht => ⟨x, rfl, by obtain ⟨x9, e9, h9⟩ := h; cases e9; exact x_excT h0 hal h9 ht⟩)
    | ok q7 =>
      have hf := x_eo hf
      refine x_callP (v := none) (st1 := []) (va_runS (As := [.int l2, .int (0 : Int32), .int (100000 : Int32)]) (rest := []) ⟨hx, hb, hml, hown, hts⟩ (x_Met.met (c_WD_requireWithin l hfl D aC ad T nx s.heap.size w l2 (0 : Int32) (100000 : Int32) _ e6) (fun _ _ _ _ h => ⟨_, h.1⟩)) (va_cwS 3 hts (x_gS m_390 m_391 m_1 m_392) rfl rfl rfl pd_WD_requireWithin ⟨Nat.le_of_ble_eq_true rfl, Nat.le_of_ble_eq_true rfl⟩) (x_preSt hH hK hX hTf) rfl rfl hl.1 rfl (lv_room (Nat.le_of_ble_eq_true rfl)) d_WD_table_14 ⟨Nat.zero_le _, Nat.zero_le _⟩) rfl ?_
      refine lv_aload_n hx hb d_WD_table_17 rfl (lv_at hl 0 rfl) ?_
      obtain ⟨_, e9, hf⟩ := x_b hf
      obtain ⟨n10, hT11⟩ := x_is_e e9
      obtain ⟨a12, e13, hf⟩ := x_b hf
      refine x_get (C := "WallDamp") (F := F_WD) (N := 8) hx hb hts i_WD hown hK hH hT11 (by decide) rfl 1 (by decide) (hts _ m_346) (fun _ h9 => h9) (kd := (2, 8)) rfl (x_fr e13) d_WD_table_18 ?_
      obtain ⟨_, e14, hf⟩ := x_b hf
      obtain ⟨n15, hT16⟩ := x_is_e e14
      obtain ⟨a17, e18, hf⟩ := x_b hf
      refine x_get (C := "WallDamp$Surroundings") (F := F_Surroundings) (N := 9) hx hb hts i_Surroundings hown hK hH hT16 (by decide) rfl 0 (by decide) (hts _ m_95) (fun _ h9 => h9) (kd := (2, 43)) rfl (x_fr e18) d_WD_table_21 ?_
      refine lv_iload_n hx hb d_WD_table_24 rfl (lv_at hl 1 rfl) ?_
      refine lv_iload_n hx hb d_WD_table_25 rfl (lv_at hl 2 rfl) ?_
      obtain ⟨o19, e20, hf⟩ := x_b hf
      cases o19 with
      | error k22 =>
        cases x_ee hf
        exact x_pass (x_runTS (As := [.ref (ad a17), .int l1, .int l2]) (rest := []) ⟨hx, hb, hml, hown, hts⟩ (c_WD_withCorner l hfl D aC ad T nx s.heap.size w a17 l1 l2 _ e20) (fun _ _ _ _ h => ⟨_, h.choose_spec.1⟩) (va_cwS 3 hts (x_gS m_481 m_482 m_1 m_483) rfl rfl rfl pd_WD_withCorner ⟨Nat.le_of_ble_eq_true rfl, Nat.le_of_ble_eq_true rfl⟩) (x_preSt hH hK hX hTf) rfl rfl hl.1 rfl (lv_room (Nat.le_of_ble_eq_true rfl)) d_WD_table_26 ⟨Nat.le_refl _, Nat.le_refl _⟩) hlocks hexc (x_domA hH hA) (fun _ h => by cases h) (fun x st0 t tf h0 hal h ht => ⟨x, rfl, by obtain ⟨x9, e9, h9⟩ := h; cases e9; exact x_excT h0 hal h9 ht⟩)
      | ok q21 =>
        have hf := x_eo hf
        refine x_call (v := some (.int q21.1)) (w' := q21.2) (st1 := [.int q21.1]) (va_runS (As := [.ref (ad a17), .int l1, .int l2]) (rest := []) ⟨hx, hb, hml, hown, hts⟩ (x_Met.met (c_WD_withCorner l hfl D aC ad T nx s.heap.size w a17 l1 l2 _ e20) (fun _ _ _ _ h => ⟨_, h.1⟩)) (va_cwS 3 hts (x_gS m_481 m_482 m_1 m_483) rfl rfl rfl pd_WD_withCorner ⟨Nat.le_of_ble_eq_true rfl, Nat.le_of_ble_eq_true rfl⟩) (x_preSt hH hK hX hTf) rfl rfl hl.1 rfl (lv_room (Nat.le_of_ble_eq_true rfl)) d_WD_table_26 ⟨Nat.zero_le _, Nat.zero_le _⟩) rfl hH hA hS (fun H locs hH hS => ?_)
        cases hf
        refine x_sz0 hS (fun hz => ?_)
        exact x_mono x_MQ_of (W.iret hx hb hr (fun t ht hW => ⟨rfl, hS.F ht, by rw [ht]; exact hz, by rw [ht]; exact hH.weaken (fun _ _ _ => trivial)⟩) hS.2.2 d_WD_table_29)
theorem c_WD_table (l : Launch) (hfl : l.flags = pinnedFlags ++ [noTraceFlag]) (D : va_G) (aC : Nat → ClassId) (ad : Nat → Nat) (T : x_T) (nx sz : Nat) (w : x_W) (a0 : Nat) (a1 : Int32) (a2 : Int32) (q : Except Nat (Int32 × x_W)) (hf : f_WD_table T w a0 a1 a2 = some q) : x_Met l y_WD_table ws_WD_table { frames := 7, cells := x_mc q, slots := x_ms q, locals := 112 } (x_Pt D aC ad T nx sz w [.ref (ad a0), .int a1, .int a2]) (x_Qx (α := Int32 × x_W) D aC ad T nx (fun r => some (.int r.1)) (fun r => r.2) (x_dom ad nx sz) q) (x_mc q) (x_ms q) (x_dom ad nx sz) :=
  x_metT hfl [(0, .ref (ad a0)), (1, .int a1), (2, .int a2)] (by decide) rfl rfl (Nat.le_of_ble_eq_true rfl) m_514 (fun p e s m args below meth c ls C0 hH hl => k_WD_table C0 w _ a0 a1 a2 hf hH (lv_sub hl [0, 1, 2] rfl))
/-! WallDamp.full(I)I -/
def f_WD_full (T : x_T) (w : x_W) (l0 : Nat) (l1 : Int32) : Option (Except Nat (Int32)) :=
  (f_WD_requireWithin T w l1 (-5000) (10000 : Int32)).bind fun o1 => x_ec o1 fun q3 =>
  (x_is T l0 0).bind fun _ =>
  (x_R w 8 l0).bind fun a8 =>
  (x_is T a8 7).bind fun _ =>
  (x_R w 43 a8).bind fun a13 =>
  (x_is T a13 3).bind fun _ =>
  (f_Corners_heightAt T w a13 l1).bind fun q15 =>
  some (.ok q15)
set_option maxHeartbeats 4000000 in
set_option maxRecDepth 100000 in
theorem k_WD_full {p : Program} {l : Launch} {e : Env} {s : State} {m : MethodId} {args : Array Value} {below : List Frame} {meth : Method} {c : Code} {D : va_G} {aC : Nat → ClassId} {ad : Nat → Nat} {T : x_T} {nx : Nat} {A : Nat → Prop} {q : Except Nat (Int32)} (C0 : x_At2 p l s m meth c args "WallDamp" b_WD_full (some (.int)) 2 D aC A) : ∀ (w : x_W) (ls : Array Slot) (l0 : Nat) (l1 : Int32), f_WD_full T w l0 l1 = some q → x_H D x_cl x_FT aC ad T nx A w s.heap → lv_has ls 2 [(0, .ref (ad l0)), (1, .int l1)] → W p l e { frames := 7, cells := x_mc q, slots := x_ms q, locals := 112 } s m args below meth c s.heap [] 0 0 (x_MQ below (x_Qxp (α := Int32) (fun r => some (.int r)) q) args s (x_mc q) (x_ms q) (fun _ => False)) (F0 m 0 ls []) := by
  obtain ⟨⟨hx, hb, hr, hml, hown, hts, hlocks, hK, hA, hX⟩, hTf, hexc, hfl⟩ := id C0
  intro w ls l0 l1 hf hH hl
  unfold f_WD_full at hf
  refine lv_iload_n hx hb d_WD_full_0 rfl (lv_at hl 1 rfl) ?_
  refine lv_sipush (v := (-5000)) hx hb d_WD_full_1 (by decide) ?_
  refine lv_sipush (v := 10000) hx hb d_WD_full_4 (by decide) ?_
  obtain ⟨o1, e2, hf⟩ := x_b hf
  cases o1 with
  | error k4 =>
    cases x_ee hf
    exact x_pass (x_runTS (As := [.int l1, .int (-5000), .int (10000 : Int32)]) (rest := []) ⟨hx, hb, hml, hown, hts⟩ (c_WD_requireWithin l hfl D aC ad T nx s.heap.size w l1 (-5000) (10000 : Int32) _ e2) (fun _ _ _ _ h => ⟨_, h.choose_spec.1⟩) (va_cwS 3 hts (x_gS m_390 m_391 m_1 m_392) rfl rfl rfl pd_WD_requireWithin ⟨Nat.le_of_ble_eq_true rfl, Nat.le_of_ble_eq_true rfl⟩) (x_preSt hH hK hX hTf) rfl rfl hl.1 rfl (lv_room (Nat.le_of_ble_eq_true rfl)) d_WD_full_7 ⟨Nat.le_refl _, Nat.le_refl _⟩) hlocks hexc (fun _ h => h) (fun _ h => by cases h) (fun x st0 t tf h0 hal h ht => ⟨x, rfl, by obtain ⟨x9, e9, h9⟩ := h; cases e9; exact x_excT h0 hal h9 ht⟩)
  | ok q3 =>
    have hf := x_eo hf
    refine x_callP (v := none) (st1 := []) (va_runS (As := [.int l1, .int (-5000), .int (10000 : Int32)]) (rest := []) ⟨hx, hb, hml, hown, hts⟩ (x_Met.met (c_WD_requireWithin l hfl D aC ad T nx s.heap.size w l1 (-5000) (10000 : Int32) _ e2) (fun _ _ _ _ h => ⟨_, h.1⟩)) (va_cwS 3 hts (x_gS m_390 m_391 m_1 m_392) rfl rfl rfl pd_WD_requireWithin ⟨Nat.le_of_ble_eq_true rfl, Nat.le_of_ble_eq_true rfl⟩) (x_preSt hH hK hX hTf) rfl rfl hl.1 rfl (lv_room (Nat.le_of_ble_eq_true rfl)) d_WD_full_7 ⟨Nat.zero_le _, Nat.zero_le _⟩) rfl ?_
    refine lv_aload_n hx hb d_WD_full_10 rfl (lv_at hl 0 rfl) ?_
    obtain ⟨_, e5, hf⟩ := x_b hf
    obtain ⟨n6, hT7⟩ := x_is_e e5
    obtain ⟨a8, e9, hf⟩ := x_b hf
    refine x_get (C := "WallDamp") (F := F_WD) (N := 8) hx hb hts i_WD hown hK hH hT7 (by decide) rfl 1 (by decide) (hts _ m_346) (fun _ h9 => h9) (kd := (2, 8)) rfl (x_fr e9) d_WD_full_11 ?_
    obtain ⟨_, e10, hf⟩ := x_b hf
    obtain ⟨n11, hT12⟩ := x_is_e e10
    obtain ⟨a13, e14, hf⟩ := x_b hf
    refine x_get (C := "WallDamp$Surroundings") (F := F_Surroundings) (N := 9) hx hb hts i_Surroundings hown hK hH hT12 (by decide) rfl 0 (by decide) (hts _ m_95) (fun _ h9 => h9) (kd := (2, 43)) rfl (x_fr e14) d_WD_full_14 ?_
    refine lv_iload_n hx hb d_WD_full_17 rfl (lv_at hl 1 rfl) ?_
    obtain ⟨_, e17, hf⟩ := x_b hf
    obtain ⟨n18, hT19⟩ := x_is_e e17
    obtain ⟨q15, e16, hf⟩ := x_b hf
    refine x_callP (st1 := [.int q15]) (x_runV (As := [.int l1]) (rest := []) ⟨hx, hb, hml, hown, hts⟩ (c_Corners_heightAt l D aC ad T nx s.heap.size w a13 l1 q15 e16) (cwV 1 hts (x_gV m_523 m_524 m_525 m_4 m_526) rfl rfl rfl ⟨rfl, pd_Corners_heightAt⟩ ⟨Nat.le_of_ble_eq_true rfl, Nat.le_of_ble_eq_true rfl⟩) hH hK hX hT19 (by decide) rfl rfl rfl hl.1 rfl (lv_room (Nat.le_of_ble_eq_true rfl)) d_WD_full_18 ⟨Nat.zero_le _, Nat.zero_le _⟩) rfl ?_
    cases hf
    exact x_mono x_MQ_of (W.iret hx hb hr (fun t ht hW => ⟨rfl, ht⟩) (fun _ h => by cases h) d_WD_full_21)
theorem c_WD_full (l : Launch) (hfl : l.flags = pinnedFlags ++ [noTraceFlag]) (D : va_G) (aC : Nat → ClassId) (ad : Nat → Nat) (T : x_T) (nx sz : Nat) (w : x_W) (a0 : Nat) (a1 : Int32) (q : Except Nat (Int32)) (hf : f_WD_full T w a0 a1 = some q) : x_Met l y_WD_full ws_WD_full { frames := 7, cells := x_mc q, slots := x_ms q, locals := 112 } (x_Pt D aC ad T nx sz w [.ref (ad a0), .int a1]) (x_Qxp (α := Int32) (fun r => some (.int r)) q) (x_mc q) (x_ms q) (fun _ => False) :=
  x_metT hfl [(0, .ref (ad a0)), (1, .int a1)] (by decide) rfl rfl (Nat.le_of_ble_eq_true rfl) m_522 (fun p e s m args below meth c ls C0 hH hl => k_WD_full C0 w _ a0 a1 hf hH (lv_sub hl [0, 1] rfl))
/-! WallDamp.films(II)V -/
def f_WD_films (T : x_T) (w : x_W) (l0 : Nat) (l1 : Int32) (l2 : Int32) : Option (Except Nat (x_W)) :=
  (f_WD_requireWithin T w l1 (0 : Int32) (1000 : Int32)).bind fun o1 => x_ec o1 fun q3 =>
  (f_WD_requireWithin T w l2 (0 : Int32) (1000 : Int32)).bind fun o5 => x_ec o5 fun q7 =>
  (x_is T l0 0).bind fun _ =>
  (x_R w 8 l0).bind fun a12 =>
  (x_is T a12 7).bind fun _ =>
  (some (x_sI w 50 a12 l1)).bind fun w17 =>
  (x_R w17 8 l0).bind fun a19 =>
  (x_is T a19 7).bind fun _ =>
  (some (x_sI w17 51 a19 l2)).bind fun w24 =>
  some (.ok w24)
set_option maxHeartbeats 4000000 in
set_option maxRecDepth 100000 in
theorem k_WD_films {p : Program} {l : Launch} {e : Env} {s : State} {m : MethodId} {args : Array Value} {below : List Frame} {meth : Method} {c : Code} {D : va_G} {aC : Nat → ClassId} {ad : Nat → Nat} {T : x_T} {nx : Nat} {A : Nat → Prop} {q : Except Nat (x_W)} (C0 : x_At2 p l s m meth c args "WallDamp" b_WD_films none 3 D aC A) : ∀ (w : x_W) (ls : Array Slot) (l0 : Nat) (l1 : Int32) (l2 : Int32), f_WD_films T w l0 l1 l2 = some q → x_H D x_cl x_FT aC ad T nx A w s.heap → lv_has ls 3 [(0, .ref (ad l0)), (1, .int l1), (2, .int l2)] → W p l e { frames := 7, cells := x_mc q, slots := x_ms q, locals := 112 } s m args below meth c s.heap [] 0 0 (x_MQ below (x_Qx (α := x_W) D aC ad T nx (fun _ => none) (fun r => r) A q) args s (x_mc q) (x_ms q) A) (F0 m 0 ls []) := by
  obtain ⟨⟨hx, hb, hr, hml, hown, hts, hlocks, hK, hA, hX⟩, hTf, hexc, hfl⟩ := id C0
  intro w ls l0 l1 l2 hf hH hl
  have hS : va_S A s.heap s.heap [] := va_S.rf
  unfold f_WD_films at hf
  refine lv_iload_n hx hb d_WD_films_0 rfl (lv_at hl 1 rfl) ?_
  refine lv_iconst (v := 0) hx hb d_WD_films_1 (by decide) ?_
  refine lv_sipush (v := 1000) hx hb d_WD_films_2 (by decide) ?_
  obtain ⟨o1, e2, hf⟩ := x_b hf
  cases o1 with
  | error k4 =>
    cases x_ee hf
    exact x_pass (x_runTS (As := [.int l1, .int (0 : Int32), .int (1000 : Int32)]) (rest := []) ⟨hx, hb, hml, hown, hts⟩ (c_WD_requireWithin l hfl D aC ad T nx s.heap.size w l1 (0 : Int32) (1000 : Int32) _ e2) (fun _ _ _ _ h => ⟨_, h.choose_spec.1⟩) (va_cwS 3 hts (x_gS m_390 m_391 m_1 m_392) rfl rfl rfl pd_WD_requireWithin ⟨Nat.le_of_ble_eq_true rfl, Nat.le_of_ble_eq_true rfl⟩) (x_preSt hH hK hX hTf) rfl rfl hl.1 rfl (lv_room (Nat.le_of_ble_eq_true rfl)) d_WD_films_5 ⟨Nat.le_refl _, Nat.le_refl _⟩) hlocks hexc (fun _ h => h.elim) (fun _ h => by cases h) (fun x st0 t tf h0 hal h ht => ⟨x, rfl, by obtain ⟨x9, e9, h9⟩ := h; cases e9; exact x_excT h0 hal h9 ht⟩)
  | ok q3 =>
    have hf := x_eo hf
    refine x_callP (v := none) (st1 := []) (va_runS (As := [.int l1, .int (0 : Int32), .int (1000 : Int32)]) (rest := []) ⟨hx, hb, hml, hown, hts⟩ (x_Met.met (c_WD_requireWithin l hfl D aC ad T nx s.heap.size w l1 (0 : Int32) (1000 : Int32) _ e2) (fun _ _ _ _ h => ⟨_, h.1⟩)) (va_cwS 3 hts (x_gS m_390 m_391 m_1 m_392) rfl rfl rfl pd_WD_requireWithin ⟨Nat.le_of_ble_eq_true rfl, Nat.le_of_ble_eq_true rfl⟩) (x_preSt hH hK hX hTf) rfl rfl hl.1 rfl (lv_room (Nat.le_of_ble_eq_true rfl)) d_WD_films_5 ⟨Nat.zero_le _, Nat.zero_le _⟩) rfl ?_
    refine lv_iload_n hx hb d_WD_films_8 rfl (lv_at hl 2 rfl) ?_
    refine lv_iconst (v := 0) hx hb d_WD_films_9 (by decide) ?_
    refine lv_sipush (v := 1000) hx hb d_WD_films_10 (by decide) ?_
    obtain ⟨o5, e6, hf⟩ := x_b hf
    cases o5 with
    | error k8 =>
      cases x_ee hf
      exact x_pass (x_runTS (As := [.int l2, .int (0 : Int32), .int (1000 : Int32)]) (rest := []) ⟨hx, hb, hml, hown, hts⟩ (c_WD_requireWithin l hfl D aC ad T nx s.heap.size w l2 (0 : Int32) (1000 : Int32) _ e6) (fun _ _ _ _ h => ⟨_, h.choose_spec.1⟩) (va_cwS 3 hts (x_gS m_390 m_391 m_1 m_392) rfl rfl rfl pd_WD_requireWithin ⟨Nat.le_of_ble_eq_true rfl, Nat.le_of_ble_eq_true rfl⟩) (x_preSt hH hK hX hTf) rfl rfl hl.1 rfl (lv_room (Nat.le_of_ble_eq_true rfl)) d_WD_films_13 ⟨Nat.le_refl _, Nat.le_refl _⟩) hlocks hexc (fun _ h => h.elim) (fun _ h => by cases h) (fun x st0 t tf h0 hal h ht => ⟨x, rfl, by obtain ⟨x9, e9, h9⟩ := h; cases e9; exact x_excT h0 hal h9 ht⟩)
    | ok q7 =>
      have hf := x_eo hf
      refine x_callP (v := none) (st1 := []) (va_runS (As := [.int l2, .int (0 : Int32), .int (1000 : Int32)]) (rest := []) ⟨hx, hb, hml, hown, hts⟩ (x_Met.met (c_WD_requireWithin l hfl D aC ad T nx s.heap.size w l2 (0 : Int32) (1000 : Int32) _ e6) (fun _ _ _ _ h => ⟨_, h.1⟩)) (va_cwS 3 hts (x_gS m_390 m_391 m_1 m_392) rfl rfl rfl pd_WD_requireWithin ⟨Nat.le_of_ble_eq_true rfl, Nat.le_of_ble_eq_true rfl⟩) (x_preSt hH hK hX hTf) rfl rfl hl.1 rfl (lv_room (Nat.le_of_ble_eq_true rfl)) d_WD_films_13 ⟨Nat.zero_le _, Nat.zero_le _⟩) rfl ?_
      refine lv_aload_n hx hb d_WD_films_16 rfl (lv_at hl 0 rfl) ?_
      obtain ⟨_, e9, hf⟩ := x_b hf
      obtain ⟨n10, hT11⟩ := x_is_e e9
      obtain ⟨a12, e13, hf⟩ := x_b hf
      refine x_get (C := "WallDamp") (F := F_WD) (N := 8) hx hb hts i_WD hown hK hH hT11 (by decide) rfl 1 (by decide) (hts _ m_346) (fun _ h9 => h9) (kd := (2, 8)) rfl (x_fr e13) d_WD_films_17 ?_
      refine lv_iload_n hx hb d_WD_films_20 rfl (lv_at hl 1 rfl) ?_
      obtain ⟨_, e14, hf⟩ := x_b hf
      obtain ⟨n15, hT16⟩ := x_is_e e14
      refine x_put (C := "WallDamp$Surroundings") (F := F_Surroundings) (N := 9) (ty := t_Surroundings 7) (v := .int l1) (w' := x_sI w 50 a12 l1) hx hb hts i_Surroundings t_Surroundings ty_Surroundings n_Surroundings hown hK hH hS hT16 (by decide) rfl rfl 7 (by decide) (hts _ m_116) (fun _ h9 => h9) rfl (ty_Surroundings 7 (by decide)) rfl rfl (x_on_I hT16 (by decide) rfl nd_Surroundings) (fun j hj => x_off_I hj) (fun hh ok => x_ok_I hh ok) d_WD_films_21 (fun H locs hH hS => ?_)
      obtain ⟨w17, e18, hf⟩ := x_b hf
      have hH := x_nw e18 hH
      refine lv_aload_n hx hb d_WD_films_24 rfl (lv_at hl 0 rfl) ?_
      obtain ⟨a19, e20, hf⟩ := x_b hf
      refine x_get (C := "WallDamp") (F := F_WD) (N := 8) hx hb hts i_WD hown hK hH hT11 (by decide) rfl 1 (by decide) (hts _ m_346) (fun _ h9 => h9) (kd := (2, 8)) rfl (x_fr e20) d_WD_films_25 ?_
      refine lv_iload_n hx hb d_WD_films_28 rfl (lv_at hl 2 rfl) ?_
      obtain ⟨_, e21, hf⟩ := x_b hf
      obtain ⟨n22, hT23⟩ := x_is_e e21
      refine x_put (C := "WallDamp$Surroundings") (F := F_Surroundings) (N := 9) (ty := t_Surroundings 8) (v := .int l2) (w' := x_sI w17 51 a19 l2) hx hb hts i_Surroundings t_Surroundings ty_Surroundings n_Surroundings hown hK hH hS hT23 (by decide) rfl rfl 8 (by decide) (hts _ m_119) (fun _ h9 => h9) rfl (ty_Surroundings 8 (by decide)) rfl rfl (x_on_I hT23 (by decide) rfl nd_Surroundings) (fun j hj => x_off_I hj) (fun hh ok => x_ok_I hh ok) d_WD_films_29 (fun H locs hH hS => ?_)
      obtain ⟨w24, e25, hf⟩ := x_b hf
      have hH := x_nw e25 hH
      cases hf
      refine x_sz0 hS (fun hz => ?_)
      exact x_mono x_MQ_of (W.vret hx hb hr (fun t ht hW => ⟨rfl, hS.F ht, by rw [ht]; exact hz, by rw [ht]; exact hH.weaken (fun _ _ _ => trivial)⟩) hS.2.2 d_WD_films_32)
theorem c_WD_films (l : Launch) (hfl : l.flags = pinnedFlags ++ [noTraceFlag]) (D : va_G) (aC : Nat → ClassId) (ad : Nat → Nat) (T : x_T) (nx sz : Nat) (w : x_W) (a0 : Nat) (a1 : Int32) (a2 : Int32) (q : Except Nat (x_W)) (hf : f_WD_films T w a0 a1 a2 = some q) : x_Met l y_WD_films ws_WD_films { frames := 7, cells := x_mc q, slots := x_ms q, locals := 112 } (x_Pt D aC ad T nx sz w [.ref (ad a0), .int a1, .int a2]) (x_Qx (α := x_W) D aC ad T nx (fun _ => none) (fun r => r) (x_dom ad nx sz) q) (x_mc q) (x_ms q) (x_dom ad nx sz) :=
  x_metT hfl [(0, .ref (ad a0)), (1, .int a1), (2, .int a2)] (by decide) rfl rfl (Nat.le_of_ble_eq_true rfl) m_533 (fun p e s m args below meth c ls C0 hH hl => k_WD_films C0 w _ a0 a1 a2 hf hH (lv_sub hl [0, 1, 2] rfl))
/-! WallDamp.outside(IIIII)V -/
def f_WD_outside (T : x_T) (w : x_W) (l0 : Nat) (l1 : Int32) (l2 : Int32) (l3 : Int32) (l4 : Int32) (l5 : Int32) : Option (Except Nat (x_W)) :=
  (f_WD_requireAir T w l1 l2 l3).bind fun o1 => x_ec o1 fun q3 =>
  (f_WD_requireWithin T w l4 (0 : Int32) (1000 : Int32)).bind fun o5 => x_ec o5 fun q7 =>
  (f_WD_requireWithin T w l5 (0 : Int32) (1000 : Int32)).bind fun o9 => x_ec o9 fun q11 =>
  (x_is T l0 0).bind fun _ =>
  (x_R w 8 l0).bind fun a16 =>
  (x_is T a16 7).bind fun _ =>
  (x_R w 44 a16).bind fun a21 =>
  (x_ix T a21 100 l1).bind fun _ =>
  (some (x_sA w a21 l1.toNatClampNeg l2)).bind fun w27 =>
  (x_R w27 8 l0).bind fun a29 =>
  (x_is T a29 7).bind fun _ =>
  (x_R w27 45 a29).bind fun a34 =>
  (x_ix T a34 100 l1).bind fun _ =>
  (some (x_sA w27 a34 l1.toNatClampNeg l3)).bind fun w40 =>
  (x_R w40 8 l0).bind fun a42 =>
  (x_is T a42 7).bind fun _ =>
  (x_R w40 46 a42).bind fun a47 =>
  (x_ix T a47 100 l1).bind fun _ =>
  (some (x_sA w40 a47 l1.toNatClampNeg l4)).bind fun w53 =>
  (x_R w53 8 l0).bind fun a55 =>
  (x_is T a55 7).bind fun _ =>
  (x_R w53 47 a55).bind fun a60 =>
  (x_ix T a60 100 l1).bind fun _ =>
  (some (x_sA w53 a60 l1.toNatClampNeg l5)).bind fun w66 =>
  some (.ok w66)
set_option maxHeartbeats 4000000 in
set_option maxRecDepth 100000 in
theorem k_WD_outside {p : Program} {l : Launch} {e : Env} {s : State} {m : MethodId} {args : Array Value} {below : List Frame} {meth : Method} {c : Code} {D : va_G} {aC : Nat → ClassId} {ad : Nat → Nat} {T : x_T} {nx : Nat} {A : Nat → Prop} {q : Except Nat (x_W)} (C0 : x_At2 p l s m meth c args "WallDamp" b_WD_outside none 6 D aC A) : ∀ (w : x_W) (ls : Array Slot) (l0 : Nat) (l1 : Int32) (l2 : Int32) (l3 : Int32) (l4 : Int32) (l5 : Int32), f_WD_outside T w l0 l1 l2 l3 l4 l5 = some q → x_H D x_cl x_FT aC ad T nx A w s.heap → lv_has ls 6 [(0, .ref (ad l0)), (1, .int l1), (2, .int l2), (3, .int l3), (4, .int l4), (5, .int l5)] → W p l e { frames := 8, cells := x_mc q, slots := x_ms q, locals := 134 } s m args below meth c s.heap [] 0 0 (x_MQ below (x_Qx (α := x_W) D aC ad T nx (fun _ => none) (fun r => r) A q) args s (x_mc q) (x_ms q) A) (F0 m 0 ls []) := by
  obtain ⟨⟨hx, hb, hr, hml, hown, hts, hlocks, hK, hA, hX⟩, hTf, hexc, hfl⟩ := id C0
  intro w ls l0 l1 l2 l3 l4 l5 hf hH hl
  have hS : va_S A s.heap s.heap [] := va_S.rf
  unfold f_WD_outside at hf
  refine lv_iload_n hx hb d_WD_outside_0 rfl (lv_at hl 1 rfl) ?_
  refine lv_iload_n hx hb d_WD_outside_1 rfl (lv_at hl 2 rfl) ?_
  refine lv_iload_n hx hb d_WD_outside_2 rfl (lv_at hl 3 rfl) ?_
  obtain ⟨o1, e2, hf⟩ := x_b hf
  cases o1 with
  | error k4 =>
    cases x_ee hf
    exact x_pass (x_runTS (As := [.int l1, .int l2, .int l3]) (rest := []) ⟨hx, hb, hml, hown, hts⟩ (c_WD_requireAir l hfl D aC ad T nx s.heap.size w l1 l2 l3 _ e2) (fun _ _ _ _ h => ⟨_, h.choose_spec.1⟩) (va_cwS 3 hts (x_gS m_541 m_542 m_1 m_543) rfl rfl rfl pd_WD_requireAir ⟨Nat.le_of_ble_eq_true rfl, Nat.le_of_ble_eq_true rfl⟩) (x_preSt hH hK hX hTf) rfl rfl hl.1 rfl (lv_room (Nat.le_of_ble_eq_true rfl)) d_WD_outside_3 ⟨Nat.le_refl _, Nat.le_refl _⟩) hlocks hexc (fun _ h => h.elim) (fun _ h => by cases h) (fun x st0 t tf h0 hal h ht => ⟨x, rfl, by obtain ⟨x9, e9, h9⟩ := h; cases e9; exact x_excT h0 hal h9 ht⟩)
  | ok q3 =>
    have hf := x_eo hf
    refine x_callP (v := none) (st1 := []) (va_runS (As := [.int l1, .int l2, .int l3]) (rest := []) ⟨hx, hb, hml, hown, hts⟩ (x_Met.met (c_WD_requireAir l hfl D aC ad T nx s.heap.size w l1 l2 l3 _ e2) (fun _ _ _ _ h => ⟨_, h.1⟩)) (va_cwS 3 hts (x_gS m_541 m_542 m_1 m_543) rfl rfl rfl pd_WD_requireAir ⟨Nat.le_of_ble_eq_true rfl, Nat.le_of_ble_eq_true rfl⟩) (x_preSt hH hK hX hTf) rfl rfl hl.1 rfl (lv_room (Nat.le_of_ble_eq_true rfl)) d_WD_outside_3 ⟨Nat.zero_le _, Nat.zero_le _⟩) rfl ?_
    refine lv_iload hx hb d_WD_outside_6 (lv_at hl 4 rfl) ?_
    refine lv_iconst (v := 0) hx hb d_WD_outside_8 (by decide) ?_
    refine lv_sipush (v := 1000) hx hb d_WD_outside_9 (by decide) ?_
    obtain ⟨o5, e6, hf⟩ := x_b hf
    cases o5 with
    | error k8 =>
      cases x_ee hf
      exact x_pass (x_runTS (As := [.int l4, .int (0 : Int32), .int (1000 : Int32)]) (rest := []) ⟨hx, hb, hml, hown, hts⟩ (c_WD_requireWithin l hfl D aC ad T nx s.heap.size w l4 (0 : Int32) (1000 : Int32) _ e6) (fun _ _ _ _ h => ⟨_, h.choose_spec.1⟩) (va_cwS 3 hts (x_gS m_390 m_391 m_1 m_392) rfl rfl rfl pd_WD_requireWithin ⟨Nat.le_of_ble_eq_true rfl, Nat.le_of_ble_eq_true rfl⟩) (x_preSt hH hK hX hTf) rfl rfl hl.1 rfl (lv_room (Nat.le_of_ble_eq_true rfl)) d_WD_outside_12 ⟨Nat.le_refl _, Nat.le_refl _⟩) hlocks hexc (fun _ h => h.elim) (fun _ h => by cases h) (fun x st0 t tf h0 hal h ht => ⟨x, rfl, by obtain ⟨x9, e9, h9⟩ := h; cases e9; exact x_excT h0 hal h9 ht⟩)
    | ok q7 =>
      have hf := x_eo hf
      refine x_callP (v := none) (st1 := []) (va_runS (As := [.int l4, .int (0 : Int32), .int (1000 : Int32)]) (rest := []) ⟨hx, hb, hml, hown, hts⟩ (x_Met.met (c_WD_requireWithin l hfl D aC ad T nx s.heap.size w l4 (0 : Int32) (1000 : Int32) _ e6) (fun _ _ _ _ h => ⟨_, h.1⟩)) (va_cwS 3 hts (x_gS m_390 m_391 m_1 m_392) rfl rfl rfl pd_WD_requireWithin ⟨Nat.le_of_ble_eq_true rfl, Nat.le_of_ble_eq_true rfl⟩) (x_preSt hH hK hX hTf) rfl rfl hl.1 rfl (lv_room (Nat.le_of_ble_eq_true rfl)) d_WD_outside_12 ⟨Nat.zero_le _, Nat.zero_le _⟩) rfl ?_
      refine lv_iload hx hb d_WD_outside_15 (lv_at hl 5 rfl) ?_
      refine lv_iconst (v := 0) hx hb d_WD_outside_17 (by decide) ?_
      refine lv_sipush (v := 1000) hx hb d_WD_outside_18 (by decide) ?_
      obtain ⟨o9, e10, hf⟩ := x_b hf
      cases o9 with
      | error k12 =>
        cases x_ee hf
        exact x_pass (x_runTS (As := [.int l5, .int (0 : Int32), .int (1000 : Int32)]) (rest := []) ⟨hx, hb, hml, hown, hts⟩ (c_WD_requireWithin l hfl D aC ad T nx s.heap.size w l5 (0 : Int32) (1000 : Int32) _ e10) (fun _ _ _ _ h => ⟨_, h.choose_spec.1⟩) (va_cwS 3 hts (x_gS m_390 m_391 m_1 m_392) rfl rfl rfl pd_WD_requireWithin ⟨Nat.le_of_ble_eq_true rfl, Nat.le_of_ble_eq_true rfl⟩) (x_preSt hH hK hX hTf) rfl rfl hl.1 rfl (lv_room (Nat.le_of_ble_eq_true rfl)) d_WD_outside_21 ⟨Nat.le_refl _, Nat.le_refl _⟩) hlocks hexc (fun _ h => h.elim) (fun _ h => by cases h) (fun x st0 t tf h0 hal h ht => ⟨x, rfl, by obtain ⟨x9, e9, h9⟩ := h; cases e9; exact x_excT h0 hal h9 ht⟩)
      | ok q11 =>
        have hf := x_eo hf
        refine x_callP (v := none) (st1 := []) (va_runS (As := [.int l5, .int (0 : Int32), .int (1000 : Int32)]) (rest := []) ⟨hx, hb, hml, hown, hts⟩ (x_Met.met (c_WD_requireWithin l hfl D aC ad T nx s.heap.size w l5 (0 : Int32) (1000 : Int32) _ e10) (fun _ _ _ _ h => ⟨_, h.1⟩)) (va_cwS 3 hts (x_gS m_390 m_391 m_1 m_392) rfl rfl rfl pd_WD_requireWithin ⟨Nat.le_of_ble_eq_true rfl, Nat.le_of_ble_eq_true rfl⟩) (x_preSt hH hK hX hTf) rfl rfl hl.1 rfl (lv_room (Nat.le_of_ble_eq_true rfl)) d_WD_outside_21 ⟨Nat.zero_le _, Nat.zero_le _⟩) rfl ?_
        refine lv_aload_n hx hb d_WD_outside_24 rfl (lv_at hl 0 rfl) ?_
        obtain ⟨_, e13, hf⟩ := x_b hf
        obtain ⟨n14, hT15⟩ := x_is_e e13
        obtain ⟨a16, e17, hf⟩ := x_b hf
        refine x_get (C := "WallDamp") (F := F_WD) (N := 8) hx hb hts i_WD hown hK hH hT15 (by decide) rfl 1 (by decide) (hts _ m_346) (fun _ h9 => h9) (kd := (2, 8)) rfl (x_fr e17) d_WD_outside_25 ?_
        obtain ⟨_, e18, hf⟩ := x_b hf
        obtain ⟨n19, hT20⟩ := x_is_e e18
        obtain ⟨a21, e22, hf⟩ := x_b hf
        refine x_get (C := "WallDamp$Surroundings") (F := F_Surroundings) (N := 9) hx hb hts i_Surroundings hown hK hH hT20 (by decide) rfl 1 (by decide) (hts _ m_98) (fun _ h9 => h9) (kd := (2, 44)) rfl (x_fr e22) d_WD_outside_28 ?_
        refine lv_iload_n hx hb d_WD_outside_31 rfl (lv_at hl 1 rfl) ?_
        refine lv_iload_n hx hb d_WD_outside_32 rfl (lv_at hl 2 rfl) ?_
        obtain ⟨_, e23, hf⟩ := x_b hf
        obtain ⟨n24, hT25, hi26⟩ := x_ix_e e23
        refine x_iast hx hb hK hH hS hT25 0 rfl hi26 d_WD_outside_33 (fun H locs hH hS => ?_)
        obtain ⟨w27, e28, hf⟩ := x_b hf
        have hH := x_nw e28 hH
        refine lv_aload_n hx hb d_WD_outside_34 rfl (lv_at hl 0 rfl) ?_
        obtain ⟨a29, e30, hf⟩ := x_b hf
        refine x_get (C := "WallDamp") (F := F_WD) (N := 8) hx hb hts i_WD hown hK hH hT15 (by decide) rfl 1 (by decide) (hts _ m_346) (fun _ h9 => h9) (kd := (2, 8)) rfl (x_fr e30) d_WD_outside_35 ?_
        obtain ⟨_, e31, hf⟩ := x_b hf
        obtain ⟨n32, hT33⟩ := x_is_e e31
        obtain ⟨a34, e35, hf⟩ := x_b hf
        refine x_get (C := "WallDamp$Surroundings") (F := F_Surroundings) (N := 9) hx hb hts i_Surroundings hown hK hH hT33 (by decide) rfl 2 (by decide) (hts _ m_101) (fun _ h9 => h9) (kd := (2, 45)) rfl (x_fr e35) d_WD_outside_38 ?_
        refine lv_iload_n hx hb d_WD_outside_41 rfl (lv_at hl 1 rfl) ?_
        refine lv_iload_n hx hb d_WD_outside_42 rfl (lv_at hl 3 rfl) ?_
        obtain ⟨_, e36, hf⟩ := x_b hf
        obtain ⟨n37, hT38, hi39⟩ := x_ix_e e36
        refine x_iast hx hb hK hH hS hT38 0 rfl hi39 d_WD_outside_43 (fun H locs hH hS => ?_)
        obtain ⟨w40, e41, hf⟩ := x_b hf
        have hH := x_nw e41 hH
        refine lv_aload_n hx hb d_WD_outside_44 rfl (lv_at hl 0 rfl) ?_
        obtain ⟨a42, e43, hf⟩ := x_b hf
        refine x_get (C := "WallDamp") (F := F_WD) (N := 8) hx hb hts i_WD hown hK hH hT15 (by decide) rfl 1 (by decide) (hts _ m_346) (fun _ h9 => h9) (kd := (2, 8)) rfl (x_fr e43) d_WD_outside_45 ?_
        obtain ⟨_, e44, hf⟩ := x_b hf
        obtain ⟨n45, hT46⟩ := x_is_e e44
        obtain ⟨a47, e48, hf⟩ := x_b hf
        refine x_get (C := "WallDamp$Surroundings") (F := F_Surroundings) (N := 9) hx hb hts i_Surroundings hown hK hH hT46 (by decide) rfl 3 (by decide) (hts _ m_104) (fun _ h9 => h9) (kd := (2, 46)) rfl (x_fr e48) d_WD_outside_48 ?_
        refine lv_iload_n hx hb d_WD_outside_51 rfl (lv_at hl 1 rfl) ?_
        refine lv_iload hx hb d_WD_outside_52 (lv_at hl 4 rfl) ?_
        obtain ⟨_, e49, hf⟩ := x_b hf
        obtain ⟨n50, hT51, hi52⟩ := x_ix_e e49
        refine x_iast hx hb hK hH hS hT51 0 rfl hi52 d_WD_outside_54 (fun H locs hH hS => ?_)
        obtain ⟨w53, e54, hf⟩ := x_b hf
        have hH := x_nw e54 hH
        refine lv_aload_n hx hb d_WD_outside_55 rfl (lv_at hl 0 rfl) ?_
        obtain ⟨a55, e56, hf⟩ := x_b hf
        refine x_get (C := "WallDamp") (F := F_WD) (N := 8) hx hb hts i_WD hown hK hH hT15 (by decide) rfl 1 (by decide) (hts _ m_346) (fun _ h9 => h9) (kd := (2, 8)) rfl (x_fr e56) d_WD_outside_56 ?_
        obtain ⟨_, e57, hf⟩ := x_b hf
        obtain ⟨n58, hT59⟩ := x_is_e e57
        obtain ⟨a60, e61, hf⟩ := x_b hf
        refine x_get (C := "WallDamp$Surroundings") (F := F_Surroundings) (N := 9) hx hb hts i_Surroundings hown hK hH hT59 (by decide) rfl 4 (by decide) (hts _ m_107) (fun _ h9 => h9) (kd := (2, 47)) rfl (x_fr e61) d_WD_outside_59 ?_
        refine lv_iload_n hx hb d_WD_outside_62 rfl (lv_at hl 1 rfl) ?_
        refine lv_iload hx hb d_WD_outside_63 (lv_at hl 5 rfl) ?_
        obtain ⟨_, e62, hf⟩ := x_b hf
        obtain ⟨n63, hT64, hi65⟩ := x_ix_e e62
        refine x_iast hx hb hK hH hS hT64 0 rfl hi65 d_WD_outside_65 (fun H locs hH hS => ?_)
        obtain ⟨w66, e67, hf⟩ := x_b hf
        have hH := x_nw e67 hH
        cases hf
        refine x_sz0 hS (fun hz => ?_)
        exact x_mono x_MQ_of (W.vret hx hb hr (fun t ht hW => ⟨rfl, hS.F ht, by rw [ht]; exact hz, by rw [ht]; exact hH.weaken (fun _ _ _ => trivial)⟩) hS.2.2 d_WD_outside_66)
theorem c_WD_outside (l : Launch) (hfl : l.flags = pinnedFlags ++ [noTraceFlag]) (D : va_G) (aC : Nat → ClassId) (ad : Nat → Nat) (T : x_T) (nx sz : Nat) (w : x_W) (a0 : Nat) (a1 : Int32) (a2 : Int32) (a3 : Int32) (a4 : Int32) (a5 : Int32) (q : Except Nat (x_W)) (hf : f_WD_outside T w a0 a1 a2 a3 a4 a5 = some q) : x_Met l y_WD_outside ws_WD_outside { frames := 8, cells := x_mc q, slots := x_ms q, locals := 134 } (x_Pt D aC ad T nx sz w [.ref (ad a0), .int a1, .int a2, .int a3, .int a4, .int a5]) (x_Qx (α := x_W) D aC ad T nx (fun _ => none) (fun r => r) (x_dom ad nx sz) q) (x_mc q) (x_ms q) (x_dom ad nx sz) :=
  x_metT hfl [(0, .ref (ad a0)), (1, .int a1), (2, .int a2), (3, .int a3), (4, .int a4), (5, .int a5)] (by decide) rfl rfl (Nat.le_of_ble_eq_true rfl) m_540 (fun p e s m args below meth c ls C0 hH hl => k_WD_outside C0 w _ a0 a1 a2 a3 a4 a5 hf hH (lv_sub hl [0, 1, 2, 3, 4, 5] rfl))
/-! WallDamp.inside(III)V -/
def f_WD_inside (T : x_T) (w : x_W) (l0 : Nat) (l1 : Int32) (l2 : Int32) (l3 : Int32) : Option (Except Nat (x_W)) :=
  (f_WD_requireAir T w l1 l2 l3).bind fun o1 => x_ec o1 fun q3 =>
  (x_is T l0 0).bind fun _ =>
  (x_R w 8 l0).bind fun a8 =>
  (x_is T a8 7).bind fun _ =>
  (x_R w 48 a8).bind fun a13 =>
  (x_ix T a13 100 l1).bind fun _ =>
  (some (x_sA w a13 l1.toNatClampNeg l2)).bind fun w19 =>
  (x_R w19 8 l0).bind fun a21 =>
  (x_is T a21 7).bind fun _ =>
  (x_R w19 49 a21).bind fun a26 =>
  (x_ix T a26 100 l1).bind fun _ =>
  (some (x_sA w19 a26 l1.toNatClampNeg l3)).bind fun w32 =>
  some (.ok w32)
set_option maxHeartbeats 4000000 in
set_option maxRecDepth 100000 in
theorem k_WD_inside {p : Program} {l : Launch} {e : Env} {s : State} {m : MethodId} {args : Array Value} {below : List Frame} {meth : Method} {c : Code} {D : va_G} {aC : Nat → ClassId} {ad : Nat → Nat} {T : x_T} {nx : Nat} {A : Nat → Prop} {q : Except Nat (x_W)} (C0 : x_At2 p l s m meth c args "WallDamp" b_WD_inside none 4 D aC A) : ∀ (w : x_W) (ls : Array Slot) (l0 : Nat) (l1 : Int32) (l2 : Int32) (l3 : Int32), f_WD_inside T w l0 l1 l2 l3 = some q → x_H D x_cl x_FT aC ad T nx A w s.heap → lv_has ls 4 [(0, .ref (ad l0)), (1, .int l1), (2, .int l2), (3, .int l3)] → W p l e { frames := 8, cells := x_mc q, slots := x_ms q, locals := 134 } s m args below meth c s.heap [] 0 0 (x_MQ below (x_Qx (α := x_W) D aC ad T nx (fun _ => none) (fun r => r) A q) args s (x_mc q) (x_ms q) A) (F0 m 0 ls []) := by
  obtain ⟨⟨hx, hb, hr, hml, hown, hts, hlocks, hK, hA, hX⟩, hTf, hexc, hfl⟩ := id C0
  intro w ls l0 l1 l2 l3 hf hH hl
  have hS : va_S A s.heap s.heap [] := va_S.rf
  unfold f_WD_inside at hf
  refine lv_iload_n hx hb d_WD_inside_0 rfl (lv_at hl 1 rfl) ?_
  refine lv_iload_n hx hb d_WD_inside_1 rfl (lv_at hl 2 rfl) ?_
  refine lv_iload_n hx hb d_WD_inside_2 rfl (lv_at hl 3 rfl) ?_
  obtain ⟨o1, e2, hf⟩ := x_b hf
  cases o1 with
  | error k4 =>
    cases x_ee hf
    exact x_pass (x_runTS (As := [.int l1, .int l2, .int l3]) (rest := []) ⟨hx, hb, hml, hown, hts⟩ (c_WD_requireAir l hfl D aC ad T nx s.heap.size w l1 l2 l3 _ e2) (fun _ _ _ _ h => ⟨_, h.choose_spec.1⟩) (va_cwS 3 hts (x_gS m_541 m_542 m_1 m_543) rfl rfl rfl pd_WD_requireAir ⟨Nat.le_of_ble_eq_true rfl, Nat.le_of_ble_eq_true rfl⟩) (x_preSt hH hK hX hTf) rfl rfl hl.1 rfl (lv_room (Nat.le_of_ble_eq_true rfl)) d_WD_inside_3 ⟨Nat.le_refl _, Nat.le_refl _⟩) hlocks hexc (fun _ h => h.elim) (fun _ h => by cases h) (fun x st0 t tf h0 hal h ht => ⟨x, rfl, by obtain ⟨x9, e9, h9⟩ := h; cases e9; exact x_excT h0 hal h9 ht⟩)
  | ok q3 =>
    have hf := x_eo hf
    refine x_callP (v := none) (st1 := []) (va_runS (As := [.int l1, .int l2, .int l3]) (rest := []) ⟨hx, hb, hml, hown, hts⟩ (x_Met.met (c_WD_requireAir l hfl D aC ad T nx s.heap.size w l1 l2 l3 _ e2) (fun _ _ _ _ h => ⟨_, h.1⟩)) (va_cwS 3 hts (x_gS m_541 m_542 m_1 m_543) rfl rfl rfl pd_WD_requireAir ⟨Nat.le_of_ble_eq_true rfl, Nat.le_of_ble_eq_true rfl⟩) (x_preSt hH hK hX hTf) rfl rfl hl.1 rfl (lv_room (Nat.le_of_ble_eq_true rfl)) d_WD_inside_3 ⟨Nat.zero_le _, Nat.zero_le _⟩) rfl ?_
    refine lv_aload_n hx hb d_WD_inside_6 rfl (lv_at hl 0 rfl) ?_
    obtain ⟨_, e5, hf⟩ := x_b hf
    obtain ⟨n6, hT7⟩ := x_is_e e5
    obtain ⟨a8, e9, hf⟩ := x_b hf
    refine x_get (C := "WallDamp") (F := F_WD) (N := 8) hx hb hts i_WD hown hK hH hT7 (by decide) rfl 1 (by decide) (hts _ m_346) (fun _ h9 => h9) (kd := (2, 8)) rfl (x_fr e9) d_WD_inside_7 ?_
    obtain ⟨_, e10, hf⟩ := x_b hf
    obtain ⟨n11, hT12⟩ := x_is_e e10
    obtain ⟨a13, e14, hf⟩ := x_b hf
    refine x_get (C := "WallDamp$Surroundings") (F := F_Surroundings) (N := 9) hx hb hts i_Surroundings hown hK hH hT12 (by decide) rfl 5 (by decide) (hts _ m_110) (fun _ h9 => h9) (kd := (2, 48)) rfl (x_fr e14) d_WD_inside_10 ?_
    refine lv_iload_n hx hb d_WD_inside_13 rfl (lv_at hl 1 rfl) ?_
    refine lv_iload_n hx hb d_WD_inside_14 rfl (lv_at hl 2 rfl) ?_
    obtain ⟨_, e15, hf⟩ := x_b hf
    obtain ⟨n16, hT17, hi18⟩ := x_ix_e e15
    refine x_iast hx hb hK hH hS hT17 0 rfl hi18 d_WD_inside_15 (fun H locs hH hS => ?_)
    obtain ⟨w19, e20, hf⟩ := x_b hf
    have hH := x_nw e20 hH
    refine lv_aload_n hx hb d_WD_inside_16 rfl (lv_at hl 0 rfl) ?_
    obtain ⟨a21, e22, hf⟩ := x_b hf
    refine x_get (C := "WallDamp") (F := F_WD) (N := 8) hx hb hts i_WD hown hK hH hT7 (by decide) rfl 1 (by decide) (hts _ m_346) (fun _ h9 => h9) (kd := (2, 8)) rfl (x_fr e22) d_WD_inside_17 ?_
    obtain ⟨_, e23, hf⟩ := x_b hf
    obtain ⟨n24, hT25⟩ := x_is_e e23
    obtain ⟨a26, e27, hf⟩ := x_b hf
    refine x_get (C := "WallDamp$Surroundings") (F := F_Surroundings) (N := 9) hx hb hts i_Surroundings hown hK hH hT25 (by decide) rfl 6 (by decide) (hts _ m_113) (fun _ h9 => h9) (kd := (2, 49)) rfl (x_fr e27) d_WD_inside_20 ?_
    refine lv_iload_n hx hb d_WD_inside_23 rfl (lv_at hl 1 rfl) ?_
    refine lv_iload_n hx hb d_WD_inside_24 rfl (lv_at hl 3 rfl) ?_
    obtain ⟨_, e28, hf⟩ := x_b hf
    obtain ⟨n29, hT30, hi31⟩ := x_ix_e e28
    refine x_iast hx hb hK hH hS hT30 0 rfl hi31 d_WD_inside_25 (fun H locs hH hS => ?_)
    obtain ⟨w32, e33, hf⟩ := x_b hf
    have hH := x_nw e33 hH
    cases hf
    refine x_sz0 hS (fun hz => ?_)
    exact x_mono x_MQ_of (W.vret hx hb hr (fun t ht hW => ⟨rfl, hS.F ht, by rw [ht]; exact hz, by rw [ht]; exact hH.weaken (fun _ _ _ => trivial)⟩) hS.2.2 d_WD_inside_26)
theorem c_WD_inside (l : Launch) (hfl : l.flags = pinnedFlags ++ [noTraceFlag]) (D : va_G) (aC : Nat → ClassId) (ad : Nat → Nat) (T : x_T) (nx sz : Nat) (w : x_W) (a0 : Nat) (a1 : Int32) (a2 : Int32) (a3 : Int32) (q : Except Nat (x_W)) (hf : f_WD_inside T w a0 a1 a2 a3 = some q) : x_Met l y_WD_inside ws_WD_inside { frames := 8, cells := x_mc q, slots := x_ms q, locals := 134 } (x_Pt D aC ad T nx sz w [.ref (ad a0), .int a1, .int a2, .int a3]) (x_Qx (α := x_W) D aC ad T nx (fun _ => none) (fun r => r) (x_dom ad nx sz) q) (x_mc q) (x_ms q) (x_dom ad nx sz) :=
  x_metT hfl [(0, .ref (ad a0)), (1, .int a1), (2, .int a2), (3, .int a3)] (by decide) rfl rfl (Nat.le_of_ble_eq_true rfl) m_550 (fun p e s m args below meth c ls C0 hH hl => k_WD_inside C0 w _ a0 a1 a2 a3 hf hH (lv_sub hl [0, 1, 2, 3] rfl))
/-! WallDamp.water(II)I -/
def f_WD_water (T : x_T) (w : x_W) (l0 : Nat) (l1 : Int32) (l2 : Int32) : Option (Except Nat (Int32 × x_W)) :=
  (x_is T l0 0).bind fun _ =>
  (f_WD_cellAt T w l0 l1).bind fun o1 => x_ec o1 fun q3 =>
  (x_is T q3 2).bind fun _ =>
  (x_R w 17 q3).bind fun a11 =>
  (x_is T a11 5).bind fun _ =>
  (f_Material_most T w a11).bind fun q13 =>
  (f_WD_requireWithin T w l2 (0 : Int32) q13).bind fun o18 => x_ec o18 fun q20 =>
  (some ((x_I w 20 q3))).bind fun v22 =>
  (some (x_sJ w 14 l0 ((x_J w 14 l0) + ((l2 - v22).toInt64)))).bind fun w24 =>
  (some (x_sI w24 20 q3 l2)).bind fun w26 =>
  some (.ok (v22, w26))
set_option maxHeartbeats 4000000 in
set_option maxRecDepth 100000 in
theorem k_WD_water {p : Program} {l : Launch} {e : Env} {s : State} {m : MethodId} {args : Array Value} {below : List Frame} {meth : Method} {c : Code} {D : va_G} {aC : Nat → ClassId} {ad : Nat → Nat} {T : x_T} {nx : Nat} {A : Nat → Prop} {q : Except Nat (Int32 × x_W)} (C0 : x_At2 p l s m meth c args "WallDamp" b_WD_water (some (.int)) 5 D aC A) : ∀ (w : x_W) (ls : Array Slot) (l0 : Nat) (l1 : Int32) (l2 : Int32), f_WD_water T w l0 l1 l2 = some q → x_H D x_cl x_FT aC ad T nx A w s.heap → lv_has ls 5 [(0, .ref (ad l0)), (1, .int l1), (2, .int l2)] → W p l e { frames := 8, cells := x_mc q, slots := x_ms q, locals := 133 } s m args below meth c s.heap [] 0 0 (x_MQ below (x_Qx (α := Int32 × x_W) D aC ad T nx (fun r => some (.int r.1)) (fun r => r.2) A q) args s (x_mc q) (x_ms q) A) (F0 m 0 ls []) := by
  obtain ⟨⟨hx, hb, hr, hml, hown, hts, hlocks, hK, hA, hX⟩, hTf, hexc, hfl⟩ := id C0
  intro w ls l0 l1 l2 hf hH hl
  have hS : va_S A s.heap s.heap [] := va_S.rf
  unfold f_WD_water at hf
  refine lv_aload_n hx hb d_WD_water_0 rfl (lv_at hl 0 rfl) ?_
  refine lv_iload_n hx hb d_WD_water_1 rfl (lv_at hl 1 rfl) ?_
  obtain ⟨_, e5, hf⟩ := x_b hf
  obtain ⟨n6, hT7⟩ := x_is_e e5
  obtain ⟨o1, e2, hf⟩ := x_b hf
  cases o1 with
  | error k4 =>
    cases x_ee hf
    exact x_pass (x_runTV (As := [.int l1]) (rest := []) ⟨hx, hb, hml, hown, hts⟩ (c_WD_cellAt l hfl D aC ad T nx s.heap.size w l0 l1 _ e2) (fun _ _ _ _ h => ⟨_, h.choose_spec.1⟩) (cwV 1 hts (x_gV m_504 m_506 ms_3 m_1 m_507) rfl rfl rfl ⟨rfl, pd_WD_cellAt⟩ ⟨Nat.le_of_ble_eq_true rfl, Nat.le_of_ble_eq_true rfl⟩) (x_preVt hH hK hX hTf hT7 (by decide) rfl rfl) rfl rfl hl.1 rfl (lv_room (Nat.le_of_ble_eq_true rfl)) d_WD_water_2 ⟨Nat.le_refl _, Nat.le_refl _⟩) hlocks hexc (fun _ h => h.elim) (fun _ h => by cases h) (fun x st0 t tf h0 hal h ht => ⟨x, rfl, by obtain ⟨x9, e9, h9⟩ := h; cases e9; exact x_excT h0 hal h9 ht⟩)
  | ok q3 =>
    have hf := x_eo hf
    refine x_callP (v := some (.ref (ad q3))) (st1 := [.ref (ad q3)]) (va_runV (As := [.int l1]) (rest := []) ⟨hx, hb, hml, hown, hts⟩ (x_Met.met (c_WD_cellAt l hfl D aC ad T nx s.heap.size w l0 l1 _ e2) (fun _ _ _ _ h => ⟨_, h.1⟩)) (cwV 1 hts (x_gV m_504 m_506 ms_3 m_1 m_507) rfl rfl rfl ⟨rfl, pd_WD_cellAt⟩ ⟨Nat.le_of_ble_eq_true rfl, Nat.le_of_ble_eq_true rfl⟩) (x_preVt hH hK hX hTf hT7 (by decide) rfl rfl) rfl rfl hl.1 rfl (lv_room (Nat.le_of_ble_eq_true rfl)) d_WD_water_2 ⟨Nat.zero_le _, Nat.zero_le _⟩) rfl ?_
    refine lv_astore_n (lv' := [(3, .ref (ad q3)), (0, .ref (ad l0)), (1, .int l1), (2, .int l2)]) hx hb d_WD_water_5 rfl hl (by decide) rfl (fun ls hl => ?_)
    refine lv_iload_n hx hb d_WD_water_6 rfl (lv_at hl 3 rfl) ?_
    refine lv_iconst (v := 0) hx hb d_WD_water_7 (by decide) ?_
    refine lv_aload_n hx hb d_WD_water_8 rfl (lv_at hl 0 rfl) ?_
    obtain ⟨_, e8, hf⟩ := x_b hf
    obtain ⟨n9, hT10⟩ := x_is_e e8
    obtain ⟨a11, e12, hf⟩ := x_b hf
    refine x_get (C := "WallDamp$Cell") (F := F_Cell) (N := 15) hx hb hts i_Cell hown hK hH hT10 (by decide) rfl 7 (by decide) (hts _ m_234) (fun _ h9 => h9) (kd := (2, 17)) rfl (x_fr e12) d_WD_water_9 ?_
    obtain ⟨_, e15, hf⟩ := x_b hf
    obtain ⟨n16, hT17⟩ := x_is_e e15
    obtain ⟨q13, e14, hf⟩ := x_b hf
    refine x_callP (st1 := [.int q13, .int (0 : Int32), .int l2]) (x_runV (As := []) (rest := [.int (0 : Int32), .int l2]) ⟨hx, hb, hml, hown, hts⟩ (c_Material_most l D aC ad T nx s.heap.size w a11 q13 e14) (cwV 0 hts (x_gV m_558 m_559 m_560 m_3 m_561) rfl rfl rfl ⟨rfl, pd_Material_most⟩ ⟨Nat.le_of_ble_eq_true rfl, Nat.le_of_ble_eq_true rfl⟩) hH hK hX hT17 (by decide) rfl rfl rfl hl.1 rfl (lv_room (Nat.le_of_ble_eq_true rfl)) d_WD_water_12 ⟨Nat.zero_le _, Nat.zero_le _⟩) rfl ?_
    obtain ⟨o18, e19, hf⟩ := x_b hf
    cases o18 with
    | error k21 =>
      cases x_ee hf
      exact x_pass (x_runTS (As := [.int l2, .int (0 : Int32), .int q13]) (rest := []) ⟨hx, hb, hml, hown, hts⟩ (c_WD_requireWithin l hfl D aC ad T nx s.heap.size w l2 (0 : Int32) q13 _ e19) (fun _ _ _ _ h => ⟨_, h.choose_spec.1⟩) (va_cwS 3 hts (x_gS m_390 m_391 m_1 m_392) rfl rfl rfl pd_WD_requireWithin ⟨Nat.le_of_ble_eq_true rfl, Nat.le_of_ble_eq_true rfl⟩) (x_preSt hH hK hX hTf) rfl rfl hl.1 rfl (lv_room (Nat.le_of_ble_eq_true rfl)) d_WD_water_15 ⟨Nat.le_refl _, Nat.le_refl _⟩) hlocks hexc (fun _ h => h.elim) (fun _ h => by cases h) (fun x st0 t tf h0 hal h ht => ⟨x, rfl, by obtain ⟨x9, e9, h9⟩ := h; cases e9; exact x_excT h0 hal h9 ht⟩)
    | ok q20 =>
      have hf := x_eo hf
      refine x_callP (v := none) (st1 := []) (va_runS (As := [.int l2, .int (0 : Int32), .int q13]) (rest := []) ⟨hx, hb, hml, hown, hts⟩ (x_Met.met (c_WD_requireWithin l hfl D aC ad T nx s.heap.size w l2 (0 : Int32) q13 _ e19) (fun _ _ _ _ h => ⟨_, h.1⟩)) (va_cwS 3 hts (x_gS m_390 m_391 m_1 m_392) rfl rfl rfl pd_WD_requireWithin ⟨Nat.le_of_ble_eq_true rfl, Nat.le_of_ble_eq_true rfl⟩) (x_preSt hH hK hX hTf) rfl rfl hl.1 rfl (lv_room (Nat.le_of_ble_eq_true rfl)) d_WD_water_15 ⟨Nat.zero_le _, Nat.zero_le _⟩) rfl ?_
      refine lv_aload_n hx hb d_WD_water_18 rfl (lv_at hl 0 rfl) ?_
      refine x_get (C := "WallDamp$Cell") (F := F_Cell) (N := 15) hx hb hts i_Cell hown hK hH hT10 (by decide) rfl 10 (by decide) (hts _ m_243) (fun _ h9 => h9) (kd := (0, 20)) rfl rfl d_WD_water_19 ?_
      obtain ⟨v22, e23, hf⟩ := x_b hf
      refine x_nmi e23 ?_
      refine lv_istore (lv' := [(4, .int v22), (3, .ref (ad q3)), (0, .ref (ad l0)), (1, .int l1), (2, .int l2)]) hx hb d_WD_water_22 hl (by decide) rfl (fun ls hl => ?_)
      refine lv_aload_n hx hb d_WD_water_24 rfl (lv_at hl 2 rfl) ?_
      refine lv_dup hx hb d_WD_water_25 rfl ?_
      refine x_get (C := "WallDamp") (F := F_WD) (N := 8) hx hb hts i_WD hown hK hH hT7 (by decide) rfl 7 (by decide) (hts _ m_352) (fun _ h9 => h9) (kd := (1, 14)) rfl rfl d_WD_water_26 ?_
      refine lv_iload_n hx hb d_WD_water_29 rfl (lv_at hl 4 rfl) ?_
      refine lv_iload hx hb d_WD_water_30 (lv_at hl 0 rfl) ?_
      refine lv_isub hx hb d_WD_water_32 ?_
      refine lv_i2l (v := (l2 - v22).toInt64) hx hb d_WD_water_33 rfl ?_
      refine lv_ladd hx hb d_WD_water_34 ?_
      refine x_put (C := "WallDamp") (F := F_WD) (N := 8) (ty := t_WD 7) (v := .long ((x_J w 14 l0) + ((l2 - v22).toInt64))) (w' := x_sJ w 14 l0 ((x_J w 14 l0) + ((l2 - v22).toInt64))) hx hb hts i_WD t_WD ty_WD n_WD hown hK hH hS hT7 (by decide) rfl rfl 7 (by decide) (hts _ m_352) (fun _ h9 => h9) rfl (ty_WD 7 (by decide)) rfl rfl (x_on_J hT7 (by decide) rfl nd_WD) (fun j hj => x_off_J hj) (fun hh ok => x_ok_J hh ok) d_WD_water_35 (fun H locs hH hS => ?_)
      obtain ⟨w24, e25, hf⟩ := x_b hf
      have hH := x_nw e25 hH
      refine lv_aload_n hx hb d_WD_water_38 rfl (lv_at hl 1 rfl) ?_
      refine lv_iload_n hx hb d_WD_water_39 rfl (lv_at hl 4 rfl) ?_
      refine x_put (C := "WallDamp$Cell") (F := F_Cell) (N := 15) (ty := t_Cell 10) (v := .int l2) (w' := x_sI w24 20 q3 l2) hx hb hts i_Cell t_Cell ty_Cell n_Cell hown hK hH hS hT10 (by decide) rfl rfl 10 (by decide) (hts _ m_243) (fun _ h9 => h9) rfl (ty_Cell 10 (by decide)) rfl rfl (x_on_I hT10 (by decide) rfl nd_Cell) (fun j hj => x_off_I hj) (fun hh ok => x_ok_I hh ok) d_WD_water_40 (fun H locs hH hS => ?_)
      obtain ⟨w26, e27, hf⟩ := x_b hf
      have hH := x_nw e27 hH
      refine lv_iload hx hb d_WD_water_43 (lv_at hl 0 rfl) ?_
      cases hf
      refine x_sz0 hS (fun hz => ?_)
      exact x_mono x_MQ_of (W.iret hx hb hr (fun t ht hW => ⟨rfl, hS.F ht, by rw [ht]; exact hz, by rw [ht]; exact hH.weaken (fun _ _ _ => trivial)⟩) hS.2.2 d_WD_water_45)
theorem c_WD_water (l : Launch) (hfl : l.flags = pinnedFlags ++ [noTraceFlag]) (D : va_G) (aC : Nat → ClassId) (ad : Nat → Nat) (T : x_T) (nx sz : Nat) (w : x_W) (a0 : Nat) (a1 : Int32) (a2 : Int32) (q : Except Nat (Int32 × x_W)) (hf : f_WD_water T w a0 a1 a2 = some q) : x_Met l y_WD_water ws_WD_water { frames := 8, cells := x_mc q, slots := x_ms q, locals := 133 } (x_Pt D aC ad T nx sz w [.ref (ad a0), .int a1, .int a2]) (x_Qx (α := Int32 × x_W) D aC ad T nx (fun r => some (.int r.1)) (fun r => r.2) (x_dom ad nx sz) q) (x_mc q) (x_ms q) (x_dom ad nx sz) :=
  x_metT hfl [(0, .ref (ad a0)), (1, .int a1), (2, .int a2)] (by decide) rfl rfl (Nat.le_of_ble_eq_true rfl) m_557 (fun p e s m args below meth c ls C0 hH hl => k_WD_water C0 w _ a0 a1 a2 hf hH (lv_sub hl [0, 1, 2] rfl))
/-! WallDamp.leak(II)I -/
def f_WD_leak (T : x_T) (w : x_W) (l0 : Nat) (l1 : Int32) (l2 : Int32) : Option (Except Nat (Int32 × x_W)) :=
  (x_is T l0 0).bind fun _ =>
  (f_WD_cellAt T w l0 l1).bind fun o1 => x_ec o1 fun q3 =>
  (f_WD_requireWithin T w l2 (0 : Int32) (1000 : Int32)).bind fun o8 => x_ec o8 fun q10 =>
  (x_is T q3 2).bind fun _ =>
  (some ((x_I w 19 q3))).bind fun v15 =>
  (some (x_sI w 19 q3 l2)).bind fun w17 =>
  some (.ok (v15, w17))
set_option maxHeartbeats 4000000 in
set_option maxRecDepth 100000 in
theorem k_WD_leak {p : Program} {l : Launch} {e : Env} {s : State} {m : MethodId} {args : Array Value} {below : List Frame} {meth : Method} {c : Code} {D : va_G} {aC : Nat → ClassId} {ad : Nat → Nat} {T : x_T} {nx : Nat} {A : Nat → Prop} {q : Except Nat (Int32 × x_W)} (C0 : x_At2 p l s m meth c args "WallDamp" b_WD_leak (some (.int)) 5 D aC A) : ∀ (w : x_W) (ls : Array Slot) (l0 : Nat) (l1 : Int32) (l2 : Int32), f_WD_leak T w l0 l1 l2 = some q → x_H D x_cl x_FT aC ad T nx A w s.heap → lv_has ls 5 [(0, .ref (ad l0)), (1, .int l1), (2, .int l2)] → W p l e { frames := 8, cells := x_mc q, slots := x_ms q, locals := 133 } s m args below meth c s.heap [] 0 0 (x_MQ below (x_Qx (α := Int32 × x_W) D aC ad T nx (fun r => some (.int r.1)) (fun r => r.2) A q) args s (x_mc q) (x_ms q) A) (F0 m 0 ls []) := by
  obtain ⟨⟨hx, hb, hr, hml, hown, hts, hlocks, hK, hA, hX⟩, hTf, hexc, hfl⟩ := id C0
  intro w ls l0 l1 l2 hf hH hl
  have hS : va_S A s.heap s.heap [] := va_S.rf
  unfold f_WD_leak at hf
  refine lv_aload_n hx hb d_WD_leak_0 rfl (lv_at hl 0 rfl) ?_
  refine lv_iload_n hx hb d_WD_leak_1 rfl (lv_at hl 1 rfl) ?_
  obtain ⟨_, e5, hf⟩ := x_b hf
  obtain ⟨n6, hT7⟩ := x_is_e e5
  obtain ⟨o1, e2, hf⟩ := x_b hf
  cases o1 with
  | error k4 =>
    cases x_ee hf
    exact x_pass (x_runTV (As := [.int l1]) (rest := []) ⟨hx, hb, hml, hown, hts⟩ (c_WD_cellAt l hfl D aC ad T nx s.heap.size w l0 l1 _ e2) (fun _ _ _ _ h => ⟨_, h.choose_spec.1⟩) (cwV 1 hts (x_gV m_504 m_506 ms_3 m_1 m_507) rfl rfl rfl ⟨rfl, pd_WD_cellAt⟩ ⟨Nat.le_of_ble_eq_true rfl, Nat.le_of_ble_eq_true rfl⟩) (x_preVt hH hK hX hTf hT7 (by decide) rfl rfl) rfl rfl hl.1 rfl (lv_room (Nat.le_of_ble_eq_true rfl)) d_WD_leak_2 ⟨Nat.le_refl _, Nat.le_refl _⟩) hlocks hexc (fun _ h => h.elim) (fun _ h => by cases h) (fun x st0 t tf h0 hal h ht => ⟨x, rfl, by obtain ⟨x9, e9, h9⟩ := h; cases e9; exact x_excT h0 hal h9 ht⟩)
  | ok q3 =>
    have hf := x_eo hf
    refine x_callP (v := some (.ref (ad q3))) (st1 := [.ref (ad q3)]) (va_runV (As := [.int l1]) (rest := []) ⟨hx, hb, hml, hown, hts⟩ (x_Met.met (c_WD_cellAt l hfl D aC ad T nx s.heap.size w l0 l1 _ e2) (fun _ _ _ _ h => ⟨_, h.1⟩)) (cwV 1 hts (x_gV m_504 m_506 ms_3 m_1 m_507) rfl rfl rfl ⟨rfl, pd_WD_cellAt⟩ ⟨Nat.le_of_ble_eq_true rfl, Nat.le_of_ble_eq_true rfl⟩) (x_preVt hH hK hX hTf hT7 (by decide) rfl rfl) rfl rfl hl.1 rfl (lv_room (Nat.le_of_ble_eq_true rfl)) d_WD_leak_2 ⟨Nat.zero_le _, Nat.zero_le _⟩) rfl ?_
    refine lv_astore_n (lv' := [(3, .ref (ad q3)), (0, .ref (ad l0)), (1, .int l1), (2, .int l2)]) hx hb d_WD_leak_5 rfl hl (by decide) rfl (fun ls hl => ?_)
    refine lv_iload_n hx hb d_WD_leak_6 rfl (lv_at hl 3 rfl) ?_
    refine lv_iconst (v := 0) hx hb d_WD_leak_7 (by decide) ?_
    refine lv_sipush (v := 1000) hx hb d_WD_leak_8 (by decide) ?_
    obtain ⟨o8, e9, hf⟩ := x_b hf
    cases o8 with
    | error k11 =>
      cases x_ee hf
      exact x_pass (x_runTS (As := [.int l2, .int (0 : Int32), .int (1000 : Int32)]) (rest := []) ⟨hx, hb, hml, hown, hts⟩ (c_WD_requireWithin l hfl D aC ad T nx s.heap.size w l2 (0 : Int32) (1000 : Int32) _ e9) (fun _ _ _ _ h => ⟨_, h.choose_spec.1⟩) (va_cwS 3 hts (x_gS m_390 m_391 m_1 m_392) rfl rfl rfl pd_WD_requireWithin ⟨Nat.le_of_ble_eq_true rfl, Nat.le_of_ble_eq_true rfl⟩) (x_preSt hH hK hX hTf) rfl rfl hl.1 rfl (lv_room (Nat.le_of_ble_eq_true rfl)) d_WD_leak_11 ⟨Nat.le_refl _, Nat.le_refl _⟩) hlocks hexc (fun _ h => h.elim) (fun _ h => by cases h) (fun x st0 t tf h0 hal h ht => ⟨x, rfl, by obtain ⟨x9, e9, h9⟩ := h; cases e9; exact x_excT h0 hal h9 ht⟩)
    | ok q10 =>
      have hf := x_eo hf
      refine x_callP (v := none) (st1 := []) (va_runS (As := [.int l2, .int (0 : Int32), .int (1000 : Int32)]) (rest := []) ⟨hx, hb, hml, hown, hts⟩ (x_Met.met (c_WD_requireWithin l hfl D aC ad T nx s.heap.size w l2 (0 : Int32) (1000 : Int32) _ e9) (fun _ _ _ _ h => ⟨_, h.1⟩)) (va_cwS 3 hts (x_gS m_390 m_391 m_1 m_392) rfl rfl rfl pd_WD_requireWithin ⟨Nat.le_of_ble_eq_true rfl, Nat.le_of_ble_eq_true rfl⟩) (x_preSt hH hK hX hTf) rfl rfl hl.1 rfl (lv_room (Nat.le_of_ble_eq_true rfl)) d_WD_leak_11 ⟨Nat.zero_le _, Nat.zero_le _⟩) rfl ?_
      refine lv_aload_n hx hb d_WD_leak_14 rfl (lv_at hl 0 rfl) ?_
      obtain ⟨_, e12, hf⟩ := x_b hf
      obtain ⟨n13, hT14⟩ := x_is_e e12
      refine x_get (C := "WallDamp$Cell") (F := F_Cell) (N := 15) hx hb hts i_Cell hown hK hH hT14 (by decide) rfl 9 (by decide) (hts _ m_240) (fun _ h9 => h9) (kd := (0, 19)) rfl rfl d_WD_leak_15 ?_
      obtain ⟨v15, e16, hf⟩ := x_b hf
      refine x_nmi e16 ?_
      refine lv_istore (lv' := [(4, .int v15), (3, .ref (ad q3)), (0, .ref (ad l0)), (1, .int l1), (2, .int l2)]) hx hb d_WD_leak_18 hl (by decide) rfl (fun ls hl => ?_)
      refine lv_aload_n hx hb d_WD_leak_20 rfl (lv_at hl 1 rfl) ?_
      refine lv_iload_n hx hb d_WD_leak_21 rfl (lv_at hl 4 rfl) ?_
      refine x_put (C := "WallDamp$Cell") (F := F_Cell) (N := 15) (ty := t_Cell 9) (v := .int l2) (w' := x_sI w 19 q3 l2) hx hb hts i_Cell t_Cell ty_Cell n_Cell hown hK hH hS hT14 (by decide) rfl rfl 9 (by decide) (hts _ m_240) (fun _ h9 => h9) rfl (ty_Cell 9 (by decide)) rfl rfl (x_on_I hT14 (by decide) rfl nd_Cell) (fun j hj => x_off_I hj) (fun hh ok => x_ok_I hh ok) d_WD_leak_22 (fun H locs hH hS => ?_)
      obtain ⟨w17, e18, hf⟩ := x_b hf
      have hH := x_nw e18 hH
      refine lv_iload hx hb d_WD_leak_25 (lv_at hl 0 rfl) ?_
      cases hf
      refine x_sz0 hS (fun hz => ?_)
      exact x_mono x_MQ_of (W.iret hx hb hr (fun t ht hW => ⟨rfl, hS.F ht, by rw [ht]; exact hz, by rw [ht]; exact hH.weaken (fun _ _ _ => trivial)⟩) hS.2.2 d_WD_leak_27)
theorem c_WD_leak (l : Launch) (hfl : l.flags = pinnedFlags ++ [noTraceFlag]) (D : va_G) (aC : Nat → ClassId) (ad : Nat → Nat) (T : x_T) (nx sz : Nat) (w : x_W) (a0 : Nat) (a1 : Int32) (a2 : Int32) (q : Except Nat (Int32 × x_W)) (hf : f_WD_leak T w a0 a1 a2 = some q) : x_Met l y_WD_leak ws_WD_leak { frames := 8, cells := x_mc q, slots := x_ms q, locals := 133 } (x_Pt D aC ad T nx sz w [.ref (ad a0), .int a1, .int a2]) (x_Qx (α := Int32 × x_W) D aC ad T nx (fun r => some (.int r.1)) (fun r => r.2) (x_dom ad nx sz) q) (x_mc q) (x_ms q) (x_dom ad nx sz) :=
  x_metT hfl [(0, .ref (ad a0)), (1, .int a1), (2, .int a2)] (by decide) rfl rfl (Nat.le_of_ble_eq_true rfl) m_572 (fun p e s m args below meth c ls C0 hH hl => k_WD_leak C0 w _ a0 a1 a2 hf hH (lv_sub hl [0, 1, 2] rfl))
/-! WallDamp.growth(IIII)I -/
def f_WD_growth (T : x_T) (w : x_W) (l0 : Nat) (l1 : Int32) (l2 : Int32) (l3 : Int32) (l4 : Int32) : Option (Except Nat (Int32 × x_W)) :=
  (f_WD_requireWithin T w l1 (0 : Int32) (10000 : Int32)).bind fun o1 => x_ec o1 fun q3 =>
  (f_WD_requireWithin T w l3 (-5000) (10000 : Int32)).bind fun o5 => x_ec o5 fun q7 =>
  (f_WD_requireWithin T w l2 (-5000) l3).bind fun o9 => x_ec o9 fun q11 =>
  (f_WD_requireWithin T w l4 (1 : Int32) (1000 : Int32)).bind fun o13 => x_ec o13 fun q15 =>
  (x_is T l0 0).bind fun _ =>
  (x_R w 9 l0).bind fun a20 =>
  (x_is T a20 6).bind fun _ =>
  (f_MouldRows_hasPlace T w a20).bind fun q22 =>
  if q22 = 0 then
    (some (.error 2))
  else
    ((x_R w 9 l0).bind fun a28 =>
    (x_is T a28 6).bind fun _ =>
    (f_MouldRows_add T w a28 l1 l2 l3 l4).bind fun q30 =>
    some (.ok (q30.1, q30.2)))
set_option maxHeartbeats 4000000 in
set_option maxRecDepth 100000 in
theorem k_WD_growth {p : Program} {l : Launch} {e : Env} {s : State} {m : MethodId} {args : Array Value} {below : List Frame} {meth : Method} {c : Code} {D : va_G} {aC : Nat → ClassId} {ad : Nat → Nat} {T : x_T} {nx : Nat} {A : Nat → Prop} {q : Except Nat (Int32 × x_W)} (C0 : x_At2 p l s m meth c args "WallDamp" b_WD_growth (some (.int)) 5 D aC A) : ∀ (w : x_W) (ls : Array Slot) (l0 : Nat) (l1 : Int32) (l2 : Int32) (l3 : Int32) (l4 : Int32), f_WD_growth T w l0 l1 l2 l3 l4 = some q → x_H D x_cl x_FT aC ad T nx A w s.heap → lv_has ls 5 [(0, .ref (ad l0)), (1, .int l1), (2, .int l2), (3, .int l3), (4, .int l4)] → W p l e { frames := 7, cells := x_mc q, slots := x_ms q, locals := 112 } s m args below meth c s.heap [] 0 0 (x_MQ below (x_Qx (α := Int32 × x_W) D aC ad T nx (fun r => some (.int r.1)) (fun r => r.2) A q) args s (x_mc q) (x_ms q) A) (F0 m 0 ls []) := by
  obtain ⟨⟨hx, hb, hr, hml, hown, hts, hlocks, hK, hA, hX⟩, hTf, hexc, hfl⟩ := id C0
  intro w ls l0 l1 l2 l3 l4 hf hH hl
  have hS : va_S A s.heap s.heap [] := va_S.rf
  unfold f_WD_growth at hf
  refine lv_iload_n hx hb d_WD_growth_0 rfl (lv_at hl 1 rfl) ?_
  refine lv_iconst (v := 0) hx hb d_WD_growth_1 (by decide) ?_
  refine lv_sipush (v := 10000) hx hb d_WD_growth_2 (by decide) ?_
  obtain ⟨o1, e2, hf⟩ := x_b hf
  cases o1 with
  | error k4 =>
    cases x_ee hf
    exact x_pass (x_runTS (As := [.int l1, .int (0 : Int32), .int (10000 : Int32)]) (rest := []) ⟨hx, hb, hml, hown, hts⟩ (c_WD_requireWithin l hfl D aC ad T nx s.heap.size w l1 (0 : Int32) (10000 : Int32) _ e2) (fun _ _ _ _ h => ⟨_, h.choose_spec.1⟩) (va_cwS 3 hts (x_gS m_390 m_391 m_1 m_392) rfl rfl rfl pd_WD_requireWithin ⟨Nat.le_of_ble_eq_true rfl, Nat.le_of_ble_eq_true rfl⟩) (x_preSt hH hK hX hTf) rfl rfl hl.1 rfl (lv_room (Nat.le_of_ble_eq_true rfl)) d_WD_growth_5 ⟨Nat.le_refl _, Nat.le_refl _⟩) hlocks hexc (fun _ h => h.elim) (fun _ h => by cases h) (fun x st0 t tf h0 hal h ht => ⟨x, rfl, by obtain ⟨x9, e9, h9⟩ := h; cases e9; exact x_excT h0 hal h9 ht⟩)
  | ok q3 =>
    have hf := x_eo hf
    refine x_callP (v := none) (st1 := []) (va_runS (As := [.int l1, .int (0 : Int32), .int (10000 : Int32)]) (rest := []) ⟨hx, hb, hml, hown, hts⟩ (x_Met.met (c_WD_requireWithin l hfl D aC ad T nx s.heap.size w l1 (0 : Int32) (10000 : Int32) _ e2) (fun _ _ _ _ h => ⟨_, h.1⟩)) (va_cwS 3 hts (x_gS m_390 m_391 m_1 m_392) rfl rfl rfl pd_WD_requireWithin ⟨Nat.le_of_ble_eq_true rfl, Nat.le_of_ble_eq_true rfl⟩) (x_preSt hH hK hX hTf) rfl rfl hl.1 rfl (lv_room (Nat.le_of_ble_eq_true rfl)) d_WD_growth_5 ⟨Nat.zero_le _, Nat.zero_le _⟩) rfl ?_
    refine lv_iload_n hx hb d_WD_growth_8 rfl (lv_at hl 3 rfl) ?_
    refine lv_sipush (v := (-5000)) hx hb d_WD_growth_9 (by decide) ?_
    refine lv_sipush (v := 10000) hx hb d_WD_growth_12 (by decide) ?_
    obtain ⟨o5, e6, hf⟩ := x_b hf
    cases o5 with
    | error k8 =>
      cases x_ee hf
      exact x_pass (x_runTS (As := [.int l3, .int (-5000), .int (10000 : Int32)]) (rest := []) ⟨hx, hb, hml, hown, hts⟩ (c_WD_requireWithin l hfl D aC ad T nx s.heap.size w l3 (-5000) (10000 : Int32) _ e6) (fun _ _ _ _ h => ⟨_, h.choose_spec.1⟩) (va_cwS 3 hts (x_gS m_390 m_391 m_1 m_392) rfl rfl rfl pd_WD_requireWithin ⟨Nat.le_of_ble_eq_true rfl, Nat.le_of_ble_eq_true rfl⟩) (x_preSt hH hK hX hTf) rfl rfl hl.1 rfl (lv_room (Nat.le_of_ble_eq_true rfl)) d_WD_growth_15 ⟨Nat.le_refl _, Nat.le_refl _⟩) hlocks hexc (fun _ h => h.elim) (fun _ h => by cases h) (fun x st0 t tf h0 hal h ht => ⟨x, rfl, by obtain ⟨x9, e9, h9⟩ := h; cases e9; exact x_excT h0 hal h9 ht⟩)
    | ok q7 =>
      have hf := x_eo hf
      refine x_callP (v := none) (st1 := []) (va_runS (As := [.int l3, .int (-5000), .int (10000 : Int32)]) (rest := []) ⟨hx, hb, hml, hown, hts⟩ (x_Met.met (c_WD_requireWithin l hfl D aC ad T nx s.heap.size w l3 (-5000) (10000 : Int32) _ e6) (fun _ _ _ _ h => ⟨_, h.1⟩)) (va_cwS 3 hts (x_gS m_390 m_391 m_1 m_392) rfl rfl rfl pd_WD_requireWithin ⟨Nat.le_of_ble_eq_true rfl, Nat.le_of_ble_eq_true rfl⟩) (x_preSt hH hK hX hTf) rfl rfl hl.1 rfl (lv_room (Nat.le_of_ble_eq_true rfl)) d_WD_growth_15 ⟨Nat.zero_le _, Nat.zero_le _⟩) rfl ?_
      refine lv_iload_n hx hb d_WD_growth_18 rfl (lv_at hl 2 rfl) ?_
      refine lv_sipush (v := (-5000)) hx hb d_WD_growth_19 (by decide) ?_
      refine lv_iload_n hx hb d_WD_growth_22 rfl (lv_at hl 3 rfl) ?_
      obtain ⟨o9, e10, hf⟩ := x_b hf
      cases o9 with
      | error k12 =>
        cases x_ee hf
        exact x_pass (x_runTS (As := [.int l2, .int (-5000), .int l3]) (rest := []) ⟨hx, hb, hml, hown, hts⟩ (c_WD_requireWithin l hfl D aC ad T nx s.heap.size w l2 (-5000) l3 _ e10) (fun _ _ _ _ h => ⟨_, h.choose_spec.1⟩) (va_cwS 3 hts (x_gS m_390 m_391 m_1 m_392) rfl rfl rfl pd_WD_requireWithin ⟨Nat.le_of_ble_eq_true rfl, Nat.le_of_ble_eq_true rfl⟩) (x_preSt hH hK hX hTf) rfl rfl hl.1 rfl (lv_room (Nat.le_of_ble_eq_true rfl)) d_WD_growth_23 ⟨Nat.le_refl _, Nat.le_refl _⟩) hlocks hexc (fun _ h => h.elim) (fun _ h => by cases h) (fun x st0 t tf h0 hal h ht => ⟨x, rfl, by obtain ⟨x9, e9, h9⟩ := h; cases e9; exact x_excT h0 hal h9 ht⟩)
      | ok q11 =>
        have hf := x_eo hf
        refine x_callP (v := none) (st1 := []) (va_runS (As := [.int l2, .int (-5000), .int l3]) (rest := []) ⟨hx, hb, hml, hown, hts⟩ (x_Met.met (c_WD_requireWithin l hfl D aC ad T nx s.heap.size w l2 (-5000) l3 _ e10) (fun _ _ _ _ h => ⟨_, h.1⟩)) (va_cwS 3 hts (x_gS m_390 m_391 m_1 m_392) rfl rfl rfl pd_WD_requireWithin ⟨Nat.le_of_ble_eq_true rfl, Nat.le_of_ble_eq_true rfl⟩) (x_preSt hH hK hX hTf) rfl rfl hl.1 rfl (lv_room (Nat.le_of_ble_eq_true rfl)) d_WD_growth_23 ⟨Nat.zero_le _, Nat.zero_le _⟩) rfl ?_
        refine lv_iload hx hb d_WD_growth_26 (lv_at hl 4 rfl) ?_
        refine lv_iconst (v := 1) hx hb d_WD_growth_28 (by decide) ?_
        refine lv_sipush (v := 1000) hx hb d_WD_growth_29 (by decide) ?_
        obtain ⟨o13, e14, hf⟩ := x_b hf
        cases o13 with
        | error k16 =>
          cases x_ee hf
          exact x_pass (x_runTS (As := [.int l4, .int (1 : Int32), .int (1000 : Int32)]) (rest := []) ⟨hx, hb, hml, hown, hts⟩ (c_WD_requireWithin l hfl D aC ad T nx s.heap.size w l4 (1 : Int32) (1000 : Int32) _ e14) (fun _ _ _ _ h => ⟨_, h.choose_spec.1⟩) (va_cwS 3 hts (x_gS m_390 m_391 m_1 m_392) rfl rfl rfl pd_WD_requireWithin ⟨Nat.le_of_ble_eq_true rfl, Nat.le_of_ble_eq_true rfl⟩) (x_preSt hH hK hX hTf) rfl rfl hl.1 rfl (lv_room (Nat.le_of_ble_eq_true rfl)) d_WD_growth_32 ⟨Nat.le_refl _, Nat.le_refl _⟩) hlocks hexc (fun _ h => h.elim) (fun _ h => by cases h) (fun x st0 t tf h0 hal h ht => ⟨x, rfl, by obtain ⟨x9, e9, h9⟩ := h; cases e9; exact x_excT h0 hal h9 ht⟩)
        | ok q15 =>
          have hf := x_eo hf
          refine x_callP (v := none) (st1 := []) (va_runS (As := [.int l4, .int (1 : Int32), .int (1000 : Int32)]) (rest := []) ⟨hx, hb, hml, hown, hts⟩ (x_Met.met (c_WD_requireWithin l hfl D aC ad T nx s.heap.size w l4 (1 : Int32) (1000 : Int32) _ e14) (fun _ _ _ _ h => ⟨_, h.1⟩)) (va_cwS 3 hts (x_gS m_390 m_391 m_1 m_392) rfl rfl rfl pd_WD_requireWithin ⟨Nat.le_of_ble_eq_true rfl, Nat.le_of_ble_eq_true rfl⟩) (x_preSt hH hK hX hTf) rfl rfl hl.1 rfl (lv_room (Nat.le_of_ble_eq_true rfl)) d_WD_growth_32 ⟨Nat.zero_le _, Nat.zero_le _⟩) rfl ?_
          refine lv_aload_n hx hb d_WD_growth_35 rfl (lv_at hl 0 rfl) ?_
          obtain ⟨_, e17, hf⟩ := x_b hf
          obtain ⟨n18, hT19⟩ := x_is_e e17
          obtain ⟨a20, e21, hf⟩ := x_b hf
          refine x_get (C := "WallDamp") (F := F_WD) (N := 8) hx hb hts i_WD hown hK hH hT19 (by decide) rfl 2 (by decide) (hts _ m_347) (fun _ h9 => h9) (kd := (2, 9)) rfl (x_fr e21) d_WD_growth_36 ?_
          obtain ⟨_, e24, hf⟩ := x_b hf
          obtain ⟨n25, hT26⟩ := x_is_e e24
          obtain ⟨q22, e23, hf⟩ := x_b hf
          refine x_callP (st1 := [.int q22]) (x_runV (As := []) (rest := []) ⟨hx, hb, hml, hown, hts⟩ (c_MouldRows_hasPlace l D aC ad T nx s.heap.size w a20 q22 e23) (cwV 0 hts (x_gV m_580 m_581 m_582 m_6 m_583) rfl rfl rfl ⟨rfl, pd_MouldRows_hasPlace⟩ ⟨Nat.le_of_ble_eq_true rfl, Nat.le_of_ble_eq_true rfl⟩) hH hK hX hT26 (by decide) rfl rfl rfl hl.1 rfl (lv_room (Nat.le_of_ble_eq_true rfl)) d_WD_growth_39 ⟨Nat.zero_le _, Nat.zero_le _⟩) rfl ?_
          refine lv_if_ne (tgt := 55) hx hb d_WD_growth_42 (by decide) (fun c27 => ?_) (fun c27 => ?_)
          · have hf := x_if hf c27
            refine lv_aload_n hx hb d_WD_growth_55 rfl (lv_at hl 0 rfl) ?_
            obtain ⟨a28, e29, hf⟩ := x_b hf
            refine x_get (C := "WallDamp") (F := F_WD) (N := 8) hx hb hts i_WD hown hK hH hT19 (by decide) rfl 2 (by decide) (hts _ m_347) (fun _ h9 => h9) (kd := (2, 9)) rfl (x_fr e29) d_WD_growth_56 ?_
            refine lv_iload_n hx hb d_WD_growth_59 rfl (lv_at hl 1 rfl) ?_
            refine lv_iload_n hx hb d_WD_growth_60 rfl (lv_at hl 2 rfl) ?_
            refine lv_iload_n hx hb d_WD_growth_61 rfl (lv_at hl 3 rfl) ?_
            refine lv_iload hx hb d_WD_growth_62 (lv_at hl 4 rfl) ?_
            obtain ⟨_, e32, hf⟩ := x_b hf
            obtain ⟨n33, hT34⟩ := x_is_e e32
            obtain ⟨q30, e31, hf⟩ := x_b hf
            refine x_call (st1 := [.int q30.1]) (x_runV (As := [.int l1, .int l2, .int l3, .int l4]) (rest := []) ⟨hx, hb, hml, hown, hts⟩ (c_MouldRows_add l D aC ad T nx s.heap.size w a28 l1 l2 l3 l4 q30 e31) (cwV 4 hts (x_gV m_585 m_586 m_587 m_6 m_588) rfl rfl rfl ⟨rfl, pd_MouldRows_add⟩ ⟨Nat.le_of_ble_eq_true rfl, Nat.le_of_ble_eq_true rfl⟩) hH hK hX hT34 (by decide) rfl rfl rfl hl.1 rfl (lv_room (Nat.le_of_ble_eq_true rfl)) d_WD_growth_64 ⟨Nat.zero_le _, Nat.zero_le _⟩) rfl hH hA hS (fun H locs hH hS => ?_)
            cases hf
            refine x_sz0 hS (fun hz => ?_)
            exact x_mono x_MQ_of (W.iret hx hb hr (fun t ht hW => ⟨rfl, hS.F ht, by rw [ht]; exact hz, by rw [ht]; exact hH.weaken (fun _ _ _ => trivial)⟩) hS.2.2 d_WD_growth_67)
          · have hf := x_it hf c27
            cases hf
            exact x_throw hx hb hml hl.1 hown hlocks hexc hfl hTf (k := 2) (iS := 164) (tx := "all rows of mould are told") (by simp [x_str]) (by decide) (at_ISE_166 hts hTf) (hts _ m_465) (hts _ m_466) (hts _ m_18) (by decide) (by decide) (Nat.le_refl _) (Nat.le_refl _) d_WD_growth_45 d_WD_growth_48 d_WD_growth_49 d_WD_growth_51 d_WD_growth_54 (fun x t h => ⟨x, rfl, h⟩)
theorem c_WD_growth (l : Launch) (hfl : l.flags = pinnedFlags ++ [noTraceFlag]) (D : va_G) (aC : Nat → ClassId) (ad : Nat → Nat) (T : x_T) (nx sz : Nat) (w : x_W) (a0 : Nat) (a1 : Int32) (a2 : Int32) (a3 : Int32) (a4 : Int32) (q : Except Nat (Int32 × x_W)) (hf : f_WD_growth T w a0 a1 a2 a3 a4 = some q) : x_Met l y_WD_growth ws_WD_growth { frames := 7, cells := x_mc q, slots := x_ms q, locals := 112 } (x_Pt D aC ad T nx sz w [.ref (ad a0), .int a1, .int a2, .int a3, .int a4]) (x_Qx (α := Int32 × x_W) D aC ad T nx (fun r => some (.int r.1)) (fun r => r.2) (x_dom ad nx sz) q) (x_mc q) (x_ms q) (x_dom ad nx sz) :=
  x_metT hfl [(0, .ref (ad a0)), (1, .int a1), (2, .int a2), (3, .int a3), (4, .int a4)] (by decide) rfl rfl (Nat.le_of_ble_eq_true rfl) m_579 (fun p e s m args below meth c ls C0 hH hl => k_WD_growth C0 w _ a0 a1 a2 a3 a4 hf hH (lv_sub hl [0, 1, 2, 3, 4] rfl))
/-! WallDamp.run(I)I -/
def f_WD_run_32 (T : x_T) : Nat → x_W → Nat → Int32 → Int32 → Option (Except Nat (Int32 × x_W))
  | 0, _, _, _, _ => none
  | n + 1, w, l0, l1, l2 =>
    if l1 ≤ l2 then
      ((x_is T l0 0).bind fun _ =>
      some (.ok ((x_I w 12 l0), w)))
    else
      ((x_is T l0 0).bind fun _ =>
      (f_WD_passHour T w l0).bind fun q5 =>
      f_WD_run_32 T n q5 l0 l1 (l2 + 1))
def f_WD_run (T : x_T) (w : x_W) (l0 : Nat) (l1 : Int32) : Option (Except Nat (Int32 × x_W)) :=
  (f_WD_requireWithin T w l1 (1 : Int32) (240 : Int32)).bind fun o1 => x_ec o1 fun q3 =>
  (x_is T l0 0).bind fun _ =>
  if ((x_I w 12 l0) + l1) ≤ (10000 : Int32) then
    (f_WD_run_32 T 1000 w l0 l1 (0 : Int32))
  else
    (some (.error 2))
set_option maxHeartbeats 4000000 in
set_option maxRecDepth 100000 in
theorem k_WD_run_32 {p : Program} {l : Launch} {e : Env} {s : State} {m : MethodId} {args : Array Value} {below : List Frame} {meth : Method} {c : Code} {D : va_G} {aC : Nat → ClassId} {ad : Nat → Nat} {T : x_T} {nx : Nat} {A : Nat → Prop} {q : Except Nat (Int32 × x_W)} (C0 : x_At2 p l s m meth c args "WallDamp" b_WD_run (some (.int)) 3 D aC A) : ∀ (n : Nat), ∀ (w : x_W) (H : Heap) (locs : List Loc) (ls : Array Slot) (l0 : Nat) (l1 : Int32) (l2 : Int32), f_WD_run_32 T n w l0 l1 l2 = some q → x_H D x_cl x_FT aC ad T nx A w H → va_S A s.heap H locs → lv_has ls 3 [(0, .ref (ad l0)), (1, .int l1), (2, .int l2)] → W p l e { frames := 7, cells := x_mc q, slots := x_ms q, locals := 116 } s m args below meth c H locs 0 0 (x_MQ below (x_Qx (α := Int32 × x_W) D aC ad T nx (fun r => some (.int r.1)) (fun r => r.2) A q) args s (x_mc q) (x_ms q) A) (F0 m 32 ls []) := by
  obtain ⟨⟨hx, hb, hr, hml, hown, hts, hlocks, hK, hA, hX⟩, hTf, hexc, hfl⟩ := id C0
  intro n
  induction n with
  | zero => intro w H locs ls l0 l1 l2 hf; cases (show none = some q from hf)
  | succ n ih =>
    intro w H locs ls l0 l1 l2 hf hH hS hl
    unfold f_WD_run_32 at hf
    refine lv_iload_n hx hb d_WD_run_32 rfl (lv_at hl 2 rfl) ?_
    refine lv_iload_n hx hb d_WD_run_33 rfl (lv_at hl 1 rfl) ?_
    refine lv_icmp_ge (tgt := 47) hx hb d_WD_run_34 (by decide) (fun c1 => ?_) (fun c1 => ?_)
    · have hf := x_it hf c1
      refine lv_aload_n hx hb d_WD_run_47 rfl (lv_at hl 0 rfl) ?_
      obtain ⟨_, e2, hf⟩ := x_b hf
      obtain ⟨n3, hT4⟩ := x_is_e e2
      refine x_get (C := "WallDamp") (F := F_WD) (N := 8) hx hb hts i_WD hown hK hH hT4 (by decide) rfl 5 (by decide) (hts _ m_350) (fun _ h9 => h9) (kd := (0, 12)) rfl rfl d_WD_run_48 ?_
      cases hf
      refine x_sz0 hS (fun hz => ?_)
      exact x_mono x_MQ_of (W.iret hx hb hr (fun t ht hW => ⟨rfl, hS.F ht, by rw [ht]; exact hz, by rw [ht]; exact hH.weaken (fun _ _ _ => trivial)⟩) hS.2.2 d_WD_run_51)
    · have hf := x_if hf c1
      refine lv_aload_n hx hb d_WD_run_37 rfl (lv_at hl 0 rfl) ?_
      obtain ⟨_, e7, hf⟩ := x_b hf
      obtain ⟨n8, hT9⟩ := x_is_e e7
      obtain ⟨q5, e6, hf⟩ := x_b hf
      refine x_call (st1 := []) (x_runV (As := []) (rest := []) ⟨hx, hb, hml, hown, hts⟩ (c_WD_passHour l D aC ad T nx H.size w l0 q5 e6) (cwV 0 hts (x_gV m_597 m_599 ms_4 m_1 m_600) rfl rfl rfl ⟨rfl, pd_WD_passHour⟩ ⟨Nat.le_of_ble_eq_true rfl, Nat.le_of_ble_eq_true rfl⟩) hH hK hX hT9 (by decide) rfl rfl rfl hl.1 rfl (lv_room (Nat.le_of_ble_eq_true rfl)) d_WD_run_38 ⟨Nat.zero_le _, Nat.zero_le _⟩) rfl hH hA hS (fun H locs hH hS => ?_)
      refine lv_iinc (v := (l2 + 1)) (lv' := [(2, .int (l2 + 1)), (0, .ref (ad l0)), (1, .int l1)]) hx hb d_WD_run_41 hl (k := 2) rfl rfl (by decide) rfl (fun ls hl => ?_)
      refine lv_goto (tgt := 32) hx hb d_WD_run_44 (by decide) ?_
      exact ih q5 _ _ _ l0 l1 (l2 + 1) hf hH hS (lv_sub hl [1, 2, 0] rfl)
set_option maxHeartbeats 4000000 in
set_option maxRecDepth 100000 in
theorem k_WD_run {p : Program} {l : Launch} {e : Env} {s : State} {m : MethodId} {args : Array Value} {below : List Frame} {meth : Method} {c : Code} {D : va_G} {aC : Nat → ClassId} {ad : Nat → Nat} {T : x_T} {nx : Nat} {A : Nat → Prop} {q : Except Nat (Int32 × x_W)} (C0 : x_At2 p l s m meth c args "WallDamp" b_WD_run (some (.int)) 3 D aC A) : ∀ (w : x_W) (ls : Array Slot) (l0 : Nat) (l1 : Int32), f_WD_run T w l0 l1 = some q → x_H D x_cl x_FT aC ad T nx A w s.heap → lv_has ls 3 [(0, .ref (ad l0)), (1, .int l1)] → W p l e { frames := 7, cells := x_mc q, slots := x_ms q, locals := 116 } s m args below meth c s.heap [] 0 0 (x_MQ below (x_Qx (α := Int32 × x_W) D aC ad T nx (fun r => some (.int r.1)) (fun r => r.2) A q) args s (x_mc q) (x_ms q) A) (F0 m 0 ls []) := by
  obtain ⟨⟨hx, hb, hr, hml, hown, hts, hlocks, hK, hA, hX⟩, hTf, hexc, hfl⟩ := id C0
  intro w ls l0 l1 hf hH hl
  have hS : va_S A s.heap s.heap [] := va_S.rf
  unfold f_WD_run at hf
  refine lv_iload_n hx hb d_WD_run_0 rfl (lv_at hl 1 rfl) ?_
  refine lv_iconst (v := 1) hx hb d_WD_run_1 (by decide) ?_
  refine lv_sipush (v := 240) hx hb d_WD_run_2 (by decide) ?_
  obtain ⟨o1, e2, hf⟩ := x_b hf
  cases o1 with
  | error k4 =>
    cases x_ee hf
    exact x_pass (x_runTS (As := [.int l1, .int (1 : Int32), .int (240 : Int32)]) (rest := []) ⟨hx, hb, hml, hown, hts⟩ (c_WD_requireWithin l hfl D aC ad T nx s.heap.size w l1 (1 : Int32) (240 : Int32) _ e2) (fun _ _ _ _ h => ⟨_, h.choose_spec.1⟩) (va_cwS 3 hts (x_gS m_390 m_391 m_1 m_392) rfl rfl rfl pd_WD_requireWithin ⟨Nat.le_of_ble_eq_true rfl, Nat.le_of_ble_eq_true rfl⟩) (x_preSt hH hK hX hTf) rfl rfl hl.1 rfl (lv_room (Nat.le_of_ble_eq_true rfl)) d_WD_run_5 ⟨Nat.le_refl _, Nat.le_refl _⟩) hlocks hexc (fun _ h => h.elim) (fun _ h => by cases h) (fun x st0 t tf h0 hal h ht => ⟨x, rfl, by obtain ⟨x9, e9, h9⟩ := h; cases e9; exact x_excT h0 hal h9 ht⟩)
  | ok q3 =>
    have hf := x_eo hf
    refine x_callP (v := none) (st1 := []) (va_runS (As := [.int l1, .int (1 : Int32), .int (240 : Int32)]) (rest := []) ⟨hx, hb, hml, hown, hts⟩ (x_Met.met (c_WD_requireWithin l hfl D aC ad T nx s.heap.size w l1 (1 : Int32) (240 : Int32) _ e2) (fun _ _ _ _ h => ⟨_, h.1⟩)) (va_cwS 3 hts (x_gS m_390 m_391 m_1 m_392) rfl rfl rfl pd_WD_requireWithin ⟨Nat.le_of_ble_eq_true rfl, Nat.le_of_ble_eq_true rfl⟩) (x_preSt hH hK hX hTf) rfl rfl hl.1 rfl (lv_room (Nat.le_of_ble_eq_true rfl)) d_WD_run_5 ⟨Nat.zero_le _, Nat.zero_le _⟩) rfl ?_
    refine lv_aload_n hx hb d_WD_run_8 rfl (lv_at hl 0 rfl) ?_
    obtain ⟨_, e5, hf⟩ := x_b hf
    obtain ⟨n6, hT7⟩ := x_is_e e5
    refine x_get (C := "WallDamp") (F := F_WD) (N := 8) hx hb hts i_WD hown hK hH hT7 (by decide) rfl 5 (by decide) (hts _ m_350) (fun _ h9 => h9) (kd := (0, 12)) rfl rfl d_WD_run_9 ?_
    refine lv_iload_n hx hb d_WD_run_12 rfl (lv_at hl 1 rfl) ?_
    refine lv_iadd hx hb d_WD_run_13 ?_
    refine lv_sipush (v := 10000) hx hb d_WD_run_14 (by decide) ?_
    refine lv_icmp_le (tgt := 30) hx hb d_WD_run_17 (by decide) (fun c8 => ?_) (fun c8 => ?_)
    · have hf := x_it hf c8
      refine lv_iconst (v := 0) hx hb d_WD_run_30 (by decide) ?_
      refine lv_istore_n (lv' := [(2, .int (0 : Int32)), (0, .ref (ad l0)), (1, .int l1)]) hx hb d_WD_run_31 rfl hl (by decide) rfl (fun ls hl => ?_)
      exact k_WD_run_32 C0 1000 w _ _ _ l0 l1 (0 : Int32) hf hH hS (lv_sub hl [1, 2, 0] rfl)
    · have hf := x_if hf c8
      cases hf
      exact x_throw hx hb hml hl.1 hown hlocks hexc hfl hTf (k := 2) (iS := 173) (tx := "too many hours would be over") (by simp [x_str]) (by decide) (at_ISE_166 hts hTf) (hts _ m_465) (hts _ m_466) (hts _ m_18) (by decide) (by decide) (Nat.le_refl _) (Nat.le_refl _) d_WD_run_20 d_WD_run_23 d_WD_run_24 d_WD_run_26 d_WD_run_29 (fun x t h => ⟨x, rfl, h⟩)
theorem c_WD_run (l : Launch) (hfl : l.flags = pinnedFlags ++ [noTraceFlag]) (D : va_G) (aC : Nat → ClassId) (ad : Nat → Nat) (T : x_T) (nx sz : Nat) (w : x_W) (a0 : Nat) (a1 : Int32) (q : Except Nat (Int32 × x_W)) (hf : f_WD_run T w a0 a1 = some q) : x_Met l y_WD_run ws_WD_run { frames := 7, cells := x_mc q, slots := x_ms q, locals := 116 } (x_Pt D aC ad T nx sz w [.ref (ad a0), .int a1]) (x_Qx (α := Int32 × x_W) D aC ad T nx (fun r => some (.int r.1)) (fun r => r.2) (x_dom ad nx sz) q) (x_mc q) (x_ms q) (x_dom ad nx sz) :=
  x_metT hfl [(0, .ref (ad a0)), (1, .int a1)] (by decide) rfl rfl (Nat.le_of_ble_eq_true rfl) m_595 (fun p e s m args below meth c ls C0 hH hl => k_WD_run C0 w _ a0 a1 hf hH (lv_sub hl [0, 1] rfl))
/-! WallDamp.told(II)I -/
def f_WD_told_80 (T : x_T) (w : x_W) (t0 : Int32) : Option (Except Nat (Int32)) :=
  some (.ok t0)
def f_WD_told (T : x_T) (w : x_W) (l0 : Nat) (l1 : Int32) (l2 : Int32) : Option (Except Nat (Int32)) :=
  (x_is T l0 0).bind fun _ =>
  (f_WD_cellAt T w l0 l1).bind fun o1 => x_ec o1 fun q3 =>
  (f_WD_requireWithin T w l2 (0 : Int32) (5 : Int32)).bind fun o8 => x_ec o8 fun q10 =>
  if l2 = 0 then
    ((x_is T q3 2).bind fun _ =>
    some (.ok (x_I w 20 q3)))
  else
    (if l2 = 1 then
      ((x_is T q3 2).bind fun _ =>
      (f_Cell_dampOfHeld T w q3).bind fun q17 =>
      some (.ok q17))
    else
      (if l2 = 2 then
        ((x_is T q3 2).bind fun _ =>
        some (.ok (x_I w 0 q3)))
      else
        (if l2 = 3 then
          ((x_is T q3 2).bind fun _ =>
          some (.ok (x_I w 22 q3)))
        else
          (if l2 = 4 then
            ((x_is T q3 2).bind fun _ =>
            if (x_I w 24 q3) = 0 then
              (f_WD_told_80 T w (0 : Int32))
            else
              (f_WD_told_80 T w (1 : Int32)))
          else
            ((x_is T q3 2).bind fun _ =>
            some (.ok (x_I w 23 q3)))))))
set_option maxHeartbeats 4000000 in
set_option maxRecDepth 100000 in
theorem k_WD_told_80 {p : Program} {l : Launch} {e : Env} {s : State} {m : MethodId} {args : Array Value} {below : List Frame} {meth : Method} {c : Code} {D : va_G} {aC : Nat → ClassId} {ad : Nat → Nat} {T : x_T} {nx : Nat} {A : Nat → Prop} {q : Except Nat (Int32)} (C0 : x_At2 p l s m meth c args "WallDamp" b_WD_told (some (.int)) 4 D aC A) : ∀ (w : x_W) (ls : Array Slot) (t0 : Int32), f_WD_told_80 T w t0 = some q → x_H D x_cl x_FT aC ad T nx A w s.heap → lv_has ls 4 [] → W p l e { frames := 8, cells := x_mc q, slots := x_ms q, locals := 133 } s m args below meth c s.heap [] 0 0 (x_MQ below (x_Qxp (α := Int32) (fun r => some (.int r)) q) args s (x_mc q) (x_ms q) (fun _ => False)) (F0 m 80 ls [.int t0]) := by
  obtain ⟨⟨hx, hb, hr, hml, hown, hts, hlocks, hK, hA, hX⟩, hTf, hexc, hfl⟩ := id C0
  intro w ls t0 hf hH hl
  unfold f_WD_told_80 at hf
  cases hf
  exact x_mono x_MQ_of (W.iret hx hb hr (fun t ht hW => ⟨rfl, ht⟩) (fun _ h => by cases h) d_WD_told_80)
set_option maxHeartbeats 4000000 in
set_option maxRecDepth 100000 in
theorem k_WD_told {p : Program} {l : Launch} {e : Env} {s : State} {m : MethodId} {args : Array Value} {below : List Frame} {meth : Method} {c : Code} {D : va_G} {aC : Nat → ClassId} {ad : Nat → Nat} {T : x_T} {nx : Nat} {A : Nat → Prop} {q : Except Nat (Int32)} (C0 : x_At2 p l s m meth c args "WallDamp" b_WD_told (some (.int)) 4 D aC A) : ∀ (w : x_W) (ls : Array Slot) (l0 : Nat) (l1 : Int32) (l2 : Int32), f_WD_told T w l0 l1 l2 = some q → x_H D x_cl x_FT aC ad T nx A w s.heap → lv_has ls 4 [(0, .ref (ad l0)), (1, .int l1), (2, .int l2)] → W p l e { frames := 8, cells := x_mc q, slots := x_ms q, locals := 133 } s m args below meth c s.heap [] 0 0 (x_MQ below (x_Qxp (α := Int32) (fun r => some (.int r)) q) args s (x_mc q) (x_ms q) (fun _ => False)) (F0 m 0 ls []) := by
  obtain ⟨⟨hx, hb, hr, hml, hown, hts, hlocks, hK, hA, hX⟩, hTf, hexc, hfl⟩ := id C0
  intro w ls l0 l1 l2 hf hH hl
  unfold f_WD_told at hf
  refine lv_aload_n hx hb d_WD_told_0 rfl (lv_at hl 0 rfl) ?_
  refine lv_iload_n hx hb d_WD_told_1 rfl (lv_at hl 1 rfl) ?_
  obtain ⟨_, e5, hf⟩ := x_b hf
  obtain ⟨n6, hT7⟩ := x_is_e e5
  obtain ⟨o1, e2, hf⟩ := x_b hf
  cases o1 with
  | error k4 =>
    cases x_ee hf
    exact x_pass (x_runTV (As := [.int l1]) (rest := []) ⟨hx, hb, hml, hown, hts⟩ (c_WD_cellAt l hfl D aC ad T nx s.heap.size w l0 l1 _ e2) (fun _ _ _ _ h => ⟨_, h.choose_spec.1⟩) (cwV 1 hts (x_gV m_504 m_506 ms_3 m_1 m_507) rfl rfl rfl ⟨rfl, pd_WD_cellAt⟩ ⟨Nat.le_of_ble_eq_true rfl, Nat.le_of_ble_eq_true rfl⟩) (x_preVt hH hK hX hTf hT7 (by decide) rfl rfl) rfl rfl hl.1 rfl (lv_room (Nat.le_of_ble_eq_true rfl)) d_WD_told_2 ⟨Nat.le_refl _, Nat.le_refl _⟩) hlocks hexc (fun _ h => h) (fun _ h => by cases h) (fun x st0 t tf h0 hal h ht => ⟨x, rfl, by obtain ⟨x9, e9, h9⟩ := h; cases e9; exact x_excT h0 hal h9 ht⟩)
  | ok q3 =>
    have hf := x_eo hf
    refine x_callP (v := some (.ref (ad q3))) (st1 := [.ref (ad q3)]) (va_runV (As := [.int l1]) (rest := []) ⟨hx, hb, hml, hown, hts⟩ (x_Met.met (c_WD_cellAt l hfl D aC ad T nx s.heap.size w l0 l1 _ e2) (fun _ _ _ _ h => ⟨_, h.1⟩)) (cwV 1 hts (x_gV m_504 m_506 ms_3 m_1 m_507) rfl rfl rfl ⟨rfl, pd_WD_cellAt⟩ ⟨Nat.le_of_ble_eq_true rfl, Nat.le_of_ble_eq_true rfl⟩) (x_preVt hH hK hX hTf hT7 (by decide) rfl rfl) rfl rfl hl.1 rfl (lv_room (Nat.le_of_ble_eq_true rfl)) d_WD_told_2 ⟨Nat.zero_le _, Nat.zero_le _⟩) rfl ?_
    refine lv_astore_n (lv' := [(3, .ref (ad q3)), (0, .ref (ad l0)), (1, .int l1), (2, .int l2)]) hx hb d_WD_told_5 rfl hl (by decide) rfl (fun ls hl => ?_)
    refine lv_iload_n hx hb d_WD_told_6 rfl (lv_at hl 3 rfl) ?_
    refine lv_iconst (v := 0) hx hb d_WD_told_7 (by decide) ?_
    refine lv_iconst (v := 5) hx hb d_WD_told_8 (by decide) ?_
    obtain ⟨o8, e9, hf⟩ := x_b hf
    cases o8 with
    | error k11 =>
      cases x_ee hf
      exact x_pass (x_runTS (As := [.int l2, .int (0 : Int32), .int (5 : Int32)]) (rest := []) ⟨hx, hb, hml, hown, hts⟩ (c_WD_requireWithin l hfl D aC ad T nx s.heap.size w l2 (0 : Int32) (5 : Int32) _ e9) (fun _ _ _ _ h => ⟨_, h.choose_spec.1⟩) (va_cwS 3 hts (x_gS m_390 m_391 m_1 m_392) rfl rfl rfl pd_WD_requireWithin ⟨Nat.le_of_ble_eq_true rfl, Nat.le_of_ble_eq_true rfl⟩) (x_preSt hH hK hX hTf) rfl rfl hl.1 rfl (lv_room (Nat.le_of_ble_eq_true rfl)) d_WD_told_9 ⟨Nat.le_refl _, Nat.le_refl _⟩) hlocks hexc (fun _ h => h) (fun _ h => by cases h) (fun x st0 t tf h0 hal h ht => ⟨x, rfl, by obtain ⟨x9, e9, h9⟩ := h; cases e9; exact x_excT h0 hal h9 ht⟩)
    | ok q10 =>
      have hf := x_eo hf
      refine x_callP (v := none) (st1 := []) (va_runS (As := [.int l2, .int (0 : Int32), .int (5 : Int32)]) (rest := []) ⟨hx, hb, hml, hown, hts⟩ (x_Met.met (c_WD_requireWithin l hfl D aC ad T nx s.heap.size w l2 (0 : Int32) (5 : Int32) _ e9) (fun _ _ _ _ h => ⟨_, h.1⟩)) (va_cwS 3 hts (x_gS m_390 m_391 m_1 m_392) rfl rfl rfl pd_WD_requireWithin ⟨Nat.le_of_ble_eq_true rfl, Nat.le_of_ble_eq_true rfl⟩) (x_preSt hH hK hX hTf) rfl rfl hl.1 rfl (lv_room (Nat.le_of_ble_eq_true rfl)) d_WD_told_9 ⟨Nat.zero_le _, Nat.zero_le _⟩) rfl ?_
      refine lv_iload_n hx hb d_WD_told_12 rfl (lv_at hl 3 rfl) ?_
      by_cases c12 : l2 = 0
      · have hf := x_it hf c12
        refine x_tin (k := 0) (off := 35) (tgt := 48) c12 hx hb d_WD_told_13 (by decide) (by decide) rfl (by decide) ?_
        refine lv_aload_n hx hb d_WD_told_48 rfl (lv_at hl 0 rfl) ?_
        obtain ⟨_, e13, hf⟩ := x_b hf
        obtain ⟨n14, hT15⟩ := x_is_e e13
        refine x_get (C := "WallDamp$Cell") (F := F_Cell) (N := 15) hx hb hts i_Cell hown hK hH hT15 (by decide) rfl 10 (by decide) (hts _ m_243) (fun _ h9 => h9) (kd := (0, 20)) rfl rfl d_WD_told_49 ?_
        cases hf
        exact x_mono x_MQ_of (W.iret hx hb hr (fun t ht hW => ⟨rfl, ht⟩) (fun _ h => by cases h) d_WD_told_52)
      · have hf := x_if hf c12
        by_cases c16 : l2 = 1
        · have hf := x_it hf c16
          refine x_tin (k := 1) (off := 40) (tgt := 53) c16 hx hb d_WD_told_13 (by decide) (by decide) rfl (by decide) ?_
          refine lv_aload_n hx hb d_WD_told_53 rfl (lv_at hl 0 rfl) ?_
          obtain ⟨_, e19, hf⟩ := x_b hf
          obtain ⟨n20, hT21⟩ := x_is_e e19
          obtain ⟨q17, e18, hf⟩ := x_b hf
          refine x_callP (st1 := [.int q17]) (x_runV (As := []) (rest := []) ⟨hx, hb, hml, hown, hts⟩ (c_Cell_dampOfHeld l D aC ad T nx s.heap.size w q3 q17 e18) (cwV 0 hts (x_gV m_728 m_642 m_643 m_10 m_644) rfl rfl rfl ⟨rfl, pd_Cell_dampOfHeld⟩ ⟨Nat.le_of_ble_eq_true rfl, Nat.le_of_ble_eq_true rfl⟩) hH hK hX hT21 (by decide) rfl rfl rfl hl.1 rfl (lv_room (Nat.le_of_ble_eq_true rfl)) d_WD_told_54 ⟨Nat.zero_le _, Nat.zero_le _⟩) rfl ?_
          cases hf
          exact x_mono x_MQ_of (W.iret hx hb hr (fun t ht hW => ⟨rfl, ht⟩) (fun _ h => by cases h) d_WD_told_57)
        · have hf := x_if hf c16
          by_cases c22 : l2 = 2
          · have hf := x_it hf c22
            refine x_tin (k := 2) (off := 45) (tgt := 58) c22 hx hb d_WD_told_13 (by decide) (by decide) rfl (by decide) ?_
            refine lv_aload_n hx hb d_WD_told_58 rfl (lv_at hl 0 rfl) ?_
            obtain ⟨_, e23, hf⟩ := x_b hf
            obtain ⟨n24, hT25⟩ := x_is_e e23
            refine x_get (C := "WallDamp$Cell") (F := F_Cell) (N := 15) hx hb hts i_Cell hown hK hH hT25 (by decide) rfl 0 (by decide) (hts _ m_188) (u_same (hts _ m_186)) (kd := (0, 0)) rfl rfl d_WD_told_59 ?_
            cases hf
            exact x_mono x_MQ_of (W.iret hx hb hr (fun t ht hW => ⟨rfl, ht⟩) (fun _ h => by cases h) d_WD_told_62)
          · have hf := x_if hf c22
            by_cases c26 : l2 = 3
            · have hf := x_it hf c26
              refine x_tin (k := 3) (off := 50) (tgt := 63) c26 hx hb d_WD_told_13 (by decide) (by decide) rfl (by decide) ?_
              refine lv_aload_n hx hb d_WD_told_63 rfl (lv_at hl 0 rfl) ?_
              obtain ⟨_, e27, hf⟩ := x_b hf
              obtain ⟨n28, hT29⟩ := x_is_e e27
              refine x_get (C := "WallDamp$Cell") (F := F_Cell) (N := 15) hx hb hts i_Cell hown hK hH hT29 (by decide) rfl 12 (by decide) (hts _ m_246) (fun _ h9 => h9) (kd := (0, 22)) rfl rfl d_WD_told_64 ?_
              cases hf
              exact x_mono x_MQ_of (W.iret hx hb hr (fun t ht hW => ⟨rfl, ht⟩) (fun _ h => by cases h) d_WD_told_67)
            · have hf := x_if hf c26
              by_cases c30 : l2 = 4
              · have hf := x_it hf c30
                refine x_tin (k := 4) (off := 55) (tgt := 68) c30 hx hb d_WD_told_13 (by decide) (by decide) rfl (by decide) ?_
                refine lv_aload_n hx hb d_WD_told_68 rfl (lv_at hl 0 rfl) ?_
                obtain ⟨_, e31, hf⟩ := x_b hf
                obtain ⟨n32, hT33⟩ := x_is_e e31
                refine x_get (C := "WallDamp$Cell") (F := F_Cell) (N := 15) hx hb hts i_Cell hown hK hH hT33 (by decide) rfl 14 (by decide) (hts _ m_250) (fun _ h9 => h9) (kd := (0, 24)) rfl rfl d_WD_told_69 ?_
                refine lv_if_eq (tgt := 79) hx hb d_WD_told_72 (by decide) (fun c34 => ?_) (fun c34 => ?_)
                · have hf := x_it hf c34
                  refine lv_iconst (v := 0) hx hb d_WD_told_79 (by decide) ?_
                  exact k_WD_told_80 C0 w _ (0 : Int32) hf hH (lv_sub hl [] rfl)
                · have hf := x_if hf c34
                  refine lv_iconst (v := 1) hx hb d_WD_told_75 (by decide) ?_
                  refine lv_goto (tgt := 80) hx hb d_WD_told_76 (by decide) ?_
                  exact k_WD_told_80 C0 w _ (1 : Int32) hf hH (lv_sub hl [] rfl)
              · have hf := x_if hf c30
                refine lv_tableOut (tgt := 81) hx hb d_WD_told_13 (by have := lv_neT c12 (a := 0) rfl; have := lv_neT c16 (a := 1) rfl; have := lv_neT c22 (a := 2) rfl; have := lv_neT c26 (a := 3) rfl; have := lv_neT c30 (a := 4) rfl; omega) (by decide) ?_
                refine lv_aload_n hx hb d_WD_told_81 rfl (lv_at hl 0 rfl) ?_
                obtain ⟨_, e35, hf⟩ := x_b hf
                obtain ⟨n36, hT37⟩ := x_is_e e35
                refine x_get (C := "WallDamp$Cell") (F := F_Cell) (N := 15) hx hb hts i_Cell hown hK hH hT37 (by decide) rfl 13 (by decide) (hts _ m_248) (fun _ h9 => h9) (kd := (0, 23)) rfl rfl d_WD_told_82 ?_
                cases hf
                exact x_mono x_MQ_of (W.iret hx hb hr (fun t ht hW => ⟨rfl, ht⟩) (fun _ h => by cases h) d_WD_told_85)
theorem c_WD_told (l : Launch) (hfl : l.flags = pinnedFlags ++ [noTraceFlag]) (D : va_G) (aC : Nat → ClassId) (ad : Nat → Nat) (T : x_T) (nx sz : Nat) (w : x_W) (a0 : Nat) (a1 : Int32) (a2 : Int32) (q : Except Nat (Int32)) (hf : f_WD_told T w a0 a1 a2 = some q) : x_Met l y_WD_told ws_WD_told { frames := 8, cells := x_mc q, slots := x_ms q, locals := 133 } (x_Pt D aC ad T nx sz w [.ref (ad a0), .int a1, .int a2]) (x_Qxp (α := Int32) (fun r => some (.int r)) q) (x_mc q) (x_ms q) (fun _ => False) :=
  x_metT hfl [(0, .ref (ad a0)), (1, .int a1), (2, .int a2)] (by decide) rfl rfl (Nat.le_of_ble_eq_true rfl) m_739 (fun p e s m args below meth c ls C0 hH hl => k_WD_told C0 w _ a0 a1 a2 hf hH (lv_sub hl [0, 1, 2] rfl))
/-! WallDamp.balance(I)J -/
def f_WD_balance (T : x_T) (w : x_W) (l0 : Nat) (l1 : Int32) : Option (Except Nat (Int64)) :=
  (f_WD_requireWithin T w l1 (0 : Int32) (5 : Int32)).bind fun o1 => x_ec o1 fun q3 =>
  if l1 = 0 then
    ((x_is T l0 0).bind fun _ =>
    (x_R w 10 l0).bind fun a9 =>
    (x_is T a9 9).bind fun _ =>
    (f_Wall_allWater T w a9).bind fun q11 =>
    some (.ok q11))
  else
    (if l1 = 1 then
      ((x_is T l0 0).bind fun _ =>
      (x_R w 10 l0).bind fun a20 =>
      (x_is T a20 9).bind fun _ =>
      (x_R w 56 a20).bind fun a25 =>
      (x_is T a25 1).bind fun _ =>
      some (.ok (x_J w 15 a25)))
    else
      (if l1 = 2 then
        ((x_is T l0 0).bind fun _ =>
        (x_R w 10 l0).bind fun a34 =>
        (x_is T a34 9).bind fun _ =>
        (x_R w 57 a34).bind fun a39 =>
        (x_is T a39 1).bind fun _ =>
        some (.ok (x_J w 15 a39)))
      else
        (if l1 = 3 then
          ((x_is T l0 0).bind fun _ =>
          (x_R w 10 l0).bind fun a48 =>
          (x_is T a48 9).bind fun _ =>
          (x_R w 56 a48).bind fun a53 =>
          (x_is T a53 1).bind fun _ =>
          some (.ok (x_J w 16 a53)))
        else
          (if l1 = 4 then
            ((x_is T l0 0).bind fun _ =>
            (x_R w 10 l0).bind fun a62 =>
            (x_is T a62 9).bind fun _ =>
            (x_R w 57 a62).bind fun a67 =>
            (x_is T a67 1).bind fun _ =>
            some (.ok (x_J w 16 a67)))
          else
            ((x_is T l0 0).bind fun _ =>
            some (.ok (x_J w 14 l0)))))))
set_option maxHeartbeats 4000000 in
set_option maxRecDepth 100000 in
theorem k_WD_balance {p : Program} {l : Launch} {e : Env} {s : State} {m : MethodId} {args : Array Value} {below : List Frame} {meth : Method} {c : Code} {D : va_G} {aC : Nat → ClassId} {ad : Nat → Nat} {T : x_T} {nx : Nat} {A : Nat → Prop} {q : Except Nat (Int64)} (C0 : x_At2 p l s m meth c args "WallDamp" b_WD_balance (some (.long)) 2 D aC A) : ∀ (w : x_W) (ls : Array Slot) (l0 : Nat) (l1 : Int32), f_WD_balance T w l0 l1 = some q → x_H D x_cl x_FT aC ad T nx A w s.heap → lv_has ls 2 [(0, .ref (ad l0)), (1, .int l1)] → W p l e { frames := 7, cells := x_mc q, slots := x_ms q, locals := 112 } s m args below meth c s.heap [] 0 0 (x_MQ below (x_Qxp (α := Int64) (fun r => some (.long r)) q) args s (x_mc q) (x_ms q) (fun _ => False)) (F0 m 0 ls []) := by
  obtain ⟨⟨hx, hb, hr, hml, hown, hts, hlocks, hK, hA, hX⟩, hTf, hexc, hfl⟩ := id C0
  intro w ls l0 l1 hf hH hl
  unfold f_WD_balance at hf
  refine lv_iload_n hx hb d_WD_balance_0 rfl (lv_at hl 1 rfl) ?_
  refine lv_iconst (v := 0) hx hb d_WD_balance_1 (by decide) ?_
  refine lv_iconst (v := 5) hx hb d_WD_balance_2 (by decide) ?_
  obtain ⟨o1, e2, hf⟩ := x_b hf
  cases o1 with
  | error k4 =>
    cases x_ee hf
    exact x_pass (x_runTS (As := [.int l1, .int (0 : Int32), .int (5 : Int32)]) (rest := []) ⟨hx, hb, hml, hown, hts⟩ (c_WD_requireWithin l hfl D aC ad T nx s.heap.size w l1 (0 : Int32) (5 : Int32) _ e2) (fun _ _ _ _ h => ⟨_, h.choose_spec.1⟩) (va_cwS 3 hts (x_gS m_390 m_391 m_1 m_392) rfl rfl rfl pd_WD_requireWithin ⟨Nat.le_of_ble_eq_true rfl, Nat.le_of_ble_eq_true rfl⟩) (x_preSt hH hK hX hTf) rfl rfl hl.1 rfl (lv_room (Nat.le_of_ble_eq_true rfl)) d_WD_balance_3 ⟨Nat.le_refl _, Nat.le_refl _⟩) hlocks hexc (fun _ h => h) (fun _ h => by cases h) (fun x st0 t tf h0 hal h ht => ⟨x, rfl, by obtain ⟨x9, e9, h9⟩ := h; cases e9; exact x_excT h0 hal h9 ht⟩)
  | ok q3 =>
    have hf := x_eo hf
    refine x_callP (v := none) (st1 := []) (va_runS (As := [.int l1, .int (0 : Int32), .int (5 : Int32)]) (rest := []) ⟨hx, hb, hml, hown, hts⟩ (x_Met.met (c_WD_requireWithin l hfl D aC ad T nx s.heap.size w l1 (0 : Int32) (5 : Int32) _ e2) (fun _ _ _ _ h => ⟨_, h.1⟩)) (va_cwS 3 hts (x_gS m_390 m_391 m_1 m_392) rfl rfl rfl pd_WD_requireWithin ⟨Nat.le_of_ble_eq_true rfl, Nat.le_of_ble_eq_true rfl⟩) (x_preSt hH hK hX hTf) rfl rfl hl.1 rfl (lv_room (Nat.le_of_ble_eq_true rfl)) d_WD_balance_3 ⟨Nat.zero_le _, Nat.zero_le _⟩) rfl ?_
    refine lv_iload_n hx hb d_WD_balance_6 rfl (lv_at hl 1 rfl) ?_
    by_cases c5 : l1 = 0
    · have hf := x_it hf c5
      refine x_tin (k := 0) (off := 33) (tgt := 40) c5 hx hb d_WD_balance_7 (by decide) (by decide) rfl (by decide) ?_
      refine lv_aload_n hx hb d_WD_balance_40 rfl (lv_at hl 0 rfl) ?_
      obtain ⟨_, e6, hf⟩ := x_b hf
      obtain ⟨n7, hT8⟩ := x_is_e e6
      obtain ⟨a9, e10, hf⟩ := x_b hf
      refine x_get (C := "WallDamp") (F := F_WD) (N := 8) hx hb hts i_WD hown hK hH hT8 (by decide) rfl 3 (by decide) (hts _ m_348) (fun _ h9 => h9) (kd := (2, 10)) rfl (x_fr e10) d_WD_balance_41 ?_
      obtain ⟨_, e13, hf⟩ := x_b hf
      obtain ⟨n14, hT15⟩ := x_is_e e13
      obtain ⟨q11, e12, hf⟩ := x_b hf
      refine x_callP (st1 := [.long q11]) (x_runV (As := []) (rest := []) ⟨hx, hb, hml, hown, hts⟩ (c_Wall_allWater l D aC ad T nx s.heap.size w a9 q11 e12) (cwV 0 hts (x_gV m_747 m_748 m_749 m_7 m_750) rfl rfl rfl ⟨rfl, pd_Wall_allWater⟩ ⟨Nat.le_of_ble_eq_true rfl, Nat.le_of_ble_eq_true rfl⟩) hH hK hX hT15 (by decide) rfl rfl rfl hl.1 rfl (lv_room (Nat.le_of_ble_eq_true rfl)) d_WD_balance_44 ⟨Nat.zero_le _, Nat.zero_le _⟩) rfl ?_
      cases hf
      exact x_mono x_MQ_of (W.lret hx hb hr (fun t ht hW => ⟨rfl, ht⟩) (fun _ h => by cases h) d_WD_balance_47)
    · have hf := x_if hf c5
      by_cases c16 : l1 = 1
      · have hf := x_it hf c16
        refine x_tin (k := 1) (off := 41) (tgt := 48) c16 hx hb d_WD_balance_7 (by decide) (by decide) rfl (by decide) ?_
        refine lv_aload_n hx hb d_WD_balance_48 rfl (lv_at hl 0 rfl) ?_
        obtain ⟨_, e17, hf⟩ := x_b hf
        obtain ⟨n18, hT19⟩ := x_is_e e17
        obtain ⟨a20, e21, hf⟩ := x_b hf
        refine x_get (C := "WallDamp") (F := F_WD) (N := 8) hx hb hts i_WD hown hK hH hT19 (by decide) rfl 3 (by decide) (hts _ m_348) (fun _ h9 => h9) (kd := (2, 10)) rfl (x_fr e21) d_WD_balance_49 ?_
        obtain ⟨_, e22, hf⟩ := x_b hf
        obtain ⟨n23, hT24⟩ := x_is_e e22
        obtain ⟨a25, e26, hf⟩ := x_b hf
        refine x_get (C := "WallDamp$Wall") (F := F_Wall) (N := 9) hx hb hts i_Wall hown hK hH hT24 (by decide) rfl 1 (by decide) (hts _ m_300) (fun _ h9 => h9) (kd := (2, 56)) rfl (x_fr e26) d_WD_balance_52 ?_
        obtain ⟨_, e27, hf⟩ := x_b hf
        obtain ⟨n28, hT29⟩ := x_is_e e27
        refine x_get (C := "WallDamp$Air") (F := F_Air) (N := 9) hx hb hts i_Air hown hK hH hT29 (by decide) rfl 7 (by decide) (hts _ m_178) (fun _ h9 => h9) (kd := (1, 15)) rfl rfl d_WD_balance_55 ?_
        cases hf
        exact x_mono x_MQ_of (W.lret hx hb hr (fun t ht hW => ⟨rfl, ht⟩) (fun _ h => by cases h) d_WD_balance_58)
      · have hf := x_if hf c16
        by_cases c30 : l1 = 2
        · have hf := x_it hf c30
          refine x_tin (k := 2) (off := 52) (tgt := 59) c30 hx hb d_WD_balance_7 (by decide) (by decide) rfl (by decide) ?_
          refine lv_aload_n hx hb d_WD_balance_59 rfl (lv_at hl 0 rfl) ?_
          obtain ⟨_, e31, hf⟩ := x_b hf
          obtain ⟨n32, hT33⟩ := x_is_e e31
          obtain ⟨a34, e35, hf⟩ := x_b hf
          refine x_get (C := "WallDamp") (F := F_WD) (N := 8) hx hb hts i_WD hown hK hH hT33 (by decide) rfl 3 (by decide) (hts _ m_348) (fun _ h9 => h9) (kd := (2, 10)) rfl (x_fr e35) d_WD_balance_60 ?_
          obtain ⟨_, e36, hf⟩ := x_b hf
          obtain ⟨n37, hT38⟩ := x_is_e e36
          obtain ⟨a39, e40, hf⟩ := x_b hf
          refine x_get (C := "WallDamp$Wall") (F := F_Wall) (N := 9) hx hb hts i_Wall hown hK hH hT38 (by decide) rfl 2 (by decide) (hts _ m_302) (fun _ h9 => h9) (kd := (2, 57)) rfl (x_fr e40) d_WD_balance_63 ?_
          obtain ⟨_, e41, hf⟩ := x_b hf
          obtain ⟨n42, hT43⟩ := x_is_e e41
          refine x_get (C := "WallDamp$Air") (F := F_Air) (N := 9) hx hb hts i_Air hown hK hH hT43 (by decide) rfl 7 (by decide) (hts _ m_178) (fun _ h9 => h9) (kd := (1, 15)) rfl rfl d_WD_balance_66 ?_
          cases hf
          exact x_mono x_MQ_of (W.lret hx hb hr (fun t ht hW => ⟨rfl, ht⟩) (fun _ h => by cases h) d_WD_balance_69)
        · have hf := x_if hf c30
          by_cases c44 : l1 = 3
          · have hf := x_it hf c44
            refine x_tin (k := 3) (off := 63) (tgt := 70) c44 hx hb d_WD_balance_7 (by decide) (by decide) rfl (by decide) ?_
            refine lv_aload_n hx hb d_WD_balance_70 rfl (lv_at hl 0 rfl) ?_
            obtain ⟨_, e45, hf⟩ := x_b hf
            obtain ⟨n46, hT47⟩ := x_is_e e45
            obtain ⟨a48, e49, hf⟩ := x_b hf
            refine x_get (C := "WallDamp") (F := F_WD) (N := 8) hx hb hts i_WD hown hK hH hT47 (by decide) rfl 3 (by decide) (hts _ m_348) (fun _ h9 => h9) (kd := (2, 10)) rfl (x_fr e49) d_WD_balance_71 ?_
            obtain ⟨_, e50, hf⟩ := x_b hf
            obtain ⟨n51, hT52⟩ := x_is_e e50
            obtain ⟨a53, e54, hf⟩ := x_b hf
            refine x_get (C := "WallDamp$Wall") (F := F_Wall) (N := 9) hx hb hts i_Wall hown hK hH hT52 (by decide) rfl 1 (by decide) (hts _ m_300) (fun _ h9 => h9) (kd := (2, 56)) rfl (x_fr e54) d_WD_balance_74 ?_
            obtain ⟨_, e55, hf⟩ := x_b hf
            obtain ⟨n56, hT57⟩ := x_is_e e55
            refine x_get (C := "WallDamp$Air") (F := F_Air) (N := 9) hx hb hts i_Air hown hK hH hT57 (by decide) rfl 8 (by decide) (hts _ m_180) (fun _ h9 => h9) (kd := (1, 16)) rfl rfl d_WD_balance_77 ?_
            cases hf
            exact x_mono x_MQ_of (W.lret hx hb hr (fun t ht hW => ⟨rfl, ht⟩) (fun _ h => by cases h) d_WD_balance_80)
          · have hf := x_if hf c44
            by_cases c58 : l1 = 4
            · have hf := x_it hf c58
              refine x_tin (k := 4) (off := 74) (tgt := 81) c58 hx hb d_WD_balance_7 (by decide) (by decide) rfl (by decide) ?_
              refine lv_aload_n hx hb d_WD_balance_81 rfl (lv_at hl 0 rfl) ?_
              obtain ⟨_, e59, hf⟩ := x_b hf
              obtain ⟨n60, hT61⟩ := x_is_e e59
              obtain ⟨a62, e63, hf⟩ := x_b hf
              refine x_get (C := "WallDamp") (F := F_WD) (N := 8) hx hb hts i_WD hown hK hH hT61 (by decide) rfl 3 (by decide) (hts _ m_348) (fun _ h9 => h9) (kd := (2, 10)) rfl (x_fr e63) d_WD_balance_82 ?_
              obtain ⟨_, e64, hf⟩ := x_b hf
              obtain ⟨n65, hT66⟩ := x_is_e e64
              obtain ⟨a67, e68, hf⟩ := x_b hf
              refine x_get (C := "WallDamp$Wall") (F := F_Wall) (N := 9) hx hb hts i_Wall hown hK hH hT66 (by decide) rfl 2 (by decide) (hts _ m_302) (fun _ h9 => h9) (kd := (2, 57)) rfl (x_fr e68) d_WD_balance_85 ?_
              obtain ⟨_, e69, hf⟩ := x_b hf
              obtain ⟨n70, hT71⟩ := x_is_e e69
              refine x_get (C := "WallDamp$Air") (F := F_Air) (N := 9) hx hb hts i_Air hown hK hH hT71 (by decide) rfl 8 (by decide) (hts _ m_180) (fun _ h9 => h9) (kd := (1, 16)) rfl rfl d_WD_balance_88 ?_
              cases hf
              exact x_mono x_MQ_of (W.lret hx hb hr (fun t ht hW => ⟨rfl, ht⟩) (fun _ h => by cases h) d_WD_balance_91)
            · have hf := x_if hf c58
              refine lv_tableOut (tgt := 92) hx hb d_WD_balance_7 (by have := lv_neT c5 (a := 0) rfl; have := lv_neT c16 (a := 1) rfl; have := lv_neT c30 (a := 2) rfl; have := lv_neT c44 (a := 3) rfl; have := lv_neT c58 (a := 4) rfl; omega) (by decide) ?_
              refine lv_aload_n hx hb d_WD_balance_92 rfl (lv_at hl 0 rfl) ?_
              obtain ⟨_, e72, hf⟩ := x_b hf
              obtain ⟨n73, hT74⟩ := x_is_e e72
              refine x_get (C := "WallDamp") (F := F_WD) (N := 8) hx hb hts i_WD hown hK hH hT74 (by decide) rfl 7 (by decide) (hts _ m_352) (fun _ h9 => h9) (kd := (1, 14)) rfl rfl d_WD_balance_93 ?_
              cases hf
              exact x_mono x_MQ_of (W.lret hx hb hr (fun t ht hW => ⟨rfl, ht⟩) (fun _ h => by cases h) d_WD_balance_96)
theorem c_WD_balance (l : Launch) (hfl : l.flags = pinnedFlags ++ [noTraceFlag]) (D : va_G) (aC : Nat → ClassId) (ad : Nat → Nat) (T : x_T) (nx sz : Nat) (w : x_W) (a0 : Nat) (a1 : Int32) (q : Except Nat (Int64)) (hf : f_WD_balance T w a0 a1 = some q) : x_Met l y_WD_balance ws_WD_balance { frames := 7, cells := x_mc q, slots := x_ms q, locals := 112 } (x_Pt D aC ad T nx sz w [.ref (ad a0), .int a1]) (x_Qxp (α := Int64) (fun r => some (.long r)) q) (x_mc q) (x_ms q) (fun _ => False) :=
  x_metT hfl [(0, .ref (ad a0)), (1, .int a1)] (by decide) rfl rfl (Nat.le_of_ble_eq_true rfl) m_746 (fun p e s m args below meth c ls C0 hH hl => k_WD_balance C0 w _ a0 a1 hf hH (lv_sub hl [0, 1] rfl))
/-! WallDamp.order(II)I -/
def f_WD_order (T : x_T) (w : x_W) (l0 : Nat) (l1 : Int32) (l2 : Int32) : Option (Except Nat (Int32 × x_W)) :=
  (f_WD_requireWithin T w l1 (1 : Int32) (48 : Int32)).bind fun o1 => x_ec o1 fun q3 =>
  (x_is T l0 0).bind fun _ =>
  (x_R w 10 l0).bind fun a8 =>
  (x_is T a8 9).bind fun _ =>
  (x_R w 55 a8).bind fun a13 =>
  (x_len T a13 104).bind fun n15 =>
  (f_WD_requireWithin T w l2 (0 : Int32) ((nI n15) - (1 : Int32))).bind fun o17 => x_ec o17 fun q19 =>
  (x_R w 10 l0).bind fun a21 =>
  (x_is T a21 9).bind fun _ =>
  (x_R w 55 a21).bind fun a26 =>
  (x_len T a26 104).bind fun n28 =>
  if (nI n28) ≤ (5 : Int32) then
    ((x_R w 11 l0).bind fun a31 =>
    (x_R w 10 l0).bind fun a33 =>
    (x_R w 8 l0).bind fun a35 =>
    (x_is T a31 8).bind fun _ =>
    (f_Trials_findDriest T w a31 a33 a35 l1).bind fun q37 =>
    (x_R q37 11 l0).bind fun a42 =>
    (x_is T a42 8).bind fun _ =>
    (x_R q37 52 a42).bind fun a47 =>
    (x_ix T a47 100 l2).bind fun _ =>
    some (.ok ((x_A q37 a47 l2.toNatClampNeg), q37)))
  else
    (some (.error 2))
set_option maxHeartbeats 4000000 in
set_option maxRecDepth 100000 in
theorem k_WD_order {p : Program} {l : Launch} {e : Env} {s : State} {m : MethodId} {args : Array Value} {below : List Frame} {meth : Method} {c : Code} {D : va_G} {aC : Nat → ClassId} {ad : Nat → Nat} {T : x_T} {nx : Nat} {A : Nat → Prop} {q : Except Nat (Int32 × x_W)} (C0 : x_At2 p l s m meth c args "WallDamp" b_WD_order (some (.int)) 3 D aC A) : ∀ (w : x_W) (ls : Array Slot) (l0 : Nat) (l1 : Int32) (l2 : Int32), f_WD_order T w l0 l1 l2 = some q → x_H D x_cl x_FT aC ad T nx A w s.heap → lv_has ls 3 [(0, .ref (ad l0)), (1, .int l1), (2, .int l2)] → W p l e { frames := 7, cells := x_mc q, slots := x_ms q, locals := 151 } s m args below meth c s.heap [] 0 0 (x_MQ below (x_Qx (α := Int32 × x_W) D aC ad T nx (fun r => some (.int r.1)) (fun r => r.2) A q) args s (x_mc q) (x_ms q) A) (F0 m 0 ls []) := by
  obtain ⟨⟨hx, hb, hr, hml, hown, hts, hlocks, hK, hA, hX⟩, hTf, hexc, hfl⟩ := id C0
  intro w ls l0 l1 l2 hf hH hl
  have hS : va_S A s.heap s.heap [] := va_S.rf
  unfold f_WD_order at hf
  refine lv_iload_n hx hb d_WD_order_0 rfl (lv_at hl 1 rfl) ?_
  refine lv_iconst (v := 1) hx hb d_WD_order_1 (by decide) ?_
  refine lv_bipush (v := 48) hx hb d_WD_order_2 (by decide) ?_
  obtain ⟨o1, e2, hf⟩ := x_b hf
  cases o1 with
  | error k4 =>
    cases x_ee hf
    exact x_pass (x_runTS (As := [.int l1, .int (1 : Int32), .int (48 : Int32)]) (rest := []) ⟨hx, hb, hml, hown, hts⟩ (c_WD_requireWithin l hfl D aC ad T nx s.heap.size w l1 (1 : Int32) (48 : Int32) _ e2) (fun _ _ _ _ h => ⟨_, h.choose_spec.1⟩) (va_cwS 3 hts (x_gS m_390 m_391 m_1 m_392) rfl rfl rfl pd_WD_requireWithin ⟨Nat.le_of_ble_eq_true rfl, Nat.le_of_ble_eq_true rfl⟩) (x_preSt hH hK hX hTf) rfl rfl hl.1 rfl (lv_room (Nat.le_of_ble_eq_true rfl)) d_WD_order_4 ⟨Nat.le_refl _, Nat.le_refl _⟩) hlocks hexc (fun _ h => h.elim) (fun _ h => by cases h) (fun x st0 t tf h0 hal h ht => ⟨x, rfl, by obtain ⟨x9, e9, h9⟩ := h; cases e9; exact x_excT h0 hal h9 ht⟩)
  | ok q3 =>
    have hf := x_eo hf
    refine x_callP (v := none) (st1 := []) (va_runS (As := [.int l1, .int (1 : Int32), .int (48 : Int32)]) (rest := []) ⟨hx, hb, hml, hown, hts⟩ (x_Met.met (c_WD_requireWithin l hfl D aC ad T nx s.heap.size w l1 (1 : Int32) (48 : Int32) _ e2) (fun _ _ _ _ h => ⟨_, h.1⟩)) (va_cwS 3 hts (x_gS m_390 m_391 m_1 m_392) rfl rfl rfl pd_WD_requireWithin ⟨Nat.le_of_ble_eq_true rfl, Nat.le_of_ble_eq_true rfl⟩) (x_preSt hH hK hX hTf) rfl rfl hl.1 rfl (lv_room (Nat.le_of_ble_eq_true rfl)) d_WD_order_4 ⟨Nat.zero_le _, Nat.zero_le _⟩) rfl ?_
    refine lv_iload_n hx hb d_WD_order_7 rfl (lv_at hl 2 rfl) ?_
    refine lv_iconst (v := 0) hx hb d_WD_order_8 (by decide) ?_
    refine lv_aload_n hx hb d_WD_order_9 rfl (lv_at hl 0 rfl) ?_
    obtain ⟨_, e5, hf⟩ := x_b hf
    obtain ⟨n6, hT7⟩ := x_is_e e5
    obtain ⟨a8, e9, hf⟩ := x_b hf
    refine x_get (C := "WallDamp") (F := F_WD) (N := 8) hx hb hts i_WD hown hK hH hT7 (by decide) rfl 3 (by decide) (hts _ m_348) (fun _ h9 => h9) (kd := (2, 10)) rfl (x_fr e9) d_WD_order_10 ?_
    obtain ⟨_, e10, hf⟩ := x_b hf
    obtain ⟨n11, hT12⟩ := x_is_e e10
    obtain ⟨a13, e14, hf⟩ := x_b hf
    refine x_get (C := "WallDamp$Wall") (F := F_Wall) (N := 9) hx hb hts i_Wall hown hK hH hT12 (by decide) rfl 0 (by decide) (hts _ m_298) (fun _ h9 => h9) (kd := (2, 55)) rfl (x_fr e14) d_WD_order_13 ?_
    obtain ⟨n15, e16, hf⟩ := x_b hf
    refine x_alen hx hb hK hH (x_len_e e16) (by decide) 4 rfl d_WD_order_16 ?_
    refine lv_iconst (v := 1) hx hb d_WD_order_17 (by decide) ?_
    refine lv_isub hx hb d_WD_order_18 ?_
    obtain ⟨o17, e18, hf⟩ := x_b hf
    cases o17 with
    | error k20 =>
      cases x_ee hf
      exact x_pass (x_runTS (As := [.int l2, .int (0 : Int32), .int ((nI n15) - (1 : Int32))]) (rest := []) ⟨hx, hb, hml, hown, hts⟩ (c_WD_requireWithin l hfl D aC ad T nx s.heap.size w l2 (0 : Int32) ((nI n15) - (1 : Int32)) _ e18) (fun _ _ _ _ h => ⟨_, h.choose_spec.1⟩) (va_cwS 3 hts (x_gS m_390 m_391 m_1 m_392) rfl rfl rfl pd_WD_requireWithin ⟨Nat.le_of_ble_eq_true rfl, Nat.le_of_ble_eq_true rfl⟩) (x_preSt hH hK hX hTf) rfl rfl hl.1 rfl (lv_room (Nat.le_of_ble_eq_true rfl)) d_WD_order_19 ⟨Nat.le_refl _, Nat.le_refl _⟩) hlocks hexc (fun _ h => h.elim) (fun _ h => by cases h) (fun x st0 t tf h0 hal h ht => ⟨x, rfl, by obtain ⟨x9, e9, h9⟩ := h; cases e9; exact x_excT h0 hal h9 ht⟩)
    | ok q19 =>
      have hf := x_eo hf
      refine x_callP (v := none) (st1 := []) (va_runS (As := [.int l2, .int (0 : Int32), .int ((nI n15) - (1 : Int32))]) (rest := []) ⟨hx, hb, hml, hown, hts⟩ (x_Met.met (c_WD_requireWithin l hfl D aC ad T nx s.heap.size w l2 (0 : Int32) ((nI n15) - (1 : Int32)) _ e18) (fun _ _ _ _ h => ⟨_, h.1⟩)) (va_cwS 3 hts (x_gS m_390 m_391 m_1 m_392) rfl rfl rfl pd_WD_requireWithin ⟨Nat.le_of_ble_eq_true rfl, Nat.le_of_ble_eq_true rfl⟩) (x_preSt hH hK hX hTf) rfl rfl hl.1 rfl (lv_room (Nat.le_of_ble_eq_true rfl)) d_WD_order_19 ⟨Nat.zero_le _, Nat.zero_le _⟩) rfl ?_
      refine lv_aload_n hx hb d_WD_order_22 rfl (lv_at hl 0 rfl) ?_
      obtain ⟨a21, e22, hf⟩ := x_b hf
      refine x_get (C := "WallDamp") (F := F_WD) (N := 8) hx hb hts i_WD hown hK hH hT7 (by decide) rfl 3 (by decide) (hts _ m_348) (fun _ h9 => h9) (kd := (2, 10)) rfl (x_fr e22) d_WD_order_23 ?_
      obtain ⟨_, e23, hf⟩ := x_b hf
      obtain ⟨n24, hT25⟩ := x_is_e e23
      obtain ⟨a26, e27, hf⟩ := x_b hf
      refine x_get (C := "WallDamp$Wall") (F := F_Wall) (N := 9) hx hb hts i_Wall hown hK hH hT25 (by decide) rfl 0 (by decide) (hts _ m_298) (fun _ h9 => h9) (kd := (2, 55)) rfl (x_fr e27) d_WD_order_26 ?_
      obtain ⟨n28, e29, hf⟩ := x_b hf
      refine x_alen hx hb hK hH (x_len_e e29) (by decide) 4 rfl d_WD_order_29 ?_
      refine lv_iconst (v := 5) hx hb d_WD_order_30 (by decide) ?_
      refine lv_icmp_le (tgt := 44) hx hb d_WD_order_31 (by decide) (fun c30 => ?_) (fun c30 => ?_)
      · have hf := x_it hf c30
        refine lv_aload_n hx hb d_WD_order_44 rfl (lv_at hl 0 rfl) ?_
        obtain ⟨a31, e32, hf⟩ := x_b hf
        refine x_get (C := "WallDamp") (F := F_WD) (N := 8) hx hb hts i_WD hown hK hH hT7 (by decide) rfl 4 (by decide) (hts _ m_349) (fun _ h9 => h9) (kd := (2, 11)) rfl (x_fr e32) d_WD_order_45 ?_
        refine lv_aload_n hx hb d_WD_order_48 rfl (lv_at hl 0 rfl) ?_
        obtain ⟨a33, e34, hf⟩ := x_b hf
        refine x_get (C := "WallDamp") (F := F_WD) (N := 8) hx hb hts i_WD hown hK hH hT7 (by decide) rfl 3 (by decide) (hts _ m_348) (fun _ h9 => h9) (kd := (2, 10)) rfl (x_fr e34) d_WD_order_49 ?_
        refine lv_aload_n hx hb d_WD_order_52 rfl (lv_at hl 0 rfl) ?_
        obtain ⟨a35, e36, hf⟩ := x_b hf
        refine x_get (C := "WallDamp") (F := F_WD) (N := 8) hx hb hts i_WD hown hK hH hT7 (by decide) rfl 1 (by decide) (hts _ m_346) (fun _ h9 => h9) (kd := (2, 8)) rfl (x_fr e36) d_WD_order_53 ?_
        refine lv_iload_n hx hb d_WD_order_56 rfl (lv_at hl 1 rfl) ?_
        obtain ⟨_, e39, hf⟩ := x_b hf
        obtain ⟨n40, hT41⟩ := x_is_e e39
        obtain ⟨q37, e38, hf⟩ := x_b hf
        refine x_call (st1 := []) (x_runV (As := [.ref (ad a33), .ref (ad a35), .int l1]) (rest := []) ⟨hx, hb, hml, hown, hts⟩ (c_Trials_findDriest l D aC ad T nx s.heap.size w a31 a33 a35 l1 q37 e38) (cwV 3 hts (x_gV m_759 m_760 m_761 m_12 m_762) rfl rfl rfl ⟨rfl, pd_Trials_findDriest⟩ ⟨Nat.le_of_ble_eq_true rfl, Nat.le_of_ble_eq_true rfl⟩) hH hK hX hT41 (by decide) rfl rfl rfl hl.1 rfl (lv_room (Nat.le_of_ble_eq_true rfl)) d_WD_order_57 ⟨Nat.zero_le _, Nat.zero_le _⟩) rfl hH hA hS (fun H locs hH hS => ?_)
        refine lv_aload_n hx hb d_WD_order_60 rfl (lv_at hl 0 rfl) ?_
        obtain ⟨a42, e43, hf⟩ := x_b hf
        refine x_get (C := "WallDamp") (F := F_WD) (N := 8) hx hb hts i_WD hown hK hH hT7 (by decide) rfl 4 (by decide) (hts _ m_349) (fun _ h9 => h9) (kd := (2, 11)) rfl (x_fr e43) d_WD_order_61 ?_
        obtain ⟨_, e44, hf⟩ := x_b hf
        obtain ⟨n45, hT46⟩ := x_is_e e44
        obtain ⟨a47, e48, hf⟩ := x_b hf
        refine x_get (C := "WallDamp$Trials") (F := F_Trials) (N := 3) hx hb hts i_Trials hown hK hH hT46 (by decide) rfl 0 (by decide) (hts _ m_335) (fun _ h9 => h9) (kd := (2, 52)) rfl (x_fr e48) d_WD_order_64 ?_
        refine lv_iload_n hx hb d_WD_order_67 rfl (lv_at hl 2 rfl) ?_
        obtain ⟨_, e49, hf⟩ := x_b hf
        obtain ⟨n50, hT51, hi52⟩ := x_ix_e e49
        refine x_iald hx hb hK hH hT51 0 rfl hi52 d_WD_order_68 ?_
        cases hf
        refine x_sz0 hS (fun hz => ?_)
        exact x_mono x_MQ_of (W.iret hx hb hr (fun t ht hW => ⟨rfl, hS.F ht, by rw [ht]; exact hz, by rw [ht]; exact hH.weaken (fun _ _ _ => trivial)⟩) hS.2.2 d_WD_order_69)
      · have hf := x_if hf c30
        cases hf
        exact x_throw hx hb hml hl.1 hown hlocks hexc hfl hTf (k := 2) (iS := 217) (tx := "there are more than 5 cells") (by simp [x_str]) (by decide) (at_ISE_166 hts hTf) (hts _ m_465) (hts _ m_466) (hts _ m_18) (by decide) (by decide) (Nat.le_refl _) (Nat.le_refl _) d_WD_order_34 d_WD_order_37 d_WD_order_38 d_WD_order_40 d_WD_order_43 (fun x t h => ⟨x, rfl, h⟩)
theorem c_WD_order (l : Launch) (hfl : l.flags = pinnedFlags ++ [noTraceFlag]) (D : va_G) (aC : Nat → ClassId) (ad : Nat → Nat) (T : x_T) (nx sz : Nat) (w : x_W) (a0 : Nat) (a1 : Int32) (a2 : Int32) (q : Except Nat (Int32 × x_W)) (hf : f_WD_order T w a0 a1 a2 = some q) : x_Met l y_WD_order ws_WD_order { frames := 7, cells := x_mc q, slots := x_ms q, locals := 151 } (x_Pt D aC ad T nx sz w [.ref (ad a0), .int a1, .int a2]) (x_Qx (α := Int32 × x_W) D aC ad T nx (fun r => some (.int r.1)) (fun r => r.2) (x_dom ad nx sz) q) (x_mc q) (x_ms q) (x_dom ad nx sz) :=
  x_metT hfl [(0, .ref (ad a0)), (1, .int a1), (2, .int a2)] (by decide) rfl rfl (Nat.le_of_ble_eq_true rfl) m_757 (fun p e s m args below meth c ls C0 hH hl => k_WD_order C0 w _ a0 a1 a2 hf hH (lv_sub hl [0, 1, 2] rfl))
