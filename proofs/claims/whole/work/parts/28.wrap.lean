/-! WallDampLaw.curve -/
def f_Law_curve (T : x_T) (w : x_W) (a0 : Nat) (a1 : Int32) (a2 : Int32) (a3 : Int32) (a4 : Nat) : Option (Int32 × x_W) :=
  (x_is T a0 0).bind fun _ =>
  (f_WD_curve T w a0 a1 a2 a3).bind fun o =>
    x_cc o (fun q =>
      (x_ix T a4 101 0).bind fun _ =>
      (some (x_sB q.2 a4 (0 : Int32).toNatClampNeg q.1.toInt64)).bind fun w1 =>
      some ((0 : Int32), w1))
    (fun k => if k = 1 then some ((1 : Int32), w) else if k = 2 then some ((2 : Int32), w) else none)
def ws_Law_curve : List Cond := .codeWith y_Law_curve b_Law_curve 6 (some (.int)) [(0, 12, 15, 13), (0, 12, 19, 15)] :: x_tb
set_option maxHeartbeats 4000000 in
set_option maxRecDepth 100000 in
theorem c_Law_curve (l : Launch) (hfl : l.flags = pinnedFlags ++ [noTraceFlag]) (D : va_G) (aC : Nat → ClassId) (ad : Nat → Nat) (T : x_T) (nx sz : Nat) (w : x_W) (a0 : Nat) (a1 : Int32) (a2 : Int32) (a3 : Int32) (a4 : Nat) (r : Int32 × x_W) (hf : f_Law_curve T w a0 a1 a2 a3 a4 = some r) : Met l y_Law_curve ws_Law_curve { frames := 9, cells := 1, slots := 6, locals := 157 } (x_Pw D aC ad T nx sz w [.ref (ad a0), .int a1, .int a2, .int a3, .ref (ad a4)]) (x_Qw D aC ad T nx (some (.int r.1)) r.2 (x_dom ad nx sz)) 1 6 (x_dom ad nx sz) := by
  refine x_metW [(0, .ref (ad a0)), (1, .int a1), (2, .int a2), (3, .int a3), (4, .ref (ad a4))] (by decide) rfl rfl (Nat.le_of_ble_eq_true rfl) m_379 (fun p e s m args below meth c ls C0 hTf hN htab hH hl => ?_)
  obtain ⟨hx, hb, hr, hml, hown, hts, hlocks, hK, hA, hX⟩ := id C0
  have hS : va_S (x_dom ad nx sz) s.heap s.heap [] := va_S.rf
  unfold f_Law_curve at hf
  obtain ⟨_, e1, hf⟩ := x_b hf
  obtain ⟨n1, hT1⟩ := x_is_e e1
  obtain ⟨o, e2, hf⟩ := x_b hf
  refine lv_aload hx hb d_Law_curve_0 (lv_at hl 4 rfl) ?_
  refine lv_iconst (v := 0) hx hb d_Law_curve_2 (by decide) ?_
  refine lv_aload_n hx hb d_Law_curve_3 rfl (lv_at hl 0 rfl) ?_
  refine lv_iload_n hx hb d_Law_curve_4 rfl (lv_at hl 1 rfl) ?_
  refine lv_iload_n hx hb d_Law_curve_5 rfl (lv_at hl 2 rfl) ?_
  refine lv_iload_n hx hb d_Law_curve_6 rfl (lv_at hl 3 rfl) ?_
  cases o with
  | error k =>
    have hf := x_ce hf
    by_cases hk : k = 1
    · subst hk
      have hf := x_it hf rfl
      cases hf
      refine x_catchA (k := 1) (A := x_dom ad nx sz) (x_runTV (As := [.int a1, .int a2, .int a3]) (rest := [.int (0 : Int32), .ref (ad a4)]) ⟨hx, hb, hml, hown, hts⟩ (c_WD_curve l hfl D aC ad T nx s.heap.size w a0 a1 a2 a3 _ e2) (fun _ _ _ _ h => ⟨_, h.choose_spec.1⟩) (cwV 3 hts (x_gV m_382 m_383 m_384 m_1 m_385) rfl rfl rfl ⟨rfl, pd_WD_curve⟩ ⟨Nat.le_of_ble_eq_true rfl, Nat.le_of_ble_eq_true rfl⟩) (x_preVt hH hK hX hTf hT1 (by decide) rfl rfl) rfl rfl hl.1 rfl (lv_room (Nat.le_of_ble_eq_true rfl)) d_Law_curve_7 ⟨Nat.le_refl _, Nat.le_refl _⟩) (fun _ _ _ h => by obtain ⟨x9, e9, h9⟩ := h; cases e9; exact h9) (x_domA hH hA) hA htab (by decide) (by decide) hown (hts _ m_380) (fun H L x hold hS => ?_)
      refine lv_astore (lv' := [(5, .ref x), (0, .ref (ad a0)), (1, .int a1), (2, .int a2), (3, .int a3), (4, .ref (ad a4))]) hx hb d_Law_curve_15 hl (by decide) rfl (fun ls hl => ?_)
      refine lv_iconst (v := 1) hx hb d_Law_curve_17 (by decide) ?_
      exact W.iret hx hb hr (fun t ht hW => ⟨rfl, hS.F ht, by rw [ht]; exact (hH.kept (fun i hi => hold _ (hH.lt hi))).weaken (fun _ _ _ => trivial)⟩) hS.2.2 d_Law_curve_18
    · have hf := x_if hf hk
      by_cases hk2 : k = 2
      · subst hk2
        have hf := x_it hf rfl
        cases hf
        refine x_catchB (k := 2) (A := x_dom ad nx sz) (x_runTV (As := [.int a1, .int a2, .int a3]) (rest := [.int (0 : Int32), .ref (ad a4)]) ⟨hx, hb, hml, hown, hts⟩ (c_WD_curve l hfl D aC ad T nx s.heap.size w a0 a1 a2 a3 _ e2) (fun _ _ _ _ h => ⟨_, h.choose_spec.1⟩) (cwV 3 hts (x_gV m_382 m_383 m_384 m_1 m_385) rfl rfl rfl ⟨rfl, pd_WD_curve⟩ ⟨Nat.le_of_ble_eq_true rfl, Nat.le_of_ble_eq_true rfl⟩) (x_preVt hH hK hX hTf hT1 (by decide) rfl rfl) rfl rfl hl.1 rfl (lv_room (Nat.le_of_ble_eq_true rfl)) d_Law_curve_7 ⟨Nat.le_refl _, Nat.le_refl _⟩) (fun _ _ _ h => by obtain ⟨x9, e9, h9⟩ := h; cases e9; exact h9) (x_domA hH hA) hA htab (by decide) (by decide) (by decide) (by decide) hown (hts _ m_380) hN (hts _ m_381) (fun H L x hold hS => ?_)
        refine lv_astore (lv' := [(5, .ref x), (0, .ref (ad a0)), (1, .int a1), (2, .int a2), (3, .int a3), (4, .ref (ad a4))]) hx hb d_Law_curve_19 hl (by decide) rfl (fun ls hl => ?_)
        refine lv_iconst (v := 2) hx hb d_Law_curve_21 (by decide) ?_
        exact W.iret hx hb hr (fun t ht hW => ⟨rfl, hS.F ht, by rw [ht]; exact (hH.kept (fun i hi => hold _ (hH.lt hi))).weaken (fun _ _ _ => trivial)⟩) hS.2.2 d_Law_curve_22
      · have hf := x_if hf hk2
        cases hf
  | ok q =>
    have hf := x_co hf
    refine x_call (v := some (.int q.1)) (w' := q.2) (st1 := [.int q.1, .int (0 : Int32), .ref (ad a4)]) (va_runV (As := [.int a1, .int a2, .int a3]) (rest := [.int (0 : Int32), .ref (ad a4)]) ⟨hx, hb, hml, hown, hts⟩ (x_Met.met (c_WD_curve l hfl D aC ad T nx s.heap.size w a0 a1 a2 a3 _ e2) (fun _ _ _ _ h => ⟨_, h.1⟩)) (cwV 3 hts (x_gV m_382 m_383 m_384 m_1 m_385) rfl rfl rfl ⟨rfl, pd_WD_curve⟩ ⟨Nat.le_of_ble_eq_true rfl, Nat.le_of_ble_eq_true rfl⟩) (x_preVt hH hK hX hTf hT1 (by decide) rfl rfl) rfl rfl hl.1 rfl (lv_room (Nat.le_of_ble_eq_true rfl)) d_Law_curve_7 ⟨Nat.zero_le _, Nat.zero_le _⟩) rfl hH hA hS (fun H locs hH hS => ?_)
    refine lv_i2l (v := q.1.toInt64) hx hb d_Law_curve_10 rfl ?_
    obtain ⟨_, e3, hf⟩ := x_b hf
    obtain ⟨n3, hT3, hi3⟩ := x_ix_e e3
    refine x_last hx hb hK hH hS hT3 1 rfl hi3 d_Law_curve_11 (fun H locs hH hS => ?_)
    obtain ⟨w1, e4, hf⟩ := x_b hf
    have hH := x_nw e4 hH
    refine lv_goto (tgt := 23) hx hb d_Law_curve_12 (by decide) ?_
    refine lv_iconst (v := 0) hx hb d_Law_curve_23 (by decide) ?_
    cases hf
    refine W.widen (k := 1) (n := 6) (Nat.zero_le _) (Nat.zero_le _) ?_
    exact W.iret hx hb hr (fun t ht hW => ⟨rfl, hS.F ht, by rw [ht]; exact hH.weaken (fun _ _ _ => trivial)⟩) hS.2.2 d_Law_curve_24
/-! WallDampLaw.rates -/
def f_Law_rates (T : x_T) (w : x_W) (a0 : Nat) (a1 : Int32) (a2 : Int32) (a3 : Int32) (a4 : Int32) : Option (Int32 × x_W) :=
  (x_is T a0 0).bind fun _ =>
  (f_WD_rates T w a0 a1 a2 a3 a4).bind fun o =>
    x_cc o (fun q =>
      some ((0 : Int32), q))
    (fun k => if k = 1 then some ((1 : Int32), w) else none)
def ws_Law_rates : List Cond := .codeWith y_Law_rates b_Law_rates 6 (some (.int)) [(0, 9, 12, 13)] :: x_tb
set_option maxHeartbeats 4000000 in
set_option maxRecDepth 100000 in
theorem c_Law_rates (l : Launch) (hfl : l.flags = pinnedFlags ++ [noTraceFlag]) (D : va_G) (aC : Nat → ClassId) (ad : Nat → Nat) (T : x_T) (nx sz : Nat) (w : x_W) (a0 : Nat) (a1 : Int32) (a2 : Int32) (a3 : Int32) (a4 : Int32) (r : Int32 × x_W) (hf : f_Law_rates T w a0 a1 a2 a3 a4 = some r) : Met l y_Law_rates ws_Law_rates { frames := 9, cells := 1, slots := 6, locals := 158 } (x_Pw D aC ad T nx sz w [.ref (ad a0), .int a1, .int a2, .int a3, .int a4]) (x_Qw D aC ad T nx (some (.int r.1)) r.2 (x_dom ad nx sz)) 1 6 (x_dom ad nx sz) := by
  refine x_metW [(0, .ref (ad a0)), (1, .int a1), (2, .int a2), (3, .int a3), (4, .int a4)] (by decide) rfl rfl (Nat.le_of_ble_eq_true rfl) m_492 (fun p e s m args below meth c ls C0 hTf hN htab hH hl => ?_)
  obtain ⟨hx, hb, hr, hml, hown, hts, hlocks, hK, hA, hX⟩ := id C0
  have hS : va_S (x_dom ad nx sz) s.heap s.heap [] := va_S.rf
  unfold f_Law_rates at hf
  obtain ⟨_, e1, hf⟩ := x_b hf
  obtain ⟨n1, hT1⟩ := x_is_e e1
  obtain ⟨o, e2, hf⟩ := x_b hf
  refine lv_aload_n hx hb d_Law_rates_0 rfl (lv_at hl 0 rfl) ?_
  refine lv_iload_n hx hb d_Law_rates_1 rfl (lv_at hl 1 rfl) ?_
  refine lv_iload_n hx hb d_Law_rates_2 rfl (lv_at hl 2 rfl) ?_
  refine lv_iload_n hx hb d_Law_rates_3 rfl (lv_at hl 3 rfl) ?_
  refine lv_iload hx hb d_Law_rates_4 (lv_at hl 4 rfl) ?_
  cases o with
  | error k =>
    have hf := x_ce hf
    by_cases hk : k = 1
    · subst hk
      have hf := x_it hf rfl
      cases hf
      refine x_catchA (k := 1) (A := x_dom ad nx sz) (x_runTV (As := [.int a1, .int a2, .int a3, .int a4]) (rest := []) ⟨hx, hb, hml, hown, hts⟩ (c_WD_rates l hfl D aC ad T nx s.heap.size w a0 a1 a2 a3 a4 _ e2) (fun _ _ _ _ h => ⟨_, h.choose_spec.1⟩) (cwV 4 hts (x_gV m_493 m_494 m_495 m_1 m_496) rfl rfl rfl ⟨rfl, pd_WD_rates⟩ ⟨Nat.le_of_ble_eq_true rfl, Nat.le_of_ble_eq_true rfl⟩) (x_preVt hH hK hX hTf hT1 (by decide) rfl rfl) rfl rfl hl.1 rfl (lv_room (Nat.le_of_ble_eq_true rfl)) d_Law_rates_6 ⟨Nat.le_refl _, Nat.le_refl _⟩) (fun _ _ _ h => by obtain ⟨x9, e9, h9⟩ := h; cases e9; exact h9) (x_domA hH hA) hA htab (by decide) (by decide) hown (hts _ m_380) (fun H L x hold hS => ?_)
      refine lv_astore (lv' := [(5, .ref x), (0, .ref (ad a0)), (1, .int a1), (2, .int a2), (3, .int a3), (4, .int a4)]) hx hb d_Law_rates_12 hl (by decide) rfl (fun ls hl => ?_)
      refine lv_iconst (v := 1) hx hb d_Law_rates_14 (by decide) ?_
      exact W.iret hx hb hr (fun t ht hW => ⟨rfl, hS.F ht, by rw [ht]; exact (hH.kept (fun i hi => hold _ (hH.lt hi))).weaken (fun _ _ _ => trivial)⟩) hS.2.2 d_Law_rates_15
    · have hf := x_if hf hk
      cases hf
  | ok q =>
    have hf := x_co hf
    refine x_call (v := none) (w' := q) (st1 := []) (va_runV (As := [.int a1, .int a2, .int a3, .int a4]) (rest := []) ⟨hx, hb, hml, hown, hts⟩ (x_Met.met (c_WD_rates l hfl D aC ad T nx s.heap.size w a0 a1 a2 a3 a4 _ e2) (fun _ _ _ _ h => ⟨_, h.1⟩)) (cwV 4 hts (x_gV m_493 m_494 m_495 m_1 m_496) rfl rfl rfl ⟨rfl, pd_WD_rates⟩ ⟨Nat.le_of_ble_eq_true rfl, Nat.le_of_ble_eq_true rfl⟩) (x_preVt hH hK hX hTf hT1 (by decide) rfl rfl) rfl rfl hl.1 rfl (lv_room (Nat.le_of_ble_eq_true rfl)) d_Law_rates_6 ⟨Nat.zero_le _, Nat.zero_le _⟩) rfl hH hA hS (fun H locs hH hS => ?_)
    refine lv_goto (tgt := 16) hx hb d_Law_rates_9 (by decide) ?_
    refine lv_iconst (v := 0) hx hb d_Law_rates_16 (by decide) ?_
    cases hf
    refine W.widen (k := 1) (n := 6) (Nat.zero_le _) (Nat.zero_le _) ?_
    exact W.iret hx hb hr (fun t ht hW => ⟨rfl, hS.F ht, by rw [ht]; exact hH.weaken (fun _ _ _ => trivial)⟩) hS.2.2 d_Law_rates_17
/-! WallDampLaw.cell -/
def f_Law_cell1 (T : x_T) (w : x_W) (a0 : Nat) (a1 : Int32) (a2 : Int32) (a3 : Int32) : Option (Int32 × x_W) :=
  (x_is T a0 0).bind fun _ =>
  (f_WD_cell T w a0 a1 a2 a3).bind fun o =>
    x_cc o (fun q =>
      some ((0 : Int32), q))
    (fun k => if k = 1 then some ((1 : Int32), w) else if k = 2 then some ((2 : Int32), w) else none)
def ws_Law_cell1 : List Cond := .codeWith y_Law_cell1 b_Law_cell1 5 (some (.int)) [(0, 7, 10, 13), (0, 7, 14, 15)] :: x_tb
set_option maxHeartbeats 4000000 in
set_option maxRecDepth 100000 in
theorem c_Law_cell1 (l : Launch) (hfl : l.flags = pinnedFlags ++ [noTraceFlag]) (D : va_G) (aC : Nat → ClassId) (ad : Nat → Nat) (T : x_T) (nx sz : Nat) (w : x_W) (a0 : Nat) (a1 : Int32) (a2 : Int32) (a3 : Int32) (r : Int32 × x_W) (hf : f_Law_cell1 T w a0 a1 a2 a3 = some r) : Met l y_Law_cell1 ws_Law_cell1 { frames := 9, cells := 1, slots := 6, locals := 158 } (x_Pw D aC ad T nx sz w [.ref (ad a0), .int a1, .int a2, .int a3]) (x_Qw D aC ad T nx (some (.int r.1)) r.2 (x_dom ad nx sz)) 1 6 (x_dom ad nx sz) := by
  refine x_metW [(0, .ref (ad a0)), (1, .int a1), (2, .int a2), (3, .int a3)] (by decide) rfl rfl (Nat.le_of_ble_eq_true rfl) m_499 (fun p e s m args below meth c ls C0 hTf hN htab hH hl => ?_)
  obtain ⟨hx, hb, hr, hml, hown, hts, hlocks, hK, hA, hX⟩ := id C0
  have hS : va_S (x_dom ad nx sz) s.heap s.heap [] := va_S.rf
  unfold f_Law_cell1 at hf
  obtain ⟨_, e1, hf⟩ := x_b hf
  obtain ⟨n1, hT1⟩ := x_is_e e1
  obtain ⟨o, e2, hf⟩ := x_b hf
  refine lv_aload_n hx hb d_Law_cell1_0 rfl (lv_at hl 0 rfl) ?_
  refine lv_iload_n hx hb d_Law_cell1_1 rfl (lv_at hl 1 rfl) ?_
  refine lv_iload_n hx hb d_Law_cell1_2 rfl (lv_at hl 2 rfl) ?_
  refine lv_iload_n hx hb d_Law_cell1_3 rfl (lv_at hl 3 rfl) ?_
  cases o with
  | error k =>
    have hf := x_ce hf
    by_cases hk : k = 1
    · subst hk
      have hf := x_it hf rfl
      cases hf
      refine x_catchA (k := 1) (A := x_dom ad nx sz) (x_runTV (As := [.int a1, .int a2, .int a3]) (rest := []) ⟨hx, hb, hml, hown, hts⟩ (c_WD_cell l hfl D aC ad T nx s.heap.size w a0 a1 a2 a3 _ e2) (fun _ _ _ _ h => ⟨_, h.choose_spec.1⟩) (cwV 3 hts (x_gV m_500 m_501 m_502 m_1 m_503) rfl rfl rfl ⟨rfl, pd_WD_cell⟩ ⟨Nat.le_of_ble_eq_true rfl, Nat.le_of_ble_eq_true rfl⟩) (x_preVt hH hK hX hTf hT1 (by decide) rfl rfl) rfl rfl hl.1 rfl (lv_room (Nat.le_of_ble_eq_true rfl)) d_Law_cell1_4 ⟨Nat.le_refl _, Nat.le_refl _⟩) (fun _ _ _ h => by obtain ⟨x9, e9, h9⟩ := h; cases e9; exact h9) (x_domA hH hA) hA htab (by decide) (by decide) hown (hts _ m_380) (fun H L x hold hS => ?_)
      refine lv_astore (lv' := [(4, .ref x), (0, .ref (ad a0)), (1, .int a1), (2, .int a2), (3, .int a3)]) hx hb d_Law_cell1_10 hl (by decide) rfl (fun ls hl => ?_)
      refine lv_iconst (v := 1) hx hb d_Law_cell1_12 (by decide) ?_
      exact W.iret hx hb hr (fun t ht hW => ⟨rfl, hS.F ht, by rw [ht]; exact (hH.kept (fun i hi => hold _ (hH.lt hi))).weaken (fun _ _ _ => trivial)⟩) hS.2.2 d_Law_cell1_13
    · have hf := x_if hf hk
      by_cases hk2 : k = 2
      · subst hk2
        have hf := x_it hf rfl
        cases hf
        refine x_catchB (k := 2) (A := x_dom ad nx sz) (x_runTV (As := [.int a1, .int a2, .int a3]) (rest := []) ⟨hx, hb, hml, hown, hts⟩ (c_WD_cell l hfl D aC ad T nx s.heap.size w a0 a1 a2 a3 _ e2) (fun _ _ _ _ h => ⟨_, h.choose_spec.1⟩) (cwV 3 hts (x_gV m_500 m_501 m_502 m_1 m_503) rfl rfl rfl ⟨rfl, pd_WD_cell⟩ ⟨Nat.le_of_ble_eq_true rfl, Nat.le_of_ble_eq_true rfl⟩) (x_preVt hH hK hX hTf hT1 (by decide) rfl rfl) rfl rfl hl.1 rfl (lv_room (Nat.le_of_ble_eq_true rfl)) d_Law_cell1_4 ⟨Nat.le_refl _, Nat.le_refl _⟩) (fun _ _ _ h => by obtain ⟨x9, e9, h9⟩ := h; cases e9; exact h9) (x_domA hH hA) hA htab (by decide) (by decide) (by decide) (by decide) hown (hts _ m_380) hN (hts _ m_381) (fun H L x hold hS => ?_)
        refine lv_astore (lv' := [(4, .ref x), (0, .ref (ad a0)), (1, .int a1), (2, .int a2), (3, .int a3)]) hx hb d_Law_cell1_14 hl (by decide) rfl (fun ls hl => ?_)
        refine lv_iconst (v := 2) hx hb d_Law_cell1_16 (by decide) ?_
        exact W.iret hx hb hr (fun t ht hW => ⟨rfl, hS.F ht, by rw [ht]; exact (hH.kept (fun i hi => hold _ (hH.lt hi))).weaken (fun _ _ _ => trivial)⟩) hS.2.2 d_Law_cell1_17
      · have hf := x_if hf hk2
        cases hf
  | ok q =>
    have hf := x_co hf
    refine x_call (v := none) (w' := q) (st1 := []) (va_runV (As := [.int a1, .int a2, .int a3]) (rest := []) ⟨hx, hb, hml, hown, hts⟩ (x_Met.met (c_WD_cell l hfl D aC ad T nx s.heap.size w a0 a1 a2 a3 _ e2) (fun _ _ _ _ h => ⟨_, h.1⟩)) (cwV 3 hts (x_gV m_500 m_501 m_502 m_1 m_503) rfl rfl rfl ⟨rfl, pd_WD_cell⟩ ⟨Nat.le_of_ble_eq_true rfl, Nat.le_of_ble_eq_true rfl⟩) (x_preVt hH hK hX hTf hT1 (by decide) rfl rfl) rfl rfl hl.1 rfl (lv_room (Nat.le_of_ble_eq_true rfl)) d_Law_cell1_4 ⟨Nat.zero_le _, Nat.zero_le _⟩) rfl hH hA hS (fun H locs hH hS => ?_)
    refine lv_goto (tgt := 18) hx hb d_Law_cell1_7 (by decide) ?_
    refine lv_iconst (v := 0) hx hb d_Law_cell1_18 (by decide) ?_
    cases hf
    refine W.widen (k := 1) (n := 6) (Nat.zero_le _) (Nat.zero_le _) ?_
    exact W.iret hx hb hr (fun t ht hW => ⟨rfl, hS.F ht, by rw [ht]; exact hH.weaken (fun _ _ _ => trivial)⟩) hS.2.2 d_Law_cell1_19
/-! WallDampLaw.table -/
def f_Law_table (T : x_T) (w : x_W) (a0 : Nat) (a1 : Int32) (a2 : Int32) (a3 : Nat) : Option (Int32 × x_W) :=
  (x_is T a0 0).bind fun _ =>
  (f_WD_table T w a0 a1 a2).bind fun o =>
    x_cc o (fun q =>
      (x_ix T a3 101 0).bind fun _ =>
      (some (x_sB q.2 a3 (0 : Int32).toNatClampNeg q.1.toInt64)).bind fun w1 =>
      some ((0 : Int32), w1))
    (fun k => if k = 1 then some ((1 : Int32), w) else if k = 2 then some ((2 : Int32), w) else none)
def ws_Law_table : List Cond := .codeWith y_Law_table b_Law_table 5 (some (.int)) [(0, 10, 13, 13), (0, 10, 17, 15)] :: x_tb
set_option maxHeartbeats 4000000 in
set_option maxRecDepth 100000 in
theorem c_Law_table (l : Launch) (hfl : l.flags = pinnedFlags ++ [noTraceFlag]) (D : va_G) (aC : Nat → ClassId) (ad : Nat → Nat) (T : x_T) (nx sz : Nat) (w : x_W) (a0 : Nat) (a1 : Int32) (a2 : Int32) (a3 : Nat) (r : Int32 × x_W) (hf : f_Law_table T w a0 a1 a2 a3 = some r) : Met l y_Law_table ws_Law_table { frames := 8, cells := 1, slots := 6, locals := 134 } (x_Pw D aC ad T nx sz w [.ref (ad a0), .int a1, .int a2, .ref (ad a3)]) (x_Qw D aC ad T nx (some (.int r.1)) r.2 (x_dom ad nx sz)) 1 6 (x_dom ad nx sz) := by
  refine x_metW [(0, .ref (ad a0)), (1, .int a1), (2, .int a2), (3, .ref (ad a3))] (by decide) rfl rfl (Nat.le_of_ble_eq_true rfl) m_510 (fun p e s m args below meth c ls C0 hTf hN htab hH hl => ?_)
  obtain ⟨hx, hb, hr, hml, hown, hts, hlocks, hK, hA, hX⟩ := id C0
  have hS : va_S (x_dom ad nx sz) s.heap s.heap [] := va_S.rf
  unfold f_Law_table at hf
  obtain ⟨_, e1, hf⟩ := x_b hf
  obtain ⟨n1, hT1⟩ := x_is_e e1
  obtain ⟨o, e2, hf⟩ := x_b hf
  refine lv_aload_n hx hb d_Law_table_0 rfl (lv_at hl 3 rfl) ?_
  refine lv_iconst (v := 0) hx hb d_Law_table_1 (by decide) ?_
  refine lv_aload_n hx hb d_Law_table_2 rfl (lv_at hl 0 rfl) ?_
  refine lv_iload_n hx hb d_Law_table_3 rfl (lv_at hl 1 rfl) ?_
  refine lv_iload_n hx hb d_Law_table_4 rfl (lv_at hl 2 rfl) ?_
  cases o with
  | error k =>
    have hf := x_ce hf
    by_cases hk : k = 1
    · subst hk
      have hf := x_it hf rfl
      cases hf
      refine x_catchA (k := 1) (A := x_dom ad nx sz) (x_runTV (As := [.int a1, .int a2]) (rest := [.int (0 : Int32), .ref (ad a3)]) ⟨hx, hb, hml, hown, hts⟩ (c_WD_table l hfl D aC ad T nx s.heap.size w a0 a1 a2 _ e2) (fun _ _ _ _ h => ⟨_, h.choose_spec.1⟩) (cwV 2 hts (x_gV m_511 m_512 m_513 m_1 m_514) rfl rfl rfl ⟨rfl, pd_WD_table⟩ ⟨Nat.le_of_ble_eq_true rfl, Nat.le_of_ble_eq_true rfl⟩) (x_preVt hH hK hX hTf hT1 (by decide) rfl rfl) rfl rfl hl.1 rfl (lv_room (Nat.le_of_ble_eq_true rfl)) d_Law_table_5 ⟨Nat.le_refl _, Nat.le_refl _⟩) (fun _ _ _ h => by obtain ⟨x9, e9, h9⟩ := h; cases e9; exact h9) (x_domA hH hA) hA htab (by decide) (by decide) hown (hts _ m_380) (fun H L x hold hS => ?_)
      refine lv_astore (lv' := [(4, .ref x), (0, .ref (ad a0)), (1, .int a1), (2, .int a2), (3, .ref (ad a3))]) hx hb d_Law_table_13 hl (by decide) rfl (fun ls hl => ?_)
      refine lv_iconst (v := 1) hx hb d_Law_table_15 (by decide) ?_
      exact W.iret hx hb hr (fun t ht hW => ⟨rfl, hS.F ht, by rw [ht]; exact (hH.kept (fun i hi => hold _ (hH.lt hi))).weaken (fun _ _ _ => trivial)⟩) hS.2.2 d_Law_table_16
    · have hf := x_if hf hk
      by_cases hk2 : k = 2
      · subst hk2
        have hf := x_it hf rfl
        cases hf
        refine x_catchB (k := 2) (A := x_dom ad nx sz) (x_runTV (As := [.int a1, .int a2]) (rest := [.int (0 : Int32), .ref (ad a3)]) ⟨hx, hb, hml, hown, hts⟩ (c_WD_table l hfl D aC ad T nx s.heap.size w a0 a1 a2 _ e2) (fun _ _ _ _ h => ⟨_, h.choose_spec.1⟩) (cwV 2 hts (x_gV m_511 m_512 m_513 m_1 m_514) rfl rfl rfl ⟨rfl, pd_WD_table⟩ ⟨Nat.le_of_ble_eq_true rfl, Nat.le_of_ble_eq_true rfl⟩) (x_preVt hH hK hX hTf hT1 (by decide) rfl rfl) rfl rfl hl.1 rfl (lv_room (Nat.le_of_ble_eq_true rfl)) d_Law_table_5 ⟨Nat.le_refl _, Nat.le_refl _⟩) (fun _ _ _ h => by obtain ⟨x9, e9, h9⟩ := h; cases e9; exact h9) (x_domA hH hA) hA htab (by decide) (by decide) (by decide) (by decide) hown (hts _ m_380) hN (hts _ m_381) (fun H L x hold hS => ?_)
        refine lv_astore (lv' := [(4, .ref x), (0, .ref (ad a0)), (1, .int a1), (2, .int a2), (3, .ref (ad a3))]) hx hb d_Law_table_17 hl (by decide) rfl (fun ls hl => ?_)
        refine lv_iconst (v := 2) hx hb d_Law_table_19 (by decide) ?_
        exact W.iret hx hb hr (fun t ht hW => ⟨rfl, hS.F ht, by rw [ht]; exact (hH.kept (fun i hi => hold _ (hH.lt hi))).weaken (fun _ _ _ => trivial)⟩) hS.2.2 d_Law_table_20
      · have hf := x_if hf hk2
        cases hf
  | ok q =>
    have hf := x_co hf
    refine x_call (v := some (.int q.1)) (w' := q.2) (st1 := [.int q.1, .int (0 : Int32), .ref (ad a3)]) (va_runV (As := [.int a1, .int a2]) (rest := [.int (0 : Int32), .ref (ad a3)]) ⟨hx, hb, hml, hown, hts⟩ (x_Met.met (c_WD_table l hfl D aC ad T nx s.heap.size w a0 a1 a2 _ e2) (fun _ _ _ _ h => ⟨_, h.1⟩)) (cwV 2 hts (x_gV m_511 m_512 m_513 m_1 m_514) rfl rfl rfl ⟨rfl, pd_WD_table⟩ ⟨Nat.le_of_ble_eq_true rfl, Nat.le_of_ble_eq_true rfl⟩) (x_preVt hH hK hX hTf hT1 (by decide) rfl rfl) rfl rfl hl.1 rfl (lv_room (Nat.le_of_ble_eq_true rfl)) d_Law_table_5 ⟨Nat.zero_le _, Nat.zero_le _⟩) rfl hH hA hS (fun H locs hH hS => ?_)
    refine lv_i2l (v := q.1.toInt64) hx hb d_Law_table_8 rfl ?_
    obtain ⟨_, e3, hf⟩ := x_b hf
    obtain ⟨n3, hT3, hi3⟩ := x_ix_e e3
    refine x_last hx hb hK hH hS hT3 1 rfl hi3 d_Law_table_9 (fun H locs hH hS => ?_)
    obtain ⟨w1, e4, hf⟩ := x_b hf
    have hH := x_nw e4 hH
    refine lv_goto (tgt := 21) hx hb d_Law_table_10 (by decide) ?_
    refine lv_iconst (v := 0) hx hb d_Law_table_21 (by decide) ?_
    cases hf
    refine W.widen (k := 1) (n := 6) (Nat.zero_le _) (Nat.zero_le _) ?_
    exact W.iret hx hb hr (fun t ht hW => ⟨rfl, hS.F ht, by rw [ht]; exact hH.weaken (fun _ _ _ => trivial)⟩) hS.2.2 d_Law_table_22
/-! WallDampLaw.full -/
def f_Law_full (T : x_T) (w : x_W) (a0 : Nat) (a1 : Int32) (a2 : Nat) : Option (Int32 × x_W) :=
  (x_is T a0 0).bind fun _ =>
  (f_WD_full T w a0 a1).bind fun o =>
    x_cc o (fun q =>
      (x_ix T a2 101 0).bind fun _ =>
      (some (x_sB w a2 (0 : Int32).toNatClampNeg q.toInt64)).bind fun w1 =>
      some ((0 : Int32), w1))
    (fun k => if k = 1 then some ((1 : Int32), w) else none)
def ws_Law_full : List Cond := .codeWith y_Law_full b_Law_full 4 (some (.int)) [(0, 9, 12, 13)] :: x_tb
set_option maxHeartbeats 4000000 in
set_option maxRecDepth 100000 in
theorem c_Law_full (l : Launch) (hfl : l.flags = pinnedFlags ++ [noTraceFlag]) (D : va_G) (aC : Nat → ClassId) (ad : Nat → Nat) (T : x_T) (nx sz : Nat) (w : x_W) (a0 : Nat) (a1 : Int32) (a2 : Nat) (r : Int32 × x_W) (hf : f_Law_full T w a0 a1 a2 = some r) : Met l y_Law_full ws_Law_full { frames := 8, cells := 1, slots := 6, locals := 133 } (x_Pw D aC ad T nx sz w [.ref (ad a0), .int a1, .ref (ad a2)]) (x_Qw D aC ad T nx (some (.int r.1)) r.2 (x_dom ad nx sz)) 1 6 (x_dom ad nx sz) := by
  refine x_metW [(0, .ref (ad a0)), (1, .int a1), (2, .ref (ad a2))] (by decide) rfl rfl (Nat.le_of_ble_eq_true rfl) m_518 (fun p e s m args below meth c ls C0 hTf hN htab hH hl => ?_)
  obtain ⟨hx, hb, hr, hml, hown, hts, hlocks, hK, hA, hX⟩ := id C0
  have hS : va_S (x_dom ad nx sz) s.heap s.heap [] := va_S.rf
  unfold f_Law_full at hf
  obtain ⟨_, e1, hf⟩ := x_b hf
  obtain ⟨n1, hT1⟩ := x_is_e e1
  obtain ⟨o, e2, hf⟩ := x_b hf
  refine lv_aload_n hx hb d_Law_full_0 rfl (lv_at hl 2 rfl) ?_
  refine lv_iconst (v := 0) hx hb d_Law_full_1 (by decide) ?_
  refine lv_aload_n hx hb d_Law_full_2 rfl (lv_at hl 0 rfl) ?_
  refine lv_iload_n hx hb d_Law_full_3 rfl (lv_at hl 1 rfl) ?_
  cases o with
  | error k =>
    have hf := x_ce hf
    by_cases hk : k = 1
    · subst hk
      have hf := x_it hf rfl
      cases hf
      refine x_catchA (k := 1) (A := x_dom ad nx sz) (x_runTV (As := [.int a1]) (rest := [.int (0 : Int32), .ref (ad a2)]) ⟨hx, hb, hml, hown, hts⟩ (c_WD_full l hfl D aC ad T nx s.heap.size w a0 a1 _ e2) (fun _ _ _ _ h => ⟨_, h.choose_spec.1⟩) (cwV 1 hts (x_gV m_519 m_520 m_521 m_1 m_522) rfl rfl rfl ⟨rfl, pd_WD_full⟩ ⟨Nat.le_of_ble_eq_true rfl, Nat.le_of_ble_eq_true rfl⟩) (x_preVt hH hK hX hTf hT1 (by decide) rfl rfl) rfl rfl hl.1 rfl (lv_room (Nat.le_of_ble_eq_true rfl)) d_Law_full_4 ⟨Nat.le_refl _, Nat.le_refl _⟩) (fun _ _ _ h => by obtain ⟨x9, e9, h9⟩ := h; cases e9; exact h9) (fun _ h => h.elim) hA htab (by decide) (by decide) hown (hts _ m_380) (fun H L x hold hS => ?_)
      refine lv_astore_n (lv' := [(3, .ref x), (0, .ref (ad a0)), (1, .int a1), (2, .ref (ad a2))]) hx hb d_Law_full_12 rfl hl (by decide) rfl (fun ls hl => ?_)
      refine lv_iconst (v := 1) hx hb d_Law_full_13 (by decide) ?_
      exact W.iret hx hb hr (fun t ht hW => ⟨rfl, hS.F ht, by rw [ht]; exact (hH.kept (fun i hi => hold _ (hH.lt hi))).weaken (fun _ _ _ => trivial)⟩) hS.2.2 d_Law_full_14
    · have hf := x_if hf hk
      cases hf
  | ok q =>
    have hf := x_co hf
    refine x_callP (v := some (.int q)) (st1 := [.int q, .int (0 : Int32), .ref (ad a2)]) (va_runV (As := [.int a1]) (rest := [.int (0 : Int32), .ref (ad a2)]) ⟨hx, hb, hml, hown, hts⟩ (x_Met.met (c_WD_full l hfl D aC ad T nx s.heap.size w a0 a1 _ e2) (fun _ _ _ _ h => ⟨_, h.1⟩)) (cwV 1 hts (x_gV m_519 m_520 m_521 m_1 m_522) rfl rfl rfl ⟨rfl, pd_WD_full⟩ ⟨Nat.le_of_ble_eq_true rfl, Nat.le_of_ble_eq_true rfl⟩) (x_preVt hH hK hX hTf hT1 (by decide) rfl rfl) rfl rfl hl.1 rfl (lv_room (Nat.le_of_ble_eq_true rfl)) d_Law_full_4 ⟨Nat.zero_le _, Nat.zero_le _⟩) rfl ?_
    refine lv_i2l (v := q.toInt64) hx hb d_Law_full_7 rfl ?_
    obtain ⟨_, e3, hf⟩ := x_b hf
    obtain ⟨n3, hT3, hi3⟩ := x_ix_e e3
    refine x_last hx hb hK hH hS hT3 1 rfl hi3 d_Law_full_8 (fun H locs hH hS => ?_)
    obtain ⟨w1, e4, hf⟩ := x_b hf
    have hH := x_nw e4 hH
    refine lv_goto (tgt := 15) hx hb d_Law_full_9 (by decide) ?_
    refine lv_iconst (v := 0) hx hb d_Law_full_15 (by decide) ?_
    cases hf
    refine W.widen (k := 1) (n := 6) (Nat.zero_le _) (Nat.zero_le _) ?_
    exact W.iret hx hb hr (fun t ht hW => ⟨rfl, hS.F ht, by rw [ht]; exact hH.weaken (fun _ _ _ => trivial)⟩) hS.2.2 d_Law_full_16
/-! WallDampLaw.films -/
def f_Law_films (T : x_T) (w : x_W) (a0 : Nat) (a1 : Int32) (a2 : Int32) : Option (Int32 × x_W) :=
  (x_is T a0 0).bind fun _ =>
  (f_WD_films T w a0 a1 a2).bind fun o =>
    x_cc o (fun q =>
      some ((0 : Int32), q))
    (fun k => if k = 1 then some ((1 : Int32), w) else none)
def ws_Law_films : List Cond := .codeWith y_Law_films b_Law_films 4 (some (.int)) [(0, 6, 9, 13)] :: x_tb
set_option maxHeartbeats 4000000 in
set_option maxRecDepth 100000 in
theorem c_Law_films (l : Launch) (hfl : l.flags = pinnedFlags ++ [noTraceFlag]) (D : va_G) (aC : Nat → ClassId) (ad : Nat → Nat) (T : x_T) (nx sz : Nat) (w : x_W) (a0 : Nat) (a1 : Int32) (a2 : Int32) (r : Int32 × x_W) (hf : f_Law_films T w a0 a1 a2 = some r) : Met l y_Law_films ws_Law_films { frames := 8, cells := 1, slots := 6, locals := 134 } (x_Pw D aC ad T nx sz w [.ref (ad a0), .int a1, .int a2]) (x_Qw D aC ad T nx (some (.int r.1)) r.2 (x_dom ad nx sz)) 1 6 (x_dom ad nx sz) := by
  refine x_metW [(0, .ref (ad a0)), (1, .int a1), (2, .int a2)] (by decide) rfl rfl (Nat.le_of_ble_eq_true rfl) m_529 (fun p e s m args below meth c ls C0 hTf hN htab hH hl => ?_)
  obtain ⟨hx, hb, hr, hml, hown, hts, hlocks, hK, hA, hX⟩ := id C0
  have hS : va_S (x_dom ad nx sz) s.heap s.heap [] := va_S.rf
  unfold f_Law_films at hf
  obtain ⟨_, e1, hf⟩ := x_b hf
  obtain ⟨n1, hT1⟩ := x_is_e e1
  obtain ⟨o, e2, hf⟩ := x_b hf
  refine lv_aload_n hx hb d_Law_films_0 rfl (lv_at hl 0 rfl) ?_
  refine lv_iload_n hx hb d_Law_films_1 rfl (lv_at hl 1 rfl) ?_
  refine lv_iload_n hx hb d_Law_films_2 rfl (lv_at hl 2 rfl) ?_
  cases o with
  | error k =>
    have hf := x_ce hf
    by_cases hk : k = 1
    · subst hk
      have hf := x_it hf rfl
      cases hf
      refine x_catchA (k := 1) (A := x_dom ad nx sz) (x_runTV (As := [.int a1, .int a2]) (rest := []) ⟨hx, hb, hml, hown, hts⟩ (c_WD_films l hfl D aC ad T nx s.heap.size w a0 a1 a2 _ e2) (fun _ _ _ _ h => ⟨_, h.choose_spec.1⟩) (cwV 2 hts (x_gV m_530 m_531 m_532 m_1 m_533) rfl rfl rfl ⟨rfl, pd_WD_films⟩ ⟨Nat.le_of_ble_eq_true rfl, Nat.le_of_ble_eq_true rfl⟩) (x_preVt hH hK hX hTf hT1 (by decide) rfl rfl) rfl rfl hl.1 rfl (lv_room (Nat.le_of_ble_eq_true rfl)) d_Law_films_3 ⟨Nat.le_refl _, Nat.le_refl _⟩) (fun _ _ _ h => by obtain ⟨x9, e9, h9⟩ := h; cases e9; exact h9) (x_domA hH hA) hA htab (by decide) (by decide) hown (hts _ m_380) (fun H L x hold hS => ?_)
      refine lv_astore_n (lv' := [(3, .ref x), (0, .ref (ad a0)), (1, .int a1), (2, .int a2)]) hx hb d_Law_films_9 rfl hl (by decide) rfl (fun ls hl => ?_)
      refine lv_iconst (v := 1) hx hb d_Law_films_10 (by decide) ?_
      exact W.iret hx hb hr (fun t ht hW => ⟨rfl, hS.F ht, by rw [ht]; exact (hH.kept (fun i hi => hold _ (hH.lt hi))).weaken (fun _ _ _ => trivial)⟩) hS.2.2 d_Law_films_11
    · have hf := x_if hf hk
      cases hf
  | ok q =>
    have hf := x_co hf
    refine x_call (v := none) (w' := q) (st1 := []) (va_runV (As := [.int a1, .int a2]) (rest := []) ⟨hx, hb, hml, hown, hts⟩ (x_Met.met (c_WD_films l hfl D aC ad T nx s.heap.size w a0 a1 a2 _ e2) (fun _ _ _ _ h => ⟨_, h.1⟩)) (cwV 2 hts (x_gV m_530 m_531 m_532 m_1 m_533) rfl rfl rfl ⟨rfl, pd_WD_films⟩ ⟨Nat.le_of_ble_eq_true rfl, Nat.le_of_ble_eq_true rfl⟩) (x_preVt hH hK hX hTf hT1 (by decide) rfl rfl) rfl rfl hl.1 rfl (lv_room (Nat.le_of_ble_eq_true rfl)) d_Law_films_3 ⟨Nat.zero_le _, Nat.zero_le _⟩) rfl hH hA hS (fun H locs hH hS => ?_)
    refine lv_goto (tgt := 12) hx hb d_Law_films_6 (by decide) ?_
    refine lv_iconst (v := 0) hx hb d_Law_films_12 (by decide) ?_
    cases hf
    refine W.widen (k := 1) (n := 6) (Nat.zero_le _) (Nat.zero_le _) ?_
    exact W.iret hx hb hr (fun t ht hW => ⟨rfl, hS.F ht, by rw [ht]; exact hH.weaken (fun _ _ _ => trivial)⟩) hS.2.2 d_Law_films_13
/-! WallDampLaw.outside -/
def f_Law_outside (T : x_T) (w : x_W) (a0 : Nat) (a1 : Int32) (a2 : Int32) (a3 : Int32) (a4 : Int32) (a5 : Int32) : Option (Int32 × x_W) :=
  (x_is T a0 0).bind fun _ =>
  (f_WD_outside T w a0 a1 a2 a3 a4 a5).bind fun o =>
    x_cc o (fun q =>
      some ((0 : Int32), q))
    (fun k => if k = 1 then some ((1 : Int32), w) else none)
def ws_Law_outside : List Cond := .codeWith y_Law_outside b_Law_outside 7 (some (.int)) [(0, 11, 14, 13)] :: x_tb
set_option maxHeartbeats 4000000 in
set_option maxRecDepth 100000 in
theorem c_Law_outside (l : Launch) (hfl : l.flags = pinnedFlags ++ [noTraceFlag]) (D : va_G) (aC : Nat → ClassId) (ad : Nat → Nat) (T : x_T) (nx sz : Nat) (w : x_W) (a0 : Nat) (a1 : Int32) (a2 : Int32) (a3 : Int32) (a4 : Int32) (a5 : Int32) (r : Int32 × x_W) (hf : f_Law_outside T w a0 a1 a2 a3 a4 a5 = some r) : Met l y_Law_outside ws_Law_outside { frames := 9, cells := 1, slots := 6, locals := 159 } (x_Pw D aC ad T nx sz w [.ref (ad a0), .int a1, .int a2, .int a3, .int a4, .int a5]) (x_Qw D aC ad T nx (some (.int r.1)) r.2 (x_dom ad nx sz)) 1 6 (x_dom ad nx sz) := by
  refine x_metW [(0, .ref (ad a0)), (1, .int a1), (2, .int a2), (3, .int a3), (4, .int a4), (5, .int a5)] (by decide) rfl rfl (Nat.le_of_ble_eq_true rfl) m_536 (fun p e s m args below meth c ls C0 hTf hN htab hH hl => ?_)
  obtain ⟨hx, hb, hr, hml, hown, hts, hlocks, hK, hA, hX⟩ := id C0
  have hS : va_S (x_dom ad nx sz) s.heap s.heap [] := va_S.rf
  unfold f_Law_outside at hf
  obtain ⟨_, e1, hf⟩ := x_b hf
  obtain ⟨n1, hT1⟩ := x_is_e e1
  obtain ⟨o, e2, hf⟩ := x_b hf
  refine lv_aload_n hx hb d_Law_outside_0 rfl (lv_at hl 0 rfl) ?_
  refine lv_iload_n hx hb d_Law_outside_1 rfl (lv_at hl 1 rfl) ?_
  refine lv_iload_n hx hb d_Law_outside_2 rfl (lv_at hl 2 rfl) ?_
  refine lv_iload_n hx hb d_Law_outside_3 rfl (lv_at hl 3 rfl) ?_
  refine lv_iload hx hb d_Law_outside_4 (lv_at hl 4 rfl) ?_
  refine lv_iload hx hb d_Law_outside_6 (lv_at hl 5 rfl) ?_
  cases o with
  | error k =>
    have hf := x_ce hf
    by_cases hk : k = 1
    · subst hk
      have hf := x_it hf rfl
      cases hf
      refine x_catchA (k := 1) (A := x_dom ad nx sz) (x_runTV (As := [.int a1, .int a2, .int a3, .int a4, .int a5]) (rest := []) ⟨hx, hb, hml, hown, hts⟩ (c_WD_outside l hfl D aC ad T nx s.heap.size w a0 a1 a2 a3 a4 a5 _ e2) (fun _ _ _ _ h => ⟨_, h.choose_spec.1⟩) (cwV 5 hts (x_gV m_537 m_538 m_539 m_1 m_540) rfl rfl rfl ⟨rfl, pd_WD_outside⟩ ⟨Nat.le_of_ble_eq_true rfl, Nat.le_of_ble_eq_true rfl⟩) (x_preVt hH hK hX hTf hT1 (by decide) rfl rfl) rfl rfl hl.1 rfl (lv_room (Nat.le_of_ble_eq_true rfl)) d_Law_outside_8 ⟨Nat.le_refl _, Nat.le_refl _⟩) (fun _ _ _ h => by obtain ⟨x9, e9, h9⟩ := h; cases e9; exact h9) (x_domA hH hA) hA htab (by decide) (by decide) hown (hts _ m_380) (fun H L x hold hS => ?_)
      refine lv_astore (lv' := [(6, .ref x), (0, .ref (ad a0)), (1, .int a1), (2, .int a2), (3, .int a3), (4, .int a4), (5, .int a5)]) hx hb d_Law_outside_14 hl (by decide) rfl (fun ls hl => ?_)
      refine lv_iconst (v := 1) hx hb d_Law_outside_16 (by decide) ?_
      exact W.iret hx hb hr (fun t ht hW => ⟨rfl, hS.F ht, by rw [ht]; exact (hH.kept (fun i hi => hold _ (hH.lt hi))).weaken (fun _ _ _ => trivial)⟩) hS.2.2 d_Law_outside_17
    · have hf := x_if hf hk
      cases hf
  | ok q =>
    have hf := x_co hf
    refine x_call (v := none) (w' := q) (st1 := []) (va_runV (As := [.int a1, .int a2, .int a3, .int a4, .int a5]) (rest := []) ⟨hx, hb, hml, hown, hts⟩ (x_Met.met (c_WD_outside l hfl D aC ad T nx s.heap.size w a0 a1 a2 a3 a4 a5 _ e2) (fun _ _ _ _ h => ⟨_, h.1⟩)) (cwV 5 hts (x_gV m_537 m_538 m_539 m_1 m_540) rfl rfl rfl ⟨rfl, pd_WD_outside⟩ ⟨Nat.le_of_ble_eq_true rfl, Nat.le_of_ble_eq_true rfl⟩) (x_preVt hH hK hX hTf hT1 (by decide) rfl rfl) rfl rfl hl.1 rfl (lv_room (Nat.le_of_ble_eq_true rfl)) d_Law_outside_8 ⟨Nat.zero_le _, Nat.zero_le _⟩) rfl hH hA hS (fun H locs hH hS => ?_)
    refine lv_goto (tgt := 18) hx hb d_Law_outside_11 (by decide) ?_
    refine lv_iconst (v := 0) hx hb d_Law_outside_18 (by decide) ?_
    cases hf
    refine W.widen (k := 1) (n := 6) (Nat.zero_le _) (Nat.zero_le _) ?_
    exact W.iret hx hb hr (fun t ht hW => ⟨rfl, hS.F ht, by rw [ht]; exact hH.weaken (fun _ _ _ => trivial)⟩) hS.2.2 d_Law_outside_19
/-! WallDampLaw.inside -/
def f_Law_inside (T : x_T) (w : x_W) (a0 : Nat) (a1 : Int32) (a2 : Int32) (a3 : Int32) : Option (Int32 × x_W) :=
  (x_is T a0 0).bind fun _ =>
  (f_WD_inside T w a0 a1 a2 a3).bind fun o =>
    x_cc o (fun q =>
      some ((0 : Int32), q))
    (fun k => if k = 1 then some ((1 : Int32), w) else none)
def ws_Law_inside : List Cond := .codeWith y_Law_inside b_Law_inside 5 (some (.int)) [(0, 7, 10, 13)] :: x_tb
set_option maxHeartbeats 4000000 in
set_option maxRecDepth 100000 in
theorem c_Law_inside (l : Launch) (hfl : l.flags = pinnedFlags ++ [noTraceFlag]) (D : va_G) (aC : Nat → ClassId) (ad : Nat → Nat) (T : x_T) (nx sz : Nat) (w : x_W) (a0 : Nat) (a1 : Int32) (a2 : Int32) (a3 : Int32) (r : Int32 × x_W) (hf : f_Law_inside T w a0 a1 a2 a3 = some r) : Met l y_Law_inside ws_Law_inside { frames := 9, cells := 1, slots := 6, locals := 157 } (x_Pw D aC ad T nx sz w [.ref (ad a0), .int a1, .int a2, .int a3]) (x_Qw D aC ad T nx (some (.int r.1)) r.2 (x_dom ad nx sz)) 1 6 (x_dom ad nx sz) := by
  refine x_metW [(0, .ref (ad a0)), (1, .int a1), (2, .int a2), (3, .int a3)] (by decide) rfl rfl (Nat.le_of_ble_eq_true rfl) m_546 (fun p e s m args below meth c ls C0 hTf hN htab hH hl => ?_)
  obtain ⟨hx, hb, hr, hml, hown, hts, hlocks, hK, hA, hX⟩ := id C0
  have hS : va_S (x_dom ad nx sz) s.heap s.heap [] := va_S.rf
  unfold f_Law_inside at hf
  obtain ⟨_, e1, hf⟩ := x_b hf
  obtain ⟨n1, hT1⟩ := x_is_e e1
  obtain ⟨o, e2, hf⟩ := x_b hf
  refine lv_aload_n hx hb d_Law_inside_0 rfl (lv_at hl 0 rfl) ?_
  refine lv_iload_n hx hb d_Law_inside_1 rfl (lv_at hl 1 rfl) ?_
  refine lv_iload_n hx hb d_Law_inside_2 rfl (lv_at hl 2 rfl) ?_
  refine lv_iload_n hx hb d_Law_inside_3 rfl (lv_at hl 3 rfl) ?_
  cases o with
  | error k =>
    have hf := x_ce hf
    by_cases hk : k = 1
    · subst hk
      have hf := x_it hf rfl
      cases hf
      refine x_catchA (k := 1) (A := x_dom ad nx sz) (x_runTV (As := [.int a1, .int a2, .int a3]) (rest := []) ⟨hx, hb, hml, hown, hts⟩ (c_WD_inside l hfl D aC ad T nx s.heap.size w a0 a1 a2 a3 _ e2) (fun _ _ _ _ h => ⟨_, h.choose_spec.1⟩) (cwV 3 hts (x_gV m_547 m_548 m_549 m_1 m_550) rfl rfl rfl ⟨rfl, pd_WD_inside⟩ ⟨Nat.le_of_ble_eq_true rfl, Nat.le_of_ble_eq_true rfl⟩) (x_preVt hH hK hX hTf hT1 (by decide) rfl rfl) rfl rfl hl.1 rfl (lv_room (Nat.le_of_ble_eq_true rfl)) d_Law_inside_4 ⟨Nat.le_refl _, Nat.le_refl _⟩) (fun _ _ _ h => by obtain ⟨x9, e9, h9⟩ := h; cases e9; exact h9) (x_domA hH hA) hA htab (by decide) (by decide) hown (hts _ m_380) (fun H L x hold hS => ?_)
      refine lv_astore (lv' := [(4, .ref x), (0, .ref (ad a0)), (1, .int a1), (2, .int a2), (3, .int a3)]) hx hb d_Law_inside_10 hl (by decide) rfl (fun ls hl => ?_)
      refine lv_iconst (v := 1) hx hb d_Law_inside_12 (by decide) ?_
      exact W.iret hx hb hr (fun t ht hW => ⟨rfl, hS.F ht, by rw [ht]; exact (hH.kept (fun i hi => hold _ (hH.lt hi))).weaken (fun _ _ _ => trivial)⟩) hS.2.2 d_Law_inside_13
    · have hf := x_if hf hk
      cases hf
  | ok q =>
    have hf := x_co hf
    refine x_call (v := none) (w' := q) (st1 := []) (va_runV (As := [.int a1, .int a2, .int a3]) (rest := []) ⟨hx, hb, hml, hown, hts⟩ (x_Met.met (c_WD_inside l hfl D aC ad T nx s.heap.size w a0 a1 a2 a3 _ e2) (fun _ _ _ _ h => ⟨_, h.1⟩)) (cwV 3 hts (x_gV m_547 m_548 m_549 m_1 m_550) rfl rfl rfl ⟨rfl, pd_WD_inside⟩ ⟨Nat.le_of_ble_eq_true rfl, Nat.le_of_ble_eq_true rfl⟩) (x_preVt hH hK hX hTf hT1 (by decide) rfl rfl) rfl rfl hl.1 rfl (lv_room (Nat.le_of_ble_eq_true rfl)) d_Law_inside_4 ⟨Nat.zero_le _, Nat.zero_le _⟩) rfl hH hA hS (fun H locs hH hS => ?_)
    refine lv_goto (tgt := 14) hx hb d_Law_inside_7 (by decide) ?_
    refine lv_iconst (v := 0) hx hb d_Law_inside_14 (by decide) ?_
    cases hf
    refine W.widen (k := 1) (n := 6) (Nat.zero_le _) (Nat.zero_le _) ?_
    exact W.iret hx hb hr (fun t ht hW => ⟨rfl, hS.F ht, by rw [ht]; exact hH.weaken (fun _ _ _ => trivial)⟩) hS.2.2 d_Law_inside_15
/-! WallDampLaw.water -/
def f_Law_water (T : x_T) (w : x_W) (a0 : Nat) (a1 : Int32) (a2 : Int32) (a3 : Nat) : Option (Int32 × x_W) :=
  (x_is T a0 0).bind fun _ =>
  (f_WD_water T w a0 a1 a2).bind fun o =>
    x_cc o (fun q =>
      (x_ix T a3 101 0).bind fun _ =>
      (some (x_sB q.2 a3 (0 : Int32).toNatClampNeg q.1.toInt64)).bind fun w1 =>
      some ((0 : Int32), w1))
    (fun k => if k = 1 then some ((1 : Int32), w) else none)
def ws_Law_water : List Cond := .codeWith y_Law_water b_Law_water 5 (some (.int)) [(0, 10, 13, 13)] :: x_tb
set_option maxHeartbeats 4000000 in
set_option maxRecDepth 100000 in
theorem c_Law_water (l : Launch) (hfl : l.flags = pinnedFlags ++ [noTraceFlag]) (D : va_G) (aC : Nat → ClassId) (ad : Nat → Nat) (T : x_T) (nx sz : Nat) (w : x_W) (a0 : Nat) (a1 : Int32) (a2 : Int32) (a3 : Nat) (r : Int32 × x_W) (hf : f_Law_water T w a0 a1 a2 a3 = some r) : Met l y_Law_water ws_Law_water { frames := 9, cells := 1, slots := 6, locals := 157 } (x_Pw D aC ad T nx sz w [.ref (ad a0), .int a1, .int a2, .ref (ad a3)]) (x_Qw D aC ad T nx (some (.int r.1)) r.2 (x_dom ad nx sz)) 1 6 (x_dom ad nx sz) := by
  refine x_metW [(0, .ref (ad a0)), (1, .int a1), (2, .int a2), (3, .ref (ad a3))] (by decide) rfl rfl (Nat.le_of_ble_eq_true rfl) m_553 (fun p e s m args below meth c ls C0 hTf hN htab hH hl => ?_)
  obtain ⟨hx, hb, hr, hml, hown, hts, hlocks, hK, hA, hX⟩ := id C0
  have hS : va_S (x_dom ad nx sz) s.heap s.heap [] := va_S.rf
  unfold f_Law_water at hf
  obtain ⟨_, e1, hf⟩ := x_b hf
  obtain ⟨n1, hT1⟩ := x_is_e e1
  obtain ⟨o, e2, hf⟩ := x_b hf
  refine lv_aload_n hx hb d_Law_water_0 rfl (lv_at hl 3 rfl) ?_
  refine lv_iconst (v := 0) hx hb d_Law_water_1 (by decide) ?_
  refine lv_aload_n hx hb d_Law_water_2 rfl (lv_at hl 0 rfl) ?_
  refine lv_iload_n hx hb d_Law_water_3 rfl (lv_at hl 1 rfl) ?_
  refine lv_iload_n hx hb d_Law_water_4 rfl (lv_at hl 2 rfl) ?_
  cases o with
  | error k =>
    have hf := x_ce hf
    by_cases hk : k = 1
    · subst hk
      have hf := x_it hf rfl
      cases hf
      refine x_catchA (k := 1) (A := x_dom ad nx sz) (x_runTV (As := [.int a1, .int a2]) (rest := [.int (0 : Int32), .ref (ad a3)]) ⟨hx, hb, hml, hown, hts⟩ (c_WD_water l hfl D aC ad T nx s.heap.size w a0 a1 a2 _ e2) (fun _ _ _ _ h => ⟨_, h.choose_spec.1⟩) (cwV 2 hts (x_gV m_554 m_555 m_556 m_1 m_557) rfl rfl rfl ⟨rfl, pd_WD_water⟩ ⟨Nat.le_of_ble_eq_true rfl, Nat.le_of_ble_eq_true rfl⟩) (x_preVt hH hK hX hTf hT1 (by decide) rfl rfl) rfl rfl hl.1 rfl (lv_room (Nat.le_of_ble_eq_true rfl)) d_Law_water_5 ⟨Nat.le_refl _, Nat.le_refl _⟩) (fun _ _ _ h => by obtain ⟨x9, e9, h9⟩ := h; cases e9; exact h9) (x_domA hH hA) hA htab (by decide) (by decide) hown (hts _ m_380) (fun H L x hold hS => ?_)
      refine lv_astore (lv' := [(4, .ref x), (0, .ref (ad a0)), (1, .int a1), (2, .int a2), (3, .ref (ad a3))]) hx hb d_Law_water_13 hl (by decide) rfl (fun ls hl => ?_)
      refine lv_iconst (v := 1) hx hb d_Law_water_15 (by decide) ?_
      exact W.iret hx hb hr (fun t ht hW => ⟨rfl, hS.F ht, by rw [ht]; exact (hH.kept (fun i hi => hold _ (hH.lt hi))).weaken (fun _ _ _ => trivial)⟩) hS.2.2 d_Law_water_16
    · have hf := x_if hf hk
      cases hf
  | ok q =>
    have hf := x_co hf
    refine x_call (v := some (.int q.1)) (w' := q.2) (st1 := [.int q.1, .int (0 : Int32), .ref (ad a3)]) (va_runV (As := [.int a1, .int a2]) (rest := [.int (0 : Int32), .ref (ad a3)]) ⟨hx, hb, hml, hown, hts⟩ (x_Met.met (c_WD_water l hfl D aC ad T nx s.heap.size w a0 a1 a2 _ e2) (fun _ _ _ _ h => ⟨_, h.1⟩)) (cwV 2 hts (x_gV m_554 m_555 m_556 m_1 m_557) rfl rfl rfl ⟨rfl, pd_WD_water⟩ ⟨Nat.le_of_ble_eq_true rfl, Nat.le_of_ble_eq_true rfl⟩) (x_preVt hH hK hX hTf hT1 (by decide) rfl rfl) rfl rfl hl.1 rfl (lv_room (Nat.le_of_ble_eq_true rfl)) d_Law_water_5 ⟨Nat.zero_le _, Nat.zero_le _⟩) rfl hH hA hS (fun H locs hH hS => ?_)
    refine lv_i2l (v := q.1.toInt64) hx hb d_Law_water_8 rfl ?_
    obtain ⟨_, e3, hf⟩ := x_b hf
    obtain ⟨n3, hT3, hi3⟩ := x_ix_e e3
    refine x_last hx hb hK hH hS hT3 1 rfl hi3 d_Law_water_9 (fun H locs hH hS => ?_)
    obtain ⟨w1, e4, hf⟩ := x_b hf
    have hH := x_nw e4 hH
    refine lv_goto (tgt := 17) hx hb d_Law_water_10 (by decide) ?_
    refine lv_iconst (v := 0) hx hb d_Law_water_17 (by decide) ?_
    cases hf
    refine W.widen (k := 1) (n := 6) (Nat.zero_le _) (Nat.zero_le _) ?_
    exact W.iret hx hb hr (fun t ht hW => ⟨rfl, hS.F ht, by rw [ht]; exact hH.weaken (fun _ _ _ => trivial)⟩) hS.2.2 d_Law_water_18
/-! WallDampLaw.leak -/
def f_Law_leak (T : x_T) (w : x_W) (a0 : Nat) (a1 : Int32) (a2 : Int32) (a3 : Nat) : Option (Int32 × x_W) :=
  (x_is T a0 0).bind fun _ =>
  (f_WD_leak T w a0 a1 a2).bind fun o =>
    x_cc o (fun q =>
      (x_ix T a3 101 0).bind fun _ =>
      (some (x_sB q.2 a3 (0 : Int32).toNatClampNeg q.1.toInt64)).bind fun w1 =>
      some ((0 : Int32), w1))
    (fun k => if k = 1 then some ((1 : Int32), w) else none)
def ws_Law_leak : List Cond := .codeWith y_Law_leak b_Law_leak 5 (some (.int)) [(0, 10, 13, 13)] :: x_tb
set_option maxHeartbeats 4000000 in
set_option maxRecDepth 100000 in
theorem c_Law_leak (l : Launch) (hfl : l.flags = pinnedFlags ++ [noTraceFlag]) (D : va_G) (aC : Nat → ClassId) (ad : Nat → Nat) (T : x_T) (nx sz : Nat) (w : x_W) (a0 : Nat) (a1 : Int32) (a2 : Int32) (a3 : Nat) (r : Int32 × x_W) (hf : f_Law_leak T w a0 a1 a2 a3 = some r) : Met l y_Law_leak ws_Law_leak { frames := 9, cells := 1, slots := 6, locals := 157 } (x_Pw D aC ad T nx sz w [.ref (ad a0), .int a1, .int a2, .ref (ad a3)]) (x_Qw D aC ad T nx (some (.int r.1)) r.2 (x_dom ad nx sz)) 1 6 (x_dom ad nx sz) := by
  refine x_metW [(0, .ref (ad a0)), (1, .int a1), (2, .int a2), (3, .ref (ad a3))] (by decide) rfl rfl (Nat.le_of_ble_eq_true rfl) m_568 (fun p e s m args below meth c ls C0 hTf hN htab hH hl => ?_)
  obtain ⟨hx, hb, hr, hml, hown, hts, hlocks, hK, hA, hX⟩ := id C0
  have hS : va_S (x_dom ad nx sz) s.heap s.heap [] := va_S.rf
  unfold f_Law_leak at hf
  obtain ⟨_, e1, hf⟩ := x_b hf
  obtain ⟨n1, hT1⟩ := x_is_e e1
  obtain ⟨o, e2, hf⟩ := x_b hf
  refine lv_aload_n hx hb d_Law_leak_0 rfl (lv_at hl 3 rfl) ?_
  refine lv_iconst (v := 0) hx hb d_Law_leak_1 (by decide) ?_
  refine lv_aload_n hx hb d_Law_leak_2 rfl (lv_at hl 0 rfl) ?_
  refine lv_iload_n hx hb d_Law_leak_3 rfl (lv_at hl 1 rfl) ?_
  refine lv_iload_n hx hb d_Law_leak_4 rfl (lv_at hl 2 rfl) ?_
  cases o with
  | error k =>
    have hf := x_ce hf
    by_cases hk : k = 1
    · subst hk
      have hf := x_it hf rfl
      cases hf
      refine x_catchA (k := 1) (A := x_dom ad nx sz) (x_runTV (As := [.int a1, .int a2]) (rest := [.int (0 : Int32), .ref (ad a3)]) ⟨hx, hb, hml, hown, hts⟩ (c_WD_leak l hfl D aC ad T nx s.heap.size w a0 a1 a2 _ e2) (fun _ _ _ _ h => ⟨_, h.choose_spec.1⟩) (cwV 2 hts (x_gV m_569 m_570 m_571 m_1 m_572) rfl rfl rfl ⟨rfl, pd_WD_leak⟩ ⟨Nat.le_of_ble_eq_true rfl, Nat.le_of_ble_eq_true rfl⟩) (x_preVt hH hK hX hTf hT1 (by decide) rfl rfl) rfl rfl hl.1 rfl (lv_room (Nat.le_of_ble_eq_true rfl)) d_Law_leak_5 ⟨Nat.le_refl _, Nat.le_refl _⟩) (fun _ _ _ h => by obtain ⟨x9, e9, h9⟩ := h; cases e9; exact h9) (x_domA hH hA) hA htab (by decide) (by decide) hown (hts _ m_380) (fun H L x hold hS => ?_)
      refine lv_astore (lv' := [(4, .ref x), (0, .ref (ad a0)), (1, .int a1), (2, .int a2), (3, .ref (ad a3))]) hx hb d_Law_leak_13 hl (by decide) rfl (fun ls hl => ?_)
      refine lv_iconst (v := 1) hx hb d_Law_leak_15 (by decide) ?_
      exact W.iret hx hb hr (fun t ht hW => ⟨rfl, hS.F ht, by rw [ht]; exact (hH.kept (fun i hi => hold _ (hH.lt hi))).weaken (fun _ _ _ => trivial)⟩) hS.2.2 d_Law_leak_16
    · have hf := x_if hf hk
      cases hf
  | ok q =>
    have hf := x_co hf
    refine x_call (v := some (.int q.1)) (w' := q.2) (st1 := [.int q.1, .int (0 : Int32), .ref (ad a3)]) (va_runV (As := [.int a1, .int a2]) (rest := [.int (0 : Int32), .ref (ad a3)]) ⟨hx, hb, hml, hown, hts⟩ (x_Met.met (c_WD_leak l hfl D aC ad T nx s.heap.size w a0 a1 a2 _ e2) (fun _ _ _ _ h => ⟨_, h.1⟩)) (cwV 2 hts (x_gV m_569 m_570 m_571 m_1 m_572) rfl rfl rfl ⟨rfl, pd_WD_leak⟩ ⟨Nat.le_of_ble_eq_true rfl, Nat.le_of_ble_eq_true rfl⟩) (x_preVt hH hK hX hTf hT1 (by decide) rfl rfl) rfl rfl hl.1 rfl (lv_room (Nat.le_of_ble_eq_true rfl)) d_Law_leak_5 ⟨Nat.zero_le _, Nat.zero_le _⟩) rfl hH hA hS (fun H locs hH hS => ?_)
    refine lv_i2l (v := q.1.toInt64) hx hb d_Law_leak_8 rfl ?_
    obtain ⟨_, e3, hf⟩ := x_b hf
    obtain ⟨n3, hT3, hi3⟩ := x_ix_e e3
    refine x_last hx hb hK hH hS hT3 1 rfl hi3 d_Law_leak_9 (fun H locs hH hS => ?_)
    obtain ⟨w1, e4, hf⟩ := x_b hf
    have hH := x_nw e4 hH
    refine lv_goto (tgt := 17) hx hb d_Law_leak_10 (by decide) ?_
    refine lv_iconst (v := 0) hx hb d_Law_leak_17 (by decide) ?_
    cases hf
    refine W.widen (k := 1) (n := 6) (Nat.zero_le _) (Nat.zero_le _) ?_
    exact W.iret hx hb hr (fun t ht hW => ⟨rfl, hS.F ht, by rw [ht]; exact hH.weaken (fun _ _ _ => trivial)⟩) hS.2.2 d_Law_leak_18
/-! WallDampLaw.growth -/
def f_Law_growth (T : x_T) (w : x_W) (a0 : Nat) (a1 : Int32) (a2 : Int32) (a3 : Int32) (a4 : Int32) (a5 : Nat) : Option (Int32 × x_W) :=
  (x_is T a0 0).bind fun _ =>
  (f_WD_growth T w a0 a1 a2 a3 a4).bind fun o =>
    x_cc o (fun q =>
      (x_ix T a5 101 0).bind fun _ =>
      (some (x_sB q.2 a5 (0 : Int32).toNatClampNeg q.1.toInt64)).bind fun w1 =>
      some ((0 : Int32), w1))
    (fun k => if k = 1 then some ((1 : Int32), w) else if k = 2 then some ((2 : Int32), w) else none)
def ws_Law_growth : List Cond := .codeWith y_Law_growth b_Law_growth 7 (some (.int)) [(0, 14, 17, 13), (0, 14, 21, 15)] :: x_tb
set_option maxHeartbeats 4000000 in
set_option maxRecDepth 100000 in
theorem c_Law_growth (l : Launch) (hfl : l.flags = pinnedFlags ++ [noTraceFlag]) (D : va_G) (aC : Nat → ClassId) (ad : Nat → Nat) (T : x_T) (nx sz : Nat) (w : x_W) (a0 : Nat) (a1 : Int32) (a2 : Int32) (a3 : Int32) (a4 : Int32) (a5 : Nat) (r : Int32 × x_W) (hf : f_Law_growth T w a0 a1 a2 a3 a4 a5 = some r) : Met l y_Law_growth ws_Law_growth { frames := 8, cells := 1, slots := 6, locals := 136 } (x_Pw D aC ad T nx sz w [.ref (ad a0), .int a1, .int a2, .int a3, .int a4, .ref (ad a5)]) (x_Qw D aC ad T nx (some (.int r.1)) r.2 (x_dom ad nx sz)) 1 6 (x_dom ad nx sz) := by
  refine x_metW [(0, .ref (ad a0)), (1, .int a1), (2, .int a2), (3, .int a3), (4, .int a4), (5, .ref (ad a5))] (by decide) rfl rfl (Nat.le_of_ble_eq_true rfl) m_575 (fun p e s m args below meth c ls C0 hTf hN htab hH hl => ?_)
  obtain ⟨hx, hb, hr, hml, hown, hts, hlocks, hK, hA, hX⟩ := id C0
  have hS : va_S (x_dom ad nx sz) s.heap s.heap [] := va_S.rf
  unfold f_Law_growth at hf
  obtain ⟨_, e1, hf⟩ := x_b hf
  obtain ⟨n1, hT1⟩ := x_is_e e1
  obtain ⟨o, e2, hf⟩ := x_b hf
  refine lv_aload hx hb d_Law_growth_0 (lv_at hl 5 rfl) ?_
  refine lv_iconst (v := 0) hx hb d_Law_growth_2 (by decide) ?_
  refine lv_aload_n hx hb d_Law_growth_3 rfl (lv_at hl 0 rfl) ?_
  refine lv_iload_n hx hb d_Law_growth_4 rfl (lv_at hl 1 rfl) ?_
  refine lv_iload_n hx hb d_Law_growth_5 rfl (lv_at hl 2 rfl) ?_
  refine lv_iload_n hx hb d_Law_growth_6 rfl (lv_at hl 3 rfl) ?_
  refine lv_iload hx hb d_Law_growth_7 (lv_at hl 4 rfl) ?_
  cases o with
  | error k =>
    have hf := x_ce hf
    by_cases hk : k = 1
    · subst hk
      have hf := x_it hf rfl
      cases hf
      refine x_catchA (k := 1) (A := x_dom ad nx sz) (x_runTV (As := [.int a1, .int a2, .int a3, .int a4]) (rest := [.int (0 : Int32), .ref (ad a5)]) ⟨hx, hb, hml, hown, hts⟩ (c_WD_growth l hfl D aC ad T nx s.heap.size w a0 a1 a2 a3 a4 _ e2) (fun _ _ _ _ h => ⟨_, h.choose_spec.1⟩) (cwV 4 hts (x_gV m_576 m_577 m_578 m_1 m_579) rfl rfl rfl ⟨rfl, pd_WD_growth⟩ ⟨Nat.le_of_ble_eq_true rfl, Nat.le_of_ble_eq_true rfl⟩) (x_preVt hH hK hX hTf hT1 (by decide) rfl rfl) rfl rfl hl.1 rfl (lv_room (Nat.le_of_ble_eq_true rfl)) d_Law_growth_9 ⟨Nat.le_refl _, Nat.le_refl _⟩) (fun _ _ _ h => by obtain ⟨x9, e9, h9⟩ := h; cases e9; exact h9) (x_domA hH hA) hA htab (by decide) (by decide) hown (hts _ m_380) (fun H L x hold hS => ?_)
      refine lv_astore (lv' := [(6, .ref x), (0, .ref (ad a0)), (1, .int a1), (2, .int a2), (3, .int a3), (4, .int a4), (5, .ref (ad a5))]) hx hb d_Law_growth_17 hl (by decide) rfl (fun ls hl => ?_)
      refine lv_iconst (v := 1) hx hb d_Law_growth_19 (by decide) ?_
      exact W.iret hx hb hr (fun t ht hW => ⟨rfl, hS.F ht, by rw [ht]; exact (hH.kept (fun i hi => hold _ (hH.lt hi))).weaken (fun _ _ _ => trivial)⟩) hS.2.2 d_Law_growth_20
    · have hf := x_if hf hk
      by_cases hk2 : k = 2
      · subst hk2
        have hf := x_it hf rfl
        cases hf
        refine x_catchB (k := 2) (A := x_dom ad nx sz) (x_runTV (As := [.int a1, .int a2, .int a3, .int a4]) (rest := [.int (0 : Int32), .ref (ad a5)]) ⟨hx, hb, hml, hown, hts⟩ (c_WD_growth l hfl D aC ad T nx s.heap.size w a0 a1 a2 a3 a4 _ e2) (fun _ _ _ _ h => ⟨_, h.choose_spec.1⟩) (cwV 4 hts (x_gV m_576 m_577 m_578 m_1 m_579) rfl rfl rfl ⟨rfl, pd_WD_growth⟩ ⟨Nat.le_of_ble_eq_true rfl, Nat.le_of_ble_eq_true rfl⟩) (x_preVt hH hK hX hTf hT1 (by decide) rfl rfl) rfl rfl hl.1 rfl (lv_room (Nat.le_of_ble_eq_true rfl)) d_Law_growth_9 ⟨Nat.le_refl _, Nat.le_refl _⟩) (fun _ _ _ h => by obtain ⟨x9, e9, h9⟩ := h; cases e9; exact h9) (x_domA hH hA) hA htab (by decide) (by decide) (by decide) (by decide) hown (hts _ m_380) hN (hts _ m_381) (fun H L x hold hS => ?_)
        refine lv_astore (lv' := [(6, .ref x), (0, .ref (ad a0)), (1, .int a1), (2, .int a2), (3, .int a3), (4, .int a4), (5, .ref (ad a5))]) hx hb d_Law_growth_21 hl (by decide) rfl (fun ls hl => ?_)
        refine lv_iconst (v := 2) hx hb d_Law_growth_23 (by decide) ?_
        exact W.iret hx hb hr (fun t ht hW => ⟨rfl, hS.F ht, by rw [ht]; exact (hH.kept (fun i hi => hold _ (hH.lt hi))).weaken (fun _ _ _ => trivial)⟩) hS.2.2 d_Law_growth_24
      · have hf := x_if hf hk2
        cases hf
  | ok q =>
    have hf := x_co hf
    refine x_call (v := some (.int q.1)) (w' := q.2) (st1 := [.int q.1, .int (0 : Int32), .ref (ad a5)]) (va_runV (As := [.int a1, .int a2, .int a3, .int a4]) (rest := [.int (0 : Int32), .ref (ad a5)]) ⟨hx, hb, hml, hown, hts⟩ (x_Met.met (c_WD_growth l hfl D aC ad T nx s.heap.size w a0 a1 a2 a3 a4 _ e2) (fun _ _ _ _ h => ⟨_, h.1⟩)) (cwV 4 hts (x_gV m_576 m_577 m_578 m_1 m_579) rfl rfl rfl ⟨rfl, pd_WD_growth⟩ ⟨Nat.le_of_ble_eq_true rfl, Nat.le_of_ble_eq_true rfl⟩) (x_preVt hH hK hX hTf hT1 (by decide) rfl rfl) rfl rfl hl.1 rfl (lv_room (Nat.le_of_ble_eq_true rfl)) d_Law_growth_9 ⟨Nat.zero_le _, Nat.zero_le _⟩) rfl hH hA hS (fun H locs hH hS => ?_)
    refine lv_i2l (v := q.1.toInt64) hx hb d_Law_growth_12 rfl ?_
    obtain ⟨_, e3, hf⟩ := x_b hf
    obtain ⟨n3, hT3, hi3⟩ := x_ix_e e3
    refine x_last hx hb hK hH hS hT3 1 rfl hi3 d_Law_growth_13 (fun H locs hH hS => ?_)
    obtain ⟨w1, e4, hf⟩ := x_b hf
    have hH := x_nw e4 hH
    refine lv_goto (tgt := 25) hx hb d_Law_growth_14 (by decide) ?_
    refine lv_iconst (v := 0) hx hb d_Law_growth_25 (by decide) ?_
    cases hf
    refine W.widen (k := 1) (n := 6) (Nat.zero_le _) (Nat.zero_le _) ?_
    exact W.iret hx hb hr (fun t ht hW => ⟨rfl, hS.F ht, by rw [ht]; exact hH.weaken (fun _ _ _ => trivial)⟩) hS.2.2 d_Law_growth_26
/-! WallDampLaw.run -/
def f_Law_run (T : x_T) (w : x_W) (a0 : Nat) (a1 : Int32) (a2 : Nat) : Option (Int32 × x_W) :=
  (x_is T a0 0).bind fun _ =>
  (f_WD_run T w a0 a1).bind fun o =>
    x_cc o (fun q =>
      (x_ix T a2 101 0).bind fun _ =>
      (some (x_sB q.2 a2 (0 : Int32).toNatClampNeg q.1.toInt64)).bind fun w1 =>
      some ((0 : Int32), w1))
    (fun k => if k = 1 then some ((1 : Int32), w) else if k = 2 then some ((2 : Int32), w) else none)
def ws_Law_run : List Cond := .codeWith y_Law_run b_Law_run 4 (some (.int)) [(0, 9, 12, 13), (0, 9, 15, 15)] :: x_tb
set_option maxHeartbeats 4000000 in
set_option maxRecDepth 100000 in
theorem c_Law_run (l : Launch) (hfl : l.flags = pinnedFlags ++ [noTraceFlag]) (D : va_G) (aC : Nat → ClassId) (ad : Nat → Nat) (T : x_T) (nx sz : Nat) (w : x_W) (a0 : Nat) (a1 : Int32) (a2 : Nat) (r : Int32 × x_W) (hf : f_Law_run T w a0 a1 a2 = some r) : Met l y_Law_run ws_Law_run { frames := 8, cells := 1, slots := 6, locals := 138 } (x_Pw D aC ad T nx sz w [.ref (ad a0), .int a1, .ref (ad a2)]) (x_Qw D aC ad T nx (some (.int r.1)) r.2 (x_dom ad nx sz)) 1 6 (x_dom ad nx sz) := by
  refine x_metW [(0, .ref (ad a0)), (1, .int a1), (2, .ref (ad a2))] (by decide) rfl rfl (Nat.le_of_ble_eq_true rfl) m_591 (fun p e s m args below meth c ls C0 hTf hN htab hH hl => ?_)
  obtain ⟨hx, hb, hr, hml, hown, hts, hlocks, hK, hA, hX⟩ := id C0
  have hS : va_S (x_dom ad nx sz) s.heap s.heap [] := va_S.rf
  unfold f_Law_run at hf
  obtain ⟨_, e1, hf⟩ := x_b hf
  obtain ⟨n1, hT1⟩ := x_is_e e1
  obtain ⟨o, e2, hf⟩ := x_b hf
  refine lv_aload_n hx hb d_Law_run_0 rfl (lv_at hl 2 rfl) ?_
  refine lv_iconst (v := 0) hx hb d_Law_run_1 (by decide) ?_
  refine lv_aload_n hx hb d_Law_run_2 rfl (lv_at hl 0 rfl) ?_
  refine lv_iload_n hx hb d_Law_run_3 rfl (lv_at hl 1 rfl) ?_
  cases o with
  | error k =>
    have hf := x_ce hf
    by_cases hk : k = 1
    · subst hk
      have hf := x_it hf rfl
      cases hf
      refine x_catchA (k := 1) (A := x_dom ad nx sz) (x_runTV (As := [.int a1]) (rest := [.int (0 : Int32), .ref (ad a2)]) ⟨hx, hb, hml, hown, hts⟩ (c_WD_run l hfl D aC ad T nx s.heap.size w a0 a1 _ e2) (fun _ _ _ _ h => ⟨_, h.choose_spec.1⟩) (cwV 1 hts (x_gV m_592 m_593 m_594 m_1 m_595) rfl rfl rfl ⟨rfl, pd_WD_run⟩ ⟨Nat.le_of_ble_eq_true rfl, Nat.le_of_ble_eq_true rfl⟩) (x_preVt hH hK hX hTf hT1 (by decide) rfl rfl) rfl rfl hl.1 rfl (lv_room (Nat.le_of_ble_eq_true rfl)) d_Law_run_4 ⟨Nat.le_refl _, Nat.le_refl _⟩) (fun _ _ _ h => by obtain ⟨x9, e9, h9⟩ := h; cases e9; exact h9) (x_domA hH hA) hA htab (by decide) (by decide) hown (hts _ m_380) (fun H L x hold hS => ?_)
      refine lv_astore_n (lv' := [(3, .ref x), (0, .ref (ad a0)), (1, .int a1), (2, .ref (ad a2))]) hx hb d_Law_run_12 rfl hl (by decide) rfl (fun ls hl => ?_)
      refine lv_iconst (v := 1) hx hb d_Law_run_13 (by decide) ?_
      exact W.iret hx hb hr (fun t ht hW => ⟨rfl, hS.F ht, by rw [ht]; exact (hH.kept (fun i hi => hold _ (hH.lt hi))).weaken (fun _ _ _ => trivial)⟩) hS.2.2 d_Law_run_14
    · have hf := x_if hf hk
      by_cases hk2 : k = 2
      · subst hk2
        have hf := x_it hf rfl
        cases hf
        refine x_catchB (k := 2) (A := x_dom ad nx sz) (x_runTV (As := [.int a1]) (rest := [.int (0 : Int32), .ref (ad a2)]) ⟨hx, hb, hml, hown, hts⟩ (c_WD_run l hfl D aC ad T nx s.heap.size w a0 a1 _ e2) (fun _ _ _ _ h => ⟨_, h.choose_spec.1⟩) (cwV 1 hts (x_gV m_592 m_593 m_594 m_1 m_595) rfl rfl rfl ⟨rfl, pd_WD_run⟩ ⟨Nat.le_of_ble_eq_true rfl, Nat.le_of_ble_eq_true rfl⟩) (x_preVt hH hK hX hTf hT1 (by decide) rfl rfl) rfl rfl hl.1 rfl (lv_room (Nat.le_of_ble_eq_true rfl)) d_Law_run_4 ⟨Nat.le_refl _, Nat.le_refl _⟩) (fun _ _ _ h => by obtain ⟨x9, e9, h9⟩ := h; cases e9; exact h9) (x_domA hH hA) hA htab (by decide) (by decide) (by decide) (by decide) hown (hts _ m_380) hN (hts _ m_381) (fun H L x hold hS => ?_)
        refine lv_astore_n (lv' := [(3, .ref x), (0, .ref (ad a0)), (1, .int a1), (2, .ref (ad a2))]) hx hb d_Law_run_15 rfl hl (by decide) rfl (fun ls hl => ?_)
        refine lv_iconst (v := 2) hx hb d_Law_run_16 (by decide) ?_
        exact W.iret hx hb hr (fun t ht hW => ⟨rfl, hS.F ht, by rw [ht]; exact (hH.kept (fun i hi => hold _ (hH.lt hi))).weaken (fun _ _ _ => trivial)⟩) hS.2.2 d_Law_run_17
      · have hf := x_if hf hk2
        cases hf
  | ok q =>
    have hf := x_co hf
    refine x_call (v := some (.int q.1)) (w' := q.2) (st1 := [.int q.1, .int (0 : Int32), .ref (ad a2)]) (va_runV (As := [.int a1]) (rest := [.int (0 : Int32), .ref (ad a2)]) ⟨hx, hb, hml, hown, hts⟩ (x_Met.met (c_WD_run l hfl D aC ad T nx s.heap.size w a0 a1 _ e2) (fun _ _ _ _ h => ⟨_, h.1⟩)) (cwV 1 hts (x_gV m_592 m_593 m_594 m_1 m_595) rfl rfl rfl ⟨rfl, pd_WD_run⟩ ⟨Nat.le_of_ble_eq_true rfl, Nat.le_of_ble_eq_true rfl⟩) (x_preVt hH hK hX hTf hT1 (by decide) rfl rfl) rfl rfl hl.1 rfl (lv_room (Nat.le_of_ble_eq_true rfl)) d_Law_run_4 ⟨Nat.zero_le _, Nat.zero_le _⟩) rfl hH hA hS (fun H locs hH hS => ?_)
    refine lv_i2l (v := q.1.toInt64) hx hb d_Law_run_7 rfl ?_
    obtain ⟨_, e3, hf⟩ := x_b hf
    obtain ⟨n3, hT3, hi3⟩ := x_ix_e e3
    refine x_last hx hb hK hH hS hT3 1 rfl hi3 d_Law_run_8 (fun H locs hH hS => ?_)
    obtain ⟨w1, e4, hf⟩ := x_b hf
    have hH := x_nw e4 hH
    refine lv_goto (tgt := 18) hx hb d_Law_run_9 (by decide) ?_
    refine lv_iconst (v := 0) hx hb d_Law_run_18 (by decide) ?_
    cases hf
    refine W.widen (k := 1) (n := 6) (Nat.zero_le _) (Nat.zero_le _) ?_
    exact W.iret hx hb hr (fun t ht hW => ⟨rfl, hS.F ht, by rw [ht]; exact hH.weaken (fun _ _ _ => trivial)⟩) hS.2.2 d_Law_run_19
/-! WallDampLaw.told -/
def f_Law_told (T : x_T) (w : x_W) (a0 : Nat) (a1 : Int32) (a2 : Int32) (a3 : Nat) : Option (Int32 × x_W) :=
  (x_is T a0 0).bind fun _ =>
  (f_WD_told T w a0 a1 a2).bind fun o =>
    x_cc o (fun q =>
      (x_ix T a3 101 0).bind fun _ =>
      (some (x_sB w a3 (0 : Int32).toNatClampNeg q.toInt64)).bind fun w1 =>
      some ((0 : Int32), w1))
    (fun k => if k = 1 then some ((1 : Int32), w) else none)
def ws_Law_told : List Cond := .codeWith y_Law_told b_Law_told 5 (some (.int)) [(0, 10, 13, 13)] :: x_tb
set_option maxHeartbeats 4000000 in
set_option maxRecDepth 100000 in
theorem c_Law_told (l : Launch) (hfl : l.flags = pinnedFlags ++ [noTraceFlag]) (D : va_G) (aC : Nat → ClassId) (ad : Nat → Nat) (T : x_T) (nx sz : Nat) (w : x_W) (a0 : Nat) (a1 : Int32) (a2 : Int32) (a3 : Nat) (r : Int32 × x_W) (hf : f_Law_told T w a0 a1 a2 a3 = some r) : Met l y_Law_told ws_Law_told { frames := 9, cells := 1, slots := 6, locals := 156 } (x_Pw D aC ad T nx sz w [.ref (ad a0), .int a1, .int a2, .ref (ad a3)]) (x_Qw D aC ad T nx (some (.int r.1)) r.2 (x_dom ad nx sz)) 1 6 (x_dom ad nx sz) := by
  refine x_metW [(0, .ref (ad a0)), (1, .int a1), (2, .int a2), (3, .ref (ad a3))] (by decide) rfl rfl (Nat.le_of_ble_eq_true rfl) m_735 (fun p e s m args below meth c ls C0 hTf hN htab hH hl => ?_)
  obtain ⟨hx, hb, hr, hml, hown, hts, hlocks, hK, hA, hX⟩ := id C0
  have hS : va_S (x_dom ad nx sz) s.heap s.heap [] := va_S.rf
  unfold f_Law_told at hf
  obtain ⟨_, e1, hf⟩ := x_b hf
  obtain ⟨n1, hT1⟩ := x_is_e e1
  obtain ⟨o, e2, hf⟩ := x_b hf
  refine lv_aload_n hx hb d_Law_told_0 rfl (lv_at hl 3 rfl) ?_
  refine lv_iconst (v := 0) hx hb d_Law_told_1 (by decide) ?_
  refine lv_aload_n hx hb d_Law_told_2 rfl (lv_at hl 0 rfl) ?_
  refine lv_iload_n hx hb d_Law_told_3 rfl (lv_at hl 1 rfl) ?_
  refine lv_iload_n hx hb d_Law_told_4 rfl (lv_at hl 2 rfl) ?_
  cases o with
  | error k =>
    have hf := x_ce hf
    by_cases hk : k = 1
    · subst hk
      have hf := x_it hf rfl
      cases hf
      refine x_catchA (k := 1) (A := x_dom ad nx sz) (x_runTV (As := [.int a1, .int a2]) (rest := [.int (0 : Int32), .ref (ad a3)]) ⟨hx, hb, hml, hown, hts⟩ (c_WD_told l hfl D aC ad T nx s.heap.size w a0 a1 a2 _ e2) (fun _ _ _ _ h => ⟨_, h.choose_spec.1⟩) (cwV 2 hts (x_gV m_736 m_737 m_738 m_1 m_739) rfl rfl rfl ⟨rfl, pd_WD_told⟩ ⟨Nat.le_of_ble_eq_true rfl, Nat.le_of_ble_eq_true rfl⟩) (x_preVt hH hK hX hTf hT1 (by decide) rfl rfl) rfl rfl hl.1 rfl (lv_room (Nat.le_of_ble_eq_true rfl)) d_Law_told_5 ⟨Nat.le_refl _, Nat.le_refl _⟩) (fun _ _ _ h => by obtain ⟨x9, e9, h9⟩ := h; cases e9; exact h9) (fun _ h => h.elim) hA htab (by decide) (by decide) hown (hts _ m_380) (fun H L x hold hS => ?_)
      refine lv_astore (lv' := [(4, .ref x), (0, .ref (ad a0)), (1, .int a1), (2, .int a2), (3, .ref (ad a3))]) hx hb d_Law_told_13 hl (by decide) rfl (fun ls hl => ?_)
      refine lv_iconst (v := 1) hx hb d_Law_told_15 (by decide) ?_
      exact W.iret hx hb hr (fun t ht hW => ⟨rfl, hS.F ht, by rw [ht]; exact (hH.kept (fun i hi => hold _ (hH.lt hi))).weaken (fun _ _ _ => trivial)⟩) hS.2.2 d_Law_told_16
    · have hf := x_if hf hk
      cases hf
  | ok q =>
    have hf := x_co hf
    refine x_callP (v := some (.int q)) (st1 := [.int q, .int (0 : Int32), .ref (ad a3)]) (va_runV (As := [.int a1, .int a2]) (rest := [.int (0 : Int32), .ref (ad a3)]) ⟨hx, hb, hml, hown, hts⟩ (x_Met.met (c_WD_told l hfl D aC ad T nx s.heap.size w a0 a1 a2 _ e2) (fun _ _ _ _ h => ⟨_, h.1⟩)) (cwV 2 hts (x_gV m_736 m_737 m_738 m_1 m_739) rfl rfl rfl ⟨rfl, pd_WD_told⟩ ⟨Nat.le_of_ble_eq_true rfl, Nat.le_of_ble_eq_true rfl⟩) (x_preVt hH hK hX hTf hT1 (by decide) rfl rfl) rfl rfl hl.1 rfl (lv_room (Nat.le_of_ble_eq_true rfl)) d_Law_told_5 ⟨Nat.zero_le _, Nat.zero_le _⟩) rfl ?_
    refine lv_i2l (v := q.toInt64) hx hb d_Law_told_8 rfl ?_
    obtain ⟨_, e3, hf⟩ := x_b hf
    obtain ⟨n3, hT3, hi3⟩ := x_ix_e e3
    refine x_last hx hb hK hH hS hT3 1 rfl hi3 d_Law_told_9 (fun H locs hH hS => ?_)
    obtain ⟨w1, e4, hf⟩ := x_b hf
    have hH := x_nw e4 hH
    refine lv_goto (tgt := 17) hx hb d_Law_told_10 (by decide) ?_
    refine lv_iconst (v := 0) hx hb d_Law_told_17 (by decide) ?_
    cases hf
    refine W.widen (k := 1) (n := 6) (Nat.zero_le _) (Nat.zero_le _) ?_
    exact W.iret hx hb hr (fun t ht hW => ⟨rfl, hS.F ht, by rw [ht]; exact hH.weaken (fun _ _ _ => trivial)⟩) hS.2.2 d_Law_told_18
/-! WallDampLaw.balance -/
def f_Law_balance (T : x_T) (w : x_W) (a0 : Nat) (a1 : Int32) (a2 : Nat) : Option (Int32 × x_W) :=
  (x_is T a0 0).bind fun _ =>
  (f_WD_balance T w a0 a1).bind fun o =>
    x_cc o (fun q =>
      (x_ix T a2 101 0).bind fun _ =>
      (some (x_sB w a2 (0 : Int32).toNatClampNeg q)).bind fun w1 =>
      some ((0 : Int32), w1))
    (fun k => if k = 1 then some ((1 : Int32), w) else none)
def ws_Law_balance : List Cond := .codeWith y_Law_balance b_Law_balance 4 (some (.int)) [(0, 8, 11, 13)] :: x_tb
set_option maxHeartbeats 4000000 in
set_option maxRecDepth 100000 in
theorem c_Law_balance (l : Launch) (hfl : l.flags = pinnedFlags ++ [noTraceFlag]) (D : va_G) (aC : Nat → ClassId) (ad : Nat → Nat) (T : x_T) (nx sz : Nat) (w : x_W) (a0 : Nat) (a1 : Int32) (a2 : Nat) (r : Int32 × x_W) (hf : f_Law_balance T w a0 a1 a2 = some r) : Met l y_Law_balance ws_Law_balance { frames := 8, cells := 1, slots := 6, locals := 133 } (x_Pw D aC ad T nx sz w [.ref (ad a0), .int a1, .ref (ad a2)]) (x_Qw D aC ad T nx (some (.int r.1)) r.2 (x_dom ad nx sz)) 1 6 (x_dom ad nx sz) := by
  refine x_metW [(0, .ref (ad a0)), (1, .int a1), (2, .ref (ad a2))] (by decide) rfl rfl (Nat.le_of_ble_eq_true rfl) m_742 (fun p e s m args below meth c ls C0 hTf hN htab hH hl => ?_)
  obtain ⟨hx, hb, hr, hml, hown, hts, hlocks, hK, hA, hX⟩ := id C0
  have hS : va_S (x_dom ad nx sz) s.heap s.heap [] := va_S.rf
  unfold f_Law_balance at hf
  obtain ⟨_, e1, hf⟩ := x_b hf
  obtain ⟨n1, hT1⟩ := x_is_e e1
  obtain ⟨o, e2, hf⟩ := x_b hf
  refine lv_aload_n hx hb d_Law_balance_0 rfl (lv_at hl 2 rfl) ?_
  refine lv_iconst (v := 0) hx hb d_Law_balance_1 (by decide) ?_
  refine lv_aload_n hx hb d_Law_balance_2 rfl (lv_at hl 0 rfl) ?_
  refine lv_iload_n hx hb d_Law_balance_3 rfl (lv_at hl 1 rfl) ?_
  cases o with
  | error k =>
    have hf := x_ce hf
    by_cases hk : k = 1
    · subst hk
      have hf := x_it hf rfl
      cases hf
      refine x_catchA (k := 1) (A := x_dom ad nx sz) (x_runTV (As := [.int a1]) (rest := [.int (0 : Int32), .ref (ad a2)]) ⟨hx, hb, hml, hown, hts⟩ (c_WD_balance l hfl D aC ad T nx s.heap.size w a0 a1 _ e2) (fun _ _ _ _ h => ⟨_, h.choose_spec.1⟩) (cwV 1 hts (x_gV m_743 m_744 m_745 m_1 m_746) rfl rfl rfl ⟨rfl, pd_WD_balance⟩ ⟨Nat.le_of_ble_eq_true rfl, Nat.le_of_ble_eq_true rfl⟩) (x_preVt hH hK hX hTf hT1 (by decide) rfl rfl) rfl rfl hl.1 rfl (lv_room (Nat.le_of_ble_eq_true rfl)) d_Law_balance_4 ⟨Nat.le_refl _, Nat.le_refl _⟩) (fun _ _ _ h => by obtain ⟨x9, e9, h9⟩ := h; cases e9; exact h9) (fun _ h => h.elim) hA htab (by decide) (by decide) hown (hts _ m_380) (fun H L x hold hS => ?_)
      refine lv_astore_n (lv' := [(3, .ref x), (0, .ref (ad a0)), (1, .int a1), (2, .ref (ad a2))]) hx hb d_Law_balance_11 rfl hl (by decide) rfl (fun ls hl => ?_)
      refine lv_iconst (v := 1) hx hb d_Law_balance_12 (by decide) ?_
      exact W.iret hx hb hr (fun t ht hW => ⟨rfl, hS.F ht, by rw [ht]; exact (hH.kept (fun i hi => hold _ (hH.lt hi))).weaken (fun _ _ _ => trivial)⟩) hS.2.2 d_Law_balance_13
    · have hf := x_if hf hk
      cases hf
  | ok q =>
    have hf := x_co hf
    refine x_callP (v := some (.long q)) (st1 := [.long q, .int (0 : Int32), .ref (ad a2)]) (va_runV (As := [.int a1]) (rest := [.int (0 : Int32), .ref (ad a2)]) ⟨hx, hb, hml, hown, hts⟩ (x_Met.met (c_WD_balance l hfl D aC ad T nx s.heap.size w a0 a1 _ e2) (fun _ _ _ _ h => ⟨_, h.1⟩)) (cwV 1 hts (x_gV m_743 m_744 m_745 m_1 m_746) rfl rfl rfl ⟨rfl, pd_WD_balance⟩ ⟨Nat.le_of_ble_eq_true rfl, Nat.le_of_ble_eq_true rfl⟩) (x_preVt hH hK hX hTf hT1 (by decide) rfl rfl) rfl rfl hl.1 rfl (lv_room (Nat.le_of_ble_eq_true rfl)) d_Law_balance_4 ⟨Nat.zero_le _, Nat.zero_le _⟩) rfl ?_
    obtain ⟨_, e3, hf⟩ := x_b hf
    obtain ⟨n3, hT3, hi3⟩ := x_ix_e e3
    refine x_last hx hb hK hH hS hT3 1 rfl hi3 d_Law_balance_7 (fun H locs hH hS => ?_)
    obtain ⟨w1, e4, hf⟩ := x_b hf
    have hH := x_nw e4 hH
    refine lv_goto (tgt := 14) hx hb d_Law_balance_8 (by decide) ?_
    refine lv_iconst (v := 0) hx hb d_Law_balance_14 (by decide) ?_
    cases hf
    refine W.widen (k := 1) (n := 6) (Nat.zero_le _) (Nat.zero_le _) ?_
    exact W.iret hx hb hr (fun t ht hW => ⟨rfl, hS.F ht, by rw [ht]; exact hH.weaken (fun _ _ _ => trivial)⟩) hS.2.2 d_Law_balance_15
/-! WallDampLaw.order -/
def f_Law_order (T : x_T) (w : x_W) (a0 : Nat) (a1 : Int32) (a2 : Int32) (a3 : Nat) : Option (Int32 × x_W) :=
  (x_is T a0 0).bind fun _ =>
  (f_WD_order T w a0 a1 a2).bind fun o =>
    x_cc o (fun q =>
      (x_ix T a3 101 0).bind fun _ =>
      (some (x_sB q.2 a3 (0 : Int32).toNatClampNeg q.1.toInt64)).bind fun w1 =>
      some ((0 : Int32), w1))
    (fun k => if k = 1 then some ((1 : Int32), w) else if k = 2 then some ((2 : Int32), w) else none)
def ws_Law_order : List Cond := .codeWith y_Law_order b_Law_order 5 (some (.int)) [(0, 10, 13, 13), (0, 10, 17, 15)] :: x_tb
set_option maxHeartbeats 4000000 in
set_option maxRecDepth 100000 in
theorem c_Law_order (l : Launch) (hfl : l.flags = pinnedFlags ++ [noTraceFlag]) (D : va_G) (aC : Nat → ClassId) (ad : Nat → Nat) (T : x_T) (nx sz : Nat) (w : x_W) (a0 : Nat) (a1 : Int32) (a2 : Int32) (a3 : Nat) (r : Int32 × x_W) (hf : f_Law_order T w a0 a1 a2 a3 = some r) : Met l y_Law_order ws_Law_order { frames := 8, cells := 1, slots := 6, locals := 173 } (x_Pw D aC ad T nx sz w [.ref (ad a0), .int a1, .int a2, .ref (ad a3)]) (x_Qw D aC ad T nx (some (.int r.1)) r.2 (x_dom ad nx sz)) 1 6 (x_dom ad nx sz) := by
  refine x_metW [(0, .ref (ad a0)), (1, .int a1), (2, .int a2), (3, .ref (ad a3))] (by decide) rfl rfl (Nat.le_of_ble_eq_true rfl) m_753 (fun p e s m args below meth c ls C0 hTf hN htab hH hl => ?_)
  obtain ⟨hx, hb, hr, hml, hown, hts, hlocks, hK, hA, hX⟩ := id C0
  have hS : va_S (x_dom ad nx sz) s.heap s.heap [] := va_S.rf
  unfold f_Law_order at hf
  obtain ⟨_, e1, hf⟩ := x_b hf
  obtain ⟨n1, hT1⟩ := x_is_e e1
  obtain ⟨o, e2, hf⟩ := x_b hf
  refine lv_aload_n hx hb d_Law_order_0 rfl (lv_at hl 3 rfl) ?_
  refine lv_iconst (v := 0) hx hb d_Law_order_1 (by decide) ?_
  refine lv_aload_n hx hb d_Law_order_2 rfl (lv_at hl 0 rfl) ?_
  refine lv_iload_n hx hb d_Law_order_3 rfl (lv_at hl 1 rfl) ?_
  refine lv_iload_n hx hb d_Law_order_4 rfl (lv_at hl 2 rfl) ?_
  cases o with
  | error k =>
    have hf := x_ce hf
    by_cases hk : k = 1
    · subst hk
      have hf := x_it hf rfl
      cases hf
      refine x_catchA (k := 1) (A := x_dom ad nx sz) (x_runTV (As := [.int a1, .int a2]) (rest := [.int (0 : Int32), .ref (ad a3)]) ⟨hx, hb, hml, hown, hts⟩ (c_WD_order l hfl D aC ad T nx s.heap.size w a0 a1 a2 _ e2) (fun _ _ _ _ h => ⟨_, h.choose_spec.1⟩) (cwV 2 hts (x_gV m_754 m_755 m_756 m_1 m_757) rfl rfl rfl ⟨rfl, pd_WD_order⟩ ⟨Nat.le_of_ble_eq_true rfl, Nat.le_of_ble_eq_true rfl⟩) (x_preVt hH hK hX hTf hT1 (by decide) rfl rfl) rfl rfl hl.1 rfl (lv_room (Nat.le_of_ble_eq_true rfl)) d_Law_order_5 ⟨Nat.le_refl _, Nat.le_refl _⟩) (fun _ _ _ h => by obtain ⟨x9, e9, h9⟩ := h; cases e9; exact h9) (x_domA hH hA) hA htab (by decide) (by decide) hown (hts _ m_380) (fun H L x hold hS => ?_)
      refine lv_astore (lv' := [(4, .ref x), (0, .ref (ad a0)), (1, .int a1), (2, .int a2), (3, .ref (ad a3))]) hx hb d_Law_order_13 hl (by decide) rfl (fun ls hl => ?_)
      refine lv_iconst (v := 1) hx hb d_Law_order_15 (by decide) ?_
      exact W.iret hx hb hr (fun t ht hW => ⟨rfl, hS.F ht, by rw [ht]; exact (hH.kept (fun i hi => hold _ (hH.lt hi))).weaken (fun _ _ _ => trivial)⟩) hS.2.2 d_Law_order_16
    · have hf := x_if hf hk
      by_cases hk2 : k = 2
      · subst hk2
        have hf := x_it hf rfl
        cases hf
        refine x_catchB (k := 2) (A := x_dom ad nx sz) (x_runTV (As := [.int a1, .int a2]) (rest := [.int (0 : Int32), .ref (ad a3)]) ⟨hx, hb, hml, hown, hts⟩ (c_WD_order l hfl D aC ad T nx s.heap.size w a0 a1 a2 _ e2) (fun _ _ _ _ h => ⟨_, h.choose_spec.1⟩) (cwV 2 hts (x_gV m_754 m_755 m_756 m_1 m_757) rfl rfl rfl ⟨rfl, pd_WD_order⟩ ⟨Nat.le_of_ble_eq_true rfl, Nat.le_of_ble_eq_true rfl⟩) (x_preVt hH hK hX hTf hT1 (by decide) rfl rfl) rfl rfl hl.1 rfl (lv_room (Nat.le_of_ble_eq_true rfl)) d_Law_order_5 ⟨Nat.le_refl _, Nat.le_refl _⟩) (fun _ _ _ h => by obtain ⟨x9, e9, h9⟩ := h; cases e9; exact h9) (x_domA hH hA) hA htab (by decide) (by decide) (by decide) (by decide) hown (hts _ m_380) hN (hts _ m_381) (fun H L x hold hS => ?_)
        refine lv_astore (lv' := [(4, .ref x), (0, .ref (ad a0)), (1, .int a1), (2, .int a2), (3, .ref (ad a3))]) hx hb d_Law_order_17 hl (by decide) rfl (fun ls hl => ?_)
        refine lv_iconst (v := 2) hx hb d_Law_order_19 (by decide) ?_
        exact W.iret hx hb hr (fun t ht hW => ⟨rfl, hS.F ht, by rw [ht]; exact (hH.kept (fun i hi => hold _ (hH.lt hi))).weaken (fun _ _ _ => trivial)⟩) hS.2.2 d_Law_order_20
      · have hf := x_if hf hk2
        cases hf
  | ok q =>
    have hf := x_co hf
    refine x_call (v := some (.int q.1)) (w' := q.2) (st1 := [.int q.1, .int (0 : Int32), .ref (ad a3)]) (va_runV (As := [.int a1, .int a2]) (rest := [.int (0 : Int32), .ref (ad a3)]) ⟨hx, hb, hml, hown, hts⟩ (x_Met.met (c_WD_order l hfl D aC ad T nx s.heap.size w a0 a1 a2 _ e2) (fun _ _ _ _ h => ⟨_, h.1⟩)) (cwV 2 hts (x_gV m_754 m_755 m_756 m_1 m_757) rfl rfl rfl ⟨rfl, pd_WD_order⟩ ⟨Nat.le_of_ble_eq_true rfl, Nat.le_of_ble_eq_true rfl⟩) (x_preVt hH hK hX hTf hT1 (by decide) rfl rfl) rfl rfl hl.1 rfl (lv_room (Nat.le_of_ble_eq_true rfl)) d_Law_order_5 ⟨Nat.zero_le _, Nat.zero_le _⟩) rfl hH hA hS (fun H locs hH hS => ?_)
    refine lv_i2l (v := q.1.toInt64) hx hb d_Law_order_8 rfl ?_
    obtain ⟨_, e3, hf⟩ := x_b hf
    obtain ⟨n3, hT3, hi3⟩ := x_ix_e e3
    refine x_last hx hb hK hH hS hT3 1 rfl hi3 d_Law_order_9 (fun H locs hH hS => ?_)
    obtain ⟨w1, e4, hf⟩ := x_b hf
    have hH := x_nw e4 hH
    refine lv_goto (tgt := 21) hx hb d_Law_order_10 (by decide) ?_
    refine lv_iconst (v := 0) hx hb d_Law_order_21 (by decide) ?_
    cases hf
    refine W.widen (k := 1) (n := 6) (Nat.zero_le _) (Nat.zero_le _) ?_
    exact W.iret hx hb hr (fun t ht hW => ⟨rfl, hS.F ht, by rw [ht]; exact hH.weaken (fun _ _ _ => trivial)⟩) hS.2.2 d_Law_order_22
