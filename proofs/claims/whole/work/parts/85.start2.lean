/-! THE START: what was evaluated, told as the relation -/
theorem WS_d {T : x_T} {w : x_W} {b n : Nat} (n1 : 1 ≤ n) (n12 : n ≤ 12) (h : WSd T w b n) : WS T w b n := by
  unfold WSd at h
  obtain ⟨a1, a2, a3, a4, a5, a6, a7, a8, a9, b1, b2, b3, b4, b5, b6, b7, b8, b9, c1, c2⟩ := h
  exact ⟨n1, n12, a1, a2, a3, a4, a5, a6, a7, a8, a9, b1, fun k hk => b2 k (by omega), b3, b4, b5, b6, b7, b8, b9, c1, c2⟩
theorem EB0 : EB E0 := by
  have hc : ∀ top : Int, 0 ≤ top → Cor 1 (fun _ => 0) (fun _ => 0) top := fun top ht => ⟨by omega, fun i hi => by omega, fun i hi => by
    show (-5000 : Int) ≤ 0 ∧ (0 : Int) ≤ 1000000 ∧ (0 : Int) ≤ 0 ∧ (0 : Int) ≤ top
    omega⟩
  have hc0 : ∀ top : Int, 0 ≤ top → Cor 0 (fun _ => 0) (fun _ => 0) top := fun top ht => ⟨by omega, fun i hi => by omega, fun i hi => by omega⟩
  refine ⟨fun m hm => ?_, hc0 100000 (by omega), fun m hm => ?_, ?_, fun h hh => ?_, fun h hh => ?_, fun h hh => ?_, fun h hh => ?_, fun h hh => ?_, fun h hh => ?_⟩
  · have e : E0.cn m = 1 := if_pos hm
    rw [e]
    exact ⟨hc 10000 (by omega), by omega, by omega, rfl⟩
  · show (0 : Int) ≤ 0 ∧ (0 : Int) ≤ 1000 ∧ (0 : Int) ≤ 0 ∧ (0 : Int) ≤ 1000 ∧ (1 : Int) ≤ 100 ∧ (100 : Int) ≤ 1000
    omega
  · show (0 : Int) ≤ 10 ∧ (10 : Int) ≤ 1000 ∧ (0 : Int) ≤ 10 ∧ (10 : Int) ≤ 1000
    omega
  · show (-5000 : Int) ≤ 0 ∧ (0 : Int) ≤ 5000
    omega
  · show (0 : Int) ≤ 0 ∧ (0 : Int) ≤ 10000
    omega
  · show (0 : Int) ≤ 0 ∧ (0 : Int) ≤ 1000
    omega
  · show (0 : Int) ≤ 0 ∧ (0 : Int) ≤ 1000
    omega
  · show (-5000 : Int) ≤ 0 ∧ (0 : Int) ≤ 5000
    omega
  · show (0 : Int) ≤ 0 ∧ (0 : Int) ≤ 10000
    omega
theorem AB0 {n : Nat} (n1 : 1 ≤ n) (n12 : n ≤ 12) : AB n A0 := by
  refine ⟨EB0, ⟨n1, n12, fun k hk => ?_, fun k hk => ?_, fun k hk => ?_, fun k hk => ?_⟩, fun k hk => Or.inl rfl, ?_, fun i hi => ?_, ?_, ?_⟩
  · show 0 < 6
    omega
  · show (1 : Int) ≤ 10 ∧ (10 : Int) ≤ 1000
    omega
  · show (0 : Int) ≤ 0 ∧ (0 : Int) ≤ 1000
    omega
  · show (0 : Int) ≤ 0 ∧ (0 : Int) ≤ 0
    omega
  · show 0 ≤ 6
    omega
  · exact absurd (show i < 0 from hi) (by omega)
  · show 0 ≤ 10000
    omega
  · show (0 : Int) ≤ (0 : Int32).toInt ∧ (0 : Int32).toInt ≤ 1000000
    decide
theorem EC0 {T : x_T} {w : x_W} (h : ECd T w) : EC T w E0 := by
  unfold ECd at h
  obtain ⟨a1, a2, a3, a4, a5, a6, a7, a8, a9, b1, b2, b3, b4, b5, b6⟩ := h
  refine ⟨a1, a2, fun c hc j hj => ?_, a4, a5, a6, a7, a8, a9, b1, b2, b3, fun j h hj hh => b4 j hj h hh, b5, b6⟩
  have hj' : j < if c < 6 then 1 else 0 := hj
  have hj8 : j < 8 := by split at hj' <;> omega
  have := a3 c hc j hj8
  rw [this.1, this.2]
  exact ⟨rfl, rfl⟩
theorem SC0 {n : Nat} (n1 : 1 ≤ n) (n12 : n ≤ 12) (h1 : WSd (t1c n) (w1c n) 41 n) (h2 : WSd (t1c n) (w1c n) (51 + 3 * n) n) (h3 : CTd (t1c n) (w1c n) n) (h4 : ECd (t1c n) (w1c n)) (h5 : KCd (w1c n) n) (h6 : DCd (w1c n)) : SC (t1c n) (w1c n) n A0 := by
  unfold KCd at h5
  unfold DCd at h6
  obtain ⟨a1, a2, a3, a4, a5, a6, a7, a8⟩ := h6
  exact ⟨WS_d n1 n12 h1, WS_d n1 n12 h2, h3, EC0 h4, ⟨fun k hk => (h5 k hk).1, fun k hk => (h5 k hk).2.1, fun k hk => (h5 k hk).2.2.1, fun k hk => (h5 k hk).2.2.2.1⟩, ⟨fun k hk => (h5 k hk).2.2.2.2.1, fun k hk => (h5 k hk).2.2.2.2.2.1, fun k hk => (h5 k hk).2.2.2.2.2.2.1, fun k hk => (h5 k hk).2.2.2.2.2.2.2, a1, fun i hi => absurd (show i < 0 from hi) (by omega), fun i hi => absurd (show i < 0 from hi) (by omega), fun i hi => absurd (show i < 0 from hi) (by omega), fun i hi => absurd (show i < 0 from hi) (by omega), a2, a3, a4, a5, a6, a7, a8⟩⟩
theorem SR0 {n : Nat} (h1 : RTd (t2c n) (w2c n)) (h2 : RVd (w2c n) n) (h3 : RJd (w2c n)) : SR (t2c n) (w2c n) n A0 := by
  unfold RVd at h2
  unfold RJd at h3
  obtain ⟨v1, v2, v3, v4, v5, v6⟩ := h2
  obtain ⟨a1, a2, a3, a4, a5, a6, a7, a8, a9, b1, b2⟩ := h3
  refine ⟨⟨h1, v1, fun m hm => ?_, fun m hm j hj => ?_, a1, fun j hj => absurd (show j < 0 from hj) (by omega), fun m hm => ⟨(v2 m hm).2.1, (v2 m hm).2.2.1, (v2 m hm).2.2.2⟩, a2, a3, fun j h hj hh => v5 j hj h hh⟩, ⟨fun k hk => (v4 k hk).1, fun k hk => (v4 k hk).2.1, fun k hk => (v4 k hk).2.2.1, fun k hk => (v4 k hk).2.2.2.1⟩, ⟨fun k hk => (v4 k hk).2.2.2.2.1, fun k hk => (v4 k hk).2.2.2.2.2.1, fun k hk => (v4 k hk).2.2.2.2.2.2.1, fun k hk => (v4 k hk).2.2.2.2.2.2.2, a4, fun i hi => absurd (show i < 0 from hi) (by omega), fun i hi => absurd (show i < 0 from hi) (by omega), fun i hi => absurd (show i < 0 from hi) (by omega), fun i hi => absurd (show i < 0 from hi) (by omega), a5, a6, a7, a8, b1, a9, b2⟩⟩
  · rw [(v2 m hm).1]
    have e : A0.E.cn m = 1 := if_pos hm
    rw [e]
    rfl
  · have e : A0.E.cn m = 1 := if_pos hm
    rw [e] at hj
    have j0 : j = 0 := by omega
    have := v3 m hm
    rw [j0, Nat.add_zero, this.1, this.2]
    exact ⟨rfl, rfl⟩
set_option maxRecDepth 20000 in
theorem clampC (T : x_T) (w : x_W) (a : Int32) : ∃ n, 1 ≤ n ∧ n ≤ 12 ∧ f_WD_init 1000 T 1 w 0 a = f_WD_init 1000 T 1 w 0 (nI n) ∧ f_Mod_init 1000 (x_uT x_T0 0 10 0) 1 x_w0 0 a = f_Mod_init 1000 (x_uT x_T0 0 10 0) 1 x_w0 0 (nI n) := by
  have mm : ∀ b : Int32, ∀ n : Nat, 1 ≤ n → n ≤ 12 → max 1 (min 12 b.toInt) = (n : Int) → (f_Math_min T w (12 : Int32) b).bind (fun q1 => f_Math_max T w (1 : Int32) q1) = some (nI n) := by
    intro b n h1 h2 h
    have hb := z_r b
    have e12 : (12 : Int32) = Int32.ofInt 12 := rfl
    have e1 : (1 : Int32) = Int32.ofInt 1 := rfl
    rw [e12, ← z_o b, m_min T w (by omega) (by omega) (by omega) (by omega), Option.bind_some, e1, m_max T w (by omega) (by omega) (by omega) (by omega), h]
    rfl
  have cl : ∀ b : Int32, ∀ n : Nat, 1 ≤ n → n ≤ 12 → max 1 (min 12 b.toInt) = (n : Int) → f_WD_init 1000 T 1 w 0 b = ((x_lt 1 1000).bind fun _ => (x_sz (6 : Int32) 6).bind fun n7 => (some (x_uT T 1 103 n7)).bind fun T12 => (x_is T12 0 0).bind fun _ => (x_ex T12 1).bind fun _ => (some (x_sR w 7 0 (some 1))).bind fun w17 => f_WD_init_26 1000 7 T12 (1 + 1) w17 0 (nI n) (0 : Int32)) := by
    intro b n h1 h2 h
    have := mm b n h1 h2 h
    unfold f_WD_init
    cases hq : f_Math_min T w (12 : Int32) b with
    | none => rw [hq] at this; cases this
    | some q =>
      rw [hq] at this
      have e : f_Math_max T w (1 : Int32) q = some (nI n) := this
      rw [Option.bind_some, e, Option.bind_some]
  have ml : ∀ b : Int32, ∀ n : Nat, 1 ≤ n → n ≤ 12 → max 1 (min 12 b.toInt) = (n : Int) → ∀ (K : Int32 → Option (x_T × Nat × x_W)), (if (1 : Int32) ≤ b then (if b ≤ (12 : Int32) then K b else K 12) else K 1) = K (nI n) := by
    intro b n h1 h2 h K
    have e12 : (12 : Int32).toInt = 12 := rfl
    have e1 : (1 : Int32).toInt = 1 := rfl
    by_cases c1 : 1 ≤ b.toInt
    · rw [if_pos (by rw [z_le, e1]; exact c1)]
      by_cases c2 : b.toInt ≤ 12
      · rw [if_pos (by rw [z_le, e12]; exact c2)]
        congr 1
        rw [z_nI, ← h, show max 1 (min 12 b.toInt) = b.toInt by omega, z_o]
      · rw [if_neg (by rw [z_le, e12]; exact c2)]
        have : n = 12 := by omega
        rw [this]
        rfl
    · rw [if_neg (by rw [z_le, e1]; exact c1)]
      have : n = 1 := by omega
      rw [this]
      rfl
  obtain ⟨n, hn⟩ : ∃ n : Nat, max 1 (min 12 a.toInt) = (n : Int) := ⟨(max 1 (min 12 a.toInt)).toNat, by omega⟩
  have n1 : 1 ≤ n := by omega
  have n12 : n ≤ 12 := by omega
  have hnn : max 1 (min 12 (nI n).toInt) = (n : Int) := by rw [nI_intS (by omega)]; omega
  refine ⟨n, n1, n12, by rw [cl a n n1 n12 hn, cl (nI n) n n1 n12 hnn], ?_⟩
  unfold f_Mod_init
  simp only [ml a n n1 n12 hn, ml (nI n) n n1 n12 hnn]
theorem x_begin_ok : x_begin := by
  intro a
  obtain ⟨n, n1, n12, e1, e2⟩ := clampC (x_uT x_T0 0 0 0) x_w0 a
  have hC : chkC n = true := by
    have := List.all_eq_true.mp start_C (n - 1) (List.mem_range.mpr (by omega))
    rwa [show n - 1 + 1 = n by omega] at this
  have hM : chkM n = true := by
    have := List.all_eq_true.mp start_M (n - 1) (List.mem_range.mpr (by omega))
    rwa [show n - 1 + 1 = n by omega] at this
  unfold chkC at hC
  unfold chkM at hM
  simp only [Bool.and_eq_true, decide_eq_true_eq] at hC hM
  obtain ⟨c1, c2, c3, c4, c5, c6, c7, c8, c9⟩ := hC
  obtain ⟨m1, m2, m3, m4, m5⟩ := hM
  obtain ⟨q1, hq1⟩ := Option.isSome_iff_exists.mp c1
  obtain ⟨q2, hq2⟩ := Option.isSome_iff_exists.mp m1
  have g1 : q1c n = q1 := by unfold q1c; rw [hq1]; rfl
  have g2 : q2c n = q2 := by unfold q2c; rw [hq2]; rfl
  have S := SC0 n1 n12 (WSb_ok c4) (WSb_ok c5) (CTb_ok c6) (ECb_ok c7) (KCb_ok c8) (DCb_ok c9)
  have R := SR0 (RTb_ok m3) (RVb_ok m4) (RJb_ok m5)
  unfold t1c w1c at S
  unfold t2c w2c at R
  rw [g1] at S c2 c3
  rw [g2] at R m2
  refine ⟨q1, q2, Sim (x_uT q1.1 (62 + 6 * n) 101 1) q2.1 n, e1.trans hq1, e2.trans hq2, ⟨0, c3⟩, ⟨0, m2⟩, ⟨A0, AB0 n1 n12, S, R⟩, ?_⟩
  rw [c2]
  exact ⟨step_curve, step_rates, step_cell, step_table, step_full, step_films, step_outside, step_inside, step_water, step_leak, step_growth, step_run, step_told, step_balance, step_mould trivial, step_order⟩
theorem i_vc : Claimed_1_1 ∧ Claimed_1_2 := i_vc_of x_begin_ok
