/-! STEPS: told, balance, growth -/
section ASK
variable {T T1 T2 : x_T} {w w' : x_W} {n : Nat} {A : Ab}
theorem p_is {p : Int32} {k : Nat} (hk : k < 100000) : (p = nI k) ↔ p.toInt = k := by
  constructor
  · intro h; rw [h, nI_intS hk]
  · intro h; rw [z_nI, ← h, z_o]
theorem step_told : x_step12 T1 T2 0 (62 + 6 * n) 0 (Sim T1 T2 n) := by
  intro w1 w2 p1 p2 ⟨A, B, S, R⟩
  have hR := R.e.r
  have n1 := S.ws.n1
  have n12 := S.ws.n12
  have Rt := R.th 0
  by_cases h1 : 0 ≤ p1.toInt ∧ p1.toInt ≤ (n : Int) - 1
  · by_cases h2 : 0 ≤ p2.toInt ∧ p2.toInt ≤ 5
    · obtain ⟨k, em, hk, hk2⟩ := z_isN h1
      have hkn : k < n := by omega
      have tc := (S.ws.c k hkn).1
      have hhd := S.k.hd k hkn
      have hh := B.k.hd k hkn
      have hmo := B.e.mo (B.k.mt k hkn)
      have cd := c_dampOfHeld B.e S.ws S.e S.k B.k hkn
      rw [show 41 + 5 + 2 * k = 46 + 2 * k by omega] at tc hhd cd
      have rd := r_damp B.e Rt.e Rt.k B.k hkn
      have fz := B.fz k hkn
      obtain ⟨v, hv1, hv2⟩ : ∃ v : Int32, f_WD_told T1 w1 0 p1 p2 = some (.ok v) ∧ f_Mod_told_26 T2 w2 0 p1 p2 0 0 = some (v, x_sI w2 64 0 0) := by
        have c0 : f_WD_told T1 w1 0 p1 p2 = (if p2 = 0 then some (.ok (Int32.ofInt (A.C.hd k))) else if p2 = 1 then some (.ok (Int32.ofInt (dpz A.E A.C k))) else if p2 = 2 then some (.ok (A.wm k)) else if p2 = 3 then some (.ok (A.ps k)) else if p2 = 4 then (if A.fz k = 0 then some (.ok 0) else some (.ok 1)) else some (.ok (A.gd k))) := by
          rw [em]
          simp only [q_within, q_in, l0, l1, l5, l23, l48, l240, l1000, l5000, lm5000, l10000, l100000, l1000000, L0, L1, L5, L23, L48, L240, L1000, L5000, Lm5000, L10000, L100000, L1000000, Int32.toInt_toInt64, Option.bind_some, f_WD_told, f_WD_told_80, t_is S.ct.t0, q_cell1 S hkn, x_ec, if_pos h2, t_is tc, hhd, cd, S.d.wm k hkn, S.d.ps k hkn, S.d.fz k hkn, S.d.gd k hkn]
        have r0 : f_Mod_told_26 T2 w2 0 p1 p2 0 0 = (if p2 = 0 then some (Int32.ofInt (A.C.hd k), x_sI w2 64 0 0) else if p2 = 1 then some (Int32.ofInt (dpz A.E A.C k), x_sI w2 64 0 0) else if p2 = 2 then some (A.wm k, x_sI w2 64 0 0) else if p2 = 3 then some (A.ps k, x_sI w2 64 0 0) else if p2 = 4 then (if A.fz k = 0 then some (0, x_sI w2 64 0 0) else some (1, x_sI w2 64 0 0)) else some (A.gd k, x_sI w2 64 0 0)) := by
          rw [em]
          simp only [q_within, q_in, l0, l1, l5, l23, l48, l240, l1000, l5000, lm5000, l10000, l100000, l1000000, L0, L1, L5, L23, L48, L240, L1000, L5000, Lm5000, L10000, L100000, L1000000, Int32.toInt_toInt64, Option.bind_some, f_Mod_told_26, f_Mod_told_114, hR.i, th64, zer_le, if_true, rd]
          simp only [Option.bind_some, (hR).i, (hR).r66, (hR).r67, (hR).r68, (hR).r69, (hR).r70, (hR).r71, (hR).r72, (hR).r73, (hR).r74, (hR).r75, (hR).r76, (hR).r77, (hR).r78, (hR).r79, (hR).r81, (hR).r82, (hR).r85, (hR).r86, (hR).r87, (hR).r88, (hR).r89, (hR).r90, (hR).r92, (hR).r93, (hR).r94, (hR).r95, (hR).r103, (hR).r104, (hR).r105, (hR).r108, (hR).r109, (hR).r110, (hR).r111, (hR).r112, (hR).r113, (hR).r114, x_R_sI, x_R_sJ, x_R_sA, x_R_sB]
          simp only [t_ixn hR.a9 (show k < 12 by omega) (by omega), t_ixn hR.a11 (show k < 12 by omega) (by omega), t_ixn hR.a12 (show k < 12 by omega) (by omega), t_ixn hR.a13 (show k < 12 by omega) (by omega), t_ixn hR.a14 (show k < 12 by omega) (by omega), Option.bind_some, nI_clampS (show k < 100000 by omega), Rt.k.hd k hkn, Rt.d.wm k hkn, Rt.d.ps k hkn, Rt.d.fz k hkn, Rt.d.gd k hkn, z_32]
        rw [c0, r0]
        by_cases e0 : p2 = 0
        · exact ⟨_, by rw [if_pos e0], by rw [if_pos e0]⟩
        · by_cases e1 : p2 = 1
          · exact ⟨_, by rw [if_neg e0, if_pos e1], by rw [if_neg e0, if_pos e1]⟩
          · by_cases e2 : p2 = 2
            · exact ⟨_, by rw [if_neg e0, if_neg e1, if_pos e2], by rw [if_neg e0, if_neg e1, if_pos e2]⟩
            · by_cases e3 : p2 = 3
              · exact ⟨_, by rw [if_neg e0, if_neg e1, if_neg e2, if_pos e3], by rw [if_neg e0, if_neg e1, if_neg e2, if_pos e3]⟩
              · by_cases e4 : p2 = 4
                · by_cases e5 : A.fz k = 0
                  · exact ⟨_, by rw [if_neg e0, if_neg e1, if_neg e2, if_neg e3, if_pos e4, if_pos e5], by rw [if_neg e0, if_neg e1, if_neg e2, if_neg e3, if_pos e4, if_pos e5]⟩
                  · exact ⟨_, by rw [if_neg e0, if_neg e1, if_neg e2, if_neg e3, if_pos e4, if_neg e5], by rw [if_neg e0, if_neg e1, if_neg e2, if_neg e3, if_pos e4, if_neg e5]⟩
                · exact ⟨_, by rw [if_neg e0, if_neg e1, if_neg e2, if_neg e3, if_neg e4], by rw [if_neg e0, if_neg e1, if_neg e2, if_neg e3, if_neg e4]⟩
      refine ok_a rfl B S Rt v (th64 _ _) ?_ ?_
      · simp only [q_within, q_in, l0, l1, l5, l23, l48, l240, l1000, l5000, lm5000, l10000, l100000, l1000000, L0, L1, L5, L23, L48, L240, L1000, L5000, Lm5000, L10000, L100000, L1000000, Int32.toInt_toInt64, Option.bind_some, f_Law_told, t_is S.ct.t0, hv1, x_cc, out_ix S.ct]
        rfl
      · simp only [q_within, q_in, l0, l1, l5, l23, l48, l240, l1000, l5000, lm5000, l10000, l100000, l1000000, L0, L1, L5, L23, L48, L240, L1000, L5000, Lm5000, L10000, L100000, L1000000, Int32.toInt_toInt64, Option.bind_some, f_Mod_told, hR.i, q_isCell R.e n1 n12, if_pos h1, if_pos h2, one_ne, if_false]
        exact hv2
    · refine fail_a B S R 1 (by decide) ?_ ?_
      · simp only [q_within, q_in, l0, l1, l5, l23, l48, l240, l1000, l5000, lm5000, l10000, l100000, l1000000, L0, L1, L5, L23, L48, L240, L1000, L5000, Lm5000, L10000, L100000, L1000000, Int32.toInt_toInt64, Option.bind_some, f_Law_told, f_WD_told, t_is S.ct.t0, q_cell S, x_ec, x_cc, if_pos h1, if_neg h2, if_true]
      · simp only [q_within, q_in, l0, l1, l5, l23, l48, l240, l1000, l5000, lm5000, l10000, l100000, l1000000, L0, L1, L5, L23, L48, L240, L1000, L5000, Lm5000, L10000, L100000, L1000000, Int32.toInt_toInt64, Option.bind_some, f_Mod_told, f_Mod_told_25, f_Mod_told_26, hR.i, q_isCell R.e n1 n12, if_pos h1, if_neg h2, one_ne, one_le, zer_eq, if_false, if_true, th64]
  · refine fail_a B S R 1 (by decide) ?_ ?_
    · simp only [q_within, q_in, l0, l1, l5, l23, l48, l240, l1000, l5000, lm5000, l10000, l100000, l1000000, L0, L1, L5, L23, L48, L240, L1000, L5000, Lm5000, L10000, L100000, L1000000, Int32.toInt_toInt64, Option.bind_some, f_Law_told, f_WD_told, t_is S.ct.t0, q_cell S, x_ec, x_cc, if_neg h1, if_true]
    · simp only [q_within, q_in, l0, l1, l5, l23, l48, l240, l1000, l5000, lm5000, l10000, l100000, l1000000, L0, L1, L5, L23, L48, L240, L1000, L5000, Lm5000, L10000, L100000, L1000000, Int32.toInt_toInt64, Option.bind_some, f_Mod_told, f_Mod_told_25, f_Mod_told_26, hR.i, q_isCell R.e n1 n12, if_neg h1, one_ne, one_le, zer_eq, if_false, if_true, th64]
theorem c_allWater {E : En} {b : Nat} {C : Ce} (S : WS T w b n) (B : EB E) (K : KC w b n C) (KBd : KB E n C) : f_Wall_allWater T w b = some (Int64.ofInt (zs C.hd n)) := by
  have n12 := S.n12
  unfold f_Wall_allWater
  simp only [t_is S.t, S.r55, t_len S.tc, Option.bind_some]
  have h := loop_up (σ := Int64) (N := n) (by omega) (fun fuel s i => f_Wall_allWater_14 T fuel w s (b + 3) (nI n) i) (fun j s => s = Int64.ofInt (zs C.hd j)) (fun s => s = Int64.ofInt (zs C.hd n)) ?_ ?_ 0 rfl
  · obtain ⟨a, h1, h2⟩ := h
    rw [h1, h2]
  · intro i s fuel hi hs
    subst hs
    refine ⟨_, rfl, ?_⟩
    have hh := KBd.hd i hi
    have hmo := B.mo (KBd.mt i hi)
    show f_Wall_allWater_14 T (fuel + 1) w _ _ _ _ = f_Wall_allWater_14 T fuel _ _ _ _ _
    rw [f_Wall_allWater_14, if_neg (by rw [nI_leS (by omega) (by omega)]; omega), t_ixn S.tc hi (by omega), nI_clampS (by omega), (S.c i hi).2]
    simp only [Option.bind_some, t_is (S.c i hi).1, K.hd i hi]
    rw [z_64 (by omega) (by omega), z_Add, nI_inc, zs_s]
  · intro s fuel hs
    subst hs
    show wp (f_Wall_allWater_14 T (fuel + 1) w _ _ _ _) _
    rw [f_Wall_allWater_14, if_pos (by rw [nI_leS (by omega) (by omega)]; omega), wp_some]
theorem r_allWater {E : En} {C : Ce} (G : ER T w E n) (K : KR w n C) (KBd : KB E n C) : f_Mod_allWater T w 0 = some (Int64.ofInt (zs C.hd n)) := by
  have n12 := KBd.n12
  have hR := G.r
  unfold f_Mod_allWater
  have h := loop_up (σ := Int64) (N := n) (by omega) (fun fuel s i => f_Mod_allWater_4 T fuel w 0 s i) (fun j s => s = Int64.ofInt (zs C.hd j)) (fun s => s = Int64.ofInt (zs C.hd n)) ?_ ?_ 0 rfl
  · obtain ⟨a, h1, h2⟩ := h
    rw [h1, h2]
  · intro i s fuel hi hs
    subst hs
    refine ⟨_, rfl, ?_⟩
    show f_Mod_allWater_4 T (fuel + 1) w _ _ _ = f_Mod_allWater_4 T fuel _ _ _ _
    rw [f_Mod_allWater_4, hR.i, Option.bind_some, G.n, if_neg (by rw [nI_leS (by omega) (by omega)]; omega), hR.r74]
    simp only [Option.bind_some, t_ixn hR.a9 (show i < 12 by omega) (by omega), nI_clampS (show i < 100000 by omega), K.hd i hi]
    rw [z_Add, nI_inc, zs_s]
  · intro s fuel hs
    subst hs
    show wp (f_Mod_allWater_4 T (fuel + 1) w _ _ _) _
    rw [f_Mod_allWater_4, hR.i, Option.bind_some, G.n, if_pos (by rw [nI_leS (by omega) (by omega)]; omega), wp_some]
theorem step_balance : x_step13 T1 T2 0 (62 + 6 * n) 0 (Sim T1 T2 n) := by
  intro w1 w2 p1 ⟨A, B, S, R⟩
  have hR := R.e.r
  have n1 := S.ws.n1
  have n12 := S.ws.n12
  have Rt := R.th 0
  by_cases h1 : 0 ≤ p1.toInt ∧ p1.toInt ≤ 5
  · have cw := c_allWater S.ws B.e S.k B.k
    have rw' := r_allWater Rt.e Rt.k B.k
    obtain ⟨v, hv1, hv2⟩ : ∃ v : Int64, f_WD_balance T1 w1 0 p1 = some (.ok v) ∧ f_Mod_balance_18 T2 w2 0 p1 0 0 = some (v, x_sI w2 64 0 0) := by
      have c0 : f_WD_balance T1 w1 0 p1 = (if p1 = 0 then some (.ok (Int64.ofInt (zs A.C.hd n))) else if p1 = 1 then some (.ok A.og) else if p1 = 2 then some (.ok A.ig) else if p1 = 3 then some (.ok A.oc) else if p1 = 4 then some (.ok A.ic) else some (.ok A.st)) := by
        have ta := S.ws.ta
        have ti := S.ws.ti
        have r56 := S.ws.r56
        have r57 := S.ws.r57
        simp only [Nat.reduceAdd] at ta ti r56 r57
        simp only [q_within, q_in, l0, l1, l5, l23, l48, l240, l1000, l5000, lm5000, l10000, l100000, l1000000, L0, L1, L5, L23, L48, L240, L1000, L5000, Lm5000, L10000, L100000, L1000000, Int32.toInt_toInt64, Option.bind_some, f_WD_balance, if_pos h1, x_ec, t_is S.ct.t0, S.ct.r10, t_is S.ws.t, cw, r56, r57, t_is ta, t_is ti, S.d.og, S.d.ig, S.d.oc, S.d.ic, S.d.st]
      have r0 : f_Mod_balance_18 T2 w2 0 p1 0 0 = (if p1 = 0 then some (Int64.ofInt (zs A.C.hd n), x_sI w2 64 0 0) else if p1 = 1 then some (A.og, x_sI w2 64 0 0) else if p1 = 2 then some (A.ig, x_sI w2 64 0 0) else if p1 = 3 then some (A.oc, x_sI w2 64 0 0) else if p1 = 4 then some (A.ic, x_sI w2 64 0 0) else some (A.st, x_sI w2 64 0 0)) := by
        simp only [q_within, q_in, l0, l1, l5, l23, l48, l240, l1000, l5000, lm5000, l10000, l100000, l1000000, L0, L1, L5, L23, L48, L240, L1000, L5000, Lm5000, L10000, L100000, L1000000, Int32.toInt_toInt64, Option.bind_some, f_Mod_balance_18, hR.i, th64, zer_le, if_true, rw', Rt.d.og, Rt.d.ig, Rt.d.oc, Rt.d.ic, Rt.d.st]
      rw [c0, r0]
      by_cases e0 : p1 = 0
      · exact ⟨_, by rw [if_pos e0], by rw [if_pos e0]⟩
      · by_cases e1 : p1 = 1
        · exact ⟨_, by rw [if_neg e0, if_pos e1], by rw [if_neg e0, if_pos e1]⟩
        · by_cases e2 : p1 = 2
          · exact ⟨_, by rw [if_neg e0, if_neg e1, if_pos e2], by rw [if_neg e0, if_neg e1, if_pos e2]⟩
          · by_cases e3 : p1 = 3
            · exact ⟨_, by rw [if_neg e0, if_neg e1, if_neg e2, if_pos e3], by rw [if_neg e0, if_neg e1, if_neg e2, if_pos e3]⟩
            · by_cases e4 : p1 = 4
              · exact ⟨_, by rw [if_neg e0, if_neg e1, if_neg e2, if_neg e3, if_pos e4], by rw [if_neg e0, if_neg e1, if_neg e2, if_neg e3, if_pos e4]⟩
              · exact ⟨_, by rw [if_neg e0, if_neg e1, if_neg e2, if_neg e3, if_neg e4], by rw [if_neg e0, if_neg e1, if_neg e2, if_neg e3, if_neg e4]⟩
    refine ⟨(0, x_sB w1 (62 + 6 * n) 0 v), (v, x_sI w2 64 0 0), ?_, ?_, thr R _ _ (th64 _ _), fun _ => ?_, A, B, S.out _ _ _, Rt⟩
    · simp only [q_within, q_in, l0, l1, l5, l23, l48, l240, l1000, l5000, lm5000, l10000, l100000, l1000000, L0, L1, L5, L23, L48, L240, L1000, L5000, Lm5000, L10000, L100000, L1000000, Int32.toInt_toInt64, Option.bind_some, f_Law_balance, t_is S.ct.t0, hv1, x_cc, out_ix S.ct]
      rfl
    · simp only [q_within, q_in, l0, l1, l5, l23, l48, l240, l1000, l5000, lm5000, l10000, l100000, l1000000, L0, L1, L5, L23, L48, L240, L1000, L5000, Lm5000, L10000, L100000, L1000000, Int32.toInt_toInt64, Option.bind_some, f_Mod_balance, if_pos h1, one_ne, if_false]
      exact hv2
    · show x_B (x_sB w1 (62 + 6 * n) 0 _) (62 + 6 * n) 0 = _
      simp [wp_some, wp_bind, x_I_sI, x_J_sJ, x_R_sR, x_A_sA, x_B_sB, x_I_sJ, x_I_sR, x_I_sA, x_I_sB, x_J_sI, x_J_sR, x_J_sA, x_J_sB, x_R_sI, x_R_sJ, x_R_sA, x_R_sB, x_A_sI, x_A_sJ, x_A_sR, x_A_sB, x_B_sI, x_B_sJ, x_B_sR, x_B_sA, x_Q_sI, x_Q_sJ, x_Q_sR, x_Q_sA, x_Q_sB, En.cn_mk, En.X_mk, En.Y_mk, En.vp_mk, En.lq_mk, En.ld_mk, En.fo_mk, En.fi_mk, En.cl_mk, Ce.mt_mk, Ce.th_mk, Ce.lk_mk, Ce.hd_mk, Ab.E_mk, Ab.C_mk, Ab.wm_mk, Ab.ps_mk, Ab.fz_mk, Ab.gd_mk, Ab.gn_mk, Ab.g1_mk, Ab.g2_mk, Ab.g3_mk, Ab.g4_mk, Ab.hr_mk, Ab.mo_mk, Ab.st_mk, Ab.og_mk, Ab.oc_mk, Ab.ig_mk, Ab.ic_mk]
  · refine ⟨(1, w1), (0, x_sI w2 64 0 1), ?_, ?_, thr R _ _ (th64 _ _), fun z => absurd (show (1 : Int32) = 0 from z) (by decide), A, B, S, R.th 1⟩
    · simp only [q_within, q_in, l0, l1, l5, l23, l48, l240, l1000, l5000, lm5000, l10000, l100000, l1000000, L0, L1, L5, L23, L48, L240, L1000, L5000, Lm5000, L10000, L100000, L1000000, Int32.toInt_toInt64, Option.bind_some, f_Law_balance, f_WD_balance, t_is S.ct.t0, x_ec, x_cc, if_neg h1, if_true]
    · simp only [q_within, q_in, l0, l1, l5, l23, l48, l240, l1000, l5000, lm5000, l10000, l100000, l1000000, L0, L1, L5, L23, L48, L240, L1000, L5000, Lm5000, L10000, L100000, L1000000, Int32.toInt_toInt64, Option.bind_some, f_Mod_balance, f_Mod_balance_18, hR.i, if_neg h1, one_le, zer_eq, if_false, if_true, th64]
theorem step_growth : x_step10 T1 T2 0 (62 + 6 * n) 0 (Sim T1 T2 n) := by
  intro w1 w2 p1 p2 p3 p4 ⟨A, B, S, R⟩
  have hR := R.e.r
  have n1 := S.ws.n1
  have n12 := S.ws.n12
  have hg := B.gn
  have refbad : ∀ o, o = f_Mod_growth_62 T2 w2 0 p1 p2 p3 p4 → o = some (0, x_sI w2 64 0 1) := by
    intro o ho
    rw [ho]
    simp only [q_within, q_in, l0, l1, l5, l23, l48, l240, l1000, l5000, lm5000, l10000, l100000, l1000000, L0, L1, L5, L23, L48, L240, L1000, L5000, Lm5000, L10000, L100000, L1000000, Int32.toInt_toInt64, Option.bind_some, f_Mod_growth_62, f_Mod_growth_63, f_Mod_growth_89, zer_eq, if_true, hR.i, th64, one_le, if_false]
  by_cases h1 : 0 ≤ p1.toInt ∧ p1.toInt ≤ 10000
  · by_cases h3 : -5000 ≤ p3.toInt ∧ p3.toInt ≤ 10000
    · by_cases h2 : -5000 ≤ p2.toInt ∧ p2.toInt ≤ p3.toInt
      · have h2' : -5000 ≤ p2.toInt ∧ p2.toInt ≤ 10000 := by omega
        have h23 : ¬ p3 < p2 := by rw [z_lt]; omega
        by_cases h4 : 1 ≤ p4.toInt ∧ p4.toInt ≤ 1000
        · have r38 := S.ct.r38
          have b1 : x_bo (1 : Int32) = some () := rfl
          have b0 : x_bo (0 : Int32) = some () := rfl
          by_cases h6 : A.gn = 6
          · refine fail_a B S R 2 (by decide) ?_ ?_
            · simp only [q_within, q_in, l0, l1, l5, l23, l48, l240, l1000, l5000, lm5000, l10000, l100000, l1000000, L0, L1, L5, L23, L48, L240, L1000, L5000, Lm5000, L10000, L100000, L1000000, Int32.toInt_toInt64, Option.bind_some, f_Law_growth, f_WD_growth, f_MouldRows_hasPlace, f_MouldRows_hasPlace_14, t_is S.ct.t0, x_ec, x_cc, if_pos h1, if_pos h2, if_pos h3, if_pos h4, S.ct.r9, t_is S.ct.t36, S.d.gn, if_pos (show (6 : Int32) ≤ nI A.gn by rw [h6]; decide), b0, zer_eq, if_true]
              rfl
            · simp only [q_within, q_in, l0, l1, l5, l23, l48, l240, l1000, l5000, lm5000, l10000, l100000, l1000000, L0, L1, L5, L23, L48, L240, L1000, L5000, Lm5000, L10000, L100000, L1000000, Int32.toInt_toInt64, Option.bind_some, f_Mod_growth, f_Mod_growth_63, f_Mod_growth_89, if_pos h1, if_pos h2', if_pos h3, if_neg h23, if_pos h4, one_ne, if_false, hR.i, R.d.gn, if_pos (show nI A.gn = 6 by rw [h6]; rfl), th64, two_le]
          · have n6 : ¬ (6 : Int32) ≤ nI A.gn := by rw [show (6 : Int32) = nI 6 from rfl, nI_leS (by omega) (by omega)]; omega
            have n6' : ¬ nI A.gn = 6 := fun q => h6 ((nI_eqS (b := 6) (by omega) (by omega)).mp q)
            have hg6 : A.gn < 6 := by omega
            refine ok_a rfl (A' := (Ab.mk_ A.E A.C A.wm A.ps A.fz A.gd (A.gn + 1) (ud A.g1 A.gn p1) (ud A.g2 A.gn p2) (ud A.g3 A.gn p3) (ud A.g4 A.gn p4) A.hr A.mo A.st A.og A.oc A.ig A.ic)) ?_ (w1 := x_sI (x_sA (x_sA (x_sA (x_sA w1 37 A.gn p1) 38 A.gn p2) 39 A.gn p3) 40 A.gn p4) 42 36 (nI (A.gn + 1))) ?_ (w2 := x_sI (x_sA (x_sA (x_sA (x_sA (x_sI w2 64 0 0) 23 A.gn p1) 24 A.gn p2) 25 A.gn p3) 26 A.gn p4) 91 0 (nI (A.gn + 1))) ?_ (nI (A.gn + 1)) (by simp [wp_some, wp_bind, x_I_sI, x_J_sJ, x_R_sR, x_A_sA, x_B_sB, x_I_sJ, x_I_sR, x_I_sA, x_I_sB, x_J_sI, x_J_sR, x_J_sA, x_J_sB, x_R_sI, x_R_sJ, x_R_sA, x_R_sB, x_A_sI, x_A_sJ, x_A_sR, x_A_sB, x_B_sI, x_B_sJ, x_B_sR, x_B_sA, x_Q_sI, x_Q_sJ, x_Q_sR, x_Q_sA, x_Q_sB, En.cn_mk, En.X_mk, En.Y_mk, En.vp_mk, En.lq_mk, En.ld_mk, En.fo_mk, En.fi_mk, En.cl_mk, Ce.mt_mk, Ce.th_mk, Ce.lk_mk, Ce.hd_mk, Ab.E_mk, Ab.C_mk, Ab.wm_mk, Ab.ps_mk, Ab.fz_mk, Ab.gd_mk, Ab.gn_mk, Ab.g1_mk, Ab.g2_mk, Ab.g3_mk, Ab.g4_mk, Ab.hr_mk, Ab.mo_mk, Ab.st_mk, Ab.og_mk, Ab.oc_mk, Ab.ig_mk, Ab.ic_mk]) ?_ ?_
            · refine ⟨B.e, B.k, B.fz, by dsimp only [En.cn_mk, En.X_mk, En.Y_mk, En.vp_mk, En.lq_mk, En.ld_mk, En.fo_mk, En.fi_mk, En.cl_mk, Ce.mt_mk, Ce.th_mk, Ce.lk_mk, Ce.hd_mk, Ab.E_mk, Ab.C_mk, Ab.wm_mk, Ab.ps_mk, Ab.fz_mk, Ab.gd_mk, Ab.gn_mk, Ab.g1_mk, Ab.g2_mk, Ab.g3_mk, Ab.g4_mk, Ab.hr_mk, Ab.mo_mk, Ab.st_mk, Ab.og_mk, Ab.oc_mk, Ab.ig_mk, Ab.ic_mk]; omega, fun i hi => ?_, B.hr, B.mo⟩
              dsimp only [En.cn_mk, En.X_mk, En.Y_mk, En.vp_mk, En.lq_mk, En.ld_mk, En.fo_mk, En.fi_mk, En.cl_mk, Ce.mt_mk, Ce.th_mk, Ce.lk_mk, Ce.hd_mk, Ab.E_mk, Ab.C_mk, Ab.wm_mk, Ab.ps_mk, Ab.fz_mk, Ab.gd_mk, Ab.gn_mk, Ab.g1_mk, Ab.g2_mk, Ab.g3_mk, Ab.g4_mk, Ab.hr_mk, Ab.mo_mk, Ab.st_mk, Ab.og_mk, Ab.oc_mk, Ab.ig_mk, Ab.ic_mk] at hi ⊢
              by_cases e : i = A.gn
              · subst e; rw [ud_s]; exact h4
              · rw [ud_o _ _ e]; exact B.g4 i (by omega)
            · have D := S.d
              refine ⟨S.ws.of (fun _ _ _ _ _ => rfl) (fun _ _ => rfl), S.wt.of (fun _ _ _ _ _ => rfl) (fun _ _ => rfl), S.ct.of (fun _ _ _ _ _ => rfl) (fun _ _ => rfl), S.e.of (fun k h hk => by rw [x_I_sI, if_neg (by omega)]; rfl) (fun _ _ _ _ _ => rfl) (fun i j hi => by rw [x_A_sI, x_A_sA, if_neg (by omega), x_A_sA, if_neg (by omega), x_A_sA, if_neg (by omega), x_A_sA, if_neg (by omega)]), ⟨S.k.mt, fun k hk => by simpa [wp_some, wp_bind, x_I_sI, x_J_sJ, x_R_sR, x_A_sA, x_B_sB, x_I_sJ, x_I_sR, x_I_sA, x_I_sB, x_J_sI, x_J_sR, x_J_sA, x_J_sB, x_R_sI, x_R_sJ, x_R_sA, x_R_sB, x_A_sI, x_A_sJ, x_A_sR, x_A_sB, x_B_sI, x_B_sJ, x_B_sR, x_B_sA, x_Q_sI, x_Q_sJ, x_Q_sR, x_Q_sA, x_Q_sB, En.cn_mk, En.X_mk, En.Y_mk, En.vp_mk, En.lq_mk, En.ld_mk, En.fo_mk, En.fi_mk, En.cl_mk, Ce.mt_mk, Ce.th_mk, Ce.lk_mk, Ce.hd_mk, Ab.E_mk, Ab.C_mk, Ab.wm_mk, Ab.ps_mk, Ab.fz_mk, Ab.gd_mk, Ab.gn_mk, Ab.g1_mk, Ab.g2_mk, Ab.g3_mk, Ab.g4_mk, Ab.hr_mk, Ab.mo_mk, Ab.st_mk, Ab.og_mk, Ab.oc_mk, Ab.ig_mk, Ab.ic_mk] using S.k.th k hk, fun k hk => by simpa [wp_some, wp_bind, x_I_sI, x_J_sJ, x_R_sR, x_A_sA, x_B_sB, x_I_sJ, x_I_sR, x_I_sA, x_I_sB, x_J_sI, x_J_sR, x_J_sA, x_J_sB, x_R_sI, x_R_sJ, x_R_sA, x_R_sB, x_A_sI, x_A_sJ, x_A_sR, x_A_sB, x_B_sI, x_B_sJ, x_B_sR, x_B_sA, x_Q_sI, x_Q_sJ, x_Q_sR, x_Q_sA, x_Q_sB, En.cn_mk, En.X_mk, En.Y_mk, En.vp_mk, En.lq_mk, En.ld_mk, En.fo_mk, En.fi_mk, En.cl_mk, Ce.mt_mk, Ce.th_mk, Ce.lk_mk, Ce.hd_mk, Ab.E_mk, Ab.C_mk, Ab.wm_mk, Ab.ps_mk, Ab.fz_mk, Ab.gd_mk, Ab.gn_mk, Ab.g1_mk, Ab.g2_mk, Ab.g3_mk, Ab.g4_mk, Ab.hr_mk, Ab.mo_mk, Ab.st_mk, Ab.og_mk, Ab.oc_mk, Ab.ig_mk, Ab.ic_mk] using S.k.lk k hk, fun k hk => by simpa [wp_some, wp_bind, x_I_sI, x_J_sJ, x_R_sR, x_A_sA, x_B_sB, x_I_sJ, x_I_sR, x_I_sA, x_I_sB, x_J_sI, x_J_sR, x_J_sA, x_J_sB, x_R_sI, x_R_sJ, x_R_sA, x_R_sB, x_A_sI, x_A_sJ, x_A_sR, x_A_sB, x_B_sI, x_B_sJ, x_B_sR, x_B_sA, x_Q_sI, x_Q_sJ, x_Q_sR, x_Q_sA, x_Q_sB, En.cn_mk, En.X_mk, En.Y_mk, En.vp_mk, En.lq_mk, En.ld_mk, En.fo_mk, En.fi_mk, En.cl_mk, Ce.mt_mk, Ce.th_mk, Ce.lk_mk, Ce.hd_mk, Ab.E_mk, Ab.C_mk, Ab.wm_mk, Ab.ps_mk, Ab.fz_mk, Ab.gd_mk, Ab.gn_mk, Ab.g1_mk, Ab.g2_mk, Ab.g3_mk, Ab.g4_mk, Ab.hr_mk, Ab.mo_mk, Ab.st_mk, Ab.og_mk, Ab.oc_mk, Ab.ig_mk, Ab.ic_mk] using S.k.hd k hk⟩, ⟨fun k hk => by simpa [wp_some, wp_bind, x_I_sI, x_J_sJ, x_R_sR, x_A_sA, x_B_sB, x_I_sJ, x_I_sR, x_I_sA, x_I_sB, x_J_sI, x_J_sR, x_J_sA, x_J_sB, x_R_sI, x_R_sJ, x_R_sA, x_R_sB, x_A_sI, x_A_sJ, x_A_sR, x_A_sB, x_B_sI, x_B_sJ, x_B_sR, x_B_sA, x_Q_sI, x_Q_sJ, x_Q_sR, x_Q_sA, x_Q_sB, En.cn_mk, En.X_mk, En.Y_mk, En.vp_mk, En.lq_mk, En.ld_mk, En.fo_mk, En.fi_mk, En.cl_mk, Ce.mt_mk, Ce.th_mk, Ce.lk_mk, Ce.hd_mk, Ab.E_mk, Ab.C_mk, Ab.wm_mk, Ab.ps_mk, Ab.fz_mk, Ab.gd_mk, Ab.gn_mk, Ab.g1_mk, Ab.g2_mk, Ab.g3_mk, Ab.g4_mk, Ab.hr_mk, Ab.mo_mk, Ab.st_mk, Ab.og_mk, Ab.oc_mk, Ab.ig_mk, Ab.ic_mk] using D.wm k hk, fun k hk => by simpa [wp_some, wp_bind, x_I_sI, x_J_sJ, x_R_sR, x_A_sA, x_B_sB, x_I_sJ, x_I_sR, x_I_sA, x_I_sB, x_J_sI, x_J_sR, x_J_sA, x_J_sB, x_R_sI, x_R_sJ, x_R_sA, x_R_sB, x_A_sI, x_A_sJ, x_A_sR, x_A_sB, x_B_sI, x_B_sJ, x_B_sR, x_B_sA, x_Q_sI, x_Q_sJ, x_Q_sR, x_Q_sA, x_Q_sB, En.cn_mk, En.X_mk, En.Y_mk, En.vp_mk, En.lq_mk, En.ld_mk, En.fo_mk, En.fi_mk, En.cl_mk, Ce.mt_mk, Ce.th_mk, Ce.lk_mk, Ce.hd_mk, Ab.E_mk, Ab.C_mk, Ab.wm_mk, Ab.ps_mk, Ab.fz_mk, Ab.gd_mk, Ab.gn_mk, Ab.g1_mk, Ab.g2_mk, Ab.g3_mk, Ab.g4_mk, Ab.hr_mk, Ab.mo_mk, Ab.st_mk, Ab.og_mk, Ab.oc_mk, Ab.ig_mk, Ab.ic_mk] using D.ps k hk, fun k hk => by simpa [wp_some, wp_bind, x_I_sI, x_J_sJ, x_R_sR, x_A_sA, x_B_sB, x_I_sJ, x_I_sR, x_I_sA, x_I_sB, x_J_sI, x_J_sR, x_J_sA, x_J_sB, x_R_sI, x_R_sJ, x_R_sA, x_R_sB, x_A_sI, x_A_sJ, x_A_sR, x_A_sB, x_B_sI, x_B_sJ, x_B_sR, x_B_sA, x_Q_sI, x_Q_sJ, x_Q_sR, x_Q_sA, x_Q_sB, En.cn_mk, En.X_mk, En.Y_mk, En.vp_mk, En.lq_mk, En.ld_mk, En.fo_mk, En.fi_mk, En.cl_mk, Ce.mt_mk, Ce.th_mk, Ce.lk_mk, Ce.hd_mk, Ab.E_mk, Ab.C_mk, Ab.wm_mk, Ab.ps_mk, Ab.fz_mk, Ab.gd_mk, Ab.gn_mk, Ab.g1_mk, Ab.g2_mk, Ab.g3_mk, Ab.g4_mk, Ab.hr_mk, Ab.mo_mk, Ab.st_mk, Ab.og_mk, Ab.oc_mk, Ab.ig_mk, Ab.ic_mk] using D.fz k hk, fun k hk => by simpa [wp_some, wp_bind, x_I_sI, x_J_sJ, x_R_sR, x_A_sA, x_B_sB, x_I_sJ, x_I_sR, x_I_sA, x_I_sB, x_J_sI, x_J_sR, x_J_sA, x_J_sB, x_R_sI, x_R_sJ, x_R_sA, x_R_sB, x_A_sI, x_A_sJ, x_A_sR, x_A_sB, x_B_sI, x_B_sJ, x_B_sR, x_B_sA, x_Q_sI, x_Q_sJ, x_Q_sR, x_Q_sA, x_Q_sB, En.cn_mk, En.X_mk, En.Y_mk, En.vp_mk, En.lq_mk, En.ld_mk, En.fo_mk, En.fi_mk, En.cl_mk, Ce.mt_mk, Ce.th_mk, Ce.lk_mk, Ce.hd_mk, Ab.E_mk, Ab.C_mk, Ab.wm_mk, Ab.ps_mk, Ab.fz_mk, Ab.gd_mk, Ab.gn_mk, Ab.g1_mk, Ab.g2_mk, Ab.g3_mk, Ab.g4_mk, Ab.hr_mk, Ab.mo_mk, Ab.st_mk, Ab.og_mk, Ab.oc_mk, Ab.ig_mk, Ab.ic_mk] using D.gd k hk, by simp [wp_some, wp_bind, x_I_sI, x_J_sJ, x_R_sR, x_A_sA, x_B_sB, x_I_sJ, x_I_sR, x_I_sA, x_I_sB, x_J_sI, x_J_sR, x_J_sA, x_J_sB, x_R_sI, x_R_sJ, x_R_sA, x_R_sB, x_A_sI, x_A_sJ, x_A_sR, x_A_sB, x_B_sI, x_B_sJ, x_B_sR, x_B_sA, x_Q_sI, x_Q_sJ, x_Q_sR, x_Q_sA, x_Q_sB, En.cn_mk, En.X_mk, En.Y_mk, En.vp_mk, En.lq_mk, En.ld_mk, En.fo_mk, En.fi_mk, En.cl_mk, Ce.mt_mk, Ce.th_mk, Ce.lk_mk, Ce.hd_mk, Ab.E_mk, Ab.C_mk, Ab.wm_mk, Ab.ps_mk, Ab.fz_mk, Ab.gd_mk, Ab.gn_mk, Ab.g1_mk, Ab.g2_mk, Ab.g3_mk, Ab.g4_mk, Ab.hr_mk, Ab.mo_mk, Ab.st_mk, Ab.og_mk, Ab.oc_mk, Ab.ig_mk, Ab.ic_mk], fun i hi => ?_, fun i hi => ?_, fun i hi => ?_, fun i hi => ?_, by simpa [wp_some, wp_bind, x_I_sI, x_J_sJ, x_R_sR, x_A_sA, x_B_sB, x_I_sJ, x_I_sR, x_I_sA, x_I_sB, x_J_sI, x_J_sR, x_J_sA, x_J_sB, x_R_sI, x_R_sJ, x_R_sA, x_R_sB, x_A_sI, x_A_sJ, x_A_sR, x_A_sB, x_B_sI, x_B_sJ, x_B_sR, x_B_sA, x_Q_sI, x_Q_sJ, x_Q_sR, x_Q_sA, x_Q_sB, En.cn_mk, En.X_mk, En.Y_mk, En.vp_mk, En.lq_mk, En.ld_mk, En.fo_mk, En.fi_mk, En.cl_mk, Ce.mt_mk, Ce.th_mk, Ce.lk_mk, Ce.hd_mk, Ab.E_mk, Ab.C_mk, Ab.wm_mk, Ab.ps_mk, Ab.fz_mk, Ab.gd_mk, Ab.gn_mk, Ab.g1_mk, Ab.g2_mk, Ab.g3_mk, Ab.g4_mk, Ab.hr_mk, Ab.mo_mk, Ab.st_mk, Ab.og_mk, Ab.oc_mk, Ab.ig_mk, Ab.ic_mk] using D.hr, by simpa [wp_some, wp_bind, x_I_sI, x_J_sJ, x_R_sR, x_A_sA, x_B_sB, x_I_sJ, x_I_sR, x_I_sA, x_I_sB, x_J_sI, x_J_sR, x_J_sA, x_J_sB, x_R_sI, x_R_sJ, x_R_sA, x_R_sB, x_A_sI, x_A_sJ, x_A_sR, x_A_sB, x_B_sI, x_B_sJ, x_B_sR, x_B_sA, x_Q_sI, x_Q_sJ, x_Q_sR, x_Q_sA, x_Q_sB, En.cn_mk, En.X_mk, En.Y_mk, En.vp_mk, En.lq_mk, En.ld_mk, En.fo_mk, En.fi_mk, En.cl_mk, Ce.mt_mk, Ce.th_mk, Ce.lk_mk, Ce.hd_mk, Ab.E_mk, Ab.C_mk, Ab.wm_mk, Ab.ps_mk, Ab.fz_mk, Ab.gd_mk, Ab.gn_mk, Ab.g1_mk, Ab.g2_mk, Ab.g3_mk, Ab.g4_mk, Ab.hr_mk, Ab.mo_mk, Ab.st_mk, Ab.og_mk, Ab.oc_mk, Ab.ig_mk, Ab.ic_mk] using D.mo, D.st, D.og, D.oc, D.ig, D.ic⟩⟩
              all_goals
                dsimp only [En.cn_mk, En.X_mk, En.Y_mk, En.vp_mk, En.lq_mk, En.ld_mk, En.fo_mk, En.fi_mk, En.cl_mk, Ce.mt_mk, Ce.th_mk, Ce.lk_mk, Ce.hd_mk, Ab.E_mk, Ab.C_mk, Ab.wm_mk, Ab.ps_mk, Ab.fz_mk, Ab.gd_mk, Ab.gn_mk, Ab.g1_mk, Ab.g2_mk, Ab.g3_mk, Ab.g4_mk, Ab.hr_mk, Ab.mo_mk, Ab.st_mk, Ab.og_mk, Ab.oc_mk, Ab.ig_mk, Ab.ic_mk] at hi ⊢
                by_cases e : i = A.gn
              · subst e; simp [wp_some, wp_bind, x_I_sI, x_J_sJ, x_R_sR, x_A_sA, x_B_sB, x_I_sJ, x_I_sR, x_I_sA, x_I_sB, x_J_sI, x_J_sR, x_J_sA, x_J_sB, x_R_sI, x_R_sJ, x_R_sA, x_R_sB, x_A_sI, x_A_sJ, x_A_sR, x_A_sB, x_B_sI, x_B_sJ, x_B_sR, x_B_sA, x_Q_sI, x_Q_sJ, x_Q_sR, x_Q_sA, x_Q_sB, En.cn_mk, En.X_mk, En.Y_mk, En.vp_mk, En.lq_mk, En.ld_mk, En.fo_mk, En.fi_mk, En.cl_mk, Ce.mt_mk, Ce.th_mk, Ce.lk_mk, Ce.hd_mk, Ab.E_mk, Ab.C_mk, Ab.wm_mk, Ab.ps_mk, Ab.fz_mk, Ab.gd_mk, Ab.gn_mk, Ab.g1_mk, Ab.g2_mk, Ab.g3_mk, Ab.g4_mk, Ab.hr_mk, Ab.mo_mk, Ab.st_mk, Ab.og_mk, Ab.oc_mk, Ab.ig_mk, Ab.ic_mk, ud_s]
              · simp [wp_some, wp_bind, x_I_sI, x_J_sJ, x_R_sR, x_A_sA, x_B_sB, x_I_sJ, x_I_sR, x_I_sA, x_I_sB, x_J_sI, x_J_sR, x_J_sA, x_J_sB, x_R_sI, x_R_sJ, x_R_sA, x_R_sB, x_A_sI, x_A_sJ, x_A_sR, x_A_sB, x_B_sI, x_B_sJ, x_B_sR, x_B_sA, x_Q_sI, x_Q_sJ, x_Q_sR, x_Q_sA, x_Q_sB, En.cn_mk, En.X_mk, En.Y_mk, En.vp_mk, En.lq_mk, En.ld_mk, En.fo_mk, En.fi_mk, En.cl_mk, Ce.mt_mk, Ce.th_mk, Ce.lk_mk, Ce.hd_mk, Ab.E_mk, Ab.C_mk, Ab.wm_mk, Ab.ps_mk, Ab.fz_mk, Ab.gd_mk, Ab.gn_mk, Ab.g1_mk, Ab.g2_mk, Ab.g3_mk, Ab.g4_mk, Ab.hr_mk, Ab.mo_mk, Ab.st_mk, Ab.og_mk, Ab.oc_mk, Ab.ig_mk, Ab.ic_mk, ud_o _ _ e, e]; exact D.g1 i (by omega)
              · subst e; simp [wp_some, wp_bind, x_I_sI, x_J_sJ, x_R_sR, x_A_sA, x_B_sB, x_I_sJ, x_I_sR, x_I_sA, x_I_sB, x_J_sI, x_J_sR, x_J_sA, x_J_sB, x_R_sI, x_R_sJ, x_R_sA, x_R_sB, x_A_sI, x_A_sJ, x_A_sR, x_A_sB, x_B_sI, x_B_sJ, x_B_sR, x_B_sA, x_Q_sI, x_Q_sJ, x_Q_sR, x_Q_sA, x_Q_sB, En.cn_mk, En.X_mk, En.Y_mk, En.vp_mk, En.lq_mk, En.ld_mk, En.fo_mk, En.fi_mk, En.cl_mk, Ce.mt_mk, Ce.th_mk, Ce.lk_mk, Ce.hd_mk, Ab.E_mk, Ab.C_mk, Ab.wm_mk, Ab.ps_mk, Ab.fz_mk, Ab.gd_mk, Ab.gn_mk, Ab.g1_mk, Ab.g2_mk, Ab.g3_mk, Ab.g4_mk, Ab.hr_mk, Ab.mo_mk, Ab.st_mk, Ab.og_mk, Ab.oc_mk, Ab.ig_mk, Ab.ic_mk, ud_s]
              · simp [wp_some, wp_bind, x_I_sI, x_J_sJ, x_R_sR, x_A_sA, x_B_sB, x_I_sJ, x_I_sR, x_I_sA, x_I_sB, x_J_sI, x_J_sR, x_J_sA, x_J_sB, x_R_sI, x_R_sJ, x_R_sA, x_R_sB, x_A_sI, x_A_sJ, x_A_sR, x_A_sB, x_B_sI, x_B_sJ, x_B_sR, x_B_sA, x_Q_sI, x_Q_sJ, x_Q_sR, x_Q_sA, x_Q_sB, En.cn_mk, En.X_mk, En.Y_mk, En.vp_mk, En.lq_mk, En.ld_mk, En.fo_mk, En.fi_mk, En.cl_mk, Ce.mt_mk, Ce.th_mk, Ce.lk_mk, Ce.hd_mk, Ab.E_mk, Ab.C_mk, Ab.wm_mk, Ab.ps_mk, Ab.fz_mk, Ab.gd_mk, Ab.gn_mk, Ab.g1_mk, Ab.g2_mk, Ab.g3_mk, Ab.g4_mk, Ab.hr_mk, Ab.mo_mk, Ab.st_mk, Ab.og_mk, Ab.oc_mk, Ab.ig_mk, Ab.ic_mk, ud_o _ _ e, e]; exact D.g2 i (by omega)
              · subst e; simp [wp_some, wp_bind, x_I_sI, x_J_sJ, x_R_sR, x_A_sA, x_B_sB, x_I_sJ, x_I_sR, x_I_sA, x_I_sB, x_J_sI, x_J_sR, x_J_sA, x_J_sB, x_R_sI, x_R_sJ, x_R_sA, x_R_sB, x_A_sI, x_A_sJ, x_A_sR, x_A_sB, x_B_sI, x_B_sJ, x_B_sR, x_B_sA, x_Q_sI, x_Q_sJ, x_Q_sR, x_Q_sA, x_Q_sB, En.cn_mk, En.X_mk, En.Y_mk, En.vp_mk, En.lq_mk, En.ld_mk, En.fo_mk, En.fi_mk, En.cl_mk, Ce.mt_mk, Ce.th_mk, Ce.lk_mk, Ce.hd_mk, Ab.E_mk, Ab.C_mk, Ab.wm_mk, Ab.ps_mk, Ab.fz_mk, Ab.gd_mk, Ab.gn_mk, Ab.g1_mk, Ab.g2_mk, Ab.g3_mk, Ab.g4_mk, Ab.hr_mk, Ab.mo_mk, Ab.st_mk, Ab.og_mk, Ab.oc_mk, Ab.ig_mk, Ab.ic_mk, ud_s]
              · simp [wp_some, wp_bind, x_I_sI, x_J_sJ, x_R_sR, x_A_sA, x_B_sB, x_I_sJ, x_I_sR, x_I_sA, x_I_sB, x_J_sI, x_J_sR, x_J_sA, x_J_sB, x_R_sI, x_R_sJ, x_R_sA, x_R_sB, x_A_sI, x_A_sJ, x_A_sR, x_A_sB, x_B_sI, x_B_sJ, x_B_sR, x_B_sA, x_Q_sI, x_Q_sJ, x_Q_sR, x_Q_sA, x_Q_sB, En.cn_mk, En.X_mk, En.Y_mk, En.vp_mk, En.lq_mk, En.ld_mk, En.fo_mk, En.fi_mk, En.cl_mk, Ce.mt_mk, Ce.th_mk, Ce.lk_mk, Ce.hd_mk, Ab.E_mk, Ab.C_mk, Ab.wm_mk, Ab.ps_mk, Ab.fz_mk, Ab.gd_mk, Ab.gn_mk, Ab.g1_mk, Ab.g2_mk, Ab.g3_mk, Ab.g4_mk, Ab.hr_mk, Ab.mo_mk, Ab.st_mk, Ab.og_mk, Ab.oc_mk, Ab.ig_mk, Ab.ic_mk, ud_o _ _ e, e]; exact D.g3 i (by omega)
              · subst e; simp [wp_some, wp_bind, x_I_sI, x_J_sJ, x_R_sR, x_A_sA, x_B_sB, x_I_sJ, x_I_sR, x_I_sA, x_I_sB, x_J_sI, x_J_sR, x_J_sA, x_J_sB, x_R_sI, x_R_sJ, x_R_sA, x_R_sB, x_A_sI, x_A_sJ, x_A_sR, x_A_sB, x_B_sI, x_B_sJ, x_B_sR, x_B_sA, x_Q_sI, x_Q_sJ, x_Q_sR, x_Q_sA, x_Q_sB, En.cn_mk, En.X_mk, En.Y_mk, En.vp_mk, En.lq_mk, En.ld_mk, En.fo_mk, En.fi_mk, En.cl_mk, Ce.mt_mk, Ce.th_mk, Ce.lk_mk, Ce.hd_mk, Ab.E_mk, Ab.C_mk, Ab.wm_mk, Ab.ps_mk, Ab.fz_mk, Ab.gd_mk, Ab.gn_mk, Ab.g1_mk, Ab.g2_mk, Ab.g3_mk, Ab.g4_mk, Ab.hr_mk, Ab.mo_mk, Ab.st_mk, Ab.og_mk, Ab.oc_mk, Ab.ig_mk, Ab.ic_mk, ud_s]
              · simp [wp_some, wp_bind, x_I_sI, x_J_sJ, x_R_sR, x_A_sA, x_B_sB, x_I_sJ, x_I_sR, x_I_sA, x_I_sB, x_J_sI, x_J_sR, x_J_sA, x_J_sB, x_R_sI, x_R_sJ, x_R_sA, x_R_sB, x_A_sI, x_A_sJ, x_A_sR, x_A_sB, x_B_sI, x_B_sJ, x_B_sR, x_B_sA, x_Q_sI, x_Q_sJ, x_Q_sR, x_Q_sA, x_Q_sB, En.cn_mk, En.X_mk, En.Y_mk, En.vp_mk, En.lq_mk, En.ld_mk, En.fo_mk, En.fi_mk, En.cl_mk, Ce.mt_mk, Ce.th_mk, Ce.lk_mk, Ce.hd_mk, Ab.E_mk, Ab.C_mk, Ab.wm_mk, Ab.ps_mk, Ab.fz_mk, Ab.gd_mk, Ab.gn_mk, Ab.g1_mk, Ab.g2_mk, Ab.g3_mk, Ab.g4_mk, Ab.hr_mk, Ab.mo_mk, Ab.st_mk, Ab.og_mk, Ab.oc_mk, Ab.ig_mk, Ab.ic_mk, ud_o _ _ e, e]; exact D.g4 i (by omega)
            · have D := R.d
              have X : Gx [64, 91] [] [23, 24, 25, 26] [] w2 (x_sI (x_sA (x_sA (x_sA (x_sA (x_sI w2 64 0 0) 23 A.gn p1) 24 A.gn p2) 25 A.gn p3) 26 A.gn p4) 91 0 (nI (A.gn + 1))) := ((((((Gx.refl _ _ _ _ w2).sI (by decide)).sA (by decide)).sA (by decide)).sA (by decide)).sA (by decide)).sI (by decide)
              refine ⟨X.er R.e, X.kr R.k, ⟨fun k hk => (X.A _ _ (by decide)).trans (D.wm k hk), fun k hk => (X.A _ _ (by decide)).trans (D.ps k hk), fun k hk => (X.A _ _ (by decide)).trans (D.fz k hk), fun k hk => (X.A _ _ (by decide)).trans (D.gd k hk), by simp [wp_some, wp_bind, x_I_sI, x_J_sJ, x_R_sR, x_A_sA, x_B_sB, x_I_sJ, x_I_sR, x_I_sA, x_I_sB, x_J_sI, x_J_sR, x_J_sA, x_J_sB, x_R_sI, x_R_sJ, x_R_sA, x_R_sB, x_A_sI, x_A_sJ, x_A_sR, x_A_sB, x_B_sI, x_B_sJ, x_B_sR, x_B_sA, x_Q_sI, x_Q_sJ, x_Q_sR, x_Q_sA, x_Q_sB, En.cn_mk, En.X_mk, En.Y_mk, En.vp_mk, En.lq_mk, En.ld_mk, En.fo_mk, En.fi_mk, En.cl_mk, Ce.mt_mk, Ce.th_mk, Ce.lk_mk, Ce.hd_mk, Ab.E_mk, Ab.C_mk, Ab.wm_mk, Ab.ps_mk, Ab.fz_mk, Ab.gd_mk, Ab.gn_mk, Ab.g1_mk, Ab.g2_mk, Ab.g3_mk, Ab.g4_mk, Ab.hr_mk, Ab.mo_mk, Ab.st_mk, Ab.og_mk, Ab.oc_mk, Ab.ig_mk, Ab.ic_mk], fun i hi => ?_, fun i hi => ?_, fun i hi => ?_, fun i hi => ?_, (X.I _ _ (by decide)).trans D.hr, (X.I _ _ (by decide)).trans D.mo, D.st, D.og, D.oc, D.ig, D.ic⟩⟩
              all_goals
                dsimp only [En.cn_mk, En.X_mk, En.Y_mk, En.vp_mk, En.lq_mk, En.ld_mk, En.fo_mk, En.fi_mk, En.cl_mk, Ce.mt_mk, Ce.th_mk, Ce.lk_mk, Ce.hd_mk, Ab.E_mk, Ab.C_mk, Ab.wm_mk, Ab.ps_mk, Ab.fz_mk, Ab.gd_mk, Ab.gn_mk, Ab.g1_mk, Ab.g2_mk, Ab.g3_mk, Ab.g4_mk, Ab.hr_mk, Ab.mo_mk, Ab.st_mk, Ab.og_mk, Ab.oc_mk, Ab.ig_mk, Ab.ic_mk] at hi ⊢
                by_cases e : i = A.gn
              · subst e; simp [wp_some, wp_bind, x_I_sI, x_J_sJ, x_R_sR, x_A_sA, x_B_sB, x_I_sJ, x_I_sR, x_I_sA, x_I_sB, x_J_sI, x_J_sR, x_J_sA, x_J_sB, x_R_sI, x_R_sJ, x_R_sA, x_R_sB, x_A_sI, x_A_sJ, x_A_sR, x_A_sB, x_B_sI, x_B_sJ, x_B_sR, x_B_sA, x_Q_sI, x_Q_sJ, x_Q_sR, x_Q_sA, x_Q_sB, En.cn_mk, En.X_mk, En.Y_mk, En.vp_mk, En.lq_mk, En.ld_mk, En.fo_mk, En.fi_mk, En.cl_mk, Ce.mt_mk, Ce.th_mk, Ce.lk_mk, Ce.hd_mk, Ab.E_mk, Ab.C_mk, Ab.wm_mk, Ab.ps_mk, Ab.fz_mk, Ab.gd_mk, Ab.gn_mk, Ab.g1_mk, Ab.g2_mk, Ab.g3_mk, Ab.g4_mk, Ab.hr_mk, Ab.mo_mk, Ab.st_mk, Ab.og_mk, Ab.oc_mk, Ab.ig_mk, Ab.ic_mk, ud_s]
              · simp [wp_some, wp_bind, x_I_sI, x_J_sJ, x_R_sR, x_A_sA, x_B_sB, x_I_sJ, x_I_sR, x_I_sA, x_I_sB, x_J_sI, x_J_sR, x_J_sA, x_J_sB, x_R_sI, x_R_sJ, x_R_sA, x_R_sB, x_A_sI, x_A_sJ, x_A_sR, x_A_sB, x_B_sI, x_B_sJ, x_B_sR, x_B_sA, x_Q_sI, x_Q_sJ, x_Q_sR, x_Q_sA, x_Q_sB, En.cn_mk, En.X_mk, En.Y_mk, En.vp_mk, En.lq_mk, En.ld_mk, En.fo_mk, En.fi_mk, En.cl_mk, Ce.mt_mk, Ce.th_mk, Ce.lk_mk, Ce.hd_mk, Ab.E_mk, Ab.C_mk, Ab.wm_mk, Ab.ps_mk, Ab.fz_mk, Ab.gd_mk, Ab.gn_mk, Ab.g1_mk, Ab.g2_mk, Ab.g3_mk, Ab.g4_mk, Ab.hr_mk, Ab.mo_mk, Ab.st_mk, Ab.og_mk, Ab.oc_mk, Ab.ig_mk, Ab.ic_mk, ud_o _ _ e, e]; exact D.g1 i (by omega)
              · subst e; simp [wp_some, wp_bind, x_I_sI, x_J_sJ, x_R_sR, x_A_sA, x_B_sB, x_I_sJ, x_I_sR, x_I_sA, x_I_sB, x_J_sI, x_J_sR, x_J_sA, x_J_sB, x_R_sI, x_R_sJ, x_R_sA, x_R_sB, x_A_sI, x_A_sJ, x_A_sR, x_A_sB, x_B_sI, x_B_sJ, x_B_sR, x_B_sA, x_Q_sI, x_Q_sJ, x_Q_sR, x_Q_sA, x_Q_sB, En.cn_mk, En.X_mk, En.Y_mk, En.vp_mk, En.lq_mk, En.ld_mk, En.fo_mk, En.fi_mk, En.cl_mk, Ce.mt_mk, Ce.th_mk, Ce.lk_mk, Ce.hd_mk, Ab.E_mk, Ab.C_mk, Ab.wm_mk, Ab.ps_mk, Ab.fz_mk, Ab.gd_mk, Ab.gn_mk, Ab.g1_mk, Ab.g2_mk, Ab.g3_mk, Ab.g4_mk, Ab.hr_mk, Ab.mo_mk, Ab.st_mk, Ab.og_mk, Ab.oc_mk, Ab.ig_mk, Ab.ic_mk, ud_s]
              · simp [wp_some, wp_bind, x_I_sI, x_J_sJ, x_R_sR, x_A_sA, x_B_sB, x_I_sJ, x_I_sR, x_I_sA, x_I_sB, x_J_sI, x_J_sR, x_J_sA, x_J_sB, x_R_sI, x_R_sJ, x_R_sA, x_R_sB, x_A_sI, x_A_sJ, x_A_sR, x_A_sB, x_B_sI, x_B_sJ, x_B_sR, x_B_sA, x_Q_sI, x_Q_sJ, x_Q_sR, x_Q_sA, x_Q_sB, En.cn_mk, En.X_mk, En.Y_mk, En.vp_mk, En.lq_mk, En.ld_mk, En.fo_mk, En.fi_mk, En.cl_mk, Ce.mt_mk, Ce.th_mk, Ce.lk_mk, Ce.hd_mk, Ab.E_mk, Ab.C_mk, Ab.wm_mk, Ab.ps_mk, Ab.fz_mk, Ab.gd_mk, Ab.gn_mk, Ab.g1_mk, Ab.g2_mk, Ab.g3_mk, Ab.g4_mk, Ab.hr_mk, Ab.mo_mk, Ab.st_mk, Ab.og_mk, Ab.oc_mk, Ab.ig_mk, Ab.ic_mk, ud_o _ _ e, e]; exact D.g2 i (by omega)
              · subst e; simp [wp_some, wp_bind, x_I_sI, x_J_sJ, x_R_sR, x_A_sA, x_B_sB, x_I_sJ, x_I_sR, x_I_sA, x_I_sB, x_J_sI, x_J_sR, x_J_sA, x_J_sB, x_R_sI, x_R_sJ, x_R_sA, x_R_sB, x_A_sI, x_A_sJ, x_A_sR, x_A_sB, x_B_sI, x_B_sJ, x_B_sR, x_B_sA, x_Q_sI, x_Q_sJ, x_Q_sR, x_Q_sA, x_Q_sB, En.cn_mk, En.X_mk, En.Y_mk, En.vp_mk, En.lq_mk, En.ld_mk, En.fo_mk, En.fi_mk, En.cl_mk, Ce.mt_mk, Ce.th_mk, Ce.lk_mk, Ce.hd_mk, Ab.E_mk, Ab.C_mk, Ab.wm_mk, Ab.ps_mk, Ab.fz_mk, Ab.gd_mk, Ab.gn_mk, Ab.g1_mk, Ab.g2_mk, Ab.g3_mk, Ab.g4_mk, Ab.hr_mk, Ab.mo_mk, Ab.st_mk, Ab.og_mk, Ab.oc_mk, Ab.ig_mk, Ab.ic_mk, ud_s]
              · simp [wp_some, wp_bind, x_I_sI, x_J_sJ, x_R_sR, x_A_sA, x_B_sB, x_I_sJ, x_I_sR, x_I_sA, x_I_sB, x_J_sI, x_J_sR, x_J_sA, x_J_sB, x_R_sI, x_R_sJ, x_R_sA, x_R_sB, x_A_sI, x_A_sJ, x_A_sR, x_A_sB, x_B_sI, x_B_sJ, x_B_sR, x_B_sA, x_Q_sI, x_Q_sJ, x_Q_sR, x_Q_sA, x_Q_sB, En.cn_mk, En.X_mk, En.Y_mk, En.vp_mk, En.lq_mk, En.ld_mk, En.fo_mk, En.fi_mk, En.cl_mk, Ce.mt_mk, Ce.th_mk, Ce.lk_mk, Ce.hd_mk, Ab.E_mk, Ab.C_mk, Ab.wm_mk, Ab.ps_mk, Ab.fz_mk, Ab.gd_mk, Ab.gn_mk, Ab.g1_mk, Ab.g2_mk, Ab.g3_mk, Ab.g4_mk, Ab.hr_mk, Ab.mo_mk, Ab.st_mk, Ab.og_mk, Ab.oc_mk, Ab.ig_mk, Ab.ic_mk, ud_o _ _ e, e]; exact D.g3 i (by omega)
              · subst e; simp [wp_some, wp_bind, x_I_sI, x_J_sJ, x_R_sR, x_A_sA, x_B_sB, x_I_sJ, x_I_sR, x_I_sA, x_I_sB, x_J_sI, x_J_sR, x_J_sA, x_J_sB, x_R_sI, x_R_sJ, x_R_sA, x_R_sB, x_A_sI, x_A_sJ, x_A_sR, x_A_sB, x_B_sI, x_B_sJ, x_B_sR, x_B_sA, x_Q_sI, x_Q_sJ, x_Q_sR, x_Q_sA, x_Q_sB, En.cn_mk, En.X_mk, En.Y_mk, En.vp_mk, En.lq_mk, En.ld_mk, En.fo_mk, En.fi_mk, En.cl_mk, Ce.mt_mk, Ce.th_mk, Ce.lk_mk, Ce.hd_mk, Ab.E_mk, Ab.C_mk, Ab.wm_mk, Ab.ps_mk, Ab.fz_mk, Ab.gd_mk, Ab.gn_mk, Ab.g1_mk, Ab.g2_mk, Ab.g3_mk, Ab.g4_mk, Ab.hr_mk, Ab.mo_mk, Ab.st_mk, Ab.og_mk, Ab.oc_mk, Ab.ig_mk, Ab.ic_mk, ud_s]
              · simp [wp_some, wp_bind, x_I_sI, x_J_sJ, x_R_sR, x_A_sA, x_B_sB, x_I_sJ, x_I_sR, x_I_sA, x_I_sB, x_J_sI, x_J_sR, x_J_sA, x_J_sB, x_R_sI, x_R_sJ, x_R_sA, x_R_sB, x_A_sI, x_A_sJ, x_A_sR, x_A_sB, x_B_sI, x_B_sJ, x_B_sR, x_B_sA, x_Q_sI, x_Q_sJ, x_Q_sR, x_Q_sA, x_Q_sB, En.cn_mk, En.X_mk, En.Y_mk, En.vp_mk, En.lq_mk, En.ld_mk, En.fo_mk, En.fi_mk, En.cl_mk, Ce.mt_mk, Ce.th_mk, Ce.lk_mk, Ce.hd_mk, Ab.E_mk, Ab.C_mk, Ab.wm_mk, Ab.ps_mk, Ab.fz_mk, Ab.gd_mk, Ab.gn_mk, Ab.g1_mk, Ab.g2_mk, Ab.g3_mk, Ab.g4_mk, Ab.hr_mk, Ab.mo_mk, Ab.st_mk, Ab.og_mk, Ab.oc_mk, Ab.ig_mk, Ab.ic_mk, ud_o _ _ e, e]; exact D.g4 i (by omega)
            · simp only [q_within, q_in, l0, l1, l5, l23, l48, l240, l1000, l5000, lm5000, l10000, l100000, l1000000, L0, L1, L5, L23, L48, L240, L1000, L5000, Lm5000, L10000, L100000, L1000000, Int32.toInt_toInt64, Option.bind_some, f_Law_growth, f_WD_growth, f_MouldRows_hasPlace, f_MouldRows_hasPlace_14, f_MouldRows_add, f_MouldRows_add_60, t_is S.ct.t0, x_ec, x_cc, if_pos h1, if_pos h2, if_pos h3, if_pos h4, S.ct.r9, t_is S.ct.t36, S.d.gn, if_neg n6, b1, one_ne, if_false, S.ct.r38, S.ct.r39, S.ct.r40, S.ct.r41, t_ixn S.ct.t37 hg6 (by omega), t_ixn S.ct.t38 hg6 (by omega), t_ixn S.ct.t39 hg6 (by omega), t_ixn S.ct.t40 hg6 (by omega), x_R_sA, x_I_sA, nI_clampS (show A.gn < 100000 by omega), nI_inc, out_ix S.ct]
              rw [x_I_sI, if_pos ⟨rfl, rfl⟩]
              rfl
            · simp only [q_within, q_in, l0, l1, l5, l23, l48, l240, l1000, l5000, lm5000, l10000, l100000, l1000000, L0, L1, L5, L23, L48, L240, L1000, L5000, Lm5000, L10000, L100000, L1000000, Int32.toInt_toInt64, Option.bind_some, f_Mod_growth, f_Mod_growth_63, f_Mod_growth_89, if_pos h1, if_pos h2', if_pos h3, if_neg h23, if_pos h4, one_ne, if_false, hR.i, R.d.gn, if_neg n6', th64, zer_le, if_true]
              simp only [Option.bind_some, (hR).i, (hR).r66, (hR).r67, (hR).r68, (hR).r69, (hR).r70, (hR).r71, (hR).r72, (hR).r73, (hR).r74, (hR).r75, (hR).r76, (hR).r77, (hR).r78, (hR).r79, (hR).r81, (hR).r82, (hR).r85, (hR).r86, (hR).r87, (hR).r88, (hR).r89, (hR).r90, (hR).r92, (hR).r93, (hR).r94, (hR).r95, (hR).r103, (hR).r104, (hR).r105, (hR).r108, (hR).r109, (hR).r110, (hR).r111, (hR).r112, (hR).r113, (hR).r114, x_R_sI, x_R_sJ, x_R_sA, x_R_sB]
              have g91 : x_I (x_sI w2 64 0 0) 91 0 = nI A.gn := (R.th 0).d.gn
              simp only [x_I_sA, g91, t_ixn hR.a23 hg6 (by omega), t_ixn hR.a24 hg6 (by omega), t_ixn hR.a25 hg6 (by omega), t_ixn hR.a26 hg6 (by omega), Option.bind_some, nI_clampS (show A.gn < 100000 by omega), nI_inc]
              rw [x_I_sI, if_pos ⟨rfl, rfl⟩]
        · refine fail_a B S R 1 (by decide) ?_ (refbad _ ?_)
          · simp only [q_within, q_in, l0, l1, l5, l23, l48, l240, l1000, l5000, lm5000, l10000, l100000, l1000000, L0, L1, L5, L23, L48, L240, L1000, L5000, Lm5000, L10000, L100000, L1000000, Int32.toInt_toInt64, Option.bind_some, f_Law_growth, f_WD_growth, t_is S.ct.t0, x_ec, x_cc, if_pos h1, if_pos h2, if_pos h3, if_neg h4, if_true]
          · simp only [q_within, q_in, l0, l1, l5, l23, l48, l240, l1000, l5000, lm5000, l10000, l100000, l1000000, L0, L1, L5, L23, L48, L240, L1000, L5000, Lm5000, L10000, L100000, L1000000, Int32.toInt_toInt64, Option.bind_some, f_Mod_growth, if_pos h1, if_pos h2', if_pos h3, if_neg h23, if_neg h4, one_ne, zer_eq, if_false, if_true]
      · refine fail_a B S R 1 (by decide) ?_ (refbad _ ?_)
        · simp only [q_within, q_in, l0, l1, l5, l23, l48, l240, l1000, l5000, lm5000, l10000, l100000, l1000000, L0, L1, L5, L23, L48, L240, L1000, L5000, Lm5000, L10000, L100000, L1000000, Int32.toInt_toInt64, Option.bind_some, f_Law_growth, f_WD_growth, t_is S.ct.t0, x_ec, x_cc, if_pos h1, if_neg h2, if_pos h3, if_true]
        · by_cases h2' : -5000 ≤ p2.toInt ∧ p2.toInt ≤ 10000
          · have h23 : p3 < p2 := by rw [z_lt]; omega
            simp only [q_within, q_in, l0, l1, l5, l23, l48, l240, l1000, l5000, lm5000, l10000, l100000, l1000000, L0, L1, L5, L23, L48, L240, L1000, L5000, Lm5000, L10000, L100000, L1000000, Int32.toInt_toInt64, Option.bind_some, f_Mod_growth, if_pos h1, if_pos h2', if_pos h3, if_pos h23, one_ne, if_false]
          · simp only [q_within, q_in, l0, l1, l5, l23, l48, l240, l1000, l5000, lm5000, l10000, l100000, l1000000, L0, L1, L5, L23, L48, L240, L1000, L5000, Lm5000, L10000, L100000, L1000000, Int32.toInt_toInt64, Option.bind_some, f_Mod_growth, if_pos h1, if_neg h2', one_ne, zer_eq, if_false, if_true]
    · refine fail_a B S R 1 (by decide) ?_ (refbad _ ?_)
      · simp only [q_within, q_in, l0, l1, l5, l23, l48, l240, l1000, l5000, lm5000, l10000, l100000, l1000000, L0, L1, L5, L23, L48, L240, L1000, L5000, Lm5000, L10000, L100000, L1000000, Int32.toInt_toInt64, Option.bind_some, f_Law_growth, f_WD_growth, t_is S.ct.t0, x_ec, x_cc, if_pos h1, if_neg h3, if_true]
      · by_cases h2' : -5000 ≤ p2.toInt ∧ p2.toInt ≤ 10000
        · simp only [q_within, q_in, l0, l1, l5, l23, l48, l240, l1000, l5000, lm5000, l10000, l100000, l1000000, L0, L1, L5, L23, L48, L240, L1000, L5000, Lm5000, L10000, L100000, L1000000, Int32.toInt_toInt64, Option.bind_some, f_Mod_growth, if_pos h1, if_pos h2', if_neg h3, one_ne, zer_eq, if_false, if_true]
        · simp only [q_within, q_in, l0, l1, l5, l23, l48, l240, l1000, l5000, lm5000, l10000, l100000, l1000000, L0, L1, L5, L23, L48, L240, L1000, L5000, Lm5000, L10000, L100000, L1000000, Int32.toInt_toInt64, Option.bind_some, f_Mod_growth, if_pos h1, if_neg h2', one_ne, zer_eq, if_false, if_true]
  · refine fail_a B S R 1 (by decide) ?_ (refbad _ ?_)
    · simp only [q_within, q_in, l0, l1, l5, l23, l48, l240, l1000, l5000, lm5000, l10000, l100000, l1000000, L0, L1, L5, L23, L48, L240, L1000, L5000, Lm5000, L10000, L100000, L1000000, Int32.toInt_toInt64, Option.bind_some, f_Law_growth, f_WD_growth, t_is S.ct.t0, x_ec, x_cc, if_neg h1, if_true]
    · simp only [q_within, q_in, l0, l1, l5, l23, l48, l240, l1000, l5000, lm5000, l10000, l100000, l1000000, L0, L1, L5, L23, L48, L240, L1000, L5000, Lm5000, L10000, L100000, L1000000, Int32.toInt_toInt64, Option.bind_some, f_Mod_growth, if_neg h1, zer_eq, if_true]
end ASK
