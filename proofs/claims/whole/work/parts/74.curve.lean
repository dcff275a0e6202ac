/-! STEPS: curve; what is told of cells -/
section CRV
variable {T T1 T2 : x_T} {w w' : x_W} {n : Nat} {A : Ab} {E : En}
theorem q_noHour (S : SC T w n A) (h : A.hr ≤ 10000) : f_WD_requireNoHourOver T w 0 = some (if A.hr = 0 then .ok () else .error 2) := by
  unfold f_WD_requireNoHourOver
  rw [t_is S.ct.t0, Option.bind_some, S.d.hr]
  by_cases e : A.hr = 0
  · rw [if_pos ((nI_le0 _ (by omega)).mpr (by omega)), if_pos e]
  · rw [if_neg (fun q => (nI_le0 _ (by omega)).mp q (by omega)), if_neg e]
theorem step_curve : x_step0 T1 T2 0 (62 + 6 * n) 0 (Sim T1 T2 n) := by
  intro w1 w2 p1 p2 p3 ⟨A, B, S, R⟩
  have hR := R.e.r
  have G := S.e
  have G2 := R.e
  have hr := B.hr
  by_cases h1 : 0 ≤ p1.toInt ∧ p1.toInt ≤ 5
  · by_cases h2 : 0 ≤ p2.toInt ∧ p2.toInt ≤ 1000000
    · by_cases h3 : 0 ≤ p3.toInt ∧ p3.toInt ≤ 10000
      · obtain ⟨m, em, hm, hm2⟩ := z_isN h1
        have hm6 : m < 6 := by omega
        obtain ⟨q1, c1, c7, x0⟩ := B.e.cor m hm6
        have vx := (G2.x m hm6 (A.E.cn m - 1) (by omega)).1
        have vy := (G2.x m hm6 (A.E.cn m - 1) (by omega)).2
        have ref : f_Mod_curve T2 w2 0 p1 p2 p3 = f_Mod_curve_107 T2 w2 0 p1 p2 p3 0 (if canC A.E m p2 p3 ∧ A.hr = 0 then 0 else 2) := by
          have hbm := B.e.mo hm6
          have e5 : A.E.X m (A.E.cn m - 1) = moE A.E m := rfl
          simp only [q_within, q_in, l0, l1, l5, l23, l48, l240, l1000, l5000, lm5000, l10000, l100000, l1000000, L0, L1, L5, L23, L48, L240, L1000, L5000, Lm5000, L10000, L100000, L1000000, Int32.toInt_toInt64, Option.bind_some, f_Mod_curve, f_Mod_curve_41, f_Mod_curve_102, if_pos h1, if_pos h2, if_pos h3, one_ne, if_false, hR.i, hR.r66, hR.r68]
          rw [em, t_ixn hR.a1 hm6 (by omega), nI_clampS (by omega), G2.cn m hm6, r_most B.e G2 hm6, R.d.hr, show (7 : Int32) = nI 7 from rfl, nI_mulS, nI_addS, nI_sub1 (by omega), t_ixn hR.a3 (by omega) (by omega), nI_clampS (by omega), show 7 * m + A.E.cn m - 1 = 7 * m + (A.E.cn m - 1) by omega]
          simp only [Option.bind_some, z_le, vy, z_t (show -2147483648 ≤ moE A.E m by omega) (by omega)]
          by_cases h7 : A.E.cn m = 7
          · rw [if_pos (by rw [h7]), if_neg (show ¬ (canC A.E m p2 p3 ∧ A.hr = 0) from fun q => by have := q.1.1; rw [if_neg (by omega)] at this; omega)]
          · rw [if_neg (fun q => h7 ((nI_eqS (by omega) (by omega)).mp q))]
            by_cases hx : p2.toInt ≤ moE A.E m
            · rw [if_pos hx, if_neg (show ¬ (canC A.E m p2 p3 ∧ A.hr = 0) from fun q => by rcases q.1.2 with z | z <;> omega)]
            · rw [if_neg hx]
              by_cases hy : p3.toInt ≤ A.E.Y m (A.E.cn m - 1)
              · rw [if_pos hy, if_neg (show ¬ (canC A.E m p2 p3 ∧ A.hr = 0) from fun q => by rcases q.1.2 with z | z <;> omega)]
              · rw [if_neg hy]
                have hc : canC A.E m p2 p3 := ⟨by rw [if_neg (by omega)]; omega, Or.inr ⟨by omega, by omega⟩⟩
                by_cases hh : A.hr = 0
                · rw [if_pos (by rw [l0, nI_intS (by omega)]; omega), if_pos ⟨hc, hh⟩]
                · rw [if_neg (by rw [l0, nI_intS (by omega)]; omega), if_neg (fun q => hh q.2)]
        have e1 := c_canAdd G (c := m) (by omega) (by omega) p2 p3
        by_cases hcan : canC A.E m p2 p3 ∧ A.hr = 0
        · have h7 : A.E.cn m < 7 := by have := hcan.1.1; rwa [if_neg (by omega)] at this
          refine ok_a rfl (ab_env B (EB_add B.e (c := m) (by omega) hcan.1 (by omega) (by rw [if_neg (by omega)]; exact h3)) (mo_add B.e hcan.1)) (SC_add S (c := m) (by omega) p2 p3) (w2 := x_sA (x_sA (x_sA (x_sI w2 64 0 0) 2 (7 * m + A.E.cn m) p2) 3 (7 * m + A.E.cn m) p3) 1 m (nI (A.E.cn m + 1))) ?_ (nI (A.E.cn m + 1)) (by simp [wp_some, wp_bind, x_I_sI, x_J_sJ, x_R_sR, x_A_sA, x_B_sB, x_I_sJ, x_I_sR, x_I_sA, x_I_sB, x_J_sI, x_J_sR, x_J_sA, x_J_sB, x_R_sI, x_R_sJ, x_R_sA, x_R_sB, x_A_sI, x_A_sJ, x_A_sR, x_A_sB, x_B_sI, x_B_sJ, x_B_sR, x_B_sA, x_Q_sI, x_Q_sJ, x_Q_sR, x_Q_sA, x_Q_sB, En.cn_mk, En.X_mk, En.Y_mk, En.vp_mk, En.lq_mk, En.ld_mk, En.fo_mk, En.fi_mk, En.cl_mk, Ce.mt_mk, Ce.th_mk, Ce.lk_mk, Ce.hd_mk, Ab.E_mk, Ab.C_mk, Ab.wm_mk, Ab.ps_mk, Ab.fz_mk, Ab.gd_mk, Ab.gn_mk, Ab.g1_mk, Ab.g2_mk, Ab.g3_mk, Ab.g4_mk, Ab.hr_mk, Ab.mo_mk, Ab.st_mk, Ab.og_mk, Ab.oc_mk, Ab.ig_mk, Ab.ic_mk]) ?_ ?_
          · have X : Gx [64] [] [1, 2, 3] [] w2 (x_sA (x_sA (x_sA (x_sI w2 64 0 0) 2 (7 * m + A.E.cn m) p2) 3 (7 * m + A.E.cn m) p3) 1 m (nI (A.E.cn m + 1))) := ((((Gx.refl _ _ _ _ w2).sI (by decide)).sA (by decide)).sA (by decide)).sA (by decide)
            exact R.env X (by decide) (by decide) (ER_addM (ER_th R.e 0) hm6 h7 (fun i hi => (B.e.cor i hi).2.2.1) p2 p3)
          · have e2 := c_add G (c := m) (by omega) (by omega) p2 p3
            rw [em]
            simp only [q_within, q_in, l0, l1, l5, l23, l48, l240, l1000, l5000, lm5000, l10000, l100000, l1000000, L0, L1, L5, L23, L48, L240, L1000, L5000, Lm5000, L10000, L100000, L1000000, Int32.toInt_toInt64, Option.bind_some, f_Law_curve, f_WD_curve, f_WD_withCorner, t_is S.ct.t0, q_mat1 S hm6, q_noHour S hr, x_ec, x_cc, if_pos h2, if_pos h3, if_pos hcan.2, t_is (G.m m hm6).1, (G.m m hm6).2.1, t_is (G.c m (by omega)).1, e1.1 hcan.1, e2, one_ne, if_false, out_ix S.ct]
            rfl
          · rw [ref, if_pos hcan, em]
            simp only [q_within, q_in, l0, l1, l5, l23, l48, l240, l1000, l5000, lm5000, l10000, l100000, l1000000, L0, L1, L5, L23, L48, L240, L1000, L5000, Lm5000, L10000, L100000, L1000000, Int32.toInt_toInt64, Option.bind_some, f_Mod_curve_107, hR.i, th64, zer_le, if_true]
            simp only [Option.bind_some, (hR).i, (hR).r66, (hR).r67, (hR).r68, (hR).r69, (hR).r70, (hR).r71, (hR).r72, (hR).r73, (hR).r74, (hR).r75, (hR).r76, (hR).r77, (hR).r78, (hR).r79, (hR).r81, (hR).r82, (hR).r85, (hR).r86, (hR).r87, (hR).r88, (hR).r89, (hR).r90, (hR).r92, (hR).r93, (hR).r94, (hR).r95, (hR).r103, (hR).r104, (hR).r105, (hR).r108, (hR).r109, (hR).r110, (hR).r111, (hR).r112, (hR).r113, (hR).r114, x_R_sI, x_R_sJ, x_R_sA, x_R_sB]
            simp only [x_A_sI, t_ixn hR.a1 hm6 (by omega), nI_clampS (show m < 100000 by omega), G2.cn m hm6, show (7 : Int32) = nI 7 from rfl, nI_mulS, nI_addS, t_ixn hR.a2 (show 7 * m + A.E.cn m < 42 by omega) (by omega), t_ixn hR.a3 (show 7 * m + A.E.cn m < 42 by omega) (by omega), nI_clampS (show 7 * m + A.E.cn m < 100000 by omega), Option.bind_some, x_A_sA]
            simp [wp_some, wp_bind, x_I_sI, x_J_sJ, x_R_sR, x_A_sA, x_B_sB, x_I_sJ, x_I_sR, x_I_sA, x_I_sB, x_J_sI, x_J_sR, x_J_sA, x_J_sB, x_R_sI, x_R_sJ, x_R_sA, x_R_sB, x_A_sI, x_A_sJ, x_A_sR, x_A_sB, x_B_sI, x_B_sJ, x_B_sR, x_B_sA, x_Q_sI, x_Q_sJ, x_Q_sR, x_Q_sA, x_Q_sB, En.cn_mk, En.X_mk, En.Y_mk, En.vp_mk, En.lq_mk, En.ld_mk, En.fo_mk, En.fi_mk, En.cl_mk, Ce.mt_mk, Ce.th_mk, Ce.lk_mk, Ce.hd_mk, Ab.E_mk, Ab.C_mk, Ab.wm_mk, Ab.ps_mk, Ab.fz_mk, Ab.gd_mk, Ab.gn_mk, Ab.g1_mk, Ab.g2_mk, Ab.g3_mk, Ab.g4_mk, Ab.hr_mk, Ab.mo_mk, Ab.st_mk, Ab.og_mk, Ab.oc_mk, Ab.ig_mk, Ab.ic_mk, G2.cn m hm6, nI_addS, nI_inc, t_ixn hR.a3 (show 7 * m + A.E.cn m < 42 by omega) (by omega), nI_clampS (show 7 * m + A.E.cn m < 100000 by omega)]
        · refine fail_a B S R 2 (by decide) ?_ ?_
          · rw [em]
            by_cases hh : A.hr = 0
            · have hc : ¬ canC A.E m p2 p3 := fun q => hcan ⟨q, hh⟩
              simp only [q_within, q_in, l0, l1, l5, l23, l48, l240, l1000, l5000, lm5000, l10000, l100000, l1000000, L0, L1, L5, L23, L48, L240, L1000, L5000, Lm5000, L10000, L100000, L1000000, Int32.toInt_toInt64, Option.bind_some, f_Law_curve, f_WD_curve, f_WD_withCorner, t_is S.ct.t0, q_mat1 S hm6, q_noHour S hr, x_ec, x_cc, if_pos h2, if_pos h3, if_pos hh, t_is (G.m m hm6).1, (G.m m hm6).2.1, t_is (G.c m (by omega)).1, e1.2 hc, zer_eq, if_true]
              rfl
            · simp only [q_within, q_in, l0, l1, l5, l23, l48, l240, l1000, l5000, lm5000, l10000, l100000, l1000000, L0, L1, L5, L23, L48, L240, L1000, L5000, Lm5000, L10000, L100000, L1000000, Int32.toInt_toInt64, Option.bind_some, f_Law_curve, f_WD_curve, f_WD_withCorner, t_is S.ct.t0, q_mat1 S hm6, q_noHour S hr, x_ec, x_cc, if_pos h2, if_pos h3, if_neg hh]
              rfl
          · rw [ref, if_neg hcan]
            simp only [q_within, q_in, l0, l1, l5, l23, l48, l240, l1000, l5000, lm5000, l10000, l100000, l1000000, L0, L1, L5, L23, L48, L240, L1000, L5000, Lm5000, L10000, L100000, L1000000, Int32.toInt_toInt64, Option.bind_some, f_Mod_curve_107, hR.i, th64, two_le, if_false]
      · refine fail_a B S R 1 (by decide) ?_ ?_
        · simp only [q_within, q_in, l0, l1, l5, l23, l48, l240, l1000, l5000, lm5000, l10000, l100000, l1000000, L0, L1, L5, L23, L48, L240, L1000, L5000, Lm5000, L10000, L100000, L1000000, Int32.toInt_toInt64, Option.bind_some, f_Law_curve, f_WD_curve, t_is S.ct.t0, q_mat S, x_ec, x_cc, if_pos h1, if_pos h2, if_neg h3, if_true]
        · simp only [q_within, q_in, l0, l1, l5, l23, l48, l240, l1000, l5000, lm5000, l10000, l100000, l1000000, L0, L1, L5, L23, L48, L240, L1000, L5000, Lm5000, L10000, L100000, L1000000, Int32.toInt_toInt64, Option.bind_some, f_Mod_curve, f_Mod_curve_40, f_Mod_curve_41, f_Mod_curve_107, if_pos h1, if_pos h2, if_neg h3, one_ne, one_le, zer_eq, if_false, if_true, hR.i, th64]
    · refine fail_a B S R 1 (by decide) ?_ ?_
      · simp only [q_within, q_in, l0, l1, l5, l23, l48, l240, l1000, l5000, lm5000, l10000, l100000, l1000000, L0, L1, L5, L23, L48, L240, L1000, L5000, Lm5000, L10000, L100000, L1000000, Int32.toInt_toInt64, Option.bind_some, f_Law_curve, f_WD_curve, t_is S.ct.t0, q_mat S, x_ec, x_cc, if_pos h1, if_neg h2, if_true]
      · simp only [q_within, q_in, l0, l1, l5, l23, l48, l240, l1000, l5000, lm5000, l10000, l100000, l1000000, L0, L1, L5, L23, L48, L240, L1000, L5000, Lm5000, L10000, L100000, L1000000, Int32.toInt_toInt64, Option.bind_some, f_Mod_curve, f_Mod_curve_40, f_Mod_curve_41, f_Mod_curve_107, if_pos h1, if_neg h2, one_ne, one_le, zer_eq, if_false, if_true, hR.i, th64]
  · refine fail_a B S R 1 (by decide) ?_ ?_
    · simp only [q_within, q_in, l0, l1, l5, l23, l48, l240, l1000, l5000, lm5000, l10000, l100000, l1000000, L0, L1, L5, L23, L48, L240, L1000, L5000, Lm5000, L10000, L100000, L1000000, Int32.toInt_toInt64, Option.bind_some, f_Law_curve, f_WD_curve, t_is S.ct.t0, q_mat S, x_ec, x_cc, if_neg h1, if_true]
    · simp only [q_within, q_in, l0, l1, l5, l23, l48, l240, l1000, l5000, lm5000, l10000, l100000, l1000000, L0, L1, L5, L23, L48, L240, L1000, L5000, Lm5000, L10000, L100000, L1000000, Int32.toInt_toInt64, Option.bind_some, f_Mod_curve, f_Mod_curve_40, f_Mod_curve_41, f_Mod_curve_107, if_neg h1, one_ne, one_le, zer_eq, if_false, if_true, hR.i, th64]
end CRV
