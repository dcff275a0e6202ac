/-! STEPS: cells, growth, what is asked -/
section CEL
variable {T T1 T2 : x_T} {w w' : x_W} {n : Nat} {A : Ab}
theorem SC.cel (S : SC T w n A) {C' : Ce} {st' : Int64} (hI : ∀ k h, k ≠ 18 → k ≠ 19 → k ≠ 20 → x_I w' k h = x_I w k h) (hJ : ∀ k h, k ≠ 14 → x_J w' k h = x_J w k h) (hR : ∀ k h, k ≠ 17 → x_R w' k h = x_R w k h) (hQ : ∀ i j, x_Q w' i j = x_Q w i j) (hA : ∀ i j, x_A w' i j = x_A w i j) (hk : KC w' 41 n C') (hs : x_J w' 14 0 = st') : SC T w' n (Ab.mk_ A.E (C') A.wm A.ps A.fz A.gd A.gn A.g1 A.g2 A.g3 A.g4 A.hr A.mo (st') A.og A.oc A.ig A.ic) := by
  have D := S.d
  have i : ∀ k h, k ≠ 18 ∧ k ≠ 19 ∧ k ≠ 20 → x_I w' k h = x_I w k h := fun k h q => hI k h q.1 q.2.1 q.2.2
  exact ⟨S.ws.of (fun k h q _ _ => hR k h q) hQ, S.wt.of (fun k h q _ _ => hR k h q) hQ, S.ct.of (fun k h q _ _ => hR k h q) hQ, S.e.of (fun k h q => i k h (by omega)) (fun k h q _ _ => hR k h q) (fun i j _ => hA i j), hk, ⟨fun k hk => by rw [i _ _ (by decide)]; exact D.wm k hk, fun k hk => by rw [i _ _ (by decide)]; exact D.ps k hk, fun k hk => by rw [i _ _ (by decide)]; exact D.fz k hk, fun k hk => by rw [i _ _ (by decide)]; exact D.gd k hk, by rw [i _ _ (by decide)]; exact D.gn, fun i hi => by rw [hA]; exact D.g1 i hi, fun i hi => by rw [hA]; exact D.g2 i hi, fun i hi => by rw [hA]; exact D.g3 i hi, fun i hi => by rw [hA]; exact D.g4 i hi, by rw [i _ _ (by decide)]; exact D.hr, by rw [i _ _ (by decide)]; exact D.mo, hs, by rw [hJ _ _ (by decide)]; exact D.og, by rw [hJ _ _ (by decide)]; exact D.oc, by rw [hJ _ _ (by decide)]; exact D.ig, by rw [hJ _ _ (by decide)]; exact D.ic⟩⟩
theorem SR.cel (S : SR T w n A) {C' : Ce} {st' : Int64} (X : Gx [64] [102] [7, 8, 10] [9] w w') (hk : KR w' n C') (hs : x_J w' 102 0 = st') : SR T w' n (Ab.mk_ A.E (C') A.wm A.ps A.fz A.gd A.gn A.g1 A.g2 A.g3 A.g4 A.hr A.mo (st') A.og A.oc A.ig A.ic) := by
  have D := S.d
  exact ⟨X.er S.e, hk, ⟨fun k hk => (X.A _ _ (by decide)).trans (D.wm k hk), fun k hk => (X.A _ _ (by decide)).trans (D.ps k hk), fun k hk => (X.A _ _ (by decide)).trans (D.fz k hk), fun k hk => (X.A _ _ (by decide)).trans (D.gd k hk), (X.I _ _ (by decide)).trans D.gn, fun k hk => (X.A _ _ (by decide)).trans (D.g1 k hk), fun k hk => (X.A _ _ (by decide)).trans (D.g2 k hk), fun k hk => (X.A _ _ (by decide)).trans (D.g3 k hk), fun k hk => (X.A _ _ (by decide)).trans (D.g4 k hk), (X.I _ _ (by decide)).trans D.hr, (X.I _ _ (by decide)).trans D.mo, hs, (X.J _ _ (by decide)).trans D.og, (X.J _ _ (by decide)).trans D.oc, (X.J _ _ (by decide)).trans D.ig, (X.J _ _ (by decide)).trans D.ic⟩⟩
theorem ab_cel (B : AB n A) {C' : Ce} {st' : Int64} (k : KB A.E n C') : AB n (Ab.mk_ A.E (C') A.wm A.ps A.fz A.gd A.gn A.g1 A.g2 A.g3 A.g4 A.hr A.mo (st') A.og A.oc A.ig A.ic) := ⟨B.e, k, B.fz, B.gn, B.g4, B.hr, B.mo⟩
theorem step_leak : x_step9 T1 T2 0 (62 + 6 * n) 0 (Sim T1 T2 n) := by
  intro w1 w2 p1 p2 ⟨A, B, S, R⟩
  have hR := R.e.r
  have n1 := S.ws.n1
  have n12 := S.ws.n12
  by_cases h1 : 0 ≤ p1.toInt ∧ p1.toInt ≤ (n : Int) - 1
  · by_cases h2 : 0 ≤ p2.toInt ∧ p2.toInt ≤ 1000
    · obtain ⟨k, em, hk, hk2⟩ := z_isN h1
      have hkn : k < n := by omega
      refine ok_a rfl (A' := (Ab.mk_ A.E ((Ce.mk_ A.C.mt A.C.th (ud A.C.lk k p2.toInt) A.C.hd)) A.wm A.ps A.fz A.gd A.gn A.g1 A.g2 A.g3 A.g4 A.hr A.mo (A.st) A.og A.oc A.ig A.ic)) (ab_cel B ⟨n1, n12, B.k.mt, B.k.th, fun i hi => ?_, B.k.hd⟩) (w1 := x_sI w1 19 (46 + 2 * k) p2) (S.cel (fun i h _ a _ => by simp [wp_some, wp_bind, x_I_sI, x_J_sJ, x_R_sR, x_A_sA, x_B_sB, x_I_sJ, x_I_sR, x_I_sA, x_I_sB, x_J_sI, x_J_sR, x_J_sA, x_J_sB, x_R_sI, x_R_sJ, x_R_sA, x_R_sB, x_A_sI, x_A_sJ, x_A_sR, x_A_sB, x_B_sI, x_B_sJ, x_B_sR, x_B_sA, x_Q_sI, x_Q_sJ, x_Q_sR, x_Q_sA, x_Q_sB, En.cn_mk, En.X_mk, En.Y_mk, En.vp_mk, En.lq_mk, En.ld_mk, En.fo_mk, En.fi_mk, En.cl_mk, Ce.mt_mk, Ce.th_mk, Ce.lk_mk, Ce.hd_mk, Ab.E_mk, Ab.C_mk, Ab.wm_mk, Ab.ps_mk, Ab.fz_mk, Ab.gd_mk, Ab.gn_mk, Ab.g1_mk, Ab.g2_mk, Ab.g3_mk, Ab.g4_mk, Ab.hr_mk, Ab.mo_mk, Ab.st_mk, Ab.og_mk, Ab.oc_mk, Ab.ig_mk, Ab.ic_mk, a]) (fun _ _ _ => rfl) (fun _ _ _ => rfl) (fun _ _ => rfl) (fun _ _ => rfl) ⟨S.k.mt, fun i hi => ?_, fun i hi => ?_, fun i hi => ?_⟩ S.d.st) (w2 := x_sA (x_sI w2 64 0 0) 10 k p2) (R.cel ?_ ⟨fun i hi => ?_, fun i hi => ?_, fun i hi => ?_, R.k.hd⟩ R.d.st) (Int32.ofInt (A.C.lk k)) (by simp [wp_some, wp_bind, x_I_sI, x_J_sJ, x_R_sR, x_A_sA, x_B_sB, x_I_sJ, x_I_sR, x_I_sA, x_I_sB, x_J_sI, x_J_sR, x_J_sA, x_J_sB, x_R_sI, x_R_sJ, x_R_sA, x_R_sB, x_A_sI, x_A_sJ, x_A_sR, x_A_sB, x_B_sI, x_B_sJ, x_B_sR, x_B_sA, x_Q_sI, x_Q_sJ, x_Q_sR, x_Q_sA, x_Q_sB, En.cn_mk, En.X_mk, En.Y_mk, En.vp_mk, En.lq_mk, En.ld_mk, En.fo_mk, En.fi_mk, En.cl_mk, Ce.mt_mk, Ce.th_mk, Ce.lk_mk, Ce.hd_mk, Ab.E_mk, Ab.C_mk, Ab.wm_mk, Ab.ps_mk, Ab.fz_mk, Ab.gd_mk, Ab.gn_mk, Ab.g1_mk, Ab.g2_mk, Ab.g3_mk, Ab.g4_mk, Ab.hr_mk, Ab.mo_mk, Ab.st_mk, Ab.og_mk, Ab.oc_mk, Ab.ig_mk, Ab.ic_mk]) ?_ ?_
      · dsimp only [En.cn_mk, En.X_mk, En.Y_mk, En.vp_mk, En.lq_mk, En.ld_mk, En.fo_mk, En.fi_mk, En.cl_mk, Ce.mt_mk, Ce.th_mk, Ce.lk_mk, Ce.hd_mk, Ab.E_mk, Ab.C_mk, Ab.wm_mk, Ab.ps_mk, Ab.fz_mk, Ab.gd_mk, Ab.gn_mk, Ab.g1_mk, Ab.g2_mk, Ab.g3_mk, Ab.g4_mk, Ab.hr_mk, Ab.mo_mk, Ab.st_mk, Ab.og_mk, Ab.oc_mk, Ab.ig_mk, Ab.ic_mk]
        by_cases e : i = k
        · subst e; rw [ud_s]; exact h2
        · rw [ud_o _ _ e]; exact B.k.lk i hi
      · simpa [wp_some, wp_bind, x_I_sI, x_J_sJ, x_R_sR, x_A_sA, x_B_sB, x_I_sJ, x_I_sR, x_I_sA, x_I_sB, x_J_sI, x_J_sR, x_J_sA, x_J_sB, x_R_sI, x_R_sJ, x_R_sA, x_R_sB, x_A_sI, x_A_sJ, x_A_sR, x_A_sB, x_B_sI, x_B_sJ, x_B_sR, x_B_sA, x_Q_sI, x_Q_sJ, x_Q_sR, x_Q_sA, x_Q_sB, En.cn_mk, En.X_mk, En.Y_mk, En.vp_mk, En.lq_mk, En.ld_mk, En.fo_mk, En.fi_mk, En.cl_mk, Ce.mt_mk, Ce.th_mk, Ce.lk_mk, Ce.hd_mk, Ab.E_mk, Ab.C_mk, Ab.wm_mk, Ab.ps_mk, Ab.fz_mk, Ab.gd_mk, Ab.gn_mk, Ab.g1_mk, Ab.g2_mk, Ab.g3_mk, Ab.g4_mk, Ab.hr_mk, Ab.mo_mk, Ab.st_mk, Ab.og_mk, Ab.oc_mk, Ab.ig_mk, Ab.ic_mk] using S.k.th i hi
      · dsimp only [En.cn_mk, En.X_mk, En.Y_mk, En.vp_mk, En.lq_mk, En.ld_mk, En.fo_mk, En.fi_mk, En.cl_mk, Ce.mt_mk, Ce.th_mk, Ce.lk_mk, Ce.hd_mk, Ab.E_mk, Ab.C_mk, Ab.wm_mk, Ab.ps_mk, Ab.fz_mk, Ab.gd_mk, Ab.gn_mk, Ab.g1_mk, Ab.g2_mk, Ab.g3_mk, Ab.g4_mk, Ab.hr_mk, Ab.mo_mk, Ab.st_mk, Ab.og_mk, Ab.oc_mk, Ab.ig_mk, Ab.ic_mk]
        by_cases e : i = k
        · subst e; rw [ud_s, x_I_sI, if_pos ⟨rfl, by omega⟩, z_o]
        · rw [ud_o _ _ e, x_I_sI, if_neg (by omega)]; exact S.k.lk i hi
      · simpa [wp_some, wp_bind, x_I_sI, x_J_sJ, x_R_sR, x_A_sA, x_B_sB, x_I_sJ, x_I_sR, x_I_sA, x_I_sB, x_J_sI, x_J_sR, x_J_sA, x_J_sB, x_R_sI, x_R_sJ, x_R_sA, x_R_sB, x_A_sI, x_A_sJ, x_A_sR, x_A_sB, x_B_sI, x_B_sJ, x_B_sR, x_B_sA, x_Q_sI, x_Q_sJ, x_Q_sR, x_Q_sA, x_Q_sB, En.cn_mk, En.X_mk, En.Y_mk, En.vp_mk, En.lq_mk, En.ld_mk, En.fo_mk, En.fi_mk, En.cl_mk, Ce.mt_mk, Ce.th_mk, Ce.lk_mk, Ce.hd_mk, Ab.E_mk, Ab.C_mk, Ab.wm_mk, Ab.ps_mk, Ab.fz_mk, Ab.gd_mk, Ab.gn_mk, Ab.g1_mk, Ab.g2_mk, Ab.g3_mk, Ab.g4_mk, Ab.hr_mk, Ab.mo_mk, Ab.st_mk, Ab.og_mk, Ab.oc_mk, Ab.ig_mk, Ab.ic_mk] using S.k.hd i hi
      · exact ((Gx.refl _ _ _ _ w2).sI (by decide)).sA (by decide)
      · simpa [wp_some, wp_bind, x_I_sI, x_J_sJ, x_R_sR, x_A_sA, x_B_sB, x_I_sJ, x_I_sR, x_I_sA, x_I_sB, x_J_sI, x_J_sR, x_J_sA, x_J_sB, x_R_sI, x_R_sJ, x_R_sA, x_R_sB, x_A_sI, x_A_sJ, x_A_sR, x_A_sB, x_B_sI, x_B_sJ, x_B_sR, x_B_sA, x_Q_sI, x_Q_sJ, x_Q_sR, x_Q_sA, x_Q_sB, En.cn_mk, En.X_mk, En.Y_mk, En.vp_mk, En.lq_mk, En.ld_mk, En.fo_mk, En.fi_mk, En.cl_mk, Ce.mt_mk, Ce.th_mk, Ce.lk_mk, Ce.hd_mk, Ab.E_mk, Ab.C_mk, Ab.wm_mk, Ab.ps_mk, Ab.fz_mk, Ab.gd_mk, Ab.gn_mk, Ab.g1_mk, Ab.g2_mk, Ab.g3_mk, Ab.g4_mk, Ab.hr_mk, Ab.mo_mk, Ab.st_mk, Ab.og_mk, Ab.oc_mk, Ab.ig_mk, Ab.ic_mk] using R.k.mt i hi
      · simpa [wp_some, wp_bind, x_I_sI, x_J_sJ, x_R_sR, x_A_sA, x_B_sB, x_I_sJ, x_I_sR, x_I_sA, x_I_sB, x_J_sI, x_J_sR, x_J_sA, x_J_sB, x_R_sI, x_R_sJ, x_R_sA, x_R_sB, x_A_sI, x_A_sJ, x_A_sR, x_A_sB, x_B_sI, x_B_sJ, x_B_sR, x_B_sA, x_Q_sI, x_Q_sJ, x_Q_sR, x_Q_sA, x_Q_sB, En.cn_mk, En.X_mk, En.Y_mk, En.vp_mk, En.lq_mk, En.ld_mk, En.fo_mk, En.fi_mk, En.cl_mk, Ce.mt_mk, Ce.th_mk, Ce.lk_mk, Ce.hd_mk, Ab.E_mk, Ab.C_mk, Ab.wm_mk, Ab.ps_mk, Ab.fz_mk, Ab.gd_mk, Ab.gn_mk, Ab.g1_mk, Ab.g2_mk, Ab.g3_mk, Ab.g4_mk, Ab.hr_mk, Ab.mo_mk, Ab.st_mk, Ab.og_mk, Ab.oc_mk, Ab.ig_mk, Ab.ic_mk] using R.k.th i hi
      · dsimp only [En.cn_mk, En.X_mk, En.Y_mk, En.vp_mk, En.lq_mk, En.ld_mk, En.fo_mk, En.fi_mk, En.cl_mk, Ce.mt_mk, Ce.th_mk, Ce.lk_mk, Ce.hd_mk, Ab.E_mk, Ab.C_mk, Ab.wm_mk, Ab.ps_mk, Ab.fz_mk, Ab.gd_mk, Ab.gn_mk, Ab.g1_mk, Ab.g2_mk, Ab.g3_mk, Ab.g4_mk, Ab.hr_mk, Ab.mo_mk, Ab.st_mk, Ab.og_mk, Ab.oc_mk, Ab.ig_mk, Ab.ic_mk]
        by_cases e : i = k
        · subst e; rw [ud_s, x_A_sA, if_pos ⟨rfl, rfl⟩, z_o]
        · rw [ud_o _ _ e, x_A_sA, if_neg (by omega)]; exact R.k.lk i hi
      · have hl := S.k.lk k hkn
        rw [show 41 + 5 + 2 * k = 46 + 2 * k by omega] at hl
        have tc := (S.ws.c k hkn).1
        rw [show 41 + 5 + 2 * k = 46 + 2 * k by omega] at tc
        rw [em]
        simp only [q_within, q_in, l0, l1, l5, l23, l48, l240, l1000, l5000, lm5000, l10000, l100000, l1000000, L0, L1, L5, L23, L48, L240, L1000, L5000, Lm5000, L10000, L100000, L1000000, Int32.toInt_toInt64, Option.bind_some, f_Law_leak, f_WD_leak, t_is S.ct.t0, q_cell1 S hkn, x_ec, x_cc, if_pos h2, t_is tc, hl, out_ix S.ct]
        rfl
      · simp only [q_within, q_in, l0, l1, l5, l23, l48, l240, l1000, l5000, lm5000, l10000, l100000, l1000000, L0, L1, L5, L23, L48, L240, L1000, L5000, Lm5000, L10000, L100000, L1000000, Int32.toInt_toInt64, Option.bind_some, f_Mod_leak, f_Mod_leak_26, hR.i, q_isCell R.e n1 n12, if_pos h1, if_pos h2, one_ne, if_false, th64, zer_le, if_true]
        simp only [Option.bind_some, (hR).i, (hR).r66, (hR).r67, (hR).r68, (hR).r69, (hR).r70, (hR).r71, (hR).r72, (hR).r73, (hR).r74, (hR).r75, (hR).r76, (hR).r77, (hR).r78, (hR).r79, (hR).r81, (hR).r82, (hR).r85, (hR).r86, (hR).r87, (hR).r88, (hR).r89, (hR).r90, (hR).r92, (hR).r93, (hR).r94, (hR).r95, (hR).r103, (hR).r104, (hR).r105, (hR).r108, (hR).r109, (hR).r110, (hR).r111, (hR).r112, (hR).r113, (hR).r114, x_R_sI, x_R_sJ, x_R_sA, x_R_sB]
        simp only [em, t_ixn hR.a10 (show k < 12 by omega) (by omega), Option.bind_some, nI_clampS (show k < 100000 by omega), x_A_sI, R.k.lk k hkn]
    · refine fail_a B S R 1 (by decide) ?_ ?_
      · simp only [q_within, q_in, l0, l1, l5, l23, l48, l240, l1000, l5000, lm5000, l10000, l100000, l1000000, L0, L1, L5, L23, L48, L240, L1000, L5000, Lm5000, L10000, L100000, L1000000, Int32.toInt_toInt64, Option.bind_some, f_Law_leak, f_WD_leak, t_is S.ct.t0, q_cell S, x_ec, x_cc, if_pos h1, if_neg h2, if_true]
      · simp only [q_within, q_in, l0, l1, l5, l23, l48, l240, l1000, l5000, lm5000, l10000, l100000, l1000000, L0, L1, L5, L23, L48, L240, L1000, L5000, Lm5000, L10000, L100000, L1000000, Int32.toInt_toInt64, Option.bind_some, f_Mod_leak, f_Mod_leak_25, f_Mod_leak_26, hR.i, q_isCell R.e n1 n12, if_pos h1, if_neg h2, one_ne, one_le, zer_eq, if_false, if_true, th64]
  · refine fail_a B S R 1 (by decide) ?_ ?_
    · simp only [q_within, q_in, l0, l1, l5, l23, l48, l240, l1000, l5000, lm5000, l10000, l100000, l1000000, L0, L1, L5, L23, L48, L240, L1000, L5000, Lm5000, L10000, L100000, L1000000, Int32.toInt_toInt64, Option.bind_some, f_Law_leak, f_WD_leak, t_is S.ct.t0, q_cell S, x_ec, x_cc, if_neg h1, if_true]
    · simp only [q_within, q_in, l0, l1, l5, l23, l48, l240, l1000, l5000, lm5000, l10000, l100000, l1000000, L0, L1, L5, L23, L48, L240, L1000, L5000, Lm5000, L10000, L100000, L1000000, Int32.toInt_toInt64, Option.bind_some, f_Mod_leak, f_Mod_leak_25, f_Mod_leak_26, hR.i, q_isCell R.e n1 n12, if_neg h1, one_ne, one_le, zer_eq, if_false, if_true, th64]
theorem step_water : x_step8 T1 T2 0 (62 + 6 * n) 0 (Sim T1 T2 n) := by
  intro w1 w2 p1 p2 ⟨A, B, S, R⟩
  have hR := R.e.r
  have n1 := S.ws.n1
  have n12 := S.ws.n12
  by_cases h1 : 0 ≤ p1.toInt ∧ p1.toInt ≤ (n : Int) - 1
  · obtain ⟨k, em, hk, hk2⟩ := z_isN h1
    have hkn : k < n := by omega
    have hm := B.k.mt k hkn
    have hmo := B.e.mo hm
    have hh := B.k.hd k hkn
    have tc := (S.ws.c k hkn).1
    have hmt := S.k.mt k hkn
    have hhd := S.k.hd k hkn
    rw [show 41 + 5 + 2 * k = 46 + 2 * k by omega] at tc hmt hhd
    have eM : (Int32.ofInt (moE A.E (A.C.mt k))).toInt = moE A.E (A.C.mt k) := z_t (by omega) (by omega)
    by_cases h2 : 0 ≤ p2.toInt ∧ p2.toInt ≤ moE A.E (A.C.mt k)
    · refine ok_a rfl (A' := (Ab.mk_ A.E ((Ce.mk_ A.C.mt A.C.th A.C.lk (ud A.C.hd k p2.toInt))) A.wm A.ps A.fz A.gd A.gn A.g1 A.g2 A.g3 A.g4 A.hr A.mo (A.st + (p2 - Int32.ofInt (A.C.hd k)).toInt64) A.og A.oc A.ig A.ic)) (ab_cel B ⟨n1, n12, B.k.mt, B.k.th, B.k.lk, fun i hi => ?_⟩) (w1 := x_sI (x_sJ w1 14 0 (A.st + (p2 - Int32.ofInt (A.C.hd k)).toInt64)) 20 (46 + 2 * k) p2) (S.cel (fun i h _ _ a => by simp [wp_some, wp_bind, x_I_sI, x_J_sJ, x_R_sR, x_A_sA, x_B_sB, x_I_sJ, x_I_sR, x_I_sA, x_I_sB, x_J_sI, x_J_sR, x_J_sA, x_J_sB, x_R_sI, x_R_sJ, x_R_sA, x_R_sB, x_A_sI, x_A_sJ, x_A_sR, x_A_sB, x_B_sI, x_B_sJ, x_B_sR, x_B_sA, x_Q_sI, x_Q_sJ, x_Q_sR, x_Q_sA, x_Q_sB, En.cn_mk, En.X_mk, En.Y_mk, En.vp_mk, En.lq_mk, En.ld_mk, En.fo_mk, En.fi_mk, En.cl_mk, Ce.mt_mk, Ce.th_mk, Ce.lk_mk, Ce.hd_mk, Ab.E_mk, Ab.C_mk, Ab.wm_mk, Ab.ps_mk, Ab.fz_mk, Ab.gd_mk, Ab.gn_mk, Ab.g1_mk, Ab.g2_mk, Ab.g3_mk, Ab.g4_mk, Ab.hr_mk, Ab.mo_mk, Ab.st_mk, Ab.og_mk, Ab.oc_mk, Ab.ig_mk, Ab.ic_mk, a]) (fun i h a => by simp [wp_some, wp_bind, x_I_sI, x_J_sJ, x_R_sR, x_A_sA, x_B_sB, x_I_sJ, x_I_sR, x_I_sA, x_I_sB, x_J_sI, x_J_sR, x_J_sA, x_J_sB, x_R_sI, x_R_sJ, x_R_sA, x_R_sB, x_A_sI, x_A_sJ, x_A_sR, x_A_sB, x_B_sI, x_B_sJ, x_B_sR, x_B_sA, x_Q_sI, x_Q_sJ, x_Q_sR, x_Q_sA, x_Q_sB, En.cn_mk, En.X_mk, En.Y_mk, En.vp_mk, En.lq_mk, En.ld_mk, En.fo_mk, En.fi_mk, En.cl_mk, Ce.mt_mk, Ce.th_mk, Ce.lk_mk, Ce.hd_mk, Ab.E_mk, Ab.C_mk, Ab.wm_mk, Ab.ps_mk, Ab.fz_mk, Ab.gd_mk, Ab.gn_mk, Ab.g1_mk, Ab.g2_mk, Ab.g3_mk, Ab.g4_mk, Ab.hr_mk, Ab.mo_mk, Ab.st_mk, Ab.og_mk, Ab.oc_mk, Ab.ig_mk, Ab.ic_mk, a]) (fun _ _ _ => rfl) (fun _ _ => rfl) (fun _ _ => rfl) ⟨S.k.mt, fun i hi => ?_, fun i hi => ?_, fun i hi => ?_⟩ ?_) (w2 := x_sB (x_sJ (x_sI w2 64 0 0) 102 0 (A.st + (p2 - Int32.ofInt (A.C.hd k)).toInt64)) 9 k p2.toInt64) (R.cel ?_ ⟨R.k.mt, R.k.th, R.k.lk, fun i hi => ?_⟩ ?_) (Int32.ofInt (A.C.hd k)) (by simp [wp_some, wp_bind, x_I_sI, x_J_sJ, x_R_sR, x_A_sA, x_B_sB, x_I_sJ, x_I_sR, x_I_sA, x_I_sB, x_J_sI, x_J_sR, x_J_sA, x_J_sB, x_R_sI, x_R_sJ, x_R_sA, x_R_sB, x_A_sI, x_A_sJ, x_A_sR, x_A_sB, x_B_sI, x_B_sJ, x_B_sR, x_B_sA, x_Q_sI, x_Q_sJ, x_Q_sR, x_Q_sA, x_Q_sB, En.cn_mk, En.X_mk, En.Y_mk, En.vp_mk, En.lq_mk, En.ld_mk, En.fo_mk, En.fi_mk, En.cl_mk, Ce.mt_mk, Ce.th_mk, Ce.lk_mk, Ce.hd_mk, Ab.E_mk, Ab.C_mk, Ab.wm_mk, Ab.ps_mk, Ab.fz_mk, Ab.gd_mk, Ab.gn_mk, Ab.g1_mk, Ab.g2_mk, Ab.g3_mk, Ab.g4_mk, Ab.hr_mk, Ab.mo_mk, Ab.st_mk, Ab.og_mk, Ab.oc_mk, Ab.ig_mk, Ab.ic_mk]) ?_ ?_
      · dsimp only [En.cn_mk, En.X_mk, En.Y_mk, En.vp_mk, En.lq_mk, En.ld_mk, En.fo_mk, En.fi_mk, En.cl_mk, Ce.mt_mk, Ce.th_mk, Ce.lk_mk, Ce.hd_mk, Ab.E_mk, Ab.C_mk, Ab.wm_mk, Ab.ps_mk, Ab.fz_mk, Ab.gd_mk, Ab.gn_mk, Ab.g1_mk, Ab.g2_mk, Ab.g3_mk, Ab.g4_mk, Ab.hr_mk, Ab.mo_mk, Ab.st_mk, Ab.og_mk, Ab.oc_mk, Ab.ig_mk, Ab.ic_mk]
        by_cases e : i = k
        · subst e; rw [ud_s]; exact h2
        · rw [ud_o _ _ e]; exact B.k.hd i hi
      · simpa [wp_some, wp_bind, x_I_sI, x_J_sJ, x_R_sR, x_A_sA, x_B_sB, x_I_sJ, x_I_sR, x_I_sA, x_I_sB, x_J_sI, x_J_sR, x_J_sA, x_J_sB, x_R_sI, x_R_sJ, x_R_sA, x_R_sB, x_A_sI, x_A_sJ, x_A_sR, x_A_sB, x_B_sI, x_B_sJ, x_B_sR, x_B_sA, x_Q_sI, x_Q_sJ, x_Q_sR, x_Q_sA, x_Q_sB, En.cn_mk, En.X_mk, En.Y_mk, En.vp_mk, En.lq_mk, En.ld_mk, En.fo_mk, En.fi_mk, En.cl_mk, Ce.mt_mk, Ce.th_mk, Ce.lk_mk, Ce.hd_mk, Ab.E_mk, Ab.C_mk, Ab.wm_mk, Ab.ps_mk, Ab.fz_mk, Ab.gd_mk, Ab.gn_mk, Ab.g1_mk, Ab.g2_mk, Ab.g3_mk, Ab.g4_mk, Ab.hr_mk, Ab.mo_mk, Ab.st_mk, Ab.og_mk, Ab.oc_mk, Ab.ig_mk, Ab.ic_mk] using S.k.th i hi
      · simpa [wp_some, wp_bind, x_I_sI, x_J_sJ, x_R_sR, x_A_sA, x_B_sB, x_I_sJ, x_I_sR, x_I_sA, x_I_sB, x_J_sI, x_J_sR, x_J_sA, x_J_sB, x_R_sI, x_R_sJ, x_R_sA, x_R_sB, x_A_sI, x_A_sJ, x_A_sR, x_A_sB, x_B_sI, x_B_sJ, x_B_sR, x_B_sA, x_Q_sI, x_Q_sJ, x_Q_sR, x_Q_sA, x_Q_sB, En.cn_mk, En.X_mk, En.Y_mk, En.vp_mk, En.lq_mk, En.ld_mk, En.fo_mk, En.fi_mk, En.cl_mk, Ce.mt_mk, Ce.th_mk, Ce.lk_mk, Ce.hd_mk, Ab.E_mk, Ab.C_mk, Ab.wm_mk, Ab.ps_mk, Ab.fz_mk, Ab.gd_mk, Ab.gn_mk, Ab.g1_mk, Ab.g2_mk, Ab.g3_mk, Ab.g4_mk, Ab.hr_mk, Ab.mo_mk, Ab.st_mk, Ab.og_mk, Ab.oc_mk, Ab.ig_mk, Ab.ic_mk] using S.k.lk i hi
      · dsimp only [En.cn_mk, En.X_mk, En.Y_mk, En.vp_mk, En.lq_mk, En.ld_mk, En.fo_mk, En.fi_mk, En.cl_mk, Ce.mt_mk, Ce.th_mk, Ce.lk_mk, Ce.hd_mk, Ab.E_mk, Ab.C_mk, Ab.wm_mk, Ab.ps_mk, Ab.fz_mk, Ab.gd_mk, Ab.gn_mk, Ab.g1_mk, Ab.g2_mk, Ab.g3_mk, Ab.g4_mk, Ab.hr_mk, Ab.mo_mk, Ab.st_mk, Ab.og_mk, Ab.oc_mk, Ab.ig_mk, Ab.ic_mk]
        by_cases e : i = k
        · subst e; rw [ud_s, x_I_sI, if_pos ⟨rfl, by omega⟩, z_o]
        · rw [ud_o _ _ e, x_I_sI, if_neg (by omega)]; exact S.k.hd i hi
      · rw [x_J_sI, x_J_sJ, if_pos ⟨rfl, rfl⟩]
      · exact (((Gx.refl _ _ _ _ w2).sI (by decide)).sJ (by decide)).sB (by decide)
      · dsimp only [En.cn_mk, En.X_mk, En.Y_mk, En.vp_mk, En.lq_mk, En.ld_mk, En.fo_mk, En.fi_mk, En.cl_mk, Ce.mt_mk, Ce.th_mk, Ce.lk_mk, Ce.hd_mk, Ab.E_mk, Ab.C_mk, Ab.wm_mk, Ab.ps_mk, Ab.fz_mk, Ab.gd_mk, Ab.gn_mk, Ab.g1_mk, Ab.g2_mk, Ab.g3_mk, Ab.g4_mk, Ab.hr_mk, Ab.mo_mk, Ab.st_mk, Ab.og_mk, Ab.oc_mk, Ab.ig_mk, Ab.ic_mk]
        by_cases e : i = k
        · subst e; rw [ud_s, x_B_sB, if_pos ⟨rfl, rfl⟩, z_64x]
        · rw [ud_o _ _ e, x_B_sB, if_neg (by omega)]; exact R.k.hd i hi
      · rw [x_J_sB, x_J_sJ, if_pos ⟨rfl, rfl⟩]
      · rw [em]
        simp only [q_within, q_in, l0, l1, l5, l23, l48, l240, l1000, l5000, lm5000, l10000, l100000, l1000000, L0, L1, L5, L23, L48, L240, L1000, L5000, Lm5000, L10000, L100000, L1000000, Int32.toInt_toInt64, Option.bind_some, f_Law_water, f_WD_water, t_is S.ct.t0, q_cell1 S hkn, x_ec, x_cc, t_is tc, hmt, t_is (S.e.m _ hm).1, c_most B.e S.e hm, eM, if_pos h2, hhd, S.d.st, out_ix S.ct]
        rfl
      · simp only [q_within, q_in, l0, l1, l5, l23, l48, l240, l1000, l5000, lm5000, l10000, l100000, l1000000, L0, L1, L5, L23, L48, L240, L1000, L5000, Lm5000, L10000, L100000, L1000000, Int32.toInt_toInt64, Option.bind_some, f_Mod_water, f_Mod_water_34, hR.i, q_isCell R.e n1 n12, if_pos h1, one_ne, if_false, th64, zer_le, if_true]
        simp only [Option.bind_some, (hR).i, (hR).r66, (hR).r67, (hR).r68, (hR).r69, (hR).r70, (hR).r71, (hR).r72, (hR).r73, (hR).r74, (hR).r75, (hR).r76, (hR).r77, (hR).r78, (hR).r79, (hR).r81, (hR).r82, (hR).r85, (hR).r86, (hR).r87, (hR).r88, (hR).r89, (hR).r90, (hR).r92, (hR).r93, (hR).r94, (hR).r95, (hR).r103, (hR).r104, (hR).r105, (hR).r108, (hR).r109, (hR).r110, (hR).r111, (hR).r112, (hR).r113, (hR).r114, x_R_sI, x_R_sJ, x_R_sA, x_R_sB]
        simp only [em, t_ixn hR.a7 (show k < 12 by omega) (by omega), t_ixn hR.a9 (show k < 12 by omega) (by omega), Option.bind_some, nI_clampS (show k < 100000 by omega), R.k.mt k hkn, r_most B.e R.e hm]
        simp only [q_within, q_in, l0, l1, l5, l23, l48, l240, l1000, l5000, lm5000, l10000, l100000, l1000000, L0, L1, L5, L23, L48, L240, L1000, L5000, Lm5000, L10000, L100000, L1000000, Int32.toInt_toInt64, Option.bind_some, eM, if_pos h2, one_ne, if_false, x_B_sI, R.k.hd k hkn, z_32, x_J_sI, R.d.st, zer_le, if_true]
    · refine fail_a B S R 1 (by decide) ?_ ?_
      · rw [em]
        simp only [q_within, q_in, l0, l1, l5, l23, l48, l240, l1000, l5000, lm5000, l10000, l100000, l1000000, L0, L1, L5, L23, L48, L240, L1000, L5000, Lm5000, L10000, L100000, L1000000, Int32.toInt_toInt64, Option.bind_some, f_Law_water, f_WD_water, t_is S.ct.t0, q_cell1 S hkn, x_ec, x_cc, t_is tc, hmt, t_is (S.e.m _ hm).1, c_most B.e S.e hm, eM, if_neg h2, if_true]
      · simp only [q_within, q_in, l0, l1, l5, l23, l48, l240, l1000, l5000, lm5000, l10000, l100000, l1000000, L0, L1, L5, L23, L48, L240, L1000, L5000, Lm5000, L10000, L100000, L1000000, Int32.toInt_toInt64, Option.bind_some, f_Mod_water, f_Mod_water_33, f_Mod_water_34, hR.i, q_isCell R.e n1 n12, if_pos h1, one_ne, if_false, th64, one_le, if_true]
        simp only [Option.bind_some, (hR).i, (hR).r66, (hR).r67, (hR).r68, (hR).r69, (hR).r70, (hR).r71, (hR).r72, (hR).r73, (hR).r74, (hR).r75, (hR).r76, (hR).r77, (hR).r78, (hR).r79, (hR).r81, (hR).r82, (hR).r85, (hR).r86, (hR).r87, (hR).r88, (hR).r89, (hR).r90, (hR).r92, (hR).r93, (hR).r94, (hR).r95, (hR).r103, (hR).r104, (hR).r105, (hR).r108, (hR).r109, (hR).r110, (hR).r111, (hR).r112, (hR).r113, (hR).r114, x_R_sI, x_R_sJ, x_R_sA, x_R_sB]
        simp only [em, t_ixn hR.a7 (show k < 12 by omega) (by omega), Option.bind_some, nI_clampS (show k < 100000 by omega), R.k.mt k hkn, r_most B.e R.e hm]
        simp only [q_within, q_in, l0, l1, l5, l23, l48, l240, l1000, l5000, lm5000, l10000, l100000, l1000000, L0, L1, L5, L23, L48, L240, L1000, L5000, Lm5000, L10000, L100000, L1000000, Int32.toInt_toInt64, Option.bind_some, eM, if_neg h2, zer_eq, if_true]
  · refine fail_a B S R 1 (by decide) ?_ ?_
    · simp only [q_within, q_in, l0, l1, l5, l23, l48, l240, l1000, l5000, lm5000, l10000, l100000, l1000000, L0, L1, L5, L23, L48, L240, L1000, L5000, Lm5000, L10000, L100000, L1000000, Int32.toInt_toInt64, Option.bind_some, f_Law_water, f_WD_water, t_is S.ct.t0, q_cell S, x_ec, x_cc, if_neg h1, if_true]
    · simp only [q_within, q_in, l0, l1, l5, l23, l48, l240, l1000, l5000, lm5000, l10000, l100000, l1000000, L0, L1, L5, L23, L48, L240, L1000, L5000, Lm5000, L10000, L100000, L1000000, Int32.toInt_toInt64, Option.bind_some, f_Mod_water, f_Mod_water_33, f_Mod_water_34, hR.i, q_isCell R.e n1 n12, if_neg h1, one_ne, one_le, zer_eq, if_false, if_true, th64]
theorem step_cell : x_step2 T1 T2 0 (62 + 6 * n) 0 (Sim T1 T2 n) := by
  intro w1 w2 p1 p2 p3 ⟨A, B, S, R⟩
  have hR := R.e.r
  have n1 := S.ws.n1
  have n12 := S.ws.n12
  have hr := B.hr
  by_cases h1 : 0 ≤ p1.toInt ∧ p1.toInt ≤ (n : Int) - 1
  · by_cases h2 : 0 ≤ p2.toInt ∧ p2.toInt ≤ 5
    · by_cases h3 : 1 ≤ p3.toInt ∧ p3.toInt ≤ 1000
      · obtain ⟨k, em, hk, hk2⟩ := z_isN h1
        have hkn : k < n := by omega
        obtain ⟨m, em2, hm, hm2⟩ := z_isN h2
        have hm6 : m < 6 := by omega
        have tc := (S.ws.c k hkn).1
        have hhd := S.k.hd k hkn
        have hh := B.k.hd k hkn
        have hmo := B.e.mo (B.k.mt k hkn)
        rw [show 41 + 5 + 2 * k = 46 + 2 * k by omega] at tc hhd
        have ref : f_Mod_cell T2 w2 0 p1 p2 p3 = f_Mod_cell_49 T2 w2 0 p1 p2 p3 0 (if A.hr = 0 then 0 else 2) := by
          simp only [q_within, q_in, l0, l1, l5, l23, l48, l240, l1000, l5000, lm5000, l10000, l100000, l1000000, L0, L1, L5, L23, L48, L240, L1000, L5000, Lm5000, L10000, L100000, L1000000, Int32.toInt_toInt64, Option.bind_some, f_Mod_cell, hR.i, q_isCell R.e n1 n12, if_pos h1, if_pos h2, if_pos h3, one_ne, if_false, R.d.hr, nI_le0 _ (show A.hr < 100000 by omega)]
          by_cases e : A.hr = 0
          · rw [if_pos (by omega), if_pos e]
          · rw [if_neg (by omega), if_neg e]
        by_cases h4 : A.hr = 0
        · refine ⟨(0, x_sI (x_sR (x_sI (x_sJ w1 14 0 (A.st - Int64.ofInt (A.C.hd k))) 20 (46 + 2 * k) 0) 17 (46 + 2 * k) (some (2 + 4 * m))) 18 (46 + 2 * k) p3), x_sA (x_sA (x_sB (x_sJ (x_sI w2 64 0 0) 102 0 (A.st - Int64.ofInt (A.C.hd k))) 9 k 0) 7 k (nI m)) 8 k p3, ?_, ?_, thr R _ _ (by simp [wp_some, wp_bind, x_I_sI, x_J_sJ, x_R_sR, x_A_sA, x_B_sB, x_I_sJ, x_I_sR, x_I_sA, x_I_sB, x_J_sI, x_J_sR, x_J_sA, x_J_sB, x_R_sI, x_R_sJ, x_R_sA, x_R_sB, x_A_sI, x_A_sJ, x_A_sR, x_A_sB, x_B_sI, x_B_sJ, x_B_sR, x_B_sA, x_Q_sI, x_Q_sJ, x_Q_sR, x_Q_sA, x_Q_sB, En.cn_mk, En.X_mk, En.Y_mk, En.vp_mk, En.lq_mk, En.ld_mk, En.fo_mk, En.fi_mk, En.cl_mk, Ce.mt_mk, Ce.th_mk, Ce.lk_mk, Ce.hd_mk, Ab.E_mk, Ab.C_mk, Ab.wm_mk, Ab.ps_mk, Ab.fz_mk, Ab.gd_mk, Ab.gn_mk, Ab.g1_mk, Ab.g2_mk, Ab.g3_mk, Ab.g4_mk, Ab.hr_mk, Ab.mo_mk, Ab.st_mk, Ab.og_mk, Ab.oc_mk, Ab.ig_mk, Ab.ic_mk]), (Ab.mk_ A.E ((Ce.mk_ (ud A.C.mt k m) (ud A.C.th k p3.toInt) A.C.lk (ud A.C.hd k 0))) A.wm A.ps A.fz A.gd A.gn A.g1 A.g2 A.g3 A.g4 A.hr A.mo (A.st - Int64.ofInt (A.C.hd k)) A.og A.oc A.ig A.ic), ?_, ?_, ?_⟩
          · rw [em, em2]
            simp only [q_within, q_in, l0, l1, l5, l23, l48, l240, l1000, l5000, lm5000, l10000, l100000, l1000000, L0, L1, L5, L23, L48, L240, L1000, L5000, Lm5000, L10000, L100000, L1000000, Int32.toInt_toInt64, Option.bind_some, f_Law_cell1, f_WD_cell, t_is S.ct.t0, q_cell1 S hkn, q_mat1 S hm6, q_noHour S hr, x_ec, x_cc, if_pos h3, if_pos h4, t_is tc, hhd, S.d.st, t_ex (S.e.m m hm6).1, z_64 (show -2147483648 ≤ A.C.hd k by omega) (by omega)]
          · rw [ref, if_pos h4]
            simp only [q_within, q_in, l0, l1, l5, l23, l48, l240, l1000, l5000, lm5000, l10000, l100000, l1000000, L0, L1, L5, L23, L48, L240, L1000, L5000, Lm5000, L10000, L100000, L1000000, Int32.toInt_toInt64, Option.bind_some, f_Mod_cell_49, f_Mod_cell_95, hR.i, th64, zer_eq, if_true]
            simp only [Option.bind_some, (hR).i, (hR).r66, (hR).r67, (hR).r68, (hR).r69, (hR).r70, (hR).r71, (hR).r72, (hR).r73, (hR).r74, (hR).r75, (hR).r76, (hR).r77, (hR).r78, (hR).r79, (hR).r81, (hR).r82, (hR).r85, (hR).r86, (hR).r87, (hR).r88, (hR).r89, (hR).r90, (hR).r92, (hR).r93, (hR).r94, (hR).r95, (hR).r103, (hR).r104, (hR).r105, (hR).r108, (hR).r109, (hR).r110, (hR).r111, (hR).r112, (hR).r113, (hR).r114, x_R_sI, x_R_sJ, x_R_sA, x_R_sB]
            simp only [em, em2, t_ixn hR.a9 (show k < 12 by omega) (by omega), t_ixn hR.a7 (show k < 12 by omega) (by omega), t_ixn hR.a8 (show k < 12 by omega) (by omega), Option.bind_some, nI_clampS (show k < 100000 by omega), x_J_sI, x_B_sI, R.d.st, R.k.hd k hkn]
          · refine ab_cel B ⟨n1, n12, fun i hi => ?_, fun i hi => ?_, B.k.lk, fun i hi => ?_⟩
            · dsimp only [En.cn_mk, En.X_mk, En.Y_mk, En.vp_mk, En.lq_mk, En.ld_mk, En.fo_mk, En.fi_mk, En.cl_mk, Ce.mt_mk, Ce.th_mk, Ce.lk_mk, Ce.hd_mk, Ab.E_mk, Ab.C_mk, Ab.wm_mk, Ab.ps_mk, Ab.fz_mk, Ab.gd_mk, Ab.gn_mk, Ab.g1_mk, Ab.g2_mk, Ab.g3_mk, Ab.g4_mk, Ab.hr_mk, Ab.mo_mk, Ab.st_mk, Ab.og_mk, Ab.oc_mk, Ab.ig_mk, Ab.ic_mk]
              by_cases e : i = k
              · subst e; rw [ud_s]; exact hm6
              · rw [ud_o _ _ e]; exact B.k.mt i hi
            · dsimp only [En.cn_mk, En.X_mk, En.Y_mk, En.vp_mk, En.lq_mk, En.ld_mk, En.fo_mk, En.fi_mk, En.cl_mk, Ce.mt_mk, Ce.th_mk, Ce.lk_mk, Ce.hd_mk, Ab.E_mk, Ab.C_mk, Ab.wm_mk, Ab.ps_mk, Ab.fz_mk, Ab.gd_mk, Ab.gn_mk, Ab.g1_mk, Ab.g2_mk, Ab.g3_mk, Ab.g4_mk, Ab.hr_mk, Ab.mo_mk, Ab.st_mk, Ab.og_mk, Ab.oc_mk, Ab.ig_mk, Ab.ic_mk]
              by_cases e : i = k
              · subst e; rw [ud_s]; exact h3
              · rw [ud_o _ _ e]; exact B.k.th i hi
            · dsimp only [En.cn_mk, En.X_mk, En.Y_mk, En.vp_mk, En.lq_mk, En.ld_mk, En.fo_mk, En.fi_mk, En.cl_mk, Ce.mt_mk, Ce.th_mk, Ce.lk_mk, Ce.hd_mk, Ab.E_mk, Ab.C_mk, Ab.wm_mk, Ab.ps_mk, Ab.fz_mk, Ab.gd_mk, Ab.gn_mk, Ab.g1_mk, Ab.g2_mk, Ab.g3_mk, Ab.g4_mk, Ab.hr_mk, Ab.mo_mk, Ab.st_mk, Ab.og_mk, Ab.oc_mk, Ab.ig_mk, Ab.ic_mk]
              by_cases e : i = k
              · subst e; rw [ud_s, ud_s]; have := B.e.mo hm6; omega
              · rw [ud_o _ _ e, ud_o _ _ e]; exact B.k.hd i hi
          · refine S.cel (fun i h a b c => by simp [wp_some, wp_bind, x_I_sI, x_J_sJ, x_R_sR, x_A_sA, x_B_sB, x_I_sJ, x_I_sR, x_I_sA, x_I_sB, x_J_sI, x_J_sR, x_J_sA, x_J_sB, x_R_sI, x_R_sJ, x_R_sA, x_R_sB, x_A_sI, x_A_sJ, x_A_sR, x_A_sB, x_B_sI, x_B_sJ, x_B_sR, x_B_sA, x_Q_sI, x_Q_sJ, x_Q_sR, x_Q_sA, x_Q_sB, En.cn_mk, En.X_mk, En.Y_mk, En.vp_mk, En.lq_mk, En.ld_mk, En.fo_mk, En.fi_mk, En.cl_mk, Ce.mt_mk, Ce.th_mk, Ce.lk_mk, Ce.hd_mk, Ab.E_mk, Ab.C_mk, Ab.wm_mk, Ab.ps_mk, Ab.fz_mk, Ab.gd_mk, Ab.gn_mk, Ab.g1_mk, Ab.g2_mk, Ab.g3_mk, Ab.g4_mk, Ab.hr_mk, Ab.mo_mk, Ab.st_mk, Ab.og_mk, Ab.oc_mk, Ab.ig_mk, Ab.ic_mk, a, c]) (fun i h a => by simp [wp_some, wp_bind, x_I_sI, x_J_sJ, x_R_sR, x_A_sA, x_B_sB, x_I_sJ, x_I_sR, x_I_sA, x_I_sB, x_J_sI, x_J_sR, x_J_sA, x_J_sB, x_R_sI, x_R_sJ, x_R_sA, x_R_sB, x_A_sI, x_A_sJ, x_A_sR, x_A_sB, x_B_sI, x_B_sJ, x_B_sR, x_B_sA, x_Q_sI, x_Q_sJ, x_Q_sR, x_Q_sA, x_Q_sB, En.cn_mk, En.X_mk, En.Y_mk, En.vp_mk, En.lq_mk, En.ld_mk, En.fo_mk, En.fi_mk, En.cl_mk, Ce.mt_mk, Ce.th_mk, Ce.lk_mk, Ce.hd_mk, Ab.E_mk, Ab.C_mk, Ab.wm_mk, Ab.ps_mk, Ab.fz_mk, Ab.gd_mk, Ab.gn_mk, Ab.g1_mk, Ab.g2_mk, Ab.g3_mk, Ab.g4_mk, Ab.hr_mk, Ab.mo_mk, Ab.st_mk, Ab.og_mk, Ab.oc_mk, Ab.ig_mk, Ab.ic_mk, a]) (fun i h a => by simp [wp_some, wp_bind, x_I_sI, x_J_sJ, x_R_sR, x_A_sA, x_B_sB, x_I_sJ, x_I_sR, x_I_sA, x_I_sB, x_J_sI, x_J_sR, x_J_sA, x_J_sB, x_R_sI, x_R_sJ, x_R_sA, x_R_sB, x_A_sI, x_A_sJ, x_A_sR, x_A_sB, x_B_sI, x_B_sJ, x_B_sR, x_B_sA, x_Q_sI, x_Q_sJ, x_Q_sR, x_Q_sA, x_Q_sB, En.cn_mk, En.X_mk, En.Y_mk, En.vp_mk, En.lq_mk, En.ld_mk, En.fo_mk, En.fi_mk, En.cl_mk, Ce.mt_mk, Ce.th_mk, Ce.lk_mk, Ce.hd_mk, Ab.E_mk, Ab.C_mk, Ab.wm_mk, Ab.ps_mk, Ab.fz_mk, Ab.gd_mk, Ab.gn_mk, Ab.g1_mk, Ab.g2_mk, Ab.g3_mk, Ab.g4_mk, Ab.hr_mk, Ab.mo_mk, Ab.st_mk, Ab.og_mk, Ab.oc_mk, Ab.ig_mk, Ab.ic_mk, a]) (fun _ _ => rfl) (fun _ _ => rfl) ⟨fun i hi => ?_, fun i hi => ?_, fun i hi => ?_, fun i hi => ?_⟩ (by simp [wp_some, wp_bind, x_I_sI, x_J_sJ, x_R_sR, x_A_sA, x_B_sB, x_I_sJ, x_I_sR, x_I_sA, x_I_sB, x_J_sI, x_J_sR, x_J_sA, x_J_sB, x_R_sI, x_R_sJ, x_R_sA, x_R_sB, x_A_sI, x_A_sJ, x_A_sR, x_A_sB, x_B_sI, x_B_sJ, x_B_sR, x_B_sA, x_Q_sI, x_Q_sJ, x_Q_sR, x_Q_sA, x_Q_sB, En.cn_mk, En.X_mk, En.Y_mk, En.vp_mk, En.lq_mk, En.ld_mk, En.fo_mk, En.fi_mk, En.cl_mk, Ce.mt_mk, Ce.th_mk, Ce.lk_mk, Ce.hd_mk, Ab.E_mk, Ab.C_mk, Ab.wm_mk, Ab.ps_mk, Ab.fz_mk, Ab.gd_mk, Ab.gn_mk, Ab.g1_mk, Ab.g2_mk, Ab.g3_mk, Ab.g4_mk, Ab.hr_mk, Ab.mo_mk, Ab.st_mk, Ab.og_mk, Ab.oc_mk, Ab.ig_mk, Ab.ic_mk])
            · dsimp only [En.cn_mk, En.X_mk, En.Y_mk, En.vp_mk, En.lq_mk, En.ld_mk, En.fo_mk, En.fi_mk, En.cl_mk, Ce.mt_mk, Ce.th_mk, Ce.lk_mk, Ce.hd_mk, Ab.E_mk, Ab.C_mk, Ab.wm_mk, Ab.ps_mk, Ab.fz_mk, Ab.gd_mk, Ab.gn_mk, Ab.g1_mk, Ab.g2_mk, Ab.g3_mk, Ab.g4_mk, Ab.hr_mk, Ab.mo_mk, Ab.st_mk, Ab.og_mk, Ab.oc_mk, Ab.ig_mk, Ab.ic_mk]
              by_cases e : i = k
              · subst e; rw [ud_s, x_R_sI, x_R_sR, if_pos ⟨rfl, by omega⟩]
              · rw [ud_o _ _ e, x_R_sI, x_R_sR, if_neg (by omega)]; exact S.k.mt i hi
            · dsimp only [En.cn_mk, En.X_mk, En.Y_mk, En.vp_mk, En.lq_mk, En.ld_mk, En.fo_mk, En.fi_mk, En.cl_mk, Ce.mt_mk, Ce.th_mk, Ce.lk_mk, Ce.hd_mk, Ab.E_mk, Ab.C_mk, Ab.wm_mk, Ab.ps_mk, Ab.fz_mk, Ab.gd_mk, Ab.gn_mk, Ab.g1_mk, Ab.g2_mk, Ab.g3_mk, Ab.g4_mk, Ab.hr_mk, Ab.mo_mk, Ab.st_mk, Ab.og_mk, Ab.oc_mk, Ab.ig_mk, Ab.ic_mk]
              by_cases e : i = k
              · subst e; rw [ud_s, x_I_sI, if_pos ⟨rfl, by omega⟩, z_o]
              · rw [ud_o _ _ e, x_I_sI, if_neg (by omega), x_I_sR, x_I_sI, if_neg (by omega)]; exact S.k.th i hi
            · simpa [wp_some, wp_bind, x_I_sI, x_J_sJ, x_R_sR, x_A_sA, x_B_sB, x_I_sJ, x_I_sR, x_I_sA, x_I_sB, x_J_sI, x_J_sR, x_J_sA, x_J_sB, x_R_sI, x_R_sJ, x_R_sA, x_R_sB, x_A_sI, x_A_sJ, x_A_sR, x_A_sB, x_B_sI, x_B_sJ, x_B_sR, x_B_sA, x_Q_sI, x_Q_sJ, x_Q_sR, x_Q_sA, x_Q_sB, En.cn_mk, En.X_mk, En.Y_mk, En.vp_mk, En.lq_mk, En.ld_mk, En.fo_mk, En.fi_mk, En.cl_mk, Ce.mt_mk, Ce.th_mk, Ce.lk_mk, Ce.hd_mk, Ab.E_mk, Ab.C_mk, Ab.wm_mk, Ab.ps_mk, Ab.fz_mk, Ab.gd_mk, Ab.gn_mk, Ab.g1_mk, Ab.g2_mk, Ab.g3_mk, Ab.g4_mk, Ab.hr_mk, Ab.mo_mk, Ab.st_mk, Ab.og_mk, Ab.oc_mk, Ab.ig_mk, Ab.ic_mk] using S.k.lk i hi
            · dsimp only [En.cn_mk, En.X_mk, En.Y_mk, En.vp_mk, En.lq_mk, En.ld_mk, En.fo_mk, En.fi_mk, En.cl_mk, Ce.mt_mk, Ce.th_mk, Ce.lk_mk, Ce.hd_mk, Ab.E_mk, Ab.C_mk, Ab.wm_mk, Ab.ps_mk, Ab.fz_mk, Ab.gd_mk, Ab.gn_mk, Ab.g1_mk, Ab.g2_mk, Ab.g3_mk, Ab.g4_mk, Ab.hr_mk, Ab.mo_mk, Ab.st_mk, Ab.og_mk, Ab.oc_mk, Ab.ig_mk, Ab.ic_mk]
              by_cases e : i = k
              · subst e; rw [ud_s, x_I_sI, if_neg (by omega), x_I_sR, x_I_sI, if_pos ⟨rfl, by omega⟩]; rfl
              · rw [ud_o _ _ e, x_I_sI, if_neg (by omega), x_I_sR, x_I_sI, if_neg (by omega)]; exact S.k.hd i hi
          · refine R.cel (((((Gx.refl _ _ _ _ w2).sI (by decide)).sJ (by decide)).sB (by decide)).sA (by decide) |>.sA (by decide)) ⟨fun i hi => ?_, fun i hi => ?_, fun i hi => ?_, fun i hi => ?_⟩ (by simp [wp_some, wp_bind, x_I_sI, x_J_sJ, x_R_sR, x_A_sA, x_B_sB, x_I_sJ, x_I_sR, x_I_sA, x_I_sB, x_J_sI, x_J_sR, x_J_sA, x_J_sB, x_R_sI, x_R_sJ, x_R_sA, x_R_sB, x_A_sI, x_A_sJ, x_A_sR, x_A_sB, x_B_sI, x_B_sJ, x_B_sR, x_B_sA, x_Q_sI, x_Q_sJ, x_Q_sR, x_Q_sA, x_Q_sB, En.cn_mk, En.X_mk, En.Y_mk, En.vp_mk, En.lq_mk, En.ld_mk, En.fo_mk, En.fi_mk, En.cl_mk, Ce.mt_mk, Ce.th_mk, Ce.lk_mk, Ce.hd_mk, Ab.E_mk, Ab.C_mk, Ab.wm_mk, Ab.ps_mk, Ab.fz_mk, Ab.gd_mk, Ab.gn_mk, Ab.g1_mk, Ab.g2_mk, Ab.g3_mk, Ab.g4_mk, Ab.hr_mk, Ab.mo_mk, Ab.st_mk, Ab.og_mk, Ab.oc_mk, Ab.ig_mk, Ab.ic_mk])
            · dsimp only [En.cn_mk, En.X_mk, En.Y_mk, En.vp_mk, En.lq_mk, En.ld_mk, En.fo_mk, En.fi_mk, En.cl_mk, Ce.mt_mk, Ce.th_mk, Ce.lk_mk, Ce.hd_mk, Ab.E_mk, Ab.C_mk, Ab.wm_mk, Ab.ps_mk, Ab.fz_mk, Ab.gd_mk, Ab.gn_mk, Ab.g1_mk, Ab.g2_mk, Ab.g3_mk, Ab.g4_mk, Ab.hr_mk, Ab.mo_mk, Ab.st_mk, Ab.og_mk, Ab.oc_mk, Ab.ig_mk, Ab.ic_mk]
              by_cases e : i = k
              · subst e; rw [ud_s, x_A_sA, if_neg (by omega), x_A_sA, if_pos ⟨rfl, rfl⟩]
              · rw [ud_o _ _ e, x_A_sA, if_neg (by omega), x_A_sA, if_neg (by omega)]; exact R.k.mt i hi
            · dsimp only [En.cn_mk, En.X_mk, En.Y_mk, En.vp_mk, En.lq_mk, En.ld_mk, En.fo_mk, En.fi_mk, En.cl_mk, Ce.mt_mk, Ce.th_mk, Ce.lk_mk, Ce.hd_mk, Ab.E_mk, Ab.C_mk, Ab.wm_mk, Ab.ps_mk, Ab.fz_mk, Ab.gd_mk, Ab.gn_mk, Ab.g1_mk, Ab.g2_mk, Ab.g3_mk, Ab.g4_mk, Ab.hr_mk, Ab.mo_mk, Ab.st_mk, Ab.og_mk, Ab.oc_mk, Ab.ig_mk, Ab.ic_mk]
              by_cases e : i = k
              · subst e; rw [ud_s, x_A_sA, if_pos ⟨rfl, rfl⟩, z_o]
              · rw [ud_o _ _ e, x_A_sA, if_neg (by omega), x_A_sA, if_neg (by omega)]; exact R.k.th i hi
            · simpa [wp_some, wp_bind, x_I_sI, x_J_sJ, x_R_sR, x_A_sA, x_B_sB, x_I_sJ, x_I_sR, x_I_sA, x_I_sB, x_J_sI, x_J_sR, x_J_sA, x_J_sB, x_R_sI, x_R_sJ, x_R_sA, x_R_sB, x_A_sI, x_A_sJ, x_A_sR, x_A_sB, x_B_sI, x_B_sJ, x_B_sR, x_B_sA, x_Q_sI, x_Q_sJ, x_Q_sR, x_Q_sA, x_Q_sB, En.cn_mk, En.X_mk, En.Y_mk, En.vp_mk, En.lq_mk, En.ld_mk, En.fo_mk, En.fi_mk, En.cl_mk, Ce.mt_mk, Ce.th_mk, Ce.lk_mk, Ce.hd_mk, Ab.E_mk, Ab.C_mk, Ab.wm_mk, Ab.ps_mk, Ab.fz_mk, Ab.gd_mk, Ab.gn_mk, Ab.g1_mk, Ab.g2_mk, Ab.g3_mk, Ab.g4_mk, Ab.hr_mk, Ab.mo_mk, Ab.st_mk, Ab.og_mk, Ab.oc_mk, Ab.ig_mk, Ab.ic_mk] using R.k.lk i hi
            · dsimp only [En.cn_mk, En.X_mk, En.Y_mk, En.vp_mk, En.lq_mk, En.ld_mk, En.fo_mk, En.fi_mk, En.cl_mk, Ce.mt_mk, Ce.th_mk, Ce.lk_mk, Ce.hd_mk, Ab.E_mk, Ab.C_mk, Ab.wm_mk, Ab.ps_mk, Ab.fz_mk, Ab.gd_mk, Ab.gn_mk, Ab.g1_mk, Ab.g2_mk, Ab.g3_mk, Ab.g4_mk, Ab.hr_mk, Ab.mo_mk, Ab.st_mk, Ab.og_mk, Ab.oc_mk, Ab.ig_mk, Ab.ic_mk]
              by_cases e : i = k
              · subst e; rw [ud_s, x_B_sA, x_B_sA, x_B_sB, if_pos ⟨rfl, rfl⟩]; rfl
              · rw [ud_o _ _ e, x_B_sA, x_B_sA, x_B_sB, if_neg (by omega)]; exact R.k.hd i hi
        · refine fail_v (O := 0) B S R 2 ?_ ?_
          · rw [em, em2]
            simp only [q_within, q_in, l0, l1, l5, l23, l48, l240, l1000, l5000, lm5000, l10000, l100000, l1000000, L0, L1, L5, L23, L48, L240, L1000, L5000, Lm5000, L10000, L100000, L1000000, Int32.toInt_toInt64, Option.bind_some, f_Law_cell1, f_WD_cell, t_is S.ct.t0, q_cell1 S hkn, q_mat1 S hm6, q_noHour S hr, x_ec, x_cc, if_pos h3, if_neg h4]
            rfl
          · rw [ref, if_neg h4]
            simp only [q_within, q_in, l0, l1, l5, l23, l48, l240, l1000, l5000, lm5000, l10000, l100000, l1000000, L0, L1, L5, L23, L48, L240, L1000, L5000, Lm5000, L10000, L100000, L1000000, Int32.toInt_toInt64, Option.bind_some, f_Mod_cell_49, f_Mod_cell_95, hR.i, th64, two_ne, if_false]
      · refine fail_v (O := 0) B S R 1 ?_ ?_
        · simp only [q_within, q_in, l0, l1, l5, l23, l48, l240, l1000, l5000, lm5000, l10000, l100000, l1000000, L0, L1, L5, L23, L48, L240, L1000, L5000, Lm5000, L10000, L100000, L1000000, Int32.toInt_toInt64, Option.bind_some, f_Law_cell1, f_WD_cell, t_is S.ct.t0, q_cell S, q_mat S, x_ec, x_cc, if_pos h1, if_pos h2, if_neg h3, if_true]
        · simp only [q_within, q_in, l0, l1, l5, l23, l48, l240, l1000, l5000, lm5000, l10000, l100000, l1000000, L0, L1, L5, L23, L48, L240, L1000, L5000, Lm5000, L10000, L100000, L1000000, Int32.toInt_toInt64, Option.bind_some, f_Mod_cell, f_Mod_cell_33, f_Mod_cell_49, f_Mod_cell_95, hR.i, q_isCell R.e n1 n12, if_pos h1, if_pos h2, if_neg h3, one_ne, zer_eq, if_false, if_true, th64]
    · refine fail_v (O := 0) B S R 1 ?_ ?_
      · simp only [q_within, q_in, l0, l1, l5, l23, l48, l240, l1000, l5000, lm5000, l10000, l100000, l1000000, L0, L1, L5, L23, L48, L240, L1000, L5000, Lm5000, L10000, L100000, L1000000, Int32.toInt_toInt64, Option.bind_some, f_Law_cell1, f_WD_cell, t_is S.ct.t0, q_cell S, q_mat S, x_ec, x_cc, if_pos h1, if_neg h2, if_true]
      · simp only [q_within, q_in, l0, l1, l5, l23, l48, l240, l1000, l5000, lm5000, l10000, l100000, l1000000, L0, L1, L5, L23, L48, L240, L1000, L5000, Lm5000, L10000, L100000, L1000000, Int32.toInt_toInt64, Option.bind_some, f_Mod_cell, f_Mod_cell_33, f_Mod_cell_49, f_Mod_cell_95, hR.i, q_isCell R.e n1 n12, if_pos h1, if_neg h2, one_ne, zer_eq, if_false, if_true, th64]
  · refine fail_v (O := 0) B S R 1 ?_ ?_
    · simp only [q_within, q_in, l0, l1, l5, l23, l48, l240, l1000, l5000, lm5000, l10000, l100000, l1000000, L0, L1, L5, L23, L48, L240, L1000, L5000, Lm5000, L10000, L100000, L1000000, Int32.toInt_toInt64, Option.bind_some, f_Law_cell1, f_WD_cell, t_is S.ct.t0, q_cell S, x_ec, x_cc, if_neg h1, if_true]
    · simp only [q_within, q_in, l0, l1, l5, l23, l48, l240, l1000, l5000, lm5000, l10000, l100000, l1000000, L0, L1, L5, L23, L48, L240, L1000, L5000, Lm5000, L10000, L100000, L1000000, Int32.toInt_toInt64, Option.bind_some, f_Mod_cell, f_Mod_cell_33, f_Mod_cell_49, f_Mod_cell_95, hR.i, q_isCell R.e n1 n12, if_neg h1, one_ne, zer_eq, if_false, if_true, th64]
theorem step_mould (ht2 : True) : x_step14 T1 T2 0 (62 + 6 * n) 0 (Sim T1 T2 n) := by
  intro w1 w2 ⟨A, B, S, R⟩
  refine ⟨A.mo, x_sI w2 64 0 0, ?_, ?_, A, B, S, R.th 0⟩
  · unfold f_WD_mould
    rw [t_is S.ct.t0, Option.bind_some, S.d.mo]
  · unfold f_Mod_mould
    rw [R.e.r.i]
    have := (R.th 0).d.mo
    simp only [Option.bind_some, this]
end CEL
