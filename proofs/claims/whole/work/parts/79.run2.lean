/-! RUN -/
def midA (n : Nat) (A : Ab) (h : Nat) : Ab := (Ab.mk_ A.E (hourC A.E n A.C h) (fun k => Int32.ofInt (wmz A.E n A.C h k)) A.ps A.fz A.gd A.gn A.g1 A.g2 A.g3 A.g4 A.hr A.mo A.st (A.og + Int64.ofInt (SO n n (PP A.E n A.C h) (NN A.E n A.C h))) (A.oc + Int64.ofInt (SI n n (PP A.E n A.C h) (NN A.E n A.C h))) (A.ig + Int64.ofInt (SO n (n + 1) (PP A.E n A.C h) (NN A.E n A.C h))) (A.ic + Int64.ofInt (SI n (n + 1) (PP A.E n A.C h) (NN A.E n A.C h))))
def froA (n : Nat) (A : Ab) : Ab := (Ab.mk_ A.E A.C A.wm (fun k => psN (A.fz k) (A.wm k) (A.ps k)) (fun k => fzN (A.fz k) (A.wm k) (Int32.ofInt (dpz A.E A.C k))) (fun k => mxN (A.gd k) (Int32.ofInt (dpz A.E A.C k))) A.gn A.g1 A.g2 A.g3 A.g4 (A.hr + 1) (moN A.mo (ffu A.g1 A.g2 A.g3 A.g4 (Int32.ofInt (dpz A.E A.C (n - 1))) (A.wm (n - 1)) A.gn 0)) A.st A.og A.oc A.ig A.ic)
section RUN
variable {T T1 T2 : x_T} {w w' : x_W} {n : Nat} {A : Ab}
theorem CT.fx {b e : Nat} {a1 a2 a3 : List Nat} (F : Fx b e a1 a2 a3 w w') (S : CT T w n) (h : (a3.all fun k => k == 17 || k == 31 || k == 32) = true := by decide) : CT T w' n := by
  refine S.of (fun k i h1 h2 h3 => F.R k i (Or.inl ?_)) (fun i j => F.Q i j)
  intro hk
  have := List.all_eq_true.mp h k hk
  simp [wp_some, wp_bind, x_I_sI, x_J_sJ, x_R_sR, x_A_sA, x_B_sB, x_I_sJ, x_I_sR, x_I_sA, x_I_sB, x_J_sI, x_J_sR, x_J_sA, x_J_sB, x_R_sI, x_R_sJ, x_R_sA, x_R_sB, x_A_sI, x_A_sJ, x_A_sR, x_A_sB, x_B_sI, x_B_sJ, x_B_sR, x_B_sA, x_Q_sI, x_Q_sJ, x_Q_sR, x_Q_sA, x_Q_sB, En.cn_mk, En.X_mk, En.Y_mk, En.vp_mk, En.lq_mk, En.ld_mk, En.fo_mk, En.fi_mk, En.cl_mk, Ce.mt_mk, Ce.th_mk, Ce.lk_mk, Ce.hd_mk, Ab.E_mk, Ab.C_mk, Ab.wm_mk, Ab.ps_mk, Ab.fz_mk, Ab.gd_mk, Ab.gn_mk, Ab.g1_mk, Ab.g2_mk, Ab.g3_mk, Ab.g4_mk, Ab.hr_mk, Ab.mo_mk, Ab.st_mk, Ab.og_mk, Ab.oc_mk, Ab.ig_mk, Ab.ic_mk, h1, h2, h3] at this
theorem ab_mid (B : AB n A) {h : Nat} (hh : h < 24) : AB n (midA n A h) := ⟨B.e, hour_KB B.e B.k hh, B.fz, B.gn, B.g4, B.hr, B.mo⟩
theorem ab_fro (B : AB n A) (h : A.hr < 10000) : AB n (froA n A) := by
  refine ⟨B.e, B.k, fun k hk => ?_, B.gn, B.g4, by show A.hr + 1 ≤ 10000; omega, ?_⟩
  · show fzN _ _ _ = 0 ∨ fzN _ _ _ = 1
    have := B.fz k hk
    unfold fzN
    repeat' split
    all_goals first | exact Or.inl rfl | exact Or.inr rfl | exact this
  · show 0 ≤ (moN _ _).toInt ∧ (moN _ _).toInt ≤ 1000000
    unfold moN
    rw [z_t (by omega) (by omega)]
    omega
theorem c_mid (S : SC T w n A) (B : AB n A) {t : Nat} (ht : t < 100000) : wp (f_Wall_moveWater T w 41 26 (nI t)) (fun w' => SC T w' n (midA n A (t % 24))) := by
  refine wp_mono (c_hour B.e S.ws S.e S.k B.k ht) ?_
  intro w' H
  have F := H.fx
  have D := S.d
  exact ⟨F.ws S.ws, F.ws S.wt, CT.fx F S.ct, F.ec S.e, H.k, ⟨H.wm, fun k hk => (F.I _ _ (Or.inl (by decide))).trans (D.ps k hk), fun k hk => (F.I _ _ (Or.inl (by decide))).trans (D.fz k hk), fun k hk => (F.I _ _ (Or.inl (by decide))).trans (D.gd k hk), (F.I _ _ (Or.inl (by decide))).trans D.gn, fun i hi => (F.A _ _).trans (D.g1 i hi), fun i hi => (F.A _ _).trans (D.g2 i hi), fun i hi => (F.A _ _).trans (D.g3 i hi), fun i hi => (F.A _ _).trans (D.g4 i hi), (F.I _ _ (Or.inl (by decide))).trans D.hr, (F.I _ _ (Or.inl (by decide))).trans D.mo, (F.J _ _ (Or.inl (by decide))).trans D.st, H.og.trans (by rw [show x_J w 15 (41 + 1) = A.og from D.og]; rfl), H.oc.trans (by rw [show x_J w 16 (41 + 1) = A.oc from D.oc]; rfl), H.ig.trans (by rw [show x_J w 15 (41 + 2) = A.ig from D.ig]; rfl), H.ic.trans (by rw [show x_J w 16 (41 + 2) = A.ic from D.ic]; rfl)⟩⟩
theorem r_mid (S : SR T w n A) (B : AB n A) {h : Nat} (hh : h < 24) : wp (f_Mod_hour T w 0 (nI h)) (fun w' => SR T w' n (midA n A h) ∧ Gx [] [98, 99, 100, 101, 106, 107] [11, 28] [9, 27, 29] w w') := by
  refine wp_mono (r_hour B.e S.e S.k B.k hh) ?_
  intro w' H
  have F := H.fx
  have D := S.d
  exact ⟨⟨F.er S.e, H.k, ⟨H.wm, fun k hk => (F.A _ _ (by decide)).trans (D.ps k hk), fun k hk => (F.A _ _ (by decide)).trans (D.fz k hk), fun k hk => (F.A _ _ (by decide)).trans (D.gd k hk), (F.I _ _ (by decide)).trans D.gn, fun i hi => (F.A _ _ (by decide)).trans (D.g1 i hi), fun i hi => (F.A _ _ (by decide)).trans (D.g2 i hi), fun i hi => (F.A _ _ (by decide)).trans (D.g3 i hi), fun i hi => (F.A _ _ (by decide)).trans (D.g4 i hi), (F.I _ _ (by decide)).trans D.hr, (F.I _ _ (by decide)).trans D.mo, (F.J _ _ (by decide)).trans D.st, H.og.trans (by rw [D.og]; rfl), H.oc.trans (by rw [D.oc]; rfl), H.ig.trans (by rw [D.ig]; rfl), H.ic.trans (by rw [D.ic]; rfl)⟩⟩, F⟩
theorem c_pass (S : SC T w n A) (B : AB n A) (hr : A.hr < 10000) : wp (f_WD_passHour T w 0) (fun w' => SC T w' n (froA n (midA n A (A.hr % 24)))) := by
  have hh : A.hr % 24 < 24 := Nat.mod_lt _ (by omega)
  have n1 := S.ws.n1
  have n12 := S.ws.n12
  unfold f_WD_passHour
  simp only [t_is S.ct.t0, S.ct.r10, S.ct.r8, t_is S.ws.t, Option.bind_some, S.d.hr]
  rw [wp_bind]
  refine wp_mono (c_mid S B (by omega)) ?_
  intro w1 S1
  have B1 := ab_mid B hh
  generalize midA n A (A.hr % 24) = A1 at S1 B1 ⊢
  simp only [S1.ct.r10, t_is S.ws.t, Option.bind_some]
  rw [wp_bind]
  refine wp_mono (c_frost S1 B1) ?_
  intro w2 ⟨F2, v2⟩
  have D := S1.d
  have S2 : SC T w2 n (Ab.mk_ A1.E A1.C A1.wm (fun k => psN (A1.fz k) (A1.wm k) (A1.ps k)) (fun k => fzN (A1.fz k) (A1.wm k) (Int32.ofInt (dpz A1.E A1.C k))) (fun k => mxN (A1.gd k) (Int32.ofInt (dpz A1.E A1.C k))) A1.gn A1.g1 A1.g2 A1.g3 A1.g4 A1.hr A1.mo A1.st A1.og A1.oc A1.ig A1.ic) := ⟨F2.ws S1.ws, F2.ws S1.wt, CT.fx F2 S1.ct, F2.ec S1.e, F2.kc S1.k, ⟨fun k hk => (F2.I _ _ (Or.inl (by decide))).trans (D.wm k hk), fun k hk => (v2 k hk).1, fun k hk => (v2 k hk).2.2, fun k hk => (v2 k hk).2.1, (F2.I _ _ (Or.inl (by decide))).trans D.gn, fun i hi => (F2.A _ _).trans (D.g1 i hi), fun i hi => (F2.A _ _).trans (D.g2 i hi), fun i hi => (F2.A _ _).trans (D.g3 i hi), fun i hi => (F2.A _ _).trans (D.g4 i hi), (F2.I _ _ (Or.inl (by decide))).trans D.hr, (F2.I _ _ (Or.inl (by decide))).trans D.mo, (F2.J _ _ (Or.inl (by decide))).trans D.st, (F2.J _ _ (Or.inl (by decide))).trans D.og, (F2.J _ _ (Or.inl (by decide))).trans D.oc, (F2.J _ _ (Or.inl (by decide))).trans D.ig, (F2.J _ _ (Or.inl (by decide))).trans D.ic⟩⟩
  have B2 : AB n (Ab.mk_ A1.E A1.C A1.wm (fun k => psN (A1.fz k) (A1.wm k) (A1.ps k)) (fun k => fzN (A1.fz k) (A1.wm k) (Int32.ofInt (dpz A1.E A1.C k))) (fun k => mxN (A1.gd k) (Int32.ofInt (dpz A1.E A1.C k))) A1.gn A1.g1 A1.g2 A1.g3 A1.g4 A1.hr A1.mo A1.st A1.og A1.oc A1.ig A1.ic) := ⟨B1.e, B1.k, fun k hk => by
    show fzN _ _ _ = 0 ∨ fzN _ _ _ = 1
    have := B1.fz k hk
    unfold fzN
    repeat' split
    all_goals first | exact Or.inl rfl | exact Or.inr rfl | exact this, B1.gn, B1.g4, B1.hr, B1.mo⟩
  have cm := c_mould S2 B2
  dsimp only [En.cn_mk, En.X_mk, En.Y_mk, En.vp_mk, En.lq_mk, En.ld_mk, En.fo_mk, En.fi_mk, En.cl_mk, Ce.mt_mk, Ce.th_mk, Ce.lk_mk, Ce.hd_mk, Ab.E_mk, Ab.C_mk, Ab.wm_mk, Ab.ps_mk, Ab.fz_mk, Ab.gd_mk, Ab.gn_mk, Ab.g1_mk, Ab.g2_mk, Ab.g3_mk, Ab.g4_mk, Ab.hr_mk, Ab.mo_mk, Ab.st_mk, Ab.og_mk, Ab.oc_mk, Ab.ig_mk, Ab.ic_mk] at cm
  rw [cm]
  simp only [Option.bind_some, wp_some]
  have D2 := S2.d
  have h12 : x_I (x_sI w2 13 0 (moN A1.mo (ffu A1.g1 A1.g2 A1.g3 A1.g4 (Int32.ofInt (dpz A1.E A1.C (n - 1))) (A1.wm (n - 1)) A1.gn 0))) 12 0 = nI A1.hr := by rw [x_I_sI, if_neg (by omega)]; exact D2.hr
  rw [h12, nI_inc]
  have F3 : Fx 0 1 [12, 13] [] [] w2 (x_sI (x_sI w2 13 0 (moN A1.mo (ffu A1.g1 A1.g2 A1.g3 A1.g4 (Int32.ofInt (dpz A1.E A1.C (n - 1))) (A1.wm (n - 1)) A1.gn 0))) 12 0 (nI (A1.hr + 1))) := ((Fx.refl _ _ _ _ _ w2).sI (by decide) (by omega) (by omega)).sI (by decide) (by omega) (by omega)
  exact ⟨F3.ws S2.ws, F3.ws S2.wt, CT.fx F3 S2.ct, F3.ec S2.e, F3.kc S2.k, ⟨fun k hk => (F3.I _ _ (Or.inl (by decide))).trans (D2.wm k hk), fun k hk => (F3.I _ _ (Or.inl (by decide))).trans (D2.ps k hk), fun k hk => (F3.I _ _ (Or.inl (by decide))).trans (D2.fz k hk), fun k hk => (F3.I _ _ (Or.inl (by decide))).trans (D2.gd k hk), (F3.I _ _ (Or.inl (by decide))).trans D2.gn, D2.g1, D2.g2, D2.g3, D2.g4, by rw [x_I_sI, if_pos ⟨rfl, rfl⟩]; rfl, by rw [x_I_sI, if_neg (by omega), x_I_sI, if_pos ⟨rfl, rfl⟩]; rfl, D2.st, D2.og, D2.oc, D2.ig, D2.ic⟩⟩
theorem z_mod24 {h : Nat} (hh : h < 100000) : nI h - nI h / 24 * 24 = nI (h % 24) := by
  rw [show (24 : Int32) = Int32.ofInt 24 from rfl, z_nI, z_div (by omega) (by omega) (by omega) (by omega), z_mul, z_sub, z_nI]
  congr 1
  rw [Int.tdiv_eq_ediv_of_nonneg (by omega)]
  omega
theorem r_pass (R : SR T w n A) (B : AB n A) (hr : A.hr < 10000) (h64 : x_I w 64 0 = 0) : wp ((f_Mod_hour T w 0 ((x_I w 96 0) - (x_I w 96 0) / (24 : Int32) * (24 : Int32))).bind fun q8 => (f_Mod_frostAndMould T q8 0).bind fun q10 => some (x_sI q10 96 0 ((x_I q10 96 0) + (1 : Int32)))) (fun w' => SR T w' n (froA n (midA n A (A.hr % 24))) ∧ x_I w' 64 0 = 0) := by
  have hh : A.hr % 24 < 24 := Nat.mod_lt _ (by omega)
  rw [R.d.hr, z_mod24 (by omega), wp_bind]
  refine wp_mono (r_mid R B hh) ?_
  intro w1 ⟨R1, X1⟩
  have B1 := ab_mid B hh
  have m64 : x_I w1 64 0 = 0 := (X1.I _ _ (by decide)).trans h64
  generalize midA n A (A.hr % 24) = A1 at R1 B1 ⊢
  rw [wp_bind]
  refine wp_mono (r_frost R1 B1) ?_
  intro w2 ⟨F2, v2, m2⟩
  have D := R1.d
  have h96 : x_I w2 96 0 = nI A1.hr := (F2.I _ _ (by decide)).trans D.hr
  rw [wp_some, h96, nI_inc]
  have X : Gx [96, 97] [] [12, 13, 14] [] w1 (x_sI w2 96 0 (nI (A1.hr + 1))) := (F2.mono (by decide) (by decide) (by decide) (by decide)).sI (by decide)
  refine ⟨⟨X.er R1.e, X.kr R1.k, ⟨fun k hk => (X.A _ _ (by decide)).trans (D.wm k hk), fun k hk => (v2 k hk).1, fun k hk => (v2 k hk).2.2, fun k hk => (v2 k hk).2.1, (X.I _ _ (by decide)).trans D.gn, fun i hi => (X.A _ _ (by decide)).trans (D.g1 i hi), fun i hi => (X.A _ _ (by decide)).trans (D.g2 i hi), fun i hi => (X.A _ _ (by decide)).trans (D.g3 i hi), fun i hi => (X.A _ _ (by decide)).trans (D.g4 i hi), by rw [x_I_sI, if_pos ⟨rfl, rfl⟩]; rfl, by rw [x_I_sI, if_neg (by omega), m2]; rfl, (X.J _ _ (by decide)).trans D.st, (X.J _ _ (by decide)).trans D.og, (X.J _ _ (by decide)).trans D.oc, (X.J _ _ (by decide)).trans D.ig, (X.J _ _ (by decide)).trans D.ic⟩⟩, (X.I _ _ (by decide)).trans m64⟩
/-- hours one after another -/
def runA (n : Nat) : Nat → Ab → Ab
  | 0, A => A
  | m + 1, A => runA n m (froA n (midA n A (A.hr % 24)))
theorem runA_ok : ∀ m (A : Ab), AB n A → A.hr + m ≤ 10000 → AB n (runA n m A) ∧ (runA n m A).hr = A.hr + m := by
  intro m
  induction m with
  | zero => intro A B _; exact ⟨B, rfl⟩
  | succ m ih =>
    intro A B h
    have hh : A.hr % 24 < 24 := Nat.mod_lt _ (by omega)
    have e := ih (froA n (midA n A (A.hr % 24))) (ab_fro (ab_mid B hh) (by show A.hr < 10000; omega)) (by show A.hr + 1 + m ≤ 10000; omega)
    exact ⟨e.1, e.2.trans (by show A.hr + 1 + m = A.hr + (m + 1); omega)⟩
theorem c_run (t : Nat) (ht : t ≤ 240) : ∀ m i fuel (A : Ab) (w : x_W), i + m = t → m < fuel → AB n A → A.hr + m ≤ 10000 → SC T w n A → wp (f_WD_run_32 T fuel w 0 (nI t) (nI i)) (fun r => ∃ w', r = .ok (nI (A.hr + m), w') ∧ SC T w' n (runA n m A)) := by
  intro m
  induction m with
  | zero =>
    intro i fuel A w hi hf B hr S
    obtain ⟨fuel, rfl⟩ : ∃ q, fuel = q + 1 := ⟨fuel - 1, by omega⟩
    rw [f_WD_run_32, if_pos (by rw [nI_leS (by omega) (by omega)]; omega), t_is S.ct.t0, Option.bind_some, wp_some]
    exact ⟨w, by rw [S.d.hr]; rfl, S⟩
  | succ m ih =>
    intro i fuel A w hi hf B hr S
    obtain ⟨fuel, rfl⟩ : ∃ q, fuel = q + 1 := ⟨fuel - 1, by omega⟩
    have hh : A.hr % 24 < 24 := Nat.mod_lt _ (by omega)
    rw [f_WD_run_32, if_neg (by rw [nI_leS (by omega) (by omega)]; omega), t_is S.ct.t0, Option.bind_some, wp_bind]
    refine wp_mono (c_pass S B (by omega)) ?_
    intro w1 S1
    rw [nI_inc]
    refine wp_mono (ih (i + 1) fuel _ w1 (by omega) (by omega) (ab_fro (ab_mid B hh) (by show A.hr < 10000; omega)) (by show A.hr + 1 + m ≤ 10000; omega) S1) ?_
    intro r ⟨w', e, S'⟩
    refine ⟨w', e.trans ?_, S'⟩
    show Except.ok (nI (A.hr + 1 + m), w') = _
    rw [show A.hr + 1 + m = A.hr + (m + 1) by omega]
theorem r_run (t : Nat) (ht : t ≤ 240) : ∀ m i fuel (A : Ab) (w : x_W), i + m = t → m < fuel → AB n A → A.hr + m ≤ 10000 → SR T w n A → x_I w 64 0 = 0 → wp (f_Mod_run_48 T fuel w 0 (nI t) (nI i)) (fun r => r.1 = nI (A.hr + m) ∧ SR T r.2 n (runA n m A) ∧ x_I r.2 64 0 = 0) := by
  intro m
  induction m with
  | zero =>
    intro i fuel A w hi hf B hr S h64
    obtain ⟨fuel, rfl⟩ : ∃ q, fuel = q + 1 := ⟨fuel - 1, by omega⟩
    rw [f_Mod_run_48, if_pos (by rw [nI_leS (by omega) (by omega)]; omega), S.e.r.i, Option.bind_some, wp_some]
    exact ⟨S.d.hr, S, h64⟩
  | succ m ih =>
    intro i fuel A w hi hf B hr S h64
    obtain ⟨fuel, rfl⟩ : ∃ q, fuel = q + 1 := ⟨fuel - 1, by omega⟩
    have hh : A.hr % 24 < 24 := Nat.mod_lt _ (by omega)
    have key := r_pass S B (by omega) h64
    rw [wp_bind] at key
    rw [f_Mod_run_48, if_neg (by rw [nI_leS (by omega) (by omega)]; omega), S.e.r.i, Option.bind_some, wp_bind]
    refine wp_mono key ?_
    intro w1 k1
    rw [wp_bind] at k1 ⊢
    refine wp_mono k1 ?_
    intro w2 k2
    rw [wp_some] at k2
    rw [Option.bind_some, nI_inc]
    refine wp_mono (ih (i + 1) fuel _ _ (by omega) (by omega) (ab_fro (ab_mid B hh) (by show A.hr < 10000; omega)) (by show A.hr + 1 + m ≤ 10000; omega) k2.1 k2.2) ?_
    intro r ⟨e, S', h'⟩
    refine ⟨e.trans ?_, S', h'⟩
    show nI (A.hr + 1 + m) = _
    rw [show A.hr + 1 + m = A.hr + (m + 1) by omega]
theorem step_run : x_step11 T1 T2 0 (62 + 6 * n) 0 (Sim T1 T2 n) := by
  intro w1 w2 p1 ⟨A, B, S, R⟩
  have hR := R.e.r
  have hr := B.hr
  by_cases h1 : 1 ≤ p1.toInt ∧ p1.toInt ≤ 240
  · obtain ⟨t, em, hk, hk2⟩ := z_isN (p := p1) (m := 240) (by omega)
    have esum : nI A.hr + nI t = nI (A.hr + t) := nI_addS _ _
    by_cases h2 : A.hr + t ≤ 10000
    · obtain ⟨ra, e1, wa, e2, Sa⟩ := c_run (T := T1) (n := n) t (by omega) t 0 1000 A w1 (by omega) (by omega) B h2 S
      obtain ⟨rb, e3, e4, Sb, h64⟩ := r_run (T := T2) (n := n) t (by omega) t 0 1000 A (x_sI w2 64 0 0) (by omega) (by omega) B h2 (R.th 0) (th64 _ _)
      subst e2
      obtain ⟨rb1, rb2⟩ := rb
      dsimp only [En.cn_mk, En.X_mk, En.Y_mk, En.vp_mk, En.lq_mk, En.ld_mk, En.fo_mk, En.fi_mk, En.cl_mk, Ce.mt_mk, Ce.th_mk, Ce.lk_mk, Ce.hd_mk, Ab.E_mk, Ab.C_mk, Ab.wm_mk, Ab.ps_mk, Ab.fz_mk, Ab.gd_mk, Ab.gn_mk, Ab.g1_mk, Ab.g2_mk, Ab.g3_mk, Ab.g4_mk, Ab.hr_mk, Ab.mo_mk, Ab.st_mk, Ab.og_mk, Ab.oc_mk, Ab.ig_mk, Ab.ic_mk] at e4 Sb h64
      subst e4
      have le : nI (A.hr + t) ≤ 10000 := by rw [show (10000 : Int32) = nI 10000 from rfl, nI_leS (by omega) (by omega)]; exact h2
      refine ok_a rfl (runA_ok t A B h2).1 Sa Sb (nI (A.hr + t)) h64 ?_ ?_
      · simp only [q_within, q_in, l0, l1, l5, l23, l48, l240, l1000, l5000, lm5000, l10000, l100000, l1000000, L0, L1, L5, L23, L48, L240, L1000, L5000, Lm5000, L10000, L100000, L1000000, Int32.toInt_toInt64, Option.bind_some, f_Law_run, f_WD_run, t_is S.ct.t0, x_ec, x_cc, if_pos h1, S.d.hr]
        rw [em, esum, if_pos le]
        show ((f_WD_run_32 T1 1000 w1 0 (nI t) (nI 0)).bind _) = _
        rw [e1]
        simp only [q_within, q_in, l0, l1, l5, l23, l48, l240, l1000, l5000, lm5000, l10000, l100000, l1000000, L0, L1, L5, L23, L48, L240, L1000, L5000, Lm5000, L10000, L100000, L1000000, Int32.toInt_toInt64, Option.bind_some, out_ix S.ct]
        rfl
      · simp only [q_within, q_in, l0, l1, l5, l23, l48, l240, l1000, l5000, lm5000, l10000, l100000, l1000000, L0, L1, L5, L23, L48, L240, L1000, L5000, Lm5000, L10000, L100000, L1000000, Int32.toInt_toInt64, Option.bind_some, f_Mod_run, f_Mod_run_34, if_pos h1, one_ne, if_false, hR.i, R.d.hr, th64, zer_le, if_true]
        rw [em, esum, if_pos le]
        exact e3
    · have le : ¬ nI (A.hr + t) ≤ 10000 := by rw [show (10000 : Int32) = nI 10000 from rfl, nI_leS (by omega) (by omega)]; exact h2
      refine fail_a B S R 2 (by decide) ?_ ?_
      · simp only [q_within, q_in, l0, l1, l5, l23, l48, l240, l1000, l5000, lm5000, l10000, l100000, l1000000, L0, L1, L5, L23, L48, L240, L1000, L5000, Lm5000, L10000, L100000, L1000000, Int32.toInt_toInt64, Option.bind_some, f_Law_run, f_WD_run, t_is S.ct.t0, x_ec, x_cc, if_pos h1, S.d.hr]
        rw [em, esum, if_neg le]
        rfl
      · simp only [q_within, q_in, l0, l1, l5, l23, l48, l240, l1000, l5000, lm5000, l10000, l100000, l1000000, L0, L1, L5, L23, L48, L240, L1000, L5000, Lm5000, L10000, L100000, L1000000, Int32.toInt_toInt64, Option.bind_some, f_Mod_run, f_Mod_run_34, if_pos h1, one_ne, if_false, hR.i, R.d.hr, th64, two_le]
        rw [em, esum, if_neg le]
  · refine fail_a B S R 1 (by decide) ?_ ?_
    · simp only [q_within, q_in, l0, l1, l5, l23, l48, l240, l1000, l5000, lm5000, l10000, l100000, l1000000, L0, L1, L5, L23, L48, L240, L1000, L5000, Lm5000, L10000, L100000, L1000000, Int32.toInt_toInt64, Option.bind_some, f_Law_run, f_WD_run, t_is S.ct.t0, x_ec, x_cc, if_neg h1, if_true]
    · simp only [q_within, q_in, l0, l1, l5, l23, l48, l240, l1000, l5000, lm5000, l10000, l100000, l1000000, L0, L1, L5, L23, L48, L240, L1000, L5000, Lm5000, L10000, L100000, L1000000, Int32.toInt_toInt64, Option.bind_some, f_Mod_run, f_Mod_run_34, if_neg h1, one_le, zer_eq, if_false, if_true, hR.i, th64]
end RUN
