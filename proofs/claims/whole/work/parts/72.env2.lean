/-! STEPS: films, climate, corners -/
def uc (f : Nat → Nat → Int) (a b : Nat) (v : Int) : Nat → Nat → Int := fun i j => if i = a ∧ j = b then v else f i j
theorem uc_s (f : Nat → Nat → Int) (a b : Nat) (v : Int) : uc f a b v a b = v := if_pos ⟨rfl, rfl⟩
theorem uc_o (f : Nat → Nat → Int) {a b i j : Nat} (v : Int) (h : ¬ (i = a ∧ j = b)) : uc f a b v i j = f i j := if_neg h
section ENW
variable {T T1 T2 : x_T} {w w' : x_W} {n : Nat} {A : Ab} {E : En}
theorem EC_cl (G : EC T w E) {j m : Nat} (hj : j < 6) (v : Int32) : EC T (x_sA w (30 + j) m v) { E with cl := uc E.cl j m v.toInt } := by
  refine ⟨G.m, G.c, fun c hc i hi => ?_, G.s, G.r43, G.r44, G.r45, G.r46, G.r47, G.r48, G.r49, G.a, fun i h hi hh => ?_, G.o, G.i⟩
  · rw [x_A_sA, x_A_sA, if_neg (by omega), if_neg (by omega)]; exact G.x c hc i hi
  · rw [x_A_sA]
    dsimp only
    by_cases e : i = j ∧ h = m
    · obtain ⟨rfl, rfl⟩ := e
      rw [if_pos ⟨rfl, rfl⟩, uc_s, z_o]
    · rw [if_neg (by omega), uc_o _ _ e]; exact G.v i h hi hh
theorem ER_cl (G : ER T w E n) {j m : Nat} (hj : j < 6) (v : Int32) : ER T (x_sA w (17 + j) m v) { E with cl := uc E.cl j m v.toInt } n := by
  refine ⟨G.r, G.n, fun i hi => ?_, fun i hi k hk => ?_, G.tn, fun k hk => ?_, fun i hi => ?_, G.o, G.i, fun i h hi hh => ?_⟩
  · rw [x_A_sA, if_neg (by omega)]; exact G.cn i hi
  · rw [x_A_sA, x_A_sA, if_neg (by omega), if_neg (by omega)]; exact G.x i hi k hk
  · rw [x_A_sA, x_A_sA, if_neg (by omega), if_neg (by omega)]; exact G.tx k hk
  · rw [x_A_sA, x_A_sA, x_A_sA, if_neg (by omega), if_neg (by omega), if_neg (by omega)]; exact G.rt i hi
  · rw [x_A_sA]
    dsimp only
    by_cases e : i = j ∧ h = m
    · obtain ⟨rfl, rfl⟩ := e
      rw [if_pos ⟨rfl, rfl⟩, uc_s, z_o]
    · rw [if_neg (by omega), uc_o _ _ e]; exact G.v i h hi hh
theorem ER_th (G : ER T w E n) (v : Int32) : ER T (x_sI w 64 0 v) E n := (((Gx.refl [64] [] [] [] w).sI (by decide)) : Gx [64] [] [] [] w (x_sI w 64 0 v)).er G
theorem step_films : x_step5 T1 T2 0 (62 + 6 * n) 0 (Sim T1 T2 n) := by
  intro w1 w2 p1 p2 ⟨A, B, S, R⟩
  have hR := R.e.r
  have G := S.e
  by_cases h1 : 0 ≤ p1.toInt ∧ p1.toInt ≤ 1000
  · by_cases h2 : 0 ≤ p2.toInt ∧ p2.toInt ≤ 1000
    · refine ⟨(0, x_sI (x_sI w1 50 26 p1) 51 26 p2), x_sI (x_sI (x_sI w2 64 0 0) 83 0 p1) 84 0 p2, ?_, ?_, thr R _ _ (by simp), { A with E := { A.E with fo := p1.toInt, fi := p2.toInt } }, ?_, ?_, ?_⟩
      · ck [f_Law_films, f_WD_films, t_is S.ct.t0, x_ec, x_cc, if_pos h1, if_pos h2, S.ct.r8, t_is G.s, x_R_sI]
      · ck [f_Mod_films, f_Mod_films_30, f_Mod_films_50, if_pos h1, if_pos h2, one_ne, if_false, hR.i, th64, if_true]
      · exact ab_env B ⟨B.e.cor, B.e.tab, B.e.rt, by dsimp only; omega, B.e.c0, B.e.c1, B.e.c2, B.e.c3, B.e.c4, B.e.c5⟩ (fun _ _ => Int.le_refl _)
      · refine S.env (fun k h _ _ _ _ a b => by simp [a, b]) (fun _ _ => rfl) (fun _ _ => rfl) (fun _ _ => rfl) (fun _ _ _ => rfl) ⟨fun i hi => ?_, fun c hc => ?_, G.x, G.s, G.r43, G.r44, G.r45, G.r46, G.r47, G.r48, G.r49, G.a, G.v, ?_, ?_⟩
        · simpa using G.m i hi
        · simpa using G.c c hc
        · simp [z_o]
        · simp [z_o]
      · have X : Gx [64, 83, 84] [] [] [] w2 (x_sI (x_sI (x_sI w2 64 0 0) 83 0 p1) 84 0 p2) := (((Gx.refl _ _ _ _ w2).sI (by decide)).sI (by decide)).sI (by decide)
        have G2 := R.e
        exact R.env X (by decide) (by decide) ⟨hR, (X.I _ _ (by decide)).trans G2.n, G2.cn, G2.x, (X.I _ _ (by decide)).trans G2.tn, G2.tx, G2.rt, by simp [z_o], by simp [z_o], G2.v⟩
    · refine fail_v (O := 0) B S R 1 ?_ ?_
      · ck [f_Law_films, f_WD_films, t_is S.ct.t0, x_ec, x_cc, if_pos h1, if_neg h2, if_true]
      · ck [f_Mod_films, f_Mod_films_29, f_Mod_films_30, f_Mod_films_50, if_pos h1, if_neg h2, one_ne, zer_eq, if_false, if_true, hR.i, th64]
  · refine fail_v (O := 0) B S R 1 ?_ ?_
    · ck [f_Law_films, f_WD_films, t_is S.ct.t0, x_ec, x_cc, if_neg h1, if_true]
    · ck [f_Mod_films, f_Mod_films_29, f_Mod_films_30, f_Mod_films_50, if_neg h1, one_ne, zer_eq, if_false, if_true, hR.i, th64]
theorem cl_b {E : En} {j m : Nat} {v : Int} {P : Int → Prop} {i : Nat} (h : Nat) (h0 : P (E.cl i h)) (hv : i = j → P v) : P (uc E.cl j m v i h) := by
  unfold uc
  by_cases e : i = j ∧ h = m
  · rw [if_pos e]; exact hv e.1
  · rw [if_neg e]; exact h0
theorem EB_cl (B : EB E) {j m : Nat} {v : Int} (h0 : j = 0 → -5000 ≤ v ∧ v ≤ 5000) (h1 : j = 1 → 0 ≤ v ∧ v ≤ 10000) (h2 : j = 2 → 0 ≤ v ∧ v ≤ 1000) (h3 : j = 3 → 0 ≤ v ∧ v ≤ 1000) (h4 : j = 4 → -5000 ≤ v ∧ v ≤ 5000) (h5 : j = 5 → 0 ≤ v ∧ v ≤ 10000) : EB { E with cl := uc E.cl j m v } :=
  ⟨B.cor, B.tab, B.rt, B.fm, fun h hh => cl_b (P := fun z => -5000 ≤ z ∧ z ≤ 5000) h (B.c0 h hh) (fun e => h0 e.symm), fun h hh => cl_b (P := fun z => 0 ≤ z ∧ z ≤ 10000) h (B.c1 h hh) (fun e => h1 e.symm), fun h hh => cl_b (P := fun z => 0 ≤ z ∧ z ≤ 1000) h (B.c2 h hh) (fun e => h2 e.symm), fun h hh => cl_b (P := fun z => 0 ≤ z ∧ z ≤ 1000) h (B.c3 h hh) (fun e => h3 e.symm), fun h hh => cl_b (P := fun z => -5000 ≤ z ∧ z ≤ 5000) h (B.c4 h hh) (fun e => h4 e.symm), fun h hh => cl_b (P := fun z => 0 ≤ z ∧ z ≤ 10000) h (B.c5 h hh) (fun e => h5 e.symm)⟩
theorem step_inside : x_step7 T1 T2 0 (62 + 6 * n) 0 (Sim T1 T2 n) := by
  intro w1 w2 p1 p2 p3 ⟨A, B, S, R⟩
  have hR := R.e.r
  have G := S.e
  by_cases h1 : 0 ≤ p1.toInt ∧ p1.toInt ≤ 23
  · by_cases h2 : -5000 ≤ p2.toInt ∧ p2.toInt ≤ 5000
    · by_cases h3 : 0 ≤ p3.toInt ∧ p3.toInt ≤ 10000
      · obtain ⟨m, em, hm, hm2⟩ := z_isN h1
        have hm24 : m < 24 := by omega
        have h1' : 0 ≤ (nI m).toInt ∧ (nI m).toInt ≤ 23 := em ▸ h1
        refine ⟨(0, x_sA (x_sA w1 34 m p2) 35 m p3), x_sA (x_sA (x_sI w2 64 0 0) 21 m p2) 22 m p3, ?_, ?_, thr R _ _ (by simp), { A with E := { A.E with cl := uc (uc A.E.cl 4 m p2.toInt) 5 m p3.toInt } }, ?_, ?_, ?_⟩
        · ck [f_Law_inside, f_WD_inside, f_WD_requireAir, t_is S.ct.t0, x_ec, x_cc, if_pos h1', if_pos h2, if_pos h3, S.ct.r8, t_is G.s, x_R_sA, G.r48, G.r49, em, t_ixn (G.a 4 (by omega)) hm24 (by omega), t_ixn (G.a 5 (by omega)) hm24 (by omega), nI_clampS (show m < 100000 by omega)]
        · ck [f_Mod_inside, f_Mod_inside_44, f_Mod_inside_68, if_pos h1, if_pos h2, if_pos h3, one_ne, if_false, hR.i, th64, if_true]
          rq hR
          simp only [em, t_ixn hR.a21 hm24 (by omega), t_ixn hR.a22 hm24 (by omega), Option.bind_some, nI_clampS (show m < 100000 by omega)]
        · exact ab_env B (EB_cl (E := { A.E with cl := uc A.E.cl 4 m p2.toInt }) (EB_cl B.e (by omega) (by omega) (by omega) (by omega) (fun _ => h2) (by omega)) (by omega) (by omega) (by omega) (by omega) (by omega) (fun _ => h3)) (fun _ _ => Int.le_refl _)
        · exact S.env (fun _ _ _ _ _ _ _ _ => rfl) (fun _ _ => rfl) (fun _ _ => rfl) (fun _ _ => rfl) (fun i j hi => by rw [x_A_sA, if_neg (by omega), x_A_sA, if_neg (by omega)]) (EC_cl (j := 5) (EC_cl (j := 4) G (by omega) p2) (by omega) p3)
        · have X : Gx [64] [] [21, 22] [] w2 (x_sA (x_sA (x_sI w2 64 0 0) 21 m p2) 22 m p3) := (((Gx.refl _ _ _ _ w2).sI (by decide)).sA (by decide)).sA (by decide)
          exact R.env X (by decide) (by decide) (ER_cl (j := 5) (ER_cl (j := 4) (ER_th R.e 0) (by omega) p2) (by omega) p3)
      · refine fail_v (O := 0) B S R 1 ?_ ?_
        · ck [f_Law_inside, f_WD_inside, f_WD_requireAir, t_is S.ct.t0, x_ec, x_cc, if_pos h1, if_pos h2, if_neg h3, if_true]
        · ck [f_Mod_inside, f_Mod_inside_43, f_Mod_inside_44, f_Mod_inside_68, if_pos h1, if_pos h2, if_neg h3, one_ne, zer_eq, if_false, if_true, hR.i, th64]
    · refine fail_v (O := 0) B S R 1 ?_ ?_
      · ck [f_Law_inside, f_WD_inside, f_WD_requireAir, t_is S.ct.t0, x_ec, x_cc, if_pos h1, if_neg h2, if_true]
      · ck [f_Mod_inside, f_Mod_inside_43, f_Mod_inside_44, f_Mod_inside_68, if_pos h1, if_neg h2, one_ne, zer_eq, if_false, if_true, hR.i, th64]
  · refine fail_v (O := 0) B S R 1 ?_ ?_
    · ck [f_Law_inside, f_WD_inside, f_WD_requireAir, t_is S.ct.t0, x_ec, x_cc, if_neg h1, if_true]
    · ck [f_Mod_inside, f_Mod_inside_43, f_Mod_inside_44, f_Mod_inside_68, if_neg h1, one_ne, zer_eq, if_false, if_true, hR.i, th64]
theorem step_outside : x_step6 T1 T2 0 (62 + 6 * n) 0 (Sim T1 T2 n) := by
  intro w1 w2 p1 p2 p3 p4 p5 ⟨A, B, S, R⟩
  have hR := R.e.r
  have G := S.e
  by_cases h1 : 0 ≤ p1.toInt ∧ p1.toInt ≤ 23
  · by_cases h2 : -5000 ≤ p2.toInt ∧ p2.toInt ≤ 5000
    · by_cases h3 : 0 ≤ p3.toInt ∧ p3.toInt ≤ 10000
      · by_cases h4 : 0 ≤ p4.toInt ∧ p4.toInt ≤ 1000
        · by_cases h5 : 0 ≤ p5.toInt ∧ p5.toInt ≤ 1000
          · obtain ⟨m, em, hm, hm2⟩ := z_isN h1
            have hm24 : m < 24 := by omega
            have h1' : 0 ≤ (nI m).toInt ∧ (nI m).toInt ≤ 23 := em ▸ h1
            refine ⟨(0, x_sA (x_sA (x_sA (x_sA w1 30 m p2) 31 m p3) 32 m p4) 33 m p5), x_sA (x_sA (x_sA (x_sA (x_sI w2 64 0 0) 17 m p2) 18 m p3) 19 m p4) 20 m p5, ?_, ?_, thr R _ _ (by simp), { A with E := { A.E with cl := uc (uc (uc (uc A.E.cl 0 m p2.toInt) 1 m p3.toInt) 2 m p4.toInt) 3 m p5.toInt } }, ?_, ?_, ?_⟩
            · ck [f_Law_outside, f_WD_outside, f_WD_requireAir, t_is S.ct.t0, x_ec, x_cc, if_pos h1', if_pos h2, if_pos h3, if_pos h4, if_pos h5, S.ct.r8, t_is G.s, x_R_sA, G.r44, G.r45, G.r46, G.r47, em, t_ixn (G.a 0 (by omega)) hm24 (by omega), t_ixn (G.a 1 (by omega)) hm24 (by omega), t_ixn (G.a 2 (by omega)) hm24 (by omega), t_ixn (G.a 3 (by omega)) hm24 (by omega), nI_clampS (show m < 100000 by omega)]
            · ck [f_Mod_outside, f_Mod_outside_70, f_Mod_outside_110, if_pos h1, if_pos h2, if_pos h3, if_pos h4, if_pos h5, one_ne, if_false, hR.i, th64, if_true]
              rq hR
              simp only [em, t_ixn hR.a17 hm24 (by omega), t_ixn hR.a18 hm24 (by omega), t_ixn hR.a19 hm24 (by omega), t_ixn hR.a20 hm24 (by omega), Option.bind_some, nI_clampS (show m < 100000 by omega)]
            · exact ab_env B (EB_cl (E := { A.E with cl := uc (uc (uc A.E.cl 0 m p2.toInt) 1 m p3.toInt) 2 m p4.toInt }) (EB_cl (E := { A.E with cl := uc (uc A.E.cl 0 m p2.toInt) 1 m p3.toInt }) (EB_cl (E := { A.E with cl := uc A.E.cl 0 m p2.toInt }) (EB_cl B.e (fun _ => h2) (by omega) (by omega) (by omega) (by omega) (by omega)) (by omega) (fun _ => h3) (by omega) (by omega) (by omega) (by omega)) (by omega) (by omega) (fun _ => h4) (by omega) (by omega) (by omega)) (by omega) (by omega) (by omega) (fun _ => h5) (by omega) (by omega)) (fun _ _ => Int.le_refl _)
            · exact S.env (fun _ _ _ _ _ _ _ _ => rfl) (fun _ _ => rfl) (fun _ _ => rfl) (fun _ _ => rfl) (fun i j hi => by rw [x_A_sA, if_neg (by omega), x_A_sA, if_neg (by omega), x_A_sA, if_neg (by omega), x_A_sA, if_neg (by omega)]) (EC_cl (j := 3) (EC_cl (j := 2) (EC_cl (j := 1) (EC_cl (j := 0) G (by omega) p2) (by omega) p3) (by omega) p4) (by omega) p5)
            · have X : Gx [64] [] [17, 18, 19, 20] [] w2 (x_sA (x_sA (x_sA (x_sA (x_sI w2 64 0 0) 17 m p2) 18 m p3) 19 m p4) 20 m p5) := (((((Gx.refl _ _ _ _ w2).sI (by decide)).sA (by decide)).sA (by decide)).sA (by decide)).sA (by decide)
              exact R.env X (by decide) (by decide) (ER_cl (j := 3) (ER_cl (j := 2) (ER_cl (j := 1) (ER_cl (j := 0) (ER_th R.e 0) (by omega) p2) (by omega) p3) (by omega) p4) (by omega) p5)
          · refine fail_v (O := 0) B S R 1 ?_ ?_
            · ck [f_Law_outside, f_WD_outside, f_WD_requireAir, t_is S.ct.t0, x_ec, x_cc, if_pos h1, if_pos h2, if_pos h3, if_pos h4, if_neg h5, if_true]
            · ck [f_Mod_outside, f_Mod_outside_69, f_Mod_outside_70, f_Mod_outside_110, if_pos h1, if_pos h2, if_pos h3, if_pos h4, if_neg h5, one_ne, zer_eq, if_false, if_true, hR.i, th64]
        · refine fail_v (O := 0) B S R 1 ?_ ?_
          · ck [f_Law_outside, f_WD_outside, f_WD_requireAir, t_is S.ct.t0, x_ec, x_cc, if_pos h1, if_pos h2, if_pos h3, if_neg h4, if_true]
          · ck [f_Mod_outside, f_Mod_outside_69, f_Mod_outside_70, f_Mod_outside_110, if_pos h1, if_pos h2, if_pos h3, if_neg h4, one_ne, zer_eq, if_false, if_true, hR.i, th64]
      · refine fail_v (O := 0) B S R 1 ?_ ?_
        · ck [f_Law_outside, f_WD_outside, f_WD_requireAir, t_is S.ct.t0, x_ec, x_cc, if_pos h1, if_pos h2, if_neg h3, if_true]
        · ck [f_Mod_outside, f_Mod_outside_69, f_Mod_outside_70, f_Mod_outside_110, if_pos h1, if_pos h2, if_neg h3, one_ne, zer_eq, if_false, if_true, hR.i, th64]
    · refine fail_v (O := 0) B S R 1 ?_ ?_
      · ck [f_Law_outside, f_WD_outside, f_WD_requireAir, t_is S.ct.t0, x_ec, x_cc, if_pos h1, if_neg h2, if_true]
      · ck [f_Mod_outside, f_Mod_outside_69, f_Mod_outside_70, f_Mod_outside_110, if_pos h1, if_neg h2, one_ne, zer_eq, if_false, if_true, hR.i, th64]
  · refine fail_v (O := 0) B S R 1 ?_ ?_
    · ck [f_Law_outside, f_WD_outside, f_WD_requireAir, t_is S.ct.t0, x_ec, x_cc, if_neg h1, if_true]
    · ck [f_Mod_outside, f_Mod_outside_69, f_Mod_outside_70, f_Mod_outside_110, if_neg h1, one_ne, zer_eq, if_false, if_true, hR.i, th64]
theorem step_full : x_step4 T1 T2 0 (62 + 6 * n) 0 (Sim T1 T2 n) := by
  intro w1 w2 p1 ⟨A, B, S, R⟩
  have hR := R.e.r
  have G := S.e
  by_cases h1 : -5000 ≤ p1.toInt ∧ p1.toInt ≤ 10000
  · have e1 : f_Corners_heightAt T1 w1 27 p1 = some (Int32.ofInt (fu A.E p1.toInt)) := h_class (G.cc (c := 6) (by omega)) B.e.tab (by omega) p1
    have e2 : f_Mod_fullAt T2 (x_sI w2 64 0 0) 0 p1 = some (Int32.ofInt (fu A.E p1.toInt)) := by
      have := r_full B.e (ER_th R.e 0) (x := p1.toInt) (by have := z_r p1; omega)
      rwa [z_o] at this
    refine ⟨(0, x_sB w1 (62 + 6 * n) 0 (Int32.ofInt (fu A.E p1.toInt)).toInt64), (Int32.ofInt (fu A.E p1.toInt), x_sI w2 64 0 0), ?_, ?_, thr R _ _ (by simp), fun _ => ?_, A, B, S.out _ _ _, R.th 0⟩
    · ck [f_Law_full, f_WD_full, t_is S.ct.t0, x_ec, x_cc, if_pos h1, S.ct.r8, t_is G.s, G.r43, t_is (G.c 6 (by omega)).1, e1]
      rw [show (0 : Int32) = nI 0 from rfl, t_ixn S.ct.to (by omega) (by omega)]
      rfl
    · ck [f_Mod_full, f_Mod_full_20, f_Mod_full_39, if_pos h1, one_ne, if_false, hR.i, th64, zer_le, if_true, e2]
    · show x_B (x_sB w1 (62 + 6 * n) 0 _) (62 + 6 * n) 0 = _
      simp
  · refine fail_a B S R 1 (by decide) ?_ ?_
    · ck [f_Law_full, f_WD_full, t_is S.ct.t0, x_ec, x_cc, if_neg h1, if_true]
    · ck [f_Mod_full, f_Mod_full_20, f_Mod_full_39, if_neg h1, one_le, zer_eq, if_false, if_true, hR.i, th64]
end ENW
