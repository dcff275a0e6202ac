/-! STEPS: what is told of the environment -/
def ud {α : Type} (f : Nat → α) (i : Nat) (v : α) : Nat → α := fun j => if j = i then v else f j
theorem ud_s {α : Type} (f : Nat → α) (i : Nat) (v : α) : ud f i v i = v := if_pos rfl
theorem ud_o {α : Type} (f : Nat → α) {i j : Nat} (v : α) (h : j ≠ i) : ud f i v j = f j := if_neg h
section ENV
variable {T T1 T2 : x_T} {w w' : x_W} {n : Nat} {A : Ab} {E' : En}
theorem SC.env (S : SC T w n A) (hI : ∀ k h, k ≠ 28 → k ≠ 35 → k ≠ 36 → k ≠ 37 → k ≠ 50 → k ≠ 51 → x_I w' k h = x_I w k h) (hJ : ∀ k h, x_J w' k h = x_J w k h) (hR : ∀ k h, x_R w' k h = x_R w k h) (hQ : ∀ i j, x_Q w' i j = x_Q w i j) (hA : ∀ i j, 36 ≤ i → x_A w' i j = x_A w i j) (e : EC T w' E') : SC T w' n { A with E := E' } := by
  have D := S.d
  have i : ∀ k h, k ≠ 28 ∧ k ≠ 35 ∧ k ≠ 36 ∧ k ≠ 37 ∧ k ≠ 50 ∧ k ≠ 51 → x_I w' k h = x_I w k h := fun k h q => hI k h q.1 q.2.1 q.2.2.1 q.2.2.2.1 q.2.2.2.2.1 q.2.2.2.2.2
  refine ⟨S.ws.of (fun k h _ _ _ => hR k h) hQ, S.wt.of (fun k h _ _ _ => hR k h) hQ, S.ct.of (fun k h _ _ _ => hR k h) hQ, e, ⟨fun k hk => by rw [hR]; exact S.k.mt k hk, fun k hk => by rw [i _ _ (by decide)]; exact S.k.th k hk, fun k hk => by rw [i _ _ (by decide)]; exact S.k.lk k hk, fun k hk => by rw [i _ _ (by decide)]; exact S.k.hd k hk⟩, ?_⟩
  exact ⟨fun k hk => by rw [i _ _ (by decide)]; exact D.wm k hk, fun k hk => by rw [i _ _ (by decide)]; exact D.ps k hk, fun k hk => by rw [i _ _ (by decide)]; exact D.fz k hk, fun k hk => by rw [i _ _ (by decide)]; exact D.gd k hk, by rw [i _ _ (by decide)]; exact D.gn, fun i hi => by rw [hA _ _ (by decide)]; exact D.g1 i hi, fun i hi => by rw [hA _ _ (by decide)]; exact D.g2 i hi, fun i hi => by rw [hA _ _ (by decide)]; exact D.g3 i hi, fun i hi => by rw [hA _ _ (by decide)]; exact D.g4 i hi, by rw [i _ _ (by decide)]; exact D.hr, by rw [i _ _ (by decide)]; exact D.mo, by rw [hJ]; exact D.st, by rw [hJ]; exact D.og, by rw [hJ]; exact D.oc, by rw [hJ]; exact D.ig, by rw [hJ]; exact D.ic⟩
theorem SR.env (S : SR T w n A) {a1 a3 : List Nat} (X : Gx a1 [] a3 [] w w') (h1 : (a1.all fun k => !(k == 91 || k == 96 || k == 97)) = true) (h3 : (a3.all fun k => !(decide (7 ≤ k) && decide (k ≤ 14) || decide (23 ≤ k) && decide (k ≤ 26))) = true) (e : ER T w' E' n) : SR T w' n { A with E := E' } := by
  have D := S.d
  have i : ∀ k, k = 91 ∨ k = 96 ∨ k = 97 → x_I w' k 0 = x_I w k 0 := fun k hk => X.I k 0 (fun hm => by
    have := List.all_eq_true.mp h1 k hm
    rcases hk with q | q | q <;> simp [q] at this)
  have a : ∀ h j, (7 ≤ h ∧ h ≤ 14) ∨ (23 ≤ h ∧ h ≤ 26) → x_A w' h j = x_A w h j := fun h j hh => X.A h j (fun hm => by
    have := List.all_eq_true.mp h3 h hm
    simp at this
    omega)
  have b : ∀ h j, x_B w' h j = x_B w h j := fun h j => X.B h j (by simp)
  have jj : ∀ h j, x_J w' h j = x_J w h j := fun h j => X.J h j (by simp)
  exact ⟨e, ⟨fun k hk => by rw [a _ _ (by decide)]; exact S.k.mt k hk, fun k hk => by rw [a _ _ (by decide)]; exact S.k.th k hk, fun k hk => by rw [a _ _ (by decide)]; exact S.k.lk k hk, fun k hk => by rw [b]; exact S.k.hd k hk⟩, ⟨fun k hk => by rw [a _ _ (by decide)]; exact D.wm k hk, fun k hk => by rw [a _ _ (by decide)]; exact D.ps k hk, fun k hk => by rw [a _ _ (by decide)]; exact D.fz k hk, fun k hk => by rw [a _ _ (by decide)]; exact D.gd k hk, by rw [i _ (by decide)]; exact D.gn, fun i hi => by rw [a _ _ (by decide)]; exact D.g1 i hi, fun i hi => by rw [a _ _ (by decide)]; exact D.g2 i hi, fun i hi => by rw [a _ _ (by decide)]; exact D.g3 i hi, fun i hi => by rw [a _ _ (by decide)]; exact D.g4 i hi, by rw [i _ (by decide)]; exact D.hr, by rw [i _ (by decide)]; exact D.mo, by rw [jj]; exact D.st, by rw [jj]; exact D.og, by rw [jj]; exact D.oc, by rw [jj]; exact D.ig, by rw [jj]; exact D.ic⟩⟩
theorem ab_env (B : AB n A) (e : EB E') (h : ∀ m, m < 6 → mo A.E m ≤ mo E' m) : AB n { A with E := E' } := by
  refine ⟨e, ⟨B.k.n1, B.k.n12, B.k.mt, B.k.th, B.k.lk, fun k hk => ?_⟩, B.fz, B.gn, B.g4, B.hr, B.mo⟩
  have h1 := B.k.hd k hk
  have h2 := h _ (B.k.mt k hk)
  exact ⟨h1.1, by show A.C.hd k ≤ mo E' (A.C.mt k); omega⟩
theorem thr {T2 : x_T} {w2 : x_W} {n : Nat} {A : Ab} (R : SR T2 w2 n A) (w' : x_W) (v : Int32) (h : x_I w' 64 0 = v) : f_Mod_thrown T2 w' 0 = some v := by
  unfold f_Mod_thrown
  rw [R.e.r.i, Option.bind_some, h]
theorem th64 (w : x_W) (v : Int32) : x_I (x_sI w 64 0 v) 64 0 = v := by rw [x_I_sI, if_pos ⟨rfl, rfl⟩]
/-- a call that throws, on both sides, no answer -/
theorem fail_v {O : Nat} (B : AB n A) {w1 w2 : x_W} (S : SC T1 w1 n A) (R : SR T2 w2 n A) {o1 : Option (Int32 × x_W)} {o2 : Option x_W} (e : Int32) (h1 : o1 = some (e, w1)) (h2 : o2 = some (x_sI w2 64 0 e)) : ∃ r1 r2, o1 = some r1 ∧ o2 = some r2 ∧ f_Mod_thrown T2 r2 0 = some r1.1 ∧ Sim T1 T2 n r1.2 r2 :=
  ⟨_, _, h1, h2, thr R _ _ (th64 _ _), A, B, S, R.th e⟩
theorem fail_a {O : Nat} (B : AB n A) {w1 w2 : x_W} (S : SC T1 w1 n A) (R : SR T2 w2 n A) {o1 : Option (Int32 × x_W)} {o2 : Option (Int32 × x_W)} (e : Int32) (he : e ≠ 0) (h1 : o1 = some (e, w1)) (h2 : o2 = some (0, x_sI w2 64 0 e)) : ∃ r1 r2, o1 = some r1 ∧ o2 = some r2 ∧ f_Mod_thrown T2 r2.2 0 = some r1.1 ∧ (r1.1 = 0 → x_B r1.2 O (0 : Int32).toNatClampNeg = r2.1.toInt64) ∧ Sim T1 T2 n r1.2 r2.2 :=
  ⟨_, _, h1, h2, thr R _ _ (th64 _ _), fun z => absurd z he, A, B, S, R.th e⟩
theorem q_mat1 (S : SC T w n A) {m : Nat} (hm : m < 6) : f_WD_materialOf T w 0 (nI m) = some (.ok (2 + 4 * m)) := by
  rw [q_mat S, nI_intS (by omega), if_pos (by omega), Int.toNat_natCast]
theorem q_cell1 (S : SC T w n A) {k : Nat} (hk : k < n) : f_WD_cellAt T w 0 (nI k) = some (.ok (46 + 2 * k)) := by
  have := S.ws.n12
  rw [q_cell S, nI_intS (by omega), if_pos (by omega), Int.toNat_natCast]
theorem step_rates : x_step1 T1 T2 0 (62 + 6 * n) 0 (Sim T1 T2 n) := by
  intro w1 w2 p1 p2 p3 p4 ⟨A, B, S, R⟩
  have hR := R.e.r
  by_cases h1 : 0 ≤ p1.toInt ∧ p1.toInt ≤ 5
  · by_cases h2 : 0 ≤ p2.toInt ∧ p2.toInt ≤ 1000
    · by_cases h3 : 0 ≤ p3.toInt ∧ p3.toInt ≤ 1000
      · by_cases h4 : 1 ≤ p4.toInt ∧ p4.toInt ≤ 1000
        · obtain ⟨m, rfl, hm, hm2⟩ := z_isN h1
          have hm6 : m < 6 := by omega
          have G := S.e
          refine ⟨(0, x_sI (x_sI (x_sI w1 35 (2 + 4 * m) p2) 36 (2 + 4 * m) p3) 37 (2 + 4 * m) p4), x_sA (x_sA (x_sA (x_sI w2 64 0 0) 4 m p2) 5 m p3) 6 m p4, ?_, ?_, thr R _ _ (by simp), { A with E := { A.E with vp := ud A.E.vp m p2.toInt, lq := ud A.E.lq m p3.toInt, ld := ud A.E.ld m p4.toInt } }, ?_, ?_, ?_⟩
          · ck [f_Law_rates, f_WD_rates, t_is S.ct.t0, q_mat1 S hm6, x_ec, x_cc, if_pos h2, if_pos h3, if_pos h4, t_is (G.m m hm6).1]
          · ck [f_Mod_rates, f_Mod_rates_55, f_Mod_rates_87, if_pos h1, if_pos h2, if_pos h3, if_pos h4, one_ne, if_false, hR.i, th64, if_true]
            rq hR
            simp only [t_ixn hR.a4 hm6 (by omega), t_ixn hR.a5 hm6 (by omega), t_ixn hR.a6 hm6 (by omega), Option.bind_some, nI_clampS (show m < 100000 by omega)]
          · refine ab_env B ⟨B.e.cor, B.e.tab, fun i hi => ?_, B.e.fm, B.e.c0, B.e.c1, B.e.c2, B.e.c3, B.e.c4, B.e.c5⟩ (fun _ _ => Int.le_refl _)
            have := B.e.rt i hi
            dsimp only
            by_cases e : i = m
            · subst e
              rw [ud_s, ud_s, ud_s]; omega
            · rw [ud_o _ _ e, ud_o _ _ e, ud_o _ _ e]; exact this
          · refine S.env (fun k h _ a b c _ _ => by simp [a, b, c]) (fun _ _ => rfl) (fun _ _ => rfl) (fun _ _ => rfl) (fun _ _ _ => rfl) ⟨fun i hi => ?_, fun c hc => ?_, G.x, G.s, G.r43, G.r44, G.r45, G.r46, G.r47, G.r48, G.r49, G.a, G.v, ?_, ?_⟩
            · obtain ⟨g1, g2, g3, g4, g5⟩ := G.m i hi
              dsimp only
              by_cases e : i = m
              · subst e
                simp [ud_s, g1, z_o]
                exact g2
              · rw [ud_o _ _ e, ud_o _ _ e, ud_o _ _ e, x_I_sI, x_I_sI, x_I_sI, x_I_sI, x_I_sI, x_I_sI, x_I_sI, x_I_sI, x_I_sI, if_neg (by omega), if_neg (by omega), if_neg (by omega), if_neg (by omega), if_neg (by omega), if_neg (by omega), if_neg (by omega), if_neg (by omega), if_neg (by omega)]
                exact ⟨g1, g2, g3, g4, g5⟩
            · simpa using G.c c hc
            · simpa using G.o
            · simpa using G.i
          · have X : Gx [64] [] [4, 5, 6] [] w2 (x_sA (x_sA (x_sA (x_sI w2 64 0 0) 4 m p2) 5 m p3) 6 m p4) := ((((Gx.refl _ _ _ _ w2).sI (by decide)).sA (by decide)).sA (by decide)).sA (by decide)
            have G2 := R.e
            refine R.env X (by decide) (by decide) ⟨hR, (X.I _ _ (by decide)).trans G2.n, fun i hi => (X.A _ _ (by decide)).trans (G2.cn i hi), fun i hi j hj => by rw [X.A _ _ (by decide), X.A _ _ (by decide)]; exact G2.x i hi j hj, (X.I _ _ (by decide)).trans G2.tn, fun j hj => by rw [X.A _ _ (by decide), X.A _ _ (by decide)]; exact G2.tx j hj, fun i hi => ?_, (X.I _ _ (by decide)).trans G2.o, (X.I _ _ (by decide)).trans G2.i, fun j h hj hh => (X.A _ _ (by simp; omega)).trans (G2.v j h hj hh)⟩
            have := G2.rt i hi
            dsimp only
            by_cases e : i = m
            · subst e
              simp [ud_s, z_o]
            · simpa [ud_o _ _ e, e] using this
        · refine fail_v (O := 0) B S R 1 ?_ ?_
          · ck [f_Law_rates, f_WD_rates, t_is S.ct.t0, q_mat S, x_ec, x_cc, if_pos h1, if_pos h2, if_pos h3, if_neg h4, if_true]
          · ck [f_Mod_rates, f_Mod_rates_54, f_Mod_rates_55, f_Mod_rates_87, if_pos h1, if_pos h2, if_pos h3, if_neg h4, one_ne, zer_eq, if_false, if_true, hR.i, th64]
      · refine fail_v (O := 0) B S R 1 ?_ ?_
        · ck [f_Law_rates, f_WD_rates, t_is S.ct.t0, q_mat S, x_ec, x_cc, if_pos h1, if_pos h2, if_neg h3, if_true]
        · ck [f_Mod_rates, f_Mod_rates_54, f_Mod_rates_55, f_Mod_rates_87, if_pos h1, if_pos h2, if_neg h3, one_ne, zer_eq, if_false, if_true, hR.i, th64]
    · refine fail_v (O := 0) B S R 1 ?_ ?_
      · ck [f_Law_rates, f_WD_rates, t_is S.ct.t0, q_mat S, x_ec, x_cc, if_pos h1, if_neg h2, if_true]
      · ck [f_Mod_rates, f_Mod_rates_54, f_Mod_rates_55, f_Mod_rates_87, if_pos h1, if_neg h2, one_ne, zer_eq, if_false, if_true, hR.i, th64]
  · refine fail_v (O := 0) B S R 1 ?_ ?_
    · ck [f_Law_rates, f_WD_rates, t_is S.ct.t0, q_mat S, x_ec, x_cc, if_neg h1, if_true]
    · ck [f_Mod_rates, f_Mod_rates_54, f_Mod_rates_55, f_Mod_rates_87, if_neg h1, one_ne, zer_eq, if_false, if_true, hR.i, th64]
end ENV
