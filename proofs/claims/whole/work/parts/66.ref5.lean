/-! THE REFERENCE'S LIMITS, second half; the moves -/
theorem zs_iv {n k : Nat} {P N : Nat → Int} (hk : k < n) : zs (iv n P N k) 6 = SI n k P N := by
  rw [SI_eq, SO_cell hk]
  simp only [zs, iv]
  simp only [show ¬ (1 = 0) by omega, show ¬ (2 = 0) by omega, show ¬ (3 = 0) by omega, show ¬ (4 = 0) by omega, show ¬ (5 = 0) by omega, show ¬ (2 = 1) by omega, show ¬ (3 = 1) by omega, show ¬ (4 = 1) by omega, show ¬ (5 = 1) by omega, show ¬ (3 = 2) by omega, show ¬ (4 = 2) by omega, show ¬ (5 = 2) by omega, show ¬ (4 = 3) by omega, show ¬ (5 = 3) by omega, show ¬ (5 = 4) by omega, if_true, if_false]
  by_cases h0 : k = 0
  · rw [if_pos h0, if_pos h0, if_pos h0]; omega
  · rw [if_neg h0, if_neg h0, if_neg h0]; omega
section RC
variable {T : x_T} {w : x_W} {E : En} {n k : Nat} {C : Ce} {P N : Nat → Int}
theorem iv_b (hP : ∀ f, f < 2 * n + 2 → 0 ≤ P f ∧ P f ≤ 110000) (hN : ∀ f, f < 2 * n + 2 → 0 ≤ N f ∧ N f ≤ 110000) (hk : k < n) (q : Nat) : 0 ≤ iv n P N k q ∧ iv n P N k q ≤ 110000 := by
  unfold iv
  repeat' split
  all_goals first | omega | exact hP _ (by omega) | exact hN _ (by omega)
theorem iv_lm (hk : k < n) {k' q : Nat} (hk' : k' < n) (hq : q < 6) (M r : Int) : iv n (fun f => if ip n f = k then lm M r (P f) else P f) (fun f => if op n f = k then lm M r (N f) else N f) k' q = if k' = k then lm M r (iv n P N k q) else iv n P N k' q := by
  have a0 : ip n 0 = 0 ∧ ip n 2 = 0 ∧ op n 1 = n - 1 := by simp [wp_some, wp_bind, x_I_sI, x_J_sJ, x_R_sR, x_A_sA, x_B_sB, x_I_sJ, x_I_sR, x_I_sA, x_I_sB, x_J_sI, x_J_sR, x_J_sA, x_J_sB, x_R_sI, x_R_sJ, x_R_sA, x_R_sB, x_A_sI, x_A_sJ, x_A_sR, x_A_sB, x_B_sI, x_B_sJ, x_B_sR, x_B_sA, x_Q_sI, x_Q_sJ, x_Q_sR, x_Q_sA, x_Q_sB, op, ip]
  by_cases e : k' = k
  · rw [if_pos e]
    subst e
    unfold iv
    dsimp only
    rw [a0.1, a0.2.1, a0.2.2, op_leak n k' hk', op_betw, ip_betw]
    by_cases q0 : q = 0
    · rw [if_pos q0, if_pos q0]
      by_cases h0 : 0 < k'
      · rw [if_pos h0, if_pos h0, if_pos (by omega)]
      · rw [if_neg h0, if_neg h0, lm_0]
    · rw [if_neg q0, if_neg q0]
      by_cases q1 : q = 1
      · rw [if_pos q1, if_pos q1]
        by_cases h0 : k' + 1 < n
        · rw [if_pos h0, if_pos h0, if_pos rfl]
        · rw [if_neg h0, if_neg h0, lm_0]
      · rw [if_neg q1, if_neg q1]
        by_cases q2 : q = 2
        · rw [if_pos q2, if_pos q2]
          by_cases h0 : k' = 0
          · rw [if_pos h0, if_pos h0, if_pos h0.symm]
          · rw [if_neg h0, if_neg h0, lm_0]
        · rw [if_neg q2, if_neg q2]
          by_cases q3 : q = 3
          · rw [if_pos q3, if_pos q3]
            by_cases h0 : k' = 0
            · rw [if_pos h0, if_pos h0, if_pos h0.symm]
            · rw [if_neg h0, if_neg h0, lm_0]
          · rw [if_neg q3, if_neg q3]
            by_cases q4 : q = 4
            · rw [if_pos q4, if_pos q4]
              by_cases h0 : k' = n - 1
              · rw [if_pos h0, if_pos h0, if_pos h0.symm]
              · rw [if_neg h0, if_neg h0, lm_0]
            · rw [if_neg q4, if_neg q4, if_pos rfl]
  · rw [if_neg e]
    unfold iv
    dsimp only
    rw [a0.1, a0.2.1, a0.2.2, op_leak n k' hk', op_betw, ip_betw]
    by_cases q0 : q = 0
    · rw [if_pos q0, if_pos q0]
      by_cases h0 : 0 < k'
      · rw [if_pos h0, if_pos h0, if_neg (by omega)]
      · rw [if_neg h0, if_neg h0]
    · rw [if_neg q0, if_neg q0]
      by_cases q1 : q = 1
      · rw [if_pos q1, if_pos q1, if_neg e]
      · rw [if_neg q1, if_neg q1]
        by_cases h0 : k' = 0
        · rw [if_neg (show ¬ 0 = k by omega), if_neg (show ¬ 0 = k by omega)]
          by_cases h1 : k' = n - 1
          · rw [if_neg (show ¬ n - 1 = k by omega), if_neg e]
          · rw [if_neg h1, if_neg e, if_neg h1]
        · simp only [h0, if_false, if_neg e]
          by_cases h1 : k' = n - 1
          · rw [if_neg (show ¬ n - 1 = k by omega)]
          · rw [if_neg h1, if_neg h1]
theorem r_lessC (G : ER T w E n) (KBd : KB E n C) (B : EB E) (K : KR w n C) (hk : k < n) (H : IR w n P N) (hP : ∀ f, f < 2 * n + 2 → 0 ≤ P f ∧ P f ≤ 110000) (hN : ∀ f, f < 2 * n + 2 → 0 ≤ N f ∧ N f ≤ 110000) :
    wp (f_Mod_lessenComing T w 0 (nI k)) (fun w' => Gx [] [] [] [29] w w' ∧ IR w' n (fun f => if ip n f = k then lm (SI n k P N) (moE E (C.mt k) - C.hd k) (P f) else P f) (fun f => if op n f = k then lm (SI n k P N) (moE E (C.mt k) - C.hd k) (N f) else N f)) := by
  have n1 := KBd.n1
  have n12 := KBd.n12
  have hR := G.r
  have hh := KBd.hd k hk
  have hm := KBd.mt k hk
  have hmo := B.mo hm
  unfold f_Mod_lessenComing
  simp only [Option.bind_some, wp_bind, wp_some, (hR).i, (hR).r66, (hR).r67, (hR).r68, (hR).r69, (hR).r70, (hR).r71, (hR).r72, (hR).r73, (hR).r74, (hR).r75, (hR).r76, (hR).r77, (hR).r78, (hR).r79, (hR).r81, (hR).r82, (hR).r85, (hR).r86, (hR).r87, (hR).r88, (hR).r89, (hR).r90, (hR).r92, (hR).r93, (hR).r94, (hR).r95, (hR).r103, (hR).r104, (hR).r105, (hR).r108, (hR).r109, (hR).r110, (hR).r111, (hR).r112, (hR).r113, (hR).r114, x_R_sI, x_R_sJ, x_R_sA, x_R_sB]
  simp only [t_ixn hR.a7 (show k < 12 by omega) (by omega), nI_clampS (show k < 100000 by omega), K.mt k hk, r_most B G hm, t_ixn hR.a9 (show k < 12 by omega) (by omega), K.hd k hk, wp_some]
  rw [z_64 (by omega) (by omega), z_Sub]
  generalize hr : moE E (C.mt k) - C.hd k = r
  have hM : ∀ j, j ≤ 6 → 0 ≤ zs (iv n P N k) j ∧ zs (iv n P N k) j ≤ 660000 := by
    intro j hj
    refine ⟨zs_nonneg (fun i hi => (iv_b hP hN hk i).1), ?_⟩
    have h1 := zs_le (g := iv n P N k) (n := j) (B := 110000) (fun i hi => (iv_b hP hN hk i).2)
    have h2 : (j : Int) * 110000 ≤ 6 * 110000 := Int.mul_le_mul_of_nonneg_right (by omega) (by omega)
    omega
  have hMe := zs_iv (P := P) (N := N) hk
  refine loop_up (σ := Int64) (N := 6) (by omega) (fun fuel s i => f_Mod_lessenComing_25 T fuel w 0 (nI k) (Int64.ofInt r) s i) (fun j s => s = Int64.ofInt (zs (iv n P N k) j)) _ ?_ ?_ 0 rfl
  · intro i s fuel hi hs
    subst hs
    refine ⟨_, rfl, ?_⟩
    show f_Mod_lessenComing_25 T (fuel + 1) w _ _ _ _ _ = f_Mod_lessenComing_25 T fuel _ _ _ _ _ _
    rw [f_Mod_lessenComing_25, show (6 : Int32) = nI 6 from rfl, if_neg (by rw [nI_leS (by omega) (by omega)]; omega)]
    simp only [Option.bind_some, wp_bind, wp_some, (hR).i, (hR).r66, (hR).r67, (hR).r68, (hR).r69, (hR).r70, (hR).r71, (hR).r72, (hR).r73, (hR).r74, (hR).r75, (hR).r76, (hR).r77, (hR).r78, (hR).r79, (hR).r81, (hR).r82, (hR).r85, (hR).r86, (hR).r87, (hR).r88, (hR).r89, (hR).r90, (hR).r92, (hR).r93, (hR).r94, (hR).r95, (hR).r103, (hR).r104, (hR).r105, (hR).r108, (hR).r109, (hR).r110, (hR).r111, (hR).r112, (hR).r113, (hR).r114, x_R_sI, x_R_sJ, x_R_sA, x_R_sB]
    rw [nI_mulS, nI_addS, t_ixn hR.a29 (by omega) (by omega), nI_clampS (by omega), H.b k i hk hi, nI_inc, z_Add]
    rfl
  · intro s fuel hs
    subst hs
    show wp (f_Mod_lessenComing_25 T (fuel + 1) w _ _ _ _ _) _
    rw [f_Mod_lessenComing_25, show (6 : Int32) = nI 6 from rfl, if_pos (by rw [nI_leS (by omega) (by omega)]; omega), hMe]
    have hM6 := hM 6 (by omega)
    rw [hMe] at hM6
    generalize SI n k P N = M at hM6
    have fin : ∀ w', Gx [] [] [] [29] w w' → (∀ k' q, k' < n → q < 6 → x_B w' 29 (6 * k' + q) = Int64.ofInt (if k' = k then lm M r (iv n P N k q) else iv n P N k' q)) → Gx [] [] [] [29] w w' ∧ IR w' n (fun f => if ip n f = k then lm M r (P f) else P f) (fun f => if op n f = k then lm M r (N f) else N f) := by
      intro w' F hv
      refine ⟨F, ⟨fun k' q hk' hq => by rw [hv k' q hk' hq, iv_lm hk hk' hq], ?_, ?_⟩⟩
      · rw [F.J 106 _ (by decide), H.o]
        show _ = Int64.ofInt (if n = k then _ else _)
        rw [if_neg (by omega)]
      · rw [F.J 107 _ (by decide), H.i]
        show _ = Int64.ofInt (if n + 1 = k then _ else _)
        rw [if_neg (by omega)]
    by_cases h : r < M
    · refine wp_mono (loop_up (N := 6) (by omega) (fun fuel w' i => f_Mod_lessenComing_58 T fuel w' 0 (nI k) (Int64.ofInt r) (Int64.ofInt M) i) (fun j w' => Gx [] [] [] [29] w w' ∧ ∀ k' q, k' < n → q < 6 → x_B w' 29 (6 * k' + q) = Int64.ofInt (if k' = k ∧ q < j then lm M r (iv n P N k q) else iv n P N k' q)) (fun w' => Gx [] [] [] [29] w w' ∧ ∀ k' q, k' < n → q < 6 → x_B w' 29 (6 * k' + q) = Int64.ofInt (if k' = k ∧ q < 6 then lm M r (iv n P N k q) else iv n P N k' q)) ?_ ?_ w ⟨Gx.refl .., fun k' q hk' hq => by rw [if_neg (by omega)]; exact H.b k' q hk' hq⟩) (fun w' ⟨h1, h2⟩ => fin w' h1 (fun k' q hk' hq => by
        rw [h2 k' q hk' hq]
        by_cases e : k' = k
        · rw [if_pos ⟨e, hq⟩, if_pos e]
        · rw [if_neg (fun z => e z.1), if_neg e]))
      · intro i w' fuel hi ⟨F, hv⟩
        have G' := F.er G
        have hR' := G'.r
        have hvi := hv k i hk hi
        rw [if_neg (by omega)] at hvi
        have hb := iv_b hP hN hk i
        have hmm := z_mb (a := iv n P N k i) (b := r) (A := 110000) (B := 1000000) hb.1 hb.2 (by omega) (by omega)
        refine ⟨x_sB w' 29 (6 * k + i) (Int64.ofInt (lm M r (iv n P N k i))), ⟨F.sB (by decide), fun k' q hk' hq => ?_⟩, ?_⟩
        · rw [x_B_sB]
          by_cases e : k' = k ∧ q = i
          · rw [e.1, e.2, if_pos ⟨rfl, rfl⟩, if_pos ⟨rfl, by omega⟩]
          · rw [if_neg (by omega), hv k' q hk' hq]
            by_cases e2 : k' = k ∧ q < i
            · rw [if_pos e2, if_pos (by omega)]
            · rw [if_neg e2, if_neg (by omega)]
        · show f_Mod_lessenComing_58 T (fuel + 1) w' _ _ _ _ _ = f_Mod_lessenComing_58 T fuel _ _ _ _ _ _
          rw [f_Mod_lessenComing_58, show (6 : Int32) = nI 6 from rfl, if_neg (by rw [nI_leS (by omega) (by omega)]; omega), if_neg (fun q => by have := (z_cmpLe (by omega) (by omega) (by omega) (by omega)).mp q; omega)]
          simp only [Option.bind_some, wp_bind, wp_some, (hR').i, (hR').r66, (hR').r67, (hR').r68, (hR').r69, (hR').r70, (hR').r71, (hR').r72, (hR').r73, (hR').r74, (hR').r75, (hR').r76, (hR').r77, (hR').r78, (hR').r79, (hR').r81, (hR').r82, (hR').r85, (hR').r86, (hR').r87, (hR').r88, (hR').r89, (hR').r90, (hR').r92, (hR').r93, (hR').r94, (hR').r95, (hR').r103, (hR').r104, (hR').r105, (hR').r108, (hR').r109, (hR').r110, (hR').r111, (hR').r112, (hR').r113, (hR').r114, x_R_sI, x_R_sJ, x_R_sA, x_R_sB]
          rw [nI_mulS, nI_addS, t_ixn hR.a29 (by omega) (by omega), nI_clampS (by omega), hvi, x_nzl_ok (by rw [z_T (by omega) (by omega)]; omega), z_Mul, z_Div (by omega) (by omega) (by omega) (by omega), Int.tdiv_eq_ediv_of_nonneg hmm.1, nI_inc]
          unfold lm
          rw [if_pos h]
          rfl
      · intro w' fuel hI
        show wp (f_Mod_lessenComing_58 T (fuel + 1) w' _ _ _ _ _) _
        rw [f_Mod_lessenComing_58, show (6 : Int32) = nI 6 from rfl, if_pos (by rw [nI_leS (by omega) (by omega)]; omega)]
        unfold f_Mod_lessenComing_107
        rw [wp_some]
        exact hI
    · rw [show (1000 : Nat) = 999 + 1 from rfl, f_Mod_lessenComing_58, if_neg (by decide), if_pos ((z_cmpLe (by omega) (by omega) (by omega) (by omega)).mpr (by omega))]
      unfold f_Mod_lessenComing_107
      rw [wp_some]
      refine fin w (Gx.refl ..) (fun k' q hk' hq => ?_)
      rw [H.b k' q hk' hq]
      unfold lm
      rw [if_neg h]
      by_cases e : k' = k
      · rw [if_pos e, e]
      · rw [if_neg e]
end RC
