/-! THE CLASS'S HOUR -/
theorem Fx.ws {T : x_T} {c b e n : Nat} {a1 a2 a3 : List Nat} {w w' : x_W} (F : Fx b e a1 a2 a3 w w') (S : WS T w c n) (h : (a3.all fun k => k == 17 || k == 31 || k == 32) = true := by decide) : WS T w' c n := by
  refine S.of (fun k i h1 h2 h3 => F.R k i (Or.inl ?_)) (fun i j => F.Q i j)
  intro hk
  have := List.all_eq_true.mp h k hk
  simp [wp_some, wp_bind, x_I_sI, x_J_sJ, x_R_sR, x_A_sA, x_B_sB, x_I_sJ, x_I_sR, x_I_sA, x_I_sB, x_J_sI, x_J_sR, x_J_sA, x_J_sB, x_R_sI, x_R_sJ, x_R_sA, x_R_sB, x_A_sI, x_A_sJ, x_A_sR, x_A_sB, x_B_sI, x_B_sJ, x_B_sR, x_B_sA, x_Q_sI, x_Q_sJ, x_Q_sR, x_Q_sA, x_Q_sB, h1, h2, h3] at this
theorem Fx.ec {T : x_T} {b e : Nat} {E : En} {a1 a2 a3 : List Nat} {w w' : x_W} (F : Fx b e a1 a2 a3 w w') (S : EC T w E) (h : (a1.all fun k => !(k == 27 || k == 28 || k == 35 || k == 36 || k == 37 || k == 50 || k == 51)) = true := by decide) (h' : (a3.all fun k => k == 17 || k == 31 || k == 32) = true := by decide) : EC T w' E := by
  refine S.of (fun k i hk => F.I k i (Or.inl ?_)) (fun k i h1 h2 h3 => F.R k i (Or.inl ?_)) (fun i j _ => F.A i j)
  · intro hm
    have := List.all_eq_true.mp h k hm
    rcases hk with q | q | q | q | q | q | q <;> simp [wp_some, wp_bind, x_I_sI, x_J_sJ, x_R_sR, x_A_sA, x_B_sB, x_I_sJ, x_I_sR, x_I_sA, x_I_sB, x_J_sI, x_J_sR, x_J_sA, x_J_sB, x_R_sI, x_R_sJ, x_R_sA, x_R_sB, x_A_sI, x_A_sJ, x_A_sR, x_A_sB, x_B_sI, x_B_sJ, x_B_sR, x_B_sA, x_Q_sI, x_Q_sJ, x_Q_sR, x_Q_sA, x_Q_sB, q] at this
  · intro hk
    have := List.all_eq_true.mp h' k hk
    simp [wp_some, wp_bind, x_I_sI, x_J_sJ, x_R_sR, x_A_sA, x_B_sB, x_I_sJ, x_I_sR, x_I_sA, x_I_sB, x_J_sI, x_J_sR, x_J_sA, x_J_sB, x_R_sI, x_R_sJ, x_R_sA, x_R_sB, x_A_sI, x_A_sJ, x_A_sR, x_A_sB, x_B_sI, x_B_sJ, x_B_sR, x_B_sA, x_Q_sI, x_Q_sJ, x_Q_sR, x_Q_sA, x_Q_sB, h1, h2, h3] at this
theorem Fx.kc {c b e n : Nat} {C : Ce} {a1 a2 a3 : List Nat} {w w' : x_W} (F : Fx b e a1 a2 a3 w w') (S : KC w c n C) (h : (a1.all fun k => !(k == 18 || k == 19 || k == 20)) = true := by decide) (h' : (a3.all fun k => !(k == 17)) = true := by decide) : KC w' c n C := by
  have q : ∀ k, k = 18 ∨ k = 19 ∨ k = 20 → k ∉ a1 := fun k hk hm => by
    have := List.all_eq_true.mp h k hm
    rcases hk with q | q | q <;> simp [wp_some, wp_bind, x_I_sI, x_J_sJ, x_R_sR, x_A_sA, x_B_sB, x_I_sJ, x_I_sR, x_I_sA, x_I_sB, x_J_sI, x_J_sR, x_J_sA, x_J_sB, x_R_sI, x_R_sJ, x_R_sA, x_R_sB, x_A_sI, x_A_sJ, x_A_sR, x_A_sB, x_B_sI, x_B_sJ, x_B_sR, x_B_sA, x_Q_sI, x_Q_sJ, x_Q_sR, x_Q_sA, x_Q_sB, q] at this
  have q' : 17 ∉ a3 := fun hm => by
    have := List.all_eq_true.mp h' 17 hm
    simp [wp_some, wp_bind, x_I_sI, x_J_sJ, x_R_sR, x_A_sA, x_B_sB, x_I_sJ, x_I_sR, x_I_sA, x_I_sB, x_J_sI, x_J_sR, x_J_sA, x_J_sB, x_R_sI, x_R_sJ, x_R_sA, x_R_sB, x_A_sI, x_A_sJ, x_A_sR, x_A_sB, x_B_sI, x_B_sJ, x_B_sR, x_B_sA, x_Q_sI, x_Q_sJ, x_Q_sR, x_Q_sA, x_Q_sB] at this
  exact ⟨fun k hk => (F.R 17 _ (Or.inl q')).trans (S.mt k hk), fun k hk => (F.I 18 _ (Or.inl (q 18 (by decide)))).trans (S.th k hk), fun k hk => (F.I 19 _ (Or.inl (q 19 (by decide)))).trans (S.lk k hk), fun k hk => (F.I 20 _ (Or.inl (q 20 (by decide)))).trans (S.hd k hk)⟩
section CW
variable {T : x_T} {w : x_W} {E : En} {b n h : Nat} {C : Ce}
theorem c_warm2 (B : EB E) (S : WS T w b n) (G : EC T w E) (K : KC w b n C) (KBd : KB E n C) (hh : h < 24) (hw : ∀ k, k < n → x_J w 21 (b + 5 + 2 * k) = Int64.ofInt (wy E C k)) :
    wp (f_Wall_warmCells_119 T 1000 w (Int64.ofInt (al E n C)) (Int32.ofInt (fc E h)) (Int64.ofInt (E.cl 4 h - fc E h)) (b + 3) (nI n) 0) (fun w' => Fx b (b + 9 + 3 * n) [0] [] [] w w' ∧ (∀ k, k < n → x_I w' 0 (b + 5 + 2 * k) = Int32.ofInt (wmz E n C h k)) ∧ x_I w' 0 (b + 1) = x_I w 0 (b + 1) ∧ x_I w' 0 (b + 2) = x_I w 0 (b + 2)) := by
  have n12 := S.n12
  have hf := fc_b B hh
  have h4 := B.c4 h hh
  refine loop_up (N := n) (by omega) (fun fuel w' i => f_Wall_warmCells_119 T fuel w' (Int64.ofInt (al E n C)) (Int32.ofInt (fc E h)) (Int64.ofInt (E.cl 4 h - fc E h)) (b + 3) (nI n) i) (fun j w' => Fx b (b + 9 + 3 * n) [0] [] [] w w' ∧ (∀ k, k < j → x_I w' 0 (b + 5 + 2 * k) = Int32.ofInt (wmz E n C h k)) ∧ x_I w' 0 (b + 1) = x_I w 0 (b + 1) ∧ x_I w' 0 (b + 2) = x_I w 0 (b + 2)) _ ?_ ?_ w ⟨Fx.refl .., fun k hk => by omega, rfl, rfl⟩
  · intro i w' fuel hi ⟨F, hv, ha, hb⟩
    refine ⟨x_sI w' 0 (b + 5 + 2 * i) (Int32.ofInt (wmz E n C h i)), ⟨F.sI (by decide) (by omega) (by omega), fun k hk => ?_, ?_, ?_⟩, ?_⟩
    · rw [x_I_sI]
      by_cases e : k = i
      · rw [e, if_pos ⟨rfl, rfl⟩]
      · rw [if_neg (by omega)]; exact hv k (by omega)
    · rw [x_I_sI, if_neg (by omega)]; exact ha
    · rw [x_I_sI, if_neg (by omega)]; exact hb
    · have S' := F.ws S
      have hy := wy_b B KBd hi
      have hwz := wmz_b B KBd hh hi
      show f_Wall_warmCells_119 T (fuel + 1) w' _ _ _ _ _ _ = f_Wall_warmCells_119 T fuel _ _ _ _ _ _ _
      rw [f_Wall_warmCells_119]
      unfold f_Wall_warmCells_162
      rw [if_neg (by rw [nI_leS (by omega) (by omega)]; omega), t_ixn S.tc hi (by omega), nI_clampS (by omega), (S'.c i hi).2]
      simp only [Option.bind_some]
      rw [t_is (S.c i hi).1, F.J 21 _ (Or.inl (by decide)), hw i hi]
      simp only [Option.bind_some]
      have hm := mul_b (a := E.cl 4 h - fc E h) (b := wy E C i) (A := 11000) (B := 3000000) (by omega) (by omega) hy.1 (by omega)
      have hcmp : 0 < lg_cmp (Int64.ofInt (al E n C)) 0 ↔ 0 < al E n C := by
        rw [lg_cmp_gt, z_Lt, z_T (by omega) (by omega)]; rfl
      by_cases ha : al E n C ≤ 0
      · rw [if_neg (by rw [hcmp]; omega), nI_inc]
        unfold wmz
        rw [if_pos ha]
      · rw [if_pos (by rw [hcmp]; omega), z_Mul, m_floorDiv T w' (by omega) (by omega) (by omega) (by omega)]
        simp only [Option.bind_some]
        rw [z_32, z_add, nI_inc]
        unfold wmz
        rw [if_neg ha]
  · intro w' fuel hI
    show wp (f_Wall_warmCells_119 T (fuel + 1) w' _ _ _ _ _ _) _
    rw [f_Wall_warmCells_119, if_pos (by rw [nI_leS (by omega) (by omega)]; omega), wp_some]
    exact hI
theorem c_warm (B : EB E) (S : WS T w b n) (G : EC T w E) (K : KC w b n C) (KBd : KB E n C) (hh : h < 24) (ho : x_I w 0 (b + 1) = Int32.ofInt (fc E h)) (hi : x_I w 0 (b + 2) = Int32.ofInt (E.cl 4 h)) :
    wp (f_Wall_warmCells T w b 26) (fun w' => Fx b (b + 9 + 3 * n) [0] [21] [] w w' ∧ (∀ k, k < n → x_I w' 0 (b + 5 + 2 * k) = Int32.ofInt (wmz E n C h k)) ∧ x_I w' 0 (b + 1) = Int32.ofInt (fc E h) ∧ x_I w' 0 (b + 2) = Int32.ofInt (E.cl 4 h)) := by
  have n12 := S.n12
  have hf := fc_b B hh
  have h4 := B.c4 h hh
  have hfm := B.fm
  unfold f_Wall_warmCells
  rw [t_is G.s, t_is S.t, S.r55, G.o]
  simp only [Option.bind_some]
  rw [t_len S.tc, z_64 (by omega) (by omega), show (2 : Int64) = Int64.ofInt 2 from rfl, z_Mul]
  simp only [Option.bind_some]
  refine loop_up (σ := x_W × Int64) (N := n) (by omega) (fun fuel s i => f_Wall_warmCells_24 T fuel s.1 b 26 s.2 (b + 3) (nI n) i) (fun j s => Fx b (b + 9 + 3 * n) [] [21] [] w s.1 ∧ s.2 = Int64.ofInt (2 * E.fo + 2 * zs (rs E C) j) ∧ (∀ k, k < j → x_J s.1 21 (b + 5 + 2 * k) = Int64.ofInt (wy E C k))) _ ?_ ?_ (w, Int64.ofInt (2 * E.fo)) ⟨Fx.refl .., by simp [wp_some, wp_bind, x_I_sI, x_J_sJ, x_R_sR, x_A_sA, x_B_sB, x_I_sJ, x_I_sR, x_I_sA, x_I_sB, x_J_sI, x_J_sR, x_J_sA, x_J_sB, x_R_sI, x_R_sJ, x_R_sA, x_R_sB, x_A_sI, x_A_sJ, x_A_sR, x_A_sB, x_B_sI, x_B_sJ, x_B_sR, x_B_sA, x_Q_sI, x_Q_sJ, x_Q_sR, x_Q_sA, x_Q_sB, zs], fun k hk => by omega⟩
  · intro i s fuel hi' ⟨F, hs, hv⟩
    obtain ⟨w', l2⟩ := s
    dsimp only at F hs hv
    subst hs
    refine ⟨(x_sJ w' 21 (b + 5 + 2 * i) (Int64.ofInt (wy E C i)), Int64.ofInt (2 * E.fo + 2 * zs (rs E C) (i + 1))), ⟨F.sJ (by decide) (by omega) (by omega), rfl, fun k hk => ?_⟩, ?_⟩
    · rw [x_J_sJ]
      by_cases e : k = i
      · rw [e, if_pos ⟨rfl, rfl⟩]
      · rw [if_neg (by omega)]; exact hv k (by omega)
    · have S' := F.ws S
      have hr := rs_b B KBd hi'
      show f_Wall_warmCells_24 T (fuel + 1) w' _ _ _ _ _ _ = f_Wall_warmCells_24 T fuel _ _ _ _ _ _ _
      rw [f_Wall_warmCells_24, if_neg (by rw [nI_leS (by omega) (by omega)]; omega), t_ixn S.tc hi' (by omega), nI_clampS (by omega), (S'.c i hi').2]
      simp only [Option.bind_some]
      rw [t_is (S.c i hi').1, c_resistance B S' (F.ec G) (F.kc K) KBd hi']
      simp only [Option.bind_some]
      rw [z_64 (by omega) (by omega), show (2 : Int64) = Int64.ofInt 2 from rfl, z_Mul, z_Add, z_Add, nI_inc, zs_s]
      rw [show 2 * E.fo + 2 * zs (rs E C) i + 2 * rs E C i = 2 * E.fo + 2 * (zs (rs E C) i + rs E C i) by omega]
      rfl
  · intro s fuel ⟨F, hs, hv⟩
    obtain ⟨w', l2⟩ := s
    dsimp only at F hs hv
    subst hs
    have S' := F.ws S
    have G' := F.ec G
    show wp (f_Wall_warmCells_24 T (fuel + 1) w' _ _ _ _ _ _) _
    rw [f_Wall_warmCells_24, if_pos (by rw [nI_leS (by omega) (by omega)]; omega), t_is G.s, t_is S.t, S'.r56, S'.r57, S'.r55, G'.i]
    simp only [Option.bind_some, t_is S.ta, t_is S.ti, t_len S.tc, F.I 0 (b + 1) (Or.inl (by decide)), F.I 0 (b + 2) (Or.inl (by decide)), ho, hi]
    rw [z_64 (by omega) (by omega), z_sub, z_64 (by omega) (by omega), show (2 : Int64) = Int64.ofInt 2 from rfl, z_Mul, z_Add, show 2 * E.fo + 2 * zs (rs E C) n + 2 * E.fi = al E n C from rfl]
    refine wp_mono (c_warm2 B S' G' (F.kc K) KBd hh hv) ?_
    intro w'' ⟨F2, v, ha, hb⟩
    refine ⟨(F.mono (by decide) (by decide) (by decide)).trans (F2.mono (by decide) (by decide) (by decide)), v, ?_, ?_⟩
    · rw [ha, F.I 0 _ (Or.inl (by decide)), ho]
    · rw [hb, F.I 0 _ (Or.inl (by decide)), hi]
end CW
