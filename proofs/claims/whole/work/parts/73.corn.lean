/-! STEPS: curve, table -/
def addC (E : En) (c : Nat) (x y : Int) : En := (En.mk_ (ud E.cn c (E.cn c + 1)) (uc E.X c (E.cn c) x) (uc E.Y c (E.cn c) y) E.vp E.lq E.ld E.fo E.fi E.cl)
theorem Cor_add {c : Nat} {X Y X' Y' : Nat → Int} {top x y : Int} (hc : Cor c X Y top) (h8 : c < 8) (hup : c = 0 ∨ (X (c - 1) < x ∧ Y (c - 1) < y)) (hx : -5000 ≤ x ∧ x ≤ 1000000) (hy : 0 ≤ y ∧ y ≤ top) (eX : ∀ j, j < c → X' j = X j) (eY : ∀ j, j < c → Y' j = Y j) (eXc : X' c = x) (eYc : Y' c = y) : Cor (c + 1) X' Y' top := by
  refine ⟨by omega, fun i hi => ?_, fun i hi => ?_⟩
  · by_cases e : i + 1 = c
    · subst e
      rw [eXc, eYc, eX i (by omega), eY i (by omega)]
      rcases hup with h | h
      · omega
      · rw [Nat.add_sub_cancel] at h; exact h
    · rw [eX i (by omega), eY i (by omega), eX (i + 1) (by omega), eY (i + 1) (by omega)]
      exact hc.2.1 i (by omega)
  · by_cases e : i = c
    · subst e; rw [eXc, eYc]; omega
    · rw [eX i (by omega), eY i (by omega)]; exact hc.2.2 i (by omega)
section CRN
variable {T T1 T2 : x_T} {w w' : x_W} {n : Nat} {A : Ab} {E : En}
abbrev canC (E : En) (c : Nat) (x y : Int32) : Prop := E.cn c < (if c = 6 then 8 else 7) ∧ (E.cn c = 0 ∨ (E.X c (E.cn c - 1) < x.toInt ∧ E.Y c (E.cn c - 1) < y.toInt))
theorem c_canAdd (G : EC T w E) {c : Nat} (hc : c < 7) (h8 : E.cn c ≤ 8) (x y : Int32) : (canC E c x y → f_Corners_canAdd T w (3 + 4 * c) x y = some 1) ∧ (¬ canC E c x y → f_Corners_canAdd T w (3 + 4 * c) x y = some 0) := by
  obtain ⟨g1, g2, g3, g4, g5, g6, g7⟩ := G.c c hc
  have b0 : x_bo (0 : Int32) = some () := rfl
  have b1 : x_bo (1 : Int32) = some () := rfl
  have hl : (if c = 6 then 8 else 7) < 100000 := by split <;> omega
  have key : f_Corners_canAdd T w (3 + 4 * c) x y = if E.cn c < (if c = 6 then 8 else 7) then (if E.cn c = 0 then some 1 else if x.toInt ≤ E.X c (E.cn c - 1) then some 0 else if y.toInt ≤ E.Y c (E.cn c - 1) then some 0 else some 1) else some 0 := by
    unfold f_Corners_canAdd f_Corners_canAdd_50 f_Corners_canAdd_54 f_Corners_canAdd_55
    rw [t_is g1, Option.bind_some, g6, g7]
    by_cases h1 : E.cn c < (if c = 6 then 8 else 7)
    · rw [if_pos h1, if_pos ((nI_ltS (by omega) hl).mpr h1)]
      by_cases h2 : E.cn c = 0
      · rw [if_pos h2, if_pos ((nI_z0 _ (by omega)).mpr h2), b1]; rfl
      · have vx := (G.x c hc (E.cn c - 1) (by omega)).1
        have vy := (G.x c hc (E.cn c - 1) (by omega)).2
        rw [if_neg h2, if_neg (fun q => h2 ((nI_z0 _ (by omega)).mp q)), g2, g3, nI_sub1 (by omega)]
        simp only [Option.bind_some, t_ixn g4 (show E.cn c - 1 < 8 by omega) (by omega), t_ixn g5 (show E.cn c - 1 < 8 by omega) (by omega), nI_clampS (show E.cn c - 1 < 100000 by omega), z_le, vx, vy, b0, b1]
    · rw [if_neg h1, if_neg (fun q => h1 ((nI_ltS (by omega) hl).mp q))]
  unfold canC
  rw [key]
  constructor
  · intro ⟨h1, h2⟩
    rw [if_pos h1]
    rcases h2 with h2 | h2
    · rw [if_pos h2]
    · by_cases h3 : E.cn c = 0
      · rw [if_pos h3]
      · rw [if_neg h3, if_neg (by omega), if_neg (by omega)]
  · intro hn
    by_cases h1 : E.cn c < (if c = 6 then 8 else 7)
    · rw [if_pos h1]
      have h2 : ¬ (E.cn c = 0 ∨ (E.X c (E.cn c - 1) < x.toInt ∧ E.Y c (E.cn c - 1) < y.toInt)) := fun q => hn ⟨h1, q⟩
      rw [if_neg (fun q => h2 (Or.inl q))]
      by_cases h3 : x.toInt ≤ E.X c (E.cn c - 1)
      · rw [if_pos h3]
      · rw [if_neg h3, if_pos (by omega)]
    · rw [if_neg h1]
theorem c_add (G : EC T w E) {c : Nat} (hc : c < 7) (h8 : E.cn c < 8) (x y : Int32) : f_Corners_add T w (3 + 4 * c) x y = some (nI (E.cn c + 1), x_sI (x_sA (x_sA w (4 + 4 * c) (E.cn c) x) (5 + 4 * c) (E.cn c) y) 28 (3 + 4 * c) (nI (E.cn c + 1))) := by
  obtain ⟨g1, g2, g3, g4, g5, g6, g7⟩ := G.c c hc
  unfold f_Corners_add f_Corners_add_42
  simp only [t_is g1, Option.bind_some, g2, t_len g4, g6]
  rw [if_neg (by rw [nI_leS (by omega) (by omega)]; omega)]
  simp only [t_ixn g4 h8 (by omega), t_ixn g5 h8 (by omega), Option.bind_some, x_R_sA, x_I_sA, g3, g6, nI_clampS (show E.cn c < 100000 by omega), nI_inc]
  rw [x_I_sI, if_pos ⟨rfl, rfl⟩]
theorem EC_add (G : EC T w E) {c : Nat} (hc : c < 7) (x y : Int32) : EC T (x_sI (x_sA (x_sA w (4 + 4 * c) (E.cn c) x) (5 + 4 * c) (E.cn c) y) 28 (3 + 4 * c) (nI (E.cn c + 1))) (addC E c x.toInt y.toInt) := by
  refine ⟨fun m hm => ?_, fun d hd => ?_, fun d hd j hj => ?_, G.s, G.r43, G.r44, G.r45, G.r46, G.r47, G.r48, G.r49, G.a, fun j h hj hh => ?_, G.o, G.i⟩
  · simpa [wp_some, wp_bind, x_I_sI, x_J_sJ, x_R_sR, x_A_sA, x_B_sB, x_I_sJ, x_I_sR, x_I_sA, x_I_sB, x_J_sI, x_J_sR, x_J_sA, x_J_sB, x_R_sI, x_R_sJ, x_R_sA, x_R_sB, x_A_sI, x_A_sJ, x_A_sR, x_A_sB, x_B_sI, x_B_sJ, x_B_sR, x_B_sA, x_Q_sI, x_Q_sJ, x_Q_sR, x_Q_sA, x_Q_sB, En.cn_mk, En.X_mk, En.Y_mk, En.vp_mk, En.lq_mk, En.ld_mk, En.fo_mk, En.fi_mk, En.cl_mk, Ce.mt_mk, Ce.th_mk, Ce.lk_mk, Ce.hd_mk, Ab.E_mk, Ab.C_mk, Ab.wm_mk, Ab.ps_mk, Ab.fz_mk, Ab.gd_mk, Ab.gn_mk, Ab.g1_mk, Ab.g2_mk, Ab.g3_mk, Ab.g4_mk, Ab.hr_mk, Ab.mo_mk, Ab.st_mk, Ab.og_mk, Ab.oc_mk, Ab.ig_mk, Ab.ic_mk, addC] using G.m m hm
  · obtain ⟨g1, g2, g3, g4, g5, g6, g7⟩ := G.c d hd
    refine ⟨g1, g2, g3, g4, g5, ?_, ?_⟩
    · rw [x_I_sI]
      show _ = nI (ud E.cn c (E.cn c + 1) d)
      by_cases e : d = c
      · subst e; rw [if_pos ⟨rfl, rfl⟩, ud_s]
      · rw [if_neg (by omega), ud_o _ _ e]; exact g6
    · rw [x_I_sI, if_neg (by omega)]; exact g7
  · rw [x_A_sI, x_A_sA, x_A_sA, x_A_sI, x_A_sA, x_A_sA]
    show _ = uc E.X c (E.cn c) x.toInt d j ∧ _ = uc E.Y c (E.cn c) y.toInt d j
    have hj' : j < ud E.cn c (E.cn c + 1) d := hj
    by_cases e : d = c ∧ j = E.cn c
    · obtain ⟨rfl, rfl⟩ := e
      rw [if_neg (by omega), if_pos ⟨rfl, rfl⟩, if_pos ⟨rfl, rfl⟩, uc_s, uc_s]
      exact ⟨rfl, rfl⟩
    · rw [if_neg (by omega), if_neg (by omega), if_neg (by omega), if_neg (by omega), uc_o _ _ e, uc_o _ _ e]
      refine G.x d hd j ?_
      by_cases e2 : d = c
      · subst e2; rw [ud_s] at hj'; omega
      · rwa [ud_o _ _ e2] at hj'
  · rw [x_A_sI, x_A_sA, if_neg (by omega), x_A_sA, if_neg (by omega)]; exact G.v j h hj hh
theorem ER_addM (G : ER T w E n) {m : Nat} (hm : m < 6) (h7 : E.cn m < 7) (hcn : ∀ i, i < 6 → E.cn i ≤ 7) (x y : Int32) : ER T (x_sA (x_sA (x_sA w 2 (7 * m + E.cn m) x) 3 (7 * m + E.cn m) y) 1 m (nI (E.cn m + 1))) (addC E m x.toInt y.toInt) n := by
  refine ⟨G.r, G.n, fun i hi => ?_, fun i hi j hj => ?_, ?_, fun j hj => ?_, fun i hi => ?_, G.o, G.i, fun j h hj hh => ?_⟩
  · rw [x_A_sA]
    show _ = nI (ud E.cn m (E.cn m + 1) i)
    by_cases e : i = m
    · subst e; rw [if_pos ⟨rfl, rfl⟩, ud_s]
    · rw [if_neg (by omega), ud_o _ _ e, x_A_sA, if_neg (by omega), x_A_sA, if_neg (by omega)]; exact G.cn i hi
  · rw [x_A_sA, x_A_sA, x_A_sA, x_A_sA, x_A_sA, x_A_sA]
    show _ = uc E.X m (E.cn m) x.toInt i j ∧ _ = uc E.Y m (E.cn m) y.toInt i j
    have hj' : j < ud E.cn m (E.cn m + 1) i := hj
    by_cases e : i = m ∧ j = E.cn m
    · obtain ⟨rfl, rfl⟩ := e
      rw [if_neg (by omega), if_neg (by omega), if_pos ⟨rfl, rfl⟩, if_neg (by omega), if_pos ⟨rfl, rfl⟩, uc_s, uc_s]
      exact ⟨rfl, rfl⟩
    · have hj2 : j < E.cn i := by
        by_cases e2 : i = m
        · subst e2; rw [ud_s] at hj'; omega
        · rwa [ud_o _ _ e2] at hj'
      have h3 := hcn i hi
      have ne : ¬ 7 * i + j = 7 * m + E.cn m := by omega
      rw [if_neg (by omega), if_neg (by omega), if_neg (fun q => ne q.2), if_neg (by omega), if_neg (fun q => ne q.2), if_neg (by omega), uc_o _ _ e, uc_o _ _ e]
      exact G.x i hi j hj2
  · show _ = nI (ud E.cn m (E.cn m + 1) 6)
    rw [ud_o _ _ (by omega)]; exact G.tn
  · have hj' : j < ud E.cn m (E.cn m + 1) 6 := hj
    rw [ud_o _ _ (by omega)] at hj'
    rw [x_A_sA, x_A_sA, x_A_sA, x_A_sA, x_A_sA, x_A_sA, if_neg (by omega), if_neg (by omega), if_neg (by omega), if_neg (by omega), if_neg (by omega), if_neg (by omega)]
    show _ = uc E.X m (E.cn m) x.toInt 6 j ∧ _ = uc E.Y m (E.cn m) y.toInt 6 j
    rw [uc_o _ _ (by omega), uc_o _ _ (by omega)]
    exact G.tx j hj'
  · simpa [wp_some, wp_bind, x_I_sI, x_J_sJ, x_R_sR, x_A_sA, x_B_sB, x_I_sJ, x_I_sR, x_I_sA, x_I_sB, x_J_sI, x_J_sR, x_J_sA, x_J_sB, x_R_sI, x_R_sJ, x_R_sA, x_R_sB, x_A_sI, x_A_sJ, x_A_sR, x_A_sB, x_B_sI, x_B_sJ, x_B_sR, x_B_sA, x_Q_sI, x_Q_sJ, x_Q_sR, x_Q_sA, x_Q_sB, En.cn_mk, En.X_mk, En.Y_mk, En.vp_mk, En.lq_mk, En.ld_mk, En.fo_mk, En.fi_mk, En.cl_mk, Ce.mt_mk, Ce.th_mk, Ce.lk_mk, Ce.hd_mk, Ab.E_mk, Ab.C_mk, Ab.wm_mk, Ab.ps_mk, Ab.fz_mk, Ab.gd_mk, Ab.gn_mk, Ab.g1_mk, Ab.g2_mk, Ab.g3_mk, Ab.g4_mk, Ab.hr_mk, Ab.mo_mk, Ab.st_mk, Ab.og_mk, Ab.oc_mk, Ab.ig_mk, Ab.ic_mk, addC] using G.rt i hi
  · rw [x_A_sA, x_A_sA, x_A_sA, if_neg (by omega), if_neg (by omega), if_neg (by omega)]; exact G.v j h hj hh
theorem ER_addT (G : ER T w E n) (h8 : E.cn 6 < 8) (x y : Int32) : ER T (x_sI (x_sA (x_sA w 15 (E.cn 6) x) 16 (E.cn 6) y) 80 0 (nI (E.cn 6 + 1))) (addC E 6 x.toInt y.toInt) n := by
  refine ⟨G.r, ?_, fun i hi => ?_, fun i hi j hj => ?_, ?_, fun j hj => ?_, fun i hi => ?_, ?_, ?_, fun j h hj hh => ?_⟩
  · simpa [wp_some, wp_bind, x_I_sI, x_J_sJ, x_R_sR, x_A_sA, x_B_sB, x_I_sJ, x_I_sR, x_I_sA, x_I_sB, x_J_sI, x_J_sR, x_J_sA, x_J_sB, x_R_sI, x_R_sJ, x_R_sA, x_R_sB, x_A_sI, x_A_sJ, x_A_sR, x_A_sB, x_B_sI, x_B_sJ, x_B_sR, x_B_sA, x_Q_sI, x_Q_sJ, x_Q_sR, x_Q_sA, x_Q_sB, En.cn_mk, En.X_mk, En.Y_mk, En.vp_mk, En.lq_mk, En.ld_mk, En.fo_mk, En.fi_mk, En.cl_mk, Ce.mt_mk, Ce.th_mk, Ce.lk_mk, Ce.hd_mk, Ab.E_mk, Ab.C_mk, Ab.wm_mk, Ab.ps_mk, Ab.fz_mk, Ab.gd_mk, Ab.gn_mk, Ab.g1_mk, Ab.g2_mk, Ab.g3_mk, Ab.g4_mk, Ab.hr_mk, Ab.mo_mk, Ab.st_mk, Ab.og_mk, Ab.oc_mk, Ab.ig_mk, Ab.ic_mk] using G.n
  · show _ = nI (ud E.cn 6 (E.cn 6 + 1) i)
    rw [ud_o _ _ (by omega)]
    simpa [wp_some, wp_bind, x_I_sI, x_J_sJ, x_R_sR, x_A_sA, x_B_sB, x_I_sJ, x_I_sR, x_I_sA, x_I_sB, x_J_sI, x_J_sR, x_J_sA, x_J_sB, x_R_sI, x_R_sJ, x_R_sA, x_R_sB, x_A_sI, x_A_sJ, x_A_sR, x_A_sB, x_B_sI, x_B_sJ, x_B_sR, x_B_sA, x_Q_sI, x_Q_sJ, x_Q_sR, x_Q_sA, x_Q_sB, En.cn_mk, En.X_mk, En.Y_mk, En.vp_mk, En.lq_mk, En.ld_mk, En.fo_mk, En.fi_mk, En.cl_mk, Ce.mt_mk, Ce.th_mk, Ce.lk_mk, Ce.hd_mk, Ab.E_mk, Ab.C_mk, Ab.wm_mk, Ab.ps_mk, Ab.fz_mk, Ab.gd_mk, Ab.gn_mk, Ab.g1_mk, Ab.g2_mk, Ab.g3_mk, Ab.g4_mk, Ab.hr_mk, Ab.mo_mk, Ab.st_mk, Ab.og_mk, Ab.oc_mk, Ab.ig_mk, Ab.ic_mk] using G.cn i hi
  · have hj' : j < ud E.cn 6 (E.cn 6 + 1) i := hj
    rw [ud_o _ _ (by omega)] at hj'
    show _ = uc E.X 6 (E.cn 6) x.toInt i j ∧ _ = uc E.Y 6 (E.cn 6) y.toInt i j
    rw [uc_o _ _ (by omega), uc_o _ _ (by omega)]
    simpa [wp_some, wp_bind, x_I_sI, x_J_sJ, x_R_sR, x_A_sA, x_B_sB, x_I_sJ, x_I_sR, x_I_sA, x_I_sB, x_J_sI, x_J_sR, x_J_sA, x_J_sB, x_R_sI, x_R_sJ, x_R_sA, x_R_sB, x_A_sI, x_A_sJ, x_A_sR, x_A_sB, x_B_sI, x_B_sJ, x_B_sR, x_B_sA, x_Q_sI, x_Q_sJ, x_Q_sR, x_Q_sA, x_Q_sB, En.cn_mk, En.X_mk, En.Y_mk, En.vp_mk, En.lq_mk, En.ld_mk, En.fo_mk, En.fi_mk, En.cl_mk, Ce.mt_mk, Ce.th_mk, Ce.lk_mk, Ce.hd_mk, Ab.E_mk, Ab.C_mk, Ab.wm_mk, Ab.ps_mk, Ab.fz_mk, Ab.gd_mk, Ab.gn_mk, Ab.g1_mk, Ab.g2_mk, Ab.g3_mk, Ab.g4_mk, Ab.hr_mk, Ab.mo_mk, Ab.st_mk, Ab.og_mk, Ab.oc_mk, Ab.ig_mk, Ab.ic_mk] using G.x i hi j hj'
  · show _ = nI (ud E.cn 6 (E.cn 6 + 1) 6)
    rw [ud_s, x_I_sI, if_pos ⟨rfl, rfl⟩]
  · have hj' : j < ud E.cn 6 (E.cn 6 + 1) 6 := hj
    rw [ud_s] at hj'
    rw [x_A_sI, x_A_sI, x_A_sA, x_A_sA, x_A_sA, x_A_sA]
    show _ = uc E.X 6 (E.cn 6) x.toInt 6 j ∧ _ = uc E.Y 6 (E.cn 6) y.toInt 6 j
    by_cases e : j = E.cn 6
    · subst e
      rw [if_neg (by omega), if_pos ⟨rfl, rfl⟩, if_pos ⟨rfl, rfl⟩, uc_s, uc_s]
      exact ⟨rfl, rfl⟩
    · rw [if_neg (by omega), if_neg (by omega), if_neg (by omega), if_neg (by omega), uc_o _ _ (by omega), uc_o _ _ (by omega)]
      exact G.tx j (by omega)
  · simpa [wp_some, wp_bind, x_I_sI, x_J_sJ, x_R_sR, x_A_sA, x_B_sB, x_I_sJ, x_I_sR, x_I_sA, x_I_sB, x_J_sI, x_J_sR, x_J_sA, x_J_sB, x_R_sI, x_R_sJ, x_R_sA, x_R_sB, x_A_sI, x_A_sJ, x_A_sR, x_A_sB, x_B_sI, x_B_sJ, x_B_sR, x_B_sA, x_Q_sI, x_Q_sJ, x_Q_sR, x_Q_sA, x_Q_sB, En.cn_mk, En.X_mk, En.Y_mk, En.vp_mk, En.lq_mk, En.ld_mk, En.fo_mk, En.fi_mk, En.cl_mk, Ce.mt_mk, Ce.th_mk, Ce.lk_mk, Ce.hd_mk, Ab.E_mk, Ab.C_mk, Ab.wm_mk, Ab.ps_mk, Ab.fz_mk, Ab.gd_mk, Ab.gn_mk, Ab.g1_mk, Ab.g2_mk, Ab.g3_mk, Ab.g4_mk, Ab.hr_mk, Ab.mo_mk, Ab.st_mk, Ab.og_mk, Ab.oc_mk, Ab.ig_mk, Ab.ic_mk, addC] using G.rt i hi
  · simpa [wp_some, wp_bind, x_I_sI, x_J_sJ, x_R_sR, x_A_sA, x_B_sB, x_I_sJ, x_I_sR, x_I_sA, x_I_sB, x_J_sI, x_J_sR, x_J_sA, x_J_sB, x_R_sI, x_R_sJ, x_R_sA, x_R_sB, x_A_sI, x_A_sJ, x_A_sR, x_A_sB, x_B_sI, x_B_sJ, x_B_sR, x_B_sA, x_Q_sI, x_Q_sJ, x_Q_sR, x_Q_sA, x_Q_sB, En.cn_mk, En.X_mk, En.Y_mk, En.vp_mk, En.lq_mk, En.ld_mk, En.fo_mk, En.fi_mk, En.cl_mk, Ce.mt_mk, Ce.th_mk, Ce.lk_mk, Ce.hd_mk, Ab.E_mk, Ab.C_mk, Ab.wm_mk, Ab.ps_mk, Ab.fz_mk, Ab.gd_mk, Ab.gn_mk, Ab.g1_mk, Ab.g2_mk, Ab.g3_mk, Ab.g4_mk, Ab.hr_mk, Ab.mo_mk, Ab.st_mk, Ab.og_mk, Ab.oc_mk, Ab.ig_mk, Ab.ic_mk, addC] using G.o
  · simpa [wp_some, wp_bind, x_I_sI, x_J_sJ, x_R_sR, x_A_sA, x_B_sB, x_I_sJ, x_I_sR, x_I_sA, x_I_sB, x_J_sI, x_J_sR, x_J_sA, x_J_sB, x_R_sI, x_R_sJ, x_R_sA, x_R_sB, x_A_sI, x_A_sJ, x_A_sR, x_A_sB, x_B_sI, x_B_sJ, x_B_sR, x_B_sA, x_Q_sI, x_Q_sJ, x_Q_sR, x_Q_sA, x_Q_sB, En.cn_mk, En.X_mk, En.Y_mk, En.vp_mk, En.lq_mk, En.ld_mk, En.fo_mk, En.fi_mk, En.cl_mk, Ce.mt_mk, Ce.th_mk, Ce.lk_mk, Ce.hd_mk, Ab.E_mk, Ab.C_mk, Ab.wm_mk, Ab.ps_mk, Ab.fz_mk, Ab.gd_mk, Ab.gn_mk, Ab.g1_mk, Ab.g2_mk, Ab.g3_mk, Ab.g4_mk, Ab.hr_mk, Ab.mo_mk, Ab.st_mk, Ab.og_mk, Ab.oc_mk, Ab.ig_mk, Ab.ic_mk, addC] using G.i
  · rw [x_A_sI, x_A_sA, x_A_sA, if_neg (by omega), if_neg (by omega)]; exact G.v j h hj hh
theorem EB_add (B : EB E) {c : Nat} (hc : c < 7) {x y : Int32} (h : canC E c x y) (hx : -5000 ≤ x.toInt ∧ x.toInt ≤ 1000000) (hy : 0 ≤ y.toInt ∧ y.toInt ≤ (if c = 6 then 100000 else 10000)) : EB (addC E c x.toInt y.toInt) := by
  have h8 := h.1
  refine ⟨fun m hm => ?_, ?_, B.rt, B.fm, B.c0, B.c1, B.c2, B.c3, B.c4, B.c5⟩
  · obtain ⟨q1, q2, q3, q4⟩ := B.cor m hm
    show Cor (ud E.cn c (E.cn c + 1) m) (uc E.X c (E.cn c) x.toInt m) (uc E.Y c (E.cn c) y.toInt m) 10000 ∧ 1 ≤ ud E.cn c (E.cn c + 1) m ∧ ud E.cn c (E.cn c + 1) m ≤ 7 ∧ uc E.X c (E.cn c) x.toInt m 0 = 0
    by_cases e : m = c
    · subst e
      rw [if_neg (by omega)] at h8 hy
      rw [ud_s, uc_o _ _ (by omega)]
      refine ⟨Cor_add q1 (by omega) h.2 hx hy (fun j hj => uc_o _ _ (by omega)) (fun j hj => uc_o _ _ (by omega)) (uc_s _ _ _ _) (uc_s _ _ _ _), by omega, by omega, q4⟩
    · have f1 : uc E.X c (E.cn c) x.toInt m = E.X m := funext (fun j => uc_o _ _ (fun q => e q.1))
      have f2 : uc E.Y c (E.cn c) y.toInt m = E.Y m := funext (fun j => uc_o _ _ (fun q => e q.1))
      rw [ud_o _ _ e, f1, f2]
      exact ⟨q1, q2, q3, q4⟩
  · show Cor (ud E.cn c (E.cn c + 1) 6) (uc E.X c (E.cn c) x.toInt 6) (uc E.Y c (E.cn c) y.toInt 6) 100000
    by_cases e : 6 = c
    · subst e
      rw [if_pos rfl] at h8 hy
      rw [ud_s]
      exact Cor_add B.tab (by omega) h.2 hx hy (fun j hj => uc_o _ _ (by omega)) (fun j hj => uc_o _ _ (by omega)) (uc_s _ _ _ _) (uc_s _ _ _ _)
    · have f1 : uc E.X c (E.cn c) x.toInt 6 = E.X 6 := funext (fun j => uc_o _ _ (fun q => e q.1))
      have f2 : uc E.Y c (E.cn c) y.toInt 6 = E.Y 6 := funext (fun j => uc_o _ _ (fun q => e q.1))
      rw [ud_o _ _ e, f1, f2]
      exact B.tab
theorem mo_add (B : EB E) {c : Nat} {x y : Int32} (h : canC E c x y) : ∀ m, m < 6 → moE E m ≤ moE (addC E c x.toInt y.toInt) m := by
  intro m hm
  obtain ⟨q1, q2, q3, q4⟩ := B.cor m hm
  show E.X m (E.cn m - 1) ≤ uc E.X c (E.cn c) x.toInt m (ud E.cn c (E.cn c + 1) m - 1)
  by_cases e : m = c
  · subst e
    rw [ud_s, Nat.add_sub_cancel, uc_s]
    have := h.2
    omega
  · rw [ud_o _ _ e, uc_o _ _ (fun q => e q.1)]
    exact Int.le_refl _
theorem SC_add (S : SC T w n A) {c : Nat} (hc : c < 7) (x y : Int32) : SC T (x_sI (x_sA (x_sA w (4 + 4 * c) (A.E.cn c) x) (5 + 4 * c) (A.E.cn c) y) 28 (3 + 4 * c) (nI (A.E.cn c + 1))) n (Ab.mk_ (addC A.E c x.toInt y.toInt) A.C A.wm A.ps A.fz A.gd A.gn A.g1 A.g2 A.g3 A.g4 A.hr A.mo A.st A.og A.oc A.ig A.ic) :=
  S.env (fun k h a _ _ _ _ _ => by rw [x_I_sI, if_neg (fun q => a q.1)]; rfl) (fun _ _ => rfl) (fun _ _ => rfl) (fun _ _ => rfl) (fun i j hi => by rw [x_A_sI, x_A_sA, if_neg (by omega), x_A_sA, if_neg (by omega)]) (EC_add S.e hc x y)
theorem ok_a {O : Nat} {w1 w2 : x_W} (hO : O = 62 + 6 * n) {A' : Ab} (B : AB n A') (S : SC T1 w1 n A') (R : SR T2 w2 n A') (v : Int32) (h64 : x_I w2 64 0 = 0) {o1 : Option (Int32 × x_W)} {o2 : Option (Int32 × x_W)} (h1 : o1 = some (0, x_sB w1 O 0 v.toInt64)) (h2 : o2 = some (v, w2)) : ∃ r1 r2, o1 = some r1 ∧ o2 = some r2 ∧ f_Mod_thrown T2 r2.2 0 = some r1.1 ∧ (r1.1 = 0 → x_B r1.2 O (0 : Int32).toNatClampNeg = r2.1.toInt64) ∧ Sim T1 T2 n r1.2 r2.2 :=
  ⟨_, _, h1, h2, thr R _ _ h64, fun _ => by show x_B (x_sB w1 O 0 _) O 0 = _; simp [wp_some, wp_bind, x_I_sI, x_J_sJ, x_R_sR, x_A_sA, x_B_sB, x_I_sJ, x_I_sR, x_I_sA, x_I_sB, x_J_sI, x_J_sR, x_J_sA, x_J_sB, x_R_sI, x_R_sJ, x_R_sA, x_R_sB, x_A_sI, x_A_sJ, x_A_sR, x_A_sB, x_B_sI, x_B_sJ, x_B_sR, x_B_sA, x_Q_sI, x_Q_sJ, x_Q_sR, x_Q_sA, x_Q_sB, En.cn_mk, En.X_mk, En.Y_mk, En.vp_mk, En.lq_mk, En.ld_mk, En.fo_mk, En.fi_mk, En.cl_mk, Ce.mt_mk, Ce.th_mk, Ce.lk_mk, Ce.hd_mk, Ab.E_mk, Ab.C_mk, Ab.wm_mk, Ab.ps_mk, Ab.fz_mk, Ab.gd_mk, Ab.gn_mk, Ab.g1_mk, Ab.g2_mk, Ab.g3_mk, Ab.g4_mk, Ab.hr_mk, Ab.mo_mk, Ab.st_mk, Ab.og_mk, Ab.oc_mk, Ab.ig_mk, Ab.ic_mk], A', B, S.out _ _ _, R⟩
theorem out_ix (S : CT T w n) : x_ix T (62 + 6 * n) 101 0 = some () := by rw [show (0 : Int32) = nI 0 from rfl, t_ixn S.to (by omega) (by omega)]
theorem step_table : x_step3 T1 T2 0 (62 + 6 * n) 0 (Sim T1 T2 n) := by
  intro w1 w2 p1 p2 ⟨A, B, S, R⟩
  have hR := R.e.r
  have G := S.e
  have G2 := R.e
  have c8 := B.e.tab.1
  by_cases h1 : -5000 ≤ p1.toInt ∧ p1.toInt ≤ 10000
  · by_cases h2 : 0 ≤ p2.toInt ∧ p2.toInt ≤ 100000
    · have ref : f_Mod_table T2 w2 0 p1 p2 = f_Mod_table_92 T2 w2 0 p1 p2 0 (if canC A.E 6 p1 p2 then 0 else 2) := by
        simp only [q_within, q_in, l0, l1, l5, l23, l48, l240, l1000, l5000, lm5000, l10000, l100000, l1000000, L0, L1, L5, L23, L48, L240, L1000, L5000, Lm5000, L10000, L100000, L1000000, Int32.toInt_toInt64, Option.bind_some, f_Mod_table, f_Mod_table_31, f_Mod_table_91, f_Mod_table_87, if_pos h1, if_pos h2, one_ne, if_false, hR.i, G2.tn, hR.r81, hR.r82]
        by_cases h8 : A.E.cn 6 = 8
        · rw [if_pos (show nI (A.E.cn 6) = 8 by rw [h8]; rfl), if_neg (show ¬ canC A.E 6 p1 p2 from fun q => by have := q.1; rw [if_pos rfl] at this; omega)]
        · rw [if_neg (show ¬ nI (A.E.cn 6) = 8 from fun q => h8 ((nI_eqS (b := 8) (by omega) (by omega)).mp q))]
          by_cases h0 : A.E.cn 6 = 0
          · rw [if_pos ((nI_le0 _ (by omega)).mpr (by omega)), if_pos (show canC A.E 6 p1 p2 from ⟨by rw [if_pos rfl]; omega, Or.inl h0⟩)]
          · have vx := (G2.tx (A.E.cn 6 - 1) (by omega)).1
            have vy := (G2.tx (A.E.cn 6 - 1) (by omega)).2
            rw [if_neg (fun q => (nI_le0 _ (by omega)).mp q (by omega)), nI_sub1 (by omega)]
            simp only [t_ixn hR.a15 (show A.E.cn 6 - 1 < 8 by omega) (by omega), t_ixn hR.a16 (show A.E.cn 6 - 1 < 8 by omega) (by omega), Option.bind_some, nI_clampS (show A.E.cn 6 - 1 < 100000 by omega), z_le, z_lt, vx, vy]
            by_cases hx : p1.toInt ≤ A.E.X 6 (A.E.cn 6 - 1)
            · rw [if_pos hx, if_neg (show ¬ canC A.E 6 p1 p2 from fun q => by rcases q.2 with z | z <;> omega)]
            · rw [if_neg hx]
              by_cases hy : A.E.Y 6 (A.E.cn 6 - 1) < p2.toInt
              · rw [if_pos hy, if_pos (show canC A.E 6 p1 p2 from ⟨by rw [if_pos rfl]; omega, Or.inr ⟨by omega, hy⟩⟩)]
              · rw [if_neg hy, if_neg (show ¬ canC A.E 6 p1 p2 from fun q => by rcases q.2 with z | z <;> omega)]
      by_cases hcan : canC A.E 6 p1 p2
      · have h8 : A.E.cn 6 < 8 := by have := hcan.1; simpa [wp_some, wp_bind, x_I_sI, x_J_sJ, x_R_sR, x_A_sA, x_B_sB, x_I_sJ, x_I_sR, x_I_sA, x_I_sB, x_J_sI, x_J_sR, x_J_sA, x_J_sB, x_R_sI, x_R_sJ, x_R_sA, x_R_sB, x_A_sI, x_A_sJ, x_A_sR, x_A_sB, x_B_sI, x_B_sJ, x_B_sR, x_B_sA, x_Q_sI, x_Q_sJ, x_Q_sR, x_Q_sA, x_Q_sB, En.cn_mk, En.X_mk, En.Y_mk, En.vp_mk, En.lq_mk, En.ld_mk, En.fo_mk, En.fi_mk, En.cl_mk, Ce.mt_mk, Ce.th_mk, Ce.lk_mk, Ce.hd_mk, Ab.E_mk, Ab.C_mk, Ab.wm_mk, Ab.ps_mk, Ab.fz_mk, Ab.gd_mk, Ab.gn_mk, Ab.g1_mk, Ab.g2_mk, Ab.g3_mk, Ab.g4_mk, Ab.hr_mk, Ab.mo_mk, Ab.st_mk, Ab.og_mk, Ab.oc_mk, Ab.ig_mk, Ab.ic_mk] using this
        refine ok_a rfl (ab_env B (EB_add B.e (c := 6) (by omega) hcan (by omega) (by simpa [wp_some, wp_bind, x_I_sI, x_J_sJ, x_R_sR, x_A_sA, x_B_sB, x_I_sJ, x_I_sR, x_I_sA, x_I_sB, x_J_sI, x_J_sR, x_J_sA, x_J_sB, x_R_sI, x_R_sJ, x_R_sA, x_R_sB, x_A_sI, x_A_sJ, x_A_sR, x_A_sB, x_B_sI, x_B_sJ, x_B_sR, x_B_sA, x_Q_sI, x_Q_sJ, x_Q_sR, x_Q_sA, x_Q_sB, En.cn_mk, En.X_mk, En.Y_mk, En.vp_mk, En.lq_mk, En.ld_mk, En.fo_mk, En.fi_mk, En.cl_mk, Ce.mt_mk, Ce.th_mk, Ce.lk_mk, Ce.hd_mk, Ab.E_mk, Ab.C_mk, Ab.wm_mk, Ab.ps_mk, Ab.fz_mk, Ab.gd_mk, Ab.gn_mk, Ab.g1_mk, Ab.g2_mk, Ab.g3_mk, Ab.g4_mk, Ab.hr_mk, Ab.mo_mk, Ab.st_mk, Ab.og_mk, Ab.oc_mk, Ab.ig_mk, Ab.ic_mk] using h2)) (mo_add B.e hcan)) (SC_add S (c := 6) (by omega) p1 p2) (w2 := x_sI (x_sA (x_sA (x_sI w2 64 0 0) 15 (A.E.cn 6) p1) 16 (A.E.cn 6) p2) 80 0 (nI (A.E.cn 6 + 1))) ?_ (nI (A.E.cn 6 + 1)) (by simp [wp_some, wp_bind, x_I_sI, x_J_sJ, x_R_sR, x_A_sA, x_B_sB, x_I_sJ, x_I_sR, x_I_sA, x_I_sB, x_J_sI, x_J_sR, x_J_sA, x_J_sB, x_R_sI, x_R_sJ, x_R_sA, x_R_sB, x_A_sI, x_A_sJ, x_A_sR, x_A_sB, x_B_sI, x_B_sJ, x_B_sR, x_B_sA, x_Q_sI, x_Q_sJ, x_Q_sR, x_Q_sA, x_Q_sB, En.cn_mk, En.X_mk, En.Y_mk, En.vp_mk, En.lq_mk, En.ld_mk, En.fo_mk, En.fi_mk, En.cl_mk, Ce.mt_mk, Ce.th_mk, Ce.lk_mk, Ce.hd_mk, Ab.E_mk, Ab.C_mk, Ab.wm_mk, Ab.ps_mk, Ab.fz_mk, Ab.gd_mk, Ab.gn_mk, Ab.g1_mk, Ab.g2_mk, Ab.g3_mk, Ab.g4_mk, Ab.hr_mk, Ab.mo_mk, Ab.st_mk, Ab.og_mk, Ab.oc_mk, Ab.ig_mk, Ab.ic_mk]) ?_ ?_
        · have X : Gx [64, 80] [] [15, 16] [] w2 (x_sI (x_sA (x_sA (x_sI w2 64 0 0) 15 (A.E.cn 6) p1) 16 (A.E.cn 6) p2) 80 0 (nI (A.E.cn 6 + 1))) := ((((Gx.refl _ _ _ _ w2).sI (by decide)).sA (by decide)).sA (by decide)).sI (by decide)
          exact R.env X (by decide) (by decide) (ER_addT (ER_th R.e 0) h8 p1 p2)
        · have e1 := (c_canAdd G (c := 6) (by omega) c8 p1 p2).1 hcan
          have e2 := c_add G (c := 6) (by omega) h8 p1 p2
          simp only [Nat.reduceMul, Nat.reduceAdd] at e1 e2
          simp only [q_within, q_in, l0, l1, l5, l23, l48, l240, l1000, l5000, lm5000, l10000, l100000, l1000000, L0, L1, L5, L23, L48, L240, L1000, L5000, Lm5000, L10000, L100000, L1000000, Int32.toInt_toInt64, Option.bind_some, f_Law_table, f_WD_table, f_WD_withCorner, t_is S.ct.t0, x_ec, x_cc, if_pos h1, if_pos h2, S.ct.r8, t_is G.s, G.r43, t_is (G.c 6 (by omega)).1, e1, e2, one_ne, if_false, out_ix S.ct]
          rfl
        · rw [ref, if_pos hcan]
          simp only [q_within, q_in, l0, l1, l5, l23, l48, l240, l1000, l5000, lm5000, l10000, l100000, l1000000, L0, L1, L5, L23, L48, L240, L1000, L5000, Lm5000, L10000, L100000, L1000000, Int32.toInt_toInt64, Option.bind_some, f_Mod_table_92, hR.i, th64, zer_le, if_true]
          simp only [Option.bind_some, (hR).i, (hR).r66, (hR).r67, (hR).r68, (hR).r69, (hR).r70, (hR).r71, (hR).r72, (hR).r73, (hR).r74, (hR).r75, (hR).r76, (hR).r77, (hR).r78, (hR).r79, (hR).r81, (hR).r82, (hR).r85, (hR).r86, (hR).r87, (hR).r88, (hR).r89, (hR).r90, (hR).r92, (hR).r93, (hR).r94, (hR).r95, (hR).r103, (hR).r104, (hR).r105, (hR).r108, (hR).r109, (hR).r110, (hR).r111, (hR).r112, (hR).r113, (hR).r114, x_R_sI, x_R_sJ, x_R_sA, x_R_sB]
          simp only [x_I_sI, x_I_sA, show ¬ ((80 : Nat) = 64 ∧ (0 : Nat) = 0) by omega, if_false, G2.tn, t_ixn hR.a15 h8 (by omega), t_ixn hR.a16 h8 (by omega), Option.bind_some, nI_clampS (show A.E.cn 6 < 100000 by omega), nI_inc, and_self, if_true]
          simp [wp_some, wp_bind, x_I_sI, x_J_sJ, x_R_sR, x_A_sA, x_B_sB, x_I_sJ, x_I_sR, x_I_sA, x_I_sB, x_J_sI, x_J_sR, x_J_sA, x_J_sB, x_R_sI, x_R_sJ, x_R_sA, x_R_sB, x_A_sI, x_A_sJ, x_A_sR, x_A_sB, x_B_sI, x_B_sJ, x_B_sR, x_B_sA, x_Q_sI, x_Q_sJ, x_Q_sR, x_Q_sA, x_Q_sB, En.cn_mk, En.X_mk, En.Y_mk, En.vp_mk, En.lq_mk, En.ld_mk, En.fo_mk, En.fi_mk, En.cl_mk, Ce.mt_mk, Ce.th_mk, Ce.lk_mk, Ce.hd_mk, Ab.E_mk, Ab.C_mk, Ab.wm_mk, Ab.ps_mk, Ab.fz_mk, Ab.gd_mk, Ab.gn_mk, Ab.g1_mk, Ab.g2_mk, Ab.g3_mk, Ab.g4_mk, Ab.hr_mk, Ab.mo_mk, Ab.st_mk, Ab.og_mk, Ab.oc_mk, Ab.ig_mk, Ab.ic_mk, G2.tn, t_ixn hR.a15 h8 (by omega), t_ixn hR.a16 h8 (by omega), nI_clampS (show A.E.cn 6 < 100000 by omega), nI_inc]
      · refine fail_a B S R 2 (by decide) ?_ ?_
        · have e1 := (c_canAdd G (c := 6) (by omega) c8 p1 p2).2 hcan
          simp only [Nat.reduceMul, Nat.reduceAdd] at e1
          simp only [q_within, q_in, l0, l1, l5, l23, l48, l240, l1000, l5000, lm5000, l10000, l100000, l1000000, L0, L1, L5, L23, L48, L240, L1000, L5000, Lm5000, L10000, L100000, L1000000, Int32.toInt_toInt64, Option.bind_some, f_Law_table, f_WD_table, f_WD_withCorner, t_is S.ct.t0, x_ec, x_cc, if_pos h1, if_pos h2, S.ct.r8, t_is G.s, G.r43, t_is (G.c 6 (by omega)).1, e1, zer_eq, if_true]
          rfl
        · rw [ref, if_neg hcan]
          simp only [q_within, q_in, l0, l1, l5, l23, l48, l240, l1000, l5000, lm5000, l10000, l100000, l1000000, L0, L1, L5, L23, L48, L240, L1000, L5000, Lm5000, L10000, L100000, L1000000, Int32.toInt_toInt64, Option.bind_some, f_Mod_table_92, hR.i, th64, two_le, if_false]
    · refine fail_a B S R 1 (by decide) ?_ ?_
      · simp only [q_within, q_in, l0, l1, l5, l23, l48, l240, l1000, l5000, lm5000, l10000, l100000, l1000000, L0, L1, L5, L23, L48, L240, L1000, L5000, Lm5000, L10000, L100000, L1000000, Int32.toInt_toInt64, Option.bind_some, f_Law_table, f_WD_table, t_is S.ct.t0, x_ec, x_cc, if_pos h1, if_neg h2, if_true]
      · simp only [q_within, q_in, l0, l1, l5, l23, l48, l240, l1000, l5000, lm5000, l10000, l100000, l1000000, L0, L1, L5, L23, L48, L240, L1000, L5000, Lm5000, L10000, L100000, L1000000, Int32.toInt_toInt64, Option.bind_some, f_Mod_table, f_Mod_table_30, f_Mod_table_31, f_Mod_table_92, if_pos h1, if_neg h2, one_ne, one_le, zer_eq, if_false, if_true, hR.i, th64]
  · refine fail_a B S R 1 (by decide) ?_ ?_
    · simp only [q_within, q_in, l0, l1, l5, l23, l48, l240, l1000, l5000, lm5000, l10000, l100000, l1000000, L0, L1, L5, L23, L48, L240, L1000, L5000, Lm5000, L10000, L100000, L1000000, Int32.toInt_toInt64, Option.bind_some, f_Law_table, f_WD_table, t_is S.ct.t0, x_ec, x_cc, if_neg h1, if_true]
    · simp only [q_within, q_in, l0, l1, l5, l23, l48, l240, l1000, l5000, lm5000, l10000, l100000, l1000000, L0, L1, L5, L23, L48, L240, L1000, L5000, Lm5000, L10000, L100000, L1000000, Int32.toInt_toInt64, Option.bind_some, f_Mod_table, f_Mod_table_30, f_Mod_table_31, f_Mod_table_92, if_neg h1, one_ne, one_le, zer_eq, if_false, if_true, hR.i, th64]
end CRN
