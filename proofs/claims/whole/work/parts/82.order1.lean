/-! ORDER: the class -/
def dryC (C : Ce) (L : List Nat) : Ce := ⟨fun i => C.mt (gl L i), fun i => C.th (gl L i), fun i => C.lk (gl L i), fun _ => 0⟩
def hrsC (E : En) (n : Nat) : Nat → Nat → Ce → Ce
  | 0, _, C => C
  | m + 1, i, C => hrsC E n m (i + 1) (hourC E n C (i % 24))
def wtL (E : En) (n : Nat) (C : Ce) (m : Nat) (L : List Nat) : Int := zs (hrsC E n m 0 (dryC C L)).hd n
/-- which row is kept, of those from L on -/
def bsL (n : Nat) (wt : List Nat → Int) : Nat → List Nat → Option Int → List Nat → List Nat
  | k, L, least, D =>
    let D' := (match least with
      | none => L
      | some z => if wt L < z then L else D)
    let z' := (match least with
      | none => wt L
      | some z => if wt L < z then wt L else z)
    match k with
    | 0 => D'
    | k + 1 => bsL n wt k ((stL n L).getD []) (some z') D'
section ORD
variable {T : x_T} {w w' : x_W} {n : Nat} {A : Ab} {E : En} {C : Ce}
theorem KB_hrs (B : EB E) : ∀ m i (C : Ce), KB E n C → KB E n (hrsC E n m i C) := by
  intro m
  induction m with
  | zero => intro i C K; exact K
  | succ m ih => intro i C K; exact ih (i + 1) _ (hour_KB B K (Nat.mod_lt _ (by omega)))
theorem KB_dry (B : EB E) (K : KB E n C) {L : List Nat} (hg : ∀ i, i < n → gl L i < n) : KB E n (dryC C L) := by
  refine ⟨K.n1, K.n12, fun k hk => K.mt _ (hg k hk), fun k hk => K.th _ (hg k hk), fun k hk => K.lk _ (hg k hk), fun k hk => ?_⟩
  have := B.mo (K.mt _ (hg k hk))
  exact ⟨Int.le_refl 0, this.1⟩
theorem wt_b (B : EB E) (K : KB E n C) {L : List Nat} (hg : ∀ i, i < n → gl L i < n) (m : Nat) : 0 ≤ wtL E n C m L ∧ wtL E n C m L ≤ 12000000 := by
  have K2 := KB_hrs B m 0 _ (KB_dry B K hg)
  unfold wtL
  refine ⟨zs_nonneg (fun i hi => (K2.hd i hi).1), ?_⟩
  have h1 := zs_le (g := (hrsC E n m 0 (dryC C L)).hd) (n := n) (B := 1000000) (fun i hi => by have h1 := (K2.hd i hi).2; have h2 := B.mo (K2.mt i hi); omega)
  have h2 := K.n12
  have h3 : (n : Int) * 1000000 ≤ 12 * 1000000 := Int.mul_le_mul_of_nonneg_right (by omega) (by omega)
  omega
/-- what happens to the trial wall touches nothing else -/
theorem SC.tr (S : SC T w n A) (F : Fx (51 + 3 * n) (60 + 6 * n) [0, 1, 2, 3, 4, 5, 6, 18, 19, 20, 33] [15, 16, 21] [17, 31, 32] w w') : SC T w' n A := by
  have n12 := S.ws.n12
  have D := S.d
  refine ⟨F.ws S.ws, F.ws S.wt, CT.fx F S.ct, F.ec S.e, ⟨fun k hk => (F.R _ _ (Or.inr (Or.inl (by omega)))).trans (S.k.mt k hk), fun k hk => (F.I _ _ (Or.inr (Or.inl (by omega)))).trans (S.k.th k hk), fun k hk => (F.I _ _ (Or.inr (Or.inl (by omega)))).trans (S.k.lk k hk), fun k hk => (F.I _ _ (Or.inr (Or.inl (by omega)))).trans (S.k.hd k hk)⟩, ?_⟩
  exact ⟨fun k hk => (F.I _ _ (Or.inr (Or.inl (by omega)))).trans (D.wm k hk), fun k hk => (F.I _ _ (Or.inr (Or.inl (by omega)))).trans (D.ps k hk), fun k hk => (F.I _ _ (Or.inr (Or.inl (by omega)))).trans (D.fz k hk), fun k hk => (F.I _ _ (Or.inr (Or.inl (by omega)))).trans (D.gd k hk), (F.I _ _ (Or.inr (Or.inl (by omega)))).trans D.gn, fun i hi => (F.A _ _).trans (D.g1 i hi), fun i hi => (F.A _ _).trans (D.g2 i hi), fun i hi => (F.A _ _).trans (D.g3 i hi), fun i hi => (F.A _ _).trans (D.g4 i hi), (F.I _ _ (Or.inr (Or.inl (by omega)))).trans D.hr, (F.I _ _ (Or.inr (Or.inl (by omega)))).trans D.mo, (F.J _ _ (Or.inr (Or.inl (by omega)))).trans D.st, (F.J _ _ (Or.inr (Or.inl (by omega)))).trans D.og, (F.J _ _ (Or.inr (Or.inl (by omega)))).trans D.oc, (F.J _ _ (Or.inr (Or.inl (by omega)))).trans D.ig, (F.J _ _ (Or.inr (Or.inl (by omega)))).trans D.ic⟩
theorem SC.qx (S : SC T w n A) {a3 : List Nat} (F : Qx a3 w w') (h : ∀ k ∈ a3, 41 ≤ k) : SC T w' n A := by
  have hI : ∀ k h, x_I w' k h = x_I w k h := fun k h => F.g.I k h (by simp [wp_some, wp_bind, x_I_sI, x_J_sJ, x_R_sR, x_A_sA, x_B_sB, x_I_sJ, x_I_sR, x_I_sA, x_I_sB, x_J_sI, x_J_sR, x_J_sA, x_J_sB, x_R_sI, x_R_sJ, x_R_sA, x_R_sB, x_A_sI, x_A_sJ, x_A_sR, x_A_sB, x_B_sI, x_B_sJ, x_B_sR, x_B_sA, x_Q_sI, x_Q_sJ, x_Q_sR, x_Q_sA, x_Q_sB, En.cn_mk, En.X_mk, En.Y_mk, En.vp_mk, En.lq_mk, En.ld_mk, En.fo_mk, En.fi_mk, En.cl_mk, Ce.mt_mk, Ce.th_mk, Ce.lk_mk, Ce.hd_mk, Ab.E_mk, Ab.C_mk, Ab.wm_mk, Ab.ps_mk, Ab.fz_mk, Ab.gd_mk, Ab.gn_mk, Ab.g1_mk, Ab.g2_mk, Ab.g3_mk, Ab.g4_mk, Ab.hr_mk, Ab.mo_mk, Ab.st_mk, Ab.og_mk, Ab.oc_mk, Ab.ig_mk, Ab.ic_mk])
  have hJ : ∀ k h, x_J w' k h = x_J w k h := fun k h => F.g.J k h (by simp [wp_some, wp_bind, x_I_sI, x_J_sJ, x_R_sR, x_A_sA, x_B_sB, x_I_sJ, x_I_sR, x_I_sA, x_I_sB, x_J_sI, x_J_sR, x_J_sA, x_J_sB, x_R_sI, x_R_sJ, x_R_sA, x_R_sB, x_A_sI, x_A_sJ, x_A_sR, x_A_sB, x_B_sI, x_B_sJ, x_B_sR, x_B_sA, x_Q_sI, x_Q_sJ, x_Q_sR, x_Q_sA, x_Q_sB, En.cn_mk, En.X_mk, En.Y_mk, En.vp_mk, En.lq_mk, En.ld_mk, En.fo_mk, En.fi_mk, En.cl_mk, Ce.mt_mk, Ce.th_mk, Ce.lk_mk, Ce.hd_mk, Ab.E_mk, Ab.C_mk, Ab.wm_mk, Ab.ps_mk, Ab.fz_mk, Ab.gd_mk, Ab.gn_mk, Ab.g1_mk, Ab.g2_mk, Ab.g3_mk, Ab.g4_mk, Ab.hr_mk, Ab.mo_mk, Ab.st_mk, Ab.og_mk, Ab.oc_mk, Ab.ig_mk, Ab.ic_mk])
  have hR : ∀ k h, x_R w' k h = x_R w k h := fun k h => by show w'.2.2.1 k h = w.2.2.1 k h; rw [F.g.R]
  have hA : ∀ i j, i < 41 → x_A w' i j = x_A w i j := fun i j hi => F.g.A i j (fun z => by have := h i z; omega)
  have D := S.d
  exact ⟨S.ws.of (fun k h _ _ _ => hR k h) F.q, S.wt.of (fun k h _ _ _ => hR k h) F.q, S.ct.of (fun k h _ _ _ => hR k h) F.q, S.e.of (fun k h _ => hI k h) (fun k h _ _ _ => hR k h) (fun i j hi => hA i j (by omega)), ⟨fun k hk => by rw [hR]; exact S.k.mt k hk, fun k hk => by rw [hI]; exact S.k.th k hk, fun k hk => by rw [hI]; exact S.k.lk k hk, fun k hk => by rw [hI]; exact S.k.hd k hk⟩, ⟨fun k hk => by rw [hI]; exact D.wm k hk, fun k hk => by rw [hI]; exact D.ps k hk, fun k hk => by rw [hI]; exact D.fz k hk, fun k hk => by rw [hI]; exact D.gd k hk, by rw [hI]; exact D.gn, fun i hi => by rw [hA _ _ (by omega)]; exact D.g1 i hi, fun i hi => by rw [hA _ _ (by omega)]; exact D.g2 i hi, fun i hi => by rw [hA _ _ (by omega)]; exact D.g3 i hi, fun i hi => by rw [hA _ _ (by omega)]; exact D.g4 i hi, by rw [hI]; exact D.hr, by rw [hI]; exact D.mo, by rw [hJ]; exact D.st, by rw [hJ]; exact D.og, by rw [hJ]; exact D.oc, by rw [hJ]; exact D.ig, by rw [hJ]; exact D.ic⟩⟩
theorem c_hours (S0 : SC T w n A) (B : EB A.E) (m0 : Nat) (hm0 : m0 ≤ 48) : ∀ m i fuel (C : Ce) (w' : x_W), i + m = m0 → m < fuel → KB A.E n C → KC w' (51 + 3 * n) n C → Fx (51 + 3 * n) (60 + 6 * n) [0, 1, 2, 3, 4, 5, 6, 18, 19, 20, 33] [15, 16, 21] [17, 31, 32] w w' → wp (f_Trials_waterBehind_79 T fuel w' (50 + 3 * n) 26 (nI m0) (nI i)) (fun q => q.1 = Int64.ofInt (zs (hrsC A.E n m i C).hd n) ∧ Fx (51 + 3 * n) (60 + 6 * n) [0, 1, 2, 3, 4, 5, 6, 18, 19, 20, 33] [15, 16, 21] [17, 31, 32] w q.2) := by
  have en : 51 + 3 * n + 9 + 3 * n = 60 + 6 * n := by omega
  intro m
  induction m with
  | zero =>
    intro i fuel C w' hi hf K KC' F
    obtain ⟨fuel, rfl⟩ : ∃ q, fuel = q + 1 := ⟨fuel - 1, by omega⟩
    have S := S0.tr F
    rw [f_Trials_waterBehind_79, if_pos (by rw [nI_leS (by omega) (by omega)]; omega)]
    simp only [t_is S.ct.tt, S.ct.r54, t_is S.wt.t, Option.bind_some]
    rw [c_allWater S.wt B KC' K, Option.bind_some, wp_some]
    exact ⟨rfl, F⟩
  | succ m ih =>
    intro i fuel C w' hi hf K KC' F
    obtain ⟨fuel, rfl⟩ : ∃ q, fuel = q + 1 := ⟨fuel - 1, by omega⟩
    have S := S0.tr F
    rw [f_Trials_waterBehind_79, if_neg (by rw [nI_leS (by omega) (by omega)]; omega)]
    simp only [t_is S.ct.tt, S.ct.r54, t_is S.wt.t, Option.bind_some]
    rw [wp_bind]
    refine wp_mono (c_hour B S.wt S.e KC' K (t := i) (by omega)) ?_
    intro w2 H
    have F2 := H.fx
    rw [en] at F2
    rw [nI_inc]
    exact ih (i + 1) fuel _ w2 (by omega) (by omega) (hour_KB B K (Nat.mod_lt _ (by omega))) H.k (F.trans (F2.mono (by decide) (by decide) (by decide)))
theorem c_water (S : SC T w n A) (B : AB n A) (n5 : n ≤ 5) {L : List Nat} (hg : ∀ i, i < n → gl L i < n) (R : Rw w (60 + 6 * n) n L) {m : Nat} (hm : m ≤ 48) : wp (f_Trials_waterBehind T w (50 + 3 * n) 41 26 (nI m)) (fun q => q.1 = Int64.ofInt (wtL A.E n A.C m L) ∧ Fx (51 + 3 * n) (60 + 6 * n) [0, 1, 2, 3, 4, 5, 6, 18, 19, 20, 33] [15, 16, 21] [17, 31, 32] w q.2) := by
  have n1 := S.ws.n1
  unfold f_Trials_waterBehind
  refine loop_up (N := n) (by omega) (fun fuel w' i => f_Trials_waterBehind_3 T fuel w' (50 + 3 * n) 41 26 (nI m) i) (fun j w' => Fx (51 + 3 * n) (60 + 6 * n) [0, 1, 2, 3, 4, 5, 6, 18, 19, 20, 33] [15, 16, 21] [17, 31, 32] w w' ∧ ∀ i, i < j → x_R w' 17 (51 + 3 * n + 5 + 2 * i) = some (2 + 4 * A.C.mt (gl L i)) ∧ x_I w' 18 (51 + 3 * n + 5 + 2 * i) = Int32.ofInt (A.C.th (gl L i)) ∧ x_I w' 19 (51 + 3 * n + 5 + 2 * i) = Int32.ofInt (A.C.lk (gl L i)) ∧ x_I w' 20 (51 + 3 * n + 5 + 2 * i) = Int32.ofInt 0) _ ?_ ?_ w ⟨Fx.refl .., fun i hi => by omega⟩
  · intro i w' fuel hi ⟨F, hv⟩
    have S' := S.tr F
    have gi := hg i hi
    have hm6 := B.k.mt _ gi
    have tr := (S'.wt.c i hi)
    have ts := (S'.ws.c (gl L i) gi)
    refine ⟨x_sI (x_sI (x_sI (x_sR w' 17 (51 + 3 * n + 5 + 2 * i) (some (2 + 4 * A.C.mt (gl L i)))) 18 (51 + 3 * n + 5 + 2 * i) (Int32.ofInt (A.C.th (gl L i)))) 19 (51 + 3 * n + 5 + 2 * i) (Int32.ofInt (A.C.lk (gl L i)))) 20 (51 + 3 * n + 5 + 2 * i) 0, ⟨(((F.sR (by decide) (by omega) (by omega)).sI (by decide) (by omega) (by omega)).sI (by decide) (by omega) (by omega)).sI (by decide) (by omega) (by omega), fun j hj => ?_⟩, ?_⟩
    · by_cases e : j = i
      · subst e
        refine ⟨by simp [wp_some, wp_bind, x_I_sI, x_J_sJ, x_R_sR, x_A_sA, x_B_sB, x_I_sJ, x_I_sR, x_I_sA, x_I_sB, x_J_sI, x_J_sR, x_J_sA, x_J_sB, x_R_sI, x_R_sJ, x_R_sA, x_R_sB, x_A_sI, x_A_sJ, x_A_sR, x_A_sB, x_B_sI, x_B_sJ, x_B_sR, x_B_sA, x_Q_sI, x_Q_sJ, x_Q_sR, x_Q_sA, x_Q_sB, En.cn_mk, En.X_mk, En.Y_mk, En.vp_mk, En.lq_mk, En.ld_mk, En.fo_mk, En.fi_mk, En.cl_mk, Ce.mt_mk, Ce.th_mk, Ce.lk_mk, Ce.hd_mk, Ab.E_mk, Ab.C_mk, Ab.wm_mk, Ab.ps_mk, Ab.fz_mk, Ab.gd_mk, Ab.gn_mk, Ab.g1_mk, Ab.g2_mk, Ab.g3_mk, Ab.g4_mk, Ab.hr_mk, Ab.mo_mk, Ab.st_mk, Ab.og_mk, Ab.oc_mk, Ab.ig_mk, Ab.ic_mk], by simp [wp_some, wp_bind, x_I_sI, x_J_sJ, x_R_sR, x_A_sA, x_B_sB, x_I_sJ, x_I_sR, x_I_sA, x_I_sB, x_J_sI, x_J_sR, x_J_sA, x_J_sB, x_R_sI, x_R_sJ, x_R_sA, x_R_sB, x_A_sI, x_A_sJ, x_A_sR, x_A_sB, x_B_sI, x_B_sJ, x_B_sR, x_B_sA, x_Q_sI, x_Q_sJ, x_Q_sR, x_Q_sA, x_Q_sB, En.cn_mk, En.X_mk, En.Y_mk, En.vp_mk, En.lq_mk, En.ld_mk, En.fo_mk, En.fi_mk, En.cl_mk, Ce.mt_mk, Ce.th_mk, Ce.lk_mk, Ce.hd_mk, Ab.E_mk, Ab.C_mk, Ab.wm_mk, Ab.ps_mk, Ab.fz_mk, Ab.gd_mk, Ab.gn_mk, Ab.g1_mk, Ab.g2_mk, Ab.g3_mk, Ab.g4_mk, Ab.hr_mk, Ab.mo_mk, Ab.st_mk, Ab.og_mk, Ab.oc_mk, Ab.ig_mk, Ab.ic_mk], by simp [wp_some, wp_bind, x_I_sI, x_J_sJ, x_R_sR, x_A_sA, x_B_sB, x_I_sJ, x_I_sR, x_I_sA, x_I_sB, x_J_sI, x_J_sR, x_J_sA, x_J_sB, x_R_sI, x_R_sJ, x_R_sA, x_R_sB, x_A_sI, x_A_sJ, x_A_sR, x_A_sB, x_B_sI, x_B_sJ, x_B_sR, x_B_sA, x_Q_sI, x_Q_sJ, x_Q_sR, x_Q_sA, x_Q_sB, En.cn_mk, En.X_mk, En.Y_mk, En.vp_mk, En.lq_mk, En.ld_mk, En.fo_mk, En.fi_mk, En.cl_mk, Ce.mt_mk, Ce.th_mk, Ce.lk_mk, Ce.hd_mk, Ab.E_mk, Ab.C_mk, Ab.wm_mk, Ab.ps_mk, Ab.fz_mk, Ab.gd_mk, Ab.gn_mk, Ab.g1_mk, Ab.g2_mk, Ab.g3_mk, Ab.g4_mk, Ab.hr_mk, Ab.mo_mk, Ab.st_mk, Ab.og_mk, Ab.oc_mk, Ab.ig_mk, Ab.ic_mk], by simp [wp_some, wp_bind, x_I_sI, x_J_sJ, x_R_sR, x_A_sA, x_B_sB, x_I_sJ, x_I_sR, x_I_sA, x_I_sB, x_J_sI, x_J_sR, x_J_sA, x_J_sB, x_R_sI, x_R_sJ, x_R_sA, x_R_sB, x_A_sI, x_A_sJ, x_A_sR, x_A_sB, x_B_sI, x_B_sJ, x_B_sR, x_B_sA, x_Q_sI, x_Q_sJ, x_Q_sR, x_Q_sA, x_Q_sB, En.cn_mk, En.X_mk, En.Y_mk, En.vp_mk, En.lq_mk, En.ld_mk, En.fo_mk, En.fi_mk, En.cl_mk, Ce.mt_mk, Ce.th_mk, Ce.lk_mk, Ce.hd_mk, Ab.E_mk, Ab.C_mk, Ab.wm_mk, Ab.ps_mk, Ab.fz_mk, Ab.gd_mk, Ab.gn_mk, Ab.g1_mk, Ab.g2_mk, Ab.g3_mk, Ab.g4_mk, Ab.hr_mk, Ab.mo_mk, Ab.st_mk, Ab.og_mk, Ab.oc_mk, Ab.ig_mk, Ab.ic_mk]⟩
      · have := hv j (by omega)
        refine ⟨?_, ?_, ?_, ?_⟩
        · rw [x_R_sI, x_R_sI, x_R_sI, x_R_sR, if_neg (by omega)]; exact this.1
        · rw [x_I_sI, if_neg (by omega), x_I_sI, if_neg (by omega), x_I_sI, if_neg (by omega), x_I_sR]; exact this.2.1
        · rw [x_I_sI, if_neg (by omega), x_I_sI, if_neg (by omega), x_I_sI, if_neg (by omega), x_I_sR]; exact this.2.2.1
        · rw [x_I_sI, if_neg (by omega), x_I_sI, if_neg (by omega), x_I_sI, if_neg (by omega), x_I_sR]; exact this.2.2.2
    · show f_Trials_waterBehind_3 T (fuel + 1) w' _ _ _ _ _ = f_Trials_waterBehind_3 T fuel _ _ _ _ _ _
      have k18 := S'.k.th (gl L i) gi
      have k19 := S'.k.lk (gl L i) gi
      have Ri : x_A w' (60 + 6 * n) i = nI (gl L i) := (F.A _ _).trans (R i hi)
      rw [f_Trials_waterBehind_3]
      simp only [t_is S.ct.tt, S'.ct.r54, t_is S.wt.t, S'.wt.r55, t_len S.wt.tc, Option.bind_some]
      rw [if_neg (by rw [nI_leS (by omega) (by omega)]; omega)]
      simp only [S'.ct.r53, t_len S.ct.ta, Option.bind_some]
      rw [if_neg (by rw [nI_leS (by omega) (by omega)]; omega)]
      simp only [t_ixn S.ct.ta (show i < 5 by omega) (by omega), nI_clampS (show i < 100000 by omega), Ri, Option.bind_some]
      rw [if_neg (by rw [show (0 : Int32) = nI 0 from rfl, nI_ltS (by omega) (by omega)]; omega)]
      simp only [t_is S.ws.t, S'.ws.r55, t_len S.ws.tc, Option.bind_some]
      rw [if_neg (by rw [nI_leS (by omega) (by omega)]; omega)]
      simp only [t_is S.wt.t, S'.wt.r55, t_ixn S.wt.tc hi (by omega), t_ixn S.ws.tc gi (by omega), nI_clampS (show i < 100000 by omega), nI_clampS (show gl L i < 100000 by omega), tr.2, ts.2, t_is tr.1, f_Cell_layDry, t_is ts.1, S'.k.mt (gl L i) gi, t_ex (S.e.m _ hm6).1, Option.bind_some, x_I_sR, k18, f_Trials_waterBehind_70, nI_inc]
      have k19' : x_I (x_sI (x_sR w' 17 (51 + 3 * n + 5 + 2 * i) (some (2 + 4 * A.C.mt (gl L i)))) 18 (51 + 3 * n + 5 + 2 * i) (Int32.ofInt (A.C.th (gl L i)))) 19 (41 + 5 + 2 * gl L i) = Int32.ofInt (A.C.lk (gl L i)) := by rw [x_I_sI, if_neg (by omega), x_I_sR]; exact k19
      simp only [k19']
  · intro w' fuel ⟨F, hv⟩
    have S' := S.tr F
    show wp (f_Trials_waterBehind_3 T (fuel + 1) w' _ _ _ _ _) _
    rw [f_Trials_waterBehind_3]
    simp only [t_is S.ct.tt, S'.ct.r54, t_is S.wt.t, S'.wt.r55, t_len S.wt.tc, Option.bind_some]
    rw [if_pos (by rw [nI_leS (by omega) (by omega)]; omega)]
    unfold f_Trials_waterBehind_76
    exact c_hours S B.e m hm m 0 1000 (dryC A.C L) w' (by omega) (by omega) (KB_dry B.e B.k hg) ⟨fun k hk => (hv k hk).1, fun k hk => (hv k hk).2.1, fun k hk => (hv k hk).2.2.1, fun k hk => (hv k hk).2.2.2⟩ F
theorem c_keep (S : CT T w n) (n5 : n ≤ 5) {L : List Nat} (R : Rw w (60 + 6 * n) n L) : wp (f_Trials_keepRow T w (50 + 3 * n) (nI n)) (fun w' => Qx [61 + 6 * n] w w' ∧ Rw w' (61 + 6 * n) n L) := by
  unfold f_Trials_keepRow
  refine loop_up (N := n) (by omega) (fun fuel w' i => f_Trials_keepRow_2 T fuel w' (50 + 3 * n) (nI n) i) (fun j w' => Qx [61 + 6 * n] w w' ∧ ∀ i, i < j → x_A w' (61 + 6 * n) i = nI (gl L i)) _ ?_ ?_ w ⟨Qx.refl .., fun i hi => by omega⟩
  · intro i w' fuel hi ⟨F, hv⟩
    have S' := F.ct S
    have Ri : x_A w' (60 + 6 * n) i = nI (gl L i) := (F.g.A _ _ (by simp [wp_some, wp_bind, x_I_sI, x_J_sJ, x_R_sR, x_A_sA, x_B_sB, x_I_sJ, x_I_sR, x_I_sA, x_I_sB, x_J_sI, x_J_sR, x_J_sA, x_J_sB, x_R_sI, x_R_sJ, x_R_sA, x_R_sB, x_A_sI, x_A_sJ, x_A_sR, x_A_sB, x_B_sI, x_B_sJ, x_B_sR, x_B_sA, x_Q_sI, x_Q_sJ, x_Q_sR, x_Q_sA, x_Q_sB, En.cn_mk, En.X_mk, En.Y_mk, En.vp_mk, En.lq_mk, En.ld_mk, En.fo_mk, En.fi_mk, En.cl_mk, Ce.mt_mk, Ce.th_mk, Ce.lk_mk, Ce.hd_mk, Ab.E_mk, Ab.C_mk, Ab.wm_mk, Ab.ps_mk, Ab.fz_mk, Ab.gd_mk, Ab.gn_mk, Ab.g1_mk, Ab.g2_mk, Ab.g3_mk, Ab.g4_mk, Ab.hr_mk, Ab.mo_mk, Ab.st_mk, Ab.og_mk, Ab.oc_mk, Ab.ig_mk, Ab.ic_mk])).trans (R i hi)
    refine ⟨x_sA w' (61 + 6 * n) i (nI (gl L i)), ⟨F.sA (by simp [wp_some, wp_bind, x_I_sI, x_J_sJ, x_R_sR, x_A_sA, x_B_sB, x_I_sJ, x_I_sR, x_I_sA, x_I_sB, x_J_sI, x_J_sR, x_J_sA, x_J_sB, x_R_sI, x_R_sJ, x_R_sA, x_R_sB, x_A_sI, x_A_sJ, x_A_sR, x_A_sB, x_B_sI, x_B_sJ, x_B_sR, x_B_sA, x_Q_sI, x_Q_sJ, x_Q_sR, x_Q_sA, x_Q_sB, En.cn_mk, En.X_mk, En.Y_mk, En.vp_mk, En.lq_mk, En.ld_mk, En.fo_mk, En.fi_mk, En.cl_mk, Ce.mt_mk, Ce.th_mk, Ce.lk_mk, Ce.hd_mk, Ab.E_mk, Ab.C_mk, Ab.wm_mk, Ab.ps_mk, Ab.fz_mk, Ab.gd_mk, Ab.gn_mk, Ab.g1_mk, Ab.g2_mk, Ab.g3_mk, Ab.g4_mk, Ab.hr_mk, Ab.mo_mk, Ab.st_mk, Ab.og_mk, Ab.oc_mk, Ab.ig_mk, Ab.ic_mk]), fun j hj => ?_⟩, ?_⟩
    · rw [x_A_sA]
      by_cases e : j = i
      · rw [if_pos ⟨rfl, e⟩, e]
      · rw [if_neg (fun z => e z.2)]; exact hv j (by omega)
    · show f_Trials_keepRow_2 T (fuel + 1) w' _ _ _ = f_Trials_keepRow_2 T fuel _ _ _ _
      rw [f_Trials_keepRow_2, if_neg (by rw [nI_leS (by omega) (by omega)]; omega)]
      simp only [t_is S.tt, S'.r52, S'.r53, t_ixn S.ta (show i < 5 by omega) (by omega), t_ixn S.tb (show i < 5 by omega) (by omega), nI_clampS (show i < 100000 by omega), Ri, Option.bind_some, nI_inc]
  · intro w' fuel hI
    show wp (f_Trials_keepRow_2 T (fuel + 1) w' _ _ _) _
    rw [f_Trials_keepRow_2, if_pos (by rw [nI_leS (by omega) (by omega)]; omega), wp_some]
    exact hI
def lsZ (o : Option Int) : Int := match o with
  | none => 1000000000000
  | some z => z
theorem c_find (B : AB n A) (n1 : 1 ≤ n) (n5 : n ≤ 5) {m : Nat} (hm : m ≤ 48) : ∀ k fuel (L D : List Nat) (least : Option Int) (w : x_W) (t : Nat), goodB n k L = true → t + k < 120 → k + 1 < fuel → SC T w n A → Rw w (60 + 6 * n) n L → (∀ z, least = some z → 0 ≤ z ∧ z ≤ 12000000 ∧ Rw w (61 + 6 * n) n D) → wp (f_Trials_findDriest_47 T fuel w (50 + 3 * n) 41 26 (nI m) (nI n) (Int64.ofInt (lsZ least)) 1 (nI t)) (fun w' => SC T w' n A ∧ Rw w' (61 + 6 * n) n (bsL n (wtL A.E n A.C m) k L least D)) := by
  intro k
  induction k with
  | zero =>
    intro fuel L D least w t hg ht hf S R hD
    obtain ⟨fuel, rfl⟩ : ∃ q, fuel = q + 1 := ⟨fuel - 1, by omega⟩
    obtain ⟨fuel, rfl⟩ : ∃ q, fuel = q + 1 := ⟨fuel - 1, by omega⟩
    obtain ⟨hl, hgl, hst, hok⟩ := goodB_ok hg
    have hno : stL n L = none := by unfold goodB at hg; simp [wp_some, wp_bind, x_I_sI, x_J_sJ, x_R_sR, x_A_sA, x_B_sB, x_I_sJ, x_I_sR, x_I_sA, x_I_sB, x_J_sI, x_J_sR, x_J_sA, x_J_sB, x_R_sI, x_R_sJ, x_R_sA, x_R_sB, x_A_sI, x_A_sJ, x_A_sR, x_A_sB, x_B_sI, x_B_sJ, x_B_sR, x_B_sA, x_Q_sI, x_Q_sJ, x_Q_sR, x_Q_sA, x_Q_sB, En.cn_mk, En.X_mk, En.Y_mk, En.vp_mk, En.lq_mk, En.ld_mk, En.fo_mk, En.fi_mk, En.cl_mk, Ce.mt_mk, Ce.th_mk, Ce.lk_mk, Ce.hd_mk, Ab.E_mk, Ab.C_mk, Ab.wm_mk, Ab.ps_mk, Ab.fz_mk, Ab.gd_mk, Ab.gn_mk, Ab.g1_mk, Ab.g2_mk, Ab.g3_mk, Ab.g4_mk, Ab.hr_mk, Ab.mo_mk, Ab.st_mk, Ab.og_mk, Ab.oc_mk, Ab.ig_mk, Ab.ic_mk] at hg; exact hg.2
    have hb := wt_b B.e B.k hgl m
    have tail : ∀ w2 D', SC T w2 n A → Rw w2 (60 + 6 * n) n L → Rw w2 (61 + 6 * n) n D' → ∀ z, wp (f_Trials_findDriest_86 T (f_Trials_findDriest_47 T (fuel + 1)) w2 (50 + 3 * n) 41 26 (nI m) (nI n) z (nI t)) (fun w' => SC T w' n A ∧ Rw w' (61 + 6 * n) n D') := by
      intro w2 D' S2 R2' RD z
      obtain ⟨w3, e3, Q3, _⟩ := c_step S2.ct n1 n5 hl hgl R2'
      unfold f_Trials_findDriest_86
      rw [t_is S2.ct.tt, Option.bind_some, e3, Option.bind_some, hno]
      show wp (f_Trials_findDriest_47 T (fuel + 1) w3 _ _ _ _ _ _ 0 _) _
      rw [f_Trials_findDriest_47, if_pos rfl]
      unfold f_Trials_findDriest_100
      rw [wp_some]
      exact ⟨S2.qx Q3 (by intro k hk; simp [wp_some, wp_bind, x_I_sI, x_J_sJ, x_R_sR, x_A_sA, x_B_sB, x_I_sJ, x_I_sR, x_I_sA, x_I_sB, x_J_sI, x_J_sR, x_J_sA, x_J_sB, x_R_sI, x_R_sJ, x_R_sA, x_R_sB, x_A_sI, x_A_sJ, x_A_sR, x_A_sB, x_B_sI, x_B_sJ, x_B_sR, x_B_sA, x_Q_sI, x_Q_sJ, x_Q_sR, x_Q_sA, x_Q_sB, En.cn_mk, En.X_mk, En.Y_mk, En.vp_mk, En.lq_mk, En.ld_mk, En.fo_mk, En.fi_mk, En.cl_mk, Ce.mt_mk, Ce.th_mk, Ce.lk_mk, Ce.hd_mk, Ab.E_mk, Ab.C_mk, Ab.wm_mk, Ab.ps_mk, Ab.fz_mk, Ab.gd_mk, Ab.gn_mk, Ab.g1_mk, Ab.g2_mk, Ab.g3_mk, Ab.g4_mk, Ab.hr_mk, Ab.mo_mk, Ab.st_mk, Ab.og_mk, Ab.oc_mk, Ab.ig_mk, Ab.ic_mk] at hk; omega), fun i hi => (Q3.g.A _ _ (by simp [wp_some, wp_bind, x_I_sI, x_J_sJ, x_R_sR, x_A_sA, x_B_sB, x_I_sJ, x_I_sR, x_I_sA, x_I_sB, x_J_sI, x_J_sR, x_J_sA, x_J_sB, x_R_sI, x_R_sJ, x_R_sA, x_R_sB, x_A_sI, x_A_sJ, x_A_sR, x_A_sB, x_B_sI, x_B_sJ, x_B_sR, x_B_sA, x_Q_sI, x_Q_sJ, x_Q_sR, x_Q_sA, x_Q_sB, En.cn_mk, En.X_mk, En.Y_mk, En.vp_mk, En.lq_mk, En.ld_mk, En.fo_mk, En.fi_mk, En.cl_mk, Ce.mt_mk, Ce.th_mk, Ce.lk_mk, Ce.hd_mk, Ab.E_mk, Ab.C_mk, Ab.wm_mk, Ab.ps_mk, Ab.fz_mk, Ab.gd_mk, Ab.gn_mk, Ab.g1_mk, Ab.g2_mk, Ab.g3_mk, Ab.g4_mk, Ab.hr_mk, Ab.mo_mk, Ab.st_mk, Ab.og_mk, Ab.oc_mk, Ab.ig_mk, Ab.ic_mk])).trans (RD i hi)⟩
    rw [f_Trials_findDriest_47, if_neg (by decide), if_neg (by rw [show (120 : Int32) = nI 120 from rfl, nI_leS (by omega) (by omega)]; omega), t_is S.ct.tt, Option.bind_some, wp_bind]
    refine wp_mono (c_water S B n5 hgl R hm) ?_
    intro ⟨z1, w1⟩ ⟨e1, F1⟩
    dsimp only [En.cn_mk, En.X_mk, En.Y_mk, En.vp_mk, En.lq_mk, En.ld_mk, En.fo_mk, En.fi_mk, En.cl_mk, Ce.mt_mk, Ce.th_mk, Ce.lk_mk, Ce.hd_mk, Ab.E_mk, Ab.C_mk, Ab.wm_mk, Ab.ps_mk, Ab.fz_mk, Ab.gd_mk, Ab.gn_mk, Ab.g1_mk, Ab.g2_mk, Ab.g3_mk, Ab.g4_mk, Ab.hr_mk, Ab.mo_mk, Ab.st_mk, Ab.og_mk, Ab.oc_mk, Ab.ig_mk, Ab.ic_mk] at e1 F1
    subst e1
    have S1 := S.tr F1
    have R1 : Rw w1 (60 + 6 * n) n L := fun i hi => (F1.A _ _).trans (R i hi)
    have cmp : 0 ≤ lg_cmp (Int64.ofInt (wtL A.E n A.C m L)) (Int64.ofInt (lsZ least)) ↔ lsZ least ≤ wtL A.E n A.C m L := by
      have : -100 ≤ lsZ least ∧ lsZ least ≤ 1000000000000 := by
        cases least with
        | none => exact ⟨by decide, Int.le_refl _⟩
        | some z => have := hD z rfl; exact ⟨by show -100 ≤ z; omega, by show z ≤ 1000000000000; omega⟩
      rw [lg_cmp_ge, z_Le, z_T (by omega) (by omega), z_T (by omega) (by omega)]
    have keep : wp ((f_Trials_keepRow T w1 (50 + 3 * n) (nI n)).bind fun q9 => f_Trials_findDriest_86 T (f_Trials_findDriest_47 T (fuel + 1)) q9 (50 + 3 * n) 41 26 (nI m) (nI n) (Int64.ofInt (wtL A.E n A.C m L)) (nI t)) (fun w' => SC T w' n A ∧ Rw w' (61 + 6 * n) n L) := by
      rw [wp_bind]
      refine wp_mono (c_keep S1.ct n5 R1) ?_
      intro w2 ⟨Q2, RD⟩
      exact tail w2 L (S1.qx Q2 (by intro k hk; simp [wp_some, wp_bind, x_I_sI, x_J_sJ, x_R_sR, x_A_sA, x_B_sB, x_I_sJ, x_I_sR, x_I_sA, x_I_sB, x_J_sI, x_J_sR, x_J_sA, x_J_sB, x_R_sI, x_R_sJ, x_R_sA, x_R_sB, x_A_sI, x_A_sJ, x_A_sR, x_A_sB, x_B_sI, x_B_sJ, x_B_sR, x_B_sA, x_Q_sI, x_Q_sJ, x_Q_sR, x_Q_sA, x_Q_sB, En.cn_mk, En.X_mk, En.Y_mk, En.vp_mk, En.lq_mk, En.ld_mk, En.fo_mk, En.fi_mk, En.cl_mk, Ce.mt_mk, Ce.th_mk, Ce.lk_mk, Ce.hd_mk, Ab.E_mk, Ab.C_mk, Ab.wm_mk, Ab.ps_mk, Ab.fz_mk, Ab.gd_mk, Ab.gn_mk, Ab.g1_mk, Ab.g2_mk, Ab.g3_mk, Ab.g4_mk, Ab.hr_mk, Ab.mo_mk, Ab.st_mk, Ab.og_mk, Ab.oc_mk, Ab.ig_mk, Ab.ic_mk] at hk; omega)) (fun i hi => (Q2.g.A _ _ (by simp [wp_some, wp_bind, x_I_sI, x_J_sJ, x_R_sR, x_A_sA, x_B_sB, x_I_sJ, x_I_sR, x_I_sA, x_I_sB, x_J_sI, x_J_sR, x_J_sA, x_J_sB, x_R_sI, x_R_sJ, x_R_sA, x_R_sB, x_A_sI, x_A_sJ, x_A_sR, x_A_sB, x_B_sI, x_B_sJ, x_B_sR, x_B_sA, x_Q_sI, x_Q_sJ, x_Q_sR, x_Q_sA, x_Q_sB, En.cn_mk, En.X_mk, En.Y_mk, En.vp_mk, En.lq_mk, En.ld_mk, En.fo_mk, En.fi_mk, En.cl_mk, Ce.mt_mk, Ce.th_mk, Ce.lk_mk, Ce.hd_mk, Ab.E_mk, Ab.C_mk, Ab.wm_mk, Ab.ps_mk, Ab.fz_mk, Ab.gd_mk, Ab.gn_mk, Ab.g1_mk, Ab.g2_mk, Ab.g3_mk, Ab.g4_mk, Ab.hr_mk, Ab.mo_mk, Ab.st_mk, Ab.og_mk, Ab.oc_mk, Ab.ig_mk, Ab.ic_mk])).trans (R1 i hi)) RD _
    cases least with
    | none =>
      rw [if_neg (fun q => by have := cmp.mp q; have : (1000000000000 : Int) ≤ wtL A.E n A.C m L := this; omega)]
      exact keep
    | some z =>
      obtain ⟨h1, h2, h3⟩ := hD z rfl
      by_cases h : wtL A.E n A.C m L < z
      · rw [if_neg (fun q => by have := cmp.mp q; have : z ≤ wtL A.E n A.C m L := this; omega)]
        refine wp_mono keep (fun w' hw' => ?_)
        have : bsL n (wtL A.E n A.C m) 0 L (some z) D = L := by unfold bsL; simp [wp_some, wp_bind, x_I_sI, x_J_sJ, x_R_sR, x_A_sA, x_B_sB, x_I_sJ, x_I_sR, x_I_sA, x_I_sB, x_J_sI, x_J_sR, x_J_sA, x_J_sB, x_R_sI, x_R_sJ, x_R_sA, x_R_sB, x_A_sI, x_A_sJ, x_A_sR, x_A_sB, x_B_sI, x_B_sJ, x_B_sR, x_B_sA, x_Q_sI, x_Q_sJ, x_Q_sR, x_Q_sA, x_Q_sB, En.cn_mk, En.X_mk, En.Y_mk, En.vp_mk, En.lq_mk, En.ld_mk, En.fo_mk, En.fi_mk, En.cl_mk, Ce.mt_mk, Ce.th_mk, Ce.lk_mk, Ce.hd_mk, Ab.E_mk, Ab.C_mk, Ab.wm_mk, Ab.ps_mk, Ab.fz_mk, Ab.gd_mk, Ab.gn_mk, Ab.g1_mk, Ab.g2_mk, Ab.g3_mk, Ab.g4_mk, Ab.hr_mk, Ab.mo_mk, Ab.st_mk, Ab.og_mk, Ab.oc_mk, Ab.ig_mk, Ab.ic_mk, h]
        rw [this]; exact hw'
      · rw [if_pos (cmp.mpr (by show z ≤ _; omega))]
        refine wp_mono (tail w1 D S1 R1 (fun i hi => (F1.A _ _).trans (h3 i hi)) _) (fun w' hw' => ?_)
        have : bsL n (wtL A.E n A.C m) 0 L (some z) D = D := by unfold bsL; simp [wp_some, wp_bind, x_I_sI, x_J_sJ, x_R_sR, x_A_sA, x_B_sB, x_I_sJ, x_I_sR, x_I_sA, x_I_sB, x_J_sI, x_J_sR, x_J_sA, x_J_sB, x_R_sI, x_R_sJ, x_R_sA, x_R_sB, x_A_sI, x_A_sJ, x_A_sR, x_A_sB, x_B_sI, x_B_sJ, x_B_sR, x_B_sA, x_Q_sI, x_Q_sJ, x_Q_sR, x_Q_sA, x_Q_sB, En.cn_mk, En.X_mk, En.Y_mk, En.vp_mk, En.lq_mk, En.ld_mk, En.fo_mk, En.fi_mk, En.cl_mk, Ce.mt_mk, Ce.th_mk, Ce.lk_mk, Ce.hd_mk, Ab.E_mk, Ab.C_mk, Ab.wm_mk, Ab.ps_mk, Ab.fz_mk, Ab.gd_mk, Ab.gn_mk, Ab.g1_mk, Ab.g2_mk, Ab.g3_mk, Ab.g4_mk, Ab.hr_mk, Ab.mo_mk, Ab.st_mk, Ab.og_mk, Ab.oc_mk, Ab.ig_mk, Ab.ic_mk, h]
        rw [this]; exact hw'
  | succ k ih =>
    intro fuel L D least w t hg ht hf S R hD
    obtain ⟨fuel, rfl⟩ : ∃ q, fuel = q + 1 := ⟨fuel - 1, by omega⟩
    obtain ⟨hl, hgl, hst, hok⟩ := goodB_ok hg
    obtain ⟨L', hL', hg'⟩ : ∃ L', stL n L = some L' ∧ goodB n k L' = true := by
      unfold goodB at hg
      cases hs : stL n L with
      | none => rw [hs] at hg; simp [wp_some, wp_bind, x_I_sI, x_J_sJ, x_R_sR, x_A_sA, x_B_sB, x_I_sJ, x_I_sR, x_I_sA, x_I_sB, x_J_sI, x_J_sR, x_J_sA, x_J_sB, x_R_sI, x_R_sJ, x_R_sA, x_R_sB, x_A_sI, x_A_sJ, x_A_sR, x_A_sB, x_B_sI, x_B_sJ, x_B_sR, x_B_sA, x_Q_sI, x_Q_sJ, x_Q_sR, x_Q_sA, x_Q_sB, En.cn_mk, En.X_mk, En.Y_mk, En.vp_mk, En.lq_mk, En.ld_mk, En.fo_mk, En.fi_mk, En.cl_mk, Ce.mt_mk, Ce.th_mk, Ce.lk_mk, Ce.hd_mk, Ab.E_mk, Ab.C_mk, Ab.wm_mk, Ab.ps_mk, Ab.fz_mk, Ab.gd_mk, Ab.gn_mk, Ab.g1_mk, Ab.g2_mk, Ab.g3_mk, Ab.g4_mk, Ab.hr_mk, Ab.mo_mk, Ab.st_mk, Ab.og_mk, Ab.oc_mk, Ab.ig_mk, Ab.ic_mk] at hg
      | some L' => rw [hs] at hg; simp [wp_some, wp_bind, x_I_sI, x_J_sJ, x_R_sR, x_A_sA, x_B_sB, x_I_sJ, x_I_sR, x_I_sA, x_I_sB, x_J_sI, x_J_sR, x_J_sA, x_J_sB, x_R_sI, x_R_sJ, x_R_sA, x_R_sB, x_A_sI, x_A_sJ, x_A_sR, x_A_sB, x_B_sI, x_B_sJ, x_B_sR, x_B_sA, x_Q_sI, x_Q_sJ, x_Q_sR, x_Q_sA, x_Q_sB, En.cn_mk, En.X_mk, En.Y_mk, En.vp_mk, En.lq_mk, En.ld_mk, En.fo_mk, En.fi_mk, En.cl_mk, Ce.mt_mk, Ce.th_mk, Ce.lk_mk, Ce.hd_mk, Ab.E_mk, Ab.C_mk, Ab.wm_mk, Ab.ps_mk, Ab.fz_mk, Ab.gd_mk, Ab.gn_mk, Ab.g1_mk, Ab.g2_mk, Ab.g3_mk, Ab.g4_mk, Ab.hr_mk, Ab.mo_mk, Ab.st_mk, Ab.og_mk, Ab.oc_mk, Ab.ig_mk, Ab.ic_mk] at hg; exact ⟨L', rfl, hg.2⟩
    have hb := wt_b B.e B.k hgl m
    have tail : ∀ w2 D' z', SC T w2 n A → Rw w2 (60 + 6 * n) n L → Rw w2 (61 + 6 * n) n D' → 0 ≤ z' → z' ≤ 12000000 → wp (f_Trials_findDriest_86 T (f_Trials_findDriest_47 T fuel) w2 (50 + 3 * n) 41 26 (nI m) (nI n) (Int64.ofInt z') (nI t)) (fun w' => SC T w' n A ∧ Rw w' (61 + 6 * n) n (bsL n (wtL A.E n A.C m) k L' (some z') D')) := by
      intro w2 D' z' S2 R2' RD h0 h1
      obtain ⟨w3, e3, Q3, R3⟩ := c_step S2.ct n1 n5 hl hgl R2'
      unfold f_Trials_findDriest_86
      rw [t_is S2.ct.tt, Option.bind_some, e3, Option.bind_some, hL', nI_inc]
      exact ih fuel L' D' (some z') w3 (t + 1) hg' (by omega) (by omega) (S2.qx Q3 (by intro k hk; simp [wp_some, wp_bind, x_I_sI, x_J_sJ, x_R_sR, x_A_sA, x_B_sB, x_I_sJ, x_I_sR, x_I_sA, x_I_sB, x_J_sI, x_J_sR, x_J_sA, x_J_sB, x_R_sI, x_R_sJ, x_R_sA, x_R_sB, x_A_sI, x_A_sJ, x_A_sR, x_A_sB, x_B_sI, x_B_sJ, x_B_sR, x_B_sA, x_Q_sI, x_Q_sJ, x_Q_sR, x_Q_sA, x_Q_sB, En.cn_mk, En.X_mk, En.Y_mk, En.vp_mk, En.lq_mk, En.ld_mk, En.fo_mk, En.fi_mk, En.cl_mk, Ce.mt_mk, Ce.th_mk, Ce.lk_mk, Ce.hd_mk, Ab.E_mk, Ab.C_mk, Ab.wm_mk, Ab.ps_mk, Ab.fz_mk, Ab.gd_mk, Ab.gn_mk, Ab.g1_mk, Ab.g2_mk, Ab.g3_mk, Ab.g4_mk, Ab.hr_mk, Ab.mo_mk, Ab.st_mk, Ab.og_mk, Ab.oc_mk, Ab.ig_mk, Ab.ic_mk] at hk; omega)) (R3 L' hL') (fun z hz => by cases hz; exact ⟨h0, h1, fun i hi => (Q3.g.A _ _ (by simp [wp_some, wp_bind, x_I_sI, x_J_sJ, x_R_sR, x_A_sA, x_B_sB, x_I_sJ, x_I_sR, x_I_sA, x_I_sB, x_J_sI, x_J_sR, x_J_sA, x_J_sB, x_R_sI, x_R_sJ, x_R_sA, x_R_sB, x_A_sI, x_A_sJ, x_A_sR, x_A_sB, x_B_sI, x_B_sJ, x_B_sR, x_B_sA, x_Q_sI, x_Q_sJ, x_Q_sR, x_Q_sA, x_Q_sB, En.cn_mk, En.X_mk, En.Y_mk, En.vp_mk, En.lq_mk, En.ld_mk, En.fo_mk, En.fi_mk, En.cl_mk, Ce.mt_mk, Ce.th_mk, Ce.lk_mk, Ce.hd_mk, Ab.E_mk, Ab.C_mk, Ab.wm_mk, Ab.ps_mk, Ab.fz_mk, Ab.gd_mk, Ab.gn_mk, Ab.g1_mk, Ab.g2_mk, Ab.g3_mk, Ab.g4_mk, Ab.hr_mk, Ab.mo_mk, Ab.st_mk, Ab.og_mk, Ab.oc_mk, Ab.ig_mk, Ab.ic_mk])).trans (RD i hi)⟩)
    rw [f_Trials_findDriest_47, if_neg (by decide), if_neg (by rw [show (120 : Int32) = nI 120 from rfl, nI_leS (by omega) (by omega)]; omega), t_is S.ct.tt, Option.bind_some, wp_bind]
    refine wp_mono (c_water S B n5 hgl R hm) ?_
    intro ⟨z1, w1⟩ ⟨e1, F1⟩
    dsimp only [En.cn_mk, En.X_mk, En.Y_mk, En.vp_mk, En.lq_mk, En.ld_mk, En.fo_mk, En.fi_mk, En.cl_mk, Ce.mt_mk, Ce.th_mk, Ce.lk_mk, Ce.hd_mk, Ab.E_mk, Ab.C_mk, Ab.wm_mk, Ab.ps_mk, Ab.fz_mk, Ab.gd_mk, Ab.gn_mk, Ab.g1_mk, Ab.g2_mk, Ab.g3_mk, Ab.g4_mk, Ab.hr_mk, Ab.mo_mk, Ab.st_mk, Ab.og_mk, Ab.oc_mk, Ab.ig_mk, Ab.ic_mk] at e1 F1
    subst e1
    have S1 := S.tr F1
    have R1 : Rw w1 (60 + 6 * n) n L := fun i hi => (F1.A _ _).trans (R i hi)
    have cmp : 0 ≤ lg_cmp (Int64.ofInt (wtL A.E n A.C m L)) (Int64.ofInt (lsZ least)) ↔ lsZ least ≤ wtL A.E n A.C m L := by
      have : -100 ≤ lsZ least ∧ lsZ least ≤ 1000000000000 := by
        cases least with
        | none => exact ⟨by decide, Int.le_refl _⟩
        | some z => have := hD z rfl; exact ⟨by show -100 ≤ z; omega, by show z ≤ 1000000000000; omega⟩
      rw [lg_cmp_ge, z_Le, z_T (by omega) (by omega), z_T (by omega) (by omega)]
    have keep : wp ((f_Trials_keepRow T w1 (50 + 3 * n) (nI n)).bind fun q9 => f_Trials_findDriest_86 T (f_Trials_findDriest_47 T fuel) q9 (50 + 3 * n) 41 26 (nI m) (nI n) (Int64.ofInt (wtL A.E n A.C m L)) (nI t)) (fun w' => SC T w' n A ∧ Rw w' (61 + 6 * n) n (bsL n (wtL A.E n A.C m) k L' (some (wtL A.E n A.C m L)) L)) := by
      rw [wp_bind]
      refine wp_mono (c_keep S1.ct n5 R1) ?_
      intro w2 ⟨Q2, RD⟩
      exact tail w2 L _ (S1.qx Q2 (by intro k hk; simp [wp_some, wp_bind, x_I_sI, x_J_sJ, x_R_sR, x_A_sA, x_B_sB, x_I_sJ, x_I_sR, x_I_sA, x_I_sB, x_J_sI, x_J_sR, x_J_sA, x_J_sB, x_R_sI, x_R_sJ, x_R_sA, x_R_sB, x_A_sI, x_A_sJ, x_A_sR, x_A_sB, x_B_sI, x_B_sJ, x_B_sR, x_B_sA, x_Q_sI, x_Q_sJ, x_Q_sR, x_Q_sA, x_Q_sB, En.cn_mk, En.X_mk, En.Y_mk, En.vp_mk, En.lq_mk, En.ld_mk, En.fo_mk, En.fi_mk, En.cl_mk, Ce.mt_mk, Ce.th_mk, Ce.lk_mk, Ce.hd_mk, Ab.E_mk, Ab.C_mk, Ab.wm_mk, Ab.ps_mk, Ab.fz_mk, Ab.gd_mk, Ab.gn_mk, Ab.g1_mk, Ab.g2_mk, Ab.g3_mk, Ab.g4_mk, Ab.hr_mk, Ab.mo_mk, Ab.st_mk, Ab.og_mk, Ab.oc_mk, Ab.ig_mk, Ab.ic_mk] at hk; omega)) (fun i hi => (Q2.g.A _ _ (by simp [wp_some, wp_bind, x_I_sI, x_J_sJ, x_R_sR, x_A_sA, x_B_sB, x_I_sJ, x_I_sR, x_I_sA, x_I_sB, x_J_sI, x_J_sR, x_J_sA, x_J_sB, x_R_sI, x_R_sJ, x_R_sA, x_R_sB, x_A_sI, x_A_sJ, x_A_sR, x_A_sB, x_B_sI, x_B_sJ, x_B_sR, x_B_sA, x_Q_sI, x_Q_sJ, x_Q_sR, x_Q_sA, x_Q_sB, En.cn_mk, En.X_mk, En.Y_mk, En.vp_mk, En.lq_mk, En.ld_mk, En.fo_mk, En.fi_mk, En.cl_mk, Ce.mt_mk, Ce.th_mk, Ce.lk_mk, Ce.hd_mk, Ab.E_mk, Ab.C_mk, Ab.wm_mk, Ab.ps_mk, Ab.fz_mk, Ab.gd_mk, Ab.gn_mk, Ab.g1_mk, Ab.g2_mk, Ab.g3_mk, Ab.g4_mk, Ab.hr_mk, Ab.mo_mk, Ab.st_mk, Ab.og_mk, Ab.oc_mk, Ab.ig_mk, Ab.ic_mk])).trans (R1 i hi)) RD hb.1 hb.2
    cases least with
    | none =>
      rw [if_neg (fun q => by have := cmp.mp q; have : (1000000000000 : Int) ≤ wtL A.E n A.C m L := this; omega)]
      refine wp_mono keep (fun w' hw' => ?_)
      have : bsL n (wtL A.E n A.C m) (k + 1) L none D = bsL n (wtL A.E n A.C m) k L' (some (wtL A.E n A.C m L)) L := by conv => lhs; unfold bsL; simp [wp_some, wp_bind, x_I_sI, x_J_sJ, x_R_sR, x_A_sA, x_B_sB, x_I_sJ, x_I_sR, x_I_sA, x_I_sB, x_J_sI, x_J_sR, x_J_sA, x_J_sB, x_R_sI, x_R_sJ, x_R_sA, x_R_sB, x_A_sI, x_A_sJ, x_A_sR, x_A_sB, x_B_sI, x_B_sJ, x_B_sR, x_B_sA, x_Q_sI, x_Q_sJ, x_Q_sR, x_Q_sA, x_Q_sB, En.cn_mk, En.X_mk, En.Y_mk, En.vp_mk, En.lq_mk, En.ld_mk, En.fo_mk, En.fi_mk, En.cl_mk, Ce.mt_mk, Ce.th_mk, Ce.lk_mk, Ce.hd_mk, Ab.E_mk, Ab.C_mk, Ab.wm_mk, Ab.ps_mk, Ab.fz_mk, Ab.gd_mk, Ab.gn_mk, Ab.g1_mk, Ab.g2_mk, Ab.g3_mk, Ab.g4_mk, Ab.hr_mk, Ab.mo_mk, Ab.st_mk, Ab.og_mk, Ab.oc_mk, Ab.ig_mk, Ab.ic_mk, hL']
      rw [this]; exact hw'
    | some z =>
      obtain ⟨h1, h2, h3⟩ := hD z rfl
      by_cases h : wtL A.E n A.C m L < z
      · rw [if_neg (fun q => by have := cmp.mp q; have : z ≤ wtL A.E n A.C m L := this; omega)]
        refine wp_mono keep (fun w' hw' => ?_)
        have : bsL n (wtL A.E n A.C m) (k + 1) L (some z) D = bsL n (wtL A.E n A.C m) k L' (some (wtL A.E n A.C m L)) L := by conv => lhs; unfold bsL; simp [wp_some, wp_bind, x_I_sI, x_J_sJ, x_R_sR, x_A_sA, x_B_sB, x_I_sJ, x_I_sR, x_I_sA, x_I_sB, x_J_sI, x_J_sR, x_J_sA, x_J_sB, x_R_sI, x_R_sJ, x_R_sA, x_R_sB, x_A_sI, x_A_sJ, x_A_sR, x_A_sB, x_B_sI, x_B_sJ, x_B_sR, x_B_sA, x_Q_sI, x_Q_sJ, x_Q_sR, x_Q_sA, x_Q_sB, En.cn_mk, En.X_mk, En.Y_mk, En.vp_mk, En.lq_mk, En.ld_mk, En.fo_mk, En.fi_mk, En.cl_mk, Ce.mt_mk, Ce.th_mk, Ce.lk_mk, Ce.hd_mk, Ab.E_mk, Ab.C_mk, Ab.wm_mk, Ab.ps_mk, Ab.fz_mk, Ab.gd_mk, Ab.gn_mk, Ab.g1_mk, Ab.g2_mk, Ab.g3_mk, Ab.g4_mk, Ab.hr_mk, Ab.mo_mk, Ab.st_mk, Ab.og_mk, Ab.oc_mk, Ab.ig_mk, Ab.ic_mk, hL', h]
        rw [this]; exact hw'
      · rw [if_pos (cmp.mpr (by show z ≤ _; omega))]
        refine wp_mono (tail w1 D z S1 R1 (fun i hi => (F1.A _ _).trans (h3 i hi)) h1 h2) (fun w' hw' => ?_)
        have : bsL n (wtL A.E n A.C m) (k + 1) L (some z) D = bsL n (wtL A.E n A.C m) k L' (some z) D := by conv => lhs; unfold bsL; simp [wp_some, wp_bind, x_I_sI, x_J_sJ, x_R_sR, x_A_sA, x_B_sB, x_I_sJ, x_I_sR, x_I_sA, x_I_sB, x_J_sI, x_J_sR, x_J_sA, x_J_sB, x_R_sI, x_R_sJ, x_R_sA, x_R_sB, x_A_sI, x_A_sJ, x_A_sR, x_A_sB, x_B_sI, x_B_sJ, x_B_sR, x_B_sA, x_Q_sI, x_Q_sJ, x_Q_sR, x_Q_sA, x_Q_sB, En.cn_mk, En.X_mk, En.Y_mk, En.vp_mk, En.lq_mk, En.ld_mk, En.fo_mk, En.fi_mk, En.cl_mk, Ce.mt_mk, Ce.th_mk, Ce.lk_mk, Ce.hd_mk, Ab.E_mk, Ab.C_mk, Ab.wm_mk, Ab.ps_mk, Ab.fz_mk, Ab.gd_mk, Ab.gn_mk, Ab.g1_mk, Ab.g2_mk, Ab.g3_mk, Ab.g4_mk, Ab.hr_mk, Ab.mo_mk, Ab.st_mk, Ab.og_mk, Ab.oc_mk, Ab.ig_mk, Ab.ic_mk, hL', h]
        rw [this]; exact hw'
theorem gl_range {i : Nat} (hi : i < n) : gl (List.range n) i = i := by unfold gl; rw [List.getD_eq_getElem?_getD, List.getElem?_range hi]; rfl
theorem c_order (S : SC T w n A) (B : AB n A) (n5 : n ≤ 5) {m : Nat} (hm : m ≤ 48) : wp (f_Trials_findDriest T w (50 + 3 * n) 41 26 (nI m)) (fun w' => SC T w' n A ∧ Rw w' (61 + 6 * n) n (bsL n (wtL A.E n A.C m) (fct n) (List.range n) none [])) := by
  have n1 := S.ws.n1
  have hf : fct n < 120 := by
    unfold fct
    by_cases e1 : n = 1
    · rw [if_pos e1]; omega
    · rw [if_neg e1]
      by_cases e2 : n = 2
      · rw [if_pos e2]; omega
      · rw [if_neg e2]
        by_cases e3 : n = 3
        · rw [if_pos e3]; omega
        · rw [if_neg e3]
          by_cases e4 : n = 4
          · rw [if_pos e4]; omega
          · rw [if_neg e4]; omega
  unfold f_Trials_findDriest
  simp only [t_is S.ws.t, S.ws.r55, t_len S.ws.tc, Option.bind_some]
  rw [z_nI n, show (5 : Int32) = Int32.ofInt 5 from rfl, m_min T w (by omega) (by omega) (by omega) (by omega), Option.bind_some, show min (5 : Int) (n : Int) = n by omega, ← z_nI n]
  refine loop_up (N := n) (by omega) (fun fuel w' i => f_Trials_findDriest_14 T fuel w' (50 + 3 * n) 41 26 (nI m) (nI n) i) (fun j w' => Qx [60 + 6 * n] w w' ∧ ∀ i, i < j → x_A w' (60 + 6 * n) i = nI i) _ ?_ ?_ w ⟨Qx.refl .., fun i hi => by omega⟩
  · intro i w' fuel hi ⟨F, hv⟩
    have S' := F.ct S.ct
    refine ⟨x_sA w' (60 + 6 * n) i (nI i), ⟨F.sA (by simp [wp_some, wp_bind, x_I_sI, x_J_sJ, x_R_sR, x_A_sA, x_B_sB, x_I_sJ, x_I_sR, x_I_sA, x_I_sB, x_J_sI, x_J_sR, x_J_sA, x_J_sB, x_R_sI, x_R_sJ, x_R_sA, x_R_sB, x_A_sI, x_A_sJ, x_A_sR, x_A_sB, x_B_sI, x_B_sJ, x_B_sR, x_B_sA, x_Q_sI, x_Q_sJ, x_Q_sR, x_Q_sA, x_Q_sB, En.cn_mk, En.X_mk, En.Y_mk, En.vp_mk, En.lq_mk, En.ld_mk, En.fo_mk, En.fi_mk, En.cl_mk, Ce.mt_mk, Ce.th_mk, Ce.lk_mk, Ce.hd_mk, Ab.E_mk, Ab.C_mk, Ab.wm_mk, Ab.ps_mk, Ab.fz_mk, Ab.gd_mk, Ab.gn_mk, Ab.g1_mk, Ab.g2_mk, Ab.g3_mk, Ab.g4_mk, Ab.hr_mk, Ab.mo_mk, Ab.st_mk, Ab.og_mk, Ab.oc_mk, Ab.ig_mk, Ab.ic_mk]), fun j hj => ?_⟩, ?_⟩
    · rw [x_A_sA]
      by_cases e : j = i
      · rw [if_pos ⟨rfl, e⟩, e]
      · rw [if_neg (fun z => e z.2)]; exact hv j (by omega)
    · show f_Trials_findDriest_14 T (fuel + 1) w' _ _ _ _ _ _ = f_Trials_findDriest_14 T fuel _ _ _ _ _ _ _
      rw [f_Trials_findDriest_14, if_neg (by rw [nI_leS (by omega) (by omega)]; omega)]
      simp only [t_is S.ct.tt, S'.r53, t_ixn S.ct.ta (show i < 5 by omega) (by omega), nI_clampS (show i < 100000 by omega), Option.bind_some, nI_inc]
  · intro w' fuel ⟨F, hv⟩
    show wp (f_Trials_findDriest_14 T (fuel + 1) w' _ _ _ _ _ _) _
    rw [f_Trials_findDriest_14, if_pos (by rw [nI_leS (by omega) (by omega)]; omega)]
    exact c_find B n1 n5 hm (fct n) 1000 (List.range n) [] none w' 0 (good_n n1 n5) (by omega) (by omega) (S.qx F (by intro k hk; simp [wp_some, wp_bind, x_I_sI, x_J_sJ, x_R_sR, x_A_sA, x_B_sB, x_I_sJ, x_I_sR, x_I_sA, x_I_sB, x_J_sI, x_J_sR, x_J_sA, x_J_sB, x_R_sI, x_R_sJ, x_R_sA, x_R_sB, x_A_sI, x_A_sJ, x_A_sR, x_A_sB, x_B_sI, x_B_sJ, x_B_sR, x_B_sA, x_Q_sI, x_Q_sJ, x_Q_sR, x_Q_sA, x_Q_sB, En.cn_mk, En.X_mk, En.Y_mk, En.vp_mk, En.lq_mk, En.ld_mk, En.fo_mk, En.fi_mk, En.cl_mk, Ce.mt_mk, Ce.th_mk, Ce.lk_mk, Ce.hd_mk, Ab.E_mk, Ab.C_mk, Ab.wm_mk, Ab.ps_mk, Ab.fz_mk, Ab.gd_mk, Ab.gn_mk, Ab.g1_mk, Ab.g2_mk, Ab.g3_mk, Ab.g4_mk, Ab.hr_mk, Ab.mo_mk, Ab.st_mk, Ab.og_mk, Ab.oc_mk, Ab.ig_mk, Ab.ic_mk] at hk; omega)) (fun i hi => by rw [gl_range hi]; exact hv i hi) (fun z hz => by cases hz)
end ORD
