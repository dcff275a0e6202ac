/-! THE CLASS'S HOUR: the flows set, all together -/
def prz (E : En) (n : Nat) (C : Ce) (h p : Nat) : Int := if p < n then pcz E n C h p else if p = n then oPz E h else iPz E h
def BG (w : x_W) (b n : Nat) (E : En) (C : Ce) (h p : Nat) : Prop := (p < n → x_I w 1 (ph b n p) = Int32.ofInt (dpz E C p)) ∧ (x_I w 2 (ph b n p) = Int32.ofInt (prz E n C h p)) ∧ (x_I w 3 (ph b n p) = Int32.ofInt (su n C p)) ∧ (x_I w 4 (ph b n p) = Int32.ofInt (ro E n C p)) ∧ (x_I w 5 (ph b n p) = 0) ∧ (x_I w 6 (ph b n p) = 0)
theorem BG.d {w : x_W} {b n : Nat} {E : En} {C : Ce} {h p : Nat} (S_ : BG w b n E C h p) : p < n → x_I w 1 (ph b n p) = Int32.ofInt (dpz E C p) := S_.1
theorem BG.pz {w : x_W} {b n : Nat} {E : En} {C : Ce} {h p : Nat} (S_ : BG w b n E C h p) : x_I w 2 (ph b n p) = Int32.ofInt (prz E n C h p) := S_.2.1
theorem BG.u {w : x_W} {b n : Nat} {E : En} {C : Ce} {h p : Nat} (S_ : BG w b n E C h p) : x_I w 3 (ph b n p) = Int32.ofInt (su n C p) := S_.2.2.1
theorem BG.r {w : x_W} {b n : Nat} {E : En} {C : Ce} {h p : Nat} (S_ : BG w b n E C h p) : x_I w 4 (ph b n p) = Int32.ofInt (ro E n C p) := S_.2.2.2.1
theorem BG.l {w : x_W} {b n : Nat} {E : En} {C : Ce} {h p : Nat} (S_ : BG w b n E C h p) : x_I w 5 (ph b n p) = 0 := S_.2.2.2.2.1
theorem BG.c {w : x_W} {b n : Nat} {E : En} {C : Ce} {h p : Nat} (S_ : BG w b n E C h p) : x_I w 6 (ph b n p) = 0 := S_.2.2.2.2.2
theorem BG.fx {w w' : x_W} {b e n h p : Nat} {E : En} {C : Ce} {a1 a2 a3 : List Nat} (G : BG w b n E C h p) (F : Fx b e a1 a2 a3 w w') (hl : (a1.all fun k => !(k == 1 || k == 2 || k == 3 || k == 4 || k == 5 || k == 6)) = true := by decide) : BG w' b n E C h p := by
  have q : ∀ k, k = 1 ∨ k = 2 ∨ k = 3 ∨ k = 4 ∨ k = 5 ∨ k = 6 → k ∉ a1 := fun k hk hm => by
    have := List.all_eq_true.mp hl k hm
    rcases hk with q | q | q | q | q | q <;> simp [wp_some, wp_bind, x_I_sI, x_J_sJ, x_R_sR, x_A_sA, x_B_sB, x_I_sJ, x_I_sR, x_I_sA, x_I_sB, x_J_sI, x_J_sR, x_J_sA, x_J_sB, x_R_sI, x_R_sJ, x_R_sA, x_R_sB, x_A_sI, x_A_sJ, x_A_sR, x_A_sB, x_B_sI, x_B_sJ, x_B_sR, x_B_sA, x_Q_sI, x_Q_sJ, x_Q_sR, x_Q_sA, x_Q_sB, q] at this
  exact ⟨fun hp => (F.I 1 _ (Or.inl (q 1 (by decide)))).trans (G.d hp), (F.I 2 _ (Or.inl (q 2 (by decide)))).trans G.pz, (F.I 3 _ (Or.inl (q 3 (by decide)))).trans G.u, (F.I 4 _ (Or.inl (q 4 (by decide)))).trans G.r, (F.I 5 _ (Or.inl (q 5 (by decide)))).trans G.l, (F.I 6 _ (Or.inl (q 6 (by decide)))).trans G.c⟩
theorem z_ab (s : Int) (f : Nat → Int) (k : Nat) (h : f k = s) : fP f k + fN f k = if 0 ≤ s then s else -s := by
  unfold fP fN
  rw [h]
  split <;> omega
section CS
variable {T : x_T} {w : x_W} {E : En} {b n h : Nat} {C : Ce}
def FVs (w : x_W) (b n : Nat) (E : En) (C : Ce) (h f : Nat) : Prop := FV w b n f (sg E n C h f) (if 0 ≤ sg E n C h f then sg E n C h f else - sg E n C h f)
theorem c_setLeaks (B : EB E) (S : WS T w b n) (K : KC w b n C) (KBd : KB E n C) (hh : h < 24) (P : ∀ p, p < n + 2 → BG w b n E C h p) (h0 : ∀ f, f < 3 → FVs w b n E C h f) :
    wp (f_Wall_setAirFlows_96 T 1000 w b 0) (fun w' => Fx b (b + 9 + 3 * n) [33] [] [31, 32] w w' ∧ ∀ f, f < 3 + n → FVs w' b n E C h f) := by
  have n12 := S.n12
  have n1 := S.n1
  have FBd := hour_FB B KBd hh
  refine loop_up (N := n) (by omega) (fun fuel w' i => f_Wall_setAirFlows_96 T fuel w' b i) (fun j w' => Fx b (b + 9 + 3 * n) [33] [] [31, 32] w w' ∧ ∀ f, f < 3 + j → FVs w' b n E C h f) _ ?_ ?_ w ⟨Fx.refl .., fun f hf => h0 f (by omega)⟩
  · intro i w' fuel hi ⟨X, hv⟩
    have S' := X.ws S
    have K' := X.kc K
    obtain ⟨t1, t2, t3, t4⟩ := S.f (3 + i) (by omega)
    have hs := FBd.sb (3 + i) (by omega)
    obtain ⟨w1, e1, X1, V1, V2⟩ := c_set (s := sg E n C h (3 + i)) S' (f := 3 + i) (by omega) hs.1 hs.2
    refine ⟨w1, ⟨X.trans X1, fun f hf => ?_⟩, ?_⟩
    · by_cases e : f = 3 + i
      · subst e; exact V1
      · exact V2 f (by omega) e _ _ (hv f (by omega))
    · show f_Wall_setAirFlows_96 T (fuel + 1) w' _ _ = f_Wall_setAirFlows_96 T fuel _ _ _
      have Pi := (P i (by omega)).fx X
      have Pn := (P (n + 1) (by omega)).fx X
      have pi := Pi.pz
      have pn := Pn.pz
      have e1' : prz E n C h i = pcz E n C h i := if_pos hi
      have e2' : prz E n C h (n + 1) = iPz E h := by unfold prz; rw [if_neg (by omega), if_neg (by omega)]
      rw [e1', ph_cell hi] at pi
      rw [e2', ph_in] at pn
      have q1 := iPz_b B hh
      have q2 := pcz_b (h := h) B KBd hi
      have q3 := KBd.lk i hi
      have q4 := z_mb (a := max 0 (iPz E h - pcz E n C h i)) (b := C.lk i) (A := 100000) (B := 1000) (by omega) (by omega) q3.1 q3.2
      rw [f_Wall_setAirFlows_96]
      simp only [Option.bind_some, t_is S.t, S'.r61, t_len S.tl]
      rw [if_neg (by rw [nI_leS (by omega) (by omega)]; omega)]
      simp only [Option.bind_some, S'.r55, t_len S.tc]
      rw [if_neg (by rw [nI_leS (by omega) (by omega)]; omega)]
      simp only [Option.bind_some, S'.r57, t_is S.ti, t_ixn S.tc hi (by omega), nI_clampS (show i < 100000 by omega), (S'.c i hi).2, t_is (S.c i hi).1, S'.r61, t_ixn S.tl hi (by omega), S'.lk i hi, t_is t1, pi, pn, z_sub, K'.lk i hi]
      rw [show (0 : Int32) = Int32.ofInt 0 from rfl, m_max T w' (by omega) (by omega) (by omega) (by omega)]
      simp only [Option.bind_some]
      rw [z_mul, show (1000 : Int32) = Int32.ofInt 1000 from rfl, z_div (by omega) (by omega) (by omega) (by omega), z_neg, show (-((max 0 (iPz E h - pcz E n C h i) * C.lk i).tdiv 1000)) = sgl E n C h i from rfl, ← sg_leak hi, e1, nI_inc]
      rfl
  · intro w' fuel ⟨X, hv⟩
    have S' := X.ws S
    show wp (f_Wall_setAirFlows_96 T (fuel + 1) w' _ _) _
    rw [f_Wall_setAirFlows_96]
    simp only [Option.bind_some, t_is S.t, S'.r61, t_len S.tl]
    rw [if_pos (by rw [nI_leS (by omega) (by omega)]; omega)]
    unfold f_Wall_setAirFlows_174
    rw [wp_some]
    exact ⟨X, hv⟩
theorem c_setAir (B : EB E) (S : WS T w b n) (G : EC T w E) (K : KC w b n C) (KBd : KB E n C) (hh : h < 24) (P : ∀ p, p < n + 2 → BG w b n E C h p) :
    wp (f_Wall_setAirFlows T w b (Int32.ofInt (E.cl 2 h))) (fun w' => Fx b (b + 9 + 3 * n) [33] [] [31, 32] w w' ∧ ∀ f, f < 3 + n → FVs w' b n E C h f) := by
  have n12 := S.n12
  have n1 := S.n1
  have FBd := hour_FB B KBd hh
  have hm0 := KBd.mt 0 (by omega)
  have hmn := KBd.mt (n - 1) (by omega)
  have s0 := FBd.sb 0 (by omega)
  have s1 := FBd.sb 1 (by omega)
  have s2 := FBd.sb 2 (by omega)
  have r0 := B.rt _ hm0
  have rn := B.rt _ hmn
  have q1 := oPz_b B hh
  have q2 := iPz_b B hh
  have q3 := pcz_b (h := h) B KBd (k := 0) (by omega)
  have q4 := pcz_b (h := h) B KBd (k := n - 1) (by omega)
  have q5 := B.c2 h hh
  have p0 := (P 0 (by omega)).pz
  have pn := (P (n - 1) (by omega)).pz
  have po := (P n (by omega)).pz
  have pi := (P (n + 1) (by omega)).pz
  rw [show prz E n C h 0 = pcz E n C h 0 from if_pos (by omega), ph_cell (by omega)] at p0
  rw [show prz E n C h (n - 1) = pcz E n C h (n - 1) from if_pos (by omega), ph_cell (by omega)] at pn
  rw [show prz E n C h n = oPz E h by unfold prz; rw [if_neg (by omega), if_pos rfl], ph_out] at po
  rw [show prz E n C h (n + 1) = iPz E h by unfold prz; rw [if_neg (by omega), if_neg (by omega)], ph_in] at pi
  have m1 := mul_b (a := oPz E h - pcz E n C h 0) (b := E.vp (C.mt 0)) (A := 100000) (B := 1000) (by omega) (by omega) (by omega) (by omega)
  have m2 := mul_b (a := pcz E n C h (n - 1) - iPz E h) (b := E.vp (C.mt (n - 1))) (A := 100000) (B := 1000) (by omega) (by omega) (by omega) (by omega)
  have m3 := mul_b (a := E.cl 2 h) (b := E.lq (C.mt 0)) (A := 1000) (B := 1000) (by omega) (by omega) (by omega) (by omega)
  obtain ⟨w1, e1, X1, V1, U1⟩ := c_set (s := sg E n C h 0) S (f := 0) (by omega) s0.1 s0.2
  have S1 := X1.ws S
  obtain ⟨w2, e2, X2, V2, U2⟩ := c_set (s := sg E n C h 1) S1 (f := 1) (by omega) s1.1 s1.2
  have S2 := X2.ws S1
  obtain ⟨w3, e3, X3, V3, U3⟩ := c_set (s := sg E n C h 2) S2 (f := 2) (by omega) s2.1 s2.2
  have S3 := X3.ws S2
  have X12 := X1.trans X2
  have X13 := X12.trans X3
  have K1 := X1.kc K
  have G1 := X1.ec G
  have K2 := X12.kc K
  have G2 := X12.ec G
  have i0 := K.mt 0 (by omega)
  have i1 := K1.mt (n - 1) (by omega)
  have i2 := K2.mt 0 (by omega)
  have l0 : f_Wall_lastCell T w b = some (b + 5 + 2 * (n - 1)) := by
    unfold f_Wall_lastCell
    simp only [Option.bind_some, t_is S.t, S.r55, t_len S.tc, nI_sub1 (show 0 < n by omega), t_ixn S.tc (show n - 1 < n by omega) (by omega), nI_clampS (show n - 1 < 100000 by omega), (S.c (n - 1) (by omega)).2]
  have c0 := (S.c 0 (by omega)).1
  have f0 : fh b n 0 = b + 5 + 3 * n := rfl
  have f1 : fh b n 1 = b + 6 + 3 * n := rfl
  have f2 : fh b n 2 = b + 7 + 3 * n := rfl
  have tf0 := (S.f 0 (by omega)).1
  have tf1 := (S.f 1 (by omega)).1
  have tf2 := (S.f 2 (by omega)).1
  rw [f0] at e1 tf0
  rw [f1] at e2 tf1
  rw [f2] at e3 tf2
  have cq := (S.c 0 (by omega)).2
  rw [Nat.mul_zero, Nat.add_zero] at c0 p0 i0 i2 cq
  unfold f_Wall_setAirFlows
  simp only [Option.bind_some, t_is S.t, S.r55, show (0 : Int32) = nI 0 from rfl, t_ixn S.tc (show 0 < n by omega) (by omega), nI_clampS (show 0 < 100000 by omega), cq, l0, S.r58, S.r56, t_is S.ta, t_is c0, i0, t_is (G.m _ hm0).1, t_is tf0, p0, po, (G.m _ hm0).2.2.1]
  rw [z_sub, z_mul, show (1000 : Int32) = Int32.ofInt 1000 from rfl, z_div (by omega) (by omega) (by omega) (by omega), show ((oPz E h - pcz E n C h 0) * E.vp (C.mt 0)).tdiv 1000 = sg E n C h 0 from rfl, e1]
  simp only [Option.bind_some, S1.r59, t_is (S.c (n - 1) (by omega)).1, S1.r57, t_is S.ti, i1, t_is (G.m _ hmn).1, t_is tf1, X1.I 2 (b + 5 + 2 * (n - 1)) (Or.inl (by decide)), X1.I 2 (b + 2) (Or.inl (by decide)), pn, pi, (G1.m _ hmn).2.2.1]
  rw [z_sub, z_mul, z_div (by omega) (by omega) (by omega) (by omega), show ((pcz E n C h (n - 1) - iPz E h) * E.vp (C.mt (n - 1))).tdiv 1000 = sg E n C h 1 from rfl, e2]
  simp only [Option.bind_some, S2.r60, i2, t_is (G.m _ hm0).1, t_is tf2, (G2.m _ hm0).2.2.2.1]
  rw [z_mul, show (100 : Int32) = Int32.ofInt 100 from rfl, z_div (by omega) (by omega) (by omega) (by omega), show (E.cl 2 h * E.lq (C.mt 0)).tdiv 100 = sg E n C h 2 from rfl, e3]
  simp only [Option.bind_some]
  refine wp_mono (c_setLeaks B S3 (X13.kc K) KBd hh (fun p hp => (P p hp).fx X13) (fun f hf => ?_)) ?_
  · by_cases z0 : f = 0
    · subst z0; exact U3 0 (by omega) (by omega) _ _ (U2 0 (by omega) (by omega) _ _ V1)
    · by_cases z1 : f = 1
      · subst z1; exact U3 1 (by omega) (by omega) _ _ V2
      · rw [show f = 2 by omega]; exact V3
  · intro w' ⟨X, hv⟩
    exact ⟨X13.trans X, hv⟩
theorem c_setBetw (B : EB E) (S : WS T w b n) (G : EC T w E) (K : KC w b n C) (KBd : KB E n C) (hh : h < 24) (P : ∀ p, p < n + 2 → BG w b n E C h p) (h0 : ∀ f, f < 3 + n → FVs w b n E C h f) :
    wp (f_Wall_setFlowsBetween T w b) (fun w' => Fx b (b + 9 + 3 * n) [33] [] [31, 32] w w' ∧ ∀ f, f < 2 * n + 2 → FVs w' b n E C h f) := by
  have n12 := S.n12
  have n1 := S.n1
  have FBd := hour_FB B KBd hh
  unfold f_Wall_setFlowsBetween
  refine loop_up (N := n - 1) (by omega) (fun fuel w' i => f_Wall_setFlowsBetween_2 T fuel w' b i) (fun j w' => Fx b (b + 9 + 3 * n) [33] [] [31, 32] w w' ∧ ∀ f, f < 3 + n + j → FVs w' b n E C h f) _ ?_ ?_ w ⟨Fx.refl .., fun f hf => h0 f (by omega)⟩
  · intro i w' fuel hi ⟨X, hv⟩
    have S' := X.ws S
    have K' := X.kc K
    have G' := X.ec G
    have hi0 : i < n := by omega
    have hi1 : i + 1 < n := by omega
    obtain ⟨t1, t2, t3, t4⟩ := S.f (3 + n + i) (by omega)
    have hs := FBd.sb (3 + n + i) (by omega)
    obtain ⟨w1, e1, X1, V1, V2⟩ := c_set (s := sg E n C h (3 + n + i)) S' (f := 3 + n + i) (by omega) hs.1 hs.2
    refine ⟨w1, ⟨X.trans X1, fun f hf => ?_⟩, ?_⟩
    · by_cases e : f = 3 + n + i
      · subst e; exact V1
      · exact V2 f (by omega) e _ _ (hv f (by omega))
    · show f_Wall_setFlowsBetween_2 T (fuel + 1) w' _ _ = f_Wall_setFlowsBetween_2 T fuel _ _ _
      have pa := ((P i (by omega)).fx X).pz
      have pb := ((P (i + 1) (by omega)).fx X).pz
      have da := ((P i (by omega)).fx X).d hi0
      have db := ((P (i + 1) (by omega)).fx X).d hi1
      rw [show prz E n C h i = pcz E n C h i from if_pos hi0, ph_cell hi0] at pa
      rw [show prz E n C h (i + 1) = pcz E n C h (i + 1) from if_pos hi1, ph_cell hi1] at pb
      rw [ph_cell hi0] at da
      rw [ph_cell hi1] at db
      have ma := KBd.mt i hi0
      have mb := KBd.mt (i + 1) hi1
      have ra := B.rt _ ma
      have rb := B.rt _ mb
      have qa := pcz_b (h := h) B KBd hi0
      have qb := pcz_b (h := h) B KBd hi1
      have ea := dpz_b B KBd hi0
      have eb := dpz_b B KBd hi1
      have m1 := mul_b (a := pcz E n C h i - pcz E n C h (i + 1)) (b := min (E.vp (C.mt i)) (E.vp (C.mt (i + 1)))) (A := 100000) (B := 1000) (by omega) (by omega) (by omega) (by omega)
      have m2 := mul_b (a := dpz E C i - dpz E C (i + 1)) (b := min (E.lq (C.mt i)) (E.lq (C.mt (i + 1)))) (A := 10000) (B := 1000) (by omega) (by omega) (by omega) (by omega)
      rw [f_Wall_setFlowsBetween_2]
      simp only [Option.bind_some, t_is S.t, S'.r62, t_len S.tb]
      rw [if_neg (by rw [nI_leS (by omega) (by omega)]; omega)]
      simp only [Option.bind_some, S'.r55, t_len S.tc, nI_inc]
      rw [if_neg (by rw [nI_leS (by omega) (by omega)]; omega)]
      simp only [Option.bind_some, t_ixn S.tc hi0 (by omega), t_ixn S.tc hi1 (by omega), nI_clampS (show i < 100000 by omega), nI_clampS (show i + 1 < 100000 by omega), (S'.c i hi0).2, (S'.c (i + 1) hi1).2, t_is (S.c i hi0).1, t_is (S.c (i + 1) hi1).1, K'.mt i hi0, K'.mt (i + 1) hi1, t_is (G.m _ ma).1, t_is (G.m _ mb).1, (G'.m _ ma).2.2.1, (G'.m _ mb).2.2.1, (G'.m _ ma).2.2.2.1, (G'.m _ mb).2.2.2.1, m_min T w' (a := E.vp (C.mt i)) (b := E.vp (C.mt (i + 1))) (by omega) (by omega) (by omega) (by omega), m_min T w' (a := E.lq (C.mt i)) (b := E.lq (C.mt (i + 1))) (by omega) (by omega) (by omega) (by omega), t_ixn S.tb hi (by omega), S'.bt i hi1, t_is t1, pa, pb, da, db]
      rw [z_sub, z_sub, z_mul, z_mul, show (1000 : Int32) = Int32.ofInt 1000 from rfl, z_div (by omega) (by omega) (by omega) (by omega), z_div (by omega) (by omega) (by omega) (by omega), z_add]
      rw [show ((pcz E n C h i - pcz E n C h (i + 1)) * min (E.vp (C.mt i)) (E.vp (C.mt (i + 1)))).tdiv 1000 + ((dpz E C i - dpz E C (i + 1)) * min (E.lq (C.mt i)) (E.lq (C.mt (i + 1)))).tdiv 1000 = sgb E n C h i from rfl, ← sg_betw, e1]
      rfl
  · intro w' fuel ⟨X, hv⟩
    have S' := X.ws S
    show wp (f_Wall_setFlowsBetween_2 T (fuel + 1) w' _ _) _
    rw [f_Wall_setFlowsBetween_2]
    simp only [Option.bind_some, t_is S.t, S'.r62, t_len S.tb]
    rw [if_pos (by rw [nI_leS (by omega) (by omega)]; omega)]
    unfold f_Wall_setFlowsBetween_124
    rw [wp_some]
    exact ⟨X, fun f hf => hv f (by omega)⟩
/-- what an hour does to a wall of the class -/
def HC (b n : Nat) (E : En) (C : Ce) (h : Nat) (w w' : x_W) : Prop := (Fx b (b + 9 + 3 * n) [0, 1, 2, 3, 4, 5, 6, 20, 33] [15, 16, 21] [31, 32] w w') ∧ (KC w' b n (hourC E n C h)) ∧ (∀ k, k < n → x_I w' 0 (b + 5 + 2 * k) = Int32.ofInt (wmz E n C h k)) ∧ (x_J w' 15 (b + 1) = x_J w 15 (b + 1) + Int64.ofInt (SO n n (PP E n C h) (NN E n C h))) ∧ (x_J w' 16 (b + 1) = x_J w 16 (b + 1) + Int64.ofInt (SI n n (PP E n C h) (NN E n C h))) ∧ (x_J w' 15 (b + 2) = x_J w 15 (b + 2) + Int64.ofInt (SO n (n + 1) (PP E n C h) (NN E n C h))) ∧ (x_J w' 16 (b + 2) = x_J w 16 (b + 2) + Int64.ofInt (SI n (n + 1) (PP E n C h) (NN E n C h)))
theorem HC.fx {b n : Nat} {E : En} {C : Ce} {h : Nat} {w w' : x_W} (S_ : HC b n E C h w w') : Fx b (b + 9 + 3 * n) [0, 1, 2, 3, 4, 5, 6, 20, 33] [15, 16, 21] [31, 32] w w' := S_.1
theorem HC.k {b n : Nat} {E : En} {C : Ce} {h : Nat} {w w' : x_W} (S_ : HC b n E C h w w') : KC w' b n (hourC E n C h) := S_.2.1
theorem HC.wm {b n : Nat} {E : En} {C : Ce} {h : Nat} {w w' : x_W} (S_ : HC b n E C h w w') : ∀ k, k < n → x_I w' 0 (b + 5 + 2 * k) = Int32.ofInt (wmz E n C h k) := S_.2.2.1
theorem HC.og {b n : Nat} {E : En} {C : Ce} {h : Nat} {w w' : x_W} (S_ : HC b n E C h w w') : x_J w' 15 (b + 1) = x_J w 15 (b + 1) + Int64.ofInt (SO n n (PP E n C h) (NN E n C h)) := S_.2.2.2.1
theorem HC.oc {b n : Nat} {E : En} {C : Ce} {h : Nat} {w w' : x_W} (S_ : HC b n E C h w w') : x_J w' 16 (b + 1) = x_J w 16 (b + 1) + Int64.ofInt (SI n n (PP E n C h) (NN E n C h)) := S_.2.2.2.2.1
theorem HC.ig {b n : Nat} {E : En} {C : Ce} {h : Nat} {w w' : x_W} (S_ : HC b n E C h w w') : x_J w' 15 (b + 2) = x_J w 15 (b + 2) + Int64.ofInt (SO n (n + 1) (PP E n C h) (NN E n C h)) := S_.2.2.2.2.2.1
theorem HC.ic {b n : Nat} {E : En} {C : Ce} {h : Nat} {w w' : x_W} (S_ : HC b n E C h w w') : x_J w' 16 (b + 2) = x_J w 16 (b + 2) + Int64.ofInt (SI n (n + 1) (PP E n C h) (NN E n C h)) := S_.2.2.2.2.2.2
theorem c_flows (B : EB E) (S : WS T w b n) (G : EC T w E) (K : KC w b n C) (KBd : KB E n C) (hh : h < 24) (P : ∀ p, p < n + 2 → BG w b n E C h p) :
    wp ((f_Wall_setAirFlows T w b (Int32.ofInt (E.cl 2 h))).bind fun q11 => (f_Wall_setFlowsBetween T q11 b).bind fun q16 => (f_Wall_limitFlows T q16 b).bind fun q18 => (x_R q18 63 b).bind fun a20 => (x_len T a20 105).bind fun n22 => f_Wall_moveWater_145 T 1000 q18 a20 (nI n22) (0 : Int32))
      (fun w' => Fx b (b + 9 + 3 * n) [5, 6, 20, 33] [15, 16] [31, 32] w w' ∧ MV b n C.hd (PP E n C h) (NN E n C h) w w' (2 * n + 2)) := by
  have FBd := hour_FB B KBd hh
  rw [wp_bind]
  refine wp_mono (c_setAir B S G K KBd hh P) ?_
  intro w1 ⟨X1, V1⟩
  rw [wp_bind]
  refine wp_mono (c_setBetw B (X1.ws S) (X1.ec G) (X1.kc K) KBd hh (fun p hp => (P p hp).fx X1) V1) ?_
  intro w2 ⟨X2, V2⟩
  have X12 := X1.trans X2
  rw [wp_bind]
  have D : FR w2 b n (sg E n C h) := fun f hf => ⟨(V2 f hf).1, (V2 f hf).2.1⟩
  refine wp_mono (c_lim (sup := su n C) (roo := ro E n C) (s := sg E n C h) (X12.ws S) FBd D (fun f hf => by rw [z_ab _ _ f rfl]; exact (V2 f hf).2.2) (fun p hp => ((P p hp).fx X12).l) (fun p hp => ((P p hp).fx X12).c) (fun p hp => ((P p hp).fx X12).u) (fun p hp => ((P p hp).fx X12).r)) ?_
  intro w3 ⟨X3, V3⟩
  have S3 := X3.ws (X12.ws S)
  simp only [Option.bind_some, S3.r63, t_len S.tf]
  have Xa := (X12.mono (by decide) (by decide) (by decide) : Fx b (b + 9 + 3 * n) [5, 6, 33] [] [31, 32] w w2).trans (X3.mono (by decide) (by decide) (by decide))
  refine wp_mono (c_moves (sup := su n C) (roo := ro E n C) (s := sg E n C h) (hd := C.hd) S3 FBd (fun f hf => ⟨(X3.R 31 _ (Or.inl (by decide))).trans (D f hf).1, (X3.R 32 _ (Or.inl (by decide))).trans (D f hf).2⟩) V3 (fun k hk => (Xa.I 20 _ (Or.inl (by decide))).trans (K.hd k hk))) ?_
  intro w4 ⟨X4, M⟩
  refine ⟨(Xa.mono (by decide) (by decide) (by decide)).trans (X4.mono (by decide) (by decide) (by decide)), ⟨M.h, ?_, ?_, ?_, ?_⟩⟩
  · rw [M.og, Xa.J 15 _ (Or.inl (by decide))]; rfl
  · rw [M.oc, Xa.J 16 _ (Or.inl (by decide))]; rfl
  · rw [M.ig, Xa.J 15 _ (Or.inl (by decide))]; rfl
  · rw [M.ic, Xa.J 16 _ (Or.inl (by decide))]; rfl
end CS
