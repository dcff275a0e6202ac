/-! THE CLASS'S HOUR, from its beginning -/
section CW2
variable {T : x_T} {w : x_W} {E : En} {b n h : Nat} {C : Ce}
theorem c_airBegin (B : EB E) (S : WS T w b n) (G : EC T w E) {p : Nat} (hp : p < n + 2) (hn : n ≤ p) {x d : Int} (hx : -2147483648 ≤ x ∧ x < 2147483648) (h0 : 0 ≤ d) (h1 : d ≤ 10000) (hv : x_I w 0 (ph b n p) = Int32.ofInt x) : ∃ w', f_Air_beginHour T w (ph b n p) 26 (Int32.ofInt d) = some w' ∧ Fx b (b + 9 + 3 * n) [1, 2, 3, 4, 5, 6] [] [] w w' ∧ (x_I w' 2 (ph b n p) = Int32.ofInt (fu E x * d / 10000) ∧ x_I w' 3 (ph b n p) = Int32.ofInt (su n C p) ∧ x_I w' 4 (ph b n p) = Int32.ofInt (ro E n C p) ∧ x_I w' 5 (ph b n p) = 0 ∧ x_I w' 6 (ph b n p) = 0) ∧ ∀ h, h ≠ ph b n p → ∀ k, x_I w' k h = x_I w k h := by
  have ty : x_is T (ph b n p) 1 = some () := by unfold x_is; rw [if_pos ((ph_ty S hp).mpr hn)]
  obtain ⟨w', e1, X, v, o⟩ := c_fix S hp (Int32.ofInt d) (Int32.ofInt (fu E x * d / 10000)) 1000000000 1000000000
  refine ⟨w', ?_, X, ⟨v.2.1, ?_, ?_, v.2.2.2.2.1, v.2.2.2.2.2⟩, o⟩
  · unfold f_Air_beginHour
    rw [ty, t_is G.s, hv, c_pressureAt B G hx h0 h1]
    simp only [Option.bind_some]
    rw [e1]
    rfl
  · rw [v.2.2.1]; unfold su; rw [if_neg (by omega)]; rfl
  · rw [v.2.2.2.1]; unfold ro; rw [if_neg (by omega)]; rfl
theorem c_cellBegin (B : EB E) (S : WS T w b n) (G : EC T w E) (K : KC w b n C) (KBd : KB E n C) (hh : h < 24) {k : Nat} (hk : k < n) (hv : x_I w 0 (b + 5 + 2 * k) = Int32.ofInt (wmz E n C h k)) : ∃ w', f_Cell_beginHour T w (b + 5 + 2 * k) 26 = some w' ∧ Fx b (b + 9 + 3 * n) [1, 2, 3, 4, 5, 6] [] [] w w' ∧ BG w' b n E C h k ∧ ∀ h, h ≠ ph b n k → ∀ k, x_I w' k h = x_I w k h := by
  have hm := KBd.mt k hk
  have hw := wmz_b B KBd hh hk
  have hd := dpz_b B KBd hk
  obtain ⟨w', e1, X, v, o⟩ := c_fix S (p := k) (by omega) (Int32.ofInt (dpz E C k)) (Int32.ofInt (pcz E n C h k)) (Int32.ofInt (C.hd k)) (Int32.ofInt (moE E (C.mt k) - C.hd k))
  refine ⟨w', ?_, X, ⟨fun _ => v.1, ?_, ?_, ?_, v.2.2.2.2.1, v.2.2.2.2.2⟩, o⟩
  · rw [ph_cell hk] at e1
    unfold f_Cell_beginHour
    rw [t_is (S.c k hk).1, c_dampOfHeld B S G K KBd hk, t_is G.s, hv]
    simp only [Option.bind_some]
    rw [c_pressureAt B G (by omega) hd.1 hd.2, K.mt k hk]
    simp only [Option.bind_some]
    rw [t_is (G.m _ hm).1, c_most B G hm, K.hd k hk]
    simp only [Option.bind_some]
    rw [z_sub, show fu E (wmz E n C h k) * dpz E C k / 10000 = pcz E n C h k from rfl, e1]
    rfl
  · rw [v.2.1]; unfold prz; rw [if_pos hk]
  · rw [v.2.2.1]; unfold su; rw [if_pos hk]
  · rw [v.2.2.2.1]; unfold ro; rw [if_pos hk]
theorem BG.off {w w' : x_W} {p q : Nat} (G : BG w b n E C h p) (o : ∀ i, i ≠ ph b n q → ∀ k, x_I w' k i = x_I w k i) (hp : p < n + 2) (hq : q < n + 2) (hne : p ≠ q) : BG w' b n E C h p := by
  have := o (ph b n p) (fun z => hne ((ph_inj hp hq).mp z))
  exact ⟨fun hp => (this 1).trans (G.d hp), (this 2).trans G.pz, (this 3).trans G.u, (this 4).trans G.r, (this 5).trans G.l, (this 6).trans G.c⟩
theorem c_begin (B : EB E) (S : WS T w b n) (G : EC T w E) (K : KC w b n C) (KBd : KB E n C) (hh : h < 24) (hv : ∀ k, k < n → x_I w 0 (b + 5 + 2 * k) = Int32.ofInt (wmz E n C h k)) (P0 : ∀ p, n ≤ p → p < n + 2 → BG w b n E C h p) :
    wp (f_Wall_moveWater_87 T 1000 w b 26 (nI h) (b + 3) (nI n) 0) (fun w' => Fx b (b + 9 + 3 * n) [1, 2, 3, 4, 5, 6, 20, 33] [15, 16] [31, 32] w w' ∧ MV b n C.hd (PP E n C h) (NN E n C h) w w' (2 * n + 2)) := by
  have n12 := S.n12
  have n1 := S.n1
  refine loop_up (N := n) (by omega) (fun fuel w' i => f_Wall_moveWater_87 T fuel w' b 26 (nI h) (b + 3) (nI n) i) (fun j w' => Fx b (b + 9 + 3 * n) [1, 2, 3, 4, 5, 6] [] [] w w' ∧ ∀ p, p < n + 2 → (n ≤ p ∨ p < j) → BG w' b n E C h p) _ ?_ ?_ w ⟨Fx.refl .., fun p hp hq => P0 p (by omega) hp⟩
  · intro i w' fuel hi ⟨X, hP⟩
    have S' := X.ws S
    obtain ⟨w1, e1, X1, g1, o1⟩ := c_cellBegin B S' (X.ec G) (X.kc K) KBd hh hi ((X.I 0 _ (Or.inl (by decide))).trans (hv i hi))
    refine ⟨w1, ⟨X.trans X1, fun p hp hq => ?_⟩, ?_⟩
    · by_cases e : p = i
      · rw [e]; exact g1
      · exact (hP p hp (by omega)).off o1 hp (by omega) e
    · show f_Wall_moveWater_87 T (fuel + 1) w' _ _ _ _ _ _ = f_Wall_moveWater_87 T fuel _ _ _ _ _ _ _
      rw [f_Wall_moveWater_87, if_neg (by rw [nI_leS (by omega) (by omega)]; omega), t_ixn S.tc hi (by omega), nI_clampS (by omega), (S'.c i hi).2]
      simp only [Option.bind_some, t_is (S.c i hi).1, e1, nI_inc]
  · intro w' fuel ⟨X, hP⟩
    have S' := X.ws S
    have G' := X.ec G
    show wp (f_Wall_moveWater_87 T (fuel + 1) w' _ _ _ _ _ _) _
    rw [f_Wall_moveWater_87, if_pos (by rw [nI_leS (by omega) (by omega)]; omega)]
    have v2 := G'.v 2 h (by omega) hh
    have ta := G.a 2 (by omega)
    rw [show 30 + 2 = 32 from rfl] at v2 ta
    simp only [Option.bind_some, t_is G.s, G'.r46, t_ixn ta hh (by omega), t_is S.t, nI_clampS (show h < 100000 by omega), v2]
    refine wp_mono (c_flows B S' G' (X.kc K) KBd hh (fun p hp => hP p hp (by omega))) ?_
    intro w2 ⟨X2, M⟩
    refine ⟨(X.mono (by decide) (by decide) (by decide)).trans (X2.mono (by decide) (by decide) (by decide)), ⟨M.h, ?_, ?_, ?_, ?_⟩⟩
    · rw [M.og, X.J 15 _ (Or.inl (by decide))]
    · rw [M.oc, X.J 16 _ (Or.inl (by decide))]
    · rw [M.ig, X.J 15 _ (Or.inl (by decide))]
    · rw [M.ic, X.J 16 _ (Or.inl (by decide))]
theorem c_hour (B : EB E) (S : WS T w b n) (G : EC T w E) (K : KC w b n C) (KBd : KB E n C) {t : Nat} (ht : t < 100000) : wp (f_Wall_moveWater T w b 26 (nI t)) (HC b n E C (t % 24) w) := by
  have n12 := S.n12
  have n1 := S.n1
  have hh : t % 24 < 24 := Nat.mod_lt _ (by omega)
  generalize hq : t % 24 = h at hh
  have tj : ∀ j, j < 6 → x_ix T (30 + j) 100 (nI h) = some () := fun j hj => t_ixn (G.a j hj) hh (by omega)
  have t30 := tj 0 (by omega)
  have t31 := tj 1 (by omega)
  have t33 := tj 3 (by omega)
  have t34 := tj 4 (by omega)
  have t35 := tj 5 (by omega)
  have v0 := G.v 0 h (by omega) hh
  have v3 := G.v 3 h (by omega) hh
  have v4 := G.v 4 h (by omega) hh
  have q0 := B.c0 h hh
  have q1 := B.c1 h hh
  have q3 := B.c3 h hh
  have q4 := B.c4 h hh
  have q5 := B.c5 h hh
  have qf := fc_b B hh
  unfold f_Wall_moveWater
  rw [m_floorMod T w ht, hq]
  have hcl : (nI h).toNatClampNeg = h := nI_clampS (by omega)
  have X1 : Fx b (b + 9 + 3 * n) [0] [] [] w (x_sI w 0 (b + 1) (Int32.ofInt (fc E h))) := (Fx.refl _ _ _ _ _ w).sI (by decide) (by omega) (by omega)
  have X2 : Fx b (b + 9 + 3 * n) [0] [] [] w (x_sI (x_sI w 0 (b + 1) (Int32.ofInt (fc E h))) 0 (b + 2) (Int32.ofInt (E.cl 4 h))) := X1.sI (by decide) (by omega) (by omega)
  have S1 := X1.ws S
  have G1 := X1.ec G
  have S2 := X2.ws S
  have G2 := X2.ec G
  simp only [Nat.reduceAdd] at t30 t31 t33 t34 t35 v0 v3 v4
  simp only [Option.bind_some, t_is S.t, S.r56, t_is G.s, G.r44, t30, G.r47, t33, t_is S.ta, hcl, v0, v3, z_add]
  rw [show E.cl 0 h + E.cl 3 h = fc E h from rfl]
  simp only [Option.bind_some, S1.r57, G1.r48, t34, t_is S.ti, X1.A, v4]
  rw [wp_bind]
  refine wp_mono (c_warm (h := h) B S2 G2 (X2.kc K) KBd hh ?_ ?_) ?_
  · rw [x_I_sI, if_neg (by omega), x_I_sI, if_pos ⟨rfl, rfl⟩]
  · rw [x_I_sI, if_pos ⟨rfl, rfl⟩]
  intro w3 ⟨X3, vw, vo, vi⟩
  have X3' := (X2.mono (by decide) (by decide) (by decide) : Fx b (b + 9 + 3 * n) [0] [21] [] w _).trans X3
  have S3 := X3'.ws S
  have G3 := X3'.ec G
  have v1 := G3.v 1 h (by omega) hh
  simp only [Nat.reduceAdd] at v1
  rw [← ph_out (b := b) (n := n)] at vo
  rw [← ph_in (b := b) (n := n)] at vi
  obtain ⟨w4, e4, X4, u4, o4⟩ := c_airBegin (C := C) B S3 G3 (p := n) (by omega) (by omega) (x := fc E h) (d := E.cl 1 h) (by omega) q1.1 q1.2 vo
  have X4' := X3'.mono (b1 := [0, 1, 2, 3, 4, 5, 6]) (b2 := [21]) (b3 := []) (by decide) (by decide) (by decide) |>.trans (X4.mono (by decide) (by decide) (by decide))
  have S4 := X4'.ws S
  have G4 := X4'.ec G
  have v5 := G4.v 5 h (by omega) hh
  simp only [Nat.reduceAdd] at v5
  obtain ⟨w5, e5, X5, u5, o5⟩ := c_airBegin (C := C) B S4 G4 (p := n + 1) (by omega) (by omega) (x := E.cl 4 h) (d := E.cl 5 h) (by omega) q5.1 q5.2 ((o4 _ (by rw [ph_in, ph_out]; omega) 0).trans vi)
  rw [ph_out] at e4
  rw [ph_in] at e5
  simp only [Option.bind_some, S3.r56, G3.r45, t31, t_is S.ta, hcl, v1, e4, S4.r57, G4.r49, t35, t_is S.ti, v5, e5]
  have X5' := X4'.trans (X5.mono (by decide) (by decide) (by decide))
  have S5 := X5'.ws S
  simp only [S5.r55, Option.bind_some, t_len S.tc]
  have vw5 : ∀ k, k < n → x_I w5 0 (b + 5 + 2 * k) = Int32.ofInt (wmz E n C h k) := fun k hk => by rw [X5.I 0 _ (Or.inl (by decide)), X4.I 0 _ (Or.inl (by decide)), vw k hk]
  refine wp_mono (c_begin B S5 (X5'.ec G) (X5'.kc K) KBd hh vw5 (fun p hp1 hp2 => ?_)) ?_
  · by_cases e : p = n
    · subst e
      have o := o5 (ph b p p) (by rw [ph_out, ph_in]; omega)
      refine ⟨fun z => by omega, (o 2).trans (u4.1.trans ?_), (o 3).trans u4.2.1, (o 4).trans u4.2.2.1, (o 5).trans u4.2.2.2.1, (o 6).trans u4.2.2.2.2⟩
      unfold prz
      rw [if_neg (by omega), if_pos rfl]
      rfl
    · have e2 : p = n + 1 := by omega
      subst e2
      refine ⟨fun z => by omega, u5.1.trans ?_, u5.2.1, u5.2.2.1, u5.2.2.2.1, u5.2.2.2.2⟩
      unfold prz
      rw [if_neg (by omega), if_neg (by omega)]
      rfl
  · intro w6 ⟨X6, M⟩
    have Xz := (X5'.mono (b1 := [0, 1, 2, 3, 4, 5, 6, 20, 33]) (b2 := [15, 16, 21]) (b3 := [31, 32]) (by decide) (by decide) (by decide)).trans (X6.mono (by decide) (by decide) (by decide))
    refine ⟨Xz, ⟨fun k hk => (Xz.R 17 _ (Or.inl (by decide))).trans (K.mt k hk), fun k hk => (Xz.I 18 _ (Or.inl (by decide))).trans (K.th k hk), fun k hk => (Xz.I 19 _ (Or.inl (by decide))).trans (K.lk k hk), fun k hk => M.h k hk⟩, fun k hk => (X6.I 0 _ (Or.inl (by decide))).trans (vw5 k hk), ?_, ?_, ?_, ?_⟩
    · rw [M.og, X5'.J 15 _ (Or.inl (by decide))]; rfl
    · rw [M.oc, X5'.J 16 _ (Or.inl (by decide))]; rfl
    · rw [M.ig, X5'.J 15 _ (Or.inl (by decide))]; rfl
    · rw [M.ic, X5'.J 16 _ (Or.inl (by decide))]; rfl
end CW2
