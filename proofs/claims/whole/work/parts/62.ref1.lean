/-! THE REFERENCE'S SIDE: frames, layout, warmth -/
def Gx (a1 a2 a3 a4 : List Nat) (w w' : x_W) : Prop := (∀ k h, k ∉ a1 → x_I w' k h = x_I w k h) ∧ (∀ k h, k ∉ a2 → x_J w' k h = x_J w k h) ∧ (∀ h i, h ∉ a3 → x_A w' h i = x_A w h i) ∧ (∀ h i, h ∉ a4 → x_B w' h i = x_B w h i) ∧ (w'.2.2.1 = w.2.2.1)
theorem Gx.I {a1 a2 a3 a4 : List Nat} {w w' : x_W} (S_ : Gx a1 a2 a3 a4 w w') : ∀ k h, k ∉ a1 → x_I w' k h = x_I w k h := S_.1
theorem Gx.J {a1 a2 a3 a4 : List Nat} {w w' : x_W} (S_ : Gx a1 a2 a3 a4 w w') : ∀ k h, k ∉ a2 → x_J w' k h = x_J w k h := S_.2.1
theorem Gx.A {a1 a2 a3 a4 : List Nat} {w w' : x_W} (S_ : Gx a1 a2 a3 a4 w w') : ∀ h i, h ∉ a3 → x_A w' h i = x_A w h i := S_.2.2.1
theorem Gx.B {a1 a2 a3 a4 : List Nat} {w w' : x_W} (S_ : Gx a1 a2 a3 a4 w w') : ∀ h i, h ∉ a4 → x_B w' h i = x_B w h i := S_.2.2.2.1
theorem Gx.R {a1 a2 a3 a4 : List Nat} {w w' : x_W} (S_ : Gx a1 a2 a3 a4 w w') : w'.2.2.1 = w.2.2.1 := S_.2.2.2.2
theorem Gx.refl (a1 a2 a3 a4 : List Nat) (w : x_W) : Gx a1 a2 a3 a4 w w := ⟨fun _ _ _ => rfl, fun _ _ _ => rfl, fun _ _ _ => rfl, fun _ _ _ => rfl, rfl⟩
theorem Gx.trans {a1 a2 a3 a4 : List Nat} {w w' w'' : x_W} (h1 : Gx a1 a2 a3 a4 w w') (h2 : Gx a1 a2 a3 a4 w' w'') : Gx a1 a2 a3 a4 w w'' := ⟨fun k h q => (h2.I k h q).trans (h1.I k h q), fun k h q => (h2.J k h q).trans (h1.J k h q), fun k h q => (h2.A k h q).trans (h1.A k h q), fun k h q => (h2.B k h q).trans (h1.B k h q), h2.R.trans h1.R⟩
theorem Gx.mono {a1 a2 a3 a4 b1 b2 b3 b4 : List Nat} {w w' : x_W} (h : Gx a1 a2 a3 a4 w w') (q1 : ∀ k ∈ a1, k ∈ b1) (q2 : ∀ k ∈ a2, k ∈ b2) (q3 : ∀ k ∈ a3, k ∈ b3) (q4 : ∀ k ∈ a4, k ∈ b4) : Gx b1 b2 b3 b4 w w' :=
  ⟨fun k i q => h.I k i (fun z => q (q1 k z)), fun k i q => h.J k i (fun z => q (q2 k z)), fun k i q => h.A k i (fun z => q (q3 k z)), fun k i q => h.B k i (fun z => q (q4 k z)), h.R⟩
theorem Gx.sI {a1 a2 a3 a4 : List Nat} {w w' : x_W} {k h : Nat} {v : Int32} (F : Gx a1 a2 a3 a4 w w') (hk : k ∈ a1) : Gx a1 a2 a3 a4 w (x_sI w' k h v) := by
  refine ⟨fun k' h' q => ?_, F.J, F.A, F.B, F.R⟩
  rw [x_I_sI, if_neg, F.I k' h' q]
  intro z
  exact q (z.1 ▸ hk)
theorem Gx.sJ {a1 a2 a3 a4 : List Nat} {w w' : x_W} {k h : Nat} {v : Int64} (F : Gx a1 a2 a3 a4 w w') (hk : k ∈ a2) : Gx a1 a2 a3 a4 w (x_sJ w' k h v) := by
  refine ⟨F.I, fun k' h' q => ?_, F.A, F.B, F.R⟩
  rw [x_J_sJ, if_neg, F.J k' h' q]
  intro z
  exact q (z.1 ▸ hk)
theorem Gx.sA {a1 a2 a3 a4 : List Nat} {w w' : x_W} {k h : Nat} {v : Int32} (F : Gx a1 a2 a3 a4 w w') (hk : k ∈ a3) : Gx a1 a2 a3 a4 w (x_sA w' k h v) := by
  refine ⟨F.I, F.J, fun k' h' q => ?_, F.B, F.R⟩
  rw [x_A_sA, if_neg, F.A k' h' q]
  intro z
  exact q (z.1 ▸ hk)
theorem Gx.sB {a1 a2 a3 a4 : List Nat} {w w' : x_W} {k h : Nat} {v : Int64} (F : Gx a1 a2 a3 a4 w w') (hk : k ∈ a4) : Gx a1 a2 a3 a4 w (x_sB w' k h v) := by
  refine ⟨F.I, F.J, F.A, fun k' h' q => ?_, F.R⟩
  rw [x_B_sB, if_neg, F.B k' h' q]
  intro z
  exact q (z.1 ▸ hk)
def ER (T : x_T) (w : x_W) (E : En) (n : Nat) : Prop := (R2 T w.2.2.1) ∧ (x_I w 65 0 = nI n) ∧ (∀ m, m < 6 → x_A w 1 m = nI (E.cn m)) ∧ (∀ m, m < 6 → ∀ j, j < E.cn m → (x_A w 2 (7 * m + j)).toInt = E.X m j ∧ (x_A w 3 (7 * m + j)).toInt = E.Y m j) ∧ (x_I w 80 0 = nI (E.cn 6)) ∧ (∀ j, j < E.cn 6 → (x_A w 15 j).toInt = E.X 6 j ∧ (x_A w 16 j).toInt = E.Y 6 j) ∧ (∀ m, m < 6 → x_A w 4 m = Int32.ofInt (E.vp m) ∧ x_A w 5 m = Int32.ofInt (E.lq m) ∧ x_A w 6 m = Int32.ofInt (E.ld m)) ∧ (x_I w 83 0 = Int32.ofInt E.fo) ∧ (x_I w 84 0 = Int32.ofInt E.fi) ∧ (∀ j h, j < 6 → h < 24 → x_A w (17 + j) h = Int32.ofInt (E.cl j h))
theorem ER.r {T : x_T} {w : x_W} {E : En} {n : Nat} (S_ : ER T w E n) : R2 T w.2.2.1 := S_.1
theorem ER.n {T : x_T} {w : x_W} {E : En} {n : Nat} (S_ : ER T w E n) : x_I w 65 0 = nI n := S_.2.1
theorem ER.cn {T : x_T} {w : x_W} {E : En} {n : Nat} (S_ : ER T w E n) : ∀ m, m < 6 → x_A w 1 m = nI (E.cn m) := S_.2.2.1
theorem ER.x {T : x_T} {w : x_W} {E : En} {n : Nat} (S_ : ER T w E n) : ∀ m, m < 6 → ∀ j, j < E.cn m → (x_A w 2 (7 * m + j)).toInt = E.X m j ∧ (x_A w 3 (7 * m + j)).toInt = E.Y m j := S_.2.2.2.1
theorem ER.tn {T : x_T} {w : x_W} {E : En} {n : Nat} (S_ : ER T w E n) : x_I w 80 0 = nI (E.cn 6) := S_.2.2.2.2.1
theorem ER.tx {T : x_T} {w : x_W} {E : En} {n : Nat} (S_ : ER T w E n) : ∀ j, j < E.cn 6 → (x_A w 15 j).toInt = E.X 6 j ∧ (x_A w 16 j).toInt = E.Y 6 j := S_.2.2.2.2.2.1
theorem ER.rt {T : x_T} {w : x_W} {E : En} {n : Nat} (S_ : ER T w E n) : ∀ m, m < 6 → x_A w 4 m = Int32.ofInt (E.vp m) ∧ x_A w 5 m = Int32.ofInt (E.lq m) ∧ x_A w 6 m = Int32.ofInt (E.ld m) := S_.2.2.2.2.2.2.1
theorem ER.o {T : x_T} {w : x_W} {E : En} {n : Nat} (S_ : ER T w E n) : x_I w 83 0 = Int32.ofInt E.fo := S_.2.2.2.2.2.2.2.1
theorem ER.i {T : x_T} {w : x_W} {E : En} {n : Nat} (S_ : ER T w E n) : x_I w 84 0 = Int32.ofInt E.fi := S_.2.2.2.2.2.2.2.2.1
theorem ER.v {T : x_T} {w : x_W} {E : En} {n : Nat} (S_ : ER T w E n) : ∀ j h, j < 6 → h < 24 → x_A w (17 + j) h = Int32.ofInt (E.cl j h) := S_.2.2.2.2.2.2.2.2.2
def KR (w : x_W) (n : Nat) (C : Ce) : Prop := (∀ k, k < n → x_A w 7 k = nI (C.mt k)) ∧ (∀ k, k < n → x_A w 8 k = Int32.ofInt (C.th k)) ∧ (∀ k, k < n → x_A w 10 k = Int32.ofInt (C.lk k)) ∧ (∀ k, k < n → x_B w 9 k = Int64.ofInt (C.hd k))
theorem KR.mt {w : x_W} {n : Nat} {C : Ce} (S_ : KR w n C) : ∀ k, k < n → x_A w 7 k = nI (C.mt k) := S_.1
theorem KR.th {w : x_W} {n : Nat} {C : Ce} (S_ : KR w n C) : ∀ k, k < n → x_A w 8 k = Int32.ofInt (C.th k) := S_.2.1
theorem KR.lk {w : x_W} {n : Nat} {C : Ce} (S_ : KR w n C) : ∀ k, k < n → x_A w 10 k = Int32.ofInt (C.lk k) := S_.2.2.1
theorem KR.hd {w : x_W} {n : Nat} {C : Ce} (S_ : KR w n C) : ∀ k, k < n → x_B w 9 k = Int64.ofInt (C.hd k) := S_.2.2.2
theorem ER.of {T : x_T} {w w' : x_W} {E : En} {n : Nat} (G : ER T w E n) (hR : w'.2.2.1 = w.2.2.1) (hI : ∀ k, k = 65 ∨ k = 80 ∨ k = 83 ∨ k = 84 → x_I w' k 0 = x_I w k 0) (hA : ∀ h i, (1 ≤ h ∧ h ≤ 6) ∨ (15 ≤ h ∧ h ≤ 22) → x_A w' h i = x_A w h i) : ER T w' E n := by
  refine ⟨by rw [hR]; exact G.r, (hI _ (by decide)).trans G.n, fun m hm => (hA _ _ (by decide)).trans (G.cn m hm), fun m hm j hj => ?_, (hI _ (by decide)).trans G.tn, fun j hj => ?_, fun m hm => ?_, (hI _ (by decide)).trans G.o, (hI _ (by decide)).trans G.i, fun j h hj hh => (hA _ _ (by omega)).trans (G.v j h hj hh)⟩
  · rw [hA _ _ (by decide), hA _ _ (by decide)]; exact G.x m hm j hj
  · rw [hA _ _ (by decide), hA _ _ (by decide)]; exact G.tx j hj
  · rw [hA _ _ (by decide), hA _ _ (by decide), hA _ _ (by decide)]; exact G.rt m hm
theorem Gx.er {T : x_T} {w w' : x_W} {E : En} {n : Nat} {a1 a2 a3 a4 : List Nat} (F : Gx a1 a2 a3 a4 w w') (G : ER T w E n) (h1 : (a1.all fun k => !(k == 65 || k == 80 || k == 83 || k == 84)) = true := by decide) (h3 : (a3.all fun k => !(decide (1 ≤ k) && decide (k ≤ 6) || decide (15 ≤ k) && decide (k ≤ 22))) = true := by decide) : ER T w' E n := by
  refine G.of F.R (fun k hk => F.I k 0 (fun hm => ?_)) (fun h i hh => F.A h i (fun hm => ?_))
  · have := List.all_eq_true.mp h1 k hm
    rcases hk with q | q | q | q <;> simp [wp_some, wp_bind, x_I_sI, x_J_sJ, x_R_sR, x_A_sA, x_B_sB, x_I_sJ, x_I_sR, x_I_sA, x_I_sB, x_J_sI, x_J_sR, x_J_sA, x_J_sB, x_R_sI, x_R_sJ, x_R_sA, x_R_sB, x_A_sI, x_A_sJ, x_A_sR, x_A_sB, x_B_sI, x_B_sJ, x_B_sR, x_B_sA, x_Q_sI, x_Q_sJ, x_Q_sR, x_Q_sA, x_Q_sB, q] at this
  · have := List.all_eq_true.mp h3 h hm
    simp [wp_some, wp_bind, x_I_sI, x_J_sJ, x_R_sR, x_A_sA, x_B_sB, x_I_sJ, x_I_sR, x_I_sA, x_I_sB, x_J_sI, x_J_sR, x_J_sA, x_J_sB, x_R_sI, x_R_sJ, x_R_sA, x_R_sB, x_A_sI, x_A_sJ, x_A_sR, x_A_sB, x_B_sI, x_B_sJ, x_B_sR, x_B_sA, x_Q_sI, x_Q_sJ, x_Q_sR, x_Q_sA, x_Q_sB] at this
    omega
theorem Gx.kr {w w' : x_W} {n : Nat} {C : Ce} {a1 a2 a3 a4 : List Nat} (F : Gx a1 a2 a3 a4 w w') (K : KR w n C) (h3 : (a3.all fun k => !(k == 7 || k == 8 || k == 10)) = true := by decide) (h4 : (a4.all fun k => !(k == 9)) = true := by decide) : KR w' n C := by
  have q : ∀ k, k = 7 ∨ k = 8 ∨ k = 10 → k ∉ a3 := fun k hk hm => by
    have := List.all_eq_true.mp h3 k hm
    rcases hk with q | q | q <;> simp [wp_some, wp_bind, x_I_sI, x_J_sJ, x_R_sR, x_A_sA, x_B_sB, x_I_sJ, x_I_sR, x_I_sA, x_I_sB, x_J_sI, x_J_sR, x_J_sA, x_J_sB, x_R_sI, x_R_sJ, x_R_sA, x_R_sB, x_A_sI, x_A_sJ, x_A_sR, x_A_sB, x_B_sI, x_B_sJ, x_B_sR, x_B_sA, x_Q_sI, x_Q_sJ, x_Q_sR, x_Q_sA, x_Q_sB, q] at this
  have q' : 9 ∉ a4 := fun hm => by
    have := List.all_eq_true.mp h4 9 hm
    simp [wp_some, wp_bind, x_I_sI, x_J_sJ, x_R_sR, x_A_sA, x_B_sB, x_I_sJ, x_I_sR, x_I_sA, x_I_sB, x_J_sI, x_J_sR, x_J_sA, x_J_sB, x_R_sI, x_R_sJ, x_R_sA, x_R_sB, x_A_sI, x_A_sJ, x_A_sR, x_A_sB, x_B_sI, x_B_sJ, x_B_sR, x_B_sA, x_Q_sI, x_Q_sJ, x_Q_sR, x_Q_sA, x_Q_sB] at this
  exact ⟨fun k hk => (F.A 7 _ (q 7 (by decide))).trans (K.mt k hk), fun k hk => (F.A 8 _ (q 8 (by decide))).trans (K.th k hk), fun k hk => (F.A 10 _ (q 10 (by decide))).trans (K.lk k hk), fun k hk => (F.B 9 _ q').trans (K.hd k hk)⟩
section RW
variable {T : x_T} {w : x_W} {E : En} {n h k : Nat} {C : Ce}
theorem r_damp (B : EB E) (G : ER T w E n) (K : KR w n C) (KBd : KB E n C) (hk : k < n) : f_Mod_dampOf T w 0 (nI k) = some (Int32.ofInt (dpz E C k)) := by
  have n12 := KBd.n12
  have hm := KBd.mt k hk
  obtain ⟨hc, c1, c7, x0⟩ := B.cor _ hm
  have hh := KBd.hd k hk
  have hmo := B.mo hm
  exact h_damp G.r (by omega) hm (K.mt k hk) c1 c7 (G.cn _ hm) (fun j hj => (G.x _ hm j hj).1) (fun j hj => (G.x _ hm j hj).2) hc (K.hd k hk) (by omega) (by omega) (by omega)
theorem r_full (B : EB E) (G : ER T w E n) {x : Int} (hx : -2147483648 ≤ x ∧ x < 2147483648) : f_Mod_fullAt T w 0 (Int32.ofInt x) = some (Int32.ofInt (fu E x)) := by
  rw [h_full G.r G.tn (fun j hj => (G.tx j hj).1) (fun j hj => (G.tx j hj).2) B.tab, z_t hx.1 hx.2]
  rfl
theorem r_most (B : EB E) (G : ER T w E n) {m : Nat} (hm : m < 6) : f_Mod_most T w 0 (nI m) = some (Int32.ofInt (moE E m)) := by
  obtain ⟨hc, c1, c7, x0⟩ := B.cor _ hm
  have hR := G.r
  unfold f_Mod_most
  simp only [Option.bind_some, wp_bind, wp_some, (hR).i, (hR).r66, (hR).r67, (hR).r68, (hR).r69, (hR).r70, (hR).r71, (hR).r72, (hR).r73, (hR).r74, (hR).r75, (hR).r76, (hR).r77, (hR).r78, (hR).r79, (hR).r81, (hR).r82, (hR).r85, (hR).r86, (hR).r87, (hR).r88, (hR).r89, (hR).r90, (hR).r92, (hR).r93, (hR).r94, (hR).r95, (hR).r103, (hR).r104, (hR).r105, (hR).r108, (hR).r109, (hR).r110, (hR).r111, (hR).r112, (hR).r113, (hR).r114, x_R_sI, x_R_sJ, x_R_sA, x_R_sB]
  rw [t_ixn hR.a1 hm (by omega), nI_clampS (by omega), G.cn m hm, show (7 : Int32) = nI 7 from rfl, nI_mulS, nI_addS, nI_sub1 (by omega), t_ixn hR.a2 (by omega) (by omega), nI_clampS (by omega)]
  simp only [Option.bind_some]
  rw [← z_o (x_A w 2 _), show 7 * m + E.cn m - 1 = 7 * m + (E.cn m - 1) by omega, (G.x m hm _ (by omega)).1]
  rfl
theorem r_resistance (B : EB E) (G : ER T w E n) (K : KR w n C) (KBd : KB E n C) (hk : k < n) : f_Mod_resistance T w 0 (nI k) = some (Int32.ofInt (rs E C k)) := by
  have n12 := KBd.n12
  have hm := KBd.mt k hk
  have ht := KBd.th k hk
  have hr := B.rt _ hm
  have hR := G.r
  unfold f_Mod_resistance
  simp only [Option.bind_some, wp_bind, wp_some, (hR).i, (hR).r66, (hR).r67, (hR).r68, (hR).r69, (hR).r70, (hR).r71, (hR).r72, (hR).r73, (hR).r74, (hR).r75, (hR).r76, (hR).r77, (hR).r78, (hR).r79, (hR).r81, (hR).r82, (hR).r85, (hR).r86, (hR).r87, (hR).r88, (hR).r89, (hR).r90, (hR).r92, (hR).r93, (hR).r94, (hR).r95, (hR).r103, (hR).r104, (hR).r105, (hR).r108, (hR).r109, (hR).r110, (hR).r111, (hR).r112, (hR).r113, (hR).r114, x_R_sI, x_R_sJ, x_R_sA, x_R_sB]
  rw [t_ixn hR.a8 (by omega) (by omega), t_ixn hR.a7 (by omega) (by omega), nI_clampS (by omega), K.mt k hk, t_ixn hR.a6 (by omega) (by omega), nI_clampS (by omega), (G.rt _ hm).2.2, K.th k hk, x_nzi_ok (by rw [z_t (by omega) (by omega)]; omega), show (100 : Int32) = Int32.ofInt 100 from rfl, z_mul, z_div (by omega) (by omega) (by omega) (by omega)]
  rfl
theorem r_floor (T : x_T) (w : x_W) {a d : Int} (h1 : -4611686018427387904 ≤ a) (h2 : a < 4611686018427387904) (h3 : 0 < d) (h4 : d < 4611686018427387904) : f_Mod_floor T w (Int64.ofInt a) (Int64.ofInt d) = some (Int64.ofInt (a / d)) := by
  unfold f_Mod_floor f_Mod_floor_23
  have eT : (Int64.ofInt d).toInt = d := z_T (by omega) (by omega)
  have eA : (Int64.ofInt a).toInt = a := z_T (by omega) (by omega)
  rw [x_nzl_ok (by rw [eT]; omega), z_Div (by omega) (by omega) (by omega) (by omega)]
  simp only [Option.bind_some]
  rw [z_floor h3]
  have e1 := Int.tdiv_mul_add_tmod a d
  have e5 : -d < a.tmod d := by have := Int.lt_tmod_of_pos a h3; omega
  have e6 : a.tmod d < d := Int.tmod_lt_of_pos a h3
  have hy : lg_cmp (Int64.ofInt (a.tdiv d) * Int64.ofInt d) (Int64.ofInt a) ≤ 0 ↔ a.tdiv d * d ≤ a := by
    rw [lg_cmp_le, z_Mul, z_Le, eA, z_T (by omega) (by omega)]
  by_cases h : 0 ≤ a
  · have := Int.tmod_nonneg d h
    rw [if_pos (hy.mpr (by omega)), if_pos h]
  · have e7 : a.tmod d ≤ 0 := by
      have := Int.tmod_nonneg d (a := -a) (by omega)
      rw [Int.neg_tmod] at this
      omega
    rw [if_neg h]
    by_cases h2 : a.tdiv d * d = a
    · rw [if_pos (hy.mpr (by omega)), if_pos h2]
    · rw [if_neg (fun q => h2 (by have := hy.mp q; omega)), if_neg h2, show (1 : Int64) = Int64.ofInt 1 from rfl, z_Sub]
theorem r_warm2 (B : EB E) (G : ER T w E n) (K : KR w n C) (KBd : KB E n C) (hh : h < 24) :
    wp (f_Mod_warm_77 T 1000 w 0 (nI h) (Int64.ofInt (al E n C)) (Int64.ofInt (fc E h)) (Int64.ofInt (2 * E.fo)) 0) (fun w' => Gx [] [] [11] [] w w' ∧ ∀ k, k < n → x_A w' 11 k = Int32.ofInt (wmz E n C h k)) := by
  have n12 := KBd.n12
  have hf := fc_b B hh
  have h4 := B.c4 h hh
  refine loop_up (σ := x_W × Int64) (N := n) (by omega) (fun fuel s i => f_Mod_warm_77 T fuel s.1 0 (nI h) (Int64.ofInt (al E n C)) (Int64.ofInt (fc E h)) s.2 i) (fun j s => (Gx [] [] [11] [] w s.1 ∧ ∀ k, k < j → x_A s.1 11 k = Int32.ofInt (wmz E n C h k)) ∧ s.2 = Int64.ofInt (2 * E.fo + 2 * zs (rs E C) j)) _ ?_ ?_ (w, Int64.ofInt (2 * E.fo)) ⟨⟨Gx.refl .., fun k hk => by omega⟩, by simp [wp_some, wp_bind, x_I_sI, x_J_sJ, x_R_sR, x_A_sA, x_B_sB, x_I_sJ, x_I_sR, x_I_sA, x_I_sB, x_J_sI, x_J_sR, x_J_sA, x_J_sB, x_R_sI, x_R_sJ, x_R_sA, x_R_sB, x_A_sI, x_A_sJ, x_A_sR, x_A_sB, x_B_sI, x_B_sJ, x_B_sR, x_B_sA, x_Q_sI, x_Q_sJ, x_Q_sR, x_Q_sA, x_Q_sB, zs]⟩
  · intro i s fuel hi ⟨⟨F, hv⟩, hs⟩
    obtain ⟨w', l6⟩ := s
    dsimp only at F hs hv
    subst hs
    have G' := F.er G
    have K' := F.kr K
    have hR := G'.r
    have F2 : Gx [] [] [11] [] w (x_sA w' 11 i (Int32.ofInt (wmz E n C h i))) := F.sA (by decide)
    refine ⟨(x_sA w' 11 i (Int32.ofInt (wmz E n C h i)), Int64.ofInt (2 * E.fo + 2 * zs (rs E C) (i + 1))), ⟨⟨F2, fun k hk => ?_⟩, rfl⟩, ?_⟩
    · rw [x_A_sA]
      by_cases e : k = i
      · rw [e, if_pos ⟨rfl, rfl⟩]
      · rw [if_neg (by omega)]; exact hv k (by omega)
    · have hr := rs_b B KBd hi
      have hy := wy_b B KBd hi
      have v4 := G'.v 4 h (by omega) hh
      simp only [Nat.reduceAdd] at v4
      have eres := r_resistance B (F2.er G) (F2.kr K) KBd hi
      show f_Mod_warm_77 T (fuel + 1) w' _ _ _ _ _ _ = f_Mod_warm_77 T fuel _ _ _ _ _ _ _
      rw [f_Mod_warm_77]
      unfold f_Mod_warm_133
      simp only [Option.bind_some, wp_bind, wp_some, (hR).i, (hR).r66, (hR).r67, (hR).r68, (hR).r69, (hR).r70, (hR).r71, (hR).r72, (hR).r73, (hR).r74, (hR).r75, (hR).r76, (hR).r77, (hR).r78, (hR).r79, (hR).r81, (hR).r82, (hR).r85, (hR).r86, (hR).r87, (hR).r88, (hR).r89, (hR).r90, (hR).r92, (hR).r93, (hR).r94, (hR).r95, (hR).r103, (hR).r104, (hR).r105, (hR).r108, (hR).r109, (hR).r110, (hR).r111, (hR).r112, (hR).r113, (hR).r114, x_R_sI, x_R_sJ, x_R_sA, x_R_sB]
      rw [G'.n, if_neg (by rw [nI_leS (by omega) (by omega)]; omega), r_resistance B G' K' KBd hi]
      simp only [Option.bind_some]
      rw [z_64 (by omega) (by omega), z_Add, show 2 * E.fo + 2 * zs (rs E C) i + rs E C i = wy E C i from rfl]
      have hm := mul_b (a := E.cl 4 h - fc E h) (b := wy E C i) (A := 11000) (B := 3000000) (by omega) (by omega) hy.1 (by omega)
      have hcmp : lg_cmp (Int64.ofInt (al E n C)) 0 = 0 ↔ al E n C = 0 := by
        rw [lg_cmp_eq, z_Eq, z_T (by omega) (by omega)]; rfl
      have fin : ∀ v : Int64, (Int64.ofInt (fc E h) + v).toInt32 = Int32.ofInt (wmz E n C h i) → ((x_ix T 11 100 (nI i)).bind fun x => (f_Mod_resistance T (x_sA w' 11 (nI i).toNatClampNeg (Int64.ofInt (fc E h) + v).toInt32) 0 (nI i)).bind fun q7 => f_Mod_warm_77 T fuel (x_sA w' 11 (nI i).toNatClampNeg (Int64.ofInt (fc E h) + v).toInt32) 0 (nI h) (Int64.ofInt (al E n C)) (Int64.ofInt (fc E h)) (Int64.ofInt (wy E C i) + q7.toInt64) (nI i + 1)) = f_Mod_warm_77 T fuel (x_sA w' 11 i (Int32.ofInt (wmz E n C h i))) 0 (nI h) (Int64.ofInt (al E n C)) (Int64.ofInt (fc E h)) (Int64.ofInt (2 * E.fo + 2 * zs (rs E C) (i + 1))) (nI (i + 1)) := by
        intro v ev
        rw [ev, nI_clampS (by omega), t_ixn hR.a11 (by omega) (by omega), eres]
        simp only [Option.bind_some]
        rw [z_64 (by omega) (by omega), z_Add, nI_inc, zs_s]
        unfold wy
        congr 2
        omega
      by_cases ha : al E n C = 0
      · rw [if_pos (hcmp.mpr ha)]
        refine fin 0 ?_
        rw [show (0 : Int64) = Int64.ofInt 0 from rfl, z_Add, z_32]
        unfold wmz
        rw [if_pos (by omega), Int.add_zero]
      · rw [if_neg (fun q => ha (hcmp.mp q)), t_ixn hR.a21 hh (by omega), nI_clampS (by omega), v4, z_64 (by omega) (by omega), z_Sub, z_Mul]
        simp only [Option.bind_some]
        rw [r_floor T w' (by omega) (by omega) (by omega) (by omega)]
        simp only [Option.bind_some]
        refine fin _ ?_
        rw [z_Add, z_32]
        unfold wmz
        rw [if_neg (by omega)]
  · intro s fuel ⟨⟨F, hv⟩, hs⟩
    obtain ⟨w', l6⟩ := s
    dsimp only at F hs hv
    have G' := F.er G
    have hR := G'.r
    show wp (f_Mod_warm_77 T (fuel + 1) w' _ _ _ _ _ _) _
    rw [f_Mod_warm_77, hR.i, Option.bind_some, G'.n, if_pos (by rw [nI_leS (by omega) (by omega)]; omega), wp_some]
    exact ⟨F, hv⟩
theorem r_warm (B : EB E) (G : ER T w E n) (K : KR w n C) (KBd : KB E n C) (hh : h < 24) :
    wp (f_Mod_warm T w 0 (nI h)) (fun w' => Gx [] [] [11] [] w w' ∧ ∀ k, k < n → x_A w' 11 k = Int32.ofInt (wmz E n C h k)) := by
  have n12 := KBd.n12
  have hf := fc_b B hh
  have hfm := B.fm
  have hR := G.r
  have v0 := G.v 0 h (by omega) hh
  have v3 := G.v 3 h (by omega) hh
  have q0 := B.c0 h hh
  have q3 := B.c3 h hh
  simp only [Nat.reduceAdd] at v0 v3
  unfold f_Mod_warm
  rw [hR.i, G.o, G.i, z_add, z_64 (by omega) (by omega), show (2 : Int64) = Int64.ofInt 2 from rfl, z_Mul]
  simp only [Option.bind_some]
  refine loop_up (σ := Int64) (N := n) (by omega) (fun fuel s i => f_Mod_warm_18 T fuel w 0 (nI h) s i) (fun j s => s = Int64.ofInt (2 * (E.fo + E.fi) + 2 * zs (rs E C) j)) _ ?_ ?_ _ (by simp [wp_some, wp_bind, x_I_sI, x_J_sJ, x_R_sR, x_A_sA, x_B_sB, x_I_sJ, x_I_sR, x_I_sA, x_I_sB, x_J_sI, x_J_sR, x_J_sA, x_J_sB, x_R_sI, x_R_sJ, x_R_sA, x_R_sB, x_A_sI, x_A_sJ, x_A_sR, x_A_sB, x_B_sI, x_B_sJ, x_B_sR, x_B_sA, x_Q_sI, x_Q_sJ, x_Q_sR, x_Q_sA, x_Q_sB, zs])
  · intro i s fuel hi hs
    subst hs
    have hr := rs_b B KBd hi
    refine ⟨_, rfl, ?_⟩
    show f_Mod_warm_18 T (fuel + 1) w _ _ _ _ = f_Mod_warm_18 T fuel _ _ _ _ _
    rw [f_Mod_warm_18, hR.i, Option.bind_some, G.n, if_neg (by rw [nI_leS (by omega) (by omega)]; omega), r_resistance B G K KBd hi]
    simp only [Option.bind_some]
    rw [z_64 (by omega) (by omega), show (2 : Int64) = Int64.ofInt 2 from rfl, z_Mul, z_Add, nI_inc, zs_s]
    congr 2
    omega
  · intro s fuel hs
    subst hs
    show wp (f_Mod_warm_18 T (fuel + 1) w _ _ _ _) _
    rw [f_Mod_warm_18, hR.i, Option.bind_some, G.n, if_pos (by rw [nI_leS (by omega) (by omega)]; omega)]
    simp only [Option.bind_some, hR.r85, hR.r88, t_ixn hR.a17 hh (by omega), t_ixn hR.a20 hh (by omega), nI_clampS (show h < 100000 by omega), v0, v3, G.o]
    rw [z_add, show E.cl 0 h + E.cl 3 h = fc E h from rfl, z_64 (by omega) (by omega), z_64 (by omega) (by omega), show (2 : Int64) = Int64.ofInt 2 from rfl, z_Mul, show 2 * (E.fo + E.fi) + 2 * zs (rs E C) n = al E n C by unfold al; omega]
    exact r_warm2 B G K KBd hh
end RW
