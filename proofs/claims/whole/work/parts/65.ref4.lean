/-! THE REFERENCE'S LIMITS -/
theorem loop_eq {σ β : Type} {N : Nat} (F : Nat → σ → Int32 → Option β) (I : Nat → σ → Prop)
    (step : ∀ i s fuel, i < N → I i s → ∃ s', I (i + 1) s' ∧ F (fuel + 1) s (nI i) = F fuel s' (nI (i + 1))) (fuel : Nat) : ∀ s, I 0 s → ∃ s', I N s' ∧ F (fuel + N) s (0 : Int32) = F fuel s' (nI N) := by
  have go : ∀ d i s, i + d = N → I i s → ∃ s', I N s' ∧ F (fuel + d) s (nI i) = F fuel s' (nI N) := by
    intro d
    induction d with
    | zero =>
      intro i s hi hI
      have : i = N := by omega
      subst this
      exact ⟨s, hI, rfl⟩
    | succ d ih =>
      intro i s hi hI
      obtain ⟨s', h1, h2⟩ := step i s (fuel + d) (by omega) hI
      obtain ⟨s2, h3, h4⟩ := ih (i + 1) s' (by omega) h1
      exact ⟨s2, h3, by rw [show fuel + (d + 1) = fuel + d + 1 by omega, h2, h4]⟩
  intro s hI
  exact go N 0 s (by omega) hI
theorem IR.congr {w : x_W} {n : Nat} {P N P' N' : Nat → Int} (H : IR w n P N) (n1 : 1 ≤ n) (hP : ∀ f, f < 2 * n + 2 → P f = P' f) (hN : ∀ f, f < 2 * n + 2 → N f = N' f) : IR w n P' N' := by
  refine ⟨fun k q hk hq => ?_, by rw [← hN 0 (by omega)]; exact H.o, by rw [← hP 1 (by omega)]; exact H.i⟩
  rw [H.b k q hk hq]
  congr 1
  unfold iv
  by_cases q0 : q = 0
  · rw [if_pos q0, if_pos q0]
    by_cases h : 0 < k
    · rw [if_pos h, if_pos h, hP _ (by omega)]
    · rw [if_neg h, if_neg h]
  · rw [if_neg q0, if_neg q0]
    by_cases q1 : q = 1
    · rw [if_pos q1, if_pos q1]
      by_cases h : k + 1 < n
      · rw [if_pos h, if_pos h, hN _ (by omega)]
      · rw [if_neg h, if_neg h]
    · rw [if_neg q1, if_neg q1, hP 0 (by omega), hP 2 (by omega), hN 1 (by omega), hN (3 + k) (by omega)]
section RL
variable {T : x_T} {w : x_W} {E : En} {n k : Nat} {C : Ce} {P N : Nat → Int}
def Lk (n k : Nat) (P N : Nat → Int) : Int := (if k + 1 < n then P (3 + n + k) else 0) + (if 0 < k then N (3 + n + (k - 1)) else 0) + (if k = 0 then N 0 else 0) + (if k = n - 1 then P 1 else 0)
theorem nI_z0 (k : Nat) (hk : k < 100000) : nI k = 0 ↔ k = 0 := nI_eqS (b := 0) hk (by omega)
theorem nI_le0 (k : Nat) (hk : k < 100000) : nI k ≤ 0 ↔ ¬ 0 < k := by rw [show (0 : Int32) = nI 0 from rfl, nI_leS hk (by omega)]; omega
theorem r_192 (hR : R2 T w.2.2.1) (hn : x_I w 65 0 = nI n) (n1 : 1 ≤ n) (n12 : n ≤ 12) (hk : k < n) (l8 l10 t : Int64) (hz : l10.toInt ≠ 0) : f_Mod_lessenLeaving_192 T w 0 (nI k) l8 l10 0 t = some (x_sJ (x_sJ w 106 0 t) 107 0 (if k = n - 1 then l8 * x_B w 9 k / l10 else x_J w 107 0)) := by
  unfold f_Mod_lessenLeaving_192 f_Mod_lessenLeaving_225 f_Mod_lessenLeaving_228
  simp only [Option.bind_some, wp_bind, wp_some, (hR).i, (hR).r66, (hR).r67, (hR).r68, (hR).r69, (hR).r70, (hR).r71, (hR).r72, (hR).r73, (hR).r74, (hR).r75, (hR).r76, (hR).r77, (hR).r78, (hR).r79, (hR).r81, (hR).r82, (hR).r85, (hR).r86, (hR).r87, (hR).r88, (hR).r89, (hR).r90, (hR).r92, (hR).r93, (hR).r94, (hR).r95, (hR).r103, (hR).r104, (hR).r105, (hR).r108, (hR).r109, (hR).r110, (hR).r111, (hR).r112, (hR).r113, (hR).r114, x_R_sI, x_R_sJ, x_R_sA, x_R_sB]
  rw [x_I_sJ, hn, nI_sub1 (by omega), t_ixn hR.a9 (show k < 12 by omega) (by omega), nI_clampS (by omega), x_nzl_ok hz]
  simp only [Option.bind_some]
  by_cases h : k = n - 1
  · rw [if_pos ((nI_eqS (by omega) (by omega)).mpr h), if_pos h]; rfl
  · rw [if_neg (fun q => h ((nI_eqS (by omega) (by omega)).mp q)), if_neg h, x_J_sJ, if_neg (by omega)]
theorem r_168 (hR : R2 T w.2.2.1) (hn : x_I w 65 0 = nI n) (n1 : 1 ≤ n) (n12 : n ≤ 12) (hk : k < n) (l6 l8 l10 : Int64) (hz : l10.toInt ≠ 0) : f_Mod_lessenLeaving_168 T w 0 (nI k) l6 l8 l10 = some (x_sJ (x_sJ w 106 0 (if k = 0 then l6 * x_B w 9 k / l10 else x_J w 106 0)) 107 0 (if k = n - 1 then l8 * x_B w 9 k / l10 else x_J w 107 0)) := by
  unfold f_Mod_lessenLeaving_168
  simp only [Option.bind_some, wp_bind, wp_some, (hR).i, (hR).r66, (hR).r67, (hR).r68, (hR).r69, (hR).r70, (hR).r71, (hR).r72, (hR).r73, (hR).r74, (hR).r75, (hR).r76, (hR).r77, (hR).r78, (hR).r79, (hR).r81, (hR).r82, (hR).r85, (hR).r86, (hR).r87, (hR).r88, (hR).r89, (hR).r90, (hR).r92, (hR).r93, (hR).r94, (hR).r95, (hR).r103, (hR).r104, (hR).r105, (hR).r108, (hR).r109, (hR).r110, (hR).r111, (hR).r112, (hR).r113, (hR).r114, x_R_sI, x_R_sJ, x_R_sA, x_R_sB]
  rw [t_ixn hR.a9 (show k < 12 by omega) (by omega), nI_clampS (by omega), x_nzl_ok hz]
  simp only [Option.bind_some]
  rw [r_192 hR hn n1 n12 hk _ _ _ hz, r_192 hR hn n1 n12 hk _ _ _ hz]
  by_cases h : k = 0
  · rw [if_pos ((nI_z0 k (by omega)).mpr h), if_pos h]
  · rw [if_neg (fun q => h ((nI_z0 k (by omega)).mp q)), if_neg h]
theorem r_139 (hR : R2 T w.2.2.1) (hn : x_I w 65 0 = nI n) (n1 : 1 ≤ n) (n12 : n ≤ 12) (hk : k < n) (l4 l6 l8 l10 : Int64) (hz : l10.toInt ≠ 0) : f_Mod_lessenLeaving_139 T w 0 (nI k) l4 l6 l8 l10 = some (x_sJ (x_sJ (if 0 < k then x_sB w 29 (6 * (k - 1) + 1) (l4 * x_B w 9 k / l10) else w) 106 0 (if k = 0 then l6 * x_B w 9 k / l10 else x_J w 106 0)) 107 0 (if k = n - 1 then l8 * x_B w 9 k / l10 else x_J w 107 0)) := by
  unfold f_Mod_lessenLeaving_139
  by_cases h : 0 < k
  · rw [if_neg (fun q => (nI_le0 k (by omega)).mp q h), if_pos h]
    simp only [Option.bind_some, wp_bind, wp_some, (hR).i, (hR).r66, (hR).r67, (hR).r68, (hR).r69, (hR).r70, (hR).r71, (hR).r72, (hR).r73, (hR).r74, (hR).r75, (hR).r76, (hR).r77, (hR).r78, (hR).r79, (hR).r81, (hR).r82, (hR).r85, (hR).r86, (hR).r87, (hR).r88, (hR).r89, (hR).r90, (hR).r92, (hR).r93, (hR).r94, (hR).r95, (hR).r103, (hR).r104, (hR).r105, (hR).r108, (hR).r109, (hR).r110, (hR).r111, (hR).r112, (hR).r113, (hR).r114, x_R_sI, x_R_sJ, x_R_sA, x_R_sB]
    rw [t_ixn hR.a9 (show k < 12 by omega) (by omega), nI_clampS (show k < 100000 by omega), x_nzl_ok hz, nI_sub1 (by omega), show (6 : Int32) = nI 6 from rfl, nI_mulS, nI_inc, t_ixn hR.a29 (by omega) (by omega), nI_clampS (by omega)]
    simp only [Option.bind_some]
    exact r_168 (w := x_sB w 29 (6 * (k - 1) + 1) (l4 * x_B w 9 k / l10)) hR hn n1 n12 hk l6 l8 l10 hz
  · rw [if_pos ((nI_le0 k (by omega)).mpr h), if_neg h]
    exact r_168 hR hn n1 n12 hk l6 l8 l10 hz
theorem r_81 (hR : R2 T w.2.2.1) (hn : x_I w 65 0 = nI n) (n1 : 1 ≤ n) (n12 : n ≤ 12) (hk : k < n) {a1 a2 a3 a4 hd : Int} (h1 : 0 ≤ a1 ∧ a1 ≤ 110000) (h2 : 0 ≤ a2 ∧ a2 ≤ 110000) (h3 : 0 ≤ a3 ∧ a3 ≤ 110000) (h4 : 0 ≤ a4 ∧ a4 ≤ 110000) (hb : x_B w 9 k = Int64.ofInt hd) (hd0 : 0 ≤ hd) (hd1 : hd ≤ 1000000) :
    f_Mod_lessenLeaving_81 T w 0 (nI k) (Int64.ofInt a1) (Int64.ofInt a2) (Int64.ofInt a3) (Int64.ofInt a4) = some (if hd < a1 + a2 + a3 + a4 then x_sJ (x_sJ (if 0 < k then x_sB (if k + 1 < n then x_sB w 29 (6 * (k + 1)) (Int64.ofInt (lm (a1 + a2 + a3 + a4) hd a1)) else w) 29 (6 * (k - 1) + 1) (Int64.ofInt (lm (a1 + a2 + a3 + a4) hd a2)) else (if k + 1 < n then x_sB w 29 (6 * (k + 1)) (Int64.ofInt (lm (a1 + a2 + a3 + a4) hd a1)) else w)) 106 0 (if k = 0 then Int64.ofInt (lm (a1 + a2 + a3 + a4) hd a3) else x_J w 106 0)) 107 0 (if k = n - 1 then Int64.ofInt (lm (a1 + a2 + a3 + a4) hd a4) else x_J w 107 0) else w) := by
  unfold f_Mod_lessenLeaving_81 f_Mod_lessenLeaving_228
  simp only [Option.bind_some, wp_bind, wp_some, (hR).i, (hR).r66, (hR).r67, (hR).r68, (hR).r69, (hR).r70, (hR).r71, (hR).r72, (hR).r73, (hR).r74, (hR).r75, (hR).r76, (hR).r77, (hR).r78, (hR).r79, (hR).r81, (hR).r82, (hR).r85, (hR).r86, (hR).r87, (hR).r88, (hR).r89, (hR).r90, (hR).r92, (hR).r93, (hR).r94, (hR).r95, (hR).r103, (hR).r104, (hR).r105, (hR).r108, (hR).r109, (hR).r110, (hR).r111, (hR).r112, (hR).r113, (hR).r114, x_R_sI, x_R_sJ, x_R_sA, x_R_sB]
  rw [t_ixn hR.a9 (show k < 12 by omega) (by omega), nI_clampS (show k < 100000 by omega), hb, z_Add, z_Add, z_Add, hn, nI_inc, show (6 : Int32) = nI 6 from rfl, nI_mulS]
  simp only [Option.bind_some]
  by_cases h : hd < a1 + a2 + a3 + a4
  · rw [if_neg (fun q => by have := (z_cmpLe (by omega) (by omega) (by omega) (by omega)).mp q; omega), if_pos h]
    have hz : (Int64.ofInt (a1 + a2 + a3 + a4)).toInt ≠ 0 := by rw [z_T (by omega) (by omega)]; omega
    have hq : ∀ a, 0 ≤ a ∧ a ≤ 110000 → Int64.ofInt a * Int64.ofInt hd / Int64.ofInt (a1 + a2 + a3 + a4) = Int64.ofInt (lm (a1 + a2 + a3 + a4) hd a) := by
      intro a ha
      have hm := z_mb ha.1 ha.2 hd0 hd1
      rw [z_Mul, z_Div (by omega) (by omega) (by omega) (by omega), Int.tdiv_eq_ediv_of_nonneg hm.1]
      unfold lm
      rw [if_pos h]
    by_cases hf : k + 1 < n
    · rw [if_neg (by rw [nI_leS (by omega) (by omega)]; omega), if_pos hf, x_nzl_ok hz, t_ixn hR.a29 (by omega) (by omega), nI_clampS (by omega), hq a1 h1]
      simp only [Option.bind_some]
      rw [r_139 (w := x_sB w 29 (6 * (k + 1)) (Int64.ofInt (lm (a1 + a2 + a3 + a4) hd a1))) hR hn n1 n12 hk _ _ _ _ hz]
      simp only [x_B_sB, x_J_sB, show ¬ (9 = 29 ∧ k = 6 * (k + 1)) by omega, if_false]
      rw [hb, hq a2 h2, hq a3 h3, hq a4 h4]
    · rw [if_pos (by rw [nI_leS (by omega) (by omega)]; omega), if_neg hf, r_139 hR hn n1 n12 hk _ _ _ _ hz, hb, hq a2 h2, hq a3 h3, hq a4 h4]
  · rw [if_pos ((z_cmpLe (by omega) (by omega) (by omega) (by omega)).mpr (by omega)), if_neg h]
theorem r_lessL (G : ER T w E n) (KBd : KB E n C) (B : EB E) (K : KR w n C) (hk : k < n) (H : IR w n P N) (hP : ∀ f, f < 2 * n + 2 → 0 ≤ P f ∧ P f ≤ 110000) (hN : ∀ f, f < 2 * n + 2 → 0 ≤ N f ∧ N f ≤ 110000) :
    wp (f_Mod_lessenLeaving T w 0 (nI k)) (fun w' => Gx [] [106, 107] [] [29] w w' ∧ IR w' n (fun f => if op n f = k then lm (Lk n k P N) (C.hd k) (P f) else P f) (fun f => if ip n f = k then lm (Lk n k P N) (C.hd k) (N f) else N f)) := by
  have n1 := KBd.n1
  have n12 := KBd.n12
  have hR := G.r
  have hn := G.n
  have hh := KBd.hd k hk
  have hmo := B.mo (KBd.mt k hk)
  have e61 : ∀ t : Int64, ∀ w' : x_W, w' = w → f_Mod_lessenLeaving T w 0 (nI k) = f_Mod_lessenLeaving_81 T w 0 (nI k) (Int64.ofInt (if k + 1 < n then P (3 + n + k) else 0)) (Int64.ofInt (if 0 < k then N (3 + n + (k - 1)) else 0)) (Int64.ofInt (if k = 0 then N 0 else 0)) (Int64.ofInt (if k = n - 1 then P 1 else 0)) := by
    intro _ _ _
    unfold f_Mod_lessenLeaving f_Mod_lessenLeaving_25 f_Mod_lessenLeaving_47 f_Mod_lessenLeaving_61
    simp only [Option.bind_some, wp_bind, wp_some, (hR).i, (hR).r66, (hR).r67, (hR).r68, (hR).r69, (hR).r70, (hR).r71, (hR).r72, (hR).r73, (hR).r74, (hR).r75, (hR).r76, (hR).r77, (hR).r78, (hR).r79, (hR).r81, (hR).r82, (hR).r85, (hR).r86, (hR).r87, (hR).r88, (hR).r89, (hR).r90, (hR).r92, (hR).r93, (hR).r94, (hR).r95, (hR).r103, (hR).r104, (hR).r105, (hR).r108, (hR).r109, (hR).r110, (hR).r111, (hR).r112, (hR).r113, (hR).r114, x_R_sI, x_R_sJ, x_R_sA, x_R_sB]
    rw [hn, nI_inc, nI_sub1 (by omega)]
    have b1 : k + 1 < n → x_B w 29 (6 * (k + 1)) = Int64.ofInt (P (3 + n + k)) := fun hf => by
      have := H.b (k + 1) 0 hf (by omega)
      rw [Nat.add_zero] at this
      rw [this]
      simp [wp_some, wp_bind, x_I_sI, x_J_sJ, x_R_sR, x_A_sA, x_B_sB, x_I_sJ, x_I_sR, x_I_sA, x_I_sB, x_J_sI, x_J_sR, x_J_sA, x_J_sB, x_R_sI, x_R_sJ, x_R_sA, x_R_sB, x_A_sI, x_A_sJ, x_A_sR, x_A_sB, x_B_sI, x_B_sJ, x_B_sR, x_B_sA, x_Q_sI, x_Q_sJ, x_Q_sR, x_Q_sA, x_Q_sB, iv]
    have b2 : 0 < k → x_B w 29 (6 * (k - 1) + 1) = Int64.ofInt (N (3 + n + (k - 1))) := fun hf => by
      have := H.b (k - 1) 1 (by omega) (by omega)
      rw [this]
      simp [wp_some, wp_bind, x_I_sI, x_J_sJ, x_R_sR, x_A_sA, x_B_sB, x_I_sJ, x_I_sR, x_I_sA, x_I_sB, x_J_sI, x_J_sR, x_J_sA, x_J_sB, x_R_sI, x_R_sJ, x_R_sA, x_R_sB, x_A_sI, x_A_sJ, x_A_sR, x_A_sB, x_B_sI, x_B_sJ, x_B_sR, x_B_sA, x_Q_sI, x_Q_sJ, x_Q_sR, x_Q_sA, x_Q_sB, iv, show k - 1 + 1 < n by omega]
    by_cases hf : k + 1 < n
    · rw [if_neg (show ¬ nI n ≤ nI (k + 1) by rw [nI_leS (by omega) (by omega)]; omega), if_pos hf, if_neg (show ¬ k = n - 1 by omega), show (6 : Int32) = nI 6 from rfl, nI_mulS, t_ixn hR.a29 (by omega) (by omega), nI_clampS (by omega), b1 hf]
      simp only [Option.bind_some]
      by_cases h0 : 0 < k
      · rw [if_neg (fun q => (nI_le0 k (by omega)).mp q h0), if_pos h0, if_neg (show ¬ k = 0 by omega), nI_sub1 h0, nI_mulS, nI_inc, t_ixn hR.a29 (by omega) (by omega), nI_clampS (by omega), b2 h0]
        simp only [Option.bind_some]
        rw [if_neg (fun q => by have := (nI_z0 k (by omega)).mp q; omega), if_neg (fun q => by have := (nI_eqS (by omega) (by omega)).mp q; omega)]
        rfl
      · have k0 : k = 0 := by omega
        rw [if_pos ((nI_le0 k (by omega)).mpr h0), if_neg h0, if_pos k0, if_pos ((nI_z0 k (by omega)).mpr k0), if_neg (fun q => by have := (nI_eqS (by omega) (by omega)).mp q; omega), H.o]
        rfl
    · rw [if_pos (show nI n ≤ nI (k + 1) by rw [nI_leS (by omega) (by omega)]; omega), if_neg hf, if_pos (show k = n - 1 by omega)]
      by_cases h0 : 0 < k
      · rw [if_neg (fun q => (nI_le0 k (by omega)).mp q h0), if_pos h0, if_neg (show ¬ k = 0 by omega), nI_sub1 h0, show (6 : Int32) = nI 6 from rfl, nI_mulS, nI_inc, t_ixn hR.a29 (by omega) (by omega), nI_clampS (by omega), b2 h0]
        simp only [Option.bind_some]
        rw [if_neg (fun q => by have := (nI_z0 k (by omega)).mp q; omega), if_pos ((nI_eqS (by omega) (by omega)).mpr (by omega)), H.i]
        rfl
      · have k0 : k = 0 := by omega
        rw [if_pos ((nI_le0 k (by omega)).mpr h0), if_neg h0, if_pos k0, if_pos ((nI_z0 k (by omega)).mpr k0), if_pos ((nI_eqS (by omega) (by omega)).mpr (by omega)), H.o, H.i]
        rfl
  rw [e61 0 w rfl]
  have c1 : 0 ≤ (if k + 1 < n then P (3 + n + k) else 0) ∧ (if k + 1 < n then P (3 + n + k) else 0) ≤ 110000 := by
    by_cases h : k + 1 < n
    · rw [if_pos h]; exact hP _ (by omega)
    · rw [if_neg h]; omega
  have c2 : 0 ≤ (if 0 < k then N (3 + n + (k - 1)) else 0) ∧ (if 0 < k then N (3 + n + (k - 1)) else 0) ≤ 110000 := by
    by_cases h : 0 < k
    · rw [if_pos h]; exact hN _ (by omega)
    · rw [if_neg h]; omega
  have c3 : 0 ≤ (if k = 0 then N 0 else 0) ∧ (if k = 0 then N 0 else 0) ≤ 110000 := by
    by_cases h : k = 0
    · rw [if_pos h]; exact hN _ (by omega)
    · rw [if_neg h]; omega
  have c4 : 0 ≤ (if k = n - 1 then P 1 else 0) ∧ (if k = n - 1 then P 1 else 0) ≤ 110000 := by
    by_cases h : k = n - 1
    · rw [if_pos h]; exact hP _ (by omega)
    · rw [if_neg h]; omega
  rw [r_81 hR hn n1 n12 hk c1 c2 c3 c4 (K.hd k hk) hh.1 (by omega)]
  show wp (some (if C.hd k < Lk n k P N then _ else _)) _
  rw [wp_some, show (if k + 1 < n then P (3 + n + k) else 0) + (if 0 < k then N (3 + n + (k - 1)) else 0) + (if k = 0 then N 0 else 0) + (if k = n - 1 then P 1 else 0) = Lk n k P N from rfl]
  generalize hL : Lk n k P N = L
  by_cases h : C.hd k < L
  · rw [if_pos h]
    have F1 : Gx [] [106, 107] [] [29] w (if k + 1 < n then x_sB w 29 (6 * (k + 1)) (Int64.ofInt (lm L (C.hd k) (if k + 1 < n then P (3 + n + k) else 0))) else w) := by
      split
      · exact (Gx.refl _ _ _ _ w).sB (by decide)
      · exact Gx.refl _ _ _ _ w
    have F2 : Gx [] [106, 107] [] [29] w (if 0 < k then x_sB (if k + 1 < n then x_sB w 29 (6 * (k + 1)) (Int64.ofInt (lm L (C.hd k) (if k + 1 < n then P (3 + n + k) else 0))) else w) 29 (6 * (k - 1) + 1) (Int64.ofInt (lm L (C.hd k) (if 0 < k then N (3 + n + (k - 1)) else 0))) else (if k + 1 < n then x_sB w 29 (6 * (k + 1)) (Int64.ofInt (lm L (C.hd k) (if k + 1 < n then P (3 + n + k) else 0))) else w)) := by
      split
      · exact F1.sB (by decide)
      · exact F1
    refine ⟨(F2.sJ (by decide)).sJ (by decide), ⟨fun k' q hk' hq => ?_, ?_, ?_⟩⟩
    · rw [x_B_sJ, x_B_sJ]
      have a0 : op n 0 = n ∧ op n 2 = n ∧ ip n 1 = n + 1 := by simp [wp_some, wp_bind, x_I_sI, x_J_sJ, x_R_sR, x_A_sA, x_B_sB, x_I_sJ, x_I_sR, x_I_sA, x_I_sB, x_J_sI, x_J_sR, x_J_sA, x_J_sB, x_R_sI, x_R_sJ, x_R_sA, x_R_sB, x_A_sI, x_A_sJ, x_A_sR, x_A_sB, x_B_sI, x_B_sJ, x_B_sR, x_B_sA, x_Q_sI, x_Q_sJ, x_Q_sR, x_Q_sA, x_Q_sB, op, ip]
      have ivE : iv n (fun f => if op n f = k then lm L (C.hd k) (P f) else P f) (fun f => if ip n f = k then lm L (C.hd k) (N f) else N f) k' q = if q = 0 ∧ k' = k + 1 then lm L (C.hd k) (P (3 + n + k)) else if q = 1 ∧ k' + 1 = k then lm L (C.hd k) (N (3 + n + (k - 1))) else iv n P N k' q := by
        unfold iv
        dsimp only
        rw [a0.1, a0.2.1, a0.2.2, ip_leak n k' hk', op_betw, ip_betw]
        by_cases q0 : q = 0
        · by_cases hh : k' = k + 1
          · rw [if_pos q0, if_pos (show q = 0 ∧ k' = k + 1 from ⟨q0, hh⟩), if_pos (show 0 < k' by omega), if_pos (show k' - 1 = k by omega), hh]; rfl
          · rw [if_pos q0, if_neg (show ¬ (q = 0 ∧ k' = k + 1) from fun z => hh z.2), if_neg (show ¬ (q = 1 ∧ k' + 1 = k) by omega), if_pos q0]
            by_cases h0 : 0 < k'
            · rw [if_pos h0, if_pos h0, if_neg (show ¬ k' - 1 = k by omega)]
            · rw [if_neg h0, if_neg h0]
        · rw [if_neg q0, if_neg (show ¬ (q = 0 ∧ k' = k + 1) from fun z => q0 z.1)]
          by_cases q1 : q = 1
          · rw [if_pos q1]
            by_cases hh : k' + 1 = k
            · rw [if_pos (show k' + 1 < n by omega), if_pos hh, if_pos (show q = 1 ∧ k' + 1 = k from ⟨q1, hh⟩), show k - 1 = k' by omega]
            · rw [if_neg hh, if_neg (show ¬ (q = 1 ∧ k' + 1 = k) from fun z => hh z.2), if_neg q0, if_pos q1]
          · rw [if_neg q1, if_neg (show ¬ (q = 1 ∧ k' + 1 = k) from fun z => q1 z.1), if_neg q0, if_neg q1, if_neg (show ¬ n = k by omega), if_neg (show ¬ n + 1 = k by omega), if_neg (show ¬ n = k by omega), if_neg (show ¬ n + 1 = k by omega)]
      rw [ivE]
      have hb := H.b k' q hk' hq
      by_cases q0 : q = 0 ∧ k' = k + 1
      · rw [if_pos q0]
        have e : 6 * k' + q = 6 * (k + 1) := by omega
        rw [e]
        have hf : k + 1 < n := by omega
        by_cases h0 : 0 < k
        · rw [if_pos h0, x_B_sB, if_neg (by omega), if_pos hf, x_B_sB, if_pos ⟨rfl, rfl⟩, if_pos hf]
        · rw [if_neg h0, if_pos hf, x_B_sB, if_pos ⟨rfl, rfl⟩, if_pos hf]
      · rw [if_neg q0]
        by_cases q1 : q = 1 ∧ k' + 1 = k
        · rw [if_pos q1]
          have h0 : 0 < k := by omega
          rw [if_pos h0, x_B_sB, if_pos ⟨rfl, by omega⟩, if_pos h0]
        · rw [if_neg q1, ← hb]
          have i1 : x_B (if k + 1 < n then x_sB w 29 (6 * (k + 1)) (Int64.ofInt (lm L (C.hd k) (if k + 1 < n then P (3 + n + k) else 0))) else w) 29 (6 * k' + q) = x_B w 29 (6 * k' + q) := by
            by_cases hf : k + 1 < n
            · rw [if_pos hf, x_B_sB, if_neg (by omega)]
            · rw [if_neg hf]
          by_cases h0 : 0 < k
          · rw [if_pos h0, x_B_sB, if_neg (by omega), i1]
          · rw [if_neg h0, i1]
    · rw [x_J_sJ, if_neg (by omega), x_J_sJ, if_pos ⟨rfl, rfl⟩]
      show _ = Int64.ofInt (if 0 = k then lm L (C.hd k) (N 0) else N 0)
      by_cases k0 : k = 0
      · rw [if_pos k0, if_pos k0, if_pos k0.symm]
      · rw [if_neg k0, if_neg (Ne.symm k0), H.o]
    · rw [x_J_sJ, if_pos ⟨rfl, rfl⟩]
      show _ = Int64.ofInt (if n - 1 = k then lm L (C.hd k) (P 1) else P 1)
      by_cases k0 : k = n - 1
      · rw [if_pos k0, if_pos k0, if_pos k0.symm]
      · rw [if_neg k0, if_neg (Ne.symm k0), H.i]
  · rw [if_neg h]
    refine ⟨Gx.refl .., H.congr n1 (fun f hf => ?_) (fun f hf => ?_)⟩
    · unfold lm
      rw [if_neg h]
      split <;> rfl
    · unfold lm
      rw [if_neg h]
      split <;> rfl
end RL
