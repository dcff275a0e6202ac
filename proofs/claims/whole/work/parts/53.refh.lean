/-! THE REFERENCE'S HEIGHTS -/
theorem h_full_loop {T : x_T} {w : x_W} {c : Nat} {X Y : Nat → Int} (hR : R2 T w.2.2.1) (hn : x_I w 80 0 = nI c) (vx : ∀ j, j < c → (x_A w 15 j).toInt = X j) (vy : ∀ j, j < c → (x_A w 16 j).toInt = Y j) (hc : Cor c X Y 100000) (x : Int32) : ∀ k fuel, k < c → k < fuel → (∀ j, k < j → j < c → x.toInt < X j) → f_Mod_fullAt_16 T fuel w 0 x (nI k) = some (Int32.ofInt (hz c X Y x.toInt)) := by
  have hc8 := hc.1
  have leaf : ∀ k, k < c → (∀ j, k < j → j < c → x.toInt < X j) → (k = 0 ∨ X k ≤ x.toInt) → f_Mod_fullAt_36 T w 0 x (nI k) = some (Int32.ofInt (hz c X Y x.toInt)) := by
    intro k hk hup hst
    rw [hz_down hc hk hup hst]
    have ex0 := vx k hk
    have ey0 := vy k hk
    have hb0 := hc.2.2 k hk
    unfold f_Mod_fullAt_36 f_Mod_fullAt_56
    simp only [Option.bind_some, wp_bind, wp_some, (hR).i, (hR).r66, (hR).r67, (hR).r68, (hR).r69, (hR).r70, (hR).r71, (hR).r72, (hR).r73, (hR).r74, (hR).r75, (hR).r76, (hR).r77, (hR).r78, (hR).r79, (hR).r81, (hR).r82, (hR).r85, (hR).r86, (hR).r87, (hR).r88, (hR).r89, (hR).r90, (hR).r92, (hR).r93, (hR).r94, (hR).r95, (hR).r103, (hR).r104, (hR).r105, (hR).r108, (hR).r109, (hR).r110, (hR).r111, (hR).r112, (hR).r113, (hR).r114, x_R_sI, x_R_sJ, x_R_sA, x_R_sB]
    rw [t_ixn hR.a15 (by omega) (by omega), t_ixn hR.a16 (by omega) (by omega), nI_clampS (by omega), hn, nI_sub1 (by omega)]
    simp only [Option.bind_some]
    by_cases h1 : x.toInt ≤ X k
    · rw [if_pos h1, if_pos (by rw [z_le, ex0]; exact h1), ← ey0, z_o]
    · rw [if_neg h1, if_neg (by rw [z_le, ex0]; exact h1)]
      by_cases h2 : k = c - 1
      · rw [if_pos h2, if_pos (by rw [h2]), ← ey0, z_o]
      · have hm := hc.2.1 k (by omega)
        have hb1 := hc.2.2 (k + 1) (by omega)
        have ex1 := vx (k + 1) (by omega)
        have ey1 := vy (k + 1) (by omega)
        have hx1 := hup (k + 1) (by omega) (by omega)
        rw [if_neg h2, if_neg (by rw [nI_eqS (by omega) (by omega)]; exact h2), nI_inc, t_ixn hR.a15 (by omega) (by omega), t_ixn hR.a16 (by omega) (by omega), nI_clampS (by omega)]
        simp only [Option.bind_some]
        have hsp : (x_A w 15 (k + 1) - x_A w 15 k).toInt = X (k + 1) - X k := by rw [z_sub_toInt (by omega) (by omega), ex0, ex1]
        rw [x_nzl_ok (by rw [Int32.toInt_toInt64, hsp]; omega), Option.bind_some, lf_num (by omega) (by omega) (by omega) (by omega) (by omega) (by omega) (by omega) (by omega), z_64x, z_Add, z_32, ex0, ex1, ey0, ey1]
        rfl
  intro k
  induction k with
  | zero =>
    intro fuel hk hf hup
    obtain ⟨fuel, rfl⟩ : ∃ q, fuel = q + 1 := ⟨fuel - 1, by omega⟩
    unfold f_Mod_fullAt_16
    rw [if_pos (show nI 0 ≤ 0 from by decide)]
    exact leaf 0 hk hup (Or.inl rfl)
  | succ k ih =>
    intro fuel hk hf hup
    obtain ⟨fuel, rfl⟩ : ∃ q, fuel = q + 1 := ⟨fuel - 1, by omega⟩
    unfold f_Mod_fullAt_16
    rw [if_neg (show ¬ nI (k + 1) ≤ 0 from by rw [show (0 : Int32) = nI 0 from rfl, nI_leS (by omega) (by omega)]; omega)]
    simp only [Option.bind_some, wp_bind, wp_some, (hR).i, (hR).r66, (hR).r67, (hR).r68, (hR).r69, (hR).r70, (hR).r71, (hR).r72, (hR).r73, (hR).r74, (hR).r75, (hR).r76, (hR).r77, (hR).r78, (hR).r79, (hR).r81, (hR).r82, (hR).r85, (hR).r86, (hR).r87, (hR).r88, (hR).r89, (hR).r90, (hR).r92, (hR).r93, (hR).r94, (hR).r95, (hR).r103, (hR).r104, (hR).r105, (hR).r108, (hR).r109, (hR).r110, (hR).r111, (hR).r112, (hR).r113, (hR).r114, x_R_sI, x_R_sJ, x_R_sA, x_R_sB]
    rw [t_ixn hR.a15 (by omega) (by omega), nI_clampS (by omega)]
    simp only [Option.bind_some]
    by_cases h : X (k + 1) ≤ x.toInt
    · rw [if_pos (by rw [z_le, vx _ hk]; exact h)]
      exact leaf (k + 1) hk hup (Or.inr h)
    · rw [if_neg (by rw [z_le, vx _ hk]; exact h), nI_dec (by omega), Nat.add_sub_cancel]
      exact ih fuel (by omega) (by omega) (fun j h1 h2 => by
        by_cases e : j = k + 1
        · subst e; omega
        · exact hup j (by omega) h2)
theorem h_full {T : x_T} {w : x_W} {c : Nat} {X Y : Nat → Int} (hR : R2 T w.2.2.1) (hn : x_I w 80 0 = nI c) (vx : ∀ j, j < c → (x_A w 15 j).toInt = X j) (vy : ∀ j, j < c → (x_A w 16 j).toInt = Y j) (hc : Cor c X Y 100000) (x : Int32) : f_Mod_fullAt T w 0 x = some (Int32.ofInt (hz c X Y x.toInt)) := by
  have hc8 := hc.1
  unfold f_Mod_fullAt
  simp only [Option.bind_some, wp_bind, wp_some, (hR).i, (hR).r66, (hR).r67, (hR).r68, (hR).r69, (hR).r70, (hR).r71, (hR).r72, (hR).r73, (hR).r74, (hR).r75, (hR).r76, (hR).r77, (hR).r78, (hR).r79, (hR).r81, (hR).r82, (hR).r85, (hR).r86, (hR).r87, (hR).r88, (hR).r89, (hR).r90, (hR).r92, (hR).r93, (hR).r94, (hR).r95, (hR).r103, (hR).r104, (hR).r105, (hR).r108, (hR).r109, (hR).r110, (hR).r111, (hR).r112, (hR).r113, (hR).r114, x_R_sI, x_R_sJ, x_R_sA, x_R_sB]
  rw [hn]
  by_cases h0 : c = 0
  · subst h0
    rfl
  · rw [if_neg (show ¬ nI c = 0 from fun e => h0 ((nI_eqS (b := 0) (by omega) (by omega)).mp e)), nI_sub1 (by omega)]
    exact h_full_loop hR hn vx vy hc x (c - 1) 1000 (by omega) (by omega) (fun j h1 h2 => by omega)
theorem h_damp_loop {T : x_T} {w : x_W} {c m k0 : Nat} {X Y : Nat → Int} {v : Int} (hR : R2 T w.2.2.1) (hk0 : k0 < 12) (hm : m < 6) (hmt : x_A w 7 k0 = nI m) (hc1 : 1 ≤ c) (hc7 : c ≤ 7) (hn : x_A w 1 m = nI c) (vx : ∀ j, j < c → (x_A w 2 (7 * m + j)).toInt = X j) (vy : ∀ j, j < c → (x_A w 3 (7 * m + j)).toInt = Y j) (hc : Cor c X Y 10000) (hv : x_B w 9 k0 = Int64.ofInt v) (hv0 : X 0 ≤ v) (hv1 : 0 ≤ v) (hv2 : v ≤ 1000000) : ∀ k fuel, k < c → k < fuel → (∀ j, k < j → j < c → v < X j) → f_Mod_dampOf_24 T fuel w 0 (nI k0) (nI (7 * m)) (nI k) = some (Int32.ofInt (hz c X Y v)) := by
  have leaf : ∀ k, k < c → (∀ j, k < j → j < c → v < X j) → X k ≤ v → f_Mod_dampOf_53 T w 0 (nI k0) (nI (7 * m)) (nI k) = some (Int32.ofInt (hz c X Y v)) := by
    intro k hk hup hst
    rw [hz_down hc hk hup (Or.inr hst)]
    have ex0 := vx k hk
    have ey0 := vy k hk
    have hb0 := hc.2.2 k hk
    unfold f_Mod_dampOf_53
    simp only [Option.bind_some, wp_bind, wp_some, (hR).i, (hR).r66, (hR).r67, (hR).r68, (hR).r69, (hR).r70, (hR).r71, (hR).r72, (hR).r73, (hR).r74, (hR).r75, (hR).r76, (hR).r77, (hR).r78, (hR).r79, (hR).r81, (hR).r82, (hR).r85, (hR).r86, (hR).r87, (hR).r88, (hR).r89, (hR).r90, (hR).r92, (hR).r93, (hR).r94, (hR).r95, (hR).r103, (hR).r104, (hR).r105, (hR).r108, (hR).r109, (hR).r110, (hR).r111, (hR).r112, (hR).r113, (hR).r114, x_R_sI, x_R_sJ, x_R_sA, x_R_sB]
    rw [t_ixn hR.a7 (by omega) (by omega), nI_clampS (by omega), hmt, t_ixn hR.a1 (by omega) (by omega), nI_clampS (by omega), hn, nI_sub1 (by omega), nI_addS, nI_inc, t_ixn hR.a3 (by omega) (by omega), t_ixn hR.a2 (by omega) (by omega), nI_clampS (by omega), t_ixn hR.a9 (by omega) (by omega)]
    simp only [Option.bind_some]
    by_cases h2 : k = c - 1
    · have e1 : (if v ≤ X k then Y k else if k = c - 1 then Y k else hzI X Y v k) = Y k := by
        by_cases h1 : v ≤ X k
        · rw [if_pos h1]
        · rw [if_neg h1, if_pos h2]
      rw [e1, if_pos (by rw [h2]), ← ey0, z_o]
    · have hmm := hc.2.1 k (by omega)
      have hb1 := hc.2.2 (k + 1) (by omega)
      have ex1 := vx (k + 1) (by omega)
      have ey1 := vy (k + 1) (by omega)
      have hx1 := hup (k + 1) (by omega) (by omega)
      rw [← Nat.add_assoc] at ex1 ey1
      have e1 : (if v ≤ X k then Y k else if k = c - 1 then Y k else hzI X Y v k) = hzI X Y v k := by
        by_cases h1 : v ≤ X k
        · rw [if_pos h1, show v = X k by omega, hzI_start]
        · rw [if_neg h1, if_neg h2]
      rw [e1, if_neg (by rw [nI_eqS (by omega) (by omega)]; exact h2), t_ixn hR.a3 (by omega) (by omega), t_ixn hR.a2 (by omega) (by omega), nI_clampS (by omega)]
      simp only [Option.bind_some]
      have hsp : (x_A w 2 (7 * m + k + 1) - x_A w 2 (7 * m + k)).toInt = X (k + 1) - X k := by rw [z_sub_toInt (by omega) (by omega), ex0, ex1]
      have hsy : (x_A w 3 (7 * m + k + 1) - x_A w 3 (7 * m + k)).toInt = Y (k + 1) - Y k := by rw [z_sub_toInt (by omega) (by omega), ey0, ey1]
      have mb := z_mb (a := Y (k + 1) - Y k) (b := v - X k) (A := 100000) (B := 1005000) (by omega) (by omega) (by omega) (by omega)
      rw [x_nzl_ok (by rw [Int32.toInt_toInt64, hsp]; omega), Option.bind_some, z_64x, z_64x, z_64x, z_64x, hsp, hsy, hv, ex0, ey0, z_Sub, z_Mul, z_Div (by omega) (by omega) (by omega) (by omega), z_Add, z_32]
      rfl
  intro k
  induction k with
  | zero =>
    intro fuel hk hf hup
    obtain ⟨fuel, rfl⟩ : ∃ q, fuel = q + 1 := ⟨fuel - 1, by omega⟩
    unfold f_Mod_dampOf_24
    rw [if_pos (show nI 0 ≤ 0 from by decide)]
    exact leaf 0 hk hup hv0
  | succ k ih =>
    intro fuel hk hf hup
    obtain ⟨fuel, rfl⟩ : ∃ q, fuel = q + 1 := ⟨fuel - 1, by omega⟩
    have hb0 := hc.2.2 (k + 1) hk
    have ex0 := vx (k + 1) hk
    unfold f_Mod_dampOf_24
    rw [if_neg (show ¬ nI (k + 1) ≤ 0 from by rw [show (0 : Int32) = nI 0 from rfl, nI_leS (by omega) (by omega)]; omega)]
    simp only [Option.bind_some, wp_bind, wp_some, (hR).i, (hR).r66, (hR).r67, (hR).r68, (hR).r69, (hR).r70, (hR).r71, (hR).r72, (hR).r73, (hR).r74, (hR).r75, (hR).r76, (hR).r77, (hR).r78, (hR).r79, (hR).r81, (hR).r82, (hR).r85, (hR).r86, (hR).r87, (hR).r88, (hR).r89, (hR).r90, (hR).r92, (hR).r93, (hR).r94, (hR).r95, (hR).r103, (hR).r104, (hR).r105, (hR).r108, (hR).r109, (hR).r110, (hR).r111, (hR).r112, (hR).r113, (hR).r114, x_R_sI, x_R_sJ, x_R_sA, x_R_sB]
    rw [nI_addS, t_ixn hR.a2 (by omega) (by omega), t_ixn hR.a9 (by omega) (by omega), nI_clampS (by omega), nI_clampS (by omega)]
    simp only [Option.bind_some]
    have hcmp : lg_cmp (x_A w 2 (7 * m + (k + 1))).toInt64 (x_B w 9 k0) ≤ 0 ↔ X (k + 1) ≤ v := by
      rw [lg_cmp_le, z_Le, Int32.toInt_toInt64, ex0, hv, z_T (by omega) (by omega)]
    by_cases h : X (k + 1) ≤ v
    · rw [if_pos (hcmp.mpr h)]
      exact leaf (k + 1) hk hup h
    · rw [if_neg (fun q => h (hcmp.mp q)), nI_dec (by omega), Nat.add_sub_cancel]
      exact ih fuel (by omega) (by omega) (fun j h1 h2 => by
        by_cases e : j = k + 1
        · subst e; omega
        · exact hup j (by omega) h2)
theorem h_damp {T : x_T} {w : x_W} {c m k0 : Nat} {X Y : Nat → Int} {v : Int} (hR : R2 T w.2.2.1) (hk0 : k0 < 12) (hm : m < 6) (hmt : x_A w 7 k0 = nI m) (hc1 : 1 ≤ c) (hc7 : c ≤ 7) (hn : x_A w 1 m = nI c) (vx : ∀ j, j < c → (x_A w 2 (7 * m + j)).toInt = X j) (vy : ∀ j, j < c → (x_A w 3 (7 * m + j)).toInt = Y j) (hc : Cor c X Y 10000) (hv : x_B w 9 k0 = Int64.ofInt v) (hv0 : X 0 ≤ v) (hv1 : 0 ≤ v) (hv2 : v ≤ 1000000) : f_Mod_dampOf T w 0 (nI k0) = some (Int32.ofInt (hz c X Y v)) := by
  unfold f_Mod_dampOf
  simp only [Option.bind_some, wp_bind, wp_some, (hR).i, (hR).r66, (hR).r67, (hR).r68, (hR).r69, (hR).r70, (hR).r71, (hR).r72, (hR).r73, (hR).r74, (hR).r75, (hR).r76, (hR).r77, (hR).r78, (hR).r79, (hR).r81, (hR).r82, (hR).r85, (hR).r86, (hR).r87, (hR).r88, (hR).r89, (hR).r90, (hR).r92, (hR).r93, (hR).r94, (hR).r95, (hR).r103, (hR).r104, (hR).r105, (hR).r108, (hR).r109, (hR).r110, (hR).r111, (hR).r112, (hR).r113, (hR).r114, x_R_sI, x_R_sJ, x_R_sA, x_R_sB]
  rw [t_ixn hR.a7 (by omega) (by omega), nI_clampS (by omega), hmt, t_ixn hR.a1 (by omega) (by omega), nI_clampS (by omega), hn, nI_sub1 (by omega), show (7 : Int32) = nI 7 from rfl, nI_mulS]
  simp only [Option.bind_some]
  exact h_damp_loop hR hk0 hm hmt hc1 hc7 hn vx vy hc hv hv0 hv1 hv2 (c - 1) 1000 (by omega) (by omega) (fun j h1 h2 => by omega)
