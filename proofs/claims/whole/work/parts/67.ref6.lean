/-! THE REFERENCE'S MOVES -/
section RM
variable {T : x_T} {w : x_W} {E : En} {n k : Nat} {C : Ce} {P N : Nat → Int}
theorem iv_00 : iv n P N 0 0 = 0 := by simp [wp_some, wp_bind, x_I_sI, x_J_sJ, x_R_sR, x_A_sA, x_B_sB, x_I_sJ, x_I_sR, x_I_sA, x_I_sB, x_J_sI, x_J_sR, x_J_sA, x_J_sB, x_R_sI, x_R_sJ, x_R_sA, x_R_sB, x_A_sI, x_A_sJ, x_A_sR, x_A_sB, x_B_sI, x_B_sJ, x_B_sR, x_B_sA, x_Q_sI, x_Q_sJ, x_Q_sR, x_Q_sA, x_Q_sB, iv]
theorem iv_n1 (hk : ¬ k + 1 < n) : iv n P N k 1 = 0 := by simp [wp_some, wp_bind, x_I_sI, x_J_sJ, x_R_sR, x_A_sA, x_B_sB, x_I_sJ, x_I_sR, x_I_sA, x_I_sB, x_J_sI, x_J_sR, x_J_sA, x_J_sB, x_R_sI, x_R_sJ, x_R_sA, x_R_sB, x_A_sI, x_A_sJ, x_A_sR, x_A_sB, x_B_sI, x_B_sJ, x_B_sR, x_B_sA, x_Q_sI, x_Q_sJ, x_Q_sR, x_Q_sA, x_Q_sB, iv, hk]
def o23 (g : Nat → Int) (q : Nat) : Int := if q = 2 ∨ q = 3 then g q else 0
def o45 (g : Nat → Int) (q : Nat) : Int := if 4 ≤ q then g q else 0
def MI (w w' : x_W) (n k : Nat) (W g : Nat → Int) (q : Nat) : Prop := (Gx [] [98, 99] [] [9] w w') ∧ (∀ m, m < n → x_B w' 9 m = Int64.ofInt (W m + (if m = k then zs g q else 0) - (if 1 ≤ q ∧ m + 1 = k then g 0 else 0) - (if 2 ≤ q ∧ m = k + 1 then g 1 else 0))) ∧ (x_J w' 98 0 = x_J w 98 0 + Int64.ofInt (zs (o23 g) q)) ∧ (x_J w' 99 0 = x_J w 99 0 + Int64.ofInt (zs (o45 g) q))
theorem MI.f {w w' : x_W} {n k : Nat} {W g : Nat → Int} {q : Nat} (S_ : MI w w' n k W g q) : Gx [] [98, 99] [] [9] w w' := S_.1
theorem MI.b {w w' : x_W} {n k : Nat} {W g : Nat → Int} {q : Nat} (S_ : MI w w' n k W g q) : ∀ m, m < n → x_B w' 9 m = Int64.ofInt (W m + (if m = k then zs g q else 0) - (if 1 ≤ q ∧ m + 1 = k then g 0 else 0) - (if 2 ≤ q ∧ m = k + 1 then g 1 else 0)) := S_.2.1
theorem MI.j {w w' : x_W} {n k : Nat} {W g : Nat → Int} {q : Nat} (S_ : MI w w' n k W g q) : x_J w' 98 0 = x_J w 98 0 + Int64.ofInt (zs (o23 g) q) := S_.2.2.1
theorem MI.i {w w' : x_W} {n k : Nat} {W g : Nat → Int} {q : Nat} (S_ : MI w w' n k W g q) : x_J w' 99 0 = x_J w 99 0 + Int64.ofInt (zs (o45 g) q) := S_.2.2.2
theorem r_inner (hR0 : R2 T w.2.2.1) (hn0 : x_I w 65 0 = nI n) (n12 : n ≤ 12) (hk : k < n) (H : IR w n P N) {W : Nat → Int} (hW : ∀ m, m < n → x_B w 9 m = Int64.ofInt (W m)) (K44 : x_W → Nat → Int32 → Option x_W) : ∃ w', MI w w' n k W (iv n P N k) 6 ∧ f_Mod_move_54 T K44 1000 w 0 (nI k) 0 = K44 w' 0 (nI (k + 1)) := by
  have eO : ∀ x : Int64, x = x + Int64.ofInt 0 := fun x => by rw [← z_O x, z_Add, Int.add_zero]
  have main := loop_eq (N := 6) (fun fuel w' i => f_Mod_move_54 T K44 fuel w' 0 (nI k) i) (fun q w' => MI w w' n k W (iv n P N k) q) ?_ 994 w ?_
  · obtain ⟨w', h1, h2⟩ := main
    refine ⟨w', h1, ?_⟩
    rw [show (1000 : Nat) = 994 + 6 from rfl, h2, show (994 : Nat) = 993 + 1 from rfl, f_Mod_move_54, if_pos (by decide), nI_inc]
  · intro q w' fuel hq M
    have hR : R2 T w'.2.2.1 := by rw [M.f.R]; exact hR0
    have hn : x_I w' 65 0 = nI n := (M.f.I _ _ (by decide)).trans hn0
    have hv : x_B w' 29 (6 * k + q) = Int64.ofInt (iv n P N k q) := (M.f.B 29 _ (by decide)).trans (H.b k q hk hq)
    have hbk := M.b k hk
    have head : f_Mod_move_54 T K44 (fuel + 1) w' 0 (nI k) (nI q) = (if nI q = 0 then (if nI k ≤ 0 then f_Mod_move_101 T K44 (f_Mod_move_54 T K44 fuel) (x_sB w' 9 k (x_B w' 9 k + Int64.ofInt (iv n P N k q))) 0 (nI k) (nI q) (Int64.ofInt (iv n P N k q)) 9 (0 : Int32) else f_Mod_move_101 T K44 (f_Mod_move_54 T K44 fuel) (x_sB w' 9 k (x_B w' 9 k + Int64.ofInt (iv n P N k q))) 0 (nI k) (nI q) (Int64.ofInt (iv n P N k q)) 9 (nI (k - 1))) else if nI q = 1 then (if nI n ≤ nI (k + 1) then f_Mod_move_135 T K44 (f_Mod_move_54 T K44 fuel) (x_sB w' 9 k (x_B w' 9 k + Int64.ofInt (iv n P N k q))) 0 (nI k) (nI q) (Int64.ofInt (iv n P N k q)) 9 (nI k) else f_Mod_move_135 T K44 (f_Mod_move_54 T K44 fuel) (x_sB w' 9 k (x_B w' 9 k + Int64.ofInt (iv n P N k q))) 0 (nI k) (nI q) (Int64.ofInt (iv n P N k q)) 9 (nI (k + 1))) else if (4 : Int32) ≤ nI q then f_Mod_move_54 T K44 fuel (x_sJ (x_sB w' 9 k (x_B w' 9 k + Int64.ofInt (iv n P N k q))) 99 0 (x_J w' 99 0 + Int64.ofInt (iv n P N k q))) 0 (nI k) (nI (q + 1)) else f_Mod_move_54 T K44 fuel (x_sJ (x_sB w' 9 k (x_B w' 9 k + Int64.ofInt (iv n P N k q))) 98 0 (x_J w' 98 0 + Int64.ofInt (iv n P N k q))) 0 (nI k) (nI (q + 1))) := by
      rw [f_Mod_move_54, show (6 : Int32) = nI 6 from rfl, if_neg (by rw [nI_leS (by omega) (by omega)]; omega)]
      simp only [Option.bind_some, wp_bind, wp_some, (hR).i, (hR).r66, (hR).r67, (hR).r68, (hR).r69, (hR).r70, (hR).r71, (hR).r72, (hR).r73, (hR).r74, (hR).r75, (hR).r76, (hR).r77, (hR).r78, (hR).r79, (hR).r81, (hR).r82, (hR).r85, (hR).r86, (hR).r87, (hR).r88, (hR).r89, (hR).r90, (hR).r92, (hR).r93, (hR).r94, (hR).r95, (hR).r103, (hR).r104, (hR).r105, (hR).r108, (hR).r109, (hR).r110, (hR).r111, (hR).r112, (hR).r113, (hR).r114, x_R_sI, x_R_sJ, x_R_sA, x_R_sB]
      rw [nI_mulS, nI_addS, t_ixn hR.a29 (by omega) (by omega), nI_clampS (show 6 * k + q < 100000 by omega), hv, t_ixn hR.a9 (by omega) (by omega), nI_clampS (show k < 100000 by omega)]
      simp only [Option.bind_some, x_I_sB, x_J_sB, hn, nI_inc, f_Mod_move_171]
      by_cases k0 : nI k ≤ 0
      · rw [if_pos k0, if_pos k0]
      · rw [if_neg k0, if_neg k0, nI_sub1 (by have := mt (nI_le0 k (by omega)).mpr k0; omega)]
    have fin : ∀ w2, MI w w2 n k W (iv n P N k) (q + 1) → f_Mod_move_54 T K44 (fuel + 1) w' 0 (nI k) (nI q) = f_Mod_move_54 T K44 fuel w2 0 (nI k) (nI (q + 1)) → ∃ s', MI w s' n k W (iv n P N k) (q + 1) ∧ f_Mod_move_54 T K44 (fuel + 1) w' 0 (nI k) (nI q) = f_Mod_move_54 T K44 fuel s' 0 (nI k) (nI (q + 1)) := fun w2 a b => ⟨w2, a, b⟩
    have j98 := M.j
    have j99 := M.i
    have Mb := M.b
    have Mf := M.f
    by_cases q0 : q = 0
    · subst q0
      rw [head, if_pos (show nI 0 = 0 from rfl)]
      by_cases k0 : 0 < k
      · rw [if_neg (fun z => (nI_le0 k (by omega)).mp z k0)]
        unfold f_Mod_move_101 f_Mod_move_171
        rw [t_ixn hR.a9 (show k - 1 < 12 by omega) (by omega), nI_clampS (show k - 1 < 100000 by omega)]
        simp only [Option.bind_some]
        refine ⟨_, ⟨(Mf.sB (by decide)).sB (by decide), fun m hm => ?_, ?_, ?_⟩, rfl⟩
        · rw [x_B_sB, x_B_sB, x_B_sB]
          have hm0 := Mb m hm
          have hm1 := Mb (k - 1) (by omega)
          by_cases e1 : m = k - 1
          · subst e1
            rw [if_pos ⟨rfl, rfl⟩, if_neg (by omega), hm1, z_Sub]
            congr 1
            rw [zs_s, zs_0]
            rw [if_neg (by omega), if_neg (by omega), if_neg (by omega), if_neg (by omega), if_pos (by omega), if_neg (by omega)]
            omega
          · rw [if_neg (fun z => e1 z.2)]
            by_cases e2 : m = k
            · subst e2
              rw [if_pos ⟨rfl, rfl⟩, hbk, z_Add]
              congr 1
              rw [zs_s, zs_0]
              rw [if_pos rfl, if_neg (by omega), if_neg (by omega), if_pos rfl, if_neg (by omega), if_neg (by omega)]
              omega
            · rw [if_neg (fun z => e2 z.2), hm0]
              congr 1
              rw [if_neg e2, if_neg (by omega), if_neg (by omega), if_neg e2, if_neg (by omega), if_neg (by omega)]
        · rw [x_J_sB, x_J_sB, j98]; rfl
        · rw [x_J_sB, x_J_sB, j99]; rfl
      · have k00 : k = 0 := by omega
        subst k00
        rw [if_pos (show nI 0 ≤ 0 from by decide)]
        unfold f_Mod_move_101 f_Mod_move_171
        rw [show (0 : Int32) = nI 0 from rfl, t_ixn hR.a9 (show 0 < 12 by omega) (by omega), nI_clampS (show 0 < 100000 by omega)]
        simp only [Option.bind_some]
        rw [nI_inc]
        refine ⟨_, ⟨(Mf.sB (by decide)).sB (by decide), fun m hm => ?_, ?_, ?_⟩, rfl⟩
        · rw [x_B_sB, x_B_sB, x_B_sB]
          have hm0 := Mb m hm
          by_cases e2 : m = 0
          · subst e2
            rw [if_pos ⟨rfl, rfl⟩, if_pos ⟨rfl, rfl⟩, hm0, iv_00, z_Add, z_Sub]
            congr 1
            simp [wp_some, wp_bind, x_I_sI, x_J_sJ, x_R_sR, x_A_sA, x_B_sB, x_I_sJ, x_I_sR, x_I_sA, x_I_sB, x_J_sI, x_J_sR, x_J_sA, x_J_sB, x_R_sI, x_R_sJ, x_R_sA, x_R_sB, x_A_sI, x_A_sJ, x_A_sR, x_A_sB, x_B_sI, x_B_sJ, x_B_sR, x_B_sA, x_Q_sI, x_Q_sJ, x_Q_sR, x_Q_sA, x_Q_sB, zs, iv_00]
          · rw [if_neg (fun z => e2 z.2), if_neg (fun z => e2 z.2), hm0]
            simp [wp_some, wp_bind, x_I_sI, x_J_sJ, x_R_sR, x_A_sA, x_B_sB, x_I_sJ, x_I_sR, x_I_sA, x_I_sB, x_J_sI, x_J_sR, x_J_sA, x_J_sB, x_R_sI, x_R_sJ, x_R_sA, x_R_sB, x_A_sI, x_A_sJ, x_A_sR, x_A_sB, x_B_sI, x_B_sJ, x_B_sR, x_B_sA, x_Q_sI, x_Q_sJ, x_Q_sR, x_Q_sA, x_Q_sB, e2]
        · rw [x_J_sB, x_J_sB, j98]; rfl
        · rw [x_J_sB, x_J_sB, j99]; rfl
    · by_cases q1 : q = 1
      · subst q1
        rw [head, if_neg (show ¬ nI 1 = 0 from by decide), if_pos (show nI 1 = 1 from rfl)]
        by_cases k0 : k + 1 < n
        · rw [if_neg (by rw [nI_leS (by omega) (by omega)]; omega)]
          unfold f_Mod_move_135 f_Mod_move_171
          rw [t_ixn hR.a9 (show k + 1 < 12 by omega) (by omega), nI_clampS (show k + 1 < 100000 by omega)]
          simp only [Option.bind_some]
          refine ⟨_, ⟨(Mf.sB (by decide)).sB (by decide), fun m hm => ?_, ?_, ?_⟩, rfl⟩
          · rw [x_B_sB, x_B_sB, x_B_sB]
            have hm0 := Mb m hm
            have hm1 := Mb (k + 1) k0
            by_cases e1 : m = k + 1
            · subst e1
              rw [if_pos ⟨rfl, rfl⟩, if_neg (by omega), hm1, z_Sub]
              congr 1
              rw [if_neg (show ¬ k + 1 = k by omega), if_neg (by omega), if_neg (by omega), if_neg (show ¬ k + 1 = k by omega), if_neg (by omega), if_pos (by omega)]
              omega
            · rw [if_neg (fun z => e1 z.2)]
              by_cases e2 : m = k
              · subst e2
                rw [if_pos ⟨rfl, rfl⟩, hbk, z_Add]
                congr 1
                rw [zs_s _ 1, if_pos rfl, if_neg (by omega), if_neg (by omega), if_pos rfl, if_neg (by omega), if_neg (by omega)]
                omega
              · rw [if_neg (fun z => e2 z.2), hm0]
                congr 1
                rw [if_neg e2, if_neg e2, if_neg (show ¬ (2 ≤ 1 ∧ m = k + 1) by omega), if_neg (show ¬ (2 ≤ 1 + 1 ∧ m = k + 1) by omega)]
                by_cases e3 : m + 1 = k
                · rw [if_pos ⟨by omega, e3⟩, if_pos ⟨by omega, e3⟩]
                · rw [if_neg (fun z => e3 z.2), if_neg (fun z => e3 z.2)]
          · rw [x_J_sB, x_J_sB, j98]; rfl
          · rw [x_J_sB, x_J_sB, j99]; rfl
        · rw [if_pos (by rw [nI_leS (by omega) (by omega)]; omega)]
          unfold f_Mod_move_135 f_Mod_move_171
          rw [t_ixn hR.a9 (show k < 12 by omega) (by omega), nI_clampS (show k < 100000 by omega)]
          simp only [Option.bind_some]
          have hz := iv_n1 (P := P) (N := N) k0
          refine ⟨_, ⟨(Mf.sB (by decide)).sB (by decide), fun m hm => ?_, ?_, ?_⟩, rfl⟩
          · rw [x_B_sB, x_B_sB, x_B_sB]
            have hm0 := Mb m hm
            rw [hz]
            by_cases e2 : m = k
            · subst e2
              rw [if_pos ⟨rfl, rfl⟩, if_pos ⟨rfl, rfl⟩, hbk, z_Add, z_Sub]
              congr 1
              rw [zs_s _ 1, hz, if_pos rfl, if_neg (by omega), if_neg (by omega), if_pos rfl, if_neg (by omega), if_neg (by omega)]
              omega
            · rw [if_neg (fun z => e2 z.2), if_neg (fun z => e2 z.2), hm0]
              congr 1
              rw [if_neg e2, if_neg e2, if_neg (show ¬ (2 ≤ 1 ∧ m = k + 1) by omega), if_neg (show ¬ (2 ≤ 1 + 1 ∧ m = k + 1) by omega)]
              by_cases e3 : m + 1 = k
              · rw [if_pos ⟨by omega, e3⟩, if_pos ⟨by omega, e3⟩]
              · rw [if_neg (fun z => e3 z.2), if_neg (fun z => e3 z.2)]
          · rw [x_J_sB, x_J_sB, j98]; rfl
          · rw [x_J_sB, x_J_sB, j99]; rfl
      · have bb : ∀ m, m < n → x_B (x_sB w' 9 k (x_B w' 9 k + Int64.ofInt (iv n P N k q))) 9 m = Int64.ofInt (W m + (if m = k then zs (iv n P N k) (q + 1) else 0) - (if 1 ≤ q + 1 ∧ m + 1 = k then iv n P N k 0 else 0) - (if 2 ≤ q + 1 ∧ m = k + 1 then iv n P N k 1 else 0)) := by
          intro m hm
          rw [x_B_sB]
          have hm0 := Mb m hm
          by_cases e2 : m = k
          · subst e2
            rw [if_pos ⟨rfl, rfl⟩, hbk, z_Add]
            congr 1
            rw [zs_s, if_pos rfl, if_neg (by omega), if_neg (by omega), if_pos rfl, if_neg (by omega), if_neg (by omega)]
            omega
          · rw [if_neg (fun z => e2 z.2), hm0]
            congr 1
            rw [if_neg e2, if_neg e2]
            by_cases e3 : m + 1 = k
            · rw [if_pos (show 1 ≤ q ∧ m + 1 = k from ⟨by omega, e3⟩), if_pos (show 1 ≤ q + 1 ∧ m + 1 = k from ⟨by omega, e3⟩), if_neg (show ¬ (2 ≤ q ∧ m = k + 1) by omega), if_neg (show ¬ (2 ≤ q + 1 ∧ m = k + 1) by omega)]
            · rw [if_neg (show ¬ (1 ≤ q ∧ m + 1 = k) from fun z => e3 z.2), if_neg (show ¬ (1 ≤ q + 1 ∧ m + 1 = k) from fun z => e3 z.2)]
              by_cases e4 : m = k + 1
              · rw [if_pos (show 2 ≤ q ∧ m = k + 1 from ⟨by omega, e4⟩), if_pos (show 2 ≤ q + 1 ∧ m = k + 1 from ⟨by omega, e4⟩)]
              · rw [if_neg (show ¬ (2 ≤ q ∧ m = k + 1) from fun z => e4 z.2), if_neg (show ¬ (2 ≤ q + 1 ∧ m = k + 1) from fun z => e4 z.2)]
        rw [head, if_neg (fun z => q0 ((nI_z0 q (by omega)).mp z)), if_neg (show ¬ nI q = 1 from fun z => q1 ((nI_eqS (b := 1) (by omega) (by omega)).mp z))]
        by_cases q4 : 4 ≤ q
        · rw [if_pos (by rw [show (4 : Int32) = nI 4 from rfl, nI_leS (by omega) (by omega)]; exact q4)]
          refine ⟨_, ⟨(Mf.sB (by decide)).sJ (by decide), fun m hm => ?_, ?_, ?_⟩, rfl⟩
          · rw [x_B_sJ]; exact bb m hm
          · rw [x_J_sJ, if_neg (by omega), x_J_sB, j98, zs_s]
            unfold o23
            rw [if_neg (show ¬ (q = 2 ∨ q = 3) by omega), Int.add_zero]
          · rw [x_J_sJ, if_pos ⟨rfl, rfl⟩, j99, zs_s, Int64.add_assoc, z_Add]
            congr 3
            unfold o45
            rw [if_pos q4]
        · rw [if_neg (by rw [show (4 : Int32) = nI 4 from rfl, nI_leS (by omega) (by omega)]; exact q4)]
          refine ⟨_, ⟨(Mf.sB (by decide)).sJ (by decide), fun m hm => ?_, ?_, ?_⟩, rfl⟩
          · rw [x_B_sJ]; exact bb m hm
          · rw [x_J_sJ, if_pos ⟨rfl, rfl⟩, j98, zs_s, Int64.add_assoc, z_Add]
            congr 3
            unfold o23
            rw [if_pos (by omega)]
          · rw [x_J_sJ, if_neg (by omega), x_J_sB, j99, zs_s]
            unfold o45
            rw [if_neg q4, Int.add_zero]
  · refine ⟨Gx.refl .., fun m hm => ?_, eO _, eO _⟩
    rw [hW m hm]
    congr 1
    rw [if_neg (show ¬ (1 ≤ 0 ∧ m + 1 = k) by omega), if_neg (show ¬ (2 ≤ 0 ∧ m = k + 1) by omega), zs_0]
    split <;> omega
end RM
