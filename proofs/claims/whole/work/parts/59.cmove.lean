/-! THE CLASS'S HOUR, whole -/
section CM
variable {T : x_T} {w : x_W} {b n : Nat} {sup roo s : Nat → Int}
/-- what a wall's places hold after some flows have moved -/
def MV (b n : Nat) (hd : Nat → Int) (P N : Nat → Int) (w w' : x_W) (j : Nat) : Prop := (∀ k, k < n → x_I w' 20 (b + 5 + 2 * k) = Int32.ofInt (hd k - zs (so n k P N) j + zs (si n k P N) j)) ∧ (x_J w' 15 (b + 1) = x_J w 15 (b + 1) + Int64.ofInt (zs (so n n P N) j)) ∧ (x_J w' 16 (b + 1) = x_J w 16 (b + 1) + Int64.ofInt (zs (si n n P N) j)) ∧ (x_J w' 15 (b + 2) = x_J w 15 (b + 2) + Int64.ofInt (zs (so n (n + 1) P N) j)) ∧ (x_J w' 16 (b + 2) = x_J w 16 (b + 2) + Int64.ofInt (zs (si n (n + 1) P N) j))
theorem MV.h {b n : Nat} {hd : Nat → Int} {P N : Nat → Int} {w w' : x_W} {j : Nat} (S_ : MV b n hd P N w w' j) : ∀ k, k < n → x_I w' 20 (b + 5 + 2 * k) = Int32.ofInt (hd k - zs (so n k P N) j + zs (si n k P N) j) := S_.1
theorem MV.og {b n : Nat} {hd : Nat → Int} {P N : Nat → Int} {w w' : x_W} {j : Nat} (S_ : MV b n hd P N w w' j) : x_J w' 15 (b + 1) = x_J w 15 (b + 1) + Int64.ofInt (zs (so n n P N) j) := S_.2.1
theorem MV.oc {b n : Nat} {hd : Nat → Int} {P N : Nat → Int} {w w' : x_W} {j : Nat} (S_ : MV b n hd P N w w' j) : x_J w' 16 (b + 1) = x_J w 16 (b + 1) + Int64.ofInt (zs (si n n P N) j) := S_.2.2.1
theorem MV.ig {b n : Nat} {hd : Nat → Int} {P N : Nat → Int} {w w' : x_W} {j : Nat} (S_ : MV b n hd P N w w' j) : x_J w' 15 (b + 2) = x_J w 15 (b + 2) + Int64.ofInt (zs (so n (n + 1) P N) j) := S_.2.2.2.1
theorem MV.ic {b n : Nat} {hd : Nat → Int} {P N : Nat → Int} {w w' : x_W} {j : Nat} (S_ : MV b n hd P N w w' j) : x_J w' 16 (b + 2) = x_J w 16 (b + 2) + Int64.ofInt (zs (si n (n + 1) P N) j) := S_.2.2.2.2
theorem ph_ty (S : WS T w b n) {p : Nat} (hp : p < n + 2) : ((T (ph b n p)).map Prod.fst = some 1 ↔ n ≤ p) := by
  by_cases h : p < n
  · rw [ph_cell h, (S.c p h).1]; simp [wp_some, wp_bind, x_I_sI, x_J_sJ, x_R_sR, x_A_sA, x_B_sB, x_I_sJ, x_I_sR, x_I_sA, x_I_sB, x_J_sI, x_J_sR, x_J_sA, x_J_sB, x_R_sI, x_R_sJ, x_R_sA, x_R_sB, x_A_sI, x_A_sJ, x_A_sR, x_A_sB, x_B_sI, x_B_sJ, x_B_sR, x_B_sA, x_Q_sI, x_Q_sJ, x_Q_sR, x_Q_sA, x_Q_sB]; omega
  · by_cases h2 : p = n
    · rw [h2, ph_out, S.ta]; simp [wp_some, wp_bind, x_I_sI, x_J_sJ, x_R_sR, x_A_sA, x_B_sB, x_I_sJ, x_I_sR, x_I_sA, x_I_sB, x_J_sI, x_J_sR, x_J_sA, x_J_sB, x_R_sI, x_R_sJ, x_R_sA, x_R_sB, x_A_sI, x_A_sJ, x_A_sR, x_A_sB, x_B_sI, x_B_sJ, x_B_sR, x_B_sA, x_Q_sI, x_Q_sJ, x_Q_sR, x_Q_sA, x_Q_sB]
    · rw [show p = n + 1 by omega, ph_in, S.ti]; simp [wp_some, wp_bind, x_I_sI, x_J_sJ, x_R_sR, x_A_sA, x_B_sB, x_I_sJ, x_I_sR, x_I_sA, x_I_sB, x_J_sI, x_J_sR, x_J_sA, x_J_sB, x_R_sI, x_R_sJ, x_R_sA, x_R_sB, x_A_sI, x_A_sJ, x_A_sR, x_A_sB, x_B_sI, x_B_sJ, x_B_sR, x_B_sA, x_Q_sI, x_Q_sJ, x_Q_sR, x_Q_sA, x_Q_sB]
/-- what a place gives -/
theorem c_give (S : WS T w b n) {p : Nat} (hp : p < n + 2) (v : Int) (hv : 0 ≤ v) (hv2 : v ≤ 110000) : ∃ w', (if (T (ph b n p)).map Prod.fst = some 1 then f_Air_give T w (ph b n p) (Int32.ofInt v) else (x_is T (ph b n p) 2).bind fun _ => f_Cell_give T w (ph b n p) (Int32.ofInt v)) = some w' ∧ Fx b (b + 9 + 3 * n) [20] [15] [] w w' ∧ (∀ k, k < n → x_I w' 20 (b + 5 + 2 * k) = if p = k then x_I w 20 (b + 5 + 2 * k) - Int32.ofInt v else x_I w 20 (b + 5 + 2 * k)) ∧ (x_J w' 15 (b + 1) = if p = n then x_J w 15 (b + 1) + Int64.ofInt v else x_J w 15 (b + 1)) ∧ (x_J w' 15 (b + 2) = if p = n + 1 then x_J w 15 (b + 2) + Int64.ofInt v else x_J w 15 (b + 2)) := by
  by_cases h : p < n
  · refine ⟨x_sI w 20 (b + 5 + 2 * p) (x_I w 20 (b + 5 + 2 * p) - Int32.ofInt v), ?_, (Fx.refl _ _ _ _ _ w).sI (by decide) (by omega) (by omega), fun k hk => ?_, ?_, ?_⟩
    · rw [if_neg (by rw [ph_ty S hp]; omega), ph_cell h]
      unfold f_Cell_give
      simp only [t_is (S.c p h).1, Option.bind_some]
    · rw [x_I_sI]
      by_cases e : p = k
      · subst e; simp [wp_some, wp_bind, x_I_sI, x_J_sJ, x_R_sR, x_A_sA, x_B_sB, x_I_sJ, x_I_sR, x_I_sA, x_I_sB, x_J_sI, x_J_sR, x_J_sA, x_J_sB, x_R_sI, x_R_sJ, x_R_sA, x_R_sB, x_A_sI, x_A_sJ, x_A_sR, x_A_sB, x_B_sI, x_B_sJ, x_B_sR, x_B_sA, x_Q_sI, x_Q_sJ, x_Q_sR, x_Q_sA, x_Q_sB]
      · rw [if_neg (by omega), if_neg e]
    · rw [if_neg (by omega)]; rfl
    · rw [if_neg (by omega)]; rfl
  · by_cases h2 : p = n
    · subst h2
      refine ⟨x_sJ w 15 (b + 1) (x_J w 15 (b + 1) + Int64.ofInt v), ?_, (Fx.refl _ _ _ _ _ w).sJ (by decide) (by omega) (by omega), fun k hk => ?_, ?_, ?_⟩
      · rw [if_pos (by rw [ph_ty S hp]; omega), ph_out]
        unfold f_Air_give
        simp only [t_is S.ta, Option.bind_some, z_64 (v := v) (by omega) (by omega)]
      · rw [if_neg (by omega)]; rfl
      · simp [wp_some, wp_bind, x_I_sI, x_J_sJ, x_R_sR, x_A_sA, x_B_sB, x_I_sJ, x_I_sR, x_I_sA, x_I_sB, x_J_sI, x_J_sR, x_J_sA, x_J_sB, x_R_sI, x_R_sJ, x_R_sA, x_R_sB, x_A_sI, x_A_sJ, x_A_sR, x_A_sB, x_B_sI, x_B_sJ, x_B_sR, x_B_sA, x_Q_sI, x_Q_sJ, x_Q_sR, x_Q_sA, x_Q_sB]
      · rw [if_neg (by omega), x_J_sJ, if_neg (by omega)]
    · have h3 : p = n + 1 := by omega
      subst h3
      refine ⟨x_sJ w 15 (b + 2) (x_J w 15 (b + 2) + Int64.ofInt v), ?_, (Fx.refl _ _ _ _ _ w).sJ (by decide) (by omega) (by omega), fun k hk => ?_, ?_, ?_⟩
      · rw [if_pos (by rw [ph_ty S hp]; omega), ph_in]
        unfold f_Air_give
        simp only [t_is S.ti, Option.bind_some, z_64 (v := v) (by omega) (by omega)]
      · rw [if_neg (by omega)]; rfl
      · rw [if_neg (by omega), x_J_sJ, if_neg (by omega)]
      · simp [wp_some, wp_bind, x_I_sI, x_J_sJ, x_R_sR, x_A_sA, x_B_sB, x_I_sJ, x_I_sR, x_I_sA, x_I_sB, x_J_sI, x_J_sR, x_J_sA, x_J_sB, x_R_sI, x_R_sJ, x_R_sA, x_R_sB, x_A_sI, x_A_sJ, x_A_sR, x_A_sB, x_B_sI, x_B_sJ, x_B_sR, x_B_sA, x_Q_sI, x_Q_sJ, x_Q_sR, x_Q_sA, x_Q_sB]
theorem c_take (S : WS T w b n) {p : Nat} (hp : p < n + 2) (v : Int) (hv : 0 ≤ v) (hv2 : v ≤ 110000) : ∃ w', (if (T (ph b n p)).map Prod.fst = some 1 then f_Air_take T w (ph b n p) (Int32.ofInt v) else (x_is T (ph b n p) 2).bind fun _ => f_Cell_take T w (ph b n p) (Int32.ofInt v)) = some w' ∧ Fx b (b + 9 + 3 * n) [20] [16] [] w w' ∧ (∀ k, k < n → x_I w' 20 (b + 5 + 2 * k) = if p = k then x_I w 20 (b + 5 + 2 * k) + Int32.ofInt v else x_I w 20 (b + 5 + 2 * k)) ∧ (x_J w' 16 (b + 1) = if p = n then x_J w 16 (b + 1) + Int64.ofInt v else x_J w 16 (b + 1)) ∧ (x_J w' 16 (b + 2) = if p = n + 1 then x_J w 16 (b + 2) + Int64.ofInt v else x_J w 16 (b + 2)) := by
  by_cases h : p < n
  · refine ⟨x_sI w 20 (b + 5 + 2 * p) (x_I w 20 (b + 5 + 2 * p) + Int32.ofInt v), ?_, (Fx.refl _ _ _ _ _ w).sI (by decide) (by omega) (by omega), fun k hk => ?_, ?_, ?_⟩
    · rw [if_neg (by rw [ph_ty S hp]; omega), ph_cell h]
      unfold f_Cell_take
      simp only [t_is (S.c p h).1, Option.bind_some]
    · rw [x_I_sI]
      by_cases e : p = k
      · subst e; simp [wp_some, wp_bind, x_I_sI, x_J_sJ, x_R_sR, x_A_sA, x_B_sB, x_I_sJ, x_I_sR, x_I_sA, x_I_sB, x_J_sI, x_J_sR, x_J_sA, x_J_sB, x_R_sI, x_R_sJ, x_R_sA, x_R_sB, x_A_sI, x_A_sJ, x_A_sR, x_A_sB, x_B_sI, x_B_sJ, x_B_sR, x_B_sA, x_Q_sI, x_Q_sJ, x_Q_sR, x_Q_sA, x_Q_sB]
      · rw [if_neg (by omega), if_neg e]
    · rw [if_neg (by omega)]; rfl
    · rw [if_neg (by omega)]; rfl
  · by_cases h2 : p = n
    · subst h2
      refine ⟨x_sJ w 16 (b + 1) (x_J w 16 (b + 1) + Int64.ofInt v), ?_, (Fx.refl _ _ _ _ _ w).sJ (by decide) (by omega) (by omega), fun k hk => ?_, ?_, ?_⟩
      · rw [if_pos (by rw [ph_ty S hp]; omega), ph_out]
        unfold f_Air_take
        simp only [t_is S.ta, Option.bind_some, z_64 (v := v) (by omega) (by omega)]
      · rw [if_neg (by omega)]; rfl
      · simp [wp_some, wp_bind, x_I_sI, x_J_sJ, x_R_sR, x_A_sA, x_B_sB, x_I_sJ, x_I_sR, x_I_sA, x_I_sB, x_J_sI, x_J_sR, x_J_sA, x_J_sB, x_R_sI, x_R_sJ, x_R_sA, x_R_sB, x_A_sI, x_A_sJ, x_A_sR, x_A_sB, x_B_sI, x_B_sJ, x_B_sR, x_B_sA, x_Q_sI, x_Q_sJ, x_Q_sR, x_Q_sA, x_Q_sB]
      · rw [if_neg (by omega), x_J_sJ, if_neg (by omega)]
    · have h3 : p = n + 1 := by omega
      subst h3
      refine ⟨x_sJ w 16 (b + 2) (x_J w 16 (b + 2) + Int64.ofInt v), ?_, (Fx.refl _ _ _ _ _ w).sJ (by decide) (by omega) (by omega), fun k hk => ?_, ?_, ?_⟩
      · rw [if_pos (by rw [ph_ty S hp]; omega), ph_in]
        unfold f_Air_take
        simp only [t_is S.ti, Option.bind_some, z_64 (v := v) (by omega) (by omega)]
      · rw [if_neg (by omega)]; rfl
      · rw [if_neg (by omega), x_J_sJ, if_neg (by omega)]
      · simp [wp_some, wp_bind, x_I_sI, x_J_sJ, x_R_sR, x_A_sA, x_B_sB, x_I_sJ, x_I_sR, x_I_sA, x_I_sB, x_J_sI, x_J_sR, x_J_sA, x_J_sB, x_R_sI, x_R_sJ, x_R_sA, x_R_sB, x_A_sI, x_A_sJ, x_A_sR, x_A_sB, x_B_sI, x_B_sJ, x_B_sR, x_B_sA, x_Q_sI, x_Q_sJ, x_Q_sR, x_Q_sA, x_Q_sB]
theorem move_eq (T : x_T) (w : x_W) (l0 : Nat) : f_Flow_move T w l0 = (x_is T l0 4).bind fun _ => (x_R w 31 l0).bind fun a4 => (if (T a4).map Prod.fst = some 1 then f_Air_give T w a4 (x_I w 33 l0) else (x_is T a4 2).bind fun _ => f_Cell_give T w a4 (x_I w 33 l0)).bind fun q => (x_R q 32 l0).bind fun a14 => (if (T a14).map Prod.fst = some 1 then f_Air_take T q a14 (x_I q 33 l0) else (x_is T a14 2).bind fun _ => f_Cell_take T q a14 (x_I q 33 l0)) := by
  unfold f_Flow_move
  have e : ∀ o : Option x_W, (o.bind fun q => some q) = o := fun o => by cases o <;> rfl
  simp only [e]
  congr 1
  funext _
  congr 1
  funext a4
  by_cases h : (T a4).map Prod.fst = some 1
  · rw [if_pos h, if_pos h]
  · rw [if_neg h, if_neg h]
    cases x_is T a4 2 <;> rfl
theorem c_moves (S : WS T w b n) (F : FB n sup roo s) (D : FR w b n s) {hd : Nat → Int} (hm : ∀ f, f < 2 * n + 2 → x_I w 33 (fh b n f) = Int32.ofInt (P2 n sup roo s f + N2 n sup roo s f)) (hh : ∀ k, k < n → x_I w 20 (b + 5 + 2 * k) = Int32.ofInt (hd k)) :
    wp (f_Wall_moveWater_145 T 1000 w (b + 8 + 3 * n) (nI (2 * n + 2)) 0) (fun w' => Fx b (b + 9 + 3 * n) [20] [15, 16] [] w w' ∧ MV b n hd (P2 n sup roo s) (N2 n sup roo s) w w' (2 * n + 2)) := by
  have n12 := S.n12
  have n1 := S.n1
  have eO : ∀ x : Int64, x = x + Int64.ofInt 0 := fun x => by rw [← z_O x, z_Add, Int.add_zero]
  refine loop_up (N := 2 * n + 2) (by omega) (fun fuel w' i => f_Wall_moveWater_145 T fuel w' (b + 8 + 3 * n) (nI (2 * n + 2)) i) (fun j w' => Fx b (b + 9 + 3 * n) [20] [15, 16] [] w w' ∧ MV b n hd (P2 n sup roo s) (N2 n sup roo s) w w' j) _ ?_ ?_ w ⟨Fx.refl .., ⟨fun k hk => by rw [hh k hk]; simp [wp_some, wp_bind, x_I_sI, x_J_sJ, x_R_sR, x_A_sA, x_B_sB, x_I_sJ, x_I_sR, x_I_sA, x_I_sB, x_J_sI, x_J_sR, x_J_sA, x_J_sB, x_R_sI, x_R_sJ, x_R_sA, x_R_sB, x_A_sI, x_A_sJ, x_A_sR, x_A_sB, x_B_sI, x_B_sJ, x_B_sR, x_B_sA, x_Q_sI, x_Q_sJ, x_Q_sR, x_Q_sA, x_Q_sB, zs], eO _, eO _, eO _, eO _⟩⟩
  · intro i w' fuel hi ⟨X, M⟩
    obtain ⟨t1, t2, t3, t4⟩ := S.f i hi
    have S' := X.ws S
    have hfr := fr_lt (s := s) n1 hi
    have htt := tt_lt (s := s) n1 hi
    have b1 := F.p1 i hi
    have b2 := F.q1 i hi
    have b3 := F.p0 i hi
    have b4 := F.q0 i hi
    have b5 := F.p2 i hi
    have b6 := F.q2 i hi
    have hsum : P2 n sup roo s i + N2 n sup roo s i ≤ 110000 := by
      by_cases h : 0 ≤ s i
      · have := N2_0 (n := n) (sup := sup) (roo := roo) h; omega
      · have := P2_0 (n := n) (sup := sup) (roo := roo) h; omega
    obtain ⟨w1, e1, X1, v1, v2, v3⟩ := c_give S' hfr (P2 n sup roo s i + N2 n sup roo s i) (by omega) hsum
    have S1 := X1.ws S'
    obtain ⟨w2, e2, X2, u1, u2, u3⟩ := c_take S1 htt (P2 n sup roo s i + N2 n sup roo s i) (by omega) hsum
    have dso : ∀ p, so n p (P2 n sup roo s) (N2 n sup roo s) i = if fr n s i = p then P2 n sup roo s i + N2 n sup roo s i else 0 := fun p => so_dir (s := s) (fun h => N2_0 h) (fun h => P2_0 h)
    have dsi : ∀ p, si n p (P2 n sup roo s) (N2 n sup roo s) i = if tt n s i = p then P2 n sup roo s i + N2 n sup roo s i else 0 := fun p => si_dir (s := s) (fun h => N2_0 h) (fun h => P2_0 h)
    refine ⟨w2, ⟨(X.trans (X1.mono (by decide) (by decide) (by decide))).trans (X2.mono (by decide) (by decide) (by decide)), ⟨fun k hk => ?_, ?_, ?_, ?_, ?_⟩⟩, ?_⟩
    · rw [u1 k hk, v1 k hk, M.h k hk, zs_s, zs_s, dso, dsi]
      by_cases q1 : fr n s i = k
      · by_cases q2 : tt n s i = k
        · rw [if_pos q1, if_pos q1, if_pos q2, if_pos q2, z_sub, z_add]; congr 1; omega
        · rw [if_pos q1, if_pos q1, if_neg q2, if_neg q2, z_sub]; congr 1; omega
      · by_cases q2 : tt n s i = k
        · rw [if_neg q1, if_neg q1, if_pos q2, if_pos q2, z_add]; congr 1; omega
        · rw [if_neg q1, if_neg q1, if_neg q2, if_neg q2]; congr 1; omega
    · rw [X2.J 15 _ (Or.inl (by decide)), v2, M.og, zs_s, dso]
      by_cases q1 : fr n s i = n
      · rw [if_pos q1, if_pos q1, Int64.add_assoc, z_Add]
      · rw [if_neg q1, if_neg q1, Int.add_zero]
    · rw [u2, X1.J 16 _ (Or.inl (by decide)), M.oc, zs_s, dsi]
      by_cases q1 : tt n s i = n
      · rw [if_pos q1, if_pos q1, Int64.add_assoc, z_Add]
      · rw [if_neg q1, if_neg q1, Int.add_zero]
    · rw [X2.J 15 _ (Or.inl (by decide)), v3, M.ig, zs_s, dso]
      by_cases q1 : fr n s i = n + 1
      · rw [if_pos q1, if_pos q1, Int64.add_assoc, z_Add]
      · rw [if_neg q1, if_neg q1, Int.add_zero]
    · rw [u3, X1.J 16 _ (Or.inl (by decide)), M.ic, zs_s, dsi]
      by_cases q1 : tt n s i = n + 1
      · rw [if_pos q1, if_pos q1, Int64.add_assoc, z_Add]
      · rw [if_neg q1, if_neg q1, Int.add_zero]
    · show f_Wall_moveWater_145 T (fuel + 1) w' _ _ _ = f_Wall_moveWater_145 T fuel _ _ _ _
      rw [f_Wall_moveWater_145, if_neg (by rw [nI_leS (by omega) (by omega)]; omega), t_ixn S.tf hi (by omega), nI_clampS (by omega), X.Q, t2]
      simp only [Option.bind_some, t_is t1, move_eq, X.R 31 (fh b n i) (Or.inl (by decide)), (D i hi).1, X.I 33 (fh b n i) (Or.inl (by decide)), hm i hi]
      rw [e1]
      simp only [Option.bind_some, X1.R 32 (fh b n i) (Or.inl (by decide)), X.R 32 (fh b n i) (Or.inl (by decide)), (D i hi).2, X1.I 33 (fh b n i) (Or.inl (by decide)), X.I 33 (fh b n i) (Or.inl (by decide)), hm i hi]
      rw [e2, nI_inc]
      rfl
  · intro w' fuel hI
    show wp (f_Wall_moveWater_145 T (fuel + 1) w' _ _ _) _
    rw [f_Wall_moveWater_145, if_pos (by rw [nI_leS (by omega) (by omega)]; omega), wp_some]
    exact hI
end CM
