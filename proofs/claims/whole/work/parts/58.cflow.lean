/-! THE CLASS'S FLOWS -/
def FV (w : x_W) (b n f : Nat) (s : Int) (m : Int) : Prop := x_R w 31 (fh b n f) = some (ph b n (if 0 ≤ s then op n f else ip n f)) ∧ x_R w 32 (fh b n f) = some (ph b n (if 0 ≤ s then ip n f else op n f)) ∧ x_I w 33 (fh b n f) = Int32.ofInt m
section CF
variable {T : x_T} {w : x_W} {b n : Nat}
theorem c_fix (S : WS T w b n) {p : Nat} (hp : p < n + 2) (v1 v2 v3 v4 : Int32) : ∃ w', f_Place_fixHour T w (ph b n p) v1 v2 v3 v4 = some w' ∧ Fx b (b + 9 + 3 * n) [1, 2, 3, 4, 5, 6] [] [] w w' ∧ (x_I w' 1 (ph b n p) = v1 ∧ x_I w' 2 (ph b n p) = v2 ∧ x_I w' 3 (ph b n p) = v3 ∧ x_I w' 4 (ph b n p) = v4 ∧ x_I w' 5 (ph b n p) = 0 ∧ x_I w' 6 (ph b n p) = 0) ∧ ∀ h, h ≠ ph b n p → ∀ k, x_I w' k h = x_I w k h := by
  have hr := ph_r (b := b) hp
  refine ⟨x_sI (x_sI (x_sI (x_sI (x_sI (x_sI w 1 (ph b n p) v1) 2 (ph b n p) v2) 3 (ph b n p) v3) 4 (ph b n p) v4) 5 (ph b n p) 0) 6 (ph b n p) 0, ?_, ?_, ?_, ?_⟩
  · unfold f_Place_fixHour
    rw [S.pl hp]
    rfl
  · exact ((((((Fx.refl _ _ _ _ _ w).sI (by decide) hr.1 hr.2).sI (by decide) hr.1 hr.2).sI (by decide) hr.1 hr.2).sI (by decide) hr.1 hr.2).sI (by decide) hr.1 hr.2).sI (by decide) hr.1 hr.2
  · simp [wp_some, wp_bind, x_I_sI, x_J_sJ, x_R_sR, x_A_sA, x_B_sB, x_I_sJ, x_I_sR, x_I_sA, x_I_sB, x_J_sI, x_J_sR, x_J_sA, x_J_sB, x_R_sI, x_R_sJ, x_R_sA, x_R_sB, x_A_sI, x_A_sJ, x_A_sR, x_A_sB, x_B_sI, x_B_sJ, x_B_sR, x_B_sA, x_Q_sI, x_Q_sJ, x_Q_sR, x_Q_sA, x_Q_sB]
  · intro h hh k
    simp [wp_some, wp_bind, x_I_sI, x_J_sJ, x_R_sR, x_A_sA, x_B_sB, x_I_sJ, x_I_sR, x_I_sA, x_I_sB, x_J_sI, x_J_sR, x_J_sA, x_J_sB, x_R_sI, x_R_sJ, x_R_sA, x_R_sB, x_A_sI, x_A_sJ, x_A_sR, x_A_sB, x_B_sI, x_B_sJ, x_B_sR, x_B_sA, x_Q_sI, x_Q_sJ, x_Q_sR, x_Q_sA, x_Q_sB, hh]
theorem c_set (S : WS T w b n) {f : Nat} (hf : f < 2 * n + 2) {s : Int} (h1 : -110000 ≤ s) (h2 : s ≤ 110000) : ∃ w', f_Flow_setInward T w (fh b n f) (Int32.ofInt s) = some w' ∧ Fx b (b + 9 + 3 * n) [33] [] [31, 32] w w' ∧ FV w' b n f s (if 0 ≤ s then s else - s) ∧ ∀ g, g < 2 * n + 2 → g ≠ f → ∀ s' m, FV w b n g s' m → FV w' b n g s' m := by
  have n1 := S.n1
  have hr := fh_r (b := b) hf
  obtain ⟨t1, t2, t3, t4⟩ := S.f f hf
  have hop := op_lt n f n1 hf
  have hip := ip_lt n f n1 hf
  unfold f_Flow_setInward f_Flow_setInward_50
  by_cases h : 0 ≤ s
  · refine ⟨x_sI (x_sR (x_sR w 31 (fh b n f) (some (ph b n (op n f)))) 32 (fh b n f) (some (ph b n (ip n f)))) 33 (fh b n f) (Int32.ofInt s), ?_, (((Fx.refl _ _ _ _ _ w).sR (by decide) hr.1 hr.2).sR (by decide) hr.1 hr.2).sI (by decide) hr.1 hr.2, ?_, ?_⟩
    · rw [if_neg (by rw [z_lt, z_t (by omega) (by omega)]; show ¬ s < 0; omega)]
      simp [wp_some, wp_bind, x_I_sI, x_J_sJ, x_R_sR, x_A_sA, x_B_sB, x_I_sJ, x_I_sR, x_I_sA, x_I_sB, x_J_sI, x_J_sR, x_J_sA, x_J_sB, x_R_sI, x_R_sJ, x_R_sA, x_R_sB, x_A_sI, x_A_sJ, x_A_sR, x_A_sB, x_B_sI, x_B_sJ, x_B_sR, x_B_sA, x_Q_sI, x_Q_sJ, x_Q_sR, x_Q_sA, x_Q_sB, t_is t1, t3, t4, S.ex hop, S.ex hip]
    · unfold FV
      simp [wp_some, wp_bind, x_I_sI, x_J_sJ, x_R_sR, x_A_sA, x_B_sB, x_I_sJ, x_I_sR, x_I_sA, x_I_sB, x_J_sI, x_J_sR, x_J_sA, x_J_sB, x_R_sI, x_R_sJ, x_R_sA, x_R_sB, x_A_sI, x_A_sJ, x_A_sR, x_A_sB, x_B_sI, x_B_sJ, x_B_sR, x_B_sA, x_Q_sI, x_Q_sJ, x_Q_sR, x_Q_sA, x_Q_sB, h]
    · intro g hg hne s' m hv
      have : fh b n g ≠ fh b n f := fun q => hne ((fh_inj hg hf).mp q)
      unfold FV at hv ⊢
      simpa [wp_some, wp_bind, x_I_sI, x_J_sJ, x_R_sR, x_A_sA, x_B_sB, x_I_sJ, x_I_sR, x_I_sA, x_I_sB, x_J_sI, x_J_sR, x_J_sA, x_J_sB, x_R_sI, x_R_sJ, x_R_sA, x_R_sB, x_A_sI, x_A_sJ, x_A_sR, x_A_sB, x_B_sI, x_B_sJ, x_B_sR, x_B_sA, x_Q_sI, x_Q_sJ, x_Q_sR, x_Q_sA, x_Q_sB, this] using hv
  · refine ⟨x_sI (x_sR (x_sR w 31 (fh b n f) (some (ph b n (ip n f)))) 32 (fh b n f) (some (ph b n (op n f)))) 33 (fh b n f) (Int32.ofInt (-s)), ?_, (((Fx.refl _ _ _ _ _ w).sR (by decide) hr.1 hr.2).sR (by decide) hr.1 hr.2).sI (by decide) hr.1 hr.2, ?_, ?_⟩
    · rw [if_pos (by rw [z_lt, z_t (by omega) (by omega)]; show s < 0; omega)]
      simp [wp_some, wp_bind, x_I_sI, x_J_sJ, x_R_sR, x_A_sA, x_B_sB, x_I_sJ, x_I_sR, x_I_sA, x_I_sB, x_J_sI, x_J_sR, x_J_sA, x_J_sB, x_R_sI, x_R_sJ, x_R_sA, x_R_sB, x_A_sI, x_A_sJ, x_A_sR, x_A_sB, x_B_sI, x_B_sJ, x_B_sR, x_B_sA, x_Q_sI, x_Q_sJ, x_Q_sR, x_Q_sA, x_Q_sB, t_is t1, t3, t4, S.ex hop, S.ex hip]
    · unfold FV
      simp [wp_some, wp_bind, x_I_sI, x_J_sJ, x_R_sR, x_A_sA, x_B_sB, x_I_sJ, x_I_sR, x_I_sA, x_I_sB, x_J_sI, x_J_sR, x_J_sA, x_J_sB, x_R_sI, x_R_sJ, x_R_sA, x_R_sB, x_A_sI, x_A_sJ, x_A_sR, x_A_sB, x_B_sI, x_B_sJ, x_B_sR, x_B_sA, x_Q_sI, x_Q_sJ, x_Q_sR, x_Q_sA, x_Q_sB, h]
    · intro g hg hne s' m hv
      have : fh b n g ≠ fh b n f := fun q => hne ((fh_inj hg hf).mp q)
      unfold FV at hv ⊢
      simpa [wp_some, wp_bind, x_I_sI, x_J_sJ, x_R_sR, x_A_sA, x_B_sB, x_I_sJ, x_I_sR, x_I_sA, x_I_sB, x_J_sI, x_J_sR, x_J_sA, x_J_sB, x_R_sI, x_R_sJ, x_R_sA, x_R_sB, x_A_sI, x_A_sJ, x_A_sR, x_A_sB, x_B_sI, x_B_sJ, x_B_sR, x_B_sA, x_Q_sI, x_Q_sJ, x_Q_sR, x_Q_sA, x_Q_sB, this] using hv
theorem c_portion {f : Nat} (t : T (fh b n f) = some (4, 0)) {a l m : Int} (hv : x_I w 33 (fh b n f) = Int32.ofInt m) (ha : 0 ≤ a) (ha2 : a ≤ 6000000) (hl : 0 ≤ l) (hl2 : l ≤ 1000000000) (hm : 0 ≤ m) (hm2 : m ≤ 110000) : f_Flow_portion T w (fh b n f) (Int32.ofInt a) (Int32.ofInt l) = some (Int32.ofInt (lm a l m)) := by
  unfold f_Flow_portion f_Flow_portion_9 lm
  rw [hv]
  by_cases h : l < a
  · have hb := z_mb hm hm2 hl hl2
    rw [if_neg (by rw [z_le, z_t (by omega) (by omega), z_t (by omega) (by omega)]; omega), if_pos (by rw [z_lt, z_t (by omega) (by omega)]; show 0 < a; omega), if_pos h, t_is t, z_64 (by omega) (by omega), z_64 (by omega) (by omega), z_64 (by omega) (by omega), x_nzl_ok (by rw [z_T (by omega) (by omega)]; omega), z_Mul, z_Div (by omega) (by omega) (by omega) (by omega), z_32, Int.tdiv_eq_ediv_of_nonneg hb.1]
    rfl
  · rw [if_pos (by rw [z_le, z_t (by omega) (by omega), z_t (by omega) (by omega)]; omega), if_neg h, t_is t]
    rfl
end CF
section CL
variable {T : x_T} {w : x_W} {b n : Nat} {sup roo s : Nat → Int}
theorem mdir (P N : Nat → Int) (f : Nat) (h1 : 0 ≤ s f → N f = 0) (h2 : ¬ 0 ≤ s f → P f = 0) : P f + N f = if 0 ≤ s f then P f else N f := by
  by_cases h : 0 ≤ s f
  · rw [if_pos h, h1 h]; omega
  · rw [if_neg h, h2 h]; omega
theorem fN_0 {f : Nat} (h : 0 ≤ s f) : fN s f = 0 := if_pos h
theorem fP_0 {f : Nat} (h : ¬ 0 ≤ s f) : fP s f = 0 := if_neg h
theorem N1_0 {f : Nat} (h : 0 ≤ s f) : N1 n sup s f = 0 := by unfold N1; rw [fN_0 h, lm_0]
theorem P1_0 {f : Nat} (h : ¬ 0 ≤ s f) : P1 n sup s f = 0 := by unfold P1; rw [fP_0 h, lm_0]
theorem N2_0 {f : Nat} (h : 0 ≤ s f) : N2 n sup roo s f = 0 := by unfold N2; rw [N1_0 h, lm_0]
theorem P2_0 {f : Nat} (h : ¬ 0 ≤ s f) : P2 n sup roo s f = 0 := by unfold P2; rw [P1_0 h, lm_0]
def so (n p : Nat) (P N : Nat → Int) (f : Nat) : Int := (if op n f = p then P f else 0) + (if ip n f = p then N f else 0)
def si (n p : Nat) (P N : Nat → Int) (f : Nat) : Int := (if ip n f = p then P f else 0) + (if op n f = p then N f else 0)
/-- where a flow leaves, and comes to -/
def fr (n : Nat) (s : Nat → Int) (f : Nat) : Nat := if 0 ≤ s f then op n f else ip n f
def tt (n : Nat) (s : Nat → Int) (f : Nat) : Nat := if 0 ≤ s f then ip n f else op n f
theorem so_dir {P N : Nat → Int} {f p : Nat} (h1 : 0 ≤ s f → N f = 0) (h2 : ¬ 0 ≤ s f → P f = 0) : so n p P N f = if fr n s f = p then P f + N f else 0 := by
  unfold so fr
  by_cases h : 0 ≤ s f
  · rw [if_pos h, h1 h]; simp [wp_some, wp_bind, x_I_sI, x_J_sJ, x_R_sR, x_A_sA, x_B_sB, x_I_sJ, x_I_sR, x_I_sA, x_I_sB, x_J_sI, x_J_sR, x_J_sA, x_J_sB, x_R_sI, x_R_sJ, x_R_sA, x_R_sB, x_A_sI, x_A_sJ, x_A_sR, x_A_sB, x_B_sI, x_B_sJ, x_B_sR, x_B_sA, x_Q_sI, x_Q_sJ, x_Q_sR, x_Q_sA, x_Q_sB]
  · rw [if_neg h, h2 h]; simp [wp_some, wp_bind, x_I_sI, x_J_sJ, x_R_sR, x_A_sA, x_B_sB, x_I_sJ, x_I_sR, x_I_sA, x_I_sB, x_J_sI, x_J_sR, x_J_sA, x_J_sB, x_R_sI, x_R_sJ, x_R_sA, x_R_sB, x_A_sI, x_A_sJ, x_A_sR, x_A_sB, x_B_sI, x_B_sJ, x_B_sR, x_B_sA, x_Q_sI, x_Q_sJ, x_Q_sR, x_Q_sA, x_Q_sB]
theorem si_dir {P N : Nat → Int} {f p : Nat} (h1 : 0 ≤ s f → N f = 0) (h2 : ¬ 0 ≤ s f → P f = 0) : si n p P N f = if tt n s f = p then P f + N f else 0 := by
  unfold si tt
  by_cases h : 0 ≤ s f
  · rw [if_pos h, h1 h]; simp [wp_some, wp_bind, x_I_sI, x_J_sJ, x_R_sR, x_A_sA, x_B_sB, x_I_sJ, x_I_sR, x_I_sA, x_I_sB, x_J_sI, x_J_sR, x_J_sA, x_J_sB, x_R_sI, x_R_sJ, x_R_sA, x_R_sB, x_A_sI, x_A_sJ, x_A_sR, x_A_sB, x_B_sI, x_B_sJ, x_B_sR, x_B_sA, x_Q_sI, x_Q_sJ, x_Q_sR, x_Q_sA, x_Q_sB]
  · rw [if_neg h, h2 h]; simp [wp_some, wp_bind, x_I_sI, x_J_sJ, x_R_sR, x_A_sA, x_B_sB, x_I_sJ, x_I_sR, x_I_sA, x_I_sB, x_J_sI, x_J_sR, x_J_sA, x_J_sB, x_R_sI, x_R_sJ, x_R_sA, x_R_sB, x_A_sI, x_A_sJ, x_A_sR, x_A_sB, x_B_sI, x_B_sJ, x_B_sR, x_B_sA, x_Q_sI, x_Q_sJ, x_Q_sR, x_Q_sA, x_Q_sB]
theorem fr_lt (hn : 1 ≤ n) {f : Nat} (hf : f < 2 * n + 2) : fr n s f < n + 2 := by unfold fr; split; exact op_lt n f hn hf; exact ip_lt n f hn hf
theorem tt_lt (hn : 1 ≤ n) {f : Nat} (hf : f < 2 * n + 2) : tt n s f < n + 2 := by unfold tt; split; exact ip_lt n f hn hf; exact op_lt n f hn hf
theorem lim1_dir {f : Nat} : P1 n sup s f + N1 n sup s f = lm (SO n (fr n s f) (fP s) (fN s)) (sup (fr n s f)) (fP s f + fN s f) := by
  unfold fr
  by_cases h : 0 ≤ s f
  · rw [N1_0 h, fN_0 h, if_pos h]; unfold P1; simp [wp_some, wp_bind, x_I_sI, x_J_sJ, x_R_sR, x_A_sA, x_B_sB, x_I_sJ, x_I_sR, x_I_sA, x_I_sB, x_J_sI, x_J_sR, x_J_sA, x_J_sB, x_R_sI, x_R_sJ, x_R_sA, x_R_sB, x_A_sI, x_A_sJ, x_A_sR, x_A_sB, x_B_sI, x_B_sJ, x_B_sR, x_B_sA, x_Q_sI, x_Q_sJ, x_Q_sR, x_Q_sA, x_Q_sB]
  · rw [P1_0 h, fP_0 h, if_neg h]; unfold N1; simp [wp_some, wp_bind, x_I_sI, x_J_sJ, x_R_sR, x_A_sA, x_B_sB, x_I_sJ, x_I_sR, x_I_sA, x_I_sB, x_J_sI, x_J_sR, x_J_sA, x_J_sB, x_R_sI, x_R_sJ, x_R_sA, x_R_sB, x_A_sI, x_A_sJ, x_A_sR, x_A_sB, x_B_sI, x_B_sJ, x_B_sR, x_B_sA, x_Q_sI, x_Q_sJ, x_Q_sR, x_Q_sA, x_Q_sB]
theorem lim2_dir {f : Nat} : P2 n sup roo s f + N2 n sup roo s f = lm (SI n (tt n s f) (P1 n sup s) (N1 n sup s)) (roo (tt n s f)) (P1 n sup s f + N1 n sup s f) := by
  unfold tt
  by_cases h : 0 ≤ s f
  · rw [N2_0 h, N1_0 h, if_pos h]; unfold P2; simp [wp_some, wp_bind, x_I_sI, x_J_sJ, x_R_sR, x_A_sA, x_B_sB, x_I_sJ, x_I_sR, x_I_sA, x_I_sB, x_J_sI, x_J_sR, x_J_sA, x_J_sB, x_R_sI, x_R_sJ, x_R_sA, x_R_sB, x_A_sI, x_A_sJ, x_A_sR, x_A_sB, x_B_sI, x_B_sJ, x_B_sR, x_B_sA, x_Q_sI, x_Q_sJ, x_Q_sR, x_Q_sA, x_Q_sB]
  · rw [P2_0 h, P1_0 h, if_neg h]; unfold N2; simp [wp_some, wp_bind, x_I_sI, x_J_sJ, x_R_sR, x_A_sA, x_B_sB, x_I_sJ, x_I_sR, x_I_sA, x_I_sB, x_J_sI, x_J_sR, x_J_sA, x_J_sB, x_R_sI, x_R_sJ, x_R_sA, x_R_sB, x_A_sI, x_A_sJ, x_A_sR, x_A_sB, x_B_sI, x_B_sJ, x_B_sR, x_B_sA, x_Q_sI, x_Q_sJ, x_Q_sR, x_Q_sA, x_Q_sB]
def FR (w : x_W) (b n : Nat) (s : Nat → Int) : Prop := ∀ f, f < 2 * n + 2 → x_R w 31 (fh b n f) = some (ph b n (fr n s f)) ∧ x_R w 32 (fh b n f) = some (ph b n (tt n s f))
theorem c_lim3 (S : WS T w b n) (F : FB n sup roo s) (D : FR w b n s) (hm : ∀ f, f < 2 * n + 2 → x_I w 33 (fh b n f) = Int32.ofInt (P1 n sup s f + N1 n sup s f)) (h6 : ∀ p, p < n + 2 → x_I w 6 (ph b n p) = Int32.ofInt (SI n p (P1 n sup s) (N1 n sup s))) (h4 : ∀ p, p < n + 2 → x_I w 4 (ph b n p) = Int32.ofInt (roo p)) :
    wp (f_Wall_limitFlows_77 T 1000 w (b + 8 + 3 * n) (nI (2 * n + 2)) 0) (fun w' => Fx b (b + 9 + 3 * n) [33] [] [] w w' ∧ ∀ f, f < 2 * n + 2 → x_I w' 33 (fh b n f) = Int32.ofInt (P2 n sup roo s f + N2 n sup roo s f)) := by
  have n12 := S.n12
  have n1 := S.n1
  refine wp_mono (loop_up (N := 2 * n + 2) (by omega) (fun fuel w' i => f_Wall_limitFlows_77 T fuel w' (b + 8 + 3 * n) (nI (2 * n + 2)) i) (fun j w' => Fx b (b + 9 + 3 * n) [33] [] [] w w' ∧ ∀ f, f < 2 * n + 2 → x_I w' 33 (fh b n f) = if f < j then Int32.ofInt (P2 n sup roo s f + N2 n sup roo s f) else Int32.ofInt (P1 n sup s f + N1 n sup s f)) (fun w' => Fx b (b + 9 + 3 * n) [33] [] [] w w' ∧ ∀ f, f < 2 * n + 2 → x_I w' 33 (fh b n f) = if f < 2 * n + 2 then Int32.ofInt (P2 n sup roo s f + N2 n sup roo s f) else Int32.ofInt (P1 n sup s f + N1 n sup s f)) ?_ ?_ w ⟨Fx.refl .., fun f hf => by rw [if_neg (by omega)]; exact hm f hf⟩) (fun w' ⟨h1, h2⟩ => ⟨h1, fun f hf => by have := h2 f hf; rwa [if_pos hf] at this⟩)
  · intro i w' fuel hi ⟨X, hv⟩
    have hr := fh_r (b := b) hi
    obtain ⟨t1, t2, t3, t4⟩ := S.f i hi
    have ht := tt_lt (s := s) n1 hi
    refine ⟨x_sI w' 33 (fh b n i) (Int32.ofInt (P2 n sup roo s i + N2 n sup roo s i)), ⟨X.sI (by decide) hr.1 hr.2, fun f hf => ?_⟩, ?_⟩
    · rw [x_I_sI]
      by_cases e : f = i
      · rw [e, if_pos ⟨rfl, rfl⟩, if_pos (by omega)]
      · rw [if_neg (fun q => e ((fh_inj hf hi).mp q.2)), hv f hf]
        by_cases e2 : f < i
        · rw [if_pos e2, if_pos (by omega)]
        · rw [if_neg e2, if_neg (by omega)]
    · show f_Wall_limitFlows_77 T (fuel + 1) w' _ _ _ = f_Wall_limitFlows_77 T fuel _ _ _ _
      have hvi := hv i hi
      rw [if_neg (by omega)] at hvi
      have b1 := F.p1 i hi
      have b2 := F.q1 i hi
      have b3 := F.p0 i hi
      have b4 := F.q0 i hi
      have bs := F.si1 (tt n s i)
      have br := F.r _ ht
      have hsum : P1 n sup s i + N1 n sup s i ≤ 110000 := by
        by_cases h : 0 ≤ s i
        · have := N1_0 (n := n) (sup := sup) h; omega
        · have := P1_0 (n := n) (sup := sup) h; omega
      rw [f_Wall_limitFlows_77, if_neg (by rw [nI_leS (by omega) (by omega)]; omega), t_ixn S.tf hi (by omega), nI_clampS (by omega), X.Q, t2]
      unfold f_Flow_limitComing
      simp only [Option.bind_some, t_is t1, X.R 32 (fh b n i) (Or.inl (by decide)), (D i hi).2, S.pl ht, X.I 6 (ph b n (tt n s i)) (Or.inl (by decide)), X.I 4 (ph b n (tt n s i)) (Or.inl (by decide)), h6 _ ht, h4 _ ht]
      rw [c_portion t1 hvi bs.1 bs.2 br.1 br.2 (by omega) hsum, ← lim2_dir, nI_inc]
      rfl
  · intro w' fuel hI
    show wp (f_Wall_limitFlows_77 T (fuel + 1) w' _ _ _) _
    rw [f_Wall_limitFlows_77, if_pos (by rw [nI_leS (by omega) (by omega)]; omega), wp_some]
    exact hI
theorem c_lim2 (S : WS T w b n) (F : FB n sup roo s) (D : FR w b n s) (hm : ∀ f, f < 2 * n + 2 → x_I w 33 (fh b n f) = Int32.ofInt (fP s f + fN s f)) (h5 : ∀ p, p < n + 2 → x_I w 5 (ph b n p) = Int32.ofInt (SO n p (fP s) (fN s))) (h6 : ∀ p, p < n + 2 → x_I w 6 (ph b n p) = 0) (h3 : ∀ p, p < n + 2 → x_I w 3 (ph b n p) = Int32.ofInt (sup p)) (h4 : ∀ p, p < n + 2 → x_I w 4 (ph b n p) = Int32.ofInt (roo p)) :
    wp (f_Wall_limitFlows_41 T 1000 w b (b + 8 + 3 * n) (nI (2 * n + 2)) 0) (fun w' => Fx b (b + 9 + 3 * n) [6, 33] [] [] w w' ∧ ∀ f, f < 2 * n + 2 → x_I w' 33 (fh b n f) = Int32.ofInt (P2 n sup roo s f + N2 n sup roo s f)) := by
  have n12 := S.n12
  have n1 := S.n1
  refine loop_up (N := 2 * n + 2) (by omega) (fun fuel w' i => f_Wall_limitFlows_41 T fuel w' b (b + 8 + 3 * n) (nI (2 * n + 2)) i) (fun j w' => Fx b (b + 9 + 3 * n) [6, 33] [] [] w w' ∧ (∀ f, f < 2 * n + 2 → x_I w' 33 (fh b n f) = if f < j then Int32.ofInt (P1 n sup s f + N1 n sup s f) else Int32.ofInt (fP s f + fN s f)) ∧ ∀ p, p < n + 2 → x_I w' 6 (ph b n p) = Int32.ofInt (zs (si n p (P1 n sup s) (N1 n sup s)) j)) _ ?_ ?_ w ⟨Fx.refl .., fun f hf => by rw [if_neg (by omega)]; exact hm f hf, fun p hp => h6 p hp⟩
  · intro i w' fuel hi ⟨X, hv, h6'⟩
    have hr := fh_r (b := b) hi
    obtain ⟨t1, t2, t3, t4⟩ := S.f i hi
    have ht := tt_lt (s := s) n1 hi
    have hfr := fr_lt (s := s) n1 hi
    have hrt := ph_r (b := b) ht
    refine ⟨x_sI (x_sI w' 33 (fh b n i) (Int32.ofInt (P1 n sup s i + N1 n sup s i))) 6 (ph b n (tt n s i)) (Int32.ofInt (zs (si n (tt n s i) (P1 n sup s) (N1 n sup s)) i + (P1 n sup s i + N1 n sup s i))), ⟨(X.sI (by decide) hr.1 hr.2).sI (by decide) hrt.1 hrt.2, fun f hf => ?_, fun p hp => ?_⟩, ?_⟩
    · rw [x_I_sI, if_neg (by omega), x_I_sI]
      by_cases e : f = i
      · rw [e, if_pos ⟨rfl, rfl⟩, if_pos (by omega)]
      · rw [if_neg (fun q => e ((fh_inj hf hi).mp q.2)), hv f hf]
        by_cases e2 : f < i
        · rw [if_pos e2, if_pos (by omega)]
        · rw [if_neg e2, if_neg (by omega)]
    · rw [x_I_sI, zs_s, si_dir (s := s) (fun h => N1_0 h) (fun h => P1_0 h)]
      by_cases e : p = tt n s i
      · rw [e, if_pos ⟨rfl, rfl⟩, if_pos rfl]
      · rw [if_neg (fun q => e ((ph_inj hp ht).mp q.2)), if_neg (Ne.symm e), x_I_sI, if_neg (by omega), h6' p hp, Int.add_zero]
    · show f_Wall_limitFlows_41 T (fuel + 1) w' _ _ _ _ = f_Wall_limitFlows_41 T fuel _ _ _ _ _
      have hvi := hv i hi
      rw [if_neg (by omega)] at hvi
      have b3 := F.p0 i hi
      have b4 := F.q0 i hi
      have bs := F.so0 (fr n s i)
      have br := F.u _ hfr
      have hsum : fP s i + fN s i ≤ 110000 := by
        by_cases h : 0 ≤ s i
        · have := fN_0 h; omega
        · have := fP_0 h; omega
      rw [f_Wall_limitFlows_41, if_neg (by rw [nI_leS (by omega) (by omega)]; omega), t_ixn S.tf hi (by omega), nI_clampS (by omega), X.Q, t2]
      unfold f_Flow_limitLeaving f_Flow_countComing
      simp only [Option.bind_some, t_is t1, X.R 31 (fh b n i) (Or.inl (by decide)), (D i hi).1, S.pl hfr, X.I 5 (ph b n (fr n s i)) (Or.inl (by decide)), X.I 3 (ph b n (fr n s i)) (Or.inl (by decide)), h5 _ hfr, h3 _ hfr]
      rw [c_portion t1 hvi bs.1 bs.2 br.1 br.2 (by omega) hsum, ← lim1_dir, nI_inc]
      simp only [Option.bind_some, x_R_sI, X.R 32 (fh b n i) (Or.inl (by decide)), (D i hi).2, S.pl ht]
      rw [x_I_sI, if_neg (by omega), x_I_sI, if_pos ⟨rfl, rfl⟩, h6' _ ht, z_add]
  · intro w' fuel ⟨X, hv, h6'⟩
    show wp (f_Wall_limitFlows_41 T (fuel + 1) w' _ _ _ _) _
    have S' := X.ws S
    rw [f_Wall_limitFlows_41, if_pos (by rw [nI_leS (by omega) (by omega)]; omega), t_is S.t, S'.r63]
    simp only [Option.bind_some, t_len S.tf]
    refine wp_mono (c_lim3 (sup := sup) (roo := roo) (s := s) S' F (fun f hf => ⟨(X.R 31 _ (Or.inl (by decide))).trans (D f hf).1, (X.R 32 _ (Or.inl (by decide))).trans (D f hf).2⟩) (fun f hf => by have := hv f hf; rwa [if_pos hf] at this) (fun p hp => h6' p hp) (fun p hp => (X.I 4 _ (Or.inl (by decide))).trans (h4 p hp))) ?_
    intro w'' ⟨X2, h2⟩
    exact ⟨X.trans (X2.mono (by decide) (by decide) (by decide)), h2⟩
theorem c_lim (S : WS T w b n) (F : FB n sup roo s) (D : FR w b n s) (hm : ∀ f, f < 2 * n + 2 → x_I w 33 (fh b n f) = Int32.ofInt (fP s f + fN s f)) (h5 : ∀ p, p < n + 2 → x_I w 5 (ph b n p) = 0) (h6 : ∀ p, p < n + 2 → x_I w 6 (ph b n p) = 0) (h3 : ∀ p, p < n + 2 → x_I w 3 (ph b n p) = Int32.ofInt (sup p)) (h4 : ∀ p, p < n + 2 → x_I w 4 (ph b n p) = Int32.ofInt (roo p)) :
    wp (f_Wall_limitFlows T w b) (fun w' => Fx b (b + 9 + 3 * n) [5, 6, 33] [] [] w w' ∧ ∀ f, f < 2 * n + 2 → x_I w' 33 (fh b n f) = Int32.ofInt (P2 n sup roo s f + N2 n sup roo s f)) := by
  have n12 := S.n12
  have n1 := S.n1
  unfold f_Wall_limitFlows
  simp only [Option.bind_some, t_is S.t, S.r63, t_len S.tf]
  refine loop_up (N := 2 * n + 2) (by omega) (fun fuel w' i => f_Wall_limitFlows_10 T fuel w' b (b + 8 + 3 * n) (nI (2 * n + 2)) i) (fun j w' => Fx b (b + 9 + 3 * n) [5] [] [] w w' ∧ ∀ p, p < n + 2 → x_I w' 5 (ph b n p) = Int32.ofInt (zs (so n p (fP s) (fN s)) j)) _ ?_ ?_ w ⟨Fx.refl .., fun p hp => h5 p hp⟩
  · intro i w' fuel hi ⟨X, h5'⟩
    obtain ⟨t1, t2, t3, t4⟩ := S.f i hi
    have hfr := fr_lt (s := s) n1 hi
    have hrt := ph_r (b := b) hfr
    refine ⟨x_sI w' 5 (ph b n (fr n s i)) (Int32.ofInt (zs (so n (fr n s i) (fP s) (fN s)) i + (fP s i + fN s i))), ⟨X.sI (by decide) hrt.1 hrt.2, fun p hp => ?_⟩, ?_⟩
    · rw [x_I_sI, zs_s, so_dir (s := s) (fun h => fN_0 h) (fun h => fP_0 h)]
      by_cases e : p = fr n s i
      · rw [e, if_pos ⟨rfl, rfl⟩, if_pos rfl]
      · rw [if_neg (fun q => e ((ph_inj hp hfr).mp q.2)), if_neg (Ne.symm e), h5' p hp, Int.add_zero]
    · show f_Wall_limitFlows_10 T (fuel + 1) w' _ _ _ _ = f_Wall_limitFlows_10 T fuel _ _ _ _ _
      rw [f_Wall_limitFlows_10, if_neg (by rw [nI_leS (by omega) (by omega)]; omega), t_ixn S.tf hi (by omega), nI_clampS (by omega), X.Q, t2]
      unfold f_Flow_countLeaving
      simp only [Option.bind_some, t_is t1, X.R 31 (fh b n i) (Or.inl (by decide)), (D i hi).1, S.pl hfr, X.I 33 (fh b n i) (Or.inl (by decide)), hm i hi, h5' _ hfr, z_add, nI_inc]
  · intro w' fuel ⟨X, h5'⟩
    show wp (f_Wall_limitFlows_10 T (fuel + 1) w' _ _ _ _) _
    have S' := X.ws S
    rw [f_Wall_limitFlows_10, if_pos (by rw [nI_leS (by omega) (by omega)]; omega), t_is S.t, S'.r63]
    simp only [Option.bind_some, t_len S.tf]
    refine wp_mono (c_lim2 (sup := sup) (roo := roo) (s := s) S' F (fun f hf => ⟨(X.R 31 _ (Or.inl (by decide))).trans (D f hf).1, (X.R 32 _ (Or.inl (by decide))).trans (D f hf).2⟩) (fun f hf => (X.I 33 _ (Or.inl (by decide))).trans (hm f hf)) (fun p hp => h5' p hp) (fun p hp => (X.I 6 _ (Or.inl (by decide))).trans (h6 p hp)) (fun p hp => (X.I 3 _ (Or.inl (by decide))).trans (h3 p hp)) (fun p hp => (X.I 4 _ (Or.inl (by decide))).trans (h4 p hp))) ?_
    intro w'' ⟨X2, h2⟩
    exact ⟨(X.mono (by decide) (by decide) (by decide)).trans (X2.mono (by decide) (by decide) (by decide)), h2⟩
end CL
