/-! ROWS: the next row, on both sides, as lists -/
def gl (L : List Nat) (i : Nat) : Nat := L.getD i 0
def fi (L : List Nat) : Nat → Option Nat
  | 0 => none
  | i + 1 => if gl L i ≤ gl L (i + 1) then some i else fi L i
def fj (L : List Nat) (i : Nat) : Nat → Nat
  | 0 => 0
  | j + 1 => if j + 1 ≤ i then j + 1 else if gl L i ≤ gl L (j + 1) then j + 1 else fj L i j
def sw (L : List Nat) (a b : Nat) : List Nat := (L.set a (gl L b)).set b (gl L a)
def rv (n i : Nat) : Nat → Nat → List Nat → List Nat
  | 0, _, L => L
  | f + 1, d, L => if n - d ≤ i + d then L else rv n i f (d + 1) (sw L (i + d) (n - d))
def stL (n : Nat) (L : List Nat) : Option (List Nat) := match fi L (n - 1) with
  | none => none
  | some i => some (rv n i 5 1 (sw L i (fj L i (n - 1))))
def nv (n : Nat) (S : List Nat) : Nat → Nat → Nat
  | 0, v => v
  | f + 1, v => if n ≤ v then v else if S.contains v then nv n S f (v + 1) else v
def n0 (S : List Nat) : Nat → Nat → Nat
  | 0, v => v
  | f + 1, v => if S.contains v then n0 S f (v + 1) else v
def fl (n : Nat) : Nat → List Nat → Option (List Nat)
  | 0, L => some L
  | r + 1, L => if n0 L 6 0 < n then fl n r (L ++ [n0 L 6 0]) else none
def nxL (n : Nat) (L : List Nat) : Nat → Option (List Nat)
  | 0 => none
  | a + 1 => if n ≤ nv n (L.take a) 6 (gl L a + 1) then nxL n L a else fl n (n - 1 - a) (L.take a ++ [nv n (L.take a) 6 (gl L a + 1)])
def flOk (n : Nat) : Nat → List Nat → Bool
  | 0, _ => true
  | a + 1, L => (decide (n ≤ nv n (L.take a) 6 (gl L a + 1)) && flOk n a L) || (!decide (n ≤ nv n (L.take a) 6 (gl L a + 1)) && (fl n (n - 1 - a) (L.take a ++ [nv n (L.take a) 6 (gl L a + 1)])).isSome)
def okL (n : Nat) (L : List Nat) : Bool := L.length == n && L.all (fun v => decide (v < n)) && (stL n L == nxL n L n) && flOk n n L
def goodB (n : Nat) : Nat → List Nat → Bool
  | 0, L => okL n L && (stL n L).isNone
  | k + 1, L => okL n L && (match stL n L with
    | none => false
    | some L' => goodB n k L')
def fct (n : Nat) : Nat := if n = 1 then 0 else if n = 2 then 1 else if n = 3 then 5 else if n = 4 then 23 else 119
theorem good_all : goodB 1 0 [0] = true ∧ goodB 2 1 [0, 1] = true ∧ goodB 3 5 [0, 1, 2] = true ∧ goodB 4 23 [0, 1, 2, 3] = true ∧ goodB 5 119 [0, 1, 2, 3, 4] = true := by decide +kernel
theorem good_n {n : Nat} (n1 : 1 ≤ n) (n5 : n ≤ 5) : goodB n (fct n) (List.range n) = true := by
  have h := good_all
  have : n = 1 ∨ n = 2 ∨ n = 3 ∨ n = 4 ∨ n = 5 := by omega
  rcases this with e | e | e | e | e <;> subst e
  · exact h.1
  · exact h.2.1
  · exact h.2.2.1
  · exact h.2.2.2.1
  · exact h.2.2.2.2
theorem goodB_ok {n k : Nat} {L : List Nat} (h : goodB n k L = true) : L.length = n ∧ (∀ i, i < n → gl L i < n) ∧ stL n L = nxL n L n ∧ flOk n n L = true := by
  have : okL n L = true := by
    cases k with
    | zero => unfold goodB at h; simp [wp_some, wp_bind, x_I_sI, x_J_sJ, x_R_sR, x_A_sA, x_B_sB, x_I_sJ, x_I_sR, x_I_sA, x_I_sB, x_J_sI, x_J_sR, x_J_sA, x_J_sB, x_R_sI, x_R_sJ, x_R_sA, x_R_sB, x_A_sI, x_A_sJ, x_A_sR, x_A_sB, x_B_sI, x_B_sJ, x_B_sR, x_B_sA, x_Q_sI, x_Q_sJ, x_Q_sR, x_Q_sA, x_Q_sB, En.cn_mk, En.X_mk, En.Y_mk, En.vp_mk, En.lq_mk, En.ld_mk, En.fo_mk, En.fi_mk, En.cl_mk, Ce.mt_mk, Ce.th_mk, Ce.lk_mk, Ce.hd_mk, Ab.E_mk, Ab.C_mk, Ab.wm_mk, Ab.ps_mk, Ab.fz_mk, Ab.gd_mk, Ab.gn_mk, Ab.g1_mk, Ab.g2_mk, Ab.g3_mk, Ab.g4_mk, Ab.hr_mk, Ab.mo_mk, Ab.st_mk, Ab.og_mk, Ab.oc_mk, Ab.ig_mk, Ab.ic_mk] at h; exact h.1
    | succ k => unfold goodB at h; simp [wp_some, wp_bind, x_I_sI, x_J_sJ, x_R_sR, x_A_sA, x_B_sB, x_I_sJ, x_I_sR, x_I_sA, x_I_sB, x_J_sI, x_J_sR, x_J_sA, x_J_sB, x_R_sI, x_R_sJ, x_R_sA, x_R_sB, x_A_sI, x_A_sJ, x_A_sR, x_A_sB, x_B_sI, x_B_sJ, x_B_sR, x_B_sA, x_Q_sI, x_Q_sJ, x_Q_sR, x_Q_sA, x_Q_sB, En.cn_mk, En.X_mk, En.Y_mk, En.vp_mk, En.lq_mk, En.ld_mk, En.fo_mk, En.fi_mk, En.cl_mk, Ce.mt_mk, Ce.th_mk, Ce.lk_mk, Ce.hd_mk, Ab.E_mk, Ab.C_mk, Ab.wm_mk, Ab.ps_mk, Ab.fz_mk, Ab.gd_mk, Ab.gn_mk, Ab.g1_mk, Ab.g2_mk, Ab.g3_mk, Ab.g4_mk, Ab.hr_mk, Ab.mo_mk, Ab.st_mk, Ab.og_mk, Ab.oc_mk, Ab.ig_mk, Ab.ic_mk] at h; exact h.1
  unfold okL at this
  simp [wp_some, wp_bind, x_I_sI, x_J_sJ, x_R_sR, x_A_sA, x_B_sB, x_I_sJ, x_I_sR, x_I_sA, x_I_sB, x_J_sI, x_J_sR, x_J_sA, x_J_sB, x_R_sI, x_R_sJ, x_R_sA, x_R_sB, x_A_sI, x_A_sJ, x_A_sR, x_A_sB, x_B_sI, x_B_sJ, x_B_sR, x_B_sA, x_Q_sI, x_Q_sJ, x_Q_sR, x_Q_sA, x_Q_sB, En.cn_mk, En.X_mk, En.Y_mk, En.vp_mk, En.lq_mk, En.ld_mk, En.fo_mk, En.fi_mk, En.cl_mk, Ce.mt_mk, Ce.th_mk, Ce.lk_mk, Ce.hd_mk, Ab.E_mk, Ab.C_mk, Ab.wm_mk, Ab.ps_mk, Ab.fz_mk, Ab.gd_mk, Ab.gn_mk, Ab.g1_mk, Ab.g2_mk, Ab.g3_mk, Ab.g4_mk, Ab.hr_mk, Ab.mo_mk, Ab.st_mk, Ab.og_mk, Ab.oc_mk, Ab.ig_mk, Ab.ic_mk] at this
  obtain ⟨⟨⟨h1, h2⟩, h3⟩, h4⟩ := this
  refine ⟨h1, fun i hi => ?_, h3, h4⟩
  unfold gl
  have hi' : i < L.length := by omega
  rw [List.getD_eq_getElem?_getD, List.getElem?_eq_getElem hi', Option.getD_some]
  exact h2 _ (List.getElem_mem hi')
theorem gl_set {L : List Nat} {a i v : Nat} (ha : a < L.length) : gl (L.set a v) i = if i = a then v else gl L i := by
  unfold gl
  rw [List.getD_eq_getElem?_getD, List.getD_eq_getElem?_getD, List.getElem?_set]
  by_cases e : a = i
  · subst e; simp [wp_some, wp_bind, x_I_sI, x_J_sJ, x_R_sR, x_A_sA, x_B_sB, x_I_sJ, x_I_sR, x_I_sA, x_I_sB, x_J_sI, x_J_sR, x_J_sA, x_J_sB, x_R_sI, x_R_sJ, x_R_sA, x_R_sB, x_A_sI, x_A_sJ, x_A_sR, x_A_sB, x_B_sI, x_B_sJ, x_B_sR, x_B_sA, x_Q_sI, x_Q_sJ, x_Q_sR, x_Q_sA, x_Q_sB, En.cn_mk, En.X_mk, En.Y_mk, En.vp_mk, En.lq_mk, En.ld_mk, En.fo_mk, En.fi_mk, En.cl_mk, Ce.mt_mk, Ce.th_mk, Ce.lk_mk, Ce.hd_mk, Ab.E_mk, Ab.C_mk, Ab.wm_mk, Ab.ps_mk, Ab.fz_mk, Ab.gd_mk, Ab.gn_mk, Ab.g1_mk, Ab.g2_mk, Ab.g3_mk, Ab.g4_mk, Ab.hr_mk, Ab.mo_mk, Ab.st_mk, Ab.og_mk, Ab.oc_mk, Ab.ig_mk, Ab.ic_mk, ha]
  · rw [if_neg e, if_neg (Ne.symm e)]
/-- the row stands in array h -/
def Rw (w : x_W) (h n : Nat) (L : List Nat) : Prop := ∀ i, i < n → x_A w h i = nI (gl L i)
theorem Rw_set {w : x_W} {h n : Nat} {L : List Nat} (R : Rw w h n L) (hl : L.length = n) {a : Nat} (ha : a < n) (v : Nat) : Rw (x_sA w h a (nI v)) h n (L.set a v) := by
  intro i hi
  rw [x_A_sA, gl_set (by omega)]
  by_cases e : i = a
  · rw [if_pos ⟨rfl, e⟩, if_pos e]
  · rw [if_neg (fun z => e z.2), if_neg e]; exact R i hi
def Qx (a3 : List Nat) (w w' : x_W) : Prop := (Gx [] [] a3 [] w w') ∧ (∀ i j, x_Q w' i j = x_Q w i j)
theorem Qx.g {a3 : List Nat} {w w' : x_W} (S_ : Qx a3 w w') : Gx [] [] a3 [] w w' := S_.1
theorem Qx.q {a3 : List Nat} {w w' : x_W} (S_ : Qx a3 w w') : ∀ i j, x_Q w' i j = x_Q w i j := S_.2
theorem Qx.refl (a3 : List Nat) (w : x_W) : Qx a3 w w := ⟨Gx.refl .., fun _ _ => rfl⟩
theorem Qx.trans {a3 : List Nat} {w w' w'' : x_W} (h1 : Qx a3 w w') (h2 : Qx a3 w' w'') : Qx a3 w w'' := ⟨h1.g.trans h2.g, fun i j => (h2.q i j).trans (h1.q i j)⟩
theorem Qx.sA {a3 : List Nat} {w w' : x_W} {k h : Nat} {v : Int32} (F : Qx a3 w w') (hk : k ∈ a3) : Qx a3 w (x_sA w' k h v) := ⟨F.g.sA hk, F.q⟩
section STR
variable {T : x_T} {w : x_W} {n : Nat}
theorem Qx.ct {w' : x_W} {a3 : List Nat} (F : Qx a3 w w') (S : CT T w n) : CT T w' n := S.of (fun k h _ _ _ => by show w'.2.2.1 k h = w.2.2.1 k h; rw [F.g.R]) F.q
theorem c_swap (S : CT T w n) (n5 : n ≤ 5) {L : List Nat} (hl : L.length = n) (R : Rw w (60 + 6 * n) n L) {a b : Nat} (ha : a < n) (hb : b < n) : ∃ w', f_Trials_swap T w (50 + 3 * n) (nI a) (nI b) = some w' ∧ Qx [60 + 6 * n] w w' ∧ Rw w' (60 + 6 * n) n (sw L a b) := by
  refine ⟨x_sA (x_sA w (60 + 6 * n) a (nI (gl L b))) (60 + 6 * n) b (nI (gl L a)), ?_, ((Qx.refl _ w).sA (by simp [wp_some, wp_bind, x_I_sI, x_J_sJ, x_R_sR, x_A_sA, x_B_sB, x_I_sJ, x_I_sR, x_I_sA, x_I_sB, x_J_sI, x_J_sR, x_J_sA, x_J_sB, x_R_sI, x_R_sJ, x_R_sA, x_R_sB, x_A_sI, x_A_sJ, x_A_sR, x_A_sB, x_B_sI, x_B_sJ, x_B_sR, x_B_sA, x_Q_sI, x_Q_sJ, x_Q_sR, x_Q_sA, x_Q_sB, En.cn_mk, En.X_mk, En.Y_mk, En.vp_mk, En.lq_mk, En.ld_mk, En.fo_mk, En.fi_mk, En.cl_mk, Ce.mt_mk, Ce.th_mk, Ce.lk_mk, Ce.hd_mk, Ab.E_mk, Ab.C_mk, Ab.wm_mk, Ab.ps_mk, Ab.fz_mk, Ab.gd_mk, Ab.gn_mk, Ab.g1_mk, Ab.g2_mk, Ab.g3_mk, Ab.g4_mk, Ab.hr_mk, Ab.mo_mk, Ab.st_mk, Ab.og_mk, Ab.oc_mk, Ab.ig_mk, Ab.ic_mk])).sA (by simp [wp_some, wp_bind, x_I_sI, x_J_sJ, x_R_sR, x_A_sA, x_B_sB, x_I_sJ, x_I_sR, x_I_sA, x_I_sB, x_J_sI, x_J_sR, x_J_sA, x_J_sB, x_R_sI, x_R_sJ, x_R_sA, x_R_sB, x_A_sI, x_A_sJ, x_A_sR, x_A_sB, x_B_sI, x_B_sJ, x_B_sR, x_B_sA, x_Q_sI, x_Q_sJ, x_Q_sR, x_Q_sA, x_Q_sB, En.cn_mk, En.X_mk, En.Y_mk, En.vp_mk, En.lq_mk, En.ld_mk, En.fo_mk, En.fi_mk, En.cl_mk, Ce.mt_mk, Ce.th_mk, Ce.lk_mk, Ce.hd_mk, Ab.E_mk, Ab.C_mk, Ab.wm_mk, Ab.ps_mk, Ab.fz_mk, Ab.gd_mk, Ab.gn_mk, Ab.g1_mk, Ab.g2_mk, Ab.g3_mk, Ab.g4_mk, Ab.hr_mk, Ab.mo_mk, Ab.st_mk, Ab.og_mk, Ab.oc_mk, Ab.ig_mk, Ab.ic_mk]), ?_⟩
  · unfold f_Trials_swap
    simp only [t_is S.tt, S.r53, x_R_sA, Option.bind_some, t_ixn S.ta (show a < 5 by omega) (by omega), t_ixn S.ta (show b < 5 by omega) (by omega), nI_clampS (show a < 100000 by omega), nI_clampS (show b < 100000 by omega), R a ha, R b hb]
  · exact Rw_set (Rw_set R hl ha (gl L b)) (by simp [wp_some, wp_bind, x_I_sI, x_J_sJ, x_R_sR, x_A_sA, x_B_sB, x_I_sJ, x_I_sR, x_I_sA, x_I_sB, x_J_sI, x_J_sR, x_J_sA, x_J_sB, x_R_sI, x_R_sJ, x_R_sA, x_R_sB, x_A_sI, x_A_sJ, x_A_sR, x_A_sB, x_B_sI, x_B_sJ, x_B_sR, x_B_sA, x_Q_sI, x_Q_sJ, x_Q_sR, x_Q_sA, x_Q_sB, En.cn_mk, En.X_mk, En.Y_mk, En.vp_mk, En.lq_mk, En.ld_mk, En.fo_mk, En.fi_mk, En.cl_mk, Ce.mt_mk, Ce.th_mk, Ce.lk_mk, Ce.hd_mk, Ab.E_mk, Ab.C_mk, Ab.wm_mk, Ab.ps_mk, Ab.fz_mk, Ab.gd_mk, Ab.gn_mk, Ab.g1_mk, Ab.g2_mk, Ab.g3_mk, Ab.g4_mk, Ab.hr_mk, Ab.mo_mk, Ab.st_mk, Ab.og_mk, Ab.oc_mk, Ab.ig_mk, Ab.ic_mk, hl]) hb (gl L a)
theorem sw_len (L : List Nat) (a b : Nat) : (sw L a b).length = L.length := by unfold sw; simp [wp_some, wp_bind, x_I_sI, x_J_sJ, x_R_sR, x_A_sA, x_B_sB, x_I_sJ, x_I_sR, x_I_sA, x_I_sB, x_J_sI, x_J_sR, x_J_sA, x_J_sB, x_R_sI, x_R_sJ, x_R_sA, x_R_sB, x_A_sI, x_A_sJ, x_A_sR, x_A_sB, x_B_sI, x_B_sJ, x_B_sR, x_B_sA, x_Q_sI, x_Q_sJ, x_Q_sR, x_Q_sA, x_Q_sB, En.cn_mk, En.X_mk, En.Y_mk, En.vp_mk, En.lq_mk, En.ld_mk, En.fo_mk, En.fi_mk, En.cl_mk, Ce.mt_mk, Ce.th_mk, Ce.lk_mk, Ce.hd_mk, Ab.E_mk, Ab.C_mk, Ab.wm_mk, Ab.ps_mk, Ab.fz_mk, Ab.gd_mk, Ab.gn_mk, Ab.g1_mk, Ab.g2_mk, Ab.g3_mk, Ab.g4_mk, Ab.hr_mk, Ab.mo_mk, Ab.st_mk, Ab.og_mk, Ab.oc_mk, Ab.ig_mk, Ab.ic_mk]
theorem c_rv (n1 : 1 ≤ n) (n5 : n ≤ 5) {i : Nat} (hi : i + 1 < n) : ∀ f d (L : List Nat) (w : x_W) fuel, CT T w n → L.length = n → Rw w (60 + 6 * n) n L → 1 ≤ d → d + f = 6 → f < fuel → ∃ w', f_Trials_stepRow_76 T fuel w (50 + 3 * n) (nI n) (nI i) (nI d) = some (1, w') ∧ Qx [60 + 6 * n] w w' ∧ Rw w' (60 + 6 * n) n (rv n i f d L) := by
  intro f
  induction f with
  | zero =>
    intro d L w fuel S hl R hd hdf hf
    obtain ⟨fuel, rfl⟩ : ∃ q, fuel = q + 1 := ⟨fuel - 1, by omega⟩
    refine ⟨w, ?_, Qx.refl _ w, R⟩
    rw [f_Trials_stepRow_76, if_pos]
    rw [nI_addS, z_le, nI_intS (by omega), z_nI, z_nI, z_sub, z_t (by omega) (by omega)]
    omega
  | succ f ih =>
    intro d L w fuel S hl R hd hdf hf
    obtain ⟨fuel, rfl⟩ : ∃ q, fuel = q + 1 := ⟨fuel - 1, by omega⟩
    by_cases e : n - d ≤ i + d
    · refine ⟨w, ?_, Qx.refl _ w, ?_⟩
      · rw [f_Trials_stepRow_76, if_pos]
        rw [nI_addS, z_le, nI_intS (by omega), z_nI, z_nI, z_sub, z_t (by omega) (by omega)]
        omega
      · unfold rv; rw [if_pos e]; exact R
    · have es : nI n - nI d = nI (n - d) := by rw [z_nI, z_nI, z_nI, z_sub]; congr 1; omega
      obtain ⟨w1, e1, Q1, R1⟩ := c_swap S n5 hl R (a := i + d) (b := n - d) (by omega) (by omega)
      obtain ⟨w2, e2, Q2, R2'⟩ := ih (d + 1) _ w1 fuel (Q1.ct S) (by rw [sw_len]; exact hl) R1 (by omega) (by omega) (by omega)
      refine ⟨w2, ?_, Q1.trans Q2, ?_⟩
      · rw [f_Trials_stepRow_76, if_neg, t_is S.tt, Option.bind_some, nI_addS, es, e1, Option.bind_some, nI_inc, e2]
        rw [nI_addS, es, nI_leS (by omega) (by omega)]
        exact e
      · unfold rv; rw [if_neg e]; exact R2'
theorem fj_lt (L : List Nat) (i : Nat) : ∀ j, fj L i j ≤ j := by
  intro j
  induction j with
  | zero => exact Nat.le_refl _
  | succ j ih =>
    unfold fj
    repeat' split
    all_goals omega
theorem c_67 (S : CT T w n) (n1 : 1 ≤ n) (n5 : n ≤ 5) {L : List Nat} (hl : L.length = n) (R : Rw w (60 + 6 * n) n L) {i j : Nat} (hi : i + 1 < n) (hj : j < n) : ∃ w', f_Trials_stepRow_67 T w (50 + 3 * n) (nI n) (nI i) (nI j) = some (1, w') ∧ Qx [60 + 6 * n] w w' ∧ Rw w' (60 + 6 * n) n (rv n i 5 1 (sw L i j)) := by
  obtain ⟨w1, e1, Q1, R1⟩ := c_swap S n5 hl R (a := i) (b := j) (by omega) hj
  obtain ⟨w2, e2, Q2, R2'⟩ := c_rv n1 n5 hi 5 1 _ w1 1000 (Q1.ct S) (by rw [sw_len]; exact hl) R1 (by omega) (by omega) (by omega)
  refine ⟨w2, ?_, Q1.trans Q2, R2'⟩
  unfold f_Trials_stepRow_67
  rw [t_is S.tt, Option.bind_some, e1, Option.bind_some]
  exact e2
theorem c_41 (S : CT T w n) (n1 : 1 ≤ n) (n5 : n ≤ 5) {L : List Nat} (hl : L.length = n) (hg : ∀ i, i < n → gl L i < n) (R : Rw w (60 + 6 * n) n L) {i : Nat} (hi : i + 1 < n) : ∀ j fuel, j < n → j < fuel → ∃ w', f_Trials_stepRow_41 T fuel w (50 + 3 * n) (nI n) (nI i) (nI j) = some (1, w') ∧ Qx [60 + 6 * n] w w' ∧ Rw w' (60 + 6 * n) n (rv n i 5 1 (sw L i (fj L i j))) := by
  intro j
  induction j with
  | zero =>
    intro fuel hj hf
    obtain ⟨fuel, rfl⟩ : ∃ q, fuel = q + 1 := ⟨fuel - 1, by omega⟩
    obtain ⟨w1, e1, Q1, R1⟩ := c_67 S n1 n5 hl R hi (j := 0) (by omega)
    refine ⟨w1, ?_, Q1, R1⟩
    rw [f_Trials_stepRow_41, if_pos (by rw [nI_leS (by omega) (by omega)]; omega), e1]
  | succ j ih =>
    intro fuel hj hf
    obtain ⟨fuel, rfl⟩ : ∃ q, fuel = q + 1 := ⟨fuel - 1, by omega⟩
    have g1 := hg i (by omega)
    have g2 := hg (j + 1) hj
    by_cases a : j + 1 ≤ i
    · obtain ⟨w1, e1, Q1, R1⟩ := c_67 S n1 n5 hl R hi (j := j + 1) hj
      refine ⟨w1, ?_, Q1, ?_⟩
      · rw [f_Trials_stepRow_41, if_pos (by rw [nI_leS (by omega) (by omega)]; omega), e1]
      · unfold fj; rw [if_pos a]; exact R1
    · have hd : f_Trials_stepRow_41 T (fuel + 1) w (50 + 3 * n) (nI n) (nI i) (nI (j + 1)) = if nI (gl L i) ≤ nI (gl L (j + 1)) then f_Trials_stepRow_67 T w (50 + 3 * n) (nI n) (nI i) (nI (j + 1)) else f_Trials_stepRow_41 T fuel w (50 + 3 * n) (nI n) (nI i) (nI j) := by
        rw [f_Trials_stepRow_41, if_neg (by rw [nI_leS (by omega) (by omega)]; omega)]
        simp only [t_is S.tt, S.r53, Option.bind_some, t_ixn S.ta (show j + 1 < 5 by omega) (by omega), t_ixn S.ta (show i < 5 by omega) (by omega), nI_clampS (show j + 1 < 100000 by omega), nI_clampS (show i < 100000 by omega), R (j + 1) hj, R i (by omega), nI_dec (show 0 < j + 1 by omega), Nat.add_sub_cancel]
      by_cases b : gl L i ≤ gl L (j + 1)
      · obtain ⟨w1, e1, Q1, R1⟩ := c_67 S n1 n5 hl R hi (j := j + 1) hj
        refine ⟨w1, ?_, Q1, ?_⟩
        · rw [hd, if_pos (by rw [nI_leS (by omega) (by omega)]; exact b), e1]
        · unfold fj; rw [if_neg a, if_pos b]; exact R1
      · obtain ⟨w1, e1, Q1, R1⟩ := ih fuel (by omega) (by omega)
        refine ⟨w1, ?_, Q1, ?_⟩
        · rw [hd, if_neg (by rw [nI_leS (by omega) (by omega)]; exact b), e1]
        · unfold fj; rw [if_neg a, if_neg b]; exact R1
theorem c_step (S : CT T w n) (n1 : 1 ≤ n) (n5 : n ≤ 5) {L : List Nat} (hl : L.length = n) (hg : ∀ i, i < n → gl L i < n) (R : Rw w (60 + 6 * n) n L) : ∃ w', f_Trials_stepRow T w (50 + 3 * n) (nI n) = some ((if (stL n L).isSome then 1 else 0), w') ∧ Qx [60 + 6 * n] w w' ∧ ∀ L', stL n L = some L' → Rw w' (60 + 6 * n) n L' := by
  have go : ∀ k fuel, k < n → k < fuel → ∃ w', f_Trials_stepRow_4 T fuel w (50 + 3 * n) (nI n) (Int32.ofInt ((k : Int) - 1)) = some ((if (fi L k).isSome then 1 else 0), w') ∧ Qx [60 + 6 * n] w w' ∧ ∀ i, fi L k = some i → Rw w' (60 + 6 * n) n (rv n i 5 1 (sw L i (fj L i (n - 1)))) := by
    intro k
    induction k with
    | zero =>
      intro fuel hk hf
      obtain ⟨fuel, rfl⟩ : ∃ q, fuel = q + 1 := ⟨fuel - 1, by omega⟩
      refine ⟨w, ?_, Qx.refl _ w, fun i h => by cases h⟩
      rw [f_Trials_stepRow_4, if_pos (by decide)]
      rfl
    | succ k ih =>
      intro fuel hk hf
      obtain ⟨fuel, rfl⟩ : ∃ q, fuel = q + 1 := ⟨fuel - 1, by omega⟩
      have ek : Int32.ofInt (((k + 1 : Nat) : Int) - 1) = nI k := by rw [z_nI]; congr 1; omega
      have ed : nI k + (-1) = Int32.ofInt ((k : Int) - 1) := by rw [z_nI, show (-1 : Int32) = Int32.ofInt (-1) from rfl, z_add]; congr 1
      have g1 := hg k (by omega)
      have g2 := hg (k + 1) hk
      have hd : f_Trials_stepRow_4 T (fuel + 1) w (50 + 3 * n) (nI n) (nI k) = if nI (gl L k) ≤ nI (gl L (k + 1)) then f_Trials_stepRow_31 T w (50 + 3 * n) (nI n) (nI k) else f_Trials_stepRow_4 T fuel w (50 + 3 * n) (nI n) (Int32.ofInt ((k : Int) - 1)) := by
        rw [f_Trials_stepRow_4, if_neg (by rw [show (0 : Int32) = nI 0 from rfl, nI_ltS (by omega) (by omega)]; omega)]
        simp only [t_is S.tt, S.r53, Option.bind_some, nI_inc, t_ixn S.ta (show k + 1 < 5 by omega) (by omega), t_ixn S.ta (show k < 5 by omega) (by omega), nI_clampS (show k + 1 < 100000 by omega), nI_clampS (show k < 100000 by omega), R (k + 1) hk, R k (by omega), ed]
      rw [ek, hd]
      unfold fi
      by_cases b : gl L k ≤ gl L (k + 1)
      · obtain ⟨w1, e1, Q1, R1⟩ := c_41 S n1 n5 hl hg R (i := k) hk (n - 1) 1000 (by omega) (by omega)
        refine ⟨w1, ?_, Q1, fun i h => ?_⟩
        · rw [if_pos (by rw [nI_leS (by omega) (by omega)]; exact b), if_pos b]
          unfold f_Trials_stepRow_31
          rw [if_pos (by rw [show (0 : Int32) = nI 0 from rfl, nI_leS (by omega) (by omega)]; omega), nI_sub1 (by omega), Option.bind_some, e1]
          rfl
        · rw [if_pos b] at h
          cases h
          exact R1
      · obtain ⟨w1, e1, Q1, R1⟩ := ih fuel (by omega) (by omega)
        refine ⟨w1, ?_, Q1, fun i h => ?_⟩
        · rw [if_neg (by rw [nI_leS (by omega) (by omega)]; exact b), if_neg b, e1]
        · rw [if_neg b] at h
          exact R1 i h
  obtain ⟨w1, e1, Q1, R1⟩ := go (n - 1) 1000 (by omega) (by omega)
  refine ⟨w1, ?_, Q1, fun L' h => ?_⟩
  · unfold f_Trials_stepRow
    rw [Option.bind_some, show nI n - 2 = Int32.ofInt (((n - 1 : Nat) : Int) - 1) by rw [z_nI, show (2 : Int32) = Int32.ofInt 2 from rfl, z_sub]; congr 1; omega, e1]
    unfold stL
    cases fi L (n - 1) <;> rfl
  · unfold stL at h
    cases hf : fi L (n - 1) with
    | none => rw [hf] at h; cases h
    | some i => rw [hf] at h; cases h; exact R1 i hf
end STR
