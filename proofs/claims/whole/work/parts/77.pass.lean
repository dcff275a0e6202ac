/-! AN HOUR THAT PASSES: frost, mould -/
def fzN (f w d : Int32) : Int32 := if f = 0 then (if 0 ≤ w then 0 else if d < 9000 then 0 else 1) else if w < 0 then f else 0
def psN (f w p : Int32) : Int32 := if f = 0 then p else if w < 0 then p else p + 1
def mxN (a b : Int32) : Int32 := if a < b then b else a
def ffu (g1 g2 g3 g4 : Nat → Int32) (d w : Int32) : Nat → Nat → Int32
  | 0, _ => -1
  | r + 1, i => if d < g1 i then ffu g1 g2 g3 g4 d w r (i + 1) else if w < g2 i then ffu g1 g2 g3 g4 d w r (i + 1) else if g3 i < w then ffu g1 g2 g3 g4 d w r (i + 1) else g4 i
def moN (m more : Int32) : Int32 := Int32.ofInt (max 0 (min 1000000 (m.toInt + more.toInt)))
section PSS
variable {T : x_T} {w w' : x_W} {n : Nat} {A : Ab}
theorem ffu_b {g1 g2 g3 g4 : Nat → Int32} {d w : Int32} {gn : Nat} (h : ∀ i, i < gn → 1 ≤ (g4 i).toInt ∧ (g4 i).toInt ≤ 1000) : ∀ r i, i + r = gn → ffu g1 g2 g3 g4 d w r i = -1 ∨ (1 ≤ (ffu g1 g2 g3 g4 d w r i).toInt ∧ (ffu g1 g2 g3 g4 d w r i).toInt ≤ 1000) := by
  intro r
  induction r with
  | zero => intro i _; exact Or.inl rfl
  | succ r ih =>
    intro i hi
    have h1 := ih (i + 1) (by omega)
    unfold ffu
    by_cases a : d < g1 i
    · rw [if_pos a]; exact h1
    · rw [if_neg a]
      by_cases b : w < g2 i
      · rw [if_pos b]; exact h1
      · rw [if_neg b]
        by_cases c : g3 i < w
        · rw [if_pos c]; exact h1
        · rw [if_neg c]; exact Or.inr (h i (by omega))
theorem c_fits (S : SC T w n A) (hg : A.gn ≤ 6) (d v : Int32) : f_MouldRows_firstThatFits T w 36 d v = some (ffu A.g1 A.g2 A.g3 A.g4 d v A.gn 0) := by
  unfold f_MouldRows_firstThatFits
  have go : ∀ r i fuel, i + r = A.gn → r < fuel → f_MouldRows_firstThatFits_2 T fuel w 36 d v (nI i) = some (ffu A.g1 A.g2 A.g3 A.g4 d v r i) := by
    intro r
    induction r with
    | zero =>
      intro i fuel hi hf
      obtain ⟨fuel, rfl⟩ : ∃ q, fuel = q + 1 := ⟨fuel - 1, by omega⟩
      rw [f_MouldRows_firstThatFits_2, t_is S.ct.t36, Option.bind_some, S.d.gn, if_pos (by rw [nI_leS (by omega) (by omega)]; omega)]
      rfl
    | succ r ih =>
      intro i fuel hi hf
      obtain ⟨fuel, rfl⟩ : ∃ q, fuel = q + 1 := ⟨fuel - 1, by omega⟩
      have e := ih (i + 1) fuel (by omega) (by omega)
      rw [f_MouldRows_firstThatFits_2, t_is S.ct.t36, Option.bind_some, S.d.gn, if_neg (by rw [nI_leS (by omega) (by omega)]; omega)]
      simp only [f_MouldRows_firstThatFits_47, S.ct.r38, S.ct.r39, S.ct.r40, S.ct.r41, Option.bind_some, t_ixn S.ct.t37 (show i < 6 by omega) (by omega), t_ixn S.ct.t38 (show i < 6 by omega) (by omega), t_ixn S.ct.t39 (show i < 6 by omega) (by omega), t_ixn S.ct.t40 (show i < 6 by omega) (by omega), nI_clampS (show i < 100000 by omega), S.d.g1 i (by omega), S.d.g2 i (by omega), S.d.g3 i (by omega), S.d.g4 i (by omega), nI_inc, e]
      show _ = some (if d < A.g1 i then _ else if v < A.g2 i then _ else if A.g3 i < v then _ else _)
      by_cases a : d < A.g1 i
      · rw [if_pos a, if_pos a]
      · rw [if_neg a, if_neg a]
        by_cases b : v < A.g2 i
        · rw [if_pos b, if_pos b]
        · rw [if_neg b, if_neg b]
          by_cases c : A.g3 i < v
          · rw [if_pos c, if_pos c]
          · rw [if_neg c, if_neg c]
  exact go A.gn 0 1000 (by omega) (by omega)
/-- mould of the class -/
theorem c_mould (S : SC T w n A) (B : AB n A) : f_WD_growMould T w 0 = some (x_sI w 13 0 (moN A.mo (ffu A.g1 A.g2 A.g3 A.g4 (Int32.ofInt (dpz A.E A.C (n - 1))) (A.wm (n - 1)) A.gn 0))) := by
  have n1 := S.ws.n1
  have n12 := S.ws.n12
  have hm := B.mo
  have l0 : f_Wall_lastCell T w 41 = some (46 + 2 * (n - 1)) := by
    unfold f_Wall_lastCell
    simp only [Option.bind_some, t_is S.ws.t, S.ws.r55, t_len S.ws.tc, nI_sub1 (show 0 < n by omega), t_ixn S.ws.tc (show n - 1 < n by omega) (by omega), nI_clampS (show n - 1 < 100000 by omega), (S.ws.c (n - 1) (by omega)).2]
  have tc := (S.ws.c (n - 1) (by omega)).1
  have cd := c_dampOfHeld B.e S.ws S.e S.k B.k (k := n - 1) (by omega)
  simp only [Nat.reduceAdd] at tc cd
  unfold f_WD_growMould f_WD_growMould_61
  simp only [t_is S.ct.t0, S.ct.r10, t_is S.ws.t, l0, S.ct.r9, t_is tc, cd, t_is S.ct.t36, Option.bind_some, S.d.wm (n - 1) (by omega), c_fits S B.gn, S.d.mo]
  generalize hq : ffu A.g1 A.g2 A.g3 A.g4 (Int32.ofInt (dpz A.E A.C (n - 1))) (A.wm (n - 1)) A.gn 0 = q
  have hb := ffu_b (d := Int32.ofInt (dpz A.E A.C (n - 1))) (w := A.wm (n - 1)) (g1 := A.g1) (g2 := A.g2) (g3 := A.g3) B.g4 A.gn 0 (by omega)
  rw [hq] at hb
  have em : A.mo = Int32.ofInt A.mo.toInt := (z_o _).symm
  by_cases h : q = -1
  · rw [if_pos h, em, show (1 : Int32) = Int32.ofInt 1 from rfl, z_sub, show (0 : Int32) = Int32.ofInt 0 from rfl, m_max T w (by omega) (by omega) (by omega) (by omega)]
    simp only [Option.bind_some]
    unfold moN
    rw [h, z_t (by omega) (by omega), show (-1 : Int32).toInt = -1 from rfl]
    congr 3
    omega
  · have hb2 : 1 ≤ q.toInt ∧ q.toInt ≤ 1000 := by rcases hb with z | z; exact absurd z h; exact z
    rw [if_neg h, em, ← z_o q, z_add, show (1000000 : Int32) = Int32.ofInt 1000000 from rfl, m_min T w (by omega) (by omega) (by omega) (by omega)]
    simp only [Option.bind_some]
    unfold moN
    rw [z_o q, z_t (by omega) (by omega)]
    congr 3
    omega
/-- frost of the class -/
theorem c_frost (S : SC T w n A) (B : AB n A) : wp (f_Wall_tellFrost T w 41) (fun w' => Fx 41 (50 + 3 * n) [22, 23, 24] [] [] w w' ∧ ∀ k, k < n → x_I w' 22 (46 + 2 * k) = psN (A.fz k) (A.wm k) (A.ps k) ∧ x_I w' 23 (46 + 2 * k) = mxN (A.gd k) (Int32.ofInt (dpz A.E A.C k)) ∧ x_I w' 24 (46 + 2 * k) = fzN (A.fz k) (A.wm k) (Int32.ofInt (dpz A.E A.C k))) := by
  have n1 := S.ws.n1
  have n12 := S.ws.n12
  unfold f_Wall_tellFrost
  simp only [t_is S.ws.t, S.ws.r55, t_len S.ws.tc, Option.bind_some]
  refine wp_mono (loop_up (N := n) (by omega) (fun fuel w' i => f_Wall_tellFrost_10 T fuel w' (41 + 3) (nI n) i) (fun j w' => Fx 41 (50 + 3 * n) [22, 23, 24] [] [] w w' ∧ ∀ k, k < n → x_I w' 22 (46 + 2 * k) = (if k < j then psN (A.fz k) (A.wm k) (A.ps k) else A.ps k) ∧ x_I w' 23 (46 + 2 * k) = (if k < j then mxN (A.gd k) (Int32.ofInt (dpz A.E A.C k)) else A.gd k) ∧ x_I w' 24 (46 + 2 * k) = (if k < j then fzN (A.fz k) (A.wm k) (Int32.ofInt (dpz A.E A.C k)) else A.fz k)) (fun w' => Fx 41 (50 + 3 * n) [22, 23, 24] [] [] w w' ∧ ∀ k, k < n → x_I w' 22 (46 + 2 * k) = (if k < n then psN (A.fz k) (A.wm k) (A.ps k) else A.ps k) ∧ x_I w' 23 (46 + 2 * k) = (if k < n then mxN (A.gd k) (Int32.ofInt (dpz A.E A.C k)) else A.gd k) ∧ x_I w' 24 (46 + 2 * k) = (if k < n then fzN (A.fz k) (A.wm k) (Int32.ofInt (dpz A.E A.C k)) else A.fz k)) ?_ ?_ w ⟨Fx.refl .., fun k hk => ?_⟩) (fun w' ⟨h1, h2⟩ => ⟨h1, fun k hk => by have := h2 k hk; simpa [wp_some, wp_bind, x_I_sI, x_J_sJ, x_R_sR, x_A_sA, x_B_sB, x_I_sJ, x_I_sR, x_I_sA, x_I_sB, x_J_sI, x_J_sR, x_J_sA, x_J_sB, x_R_sI, x_R_sJ, x_R_sA, x_R_sB, x_A_sI, x_A_sJ, x_A_sR, x_A_sB, x_B_sI, x_B_sJ, x_B_sR, x_B_sA, x_Q_sI, x_Q_sJ, x_Q_sR, x_Q_sA, x_Q_sB, En.cn_mk, En.X_mk, En.Y_mk, En.vp_mk, En.lq_mk, En.ld_mk, En.fo_mk, En.fi_mk, En.cl_mk, Ce.mt_mk, Ce.th_mk, Ce.lk_mk, Ce.hd_mk, Ab.E_mk, Ab.C_mk, Ab.wm_mk, Ab.ps_mk, Ab.fz_mk, Ab.gd_mk, Ab.gn_mk, Ab.g1_mk, Ab.g2_mk, Ab.g3_mk, Ab.g4_mk, Ab.hr_mk, Ab.mo_mk, Ab.st_mk, Ab.og_mk, Ab.oc_mk, Ab.ig_mk, Ab.ic_mk, hk] using this⟩)
  · intro i w' fuel hi ⟨F, hv⟩
    have S' := F.ws S.ws
    have cd := c_dampOfHeld B.e S' (F.ec S.e) (F.kc S.k) B.k hi
    have tc := (S.ws.c i hi).1
    have cq := (S'.c i hi).2
    simp only [Nat.reduceAdd] at cd tc cq
    obtain ⟨v1, v2, v3⟩ := hv i hi
    rw [if_neg (by omega)] at v1 v2 v3
    have v0 : x_I w' 0 (46 + 2 * i) = A.wm i := (F.I 0 _ (Or.inl (by decide))).trans (S.d.wm i hi)
    have hfz := B.fz i hi
    have fin : ∀ w2, f_Cell_endHour T w' (46 + 2 * i) = some w2 → Fx 41 (50 + 3 * n) [22, 23, 24] [] [] w' w2 → (∀ h k, h ≠ 46 + 2 * i → x_I w2 k h = x_I w' k h) → x_I w2 22 (46 + 2 * i) = psN (A.fz i) (A.wm i) (A.ps i) → x_I w2 23 (46 + 2 * i) = mxN (A.gd i) (Int32.ofInt (dpz A.E A.C i)) → x_I w2 24 (46 + 2 * i) = fzN (A.fz i) (A.wm i) (Int32.ofInt (dpz A.E A.C i)) → ∃ s', (Fx 41 (50 + 3 * n) [22, 23, 24] [] [] w s' ∧ ∀ k, k < n → x_I s' 22 (46 + 2 * k) = (if k < i + 1 then psN (A.fz k) (A.wm k) (A.ps k) else A.ps k) ∧ x_I s' 23 (46 + 2 * k) = (if k < i + 1 then mxN (A.gd k) (Int32.ofInt (dpz A.E A.C k)) else A.gd k) ∧ x_I s' 24 (46 + 2 * k) = (if k < i + 1 then fzN (A.fz k) (A.wm k) (Int32.ofInt (dpz A.E A.C k)) else A.fz k)) ∧ f_Wall_tellFrost_10 T (fuel + 1) w' (41 + 3) (nI n) (nI i) = f_Wall_tellFrost_10 T fuel s' (41 + 3) (nI n) (nI (i + 1)) := by
      intro w2 e F2 o u1 u2 u3
      refine ⟨w2, ⟨F.trans F2, fun k hk => ?_⟩, ?_⟩
      · by_cases ek : k = i
        · subst ek
          rw [if_pos (by omega), if_pos (by omega), if_pos (by omega)]
          exact ⟨u1, u2, u3⟩
        · rw [o _ _ (by omega), o _ _ (by omega), o _ _ (by omega)]
          have := hv k hk
          by_cases e2 : k < i
          · rw [if_pos e2, if_pos e2, if_pos e2] at this
            rw [if_pos (by omega), if_pos (by omega), if_pos (by omega)]
            exact this
          · rw [if_neg e2, if_neg e2, if_neg e2] at this
            rw [if_neg (by omega), if_neg (by omega), if_neg (by omega)]
            exact this
      · rw [f_Wall_tellFrost_10, if_neg (by rw [nI_leS (by omega) (by omega)]; omega), t_ixn S.ws.tc hi (by omega), nI_clampS (by omega)]
        simp only [Nat.reduceAdd, Option.bind_some, cq, t_is tc, e, nI_inc]
    have hmax : f_Math_max T w' (A.gd i) (Int32.ofInt (dpz A.E A.C i)) = some (mxN (A.gd i) (Int32.ofInt (dpz A.E A.C i))) := by
      unfold f_Math_max f_Math_max_10 mxN
      by_cases h : A.gd i < Int32.ofInt (dpz A.E A.C i)
      · rw [if_pos h, if_pos h]
      · rw [if_neg h, if_neg h]
    have F1 : Fx 41 (50 + 3 * n) [22, 23, 24] [] [] w' (x_sI w' 23 (46 + 2 * i) (mxN (A.gd i) (Int32.ofInt (dpz A.E A.C i)))) := (Fx.refl _ _ _ _ _ w').sI (by decide) (by omega) (by omega)
    have i24 : x_I (x_sI w' 23 (46 + 2 * i) (mxN (A.gd i) (Int32.ofInt (dpz A.E A.C i)))) 24 (46 + 2 * i) = A.fz i := by rw [x_I_sI, if_neg (by omega), v3]
    have i0 : x_I (x_sI w' 23 (46 + 2 * i) (mxN (A.gd i) (Int32.ofInt (dpz A.E A.C i)))) 0 (46 + 2 * i) = A.wm i := by rw [x_I_sI, if_neg (by omega), v0]
    have head : f_Cell_endHour T w' (46 + 2 * i) = if A.fz i = 0 then f_Cell_endHour_49 T (x_sI w' 23 (46 + 2 * i) (mxN (A.gd i) (Int32.ofInt (dpz A.E A.C i)))) (46 + 2 * i) (Int32.ofInt (dpz A.E A.C i)) else if A.wm i < 0 then f_Cell_endHour_49 T (x_sI w' 23 (46 + 2 * i) (mxN (A.gd i) (Int32.ofInt (dpz A.E A.C i)))) (46 + 2 * i) (Int32.ofInt (dpz A.E A.C i)) else some (x_sI (x_sI (x_sI w' 23 (46 + 2 * i) (mxN (A.gd i) (Int32.ofInt (dpz A.E A.C i)))) 24 (46 + 2 * i) 0) 22 (46 + 2 * i) (A.ps i + 1)) := by
      unfold f_Cell_endHour f_Cell_endHour_68
      simp only [t_is tc, cd, Option.bind_some, v2, hmax, i24, i0]
      have : x_I (x_sI (x_sI w' 23 (46 + 2 * i) (mxN (A.gd i) (Int32.ofInt (dpz A.E A.C i)))) 24 (46 + 2 * i) 0) 22 (46 + 2 * i) = A.ps i := by rw [x_I_sI, if_neg (by omega), x_I_sI, if_neg (by omega), v1]
      simp only [this]
    have e49 : f_Cell_endHour_49 T (x_sI w' 23 (46 + 2 * i) (mxN (A.gd i) (Int32.ofInt (dpz A.E A.C i)))) (46 + 2 * i) (Int32.ofInt (dpz A.E A.C i)) = if 0 ≤ A.wm i then some (x_sI w' 23 (46 + 2 * i) (mxN (A.gd i) (Int32.ofInt (dpz A.E A.C i)))) else if Int32.ofInt (dpz A.E A.C i) < 9000 then some (x_sI w' 23 (46 + 2 * i) (mxN (A.gd i) (Int32.ofInt (dpz A.E A.C i)))) else some (x_sI (x_sI w' 23 (46 + 2 * i) (mxN (A.gd i) (Int32.ofInt (dpz A.E A.C i)))) 24 (46 + 2 * i) 1) := by
      unfold f_Cell_endHour_49 f_Cell_endHour_68
      simp only [t_is tc, Option.bind_some, i0]
    have u0 : ∀ h k, h ≠ 46 + 2 * i → x_I (x_sI w' 23 (46 + 2 * i) (mxN (A.gd i) (Int32.ofInt (dpz A.E A.C i)))) k h = x_I w' k h := fun h k hh => by rw [x_I_sI, if_neg (fun z => hh z.2)]
    have u22 : x_I (x_sI w' 23 (46 + 2 * i) (mxN (A.gd i) (Int32.ofInt (dpz A.E A.C i)))) 22 (46 + 2 * i) = A.ps i := by rw [x_I_sI, if_neg (by omega), v1]
    have u23 : x_I (x_sI w' 23 (46 + 2 * i) (mxN (A.gd i) (Int32.ofInt (dpz A.E A.C i)))) 23 (46 + 2 * i) = mxN (A.gd i) (Int32.ofInt (dpz A.E A.C i)) := by rw [x_I_sI, if_pos ⟨rfl, rfl⟩]
    generalize hw2 : x_sI w' 23 (46 + 2 * i) (mxN (A.gd i) (Int32.ofInt (dpz A.E A.C i))) = w2 at *
    have hlt : A.wm i < 0 ↔ ¬ 0 ≤ A.wm i := by rw [z_lt, z_le]; omega
    rcases hfz with hz | hz
    · -- not frozen
      have p0 : psN (A.fz i) (A.wm i) (A.ps i) = A.ps i := if_pos hz
      by_cases a : 0 ≤ A.wm i
      · have f0 : fzN (A.fz i) (A.wm i) (Int32.ofInt (dpz A.E A.C i)) = 0 := by unfold fzN; rw [if_pos hz, if_pos a]
        exact fin w2 (by rw [head, if_pos hz, e49, if_pos a]) F1 u0 (by rw [u22, p0]) u23 (by rw [i24, f0, hz])
      · by_cases b : Int32.ofInt (dpz A.E A.C i) < 9000
        · have f0 : fzN (A.fz i) (A.wm i) (Int32.ofInt (dpz A.E A.C i)) = 0 := by unfold fzN; rw [if_pos hz, if_neg a, if_pos b]
          exact fin w2 (by rw [head, if_pos hz, e49, if_neg a, if_pos b]) F1 u0 (by rw [u22, p0]) u23 (by rw [i24, f0, hz])
        · have f0 : fzN (A.fz i) (A.wm i) (Int32.ofInt (dpz A.E A.C i)) = 1 := by unfold fzN; rw [if_pos hz, if_neg a, if_neg b]
          exact fin (x_sI w2 24 (46 + 2 * i) 1) (by rw [head, if_pos hz, e49, if_neg a, if_neg b]) (F1.sI (by decide) (by omega) (by omega)) (fun h k hh => by rw [x_I_sI, if_neg (fun z => hh z.2), u0 h k hh]) (by rw [x_I_sI, if_neg (by omega), u22, p0]) (by rw [x_I_sI, if_neg (by omega), u23]) (by rw [x_I_sI, if_pos ⟨rfl, rfl⟩, f0])
    · have hz0 : ¬ A.fz i = 0 := by rw [hz]; decide
      by_cases a : 0 ≤ A.wm i
      · have b : ¬ A.wm i < 0 := fun z => hlt.mp z a
        have f0 : fzN (A.fz i) (A.wm i) (Int32.ofInt (dpz A.E A.C i)) = 0 := by unfold fzN; rw [if_neg hz0, if_neg b]
        have p0 : psN (A.fz i) (A.wm i) (A.ps i) = A.ps i + 1 := by unfold psN; rw [if_neg hz0, if_neg b]
        exact fin (x_sI (x_sI w2 24 (46 + 2 * i) 0) 22 (46 + 2 * i) (A.ps i + 1)) (by rw [head, if_neg hz0, if_neg b]) ((F1.sI (by decide) (by omega) (by omega)).sI (by decide) (by omega) (by omega)) (fun h k hh => by rw [x_I_sI, if_neg (fun z => hh z.2), x_I_sI, if_neg (fun z => hh z.2), u0 h k hh]) (by rw [x_I_sI, if_pos ⟨rfl, rfl⟩, p0]) (by rw [x_I_sI, if_neg (by omega), x_I_sI, if_neg (by omega), u23]) (by rw [x_I_sI, if_neg (by omega), x_I_sI, if_pos ⟨rfl, rfl⟩, f0])
      · have b : A.wm i < 0 := hlt.mpr a
        have f0 : fzN (A.fz i) (A.wm i) (Int32.ofInt (dpz A.E A.C i)) = A.fz i := by unfold fzN; rw [if_neg hz0, if_pos b]
        have p0 : psN (A.fz i) (A.wm i) (A.ps i) = A.ps i := by unfold psN; rw [if_neg hz0, if_pos b]
        by_cases c : Int32.ofInt (dpz A.E A.C i) < 9000
        · exact fin w2 (by rw [head, if_neg hz0, if_pos b, e49, if_neg a, if_pos c]) F1 u0 (by rw [u22, p0]) u23 (by rw [i24, f0])
        · exact fin (x_sI w2 24 (46 + 2 * i) 1) (by rw [head, if_neg hz0, if_pos b, e49, if_neg a, if_neg c]) (F1.sI (by decide) (by omega) (by omega)) (fun h k hh => by rw [x_I_sI, if_neg (fun z => hh z.2), u0 h k hh]) (by rw [x_I_sI, if_neg (by omega), u22, p0]) (by rw [x_I_sI, if_neg (by omega), u23]) (by rw [x_I_sI, if_pos ⟨rfl, rfl⟩, f0, hz])
  · intro w' fuel hI
    show wp (f_Wall_tellFrost_10 T (fuel + 1) w' _ _ _) _
    rw [f_Wall_tellFrost_10, if_pos (by rw [nI_leS (by omega) (by omega)]; omega), wp_some]
    exact hI
  · rw [if_neg (by omega), if_neg (by omega), if_neg (by omega)]
    exact ⟨S.d.ps k hk, S.d.gd k hk, S.d.fz k hk⟩
end PSS
