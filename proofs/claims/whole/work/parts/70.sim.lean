/-! THE STATE BOTH SIDES STAND FOR; THE CHECKS -/
structure Ab where
  E : En
  C : Ce
  wm : Nat → Int32
  ps : Nat → Int32
  fz : Nat → Int32
  gd : Nat → Int32
  gn : Nat
  g1 : Nat → Int32
  g2 : Nat → Int32
  g3 : Nat → Int32
  g4 : Nat → Int32
  hr : Nat
  mo : Int32
  st : Int64
  og : Int64
  oc : Int64
  ig : Int64
  ic : Int64
structure AB (n : Nat) (A : Ab) : Prop where
  e : EB A.E
  k : KB A.E n A.C
  fz : ∀ k, k < n → A.fz k = 0 ∨ A.fz k = 1
  gn : A.gn ≤ 6
  g4 : ∀ i, i < A.gn → 1 ≤ (A.g4 i).toInt ∧ (A.g4 i).toInt ≤ 1000
  hr : A.hr ≤ 10000
  mo : 0 ≤ A.mo.toInt ∧ A.mo.toInt ≤ 1000000
/-- what never changes in the class's world -/
structure CT (T : x_T) (w : x_W) (n : Nat) : Prop where
  t0 : T 0 = some (0, 0)
  r7 : x_R w 7 0 = some 1
  r8 : x_R w 8 0 = some 26
  r9 : x_R w 9 0 = some 36
  r10 : x_R w 10 0 = some 41
  r11 : x_R w 11 0 = some (50 + 3 * n)
  t1 : T 1 = some (103, 6)
  q1 : ∀ m, m < 6 → x_Q w 1 m = some (2 + 4 * m)
  t36 : T 36 = some (6, 0)
  r38 : x_R w 38 36 = some 37
  r39 : x_R w 39 36 = some 38
  r40 : x_R w 40 36 = some 39
  r41 : x_R w 41 36 = some 40
  t37 : T 37 = some (100, 6)
  t38 : T 38 = some (100, 6)
  t39 : T 39 = some (100, 6)
  t40 : T 40 = some (100, 6)
  tt : T (50 + 3 * n) = some (8, 0)
  r54 : x_R w 54 (50 + 3 * n) = some (51 + 3 * n)
  r53 : x_R w 53 (50 + 3 * n) = some (60 + 6 * n)
  r52 : x_R w 52 (50 + 3 * n) = some (61 + 6 * n)
  ta : T (60 + 6 * n) = some (100, 5)
  tb : T (61 + 6 * n) = some (100, 5)
  to : T (62 + 6 * n) = some (101, 1)
theorem CT.of {T : x_T} {w w' : x_W} {n : Nat} (S : CT T w n) (hR : ∀ k h, k ≠ 17 → k ≠ 31 → k ≠ 32 → x_R w' k h = x_R w k h) (hQ : ∀ i j, x_Q w' i j = x_Q w i j) : CT T w' n := by
  refine ⟨S.t0, ?_, ?_, ?_, ?_, ?_, S.t1, fun m hm => ?_, S.t36, ?_, ?_, ?_, ?_, S.t37, S.t38, S.t39, S.t40, S.tt, ?_, ?_, ?_, S.ta, S.tb, S.to⟩
  · rw [hR _ _ (by decide) (by decide) (by decide)]; exact S.r7
  · rw [hR _ _ (by decide) (by decide) (by decide)]; exact S.r8
  · rw [hR _ _ (by decide) (by decide) (by decide)]; exact S.r9
  · rw [hR _ _ (by decide) (by decide) (by decide)]; exact S.r10
  · rw [hR _ _ (by decide) (by decide) (by decide)]; exact S.r11
  · rw [hQ]; exact S.q1 m hm
  · rw [hR _ _ (by decide) (by decide) (by decide)]; exact S.r38
  · rw [hR _ _ (by decide) (by decide) (by decide)]; exact S.r39
  · rw [hR _ _ (by decide) (by decide) (by decide)]; exact S.r40
  · rw [hR _ _ (by decide) (by decide) (by decide)]; exact S.r41
  · rw [hR _ _ (by decide) (by decide) (by decide)]; exact S.r54
  · rw [hR _ _ (by decide) (by decide) (by decide)]; exact S.r53
  · rw [hR _ _ (by decide) (by decide) (by decide)]; exact S.r52
/-- the data of the class that are no environment and no cells -/
structure DC (w : x_W) (n : Nat) (A : Ab) : Prop where
  wm : ∀ k, k < n → x_I w 0 (46 + 2 * k) = A.wm k
  ps : ∀ k, k < n → x_I w 22 (46 + 2 * k) = A.ps k
  fz : ∀ k, k < n → x_I w 24 (46 + 2 * k) = A.fz k
  gd : ∀ k, k < n → x_I w 23 (46 + 2 * k) = A.gd k
  gn : x_I w 42 36 = nI A.gn
  g1 : ∀ i, i < A.gn → x_A w 37 i = A.g1 i
  g2 : ∀ i, i < A.gn → x_A w 38 i = A.g2 i
  g3 : ∀ i, i < A.gn → x_A w 39 i = A.g3 i
  g4 : ∀ i, i < A.gn → x_A w 40 i = A.g4 i
  hr : x_I w 12 0 = nI A.hr
  mo : x_I w 13 0 = A.mo
  st : x_J w 14 0 = A.st
  og : x_J w 15 42 = A.og
  oc : x_J w 16 42 = A.oc
  ig : x_J w 15 43 = A.ig
  ic : x_J w 16 43 = A.ic
structure SC (T : x_T) (w : x_W) (n : Nat) (A : Ab) : Prop where
  ws : WS T w 41 n
  wt : WS T w (51 + 3 * n) n
  ct : CT T w n
  e : EC T w A.E
  k : KC w 41 n A.C
  d : DC w n A
structure DR (w : x_W) (n : Nat) (A : Ab) : Prop where
  wm : ∀ k, k < n → x_A w 11 k = A.wm k
  ps : ∀ k, k < n → x_A w 12 k = A.ps k
  fz : ∀ k, k < n → x_A w 13 k = A.fz k
  gd : ∀ k, k < n → x_A w 14 k = A.gd k
  gn : x_I w 91 0 = nI A.gn
  g1 : ∀ i, i < A.gn → x_A w 23 i = A.g1 i
  g2 : ∀ i, i < A.gn → x_A w 24 i = A.g2 i
  g3 : ∀ i, i < A.gn → x_A w 25 i = A.g3 i
  g4 : ∀ i, i < A.gn → x_A w 26 i = A.g4 i
  hr : x_I w 96 0 = nI A.hr
  mo : x_I w 97 0 = A.mo
  st : x_J w 102 0 = A.st
  og : x_J w 98 0 = A.og
  oc : x_J w 100 0 = A.oc
  ig : x_J w 99 0 = A.ig
  ic : x_J w 101 0 = A.ic
structure SR (T : x_T) (w : x_W) (n : Nat) (A : Ab) : Prop where
  e : ER T w A.E n
  k : KR w n A.C
  d : DR w n A
def Sim (T1 T2 : x_T) (n : Nat) (w1 w2 : x_W) : Prop := ∃ A, AB n A ∧ SC T1 w1 n A ∧ SR T2 w2 n A
/-- frames for all of it -/
theorem SC.of {T : x_T} {w w' : x_W} {n : Nat} {A : Ab} (S : SC T w n A) (hI : ∀ k h, x_I w' k h = x_I w k h) (hJ : ∀ k h, x_J w' k h = x_J w k h) (hR : ∀ k h, x_R w' k h = x_R w k h) (hQ : ∀ i j, x_Q w' i j = x_Q w i j) (hA : ∀ i j, x_A w' i j = x_A w i j) : SC T w' n A := by
  refine ⟨S.ws.of (fun k h _ _ _ => hR k h) hQ, S.wt.of (fun k h _ _ _ => hR k h) hQ, S.ct.of (fun k h _ _ _ => hR k h) hQ, S.e.of (fun k h _ => hI k h) (fun k h _ _ _ => hR k h) (fun i j _ => hA i j), ⟨fun k hk => by rw [hR]; exact S.k.mt k hk, fun k hk => by rw [hI]; exact S.k.th k hk, fun k hk => by rw [hI]; exact S.k.lk k hk, fun k hk => by rw [hI]; exact S.k.hd k hk⟩, ?_⟩
  have D := S.d
  exact ⟨fun k hk => by rw [hI]; exact D.wm k hk, fun k hk => by rw [hI]; exact D.ps k hk, fun k hk => by rw [hI]; exact D.fz k hk, fun k hk => by rw [hI]; exact D.gd k hk, by rw [hI]; exact D.gn, fun i hi => by rw [hA]; exact D.g1 i hi, fun i hi => by rw [hA]; exact D.g2 i hi, fun i hi => by rw [hA]; exact D.g3 i hi, fun i hi => by rw [hA]; exact D.g4 i hi, by rw [hI]; exact D.hr, by rw [hI]; exact D.mo, by rw [hJ]; exact D.st, by rw [hJ]; exact D.og, by rw [hJ]; exact D.oc, by rw [hJ]; exact D.ig, by rw [hJ]; exact D.ic⟩
theorem SC.out {T : x_T} {w : x_W} {n : Nat} {A : Ab} (S : SC T w n A) (h i : Nat) (v : Int64) : SC T (x_sB w h i v) n A := S.of (fun _ _ => rfl) (fun _ _ => rfl) (fun _ _ => rfl) (fun _ _ => rfl) (fun _ _ => rfl)
theorem SR.th {T : x_T} {w : x_W} {n : Nat} {A : Ab} (S : SR T w n A) (v : Int32) : SR T (x_sI w 64 0 v) n A := by
  have X : Gx [64] [] [] [] w (x_sI w 64 0 v) := (Gx.refl _ _ _ _ w).sI (by decide)
  have D := S.d
  exact ⟨X.er S.e, X.kr S.k, ⟨D.wm, D.ps, D.fz, D.gd, (X.I _ _ (by decide)).trans D.gn, D.g1, D.g2, D.g3, D.g4, (X.I _ _ (by decide)).trans D.hr, (X.I _ _ (by decide)).trans D.mo, D.st, D.og, D.oc, D.ig, D.ic⟩⟩
theorem q_within (T : x_T) (w : x_W) (v a b : Int32) : f_WD_requireWithin T w v a b = some (if a.toInt ≤ v.toInt ∧ v.toInt ≤ b.toInt then .ok () else .error 1) := by
  unfold f_WD_requireWithin f_WD_requireWithin_10
  simp only [z_lt, z_le]
  by_cases h1 : v.toInt < a.toInt
  · rw [if_pos h1, if_neg (by omega)]
  · rw [if_neg h1]
    by_cases h2 : v.toInt ≤ b.toInt
    · rw [if_pos h2, if_pos (by omega)]
    · rw [if_neg h2, if_neg (by omega)]
theorem q_in (T : x_T) (w : x_W) (v a b : Int64) : f_Mod_in T w v a b = some (if a.toInt ≤ v.toInt ∧ v.toInt ≤ b.toInt then 1 else 0) := by
  unfold f_Mod_in f_Mod_in_17 f_Mod_in_18 x_bo
  simp only [lg_cmp_lt, lg_cmp_gt, z_Lt]
  by_cases h1 : v.toInt < a.toInt
  · rw [if_pos h1, if_neg (show ¬ (a.toInt ≤ v.toInt ∧ v.toInt ≤ b.toInt) by omega)]; rfl
  · rw [if_neg h1]
    by_cases h2 : b.toInt < v.toInt
    · rw [if_pos h2, if_neg (show ¬ (a.toInt ≤ v.toInt ∧ v.toInt ≤ b.toInt) by omega)]; rfl
    · rw [if_neg h2, if_pos (show a.toInt ≤ v.toInt ∧ v.toInt ≤ b.toInt by omega)]; rfl
theorem q_isCell {T : x_T} {w : x_W} {E : En} {n : Nat} (G : ER T w E n) (n1 : 1 ≤ n) (n12 : n ≤ 12) (v : Int32) : f_Mod_isCell T w 0 v = some (if 0 ≤ v.toInt ∧ v.toInt ≤ (n : Int) - 1 then 1 else 0) := by
  unfold f_Mod_isCell
  rw [G.r.i, Option.bind_some, q_in, G.n, z_nI, z_64 (by omega) (by omega), show (1 : Int64) = Int64.ofInt 1 from rfl, z_Sub, z_T (by omega) (by omega), Int32.toInt_toInt64]
  unfold x_bo
  by_cases h : (0 : Int64).toInt ≤ v.toInt ∧ v.toInt ≤ (n : Int) - 1
  · rw [if_pos h]
    rw [show (0 : Int64).toInt = 0 from rfl] at h
    rw [if_pos h]
    rfl
  · rw [if_neg h]
    rw [show (0 : Int64).toInt = 0 from rfl] at h
    rw [if_neg h]
    rfl
theorem z_isN {p : Int32} {m : Int} (h : 0 ≤ p.toInt ∧ p.toInt ≤ m) : ∃ k : Nat, p = nI k ∧ (k : Int) ≤ m ∧ p.toInt = k := by
  refine ⟨p.toInt.toNat, ?_, by omega, by omega⟩
  rw [z_nI, Int.toNat_of_nonneg h.1, z_o]
theorem l0 : (0 : Int32).toInt = 0 := rfl
theorem l1 : (1 : Int32).toInt = 1 := rfl
theorem l5 : (5 : Int32).toInt = 5 := rfl
theorem l23 : (23 : Int32).toInt = 23 := rfl
theorem l48 : (48 : Int32).toInt = 48 := rfl
theorem l240 : (240 : Int32).toInt = 240 := rfl
theorem l1000 : (1000 : Int32).toInt = 1000 := rfl
theorem l5000 : (5000 : Int32).toInt = 5000 := rfl
theorem lm5000 : (-5000 : Int32).toInt = -5000 := rfl
theorem l10000 : (10000 : Int32).toInt = 10000 := rfl
theorem l100000 : (100000 : Int32).toInt = 100000 := rfl
theorem l1000000 : (1000000 : Int32).toInt = 1000000 := rfl
theorem L0 : (0 : Int64).toInt = 0 := rfl
theorem L1 : (1 : Int64).toInt = 1 := rfl
theorem L5 : (5 : Int64).toInt = 5 := rfl
theorem L23 : (23 : Int64).toInt = 23 := rfl
theorem L48 : (48 : Int64).toInt = 48 := rfl
theorem L240 : (240 : Int64).toInt = 240 := rfl
theorem L1000 : (1000 : Int64).toInt = 1000 := rfl
theorem L5000 : (5000 : Int64).toInt = 5000 := rfl
theorem Lm5000 : (-5000 : Int64).toInt = -5000 := rfl
theorem L10000 : (10000 : Int64).toInt = 10000 := rfl
theorem L100000 : (100000 : Int64).toInt = 100000 := rfl
theorem L1000000 : (1000000 : Int64).toInt = 1000000 := rfl
macro "ck " "[" ls:Lean.Parser.Tactic.simpLemma,* "]" : tactic => `(tactic| simp only [q_within, q_in, l0, l1, l5, l23, l48, l240, l1000, l5000, lm5000, l10000, l100000, l1000000, L0, L1, L5, L23, L48, L240, L1000, L5000, Lm5000, L10000, L100000, L1000000, Int32.toInt_toInt64, Option.bind_some, $ls,*])
theorem one_ne : ((1 : Int32) = 0) = False := by decide
theorem two_ne : ((2 : Int32) = 0) = False := by decide
theorem one_le : ((1 : Int32) ≤ 0) = False := by decide
theorem two_le : ((2 : Int32) ≤ 0) = False := by decide
theorem zer_le : ((0 : Int32) ≤ 0) = True := by decide
theorem zer_eq : ((0 : Int32) = 0) = True := by decide
section MAT
variable {T : x_T} {w : x_W} {n : Nat} {A : Ab}
theorem q_mat (S : SC T w n A) (p : Int32) : f_WD_materialOf T w 0 p = some (if 0 ≤ p.toInt ∧ p.toInt ≤ 5 then .ok (2 + 4 * p.toInt.toNat) else .error 1) := by
  unfold f_WD_materialOf
  have e5 : (nI 6 - 1 : Int32).toInt = 5 := rfl
  ck [t_is S.ct.t0, S.ct.r7, t_len S.ct.t1, e5]
  by_cases h : 0 ≤ p.toInt ∧ p.toInt ≤ 5
  · obtain ⟨m, rfl, hm, hm2⟩ := z_isN h
    rw [if_pos h, if_pos h, hm2]
    simp only [x_ec, t_ixn S.ct.t1 (show m < 6 by omega) (by omega), nI_clampS (show m < 100000 by omega), S.ct.q1 m (by omega), Option.bind_some, Int.toNat_natCast]
  · rw [if_neg h, if_neg h]
    rfl
theorem q_cell (S : SC T w n A) (p : Int32) : f_WD_cellAt T w 0 p = some (if 0 ≤ p.toInt ∧ p.toInt ≤ (n : Int) - 1 then .ok (46 + 2 * p.toInt.toNat) else .error 1) := by
  unfold f_WD_cellAt
  have n1 := S.ws.n1
  have n12 := S.ws.n12
  have e5 : (nI n - 1 : Int32).toInt = (n : Int) - 1 := by rw [nI_sub1 (by omega), nI_intS (by omega)]; omega
  ck [t_is S.ct.t0, S.ct.r10, t_is S.ws.t, S.ws.r55, t_len S.ws.tc, e5]
  by_cases h : 0 ≤ p.toInt ∧ p.toInt ≤ (n : Int) - 1
  · obtain ⟨m, rfl, hm, hm2⟩ := z_isN h
    rw [if_pos h, if_pos h, hm2]
    simp only [x_ec, t_ixn S.ws.tc (show m < n by omega) (by omega), nI_clampS (show m < 100000 by omega), (S.ws.c m (by omega)).2, Option.bind_some, Int.toNat_natCast]
  · rw [if_neg h, if_neg h]
    rfl
end MAT
