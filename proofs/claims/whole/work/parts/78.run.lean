/-! AN HOUR THAT PASSES: the reference; run -/
section RNS
variable {T T1 T2 : x_T} {w w' : x_W} {n : Nat} {A : Ab}
theorem nar0 : vp_nar .boolean (0 : Int32) = 0 := by decide
theorem nar1 : vp_nar .boolean (1 : Int32) = 1 := by decide
theorem r_fits (R : SR T w n A) (n1 : 1 ≤ n) (n12 : n ≤ 12) (hg : A.gn ≤ 6) (hg4 : ∀ i, i < A.gn → 1 ≤ (A.g4 i).toInt ∧ (A.g4 i).toInt ≤ 1000) (hm : 0 ≤ A.mo.toInt ∧ A.mo.toInt ≤ 1000000) (d : Int32) : ∀ i fuel, i ≤ A.gn → i < fuel → f_Mod_frostAndMould_136 T fuel w 0 (nI (n - 1)) d (ffu A.g1 A.g2 A.g3 A.g4 d (A.wm (n - 1)) (A.gn - i) i) (Int32.ofInt ((i : Int) - 1)) = some (x_sI (x_sI w 97 0 (A.mo + ffu A.g1 A.g2 A.g3 A.g4 d (A.wm (n - 1)) A.gn 0)) 97 0 (moN A.mo (ffu A.g1 A.g2 A.g3 A.g4 d (A.wm (n - 1)) A.gn 0))) := by
  have hR := R.e.r
  intro i
  induction i with
  | zero =>
    intro fuel _ hf
    obtain ⟨fuel, rfl⟩ : ∃ q, fuel = q + 1 := ⟨fuel - 1, by omega⟩
    rw [f_Mod_frostAndMould_136, if_pos (by decide), hR.i, Nat.sub_zero]
    unfold f_Mod_frostAndMould_239
    simp only [Option.bind_some, R.d.mo, hR.i]
    have hb := ffu_b (d := d) (w := A.wm (n - 1)) (g1 := A.g1) (g2 := A.g2) (g3 := A.g3) hg4 A.gn 0 (by omega)
    generalize ffu A.g1 A.g2 A.g3 A.g4 d (A.wm (n - 1)) A.gn 0 = q at hb
    have hqb : -1 ≤ q.toInt ∧ q.toInt ≤ 1000 := by
      rcases hb with z | z
      · rw [z, show (-1 : Int32).toInt = -1 from rfl]; omega
      · omega
    have hs : (A.mo + q).toInt = A.mo.toInt + q.toInt := z_add_toInt (by omega) (by omega)
    have h97 : x_I (x_sI w 97 0 (A.mo + q)) 97 0 = A.mo + q := by rw [x_I_sI, if_pos ⟨rfl, rfl⟩]
    simp only [h97]
    unfold moN
    have es : A.mo + q = Int32.ofInt (A.mo.toInt + q.toInt) := by rw [← hs, z_o]
    by_cases h0 : 0 ≤ A.mo.toInt + q.toInt
    · rw [if_pos (by rw [z_le, hs]; exact h0)]
      by_cases h1 : A.mo.toInt + q.toInt ≤ 1000000
      · rw [if_pos (by rw [z_le, hs]; exact h1), show max 0 (min 1000000 (A.mo.toInt + q.toInt)) = A.mo.toInt + q.toInt by omega, ← es]
      · rw [if_neg (by rw [z_le, hs]; exact h1), show max 0 (min 1000000 (A.mo.toInt + q.toInt)) = 1000000 by omega]
        rfl
    · rw [if_neg (by rw [z_le, hs]; exact h0), show max 0 (min 1000000 (A.mo.toInt + q.toInt)) = 0 by omega]
      rfl
  | succ i ih =>
    intro fuel hi hf
    obtain ⟨fuel, rfl⟩ : ∃ q, fuel = q + 1 := ⟨fuel - 1, by omega⟩
    have e := ih fuel (by omega) (by omega)
    have ei : Int32.ofInt (((i + 1 : Nat) : Int) - 1) = nI i := by rw [z_nI]; congr 1; omega
    have ed : nI i + (-1) = Int32.ofInt ((i : Int) - 1) := by rw [z_nI, show (-1 : Int32) = Int32.ofInt (-1) from rfl, z_add]; congr 1
    rw [ei, f_Mod_frostAndMould_136, if_neg (by rw [show (0 : Int32) = nI 0 from rfl, nI_ltS (by omega) (by omega)]; omega), hR.i]
    simp only [f_Mod_frostAndMould_191, f_Mod_frostAndMould_192, Option.bind_some, hR.r92, hR.r76, hR.r93, hR.r94, hR.r95, t_ixn hR.a23 (show i < 6 by omega) (by omega), t_ixn hR.a24 (show i < 6 by omega) (by omega), t_ixn hR.a25 (show i < 6 by omega) (by omega), t_ixn hR.a26 (show i < 6 by omega) (by omega), t_ixn hR.a11 (show n - 1 < 12 by omega) (by omega), nI_clampS (show i < 100000 by omega), nI_clampS (show n - 1 < 100000 by omega), R.d.g1 i (by omega), R.d.g2 i (by omega), R.d.g3 i (by omega), R.d.g4 i (by omega), R.d.wm (n - 1) (by omega), q_in, Int32.toInt_toInt64, ed]
    have hf2 : ffu A.g1 A.g2 A.g3 A.g4 d (A.wm (n - 1)) (A.gn - i) i = if d < A.g1 i then ffu A.g1 A.g2 A.g3 A.g4 d (A.wm (n - 1)) (A.gn - (i + 1)) (i + 1) else if A.wm (n - 1) < A.g2 i then ffu A.g1 A.g2 A.g3 A.g4 d (A.wm (n - 1)) (A.gn - (i + 1)) (i + 1) else if A.g3 i < A.wm (n - 1) then ffu A.g1 A.g2 A.g3 A.g4 d (A.wm (n - 1)) (A.gn - (i + 1)) (i + 1) else A.g4 i := by
      rw [show A.gn - i = (A.gn - (i + 1)) + 1 by omega]
      rfl
    rw [hf2] at e
    by_cases a : d < A.g1 i
    · rw [if_pos a] at e ⊢
      exact e
    · rw [if_neg a] at e ⊢
      by_cases b : A.wm (n - 1) < A.g2 i
      · rw [if_pos b] at e
        rw [if_neg (show ¬ ((A.g2 i).toInt ≤ (A.wm (n - 1)).toInt ∧ (A.wm (n - 1)).toInt ≤ (A.g3 i).toInt) by rw [z_lt] at b; omega), if_pos rfl]
        exact e
      · rw [if_neg b] at e
        by_cases c : A.g3 i < A.wm (n - 1)
        · rw [if_pos c] at e
          rw [if_neg (show ¬ ((A.g2 i).toInt ≤ (A.wm (n - 1)).toInt ∧ (A.wm (n - 1)).toInt ≤ (A.g3 i).toInt) by rw [z_lt] at c; omega), if_pos rfl]
          exact e
        · rw [if_neg c] at e
          rw [if_pos (show (A.g2 i).toInt ≤ (A.wm (n - 1)).toInt ∧ (A.wm (n - 1)).toInt ≤ (A.g3 i).toInt by rw [z_lt] at b c; omega), if_neg (by decide)]
          exact e
/-- frost and mould of the reference -/
theorem r_frost (R : SR T w n A) (B : AB n A) : wp (f_Mod_frostAndMould T w 0) (fun w' => Gx [97] [] [12, 13, 14] [] w w' ∧ (∀ k, k < n → x_A w' 12 k = psN (A.fz k) (A.wm k) (A.ps k) ∧ x_A w' 14 k = mxN (A.gd k) (Int32.ofInt (dpz A.E A.C k)) ∧ x_A w' 13 k = fzN (A.fz k) (A.wm k) (Int32.ofInt (dpz A.E A.C k))) ∧ x_I w' 97 0 = moN A.mo (ffu A.g1 A.g2 A.g3 A.g4 (Int32.ofInt (dpz A.E A.C (n - 1))) (A.wm (n - 1)) A.gn 0)) := by
  have n1 := B.k.n1
  have n12 := B.k.n12
  unfold f_Mod_frostAndMould
  refine loop_up (N := n) (by omega) (fun fuel w' i => f_Mod_frostAndMould_2 T fuel w' 0 i) (fun j w' => Gx [97] [] [12, 13, 14] [] w w' ∧ (x_I w' 97 0 = x_I w 97 0) ∧ ∀ k, k < n → x_A w' 12 k = (if k < j then psN (A.fz k) (A.wm k) (A.ps k) else A.ps k) ∧ x_A w' 14 k = (if k < j then mxN (A.gd k) (Int32.ofInt (dpz A.E A.C k)) else A.gd k) ∧ x_A w' 13 k = (if k < j then fzN (A.fz k) (A.wm k) (Int32.ofInt (dpz A.E A.C k)) else A.fz k)) _ ?_ ?_ w ⟨Gx.refl .., rfl, fun k hk => ?_⟩
  · intro i w' fuel hi ⟨F, hmo, hv⟩
    have G' := F.er R.e
    have hR := G'.r
    have rd := r_damp B.e G' (F.kr R.k) B.k hi
    obtain ⟨v1, v2, v3⟩ := hv i hi
    rw [if_neg (by omega)] at v1 v2 v3
    have v0 : x_A w' 11 i = A.wm i := (F.A 11 _ (by decide)).trans (R.d.wm i hi)
    have hfz := B.fz i hi
    have fin : ∀ w2, f_Mod_frostAndMould_2 T (fuel + 1) w' 0 (nI i) = f_Mod_frostAndMould_2 T fuel w2 0 (nI (i + 1)) → Gx [97] [] [12, 13, 14] [] w' w2 → x_I w2 97 0 = x_I w' 97 0 → (∀ h k, k ≠ i → x_A w2 h k = x_A w' h k) → x_A w2 12 i = psN (A.fz i) (A.wm i) (A.ps i) → x_A w2 14 i = mxN (A.gd i) (Int32.ofInt (dpz A.E A.C i)) → x_A w2 13 i = fzN (A.fz i) (A.wm i) (Int32.ofInt (dpz A.E A.C i)) → ∃ s', (Gx [97] [] [12, 13, 14] [] w s' ∧ (x_I s' 97 0 = x_I w 97 0) ∧ ∀ k, k < n → x_A s' 12 k = (if k < i + 1 then psN (A.fz k) (A.wm k) (A.ps k) else A.ps k) ∧ x_A s' 14 k = (if k < i + 1 then mxN (A.gd k) (Int32.ofInt (dpz A.E A.C k)) else A.gd k) ∧ x_A s' 13 k = (if k < i + 1 then fzN (A.fz k) (A.wm k) (Int32.ofInt (dpz A.E A.C k)) else A.fz k)) ∧ f_Mod_frostAndMould_2 T (fuel + 1) w' 0 (nI i) = f_Mod_frostAndMould_2 T fuel s' 0 (nI (i + 1)) := by
      intro w2 e F2 hm2 o u1 u2 u3
      refine ⟨w2, ⟨F.trans F2, hm2.trans hmo, fun k hk => ?_⟩, e⟩
      by_cases ek : k = i
      · subst ek
        rw [if_pos (by omega), if_pos (by omega), if_pos (by omega)]
        exact ⟨u1, u2, u3⟩
      · rw [o _ _ ek, o _ _ ek, o _ _ ek]
        have := hv k hk
        by_cases e2 : k < i
        · rw [if_pos e2, if_pos e2, if_pos e2] at this
          rw [if_pos (by omega), if_pos (by omega), if_pos (by omega)]
          exact this
        · rw [if_neg e2, if_neg e2, if_neg e2] at this
          rw [if_neg (by omega), if_neg (by omega), if_neg (by omega)]
          exact this
    have w5e : (if Int32.ofInt (dpz A.E A.C i) ≤ A.gd i then A.gd i else Int32.ofInt (dpz A.E A.C i)) = mxN (A.gd i) (Int32.ofInt (dpz A.E A.C i)) := by
      unfold mxN
      by_cases h : A.gd i < Int32.ofInt (dpz A.E A.C i)
      · rw [if_pos h, if_neg (by rw [z_lt] at h; rw [z_le]; omega)]
      · rw [if_neg h, if_pos (by rw [z_lt] at h; rw [z_le]; omega)]
    have F1 : Gx [97] [] [12, 13, 14] [] w' (x_sA w' 14 i (mxN (A.gd i) (Int32.ofInt (dpz A.E A.C i)))) := (Gx.refl _ _ _ _ w').sA (by decide)
    have j13 : x_A (x_sA w' 14 i (mxN (A.gd i) (Int32.ofInt (dpz A.E A.C i)))) 13 i = A.fz i := by rw [x_A_sA, if_neg (by omega), v3]
    have j11 : x_A (x_sA w' 14 i (mxN (A.gd i) (Int32.ofInt (dpz A.E A.C i)))) 11 i = A.wm i := by rw [x_A_sA, if_neg (by omega), v0]
    have j12 : x_A (x_sA w' 14 i (mxN (A.gd i) (Int32.ofInt (dpz A.E A.C i)))) 12 i = A.ps i := by rw [x_A_sA, if_neg (by omega), v1]
    have j14 : x_A (x_sA w' 14 i (mxN (A.gd i) (Int32.ofInt (dpz A.E A.C i)))) 14 i = mxN (A.gd i) (Int32.ofInt (dpz A.E A.C i)) := by rw [x_A_sA, if_pos ⟨rfl, rfl⟩]
    have jo : ∀ h k, k ≠ i → x_A (x_sA w' 14 i (mxN (A.gd i) (Int32.ofInt (dpz A.E A.C i)))) h k = x_A w' h k := fun h k hk => by rw [x_A_sA, if_neg (fun z => hk z.2)]
    have jI : x_I (x_sA w' 14 i (mxN (A.gd i) (Int32.ofInt (dpz A.E A.C i)))) 97 0 = x_I w' 97 0 := rfl
    have hR5 : R2 T (x_sA w' 14 i (mxN (A.gd i) (Int32.ofInt (dpz A.E A.C i)))).2.2.1 := hR
    have head : f_Mod_frostAndMould_2 T (fuel + 1) w' 0 (nI i) = f_Mod_frostAndMould_41 T (f_Mod_frostAndMould_2 T fuel) w' 0 (nI i) (Int32.ofInt (dpz A.E A.C i)) 14 (nI i) (mxN (A.gd i) (Int32.ofInt (dpz A.E A.C i))) := by
      rw [f_Mod_frostAndMould_2, hR.i, Option.bind_some, G'.n, if_neg (by rw [nI_leS (by omega) (by omega)]; omega), rd]
      simp only [Option.bind_some, (hR).i, (hR).r66, (hR).r67, (hR).r68, (hR).r69, (hR).r70, (hR).r71, (hR).r72, (hR).r73, (hR).r74, (hR).r75, (hR).r76, (hR).r77, (hR).r78, (hR).r79, (hR).r81, (hR).r82, (hR).r85, (hR).r86, (hR).r87, (hR).r88, (hR).r89, (hR).r90, (hR).r92, (hR).r93, (hR).r94, (hR).r95, (hR).r103, (hR).r104, (hR).r105, (hR).r108, (hR).r109, (hR).r110, (hR).r111, (hR).r112, (hR).r113, (hR).r114, x_R_sI, x_R_sJ, x_R_sA, x_R_sB]
      simp only [t_ixn hR.a14 (show i < 12 by omega) (by omega), Option.bind_some, nI_clampS (show i < 100000 by omega), v2]
      rw [← w5e]
      by_cases h : Int32.ofInt (dpz A.E A.C i) ≤ A.gd i
      · rw [if_pos h, if_pos h]
      · rw [if_neg h, if_neg h]
    have e41 : f_Mod_frostAndMould_41 T (f_Mod_frostAndMould_2 T fuel) w' 0 (nI i) (Int32.ofInt (dpz A.E A.C i)) 14 (nI i) (mxN (A.gd i) (Int32.ofInt (dpz A.E A.C i))) = if A.fz i = 0 then (if 0 ≤ A.wm i then f_Mod_frostAndMould_2 T fuel (x_sA (x_sA w' 14 i (mxN (A.gd i) (Int32.ofInt (dpz A.E A.C i)))) 13 i 0) 0 (nI (i + 1)) else if Int32.ofInt (dpz A.E A.C i) < 9000 then f_Mod_frostAndMould_2 T fuel (x_sA (x_sA w' 14 i (mxN (A.gd i) (Int32.ofInt (dpz A.E A.C i)))) 13 i 0) 0 (nI (i + 1)) else f_Mod_frostAndMould_2 T fuel (x_sA (x_sA w' 14 i (mxN (A.gd i) (Int32.ofInt (dpz A.E A.C i)))) 13 i 1) 0 (nI (i + 1))) else if A.wm i < 0 then f_Mod_frostAndMould_2 T fuel (x_sA w' 14 i (mxN (A.gd i) (Int32.ofInt (dpz A.E A.C i)))) 0 (nI (i + 1)) else f_Mod_frostAndMould_2 T fuel (x_sA (x_sA (x_sA w' 14 i (mxN (A.gd i) (Int32.ofInt (dpz A.E A.C i)))) 13 i 0) 12 i (A.ps i + 1)) 0 (nI (i + 1)) := by
      unfold f_Mod_frostAndMould_41 f_Mod_frostAndMould_76 f_Mod_frostAndMould_77 f_Mod_frostAndMould_107
      simp only [Option.bind_some, (hR).i, (hR).r66, (hR).r67, (hR).r68, (hR).r69, (hR).r70, (hR).r71, (hR).r72, (hR).r73, (hR).r74, (hR).r75, (hR).r76, (hR).r77, (hR).r78, (hR).r79, (hR).r81, (hR).r82, (hR).r85, (hR).r86, (hR).r87, (hR).r88, (hR).r89, (hR).r90, (hR).r92, (hR).r93, (hR).r94, (hR).r95, (hR).r103, (hR).r104, (hR).r105, (hR).r108, (hR).r109, (hR).r110, (hR).r111, (hR).r112, (hR).r113, (hR).r114, x_R_sI, x_R_sJ, x_R_sA, x_R_sB]
      simp only [t_ixn hR.a14 (show i < 12 by omega) (by omega), t_ixn hR.a13 (show i < 12 by omega) (by omega), t_ixn hR.a11 (show i < 12 by omega) (by omega), t_ixn hR.a12 (show i < 12 by omega) (by omega), Option.bind_some, nI_clampS (show i < 100000 by omega), j13, j11, nar0, nar1, nI_inc]
      have : x_A (x_sA (x_sA w' 14 i (mxN (A.gd i) (Int32.ofInt (dpz A.E A.C i)))) 13 i 0) 12 i = A.ps i := by rw [x_A_sA, if_neg (by omega), j12]
      simp only [this]
    generalize hw2 : x_sA w' 14 i (mxN (A.gd i) (Int32.ofInt (dpz A.E A.C i))) = w2 at *
    have hlt : A.wm i < 0 ↔ ¬ 0 ≤ A.wm i := by rw [z_lt, z_le]; omega
    rcases hfz with hz | hz
    · have p0 : psN (A.fz i) (A.wm i) (A.ps i) = A.ps i := if_pos hz
      have wr : ∀ v, fzN (A.fz i) (A.wm i) (Int32.ofInt (dpz A.E A.C i)) = v → f_Mod_frostAndMould_2 T (fuel + 1) w' 0 (nI i) = f_Mod_frostAndMould_2 T fuel (x_sA w2 13 i v) 0 (nI (i + 1)) → ∃ s', (Gx [97] [] [12, 13, 14] [] w s' ∧ (x_I s' 97 0 = x_I w 97 0) ∧ ∀ k, k < n → x_A s' 12 k = (if k < i + 1 then psN (A.fz k) (A.wm k) (A.ps k) else A.ps k) ∧ x_A s' 14 k = (if k < i + 1 then mxN (A.gd k) (Int32.ofInt (dpz A.E A.C k)) else A.gd k) ∧ x_A s' 13 k = (if k < i + 1 then fzN (A.fz k) (A.wm k) (Int32.ofInt (dpz A.E A.C k)) else A.fz k)) ∧ f_Mod_frostAndMould_2 T (fuel + 1) w' 0 (nI i) = f_Mod_frostAndMould_2 T fuel s' 0 (nI (i + 1)) := fun v hv e => fin (x_sA w2 13 i v) e (F1.sA (by decide)) (by rw [x_I_sA, jI]) (fun h k hk => by rw [x_A_sA, if_neg (fun z => hk z.2), jo h k hk]) (by rw [x_A_sA, if_neg (by omega), j12, p0]) (by rw [x_A_sA, if_neg (by omega), j14]) (by rw [x_A_sA, if_pos ⟨rfl, rfl⟩, hv])
      by_cases a : 0 ≤ A.wm i
      · exact wr 0 (by unfold fzN; rw [if_pos hz, if_pos a]) (by rw [head, e41, if_pos hz, if_pos a])
      · by_cases b : Int32.ofInt (dpz A.E A.C i) < 9000
        · exact wr 0 (by unfold fzN; rw [if_pos hz, if_neg a, if_pos b]) (by rw [head, e41, if_pos hz, if_neg a, if_pos b])
        · exact wr 1 (by unfold fzN; rw [if_pos hz, if_neg a, if_neg b]) (by rw [head, e41, if_pos hz, if_neg a, if_neg b])
    · have hz0 : ¬ A.fz i = 0 := by rw [hz]; decide
      by_cases b : A.wm i < 0
      · exact fin w2 (by rw [head, e41, if_neg hz0, if_pos b]) F1 jI jo (by unfold psN; rw [if_neg hz0, if_pos b, j12]) j14 (by unfold fzN; rw [if_neg hz0, if_pos b, j13])
      · exact fin (x_sA (x_sA w2 13 i 0) 12 i (A.ps i + 1)) (by rw [head, e41, if_neg hz0, if_neg b]) ((F1.sA (by decide)).sA (by decide)) (by rw [x_I_sA, x_I_sA, jI]) (fun h k hk => by rw [x_A_sA, if_neg (fun z => hk z.2), x_A_sA, if_neg (fun z => hk z.2), jo h k hk]) (by unfold psN; rw [if_neg hz0, if_neg b, x_A_sA, if_pos ⟨rfl, rfl⟩]) (by rw [x_A_sA, if_neg (by omega), x_A_sA, if_neg (by omega), j14]) (by unfold fzN; rw [if_neg hz0, if_neg b, x_A_sA, if_neg (by omega), x_A_sA, if_pos ⟨rfl, rfl⟩])
  · intro w' fuel ⟨F, hmo, hv⟩
    have G' := F.er R.e
    have hR := G'.r
    have rd := r_damp B.e G' (F.kr R.k) B.k (k := n - 1) (by omega)
    have D := R.d
    have R' : SR T w' n (Ab.mk_ A.E A.C A.wm (fun k => psN (A.fz k) (A.wm k) (A.ps k)) (fun k => fzN (A.fz k) (A.wm k) (Int32.ofInt (dpz A.E A.C k))) (fun k => mxN (A.gd k) (Int32.ofInt (dpz A.E A.C k))) A.gn A.g1 A.g2 A.g3 A.g4 A.hr A.mo A.st A.og A.oc A.ig A.ic) := ⟨G', F.kr R.k, ⟨fun k hk => (F.A _ _ (by decide)).trans (D.wm k hk), fun k hk => by have := (hv k hk).1; rwa [if_pos hk] at this, fun k hk => by have := (hv k hk).2.2; rwa [if_pos hk] at this, fun k hk => by have := (hv k hk).2.1; rwa [if_pos hk] at this, (F.I _ _ (by decide)).trans D.gn, fun k hk => (F.A _ _ (by decide)).trans (D.g1 k hk), fun k hk => (F.A _ _ (by decide)).trans (D.g2 k hk), fun k hk => (F.A _ _ (by decide)).trans (D.g3 k hk), fun k hk => (F.A _ _ (by decide)).trans (D.g4 k hk), (F.I _ _ (by decide)).trans D.hr, hmo.trans D.mo, (F.J _ _ (by decide)).trans D.st, (F.J _ _ (by decide)).trans D.og, (F.J _ _ (by decide)).trans D.oc, (F.J _ _ (by decide)).trans D.ig, (F.J _ _ (by decide)).trans D.ic⟩⟩
    show wp (f_Mod_frostAndMould_2 T (fuel + 1) w' _ _) _
    rw [f_Mod_frostAndMould_2, hR.i, Option.bind_some, G'.n, if_pos (by rw [nI_leS (by omega) (by omega)]; omega), nI_sub1 (by omega)]
    simp only [Option.bind_some, rd]
    have h91 : x_I w' 91 0 = nI A.gn := R'.d.gn
    have g91 : x_I w' 91 0 - 1 = Int32.ofInt ((A.gn : Int) - 1) := by rw [h91, z_nI, show (1 : Int32) = Int32.ofInt 1 from rfl, z_sub]
    have e := r_fits R' n1 n12 B.gn B.g4 B.mo (Int32.ofInt (dpz A.E A.C (n - 1))) A.gn 1000 (Nat.le_refl _) (by have := B.gn; omega)
    dsimp only [En.cn_mk, En.X_mk, En.Y_mk, En.vp_mk, En.lq_mk, En.ld_mk, En.fo_mk, En.fi_mk, En.cl_mk, Ce.mt_mk, Ce.th_mk, Ce.lk_mk, Ce.hd_mk, Ab.E_mk, Ab.C_mk, Ab.wm_mk, Ab.ps_mk, Ab.fz_mk, Ab.gd_mk, Ab.gn_mk, Ab.g1_mk, Ab.g2_mk, Ab.g3_mk, Ab.g4_mk, Ab.hr_mk, Ab.mo_mk, Ab.st_mk, Ab.og_mk, Ab.oc_mk, Ab.ig_mk, Ab.ic_mk] at e
    rw [Nat.sub_self] at e
    rw [g91]
    rw [show (-1 : Int32) = ffu A.g1 A.g2 A.g3 A.g4 (Int32.ofInt (dpz A.E A.C (n - 1))) (A.wm (n - 1)) 0 A.gn from rfl, e, wp_some]
    refine ⟨F.trans (((Gx.refl _ _ _ _ w').sI (by decide)).sI (by decide)), fun k hk => ?_, by rw [x_I_sI, if_pos ⟨rfl, rfl⟩]⟩
    have := hv k hk
    rw [if_pos hk, if_pos hk, if_pos hk] at this
    exact this
  · rw [if_neg (by omega), if_neg (by omega), if_neg (by omega)]
    exact ⟨R.d.ps k hk, R.d.gd k hk, R.d.fz k hk⟩
end RNS
