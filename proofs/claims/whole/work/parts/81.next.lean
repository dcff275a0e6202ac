/-! ROWS: the reference's next -/
def Us (w : x_W) (n : Nat) (S : List Nat) : Prop := ∀ v, v < n → x_A w 35 v = if S.contains v then 1 else 0
theorem Us_add {w : x_W} {n : Nat} {S : List Nat} (U : Us w n S) (v : Nat) : Us (x_sA w 35 v 1) n (S ++ [v]) := by
  intro i hi
  rw [x_A_sA]
  by_cases e : i = v
  · subst e; simp [wp_some, wp_bind, x_I_sI, x_J_sJ, x_R_sR, x_A_sA, x_B_sB, x_I_sJ, x_I_sR, x_I_sA, x_I_sB, x_J_sI, x_J_sR, x_J_sA, x_J_sB, x_R_sI, x_R_sJ, x_R_sA, x_R_sB, x_A_sI, x_A_sJ, x_A_sR, x_A_sB, x_B_sI, x_B_sJ, x_B_sR, x_B_sA, x_Q_sI, x_Q_sJ, x_Q_sR, x_Q_sA, x_Q_sB, En.cn_mk, En.X_mk, En.Y_mk, En.vp_mk, En.lq_mk, En.ld_mk, En.fo_mk, En.fi_mk, En.cl_mk, Ce.mt_mk, Ce.th_mk, Ce.lk_mk, Ce.hd_mk, Ab.E_mk, Ab.C_mk, Ab.wm_mk, Ab.ps_mk, Ab.fz_mk, Ab.gd_mk, Ab.gn_mk, Ab.g1_mk, Ab.g2_mk, Ab.g3_mk, Ab.g4_mk, Ab.hr_mk, Ab.mo_mk, Ab.st_mk, Ab.og_mk, Ab.oc_mk, Ab.ig_mk, Ab.ic_mk]
  · rw [if_neg (fun z => e z.2), U i hi]
    have : (S ++ [v]).contains i = S.contains i := by simp [wp_some, wp_bind, x_I_sI, x_J_sJ, x_R_sR, x_A_sA, x_B_sB, x_I_sJ, x_I_sR, x_I_sA, x_I_sB, x_J_sI, x_J_sR, x_J_sA, x_J_sB, x_R_sI, x_R_sJ, x_R_sA, x_R_sB, x_A_sI, x_A_sJ, x_A_sR, x_A_sB, x_B_sI, x_B_sJ, x_B_sR, x_B_sA, x_Q_sI, x_Q_sJ, x_Q_sR, x_Q_sA, x_Q_sB, En.cn_mk, En.X_mk, En.Y_mk, En.vp_mk, En.lq_mk, En.ld_mk, En.fo_mk, En.fi_mk, En.cl_mk, Ce.mt_mk, Ce.th_mk, Ce.lk_mk, Ce.hd_mk, Ab.E_mk, Ab.C_mk, Ab.wm_mk, Ab.ps_mk, Ab.fz_mk, Ab.gd_mk, Ab.gn_mk, Ab.g1_mk, Ab.g2_mk, Ab.g3_mk, Ab.g4_mk, Ab.hr_mk, Ab.mo_mk, Ab.st_mk, Ab.og_mk, Ab.oc_mk, Ab.ig_mk, Ab.ic_mk, e]
    rw [this]
section NXT
variable {T : x_T} {w : x_W} {E : En} {n : Nat}
theorem take_len {L : List Nat} {a : Nat} (hl : L.length = n) (ha : a ≤ n) : (L.take a).length = a := by rw [List.length_take]; omega
theorem take_succ {L : List Nat} {a : Nat} (hl : L.length = n) (ha : a < n) : L.take (a + 1) = L.take a ++ [gl L a] := by
  rw [List.take_add_one]
  unfold gl
  rw [List.getD_eq_getElem?_getD, List.getElem?_eq_getElem (by omega)]
  rfl
/-- the rest is filled -/
theorem r_fill (n1 : 1 ≤ n) (n5 : n ≤ 5) : ∀ r (L L' : List Nat) (w : x_W) fuel, ER T w E n → L.length + r = n → fl n r L = some L' → Rw w 33 L.length L → Us w n L → r < fuel → ∃ w', f_Mod_next_117 T fuel w 0 (nI L.length) = some (1, w') ∧ Gx [] [] [33, 35] [] w w' ∧ Rw w' 33 n L' := by
  intro r
  induction r with
  | zero =>
    intro L L' w fuel G hl hf R U hfu
    obtain ⟨fuel, rfl⟩ : ∃ q, fuel = q + 1 := ⟨fuel - 1, by omega⟩
    refine ⟨w, ?_, Gx.refl .., ?_⟩
    · rw [f_Mod_next_117, G.r.i, Option.bind_some, G.n, if_pos (by rw [nI_leS (by omega) (by omega)]; omega)]
    · unfold fl at hf
      cases hf
      rw [show n = L.length by omega]
      exact R
  | succ r ih =>
    intro L L' w fuel G hl hf R U hfu
    obtain ⟨fuel, rfl⟩ : ∃ q, fuel = q + 1 := ⟨fuel - 1, by omega⟩
    have hR := G.r
    unfold fl at hf
    by_cases hv : n0 L 6 0 < n
    · rw [if_pos hv] at hf
      have find : ∀ f v fu, n0 L f v < n → v + f = 6 → f < fu → f_Mod_next_128 T (f_Mod_next_117 T fuel) fu w 0 (nI L.length) (nI v) = f_Mod_next_117 T fuel (x_sA (x_sA w 33 L.length (nI (n0 L f v))) 35 (n0 L f v) 1) 0 (nI (L.length + 1)) := by
        intro f
        induction f with
        | zero =>
          intro v fu hz hvf hfu2
          unfold n0 at hz
          omega
        | succ f ihf =>
          intro v fu hz hvf hfu2
          obtain ⟨fu, rfl⟩ : ∃ q, fu = q + 1 := ⟨fu - 1, by omega⟩
          have mono : ∀ f v, v ≤ n0 L f v := by
            intro f
            induction f with
            | zero => intro v; exact Nat.le_refl _
            | succ f ihh =>
              intro v
              unfold n0
              split
              · have := ihh (v + 1); omega
              · exact Nat.le_refl _
          have hvn : v < n := by have := mono (f + 1) v; omega
          rw [f_Mod_next_128]
          simp only [Option.bind_some, (hR).i, (hR).r66, (hR).r67, (hR).r68, (hR).r69, (hR).r70, (hR).r71, (hR).r72, (hR).r73, (hR).r74, (hR).r75, (hR).r76, (hR).r77, (hR).r78, (hR).r79, (hR).r81, (hR).r82, (hR).r85, (hR).r86, (hR).r87, (hR).r88, (hR).r89, (hR).r90, (hR).r92, (hR).r93, (hR).r94, (hR).r95, (hR).r103, (hR).r104, (hR).r105, (hR).r108, (hR).r109, (hR).r110, (hR).r111, (hR).r112, (hR).r113, (hR).r114, x_R_sI, x_R_sJ, x_R_sA, x_R_sB]
          rw [t_ixn hR.a35 (show v < 5 by omega) (by omega), nI_clampS (show v < 100000 by omega), U v hvn]
          unfold n0 at hz ⊢
          by_cases c : L.contains v = true
          · rw [if_pos c] at hz ⊢
            rw [if_pos c]
            simp only [Option.bind_some]
            rw [if_neg (by decide), nI_inc]
            exact ihf (v + 1) fu hz (by omega) (by omega)
          · rw [if_neg c] at hz ⊢
            rw [if_neg c]
            simp only [Option.bind_some, if_true, t_ixn hR.a33 (show L.length < 5 by omega) (by omega), nI_clampS (show L.length < 100000 by omega), nar1, nI_inc]
      have X : Gx [] [] [33, 35] [] w (x_sA (x_sA w 33 L.length (nI (n0 L 6 0))) 35 (n0 L 6 0) 1) := ((Gx.refl _ _ _ _ w).sA (by decide)).sA (by decide)
      have R' : Rw (x_sA (x_sA w 33 L.length (nI (n0 L 6 0))) 35 (n0 L 6 0) 1) 33 (L ++ [n0 L 6 0]).length (L ++ [n0 L 6 0]) := by
        intro i hi
        rw [List.length_append, List.length_singleton] at hi
        rw [x_A_sA, if_neg (by omega), x_A_sA]
        unfold gl
        by_cases e : i = L.length
        · subst e; rw [if_pos ⟨rfl, rfl⟩]; simp [wp_some, wp_bind, x_I_sI, x_J_sJ, x_R_sR, x_A_sA, x_B_sB, x_I_sJ, x_I_sR, x_I_sA, x_I_sB, x_J_sI, x_J_sR, x_J_sA, x_J_sB, x_R_sI, x_R_sJ, x_R_sA, x_R_sB, x_A_sI, x_A_sJ, x_A_sR, x_A_sB, x_B_sI, x_B_sJ, x_B_sR, x_B_sA, x_Q_sI, x_Q_sJ, x_Q_sR, x_Q_sA, x_Q_sB, En.cn_mk, En.X_mk, En.Y_mk, En.vp_mk, En.lq_mk, En.ld_mk, En.fo_mk, En.fi_mk, En.cl_mk, Ce.mt_mk, Ce.th_mk, Ce.lk_mk, Ce.hd_mk, Ab.E_mk, Ab.C_mk, Ab.wm_mk, Ab.ps_mk, Ab.fz_mk, Ab.gd_mk, Ab.gn_mk, Ab.g1_mk, Ab.g2_mk, Ab.g3_mk, Ab.g4_mk, Ab.hr_mk, Ab.mo_mk, Ab.st_mk, Ab.og_mk, Ab.oc_mk, Ab.ig_mk, Ab.ic_mk]
        · rw [if_neg (fun z => e z.2), List.getD_eq_getElem?_getD, List.getElem?_append_left (by omega), ← List.getD_eq_getElem?_getD]
          exact R i (by omega)
      have U' : Us (x_sA (x_sA w 33 L.length (nI (n0 L 6 0))) 35 (n0 L 6 0) 1) n (L ++ [n0 L 6 0]) := Us_add (w := x_sA w 33 L.length (nI (n0 L 6 0))) (fun v hv => by rw [x_A_sA, if_neg (by omega)]; exact U v hv) _
      obtain ⟨w2, e2, X2, R2'⟩ := ih (L ++ [n0 L 6 0]) L' _ fuel (X.er G) (by rw [List.length_append, List.length_singleton]; omega) hf R' U' (by omega)
      refine ⟨w2, ?_, X.trans X2, R2'⟩
      rw [f_Mod_next_117, hR.i, Option.bind_some, G.n, if_neg (by rw [nI_leS (by omega) (by omega)]; omega)]
      have := find 6 0 1000 hv (by omega) (by omega)
      rw [show (0 : Int32) = nI 0 from rfl, this]
      rw [List.length_append, List.length_singleton] at e2
      exact e2
    · rw [if_neg hv] at hf
      cases hf
theorem nv_mono (S : List Nat) : ∀ f v, v ≤ nv n S f v := by
  intro f
  induction f with
  | zero => intro v; exact Nat.le_refl _
  | succ f ih =>
    intro v
    unfold nv
    repeat' split
    · exact Nat.le_refl _
    · have := ih (v + 1); omega
    · exact Nat.le_refl _
theorem r_next (G0 : ER T w E n) (n1 : 1 ≤ n) (n5 : n ≤ 5) {L : List Nat} (hl : L.length = n) (hg : ∀ i, i < n → gl L i < n) (R0 : Rw w 33 n L) (hok : flOk n n L = true) : ∃ w', f_Mod_next T w 0 = some ((if (nxL n L n).isSome then 1 else 0), w') ∧ Gx [] [] [33, 35] [] w w' ∧ ∀ L', nxL n L n = some L' → Rw w' 33 n L' := by
  have go : ∀ a fuel (w : x_W), ER T w E n → Rw w 33 n L → a ≤ n → a < fuel → flOk n a L = true → ∃ w', f_Mod_next_7 T fuel w 0 (Int32.ofInt ((a : Int) - 1)) = some ((if (nxL n L a).isSome then 1 else 0), w') ∧ Gx [] [] [33, 35] [] w w' ∧ ∀ L', nxL n L a = some L' → Rw w' 33 n L' := by
    intro a
    induction a with
    | zero =>
      intro fuel w G R ha hf hk
      obtain ⟨fuel, rfl⟩ : ∃ q, fuel = q + 1 := ⟨fuel - 1, by omega⟩
      refine ⟨w, ?_, Gx.refl .., fun L' h => by cases h⟩
      rw [f_Mod_next_7, if_pos (by decide)]
      rfl
    | succ a ih =>
      intro fuel w G R ha hf hk
      obtain ⟨fuel, rfl⟩ : ∃ q, fuel = q + 1 := ⟨fuel - 1, by omega⟩
      have hR := G.r
      have ga := hg a (by omega)
      have ea : Int32.ofInt (((a + 1 : Nat) : Int) - 1) = nI a := by rw [z_nI]; congr 1; omega
      have ed : nI a + (-1) = Int32.ofInt ((a : Int) - 1) := by rw [z_nI, show (-1 : Int32) = Int32.ofInt (-1) from rfl, z_add]; congr 1
      -- used is cleared, then told
      obtain ⟨w1, ⟨X1, U1⟩, e1⟩ : ∃ w1, (Gx [] [] [33, 35] [] w w1 ∧ Rw w1 33 n L ∧ Us w1 n (L.take a)) ∧ f_Mod_next_7 T (fuel + 1) w 0 (nI a) = f_Mod_next_68 T (f_Mod_next_7 T fuel) 1000 w1 0 (nI a) (nI (gl L a + 1)) := by
        obtain ⟨wa, ⟨Xa, Ra, Ua⟩, ea'⟩ := loop_eq (N := n) (fun fu w' i => f_Mod_next_22 T (f_Mod_next_7 T fuel) fu w' 0 (nI a) (nI (gl L a + 1)) i) (fun j w' => Gx [] [] [33, 35] [] w w' ∧ Rw w' 33 n L ∧ ∀ v, v < j → x_A w' 35 v = 0) (fun i w' fu hi ⟨X, R', U⟩ => by
          have hR' := (X.er G).r
          refine ⟨x_sA w' 35 i 0, ⟨X.sA (by decide), fun k hk => by rw [x_A_sA, if_neg (by omega)]; exact R' k hk, fun v hv => ?_⟩, ?_⟩
          · rw [x_A_sA]
            by_cases e : v = i
            · rw [if_pos ⟨rfl, e⟩]
            · rw [if_neg (fun z => e z.2)]; exact U v (by omega)
          · show f_Mod_next_22 T (f_Mod_next_7 T fuel) (fu + 1) w' 0 (nI a) (nI (gl L a + 1)) (nI i) = f_Mod_next_22 T (f_Mod_next_7 T fuel) fu _ 0 (nI a) (nI (gl L a + 1)) (nI (i + 1))
            rw [f_Mod_next_22, hR'.i, Option.bind_some, (X.er G).n, if_neg (by rw [nI_leS (by omega) (by omega)]; omega)]
            simp only [Option.bind_some, (hR').i, (hR').r66, (hR').r67, (hR').r68, (hR').r69, (hR').r70, (hR').r71, (hR').r72, (hR').r73, (hR').r74, (hR').r75, (hR').r76, (hR').r77, (hR').r78, (hR').r79, (hR').r81, (hR').r82, (hR').r85, (hR').r86, (hR').r87, (hR').r88, (hR').r89, (hR').r90, (hR').r92, (hR').r93, (hR').r94, (hR').r95, (hR').r103, (hR').r104, (hR').r105, (hR').r108, (hR').r109, (hR').r110, (hR').r111, (hR').r112, (hR').r113, (hR').r114, x_R_sI, x_R_sJ, x_R_sA, x_R_sB]
            simp only [t_ixn hR'.a35 (show i < 5 by omega) (by omega), Option.bind_some, nI_clampS (show i < 100000 by omega), nar0, nI_inc]) (1000 - n) w ⟨Gx.refl .., R, fun v hv => by omega⟩
        obtain ⟨wb, ⟨Xb, Rb, Ub⟩, eb⟩ := loop_eq (N := a) (fun fu w' i => f_Mod_next_45 T (f_Mod_next_7 T fuel) fu w' 0 (nI a) (nI (gl L a + 1)) i) (fun j w' => Gx [] [] [33, 35] [] w w' ∧ Rw w' 33 n L ∧ Us w' n (L.take j)) (fun i w' fu hi ⟨X, R', U⟩ => by
          have hR' := (X.er G).r
          have gi := hg i (by omega)
          refine ⟨x_sA w' 35 (gl L i) 1, ⟨X.sA (by decide), fun k hk => by rw [x_A_sA, if_neg (by omega)]; exact R' k hk, ?_⟩, ?_⟩
          · rw [take_succ hl (by omega)]
            exact Us_add U _
          · show f_Mod_next_45 T (f_Mod_next_7 T fuel) (fu + 1) w' 0 (nI a) (nI (gl L a + 1)) (nI i) = f_Mod_next_45 T (f_Mod_next_7 T fuel) fu _ 0 (nI a) (nI (gl L a + 1)) (nI (i + 1))
            rw [f_Mod_next_45, if_neg (by rw [nI_leS (by omega) (by omega)]; omega)]
            simp only [Option.bind_some, (hR').i, (hR').r66, (hR').r67, (hR').r68, (hR').r69, (hR').r70, (hR').r71, (hR').r72, (hR').r73, (hR').r74, (hR').r75, (hR').r76, (hR').r77, (hR').r78, (hR').r79, (hR').r81, (hR').r82, (hR').r85, (hR').r86, (hR').r87, (hR').r88, (hR').r89, (hR').r90, (hR').r92, (hR').r93, (hR').r94, (hR').r95, (hR').r103, (hR').r104, (hR').r105, (hR').r108, (hR').r109, (hR').r110, (hR').r111, (hR').r112, (hR').r113, (hR').r114, x_R_sI, x_R_sJ, x_R_sA, x_R_sB]
            simp only [t_ixn hR'.a33 (show i < 5 by omega) (by omega), Option.bind_some, nI_clampS (show i < 100000 by omega), R' i (by omega), t_ixn hR'.a35 (show gl L i < 5 by omega) (by omega), nI_clampS (show gl L i < 100000 by omega), nar1, nI_inc]) (1000 - a) wa ⟨Xa, Ra, fun v hv => by rw [Ua v hv]; simp [wp_some, wp_bind, x_I_sI, x_J_sJ, x_R_sR, x_A_sA, x_B_sB, x_I_sJ, x_I_sR, x_I_sA, x_I_sB, x_J_sI, x_J_sR, x_J_sA, x_J_sB, x_R_sI, x_R_sJ, x_R_sA, x_R_sB, x_A_sI, x_A_sJ, x_A_sR, x_A_sB, x_B_sI, x_B_sJ, x_B_sR, x_B_sA, x_Q_sI, x_Q_sJ, x_Q_sR, x_Q_sA, x_Q_sB, En.cn_mk, En.X_mk, En.Y_mk, En.vp_mk, En.lq_mk, En.ld_mk, En.fo_mk, En.fi_mk, En.cl_mk, Ce.mt_mk, Ce.th_mk, Ce.lk_mk, Ce.hd_mk, Ab.E_mk, Ab.C_mk, Ab.wm_mk, Ab.ps_mk, Ab.fz_mk, Ab.gd_mk, Ab.gn_mk, Ab.g1_mk, Ab.g2_mk, Ab.g3_mk, Ab.g4_mk, Ab.hr_mk, Ab.mo_mk, Ab.st_mk, Ab.og_mk, Ab.oc_mk, Ab.ig_mk, Ab.ic_mk]⟩
        refine ⟨wb, ⟨Xb, Rb, Ub⟩, ?_⟩
        rw [f_Mod_next_7, if_neg (by rw [show (0 : Int32) = nI 0 from rfl, nI_ltS (by omega) (by omega)]; omega)]
        simp only [Option.bind_some, (hR).i, (hR).r66, (hR).r67, (hR).r68, (hR).r69, (hR).r70, (hR).r71, (hR).r72, (hR).r73, (hR).r74, (hR).r75, (hR).r76, (hR).r77, (hR).r78, (hR).r79, (hR).r81, (hR).r82, (hR).r85, (hR).r86, (hR).r87, (hR).r88, (hR).r89, (hR).r90, (hR).r92, (hR).r93, (hR).r94, (hR).r95, (hR).r103, (hR).r104, (hR).r105, (hR).r108, (hR).r109, (hR).r110, (hR).r111, (hR).r112, (hR).r113, (hR).r114, x_R_sI, x_R_sJ, x_R_sA, x_R_sB]
        simp only [t_ixn hR.a33 (show a < 5 by omega) (by omega), Option.bind_some, nI_clampS (show a < 100000 by omega), R a (by omega), nI_inc]
        have ea2 : f_Mod_next_22 T (f_Mod_next_7 T fuel) 1000 w 0 (nI a) (nI (gl L a + 1)) 0 = f_Mod_next_22 T (f_Mod_next_7 T fuel) (1000 - n) wa 0 (nI a) (nI (gl L a + 1)) (nI n) := by
          have := ea'
          rwa [show 1000 - n + n = 1000 by omega] at this
        have eb2 : f_Mod_next_45 T (f_Mod_next_7 T fuel) 1000 wa 0 (nI a) (nI (gl L a + 1)) 0 = f_Mod_next_45 T (f_Mod_next_7 T fuel) (1000 - a) wb 0 (nI a) (nI (gl L a + 1)) (nI a) := by
          have := eb
          rwa [show 1000 - a + a = 1000 by omega] at this
        rw [ea2, show 1000 - n = (999 - n) + 1 by omega, f_Mod_next_22, (Xa.er G).r.i, Option.bind_some, (Xa.er G).n, if_pos (by rw [nI_leS (by omega) (by omega)]; omega), eb2, show 1000 - a = (999 - a) + 1 by omega, f_Mod_next_45, if_pos (by rw [nI_leS (by omega) (by omega)]; omega)]
      obtain ⟨R1, U1⟩ := U1
      have G1 := X1.er G
      have hR1 := G1.r
      have e68 : ∀ f v fu, v + f = 6 + (gl L a + 1) → f < fu → v ≤ n → f_Mod_next_68 T (f_Mod_next_7 T fuel) fu w1 0 (nI a) (nI v) = f_Mod_next_91 T (f_Mod_next_7 T fuel) w1 0 (nI a) (nI (nv n (L.take a) f v)) := by
        intro f
        induction f with
        | zero => intro v fu h1 h2 h3; omega
        | succ f ihf =>
          intro v fu h1 h2 h3
          obtain ⟨fu, rfl⟩ : ∃ q, fu = q + 1 := ⟨fu - 1, by omega⟩
          rw [f_Mod_next_68, hR1.i, Option.bind_some, G1.n]
          unfold nv
          by_cases c : n ≤ v
          · rw [if_pos (by rw [nI_leS (by omega) (by omega)]; exact c), if_pos c]
          · rw [if_neg (by rw [nI_leS (by omega) (by omega)]; exact c), if_neg c]
            simp only [Option.bind_some, (hR1).i, (hR1).r66, (hR1).r67, (hR1).r68, (hR1).r69, (hR1).r70, (hR1).r71, (hR1).r72, (hR1).r73, (hR1).r74, (hR1).r75, (hR1).r76, (hR1).r77, (hR1).r78, (hR1).r79, (hR1).r81, (hR1).r82, (hR1).r85, (hR1).r86, (hR1).r87, (hR1).r88, (hR1).r89, (hR1).r90, (hR1).r92, (hR1).r93, (hR1).r94, (hR1).r95, (hR1).r103, (hR1).r104, (hR1).r105, (hR1).r108, (hR1).r109, (hR1).r110, (hR1).r111, (hR1).r112, (hR1).r113, (hR1).r114, x_R_sI, x_R_sJ, x_R_sA, x_R_sB]
            rw [t_ixn hR1.a35 (show v < 5 by omega) (by omega), nI_clampS (show v < 100000 by omega), U1 v (by omega)]
            by_cases d : (L.take a).contains v = true
            · rw [if_pos d, if_pos d, Option.bind_some, if_neg (by decide), nI_inc]
              exact ihf (v + 1) fu (by omega) (by omega) (by omega)
            · rw [if_neg d, if_neg d]
              rfl
      have e2 := e68 6 (gl L a + 1) 1000 (by omega) (by omega) (by omega)
      rw [ea, e1, e2]
      unfold flOk at hk
      unfold nxL
      unfold f_Mod_next_91
      rw [hR1.i, Option.bind_some, G1.n]
      have hm := nv_mono (n := n) (L.take a) 6 (gl L a + 1)
      have hub : ∀ f v, v ≤ n → nv n (L.take a) f v ≤ n + f := by
        intro f
        induction f with
        | zero => intro v hv; exact hv
        | succ f ihh =>
          intro v hv
          unfold nv
          repeat' split
          · omega
          · have := ihh (v + 1) (by omega); omega
          · omega
      have hub6 := hub 6 (gl L a + 1) (by omega)
      generalize hvv : nv n (L.take a) 6 (gl L a + 1) = v at *
      by_cases c : n ≤ v
      · rw [if_pos (by rw [nI_leS (by omega) (by omega)]; exact c), if_pos c, ed]
        have hk' : flOk n a L = true := by simpa [wp_some, wp_bind, x_I_sI, x_J_sJ, x_R_sR, x_A_sA, x_B_sB, x_I_sJ, x_I_sR, x_I_sA, x_I_sB, x_J_sI, x_J_sR, x_J_sA, x_J_sB, x_R_sI, x_R_sJ, x_R_sA, x_R_sB, x_A_sI, x_A_sJ, x_A_sR, x_A_sB, x_B_sI, x_B_sJ, x_B_sR, x_B_sA, x_Q_sI, x_Q_sJ, x_Q_sR, x_Q_sA, x_Q_sB, En.cn_mk, En.X_mk, En.Y_mk, En.vp_mk, En.lq_mk, En.ld_mk, En.fo_mk, En.fi_mk, En.cl_mk, Ce.mt_mk, Ce.th_mk, Ce.lk_mk, Ce.hd_mk, Ab.E_mk, Ab.C_mk, Ab.wm_mk, Ab.ps_mk, Ab.fz_mk, Ab.gd_mk, Ab.gn_mk, Ab.g1_mk, Ab.g2_mk, Ab.g3_mk, Ab.g4_mk, Ab.hr_mk, Ab.mo_mk, Ab.st_mk, Ab.og_mk, Ab.oc_mk, Ab.ig_mk, Ab.ic_mk, c] using hk
        obtain ⟨w2, e3, X3, R3⟩ := ih fuel w1 G1 R1 (by omega) (by omega) hk'
        exact ⟨w2, e3, X1.trans X3, R3⟩
      · rw [if_neg (by rw [nI_leS (by omega) (by omega)]; exact c), if_neg c]
        have hk' : (fl n (n - 1 - a) (L.take a ++ [v])).isSome = true := by simpa [wp_some, wp_bind, x_I_sI, x_J_sJ, x_R_sR, x_A_sA, x_B_sB, x_I_sJ, x_I_sR, x_I_sA, x_I_sB, x_J_sI, x_J_sR, x_J_sA, x_J_sB, x_R_sI, x_R_sJ, x_R_sA, x_R_sB, x_A_sI, x_A_sJ, x_A_sR, x_A_sB, x_B_sI, x_B_sJ, x_B_sR, x_B_sA, x_Q_sI, x_Q_sJ, x_Q_sR, x_Q_sA, x_Q_sB, En.cn_mk, En.X_mk, En.Y_mk, En.vp_mk, En.lq_mk, En.ld_mk, En.fo_mk, En.fi_mk, En.cl_mk, Ce.mt_mk, Ce.th_mk, Ce.lk_mk, Ce.hd_mk, Ab.E_mk, Ab.C_mk, Ab.wm_mk, Ab.ps_mk, Ab.fz_mk, Ab.gd_mk, Ab.gn_mk, Ab.g1_mk, Ab.g2_mk, Ab.g3_mk, Ab.g4_mk, Ab.hr_mk, Ab.mo_mk, Ab.st_mk, Ab.og_mk, Ab.oc_mk, Ab.ig_mk, Ab.ic_mk, c] using hk
        obtain ⟨L', hL'⟩ := Option.isSome_iff_exists.mp hk'
        have tl := take_len (L := L) (a := a) hl (by omega)
        have X2 : Gx [] [] [33, 35] [] w1 (x_sA (x_sA w1 33 a (nI v)) 35 v 1) := ((Gx.refl _ _ _ _ w1).sA (by decide)).sA (by decide)
        have R2' : Rw (x_sA (x_sA w1 33 a (nI v)) 35 v 1) 33 (L.take a ++ [v]).length (L.take a ++ [v]) := by
          intro i hi
          rw [List.length_append, List.length_singleton, tl] at hi
          rw [x_A_sA, if_neg (by omega), x_A_sA]
          unfold gl
          by_cases e : i = a
          · subst e
            rw [if_pos ⟨rfl, rfl⟩, List.getD_eq_getElem?_getD, List.getElem?_append_right (by omega), tl]
            simp [wp_some, wp_bind, x_I_sI, x_J_sJ, x_R_sR, x_A_sA, x_B_sB, x_I_sJ, x_I_sR, x_I_sA, x_I_sB, x_J_sI, x_J_sR, x_J_sA, x_J_sB, x_R_sI, x_R_sJ, x_R_sA, x_R_sB, x_A_sI, x_A_sJ, x_A_sR, x_A_sB, x_B_sI, x_B_sJ, x_B_sR, x_B_sA, x_Q_sI, x_Q_sJ, x_Q_sR, x_Q_sA, x_Q_sB, En.cn_mk, En.X_mk, En.Y_mk, En.vp_mk, En.lq_mk, En.ld_mk, En.fo_mk, En.fi_mk, En.cl_mk, Ce.mt_mk, Ce.th_mk, Ce.lk_mk, Ce.hd_mk, Ab.E_mk, Ab.C_mk, Ab.wm_mk, Ab.ps_mk, Ab.fz_mk, Ab.gd_mk, Ab.gn_mk, Ab.g1_mk, Ab.g2_mk, Ab.g3_mk, Ab.g4_mk, Ab.hr_mk, Ab.mo_mk, Ab.st_mk, Ab.og_mk, Ab.oc_mk, Ab.ig_mk, Ab.ic_mk]
          · rw [if_neg (fun z => e z.2), List.getD_eq_getElem?_getD, List.getElem?_append_left (by omega), List.getElem?_take_of_lt (by omega), ← List.getD_eq_getElem?_getD]
            exact R1 i (by omega)
        have U2 : Us (x_sA (x_sA w1 33 a (nI v)) 35 v 1) n (L.take a ++ [v]) := Us_add (w := x_sA w1 33 a (nI v)) (fun u hu => by rw [x_A_sA, if_neg (by omega)]; exact U1 u hu) _
        obtain ⟨w3, e3, X3, R3⟩ := r_fill (T := T) (E := E) n1 n5 (n - 1 - a) (L.take a ++ [v]) L' _ 1000 (X2.er G1) (by rw [List.length_append, List.length_singleton, tl]; omega) hL' R2' U2 (by omega)
        rw [List.length_append, List.length_singleton, tl] at e3
        refine ⟨w3, ?_, (X1.trans X2).trans X3, fun L'' h => ?_⟩
        · simp only [Option.bind_some, (hR1).i, (hR1).r66, (hR1).r67, (hR1).r68, (hR1).r69, (hR1).r70, (hR1).r71, (hR1).r72, (hR1).r73, (hR1).r74, (hR1).r75, (hR1).r76, (hR1).r77, (hR1).r78, (hR1).r79, (hR1).r81, (hR1).r82, (hR1).r85, (hR1).r86, (hR1).r87, (hR1).r88, (hR1).r89, (hR1).r90, (hR1).r92, (hR1).r93, (hR1).r94, (hR1).r95, (hR1).r103, (hR1).r104, (hR1).r105, (hR1).r108, (hR1).r109, (hR1).r110, (hR1).r111, (hR1).r112, (hR1).r113, (hR1).r114, x_R_sI, x_R_sJ, x_R_sA, x_R_sB]
          simp only [t_ixn hR1.a33 (show a < 5 by omega) (by omega), t_ixn hR1.a35 (show v < 5 by omega) (by omega), Option.bind_some, nI_clampS (show a < 100000 by omega), nI_clampS (show v < 100000 by omega), nar1, nI_inc]
          rw [e3, hL']
          rfl
        · rw [hL'] at h
          cases h
          exact R3
  obtain ⟨w1, e1, X1, R1⟩ := go n 1000 w G0 R0 (by omega) (by omega) hok
  refine ⟨w1, ?_, X1, R1⟩
  unfold f_Mod_next
  rw [G0.r.i, Option.bind_some, G0.n, Option.bind_some, show nI n - 1 = Int32.ofInt ((n : Int) - 1) by rw [z_nI, show (1 : Int32) = Int32.ofInt 1 from rfl, z_sub], e1]
end NXT
