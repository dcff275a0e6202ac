/-! THE REFERENCE'S FLOWS, whole -/
section RG
variable {T : x_T} {w : x_W} {E : En} {n h k : Nat} {C : Ce}
theorem r_495 (hR : R2 T w.2.2.1) {i : Nat} (hi : i < 72) {v : Int} (h1 : -1000000000 ≤ v) (h2 : v ≤ 1000000000) (q x : Int64) : f_Mod_flow_495 T w 0 q (Int64.ofInt v) 29 (nI i) x = f_Mod_flow_517 T 1000 (x_sJ (x_sB w 29 i x) 107 0 (Int64.ofInt (if 0 ≤ v then 0 else -v))) 0 q 0 := by
  unfold f_Mod_flow_495 f_Mod_flow_511
  simp only [Option.bind_some, wp_bind, wp_some, (hR).i, (hR).r66, (hR).r67, (hR).r68, (hR).r69, (hR).r70, (hR).r71, (hR).r72, (hR).r73, (hR).r74, (hR).r75, (hR).r76, (hR).r77, (hR).r78, (hR).r79, (hR).r81, (hR).r82, (hR).r85, (hR).r86, (hR).r87, (hR).r88, (hR).r89, (hR).r90, (hR).r92, (hR).r93, (hR).r94, (hR).r95, (hR).r103, (hR).r104, (hR).r105, (hR).r108, (hR).r109, (hR).r110, (hR).r111, (hR).r112, (hR).r113, (hR).r114, x_R_sI, x_R_sJ, x_R_sA, x_R_sB]
  rw [t_ixn hR.a29 hi (by omega), nI_clampS (by omega)]
  simp only [Option.bind_some]
  by_cases hs : 0 ≤ v
  · rw [if_pos ((z_cmp0ge (by omega) (by omega)).mpr hs), if_pos hs]; rfl
  · rw [if_neg (fun q => hs ((z_cmp0ge (by omega) (by omega)).mp q)), if_neg hs, z_Neg]
theorem r_361 (hR : R2 T w.2.2.1) {v : Int} (h1 : -1000000000 ≤ v) (h2 : v ≤ 1000000000) (x : Int64) : f_Mod_flow_361 T w 0 (nI h) (Int64.ofInt v) 29 2 x = f_Mod_flow_377 T (x_sB w 29 2 x) 0 (nI h) 0 (Int64.ofInt (if 0 ≤ v then 0 else -v)) := by
  unfold f_Mod_flow_361
  rw [show (2 : Int32) = nI 2 from rfl, t_ixn hR.a29 (by omega) (by omega), nI_clampS (by omega)]
  simp only [Option.bind_some]
  by_cases hs : 0 ≤ v
  · rw [if_pos ((z_cmp0ge (by omega) (by omega)).mpr hs), if_pos hs]; rfl
  · rw [if_neg (fun q => hs ((z_cmp0ge (by omega) (by omega)).mp q)), if_neg hs, z_Neg]
theorem r_377 (B : EB E) (G : ER T w E n) (K : KR w n C) (KBd : KB E n C) (hh : h < 24) (P : PR w E n C h) (t : Int64) : f_Mod_flow_377 T w 0 (nI h) 0 t = f_Mod_flow_517 T 1000 (x_sJ (x_sB (x_sB (x_sJ w 106 0 t) 29 3 (Int64.ofInt (fP (sg E n C h) 2))) 29 (6 * (n - 1) + 4) (Int64.ofInt (fN (sg E n C h) 1))) 107 0 (Int64.ofInt (fP (sg E n C h) 1))) 0 (Int64.ofInt (iPz E h)) 0 := by
  have n12 := KBd.n12
  have n1 := KBd.n1
  have hR := G.r
  have FBd := hour_FB B KBd hh
  have hm0 := KBd.mt 0 (by omega)
  have hmn := KBd.mt (n - 1) (by omega)
  have r0 := B.rt _ hm0
  have rn := B.rt _ hmn
  have q2 := B.c2 h hh
  have q4 := B.c4 h hh
  have q5 := B.c5 h hh
  have qi := iPz_b B hh
  have qp := pcz_b (h := h) B KBd (k := n - 1) (by omega)
  have v2 := G.v 2 h (by omega) hh
  have v4 := G.v 4 h (by omega) hh
  have v5 := G.v 5 h (by omega) hh
  simp only [Nat.reduceAdd] at v2 v4 v5
  have F : Gx [] [106] [] [29] w (x_sB (x_sJ w 106 0 t) 29 3 (Int64.ofInt (fP (sg E n C h) 2))) := ((Gx.refl _ _ _ _ w).sJ (by decide)).sB (by decide)
  have G' := F.er G
  have P' := F.pr P
  have K' := F.kr K
  have hR' := G'.r
  have hfu := fu_b B (E.cl 4 h)
  have mr := z_mb (a := E.cl 2 h) (b := E.lq (C.mt 0)) (A := 1000) (B := 1000) q2.1 q2.2 r0.2.2.1 r0.2.2.2.1
  have er : fP (sg E n C h) 2 = (E.cl 2 h * E.lq (C.mt 0)).tdiv 100 := if_pos FBd.rain
  unfold f_Mod_flow_377
  simp only [Option.bind_some, wp_bind, wp_some, (hR).i, (hR).r66, (hR).r67, (hR).r68, (hR).r69, (hR).r70, (hR).r71, (hR).r72, (hR).r73, (hR).r74, (hR).r75, (hR).r76, (hR).r77, (hR).r78, (hR).r79, (hR).r81, (hR).r82, (hR).r85, (hR).r86, (hR).r87, (hR).r88, (hR).r89, (hR).r90, (hR).r92, (hR).r93, (hR).r94, (hR).r95, (hR).r103, (hR).r104, (hR).r105, (hR).r108, (hR).r109, (hR).r110, (hR).r111, (hR).r112, (hR).r113, (hR).r114, x_R_sI, x_R_sJ, x_R_sA, x_R_sB]
  simp only [x_A_sJ, x_A_sB, x_I_sJ, x_I_sB, show (0 : Int32) = nI 0 from rfl, show (3 : Int32) = nI 3 from rfl, Option.bind_some, t_ixn hR.a19 hh (by omega), t_ixn hR.a7 (show 0 < 12 by omega) (by omega), nI_clampS (show 0 < 100000 by omega), nI_clampS (show 3 < 100000 by omega), nI_clampS (show h < 100000 by omega), K.mt 0 (by omega), t_ixn hR.a5 hm0 (by omega), nI_clampS (show C.mt 0 < 100000 by omega), (G.rt _ hm0).2.1, t_ixn hR.a29 (show 3 < 72 by omega) (by omega), v2, z_64 (show -2147483648 ≤ E.cl 2 h by omega) (by omega), z_64 (show -2147483648 ≤ E.lq (C.mt 0) by omega) (by omega), z_Mul]
  rw [show (100 : Int64) = Int64.ofInt 100 from rfl, z_Div (by omega) (by omega) (by omega) (by omega), ← er]
  simp only [Option.bind_some, t_ixn hR.a21 hh (by omega), v4]
  rw [r_full B G' (by omega)]
  simp only [Option.bind_some, t_ixn hR.a22 hh (by omega), v5, f_Mod_at]
  rw [z_64 (by omega) (by omega), z_64 (by omega) (by omega), z_Mul, show (10000 : Int64) = Int64.ofInt 10000 from rfl]
  have mi := z_mb hfu.1 hfu.2 q5.1 q5.2
  rw [z_Div (by omega) (by omega) (by omega) (by omega), Int.tdiv_eq_ediv_of_nonneg mi.1, show fu E (E.cl 4 h) * E.cl 5 h / 10000 = iPz E h from rfl, G.n, nI_sub1 (by omega)]
  have pb := P'.p (n - 1) (by omega)
  simp only [Option.bind_some, t_ixn hR.a27 (show n - 1 < 12 by omega) (by omega), t_ixn hR.a7 (show n - 1 < 12 by omega) (by omega), nI_clampS (show n - 1 < 100000 by omega), K.mt (n - 1) (by omega), t_ixn hR.a4 hmn (by omega), nI_clampS (show C.mt (n - 1) < 100000 by omega), (G.rt _ hmn).1, pb]
  have ml := mul_b (a := iPz E h - pcz E n C h (n - 1)) (b := E.vp (C.mt (n - 1))) (A := 100000) (B := 1000) (by omega) (by omega) (by omega) (by omega)
  have tl := tdiv_b (d := 1000) (B := 100000) (by omega) ml.1 ml.2
  have es : sg E n C h 1 = -((iPz E h - pcz E n C h (n - 1)) * E.vp (C.mt (n - 1))).tdiv 1000 := by
    show ((pcz E n C h (n - 1) - iPz E h) * E.vp (C.mt (n - 1))).tdiv 1000 = _
    rw [← Int.neg_tdiv, ← Int.neg_mul]
    congr 2
    omega
  rw [z_64 (by omega) (by omega), z_Sub, z_Mul, show (1000 : Int64) = Int64.ofInt 1000 from rfl, z_Div (by omega) (by omega) (by omega) (by omega), show (6 : Int32) = nI 6 from rfl, show (4 : Int32) = nI 4 from rfl, nI_mulS, nI_addS, r_495 hR' (by omega) (by omega) (by omega), r_495 hR' (by omega) (by omega) (by omega)]
  generalize ((iPz E h - pcz E n C h (n - 1)) * E.vp (C.mt (n - 1))).tdiv 1000 = v at es tl
  have eN : fN (sg E n C h) 1 = if v ≤ 0 then 0 else v := by unfold fN; rw [es]; repeat' split; all_goals omega
  have eP : fP (sg E n C h) 1 = if 0 ≤ v then 0 else -v := by unfold fP; rw [es]; repeat' split; all_goals omega
  rw [eN, eP]
  simp only [show nI 0 = (0 : Int32) from rfl]
  by_cases hs : v ≤ 0
  · rw [if_pos ((z_cmp0le (by omega) (by omega)).mpr hs), if_pos hs]; rfl
  · rw [if_neg (fun q => hs ((z_cmp0le (by omega) (by omega)).mp q)), if_neg hs]
theorem r_airs (B : EB E) (G : ER T w E n) (K : KR w n C) (KBd : KB E n C) (hh : h < 24) (P : PR w E n C h) (h0 : ∀ k q, k < n → q < 6 → x_B w 29 (6 * k + q) = Int64.ofInt (if 2 ≤ q then 0 else iv n (fP (sg E n C h)) (fN (sg E n C h)) k q)) {fuel i : Nat} (hi : n ≤ i + 1) (hi2 : i < 100) :
    wp (f_Mod_flow_82 T (fuel + 1) w 0 (nI h) (nI i)) (fun w' => Gx [] [106, 107] [] [29] w w' ∧ IR w' n (fP (sg E n C h)) (fN (sg E n C h))) := by
  have n12 := KBd.n12
  have n1 := KBd.n1
  have hR := G.r
  have hm0 := KBd.mt 0 (by omega)
  have r0 := B.rt _ hm0
  have q0 := B.c0 h hh
  have q1 := B.c1 h hh
  have q3 := B.c3 h hh
  have qo := oPz_b B hh
  have qf := fc_b B hh
  have qp := pcz_b (h := h) B KBd (k := 0) (by omega)
  have v0 := G.v 0 h (by omega) hh
  have v1 := G.v 1 h (by omega) hh
  have v3 := G.v 3 h (by omega) hh
  simp only [Nat.reduceAdd] at v0 v1 v3
  have hfu := fu_b B (fc E h)
  have mi := z_mb hfu.1 hfu.2 q1.1 q1.2
  have ml := mul_b (a := oPz E h - pcz E n C h 0) (b := E.vp (C.mt 0)) (A := 100000) (B := 1000) (by omega) (by omega) (by omega) (by omega)
  have tl := tdiv_b (d := 1000) (B := 100000) (by omega) ml.1 ml.2
  rw [f_Mod_flow_82]
  simp only [Option.bind_some, wp_bind, wp_some, (hR).i, (hR).r66, (hR).r67, (hR).r68, (hR).r69, (hR).r70, (hR).r71, (hR).r72, (hR).r73, (hR).r74, (hR).r75, (hR).r76, (hR).r77, (hR).r78, (hR).r79, (hR).r81, (hR).r82, (hR).r85, (hR).r86, (hR).r87, (hR).r88, (hR).r89, (hR).r90, (hR).r92, (hR).r93, (hR).r94, (hR).r95, (hR).r103, (hR).r104, (hR).r105, (hR).r108, (hR).r109, (hR).r110, (hR).r111, (hR).r112, (hR).r113, (hR).r114, x_R_sI, x_R_sJ, x_R_sA, x_R_sB]
  rw [G.n, nI_inc, if_pos (by rw [nI_leS (by omega) (by omega)]; omega)]
  simp only [Option.bind_some, t_ixn hR.a17 hh (by omega), t_ixn hR.a20 hh (by omega), nI_clampS (show h < 100000 by omega), v0, v3, z_add]
  rw [show E.cl 0 h + E.cl 3 h = fc E h from rfl, r_full B G (by omega)]
  simp only [Option.bind_some, t_ixn hR.a18 hh (by omega), v1, f_Mod_at, show (0 : Int32) = nI 0 from rfl, t_ixn hR.a27 (show 0 < 12 by omega) (by omega), t_ixn hR.a7 (show 0 < 12 by omega) (by omega), nI_clampS (show 0 < 100000 by omega), K.mt 0 (by omega), t_ixn hR.a4 hm0 (by omega), nI_clampS (show C.mt 0 < 100000 by omega), (G.rt _ hm0).1, P.p 0 (by omega)]
  rw [z_64 (by omega) (by omega), z_64 (by omega) (by omega), z_64 (by omega) (by omega), z_Mul, show (10000 : Int64) = Int64.ofInt 10000 from rfl, z_Div (by omega) (by omega) (by omega) (by omega), Int.tdiv_eq_ediv_of_nonneg mi.1, show fu E (fc E h) * E.cl 1 h / 10000 = oPz E h from rfl, z_Sub, z_Mul, show (1000 : Int64) = Int64.ofInt 1000 from rfl, z_Div (by omega) (by omega) (by omega) (by omega), show ((oPz E h - pcz E n C h 0) * E.vp (C.mt 0)).tdiv 1000 = sg E n C h 0 from rfl]
  rw [show ((oPz E h - pcz E n C h 0) * E.vp (C.mt 0)).tdiv 1000 = sg E n C h 0 from rfl] at tl
  rw [r_361 hR (by omega) (by omega), r_361 hR (by omega) (by omega)]
  simp only [show nI 0 = (0 : Int32) from rfl]
  have key : ∀ v, v = Int64.ofInt (fP (sg E n C h) 0) → wp (f_Mod_flow_377 T (x_sB w 29 2 v) 0 (nI h) 0 (Int64.ofInt (if 0 ≤ sg E n C h 0 then 0 else -sg E n C h 0))) (fun w' => Gx [] [106, 107] [] [29] w w' ∧ IR w' n (fP (sg E n C h)) (fN (sg E n C h))) := by
    intro v hv
    subst hv
    have F1 : Gx [] [106, 107] [] [29] w (x_sB w 29 2 (Int64.ofInt (fP (sg E n C h) 0))) := (Gx.refl _ _ _ _ w).sB (by decide)
    rw [r_377 B (F1.er G) (F1.kr K) KBd hh (F1.pr P), show (if 0 ≤ sg E n C h 0 then 0 else -sg E n C h 0) = fN (sg E n C h) 0 from rfl]
    have F2 : Gx [] [106, 107] [] [29] w (x_sJ (x_sB (x_sB (x_sJ (x_sB w 29 2 (Int64.ofInt (fP (sg E n C h) 0))) 106 0 (Int64.ofInt (fN (sg E n C h) 0))) 29 3 (Int64.ofInt (fP (sg E n C h) 2))) 29 (6 * (n - 1) + 4) (Int64.ofInt (fN (sg E n C h) 1))) 107 0 (Int64.ofInt (fP (sg E n C h) 1))) := (((F1.sJ (by decide)).sB (by decide)).sB (by decide)).sJ (by decide)
    refine wp_mono (r_leaks B (F2.er G) (F2.kr K) KBd hh (F2.pr P) (fun k q hk hq => ?_)) ?_
    · rw [x_B_sJ, x_B_sB, x_B_sB, x_B_sJ, x_B_sB]
      by_cases e4 : 6 * k + q = 6 * (n - 1) + 4
      · have : k = n - 1 ∧ q = 4 := by omega
        rw [this.1, this.2]
        simp [wp_some, wp_bind, x_I_sI, x_J_sJ, x_R_sR, x_A_sA, x_B_sB, x_I_sJ, x_I_sR, x_I_sA, x_I_sB, x_J_sI, x_J_sR, x_J_sA, x_J_sB, x_R_sI, x_R_sJ, x_R_sA, x_R_sB, x_A_sI, x_A_sJ, x_A_sR, x_A_sB, x_B_sI, x_B_sJ, x_B_sR, x_B_sA, x_Q_sI, x_Q_sJ, x_Q_sR, x_Q_sA, x_Q_sB, iv]
      · by_cases e3 : 6 * k + q = 3
        · have : k = 0 ∧ q = 3 := by omega
          rw [if_neg (by omega), if_pos ⟨rfl, e3⟩, this.1, this.2]
          simp [wp_some, wp_bind, x_I_sI, x_J_sJ, x_R_sR, x_A_sA, x_B_sB, x_I_sJ, x_I_sR, x_I_sA, x_I_sB, x_J_sI, x_J_sR, x_J_sA, x_J_sB, x_R_sI, x_R_sJ, x_R_sA, x_R_sB, x_A_sI, x_A_sJ, x_A_sR, x_A_sB, x_B_sI, x_B_sJ, x_B_sR, x_B_sA, x_Q_sI, x_Q_sJ, x_Q_sR, x_Q_sA, x_Q_sB, iv]
        · by_cases e2 : 6 * k + q = 2
          · have : k = 0 ∧ q = 2 := by omega
            rw [if_neg (by omega), if_neg (by omega), if_pos ⟨rfl, e2⟩, this.1, this.2]
            simp [wp_some, wp_bind, x_I_sI, x_J_sJ, x_R_sR, x_A_sA, x_B_sB, x_I_sJ, x_I_sR, x_I_sA, x_I_sB, x_J_sI, x_J_sR, x_J_sA, x_J_sB, x_R_sI, x_R_sJ, x_R_sA, x_R_sB, x_A_sI, x_A_sJ, x_A_sR, x_A_sB, x_B_sI, x_B_sJ, x_B_sR, x_B_sA, x_Q_sI, x_Q_sJ, x_Q_sR, x_Q_sA, x_Q_sB, iv]
          · rw [if_neg (by omega), if_neg (by omega), if_neg (by omega), h0 k q hk hq]
            by_cases z5 : q = 5
            · simp [wp_some, wp_bind, x_I_sI, x_J_sJ, x_R_sR, x_A_sA, x_B_sB, x_I_sJ, x_I_sR, x_I_sA, x_I_sB, x_J_sI, x_J_sR, x_J_sA, x_J_sB, x_R_sI, x_R_sJ, x_R_sA, x_R_sB, x_A_sI, x_A_sJ, x_A_sR, x_A_sB, x_B_sI, x_B_sJ, x_B_sR, x_B_sA, x_Q_sI, x_Q_sJ, x_Q_sR, x_Q_sA, x_Q_sB, z5]
            · rw [if_neg z5]
              by_cases z2 : 2 ≤ q
              · rw [if_pos z2]
                unfold iv
                rw [if_neg (by omega), if_neg (by omega)]
                congr 1
                by_cases y2 : q = 2
                · rw [if_pos y2, if_neg (by omega)]
                · rw [if_neg y2]
                  by_cases y3 : q = 3
                  · rw [if_pos y3, if_neg (by omega)]
                  · rw [if_neg y3, if_pos (by omega), if_neg (by omega)]
              · rw [if_neg z2]
    · intro w' ⟨F3, hv⟩
      refine ⟨F2.trans (F3.mono (by decide) (by decide) (by decide) (by decide)), ⟨hv, ?_, ?_⟩⟩
      · rw [F3.J 106 _ (by decide)]; simp [wp_some, wp_bind, x_I_sI, x_J_sJ, x_R_sR, x_A_sA, x_B_sB, x_I_sJ, x_I_sR, x_I_sA, x_I_sB, x_J_sI, x_J_sR, x_J_sA, x_J_sB, x_R_sI, x_R_sJ, x_R_sA, x_R_sB, x_A_sI, x_A_sJ, x_A_sR, x_A_sB, x_B_sI, x_B_sJ, x_B_sR, x_B_sA, x_Q_sI, x_Q_sJ, x_Q_sR, x_Q_sA, x_Q_sB]
      · rw [F3.J 107 _ (by decide)]; simp [wp_some, wp_bind, x_I_sI, x_J_sJ, x_R_sR, x_A_sA, x_B_sB, x_I_sJ, x_I_sR, x_I_sA, x_I_sB, x_J_sI, x_J_sR, x_J_sA, x_J_sB, x_R_sI, x_R_sJ, x_R_sA, x_R_sB, x_A_sI, x_A_sJ, x_A_sR, x_A_sB, x_B_sI, x_B_sJ, x_B_sR, x_B_sA, x_Q_sI, x_Q_sJ, x_Q_sR, x_Q_sA, x_Q_sB]
  by_cases hs : sg E n C h 0 ≤ 0
  · rw [if_pos ((z_cmp0le (by omega) (by omega)).mpr hs)]
    refine key _ ?_
    rw [show (0 : Int64) = Int64.ofInt 0 from rfl]
    congr 1
    unfold fP
    split <;> omega
  · rw [if_neg (fun q => hs ((z_cmp0le (by omega) (by omega)).mp q))]
    refine key _ ?_
    congr 1
    unfold fP
    split <;> omega
theorem r_betw (B : EB E) (G : ER T w E n) (K : KR w n C) (KBd : KB E n C) (hh : h < 24) (P : PR w E n C h) (h0 : ∀ i, i < 6 * n → x_B w 29 i = Int64.ofInt 0) :
    wp (f_Mod_flow_82 T 1000 w 0 (nI h) 0) (fun w' => Gx [] [106, 107] [] [29] w w' ∧ IR w' n (fP (sg E n C h)) (fN (sg E n C h))) := by
  have n12 := KBd.n12
  have n1 := KBd.n1
  refine loop_up (N := n - 1) (by omega) (fun fuel w' i => f_Mod_flow_82 T fuel w' 0 (nI h) i) (fun j w' => Gx [] [106, 107] [] [29] w w' ∧ ∀ k q, k < n → q < 6 → x_B w' 29 (6 * k + q) = Int64.ofInt (if q = 0 then (if 0 < k ∧ k ≤ j then fP (sg E n C h) (3 + n + (k - 1)) else 0) else if q = 1 then (if k < j then fN (sg E n C h) (3 + n + k) else 0) else 0)) _ ?_ ?_ w ⟨Gx.refl .., fun k q hk hq => ?_⟩
  · intro i w' fuel hi ⟨F, hv⟩
    have G' := F.er G
    have K' := F.kr K
    have P' := F.pr P
    have hR := G'.r
    have hi0 : i < n := by omega
    have hi1 : i + 1 < n := by omega
    have ma := KBd.mt i hi0
    have mb := KBd.mt (i + 1) hi1
    have ra := B.rt _ ma
    have rb := B.rt _ mb
    have qa := pcz_b (h := h) B KBd hi0
    have qb := pcz_b (h := h) B KBd hi1
    have es : sg E n C h (3 + n + i) = sgb E n C h i := sg_betw
    refine ⟨x_sB (x_sB w' 29 (6 * (i + 1)) (Int64.ofInt (fP (sg E n C h) (3 + n + i)))) 29 (6 * i + 1) (Int64.ofInt (fN (sg E n C h) (3 + n + i))), ⟨(F.sB (by decide)).sB (by decide), fun k q hk hq => ?_⟩, ?_⟩
    · rw [x_B_sB, x_B_sB]
      by_cases e1 : 6 * k + q = 6 * i + 1
      · have : k = i ∧ q = 1 := by omega
        rw [if_pos ⟨rfl, e1⟩, this.1, this.2]
        simp [wp_some, wp_bind, x_I_sI, x_J_sJ, x_R_sR, x_A_sA, x_B_sB, x_I_sJ, x_I_sR, x_I_sA, x_I_sB, x_J_sI, x_J_sR, x_J_sA, x_J_sB, x_R_sI, x_R_sJ, x_R_sA, x_R_sB, x_A_sI, x_A_sJ, x_A_sR, x_A_sB, x_B_sI, x_B_sJ, x_B_sR, x_B_sA, x_Q_sI, x_Q_sJ, x_Q_sR, x_Q_sA, x_Q_sB]
      · by_cases e2 : 6 * k + q = 6 * (i + 1)
        · have : k = i + 1 ∧ q = 0 := by omega
          rw [if_neg (by omega), if_pos ⟨rfl, e2⟩, this.1, this.2]
          simp [wp_some, wp_bind, x_I_sI, x_J_sJ, x_R_sR, x_A_sA, x_B_sB, x_I_sJ, x_I_sR, x_I_sA, x_I_sB, x_J_sI, x_J_sR, x_J_sA, x_J_sB, x_R_sI, x_R_sJ, x_R_sA, x_R_sB, x_A_sI, x_A_sJ, x_A_sR, x_A_sB, x_B_sI, x_B_sJ, x_B_sR, x_B_sA, x_Q_sI, x_Q_sJ, x_Q_sR, x_Q_sA, x_Q_sB]
        · rw [if_neg (by omega), if_neg (by omega), hv k q hk hq]
          congr 1
          by_cases z0 : q = 0
          · rw [if_pos z0, if_pos z0]
            by_cases z1 : 0 < k ∧ k ≤ i
            · rw [if_pos z1, if_pos (by omega)]
            · rw [if_neg z1, if_neg (by omega)]
          · rw [if_neg z0, if_neg z0]
            by_cases z1 : q = 1
            · rw [if_pos z1, if_pos z1]
              by_cases z2 : k < i
              · rw [if_pos z2, if_pos (by omega)]
              · rw [if_neg z2, if_neg (by omega)]
            · rw [if_neg z1, if_neg z1]
    · show f_Mod_flow_82 T (fuel + 1) w' _ _ _ = f_Mod_flow_82 T fuel _ _ _ _
      rw [f_Mod_flow_82]
      simp only [Option.bind_some, wp_bind, wp_some, (hR).i, (hR).r66, (hR).r67, (hR).r68, (hR).r69, (hR).r70, (hR).r71, (hR).r72, (hR).r73, (hR).r74, (hR).r75, (hR).r76, (hR).r77, (hR).r78, (hR).r79, (hR).r81, (hR).r82, (hR).r85, (hR).r86, (hR).r87, (hR).r88, (hR).r89, (hR).r90, (hR).r92, (hR).r93, (hR).r94, (hR).r95, (hR).r103, (hR).r104, (hR).r105, (hR).r108, (hR).r109, (hR).r110, (hR).r111, (hR).r112, (hR).r113, (hR).r114, x_R_sI, x_R_sJ, x_R_sA, x_R_sB]
      rw [G'.n, nI_inc, if_neg (by rw [nI_leS (by omega) (by omega)]; omega)]
      simp only [Option.bind_some, t_ixn hR.a7 (show i < 12 by omega) (by omega), t_ixn hR.a7 (show i + 1 < 12 by omega) (by omega), nI_clampS (show i < 100000 by omega), nI_clampS (show i + 1 < 100000 by omega), K'.mt i hi0, K'.mt (i + 1) hi1, t_ixn hR.a27 (show i < 12 by omega) (by omega), t_ixn hR.a27 (show i + 1 < 12 by omega) (by omega), t_ixn hR.a4 ma (by omega), t_ixn hR.a4 mb (by omega), nI_clampS (show C.mt i < 100000 by omega), nI_clampS (show C.mt (i + 1) < 100000 by omega), (G'.rt _ ma).1, (G'.rt _ mb).1, P'.p i hi0, P'.p (i + 1) hi1, z_Sub]
      rw [r_156 B G' KBd _ hi1 (by omega) (by omega) (P'.d i hi0) (P'.d (i + 1) hi1), r_156 B G' KBd _ hi1 (by omega) (by omega) (P'.d i hi0) (P'.d (i + 1) hi1)]
      unfold fP fN
      rw [es]
      unfold sgb
      by_cases hl : E.vp (C.mt (i + 1)) ≤ E.vp (C.mt i)
      · rw [if_pos (by rw [z_le, z_t (by omega) (by omega), z_t (by omega) (by omega)]; exact hl), show min (E.vp (C.mt i)) (E.vp (C.mt (i + 1))) = E.vp (C.mt (i + 1)) by omega]
      · rw [if_neg (by rw [z_le, z_t (by omega) (by omega), z_t (by omega) (by omega)]; exact hl), show min (E.vp (C.mt i)) (E.vp (C.mt (i + 1))) = E.vp (C.mt i) by omega]
  · intro w' fuel ⟨F, hv⟩
    refine wp_mono (r_airs B (F.er G) (F.kr K) KBd hh (F.pr P) (fun k q hk hq => ?_) (by omega) (by omega)) (fun w2 ⟨F2, h2⟩ => ⟨F.trans F2, h2⟩)
    rw [hv k q hk hq]
    congr 1
    unfold iv
    by_cases z0 : q = 0
    · rw [if_pos z0, if_neg (show ¬ 2 ≤ q by omega), if_pos z0]
      by_cases z1 : 0 < k
      · rw [if_pos (by omega), if_pos z1]
      · rw [if_neg (by omega), if_neg z1]
    · rw [if_neg z0]
      by_cases z1 : q = 1
      · rw [if_pos z1, if_neg (show ¬ 2 ≤ q by omega), if_neg z0, if_pos z1]
        by_cases z2 : k + 1 < n
        · rw [if_pos (by omega), if_pos z2]
        · rw [if_neg (by omega), if_neg z2]
      · rw [if_neg z1, if_pos (by omega)]
  · rw [h0 _ (by omega)]
    congr 1
    repeat' split
    all_goals first | rfl | omega
theorem r_flow (B : EB E) (G : ER T w E n) (K : KR w n C) (KBd : KB E n C) (hh : h < 24) (hw : ∀ k, k < n → x_A w 11 k = Int32.ofInt (wmz E n C h k)) :
    wp (f_Mod_flow T w 0 (nI h)) (fun w' => Gx [] [106, 107] [28] [27, 29] w w' ∧ IR w' n (fP (sg E n C h)) (fN (sg E n C h))) := by
  have n12 := KBd.n12
  have n1 := KBd.n1
  unfold f_Mod_flow
  refine loop_up (N := n) (by omega) (fun fuel w' i => f_Mod_flow_2 T fuel w' 0 (nI h) i) (fun j w' => Gx [] [] [28] [27] w w' ∧ ∀ k, k < j → x_A w' 28 k = Int32.ofInt (dpz E C k) ∧ x_B w' 27 k = Int64.ofInt (pcz E n C h k)) _ ?_ ?_ w ⟨Gx.refl .., fun k hk => by omega⟩
  · intro i w' fuel hi ⟨F, hv⟩
    have G' := F.er G
    have K' := F.kr K
    have hR := G'.r
    have F2 : Gx [] [] [28] [27] w (x_sA w' 28 i (Int32.ofInt (dpz E C i))) := F.sA (by decide)
    have hwz := wmz_b B KBd hh hi
    have hd := dpz_b B KBd hi
    have hfu := fu_b B (wmz E n C h i)
    have mi := z_mb hfu.1 hfu.2 hd.1 hd.2
    refine ⟨x_sB (x_sA w' 28 i (Int32.ofInt (dpz E C i))) 27 i (Int64.ofInt (pcz E n C h i)), ⟨F2.sB (by decide), fun k hk => ?_⟩, ?_⟩
    · by_cases e : k = i
      · subst e; simp [wp_some, wp_bind, x_I_sI, x_J_sJ, x_R_sR, x_A_sA, x_B_sB, x_I_sJ, x_I_sR, x_I_sA, x_I_sB, x_J_sI, x_J_sR, x_J_sA, x_J_sB, x_R_sI, x_R_sJ, x_R_sA, x_R_sB, x_A_sI, x_A_sJ, x_A_sR, x_A_sB, x_B_sI, x_B_sJ, x_B_sR, x_B_sA, x_Q_sI, x_Q_sJ, x_Q_sR, x_Q_sA, x_Q_sB]
      · have := hv k (by omega)
        simpa [wp_some, wp_bind, x_I_sI, x_J_sJ, x_R_sR, x_A_sA, x_B_sB, x_I_sJ, x_I_sR, x_I_sA, x_I_sB, x_J_sI, x_J_sR, x_J_sA, x_J_sB, x_R_sI, x_R_sJ, x_R_sA, x_R_sB, x_A_sI, x_A_sJ, x_A_sR, x_A_sB, x_B_sI, x_B_sJ, x_B_sR, x_B_sA, x_Q_sI, x_Q_sJ, x_Q_sR, x_Q_sA, x_Q_sB, e] using this
    · show f_Mod_flow_2 T (fuel + 1) w' _ _ _ = f_Mod_flow_2 T fuel _ _ _ _
      rw [f_Mod_flow_2]
      simp only [Option.bind_some, wp_bind, wp_some, (hR).i, (hR).r66, (hR).r67, (hR).r68, (hR).r69, (hR).r70, (hR).r71, (hR).r72, (hR).r73, (hR).r74, (hR).r75, (hR).r76, (hR).r77, (hR).r78, (hR).r79, (hR).r81, (hR).r82, (hR).r85, (hR).r86, (hR).r87, (hR).r88, (hR).r89, (hR).r90, (hR).r92, (hR).r93, (hR).r94, (hR).r95, (hR).r103, (hR).r104, (hR).r105, (hR).r108, (hR).r109, (hR).r110, (hR).r111, (hR).r112, (hR).r113, (hR).r114, x_R_sI, x_R_sJ, x_R_sA, x_R_sB]
      rw [G'.n, if_neg (by rw [nI_leS (by omega) (by omega)]; omega), r_damp B G' K' KBd hi]
      simp only [Option.bind_some, t_ixn hR.a28 (show i < 12 by omega) (by omega), t_ixn hR.a11 (show i < 12 by omega) (by omega), t_ixn hR.a27 (show i < 12 by omega) (by omega), nI_clampS (show i < 100000 by omega), F2.A 11 i (by decide), hw i hi]
      rw [r_full B (F2.er G) (by omega)]
      simp only [Option.bind_some, f_Mod_at]
      rw [x_A_sA, if_pos ⟨rfl, rfl⟩, z_64 (by omega) (by omega), z_64 (by omega) (by omega), z_Mul, show (10000 : Int64) = Int64.ofInt 10000 from rfl, z_Div (by omega) (by omega) (by omega) (by omega), Int.tdiv_eq_ediv_of_nonneg mi.1, nI_inc]
      rfl
  · intro w' fuel ⟨F, hv⟩
    have G' := F.er G
    have hR := G'.r
    show wp (f_Mod_flow_2 T (fuel + 1) w' _ _ _) _
    rw [f_Mod_flow_2, hR.i, Option.bind_some, G'.n, if_pos (by rw [nI_leS (by omega) (by omega)]; omega)]
    have P : PR w' E n C h := ⟨fun k hk => (hv k hk).1, fun k hk => (hv k hk).2⟩
    refine loop_up (N := 6 * n) (by omega) (fun fuel w2 i => f_Mod_flow_56 T fuel w2 0 (nI h) i) (fun j w2 => Gx [] [] [] [29] w' w2 ∧ ∀ k, k < j → x_B w2 29 k = Int64.ofInt 0) _ ?_ ?_ w' ⟨Gx.refl .., fun k hk => by omega⟩
    · intro i w2 fuel hi ⟨F2, hz⟩
      have G2 := F2.er G'
      have hR2 := G2.r
      refine ⟨x_sB w2 29 i (Int64.ofInt 0), ⟨F2.sB (by decide), fun k hk => ?_⟩, ?_⟩
      · by_cases e : k = i
        · subst e; simp [wp_some, wp_bind, x_I_sI, x_J_sJ, x_R_sR, x_A_sA, x_B_sB, x_I_sJ, x_I_sR, x_I_sA, x_I_sB, x_J_sI, x_J_sR, x_J_sA, x_J_sB, x_R_sI, x_R_sJ, x_R_sA, x_R_sB, x_A_sI, x_A_sJ, x_A_sR, x_A_sB, x_B_sI, x_B_sJ, x_B_sR, x_B_sA, x_Q_sI, x_Q_sJ, x_Q_sR, x_Q_sA, x_Q_sB]
        · have := hz k (by omega)
          simpa [wp_some, wp_bind, x_I_sI, x_J_sJ, x_R_sR, x_A_sA, x_B_sB, x_I_sJ, x_I_sR, x_I_sA, x_I_sB, x_J_sI, x_J_sR, x_J_sA, x_J_sB, x_R_sI, x_R_sJ, x_R_sA, x_R_sB, x_A_sI, x_A_sJ, x_A_sR, x_A_sB, x_B_sI, x_B_sJ, x_B_sR, x_B_sA, x_Q_sI, x_Q_sJ, x_Q_sR, x_Q_sA, x_Q_sB, e] using this
      · show f_Mod_flow_56 T (fuel + 1) w2 _ _ _ = f_Mod_flow_56 T fuel _ _ _ _
        rw [f_Mod_flow_56]
        simp only [Option.bind_some, wp_bind, wp_some, (hR2).i, (hR2).r66, (hR2).r67, (hR2).r68, (hR2).r69, (hR2).r70, (hR2).r71, (hR2).r72, (hR2).r73, (hR2).r74, (hR2).r75, (hR2).r76, (hR2).r77, (hR2).r78, (hR2).r79, (hR2).r81, (hR2).r82, (hR2).r85, (hR2).r86, (hR2).r87, (hR2).r88, (hR2).r89, (hR2).r90, (hR2).r92, (hR2).r93, (hR2).r94, (hR2).r95, (hR2).r103, (hR2).r104, (hR2).r105, (hR2).r108, (hR2).r109, (hR2).r110, (hR2).r111, (hR2).r112, (hR2).r113, (hR2).r114, x_R_sI, x_R_sJ, x_R_sA, x_R_sB]
        rw [G2.n, show (6 : Int32) = nI 6 from rfl, nI_mulS, if_neg (by rw [nI_leS (by omega) (by omega)]; omega), t_ixn hR2.a29 (by omega) (by omega), nI_clampS (by omega), nI_inc]
        rfl
    · intro w2 fuel ⟨F2, hz⟩
      have G2 := F2.er G'
      have hR2 := G2.r
      show wp (f_Mod_flow_56 T (fuel + 1) w2 _ _ _) _
      rw [f_Mod_flow_56, hR2.i, Option.bind_some, G2.n, show (6 : Int32) = nI 6 from rfl, nI_mulS, if_pos (by rw [nI_leS (by omega) (by omega)]; omega)]
      refine wp_mono (r_betw B G2 (F2.kr (F.kr K)) KBd hh (F2.pr P) hz) ?_
      intro w3 ⟨F3, h3⟩
      exact ⟨((F.mono (by decide) (by decide) (by decide) (by decide)).trans (F2.mono (by decide) (by decide) (by decide) (by decide))).trans (F3.mono (by decide) (by decide) (by decide) (by decide)), h3⟩
end RG
