/-! ORDER: the reference -/
def OR (T : x_T) (w : x_W) (n : Nat) (A : Ab) : Prop := (ER T w A.E n) ∧ (∀ k, k < n → x_A w 30 k = nI (A.C.mt k)) ∧ (∀ k, k < n → x_A w 31 k = Int32.ofInt (A.C.th k)) ∧ (∀ k, k < n → x_A w 32 k = Int32.ofInt (A.C.lk k)) ∧ (∀ k, k < n → x_B w 36 k = Int64.ofInt (A.C.hd k)) ∧ (∀ k, k < n → x_B w 36 (5 + k) = (A.wm k).toInt64) ∧ (x_B w 36 10 = A.og) ∧ (x_B w 36 11 = A.ig) ∧ (x_B w 36 12 = A.oc) ∧ (x_B w 36 13 = A.ic) ∧ (∀ k, k < n → x_A w 12 k = A.ps k) ∧ (∀ k, k < n → x_A w 13 k = A.fz k) ∧ (∀ k, k < n → x_A w 14 k = A.gd k) ∧ (x_I w 91 0 = nI A.gn) ∧ (∀ i, i < A.gn → x_A w 23 i = A.g1 i) ∧ (∀ i, i < A.gn → x_A w 24 i = A.g2 i) ∧ (∀ i, i < A.gn → x_A w 25 i = A.g3 i) ∧ (∀ i, i < A.gn → x_A w 26 i = A.g4 i) ∧ (x_I w 96 0 = nI A.hr) ∧ (x_I w 97 0 = A.mo) ∧ (x_J w 102 0 = A.st) ∧ (x_I w 64 0 = 0)
theorem OR.e {T : x_T} {w : x_W} {n : Nat} {A : Ab} (S_ : OR T w n A) : ER T w A.E n := S_.1
theorem OR.k1 {T : x_T} {w : x_W} {n : Nat} {A : Ab} (S_ : OR T w n A) : ∀ k, k < n → x_A w 30 k = nI (A.C.mt k) := S_.2.1
theorem OR.k2 {T : x_T} {w : x_W} {n : Nat} {A : Ab} (S_ : OR T w n A) : ∀ k, k < n → x_A w 31 k = Int32.ofInt (A.C.th k) := S_.2.2.1
theorem OR.k3 {T : x_T} {w : x_W} {n : Nat} {A : Ab} (S_ : OR T w n A) : ∀ k, k < n → x_A w 32 k = Int32.ofInt (A.C.lk k) := S_.2.2.2.1
theorem OR.k4 {T : x_T} {w : x_W} {n : Nat} {A : Ab} (S_ : OR T w n A) : ∀ k, k < n → x_B w 36 k = Int64.ofInt (A.C.hd k) := S_.2.2.2.2.1
theorem OR.k5 {T : x_T} {w : x_W} {n : Nat} {A : Ab} (S_ : OR T w n A) : ∀ k, k < n → x_B w 36 (5 + k) = (A.wm k).toInt64 := S_.2.2.2.2.2.1
theorem OR.b0 {T : x_T} {w : x_W} {n : Nat} {A : Ab} (S_ : OR T w n A) : x_B w 36 10 = A.og := S_.2.2.2.2.2.2.1
theorem OR.b1 {T : x_T} {w : x_W} {n : Nat} {A : Ab} (S_ : OR T w n A) : x_B w 36 11 = A.ig := S_.2.2.2.2.2.2.2.1
theorem OR.b2 {T : x_T} {w : x_W} {n : Nat} {A : Ab} (S_ : OR T w n A) : x_B w 36 12 = A.oc := S_.2.2.2.2.2.2.2.2.1
theorem OR.b3 {T : x_T} {w : x_W} {n : Nat} {A : Ab} (S_ : OR T w n A) : x_B w 36 13 = A.ic := S_.2.2.2.2.2.2.2.2.2.1
theorem OR.ps {T : x_T} {w : x_W} {n : Nat} {A : Ab} (S_ : OR T w n A) : ∀ k, k < n → x_A w 12 k = A.ps k := S_.2.2.2.2.2.2.2.2.2.2.1
theorem OR.fz {T : x_T} {w : x_W} {n : Nat} {A : Ab} (S_ : OR T w n A) : ∀ k, k < n → x_A w 13 k = A.fz k := S_.2.2.2.2.2.2.2.2.2.2.2.1
theorem OR.gd {T : x_T} {w : x_W} {n : Nat} {A : Ab} (S_ : OR T w n A) : ∀ k, k < n → x_A w 14 k = A.gd k := S_.2.2.2.2.2.2.2.2.2.2.2.2.1
theorem OR.gn {T : x_T} {w : x_W} {n : Nat} {A : Ab} (S_ : OR T w n A) : x_I w 91 0 = nI A.gn := S_.2.2.2.2.2.2.2.2.2.2.2.2.2.1
theorem OR.g1 {T : x_T} {w : x_W} {n : Nat} {A : Ab} (S_ : OR T w n A) : ∀ i, i < A.gn → x_A w 23 i = A.g1 i := S_.2.2.2.2.2.2.2.2.2.2.2.2.2.2.1
theorem OR.g2 {T : x_T} {w : x_W} {n : Nat} {A : Ab} (S_ : OR T w n A) : ∀ i, i < A.gn → x_A w 24 i = A.g2 i := S_.2.2.2.2.2.2.2.2.2.2.2.2.2.2.2.1
theorem OR.g3 {T : x_T} {w : x_W} {n : Nat} {A : Ab} (S_ : OR T w n A) : ∀ i, i < A.gn → x_A w 25 i = A.g3 i := S_.2.2.2.2.2.2.2.2.2.2.2.2.2.2.2.2.1
theorem OR.g4 {T : x_T} {w : x_W} {n : Nat} {A : Ab} (S_ : OR T w n A) : ∀ i, i < A.gn → x_A w 26 i = A.g4 i := S_.2.2.2.2.2.2.2.2.2.2.2.2.2.2.2.2.2.1
theorem OR.hr {T : x_T} {w : x_W} {n : Nat} {A : Ab} (S_ : OR T w n A) : x_I w 96 0 = nI A.hr := S_.2.2.2.2.2.2.2.2.2.2.2.2.2.2.2.2.2.2.1
theorem OR.mo {T : x_T} {w : x_W} {n : Nat} {A : Ab} (S_ : OR T w n A) : x_I w 97 0 = A.mo := S_.2.2.2.2.2.2.2.2.2.2.2.2.2.2.2.2.2.2.2.1
theorem OR.st {T : x_T} {w : x_W} {n : Nat} {A : Ab} (S_ : OR T w n A) : x_J w 102 0 = A.st := S_.2.2.2.2.2.2.2.2.2.2.2.2.2.2.2.2.2.2.2.2.1
theorem OR.th {T : x_T} {w : x_W} {n : Nat} {A : Ab} (S_ : OR T w n A) : x_I w 64 0 = 0 := S_.2.2.2.2.2.2.2.2.2.2.2.2.2.2.2.2.2.2.2.2.2
section ORR
variable {T T1 T2 : x_T} {w w' : x_W} {n : Nat} {A : Ab}
theorem OR.gx (S : OR T w n A) (X : Gx [] [98, 99, 100, 101, 106, 107] [7, 8, 10, 11, 28, 33, 34, 35] [9, 27, 29] w w') : OR T w' n A :=
  ⟨X.er S.e, fun k hk => (X.A _ _ (by decide)).trans (S.k1 k hk), fun k hk => (X.A _ _ (by decide)).trans (S.k2 k hk), fun k hk => (X.A _ _ (by decide)).trans (S.k3 k hk), fun k hk => (X.B _ _ (by decide)).trans (S.k4 k hk), fun k hk => (X.B _ _ (by decide)).trans (S.k5 k hk), (X.B _ _ (by decide)).trans S.b0, (X.B _ _ (by decide)).trans S.b1, (X.B _ _ (by decide)).trans S.b2, (X.B _ _ (by decide)).trans S.b3, fun k hk => (X.A _ _ (by decide)).trans (S.ps k hk), fun k hk => (X.A _ _ (by decide)).trans (S.fz k hk), fun k hk => (X.A _ _ (by decide)).trans (S.gd k hk), (X.I _ _ (by decide)).trans S.gn, fun k hk => (X.A _ _ (by decide)).trans (S.g1 k hk), fun k hk => (X.A _ _ (by decide)).trans (S.g2 k hk), fun k hk => (X.A _ _ (by decide)).trans (S.g3 k hk), fun k hk => (X.A _ _ (by decide)).trans (S.g4 k hk), (X.I _ _ (by decide)).trans S.hr, (X.I _ _ (by decide)).trans S.mo, (X.J _ _ (by decide)).trans S.st, (X.I _ _ (by decide)).trans S.th⟩
/-- all is kept -/
theorem r_keep (R : SR T w n A) (n1 : 1 ≤ n) (n5 : n ≤ 5) (h64 : x_I w 64 0 = 0) : wp (f_Mod_keep T w 0) (fun q => q.1 = 36 ∧ OR T q.2 n A) := by
  unfold f_Mod_keep
  refine loop_up (N := n) (by omega) (fun fuel w' i => f_Mod_keep_2 T fuel w' 0 i) (fun j w' => Gx [] [] [30, 31, 32] [36] w w' ∧ ∀ k, k < j → x_A w' 30 k = nI (A.C.mt k) ∧ x_A w' 31 k = Int32.ofInt (A.C.th k) ∧ x_A w' 32 k = Int32.ofInt (A.C.lk k) ∧ x_B w' 36 k = Int64.ofInt (A.C.hd k) ∧ x_B w' 36 (5 + k) = (A.wm k).toInt64) _ ?_ ?_ w ⟨Gx.refl .., fun k hk => by omega⟩
  · intro i w' fuel hi ⟨X, hv⟩
    have G := X.er R.e
    have hR := G.r
    have v1 : x_A w' 7 i = nI (A.C.mt i) := (X.A _ _ (by decide)).trans (R.k.mt i hi)
    have v2 : x_A w' 8 i = Int32.ofInt (A.C.th i) := (X.A _ _ (by decide)).trans (R.k.th i hi)
    have v3 : x_A w' 10 i = Int32.ofInt (A.C.lk i) := (X.A _ _ (by decide)).trans (R.k.lk i hi)
    have v4 : x_B w' 9 i = Int64.ofInt (A.C.hd i) := (X.B _ _ (by decide)).trans (R.k.hd i hi)
    have v5 : x_A w' 11 i = A.wm i := (X.A _ _ (by decide)).trans (R.d.wm i hi)
    refine ⟨x_sB (x_sB (x_sA (x_sA (x_sA w' 30 i (nI (A.C.mt i))) 31 i (Int32.ofInt (A.C.th i))) 32 i (Int32.ofInt (A.C.lk i))) 36 i (Int64.ofInt (A.C.hd i))) 36 (5 + i) (A.wm i).toInt64, ⟨((((X.sA (by decide)).sA (by decide)).sA (by decide)).sB (by decide)).sB (by decide), fun k hk => ?_⟩, ?_⟩
    · by_cases e : k = i
      · subst e
        refine ⟨by simp [wp_some, wp_bind, x_I_sI, x_J_sJ, x_R_sR, x_A_sA, x_B_sB, x_I_sJ, x_I_sR, x_I_sA, x_I_sB, x_J_sI, x_J_sR, x_J_sA, x_J_sB, x_R_sI, x_R_sJ, x_R_sA, x_R_sB, x_A_sI, x_A_sJ, x_A_sR, x_A_sB, x_B_sI, x_B_sJ, x_B_sR, x_B_sA, x_Q_sI, x_Q_sJ, x_Q_sR, x_Q_sA, x_Q_sB, En.cn_mk, En.X_mk, En.Y_mk, En.vp_mk, En.lq_mk, En.ld_mk, En.fo_mk, En.fi_mk, En.cl_mk, Ce.mt_mk, Ce.th_mk, Ce.lk_mk, Ce.hd_mk, Ab.E_mk, Ab.C_mk, Ab.wm_mk, Ab.ps_mk, Ab.fz_mk, Ab.gd_mk, Ab.gn_mk, Ab.g1_mk, Ab.g2_mk, Ab.g3_mk, Ab.g4_mk, Ab.hr_mk, Ab.mo_mk, Ab.st_mk, Ab.og_mk, Ab.oc_mk, Ab.ig_mk, Ab.ic_mk], by simp [wp_some, wp_bind, x_I_sI, x_J_sJ, x_R_sR, x_A_sA, x_B_sB, x_I_sJ, x_I_sR, x_I_sA, x_I_sB, x_J_sI, x_J_sR, x_J_sA, x_J_sB, x_R_sI, x_R_sJ, x_R_sA, x_R_sB, x_A_sI, x_A_sJ, x_A_sR, x_A_sB, x_B_sI, x_B_sJ, x_B_sR, x_B_sA, x_Q_sI, x_Q_sJ, x_Q_sR, x_Q_sA, x_Q_sB, En.cn_mk, En.X_mk, En.Y_mk, En.vp_mk, En.lq_mk, En.ld_mk, En.fo_mk, En.fi_mk, En.cl_mk, Ce.mt_mk, Ce.th_mk, Ce.lk_mk, Ce.hd_mk, Ab.E_mk, Ab.C_mk, Ab.wm_mk, Ab.ps_mk, Ab.fz_mk, Ab.gd_mk, Ab.gn_mk, Ab.g1_mk, Ab.g2_mk, Ab.g3_mk, Ab.g4_mk, Ab.hr_mk, Ab.mo_mk, Ab.st_mk, Ab.og_mk, Ab.oc_mk, Ab.ig_mk, Ab.ic_mk], by simp [wp_some, wp_bind, x_I_sI, x_J_sJ, x_R_sR, x_A_sA, x_B_sB, x_I_sJ, x_I_sR, x_I_sA, x_I_sB, x_J_sI, x_J_sR, x_J_sA, x_J_sB, x_R_sI, x_R_sJ, x_R_sA, x_R_sB, x_A_sI, x_A_sJ, x_A_sR, x_A_sB, x_B_sI, x_B_sJ, x_B_sR, x_B_sA, x_Q_sI, x_Q_sJ, x_Q_sR, x_Q_sA, x_Q_sB, En.cn_mk, En.X_mk, En.Y_mk, En.vp_mk, En.lq_mk, En.ld_mk, En.fo_mk, En.fi_mk, En.cl_mk, Ce.mt_mk, Ce.th_mk, Ce.lk_mk, Ce.hd_mk, Ab.E_mk, Ab.C_mk, Ab.wm_mk, Ab.ps_mk, Ab.fz_mk, Ab.gd_mk, Ab.gn_mk, Ab.g1_mk, Ab.g2_mk, Ab.g3_mk, Ab.g4_mk, Ab.hr_mk, Ab.mo_mk, Ab.st_mk, Ab.og_mk, Ab.oc_mk, Ab.ig_mk, Ab.ic_mk], ?_, by simp [wp_some, wp_bind, x_I_sI, x_J_sJ, x_R_sR, x_A_sA, x_B_sB, x_I_sJ, x_I_sR, x_I_sA, x_I_sB, x_J_sI, x_J_sR, x_J_sA, x_J_sB, x_R_sI, x_R_sJ, x_R_sA, x_R_sB, x_A_sI, x_A_sJ, x_A_sR, x_A_sB, x_B_sI, x_B_sJ, x_B_sR, x_B_sA, x_Q_sI, x_Q_sJ, x_Q_sR, x_Q_sA, x_Q_sB, En.cn_mk, En.X_mk, En.Y_mk, En.vp_mk, En.lq_mk, En.ld_mk, En.fo_mk, En.fi_mk, En.cl_mk, Ce.mt_mk, Ce.th_mk, Ce.lk_mk, Ce.hd_mk, Ab.E_mk, Ab.C_mk, Ab.wm_mk, Ab.ps_mk, Ab.fz_mk, Ab.gd_mk, Ab.gn_mk, Ab.g1_mk, Ab.g2_mk, Ab.g3_mk, Ab.g4_mk, Ab.hr_mk, Ab.mo_mk, Ab.st_mk, Ab.og_mk, Ab.oc_mk, Ab.ig_mk, Ab.ic_mk]⟩
        rw [x_B_sB, if_neg (by omega), x_B_sB, if_pos ⟨rfl, rfl⟩]
      · have := hv k (by omega)
        refine ⟨?_, ?_, ?_, ?_, ?_⟩
        · rw [x_A_sB, x_A_sB, x_A_sA, if_neg (by omega), x_A_sA, if_neg (by omega), x_A_sA, if_neg (by omega)]; exact this.1
        · rw [x_A_sB, x_A_sB, x_A_sA, if_neg (by omega), x_A_sA, if_neg (by omega), x_A_sA, if_neg (by omega)]; exact this.2.1
        · rw [x_A_sB, x_A_sB, x_A_sA, if_neg (by omega), x_A_sA, if_neg (by omega), x_A_sA, if_neg (by omega)]; exact this.2.2.1
        · rw [x_B_sB, if_neg (by omega), x_B_sB, if_neg (by omega), x_B_sA, x_B_sA, x_B_sA]; exact this.2.2.2.1
        · rw [x_B_sB, if_neg (by omega), x_B_sB, if_neg (by omega), x_B_sA, x_B_sA, x_B_sA]; exact this.2.2.2.2
    · show f_Mod_keep_2 T (fuel + 1) w' _ _ = f_Mod_keep_2 T fuel _ _ _
      rw [f_Mod_keep_2, hR.i, Option.bind_some, G.n, if_neg (by rw [nI_leS (by omega) (by omega)]; omega)]
      simp only [Option.bind_some, (hR).i, (hR).r66, (hR).r67, (hR).r68, (hR).r69, (hR).r70, (hR).r71, (hR).r72, (hR).r73, (hR).r74, (hR).r75, (hR).r76, (hR).r77, (hR).r78, (hR).r79, (hR).r81, (hR).r82, (hR).r85, (hR).r86, (hR).r87, (hR).r88, (hR).r89, (hR).r90, (hR).r92, (hR).r93, (hR).r94, (hR).r95, (hR).r103, (hR).r104, (hR).r105, (hR).r108, (hR).r109, (hR).r110, (hR).r111, (hR).r112, (hR).r113, (hR).r114, x_R_sI, x_R_sJ, x_R_sA, x_R_sB]
      simp only [t_ixn hR.a7 (show i < 12 by omega) (by omega), t_ixn hR.a8 (show i < 12 by omega) (by omega), t_ixn hR.a10 (show i < 12 by omega) (by omega), t_ixn hR.a9 (show i < 12 by omega) (by omega), t_ixn hR.a11 (show i < 12 by omega) (by omega), t_ixn hR.a30 (show i < 12 by omega) (by omega), t_ixn hR.a31 (show i < 12 by omega) (by omega), t_ixn hR.a32 (show i < 12 by omega) (by omega), t_ixn hR.a36 (show i < 14 by omega) (by omega), show (5 : Int32) = nI 5 from rfl, nI_addS, t_ixn hR.a36 (show 5 + i < 14 by omega) (by omega), Option.bind_some, nI_clampS (show i < 100000 by omega), nI_clampS (show 5 + i < 100000 by omega), v1, nI_inc]
      have u2 : x_A (x_sA w' 30 i (nI (A.C.mt i))) 8 i = Int32.ofInt (A.C.th i) := by rw [x_A_sA, if_neg (by omega), v2]
      simp only [u2]
      have u3 : x_A (x_sA (x_sA w' 30 i (nI (A.C.mt i))) 31 i (Int32.ofInt (A.C.th i))) 10 i = Int32.ofInt (A.C.lk i) := by rw [x_A_sA, if_neg (by omega), x_A_sA, if_neg (by omega), v3]
      simp only [u3]
      have u4 : x_B (x_sA (x_sA (x_sA w' 30 i (nI (A.C.mt i))) 31 i (Int32.ofInt (A.C.th i))) 32 i (Int32.ofInt (A.C.lk i))) 9 i = Int64.ofInt (A.C.hd i) := v4
      simp only [u4]
      have u5 : x_A (x_sB (x_sA (x_sA (x_sA w' 30 i (nI (A.C.mt i))) 31 i (Int32.ofInt (A.C.th i))) 32 i (Int32.ofInt (A.C.lk i))) 36 i (Int64.ofInt (A.C.hd i))) 11 i = A.wm i := by rw [x_A_sB, x_A_sA, if_neg (by omega), x_A_sA, if_neg (by omega), x_A_sA, if_neg (by omega), v5]
      simp only [u5]
  · intro w' fuel ⟨X, hv⟩
    have G := X.er R.e
    have hR := G.r
    have D := R.d
    have j0 : x_J w' 98 0 = A.og := (X.J _ _ (by decide)).trans D.og
    have j1 : x_J w' 99 0 = A.ig := (X.J _ _ (by decide)).trans D.ig
    have j2 : x_J w' 100 0 = A.oc := (X.J _ _ (by decide)).trans D.oc
    have j3 : x_J w' 101 0 = A.ic := (X.J _ _ (by decide)).trans D.ic
    show wp (f_Mod_keep_2 T (fuel + 1) w' _ _) _
    rw [f_Mod_keep_2, hR.i, Option.bind_some, G.n, if_pos (by rw [nI_leS (by omega) (by omega)]; omega)]
    simp only [Option.bind_some, (hR).i, (hR).r66, (hR).r67, (hR).r68, (hR).r69, (hR).r70, (hR).r71, (hR).r72, (hR).r73, (hR).r74, (hR).r75, (hR).r76, (hR).r77, (hR).r78, (hR).r79, (hR).r81, (hR).r82, (hR).r85, (hR).r86, (hR).r87, (hR).r88, (hR).r89, (hR).r90, (hR).r92, (hR).r93, (hR).r94, (hR).r95, (hR).r103, (hR).r104, (hR).r105, (hR).r108, (hR).r109, (hR).r110, (hR).r111, (hR).r112, (hR).r113, (hR).r114, x_R_sI, x_R_sJ, x_R_sA, x_R_sB]
    simp only [show (10 : Int32) = nI 10 from rfl, show (11 : Int32) = nI 11 from rfl, show (12 : Int32) = nI 12 from rfl, show (13 : Int32) = nI 13 from rfl, t_ixn hR.a36 (show 10 < 14 by omega) (by omega), t_ixn hR.a36 (show 11 < 14 by omega) (by omega), t_ixn hR.a36 (show 12 < 14 by omega) (by omega), t_ixn hR.a36 (show 13 < 14 by omega) (by omega), nI_clampS (show 10 < 100000 by omega), nI_clampS (show 11 < 100000 by omega), nI_clampS (show 12 < 100000 by omega), nI_clampS (show 13 < 100000 by omega), Option.bind_some, x_J_sB, j0, j1, j2, j3, wp_some]
    have X2 : Gx [] [] [30, 31, 32] [36] w (x_sB (x_sB (x_sB (x_sB w' 36 10 A.og) 36 11 A.ig) 36 12 A.oc) 36 13 A.ic) := (((X.sB (by decide)).sB (by decide)).sB (by decide)).sB (by decide)
    refine ⟨trivial, X2.er R.e, fun k hk => (hv k hk).1, fun k hk => (hv k hk).2.1, fun k hk => (hv k hk).2.2.1, fun k hk => ?_, fun k hk => ?_, by simp [wp_some, wp_bind, x_I_sI, x_J_sJ, x_R_sR, x_A_sA, x_B_sB, x_I_sJ, x_I_sR, x_I_sA, x_I_sB, x_J_sI, x_J_sR, x_J_sA, x_J_sB, x_R_sI, x_R_sJ, x_R_sA, x_R_sB, x_A_sI, x_A_sJ, x_A_sR, x_A_sB, x_B_sI, x_B_sJ, x_B_sR, x_B_sA, x_Q_sI, x_Q_sJ, x_Q_sR, x_Q_sA, x_Q_sB, En.cn_mk, En.X_mk, En.Y_mk, En.vp_mk, En.lq_mk, En.ld_mk, En.fo_mk, En.fi_mk, En.cl_mk, Ce.mt_mk, Ce.th_mk, Ce.lk_mk, Ce.hd_mk, Ab.E_mk, Ab.C_mk, Ab.wm_mk, Ab.ps_mk, Ab.fz_mk, Ab.gd_mk, Ab.gn_mk, Ab.g1_mk, Ab.g2_mk, Ab.g3_mk, Ab.g4_mk, Ab.hr_mk, Ab.mo_mk, Ab.st_mk, Ab.og_mk, Ab.oc_mk, Ab.ig_mk, Ab.ic_mk], by simp [wp_some, wp_bind, x_I_sI, x_J_sJ, x_R_sR, x_A_sA, x_B_sB, x_I_sJ, x_I_sR, x_I_sA, x_I_sB, x_J_sI, x_J_sR, x_J_sA, x_J_sB, x_R_sI, x_R_sJ, x_R_sA, x_R_sB, x_A_sI, x_A_sJ, x_A_sR, x_A_sB, x_B_sI, x_B_sJ, x_B_sR, x_B_sA, x_Q_sI, x_Q_sJ, x_Q_sR, x_Q_sA, x_Q_sB, En.cn_mk, En.X_mk, En.Y_mk, En.vp_mk, En.lq_mk, En.ld_mk, En.fo_mk, En.fi_mk, En.cl_mk, Ce.mt_mk, Ce.th_mk, Ce.lk_mk, Ce.hd_mk, Ab.E_mk, Ab.C_mk, Ab.wm_mk, Ab.ps_mk, Ab.fz_mk, Ab.gd_mk, Ab.gn_mk, Ab.g1_mk, Ab.g2_mk, Ab.g3_mk, Ab.g4_mk, Ab.hr_mk, Ab.mo_mk, Ab.st_mk, Ab.og_mk, Ab.oc_mk, Ab.ig_mk, Ab.ic_mk], by simp [wp_some, wp_bind, x_I_sI, x_J_sJ, x_R_sR, x_A_sA, x_B_sB, x_I_sJ, x_I_sR, x_I_sA, x_I_sB, x_J_sI, x_J_sR, x_J_sA, x_J_sB, x_R_sI, x_R_sJ, x_R_sA, x_R_sB, x_A_sI, x_A_sJ, x_A_sR, x_A_sB, x_B_sI, x_B_sJ, x_B_sR, x_B_sA, x_Q_sI, x_Q_sJ, x_Q_sR, x_Q_sA, x_Q_sB, En.cn_mk, En.X_mk, En.Y_mk, En.vp_mk, En.lq_mk, En.ld_mk, En.fo_mk, En.fi_mk, En.cl_mk, Ce.mt_mk, Ce.th_mk, Ce.lk_mk, Ce.hd_mk, Ab.E_mk, Ab.C_mk, Ab.wm_mk, Ab.ps_mk, Ab.fz_mk, Ab.gd_mk, Ab.gn_mk, Ab.g1_mk, Ab.g2_mk, Ab.g3_mk, Ab.g4_mk, Ab.hr_mk, Ab.mo_mk, Ab.st_mk, Ab.og_mk, Ab.oc_mk, Ab.ig_mk, Ab.ic_mk], by simp [wp_some, wp_bind, x_I_sI, x_J_sJ, x_R_sR, x_A_sA, x_B_sB, x_I_sJ, x_I_sR, x_I_sA, x_I_sB, x_J_sI, x_J_sR, x_J_sA, x_J_sB, x_R_sI, x_R_sJ, x_R_sA, x_R_sB, x_A_sI, x_A_sJ, x_A_sR, x_A_sB, x_B_sI, x_B_sJ, x_B_sR, x_B_sA, x_Q_sI, x_Q_sJ, x_Q_sR, x_Q_sA, x_Q_sB, En.cn_mk, En.X_mk, En.Y_mk, En.vp_mk, En.lq_mk, En.ld_mk, En.fo_mk, En.fi_mk, En.cl_mk, Ce.mt_mk, Ce.th_mk, Ce.lk_mk, Ce.hd_mk, Ab.E_mk, Ab.C_mk, Ab.wm_mk, Ab.ps_mk, Ab.fz_mk, Ab.gd_mk, Ab.gn_mk, Ab.g1_mk, Ab.g2_mk, Ab.g3_mk, Ab.g4_mk, Ab.hr_mk, Ab.mo_mk, Ab.st_mk, Ab.og_mk, Ab.oc_mk, Ab.ig_mk, Ab.ic_mk], fun k hk => (X2.A _ _ (by decide)).trans (D.ps k hk), fun k hk => (X2.A _ _ (by decide)).trans (D.fz k hk), fun k hk => (X2.A _ _ (by decide)).trans (D.gd k hk), (X2.I _ _ (by decide)).trans D.gn, fun k hk => (X2.A _ _ (by decide)).trans (D.g1 k hk), fun k hk => (X2.A _ _ (by decide)).trans (D.g2 k hk), fun k hk => (X2.A _ _ (by decide)).trans (D.g3 k hk), fun k hk => (X2.A _ _ (by decide)).trans (D.g4 k hk), (X2.I _ _ (by decide)).trans D.hr, (X2.I _ _ (by decide)).trans D.mo, (X2.J _ _ (by decide)).trans D.st, (X2.I _ _ (by decide)).trans h64⟩
    · rw [x_B_sB, if_neg (by omega), x_B_sB, if_neg (by omega), x_B_sB, if_neg (by omega), x_B_sB, if_neg (by omega)]; exact (hv k hk).2.2.2.1
    · rw [x_B_sB, if_neg (by omega), x_B_sB, if_neg (by omega), x_B_sB, if_neg (by omega), x_B_sB, if_neg (by omega)]; exact (hv k hk).2.2.2.2
/-- all is brought back -/
theorem r_back (S : OR T w n A) (n1 : 1 ≤ n) (n5 : n ≤ 5) {D : List Nat} (RD : Rw w 34 n D) {p : Nat} (hp : p < n) : wp (f_Mod_order_165 T 1000 w 0 (nI p) 36 0) (fun q => q.1 = nI (gl D p) ∧ SR T q.2 n A ∧ x_I q.2 64 0 = 0) := by
  refine loop_up (N := n) (by omega) (fun fuel w' i => f_Mod_order_165 T fuel w' 0 (nI p) 36 i) (fun j w' => Gx [] [98, 99, 100, 101, 106, 107] [7, 8, 10, 11] [9] w w' ∧ ∀ k, k < j → x_A w' 7 k = nI (A.C.mt k) ∧ x_A w' 8 k = Int32.ofInt (A.C.th k) ∧ x_A w' 10 k = Int32.ofInt (A.C.lk k) ∧ x_B w' 9 k = Int64.ofInt (A.C.hd k) ∧ x_A w' 11 k = A.wm k) _ ?_ ?_ w ⟨Gx.refl .., fun k hk => by omega⟩
  · intro i w' fuel hi ⟨X, hv⟩
    have S' := S.gx (X.mono (by decide) (by decide) (by decide) (by decide))
    have hR := S'.e.r
    refine ⟨x_sA (x_sB (x_sA (x_sA (x_sA w' 7 i (nI (A.C.mt i))) 8 i (Int32.ofInt (A.C.th i))) 10 i (Int32.ofInt (A.C.lk i))) 9 i (Int64.ofInt (A.C.hd i))) 11 i (A.wm i), ⟨((((X.sA (by decide)).sA (by decide)).sA (by decide)).sB (by decide)).sA (by decide), fun k hk => ?_⟩, ?_⟩
    · by_cases e : k = i
      · subst e
        refine ⟨by simp [wp_some, wp_bind, x_I_sI, x_J_sJ, x_R_sR, x_A_sA, x_B_sB, x_I_sJ, x_I_sR, x_I_sA, x_I_sB, x_J_sI, x_J_sR, x_J_sA, x_J_sB, x_R_sI, x_R_sJ, x_R_sA, x_R_sB, x_A_sI, x_A_sJ, x_A_sR, x_A_sB, x_B_sI, x_B_sJ, x_B_sR, x_B_sA, x_Q_sI, x_Q_sJ, x_Q_sR, x_Q_sA, x_Q_sB, En.cn_mk, En.X_mk, En.Y_mk, En.vp_mk, En.lq_mk, En.ld_mk, En.fo_mk, En.fi_mk, En.cl_mk, Ce.mt_mk, Ce.th_mk, Ce.lk_mk, Ce.hd_mk, Ab.E_mk, Ab.C_mk, Ab.wm_mk, Ab.ps_mk, Ab.fz_mk, Ab.gd_mk, Ab.gn_mk, Ab.g1_mk, Ab.g2_mk, Ab.g3_mk, Ab.g4_mk, Ab.hr_mk, Ab.mo_mk, Ab.st_mk, Ab.og_mk, Ab.oc_mk, Ab.ig_mk, Ab.ic_mk], by simp [wp_some, wp_bind, x_I_sI, x_J_sJ, x_R_sR, x_A_sA, x_B_sB, x_I_sJ, x_I_sR, x_I_sA, x_I_sB, x_J_sI, x_J_sR, x_J_sA, x_J_sB, x_R_sI, x_R_sJ, x_R_sA, x_R_sB, x_A_sI, x_A_sJ, x_A_sR, x_A_sB, x_B_sI, x_B_sJ, x_B_sR, x_B_sA, x_Q_sI, x_Q_sJ, x_Q_sR, x_Q_sA, x_Q_sB, En.cn_mk, En.X_mk, En.Y_mk, En.vp_mk, En.lq_mk, En.ld_mk, En.fo_mk, En.fi_mk, En.cl_mk, Ce.mt_mk, Ce.th_mk, Ce.lk_mk, Ce.hd_mk, Ab.E_mk, Ab.C_mk, Ab.wm_mk, Ab.ps_mk, Ab.fz_mk, Ab.gd_mk, Ab.gn_mk, Ab.g1_mk, Ab.g2_mk, Ab.g3_mk, Ab.g4_mk, Ab.hr_mk, Ab.mo_mk, Ab.st_mk, Ab.og_mk, Ab.oc_mk, Ab.ig_mk, Ab.ic_mk], by simp [wp_some, wp_bind, x_I_sI, x_J_sJ, x_R_sR, x_A_sA, x_B_sB, x_I_sJ, x_I_sR, x_I_sA, x_I_sB, x_J_sI, x_J_sR, x_J_sA, x_J_sB, x_R_sI, x_R_sJ, x_R_sA, x_R_sB, x_A_sI, x_A_sJ, x_A_sR, x_A_sB, x_B_sI, x_B_sJ, x_B_sR, x_B_sA, x_Q_sI, x_Q_sJ, x_Q_sR, x_Q_sA, x_Q_sB, En.cn_mk, En.X_mk, En.Y_mk, En.vp_mk, En.lq_mk, En.ld_mk, En.fo_mk, En.fi_mk, En.cl_mk, Ce.mt_mk, Ce.th_mk, Ce.lk_mk, Ce.hd_mk, Ab.E_mk, Ab.C_mk, Ab.wm_mk, Ab.ps_mk, Ab.fz_mk, Ab.gd_mk, Ab.gn_mk, Ab.g1_mk, Ab.g2_mk, Ab.g3_mk, Ab.g4_mk, Ab.hr_mk, Ab.mo_mk, Ab.st_mk, Ab.og_mk, Ab.oc_mk, Ab.ig_mk, Ab.ic_mk], by simp [wp_some, wp_bind, x_I_sI, x_J_sJ, x_R_sR, x_A_sA, x_B_sB, x_I_sJ, x_I_sR, x_I_sA, x_I_sB, x_J_sI, x_J_sR, x_J_sA, x_J_sB, x_R_sI, x_R_sJ, x_R_sA, x_R_sB, x_A_sI, x_A_sJ, x_A_sR, x_A_sB, x_B_sI, x_B_sJ, x_B_sR, x_B_sA, x_Q_sI, x_Q_sJ, x_Q_sR, x_Q_sA, x_Q_sB, En.cn_mk, En.X_mk, En.Y_mk, En.vp_mk, En.lq_mk, En.ld_mk, En.fo_mk, En.fi_mk, En.cl_mk, Ce.mt_mk, Ce.th_mk, Ce.lk_mk, Ce.hd_mk, Ab.E_mk, Ab.C_mk, Ab.wm_mk, Ab.ps_mk, Ab.fz_mk, Ab.gd_mk, Ab.gn_mk, Ab.g1_mk, Ab.g2_mk, Ab.g3_mk, Ab.g4_mk, Ab.hr_mk, Ab.mo_mk, Ab.st_mk, Ab.og_mk, Ab.oc_mk, Ab.ig_mk, Ab.ic_mk], by simp [wp_some, wp_bind, x_I_sI, x_J_sJ, x_R_sR, x_A_sA, x_B_sB, x_I_sJ, x_I_sR, x_I_sA, x_I_sB, x_J_sI, x_J_sR, x_J_sA, x_J_sB, x_R_sI, x_R_sJ, x_R_sA, x_R_sB, x_A_sI, x_A_sJ, x_A_sR, x_A_sB, x_B_sI, x_B_sJ, x_B_sR, x_B_sA, x_Q_sI, x_Q_sJ, x_Q_sR, x_Q_sA, x_Q_sB, En.cn_mk, En.X_mk, En.Y_mk, En.vp_mk, En.lq_mk, En.ld_mk, En.fo_mk, En.fi_mk, En.cl_mk, Ce.mt_mk, Ce.th_mk, Ce.lk_mk, Ce.hd_mk, Ab.E_mk, Ab.C_mk, Ab.wm_mk, Ab.ps_mk, Ab.fz_mk, Ab.gd_mk, Ab.gn_mk, Ab.g1_mk, Ab.g2_mk, Ab.g3_mk, Ab.g4_mk, Ab.hr_mk, Ab.mo_mk, Ab.st_mk, Ab.og_mk, Ab.oc_mk, Ab.ig_mk, Ab.ic_mk]⟩
      · have := hv k (by omega)
        refine ⟨?_, ?_, ?_, ?_, ?_⟩
        · rw [x_A_sA, if_neg (by omega), x_A_sB, x_A_sA, if_neg (by omega), x_A_sA, if_neg (by omega), x_A_sA, if_neg (by omega)]; exact this.1
        · rw [x_A_sA, if_neg (by omega), x_A_sB, x_A_sA, if_neg (by omega), x_A_sA, if_neg (by omega), x_A_sA, if_neg (by omega)]; exact this.2.1
        · rw [x_A_sA, if_neg (by omega), x_A_sB, x_A_sA, if_neg (by omega), x_A_sA, if_neg (by omega), x_A_sA, if_neg (by omega)]; exact this.2.2.1
        · rw [x_B_sA, x_B_sB, if_neg (by omega), x_B_sA, x_B_sA, x_B_sA]; exact this.2.2.2.1
        · rw [x_A_sA, if_neg (by omega), x_A_sB, x_A_sA, if_neg (by omega), x_A_sA, if_neg (by omega), x_A_sA, if_neg (by omega)]; exact this.2.2.2.2
    · show f_Mod_order_165 T (fuel + 1) w' _ _ _ _ = f_Mod_order_165 T fuel _ _ _ _ _
      rw [f_Mod_order_165, hR.i, Option.bind_some, S'.e.n, if_neg (by rw [nI_leS (by omega) (by omega)]; omega)]
      simp only [Option.bind_some, (hR).i, (hR).r66, (hR).r67, (hR).r68, (hR).r69, (hR).r70, (hR).r71, (hR).r72, (hR).r73, (hR).r74, (hR).r75, (hR).r76, (hR).r77, (hR).r78, (hR).r79, (hR).r81, (hR).r82, (hR).r85, (hR).r86, (hR).r87, (hR).r88, (hR).r89, (hR).r90, (hR).r92, (hR).r93, (hR).r94, (hR).r95, (hR).r103, (hR).r104, (hR).r105, (hR).r108, (hR).r109, (hR).r110, (hR).r111, (hR).r112, (hR).r113, (hR).r114, x_R_sI, x_R_sJ, x_R_sA, x_R_sB]
      have u2 : x_A (x_sA w' 7 i (nI (A.C.mt i))) 31 i = Int32.ofInt (A.C.th i) := by rw [x_A_sA, if_neg (by omega)]; exact S'.k2 i hi
      have u3 : x_A (x_sA (x_sA w' 7 i (nI (A.C.mt i))) 8 i (Int32.ofInt (A.C.th i))) 32 i = Int32.ofInt (A.C.lk i) := by rw [x_A_sA, if_neg (by omega), x_A_sA, if_neg (by omega)]; exact S'.k3 i hi
      have u4 : x_B (x_sA (x_sA (x_sA w' 7 i (nI (A.C.mt i))) 8 i (Int32.ofInt (A.C.th i))) 10 i (Int32.ofInt (A.C.lk i))) 36 i = Int64.ofInt (A.C.hd i) := S'.k4 i hi
      have u5 : x_B (x_sB (x_sA (x_sA (x_sA w' 7 i (nI (A.C.mt i))) 8 i (Int32.ofInt (A.C.th i))) 10 i (Int32.ofInt (A.C.lk i))) 9 i (Int64.ofInt (A.C.hd i))) 36 (5 + i) = (A.wm i).toInt64 := by rw [x_B_sB, if_neg (by omega)]; exact S'.k5 i hi
      have u6 : (A.wm i).toInt64.toInt32 = A.wm i := by rw [z_64x, z_32, z_o]
      simp only [t_ixn hR.a7 (show i < 12 by omega) (by omega), t_ixn hR.a8 (show i < 12 by omega) (by omega), t_ixn hR.a10 (show i < 12 by omega) (by omega), t_ixn hR.a9 (show i < 12 by omega) (by omega), t_ixn hR.a11 (show i < 12 by omega) (by omega), t_ixn hR.a30 (show i < 12 by omega) (by omega), t_ixn hR.a31 (show i < 12 by omega) (by omega), t_ixn hR.a32 (show i < 12 by omega) (by omega), t_ixn hR.a36 (show i < 14 by omega) (by omega), show (5 : Int32) = nI 5 from rfl, nI_addS, t_ixn hR.a36 (show 5 + i < 14 by omega) (by omega), Option.bind_some, nI_clampS (show i < 100000 by omega), nI_clampS (show 5 + i < 100000 by omega), S'.k1 i hi, u2, u3, u4, u5, u6, nI_inc]
  · intro w' fuel ⟨X, hv⟩
    have S' := S.gx (X.mono (by decide) (by decide) (by decide) (by decide))
    have hR := S'.e.r
    have RD' : x_A w' 34 p = nI (gl D p) := (X.A _ _ (by decide)).trans (RD p hp)
    show wp (f_Mod_order_165 T (fuel + 1) w' _ _ _ _) _
    rw [f_Mod_order_165, hR.i, Option.bind_some, S'.e.n, if_pos (by rw [nI_leS (by omega) (by omega)]; omega)]
    simp only [Option.bind_some, (hR).i, (hR).r66, (hR).r67, (hR).r68, (hR).r69, (hR).r70, (hR).r71, (hR).r72, (hR).r73, (hR).r74, (hR).r75, (hR).r76, (hR).r77, (hR).r78, (hR).r79, (hR).r81, (hR).r82, (hR).r85, (hR).r86, (hR).r87, (hR).r88, (hR).r89, (hR).r90, (hR).r92, (hR).r93, (hR).r94, (hR).r95, (hR).r103, (hR).r104, (hR).r105, (hR).r108, (hR).r109, (hR).r110, (hR).r111, (hR).r112, (hR).r113, (hR).r114, x_R_sI, x_R_sJ, x_R_sA, x_R_sB]
    simp only [show (10 : Int32) = nI 10 from rfl, show (11 : Int32) = nI 11 from rfl, show (12 : Int32) = nI 12 from rfl, show (13 : Int32) = nI 13 from rfl, t_ixn hR.a36 (show 10 < 14 by omega) (by omega), t_ixn hR.a36 (show 11 < 14 by omega) (by omega), t_ixn hR.a36 (show 12 < 14 by omega) (by omega), t_ixn hR.a36 (show 13 < 14 by omega) (by omega), nI_clampS (show 10 < 100000 by omega), nI_clampS (show 11 < 100000 by omega), nI_clampS (show 12 < 100000 by omega), nI_clampS (show 13 < 100000 by omega), t_ixn hR.a34 (show p < 5 by omega) (by omega), nI_clampS (show p < 100000 by omega), Option.bind_some, x_B_sJ, x_A_sJ, S'.b0, S'.b1, S'.b2, S'.b3, RD', wp_some]
    have X2 : Gx [] [98, 99, 100, 101] [] [] w' (x_sJ (x_sJ (x_sJ (x_sJ w' 98 0 A.og) 99 0 A.ig) 100 0 A.oc) 101 0 A.ic) := ((((Gx.refl _ _ _ _ w').sJ (by decide)).sJ (by decide)).sJ (by decide)).sJ (by decide)
    exact ⟨trivial, ⟨X2.er S'.e, ⟨fun k hk => (hv k hk).1, fun k hk => (hv k hk).2.1, fun k hk => (hv k hk).2.2.1, fun k hk => (hv k hk).2.2.2.1⟩, ⟨fun k hk => (hv k hk).2.2.2.2, S'.ps, S'.fz, S'.gd, S'.gn, S'.g1, S'.g2, S'.g3, S'.g4, S'.hr, S'.mo, (X2.J _ _ (by decide)).trans S'.st, by simp [wp_some, wp_bind, x_I_sI, x_J_sJ, x_R_sR, x_A_sA, x_B_sB, x_I_sJ, x_I_sR, x_I_sA, x_I_sB, x_J_sI, x_J_sR, x_J_sA, x_J_sB, x_R_sI, x_R_sJ, x_R_sA, x_R_sB, x_A_sI, x_A_sJ, x_A_sR, x_A_sB, x_B_sI, x_B_sJ, x_B_sR, x_B_sA, x_Q_sI, x_Q_sJ, x_Q_sR, x_Q_sA, x_Q_sB, En.cn_mk, En.X_mk, En.Y_mk, En.vp_mk, En.lq_mk, En.ld_mk, En.fo_mk, En.fi_mk, En.cl_mk, Ce.mt_mk, Ce.th_mk, Ce.lk_mk, Ce.hd_mk, Ab.E_mk, Ab.C_mk, Ab.wm_mk, Ab.ps_mk, Ab.fz_mk, Ab.gd_mk, Ab.gn_mk, Ab.g1_mk, Ab.g2_mk, Ab.g3_mk, Ab.g4_mk, Ab.hr_mk, Ab.mo_mk, Ab.st_mk, Ab.og_mk, Ab.oc_mk, Ab.ig_mk, Ab.ic_mk], by simp [wp_some, wp_bind, x_I_sI, x_J_sJ, x_R_sR, x_A_sA, x_B_sB, x_I_sJ, x_I_sR, x_I_sA, x_I_sB, x_J_sI, x_J_sR, x_J_sA, x_J_sB, x_R_sI, x_R_sJ, x_R_sA, x_R_sB, x_A_sI, x_A_sJ, x_A_sR, x_A_sB, x_B_sI, x_B_sJ, x_B_sR, x_B_sA, x_Q_sI, x_Q_sJ, x_Q_sR, x_Q_sA, x_Q_sB, En.cn_mk, En.X_mk, En.Y_mk, En.vp_mk, En.lq_mk, En.ld_mk, En.fo_mk, En.fi_mk, En.cl_mk, Ce.mt_mk, Ce.th_mk, Ce.lk_mk, Ce.hd_mk, Ab.E_mk, Ab.C_mk, Ab.wm_mk, Ab.ps_mk, Ab.fz_mk, Ab.gd_mk, Ab.gn_mk, Ab.g1_mk, Ab.g2_mk, Ab.g3_mk, Ab.g4_mk, Ab.hr_mk, Ab.mo_mk, Ab.st_mk, Ab.og_mk, Ab.oc_mk, Ab.ig_mk, Ab.ic_mk], by simp [wp_some, wp_bind, x_I_sI, x_J_sJ, x_R_sR, x_A_sA, x_B_sB, x_I_sJ, x_I_sR, x_I_sA, x_I_sB, x_J_sI, x_J_sR, x_J_sA, x_J_sB, x_R_sI, x_R_sJ, x_R_sA, x_R_sB, x_A_sI, x_A_sJ, x_A_sR, x_A_sB, x_B_sI, x_B_sJ, x_B_sR, x_B_sA, x_Q_sI, x_Q_sJ, x_Q_sR, x_Q_sA, x_Q_sB, En.cn_mk, En.X_mk, En.Y_mk, En.vp_mk, En.lq_mk, En.ld_mk, En.fo_mk, En.fi_mk, En.cl_mk, Ce.mt_mk, Ce.th_mk, Ce.lk_mk, Ce.hd_mk, Ab.E_mk, Ab.C_mk, Ab.wm_mk, Ab.ps_mk, Ab.fz_mk, Ab.gd_mk, Ab.gn_mk, Ab.g1_mk, Ab.g2_mk, Ab.g3_mk, Ab.g4_mk, Ab.hr_mk, Ab.mo_mk, Ab.st_mk, Ab.og_mk, Ab.oc_mk, Ab.ig_mk, Ab.ic_mk], by simp [wp_some, wp_bind, x_I_sI, x_J_sJ, x_R_sR, x_A_sA, x_B_sB, x_I_sJ, x_I_sR, x_I_sA, x_I_sB, x_J_sI, x_J_sR, x_J_sA, x_J_sB, x_R_sI, x_R_sJ, x_R_sA, x_R_sB, x_A_sI, x_A_sJ, x_A_sR, x_A_sB, x_B_sI, x_B_sJ, x_B_sR, x_B_sA, x_Q_sI, x_Q_sJ, x_Q_sR, x_Q_sA, x_Q_sB, En.cn_mk, En.X_mk, En.Y_mk, En.vp_mk, En.lq_mk, En.ld_mk, En.fo_mk, En.fi_mk, En.cl_mk, Ce.mt_mk, Ce.th_mk, Ce.lk_mk, Ce.hd_mk, Ab.E_mk, Ab.C_mk, Ab.wm_mk, Ab.ps_mk, Ab.fz_mk, Ab.gd_mk, Ab.gn_mk, Ab.g1_mk, Ab.g2_mk, Ab.g3_mk, Ab.g4_mk, Ab.hr_mk, Ab.mo_mk, Ab.st_mk, Ab.og_mk, Ab.oc_mk, Ab.ig_mk, Ab.ic_mk]⟩⟩, S'.th⟩
theorem r_hours (B : EB A.E) (n1 : 1 ≤ n) (n5 : n ≤ 5) (m0 : Nat) (hm0 : m0 ≤ 48) : ∀ m i fuel (C : Ce) (w : x_W), i + m = m0 → m < fuel → KB A.E n C → KR w n C → ER T w A.E n → wp (f_Mod_dry_76 T fuel w 0 (nI m0) (nI i)) (fun q => q.1 = Int64.ofInt (zs (hrsC A.E n m i C).hd n) ∧ Gx [] [98, 99, 100, 101, 106, 107] [11, 28] [9, 27, 29] w q.2) := by
  intro m
  induction m with
  | zero =>
    intro i fuel C w hi hf K KR' G
    obtain ⟨fuel, rfl⟩ : ∃ q, fuel = q + 1 := ⟨fuel - 1, by omega⟩
    rw [f_Mod_dry_76, if_pos (by rw [nI_leS (by omega) (by omega)]; omega), G.r.i, Option.bind_some, r_allWater G KR' K, Option.bind_some, wp_some]
    exact ⟨rfl, Gx.refl ..⟩
  | succ m ih =>
    intro i fuel C w hi hf K KR' G
    obtain ⟨fuel, rfl⟩ : ∃ q, fuel = q + 1 := ⟨fuel - 1, by omega⟩
    rw [f_Mod_dry_76, if_neg (by rw [nI_leS (by omega) (by omega)]; omega), G.r.i, Option.bind_some, z_mod24 (by omega), wp_bind]
    refine wp_mono (r_hour B G KR' K (Nat.mod_lt i (by omega))) ?_
    intro w2 H
    rw [nI_inc]
    refine wp_mono (ih (i + 1) fuel _ w2 (by omega) (by omega) (hour_KB B K (Nat.mod_lt _ (by omega))) H.k (H.fx.er G)) ?_
    intro q ⟨h1, h2⟩
    exact ⟨h1, H.fx.trans h2⟩
theorem r_dry (S : OR T w n A) (B : AB n A) (n5 : n ≤ 5) {L : List Nat} (hg : ∀ i, i < n → gl L i < n) (R : Rw w 33 n L) {m : Nat} (hm : m ≤ 48) : wp (f_Mod_dry T w 0 (nI m)) (fun q => q.1 = Int64.ofInt (wtL A.E n A.C m L) ∧ Gx [] [98, 99, 100, 101, 106, 107] [7, 8, 10, 11, 28] [9, 27, 29] w q.2) := by
  have n1 := B.k.n1
  unfold f_Mod_dry
  refine loop_up (N := n) (by omega) (fun fuel w' i => f_Mod_dry_2 T fuel w' 0 (nI m) i) (fun j w' => Gx [] [98, 99, 100, 101, 106, 107] [7, 8, 10, 11, 28] [9, 27, 29] w w' ∧ ∀ k, k < j → x_A w' 7 k = nI (A.C.mt (gl L k)) ∧ x_A w' 8 k = Int32.ofInt (A.C.th (gl L k)) ∧ x_A w' 10 k = Int32.ofInt (A.C.lk (gl L k)) ∧ x_B w' 9 k = Int64.ofInt 0) _ ?_ ?_ w ⟨Gx.refl .., fun k hk => by omega⟩
  · intro i w' fuel hi ⟨X, hv⟩
    have S' := S.gx (X.mono (by decide) (by decide) (by decide) (by decide))
    have hR := S'.e.r
    have gi := hg i hi
    have Ri : x_A w' 33 i = nI (gl L i) := (X.A _ _ (by decide)).trans (R i hi)
    refine ⟨x_sB (x_sA (x_sA (x_sA w' 7 i (nI (A.C.mt (gl L i)))) 8 i (Int32.ofInt (A.C.th (gl L i)))) 10 i (Int32.ofInt (A.C.lk (gl L i)))) 9 i 0, ⟨(((X.sA (by decide)).sA (by decide)).sA (by decide)).sB (by decide), fun k hk => ?_⟩, ?_⟩
    · by_cases e : k = i
      · subst e
        refine ⟨by simp [wp_some, wp_bind, x_I_sI, x_J_sJ, x_R_sR, x_A_sA, x_B_sB, x_I_sJ, x_I_sR, x_I_sA, x_I_sB, x_J_sI, x_J_sR, x_J_sA, x_J_sB, x_R_sI, x_R_sJ, x_R_sA, x_R_sB, x_A_sI, x_A_sJ, x_A_sR, x_A_sB, x_B_sI, x_B_sJ, x_B_sR, x_B_sA, x_Q_sI, x_Q_sJ, x_Q_sR, x_Q_sA, x_Q_sB, En.cn_mk, En.X_mk, En.Y_mk, En.vp_mk, En.lq_mk, En.ld_mk, En.fo_mk, En.fi_mk, En.cl_mk, Ce.mt_mk, Ce.th_mk, Ce.lk_mk, Ce.hd_mk, Ab.E_mk, Ab.C_mk, Ab.wm_mk, Ab.ps_mk, Ab.fz_mk, Ab.gd_mk, Ab.gn_mk, Ab.g1_mk, Ab.g2_mk, Ab.g3_mk, Ab.g4_mk, Ab.hr_mk, Ab.mo_mk, Ab.st_mk, Ab.og_mk, Ab.oc_mk, Ab.ig_mk, Ab.ic_mk], by simp [wp_some, wp_bind, x_I_sI, x_J_sJ, x_R_sR, x_A_sA, x_B_sB, x_I_sJ, x_I_sR, x_I_sA, x_I_sB, x_J_sI, x_J_sR, x_J_sA, x_J_sB, x_R_sI, x_R_sJ, x_R_sA, x_R_sB, x_A_sI, x_A_sJ, x_A_sR, x_A_sB, x_B_sI, x_B_sJ, x_B_sR, x_B_sA, x_Q_sI, x_Q_sJ, x_Q_sR, x_Q_sA, x_Q_sB, En.cn_mk, En.X_mk, En.Y_mk, En.vp_mk, En.lq_mk, En.ld_mk, En.fo_mk, En.fi_mk, En.cl_mk, Ce.mt_mk, Ce.th_mk, Ce.lk_mk, Ce.hd_mk, Ab.E_mk, Ab.C_mk, Ab.wm_mk, Ab.ps_mk, Ab.fz_mk, Ab.gd_mk, Ab.gn_mk, Ab.g1_mk, Ab.g2_mk, Ab.g3_mk, Ab.g4_mk, Ab.hr_mk, Ab.mo_mk, Ab.st_mk, Ab.og_mk, Ab.oc_mk, Ab.ig_mk, Ab.ic_mk], by simp [wp_some, wp_bind, x_I_sI, x_J_sJ, x_R_sR, x_A_sA, x_B_sB, x_I_sJ, x_I_sR, x_I_sA, x_I_sB, x_J_sI, x_J_sR, x_J_sA, x_J_sB, x_R_sI, x_R_sJ, x_R_sA, x_R_sB, x_A_sI, x_A_sJ, x_A_sR, x_A_sB, x_B_sI, x_B_sJ, x_B_sR, x_B_sA, x_Q_sI, x_Q_sJ, x_Q_sR, x_Q_sA, x_Q_sB, En.cn_mk, En.X_mk, En.Y_mk, En.vp_mk, En.lq_mk, En.ld_mk, En.fo_mk, En.fi_mk, En.cl_mk, Ce.mt_mk, Ce.th_mk, Ce.lk_mk, Ce.hd_mk, Ab.E_mk, Ab.C_mk, Ab.wm_mk, Ab.ps_mk, Ab.fz_mk, Ab.gd_mk, Ab.gn_mk, Ab.g1_mk, Ab.g2_mk, Ab.g3_mk, Ab.g4_mk, Ab.hr_mk, Ab.mo_mk, Ab.st_mk, Ab.og_mk, Ab.oc_mk, Ab.ig_mk, Ab.ic_mk], by simp [wp_some, wp_bind, x_I_sI, x_J_sJ, x_R_sR, x_A_sA, x_B_sB, x_I_sJ, x_I_sR, x_I_sA, x_I_sB, x_J_sI, x_J_sR, x_J_sA, x_J_sB, x_R_sI, x_R_sJ, x_R_sA, x_R_sB, x_A_sI, x_A_sJ, x_A_sR, x_A_sB, x_B_sI, x_B_sJ, x_B_sR, x_B_sA, x_Q_sI, x_Q_sJ, x_Q_sR, x_Q_sA, x_Q_sB, En.cn_mk, En.X_mk, En.Y_mk, En.vp_mk, En.lq_mk, En.ld_mk, En.fo_mk, En.fi_mk, En.cl_mk, Ce.mt_mk, Ce.th_mk, Ce.lk_mk, Ce.hd_mk, Ab.E_mk, Ab.C_mk, Ab.wm_mk, Ab.ps_mk, Ab.fz_mk, Ab.gd_mk, Ab.gn_mk, Ab.g1_mk, Ab.g2_mk, Ab.g3_mk, Ab.g4_mk, Ab.hr_mk, Ab.mo_mk, Ab.st_mk, Ab.og_mk, Ab.oc_mk, Ab.ig_mk, Ab.ic_mk]⟩
      · have := hv k (by omega)
        refine ⟨?_, ?_, ?_, ?_⟩
        · rw [x_A_sB, x_A_sA, if_neg (by omega), x_A_sA, if_neg (by omega), x_A_sA, if_neg (by omega)]; exact this.1
        · rw [x_A_sB, x_A_sA, if_neg (by omega), x_A_sA, if_neg (by omega), x_A_sA, if_neg (by omega)]; exact this.2.1
        · rw [x_A_sB, x_A_sA, if_neg (by omega), x_A_sA, if_neg (by omega), x_A_sA, if_neg (by omega)]; exact this.2.2.1
        · rw [x_B_sB, if_neg (by omega), x_B_sA, x_B_sA, x_B_sA]; exact this.2.2.2
    · show f_Mod_dry_2 T (fuel + 1) w' _ _ _ = f_Mod_dry_2 T fuel _ _ _ _
      have hR1 : R2 T (x_sA w' 7 i (nI (A.C.mt (gl L i)))).2.2.1 := hR
      have hR2 : R2 T (x_sA (x_sA w' 7 i (nI (A.C.mt (gl L i)))) 8 i (Int32.ofInt (A.C.th (gl L i)))).2.2.1 := hR
      have hR3 : R2 T (x_sA (x_sA (x_sA w' 7 i (nI (A.C.mt (gl L i)))) 8 i (Int32.ofInt (A.C.th (gl L i)))) 10 i (Int32.ofInt (A.C.lk (gl L i)))).2.2.1 := hR
      have u1 : x_A (x_sA w' 7 i (nI (A.C.mt (gl L i)))) 33 i = nI (gl L i) := by rw [x_A_sA, if_neg (by omega)]; exact Ri
      have u2 : x_A (x_sA w' 7 i (nI (A.C.mt (gl L i)))) 31 (gl L i) = Int32.ofInt (A.C.th (gl L i)) := by rw [x_A_sA, if_neg (by omega)]; exact S'.k2 _ gi
      have u3 : x_A (x_sA (x_sA w' 7 i (nI (A.C.mt (gl L i)))) 8 i (Int32.ofInt (A.C.th (gl L i)))) 33 i = nI (gl L i) := by rw [x_A_sA, if_neg (by omega), x_A_sA, if_neg (by omega)]; exact Ri
      have u4 : x_A (x_sA (x_sA w' 7 i (nI (A.C.mt (gl L i)))) 8 i (Int32.ofInt (A.C.th (gl L i)))) 32 (gl L i) = Int32.ofInt (A.C.lk (gl L i)) := by rw [x_A_sA, if_neg (by omega), x_A_sA, if_neg (by omega)]; exact S'.k3 _ gi
      have hi5 : i < 5 := by omega
      have hi12 : i < 12 := by omega
      have hg12 : gl L i < 12 := by omega
      have c1 : (nI i).toNatClampNeg = i := nI_clampS (by omega)
      have c2 : (nI (gl L i)).toNatClampNeg = gl L i := nI_clampS (by omega)
      rw [f_Mod_dry_2, hR.i, Option.bind_some, S'.e.n, if_neg (by rw [nI_leS (by omega) (by omega)]; omega), hR.r72, Option.bind_some, hR.r108, Option.bind_some, hR.r111, Option.bind_some, t_ixn hR.a33 hi5 (by omega), Option.bind_some, c1, Ri, t_ixn hR.a30 hg12 (by omega), Option.bind_some, t_ixn hR.a7 hi12 (by omega), Option.bind_some, c2, S'.k1 _ gi, Option.bind_some]
      rw [hR1.r73, Option.bind_some, hR1.r109, Option.bind_some, hR1.r111, Option.bind_some, t_ixn hR.a33 hi5 (by omega), Option.bind_some, u1, t_ixn hR.a31 hg12 (by omega), Option.bind_some, t_ixn hR.a8 hi12 (by omega), Option.bind_some, c2, u2, Option.bind_some]
      rw [hR2.r75, Option.bind_some, hR2.r110, Option.bind_some, hR2.r111, Option.bind_some, t_ixn hR.a33 hi5 (by omega), Option.bind_some, u3, t_ixn hR.a32 hg12 (by omega), Option.bind_some, t_ixn hR.a10 hi12 (by omega), Option.bind_some, c2, u4, Option.bind_some]
      rw [hR3.r74, Option.bind_some, t_ixn hR.a9 hi12 (by omega), Option.bind_some, Option.bind_some, nI_inc]
  · intro w' fuel ⟨X, hv⟩
    have S' := S.gx (X.mono (by decide) (by decide) (by decide) (by decide))
    have hR := S'.e.r
    show wp (f_Mod_dry_2 T (fuel + 1) w' _ _ _) _
    rw [f_Mod_dry_2, hR.i, Option.bind_some, S'.e.n, if_pos (by rw [nI_leS (by omega) (by omega)]; omega)]
    rw [show (0 : Int32) = nI 0 from rfl]
    refine wp_mono (r_hours (A := A) B.e n1 n5 m hm m 0 1000 (dryC A.C L) w' (by omega) (by omega) (KB_dry B.e B.k hg) ⟨fun k hk => (hv k hk).1, fun k hk => (hv k hk).2.1, fun k hk => (hv k hk).2.2.1, fun k hk => (hv k hk).2.2.2⟩ S'.e) ?_
    intro q ⟨h1, h2⟩
    exact ⟨h1, X.trans (h2.mono (by decide) (by decide) (by decide) (by decide))⟩
theorem r_best (S : OR T w n A) (n1 : 1 ≤ n) (n5 : n ≤ 5) {L : List Nat} (R : Rw w 33 n L) (K90 : x_W → Nat → Int32 → Int32 → Nat → Int64 → Int32 → Option (Int32 × x_W)) (m p : Int32) (z : Int64) (Q : Int32 × x_W → Prop) (hQ : ∀ w', Gx [] [] [34] [] w w' → Rw w' 34 n L → wp (f_Mod_order_153 T K90 w' 0 m p 36 z) Q) : wp (f_Mod_order_117 T K90 w 0 m p 36 z) Q := by
  unfold f_Mod_order_117
  refine loop_up (N := n) (by omega) (fun fuel w' i => f_Mod_order_124 T K90 fuel w' 0 m p 36 z i) (fun j w' => Gx [] [] [34] [] w w' ∧ ∀ k, k < j → x_A w' 34 k = nI (gl L k)) Q ?_ ?_ w ⟨Gx.refl .., fun k hk => by omega⟩
  · intro i w' fuel hi ⟨X, hv⟩
    have G := X.er S.e
    have hR := G.r
    have Ri : x_A w' 33 i = nI (gl L i) := (X.A _ _ (by decide)).trans (R i hi)
    refine ⟨x_sA w' 34 i (nI (gl L i)), ⟨X.sA (by decide), fun k hk => ?_⟩, ?_⟩
    · rw [x_A_sA]
      by_cases e : k = i
      · rw [if_pos ⟨rfl, e⟩, e]
      · rw [if_neg (fun z => e z.2)]; exact hv k (by omega)
    · show f_Mod_order_124 T K90 (fuel + 1) w' _ _ _ _ _ _ = f_Mod_order_124 T K90 fuel _ _ _ _ _ _ _
      rw [f_Mod_order_124, hR.i, Option.bind_some, G.n, if_neg (by rw [nI_leS (by omega) (by omega)]; omega)]
      simp only [Option.bind_some, (hR).i, (hR).r66, (hR).r67, (hR).r68, (hR).r69, (hR).r70, (hR).r71, (hR).r72, (hR).r73, (hR).r74, (hR).r75, (hR).r76, (hR).r77, (hR).r78, (hR).r79, (hR).r81, (hR).r82, (hR).r85, (hR).r86, (hR).r87, (hR).r88, (hR).r89, (hR).r90, (hR).r92, (hR).r93, (hR).r94, (hR).r95, (hR).r103, (hR).r104, (hR).r105, (hR).r108, (hR).r109, (hR).r110, (hR).r111, (hR).r112, (hR).r113, (hR).r114, x_R_sI, x_R_sJ, x_R_sA, x_R_sB]
      simp only [t_ixn hR.a33 (show i < 5 by omega) (by omega), t_ixn hR.a34 (show i < 5 by omega) (by omega), Option.bind_some, nI_clampS (show i < 100000 by omega), Ri, nI_inc]
  · intro w' fuel ⟨X, hv⟩
    have G := X.er S.e
    show wp (f_Mod_order_124 T K90 (fuel + 1) w' _ _ _ _ _ _) _
    rw [f_Mod_order_124, G.r.i, Option.bind_some, G.n, if_pos (by rw [nI_leS (by omega) (by omega)]; omega)]
    exact hQ w' X hv
def lsR (o : Option Int) : Int := match o with
  | none => -1
  | some z => z
theorem r_find (B : AB n A) (n5 : n ≤ 5) {m p : Nat} (hm : m ≤ 48) (hp : p < n) : ∀ k fuel (L D : List Nat) (least : Option Int) (w : x_W), goodB n k L = true → k + 1 < fuel → OR T w n A → Rw w 33 n L → (∀ z, least = some z → 0 ≤ z ∧ z ≤ 12000000 ∧ Rw w 34 n D) → wp (f_Mod_order_90 T fuel w 0 (nI m) (nI p) 36 (Int64.ofInt (lsR least)) 1) (fun q => q.1 = nI (gl (bsL n (wtL A.E n A.C m) k L least D) p) ∧ SR T q.2 n A ∧ x_I q.2 64 0 = 0) := by
  have n1 := B.k.n1
  have dec : ∀ k L fuel (least : Option Int) (w : x_W) (D : List Nat), goodB n k L = true → OR T w n A → Rw w 33 n L → (∀ z, least = some z → 0 ≤ z ∧ z ≤ 12000000 ∧ Rw w 34 n D) → ∀ Q : Int32 × x_W → Prop, (∀ w2 D' z', OR T w2 n A → Rw w2 33 n L → Rw w2 34 n D' → 0 ≤ z' → z' ≤ 12000000 → (D', z') = ((match least with | none => L | some z => if wtL A.E n A.C m L < z then L else D), (match least with | none => wtL A.E n A.C m L | some z => if wtL A.E n A.C m L < z then wtL A.E n A.C m L else z)) → wp (f_Mod_order_153 T (f_Mod_order_90 T fuel) w2 0 (nI m) (nI p) 36 (Int64.ofInt z')) Q) → wp (f_Mod_order_90 T (fuel + 1) w 0 (nI m) (nI p) 36 (Int64.ofInt (lsR least)) 1) Q := by
    intro k L fuel least w D hg S R hD Q hQ
    obtain ⟨hl, hgl, hst, hok⟩ := goodB_ok hg
    have hb := wt_b B.e B.k hgl m
    rw [f_Mod_order_90, if_neg (by decide), S.e.r.i, Option.bind_some, wp_bind]
    refine wp_mono (r_dry S B n5 hgl R hm) ?_
    intro ⟨z1, w1⟩ ⟨e1, X1⟩
    dsimp only [En.cn_mk, En.X_mk, En.Y_mk, En.vp_mk, En.lq_mk, En.ld_mk, En.fo_mk, En.fi_mk, En.cl_mk, Ce.mt_mk, Ce.th_mk, Ce.lk_mk, Ce.hd_mk, Ab.E_mk, Ab.C_mk, Ab.wm_mk, Ab.ps_mk, Ab.fz_mk, Ab.gd_mk, Ab.gn_mk, Ab.g1_mk, Ab.g2_mk, Ab.g3_mk, Ab.g4_mk, Ab.hr_mk, Ab.mo_mk, Ab.st_mk, Ab.og_mk, Ab.oc_mk, Ab.ig_mk, Ab.ic_mk] at e1 X1
    subst e1
    have S1 := S.gx (X1.mono (by decide) (by decide) (by decide) (by decide))
    have R1 : Rw w1 33 n L := fun i hi => (X1.A _ _ (by decide)).trans (R i hi)
    have hls : -100 ≤ lsR least ∧ lsR least ≤ 12000000 := by
      cases least with
      | none => exact ⟨by decide, by decide⟩
      | some z => have := hD z rfl; exact ⟨by show -100 ≤ z; omega, this.2.1⟩
    have c1 : lg_cmp (Int64.ofInt (lsR least)) 0 < 0 ↔ lsR least < 0 := by
      rw [lg_cmp_lt, z_Lt, z_T (by omega) (by omega)]; rfl
    have c2 : 0 ≤ lg_cmp (Int64.ofInt (wtL A.E n A.C m L)) (Int64.ofInt (lsR least)) ↔ lsR least ≤ wtL A.E n A.C m L := by
      rw [lg_cmp_ge, z_Le, z_T (by omega) (by omega), z_T (by omega) (by omega)]
    have best : ∀ w', Gx [] [] [34] [] w1 w' → OR T w' n A ∧ Rw w' 33 n L := fun w' X => ⟨S1.gx (X.mono (by decide) (by decide) (by decide) (by decide)), fun i hi => (X.A _ _ (by decide)).trans (R1 i hi)⟩
    cases least with
    | none =>
      rw [if_pos (c1.mpr (by decide))]
      exact r_best S1 n1 n5 R1 _ _ _ _ Q (fun w' X RD => hQ w' L _ (best w' X).1 (best w' X).2 RD hb.1 hb.2 rfl)
    | some z =>
      obtain ⟨h1, h2, h3⟩ := hD z rfl
      rw [if_neg (fun q => by have := c1.mp q; have : z < 0 := this; omega)]
      by_cases h : wtL A.E n A.C m L < z
      · rw [if_neg (fun q => by have := c2.mp q; have : z ≤ wtL A.E n A.C m L := this; omega)]
        refine r_best S1 n1 n5 R1 _ _ _ _ Q (fun w' X RD => hQ w' L _ (best w' X).1 (best w' X).2 RD hb.1 hb.2 ?_)
        dsimp only [En.cn_mk, En.X_mk, En.Y_mk, En.vp_mk, En.lq_mk, En.ld_mk, En.fo_mk, En.fi_mk, En.cl_mk, Ce.mt_mk, Ce.th_mk, Ce.lk_mk, Ce.hd_mk, Ab.E_mk, Ab.C_mk, Ab.wm_mk, Ab.ps_mk, Ab.fz_mk, Ab.gd_mk, Ab.gn_mk, Ab.g1_mk, Ab.g2_mk, Ab.g3_mk, Ab.g4_mk, Ab.hr_mk, Ab.mo_mk, Ab.st_mk, Ab.og_mk, Ab.oc_mk, Ab.ig_mk, Ab.ic_mk]
        rw [if_pos h, if_pos h]
      · rw [if_pos (c2.mpr (by show z ≤ _; omega))]
        refine hQ w1 D z S1 R1 (fun i hi => (X1.A _ _ (by decide)).trans (h3 i hi)) h1 h2 ?_
        dsimp only [En.cn_mk, En.X_mk, En.Y_mk, En.vp_mk, En.lq_mk, En.ld_mk, En.fo_mk, En.fi_mk, En.cl_mk, Ce.mt_mk, Ce.th_mk, Ce.lk_mk, Ce.hd_mk, Ab.E_mk, Ab.C_mk, Ab.wm_mk, Ab.ps_mk, Ab.fz_mk, Ab.gd_mk, Ab.gn_mk, Ab.g1_mk, Ab.g2_mk, Ab.g3_mk, Ab.g4_mk, Ab.hr_mk, Ab.mo_mk, Ab.st_mk, Ab.og_mk, Ab.oc_mk, Ab.ig_mk, Ab.ic_mk]
        rw [if_neg h, if_neg h]
  intro k
  induction k with
  | zero =>
    intro fuel L D least w hg hf S R hD
    obtain ⟨fuel, rfl⟩ : ∃ q, fuel = q + 1 := ⟨fuel - 1, by omega⟩
    obtain ⟨hl, hgl, hst, hok⟩ := goodB_ok hg
    have hno : nxL n L n = none := by rw [← hst]; unfold goodB at hg; simp [wp_some, wp_bind, x_I_sI, x_J_sJ, x_R_sR, x_A_sA, x_B_sB, x_I_sJ, x_I_sR, x_I_sA, x_I_sB, x_J_sI, x_J_sR, x_J_sA, x_J_sB, x_R_sI, x_R_sJ, x_R_sA, x_R_sB, x_A_sI, x_A_sJ, x_A_sR, x_A_sB, x_B_sI, x_B_sJ, x_B_sR, x_B_sA, x_Q_sI, x_Q_sJ, x_Q_sR, x_Q_sA, x_Q_sB, En.cn_mk, En.X_mk, En.Y_mk, En.vp_mk, En.lq_mk, En.ld_mk, En.fo_mk, En.fi_mk, En.cl_mk, Ce.mt_mk, Ce.th_mk, Ce.lk_mk, Ce.hd_mk, Ab.E_mk, Ab.C_mk, Ab.wm_mk, Ab.ps_mk, Ab.fz_mk, Ab.gd_mk, Ab.gn_mk, Ab.g1_mk, Ab.g2_mk, Ab.g3_mk, Ab.g4_mk, Ab.hr_mk, Ab.mo_mk, Ab.st_mk, Ab.og_mk, Ab.oc_mk, Ab.ig_mk, Ab.ic_mk] at hg; exact hg.2
    refine dec 0 L fuel least w D hg S R hD _ (fun w2 D' z' S2 R2' RD h0 h1 hE => ?_)
    obtain ⟨w3, e3, X3, _⟩ := r_next S2.e n1 n5 hl hgl R2' hok
    obtain ⟨fuel, rfl⟩ : ∃ q, fuel = q + 1 := ⟨fuel - 1, by omega⟩
    unfold f_Mod_order_153
    rw [S2.e.r.i, Option.bind_some, e3, Option.bind_some, hno]
    show wp (f_Mod_order_90 T (fuel + 1) w3 _ _ _ _ _ 0) _
    rw [f_Mod_order_90, if_pos rfl]
    have hD' : bsL n (wtL A.E n A.C m) 0 L least D = D' := by
      have := congrArg Prod.fst hE
      unfold bsL
      exact this.symm
    rw [hD']
    exact r_back (S2.gx (X3.mono (by decide) (by decide) (by decide) (by decide))) n1 n5 (fun i hi => (X3.A _ _ (by decide)).trans (RD i hi)) hp
  | succ k ih =>
    intro fuel L D least w hg hf S R hD
    obtain ⟨fuel, rfl⟩ : ∃ q, fuel = q + 1 := ⟨fuel - 1, by omega⟩
    obtain ⟨hl, hgl, hst, hok⟩ := goodB_ok hg
    obtain ⟨L', hL', hg'⟩ : ∃ L', stL n L = some L' ∧ goodB n k L' = true := by
      unfold goodB at hg
      cases hs : stL n L with
      | none => rw [hs] at hg; simp [wp_some, wp_bind, x_I_sI, x_J_sJ, x_R_sR, x_A_sA, x_B_sB, x_I_sJ, x_I_sR, x_I_sA, x_I_sB, x_J_sI, x_J_sR, x_J_sA, x_J_sB, x_R_sI, x_R_sJ, x_R_sA, x_R_sB, x_A_sI, x_A_sJ, x_A_sR, x_A_sB, x_B_sI, x_B_sJ, x_B_sR, x_B_sA, x_Q_sI, x_Q_sJ, x_Q_sR, x_Q_sA, x_Q_sB, En.cn_mk, En.X_mk, En.Y_mk, En.vp_mk, En.lq_mk, En.ld_mk, En.fo_mk, En.fi_mk, En.cl_mk, Ce.mt_mk, Ce.th_mk, Ce.lk_mk, Ce.hd_mk, Ab.E_mk, Ab.C_mk, Ab.wm_mk, Ab.ps_mk, Ab.fz_mk, Ab.gd_mk, Ab.gn_mk, Ab.g1_mk, Ab.g2_mk, Ab.g3_mk, Ab.g4_mk, Ab.hr_mk, Ab.mo_mk, Ab.st_mk, Ab.og_mk, Ab.oc_mk, Ab.ig_mk, Ab.ic_mk] at hg
      | some L' => rw [hs] at hg; simp [wp_some, wp_bind, x_I_sI, x_J_sJ, x_R_sR, x_A_sA, x_B_sB, x_I_sJ, x_I_sR, x_I_sA, x_I_sB, x_J_sI, x_J_sR, x_J_sA, x_J_sB, x_R_sI, x_R_sJ, x_R_sA, x_R_sB, x_A_sI, x_A_sJ, x_A_sR, x_A_sB, x_B_sI, x_B_sJ, x_B_sR, x_B_sA, x_Q_sI, x_Q_sJ, x_Q_sR, x_Q_sA, x_Q_sB, En.cn_mk, En.X_mk, En.Y_mk, En.vp_mk, En.lq_mk, En.ld_mk, En.fo_mk, En.fi_mk, En.cl_mk, Ce.mt_mk, Ce.th_mk, Ce.lk_mk, Ce.hd_mk, Ab.E_mk, Ab.C_mk, Ab.wm_mk, Ab.ps_mk, Ab.fz_mk, Ab.gd_mk, Ab.gn_mk, Ab.g1_mk, Ab.g2_mk, Ab.g3_mk, Ab.g4_mk, Ab.hr_mk, Ab.mo_mk, Ab.st_mk, Ab.og_mk, Ab.oc_mk, Ab.ig_mk, Ab.ic_mk] at hg; exact ⟨L', rfl, hg.2⟩
    refine dec (k + 1) L fuel least w D hg S R hD _ (fun w2 D' z' S2 R2' RD h0 h1 hE => ?_)
    obtain ⟨w3, e3, X3, R3⟩ := r_next S2.e n1 n5 hl hgl R2' hok
    rw [← hst, hL'] at e3 R3
    unfold f_Mod_order_153
    rw [S2.e.r.i, Option.bind_some, e3, Option.bind_some]
    have hD' : bsL n (wtL A.E n A.C m) (k + 1) L least D = bsL n (wtL A.E n A.C m) k L' (some z') D' := by
      have e1 := congrArg Prod.fst hE
      have e2 := congrArg Prod.snd hE
      dsimp only [En.cn_mk, En.X_mk, En.Y_mk, En.vp_mk, En.lq_mk, En.ld_mk, En.fo_mk, En.fi_mk, En.cl_mk, Ce.mt_mk, Ce.th_mk, Ce.lk_mk, Ce.hd_mk, Ab.E_mk, Ab.C_mk, Ab.wm_mk, Ab.ps_mk, Ab.fz_mk, Ab.gd_mk, Ab.gn_mk, Ab.g1_mk, Ab.g2_mk, Ab.g3_mk, Ab.g4_mk, Ab.hr_mk, Ab.mo_mk, Ab.st_mk, Ab.og_mk, Ab.oc_mk, Ab.ig_mk, Ab.ic_mk] at e1 e2
      conv => lhs; unfold bsL
      dsimp only [En.cn_mk, En.X_mk, En.Y_mk, En.vp_mk, En.lq_mk, En.ld_mk, En.fo_mk, En.fi_mk, En.cl_mk, Ce.mt_mk, Ce.th_mk, Ce.lk_mk, Ce.hd_mk, Ab.E_mk, Ab.C_mk, Ab.wm_mk, Ab.ps_mk, Ab.fz_mk, Ab.gd_mk, Ab.gn_mk, Ab.g1_mk, Ab.g2_mk, Ab.g3_mk, Ab.g4_mk, Ab.hr_mk, Ab.mo_mk, Ab.st_mk, Ab.og_mk, Ab.oc_mk, Ab.ig_mk, Ab.ic_mk]
      rw [hL', e1, e2]
      rfl
    rw [hD']
    exact ih fuel L' D' (some z') w3 hg' (by omega) (S2.gx (X3.mono (by decide) (by decide) (by decide) (by decide))) (R3 L' rfl) (fun z hz => by cases hz; exact ⟨h0, h1, fun i hi => (X3.A _ _ (by decide)).trans (RD i hi)⟩)
theorem r_order (R : SR T w n A) (B : AB n A) (n5 : n ≤ 5) (h64 : x_I w 64 0 = 0) {m p : Nat} (hm : m ≤ 48) (hp : p < n) : wp ((f_Mod_keep T w 0).bind fun q10 => f_Mod_order_63 T 1000 q10.2 0 (nI m) (nI p) q10.1 (-1 : Int64) (0 : Int32)) (fun q => q.1 = nI (gl (bsL n (wtL A.E n A.C m) (fct n) (List.range n) none []) p) ∧ SR T q.2 n A ∧ x_I q.2 64 0 = 0) := by
  have n1 := B.k.n1
  have hf : fct n < 120 := by
    unfold fct
    by_cases e1 : n = 1
    · rw [if_pos e1]; omega
    · rw [if_neg e1]
      by_cases e2 : n = 2
      · rw [if_pos e2]; omega
      · rw [if_neg e2]
        by_cases e3 : n = 3
        · rw [if_pos e3]; omega
        · rw [if_neg e3]
          by_cases e4 : n = 4
          · rw [if_pos e4]; omega
          · rw [if_neg e4]; omega
  rw [wp_bind]
  refine wp_mono (r_keep R n1 n5 h64) ?_
  intro ⟨a, w1⟩ ⟨ea, S1⟩
  dsimp only [En.cn_mk, En.X_mk, En.Y_mk, En.vp_mk, En.lq_mk, En.ld_mk, En.fo_mk, En.fi_mk, En.cl_mk, Ce.mt_mk, Ce.th_mk, Ce.lk_mk, Ce.hd_mk, Ab.E_mk, Ab.C_mk, Ab.wm_mk, Ab.ps_mk, Ab.fz_mk, Ab.gd_mk, Ab.gn_mk, Ab.g1_mk, Ab.g2_mk, Ab.g3_mk, Ab.g4_mk, Ab.hr_mk, Ab.mo_mk, Ab.st_mk, Ab.og_mk, Ab.oc_mk, Ab.ig_mk, Ab.ic_mk] at ea S1
  subst ea
  refine loop_up (N := n) (by omega) (fun fuel w' i => f_Mod_order_63 T fuel w' 0 (nI m) (nI p) 36 (-1 : Int64) i) (fun j w' => Gx [] [] [33] [] w1 w' ∧ ∀ i, i < j → x_A w' 33 i = nI i) _ ?_ ?_ w1 ⟨Gx.refl .., fun i hi => by omega⟩
  · intro i w' fuel hi ⟨X, hv⟩
    have G := X.er S1.e
    have hR := G.r
    refine ⟨x_sA w' 33 i (nI i), ⟨X.sA (by decide), fun k hk => ?_⟩, ?_⟩
    · rw [x_A_sA]
      by_cases e : k = i
      · rw [if_pos ⟨rfl, e⟩, e]
      · rw [if_neg (fun z => e z.2)]; exact hv k (by omega)
    · show f_Mod_order_63 T (fuel + 1) w' _ _ _ _ _ _ = f_Mod_order_63 T fuel _ _ _ _ _ _ _
      rw [f_Mod_order_63, hR.i, Option.bind_some, G.n, if_neg (by rw [nI_leS (by omega) (by omega)]; omega)]
      simp only [Option.bind_some, (hR).i, (hR).r66, (hR).r67, (hR).r68, (hR).r69, (hR).r70, (hR).r71, (hR).r72, (hR).r73, (hR).r74, (hR).r75, (hR).r76, (hR).r77, (hR).r78, (hR).r79, (hR).r81, (hR).r82, (hR).r85, (hR).r86, (hR).r87, (hR).r88, (hR).r89, (hR).r90, (hR).r92, (hR).r93, (hR).r94, (hR).r95, (hR).r103, (hR).r104, (hR).r105, (hR).r108, (hR).r109, (hR).r110, (hR).r111, (hR).r112, (hR).r113, (hR).r114, x_R_sI, x_R_sJ, x_R_sA, x_R_sB]
      simp only [t_ixn hR.a33 (show i < 5 by omega) (by omega), Option.bind_some, nI_clampS (show i < 100000 by omega), nI_inc]
  · intro w' fuel ⟨X, hv⟩
    have G := X.er S1.e
    show wp (f_Mod_order_63 T (fuel + 1) w' _ _ _ _ _ _) _
    rw [f_Mod_order_63, G.r.i, Option.bind_some, G.n, if_pos (by rw [nI_leS (by omega) (by omega)]; omega)]
    exact r_find B n5 hm hp (fct n) 1000 (List.range n) [] none w' (good_n n1 n5) (by omega) (S1.gx (X.mono (by decide) (by decide) (by decide) (by decide))) (fun i hi => by rw [gl_range hi]; exact hv i hi) (fun z hz => by cases hz)
theorem step_order : x_step15 T1 T2 0 (62 + 6 * n) 0 (Sim T1 T2 n) := by
  intro w1 w2 p1 p2 ⟨A, B, S, R⟩
  have hR := R.e.r
  have n1 := S.ws.n1
  have n12 := S.ws.n12
  have e5 : (nI n - 1 : Int32).toInt = (n : Int) - 1 := by rw [nI_sub1 (by omega), nI_intS (by omega)]; omega
  by_cases h1 : 1 ≤ p1.toInt ∧ p1.toInt ≤ 48
  · by_cases h2 : 0 ≤ p2.toInt ∧ p2.toInt ≤ (n : Int) - 1
    · obtain ⟨m, em, hm, hm2⟩ := z_isN (p := p1) (m := 48) (by omega)
      obtain ⟨p, ep, hp, hp2⟩ := z_isN h2
      have hpn : p < n := by omega
      have le5 : nI n ≤ 5 ↔ n ≤ 5 := by rw [show (5 : Int32) = nI 5 from rfl, nI_leS (by omega) (by omega)]
      by_cases h3 : n ≤ 5
      · obtain ⟨wa, ea, Sa, Ra⟩ := c_order S B h3 (m := m) (by omega)
        obtain ⟨⟨v, wb⟩, eb, ev, Sb, hb64⟩ := r_order (R.th 0) B h3 (th64 _ _) (m := m) (p := p) (by omega) hpn
        dsimp only [En.cn_mk, En.X_mk, En.Y_mk, En.vp_mk, En.lq_mk, En.ld_mk, En.fo_mk, En.fi_mk, En.cl_mk, Ce.mt_mk, Ce.th_mk, Ce.lk_mk, Ce.hd_mk, Ab.E_mk, Ab.C_mk, Ab.wm_mk, Ab.ps_mk, Ab.fz_mk, Ab.gd_mk, Ab.gn_mk, Ab.g1_mk, Ab.g2_mk, Ab.g3_mk, Ab.g4_mk, Ab.hr_mk, Ab.mo_mk, Ab.st_mk, Ab.og_mk, Ab.oc_mk, Ab.ig_mk, Ab.ic_mk] at ev Sb hb64
        subst ev
        refine ok_a rfl B Sa Sb (nI (gl (bsL n (wtL A.E n A.C m) (fct n) (List.range n) none []) p)) hb64 ?_ ?_
        · simp only [q_within, q_in, l0, l1, l5, l23, l48, l240, l1000, l5000, lm5000, l10000, l100000, l1000000, L0, L1, L5, L23, L48, L240, L1000, L5000, Lm5000, L10000, L100000, L1000000, Int32.toInt_toInt64, Option.bind_some, f_Law_order, f_WD_order, t_is S.ct.t0, x_ec, x_cc, if_pos h1, S.ct.r10, t_is S.ws.t, S.ws.r55, t_len S.ws.tc, e5, if_pos h2]
          rw [if_pos (le5.mpr h3), em]
          simp only [S.ct.r11, S.ct.r10, S.ct.r8, t_is S.ct.tt, Option.bind_some, ea, Sa.ct.r11, Sa.ct.r52, ep, t_ixn S.ct.tb (show p < 5 by omega) (by omega), nI_clampS (show p < 100000 by omega), Ra p hpn, out_ix S.ct]
          rfl
        · simp only [q_within, q_in, l0, l1, l5, l23, l48, l240, l1000, l5000, lm5000, l10000, l100000, l1000000, L0, L1, L5, L23, L48, L240, L1000, L5000, Lm5000, L10000, L100000, L1000000, Int32.toInt_toInt64, Option.bind_some, f_Mod_order, f_Mod_order_38, if_pos h1, one_ne, if_false, hR.i, q_isCell R.e n1 n12, if_pos h2, R.e.n]
          rw [if_pos (le5.mpr h3)]
          simp only [th64, zer_le, if_true]
          rw [em, ep]
          exact eb
      · refine fail_a B S R 2 (by decide) ?_ ?_
        · simp only [q_within, q_in, l0, l1, l5, l23, l48, l240, l1000, l5000, lm5000, l10000, l100000, l1000000, L0, L1, L5, L23, L48, L240, L1000, L5000, Lm5000, L10000, L100000, L1000000, Int32.toInt_toInt64, Option.bind_some, f_Law_order, f_WD_order, t_is S.ct.t0, x_ec, x_cc, if_pos h1, S.ct.r10, t_is S.ws.t, S.ws.r55, t_len S.ws.tc, e5, if_pos h2]
          rw [if_neg (fun q => h3 (le5.mp q))]
          rfl
        · simp only [q_within, q_in, l0, l1, l5, l23, l48, l240, l1000, l5000, lm5000, l10000, l100000, l1000000, L0, L1, L5, L23, L48, L240, L1000, L5000, Lm5000, L10000, L100000, L1000000, Int32.toInt_toInt64, Option.bind_some, f_Mod_order, f_Mod_order_38, if_pos h1, one_ne, if_false, hR.i, q_isCell R.e n1 n12, if_pos h2, R.e.n]
          rw [if_neg (fun q => h3 (le5.mp q))]
          simp only [th64, two_le, if_false]
    · refine fail_a B S R 1 (by decide) ?_ ?_
      · simp only [q_within, q_in, l0, l1, l5, l23, l48, l240, l1000, l5000, lm5000, l10000, l100000, l1000000, L0, L1, L5, L23, L48, L240, L1000, L5000, Lm5000, L10000, L100000, L1000000, Int32.toInt_toInt64, Option.bind_some, f_Law_order, f_WD_order, t_is S.ct.t0, x_ec, x_cc, if_pos h1, S.ct.r10, t_is S.ws.t, S.ws.r55, t_len S.ws.tc, e5, if_neg h2, if_true]
      · simp only [q_within, q_in, l0, l1, l5, l23, l48, l240, l1000, l5000, lm5000, l10000, l100000, l1000000, L0, L1, L5, L23, L48, L240, L1000, L5000, Lm5000, L10000, L100000, L1000000, Int32.toInt_toInt64, Option.bind_some, f_Mod_order, f_Mod_order_21, f_Mod_order_38, if_pos h1, one_ne, zer_eq, if_false, if_true, hR.i, q_isCell R.e n1 n12, if_neg h2, th64, one_le]
  · refine fail_a B S R 1 (by decide) ?_ ?_
    · simp only [q_within, q_in, l0, l1, l5, l23, l48, l240, l1000, l5000, lm5000, l10000, l100000, l1000000, L0, L1, L5, L23, L48, L240, L1000, L5000, Lm5000, L10000, L100000, L1000000, Int32.toInt_toInt64, Option.bind_some, f_Law_order, f_WD_order, t_is S.ct.t0, x_ec, x_cc, if_neg h1, if_true]
    · simp only [q_within, q_in, l0, l1, l5, l23, l48, l240, l1000, l5000, lm5000, l10000, l100000, l1000000, L0, L1, L5, L23, L48, L240, L1000, L5000, Lm5000, L10000, L100000, L1000000, Int32.toInt_toInt64, Option.bind_some, f_Mod_order, f_Mod_order_21, f_Mod_order_38, if_neg h1, zer_eq, if_false, if_true, hR.i, th64, one_le]
end ORR
