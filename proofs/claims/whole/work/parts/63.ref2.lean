/-! THE REFERENCE'S FLOWS -/
def iv (n : Nat) (P N : Nat → Int) (k q : Nat) : Int :=
  if q = 0 then (if 0 < k then P (3 + n + (k - 1)) else 0) else if q = 1 then (if k + 1 < n then N (3 + n + k) else 0) else if q = 2 then (if k = 0 then P 0 else 0) else if q = 3 then (if k = 0 then P 2 else 0) else if q = 4 then (if k = n - 1 then N 1 else 0) else N (3 + k)
/-- the reference's flows stand as P, N -/
def IR (w : x_W) (n : Nat) (P N : Nat → Int) : Prop := (∀ k q, k < n → q < 6 → x_B w 29 (6 * k + q) = Int64.ofInt (iv n P N k q)) ∧ (x_J w 106 0 = Int64.ofInt (N 0)) ∧ (x_J w 107 0 = Int64.ofInt (P 1))
theorem IR.b {w : x_W} {n : Nat} {P N : Nat → Int} (S_ : IR w n P N) : ∀ k q, k < n → q < 6 → x_B w 29 (6 * k + q) = Int64.ofInt (iv n P N k q) := S_.1
theorem IR.o {w : x_W} {n : Nat} {P N : Nat → Int} (S_ : IR w n P N) : x_J w 106 0 = Int64.ofInt (N 0) := S_.2.1
theorem IR.i {w : x_W} {n : Nat} {P N : Nat → Int} (S_ : IR w n P N) : x_J w 107 0 = Int64.ofInt (P 1) := S_.2.2
theorem z_cmp0le {v : Int} (h1 : -4611686018427387904 ≤ v) (h2 : v < 4611686018427387904) : lg_cmp (Int64.ofInt v) 0 ≤ 0 ↔ v ≤ 0 := by rw [lg_cmp_le, z_Le, z_T (by omega) (by omega)]; rfl
theorem z_cmp0ge {v : Int} (h1 : -4611686018427387904 ≤ v) (h2 : v < 4611686018427387904) : 0 ≤ lg_cmp (Int64.ofInt v) 0 ↔ 0 ≤ v := by rw [lg_cmp_ge, z_Le, z_T (by omega) (by omega)]; rfl
theorem z_cmpLe {v u : Int} (h1 : -4611686018427387904 ≤ v) (h2 : v < 4611686018427387904) (h3 : -4611686018427387904 ≤ u) (h4 : u < 4611686018427387904) : lg_cmp (Int64.ofInt v) (Int64.ofInt u) ≤ 0 ↔ v ≤ u := by rw [lg_cmp_le, z_Le, z_T (by omega) (by omega), z_T (by omega) (by omega)]
section RF
variable {T : x_T} {w : x_W} {E : En} {n h k : Nat} {C : Ce}
theorem r_249 (hR : R2 T w.2.2.1) (K82 : x_W → Nat → Int32 → Int32 → Option x_W) {i : Nat} (hi : i < 72) (hk : 6 * k + 1 < 72) {a c : Int} (ha : -1000000000000 ≤ a ∧ a ≤ 1000000000000) (hc : -1000000000000 ≤ c ∧ c ≤ 1000000000000) (v : Int64) : f_Mod_flow_249 T K82 w 0 (nI h) (nI k) (Int64.ofInt a) (Int64.ofInt c) 29 (nI i) v = K82 (x_sB (x_sB w 29 i v) 29 (6 * k + 1) (Int64.ofInt (if 0 ≤ a + c then 0 else -(a + c)))) 0 (nI h) (nI (k + 1)) := by
  unfold f_Mod_flow_249 f_Mod_flow_280
  simp only [Option.bind_some, wp_bind, wp_some, (hR).i, (hR).r66, (hR).r67, (hR).r68, (hR).r69, (hR).r70, (hR).r71, (hR).r72, (hR).r73, (hR).r74, (hR).r75, (hR).r76, (hR).r77, (hR).r78, (hR).r79, (hR).r81, (hR).r82, (hR).r85, (hR).r86, (hR).r87, (hR).r88, (hR).r89, (hR).r90, (hR).r92, (hR).r93, (hR).r94, (hR).r95, (hR).r103, (hR).r104, (hR).r105, (hR).r108, (hR).r109, (hR).r110, (hR).r111, (hR).r112, (hR).r113, (hR).r114, x_R_sI, x_R_sJ, x_R_sA, x_R_sB]
  rw [t_ixn hR.a29 hi (by omega), nI_clampS (by omega), z_Add, show (6 : Int32) = nI 6 from rfl, nI_mulS, show (1 : Int32) = nI 1 from rfl, nI_addS, t_ixn hR.a29 hk (by omega), nI_clampS (by omega), nI_addS]
  simp only [Option.bind_some]
  by_cases hs : 0 ≤ a + c
  · rw [if_pos ((z_cmp0ge (by omega) (by omega)).mpr hs), if_pos hs]; rfl
  · rw [if_neg (fun q => hs ((z_cmp0ge (by omega) (by omega)).mp q)), if_neg hs, z_Neg, z_Sub]
    congr 3
    omega
theorem r_212 (hR : R2 T w.2.2.1) (K82 : x_W → Nat → Int32 → Int32 → Option x_W) (hk : 6 * (k + 1) < 72) {a d m : Int} (ha : -1000000000000 ≤ a ∧ a ≤ 1000000000000) (hd : -100000 ≤ d ∧ d ≤ 100000) (hm : 0 ≤ m ∧ m ≤ 1000) : f_Mod_flow_212 T K82 w 0 (nI h) (nI k) (Int64.ofInt a) (Int64.ofInt d) (Int32.ofInt m) = K82 (x_sB (x_sB w 29 (6 * (k + 1)) (Int64.ofInt (if 0 ≤ a + (d * m).tdiv 1000 then a + (d * m).tdiv 1000 else 0))) 29 (6 * k + 1) (Int64.ofInt (if 0 ≤ a + (d * m).tdiv 1000 then 0 else -(a + (d * m).tdiv 1000)))) 0 (nI h) (nI (k + 1)) := by
  have hb := mul_b hd.1 hd.2 hm.1 hm.2
  have ht := tdiv_b (d := 1000) (B := 100000) (by omega) hb.1 hb.2
  unfold f_Mod_flow_212
  simp only [Option.bind_some, wp_bind, wp_some, (hR).i, (hR).r66, (hR).r67, (hR).r68, (hR).r69, (hR).r70, (hR).r71, (hR).r72, (hR).r73, (hR).r74, (hR).r75, (hR).r76, (hR).r77, (hR).r78, (hR).r79, (hR).r81, (hR).r82, (hR).r85, (hR).r86, (hR).r87, (hR).r88, (hR).r89, (hR).r90, (hR).r92, (hR).r93, (hR).r94, (hR).r95, (hR).r103, (hR).r104, (hR).r105, (hR).r108, (hR).r109, (hR).r110, (hR).r111, (hR).r112, (hR).r113, (hR).r114, x_R_sI, x_R_sJ, x_R_sA, x_R_sB]
  rw [z_64 (by omega) (by omega), z_Mul, show (1000 : Int64) = Int64.ofInt 1000 from rfl, z_Div (by omega) (by omega) (by omega) (by omega), z_Add, show (6 : Int32) = nI 6 from rfl, show (1 : Int32) = nI 1 from rfl, nI_addS, nI_mulS]
  rw [r_249 hR K82 (by omega) (by omega) ha (by omega), r_249 hR K82 (by omega) (by omega) ha (by omega)]
  by_cases hs : a + (d * m).tdiv 1000 ≤ 0
  · rw [if_pos ((z_cmp0le (by omega) (by omega)).mpr hs)]
    by_cases h0 : a + (d * m).tdiv 1000 = 0
    · rw [h0]; rfl
    · rw [if_neg (show ¬ 0 ≤ a + (d * m).tdiv 1000 by omega), if_neg (show ¬ 0 ≤ a + (d * m).tdiv 1000 by omega)]; rfl
  · rw [if_neg (fun q => hs ((z_cmp0le (by omega) (by omega)).mp q)), if_pos (show 0 ≤ a + (d * m).tdiv 1000 by omega), if_pos (show 0 ≤ a + (d * m).tdiv 1000 by omega)]
theorem r_156 (B : EB E) (G : ER T w E n) (KBd : KB E n C) (K82 : x_W → Nat → Int32 → Int32 → Option x_W) (hk : k + 1 < n) {d m : Int} (hd : -100000 ≤ d ∧ d ≤ 100000) (hm : 0 ≤ m ∧ m ≤ 1000) (v1 : x_A w 28 k = Int32.ofInt (dpz E C k)) (v2 : x_A w 28 (k + 1) = Int32.ofInt (dpz E C (k + 1))) : f_Mod_flow_156 T K82 w 0 (nI h) (nI k) (nI (C.mt k)) (nI (C.mt (k + 1))) (Int64.ofInt d) (Int32.ofInt m) = K82 (x_sB (x_sB w 29 (6 * (k + 1)) (Int64.ofInt (if 0 ≤ (d * m).tdiv 1000 + ((dpz E C k - dpz E C (k + 1)) * min (E.lq (C.mt k)) (E.lq (C.mt (k + 1)))).tdiv 1000 then (d * m).tdiv 1000 + ((dpz E C k - dpz E C (k + 1)) * min (E.lq (C.mt k)) (E.lq (C.mt (k + 1)))).tdiv 1000 else 0))) 29 (6 * k + 1) (Int64.ofInt (if 0 ≤ (d * m).tdiv 1000 + ((dpz E C k - dpz E C (k + 1)) * min (E.lq (C.mt k)) (E.lq (C.mt (k + 1)))).tdiv 1000 then 0 else -((d * m).tdiv 1000 + ((dpz E C k - dpz E C (k + 1)) * min (E.lq (C.mt k)) (E.lq (C.mt (k + 1)))).tdiv 1000)))) 0 (nI h) (nI (k + 1)) := by
  have n12 := KBd.n12
  have hR := G.r
  have hb := mul_b hd.1 hd.2 hm.1 hm.2
  have ht := tdiv_b (d := 1000) (B := 100000) (by omega) hb.1 hb.2
  have ma := KBd.mt k (by omega)
  have mb := KBd.mt (k + 1) hk
  have ra := B.rt _ ma
  have rb := B.rt _ mb
  have da := dpz_b B KBd (k := k) (by omega)
  have db := dpz_b B KBd hk
  unfold f_Mod_flow_156
  simp only [Option.bind_some, wp_bind, wp_some, (hR).i, (hR).r66, (hR).r67, (hR).r68, (hR).r69, (hR).r70, (hR).r71, (hR).r72, (hR).r73, (hR).r74, (hR).r75, (hR).r76, (hR).r77, (hR).r78, (hR).r79, (hR).r81, (hR).r82, (hR).r85, (hR).r86, (hR).r87, (hR).r88, (hR).r89, (hR).r90, (hR).r92, (hR).r93, (hR).r94, (hR).r95, (hR).r103, (hR).r104, (hR).r105, (hR).r108, (hR).r109, (hR).r110, (hR).r111, (hR).r112, (hR).r113, (hR).r114, x_R_sI, x_R_sJ, x_R_sA, x_R_sB]
  rw [z_64 (by omega) (by omega), z_Mul, show (1000 : Int64) = Int64.ofInt 1000 from rfl, z_Div (by omega) (by omega) (by omega) (by omega), nI_inc]
  simp only [Option.bind_some, t_ixn hR.a28 (show k < 12 by omega) (by omega), t_ixn hR.a28 (show k + 1 < 12 by omega) (by omega), t_ixn hR.a5 ma (by omega), t_ixn hR.a5 mb (by omega), nI_clampS (show k < 100000 by omega), nI_clampS (show k + 1 < 100000 by omega), nI_clampS (show C.mt k < 100000 by omega), nI_clampS (show C.mt (k + 1) < 100000 by omega), v1, v2, (G.rt _ ma).2.1, (G.rt _ mb).2.1, z_sub]
  rw [z_64 (by omega) (by omega), r_212 hR K82 (by omega) (by omega) (by omega) (by omega), r_212 hR K82 (by omega) (by omega) (by omega) (by omega)]
  by_cases hl : E.lq (C.mt (k + 1)) ≤ E.lq (C.mt k)
  · rw [if_pos (by rw [z_le, z_t (by omega) (by omega), z_t (by omega) (by omega)]; exact hl), show min (E.lq (C.mt k)) (E.lq (C.mt (k + 1))) = E.lq (C.mt (k + 1)) by omega]
  · rw [if_neg (by rw [z_le, z_t (by omega) (by omega), z_t (by omega) (by omega)]; exact hl), show min (E.lq (C.mt k)) (E.lq (C.mt (k + 1))) = E.lq (C.mt k) by omega]
/-- what the reference knows of the hour's places -/
def PR (w : x_W) (E : En) (n : Nat) (C : Ce) (h : Nat) : Prop := (∀ k, k < n → x_A w 28 k = Int32.ofInt (dpz E C k)) ∧ (∀ k, k < n → x_B w 27 k = Int64.ofInt (pcz E n C h k))
theorem PR.d {w : x_W} {E : En} {n : Nat} {C : Ce} {h : Nat} (S_ : PR w E n C h) : ∀ k, k < n → x_A w 28 k = Int32.ofInt (dpz E C k) := S_.1
theorem PR.p {w : x_W} {E : En} {n : Nat} {C : Ce} {h : Nat} (S_ : PR w E n C h) : ∀ k, k < n → x_B w 27 k = Int64.ofInt (pcz E n C h k) := S_.2
theorem Gx.pr {w w' : x_W} {a1 a2 a3 a4 : List Nat} (F : Gx a1 a2 a3 a4 w w') (P : PR w E n C h) (h3 : (a3.all fun k => !(k == 28)) = true := by decide) (h4 : (a4.all fun k => !(k == 27)) = true := by decide) : PR w' E n C h := by
  have q : 28 ∉ a3 := fun hm => by
    have := List.all_eq_true.mp h3 28 hm
    simp [wp_some, wp_bind, x_I_sI, x_J_sJ, x_R_sR, x_A_sA, x_B_sB, x_I_sJ, x_I_sR, x_I_sA, x_I_sB, x_J_sI, x_J_sR, x_J_sA, x_J_sB, x_R_sI, x_R_sJ, x_R_sA, x_R_sB, x_A_sI, x_A_sJ, x_A_sR, x_A_sB, x_B_sI, x_B_sJ, x_B_sR, x_B_sA, x_Q_sI, x_Q_sJ, x_Q_sR, x_Q_sA, x_Q_sB] at this
  have q' : 27 ∉ a4 := fun hm => by
    have := List.all_eq_true.mp h4 27 hm
    simp [wp_some, wp_bind, x_I_sI, x_J_sJ, x_R_sR, x_A_sA, x_B_sB, x_I_sJ, x_I_sR, x_I_sA, x_I_sB, x_J_sI, x_J_sR, x_J_sA, x_J_sB, x_R_sI, x_R_sJ, x_R_sA, x_R_sB, x_A_sI, x_A_sJ, x_A_sR, x_A_sB, x_B_sI, x_B_sJ, x_B_sR, x_B_sA, x_Q_sI, x_Q_sJ, x_Q_sR, x_Q_sA, x_Q_sB] at this
  exact ⟨fun k hk => (F.A 28 _ q).trans (P.d k hk), fun k hk => (F.B 27 _ q').trans (P.p k hk)⟩
/-- the leaks, the last -/
theorem r_leaks (B : EB E) (G : ER T w E n) (K : KR w n C) (KBd : KB E n C) (hh : h < 24) (P : PR w E n C h) (h0 : ∀ k q, k < n → q < 6 → x_B w 29 (6 * k + q) = Int64.ofInt (if q = 5 then 0 else iv n (fP (sg E n C h)) (fN (sg E n C h)) k q)) :
    wp (f_Mod_flow_517 T 1000 w 0 (Int64.ofInt (iPz E h)) 0) (fun w' => Gx [] [] [] [29] w w' ∧ ∀ k q, k < n → q < 6 → x_B w' 29 (6 * k + q) = Int64.ofInt (iv n (fP (sg E n C h)) (fN (sg E n C h)) k q)) := by
  have n12 := KBd.n12
  refine wp_mono (loop_up (N := n) (by omega) (fun fuel w' i => f_Mod_flow_517 T fuel w' 0 (Int64.ofInt (iPz E h)) i) (fun j w' => Gx [] [] [] [29] w w' ∧ ∀ k q, k < n → q < 6 → x_B w' 29 (6 * k + q) = Int64.ofInt (if q = 5 ∧ j ≤ k then 0 else iv n (fP (sg E n C h)) (fN (sg E n C h)) k q)) (fun w' => Gx [] [] [] [29] w w' ∧ ∀ k q, k < n → q < 6 → x_B w' 29 (6 * k + q) = Int64.ofInt (if q = 5 ∧ n ≤ k then 0 else iv n (fP (sg E n C h)) (fN (sg E n C h)) k q)) ?_ ?_ w ⟨Gx.refl .., fun k q hk hq => by rw [h0 k q hk hq]; simp [wp_some, wp_bind, x_I_sI, x_J_sJ, x_R_sR, x_A_sA, x_B_sB, x_I_sJ, x_I_sR, x_I_sA, x_I_sB, x_J_sI, x_J_sR, x_J_sA, x_J_sB, x_R_sI, x_R_sJ, x_R_sA, x_R_sB, x_A_sI, x_A_sJ, x_A_sR, x_A_sB, x_B_sI, x_B_sJ, x_B_sR, x_B_sA, x_Q_sI, x_Q_sJ, x_Q_sR, x_Q_sA, x_Q_sB]⟩) (fun w' ⟨h1, h2⟩ => ⟨h1, fun k q hk hq => by rw [h2 k q hk hq, if_neg (by omega)]⟩)
  · intro i w' fuel hi ⟨F, hv⟩
    have G' := F.er G
    have K' := F.kr K
    have P' := F.pr P
    have hR := G'.r
    have q1 := iPz_b B hh
    have q2 := pcz_b (h := h) B KBd hi
    have q3 := KBd.lk i hi
    refine ⟨x_sB w' 29 (6 * i + 5) (Int64.ofInt (fN (sg E n C h) (3 + i))), ⟨F.sB (by decide), fun k q hk hq => ?_⟩, ?_⟩
    · rw [x_B_sB]
      by_cases e : k = i ∧ q = 5
      · rw [e.1, e.2, if_pos ⟨rfl, rfl⟩, if_neg (by omega)]; rfl
      · rw [if_neg (by omega), hv k q hk hq]
        by_cases e2 : q = 5 ∧ i ≤ k
        · rw [if_pos e2, if_pos (by omega)]
        · rw [if_neg e2, if_neg (by omega)]
    · show f_Mod_flow_517 T (fuel + 1) w' _ _ _ = f_Mod_flow_517 T fuel _ _ _ _
      rw [f_Mod_flow_517]
      unfold f_Mod_flow_577
      simp only [Option.bind_some, wp_bind, wp_some, (hR).i, (hR).r66, (hR).r67, (hR).r68, (hR).r69, (hR).r70, (hR).r71, (hR).r72, (hR).r73, (hR).r74, (hR).r75, (hR).r76, (hR).r77, (hR).r78, (hR).r79, (hR).r81, (hR).r82, (hR).r85, (hR).r86, (hR).r87, (hR).r88, (hR).r89, (hR).r90, (hR).r92, (hR).r93, (hR).r94, (hR).r95, (hR).r103, (hR).r104, (hR).r105, (hR).r108, (hR).r109, (hR).r110, (hR).r111, (hR).r112, (hR).r113, (hR).r114, x_R_sI, x_R_sJ, x_R_sA, x_R_sB]
      rw [G'.n, if_neg (by rw [nI_leS (by omega) (by omega)]; omega)]
      simp only [Option.bind_some, t_ixn hR.a27 (show i < 12 by omega) (by omega), t_ixn hR.a10 (show i < 12 by omega) (by omega), nI_clampS (show i < 100000 by omega), P'.p i hi, K'.lk i hi, show (6 : Int32) = nI 6 from rfl, nI_mulS, show (5 : Int32) = nI 5 from rfl, nI_addS, t_ixn hR.a29 (show 6 * i + 5 < 72 by omega) (by omega), nI_clampS (show 6 * i + 5 < 100000 by omega), nI_inc]
      rw [z_64 (by omega) (by omega), z_Sub, z_Mul, show (1000 : Int64) = Int64.ofInt 1000 from rfl]
      have es : sg E n C h (3 + i) = sgl E n C h i := sg_leak hi
      unfold sgl at es
      by_cases hs : iPz E h ≤ pcz E n C h i
      · rw [if_pos ((z_cmpLe (by omega) (by omega) (by omega) (by omega)).mpr hs)]
        have e0 : fN (sg E n C h) (3 + i) = 0 := by
          unfold fN
          rw [es, show max 0 (iPz E h - pcz E n C h i) = 0 by omega]
          simp [wp_some, wp_bind, x_I_sI, x_J_sJ, x_R_sR, x_A_sA, x_B_sB, x_I_sJ, x_I_sR, x_I_sA, x_I_sB, x_J_sI, x_J_sR, x_J_sA, x_J_sB, x_R_sI, x_R_sJ, x_R_sA, x_R_sB, x_A_sI, x_A_sJ, x_A_sR, x_A_sB, x_B_sI, x_B_sJ, x_B_sR, x_B_sA, x_Q_sI, x_Q_sJ, x_Q_sR, x_Q_sA, x_Q_sB]
        rw [e0]
        rfl
      · rw [if_neg (fun q => hs ((z_cmpLe (by omega) (by omega) (by omega) (by omega)).mp q))]
        have hb := z_mb (a := iPz E h - pcz E n C h i) (b := C.lk i) (A := 100000) (B := 1000) (by omega) (by omega) q3.1 q3.2
        rw [z_Div (by omega) (by omega) (by omega) (by omega)]
        have e0 : fN (sg E n C h) (3 + i) = ((iPz E h - pcz E n C h i) * C.lk i).tdiv 1000 := by
          have t0 := Int.tdiv_eq_ediv_of_nonneg hb.1 (b := 1000)
          have t1 := Int.ediv_nonneg hb.1 (b := 1000) (by omega)
          unfold fN
          rw [es, show max 0 (iPz E h - pcz E n C h i) = iPz E h - pcz E n C h i by omega]
          split <;> omega
        rw [e0]
  · intro w' fuel ⟨F, hv⟩
    have G' := F.er G
    have hR := G'.r
    show wp (f_Mod_flow_517 T (fuel + 1) w' _ _ _) _
    rw [f_Mod_flow_517, hR.i, Option.bind_some, G'.n, if_pos (by rw [nI_leS (by omega) (by omega)]; omega), wp_some]
    exact ⟨F, hv⟩
end RF
