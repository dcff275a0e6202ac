/-! THE REFERENCE'S HOUR -/
section RH
variable {T : x_T} {w : x_W} {E : En} {n h : Nat} {C : Ce} {P N : Nat → Int}
def MO (w w' : x_W) (n : Nat) (hd : Nat → Int) (P N : Nat → Int) (j : Nat) : Prop := (Gx [] [98, 99] [] [9] w w') ∧ (∀ m, m < n → x_B w' 9 m = Int64.ofInt (hd m + (if m < j then zs (iv n P N m) 6 else 0) - (if m + 1 < j then iv n P N (m + 1) 0 else 0) - (if 0 < m ∧ m - 1 < j then iv n P N (m - 1) 1 else 0))) ∧ (x_J w' 98 0 = x_J w 98 0 + Int64.ofInt (zs (fun k => iv n P N k 2 + iv n P N k 3) j)) ∧ (x_J w' 99 0 = x_J w 99 0 + Int64.ofInt (zs (fun k => iv n P N k 4 + iv n P N k 5) j))
theorem MO.f {w w' : x_W} {n : Nat} {hd : Nat → Int} {P N : Nat → Int} {j : Nat} (S_ : MO w w' n hd P N j) : Gx [] [98, 99] [] [9] w w' := S_.1
theorem MO.b {w w' : x_W} {n : Nat} {hd : Nat → Int} {P N : Nat → Int} {j : Nat} (S_ : MO w w' n hd P N j) : ∀ m, m < n → x_B w' 9 m = Int64.ofInt (hd m + (if m < j then zs (iv n P N m) 6 else 0) - (if m + 1 < j then iv n P N (m + 1) 0 else 0) - (if 0 < m ∧ m - 1 < j then iv n P N (m - 1) 1 else 0)) := S_.2.1
theorem MO.jz {w w' : x_W} {n : Nat} {hd : Nat → Int} {P N : Nat → Int} {j : Nat} (S_ : MO w w' n hd P N j) : x_J w' 98 0 = x_J w 98 0 + Int64.ofInt (zs (fun k => iv n P N k 2 + iv n P N k 3) j) := S_.2.2.1
theorem MO.i {w w' : x_W} {n : Nat} {hd : Nat → Int} {P N : Nat → Int} {j : Nat} (S_ : MO w w' n hd P N j) : x_J w' 99 0 = x_J w 99 0 + Int64.ofInt (zs (fun k => iv n P N k 4 + iv n P N k 5) j) := S_.2.2.2
theorem o23_6 (g : Nat → Int) : zs (o23 g) 6 = g 2 + g 3 := by simp [wp_some, wp_bind, x_I_sI, x_J_sJ, x_R_sR, x_A_sA, x_B_sB, x_I_sJ, x_I_sR, x_I_sA, x_I_sB, x_J_sI, x_J_sR, x_J_sA, x_J_sB, x_R_sI, x_R_sJ, x_R_sA, x_R_sB, x_A_sI, x_A_sJ, x_A_sR, x_A_sB, x_B_sI, x_B_sJ, x_B_sR, x_B_sA, x_Q_sI, x_Q_sJ, x_Q_sR, x_Q_sA, x_Q_sB, zs, o23]
theorem o45_6 (g : Nat → Int) : zs (o45 g) 6 = g 4 + g 5 := by simp [wp_some, wp_bind, x_I_sI, x_J_sJ, x_R_sR, x_A_sA, x_B_sB, x_I_sJ, x_I_sR, x_I_sA, x_I_sB, x_J_sI, x_J_sR, x_J_sA, x_J_sB, x_R_sI, x_R_sJ, x_R_sA, x_R_sB, x_A_sI, x_A_sJ, x_A_sR, x_A_sB, x_B_sI, x_B_sJ, x_B_sR, x_B_sA, x_Q_sI, x_Q_sJ, x_Q_sR, x_Q_sA, x_Q_sB, zs, o45]
theorem r_moves (G : ER T w E n) (KBd : KB E n C) (K : KR w n C) (H : IR w n P N) (h2 : N 2 = 0) (h3 : ∀ k, k < n → P (3 + k) = 0) :
    wp (f_Mod_move_44 T 1000 w 0 0) (fun w' => Gx [] [98, 99, 100, 101] [] [9] w w' ∧ (∀ m, m < n → x_B w' 9 m = Int64.ofInt (C.hd m - SO n m P N + SI n m P N)) ∧ x_J w' 98 0 = x_J w 98 0 + Int64.ofInt (SO n n P N) ∧ x_J w' 99 0 = x_J w 99 0 + Int64.ofInt (SO n (n + 1) P N) ∧ x_J w' 100 0 = x_J w 100 0 + Int64.ofInt (SI n n P N) ∧ x_J w' 101 0 = x_J w 101 0 + Int64.ofInt (SI n (n + 1) P N)) := by
  have n1 := KBd.n1
  have n12 := KBd.n12
  have eO : ∀ x : Int64, x = x + Int64.ofInt 0 := fun x => by rw [← z_O x, z_Add, Int.add_zero]
  refine loop_up (N := n) (by omega) (fun fuel w' i => f_Mod_move_44 T fuel w' 0 i) (fun j w' => MO w w' n C.hd P N j) _ ?_ ?_ w ⟨Gx.refl .., fun m hm => ?_, eO _, eO _⟩
  · intro i w' fuel hi M
    have G' := M.f.er G
    have hR := G'.r
    have H' : IR w' n P N := ⟨fun k q hk hq => (M.f.B 29 _ (by decide)).trans (H.b k q hk hq), (M.f.J _ _ (by decide)).trans H.o, (M.f.J _ _ (by decide)).trans H.i⟩
    obtain ⟨w2, M2, e2⟩ := r_inner (P := P) (N := N) hR G'.n n12 hi H' M.b (f_Mod_move_44 T fuel)
    refine ⟨w2, ⟨M.f.trans M2.f, fun m hm => ?_, ?_, ?_⟩, ?_⟩
    · rw [M2.b m hm]
      congr 1
      have c1 : (if m < i + 1 then zs (iv n P N m) 6 else 0) = (if m < i then zs (iv n P N m) 6 else 0) + (if m = i then zs (iv n P N i) 6 else 0) := by
        by_cases e : m = i
        · subst e; simp [wp_some, wp_bind, x_I_sI, x_J_sJ, x_R_sR, x_A_sA, x_B_sB, x_I_sJ, x_I_sR, x_I_sA, x_I_sB, x_J_sI, x_J_sR, x_J_sA, x_J_sB, x_R_sI, x_R_sJ, x_R_sA, x_R_sB, x_A_sI, x_A_sJ, x_A_sR, x_A_sB, x_B_sI, x_B_sJ, x_B_sR, x_B_sA, x_Q_sI, x_Q_sJ, x_Q_sR, x_Q_sA, x_Q_sB]
        · by_cases e2 : m < i
          · rw [if_pos e2, if_pos (by omega), if_neg e]; omega
          · rw [if_neg e2, if_neg (by omega), if_neg e]; omega
      have c2 : (if m + 1 < i + 1 then iv n P N (m + 1) 0 else 0) = (if m + 1 < i then iv n P N (m + 1) 0 else 0) + (if 1 ≤ 6 ∧ m + 1 = i then iv n P N i 0 else 0) := by
        by_cases e : m + 1 = i
        · subst e; simp [wp_some, wp_bind, x_I_sI, x_J_sJ, x_R_sR, x_A_sA, x_B_sB, x_I_sJ, x_I_sR, x_I_sA, x_I_sB, x_J_sI, x_J_sR, x_J_sA, x_J_sB, x_R_sI, x_R_sJ, x_R_sA, x_R_sB, x_A_sI, x_A_sJ, x_A_sR, x_A_sB, x_B_sI, x_B_sJ, x_B_sR, x_B_sA, x_Q_sI, x_Q_sJ, x_Q_sR, x_Q_sA, x_Q_sB]
        · by_cases e2 : m + 1 < i
          · rw [if_pos e2, if_pos (show m + 1 < i + 1 by omega), if_neg (fun z => e z.2)]; omega
          · rw [if_neg e2, if_neg (show ¬ m + 1 < i + 1 by omega), if_neg (fun z => e z.2)]; omega
      have c3 : (if 0 < m ∧ m - 1 < i + 1 then iv n P N (m - 1) 1 else 0) = (if 0 < m ∧ m - 1 < i then iv n P N (m - 1) 1 else 0) + (if 2 ≤ 6 ∧ m = i + 1 then iv n P N i 1 else 0) := by
        by_cases e : m = i + 1
        · subst e; simp [wp_some, wp_bind, x_I_sI, x_J_sJ, x_R_sR, x_A_sA, x_B_sB, x_I_sJ, x_I_sR, x_I_sA, x_I_sB, x_J_sI, x_J_sR, x_J_sA, x_J_sB, x_R_sI, x_R_sJ, x_R_sA, x_R_sB, x_A_sI, x_A_sJ, x_A_sR, x_A_sB, x_B_sI, x_B_sJ, x_B_sR, x_B_sA, x_Q_sI, x_Q_sJ, x_Q_sR, x_Q_sA, x_Q_sB]
        · by_cases e2 : 0 < m ∧ m - 1 < i
          · rw [if_pos e2, if_pos (show 0 < m ∧ m - 1 < i + 1 by omega), if_neg (fun z => e z.2)]; omega
          · rw [if_neg e2, if_neg (show ¬ (0 < m ∧ m - 1 < i + 1) by omega), if_neg (fun z => e z.2)]; omega
      rw [c1, c2, c3]
      omega
    · rw [M2.j, M.jz, zs_s _ i, Int64.add_assoc, z_Add, o23_6]
    · rw [M2.i, M.i, zs_s _ i, Int64.add_assoc, z_Add, o45_6]
    · show f_Mod_move_44 T (fuel + 1) w' _ _ = f_Mod_move_44 T fuel _ _ _
      rw [f_Mod_move_44, hR.i, Option.bind_some, G'.n, if_neg (by rw [nI_leS (by omega) (by omega)]; omega), e2]
  · intro w' fuel M
    have G' := M.f.er G
    have hR := G'.r
    have o106 : x_J w' 106 0 = Int64.ofInt (N 0) := (M.f.J _ _ (by decide)).trans H.o
    have o107 : x_J w' 107 0 = Int64.ofInt (P 1) := (M.f.J _ _ (by decide)).trans H.i
    show wp (f_Mod_move_44 T (fuel + 1) w' _ _) _
    rw [f_Mod_move_44, hR.i, Option.bind_some, G'.n, if_pos (by rw [nI_leS (by omega) (by omega)]; omega)]
    simp only [Option.bind_some, (hR).i, (hR).r66, (hR).r67, (hR).r68, (hR).r69, (hR).r70, (hR).r71, (hR).r72, (hR).r73, (hR).r74, (hR).r75, (hR).r76, (hR).r77, (hR).r78, (hR).r79, (hR).r81, (hR).r82, (hR).r85, (hR).r86, (hR).r87, (hR).r88, (hR).r89, (hR).r90, (hR).r92, (hR).r93, (hR).r94, (hR).r95, (hR).r103, (hR).r104, (hR).r105, (hR).r108, (hR).r109, (hR).r110, (hR).r111, (hR).r112, (hR).r113, (hR).r114, x_R_sI, x_R_sJ, x_R_sA, x_R_sB]
    rw [x_I_sJ, x_I_sB, G'.n, nI_sub1 (by omega), show (0 : Int32) = nI 0 from rfl, t_ixn hR.a9 (show 0 < 12 by omega) (by omega), t_ixn hR.a9 (show n - 1 < 12 by omega) (by omega), nI_clampS (show 0 < 100000 by omega), nI_clampS (show n - 1 < 100000 by omega)]
    simp only [Option.bind_some]
    show wp (some (x_sJ (x_sB (x_sJ (x_sB w' 9 0 (x_B w' 9 0 - x_J w' 106 0)) 100 0 (x_J w' 100 0 + x_J w' 106 0)) 9 (n - 1) (x_B (x_sB w' 9 0 (x_B w' 9 0 - x_J w' 106 0)) 9 (n - 1) - x_J w' 107 0)) 101 0 (x_J w' 101 0 + x_J w' 107 0))) _
    rw [wp_some]
    have F : Gx [] [98, 99, 100, 101] [] [9] w w' := M.f.mono (by decide) (by decide) (by decide) (by decide)
    refine ⟨(((F.sB (by decide)).sJ (by decide)).sB (by decide)).sJ (by decide), fun m hm => ?_, ?_, ?_, ?_, ?_⟩
    · rw [x_B_sJ, x_B_sB, x_B_sJ, x_B_sB, x_B_sB]
      rw [o106, o107, SI_eq, SO_cell hm, SO_cell hm, h2, h3 m hm]
      have hb := M.b m hm
      rw [if_pos hm, zs_iv hm, SI_eq, SO_cell hm] at hb
      have i0 : m + 1 < n → iv n P N (m + 1) 0 = P (3 + n + m) := fun _ => by simp [wp_some, wp_bind, x_I_sI, x_J_sJ, x_R_sR, x_A_sA, x_B_sB, x_I_sJ, x_I_sR, x_I_sA, x_I_sB, x_J_sI, x_J_sR, x_J_sA, x_J_sB, x_R_sI, x_R_sJ, x_R_sA, x_R_sB, x_A_sI, x_A_sJ, x_A_sR, x_A_sB, x_B_sI, x_B_sJ, x_B_sR, x_B_sA, x_Q_sI, x_Q_sJ, x_Q_sR, x_Q_sA, x_Q_sB, iv]
      have i1 : 0 < m → iv n P N (m - 1) 1 = N (3 + n + (m - 1)) := fun hz => by simp [wp_some, wp_bind, x_I_sI, x_J_sJ, x_R_sR, x_A_sA, x_B_sB, x_I_sJ, x_I_sR, x_I_sA, x_I_sB, x_J_sI, x_J_sR, x_J_sA, x_J_sB, x_R_sI, x_R_sJ, x_R_sA, x_R_sB, x_A_sI, x_A_sJ, x_A_sR, x_A_sB, x_B_sI, x_B_sJ, x_B_sR, x_B_sA, x_Q_sI, x_Q_sJ, x_Q_sR, x_Q_sA, x_Q_sB, iv, show m - 1 + 1 < n by omega]
      have i2 : (if m + 1 < n then iv n P N (m + 1) 0 else 0) = if m + 1 < n then P (3 + n + m) else 0 := by split; exact i0 ‹_›; rfl
      have i3 : (if 0 < m ∧ m - 1 < n then iv n P N (m - 1) 1 else 0) = if 0 < m then N (3 + n + (m - 1)) else 0 := by
        by_cases hz : 0 < m
        · rw [if_pos hz, if_pos (by omega), i1 hz]
        · rw [if_neg hz, if_neg (by omega)]
      rw [i2, i3] at hb
      have hb0 : ∀ z, m = z → x_B w' 9 z = x_B w' 9 m := fun z hz => by rw [hz]
      by_cases z0 : m = 0
      · by_cases z1 : m = n - 1
        · rw [if_pos ⟨rfl, z1⟩, if_pos (show 9 = 9 ∧ n - 1 = 0 by omega), hb0 0 z0, hb, z_Sub, z_Sub, if_pos z0, if_pos z0, if_pos z1, if_pos z1]
          congr 1
          omega
        · rw [if_neg (fun z => z1 z.2), if_pos ⟨rfl, z0⟩, hb0 0 z0, hb, z_Sub, if_pos z0, if_pos z0, if_neg z1, if_neg z1]
          congr 1
          omega
      · by_cases z1 : m = n - 1
        · rw [if_pos ⟨rfl, z1⟩, if_neg (show ¬ (9 = 9 ∧ n - 1 = 0) by omega), hb0 (n - 1) z1, hb, z_Sub, if_neg z0, if_neg z0, if_pos z1, if_pos z1]
          congr 1
          omega
        · rw [if_neg (fun z => z1 z.2), if_neg (fun z => z0 z.2), hb, if_neg z0, if_neg z0, if_neg z1, if_neg z1]
          congr 1
          omega
    · rw [x_J_sJ, if_neg (by omega), x_J_sB, x_J_sJ, if_neg (by omega), x_J_sB, M.jz, SO_out n1]
      congr 2
      have : zs (fun k => iv n P N k 2 + iv n P N k 3) n = zs (fun k => if k = 0 then P 0 + P 2 else 0) n := zs_congr (fun k _ => by simp only [iv]; by_cases h : k = 0 <;> simp [wp_some, wp_bind, x_I_sI, x_J_sJ, x_R_sR, x_A_sA, x_B_sB, x_I_sJ, x_I_sR, x_I_sA, x_I_sB, x_J_sI, x_J_sR, x_J_sA, x_J_sB, x_R_sI, x_R_sJ, x_R_sA, x_R_sB, x_A_sI, x_A_sJ, x_A_sR, x_A_sB, x_B_sI, x_B_sJ, x_B_sR, x_B_sA, x_Q_sI, x_Q_sJ, x_Q_sR, x_Q_sA, x_Q_sB, h])
      rw [this, zs_if (g := fun _ => P 0 + P 2) (q := fun k => k = 0) (a := 0) (fun i _ => Iff.rfl), if_pos (by omega)]
    · rw [x_J_sJ, if_neg (by omega), x_J_sB, x_J_sJ, if_neg (by omega), x_J_sB, M.i, SO_in n1]
      congr 2
      have : zs (fun k => iv n P N k 4 + iv n P N k 5) n = zs (fun k => (if k = n - 1 then N 1 else 0) + N (3 + k)) n := zs_congr (fun k _ => by simp [wp_some, wp_bind, x_I_sI, x_J_sJ, x_R_sR, x_A_sA, x_B_sB, x_I_sJ, x_I_sR, x_I_sA, x_I_sB, x_J_sI, x_J_sR, x_J_sA, x_J_sB, x_R_sI, x_R_sJ, x_R_sA, x_R_sB, x_A_sI, x_A_sJ, x_A_sR, x_A_sB, x_B_sI, x_B_sJ, x_B_sR, x_B_sA, x_Q_sI, x_Q_sJ, x_Q_sR, x_Q_sA, x_Q_sB, iv])
      rw [this, zs_add, zs_if (g := fun _ => N 1) (q := fun k => k = n - 1) (a := n - 1) (fun i _ => Iff.rfl), if_pos (by omega)]
    · rw [x_J_sJ, if_neg (by omega), x_J_sB, x_J_sJ, if_pos ⟨rfl, rfl⟩, M.f.J 100 _ (by decide), o106, SI_eq, SO_out n1, h2, Int.add_zero]
    · rw [x_J_sJ, if_pos ⟨rfl, rfl⟩]
      rw [M.f.J 101 _ (by decide), o107, SI_eq, SO_in n1, zs_zero (fun k hk => h3 k hk), Int.add_zero]
  · rw [K.hd m hm]
    congr 1
    rw [if_neg (by omega), if_neg (by omega), if_neg (by omega)]
    omega
/-- what an hour does to the reference -/
def HR (n : Nat) (E : En) (C : Ce) (h : Nat) (w w' : x_W) : Prop := (Gx [] [98, 99, 100, 101, 106, 107] [11, 28] [9, 27, 29] w w') ∧ (KR w' n (hourC E n C h)) ∧ (∀ k, k < n → x_A w' 11 k = Int32.ofInt (wmz E n C h k)) ∧ (x_J w' 98 0 = x_J w 98 0 + Int64.ofInt (SO n n (PP E n C h) (NN E n C h))) ∧ (x_J w' 99 0 = x_J w 99 0 + Int64.ofInt (SO n (n + 1) (PP E n C h) (NN E n C h))) ∧ (x_J w' 100 0 = x_J w 100 0 + Int64.ofInt (SI n n (PP E n C h) (NN E n C h))) ∧ (x_J w' 101 0 = x_J w 101 0 + Int64.ofInt (SI n (n + 1) (PP E n C h) (NN E n C h)))
theorem HR.fx {n : Nat} {E : En} {C : Ce} {h : Nat} {w w' : x_W} (S_ : HR n E C h w w') : Gx [] [98, 99, 100, 101, 106, 107] [11, 28] [9, 27, 29] w w' := S_.1
theorem HR.k {n : Nat} {E : En} {C : Ce} {h : Nat} {w w' : x_W} (S_ : HR n E C h w w') : KR w' n (hourC E n C h) := S_.2.1
theorem HR.wm {n : Nat} {E : En} {C : Ce} {h : Nat} {w w' : x_W} (S_ : HR n E C h w w') : ∀ k, k < n → x_A w' 11 k = Int32.ofInt (wmz E n C h k) := S_.2.2.1
theorem HR.og {n : Nat} {E : En} {C : Ce} {h : Nat} {w w' : x_W} (S_ : HR n E C h w w') : x_J w' 98 0 = x_J w 98 0 + Int64.ofInt (SO n n (PP E n C h) (NN E n C h)) := S_.2.2.2.1
theorem HR.ig {n : Nat} {E : En} {C : Ce} {h : Nat} {w w' : x_W} (S_ : HR n E C h w w') : x_J w' 99 0 = x_J w 99 0 + Int64.ofInt (SO n (n + 1) (PP E n C h) (NN E n C h)) := S_.2.2.2.2.1
theorem HR.oc {n : Nat} {E : En} {C : Ce} {h : Nat} {w w' : x_W} (S_ : HR n E C h w w') : x_J w' 100 0 = x_J w 100 0 + Int64.ofInt (SI n n (PP E n C h) (NN E n C h)) := S_.2.2.2.2.2.1
theorem HR.ic {n : Nat} {E : En} {C : Ce} {h : Nat} {w w' : x_W} (S_ : HR n E C h w w') : x_J w' 101 0 = x_J w 101 0 + Int64.ofInt (SI n (n + 1) (PP E n C h) (NN E n C h)) := S_.2.2.2.2.2.2
theorem Lk_SO {k : Nat} (hk : k < n) (h2 : N 2 = 0) (h3 : P (3 + k) = 0) : Lk n k P N = SO n k P N := by
  rw [SO_cell hk, h2, h3]
  unfold Lk
  by_cases z0 : k = 0
  · rw [if_pos z0, if_pos z0]; omega
  · rw [if_neg z0, if_neg z0]; omega
theorem Lk_congr {P' N' : Nat → Int} {k : Nat} (hk : k < n) (hP : ∀ f, f < 2 * n + 2 → op n f = k → P f = P' f) (hN : ∀ f, f < 2 * n + 2 → ip n f = k → N f = N' f) : Lk n k P N = Lk n k P' N' := by
  unfold Lk
  have c1 : (if k + 1 < n then P (3 + n + k) else 0) = if k + 1 < n then P' (3 + n + k) else 0 := by
    by_cases h : k + 1 < n
    · rw [if_pos h, if_pos h, hP _ (by omega) (op_betw n k)]
    · rw [if_neg h, if_neg h]
  have c2 : (if 0 < k then N (3 + n + (k - 1)) else 0) = if 0 < k then N' (3 + n + (k - 1)) else 0 := by
    by_cases h : 0 < k
    · rw [if_pos h, if_pos h, hN _ (by omega) (by rw [ip_betw]; omega)]
    · rw [if_neg h, if_neg h]
  have c3 : (if k = 0 then N 0 else 0) = if k = 0 then N' 0 else 0 := by
    by_cases h : k = 0
    · rw [if_pos h, if_pos h, hN 0 (by omega) (by simp [wp_some, wp_bind, x_I_sI, x_J_sJ, x_R_sR, x_A_sA, x_B_sB, x_I_sJ, x_I_sR, x_I_sA, x_I_sB, x_J_sI, x_J_sR, x_J_sA, x_J_sB, x_R_sI, x_R_sJ, x_R_sA, x_R_sB, x_A_sI, x_A_sJ, x_A_sR, x_A_sB, x_B_sI, x_B_sJ, x_B_sR, x_B_sA, x_Q_sI, x_Q_sJ, x_Q_sR, x_Q_sA, x_Q_sB, ip, h])]
    · rw [if_neg h, if_neg h]
  have c4 : (if k = n - 1 then P 1 else 0) = if k = n - 1 then P' 1 else 0 := by
    by_cases h : k = n - 1
    · rw [if_pos h, if_pos h, hP 1 (by omega) (by simp [wp_some, wp_bind, x_I_sI, x_J_sJ, x_R_sR, x_A_sA, x_B_sB, x_I_sJ, x_I_sR, x_I_sA, x_I_sB, x_J_sI, x_J_sR, x_J_sA, x_J_sB, x_R_sI, x_R_sJ, x_R_sA, x_R_sB, x_A_sI, x_A_sJ, x_A_sR, x_A_sB, x_B_sI, x_B_sJ, x_B_sR, x_B_sA, x_Q_sI, x_Q_sJ, x_Q_sR, x_Q_sA, x_Q_sB, op, h])]
    · rw [if_neg h, if_neg h]
  rw [c1, c2, c3, c4]
theorem SI_congr {P' N' : Nat → Int} {k : Nat} (hP : ∀ f, f < 2 * n + 2 → ip n f = k → P f = P' f) (hN : ∀ f, f < 2 * n + 2 → op n f = k → N f = N' f) : SI n k P N = SI n k P' N' := by
  unfold SI
  apply zs_congr
  intro f hf
  by_cases h1 : ip n f = k
  · by_cases h2 : op n f = k
    · rw [if_pos h1, if_pos h1, if_pos h2, if_pos h2, hP f hf h1, hN f hf h2]
    · rw [if_pos h1, if_pos h1, if_neg h2, if_neg h2, hP f hf h1]
  · by_cases h2 : op n f = k
    · rw [if_neg h1, if_neg h1, if_pos h2, if_pos h2, hN f hf h2]
    · rw [if_neg h1, if_neg h1, if_neg h2, if_neg h2]
theorem r_move (B : EB E) (G : ER T w E n) (K : KR w n C) (KBd : KB E n C) (hh : h < 24) (H : IR w n (fP (sg E n C h)) (fN (sg E n C h))) :
    wp (f_Mod_move T w 0) (fun w' => Gx [] [98, 99, 100, 101, 106, 107] [] [9, 29] w w' ∧ (∀ m, m < n → x_B w' 9 m = Int64.ofInt ((hourC E n C h).hd m)) ∧ x_J w' 98 0 = x_J w 98 0 + Int64.ofInt (SO n n (PP E n C h) (NN E n C h)) ∧ x_J w' 99 0 = x_J w 99 0 + Int64.ofInt (SO n (n + 1) (PP E n C h) (NN E n C h)) ∧ x_J w' 100 0 = x_J w 100 0 + Int64.ofInt (SI n n (PP E n C h) (NN E n C h)) ∧ x_J w' 101 0 = x_J w 101 0 + Int64.ofInt (SI n (n + 1) (PP E n C h) (NN E n C h))) := by
  have n1 := KBd.n1
  have n12 := KBd.n12
  have F := hour_FB B KBd hh
  have suk : ∀ k, k < n → su n C k = C.hd k := fun k hk => if_pos hk
  have rok : ∀ k, k < n → ro E n C k = moE E (C.mt k) - C.hd k := fun k hk => if_pos hk
  have f2 : fN (sg E n C h) 2 = 0 := fN_0 F.rain
  have fz : ∀ k, k < n → fP (sg E n C h) (3 + k) = 0 := fun k hk => by
    have := F.leak k hk
    unfold fP
    split <;> omega
  generalize hs : sg E n C h = s at *
  unfold f_Mod_move
  refine loop_up (N := n) (by omega) (fun fuel w' i => f_Mod_move_2 T fuel w' 0 i) (fun j w' => Gx [] [106, 107] [] [29] w w' ∧ IR w' n (fun f => if op n f < j then P1 n (su n C) s f else fP s f) (fun f => if ip n f < j then N1 n (su n C) s f else fN s f)) _ ?_ ?_ w ⟨Gx.refl .., H.congr n1 (fun f _ => by rw [if_neg (by omega)]) (fun f _ => by rw [if_neg (by omega)])⟩
  · intro i w' fuel hi ⟨X, I1⟩
    have G' := X.er G
    have hR := G'.r
    obtain ⟨w2, e2, X2, I2⟩ := r_lessL G' KBd B (X.kr K) hi I1 (fun f hf => by
      have a := F.p0 f hf
      have b := F.p1 f hf
      split <;> omega) (fun f hf => by
      have a := F.q0 f hf
      have b := F.q1 f hf
      split <;> omega)
    have eL : Lk n i (fun f => if op n f < i then P1 n (su n C) s f else fP s f) (fun f => if ip n f < i then N1 n (su n C) s f else fN s f) = SO n i (fP s) (fN s) := by
      rw [Lk_congr (P' := fP s) (N' := fN s) hi (fun f _ hf => by rw [if_neg (by omega)]) (fun f _ hf => by rw [if_neg (by omega)]), Lk_SO hi f2 (fz i hi)]
    refine ⟨w2, ⟨X.trans X2, I2.congr n1 (fun f hf => ?_) (fun f hf => ?_)⟩, ?_⟩
    · rw [eL]
      by_cases e : op n f = i
      · rw [if_pos e, if_neg (show ¬ op n f < i by omega), if_pos (show op n f < i + 1 by omega)]
        unfold P1
        rw [e, suk i hi]
      · rw [if_neg e]
        by_cases e2 : op n f < i
        · rw [if_pos e2, if_pos (by omega)]
        · rw [if_neg e2, if_neg (by omega)]
    · rw [eL]
      by_cases e : ip n f = i
      · rw [if_pos e, if_neg (show ¬ ip n f < i by omega), if_pos (show ip n f < i + 1 by omega)]
        unfold N1
        rw [e, suk i hi]
      · rw [if_neg e]
        by_cases e2 : ip n f < i
        · rw [if_pos e2, if_pos (by omega)]
        · rw [if_neg e2, if_neg (by omega)]
    · show f_Mod_move_2 T (fuel + 1) w' _ _ = f_Mod_move_2 T fuel _ _ _
      rw [f_Mod_move_2, hR.i, Option.bind_some, G'.n, if_neg (by rw [nI_leS (by omega) (by omega)]; omega), e2, nI_inc]
      rfl
  · intro w1 fuel ⟨X, I1⟩
    have G1 := X.er G
    have K1 := X.kr K
    have hR1 := G1.r
    have I1' : IR w1 n (P1 n (su n C) s) (N1 n (su n C) s) := I1.congr n1 (fun f hf => by
      by_cases e : op n f < n
      · rw [if_pos e]
      · rw [if_neg e]
        have := F.so0 (op n f)
        unfold P1 lm
        rw [(F.ua _ (by omega)).1, if_neg (by omega)]) (fun f hf => by
      by_cases e : ip n f < n
      · rw [if_pos e]
      · rw [if_neg e]
        have := F.so0 (ip n f)
        unfold N1 lm
        rw [(F.ua _ (by omega)).1, if_neg (by omega)])
    show wp (f_Mod_move_2 T (fuel + 1) w1 _ _) _
    rw [f_Mod_move_2, hR1.i, Option.bind_some, G1.n, if_pos (by rw [nI_leS (by omega) (by omega)]; omega)]
    refine loop_up (N := n) (by omega) (fun fuel w' i => f_Mod_move_23 T fuel w' 0 i) (fun j w' => Gx [] [106, 107] [] [29] w1 w' ∧ IR w' n (fun f => if ip n f < j then P2 n (su n C) (ro E n C) s f else P1 n (su n C) s f) (fun f => if op n f < j then N2 n (su n C) (ro E n C) s f else N1 n (su n C) s f)) _ ?_ ?_ w1 ⟨Gx.refl .., I1'.congr n1 (fun f _ => by rw [if_neg (by omega)]) (fun f _ => by rw [if_neg (by omega)])⟩
    · intro i w' fuel hi ⟨X2, I2⟩
      have G' := X2.er G1
      have hR := G'.r
      obtain ⟨w2, e2, X3, I3⟩ := r_lessC G' KBd B (X2.kr K1) hi I2 (fun f hf => by
        have a := F.p0 f hf
        have b := F.p1 f hf
        have c := F.p2 f hf
        split <;> omega) (fun f hf => by
        have a := F.q0 f hf
        have b := F.q1 f hf
        have c := F.q2 f hf
        split <;> omega)
      have eL : SI n i (fun f => if ip n f < i then P2 n (su n C) (ro E n C) s f else P1 n (su n C) s f) (fun f => if op n f < i then N2 n (su n C) (ro E n C) s f else N1 n (su n C) s f) = SI n i (P1 n (su n C) s) (N1 n (su n C) s) := SI_congr (fun f _ hf => by rw [if_neg (by omega)]) (fun f _ hf => by rw [if_neg (by omega)])
      refine ⟨w2, ⟨X2.trans (X3.mono (by decide) (by decide) (by decide) (by decide)), I3.congr n1 (fun f hf => ?_) (fun f hf => ?_)⟩, ?_⟩
      · rw [eL]
        by_cases e : ip n f = i
        · rw [if_pos e, if_neg (show ¬ ip n f < i by omega), if_pos (show ip n f < i + 1 by omega)]
          unfold P2
          rw [e, rok i hi]
        · rw [if_neg e]
          by_cases e2 : ip n f < i
          · rw [if_pos e2, if_pos (by omega)]
          · rw [if_neg e2, if_neg (by omega)]
      · rw [eL]
        by_cases e : op n f = i
        · rw [if_pos e, if_neg (show ¬ op n f < i by omega), if_pos (show op n f < i + 1 by omega)]
          unfold N2
          rw [e, rok i hi]
        · rw [if_neg e]
          by_cases e2 : op n f < i
          · rw [if_pos e2, if_pos (by omega)]
          · rw [if_neg e2, if_neg (by omega)]
      · show f_Mod_move_23 T (fuel + 1) w' _ _ = f_Mod_move_23 T fuel _ _ _
        rw [f_Mod_move_23, hR.i, Option.bind_some, G'.n, if_neg (by rw [nI_leS (by omega) (by omega)]; omega), e2, nI_inc]
        rfl
    · intro w2 fuel ⟨X2, I2⟩
      have G2 := X2.er G1
      have hR2 := G2.r
      have I2' : IR w2 n (P2 n (su n C) (ro E n C) s) (N2 n (su n C) (ro E n C) s) := I2.congr n1 (fun f hf => by
        by_cases e : ip n f < n
        · rw [if_pos e]
        · rw [if_neg e]
          have := F.si1 (ip n f)
          unfold P2 lm
          rw [(F.ua _ (by omega)).2, if_neg (by omega)]) (fun f hf => by
        by_cases e : op n f < n
        · rw [if_pos e]
        · rw [if_neg e]
          have := F.si1 (op n f)
          unfold N2 lm
          rw [(F.ua _ (by omega)).2, if_neg (by omega)])
      show wp (f_Mod_move_23 T (fuel + 1) w2 _ _) _
      rw [f_Mod_move_23, hR2.i, Option.bind_some, G2.n, if_pos (by rw [nI_leS (by omega) (by omega)]; omega)]
      have z2 : N2 n (su n C) (ro E n C) s 2 = 0 := N2_0 F.rain
      have z3 : ∀ k, k < n → P2 n (su n C) (ro E n C) s (3 + k) = 0 := fun k hk => by unfold P2 P1; rw [fz k hk, lm_0, lm_0]
      refine wp_mono (r_moves G2 KBd (X2.kr K1) I2' z2 z3) ?_
      intro w3 ⟨X3, b3, j1, j2, j3, j4⟩
      have Xa := X.trans X2
      unfold hourC PP NN
      rw [hs]
      refine ⟨(Xa.mono (by decide) (by decide) (by decide) (by decide)).trans (X3.mono (by decide) (by decide) (by decide) (by decide)), b3, ?_, ?_, ?_, ?_⟩
      · rw [j1, Xa.J 98 _ (by decide)]
      · rw [j2, Xa.J 99 _ (by decide)]
      · rw [j3, Xa.J 100 _ (by decide)]
      · rw [j4, Xa.J 101 _ (by decide)]
theorem r_hour (B : EB E) (G : ER T w E n) (K : KR w n C) (KBd : KB E n C) (hh : h < 24) : wp (f_Mod_hour T w 0 (nI h)) (HR n E C h w) := by
  have hR := G.r
  unfold f_Mod_hour
  rw [hR.i, Option.bind_some, wp_bind]
  refine wp_mono (r_warm B G K KBd hh) ?_
  intro w1 ⟨X1, v1⟩
  rw [wp_bind]
  refine wp_mono (r_flow B (X1.er G) (X1.kr K) KBd hh v1) ?_
  intro w2 ⟨X2, I2⟩
  rw [wp_bind]
  have X12 := (X1.mono (by decide) (by decide) (by decide) (by decide) : Gx [] [106, 107] [11, 28] [27, 29] w w1).trans (X2.mono (by decide) (by decide) (by decide) (by decide))
  refine wp_mono (r_move B (X12.er G) (X12.kr K) KBd hh I2) ?_
  intro w3 ⟨X3, b3, j1, j2, j3, j4⟩
  rw [wp_some]
  have Xz := (X12.mono (by decide) (by decide) (by decide) (by decide) : Gx [] [98, 99, 100, 101, 106, 107] [11, 28] [9, 27, 29] w w2).trans (X3.mono (by decide) (by decide) (by decide) (by decide))
  refine ⟨Xz, ⟨fun k hk => (Xz.A 7 _ (by decide)).trans (K.mt k hk), fun k hk => (Xz.A 8 _ (by decide)).trans (K.th k hk), fun k hk => (Xz.A 10 _ (by decide)).trans (K.lk k hk), b3⟩, fun k hk => ?_, ?_, ?_, ?_, ?_⟩
  · rw [X3.A 11 _ (by decide), X2.A 11 _ (by decide), v1 k hk]
  · rw [j1, X12.J 98 _ (by decide)]
  · rw [j2, X12.J 99 _ (by decide)]
  · rw [j3, X12.J 100 _ (by decide)]
  · rw [j4, X12.J 101 _ (by decide)]
end RH
