/-! WallDampModel.dampOf(I)I -/
def f_Mod_dampOf_53 (T : x_T) (w : x_W) (l0 : Nat) (l1 : Int32) (l2 : Int32) (l3 : Int32) : Option (Int32) :=
  (x_is T l0 10).bind fun _ =>
  (x_R w 66 l0).bind fun a4 =>
  (x_R w 72 l0).bind fun a6 =>
  (x_ix T a6 100 l1).bind fun _ =>
  (x_ix T a4 100 (x_A w a6 l1.toNatClampNeg)).bind fun _ =>
  if l3 = ((x_A w a4 (x_A w a6 l1.toNatClampNeg).toNatClampNeg) - (1 : Int32)) then
    ((x_R w 68 l0).bind fun a60 =>
    (x_ix T a60 100 (l2 + l3)).bind fun _ =>
    some (x_A w a60 (l2 + l3).toNatClampNeg))
  else
    ((x_R w 68 l0).bind fun a17 =>
    (x_ix T a17 100 (l2 + l3)).bind fun _ =>
    (x_R w 68 l0).bind fun a23 =>
    (x_ix T a23 100 ((l2 + l3) + (1 : Int32))).bind fun _ =>
    (x_R w 68 l0).bind fun a29 =>
    (x_ix T a29 100 (l2 + l3)).bind fun _ =>
    (x_R w 74 l0).bind fun a35 =>
    (x_ix T a35 101 l1).bind fun _ =>
    (x_R w 67 l0).bind fun a41 =>
    (x_ix T a41 100 (l2 + l3)).bind fun _ =>
    (x_R w 67 l0).bind fun a47 =>
    (x_ix T a47 100 ((l2 + l3) + (1 : Int32))).bind fun _ =>
    (x_R w 67 l0).bind fun a53 =>
    (x_ix T a53 100 (l2 + l3)).bind fun _ =>
    (x_nzl (((x_A w a47 ((l2 + l3) + (1 : Int32)).toNatClampNeg) - (x_A w a53 (l2 + l3).toNatClampNeg)).toInt64)).bind fun _ =>
    some ((((x_A w a17 (l2 + l3).toNatClampNeg).toInt64) + (((((x_A w a23 ((l2 + l3) + (1 : Int32)).toNatClampNeg) - (x_A w a29 (l2 + l3).toNatClampNeg)).toInt64) * ((x_B w a35 l1.toNatClampNeg) - ((x_A w a41 (l2 + l3).toNatClampNeg).toInt64))) / (((x_A w a47 ((l2 + l3) + (1 : Int32)).toNatClampNeg) - (x_A w a53 (l2 + l3).toNatClampNeg)).toInt64))).toInt32))
def f_Mod_dampOf_24 (T : x_T) : Nat → x_W → Nat → Int32 → Int32 → Int32 → Option (Int32)
  | 0, _, _, _, _, _ => none
  | n + 1, w, l0, l1, l2, l3 =>
    if l3 ≤ 0 then
      (f_Mod_dampOf_53 T w l0 l1 l2 l3)
    else
      ((x_is T l0 10).bind fun _ =>
      (x_R w 67 l0).bind fun a5 =>
      (x_ix T a5 100 (l2 + l3)).bind fun _ =>
      (x_R w 74 l0).bind fun a11 =>
      (x_ix T a11 101 l1).bind fun _ =>
      if (lg_cmp ((x_A w a5 (l2 + l3).toNatClampNeg).toInt64) (x_B w a11 l1.toNatClampNeg)) ≤ 0 then
        (f_Mod_dampOf_53 T w l0 l1 l2 l3)
      else
        (f_Mod_dampOf_24 T n w l0 l1 l2 (l3 + (-1))))
def f_Mod_dampOf (T : x_T) (w : x_W) (l0 : Nat) (l1 : Int32) : Option (Int32) :=
  (x_is T l0 10).bind fun _ =>
  (x_R w 72 l0).bind fun a4 =>
  (x_ix T a4 100 l1).bind fun _ =>
  (some (((7 : Int32) * (x_A w a4 l1.toNatClampNeg)))).bind fun v10 =>
  (x_R w 66 l0).bind fun a12 =>
  (x_R w 72 l0).bind fun a14 =>
  (x_ix T a14 100 l1).bind fun _ =>
  (x_ix T a12 100 (x_A w a14 l1.toNatClampNeg)).bind fun _ =>
  (some (((x_A w a12 (x_A w a14 l1.toNatClampNeg).toNatClampNeg) - (1 : Int32)))).bind fun v24 =>
  f_Mod_dampOf_24 T 1000 w l0 l1 v10 v24
set_option maxHeartbeats 4000000 in
set_option maxRecDepth 100000 in
theorem k_Mod_dampOf_53 {p : Program} {l : Launch} {e : Env} {s : State} {m : MethodId} {args : Array Value} {below : List Frame} {meth : Method} {c : Code} {D : va_G} {aC : Nat → ClassId} {ad : Nat → Nat} {T : x_T} {nx : Nat} {A : Nat → Prop} {q : Int32} (C0 : x_At p s m meth c args "WallDampModel" b_Mod_dampOf (some (.int)) 4 D aC A) : ∀ (w : x_W) (ls : Array Slot) (l0 : Nat) (l1 : Int32) (l2 : Int32) (l3 : Int32), f_Mod_dampOf_53 T w l0 l1 l2 l3 = some q → x_H D x_cl x_FT aC ad T nx A w s.heap → lv_has ls 4 [(0, .ref (ad l0)), (1, .int l1), (2, .int l2), (3, .int l3)] → W p l e { frames := 0, cells := 0, slots := 0, locals := 0 } s m args below meth c s.heap [] 0 0 (MQ below (x_Qp (some (.int q))) args s 0 0 (fun _ => False)) (F0 m 53 ls []) := by
  obtain ⟨hx, hb, hr, hml, hown, hts, hlocks, hK, hA, hX⟩ := id C0
  intro w ls l0 l1 l2 l3 hf hH hl
  unfold f_Mod_dampOf_53 at hf
  refine lv_iload_n hx hb d_Mod_dampOf_53 rfl (lv_at hl 3 rfl) ?_
  refine lv_aload_n hx hb d_Mod_dampOf_54 rfl (lv_at hl 0 rfl) ?_
  obtain ⟨_, e1, hf⟩ := x_b hf
  obtain ⟨n2, hT3⟩ := x_is_e e1
  obtain ⟨a4, e5, hf⟩ := x_b hf
  refine x_get (C := "WallDampModel") (F := F_Mod) (N := 51) hx hb hts i_Mod hown hK hH hT3 (by decide) rfl 2 (by decide) (hts _ m_795) (fun _ h9 => h9) (kd := (2, 66)) rfl (x_fr e5) d_Mod_dampOf_55 ?_
  refine lv_aload_n hx hb d_Mod_dampOf_58 rfl (lv_at hl 0 rfl) ?_
  obtain ⟨a6, e7, hf⟩ := x_b hf
  refine x_get (C := "WallDampModel") (F := F_Mod) (N := 51) hx hb hts i_Mod hown hK hH hT3 (by decide) rfl 8 (by decide) (hts _ m_801) (fun _ h9 => h9) (kd := (2, 72)) rfl (x_fr e7) d_Mod_dampOf_59 ?_
  refine lv_iload_n hx hb d_Mod_dampOf_62 rfl (lv_at hl 1 rfl) ?_
  obtain ⟨_, e8, hf⟩ := x_b hf
  obtain ⟨n9, hT10, hi11⟩ := x_ix_e e8
  refine x_iald hx hb hK hH hT10 0 rfl hi11 d_Mod_dampOf_63 ?_
  obtain ⟨_, e12, hf⟩ := x_b hf
  obtain ⟨n13, hT14, hi15⟩ := x_ix_e e12
  refine x_iald hx hb hK hH hT14 0 rfl hi15 d_Mod_dampOf_64 ?_
  refine lv_iconst (v := 1) hx hb d_Mod_dampOf_65 (by decide) ?_
  refine lv_isub hx hb d_Mod_dampOf_66 ?_
  refine lv_icmp_ne (tgt := 79) hx hb d_Mod_dampOf_67 (by decide) (fun c16 => ?_) (fun c16 => ?_)
  · have hf := x_if hf c16
    refine lv_aload_n hx hb d_Mod_dampOf_79 rfl (lv_at hl 0 rfl) ?_
    obtain ⟨a17, e18, hf⟩ := x_b hf
    refine x_get (C := "WallDampModel") (F := F_Mod) (N := 51) hx hb hts i_Mod hown hK hH hT3 (by decide) rfl 4 (by decide) (hts _ m_797) (fun _ h9 => h9) (kd := (2, 68)) rfl (x_fr e18) d_Mod_dampOf_80 ?_
    refine lv_iload_n hx hb d_Mod_dampOf_83 rfl (lv_at hl 2 rfl) ?_
    refine lv_iload_n hx hb d_Mod_dampOf_84 rfl (lv_at hl 3 rfl) ?_
    refine lv_iadd hx hb d_Mod_dampOf_85 ?_
    obtain ⟨_, e19, hf⟩ := x_b hf
    obtain ⟨n20, hT21, hi22⟩ := x_ix_e e19
    refine x_iald hx hb hK hH hT21 0 rfl hi22 d_Mod_dampOf_86 ?_
    refine lv_i2l (v := (x_A w a17 (l2 + l3).toNatClampNeg).toInt64) hx hb d_Mod_dampOf_87 rfl ?_
    refine lv_aload_n hx hb d_Mod_dampOf_88 rfl (lv_at hl 0 rfl) ?_
    obtain ⟨a23, e24, hf⟩ := x_b hf
    refine x_get (C := "WallDampModel") (F := F_Mod) (N := 51) hx hb hts i_Mod hown hK hH hT3 (by decide) rfl 4 (by decide) (hts _ m_797) (fun _ h9 => h9) (kd := (2, 68)) rfl (x_fr e24) d_Mod_dampOf_89 ?_
    refine lv_iload_n hx hb d_Mod_dampOf_92 rfl (lv_at hl 2 rfl) ?_
    refine lv_iload_n hx hb d_Mod_dampOf_93 rfl (lv_at hl 3 rfl) ?_
    refine lv_iadd hx hb d_Mod_dampOf_94 ?_
    refine lv_iconst (v := 1) hx hb d_Mod_dampOf_95 (by decide) ?_
    refine lv_iadd hx hb d_Mod_dampOf_96 ?_
    obtain ⟨_, e25, hf⟩ := x_b hf
    obtain ⟨n26, hT27, hi28⟩ := x_ix_e e25
    refine x_iald hx hb hK hH hT27 0 rfl hi28 d_Mod_dampOf_97 ?_
    refine lv_aload_n hx hb d_Mod_dampOf_98 rfl (lv_at hl 0 rfl) ?_
    obtain ⟨a29, e30, hf⟩ := x_b hf
    refine x_get (C := "WallDampModel") (F := F_Mod) (N := 51) hx hb hts i_Mod hown hK hH hT3 (by decide) rfl 4 (by decide) (hts _ m_797) (fun _ h9 => h9) (kd := (2, 68)) rfl (x_fr e30) d_Mod_dampOf_99 ?_
    refine lv_iload_n hx hb d_Mod_dampOf_102 rfl (lv_at hl 2 rfl) ?_
    refine lv_iload_n hx hb d_Mod_dampOf_103 rfl (lv_at hl 3 rfl) ?_
    refine lv_iadd hx hb d_Mod_dampOf_104 ?_
    obtain ⟨_, e31, hf⟩ := x_b hf
    obtain ⟨n32, hT33, hi34⟩ := x_ix_e e31
    refine x_iald hx hb hK hH hT33 0 rfl hi34 d_Mod_dampOf_105 ?_
    refine lv_isub hx hb d_Mod_dampOf_106 ?_
    refine lv_i2l (v := ((x_A w a23 ((l2 + l3) + (1 : Int32)).toNatClampNeg) - (x_A w a29 (l2 + l3).toNatClampNeg)).toInt64) hx hb d_Mod_dampOf_107 rfl ?_
    refine lv_aload_n hx hb d_Mod_dampOf_108 rfl (lv_at hl 0 rfl) ?_
    obtain ⟨a35, e36, hf⟩ := x_b hf
    refine x_get (C := "WallDampModel") (F := F_Mod) (N := 51) hx hb hts i_Mod hown hK hH hT3 (by decide) rfl 10 (by decide) (hts _ m_803) (fun _ h9 => h9) (kd := (2, 74)) rfl (x_fr e36) d_Mod_dampOf_109 ?_
    refine lv_iload_n hx hb d_Mod_dampOf_112 rfl (lv_at hl 1 rfl) ?_
    obtain ⟨_, e37, hf⟩ := x_b hf
    obtain ⟨n38, hT39, hi40⟩ := x_ix_e e37
    refine x_lald hx hb hK hH hT39 1 rfl hi40 d_Mod_dampOf_113 ?_
    refine lv_aload_n hx hb d_Mod_dampOf_114 rfl (lv_at hl 0 rfl) ?_
    obtain ⟨a41, e42, hf⟩ := x_b hf
    refine x_get (C := "WallDampModel") (F := F_Mod) (N := 51) hx hb hts i_Mod hown hK hH hT3 (by decide) rfl 3 (by decide) (hts _ m_796) (fun _ h9 => h9) (kd := (2, 67)) rfl (x_fr e42) d_Mod_dampOf_115 ?_
    refine lv_iload_n hx hb d_Mod_dampOf_118 rfl (lv_at hl 2 rfl) ?_
    refine lv_iload_n hx hb d_Mod_dampOf_119 rfl (lv_at hl 3 rfl) ?_
    refine lv_iadd hx hb d_Mod_dampOf_120 ?_
    obtain ⟨_, e43, hf⟩ := x_b hf
    obtain ⟨n44, hT45, hi46⟩ := x_ix_e e43
    refine x_iald hx hb hK hH hT45 0 rfl hi46 d_Mod_dampOf_121 ?_
    refine lv_i2l (v := (x_A w a41 (l2 + l3).toNatClampNeg).toInt64) hx hb d_Mod_dampOf_122 rfl ?_
    refine lv_lsub hx hb d_Mod_dampOf_123 ?_
    refine lv_lmul hx hb d_Mod_dampOf_124 ?_
    refine lv_aload_n hx hb d_Mod_dampOf_125 rfl (lv_at hl 0 rfl) ?_
    obtain ⟨a47, e48, hf⟩ := x_b hf
    refine x_get (C := "WallDampModel") (F := F_Mod) (N := 51) hx hb hts i_Mod hown hK hH hT3 (by decide) rfl 3 (by decide) (hts _ m_796) (fun _ h9 => h9) (kd := (2, 67)) rfl (x_fr e48) d_Mod_dampOf_126 ?_
    refine lv_iload_n hx hb d_Mod_dampOf_129 rfl (lv_at hl 2 rfl) ?_
    refine lv_iload_n hx hb d_Mod_dampOf_130 rfl (lv_at hl 3 rfl) ?_
    refine lv_iadd hx hb d_Mod_dampOf_131 ?_
    refine lv_iconst (v := 1) hx hb d_Mod_dampOf_132 (by decide) ?_
    refine lv_iadd hx hb d_Mod_dampOf_133 ?_
    obtain ⟨_, e49, hf⟩ := x_b hf
    obtain ⟨n50, hT51, hi52⟩ := x_ix_e e49
    refine x_iald hx hb hK hH hT51 0 rfl hi52 d_Mod_dampOf_134 ?_
    refine lv_aload_n hx hb d_Mod_dampOf_135 rfl (lv_at hl 0 rfl) ?_
    obtain ⟨a53, e54, hf⟩ := x_b hf
    refine x_get (C := "WallDampModel") (F := F_Mod) (N := 51) hx hb hts i_Mod hown hK hH hT3 (by decide) rfl 3 (by decide) (hts _ m_796) (fun _ h9 => h9) (kd := (2, 67)) rfl (x_fr e54) d_Mod_dampOf_136 ?_
    refine lv_iload_n hx hb d_Mod_dampOf_139 rfl (lv_at hl 2 rfl) ?_
    refine lv_iload_n hx hb d_Mod_dampOf_140 rfl (lv_at hl 3 rfl) ?_
    refine lv_iadd hx hb d_Mod_dampOf_141 ?_
    obtain ⟨_, e55, hf⟩ := x_b hf
    obtain ⟨n56, hT57, hi58⟩ := x_ix_e e55
    refine x_iald hx hb hK hH hT57 0 rfl hi58 d_Mod_dampOf_142 ?_
    refine lv_isub hx hb d_Mod_dampOf_143 ?_
    refine lv_i2l (v := ((x_A w a47 ((l2 + l3) + (1 : Int32)).toNatClampNeg) - (x_A w a53 (l2 + l3).toNatClampNeg)).toInt64) hx hb d_Mod_dampOf_144 rfl ?_
    obtain ⟨_, e59, hf⟩ := x_b hf
    refine lv_ldiv hx hb d_Mod_dampOf_145 (x_nzl_e e59) ?_
    refine lv_ladd hx hb d_Mod_dampOf_146 ?_
    refine lv_l2i (v := (((x_A w a17 (l2 + l3).toNatClampNeg).toInt64) + (((((x_A w a23 ((l2 + l3) + (1 : Int32)).toNatClampNeg) - (x_A w a29 (l2 + l3).toNatClampNeg)).toInt64) * ((x_B w a35 l1.toNatClampNeg) - ((x_A w a41 (l2 + l3).toNatClampNeg).toInt64))) / (((x_A w a47 ((l2 + l3) + (1 : Int32)).toNatClampNeg) - (x_A w a53 (l2 + l3).toNatClampNeg)).toInt64))).toInt32) hx hb d_Mod_dampOf_147 rfl ?_
    cases hf
    exact W.iret hx hb hr (fun t ht hW => ⟨rfl, ht⟩) (fun _ h => by cases h) d_Mod_dampOf_148
  · have hf := x_it hf c16
    refine lv_aload_n hx hb d_Mod_dampOf_70 rfl (lv_at hl 0 rfl) ?_
    obtain ⟨a60, e61, hf⟩ := x_b hf
    refine x_get (C := "WallDampModel") (F := F_Mod) (N := 51) hx hb hts i_Mod hown hK hH hT3 (by decide) rfl 4 (by decide) (hts _ m_797) (fun _ h9 => h9) (kd := (2, 68)) rfl (x_fr e61) d_Mod_dampOf_71 ?_
    refine lv_iload_n hx hb d_Mod_dampOf_74 rfl (lv_at hl 2 rfl) ?_
    refine lv_iload_n hx hb d_Mod_dampOf_75 rfl (lv_at hl 3 rfl) ?_
    refine lv_iadd hx hb d_Mod_dampOf_76 ?_
    obtain ⟨_, e62, hf⟩ := x_b hf
    obtain ⟨n63, hT64, hi65⟩ := x_ix_e e62
    refine x_iald hx hb hK hH hT64 0 rfl hi65 d_Mod_dampOf_77 ?_
    cases hf
    exact W.iret hx hb hr (fun t ht hW => ⟨rfl, ht⟩) (fun _ h => by cases h) d_Mod_dampOf_78
set_option maxHeartbeats 4000000 in
set_option maxRecDepth 100000 in
theorem k_Mod_dampOf_24 {p : Program} {l : Launch} {e : Env} {s : State} {m : MethodId} {args : Array Value} {below : List Frame} {meth : Method} {c : Code} {D : va_G} {aC : Nat → ClassId} {ad : Nat → Nat} {T : x_T} {nx : Nat} {A : Nat → Prop} {q : Int32} (C0 : x_At p s m meth c args "WallDampModel" b_Mod_dampOf (some (.int)) 4 D aC A) : ∀ (n : Nat), ∀ (w : x_W) (ls : Array Slot) (l0 : Nat) (l1 : Int32) (l2 : Int32) (l3 : Int32), f_Mod_dampOf_24 T n w l0 l1 l2 l3 = some q → x_H D x_cl x_FT aC ad T nx A w s.heap → lv_has ls 4 [(0, .ref (ad l0)), (1, .int l1), (2, .int l2), (3, .int l3)] → W p l e { frames := 0, cells := 0, slots := 0, locals := 0 } s m args below meth c s.heap [] 0 0 (MQ below (x_Qp (some (.int q))) args s 0 0 (fun _ => False)) (F0 m 24 ls []) := by
  obtain ⟨hx, hb, hr, hml, hown, hts, hlocks, hK, hA, hX⟩ := id C0
  intro n
  induction n with
  | zero => intro w ls l0 l1 l2 l3 hf; cases (show none = some q from hf)
  | succ n ih =>
    intro w ls l0 l1 l2 l3 hf hH hl
    unfold f_Mod_dampOf_24 at hf
    refine lv_iload_n hx hb d_Mod_dampOf_24 rfl (lv_at hl 3 rfl) ?_
    refine lv_if_le (tgt := 53) hx hb d_Mod_dampOf_25 (by decide) (fun c1 => ?_) (fun c1 => ?_)
    · have hf := x_it hf c1
      exact k_Mod_dampOf_53 C0 w _ l0 l1 l2 l3 hf hH (lv_sub hl [0, 1, 2, 3] rfl)
    · have hf := x_if hf c1
      refine lv_aload_n hx hb d_Mod_dampOf_28 rfl (lv_at hl 0 rfl) ?_
      obtain ⟨_, e2, hf⟩ := x_b hf
      obtain ⟨n3, hT4⟩ := x_is_e e2
      obtain ⟨a5, e6, hf⟩ := x_b hf
      refine x_get (C := "WallDampModel") (F := F_Mod) (N := 51) hx hb hts i_Mod hown hK hH hT4 (by decide) rfl 3 (by decide) (hts _ m_796) (fun _ h9 => h9) (kd := (2, 67)) rfl (x_fr e6) d_Mod_dampOf_29 ?_
      refine lv_iload_n hx hb d_Mod_dampOf_32 rfl (lv_at hl 2 rfl) ?_
      refine lv_iload_n hx hb d_Mod_dampOf_33 rfl (lv_at hl 3 rfl) ?_
      refine lv_iadd hx hb d_Mod_dampOf_34 ?_
      obtain ⟨_, e7, hf⟩ := x_b hf
      obtain ⟨n8, hT9, hi10⟩ := x_ix_e e7
      refine x_iald hx hb hK hH hT9 0 rfl hi10 d_Mod_dampOf_35 ?_
      refine lv_i2l (v := (x_A w a5 (l2 + l3).toNatClampNeg).toInt64) hx hb d_Mod_dampOf_36 rfl ?_
      refine lv_aload_n hx hb d_Mod_dampOf_37 rfl (lv_at hl 0 rfl) ?_
      obtain ⟨a11, e12, hf⟩ := x_b hf
      refine x_get (C := "WallDampModel") (F := F_Mod) (N := 51) hx hb hts i_Mod hown hK hH hT4 (by decide) rfl 10 (by decide) (hts _ m_803) (fun _ h9 => h9) (kd := (2, 74)) rfl (x_fr e12) d_Mod_dampOf_38 ?_
      refine lv_iload_n hx hb d_Mod_dampOf_41 rfl (lv_at hl 1 rfl) ?_
      obtain ⟨_, e13, hf⟩ := x_b hf
      obtain ⟨n14, hT15, hi16⟩ := x_ix_e e13
      refine x_lald hx hb hK hH hT15 1 rfl hi16 d_Mod_dampOf_42 ?_
      refine W.lcmp hx hb d_Mod_dampOf_43 ?_
      refine lv_if_le (tgt := 53) hx hb d_Mod_dampOf_44 (by decide) (fun c17 => ?_) (fun c17 => ?_)
      · have hf := x_it hf c17
        exact k_Mod_dampOf_53 C0 w _ l0 l1 l2 l3 hf hH (lv_sub hl [0, 1, 2, 3] rfl)
      · have hf := x_if hf c17
        refine lv_iinc (v := (l3 + (-1))) (lv' := [(3, .int (l3 + (-1))), (0, .ref (ad l0)), (1, .int l1), (2, .int l2)]) hx hb d_Mod_dampOf_47 hl (k := 3) rfl rfl (by decide) rfl (fun ls hl => ?_)
        refine lv_goto (tgt := 24) hx hb d_Mod_dampOf_50 (by decide) ?_
        exact ih w _ l0 l1 l2 (l3 + (-1)) hf hH (lv_sub hl [1, 2, 3, 0] rfl)
set_option maxHeartbeats 4000000 in
set_option maxRecDepth 100000 in
theorem k_Mod_dampOf {p : Program} {l : Launch} {e : Env} {s : State} {m : MethodId} {args : Array Value} {below : List Frame} {meth : Method} {c : Code} {D : va_G} {aC : Nat → ClassId} {ad : Nat → Nat} {T : x_T} {nx : Nat} {A : Nat → Prop} {q : Int32} (C0 : x_At p s m meth c args "WallDampModel" b_Mod_dampOf (some (.int)) 4 D aC A) : ∀ (w : x_W) (ls : Array Slot) (l0 : Nat) (l1 : Int32), f_Mod_dampOf T w l0 l1 = some q → x_H D x_cl x_FT aC ad T nx A w s.heap → lv_has ls 4 [(0, .ref (ad l0)), (1, .int l1)] → W p l e { frames := 0, cells := 0, slots := 0, locals := 0 } s m args below meth c s.heap [] 0 0 (MQ below (x_Qp (some (.int q))) args s 0 0 (fun _ => False)) (F0 m 0 ls []) := by
  obtain ⟨hx, hb, hr, hml, hown, hts, hlocks, hK, hA, hX⟩ := id C0
  intro w ls l0 l1 hf hH hl
  unfold f_Mod_dampOf at hf
  refine lv_bipush (v := 7) hx hb d_Mod_dampOf_0 (by decide) ?_
  refine lv_aload_n hx hb d_Mod_dampOf_2 rfl (lv_at hl 0 rfl) ?_
  obtain ⟨_, e1, hf⟩ := x_b hf
  obtain ⟨n2, hT3⟩ := x_is_e e1
  obtain ⟨a4, e5, hf⟩ := x_b hf
  refine x_get (C := "WallDampModel") (F := F_Mod) (N := 51) hx hb hts i_Mod hown hK hH hT3 (by decide) rfl 8 (by decide) (hts _ m_801) (fun _ h9 => h9) (kd := (2, 72)) rfl (x_fr e5) d_Mod_dampOf_3 ?_
  refine lv_iload_n hx hb d_Mod_dampOf_6 rfl (lv_at hl 1 rfl) ?_
  obtain ⟨_, e6, hf⟩ := x_b hf
  obtain ⟨n7, hT8, hi9⟩ := x_ix_e e6
  refine x_iald hx hb hK hH hT8 0 rfl hi9 d_Mod_dampOf_7 ?_
  refine lv_imul hx hb d_Mod_dampOf_8 ?_
  obtain ⟨v10, e11, hf⟩ := x_b hf
  refine x_nmi e11 ?_
  refine lv_istore_n (lv' := [(2, .int v10), (0, .ref (ad l0)), (1, .int l1)]) hx hb d_Mod_dampOf_9 rfl hl (by decide) rfl (fun ls hl => ?_)
  refine lv_aload_n hx hb d_Mod_dampOf_10 rfl (lv_at hl 1 rfl) ?_
  obtain ⟨a12, e13, hf⟩ := x_b hf
  refine x_get (C := "WallDampModel") (F := F_Mod) (N := 51) hx hb hts i_Mod hown hK hH hT3 (by decide) rfl 2 (by decide) (hts _ m_795) (fun _ h9 => h9) (kd := (2, 66)) rfl (x_fr e13) d_Mod_dampOf_11 ?_
  refine lv_aload_n hx hb d_Mod_dampOf_14 rfl (lv_at hl 1 rfl) ?_
  obtain ⟨a14, e15, hf⟩ := x_b hf
  refine x_get (C := "WallDampModel") (F := F_Mod) (N := 51) hx hb hts i_Mod hown hK hH hT3 (by decide) rfl 8 (by decide) (hts _ m_801) (fun _ h9 => h9) (kd := (2, 72)) rfl (x_fr e15) d_Mod_dampOf_15 ?_
  refine lv_iload_n hx hb d_Mod_dampOf_18 rfl (lv_at hl 2 rfl) ?_
  obtain ⟨_, e16, hf⟩ := x_b hf
  obtain ⟨n17, hT18, hi19⟩ := x_ix_e e16
  refine x_iald hx hb hK hH hT18 0 rfl hi19 d_Mod_dampOf_19 ?_
  obtain ⟨_, e20, hf⟩ := x_b hf
  obtain ⟨n21, hT22, hi23⟩ := x_ix_e e20
  refine x_iald hx hb hK hH hT22 0 rfl hi23 d_Mod_dampOf_20 ?_
  refine lv_iconst (v := 1) hx hb d_Mod_dampOf_21 (by decide) ?_
  refine lv_isub hx hb d_Mod_dampOf_22 ?_
  obtain ⟨v24, e25, hf⟩ := x_b hf
  refine x_nmi e25 ?_
  refine lv_istore_n (lv' := [(3, .int v24), (2, .int v10), (0, .ref (ad l0)), (1, .int l1)]) hx hb d_Mod_dampOf_23 rfl hl (by decide) rfl (fun ls hl => ?_)
  exact k_Mod_dampOf_24 C0 1000 w _ l0 l1 v10 v24 hf hH (lv_sub hl [2, 3, 1, 0] rfl)
theorem c_Mod_dampOf (l : Launch) (D : va_G) (aC : Nat → ClassId) (ad : Nat → Nat) (T : x_T) (nx sz : Nat) (w : x_W) (a0 : Nat) (a1 : Int32) (q : Int32) (hf : f_Mod_dampOf T w a0 a1 = some q) : Met l y_Mod_dampOf ws_Mod_dampOf { frames := 0, cells := 0, slots := 0, locals := 0 } (x_Pc D aC ad T nx sz w [.ref (ad a0), .int a1]) (x_Qp (some (.int q))) 0 0 (fun _ => False) :=
  x_metP [(0, .ref (ad a0)), (1, .int a1)] (plainFor_of_name (by decide)) rfl rfl (Nat.le_of_ble_eq_true rfl) (fun p e s m args below meth c ls C0 hH hl => k_Mod_dampOf C0 w _ a0 a1 hf hH (lv_sub hl [0, 1] rfl))
/-! WallDampModel.resistance(I)I -/
def f_Mod_resistance (T : x_T) (w : x_W) (l0 : Nat) (l1 : Int32) : Option (Int32) :=
  (x_is T l0 10).bind fun _ =>
  (x_R w 73 l0).bind fun a4 =>
  (x_ix T a4 100 l1).bind fun _ =>
  (x_R w 71 l0).bind fun a10 =>
  (x_R w 72 l0).bind fun a12 =>
  (x_ix T a12 100 l1).bind fun _ =>
  (x_ix T a10 100 (x_A w a12 l1.toNatClampNeg)).bind fun _ =>
  (x_nzi (x_A w a10 (x_A w a12 l1.toNatClampNeg).toNatClampNeg)).bind fun _ =>
  some (((100 : Int32) * (x_A w a4 l1.toNatClampNeg)) / (x_A w a10 (x_A w a12 l1.toNatClampNeg).toNatClampNeg))
set_option maxHeartbeats 4000000 in
set_option maxRecDepth 100000 in
theorem k_Mod_resistance {p : Program} {l : Launch} {e : Env} {s : State} {m : MethodId} {args : Array Value} {below : List Frame} {meth : Method} {c : Code} {D : va_G} {aC : Nat → ClassId} {ad : Nat → Nat} {T : x_T} {nx : Nat} {A : Nat → Prop} {q : Int32} (C0 : x_At p s m meth c args "WallDampModel" b_Mod_resistance (some (.int)) 2 D aC A) : ∀ (w : x_W) (ls : Array Slot) (l0 : Nat) (l1 : Int32), f_Mod_resistance T w l0 l1 = some q → x_H D x_cl x_FT aC ad T nx A w s.heap → lv_has ls 2 [(0, .ref (ad l0)), (1, .int l1)] → W p l e { frames := 0, cells := 0, slots := 0, locals := 0 } s m args below meth c s.heap [] 0 0 (MQ below (x_Qp (some (.int q))) args s 0 0 (fun _ => False)) (F0 m 0 ls []) := by
  obtain ⟨hx, hb, hr, hml, hown, hts, hlocks, hK, hA, hX⟩ := id C0
  intro w ls l0 l1 hf hH hl
  unfold f_Mod_resistance at hf
  refine lv_bipush (v := 100) hx hb d_Mod_resistance_0 (by decide) ?_
  refine lv_aload_n hx hb d_Mod_resistance_2 rfl (lv_at hl 0 rfl) ?_
  obtain ⟨_, e1, hf⟩ := x_b hf
  obtain ⟨n2, hT3⟩ := x_is_e e1
  obtain ⟨a4, e5, hf⟩ := x_b hf
  refine x_get (C := "WallDampModel") (F := F_Mod) (N := 51) hx hb hts i_Mod hown hK hH hT3 (by decide) rfl 9 (by decide) (hts _ m_802) (fun _ h9 => h9) (kd := (2, 73)) rfl (x_fr e5) d_Mod_resistance_3 ?_
  refine lv_iload_n hx hb d_Mod_resistance_6 rfl (lv_at hl 1 rfl) ?_
  obtain ⟨_, e6, hf⟩ := x_b hf
  obtain ⟨n7, hT8, hi9⟩ := x_ix_e e6
  refine x_iald hx hb hK hH hT8 0 rfl hi9 d_Mod_resistance_7 ?_
  refine lv_imul hx hb d_Mod_resistance_8 ?_
  refine lv_aload_n hx hb d_Mod_resistance_9 rfl (lv_at hl 0 rfl) ?_
  obtain ⟨a10, e11, hf⟩ := x_b hf
  refine x_get (C := "WallDampModel") (F := F_Mod) (N := 51) hx hb hts i_Mod hown hK hH hT3 (by decide) rfl 7 (by decide) (hts _ m_800) (fun _ h9 => h9) (kd := (2, 71)) rfl (x_fr e11) d_Mod_resistance_10 ?_
  refine lv_aload_n hx hb d_Mod_resistance_13 rfl (lv_at hl 0 rfl) ?_
  obtain ⟨a12, e13, hf⟩ := x_b hf
  refine x_get (C := "WallDampModel") (F := F_Mod) (N := 51) hx hb hts i_Mod hown hK hH hT3 (by decide) rfl 8 (by decide) (hts _ m_801) (fun _ h9 => h9) (kd := (2, 72)) rfl (x_fr e13) d_Mod_resistance_14 ?_
  refine lv_iload_n hx hb d_Mod_resistance_17 rfl (lv_at hl 1 rfl) ?_
  obtain ⟨_, e14, hf⟩ := x_b hf
  obtain ⟨n15, hT16, hi17⟩ := x_ix_e e14
  refine x_iald hx hb hK hH hT16 0 rfl hi17 d_Mod_resistance_18 ?_
  obtain ⟨_, e18, hf⟩ := x_b hf
  obtain ⟨n19, hT20, hi21⟩ := x_ix_e e18
  refine x_iald hx hb hK hH hT20 0 rfl hi21 d_Mod_resistance_19 ?_
  obtain ⟨_, e22, hf⟩ := x_b hf
  refine lv_idiv hx hb d_Mod_resistance_20 (x_nzi_e e22) ?_
  cases hf
  exact W.iret hx hb hr (fun t ht hW => ⟨rfl, ht⟩) (fun _ h => by cases h) d_Mod_resistance_21
theorem c_Mod_resistance (l : Launch) (D : va_G) (aC : Nat → ClassId) (ad : Nat → Nat) (T : x_T) (nx sz : Nat) (w : x_W) (a0 : Nat) (a1 : Int32) (q : Int32) (hf : f_Mod_resistance T w a0 a1 = some q) : Met l y_Mod_resistance ws_Mod_resistance { frames := 0, cells := 0, slots := 0, locals := 0 } (x_Pc D aC ad T nx sz w [.ref (ad a0), .int a1]) (x_Qp (some (.int q))) 0 0 (fun _ => False) :=
  x_metP [(0, .ref (ad a0)), (1, .int a1)] (plainFor_of_name (by decide)) rfl rfl (Nat.le_of_ble_eq_true rfl) (fun p e s m args below meth c ls C0 hH hl => k_Mod_resistance C0 w _ a0 a1 hf hH (lv_sub hl [0, 1] rfl))
/-! WallDampModel.warm(I)V -/
def f_Mod_warm_133 (T : x_T) (K77 : x_W → Nat → Int32 → Int64 → Int64 → Int64 → Int32 → Option (x_W)) (w : x_W) (l0 : Nat) (l1 : Int32) (l2 : Int64) (l4 : Int64) (l6 : Int64) (l8 : Int32) (t0 : Nat) (t1 : Int32) (t2 : Int64) (t3 : Int64) : Option (x_W) :=
  (x_ix T t0 100 t1).bind fun _ =>
  (some (x_sA w t0 t1.toNatClampNeg ((t2 + t3).toInt32))).bind fun w5 =>
  (x_is T l0 10).bind fun _ =>
  (f_Mod_resistance T w5 l0 l8).bind fun q7 =>
  (some ((l6 + (q7.toInt64)))).bind fun v12 =>
  K77 w5 l0 l1 l2 l4 v12 (l8 + 1)
def f_Mod_warm_77 (T : x_T) : Nat → x_W → Nat → Int32 → Int64 → Int64 → Int64 → Int32 → Option (x_W)
  | 0, _, _, _, _, _, _, _ => none
  | n + 1, w, l0, l1, l2, l4, l6, l8 =>
    (x_is T l0 10).bind fun _ =>
    if (x_I w 65 l0) ≤ l8 then
      (some w)
    else
      ((f_Mod_resistance T w l0 l8).bind fun q5 =>
      (some ((l6 + (q5.toInt64)))).bind fun v7 =>
      (x_R w 76 l0).bind fun a9 =>
      if (lg_cmp l2 (0 : Int64)) = 0 then
        (f_Mod_warm_133 T (f_Mod_warm_77 T n) w l0 l1 l2 l4 v7 l8 a9 l8 l4 (0 : Int64))
      else
        ((x_R w 89 l0).bind fun a12 =>
        (x_ix T a12 100 l1).bind fun _ =>
        (f_Mod_floor T w ((((x_A w a12 l1.toNatClampNeg).toInt64) - l4) * v7) l2).bind fun q18 =>
        f_Mod_warm_133 T (f_Mod_warm_77 T n) w l0 l1 l2 l4 v7 l8 a9 l8 l4 q18))
def f_Mod_warm_18 (T : x_T) : Nat → x_W → Nat → Int32 → Int64 → Int32 → Option (x_W)
  | 0, _, _, _, _, _ => none
  | n + 1, w, l0, l1, l2, l4 =>
    (x_is T l0 10).bind fun _ =>
    if (x_I w 65 l0) ≤ l4 then
      ((x_R w 85 l0).bind fun a5 =>
      (x_ix T a5 100 l1).bind fun _ =>
      (x_R w 88 l0).bind fun a11 =>
      (x_ix T a11 100 l1).bind fun _ =>
      (some ((((x_A w a5 l1.toNatClampNeg) + (x_A w a11 l1.toNatClampNeg)).toInt64))).bind fun v17 =>
      (some (((2 : Int64) * ((x_I w 83 l0).toInt64)))).bind fun v19 =>
      f_Mod_warm_77 T 1000 w l0 l1 l2 v17 v19 (0 : Int32))
    else
      ((f_Mod_resistance T w l0 l4).bind fun q21 =>
      (some ((l2 + ((2 : Int64) * (q21.toInt64))))).bind fun v23 =>
      f_Mod_warm_18 T n w l0 l1 v23 (l4 + 1))
def f_Mod_warm (T : x_T) (w : x_W) (l0 : Nat) (l1 : Int32) : Option (x_W) :=
  (x_is T l0 10).bind fun _ =>
  (some (((2 : Int64) * (((x_I w 83 l0) + (x_I w 84 l0)).toInt64)))).bind fun v4 =>
  f_Mod_warm_18 T 1000 w l0 l1 v4 (0 : Int32)
set_option maxHeartbeats 4000000 in
set_option maxRecDepth 100000 in
theorem k_Mod_warm_133 {p : Program} {l : Launch} {e : Env} {s : State} {m : MethodId} {args : Array Value} {below : List Frame} {meth : Method} {c : Code} {D : va_G} {aC : Nat → ClassId} {ad : Nat → Nat} {T : x_T} {nx : Nat} {A : Nat → Prop} {q : x_W} (C0 : x_At p s m meth c args "WallDampModel" b_Mod_warm none 9 D aC A) {K77 : x_W → Nat → Int32 → Int64 → Int64 → Int64 → Int32 → Option (x_W)} (hK77 : ∀ (w : x_W) (H : Heap) (locs : List Loc) (ls : Array Slot) (l0 : Nat) (l1 : Int32) (l2 : Int64) (l4 : Int64) (l6 : Int64) (l8 : Int32), K77 w l0 l1 l2 l4 l6 l8 = some q → x_H D x_cl x_FT aC ad T nx A w H → va_S A s.heap H locs → lv_has ls 9 [(0, .ref (ad l0)), (1, .int l1), (2, .long l2), (4, .long l4), (6, .long l6), (8, .int l8)] → W p l e { frames := 1, cells := 0, slots := 0, locals := 25 } s m args below meth c H locs 0 0 (MQ below (x_Qc D aC ad T nx none q A) args s 0 0 A) (F0 m 77 ls [])) : ∀ (w : x_W) (H : Heap) (locs : List Loc) (ls : Array Slot) (l0 : Nat) (l1 : Int32) (l2 : Int64) (l4 : Int64) (l6 : Int64) (l8 : Int32) (t0 : Nat) (t1 : Int32) (t2 : Int64) (t3 : Int64), f_Mod_warm_133 T K77 w l0 l1 l2 l4 l6 l8 t0 t1 t2 t3 = some q → x_H D x_cl x_FT aC ad T nx A w H → va_S A s.heap H locs → lv_has ls 9 [(0, .ref (ad l0)), (1, .int l1), (2, .long l2), (4, .long l4), (6, .long l6), (8, .int l8)] → W p l e { frames := 1, cells := 0, slots := 0, locals := 25 } s m args below meth c H locs 0 0 (MQ below (x_Qc D aC ad T nx none q A) args s 0 0 A) (F0 m 133 ls [.long t3, .long t2, .int t1, .ref (ad t0)]) := by
  obtain ⟨hx, hb, hr, hml, hown, hts, hlocks, hK, hA, hX⟩ := id C0
  intro w H locs ls l0 l1 l2 l4 l6 l8 t0 t1 t2 t3 hf hH hS hl
  unfold f_Mod_warm_133 at hf
  refine lv_ladd hx hb d_Mod_warm_133 ?_
  refine lv_l2i (v := (t2 + t3).toInt32) hx hb d_Mod_warm_134 rfl ?_
  obtain ⟨_, e1, hf⟩ := x_b hf
  obtain ⟨n2, hT3, hi4⟩ := x_ix_e e1
  refine x_iast hx hb hK hH hS hT3 0 rfl hi4 d_Mod_warm_135 (fun H locs hH hS => ?_)
  obtain ⟨w5, e6, hf⟩ := x_b hf
  have hH := x_nw e6 hH
  refine lv_lload hx hb d_Mod_warm_136 (lv_at hl 4 rfl) ?_
  refine lv_aload_n hx hb d_Mod_warm_138 rfl (lv_at hl 0 rfl) ?_
  refine lv_iload hx hb d_Mod_warm_139 (lv_at hl 5 rfl) ?_
  obtain ⟨_, e9, hf⟩ := x_b hf
  obtain ⟨n10, hT11⟩ := x_is_e e9
  obtain ⟨q7, e8, hf⟩ := x_b hf
  refine x_callP (st1 := [.int q7, .long l6]) (x_runV (As := [.int l8]) (rest := [.long l6]) ⟨hx, hb, hml, hown, hts⟩ (c_Mod_resistance l D aC ad T nx H.size w5 l0 l8 q7 e8) (cwV 1 hts (x_gV m_1034 m_1036 ms_20 m_13 m_1037) rfl rfl rfl ⟨rfl, pd_Mod_resistance⟩ ⟨Nat.le_of_ble_eq_true rfl, Nat.le_of_ble_eq_true rfl⟩) hH hK hX hT11 (by decide) rfl rfl rfl hl.1 rfl (lv_room (Nat.le_of_ble_eq_true rfl)) d_Mod_warm_141 ⟨Nat.zero_le _, Nat.zero_le _⟩) rfl ?_
  refine lv_i2l (v := q7.toInt64) hx hb d_Mod_warm_144 rfl ?_
  refine lv_ladd hx hb d_Mod_warm_145 ?_
  obtain ⟨v12, e13, hf⟩ := x_b hf
  refine x_nml e13 ?_
  refine lv_lstore (lv' := [(6, .long v12), (0, .ref (ad l0)), (1, .int l1), (2, .long l2), (4, .long l4), (8, .int l8)]) hx hb d_Mod_warm_146 hl (by decide) rfl (fun ls hl => ?_)
  refine lv_iinc (v := (l8 + 1)) (lv' := [(8, .int (l8 + 1)), (6, .long v12), (0, .ref (ad l0)), (1, .int l1), (2, .long l2), (4, .long l4)]) hx hb d_Mod_warm_148 hl (k := 5) rfl rfl (by decide) rfl (fun ls hl => ?_)
  refine lv_goto (tgt := 77) hx hb d_Mod_warm_151 (by decide) ?_
  exact hK77 w5 _ _ _ l0 l1 l2 l4 v12 (l8 + 1) hf hH hS (lv_sub hl [2, 3, 4, 5, 1, 0] rfl)
set_option maxHeartbeats 4000000 in
set_option maxRecDepth 100000 in
theorem k_Mod_warm_77 {p : Program} {l : Launch} {e : Env} {s : State} {m : MethodId} {args : Array Value} {below : List Frame} {meth : Method} {c : Code} {D : va_G} {aC : Nat → ClassId} {ad : Nat → Nat} {T : x_T} {nx : Nat} {A : Nat → Prop} {q : x_W} (C0 : x_At p s m meth c args "WallDampModel" b_Mod_warm none 9 D aC A) : ∀ (n : Nat), ∀ (w : x_W) (H : Heap) (locs : List Loc) (ls : Array Slot) (l0 : Nat) (l1 : Int32) (l2 : Int64) (l4 : Int64) (l6 : Int64) (l8 : Int32), f_Mod_warm_77 T n w l0 l1 l2 l4 l6 l8 = some q → x_H D x_cl x_FT aC ad T nx A w H → va_S A s.heap H locs → lv_has ls 9 [(0, .ref (ad l0)), (1, .int l1), (2, .long l2), (4, .long l4), (6, .long l6), (8, .int l8)] → W p l e { frames := 1, cells := 0, slots := 0, locals := 25 } s m args below meth c H locs 0 0 (MQ below (x_Qc D aC ad T nx none q A) args s 0 0 A) (F0 m 77 ls []) := by
  obtain ⟨hx, hb, hr, hml, hown, hts, hlocks, hK, hA, hX⟩ := id C0
  intro n
  induction n with
  | zero => intro w H locs ls l0 l1 l2 l4 l6 l8 hf; cases (show none = some q from hf)
  | succ n ih =>
    intro w H locs ls l0 l1 l2 l4 l6 l8 hf hH hS hl
    unfold f_Mod_warm_77 at hf
    refine lv_iload hx hb d_Mod_warm_77 (lv_at hl 5 rfl) ?_
    refine lv_aload_n hx hb d_Mod_warm_79 rfl (lv_at hl 0 rfl) ?_
    obtain ⟨_, e1, hf⟩ := x_b hf
    obtain ⟨n2, hT3⟩ := x_is_e e1
    refine x_get (C := "WallDampModel") (F := F_Mod) (N := 51) hx hb hts i_Mod hown hK hH hT3 (by decide) rfl 1 (by decide) (hts _ m_794) (fun _ h9 => h9) (kd := (0, 65)) rfl rfl d_Mod_warm_80 ?_
    refine lv_icmp_ge (tgt := 154) hx hb d_Mod_warm_83 (by decide) (fun c4 => ?_) (fun c4 => ?_)
    · have hf := x_it hf c4
      cases hf
      refine x_sz0 hS (fun hz => ?_)
      exact W.vret hx hb hr (fun t ht hW => ⟨rfl, hS.F ht, by rw [ht]; exact hz, by rw [ht]; exact hH.weaken (fun _ _ _ => trivial)⟩) hS.2.2 d_Mod_warm_154
    · have hf := x_if hf c4
      refine lv_lload hx hb d_Mod_warm_86 (lv_at hl 4 rfl) ?_
      refine lv_aload_n hx hb d_Mod_warm_88 rfl (lv_at hl 0 rfl) ?_
      refine lv_iload hx hb d_Mod_warm_89 (lv_at hl 5 rfl) ?_
      obtain ⟨q5, e6, hf⟩ := x_b hf
      refine x_callP (st1 := [.int q5, .long l6]) (x_runV (As := [.int l8]) (rest := [.long l6]) ⟨hx, hb, hml, hown, hts⟩ (c_Mod_resistance l D aC ad T nx H.size w l0 l8 q5 e6) (cwV 1 hts (x_gV m_1034 m_1036 ms_20 m_13 m_1037) rfl rfl rfl ⟨rfl, pd_Mod_resistance⟩ ⟨Nat.le_of_ble_eq_true rfl, Nat.le_of_ble_eq_true rfl⟩) hH hK hX hT3 (by decide) rfl rfl rfl hl.1 rfl (lv_room (Nat.le_of_ble_eq_true rfl)) d_Mod_warm_91 ⟨Nat.zero_le _, Nat.zero_le _⟩) rfl ?_
      refine lv_i2l (v := q5.toInt64) hx hb d_Mod_warm_94 rfl ?_
      refine lv_ladd hx hb d_Mod_warm_95 ?_
      obtain ⟨v7, e8, hf⟩ := x_b hf
      refine x_nml e8 ?_
      refine lv_lstore (lv' := [(6, .long v7), (0, .ref (ad l0)), (1, .int l1), (2, .long l2), (4, .long l4), (8, .int l8)]) hx hb d_Mod_warm_96 hl (by decide) rfl (fun ls hl => ?_)
      refine lv_aload_n hx hb d_Mod_warm_98 rfl (lv_at hl 1 rfl) ?_
      obtain ⟨a9, e10, hf⟩ := x_b hf
      refine x_get (C := "WallDampModel") (F := F_Mod) (N := 51) hx hb hts i_Mod hown hK hH hT3 (by decide) rfl 12 (by decide) (hts _ m_805) (fun _ h9 => h9) (kd := (2, 76)) rfl (x_fr e10) d_Mod_warm_99 ?_
      refine lv_iload hx hb d_Mod_warm_102 (lv_at hl 5 rfl) ?_
      refine lv_lload hx hb d_Mod_warm_104 (lv_at hl 4 rfl) ?_
      refine lv_lload_n hx hb d_Mod_warm_106 rfl (lv_at hl 3 rfl) ?_
      refine lv_lconst (v := 0) hx hb d_Mod_warm_107 (by decide) ?_
      refine W.lcmp hx hb d_Mod_warm_108 ?_
      refine lv_if_ne (tgt := 116) hx hb d_Mod_warm_109 (by decide) (fun c11 => ?_) (fun c11 => ?_)
      · have hf := x_if hf c11
        refine lv_aload_n hx hb d_Mod_warm_116 rfl (lv_at hl 1 rfl) ?_
        obtain ⟨a12, e13, hf⟩ := x_b hf
        refine x_get (C := "WallDampModel") (F := F_Mod) (N := 51) hx hb hts i_Mod hown hK hH hT3 (by decide) rfl 25 (by decide) (hts _ m_818) (fun _ h9 => h9) (kd := (2, 89)) rfl (x_fr e13) d_Mod_warm_117 ?_
        refine lv_iload_n hx hb d_Mod_warm_120 rfl (lv_at hl 2 rfl) ?_
        obtain ⟨_, e14, hf⟩ := x_b hf
        obtain ⟨n15, hT16, hi17⟩ := x_ix_e e14
        refine x_iald hx hb hK hH hT16 0 rfl hi17 d_Mod_warm_121 ?_
        refine lv_i2l (v := (x_A w a12 l1.toNatClampNeg).toInt64) hx hb d_Mod_warm_122 rfl ?_
        refine lv_lload hx hb d_Mod_warm_123 (lv_at hl 4 rfl) ?_
        refine lv_lsub hx hb d_Mod_warm_125 ?_
        refine lv_lload hx hb d_Mod_warm_126 (lv_at hl 0 rfl) ?_
        refine lv_lmul hx hb d_Mod_warm_128 ?_
        refine lv_lload_n hx hb d_Mod_warm_129 rfl (lv_at hl 3 rfl) ?_
        obtain ⟨q18, e19, hf⟩ := x_b hf
        refine x_callP (st1 := [.long q18, .long l4, .int l8, .ref (ad a9)]) (x_runS (As := [.long ((((x_A w a12 l1.toNatClampNeg).toInt64) - l4) * v7), .long l2]) (rest := [.long l4, .int l8, .ref (ad a9)]) ⟨hx, hb, hml, hown, hts⟩ (c_Mod_floor l D aC ad T nx H.size w ((((x_A w a12 l1.toNatClampNeg).toInt64) - l4) * v7) l2 q18 e19) (va_cwS 2 hts (x_gS m_1038 m_1039 m_13 m_1040) rfl rfl rfl pd_Mod_floor ⟨Nat.le_of_ble_eq_true rfl, Nat.le_of_ble_eq_true rfl⟩) hH hK hX rfl hl.1 rfl (lv_room (Nat.le_of_ble_eq_true rfl)) d_Mod_warm_130 ⟨Nat.zero_le _, Nat.zero_le _⟩) rfl ?_
        exact k_Mod_warm_133 C0 ih w _ _ _ l0 l1 l2 l4 v7 l8 a9 l8 l4 q18 hf hH hS (lv_sub hl [1, 2, 3, 4, 0, 5] rfl)
      · have hf := x_it hf c11
        refine lv_lconst (v := 0) hx hb d_Mod_warm_112 (by decide) ?_
        refine lv_goto (tgt := 133) hx hb d_Mod_warm_113 (by decide) ?_
        exact k_Mod_warm_133 C0 ih w _ _ _ l0 l1 l2 l4 v7 l8 a9 l8 l4 (0 : Int64) hf hH hS (lv_sub hl [1, 2, 3, 4, 0, 5] rfl)
set_option maxHeartbeats 4000000 in
set_option maxRecDepth 100000 in
theorem k_Mod_warm_18 {p : Program} {l : Launch} {e : Env} {s : State} {m : MethodId} {args : Array Value} {below : List Frame} {meth : Method} {c : Code} {D : va_G} {aC : Nat → ClassId} {ad : Nat → Nat} {T : x_T} {nx : Nat} {A : Nat → Prop} {q : x_W} (C0 : x_At p s m meth c args "WallDampModel" b_Mod_warm none 9 D aC A) : ∀ (n : Nat), ∀ (w : x_W) (H : Heap) (locs : List Loc) (ls : Array Slot) (l0 : Nat) (l1 : Int32) (l2 : Int64) (l4 : Int32), f_Mod_warm_18 T n w l0 l1 l2 l4 = some q → x_H D x_cl x_FT aC ad T nx A w H → va_S A s.heap H locs → lv_has ls 9 [(0, .ref (ad l0)), (1, .int l1), (2, .long l2), (4, .int l4)] → W p l e { frames := 1, cells := 0, slots := 0, locals := 25 } s m args below meth c H locs 0 0 (MQ below (x_Qc D aC ad T nx none q A) args s 0 0 A) (F0 m 18 ls []) := by
  obtain ⟨hx, hb, hr, hml, hown, hts, hlocks, hK, hA, hX⟩ := id C0
  intro n
  induction n with
  | zero => intro w H locs ls l0 l1 l2 l4 hf; cases (show none = some q from hf)
  | succ n ih =>
    intro w H locs ls l0 l1 l2 l4 hf hH hS hl
    unfold f_Mod_warm_18 at hf
    refine lv_iload hx hb d_Mod_warm_18 (lv_at hl 3 rfl) ?_
    refine lv_aload_n hx hb d_Mod_warm_20 rfl (lv_at hl 0 rfl) ?_
    obtain ⟨_, e1, hf⟩ := x_b hf
    obtain ⟨n2, hT3⟩ := x_is_e e1
    refine x_get (C := "WallDampModel") (F := F_Mod) (N := 51) hx hb hts i_Mod hown hK hH hT3 (by decide) rfl 1 (by decide) (hts _ m_794) (fun _ h9 => h9) (kd := (0, 65)) rfl rfl d_Mod_warm_21 ?_
    refine lv_icmp_ge (tgt := 47) hx hb d_Mod_warm_24 (by decide) (fun c4 => ?_) (fun c4 => ?_)
    · have hf := x_it hf c4
      refine lv_aload_n hx hb d_Mod_warm_47 rfl (lv_at hl 0 rfl) ?_
      obtain ⟨a5, e6, hf⟩ := x_b hf
      refine x_get (C := "WallDampModel") (F := F_Mod) (N := 51) hx hb hts i_Mod hown hK hH hT3 (by decide) rfl 21 (by decide) (hts _ m_814) (fun _ h9 => h9) (kd := (2, 85)) rfl (x_fr e6) d_Mod_warm_48 ?_
      refine lv_iload_n hx hb d_Mod_warm_51 rfl (lv_at hl 1 rfl) ?_
      obtain ⟨_, e7, hf⟩ := x_b hf
      obtain ⟨n8, hT9, hi10⟩ := x_ix_e e7
      refine x_iald hx hb hK hH hT9 0 rfl hi10 d_Mod_warm_52 ?_
      refine lv_aload_n hx hb d_Mod_warm_53 rfl (lv_at hl 0 rfl) ?_
      obtain ⟨a11, e12, hf⟩ := x_b hf
      refine x_get (C := "WallDampModel") (F := F_Mod) (N := 51) hx hb hts i_Mod hown hK hH hT3 (by decide) rfl 24 (by decide) (hts _ m_817) (fun _ h9 => h9) (kd := (2, 88)) rfl (x_fr e12) d_Mod_warm_54 ?_
      refine lv_iload_n hx hb d_Mod_warm_57 rfl (lv_at hl 1 rfl) ?_
      obtain ⟨_, e13, hf⟩ := x_b hf
      obtain ⟨n14, hT15, hi16⟩ := x_ix_e e13
      refine x_iald hx hb hK hH hT15 0 rfl hi16 d_Mod_warm_58 ?_
      refine lv_iadd hx hb d_Mod_warm_59 ?_
      refine lv_i2l (v := ((x_A w a5 l1.toNatClampNeg) + (x_A w a11 l1.toNatClampNeg)).toInt64) hx hb d_Mod_warm_60 rfl ?_
      obtain ⟨v17, e18, hf⟩ := x_b hf
      refine x_nml e18 ?_
      refine lv_lstore (lv' := [(4, .long v17), (0, .ref (ad l0)), (1, .int l1), (2, .long l2)]) hx hb d_Mod_warm_61 hl (by decide) rfl (fun ls hl => ?_)
      refine lv_ldc2 (v := (2 : Int64)) hx hb hown (hts _ m_1033) d_Mod_warm_63 ?_
      refine lv_aload_n hx hb d_Mod_warm_66 rfl (lv_at hl 1 rfl) ?_
      refine x_get (C := "WallDampModel") (F := F_Mod) (N := 51) hx hb hts i_Mod hown hK hH hT3 (by decide) rfl 19 (by decide) (hts _ m_812) (fun _ h9 => h9) (kd := (0, 83)) rfl rfl d_Mod_warm_67 ?_
      refine lv_i2l (v := (x_I w 83 l0).toInt64) hx hb d_Mod_warm_70 rfl ?_
      refine lv_lmul hx hb d_Mod_warm_71 ?_
      obtain ⟨v19, e20, hf⟩ := x_b hf
      refine x_nml e20 ?_
      refine lv_lstore (lv' := [(6, .long v19), (4, .long v17), (0, .ref (ad l0)), (1, .int l1), (2, .long l2)]) hx hb d_Mod_warm_72 hl (by decide) rfl (fun ls hl => ?_)
      refine lv_iconst (v := 0) hx hb d_Mod_warm_74 (by decide) ?_
      refine lv_istore (lv' := [(8, .int (0 : Int32)), (6, .long v19), (4, .long v17), (0, .ref (ad l0)), (1, .int l1), (2, .long l2)]) hx hb d_Mod_warm_75 hl (by decide) rfl (fun ls hl => ?_)
      exact k_Mod_warm_77 C0 1000 w _ _ _ l0 l1 l2 v17 v19 (0 : Int32) hf hH hS (lv_sub hl [3, 4, 5, 2, 1, 0] rfl)
    · have hf := x_if hf c4
      refine lv_lload_n hx hb d_Mod_warm_27 rfl (lv_at hl 2 rfl) ?_
      refine lv_ldc2 (v := (2 : Int64)) hx hb hown (hts _ m_1033) d_Mod_warm_28 ?_
      refine lv_aload_n hx hb d_Mod_warm_31 rfl (lv_at hl 0 rfl) ?_
      refine lv_iload hx hb d_Mod_warm_32 (lv_at hl 3 rfl) ?_
      obtain ⟨q21, e22, hf⟩ := x_b hf
      refine x_callP (st1 := [.int q21, .long (2 : Int64), .long l2]) (x_runV (As := [.int l4]) (rest := [.long (2 : Int64), .long l2]) ⟨hx, hb, hml, hown, hts⟩ (c_Mod_resistance l D aC ad T nx H.size w l0 l4 q21 e22) (cwV 1 hts (x_gV m_1034 m_1036 ms_20 m_13 m_1037) rfl rfl rfl ⟨rfl, pd_Mod_resistance⟩ ⟨Nat.le_of_ble_eq_true rfl, Nat.le_of_ble_eq_true rfl⟩) hH hK hX hT3 (by decide) rfl rfl rfl hl.1 rfl (lv_room (Nat.le_of_ble_eq_true rfl)) d_Mod_warm_34 ⟨Nat.zero_le _, Nat.zero_le _⟩) rfl ?_
      refine lv_i2l (v := q21.toInt64) hx hb d_Mod_warm_37 rfl ?_
      refine lv_lmul hx hb d_Mod_warm_38 ?_
      refine lv_ladd hx hb d_Mod_warm_39 ?_
      obtain ⟨v23, e24, hf⟩ := x_b hf
      refine x_nml e24 ?_
      refine lv_lstore_n (lv' := [(2, .long v23), (0, .ref (ad l0)), (1, .int l1), (4, .int l4)]) hx hb d_Mod_warm_40 rfl hl (by decide) rfl (fun ls hl => ?_)
      refine lv_iinc (v := (l4 + 1)) (lv' := [(4, .int (l4 + 1)), (2, .long v23), (0, .ref (ad l0)), (1, .int l1)]) hx hb d_Mod_warm_41 hl (k := 3) rfl rfl (by decide) rfl (fun ls hl => ?_)
      refine lv_goto (tgt := 18) hx hb d_Mod_warm_44 (by decide) ?_
      exact ih w _ _ _ l0 l1 v23 (l4 + 1) hf hH hS (lv_sub hl [2, 3, 1, 0] rfl)
set_option maxHeartbeats 4000000 in
set_option maxRecDepth 100000 in
theorem k_Mod_warm {p : Program} {l : Launch} {e : Env} {s : State} {m : MethodId} {args : Array Value} {below : List Frame} {meth : Method} {c : Code} {D : va_G} {aC : Nat → ClassId} {ad : Nat → Nat} {T : x_T} {nx : Nat} {A : Nat → Prop} {q : x_W} (C0 : x_At p s m meth c args "WallDampModel" b_Mod_warm none 9 D aC A) : ∀ (w : x_W) (H : Heap) (locs : List Loc) (ls : Array Slot) (l0 : Nat) (l1 : Int32), f_Mod_warm T w l0 l1 = some q → x_H D x_cl x_FT aC ad T nx A w H → va_S A s.heap H locs → lv_has ls 9 [(0, .ref (ad l0)), (1, .int l1)] → W p l e { frames := 1, cells := 0, slots := 0, locals := 25 } s m args below meth c H locs 0 0 (MQ below (x_Qc D aC ad T nx none q A) args s 0 0 A) (F0 m 0 ls []) := by
  obtain ⟨hx, hb, hr, hml, hown, hts, hlocks, hK, hA, hX⟩ := id C0
  intro w H locs ls l0 l1 hf hH hS hl
  unfold f_Mod_warm at hf
  refine lv_ldc2 (v := (2 : Int64)) hx hb hown (hts _ m_1033) d_Mod_warm_0 ?_
  refine lv_aload_n hx hb d_Mod_warm_3 rfl (lv_at hl 0 rfl) ?_
  obtain ⟨_, e1, hf⟩ := x_b hf
  obtain ⟨n2, hT3⟩ := x_is_e e1
  refine x_get (C := "WallDampModel") (F := F_Mod) (N := 51) hx hb hts i_Mod hown hK hH hT3 (by decide) rfl 19 (by decide) (hts _ m_812) (fun _ h9 => h9) (kd := (0, 83)) rfl rfl d_Mod_warm_4 ?_
  refine lv_aload_n hx hb d_Mod_warm_7 rfl (lv_at hl 0 rfl) ?_
  refine x_get (C := "WallDampModel") (F := F_Mod) (N := 51) hx hb hts i_Mod hown hK hH hT3 (by decide) rfl 20 (by decide) (hts _ m_813) (fun _ h9 => h9) (kd := (0, 84)) rfl rfl d_Mod_warm_8 ?_
  refine lv_iadd hx hb d_Mod_warm_11 ?_
  refine lv_i2l (v := ((x_I w 83 l0) + (x_I w 84 l0)).toInt64) hx hb d_Mod_warm_12 rfl ?_
  refine lv_lmul hx hb d_Mod_warm_13 ?_
  obtain ⟨v4, e5, hf⟩ := x_b hf
  refine x_nml e5 ?_
  refine lv_lstore_n (lv' := [(2, .long v4), (0, .ref (ad l0)), (1, .int l1)]) hx hb d_Mod_warm_14 rfl hl (by decide) rfl (fun ls hl => ?_)
  refine lv_iconst (v := 0) hx hb d_Mod_warm_15 (by decide) ?_
  refine lv_istore (lv' := [(4, .int (0 : Int32)), (2, .long v4), (0, .ref (ad l0)), (1, .int l1)]) hx hb d_Mod_warm_16 hl (by decide) rfl (fun ls hl => ?_)
  exact k_Mod_warm_18 C0 1000 w _ _ _ l0 l1 v4 (0 : Int32) hf hH hS (lv_sub hl [2, 3, 1, 0] rfl)
theorem c_Mod_warm (l : Launch) (D : va_G) (aC : Nat → ClassId) (ad : Nat → Nat) (T : x_T) (nx sz : Nat) (w : x_W) (a0 : Nat) (a1 : Int32) (q : x_W) (hf : f_Mod_warm T w a0 a1 = some q) : Met l y_Mod_warm ws_Mod_warm { frames := 1, cells := 0, slots := 0, locals := 25 } (x_Pc D aC ad T nx sz w [.ref (ad a0), .int a1]) (x_Qc D aC ad T nx none q (x_dom ad nx sz)) 0 0 (x_dom ad nx sz) :=
  x_met [(0, .ref (ad a0)), (1, .int a1)] (plainFor_of_name (by decide)) rfl rfl (Nat.le_of_ble_eq_true rfl) (fun p e s m args below meth c ls C0 hH hS hl => k_Mod_warm C0 w _ _ _ a0 a1 hf hH hS (lv_sub hl [0, 1] rfl))
/-! WallDampModel.at(JJ)J -/
def f_Mod_at (T : x_T) (w : x_W) (l0 : Int64) (l2 : Int64) : Option (Int64) :=
  some ((l0 * l2) / (10000 : Int64))
set_option maxHeartbeats 4000000 in
set_option maxRecDepth 100000 in
theorem k_Mod_at {p : Program} {l : Launch} {e : Env} {s : State} {m : MethodId} {args : Array Value} {below : List Frame} {meth : Method} {c : Code} {D : va_G} {aC : Nat → ClassId} {ad : Nat → Nat} {T : x_T} {nx : Nat} {A : Nat → Prop} {q : Int64} (C0 : x_At p s m meth c args "WallDampModel" b_Mod_at (some (.long)) 4 D aC A) : ∀ (w : x_W) (ls : Array Slot) (l0 : Int64) (l2 : Int64), f_Mod_at T w l0 l2 = some q → x_H D x_cl x_FT aC ad T nx A w s.heap → lv_has ls 4 [(0, .long l0), (2, .long l2)] → W p l e { frames := 0, cells := 0, slots := 0, locals := 0 } s m args below meth c s.heap [] 0 0 (MQ below (x_Qp (some (.long q))) args s 0 0 (fun _ => False)) (F0 m 0 ls []) := by
  obtain ⟨hx, hb, hr, hml, hown, hts, hlocks, hK, hA, hX⟩ := id C0
  intro w ls l0 l2 hf hH hl
  unfold f_Mod_at at hf
  refine lv_lload_n hx hb d_Mod_at_0 rfl (lv_at hl 0 rfl) ?_
  refine lv_lload_n hx hb d_Mod_at_1 rfl (lv_at hl 1 rfl) ?_
  refine lv_lmul hx hb d_Mod_at_2 ?_
  refine lv_ldc2 (v := (10000 : Int64)) hx hb hown (hts _ m_962) d_Mod_at_3 ?_
  refine lv_ldiv hx hb d_Mod_at_6 (by decide) ?_
  cases hf
  exact W.lret hx hb hr (fun t ht hW => ⟨rfl, ht⟩) (fun _ h => by cases h) d_Mod_at_7
theorem c_Mod_at (l : Launch) (D : va_G) (aC : Nat → ClassId) (ad : Nat → Nat) (T : x_T) (nx sz : Nat) (w : x_W) (a0 : Int64) (a1 : Int64) (q : Int64) (hf : f_Mod_at T w a0 a1 = some q) : Met l y_Mod_at ws_Mod_at { frames := 0, cells := 0, slots := 0, locals := 0 } (x_Pc D aC ad T nx sz w [.long a0, .long a1]) (x_Qp (some (.long q))) 0 0 (fun _ => False) :=
  x_metP [(0, .long a0), (2, .long a1)] (plainFor_of_name (by decide)) rfl rfl (Nat.le_of_ble_eq_true rfl) (fun p e s m args below meth c ls C0 hH hl => k_Mod_at C0 w _ a0 a1 hf hH (lv_sub hl [0, 1] rfl))
/-! WallDampModel.flow(I)V -/
def f_Mod_flow_577 (T : x_T) (K517 : x_W → Nat → Int64 → Int32 → Option (x_W)) (w : x_W) (l0 : Nat) (l6 : Int64) (l11 : Int32) (t0 : Nat) (t1 : Int32) (t2 : Int64) : Option (x_W) :=
  (x_ix T t0 101 t1).bind fun _ =>
  (some (x_sB w t0 t1.toNatClampNeg t2)).bind fun w5 =>
  K517 w5 l0 l6 (l11 + 1)
def f_Mod_flow_517 (T : x_T) : Nat → x_W → Nat → Int64 → Int32 → Option (x_W)
  | 0, _, _, _, _ => none
  | n + 1, w, l0, l6, l11 =>
    (x_is T l0 10).bind fun _ =>
    if (x_I w 65 l0) ≤ l11 then
      (some w)
    else
      ((x_R w 105 l0).bind fun a5 =>
      (x_R w 103 l0).bind fun a7 =>
      (x_ix T a7 101 l11).bind fun _ =>
      if (lg_cmp l6 (x_B w a7 l11.toNatClampNeg)) ≤ 0 then
        (f_Mod_flow_577 T (f_Mod_flow_517 T n) w l0 l6 l11 a5 (((6 : Int32) * l11) + (5 : Int32)) (0 : Int64))
      else
        ((x_R w 103 l0).bind fun a14 =>
        (x_ix T a14 101 l11).bind fun _ =>
        (x_R w 75 l0).bind fun a20 =>
        (x_ix T a20 100 l11).bind fun _ =>
        f_Mod_flow_577 T (f_Mod_flow_517 T n) w l0 l6 l11 a5 (((6 : Int32) * l11) + (5 : Int32)) (((l6 - (x_B w a14 l11.toNatClampNeg)) * ((x_A w a20 l11.toNatClampNeg).toInt64)) / (1000 : Int64))))
def f_Mod_flow_511 (T : x_T) (w : x_W) (l0 : Nat) (l6 : Int64) (t0 : Nat) (t1 : Int64) : Option (x_W) :=
  (x_is T t0 10).bind fun _ =>
  (some (x_sJ w 107 t0 t1)).bind fun w4 =>
  f_Mod_flow_517 T 1000 w4 l0 l6 (0 : Int32)
def f_Mod_flow_495 (T : x_T) (w : x_W) (l0 : Nat) (l6 : Int64) (l9 : Int64) (t0 : Nat) (t1 : Int32) (t2 : Int64) : Option (x_W) :=
  (x_ix T t0 101 t1).bind fun _ =>
  (some (x_sB w t0 t1.toNatClampNeg t2)).bind fun w5 =>
  if 0 ≤ (lg_cmp l9 (0 : Int64)) then
    (f_Mod_flow_511 T w5 l0 l6 l0 (0 : Int64))
  else
    (f_Mod_flow_511 T w5 l0 l6 l0 (-l9))
def f_Mod_flow_377 (T : x_T) (w : x_W) (l0 : Nat) (l1 : Int32) (t0 : Nat) (t1 : Int64) : Option (x_W) :=
  (x_is T t0 10).bind fun _ =>
  (some (x_sJ w 106 t0 t1)).bind fun w4 =>
  (x_is T l0 10).bind fun _ =>
  (x_R w4 105 l0).bind fun a9 =>
  (x_R w4 87 l0).bind fun a11 =>
  (x_ix T a11 100 l1).bind fun _ =>
  (x_R w4 70 l0).bind fun a17 =>
  (x_R w4 72 l0).bind fun a19 =>
  (x_ix T a19 100 (0 : Int32)).bind fun _ =>
  (x_ix T a17 100 (x_A w4 a19 (0 : Int32).toNatClampNeg)).bind fun _ =>
  (x_ix T a9 101 (3 : Int32)).bind fun _ =>
  (some (x_sB w4 a9 (3 : Int32).toNatClampNeg ((((x_A w4 a11 l1.toNatClampNeg).toInt64) * ((x_A w4 a17 (x_A w4 a19 (0 : Int32).toNatClampNeg).toNatClampNeg).toInt64)) / (100 : Int64)))).bind fun w33 =>
  (x_R w33 89 l0).bind fun a35 =>
  (x_ix T a35 100 l1).bind fun _ =>
  (f_Mod_fullAt T w33 l0 (x_A w33 a35 l1.toNatClampNeg)).bind fun q41 =>
  (x_R w33 90 l0).bind fun a43 =>
  (x_ix T a43 100 l1).bind fun _ =>
  (f_Mod_at T w33 (q41.toInt64) ((x_A w33 a43 l1.toNatClampNeg).toInt64)).bind fun q49 =>
  (some (((x_I w33 65 l0) - (1 : Int32)))).bind fun v51 =>
  (x_R w33 103 l0).bind fun a53 =>
  (x_ix T a53 101 v51).bind fun _ =>
  (x_R w33 69 l0).bind fun a59 =>
  (x_R w33 72 l0).bind fun a61 =>
  (x_ix T a61 100 v51).bind fun _ =>
  (x_ix T a59 100 (x_A w33 a61 v51.toNatClampNeg)).bind fun _ =>
  (some ((((q49 - (x_B w33 a53 v51.toNatClampNeg)) * ((x_A w33 a59 (x_A w33 a61 v51.toNatClampNeg).toNatClampNeg).toInt64)) / (1000 : Int64)))).bind fun v71 =>
  (x_R w33 105 l0).bind fun a73 =>
  if (lg_cmp v71 (0 : Int64)) ≤ 0 then
    (f_Mod_flow_495 T w33 l0 q49 v71 a73 (((6 : Int32) * v51) + (4 : Int32)) (0 : Int64))
  else
    (f_Mod_flow_495 T w33 l0 q49 v71 a73 (((6 : Int32) * v51) + (4 : Int32)) v71)
def f_Mod_flow_361 (T : x_T) (w : x_W) (l0 : Nat) (l1 : Int32) (l4 : Int64) (t0 : Nat) (t1 : Int32) (t2 : Int64) : Option (x_W) :=
  (x_ix T t0 101 t1).bind fun _ =>
  (some (x_sB w t0 t1.toNatClampNeg t2)).bind fun w5 =>
  if 0 ≤ (lg_cmp l4 (0 : Int64)) then
    (f_Mod_flow_377 T w5 l0 l1 l0 (0 : Int64))
  else
    (f_Mod_flow_377 T w5 l0 l1 l0 (-l4))
def f_Mod_flow_280 (T : x_T) (K82 : x_W → Nat → Int32 → Int32 → Option (x_W)) (w : x_W) (l0 : Nat) (l1 : Int32) (l2 : Int32) (t0 : Nat) (t1 : Int32) (t2 : Int64) : Option (x_W) :=
  (x_ix T t0 101 t1).bind fun _ =>
  (some (x_sB w t0 t1.toNatClampNeg t2)).bind fun w5 =>
  K82 w5 l0 l1 (l2 + 1)
def f_Mod_flow_249 (T : x_T) (K82 : x_W → Nat → Int32 → Int32 → Option (x_W)) (w : x_W) (l0 : Nat) (l1 : Int32) (l2 : Int32) (l5 : Int64) (l7 : Int64) (t0 : Nat) (t1 : Int32) (t2 : Int64) : Option (x_W) :=
  (x_ix T t0 101 t1).bind fun _ =>
  (some (x_sB w t0 t1.toNatClampNeg t2)).bind fun w5 =>
  (x_is T l0 10).bind fun _ =>
  (x_R w5 105 l0).bind fun a10 =>
  if 0 ≤ (lg_cmp (l5 + l7) (0 : Int64)) then
    (f_Mod_flow_280 T K82 w5 l0 l1 l2 a10 (((6 : Int32) * l2) + (1 : Int32)) (0 : Int64))
  else
    (f_Mod_flow_280 T K82 w5 l0 l1 l2 a10 (((6 : Int32) * l2) + (1 : Int32)) ((-l5) - l7))
def f_Mod_flow_212 (T : x_T) (K82 : x_W → Nat → Int32 → Int32 → Option (x_W)) (w : x_W) (l0 : Nat) (l1 : Int32) (l2 : Int32) (l5 : Int64) (t0 : Int64) (t1 : Int32) : Option (x_W) :=
  (some (((t0 * (t1.toInt64)) / (1000 : Int64)))).bind fun v1 =>
  (x_is T l0 10).bind fun _ =>
  (x_R w 105 l0).bind fun a6 =>
  if (lg_cmp (l5 + v1) (0 : Int64)) ≤ 0 then
    (f_Mod_flow_249 T K82 w l0 l1 l2 l5 v1 a6 ((6 : Int32) * (l2 + (1 : Int32))) (0 : Int64))
  else
    (f_Mod_flow_249 T K82 w l0 l1 l2 l5 v1 a6 ((6 : Int32) * (l2 + (1 : Int32))) (l5 + v1))
def f_Mod_flow_156 (T : x_T) (K82 : x_W → Nat → Int32 → Int32 → Option (x_W)) (w : x_W) (l0 : Nat) (l1 : Int32) (l2 : Int32) (l3 : Int32) (l4 : Int32) (t0 : Int64) (t1 : Int32) : Option (x_W) :=
  (some (((t0 * (t1.toInt64)) / (1000 : Int64)))).bind fun v1 =>
  (x_is T l0 10).bind fun _ =>
  (x_R w 104 l0).bind fun a6 =>
  (x_ix T a6 100 l2).bind fun _ =>
  (x_R w 104 l0).bind fun a12 =>
  (x_ix T a12 100 (l2 + (1 : Int32))).bind fun _ =>
  (x_R w 70 l0).bind fun a18 =>
  (x_ix T a18 100 l3).bind fun _ =>
  (x_R w 70 l0).bind fun a24 =>
  (x_ix T a24 100 l4).bind fun _ =>
  if (x_A w a24 l4.toNatClampNeg) ≤ (x_A w a18 l3.toNatClampNeg) then
    ((x_R w 70 l0).bind fun a31 =>
    (x_ix T a31 100 l4).bind fun _ =>
    f_Mod_flow_212 T K82 w l0 l1 l2 v1 (((x_A w a6 l2.toNatClampNeg) - (x_A w a12 (l2 + (1 : Int32)).toNatClampNeg)).toInt64) (x_A w a31 l4.toNatClampNeg))
  else
    ((x_R w 70 l0).bind fun a37 =>
    (x_ix T a37 100 l3).bind fun _ =>
    f_Mod_flow_212 T K82 w l0 l1 l2 v1 (((x_A w a6 l2.toNatClampNeg) - (x_A w a12 (l2 + (1 : Int32)).toNatClampNeg)).toInt64) (x_A w a37 l3.toNatClampNeg))
def f_Mod_flow_82 (T : x_T) : Nat → x_W → Nat → Int32 → Int32 → Option (x_W)
  | 0, _, _, _, _ => none
  | n + 1, w, l0, l1, l2 =>
    (x_is T l0 10).bind fun _ =>
    if (x_I w 65 l0) ≤ (l2 + (1 : Int32)) then
      ((x_R w 85 l0).bind fun a5 =>
      (x_ix T a5 100 l1).bind fun _ =>
      (x_R w 88 l0).bind fun a11 =>
      (x_ix T a11 100 l1).bind fun _ =>
      (f_Mod_fullAt T w l0 ((x_A w a5 l1.toNatClampNeg) + (x_A w a11 l1.toNatClampNeg))).bind fun q17 =>
      (x_R w 86 l0).bind fun a19 =>
      (x_ix T a19 100 l1).bind fun _ =>
      (f_Mod_at T w (q17.toInt64) ((x_A w a19 l1.toNatClampNeg).toInt64)).bind fun q25 =>
      (x_R w 103 l0).bind fun a27 =>
      (x_ix T a27 101 (0 : Int32)).bind fun _ =>
      (x_R w 69 l0).bind fun a33 =>
      (x_R w 72 l0).bind fun a35 =>
      (x_ix T a35 100 (0 : Int32)).bind fun _ =>
      (x_ix T a33 100 (x_A w a35 (0 : Int32).toNatClampNeg)).bind fun _ =>
      (some ((((q25 - (x_B w a27 (0 : Int32).toNatClampNeg)) * ((x_A w a33 (x_A w a35 (0 : Int32).toNatClampNeg).toNatClampNeg).toInt64)) / (1000 : Int64)))).bind fun v45 =>
      (x_R w 105 l0).bind fun a47 =>
      if (lg_cmp v45 (0 : Int64)) ≤ 0 then
        (f_Mod_flow_361 T w l0 l1 v45 a47 (2 : Int32) (0 : Int64))
      else
        (f_Mod_flow_361 T w l0 l1 v45 a47 (2 : Int32) v45))
    else
      ((x_R w 72 l0).bind fun a50 =>
      (x_ix T a50 100 l2).bind fun _ =>
      (some ((x_A w a50 l2.toNatClampNeg))).bind fun v56 =>
      (x_R w 72 l0).bind fun a58 =>
      (x_ix T a58 100 (l2 + (1 : Int32))).bind fun _ =>
      (some ((x_A w a58 (l2 + (1 : Int32)).toNatClampNeg))).bind fun v64 =>
      (x_R w 103 l0).bind fun a66 =>
      (x_ix T a66 101 l2).bind fun _ =>
      (x_R w 103 l0).bind fun a72 =>
      (x_ix T a72 101 (l2 + (1 : Int32))).bind fun _ =>
      (x_R w 69 l0).bind fun a78 =>
      (x_ix T a78 100 v56).bind fun _ =>
      (x_R w 69 l0).bind fun a84 =>
      (x_ix T a84 100 v64).bind fun _ =>
      if (x_A w a84 v64.toNatClampNeg) ≤ (x_A w a78 v56.toNatClampNeg) then
        ((x_R w 69 l0).bind fun a91 =>
        (x_ix T a91 100 v64).bind fun _ =>
        f_Mod_flow_156 T (f_Mod_flow_82 T n) w l0 l1 l2 v56 v64 ((x_B w a66 l2.toNatClampNeg) - (x_B w a72 (l2 + (1 : Int32)).toNatClampNeg)) (x_A w a91 v64.toNatClampNeg))
      else
        ((x_R w 69 l0).bind fun a97 =>
        (x_ix T a97 100 v56).bind fun _ =>
        f_Mod_flow_156 T (f_Mod_flow_82 T n) w l0 l1 l2 v56 v64 ((x_B w a66 l2.toNatClampNeg) - (x_B w a72 (l2 + (1 : Int32)).toNatClampNeg)) (x_A w a97 v56.toNatClampNeg)))
def f_Mod_flow_56 (T : x_T) : Nat → x_W → Nat → Int32 → Int32 → Option (x_W)
  | 0, _, _, _, _ => none
  | n + 1, w, l0, l1, l2 =>
    (x_is T l0 10).bind fun _ =>
    if ((6 : Int32) * (x_I w 65 l0)) ≤ l2 then
      (f_Mod_flow_82 T 1000 w l0 l1 (0 : Int32))
    else
      ((x_R w 105 l0).bind fun a5 =>
      (x_ix T a5 101 l2).bind fun _ =>
      (some (x_sB w a5 l2.toNatClampNeg (0 : Int64))).bind fun w11 =>
      f_Mod_flow_56 T n w11 l0 l1 (l2 + 1))
def f_Mod_flow_2 (T : x_T) : Nat → x_W → Nat → Int32 → Int32 → Option (x_W)
  | 0, _, _, _, _ => none
  | n + 1, w, l0, l1, l2 =>
    (x_is T l0 10).bind fun _ =>
    if (x_I w 65 l0) ≤ l2 then
      (f_Mod_flow_56 T 1000 w l0 l1 (0 : Int32))
    else
      ((x_R w 104 l0).bind fun a5 =>
      (f_Mod_dampOf T w l0 l2).bind fun q7 =>
      (x_ix T a5 100 l2).bind fun _ =>
      (some (x_sA w a5 l2.toNatClampNeg q7)).bind fun w13 =>
      (x_R w13 103 l0).bind fun a15 =>
      (x_R w13 76 l0).bind fun a17 =>
      (x_ix T a17 100 l2).bind fun _ =>
      (f_Mod_fullAt T w13 l0 (x_A w13 a17 l2.toNatClampNeg)).bind fun q23 =>
      (x_R w13 104 l0).bind fun a25 =>
      (x_ix T a25 100 l2).bind fun _ =>
      (f_Mod_at T w13 (q23.toInt64) ((x_A w13 a25 l2.toNatClampNeg).toInt64)).bind fun q31 =>
      (x_ix T a15 101 l2).bind fun _ =>
      (some (x_sB w13 a15 l2.toNatClampNeg q31)).bind fun w37 =>
      f_Mod_flow_2 T n w37 l0 l1 (l2 + 1))
def f_Mod_flow (T : x_T) (w : x_W) (l0 : Nat) (l1 : Int32) : Option (x_W) :=
  f_Mod_flow_2 T 1000 w l0 l1 (0 : Int32)
set_option maxHeartbeats 4000000 in
set_option maxRecDepth 100000 in
theorem k_Mod_flow_577 {p : Program} {l : Launch} {e : Env} {s : State} {m : MethodId} {args : Array Value} {below : List Frame} {meth : Method} {c : Code} {D : va_G} {aC : Nat → ClassId} {ad : Nat → Nat} {T : x_T} {nx : Nat} {A : Nat → Prop} {q : x_W} (C0 : x_At p s m meth c args "WallDampModel" b_Mod_flow none 12 D aC A) {K517 : x_W → Nat → Int64 → Int32 → Option (x_W)} (hK517 : ∀ (w : x_W) (H : Heap) (locs : List Loc) (ls : Array Slot) (l0 : Nat) (l6 : Int64) (l11 : Int32), K517 w l0 l6 l11 = some q → x_H D x_cl x_FT aC ad T nx A w H → va_S A s.heap H locs → lv_has ls 12 [(0, .ref (ad l0)), (6, .long l6), (11, .int l11)] → W p l e { frames := 1, cells := 0, slots := 0, locals := 24 } s m args below meth c H locs 0 0 (MQ below (x_Qc D aC ad T nx none q A) args s 0 0 A) (F0 m 517 ls [])) : ∀ (w : x_W) (H : Heap) (locs : List Loc) (ls : Array Slot) (l0 : Nat) (l6 : Int64) (l11 : Int32) (t0 : Nat) (t1 : Int32) (t2 : Int64), f_Mod_flow_577 T K517 w l0 l6 l11 t0 t1 t2 = some q → x_H D x_cl x_FT aC ad T nx A w H → va_S A s.heap H locs → lv_has ls 12 [(0, .ref (ad l0)), (6, .long l6), (11, .int l11)] → W p l e { frames := 1, cells := 0, slots := 0, locals := 24 } s m args below meth c H locs 0 0 (MQ below (x_Qc D aC ad T nx none q A) args s 0 0 A) (F0 m 577 ls [.long t2, .int t1, .ref (ad t0)]) := by
  obtain ⟨hx, hb, hr, hml, hown, hts, hlocks, hK, hA, hX⟩ := id C0
  intro w H locs ls l0 l6 l11 t0 t1 t2 hf hH hS hl
  unfold f_Mod_flow_577 at hf
  obtain ⟨_, e1, hf⟩ := x_b hf
  obtain ⟨n2, hT3, hi4⟩ := x_ix_e e1
  refine x_last hx hb hK hH hS hT3 1 rfl hi4 d_Mod_flow_577 (fun H locs hH hS => ?_)
  obtain ⟨w5, e6, hf⟩ := x_b hf
  have hH := x_nw e6 hH
  refine lv_iinc (v := (l11 + 1)) (lv' := [(11, .int (l11 + 1)), (0, .ref (ad l0)), (6, .long l6)]) hx hb d_Mod_flow_578 hl (k := 2) rfl rfl (by decide) rfl (fun ls hl => ?_)
  refine lv_goto (tgt := 517) hx hb d_Mod_flow_581 (by decide) ?_
  exact hK517 w5 _ _ _ l0 l6 (l11 + 1) hf hH hS (lv_sub hl [1, 2, 0] rfl)
set_option maxHeartbeats 4000000 in
set_option maxRecDepth 100000 in
theorem k_Mod_flow_517 {p : Program} {l : Launch} {e : Env} {s : State} {m : MethodId} {args : Array Value} {below : List Frame} {meth : Method} {c : Code} {D : va_G} {aC : Nat → ClassId} {ad : Nat → Nat} {T : x_T} {nx : Nat} {A : Nat → Prop} {q : x_W} (C0 : x_At p s m meth c args "WallDampModel" b_Mod_flow none 12 D aC A) : ∀ (n : Nat), ∀ (w : x_W) (H : Heap) (locs : List Loc) (ls : Array Slot) (l0 : Nat) (l6 : Int64) (l11 : Int32), f_Mod_flow_517 T n w l0 l6 l11 = some q → x_H D x_cl x_FT aC ad T nx A w H → va_S A s.heap H locs → lv_has ls 12 [(0, .ref (ad l0)), (6, .long l6), (11, .int l11)] → W p l e { frames := 1, cells := 0, slots := 0, locals := 24 } s m args below meth c H locs 0 0 (MQ below (x_Qc D aC ad T nx none q A) args s 0 0 A) (F0 m 517 ls []) := by
  obtain ⟨hx, hb, hr, hml, hown, hts, hlocks, hK, hA, hX⟩ := id C0
  intro n
  induction n with
  | zero => intro w H locs ls l0 l6 l11 hf; cases (show none = some q from hf)
  | succ n ih =>
    intro w H locs ls l0 l6 l11 hf hH hS hl
    unfold f_Mod_flow_517 at hf
    refine lv_iload hx hb d_Mod_flow_517 (lv_at hl 2 rfl) ?_
    refine lv_aload_n hx hb d_Mod_flow_519 rfl (lv_at hl 0 rfl) ?_
    obtain ⟨_, e1, hf⟩ := x_b hf
    obtain ⟨n2, hT3⟩ := x_is_e e1
    refine x_get (C := "WallDampModel") (F := F_Mod) (N := 51) hx hb hts i_Mod hown hK hH hT3 (by decide) rfl 1 (by decide) (hts _ m_794) (fun _ h9 => h9) (kd := (0, 65)) rfl rfl d_Mod_flow_520 ?_
    refine lv_icmp_ge (tgt := 584) hx hb d_Mod_flow_523 (by decide) (fun c4 => ?_) (fun c4 => ?_)
    · have hf := x_it hf c4
      cases hf
      refine x_sz0 hS (fun hz => ?_)
      exact W.vret hx hb hr (fun t ht hW => ⟨rfl, hS.F ht, by rw [ht]; exact hz, by rw [ht]; exact hH.weaken (fun _ _ _ => trivial)⟩) hS.2.2 d_Mod_flow_584
    · have hf := x_if hf c4
      refine lv_aload_n hx hb d_Mod_flow_526 rfl (lv_at hl 0 rfl) ?_
      obtain ⟨a5, e6, hf⟩ := x_b hf
      refine x_get (C := "WallDampModel") (F := F_Mod) (N := 51) hx hb hts i_Mod hown hK hH hT3 (by decide) rfl 41 (by decide) (hts _ m_834) (fun _ h9 => h9) (kd := (2, 105)) rfl (x_fr e6) d_Mod_flow_527 ?_
      refine lv_bipush (v := 6) hx hb d_Mod_flow_530 (by decide) ?_
      refine lv_iload hx hb d_Mod_flow_532 (lv_at hl 2 rfl) ?_
      refine lv_imul hx hb d_Mod_flow_534 ?_
      refine lv_iconst (v := 5) hx hb d_Mod_flow_535 (by decide) ?_
      refine lv_iadd hx hb d_Mod_flow_536 ?_
      refine lv_lload hx hb d_Mod_flow_537 (lv_at hl 1 rfl) ?_
      refine lv_aload_n hx hb d_Mod_flow_539 rfl (lv_at hl 0 rfl) ?_
      obtain ⟨a7, e8, hf⟩ := x_b hf
      refine x_get (C := "WallDampModel") (F := F_Mod) (N := 51) hx hb hts i_Mod hown hK hH hT3 (by decide) rfl 39 (by decide) (hts _ m_832) (fun _ h9 => h9) (kd := (2, 103)) rfl (x_fr e8) d_Mod_flow_540 ?_
      refine lv_iload hx hb d_Mod_flow_543 (lv_at hl 2 rfl) ?_
      obtain ⟨_, e9, hf⟩ := x_b hf
      obtain ⟨n10, hT11, hi12⟩ := x_ix_e e9
      refine x_lald hx hb hK hH hT11 1 rfl hi12 d_Mod_flow_545 ?_
      refine W.lcmp hx hb d_Mod_flow_546 ?_
      refine lv_if_le (tgt := 576) hx hb d_Mod_flow_547 (by decide) (fun c13 => ?_) (fun c13 => ?_)
      · have hf := x_it hf c13
        refine lv_lconst (v := 0) hx hb d_Mod_flow_576 (by decide) ?_
        exact k_Mod_flow_577 C0 ih w _ _ _ l0 l6 l11 a5 (((6 : Int32) * l11) + (5 : Int32)) (0 : Int64) hf hH hS (lv_sub hl [0, 1, 2] rfl)
      · have hf := x_if hf c13
        refine lv_lload hx hb d_Mod_flow_550 (lv_at hl 1 rfl) ?_
        refine lv_aload_n hx hb d_Mod_flow_552 rfl (lv_at hl 0 rfl) ?_
        obtain ⟨a14, e15, hf⟩ := x_b hf
        refine x_get (C := "WallDampModel") (F := F_Mod) (N := 51) hx hb hts i_Mod hown hK hH hT3 (by decide) rfl 39 (by decide) (hts _ m_832) (fun _ h9 => h9) (kd := (2, 103)) rfl (x_fr e15) d_Mod_flow_553 ?_
        refine lv_iload hx hb d_Mod_flow_556 (lv_at hl 2 rfl) ?_
        obtain ⟨_, e16, hf⟩ := x_b hf
        obtain ⟨n17, hT18, hi19⟩ := x_ix_e e16
        refine x_lald hx hb hK hH hT18 1 rfl hi19 d_Mod_flow_558 ?_
        refine lv_lsub hx hb d_Mod_flow_559 ?_
        refine lv_aload_n hx hb d_Mod_flow_560 rfl (lv_at hl 0 rfl) ?_
        obtain ⟨a20, e21, hf⟩ := x_b hf
        refine x_get (C := "WallDampModel") (F := F_Mod) (N := 51) hx hb hts i_Mod hown hK hH hT3 (by decide) rfl 11 (by decide) (hts _ m_804) (fun _ h9 => h9) (kd := (2, 75)) rfl (x_fr e21) d_Mod_flow_561 ?_
        refine lv_iload hx hb d_Mod_flow_564 (lv_at hl 2 rfl) ?_
        obtain ⟨_, e22, hf⟩ := x_b hf
        obtain ⟨n23, hT24, hi25⟩ := x_ix_e e22
        refine x_iald hx hb hK hH hT24 0 rfl hi25 d_Mod_flow_566 ?_
        refine lv_i2l (v := (x_A w a20 l11.toNatClampNeg).toInt64) hx hb d_Mod_flow_567 rfl ?_
        refine lv_lmul hx hb d_Mod_flow_568 ?_
        refine lv_ldc2 (v := (1000 : Int64)) hx hb hown (hts _ m_971) d_Mod_flow_569 ?_
        refine lv_ldiv hx hb d_Mod_flow_572 (by decide) ?_
        refine lv_goto (tgt := 577) hx hb d_Mod_flow_573 (by decide) ?_
        exact k_Mod_flow_577 C0 ih w _ _ _ l0 l6 l11 a5 (((6 : Int32) * l11) + (5 : Int32)) (((l6 - (x_B w a14 l11.toNatClampNeg)) * ((x_A w a20 l11.toNatClampNeg).toInt64)) / (1000 : Int64)) hf hH hS (lv_sub hl [0, 1, 2] rfl)
set_option maxHeartbeats 4000000 in
set_option maxRecDepth 100000 in
theorem k_Mod_flow_511 {p : Program} {l : Launch} {e : Env} {s : State} {m : MethodId} {args : Array Value} {below : List Frame} {meth : Method} {c : Code} {D : va_G} {aC : Nat → ClassId} {ad : Nat → Nat} {T : x_T} {nx : Nat} {A : Nat → Prop} {q : x_W} (C0 : x_At p s m meth c args "WallDampModel" b_Mod_flow none 12 D aC A) : ∀ (w : x_W) (H : Heap) (locs : List Loc) (ls : Array Slot) (l0 : Nat) (l6 : Int64) (t0 : Nat) (t1 : Int64), f_Mod_flow_511 T w l0 l6 t0 t1 = some q → x_H D x_cl x_FT aC ad T nx A w H → va_S A s.heap H locs → lv_has ls 12 [(0, .ref (ad l0)), (6, .long l6)] → W p l e { frames := 1, cells := 0, slots := 0, locals := 24 } s m args below meth c H locs 0 0 (MQ below (x_Qc D aC ad T nx none q A) args s 0 0 A) (F0 m 511 ls [.long t1, .ref (ad t0)]) := by
  obtain ⟨hx, hb, hr, hml, hown, hts, hlocks, hK, hA, hX⟩ := id C0
  intro w H locs ls l0 l6 t0 t1 hf hH hS hl
  unfold f_Mod_flow_511 at hf
  obtain ⟨_, e1, hf⟩ := x_b hf
  obtain ⟨n2, hT3⟩ := x_is_e e1
  refine x_put (C := "WallDampModel") (F := F_Mod) (N := 51) (ty := t_Mod 43) (v := .long t1) (w' := x_sJ w 107 t0 t1) hx hb hts i_Mod t_Mod ty_Mod n_Mod hown hK hH hS hT3 (by decide) rfl rfl 43 (by decide) (hts _ m_836) (fun _ h9 => h9) rfl (ty_Mod 43 (by decide)) rfl rfl (x_on_J hT3 (by decide) rfl nd_Mod) (fun j hj => x_off_J hj) (fun hh ok => x_ok_J hh ok) d_Mod_flow_511 (fun H locs hH hS => ?_)
  obtain ⟨w4, e5, hf⟩ := x_b hf
  have hH := x_nw e5 hH
  refine lv_iconst (v := 0) hx hb d_Mod_flow_514 (by decide) ?_
  refine lv_istore (lv' := [(11, .int (0 : Int32)), (0, .ref (ad l0)), (6, .long l6)]) hx hb d_Mod_flow_515 hl (by decide) rfl (fun ls hl => ?_)
  exact k_Mod_flow_517 C0 1000 w4 _ _ _ l0 l6 (0 : Int32) hf hH hS (lv_sub hl [1, 2, 0] rfl)
set_option maxHeartbeats 4000000 in
set_option maxRecDepth 100000 in
theorem k_Mod_flow_495 {p : Program} {l : Launch} {e : Env} {s : State} {m : MethodId} {args : Array Value} {below : List Frame} {meth : Method} {c : Code} {D : va_G} {aC : Nat → ClassId} {ad : Nat → Nat} {T : x_T} {nx : Nat} {A : Nat → Prop} {q : x_W} (C0 : x_At p s m meth c args "WallDampModel" b_Mod_flow none 12 D aC A) : ∀ (w : x_W) (H : Heap) (locs : List Loc) (ls : Array Slot) (l0 : Nat) (l6 : Int64) (l9 : Int64) (t0 : Nat) (t1 : Int32) (t2 : Int64), f_Mod_flow_495 T w l0 l6 l9 t0 t1 t2 = some q → x_H D x_cl x_FT aC ad T nx A w H → va_S A s.heap H locs → lv_has ls 12 [(0, .ref (ad l0)), (6, .long l6), (9, .long l9)] → W p l e { frames := 1, cells := 0, slots := 0, locals := 24 } s m args below meth c H locs 0 0 (MQ below (x_Qc D aC ad T nx none q A) args s 0 0 A) (F0 m 495 ls [.long t2, .int t1, .ref (ad t0)]) := by
  obtain ⟨hx, hb, hr, hml, hown, hts, hlocks, hK, hA, hX⟩ := id C0
  intro w H locs ls l0 l6 l9 t0 t1 t2 hf hH hS hl
  unfold f_Mod_flow_495 at hf
  obtain ⟨_, e1, hf⟩ := x_b hf
  obtain ⟨n2, hT3, hi4⟩ := x_ix_e e1
  refine x_last hx hb hK hH hS hT3 1 rfl hi4 d_Mod_flow_495 (fun H locs hH hS => ?_)
  obtain ⟨w5, e6, hf⟩ := x_b hf
  have hH := x_nw e6 hH
  refine lv_aload_n hx hb d_Mod_flow_496 rfl (lv_at hl 0 rfl) ?_
  refine lv_lload hx hb d_Mod_flow_497 (lv_at hl 2 rfl) ?_
  refine lv_lconst (v := 0) hx hb d_Mod_flow_499 (by decide) ?_
  refine W.lcmp hx hb d_Mod_flow_500 ?_
  refine lv_if_ge (tgt := 510) hx hb d_Mod_flow_501 (by decide) (fun c7 => ?_) (fun c7 => ?_)
  · have hf := x_it hf c7
    refine lv_lconst (v := 0) hx hb d_Mod_flow_510 (by decide) ?_
    exact k_Mod_flow_511 C0 w5 _ _ _ l0 l6 l0 (0 : Int64) hf hH hS (lv_sub hl [0, 1] rfl)
  · have hf := x_if hf c7
    refine lv_lload hx hb d_Mod_flow_504 (lv_at hl 2 rfl) ?_
    refine lv_lneg hx hb d_Mod_flow_506 ?_
    refine lv_goto (tgt := 511) hx hb d_Mod_flow_507 (by decide) ?_
    exact k_Mod_flow_511 C0 w5 _ _ _ l0 l6 l0 (-l9) hf hH hS (lv_sub hl [0, 1] rfl)
set_option maxHeartbeats 4000000 in
set_option maxRecDepth 100000 in
theorem k_Mod_flow_377 {p : Program} {l : Launch} {e : Env} {s : State} {m : MethodId} {args : Array Value} {below : List Frame} {meth : Method} {c : Code} {D : va_G} {aC : Nat → ClassId} {ad : Nat → Nat} {T : x_T} {nx : Nat} {A : Nat → Prop} {q : x_W} (C0 : x_At p s m meth c args "WallDampModel" b_Mod_flow none 12 D aC A) : ∀ (w : x_W) (H : Heap) (locs : List Loc) (ls : Array Slot) (l0 : Nat) (l1 : Int32) (t0 : Nat) (t1 : Int64), f_Mod_flow_377 T w l0 l1 t0 t1 = some q → x_H D x_cl x_FT aC ad T nx A w H → va_S A s.heap H locs → lv_has ls 12 [(0, .ref (ad l0)), (1, .int l1)] → W p l e { frames := 1, cells := 0, slots := 0, locals := 24 } s m args below meth c H locs 0 0 (MQ below (x_Qc D aC ad T nx none q A) args s 0 0 A) (F0 m 377 ls [.long t1, .ref (ad t0)]) := by
  obtain ⟨hx, hb, hr, hml, hown, hts, hlocks, hK, hA, hX⟩ := id C0
  intro w H locs ls l0 l1 t0 t1 hf hH hS hl
  unfold f_Mod_flow_377 at hf
  obtain ⟨_, e1, hf⟩ := x_b hf
  obtain ⟨n2, hT3⟩ := x_is_e e1
  refine x_put (C := "WallDampModel") (F := F_Mod) (N := 51) (ty := t_Mod 42) (v := .long t1) (w' := x_sJ w 106 t0 t1) hx hb hts i_Mod t_Mod ty_Mod n_Mod hown hK hH hS hT3 (by decide) rfl rfl 42 (by decide) (hts _ m_835) (fun _ h9 => h9) rfl (ty_Mod 42 (by decide)) rfl rfl (x_on_J hT3 (by decide) rfl nd_Mod) (fun j hj => x_off_J hj) (fun hh ok => x_ok_J hh ok) d_Mod_flow_377 (fun H locs hH hS => ?_)
  obtain ⟨w4, e5, hf⟩ := x_b hf
  have hH := x_nw e5 hH
  refine lv_aload_n hx hb d_Mod_flow_380 rfl (lv_at hl 0 rfl) ?_
  obtain ⟨_, e6, hf⟩ := x_b hf
  obtain ⟨n7, hT8⟩ := x_is_e e6
  obtain ⟨a9, e10, hf⟩ := x_b hf
  refine x_get (C := "WallDampModel") (F := F_Mod) (N := 51) hx hb hts i_Mod hown hK hH hT8 (by decide) rfl 41 (by decide) (hts _ m_834) (fun _ h9 => h9) (kd := (2, 105)) rfl (x_fr e10) d_Mod_flow_381 ?_
  refine lv_iconst (v := 3) hx hb d_Mod_flow_384 (by decide) ?_
  refine lv_aload_n hx hb d_Mod_flow_385 rfl (lv_at hl 0 rfl) ?_
  obtain ⟨a11, e12, hf⟩ := x_b hf
  refine x_get (C := "WallDampModel") (F := F_Mod) (N := 51) hx hb hts i_Mod hown hK hH hT8 (by decide) rfl 23 (by decide) (hts _ m_816) (fun _ h9 => h9) (kd := (2, 87)) rfl (x_fr e12) d_Mod_flow_386 ?_
  refine lv_iload_n hx hb d_Mod_flow_389 rfl (lv_at hl 1 rfl) ?_
  obtain ⟨_, e13, hf⟩ := x_b hf
  obtain ⟨n14, hT15, hi16⟩ := x_ix_e e13
  refine x_iald hx hb hK hH hT15 0 rfl hi16 d_Mod_flow_390 ?_
  refine lv_i2l (v := (x_A w4 a11 l1.toNatClampNeg).toInt64) hx hb d_Mod_flow_391 rfl ?_
  refine lv_aload_n hx hb d_Mod_flow_392 rfl (lv_at hl 0 rfl) ?_
  obtain ⟨a17, e18, hf⟩ := x_b hf
  refine x_get (C := "WallDampModel") (F := F_Mod) (N := 51) hx hb hts i_Mod hown hK hH hT8 (by decide) rfl 6 (by decide) (hts _ m_799) (fun _ h9 => h9) (kd := (2, 70)) rfl (x_fr e18) d_Mod_flow_393 ?_
  refine lv_aload_n hx hb d_Mod_flow_396 rfl (lv_at hl 0 rfl) ?_
  obtain ⟨a19, e20, hf⟩ := x_b hf
  refine x_get (C := "WallDampModel") (F := F_Mod) (N := 51) hx hb hts i_Mod hown hK hH hT8 (by decide) rfl 8 (by decide) (hts _ m_801) (fun _ h9 => h9) (kd := (2, 72)) rfl (x_fr e20) d_Mod_flow_397 ?_
  refine lv_iconst (v := 0) hx hb d_Mod_flow_400 (by decide) ?_
  obtain ⟨_, e21, hf⟩ := x_b hf
  obtain ⟨n22, hT23, hi24⟩ := x_ix_e e21
  refine x_iald hx hb hK hH hT23 0 rfl hi24 d_Mod_flow_401 ?_
  obtain ⟨_, e25, hf⟩ := x_b hf
  obtain ⟨n26, hT27, hi28⟩ := x_ix_e e25
  refine x_iald hx hb hK hH hT27 0 rfl hi28 d_Mod_flow_402 ?_
  refine lv_i2l (v := (x_A w4 a17 (x_A w4 a19 (0 : Int32).toNatClampNeg).toNatClampNeg).toInt64) hx hb d_Mod_flow_403 rfl ?_
  refine lv_lmul hx hb d_Mod_flow_404 ?_
  refine lv_ldc2 (v := (100 : Int64)) hx hb hown (hts _ m_1052) d_Mod_flow_405 ?_
  refine lv_ldiv hx hb d_Mod_flow_408 (by decide) ?_
  obtain ⟨_, e29, hf⟩ := x_b hf
  obtain ⟨n30, hT31, hi32⟩ := x_ix_e e29
  refine x_last hx hb hK hH hS hT31 1 rfl hi32 d_Mod_flow_409 (fun H locs hH hS => ?_)
  obtain ⟨w33, e34, hf⟩ := x_b hf
  have hH := x_nw e34 hH
  refine lv_aload_n hx hb d_Mod_flow_410 rfl (lv_at hl 0 rfl) ?_
  refine lv_aload_n hx hb d_Mod_flow_411 rfl (lv_at hl 0 rfl) ?_
  obtain ⟨a35, e36, hf⟩ := x_b hf
  refine x_get (C := "WallDampModel") (F := F_Mod) (N := 51) hx hb hts i_Mod hown hK hH hT8 (by decide) rfl 25 (by decide) (hts _ m_818) (fun _ h9 => h9) (kd := (2, 89)) rfl (x_fr e36) d_Mod_flow_412 ?_
  refine lv_iload_n hx hb d_Mod_flow_415 rfl (lv_at hl 1 rfl) ?_
  obtain ⟨_, e37, hf⟩ := x_b hf
  obtain ⟨n38, hT39, hi40⟩ := x_ix_e e37
  refine x_iald hx hb hK hH hT39 0 rfl hi40 d_Mod_flow_416 ?_
  obtain ⟨q41, e42, hf⟩ := x_b hf
  refine x_callP (st1 := [.int q41]) (x_runV (As := [.int (x_A w33 a35 l1.toNatClampNeg)]) (rest := []) ⟨hx, hb, hml, hown, hts⟩ (c_Mod_fullAt l D aC ad T nx H.size w33 l0 (x_A w33 a35 l1.toNatClampNeg) q41 e42) (cwV 1 hts (x_gV m_990 m_992 ms_17 m_13 m_993) rfl rfl rfl ⟨rfl, pd_Mod_fullAt⟩ ⟨Nat.le_of_ble_eq_true rfl, Nat.le_of_ble_eq_true rfl⟩) hH hK hX hT8 (by decide) rfl rfl rfl hl.1 rfl (lv_room (Nat.le_of_ble_eq_true rfl)) d_Mod_flow_417 ⟨Nat.zero_le _, Nat.zero_le _⟩) rfl ?_
  refine lv_i2l (v := q41.toInt64) hx hb d_Mod_flow_420 rfl ?_
  refine lv_aload_n hx hb d_Mod_flow_421 rfl (lv_at hl 0 rfl) ?_
  obtain ⟨a43, e44, hf⟩ := x_b hf
  refine x_get (C := "WallDampModel") (F := F_Mod) (N := 51) hx hb hts i_Mod hown hK hH hT8 (by decide) rfl 26 (by decide) (hts _ m_819) (fun _ h9 => h9) (kd := (2, 90)) rfl (x_fr e44) d_Mod_flow_422 ?_
  refine lv_iload_n hx hb d_Mod_flow_425 rfl (lv_at hl 1 rfl) ?_
  obtain ⟨_, e45, hf⟩ := x_b hf
  obtain ⟨n46, hT47, hi48⟩ := x_ix_e e45
  refine x_iald hx hb hK hH hT47 0 rfl hi48 d_Mod_flow_426 ?_
  refine lv_i2l (v := (x_A w33 a43 l1.toNatClampNeg).toInt64) hx hb d_Mod_flow_427 rfl ?_
  obtain ⟨q49, e50, hf⟩ := x_b hf
  refine x_callP (st1 := [.long q49]) (x_runS (As := [.long (q41.toInt64), .long ((x_A w33 a43 l1.toNatClampNeg).toInt64)]) (rest := []) ⟨hx, hb, hml, hown, hts⟩ (c_Mod_at l D aC ad T nx H.size w33 (q41.toInt64) ((x_A w33 a43 l1.toNatClampNeg).toInt64) q49 e50) (va_cwS 2 hts (x_gS m_1049 m_1050 m_13 m_1051) rfl rfl rfl pd_Mod_at ⟨Nat.le_of_ble_eq_true rfl, Nat.le_of_ble_eq_true rfl⟩) hH hK hX rfl hl.1 rfl (lv_room (Nat.le_of_ble_eq_true rfl)) d_Mod_flow_428 ⟨Nat.zero_le _, Nat.zero_le _⟩) rfl ?_
  refine lv_lstore (lv' := [(6, .long q49), (0, .ref (ad l0)), (1, .int l1)]) hx hb d_Mod_flow_431 hl (by decide) rfl (fun ls hl => ?_)
  refine lv_aload_n hx hb d_Mod_flow_433 rfl (lv_at hl 1 rfl) ?_
  refine x_get (C := "WallDampModel") (F := F_Mod) (N := 51) hx hb hts i_Mod hown hK hH hT8 (by decide) rfl 1 (by decide) (hts _ m_794) (fun _ h9 => h9) (kd := (0, 65)) rfl rfl d_Mod_flow_434 ?_
  refine lv_iconst (v := 1) hx hb d_Mod_flow_437 (by decide) ?_
  refine lv_isub hx hb d_Mod_flow_438 ?_
  obtain ⟨v51, e52, hf⟩ := x_b hf
  refine x_nmi e52 ?_
  refine lv_istore (lv' := [(8, .int v51), (6, .long q49), (0, .ref (ad l0)), (1, .int l1)]) hx hb d_Mod_flow_439 hl (by decide) rfl (fun ls hl => ?_)
  refine lv_lload hx hb d_Mod_flow_441 (lv_at hl 1 rfl) ?_
  refine lv_aload_n hx hb d_Mod_flow_443 rfl (lv_at hl 2 rfl) ?_
  obtain ⟨a53, e54, hf⟩ := x_b hf
  refine x_get (C := "WallDampModel") (F := F_Mod) (N := 51) hx hb hts i_Mod hown hK hH hT8 (by decide) rfl 39 (by decide) (hts _ m_832) (fun _ h9 => h9) (kd := (2, 103)) rfl (x_fr e54) d_Mod_flow_444 ?_
  refine lv_iload hx hb d_Mod_flow_447 (lv_at hl 0 rfl) ?_
  obtain ⟨_, e55, hf⟩ := x_b hf
  obtain ⟨n56, hT57, hi58⟩ := x_ix_e e55
  refine x_lald hx hb hK hH hT57 1 rfl hi58 d_Mod_flow_449 ?_
  refine lv_lsub hx hb d_Mod_flow_450 ?_
  refine lv_aload_n hx hb d_Mod_flow_451 rfl (lv_at hl 2 rfl) ?_
  obtain ⟨a59, e60, hf⟩ := x_b hf
  refine x_get (C := "WallDampModel") (F := F_Mod) (N := 51) hx hb hts i_Mod hown hK hH hT8 (by decide) rfl 5 (by decide) (hts _ m_798) (fun _ h9 => h9) (kd := (2, 69)) rfl (x_fr e60) d_Mod_flow_452 ?_
  refine lv_aload_n hx hb d_Mod_flow_455 rfl (lv_at hl 2 rfl) ?_
  obtain ⟨a61, e62, hf⟩ := x_b hf
  refine x_get (C := "WallDampModel") (F := F_Mod) (N := 51) hx hb hts i_Mod hown hK hH hT8 (by decide) rfl 8 (by decide) (hts _ m_801) (fun _ h9 => h9) (kd := (2, 72)) rfl (x_fr e62) d_Mod_flow_456 ?_
  refine lv_iload hx hb d_Mod_flow_459 (lv_at hl 0 rfl) ?_
  obtain ⟨_, e63, hf⟩ := x_b hf
  obtain ⟨n64, hT65, hi66⟩ := x_ix_e e63
  refine x_iald hx hb hK hH hT65 0 rfl hi66 d_Mod_flow_461 ?_
  obtain ⟨_, e67, hf⟩ := x_b hf
  obtain ⟨n68, hT69, hi70⟩ := x_ix_e e67
  refine x_iald hx hb hK hH hT69 0 rfl hi70 d_Mod_flow_462 ?_
  refine lv_i2l (v := (x_A w33 a59 (x_A w33 a61 v51.toNatClampNeg).toNatClampNeg).toInt64) hx hb d_Mod_flow_463 rfl ?_
  refine lv_lmul hx hb d_Mod_flow_464 ?_
  refine lv_ldc2 (v := (1000 : Int64)) hx hb hown (hts _ m_971) d_Mod_flow_465 ?_
  refine lv_ldiv hx hb d_Mod_flow_468 (by decide) ?_
  obtain ⟨v71, e72, hf⟩ := x_b hf
  refine x_nml e72 ?_
  refine lv_lstore (lv' := [(9, .long v71), (8, .int v51), (6, .long q49), (0, .ref (ad l0)), (1, .int l1)]) hx hb d_Mod_flow_469 hl (by decide) rfl (fun ls hl => ?_)
  refine lv_aload_n hx hb d_Mod_flow_471 rfl (lv_at hl 3 rfl) ?_
  obtain ⟨a73, e74, hf⟩ := x_b hf
  refine x_get (C := "WallDampModel") (F := F_Mod) (N := 51) hx hb hts i_Mod hown hK hH hT8 (by decide) rfl 41 (by decide) (hts _ m_834) (fun _ h9 => h9) (kd := (2, 105)) rfl (x_fr e74) d_Mod_flow_472 ?_
  refine lv_bipush (v := 6) hx hb d_Mod_flow_475 (by decide) ?_
  refine lv_iload hx hb d_Mod_flow_477 (lv_at hl 1 rfl) ?_
  refine lv_imul hx hb d_Mod_flow_479 ?_
  refine lv_iconst (v := 4) hx hb d_Mod_flow_480 (by decide) ?_
  refine lv_iadd hx hb d_Mod_flow_481 ?_
  refine lv_lload hx hb d_Mod_flow_482 (lv_at hl 0 rfl) ?_
  refine lv_lconst (v := 0) hx hb d_Mod_flow_484 (by decide) ?_
  refine W.lcmp hx hb d_Mod_flow_485 ?_
  refine lv_if_le (tgt := 494) hx hb d_Mod_flow_486 (by decide) (fun c75 => ?_) (fun c75 => ?_)
  · have hf := x_it hf c75
    refine lv_lconst (v := 0) hx hb d_Mod_flow_494 (by decide) ?_
    exact k_Mod_flow_495 C0 w33 _ _ _ l0 q49 v71 a73 (((6 : Int32) * v51) + (4 : Int32)) (0 : Int64) hf hH hS (lv_sub hl [3, 2, 0] rfl)
  · have hf := x_if hf c75
    refine lv_lload hx hb d_Mod_flow_489 (lv_at hl 0 rfl) ?_
    refine lv_goto (tgt := 495) hx hb d_Mod_flow_491 (by decide) ?_
    exact k_Mod_flow_495 C0 w33 _ _ _ l0 q49 v71 a73 (((6 : Int32) * v51) + (4 : Int32)) v71 hf hH hS (lv_sub hl [3, 2, 0] rfl)
set_option maxHeartbeats 4000000 in
set_option maxRecDepth 100000 in
theorem k_Mod_flow_361 {p : Program} {l : Launch} {e : Env} {s : State} {m : MethodId} {args : Array Value} {below : List Frame} {meth : Method} {c : Code} {D : va_G} {aC : Nat → ClassId} {ad : Nat → Nat} {T : x_T} {nx : Nat} {A : Nat → Prop} {q : x_W} (C0 : x_At p s m meth c args "WallDampModel" b_Mod_flow none 12 D aC A) : ∀ (w : x_W) (H : Heap) (locs : List Loc) (ls : Array Slot) (l0 : Nat) (l1 : Int32) (l4 : Int64) (t0 : Nat) (t1 : Int32) (t2 : Int64), f_Mod_flow_361 T w l0 l1 l4 t0 t1 t2 = some q → x_H D x_cl x_FT aC ad T nx A w H → va_S A s.heap H locs → lv_has ls 12 [(0, .ref (ad l0)), (1, .int l1), (4, .long l4)] → W p l e { frames := 1, cells := 0, slots := 0, locals := 24 } s m args below meth c H locs 0 0 (MQ below (x_Qc D aC ad T nx none q A) args s 0 0 A) (F0 m 361 ls [.long t2, .int t1, .ref (ad t0)]) := by
  obtain ⟨hx, hb, hr, hml, hown, hts, hlocks, hK, hA, hX⟩ := id C0
  intro w H locs ls l0 l1 l4 t0 t1 t2 hf hH hS hl
  unfold f_Mod_flow_361 at hf
  obtain ⟨_, e1, hf⟩ := x_b hf
  obtain ⟨n2, hT3, hi4⟩ := x_ix_e e1
  refine x_last hx hb hK hH hS hT3 1 rfl hi4 d_Mod_flow_361 (fun H locs hH hS => ?_)
  obtain ⟨w5, e6, hf⟩ := x_b hf
  have hH := x_nw e6 hH
  refine lv_aload_n hx hb d_Mod_flow_362 rfl (lv_at hl 0 rfl) ?_
  refine lv_lload hx hb d_Mod_flow_363 (lv_at hl 2 rfl) ?_
  refine lv_lconst (v := 0) hx hb d_Mod_flow_365 (by decide) ?_
  refine W.lcmp hx hb d_Mod_flow_366 ?_
  refine lv_if_ge (tgt := 376) hx hb d_Mod_flow_367 (by decide) (fun c7 => ?_) (fun c7 => ?_)
  · have hf := x_it hf c7
    refine lv_lconst (v := 0) hx hb d_Mod_flow_376 (by decide) ?_
    exact k_Mod_flow_377 C0 w5 _ _ _ l0 l1 l0 (0 : Int64) hf hH hS (lv_sub hl [0, 1] rfl)
  · have hf := x_if hf c7
    refine lv_lload hx hb d_Mod_flow_370 (lv_at hl 2 rfl) ?_
    refine lv_lneg hx hb d_Mod_flow_372 ?_
    refine lv_goto (tgt := 377) hx hb d_Mod_flow_373 (by decide) ?_
    exact k_Mod_flow_377 C0 w5 _ _ _ l0 l1 l0 (-l4) hf hH hS (lv_sub hl [0, 1] rfl)
set_option maxHeartbeats 4000000 in
set_option maxRecDepth 100000 in
theorem k_Mod_flow_280 {p : Program} {l : Launch} {e : Env} {s : State} {m : MethodId} {args : Array Value} {below : List Frame} {meth : Method} {c : Code} {D : va_G} {aC : Nat → ClassId} {ad : Nat → Nat} {T : x_T} {nx : Nat} {A : Nat → Prop} {q : x_W} (C0 : x_At p s m meth c args "WallDampModel" b_Mod_flow none 12 D aC A) {K82 : x_W → Nat → Int32 → Int32 → Option (x_W)} (hK82 : ∀ (w : x_W) (H : Heap) (locs : List Loc) (ls : Array Slot) (l0 : Nat) (l1 : Int32) (l2 : Int32), K82 w l0 l1 l2 = some q → x_H D x_cl x_FT aC ad T nx A w H → va_S A s.heap H locs → lv_has ls 12 [(0, .ref (ad l0)), (1, .int l1), (2, .int l2)] → W p l e { frames := 1, cells := 0, slots := 0, locals := 24 } s m args below meth c H locs 0 0 (MQ below (x_Qc D aC ad T nx none q A) args s 0 0 A) (F0 m 82 ls [])) : ∀ (w : x_W) (H : Heap) (locs : List Loc) (ls : Array Slot) (l0 : Nat) (l1 : Int32) (l2 : Int32) (t0 : Nat) (t1 : Int32) (t2 : Int64), f_Mod_flow_280 T K82 w l0 l1 l2 t0 t1 t2 = some q → x_H D x_cl x_FT aC ad T nx A w H → va_S A s.heap H locs → lv_has ls 12 [(0, .ref (ad l0)), (1, .int l1), (2, .int l2)] → W p l e { frames := 1, cells := 0, slots := 0, locals := 24 } s m args below meth c H locs 0 0 (MQ below (x_Qc D aC ad T nx none q A) args s 0 0 A) (F0 m 280 ls [.long t2, .int t1, .ref (ad t0)]) := by
  obtain ⟨hx, hb, hr, hml, hown, hts, hlocks, hK, hA, hX⟩ := id C0
  intro w H locs ls l0 l1 l2 t0 t1 t2 hf hH hS hl
  unfold f_Mod_flow_280 at hf
  obtain ⟨_, e1, hf⟩ := x_b hf
  obtain ⟨n2, hT3, hi4⟩ := x_ix_e e1
  refine x_last hx hb hK hH hS hT3 1 rfl hi4 d_Mod_flow_280 (fun H locs hH hS => ?_)
  obtain ⟨w5, e6, hf⟩ := x_b hf
  have hH := x_nw e6 hH
  refine lv_iinc (v := (l2 + 1)) (lv' := [(2, .int (l2 + 1)), (0, .ref (ad l0)), (1, .int l1)]) hx hb d_Mod_flow_281 hl (k := 2) rfl rfl (by decide) rfl (fun ls hl => ?_)
  refine lv_goto (tgt := 82) hx hb d_Mod_flow_284 (by decide) ?_
  exact hK82 w5 _ _ _ l0 l1 (l2 + 1) hf hH hS (lv_sub hl [1, 2, 0] rfl)
set_option maxHeartbeats 4000000 in
set_option maxRecDepth 100000 in
theorem k_Mod_flow_249 {p : Program} {l : Launch} {e : Env} {s : State} {m : MethodId} {args : Array Value} {below : List Frame} {meth : Method} {c : Code} {D : va_G} {aC : Nat → ClassId} {ad : Nat → Nat} {T : x_T} {nx : Nat} {A : Nat → Prop} {q : x_W} (C0 : x_At p s m meth c args "WallDampModel" b_Mod_flow none 12 D aC A) {K82 : x_W → Nat → Int32 → Int32 → Option (x_W)} (hK82 : ∀ (w : x_W) (H : Heap) (locs : List Loc) (ls : Array Slot) (l0 : Nat) (l1 : Int32) (l2 : Int32), K82 w l0 l1 l2 = some q → x_H D x_cl x_FT aC ad T nx A w H → va_S A s.heap H locs → lv_has ls 12 [(0, .ref (ad l0)), (1, .int l1), (2, .int l2)] → W p l e { frames := 1, cells := 0, slots := 0, locals := 24 } s m args below meth c H locs 0 0 (MQ below (x_Qc D aC ad T nx none q A) args s 0 0 A) (F0 m 82 ls [])) : ∀ (w : x_W) (H : Heap) (locs : List Loc) (ls : Array Slot) (l0 : Nat) (l1 : Int32) (l2 : Int32) (l5 : Int64) (l7 : Int64) (t0 : Nat) (t1 : Int32) (t2 : Int64), f_Mod_flow_249 T K82 w l0 l1 l2 l5 l7 t0 t1 t2 = some q → x_H D x_cl x_FT aC ad T nx A w H → va_S A s.heap H locs → lv_has ls 12 [(0, .ref (ad l0)), (1, .int l1), (2, .int l2), (5, .long l5), (7, .long l7)] → W p l e { frames := 1, cells := 0, slots := 0, locals := 24 } s m args below meth c H locs 0 0 (MQ below (x_Qc D aC ad T nx none q A) args s 0 0 A) (F0 m 249 ls [.long t2, .int t1, .ref (ad t0)]) := by
  obtain ⟨hx, hb, hr, hml, hown, hts, hlocks, hK, hA, hX⟩ := id C0
  intro w H locs ls l0 l1 l2 l5 l7 t0 t1 t2 hf hH hS hl
  unfold f_Mod_flow_249 at hf
  obtain ⟨_, e1, hf⟩ := x_b hf
  obtain ⟨n2, hT3, hi4⟩ := x_ix_e e1
  refine x_last hx hb hK hH hS hT3 1 rfl hi4 d_Mod_flow_249 (fun H locs hH hS => ?_)
  obtain ⟨w5, e6, hf⟩ := x_b hf
  have hH := x_nw e6 hH
  refine lv_aload_n hx hb d_Mod_flow_250 rfl (lv_at hl 0 rfl) ?_
  obtain ⟨_, e7, hf⟩ := x_b hf
  obtain ⟨n8, hT9⟩ := x_is_e e7
  obtain ⟨a10, e11, hf⟩ := x_b hf
  refine x_get (C := "WallDampModel") (F := F_Mod) (N := 51) hx hb hts i_Mod hown hK hH hT9 (by decide) rfl 41 (by decide) (hts _ m_834) (fun _ h9 => h9) (kd := (2, 105)) rfl (x_fr e11) d_Mod_flow_251 ?_
  refine lv_bipush (v := 6) hx hb d_Mod_flow_254 (by decide) ?_
  refine lv_iload_n hx hb d_Mod_flow_256 rfl (lv_at hl 2 rfl) ?_
  refine lv_imul hx hb d_Mod_flow_257 ?_
  refine lv_iconst (v := 1) hx hb d_Mod_flow_258 (by decide) ?_
  refine lv_iadd hx hb d_Mod_flow_259 ?_
  refine lv_lload hx hb d_Mod_flow_260 (lv_at hl 3 rfl) ?_
  refine lv_lload hx hb d_Mod_flow_262 (lv_at hl 4 rfl) ?_
  refine lv_ladd hx hb d_Mod_flow_264 ?_
  refine lv_lconst (v := 0) hx hb d_Mod_flow_265 (by decide) ?_
  refine W.lcmp hx hb d_Mod_flow_266 ?_
  refine lv_if_ge (tgt := 279) hx hb d_Mod_flow_267 (by decide) (fun c12 => ?_) (fun c12 => ?_)
  · have hf := x_it hf c12
    refine lv_lconst (v := 0) hx hb d_Mod_flow_279 (by decide) ?_
    exact k_Mod_flow_280 C0 hK82 w5 _ _ _ l0 l1 l2 a10 (((6 : Int32) * l2) + (1 : Int32)) (0 : Int64) hf hH hS (lv_sub hl [0, 1, 2] rfl)
  · have hf := x_if hf c12
    refine lv_lload hx hb d_Mod_flow_270 (lv_at hl 3 rfl) ?_
    refine lv_lneg hx hb d_Mod_flow_272 ?_
    refine lv_lload hx hb d_Mod_flow_273 (lv_at hl 4 rfl) ?_
    refine lv_lsub hx hb d_Mod_flow_275 ?_
    refine lv_goto (tgt := 280) hx hb d_Mod_flow_276 (by decide) ?_
    exact k_Mod_flow_280 C0 hK82 w5 _ _ _ l0 l1 l2 a10 (((6 : Int32) * l2) + (1 : Int32)) ((-l5) - l7) hf hH hS (lv_sub hl [0, 1, 2] rfl)
set_option maxHeartbeats 4000000 in
set_option maxRecDepth 100000 in
theorem k_Mod_flow_212 {p : Program} {l : Launch} {e : Env} {s : State} {m : MethodId} {args : Array Value} {below : List Frame} {meth : Method} {c : Code} {D : va_G} {aC : Nat → ClassId} {ad : Nat → Nat} {T : x_T} {nx : Nat} {A : Nat → Prop} {q : x_W} (C0 : x_At p s m meth c args "WallDampModel" b_Mod_flow none 12 D aC A) {K82 : x_W → Nat → Int32 → Int32 → Option (x_W)} (hK82 : ∀ (w : x_W) (H : Heap) (locs : List Loc) (ls : Array Slot) (l0 : Nat) (l1 : Int32) (l2 : Int32), K82 w l0 l1 l2 = some q → x_H D x_cl x_FT aC ad T nx A w H → va_S A s.heap H locs → lv_has ls 12 [(0, .ref (ad l0)), (1, .int l1), (2, .int l2)] → W p l e { frames := 1, cells := 0, slots := 0, locals := 24 } s m args below meth c H locs 0 0 (MQ below (x_Qc D aC ad T nx none q A) args s 0 0 A) (F0 m 82 ls [])) : ∀ (w : x_W) (H : Heap) (locs : List Loc) (ls : Array Slot) (l0 : Nat) (l1 : Int32) (l2 : Int32) (l5 : Int64) (t0 : Int64) (t1 : Int32), f_Mod_flow_212 T K82 w l0 l1 l2 l5 t0 t1 = some q → x_H D x_cl x_FT aC ad T nx A w H → va_S A s.heap H locs → lv_has ls 12 [(0, .ref (ad l0)), (1, .int l1), (2, .int l2), (5, .long l5)] → W p l e { frames := 1, cells := 0, slots := 0, locals := 24 } s m args below meth c H locs 0 0 (MQ below (x_Qc D aC ad T nx none q A) args s 0 0 A) (F0 m 212 ls [.int t1, .long t0]) := by
  obtain ⟨hx, hb, hr, hml, hown, hts, hlocks, hK, hA, hX⟩ := id C0
  intro w H locs ls l0 l1 l2 l5 t0 t1 hf hH hS hl
  unfold f_Mod_flow_212 at hf
  refine lv_i2l (v := t1.toInt64) hx hb d_Mod_flow_212 rfl ?_
  refine lv_lmul hx hb d_Mod_flow_213 ?_
  refine lv_ldc2 (v := (1000 : Int64)) hx hb hown (hts _ m_971) d_Mod_flow_214 ?_
  refine lv_ldiv hx hb d_Mod_flow_217 (by decide) ?_
  obtain ⟨v1, e2, hf⟩ := x_b hf
  refine x_nml e2 ?_
  refine lv_lstore (lv' := [(7, .long v1), (0, .ref (ad l0)), (1, .int l1), (2, .int l2), (5, .long l5)]) hx hb d_Mod_flow_218 hl (by decide) rfl (fun ls hl => ?_)
  refine lv_aload_n hx hb d_Mod_flow_220 rfl (lv_at hl 1 rfl) ?_
  obtain ⟨_, e3, hf⟩ := x_b hf
  obtain ⟨n4, hT5⟩ := x_is_e e3
  obtain ⟨a6, e7, hf⟩ := x_b hf
  refine x_get (C := "WallDampModel") (F := F_Mod) (N := 51) hx hb hts i_Mod hown hK hH hT5 (by decide) rfl 41 (by decide) (hts _ m_834) (fun _ h9 => h9) (kd := (2, 105)) rfl (x_fr e7) d_Mod_flow_221 ?_
  refine lv_bipush (v := 6) hx hb d_Mod_flow_224 (by decide) ?_
  refine lv_iload_n hx hb d_Mod_flow_226 rfl (lv_at hl 3 rfl) ?_
  refine lv_iconst (v := 1) hx hb d_Mod_flow_227 (by decide) ?_
  refine lv_iadd hx hb d_Mod_flow_228 ?_
  refine lv_imul hx hb d_Mod_flow_229 ?_
  refine lv_lload hx hb d_Mod_flow_230 (lv_at hl 4 rfl) ?_
  refine lv_lload hx hb d_Mod_flow_232 (lv_at hl 0 rfl) ?_
  refine lv_ladd hx hb d_Mod_flow_234 ?_
  refine lv_lconst (v := 0) hx hb d_Mod_flow_235 (by decide) ?_
  refine W.lcmp hx hb d_Mod_flow_236 ?_
  refine lv_if_le (tgt := 248) hx hb d_Mod_flow_237 (by decide) (fun c8 => ?_) (fun c8 => ?_)
  · have hf := x_it hf c8
    refine lv_lconst (v := 0) hx hb d_Mod_flow_248 (by decide) ?_
    exact k_Mod_flow_249 C0 hK82 w _ _ _ l0 l1 l2 l5 v1 a6 ((6 : Int32) * (l2 + (1 : Int32))) (0 : Int64) hf hH hS (lv_sub hl [1, 2, 3, 4, 0] rfl)
  · have hf := x_if hf c8
    refine lv_lload hx hb d_Mod_flow_240 (lv_at hl 4 rfl) ?_
    refine lv_lload hx hb d_Mod_flow_242 (lv_at hl 0 rfl) ?_
    refine lv_ladd hx hb d_Mod_flow_244 ?_
    refine lv_goto (tgt := 249) hx hb d_Mod_flow_245 (by decide) ?_
    exact k_Mod_flow_249 C0 hK82 w _ _ _ l0 l1 l2 l5 v1 a6 ((6 : Int32) * (l2 + (1 : Int32))) (l5 + v1) hf hH hS (lv_sub hl [1, 2, 3, 4, 0] rfl)
set_option maxHeartbeats 4000000 in
set_option maxRecDepth 100000 in
theorem k_Mod_flow_156 {p : Program} {l : Launch} {e : Env} {s : State} {m : MethodId} {args : Array Value} {below : List Frame} {meth : Method} {c : Code} {D : va_G} {aC : Nat → ClassId} {ad : Nat → Nat} {T : x_T} {nx : Nat} {A : Nat → Prop} {q : x_W} (C0 : x_At p s m meth c args "WallDampModel" b_Mod_flow none 12 D aC A) {K82 : x_W → Nat → Int32 → Int32 → Option (x_W)} (hK82 : ∀ (w : x_W) (H : Heap) (locs : List Loc) (ls : Array Slot) (l0 : Nat) (l1 : Int32) (l2 : Int32), K82 w l0 l1 l2 = some q → x_H D x_cl x_FT aC ad T nx A w H → va_S A s.heap H locs → lv_has ls 12 [(0, .ref (ad l0)), (1, .int l1), (2, .int l2)] → W p l e { frames := 1, cells := 0, slots := 0, locals := 24 } s m args below meth c H locs 0 0 (MQ below (x_Qc D aC ad T nx none q A) args s 0 0 A) (F0 m 82 ls [])) : ∀ (w : x_W) (H : Heap) (locs : List Loc) (ls : Array Slot) (l0 : Nat) (l1 : Int32) (l2 : Int32) (l3 : Int32) (l4 : Int32) (t0 : Int64) (t1 : Int32), f_Mod_flow_156 T K82 w l0 l1 l2 l3 l4 t0 t1 = some q → x_H D x_cl x_FT aC ad T nx A w H → va_S A s.heap H locs → lv_has ls 12 [(0, .ref (ad l0)), (1, .int l1), (2, .int l2), (3, .int l3), (4, .int l4)] → W p l e { frames := 1, cells := 0, slots := 0, locals := 24 } s m args below meth c H locs 0 0 (MQ below (x_Qc D aC ad T nx none q A) args s 0 0 A) (F0 m 156 ls [.int t1, .long t0]) := by
  obtain ⟨hx, hb, hr, hml, hown, hts, hlocks, hK, hA, hX⟩ := id C0
  intro w H locs ls l0 l1 l2 l3 l4 t0 t1 hf hH hS hl
  unfold f_Mod_flow_156 at hf
  refine lv_i2l (v := t1.toInt64) hx hb d_Mod_flow_156 rfl ?_
  refine lv_lmul hx hb d_Mod_flow_157 ?_
  refine lv_ldc2 (v := (1000 : Int64)) hx hb hown (hts _ m_971) d_Mod_flow_158 ?_
  refine lv_ldiv hx hb d_Mod_flow_161 (by decide) ?_
  obtain ⟨v1, e2, hf⟩ := x_b hf
  refine x_nml e2 ?_
  refine lv_lstore (lv' := [(5, .long v1), (0, .ref (ad l0)), (1, .int l1), (2, .int l2), (3, .int l3), (4, .int l4)]) hx hb d_Mod_flow_162 hl (by decide) rfl (fun ls hl => ?_)
  refine lv_aload_n hx hb d_Mod_flow_164 rfl (lv_at hl 1 rfl) ?_
  obtain ⟨_, e3, hf⟩ := x_b hf
  obtain ⟨n4, hT5⟩ := x_is_e e3
  obtain ⟨a6, e7, hf⟩ := x_b hf
  refine x_get (C := "WallDampModel") (F := F_Mod) (N := 51) hx hb hts i_Mod hown hK hH hT5 (by decide) rfl 40 (by decide) (hts _ m_833) (fun _ h9 => h9) (kd := (2, 104)) rfl (x_fr e7) d_Mod_flow_165 ?_
  refine lv_iload_n hx hb d_Mod_flow_168 rfl (lv_at hl 3 rfl) ?_
  obtain ⟨_, e8, hf⟩ := x_b hf
  obtain ⟨n9, hT10, hi11⟩ := x_ix_e e8
  refine x_iald hx hb hK hH hT10 0 rfl hi11 d_Mod_flow_169 ?_
  refine lv_aload_n hx hb d_Mod_flow_170 rfl (lv_at hl 1 rfl) ?_
  obtain ⟨a12, e13, hf⟩ := x_b hf
  refine x_get (C := "WallDampModel") (F := F_Mod) (N := 51) hx hb hts i_Mod hown hK hH hT5 (by decide) rfl 40 (by decide) (hts _ m_833) (fun _ h9 => h9) (kd := (2, 104)) rfl (x_fr e13) d_Mod_flow_171 ?_
  refine lv_iload_n hx hb d_Mod_flow_174 rfl (lv_at hl 3 rfl) ?_
  refine lv_iconst (v := 1) hx hb d_Mod_flow_175 (by decide) ?_
  refine lv_iadd hx hb d_Mod_flow_176 ?_
  obtain ⟨_, e14, hf⟩ := x_b hf
  obtain ⟨n15, hT16, hi17⟩ := x_ix_e e14
  refine x_iald hx hb hK hH hT16 0 rfl hi17 d_Mod_flow_177 ?_
  refine lv_isub hx hb d_Mod_flow_178 ?_
  refine lv_i2l (v := ((x_A w a6 l2.toNatClampNeg) - (x_A w a12 (l2 + (1 : Int32)).toNatClampNeg)).toInt64) hx hb d_Mod_flow_179 rfl ?_
  refine lv_aload_n hx hb d_Mod_flow_180 rfl (lv_at hl 1 rfl) ?_
  obtain ⟨a18, e19, hf⟩ := x_b hf
  refine x_get (C := "WallDampModel") (F := F_Mod) (N := 51) hx hb hts i_Mod hown hK hH hT5 (by decide) rfl 6 (by decide) (hts _ m_799) (fun _ h9 => h9) (kd := (2, 70)) rfl (x_fr e19) d_Mod_flow_181 ?_
  refine lv_iload_n hx hb d_Mod_flow_184 rfl (lv_at hl 4 rfl) ?_
  obtain ⟨_, e20, hf⟩ := x_b hf
  obtain ⟨n21, hT22, hi23⟩ := x_ix_e e20
  refine x_iald hx hb hK hH hT22 0 rfl hi23 d_Mod_flow_185 ?_
  refine lv_aload_n hx hb d_Mod_flow_186 rfl (lv_at hl 1 rfl) ?_
  obtain ⟨a24, e25, hf⟩ := x_b hf
  refine x_get (C := "WallDampModel") (F := F_Mod) (N := 51) hx hb hts i_Mod hown hK hH hT5 (by decide) rfl 6 (by decide) (hts _ m_799) (fun _ h9 => h9) (kd := (2, 70)) rfl (x_fr e25) d_Mod_flow_187 ?_
  refine lv_iload hx hb d_Mod_flow_190 (lv_at hl 5 rfl) ?_
  obtain ⟨_, e26, hf⟩ := x_b hf
  obtain ⟨n27, hT28, hi29⟩ := x_ix_e e26
  refine x_iald hx hb hK hH hT28 0 rfl hi29 d_Mod_flow_192 ?_
  refine lv_icmp_ge (tgt := 205) hx hb d_Mod_flow_193 (by decide) (fun c30 => ?_) (fun c30 => ?_)
  · have hf := x_it hf c30
    refine lv_aload_n hx hb d_Mod_flow_205 rfl (lv_at hl 1 rfl) ?_
    obtain ⟨a31, e32, hf⟩ := x_b hf
    refine x_get (C := "WallDampModel") (F := F_Mod) (N := 51) hx hb hts i_Mod hown hK hH hT5 (by decide) rfl 6 (by decide) (hts _ m_799) (fun _ h9 => h9) (kd := (2, 70)) rfl (x_fr e32) d_Mod_flow_206 ?_
    refine lv_iload hx hb d_Mod_flow_209 (lv_at hl 5 rfl) ?_
    obtain ⟨_, e33, hf⟩ := x_b hf
    obtain ⟨n34, hT35, hi36⟩ := x_ix_e e33
    refine x_iald hx hb hK hH hT35 0 rfl hi36 d_Mod_flow_211 ?_
    exact k_Mod_flow_212 C0 hK82 w _ _ _ l0 l1 l2 v1 (((x_A w a6 l2.toNatClampNeg) - (x_A w a12 (l2 + (1 : Int32)).toNatClampNeg)).toInt64) (x_A w a31 l4.toNatClampNeg) hf hH hS (lv_sub hl [1, 2, 3, 0] rfl)
  · have hf := x_if hf c30
    refine lv_aload_n hx hb d_Mod_flow_196 rfl (lv_at hl 1 rfl) ?_
    obtain ⟨a37, e38, hf⟩ := x_b hf
    refine x_get (C := "WallDampModel") (F := F_Mod) (N := 51) hx hb hts i_Mod hown hK hH hT5 (by decide) rfl 6 (by decide) (hts _ m_799) (fun _ h9 => h9) (kd := (2, 70)) rfl (x_fr e38) d_Mod_flow_197 ?_
    refine lv_iload_n hx hb d_Mod_flow_200 rfl (lv_at hl 4 rfl) ?_
    obtain ⟨_, e39, hf⟩ := x_b hf
    obtain ⟨n40, hT41, hi42⟩ := x_ix_e e39
    refine x_iald hx hb hK hH hT41 0 rfl hi42 d_Mod_flow_201 ?_
    refine lv_goto (tgt := 212) hx hb d_Mod_flow_202 (by decide) ?_
    exact k_Mod_flow_212 C0 hK82 w _ _ _ l0 l1 l2 v1 (((x_A w a6 l2.toNatClampNeg) - (x_A w a12 (l2 + (1 : Int32)).toNatClampNeg)).toInt64) (x_A w a37 l3.toNatClampNeg) hf hH hS (lv_sub hl [1, 2, 3, 0] rfl)
set_option maxHeartbeats 4000000 in
set_option maxRecDepth 100000 in
theorem k_Mod_flow_82 {p : Program} {l : Launch} {e : Env} {s : State} {m : MethodId} {args : Array Value} {below : List Frame} {meth : Method} {c : Code} {D : va_G} {aC : Nat → ClassId} {ad : Nat → Nat} {T : x_T} {nx : Nat} {A : Nat → Prop} {q : x_W} (C0 : x_At p s m meth c args "WallDampModel" b_Mod_flow none 12 D aC A) : ∀ (n : Nat), ∀ (w : x_W) (H : Heap) (locs : List Loc) (ls : Array Slot) (l0 : Nat) (l1 : Int32) (l2 : Int32), f_Mod_flow_82 T n w l0 l1 l2 = some q → x_H D x_cl x_FT aC ad T nx A w H → va_S A s.heap H locs → lv_has ls 12 [(0, .ref (ad l0)), (1, .int l1), (2, .int l2)] → W p l e { frames := 1, cells := 0, slots := 0, locals := 24 } s m args below meth c H locs 0 0 (MQ below (x_Qc D aC ad T nx none q A) args s 0 0 A) (F0 m 82 ls []) := by
  obtain ⟨hx, hb, hr, hml, hown, hts, hlocks, hK, hA, hX⟩ := id C0
  intro n
  induction n with
  | zero => intro w H locs ls l0 l1 l2 hf; cases (show none = some q from hf)
  | succ n ih =>
    intro w H locs ls l0 l1 l2 hf hH hS hl
    unfold f_Mod_flow_82 at hf
    refine lv_iload_n hx hb d_Mod_flow_82 rfl (lv_at hl 2 rfl) ?_
    refine lv_iconst (v := 1) hx hb d_Mod_flow_83 (by decide) ?_
    refine lv_iadd hx hb d_Mod_flow_84 ?_
    refine lv_aload_n hx hb d_Mod_flow_85 rfl (lv_at hl 0 rfl) ?_
    obtain ⟨_, e1, hf⟩ := x_b hf
    obtain ⟨n2, hT3⟩ := x_is_e e1
    refine x_get (C := "WallDampModel") (F := F_Mod) (N := 51) hx hb hts i_Mod hown hK hH hT3 (by decide) rfl 1 (by decide) (hts _ m_794) (fun _ h9 => h9) (kd := (0, 65)) rfl rfl d_Mod_flow_86 ?_
    refine lv_icmp_ge (tgt := 287) hx hb d_Mod_flow_89 (by decide) (fun c4 => ?_) (fun c4 => ?_)
    · have hf := x_it hf c4
      refine lv_aload_n hx hb d_Mod_flow_287 rfl (lv_at hl 0 rfl) ?_
      refine lv_aload_n hx hb d_Mod_flow_288 rfl (lv_at hl 0 rfl) ?_
      obtain ⟨a5, e6, hf⟩ := x_b hf
      refine x_get (C := "WallDampModel") (F := F_Mod) (N := 51) hx hb hts i_Mod hown hK hH hT3 (by decide) rfl 21 (by decide) (hts _ m_814) (fun _ h9 => h9) (kd := (2, 85)) rfl (x_fr e6) d_Mod_flow_289 ?_
      refine lv_iload_n hx hb d_Mod_flow_292 rfl (lv_at hl 1 rfl) ?_
      obtain ⟨_, e7, hf⟩ := x_b hf
      obtain ⟨n8, hT9, hi10⟩ := x_ix_e e7
      refine x_iald hx hb hK hH hT9 0 rfl hi10 d_Mod_flow_293 ?_
      refine lv_aload_n hx hb d_Mod_flow_294 rfl (lv_at hl 0 rfl) ?_
      obtain ⟨a11, e12, hf⟩ := x_b hf
      refine x_get (C := "WallDampModel") (F := F_Mod) (N := 51) hx hb hts i_Mod hown hK hH hT3 (by decide) rfl 24 (by decide) (hts _ m_817) (fun _ h9 => h9) (kd := (2, 88)) rfl (x_fr e12) d_Mod_flow_295 ?_
      refine lv_iload_n hx hb d_Mod_flow_298 rfl (lv_at hl 1 rfl) ?_
      obtain ⟨_, e13, hf⟩ := x_b hf
      obtain ⟨n14, hT15, hi16⟩ := x_ix_e e13
      refine x_iald hx hb hK hH hT15 0 rfl hi16 d_Mod_flow_299 ?_
      refine lv_iadd hx hb d_Mod_flow_300 ?_
      obtain ⟨q17, e18, hf⟩ := x_b hf
      refine x_callP (st1 := [.int q17]) (x_runV (As := [.int ((x_A w a5 l1.toNatClampNeg) + (x_A w a11 l1.toNatClampNeg))]) (rest := []) ⟨hx, hb, hml, hown, hts⟩ (c_Mod_fullAt l D aC ad T nx H.size w l0 ((x_A w a5 l1.toNatClampNeg) + (x_A w a11 l1.toNatClampNeg)) q17 e18) (cwV 1 hts (x_gV m_990 m_992 ms_17 m_13 m_993) rfl rfl rfl ⟨rfl, pd_Mod_fullAt⟩ ⟨Nat.le_of_ble_eq_true rfl, Nat.le_of_ble_eq_true rfl⟩) hH hK hX hT3 (by decide) rfl rfl rfl hl.1 rfl (lv_room (Nat.le_of_ble_eq_true rfl)) d_Mod_flow_301 ⟨Nat.zero_le _, Nat.zero_le _⟩) rfl ?_
      refine lv_i2l (v := q17.toInt64) hx hb d_Mod_flow_304 rfl ?_
      refine lv_aload_n hx hb d_Mod_flow_305 rfl (lv_at hl 0 rfl) ?_
      obtain ⟨a19, e20, hf⟩ := x_b hf
      refine x_get (C := "WallDampModel") (F := F_Mod) (N := 51) hx hb hts i_Mod hown hK hH hT3 (by decide) rfl 22 (by decide) (hts _ m_815) (fun _ h9 => h9) (kd := (2, 86)) rfl (x_fr e20) d_Mod_flow_306 ?_
      refine lv_iload_n hx hb d_Mod_flow_309 rfl (lv_at hl 1 rfl) ?_
      obtain ⟨_, e21, hf⟩ := x_b hf
      obtain ⟨n22, hT23, hi24⟩ := x_ix_e e21
      refine x_iald hx hb hK hH hT23 0 rfl hi24 d_Mod_flow_310 ?_
      refine lv_i2l (v := (x_A w a19 l1.toNatClampNeg).toInt64) hx hb d_Mod_flow_311 rfl ?_
      obtain ⟨q25, e26, hf⟩ := x_b hf
      refine x_callP (st1 := [.long q25]) (x_runS (As := [.long (q17.toInt64), .long ((x_A w a19 l1.toNatClampNeg).toInt64)]) (rest := []) ⟨hx, hb, hml, hown, hts⟩ (c_Mod_at l D aC ad T nx H.size w (q17.toInt64) ((x_A w a19 l1.toNatClampNeg).toInt64) q25 e26) (va_cwS 2 hts (x_gS m_1049 m_1050 m_13 m_1051) rfl rfl rfl pd_Mod_at ⟨Nat.le_of_ble_eq_true rfl, Nat.le_of_ble_eq_true rfl⟩) hH hK hX rfl hl.1 rfl (lv_room (Nat.le_of_ble_eq_true rfl)) d_Mod_flow_312 ⟨Nat.zero_le _, Nat.zero_le _⟩) rfl ?_
      refine lv_lstore_n (lv' := [(2, .long q25), (0, .ref (ad l0)), (1, .int l1)]) hx hb d_Mod_flow_315 rfl hl (by decide) rfl (fun ls hl => ?_)
      refine lv_lload_n hx hb d_Mod_flow_316 rfl (lv_at hl 0 rfl) ?_
      refine lv_aload_n hx hb d_Mod_flow_317 rfl (lv_at hl 1 rfl) ?_
      obtain ⟨a27, e28, hf⟩ := x_b hf
      refine x_get (C := "WallDampModel") (F := F_Mod) (N := 51) hx hb hts i_Mod hown hK hH hT3 (by decide) rfl 39 (by decide) (hts _ m_832) (fun _ h9 => h9) (kd := (2, 103)) rfl (x_fr e28) d_Mod_flow_318 ?_
      refine lv_iconst (v := 0) hx hb d_Mod_flow_321 (by decide) ?_
      obtain ⟨_, e29, hf⟩ := x_b hf
      obtain ⟨n30, hT31, hi32⟩ := x_ix_e e29
      refine x_lald hx hb hK hH hT31 1 rfl hi32 d_Mod_flow_322 ?_
      refine lv_lsub hx hb d_Mod_flow_323 ?_
      refine lv_aload_n hx hb d_Mod_flow_324 rfl (lv_at hl 1 rfl) ?_
      obtain ⟨a33, e34, hf⟩ := x_b hf
      refine x_get (C := "WallDampModel") (F := F_Mod) (N := 51) hx hb hts i_Mod hown hK hH hT3 (by decide) rfl 5 (by decide) (hts _ m_798) (fun _ h9 => h9) (kd := (2, 69)) rfl (x_fr e34) d_Mod_flow_325 ?_
      refine lv_aload_n hx hb d_Mod_flow_328 rfl (lv_at hl 1 rfl) ?_
      obtain ⟨a35, e36, hf⟩ := x_b hf
      refine x_get (C := "WallDampModel") (F := F_Mod) (N := 51) hx hb hts i_Mod hown hK hH hT3 (by decide) rfl 8 (by decide) (hts _ m_801) (fun _ h9 => h9) (kd := (2, 72)) rfl (x_fr e36) d_Mod_flow_329 ?_
      refine lv_iconst (v := 0) hx hb d_Mod_flow_332 (by decide) ?_
      obtain ⟨_, e37, hf⟩ := x_b hf
      obtain ⟨n38, hT39, hi40⟩ := x_ix_e e37
      refine x_iald hx hb hK hH hT39 0 rfl hi40 d_Mod_flow_333 ?_
      obtain ⟨_, e41, hf⟩ := x_b hf
      obtain ⟨n42, hT43, hi44⟩ := x_ix_e e41
      refine x_iald hx hb hK hH hT43 0 rfl hi44 d_Mod_flow_334 ?_
      refine lv_i2l (v := (x_A w a33 (x_A w a35 (0 : Int32).toNatClampNeg).toNatClampNeg).toInt64) hx hb d_Mod_flow_335 rfl ?_
      refine lv_lmul hx hb d_Mod_flow_336 ?_
      refine lv_ldc2 (v := (1000 : Int64)) hx hb hown (hts _ m_971) d_Mod_flow_337 ?_
      refine lv_ldiv hx hb d_Mod_flow_340 (by decide) ?_
      obtain ⟨v45, e46, hf⟩ := x_b hf
      refine x_nml e46 ?_
      refine lv_lstore (lv' := [(4, .long v45), (2, .long q25), (0, .ref (ad l0)), (1, .int l1)]) hx hb d_Mod_flow_341 hl (by decide) rfl (fun ls hl => ?_)
      refine lv_aload_n hx hb d_Mod_flow_343 rfl (lv_at hl 2 rfl) ?_
      obtain ⟨a47, e48, hf⟩ := x_b hf
      refine x_get (C := "WallDampModel") (F := F_Mod) (N := 51) hx hb hts i_Mod hown hK hH hT3 (by decide) rfl 41 (by decide) (hts _ m_834) (fun _ h9 => h9) (kd := (2, 105)) rfl (x_fr e48) d_Mod_flow_344 ?_
      refine lv_iconst (v := 2) hx hb d_Mod_flow_347 (by decide) ?_
      refine lv_lload hx hb d_Mod_flow_348 (lv_at hl 0 rfl) ?_
      refine lv_lconst (v := 0) hx hb d_Mod_flow_350 (by decide) ?_
      refine W.lcmp hx hb d_Mod_flow_351 ?_
      refine lv_if_le (tgt := 360) hx hb d_Mod_flow_352 (by decide) (fun c49 => ?_) (fun c49 => ?_)
      · have hf := x_it hf c49
        refine lv_lconst (v := 0) hx hb d_Mod_flow_360 (by decide) ?_
        exact k_Mod_flow_361 C0 w _ _ _ l0 l1 v45 a47 (2 : Int32) (0 : Int64) hf hH hS (lv_sub hl [2, 3, 0] rfl)
      · have hf := x_if hf c49
        refine lv_lload hx hb d_Mod_flow_355 (lv_at hl 0 rfl) ?_
        refine lv_goto (tgt := 361) hx hb d_Mod_flow_357 (by decide) ?_
        exact k_Mod_flow_361 C0 w _ _ _ l0 l1 v45 a47 (2 : Int32) v45 hf hH hS (lv_sub hl [2, 3, 0] rfl)
    · have hf := x_if hf c4
      refine lv_aload_n hx hb d_Mod_flow_92 rfl (lv_at hl 0 rfl) ?_
      obtain ⟨a50, e51, hf⟩ := x_b hf
      refine x_get (C := "WallDampModel") (F := F_Mod) (N := 51) hx hb hts i_Mod hown hK hH hT3 (by decide) rfl 8 (by decide) (hts _ m_801) (fun _ h9 => h9) (kd := (2, 72)) rfl (x_fr e51) d_Mod_flow_93 ?_
      refine lv_iload_n hx hb d_Mod_flow_96 rfl (lv_at hl 2 rfl) ?_
      obtain ⟨_, e52, hf⟩ := x_b hf
      obtain ⟨n53, hT54, hi55⟩ := x_ix_e e52
      refine x_iald hx hb hK hH hT54 0 rfl hi55 d_Mod_flow_97 ?_
      obtain ⟨v56, e57, hf⟩ := x_b hf
      refine x_nmi e57 ?_
      refine lv_istore_n (lv' := [(3, .int v56), (0, .ref (ad l0)), (1, .int l1), (2, .int l2)]) hx hb d_Mod_flow_98 rfl hl (by decide) rfl (fun ls hl => ?_)
      refine lv_aload_n hx hb d_Mod_flow_99 rfl (lv_at hl 1 rfl) ?_
      obtain ⟨a58, e59, hf⟩ := x_b hf
      refine x_get (C := "WallDampModel") (F := F_Mod) (N := 51) hx hb hts i_Mod hown hK hH hT3 (by decide) rfl 8 (by decide) (hts _ m_801) (fun _ h9 => h9) (kd := (2, 72)) rfl (x_fr e59) d_Mod_flow_100 ?_
      refine lv_iload_n hx hb d_Mod_flow_103 rfl (lv_at hl 3 rfl) ?_
      refine lv_iconst (v := 1) hx hb d_Mod_flow_104 (by decide) ?_
      refine lv_iadd hx hb d_Mod_flow_105 ?_
      obtain ⟨_, e60, hf⟩ := x_b hf
      obtain ⟨n61, hT62, hi63⟩ := x_ix_e e60
      refine x_iald hx hb hK hH hT62 0 rfl hi63 d_Mod_flow_106 ?_
      obtain ⟨v64, e65, hf⟩ := x_b hf
      refine x_nmi e65 ?_
      refine lv_istore (lv' := [(4, .int v64), (3, .int v56), (0, .ref (ad l0)), (1, .int l1), (2, .int l2)]) hx hb d_Mod_flow_107 hl (by decide) rfl (fun ls hl => ?_)
      refine lv_aload_n hx hb d_Mod_flow_109 rfl (lv_at hl 2 rfl) ?_
      obtain ⟨a66, e67, hf⟩ := x_b hf
      refine x_get (C := "WallDampModel") (F := F_Mod) (N := 51) hx hb hts i_Mod hown hK hH hT3 (by decide) rfl 39 (by decide) (hts _ m_832) (fun _ h9 => h9) (kd := (2, 103)) rfl (x_fr e67) d_Mod_flow_110 ?_
      refine lv_iload_n hx hb d_Mod_flow_113 rfl (lv_at hl 4 rfl) ?_
      obtain ⟨_, e68, hf⟩ := x_b hf
      obtain ⟨n69, hT70, hi71⟩ := x_ix_e e68
      refine x_lald hx hb hK hH hT70 1 rfl hi71 d_Mod_flow_114 ?_
      refine lv_aload_n hx hb d_Mod_flow_115 rfl (lv_at hl 2 rfl) ?_
      obtain ⟨a72, e73, hf⟩ := x_b hf
      refine x_get (C := "WallDampModel") (F := F_Mod) (N := 51) hx hb hts i_Mod hown hK hH hT3 (by decide) rfl 39 (by decide) (hts _ m_832) (fun _ h9 => h9) (kd := (2, 103)) rfl (x_fr e73) d_Mod_flow_116 ?_
      refine lv_iload_n hx hb d_Mod_flow_119 rfl (lv_at hl 4 rfl) ?_
      refine lv_iconst (v := 1) hx hb d_Mod_flow_120 (by decide) ?_
      refine lv_iadd hx hb d_Mod_flow_121 ?_
      obtain ⟨_, e74, hf⟩ := x_b hf
      obtain ⟨n75, hT76, hi77⟩ := x_ix_e e74
      refine x_lald hx hb hK hH hT76 1 rfl hi77 d_Mod_flow_122 ?_
      refine lv_lsub hx hb d_Mod_flow_123 ?_
      refine lv_aload_n hx hb d_Mod_flow_124 rfl (lv_at hl 2 rfl) ?_
      obtain ⟨a78, e79, hf⟩ := x_b hf
      refine x_get (C := "WallDampModel") (F := F_Mod) (N := 51) hx hb hts i_Mod hown hK hH hT3 (by decide) rfl 5 (by decide) (hts _ m_798) (fun _ h9 => h9) (kd := (2, 69)) rfl (x_fr e79) d_Mod_flow_125 ?_
      refine lv_iload_n hx hb d_Mod_flow_128 rfl (lv_at hl 1 rfl) ?_
      obtain ⟨_, e80, hf⟩ := x_b hf
      obtain ⟨n81, hT82, hi83⟩ := x_ix_e e80
      refine x_iald hx hb hK hH hT82 0 rfl hi83 d_Mod_flow_129 ?_
      refine lv_aload_n hx hb d_Mod_flow_130 rfl (lv_at hl 2 rfl) ?_
      obtain ⟨a84, e85, hf⟩ := x_b hf
      refine x_get (C := "WallDampModel") (F := F_Mod) (N := 51) hx hb hts i_Mod hown hK hH hT3 (by decide) rfl 5 (by decide) (hts _ m_798) (fun _ h9 => h9) (kd := (2, 69)) rfl (x_fr e85) d_Mod_flow_131 ?_
      refine lv_iload hx hb d_Mod_flow_134 (lv_at hl 0 rfl) ?_
      obtain ⟨_, e86, hf⟩ := x_b hf
      obtain ⟨n87, hT88, hi89⟩ := x_ix_e e86
      refine x_iald hx hb hK hH hT88 0 rfl hi89 d_Mod_flow_136 ?_
      refine lv_icmp_ge (tgt := 149) hx hb d_Mod_flow_137 (by decide) (fun c90 => ?_) (fun c90 => ?_)
      · have hf := x_it hf c90
        refine lv_aload_n hx hb d_Mod_flow_149 rfl (lv_at hl 2 rfl) ?_
        obtain ⟨a91, e92, hf⟩ := x_b hf
        refine x_get (C := "WallDampModel") (F := F_Mod) (N := 51) hx hb hts i_Mod hown hK hH hT3 (by decide) rfl 5 (by decide) (hts _ m_798) (fun _ h9 => h9) (kd := (2, 69)) rfl (x_fr e92) d_Mod_flow_150 ?_
        refine lv_iload hx hb d_Mod_flow_153 (lv_at hl 0 rfl) ?_
        obtain ⟨_, e93, hf⟩ := x_b hf
        obtain ⟨n94, hT95, hi96⟩ := x_ix_e e93
        refine x_iald hx hb hK hH hT95 0 rfl hi96 d_Mod_flow_155 ?_
        exact k_Mod_flow_156 C0 ih w _ _ _ l0 l1 l2 v56 v64 ((x_B w a66 l2.toNatClampNeg) - (x_B w a72 (l2 + (1 : Int32)).toNatClampNeg)) (x_A w a91 v64.toNatClampNeg) hf hH hS (lv_sub hl [2, 3, 4, 1, 0] rfl)
      · have hf := x_if hf c90
        refine lv_aload_n hx hb d_Mod_flow_140 rfl (lv_at hl 2 rfl) ?_
        obtain ⟨a97, e98, hf⟩ := x_b hf
        refine x_get (C := "WallDampModel") (F := F_Mod) (N := 51) hx hb hts i_Mod hown hK hH hT3 (by decide) rfl 5 (by decide) (hts _ m_798) (fun _ h9 => h9) (kd := (2, 69)) rfl (x_fr e98) d_Mod_flow_141 ?_
        refine lv_iload_n hx hb d_Mod_flow_144 rfl (lv_at hl 1 rfl) ?_
        obtain ⟨_, e99, hf⟩ := x_b hf
        obtain ⟨n100, hT101, hi102⟩ := x_ix_e e99
        refine x_iald hx hb hK hH hT101 0 rfl hi102 d_Mod_flow_145 ?_
        refine lv_goto (tgt := 156) hx hb d_Mod_flow_146 (by decide) ?_
        exact k_Mod_flow_156 C0 ih w _ _ _ l0 l1 l2 v56 v64 ((x_B w a66 l2.toNatClampNeg) - (x_B w a72 (l2 + (1 : Int32)).toNatClampNeg)) (x_A w a97 v56.toNatClampNeg) hf hH hS (lv_sub hl [2, 3, 4, 1, 0] rfl)
set_option maxHeartbeats 4000000 in
set_option maxRecDepth 100000 in
theorem k_Mod_flow_56 {p : Program} {l : Launch} {e : Env} {s : State} {m : MethodId} {args : Array Value} {below : List Frame} {meth : Method} {c : Code} {D : va_G} {aC : Nat → ClassId} {ad : Nat → Nat} {T : x_T} {nx : Nat} {A : Nat → Prop} {q : x_W} (C0 : x_At p s m meth c args "WallDampModel" b_Mod_flow none 12 D aC A) : ∀ (n : Nat), ∀ (w : x_W) (H : Heap) (locs : List Loc) (ls : Array Slot) (l0 : Nat) (l1 : Int32) (l2 : Int32), f_Mod_flow_56 T n w l0 l1 l2 = some q → x_H D x_cl x_FT aC ad T nx A w H → va_S A s.heap H locs → lv_has ls 12 [(0, .ref (ad l0)), (1, .int l1), (2, .int l2)] → W p l e { frames := 1, cells := 0, slots := 0, locals := 24 } s m args below meth c H locs 0 0 (MQ below (x_Qc D aC ad T nx none q A) args s 0 0 A) (F0 m 56 ls []) := by
  obtain ⟨hx, hb, hr, hml, hown, hts, hlocks, hK, hA, hX⟩ := id C0
  intro n
  induction n with
  | zero => intro w H locs ls l0 l1 l2 hf; cases (show none = some q from hf)
  | succ n ih =>
    intro w H locs ls l0 l1 l2 hf hH hS hl
    unfold f_Mod_flow_56 at hf
    refine lv_iload_n hx hb d_Mod_flow_56 rfl (lv_at hl 2 rfl) ?_
    refine lv_bipush (v := 6) hx hb d_Mod_flow_57 (by decide) ?_
    refine lv_aload_n hx hb d_Mod_flow_59 rfl (lv_at hl 0 rfl) ?_
    obtain ⟨_, e1, hf⟩ := x_b hf
    obtain ⟨n2, hT3⟩ := x_is_e e1
    refine x_get (C := "WallDampModel") (F := F_Mod) (N := 51) hx hb hts i_Mod hown hK hH hT3 (by decide) rfl 1 (by decide) (hts _ m_794) (fun _ h9 => h9) (kd := (0, 65)) rfl rfl d_Mod_flow_60 ?_
    refine lv_imul hx hb d_Mod_flow_63 ?_
    refine lv_icmp_ge (tgt := 80) hx hb d_Mod_flow_64 (by decide) (fun c4 => ?_) (fun c4 => ?_)
    · have hf := x_it hf c4
      refine lv_iconst (v := 0) hx hb d_Mod_flow_80 (by decide) ?_
      refine lv_istore_n (lv' := [(2, .int (0 : Int32)), (0, .ref (ad l0)), (1, .int l1)]) hx hb d_Mod_flow_81 rfl hl (by decide) rfl (fun ls hl => ?_)
      exact k_Mod_flow_82 C0 1000 w _ _ _ l0 l1 (0 : Int32) hf hH hS (lv_sub hl [1, 2, 0] rfl)
    · have hf := x_if hf c4
      refine lv_aload_n hx hb d_Mod_flow_67 rfl (lv_at hl 0 rfl) ?_
      obtain ⟨a5, e6, hf⟩ := x_b hf
      refine x_get (C := "WallDampModel") (F := F_Mod) (N := 51) hx hb hts i_Mod hown hK hH hT3 (by decide) rfl 41 (by decide) (hts _ m_834) (fun _ h9 => h9) (kd := (2, 105)) rfl (x_fr e6) d_Mod_flow_68 ?_
      refine lv_iload_n hx hb d_Mod_flow_71 rfl (lv_at hl 2 rfl) ?_
      refine lv_lconst (v := 0) hx hb d_Mod_flow_72 (by decide) ?_
      obtain ⟨_, e7, hf⟩ := x_b hf
      obtain ⟨n8, hT9, hi10⟩ := x_ix_e e7
      refine x_last hx hb hK hH hS hT9 1 rfl hi10 d_Mod_flow_73 (fun H locs hH hS => ?_)
      obtain ⟨w11, e12, hf⟩ := x_b hf
      have hH := x_nw e12 hH
      refine lv_iinc (v := (l2 + 1)) (lv' := [(2, .int (l2 + 1)), (0, .ref (ad l0)), (1, .int l1)]) hx hb d_Mod_flow_74 hl (k := 2) rfl rfl (by decide) rfl (fun ls hl => ?_)
      refine lv_goto (tgt := 56) hx hb d_Mod_flow_77 (by decide) ?_
      exact ih w11 _ _ _ l0 l1 (l2 + 1) hf hH hS (lv_sub hl [1, 2, 0] rfl)
set_option maxHeartbeats 4000000 in
set_option maxRecDepth 100000 in
theorem k_Mod_flow_2 {p : Program} {l : Launch} {e : Env} {s : State} {m : MethodId} {args : Array Value} {below : List Frame} {meth : Method} {c : Code} {D : va_G} {aC : Nat → ClassId} {ad : Nat → Nat} {T : x_T} {nx : Nat} {A : Nat → Prop} {q : x_W} (C0 : x_At p s m meth c args "WallDampModel" b_Mod_flow none 12 D aC A) : ∀ (n : Nat), ∀ (w : x_W) (H : Heap) (locs : List Loc) (ls : Array Slot) (l0 : Nat) (l1 : Int32) (l2 : Int32), f_Mod_flow_2 T n w l0 l1 l2 = some q → x_H D x_cl x_FT aC ad T nx A w H → va_S A s.heap H locs → lv_has ls 12 [(0, .ref (ad l0)), (1, .int l1), (2, .int l2)] → W p l e { frames := 1, cells := 0, slots := 0, locals := 24 } s m args below meth c H locs 0 0 (MQ below (x_Qc D aC ad T nx none q A) args s 0 0 A) (F0 m 2 ls []) := by
  obtain ⟨hx, hb, hr, hml, hown, hts, hlocks, hK, hA, hX⟩ := id C0
  intro n
  induction n with
  | zero => intro w H locs ls l0 l1 l2 hf; cases (show none = some q from hf)
  | succ n ih =>
    intro w H locs ls l0 l1 l2 hf hH hS hl
    unfold f_Mod_flow_2 at hf
    refine lv_iload_n hx hb d_Mod_flow_2 rfl (lv_at hl 2 rfl) ?_
    refine lv_aload_n hx hb d_Mod_flow_3 rfl (lv_at hl 0 rfl) ?_
    obtain ⟨_, e1, hf⟩ := x_b hf
    obtain ⟨n2, hT3⟩ := x_is_e e1
    refine x_get (C := "WallDampModel") (F := F_Mod) (N := 51) hx hb hts i_Mod hown hK hH hT3 (by decide) rfl 1 (by decide) (hts _ m_794) (fun _ h9 => h9) (kd := (0, 65)) rfl rfl d_Mod_flow_4 ?_
    refine lv_icmp_ge (tgt := 54) hx hb d_Mod_flow_7 (by decide) (fun c4 => ?_) (fun c4 => ?_)
    · have hf := x_it hf c4
      refine lv_iconst (v := 0) hx hb d_Mod_flow_54 (by decide) ?_
      refine lv_istore_n (lv' := [(2, .int (0 : Int32)), (0, .ref (ad l0)), (1, .int l1)]) hx hb d_Mod_flow_55 rfl hl (by decide) rfl (fun ls hl => ?_)
      exact k_Mod_flow_56 C0 1000 w _ _ _ l0 l1 (0 : Int32) hf hH hS (lv_sub hl [1, 2, 0] rfl)
    · have hf := x_if hf c4
      refine lv_aload_n hx hb d_Mod_flow_10 rfl (lv_at hl 0 rfl) ?_
      obtain ⟨a5, e6, hf⟩ := x_b hf
      refine x_get (C := "WallDampModel") (F := F_Mod) (N := 51) hx hb hts i_Mod hown hK hH hT3 (by decide) rfl 40 (by decide) (hts _ m_833) (fun _ h9 => h9) (kd := (2, 104)) rfl (x_fr e6) d_Mod_flow_11 ?_
      refine lv_iload_n hx hb d_Mod_flow_14 rfl (lv_at hl 2 rfl) ?_
      refine lv_aload_n hx hb d_Mod_flow_15 rfl (lv_at hl 0 rfl) ?_
      refine lv_iload_n hx hb d_Mod_flow_16 rfl (lv_at hl 2 rfl) ?_
      obtain ⟨q7, e8, hf⟩ := x_b hf
      refine x_callP (st1 := [.int q7, .int l2, .ref (ad a5)]) (x_runV (As := [.int l2]) (rest := [.int l2, .ref (ad a5)]) ⟨hx, hb, hml, hown, hts⟩ (c_Mod_dampOf l D aC ad T nx H.size w l0 l2 q7 e8) (cwV 1 hts (x_gV m_1045 m_1047 ms_22 m_13 m_1048) rfl rfl rfl ⟨rfl, pd_Mod_dampOf⟩ ⟨Nat.le_of_ble_eq_true rfl, Nat.le_of_ble_eq_true rfl⟩) hH hK hX hT3 (by decide) rfl rfl rfl hl.1 rfl (lv_room (Nat.le_of_ble_eq_true rfl)) d_Mod_flow_17 ⟨Nat.zero_le _, Nat.zero_le _⟩) rfl ?_
      obtain ⟨_, e9, hf⟩ := x_b hf
      obtain ⟨n10, hT11, hi12⟩ := x_ix_e e9
      refine x_iast hx hb hK hH hS hT11 0 rfl hi12 d_Mod_flow_20 (fun H locs hH hS => ?_)
      obtain ⟨w13, e14, hf⟩ := x_b hf
      have hH := x_nw e14 hH
      refine lv_aload_n hx hb d_Mod_flow_21 rfl (lv_at hl 0 rfl) ?_
      obtain ⟨a15, e16, hf⟩ := x_b hf
      refine x_get (C := "WallDampModel") (F := F_Mod) (N := 51) hx hb hts i_Mod hown hK hH hT3 (by decide) rfl 39 (by decide) (hts _ m_832) (fun _ h9 => h9) (kd := (2, 103)) rfl (x_fr e16) d_Mod_flow_22 ?_
      refine lv_iload_n hx hb d_Mod_flow_25 rfl (lv_at hl 2 rfl) ?_
      refine lv_aload_n hx hb d_Mod_flow_26 rfl (lv_at hl 0 rfl) ?_
      refine lv_aload_n hx hb d_Mod_flow_27 rfl (lv_at hl 0 rfl) ?_
      obtain ⟨a17, e18, hf⟩ := x_b hf
      refine x_get (C := "WallDampModel") (F := F_Mod) (N := 51) hx hb hts i_Mod hown hK hH hT3 (by decide) rfl 12 (by decide) (hts _ m_805) (fun _ h9 => h9) (kd := (2, 76)) rfl (x_fr e18) d_Mod_flow_28 ?_
      refine lv_iload_n hx hb d_Mod_flow_31 rfl (lv_at hl 2 rfl) ?_
      obtain ⟨_, e19, hf⟩ := x_b hf
      obtain ⟨n20, hT21, hi22⟩ := x_ix_e e19
      refine x_iald hx hb hK hH hT21 0 rfl hi22 d_Mod_flow_32 ?_
      obtain ⟨q23, e24, hf⟩ := x_b hf
      refine x_callP (st1 := [.int q23, .int l2, .ref (ad a15)]) (x_runV (As := [.int (x_A w13 a17 l2.toNatClampNeg)]) (rest := [.int l2, .ref (ad a15)]) ⟨hx, hb, hml, hown, hts⟩ (c_Mod_fullAt l D aC ad T nx H.size w13 l0 (x_A w13 a17 l2.toNatClampNeg) q23 e24) (cwV 1 hts (x_gV m_990 m_992 ms_17 m_13 m_993) rfl rfl rfl ⟨rfl, pd_Mod_fullAt⟩ ⟨Nat.le_of_ble_eq_true rfl, Nat.le_of_ble_eq_true rfl⟩) hH hK hX hT3 (by decide) rfl rfl rfl hl.1 rfl (lv_room (Nat.le_of_ble_eq_true rfl)) d_Mod_flow_33 ⟨Nat.zero_le _, Nat.zero_le _⟩) rfl ?_
      refine lv_i2l (v := q23.toInt64) hx hb d_Mod_flow_36 rfl ?_
      refine lv_aload_n hx hb d_Mod_flow_37 rfl (lv_at hl 0 rfl) ?_
      obtain ⟨a25, e26, hf⟩ := x_b hf
      refine x_get (C := "WallDampModel") (F := F_Mod) (N := 51) hx hb hts i_Mod hown hK hH hT3 (by decide) rfl 40 (by decide) (hts _ m_833) (fun _ h9 => h9) (kd := (2, 104)) rfl (x_fr e26) d_Mod_flow_38 ?_
      refine lv_iload_n hx hb d_Mod_flow_41 rfl (lv_at hl 2 rfl) ?_
      obtain ⟨_, e27, hf⟩ := x_b hf
      obtain ⟨n28, hT29, hi30⟩ := x_ix_e e27
      refine x_iald hx hb hK hH hT29 0 rfl hi30 d_Mod_flow_42 ?_
      refine lv_i2l (v := (x_A w13 a25 l2.toNatClampNeg).toInt64) hx hb d_Mod_flow_43 rfl ?_
      obtain ⟨q31, e32, hf⟩ := x_b hf
      refine x_callP (st1 := [.long q31, .int l2, .ref (ad a15)]) (x_runS (As := [.long (q23.toInt64), .long ((x_A w13 a25 l2.toNatClampNeg).toInt64)]) (rest := [.int l2, .ref (ad a15)]) ⟨hx, hb, hml, hown, hts⟩ (c_Mod_at l D aC ad T nx H.size w13 (q23.toInt64) ((x_A w13 a25 l2.toNatClampNeg).toInt64) q31 e32) (va_cwS 2 hts (x_gS m_1049 m_1050 m_13 m_1051) rfl rfl rfl pd_Mod_at ⟨Nat.le_of_ble_eq_true rfl, Nat.le_of_ble_eq_true rfl⟩) hH hK hX rfl hl.1 rfl (lv_room (Nat.le_of_ble_eq_true rfl)) d_Mod_flow_44 ⟨Nat.zero_le _, Nat.zero_le _⟩) rfl ?_
      obtain ⟨_, e33, hf⟩ := x_b hf
      obtain ⟨n34, hT35, hi36⟩ := x_ix_e e33
      refine x_last hx hb hK hH hS hT35 1 rfl hi36 d_Mod_flow_47 (fun H locs hH hS => ?_)
      obtain ⟨w37, e38, hf⟩ := x_b hf
      have hH := x_nw e38 hH
      refine lv_iinc (v := (l2 + 1)) (lv' := [(2, .int (l2 + 1)), (0, .ref (ad l0)), (1, .int l1)]) hx hb d_Mod_flow_48 hl (k := 2) rfl rfl (by decide) rfl (fun ls hl => ?_)
      refine lv_goto (tgt := 2) hx hb d_Mod_flow_51 (by decide) ?_
      exact ih w37 _ _ _ l0 l1 (l2 + 1) hf hH hS (lv_sub hl [1, 2, 0] rfl)
set_option maxHeartbeats 4000000 in
set_option maxRecDepth 100000 in
theorem k_Mod_flow {p : Program} {l : Launch} {e : Env} {s : State} {m : MethodId} {args : Array Value} {below : List Frame} {meth : Method} {c : Code} {D : va_G} {aC : Nat → ClassId} {ad : Nat → Nat} {T : x_T} {nx : Nat} {A : Nat → Prop} {q : x_W} (C0 : x_At p s m meth c args "WallDampModel" b_Mod_flow none 12 D aC A) : ∀ (w : x_W) (H : Heap) (locs : List Loc) (ls : Array Slot) (l0 : Nat) (l1 : Int32), f_Mod_flow T w l0 l1 = some q → x_H D x_cl x_FT aC ad T nx A w H → va_S A s.heap H locs → lv_has ls 12 [(0, .ref (ad l0)), (1, .int l1)] → W p l e { frames := 1, cells := 0, slots := 0, locals := 24 } s m args below meth c H locs 0 0 (MQ below (x_Qc D aC ad T nx none q A) args s 0 0 A) (F0 m 0 ls []) := by
  obtain ⟨hx, hb, hr, hml, hown, hts, hlocks, hK, hA, hX⟩ := id C0
  intro w H locs ls l0 l1 hf hH hS hl
  unfold f_Mod_flow at hf
  refine lv_iconst (v := 0) hx hb d_Mod_flow_0 (by decide) ?_
  refine lv_istore_n (lv' := [(2, .int (0 : Int32)), (0, .ref (ad l0)), (1, .int l1)]) hx hb d_Mod_flow_1 rfl hl (by decide) rfl (fun ls hl => ?_)
  exact k_Mod_flow_2 C0 1000 w _ _ _ l0 l1 (0 : Int32) hf hH hS (lv_sub hl [1, 2, 0] rfl)
theorem c_Mod_flow (l : Launch) (D : va_G) (aC : Nat → ClassId) (ad : Nat → Nat) (T : x_T) (nx sz : Nat) (w : x_W) (a0 : Nat) (a1 : Int32) (q : x_W) (hf : f_Mod_flow T w a0 a1 = some q) : Met l y_Mod_flow ws_Mod_flow { frames := 1, cells := 0, slots := 0, locals := 24 } (x_Pc D aC ad T nx sz w [.ref (ad a0), .int a1]) (x_Qc D aC ad T nx none q (x_dom ad nx sz)) 0 0 (x_dom ad nx sz) :=
  x_met [(0, .ref (ad a0)), (1, .int a1)] (plainFor_of_name (by decide)) rfl rfl (Nat.le_of_ble_eq_true rfl) (fun p e s m args below meth c ls C0 hH hS hl => k_Mod_flow C0 w _ _ _ a0 a1 hf hH hS (lv_sub hl [0, 1] rfl))
/-! WallDampModel.lessenLeaving(I)V -/
def f_Mod_lessenLeaving_228 (T : x_T) (w : x_W) : Option (x_W) :=
  some w
def f_Mod_lessenLeaving_225 (T : x_T) (w : x_W) (t0 : Nat) (t1 : Int64) : Option (x_W) :=
  (x_is T t0 10).bind fun _ =>
  (some (x_sJ w 107 t0 t1)).bind fun w4 =>
  f_Mod_lessenLeaving_228 T w4
def f_Mod_lessenLeaving_192 (T : x_T) (w : x_W) (l0 : Nat) (l1 : Int32) (l8 : Int64) (l10 : Int64) (t0 : Nat) (t1 : Int64) : Option (x_W) :=
  (x_is T t0 10).bind fun _ =>
  (some (x_sJ w 106 t0 t1)).bind fun w4 =>
  (x_is T l0 10).bind fun _ =>
  if l1 = ((x_I w4 65 l0) - (1 : Int32)) then
    ((x_R w4 74 l0).bind fun a10 =>
    (x_ix T a10 101 l1).bind fun _ =>
    (x_nzl l10).bind fun _ =>
    f_Mod_lessenLeaving_225 T w4 l0 ((l8 * (x_B w4 a10 l1.toNatClampNeg)) / l10))
  else
    (f_Mod_lessenLeaving_225 T w4 l0 (x_J w4 107 l0))
def f_Mod_lessenLeaving_168 (T : x_T) (w : x_W) (l0 : Nat) (l1 : Int32) (l6 : Int64) (l8 : Int64) (l10 : Int64) : Option (x_W) :=
  if l1 = 0 then
    ((x_is T l0 10).bind fun _ =>
    (x_R w 74 l0).bind fun a8 =>
    (x_ix T a8 101 l1).bind fun _ =>
    (x_nzl l10).bind fun _ =>
    f_Mod_lessenLeaving_192 T w l0 l1 l8 l10 l0 ((l6 * (x_B w a8 l1.toNatClampNeg)) / l10))
  else
    ((x_is T l0 10).bind fun _ =>
    f_Mod_lessenLeaving_192 T w l0 l1 l8 l10 l0 (x_J w 106 l0))
def f_Mod_lessenLeaving_139 (T : x_T) (w : x_W) (l0 : Nat) (l1 : Int32) (l4 : Int64) (l6 : Int64) (l8 : Int64) (l10 : Int64) : Option (x_W) :=
  if l1 ≤ 0 then
    (f_Mod_lessenLeaving_168 T w l0 l1 l6 l8 l10)
  else
    ((x_is T l0 10).bind fun _ =>
    (x_R w 105 l0).bind fun a5 =>
    (x_R w 74 l0).bind fun a7 =>
    (x_ix T a7 101 l1).bind fun _ =>
    (x_nzl l10).bind fun _ =>
    (x_ix T a5 101 (((6 : Int32) * (l1 - (1 : Int32))) + (1 : Int32))).bind fun _ =>
    (some (x_sB w a5 (((6 : Int32) * (l1 - (1 : Int32))) + (1 : Int32)).toNatClampNeg ((l4 * (x_B w a7 l1.toNatClampNeg)) / l10))).bind fun w18 =>
    f_Mod_lessenLeaving_168 T w18 l0 l1 l6 l8 l10)
def f_Mod_lessenLeaving_81 (T : x_T) (w : x_W) (l0 : Nat) (l1 : Int32) (l2 : Int64) (l4 : Int64) (l6 : Int64) (t0 : Int64) : Option (x_W) :=
  (some ((((l2 + l4) + l6) + t0))).bind fun v1 =>
  (x_is T l0 10).bind fun _ =>
  (x_R w 74 l0).bind fun a6 =>
  (x_ix T a6 101 l1).bind fun _ =>
  if (lg_cmp v1 (x_B w a6 l1.toNatClampNeg)) ≤ 0 then
    (f_Mod_lessenLeaving_228 T w)
  else
    (if (x_I w 65 l0) ≤ (l1 + (1 : Int32)) then
      (f_Mod_lessenLeaving_139 T w l0 l1 l4 l6 t0 v1)
    else
      ((x_R w 105 l0).bind fun a14 =>
      (x_R w 74 l0).bind fun a16 =>
      (x_ix T a16 101 l1).bind fun _ =>
      (x_nzl v1).bind fun _ =>
      (x_ix T a14 101 ((6 : Int32) * (l1 + (1 : Int32)))).bind fun _ =>
      (some (x_sB w a14 ((6 : Int32) * (l1 + (1 : Int32))).toNatClampNeg ((l2 * (x_B w a16 l1.toNatClampNeg)) / v1))).bind fun w27 =>
      f_Mod_lessenLeaving_139 T w27 l0 l1 l4 l6 t0 v1))
def f_Mod_lessenLeaving_61 (T : x_T) (w : x_W) (l0 : Nat) (l1 : Int32) (l2 : Int64) (l4 : Int64) (t0 : Int64) : Option (x_W) :=
  (x_is T l0 10).bind fun _ =>
  if l1 = ((x_I w 65 l0) - (1 : Int32)) then
    (f_Mod_lessenLeaving_81 T w l0 l1 l2 l4 t0 (x_J w 107 l0))
  else
    (f_Mod_lessenLeaving_81 T w l0 l1 l2 l4 t0 (0 : Int64))
def f_Mod_lessenLeaving_47 (T : x_T) (w : x_W) (l0 : Nat) (l1 : Int32) (l2 : Int64) (t0 : Int64) : Option (x_W) :=
  if l1 = 0 then
    ((x_is T l0 10).bind fun _ =>
    f_Mod_lessenLeaving_61 T w l0 l1 l2 t0 (x_J w 106 l0))
  else
    (f_Mod_lessenLeaving_61 T w l0 l1 l2 t0 (0 : Int64))
def f_Mod_lessenLeaving_25 (T : x_T) (w : x_W) (l0 : Nat) (l1 : Int32) (t0 : Int64) : Option (x_W) :=
  if l1 ≤ 0 then
    (f_Mod_lessenLeaving_47 T w l0 l1 t0 (0 : Int64))
  else
    ((x_is T l0 10).bind fun _ =>
    (x_R w 105 l0).bind fun a5 =>
    (x_ix T a5 101 (((6 : Int32) * (l1 - (1 : Int32))) + (1 : Int32))).bind fun _ =>
    f_Mod_lessenLeaving_47 T w l0 l1 t0 (x_B w a5 (((6 : Int32) * (l1 - (1 : Int32))) + (1 : Int32)).toNatClampNeg))
def f_Mod_lessenLeaving (T : x_T) (w : x_W) (l0 : Nat) (l1 : Int32) : Option (x_W) :=
  (x_is T l0 10).bind fun _ =>
  if (x_I w 65 l0) ≤ (l1 + (1 : Int32)) then
    (f_Mod_lessenLeaving_25 T w l0 l1 (0 : Int64))
  else
    ((x_R w 105 l0).bind fun a5 =>
    (x_ix T a5 101 ((6 : Int32) * (l1 + (1 : Int32)))).bind fun _ =>
    f_Mod_lessenLeaving_25 T w l0 l1 (x_B w a5 ((6 : Int32) * (l1 + (1 : Int32))).toNatClampNeg))
set_option maxHeartbeats 4000000 in
set_option maxRecDepth 100000 in
theorem k_Mod_lessenLeaving_228 {p : Program} {l : Launch} {e : Env} {s : State} {m : MethodId} {args : Array Value} {below : List Frame} {meth : Method} {c : Code} {D : va_G} {aC : Nat → ClassId} {ad : Nat → Nat} {T : x_T} {nx : Nat} {A : Nat → Prop} {q : x_W} (C0 : x_At p s m meth c args "WallDampModel" b_Mod_lessenLeaving none 12 D aC A) : ∀ (w : x_W) (H : Heap) (locs : List Loc) (ls : Array Slot), f_Mod_lessenLeaving_228 T w = some q → x_H D x_cl x_FT aC ad T nx A w H → va_S A s.heap H locs → lv_has ls 12 [] → W p l e { frames := 0, cells := 0, slots := 0, locals := 0 } s m args below meth c H locs 0 0 (MQ below (x_Qc D aC ad T nx none q A) args s 0 0 A) (F0 m 228 ls []) := by
  obtain ⟨hx, hb, hr, hml, hown, hts, hlocks, hK, hA, hX⟩ := id C0
  intro w H locs ls hf hH hS hl
  unfold f_Mod_lessenLeaving_228 at hf
  cases hf
  refine x_sz0 hS (fun hz => ?_)
  exact W.vret hx hb hr (fun t ht hW => ⟨rfl, hS.F ht, by rw [ht]; exact hz, by rw [ht]; exact hH.weaken (fun _ _ _ => trivial)⟩) hS.2.2 d_Mod_lessenLeaving_228
set_option maxHeartbeats 4000000 in
set_option maxRecDepth 100000 in
theorem k_Mod_lessenLeaving_225 {p : Program} {l : Launch} {e : Env} {s : State} {m : MethodId} {args : Array Value} {below : List Frame} {meth : Method} {c : Code} {D : va_G} {aC : Nat → ClassId} {ad : Nat → Nat} {T : x_T} {nx : Nat} {A : Nat → Prop} {q : x_W} (C0 : x_At p s m meth c args "WallDampModel" b_Mod_lessenLeaving none 12 D aC A) : ∀ (w : x_W) (H : Heap) (locs : List Loc) (ls : Array Slot) (t0 : Nat) (t1 : Int64), f_Mod_lessenLeaving_225 T w t0 t1 = some q → x_H D x_cl x_FT aC ad T nx A w H → va_S A s.heap H locs → lv_has ls 12 [] → W p l e { frames := 0, cells := 0, slots := 0, locals := 0 } s m args below meth c H locs 0 0 (MQ below (x_Qc D aC ad T nx none q A) args s 0 0 A) (F0 m 225 ls [.long t1, .ref (ad t0)]) := by
  obtain ⟨hx, hb, hr, hml, hown, hts, hlocks, hK, hA, hX⟩ := id C0
  intro w H locs ls t0 t1 hf hH hS hl
  unfold f_Mod_lessenLeaving_225 at hf
  obtain ⟨_, e1, hf⟩ := x_b hf
  obtain ⟨n2, hT3⟩ := x_is_e e1
  refine x_put (C := "WallDampModel") (F := F_Mod) (N := 51) (ty := t_Mod 43) (v := .long t1) (w' := x_sJ w 107 t0 t1) hx hb hts i_Mod t_Mod ty_Mod n_Mod hown hK hH hS hT3 (by decide) rfl rfl 43 (by decide) (hts _ m_836) (fun _ h9 => h9) rfl (ty_Mod 43 (by decide)) rfl rfl (x_on_J hT3 (by decide) rfl nd_Mod) (fun j hj => x_off_J hj) (fun hh ok => x_ok_J hh ok) d_Mod_lessenLeaving_225 (fun H locs hH hS => ?_)
  obtain ⟨w4, e5, hf⟩ := x_b hf
  have hH := x_nw e5 hH
  exact k_Mod_lessenLeaving_228 C0 w4 _ _ _ hf hH hS (lv_sub hl [] rfl)
set_option maxHeartbeats 4000000 in
set_option maxRecDepth 100000 in
theorem k_Mod_lessenLeaving_192 {p : Program} {l : Launch} {e : Env} {s : State} {m : MethodId} {args : Array Value} {below : List Frame} {meth : Method} {c : Code} {D : va_G} {aC : Nat → ClassId} {ad : Nat → Nat} {T : x_T} {nx : Nat} {A : Nat → Prop} {q : x_W} (C0 : x_At p s m meth c args "WallDampModel" b_Mod_lessenLeaving none 12 D aC A) : ∀ (w : x_W) (H : Heap) (locs : List Loc) (ls : Array Slot) (l0 : Nat) (l1 : Int32) (l8 : Int64) (l10 : Int64) (t0 : Nat) (t1 : Int64), f_Mod_lessenLeaving_192 T w l0 l1 l8 l10 t0 t1 = some q → x_H D x_cl x_FT aC ad T nx A w H → va_S A s.heap H locs → lv_has ls 12 [(0, .ref (ad l0)), (1, .int l1), (8, .long l8), (10, .long l10)] → W p l e { frames := 0, cells := 0, slots := 0, locals := 0 } s m args below meth c H locs 0 0 (MQ below (x_Qc D aC ad T nx none q A) args s 0 0 A) (F0 m 192 ls [.long t1, .ref (ad t0)]) := by
  obtain ⟨hx, hb, hr, hml, hown, hts, hlocks, hK, hA, hX⟩ := id C0
  intro w H locs ls l0 l1 l8 l10 t0 t1 hf hH hS hl
  unfold f_Mod_lessenLeaving_192 at hf
  obtain ⟨_, e1, hf⟩ := x_b hf
  obtain ⟨n2, hT3⟩ := x_is_e e1
  refine x_put (C := "WallDampModel") (F := F_Mod) (N := 51) (ty := t_Mod 42) (v := .long t1) (w' := x_sJ w 106 t0 t1) hx hb hts i_Mod t_Mod ty_Mod n_Mod hown hK hH hS hT3 (by decide) rfl rfl 42 (by decide) (hts _ m_835) (fun _ h9 => h9) rfl (ty_Mod 42 (by decide)) rfl rfl (x_on_J hT3 (by decide) rfl nd_Mod) (fun j hj => x_off_J hj) (fun hh ok => x_ok_J hh ok) d_Mod_lessenLeaving_192 (fun H locs hH hS => ?_)
  obtain ⟨w4, e5, hf⟩ := x_b hf
  have hH := x_nw e5 hH
  refine lv_aload_n hx hb d_Mod_lessenLeaving_195 rfl (lv_at hl 0 rfl) ?_
  refine lv_iload_n hx hb d_Mod_lessenLeaving_196 rfl (lv_at hl 1 rfl) ?_
  refine lv_aload_n hx hb d_Mod_lessenLeaving_197 rfl (lv_at hl 0 rfl) ?_
  obtain ⟨_, e6, hf⟩ := x_b hf
  obtain ⟨n7, hT8⟩ := x_is_e e6
  refine x_get (C := "WallDampModel") (F := F_Mod) (N := 51) hx hb hts i_Mod hown hK hH hT8 (by decide) rfl 1 (by decide) (hts _ m_794) (fun _ h9 => h9) (kd := (0, 65)) rfl rfl d_Mod_lessenLeaving_198 ?_
  refine lv_iconst (v := 1) hx hb d_Mod_lessenLeaving_201 (by decide) ?_
  refine lv_isub hx hb d_Mod_lessenLeaving_202 ?_
  refine lv_icmp_ne (tgt := 221) hx hb d_Mod_lessenLeaving_203 (by decide) (fun c9 => ?_) (fun c9 => ?_)
  · have hf := x_if hf c9
    refine lv_aload_n hx hb d_Mod_lessenLeaving_221 rfl (lv_at hl 0 rfl) ?_
    refine x_get (C := "WallDampModel") (F := F_Mod) (N := 51) hx hb hts i_Mod hown hK hH hT8 (by decide) rfl 43 (by decide) (hts _ m_836) (fun _ h9 => h9) (kd := (1, 107)) rfl rfl d_Mod_lessenLeaving_222 ?_
    exact k_Mod_lessenLeaving_225 C0 w4 _ _ _ l0 (x_J w4 107 l0) hf hH hS (lv_sub hl [] rfl)
  · have hf := x_it hf c9
    refine lv_lload hx hb d_Mod_lessenLeaving_206 (lv_at hl 2 rfl) ?_
    refine lv_aload_n hx hb d_Mod_lessenLeaving_208 rfl (lv_at hl 0 rfl) ?_
    obtain ⟨a10, e11, hf⟩ := x_b hf
    refine x_get (C := "WallDampModel") (F := F_Mod) (N := 51) hx hb hts i_Mod hown hK hH hT8 (by decide) rfl 10 (by decide) (hts _ m_803) (fun _ h9 => h9) (kd := (2, 74)) rfl (x_fr e11) d_Mod_lessenLeaving_209 ?_
    refine lv_iload_n hx hb d_Mod_lessenLeaving_212 rfl (lv_at hl 1 rfl) ?_
    obtain ⟨_, e12, hf⟩ := x_b hf
    obtain ⟨n13, hT14, hi15⟩ := x_ix_e e12
    refine x_lald hx hb hK hH hT14 1 rfl hi15 d_Mod_lessenLeaving_213 ?_
    refine lv_lmul hx hb d_Mod_lessenLeaving_214 ?_
    refine lv_lload hx hb d_Mod_lessenLeaving_215 (lv_at hl 3 rfl) ?_
    obtain ⟨_, e16, hf⟩ := x_b hf
    refine lv_ldiv hx hb d_Mod_lessenLeaving_217 (x_nzl_e e16) ?_
    refine lv_goto (tgt := 225) hx hb d_Mod_lessenLeaving_218 (by decide) ?_
    exact k_Mod_lessenLeaving_225 C0 w4 _ _ _ l0 ((l8 * (x_B w4 a10 l1.toNatClampNeg)) / l10) hf hH hS (lv_sub hl [] rfl)
set_option maxHeartbeats 4000000 in
set_option maxRecDepth 100000 in
theorem k_Mod_lessenLeaving_168 {p : Program} {l : Launch} {e : Env} {s : State} {m : MethodId} {args : Array Value} {below : List Frame} {meth : Method} {c : Code} {D : va_G} {aC : Nat → ClassId} {ad : Nat → Nat} {T : x_T} {nx : Nat} {A : Nat → Prop} {q : x_W} (C0 : x_At p s m meth c args "WallDampModel" b_Mod_lessenLeaving none 12 D aC A) : ∀ (w : x_W) (H : Heap) (locs : List Loc) (ls : Array Slot) (l0 : Nat) (l1 : Int32) (l6 : Int64) (l8 : Int64) (l10 : Int64), f_Mod_lessenLeaving_168 T w l0 l1 l6 l8 l10 = some q → x_H D x_cl x_FT aC ad T nx A w H → va_S A s.heap H locs → lv_has ls 12 [(0, .ref (ad l0)), (1, .int l1), (6, .long l6), (8, .long l8), (10, .long l10)] → W p l e { frames := 0, cells := 0, slots := 0, locals := 0 } s m args below meth c H locs 0 0 (MQ below (x_Qc D aC ad T nx none q A) args s 0 0 A) (F0 m 168 ls []) := by
  obtain ⟨hx, hb, hr, hml, hown, hts, hlocks, hK, hA, hX⟩ := id C0
  intro w H locs ls l0 l1 l6 l8 l10 hf hH hS hl
  unfold f_Mod_lessenLeaving_168 at hf
  refine lv_aload_n hx hb d_Mod_lessenLeaving_168 rfl (lv_at hl 0 rfl) ?_
  refine lv_iload_n hx hb d_Mod_lessenLeaving_169 rfl (lv_at hl 1 rfl) ?_
  refine lv_if_ne (tgt := 188) hx hb d_Mod_lessenLeaving_170 (by decide) (fun c1 => ?_) (fun c1 => ?_)
  · have hf := x_if hf c1
    refine lv_aload_n hx hb d_Mod_lessenLeaving_188 rfl (lv_at hl 0 rfl) ?_
    obtain ⟨_, e2, hf⟩ := x_b hf
    obtain ⟨n3, hT4⟩ := x_is_e e2
    refine x_get (C := "WallDampModel") (F := F_Mod) (N := 51) hx hb hts i_Mod hown hK hH hT4 (by decide) rfl 42 (by decide) (hts _ m_835) (fun _ h9 => h9) (kd := (1, 106)) rfl rfl d_Mod_lessenLeaving_189 ?_
    exact k_Mod_lessenLeaving_192 C0 w _ _ _ l0 l1 l8 l10 l0 (x_J w 106 l0) hf hH hS (lv_sub hl [0, 1, 3, 4] rfl)
  · have hf := x_it hf c1
    refine lv_lload hx hb d_Mod_lessenLeaving_173 (lv_at hl 2 rfl) ?_
    refine lv_aload_n hx hb d_Mod_lessenLeaving_175 rfl (lv_at hl 0 rfl) ?_
    obtain ⟨_, e5, hf⟩ := x_b hf
    obtain ⟨n6, hT7⟩ := x_is_e e5
    obtain ⟨a8, e9, hf⟩ := x_b hf
    refine x_get (C := "WallDampModel") (F := F_Mod) (N := 51) hx hb hts i_Mod hown hK hH hT7 (by decide) rfl 10 (by decide) (hts _ m_803) (fun _ h9 => h9) (kd := (2, 74)) rfl (x_fr e9) d_Mod_lessenLeaving_176 ?_
    refine lv_iload_n hx hb d_Mod_lessenLeaving_179 rfl (lv_at hl 1 rfl) ?_
    obtain ⟨_, e10, hf⟩ := x_b hf
    obtain ⟨n11, hT12, hi13⟩ := x_ix_e e10
    refine x_lald hx hb hK hH hT12 1 rfl hi13 d_Mod_lessenLeaving_180 ?_
    refine lv_lmul hx hb d_Mod_lessenLeaving_181 ?_
    refine lv_lload hx hb d_Mod_lessenLeaving_182 (lv_at hl 4 rfl) ?_
    obtain ⟨_, e14, hf⟩ := x_b hf
    refine lv_ldiv hx hb d_Mod_lessenLeaving_184 (x_nzl_e e14) ?_
    refine lv_goto (tgt := 192) hx hb d_Mod_lessenLeaving_185 (by decide) ?_
    exact k_Mod_lessenLeaving_192 C0 w _ _ _ l0 l1 l8 l10 l0 ((l6 * (x_B w a8 l1.toNatClampNeg)) / l10) hf hH hS (lv_sub hl [0, 1, 3, 4] rfl)
set_option maxHeartbeats 4000000 in
set_option maxRecDepth 100000 in
theorem k_Mod_lessenLeaving_139 {p : Program} {l : Launch} {e : Env} {s : State} {m : MethodId} {args : Array Value} {below : List Frame} {meth : Method} {c : Code} {D : va_G} {aC : Nat → ClassId} {ad : Nat → Nat} {T : x_T} {nx : Nat} {A : Nat → Prop} {q : x_W} (C0 : x_At p s m meth c args "WallDampModel" b_Mod_lessenLeaving none 12 D aC A) : ∀ (w : x_W) (H : Heap) (locs : List Loc) (ls : Array Slot) (l0 : Nat) (l1 : Int32) (l4 : Int64) (l6 : Int64) (l8 : Int64) (l10 : Int64), f_Mod_lessenLeaving_139 T w l0 l1 l4 l6 l8 l10 = some q → x_H D x_cl x_FT aC ad T nx A w H → va_S A s.heap H locs → lv_has ls 12 [(0, .ref (ad l0)), (1, .int l1), (4, .long l4), (6, .long l6), (8, .long l8), (10, .long l10)] → W p l e { frames := 0, cells := 0, slots := 0, locals := 0 } s m args below meth c H locs 0 0 (MQ below (x_Qc D aC ad T nx none q A) args s 0 0 A) (F0 m 139 ls []) := by
  obtain ⟨hx, hb, hr, hml, hown, hts, hlocks, hK, hA, hX⟩ := id C0
  intro w H locs ls l0 l1 l4 l6 l8 l10 hf hH hS hl
  unfold f_Mod_lessenLeaving_139 at hf
  refine lv_iload_n hx hb d_Mod_lessenLeaving_139 rfl (lv_at hl 1 rfl) ?_
  refine lv_if_le (tgt := 168) hx hb d_Mod_lessenLeaving_140 (by decide) (fun c1 => ?_) (fun c1 => ?_)
  · have hf := x_it hf c1
    exact k_Mod_lessenLeaving_168 C0 w _ _ _ l0 l1 l6 l8 l10 hf hH hS (lv_sub hl [0, 1, 3, 4, 5] rfl)
  · have hf := x_if hf c1
    refine lv_aload_n hx hb d_Mod_lessenLeaving_143 rfl (lv_at hl 0 rfl) ?_
    obtain ⟨_, e2, hf⟩ := x_b hf
    obtain ⟨n3, hT4⟩ := x_is_e e2
    obtain ⟨a5, e6, hf⟩ := x_b hf
    refine x_get (C := "WallDampModel") (F := F_Mod) (N := 51) hx hb hts i_Mod hown hK hH hT4 (by decide) rfl 41 (by decide) (hts _ m_834) (fun _ h9 => h9) (kd := (2, 105)) rfl (x_fr e6) d_Mod_lessenLeaving_144 ?_
    refine lv_bipush (v := 6) hx hb d_Mod_lessenLeaving_147 (by decide) ?_
    refine lv_iload_n hx hb d_Mod_lessenLeaving_149 rfl (lv_at hl 1 rfl) ?_
    refine lv_iconst (v := 1) hx hb d_Mod_lessenLeaving_150 (by decide) ?_
    refine lv_isub hx hb d_Mod_lessenLeaving_151 ?_
    refine lv_imul hx hb d_Mod_lessenLeaving_152 ?_
    refine lv_iconst (v := 1) hx hb d_Mod_lessenLeaving_153 (by decide) ?_
    refine lv_iadd hx hb d_Mod_lessenLeaving_154 ?_
    refine lv_lload hx hb d_Mod_lessenLeaving_155 (lv_at hl 2 rfl) ?_
    refine lv_aload_n hx hb d_Mod_lessenLeaving_157 rfl (lv_at hl 0 rfl) ?_
    obtain ⟨a7, e8, hf⟩ := x_b hf
    refine x_get (C := "WallDampModel") (F := F_Mod) (N := 51) hx hb hts i_Mod hown hK hH hT4 (by decide) rfl 10 (by decide) (hts _ m_803) (fun _ h9 => h9) (kd := (2, 74)) rfl (x_fr e8) d_Mod_lessenLeaving_158 ?_
    refine lv_iload_n hx hb d_Mod_lessenLeaving_161 rfl (lv_at hl 1 rfl) ?_
    obtain ⟨_, e9, hf⟩ := x_b hf
    obtain ⟨n10, hT11, hi12⟩ := x_ix_e e9
    refine x_lald hx hb hK hH hT11 1 rfl hi12 d_Mod_lessenLeaving_162 ?_
    refine lv_lmul hx hb d_Mod_lessenLeaving_163 ?_
    refine lv_lload hx hb d_Mod_lessenLeaving_164 (lv_at hl 5 rfl) ?_
    obtain ⟨_, e13, hf⟩ := x_b hf
    refine lv_ldiv hx hb d_Mod_lessenLeaving_166 (x_nzl_e e13) ?_
    obtain ⟨_, e14, hf⟩ := x_b hf
    obtain ⟨n15, hT16, hi17⟩ := x_ix_e e14
    refine x_last hx hb hK hH hS hT16 1 rfl hi17 d_Mod_lessenLeaving_167 (fun H locs hH hS => ?_)
    obtain ⟨w18, e19, hf⟩ := x_b hf
    have hH := x_nw e19 hH
    exact k_Mod_lessenLeaving_168 C0 w18 _ _ _ l0 l1 l6 l8 l10 hf hH hS (lv_sub hl [0, 1, 3, 4, 5] rfl)
set_option maxHeartbeats 4000000 in
set_option maxRecDepth 100000 in
theorem k_Mod_lessenLeaving_81 {p : Program} {l : Launch} {e : Env} {s : State} {m : MethodId} {args : Array Value} {below : List Frame} {meth : Method} {c : Code} {D : va_G} {aC : Nat → ClassId} {ad : Nat → Nat} {T : x_T} {nx : Nat} {A : Nat → Prop} {q : x_W} (C0 : x_At p s m meth c args "WallDampModel" b_Mod_lessenLeaving none 12 D aC A) : ∀ (w : x_W) (H : Heap) (locs : List Loc) (ls : Array Slot) (l0 : Nat) (l1 : Int32) (l2 : Int64) (l4 : Int64) (l6 : Int64) (t0 : Int64), f_Mod_lessenLeaving_81 T w l0 l1 l2 l4 l6 t0 = some q → x_H D x_cl x_FT aC ad T nx A w H → va_S A s.heap H locs → lv_has ls 12 [(0, .ref (ad l0)), (1, .int l1), (2, .long l2), (4, .long l4), (6, .long l6)] → W p l e { frames := 0, cells := 0, slots := 0, locals := 0 } s m args below meth c H locs 0 0 (MQ below (x_Qc D aC ad T nx none q A) args s 0 0 A) (F0 m 81 ls [.long t0]) := by
  obtain ⟨hx, hb, hr, hml, hown, hts, hlocks, hK, hA, hX⟩ := id C0
  intro w H locs ls l0 l1 l2 l4 l6 t0 hf hH hS hl
  unfold f_Mod_lessenLeaving_81 at hf
  refine lv_lstore (lv' := [(8, .long t0), (0, .ref (ad l0)), (1, .int l1), (2, .long l2), (4, .long l4), (6, .long l6)]) hx hb d_Mod_lessenLeaving_81 hl (by decide) rfl (fun ls hl => ?_)
  refine lv_lload_n hx hb d_Mod_lessenLeaving_83 rfl (lv_at hl 3 rfl) ?_
  refine lv_lload hx hb d_Mod_lessenLeaving_84 (lv_at hl 4 rfl) ?_
  refine lv_ladd hx hb d_Mod_lessenLeaving_86 ?_
  refine lv_lload hx hb d_Mod_lessenLeaving_87 (lv_at hl 5 rfl) ?_
  refine lv_ladd hx hb d_Mod_lessenLeaving_89 ?_
  refine lv_lload hx hb d_Mod_lessenLeaving_90 (lv_at hl 0 rfl) ?_
  refine lv_ladd hx hb d_Mod_lessenLeaving_92 ?_
  obtain ⟨v1, e2, hf⟩ := x_b hf
  refine x_nml e2 ?_
  refine lv_lstore (lv' := [(10, .long v1), (8, .long t0), (0, .ref (ad l0)), (1, .int l1), (2, .long l2), (4, .long l4), (6, .long l6)]) hx hb d_Mod_lessenLeaving_93 hl (by decide) rfl (fun ls hl => ?_)
  refine lv_lload hx hb d_Mod_lessenLeaving_95 (lv_at hl 0 rfl) ?_
  refine lv_aload_n hx hb d_Mod_lessenLeaving_97 rfl (lv_at hl 2 rfl) ?_
  obtain ⟨_, e3, hf⟩ := x_b hf
  obtain ⟨n4, hT5⟩ := x_is_e e3
  obtain ⟨a6, e7, hf⟩ := x_b hf
  refine x_get (C := "WallDampModel") (F := F_Mod) (N := 51) hx hb hts i_Mod hown hK hH hT5 (by decide) rfl 10 (by decide) (hts _ m_803) (fun _ h9 => h9) (kd := (2, 74)) rfl (x_fr e7) d_Mod_lessenLeaving_98 ?_
  refine lv_iload_n hx hb d_Mod_lessenLeaving_101 rfl (lv_at hl 3 rfl) ?_
  obtain ⟨_, e8, hf⟩ := x_b hf
  obtain ⟨n9, hT10, hi11⟩ := x_ix_e e8
  refine x_lald hx hb hK hH hT10 1 rfl hi11 d_Mod_lessenLeaving_102 ?_
  refine W.lcmp hx hb d_Mod_lessenLeaving_103 ?_
  refine lv_if_le (tgt := 228) hx hb d_Mod_lessenLeaving_104 (by decide) (fun c12 => ?_) (fun c12 => ?_)
  · have hf := x_it hf c12
    exact k_Mod_lessenLeaving_228 C0 w _ _ _ hf hH hS (lv_sub hl [] rfl)
  · have hf := x_if hf c12
    refine lv_iload_n hx hb d_Mod_lessenLeaving_107 rfl (lv_at hl 3 rfl) ?_
    refine lv_iconst (v := 1) hx hb d_Mod_lessenLeaving_108 (by decide) ?_
    refine lv_iadd hx hb d_Mod_lessenLeaving_109 ?_
    refine lv_aload_n hx hb d_Mod_lessenLeaving_110 rfl (lv_at hl 2 rfl) ?_
    refine x_get (C := "WallDampModel") (F := F_Mod) (N := 51) hx hb hts i_Mod hown hK hH hT5 (by decide) rfl 1 (by decide) (hts _ m_794) (fun _ h9 => h9) (kd := (0, 65)) rfl rfl d_Mod_lessenLeaving_111 ?_
    refine lv_icmp_ge (tgt := 139) hx hb d_Mod_lessenLeaving_114 (by decide) (fun c13 => ?_) (fun c13 => ?_)
    · have hf := x_it hf c13
      exact k_Mod_lessenLeaving_139 C0 w _ _ _ l0 l1 l4 l6 t0 v1 hf hH hS (lv_sub hl [2, 3, 5, 6, 1, 0] rfl)
    · have hf := x_if hf c13
      refine lv_aload_n hx hb d_Mod_lessenLeaving_117 rfl (lv_at hl 2 rfl) ?_
      obtain ⟨a14, e15, hf⟩ := x_b hf
      refine x_get (C := "WallDampModel") (F := F_Mod) (N := 51) hx hb hts i_Mod hown hK hH hT5 (by decide) rfl 41 (by decide) (hts _ m_834) (fun _ h9 => h9) (kd := (2, 105)) rfl (x_fr e15) d_Mod_lessenLeaving_118 ?_
      refine lv_bipush (v := 6) hx hb d_Mod_lessenLeaving_121 (by decide) ?_
      refine lv_iload_n hx hb d_Mod_lessenLeaving_123 rfl (lv_at hl 3 rfl) ?_
      refine lv_iconst (v := 1) hx hb d_Mod_lessenLeaving_124 (by decide) ?_
      refine lv_iadd hx hb d_Mod_lessenLeaving_125 ?_
      refine lv_imul hx hb d_Mod_lessenLeaving_126 ?_
      refine lv_lload_n hx hb d_Mod_lessenLeaving_127 rfl (lv_at hl 4 rfl) ?_
      refine lv_aload_n hx hb d_Mod_lessenLeaving_128 rfl (lv_at hl 2 rfl) ?_
      obtain ⟨a16, e17, hf⟩ := x_b hf
      refine x_get (C := "WallDampModel") (F := F_Mod) (N := 51) hx hb hts i_Mod hown hK hH hT5 (by decide) rfl 10 (by decide) (hts _ m_803) (fun _ h9 => h9) (kd := (2, 74)) rfl (x_fr e17) d_Mod_lessenLeaving_129 ?_
      refine lv_iload_n hx hb d_Mod_lessenLeaving_132 rfl (lv_at hl 3 rfl) ?_
      obtain ⟨_, e18, hf⟩ := x_b hf
      obtain ⟨n19, hT20, hi21⟩ := x_ix_e e18
      refine x_lald hx hb hK hH hT20 1 rfl hi21 d_Mod_lessenLeaving_133 ?_
      refine lv_lmul hx hb d_Mod_lessenLeaving_134 ?_
      refine lv_lload hx hb d_Mod_lessenLeaving_135 (lv_at hl 0 rfl) ?_
      obtain ⟨_, e22, hf⟩ := x_b hf
      refine lv_ldiv hx hb d_Mod_lessenLeaving_137 (x_nzl_e e22) ?_
      obtain ⟨_, e23, hf⟩ := x_b hf
      obtain ⟨n24, hT25, hi26⟩ := x_ix_e e23
      refine x_last hx hb hK hH hS hT25 1 rfl hi26 d_Mod_lessenLeaving_138 (fun H locs hH hS => ?_)
      obtain ⟨w27, e28, hf⟩ := x_b hf
      have hH := x_nw e28 hH
      exact k_Mod_lessenLeaving_139 C0 w27 _ _ _ l0 l1 l4 l6 t0 v1 hf hH hS (lv_sub hl [2, 3, 5, 6, 1, 0] rfl)
set_option maxHeartbeats 4000000 in
set_option maxRecDepth 100000 in
theorem k_Mod_lessenLeaving_61 {p : Program} {l : Launch} {e : Env} {s : State} {m : MethodId} {args : Array Value} {below : List Frame} {meth : Method} {c : Code} {D : va_G} {aC : Nat → ClassId} {ad : Nat → Nat} {T : x_T} {nx : Nat} {A : Nat → Prop} {q : x_W} (C0 : x_At p s m meth c args "WallDampModel" b_Mod_lessenLeaving none 12 D aC A) : ∀ (w : x_W) (H : Heap) (locs : List Loc) (ls : Array Slot) (l0 : Nat) (l1 : Int32) (l2 : Int64) (l4 : Int64) (t0 : Int64), f_Mod_lessenLeaving_61 T w l0 l1 l2 l4 t0 = some q → x_H D x_cl x_FT aC ad T nx A w H → va_S A s.heap H locs → lv_has ls 12 [(0, .ref (ad l0)), (1, .int l1), (2, .long l2), (4, .long l4)] → W p l e { frames := 0, cells := 0, slots := 0, locals := 0 } s m args below meth c H locs 0 0 (MQ below (x_Qc D aC ad T nx none q A) args s 0 0 A) (F0 m 61 ls [.long t0]) := by
  obtain ⟨hx, hb, hr, hml, hown, hts, hlocks, hK, hA, hX⟩ := id C0
  intro w H locs ls l0 l1 l2 l4 t0 hf hH hS hl
  unfold f_Mod_lessenLeaving_61 at hf
  refine lv_lstore (lv' := [(6, .long t0), (0, .ref (ad l0)), (1, .int l1), (2, .long l2), (4, .long l4)]) hx hb d_Mod_lessenLeaving_61 hl (by decide) rfl (fun ls hl => ?_)
  refine lv_iload_n hx hb d_Mod_lessenLeaving_63 rfl (lv_at hl 2 rfl) ?_
  refine lv_aload_n hx hb d_Mod_lessenLeaving_64 rfl (lv_at hl 1 rfl) ?_
  obtain ⟨_, e1, hf⟩ := x_b hf
  obtain ⟨n2, hT3⟩ := x_is_e e1
  refine x_get (C := "WallDampModel") (F := F_Mod) (N := 51) hx hb hts i_Mod hown hK hH hT3 (by decide) rfl 1 (by decide) (hts _ m_794) (fun _ h9 => h9) (kd := (0, 65)) rfl rfl d_Mod_lessenLeaving_65 ?_
  refine lv_iconst (v := 1) hx hb d_Mod_lessenLeaving_68 (by decide) ?_
  refine lv_isub hx hb d_Mod_lessenLeaving_69 ?_
  refine lv_icmp_ne (tgt := 80) hx hb d_Mod_lessenLeaving_70 (by decide) (fun c4 => ?_) (fun c4 => ?_)
  · have hf := x_if hf c4
    refine lv_lconst (v := 0) hx hb d_Mod_lessenLeaving_80 (by decide) ?_
    exact k_Mod_lessenLeaving_81 C0 w _ _ _ l0 l1 l2 l4 t0 (0 : Int64) hf hH hS (lv_sub hl [1, 2, 3, 4, 0] rfl)
  · have hf := x_it hf c4
    refine lv_aload_n hx hb d_Mod_lessenLeaving_73 rfl (lv_at hl 1 rfl) ?_
    refine x_get (C := "WallDampModel") (F := F_Mod) (N := 51) hx hb hts i_Mod hown hK hH hT3 (by decide) rfl 43 (by decide) (hts _ m_836) (fun _ h9 => h9) (kd := (1, 107)) rfl rfl d_Mod_lessenLeaving_74 ?_
    refine lv_goto (tgt := 81) hx hb d_Mod_lessenLeaving_77 (by decide) ?_
    exact k_Mod_lessenLeaving_81 C0 w _ _ _ l0 l1 l2 l4 t0 (x_J w 107 l0) hf hH hS (lv_sub hl [1, 2, 3, 4, 0] rfl)
set_option maxHeartbeats 4000000 in
set_option maxRecDepth 100000 in
theorem k_Mod_lessenLeaving_47 {p : Program} {l : Launch} {e : Env} {s : State} {m : MethodId} {args : Array Value} {below : List Frame} {meth : Method} {c : Code} {D : va_G} {aC : Nat → ClassId} {ad : Nat → Nat} {T : x_T} {nx : Nat} {A : Nat → Prop} {q : x_W} (C0 : x_At p s m meth c args "WallDampModel" b_Mod_lessenLeaving none 12 D aC A) : ∀ (w : x_W) (H : Heap) (locs : List Loc) (ls : Array Slot) (l0 : Nat) (l1 : Int32) (l2 : Int64) (t0 : Int64), f_Mod_lessenLeaving_47 T w l0 l1 l2 t0 = some q → x_H D x_cl x_FT aC ad T nx A w H → va_S A s.heap H locs → lv_has ls 12 [(0, .ref (ad l0)), (1, .int l1), (2, .long l2)] → W p l e { frames := 0, cells := 0, slots := 0, locals := 0 } s m args below meth c H locs 0 0 (MQ below (x_Qc D aC ad T nx none q A) args s 0 0 A) (F0 m 47 ls [.long t0]) := by
  obtain ⟨hx, hb, hr, hml, hown, hts, hlocks, hK, hA, hX⟩ := id C0
  intro w H locs ls l0 l1 l2 t0 hf hH hS hl
  unfold f_Mod_lessenLeaving_47 at hf
  refine lv_lstore (lv' := [(4, .long t0), (0, .ref (ad l0)), (1, .int l1), (2, .long l2)]) hx hb d_Mod_lessenLeaving_47 hl (by decide) rfl (fun ls hl => ?_)
  refine lv_iload_n hx hb d_Mod_lessenLeaving_49 rfl (lv_at hl 2 rfl) ?_
  refine lv_if_ne (tgt := 60) hx hb d_Mod_lessenLeaving_50 (by decide) (fun c1 => ?_) (fun c1 => ?_)
  · have hf := x_if hf c1
    refine lv_lconst (v := 0) hx hb d_Mod_lessenLeaving_60 (by decide) ?_
    exact k_Mod_lessenLeaving_61 C0 w _ _ _ l0 l1 l2 t0 (0 : Int64) hf hH hS (lv_sub hl [1, 2, 3, 0] rfl)
  · have hf := x_it hf c1
    refine lv_aload_n hx hb d_Mod_lessenLeaving_53 rfl (lv_at hl 1 rfl) ?_
    obtain ⟨_, e2, hf⟩ := x_b hf
    obtain ⟨n3, hT4⟩ := x_is_e e2
    refine x_get (C := "WallDampModel") (F := F_Mod) (N := 51) hx hb hts i_Mod hown hK hH hT4 (by decide) rfl 42 (by decide) (hts _ m_835) (fun _ h9 => h9) (kd := (1, 106)) rfl rfl d_Mod_lessenLeaving_54 ?_
    refine lv_goto (tgt := 61) hx hb d_Mod_lessenLeaving_57 (by decide) ?_
    exact k_Mod_lessenLeaving_61 C0 w _ _ _ l0 l1 l2 t0 (x_J w 106 l0) hf hH hS (lv_sub hl [1, 2, 3, 0] rfl)
set_option maxHeartbeats 4000000 in
set_option maxRecDepth 100000 in
theorem k_Mod_lessenLeaving_25 {p : Program} {l : Launch} {e : Env} {s : State} {m : MethodId} {args : Array Value} {below : List Frame} {meth : Method} {c : Code} {D : va_G} {aC : Nat → ClassId} {ad : Nat → Nat} {T : x_T} {nx : Nat} {A : Nat → Prop} {q : x_W} (C0 : x_At p s m meth c args "WallDampModel" b_Mod_lessenLeaving none 12 D aC A) : ∀ (w : x_W) (H : Heap) (locs : List Loc) (ls : Array Slot) (l0 : Nat) (l1 : Int32) (t0 : Int64), f_Mod_lessenLeaving_25 T w l0 l1 t0 = some q → x_H D x_cl x_FT aC ad T nx A w H → va_S A s.heap H locs → lv_has ls 12 [(0, .ref (ad l0)), (1, .int l1)] → W p l e { frames := 0, cells := 0, slots := 0, locals := 0 } s m args below meth c H locs 0 0 (MQ below (x_Qc D aC ad T nx none q A) args s 0 0 A) (F0 m 25 ls [.long t0]) := by
  obtain ⟨hx, hb, hr, hml, hown, hts, hlocks, hK, hA, hX⟩ := id C0
  intro w H locs ls l0 l1 t0 hf hH hS hl
  unfold f_Mod_lessenLeaving_25 at hf
  refine lv_lstore_n (lv' := [(2, .long t0), (0, .ref (ad l0)), (1, .int l1)]) hx hb d_Mod_lessenLeaving_25 rfl hl (by decide) rfl (fun ls hl => ?_)
  refine lv_iload_n hx hb d_Mod_lessenLeaving_26 rfl (lv_at hl 2 rfl) ?_
  refine lv_if_le (tgt := 46) hx hb d_Mod_lessenLeaving_27 (by decide) (fun c1 => ?_) (fun c1 => ?_)
  · have hf := x_it hf c1
    refine lv_lconst (v := 0) hx hb d_Mod_lessenLeaving_46 (by decide) ?_
    exact k_Mod_lessenLeaving_47 C0 w _ _ _ l0 l1 t0 (0 : Int64) hf hH hS (lv_sub hl [1, 2, 0] rfl)
  · have hf := x_if hf c1
    refine lv_aload_n hx hb d_Mod_lessenLeaving_30 rfl (lv_at hl 1 rfl) ?_
    obtain ⟨_, e2, hf⟩ := x_b hf
    obtain ⟨n3, hT4⟩ := x_is_e e2
    obtain ⟨a5, e6, hf⟩ := x_b hf
    refine x_get (C := "WallDampModel") (F := F_Mod) (N := 51) hx hb hts i_Mod hown hK hH hT4 (by decide) rfl 41 (by decide) (hts _ m_834) (fun _ h9 => h9) (kd := (2, 105)) rfl (x_fr e6) d_Mod_lessenLeaving_31 ?_
    refine lv_bipush (v := 6) hx hb d_Mod_lessenLeaving_34 (by decide) ?_
    refine lv_iload_n hx hb d_Mod_lessenLeaving_36 rfl (lv_at hl 2 rfl) ?_
    refine lv_iconst (v := 1) hx hb d_Mod_lessenLeaving_37 (by decide) ?_
    refine lv_isub hx hb d_Mod_lessenLeaving_38 ?_
    refine lv_imul hx hb d_Mod_lessenLeaving_39 ?_
    refine lv_iconst (v := 1) hx hb d_Mod_lessenLeaving_40 (by decide) ?_
    refine lv_iadd hx hb d_Mod_lessenLeaving_41 ?_
    obtain ⟨_, e7, hf⟩ := x_b hf
    obtain ⟨n8, hT9, hi10⟩ := x_ix_e e7
    refine x_lald hx hb hK hH hT9 1 rfl hi10 d_Mod_lessenLeaving_42 ?_
    refine lv_goto (tgt := 47) hx hb d_Mod_lessenLeaving_43 (by decide) ?_
    exact k_Mod_lessenLeaving_47 C0 w _ _ _ l0 l1 t0 (x_B w a5 (((6 : Int32) * (l1 - (1 : Int32))) + (1 : Int32)).toNatClampNeg) hf hH hS (lv_sub hl [1, 2, 0] rfl)
set_option maxHeartbeats 4000000 in
set_option maxRecDepth 100000 in
theorem k_Mod_lessenLeaving {p : Program} {l : Launch} {e : Env} {s : State} {m : MethodId} {args : Array Value} {below : List Frame} {meth : Method} {c : Code} {D : va_G} {aC : Nat → ClassId} {ad : Nat → Nat} {T : x_T} {nx : Nat} {A : Nat → Prop} {q : x_W} (C0 : x_At p s m meth c args "WallDampModel" b_Mod_lessenLeaving none 12 D aC A) : ∀ (w : x_W) (H : Heap) (locs : List Loc) (ls : Array Slot) (l0 : Nat) (l1 : Int32), f_Mod_lessenLeaving T w l0 l1 = some q → x_H D x_cl x_FT aC ad T nx A w H → va_S A s.heap H locs → lv_has ls 12 [(0, .ref (ad l0)), (1, .int l1)] → W p l e { frames := 0, cells := 0, slots := 0, locals := 0 } s m args below meth c H locs 0 0 (MQ below (x_Qc D aC ad T nx none q A) args s 0 0 A) (F0 m 0 ls []) := by
  obtain ⟨hx, hb, hr, hml, hown, hts, hlocks, hK, hA, hX⟩ := id C0
  intro w H locs ls l0 l1 hf hH hS hl
  unfold f_Mod_lessenLeaving at hf
  refine lv_iload_n hx hb d_Mod_lessenLeaving_0 rfl (lv_at hl 1 rfl) ?_
  refine lv_iconst (v := 1) hx hb d_Mod_lessenLeaving_1 (by decide) ?_
  refine lv_iadd hx hb d_Mod_lessenLeaving_2 ?_
  refine lv_aload_n hx hb d_Mod_lessenLeaving_3 rfl (lv_at hl 0 rfl) ?_
  obtain ⟨_, e1, hf⟩ := x_b hf
  obtain ⟨n2, hT3⟩ := x_is_e e1
  refine x_get (C := "WallDampModel") (F := F_Mod) (N := 51) hx hb hts i_Mod hown hK hH hT3 (by decide) rfl 1 (by decide) (hts _ m_794) (fun _ h9 => h9) (kd := (0, 65)) rfl rfl d_Mod_lessenLeaving_4 ?_
  refine lv_icmp_ge (tgt := 24) hx hb d_Mod_lessenLeaving_7 (by decide) (fun c4 => ?_) (fun c4 => ?_)
  · have hf := x_it hf c4
    refine lv_lconst (v := 0) hx hb d_Mod_lessenLeaving_24 (by decide) ?_
    exact k_Mod_lessenLeaving_25 C0 w _ _ _ l0 l1 (0 : Int64) hf hH hS (lv_sub hl [0, 1] rfl)
  · have hf := x_if hf c4
    refine lv_aload_n hx hb d_Mod_lessenLeaving_10 rfl (lv_at hl 0 rfl) ?_
    obtain ⟨a5, e6, hf⟩ := x_b hf
    refine x_get (C := "WallDampModel") (F := F_Mod) (N := 51) hx hb hts i_Mod hown hK hH hT3 (by decide) rfl 41 (by decide) (hts _ m_834) (fun _ h9 => h9) (kd := (2, 105)) rfl (x_fr e6) d_Mod_lessenLeaving_11 ?_
    refine lv_bipush (v := 6) hx hb d_Mod_lessenLeaving_14 (by decide) ?_
    refine lv_iload_n hx hb d_Mod_lessenLeaving_16 rfl (lv_at hl 1 rfl) ?_
    refine lv_iconst (v := 1) hx hb d_Mod_lessenLeaving_17 (by decide) ?_
    refine lv_iadd hx hb d_Mod_lessenLeaving_18 ?_
    refine lv_imul hx hb d_Mod_lessenLeaving_19 ?_
    obtain ⟨_, e7, hf⟩ := x_b hf
    obtain ⟨n8, hT9, hi10⟩ := x_ix_e e7
    refine x_lald hx hb hK hH hT9 1 rfl hi10 d_Mod_lessenLeaving_20 ?_
    refine lv_goto (tgt := 25) hx hb d_Mod_lessenLeaving_21 (by decide) ?_
    exact k_Mod_lessenLeaving_25 C0 w _ _ _ l0 l1 (x_B w a5 ((6 : Int32) * (l1 + (1 : Int32))).toNatClampNeg) hf hH hS (lv_sub hl [0, 1] rfl)
theorem c_Mod_lessenLeaving (l : Launch) (D : va_G) (aC : Nat → ClassId) (ad : Nat → Nat) (T : x_T) (nx sz : Nat) (w : x_W) (a0 : Nat) (a1 : Int32) (q : x_W) (hf : f_Mod_lessenLeaving T w a0 a1 = some q) : Met l y_Mod_lessenLeaving ws_Mod_lessenLeaving { frames := 0, cells := 0, slots := 0, locals := 0 } (x_Pc D aC ad T nx sz w [.ref (ad a0), .int a1]) (x_Qc D aC ad T nx none q (x_dom ad nx sz)) 0 0 (x_dom ad nx sz) :=
  x_met [(0, .ref (ad a0)), (1, .int a1)] (plainFor_of_name (by decide)) rfl rfl (Nat.le_of_ble_eq_true rfl) (fun p e s m args below meth c ls C0 hH hS hl => k_Mod_lessenLeaving C0 w _ _ _ a0 a1 hf hH hS (lv_sub hl [0, 1] rfl))
/-! WallDampModel.lessenComing(I)V -/
def f_Mod_lessenComing_107 (T : x_T) (w : x_W) : Option (x_W) :=
  some w
def f_Mod_lessenComing_58 (T : x_T) : Nat → x_W → Nat → Int32 → Int64 → Int64 → Int32 → Option (x_W)
  | 0, _, _, _, _, _, _ => none
  | n + 1, w, l0, l1, l2, l4, l6 =>
    if (6 : Int32) ≤ l6 then
      (f_Mod_lessenComing_107 T w)
    else
      (if (lg_cmp l4 l2) ≤ 0 then
        (f_Mod_lessenComing_107 T w)
      else
        ((x_is T l0 10).bind fun _ =>
        (x_R w 105 l0).bind fun a6 =>
        (x_R w 105 l0).bind fun a8 =>
        (x_ix T a8 101 (((6 : Int32) * l1) + l6)).bind fun _ =>
        (x_nzl l4).bind fun _ =>
        (x_ix T a6 101 (((6 : Int32) * l1) + l6)).bind fun _ =>
        (some (x_sB w a6 (((6 : Int32) * l1) + l6).toNatClampNeg (((x_B w a8 (((6 : Int32) * l1) + l6).toNatClampNeg) * l2) / l4))).bind fun w19 =>
        f_Mod_lessenComing_58 T n w19 l0 l1 l2 l4 (l6 + 1)))
def f_Mod_lessenComing_25 (T : x_T) : Nat → x_W → Nat → Int32 → Int64 → Int64 → Int32 → Option (x_W)
  | 0, _, _, _, _, _, _ => none
  | n + 1, w, l0, l1, l2, l4, l6 =>
    if (6 : Int32) ≤ l6 then
      (f_Mod_lessenComing_58 T 1000 w l0 l1 l2 l4 (0 : Int32))
    else
      ((x_is T l0 10).bind fun _ =>
      (x_R w 105 l0).bind fun a5 =>
      (x_ix T a5 101 (((6 : Int32) * l1) + l6)).bind fun _ =>
      (some ((l4 + (x_B w a5 (((6 : Int32) * l1) + l6).toNatClampNeg)))).bind fun v11 =>
      f_Mod_lessenComing_25 T n w l0 l1 l2 v11 (l6 + 1))
def f_Mod_lessenComing (T : x_T) (w : x_W) (l0 : Nat) (l1 : Int32) : Option (x_W) :=
  (x_is T l0 10).bind fun _ =>
  (x_R w 72 l0).bind fun a4 =>
  (x_ix T a4 100 l1).bind fun _ =>
  (f_Mod_most T w l0 (x_A w a4 l1.toNatClampNeg)).bind fun q10 =>
  (x_R w 74 l0).bind fun a12 =>
  (x_ix T a12 101 l1).bind fun _ =>
  (some (((q10.toInt64) - (x_B w a12 l1.toNatClampNeg)))).bind fun v18 =>
  f_Mod_lessenComing_25 T 1000 w l0 l1 v18 (0 : Int64) (0 : Int32)
set_option maxHeartbeats 4000000 in
set_option maxRecDepth 100000 in
theorem k_Mod_lessenComing_107 {p : Program} {l : Launch} {e : Env} {s : State} {m : MethodId} {args : Array Value} {below : List Frame} {meth : Method} {c : Code} {D : va_G} {aC : Nat → ClassId} {ad : Nat → Nat} {T : x_T} {nx : Nat} {A : Nat → Prop} {q : x_W} (C0 : x_At p s m meth c args "WallDampModel" b_Mod_lessenComing none 7 D aC A) : ∀ (w : x_W) (H : Heap) (locs : List Loc) (ls : Array Slot), f_Mod_lessenComing_107 T w = some q → x_H D x_cl x_FT aC ad T nx A w H → va_S A s.heap H locs → lv_has ls 7 [] → W p l e { frames := 1, cells := 0, slots := 0, locals := 21 } s m args below meth c H locs 0 0 (MQ below (x_Qc D aC ad T nx none q A) args s 0 0 A) (F0 m 107 ls []) := by
  obtain ⟨hx, hb, hr, hml, hown, hts, hlocks, hK, hA, hX⟩ := id C0
  intro w H locs ls hf hH hS hl
  unfold f_Mod_lessenComing_107 at hf
  cases hf
  refine x_sz0 hS (fun hz => ?_)
  exact W.vret hx hb hr (fun t ht hW => ⟨rfl, hS.F ht, by rw [ht]; exact hz, by rw [ht]; exact hH.weaken (fun _ _ _ => trivial)⟩) hS.2.2 d_Mod_lessenComing_107
set_option maxHeartbeats 4000000 in
set_option maxRecDepth 100000 in
theorem k_Mod_lessenComing_58 {p : Program} {l : Launch} {e : Env} {s : State} {m : MethodId} {args : Array Value} {below : List Frame} {meth : Method} {c : Code} {D : va_G} {aC : Nat → ClassId} {ad : Nat → Nat} {T : x_T} {nx : Nat} {A : Nat → Prop} {q : x_W} (C0 : x_At p s m meth c args "WallDampModel" b_Mod_lessenComing none 7 D aC A) : ∀ (n : Nat), ∀ (w : x_W) (H : Heap) (locs : List Loc) (ls : Array Slot) (l0 : Nat) (l1 : Int32) (l2 : Int64) (l4 : Int64) (l6 : Int32), f_Mod_lessenComing_58 T n w l0 l1 l2 l4 l6 = some q → x_H D x_cl x_FT aC ad T nx A w H → va_S A s.heap H locs → lv_has ls 7 [(0, .ref (ad l0)), (1, .int l1), (2, .long l2), (4, .long l4), (6, .int l6)] → W p l e { frames := 1, cells := 0, slots := 0, locals := 21 } s m args below meth c H locs 0 0 (MQ below (x_Qc D aC ad T nx none q A) args s 0 0 A) (F0 m 58 ls []) := by
  obtain ⟨hx, hb, hr, hml, hown, hts, hlocks, hK, hA, hX⟩ := id C0
  intro n
  induction n with
  | zero => intro w H locs ls l0 l1 l2 l4 l6 hf; cases (show none = some q from hf)
  | succ n ih =>
    intro w H locs ls l0 l1 l2 l4 l6 hf hH hS hl
    unfold f_Mod_lessenComing_58 at hf
    refine lv_iload hx hb d_Mod_lessenComing_58 (lv_at hl 4 rfl) ?_
    refine lv_bipush (v := 6) hx hb d_Mod_lessenComing_60 (by decide) ?_
    refine lv_icmp_ge (tgt := 107) hx hb d_Mod_lessenComing_62 (by decide) (fun c1 => ?_) (fun c1 => ?_)
    · have hf := x_it hf c1
      exact k_Mod_lessenComing_107 C0 w _ _ _ hf hH hS (lv_sub hl [] rfl)
    · have hf := x_if hf c1
      refine lv_lload hx hb d_Mod_lessenComing_65 (lv_at hl 3 rfl) ?_
      refine lv_lload_n hx hb d_Mod_lessenComing_67 rfl (lv_at hl 2 rfl) ?_
      refine W.lcmp hx hb d_Mod_lessenComing_68 ?_
      refine lv_if_le (tgt := 107) hx hb d_Mod_lessenComing_69 (by decide) (fun c2 => ?_) (fun c2 => ?_)
      · have hf := x_it hf c2
        exact k_Mod_lessenComing_107 C0 w _ _ _ hf hH hS (lv_sub hl [] rfl)
      · have hf := x_if hf c2
        refine lv_aload_n hx hb d_Mod_lessenComing_72 rfl (lv_at hl 0 rfl) ?_
        obtain ⟨_, e3, hf⟩ := x_b hf
        obtain ⟨n4, hT5⟩ := x_is_e e3
        obtain ⟨a6, e7, hf⟩ := x_b hf
        refine x_get (C := "WallDampModel") (F := F_Mod) (N := 51) hx hb hts i_Mod hown hK hH hT5 (by decide) rfl 41 (by decide) (hts _ m_834) (fun _ h9 => h9) (kd := (2, 105)) rfl (x_fr e7) d_Mod_lessenComing_73 ?_
        refine lv_bipush (v := 6) hx hb d_Mod_lessenComing_76 (by decide) ?_
        refine lv_iload_n hx hb d_Mod_lessenComing_78 rfl (lv_at hl 1 rfl) ?_
        refine lv_imul hx hb d_Mod_lessenComing_79 ?_
        refine lv_iload hx hb d_Mod_lessenComing_80 (lv_at hl 4 rfl) ?_
        refine lv_iadd hx hb d_Mod_lessenComing_82 ?_
        refine lv_aload_n hx hb d_Mod_lessenComing_83 rfl (lv_at hl 0 rfl) ?_
        obtain ⟨a8, e9, hf⟩ := x_b hf
        refine x_get (C := "WallDampModel") (F := F_Mod) (N := 51) hx hb hts i_Mod hown hK hH hT5 (by decide) rfl 41 (by decide) (hts _ m_834) (fun _ h9 => h9) (kd := (2, 105)) rfl (x_fr e9) d_Mod_lessenComing_84 ?_
        refine lv_bipush (v := 6) hx hb d_Mod_lessenComing_87 (by decide) ?_
        refine lv_iload_n hx hb d_Mod_lessenComing_89 rfl (lv_at hl 1 rfl) ?_
        refine lv_imul hx hb d_Mod_lessenComing_90 ?_
        refine lv_iload hx hb d_Mod_lessenComing_91 (lv_at hl 4 rfl) ?_
        refine lv_iadd hx hb d_Mod_lessenComing_93 ?_
        obtain ⟨_, e10, hf⟩ := x_b hf
        obtain ⟨n11, hT12, hi13⟩ := x_ix_e e10
        refine x_lald hx hb hK hH hT12 1 rfl hi13 d_Mod_lessenComing_94 ?_
        refine lv_lload_n hx hb d_Mod_lessenComing_95 rfl (lv_at hl 2 rfl) ?_
        refine lv_lmul hx hb d_Mod_lessenComing_96 ?_
        refine lv_lload hx hb d_Mod_lessenComing_97 (lv_at hl 3 rfl) ?_
        obtain ⟨_, e14, hf⟩ := x_b hf
        refine lv_ldiv hx hb d_Mod_lessenComing_99 (x_nzl_e e14) ?_
        obtain ⟨_, e15, hf⟩ := x_b hf
        obtain ⟨n16, hT17, hi18⟩ := x_ix_e e15
        refine x_last hx hb hK hH hS hT17 1 rfl hi18 d_Mod_lessenComing_100 (fun H locs hH hS => ?_)
        obtain ⟨w19, e20, hf⟩ := x_b hf
        have hH := x_nw e20 hH
        refine lv_iinc (v := (l6 + 1)) (lv' := [(6, .int (l6 + 1)), (0, .ref (ad l0)), (1, .int l1), (2, .long l2), (4, .long l4)]) hx hb d_Mod_lessenComing_101 hl (k := 4) rfl rfl (by decide) rfl (fun ls hl => ?_)
        refine lv_goto (tgt := 58) hx hb d_Mod_lessenComing_104 (by decide) ?_
        exact ih w19 _ _ _ l0 l1 l2 l4 (l6 + 1) hf hH hS (lv_sub hl [1, 2, 3, 4, 0] rfl)
set_option maxHeartbeats 4000000 in
set_option maxRecDepth 100000 in
theorem k_Mod_lessenComing_25 {p : Program} {l : Launch} {e : Env} {s : State} {m : MethodId} {args : Array Value} {below : List Frame} {meth : Method} {c : Code} {D : va_G} {aC : Nat → ClassId} {ad : Nat → Nat} {T : x_T} {nx : Nat} {A : Nat → Prop} {q : x_W} (C0 : x_At p s m meth c args "WallDampModel" b_Mod_lessenComing none 7 D aC A) : ∀ (n : Nat), ∀ (w : x_W) (H : Heap) (locs : List Loc) (ls : Array Slot) (l0 : Nat) (l1 : Int32) (l2 : Int64) (l4 : Int64) (l6 : Int32), f_Mod_lessenComing_25 T n w l0 l1 l2 l4 l6 = some q → x_H D x_cl x_FT aC ad T nx A w H → va_S A s.heap H locs → lv_has ls 7 [(0, .ref (ad l0)), (1, .int l1), (2, .long l2), (4, .long l4), (6, .int l6)] → W p l e { frames := 1, cells := 0, slots := 0, locals := 21 } s m args below meth c H locs 0 0 (MQ below (x_Qc D aC ad T nx none q A) args s 0 0 A) (F0 m 25 ls []) := by
  obtain ⟨hx, hb, hr, hml, hown, hts, hlocks, hK, hA, hX⟩ := id C0
  intro n
  induction n with
  | zero => intro w H locs ls l0 l1 l2 l4 l6 hf; cases (show none = some q from hf)
  | succ n ih =>
    intro w H locs ls l0 l1 l2 l4 l6 hf hH hS hl
    unfold f_Mod_lessenComing_25 at hf
    refine lv_iload hx hb d_Mod_lessenComing_25 (lv_at hl 4 rfl) ?_
    refine lv_bipush (v := 6) hx hb d_Mod_lessenComing_27 (by decide) ?_
    refine lv_icmp_ge (tgt := 55) hx hb d_Mod_lessenComing_29 (by decide) (fun c1 => ?_) (fun c1 => ?_)
    · have hf := x_it hf c1
      refine lv_iconst (v := 0) hx hb d_Mod_lessenComing_55 (by decide) ?_
      refine lv_istore (lv' := [(6, .int (0 : Int32)), (0, .ref (ad l0)), (1, .int l1), (2, .long l2), (4, .long l4)]) hx hb d_Mod_lessenComing_56 hl (by decide) rfl (fun ls hl => ?_)
      exact k_Mod_lessenComing_58 C0 1000 w _ _ _ l0 l1 l2 l4 (0 : Int32) hf hH hS (lv_sub hl [1, 2, 3, 4, 0] rfl)
    · have hf := x_if hf c1
      refine lv_lload hx hb d_Mod_lessenComing_32 (lv_at hl 3 rfl) ?_
      refine lv_aload_n hx hb d_Mod_lessenComing_34 rfl (lv_at hl 0 rfl) ?_
      obtain ⟨_, e2, hf⟩ := x_b hf
      obtain ⟨n3, hT4⟩ := x_is_e e2
      obtain ⟨a5, e6, hf⟩ := x_b hf
      refine x_get (C := "WallDampModel") (F := F_Mod) (N := 51) hx hb hts i_Mod hown hK hH hT4 (by decide) rfl 41 (by decide) (hts _ m_834) (fun _ h9 => h9) (kd := (2, 105)) rfl (x_fr e6) d_Mod_lessenComing_35 ?_
      refine lv_bipush (v := 6) hx hb d_Mod_lessenComing_38 (by decide) ?_
      refine lv_iload_n hx hb d_Mod_lessenComing_40 rfl (lv_at hl 1 rfl) ?_
      refine lv_imul hx hb d_Mod_lessenComing_41 ?_
      refine lv_iload hx hb d_Mod_lessenComing_42 (lv_at hl 4 rfl) ?_
      refine lv_iadd hx hb d_Mod_lessenComing_44 ?_
      obtain ⟨_, e7, hf⟩ := x_b hf
      obtain ⟨n8, hT9, hi10⟩ := x_ix_e e7
      refine x_lald hx hb hK hH hT9 1 rfl hi10 d_Mod_lessenComing_45 ?_
      refine lv_ladd hx hb d_Mod_lessenComing_46 ?_
      obtain ⟨v11, e12, hf⟩ := x_b hf
      refine x_nml e12 ?_
      refine lv_lstore (lv' := [(4, .long v11), (0, .ref (ad l0)), (1, .int l1), (2, .long l2), (6, .int l6)]) hx hb d_Mod_lessenComing_47 hl (by decide) rfl (fun ls hl => ?_)
      refine lv_iinc (v := (l6 + 1)) (lv' := [(6, .int (l6 + 1)), (4, .long v11), (0, .ref (ad l0)), (1, .int l1), (2, .long l2)]) hx hb d_Mod_lessenComing_49 hl (k := 4) rfl rfl (by decide) rfl (fun ls hl => ?_)
      refine lv_goto (tgt := 25) hx hb d_Mod_lessenComing_52 (by decide) ?_
      exact ih w _ _ _ l0 l1 l2 v11 (l6 + 1) hf hH hS (lv_sub hl [2, 3, 4, 1, 0] rfl)
set_option maxHeartbeats 4000000 in
set_option maxRecDepth 100000 in
theorem k_Mod_lessenComing {p : Program} {l : Launch} {e : Env} {s : State} {m : MethodId} {args : Array Value} {below : List Frame} {meth : Method} {c : Code} {D : va_G} {aC : Nat → ClassId} {ad : Nat → Nat} {T : x_T} {nx : Nat} {A : Nat → Prop} {q : x_W} (C0 : x_At p s m meth c args "WallDampModel" b_Mod_lessenComing none 7 D aC A) : ∀ (w : x_W) (H : Heap) (locs : List Loc) (ls : Array Slot) (l0 : Nat) (l1 : Int32), f_Mod_lessenComing T w l0 l1 = some q → x_H D x_cl x_FT aC ad T nx A w H → va_S A s.heap H locs → lv_has ls 7 [(0, .ref (ad l0)), (1, .int l1)] → W p l e { frames := 1, cells := 0, slots := 0, locals := 21 } s m args below meth c H locs 0 0 (MQ below (x_Qc D aC ad T nx none q A) args s 0 0 A) (F0 m 0 ls []) := by
  obtain ⟨hx, hb, hr, hml, hown, hts, hlocks, hK, hA, hX⟩ := id C0
  intro w H locs ls l0 l1 hf hH hS hl
  unfold f_Mod_lessenComing at hf
  refine lv_aload_n hx hb d_Mod_lessenComing_0 rfl (lv_at hl 0 rfl) ?_
  refine lv_aload_n hx hb d_Mod_lessenComing_1 rfl (lv_at hl 0 rfl) ?_
  obtain ⟨_, e1, hf⟩ := x_b hf
  obtain ⟨n2, hT3⟩ := x_is_e e1
  obtain ⟨a4, e5, hf⟩ := x_b hf
  refine x_get (C := "WallDampModel") (F := F_Mod) (N := 51) hx hb hts i_Mod hown hK hH hT3 (by decide) rfl 8 (by decide) (hts _ m_801) (fun _ h9 => h9) (kd := (2, 72)) rfl (x_fr e5) d_Mod_lessenComing_2 ?_
  refine lv_iload_n hx hb d_Mod_lessenComing_5 rfl (lv_at hl 1 rfl) ?_
  obtain ⟨_, e6, hf⟩ := x_b hf
  obtain ⟨n7, hT8, hi9⟩ := x_ix_e e6
  refine x_iald hx hb hK hH hT8 0 rfl hi9 d_Mod_lessenComing_6 ?_
  obtain ⟨q10, e11, hf⟩ := x_b hf
  refine x_callP (st1 := [.int q10]) (x_runV (As := [.int (x_A w a4 l1.toNatClampNeg)]) (rest := []) ⟨hx, hb, hml, hown, hts⟩ (c_Mod_most l D aC ad T nx H.size w l0 (x_A w a4 l1.toNatClampNeg) q10 e11) (cwV 1 hts (x_gV m_963 m_965 ms_15 m_13 m_966) rfl rfl rfl ⟨rfl, pd_Mod_most⟩ ⟨Nat.le_of_ble_eq_true rfl, Nat.le_of_ble_eq_true rfl⟩) hH hK hX hT3 (by decide) rfl rfl rfl hl.1 rfl (lv_room (Nat.le_of_ble_eq_true rfl)) d_Mod_lessenComing_7 ⟨Nat.zero_le _, Nat.zero_le _⟩) rfl ?_
  refine lv_i2l (v := q10.toInt64) hx hb d_Mod_lessenComing_10 rfl ?_
  refine lv_aload_n hx hb d_Mod_lessenComing_11 rfl (lv_at hl 0 rfl) ?_
  obtain ⟨a12, e13, hf⟩ := x_b hf
  refine x_get (C := "WallDampModel") (F := F_Mod) (N := 51) hx hb hts i_Mod hown hK hH hT3 (by decide) rfl 10 (by decide) (hts _ m_803) (fun _ h9 => h9) (kd := (2, 74)) rfl (x_fr e13) d_Mod_lessenComing_12 ?_
  refine lv_iload_n hx hb d_Mod_lessenComing_15 rfl (lv_at hl 1 rfl) ?_
  obtain ⟨_, e14, hf⟩ := x_b hf
  obtain ⟨n15, hT16, hi17⟩ := x_ix_e e14
  refine x_lald hx hb hK hH hT16 1 rfl hi17 d_Mod_lessenComing_16 ?_
  refine lv_lsub hx hb d_Mod_lessenComing_17 ?_
  obtain ⟨v18, e19, hf⟩ := x_b hf
  refine x_nml e19 ?_
  refine lv_lstore_n (lv' := [(2, .long v18), (0, .ref (ad l0)), (1, .int l1)]) hx hb d_Mod_lessenComing_18 rfl hl (by decide) rfl (fun ls hl => ?_)
  refine lv_lconst (v := 0) hx hb d_Mod_lessenComing_19 (by decide) ?_
  refine lv_lstore (lv' := [(4, .long (0 : Int64)), (2, .long v18), (0, .ref (ad l0)), (1, .int l1)]) hx hb d_Mod_lessenComing_20 hl (by decide) rfl (fun ls hl => ?_)
  refine lv_iconst (v := 0) hx hb d_Mod_lessenComing_22 (by decide) ?_
  refine lv_istore (lv' := [(6, .int (0 : Int32)), (4, .long (0 : Int64)), (2, .long v18), (0, .ref (ad l0)), (1, .int l1)]) hx hb d_Mod_lessenComing_23 hl (by decide) rfl (fun ls hl => ?_)
  exact k_Mod_lessenComing_25 C0 1000 w _ _ _ l0 l1 v18 (0 : Int64) (0 : Int32) hf hH hS (lv_sub hl [3, 4, 2, 1, 0] rfl)
theorem c_Mod_lessenComing (l : Launch) (D : va_G) (aC : Nat → ClassId) (ad : Nat → Nat) (T : x_T) (nx sz : Nat) (w : x_W) (a0 : Nat) (a1 : Int32) (q : x_W) (hf : f_Mod_lessenComing T w a0 a1 = some q) : Met l y_Mod_lessenComing ws_Mod_lessenComing { frames := 1, cells := 0, slots := 0, locals := 21 } (x_Pc D aC ad T nx sz w [.ref (ad a0), .int a1]) (x_Qc D aC ad T nx none q (x_dom ad nx sz)) 0 0 (x_dom ad nx sz) :=
  x_met [(0, .ref (ad a0)), (1, .int a1)] (plainFor_of_name (by decide)) rfl rfl (Nat.le_of_ble_eq_true rfl) (fun p e s m args below meth c ls C0 hH hS hl => k_Mod_lessenComing C0 w _ _ _ a0 a1 hf hH hS (lv_sub hl [0, 1] rfl))
/-! WallDampModel.move()V -/
def f_Mod_move_171 (T : x_T) (K44 : x_W → Nat → Int32 → Option (x_W)) (K54 : x_W → Nat → Int32 → Int32 → Option (x_W)) (w : x_W) (l0 : Nat) (l1 : Int32) (l2 : Int32) : Option (x_W) :=
  K54 w l0 l1 (l2 + 1)
def f_Mod_move_135 (T : x_T) (K44 : x_W → Nat → Int32 → Option (x_W)) (K54 : x_W → Nat → Int32 → Int32 → Option (x_W)) (w : x_W) (l0 : Nat) (l1 : Int32) (l2 : Int32) (l3 : Int64) (t0 : Nat) (t1 : Int32) : Option (x_W) :=
  (x_ix T t0 101 t1).bind fun _ =>
  (x_ix T t0 101 t1).bind fun _ =>
  (some (x_sB w t0 t1.toNatClampNeg ((x_B w t0 t1.toNatClampNeg) - l3))).bind fun w9 =>
  f_Mod_move_171 T K44 K54 w9 l0 l1 l2
def f_Mod_move_101 (T : x_T) (K44 : x_W → Nat → Int32 → Option (x_W)) (K54 : x_W → Nat → Int32 → Int32 → Option (x_W)) (w : x_W) (l0 : Nat) (l1 : Int32) (l2 : Int32) (l3 : Int64) (t0 : Nat) (t1 : Int32) : Option (x_W) :=
  (x_ix T t0 101 t1).bind fun _ =>
  (x_ix T t0 101 t1).bind fun _ =>
  (some (x_sB w t0 t1.toNatClampNeg ((x_B w t0 t1.toNatClampNeg) - l3))).bind fun w9 =>
  f_Mod_move_171 T K44 K54 w9 l0 l1 l2
def f_Mod_move_54 (T : x_T) (K44 : x_W → Nat → Int32 → Option (x_W)) : Nat → x_W → Nat → Int32 → Int32 → Option (x_W)
  | 0, _, _, _, _ => none
  | n + 1, w, l0, l1, l2 =>
    if (6 : Int32) ≤ l2 then
      (K44 w l0 (l1 + 1))
    else
      ((x_is T l0 10).bind fun _ =>
      (x_R w 105 l0).bind fun a5 =>
      (x_ix T a5 101 (((6 : Int32) * l1) + l2)).bind fun _ =>
      (some ((x_B w a5 (((6 : Int32) * l1) + l2).toNatClampNeg))).bind fun v11 =>
      (x_R w 74 l0).bind fun a13 =>
      (x_ix T a13 101 l1).bind fun _ =>
      (x_ix T a13 101 l1).bind fun _ =>
      (some (x_sB w a13 l1.toNatClampNeg ((x_B w a13 l1.toNatClampNeg) + v11))).bind fun w23 =>
      if l2 = 0 then
        ((x_R w23 74 l0).bind fun a35 =>
        if l1 ≤ 0 then
          (f_Mod_move_101 T K44 (f_Mod_move_54 T K44 n) w23 l0 l1 l2 v11 a35 (0 : Int32))
        else
          (f_Mod_move_101 T K44 (f_Mod_move_54 T K44 n) w23 l0 l1 l2 v11 a35 (l1 - (1 : Int32))))
      else
        (if l2 = (1 : Int32) then
          ((x_R w23 74 l0).bind fun a32 =>
          if (x_I w23 65 l0) ≤ (l1 + (1 : Int32)) then
            (f_Mod_move_135 T K44 (f_Mod_move_54 T K44 n) w23 l0 l1 l2 v11 a32 l1)
          else
            (f_Mod_move_135 T K44 (f_Mod_move_54 T K44 n) w23 l0 l1 l2 v11 a32 (l1 + (1 : Int32))))
        else
          (if (4 : Int32) ≤ l2 then
            ((some (x_sJ w23 99 l0 ((x_J w23 99 l0) + v11))).bind fun w28 =>
            f_Mod_move_171 T K44 (f_Mod_move_54 T K44 n) w28 l0 l1 l2)
          else
            ((some (x_sJ w23 98 l0 ((x_J w23 98 l0) + v11))).bind fun w30 =>
            f_Mod_move_171 T K44 (f_Mod_move_54 T K44 n) w30 l0 l1 l2))))
def f_Mod_move_44 (T : x_T) : Nat → x_W → Nat → Int32 → Option (x_W)
  | 0, _, _, _ => none
  | n + 1, w, l0, l1 =>
    (x_is T l0 10).bind fun _ =>
    if (x_I w 65 l0) ≤ l1 then
      ((x_R w 74 l0).bind fun a5 =>
      (x_ix T a5 101 (0 : Int32)).bind fun _ =>
      (x_ix T a5 101 (0 : Int32)).bind fun _ =>
      (some (x_sB w a5 (0 : Int32).toNatClampNeg ((x_B w a5 (0 : Int32).toNatClampNeg) - (x_J w 106 l0)))).bind fun w15 =>
      (some (x_sJ w15 100 l0 ((x_J w15 100 l0) + (x_J w15 106 l0)))).bind fun w17 =>
      (x_R w17 74 l0).bind fun a19 =>
      (x_ix T a19 101 ((x_I w17 65 l0) - (1 : Int32))).bind fun _ =>
      (x_ix T a19 101 ((x_I w17 65 l0) - (1 : Int32))).bind fun _ =>
      (some (x_sB w17 a19 ((x_I w17 65 l0) - (1 : Int32)).toNatClampNeg ((x_B w17 a19 ((x_I w17 65 l0) - (1 : Int32)).toNatClampNeg) - (x_J w17 107 l0)))).bind fun w29 =>
      (some (x_sJ w29 101 l0 ((x_J w29 101 l0) + (x_J w29 107 l0)))).bind fun w31 =>
      some w31)
    else
      (f_Mod_move_54 T (f_Mod_move_44 T n) 1000 w l0 l1 (0 : Int32))
def f_Mod_move_23 (T : x_T) : Nat → x_W → Nat → Int32 → Option (x_W)
  | 0, _, _, _ => none
  | n + 1, w, l0, l1 =>
    (x_is T l0 10).bind fun _ =>
    if (x_I w 65 l0) ≤ l1 then
      (f_Mod_move_44 T 1000 w l0 (0 : Int32))
    else
      ((f_Mod_lessenComing T w l0 l1).bind fun q5 =>
      f_Mod_move_23 T n q5 l0 (l1 + 1))
def f_Mod_move_2 (T : x_T) : Nat → x_W → Nat → Int32 → Option (x_W)
  | 0, _, _, _ => none
  | n + 1, w, l0, l1 =>
    (x_is T l0 10).bind fun _ =>
    if (x_I w 65 l0) ≤ l1 then
      (f_Mod_move_23 T 1000 w l0 (0 : Int32))
    else
      ((f_Mod_lessenLeaving T w l0 l1).bind fun q5 =>
      f_Mod_move_2 T n q5 l0 (l1 + 1))
def f_Mod_move (T : x_T) (w : x_W) (l0 : Nat) : Option (x_W) :=
  f_Mod_move_2 T 1000 w l0 (0 : Int32)
set_option maxHeartbeats 4000000 in
set_option maxRecDepth 100000 in
theorem k_Mod_move_171 {p : Program} {l : Launch} {e : Env} {s : State} {m : MethodId} {args : Array Value} {below : List Frame} {meth : Method} {c : Code} {D : va_G} {aC : Nat → ClassId} {ad : Nat → Nat} {T : x_T} {nx : Nat} {A : Nat → Prop} {q : x_W} (C0 : x_At p s m meth c args "WallDampModel" b_Mod_move none 5 D aC A) {K44 : x_W → Nat → Int32 → Option (x_W)} (hK44 : ∀ (w : x_W) (H : Heap) (locs : List Loc) (ls : Array Slot) (l0 : Nat) (l1 : Int32), K44 w l0 l1 = some q → x_H D x_cl x_FT aC ad T nx A w H → va_S A s.heap H locs → lv_has ls 5 [(0, .ref (ad l0)), (1, .int l1)] → W p l e { frames := 2, cells := 0, slots := 0, locals := 47 } s m args below meth c H locs 0 0 (MQ below (x_Qc D aC ad T nx none q A) args s 0 0 A) (F0 m 44 ls [])) {K54 : x_W → Nat → Int32 → Int32 → Option (x_W)} (hK54 : ∀ (w : x_W) (H : Heap) (locs : List Loc) (ls : Array Slot) (l0 : Nat) (l1 : Int32) (l2 : Int32), K54 w l0 l1 l2 = some q → x_H D x_cl x_FT aC ad T nx A w H → va_S A s.heap H locs → lv_has ls 5 [(0, .ref (ad l0)), (1, .int l1), (2, .int l2)] → W p l e { frames := 2, cells := 0, slots := 0, locals := 47 } s m args below meth c H locs 0 0 (MQ below (x_Qc D aC ad T nx none q A) args s 0 0 A) (F0 m 54 ls [])) : ∀ (w : x_W) (H : Heap) (locs : List Loc) (ls : Array Slot) (l0 : Nat) (l1 : Int32) (l2 : Int32), f_Mod_move_171 T K44 K54 w l0 l1 l2 = some q → x_H D x_cl x_FT aC ad T nx A w H → va_S A s.heap H locs → lv_has ls 5 [(0, .ref (ad l0)), (1, .int l1), (2, .int l2)] → W p l e { frames := 2, cells := 0, slots := 0, locals := 47 } s m args below meth c H locs 0 0 (MQ below (x_Qc D aC ad T nx none q A) args s 0 0 A) (F0 m 171 ls []) := by
  obtain ⟨hx, hb, hr, hml, hown, hts, hlocks, hK, hA, hX⟩ := id C0
  intro w H locs ls l0 l1 l2 hf hH hS hl
  unfold f_Mod_move_171 at hf
  refine lv_iinc (v := (l2 + 1)) (lv' := [(2, .int (l2 + 1)), (0, .ref (ad l0)), (1, .int l1)]) hx hb d_Mod_move_171 hl (k := 2) rfl rfl (by decide) rfl (fun ls hl => ?_)
  refine lv_goto (tgt := 54) hx hb d_Mod_move_174 (by decide) ?_
  exact hK54 w _ _ _ l0 l1 (l2 + 1) hf hH hS (lv_sub hl [1, 2, 0] rfl)
set_option maxHeartbeats 4000000 in
set_option maxRecDepth 100000 in
theorem k_Mod_move_135 {p : Program} {l : Launch} {e : Env} {s : State} {m : MethodId} {args : Array Value} {below : List Frame} {meth : Method} {c : Code} {D : va_G} {aC : Nat → ClassId} {ad : Nat → Nat} {T : x_T} {nx : Nat} {A : Nat → Prop} {q : x_W} (C0 : x_At p s m meth c args "WallDampModel" b_Mod_move none 5 D aC A) {K44 : x_W → Nat → Int32 → Option (x_W)} (hK44 : ∀ (w : x_W) (H : Heap) (locs : List Loc) (ls : Array Slot) (l0 : Nat) (l1 : Int32), K44 w l0 l1 = some q → x_H D x_cl x_FT aC ad T nx A w H → va_S A s.heap H locs → lv_has ls 5 [(0, .ref (ad l0)), (1, .int l1)] → W p l e { frames := 2, cells := 0, slots := 0, locals := 47 } s m args below meth c H locs 0 0 (MQ below (x_Qc D aC ad T nx none q A) args s 0 0 A) (F0 m 44 ls [])) {K54 : x_W → Nat → Int32 → Int32 → Option (x_W)} (hK54 : ∀ (w : x_W) (H : Heap) (locs : List Loc) (ls : Array Slot) (l0 : Nat) (l1 : Int32) (l2 : Int32), K54 w l0 l1 l2 = some q → x_H D x_cl x_FT aC ad T nx A w H → va_S A s.heap H locs → lv_has ls 5 [(0, .ref (ad l0)), (1, .int l1), (2, .int l2)] → W p l e { frames := 2, cells := 0, slots := 0, locals := 47 } s m args below meth c H locs 0 0 (MQ below (x_Qc D aC ad T nx none q A) args s 0 0 A) (F0 m 54 ls [])) : ∀ (w : x_W) (H : Heap) (locs : List Loc) (ls : Array Slot) (l0 : Nat) (l1 : Int32) (l2 : Int32) (l3 : Int64) (t0 : Nat) (t1 : Int32), f_Mod_move_135 T K44 K54 w l0 l1 l2 l3 t0 t1 = some q → x_H D x_cl x_FT aC ad T nx A w H → va_S A s.heap H locs → lv_has ls 5 [(0, .ref (ad l0)), (1, .int l1), (2, .int l2), (3, .long l3)] → W p l e { frames := 2, cells := 0, slots := 0, locals := 47 } s m args below meth c H locs 0 0 (MQ below (x_Qc D aC ad T nx none q A) args s 0 0 A) (F0 m 135 ls [.int t1, .ref (ad t0)]) := by
  obtain ⟨hx, hb, hr, hml, hown, hts, hlocks, hK, hA, hX⟩ := id C0
  intro w H locs ls l0 l1 l2 l3 t0 t1 hf hH hS hl
  unfold f_Mod_move_135 at hf
  refine lv_dup2_11 hx hb d_Mod_move_135 rfl rfl ?_
  obtain ⟨_, e1, hf⟩ := x_b hf
  obtain ⟨n2, hT3, hi4⟩ := x_ix_e e1
  refine x_lald hx hb hK hH hT3 1 rfl hi4 d_Mod_move_136 ?_
  refine lv_lload_n hx hb d_Mod_move_137 rfl (lv_at hl 3 rfl) ?_
  refine lv_lsub hx hb d_Mod_move_138 ?_
  obtain ⟨_, e5, hf⟩ := x_b hf
  obtain ⟨n6, hT7, hi8⟩ := x_ix_e e5
  refine x_last hx hb hK hH hS hT7 1 rfl hi8 d_Mod_move_139 (fun H locs hH hS => ?_)
  obtain ⟨w9, e10, hf⟩ := x_b hf
  have hH := x_nw e10 hH
  refine lv_goto (tgt := 171) hx hb d_Mod_move_140 (by decide) ?_
  exact k_Mod_move_171 C0 hK44 hK54 w9 _ _ _ l0 l1 l2 hf hH hS (lv_sub hl [0, 1, 2] rfl)
set_option maxHeartbeats 4000000 in
set_option maxRecDepth 100000 in
theorem k_Mod_move_101 {p : Program} {l : Launch} {e : Env} {s : State} {m : MethodId} {args : Array Value} {below : List Frame} {meth : Method} {c : Code} {D : va_G} {aC : Nat → ClassId} {ad : Nat → Nat} {T : x_T} {nx : Nat} {A : Nat → Prop} {q : x_W} (C0 : x_At p s m meth c args "WallDampModel" b_Mod_move none 5 D aC A) {K44 : x_W → Nat → Int32 → Option (x_W)} (hK44 : ∀ (w : x_W) (H : Heap) (locs : List Loc) (ls : Array Slot) (l0 : Nat) (l1 : Int32), K44 w l0 l1 = some q → x_H D x_cl x_FT aC ad T nx A w H → va_S A s.heap H locs → lv_has ls 5 [(0, .ref (ad l0)), (1, .int l1)] → W p l e { frames := 2, cells := 0, slots := 0, locals := 47 } s m args below meth c H locs 0 0 (MQ below (x_Qc D aC ad T nx none q A) args s 0 0 A) (F0 m 44 ls [])) {K54 : x_W → Nat → Int32 → Int32 → Option (x_W)} (hK54 : ∀ (w : x_W) (H : Heap) (locs : List Loc) (ls : Array Slot) (l0 : Nat) (l1 : Int32) (l2 : Int32), K54 w l0 l1 l2 = some q → x_H D x_cl x_FT aC ad T nx A w H → va_S A s.heap H locs → lv_has ls 5 [(0, .ref (ad l0)), (1, .int l1), (2, .int l2)] → W p l e { frames := 2, cells := 0, slots := 0, locals := 47 } s m args below meth c H locs 0 0 (MQ below (x_Qc D aC ad T nx none q A) args s 0 0 A) (F0 m 54 ls [])) : ∀ (w : x_W) (H : Heap) (locs : List Loc) (ls : Array Slot) (l0 : Nat) (l1 : Int32) (l2 : Int32) (l3 : Int64) (t0 : Nat) (t1 : Int32), f_Mod_move_101 T K44 K54 w l0 l1 l2 l3 t0 t1 = some q → x_H D x_cl x_FT aC ad T nx A w H → va_S A s.heap H locs → lv_has ls 5 [(0, .ref (ad l0)), (1, .int l1), (2, .int l2), (3, .long l3)] → W p l e { frames := 2, cells := 0, slots := 0, locals := 47 } s m args below meth c H locs 0 0 (MQ below (x_Qc D aC ad T nx none q A) args s 0 0 A) (F0 m 101 ls [.int t1, .ref (ad t0)]) := by
  obtain ⟨hx, hb, hr, hml, hown, hts, hlocks, hK, hA, hX⟩ := id C0
  intro w H locs ls l0 l1 l2 l3 t0 t1 hf hH hS hl
  unfold f_Mod_move_101 at hf
  refine lv_dup2_11 hx hb d_Mod_move_101 rfl rfl ?_
  obtain ⟨_, e1, hf⟩ := x_b hf
  obtain ⟨n2, hT3, hi4⟩ := x_ix_e e1
  refine x_lald hx hb hK hH hT3 1 rfl hi4 d_Mod_move_102 ?_
  refine lv_lload_n hx hb d_Mod_move_103 rfl (lv_at hl 3 rfl) ?_
  refine lv_lsub hx hb d_Mod_move_104 ?_
  obtain ⟨_, e5, hf⟩ := x_b hf
  obtain ⟨n6, hT7, hi8⟩ := x_ix_e e5
  refine x_last hx hb hK hH hS hT7 1 rfl hi8 d_Mod_move_105 (fun H locs hH hS => ?_)
  obtain ⟨w9, e10, hf⟩ := x_b hf
  have hH := x_nw e10 hH
  refine lv_goto (tgt := 171) hx hb d_Mod_move_106 (by decide) ?_
  exact k_Mod_move_171 C0 hK44 hK54 w9 _ _ _ l0 l1 l2 hf hH hS (lv_sub hl [0, 1, 2] rfl)
set_option maxHeartbeats 4000000 in
set_option maxRecDepth 100000 in
theorem k_Mod_move_54 {p : Program} {l : Launch} {e : Env} {s : State} {m : MethodId} {args : Array Value} {below : List Frame} {meth : Method} {c : Code} {D : va_G} {aC : Nat → ClassId} {ad : Nat → Nat} {T : x_T} {nx : Nat} {A : Nat → Prop} {q : x_W} (C0 : x_At p s m meth c args "WallDampModel" b_Mod_move none 5 D aC A) {K44 : x_W → Nat → Int32 → Option (x_W)} (hK44 : ∀ (w : x_W) (H : Heap) (locs : List Loc) (ls : Array Slot) (l0 : Nat) (l1 : Int32), K44 w l0 l1 = some q → x_H D x_cl x_FT aC ad T nx A w H → va_S A s.heap H locs → lv_has ls 5 [(0, .ref (ad l0)), (1, .int l1)] → W p l e { frames := 2, cells := 0, slots := 0, locals := 47 } s m args below meth c H locs 0 0 (MQ below (x_Qc D aC ad T nx none q A) args s 0 0 A) (F0 m 44 ls [])) : ∀ (n : Nat), ∀ (w : x_W) (H : Heap) (locs : List Loc) (ls : Array Slot) (l0 : Nat) (l1 : Int32) (l2 : Int32), f_Mod_move_54 T K44 n w l0 l1 l2 = some q → x_H D x_cl x_FT aC ad T nx A w H → va_S A s.heap H locs → lv_has ls 5 [(0, .ref (ad l0)), (1, .int l1), (2, .int l2)] → W p l e { frames := 2, cells := 0, slots := 0, locals := 47 } s m args below meth c H locs 0 0 (MQ below (x_Qc D aC ad T nx none q A) args s 0 0 A) (F0 m 54 ls []) := by
  obtain ⟨hx, hb, hr, hml, hown, hts, hlocks, hK, hA, hX⟩ := id C0
  intro n
  induction n with
  | zero => intro w H locs ls l0 l1 l2 hf; cases (show none = some q from hf)
  | succ n ih =>
    intro w H locs ls l0 l1 l2 hf hH hS hl
    unfold f_Mod_move_54 at hf
    refine lv_iload_n hx hb d_Mod_move_54 rfl (lv_at hl 2 rfl) ?_
    refine lv_bipush (v := 6) hx hb d_Mod_move_55 (by decide) ?_
    refine lv_icmp_ge (tgt := 177) hx hb d_Mod_move_57 (by decide) (fun c1 => ?_) (fun c1 => ?_)
    · have hf := x_it hf c1
      refine lv_iinc (v := (l1 + 1)) (lv' := [(1, .int (l1 + 1)), (0, .ref (ad l0)), (2, .int l2)]) hx hb d_Mod_move_177 hl (k := 1) rfl rfl (by decide) rfl (fun ls hl => ?_)
      refine lv_goto (tgt := 44) hx hb d_Mod_move_180 (by decide) ?_
      exact hK44 w _ _ _ l0 (l1 + 1) hf hH hS (lv_sub hl [1, 0] rfl)
    · have hf := x_if hf c1
      refine lv_aload_n hx hb d_Mod_move_60 rfl (lv_at hl 0 rfl) ?_
      obtain ⟨_, e2, hf⟩ := x_b hf
      obtain ⟨n3, hT4⟩ := x_is_e e2
      obtain ⟨a5, e6, hf⟩ := x_b hf
      refine x_get (C := "WallDampModel") (F := F_Mod) (N := 51) hx hb hts i_Mod hown hK hH hT4 (by decide) rfl 41 (by decide) (hts _ m_834) (fun _ h9 => h9) (kd := (2, 105)) rfl (x_fr e6) d_Mod_move_61 ?_
      refine lv_bipush (v := 6) hx hb d_Mod_move_64 (by decide) ?_
      refine lv_iload_n hx hb d_Mod_move_66 rfl (lv_at hl 1 rfl) ?_
      refine lv_imul hx hb d_Mod_move_67 ?_
      refine lv_iload_n hx hb d_Mod_move_68 rfl (lv_at hl 2 rfl) ?_
      refine lv_iadd hx hb d_Mod_move_69 ?_
      obtain ⟨_, e7, hf⟩ := x_b hf
      obtain ⟨n8, hT9, hi10⟩ := x_ix_e e7
      refine x_lald hx hb hK hH hT9 1 rfl hi10 d_Mod_move_70 ?_
      obtain ⟨v11, e12, hf⟩ := x_b hf
      refine x_nml e12 ?_
      refine lv_lstore_n (lv' := [(3, .long v11), (0, .ref (ad l0)), (1, .int l1), (2, .int l2)]) hx hb d_Mod_move_71 rfl hl (by decide) rfl (fun ls hl => ?_)
      refine lv_aload_n hx hb d_Mod_move_72 rfl (lv_at hl 1 rfl) ?_
      obtain ⟨a13, e14, hf⟩ := x_b hf
      refine x_get (C := "WallDampModel") (F := F_Mod) (N := 51) hx hb hts i_Mod hown hK hH hT4 (by decide) rfl 10 (by decide) (hts _ m_803) (fun _ h9 => h9) (kd := (2, 74)) rfl (x_fr e14) d_Mod_move_73 ?_
      refine lv_iload_n hx hb d_Mod_move_76 rfl (lv_at hl 2 rfl) ?_
      refine lv_dup2_11 hx hb d_Mod_move_77 rfl rfl ?_
      obtain ⟨_, e15, hf⟩ := x_b hf
      obtain ⟨n16, hT17, hi18⟩ := x_ix_e e15
      refine x_lald hx hb hK hH hT17 1 rfl hi18 d_Mod_move_78 ?_
      refine lv_lload_n hx hb d_Mod_move_79 rfl (lv_at hl 0 rfl) ?_
      refine lv_ladd hx hb d_Mod_move_80 ?_
      obtain ⟨_, e19, hf⟩ := x_b hf
      obtain ⟨n20, hT21, hi22⟩ := x_ix_e e19
      refine x_last hx hb hK hH hS hT21 1 rfl hi22 d_Mod_move_81 (fun H locs hH hS => ?_)
      obtain ⟨w23, e24, hf⟩ := x_b hf
      have hH := x_nw e24 hH
      refine lv_iload_n hx hb d_Mod_move_82 rfl (lv_at hl 3 rfl) ?_
      refine lv_if_ne (tgt := 109) hx hb d_Mod_move_83 (by decide) (fun c25 => ?_) (fun c25 => ?_)
      · have hf := x_if hf c25
        refine lv_iload_n hx hb d_Mod_move_109 rfl (lv_at hl 3 rfl) ?_
        refine lv_iconst (v := 1) hx hb d_Mod_move_110 (by decide) ?_
        refine lv_icmp_ne (tgt := 143) hx hb d_Mod_move_111 (by decide) (fun c26 => ?_) (fun c26 => ?_)
        · have hf := x_if hf c26
          refine lv_iload_n hx hb d_Mod_move_143 rfl (lv_at hl 3 rfl) ?_
          refine lv_iconst (v := 4) hx hb d_Mod_move_144 (by decide) ?_
          refine lv_icmp_ge (tgt := 161) hx hb d_Mod_move_145 (by decide) (fun c27 => ?_) (fun c27 => ?_)
          · have hf := x_it hf c27
            refine lv_aload_n hx hb d_Mod_move_161 rfl (lv_at hl 1 rfl) ?_
            refine lv_dup hx hb d_Mod_move_162 rfl ?_
            refine x_get (C := "WallDampModel") (F := F_Mod) (N := 51) hx hb hts i_Mod hown hK hH hT4 (by decide) rfl 35 (by decide) (hts _ m_828) (fun _ h9 => h9) (kd := (1, 99)) rfl rfl d_Mod_move_163 ?_
            refine lv_lload_n hx hb d_Mod_move_166 rfl (lv_at hl 0 rfl) ?_
            refine lv_ladd hx hb d_Mod_move_167 ?_
            refine x_put (C := "WallDampModel") (F := F_Mod) (N := 51) (ty := t_Mod 35) (v := .long ((x_J w23 99 l0) + v11)) (w' := x_sJ w23 99 l0 ((x_J w23 99 l0) + v11)) hx hb hts i_Mod t_Mod ty_Mod n_Mod hown hK hH hS hT4 (by decide) rfl rfl 35 (by decide) (hts _ m_828) (fun _ h9 => h9) rfl (ty_Mod 35 (by decide)) rfl rfl (x_on_J hT4 (by decide) rfl nd_Mod) (fun j hj => x_off_J hj) (fun hh ok => x_ok_J hh ok) d_Mod_move_168 (fun H locs hH hS => ?_)
            obtain ⟨w28, e29, hf⟩ := x_b hf
            have hH := x_nw e29 hH
            exact k_Mod_move_171 C0 hK44 ih w28 _ _ _ l0 l1 l2 hf hH hS (lv_sub hl [1, 2, 3] rfl)
          · have hf := x_if hf c27
            refine lv_aload_n hx hb d_Mod_move_148 rfl (lv_at hl 1 rfl) ?_
            refine lv_dup hx hb d_Mod_move_149 rfl ?_
            refine x_get (C := "WallDampModel") (F := F_Mod) (N := 51) hx hb hts i_Mod hown hK hH hT4 (by decide) rfl 34 (by decide) (hts _ m_827) (fun _ h9 => h9) (kd := (1, 98)) rfl rfl d_Mod_move_150 ?_
            refine lv_lload_n hx hb d_Mod_move_153 rfl (lv_at hl 0 rfl) ?_
            refine lv_ladd hx hb d_Mod_move_154 ?_
            refine x_put (C := "WallDampModel") (F := F_Mod) (N := 51) (ty := t_Mod 34) (v := .long ((x_J w23 98 l0) + v11)) (w' := x_sJ w23 98 l0 ((x_J w23 98 l0) + v11)) hx hb hts i_Mod t_Mod ty_Mod n_Mod hown hK hH hS hT4 (by decide) rfl rfl 34 (by decide) (hts _ m_827) (fun _ h9 => h9) rfl (ty_Mod 34 (by decide)) rfl rfl (x_on_J hT4 (by decide) rfl nd_Mod) (fun j hj => x_off_J hj) (fun hh ok => x_ok_J hh ok) d_Mod_move_155 (fun H locs hH hS => ?_)
            obtain ⟨w30, e31, hf⟩ := x_b hf
            have hH := x_nw e31 hH
            refine lv_goto (tgt := 171) hx hb d_Mod_move_158 (by decide) ?_
            exact k_Mod_move_171 C0 hK44 ih w30 _ _ _ l0 l1 l2 hf hH hS (lv_sub hl [1, 2, 3] rfl)
        · have hf := x_it hf c26
          refine lv_aload_n hx hb d_Mod_move_114 rfl (lv_at hl 1 rfl) ?_
          obtain ⟨a32, e33, hf⟩ := x_b hf
          refine x_get (C := "WallDampModel") (F := F_Mod) (N := 51) hx hb hts i_Mod hown hK hH hT4 (by decide) rfl 10 (by decide) (hts _ m_803) (fun _ h9 => h9) (kd := (2, 74)) rfl (x_fr e33) d_Mod_move_115 ?_
          refine lv_iload_n hx hb d_Mod_move_118 rfl (lv_at hl 2 rfl) ?_
          refine lv_iconst (v := 1) hx hb d_Mod_move_119 (by decide) ?_
          refine lv_iadd hx hb d_Mod_move_120 ?_
          refine lv_aload_n hx hb d_Mod_move_121 rfl (lv_at hl 1 rfl) ?_
          refine x_get (C := "WallDampModel") (F := F_Mod) (N := 51) hx hb hts i_Mod hown hK hH hT4 (by decide) rfl 1 (by decide) (hts _ m_794) (fun _ h9 => h9) (kd := (0, 65)) rfl rfl d_Mod_move_122 ?_
          refine lv_icmp_ge (tgt := 134) hx hb d_Mod_move_125 (by decide) (fun c34 => ?_) (fun c34 => ?_)
          · have hf := x_it hf c34
            refine lv_iload_n hx hb d_Mod_move_134 rfl (lv_at hl 2 rfl) ?_
            exact k_Mod_move_135 C0 hK44 ih w23 _ _ _ l0 l1 l2 v11 a32 l1 hf hH hS (lv_sub hl [1, 2, 3, 0] rfl)
          · have hf := x_if hf c34
            refine lv_iload_n hx hb d_Mod_move_128 rfl (lv_at hl 2 rfl) ?_
            refine lv_iconst (v := 1) hx hb d_Mod_move_129 (by decide) ?_
            refine lv_iadd hx hb d_Mod_move_130 ?_
            refine lv_goto (tgt := 135) hx hb d_Mod_move_131 (by decide) ?_
            exact k_Mod_move_135 C0 hK44 ih w23 _ _ _ l0 l1 l2 v11 a32 (l1 + (1 : Int32)) hf hH hS (lv_sub hl [1, 2, 3, 0] rfl)
      · have hf := x_it hf c25
        refine lv_aload_n hx hb d_Mod_move_86 rfl (lv_at hl 1 rfl) ?_
        obtain ⟨a35, e36, hf⟩ := x_b hf
        refine x_get (C := "WallDampModel") (F := F_Mod) (N := 51) hx hb hts i_Mod hown hK hH hT4 (by decide) rfl 10 (by decide) (hts _ m_803) (fun _ h9 => h9) (kd := (2, 74)) rfl (x_fr e36) d_Mod_move_87 ?_
        refine lv_iload_n hx hb d_Mod_move_90 rfl (lv_at hl 2 rfl) ?_
        refine lv_if_le (tgt := 100) hx hb d_Mod_move_91 (by decide) (fun c37 => ?_) (fun c37 => ?_)
        · have hf := x_it hf c37
          refine lv_iconst (v := 0) hx hb d_Mod_move_100 (by decide) ?_
          exact k_Mod_move_101 C0 hK44 ih w23 _ _ _ l0 l1 l2 v11 a35 (0 : Int32) hf hH hS (lv_sub hl [1, 2, 3, 0] rfl)
        · have hf := x_if hf c37
          refine lv_iload_n hx hb d_Mod_move_94 rfl (lv_at hl 2 rfl) ?_
          refine lv_iconst (v := 1) hx hb d_Mod_move_95 (by decide) ?_
          refine lv_isub hx hb d_Mod_move_96 ?_
          refine lv_goto (tgt := 101) hx hb d_Mod_move_97 (by decide) ?_
          exact k_Mod_move_101 C0 hK44 ih w23 _ _ _ l0 l1 l2 v11 a35 (l1 - (1 : Int32)) hf hH hS (lv_sub hl [1, 2, 3, 0] rfl)
set_option maxHeartbeats 4000000 in
set_option maxRecDepth 100000 in
theorem k_Mod_move_44 {p : Program} {l : Launch} {e : Env} {s : State} {m : MethodId} {args : Array Value} {below : List Frame} {meth : Method} {c : Code} {D : va_G} {aC : Nat → ClassId} {ad : Nat → Nat} {T : x_T} {nx : Nat} {A : Nat → Prop} {q : x_W} (C0 : x_At p s m meth c args "WallDampModel" b_Mod_move none 5 D aC A) : ∀ (n : Nat), ∀ (w : x_W) (H : Heap) (locs : List Loc) (ls : Array Slot) (l0 : Nat) (l1 : Int32), f_Mod_move_44 T n w l0 l1 = some q → x_H D x_cl x_FT aC ad T nx A w H → va_S A s.heap H locs → lv_has ls 5 [(0, .ref (ad l0)), (1, .int l1)] → W p l e { frames := 2, cells := 0, slots := 0, locals := 47 } s m args below meth c H locs 0 0 (MQ below (x_Qc D aC ad T nx none q A) args s 0 0 A) (F0 m 44 ls []) := by
  obtain ⟨hx, hb, hr, hml, hown, hts, hlocks, hK, hA, hX⟩ := id C0
  intro n
  induction n with
  | zero => intro w H locs ls l0 l1 hf; cases (show none = some q from hf)
  | succ n ih =>
    intro w H locs ls l0 l1 hf hH hS hl
    unfold f_Mod_move_44 at hf
    refine lv_iload_n hx hb d_Mod_move_44 rfl (lv_at hl 1 rfl) ?_
    refine lv_aload_n hx hb d_Mod_move_45 rfl (lv_at hl 0 rfl) ?_
    obtain ⟨_, e1, hf⟩ := x_b hf
    obtain ⟨n2, hT3⟩ := x_is_e e1
    refine x_get (C := "WallDampModel") (F := F_Mod) (N := 51) hx hb hts i_Mod hown hK hH hT3 (by decide) rfl 1 (by decide) (hts _ m_794) (fun _ h9 => h9) (kd := (0, 65)) rfl rfl d_Mod_move_46 ?_
    refine lv_icmp_ge (tgt := 183) hx hb d_Mod_move_49 (by decide) (fun c4 => ?_) (fun c4 => ?_)
    · have hf := x_it hf c4
      refine lv_aload_n hx hb d_Mod_move_183 rfl (lv_at hl 0 rfl) ?_
      obtain ⟨a5, e6, hf⟩ := x_b hf
      refine x_get (C := "WallDampModel") (F := F_Mod) (N := 51) hx hb hts i_Mod hown hK hH hT3 (by decide) rfl 10 (by decide) (hts _ m_803) (fun _ h9 => h9) (kd := (2, 74)) rfl (x_fr e6) d_Mod_move_184 ?_
      refine lv_iconst (v := 0) hx hb d_Mod_move_187 (by decide) ?_
      refine lv_dup2_11 hx hb d_Mod_move_188 rfl rfl ?_
      obtain ⟨_, e7, hf⟩ := x_b hf
      obtain ⟨n8, hT9, hi10⟩ := x_ix_e e7
      refine x_lald hx hb hK hH hT9 1 rfl hi10 d_Mod_move_189 ?_
      refine lv_aload_n hx hb d_Mod_move_190 rfl (lv_at hl 0 rfl) ?_
      refine x_get (C := "WallDampModel") (F := F_Mod) (N := 51) hx hb hts i_Mod hown hK hH hT3 (by decide) rfl 42 (by decide) (hts _ m_835) (fun _ h9 => h9) (kd := (1, 106)) rfl rfl d_Mod_move_191 ?_
      refine lv_lsub hx hb d_Mod_move_194 ?_
      obtain ⟨_, e11, hf⟩ := x_b hf
      obtain ⟨n12, hT13, hi14⟩ := x_ix_e e11
      refine x_last hx hb hK hH hS hT13 1 rfl hi14 d_Mod_move_195 (fun H locs hH hS => ?_)
      obtain ⟨w15, e16, hf⟩ := x_b hf
      have hH := x_nw e16 hH
      refine lv_aload_n hx hb d_Mod_move_196 rfl (lv_at hl 0 rfl) ?_
      refine lv_dup hx hb d_Mod_move_197 rfl ?_
      refine x_get (C := "WallDampModel") (F := F_Mod) (N := 51) hx hb hts i_Mod hown hK hH hT3 (by decide) rfl 36 (by decide) (hts _ m_829) (fun _ h9 => h9) (kd := (1, 100)) rfl rfl d_Mod_move_198 ?_
      refine lv_aload_n hx hb d_Mod_move_201 rfl (lv_at hl 0 rfl) ?_
      refine x_get (C := "WallDampModel") (F := F_Mod) (N := 51) hx hb hts i_Mod hown hK hH hT3 (by decide) rfl 42 (by decide) (hts _ m_835) (fun _ h9 => h9) (kd := (1, 106)) rfl rfl d_Mod_move_202 ?_
      refine lv_ladd hx hb d_Mod_move_205 ?_
      refine x_put (C := "WallDampModel") (F := F_Mod) (N := 51) (ty := t_Mod 36) (v := .long ((x_J w15 100 l0) + (x_J w15 106 l0))) (w' := x_sJ w15 100 l0 ((x_J w15 100 l0) + (x_J w15 106 l0))) hx hb hts i_Mod t_Mod ty_Mod n_Mod hown hK hH hS hT3 (by decide) rfl rfl 36 (by decide) (hts _ m_829) (fun _ h9 => h9) rfl (ty_Mod 36 (by decide)) rfl rfl (x_on_J hT3 (by decide) rfl nd_Mod) (fun j hj => x_off_J hj) (fun hh ok => x_ok_J hh ok) d_Mod_move_206 (fun H locs hH hS => ?_)
      obtain ⟨w17, e18, hf⟩ := x_b hf
      have hH := x_nw e18 hH
      refine lv_aload_n hx hb d_Mod_move_209 rfl (lv_at hl 0 rfl) ?_
      obtain ⟨a19, e20, hf⟩ := x_b hf
      refine x_get (C := "WallDampModel") (F := F_Mod) (N := 51) hx hb hts i_Mod hown hK hH hT3 (by decide) rfl 10 (by decide) (hts _ m_803) (fun _ h9 => h9) (kd := (2, 74)) rfl (x_fr e20) d_Mod_move_210 ?_
      refine lv_aload_n hx hb d_Mod_move_213 rfl (lv_at hl 0 rfl) ?_
      refine x_get (C := "WallDampModel") (F := F_Mod) (N := 51) hx hb hts i_Mod hown hK hH hT3 (by decide) rfl 1 (by decide) (hts _ m_794) (fun _ h9 => h9) (kd := (0, 65)) rfl rfl d_Mod_move_214 ?_
      refine lv_iconst (v := 1) hx hb d_Mod_move_217 (by decide) ?_
      refine lv_isub hx hb d_Mod_move_218 ?_
      refine lv_dup2_11 hx hb d_Mod_move_219 rfl rfl ?_
      obtain ⟨_, e21, hf⟩ := x_b hf
      obtain ⟨n22, hT23, hi24⟩ := x_ix_e e21
      refine x_lald hx hb hK hH hT23 1 rfl hi24 d_Mod_move_220 ?_
      refine lv_aload_n hx hb d_Mod_move_221 rfl (lv_at hl 0 rfl) ?_
      refine x_get (C := "WallDampModel") (F := F_Mod) (N := 51) hx hb hts i_Mod hown hK hH hT3 (by decide) rfl 43 (by decide) (hts _ m_836) (fun _ h9 => h9) (kd := (1, 107)) rfl rfl d_Mod_move_222 ?_
      refine lv_lsub hx hb d_Mod_move_225 ?_
      obtain ⟨_, e25, hf⟩ := x_b hf
      obtain ⟨n26, hT27, hi28⟩ := x_ix_e e25
      refine x_last hx hb hK hH hS hT27 1 rfl hi28 d_Mod_move_226 (fun H locs hH hS => ?_)
      obtain ⟨w29, e30, hf⟩ := x_b hf
      have hH := x_nw e30 hH
      refine lv_aload_n hx hb d_Mod_move_227 rfl (lv_at hl 0 rfl) ?_
      refine lv_dup hx hb d_Mod_move_228 rfl ?_
      refine x_get (C := "WallDampModel") (F := F_Mod) (N := 51) hx hb hts i_Mod hown hK hH hT3 (by decide) rfl 37 (by decide) (hts _ m_830) (fun _ h9 => h9) (kd := (1, 101)) rfl rfl d_Mod_move_229 ?_
      refine lv_aload_n hx hb d_Mod_move_232 rfl (lv_at hl 0 rfl) ?_
      refine x_get (C := "WallDampModel") (F := F_Mod) (N := 51) hx hb hts i_Mod hown hK hH hT3 (by decide) rfl 43 (by decide) (hts _ m_836) (fun _ h9 => h9) (kd := (1, 107)) rfl rfl d_Mod_move_233 ?_
      refine lv_ladd hx hb d_Mod_move_236 ?_
      refine x_put (C := "WallDampModel") (F := F_Mod) (N := 51) (ty := t_Mod 37) (v := .long ((x_J w29 101 l0) + (x_J w29 107 l0))) (w' := x_sJ w29 101 l0 ((x_J w29 101 l0) + (x_J w29 107 l0))) hx hb hts i_Mod t_Mod ty_Mod n_Mod hown hK hH hS hT3 (by decide) rfl rfl 37 (by decide) (hts _ m_830) (fun _ h9 => h9) rfl (ty_Mod 37 (by decide)) rfl rfl (x_on_J hT3 (by decide) rfl nd_Mod) (fun j hj => x_off_J hj) (fun hh ok => x_ok_J hh ok) d_Mod_move_237 (fun H locs hH hS => ?_)
      obtain ⟨w31, e32, hf⟩ := x_b hf
      have hH := x_nw e32 hH
      cases hf
      refine x_sz0 hS (fun hz => ?_)
      exact W.vret hx hb hr (fun t ht hW => ⟨rfl, hS.F ht, by rw [ht]; exact hz, by rw [ht]; exact hH.weaken (fun _ _ _ => trivial)⟩) hS.2.2 d_Mod_move_240
    · have hf := x_if hf c4
      refine lv_iconst (v := 0) hx hb d_Mod_move_52 (by decide) ?_
      refine lv_istore_n (lv' := [(2, .int (0 : Int32)), (0, .ref (ad l0)), (1, .int l1)]) hx hb d_Mod_move_53 rfl hl (by decide) rfl (fun ls hl => ?_)
      exact k_Mod_move_54 C0 ih 1000 w _ _ _ l0 l1 (0 : Int32) hf hH hS (lv_sub hl [1, 2, 0] rfl)
set_option maxHeartbeats 4000000 in
set_option maxRecDepth 100000 in
theorem k_Mod_move_23 {p : Program} {l : Launch} {e : Env} {s : State} {m : MethodId} {args : Array Value} {below : List Frame} {meth : Method} {c : Code} {D : va_G} {aC : Nat → ClassId} {ad : Nat → Nat} {T : x_T} {nx : Nat} {A : Nat → Prop} {q : x_W} (C0 : x_At p s m meth c args "WallDampModel" b_Mod_move none 5 D aC A) : ∀ (n : Nat), ∀ (w : x_W) (H : Heap) (locs : List Loc) (ls : Array Slot) (l0 : Nat) (l1 : Int32), f_Mod_move_23 T n w l0 l1 = some q → x_H D x_cl x_FT aC ad T nx A w H → va_S A s.heap H locs → lv_has ls 5 [(0, .ref (ad l0)), (1, .int l1)] → W p l e { frames := 2, cells := 0, slots := 0, locals := 47 } s m args below meth c H locs 0 0 (MQ below (x_Qc D aC ad T nx none q A) args s 0 0 A) (F0 m 23 ls []) := by
  obtain ⟨hx, hb, hr, hml, hown, hts, hlocks, hK, hA, hX⟩ := id C0
  intro n
  induction n with
  | zero => intro w H locs ls l0 l1 hf; cases (show none = some q from hf)
  | succ n ih =>
    intro w H locs ls l0 l1 hf hH hS hl
    unfold f_Mod_move_23 at hf
    refine lv_iload_n hx hb d_Mod_move_23 rfl (lv_at hl 1 rfl) ?_
    refine lv_aload_n hx hb d_Mod_move_24 rfl (lv_at hl 0 rfl) ?_
    obtain ⟨_, e1, hf⟩ := x_b hf
    obtain ⟨n2, hT3⟩ := x_is_e e1
    refine x_get (C := "WallDampModel") (F := F_Mod) (N := 51) hx hb hts i_Mod hown hK hH hT3 (by decide) rfl 1 (by decide) (hts _ m_794) (fun _ h9 => h9) (kd := (0, 65)) rfl rfl d_Mod_move_25 ?_
    refine lv_icmp_ge (tgt := 42) hx hb d_Mod_move_28 (by decide) (fun c4 => ?_) (fun c4 => ?_)
    · have hf := x_it hf c4
      refine lv_iconst (v := 0) hx hb d_Mod_move_42 (by decide) ?_
      refine lv_istore_n (lv' := [(1, .int (0 : Int32)), (0, .ref (ad l0))]) hx hb d_Mod_move_43 rfl hl (by decide) rfl (fun ls hl => ?_)
      exact k_Mod_move_44 C0 1000 w _ _ _ l0 (0 : Int32) hf hH hS (lv_sub hl [1, 0] rfl)
    · have hf := x_if hf c4
      refine lv_aload_n hx hb d_Mod_move_31 rfl (lv_at hl 0 rfl) ?_
      refine lv_iload_n hx hb d_Mod_move_32 rfl (lv_at hl 1 rfl) ?_
      obtain ⟨q5, e6, hf⟩ := x_b hf
      refine x_call (st1 := []) (x_runV (As := [.int l1]) (rest := []) ⟨hx, hb, hml, hown, hts⟩ (c_Mod_lessenComing l D aC ad T nx H.size w l0 l1 q5 e6) (cwV 1 hts (x_gV m_1061 m_1063 ms_25 m_13 m_1064) rfl rfl rfl ⟨rfl, pd_Mod_lessenComing⟩ ⟨Nat.le_of_ble_eq_true rfl, Nat.le_of_ble_eq_true rfl⟩) hH hK hX hT3 (by decide) rfl rfl rfl hl.1 rfl (lv_room (Nat.le_of_ble_eq_true rfl)) d_Mod_move_33 ⟨Nat.zero_le _, Nat.zero_le _⟩) rfl hH hA hS (fun H locs hH hS => ?_)
      refine lv_iinc (v := (l1 + 1)) (lv' := [(1, .int (l1 + 1)), (0, .ref (ad l0))]) hx hb d_Mod_move_36 hl (k := 1) rfl rfl (by decide) rfl (fun ls hl => ?_)
      refine lv_goto (tgt := 23) hx hb d_Mod_move_39 (by decide) ?_
      exact ih q5 _ _ _ l0 (l1 + 1) hf hH hS (lv_sub hl [1, 0] rfl)
set_option maxHeartbeats 4000000 in
set_option maxRecDepth 100000 in
theorem k_Mod_move_2 {p : Program} {l : Launch} {e : Env} {s : State} {m : MethodId} {args : Array Value} {below : List Frame} {meth : Method} {c : Code} {D : va_G} {aC : Nat → ClassId} {ad : Nat → Nat} {T : x_T} {nx : Nat} {A : Nat → Prop} {q : x_W} (C0 : x_At p s m meth c args "WallDampModel" b_Mod_move none 5 D aC A) : ∀ (n : Nat), ∀ (w : x_W) (H : Heap) (locs : List Loc) (ls : Array Slot) (l0 : Nat) (l1 : Int32), f_Mod_move_2 T n w l0 l1 = some q → x_H D x_cl x_FT aC ad T nx A w H → va_S A s.heap H locs → lv_has ls 5 [(0, .ref (ad l0)), (1, .int l1)] → W p l e { frames := 2, cells := 0, slots := 0, locals := 47 } s m args below meth c H locs 0 0 (MQ below (x_Qc D aC ad T nx none q A) args s 0 0 A) (F0 m 2 ls []) := by
  obtain ⟨hx, hb, hr, hml, hown, hts, hlocks, hK, hA, hX⟩ := id C0
  intro n
  induction n with
  | zero => intro w H locs ls l0 l1 hf; cases (show none = some q from hf)
  | succ n ih =>
    intro w H locs ls l0 l1 hf hH hS hl
    unfold f_Mod_move_2 at hf
    refine lv_iload_n hx hb d_Mod_move_2 rfl (lv_at hl 1 rfl) ?_
    refine lv_aload_n hx hb d_Mod_move_3 rfl (lv_at hl 0 rfl) ?_
    obtain ⟨_, e1, hf⟩ := x_b hf
    obtain ⟨n2, hT3⟩ := x_is_e e1
    refine x_get (C := "WallDampModel") (F := F_Mod) (N := 51) hx hb hts i_Mod hown hK hH hT3 (by decide) rfl 1 (by decide) (hts _ m_794) (fun _ h9 => h9) (kd := (0, 65)) rfl rfl d_Mod_move_4 ?_
    refine lv_icmp_ge (tgt := 21) hx hb d_Mod_move_7 (by decide) (fun c4 => ?_) (fun c4 => ?_)
    · have hf := x_it hf c4
      refine lv_iconst (v := 0) hx hb d_Mod_move_21 (by decide) ?_
      refine lv_istore_n (lv' := [(1, .int (0 : Int32)), (0, .ref (ad l0))]) hx hb d_Mod_move_22 rfl hl (by decide) rfl (fun ls hl => ?_)
      exact k_Mod_move_23 C0 1000 w _ _ _ l0 (0 : Int32) hf hH hS (lv_sub hl [1, 0] rfl)
    · have hf := x_if hf c4
      refine lv_aload_n hx hb d_Mod_move_10 rfl (lv_at hl 0 rfl) ?_
      refine lv_iload_n hx hb d_Mod_move_11 rfl (lv_at hl 1 rfl) ?_
      obtain ⟨q5, e6, hf⟩ := x_b hf
      refine x_call (st1 := []) (x_runV (As := [.int l1]) (rest := []) ⟨hx, hb, hml, hown, hts⟩ (c_Mod_lessenLeaving l D aC ad T nx H.size w l0 l1 q5 e6) (cwV 1 hts (x_gV m_1057 m_1059 ms_24 m_13 m_1060) rfl rfl rfl ⟨rfl, pd_Mod_lessenLeaving⟩ ⟨Nat.le_of_ble_eq_true rfl, Nat.le_of_ble_eq_true rfl⟩) hH hK hX hT3 (by decide) rfl rfl rfl hl.1 rfl (lv_room (Nat.le_of_ble_eq_true rfl)) d_Mod_move_12 ⟨Nat.zero_le _, Nat.zero_le _⟩) rfl hH hA hS (fun H locs hH hS => ?_)
      refine lv_iinc (v := (l1 + 1)) (lv' := [(1, .int (l1 + 1)), (0, .ref (ad l0))]) hx hb d_Mod_move_15 hl (k := 1) rfl rfl (by decide) rfl (fun ls hl => ?_)
      refine lv_goto (tgt := 2) hx hb d_Mod_move_18 (by decide) ?_
      exact ih q5 _ _ _ l0 (l1 + 1) hf hH hS (lv_sub hl [1, 0] rfl)
set_option maxHeartbeats 4000000 in
set_option maxRecDepth 100000 in
theorem k_Mod_move {p : Program} {l : Launch} {e : Env} {s : State} {m : MethodId} {args : Array Value} {below : List Frame} {meth : Method} {c : Code} {D : va_G} {aC : Nat → ClassId} {ad : Nat → Nat} {T : x_T} {nx : Nat} {A : Nat → Prop} {q : x_W} (C0 : x_At p s m meth c args "WallDampModel" b_Mod_move none 5 D aC A) : ∀ (w : x_W) (H : Heap) (locs : List Loc) (ls : Array Slot) (l0 : Nat), f_Mod_move T w l0 = some q → x_H D x_cl x_FT aC ad T nx A w H → va_S A s.heap H locs → lv_has ls 5 [(0, .ref (ad l0))] → W p l e { frames := 2, cells := 0, slots := 0, locals := 47 } s m args below meth c H locs 0 0 (MQ below (x_Qc D aC ad T nx none q A) args s 0 0 A) (F0 m 0 ls []) := by
  obtain ⟨hx, hb, hr, hml, hown, hts, hlocks, hK, hA, hX⟩ := id C0
  intro w H locs ls l0 hf hH hS hl
  unfold f_Mod_move at hf
  refine lv_iconst (v := 0) hx hb d_Mod_move_0 (by decide) ?_
  refine lv_istore_n (lv' := [(1, .int (0 : Int32)), (0, .ref (ad l0))]) hx hb d_Mod_move_1 rfl hl (by decide) rfl (fun ls hl => ?_)
  exact k_Mod_move_2 C0 1000 w _ _ _ l0 (0 : Int32) hf hH hS (lv_sub hl [1, 0] rfl)
theorem c_Mod_move (l : Launch) (D : va_G) (aC : Nat → ClassId) (ad : Nat → Nat) (T : x_T) (nx sz : Nat) (w : x_W) (a0 : Nat) (q : x_W) (hf : f_Mod_move T w a0 = some q) : Met l y_Mod_move ws_Mod_move { frames := 2, cells := 0, slots := 0, locals := 47 } (x_Pc D aC ad T nx sz w [.ref (ad a0)]) (x_Qc D aC ad T nx none q (x_dom ad nx sz)) 0 0 (x_dom ad nx sz) :=
  x_met [(0, .ref (ad a0))] (plainFor_of_name (by decide)) rfl rfl (Nat.le_of_ble_eq_true rfl) (fun p e s m args below meth c ls C0 hH hS hl => k_Mod_move C0 w _ _ _ a0 hf hH hS (lv_sub hl [0] rfl))
/-! WallDampModel.frostAndMould()V -/
def f_Mod_frostAndMould_239 (T : x_T) (w : x_W) (t0 : Nat) (t1 : Int32) : Option (x_W) :=
  (x_is T t0 10).bind fun _ =>
  (some (x_sI w 97 t0 t1)).bind fun w4 =>
  some w4
def f_Mod_frostAndMould_192 (T : x_T) (K136 : x_W → Nat → Int32 → Int32 → Int32 → Int32 → Option (x_W)) (w : x_W) (l0 : Nat) (l1 : Int32) (l2 : Int32) (l4 : Int32) (t0 : Int32) : Option (x_W) :=
  K136 w l0 l1 l2 t0 (l4 + (-1))
def f_Mod_frostAndMould_191 (T : x_T) (K136 : x_W → Nat → Int32 → Int32 → Int32 → Int32 → Option (x_W)) (w : x_W) (l0 : Nat) (l1 : Int32) (l2 : Int32) (l3 : Int32) (l4 : Int32) : Option (x_W) :=
  f_Mod_frostAndMould_192 T K136 w l0 l1 l2 l4 l3
def f_Mod_frostAndMould_136 (T : x_T) : Nat → x_W → Nat → Int32 → Int32 → Int32 → Int32 → Option (x_W)
  | 0, _, _, _, _, _, _ => none
  | n + 1, w, l0, l1, l2, l3, l4 =>
    if l4 < 0 then
      ((x_is T l0 10).bind fun _ =>
      (some (x_sI w 97 l0 ((x_I w 97 l0) + l3))).bind fun w5 =>
      if 0 ≤ (x_I w5 97 l0) then
        (if (x_I w5 97 l0) ≤ (1000000 : Int32) then
          (f_Mod_frostAndMould_239 T w5 l0 (x_I w5 97 l0))
        else
          (f_Mod_frostAndMould_239 T w5 l0 (1000000 : Int32)))
      else
        (f_Mod_frostAndMould_239 T w5 l0 (0 : Int32)))
    else
      ((x_is T l0 10).bind fun _ =>
      (x_R w 92 l0).bind fun a12 =>
      (x_ix T a12 100 l4).bind fun _ =>
      if l2 < (x_A w a12 l4.toNatClampNeg) then
        (f_Mod_frostAndMould_191 T (f_Mod_frostAndMould_136 T n) w l0 l1 l2 l3 l4)
      else
        ((x_R w 76 l0).bind fun a19 =>
        (x_ix T a19 100 l1).bind fun _ =>
        (x_R w 93 l0).bind fun a25 =>
        (x_ix T a25 100 l4).bind fun _ =>
        (x_R w 94 l0).bind fun a31 =>
        (x_ix T a31 100 l4).bind fun _ =>
        (f_Mod_in T w ((x_A w a19 l1.toNatClampNeg).toInt64) ((x_A w a25 l4.toNatClampNeg).toInt64) ((x_A w a31 l4.toNatClampNeg).toInt64)).bind fun q37 =>
        if q37 = 0 then
          (f_Mod_frostAndMould_191 T (f_Mod_frostAndMould_136 T n) w l0 l1 l2 l3 l4)
        else
          ((x_R w 95 l0).bind fun a40 =>
          (x_ix T a40 100 l4).bind fun _ =>
          f_Mod_frostAndMould_192 T (f_Mod_frostAndMould_136 T n) w l0 l1 l2 l4 (x_A w a40 l4.toNatClampNeg))))
def f_Mod_frostAndMould_107 (T : x_T) (K2 : x_W → Nat → Int32 → Option (x_W)) (w : x_W) (l0 : Nat) (l1 : Int32) : Option (x_W) :=
  K2 w l0 (l1 + 1)
def f_Mod_frostAndMould_77 (T : x_T) (K2 : x_W → Nat → Int32 → Option (x_W)) (w : x_W) (l0 : Nat) (l1 : Int32) (t0 : Nat) (t1 : Int32) (t2 : Int32) : Option (x_W) :=
  (x_ix T t0 102 t1).bind fun _ =>
  (some (x_sA w t0 t1.toNatClampNeg (vp_nar .boolean t2))).bind fun w5 =>
  f_Mod_frostAndMould_107 T K2 w5 l0 l1
def f_Mod_frostAndMould_76 (T : x_T) (K2 : x_W → Nat → Int32 → Option (x_W)) (w : x_W) (l0 : Nat) (l1 : Int32) (t0 : Nat) (t1 : Int32) : Option (x_W) :=
  f_Mod_frostAndMould_77 T K2 w l0 l1 t0 t1 (0 : Int32)
def f_Mod_frostAndMould_41 (T : x_T) (K2 : x_W → Nat → Int32 → Option (x_W)) (w : x_W) (l0 : Nat) (l1 : Int32) (l2 : Int32) (t0 : Nat) (t1 : Int32) (t2 : Int32) : Option (x_W) :=
  (x_ix T t0 100 t1).bind fun _ =>
  (some (x_sA w t0 t1.toNatClampNeg t2)).bind fun w5 =>
  (x_is T l0 10).bind fun _ =>
  (x_R w5 78 l0).bind fun a10 =>
  (x_ix T a10 102 l1).bind fun _ =>
  if (x_A w5 a10 l1.toNatClampNeg) = 0 then
    ((x_R w5 78 l0).bind fun a44 =>
    (x_R w5 76 l0).bind fun a46 =>
    (x_ix T a46 100 l1).bind fun _ =>
    if 0 ≤ (x_A w5 a46 l1.toNatClampNeg) then
      (f_Mod_frostAndMould_76 T K2 w5 l0 l1 a44 l1)
    else
      (if l2 < (9000 : Int32) then
        (f_Mod_frostAndMould_76 T K2 w5 l0 l1 a44 l1)
      else
        (f_Mod_frostAndMould_77 T K2 w5 l0 l1 a44 l1 (1 : Int32))))
  else
    ((x_R w5 76 l0).bind fun a17 =>
    (x_ix T a17 100 l1).bind fun _ =>
    if (x_A w5 a17 l1.toNatClampNeg) < 0 then
      (f_Mod_frostAndMould_107 T K2 w5 l0 l1)
    else
      ((x_R w5 78 l0).bind fun a24 =>
      (x_ix T a24 102 l1).bind fun _ =>
      (some (x_sA w5 a24 l1.toNatClampNeg (vp_nar .boolean (0 : Int32)))).bind fun w30 =>
      (x_R w30 77 l0).bind fun a32 =>
      (x_ix T a32 100 l1).bind fun _ =>
      (x_ix T a32 100 l1).bind fun _ =>
      (some (x_sA w30 a32 l1.toNatClampNeg ((x_A w30 a32 l1.toNatClampNeg) + (1 : Int32)))).bind fun w42 =>
      f_Mod_frostAndMould_107 T K2 w42 l0 l1))
def f_Mod_frostAndMould_2 (T : x_T) : Nat → x_W → Nat → Int32 → Option (x_W)
  | 0, _, _, _ => none
  | n + 1, w, l0, l1 =>
    (x_is T l0 10).bind fun _ =>
    if (x_I w 65 l0) ≤ l1 then
      ((some (((x_I w 65 l0) - (1 : Int32)))).bind fun v5 =>
      (f_Mod_dampOf T w l0 v5).bind fun q7 =>
      (some (((x_I w 91 l0) - (1 : Int32)))).bind fun v9 =>
      f_Mod_frostAndMould_136 T 1000 w l0 v5 q7 (-1) v9)
    else
      ((f_Mod_dampOf T w l0 l1).bind fun q11 =>
      (x_R w 79 l0).bind fun a13 =>
      (x_R w 79 l0).bind fun a15 =>
      (x_ix T a15 100 l1).bind fun _ =>
      if q11 ≤ (x_A w a15 l1.toNatClampNeg) then
        ((x_R w 79 l0).bind fun a22 =>
        (x_ix T a22 100 l1).bind fun _ =>
        f_Mod_frostAndMould_41 T (f_Mod_frostAndMould_2 T n) w l0 l1 q11 a13 l1 (x_A w a22 l1.toNatClampNeg))
      else
        (f_Mod_frostAndMould_41 T (f_Mod_frostAndMould_2 T n) w l0 l1 q11 a13 l1 q11))
def f_Mod_frostAndMould (T : x_T) (w : x_W) (l0 : Nat) : Option (x_W) :=
  f_Mod_frostAndMould_2 T 1000 w l0 (0 : Int32)
set_option maxHeartbeats 4000000 in
set_option maxRecDepth 100000 in
theorem k_Mod_frostAndMould_239 {p : Program} {l : Launch} {e : Env} {s : State} {m : MethodId} {args : Array Value} {below : List Frame} {meth : Method} {c : Code} {D : va_G} {aC : Nat → ClassId} {ad : Nat → Nat} {T : x_T} {nx : Nat} {A : Nat → Prop} {q : x_W} (C0 : x_At p s m meth c args "WallDampModel" b_Mod_frostAndMould none 5 D aC A) : ∀ (w : x_W) (H : Heap) (locs : List Loc) (ls : Array Slot) (t0 : Nat) (t1 : Int32), f_Mod_frostAndMould_239 T w t0 t1 = some q → x_H D x_cl x_FT aC ad T nx A w H → va_S A s.heap H locs → lv_has ls 5 [] → W p l e { frames := 1, cells := 0, slots := 0, locals := 25 } s m args below meth c H locs 0 0 (MQ below (x_Qc D aC ad T nx none q A) args s 0 0 A) (F0 m 239 ls [.int t1, .ref (ad t0)]) := by
  obtain ⟨hx, hb, hr, hml, hown, hts, hlocks, hK, hA, hX⟩ := id C0
  intro w H locs ls t0 t1 hf hH hS hl
  unfold f_Mod_frostAndMould_239 at hf
  obtain ⟨_, e1, hf⟩ := x_b hf
  obtain ⟨n2, hT3⟩ := x_is_e e1
  refine x_put (C := "WallDampModel") (F := F_Mod) (N := 51) (ty := t_Mod 33) (v := .int t1) (w' := x_sI w 97 t0 t1) hx hb hts i_Mod t_Mod ty_Mod n_Mod hown hK hH hS hT3 (by decide) rfl rfl 33 (by decide) (hts _ m_826) (fun _ h9 => h9) rfl (ty_Mod 33 (by decide)) rfl rfl (x_on_I hT3 (by decide) rfl nd_Mod) (fun j hj => x_off_I hj) (fun hh ok => x_ok_I hh ok) d_Mod_frostAndMould_239 (fun H locs hH hS => ?_)
  obtain ⟨w4, e5, hf⟩ := x_b hf
  have hH := x_nw e5 hH
  cases hf
  refine x_sz0 hS (fun hz => ?_)
  exact W.vret hx hb hr (fun t ht hW => ⟨rfl, hS.F ht, by rw [ht]; exact hz, by rw [ht]; exact hH.weaken (fun _ _ _ => trivial)⟩) hS.2.2 d_Mod_frostAndMould_242
set_option maxHeartbeats 4000000 in
set_option maxRecDepth 100000 in
theorem k_Mod_frostAndMould_192 {p : Program} {l : Launch} {e : Env} {s : State} {m : MethodId} {args : Array Value} {below : List Frame} {meth : Method} {c : Code} {D : va_G} {aC : Nat → ClassId} {ad : Nat → Nat} {T : x_T} {nx : Nat} {A : Nat → Prop} {q : x_W} (C0 : x_At p s m meth c args "WallDampModel" b_Mod_frostAndMould none 5 D aC A) {K136 : x_W → Nat → Int32 → Int32 → Int32 → Int32 → Option (x_W)} (hK136 : ∀ (w : x_W) (H : Heap) (locs : List Loc) (ls : Array Slot) (l0 : Nat) (l1 : Int32) (l2 : Int32) (l3 : Int32) (l4 : Int32), K136 w l0 l1 l2 l3 l4 = some q → x_H D x_cl x_FT aC ad T nx A w H → va_S A s.heap H locs → lv_has ls 5 [(0, .ref (ad l0)), (1, .int l1), (2, .int l2), (3, .int l3), (4, .int l4)] → W p l e { frames := 1, cells := 0, slots := 0, locals := 25 } s m args below meth c H locs 0 0 (MQ below (x_Qc D aC ad T nx none q A) args s 0 0 A) (F0 m 136 ls [])) : ∀ (w : x_W) (H : Heap) (locs : List Loc) (ls : Array Slot) (l0 : Nat) (l1 : Int32) (l2 : Int32) (l4 : Int32) (t0 : Int32), f_Mod_frostAndMould_192 T K136 w l0 l1 l2 l4 t0 = some q → x_H D x_cl x_FT aC ad T nx A w H → va_S A s.heap H locs → lv_has ls 5 [(0, .ref (ad l0)), (1, .int l1), (2, .int l2), (4, .int l4)] → W p l e { frames := 1, cells := 0, slots := 0, locals := 25 } s m args below meth c H locs 0 0 (MQ below (x_Qc D aC ad T nx none q A) args s 0 0 A) (F0 m 192 ls [.int t0]) := by
  obtain ⟨hx, hb, hr, hml, hown, hts, hlocks, hK, hA, hX⟩ := id C0
  intro w H locs ls l0 l1 l2 l4 t0 hf hH hS hl
  unfold f_Mod_frostAndMould_192 at hf
  refine lv_istore_n (lv' := [(3, .int t0), (0, .ref (ad l0)), (1, .int l1), (2, .int l2), (4, .int l4)]) hx hb d_Mod_frostAndMould_192 rfl hl (by decide) rfl (fun ls hl => ?_)
  refine lv_iinc (v := (l4 + (-1))) (lv' := [(4, .int (l4 + (-1))), (3, .int t0), (0, .ref (ad l0)), (1, .int l1), (2, .int l2)]) hx hb d_Mod_frostAndMould_193 hl (k := 4) rfl rfl (by decide) rfl (fun ls hl => ?_)
  refine lv_goto (tgt := 136) hx hb d_Mod_frostAndMould_196 (by decide) ?_
  exact hK136 w _ _ _ l0 l1 l2 t0 (l4 + (-1)) hf hH hS (lv_sub hl [2, 3, 4, 1, 0] rfl)
set_option maxHeartbeats 4000000 in
set_option maxRecDepth 100000 in
theorem k_Mod_frostAndMould_191 {p : Program} {l : Launch} {e : Env} {s : State} {m : MethodId} {args : Array Value} {below : List Frame} {meth : Method} {c : Code} {D : va_G} {aC : Nat → ClassId} {ad : Nat → Nat} {T : x_T} {nx : Nat} {A : Nat → Prop} {q : x_W} (C0 : x_At p s m meth c args "WallDampModel" b_Mod_frostAndMould none 5 D aC A) {K136 : x_W → Nat → Int32 → Int32 → Int32 → Int32 → Option (x_W)} (hK136 : ∀ (w : x_W) (H : Heap) (locs : List Loc) (ls : Array Slot) (l0 : Nat) (l1 : Int32) (l2 : Int32) (l3 : Int32) (l4 : Int32), K136 w l0 l1 l2 l3 l4 = some q → x_H D x_cl x_FT aC ad T nx A w H → va_S A s.heap H locs → lv_has ls 5 [(0, .ref (ad l0)), (1, .int l1), (2, .int l2), (3, .int l3), (4, .int l4)] → W p l e { frames := 1, cells := 0, slots := 0, locals := 25 } s m args below meth c H locs 0 0 (MQ below (x_Qc D aC ad T nx none q A) args s 0 0 A) (F0 m 136 ls [])) : ∀ (w : x_W) (H : Heap) (locs : List Loc) (ls : Array Slot) (l0 : Nat) (l1 : Int32) (l2 : Int32) (l3 : Int32) (l4 : Int32), f_Mod_frostAndMould_191 T K136 w l0 l1 l2 l3 l4 = some q → x_H D x_cl x_FT aC ad T nx A w H → va_S A s.heap H locs → lv_has ls 5 [(0, .ref (ad l0)), (1, .int l1), (2, .int l2), (3, .int l3), (4, .int l4)] → W p l e { frames := 1, cells := 0, slots := 0, locals := 25 } s m args below meth c H locs 0 0 (MQ below (x_Qc D aC ad T nx none q A) args s 0 0 A) (F0 m 191 ls []) := by
  obtain ⟨hx, hb, hr, hml, hown, hts, hlocks, hK, hA, hX⟩ := id C0
  intro w H locs ls l0 l1 l2 l3 l4 hf hH hS hl
  unfold f_Mod_frostAndMould_191 at hf
  refine lv_iload_n hx hb d_Mod_frostAndMould_191 rfl (lv_at hl 3 rfl) ?_
  exact k_Mod_frostAndMould_192 C0 hK136 w _ _ _ l0 l1 l2 l4 l3 hf hH hS (lv_sub hl [0, 1, 2, 4] rfl)
set_option maxHeartbeats 4000000 in
set_option maxRecDepth 100000 in
theorem k_Mod_frostAndMould_136 {p : Program} {l : Launch} {e : Env} {s : State} {m : MethodId} {args : Array Value} {below : List Frame} {meth : Method} {c : Code} {D : va_G} {aC : Nat → ClassId} {ad : Nat → Nat} {T : x_T} {nx : Nat} {A : Nat → Prop} {q : x_W} (C0 : x_At p s m meth c args "WallDampModel" b_Mod_frostAndMould none 5 D aC A) : ∀ (n : Nat), ∀ (w : x_W) (H : Heap) (locs : List Loc) (ls : Array Slot) (l0 : Nat) (l1 : Int32) (l2 : Int32) (l3 : Int32) (l4 : Int32), f_Mod_frostAndMould_136 T n w l0 l1 l2 l3 l4 = some q → x_H D x_cl x_FT aC ad T nx A w H → va_S A s.heap H locs → lv_has ls 5 [(0, .ref (ad l0)), (1, .int l1), (2, .int l2), (3, .int l3), (4, .int l4)] → W p l e { frames := 1, cells := 0, slots := 0, locals := 25 } s m args below meth c H locs 0 0 (MQ below (x_Qc D aC ad T nx none q A) args s 0 0 A) (F0 m 136 ls []) := by
  obtain ⟨hx, hb, hr, hml, hown, hts, hlocks, hK, hA, hX⟩ := id C0
  intro n
  induction n with
  | zero => intro w H locs ls l0 l1 l2 l3 l4 hf; cases (show none = some q from hf)
  | succ n ih =>
    intro w H locs ls l0 l1 l2 l3 l4 hf hH hS hl
    unfold f_Mod_frostAndMould_136 at hf
    refine lv_iload hx hb d_Mod_frostAndMould_136 (lv_at hl 4 rfl) ?_
    refine lv_if_lt (tgt := 199) hx hb d_Mod_frostAndMould_138 (by decide) (fun c1 => ?_) (fun c1 => ?_)
    · have hf := x_it hf c1
      refine lv_aload_n hx hb d_Mod_frostAndMould_199 rfl (lv_at hl 0 rfl) ?_
      refine lv_dup hx hb d_Mod_frostAndMould_200 rfl ?_
      obtain ⟨_, e2, hf⟩ := x_b hf
      obtain ⟨n3, hT4⟩ := x_is_e e2
      refine x_get (C := "WallDampModel") (F := F_Mod) (N := 51) hx hb hts i_Mod hown hK hH hT4 (by decide) rfl 33 (by decide) (hts _ m_826) (fun _ h9 => h9) (kd := (0, 97)) rfl rfl d_Mod_frostAndMould_201 ?_
      refine lv_iload_n hx hb d_Mod_frostAndMould_204 rfl (lv_at hl 3 rfl) ?_
      refine lv_iadd hx hb d_Mod_frostAndMould_205 ?_
      refine x_put (C := "WallDampModel") (F := F_Mod) (N := 51) (ty := t_Mod 33) (v := .int ((x_I w 97 l0) + l3)) (w' := x_sI w 97 l0 ((x_I w 97 l0) + l3)) hx hb hts i_Mod t_Mod ty_Mod n_Mod hown hK hH hS hT4 (by decide) rfl rfl 33 (by decide) (hts _ m_826) (fun _ h9 => h9) rfl (ty_Mod 33 (by decide)) rfl rfl (x_on_I hT4 (by decide) rfl nd_Mod) (fun j hj => x_off_I hj) (fun hh ok => x_ok_I hh ok) d_Mod_frostAndMould_206 (fun H locs hH hS => ?_)
      obtain ⟨w5, e6, hf⟩ := x_b hf
      have hH := x_nw e6 hH
      refine lv_aload_n hx hb d_Mod_frostAndMould_209 rfl (lv_at hl 0 rfl) ?_
      refine lv_aload_n hx hb d_Mod_frostAndMould_210 rfl (lv_at hl 0 rfl) ?_
      refine x_get (C := "WallDampModel") (F := F_Mod) (N := 51) hx hb hts i_Mod hown hK hH hT4 (by decide) rfl 33 (by decide) (hts _ m_826) (fun _ h9 => h9) (kd := (0, 97)) rfl rfl d_Mod_frostAndMould_211 ?_
      refine lv_if_ge (tgt := 221) hx hb d_Mod_frostAndMould_214 (by decide) (fun c7 => ?_) (fun c7 => ?_)
      · have hf := x_it hf c7
        refine lv_aload_n hx hb d_Mod_frostAndMould_221 rfl (lv_at hl 0 rfl) ?_
        refine x_get (C := "WallDampModel") (F := F_Mod) (N := 51) hx hb hts i_Mod hown hK hH hT4 (by decide) rfl 33 (by decide) (hts _ m_826) (fun _ h9 => h9) (kd := (0, 97)) rfl rfl d_Mod_frostAndMould_222 ?_
        refine lv_ldc (v := (1000000 : Int32)) hx hb hown (hts _ m_1069) d_Mod_frostAndMould_225 ?_
        refine lv_icmp_le (tgt := 235) hx hb d_Mod_frostAndMould_227 (by decide) (fun c8 => ?_) (fun c8 => ?_)
        · have hf := x_it hf c8
          refine lv_aload_n hx hb d_Mod_frostAndMould_235 rfl (lv_at hl 0 rfl) ?_
          refine x_get (C := "WallDampModel") (F := F_Mod) (N := 51) hx hb hts i_Mod hown hK hH hT4 (by decide) rfl 33 (by decide) (hts _ m_826) (fun _ h9 => h9) (kd := (0, 97)) rfl rfl d_Mod_frostAndMould_236 ?_
          exact k_Mod_frostAndMould_239 C0 w5 _ _ _ l0 (x_I w5 97 l0) hf hH hS (lv_sub hl [] rfl)
        · have hf := x_if hf c8
          refine lv_ldc (v := (1000000 : Int32)) hx hb hown (hts _ m_1069) d_Mod_frostAndMould_230 ?_
          refine lv_goto (tgt := 239) hx hb d_Mod_frostAndMould_232 (by decide) ?_
          exact k_Mod_frostAndMould_239 C0 w5 _ _ _ l0 (1000000 : Int32) hf hH hS (lv_sub hl [] rfl)
      · have hf := x_if hf c7
        refine lv_iconst (v := 0) hx hb d_Mod_frostAndMould_217 (by decide) ?_
        refine lv_goto (tgt := 239) hx hb d_Mod_frostAndMould_218 (by decide) ?_
        exact k_Mod_frostAndMould_239 C0 w5 _ _ _ l0 (0 : Int32) hf hH hS (lv_sub hl [] rfl)
    · have hf := x_if hf c1
      refine lv_iload_n hx hb d_Mod_frostAndMould_141 rfl (lv_at hl 2 rfl) ?_
      refine lv_aload_n hx hb d_Mod_frostAndMould_142 rfl (lv_at hl 0 rfl) ?_
      obtain ⟨_, e9, hf⟩ := x_b hf
      obtain ⟨n10, hT11⟩ := x_is_e e9
      obtain ⟨a12, e13, hf⟩ := x_b hf
      refine x_get (C := "WallDampModel") (F := F_Mod) (N := 51) hx hb hts i_Mod hown hK hH hT11 (by decide) rfl 28 (by decide) (hts _ m_821) (fun _ h9 => h9) (kd := (2, 92)) rfl (x_fr e13) d_Mod_frostAndMould_143 ?_
      refine lv_iload hx hb d_Mod_frostAndMould_146 (lv_at hl 4 rfl) ?_
      obtain ⟨_, e14, hf⟩ := x_b hf
      obtain ⟨n15, hT16, hi17⟩ := x_ix_e e14
      refine x_iald hx hb hK hH hT16 0 rfl hi17 d_Mod_frostAndMould_148 ?_
      refine lv_icmp_lt (tgt := 191) hx hb d_Mod_frostAndMould_149 (by decide) (fun c18 => ?_) (fun c18 => ?_)
      · have hf := x_it hf c18
        exact k_Mod_frostAndMould_191 C0 ih w _ _ _ l0 l1 l2 l3 l4 hf hH hS (lv_sub hl [0, 1, 2, 3, 4] rfl)
      · have hf := x_if hf c18
        refine lv_aload_n hx hb d_Mod_frostAndMould_152 rfl (lv_at hl 0 rfl) ?_
        obtain ⟨a19, e20, hf⟩ := x_b hf
        refine x_get (C := "WallDampModel") (F := F_Mod) (N := 51) hx hb hts i_Mod hown hK hH hT11 (by decide) rfl 12 (by decide) (hts _ m_805) (fun _ h9 => h9) (kd := (2, 76)) rfl (x_fr e20) d_Mod_frostAndMould_153 ?_
        refine lv_iload_n hx hb d_Mod_frostAndMould_156 rfl (lv_at hl 1 rfl) ?_
        obtain ⟨_, e21, hf⟩ := x_b hf
        obtain ⟨n22, hT23, hi24⟩ := x_ix_e e21
        refine x_iald hx hb hK hH hT23 0 rfl hi24 d_Mod_frostAndMould_157 ?_
        refine lv_i2l (v := (x_A w a19 l1.toNatClampNeg).toInt64) hx hb d_Mod_frostAndMould_158 rfl ?_
        refine lv_aload_n hx hb d_Mod_frostAndMould_159 rfl (lv_at hl 0 rfl) ?_
        obtain ⟨a25, e26, hf⟩ := x_b hf
        refine x_get (C := "WallDampModel") (F := F_Mod) (N := 51) hx hb hts i_Mod hown hK hH hT11 (by decide) rfl 29 (by decide) (hts _ m_822) (fun _ h9 => h9) (kd := (2, 93)) rfl (x_fr e26) d_Mod_frostAndMould_160 ?_
        refine lv_iload hx hb d_Mod_frostAndMould_163 (lv_at hl 4 rfl) ?_
        obtain ⟨_, e27, hf⟩ := x_b hf
        obtain ⟨n28, hT29, hi30⟩ := x_ix_e e27
        refine x_iald hx hb hK hH hT29 0 rfl hi30 d_Mod_frostAndMould_165 ?_
        refine lv_i2l (v := (x_A w a25 l4.toNatClampNeg).toInt64) hx hb d_Mod_frostAndMould_166 rfl ?_
        refine lv_aload_n hx hb d_Mod_frostAndMould_167 rfl (lv_at hl 0 rfl) ?_
        obtain ⟨a31, e32, hf⟩ := x_b hf
        refine x_get (C := "WallDampModel") (F := F_Mod) (N := 51) hx hb hts i_Mod hown hK hH hT11 (by decide) rfl 30 (by decide) (hts _ m_823) (fun _ h9 => h9) (kd := (2, 94)) rfl (x_fr e32) d_Mod_frostAndMould_168 ?_
        refine lv_iload hx hb d_Mod_frostAndMould_171 (lv_at hl 4 rfl) ?_
        obtain ⟨_, e33, hf⟩ := x_b hf
        obtain ⟨n34, hT35, hi36⟩ := x_ix_e e33
        refine x_iald hx hb hK hH hT35 0 rfl hi36 d_Mod_frostAndMould_173 ?_
        refine lv_i2l (v := (x_A w a31 l4.toNatClampNeg).toInt64) hx hb d_Mod_frostAndMould_174 rfl ?_
        obtain ⟨q37, e38, hf⟩ := x_b hf
        refine x_callP (st1 := [.int q37]) (x_runS (As := [.long ((x_A w a19 l1.toNatClampNeg).toInt64), .long ((x_A w a25 l4.toNatClampNeg).toInt64), .long ((x_A w a31 l4.toNatClampNeg).toInt64)]) (rest := []) ⟨hx, hb, hml, hown, hts⟩ (c_Mod_in l D aC ad T nx H.size w ((x_A w a19 l1.toNatClampNeg).toInt64) ((x_A w a25 l4.toNatClampNeg).toInt64) ((x_A w a31 l4.toNatClampNeg).toInt64) q37 e38) (va_cwS 3 hts (x_gS m_958 m_959 m_13 m_960) rfl rfl rfl pd_Mod_in ⟨Nat.le_of_ble_eq_true rfl, Nat.le_of_ble_eq_true rfl⟩) hH hK hX rfl hl.1 rfl (lv_room (Nat.le_of_ble_eq_true rfl)) d_Mod_frostAndMould_175 ⟨Nat.zero_le _, Nat.zero_le _⟩) rfl ?_
        refine lv_if_eq (tgt := 191) hx hb d_Mod_frostAndMould_178 (by decide) (fun c39 => ?_) (fun c39 => ?_)
        · have hf := x_it hf c39
          exact k_Mod_frostAndMould_191 C0 ih w _ _ _ l0 l1 l2 l3 l4 hf hH hS (lv_sub hl [0, 1, 2, 3, 4] rfl)
        · have hf := x_if hf c39
          refine lv_aload_n hx hb d_Mod_frostAndMould_181 rfl (lv_at hl 0 rfl) ?_
          obtain ⟨a40, e41, hf⟩ := x_b hf
          refine x_get (C := "WallDampModel") (F := F_Mod) (N := 51) hx hb hts i_Mod hown hK hH hT11 (by decide) rfl 31 (by decide) (hts _ m_824) (fun _ h9 => h9) (kd := (2, 95)) rfl (x_fr e41) d_Mod_frostAndMould_182 ?_
          refine lv_iload hx hb d_Mod_frostAndMould_185 (lv_at hl 4 rfl) ?_
          obtain ⟨_, e42, hf⟩ := x_b hf
          obtain ⟨n43, hT44, hi45⟩ := x_ix_e e42
          refine x_iald hx hb hK hH hT44 0 rfl hi45 d_Mod_frostAndMould_187 ?_
          refine lv_goto (tgt := 192) hx hb d_Mod_frostAndMould_188 (by decide) ?_
          exact k_Mod_frostAndMould_192 C0 ih w _ _ _ l0 l1 l2 l4 (x_A w a40 l4.toNatClampNeg) hf hH hS (lv_sub hl [0, 1, 2, 4] rfl)
set_option maxHeartbeats 4000000 in
set_option maxRecDepth 100000 in
theorem k_Mod_frostAndMould_107 {p : Program} {l : Launch} {e : Env} {s : State} {m : MethodId} {args : Array Value} {below : List Frame} {meth : Method} {c : Code} {D : va_G} {aC : Nat → ClassId} {ad : Nat → Nat} {T : x_T} {nx : Nat} {A : Nat → Prop} {q : x_W} (C0 : x_At p s m meth c args "WallDampModel" b_Mod_frostAndMould none 5 D aC A) {K2 : x_W → Nat → Int32 → Option (x_W)} (hK2 : ∀ (w : x_W) (H : Heap) (locs : List Loc) (ls : Array Slot) (l0 : Nat) (l1 : Int32), K2 w l0 l1 = some q → x_H D x_cl x_FT aC ad T nx A w H → va_S A s.heap H locs → lv_has ls 5 [(0, .ref (ad l0)), (1, .int l1)] → W p l e { frames := 1, cells := 0, slots := 0, locals := 25 } s m args below meth c H locs 0 0 (MQ below (x_Qc D aC ad T nx none q A) args s 0 0 A) (F0 m 2 ls [])) : ∀ (w : x_W) (H : Heap) (locs : List Loc) (ls : Array Slot) (l0 : Nat) (l1 : Int32), f_Mod_frostAndMould_107 T K2 w l0 l1 = some q → x_H D x_cl x_FT aC ad T nx A w H → va_S A s.heap H locs → lv_has ls 5 [(0, .ref (ad l0)), (1, .int l1)] → W p l e { frames := 1, cells := 0, slots := 0, locals := 25 } s m args below meth c H locs 0 0 (MQ below (x_Qc D aC ad T nx none q A) args s 0 0 A) (F0 m 107 ls []) := by
  obtain ⟨hx, hb, hr, hml, hown, hts, hlocks, hK, hA, hX⟩ := id C0
  intro w H locs ls l0 l1 hf hH hS hl
  unfold f_Mod_frostAndMould_107 at hf
  refine lv_iinc (v := (l1 + 1)) (lv' := [(1, .int (l1 + 1)), (0, .ref (ad l0))]) hx hb d_Mod_frostAndMould_107 hl (k := 1) rfl rfl (by decide) rfl (fun ls hl => ?_)
  refine lv_goto (tgt := 2) hx hb d_Mod_frostAndMould_110 (by decide) ?_
  exact hK2 w _ _ _ l0 (l1 + 1) hf hH hS (lv_sub hl [1, 0] rfl)
set_option maxHeartbeats 4000000 in
set_option maxRecDepth 100000 in
theorem k_Mod_frostAndMould_77 {p : Program} {l : Launch} {e : Env} {s : State} {m : MethodId} {args : Array Value} {below : List Frame} {meth : Method} {c : Code} {D : va_G} {aC : Nat → ClassId} {ad : Nat → Nat} {T : x_T} {nx : Nat} {A : Nat → Prop} {q : x_W} (C0 : x_At p s m meth c args "WallDampModel" b_Mod_frostAndMould none 5 D aC A) {K2 : x_W → Nat → Int32 → Option (x_W)} (hK2 : ∀ (w : x_W) (H : Heap) (locs : List Loc) (ls : Array Slot) (l0 : Nat) (l1 : Int32), K2 w l0 l1 = some q → x_H D x_cl x_FT aC ad T nx A w H → va_S A s.heap H locs → lv_has ls 5 [(0, .ref (ad l0)), (1, .int l1)] → W p l e { frames := 1, cells := 0, slots := 0, locals := 25 } s m args below meth c H locs 0 0 (MQ below (x_Qc D aC ad T nx none q A) args s 0 0 A) (F0 m 2 ls [])) : ∀ (w : x_W) (H : Heap) (locs : List Loc) (ls : Array Slot) (l0 : Nat) (l1 : Int32) (t0 : Nat) (t1 : Int32) (t2 : Int32), f_Mod_frostAndMould_77 T K2 w l0 l1 t0 t1 t2 = some q → x_H D x_cl x_FT aC ad T nx A w H → va_S A s.heap H locs → lv_has ls 5 [(0, .ref (ad l0)), (1, .int l1)] → W p l e { frames := 1, cells := 0, slots := 0, locals := 25 } s m args below meth c H locs 0 0 (MQ below (x_Qc D aC ad T nx none q A) args s 0 0 A) (F0 m 77 ls [.int t2, .int t1, .ref (ad t0)]) := by
  obtain ⟨hx, hb, hr, hml, hown, hts, hlocks, hK, hA, hX⟩ := id C0
  intro w H locs ls l0 l1 t0 t1 t2 hf hH hS hl
  unfold f_Mod_frostAndMould_77 at hf
  obtain ⟨_, e1, hf⟩ := x_b hf
  obtain ⟨n2, hT3, hi4⟩ := x_ix_e e1
  refine x_zast hx hb hK hH hS hT3 2 rfl hi4 d_Mod_frostAndMould_77 (fun H locs hH hS => ?_)
  obtain ⟨w5, e6, hf⟩ := x_b hf
  have hH := x_nw e6 hH
  refine lv_goto (tgt := 107) hx hb d_Mod_frostAndMould_78 (by decide) ?_
  exact k_Mod_frostAndMould_107 C0 hK2 w5 _ _ _ l0 l1 hf hH hS (lv_sub hl [0, 1] rfl)
set_option maxHeartbeats 4000000 in
set_option maxRecDepth 100000 in
theorem k_Mod_frostAndMould_76 {p : Program} {l : Launch} {e : Env} {s : State} {m : MethodId} {args : Array Value} {below : List Frame} {meth : Method} {c : Code} {D : va_G} {aC : Nat → ClassId} {ad : Nat → Nat} {T : x_T} {nx : Nat} {A : Nat → Prop} {q : x_W} (C0 : x_At p s m meth c args "WallDampModel" b_Mod_frostAndMould none 5 D aC A) {K2 : x_W → Nat → Int32 → Option (x_W)} (hK2 : ∀ (w : x_W) (H : Heap) (locs : List Loc) (ls : Array Slot) (l0 : Nat) (l1 : Int32), K2 w l0 l1 = some q → x_H D x_cl x_FT aC ad T nx A w H → va_S A s.heap H locs → lv_has ls 5 [(0, .ref (ad l0)), (1, .int l1)] → W p l e { frames := 1, cells := 0, slots := 0, locals := 25 } s m args below meth c H locs 0 0 (MQ below (x_Qc D aC ad T nx none q A) args s 0 0 A) (F0 m 2 ls [])) : ∀ (w : x_W) (H : Heap) (locs : List Loc) (ls : Array Slot) (l0 : Nat) (l1 : Int32) (t0 : Nat) (t1 : Int32), f_Mod_frostAndMould_76 T K2 w l0 l1 t0 t1 = some q → x_H D x_cl x_FT aC ad T nx A w H → va_S A s.heap H locs → lv_has ls 5 [(0, .ref (ad l0)), (1, .int l1)] → W p l e { frames := 1, cells := 0, slots := 0, locals := 25 } s m args below meth c H locs 0 0 (MQ below (x_Qc D aC ad T nx none q A) args s 0 0 A) (F0 m 76 ls [.int t1, .ref (ad t0)]) := by
  obtain ⟨hx, hb, hr, hml, hown, hts, hlocks, hK, hA, hX⟩ := id C0
  intro w H locs ls l0 l1 t0 t1 hf hH hS hl
  unfold f_Mod_frostAndMould_76 at hf
  refine lv_iconst (v := 0) hx hb d_Mod_frostAndMould_76 (by decide) ?_
  exact k_Mod_frostAndMould_77 C0 hK2 w _ _ _ l0 l1 t0 t1 (0 : Int32) hf hH hS (lv_sub hl [0, 1] rfl)
set_option maxHeartbeats 4000000 in
set_option maxRecDepth 100000 in
theorem k_Mod_frostAndMould_41 {p : Program} {l : Launch} {e : Env} {s : State} {m : MethodId} {args : Array Value} {below : List Frame} {meth : Method} {c : Code} {D : va_G} {aC : Nat → ClassId} {ad : Nat → Nat} {T : x_T} {nx : Nat} {A : Nat → Prop} {q : x_W} (C0 : x_At p s m meth c args "WallDampModel" b_Mod_frostAndMould none 5 D aC A) {K2 : x_W → Nat → Int32 → Option (x_W)} (hK2 : ∀ (w : x_W) (H : Heap) (locs : List Loc) (ls : Array Slot) (l0 : Nat) (l1 : Int32), K2 w l0 l1 = some q → x_H D x_cl x_FT aC ad T nx A w H → va_S A s.heap H locs → lv_has ls 5 [(0, .ref (ad l0)), (1, .int l1)] → W p l e { frames := 1, cells := 0, slots := 0, locals := 25 } s m args below meth c H locs 0 0 (MQ below (x_Qc D aC ad T nx none q A) args s 0 0 A) (F0 m 2 ls [])) : ∀ (w : x_W) (H : Heap) (locs : List Loc) (ls : Array Slot) (l0 : Nat) (l1 : Int32) (l2 : Int32) (t0 : Nat) (t1 : Int32) (t2 : Int32), f_Mod_frostAndMould_41 T K2 w l0 l1 l2 t0 t1 t2 = some q → x_H D x_cl x_FT aC ad T nx A w H → va_S A s.heap H locs → lv_has ls 5 [(0, .ref (ad l0)), (1, .int l1), (2, .int l2)] → W p l e { frames := 1, cells := 0, slots := 0, locals := 25 } s m args below meth c H locs 0 0 (MQ below (x_Qc D aC ad T nx none q A) args s 0 0 A) (F0 m 41 ls [.int t2, .int t1, .ref (ad t0)]) := by
  obtain ⟨hx, hb, hr, hml, hown, hts, hlocks, hK, hA, hX⟩ := id C0
  intro w H locs ls l0 l1 l2 t0 t1 t2 hf hH hS hl
  unfold f_Mod_frostAndMould_41 at hf
  obtain ⟨_, e1, hf⟩ := x_b hf
  obtain ⟨n2, hT3, hi4⟩ := x_ix_e e1
  refine x_iast hx hb hK hH hS hT3 0 rfl hi4 d_Mod_frostAndMould_41 (fun H locs hH hS => ?_)
  obtain ⟨w5, e6, hf⟩ := x_b hf
  have hH := x_nw e6 hH
  refine lv_aload_n hx hb d_Mod_frostAndMould_42 rfl (lv_at hl 0 rfl) ?_
  obtain ⟨_, e7, hf⟩ := x_b hf
  obtain ⟨n8, hT9⟩ := x_is_e e7
  obtain ⟨a10, e11, hf⟩ := x_b hf
  refine x_get (C := "WallDampModel") (F := F_Mod) (N := 51) hx hb hts i_Mod hown hK hH hT9 (by decide) rfl 14 (by decide) (hts _ m_807) (fun _ h9 => h9) (kd := (2, 78)) rfl (x_fr e11) d_Mod_frostAndMould_43 ?_
  refine lv_iload_n hx hb d_Mod_frostAndMould_46 rfl (lv_at hl 1 rfl) ?_
  obtain ⟨_, e12, hf⟩ := x_b hf
  obtain ⟨n13, hT14, hi15⟩ := x_ix_e e12
  refine x_zald hx hb hK hH hT14 2 rfl hi15 d_Mod_frostAndMould_47 ?_
  refine lv_if_ne (tgt := 81) hx hb d_Mod_frostAndMould_48 (by decide) (fun c16 => ?_) (fun c16 => ?_)
  · have hf := x_if hf c16
    refine lv_aload_n hx hb d_Mod_frostAndMould_81 rfl (lv_at hl 0 rfl) ?_
    obtain ⟨a17, e18, hf⟩ := x_b hf
    refine x_get (C := "WallDampModel") (F := F_Mod) (N := 51) hx hb hts i_Mod hown hK hH hT9 (by decide) rfl 12 (by decide) (hts _ m_805) (fun _ h9 => h9) (kd := (2, 76)) rfl (x_fr e18) d_Mod_frostAndMould_82 ?_
    refine lv_iload_n hx hb d_Mod_frostAndMould_85 rfl (lv_at hl 1 rfl) ?_
    obtain ⟨_, e19, hf⟩ := x_b hf
    obtain ⟨n20, hT21, hi22⟩ := x_ix_e e19
    refine x_iald hx hb hK hH hT21 0 rfl hi22 d_Mod_frostAndMould_86 ?_
    refine lv_if_lt (tgt := 107) hx hb d_Mod_frostAndMould_87 (by decide) (fun c23 => ?_) (fun c23 => ?_)
    · have hf := x_it hf c23
      exact k_Mod_frostAndMould_107 C0 hK2 w5 _ _ _ l0 l1 hf hH hS (lv_sub hl [0, 1] rfl)
    · have hf := x_if hf c23
      refine lv_aload_n hx hb d_Mod_frostAndMould_90 rfl (lv_at hl 0 rfl) ?_
      obtain ⟨a24, e25, hf⟩ := x_b hf
      refine x_get (C := "WallDampModel") (F := F_Mod) (N := 51) hx hb hts i_Mod hown hK hH hT9 (by decide) rfl 14 (by decide) (hts _ m_807) (fun _ h9 => h9) (kd := (2, 78)) rfl (x_fr e25) d_Mod_frostAndMould_91 ?_
      refine lv_iload_n hx hb d_Mod_frostAndMould_94 rfl (lv_at hl 1 rfl) ?_
      refine lv_iconst (v := 0) hx hb d_Mod_frostAndMould_95 (by decide) ?_
      obtain ⟨_, e26, hf⟩ := x_b hf
      obtain ⟨n27, hT28, hi29⟩ := x_ix_e e26
      refine x_zast hx hb hK hH hS hT28 2 rfl hi29 d_Mod_frostAndMould_96 (fun H locs hH hS => ?_)
      obtain ⟨w30, e31, hf⟩ := x_b hf
      have hH := x_nw e31 hH
      refine lv_aload_n hx hb d_Mod_frostAndMould_97 rfl (lv_at hl 0 rfl) ?_
      obtain ⟨a32, e33, hf⟩ := x_b hf
      refine x_get (C := "WallDampModel") (F := F_Mod) (N := 51) hx hb hts i_Mod hown hK hH hT9 (by decide) rfl 13 (by decide) (hts _ m_806) (fun _ h9 => h9) (kd := (2, 77)) rfl (x_fr e33) d_Mod_frostAndMould_98 ?_
      refine lv_iload_n hx hb d_Mod_frostAndMould_101 rfl (lv_at hl 1 rfl) ?_
      refine lv_dup2_11 hx hb d_Mod_frostAndMould_102 rfl rfl ?_
      obtain ⟨_, e34, hf⟩ := x_b hf
      obtain ⟨n35, hT36, hi37⟩ := x_ix_e e34
      refine x_iald hx hb hK hH hT36 0 rfl hi37 d_Mod_frostAndMould_103 ?_
      refine lv_iconst (v := 1) hx hb d_Mod_frostAndMould_104 (by decide) ?_
      refine lv_iadd hx hb d_Mod_frostAndMould_105 ?_
      obtain ⟨_, e38, hf⟩ := x_b hf
      obtain ⟨n39, hT40, hi41⟩ := x_ix_e e38
      refine x_iast hx hb hK hH hS hT40 0 rfl hi41 d_Mod_frostAndMould_106 (fun H locs hH hS => ?_)
      obtain ⟨w42, e43, hf⟩ := x_b hf
      have hH := x_nw e43 hH
      exact k_Mod_frostAndMould_107 C0 hK2 w42 _ _ _ l0 l1 hf hH hS (lv_sub hl [0, 1] rfl)
  · have hf := x_it hf c16
    refine lv_aload_n hx hb d_Mod_frostAndMould_51 rfl (lv_at hl 0 rfl) ?_
    obtain ⟨a44, e45, hf⟩ := x_b hf
    refine x_get (C := "WallDampModel") (F := F_Mod) (N := 51) hx hb hts i_Mod hown hK hH hT9 (by decide) rfl 14 (by decide) (hts _ m_807) (fun _ h9 => h9) (kd := (2, 78)) rfl (x_fr e45) d_Mod_frostAndMould_52 ?_
    refine lv_iload_n hx hb d_Mod_frostAndMould_55 rfl (lv_at hl 1 rfl) ?_
    refine lv_aload_n hx hb d_Mod_frostAndMould_56 rfl (lv_at hl 0 rfl) ?_
    obtain ⟨a46, e47, hf⟩ := x_b hf
    refine x_get (C := "WallDampModel") (F := F_Mod) (N := 51) hx hb hts i_Mod hown hK hH hT9 (by decide) rfl 12 (by decide) (hts _ m_805) (fun _ h9 => h9) (kd := (2, 76)) rfl (x_fr e47) d_Mod_frostAndMould_57 ?_
    refine lv_iload_n hx hb d_Mod_frostAndMould_60 rfl (lv_at hl 1 rfl) ?_
    obtain ⟨_, e48, hf⟩ := x_b hf
    obtain ⟨n49, hT50, hi51⟩ := x_ix_e e48
    refine x_iald hx hb hK hH hT50 0 rfl hi51 d_Mod_frostAndMould_61 ?_
    refine lv_if_ge (tgt := 76) hx hb d_Mod_frostAndMould_62 (by decide) (fun c52 => ?_) (fun c52 => ?_)
    · have hf := x_it hf c52
      exact k_Mod_frostAndMould_76 C0 hK2 w5 _ _ _ l0 l1 a44 l1 hf hH hS (lv_sub hl [0, 1] rfl)
    · have hf := x_if hf c52
      refine lv_iload_n hx hb d_Mod_frostAndMould_65 rfl (lv_at hl 2 rfl) ?_
      refine lv_sipush (v := 9000) hx hb d_Mod_frostAndMould_66 (by decide) ?_
      refine lv_icmp_lt (tgt := 76) hx hb d_Mod_frostAndMould_69 (by decide) (fun c53 => ?_) (fun c53 => ?_)
      · have hf := x_it hf c53
        exact k_Mod_frostAndMould_76 C0 hK2 w5 _ _ _ l0 l1 a44 l1 hf hH hS (lv_sub hl [0, 1] rfl)
      · have hf := x_if hf c53
        refine lv_iconst (v := 1) hx hb d_Mod_frostAndMould_72 (by decide) ?_
        refine lv_goto (tgt := 77) hx hb d_Mod_frostAndMould_73 (by decide) ?_
        exact k_Mod_frostAndMould_77 C0 hK2 w5 _ _ _ l0 l1 a44 l1 (1 : Int32) hf hH hS (lv_sub hl [0, 1] rfl)
set_option maxHeartbeats 4000000 in
set_option maxRecDepth 100000 in
theorem k_Mod_frostAndMould_2 {p : Program} {l : Launch} {e : Env} {s : State} {m : MethodId} {args : Array Value} {below : List Frame} {meth : Method} {c : Code} {D : va_G} {aC : Nat → ClassId} {ad : Nat → Nat} {T : x_T} {nx : Nat} {A : Nat → Prop} {q : x_W} (C0 : x_At p s m meth c args "WallDampModel" b_Mod_frostAndMould none 5 D aC A) : ∀ (n : Nat), ∀ (w : x_W) (H : Heap) (locs : List Loc) (ls : Array Slot) (l0 : Nat) (l1 : Int32), f_Mod_frostAndMould_2 T n w l0 l1 = some q → x_H D x_cl x_FT aC ad T nx A w H → va_S A s.heap H locs → lv_has ls 5 [(0, .ref (ad l0)), (1, .int l1)] → W p l e { frames := 1, cells := 0, slots := 0, locals := 25 } s m args below meth c H locs 0 0 (MQ below (x_Qc D aC ad T nx none q A) args s 0 0 A) (F0 m 2 ls []) := by
  obtain ⟨hx, hb, hr, hml, hown, hts, hlocks, hK, hA, hX⟩ := id C0
  intro n
  induction n with
  | zero => intro w H locs ls l0 l1 hf; cases (show none = some q from hf)
  | succ n ih =>
    intro w H locs ls l0 l1 hf hH hS hl
    unfold f_Mod_frostAndMould_2 at hf
    refine lv_iload_n hx hb d_Mod_frostAndMould_2 rfl (lv_at hl 1 rfl) ?_
    refine lv_aload_n hx hb d_Mod_frostAndMould_3 rfl (lv_at hl 0 rfl) ?_
    obtain ⟨_, e1, hf⟩ := x_b hf
    obtain ⟨n2, hT3⟩ := x_is_e e1
    refine x_get (C := "WallDampModel") (F := F_Mod) (N := 51) hx hb hts i_Mod hown hK hH hT3 (by decide) rfl 1 (by decide) (hts _ m_794) (fun _ h9 => h9) (kd := (0, 65)) rfl rfl d_Mod_frostAndMould_4 ?_
    refine lv_icmp_ge (tgt := 113) hx hb d_Mod_frostAndMould_7 (by decide) (fun c4 => ?_) (fun c4 => ?_)
    · have hf := x_it hf c4
      refine lv_aload_n hx hb d_Mod_frostAndMould_113 rfl (lv_at hl 0 rfl) ?_
      refine x_get (C := "WallDampModel") (F := F_Mod) (N := 51) hx hb hts i_Mod hown hK hH hT3 (by decide) rfl 1 (by decide) (hts _ m_794) (fun _ h9 => h9) (kd := (0, 65)) rfl rfl d_Mod_frostAndMould_114 ?_
      refine lv_iconst (v := 1) hx hb d_Mod_frostAndMould_117 (by decide) ?_
      refine lv_isub hx hb d_Mod_frostAndMould_118 ?_
      obtain ⟨v5, e6, hf⟩ := x_b hf
      refine x_nmi e6 ?_
      refine lv_istore_n (lv' := [(1, .int v5), (0, .ref (ad l0))]) hx hb d_Mod_frostAndMould_119 rfl hl (by decide) rfl (fun ls hl => ?_)
      refine lv_aload_n hx hb d_Mod_frostAndMould_120 rfl (lv_at hl 1 rfl) ?_
      refine lv_iload_n hx hb d_Mod_frostAndMould_121 rfl (lv_at hl 0 rfl) ?_
      obtain ⟨q7, e8, hf⟩ := x_b hf
      refine x_callP (st1 := [.int q7]) (x_runV (As := [.int v5]) (rest := []) ⟨hx, hb, hml, hown, hts⟩ (c_Mod_dampOf l D aC ad T nx H.size w l0 v5 q7 e8) (cwV 1 hts (x_gV m_1045 m_1047 ms_22 m_13 m_1048) rfl rfl rfl ⟨rfl, pd_Mod_dampOf⟩ ⟨Nat.le_of_ble_eq_true rfl, Nat.le_of_ble_eq_true rfl⟩) hH hK hX hT3 (by decide) rfl rfl rfl hl.1 rfl (lv_room (Nat.le_of_ble_eq_true rfl)) d_Mod_frostAndMould_122 ⟨Nat.zero_le _, Nat.zero_le _⟩) rfl ?_
      refine lv_istore_n (lv' := [(2, .int q7), (1, .int v5), (0, .ref (ad l0))]) hx hb d_Mod_frostAndMould_125 rfl hl (by decide) rfl (fun ls hl => ?_)
      refine lv_iconst (v := (-1)) hx hb d_Mod_frostAndMould_126 (by decide) ?_
      refine lv_istore_n (lv' := [(3, .int (-1)), (2, .int q7), (1, .int v5), (0, .ref (ad l0))]) hx hb d_Mod_frostAndMould_127 rfl hl (by decide) rfl (fun ls hl => ?_)
      refine lv_aload_n hx hb d_Mod_frostAndMould_128 rfl (lv_at hl 3 rfl) ?_
      refine x_get (C := "WallDampModel") (F := F_Mod) (N := 51) hx hb hts i_Mod hown hK hH hT3 (by decide) rfl 27 (by decide) (hts _ m_820) (fun _ h9 => h9) (kd := (0, 91)) rfl rfl d_Mod_frostAndMould_129 ?_
      refine lv_iconst (v := 1) hx hb d_Mod_frostAndMould_132 (by decide) ?_
      refine lv_isub hx hb d_Mod_frostAndMould_133 ?_
      obtain ⟨v9, e10, hf⟩ := x_b hf
      refine x_nmi e10 ?_
      refine lv_istore (lv' := [(4, .int v9), (3, .int (-1)), (2, .int q7), (1, .int v5), (0, .ref (ad l0))]) hx hb d_Mod_frostAndMould_134 hl (by decide) rfl (fun ls hl => ?_)
      exact k_Mod_frostAndMould_136 C0 1000 w _ _ _ l0 v5 q7 (-1) v9 hf hH hS (lv_sub hl [4, 3, 2, 1, 0] rfl)
    · have hf := x_if hf c4
      refine lv_aload_n hx hb d_Mod_frostAndMould_10 rfl (lv_at hl 0 rfl) ?_
      refine lv_iload_n hx hb d_Mod_frostAndMould_11 rfl (lv_at hl 1 rfl) ?_
      obtain ⟨q11, e12, hf⟩ := x_b hf
      refine x_callP (st1 := [.int q11]) (x_runV (As := [.int l1]) (rest := []) ⟨hx, hb, hml, hown, hts⟩ (c_Mod_dampOf l D aC ad T nx H.size w l0 l1 q11 e12) (cwV 1 hts (x_gV m_1045 m_1047 ms_22 m_13 m_1048) rfl rfl rfl ⟨rfl, pd_Mod_dampOf⟩ ⟨Nat.le_of_ble_eq_true rfl, Nat.le_of_ble_eq_true rfl⟩) hH hK hX hT3 (by decide) rfl rfl rfl hl.1 rfl (lv_room (Nat.le_of_ble_eq_true rfl)) d_Mod_frostAndMould_12 ⟨Nat.zero_le _, Nat.zero_le _⟩) rfl ?_
      refine lv_istore_n (lv' := [(2, .int q11), (0, .ref (ad l0)), (1, .int l1)]) hx hb d_Mod_frostAndMould_15 rfl hl (by decide) rfl (fun ls hl => ?_)
      refine lv_aload_n hx hb d_Mod_frostAndMould_16 rfl (lv_at hl 1 rfl) ?_
      obtain ⟨a13, e14, hf⟩ := x_b hf
      refine x_get (C := "WallDampModel") (F := F_Mod) (N := 51) hx hb hts i_Mod hown hK hH hT3 (by decide) rfl 15 (by decide) (hts _ m_808) (fun _ h9 => h9) (kd := (2, 79)) rfl (x_fr e14) d_Mod_frostAndMould_17 ?_
      refine lv_iload_n hx hb d_Mod_frostAndMould_20 rfl (lv_at hl 2 rfl) ?_
      refine lv_iload_n hx hb d_Mod_frostAndMould_21 rfl (lv_at hl 0 rfl) ?_
      refine lv_aload_n hx hb d_Mod_frostAndMould_22 rfl (lv_at hl 1 rfl) ?_
      obtain ⟨a15, e16, hf⟩ := x_b hf
      refine x_get (C := "WallDampModel") (F := F_Mod) (N := 51) hx hb hts i_Mod hown hK hH hT3 (by decide) rfl 15 (by decide) (hts _ m_808) (fun _ h9 => h9) (kd := (2, 79)) rfl (x_fr e16) d_Mod_frostAndMould_23 ?_
      refine lv_iload_n hx hb d_Mod_frostAndMould_26 rfl (lv_at hl 2 rfl) ?_
      obtain ⟨_, e17, hf⟩ := x_b hf
      obtain ⟨n18, hT19, hi20⟩ := x_ix_e e17
      refine x_iald hx hb hK hH hT19 0 rfl hi20 d_Mod_frostAndMould_27 ?_
      refine lv_icmp_le (tgt := 35) hx hb d_Mod_frostAndMould_28 (by decide) (fun c21 => ?_) (fun c21 => ?_)
      · have hf := x_it hf c21
        refine lv_aload_n hx hb d_Mod_frostAndMould_35 rfl (lv_at hl 1 rfl) ?_
        obtain ⟨a22, e23, hf⟩ := x_b hf
        refine x_get (C := "WallDampModel") (F := F_Mod) (N := 51) hx hb hts i_Mod hown hK hH hT3 (by decide) rfl 15 (by decide) (hts _ m_808) (fun _ h9 => h9) (kd := (2, 79)) rfl (x_fr e23) d_Mod_frostAndMould_36 ?_
        refine lv_iload_n hx hb d_Mod_frostAndMould_39 rfl (lv_at hl 2 rfl) ?_
        obtain ⟨_, e24, hf⟩ := x_b hf
        obtain ⟨n25, hT26, hi27⟩ := x_ix_e e24
        refine x_iald hx hb hK hH hT26 0 rfl hi27 d_Mod_frostAndMould_40 ?_
        exact k_Mod_frostAndMould_41 C0 ih w _ _ _ l0 l1 q11 a13 l1 (x_A w a22 l1.toNatClampNeg) hf hH hS (lv_sub hl [1, 2, 0] rfl)
      · have hf := x_if hf c21
        refine lv_iload_n hx hb d_Mod_frostAndMould_31 rfl (lv_at hl 0 rfl) ?_
        refine lv_goto (tgt := 41) hx hb d_Mod_frostAndMould_32 (by decide) ?_
        exact k_Mod_frostAndMould_41 C0 ih w _ _ _ l0 l1 q11 a13 l1 q11 hf hH hS (lv_sub hl [1, 2, 0] rfl)
set_option maxHeartbeats 4000000 in
set_option maxRecDepth 100000 in
theorem k_Mod_frostAndMould {p : Program} {l : Launch} {e : Env} {s : State} {m : MethodId} {args : Array Value} {below : List Frame} {meth : Method} {c : Code} {D : va_G} {aC : Nat → ClassId} {ad : Nat → Nat} {T : x_T} {nx : Nat} {A : Nat → Prop} {q : x_W} (C0 : x_At p s m meth c args "WallDampModel" b_Mod_frostAndMould none 5 D aC A) : ∀ (w : x_W) (H : Heap) (locs : List Loc) (ls : Array Slot) (l0 : Nat), f_Mod_frostAndMould T w l0 = some q → x_H D x_cl x_FT aC ad T nx A w H → va_S A s.heap H locs → lv_has ls 5 [(0, .ref (ad l0))] → W p l e { frames := 1, cells := 0, slots := 0, locals := 25 } s m args below meth c H locs 0 0 (MQ below (x_Qc D aC ad T nx none q A) args s 0 0 A) (F0 m 0 ls []) := by
  obtain ⟨hx, hb, hr, hml, hown, hts, hlocks, hK, hA, hX⟩ := id C0
  intro w H locs ls l0 hf hH hS hl
  unfold f_Mod_frostAndMould at hf
  refine lv_iconst (v := 0) hx hb d_Mod_frostAndMould_0 (by decide) ?_
  refine lv_istore_n (lv' := [(1, .int (0 : Int32)), (0, .ref (ad l0))]) hx hb d_Mod_frostAndMould_1 rfl hl (by decide) rfl (fun ls hl => ?_)
  exact k_Mod_frostAndMould_2 C0 1000 w _ _ _ l0 (0 : Int32) hf hH hS (lv_sub hl [1, 0] rfl)
theorem c_Mod_frostAndMould (l : Launch) (D : va_G) (aC : Nat → ClassId) (ad : Nat → Nat) (T : x_T) (nx sz : Nat) (w : x_W) (a0 : Nat) (q : x_W) (hf : f_Mod_frostAndMould T w a0 = some q) : Met l y_Mod_frostAndMould ws_Mod_frostAndMould { frames := 1, cells := 0, slots := 0, locals := 25 } (x_Pc D aC ad T nx sz w [.ref (ad a0)]) (x_Qc D aC ad T nx none q (x_dom ad nx sz)) 0 0 (x_dom ad nx sz) :=
  x_met [(0, .ref (ad a0))] (plainFor_of_name (by decide)) rfl rfl (Nat.le_of_ble_eq_true rfl) (fun p e s m args below meth c ls C0 hH hS hl => k_Mod_frostAndMould C0 w _ _ _ a0 hf hH hS (lv_sub hl [0] rfl))
/-! WallDampModel.hour(I)V -/
def f_Mod_hour (T : x_T) (w : x_W) (l0 : Nat) (l1 : Int32) : Option (x_W) :=
  (x_is T l0 10).bind fun _ =>
  (f_Mod_warm T w l0 l1).bind fun q1 =>
  (f_Mod_flow T q1 l0 l1).bind fun q6 =>
  (f_Mod_move T q6 l0).bind fun q8 =>
  some q8
set_option maxHeartbeats 4000000 in
set_option maxRecDepth 100000 in
theorem k_Mod_hour {p : Program} {l : Launch} {e : Env} {s : State} {m : MethodId} {args : Array Value} {below : List Frame} {meth : Method} {c : Code} {D : va_G} {aC : Nat → ClassId} {ad : Nat → Nat} {T : x_T} {nx : Nat} {A : Nat → Prop} {q : x_W} (C0 : x_At p s m meth c args "WallDampModel" b_Mod_hour none 2 D aC A) : ∀ (w : x_W) (H : Heap) (locs : List Loc) (ls : Array Slot) (l0 : Nat) (l1 : Int32), f_Mod_hour T w l0 l1 = some q → x_H D x_cl x_FT aC ad T nx A w H → va_S A s.heap H locs → lv_has ls 2 [(0, .ref (ad l0)), (1, .int l1)] → W p l e { frames := 3, cells := 0, slots := 0, locals := 71 } s m args below meth c H locs 0 0 (MQ below (x_Qc D aC ad T nx none q A) args s 0 0 A) (F0 m 0 ls []) := by
  obtain ⟨hx, hb, hr, hml, hown, hts, hlocks, hK, hA, hX⟩ := id C0
  intro w H locs ls l0 l1 hf hH hS hl
  unfold f_Mod_hour at hf
  refine lv_aload_n hx hb d_Mod_hour_0 rfl (lv_at hl 0 rfl) ?_
  refine lv_iload_n hx hb d_Mod_hour_1 rfl (lv_at hl 1 rfl) ?_
  obtain ⟨_, e3, hf⟩ := x_b hf
  obtain ⟨n4, hT5⟩ := x_is_e e3
  obtain ⟨q1, e2, hf⟩ := x_b hf
  refine x_call (st1 := []) (x_runV (As := [.int l1]) (rest := []) ⟨hx, hb, hml, hown, hts⟩ (c_Mod_warm l D aC ad T nx H.size w l0 l1 q1 e2) (cwV 1 hts (x_gV m_1029 m_1031 ms_19 m_13 m_1032) rfl rfl rfl ⟨rfl, pd_Mod_warm⟩ ⟨Nat.le_of_ble_eq_true rfl, Nat.le_of_ble_eq_true rfl⟩) hH hK hX hT5 (by decide) rfl rfl rfl hl.1 rfl (lv_room (Nat.le_of_ble_eq_true rfl)) d_Mod_hour_2 ⟨Nat.zero_le _, Nat.zero_le _⟩) rfl hH hA hS (fun H locs hH hS => ?_)
  refine lv_aload_n hx hb d_Mod_hour_5 rfl (lv_at hl 0 rfl) ?_
  refine lv_iload_n hx hb d_Mod_hour_6 rfl (lv_at hl 1 rfl) ?_
  obtain ⟨q6, e7, hf⟩ := x_b hf
  refine x_call (st1 := []) (x_runV (As := [.int l1]) (rest := []) ⟨hx, hb, hml, hown, hts⟩ (c_Mod_flow l D aC ad T nx H.size q1 l0 l1 q6 e7) (cwV 1 hts (x_gV m_1041 m_1043 ms_21 m_13 m_1044) rfl rfl rfl ⟨rfl, pd_Mod_flow⟩ ⟨Nat.le_of_ble_eq_true rfl, Nat.le_of_ble_eq_true rfl⟩) hH hK hX hT5 (by decide) rfl rfl rfl hl.1 rfl (lv_room (Nat.le_of_ble_eq_true rfl)) d_Mod_hour_7 ⟨Nat.zero_le _, Nat.zero_le _⟩) rfl hH hA hS (fun H locs hH hS => ?_)
  refine lv_aload_n hx hb d_Mod_hour_10 rfl (lv_at hl 0 rfl) ?_
  obtain ⟨q8, e9, hf⟩ := x_b hf
  refine x_call (st1 := []) (x_runV (As := []) (rest := []) ⟨hx, hb, hml, hown, hts⟩ (c_Mod_move l D aC ad T nx H.size q6 l0 q8 e9) (cwV 0 hts (x_gV m_1053 m_1055 ms_23 m_13 m_1056) rfl rfl rfl ⟨rfl, pd_Mod_move⟩ ⟨Nat.le_of_ble_eq_true rfl, Nat.le_of_ble_eq_true rfl⟩) hH hK hX hT5 (by decide) rfl rfl rfl hl.1 rfl (lv_room (Nat.le_of_ble_eq_true rfl)) d_Mod_hour_11 ⟨Nat.zero_le _, Nat.zero_le _⟩) rfl hH hA hS (fun H locs hH hS => ?_)
  cases hf
  refine x_sz0 hS (fun hz => ?_)
  exact W.vret hx hb hr (fun t ht hW => ⟨rfl, hS.F ht, by rw [ht]; exact hz, by rw [ht]; exact hH.weaken (fun _ _ _ => trivial)⟩) hS.2.2 d_Mod_hour_14
theorem c_Mod_hour (l : Launch) (D : va_G) (aC : Nat → ClassId) (ad : Nat → Nat) (T : x_T) (nx sz : Nat) (w : x_W) (a0 : Nat) (a1 : Int32) (q : x_W) (hf : f_Mod_hour T w a0 a1 = some q) : Met l y_Mod_hour ws_Mod_hour { frames := 3, cells := 0, slots := 0, locals := 71 } (x_Pc D aC ad T nx sz w [.ref (ad a0), .int a1]) (x_Qc D aC ad T nx none q (x_dom ad nx sz)) 0 0 (x_dom ad nx sz) :=
  x_met [(0, .ref (ad a0)), (1, .int a1)] (plainFor_of_name (by decide)) rfl rfl (Nat.le_of_ble_eq_true rfl) (fun p e s m args below meth c ls C0 hH hS hl => k_Mod_hour C0 w _ _ _ a0 a1 hf hH hS (lv_sub hl [0, 1] rfl))
/-! WallDampModel.run(I)I -/
def f_Mod_run_48 (T : x_T) : Nat → x_W → Nat → Int32 → Int32 → Option (Int32 × x_W)
  | 0, _, _, _, _ => none
  | n + 1, w, l0, l1, l2 =>
    if l1 ≤ l2 then
      ((x_is T l0 10).bind fun _ =>
      some ((x_I w 96 l0), w))
    else
      ((x_is T l0 10).bind fun _ =>
      (f_Mod_hour T w l0 ((x_I w 96 l0) - (x_I w 96 l0) / (24 : Int32) * (24 : Int32))).bind fun q8 =>
      (f_Mod_frostAndMould T q8 l0).bind fun q10 =>
      (some (x_sI q10 96 l0 ((x_I q10 96 l0) + (1 : Int32)))).bind fun w12 =>
      f_Mod_run_48 T n w12 l0 l1 (l2 + 1))
def f_Mod_run_34 (T : x_T) (w : x_W) (l0 : Nat) (l1 : Int32) (t0 : Nat) (t1 : Int32) : Option (Int32 × x_W) :=
  (x_is T t0 10).bind fun _ =>
  (some (x_sI w 64 t0 t1)).bind fun w4 =>
  (x_is T l0 10).bind fun _ =>
  if (x_I w4 64 l0) ≤ 0 then
    (f_Mod_run_48 T 1000 w4 l0 l1 (0 : Int32))
  else
    (some ((0 : Int32), w4))
def f_Mod_run (T : x_T) (w : x_W) (l0 : Nat) (l1 : Int32) : Option (Int32 × x_W) :=
  (f_Mod_in T w (l1.toInt64) (1 : Int64) (240 : Int64)).bind fun q1 =>
  if q1 = 0 then
    (f_Mod_run_34 T w l0 l1 l0 (1 : Int32))
  else
    ((x_is T l0 10).bind fun _ =>
    if ((x_I w 96 l0) + l1) ≤ (10000 : Int32) then
      (f_Mod_run_34 T w l0 l1 l0 (0 : Int32))
    else
      (f_Mod_run_34 T w l0 l1 l0 (2 : Int32)))
set_option maxHeartbeats 4000000 in
set_option maxRecDepth 100000 in
theorem k_Mod_run_48 {p : Program} {l : Launch} {e : Env} {s : State} {m : MethodId} {args : Array Value} {below : List Frame} {meth : Method} {c : Code} {D : va_G} {aC : Nat → ClassId} {ad : Nat → Nat} {T : x_T} {nx : Nat} {A : Nat → Prop} {q : Int32 × x_W} (C0 : x_At p s m meth c args "WallDampModel" b_Mod_run (some (.int)) 3 D aC A) : ∀ (n : Nat), ∀ (w : x_W) (H : Heap) (locs : List Loc) (ls : Array Slot) (l0 : Nat) (l1 : Int32) (l2 : Int32), f_Mod_run_48 T n w l0 l1 l2 = some q → x_H D x_cl x_FT aC ad T nx A w H → va_S A s.heap H locs → lv_has ls 3 [(0, .ref (ad l0)), (1, .int l1), (2, .int l2)] → W p l e { frames := 4, cells := 0, slots := 0, locals := 92 } s m args below meth c H locs 0 0 (MQ below (x_Qc D aC ad T nx (some (.int q.1)) q.2 A) args s 0 0 A) (F0 m 48 ls []) := by
  obtain ⟨hx, hb, hr, hml, hown, hts, hlocks, hK, hA, hX⟩ := id C0
  intro n
  induction n with
  | zero => intro w H locs ls l0 l1 l2 hf; cases (show none = some q from hf)
  | succ n ih =>
    intro w H locs ls l0 l1 l2 hf hH hS hl
    unfold f_Mod_run_48 at hf
    refine lv_iload_n hx hb d_Mod_run_48 rfl (lv_at hl 2 rfl) ?_
    refine lv_iload_n hx hb d_Mod_run_49 rfl (lv_at hl 1 rfl) ?_
    refine lv_icmp_ge (tgt := 84) hx hb d_Mod_run_50 (by decide) (fun c1 => ?_) (fun c1 => ?_)
    · have hf := x_it hf c1
      refine lv_aload_n hx hb d_Mod_run_84 rfl (lv_at hl 0 rfl) ?_
      obtain ⟨_, e2, hf⟩ := x_b hf
      obtain ⟨n3, hT4⟩ := x_is_e e2
      refine x_get (C := "WallDampModel") (F := F_Mod) (N := 51) hx hb hts i_Mod hown hK hH hT4 (by decide) rfl 32 (by decide) (hts _ m_825) (fun _ h9 => h9) (kd := (0, 96)) rfl rfl d_Mod_run_85 ?_
      cases hf
      refine x_sz0 hS (fun hz => ?_)
      exact W.iret hx hb hr (fun t ht hW => ⟨rfl, hS.F ht, by rw [ht]; exact hz, by rw [ht]; exact hH.weaken (fun _ _ _ => trivial)⟩) hS.2.2 d_Mod_run_88
    · have hf := x_if hf c1
      refine lv_aload_n hx hb d_Mod_run_53 rfl (lv_at hl 0 rfl) ?_
      refine lv_aload_n hx hb d_Mod_run_54 rfl (lv_at hl 0 rfl) ?_
      obtain ⟨_, e5, hf⟩ := x_b hf
      obtain ⟨n6, hT7⟩ := x_is_e e5
      refine x_get (C := "WallDampModel") (F := F_Mod) (N := 51) hx hb hts i_Mod hown hK hH hT7 (by decide) rfl 32 (by decide) (hts _ m_825) (fun _ h9 => h9) (kd := (0, 96)) rfl rfl d_Mod_run_55 ?_
      refine lv_bipush (v := 24) hx hb d_Mod_run_58 (by decide) ?_
      refine lv_irem hx hb d_Mod_run_60 (by decide) ?_
      obtain ⟨q8, e9, hf⟩ := x_b hf
      refine x_call (st1 := []) (x_runV (As := [.int ((x_I w 96 l0) - (x_I w 96 l0) / (24 : Int32) * (24 : Int32))]) (rest := []) ⟨hx, hb, hml, hown, hts⟩ (c_Mod_hour l D aC ad T nx H.size w l0 ((x_I w 96 l0) - (x_I w 96 l0) / (24 : Int32) * (24 : Int32)) q8 e9) (cwV 1 hts (x_gV m_1025 m_1027 ms_18 m_13 m_1028) rfl rfl rfl ⟨rfl, pd_Mod_hour⟩ ⟨Nat.le_of_ble_eq_true rfl, Nat.le_of_ble_eq_true rfl⟩) hH hK hX hT7 (by decide) rfl rfl rfl hl.1 rfl (lv_room (Nat.le_of_ble_eq_true rfl)) d_Mod_run_61 ⟨Nat.zero_le _, Nat.zero_le _⟩) rfl hH hA hS (fun H locs hH hS => ?_)
      refine lv_aload_n hx hb d_Mod_run_64 rfl (lv_at hl 0 rfl) ?_
      obtain ⟨q10, e11, hf⟩ := x_b hf
      refine x_call (st1 := []) (x_runV (As := []) (rest := []) ⟨hx, hb, hml, hown, hts⟩ (c_Mod_frostAndMould l D aC ad T nx H.size q8 l0 q10 e11) (cwV 0 hts (x_gV m_1065 m_1067 ms_26 m_13 m_1068) rfl rfl rfl ⟨rfl, pd_Mod_frostAndMould⟩ ⟨Nat.le_of_ble_eq_true rfl, Nat.le_of_ble_eq_true rfl⟩) hH hK hX hT7 (by decide) rfl rfl rfl hl.1 rfl (lv_room (Nat.le_of_ble_eq_true rfl)) d_Mod_run_65 ⟨Nat.zero_le _, Nat.zero_le _⟩) rfl hH hA hS (fun H locs hH hS => ?_)
      refine lv_aload_n hx hb d_Mod_run_68 rfl (lv_at hl 0 rfl) ?_
      refine lv_dup hx hb d_Mod_run_69 rfl ?_
      refine x_get (C := "WallDampModel") (F := F_Mod) (N := 51) hx hb hts i_Mod hown hK hH hT7 (by decide) rfl 32 (by decide) (hts _ m_825) (fun _ h9 => h9) (kd := (0, 96)) rfl rfl d_Mod_run_70 ?_
      refine lv_iconst (v := 1) hx hb d_Mod_run_73 (by decide) ?_
      refine lv_iadd hx hb d_Mod_run_74 ?_
      refine x_put (C := "WallDampModel") (F := F_Mod) (N := 51) (ty := t_Mod 32) (v := .int ((x_I q10 96 l0) + (1 : Int32))) (w' := x_sI q10 96 l0 ((x_I q10 96 l0) + (1 : Int32))) hx hb hts i_Mod t_Mod ty_Mod n_Mod hown hK hH hS hT7 (by decide) rfl rfl 32 (by decide) (hts _ m_825) (fun _ h9 => h9) rfl (ty_Mod 32 (by decide)) rfl rfl (x_on_I hT7 (by decide) rfl nd_Mod) (fun j hj => x_off_I hj) (fun hh ok => x_ok_I hh ok) d_Mod_run_75 (fun H locs hH hS => ?_)
      obtain ⟨w12, e13, hf⟩ := x_b hf
      have hH := x_nw e13 hH
      refine lv_iinc (v := (l2 + 1)) (lv' := [(2, .int (l2 + 1)), (0, .ref (ad l0)), (1, .int l1)]) hx hb d_Mod_run_78 hl (k := 2) rfl rfl (by decide) rfl (fun ls hl => ?_)
      refine lv_goto (tgt := 48) hx hb d_Mod_run_81 (by decide) ?_
      exact ih w12 _ _ _ l0 l1 (l2 + 1) hf hH hS (lv_sub hl [1, 2, 0] rfl)
set_option maxHeartbeats 4000000 in
set_option maxRecDepth 100000 in
theorem k_Mod_run_34 {p : Program} {l : Launch} {e : Env} {s : State} {m : MethodId} {args : Array Value} {below : List Frame} {meth : Method} {c : Code} {D : va_G} {aC : Nat → ClassId} {ad : Nat → Nat} {T : x_T} {nx : Nat} {A : Nat → Prop} {q : Int32 × x_W} (C0 : x_At p s m meth c args "WallDampModel" b_Mod_run (some (.int)) 3 D aC A) : ∀ (w : x_W) (H : Heap) (locs : List Loc) (ls : Array Slot) (l0 : Nat) (l1 : Int32) (t0 : Nat) (t1 : Int32), f_Mod_run_34 T w l0 l1 t0 t1 = some q → x_H D x_cl x_FT aC ad T nx A w H → va_S A s.heap H locs → lv_has ls 3 [(0, .ref (ad l0)), (1, .int l1)] → W p l e { frames := 4, cells := 0, slots := 0, locals := 92 } s m args below meth c H locs 0 0 (MQ below (x_Qc D aC ad T nx (some (.int q.1)) q.2 A) args s 0 0 A) (F0 m 34 ls [.int t1, .ref (ad t0)]) := by
  obtain ⟨hx, hb, hr, hml, hown, hts, hlocks, hK, hA, hX⟩ := id C0
  intro w H locs ls l0 l1 t0 t1 hf hH hS hl
  unfold f_Mod_run_34 at hf
  obtain ⟨_, e1, hf⟩ := x_b hf
  obtain ⟨n2, hT3⟩ := x_is_e e1
  refine x_put (C := "WallDampModel") (F := F_Mod) (N := 51) (ty := t_Mod 0) (v := .int t1) (w' := x_sI w 64 t0 t1) hx hb hts i_Mod t_Mod ty_Mod n_Mod hown hK hH hS hT3 (by decide) rfl rfl 0 (by decide) (hts _ m_793) (fun _ h9 => h9) rfl (ty_Mod 0 (by decide)) rfl rfl (x_on_I hT3 (by decide) rfl nd_Mod) (fun j hj => x_off_I hj) (fun hh ok => x_ok_I hh ok) d_Mod_run_34 (fun H locs hH hS => ?_)
  obtain ⟨w4, e5, hf⟩ := x_b hf
  have hH := x_nw e5 hH
  refine lv_aload_n hx hb d_Mod_run_37 rfl (lv_at hl 0 rfl) ?_
  obtain ⟨_, e6, hf⟩ := x_b hf
  obtain ⟨n7, hT8⟩ := x_is_e e6
  refine x_get (C := "WallDampModel") (F := F_Mod) (N := 51) hx hb hts i_Mod hown hK hH hT8 (by decide) rfl 0 (by decide) (hts _ m_793) (fun _ h9 => h9) (kd := (0, 64)) rfl rfl d_Mod_run_38 ?_
  refine lv_if_le (tgt := 46) hx hb d_Mod_run_41 (by decide) (fun c9 => ?_) (fun c9 => ?_)
  · have hf := x_it hf c9
    refine lv_iconst (v := 0) hx hb d_Mod_run_46 (by decide) ?_
    refine lv_istore_n (lv' := [(2, .int (0 : Int32)), (0, .ref (ad l0)), (1, .int l1)]) hx hb d_Mod_run_47 rfl hl (by decide) rfl (fun ls hl => ?_)
    exact k_Mod_run_48 C0 1000 w4 _ _ _ l0 l1 (0 : Int32) hf hH hS (lv_sub hl [1, 2, 0] rfl)
  · have hf := x_if hf c9
    refine lv_iconst (v := 0) hx hb d_Mod_run_44 (by decide) ?_
    cases hf
    refine x_sz0 hS (fun hz => ?_)
    exact W.iret hx hb hr (fun t ht hW => ⟨rfl, hS.F ht, by rw [ht]; exact hz, by rw [ht]; exact hH.weaken (fun _ _ _ => trivial)⟩) hS.2.2 d_Mod_run_45
set_option maxHeartbeats 4000000 in
set_option maxRecDepth 100000 in
theorem k_Mod_run {p : Program} {l : Launch} {e : Env} {s : State} {m : MethodId} {args : Array Value} {below : List Frame} {meth : Method} {c : Code} {D : va_G} {aC : Nat → ClassId} {ad : Nat → Nat} {T : x_T} {nx : Nat} {A : Nat → Prop} {q : Int32 × x_W} (C0 : x_At p s m meth c args "WallDampModel" b_Mod_run (some (.int)) 3 D aC A) : ∀ (w : x_W) (H : Heap) (locs : List Loc) (ls : Array Slot) (l0 : Nat) (l1 : Int32), f_Mod_run T w l0 l1 = some q → x_H D x_cl x_FT aC ad T nx A w H → va_S A s.heap H locs → lv_has ls 3 [(0, .ref (ad l0)), (1, .int l1)] → W p l e { frames := 4, cells := 0, slots := 0, locals := 92 } s m args below meth c H locs 0 0 (MQ below (x_Qc D aC ad T nx (some (.int q.1)) q.2 A) args s 0 0 A) (F0 m 0 ls []) := by
  obtain ⟨hx, hb, hr, hml, hown, hts, hlocks, hK, hA, hX⟩ := id C0
  intro w H locs ls l0 l1 hf hH hS hl
  unfold f_Mod_run at hf
  refine lv_aload_n hx hb d_Mod_run_0 rfl (lv_at hl 0 rfl) ?_
  refine lv_iload_n hx hb d_Mod_run_1 rfl (lv_at hl 1 rfl) ?_
  refine lv_i2l (v := l1.toInt64) hx hb d_Mod_run_2 rfl ?_
  refine lv_lconst (v := 1) hx hb d_Mod_run_3 (by decide) ?_
  refine lv_ldc2 (v := (240 : Int64)) hx hb hown (hts _ m_1024) d_Mod_run_4 ?_
  obtain ⟨q1, e2, hf⟩ := x_b hf
  refine x_callP (st1 := [.int q1, .ref (ad l0)]) (x_runS (As := [.long (l1.toInt64), .long (1 : Int64), .long (240 : Int64)]) (rest := [.ref (ad l0)]) ⟨hx, hb, hml, hown, hts⟩ (c_Mod_in l D aC ad T nx H.size w (l1.toInt64) (1 : Int64) (240 : Int64) q1 e2) (va_cwS 3 hts (x_gS m_958 m_959 m_13 m_960) rfl rfl rfl pd_Mod_in ⟨Nat.le_of_ble_eq_true rfl, Nat.le_of_ble_eq_true rfl⟩) hH hK hX rfl hl.1 rfl (lv_room (Nat.le_of_ble_eq_true rfl)) d_Mod_run_7 ⟨Nat.zero_le _, Nat.zero_le _⟩) rfl ?_
  refine lv_if_ne (tgt := 17) hx hb d_Mod_run_10 (by decide) (fun c3 => ?_) (fun c3 => ?_)
  · have hf := x_if hf c3
    refine lv_aload_n hx hb d_Mod_run_17 rfl (lv_at hl 0 rfl) ?_
    obtain ⟨_, e4, hf⟩ := x_b hf
    obtain ⟨n5, hT6⟩ := x_is_e e4
    refine x_get (C := "WallDampModel") (F := F_Mod) (N := 51) hx hb hts i_Mod hown hK hH hT6 (by decide) rfl 32 (by decide) (hts _ m_825) (fun _ h9 => h9) (kd := (0, 96)) rfl rfl d_Mod_run_18 ?_
    refine lv_iload_n hx hb d_Mod_run_21 rfl (lv_at hl 1 rfl) ?_
    refine lv_iadd hx hb d_Mod_run_22 ?_
    refine lv_sipush (v := 10000) hx hb d_Mod_run_23 (by decide) ?_
    refine lv_icmp_le (tgt := 33) hx hb d_Mod_run_26 (by decide) (fun c7 => ?_) (fun c7 => ?_)
    · have hf := x_it hf c7
      refine lv_iconst (v := 0) hx hb d_Mod_run_33 (by decide) ?_
      exact k_Mod_run_34 C0 w _ _ _ l0 l1 l0 (0 : Int32) hf hH hS (lv_sub hl [0, 1] rfl)
    · have hf := x_if hf c7
      refine lv_iconst (v := 2) hx hb d_Mod_run_29 (by decide) ?_
      refine lv_goto (tgt := 34) hx hb d_Mod_run_30 (by decide) ?_
      exact k_Mod_run_34 C0 w _ _ _ l0 l1 l0 (2 : Int32) hf hH hS (lv_sub hl [0, 1] rfl)
  · have hf := x_it hf c3
    refine lv_iconst (v := 1) hx hb d_Mod_run_13 (by decide) ?_
    refine lv_goto (tgt := 34) hx hb d_Mod_run_14 (by decide) ?_
    exact k_Mod_run_34 C0 w _ _ _ l0 l1 l0 (1 : Int32) hf hH hS (lv_sub hl [0, 1] rfl)
theorem c_Mod_run (l : Launch) (D : va_G) (aC : Nat → ClassId) (ad : Nat → Nat) (T : x_T) (nx sz : Nat) (w : x_W) (a0 : Nat) (a1 : Int32) (q : Int32 × x_W) (hf : f_Mod_run T w a0 a1 = some q) : Met l y_Mod_run ws_Mod_run { frames := 4, cells := 0, slots := 0, locals := 92 } (x_Pc D aC ad T nx sz w [.ref (ad a0), .int a1]) (x_Qc D aC ad T nx (some (.int q.1)) q.2 (x_dom ad nx sz)) 0 0 (x_dom ad nx sz) :=
  x_met [(0, .ref (ad a0)), (1, .int a1)] (plainFor_of_name (by decide)) rfl rfl (Nat.le_of_ble_eq_true rfl) (fun p e s m args below meth c ls C0 hH hS hl => k_Mod_run C0 w _ _ _ a0 a1 hf hH hS (lv_sub hl [0, 1] rfl))
