/-! WallDamp$Trials.keepRow(I)V -/
def f_Trials_keepRow_2 (T : x_T) : Nat → x_W → Nat → Int32 → Int32 → Option (x_W)
  | 0, _, _, _, _ => none
  | n + 1, w, l0, l1, l2 =>
    if l1 ≤ l2 then
      (some w)
    else
      ((x_is T l0 8).bind fun _ =>
      (x_R w 52 l0).bind fun a5 =>
      (x_R w 53 l0).bind fun a7 =>
      (x_ix T a7 100 l2).bind fun _ =>
      (x_ix T a5 100 l2).bind fun _ =>
      (some (x_sA w a5 l2.toNatClampNeg (x_A w a7 l2.toNatClampNeg))).bind fun w17 =>
      f_Trials_keepRow_2 T n w17 l0 l1 (l2 + 1))
def f_Trials_keepRow (T : x_T) (w : x_W) (l0 : Nat) (l1 : Int32) : Option (x_W) :=
  f_Trials_keepRow_2 T 1000 w l0 l1 (0 : Int32)
set_option maxHeartbeats 4000000 in
set_option maxRecDepth 100000 in
theorem k_Trials_keepRow_2 {p : Program} {l : Launch} {e : Env} {s : State} {m : MethodId} {args : Array Value} {below : List Frame} {meth : Method} {c : Code} {D : va_G} {aC : Nat → ClassId} {ad : Nat → Nat} {T : x_T} {nx : Nat} {A : Nat → Prop} {q : x_W} (C0 : x_At p s m meth c args "WallDamp$Trials" b_Trials_keepRow none 3 D aC A) : ∀ (n : Nat), ∀ (w : x_W) (H : Heap) (locs : List Loc) (ls : Array Slot) (l0 : Nat) (l1 : Int32) (l2 : Int32), f_Trials_keepRow_2 T n w l0 l1 l2 = some q → x_H D x_cl x_FT aC ad T nx A w H → va_S A s.heap H locs → lv_has ls 3 [(0, .ref (ad l0)), (1, .int l1), (2, .int l2)] → W p l e { frames := 0, cells := 0, slots := 0, locals := 0 } s m args below meth c H locs 0 0 (MQ below (x_Qc D aC ad T nx none q A) args s 0 0 A) (F0 m 2 ls []) := by
  obtain ⟨hx, hb, hr, hml, hown, hts, hlocks, hK, hA, hX⟩ := id C0
  intro n
  induction n with
  | zero => intro w H locs ls l0 l1 l2 hf; cases (show none = some q from hf)
  | succ n ih =>
    intro w H locs ls l0 l1 l2 hf hH hS hl
    unfold f_Trials_keepRow_2 at hf
    refine lv_iload_n hx hb d_Trials_keepRow_2 rfl (lv_at hl 2 rfl) ?_
    refine lv_iload_n hx hb d_Trials_keepRow_3 rfl (lv_at hl 1 rfl) ?_
    refine lv_icmp_ge (tgt := 25) hx hb d_Trials_keepRow_4 (by decide) (fun c1 => ?_) (fun c1 => ?_)
    · have hf := x_it hf c1
      cases hf
      refine x_sz0 hS (fun hz => ?_)
      exact W.vret hx hb hr (fun t ht hW => ⟨rfl, hS.F ht, by rw [ht]; exact hz, by rw [ht]; exact hH.weaken (fun _ _ _ => trivial)⟩) hS.2.2 d_Trials_keepRow_25
    · have hf := x_if hf c1
      refine lv_aload_n hx hb d_Trials_keepRow_7 rfl (lv_at hl 0 rfl) ?_
      obtain ⟨_, e2, hf⟩ := x_b hf
      obtain ⟨n3, hT4⟩ := x_is_e e2
      obtain ⟨a5, e6, hf⟩ := x_b hf
      refine x_get (C := "WallDamp$Trials") (F := F_Trials) (N := 3) hx hb hts i_Trials hown hK hH hT4 (by decide) rfl 0 (by decide) (hts _ m_334) (fun _ h9 => h9) (kd := (2, 52)) rfl (x_fr e6) d_Trials_keepRow_8 ?_
      refine lv_iload_n hx hb d_Trials_keepRow_11 rfl (lv_at hl 2 rfl) ?_
      refine lv_aload_n hx hb d_Trials_keepRow_12 rfl (lv_at hl 0 rfl) ?_
      obtain ⟨a7, e8, hf⟩ := x_b hf
      refine x_get (C := "WallDamp$Trials") (F := F_Trials) (N := 3) hx hb hts i_Trials hown hK hH hT4 (by decide) rfl 1 (by decide) (hts _ m_336) (fun _ h9 => h9) (kd := (2, 53)) rfl (x_fr e8) d_Trials_keepRow_13 ?_
      refine lv_iload_n hx hb d_Trials_keepRow_16 rfl (lv_at hl 2 rfl) ?_
      obtain ⟨_, e9, hf⟩ := x_b hf
      obtain ⟨n10, hT11, hi12⟩ := x_ix_e e9
      refine x_iald hx hb hK hH hT11 0 rfl hi12 d_Trials_keepRow_17 ?_
      obtain ⟨_, e13, hf⟩ := x_b hf
      obtain ⟨n14, hT15, hi16⟩ := x_ix_e e13
      refine x_iast hx hb hK hH hS hT15 0 rfl hi16 d_Trials_keepRow_18 (fun H locs hH hS => ?_)
      obtain ⟨w17, e18, hf⟩ := x_b hf
      have hH := x_nw e18 hH
      refine lv_iinc (v := (l2 + 1)) (lv' := [(2, .int (l2 + 1)), (0, .ref (ad l0)), (1, .int l1)]) hx hb d_Trials_keepRow_19 hl (k := 2) rfl rfl (by decide) rfl (fun ls hl => ?_)
      refine lv_goto (tgt := 2) hx hb d_Trials_keepRow_22 (by decide) ?_
      exact ih w17 _ _ _ l0 l1 (l2 + 1) hf hH hS (lv_sub hl [1, 2, 0] rfl)
set_option maxHeartbeats 4000000 in
set_option maxRecDepth 100000 in
theorem k_Trials_keepRow {p : Program} {l : Launch} {e : Env} {s : State} {m : MethodId} {args : Array Value} {below : List Frame} {meth : Method} {c : Code} {D : va_G} {aC : Nat → ClassId} {ad : Nat → Nat} {T : x_T} {nx : Nat} {A : Nat → Prop} {q : x_W} (C0 : x_At p s m meth c args "WallDamp$Trials" b_Trials_keepRow none 3 D aC A) : ∀ (w : x_W) (H : Heap) (locs : List Loc) (ls : Array Slot) (l0 : Nat) (l1 : Int32), f_Trials_keepRow T w l0 l1 = some q → x_H D x_cl x_FT aC ad T nx A w H → va_S A s.heap H locs → lv_has ls 3 [(0, .ref (ad l0)), (1, .int l1)] → W p l e { frames := 0, cells := 0, slots := 0, locals := 0 } s m args below meth c H locs 0 0 (MQ below (x_Qc D aC ad T nx none q A) args s 0 0 A) (F0 m 0 ls []) := by
  obtain ⟨hx, hb, hr, hml, hown, hts, hlocks, hK, hA, hX⟩ := id C0
  intro w H locs ls l0 l1 hf hH hS hl
  unfold f_Trials_keepRow at hf
  refine lv_iconst (v := 0) hx hb d_Trials_keepRow_0 (by decide) ?_
  refine lv_istore_n (lv' := [(2, .int (0 : Int32)), (0, .ref (ad l0)), (1, .int l1)]) hx hb d_Trials_keepRow_1 rfl hl (by decide) rfl (fun ls hl => ?_)
  exact k_Trials_keepRow_2 C0 1000 w _ _ _ l0 l1 (0 : Int32) hf hH hS (lv_sub hl [1, 2, 0] rfl)
theorem c_Trials_keepRow (l : Launch) (D : va_G) (aC : Nat → ClassId) (ad : Nat → Nat) (T : x_T) (nx sz : Nat) (w : x_W) (a0 : Nat) (a1 : Int32) (q : x_W) (hf : f_Trials_keepRow T w a0 a1 = some q) : Met l y_Trials_keepRow ws_Trials_keepRow { frames := 0, cells := 0, slots := 0, locals := 0 } (x_Pc D aC ad T nx sz w [.ref (ad a0), .int a1]) (x_Qc D aC ad T nx none q (x_dom ad nx sz)) 0 0 (x_dom ad nx sz) :=
  x_met [(0, .ref (ad a0)), (1, .int a1)] (plainFor_of_name (by decide)) rfl rfl (Nat.le_of_ble_eq_true rfl) (fun p e s m args below meth c ls C0 hH hS hl => k_Trials_keepRow C0 w _ _ _ a0 a1 hf hH hS (lv_sub hl [0, 1] rfl))
/-! WallDamp$Trials.swap(II)V -/
def f_Trials_swap (T : x_T) (w : x_W) (l0 : Nat) (l1 : Int32) (l2 : Int32) : Option (x_W) :=
  (x_is T l0 8).bind fun _ =>
  (x_R w 53 l0).bind fun a4 =>
  (x_ix T a4 100 l1).bind fun _ =>
  (some ((x_A w a4 l1.toNatClampNeg))).bind fun v10 =>
  (x_R w 53 l0).bind fun a12 =>
  (x_R w 53 l0).bind fun a14 =>
  (x_ix T a14 100 l2).bind fun _ =>
  (x_ix T a12 100 l1).bind fun _ =>
  (some (x_sA w a12 l1.toNatClampNeg (x_A w a14 l2.toNatClampNeg))).bind fun w24 =>
  (x_R w24 53 l0).bind fun a26 =>
  (x_ix T a26 100 l2).bind fun _ =>
  (some (x_sA w24 a26 l2.toNatClampNeg v10)).bind fun w32 =>
  some w32
set_option maxHeartbeats 4000000 in
set_option maxRecDepth 100000 in
theorem k_Trials_swap {p : Program} {l : Launch} {e : Env} {s : State} {m : MethodId} {args : Array Value} {below : List Frame} {meth : Method} {c : Code} {D : va_G} {aC : Nat → ClassId} {ad : Nat → Nat} {T : x_T} {nx : Nat} {A : Nat → Prop} {q : x_W} (C0 : x_At p s m meth c args "WallDamp$Trials" b_Trials_swap none 4 D aC A) : ∀ (w : x_W) (H : Heap) (locs : List Loc) (ls : Array Slot) (l0 : Nat) (l1 : Int32) (l2 : Int32), f_Trials_swap T w l0 l1 l2 = some q → x_H D x_cl x_FT aC ad T nx A w H → va_S A s.heap H locs → lv_has ls 4 [(0, .ref (ad l0)), (1, .int l1), (2, .int l2)] → W p l e { frames := 0, cells := 0, slots := 0, locals := 0 } s m args below meth c H locs 0 0 (MQ below (x_Qc D aC ad T nx none q A) args s 0 0 A) (F0 m 0 ls []) := by
  obtain ⟨hx, hb, hr, hml, hown, hts, hlocks, hK, hA, hX⟩ := id C0
  intro w H locs ls l0 l1 l2 hf hH hS hl
  unfold f_Trials_swap at hf
  refine lv_aload_n hx hb d_Trials_swap_0 rfl (lv_at hl 0 rfl) ?_
  obtain ⟨_, e1, hf⟩ := x_b hf
  obtain ⟨n2, hT3⟩ := x_is_e e1
  obtain ⟨a4, e5, hf⟩ := x_b hf
  refine x_get (C := "WallDamp$Trials") (F := F_Trials) (N := 3) hx hb hts i_Trials hown hK hH hT3 (by decide) rfl 1 (by decide) (hts _ m_336) (fun _ h9 => h9) (kd := (2, 53)) rfl (x_fr e5) d_Trials_swap_1 ?_
  refine lv_iload_n hx hb d_Trials_swap_4 rfl (lv_at hl 1 rfl) ?_
  obtain ⟨_, e6, hf⟩ := x_b hf
  obtain ⟨n7, hT8, hi9⟩ := x_ix_e e6
  refine x_iald hx hb hK hH hT8 0 rfl hi9 d_Trials_swap_5 ?_
  obtain ⟨v10, e11, hf⟩ := x_b hf
  refine x_nmi e11 ?_
  refine lv_istore_n (lv' := [(3, .int v10), (0, .ref (ad l0)), (1, .int l1), (2, .int l2)]) hx hb d_Trials_swap_6 rfl hl (by decide) rfl (fun ls hl => ?_)
  refine lv_aload_n hx hb d_Trials_swap_7 rfl (lv_at hl 1 rfl) ?_
  obtain ⟨a12, e13, hf⟩ := x_b hf
  refine x_get (C := "WallDamp$Trials") (F := F_Trials) (N := 3) hx hb hts i_Trials hown hK hH hT3 (by decide) rfl 1 (by decide) (hts _ m_336) (fun _ h9 => h9) (kd := (2, 53)) rfl (x_fr e13) d_Trials_swap_8 ?_
  refine lv_iload_n hx hb d_Trials_swap_11 rfl (lv_at hl 2 rfl) ?_
  refine lv_aload_n hx hb d_Trials_swap_12 rfl (lv_at hl 1 rfl) ?_
  obtain ⟨a14, e15, hf⟩ := x_b hf
  refine x_get (C := "WallDamp$Trials") (F := F_Trials) (N := 3) hx hb hts i_Trials hown hK hH hT3 (by decide) rfl 1 (by decide) (hts _ m_336) (fun _ h9 => h9) (kd := (2, 53)) rfl (x_fr e15) d_Trials_swap_13 ?_
  refine lv_iload_n hx hb d_Trials_swap_16 rfl (lv_at hl 3 rfl) ?_
  obtain ⟨_, e16, hf⟩ := x_b hf
  obtain ⟨n17, hT18, hi19⟩ := x_ix_e e16
  refine x_iald hx hb hK hH hT18 0 rfl hi19 d_Trials_swap_17 ?_
  obtain ⟨_, e20, hf⟩ := x_b hf
  obtain ⟨n21, hT22, hi23⟩ := x_ix_e e20
  refine x_iast hx hb hK hH hS hT22 0 rfl hi23 d_Trials_swap_18 (fun H locs hH hS => ?_)
  obtain ⟨w24, e25, hf⟩ := x_b hf
  have hH := x_nw e25 hH
  refine lv_aload_n hx hb d_Trials_swap_19 rfl (lv_at hl 1 rfl) ?_
  obtain ⟨a26, e27, hf⟩ := x_b hf
  refine x_get (C := "WallDamp$Trials") (F := F_Trials) (N := 3) hx hb hts i_Trials hown hK hH hT3 (by decide) rfl 1 (by decide) (hts _ m_336) (fun _ h9 => h9) (kd := (2, 53)) rfl (x_fr e27) d_Trials_swap_20 ?_
  refine lv_iload_n hx hb d_Trials_swap_23 rfl (lv_at hl 3 rfl) ?_
  refine lv_iload_n hx hb d_Trials_swap_24 rfl (lv_at hl 0 rfl) ?_
  obtain ⟨_, e28, hf⟩ := x_b hf
  obtain ⟨n29, hT30, hi31⟩ := x_ix_e e28
  refine x_iast hx hb hK hH hS hT30 0 rfl hi31 d_Trials_swap_25 (fun H locs hH hS => ?_)
  obtain ⟨w32, e33, hf⟩ := x_b hf
  have hH := x_nw e33 hH
  cases hf
  refine x_sz0 hS (fun hz => ?_)
  exact W.vret hx hb hr (fun t ht hW => ⟨rfl, hS.F ht, by rw [ht]; exact hz, by rw [ht]; exact hH.weaken (fun _ _ _ => trivial)⟩) hS.2.2 d_Trials_swap_26
theorem c_Trials_swap (l : Launch) (D : va_G) (aC : Nat → ClassId) (ad : Nat → Nat) (T : x_T) (nx sz : Nat) (w : x_W) (a0 : Nat) (a1 : Int32) (a2 : Int32) (q : x_W) (hf : f_Trials_swap T w a0 a1 a2 = some q) : Met l y_Trials_swap ws_Trials_swap { frames := 0, cells := 0, slots := 0, locals := 0 } (x_Pc D aC ad T nx sz w [.ref (ad a0), .int a1, .int a2]) (x_Qc D aC ad T nx none q (x_dom ad nx sz)) 0 0 (x_dom ad nx sz) :=
  x_met [(0, .ref (ad a0)), (1, .int a1), (2, .int a2)] (plainFor_of_name (by decide)) rfl rfl (Nat.le_of_ble_eq_true rfl) (fun p e s m args below meth c ls C0 hH hS hl => k_Trials_swap C0 w _ _ _ a0 a1 a2 hf hH hS (lv_sub hl [0, 1, 2] rfl))
/-! WallDamp$Trials.stepRow(I)Z -/
def f_Trials_stepRow_76 (T : x_T) : Nat → x_W → Nat → Int32 → Int32 → Int32 → Option (Int32 × x_W)
  | 0, _, _, _, _, _ => none
  | n + 1, w, l0, l1, l2, l4 =>
    if (l1 - l4) ≤ (l2 + l4) then
      (some ((1 : Int32), w))
    else
      ((x_is T l0 8).bind fun _ =>
      (f_Trials_swap T w l0 (l2 + l4) (l1 - l4)).bind fun q2 =>
      f_Trials_stepRow_76 T n q2 l0 l1 l2 (l4 + 1))
def f_Trials_stepRow_67 (T : x_T) (w : x_W) (l0 : Nat) (l1 : Int32) (l2 : Int32) (l3 : Int32) : Option (Int32 × x_W) :=
  (x_is T l0 8).bind fun _ =>
  (f_Trials_swap T w l0 l2 l3).bind fun q1 =>
  f_Trials_stepRow_76 T 1000 q1 l0 l1 l2 (1 : Int32)
def f_Trials_stepRow_41 (T : x_T) : Nat → x_W → Nat → Int32 → Int32 → Int32 → Option (Int32 × x_W)
  | 0, _, _, _, _, _ => none
  | n + 1, w, l0, l1, l2, l3 =>
    if l3 ≤ l2 then
      (f_Trials_stepRow_67 T w l0 l1 l2 l3)
    else
      ((x_is T l0 8).bind fun _ =>
      (x_R w 53 l0).bind fun a5 =>
      (x_ix T a5 100 l3).bind fun _ =>
      (x_R w 53 l0).bind fun a11 =>
      (x_ix T a11 100 l2).bind fun _ =>
      if (x_A w a11 l2.toNatClampNeg) ≤ (x_A w a5 l3.toNatClampNeg) then
        (f_Trials_stepRow_67 T w l0 l1 l2 l3)
      else
        (f_Trials_stepRow_41 T n w l0 l1 l2 (l3 + (-1))))
def f_Trials_stepRow_31 (T : x_T) (w : x_W) (l0 : Nat) (l1 : Int32) (l2 : Int32) : Option (Int32 × x_W) :=
  if 0 ≤ l2 then
    ((some ((l1 - (1 : Int32)))).bind fun v2 =>
    f_Trials_stepRow_41 T 1000 w l0 l1 l2 v2)
  else
    (some ((0 : Int32), w))
def f_Trials_stepRow_4 (T : x_T) : Nat → x_W → Nat → Int32 → Int32 → Option (Int32 × x_W)
  | 0, _, _, _, _ => none
  | n + 1, w, l0, l1, l2 =>
    if l2 < 0 then
      (f_Trials_stepRow_31 T w l0 l1 l2)
    else
      ((x_is T l0 8).bind fun _ =>
      (x_R w 53 l0).bind fun a5 =>
      (x_ix T a5 100 l2).bind fun _ =>
      (x_R w 53 l0).bind fun a11 =>
      (x_ix T a11 100 (l2 + (1 : Int32))).bind fun _ =>
      if (x_A w a5 l2.toNatClampNeg) ≤ (x_A w a11 (l2 + (1 : Int32)).toNatClampNeg) then
        (f_Trials_stepRow_31 T w l0 l1 l2)
      else
        (f_Trials_stepRow_4 T n w l0 l1 (l2 + (-1))))
def f_Trials_stepRow (T : x_T) (w : x_W) (l0 : Nat) (l1 : Int32) : Option (Int32 × x_W) :=
  (some ((l1 - (2 : Int32)))).bind fun v1 =>
  f_Trials_stepRow_4 T 1000 w l0 l1 v1
set_option maxHeartbeats 4000000 in
set_option maxRecDepth 100000 in
theorem k_Trials_stepRow_76 {p : Program} {l : Launch} {e : Env} {s : State} {m : MethodId} {args : Array Value} {below : List Frame} {meth : Method} {c : Code} {D : va_G} {aC : Nat → ClassId} {ad : Nat → Nat} {T : x_T} {nx : Nat} {A : Nat → Prop} {q : Int32 × x_W} (C0 : x_At p s m meth c args "WallDamp$Trials" b_Trials_stepRow (some (.boolean)) 5 D aC A) : ∀ (n : Nat), ∀ (w : x_W) (H : Heap) (locs : List Loc) (ls : Array Slot) (l0 : Nat) (l1 : Int32) (l2 : Int32) (l4 : Int32), f_Trials_stepRow_76 T n w l0 l1 l2 l4 = some q → x_H D x_cl x_FT aC ad T nx A w H → va_S A s.heap H locs → lv_has ls 5 [(0, .ref (ad l0)), (1, .int l1), (2, .int l2), (4, .int l4)] → W p l e { frames := 1, cells := 0, slots := 0, locals := 23 } s m args below meth c H locs 0 0 (MQ below (x_Qc D aC ad T nx (some (.int q.1)) q.2 A) args s 0 0 A) (F0 m 76 ls []) := by
  obtain ⟨hx, hb, hr, hml, hown, hts, hlocks, hK, hA, hX⟩ := id C0
  intro n
  induction n with
  | zero => intro w H locs ls l0 l1 l2 l4 hf; cases (show none = some q from hf)
  | succ n ih =>
    intro w H locs ls l0 l1 l2 l4 hf hH hS hl
    unfold f_Trials_stepRow_76 at hf
    refine lv_iload_n hx hb d_Trials_stepRow_76 rfl (lv_at hl 2 rfl) ?_
    refine lv_iload hx hb d_Trials_stepRow_77 (lv_at hl 3 rfl) ?_
    refine lv_iadd hx hb d_Trials_stepRow_79 ?_
    refine lv_iload_n hx hb d_Trials_stepRow_80 rfl (lv_at hl 1 rfl) ?_
    refine lv_iload hx hb d_Trials_stepRow_81 (lv_at hl 3 rfl) ?_
    refine lv_isub hx hb d_Trials_stepRow_83 ?_
    refine lv_icmp_ge (tgt := 105) hx hb d_Trials_stepRow_84 (by decide) (fun c1 => ?_) (fun c1 => ?_)
    · have hf := x_it hf c1
      refine lv_iconst (v := 1) hx hb d_Trials_stepRow_105 (by decide) ?_
      cases hf
      refine x_sz0 hS (fun hz => ?_)
      exact W.zret hx hb hr rfl (fun t ht hW => ⟨rfl, hS.F ht, by rw [ht]; exact hz, by rw [ht]; exact hH.weaken (fun _ _ _ => trivial)⟩) hS.2.2 d_Trials_stepRow_106
    · have hf := x_if hf c1
      refine lv_aload_n hx hb d_Trials_stepRow_87 rfl (lv_at hl 0 rfl) ?_
      refine lv_iload_n hx hb d_Trials_stepRow_88 rfl (lv_at hl 2 rfl) ?_
      refine lv_iload hx hb d_Trials_stepRow_89 (lv_at hl 3 rfl) ?_
      refine lv_iadd hx hb d_Trials_stepRow_91 ?_
      refine lv_iload_n hx hb d_Trials_stepRow_92 rfl (lv_at hl 1 rfl) ?_
      refine lv_iload hx hb d_Trials_stepRow_93 (lv_at hl 3 rfl) ?_
      refine lv_isub hx hb d_Trials_stepRow_95 ?_
      obtain ⟨_, e4, hf⟩ := x_b hf
      obtain ⟨n5, hT6⟩ := x_is_e e4
      obtain ⟨q2, e3, hf⟩ := x_b hf
      refine x_call (st1 := []) (x_runV (As := [.int (l2 + l4), .int (l1 - l4)]) (rest := []) ⟨hx, hb, hml, hown, hts⟩ (c_Trials_swap l D aC ad T nx H.size w l0 (l2 + l4) (l1 - l4) q2 e3) (cwV 2 hts (x_gV m_783 m_785 ms_14 m_12 m_786) rfl rfl rfl ⟨rfl, pd_Trials_swap⟩ ⟨Nat.le_of_ble_eq_true rfl, Nat.le_of_ble_eq_true rfl⟩) hH hK hX hT6 (by decide) rfl rfl rfl hl.1 rfl (lv_room (Nat.le_of_ble_eq_true rfl)) d_Trials_stepRow_96 ⟨Nat.zero_le _, Nat.zero_le _⟩) rfl hH hA hS (fun H locs hH hS => ?_)
      refine lv_iinc (v := (l4 + 1)) (lv' := [(4, .int (l4 + 1)), (0, .ref (ad l0)), (1, .int l1), (2, .int l2)]) hx hb d_Trials_stepRow_99 hl (k := 3) rfl rfl (by decide) rfl (fun ls hl => ?_)
      refine lv_goto (tgt := 76) hx hb d_Trials_stepRow_102 (by decide) ?_
      exact ih q2 _ _ _ l0 l1 l2 (l4 + 1) hf hH hS (lv_sub hl [1, 2, 3, 0] rfl)
set_option maxHeartbeats 4000000 in
set_option maxRecDepth 100000 in
theorem k_Trials_stepRow_67 {p : Program} {l : Launch} {e : Env} {s : State} {m : MethodId} {args : Array Value} {below : List Frame} {meth : Method} {c : Code} {D : va_G} {aC : Nat → ClassId} {ad : Nat → Nat} {T : x_T} {nx : Nat} {A : Nat → Prop} {q : Int32 × x_W} (C0 : x_At p s m meth c args "WallDamp$Trials" b_Trials_stepRow (some (.boolean)) 5 D aC A) : ∀ (w : x_W) (H : Heap) (locs : List Loc) (ls : Array Slot) (l0 : Nat) (l1 : Int32) (l2 : Int32) (l3 : Int32), f_Trials_stepRow_67 T w l0 l1 l2 l3 = some q → x_H D x_cl x_FT aC ad T nx A w H → va_S A s.heap H locs → lv_has ls 5 [(0, .ref (ad l0)), (1, .int l1), (2, .int l2), (3, .int l3)] → W p l e { frames := 1, cells := 0, slots := 0, locals := 23 } s m args below meth c H locs 0 0 (MQ below (x_Qc D aC ad T nx (some (.int q.1)) q.2 A) args s 0 0 A) (F0 m 67 ls []) := by
  obtain ⟨hx, hb, hr, hml, hown, hts, hlocks, hK, hA, hX⟩ := id C0
  intro w H locs ls l0 l1 l2 l3 hf hH hS hl
  unfold f_Trials_stepRow_67 at hf
  refine lv_aload_n hx hb d_Trials_stepRow_67 rfl (lv_at hl 0 rfl) ?_
  refine lv_iload_n hx hb d_Trials_stepRow_68 rfl (lv_at hl 2 rfl) ?_
  refine lv_iload_n hx hb d_Trials_stepRow_69 rfl (lv_at hl 3 rfl) ?_
  obtain ⟨_, e3, hf⟩ := x_b hf
  obtain ⟨n4, hT5⟩ := x_is_e e3
  obtain ⟨q1, e2, hf⟩ := x_b hf
  refine x_call (st1 := []) (x_runV (As := [.int l2, .int l3]) (rest := []) ⟨hx, hb, hml, hown, hts⟩ (c_Trials_swap l D aC ad T nx H.size w l0 l2 l3 q1 e2) (cwV 2 hts (x_gV m_783 m_785 ms_14 m_12 m_786) rfl rfl rfl ⟨rfl, pd_Trials_swap⟩ ⟨Nat.le_of_ble_eq_true rfl, Nat.le_of_ble_eq_true rfl⟩) hH hK hX hT5 (by decide) rfl rfl rfl hl.1 rfl (lv_room (Nat.le_of_ble_eq_true rfl)) d_Trials_stepRow_70 ⟨Nat.zero_le _, Nat.zero_le _⟩) rfl hH hA hS (fun H locs hH hS => ?_)
  refine lv_iconst (v := 1) hx hb d_Trials_stepRow_73 (by decide) ?_
  refine lv_istore (lv' := [(4, .int (1 : Int32)), (0, .ref (ad l0)), (1, .int l1), (2, .int l2), (3, .int l3)]) hx hb d_Trials_stepRow_74 hl (by decide) rfl (fun ls hl => ?_)
  exact k_Trials_stepRow_76 C0 1000 q1 _ _ _ l0 l1 l2 (1 : Int32) hf hH hS (lv_sub hl [1, 2, 3, 0] rfl)
set_option maxHeartbeats 4000000 in
set_option maxRecDepth 100000 in
theorem k_Trials_stepRow_41 {p : Program} {l : Launch} {e : Env} {s : State} {m : MethodId} {args : Array Value} {below : List Frame} {meth : Method} {c : Code} {D : va_G} {aC : Nat → ClassId} {ad : Nat → Nat} {T : x_T} {nx : Nat} {A : Nat → Prop} {q : Int32 × x_W} (C0 : x_At p s m meth c args "WallDamp$Trials" b_Trials_stepRow (some (.boolean)) 5 D aC A) : ∀ (n : Nat), ∀ (w : x_W) (H : Heap) (locs : List Loc) (ls : Array Slot) (l0 : Nat) (l1 : Int32) (l2 : Int32) (l3 : Int32), f_Trials_stepRow_41 T n w l0 l1 l2 l3 = some q → x_H D x_cl x_FT aC ad T nx A w H → va_S A s.heap H locs → lv_has ls 5 [(0, .ref (ad l0)), (1, .int l1), (2, .int l2), (3, .int l3)] → W p l e { frames := 1, cells := 0, slots := 0, locals := 23 } s m args below meth c H locs 0 0 (MQ below (x_Qc D aC ad T nx (some (.int q.1)) q.2 A) args s 0 0 A) (F0 m 41 ls []) := by
  obtain ⟨hx, hb, hr, hml, hown, hts, hlocks, hK, hA, hX⟩ := id C0
  intro n
  induction n with
  | zero => intro w H locs ls l0 l1 l2 l3 hf; cases (show none = some q from hf)
  | succ n ih =>
    intro w H locs ls l0 l1 l2 l3 hf hH hS hl
    unfold f_Trials_stepRow_41 at hf
    refine lv_iload_n hx hb d_Trials_stepRow_41 rfl (lv_at hl 3 rfl) ?_
    refine lv_iload_n hx hb d_Trials_stepRow_42 rfl (lv_at hl 2 rfl) ?_
    refine lv_icmp_le (tgt := 67) hx hb d_Trials_stepRow_43 (by decide) (fun c1 => ?_) (fun c1 => ?_)
    · have hf := x_it hf c1
      exact k_Trials_stepRow_67 C0 w _ _ _ l0 l1 l2 l3 hf hH hS (lv_sub hl [0, 1, 2, 3] rfl)
    · have hf := x_if hf c1
      refine lv_aload_n hx hb d_Trials_stepRow_46 rfl (lv_at hl 0 rfl) ?_
      obtain ⟨_, e2, hf⟩ := x_b hf
      obtain ⟨n3, hT4⟩ := x_is_e e2
      obtain ⟨a5, e6, hf⟩ := x_b hf
      refine x_get (C := "WallDamp$Trials") (F := F_Trials) (N := 3) hx hb hts i_Trials hown hK hH hT4 (by decide) rfl 1 (by decide) (hts _ m_336) (fun _ h9 => h9) (kd := (2, 53)) rfl (x_fr e6) d_Trials_stepRow_47 ?_
      refine lv_iload_n hx hb d_Trials_stepRow_50 rfl (lv_at hl 3 rfl) ?_
      obtain ⟨_, e7, hf⟩ := x_b hf
      obtain ⟨n8, hT9, hi10⟩ := x_ix_e e7
      refine x_iald hx hb hK hH hT9 0 rfl hi10 d_Trials_stepRow_51 ?_
      refine lv_aload_n hx hb d_Trials_stepRow_52 rfl (lv_at hl 0 rfl) ?_
      obtain ⟨a11, e12, hf⟩ := x_b hf
      refine x_get (C := "WallDamp$Trials") (F := F_Trials) (N := 3) hx hb hts i_Trials hown hK hH hT4 (by decide) rfl 1 (by decide) (hts _ m_336) (fun _ h9 => h9) (kd := (2, 53)) rfl (x_fr e12) d_Trials_stepRow_53 ?_
      refine lv_iload_n hx hb d_Trials_stepRow_56 rfl (lv_at hl 2 rfl) ?_
      obtain ⟨_, e13, hf⟩ := x_b hf
      obtain ⟨n14, hT15, hi16⟩ := x_ix_e e13
      refine x_iald hx hb hK hH hT15 0 rfl hi16 d_Trials_stepRow_57 ?_
      refine lv_icmp_ge (tgt := 67) hx hb d_Trials_stepRow_58 (by decide) (fun c17 => ?_) (fun c17 => ?_)
      · have hf := x_it hf c17
        exact k_Trials_stepRow_67 C0 w _ _ _ l0 l1 l2 l3 hf hH hS (lv_sub hl [0, 1, 2, 3] rfl)
      · have hf := x_if hf c17
        refine lv_iinc (v := (l3 + (-1))) (lv' := [(3, .int (l3 + (-1))), (0, .ref (ad l0)), (1, .int l1), (2, .int l2)]) hx hb d_Trials_stepRow_61 hl (k := 3) rfl rfl (by decide) rfl (fun ls hl => ?_)
        refine lv_goto (tgt := 41) hx hb d_Trials_stepRow_64 (by decide) ?_
        exact ih w _ _ _ l0 l1 l2 (l3 + (-1)) hf hH hS (lv_sub hl [1, 2, 3, 0] rfl)
set_option maxHeartbeats 4000000 in
set_option maxRecDepth 100000 in
theorem k_Trials_stepRow_31 {p : Program} {l : Launch} {e : Env} {s : State} {m : MethodId} {args : Array Value} {below : List Frame} {meth : Method} {c : Code} {D : va_G} {aC : Nat → ClassId} {ad : Nat → Nat} {T : x_T} {nx : Nat} {A : Nat → Prop} {q : Int32 × x_W} (C0 : x_At p s m meth c args "WallDamp$Trials" b_Trials_stepRow (some (.boolean)) 5 D aC A) : ∀ (w : x_W) (H : Heap) (locs : List Loc) (ls : Array Slot) (l0 : Nat) (l1 : Int32) (l2 : Int32), f_Trials_stepRow_31 T w l0 l1 l2 = some q → x_H D x_cl x_FT aC ad T nx A w H → va_S A s.heap H locs → lv_has ls 5 [(0, .ref (ad l0)), (1, .int l1), (2, .int l2)] → W p l e { frames := 1, cells := 0, slots := 0, locals := 23 } s m args below meth c H locs 0 0 (MQ below (x_Qc D aC ad T nx (some (.int q.1)) q.2 A) args s 0 0 A) (F0 m 31 ls []) := by
  obtain ⟨hx, hb, hr, hml, hown, hts, hlocks, hK, hA, hX⟩ := id C0
  intro w H locs ls l0 l1 l2 hf hH hS hl
  unfold f_Trials_stepRow_31 at hf
  refine lv_iload_n hx hb d_Trials_stepRow_31 rfl (lv_at hl 2 rfl) ?_
  refine lv_if_ge (tgt := 37) hx hb d_Trials_stepRow_32 (by decide) (fun c1 => ?_) (fun c1 => ?_)
  · have hf := x_it hf c1
    refine lv_iload_n hx hb d_Trials_stepRow_37 rfl (lv_at hl 1 rfl) ?_
    refine lv_iconst (v := 1) hx hb d_Trials_stepRow_38 (by decide) ?_
    refine lv_isub hx hb d_Trials_stepRow_39 ?_
    obtain ⟨v2, e3, hf⟩ := x_b hf
    refine x_nmi e3 ?_
    refine lv_istore_n (lv' := [(3, .int v2), (0, .ref (ad l0)), (1, .int l1), (2, .int l2)]) hx hb d_Trials_stepRow_40 rfl hl (by decide) rfl (fun ls hl => ?_)
    exact k_Trials_stepRow_41 C0 1000 w _ _ _ l0 l1 l2 v2 hf hH hS (lv_sub hl [1, 2, 3, 0] rfl)
  · have hf := x_if hf c1
    refine lv_iconst (v := 0) hx hb d_Trials_stepRow_35 (by decide) ?_
    cases hf
    refine x_sz0 hS (fun hz => ?_)
    exact W.zret hx hb hr rfl (fun t ht hW => ⟨rfl, hS.F ht, by rw [ht]; exact hz, by rw [ht]; exact hH.weaken (fun _ _ _ => trivial)⟩) hS.2.2 d_Trials_stepRow_36
set_option maxHeartbeats 4000000 in
set_option maxRecDepth 100000 in
theorem k_Trials_stepRow_4 {p : Program} {l : Launch} {e : Env} {s : State} {m : MethodId} {args : Array Value} {below : List Frame} {meth : Method} {c : Code} {D : va_G} {aC : Nat → ClassId} {ad : Nat → Nat} {T : x_T} {nx : Nat} {A : Nat → Prop} {q : Int32 × x_W} (C0 : x_At p s m meth c args "WallDamp$Trials" b_Trials_stepRow (some (.boolean)) 5 D aC A) : ∀ (n : Nat), ∀ (w : x_W) (H : Heap) (locs : List Loc) (ls : Array Slot) (l0 : Nat) (l1 : Int32) (l2 : Int32), f_Trials_stepRow_4 T n w l0 l1 l2 = some q → x_H D x_cl x_FT aC ad T nx A w H → va_S A s.heap H locs → lv_has ls 5 [(0, .ref (ad l0)), (1, .int l1), (2, .int l2)] → W p l e { frames := 1, cells := 0, slots := 0, locals := 23 } s m args below meth c H locs 0 0 (MQ below (x_Qc D aC ad T nx (some (.int q.1)) q.2 A) args s 0 0 A) (F0 m 4 ls []) := by
  obtain ⟨hx, hb, hr, hml, hown, hts, hlocks, hK, hA, hX⟩ := id C0
  intro n
  induction n with
  | zero => intro w H locs ls l0 l1 l2 hf; cases (show none = some q from hf)
  | succ n ih =>
    intro w H locs ls l0 l1 l2 hf hH hS hl
    unfold f_Trials_stepRow_4 at hf
    refine lv_iload_n hx hb d_Trials_stepRow_4 rfl (lv_at hl 2 rfl) ?_
    refine lv_if_lt (tgt := 31) hx hb d_Trials_stepRow_5 (by decide) (fun c1 => ?_) (fun c1 => ?_)
    · have hf := x_it hf c1
      exact k_Trials_stepRow_31 C0 w _ _ _ l0 l1 l2 hf hH hS (lv_sub hl [0, 1, 2] rfl)
    · have hf := x_if hf c1
      refine lv_aload_n hx hb d_Trials_stepRow_8 rfl (lv_at hl 0 rfl) ?_
      obtain ⟨_, e2, hf⟩ := x_b hf
      obtain ⟨n3, hT4⟩ := x_is_e e2
      obtain ⟨a5, e6, hf⟩ := x_b hf
      refine x_get (C := "WallDamp$Trials") (F := F_Trials) (N := 3) hx hb hts i_Trials hown hK hH hT4 (by decide) rfl 1 (by decide) (hts _ m_336) (fun _ h9 => h9) (kd := (2, 53)) rfl (x_fr e6) d_Trials_stepRow_9 ?_
      refine lv_iload_n hx hb d_Trials_stepRow_12 rfl (lv_at hl 2 rfl) ?_
      obtain ⟨_, e7, hf⟩ := x_b hf
      obtain ⟨n8, hT9, hi10⟩ := x_ix_e e7
      refine x_iald hx hb hK hH hT9 0 rfl hi10 d_Trials_stepRow_13 ?_
      refine lv_aload_n hx hb d_Trials_stepRow_14 rfl (lv_at hl 0 rfl) ?_
      obtain ⟨a11, e12, hf⟩ := x_b hf
      refine x_get (C := "WallDamp$Trials") (F := F_Trials) (N := 3) hx hb hts i_Trials hown hK hH hT4 (by decide) rfl 1 (by decide) (hts _ m_336) (fun _ h9 => h9) (kd := (2, 53)) rfl (x_fr e12) d_Trials_stepRow_15 ?_
      refine lv_iload_n hx hb d_Trials_stepRow_18 rfl (lv_at hl 2 rfl) ?_
      refine lv_iconst (v := 1) hx hb d_Trials_stepRow_19 (by decide) ?_
      refine lv_iadd hx hb d_Trials_stepRow_20 ?_
      obtain ⟨_, e13, hf⟩ := x_b hf
      obtain ⟨n14, hT15, hi16⟩ := x_ix_e e13
      refine x_iald hx hb hK hH hT15 0 rfl hi16 d_Trials_stepRow_21 ?_
      refine lv_icmp_le (tgt := 31) hx hb d_Trials_stepRow_22 (by decide) (fun c17 => ?_) (fun c17 => ?_)
      · have hf := x_it hf c17
        exact k_Trials_stepRow_31 C0 w _ _ _ l0 l1 l2 hf hH hS (lv_sub hl [0, 1, 2] rfl)
      · have hf := x_if hf c17
        refine lv_iinc (v := (l2 + (-1))) (lv' := [(2, .int (l2 + (-1))), (0, .ref (ad l0)), (1, .int l1)]) hx hb d_Trials_stepRow_25 hl (k := 2) rfl rfl (by decide) rfl (fun ls hl => ?_)
        refine lv_goto (tgt := 4) hx hb d_Trials_stepRow_28 (by decide) ?_
        exact ih w _ _ _ l0 l1 (l2 + (-1)) hf hH hS (lv_sub hl [1, 2, 0] rfl)
set_option maxHeartbeats 4000000 in
set_option maxRecDepth 100000 in
theorem k_Trials_stepRow {p : Program} {l : Launch} {e : Env} {s : State} {m : MethodId} {args : Array Value} {below : List Frame} {meth : Method} {c : Code} {D : va_G} {aC : Nat → ClassId} {ad : Nat → Nat} {T : x_T} {nx : Nat} {A : Nat → Prop} {q : Int32 × x_W} (C0 : x_At p s m meth c args "WallDamp$Trials" b_Trials_stepRow (some (.boolean)) 5 D aC A) : ∀ (w : x_W) (H : Heap) (locs : List Loc) (ls : Array Slot) (l0 : Nat) (l1 : Int32), f_Trials_stepRow T w l0 l1 = some q → x_H D x_cl x_FT aC ad T nx A w H → va_S A s.heap H locs → lv_has ls 5 [(0, .ref (ad l0)), (1, .int l1)] → W p l e { frames := 1, cells := 0, slots := 0, locals := 23 } s m args below meth c H locs 0 0 (MQ below (x_Qc D aC ad T nx (some (.int q.1)) q.2 A) args s 0 0 A) (F0 m 0 ls []) := by
  obtain ⟨hx, hb, hr, hml, hown, hts, hlocks, hK, hA, hX⟩ := id C0
  intro w H locs ls l0 l1 hf hH hS hl
  unfold f_Trials_stepRow at hf
  refine lv_iload_n hx hb d_Trials_stepRow_0 rfl (lv_at hl 1 rfl) ?_
  refine lv_iconst (v := 2) hx hb d_Trials_stepRow_1 (by decide) ?_
  refine lv_isub hx hb d_Trials_stepRow_2 ?_
  obtain ⟨v1, e2, hf⟩ := x_b hf
  refine x_nmi e2 ?_
  refine lv_istore_n (lv' := [(2, .int v1), (0, .ref (ad l0)), (1, .int l1)]) hx hb d_Trials_stepRow_3 rfl hl (by decide) rfl (fun ls hl => ?_)
  exact k_Trials_stepRow_4 C0 1000 w _ _ _ l0 l1 v1 hf hH hS (lv_sub hl [1, 2, 0] rfl)
theorem c_Trials_stepRow (l : Launch) (D : va_G) (aC : Nat → ClassId) (ad : Nat → Nat) (T : x_T) (nx sz : Nat) (w : x_W) (a0 : Nat) (a1 : Int32) (q : Int32 × x_W) (hf : f_Trials_stepRow T w a0 a1 = some q) : Met l y_Trials_stepRow ws_Trials_stepRow { frames := 1, cells := 0, slots := 0, locals := 23 } (x_Pc D aC ad T nx sz w [.ref (ad a0), .int a1]) (x_Qc D aC ad T nx (some (.int q.1)) q.2 (x_dom ad nx sz)) 0 0 (x_dom ad nx sz) :=
  x_met [(0, .ref (ad a0)), (1, .int a1)] (plainFor_of_name (by decide)) rfl rfl (Nat.le_of_ble_eq_true rfl) (fun p e s m args below meth c ls C0 hH hS hl => k_Trials_stepRow C0 w _ _ _ a0 a1 hf hH hS (lv_sub hl [0, 1] rfl))
/-! WallDamp$Trials.waterBehind(LWallDamp$Wall;LWallDamp$Surroundings;I)J -/
def f_Trials_waterBehind_79 (T : x_T) : Nat → x_W → Nat → Nat → Int32 → Int32 → Option (Int64 × x_W)
  | 0, _, _, _, _, _ => none
  | n + 1, w, l0, l2, l3, l4 =>
    if l3 ≤ l4 then
      ((x_is T l0 8).bind fun _ =>
      (x_R w 54 l0).bind fun a5 =>
      (x_is T a5 9).bind fun _ =>
      (f_Wall_allWater T w a5).bind fun q7 =>
      some (q7, w))
    else
      ((x_is T l0 8).bind fun _ =>
      (x_R w 54 l0).bind fun a15 =>
      (x_is T a15 9).bind fun _ =>
      (f_Wall_moveWater T w a15 l2 l4).bind fun q17 =>
      f_Trials_waterBehind_79 T n q17 l0 l2 l3 (l4 + 1))
def f_Trials_waterBehind_76 (T : x_T) (w : x_W) (l0 : Nat) (l2 : Nat) (l3 : Int32) : Option (Int64 × x_W) :=
  f_Trials_waterBehind_79 T 1000 w l0 l2 l3 (0 : Int32)
def f_Trials_waterBehind_70 (T : x_T) (K3 : x_W → Nat → Nat → Nat → Int32 → Int32 → Option (Int64 × x_W)) (w : x_W) (l0 : Nat) (l1 : Nat) (l2 : Nat) (l3 : Int32) (l4 : Int32) : Option (Int64 × x_W) :=
  K3 w l0 l1 l2 l3 (l4 + 1)
def f_Trials_waterBehind_3 (T : x_T) : Nat → x_W → Nat → Nat → Nat → Int32 → Int32 → Option (Int64 × x_W)
  | 0, _, _, _, _, _, _ => none
  | n + 1, w, l0, l1, l2, l3, l4 =>
    (x_is T l0 8).bind fun _ =>
    (x_R w 54 l0).bind fun a4 =>
    (x_is T a4 9).bind fun _ =>
    (x_R w 55 a4).bind fun a9 =>
    (x_len T a9 104).bind fun n11 =>
    if (nI n11) ≤ l4 then
      (f_Trials_waterBehind_76 T w l0 l2 l3)
    else
      ((x_R w 53 l0).bind fun a14 =>
      (x_len T a14 100).bind fun n16 =>
      if (nI n16) ≤ l4 then
        (f_Trials_waterBehind_76 T w l0 l2 l3)
      else
        ((x_R w 53 l0).bind fun a19 =>
        (x_ix T a19 100 l4).bind fun _ =>
        (some ((x_A w a19 l4.toNatClampNeg))).bind fun v25 =>
        if v25 < 0 then
          (f_Trials_waterBehind_70 T (f_Trials_waterBehind_3 T n) w l0 l1 l2 l3 l4)
        else
          ((x_is T l1 9).bind fun _ =>
          (x_R w 55 l1).bind fun a31 =>
          (x_len T a31 104).bind fun n33 =>
          if (nI n33) ≤ v25 then
            (f_Trials_waterBehind_70 T (f_Trials_waterBehind_3 T n) w l0 l1 l2 l3 l4)
          else
            ((x_R w 54 l0).bind fun a36 =>
            (x_is T a36 9).bind fun _ =>
            (x_R w 55 a36).bind fun a41 =>
            (x_ix T a41 104 l4).bind fun _ =>
            (x_Q w a41 l4.toNatClampNeg).bind fun a47 =>
            (x_R w 55 l1).bind fun a49 =>
            (x_ix T a49 104 v25).bind fun _ =>
            (x_Q w a49 v25.toNatClampNeg).bind fun a55 =>
            (x_is T a47 2).bind fun _ =>
            (f_Cell_layDry T w a47 a55).bind fun q57 =>
            f_Trials_waterBehind_70 T (f_Trials_waterBehind_3 T n) q57 l0 l1 l2 l3 l4))))
def f_Trials_waterBehind (T : x_T) (w : x_W) (l0 : Nat) (l1 : Nat) (l2 : Nat) (l3 : Int32) : Option (Int64 × x_W) :=
  f_Trials_waterBehind_3 T 1000 w l0 l1 l2 l3 (0 : Int32)
set_option maxHeartbeats 4000000 in
set_option maxRecDepth 100000 in
theorem k_Trials_waterBehind_79 {p : Program} {l : Launch} {e : Env} {s : State} {m : MethodId} {args : Array Value} {below : List Frame} {meth : Method} {c : Code} {D : va_G} {aC : Nat → ClassId} {ad : Nat → Nat} {T : x_T} {nx : Nat} {A : Nat → Prop} {q : Int64 × x_W} (C0 : x_At p s m meth c args "WallDamp$Trials" b_Trials_waterBehind (some (.long)) 6 D aC A) : ∀ (n : Nat), ∀ (w : x_W) (H : Heap) (locs : List Loc) (ls : Array Slot) (l0 : Nat) (l2 : Nat) (l3 : Int32) (l4 : Int32), f_Trials_waterBehind_79 T n w l0 l2 l3 l4 = some q → x_H D x_cl x_FT aC ad T nx A w H → va_S A s.heap H locs → lv_has ls 6 [(0, .ref (ad l0)), (2, .ref (ad l2)), (3, .int l3), (4, .int l4)] → W p l e { frames := 4, cells := 0, slots := 0, locals := 96 } s m args below meth c H locs 0 0 (MQ below (x_Qc D aC ad T nx (some (.long q.1)) q.2 A) args s 0 0 A) (F0 m 79 ls []) := by
  obtain ⟨hx, hb, hr, hml, hown, hts, hlocks, hK, hA, hX⟩ := id C0
  intro n
  induction n with
  | zero => intro w H locs ls l0 l2 l3 l4 hf; cases (show none = some q from hf)
  | succ n ih =>
    intro w H locs ls l0 l2 l3 l4 hf hH hS hl
    unfold f_Trials_waterBehind_79 at hf
    refine lv_iload hx hb d_Trials_waterBehind_79 (lv_at hl 3 rfl) ?_
    refine lv_iload_n hx hb d_Trials_waterBehind_81 rfl (lv_at hl 2 rfl) ?_
    refine lv_icmp_ge (tgt := 101) hx hb d_Trials_waterBehind_82 (by decide) (fun c1 => ?_) (fun c1 => ?_)
    · have hf := x_it hf c1
      refine lv_aload_n hx hb d_Trials_waterBehind_101 rfl (lv_at hl 0 rfl) ?_
      obtain ⟨_, e2, hf⟩ := x_b hf
      obtain ⟨n3, hT4⟩ := x_is_e e2
      obtain ⟨a5, e6, hf⟩ := x_b hf
      refine x_get (C := "WallDamp$Trials") (F := F_Trials) (N := 3) hx hb hts i_Trials hown hK hH hT4 (by decide) rfl 2 (by decide) (hts _ m_337) (fun _ h9 => h9) (kd := (2, 54)) rfl (x_fr e6) d_Trials_waterBehind_102 ?_
      obtain ⟨_, e9, hf⟩ := x_b hf
      obtain ⟨n10, hT11⟩ := x_is_e e9
      obtain ⟨q7, e8, hf⟩ := x_b hf
      refine x_callP (st1 := [.long q7]) (x_runV (As := []) (rest := []) ⟨hx, hb, hml, hown, hts⟩ (c_Wall_allWater l D aC ad T nx H.size w a5 q7 e8) (cwV 0 hts (x_gV m_774 m_748 m_749 m_7 m_750) rfl rfl rfl ⟨rfl, pd_Wall_allWater⟩ ⟨Nat.le_of_ble_eq_true rfl, Nat.le_of_ble_eq_true rfl⟩) hH hK hX hT11 (by decide) rfl rfl rfl hl.1 rfl (lv_room (Nat.le_of_ble_eq_true rfl)) d_Trials_waterBehind_105 ⟨Nat.zero_le _, Nat.zero_le _⟩) rfl ?_
      cases hf
      refine x_sz0 hS (fun hz => ?_)
      exact W.lret hx hb hr (fun t ht hW => ⟨rfl, hS.F ht, by rw [ht]; exact hz, by rw [ht]; exact hH.weaken (fun _ _ _ => trivial)⟩) hS.2.2 d_Trials_waterBehind_108
    · have hf := x_if hf c1
      refine lv_aload_n hx hb d_Trials_waterBehind_85 rfl (lv_at hl 0 rfl) ?_
      obtain ⟨_, e12, hf⟩ := x_b hf
      obtain ⟨n13, hT14⟩ := x_is_e e12
      obtain ⟨a15, e16, hf⟩ := x_b hf
      refine x_get (C := "WallDamp$Trials") (F := F_Trials) (N := 3) hx hb hts i_Trials hown hK hH hT14 (by decide) rfl 2 (by decide) (hts _ m_337) (fun _ h9 => h9) (kd := (2, 54)) rfl (x_fr e16) d_Trials_waterBehind_86 ?_
      refine lv_aload_n hx hb d_Trials_waterBehind_89 rfl (lv_at hl 1 rfl) ?_
      refine lv_iload hx hb d_Trials_waterBehind_90 (lv_at hl 3 rfl) ?_
      obtain ⟨_, e19, hf⟩ := x_b hf
      obtain ⟨n20, hT21⟩ := x_is_e e19
      obtain ⟨q17, e18, hf⟩ := x_b hf
      refine x_call (st1 := []) (x_runV (As := [.ref (ad l2), .int l4]) (rest := []) ⟨hx, hb, hml, hown, hts⟩ (c_Wall_moveWater l D aC ad T nx H.size w a15 l2 l4 q17 e18) (cwV 2 hts (x_gV m_773 m_602 m_603 m_7 m_604) rfl rfl rfl ⟨rfl, pd_Wall_moveWater⟩ ⟨Nat.le_of_ble_eq_true rfl, Nat.le_of_ble_eq_true rfl⟩) hH hK hX hT21 (by decide) rfl rfl rfl hl.1 rfl (lv_room (Nat.le_of_ble_eq_true rfl)) d_Trials_waterBehind_92 ⟨Nat.zero_le _, Nat.zero_le _⟩) rfl hH hA hS (fun H locs hH hS => ?_)
      refine lv_iinc (v := (l4 + 1)) (lv' := [(4, .int (l4 + 1)), (0, .ref (ad l0)), (2, .ref (ad l2)), (3, .int l3)]) hx hb d_Trials_waterBehind_95 hl (k := 3) rfl rfl (by decide) rfl (fun ls hl => ?_)
      refine lv_goto (tgt := 79) hx hb d_Trials_waterBehind_98 (by decide) ?_
      exact ih q17 _ _ _ l0 l2 l3 (l4 + 1) hf hH hS (lv_sub hl [1, 2, 3, 0] rfl)
set_option maxHeartbeats 4000000 in
set_option maxRecDepth 100000 in
theorem k_Trials_waterBehind_76 {p : Program} {l : Launch} {e : Env} {s : State} {m : MethodId} {args : Array Value} {below : List Frame} {meth : Method} {c : Code} {D : va_G} {aC : Nat → ClassId} {ad : Nat → Nat} {T : x_T} {nx : Nat} {A : Nat → Prop} {q : Int64 × x_W} (C0 : x_At p s m meth c args "WallDamp$Trials" b_Trials_waterBehind (some (.long)) 6 D aC A) : ∀ (w : x_W) (H : Heap) (locs : List Loc) (ls : Array Slot) (l0 : Nat) (l2 : Nat) (l3 : Int32), f_Trials_waterBehind_76 T w l0 l2 l3 = some q → x_H D x_cl x_FT aC ad T nx A w H → va_S A s.heap H locs → lv_has ls 6 [(0, .ref (ad l0)), (2, .ref (ad l2)), (3, .int l3)] → W p l e { frames := 4, cells := 0, slots := 0, locals := 96 } s m args below meth c H locs 0 0 (MQ below (x_Qc D aC ad T nx (some (.long q.1)) q.2 A) args s 0 0 A) (F0 m 76 ls []) := by
  obtain ⟨hx, hb, hr, hml, hown, hts, hlocks, hK, hA, hX⟩ := id C0
  intro w H locs ls l0 l2 l3 hf hH hS hl
  unfold f_Trials_waterBehind_76 at hf
  refine lv_iconst (v := 0) hx hb d_Trials_waterBehind_76 (by decide) ?_
  refine lv_istore (lv' := [(4, .int (0 : Int32)), (0, .ref (ad l0)), (2, .ref (ad l2)), (3, .int l3)]) hx hb d_Trials_waterBehind_77 hl (by decide) rfl (fun ls hl => ?_)
  exact k_Trials_waterBehind_79 C0 1000 w _ _ _ l0 l2 l3 (0 : Int32) hf hH hS (lv_sub hl [1, 2, 3, 0] rfl)
set_option maxHeartbeats 4000000 in
set_option maxRecDepth 100000 in
theorem k_Trials_waterBehind_70 {p : Program} {l : Launch} {e : Env} {s : State} {m : MethodId} {args : Array Value} {below : List Frame} {meth : Method} {c : Code} {D : va_G} {aC : Nat → ClassId} {ad : Nat → Nat} {T : x_T} {nx : Nat} {A : Nat → Prop} {q : Int64 × x_W} (C0 : x_At p s m meth c args "WallDamp$Trials" b_Trials_waterBehind (some (.long)) 6 D aC A) {K3 : x_W → Nat → Nat → Nat → Int32 → Int32 → Option (Int64 × x_W)} (hK3 : ∀ (w : x_W) (H : Heap) (locs : List Loc) (ls : Array Slot) (l0 : Nat) (l1 : Nat) (l2 : Nat) (l3 : Int32) (l4 : Int32), K3 w l0 l1 l2 l3 l4 = some q → x_H D x_cl x_FT aC ad T nx A w H → va_S A s.heap H locs → lv_has ls 6 [(0, .ref (ad l0)), (1, .ref (ad l1)), (2, .ref (ad l2)), (3, .int l3), (4, .int l4)] → W p l e { frames := 4, cells := 0, slots := 0, locals := 96 } s m args below meth c H locs 0 0 (MQ below (x_Qc D aC ad T nx (some (.long q.1)) q.2 A) args s 0 0 A) (F0 m 3 ls [])) : ∀ (w : x_W) (H : Heap) (locs : List Loc) (ls : Array Slot) (l0 : Nat) (l1 : Nat) (l2 : Nat) (l3 : Int32) (l4 : Int32), f_Trials_waterBehind_70 T K3 w l0 l1 l2 l3 l4 = some q → x_H D x_cl x_FT aC ad T nx A w H → va_S A s.heap H locs → lv_has ls 6 [(0, .ref (ad l0)), (1, .ref (ad l1)), (2, .ref (ad l2)), (3, .int l3), (4, .int l4)] → W p l e { frames := 4, cells := 0, slots := 0, locals := 96 } s m args below meth c H locs 0 0 (MQ below (x_Qc D aC ad T nx (some (.long q.1)) q.2 A) args s 0 0 A) (F0 m 70 ls []) := by
  obtain ⟨hx, hb, hr, hml, hown, hts, hlocks, hK, hA, hX⟩ := id C0
  intro w H locs ls l0 l1 l2 l3 l4 hf hH hS hl
  unfold f_Trials_waterBehind_70 at hf
  refine lv_iinc (v := (l4 + 1)) (lv' := [(4, .int (l4 + 1)), (0, .ref (ad l0)), (1, .ref (ad l1)), (2, .ref (ad l2)), (3, .int l3)]) hx hb d_Trials_waterBehind_70 hl (k := 4) rfl rfl (by decide) rfl (fun ls hl => ?_)
  refine lv_goto (tgt := 3) hx hb d_Trials_waterBehind_73 (by decide) ?_
  exact hK3 w _ _ _ l0 l1 l2 l3 (l4 + 1) hf hH hS (lv_sub hl [1, 2, 3, 4, 0] rfl)
set_option maxHeartbeats 4000000 in
set_option maxRecDepth 100000 in
theorem k_Trials_waterBehind_3 {p : Program} {l : Launch} {e : Env} {s : State} {m : MethodId} {args : Array Value} {below : List Frame} {meth : Method} {c : Code} {D : va_G} {aC : Nat → ClassId} {ad : Nat → Nat} {T : x_T} {nx : Nat} {A : Nat → Prop} {q : Int64 × x_W} (C0 : x_At p s m meth c args "WallDamp$Trials" b_Trials_waterBehind (some (.long)) 6 D aC A) : ∀ (n : Nat), ∀ (w : x_W) (H : Heap) (locs : List Loc) (ls : Array Slot) (l0 : Nat) (l1 : Nat) (l2 : Nat) (l3 : Int32) (l4 : Int32), f_Trials_waterBehind_3 T n w l0 l1 l2 l3 l4 = some q → x_H D x_cl x_FT aC ad T nx A w H → va_S A s.heap H locs → lv_has ls 6 [(0, .ref (ad l0)), (1, .ref (ad l1)), (2, .ref (ad l2)), (3, .int l3), (4, .int l4)] → W p l e { frames := 4, cells := 0, slots := 0, locals := 96 } s m args below meth c H locs 0 0 (MQ below (x_Qc D aC ad T nx (some (.long q.1)) q.2 A) args s 0 0 A) (F0 m 3 ls []) := by
  obtain ⟨hx, hb, hr, hml, hown, hts, hlocks, hK, hA, hX⟩ := id C0
  intro n
  induction n with
  | zero => intro w H locs ls l0 l1 l2 l3 l4 hf; cases (show none = some q from hf)
  | succ n ih =>
    intro w H locs ls l0 l1 l2 l3 l4 hf hH hS hl
    unfold f_Trials_waterBehind_3 at hf
    refine lv_iload hx hb d_Trials_waterBehind_3 (lv_at hl 4 rfl) ?_
    refine lv_aload_n hx hb d_Trials_waterBehind_5 rfl (lv_at hl 0 rfl) ?_
    obtain ⟨_, e1, hf⟩ := x_b hf
    obtain ⟨n2, hT3⟩ := x_is_e e1
    obtain ⟨a4, e5, hf⟩ := x_b hf
    refine x_get (C := "WallDamp$Trials") (F := F_Trials) (N := 3) hx hb hts i_Trials hown hK hH hT3 (by decide) rfl 2 (by decide) (hts _ m_337) (fun _ h9 => h9) (kd := (2, 54)) rfl (x_fr e5) d_Trials_waterBehind_6 ?_
    obtain ⟨_, e6, hf⟩ := x_b hf
    obtain ⟨n7, hT8⟩ := x_is_e e6
    obtain ⟨a9, e10, hf⟩ := x_b hf
    refine x_get (C := "WallDamp$Wall") (F := F_Wall) (N := 9) hx hb hts i_Wall hown hK hH hT8 (by decide) rfl 0 (by decide) (hts _ m_297) (fun _ h9 => h9) (kd := (2, 55)) rfl (x_fr e10) d_Trials_waterBehind_9 ?_
    obtain ⟨n11, e12, hf⟩ := x_b hf
    refine x_alen hx hb hK hH (x_len_e e12) (by decide) 4 rfl d_Trials_waterBehind_12 ?_
    refine lv_icmp_ge (tgt := 76) hx hb d_Trials_waterBehind_13 (by decide) (fun c13 => ?_) (fun c13 => ?_)
    · have hf := x_it hf c13
      exact k_Trials_waterBehind_76 C0 w _ _ _ l0 l2 l3 hf hH hS (lv_sub hl [0, 2, 3] rfl)
    · have hf := x_if hf c13
      refine lv_iload hx hb d_Trials_waterBehind_16 (lv_at hl 4 rfl) ?_
      refine lv_aload_n hx hb d_Trials_waterBehind_18 rfl (lv_at hl 0 rfl) ?_
      obtain ⟨a14, e15, hf⟩ := x_b hf
      refine x_get (C := "WallDamp$Trials") (F := F_Trials) (N := 3) hx hb hts i_Trials hown hK hH hT3 (by decide) rfl 1 (by decide) (hts _ m_336) (fun _ h9 => h9) (kd := (2, 53)) rfl (x_fr e15) d_Trials_waterBehind_19 ?_
      obtain ⟨n16, e17, hf⟩ := x_b hf
      refine x_alen hx hb hK hH (x_len_e e17) (by decide) 0 rfl d_Trials_waterBehind_22 ?_
      refine lv_icmp_ge (tgt := 76) hx hb d_Trials_waterBehind_23 (by decide) (fun c18 => ?_) (fun c18 => ?_)
      · have hf := x_it hf c18
        exact k_Trials_waterBehind_76 C0 w _ _ _ l0 l2 l3 hf hH hS (lv_sub hl [0, 2, 3] rfl)
      · have hf := x_if hf c18
        refine lv_aload_n hx hb d_Trials_waterBehind_26 rfl (lv_at hl 0 rfl) ?_
        obtain ⟨a19, e20, hf⟩ := x_b hf
        refine x_get (C := "WallDamp$Trials") (F := F_Trials) (N := 3) hx hb hts i_Trials hown hK hH hT3 (by decide) rfl 1 (by decide) (hts _ m_336) (fun _ h9 => h9) (kd := (2, 53)) rfl (x_fr e20) d_Trials_waterBehind_27 ?_
        refine lv_iload hx hb d_Trials_waterBehind_30 (lv_at hl 4 rfl) ?_
        obtain ⟨_, e21, hf⟩ := x_b hf
        obtain ⟨n22, hT23, hi24⟩ := x_ix_e e21
        refine x_iald hx hb hK hH hT23 0 rfl hi24 d_Trials_waterBehind_32 ?_
        obtain ⟨v25, e26, hf⟩ := x_b hf
        refine x_nmi e26 ?_
        refine lv_istore (lv' := [(5, .int v25), (0, .ref (ad l0)), (1, .ref (ad l1)), (2, .ref (ad l2)), (3, .int l3), (4, .int l4)]) hx hb d_Trials_waterBehind_33 hl (by decide) rfl (fun ls hl => ?_)
        refine lv_iload hx hb d_Trials_waterBehind_35 (lv_at hl 0 rfl) ?_
        refine lv_if_lt (tgt := 70) hx hb d_Trials_waterBehind_37 (by decide) (fun c27 => ?_) (fun c27 => ?_)
        · have hf := x_it hf c27
          exact k_Trials_waterBehind_70 C0 ih w _ _ _ l0 l1 l2 l3 l4 hf hH hS (lv_sub hl [1, 2, 3, 4, 5] rfl)
        · have hf := x_if hf c27
          refine lv_iload hx hb d_Trials_waterBehind_40 (lv_at hl 0 rfl) ?_
          refine lv_aload_n hx hb d_Trials_waterBehind_42 rfl (lv_at hl 2 rfl) ?_
          obtain ⟨_, e28, hf⟩ := x_b hf
          obtain ⟨n29, hT30⟩ := x_is_e e28
          obtain ⟨a31, e32, hf⟩ := x_b hf
          refine x_get (C := "WallDamp$Wall") (F := F_Wall) (N := 9) hx hb hts i_Wall hown hK hH hT30 (by decide) rfl 0 (by decide) (hts _ m_297) (fun _ h9 => h9) (kd := (2, 55)) rfl (x_fr e32) d_Trials_waterBehind_43 ?_
          obtain ⟨n33, e34, hf⟩ := x_b hf
          refine x_alen hx hb hK hH (x_len_e e34) (by decide) 4 rfl d_Trials_waterBehind_46 ?_
          refine lv_icmp_ge (tgt := 70) hx hb d_Trials_waterBehind_47 (by decide) (fun c35 => ?_) (fun c35 => ?_)
          · have hf := x_it hf c35
            exact k_Trials_waterBehind_70 C0 ih w _ _ _ l0 l1 l2 l3 l4 hf hH hS (lv_sub hl [1, 2, 3, 4, 5] rfl)
          · have hf := x_if hf c35
            refine lv_aload_n hx hb d_Trials_waterBehind_50 rfl (lv_at hl 1 rfl) ?_
            obtain ⟨a36, e37, hf⟩ := x_b hf
            refine x_get (C := "WallDamp$Trials") (F := F_Trials) (N := 3) hx hb hts i_Trials hown hK hH hT3 (by decide) rfl 2 (by decide) (hts _ m_337) (fun _ h9 => h9) (kd := (2, 54)) rfl (x_fr e37) d_Trials_waterBehind_51 ?_
            obtain ⟨_, e38, hf⟩ := x_b hf
            obtain ⟨n39, hT40⟩ := x_is_e e38
            obtain ⟨a41, e42, hf⟩ := x_b hf
            refine x_get (C := "WallDamp$Wall") (F := F_Wall) (N := 9) hx hb hts i_Wall hown hK hH hT40 (by decide) rfl 0 (by decide) (hts _ m_297) (fun _ h9 => h9) (kd := (2, 55)) rfl (x_fr e42) d_Trials_waterBehind_54 ?_
            refine lv_iload hx hb d_Trials_waterBehind_57 (lv_at hl 5 rfl) ?_
            obtain ⟨_, e43, hf⟩ := x_b hf
            obtain ⟨n44, hT45, hi46⟩ := x_ix_e e43
            obtain ⟨a47, e48, hf⟩ := x_b hf
            refine x_aald hx hb hK hH hT45 (by decide) 4 rfl hi46 (x_qr e48) d_Trials_waterBehind_59 ?_
            refine lv_aload_n hx hb d_Trials_waterBehind_60 rfl (lv_at hl 2 rfl) ?_
            obtain ⟨a49, e50, hf⟩ := x_b hf
            refine x_get (C := "WallDamp$Wall") (F := F_Wall) (N := 9) hx hb hts i_Wall hown hK hH hT30 (by decide) rfl 0 (by decide) (hts _ m_297) (fun _ h9 => h9) (kd := (2, 55)) rfl (x_fr e50) d_Trials_waterBehind_61 ?_
            refine lv_iload hx hb d_Trials_waterBehind_64 (lv_at hl 0 rfl) ?_
            obtain ⟨_, e51, hf⟩ := x_b hf
            obtain ⟨n52, hT53, hi54⟩ := x_ix_e e51
            obtain ⟨a55, e56, hf⟩ := x_b hf
            refine x_aald hx hb hK hH hT53 (by decide) 4 rfl hi54 (x_qr e56) d_Trials_waterBehind_66 ?_
            obtain ⟨_, e59, hf⟩ := x_b hf
            obtain ⟨n60, hT61⟩ := x_is_e e59
            obtain ⟨q57, e58, hf⟩ := x_b hf
            refine x_call (st1 := []) (x_runV (As := [.ref (ad a55)]) (rest := []) ⟨hx, hb, hml, hown, hts⟩ (c_Cell_layDry l D aC ad T nx H.size w a47 a55 q57 e58) (cwV 1 hts (x_gV m_769 m_770 m_771 m_10 m_772) rfl rfl rfl ⟨rfl, pd_Cell_layDry⟩ ⟨Nat.le_of_ble_eq_true rfl, Nat.le_of_ble_eq_true rfl⟩) hH hK hX hT61 (by decide) rfl rfl rfl hl.1 rfl (lv_room (Nat.le_of_ble_eq_true rfl)) d_Trials_waterBehind_67 ⟨Nat.zero_le _, Nat.zero_le _⟩) rfl hH hA hS (fun H locs hH hS => ?_)
            exact k_Trials_waterBehind_70 C0 ih q57 _ _ _ l0 l1 l2 l3 l4 hf hH hS (lv_sub hl [1, 2, 3, 4, 5] rfl)
set_option maxHeartbeats 4000000 in
set_option maxRecDepth 100000 in
theorem k_Trials_waterBehind {p : Program} {l : Launch} {e : Env} {s : State} {m : MethodId} {args : Array Value} {below : List Frame} {meth : Method} {c : Code} {D : va_G} {aC : Nat → ClassId} {ad : Nat → Nat} {T : x_T} {nx : Nat} {A : Nat → Prop} {q : Int64 × x_W} (C0 : x_At p s m meth c args "WallDamp$Trials" b_Trials_waterBehind (some (.long)) 6 D aC A) : ∀ (w : x_W) (H : Heap) (locs : List Loc) (ls : Array Slot) (l0 : Nat) (l1 : Nat) (l2 : Nat) (l3 : Int32), f_Trials_waterBehind T w l0 l1 l2 l3 = some q → x_H D x_cl x_FT aC ad T nx A w H → va_S A s.heap H locs → lv_has ls 6 [(0, .ref (ad l0)), (1, .ref (ad l1)), (2, .ref (ad l2)), (3, .int l3)] → W p l e { frames := 4, cells := 0, slots := 0, locals := 96 } s m args below meth c H locs 0 0 (MQ below (x_Qc D aC ad T nx (some (.long q.1)) q.2 A) args s 0 0 A) (F0 m 0 ls []) := by
  obtain ⟨hx, hb, hr, hml, hown, hts, hlocks, hK, hA, hX⟩ := id C0
  intro w H locs ls l0 l1 l2 l3 hf hH hS hl
  unfold f_Trials_waterBehind at hf
  refine lv_iconst (v := 0) hx hb d_Trials_waterBehind_0 (by decide) ?_
  refine lv_istore (lv' := [(4, .int (0 : Int32)), (0, .ref (ad l0)), (1, .ref (ad l1)), (2, .ref (ad l2)), (3, .int l3)]) hx hb d_Trials_waterBehind_1 hl (by decide) rfl (fun ls hl => ?_)
  exact k_Trials_waterBehind_3 C0 1000 w _ _ _ l0 l1 l2 l3 (0 : Int32) hf hH hS (lv_sub hl [1, 2, 3, 4, 0] rfl)
theorem c_Trials_waterBehind (l : Launch) (D : va_G) (aC : Nat → ClassId) (ad : Nat → Nat) (T : x_T) (nx sz : Nat) (w : x_W) (a0 : Nat) (a1 : Nat) (a2 : Nat) (a3 : Int32) (q : Int64 × x_W) (hf : f_Trials_waterBehind T w a0 a1 a2 a3 = some q) : Met l y_Trials_waterBehind ws_Trials_waterBehind { frames := 4, cells := 0, slots := 0, locals := 96 } (x_Pc D aC ad T nx sz w [.ref (ad a0), .ref (ad a1), .ref (ad a2), .int a3]) (x_Qc D aC ad T nx (some (.long q.1)) q.2 (x_dom ad nx sz)) 0 0 (x_dom ad nx sz) :=
  x_met [(0, .ref (ad a0)), (1, .ref (ad a1)), (2, .ref (ad a2)), (3, .int a3)] (plainFor_of_name (by decide)) rfl rfl (Nat.le_of_ble_eq_true rfl) (fun p e s m args below meth c ls C0 hH hS hl => k_Trials_waterBehind C0 w _ _ _ a0 a1 a2 a3 hf hH hS (lv_sub hl [0, 1, 2, 3] rfl))
/-! WallDamp$Trials.findDriest(LWallDamp$Wall;LWallDamp$Surroundings;I)V -/
def f_Trials_findDriest_100 (T : x_T) (w : x_W) : Option (x_W) :=
  some w
def f_Trials_findDriest_86 (T : x_T) (K47 : x_W → Nat → Nat → Nat → Int32 → Int32 → Int64 → Int32 → Int32 → Option (x_W)) (w : x_W) (l0 : Nat) (l1 : Nat) (l2 : Nat) (l3 : Int32) (l4 : Int32) (l5 : Int64) (l8 : Int32) : Option (x_W) :=
  (x_is T l0 8).bind fun _ =>
  (f_Trials_stepRow T w l0 l4).bind fun q1 =>
  K47 q1.2 l0 l1 l2 l3 l4 l5 q1.1 (l8 + 1)
def f_Trials_findDriest_47 (T : x_T) : Nat → x_W → Nat → Nat → Nat → Int32 → Int32 → Int64 → Int32 → Int32 → Option (x_W)
  | 0, _, _, _, _, _, _, _, _, _ => none
  | n + 1, w, l0, l1, l2, l3, l4, l5, l7, l8 =>
    if l7 = 0 then
      (f_Trials_findDriest_100 T w)
    else
      (if (120 : Int32) ≤ l8 then
        (f_Trials_findDriest_100 T w)
      else
        ((x_is T l0 8).bind fun _ =>
        (f_Trials_waterBehind T w l0 l1 l2 l3).bind fun q3 =>
        if 0 ≤ (lg_cmp q3.1 l5) then
          (f_Trials_findDriest_86 T (f_Trials_findDriest_47 T n) q3.2 l0 l1 l2 l3 l4 l5 l8)
        else
          ((f_Trials_keepRow T q3.2 l0 l4).bind fun q9 =>
          f_Trials_findDriest_86 T (f_Trials_findDriest_47 T n) q9 l0 l1 l2 l3 l4 q3.1 l8)))
def f_Trials_findDriest_14 (T : x_T) : Nat → x_W → Nat → Nat → Nat → Int32 → Int32 → Int32 → Option (x_W)
  | 0, _, _, _, _, _, _, _ => none
  | n + 1, w, l0, l1, l2, l3, l4, l5 =>
    if l4 ≤ l5 then
      (f_Trials_findDriest_47 T 1000 w l0 l1 l2 l3 l4 (1000000000000 : Int64) (1 : Int32) (0 : Int32))
    else
      ((x_is T l0 8).bind fun _ =>
      (x_R w 53 l0).bind fun a5 =>
      (x_ix T a5 100 l5).bind fun _ =>
      (some (x_sA w a5 l5.toNatClampNeg l5)).bind fun w11 =>
      f_Trials_findDriest_14 T n w11 l0 l1 l2 l3 l4 (l5 + 1))
def f_Trials_findDriest (T : x_T) (w : x_W) (l0 : Nat) (l1 : Nat) (l2 : Nat) (l3 : Int32) : Option (x_W) :=
  (x_is T l1 9).bind fun _ =>
  (x_R w 55 l1).bind fun a4 =>
  (x_len T a4 104).bind fun n6 =>
  (f_Math_min T w (5 : Int32) (nI n6)).bind fun q8 =>
  f_Trials_findDriest_14 T 1000 w l0 l1 l2 l3 q8 (0 : Int32)
set_option maxHeartbeats 4000000 in
set_option maxRecDepth 100000 in
theorem k_Trials_findDriest_100 {p : Program} {l : Launch} {e : Env} {s : State} {m : MethodId} {args : Array Value} {below : List Frame} {meth : Method} {c : Code} {D : va_G} {aC : Nat → ClassId} {ad : Nat → Nat} {T : x_T} {nx : Nat} {A : Nat → Prop} {q : x_W} (C0 : x_At p s m meth c args "WallDamp$Trials" b_Trials_findDriest none 11 D aC A) : ∀ (w : x_W) (H : Heap) (locs : List Loc) (ls : Array Slot), f_Trials_findDriest_100 T w = some q → x_H D x_cl x_FT aC ad T nx A w H → va_S A s.heap H locs → lv_has ls 11 [] → W p l e { frames := 5, cells := 0, slots := 0, locals := 121 } s m args below meth c H locs 0 0 (MQ below (x_Qc D aC ad T nx none q A) args s 0 0 A) (F0 m 100 ls []) := by
  obtain ⟨hx, hb, hr, hml, hown, hts, hlocks, hK, hA, hX⟩ := id C0
  intro w H locs ls hf hH hS hl
  unfold f_Trials_findDriest_100 at hf
  cases hf
  refine x_sz0 hS (fun hz => ?_)
  exact W.vret hx hb hr (fun t ht hW => ⟨rfl, hS.F ht, by rw [ht]; exact hz, by rw [ht]; exact hH.weaken (fun _ _ _ => trivial)⟩) hS.2.2 d_Trials_findDriest_100
set_option maxHeartbeats 4000000 in
set_option maxRecDepth 100000 in
theorem k_Trials_findDriest_86 {p : Program} {l : Launch} {e : Env} {s : State} {m : MethodId} {args : Array Value} {below : List Frame} {meth : Method} {c : Code} {D : va_G} {aC : Nat → ClassId} {ad : Nat → Nat} {T : x_T} {nx : Nat} {A : Nat → Prop} {q : x_W} (C0 : x_At p s m meth c args "WallDamp$Trials" b_Trials_findDriest none 11 D aC A) {K47 : x_W → Nat → Nat → Nat → Int32 → Int32 → Int64 → Int32 → Int32 → Option (x_W)} (hK47 : ∀ (w : x_W) (H : Heap) (locs : List Loc) (ls : Array Slot) (l0 : Nat) (l1 : Nat) (l2 : Nat) (l3 : Int32) (l4 : Int32) (l5 : Int64) (l7 : Int32) (l8 : Int32), K47 w l0 l1 l2 l3 l4 l5 l7 l8 = some q → x_H D x_cl x_FT aC ad T nx A w H → va_S A s.heap H locs → lv_has ls 11 [(0, .ref (ad l0)), (1, .ref (ad l1)), (2, .ref (ad l2)), (3, .int l3), (4, .int l4), (5, .long l5), (7, .int l7), (8, .int l8)] → W p l e { frames := 5, cells := 0, slots := 0, locals := 121 } s m args below meth c H locs 0 0 (MQ below (x_Qc D aC ad T nx none q A) args s 0 0 A) (F0 m 47 ls [])) : ∀ (w : x_W) (H : Heap) (locs : List Loc) (ls : Array Slot) (l0 : Nat) (l1 : Nat) (l2 : Nat) (l3 : Int32) (l4 : Int32) (l5 : Int64) (l8 : Int32), f_Trials_findDriest_86 T K47 w l0 l1 l2 l3 l4 l5 l8 = some q → x_H D x_cl x_FT aC ad T nx A w H → va_S A s.heap H locs → lv_has ls 11 [(0, .ref (ad l0)), (1, .ref (ad l1)), (2, .ref (ad l2)), (3, .int l3), (4, .int l4), (5, .long l5), (8, .int l8)] → W p l e { frames := 5, cells := 0, slots := 0, locals := 121 } s m args below meth c H locs 0 0 (MQ below (x_Qc D aC ad T nx none q A) args s 0 0 A) (F0 m 86 ls []) := by
  obtain ⟨hx, hb, hr, hml, hown, hts, hlocks, hK, hA, hX⟩ := id C0
  intro w H locs ls l0 l1 l2 l3 l4 l5 l8 hf hH hS hl
  unfold f_Trials_findDriest_86 at hf
  refine lv_aload_n hx hb d_Trials_findDriest_86 rfl (lv_at hl 0 rfl) ?_
  refine lv_iload hx hb d_Trials_findDriest_87 (lv_at hl 4 rfl) ?_
  obtain ⟨_, e3, hf⟩ := x_b hf
  obtain ⟨n4, hT5⟩ := x_is_e e3
  obtain ⟨q1, e2, hf⟩ := x_b hf
  refine x_call (st1 := [.int q1.1]) (x_runV (As := [.int l4]) (rest := []) ⟨hx, hb, hml, hown, hts⟩ (c_Trials_stepRow l D aC ad T nx H.size w l0 l4 q1 e2) (cwV 1 hts (x_gV m_779 m_781 ms_13 m_12 m_782) rfl rfl rfl ⟨rfl, pd_Trials_stepRow⟩ ⟨Nat.le_of_ble_eq_true rfl, Nat.le_of_ble_eq_true rfl⟩) hH hK hX hT5 (by decide) rfl rfl rfl hl.1 rfl (lv_room (Nat.le_of_ble_eq_true rfl)) d_Trials_findDriest_89 ⟨Nat.zero_le _, Nat.zero_le _⟩) rfl hH hA hS (fun H locs hH hS => ?_)
  refine lv_istore (lv' := [(7, .int q1.1), (0, .ref (ad l0)), (1, .ref (ad l1)), (2, .ref (ad l2)), (3, .int l3), (4, .int l4), (5, .long l5), (8, .int l8)]) hx hb d_Trials_findDriest_92 hl (by decide) rfl (fun ls hl => ?_)
  refine lv_iinc (v := (l8 + 1)) (lv' := [(8, .int (l8 + 1)), (7, .int q1.1), (0, .ref (ad l0)), (1, .ref (ad l1)), (2, .ref (ad l2)), (3, .int l3), (4, .int l4), (5, .long l5)]) hx hb d_Trials_findDriest_94 hl (k := 7) rfl rfl (by decide) rfl (fun ls hl => ?_)
  refine lv_goto (tgt := 47) hx hb d_Trials_findDriest_97 (by decide) ?_
  exact hK47 q1.2 _ _ _ l0 l1 l2 l3 l4 l5 q1.1 (l8 + 1) hf hH hS (lv_sub hl [2, 3, 4, 5, 6, 7, 1, 0] rfl)
set_option maxHeartbeats 4000000 in
set_option maxRecDepth 100000 in
theorem k_Trials_findDriest_47 {p : Program} {l : Launch} {e : Env} {s : State} {m : MethodId} {args : Array Value} {below : List Frame} {meth : Method} {c : Code} {D : va_G} {aC : Nat → ClassId} {ad : Nat → Nat} {T : x_T} {nx : Nat} {A : Nat → Prop} {q : x_W} (C0 : x_At p s m meth c args "WallDamp$Trials" b_Trials_findDriest none 11 D aC A) : ∀ (n : Nat), ∀ (w : x_W) (H : Heap) (locs : List Loc) (ls : Array Slot) (l0 : Nat) (l1 : Nat) (l2 : Nat) (l3 : Int32) (l4 : Int32) (l5 : Int64) (l7 : Int32) (l8 : Int32), f_Trials_findDriest_47 T n w l0 l1 l2 l3 l4 l5 l7 l8 = some q → x_H D x_cl x_FT aC ad T nx A w H → va_S A s.heap H locs → lv_has ls 11 [(0, .ref (ad l0)), (1, .ref (ad l1)), (2, .ref (ad l2)), (3, .int l3), (4, .int l4), (5, .long l5), (7, .int l7), (8, .int l8)] → W p l e { frames := 5, cells := 0, slots := 0, locals := 121 } s m args below meth c H locs 0 0 (MQ below (x_Qc D aC ad T nx none q A) args s 0 0 A) (F0 m 47 ls []) := by
  obtain ⟨hx, hb, hr, hml, hown, hts, hlocks, hK, hA, hX⟩ := id C0
  intro n
  induction n with
  | zero => intro w H locs ls l0 l1 l2 l3 l4 l5 l7 l8 hf; cases (show none = some q from hf)
  | succ n ih =>
    intro w H locs ls l0 l1 l2 l3 l4 l5 l7 l8 hf hH hS hl
    unfold f_Trials_findDriest_47 at hf
    refine lv_iload hx hb d_Trials_findDriest_47 (lv_at hl 6 rfl) ?_
    refine lv_if_eq (tgt := 100) hx hb d_Trials_findDriest_49 (by decide) (fun c1 => ?_) (fun c1 => ?_)
    · have hf := x_it hf c1
      exact k_Trials_findDriest_100 C0 w _ _ _ hf hH hS (lv_sub hl [] rfl)
    · have hf := x_if hf c1
      refine lv_iload hx hb d_Trials_findDriest_52 (lv_at hl 7 rfl) ?_
      refine lv_bipush (v := 120) hx hb d_Trials_findDriest_54 (by decide) ?_
      refine lv_icmp_ge (tgt := 100) hx hb d_Trials_findDriest_56 (by decide) (fun c2 => ?_) (fun c2 => ?_)
      · have hf := x_it hf c2
        exact k_Trials_findDriest_100 C0 w _ _ _ hf hH hS (lv_sub hl [] rfl)
      · have hf := x_if hf c2
        refine lv_aload_n hx hb d_Trials_findDriest_59 rfl (lv_at hl 0 rfl) ?_
        refine lv_aload_n hx hb d_Trials_findDriest_60 rfl (lv_at hl 1 rfl) ?_
        refine lv_aload_n hx hb d_Trials_findDriest_61 rfl (lv_at hl 2 rfl) ?_
        refine lv_iload_n hx hb d_Trials_findDriest_62 rfl (lv_at hl 3 rfl) ?_
        obtain ⟨_, e5, hf⟩ := x_b hf
        obtain ⟨n6, hT7⟩ := x_is_e e5
        obtain ⟨q3, e4, hf⟩ := x_b hf
        refine x_call (st1 := [.long q3.1]) (x_runV (As := [.ref (ad l1), .ref (ad l2), .int l3]) (rest := []) ⟨hx, hb, hml, hown, hts⟩ (c_Trials_waterBehind l D aC ad T nx H.size w l0 l1 l2 l3 q3 e4) (cwV 3 hts (x_gV m_765 m_767 ms_11 m_12 m_768) rfl rfl rfl ⟨rfl, pd_Trials_waterBehind⟩ ⟨Nat.le_of_ble_eq_true rfl, Nat.le_of_ble_eq_true rfl⟩) hH hK hX hT7 (by decide) rfl rfl rfl hl.1 rfl (lv_room (Nat.le_of_ble_eq_true rfl)) d_Trials_findDriest_63 ⟨Nat.zero_le _, Nat.zero_le _⟩) rfl hH hA hS (fun H locs hH hS => ?_)
        refine lv_lstore (lv' := [(9, .long q3.1), (0, .ref (ad l0)), (1, .ref (ad l1)), (2, .ref (ad l2)), (3, .int l3), (4, .int l4), (5, .long l5), (7, .int l7), (8, .int l8)]) hx hb d_Trials_findDriest_66 hl (by decide) rfl (fun ls hl => ?_)
        refine lv_lload hx hb d_Trials_findDriest_68 (lv_at hl 0 rfl) ?_
        refine lv_lload hx hb d_Trials_findDriest_70 (lv_at hl 6 rfl) ?_
        refine W.lcmp hx hb d_Trials_findDriest_72 ?_
        refine lv_if_ge (tgt := 86) hx hb d_Trials_findDriest_73 (by decide) (fun c8 => ?_) (fun c8 => ?_)
        · have hf := x_it hf c8
          exact k_Trials_findDriest_86 C0 ih q3.2 _ _ _ l0 l1 l2 l3 l4 l5 l8 hf hH hS (lv_sub hl [1, 2, 3, 4, 5, 6, 8] rfl)
        · have hf := x_if hf c8
          refine lv_lload hx hb d_Trials_findDriest_76 (lv_at hl 0 rfl) ?_
          refine lv_lstore (lv' := [(5, .long q3.1), (9, .long q3.1), (0, .ref (ad l0)), (1, .ref (ad l1)), (2, .ref (ad l2)), (3, .int l3), (4, .int l4), (7, .int l7), (8, .int l8)]) hx hb d_Trials_findDriest_78 hl (by decide) rfl (fun ls hl => ?_)
          refine lv_aload_n hx hb d_Trials_findDriest_80 rfl (lv_at hl 2 rfl) ?_
          refine lv_iload hx hb d_Trials_findDriest_81 (lv_at hl 6 rfl) ?_
          obtain ⟨q9, e10, hf⟩ := x_b hf
          refine x_call (st1 := []) (x_runV (As := [.int l4]) (rest := []) ⟨hx, hb, hml, hown, hts⟩ (c_Trials_keepRow l D aC ad T nx H.size q3.2 l0 l4 q9 e10) (cwV 1 hts (x_gV m_775 m_777 ms_12 m_12 m_778) rfl rfl rfl ⟨rfl, pd_Trials_keepRow⟩ ⟨Nat.le_of_ble_eq_true rfl, Nat.le_of_ble_eq_true rfl⟩) hH hK hX hT7 (by decide) rfl rfl rfl hl.1 rfl (lv_room (Nat.le_of_ble_eq_true rfl)) d_Trials_findDriest_83 ⟨Nat.zero_le _, Nat.zero_le _⟩) rfl hH hA hS (fun H locs hH hS => ?_)
          exact k_Trials_findDriest_86 C0 ih q9 _ _ _ l0 l1 l2 l3 l4 q3.1 l8 hf hH hS (lv_sub hl [2, 3, 4, 5, 6, 0, 8] rfl)
set_option maxHeartbeats 4000000 in
set_option maxRecDepth 100000 in
theorem k_Trials_findDriest_14 {p : Program} {l : Launch} {e : Env} {s : State} {m : MethodId} {args : Array Value} {below : List Frame} {meth : Method} {c : Code} {D : va_G} {aC : Nat → ClassId} {ad : Nat → Nat} {T : x_T} {nx : Nat} {A : Nat → Prop} {q : x_W} (C0 : x_At p s m meth c args "WallDamp$Trials" b_Trials_findDriest none 11 D aC A) : ∀ (n : Nat), ∀ (w : x_W) (H : Heap) (locs : List Loc) (ls : Array Slot) (l0 : Nat) (l1 : Nat) (l2 : Nat) (l3 : Int32) (l4 : Int32) (l5 : Int32), f_Trials_findDriest_14 T n w l0 l1 l2 l3 l4 l5 = some q → x_H D x_cl x_FT aC ad T nx A w H → va_S A s.heap H locs → lv_has ls 11 [(0, .ref (ad l0)), (1, .ref (ad l1)), (2, .ref (ad l2)), (3, .int l3), (4, .int l4), (5, .int l5)] → W p l e { frames := 5, cells := 0, slots := 0, locals := 121 } s m args below meth c H locs 0 0 (MQ below (x_Qc D aC ad T nx none q A) args s 0 0 A) (F0 m 14 ls []) := by
  obtain ⟨hx, hb, hr, hml, hown, hts, hlocks, hK, hA, hX⟩ := id C0
  intro n
  induction n with
  | zero => intro w H locs ls l0 l1 l2 l3 l4 l5 hf; cases (show none = some q from hf)
  | succ n ih =>
    intro w H locs ls l0 l1 l2 l3 l4 l5 hf hH hS hl
    unfold f_Trials_findDriest_14 at hf
    refine lv_iload hx hb d_Trials_findDriest_14 (lv_at hl 5 rfl) ?_
    refine lv_iload hx hb d_Trials_findDriest_16 (lv_at hl 4 rfl) ?_
    refine lv_icmp_ge (tgt := 36) hx hb d_Trials_findDriest_18 (by decide) (fun c1 => ?_) (fun c1 => ?_)
    · have hf := x_it hf c1
      refine lv_ldc2 (v := (1000000000000 : Int64)) hx hb hown (hts _ m_764) d_Trials_findDriest_36 ?_
      refine lv_lstore (lv' := [(5, .long (1000000000000 : Int64)), (0, .ref (ad l0)), (1, .ref (ad l1)), (2, .ref (ad l2)), (3, .int l3), (4, .int l4)]) hx hb d_Trials_findDriest_39 hl (by decide) rfl (fun ls hl => ?_)
      refine lv_iconst (v := 1) hx hb d_Trials_findDriest_41 (by decide) ?_
      refine lv_istore (lv' := [(7, .int (1 : Int32)), (5, .long (1000000000000 : Int64)), (0, .ref (ad l0)), (1, .ref (ad l1)), (2, .ref (ad l2)), (3, .int l3), (4, .int l4)]) hx hb d_Trials_findDriest_42 hl (by decide) rfl (fun ls hl => ?_)
      refine lv_iconst (v := 0) hx hb d_Trials_findDriest_44 (by decide) ?_
      refine lv_istore (lv' := [(8, .int (0 : Int32)), (7, .int (1 : Int32)), (5, .long (1000000000000 : Int64)), (0, .ref (ad l0)), (1, .ref (ad l1)), (2, .ref (ad l2)), (3, .int l3), (4, .int l4)]) hx hb d_Trials_findDriest_45 hl (by decide) rfl (fun ls hl => ?_)
      exact k_Trials_findDriest_47 C0 1000 w _ _ _ l0 l1 l2 l3 l4 (1000000000000 : Int64) (1 : Int32) (0 : Int32) hf hH hS (lv_sub hl [3, 4, 5, 6, 7, 2, 1, 0] rfl)
    · have hf := x_if hf c1
      refine lv_aload_n hx hb d_Trials_findDriest_21 rfl (lv_at hl 0 rfl) ?_
      obtain ⟨_, e2, hf⟩ := x_b hf
      obtain ⟨n3, hT4⟩ := x_is_e e2
      obtain ⟨a5, e6, hf⟩ := x_b hf
      refine x_get (C := "WallDamp$Trials") (F := F_Trials) (N := 3) hx hb hts i_Trials hown hK hH hT4 (by decide) rfl 1 (by decide) (hts _ m_336) (fun _ h9 => h9) (kd := (2, 53)) rfl (x_fr e6) d_Trials_findDriest_22 ?_
      refine lv_iload hx hb d_Trials_findDriest_25 (lv_at hl 5 rfl) ?_
      refine lv_iload hx hb d_Trials_findDriest_27 (lv_at hl 5 rfl) ?_
      obtain ⟨_, e7, hf⟩ := x_b hf
      obtain ⟨n8, hT9, hi10⟩ := x_ix_e e7
      refine x_iast hx hb hK hH hS hT9 0 rfl hi10 d_Trials_findDriest_29 (fun H locs hH hS => ?_)
      obtain ⟨w11, e12, hf⟩ := x_b hf
      have hH := x_nw e12 hH
      refine lv_iinc (v := (l5 + 1)) (lv' := [(5, .int (l5 + 1)), (0, .ref (ad l0)), (1, .ref (ad l1)), (2, .ref (ad l2)), (3, .int l3), (4, .int l4)]) hx hb d_Trials_findDriest_30 hl (k := 5) rfl rfl (by decide) rfl (fun ls hl => ?_)
      refine lv_goto (tgt := 14) hx hb d_Trials_findDriest_33 (by decide) ?_
      exact ih w11 _ _ _ l0 l1 l2 l3 l4 (l5 + 1) hf hH hS (lv_sub hl [1, 2, 3, 4, 5, 0] rfl)
set_option maxHeartbeats 4000000 in
set_option maxRecDepth 100000 in
theorem k_Trials_findDriest {p : Program} {l : Launch} {e : Env} {s : State} {m : MethodId} {args : Array Value} {below : List Frame} {meth : Method} {c : Code} {D : va_G} {aC : Nat → ClassId} {ad : Nat → Nat} {T : x_T} {nx : Nat} {A : Nat → Prop} {q : x_W} (C0 : x_At p s m meth c args "WallDamp$Trials" b_Trials_findDriest none 11 D aC A) : ∀ (w : x_W) (H : Heap) (locs : List Loc) (ls : Array Slot) (l0 : Nat) (l1 : Nat) (l2 : Nat) (l3 : Int32), f_Trials_findDriest T w l0 l1 l2 l3 = some q → x_H D x_cl x_FT aC ad T nx A w H → va_S A s.heap H locs → lv_has ls 11 [(0, .ref (ad l0)), (1, .ref (ad l1)), (2, .ref (ad l2)), (3, .int l3)] → W p l e { frames := 5, cells := 0, slots := 0, locals := 121 } s m args below meth c H locs 0 0 (MQ below (x_Qc D aC ad T nx none q A) args s 0 0 A) (F0 m 0 ls []) := by
  obtain ⟨hx, hb, hr, hml, hown, hts, hlocks, hK, hA, hX⟩ := id C0
  intro w H locs ls l0 l1 l2 l3 hf hH hS hl
  unfold f_Trials_findDriest at hf
  refine lv_iconst (v := 5) hx hb d_Trials_findDriest_0 (by decide) ?_
  refine lv_aload_n hx hb d_Trials_findDriest_1 rfl (lv_at hl 1 rfl) ?_
  obtain ⟨_, e1, hf⟩ := x_b hf
  obtain ⟨n2, hT3⟩ := x_is_e e1
  obtain ⟨a4, e5, hf⟩ := x_b hf
  refine x_get (C := "WallDamp$Wall") (F := F_Wall) (N := 9) hx hb hts i_Wall hown hK hH hT3 (by decide) rfl 0 (by decide) (hts _ m_297) (fun _ h9 => h9) (kd := (2, 55)) rfl (x_fr e5) d_Trials_findDriest_2 ?_
  obtain ⟨n6, e7, hf⟩ := x_b hf
  refine x_alen hx hb hK hH (x_len_e e7) (by decide) 4 rfl d_Trials_findDriest_5 ?_
  obtain ⟨q8, e9, hf⟩ := x_b hf
  refine x_callP (st1 := [.int q8]) (x_runS (As := [.int (5 : Int32), .int (nI n6)]) (rest := []) ⟨hx, hb, hml, hown, hts⟩ (c_Math_min l D aC ad T nx H.size w (5 : Int32) (nI n6) q8 e9) (va_cwS 2 hts (x_gS m_763 m_28 m_2 m_29) rfl rfl rfl pd_Math_min ⟨Nat.le_of_ble_eq_true rfl, Nat.le_of_ble_eq_true rfl⟩) hH hK hX rfl hl.1 rfl (lv_room (Nat.le_of_ble_eq_true rfl)) d_Trials_findDriest_6 ⟨Nat.zero_le _, Nat.zero_le _⟩) rfl ?_
  refine lv_istore (lv' := [(4, .int q8), (0, .ref (ad l0)), (1, .ref (ad l1)), (2, .ref (ad l2)), (3, .int l3)]) hx hb d_Trials_findDriest_9 hl (by decide) rfl (fun ls hl => ?_)
  refine lv_iconst (v := 0) hx hb d_Trials_findDriest_11 (by decide) ?_
  refine lv_istore (lv' := [(5, .int (0 : Int32)), (4, .int q8), (0, .ref (ad l0)), (1, .ref (ad l1)), (2, .ref (ad l2)), (3, .int l3)]) hx hb d_Trials_findDriest_12 hl (by decide) rfl (fun ls hl => ?_)
  exact k_Trials_findDriest_14 C0 1000 w _ _ _ l0 l1 l2 l3 q8 (0 : Int32) hf hH hS (lv_sub hl [2, 3, 4, 5, 1, 0] rfl)
theorem c_Trials_findDriest (l : Launch) (D : va_G) (aC : Nat → ClassId) (ad : Nat → Nat) (T : x_T) (nx sz : Nat) (w : x_W) (a0 : Nat) (a1 : Nat) (a2 : Nat) (a3 : Int32) (q : x_W) (hf : f_Trials_findDriest T w a0 a1 a2 a3 = some q) : Met l y_Trials_findDriest ws_Trials_findDriest { frames := 5, cells := 0, slots := 0, locals := 121 } (x_Pc D aC ad T nx sz w [.ref (ad a0), .ref (ad a1), .ref (ad a2), .int a3]) (x_Qc D aC ad T nx none q (x_dom ad nx sz)) 0 0 (x_dom ad nx sz) :=
  x_met [(0, .ref (ad a0)), (1, .ref (ad a1)), (2, .ref (ad a2)), (3, .int a3)] (plainFor_of_name (by decide)) rfl rfl (Nat.le_of_ble_eq_true rfl) (fun p e s m args below meth c ls C0 hH hS hl => k_Trials_findDriest C0 w _ _ _ a0 a1 a2 a3 hf hH hS (lv_sub hl [0, 1, 2, 3] rfl))
/-! WallDamp.mould()I -/
def f_WD_mould (T : x_T) (w : x_W) (l0 : Nat) : Option (Int32) :=
  (x_is T l0 0).bind fun _ =>
  some (x_I w 13 l0)
set_option maxHeartbeats 4000000 in
set_option maxRecDepth 100000 in
theorem k_WD_mould {p : Program} {l : Launch} {e : Env} {s : State} {m : MethodId} {args : Array Value} {below : List Frame} {meth : Method} {c : Code} {D : va_G} {aC : Nat → ClassId} {ad : Nat → Nat} {T : x_T} {nx : Nat} {A : Nat → Prop} {q : Int32} (C0 : x_At p s m meth c args "WallDamp" b_WD_mould (some (.int)) 1 D aC A) : ∀ (w : x_W) (ls : Array Slot) (l0 : Nat), f_WD_mould T w l0 = some q → x_H D x_cl x_FT aC ad T nx A w s.heap → lv_has ls 1 [(0, .ref (ad l0))] → W p l e { frames := 0, cells := 0, slots := 0, locals := 0 } s m args below meth c s.heap [] 0 0 (MQ below (x_Qp (some (.int q))) args s 0 0 (fun _ => False)) (F0 m 0 ls []) := by
  obtain ⟨hx, hb, hr, hml, hown, hts, hlocks, hK, hA, hX⟩ := id C0
  intro w ls l0 hf hH hl
  unfold f_WD_mould at hf
  refine lv_aload_n hx hb d_WD_mould_0 rfl (lv_at hl 0 rfl) ?_
  obtain ⟨_, e1, hf⟩ := x_b hf
  obtain ⟨n2, hT3⟩ := x_is_e e1
  refine x_get (C := "WallDamp") (F := F_WD) (N := 8) hx hb hts i_WD hown hK hH hT3 (by decide) rfl 6 (by decide) (hts _ m_351) (fun _ h9 => h9) (kd := (0, 13)) rfl rfl d_WD_mould_1 ?_
  cases hf
  exact W.iret hx hb hr (fun t ht hW => ⟨rfl, ht⟩) (fun _ h => by cases h) d_WD_mould_4
theorem c_WD_mould (l : Launch) (D : va_G) (aC : Nat → ClassId) (ad : Nat → Nat) (T : x_T) (nx sz : Nat) (w : x_W) (a0 : Nat) (q : Int32) (hf : f_WD_mould T w a0 = some q) : Met l y_WD_mould ws_WD_mould { frames := 0, cells := 0, slots := 0, locals := 0 } (x_Pc D aC ad T nx sz w [.ref (ad a0)]) (x_Qp (some (.int q))) 0 0 (fun _ => False) :=
  x_metP [(0, .ref (ad a0))] (plainFor_of_name (by decide)) rfl rfl (Nat.le_of_ble_eq_true rfl) (fun p e s m args below meth c ls C0 hH hl => k_WD_mould C0 w _ a0 hf hH (lv_sub hl [0] rfl))
/-! WallDamp.growMould()V -/
def f_WD_growMould_61 (T : x_T) (w : x_W) : Option (x_W) :=
  some w
def f_WD_growMould (T : x_T) (w : x_W) (l0 : Nat) : Option (x_W) :=
  (x_is T l0 0).bind fun _ =>
  (x_R w 10 l0).bind fun a4 =>
  (x_is T a4 9).bind fun _ =>
  (f_Wall_lastCell T w a4).bind fun q6 =>
  (x_R w 9 l0).bind fun a11 =>
  (x_is T q6 2).bind fun _ =>
  (f_Cell_dampOfHeld T w q6).bind fun q13 =>
  (x_is T a11 6).bind fun _ =>
  (f_MouldRows_firstThatFits T w a11 q13 (x_I w 0 q6)).bind fun q18 =>
  if q18 = (-1) then
    ((f_Math_max T w (0 : Int32) ((x_I w 13 l0) - (1 : Int32))).bind fun q28 =>
    (some (x_sI w 13 l0 q28)).bind fun w30 =>
    f_WD_growMould_61 T w30)
  else
    ((f_Math_min T w (1000000 : Int32) ((x_I w 13 l0) + q18)).bind fun q24 =>
    (some (x_sI w 13 l0 q24)).bind fun w26 =>
    f_WD_growMould_61 T w26)
set_option maxHeartbeats 4000000 in
set_option maxRecDepth 100000 in
theorem k_WD_growMould_61 {p : Program} {l : Launch} {e : Env} {s : State} {m : MethodId} {args : Array Value} {below : List Frame} {meth : Method} {c : Code} {D : va_G} {aC : Nat → ClassId} {ad : Nat → Nat} {T : x_T} {nx : Nat} {A : Nat → Prop} {q : x_W} (C0 : x_At p s m meth c args "WallDamp" b_WD_growMould none 3 D aC A) : ∀ (w : x_W) (H : Heap) (locs : List Loc) (ls : Array Slot), f_WD_growMould_61 T w = some q → x_H D x_cl x_FT aC ad T nx A w H → va_S A s.heap H locs → lv_has ls 3 [] → W p l e { frames := 2, cells := 0, slots := 0, locals := 45 } s m args below meth c H locs 0 0 (MQ below (x_Qc D aC ad T nx none q A) args s 0 0 A) (F0 m 61 ls []) := by
  obtain ⟨hx, hb, hr, hml, hown, hts, hlocks, hK, hA, hX⟩ := id C0
  intro w H locs ls hf hH hS hl
  unfold f_WD_growMould_61 at hf
  cases hf
  refine x_sz0 hS (fun hz => ?_)
  exact W.vret hx hb hr (fun t ht hW => ⟨rfl, hS.F ht, by rw [ht]; exact hz, by rw [ht]; exact hH.weaken (fun _ _ _ => trivial)⟩) hS.2.2 d_WD_growMould_61
set_option maxHeartbeats 4000000 in
set_option maxRecDepth 100000 in
theorem k_WD_growMould {p : Program} {l : Launch} {e : Env} {s : State} {m : MethodId} {args : Array Value} {below : List Frame} {meth : Method} {c : Code} {D : va_G} {aC : Nat → ClassId} {ad : Nat → Nat} {T : x_T} {nx : Nat} {A : Nat → Prop} {q : x_W} (C0 : x_At p s m meth c args "WallDamp" b_WD_growMould none 3 D aC A) : ∀ (w : x_W) (H : Heap) (locs : List Loc) (ls : Array Slot) (l0 : Nat), f_WD_growMould T w l0 = some q → x_H D x_cl x_FT aC ad T nx A w H → va_S A s.heap H locs → lv_has ls 3 [(0, .ref (ad l0))] → W p l e { frames := 2, cells := 0, slots := 0, locals := 45 } s m args below meth c H locs 0 0 (MQ below (x_Qc D aC ad T nx none q A) args s 0 0 A) (F0 m 0 ls []) := by
  obtain ⟨hx, hb, hr, hml, hown, hts, hlocks, hK, hA, hX⟩ := id C0
  intro w H locs ls l0 hf hH hS hl
  unfold f_WD_growMould at hf
  refine lv_aload_n hx hb d_WD_growMould_0 rfl (lv_at hl 0 rfl) ?_
  obtain ⟨_, e1, hf⟩ := x_b hf
  obtain ⟨n2, hT3⟩ := x_is_e e1
  obtain ⟨a4, e5, hf⟩ := x_b hf
  refine x_get (C := "WallDamp") (F := F_WD) (N := 8) hx hb hts i_WD hown hK hH hT3 (by decide) rfl 3 (by decide) (hts _ m_348) (fun _ h9 => h9) (kd := (2, 10)) rfl (x_fr e5) d_WD_growMould_1 ?_
  obtain ⟨_, e8, hf⟩ := x_b hf
  obtain ⟨n9, hT10⟩ := x_is_e e8
  obtain ⟨q6, e7, hf⟩ := x_b hf
  refine x_callP (st1 := [.ref (ad q6)]) (x_runV (As := []) (rest := []) ⟨hx, hb, hml, hown, hts⟩ (c_Wall_lastCell l D aC ad T nx H.size w a4 q6 e7) (cwV 0 hts (x_gV m_727 m_656 m_657 m_7 m_658) rfl rfl rfl ⟨rfl, pd_Wall_lastCell⟩ ⟨Nat.le_of_ble_eq_true rfl, Nat.le_of_ble_eq_true rfl⟩) hH hK hX hT10 (by decide) rfl rfl rfl hl.1 rfl (lv_room (Nat.le_of_ble_eq_true rfl)) d_WD_growMould_4 ⟨Nat.zero_le _, Nat.zero_le _⟩) rfl ?_
  refine lv_astore_n (lv' := [(1, .ref (ad q6)), (0, .ref (ad l0))]) hx hb d_WD_growMould_7 rfl hl (by decide) rfl (fun ls hl => ?_)
  refine lv_aload_n hx hb d_WD_growMould_8 rfl (lv_at hl 1 rfl) ?_
  obtain ⟨a11, e12, hf⟩ := x_b hf
  refine x_get (C := "WallDamp") (F := F_WD) (N := 8) hx hb hts i_WD hown hK hH hT3 (by decide) rfl 2 (by decide) (hts _ m_347) (fun _ h9 => h9) (kd := (2, 9)) rfl (x_fr e12) d_WD_growMould_9 ?_
  refine lv_aload_n hx hb d_WD_growMould_12 rfl (lv_at hl 0 rfl) ?_
  obtain ⟨_, e15, hf⟩ := x_b hf
  obtain ⟨n16, hT17⟩ := x_is_e e15
  obtain ⟨q13, e14, hf⟩ := x_b hf
  refine x_callP (st1 := [.int q13, .ref (ad a11)]) (x_runV (As := []) (rest := [.ref (ad a11)]) ⟨hx, hb, hml, hown, hts⟩ (c_Cell_dampOfHeld l D aC ad T nx H.size w q6 q13 e14) (cwV 0 hts (x_gV m_728 m_642 m_643 m_10 m_644) rfl rfl rfl ⟨rfl, pd_Cell_dampOfHeld⟩ ⟨Nat.le_of_ble_eq_true rfl, Nat.le_of_ble_eq_true rfl⟩) hH hK hX hT17 (by decide) rfl rfl rfl hl.1 rfl (lv_room (Nat.le_of_ble_eq_true rfl)) d_WD_growMould_13 ⟨Nat.zero_le _, Nat.zero_le _⟩) rfl ?_
  refine lv_aload_n hx hb d_WD_growMould_16 rfl (lv_at hl 0 rfl) ?_
  refine x_get (C := "WallDamp$Cell") (F := F_Cell) (N := 15) hx hb hts i_Cell hown hK hH hT17 (by decide) rfl 0 (by decide) (hts _ m_188) (u_same (hts _ m_186)) (kd := (0, 0)) rfl rfl d_WD_growMould_17 ?_
  obtain ⟨_, e20, hf⟩ := x_b hf
  obtain ⟨n21, hT22⟩ := x_is_e e20
  obtain ⟨q18, e19, hf⟩ := x_b hf
  refine x_callP (st1 := [.int q18]) (x_runV (As := [.int q13, .int (x_I w 0 q6)]) (rest := []) ⟨hx, hb, hml, hown, hts⟩ (c_MouldRows_firstThatFits l D aC ad T nx H.size w a11 q13 (x_I w 0 q6) q18 e19) (cwV 2 hts (x_gV m_729 m_730 m_731 m_6 m_732) rfl rfl rfl ⟨rfl, pd_MouldRows_firstThatFits⟩ ⟨Nat.le_of_ble_eq_true rfl, Nat.le_of_ble_eq_true rfl⟩) hH hK hX hT22 (by decide) rfl rfl rfl hl.1 rfl (lv_room (Nat.le_of_ble_eq_true rfl)) d_WD_growMould_20 ⟨Nat.zero_le _, Nat.zero_le _⟩) rfl ?_
  refine lv_istore_n (lv' := [(2, .int q18), (1, .ref (ad q6)), (0, .ref (ad l0))]) hx hb d_WD_growMould_23 rfl hl (by decide) rfl (fun ls hl => ?_)
  refine lv_iload_n hx hb d_WD_growMould_24 rfl (lv_at hl 0 rfl) ?_
  refine lv_iconst (v := (-1)) hx hb d_WD_growMould_25 (by decide) ?_
  refine lv_icmp_ne (tgt := 46) hx hb d_WD_growMould_26 (by decide) (fun c23 => ?_) (fun c23 => ?_)
  · have hf := x_if hf c23
    refine lv_aload_n hx hb d_WD_growMould_46 rfl (lv_at hl 2 rfl) ?_
    refine lv_ldc (v := (1000000 : Int32)) hx hb hown (hts _ m_460) d_WD_growMould_47 ?_
    refine lv_aload_n hx hb d_WD_growMould_49 rfl (lv_at hl 2 rfl) ?_
    refine x_get (C := "WallDamp") (F := F_WD) (N := 8) hx hb hts i_WD hown hK hH hT3 (by decide) rfl 6 (by decide) (hts _ m_351) (fun _ h9 => h9) (kd := (0, 13)) rfl rfl d_WD_growMould_50 ?_
    refine lv_iload_n hx hb d_WD_growMould_53 rfl (lv_at hl 0 rfl) ?_
    refine lv_iadd hx hb d_WD_growMould_54 ?_
    obtain ⟨q24, e25, hf⟩ := x_b hf
    refine x_callP (st1 := [.int q24, .ref (ad l0)]) (x_runS (As := [.int (1000000 : Int32), .int ((x_I w 13 l0) + q18)]) (rest := [.ref (ad l0)]) ⟨hx, hb, hml, hown, hts⟩ (c_Math_min l D aC ad T nx H.size w (1000000 : Int32) ((x_I w 13 l0) + q18) q24 e25) (va_cwS 2 hts (x_gS m_27 m_28 m_2 m_29) rfl rfl rfl pd_Math_min ⟨Nat.le_of_ble_eq_true rfl, Nat.le_of_ble_eq_true rfl⟩) hH hK hX rfl hl.1 rfl (lv_room (Nat.le_of_ble_eq_true rfl)) d_WD_growMould_55 ⟨Nat.zero_le _, Nat.zero_le _⟩) rfl ?_
    refine x_put (C := "WallDamp") (F := F_WD) (N := 8) (ty := t_WD 6) (v := .int q24) (w' := x_sI w 13 l0 q24) hx hb hts i_WD t_WD ty_WD n_WD hown hK hH hS hT3 (by decide) rfl rfl 6 (by decide) (hts _ m_351) (fun _ h9 => h9) rfl (ty_WD 6 (by decide)) rfl rfl (x_on_I hT3 (by decide) rfl nd_WD) (fun j hj => x_off_I hj) (fun hh ok => x_ok_I hh ok) d_WD_growMould_58 (fun H locs hH hS => ?_)
    obtain ⟨w26, e27, hf⟩ := x_b hf
    have hH := x_nw e27 hH
    exact k_WD_growMould_61 C0 w26 _ _ _ hf hH hS (lv_sub hl [] rfl)
  · have hf := x_it hf c23
    refine lv_aload_n hx hb d_WD_growMould_29 rfl (lv_at hl 2 rfl) ?_
    refine lv_iconst (v := 0) hx hb d_WD_growMould_30 (by decide) ?_
    refine lv_aload_n hx hb d_WD_growMould_31 rfl (lv_at hl 2 rfl) ?_
    refine x_get (C := "WallDamp") (F := F_WD) (N := 8) hx hb hts i_WD hown hK hH hT3 (by decide) rfl 6 (by decide) (hts _ m_351) (fun _ h9 => h9) (kd := (0, 13)) rfl rfl d_WD_growMould_32 ?_
    refine lv_iconst (v := 1) hx hb d_WD_growMould_35 (by decide) ?_
    refine lv_isub hx hb d_WD_growMould_36 ?_
    obtain ⟨q28, e29, hf⟩ := x_b hf
    refine x_callP (st1 := [.int q28, .ref (ad l0)]) (x_runS (As := [.int (0 : Int32), .int ((x_I w 13 l0) - (1 : Int32))]) (rest := [.ref (ad l0)]) ⟨hx, hb, hml, hown, hts⟩ (c_Math_max l D aC ad T nx H.size w (0 : Int32) ((x_I w 13 l0) - (1 : Int32)) q28 e29) (va_cwS 2 hts (x_gS m_30 m_31 m_2 m_32) rfl rfl rfl pd_Math_max ⟨Nat.le_of_ble_eq_true rfl, Nat.le_of_ble_eq_true rfl⟩) hH hK hX rfl hl.1 rfl (lv_room (Nat.le_of_ble_eq_true rfl)) d_WD_growMould_37 ⟨Nat.zero_le _, Nat.zero_le _⟩) rfl ?_
    refine x_put (C := "WallDamp") (F := F_WD) (N := 8) (ty := t_WD 6) (v := .int q28) (w' := x_sI w 13 l0 q28) hx hb hts i_WD t_WD ty_WD n_WD hown hK hH hS hT3 (by decide) rfl rfl 6 (by decide) (hts _ m_351) (fun _ h9 => h9) rfl (ty_WD 6 (by decide)) rfl rfl (x_on_I hT3 (by decide) rfl nd_WD) (fun j hj => x_off_I hj) (fun hh ok => x_ok_I hh ok) d_WD_growMould_40 (fun H locs hH hS => ?_)
    obtain ⟨w30, e31, hf⟩ := x_b hf
    have hH := x_nw e31 hH
    refine lv_goto (tgt := 61) hx hb d_WD_growMould_43 (by decide) ?_
    exact k_WD_growMould_61 C0 w30 _ _ _ hf hH hS (lv_sub hl [] rfl)
theorem c_WD_growMould (l : Launch) (D : va_G) (aC : Nat → ClassId) (ad : Nat → Nat) (T : x_T) (nx sz : Nat) (w : x_W) (a0 : Nat) (q : x_W) (hf : f_WD_growMould T w a0 = some q) : Met l y_WD_growMould ws_WD_growMould { frames := 2, cells := 0, slots := 0, locals := 45 } (x_Pc D aC ad T nx sz w [.ref (ad a0)]) (x_Qc D aC ad T nx none q (x_dom ad nx sz)) 0 0 (x_dom ad nx sz) :=
  x_met [(0, .ref (ad a0))] (plainFor_of_name (by decide)) rfl rfl (Nat.le_of_ble_eq_true rfl) (fun p e s m args below meth c ls C0 hH hS hl => k_WD_growMould C0 w _ _ _ a0 hf hH hS (lv_sub hl [0] rfl))
/-! WallDamp.passHour()V -/
def f_WD_passHour (T : x_T) (w : x_W) (l0 : Nat) : Option (x_W) :=
  (x_is T l0 0).bind fun _ =>
  (x_R w 10 l0).bind fun a4 =>
  (x_R w 8 l0).bind fun a6 =>
  (x_is T a4 9).bind fun _ =>
  (f_Wall_moveWater T w a4 a6 (x_I w 12 l0)).bind fun q8 =>
  (x_R q8 10 l0).bind fun a13 =>
  (x_is T a13 9).bind fun _ =>
  (f_Wall_tellFrost T q8 a13).bind fun q15 =>
  (f_WD_growMould T q15 l0).bind fun q20 =>
  (some (x_sI q20 12 l0 ((x_I q20 12 l0) + (1 : Int32)))).bind fun w22 =>
  some w22
set_option maxHeartbeats 4000000 in
set_option maxRecDepth 100000 in
theorem k_WD_passHour {p : Program} {l : Launch} {e : Env} {s : State} {m : MethodId} {args : Array Value} {below : List Frame} {meth : Method} {c : Code} {D : va_G} {aC : Nat → ClassId} {ad : Nat → Nat} {T : x_T} {nx : Nat} {A : Nat → Prop} {q : x_W} (C0 : x_At p s m meth c args "WallDamp" b_WD_passHour none 1 D aC A) : ∀ (w : x_W) (H : Heap) (locs : List Loc) (ls : Array Slot) (l0 : Nat), f_WD_passHour T w l0 = some q → x_H D x_cl x_FT aC ad T nx A w H → va_S A s.heap H locs → lv_has ls 1 [(0, .ref (ad l0))] → W p l e { frames := 4, cells := 0, slots := 0, locals := 96 } s m args below meth c H locs 0 0 (MQ below (x_Qc D aC ad T nx none q A) args s 0 0 A) (F0 m 0 ls []) := by
  obtain ⟨hx, hb, hr, hml, hown, hts, hlocks, hK, hA, hX⟩ := id C0
  intro w H locs ls l0 hf hH hS hl
  unfold f_WD_passHour at hf
  refine lv_aload_n hx hb d_WD_passHour_0 rfl (lv_at hl 0 rfl) ?_
  obtain ⟨_, e1, hf⟩ := x_b hf
  obtain ⟨n2, hT3⟩ := x_is_e e1
  obtain ⟨a4, e5, hf⟩ := x_b hf
  refine x_get (C := "WallDamp") (F := F_WD) (N := 8) hx hb hts i_WD hown hK hH hT3 (by decide) rfl 3 (by decide) (hts _ m_348) (fun _ h9 => h9) (kd := (2, 10)) rfl (x_fr e5) d_WD_passHour_1 ?_
  refine lv_aload_n hx hb d_WD_passHour_4 rfl (lv_at hl 0 rfl) ?_
  obtain ⟨a6, e7, hf⟩ := x_b hf
  refine x_get (C := "WallDamp") (F := F_WD) (N := 8) hx hb hts i_WD hown hK hH hT3 (by decide) rfl 1 (by decide) (hts _ m_346) (fun _ h9 => h9) (kd := (2, 8)) rfl (x_fr e7) d_WD_passHour_5 ?_
  refine lv_aload_n hx hb d_WD_passHour_8 rfl (lv_at hl 0 rfl) ?_
  refine x_get (C := "WallDamp") (F := F_WD) (N := 8) hx hb hts i_WD hown hK hH hT3 (by decide) rfl 5 (by decide) (hts _ m_350) (fun _ h9 => h9) (kd := (0, 12)) rfl rfl d_WD_passHour_9 ?_
  obtain ⟨_, e10, hf⟩ := x_b hf
  obtain ⟨n11, hT12⟩ := x_is_e e10
  obtain ⟨q8, e9, hf⟩ := x_b hf
  refine x_call (st1 := []) (x_runV (As := [.ref (ad a6), .int (x_I w 12 l0)]) (rest := []) ⟨hx, hb, hml, hown, hts⟩ (c_Wall_moveWater l D aC ad T nx H.size w a4 a6 (x_I w 12 l0) q8 e9) (cwV 2 hts (x_gV m_601 m_602 m_603 m_7 m_604) rfl rfl rfl ⟨rfl, pd_Wall_moveWater⟩ ⟨Nat.le_of_ble_eq_true rfl, Nat.le_of_ble_eq_true rfl⟩) hH hK hX hT12 (by decide) rfl rfl rfl hl.1 rfl (lv_room (Nat.le_of_ble_eq_true rfl)) d_WD_passHour_12 ⟨Nat.zero_le _, Nat.zero_le _⟩) rfl hH hA hS (fun H locs hH hS => ?_)
  refine lv_aload_n hx hb d_WD_passHour_15 rfl (lv_at hl 0 rfl) ?_
  obtain ⟨a13, e14, hf⟩ := x_b hf
  refine x_get (C := "WallDamp") (F := F_WD) (N := 8) hx hb hts i_WD hown hK hH hT3 (by decide) rfl 3 (by decide) (hts _ m_348) (fun _ h9 => h9) (kd := (2, 10)) rfl (x_fr e14) d_WD_passHour_16 ?_
  obtain ⟨_, e17, hf⟩ := x_b hf
  obtain ⟨n18, hT19⟩ := x_is_e e17
  obtain ⟨q15, e16, hf⟩ := x_b hf
  refine x_call (st1 := []) (x_runV (As := []) (rest := []) ⟨hx, hb, hml, hown, hts⟩ (c_Wall_tellFrost l D aC ad T nx H.size q8 a13 q15 e16) (cwV 0 hts (x_gV m_714 m_715 m_716 m_7 m_717) rfl rfl rfl ⟨rfl, pd_Wall_tellFrost⟩ ⟨Nat.le_of_ble_eq_true rfl, Nat.le_of_ble_eq_true rfl⟩) hH hK hX hT19 (by decide) rfl rfl rfl hl.1 rfl (lv_room (Nat.le_of_ble_eq_true rfl)) d_WD_passHour_19 ⟨Nat.zero_le _, Nat.zero_le _⟩) rfl hH hA hS (fun H locs hH hS => ?_)
  refine lv_aload_n hx hb d_WD_passHour_22 rfl (lv_at hl 0 rfl) ?_
  obtain ⟨q20, e21, hf⟩ := x_b hf
  refine x_call (st1 := []) (x_runV (As := []) (rest := []) ⟨hx, hb, hml, hown, hts⟩ (c_WD_growMould l D aC ad T nx H.size q15 l0 q20 e21) (cwV 0 hts (x_gV m_723 m_725 ms_10 m_1 m_726) rfl rfl rfl ⟨rfl, pd_WD_growMould⟩ ⟨Nat.le_of_ble_eq_true rfl, Nat.le_of_ble_eq_true rfl⟩) hH hK hX hT3 (by decide) rfl rfl rfl hl.1 rfl (lv_room (Nat.le_of_ble_eq_true rfl)) d_WD_passHour_23 ⟨Nat.zero_le _, Nat.zero_le _⟩) rfl hH hA hS (fun H locs hH hS => ?_)
  refine lv_aload_n hx hb d_WD_passHour_26 rfl (lv_at hl 0 rfl) ?_
  refine lv_dup hx hb d_WD_passHour_27 rfl ?_
  refine x_get (C := "WallDamp") (F := F_WD) (N := 8) hx hb hts i_WD hown hK hH hT3 (by decide) rfl 5 (by decide) (hts _ m_350) (fun _ h9 => h9) (kd := (0, 12)) rfl rfl d_WD_passHour_28 ?_
  refine lv_iconst (v := 1) hx hb d_WD_passHour_31 (by decide) ?_
  refine lv_iadd hx hb d_WD_passHour_32 ?_
  refine x_put (C := "WallDamp") (F := F_WD) (N := 8) (ty := t_WD 5) (v := .int ((x_I q20 12 l0) + (1 : Int32))) (w' := x_sI q20 12 l0 ((x_I q20 12 l0) + (1 : Int32))) hx hb hts i_WD t_WD ty_WD n_WD hown hK hH hS hT3 (by decide) rfl rfl 5 (by decide) (hts _ m_350) (fun _ h9 => h9) rfl (ty_WD 5 (by decide)) rfl rfl (x_on_I hT3 (by decide) rfl nd_WD) (fun j hj => x_off_I hj) (fun hh ok => x_ok_I hh ok) d_WD_passHour_33 (fun H locs hH hS => ?_)
  obtain ⟨w22, e23, hf⟩ := x_b hf
  have hH := x_nw e23 hH
  cases hf
  refine x_sz0 hS (fun hz => ?_)
  exact W.vret hx hb hr (fun t ht hW => ⟨rfl, hS.F ht, by rw [ht]; exact hz, by rw [ht]; exact hH.weaken (fun _ _ _ => trivial)⟩) hS.2.2 d_WD_passHour_36
theorem c_WD_passHour (l : Launch) (D : va_G) (aC : Nat → ClassId) (ad : Nat → Nat) (T : x_T) (nx sz : Nat) (w : x_W) (a0 : Nat) (q : x_W) (hf : f_WD_passHour T w a0 = some q) : Met l y_WD_passHour ws_WD_passHour { frames := 4, cells := 0, slots := 0, locals := 96 } (x_Pc D aC ad T nx sz w [.ref (ad a0)]) (x_Qc D aC ad T nx none q (x_dom ad nx sz)) 0 0 (x_dom ad nx sz) :=
  x_met [(0, .ref (ad a0))] (plainFor_of_name (by decide)) rfl rfl (Nat.le_of_ble_eq_true rfl) (fun p e s m args below meth c ls C0 hH hS hl => k_WD_passHour C0 w _ _ _ a0 hf hH hS (lv_sub hl [0] rfl))
