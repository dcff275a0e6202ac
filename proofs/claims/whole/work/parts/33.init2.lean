/-! WallDamp$Wall.<init>(ILWallDamp$Material;)V -/
def f_Wall_init_303 (M : Nat) : Nat → x_T → Nat → x_W → Nat → Int32 → Int32 → Option (x_T × Nat × x_W)
  | 0, _, _, _, _, _, _ => none
  | n + 1, T, nx, w, l0, l3, l4 =>
    if (l3 - (1 : Int32)) ≤ l4 then
      (some (T, nx, w))
    else
      ((x_is T l0 9).bind fun _ =>
      (x_R w 63 l0).bind fun a5 =>
      (x_R w 62 l0).bind fun a7 =>
      (x_ix T a7 105 l4).bind fun _ =>
      (x_Q w a7 l4.toNatClampNeg).bind fun a13 =>
      (x_is T a13 4).bind fun _ =>
      (x_ix T a5 105 (((3 : Int32) + l3) + l4)).bind fun _ =>
      (some (x_sQ w a5 (((3 : Int32) + l3) + l4).toNatClampNeg (some a13))).bind fun w22 =>
      f_Wall_init_303 M n T nx w22 l0 l3 (l4 + 1))
def f_Wall_init_272 (M : Nat) : Nat → x_T → Nat → x_W → Nat → Int32 → Int32 → Option (x_T × Nat × x_W)
  | 0, _, _, _, _, _, _ => none
  | n + 1, T, nx, w, l0, l3, l4 =>
    if l3 ≤ l4 then
      (f_Wall_init_303 M 1000 T nx w l0 l3 (0 : Int32))
    else
      ((x_is T l0 9).bind fun _ =>
      (x_R w 63 l0).bind fun a5 =>
      (x_R w 61 l0).bind fun a7 =>
      (x_ix T a7 105 l4).bind fun _ =>
      (x_Q w a7 l4.toNatClampNeg).bind fun a13 =>
      (x_is T a13 4).bind fun _ =>
      (x_ix T a5 105 ((3 : Int32) + l4)).bind fun _ =>
      (some (x_sQ w a5 ((3 : Int32) + l4).toNatClampNeg (some a13))).bind fun w22 =>
      f_Wall_init_272 M n T nx w22 l0 l3 (l4 + 1))
def f_Wall_init_116 (M : Nat) : Nat → x_T → Nat → x_W → Nat → Int32 → Int32 → Option (x_T × Nat × x_W)
  | 0, _, _, _, _, _, _ => none
  | n + 1, T, nx, w, l0, l3, l4 =>
    if (l3 - (1 : Int32)) ≤ l4 then
      ((x_lt nx M).bind fun _ =>
      (some (x_uT T nx 4 0)).bind fun T4 =>
      (x_is T4 l0 9).bind fun _ =>
      (x_R w 56 l0).bind fun a8 =>
      (x_R w 55 l0).bind fun a10 =>
      (x_ix T4 a10 104 (0 : Int32)).bind fun _ =>
      (x_Q w a10 (0 : Int32).toNatClampNeg).bind fun a16 =>
      (f_Flow_init M T4 (nx + 1) w nx a8 a16).bind fun q18 =>
      (x_is q18.1 l0 9).bind fun _ =>
      (x_ex q18.1 nx).bind fun _ =>
      (some (x_sR q18.2.2 58 l0 (some nx))).bind fun w24 =>
      (x_lt q18.2.1 M).bind fun _ =>
      (some (x_uT q18.1 q18.2.1 4 0)).bind fun T28 =>
      (x_is T28 l0 9).bind fun _ =>
      (x_R w24 55 l0).bind fun a32 =>
      (x_ix T28 a32 104 (l3 - (1 : Int32))).bind fun _ =>
      (x_Q w24 a32 (l3 - (1 : Int32)).toNatClampNeg).bind fun a38 =>
      (x_R w24 57 l0).bind fun a40 =>
      (f_Flow_init M T28 (q18.2.1 + 1) w24 q18.2.1 a38 a40).bind fun q42 =>
      (x_is q42.1 l0 9).bind fun _ =>
      (x_ex q42.1 q18.2.1).bind fun _ =>
      (some (x_sR q42.2.2 59 l0 (some q18.2.1))).bind fun w48 =>
      (x_lt q42.2.1 M).bind fun _ =>
      (some (x_uT q42.1 q42.2.1 4 0)).bind fun T52 =>
      (x_is T52 l0 9).bind fun _ =>
      (x_R w48 56 l0).bind fun a56 =>
      (x_R w48 55 l0).bind fun a58 =>
      (x_ix T52 a58 104 (0 : Int32)).bind fun _ =>
      (x_Q w48 a58 (0 : Int32).toNatClampNeg).bind fun a64 =>
      (f_Flow_init M T52 (q42.2.1 + 1) w48 q42.2.1 a56 a64).bind fun q66 =>
      (x_is q66.1 l0 9).bind fun _ =>
      (x_ex q66.1 q42.2.1).bind fun _ =>
      (some (x_sR q66.2.2 60 l0 (some q42.2.1))).bind fun w72 =>
      (x_lt q66.2.1 M).bind fun _ =>
      (x_sz ((((3 : Int32) + l3) + l3) - (1 : Int32)) 40).bind fun n76 =>
      (some (x_uT q66.1 q66.2.1 105 n76)).bind fun T81 =>
      (x_is T81 l0 9).bind fun _ =>
      (x_ex T81 q66.2.1).bind fun _ =>
      (some (x_sR w72 63 l0 (some q66.2.1))).bind fun w86 =>
      (x_R w86 63 l0).bind fun a88 =>
      (x_R w86 58 l0).bind fun a90 =>
      (x_is T81 a90 4).bind fun _ =>
      (x_ix T81 a88 105 (0 : Int32)).bind fun _ =>
      (some (x_sQ w86 a88 (0 : Int32).toNatClampNeg (some a90))).bind fun w99 =>
      (x_R w99 63 l0).bind fun a101 =>
      (x_R w99 59 l0).bind fun a103 =>
      (x_is T81 a103 4).bind fun _ =>
      (x_ix T81 a101 105 (1 : Int32)).bind fun _ =>
      (some (x_sQ w99 a101 (1 : Int32).toNatClampNeg (some a103))).bind fun w112 =>
      (x_R w112 63 l0).bind fun a114 =>
      (x_R w112 60 l0).bind fun a116 =>
      (x_is T81 a116 4).bind fun _ =>
      (x_ix T81 a114 105 (2 : Int32)).bind fun _ =>
      (some (x_sQ w112 a114 (2 : Int32).toNatClampNeg (some a116))).bind fun w125 =>
      f_Wall_init_272 M 1000 T81 (q66.2.1 + 1) w125 l0 l3 (0 : Int32))
    else
      ((x_is T l0 9).bind fun _ =>
      (x_R w 62 l0).bind fun a130 =>
      (x_lt nx M).bind fun _ =>
      (some (x_uT T nx 4 0)).bind fun T134 =>
      (x_is T134 l0 9).bind fun _ =>
      (x_R w 55 l0).bind fun a138 =>
      (x_ix T134 a138 104 l4).bind fun _ =>
      (x_Q w a138 l4.toNatClampNeg).bind fun a144 =>
      (x_R w 55 l0).bind fun a146 =>
      (x_ix T134 a146 104 (l4 + (1 : Int32))).bind fun _ =>
      (x_Q w a146 (l4 + (1 : Int32)).toNatClampNeg).bind fun a152 =>
      (f_Flow_init M T134 (nx + 1) w nx a144 a152).bind fun q154 =>
      (x_is q154.1 nx 4).bind fun _ =>
      (x_ix q154.1 a130 105 l4).bind fun _ =>
      (some (x_sQ q154.2.2 a130 l4.toNatClampNeg (some nx))).bind fun w163 =>
      f_Wall_init_116 M n q154.1 q154.2.1 w163 l0 l3 (l4 + 1))
def f_Wall_init_51 (M : Nat) : Nat → x_T → Nat → x_W → Nat → Nat → Int32 → Int32 → Option (x_T × Nat × x_W)
  | 0, _, _, _, _, _, _, _ => none
  | n + 1, T, nx, w, l0, l2, l3, l4 =>
    if l3 ≤ l4 then
      ((x_lt nx M).bind fun _ =>
      (x_sz (l3 - (1 : Int32)) 40).bind fun n4 =>
      (some (x_uT T nx 105 n4)).bind fun T9 =>
      (x_is T9 l0 9).bind fun _ =>
      (x_ex T9 nx).bind fun _ =>
      (some (x_sR w 62 l0 (some nx))).bind fun w14 =>
      f_Wall_init_116 M 13 T9 (nx + 1) w14 l0 l3 (0 : Int32))
    else
      ((x_is T l0 9).bind fun _ =>
      (x_R w 55 l0).bind fun a19 =>
      (x_lt nx M).bind fun _ =>
      (some (x_uT T nx 2 0)).bind fun T23 =>
      (f_Cell_init M T23 (nx + 1) w nx l2).bind fun q24 =>
      (x_is q24.1 nx 2).bind fun _ =>
      (x_ix q24.1 a19 104 l4).bind fun _ =>
      (some (x_sQ q24.2.2 a19 l4.toNatClampNeg (some nx))).bind fun w33 =>
      (x_is q24.1 l0 9).bind fun _ =>
      (x_R w33 61 l0).bind fun a38 =>
      (x_lt q24.2.1 M).bind fun _ =>
      (some (x_uT q24.1 q24.2.1 4 0)).bind fun T42 =>
      (x_is T42 l0 9).bind fun _ =>
      (x_R w33 55 l0).bind fun a46 =>
      (x_ix T42 a46 104 l4).bind fun _ =>
      (x_Q w33 a46 l4.toNatClampNeg).bind fun a52 =>
      (x_R w33 57 l0).bind fun a54 =>
      (f_Flow_init M T42 (q24.2.1 + 1) w33 q24.2.1 a52 a54).bind fun q56 =>
      (x_is q56.1 q24.2.1 4).bind fun _ =>
      (x_ix q56.1 a38 105 l4).bind fun _ =>
      (some (x_sQ q56.2.2 a38 l4.toNatClampNeg (some q24.2.1))).bind fun w65 =>
      f_Wall_init_51 M n q56.1 q56.2.1 w65 l0 l2 l3 (l4 + 1))
def f_Wall_init (M : Nat) (T : x_T) (nx : Nat) (w : x_W) (l0 : Nat) (l1 : Int32) (l2 : Nat) : Option (x_T × Nat × x_W) :=
  (f_Math_max T w (1 : Int32) l1).bind fun q1 =>
  (x_lt nx M).bind fun _ =>
  (some (x_uT T nx 1 0)).bind fun T5 =>
  (f_Air_init M T5 (nx + 1) w nx).bind fun q6 =>
  (x_is q6.1 l0 9).bind fun _ =>
  (x_ex q6.1 nx).bind fun _ =>
  (some (x_sR q6.2.2 56 l0 (some nx))).bind fun w12 =>
  (x_lt q6.2.1 M).bind fun _ =>
  (some (x_uT q6.1 q6.2.1 1 0)).bind fun T16 =>
  (f_Air_init M T16 (q6.2.1 + 1) w12 q6.2.1).bind fun q17 =>
  (x_is q17.1 l0 9).bind fun _ =>
  (x_ex q17.1 q6.2.1).bind fun _ =>
  (some (x_sR q17.2.2 57 l0 (some q6.2.1))).bind fun w23 =>
  (x_lt q17.2.1 M).bind fun _ =>
  (x_sz q1 40).bind fun n27 =>
  (some (x_uT q17.1 q17.2.1 104 n27)).bind fun T32 =>
  (x_is T32 l0 9).bind fun _ =>
  (x_ex T32 q17.2.1).bind fun _ =>
  (some (x_sR w23 55 l0 (some q17.2.1))).bind fun w37 =>
  (x_lt (q17.2.1 + 1) M).bind fun _ =>
  (x_sz q1 40).bind fun n41 =>
  (some (x_uT T32 (q17.2.1 + 1) 105 n41)).bind fun T46 =>
  (x_is T46 l0 9).bind fun _ =>
  (x_ex T46 (q17.2.1 + 1)).bind fun _ =>
  (some (x_sR w37 61 l0 (some (q17.2.1 + 1)))).bind fun w51 =>
  f_Wall_init_51 M 13 T46 (q17.2.1 + 2) w51 l0 l2 q1 (0 : Int32)
set_option maxHeartbeats 4000000 in
set_option maxRecDepth 100000 in
theorem k_Wall_init_303 {p : Program} {l : Launch} {e : Env} {s : State} {m : MethodId} {args : Array Value} {below : List Frame} {meth : Method} {c : Code} {D : va_G} {aC : Nat → ClassId} {ad : Nat → Nat} {M : Nat} {A : Nat → Prop} {q : x_T × Nat × x_W} (C0 : x_At p s m meth c args "WallDamp$Wall" b_Wall_init none 5 D aC A) (hin : meth.name = "<init>") (hAo : x_Ao s) (hlin : x_Lin ad M) : ∀ (n : Nat), ∀ (T : x_T) (nx : Nat) (w : x_W) (H : Heap) (locs : List Loc) (ls : Array Slot) (l0 : Nat) (l3 : Int32) (l4 : Int32), f_Wall_init_303 M n T nx w l0 l3 l4 = some q → H.size = ad nx → x_H D x_cl x_FT aC ad T nx A w H → va_S A s.heap H locs → lv_has ls 5 [(0, .ref (ad l0)), (3, .int l3), (4, .int l4)] → W p l e { frames := 3, cells := 48, slots := 518, locals := 61 } s m args below meth c H locs 48 518 (MQ below (x_Qn D aC ad q A) args s 48 518 A) (F0 m 303 ls []) := by
  obtain ⟨hx, hb, hr, hml, hown, hts, hlocks, hK, hA, hX⟩ := id C0
  intro n
  induction n with
  | zero => intro T nx w H locs ls l0 l3 l4 hf; cases (show none = some q from hf)
  | succ n ih =>
    intro T nx w H locs ls l0 l3 l4 hf hz hH hS hl
    unfold f_Wall_init_303 at hf
    refine lv_iload hx hb d_Wall_init_303 (lv_at hl 2 rfl) ?_
    refine lv_iload_n hx hb d_Wall_init_305 rfl (lv_at hl 1 rfl) ?_
    refine lv_iconst (v := 1) hx hb d_Wall_init_306 (by decide) ?_
    refine lv_isub hx hb d_Wall_init_307 ?_
    refine x_pc 308 rfl ?_
    refine lv_icmp_ge (tgt := 335) hx hb d_Wall_init_308 (by decide) (fun c1 => ?_) (fun c1 => ?_)
    · have hf := x_it hf c1
      cases hf
      refine W.widen (k := 48) (n := 518) (by omega) (by omega) ?_
      exact W.vret hx hb hr (fun t ht hW => ⟨rfl, hS.F ht, by rw [ht]; exact hz, by rw [ht]; exact hH⟩) hS.2.2 d_Wall_init_335
    · have hf := x_if hf c1
      refine lv_aload_n hx hb d_Wall_init_311 rfl (lv_at hl 0 rfl) ?_
      obtain ⟨_, e2, hf⟩ := x_b hf
      obtain ⟨n3, hT4⟩ := x_is_e e2
      obtain ⟨a5, e6, hf⟩ := x_b hf
      refine x_get (C := "WallDamp$Wall") (F := F_Wall) (N := 9) hx hb hts i_Wall hown hK hH hT4 (by decide) rfl 8 (by decide) (hts _ m_308) (fun _ h9 => h9) (kd := (2, 63)) rfl (x_fr e6) d_Wall_init_312 ?_
      refine x_pc 315 rfl ?_
      refine x_cs 48 518 rfl rfl ?_
      refine lv_iconst (v := 3) hx hb d_Wall_init_315 (by decide) ?_
      refine lv_iload_n hx hb d_Wall_init_316 rfl (lv_at hl 1 rfl) ?_
      refine lv_iadd hx hb d_Wall_init_317 ?_
      refine lv_iload hx hb d_Wall_init_318 (lv_at hl 2 rfl) ?_
      refine lv_iadd hx hb d_Wall_init_320 ?_
      refine lv_aload_n hx hb d_Wall_init_321 rfl (lv_at hl 0 rfl) ?_
      obtain ⟨a7, e8, hf⟩ := x_b hf
      refine x_get (C := "WallDamp$Wall") (F := F_Wall) (N := 9) hx hb hts i_Wall hown hK hH hT4 (by decide) rfl 7 (by decide) (hts _ m_307) (fun _ h9 => h9) (kd := (2, 62)) rfl (x_fr e8) d_Wall_init_322 ?_
      refine lv_iload hx hb d_Wall_init_325 (lv_at hl 2 rfl) ?_
      refine x_pc 327 rfl ?_
      refine x_cs 48 518 rfl rfl ?_
      obtain ⟨_, e9, hf⟩ := x_b hf
      obtain ⟨n10, hT11, hi12⟩ := x_ix_e e9
      obtain ⟨a13, e14, hf⟩ := x_b hf
      refine x_aald hx hb hK hH hT11 (by decide) 5 rfl hi12 (x_qr e14) d_Wall_init_327 ?_
      obtain ⟨_, e15, hf⟩ := x_b hf
      obtain ⟨n16, hT17⟩ := x_is_e e15
      obtain ⟨_, e18, hf⟩ := x_b hf
      obtain ⟨n19, hT20, hi21⟩ := x_ix_e e18
      refine x_aastZ (r := ("WallDamp$Flow", F_Flow, 5)) hx hb hK hH hS hT20 (by decide) 5 rfl hT17 (by decide) rfl hi21 d_Wall_init_328 (fun H locs hz1 hH hS => ?_)
      have hz := hz1.trans hz
      obtain ⟨w22, e23, hf⟩ := x_b hf
      have hH := x_nw e23 hH
      refine lv_iinc (v := (l4 + 1)) (lv' := [(4, .int (l4 + 1)), (0, .ref (ad l0)), (3, .int l3)]) hx hb d_Wall_init_329 hl (k := 2) rfl rfl (by decide) rfl (fun ls hl => ?_)
      refine x_pc 332 rfl ?_
      refine lv_goto (tgt := 303) hx hb d_Wall_init_332 (by decide) ?_
      exact ih T nx w22 _ _ _ l0 l3 (l4 + 1) hf hz hH hS (lv_sub hl [1, 2, 0] rfl)
set_option maxHeartbeats 4000000 in
set_option maxRecDepth 100000 in
theorem k_Wall_init_272 {p : Program} {l : Launch} {e : Env} {s : State} {m : MethodId} {args : Array Value} {below : List Frame} {meth : Method} {c : Code} {D : va_G} {aC : Nat → ClassId} {ad : Nat → Nat} {M : Nat} {A : Nat → Prop} {q : x_T × Nat × x_W} (C0 : x_At p s m meth c args "WallDamp$Wall" b_Wall_init none 5 D aC A) (hin : meth.name = "<init>") (hAo : x_Ao s) (hlin : x_Lin ad M) : ∀ (n : Nat), ∀ (T : x_T) (nx : Nat) (w : x_W) (H : Heap) (locs : List Loc) (ls : Array Slot) (l0 : Nat) (l3 : Int32) (l4 : Int32), f_Wall_init_272 M n T nx w l0 l3 l4 = some q → H.size = ad nx → x_H D x_cl x_FT aC ad T nx A w H → va_S A s.heap H locs → lv_has ls 5 [(0, .ref (ad l0)), (3, .int l3), (4, .int l4)] → W p l e { frames := 3, cells := 48, slots := 518, locals := 61 } s m args below meth c H locs 48 518 (MQ below (x_Qn D aC ad q A) args s 48 518 A) (F0 m 272 ls []) := by
  obtain ⟨hx, hb, hr, hml, hown, hts, hlocks, hK, hA, hX⟩ := id C0
  intro n
  induction n with
  | zero => intro T nx w H locs ls l0 l3 l4 hf; cases (show none = some q from hf)
  | succ n ih =>
    intro T nx w H locs ls l0 l3 l4 hf hz hH hS hl
    unfold f_Wall_init_272 at hf
    refine lv_iload hx hb d_Wall_init_272 (lv_at hl 2 rfl) ?_
    refine lv_iload_n hx hb d_Wall_init_274 rfl (lv_at hl 1 rfl) ?_
    refine x_pc 275 rfl ?_
    refine lv_icmp_ge (tgt := 300) hx hb d_Wall_init_275 (by decide) (fun c1 => ?_) (fun c1 => ?_)
    · have hf := x_it hf c1
      refine lv_iconst (v := 0) hx hb d_Wall_init_300 (by decide) ?_
      refine lv_istore (lv' := [(4, .int (0 : Int32)), (0, .ref (ad l0)), (3, .int l3)]) hx hb d_Wall_init_301 hl (by decide) rfl (fun ls hl => ?_)
      exact k_Wall_init_303 C0 hin hAo hlin 1000 T nx w _ _ _ l0 l3 (0 : Int32) hf hz hH hS (lv_sub hl [1, 2, 0] rfl)
    · have hf := x_if hf c1
      refine lv_aload_n hx hb d_Wall_init_278 rfl (lv_at hl 0 rfl) ?_
      obtain ⟨_, e2, hf⟩ := x_b hf
      obtain ⟨n3, hT4⟩ := x_is_e e2
      obtain ⟨a5, e6, hf⟩ := x_b hf
      refine x_get (C := "WallDamp$Wall") (F := F_Wall) (N := 9) hx hb hts i_Wall hown hK hH hT4 (by decide) rfl 8 (by decide) (hts _ m_308) (fun _ h9 => h9) (kd := (2, 63)) rfl (x_fr e6) d_Wall_init_279 ?_
      refine lv_iconst (v := 3) hx hb d_Wall_init_282 (by decide) ?_
      refine lv_iload hx hb d_Wall_init_283 (lv_at hl 2 rfl) ?_
      refine x_pc 285 rfl ?_
      refine x_cs 48 518 rfl rfl ?_
      refine lv_iadd hx hb d_Wall_init_285 ?_
      refine lv_aload_n hx hb d_Wall_init_286 rfl (lv_at hl 0 rfl) ?_
      obtain ⟨a7, e8, hf⟩ := x_b hf
      refine x_get (C := "WallDamp$Wall") (F := F_Wall) (N := 9) hx hb hts i_Wall hown hK hH hT4 (by decide) rfl 6 (by decide) (hts _ m_306) (fun _ h9 => h9) (kd := (2, 61)) rfl (x_fr e8) d_Wall_init_287 ?_
      refine lv_iload hx hb d_Wall_init_290 (lv_at hl 2 rfl) ?_
      obtain ⟨_, e9, hf⟩ := x_b hf
      obtain ⟨n10, hT11, hi12⟩ := x_ix_e e9
      obtain ⟨a13, e14, hf⟩ := x_b hf
      refine x_aald hx hb hK hH hT11 (by decide) 5 rfl hi12 (x_qr e14) d_Wall_init_292 ?_
      obtain ⟨_, e15, hf⟩ := x_b hf
      obtain ⟨n16, hT17⟩ := x_is_e e15
      obtain ⟨_, e18, hf⟩ := x_b hf
      obtain ⟨n19, hT20, hi21⟩ := x_ix_e e18
      refine x_aastZ (r := ("WallDamp$Flow", F_Flow, 5)) hx hb hK hH hS hT20 (by decide) 5 rfl hT17 (by decide) rfl hi21 d_Wall_init_293 (fun H locs hz1 hH hS => ?_)
      have hz := hz1.trans hz
      obtain ⟨w22, e23, hf⟩ := x_b hf
      have hH := x_nw e23 hH
      refine lv_iinc (v := (l4 + 1)) (lv' := [(4, .int (l4 + 1)), (0, .ref (ad l0)), (3, .int l3)]) hx hb d_Wall_init_294 hl (k := 2) rfl rfl (by decide) rfl (fun ls hl => ?_)
      refine x_pc 297 rfl ?_
      refine lv_goto (tgt := 272) hx hb d_Wall_init_297 (by decide) ?_
      exact ih T nx w22 _ _ _ l0 l3 (l4 + 1) hf hz hH hS (lv_sub hl [1, 2, 0] rfl)
set_option maxHeartbeats 4000000 in
set_option maxRecDepth 100000 in
theorem k_Wall_init_116 {p : Program} {l : Launch} {e : Env} {s : State} {m : MethodId} {args : Array Value} {below : List Frame} {meth : Method} {c : Code} {D : va_G} {aC : Nat → ClassId} {ad : Nat → Nat} {M : Nat} {A : Nat → Prop} {q : x_T × Nat × x_W} (C0 : x_At p s m meth c args "WallDamp$Wall" b_Wall_init none 5 D aC A) (hin : meth.name = "<init>") (hAo : x_Ao s) (hlin : x_Lin ad M) : ∀ (n cn sl : Nat), cn + 1 * n ≤ 44 → sl + 5 * n ≤ 463 → ∀ (T : x_T) (nx : Nat) (w : x_W) (H : Heap) (locs : List Loc) (ls : Array Slot) (l0 : Nat) (l3 : Int32) (l4 : Int32), f_Wall_init_116 M n T nx w l0 l3 l4 = some q → H.size = ad nx → x_H D x_cl x_FT aC ad T nx A w H → va_S A s.heap H locs → lv_has ls 5 [(0, .ref (ad l0)), (3, .int l3), (4, .int l4)] → W p l e { frames := 3, cells := 48, slots := 518, locals := 61 } s m args below meth c H locs cn sl (MQ below (x_Qn D aC ad q A) args s 48 518 A) (F0 m 116 ls []) := by
  obtain ⟨hx, hb, hr, hml, hown, hts, hlocks, hK, hA, hX⟩ := id C0
  intro n
  induction n with
  | zero => intro cn sl hcn hsl T nx w H locs ls l0 l3 l4 hf; cases (show none = some q from hf)
  | succ n ih =>
    intro cn sl hcn hsl T nx w H locs ls l0 l3 l4 hf hz hH hS hl
    unfold f_Wall_init_116 at hf
    refine lv_iload hx hb d_Wall_init_116 (lv_at hl 2 rfl) ?_
    refine lv_iload_n hx hb d_Wall_init_118 rfl (lv_at hl 1 rfl) ?_
    refine lv_iconst (v := 1) hx hb d_Wall_init_119 (by decide) ?_
    refine lv_isub hx hb d_Wall_init_120 ?_
    refine x_pc 121 rfl ?_
    refine lv_icmp_ge (tgt := 160) hx hb d_Wall_init_121 (by decide) (fun c1 => ?_) (fun c1 => ?_)
    · have hf := x_it hf c1
      refine W.widen (k := 44) (n := 463) (by omega) (by omega) ?_
      refine lv_aload_n hx hb d_Wall_init_160 rfl (lv_at hl 0 rfl) ?_
      obtain ⟨_, e2, hf⟩ := x_b hf
      refine x_new (C := "WallDamp$Flow") (F := F_Flow) (N := 5) (ci := 4) hx hb hts i_Flow t_Flow ty_Flow hown (hts _ m_226) (hts _ m_275) (hts _ m_11) hK hH hS hA hz (by decide) rfl df_Flow (by show _ ≤ 48; omega) (by show _ ≤ 518; omega) d_Wall_init_161 (fun H hz1 hH hS => ?_)
      have hz := x_lin hlin e2 hz1
      obtain ⟨T4, e3, hf⟩ := x_b hf
      have hH := x_nT e3 hH
      refine x_pc 164 rfl ?_
      refine x_cs 45 468 rfl rfl ?_
      refine lv_dup hx hb d_Wall_init_164 rfl ?_
      refine lv_aload_n hx hb d_Wall_init_165 rfl (lv_at hl 0 rfl) ?_
      obtain ⟨_, e5, hf⟩ := x_b hf
      obtain ⟨n6, hT7⟩ := x_is_e e5
      obtain ⟨a8, e9, hf⟩ := x_b hf
      refine x_get (C := "WallDamp$Wall") (F := F_Wall) (N := 9) hx hb hts i_Wall hown hK hH hT7 (by decide) rfl 1 (by decide) (hts _ m_299) (fun _ h9 => h9) (kd := (2, 56)) rfl (x_fr e9) d_Wall_init_166 ?_
      refine lv_aload_n hx hb d_Wall_init_169 rfl (lv_at hl 0 rfl) ?_
      obtain ⟨a10, e11, hf⟩ := x_b hf
      refine x_get (C := "WallDamp$Wall") (F := F_Wall) (N := 9) hx hb hts i_Wall hown hK hH hT7 (by decide) rfl 0 (by decide) (hts _ m_296) (fun _ h9 => h9) (kd := (2, 55)) rfl (x_fr e11) d_Wall_init_170 ?_
      refine lv_iconst (v := 0) hx hb d_Wall_init_173 (by decide) ?_
      obtain ⟨_, e12, hf⟩ := x_b hf
      obtain ⟨n13, hT14, hi15⟩ := x_ix_e e12
      obtain ⟨a16, e17, hf⟩ := x_b hf
      refine x_aald hx hb hK hH hT14 (by decide) 4 rfl hi15 (x_qr e17) d_Wall_init_174 ?_
      obtain ⟨q18, e19, hf⟩ := x_b hf
      refine x_callN (va_runI (As := [.ref (ad a8), .ref (ad a16)]) (rest := [.ref (ad nx), .ref (ad l0)]) ⟨hx, hb, hml, hown, hts⟩ (c_Flow_init l D aC ad M hlin T4 (nx + 1) w nx a8 a16 q18 e19) (cwI 2 hts (x_gI m_278) rfl rfl rfl (hts _ m_11) (hts _ m_276) (hts _ m_277) rfl pd_Flow_init ⟨Nat.le_of_ble_eq_true rfl, Nat.le_of_ble_eq_true rfl⟩) (x_preN hz hH hK hX hAo) rfl rfl hl.1 rfl (lv_room (Nat.le_of_ble_eq_true rfl)) d_Wall_init_175 ⟨(by show _ ≤ 48; omega), (by show _ ≤ 518; omega)⟩) hz hH hA hS (fun H locs hz hH hS => ?_)
      refine x_pc 178 rfl ?_
      refine x_cs 45 468 rfl rfl ?_
      obtain ⟨_, e20, hf⟩ := x_b hf
      obtain ⟨n21, hT22⟩ := x_is_e e20
      obtain ⟨_, e23, hf⟩ := x_b hf
      refine x_putFZ (C := "WallDamp$Wall") (F := F_Wall) (N := 9) (ty := t_Wall 3) (v := .ref (ad nx)) (w' := x_sR q18.2.2 58 l0 (some nx)) hx hb hts i_Wall t_Wall ty_Wall n_Wall hown hK hH hS hT22 (by decide) rfl rfl 3 (by decide) (hts _ m_303) (fun _ h9 => h9) rfl hin rfl (ty_Wall 3 (by decide)) rfl rfl (x_on_R (v := some nx) hT22 (by decide) rfl nd_Wall k3_Wall) (fun j hj => x_off_R hj) (fun hh => x_ok_R hh (x_ex_lt e23 hH)) d_Wall_init_178 (fun H locs hz1 hH hS => ?_)
      have hz := hz1.trans hz
      obtain ⟨w24, e25, hf⟩ := x_b hf
      have hH := x_nw e25 hH
      refine lv_aload_n hx hb d_Wall_init_181 rfl (lv_at hl 0 rfl) ?_
      obtain ⟨_, e26, hf⟩ := x_b hf
      refine x_new (C := "WallDamp$Flow") (F := F_Flow) (N := 5) (ci := 4) hx hb hts i_Flow t_Flow ty_Flow hown (hts _ m_226) (hts _ m_275) (hts _ m_11) hK hH hS hA hz (by decide) rfl df_Flow (by show _ ≤ 48; omega) (by show _ ≤ 518; omega) d_Wall_init_182 (fun H hz1 hH hS => ?_)
      have hz := x_lin hlin e26 hz1
      obtain ⟨T28, e27, hf⟩ := x_b hf
      have hH := x_nT e27 hH
      refine lv_dup hx hb d_Wall_init_185 rfl ?_
      refine lv_aload_n hx hb d_Wall_init_186 rfl (lv_at hl 0 rfl) ?_
      obtain ⟨_, e29, hf⟩ := x_b hf
      obtain ⟨n30, hT31⟩ := x_is_e e29
      obtain ⟨a32, e33, hf⟩ := x_b hf
      refine x_get (C := "WallDamp$Wall") (F := F_Wall) (N := 9) hx hb hts i_Wall hown hK hH hT31 (by decide) rfl 0 (by decide) (hts _ m_296) (fun _ h9 => h9) (kd := (2, 55)) rfl (x_fr e33) d_Wall_init_187 ?_
      refine lv_iload_n hx hb d_Wall_init_190 rfl (lv_at hl 1 rfl) ?_
      refine lv_iconst (v := 1) hx hb d_Wall_init_191 (by decide) ?_
      refine x_pc 192 rfl ?_
      refine x_cs 46 473 rfl rfl ?_
      refine lv_isub hx hb d_Wall_init_192 ?_
      obtain ⟨_, e34, hf⟩ := x_b hf
      obtain ⟨n35, hT36, hi37⟩ := x_ix_e e34
      obtain ⟨a38, e39, hf⟩ := x_b hf
      refine x_aald hx hb hK hH hT36 (by decide) 4 rfl hi37 (x_qr e39) d_Wall_init_193 ?_
      refine lv_aload_n hx hb d_Wall_init_194 rfl (lv_at hl 0 rfl) ?_
      obtain ⟨a40, e41, hf⟩ := x_b hf
      refine x_get (C := "WallDamp$Wall") (F := F_Wall) (N := 9) hx hb hts i_Wall hown hK hH hT31 (by decide) rfl 2 (by decide) (hts _ m_301) (fun _ h9 => h9) (kd := (2, 57)) rfl (x_fr e41) d_Wall_init_195 ?_
      obtain ⟨q42, e43, hf⟩ := x_b hf
      refine x_callN (va_runI (As := [.ref (ad a38), .ref (ad a40)]) (rest := [.ref (ad q18.2.1), .ref (ad l0)]) ⟨hx, hb, hml, hown, hts⟩ (c_Flow_init l D aC ad M hlin T28 (q18.2.1 + 1) w24 q18.2.1 a38 a40 q42 e43) (cwI 2 hts (x_gI m_278) rfl rfl rfl (hts _ m_11) (hts _ m_276) (hts _ m_277) rfl pd_Flow_init ⟨Nat.le_of_ble_eq_true rfl, Nat.le_of_ble_eq_true rfl⟩) (x_preN hz hH hK hX hAo) rfl rfl hl.1 rfl (lv_room (Nat.le_of_ble_eq_true rfl)) d_Wall_init_198 ⟨(by show _ ≤ 48; omega), (by show _ ≤ 518; omega)⟩) hz hH hA hS (fun H locs hz hH hS => ?_)
      obtain ⟨_, e44, hf⟩ := x_b hf
      obtain ⟨n45, hT46⟩ := x_is_e e44
      obtain ⟨_, e47, hf⟩ := x_b hf
      refine x_putFZ (C := "WallDamp$Wall") (F := F_Wall) (N := 9) (ty := t_Wall 4) (v := .ref (ad q18.2.1)) (w' := x_sR q42.2.2 59 l0 (some q18.2.1)) hx hb hts i_Wall t_Wall ty_Wall n_Wall hown hK hH hS hT46 (by decide) rfl rfl 4 (by decide) (hts _ m_304) (fun _ h9 => h9) rfl hin rfl (ty_Wall 4 (by decide)) rfl rfl (x_on_R (v := some q18.2.1) hT46 (by decide) rfl nd_Wall k3_Wall) (fun j hj => x_off_R hj) (fun hh => x_ok_R hh (x_ex_lt e47 hH)) d_Wall_init_201 (fun H locs hz1 hH hS => ?_)
      have hz := hz1.trans hz
      obtain ⟨w48, e49, hf⟩ := x_b hf
      have hH := x_nw e49 hH
      refine lv_aload_n hx hb d_Wall_init_204 rfl (lv_at hl 0 rfl) ?_
      obtain ⟨_, e50, hf⟩ := x_b hf
      refine x_new (C := "WallDamp$Flow") (F := F_Flow) (N := 5) (ci := 4) hx hb hts i_Flow t_Flow ty_Flow hown (hts _ m_226) (hts _ m_275) (hts _ m_11) hK hH hS hA hz (by decide) rfl df_Flow (by show _ ≤ 48; omega) (by show _ ≤ 518; omega) d_Wall_init_205 (fun H hz1 hH hS => ?_)
      have hz := x_lin hlin e50 hz1
      obtain ⟨T52, e51, hf⟩ := x_b hf
      have hH := x_nT e51 hH
      refine x_pc 208 rfl ?_
      refine x_cs 47 478 rfl rfl ?_
      refine lv_dup hx hb d_Wall_init_208 rfl ?_
      refine lv_aload_n hx hb d_Wall_init_209 rfl (lv_at hl 0 rfl) ?_
      obtain ⟨_, e53, hf⟩ := x_b hf
      obtain ⟨n54, hT55⟩ := x_is_e e53
      obtain ⟨a56, e57, hf⟩ := x_b hf
      refine x_get (C := "WallDamp$Wall") (F := F_Wall) (N := 9) hx hb hts i_Wall hown hK hH hT55 (by decide) rfl 1 (by decide) (hts _ m_299) (fun _ h9 => h9) (kd := (2, 56)) rfl (x_fr e57) d_Wall_init_210 ?_
      refine lv_aload_n hx hb d_Wall_init_213 rfl (lv_at hl 0 rfl) ?_
      obtain ⟨a58, e59, hf⟩ := x_b hf
      refine x_get (C := "WallDamp$Wall") (F := F_Wall) (N := 9) hx hb hts i_Wall hown hK hH hT55 (by decide) rfl 0 (by decide) (hts _ m_296) (fun _ h9 => h9) (kd := (2, 55)) rfl (x_fr e59) d_Wall_init_214 ?_
      refine lv_iconst (v := 0) hx hb d_Wall_init_217 (by decide) ?_
      obtain ⟨_, e60, hf⟩ := x_b hf
      obtain ⟨n61, hT62, hi63⟩ := x_ix_e e60
      obtain ⟨a64, e65, hf⟩ := x_b hf
      refine x_aald hx hb hK hH hT62 (by decide) 4 rfl hi63 (x_qr e65) d_Wall_init_218 ?_
      obtain ⟨q66, e67, hf⟩ := x_b hf
      refine x_callN (va_runI (As := [.ref (ad a56), .ref (ad a64)]) (rest := [.ref (ad q42.2.1), .ref (ad l0)]) ⟨hx, hb, hml, hown, hts⟩ (c_Flow_init l D aC ad M hlin T52 (q42.2.1 + 1) w48 q42.2.1 a56 a64 q66 e67) (cwI 2 hts (x_gI m_278) rfl rfl rfl (hts _ m_11) (hts _ m_276) (hts _ m_277) rfl pd_Flow_init ⟨Nat.le_of_ble_eq_true rfl, Nat.le_of_ble_eq_true rfl⟩) (x_preN hz hH hK hX hAo) rfl rfl hl.1 rfl (lv_room (Nat.le_of_ble_eq_true rfl)) d_Wall_init_219 ⟨(by show _ ≤ 48; omega), (by show _ ≤ 518; omega)⟩) hz hH hA hS (fun H locs hz hH hS => ?_)
      refine x_pc 222 rfl ?_
      refine x_cs 47 478 rfl rfl ?_
      obtain ⟨_, e68, hf⟩ := x_b hf
      obtain ⟨n69, hT70⟩ := x_is_e e68
      obtain ⟨_, e71, hf⟩ := x_b hf
      refine x_putFZ (C := "WallDamp$Wall") (F := F_Wall) (N := 9) (ty := t_Wall 5) (v := .ref (ad q42.2.1)) (w' := x_sR q66.2.2 60 l0 (some q42.2.1)) hx hb hts i_Wall t_Wall ty_Wall n_Wall hown hK hH hS hT70 (by decide) rfl rfl 5 (by decide) (hts _ m_305) (fun _ h9 => h9) rfl hin rfl (ty_Wall 5 (by decide)) rfl rfl (x_on_R (v := some q42.2.1) hT70 (by decide) rfl nd_Wall k3_Wall) (fun j hj => x_off_R hj) (fun hh => x_ok_R hh (x_ex_lt e71 hH)) d_Wall_init_222 (fun H locs hz1 hH hS => ?_)
      have hz := hz1.trans hz
      obtain ⟨w72, e73, hf⟩ := x_b hf
      have hH := x_nw e73 hH
      refine lv_aload_n hx hb d_Wall_init_225 rfl (lv_at hl 0 rfl) ?_
      refine lv_iconst (v := 3) hx hb d_Wall_init_226 (by decide) ?_
      refine lv_iload_n hx hb d_Wall_init_227 rfl (lv_at hl 1 rfl) ?_
      refine lv_iadd hx hb d_Wall_init_228 ?_
      refine lv_iload_n hx hb d_Wall_init_229 rfl (lv_at hl 1 rfl) ?_
      refine lv_iadd hx hb d_Wall_init_230 ?_
      refine lv_iconst (v := 1) hx hb d_Wall_init_231 (by decide) ?_
      refine x_pc 232 rfl ?_
      refine x_cs 47 478 rfl rfl ?_
      refine lv_isub hx hb d_Wall_init_232 ?_
      obtain ⟨_, e74, hf⟩ := x_b hf
      obtain ⟨n76, e75, hf⟩ := x_b hf
      obtain ⟨hn77, hN78, hM79⟩ := x_sz_e e75
      refine x_newq (ci := 105) hx hb hown (hts _ m_226) hAo.2.2 hK hH hS hA hz 5 rfl (by decide) hn77 hN78 (by omega) (by show _ ≤ 48; omega) (by show _ ≤ 518; omega) d_Wall_init_233 (fun H hz1 hH hS => ?_)
      have hz := x_lin hlin e74 hz1
      obtain ⟨T81, e80, hf⟩ := x_b hf
      have hH := x_nT e80 hH
      refine W.widen (k := 48) (n := 518) (by omega) (by omega) ?_
      obtain ⟨_, e82, hf⟩ := x_b hf
      obtain ⟨n83, hT84⟩ := x_is_e e82
      obtain ⟨_, e85, hf⟩ := x_b hf
      refine x_putFZ (C := "WallDamp$Wall") (F := F_Wall) (N := 9) (ty := t_Wall 8) (v := .ref (ad q66.2.1)) (w' := x_sR w72 63 l0 (some q66.2.1)) hx hb hts i_Wall t_Wall ty_Wall n_Wall hown hK hH hS hT84 (by decide) rfl rfl 8 (by decide) (hts _ m_308) (fun _ h9 => h9) rfl hin rfl (ty_Wall 8 (by decide)) rfl rfl (x_on_R (v := some q66.2.1) hT84 (by decide) rfl nd_Wall k3_Wall) (fun j hj => x_off_R hj) (fun hh => x_ok_R hh (x_ex_lt e85 hH)) d_Wall_init_236 (fun H locs hz1 hH hS => ?_)
      have hz := hz1.trans hz
      obtain ⟨w86, e87, hf⟩ := x_b hf
      have hH := x_nw e87 hH
      refine lv_aload_n hx hb d_Wall_init_239 rfl (lv_at hl 0 rfl) ?_
      obtain ⟨a88, e89, hf⟩ := x_b hf
      refine x_get (C := "WallDamp$Wall") (F := F_Wall) (N := 9) hx hb hts i_Wall hown hK hH hT84 (by decide) rfl 8 (by decide) (hts _ m_308) (fun _ h9 => h9) (kd := (2, 63)) rfl (x_fr e89) d_Wall_init_240 ?_
      refine lv_iconst (v := 0) hx hb d_Wall_init_243 (by decide) ?_
      refine lv_aload_n hx hb d_Wall_init_244 rfl (lv_at hl 0 rfl) ?_
      obtain ⟨a90, e91, hf⟩ := x_b hf
      refine x_get (C := "WallDamp$Wall") (F := F_Wall) (N := 9) hx hb hts i_Wall hown hK hH hT84 (by decide) rfl 3 (by decide) (hts _ m_303) (fun _ h9 => h9) (kd := (2, 58)) rfl (x_fr e91) d_Wall_init_245 ?_
      refine x_pc 248 rfl ?_
      refine x_cs 48 518 rfl rfl ?_
      obtain ⟨_, e92, hf⟩ := x_b hf
      obtain ⟨n93, hT94⟩ := x_is_e e92
      obtain ⟨_, e95, hf⟩ := x_b hf
      obtain ⟨n96, hT97, hi98⟩ := x_ix_e e95
      refine x_aastZ (r := ("WallDamp$Flow", F_Flow, 5)) hx hb hK hH hS hT97 (by decide) 5 rfl hT94 (by decide) rfl hi98 d_Wall_init_248 (fun H locs hz1 hH hS => ?_)
      have hz := hz1.trans hz
      obtain ⟨w99, e100, hf⟩ := x_b hf
      have hH := x_nw e100 hH
      refine lv_aload_n hx hb d_Wall_init_249 rfl (lv_at hl 0 rfl) ?_
      obtain ⟨a101, e102, hf⟩ := x_b hf
      refine x_get (C := "WallDamp$Wall") (F := F_Wall) (N := 9) hx hb hts i_Wall hown hK hH hT84 (by decide) rfl 8 (by decide) (hts _ m_308) (fun _ h9 => h9) (kd := (2, 63)) rfl (x_fr e102) d_Wall_init_250 ?_
      refine lv_iconst (v := 1) hx hb d_Wall_init_253 (by decide) ?_
      refine lv_aload_n hx hb d_Wall_init_254 rfl (lv_at hl 0 rfl) ?_
      obtain ⟨a103, e104, hf⟩ := x_b hf
      refine x_get (C := "WallDamp$Wall") (F := F_Wall) (N := 9) hx hb hts i_Wall hown hK hH hT84 (by decide) rfl 4 (by decide) (hts _ m_304) (fun _ h9 => h9) (kd := (2, 59)) rfl (x_fr e104) d_Wall_init_255 ?_
      obtain ⟨_, e105, hf⟩ := x_b hf
      obtain ⟨n106, hT107⟩ := x_is_e e105
      obtain ⟨_, e108, hf⟩ := x_b hf
      obtain ⟨n109, hT110, hi111⟩ := x_ix_e e108
      refine x_aastZ (r := ("WallDamp$Flow", F_Flow, 5)) hx hb hK hH hS hT110 (by decide) 5 rfl hT107 (by decide) rfl hi111 d_Wall_init_258 (fun H locs hz1 hH hS => ?_)
      have hz := hz1.trans hz
      obtain ⟨w112, e113, hf⟩ := x_b hf
      have hH := x_nw e113 hH
      refine lv_aload_n hx hb d_Wall_init_259 rfl (lv_at hl 0 rfl) ?_
      refine x_pc 260 rfl ?_
      refine x_cs 48 518 rfl rfl ?_
      obtain ⟨a114, e115, hf⟩ := x_b hf
      refine x_get (C := "WallDamp$Wall") (F := F_Wall) (N := 9) hx hb hts i_Wall hown hK hH hT84 (by decide) rfl 8 (by decide) (hts _ m_308) (fun _ h9 => h9) (kd := (2, 63)) rfl (x_fr e115) d_Wall_init_260 ?_
      refine lv_iconst (v := 2) hx hb d_Wall_init_263 (by decide) ?_
      refine lv_aload_n hx hb d_Wall_init_264 rfl (lv_at hl 0 rfl) ?_
      obtain ⟨a116, e117, hf⟩ := x_b hf
      refine x_get (C := "WallDamp$Wall") (F := F_Wall) (N := 9) hx hb hts i_Wall hown hK hH hT84 (by decide) rfl 5 (by decide) (hts _ m_305) (fun _ h9 => h9) (kd := (2, 60)) rfl (x_fr e117) d_Wall_init_265 ?_
      obtain ⟨_, e118, hf⟩ := x_b hf
      obtain ⟨n119, hT120⟩ := x_is_e e118
      obtain ⟨_, e121, hf⟩ := x_b hf
      obtain ⟨n122, hT123, hi124⟩ := x_ix_e e121
      refine x_aastZ (r := ("WallDamp$Flow", F_Flow, 5)) hx hb hK hH hS hT123 (by decide) 5 rfl hT120 (by decide) rfl hi124 d_Wall_init_268 (fun H locs hz1 hH hS => ?_)
      have hz := hz1.trans hz
      obtain ⟨w125, e126, hf⟩ := x_b hf
      have hH := x_nw e126 hH
      refine lv_iconst (v := 0) hx hb d_Wall_init_269 (by decide) ?_
      refine lv_istore (lv' := [(4, .int (0 : Int32)), (0, .ref (ad l0)), (3, .int l3)]) hx hb d_Wall_init_270 hl (by decide) rfl (fun ls hl => ?_)
      exact k_Wall_init_272 C0 hin hAo hlin 1000 T81 (q66.2.1 + 1) w125 _ _ _ l0 l3 (0 : Int32) hf hz hH hS (lv_sub hl [1, 2, 0] rfl)
    · have hf := x_if hf c1
      refine lv_aload_n hx hb d_Wall_init_124 rfl (lv_at hl 0 rfl) ?_
      obtain ⟨_, e127, hf⟩ := x_b hf
      obtain ⟨n128, hT129⟩ := x_is_e e127
      obtain ⟨a130, e131, hf⟩ := x_b hf
      refine x_get (C := "WallDamp$Wall") (F := F_Wall) (N := 9) hx hb hts i_Wall hown hK hH hT129 (by decide) rfl 7 (by decide) (hts _ m_307) (fun _ h9 => h9) (kd := (2, 62)) rfl (x_fr e131) d_Wall_init_125 ?_
      refine x_pc 128 rfl ?_
      refine lv_iload hx hb d_Wall_init_128 (lv_at hl 2 rfl) ?_
      obtain ⟨_, e132, hf⟩ := x_b hf
      refine x_new (C := "WallDamp$Flow") (F := F_Flow) (N := 5) (ci := 4) hx hb hts i_Flow t_Flow ty_Flow hown (hts _ m_226) (hts _ m_275) (hts _ m_11) hK hH hS hA hz (by decide) rfl df_Flow (by show _ ≤ 48; omega) (by show _ ≤ 518; omega) d_Wall_init_130 (fun H hz1 hH hS => ?_)
      have hz := x_lin hlin e132 hz1
      obtain ⟨T134, e133, hf⟩ := x_b hf
      have hH := x_nT e133 hH
      refine lv_dup hx hb d_Wall_init_133 rfl ?_
      refine lv_aload_n hx hb d_Wall_init_134 rfl (lv_at hl 0 rfl) ?_
      obtain ⟨_, e135, hf⟩ := x_b hf
      obtain ⟨n136, hT137⟩ := x_is_e e135
      obtain ⟨a138, e139, hf⟩ := x_b hf
      refine x_get (C := "WallDamp$Wall") (F := F_Wall) (N := 9) hx hb hts i_Wall hown hK hH hT137 (by decide) rfl 0 (by decide) (hts _ m_296) (fun _ h9 => h9) (kd := (2, 55)) rfl (x_fr e139) d_Wall_init_135 ?_
      refine lv_iload hx hb d_Wall_init_138 (lv_at hl 2 rfl) ?_
      obtain ⟨_, e140, hf⟩ := x_b hf
      obtain ⟨n141, hT142, hi143⟩ := x_ix_e e140
      obtain ⟨a144, e145, hf⟩ := x_b hf
      refine x_aald hx hb hK hH hT142 (by decide) 4 rfl hi143 (x_qr e145) d_Wall_init_140 ?_
      refine lv_aload_n hx hb d_Wall_init_141 rfl (lv_at hl 0 rfl) ?_
      refine x_pc 142 rfl ?_
      obtain ⟨a146, e147, hf⟩ := x_b hf
      refine x_get (C := "WallDamp$Wall") (F := F_Wall) (N := 9) hx hb hts i_Wall hown hK hH hT137 (by decide) rfl 0 (by decide) (hts _ m_296) (fun _ h9 => h9) (kd := (2, 55)) rfl (x_fr e147) d_Wall_init_142 ?_
      refine lv_iload hx hb d_Wall_init_145 (lv_at hl 2 rfl) ?_
      refine lv_iconst (v := 1) hx hb d_Wall_init_147 (by decide) ?_
      refine lv_iadd hx hb d_Wall_init_148 ?_
      obtain ⟨_, e148, hf⟩ := x_b hf
      obtain ⟨n149, hT150, hi151⟩ := x_ix_e e148
      obtain ⟨a152, e153, hf⟩ := x_b hf
      refine x_aald hx hb hK hH hT150 (by decide) 4 rfl hi151 (x_qr e153) d_Wall_init_149 ?_
      obtain ⟨q154, e155, hf⟩ := x_b hf
      refine x_callN (va_runI (As := [.ref (ad a144), .ref (ad a152)]) (rest := [.ref (ad nx), .int l4, .ref (ad a130)]) ⟨hx, hb, hml, hown, hts⟩ (c_Flow_init l D aC ad M hlin T134 (nx + 1) w nx a144 a152 q154 e155) (cwI 2 hts (x_gI m_278) rfl rfl rfl (hts _ m_11) (hts _ m_276) (hts _ m_277) rfl pd_Flow_init ⟨Nat.le_of_ble_eq_true rfl, Nat.le_of_ble_eq_true rfl⟩) (x_preN hz hH hK hX hAo) rfl rfl hl.1 rfl (lv_room (Nat.le_of_ble_eq_true rfl)) d_Wall_init_150 ⟨(by show _ ≤ 48; omega), (by show _ ≤ 518; omega)⟩) hz hH hA hS (fun H locs hz hH hS => ?_)
      obtain ⟨_, e156, hf⟩ := x_b hf
      obtain ⟨n157, hT158⟩ := x_is_e e156
      obtain ⟨_, e159, hf⟩ := x_b hf
      obtain ⟨n160, hT161, hi162⟩ := x_ix_e e159
      refine x_aastZ (r := ("WallDamp$Flow", F_Flow, 5)) hx hb hK hH hS hT161 (by decide) 5 rfl hT158 (by decide) rfl hi162 d_Wall_init_153 (fun H locs hz1 hH hS => ?_)
      have hz := hz1.trans hz
      obtain ⟨w163, e164, hf⟩ := x_b hf
      have hH := x_nw e164 hH
      refine lv_iinc (v := (l4 + 1)) (lv' := [(4, .int (l4 + 1)), (0, .ref (ad l0)), (3, .int l3)]) hx hb d_Wall_init_154 hl (k := 2) rfl rfl (by decide) rfl (fun ls hl => ?_)
      refine x_pc 157 rfl ?_
      refine lv_goto (tgt := 116) hx hb d_Wall_init_157 (by decide) ?_
      exact ih (cn + 1) (sl + 5) (by omega) (by omega) q154.1 q154.2.1 w163 _ _ _ l0 l3 (l4 + 1) hf hz hH hS (lv_sub hl [1, 2, 0] rfl)
set_option maxHeartbeats 4000000 in
set_option maxRecDepth 100000 in
theorem k_Wall_init_51 {p : Program} {l : Launch} {e : Env} {s : State} {m : MethodId} {args : Array Value} {below : List Frame} {meth : Method} {c : Code} {D : va_G} {aC : Nat → ClassId} {ad : Nat → Nat} {M : Nat} {A : Nat → Prop} {q : x_T × Nat × x_W} (C0 : x_At p s m meth c args "WallDamp$Wall" b_Wall_init none 5 D aC A) (hin : meth.name = "<init>") (hAo : x_Ao s) (hlin : x_Lin ad M) : ∀ (n cn sl : Nat), cn + 2 * n ≤ 30 → sl + 20 * n ≤ 358 → ∀ (T : x_T) (nx : Nat) (w : x_W) (H : Heap) (locs : List Loc) (ls : Array Slot) (l0 : Nat) (l2 : Nat) (l3 : Int32) (l4 : Int32), f_Wall_init_51 M n T nx w l0 l2 l3 l4 = some q → H.size = ad nx → x_H D x_cl x_FT aC ad T nx A w H → va_S A s.heap H locs → lv_has ls 5 [(0, .ref (ad l0)), (2, .ref (ad l2)), (3, .int l3), (4, .int l4)] → W p l e { frames := 3, cells := 48, slots := 518, locals := 61 } s m args below meth c H locs cn sl (MQ below (x_Qn D aC ad q A) args s 48 518 A) (F0 m 51 ls []) := by
  obtain ⟨hx, hb, hr, hml, hown, hts, hlocks, hK, hA, hX⟩ := id C0
  intro n
  induction n with
  | zero => intro cn sl hcn hsl T nx w H locs ls l0 l2 l3 l4 hf; cases (show none = some q from hf)
  | succ n ih =>
    intro cn sl hcn hsl T nx w H locs ls l0 l2 l3 l4 hf hz hH hS hl
    unfold f_Wall_init_51 at hf
    refine lv_iload hx hb d_Wall_init_51 (lv_at hl 3 rfl) ?_
    refine lv_iload_n hx hb d_Wall_init_53 rfl (lv_at hl 2 rfl) ?_
    refine x_pc 54 rfl ?_
    refine lv_icmp_ge (tgt := 103) hx hb d_Wall_init_54 (by decide) (fun c1 => ?_) (fun c1 => ?_)
    · have hf := x_it hf c1
      refine W.widen (k := 30) (n := 358) (by omega) (by omega) ?_
      refine lv_aload_n hx hb d_Wall_init_103 rfl (lv_at hl 0 rfl) ?_
      refine lv_iload_n hx hb d_Wall_init_104 rfl (lv_at hl 2 rfl) ?_
      refine lv_iconst (v := 1) hx hb d_Wall_init_105 (by decide) ?_
      refine lv_isub hx hb d_Wall_init_106 ?_
      refine x_pc 107 rfl ?_
      refine x_cs 30 358 rfl rfl ?_
      obtain ⟨_, e2, hf⟩ := x_b hf
      obtain ⟨n4, e3, hf⟩ := x_b hf
      obtain ⟨hn5, hN6, hM7⟩ := x_sz_e e3
      refine x_newq (ci := 105) hx hb hown (hts _ m_226) hAo.2.2 hK hH hS hA hz 5 rfl (by decide) hn5 hN6 (by omega) (by show _ ≤ 48; omega) (by show _ ≤ 518; omega) d_Wall_init_107 (fun H hz1 hH hS => ?_)
      have hz := x_lin hlin e2 hz1
      obtain ⟨T9, e8, hf⟩ := x_b hf
      have hH := x_nT e8 hH
      refine W.widen (k := 31) (n := 398) (by omega) (by omega) ?_
      obtain ⟨_, e10, hf⟩ := x_b hf
      obtain ⟨n11, hT12⟩ := x_is_e e10
      obtain ⟨_, e13, hf⟩ := x_b hf
      refine x_putFZ (C := "WallDamp$Wall") (F := F_Wall) (N := 9) (ty := t_Wall 7) (v := .ref (ad nx)) (w' := x_sR w 62 l0 (some nx)) hx hb hts i_Wall t_Wall ty_Wall n_Wall hown hK hH hS hT12 (by decide) rfl rfl 7 (by decide) (hts _ m_307) (fun _ h9 => h9) rfl hin rfl (ty_Wall 7 (by decide)) rfl rfl (x_on_R (v := some nx) hT12 (by decide) rfl nd_Wall k3_Wall) (fun j hj => x_off_R hj) (fun hh => x_ok_R hh (x_ex_lt e13 hH)) d_Wall_init_110 (fun H locs hz1 hH hS => ?_)
      have hz := hz1.trans hz
      obtain ⟨w14, e15, hf⟩ := x_b hf
      have hH := x_nw e15 hH
      refine lv_iconst (v := 0) hx hb d_Wall_init_113 (by decide) ?_
      refine lv_istore (lv' := [(4, .int (0 : Int32)), (0, .ref (ad l0)), (2, .ref (ad l2)), (3, .int l3)]) hx hb d_Wall_init_114 hl (by decide) rfl (fun ls hl => ?_)
      exact k_Wall_init_116 C0 hin hAo hlin 13 31 398 (by decide) (by decide) T9 (nx + 1) w14 _ _ _ l0 l3 (0 : Int32) hf hz hH hS (lv_sub hl [1, 3, 0] rfl)
    · have hf := x_if hf c1
      refine lv_aload_n hx hb d_Wall_init_57 rfl (lv_at hl 0 rfl) ?_
      obtain ⟨_, e16, hf⟩ := x_b hf
      obtain ⟨n17, hT18⟩ := x_is_e e16
      obtain ⟨a19, e20, hf⟩ := x_b hf
      refine x_get (C := "WallDamp$Wall") (F := F_Wall) (N := 9) hx hb hts i_Wall hown hK hH hT18 (by decide) rfl 0 (by decide) (hts _ m_296) (fun _ h9 => h9) (kd := (2, 55)) rfl (x_fr e20) d_Wall_init_58 ?_
      refine lv_iload hx hb d_Wall_init_61 (lv_at hl 3 rfl) ?_
      obtain ⟨_, e21, hf⟩ := x_b hf
      refine x_new (C := "WallDamp$Cell") (F := F_Cell) (N := 15) (ci := 2) hx hb hts i_Cell t_Cell ty_Cell hown (hts _ m_224) (hts _ m_228) (hts _ m_10) hK hH hS hA hz (by decide) rfl df_Cell (by show _ ≤ 48; omega) (by show _ ≤ 518; omega) d_Wall_init_63 (fun H hz1 hH hS => ?_)
      have hz := x_lin hlin e21 hz1
      obtain ⟨T23, e22, hf⟩ := x_b hf
      have hH := x_nT e22 hH
      refine x_pc 66 rfl ?_
      refine lv_dup hx hb d_Wall_init_66 rfl ?_
      refine lv_aload_n hx hb d_Wall_init_67 rfl (lv_at hl 1 rfl) ?_
      obtain ⟨q24, e25, hf⟩ := x_b hf
      refine x_callN (va_runI (As := [.ref (ad l2)]) (rest := [.ref (ad nx), .int l4, .ref (ad a19)]) ⟨hx, hb, hml, hown, hts⟩ (c_Cell_init l D aC ad M hlin T23 (nx + 1) w nx l2 q24 e25) (cwI 1 hts (x_gI m_231) rfl rfl rfl (hts _ m_10) (hts _ m_229) (hts _ m_230) rfl pd_Cell_init ⟨Nat.le_of_ble_eq_true rfl, Nat.le_of_ble_eq_true rfl⟩) (x_preN hz hH hK hX hAo) rfl rfl hl.1 rfl (lv_room (Nat.le_of_ble_eq_true rfl)) d_Wall_init_68 ⟨(by show _ ≤ 48; omega), (by show _ ≤ 518; omega)⟩) hz hH hA hS (fun H locs hz hH hS => ?_)
      obtain ⟨_, e26, hf⟩ := x_b hf
      obtain ⟨n27, hT28⟩ := x_is_e e26
      obtain ⟨_, e29, hf⟩ := x_b hf
      obtain ⟨n30, hT31, hi32⟩ := x_ix_e e29
      refine x_aastZ (r := ("WallDamp$Cell", F_Cell, 15)) hx hb hK hH hS hT31 (by decide) 4 rfl hT28 (by decide) rfl hi32 d_Wall_init_71 (fun H locs hz1 hH hS => ?_)
      have hz := hz1.trans hz
      obtain ⟨w33, e34, hf⟩ := x_b hf
      have hH := x_nw e34 hH
      refine lv_aload_n hx hb d_Wall_init_72 rfl (lv_at hl 0 rfl) ?_
      obtain ⟨_, e35, hf⟩ := x_b hf
      obtain ⟨n36, hT37⟩ := x_is_e e35
      obtain ⟨a38, e39, hf⟩ := x_b hf
      refine x_get (C := "WallDamp$Wall") (F := F_Wall) (N := 9) hx hb hts i_Wall hown hK hH hT37 (by decide) rfl 6 (by decide) (hts _ m_306) (fun _ h9 => h9) (kd := (2, 61)) rfl (x_fr e39) d_Wall_init_73 ?_
      refine lv_iload hx hb d_Wall_init_76 (lv_at hl 3 rfl) ?_
      obtain ⟨_, e40, hf⟩ := x_b hf
      refine x_new (C := "WallDamp$Flow") (F := F_Flow) (N := 5) (ci := 4) hx hb hts i_Flow t_Flow ty_Flow hown (hts _ m_226) (hts _ m_275) (hts _ m_11) hK hH hS hA hz (by decide) rfl df_Flow (by show _ ≤ 48; omega) (by show _ ≤ 518; omega) d_Wall_init_78 (fun H hz1 hH hS => ?_)
      have hz := x_lin hlin e40 hz1
      obtain ⟨T42, e41, hf⟩ := x_b hf
      have hH := x_nT e41 hH
      refine x_pc 81 rfl ?_
      refine lv_dup hx hb d_Wall_init_81 rfl ?_
      refine lv_aload_n hx hb d_Wall_init_82 rfl (lv_at hl 0 rfl) ?_
      obtain ⟨_, e43, hf⟩ := x_b hf
      obtain ⟨n44, hT45⟩ := x_is_e e43
      obtain ⟨a46, e47, hf⟩ := x_b hf
      refine x_get (C := "WallDamp$Wall") (F := F_Wall) (N := 9) hx hb hts i_Wall hown hK hH hT45 (by decide) rfl 0 (by decide) (hts _ m_296) (fun _ h9 => h9) (kd := (2, 55)) rfl (x_fr e47) d_Wall_init_83 ?_
      refine lv_iload hx hb d_Wall_init_86 (lv_at hl 3 rfl) ?_
      obtain ⟨_, e48, hf⟩ := x_b hf
      obtain ⟨n49, hT50, hi51⟩ := x_ix_e e48
      obtain ⟨a52, e53, hf⟩ := x_b hf
      refine x_aald hx hb hK hH hT50 (by decide) 4 rfl hi51 (x_qr e53) d_Wall_init_88 ?_
      refine lv_aload_n hx hb d_Wall_init_89 rfl (lv_at hl 0 rfl) ?_
      obtain ⟨a54, e55, hf⟩ := x_b hf
      refine x_get (C := "WallDamp$Wall") (F := F_Wall) (N := 9) hx hb hts i_Wall hown hK hH hT45 (by decide) rfl 2 (by decide) (hts _ m_301) (fun _ h9 => h9) (kd := (2, 57)) rfl (x_fr e55) d_Wall_init_90 ?_
      obtain ⟨q56, e57, hf⟩ := x_b hf
      refine x_callN (va_runI (As := [.ref (ad a52), .ref (ad a54)]) (rest := [.ref (ad q24.2.1), .int l4, .ref (ad a38)]) ⟨hx, hb, hml, hown, hts⟩ (c_Flow_init l D aC ad M hlin T42 (q24.2.1 + 1) w33 q24.2.1 a52 a54 q56 e57) (cwI 2 hts (x_gI m_278) rfl rfl rfl (hts _ m_11) (hts _ m_276) (hts _ m_277) rfl pd_Flow_init ⟨Nat.le_of_ble_eq_true rfl, Nat.le_of_ble_eq_true rfl⟩) (x_preN hz hH hK hX hAo) rfl rfl hl.1 rfl (lv_room (Nat.le_of_ble_eq_true rfl)) d_Wall_init_93 ⟨(by show _ ≤ 48; omega), (by show _ ≤ 518; omega)⟩) hz hH hA hS (fun H locs hz hH hS => ?_)
      refine x_pc 96 rfl ?_
      obtain ⟨_, e58, hf⟩ := x_b hf
      obtain ⟨n59, hT60⟩ := x_is_e e58
      obtain ⟨_, e61, hf⟩ := x_b hf
      obtain ⟨n62, hT63, hi64⟩ := x_ix_e e61
      refine x_aastZ (r := ("WallDamp$Flow", F_Flow, 5)) hx hb hK hH hS hT63 (by decide) 5 rfl hT60 (by decide) rfl hi64 d_Wall_init_96 (fun H locs hz1 hH hS => ?_)
      have hz := hz1.trans hz
      obtain ⟨w65, e66, hf⟩ := x_b hf
      have hH := x_nw e66 hH
      refine lv_iinc (v := (l4 + 1)) (lv' := [(4, .int (l4 + 1)), (0, .ref (ad l0)), (2, .ref (ad l2)), (3, .int l3)]) hx hb d_Wall_init_97 hl (k := 3) rfl rfl (by decide) rfl (fun ls hl => ?_)
      refine x_pc 100 rfl ?_
      refine lv_goto (tgt := 51) hx hb d_Wall_init_100 (by decide) ?_
      exact ih (cn + 2) (sl + 20) (by omega) (by omega) q56.1 q56.2.1 w65 _ _ _ l0 l2 l3 (l4 + 1) hf hz hH hS (lv_sub hl [1, 2, 3, 0] rfl)
set_option maxHeartbeats 4000000 in
set_option maxRecDepth 100000 in
theorem k_Wall_init {p : Program} {l : Launch} {e : Env} {s : State} {m : MethodId} {args : Array Value} {below : List Frame} {meth : Method} {c : Code} {D : va_G} {aC : Nat → ClassId} {ad : Nat → Nat} {M : Nat} {A : Nat → Prop} {q : x_T × Nat × x_W} (C0 : x_At p s m meth c args "WallDamp$Wall" b_Wall_init none 5 D aC A) (hin : meth.name = "<init>") (hAo : x_Ao s) (hlin : x_Lin ad M) : ∀ (T : x_T) (nx : Nat) (w : x_W) (H : Heap) (locs : List Loc) (ls : Array Slot) (l0 : Nat) (l1 : Int32) (l2 : Nat), f_Wall_init M T nx w l0 l1 l2 = some q → H.size = ad nx → x_H D x_cl x_FT aC ad T nx A w H → va_S A s.heap H locs → lv_has ls 5 [(0, .ref (ad l0)), (1, .int l1), (2, .ref (ad l2))] → W p l e { frames := 3, cells := 48, slots := 518, locals := 61 } s m args below meth c H locs 0 0 (MQ below (x_Qn D aC ad q A) args s 48 518 A) (F0 m 0 ls []) := by
  obtain ⟨hx, hb, hr, hml, hown, hts, hlocks, hK, hA, hX⟩ := id C0
  intro T nx w H locs ls l0 l1 l2 hf hz hH hS hl
  unfold f_Wall_init at hf
  refine lv_aload_n hx hb d_Wall_init_0 rfl (lv_at hl 0 rfl) ?_
  refine W.objInit hx hb hown (hts _ m_166) (hts _ m_25) (hts _ m_26) (g := F0 m 1 ls (.ref (ad l0) :: [])) rfl (hl.1.trans hml.symm) rfl d_Wall_init_1 (Nat.le_of_ble_eq_true rfl) (Nat.le_of_ble_eq_true rfl) ?_
  refine lv_iconst (v := 1) hx hb d_Wall_init_4 (by decide) ?_
  refine lv_iload_n hx hb d_Wall_init_5 rfl (lv_at hl 1 rfl) ?_
  obtain ⟨q1, e2, hf⟩ := x_b hf
  refine x_callP (st1 := [.int q1]) (x_runS (As := [.int (1 : Int32), .int l1]) (rest := []) ⟨hx, hb, hml, hown, hts⟩ (c_Math_max l D aC ad T nx H.size w (1 : Int32) l1 q1 e2) (va_cwS 2 hts (x_gS m_167 m_31 m_2 m_32) rfl rfl rfl pd_Math_max ⟨Nat.le_of_ble_eq_true rfl, Nat.le_of_ble_eq_true rfl⟩) hH hK hX rfl hl.1 rfl (lv_room (Nat.le_of_ble_eq_true rfl)) d_Wall_init_6 ⟨(by show _ ≤ 48; omega), (by show _ ≤ 518; omega)⟩) rfl ?_
  refine lv_istore_n (lv' := [(3, .int q1), (0, .ref (ad l0)), (1, .int l1), (2, .ref (ad l2))]) hx hb d_Wall_init_9 rfl hl (by decide) rfl (fun ls hl => ?_)
  refine lv_aload_n hx hb d_Wall_init_10 rfl (lv_at hl 1 rfl) ?_
  refine x_pc 11 rfl ?_
  refine x_cs 0 0 rfl rfl ?_
  obtain ⟨_, e3, hf⟩ := x_b hf
  refine x_new (C := "WallDamp$Air") (F := F_Air) (N := 9) (ci := 1) hx hb hts i_Air t_Air ty_Air hown (hts _ m_168) (hts _ m_169) (hts _ m_9) hK hH hS hA hz (by decide) rfl df_Air (by show _ ≤ 48; omega) (by show _ ≤ 518; omega) d_Wall_init_11 (fun H hz1 hH hS => ?_)
  have hz := x_lin hlin e3 hz1
  obtain ⟨T5, e4, hf⟩ := x_b hf
  have hH := x_nT e4 hH
  refine lv_dup hx hb d_Wall_init_14 rfl ?_
  obtain ⟨q6, e7, hf⟩ := x_b hf
  refine x_callN (va_runI (As := []) (rest := [.ref (ad nx), .ref (ad l0)]) ⟨hx, hb, hml, hown, hts⟩ (c_Air_init l D aC ad M hlin T5 (nx + 1) w nx q6 e7) (cwI 0 hts (x_gI m_172) rfl rfl rfl (hts _ m_9) (hts _ m_170) (hts _ m_171) rfl pd_Air_init ⟨Nat.le_of_ble_eq_true rfl, Nat.le_of_ble_eq_true rfl⟩) (x_preN hz hH hK hX hAo) rfl rfl hl.1 rfl (lv_room (Nat.le_of_ble_eq_true rfl)) d_Wall_init_15 ⟨(by show _ ≤ 48; omega), (by show _ ≤ 518; omega)⟩) hz hH hA hS (fun H locs hz hH hS => ?_)
  obtain ⟨_, e8, hf⟩ := x_b hf
  obtain ⟨n9, hT10⟩ := x_is_e e8
  obtain ⟨_, e11, hf⟩ := x_b hf
  refine x_putFZ (C := "WallDamp$Wall") (F := F_Wall) (N := 9) (ty := t_Wall 1) (v := .ref (ad nx)) (w' := x_sR q6.2.2 56 l0 (some nx)) hx hb hts i_Wall t_Wall ty_Wall n_Wall hown hK hH hS hT10 (by decide) rfl rfl 1 (by decide) (hts _ m_299) (fun _ h9 => h9) rfl hin rfl (ty_Wall 1 (by decide)) rfl rfl (x_on_R (v := some nx) hT10 (by decide) rfl nd_Wall k3_Wall) (fun j hj => x_off_R hj) (fun hh => x_ok_R hh (x_ex_lt e11 hH)) d_Wall_init_18 (fun H locs hz1 hH hS => ?_)
  have hz := hz1.trans hz
  obtain ⟨w12, e13, hf⟩ := x_b hf
  have hH := x_nw e13 hH
  refine lv_aload_n hx hb d_Wall_init_21 rfl (lv_at hl 1 rfl) ?_
  obtain ⟨_, e14, hf⟩ := x_b hf
  refine x_new (C := "WallDamp$Air") (F := F_Air) (N := 9) (ci := 1) hx hb hts i_Air t_Air ty_Air hown (hts _ m_168) (hts _ m_169) (hts _ m_9) hK hH hS hA hz (by decide) rfl df_Air (by show _ ≤ 48; omega) (by show _ ≤ 518; omega) d_Wall_init_22 (fun H hz1 hH hS => ?_)
  have hz := x_lin hlin e14 hz1
  obtain ⟨T16, e15, hf⟩ := x_b hf
  have hH := x_nT e15 hH
  refine lv_dup hx hb d_Wall_init_25 rfl ?_
  obtain ⟨q17, e18, hf⟩ := x_b hf
  refine x_callN (va_runI (As := []) (rest := [.ref (ad q6.2.1), .ref (ad l0)]) ⟨hx, hb, hml, hown, hts⟩ (c_Air_init l D aC ad M hlin T16 (q6.2.1 + 1) w12 q6.2.1 q17 e18) (cwI 0 hts (x_gI m_172) rfl rfl rfl (hts _ m_9) (hts _ m_170) (hts _ m_171) rfl pd_Air_init ⟨Nat.le_of_ble_eq_true rfl, Nat.le_of_ble_eq_true rfl⟩) (x_preN hz hH hK hX hAo) rfl rfl hl.1 rfl (lv_room (Nat.le_of_ble_eq_true rfl)) d_Wall_init_26 ⟨(by show _ ≤ 48; omega), (by show _ ≤ 518; omega)⟩) hz hH hA hS (fun H locs hz hH hS => ?_)
  refine x_pc 29 rfl ?_
  refine x_cs 2 18 rfl rfl ?_
  obtain ⟨_, e19, hf⟩ := x_b hf
  obtain ⟨n20, hT21⟩ := x_is_e e19
  obtain ⟨_, e22, hf⟩ := x_b hf
  refine x_putFZ (C := "WallDamp$Wall") (F := F_Wall) (N := 9) (ty := t_Wall 2) (v := .ref (ad q6.2.1)) (w' := x_sR q17.2.2 57 l0 (some q6.2.1)) hx hb hts i_Wall t_Wall ty_Wall n_Wall hown hK hH hS hT21 (by decide) rfl rfl 2 (by decide) (hts _ m_301) (fun _ h9 => h9) rfl hin rfl (ty_Wall 2 (by decide)) rfl rfl (x_on_R (v := some q6.2.1) hT21 (by decide) rfl nd_Wall k3_Wall) (fun j hj => x_off_R hj) (fun hh => x_ok_R hh (x_ex_lt e22 hH)) d_Wall_init_29 (fun H locs hz1 hH hS => ?_)
  have hz := hz1.trans hz
  obtain ⟨w23, e24, hf⟩ := x_b hf
  have hH := x_nw e24 hH
  refine lv_aload_n hx hb d_Wall_init_32 rfl (lv_at hl 1 rfl) ?_
  refine lv_iload_n hx hb d_Wall_init_33 rfl (lv_at hl 0 rfl) ?_
  obtain ⟨_, e25, hf⟩ := x_b hf
  obtain ⟨n27, e26, hf⟩ := x_b hf
  obtain ⟨hn28, hN29, hM30⟩ := x_sz_e e26
  refine x_newq (ci := 104) hx hb hown (hts _ m_224) hAo.2.1 hK hH hS hA hz 4 rfl (by decide) hn28 hN29 (by omega) (by show _ ≤ 48; omega) (by show _ ≤ 518; omega) d_Wall_init_34 (fun H hz1 hH hS => ?_)
  have hz := x_lin hlin e25 hz1
  obtain ⟨T32, e31, hf⟩ := x_b hf
  have hH := x_nT e31 hH
  refine W.widen (k := 3) (n := 58) (by omega) (by omega) ?_
  obtain ⟨_, e33, hf⟩ := x_b hf
  obtain ⟨n34, hT35⟩ := x_is_e e33
  obtain ⟨_, e36, hf⟩ := x_b hf
  refine x_putFZ (C := "WallDamp$Wall") (F := F_Wall) (N := 9) (ty := t_Wall 0) (v := .ref (ad q17.2.1)) (w' := x_sR w23 55 l0 (some q17.2.1)) hx hb hts i_Wall t_Wall ty_Wall n_Wall hown hK hH hS hT35 (by decide) rfl rfl 0 (by decide) (hts _ m_296) (fun _ h9 => h9) rfl hin rfl (ty_Wall 0 (by decide)) rfl rfl (x_on_R (v := some q17.2.1) hT35 (by decide) rfl nd_Wall k3_Wall) (fun j hj => x_off_R hj) (fun hh => x_ok_R hh (x_ex_lt e36 hH)) d_Wall_init_37 (fun H locs hz1 hH hS => ?_)
  have hz := hz1.trans hz
  obtain ⟨w37, e38, hf⟩ := x_b hf
  have hH := x_nw e38 hH
  refine lv_aload_n hx hb d_Wall_init_40 rfl (lv_at hl 1 rfl) ?_
  refine lv_iload_n hx hb d_Wall_init_41 rfl (lv_at hl 0 rfl) ?_
  obtain ⟨_, e39, hf⟩ := x_b hf
  obtain ⟨n41, e40, hf⟩ := x_b hf
  obtain ⟨hn42, hN43, hM44⟩ := x_sz_e e40
  refine x_newq (ci := 105) hx hb hown (hts _ m_226) hAo.2.2 hK hH hS hA hz 5 rfl (by decide) hn42 hN43 (by omega) (by show _ ≤ 48; omega) (by show _ ≤ 518; omega) d_Wall_init_42 (fun H hz1 hH hS => ?_)
  have hz := x_lin hlin e39 hz1
  obtain ⟨T46, e45, hf⟩ := x_b hf
  have hH := x_nT e45 hH
  refine W.widen (k := 4) (n := 98) (by omega) (by omega) ?_
  refine x_pc 45 rfl ?_
  refine x_cs 4 98 rfl rfl ?_
  obtain ⟨_, e47, hf⟩ := x_b hf
  obtain ⟨n48, hT49⟩ := x_is_e e47
  obtain ⟨_, e50, hf⟩ := x_b hf
  refine x_putFZ (C := "WallDamp$Wall") (F := F_Wall) (N := 9) (ty := t_Wall 6) (v := .ref (ad (q17.2.1 + 1))) (w' := x_sR w37 61 l0 (some (q17.2.1 + 1))) hx hb hts i_Wall t_Wall ty_Wall n_Wall hown hK hH hS hT49 (by decide) rfl rfl 6 (by decide) (hts _ m_306) (fun _ h9 => h9) rfl hin rfl (ty_Wall 6 (by decide)) rfl rfl (x_on_R (v := some (q17.2.1 + 1)) hT49 (by decide) rfl nd_Wall k3_Wall) (fun j hj => x_off_R hj) (fun hh => x_ok_R hh (x_ex_lt e50 hH)) d_Wall_init_45 (fun H locs hz1 hH hS => ?_)
  have hz := hz1.trans hz
  obtain ⟨w51, e52, hf⟩ := x_b hf
  have hH := x_nw e52 hH
  refine lv_iconst (v := 0) hx hb d_Wall_init_48 (by decide) ?_
  refine lv_istore (lv' := [(4, .int (0 : Int32)), (3, .int q1), (0, .ref (ad l0)), (1, .int l1), (2, .ref (ad l2))]) hx hb d_Wall_init_49 hl (by decide) rfl (fun ls hl => ?_)
  exact k_Wall_init_51 C0 hin hAo hlin 13 4 98 (by decide) (by decide) T46 (q17.2.1 + 2) w51 _ _ _ l0 l2 q1 (0 : Int32) hf hz hH hS (lv_sub hl [2, 4, 1, 0] rfl)
theorem c_Wall_init (l : Launch) (D : va_G) (aC : Nat → ClassId) (ad : Nat → Nat) (M : Nat) (hlin : x_Lin ad M) (T : x_T) (nx : Nat) (w : x_W) (a0 : Nat) (a1 : Int32) (a2 : Nat) (q : x_T × Nat × x_W) (hf : f_Wall_init M T nx w a0 a1 a2 = some q) : Met l y_Wall_init ws_Wall_init { frames := 3, cells := 48, slots := 518, locals := 61 } (x_Pn D aC ad T nx w [.ref (ad a0), .int a1, .ref (ad a2)]) (x_Qn D aC ad q (x_dom ad nx (ad nx))) 48 518 (x_dom ad nx (ad nx)) :=
  x_metN [(0, .ref (ad a0)), (1, .int a1), (2, .ref (ad a2))] (by decide) rfl rfl rfl (Nat.le_of_ble_eq_true rfl) (fun p e s m args below meth c ls C0 hin hAo hz hH hS hl => k_Wall_init C0 hin hAo hlin T nx w _ _ _ a0 a1 a2 hf hz hH hS (lv_sub hl [0, 1, 2] rfl))
