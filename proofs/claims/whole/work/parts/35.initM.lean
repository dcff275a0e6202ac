/-! WallDampModel.<init>(I)V -/
def f_Mod_init_357 (M : Nat) : Nat → x_T → Nat → x_W → Nat → Int32 → Option (x_T × Nat × x_W)
  | 0, _, _, _, _, _ => none
  | n + 1, T, nx, w, l0, l2 =>
    if (12 : Int32) ≤ l2 then
      (some (T, nx, w))
    else
      ((x_is T l0 10).bind fun _ =>
      (x_R w 73 l0).bind fun a5 =>
      (x_ix T a5 100 l2).bind fun _ =>
      (some (x_sA w a5 l2.toNatClampNeg (10 : Int32))).bind fun w11 =>
      f_Mod_init_357 M n T nx w11 l0 (l2 + 1))
def f_Mod_init_328 (M : Nat) : Nat → x_T → Nat → x_W → Nat → Int32 → Option (x_T × Nat × x_W)
  | 0, _, _, _, _, _ => none
  | n + 1, T, nx, w, l0, l2 =>
    if (6 : Int32) ≤ l2 then
      (f_Mod_init_357 M 1000 T nx w l0 (0 : Int32))
    else
      ((x_is T l0 10).bind fun _ =>
      (x_R w 66 l0).bind fun a5 =>
      (x_ix T a5 100 l2).bind fun _ =>
      (some (x_sA w a5 l2.toNatClampNeg (1 : Int32))).bind fun w11 =>
      (x_R w11 71 l0).bind fun a13 =>
      (x_ix T a13 100 l2).bind fun _ =>
      (some (x_sA w11 a13 l2.toNatClampNeg (100 : Int32))).bind fun w19 =>
      f_Mod_init_328 M n T nx w19 l0 (l2 + 1))
def f_Mod_init_323 (M : Nat) (T : x_T) (nx : Nat) (w : x_W) (l0 : Nat) (t0 : Nat) (t1 : Int32) : Option (x_T × Nat × x_W) :=
  (x_is T t0 10).bind fun _ =>
  (some (x_sI w 65 t0 t1)).bind fun w4 =>
  f_Mod_init_328 M 1000 T nx w4 l0 (0 : Int32)
def f_Mod_init (M : Nat) (T : x_T) (nx : Nat) (w : x_W) (l0 : Nat) (l1 : Int32) : Option (x_T × Nat × x_W) :=
  (x_lt nx M).bind fun _ =>
  (x_sz (6 : Int32) 6).bind fun n3 =>
  (some (x_uT T nx 100 n3)).bind fun T8 =>
  (x_is T8 l0 10).bind fun _ =>
  (x_ex T8 nx).bind fun _ =>
  (some (x_sR w 66 l0 (some nx))).bind fun w13 =>
  (x_lt (nx + 1) M).bind fun _ =>
  (x_sz (42 : Int32) 42).bind fun n17 =>
  (some (x_uT T8 (nx + 1) 100 n17)).bind fun T22 =>
  (x_is T22 l0 10).bind fun _ =>
  (x_ex T22 (nx + 1)).bind fun _ =>
  (some (x_sR w13 67 l0 (some (nx + 1)))).bind fun w27 =>
  (x_lt (nx + 2) M).bind fun _ =>
  (x_sz (42 : Int32) 42).bind fun n31 =>
  (some (x_uT T22 (nx + 2) 100 n31)).bind fun T36 =>
  (x_is T36 l0 10).bind fun _ =>
  (x_ex T36 (nx + 2)).bind fun _ =>
  (some (x_sR w27 68 l0 (some (nx + 2)))).bind fun w41 =>
  (x_lt (nx + 3) M).bind fun _ =>
  (x_sz (6 : Int32) 6).bind fun n45 =>
  (some (x_uT T36 (nx + 3) 100 n45)).bind fun T50 =>
  (x_is T50 l0 10).bind fun _ =>
  (x_ex T50 (nx + 3)).bind fun _ =>
  (some (x_sR w41 69 l0 (some (nx + 3)))).bind fun w55 =>
  (x_lt (nx + 4) M).bind fun _ =>
  (x_sz (6 : Int32) 6).bind fun n59 =>
  (some (x_uT T50 (nx + 4) 100 n59)).bind fun T64 =>
  (x_is T64 l0 10).bind fun _ =>
  (x_ex T64 (nx + 4)).bind fun _ =>
  (some (x_sR w55 70 l0 (some (nx + 4)))).bind fun w69 =>
  (x_lt (nx + 5) M).bind fun _ =>
  (x_sz (6 : Int32) 6).bind fun n73 =>
  (some (x_uT T64 (nx + 5) 100 n73)).bind fun T78 =>
  (x_is T78 l0 10).bind fun _ =>
  (x_ex T78 (nx + 5)).bind fun _ =>
  (some (x_sR w69 71 l0 (some (nx + 5)))).bind fun w83 =>
  (x_lt (nx + 6) M).bind fun _ =>
  (x_sz (12 : Int32) 12).bind fun n87 =>
  (some (x_uT T78 (nx + 6) 100 n87)).bind fun T92 =>
  (x_is T92 l0 10).bind fun _ =>
  (x_ex T92 (nx + 6)).bind fun _ =>
  (some (x_sR w83 72 l0 (some (nx + 6)))).bind fun w97 =>
  (x_lt (nx + 7) M).bind fun _ =>
  (x_sz (12 : Int32) 12).bind fun n101 =>
  (some (x_uT T92 (nx + 7) 100 n101)).bind fun T106 =>
  (x_is T106 l0 10).bind fun _ =>
  (x_ex T106 (nx + 7)).bind fun _ =>
  (some (x_sR w97 73 l0 (some (nx + 7)))).bind fun w111 =>
  (x_lt (nx + 8) M).bind fun _ =>
  (x_sz (12 : Int32) 12).bind fun n115 =>
  (some (x_uT T106 (nx + 8) 101 n115)).bind fun T120 =>
  (x_is T120 l0 10).bind fun _ =>
  (x_ex T120 (nx + 8)).bind fun _ =>
  (some (x_sR w111 74 l0 (some (nx + 8)))).bind fun w125 =>
  (x_lt (nx + 9) M).bind fun _ =>
  (x_sz (12 : Int32) 12).bind fun n129 =>
  (some (x_uT T120 (nx + 9) 100 n129)).bind fun T134 =>
  (x_is T134 l0 10).bind fun _ =>
  (x_ex T134 (nx + 9)).bind fun _ =>
  (some (x_sR w125 75 l0 (some (nx + 9)))).bind fun w139 =>
  (x_lt (nx + 10) M).bind fun _ =>
  (x_sz (12 : Int32) 12).bind fun n143 =>
  (some (x_uT T134 (nx + 10) 100 n143)).bind fun T148 =>
  (x_is T148 l0 10).bind fun _ =>
  (x_ex T148 (nx + 10)).bind fun _ =>
  (some (x_sR w139 76 l0 (some (nx + 10)))).bind fun w153 =>
  (x_lt (nx + 11) M).bind fun _ =>
  (x_sz (12 : Int32) 12).bind fun n157 =>
  (some (x_uT T148 (nx + 11) 100 n157)).bind fun T162 =>
  (x_is T162 l0 10).bind fun _ =>
  (x_ex T162 (nx + 11)).bind fun _ =>
  (some (x_sR w153 77 l0 (some (nx + 11)))).bind fun w167 =>
  (x_lt (nx + 12) M).bind fun _ =>
  (x_sz (12 : Int32) 12).bind fun n171 =>
  (some (x_uT T162 (nx + 12) 102 n171)).bind fun T176 =>
  (x_is T176 l0 10).bind fun _ =>
  (x_ex T176 (nx + 12)).bind fun _ =>
  (some (x_sR w167 78 l0 (some (nx + 12)))).bind fun w181 =>
  (x_lt (nx + 13) M).bind fun _ =>
  (x_sz (12 : Int32) 12).bind fun n185 =>
  (some (x_uT T176 (nx + 13) 100 n185)).bind fun T190 =>
  (x_is T190 l0 10).bind fun _ =>
  (x_ex T190 (nx + 13)).bind fun _ =>
  (some (x_sR w181 79 l0 (some (nx + 13)))).bind fun w195 =>
  (x_lt (nx + 14) M).bind fun _ =>
  (x_sz (8 : Int32) 8).bind fun n199 =>
  (some (x_uT T190 (nx + 14) 100 n199)).bind fun T204 =>
  (x_is T204 l0 10).bind fun _ =>
  (x_ex T204 (nx + 14)).bind fun _ =>
  (some (x_sR w195 81 l0 (some (nx + 14)))).bind fun w209 =>
  (x_lt (nx + 15) M).bind fun _ =>
  (x_sz (8 : Int32) 8).bind fun n213 =>
  (some (x_uT T204 (nx + 15) 100 n213)).bind fun T218 =>
  (x_is T218 l0 10).bind fun _ =>
  (x_ex T218 (nx + 15)).bind fun _ =>
  (some (x_sR w209 82 l0 (some (nx + 15)))).bind fun w223 =>
  (some (x_sI w223 83 l0 (10 : Int32))).bind fun w225 =>
  (some (x_sI w225 84 l0 (10 : Int32))).bind fun w227 =>
  (x_lt (nx + 16) M).bind fun _ =>
  (x_sz (24 : Int32) 24).bind fun n231 =>
  (some (x_uT T218 (nx + 16) 100 n231)).bind fun T236 =>
  (x_is T236 l0 10).bind fun _ =>
  (x_ex T236 (nx + 16)).bind fun _ =>
  (some (x_sR w227 85 l0 (some (nx + 16)))).bind fun w241 =>
  (x_lt (nx + 17) M).bind fun _ =>
  (x_sz (24 : Int32) 24).bind fun n245 =>
  (some (x_uT T236 (nx + 17) 100 n245)).bind fun T250 =>
  (x_is T250 l0 10).bind fun _ =>
  (x_ex T250 (nx + 17)).bind fun _ =>
  (some (x_sR w241 86 l0 (some (nx + 17)))).bind fun w255 =>
  (x_lt (nx + 18) M).bind fun _ =>
  (x_sz (24 : Int32) 24).bind fun n259 =>
  (some (x_uT T250 (nx + 18) 100 n259)).bind fun T264 =>
  (x_is T264 l0 10).bind fun _ =>
  (x_ex T264 (nx + 18)).bind fun _ =>
  (some (x_sR w255 87 l0 (some (nx + 18)))).bind fun w269 =>
  (x_lt (nx + 19) M).bind fun _ =>
  (x_sz (24 : Int32) 24).bind fun n273 =>
  (some (x_uT T264 (nx + 19) 100 n273)).bind fun T278 =>
  (x_is T278 l0 10).bind fun _ =>
  (x_ex T278 (nx + 19)).bind fun _ =>
  (some (x_sR w269 88 l0 (some (nx + 19)))).bind fun w283 =>
  (x_lt (nx + 20) M).bind fun _ =>
  (x_sz (24 : Int32) 24).bind fun n287 =>
  (some (x_uT T278 (nx + 20) 100 n287)).bind fun T292 =>
  (x_is T292 l0 10).bind fun _ =>
  (x_ex T292 (nx + 20)).bind fun _ =>
  (some (x_sR w283 89 l0 (some (nx + 20)))).bind fun w297 =>
  (x_lt (nx + 21) M).bind fun _ =>
  (x_sz (24 : Int32) 24).bind fun n301 =>
  (some (x_uT T292 (nx + 21) 100 n301)).bind fun T306 =>
  (x_is T306 l0 10).bind fun _ =>
  (x_ex T306 (nx + 21)).bind fun _ =>
  (some (x_sR w297 90 l0 (some (nx + 21)))).bind fun w311 =>
  (x_lt (nx + 22) M).bind fun _ =>
  (x_sz (6 : Int32) 6).bind fun n315 =>
  (some (x_uT T306 (nx + 22) 100 n315)).bind fun T320 =>
  (x_is T320 l0 10).bind fun _ =>
  (x_ex T320 (nx + 22)).bind fun _ =>
  (some (x_sR w311 92 l0 (some (nx + 22)))).bind fun w325 =>
  (x_lt (nx + 23) M).bind fun _ =>
  (x_sz (6 : Int32) 6).bind fun n329 =>
  (some (x_uT T320 (nx + 23) 100 n329)).bind fun T334 =>
  (x_is T334 l0 10).bind fun _ =>
  (x_ex T334 (nx + 23)).bind fun _ =>
  (some (x_sR w325 93 l0 (some (nx + 23)))).bind fun w339 =>
  (x_lt (nx + 24) M).bind fun _ =>
  (x_sz (6 : Int32) 6).bind fun n343 =>
  (some (x_uT T334 (nx + 24) 100 n343)).bind fun T348 =>
  (x_is T348 l0 10).bind fun _ =>
  (x_ex T348 (nx + 24)).bind fun _ =>
  (some (x_sR w339 94 l0 (some (nx + 24)))).bind fun w353 =>
  (x_lt (nx + 25) M).bind fun _ =>
  (x_sz (6 : Int32) 6).bind fun n357 =>
  (some (x_uT T348 (nx + 25) 100 n357)).bind fun T362 =>
  (x_is T362 l0 10).bind fun _ =>
  (x_ex T362 (nx + 25)).bind fun _ =>
  (some (x_sR w353 95 l0 (some (nx + 25)))).bind fun w367 =>
  (x_lt (nx + 26) M).bind fun _ =>
  (x_sz (12 : Int32) 12).bind fun n371 =>
  (some (x_uT T362 (nx + 26) 101 n371)).bind fun T376 =>
  (x_is T376 l0 10).bind fun _ =>
  (x_ex T376 (nx + 26)).bind fun _ =>
  (some (x_sR w367 103 l0 (some (nx + 26)))).bind fun w381 =>
  (x_lt (nx + 27) M).bind fun _ =>
  (x_sz (12 : Int32) 12).bind fun n385 =>
  (some (x_uT T376 (nx + 27) 100 n385)).bind fun T390 =>
  (x_is T390 l0 10).bind fun _ =>
  (x_ex T390 (nx + 27)).bind fun _ =>
  (some (x_sR w381 104 l0 (some (nx + 27)))).bind fun w395 =>
  (x_lt (nx + 28) M).bind fun _ =>
  (x_sz (72 : Int32) 72).bind fun n399 =>
  (some (x_uT T390 (nx + 28) 101 n399)).bind fun T404 =>
  (x_is T404 l0 10).bind fun _ =>
  (x_ex T404 (nx + 28)).bind fun _ =>
  (some (x_sR w395 105 l0 (some (nx + 28)))).bind fun w409 =>
  (x_lt (nx + 29) M).bind fun _ =>
  (x_sz (12 : Int32) 12).bind fun n413 =>
  (some (x_uT T404 (nx + 29) 100 n413)).bind fun T418 =>
  (x_is T418 l0 10).bind fun _ =>
  (x_ex T418 (nx + 29)).bind fun _ =>
  (some (x_sR w409 108 l0 (some (nx + 29)))).bind fun w423 =>
  (x_lt (nx + 30) M).bind fun _ =>
  (x_sz (12 : Int32) 12).bind fun n427 =>
  (some (x_uT T418 (nx + 30) 100 n427)).bind fun T432 =>
  (x_is T432 l0 10).bind fun _ =>
  (x_ex T432 (nx + 30)).bind fun _ =>
  (some (x_sR w423 109 l0 (some (nx + 30)))).bind fun w437 =>
  (x_lt (nx + 31) M).bind fun _ =>
  (x_sz (12 : Int32) 12).bind fun n441 =>
  (some (x_uT T432 (nx + 31) 100 n441)).bind fun T446 =>
  (x_is T446 l0 10).bind fun _ =>
  (x_ex T446 (nx + 31)).bind fun _ =>
  (some (x_sR w437 110 l0 (some (nx + 31)))).bind fun w451 =>
  (x_lt (nx + 32) M).bind fun _ =>
  (x_sz (5 : Int32) 5).bind fun n455 =>
  (some (x_uT T446 (nx + 32) 100 n455)).bind fun T460 =>
  (x_is T460 l0 10).bind fun _ =>
  (x_ex T460 (nx + 32)).bind fun _ =>
  (some (x_sR w451 111 l0 (some (nx + 32)))).bind fun w465 =>
  (x_lt (nx + 33) M).bind fun _ =>
  (x_sz (5 : Int32) 5).bind fun n469 =>
  (some (x_uT T460 (nx + 33) 100 n469)).bind fun T474 =>
  (x_is T474 l0 10).bind fun _ =>
  (x_ex T474 (nx + 33)).bind fun _ =>
  (some (x_sR w465 112 l0 (some (nx + 33)))).bind fun w479 =>
  (x_lt (nx + 34) M).bind fun _ =>
  (x_sz (5 : Int32) 5).bind fun n483 =>
  (some (x_uT T474 (nx + 34) 102 n483)).bind fun T488 =>
  (x_is T488 l0 10).bind fun _ =>
  (x_ex T488 (nx + 34)).bind fun _ =>
  (some (x_sR w479 113 l0 (some (nx + 34)))).bind fun w493 =>
  (x_lt (nx + 35) M).bind fun _ =>
  (x_sz (14 : Int32) 14).bind fun n497 =>
  (some (x_uT T488 (nx + 35) 101 n497)).bind fun T502 =>
  (x_is T502 l0 10).bind fun _ =>
  (x_ex T502 (nx + 35)).bind fun _ =>
  (some (x_sR w493 114 l0 (some (nx + 35)))).bind fun w507 =>
  if (1 : Int32) ≤ l1 then
    (if l1 ≤ (12 : Int32) then
      (f_Mod_init_323 M T502 (nx + 36) w507 l0 l0 l1)
    else
      (f_Mod_init_323 M T502 (nx + 36) w507 l0 l0 (12 : Int32)))
  else
    (f_Mod_init_323 M T502 (nx + 36) w507 l0 l0 (1 : Int32))
set_option maxHeartbeats 4000000 in
set_option maxRecDepth 100000 in
theorem k_Mod_init_357 {p : Program} {l : Launch} {e : Env} {s : State} {m : MethodId} {args : Array Value} {below : List Frame} {meth : Method} {c : Code} {D : va_G} {aC : Nat → ClassId} {ad : Nat → Nat} {M : Nat} {A : Nat → Prop} {q : x_T × Nat × x_W} (C0 : x_At p s m meth c args "WallDampModel" b_Mod_init none 3 D aC A) (hin : meth.name = "<init>") (hAo : x_Ao s) (hlin : x_Lin ad M) : ∀ (n : Nat), ∀ (T : x_T) (nx : Nat) (w : x_W) (H : Heap) (locs : List Loc) (ls : Array Slot) (l0 : Nat) (l2 : Int32), f_Mod_init_357 M n T nx w l0 l2 = some q → H.size = ad nx → x_H D x_cl x_FT aC ad T nx A w H → va_S A s.heap H locs → lv_has ls 3 [(0, .ref (ad l0)), (2, .int l2)] → W p l e { frames := 1, cells := 36, slots := 549, locals := 20 } s m args below meth c H locs 36 549 (MQ below (x_Qn D aC ad q A) args s 36 549 A) (F0 m 357 ls []) := by
  obtain ⟨hx, hb, hr, hml, hown, hts, hlocks, hK, hA, hX⟩ := id C0
  intro n
  induction n with
  | zero => intro T nx w H locs ls l0 l2 hf; cases (show none = some q from hf)
  | succ n ih =>
    intro T nx w H locs ls l0 l2 hf hz hH hS hl
    unfold f_Mod_init_357 at hf
    refine lv_iload_n hx hb d_Mod_init_357 rfl (lv_at hl 1 rfl) ?_
    refine lv_bipush (v := 12) hx hb d_Mod_init_358 (by decide) ?_
    refine x_pc 360 rfl ?_
    refine lv_icmp_ge (tgt := 377) hx hb d_Mod_init_360 (by decide) (fun c1 => ?_) (fun c1 => ?_)
    · have hf := x_it hf c1
      cases hf
      refine W.widen (k := 36) (n := 549) (by omega) (by omega) ?_
      exact W.vret hx hb hr (fun t ht hW => ⟨rfl, hS.F ht, by rw [ht]; exact hz, by rw [ht]; exact hH⟩) hS.2.2 d_Mod_init_377
    · have hf := x_if hf c1
      refine lv_aload_n hx hb d_Mod_init_363 rfl (lv_at hl 0 rfl) ?_
      obtain ⟨_, e2, hf⟩ := x_b hf
      obtain ⟨n3, hT4⟩ := x_is_e e2
      obtain ⟨a5, e6, hf⟩ := x_b hf
      refine x_get (C := "WallDampModel") (F := F_Mod) (N := 51) hx hb hts i_Mod hown hK hH hT4 (by decide) rfl 9 (by decide) (hts _ m_802) (fun _ h9 => h9) (kd := (2, 73)) rfl (x_fr e6) d_Mod_init_364 ?_
      refine lv_iload_n hx hb d_Mod_init_367 rfl (lv_at hl 1 rfl) ?_
      refine lv_bipush (v := 10) hx hb d_Mod_init_368 (by decide) ?_
      refine x_pc 370 rfl ?_
      refine x_cs 36 549 rfl rfl ?_
      obtain ⟨_, e7, hf⟩ := x_b hf
      obtain ⟨n8, hT9, hi10⟩ := x_ix_e e7
      refine x_iastZ hx hb hK hH hS hT9 0 rfl hi10 d_Mod_init_370 (fun H locs hz1 hH hS => ?_)
      have hz := hz1.trans hz
      obtain ⟨w11, e12, hf⟩ := x_b hf
      have hH := x_nw e12 hH
      refine lv_iinc (v := (l2 + 1)) (lv' := [(2, .int (l2 + 1)), (0, .ref (ad l0))]) hx hb d_Mod_init_371 hl (k := 1) rfl rfl (by decide) rfl (fun ls hl => ?_)
      refine x_pc 374 rfl ?_
      refine lv_goto (tgt := 357) hx hb d_Mod_init_374 (by decide) ?_
      exact ih T nx w11 _ _ _ l0 (l2 + 1) hf hz hH hS (lv_sub hl [1, 0] rfl)
set_option maxHeartbeats 4000000 in
set_option maxRecDepth 100000 in
theorem k_Mod_init_328 {p : Program} {l : Launch} {e : Env} {s : State} {m : MethodId} {args : Array Value} {below : List Frame} {meth : Method} {c : Code} {D : va_G} {aC : Nat → ClassId} {ad : Nat → Nat} {M : Nat} {A : Nat → Prop} {q : x_T × Nat × x_W} (C0 : x_At p s m meth c args "WallDampModel" b_Mod_init none 3 D aC A) (hin : meth.name = "<init>") (hAo : x_Ao s) (hlin : x_Lin ad M) : ∀ (n : Nat), ∀ (T : x_T) (nx : Nat) (w : x_W) (H : Heap) (locs : List Loc) (ls : Array Slot) (l0 : Nat) (l2 : Int32), f_Mod_init_328 M n T nx w l0 l2 = some q → H.size = ad nx → x_H D x_cl x_FT aC ad T nx A w H → va_S A s.heap H locs → lv_has ls 3 [(0, .ref (ad l0)), (2, .int l2)] → W p l e { frames := 1, cells := 36, slots := 549, locals := 20 } s m args below meth c H locs 36 549 (MQ below (x_Qn D aC ad q A) args s 36 549 A) (F0 m 328 ls []) := by
  obtain ⟨hx, hb, hr, hml, hown, hts, hlocks, hK, hA, hX⟩ := id C0
  intro n
  induction n with
  | zero => intro T nx w H locs ls l0 l2 hf; cases (show none = some q from hf)
  | succ n ih =>
    intro T nx w H locs ls l0 l2 hf hz hH hS hl
    unfold f_Mod_init_328 at hf
    refine lv_iload_n hx hb d_Mod_init_328 rfl (lv_at hl 1 rfl) ?_
    refine lv_bipush (v := 6) hx hb d_Mod_init_329 (by decide) ?_
    refine x_pc 331 rfl ?_
    refine lv_icmp_ge (tgt := 355) hx hb d_Mod_init_331 (by decide) (fun c1 => ?_) (fun c1 => ?_)
    · have hf := x_it hf c1
      refine lv_iconst (v := 0) hx hb d_Mod_init_355 (by decide) ?_
      refine lv_istore_n (lv' := [(2, .int (0 : Int32)), (0, .ref (ad l0))]) hx hb d_Mod_init_356 rfl hl (by decide) rfl (fun ls hl => ?_)
      exact k_Mod_init_357 C0 hin hAo hlin 1000 T nx w _ _ _ l0 (0 : Int32) hf hz hH hS (lv_sub hl [1, 0] rfl)
    · have hf := x_if hf c1
      refine lv_aload_n hx hb d_Mod_init_334 rfl (lv_at hl 0 rfl) ?_
      obtain ⟨_, e2, hf⟩ := x_b hf
      obtain ⟨n3, hT4⟩ := x_is_e e2
      obtain ⟨a5, e6, hf⟩ := x_b hf
      refine x_get (C := "WallDampModel") (F := F_Mod) (N := 51) hx hb hts i_Mod hown hK hH hT4 (by decide) rfl 2 (by decide) (hts _ m_795) (fun _ h9 => h9) (kd := (2, 66)) rfl (x_fr e6) d_Mod_init_335 ?_
      refine lv_iload_n hx hb d_Mod_init_338 rfl (lv_at hl 1 rfl) ?_
      refine lv_iconst (v := 1) hx hb d_Mod_init_339 (by decide) ?_
      refine x_pc 340 rfl ?_
      refine x_cs 36 549 rfl rfl ?_
      obtain ⟨_, e7, hf⟩ := x_b hf
      obtain ⟨n8, hT9, hi10⟩ := x_ix_e e7
      refine x_iastZ hx hb hK hH hS hT9 0 rfl hi10 d_Mod_init_340 (fun H locs hz1 hH hS => ?_)
      have hz := hz1.trans hz
      obtain ⟨w11, e12, hf⟩ := x_b hf
      have hH := x_nw e12 hH
      refine lv_aload_n hx hb d_Mod_init_341 rfl (lv_at hl 0 rfl) ?_
      obtain ⟨a13, e14, hf⟩ := x_b hf
      refine x_get (C := "WallDampModel") (F := F_Mod) (N := 51) hx hb hts i_Mod hown hK hH hT4 (by decide) rfl 7 (by decide) (hts _ m_800) (fun _ h9 => h9) (kd := (2, 71)) rfl (x_fr e14) d_Mod_init_342 ?_
      refine lv_iload_n hx hb d_Mod_init_345 rfl (lv_at hl 1 rfl) ?_
      refine lv_bipush (v := 100) hx hb d_Mod_init_346 (by decide) ?_
      obtain ⟨_, e15, hf⟩ := x_b hf
      obtain ⟨n16, hT17, hi18⟩ := x_ix_e e15
      refine x_iastZ hx hb hK hH hS hT17 0 rfl hi18 d_Mod_init_348 (fun H locs hz1 hH hS => ?_)
      have hz := hz1.trans hz
      obtain ⟨w19, e20, hf⟩ := x_b hf
      have hH := x_nw e20 hH
      refine lv_iinc (v := (l2 + 1)) (lv' := [(2, .int (l2 + 1)), (0, .ref (ad l0))]) hx hb d_Mod_init_349 hl (k := 1) rfl rfl (by decide) rfl (fun ls hl => ?_)
      refine x_pc 352 rfl ?_
      refine lv_goto (tgt := 328) hx hb d_Mod_init_352 (by decide) ?_
      exact ih T nx w19 _ _ _ l0 (l2 + 1) hf hz hH hS (lv_sub hl [1, 0] rfl)
set_option maxHeartbeats 4000000 in
set_option maxRecDepth 100000 in
theorem k_Mod_init_323 {p : Program} {l : Launch} {e : Env} {s : State} {m : MethodId} {args : Array Value} {below : List Frame} {meth : Method} {c : Code} {D : va_G} {aC : Nat → ClassId} {ad : Nat → Nat} {M : Nat} {A : Nat → Prop} {q : x_T × Nat × x_W} (C0 : x_At p s m meth c args "WallDampModel" b_Mod_init none 3 D aC A) (hin : meth.name = "<init>") (hAo : x_Ao s) (hlin : x_Lin ad M) : ∀ (T : x_T) (nx : Nat) (w : x_W) (H : Heap) (locs : List Loc) (ls : Array Slot) (l0 : Nat) (t0 : Nat) (t1 : Int32), f_Mod_init_323 M T nx w l0 t0 t1 = some q → H.size = ad nx → x_H D x_cl x_FT aC ad T nx A w H → va_S A s.heap H locs → lv_has ls 3 [(0, .ref (ad l0))] → W p l e { frames := 1, cells := 36, slots := 549, locals := 20 } s m args below meth c H locs 36 549 (MQ below (x_Qn D aC ad q A) args s 36 549 A) (F0 m 323 ls [.int t1, .ref (ad t0)]) := by
  obtain ⟨hx, hb, hr, hml, hown, hts, hlocks, hK, hA, hX⟩ := id C0
  intro T nx w H locs ls l0 t0 t1 hf hz hH hS hl
  unfold f_Mod_init_323 at hf
  obtain ⟨_, e1, hf⟩ := x_b hf
  obtain ⟨n2, hT3⟩ := x_is_e e1
  refine x_putFZ (C := "WallDampModel") (F := F_Mod) (N := 51) (ty := t_Mod 1) (v := .int t1) (w' := x_sI w 65 t0 t1) hx hb hts i_Mod t_Mod ty_Mod n_Mod hown hK hH hS hT3 (by decide) rfl rfl 1 (by decide) (hts _ m_794) (fun _ h9 => h9) rfl hin rfl (ty_Mod 1 (by decide)) rfl rfl (x_on_I hT3 (by decide) rfl nd_Mod) (fun j hj => x_off_I hj) (fun hh ok => x_ok_I hh ok) d_Mod_init_323 (fun H locs hz1 hH hS => ?_)
  have hz := hz1.trans hz
  obtain ⟨w4, e5, hf⟩ := x_b hf
  have hH := x_nw e5 hH
  refine lv_iconst (v := 0) hx hb d_Mod_init_326 (by decide) ?_
  refine lv_istore_n (lv' := [(2, .int (0 : Int32)), (0, .ref (ad l0))]) hx hb d_Mod_init_327 rfl hl (by decide) rfl (fun ls hl => ?_)
  exact k_Mod_init_328 C0 hin hAo hlin 1000 T nx w4 _ _ _ l0 (0 : Int32) hf hz hH hS (lv_sub hl [1, 0] rfl)
set_option maxHeartbeats 4000000 in
set_option maxRecDepth 100000 in
theorem k_Mod_init {p : Program} {l : Launch} {e : Env} {s : State} {m : MethodId} {args : Array Value} {below : List Frame} {meth : Method} {c : Code} {D : va_G} {aC : Nat → ClassId} {ad : Nat → Nat} {M : Nat} {A : Nat → Prop} {q : x_T × Nat × x_W} (C0 : x_At p s m meth c args "WallDampModel" b_Mod_init none 3 D aC A) (hin : meth.name = "<init>") (hAo : x_Ao s) (hlin : x_Lin ad M) : ∀ (T : x_T) (nx : Nat) (w : x_W) (H : Heap) (locs : List Loc) (ls : Array Slot) (l0 : Nat) (l1 : Int32), f_Mod_init M T nx w l0 l1 = some q → H.size = ad nx → x_H D x_cl x_FT aC ad T nx A w H → va_S A s.heap H locs → lv_has ls 3 [(0, .ref (ad l0)), (1, .int l1)] → W p l e { frames := 1, cells := 36, slots := 549, locals := 20 } s m args below meth c H locs 0 0 (MQ below (x_Qn D aC ad q A) args s 36 549 A) (F0 m 0 ls []) := by
  obtain ⟨hx, hb, hr, hml, hown, hts, hlocks, hK, hA, hX⟩ := id C0
  intro T nx w H locs ls l0 l1 hf hz hH hS hl
  unfold f_Mod_init at hf
  refine lv_aload_n hx hb d_Mod_init_0 rfl (lv_at hl 0 rfl) ?_
  refine W.objInit hx hb hown (hts _ m_792) (hts _ m_25) (hts _ m_26) (g := F0 m 1 ls (.ref (ad l0) :: [])) rfl (hl.1.trans hml.symm) rfl d_Mod_init_1 (Nat.le_of_ble_eq_true rfl) (Nat.le_of_ble_eq_true rfl) ?_
  refine lv_aload_n hx hb d_Mod_init_4 rfl (lv_at hl 0 rfl) ?_
  refine lv_bipush (v := 6) hx hb d_Mod_init_5 (by decide) ?_
  obtain ⟨_, e1, hf⟩ := x_b hf
  obtain ⟨n3, e2, hf⟩ := x_b hf
  obtain ⟨hn4, hN5, hM6⟩ := x_sz_e e2
  refine x_newa (atype := .int) (ci := 100) hx hb (hts _ m_60) hK hH hS hA hz 0 rfl (fun h => h) hn4 hN5 (by show n3 * 4 ≤ _; omega) (by show _ ≤ 36; omega) (by show _ ≤ 549; omega) (Or.inl ⟨x_cell_a (by simp [x_uT]), rfl⟩) d_Mod_init_7 (fun H hz1 hH hS => ?_)
  have hz := x_lin hlin e1 hz1
  obtain ⟨T8, e7, hf⟩ := x_b hf
  have hH := x_nT e7 hH
  refine W.widen (k := 1) (n := 6) (by omega) (by omega) ?_
  obtain ⟨_, e9, hf⟩ := x_b hf
  obtain ⟨n10, hT11⟩ := x_is_e e9
  obtain ⟨_, e12, hf⟩ := x_b hf
  refine x_putFZ (C := "WallDampModel") (F := F_Mod) (N := 51) (ty := t_Mod 2) (v := .ref (ad nx)) (w' := x_sR w 66 l0 (some nx)) hx hb hts i_Mod t_Mod ty_Mod n_Mod hown hK hH hS hT11 (by decide) rfl rfl 2 (by decide) (hts _ m_795) (fun _ h9 => h9) rfl hin rfl (ty_Mod 2 (by decide)) rfl rfl (x_on_R (v := some nx) hT11 (by decide) rfl nd_Mod k3_Mod) (fun j hj => x_off_R hj) (fun hh => x_ok_R hh (x_ex_lt e12 hH)) d_Mod_init_9 (fun H locs hz1 hH hS => ?_)
  have hz := hz1.trans hz
  obtain ⟨w13, e14, hf⟩ := x_b hf
  have hH := x_nw e14 hH
  refine lv_aload_n hx hb d_Mod_init_12 rfl (lv_at hl 0 rfl) ?_
  refine x_pc 13 rfl ?_
  refine x_cs 1 6 rfl rfl ?_
  refine lv_bipush (v := 42) hx hb d_Mod_init_13 (by decide) ?_
  obtain ⟨_, e15, hf⟩ := x_b hf
  obtain ⟨n17, e16, hf⟩ := x_b hf
  obtain ⟨hn18, hN19, hM20⟩ := x_sz_e e16
  refine x_newa (atype := .int) (ci := 100) hx hb (hts _ m_60) hK hH hS hA hz 0 rfl (fun h => h) hn18 hN19 (by show n17 * 4 ≤ _; omega) (by show _ ≤ 36; omega) (by show _ ≤ 549; omega) (Or.inl ⟨x_cell_a (by simp [x_uT]), rfl⟩) d_Mod_init_15 (fun H hz1 hH hS => ?_)
  have hz := x_lin hlin e15 hz1
  obtain ⟨T22, e21, hf⟩ := x_b hf
  have hH := x_nT e21 hH
  refine W.widen (k := 2) (n := 48) (by omega) (by omega) ?_
  obtain ⟨_, e23, hf⟩ := x_b hf
  obtain ⟨n24, hT25⟩ := x_is_e e23
  obtain ⟨_, e26, hf⟩ := x_b hf
  refine x_putFZ (C := "WallDampModel") (F := F_Mod) (N := 51) (ty := t_Mod 3) (v := .ref (ad (nx + 1))) (w' := x_sR w13 67 l0 (some (nx + 1))) hx hb hts i_Mod t_Mod ty_Mod n_Mod hown hK hH hS hT25 (by decide) rfl rfl 3 (by decide) (hts _ m_796) (fun _ h9 => h9) rfl hin rfl (ty_Mod 3 (by decide)) rfl rfl (x_on_R (v := some (nx + 1)) hT25 (by decide) rfl nd_Mod k3_Mod) (fun j hj => x_off_R hj) (fun hh => x_ok_R hh (x_ex_lt e26 hH)) d_Mod_init_17 (fun H locs hz1 hH hS => ?_)
  have hz := hz1.trans hz
  obtain ⟨w27, e28, hf⟩ := x_b hf
  have hH := x_nw e28 hH
  refine lv_aload_n hx hb d_Mod_init_20 rfl (lv_at hl 0 rfl) ?_
  refine lv_bipush (v := 42) hx hb d_Mod_init_21 (by decide) ?_
  obtain ⟨_, e29, hf⟩ := x_b hf
  obtain ⟨n31, e30, hf⟩ := x_b hf
  obtain ⟨hn32, hN33, hM34⟩ := x_sz_e e30
  refine x_newa (atype := .int) (ci := 100) hx hb (hts _ m_60) hK hH hS hA hz 0 rfl (fun h => h) hn32 hN33 (by show n31 * 4 ≤ _; omega) (by show _ ≤ 36; omega) (by show _ ≤ 549; omega) (Or.inl ⟨x_cell_a (by simp [x_uT]), rfl⟩) d_Mod_init_23 (fun H hz1 hH hS => ?_)
  have hz := x_lin hlin e29 hz1
  obtain ⟨T36, e35, hf⟩ := x_b hf
  have hH := x_nT e35 hH
  refine W.widen (k := 3) (n := 90) (by omega) (by omega) ?_
  obtain ⟨_, e37, hf⟩ := x_b hf
  obtain ⟨n38, hT39⟩ := x_is_e e37
  obtain ⟨_, e40, hf⟩ := x_b hf
  refine x_putFZ (C := "WallDampModel") (F := F_Mod) (N := 51) (ty := t_Mod 4) (v := .ref (ad (nx + 2))) (w' := x_sR w27 68 l0 (some (nx + 2))) hx hb hts i_Mod t_Mod ty_Mod n_Mod hown hK hH hS hT39 (by decide) rfl rfl 4 (by decide) (hts _ m_797) (fun _ h9 => h9) rfl hin rfl (ty_Mod 4 (by decide)) rfl rfl (x_on_R (v := some (nx + 2)) hT39 (by decide) rfl nd_Mod k3_Mod) (fun j hj => x_off_R hj) (fun hh => x_ok_R hh (x_ex_lt e40 hH)) d_Mod_init_25 (fun H locs hz1 hH hS => ?_)
  have hz := hz1.trans hz
  obtain ⟨w41, e42, hf⟩ := x_b hf
  have hH := x_nw e42 hH
  refine lv_aload_n hx hb d_Mod_init_28 rfl (lv_at hl 0 rfl) ?_
  refine x_pc 29 rfl ?_
  refine x_cs 3 90 rfl rfl ?_
  refine lv_bipush (v := 6) hx hb d_Mod_init_29 (by decide) ?_
  obtain ⟨_, e43, hf⟩ := x_b hf
  obtain ⟨n45, e44, hf⟩ := x_b hf
  obtain ⟨hn46, hN47, hM48⟩ := x_sz_e e44
  refine x_newa (atype := .int) (ci := 100) hx hb (hts _ m_60) hK hH hS hA hz 0 rfl (fun h => h) hn46 hN47 (by show n45 * 4 ≤ _; omega) (by show _ ≤ 36; omega) (by show _ ≤ 549; omega) (Or.inl ⟨x_cell_a (by simp [x_uT]), rfl⟩) d_Mod_init_31 (fun H hz1 hH hS => ?_)
  have hz := x_lin hlin e43 hz1
  obtain ⟨T50, e49, hf⟩ := x_b hf
  have hH := x_nT e49 hH
  refine W.widen (k := 4) (n := 96) (by omega) (by omega) ?_
  obtain ⟨_, e51, hf⟩ := x_b hf
  obtain ⟨n52, hT53⟩ := x_is_e e51
  obtain ⟨_, e54, hf⟩ := x_b hf
  refine x_putFZ (C := "WallDampModel") (F := F_Mod) (N := 51) (ty := t_Mod 5) (v := .ref (ad (nx + 3))) (w' := x_sR w41 69 l0 (some (nx + 3))) hx hb hts i_Mod t_Mod ty_Mod n_Mod hown hK hH hS hT53 (by decide) rfl rfl 5 (by decide) (hts _ m_798) (fun _ h9 => h9) rfl hin rfl (ty_Mod 5 (by decide)) rfl rfl (x_on_R (v := some (nx + 3)) hT53 (by decide) rfl nd_Mod k3_Mod) (fun j hj => x_off_R hj) (fun hh => x_ok_R hh (x_ex_lt e54 hH)) d_Mod_init_33 (fun H locs hz1 hH hS => ?_)
  have hz := hz1.trans hz
  obtain ⟨w55, e56, hf⟩ := x_b hf
  have hH := x_nw e56 hH
  refine lv_aload_n hx hb d_Mod_init_36 rfl (lv_at hl 0 rfl) ?_
  refine lv_bipush (v := 6) hx hb d_Mod_init_37 (by decide) ?_
  obtain ⟨_, e57, hf⟩ := x_b hf
  obtain ⟨n59, e58, hf⟩ := x_b hf
  obtain ⟨hn60, hN61, hM62⟩ := x_sz_e e58
  refine x_newa (atype := .int) (ci := 100) hx hb (hts _ m_60) hK hH hS hA hz 0 rfl (fun h => h) hn60 hN61 (by show n59 * 4 ≤ _; omega) (by show _ ≤ 36; omega) (by show _ ≤ 549; omega) (Or.inl ⟨x_cell_a (by simp [x_uT]), rfl⟩) d_Mod_init_39 (fun H hz1 hH hS => ?_)
  have hz := x_lin hlin e57 hz1
  obtain ⟨T64, e63, hf⟩ := x_b hf
  have hH := x_nT e63 hH
  refine W.widen (k := 5) (n := 102) (by omega) (by omega) ?_
  obtain ⟨_, e65, hf⟩ := x_b hf
  obtain ⟨n66, hT67⟩ := x_is_e e65
  obtain ⟨_, e68, hf⟩ := x_b hf
  refine x_putFZ (C := "WallDampModel") (F := F_Mod) (N := 51) (ty := t_Mod 6) (v := .ref (ad (nx + 4))) (w' := x_sR w55 70 l0 (some (nx + 4))) hx hb hts i_Mod t_Mod ty_Mod n_Mod hown hK hH hS hT67 (by decide) rfl rfl 6 (by decide) (hts _ m_799) (fun _ h9 => h9) rfl hin rfl (ty_Mod 6 (by decide)) rfl rfl (x_on_R (v := some (nx + 4)) hT67 (by decide) rfl nd_Mod k3_Mod) (fun j hj => x_off_R hj) (fun hh => x_ok_R hh (x_ex_lt e68 hH)) d_Mod_init_41 (fun H locs hz1 hH hS => ?_)
  have hz := hz1.trans hz
  obtain ⟨w69, e70, hf⟩ := x_b hf
  have hH := x_nw e70 hH
  refine lv_aload_n hx hb d_Mod_init_44 rfl (lv_at hl 0 rfl) ?_
  refine x_pc 45 rfl ?_
  refine x_cs 5 102 rfl rfl ?_
  refine lv_bipush (v := 6) hx hb d_Mod_init_45 (by decide) ?_
  obtain ⟨_, e71, hf⟩ := x_b hf
  obtain ⟨n73, e72, hf⟩ := x_b hf
  obtain ⟨hn74, hN75, hM76⟩ := x_sz_e e72
  refine x_newa (atype := .int) (ci := 100) hx hb (hts _ m_60) hK hH hS hA hz 0 rfl (fun h => h) hn74 hN75 (by show n73 * 4 ≤ _; omega) (by show _ ≤ 36; omega) (by show _ ≤ 549; omega) (Or.inl ⟨x_cell_a (by simp [x_uT]), rfl⟩) d_Mod_init_47 (fun H hz1 hH hS => ?_)
  have hz := x_lin hlin e71 hz1
  obtain ⟨T78, e77, hf⟩ := x_b hf
  have hH := x_nT e77 hH
  refine W.widen (k := 6) (n := 108) (by omega) (by omega) ?_
  obtain ⟨_, e79, hf⟩ := x_b hf
  obtain ⟨n80, hT81⟩ := x_is_e e79
  obtain ⟨_, e82, hf⟩ := x_b hf
  refine x_putFZ (C := "WallDampModel") (F := F_Mod) (N := 51) (ty := t_Mod 7) (v := .ref (ad (nx + 5))) (w' := x_sR w69 71 l0 (some (nx + 5))) hx hb hts i_Mod t_Mod ty_Mod n_Mod hown hK hH hS hT81 (by decide) rfl rfl 7 (by decide) (hts _ m_800) (fun _ h9 => h9) rfl hin rfl (ty_Mod 7 (by decide)) rfl rfl (x_on_R (v := some (nx + 5)) hT81 (by decide) rfl nd_Mod k3_Mod) (fun j hj => x_off_R hj) (fun hh => x_ok_R hh (x_ex_lt e82 hH)) d_Mod_init_49 (fun H locs hz1 hH hS => ?_)
  have hz := hz1.trans hz
  obtain ⟨w83, e84, hf⟩ := x_b hf
  have hH := x_nw e84 hH
  refine lv_aload_n hx hb d_Mod_init_52 rfl (lv_at hl 0 rfl) ?_
  refine lv_bipush (v := 12) hx hb d_Mod_init_53 (by decide) ?_
  obtain ⟨_, e85, hf⟩ := x_b hf
  obtain ⟨n87, e86, hf⟩ := x_b hf
  obtain ⟨hn88, hN89, hM90⟩ := x_sz_e e86
  refine x_newa (atype := .int) (ci := 100) hx hb (hts _ m_60) hK hH hS hA hz 0 rfl (fun h => h) hn88 hN89 (by show n87 * 4 ≤ _; omega) (by show _ ≤ 36; omega) (by show _ ≤ 549; omega) (Or.inl ⟨x_cell_a (by simp [x_uT]), rfl⟩) d_Mod_init_55 (fun H hz1 hH hS => ?_)
  have hz := x_lin hlin e85 hz1
  obtain ⟨T92, e91, hf⟩ := x_b hf
  have hH := x_nT e91 hH
  refine W.widen (k := 7) (n := 120) (by omega) (by omega) ?_
  obtain ⟨_, e93, hf⟩ := x_b hf
  obtain ⟨n94, hT95⟩ := x_is_e e93
  obtain ⟨_, e96, hf⟩ := x_b hf
  refine x_putFZ (C := "WallDampModel") (F := F_Mod) (N := 51) (ty := t_Mod 8) (v := .ref (ad (nx + 6))) (w' := x_sR w83 72 l0 (some (nx + 6))) hx hb hts i_Mod t_Mod ty_Mod n_Mod hown hK hH hS hT95 (by decide) rfl rfl 8 (by decide) (hts _ m_801) (fun _ h9 => h9) rfl hin rfl (ty_Mod 8 (by decide)) rfl rfl (x_on_R (v := some (nx + 6)) hT95 (by decide) rfl nd_Mod k3_Mod) (fun j hj => x_off_R hj) (fun hh => x_ok_R hh (x_ex_lt e96 hH)) d_Mod_init_57 (fun H locs hz1 hH hS => ?_)
  have hz := hz1.trans hz
  obtain ⟨w97, e98, hf⟩ := x_b hf
  have hH := x_nw e98 hH
  refine lv_aload_n hx hb d_Mod_init_60 rfl (lv_at hl 0 rfl) ?_
  refine x_pc 61 rfl ?_
  refine x_cs 7 120 rfl rfl ?_
  refine lv_bipush (v := 12) hx hb d_Mod_init_61 (by decide) ?_
  obtain ⟨_, e99, hf⟩ := x_b hf
  obtain ⟨n101, e100, hf⟩ := x_b hf
  obtain ⟨hn102, hN103, hM104⟩ := x_sz_e e100
  refine x_newa (atype := .int) (ci := 100) hx hb (hts _ m_60) hK hH hS hA hz 0 rfl (fun h => h) hn102 hN103 (by show n101 * 4 ≤ _; omega) (by show _ ≤ 36; omega) (by show _ ≤ 549; omega) (Or.inl ⟨x_cell_a (by simp [x_uT]), rfl⟩) d_Mod_init_63 (fun H hz1 hH hS => ?_)
  have hz := x_lin hlin e99 hz1
  obtain ⟨T106, e105, hf⟩ := x_b hf
  have hH := x_nT e105 hH
  refine W.widen (k := 8) (n := 132) (by omega) (by omega) ?_
  obtain ⟨_, e107, hf⟩ := x_b hf
  obtain ⟨n108, hT109⟩ := x_is_e e107
  obtain ⟨_, e110, hf⟩ := x_b hf
  refine x_putFZ (C := "WallDampModel") (F := F_Mod) (N := 51) (ty := t_Mod 9) (v := .ref (ad (nx + 7))) (w' := x_sR w97 73 l0 (some (nx + 7))) hx hb hts i_Mod t_Mod ty_Mod n_Mod hown hK hH hS hT109 (by decide) rfl rfl 9 (by decide) (hts _ m_802) (fun _ h9 => h9) rfl hin rfl (ty_Mod 9 (by decide)) rfl rfl (x_on_R (v := some (nx + 7)) hT109 (by decide) rfl nd_Mod k3_Mod) (fun j hj => x_off_R hj) (fun hh => x_ok_R hh (x_ex_lt e110 hH)) d_Mod_init_65 (fun H locs hz1 hH hS => ?_)
  have hz := hz1.trans hz
  obtain ⟨w111, e112, hf⟩ := x_b hf
  have hH := x_nw e112 hH
  refine lv_aload_n hx hb d_Mod_init_68 rfl (lv_at hl 0 rfl) ?_
  refine lv_bipush (v := 12) hx hb d_Mod_init_69 (by decide) ?_
  obtain ⟨_, e113, hf⟩ := x_b hf
  obtain ⟨n115, e114, hf⟩ := x_b hf
  obtain ⟨hn116, hN117, hM118⟩ := x_sz_e e114
  refine x_newa (atype := .long) (ci := 101) hx hb (hts _ m_947) hK hH hS hA hz 1 rfl (fun h => h) hn116 hN117 (by show n115 * 8 ≤ _; omega) (by show _ ≤ 36; omega) (by show _ ≤ 549; omega) (Or.inr ⟨x_cell_b (by simp [x_uT]), rfl⟩) d_Mod_init_71 (fun H hz1 hH hS => ?_)
  have hz := x_lin hlin e113 hz1
  obtain ⟨T120, e119, hf⟩ := x_b hf
  have hH := x_nT e119 hH
  refine W.widen (k := 9) (n := 144) (by omega) (by omega) ?_
  obtain ⟨_, e121, hf⟩ := x_b hf
  obtain ⟨n122, hT123⟩ := x_is_e e121
  obtain ⟨_, e124, hf⟩ := x_b hf
  refine x_putFZ (C := "WallDampModel") (F := F_Mod) (N := 51) (ty := t_Mod 10) (v := .ref (ad (nx + 8))) (w' := x_sR w111 74 l0 (some (nx + 8))) hx hb hts i_Mod t_Mod ty_Mod n_Mod hown hK hH hS hT123 (by decide) rfl rfl 10 (by decide) (hts _ m_803) (fun _ h9 => h9) rfl hin rfl (ty_Mod 10 (by decide)) rfl rfl (x_on_R (v := some (nx + 8)) hT123 (by decide) rfl nd_Mod k3_Mod) (fun j hj => x_off_R hj) (fun hh => x_ok_R hh (x_ex_lt e124 hH)) d_Mod_init_73 (fun H locs hz1 hH hS => ?_)
  have hz := hz1.trans hz
  obtain ⟨w125, e126, hf⟩ := x_b hf
  have hH := x_nw e126 hH
  refine lv_aload_n hx hb d_Mod_init_76 rfl (lv_at hl 0 rfl) ?_
  refine x_pc 77 rfl ?_
  refine x_cs 9 144 rfl rfl ?_
  refine lv_bipush (v := 12) hx hb d_Mod_init_77 (by decide) ?_
  obtain ⟨_, e127, hf⟩ := x_b hf
  obtain ⟨n129, e128, hf⟩ := x_b hf
  obtain ⟨hn130, hN131, hM132⟩ := x_sz_e e128
  refine x_newa (atype := .int) (ci := 100) hx hb (hts _ m_60) hK hH hS hA hz 0 rfl (fun h => h) hn130 hN131 (by show n129 * 4 ≤ _; omega) (by show _ ≤ 36; omega) (by show _ ≤ 549; omega) (Or.inl ⟨x_cell_a (by simp [x_uT]), rfl⟩) d_Mod_init_79 (fun H hz1 hH hS => ?_)
  have hz := x_lin hlin e127 hz1
  obtain ⟨T134, e133, hf⟩ := x_b hf
  have hH := x_nT e133 hH
  refine W.widen (k := 10) (n := 156) (by omega) (by omega) ?_
  obtain ⟨_, e135, hf⟩ := x_b hf
  obtain ⟨n136, hT137⟩ := x_is_e e135
  obtain ⟨_, e138, hf⟩ := x_b hf
  refine x_putFZ (C := "WallDampModel") (F := F_Mod) (N := 51) (ty := t_Mod 11) (v := .ref (ad (nx + 9))) (w' := x_sR w125 75 l0 (some (nx + 9))) hx hb hts i_Mod t_Mod ty_Mod n_Mod hown hK hH hS hT137 (by decide) rfl rfl 11 (by decide) (hts _ m_804) (fun _ h9 => h9) rfl hin rfl (ty_Mod 11 (by decide)) rfl rfl (x_on_R (v := some (nx + 9)) hT137 (by decide) rfl nd_Mod k3_Mod) (fun j hj => x_off_R hj) (fun hh => x_ok_R hh (x_ex_lt e138 hH)) d_Mod_init_81 (fun H locs hz1 hH hS => ?_)
  have hz := hz1.trans hz
  obtain ⟨w139, e140, hf⟩ := x_b hf
  have hH := x_nw e140 hH
  refine lv_aload_n hx hb d_Mod_init_84 rfl (lv_at hl 0 rfl) ?_
  refine lv_bipush (v := 12) hx hb d_Mod_init_85 (by decide) ?_
  obtain ⟨_, e141, hf⟩ := x_b hf
  obtain ⟨n143, e142, hf⟩ := x_b hf
  obtain ⟨hn144, hN145, hM146⟩ := x_sz_e e142
  refine x_newa (atype := .int) (ci := 100) hx hb (hts _ m_60) hK hH hS hA hz 0 rfl (fun h => h) hn144 hN145 (by show n143 * 4 ≤ _; omega) (by show _ ≤ 36; omega) (by show _ ≤ 549; omega) (Or.inl ⟨x_cell_a (by simp [x_uT]), rfl⟩) d_Mod_init_87 (fun H hz1 hH hS => ?_)
  have hz := x_lin hlin e141 hz1
  obtain ⟨T148, e147, hf⟩ := x_b hf
  have hH := x_nT e147 hH
  refine W.widen (k := 11) (n := 168) (by omega) (by omega) ?_
  obtain ⟨_, e149, hf⟩ := x_b hf
  obtain ⟨n150, hT151⟩ := x_is_e e149
  obtain ⟨_, e152, hf⟩ := x_b hf
  refine x_putFZ (C := "WallDampModel") (F := F_Mod) (N := 51) (ty := t_Mod 12) (v := .ref (ad (nx + 10))) (w' := x_sR w139 76 l0 (some (nx + 10))) hx hb hts i_Mod t_Mod ty_Mod n_Mod hown hK hH hS hT151 (by decide) rfl rfl 12 (by decide) (hts _ m_805) (fun _ h9 => h9) rfl hin rfl (ty_Mod 12 (by decide)) rfl rfl (x_on_R (v := some (nx + 10)) hT151 (by decide) rfl nd_Mod k3_Mod) (fun j hj => x_off_R hj) (fun hh => x_ok_R hh (x_ex_lt e152 hH)) d_Mod_init_89 (fun H locs hz1 hH hS => ?_)
  have hz := hz1.trans hz
  obtain ⟨w153, e154, hf⟩ := x_b hf
  have hH := x_nw e154 hH
  refine lv_aload_n hx hb d_Mod_init_92 rfl (lv_at hl 0 rfl) ?_
  refine x_pc 93 rfl ?_
  refine x_cs 11 168 rfl rfl ?_
  refine lv_bipush (v := 12) hx hb d_Mod_init_93 (by decide) ?_
  obtain ⟨_, e155, hf⟩ := x_b hf
  obtain ⟨n157, e156, hf⟩ := x_b hf
  obtain ⟨hn158, hN159, hM160⟩ := x_sz_e e156
  refine x_newa (atype := .int) (ci := 100) hx hb (hts _ m_60) hK hH hS hA hz 0 rfl (fun h => h) hn158 hN159 (by show n157 * 4 ≤ _; omega) (by show _ ≤ 36; omega) (by show _ ≤ 549; omega) (Or.inl ⟨x_cell_a (by simp [x_uT]), rfl⟩) d_Mod_init_95 (fun H hz1 hH hS => ?_)
  have hz := x_lin hlin e155 hz1
  obtain ⟨T162, e161, hf⟩ := x_b hf
  have hH := x_nT e161 hH
  refine W.widen (k := 12) (n := 180) (by omega) (by omega) ?_
  obtain ⟨_, e163, hf⟩ := x_b hf
  obtain ⟨n164, hT165⟩ := x_is_e e163
  obtain ⟨_, e166, hf⟩ := x_b hf
  refine x_putFZ (C := "WallDampModel") (F := F_Mod) (N := 51) (ty := t_Mod 13) (v := .ref (ad (nx + 11))) (w' := x_sR w153 77 l0 (some (nx + 11))) hx hb hts i_Mod t_Mod ty_Mod n_Mod hown hK hH hS hT165 (by decide) rfl rfl 13 (by decide) (hts _ m_806) (fun _ h9 => h9) rfl hin rfl (ty_Mod 13 (by decide)) rfl rfl (x_on_R (v := some (nx + 11)) hT165 (by decide) rfl nd_Mod k3_Mod) (fun j hj => x_off_R hj) (fun hh => x_ok_R hh (x_ex_lt e166 hH)) d_Mod_init_97 (fun H locs hz1 hH hS => ?_)
  have hz := hz1.trans hz
  obtain ⟨w167, e168, hf⟩ := x_b hf
  have hH := x_nw e168 hH
  refine lv_aload_n hx hb d_Mod_init_100 rfl (lv_at hl 0 rfl) ?_
  refine lv_bipush (v := 12) hx hb d_Mod_init_101 (by decide) ?_
  obtain ⟨_, e169, hf⟩ := x_b hf
  obtain ⟨n171, e170, hf⟩ := x_b hf
  obtain ⟨hn172, hN173, hM174⟩ := x_sz_e e170
  refine x_newa (atype := .boolean) (ci := 102) hx hb (hts _ m_948) hK hH hS hA hz 2 rfl (fun h => h) hn172 hN173 (by show n171 * 1 ≤ _; omega) (by show _ ≤ 36; omega) (by show _ ≤ 549; omega) (Or.inl ⟨x_cell_z (by simp [x_uT]), rfl⟩) d_Mod_init_103 (fun H hz1 hH hS => ?_)
  have hz := x_lin hlin e169 hz1
  obtain ⟨T176, e175, hf⟩ := x_b hf
  have hH := x_nT e175 hH
  refine W.widen (k := 13) (n := 192) (by omega) (by omega) ?_
  obtain ⟨_, e177, hf⟩ := x_b hf
  obtain ⟨n178, hT179⟩ := x_is_e e177
  obtain ⟨_, e180, hf⟩ := x_b hf
  refine x_putFZ (C := "WallDampModel") (F := F_Mod) (N := 51) (ty := t_Mod 14) (v := .ref (ad (nx + 12))) (w' := x_sR w167 78 l0 (some (nx + 12))) hx hb hts i_Mod t_Mod ty_Mod n_Mod hown hK hH hS hT179 (by decide) rfl rfl 14 (by decide) (hts _ m_807) (fun _ h9 => h9) rfl hin rfl (ty_Mod 14 (by decide)) rfl rfl (x_on_R (v := some (nx + 12)) hT179 (by decide) rfl nd_Mod k3_Mod) (fun j hj => x_off_R hj) (fun hh => x_ok_R hh (x_ex_lt e180 hH)) d_Mod_init_105 (fun H locs hz1 hH hS => ?_)
  have hz := hz1.trans hz
  obtain ⟨w181, e182, hf⟩ := x_b hf
  have hH := x_nw e182 hH
  refine lv_aload_n hx hb d_Mod_init_108 rfl (lv_at hl 0 rfl) ?_
  refine x_pc 109 rfl ?_
  refine x_cs 13 192 rfl rfl ?_
  refine lv_bipush (v := 12) hx hb d_Mod_init_109 (by decide) ?_
  obtain ⟨_, e183, hf⟩ := x_b hf
  obtain ⟨n185, e184, hf⟩ := x_b hf
  obtain ⟨hn186, hN187, hM188⟩ := x_sz_e e184
  refine x_newa (atype := .int) (ci := 100) hx hb (hts _ m_60) hK hH hS hA hz 0 rfl (fun h => h) hn186 hN187 (by show n185 * 4 ≤ _; omega) (by show _ ≤ 36; omega) (by show _ ≤ 549; omega) (Or.inl ⟨x_cell_a (by simp [x_uT]), rfl⟩) d_Mod_init_111 (fun H hz1 hH hS => ?_)
  have hz := x_lin hlin e183 hz1
  obtain ⟨T190, e189, hf⟩ := x_b hf
  have hH := x_nT e189 hH
  refine W.widen (k := 14) (n := 204) (by omega) (by omega) ?_
  obtain ⟨_, e191, hf⟩ := x_b hf
  obtain ⟨n192, hT193⟩ := x_is_e e191
  obtain ⟨_, e194, hf⟩ := x_b hf
  refine x_putFZ (C := "WallDampModel") (F := F_Mod) (N := 51) (ty := t_Mod 15) (v := .ref (ad (nx + 13))) (w' := x_sR w181 79 l0 (some (nx + 13))) hx hb hts i_Mod t_Mod ty_Mod n_Mod hown hK hH hS hT193 (by decide) rfl rfl 15 (by decide) (hts _ m_808) (fun _ h9 => h9) rfl hin rfl (ty_Mod 15 (by decide)) rfl rfl (x_on_R (v := some (nx + 13)) hT193 (by decide) rfl nd_Mod k3_Mod) (fun j hj => x_off_R hj) (fun hh => x_ok_R hh (x_ex_lt e194 hH)) d_Mod_init_113 (fun H locs hz1 hH hS => ?_)
  have hz := hz1.trans hz
  obtain ⟨w195, e196, hf⟩ := x_b hf
  have hH := x_nw e196 hH
  refine lv_aload_n hx hb d_Mod_init_116 rfl (lv_at hl 0 rfl) ?_
  refine lv_bipush (v := 8) hx hb d_Mod_init_117 (by decide) ?_
  obtain ⟨_, e197, hf⟩ := x_b hf
  obtain ⟨n199, e198, hf⟩ := x_b hf
  obtain ⟨hn200, hN201, hM202⟩ := x_sz_e e198
  refine x_newa (atype := .int) (ci := 100) hx hb (hts _ m_60) hK hH hS hA hz 0 rfl (fun h => h) hn200 hN201 (by show n199 * 4 ≤ _; omega) (by show _ ≤ 36; omega) (by show _ ≤ 549; omega) (Or.inl ⟨x_cell_a (by simp [x_uT]), rfl⟩) d_Mod_init_119 (fun H hz1 hH hS => ?_)
  have hz := x_lin hlin e197 hz1
  obtain ⟨T204, e203, hf⟩ := x_b hf
  have hH := x_nT e203 hH
  refine W.widen (k := 15) (n := 212) (by omega) (by omega) ?_
  obtain ⟨_, e205, hf⟩ := x_b hf
  obtain ⟨n206, hT207⟩ := x_is_e e205
  obtain ⟨_, e208, hf⟩ := x_b hf
  refine x_putFZ (C := "WallDampModel") (F := F_Mod) (N := 51) (ty := t_Mod 17) (v := .ref (ad (nx + 14))) (w' := x_sR w195 81 l0 (some (nx + 14))) hx hb hts i_Mod t_Mod ty_Mod n_Mod hown hK hH hS hT207 (by decide) rfl rfl 17 (by decide) (hts _ m_810) (fun _ h9 => h9) rfl hin rfl (ty_Mod 17 (by decide)) rfl rfl (x_on_R (v := some (nx + 14)) hT207 (by decide) rfl nd_Mod k3_Mod) (fun j hj => x_off_R hj) (fun hh => x_ok_R hh (x_ex_lt e208 hH)) d_Mod_init_121 (fun H locs hz1 hH hS => ?_)
  have hz := hz1.trans hz
  obtain ⟨w209, e210, hf⟩ := x_b hf
  have hH := x_nw e210 hH
  refine lv_aload_n hx hb d_Mod_init_124 rfl (lv_at hl 0 rfl) ?_
  refine x_pc 125 rfl ?_
  refine x_cs 15 212 rfl rfl ?_
  refine lv_bipush (v := 8) hx hb d_Mod_init_125 (by decide) ?_
  obtain ⟨_, e211, hf⟩ := x_b hf
  obtain ⟨n213, e212, hf⟩ := x_b hf
  obtain ⟨hn214, hN215, hM216⟩ := x_sz_e e212
  refine x_newa (atype := .int) (ci := 100) hx hb (hts _ m_60) hK hH hS hA hz 0 rfl (fun h => h) hn214 hN215 (by show n213 * 4 ≤ _; omega) (by show _ ≤ 36; omega) (by show _ ≤ 549; omega) (Or.inl ⟨x_cell_a (by simp [x_uT]), rfl⟩) d_Mod_init_127 (fun H hz1 hH hS => ?_)
  have hz := x_lin hlin e211 hz1
  obtain ⟨T218, e217, hf⟩ := x_b hf
  have hH := x_nT e217 hH
  refine W.widen (k := 16) (n := 220) (by omega) (by omega) ?_
  obtain ⟨_, e219, hf⟩ := x_b hf
  obtain ⟨n220, hT221⟩ := x_is_e e219
  obtain ⟨_, e222, hf⟩ := x_b hf
  refine x_putFZ (C := "WallDampModel") (F := F_Mod) (N := 51) (ty := t_Mod 18) (v := .ref (ad (nx + 15))) (w' := x_sR w209 82 l0 (some (nx + 15))) hx hb hts i_Mod t_Mod ty_Mod n_Mod hown hK hH hS hT221 (by decide) rfl rfl 18 (by decide) (hts _ m_811) (fun _ h9 => h9) rfl hin rfl (ty_Mod 18 (by decide)) rfl rfl (x_on_R (v := some (nx + 15)) hT221 (by decide) rfl nd_Mod k3_Mod) (fun j hj => x_off_R hj) (fun hh => x_ok_R hh (x_ex_lt e222 hH)) d_Mod_init_129 (fun H locs hz1 hH hS => ?_)
  have hz := hz1.trans hz
  obtain ⟨w223, e224, hf⟩ := x_b hf
  have hH := x_nw e224 hH
  refine lv_aload_n hx hb d_Mod_init_132 rfl (lv_at hl 0 rfl) ?_
  refine lv_bipush (v := 10) hx hb d_Mod_init_133 (by decide) ?_
  refine x_putZ (C := "WallDampModel") (F := F_Mod) (N := 51) (ty := t_Mod 19) (v := .int (10 : Int32)) (w' := x_sI w223 83 l0 (10 : Int32)) hx hb hts i_Mod t_Mod ty_Mod n_Mod hown hK hH hS hT221 (by decide) rfl rfl 19 (by decide) (hts _ m_812) (fun _ h9 => h9) rfl (ty_Mod 19 (by decide)) rfl rfl (x_on_I hT221 (by decide) rfl nd_Mod) (fun j hj => x_off_I hj) (fun hh ok => x_ok_I hh ok) d_Mod_init_135 (fun H locs hz1 hH hS => ?_)
  have hz := hz1.trans hz
  obtain ⟨w225, e226, hf⟩ := x_b hf
  have hH := x_nw e226 hH
  refine lv_aload_n hx hb d_Mod_init_138 rfl (lv_at hl 0 rfl) ?_
  refine lv_bipush (v := 10) hx hb d_Mod_init_139 (by decide) ?_
  refine x_pc 141 rfl ?_
  refine x_cs 16 220 rfl rfl ?_
  refine x_putZ (C := "WallDampModel") (F := F_Mod) (N := 51) (ty := t_Mod 20) (v := .int (10 : Int32)) (w' := x_sI w225 84 l0 (10 : Int32)) hx hb hts i_Mod t_Mod ty_Mod n_Mod hown hK hH hS hT221 (by decide) rfl rfl 20 (by decide) (hts _ m_813) (fun _ h9 => h9) rfl (ty_Mod 20 (by decide)) rfl rfl (x_on_I hT221 (by decide) rfl nd_Mod) (fun j hj => x_off_I hj) (fun hh ok => x_ok_I hh ok) d_Mod_init_141 (fun H locs hz1 hH hS => ?_)
  have hz := hz1.trans hz
  obtain ⟨w227, e228, hf⟩ := x_b hf
  have hH := x_nw e228 hH
  refine lv_aload_n hx hb d_Mod_init_144 rfl (lv_at hl 0 rfl) ?_
  refine lv_bipush (v := 24) hx hb d_Mod_init_145 (by decide) ?_
  obtain ⟨_, e229, hf⟩ := x_b hf
  obtain ⟨n231, e230, hf⟩ := x_b hf
  obtain ⟨hn232, hN233, hM234⟩ := x_sz_e e230
  refine x_newa (atype := .int) (ci := 100) hx hb (hts _ m_60) hK hH hS hA hz 0 rfl (fun h => h) hn232 hN233 (by show n231 * 4 ≤ _; omega) (by show _ ≤ 36; omega) (by show _ ≤ 549; omega) (Or.inl ⟨x_cell_a (by simp [x_uT]), rfl⟩) d_Mod_init_147 (fun H hz1 hH hS => ?_)
  have hz := x_lin hlin e229 hz1
  obtain ⟨T236, e235, hf⟩ := x_b hf
  have hH := x_nT e235 hH
  refine W.widen (k := 17) (n := 244) (by omega) (by omega) ?_
  obtain ⟨_, e237, hf⟩ := x_b hf
  obtain ⟨n238, hT239⟩ := x_is_e e237
  obtain ⟨_, e240, hf⟩ := x_b hf
  refine x_putFZ (C := "WallDampModel") (F := F_Mod) (N := 51) (ty := t_Mod 21) (v := .ref (ad (nx + 16))) (w' := x_sR w227 85 l0 (some (nx + 16))) hx hb hts i_Mod t_Mod ty_Mod n_Mod hown hK hH hS hT239 (by decide) rfl rfl 21 (by decide) (hts _ m_814) (fun _ h9 => h9) rfl hin rfl (ty_Mod 21 (by decide)) rfl rfl (x_on_R (v := some (nx + 16)) hT239 (by decide) rfl nd_Mod k3_Mod) (fun j hj => x_off_R hj) (fun hh => x_ok_R hh (x_ex_lt e240 hH)) d_Mod_init_149 (fun H locs hz1 hH hS => ?_)
  have hz := hz1.trans hz
  obtain ⟨w241, e242, hf⟩ := x_b hf
  have hH := x_nw e242 hH
  refine lv_aload_n hx hb d_Mod_init_152 rfl (lv_at hl 0 rfl) ?_
  refine lv_bipush (v := 24) hx hb d_Mod_init_153 (by decide) ?_
  obtain ⟨_, e243, hf⟩ := x_b hf
  obtain ⟨n245, e244, hf⟩ := x_b hf
  obtain ⟨hn246, hN247, hM248⟩ := x_sz_e e244
  refine x_newa (atype := .int) (ci := 100) hx hb (hts _ m_60) hK hH hS hA hz 0 rfl (fun h => h) hn246 hN247 (by show n245 * 4 ≤ _; omega) (by show _ ≤ 36; omega) (by show _ ≤ 549; omega) (Or.inl ⟨x_cell_a (by simp [x_uT]), rfl⟩) d_Mod_init_155 (fun H hz1 hH hS => ?_)
  have hz := x_lin hlin e243 hz1
  obtain ⟨T250, e249, hf⟩ := x_b hf
  have hH := x_nT e249 hH
  refine W.widen (k := 18) (n := 268) (by omega) (by omega) ?_
  refine x_pc 157 rfl ?_
  refine x_cs 18 268 rfl rfl ?_
  obtain ⟨_, e251, hf⟩ := x_b hf
  obtain ⟨n252, hT253⟩ := x_is_e e251
  obtain ⟨_, e254, hf⟩ := x_b hf
  refine x_putFZ (C := "WallDampModel") (F := F_Mod) (N := 51) (ty := t_Mod 22) (v := .ref (ad (nx + 17))) (w' := x_sR w241 86 l0 (some (nx + 17))) hx hb hts i_Mod t_Mod ty_Mod n_Mod hown hK hH hS hT253 (by decide) rfl rfl 22 (by decide) (hts _ m_815) (fun _ h9 => h9) rfl hin rfl (ty_Mod 22 (by decide)) rfl rfl (x_on_R (v := some (nx + 17)) hT253 (by decide) rfl nd_Mod k3_Mod) (fun j hj => x_off_R hj) (fun hh => x_ok_R hh (x_ex_lt e254 hH)) d_Mod_init_157 (fun H locs hz1 hH hS => ?_)
  have hz := hz1.trans hz
  obtain ⟨w255, e256, hf⟩ := x_b hf
  have hH := x_nw e256 hH
  refine lv_aload_n hx hb d_Mod_init_160 rfl (lv_at hl 0 rfl) ?_
  refine lv_bipush (v := 24) hx hb d_Mod_init_161 (by decide) ?_
  obtain ⟨_, e257, hf⟩ := x_b hf
  obtain ⟨n259, e258, hf⟩ := x_b hf
  obtain ⟨hn260, hN261, hM262⟩ := x_sz_e e258
  refine x_newa (atype := .int) (ci := 100) hx hb (hts _ m_60) hK hH hS hA hz 0 rfl (fun h => h) hn260 hN261 (by show n259 * 4 ≤ _; omega) (by show _ ≤ 36; omega) (by show _ ≤ 549; omega) (Or.inl ⟨x_cell_a (by simp [x_uT]), rfl⟩) d_Mod_init_163 (fun H hz1 hH hS => ?_)
  have hz := x_lin hlin e257 hz1
  obtain ⟨T264, e263, hf⟩ := x_b hf
  have hH := x_nT e263 hH
  refine W.widen (k := 19) (n := 292) (by omega) (by omega) ?_
  obtain ⟨_, e265, hf⟩ := x_b hf
  obtain ⟨n266, hT267⟩ := x_is_e e265
  obtain ⟨_, e268, hf⟩ := x_b hf
  refine x_putFZ (C := "WallDampModel") (F := F_Mod) (N := 51) (ty := t_Mod 23) (v := .ref (ad (nx + 18))) (w' := x_sR w255 87 l0 (some (nx + 18))) hx hb hts i_Mod t_Mod ty_Mod n_Mod hown hK hH hS hT267 (by decide) rfl rfl 23 (by decide) (hts _ m_816) (fun _ h9 => h9) rfl hin rfl (ty_Mod 23 (by decide)) rfl rfl (x_on_R (v := some (nx + 18)) hT267 (by decide) rfl nd_Mod k3_Mod) (fun j hj => x_off_R hj) (fun hh => x_ok_R hh (x_ex_lt e268 hH)) d_Mod_init_165 (fun H locs hz1 hH hS => ?_)
  have hz := hz1.trans hz
  obtain ⟨w269, e270, hf⟩ := x_b hf
  have hH := x_nw e270 hH
  refine lv_aload_n hx hb d_Mod_init_168 rfl (lv_at hl 0 rfl) ?_
  refine lv_bipush (v := 24) hx hb d_Mod_init_169 (by decide) ?_
  obtain ⟨_, e271, hf⟩ := x_b hf
  obtain ⟨n273, e272, hf⟩ := x_b hf
  obtain ⟨hn274, hN275, hM276⟩ := x_sz_e e272
  refine x_newa (atype := .int) (ci := 100) hx hb (hts _ m_60) hK hH hS hA hz 0 rfl (fun h => h) hn274 hN275 (by show n273 * 4 ≤ _; omega) (by show _ ≤ 36; omega) (by show _ ≤ 549; omega) (Or.inl ⟨x_cell_a (by simp [x_uT]), rfl⟩) d_Mod_init_171 (fun H hz1 hH hS => ?_)
  have hz := x_lin hlin e271 hz1
  obtain ⟨T278, e277, hf⟩ := x_b hf
  have hH := x_nT e277 hH
  refine W.widen (k := 20) (n := 316) (by omega) (by omega) ?_
  refine x_pc 173 rfl ?_
  refine x_cs 20 316 rfl rfl ?_
  obtain ⟨_, e279, hf⟩ := x_b hf
  obtain ⟨n280, hT281⟩ := x_is_e e279
  obtain ⟨_, e282, hf⟩ := x_b hf
  refine x_putFZ (C := "WallDampModel") (F := F_Mod) (N := 51) (ty := t_Mod 24) (v := .ref (ad (nx + 19))) (w' := x_sR w269 88 l0 (some (nx + 19))) hx hb hts i_Mod t_Mod ty_Mod n_Mod hown hK hH hS hT281 (by decide) rfl rfl 24 (by decide) (hts _ m_817) (fun _ h9 => h9) rfl hin rfl (ty_Mod 24 (by decide)) rfl rfl (x_on_R (v := some (nx + 19)) hT281 (by decide) rfl nd_Mod k3_Mod) (fun j hj => x_off_R hj) (fun hh => x_ok_R hh (x_ex_lt e282 hH)) d_Mod_init_173 (fun H locs hz1 hH hS => ?_)
  have hz := hz1.trans hz
  obtain ⟨w283, e284, hf⟩ := x_b hf
  have hH := x_nw e284 hH
  refine lv_aload_n hx hb d_Mod_init_176 rfl (lv_at hl 0 rfl) ?_
  refine lv_bipush (v := 24) hx hb d_Mod_init_177 (by decide) ?_
  obtain ⟨_, e285, hf⟩ := x_b hf
  obtain ⟨n287, e286, hf⟩ := x_b hf
  obtain ⟨hn288, hN289, hM290⟩ := x_sz_e e286
  refine x_newa (atype := .int) (ci := 100) hx hb (hts _ m_60) hK hH hS hA hz 0 rfl (fun h => h) hn288 hN289 (by show n287 * 4 ≤ _; omega) (by show _ ≤ 36; omega) (by show _ ≤ 549; omega) (Or.inl ⟨x_cell_a (by simp [x_uT]), rfl⟩) d_Mod_init_179 (fun H hz1 hH hS => ?_)
  have hz := x_lin hlin e285 hz1
  obtain ⟨T292, e291, hf⟩ := x_b hf
  have hH := x_nT e291 hH
  refine W.widen (k := 21) (n := 340) (by omega) (by omega) ?_
  obtain ⟨_, e293, hf⟩ := x_b hf
  obtain ⟨n294, hT295⟩ := x_is_e e293
  obtain ⟨_, e296, hf⟩ := x_b hf
  refine x_putFZ (C := "WallDampModel") (F := F_Mod) (N := 51) (ty := t_Mod 25) (v := .ref (ad (nx + 20))) (w' := x_sR w283 89 l0 (some (nx + 20))) hx hb hts i_Mod t_Mod ty_Mod n_Mod hown hK hH hS hT295 (by decide) rfl rfl 25 (by decide) (hts _ m_818) (fun _ h9 => h9) rfl hin rfl (ty_Mod 25 (by decide)) rfl rfl (x_on_R (v := some (nx + 20)) hT295 (by decide) rfl nd_Mod k3_Mod) (fun j hj => x_off_R hj) (fun hh => x_ok_R hh (x_ex_lt e296 hH)) d_Mod_init_181 (fun H locs hz1 hH hS => ?_)
  have hz := hz1.trans hz
  obtain ⟨w297, e298, hf⟩ := x_b hf
  have hH := x_nw e298 hH
  refine lv_aload_n hx hb d_Mod_init_184 rfl (lv_at hl 0 rfl) ?_
  refine lv_bipush (v := 24) hx hb d_Mod_init_185 (by decide) ?_
  obtain ⟨_, e299, hf⟩ := x_b hf
  obtain ⟨n301, e300, hf⟩ := x_b hf
  obtain ⟨hn302, hN303, hM304⟩ := x_sz_e e300
  refine x_newa (atype := .int) (ci := 100) hx hb (hts _ m_60) hK hH hS hA hz 0 rfl (fun h => h) hn302 hN303 (by show n301 * 4 ≤ _; omega) (by show _ ≤ 36; omega) (by show _ ≤ 549; omega) (Or.inl ⟨x_cell_a (by simp [x_uT]), rfl⟩) d_Mod_init_187 (fun H hz1 hH hS => ?_)
  have hz := x_lin hlin e299 hz1
  obtain ⟨T306, e305, hf⟩ := x_b hf
  have hH := x_nT e305 hH
  refine W.widen (k := 22) (n := 364) (by omega) (by omega) ?_
  refine x_pc 189 rfl ?_
  refine x_cs 22 364 rfl rfl ?_
  obtain ⟨_, e307, hf⟩ := x_b hf
  obtain ⟨n308, hT309⟩ := x_is_e e307
  obtain ⟨_, e310, hf⟩ := x_b hf
  refine x_putFZ (C := "WallDampModel") (F := F_Mod) (N := 51) (ty := t_Mod 26) (v := .ref (ad (nx + 21))) (w' := x_sR w297 90 l0 (some (nx + 21))) hx hb hts i_Mod t_Mod ty_Mod n_Mod hown hK hH hS hT309 (by decide) rfl rfl 26 (by decide) (hts _ m_819) (fun _ h9 => h9) rfl hin rfl (ty_Mod 26 (by decide)) rfl rfl (x_on_R (v := some (nx + 21)) hT309 (by decide) rfl nd_Mod k3_Mod) (fun j hj => x_off_R hj) (fun hh => x_ok_R hh (x_ex_lt e310 hH)) d_Mod_init_189 (fun H locs hz1 hH hS => ?_)
  have hz := hz1.trans hz
  obtain ⟨w311, e312, hf⟩ := x_b hf
  have hH := x_nw e312 hH
  refine lv_aload_n hx hb d_Mod_init_192 rfl (lv_at hl 0 rfl) ?_
  refine lv_bipush (v := 6) hx hb d_Mod_init_193 (by decide) ?_
  obtain ⟨_, e313, hf⟩ := x_b hf
  obtain ⟨n315, e314, hf⟩ := x_b hf
  obtain ⟨hn316, hN317, hM318⟩ := x_sz_e e314
  refine x_newa (atype := .int) (ci := 100) hx hb (hts _ m_60) hK hH hS hA hz 0 rfl (fun h => h) hn316 hN317 (by show n315 * 4 ≤ _; omega) (by show _ ≤ 36; omega) (by show _ ≤ 549; omega) (Or.inl ⟨x_cell_a (by simp [x_uT]), rfl⟩) d_Mod_init_195 (fun H hz1 hH hS => ?_)
  have hz := x_lin hlin e313 hz1
  obtain ⟨T320, e319, hf⟩ := x_b hf
  have hH := x_nT e319 hH
  refine W.widen (k := 23) (n := 370) (by omega) (by omega) ?_
  obtain ⟨_, e321, hf⟩ := x_b hf
  obtain ⟨n322, hT323⟩ := x_is_e e321
  obtain ⟨_, e324, hf⟩ := x_b hf
  refine x_putFZ (C := "WallDampModel") (F := F_Mod) (N := 51) (ty := t_Mod 28) (v := .ref (ad (nx + 22))) (w' := x_sR w311 92 l0 (some (nx + 22))) hx hb hts i_Mod t_Mod ty_Mod n_Mod hown hK hH hS hT323 (by decide) rfl rfl 28 (by decide) (hts _ m_821) (fun _ h9 => h9) rfl hin rfl (ty_Mod 28 (by decide)) rfl rfl (x_on_R (v := some (nx + 22)) hT323 (by decide) rfl nd_Mod k3_Mod) (fun j hj => x_off_R hj) (fun hh => x_ok_R hh (x_ex_lt e324 hH)) d_Mod_init_197 (fun H locs hz1 hH hS => ?_)
  have hz := hz1.trans hz
  obtain ⟨w325, e326, hf⟩ := x_b hf
  have hH := x_nw e326 hH
  refine lv_aload_n hx hb d_Mod_init_200 rfl (lv_at hl 0 rfl) ?_
  refine lv_bipush (v := 6) hx hb d_Mod_init_201 (by decide) ?_
  obtain ⟨_, e327, hf⟩ := x_b hf
  obtain ⟨n329, e328, hf⟩ := x_b hf
  obtain ⟨hn330, hN331, hM332⟩ := x_sz_e e328
  refine x_newa (atype := .int) (ci := 100) hx hb (hts _ m_60) hK hH hS hA hz 0 rfl (fun h => h) hn330 hN331 (by show n329 * 4 ≤ _; omega) (by show _ ≤ 36; omega) (by show _ ≤ 549; omega) (Or.inl ⟨x_cell_a (by simp [x_uT]), rfl⟩) d_Mod_init_203 (fun H hz1 hH hS => ?_)
  have hz := x_lin hlin e327 hz1
  obtain ⟨T334, e333, hf⟩ := x_b hf
  have hH := x_nT e333 hH
  refine W.widen (k := 24) (n := 376) (by omega) (by omega) ?_
  refine x_pc 205 rfl ?_
  refine x_cs 24 376 rfl rfl ?_
  obtain ⟨_, e335, hf⟩ := x_b hf
  obtain ⟨n336, hT337⟩ := x_is_e e335
  obtain ⟨_, e338, hf⟩ := x_b hf
  refine x_putFZ (C := "WallDampModel") (F := F_Mod) (N := 51) (ty := t_Mod 29) (v := .ref (ad (nx + 23))) (w' := x_sR w325 93 l0 (some (nx + 23))) hx hb hts i_Mod t_Mod ty_Mod n_Mod hown hK hH hS hT337 (by decide) rfl rfl 29 (by decide) (hts _ m_822) (fun _ h9 => h9) rfl hin rfl (ty_Mod 29 (by decide)) rfl rfl (x_on_R (v := some (nx + 23)) hT337 (by decide) rfl nd_Mod k3_Mod) (fun j hj => x_off_R hj) (fun hh => x_ok_R hh (x_ex_lt e338 hH)) d_Mod_init_205 (fun H locs hz1 hH hS => ?_)
  have hz := hz1.trans hz
  obtain ⟨w339, e340, hf⟩ := x_b hf
  have hH := x_nw e340 hH
  refine lv_aload_n hx hb d_Mod_init_208 rfl (lv_at hl 0 rfl) ?_
  refine lv_bipush (v := 6) hx hb d_Mod_init_209 (by decide) ?_
  obtain ⟨_, e341, hf⟩ := x_b hf
  obtain ⟨n343, e342, hf⟩ := x_b hf
  obtain ⟨hn344, hN345, hM346⟩ := x_sz_e e342
  refine x_newa (atype := .int) (ci := 100) hx hb (hts _ m_60) hK hH hS hA hz 0 rfl (fun h => h) hn344 hN345 (by show n343 * 4 ≤ _; omega) (by show _ ≤ 36; omega) (by show _ ≤ 549; omega) (Or.inl ⟨x_cell_a (by simp [x_uT]), rfl⟩) d_Mod_init_211 (fun H hz1 hH hS => ?_)
  have hz := x_lin hlin e341 hz1
  obtain ⟨T348, e347, hf⟩ := x_b hf
  have hH := x_nT e347 hH
  refine W.widen (k := 25) (n := 382) (by omega) (by omega) ?_
  obtain ⟨_, e349, hf⟩ := x_b hf
  obtain ⟨n350, hT351⟩ := x_is_e e349
  obtain ⟨_, e352, hf⟩ := x_b hf
  refine x_putFZ (C := "WallDampModel") (F := F_Mod) (N := 51) (ty := t_Mod 30) (v := .ref (ad (nx + 24))) (w' := x_sR w339 94 l0 (some (nx + 24))) hx hb hts i_Mod t_Mod ty_Mod n_Mod hown hK hH hS hT351 (by decide) rfl rfl 30 (by decide) (hts _ m_823) (fun _ h9 => h9) rfl hin rfl (ty_Mod 30 (by decide)) rfl rfl (x_on_R (v := some (nx + 24)) hT351 (by decide) rfl nd_Mod k3_Mod) (fun j hj => x_off_R hj) (fun hh => x_ok_R hh (x_ex_lt e352 hH)) d_Mod_init_213 (fun H locs hz1 hH hS => ?_)
  have hz := hz1.trans hz
  obtain ⟨w353, e354, hf⟩ := x_b hf
  have hH := x_nw e354 hH
  refine lv_aload_n hx hb d_Mod_init_216 rfl (lv_at hl 0 rfl) ?_
  refine lv_bipush (v := 6) hx hb d_Mod_init_217 (by decide) ?_
  obtain ⟨_, e355, hf⟩ := x_b hf
  obtain ⟨n357, e356, hf⟩ := x_b hf
  obtain ⟨hn358, hN359, hM360⟩ := x_sz_e e356
  refine x_newa (atype := .int) (ci := 100) hx hb (hts _ m_60) hK hH hS hA hz 0 rfl (fun h => h) hn358 hN359 (by show n357 * 4 ≤ _; omega) (by show _ ≤ 36; omega) (by show _ ≤ 549; omega) (Or.inl ⟨x_cell_a (by simp [x_uT]), rfl⟩) d_Mod_init_219 (fun H hz1 hH hS => ?_)
  have hz := x_lin hlin e355 hz1
  obtain ⟨T362, e361, hf⟩ := x_b hf
  have hH := x_nT e361 hH
  refine W.widen (k := 26) (n := 388) (by omega) (by omega) ?_
  refine x_pc 221 rfl ?_
  refine x_cs 26 388 rfl rfl ?_
  obtain ⟨_, e363, hf⟩ := x_b hf
  obtain ⟨n364, hT365⟩ := x_is_e e363
  obtain ⟨_, e366, hf⟩ := x_b hf
  refine x_putFZ (C := "WallDampModel") (F := F_Mod) (N := 51) (ty := t_Mod 31) (v := .ref (ad (nx + 25))) (w' := x_sR w353 95 l0 (some (nx + 25))) hx hb hts i_Mod t_Mod ty_Mod n_Mod hown hK hH hS hT365 (by decide) rfl rfl 31 (by decide) (hts _ m_824) (fun _ h9 => h9) rfl hin rfl (ty_Mod 31 (by decide)) rfl rfl (x_on_R (v := some (nx + 25)) hT365 (by decide) rfl nd_Mod k3_Mod) (fun j hj => x_off_R hj) (fun hh => x_ok_R hh (x_ex_lt e366 hH)) d_Mod_init_221 (fun H locs hz1 hH hS => ?_)
  have hz := hz1.trans hz
  obtain ⟨w367, e368, hf⟩ := x_b hf
  have hH := x_nw e368 hH
  refine lv_aload_n hx hb d_Mod_init_224 rfl (lv_at hl 0 rfl) ?_
  refine lv_bipush (v := 12) hx hb d_Mod_init_225 (by decide) ?_
  obtain ⟨_, e369, hf⟩ := x_b hf
  obtain ⟨n371, e370, hf⟩ := x_b hf
  obtain ⟨hn372, hN373, hM374⟩ := x_sz_e e370
  refine x_newa (atype := .long) (ci := 101) hx hb (hts _ m_947) hK hH hS hA hz 1 rfl (fun h => h) hn372 hN373 (by show n371 * 8 ≤ _; omega) (by show _ ≤ 36; omega) (by show _ ≤ 549; omega) (Or.inr ⟨x_cell_b (by simp [x_uT]), rfl⟩) d_Mod_init_227 (fun H hz1 hH hS => ?_)
  have hz := x_lin hlin e369 hz1
  obtain ⟨T376, e375, hf⟩ := x_b hf
  have hH := x_nT e375 hH
  refine W.widen (k := 27) (n := 400) (by omega) (by omega) ?_
  obtain ⟨_, e377, hf⟩ := x_b hf
  obtain ⟨n378, hT379⟩ := x_is_e e377
  obtain ⟨_, e380, hf⟩ := x_b hf
  refine x_putFZ (C := "WallDampModel") (F := F_Mod) (N := 51) (ty := t_Mod 39) (v := .ref (ad (nx + 26))) (w' := x_sR w367 103 l0 (some (nx + 26))) hx hb hts i_Mod t_Mod ty_Mod n_Mod hown hK hH hS hT379 (by decide) rfl rfl 39 (by decide) (hts _ m_832) (fun _ h9 => h9) rfl hin rfl (ty_Mod 39 (by decide)) rfl rfl (x_on_R (v := some (nx + 26)) hT379 (by decide) rfl nd_Mod k3_Mod) (fun j hj => x_off_R hj) (fun hh => x_ok_R hh (x_ex_lt e380 hH)) d_Mod_init_229 (fun H locs hz1 hH hS => ?_)
  have hz := hz1.trans hz
  obtain ⟨w381, e382, hf⟩ := x_b hf
  have hH := x_nw e382 hH
  refine lv_aload_n hx hb d_Mod_init_232 rfl (lv_at hl 0 rfl) ?_
  refine lv_bipush (v := 12) hx hb d_Mod_init_233 (by decide) ?_
  obtain ⟨_, e383, hf⟩ := x_b hf
  obtain ⟨n385, e384, hf⟩ := x_b hf
  obtain ⟨hn386, hN387, hM388⟩ := x_sz_e e384
  refine x_newa (atype := .int) (ci := 100) hx hb (hts _ m_60) hK hH hS hA hz 0 rfl (fun h => h) hn386 hN387 (by show n385 * 4 ≤ _; omega) (by show _ ≤ 36; omega) (by show _ ≤ 549; omega) (Or.inl ⟨x_cell_a (by simp [x_uT]), rfl⟩) d_Mod_init_235 (fun H hz1 hH hS => ?_)
  have hz := x_lin hlin e383 hz1
  obtain ⟨T390, e389, hf⟩ := x_b hf
  have hH := x_nT e389 hH
  refine W.widen (k := 28) (n := 412) (by omega) (by omega) ?_
  refine x_pc 237 rfl ?_
  refine x_cs 28 412 rfl rfl ?_
  obtain ⟨_, e391, hf⟩ := x_b hf
  obtain ⟨n392, hT393⟩ := x_is_e e391
  obtain ⟨_, e394, hf⟩ := x_b hf
  refine x_putFZ (C := "WallDampModel") (F := F_Mod) (N := 51) (ty := t_Mod 40) (v := .ref (ad (nx + 27))) (w' := x_sR w381 104 l0 (some (nx + 27))) hx hb hts i_Mod t_Mod ty_Mod n_Mod hown hK hH hS hT393 (by decide) rfl rfl 40 (by decide) (hts _ m_833) (fun _ h9 => h9) rfl hin rfl (ty_Mod 40 (by decide)) rfl rfl (x_on_R (v := some (nx + 27)) hT393 (by decide) rfl nd_Mod k3_Mod) (fun j hj => x_off_R hj) (fun hh => x_ok_R hh (x_ex_lt e394 hH)) d_Mod_init_237 (fun H locs hz1 hH hS => ?_)
  have hz := hz1.trans hz
  obtain ⟨w395, e396, hf⟩ := x_b hf
  have hH := x_nw e396 hH
  refine lv_aload_n hx hb d_Mod_init_240 rfl (lv_at hl 0 rfl) ?_
  refine lv_bipush (v := 72) hx hb d_Mod_init_241 (by decide) ?_
  obtain ⟨_, e397, hf⟩ := x_b hf
  obtain ⟨n399, e398, hf⟩ := x_b hf
  obtain ⟨hn400, hN401, hM402⟩ := x_sz_e e398
  refine x_newa (atype := .long) (ci := 101) hx hb (hts _ m_947) hK hH hS hA hz 1 rfl (fun h => h) hn400 hN401 (by show n399 * 8 ≤ _; omega) (by show _ ≤ 36; omega) (by show _ ≤ 549; omega) (Or.inr ⟨x_cell_b (by simp [x_uT]), rfl⟩) d_Mod_init_243 (fun H hz1 hH hS => ?_)
  have hz := x_lin hlin e397 hz1
  obtain ⟨T404, e403, hf⟩ := x_b hf
  have hH := x_nT e403 hH
  refine W.widen (k := 29) (n := 484) (by omega) (by omega) ?_
  obtain ⟨_, e405, hf⟩ := x_b hf
  obtain ⟨n406, hT407⟩ := x_is_e e405
  obtain ⟨_, e408, hf⟩ := x_b hf
  refine x_putFZ (C := "WallDampModel") (F := F_Mod) (N := 51) (ty := t_Mod 41) (v := .ref (ad (nx + 28))) (w' := x_sR w395 105 l0 (some (nx + 28))) hx hb hts i_Mod t_Mod ty_Mod n_Mod hown hK hH hS hT407 (by decide) rfl rfl 41 (by decide) (hts _ m_834) (fun _ h9 => h9) rfl hin rfl (ty_Mod 41 (by decide)) rfl rfl (x_on_R (v := some (nx + 28)) hT407 (by decide) rfl nd_Mod k3_Mod) (fun j hj => x_off_R hj) (fun hh => x_ok_R hh (x_ex_lt e408 hH)) d_Mod_init_245 (fun H locs hz1 hH hS => ?_)
  have hz := hz1.trans hz
  obtain ⟨w409, e410, hf⟩ := x_b hf
  have hH := x_nw e410 hH
  refine lv_aload_n hx hb d_Mod_init_248 rfl (lv_at hl 0 rfl) ?_
  refine lv_bipush (v := 12) hx hb d_Mod_init_249 (by decide) ?_
  obtain ⟨_, e411, hf⟩ := x_b hf
  obtain ⟨n413, e412, hf⟩ := x_b hf
  obtain ⟨hn414, hN415, hM416⟩ := x_sz_e e412
  refine x_newa (atype := .int) (ci := 100) hx hb (hts _ m_60) hK hH hS hA hz 0 rfl (fun h => h) hn414 hN415 (by show n413 * 4 ≤ _; omega) (by show _ ≤ 36; omega) (by show _ ≤ 549; omega) (Or.inl ⟨x_cell_a (by simp [x_uT]), rfl⟩) d_Mod_init_251 (fun H hz1 hH hS => ?_)
  have hz := x_lin hlin e411 hz1
  obtain ⟨T418, e417, hf⟩ := x_b hf
  have hH := x_nT e417 hH
  refine W.widen (k := 30) (n := 496) (by omega) (by omega) ?_
  refine x_pc 253 rfl ?_
  refine x_cs 30 496 rfl rfl ?_
  obtain ⟨_, e419, hf⟩ := x_b hf
  obtain ⟨n420, hT421⟩ := x_is_e e419
  obtain ⟨_, e422, hf⟩ := x_b hf
  refine x_putFZ (C := "WallDampModel") (F := F_Mod) (N := 51) (ty := t_Mod 44) (v := .ref (ad (nx + 29))) (w' := x_sR w409 108 l0 (some (nx + 29))) hx hb hts i_Mod t_Mod ty_Mod n_Mod hown hK hH hS hT421 (by decide) rfl rfl 44 (by decide) (hts _ m_837) (fun _ h9 => h9) rfl hin rfl (ty_Mod 44 (by decide)) rfl rfl (x_on_R (v := some (nx + 29)) hT421 (by decide) rfl nd_Mod k3_Mod) (fun j hj => x_off_R hj) (fun hh => x_ok_R hh (x_ex_lt e422 hH)) d_Mod_init_253 (fun H locs hz1 hH hS => ?_)
  have hz := hz1.trans hz
  obtain ⟨w423, e424, hf⟩ := x_b hf
  have hH := x_nw e424 hH
  refine lv_aload_n hx hb d_Mod_init_256 rfl (lv_at hl 0 rfl) ?_
  refine lv_bipush (v := 12) hx hb d_Mod_init_257 (by decide) ?_
  obtain ⟨_, e425, hf⟩ := x_b hf
  obtain ⟨n427, e426, hf⟩ := x_b hf
  obtain ⟨hn428, hN429, hM430⟩ := x_sz_e e426
  refine x_newa (atype := .int) (ci := 100) hx hb (hts _ m_60) hK hH hS hA hz 0 rfl (fun h => h) hn428 hN429 (by show n427 * 4 ≤ _; omega) (by show _ ≤ 36; omega) (by show _ ≤ 549; omega) (Or.inl ⟨x_cell_a (by simp [x_uT]), rfl⟩) d_Mod_init_259 (fun H hz1 hH hS => ?_)
  have hz := x_lin hlin e425 hz1
  obtain ⟨T432, e431, hf⟩ := x_b hf
  have hH := x_nT e431 hH
  refine W.widen (k := 31) (n := 508) (by omega) (by omega) ?_
  obtain ⟨_, e433, hf⟩ := x_b hf
  obtain ⟨n434, hT435⟩ := x_is_e e433
  obtain ⟨_, e436, hf⟩ := x_b hf
  refine x_putFZ (C := "WallDampModel") (F := F_Mod) (N := 51) (ty := t_Mod 45) (v := .ref (ad (nx + 30))) (w' := x_sR w423 109 l0 (some (nx + 30))) hx hb hts i_Mod t_Mod ty_Mod n_Mod hown hK hH hS hT435 (by decide) rfl rfl 45 (by decide) (hts _ m_838) (fun _ h9 => h9) rfl hin rfl (ty_Mod 45 (by decide)) rfl rfl (x_on_R (v := some (nx + 30)) hT435 (by decide) rfl nd_Mod k3_Mod) (fun j hj => x_off_R hj) (fun hh => x_ok_R hh (x_ex_lt e436 hH)) d_Mod_init_261 (fun H locs hz1 hH hS => ?_)
  have hz := hz1.trans hz
  obtain ⟨w437, e438, hf⟩ := x_b hf
  have hH := x_nw e438 hH
  refine lv_aload_n hx hb d_Mod_init_264 rfl (lv_at hl 0 rfl) ?_
  refine lv_bipush (v := 12) hx hb d_Mod_init_265 (by decide) ?_
  obtain ⟨_, e439, hf⟩ := x_b hf
  obtain ⟨n441, e440, hf⟩ := x_b hf
  obtain ⟨hn442, hN443, hM444⟩ := x_sz_e e440
  refine x_newa (atype := .int) (ci := 100) hx hb (hts _ m_60) hK hH hS hA hz 0 rfl (fun h => h) hn442 hN443 (by show n441 * 4 ≤ _; omega) (by show _ ≤ 36; omega) (by show _ ≤ 549; omega) (Or.inl ⟨x_cell_a (by simp [x_uT]), rfl⟩) d_Mod_init_267 (fun H hz1 hH hS => ?_)
  have hz := x_lin hlin e439 hz1
  obtain ⟨T446, e445, hf⟩ := x_b hf
  have hH := x_nT e445 hH
  refine W.widen (k := 32) (n := 520) (by omega) (by omega) ?_
  refine x_pc 269 rfl ?_
  refine x_cs 32 520 rfl rfl ?_
  obtain ⟨_, e447, hf⟩ := x_b hf
  obtain ⟨n448, hT449⟩ := x_is_e e447
  obtain ⟨_, e450, hf⟩ := x_b hf
  refine x_putFZ (C := "WallDampModel") (F := F_Mod) (N := 51) (ty := t_Mod 46) (v := .ref (ad (nx + 31))) (w' := x_sR w437 110 l0 (some (nx + 31))) hx hb hts i_Mod t_Mod ty_Mod n_Mod hown hK hH hS hT449 (by decide) rfl rfl 46 (by decide) (hts _ m_839) (fun _ h9 => h9) rfl hin rfl (ty_Mod 46 (by decide)) rfl rfl (x_on_R (v := some (nx + 31)) hT449 (by decide) rfl nd_Mod k3_Mod) (fun j hj => x_off_R hj) (fun hh => x_ok_R hh (x_ex_lt e450 hH)) d_Mod_init_269 (fun H locs hz1 hH hS => ?_)
  have hz := hz1.trans hz
  obtain ⟨w451, e452, hf⟩ := x_b hf
  have hH := x_nw e452 hH
  refine lv_aload_n hx hb d_Mod_init_272 rfl (lv_at hl 0 rfl) ?_
  refine lv_iconst (v := 5) hx hb d_Mod_init_273 (by decide) ?_
  obtain ⟨_, e453, hf⟩ := x_b hf
  obtain ⟨n455, e454, hf⟩ := x_b hf
  obtain ⟨hn456, hN457, hM458⟩ := x_sz_e e454
  refine x_newa (atype := .int) (ci := 100) hx hb (hts _ m_60) hK hH hS hA hz 0 rfl (fun h => h) hn456 hN457 (by show n455 * 4 ≤ _; omega) (by show _ ≤ 36; omega) (by show _ ≤ 549; omega) (Or.inl ⟨x_cell_a (by simp [x_uT]), rfl⟩) d_Mod_init_274 (fun H hz1 hH hS => ?_)
  have hz := x_lin hlin e453 hz1
  obtain ⟨T460, e459, hf⟩ := x_b hf
  have hH := x_nT e459 hH
  refine W.widen (k := 33) (n := 525) (by omega) (by omega) ?_
  obtain ⟨_, e461, hf⟩ := x_b hf
  obtain ⟨n462, hT463⟩ := x_is_e e461
  obtain ⟨_, e464, hf⟩ := x_b hf
  refine x_putFZ (C := "WallDampModel") (F := F_Mod) (N := 51) (ty := t_Mod 47) (v := .ref (ad (nx + 32))) (w' := x_sR w451 111 l0 (some (nx + 32))) hx hb hts i_Mod t_Mod ty_Mod n_Mod hown hK hH hS hT463 (by decide) rfl rfl 47 (by decide) (hts _ m_840) (fun _ h9 => h9) rfl hin rfl (ty_Mod 47 (by decide)) rfl rfl (x_on_R (v := some (nx + 32)) hT463 (by decide) rfl nd_Mod k3_Mod) (fun j hj => x_off_R hj) (fun hh => x_ok_R hh (x_ex_lt e464 hH)) d_Mod_init_276 (fun H locs hz1 hH hS => ?_)
  have hz := hz1.trans hz
  obtain ⟨w465, e466, hf⟩ := x_b hf
  have hH := x_nw e466 hH
  refine lv_aload_n hx hb d_Mod_init_279 rfl (lv_at hl 0 rfl) ?_
  refine lv_iconst (v := 5) hx hb d_Mod_init_280 (by decide) ?_
  obtain ⟨_, e467, hf⟩ := x_b hf
  obtain ⟨n469, e468, hf⟩ := x_b hf
  obtain ⟨hn470, hN471, hM472⟩ := x_sz_e e468
  refine x_newa (atype := .int) (ci := 100) hx hb (hts _ m_60) hK hH hS hA hz 0 rfl (fun h => h) hn470 hN471 (by show n469 * 4 ≤ _; omega) (by show _ ≤ 36; omega) (by show _ ≤ 549; omega) (Or.inl ⟨x_cell_a (by simp [x_uT]), rfl⟩) d_Mod_init_281 (fun H hz1 hH hS => ?_)
  have hz := x_lin hlin e467 hz1
  obtain ⟨T474, e473, hf⟩ := x_b hf
  have hH := x_nT e473 hH
  refine W.widen (k := 34) (n := 530) (by omega) (by omega) ?_
  refine x_pc 283 rfl ?_
  refine x_cs 34 530 rfl rfl ?_
  obtain ⟨_, e475, hf⟩ := x_b hf
  obtain ⟨n476, hT477⟩ := x_is_e e475
  obtain ⟨_, e478, hf⟩ := x_b hf
  refine x_putFZ (C := "WallDampModel") (F := F_Mod) (N := 51) (ty := t_Mod 48) (v := .ref (ad (nx + 33))) (w' := x_sR w465 112 l0 (some (nx + 33))) hx hb hts i_Mod t_Mod ty_Mod n_Mod hown hK hH hS hT477 (by decide) rfl rfl 48 (by decide) (hts _ m_841) (fun _ h9 => h9) rfl hin rfl (ty_Mod 48 (by decide)) rfl rfl (x_on_R (v := some (nx + 33)) hT477 (by decide) rfl nd_Mod k3_Mod) (fun j hj => x_off_R hj) (fun hh => x_ok_R hh (x_ex_lt e478 hH)) d_Mod_init_283 (fun H locs hz1 hH hS => ?_)
  have hz := hz1.trans hz
  obtain ⟨w479, e480, hf⟩ := x_b hf
  have hH := x_nw e480 hH
  refine lv_aload_n hx hb d_Mod_init_286 rfl (lv_at hl 0 rfl) ?_
  refine lv_iconst (v := 5) hx hb d_Mod_init_287 (by decide) ?_
  obtain ⟨_, e481, hf⟩ := x_b hf
  obtain ⟨n483, e482, hf⟩ := x_b hf
  obtain ⟨hn484, hN485, hM486⟩ := x_sz_e e482
  refine x_newa (atype := .boolean) (ci := 102) hx hb (hts _ m_948) hK hH hS hA hz 2 rfl (fun h => h) hn484 hN485 (by show n483 * 1 ≤ _; omega) (by show _ ≤ 36; omega) (by show _ ≤ 549; omega) (Or.inl ⟨x_cell_z (by simp [x_uT]), rfl⟩) d_Mod_init_288 (fun H hz1 hH hS => ?_)
  have hz := x_lin hlin e481 hz1
  obtain ⟨T488, e487, hf⟩ := x_b hf
  have hH := x_nT e487 hH
  refine W.widen (k := 35) (n := 535) (by omega) (by omega) ?_
  obtain ⟨_, e489, hf⟩ := x_b hf
  obtain ⟨n490, hT491⟩ := x_is_e e489
  obtain ⟨_, e492, hf⟩ := x_b hf
  refine x_putFZ (C := "WallDampModel") (F := F_Mod) (N := 51) (ty := t_Mod 49) (v := .ref (ad (nx + 34))) (w' := x_sR w479 113 l0 (some (nx + 34))) hx hb hts i_Mod t_Mod ty_Mod n_Mod hown hK hH hS hT491 (by decide) rfl rfl 49 (by decide) (hts _ m_842) (fun _ h9 => h9) rfl hin rfl (ty_Mod 49 (by decide)) rfl rfl (x_on_R (v := some (nx + 34)) hT491 (by decide) rfl nd_Mod k3_Mod) (fun j hj => x_off_R hj) (fun hh => x_ok_R hh (x_ex_lt e492 hH)) d_Mod_init_290 (fun H locs hz1 hH hS => ?_)
  have hz := hz1.trans hz
  obtain ⟨w493, e494, hf⟩ := x_b hf
  have hH := x_nw e494 hH
  refine lv_aload_n hx hb d_Mod_init_293 rfl (lv_at hl 0 rfl) ?_
  refine lv_bipush (v := 14) hx hb d_Mod_init_294 (by decide) ?_
  obtain ⟨_, e495, hf⟩ := x_b hf
  obtain ⟨n497, e496, hf⟩ := x_b hf
  obtain ⟨hn498, hN499, hM500⟩ := x_sz_e e496
  refine x_newa (atype := .long) (ci := 101) hx hb (hts _ m_947) hK hH hS hA hz 1 rfl (fun h => h) hn498 hN499 (by show n497 * 8 ≤ _; omega) (by show _ ≤ 36; omega) (by show _ ≤ 549; omega) (Or.inr ⟨x_cell_b (by simp [x_uT]), rfl⟩) d_Mod_init_296 (fun H hz1 hH hS => ?_)
  have hz := x_lin hlin e495 hz1
  obtain ⟨T502, e501, hf⟩ := x_b hf
  have hH := x_nT e501 hH
  refine W.widen (k := 36) (n := 549) (by omega) (by omega) ?_
  refine x_pc 298 rfl ?_
  refine x_cs 36 549 rfl rfl ?_
  obtain ⟨_, e503, hf⟩ := x_b hf
  obtain ⟨n504, hT505⟩ := x_is_e e503
  obtain ⟨_, e506, hf⟩ := x_b hf
  refine x_putFZ (C := "WallDampModel") (F := F_Mod) (N := 51) (ty := t_Mod 50) (v := .ref (ad (nx + 35))) (w' := x_sR w493 114 l0 (some (nx + 35))) hx hb hts i_Mod t_Mod ty_Mod n_Mod hown hK hH hS hT505 (by decide) rfl rfl 50 (by decide) (hts _ m_843) (fun _ h9 => h9) rfl hin rfl (ty_Mod 50 (by decide)) rfl rfl (x_on_R (v := some (nx + 35)) hT505 (by decide) rfl nd_Mod k3_Mod) (fun j hj => x_off_R hj) (fun hh => x_ok_R hh (x_ex_lt e506 hH)) d_Mod_init_298 (fun H locs hz1 hH hS => ?_)
  have hz := hz1.trans hz
  obtain ⟨w507, e508, hf⟩ := x_b hf
  have hH := x_nw e508 hH
  refine lv_aload_n hx hb d_Mod_init_301 rfl (lv_at hl 0 rfl) ?_
  refine lv_iload_n hx hb d_Mod_init_302 rfl (lv_at hl 1 rfl) ?_
  refine lv_iconst (v := 1) hx hb d_Mod_init_303 (by decide) ?_
  refine x_pc 304 rfl ?_
  refine lv_icmp_ge (tgt := 311) hx hb d_Mod_init_304 (by decide) (fun c509 => ?_) (fun c509 => ?_)
  · have hf := x_it hf c509
    refine lv_iload_n hx hb d_Mod_init_311 rfl (lv_at hl 1 rfl) ?_
    refine lv_bipush (v := 12) hx hb d_Mod_init_312 (by decide) ?_
    refine x_pc 314 rfl ?_
    refine lv_icmp_le (tgt := 322) hx hb d_Mod_init_314 (by decide) (fun c510 => ?_) (fun c510 => ?_)
    · have hf := x_it hf c510
      refine x_pc 322 rfl ?_
      refine x_cs 36 549 rfl rfl ?_
      refine lv_iload_n hx hb d_Mod_init_322 rfl (lv_at hl 1 rfl) ?_
      exact k_Mod_init_323 C0 hin hAo hlin T502 (nx + 36) w507 _ _ _ l0 l0 l1 hf hz hH hS (lv_sub hl [0] rfl)
    · have hf := x_if hf c510
      refine x_pc 317 rfl ?_
      refine x_cs 36 549 rfl rfl ?_
      refine lv_bipush (v := 12) hx hb d_Mod_init_317 (by decide) ?_
      refine x_pc 319 rfl ?_
      refine lv_goto (tgt := 323) hx hb d_Mod_init_319 (by decide) ?_
      exact k_Mod_init_323 C0 hin hAo hlin T502 (nx + 36) w507 _ _ _ l0 l0 (12 : Int32) hf hz hH hS (lv_sub hl [0] rfl)
  · have hf := x_if hf c509
    refine lv_iconst (v := 1) hx hb d_Mod_init_307 (by decide) ?_
    refine x_pc 308 rfl ?_
    refine lv_goto (tgt := 323) hx hb d_Mod_init_308 (by decide) ?_
    exact k_Mod_init_323 C0 hin hAo hlin T502 (nx + 36) w507 _ _ _ l0 l0 (1 : Int32) hf hz hH hS (lv_sub hl [0] rfl)
theorem c_Mod_init (l : Launch) (D : va_G) (aC : Nat → ClassId) (ad : Nat → Nat) (M : Nat) (hlin : x_Lin ad M) (T : x_T) (nx : Nat) (w : x_W) (a0 : Nat) (a1 : Int32) (q : x_T × Nat × x_W) (hf : f_Mod_init M T nx w a0 a1 = some q) : Met l y_Mod_init ws_Mod_init { frames := 1, cells := 36, slots := 549, locals := 20 } (x_Pn D aC ad T nx w [.ref (ad a0), .int a1]) (x_Qn D aC ad q (x_dom ad nx (ad nx))) 36 549 (x_dom ad nx (ad nx)) :=
  x_metN [(0, .ref (ad a0)), (1, .int a1)] (by decide) rfl rfl rfl (Nat.le_of_ble_eq_true rfl) (fun p e s m args below meth c ls C0 hin hAo hz hH hS hl => k_Mod_init C0 hin hAo hlin T nx w _ _ _ a0 a1 hf hz hH hS (lv_sub hl [0, 1] rfl))
