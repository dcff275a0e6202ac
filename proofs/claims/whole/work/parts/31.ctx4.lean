/-! WHAT A CONSTRUCTOR'S WALK STANDS ON: handles are made one behind another, at addresses one behind another -/
def x_lt (a b : Nat) : Option Unit := if a < b then some () else none
theorem x_lt_e {a b : Nat} {u : Unit} (e : x_lt a b = some u) : a < b := by
  by_cases h : a < b
  · exact h
  · simp [x_lt, h] at e
/-- the length of a new array: not negative, at most M -/
def x_sz (k : Int32) (M : Nat) : Option Nat := if 0 ≤ k.toInt ∧ k.toInt ≤ (M : Int) then some k.toInt.toNat else none
theorem x_sz_e {k : Int32} {M n : Nat} (e : x_sz k M = some n) : ¬ k < 0 ∧ k.toNatClampNeg = n ∧ n ≤ M := by
  by_cases h : 0 ≤ k.toInt ∧ k.toInt ≤ (M : Int)
  · simp only [x_sz, h, and_self, if_true, Option.some.injEq] at e
    subst e
    refine ⟨fun q => ?_, rfl, by omega⟩
    have := Int32.lt_iff_toInt_lt.mp q
    simp at this
    omega
  · simp [x_sz, h] at e
def x_Lin (ad : Nat → Nat) (M : Nat) : Prop := ∀ i, i < M → ad (i + 1) = ad i + 1
theorem x_lin {ad : Nat → Nat} {M nx z : Nat} (hlin : x_Lin ad M) {u : Unit} (e : x_lt nx M = some u) (h : z = ad nx + 1) : z = ad (nx + 1) := h.trans (hlin nx (x_lt_e e)).symm
def x_Qn (D : va_G) (aC : Nat → ClassId) (ad : Nat → Nat) (q : x_T × Nat × x_W) (A : Nat → Prop) : Array Value → State → Outcome → State → Prop :=
  fun _ st o t => o = .returned none ∧ va_F A st t ∧ t.heap.size = ad q.2.1 ∧ x_H D x_cl x_FT aC ad q.1 q.2.1 (fun q => A q) q.2.2 t.heap
theorem x_nT {D : va_G} {cl : List vw_C} {FT : Nat → List (Nat × Nat)} {aC : Nat → ClassId} {ad : Nat → Nat} {T T' : x_T} {nx : Nat} {A : Nat → Prop} {w : x_W} {H : Heap} (e1 : some T = some T') (h : x_H D cl FT aC ad T nx A w H) : x_H D cl FT aC ad T' nx A w H := by cases e1; exact h
theorem x_gI {y : MethodName} {b : ByteArray} {n : Nat} {ret : Option FieldType} (h5 : Cond.code y b n ret ∈ x_tb) : GoodIn x_tb (.code y b n ret :: x_tb) := by
  intro w hw
  have hm : w ∈ x_tb := by
    rcases List.mem_cons.mp hw with rfl | h
    · exact h5
    · exact h
  exact ⟨hm, x_goodTb hm⟩
/-- the array classes are there -/
def x_Ao (U : State) : Prop := va_AO "WallDamp$Material" U ∧ va_AO "WallDamp$Cell" U ∧ va_AO "WallDamp$Flow" U
theorem x_Ao.moved {u U : State} (hvm : u.vm.Alike U.vm) (h : x_Ao u) : x_Ao U := ⟨va_AO.moved hvm h.1, va_AO.moved hvm h.2.1, va_AO.moved hvm h.2.2⟩
def x_Pn (D : va_G) (aC : Nat → ClassId) (ad : Nat → Nat) (T : x_T) (nx : Nat) (w : x_W) (av : List Value) : Array Value → State → Prop :=
  va_Pc av (fun U => (U.heap.size = ad nx ∧ x_H D x_cl x_FT aC ad T nx (fun _ => True) w U.heap ∧ va_K D x_cl (x_tys aC) U ∧ x_Fx U) ∧ x_Ao U)
section XC4
variable {p : Program} {l : Launch} {e : Env} {R : Room} {s : State} {m : MethodId} {args : Array Value} {below : List Frame} {meth : Method} {c : Code} {H : Heap} {locs : List Loc} {cells slots : Nat} {Q : State → Prop}
variable {D : va_G} {aC : Nat → ClassId} {ad : Nat → Nat} {T : x_T} {nx sz : Nat} {w w' : x_W} {A : Nat → Prop}
theorem x_blindN {av : List Value} : FrameBlind (x_Pn D aC ad T nx w av) := fun a U g mk q => by
  obtain ⟨h1, ⟨h2, h3, h4, h5⟩, h6⟩ := q
  exact ⟨h1, ⟨h2, h3, va_K.moved (u := U) (U := U.calling g mk a) (Vm.Alike.refl U.vm) h4, x_Fx.same rfl h5⟩, x_Ao.moved (u := U) (U := U.calling g mk a) (Vm.Alike.refl U.vm) h6⟩
theorem x_metN {y : MethodName} {own : String} {cc : ByteArray} {maxL mc ms : Nat} {rm : Room} {av : List Value} {q : x_T × Nat × x_W} (lv : List (Nat × Value)) (hy : plainName y.cls = true) (hnm : y.name = "<init>") (ho : y.cls = own) (hlv : lv_args 0 av = lv) (hle : (lg_sl av).length ≤ maxL)
    (walk : ∀ (p : Program) (e : Env) (s : State) (m : MethodId) (args : Array Value) (below : List Frame) (meth : Method) (c : Code) (ls : Array Slot), x_At p s m meth c args own cc none maxL D aC (x_dom ad nx (ad nx)) → meth.name = "<init>" → x_Ao s → s.heap.size = ad nx → x_H D x_cl x_FT aC ad T nx (x_dom ad nx (ad nx)) w s.heap → va_S (x_dom ad nx (ad nx)) s.heap s.heap [] → lv_has ls maxL lv →
      W p l e rm s m args below meth c s.heap [] 0 0 (MQ below (x_Qn D aC ad q (x_dom ad nx (ad nx))) args s mc ms (x_dom ad nx (ad nx))) (F0 m 0 ls [])) :
    Met l y (.code y cc maxL none :: x_tb) rm (x_Pn D aC ad T nx w av) (x_Qn D aC ad q (x_dom ad nx (ad nx))) mc ms (x_dom ad nx (ad nx)) := by
  refine Met.ofW (cc := cc) (maxL := maxL) (ret := none) hy rfl ?_
  intro p e s m args below meth c s₁ B hml hv
  obtain ⟨rfl, ⟨hsz, hH, hK, hX⟩, hAo⟩ := hv
  have hts : ∀ w ∈ x_tb, w.before av.toArray s = true := fun w h => atoms_spec (ws := .code y cc maxL none :: x_tb) B.pre w (List.mem_cons_of_mem _ h)
  have hown : s.vm.findClass own = some m.cls := ho ▸ findClass_of_methodNamed B.named
  have hin : meth.name = "<init>" := hnm ▸ (name_of_methodNamed B.named B.method).1
  have hl := lv_entry av (n := maxL) hle
  rw [hlv] at hl
  rw [lg_entry_eq]
  generalize (lg_sl av ++ List.replicate (maxL - (lg_sl av).length) Slot.unset).toArray = ls at hl ⊢
  exact walk p e s m av.toArray below meth c ls ⟨B.exec, B.bytes, B.returns, hml, hown, hts, B.notSynchronized, hK, fun q h => Or.inr (hsz ▸ h), hX⟩ hin hAo hsz hH.self va_S.rf hl
/-- a constructor's call -/
theorem x_callN {a : Array Value} {q : x_T × Nat × x_W} {mc ms pc : Nat} {ls : Array Slot} {st0 rest : List Value} (hr : va_Run p l e R s m args below meth c H locs cells slots mc ms (F0 m pc ls st0) rest (x_Qn D aC ad q (x_dom ad nx (ad nx)) a) (x_dom ad nx (ad nx))) (hz : H.size = ad nx)
    (hH : x_H D x_cl x_FT aC ad T nx A w H) (hA : ∀ q, s.heap.size ≤ q → A q) (hS : va_S A s.heap H locs)
    (kk : ∀ (H1 : Heap) (locs1 : List Loc), H1.size = ad q.2.1 → x_H D x_cl x_FT aC ad q.1 q.2.1 A q.2.2 H1 → va_S A s.heap H1 locs1 → W p l e R s m args below meth c H1 locs1 (cells + mc) (slots + ms) Q (F0 m (pc + 3) ls rest)) : W p l e R s m args below meth c H locs cells slots Q (F0 m pc ls st0) := by
  intro T' hT X
  obtain ⟨v1, st₀, t, T1, L, h0, X', hL, e1, e2, ⟨hv, ⟨hz1, hk⟩, hsz, hH1⟩, st⟩ := hr T' hT X
  cases hv
  rw [h0] at hz1 hk
  have hdom : ∀ q, x_dom ad nx (ad nx) q → A q := fun q h => by
    rcases h with ⟨i, hi, rfl⟩ | h
    · exact hH.dom hi
    · exact hA q (Nat.le_trans hS.1 (hz ▸ h))
  obtain ⟨t2, a1, b1⟩ := kk T1.heap (locs ++ L) (by rw [e1]; exact hsz) (by rw [e1]; exact hH1.weaken (fun i hi h => hdom _ h))
    ⟨Nat.le_trans hS.1 (by rw [e1]; exact hz1), fun q h1 h2 => by rw [e1, hk q (Nat.lt_of_lt_of_le h1 hS.1) (fun z => h2 (hdom q z))]; exact hS.2.1 q h1 h2, fun q hq => by
      rcases List.mem_append.mp hq with h | h
      · exact hS.2.2 q h
      · exact hdom _ (hL q h)⟩ T1 rfl X'
  exact ⟨t2, st t2 a1, b1⟩
theorem x_preN {As : List Value} (hz : H.size = ad nx) (hH : x_H D x_cl x_FT aC ad T nx A w H) (hK : va_K D x_cl (x_tys aC) s) (hX : x_Fx s) (hAo : x_Ao s) : PreS s H (x_Pn D aC ad T nx w As) As :=
  ⟨x_blindN, fun U hU hW => ⟨rfl, ⟨by rw [hU]; exact hz, by rw [hU]; exact hH.weaken (fun _ _ _ => trivial), va_K.moved hW.alike hK, hX.warm hW⟩, hAo.moved hW.alike⟩⟩
theorem x_putPIZ {cc : ByteArray} {pc index h : Nat} {ls : Array Slot} {rest : List Value} {own : String} {H0 : Heap} (hexec : p.tables.exec = Jvm.exec) (hb : c.code = cc) (hts : ∀ w ∈ x_tb, w.before args s = true) (hown : s.vm.findClass own = some m.cls) (hK : va_K D x_cl (x_tys aC) s) (hH : x_H D x_cl x_FT aC ad T nx A w H) (hS : va_S A H0 H locs) (hT : x_isP T h) (k : Nat) (hk : k < 7) (hF : F_Air k = F_Cell k) (hlink : (Cond.fieldLink own index (F_Cell k).1 (F_Cell k).2.1 (F_Cell k).2.2.1).before args s = true) {j : Nat} {v : Int32} (h1 : (x_FT 1)[k]? = some (0, j)) (h2 : (x_FT 2)[k]? = some (0, j)) (hfin : (F_Cell k).2.2.2 = false) (hty : t_Cell k = .int) (hdg : decode cc pc = .ok (.putfield index, 3))
    (kk : ∀ (H1 : Heap) (locs1 : List Loc), H1.size = H.size → x_H D x_cl x_FT aC ad T nx A (x_sI w j h v) H1 → va_S A H0 H1 locs1 → W p l e R s m args below meth c H1 locs1 cells slots Q (F0 m (pc + 3) ls rest)) : W p l e R s m args below meth c H locs cells slots Q (F0 m pc ls (.int v :: .ref (ad h) :: rest)) := by
  have hd : parseFieldDescriptor (F_Cell k).2.2.1 = some .int := by rw [← hty]; exact ty_Cell k (by omega)
  rcases hT with ⟨n, hT⟩ | ⟨n, hT⟩
  · exact x_putZ (C := "WallDamp$Air") (F := F_Air) (N := 9) (ref := (F_Cell k).1) (ty := .int) (v := .int v) (w' := x_sI w j h v) hexec hb hts i_Air t_Air ty_Air n_Air hown hK hH hS hT (by decide) rfl rfl k (by omega) (by rw [hF]; exact hlink) (by rw [hF]; exact fun _ h9 => h9) (by rw [hF]; exact hfin) (by rw [hF]; exact hd) rfl rfl (x_on_I hT (by decide) h1 nd_Air) (fun j hj => x_off_I hj) (fun hh ok => x_ok_I hh ok) hdg kk
  · exact x_putZ (C := "WallDamp$Cell") (F := F_Cell) (N := 15) (ref := (F_Cell k).1) (ty := .int) (v := .int v) (w' := x_sI w j h v) hexec hb hts i_Cell t_Cell ty_Cell n_Cell hown hK hH hS hT (by decide) rfl rfl k (by omega) hlink (fun _ h9 => h9) hfin hd rfl rfl (x_on_I hT (by decide) h2 nd_Cell) (fun j hj => x_off_I hj) (fun hh ok => x_ok_I hh ok) hdg kk
end XC4
theorem df_WD : ∀ j, j < 8 → defaultValue (t_WD j) = vp_V ((x_FT 0).map x_dflt) j := fun j hj => match j, hj with
  | 0, _ => rfl
  | 1, _ => rfl
  | 2, _ => rfl
  | 3, _ => rfl
  | 4, _ => rfl
  | 5, _ => rfl
  | 6, _ => rfl
  | 7, _ => rfl
  | k + 8, h => absurd h (by omega)
theorem df_Air : ∀ j, j < 9 → defaultValue (t_Air j) = vp_V ((x_FT 1).map x_dflt) j := fun j hj => match j, hj with
  | 0, _ => rfl
  | 1, _ => rfl
  | 2, _ => rfl
  | 3, _ => rfl
  | 4, _ => rfl
  | 5, _ => rfl
  | 6, _ => rfl
  | 7, _ => rfl
  | 8, _ => rfl
  | k + 9, h => absurd h (by omega)
theorem df_Cell : ∀ j, j < 15 → defaultValue (t_Cell j) = vp_V ((x_FT 2).map x_dflt) j := fun j hj => match j, hj with
  | 0, _ => rfl
  | 1, _ => rfl
  | 2, _ => rfl
  | 3, _ => rfl
  | 4, _ => rfl
  | 5, _ => rfl
  | 6, _ => rfl
  | 7, _ => rfl
  | 8, _ => rfl
  | 9, _ => rfl
  | 10, _ => rfl
  | 11, _ => rfl
  | 12, _ => rfl
  | 13, _ => rfl
  | 14, _ => rfl
  | k + 15, h => absurd h (by omega)
theorem df_Corners : ∀ j, j < 4 → defaultValue (t_Corners j) = vp_V ((x_FT 3).map x_dflt) j := fun j hj => match j, hj with
  | 0, _ => rfl
  | 1, _ => rfl
  | 2, _ => rfl
  | 3, _ => rfl
  | k + 4, h => absurd h (by omega)
theorem df_Flow : ∀ j, j < 5 → defaultValue (t_Flow j) = vp_V ((x_FT 4).map x_dflt) j := fun j hj => match j, hj with
  | 0, _ => rfl
  | 1, _ => rfl
  | 2, _ => rfl
  | 3, _ => rfl
  | 4, _ => rfl
  | k + 5, h => absurd h (by omega)
theorem df_Material : ∀ j, j < 4 → defaultValue (t_Material j) = vp_V ((x_FT 5).map x_dflt) j := fun j hj => match j, hj with
  | 0, _ => rfl
  | 1, _ => rfl
  | 2, _ => rfl
  | 3, _ => rfl
  | k + 4, h => absurd h (by omega)
theorem df_MouldRows : ∀ j, j < 5 → defaultValue (t_MouldRows j) = vp_V ((x_FT 6).map x_dflt) j := fun j hj => match j, hj with
  | 0, _ => rfl
  | 1, _ => rfl
  | 2, _ => rfl
  | 3, _ => rfl
  | 4, _ => rfl
  | k + 5, h => absurd h (by omega)
theorem df_Surroundings : ∀ j, j < 9 → defaultValue (t_Surroundings j) = vp_V ((x_FT 7).map x_dflt) j := fun j hj => match j, hj with
  | 0, _ => rfl
  | 1, _ => rfl
  | 2, _ => rfl
  | 3, _ => rfl
  | 4, _ => rfl
  | 5, _ => rfl
  | 6, _ => rfl
  | 7, _ => rfl
  | 8, _ => rfl
  | k + 9, h => absurd h (by omega)
theorem df_Trials : ∀ j, j < 3 → defaultValue (t_Trials j) = vp_V ((x_FT 8).map x_dflt) j := fun j hj => match j, hj with
  | 0, _ => rfl
  | 1, _ => rfl
  | 2, _ => rfl
  | k + 3, h => absurd h (by omega)
theorem df_Wall : ∀ j, j < 9 → defaultValue (t_Wall j) = vp_V ((x_FT 9).map x_dflt) j := fun j hj => match j, hj with
  | 0, _ => rfl
  | 1, _ => rfl
  | 2, _ => rfl
  | 3, _ => rfl
  | 4, _ => rfl
  | 5, _ => rfl
  | 6, _ => rfl
  | 7, _ => rfl
  | 8, _ => rfl
  | k + 9, h => absurd h (by omega)
theorem df_Mod : ∀ j, j < 51 → defaultValue (t_Mod j) = vp_V ((x_FT 10).map x_dflt) j := fun j hj => match j, hj with
  | 0, _ => rfl
  | 1, _ => rfl
  | 2, _ => rfl
  | 3, _ => rfl
  | 4, _ => rfl
  | 5, _ => rfl
  | 6, _ => rfl
  | 7, _ => rfl
  | 8, _ => rfl
  | 9, _ => rfl
  | 10, _ => rfl
  | 11, _ => rfl
  | 12, _ => rfl
  | 13, _ => rfl
  | 14, _ => rfl
  | 15, _ => rfl
  | 16, _ => rfl
  | 17, _ => rfl
  | 18, _ => rfl
  | 19, _ => rfl
  | 20, _ => rfl
  | 21, _ => rfl
  | 22, _ => rfl
  | 23, _ => rfl
  | 24, _ => rfl
  | 25, _ => rfl
  | 26, _ => rfl
  | 27, _ => rfl
  | 28, _ => rfl
  | 29, _ => rfl
  | 30, _ => rfl
  | 31, _ => rfl
  | 32, _ => rfl
  | 33, _ => rfl
  | 34, _ => rfl
  | 35, _ => rfl
  | 36, _ => rfl
  | 37, _ => rfl
  | 38, _ => rfl
  | 39, _ => rfl
  | 40, _ => rfl
  | 41, _ => rfl
  | 42, _ => rfl
  | 43, _ => rfl
  | 44, _ => rfl
  | 45, _ => rfl
  | 46, _ => rfl
  | 47, _ => rfl
  | 48, _ => rfl
  | 49, _ => rfl
  | 50, _ => rfl
  | k + 51, h => absurd h (by omega)
theorem x_pc {p : Program} {l : Launch} {e : Env} {R : Room} {s : State} {m : MethodId} {args : Array Value} {below : List Frame} {meth : Method} {c : Code} {H : Heap} {locs : List Loc} {cells slots : Nat} {Q : State → Prop} {pc : Nat} (pc' : Nat) {ls : Array Slot} {st : List Value} (h : pc = pc') (k : W p l e R s m args below meth c H locs cells slots Q (F0 m pc' ls st)) : W p l e R s m args below meth c H locs cells slots Q (F0 m pc ls st) := by subst h; exact k
theorem x_cs {p : Program} {l : Launch} {e : Env} {R : Room} {s : State} {m : MethodId} {args : Array Value} {below : List Frame} {meth : Method} {c : Code} {H : Heap} {locs : List Loc} {cells slots : Nat} {Q : State → Prop} {g : JFrame} (c' s' : Nat) (h1 : cells = c') (h2 : slots = s') (k : W p l e R s m args below meth c H locs c' s' Q g) : W p l e R s m args below meth c H locs cells slots Q g := by subst h1; subst h2; exact k
