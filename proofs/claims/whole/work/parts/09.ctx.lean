/-! WHAT A METHOD'S WALK STANDS ON -/
theorem x_b {α β : Type} {o : Option α} {k : α → Option β} {r : β} (h : o.bind k = some r) : ∃ a, o = some a ∧ k a = some r := by
  cases o with
  | none => cases h
  | some a => exact ⟨a, rfl, h⟩
theorem x_it {c : Prop} [Decidable c] {α : Type} {a b : Option α} {r : α} (h : (if c then a else b) = some r) (hc : c) : a = some r := by rwa [if_pos hc] at h
theorem x_if {c : Prop} [Decidable c] {α : Type} {a b : Option α} {r : α} (h : (if c then a else b) = some r) (hc : ¬ c) : b = some r := by rwa [if_neg hc] at h
/-- the handle is an object of the class c -/
def x_is (T : x_T) (h c : Nat) : Option Unit := if (T h).map Prod.fst = some c then some () else none
theorem x_is_e {T : x_T} {h c : Nat} {u : Unit} (e : x_is T h c = some u) : ∃ n, T h = some (c, n) := by
  unfold x_is at e
  cases hq : T h with
  | none => rw [hq] at e; simp at e
  | some q =>
    obtain ⟨a, n⟩ := q
    rw [hq] at e
    by_cases hc : a = c
    · subst hc; exact ⟨n, rfl⟩
    · simp [hc] at e
/-- the handle is an array of the code c, and the index lies in it -/
def x_ix (T : x_T) (h c : Nat) (i : Int32) : Option Unit := if ((T h).map Prod.fst = some c ∧ 0 ≤ i.toInt ∧ i.toInt < (((T h).getD (0, 0)).2 : Int)) then some () else none
theorem x_ix_e {T : x_T} {h c : Nat} {i : Int32} {u : Unit} (e : x_ix T h c i = some u) : ∃ n, T h = some (c, n) ∧ vp_in i n := by
  unfold x_ix at e
  cases hq : T h with
  | none => rw [hq] at e; simp at e
  | some q =>
    obtain ⟨a, n⟩ := q
    rw [hq] at e
    by_cases hc : (a = c ∧ 0 ≤ i.toInt ∧ i.toInt < (n : Int))
    · obtain ⟨h1, h2, h3⟩ := hc
      subst h1
      exact ⟨n, rfl, vp_in_iff.mpr ⟨h2, h3⟩⟩
    · simp only [Option.map_some, Option.some.injEq, Option.getD_some] at e
      rw [if_neg hc] at e
      cases e
def x_len (T : x_T) (h c : Nat) : Option Nat := if (T h).map Prod.fst = some c then some ((T h).getD (0, 0)).2 else none
theorem x_len_e {T : x_T} {h c n : Nat} (e : x_len T h c = some n) : T h = some (c, n) := by
  unfold x_len at e
  cases hq : T h with
  | none => rw [hq] at e; simp at e
  | some q =>
    obtain ⟨a, k⟩ := q
    rw [hq] at e
    by_cases hc : a = c
    · subst hc; simp at e; subst e; rfl
    · simp [hc] at e
def x_nzi (y : Int32) : Option Unit := if y = 0 then none else some ()
theorem x_nzi_e {y : Int32} {u : Unit} (e : x_nzi y = some u) : ¬ y = 0 := fun h => by simp [x_nzi, h] at e
def x_nzl (y : Int64) : Option Unit := if y = 0 then none else some ()
theorem x_nzl_e {y : Int64} {u : Unit} (e : x_nzl y = some u) : ¬ y = 0 := fun h => by simp [x_nzl, h] at e
/-- a number that is 0 or 1 -/
def x_bo (y : Int32) : Option Unit := if y = 0 ∨ y = 1 then some () else none
theorem x_bo_e {y : Int32} {u : Unit} (e : x_bo y = some u) : narrow .boolean (.int y) = .int y ∧ fits .boolean (.int y) = true := by
  by_cases h : y = 0 ∨ y = 1
  · rcases h with rfl | rfl
    · exact ⟨rfl, rfl⟩
    · exact ⟨rfl, rfl⟩
  · simp [x_bo, h] at e
/-- what the tables say beside x_tb's words: it stays as the tables grow warm -/
def x_Fx (U : State) : Prop := va_Nw (.declares ⟨"WallDamp$Place", "give", "(I)V"⟩) U ∧ va_Nw (.declares ⟨"WallDamp$Place", "take", "(I)V"⟩) U
theorem x_Fx.warm {s U : State} (hW : s.WarmedH U.vm) (h : x_Fx s) : x_Fx U := ⟨va_Nw.warmD hW h.1, va_Nw.warmD hW h.2⟩
theorem x_Fx.same {s U : State} (hv : s.vm = U.vm) (h : x_Fx s) : x_Fx U := ⟨va_Nw.same rfl hv h.1, va_Nw.same rfl hv h.2⟩
def x_Pc (D : va_G) (aC : Nat → ClassId) (ad : Nat → Nat) (T : x_T) (nx sz : Nat) (w : x_W) (av : List Value) : Array Value → State → Prop :=
  va_Pc av (fun U => U.heap.size = sz ∧ x_H D x_cl x_FT aC ad T nx (fun _ => True) w U.heap ∧ va_K D x_cl (x_tys aC) U ∧ x_Fx U)
def x_Qc (D : va_G) (aC : Nat → ClassId) (ad : Nat → Nat) (T : x_T) (nx : Nat) (v : Option Value) (w' : x_W) (A : Nat → Prop) : Array Value → State → Outcome → State → Prop :=
  fun _ st o t => o = .returned v ∧ va_F A st t ∧ t.heap.size = st.heap.size ∧ x_H D x_cl x_FT aC ad T nx (fun _ => True) w' t.heap
/-- the same of a method that may make something -/
def x_Qw (D : va_G) (aC : Nat → ClassId) (ad : Nat → Nat) (T : x_T) (nx : Nat) (v : Option Value) (w' : x_W) (A : Nat → Prop) : Array Value → State → Outcome → State → Prop :=
  fun _ st o t => o = .returned v ∧ va_F A st t ∧ x_H D x_cl x_FT aC ad T nx (fun _ => True) w' t.heap
/-- a method that only reads -/
def x_Qp (v : Option Value) : Array Value → State → Outcome → State → Prop := fun _ st o t => o = .returned v ∧ t.heap = st.heap
def x_At (p : Program) (s : State) (m : MethodId) (meth : Method) (c : Code) (args : Array Value) (own : String) (cc : ByteArray) (ret : Option FieldType) (maxL : Nat) (D : va_G) (aC : Nat → ClassId) (A : Nat → Prop) : Prop :=
  p.tables.exec = Jvm.exec ∧ c.code = cc ∧ meth.sig.returnType = ret ∧ c.maxLocals = maxL ∧ s.vm.findClass own = some m.cls ∧ (∀ w ∈ x_tb, w.before args s = true) ∧ meth.locks = false ∧ va_K D x_cl (x_tys aC) s ∧ (∀ q, s.heap.size ≤ q → A q) ∧ x_Fx s
section XC
variable {p : Program} {l : Launch} {e : Env} {R : Room} {s : State} {m : MethodId} {args : Array Value} {below : List Frame} {meth : Method} {c : Code} {H : Heap} {locs : List Loc} {cells slots : Nat} {Q : State → Prop}
variable {D : va_G} {aC : Nat → ClassId} {ad : Nat → Nat} {T : x_T} {nx sz : Nat} {w w' : x_W} {A : Nat → Prop}
theorem x_blind {av : List Value} : FrameBlind (x_Pc D aC ad T nx sz w av) := fun a U g mk q => by
  obtain ⟨h1, h2, h3, h4, h5⟩ := q
  exact ⟨h1, h2, h3, va_K.moved (u := U) (U := U.calling g mk a) (Vm.Alike.refl U.vm) h4, x_Fx.same rfl h5⟩
theorem x_met {y : MethodName} {own : String} {cc : ByteArray} {maxL : Nat} {ret : Option FieldType} {rm : Room} {av : List Value} {v : Option Value} (lv : List (Nat × Value)) (hy : plainFor y = true) (ho : y.cls = own) (hlv : lv_args 0 av = lv) (hle : (lg_sl av).length ≤ maxL)
    (walk : ∀ (p : Program) (e : Env) (s : State) (m : MethodId) (args : Array Value) (below : List Frame) (meth : Method) (c : Code) (ls : Array Slot), x_At p s m meth c args own cc ret maxL D aC (x_dom ad nx sz) → x_H D x_cl x_FT aC ad T nx (x_dom ad nx sz) w s.heap → va_S (x_dom ad nx sz) s.heap s.heap [] → lv_has ls maxL lv →
      W p l e rm s m args below meth c s.heap [] 0 0 (MQ below (x_Qc D aC ad T nx v w' (x_dom ad nx sz)) args s 0 0 (x_dom ad nx sz)) (F0 m 0 ls [])) :
    Met l y (.code y cc maxL ret :: x_tb) rm (x_Pc D aC ad T nx sz w av) (x_Qc D aC ad T nx v w' (x_dom ad nx sz)) 0 0 (x_dom ad nx sz) := by
  refine va_MetF (cc := cc) (maxL := maxL) (ret := ret) hy rfl ?_
  intro p e s m args below meth c s₁ B hml hv
  obtain ⟨rfl, hsz, hH, hK, hX⟩ := hv
  have hts : ∀ w ∈ x_tb, w.before av.toArray s = true := fun w h => atoms_spec (ws := .code y cc maxL ret :: x_tb) B.pre w (List.mem_cons_of_mem _ h)
  have hown : s.vm.findClass own = some m.cls := ho ▸ findClass_of_methodNamed B.named
  have hl := lv_entry av (n := maxL) hle
  rw [hlv] at hl
  rw [lg_entry_eq]
  generalize (lg_sl av ++ List.replicate (maxL - (lg_sl av).length) Slot.unset).toArray = ls at hl ⊢
  exact walk p e s m av.toArray below meth c ls ⟨B.exec, B.bytes, B.returns, hml, hown, hts, B.notSynchronized, hK, fun q h => Or.inr (hsz ▸ h), hX⟩ hH.self va_S.rf hl
theorem x_metP {y : MethodName} {own : String} {cc : ByteArray} {maxL : Nat} {ret : Option FieldType} {rm : Room} {av : List Value} {v : Option Value} (lv : List (Nat × Value)) (hy : plainFor y = true) (ho : y.cls = own) (hlv : lv_args 0 av = lv) (hle : (lg_sl av).length ≤ maxL)
    (walk : ∀ (p : Program) (e : Env) (s : State) (m : MethodId) (args : Array Value) (below : List Frame) (meth : Method) (c : Code) (ls : Array Slot), x_At p s m meth c args own cc ret maxL D aC (x_dom ad nx sz) → x_H D x_cl x_FT aC ad T nx (x_dom ad nx sz) w s.heap → lv_has ls maxL lv →
      W p l e rm s m args below meth c s.heap [] 0 0 (MQ below (x_Qp v) args s 0 0 (fun _ => False)) (F0 m 0 ls [])) :
    Met l y (.code y cc maxL ret :: x_tb) rm (x_Pc D aC ad T nx sz w av) (x_Qp v) 0 0 (fun _ => False) := by
  refine va_MetF (cc := cc) (maxL := maxL) (ret := ret) hy rfl ?_
  intro p e s m args below meth c s₁ B hml hv
  obtain ⟨rfl, hsz, hH, hK, hX⟩ := hv
  have hts : ∀ w ∈ x_tb, w.before av.toArray s = true := fun w h => atoms_spec (ws := .code y cc maxL ret :: x_tb) B.pre w (List.mem_cons_of_mem _ h)
  have hown : s.vm.findClass own = some m.cls := ho ▸ findClass_of_methodNamed B.named
  have hl := lv_entry av (n := maxL) hle
  rw [hlv] at hl
  rw [lg_entry_eq]
  generalize (lg_sl av ++ List.replicate (maxL - (lg_sl av).length) Slot.unset).toArray = ls at hl ⊢
  exact walk p e s m av.toArray below meth c ls ⟨B.exec, B.bytes, B.returns, hml, hown, hts, B.notSynchronized, hK, fun q h => Or.inr (hsz ▸ h), hX⟩ hH.self hl
theorem x_callP {a : Array Value} {v : Option Value} {pc : Nat} {ls : Array Slot} {st0 rest st1 : List Value} (hr : va_Run p l e R s m args below meth c H locs cells slots 0 0 (F0 m pc ls st0) rest (x_Qp v a) (fun _ => False)) (hst : v.toList ++ rest = st1)
    (kk : W p l e R s m args below meth c H locs cells slots Q (F0 m (pc + 3) ls st1)) : W p l e R s m args below meth c H locs cells slots Q (F0 m pc ls st0) := by
  subst hst
  intro T' hT X
  obtain ⟨v1, st₀, t, T1, L, h0, X', hL, e1, e2, ⟨hv, hh⟩, st⟩ := hr T' hT X
  cases hv
  have hL0 : L = [] := by
    cases L with
    | nil => rfl
    | cons q r => exact (hL q List.mem_cons_self).elim
  subst hL0
  rw [List.append_nil] at X'
  obtain ⟨t2, a1, b1⟩ := kk T1 (by rw [e1, hh, h0]) X'
  exact ⟨t2, st t2 a1, b1⟩
theorem x_call {a : Array Value} {v : Option Value} {pc : Nat} {ls : Array Slot} {st0 rest st1 : List Value} (hr : va_Run p l e R s m args below meth c H locs cells slots 0 0 (F0 m pc ls st0) rest (x_Qc D aC ad T nx v w' (x_dom ad nx H.size) a) (x_dom ad nx H.size)) (hst : v.toList ++ rest = st1)
    (hH : x_H D x_cl x_FT aC ad T nx A w H) (hA : ∀ q, s.heap.size ≤ q → A q) (hS : va_S A s.heap H locs)
    (kk : ∀ (H1 : Heap) (locs1 : List Loc), x_H D x_cl x_FT aC ad T nx A w' H1 → va_S A s.heap H1 locs1 → W p l e R s m args below meth c H1 locs1 cells slots Q (F0 m (pc + 3) ls st1)) : W p l e R s m args below meth c H locs cells slots Q (F0 m pc ls st0) := by
  subst hst
  intro T' hT X
  obtain ⟨v1, st₀, t, T1, L, h0, X', hL, e1, e2, ⟨hv, ⟨hz, hk⟩, hsz, hH1⟩, st⟩ := hr T' hT X
  cases hv
  rw [h0] at hz hk hsz
  have hdom : ∀ q, x_dom ad nx H.size q → A q := fun q h => by
    rcases h with ⟨i, hi, rfl⟩ | h
    · exact hH.dom hi
    · exact hA q (Nat.le_trans hS.1 h)
  obtain ⟨t2, a1, b1⟩ := kk T1.heap (locs ++ L) (by rw [e1]; exact hH1.weaken (fun i hi _ => hH.dom hi))
    ⟨Nat.le_trans hS.1 (by rw [e1]; exact hz), fun q h1 h2 => by rw [e1, hk q (Nat.lt_of_lt_of_le h1 hS.1) (fun z => h2 (hdom q z))]; exact hS.2.1 q h1 h2, fun q hq => by
      rcases List.mem_append.mp hq with h | h
      · exact hS.2.2 q h
      · exact hdom _ (hL q h)⟩ T1 rfl X'
  exact ⟨t2, st t2 a1, b1⟩
theorem x_callZ {a : Array Value} {v : Option Value} {pc : Nat} {ls : Array Slot} {st0 rest st1 : List Value} (hr : va_Run p l e R s m args below meth c H locs cells slots 0 0 (F0 m pc ls st0) rest (x_Qc D aC ad T nx v w' (x_dom ad nx H.size) a) (x_dom ad nx H.size)) (hst : v.toList ++ rest = st1)
    (hH : x_H D x_cl x_FT aC ad T nx A w H) (hA : ∀ q, s.heap.size ≤ q → A q) (hS : va_S A s.heap H locs)
    (kk : ∀ (H1 : Heap) (locs1 : List Loc), H1.size = H.size → x_H D x_cl x_FT aC ad T nx A w' H1 → va_S A s.heap H1 locs1 → W p l e R s m args below meth c H1 locs1 cells slots Q (F0 m (pc + 3) ls st1)) : W p l e R s m args below meth c H locs cells slots Q (F0 m pc ls st0) := by
  subst hst
  intro T' hT X
  obtain ⟨v1, st₀, t, T1, L, h0, X', hL, e1, e2, ⟨hv, ⟨hz, hk⟩, hsz, hH1⟩, st⟩ := hr T' hT X
  cases hv
  rw [h0] at hz hk hsz
  have hdom : ∀ q, x_dom ad nx H.size q → A q := fun q h => by
    rcases h with ⟨i, hi, rfl⟩ | h
    · exact hH.dom hi
    · exact hA q (Nat.le_trans hS.1 h)
  obtain ⟨t2, a1, b1⟩ := kk T1.heap (locs ++ L) (by rw [e1]; exact hsz) (by rw [e1]; exact hH1.weaken (fun i hi _ => hH.dom hi))
    ⟨Nat.le_trans hS.1 (by rw [e1]; exact hz), fun q h1 h2 => by rw [e1, hk q (Nat.lt_of_lt_of_le h1 hS.1) (fun z => h2 (hdom q z))]; exact hS.2.1 q h1 h2, fun q hq => by
      rcases List.mem_append.mp hq with h | h
      · exact hS.2.2 q h
      · exact hdom _ (hL q h)⟩ T1 rfl X'
  exact ⟨t2, st t2 a1, b1⟩
theorem x_sz0 {g : JFrame} (hS : va_S A s.heap H locs) (k : H.size = s.heap.size → W p l e R s m args below meth c H locs 0 slots Q g) : W p l e R s m args below meth c H locs 0 slots Q g := fun T hT X => by
  have h1 : T.heap.size ≤ s.heap.size + 0 := X.heapSize
  rw [hT] at h1
  exact k (Nat.le_antisymm h1 hS.1) T hT X
variable {y : MethodName} {bytes cc : ByteArray} {maxL nL n index : Nat} {ret : Option FieldType} {ws : List Cond} {rm : Room} {Qc : Array Value → State → Outcome → State → Prop} {free : Addr → Prop} {Ts : List Cond} {own C : String} {As rest : List Value} {pc : Nat} {ls : Array Slot} {st0 : List Value} {h ci n0 : Nat} {q : vw_C}
theorem x_runV (S : CallFix p m c cc nL s args Ts own) (hM : Met l y ws rm (x_Pc D aC ad T nx H.size w (.ref (ad h) :: As)) Qc 0 0 free) (cw : CallW R s args own C index y bytes maxL ret ws rm 0 0 n) (hH : x_H D x_cl x_FT aC ad T nx A w H) (hK : va_K D x_cl (x_tys aC) s) (hX : x_Fx s) (hT : T h = some (ci, n0)) (hci : ci < 100) (hc : x_cl[ci]? = some q) (hq : q.1 = C)
    (hn : As.length = n) (hsize : ls.size = nL) (hstack : st0 = As.reverse ++ .ref (ad h) :: rest) (hW : 2 * (F0 m pc ls st0).monitorRoom + (rest.map fun v => v.category).sum ≤ 8) (hdg : decode cc pc = .ok (.invokevirtual index, 3)) (hf : cells ≤ R.cells ∧ slots ≤ R.slots) :
    va_Run p l e R s m args below meth c H locs cells slots 0 0 (F0 m pc ls st0) rest (Qc (Value.ref (ad h) :: As).toArray) free :=
  va_runV S hM cw ⟨x_blind, hq ▸ va_recv hK hH.1 hc (q0 := h) (by rw [hH.at hT, x_cell_o hT hci]), fun U hU hW => ⟨rfl, by rw [hU], by rw [hU]; exact hH.weaken (fun _ _ _ => trivial), va_K.moved hW.alike hK, hX.warm hW⟩⟩ rfl hn hsize hstack hW hdg hf
theorem x_runS (S : CallFix p m c cc nL s args Ts own) (hM : Met l y ws rm (x_Pc D aC ad T nx H.size w As) Qc 0 0 free) (cw : CallB R s args own index y bytes maxL ret ws rm 0 0 n ∧ (Cond.static y).before args s = true) (hH : x_H D x_cl x_FT aC ad T nx A w H) (hK : va_K D x_cl (x_tys aC) s) (hX : x_Fx s)
    (hn : As.length = n) (hsize : ls.size = nL) (hstack : st0 = As.reverse ++ rest) (hW : 2 * (F0 m pc ls st0).monitorRoom + (rest.map fun v => v.category).sum ≤ 8) (hdg : decode cc pc = .ok (.invokestatic index, 3)) (hf : cells ≤ R.cells ∧ slots ≤ R.slots) :
    va_Run p l e R s m args below meth c H locs cells slots 0 0 (F0 m pc ls st0) rest (Qc As.toArray) free :=
  va_runS S hM cw ⟨x_blind, fun U hU hW => ⟨rfl, by rw [hU], by rw [hU]; exact hH.weaken (fun _ _ _ => trivial), va_K.moved hW.alike hK, hX.warm hW⟩⟩ rfl hn hsize hstack hW hdg hf
theorem x_runU {x : MethodName} {owner : String} (S : CallFix p m c cc nL s args Ts own) (hM : Met l y ws rm (x_Pc D aC ad T nx H.size w (.ref (ad h) :: As)) Qc 0 0 free) (cw : va_CU R s args own C owner index x y bytes maxL ret ws rm 0 0 n) (hH : x_H D x_cl x_FT aC ad T nx A w H) (hK : va_K D x_cl (x_tys aC) s) (hX : x_Fx s) (hT : T h = some (ci, n0)) (hci : ci < 100) (hc : x_cl[ci]? = some q) (hq : q.1 = C)
    (hn : As.length = n) (hsize : ls.size = nL) (hstack : st0 = As.reverse ++ .ref (ad h) :: rest) (hW : 2 * (F0 m pc ls st0).monitorRoom + (rest.map fun v => v.category).sum ≤ 8) (hdg : decode cc pc = .ok (.invokevirtual index, 3)) (hf : cells ≤ R.cells ∧ slots ≤ R.slots) :
    va_Run p l e R s m args below meth c H locs cells slots 0 0 (F0 m pc ls st0) rest (Qc (Value.ref (ad h) :: As).toArray) free :=
  va_runU S hM cw ⟨x_blind, hq ▸ va_recv hK hH.1 hc (q0 := h) (by rw [hH.at hT, x_cell_o hT hci]), fun U hU hW => ⟨rfl, by rw [hU], by rw [hU]; exact hH.weaken (fun _ _ _ => trivial), va_K.moved hW.alike hK, hX.warm hW⟩⟩ rfl hn hsize hstack hW hdg hf
end XC
theorem x_cl_e {T : x_T} {h c : Nat} (e : (T h).map Prod.fst = some c) : ∃ n, T h = some (c, n) := by
  cases hq : T h with
  | none => rw [hq] at e; cases e
  | some q =>
    obtain ⟨a, n⟩ := q
    rw [hq] at e
    cases e
    exact ⟨n, rfl⟩
theorem x_gU {own C owner : String} {idx : Nat} {x y : MethodName} {b : ByteArray} {n : Nat} {ret : Option FieldType} (h1 : Cond.methodLink own idx x ∈ x_tb) (h2 : Cond.sameMethod x.cls owner x.name x.desc ∈ x_tb) (h3 : Cond.selects C x y ∈ x_tb) (h4 : Cond.instanceMethod y ∈ x_tb) (h6 : Cond.initialized y.cls ∈ x_tb) (h5 : Cond.code y b n ret ∈ x_tb) : GoodIn x_tb (va_wsU own idx C owner x y (.code y b n ret :: x_tb)) := by
  intro w hw
  have hm : w ∈ x_tb := by
    rcases List.mem_append.mp hw with h | h
    · simp only [List.mem_cons, List.not_mem_nil, or_false] at h
      rcases h with rfl | rfl | rfl | rfl | rfl
      · exact h1
      · exact h2
      · exact h3
      · exact h4
      · exact h6
    · rcases List.mem_cons.mp h with rfl | h
      · exact h5
      · exact h
  exact ⟨hm, x_goodTb hm⟩
theorem x_gV {own C : String} {idx : Nat} {y : MethodName} {b : ByteArray} {n : Nat} {ret : Option FieldType} (h1 : Cond.methodLink own idx y ∈ x_tb) (h2 : Cond.instanceMethod y ∈ x_tb) (h3 : Cond.selects C y y ∈ x_tb) (h4 : Cond.initialized C ∈ x_tb) (h5 : Cond.code y b n ret ∈ x_tb) : GoodIn x_tb (wsV own idx C y (.code y b n ret :: x_tb)) := by
  intro w hw
  have hm : w ∈ x_tb := by
    rcases List.mem_append.mp hw with h | h
    · simp only [List.mem_cons, List.not_mem_nil, or_false] at h
      rcases h with rfl | rfl | rfl | rfl
      · exact h1
      · exact h2
      · exact h3
      · exact h4
    · rcases List.mem_cons.mp h with rfl | h
      · exact h5
      · exact h
  exact ⟨hm, x_goodTb hm⟩
theorem x_gS {own : String} {idx : Nat} {y : MethodName} {b : ByteArray} {n : Nat} {ret : Option FieldType} (h1 : Cond.methodLink own idx y ∈ x_tb) (h2 : Cond.static y ∈ x_tb) (h4 : Cond.initialized y.cls ∈ x_tb) (h5 : Cond.code y b n ret ∈ x_tb) : GoodIn x_tb (va_wsS own idx y (.code y b n ret :: x_tb)) := by
  intro w hw
  have hm : w ∈ x_tb := by
    rcases List.mem_append.mp hw with h | h
    · simp only [List.mem_cons, List.not_mem_nil, or_false] at h
      rcases h with rfl | rfl | rfl
      · exact h1
      · exact h2
      · exact h4
    · rcases List.mem_cons.mp h with rfl | h
      · exact h5
      · exact h
  exact ⟨hm, x_goodTb hm⟩
section XN
variable {p : Program} {l : Launch} {e : Env} {R : Room} {s : State} {m : MethodId} {args : Array Value} {below : List Frame} {meth : Method} {c : Code} {H : Heap} {locs : List Loc} {cells slots : Nat} {Q : State → Prop} {pc : Nat} {ls : Array Slot} {rest : List Value}
theorem x_nmi {x v : Int32} (e1 : some x = some v) (k : W p l e R s m args below meth c H locs cells slots Q (F0 m pc ls (.int v :: rest))) : W p l e R s m args below meth c H locs cells slots Q (F0 m pc ls (.int x :: rest)) := by cases e1; exact k
theorem x_nml {x v : Int64} (e1 : some x = some v) (k : W p l e R s m args below meth c H locs cells slots Q (F0 m pc ls (.long v :: rest))) : W p l e R s m args below meth c H locs cells slots Q (F0 m pc ls (.long x :: rest)) := by cases e1; exact k
theorem x_nw {D : va_G} {cl : List vw_C} {FT : Nat → List (Nat × Nat)} {aC : Nat → ClassId} {ad : Nat → Nat} {T : x_T} {nx : Nat} {A : Nat → Prop} {w w' : x_W} (e1 : some w = some w') (h : x_H D cl FT aC ad T nx A w H) : x_H D cl FT aC ad T nx A w' H := by cases e1; exact h
end XN
/-- the handle is there -/
def x_ex (T : x_T) (h : Nat) : Option Unit := if (T h).isSome = true then some () else none
theorem x_ex_lt {D : va_G} {cl : List vw_C} {FT : Nat → List (Nat × Nat)} {aC : Nat → ClassId} {ad : Nat → Nat} {T : x_T} {nx : Nat} {A : Nat → Prop} {w : x_W} {H : Heap} {a : Nat} {u : Unit} (e : x_ex T a = some u) (hH : x_H D cl FT aC ad T nx A w H) : ∀ b, some a = some b → b < nx := by
  intro b hb
  cases hb
  unfold x_ex at e
  cases hq : T a with
  | none => rw [hq] at e; simp at e
  | some q => exact hH.2.2.1 a q hq
/-- the handle is an Air or a Cell -/
def x_pl (T : x_T) (h : Nat) : Option Unit := if (T h).map Prod.fst = some 1 ∨ (T h).map Prod.fst = some 2 then some () else none
def x_isP (T : x_T) (h : Nat) : Prop := (∃ n, T h = some (1, n)) ∨ ∃ n, T h = some (2, n)
theorem x_isP_Air {T : x_T} {h n : Nat} (e : T h = some (1, n)) : x_isP T h := Or.inl ⟨n, e⟩
theorem x_isP_Cell {T : x_T} {h n : Nat} (e : T h = some (2, n)) : x_isP T h := Or.inr ⟨n, e⟩
theorem x_pl_e {T : x_T} {h : Nat} {u : Unit} (e : x_pl T h = some u) : x_isP T h := by
  unfold x_pl at e
  cases hq : T h with
  | none => rw [hq] at e; simp at e
  | some q =>
    obtain ⟨a, n⟩ := q
    rw [hq] at e
    by_cases h1 : a = 1
    · subst h1; exact Or.inl ⟨n, hq⟩
    · by_cases h2 : a = 2
      · subst h2; exact Or.inr ⟨n, hq⟩
      · simp [h1, h2] at e
section XP
variable {p : Program} {l : Launch} {e : Env} {R : Room} {s : State} {m : MethodId} {args : Array Value} {below : List Frame} {meth : Method} {c : Code} {H : Heap} {locs : List Loc} {cells slots : Nat} {Q : State → Prop} {pc : Nat} {ls : Array Slot} {rest : List Value} {cc : ByteArray}
variable {D : va_G} {aC : Nat → ClassId} {ad : Nat → Nat} {T : x_T} {nx : Nat} {w : x_W} {A : Nat → Prop} {H0 : Heap} {own : String} {index h : Nat}
theorem x_getP (hexec : p.tables.exec = Jvm.exec) (hb : c.code = cc) (hts : ∀ w ∈ x_tb, w.before args s = true) (hown : s.vm.findClass own = some m.cls) (hK : va_K D x_cl (x_tys aC) s) (hH : x_H D x_cl x_FT aC ad T nx A w H) (hT : x_isP T h) (k : Nat) (hk : k < 7) (hF : F_Air k = F_Cell k) (hlink : (Cond.fieldLink own index (F_Cell k).1 (F_Cell k).2.1 (F_Cell k).2.2.1).before args s = true) {kd : Nat × Nat} (h1 : (x_FT 1)[k]? = some kd) (h2 : (x_FT 2)[k]? = some kd) {v : Value} (hv : x_fld ad w h kd = v) (hdg : decode cc pc = .ok (.getfield index, 3))
    (kk : W p l e R s m args below meth c H locs cells slots Q (F0 m (pc + 3) ls (v :: rest))) : W p l e R s m args below meth c H locs cells slots Q (F0 m pc ls (.ref (ad h) :: rest)) := by
  rcases hT with ⟨n, hT⟩ | ⟨n, hT⟩
  · exact x_get (C := "WallDamp$Air") (F := F_Air) (N := 9) (ref := (F_Cell k).1) hexec hb hts i_Air hown hK hH hT (by decide) rfl k (by omega) (by rw [hF]; exact hlink) (by rw [hF]; exact fun _ h9 => h9) h1 hv hdg kk
  · exact x_get (C := "WallDamp$Cell") (F := F_Cell) (N := 15) (ref := (F_Cell k).1) hexec hb hts i_Cell hown hK hH hT (by decide) rfl k (by omega) hlink (fun _ h9 => h9) h2 hv hdg kk
theorem x_putPI (hexec : p.tables.exec = Jvm.exec) (hb : c.code = cc) (hts : ∀ w ∈ x_tb, w.before args s = true) (hown : s.vm.findClass own = some m.cls) (hK : va_K D x_cl (x_tys aC) s) (hH : x_H D x_cl x_FT aC ad T nx A w H) (hS : va_S A H0 H locs) (hT : x_isP T h) (k : Nat) (hk : k < 7) (hF : F_Air k = F_Cell k) (hlink : (Cond.fieldLink own index (F_Cell k).1 (F_Cell k).2.1 (F_Cell k).2.2.1).before args s = true) {j : Nat} {v : Int32} (h1 : (x_FT 1)[k]? = some (0, j)) (h2 : (x_FT 2)[k]? = some (0, j)) (hfin : (F_Cell k).2.2.2 = false) (hty : t_Cell k = .int) (hdg : decode cc pc = .ok (.putfield index, 3))
    (kk : ∀ (H1 : Heap) (locs1 : List Loc), x_H D x_cl x_FT aC ad T nx A (x_sI w j h v) H1 → va_S A H0 H1 locs1 → W p l e R s m args below meth c H1 locs1 cells slots Q (F0 m (pc + 3) ls rest)) : W p l e R s m args below meth c H locs cells slots Q (F0 m pc ls (.int v :: .ref (ad h) :: rest)) := by
  have hd : parseFieldDescriptor (F_Cell k).2.2.1 = some .int := by rw [← hty]; exact ty_Cell k (by omega)
  rcases hT with ⟨n, hT⟩ | ⟨n, hT⟩
  · exact x_put (C := "WallDamp$Air") (F := F_Air) (N := 9) (ref := (F_Cell k).1) (ty := .int) (v := .int v) (w' := x_sI w j h v) hexec hb hts i_Air t_Air ty_Air n_Air hown hK hH hS hT (by decide) rfl rfl k (by omega) (by rw [hF]; exact hlink) (by rw [hF]; exact fun _ h9 => h9) (by rw [hF]; exact hfin) (by rw [hF]; exact hd) rfl rfl (x_on_I hT (by decide) h1 nd_Air) (fun j hj => x_off_I hj) (fun hh ok => x_ok_I hh ok) hdg kk
  · exact x_put (C := "WallDamp$Cell") (F := F_Cell) (N := 15) (ref := (F_Cell k).1) (ty := .int) (v := .int v) (w' := x_sI w j h v) hexec hb hts i_Cell t_Cell ty_Cell n_Cell hown hK hH hS hT (by decide) rfl rfl k (by omega) hlink (fun _ h9 => h9) hfin hd rfl rfl (x_on_I hT (by decide) h2 nd_Cell) (fun j hj => x_off_I hj) (fun hh ok => x_ok_I hh ok) hdg kk
theorem x_tin {x k : Int32} (e1 : x = k) (hexec : p.tables.exec = Jvm.exec) (hb : c.code = cc) {dflt lo hi : Int} {offs : Array Int} {len : Nat} {off : Int} {tgt : Nat} (hdg : decode cc pc = .ok (.tableswitch dflt lo hi offs, len)) (h1 : ¬ k.toInt < lo) (h2 : ¬ hi < k.toInt) (ho : offs[(k.toInt - lo).toNat]? = some off) (ht : (pc : Int) + off = (tgt : Int))
    (kk : W p l e R s m args below meth c H locs cells slots Q (F0 m tgt ls rest)) : W p l e R s m args below meth c H locs cells slots Q (F0 m pc ls (.int x :: rest)) := by
  subst e1
  exact lv_tableIn hexec hb hdg h1 h2 ho ht kk
end XP
