/-! WHAT THE WALK OF A METHOD THAT MAY THROW STANDS ON -/
def x_mc {α : Type} (o : Except Nat α) : Nat := match o with
  | .ok _ => 0
  | .error _ => 1
def x_ms {α : Type} (o : Except Nat α) : Nat := match o with
  | .ok _ => 0
  | .error _ => 6
def x_ec {α β : Type} (o : Except Nat α) (k : α → Option (Except Nat β)) : Option (Except Nat β) := match o with
  | .ok a => k a
  | .error n => some (.error n)
theorem x_eo {α β : Type} {a : α} {k : α → Option (Except Nat β)} {r : Option (Except Nat β)} (h : x_ec (.ok a) k = r) : k a = r := h
theorem x_ee {α β : Type} {n : Nat} {k : α → Option (Except Nat β)} {q : Except Nat β} (h : x_ec (.error n) k = some q) : Except.error n = q := Option.some.inj h
/-- out: the answer, read by rv and wv; or the number of the exception -/
def x_Qx {α : Type} (D : va_G) (aC : Nat → ClassId) (ad : Nat → Nat) (T : x_T) (nx : Nat) (rv : α → Option Value) (wv : α → x_W) (A : Nat → Prop) (out : Except Nat α) : Array Value → State → Outcome → State → Prop := match out with
  | .ok r => x_Qc D aC ad T nx (rv r) (wv r) A
  | .error k => fun _ st o t => ∃ x, o = .threw x ∧ x_exc k x st t
def x_Qxp {α : Type} (rv : α → Option Value) (out : Except Nat α) : Array Value → State → Outcome → State → Prop := match out with
  | .ok r => x_Qp (rv r)
  | .error k => fun _ st o t => ∃ x, o = .threw x ∧ x_exc k x st t
def x_Pt (D : va_G) (aC : Nat → ClassId) (ad : Nat → Nat) (T : x_T) (nx sz : Nat) (w : x_W) (av : List Value) : Array Value → State → Prop :=
  va_Pc av (fun U => (U.heap.size = sz ∧ x_H D x_cl x_FT aC ad T nx (fun _ => True) w U.heap ∧ va_K D x_cl (x_tys aC) U ∧ x_Fx U) ∧ x_Tf U)
def x_At2 (p : Program) (l : Launch) (s : State) (m : MethodId) (meth : Method) (c : Code) (args : Array Value) (own : String) (cc : ByteArray) (ret : Option FieldType) (maxL : Nat) (D : va_G) (aC : Nat → ClassId) (A : Nat → Prop) : Prop :=
  x_At p s m meth c args own cc ret maxL D aC A ∧ x_Tf s ∧ c.exceptionTable.isEmpty = true ∧ l.flags = pinnedFlags ++ [noTraceFlag]
section XC2
variable {p : Program} {l : Launch} {e : Env} {R : Room} {s : State} {m : MethodId} {args : Array Value} {below : List Frame} {meth : Method} {c : Code}
variable {D : va_G} {aC : Nat → ClassId} {ad : Nat → Nat} {T : x_T} {nx sz : Nat} {w : x_W} {A : Nat → Prop}
theorem x_blindT {av : List Value} : FrameBlind (x_Pt D aC ad T nx sz w av) := fun a U g mk q => by
  obtain ⟨h1, ⟨h2, h3, h4, h5⟩, h6⟩ := q
  exact ⟨h1, ⟨h2, h3, va_K.moved (u := U) (U := U.calling g mk a) (Vm.Alike.refl U.vm) h4, x_Fx.same rfl h5⟩, x_Tf.same (s := U) (U := U.calling g mk a) rfl rfl h6⟩
theorem x_preSt {As : List Value} (hH : x_H D x_cl x_FT aC ad T nx A w s.heap) (hK : va_K D x_cl (x_tys aC) s) (hX : x_Fx s) (hTf : x_Tf s) : PreS s s.heap (x_Pt D aC ad T nx s.heap.size w As) As :=
  ⟨x_blindT, fun U hU hW => ⟨rfl, ⟨by rw [hU], by rw [hU]; exact hH.weaken (fun _ _ _ => trivial), va_K.moved hW.alike hK, hX.warm hW⟩, hTf.warm hW hU⟩⟩
theorem x_preVt {As : List Value} {h ci n0 : Nat} {q : vw_C} {C : String} (hH : x_H D x_cl x_FT aC ad T nx A w s.heap) (hK : va_K D x_cl (x_tys aC) s) (hX : x_Fx s) (hTf : x_Tf s) (hT : T h = some (ci, n0)) (hci : ci < 100) (hc : x_cl[ci]? = some q) (hq : q.1 = C) : PreV s s.heap C (ad h) (x_Pt D aC ad T nx s.heap.size w (.ref (ad h) :: As)) As :=
  ⟨x_blindT, hq ▸ va_recv hK hH.1 hc (q0 := h) (by rw [hH.at hT, x_cell_o hT hci]), fun U hU hW => ⟨rfl, ⟨by rw [hU], by rw [hU]; exact hH.weaken (fun _ _ _ => trivial), va_K.moved hW.alike hK, hX.warm hW⟩, hTf.warm hW hU⟩⟩
theorem x_metT {y : MethodName} {own : String} {cc : ByteArray} {maxL mc ms : Nat} {ret : Option FieldType} {rm : Room} {av : List Value} {Qc : Array Value → State → Outcome → State → Prop} {free : Addr → Prop} (hfl : l.flags = pinnedFlags ++ [noTraceFlag]) (lv : List (Nat × Value)) (hy : plainName y.cls = true) (ho : y.cls = own) (hlv : lv_args 0 av = lv) (hle : (lg_sl av).length ≤ maxL) (hcd : Cond.code y cc maxL ret ∈ x_tb)
    (walk : ∀ (p : Program) (e : Env) (s : State) (m : MethodId) (args : Array Value) (below : List Frame) (meth : Method) (c : Code) (ls : Array Slot), x_At2 p l s m meth c args own cc ret maxL D aC (x_dom ad nx sz) → x_H D x_cl x_FT aC ad T nx (x_dom ad nx sz) w s.heap → lv_has ls maxL lv →
      W p l e rm s m args below meth c s.heap [] 0 0 (x_MQ below Qc args s mc ms free) (F0 m 0 ls [])) :
    x_Met l y (.code y cc maxL ret :: x_tb) rm (x_Pt D aC ad T nx sz w av) Qc mc ms free := by
  refine x_Met.ofW (cc := cc) (maxL := maxL) (ret := ret) hy rfl ?_
  intro p e s m args below meth c s₁ B hml hv
  obtain ⟨rfl, ⟨hsz, hH, hK, hX⟩, hTf⟩ := hv
  have hts : ∀ w ∈ x_tb, w.before av.toArray s = true := fun w h => atoms_spec (ws := .code y cc maxL ret :: x_tb) B.pre w (List.mem_cons_of_mem _ h)
  have hown : s.vm.findClass own = some m.cls := ho ▸ findClass_of_methodNamed B.named
  have hl := lv_entry av (n := maxL) hle
  rw [hlv] at hl
  rw [lg_entry_eq]
  generalize (lg_sl av ++ List.replicate (maxL - (lg_sl av).length) Slot.unset).toArray = ls at hl ⊢
  exact walk p e s m av.toArray below meth c ls ⟨⟨B.exec, B.bytes, B.returns, hml, hown, hts, B.notSynchronized, hK, fun q h => Or.inr (hsz ▸ h), hX⟩, hTf, B.noHandlers (hts _ hcd), hfl⟩ hH.self hl
theorem x_domA (hH : x_H D x_cl x_FT aC ad T nx A w s.heap) (hA : ∀ q, s.heap.size ≤ q → A q) : ∀ q, x_dom ad nx s.heap.size q → A q := fun q h => by
  rcases h with ⟨i, hi, rfl⟩ | h
  · exact hH.dom hi
  · exact hA q h
theorem x_excT {k : Nat} {x : Addr} {st t tf : State} (h0 : st.heap = s.heap) (hal : s.vm.Alike st.vm) (h : x_exc k x st t) (ht : tf.heap = t.heap) : x_exc k x s tf := by
  obtain ⟨h1, h2, cell, h3, h4, h5⟩ := h
  exact ⟨fun q hq => by rw [ht, ← h0]; exact h1 q (by rw [h0]; exact hq), by rw [← h0]; exact h2, cell, by rw [ht]; exact h3, h4, by rw [← hal.findClass]; exact h5⟩
end XC2
