/-! THE LAW'S OWN LITTLE METHODS: what their walks stand on -/
def x_cc {α β : Type} (o : Except Nat α) (f : α → Option β) (g : Nat → Option β) : Option β := match o with
  | .ok a => f a
  | .error k => g k
theorem x_co {α β : Type} {a : α} {f : α → Option β} {g : Nat → Option β} {r : Option β} (h : x_cc (.ok a) f g = r) : f a = r := h
theorem x_ce {α β : Type} {k : Nat} {f : α → Option β} {g : Nat → Option β} {r : Option β} (h : x_cc (.error k) f g = r) : g k = r := h
def x_Pw (D : va_G) (aC : Nat → ClassId) (ad : Nat → Nat) (T : x_T) (nx sz : Nat) (w : x_W) (av : List Value) : Array Value → State → Prop :=
  va_Pc av (fun U => ((U.heap.size = sz ∧ x_H D x_cl x_FT aC ad T nx (fun _ => True) w U.heap ∧ va_K D x_cl (x_tys aC) U ∧ x_Fx U) ∧ x_Tf U) ∧ va_Nc (x_en 2) (x_en 1) U)
section XC3
variable {p : Program} {l : Launch} {e : Env} {R : Room} {s : State} {m : MethodId} {args : Array Value} {below : List Frame} {meth : Method} {c : Code}
variable {D : va_G} {aC : Nat → ClassId} {ad : Nat → Nat} {T : x_T} {nx sz : Nat} {w w' : x_W} {A : Nat → Prop}
theorem x_blindW {av : List Value} : FrameBlind (x_Pw D aC ad T nx sz w av) := fun a U g mk q => by
  obtain ⟨h1, ⟨⟨h2, h3, h4, h5⟩, h6⟩, h7⟩ := q
  exact ⟨h1, ⟨⟨h2, h3, va_K.moved (u := U) (U := U.calling g mk a) (Vm.Alike.refl U.vm) h4, x_Fx.same rfl h5⟩, x_Tf.same (s := U) (U := U.calling g mk a) rfl rfl h6⟩, va_Nc.moved (u := U) (U := U.calling g mk a) (Vm.Alike.refl U.vm) h7⟩
theorem x_metW {y : MethodName} {own : String} {cc : ByteArray} {maxL : Nat} {ret : Option FieldType} {rm : Room} {av : List Value} {v : Option Value} {hh : List (Nat × Nat × Nat × Nat)} (lv : List (Nat × Value)) (hy : plainName y.cls = true) (ho : y.cls = own) (hlv : lv_args 0 av = lv) (hle : (lg_sl av).length ≤ maxL) (hcd : Cond.codeWith y cc maxL ret hh ∈ x_tb)
    (walk : ∀ (p : Program) (e : Env) (s : State) (m : MethodId) (args : Array Value) (below : List Frame) (meth : Method) (c : Code) (ls : Array Slot), x_At p s m meth c args own cc ret maxL D aC (x_dom ad nx sz) → x_Tf s → va_Nc (x_en 2) (x_en 1) s → c.exceptionTable.toList.map (fun h => (h.startPc, h.endPc, h.handlerPc, h.catchType)) = hh → x_H D x_cl x_FT aC ad T nx (x_dom ad nx sz) w s.heap → lv_has ls maxL lv →
      W p l e rm s m args below meth c s.heap [] 0 0 (MQ below (x_Qw D aC ad T nx v w' (x_dom ad nx sz)) args s 1 6 (x_dom ad nx sz)) (F0 m 0 ls [])) :
    Met l y (.codeWith y cc maxL ret hh :: x_tb) rm (x_Pw D aC ad T nx sz w av) (x_Qw D aC ad T nx v w' (x_dom ad nx sz)) 1 6 (x_dom ad nx sz) := by
  refine va_MetW (cc := cc) (maxL := maxL) (ret := ret) (hh := hh) hy rfl ?_
  intro p e s m args below meth c s₁ B hml hv
  obtain ⟨rfl, ⟨⟨hsz, hH, hK, hX⟩, hTf⟩, hN⟩ := hv
  have hts : ∀ w ∈ x_tb, w.before av.toArray s = true := fun w h => atoms_spec (ws := .codeWith y cc maxL ret hh :: x_tb) B.pre w (List.mem_cons_of_mem _ h)
  have hown : s.vm.findClass own = some m.cls := ho ▸ findClass_of_methodNamed B.named
  obtain ⟨m9, meth9, c9, hn9, hm9, hc9, -, -, htab, -⟩ := Cond.codeWith_spec (hts _ hcd)
  cases B.named.symm.trans hn9
  cases B.method.symm.trans hm9
  cases (Stand.of_body B).code.symm.trans hc9
  have hl := lv_entry av (n := maxL) hle
  rw [hlv] at hl
  rw [lg_entry_eq]
  generalize (lg_sl av ++ List.replicate (maxL - (lg_sl av).length) Slot.unset).toArray = ls at hl ⊢
  exact walk p e s m av.toArray below meth c ls ⟨B.exec, B.bytes, B.returns, hml, hown, hts, B.notSynchronized, hK, fun q h => Or.inr (hsz ▸ h), hX⟩ hTf hN htab hH.self hl
end XC3
