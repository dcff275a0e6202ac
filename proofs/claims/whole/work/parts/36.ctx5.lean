/-! FOR THE LAW'S BODY: facts over a heap that has grown; calls of its own little methods; two worlds -/
theorem x_stat_ls {C n d : String} {u U : State} (hv : u.vm = U.vm) (hh : ∀ (a : Nat) (cell : Cell), u.heap[a]? = some cell → U.heap[a]? = some cell) (h : (Cond.laysStatic C n d).before #[] u = true) : (Cond.laysStatic C n d).before #[] U = true := by
  have ef : ∀ C n d, u.fieldFound? C n d = U.fieldFound? C n d := fun C n d => by simp only [State.fieldFound?, State.names, hv]
  simp only [Cond.before, Cond.holds, Cond.value, ef, hv] at h ⊢
  cases h1 : U.vm.findClass C with
  | none => simp [h1] at h
  | some c =>
    cases h2 : U.fieldFound? C n d with
    | none => simp [h1, h2] at h
    | some q =>
      obtain ⟨c', k, i, f⟩ := q
      simp only [h1, h2] at h ⊢
      cases h3 : k.statics with
      | none => simp [h3] at h
      | some a =>
        simp only [h3, Option.bind_some] at h ⊢
        cases h4 : u.heap[a]? with
        | none => simp [h4] at h
        | some cell =>
          rw [hh a cell h4]
          rw [h4] at h
          exact h
theorem x_stat_ir {C n d : String} {u U : State} (hv : u.vm = U.vm) (hh : ∀ (a : Nat) (cell : Cell), u.heap[a]? = some cell → U.heap[a]? = some cell) (h : (Cond.isRef (.static C n d)).before #[] u = true) : (Cond.isRef (.static C n d)).before #[] U = true := by
  have ev : ∀ v, (Term.static C n d).eval #[] u none [] u = some v → (Term.static C n d).eval #[] U none [] U = some v := by
    intro v hev
    cases hf : u.fieldFound? C n d with
    | none => simp [Term.eval, State.fieldNamed?, hf] at hev
    | some q =>
      obtain ⟨c', k, i, f⟩ := q
      obtain ⟨hst, a, cell, ha, hcell, hs, hslot⟩ := Term.static_spec hf hev
      have hf' : U.fieldFound? C n d = some (c', k, i, f) := by rw [← hf]; simp only [State.fieldFound?, State.names, hv]
      simp [Term.eval, State.fieldNamed?, hf, hst, ha, hcell] at hev
      simp [Term.eval, State.fieldNamed?, hf', hst, ha, hh a cell hcell, hev]
  simp only [Cond.before, Cond.holds, Cond.value] at h ⊢
  cases hv2 : (Term.static C n d).eval #[] u none [] u with
  | none => simp [hv2] at h
  | some v =>
    rw [ev v hv2]
    rw [hv2] at h
    exact h
theorem x_Tf.grow {s U : State} (hW : s.WarmedH U.vm) (hh : ∀ (a : Nat) (cell : Cell), s.heap[a]? = some cell → U.heap[a]? = some cell) (h : x_Tf s) : x_Tf U := by
  have h2 : x_Tf (s.setVm U.vm) := x_Tf.warm (U := s.setVm U.vm) hW rfl h
  refine ⟨fun w hw => ?_, fun q hq => ?_⟩
  · have h1 := h2.1 w hw
    simp only [x_tw, List.mem_cons, List.not_mem_nil, or_false] at hw
    rcases hw with rfl | rfl | rfl | rfl | rfl | rfl | rfl | rfl | rfl
    · exact va_tabs rfl (rfl : (s.setVm U.vm).vm = U.vm) h1
    · exact va_tabs rfl (rfl : (s.setVm U.vm).vm = U.vm) h1
    · exact va_tabs rfl (rfl : (s.setVm U.vm).vm = U.vm) h1
    · exact va_tabs rfl (rfl : (s.setVm U.vm).vm = U.vm) h1
    · exact va_tabs rfl (rfl : (s.setVm U.vm).vm = U.vm) h1
    · exact x_stat_ls (u := s.setVm U.vm) rfl hh h1
    · exact x_stat_ls (u := s.setVm U.vm) rfl hh h1
    · exact x_stat_ir (u := s.setVm U.vm) rfl hh h1
    · exact x_stat_ir (u := s.setVm U.vm) rfl hh h1
  · obtain ⟨a, ha⟩ := h2.2 q hq
    exact ⟨a, vk_R.same (u := s.setVm U.vm) rfl ha⟩
section XL
variable {p : Program} {l : Launch} {e : Env} {R : Room} {s : State} {m : MethodId} {args : Array Value} {below : List Frame} {meth : Method} {c : Code} {H : Heap} {locs : List Loc} {cells slots : Nat} {Q : State → Prop}
variable {D : va_G} {aC : Nat → ClassId} {ad : Nat → Nat} {T : x_T} {nx : Nat} {w w' : x_W} {A : Nat → Prop}
theorem x_runSW {y : MethodName} {bytes cc : ByteArray} {maxL nL mc ms n index : Nat} {ret : Option FieldType} {hh : List (Nat × Nat × Nat × Nat)} {rm : Room} {Pc : Array Value → State → Prop} {Qc : Array Value → State → Outcome → State → Prop} {free : Addr → Prop} {own : String} {As rest : List Value} {g : JFrame}
    (S : CallFix p m c cc nL s args x_tb own) (hM : Met l y (.codeWith y bytes maxL ret hh :: x_tb) rm Pc Qc mc ms free) (hrc : rm.cells = mc) (hrs : rm.slots = ms) (hfr : rm.frames + 1 ≤ R.frames) (hlo : 8 + (maxL + 11) + rm.locals ≤ R.locals)
    (h1 : Cond.methodLink own index y ∈ x_tb) (h2 : Cond.static y ∈ x_tb) (h3 : Cond.initialized y.cls ∈ x_tb) (h4 : Cond.codeWith y bytes maxL ret hh ∈ x_tb) (hd : y.cls ≠ "java/lang/invoke/MethodHandle" ∧ y.cls ≠ "java/lang/invoke/VarHandle" ∧ (parseMethodDescriptor y.desc).map (fun d => d.parameters.length) = some n) (hp : PreS s H Pc As)
    (hg : g.method = m) (hn : As.length = n) (hsize : g.locals.size = nL) (hstack : g.stack = As.reverse ++ rest) (hW : 2 * g.monitorRoom + (rest.map fun v => v.category).sum ≤ 8) (hdg : decode cc g.pc = .ok (.invokestatic index, 3)) (hf : cells + mc ≤ R.cells ∧ slots + ms ≤ R.slots) :
    va_Run p l e R s m args below meth c H locs cells slots mc ms g rest (Qc As.toArray) free := by
  obtain ⟨hx, hb, hml, hown, hts⟩ := S
  have hall : ∀ w ∈ (Cond.codeWith y bytes maxL ret hh :: x_tb), w ∈ x_tb := fun w hw => by
    rcases List.mem_cons.mp hw with rfl | h
    · exact h4
    · exact h
  have hK : Back l R p e below s args y 3 8 (PreOf R mc ms Pc) (PostOf Qc mc ms free) := va_backW (hh := hh) (bytes := bytes) (maxL := maxL) (ret := ret) hM hp.1 hrc hrs hfr hlo (fun w hw a' U hW => word_at hW (x_goodTb (hall w hw)) (hts w (hall w hw))) List.mem_cons_self (fun a' U hW => word_at hW (Or.inl (by first | rfl | simp [Cond.onTables, Cond.keeps, Cond.steady])) (hts _ h3))
  intro T hT X
  obtain ⟨mk, methM, cM, hnamed, hmethM, -, -, -, -, -, -, hsigM⟩ := Cond.codeWith_spec (hts _ h4)
  have hstatic : methM.isStatic = true := Cond.static_spec hnamed hmethM (hts _ h2)
  obtain ⟨kP, hkP, -⟩ := className_of_methodNamed hnamed
  have hinitP : kP.init = .initialized := Cond.initialized_spec (findClass_of_methodNamed hnamed) hkP (hts _ h3)
  have hlen : As.length = methM.sig.parameters.length := by
    have h9 := hd.2.2
    rw [hsigM] at h9
    exact hn.trans (Option.some.inj h9).symm
  obtain ⟨vm₁, X₁, hstep₁⟩ := X.invokestatic hx hown (hts _ h1) hnamed hmethM hstatic hkP hinitP ⟨hd.1, hd.2.1⟩ (g := g) hg (argsL := As) (rest := rest) hlen hstack (by rw [hb]; exact hdg)
  obtain ⟨v, ⟨U', l2, c2, s2⟩, X', ⟨g', mk', t, L, e1, e2, hq, q1, hL, q2, q3⟩, hsteps⟩ := hK m meth c ⟨T.setVm vm₁, locs, cells, slots⟩ { g with stack := rest } (.invokestatic index) mk As.toArray X₁ hg (hsize.trans hml.symm) (by rw [hb]; exact hdg) hW (X₁.named hnamed) ⟨hf.1, hf.2, hp.2 (T.setVm vm₁) hT X₁.warmed⟩
  dsimp only [Pt.U, Pt.locs, Pt.cells, Pt.slots] at X' e1 e2 q1 q2 q3 hsteps
  subst q1; subst q2; subst q3
  exact ⟨v, (T.setVm vm₁).calling g' mk' As.toArray, t, U', L, hT, X', hL, e1, e2, hq, fun target h => hstep₁ _ fun acts => by rw [doInvoke_state]; exact hsteps.trans h⟩
theorem x_wOf {y : MethodName} {ws : List Cond} {rm : Room} {Pc : Array Value → State → Prop} {mc ms : Nat} {free : Addr → Prop} {v : Option Value} (hM : Met l y ws rm Pc (x_Qc D aC ad T nx v w' A) mc ms free) : Met l y ws rm Pc (x_Qw D aC ad T nx v w' A) mc ms free := by
  intro p e ha hc hk s m args below hf happ hP hKK
  obtain ⟨n, o, h1, h2, h3, ⟨g1, g2, -, g4⟩, h5⟩ := hM p e ha hc hk s m args below hf happ hP hKK
  exact ⟨n, o, h1, h2, h3, ⟨g1, g2, g4⟩, h5⟩
/-- behind a call in one world: that world; all that lies outside it is as it was -/
theorem x_callW {a : Array Value} {v : Option Value} {pc mc ms : Nat} {ls : Array Slot} {st0 rest st1 : List Value} (hr : va_Run p l e R s m args below meth c H locs cells slots mc ms (F0 m pc ls st0) rest (x_Qw D aC ad T nx v w' (x_dom ad nx H.size) a) (x_dom ad nx H.size)) (hst : v.toList ++ rest = st1)
    (hH : x_H D x_cl x_FT aC ad T nx A w H) (hA : ∀ q, s.heap.size ≤ q → A q) (hS : va_S A s.heap H locs)
    (kk : ∀ (H1 : Heap) (locs1 : List Loc), x_H D x_cl x_FT aC ad T nx A w' H1 → va_S A s.heap H1 locs1 → H.size ≤ H1.size → (∀ q, q < H.size → ¬ x_dom ad nx H.size q → H1[q]? = H[q]?) → W p l e R s m args below meth c H1 locs1 (cells + mc) (slots + ms) Q (F0 m (pc + 3) ls st1)) : W p l e R s m args below meth c H locs cells slots Q (F0 m pc ls st0) := by
  subst hst
  intro T' hT X
  obtain ⟨v1, st₀, t, T1, L, h0, X', hL, e1, e2, ⟨hv, ⟨hz, hk⟩, hH1⟩, st⟩ := hr T' hT X
  cases hv
  rw [h0] at hz hk
  have hdom : ∀ q, x_dom ad nx H.size q → A q := fun q h => by
    rcases h with ⟨i, hi, rfl⟩ | h
    · exact hH.dom hi
    · exact hA q (Nat.le_trans hS.1 h)
  obtain ⟨t2, a1, b1⟩ := kk T1.heap (locs ++ L) (by rw [e1]; exact hH1.weaken (fun i hi _ => hH.dom hi))
    ⟨Nat.le_trans hS.1 (by rw [e1]; exact hz), fun q h1 h2 => by rw [e1, hk q (Nat.lt_of_lt_of_le h1 hS.1) (fun z => h2 (hdom q z))]; exact hS.2.1 q h1 h2, fun q hq => by
      rcases List.mem_append.mp hq with h | h
      · exact hS.2.2 q h
      · exact hdom _ (hL q h)⟩ (by rw [e1]; exact hz) (fun q h1 h2 => by rw [e1]; exact hk q h1 h2) T1 rfl X'
  exact ⟨t2, st t2 a1, b1⟩
/-- the other world over such a call -/
theorem x_H.other {ad2 : Nat → Nat} {T2 : x_T} {nx2 : Nat} {w2 : x_W} {H1 : Heap} (hH2 : x_H D x_cl x_FT aC ad2 T2 nx2 A w2 H) (hap : ∀ i j, i < nx → j < nx2 → ad i ≠ ad2 j) (hk : ∀ q, q < H.size → ¬ x_dom ad nx H.size q → H1[q]? = H[q]?) : x_H D x_cl x_FT aC ad2 T2 nx2 A w2 H1 :=
  hH2.kept (fun j hj => hk _ (hH2.lt hj) (fun h => by
    rcases h with ⟨i, hi, e⟩ | h
    · exact hap i j hi hj e.symm
    · exact absurd (hH2.lt hj) (by omega)))
end XL
