/-! A CALL WHOSE CALLEE THROWS, CAUGHT -/
section XCc
variable {p : Program} {l : Launch} {e : Env} {R : Room} {s : State} {m : MethodId} {args : Array Value} {below : List Frame} {meth : Method} {c : Code} {Q : State → Prop}
variable {Qa : State → Outcome → State → Prop} {free A : Addr → Prop} {pc k : Nat} {ls : Array Slot} {st0 rest : List Value} {own : String}
theorem x_catchA (hr : x_RunT p l e R s m args below meth c s.heap [] 0 0 1 6 (F0 m pc ls st0) rest Qa free) (hq : ∀ st x t, Qa st (.threw x) t → x_exc k x st t) (hfree : ∀ q, free q → A q) (hA : ∀ q, s.heap.size ≤ q → A q)
    {s1 e1 h1 c1 : Nat} {tl : List (Nat × Nat × Nat × Nat)} (htab : c.exceptionTable.toList.map (fun h => (h.startPc, h.endPc, h.handlerPc, h.catchType)) = (s1, e1, h1, c1) :: tl) (hcov : s1 ≤ pc ∧ pc < e1) (hc1 : c1 ≠ 0)
    (hown : s.vm.findClass own = some m.cls) (hlink : (Cond.classLink own c1 (x_en k)).before args s = true)
    (kk : ∀ (H1 : Heap) (L : List Loc) (x : Nat), (∀ q, q < s.heap.size → H1[q]? = s.heap[q]?) → va_S A s.heap H1 L → W p l e R s m args below meth c H1 L 1 6 Q (F0 m h1 ls [.ref x])) :
    W p l e R s m args below meth c s.heap [] 0 0 Q (F0 m pc ls st0) := by
  intro T hT X
  obtain ⟨x, st₀, t, T', L, h0, hal, X', hL, e1', e2', hQ, hst⟩ := hr T hT X
  obtain ⟨x1, x2, cell, x3, x4, x5⟩ := hq _ _ _ hQ
  obtain ⟨cT, vm', hcT, hg, hW', hsz, X''⟩ := x_resolve X' hown hlink
  have hcl : cell.cls = cT := Option.some.inj ((by rw [← hal.findClass]; exact x5.symm : some cell.cls = s.vm.findClass (x_en k)).trans hcT)
  have hcell : T'.heap[x]? = some cell := by rw [e1']; exact x3
  obtain ⟨en, tab, htl, hen⟩ : ∃ (en : ExceptionTableEntry) (tab : List ExceptionTableEntry), c.exceptionTable.toList = en :: tab ∧ (en.startPc, en.endPc, en.handlerPc, en.catchType) = (s1, e1, h1, c1) := by
    cases hh : c.exceptionTable.toList with
    | nil => rw [hh] at htab; cases htab
    | cons en tab => rw [hh] at htab; exact ⟨en, tab, rfl, (List.cons.inj htab).1⟩
  cases hen
  have hkc : ∃ kc, vm'.classes[cell.cls]? = some kc := by
    rw [hcl]
    obtain ⟨kc, hk⟩ := Vm.classAt_of_findClass hcT
    obtain ⟨k', hk', -⟩ := hW'.alike.2.2 _ _ hk
    exact ⟨k', hk'⟩
  have hfind : x_Finds e ((T'.setTop { F0 m pc ls st0 with stack := rest }).pushFrame (.throwing x)) { F0 m pc ls st0 with stack := rest } x (.found en.handlerPc) vm' := by
    intro Q E d acts
    rw [W.findHandler_eq (meth := meth) (code := c) (by rw [Stand.throwing_vm]; exact X'.method') X'.code, htl]
    rw [x_go_cls (c := cT) (cell := cell) (vm' := vm') (by simp [covers, hcov]) hc1 (by rw [Stand.throwing_vm]; exact hg) (by rw [Stand.throwing_heap]; exact hcell) (fun k h => by rw [x4] at h; cases h) hkc (hcl ▸ hkc) (by rw [Stand.throwing_vm]; exact hsz), if_pos (by rw [hcl]; exact va_asg _ _)]
  have hsz2 : s.heap.size ≤ T'.heap.size := X'.same.2.1
  obtain ⟨t2, a1, b1⟩ := kk (T'.setVm vm').heap L x (fun q hq => by show T'.heap[q]? = _; rw [e1', ← h0]; exact x1 q (by rw [h0]; exact hq)) ⟨hsz2, fun q hq _ => by show T'.heap[q]? = _; rw [e1', ← h0]; exact x1 q (by rw [h0]; exact hq), fun q hq => hfree _ (hL q hq)⟩ (T'.setVm vm') rfl X''
  exact ⟨t2, hst.trans (x_caught (g := { F0 m pc ls st0 with stack := rest }) X'.here hfind a1), b1⟩
theorem x_catchB (hr : x_RunT p l e R s m args below meth c s.heap [] 0 0 1 6 (F0 m pc ls st0) rest Qa free) (hq : ∀ st x t, Qa st (.threw x) t → x_exc k x st t) (hfree : ∀ q, free q → A q) (hA : ∀ q, s.heap.size ≤ q → A q)
    {s1 e1 h1 c1 s2 e2 h2 c2 : Nat} {tl : List (Nat × Nat × Nat × Nat)} {n1 : String} (htab : c.exceptionTable.toList.map (fun h => (h.startPc, h.endPc, h.handlerPc, h.catchType)) = (s1, e1, h1, c1) :: (s2, e2, h2, c2) :: tl) (hcov : s1 ≤ pc ∧ pc < e1) (hc1 : c1 ≠ 0) (hcov2 : s2 ≤ pc ∧ pc < e2) (hc2 : c2 ≠ 0)
    (hown : s.vm.findClass own = some m.cls) (hlink1 : (Cond.classLink own c1 n1).before args s = true) (hno : va_Nc (x_en k) n1 s) (hlink : (Cond.classLink own c2 (x_en k)).before args s = true)
    (kk : ∀ (H1 : Heap) (L : List Loc) (x : Nat), (∀ q, q < s.heap.size → H1[q]? = s.heap[q]?) → va_S A s.heap H1 L → W p l e R s m args below meth c H1 L 1 6 Q (F0 m h2 ls [.ref x])) :
    W p l e R s m args below meth c s.heap [] 0 0 Q (F0 m pc ls st0) := by
  intro T hT X
  obtain ⟨x, st₀, t, T', L, h0, hal, X', hL, e1', e2', hQ, hst⟩ := hr T hT X
  obtain ⟨x1, x2, cell, x3, x4, x5⟩ := hq _ _ _ hQ
  obtain ⟨cN, vm1, hcN, hg1, hW1, hsz1, X1⟩ := x_resolve X' hown hlink1
  obtain ⟨cT, vm', hcT, hg, hW', hsz, X''⟩ := x_resolve X1 hown hlink
  have hcl : cell.cls = cT := Option.some.inj ((by rw [← hal.findClass]; exact x5.symm : some cell.cls = s.vm.findClass (x_en k)).trans hcT)
  have hcell : T'.heap[x]? = some cell := by rw [e1']; exact x3
  obtain ⟨ca, cb, n2, n3, n4⟩ := hno
  cases hcT.symm.trans n2
  cases hcN.symm.trans n3
  obtain ⟨en, en2, tab, htl, hen, hen2⟩ : ∃ (en en2 : ExceptionTableEntry) (tab : List ExceptionTableEntry), c.exceptionTable.toList = en :: en2 :: tab ∧ (en.startPc, en.endPc, en.handlerPc, en.catchType) = (s1, e1, h1, c1) ∧ (en2.startPc, en2.endPc, en2.handlerPc, en2.catchType) = (s2, e2, h2, c2) := by
    cases hh : c.exceptionTable.toList with
    | nil => rw [hh] at htab; cases htab
    | cons en tab =>
      rw [hh] at htab
      cases tab with
      | nil => have := (List.cons.inj htab).2; cases this
      | cons en2 tab => exact ⟨en, en2, tab, rfl, (List.cons.inj htab).1, (List.cons.inj (List.cons.inj htab).2).1⟩
  cases hen
  cases hen2
  have hkk : ∀ {vm9 : Vm}, s.WarmedH vm9 → ∀ {nm : String} {cc : ClassId}, s.vm.findClass nm = some cc → ∃ kc, vm9.classes[cc]? = some kc := fun hW9 nm cc hf => by
    obtain ⟨kc, hk⟩ := Vm.classAt_of_findClass hf
    obtain ⟨k', hk', -⟩ := hW9.alike.2.2 _ _ hk
    exact ⟨k', hk'⟩
  have hfind : x_Finds e ((T'.setTop { F0 m pc ls st0 with stack := rest }).pushFrame (.throwing x)) { F0 m pc ls st0 with stack := rest } x (.found en2.handlerPc) vm' := by
    intro Q E d acts
    rw [W.findHandler_eq (meth := meth) (code := c) (by rw [Stand.throwing_vm]; exact X'.method') X'.code, htl]
    rw [x_go_cls (c := cN) (cell := cell) (vm' := vm1) (by simp [covers, hcov]) hc1 (by rw [Stand.throwing_vm]; exact hg1) (by rw [Stand.throwing_heap]; exact hcell) (fun k h => by rw [x4] at h; cases h) (by rw [hcl]; exact hkk hW1 hcT) (hkk hW1 hcN) (by rw [Stand.throwing_vm]; exact hsz1), if_neg (by rw [hcl, hW1.alike.assignable, n4]; decide)]
    have hcv2 : covers en2 pc = true := by simp [covers, hcov2]
    refine (x_go_cls (e := e) (f := { F0 m pc ls st0 with stack := rest }) (a := x) (s := ((T'.setTop { F0 m pc ls st0 with stack := rest }).pushFrame (.throwing x)).setVm vm1) (c := cT) (cell := cell) (vm' := vm') hcv2 hc2 hg (by show ((T'.setTop { F0 m pc ls st0 with stack := rest }).pushFrame (.throwing x)).heap[x]? = _; rw [Stand.throwing_heap]; exact hcell) (fun k h => by rw [x4] at h; cases h) (by rw [hcl]; exact hkk hW' hcT) (hkk hW' hcT) hsz).trans ?_
    rw [if_pos (by rw [hcl]; exact va_asg _ _)]
    exact Iff.rfl
  have hsz2 : s.heap.size ≤ T'.heap.size := X'.same.2.1
  obtain ⟨t2, a1, b1⟩ := kk (T'.setVm vm').heap L x (fun q hq => by show T'.heap[q]? = _; rw [e1', ← h0]; exact x1 q (by rw [h0]; exact hq)) ⟨hsz2, fun q hq _ => by show T'.heap[q]? = _; rw [e1', ← h0]; exact x1 q (by rw [h0]; exact hq), fun q hq => hfree _ (hL q hq)⟩ (T'.setVm vm') rfl X''
  exact ⟨t2, hst.trans (x_caught (g := { F0 m pc ls st0 with stack := rest }) X'.here hfind a1), b1⟩
end XCc
