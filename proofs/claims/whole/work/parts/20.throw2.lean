theorem m_415 : (Jvm.Cond.superclass "java/lang/Throwable" "java/lang/Object") ∈ x_tb := x_m2 175 rfl rfl
theorem m_427 : (Jvm.Cond.codeSync ({ cls := "java/lang/Throwable", name := "fillInStackTrace", desc := "()Ljava/lang/Throwable;" } : Jvm.MethodName) prog_20_method_18_code (1 : Nat) (Option.some (Jvm.ClassFile.FieldType.object "java/lang/Throwable"))) ∈ x_tb := x_m2 187 rfl rfl
theorem m_432 : (Jvm.Cond.native ({ cls := "java/lang/Throwable", name := "fillInStackTrace", desc := "(I)Ljava/lang/Throwable;" } : Jvm.MethodName)) ∈ x_tb := x_m2 192 rfl rfl
def x_tw : List Cond := [.declares ⟨"java/lang/RuntimeException", "<init>", "(Ljava/lang/String;)V"⟩, .declares ⟨"java/lang/Exception", "<init>", "(Ljava/lang/String;)V"⟩, .declares ⟨"java/lang/Throwable", "<init>", "(Ljava/lang/String;)V"⟩, .castable "java/lang/IllegalArgumentException" "java/lang/IllegalArgumentException", .castable "java/lang/IllegalStateException" "java/lang/IllegalStateException", .laysStatic "java/lang/Throwable" "UNASSIGNED_STACK" "[Ljava/lang/StackTraceElement;", .laysStatic "java/lang/Throwable" "SUPPRESSED_SENTINEL" "Ljava/util/List;", .isRef (.static "java/lang/Throwable" "UNASSIGNED_STACK" "[Ljava/lang/StackTraceElement;"), .isRef (.static "java/lang/Throwable" "SUPPRESSED_SENTINEL" "Ljava/util/List;")]
def x_str : List (Nat × String) := [(228, "a number is out of its bounds"), (231, "an hour is over"), (237, "no such corner can follow"), (164, "all rows of mould are told"), (173, "too many hours would be over"), (217, "there are more than 5 cells")]
/-- what a throw asks beside x_tb's words -/
def x_Tf (U : State) : Prop := (∀ w ∈ x_tw, w.before #[] U = true) ∧ ∀ q ∈ x_str, ∃ a : Nat, vk_R "WallDamp" q.1 q.2 a U
theorem x_ab {c : Cond} {A B : Array Value} {U : State} (hc : c.onTables = true) (h : c.before A U = true) : c.before B U = true := va_tabs hc rfl h
theorem x_bs {c : Cond} {A B : Array Value} {U : State} (hc : ∀ C : Array Value, c.before C U = c.before #[] U) (h : c.before A U = true) : c.before B U = true := by rw [hc B, ← hc A]; exact h
theorem x_argless {c : Cond} (h : c ∈ x_tw) (A : Array Value) (U : State) : c.before A U = c.before #[] U := by
  simp only [x_tw, List.mem_cons, List.not_mem_nil, or_false] at h
  rcases h with rfl | rfl | rfl | rfl | rfl | rfl | rfl | rfl | rfl <;> rfl
theorem x_tfw {args : Array Value} {s : State} {c : Cond} (h : x_Tf s) (i : Nat) (hi : x_tw[i]? = some c) : c.before args s = true := by
  have hm := List.mem_of_getElem? hi
  rw [x_argless hm]
  exact h.1 c hm
theorem x_f0 {p : Cond → Prop} : ∀ x ∈ ([] : List Cond), p x := fun _ h => by cases h
theorem x_fa {p : Cond → Prop} {a : Cond} {l : List Cond} (h : p a) (t : ∀ x ∈ l, p x) : ∀ x ∈ a :: l, p x := List.forall_mem_cons.mpr ⟨h, t⟩

theorem at_IAE_230 {args : Array Value} {s : State} (hts : ∀ w ∈ x_tb, w.before args s = true) (hTf : x_Tf s) : ∀ a ∈ Jvm.Bundle.ownAtoms "WallDamp" 230 "java/lang/IllegalArgumentException" ["java/lang/RuntimeException", "java/lang/Exception"], a.before args s = true :=
  List.forall_mem_append.mpr ⟨List.forall_mem_append.mpr ⟨List.forall_mem_append.mpr ⟨x_fa (hts _ m_14) (x_fa (hts _ m_415) (x_fa (hts _ m_424) (x_fa (hts _ m_427) (x_fa (hts _ m_430) (x_fa (hts _ m_432) (x_fa (hts _ m_416) (x_fa (hts _ m_417) (x_fa (hts _ m_25) (x_fa (hts _ m_26) (x_fa (hts _ m_418) (x_fa (hts _ m_423) (x_fa (hts _ m_428) (x_fa (hts _ m_448) (x_fa (hts _ m_405) (x_fa (hts _ m_449) (x_fa (hts _ m_407) (x_fa (hts _ m_450) (x_fa (hts _ m_409) (x_fa (hts _ m_419) (x_fa (x_tfw hTf 5 rfl) (x_fa (hts _ m_421) (x_fa (x_tfw hTf 6 rfl) (x_fa (hts _ m_411) x_f0))))))))))))))))))))))), x_fa (hts _ m_444) (x_fa (hts _ m_445) (x_fa (hts _ m_447) (x_fa (hts _ m_411) x_f0)))⟩, List.forall_mem_append.mpr ⟨x_fa (hts _ m_435) (x_fa (hts _ m_436) (x_fa (hts _ m_437) (x_fa (hts _ m_438) (x_fa (x_tfw hTf 0 rfl) x_f0)))), List.forall_mem_append.mpr ⟨x_fa (hts _ m_438) (x_fa (hts _ m_439) (x_fa (hts _ m_440) (x_fa (hts _ m_441) (x_fa (x_tfw hTf 1 rfl) x_f0)))), x_fa (hts _ m_441) (x_fa (hts _ m_442) (x_fa (hts _ m_443) (x_fa (hts _ m_444) (x_fa (x_tfw hTf 2 rfl) x_f0))))⟩⟩⟩, x_fa (hts _ m_434) (x_fa (hts _ m_394) (x_fa (x_tfw hTf 3 rfl) (x_fa (hts _ m_402) (x_fa (hts _ m_403) (x_fa (hts _ m_404) (x_fa (hts _ m_406) (x_fa (hts _ m_408) (x_fa (hts _ m_410) (x_fa (x_tfw hTf 7 rfl) (x_fa (x_tfw hTf 8 rfl) (x_fa (hts _ m_414) (x_fa (hts _ m_413) (x_fa (hts _ m_412) x_f0)))))))))))))⟩
theorem at_ISE_166 {args : Array Value} {s : State} (hts : ∀ w ∈ x_tb, w.before args s = true) (hTf : x_Tf s) : ∀ a ∈ Jvm.Bundle.ownAtoms "WallDamp" 166 "java/lang/IllegalStateException" ["java/lang/RuntimeException", "java/lang/Exception"], a.before args s = true :=
  List.forall_mem_append.mpr ⟨List.forall_mem_append.mpr ⟨List.forall_mem_append.mpr ⟨x_fa (hts _ m_14) (x_fa (hts _ m_415) (x_fa (hts _ m_424) (x_fa (hts _ m_427) (x_fa (hts _ m_430) (x_fa (hts _ m_432) (x_fa (hts _ m_416) (x_fa (hts _ m_417) (x_fa (hts _ m_25) (x_fa (hts _ m_26) (x_fa (hts _ m_418) (x_fa (hts _ m_423) (x_fa (hts _ m_428) (x_fa (hts _ m_448) (x_fa (hts _ m_405) (x_fa (hts _ m_449) (x_fa (hts _ m_407) (x_fa (hts _ m_450) (x_fa (hts _ m_409) (x_fa (hts _ m_419) (x_fa (x_tfw hTf 5 rfl) (x_fa (hts _ m_421) (x_fa (x_tfw hTf 6 rfl) (x_fa (hts _ m_411) x_f0))))))))))))))))))))))), x_fa (hts _ m_444) (x_fa (hts _ m_445) (x_fa (hts _ m_447) (x_fa (hts _ m_411) x_f0)))⟩, List.forall_mem_append.mpr ⟨x_fa (hts _ m_476) (x_fa (hts _ m_477) (x_fa (hts _ m_478) (x_fa (hts _ m_438) (x_fa (x_tfw hTf 0 rfl) x_f0)))), List.forall_mem_append.mpr ⟨x_fa (hts _ m_438) (x_fa (hts _ m_439) (x_fa (hts _ m_440) (x_fa (hts _ m_441) (x_fa (x_tfw hTf 1 rfl) x_f0)))), x_fa (hts _ m_441) (x_fa (hts _ m_442) (x_fa (hts _ m_443) (x_fa (hts _ m_444) (x_fa (x_tfw hTf 2 rfl) x_f0))))⟩⟩⟩, x_fa (hts _ m_475) (x_fa (hts _ m_466) (x_fa (x_tfw hTf 4 rfl) (x_fa (hts _ m_468) (x_fa (hts _ m_426) (x_fa (hts _ m_469) (x_fa (hts _ m_470) (x_fa (hts _ m_471) (x_fa (hts _ m_472) (x_fa (x_tfw hTf 7 rfl) (x_fa (x_tfw hTf 8 rfl) (x_fa (hts _ m_414) (x_fa (hts _ m_413) (x_fa (hts _ m_473) x_f0)))))))))))))⟩
theorem x_Tf.same {s U : State} (hv : s.vm = U.vm) (hh : s.heap = U.heap) (h : x_Tf s) : x_Tf U := by
  refine ⟨fun w hw => ?_, fun q hq => ?_⟩
  · have h1 := h.1 w hw
    simp only [x_tw, List.mem_cons, List.not_mem_nil, or_false] at hw
    rcases hw with rfl | rfl | rfl | rfl | rfl | rfl | rfl | rfl | rfl
    · exact va_tabs rfl hv h1
    · exact va_tabs rfl hv h1
    · exact va_tabs rfl hv h1
    · exact va_tabs rfl hv h1
    · exact va_tabs rfl hv h1
    · simp only [Cond.before, Cond.holds, Cond.value, State.fieldFound?, State.names, ← hv, ← hh] at h1 ⊢; exact h1
    · simp only [Cond.before, Cond.holds, Cond.value, State.fieldFound?, State.names, ← hv, ← hh] at h1 ⊢; exact h1
    · simp only [Cond.before, Cond.holds, Cond.value, Term.eval, State.fieldNamed?, State.fieldFound?, State.names, ← hv, ← hh] at h1 ⊢; exact h1
    · simp only [Cond.before, Cond.holds, Cond.value, Term.eval, State.fieldNamed?, State.fieldFound?, State.names, ← hv, ← hh] at h1 ⊢; exact h1
  · obtain ⟨a, ha⟩ := h.2 q hq
    exact ⟨a, vk_R.same hv.symm ha⟩
theorem x_Tf.warm {s U : State} (hW : s.WarmedH U.vm) (hh : U.heap = s.heap) (h : x_Tf s) : x_Tf U := by
  have h2 : x_Tf (s.setVm U.vm) := by
    refine ⟨fun w hw => ?_, fun q hq => ?_⟩
    · refine Cond.before_shiftedFace (State.Shifted.of_warmed hW) w ?_ (h.1 w hw)
      simp only [x_tw, List.mem_cons, List.not_mem_nil, or_false] at hw
      rcases hw with rfl | rfl | rfl | rfl | rfl | rfl | rfl | rfl | rfl <;> rfl
    · obtain ⟨a, ha⟩ := h.2 q hq
      exact ⟨a, vk_R.warm (U := s.setVm U.vm) hW ha⟩
  exact x_Tf.same (s := s.setVm U.vm) rfl hh.symm h2
def x_en (k : Nat) : String := if k = 1 then "java/lang/IllegalArgumentException" else "java/lang/IllegalStateException"
/-- the exception k was thrown as the new object x; nothing that was there has changed -/
def x_exc (k : Nat) (x : Addr) (st t : State) : Prop := (∀ q, q < st.heap.size → t.heap[q]? = st.heap[q]?) ∧ st.heap.size ≤ x ∧ ∃ cell : Cell, t.heap[x]? = some cell ∧ cell.vm = .none ∧ st.vm.findClass (x_en k) = some cell.cls
theorem x_same0 {s t : State} {k n : Nat} (h : s.sameButNew t [] k n) (q : Nat) (hq : q < s.heap.size) : t.heap[q]? = s.heap[q]? := by
  obtain ⟨cell, hc⟩ : ∃ cell, s.heap[q]? = some cell := ⟨s.heap[q], by simp [hq]⟩
  obtain ⟨c', h1, h2, h3, h4⟩ := h.2.2.2.2.2 q cell hc
  have h5 : c'.slots = cell.slots := by
    apply Array.ext_getElem?
    intro i
    exact h4 i (by simp)
  rw [h1, hc, h2, h5]
section XTh
variable {p : Program} {l : Launch} {e : Env} {R : Room} {s : State} {m : MethodId} {args : Array Value} {below : List Frame} {meth : Method} {c : Code}
variable {cc : ByteArray} {pc : Nat} {ls : Array Slot} {nL : Nat} {Qc : Array Value → State → Outcome → State → Prop} {free : Addr → Prop}
/-- 'throw new X("..")' in a method that has changed nothing yet -/
theorem x_throw (hx : p.tables.exec = Jvm.exec) (hb : c.code = cc) (hml : c.maxLocals = nL) (hls : ls.size = nL) (hown : s.vm.findClass "WallDamp" = some m.cls) (hlocks : meth.locks = false) (hexc : c.exceptionTable.isEmpty = true) (hfl : l.flags = pinnedFlags ++ [noTraceFlag])
    (hTf : x_Tf s) {k iC iS iN : Nat} {tx : String} (hst : (iS, tx) ∈ x_str) (hfit : Jvm.Bundle.fit (x_en k) = true) (hat : ∀ a ∈ Jvm.Bundle.ownAtoms "WallDamp" iN (x_en k) ["java/lang/RuntimeException", "java/lang/Exception"], a.before args s = true)
    (hcl : (Cond.classLink "WallDamp" iC (x_en k)).before args s = true) (hins : (Cond.instantiable (x_en k) 6).before args s = true) (hini : (Cond.initialized (x_en k)).before args s = true)
    (hRf : 5 < R.frames) (hRl : 90 ≤ R.locals) (hRc : 1 ≤ R.cells) (hRs : 6 ≤ R.slots)
    (d0 : decode cc pc = .ok (.new iC, 3)) (d1 : decode cc (pc + 3) = .ok (.dup, 1)) (d2 : decode cc (pc + 3 + 1) = .ok (.ldc iS, 2)) (d3 : decode cc (pc + 3 + 1 + 2) = .ok (.invokespecial iN, 3)) (d4 : decode cc (pc + 3 + 1 + 2 + 3) = .ok (.athrow, 1))
    (hq : ∀ x t, x_exc k x s t → Qc args s (.threw x) t) : W p l e R s m args below meth c s.heap [] 0 0 (x_MQ below Qc args s 1 6 free) (F0 m pc ls []) := by
  refine W.newc hx hb hown hcl hins hini (g := F0 m pc ls []) rfl d0 hRc hRs (fun cC kC h1 h2 h3 h4 => ?_)
  refine lv_dup hx hb d1 rfl ?_
  obtain ⟨a, ha⟩ := hTf.2 _ hst
  refine va_ldcS hx hb hown ha d2 ?_
  intro T hT X
  have hcell : T.heap[s.heap.size]? = some (Jvm.freshCell cC kC) := by rw [hT]; simp [Jvm.freshCell]
  obtain ⟨U, hs, hrun, hend, hW, hsame, ce, hce, hoc⟩ := X.ctorThrowS hx (Launch.traces_off hfl X.admits) (names := ["java/lang/RuntimeException", "java/lang/Exception"]) hown hfit (by intro n hn; simp only [List.mem_cons, List.not_mem_nil, or_false] at hn; rcases hn with rfl | rfl <;> decide) hat (fun x h => by cases h) h1 h2 hcell (Nat.le_refl _) (msg := .ref a) rfl
    (g := F0 m (pc + 3 + 1 + 2) ls [.ref a, .ref s.heap.size, .ref s.heap.size]) rfl (hls.trans hml.symm) rfl rfl (rest := []) rfl (by rw [hb]; exact d3) (by rw [hb]; exact d4) (fun x h => by rw [Array.isEmpty_iff.mp hexc] at h; simp at h) (by simpa using hRf) (by show 2 * 0 + 1 + (13 * 3 + 42) ≤ _; omega) hlocks
  refine ⟨U, hs, .threw s.heap.size, hrun, hend, hq _ _ ⟨fun q h => x_same0 hsame q h, Nat.le_refl _, ce, hce, hoc.vm, hoc.cls⟩, [], ⟨hW, hsame⟩, fun q h => by cases h⟩
end XTh

