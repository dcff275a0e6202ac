/-! THE LAW'S START -/
def x_w0 : x_W := (fun _ _ => 0, fun _ _ => 0, fun _ _ => none, fun _ _ => 0, fun _ _ => 0, fun _ _ => none)
def x_T0 : x_T := fun _ => none
section XSt
variable {p : Program} {l : Launch} {e : Env} {R : Room} {s : State} {m : MethodId} {args : Array Value} {below : List Frame} {meth : Method} {c : Code} {H H1 : Heap} {locs : List Loc} {cells slots : Nat} {Q : State → Prop}
variable {D : va_G} {aC : Nat → ClassId} {ad ad' : Nat → Nat} {T : x_T} {nx : Nat} {w w' : x_W} {A : Nat → Prop}
theorem x_H_0 {cl : List vw_C} {FT : Nat → List (Nat × Nat)} : x_H D cl FT aC ad x_T0 0 A x_w0 H :=
  ⟨fun k q h => (by simp [x_ws] at h), ⟨fun i j p q h => (by simp [x_ws] at h), fun k q h => (by simp [x_ws] at h)⟩, fun h q hq => (by cases hq), ⟨fun h _ k => ⟨rfl, rfl, rfl, rfl, rfl, rfl⟩, fun k h a ha => (by cases ha), fun h k a ha => (by cases ha)⟩⟩
/-- other addresses, the same on all handles that are made -/
theorem x_H.readdr {cl : List vw_C} {FT : Nat → List (Nat × Nat)} (hH : x_H D cl FT aC ad T nx A w H) (he : ∀ h, h < nx → ad' h = ad h) : x_H D cl FT aC ad' T nx A w H := by
  have hm : ∀ o : Option Nat, (∀ a, o = some a → a < nx) → o.map ad' = o.map ad := fun o ho => by
    cases o with
    | none => rfl
    | some a => simp [he a (ho a rfl)]
  have hc : ∀ h, x_cell FT aC ad' T w h = x_cell FT aC ad T w h := fun h => by
    have h1 : x_fld ad' w h = x_fld ad w h := funext (fun kd => by
      unfold x_fld
      rw [hm _ (fun a ha => hH.2.2.2.2.1 _ _ a ha)])
    have h2 : (fun j => (x_Q w h j).map ad') = (fun j => (x_Q w h j).map ad) := funext (fun j => hm _ (fun a ha => hH.2.2.2.2.2 _ _ a ha))
    unfold x_cell
    rw [h1, h2]
  have hw : x_ws FT aC ad' T w nx = x_ws FT aC ad T w nx := by
    unfold x_ws
    apply List.map_congr_left
    intro h hh
    rw [he h (List.mem_range.mp hh), hc]
  exact ⟨by rw [hw]; exact hH.1, by rw [hw]; exact hH.2.1, hH.2.2.1, hH.2.2.2⟩
theorem x_callN2 {a : Array Value} {q : x_T × Nat × x_W} {mc ms pc : Nat} {ls : Array Slot} {st0 rest : List Value} (hr : va_Run p l e R s m args below meth c H locs cells slots mc ms (F0 m pc ls st0) rest (x_Qn D aC ad q (x_dom ad nx (ad nx)) a) (x_dom ad nx (ad nx))) (hz : H.size = ad nx)
    (hH : x_H D x_cl x_FT aC ad T nx A w H) (hA : ∀ q, s.heap.size ≤ q → A q) (hS : va_S A s.heap H locs)
    (kk : ∀ (H1 : Heap) (locs1 : List Loc), H1.size = ad q.2.1 → x_H D x_cl x_FT aC ad q.1 q.2.1 A q.2.2 H1 → va_S A s.heap H1 locs1 → (∀ z, z < H.size → ¬ x_dom ad nx H.size z → H1[z]? = H[z]?) → W p l e R s m args below meth c H1 locs1 (cells + mc) (slots + ms) Q (F0 m (pc + 3) ls rest)) : W p l e R s m args below meth c H locs cells slots Q (F0 m pc ls st0) := by
  intro T' hT X
  obtain ⟨v1, st₀, t, T1, L, h0, X', hL, e1, e2, ⟨hv, ⟨hz1, hk⟩, hsz, hH1⟩, st⟩ := hr T' hT X
  cases hv
  rw [h0] at hz1 hk
  have hdom : ∀ q, x_dom ad nx (ad nx) q → A q := fun q h => by
    rcases h with ⟨i, hi, rfl⟩ | h
    · exact hH.dom hi
    · exact hA q (Nat.le_trans hS.1 (hz ▸ h))
  obtain ⟨t2, a1, b1⟩ := kk T1.heap (locs ++ L) (by rw [e1]; exact hsz) (by rw [e1]; exact hH1.weaken (fun i hi h => hdom _ h))
    ⟨Nat.le_trans hS.1 (by rw [e1]; exact hz1), fun q h1 h2 => by rw [e1, hk q (Nat.lt_of_lt_of_le h1 hS.1) (fun z => h2 (hdom q z))]; exact hS.2.1 q h1 h2, fun q hq => by
      rcases List.mem_append.mp hq with h | h
      · exact hS.2.2 q h
      · exact hdom _ (hL q h)⟩ (fun z h1 h2 => by rw [e1]; exact hk z h1 (by rw [← hz]; exact h2)) T1 rfl X'
  exact ⟨t2, st t2 a1, b1⟩
theorem x_arrP {ty : FieldType} (h : (Cond.arrayClass ty).before args s = true) : ∃ cA : ClassId, ArrOfT s cA ty ∧ s.vm.findClass ("[" ++ ty.toString) = some cA := by
  simp only [Cond.before, Cond.holds, Cond.value] at h
  cases h1 : s.vm.findClass ("[" ++ ty.toString) with
  | none => simp [h1] at h
  | some cA =>
    cases h2 : s.vm.classes[cA]? with
    | none => simp [h1, h2] at h
    | some k =>
      cases h3 : k.kind with
      | array comp t =>
        simp [h1, h2, h3] at h
        subst h
        exact ⟨cA, fun n z => ⟨fun k h => (by cases h), k, h2, comp, h3⟩, rfl⟩
      | _ => simp [h1, h2, h3] at h
theorem x_arrQ {C : String} (h : va_AO C s) : ∃ cA : ClassId, ArrOfT s cA (.object C) ∧ va_RA s cA (.object C) := by
  obtain ⟨comp, cA, k, h1, h2, h3, h4, h5⟩ := Cond.arrayOver_spec h
  exact ⟨cA, fun n z => ⟨fun k h => (by cases h), k, h3, comp, h4⟩, k, comp, h3, h4, h1, h5⟩
end XSt
