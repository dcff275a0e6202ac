/-! MAKING: rows that tell the heap's size; a new handle -/
def x_uT (T : x_T) (k c n : Nat) : x_T := fun h => if h = k then some (c, n) else T h
section XNa
variable {D : va_G} {cl : List vw_C} {FT : Nat → List (Nat × Nat)} {aC : Nat → ClassId} {ad : Nat → Nat} {T T' : x_T} {nx : Nat} {A : Nat → Prop} {w : x_W} {H H1 : Heap}
theorem x_cell_T {h : Nat} (e : T' h = T h) : x_cell FT aC ad T' w h = x_cell FT aC ad T w h := by
  unfold x_cell
  rw [e]
theorem x_ws_push {c n : Nat} : x_ws FT aC ad (x_uT T nx c n) w (nx + 1) = x_ws FT aC ad T w nx ++ [(ad nx, x_cell FT aC ad (x_uT T nx c n) w nx)] := by
  unfold x_ws
  rw [List.range_succ, List.map_append]
  congr 1
  apply List.map_congr_left
  intro h hh
  have hlt := List.mem_range.mp hh
  rw [x_cell_T (T := T) (by simp [x_uT, Nat.ne_of_lt hlt])]
theorem x_H_push (hH : x_H D cl FT aC ad T nx A w H) (hz : H.size = ad nx) (hA : A (ad nx)) (o1 : ∀ q, q < H.size → H1[q]? = H[q]?) {c n : Nat} (hnew : va_at D cl (ad nx, x_cell FT aC ad (x_uT T nx c n) w nx) H1) : x_H D cl FT aC ad (x_uT T nx c n) (nx + 1) A w H1 := by
  refine ⟨?_, ?_, fun h q hq => ?_, ?_⟩
  · rw [x_ws_push]
    refine (hH.1.kept (fun k x hx => o1 x.1 ((hH.1 k x hx).lt))).app (fun k x hx => ?_)
    have hk : k < 1 := (List.getElem?_eq_some_iff.mp hx).1
    rw [show k = 0 by omega] at hx
    cases hx
    exact hnew
  · rw [x_ws_push]
    exact hH.2.1.push hH.1 hz.symm hA
  · by_cases h1 : h = nx
    · omega
    · have := hH.2.2.1 h q (by simpa [x_uT, h1] using hq)
      omega
  · obtain ⟨k1, k2, k3⟩ := hH.2.2.2
    exact ⟨fun h hh => k1 h (by omega), fun k h a ha => by have := k2 k h a ha; omega, fun h k a ha => by have := k3 h k a ha; omega⟩
def x_dflt (kd : Nat × Nat) : Value := if kd.1 = 0 then .int 0 else if kd.1 = 1 then .long 0 else .null
theorem x_fld_new (hH : x_H D cl FT aC ad T nx A w H) (kd : Nat × Nat) : x_fld ad w nx kd = x_dflt kd := by
  obtain ⟨h1, h2, h3, -⟩ := hH.2.2.2.1 nx (Nat.le_refl _) kd.2
  simp [x_fld, x_dflt, h1, h2, h3, va_rf]
end XNa
section XNb
variable {p : Program} {l : Launch} {e : Env} {R : Room} {s : State} {m : MethodId} {args : Array Value} {below : List Frame} {meth : Method} {c0 : Code} {H : Heap} {locs : List Loc} {cells slots : Nat} {Q : State → Prop}
variable {cc : ByteArray} {pc : Nat} {ls : Array Slot} {rest : List Value} {D : va_G} {cl : List vw_C} {FT : Nat → List (Nat × Nat)} {aC : Nat → ClassId} {ad : Nat → Nat} {T : x_T} {nx : Nat} {A : Nat → Prop} {w : x_W} {tys : List (ClassId × FieldType)} {H0 : Heap} {h ci n : Nat}
theorem x_new (hexec : p.tables.exec = Jvm.exec) (hb : c0.code = cc) {own C : String} {F : u_T} {N index : Nat} {Ts : List Cond} (hts : ∀ w ∈ Ts, w.before args s = true) (hin : ∀ w ∈ u_ws C F N, w ∈ Ts) (ty : Nat → FieldType) (hty : ∀ k, k < N → parseFieldDescriptor (F k).2.2.1 = some (ty k)) (hown : s.vm.findClass own = some m.cls) (hcl : (Cond.classLink own index C).before args s = true) (hinst : (Cond.instantiable C N).before args s = true) (hini : (Cond.initialized C).before args s = true)
    (hK : va_K D cl tys s) (hH : x_H D cl FT aC ad T nx A w H) (hS : va_S A H0 H locs) (hA : ∀ q, H0.size ≤ q → A q) (hz : H.size = ad nx) (hci : ci < 100) (hc : cl[ci]? = some (C, F, N)) (hfs : ∀ j, j < N → defaultValue (ty j) = vp_V ((FT ci).map x_dflt) j) (hcells : cells + 1 ≤ R.cells) (hslots : slots + N ≤ R.slots) (hdg : decode cc pc = .ok (.new index, 3))
    (kk : ∀ (H1 : Heap), H1.size = ad nx + 1 → x_H D cl FT aC ad (x_uT T nx ci 0) (nx + 1) A w H1 → va_S A H0 H1 locs → W p l e R s m args below meth c0 H1 locs (cells + 1) (slots + N) Q (F0 m (pc + 3) ls (.ref (ad nx) :: rest))) : W p l e R s m args below meth c0 H locs cells slots Q (F0 m pc ls rest) := by
  have hKn := hK.1 ci _ hc
  refine W.newcK hexec hb hown hcl hinst hini rfl hdg hcells hslots hKn.2.1 hz fun H1 kC hkC e1 z1 o1 => ?_
  have o2 : ∀ q, q < H.size → H1[q]? = H[q]? := fun q hq => o1 q (hz ▸ hq)
  refine kk H1 z1 (x_H_push hH hz (hA _ (hz ▸ hS.1)) o2 ?_) ⟨Nat.le_trans hS.1 (by omega), fun x h1 h2 => (o2 x (Nat.lt_of_lt_of_le h1 hS.1)).trans (hS.2.1 x h1 h2), hS.2.2⟩
  rw [x_cell_o (c := ci) (n := 0) (by simp [x_uT]) hci, show (FT ci).map (x_fld ad w nx) = (FT ci).map x_dflt from List.map_congr_left (fun kd _ => x_fld_new hH kd)]
  exact ⟨_, hc, (u_born ty hts hin hKn hkC e1 hty).to hfs⟩
theorem x_newa (hexec : p.tables.exec = Jvm.exec) (hb : c0.code = cc) {atype : ArrayType} (harr : (Cond.arrayClass (newarray.typeOf atype)).before args s = true) (hK : va_K D cl tys s) (hH : x_H D cl FT aC ad T nx A w H) (hS : va_S A H0 H locs) (hA : ∀ q, H0.size ≤ q → A q) (hz : H.size = ad nx)
    (t0 : Nat) (ht : tys[t0]? = some (aC ci, newarray.typeOf atype)) (hRA : va_RA s (aC ci) (newarray.typeOf atype) → s.vm.findClass ("[" ++ (newarray.typeOf atype).toString) = some (aC ci)) {k : Int32} {N : Nat} (hn : ¬ k < 0) (hN : k.toNatClampNeg = N) (hbytes : N * componentBytes (newarray.typeOf atype) ≤ 536870912) (hcells : cells + 1 ≤ R.cells) (hslots : slots + N ≤ R.slots)
    (hcell : x_cell FT aC ad (x_uT T nx ci N) w nx = .inl (aC ci, N, .inl (x_A w nx)) ∧ defaultValue (newarray.typeOf atype) = .int 0 ∨ x_cell FT aC ad (x_uT T nx ci N) w nx = .inl (aC ci, N, .inr (.inl (x_B w nx))) ∧ defaultValue (newarray.typeOf atype) = .long 0) (hdg : decode cc pc = .ok (.newarray atype, 2))
    (kk : ∀ (H1 : Heap), H1.size = ad nx + 1 → x_H D cl FT aC ad (x_uT T nx ci N) (nx + 1) A w H1 → va_S A H0 H1 locs → W p l e R s m args below meth c0 H1 locs (cells + 1) (slots + N) Q (F0 m (pc + 2) ls (.ref (ad nx) :: rest))) : W p l e R s m args below meth c0 H locs cells slots Q (F0 m pc ls (.int k :: rest)) := by
  refine va_newaK hexec hb harr rfl hdg rfl hn hN hbytes hcells hslots hz fun H1 cA e1 z1 o1 hAr hNm => ?_
  have o2 : ∀ q, q < H.size → H1[q]? = H[q]? := fun q hq => o1 q (hz ▸ hq)
  have hcA : aC ci = cA := Option.some.inj ((hRA (hK.2 t0 _ ht).2).symm.trans hNm)
  refine kk H1 z1 (x_H_push hH hz (hA _ (hz ▸ hS.1)) o2 ?_) ⟨Nat.le_trans hS.1 (by omega), fun x h1 h2 => (o2 x (Nat.lt_of_lt_of_le h1 hS.1)).trans (hS.2.1 x h1 h2), hS.2.2⟩
  rcases hcell with ⟨q1, q2⟩ | ⟨q1, q2⟩
  · rw [q1]
    show H1[ad nx]? = some (vp_cell _ _)
    rw [e1, q2, vp_cell_i, hcA]
    congr 2
    funext j
    rw [(hH.2.2.2.1 nx (Nat.le_refl _) j).2.2.2.1]
  · rw [q1]
    show H1[ad nx]? = some (vp_cell _ _)
    rw [e1, q2, vp_cell_l, hcA]
    congr 2
    funext j
    rw [(hH.2.2.2.1 nx (Nat.le_refl _) j).2.2.2.2.1]
theorem x_newq (hexec : p.tables.exec = Jvm.exec) (hb : c0.code = cc) {own C : String} {index : Nat} (hown : s.vm.findClass own = some m.cls) (hclink : (Cond.classLink own index C).before args s = true) (hover : va_AO C s) (hK : va_K D cl tys s) (hH : x_H D cl FT aC ad T nx A w H) (hS : va_S A H0 H locs) (hA : ∀ q, H0.size ≤ q → A q) (hz : H.size = ad nx)
    (t0 : Nat) (ht : tys[t0]? = some (aC ci, .object C)) (hci : 103 ≤ ci) {k : Int32} {N : Nat} (hn : ¬ k < 0) (hN : k.toNatClampNeg = N) (hbytes : N * 4 ≤ 536870912) (hcells : cells + 1 ≤ R.cells) (hslots : slots + N ≤ R.slots) (hdg : decode cc pc = .ok (.anewarray index, 3))
    (kk : ∀ (H1 : Heap), H1.size = ad nx + 1 → x_H D cl FT aC ad (x_uT T nx ci N) (nx + 1) A w H1 → va_S A H0 H1 locs → W p l e R s m args below meth c0 H1 locs (cells + 1) (slots + N) Q (F0 m (pc + 3) ls (.ref (ad nx) :: rest))) : W p l e R s m args below meth c0 H locs cells slots Q (F0 m pc ls (.int k :: rest)) := by
  subst hN
  refine W.anew hexec hb hown hclink (va_AO.use hover) rfl hdg rfl hn hbytes hcells hslots fun cA kA comp f1 f2 f3 f4 => ?_
  obtain ⟨kA', comp', g1, g2, g3, g4⟩ := (hK.2 t0 _ ht).2
  have hcA : aC ci = cA := Option.some.inj (g4.symm.trans f1)
  generalize hH1 : H.push ({ cls := cA, slots := Array.replicate k.toNatClampNeg .null, vm := .none } : Cell) = H1
  have z1 : H1.size = ad nx + 1 := by rw [← hH1, Array.size_push, hz]
  have e1 : H1[ad nx]? = some (arrV cA k.toNatClampNeg (fun _ => .null)) := by rw [← hH1, ← hz, Array.getElem?_push_size, ← arrV_new]
  have o2 : ∀ q : Nat, q < H.size → H1[q]? = H[q]? := fun q hq => by rw [← hH1, Array.getElem?_push, if_neg (Nat.ne_of_lt hq)]
  have kk' := kk H1 z1 (x_H_push hH hz (hA _ (hz ▸ hS.1)) o2 (by
    rw [x_cell_q (c := ci) (n := k.toNatClampNeg) (by simp [x_uT]) hci]
    show H1[ad nx]? = some (vp_cell _ _)
    rw [e1, vp_cell_q, hcA]
    congr 2
    funext j
    rw [(hH.2.2.2.1 nx (Nat.le_refl _) j).2.2.2.2.2]
    rfl)) ⟨Nat.le_trans hS.1 (by omega), fun x h1 h2 => (o2 x (Nat.lt_of_lt_of_le h1 hS.1)).trans (hS.2.1 x h1 h2), hS.2.2⟩
  rw [hz]
  exact kk'
end XNb
