/-! WRITES THAT TELL THE HEAP'S SIZE (for constructors) -/
section XZ
variable {p : Program} {l : Launch} {e : Env} {R : Room} {s : State} {m : MethodId} {args : Array Value} {below : List Frame} {meth : Method} {c0 : Code} {H : Heap} {locs : List Loc} {cells slots : Nat} {Q : State → Prop}
variable {cc : ByteArray} {pc : Nat} {ls : Array Slot} {rest : List Value} {D : va_G} {cl : List vw_C} {FT : Nat → List (Nat × Nat)} {aC : Nat → ClassId} {ad : Nat → Nat} {T : x_T} {nx : Nat} {A : Nat → Prop} {w : x_W} {tys : List (ClassId × FieldType)} {H0 : Heap} {h ci n : Nat}
theorem x_H_put (hH : x_H D cl FT aC ad T nx A w H) (hT : T h = some (ci, n)) {w' : x_W} {en : va_E} {H1 : Heap} (hon : x_cell FT aC ad T w' h = en) (hoff : ∀ j, j ≠ h → x_cell FT aC ad T w' j = x_cell FT aC ad T w j) (hok : h < nx → x_ok nx w → x_ok nx w') (hat : va_at D cl (ad h, en) H1) (oq : ∀ q : Nat, q ≠ ad h → H1[q]? = H[q]?) : x_H D cl FT aC ad T nx A w' H1 := by
  have hh := hH.2.2.1 _ _ hT
  have hP := hH.1.set hH.2.1 (x_ws_at (FT := FT) (aC := aC) (ad := ad) (T := T) (w := w) hh) hat oq
  have hD := hH.2.1.set (e := en) (x_ws_at (FT := FT) (aC := aC) (ad := ad) (T := T) (w := w) hh)
  rw [x_ws_set hh hon hoff] at hP hD
  exact ⟨hP, hD, hH.2.2.1, hok hh hH.2.2.2⟩
theorem x_putZ (hexec : p.tables.exec = Jvm.exec) (hb : c0.code = cc) {own ref C : String} {F : u_T} {N index : Nat} {Ts : List Cond} (hts : ∀ w ∈ Ts, w.before args s = true) (hin : ∀ w ∈ u_ws C F N, w ∈ Ts) (ty0 : Nat → FieldType) (hty : ∀ k, k < N → parseFieldDescriptor (F k).2.2.1 = some (ty0 k)) (hnm : ∀ a, a < N → ∀ b, b < N → a ≠ b → (F a).2.1 ≠ (F b).2.1) (hown : s.vm.findClass own = some m.cls) (hK : va_K D cl tys s) (hH : x_H D cl FT aC ad T nx A w H) (hS : va_S A H0 H locs) (hT : T h = some (ci, n)) (hci : ci < 100) (hc : cl[ci]? = some (C, F, N)) (hl : (FT ci).length = N) (k : Nat) (hk : k < N) (hlink : (Cond.fieldLink own index ref (F k).2.1 (F k).2.2.1).before args s = true) (hsame : ∀ x, s.fieldFound? (F k).1 (F k).2.1 (F k).2.2.1 = some x → s.fieldFound? ref (F k).2.1 (F k).2.2.1 = some x) (hfin : (F k).2.2.2 = false) {ty : FieldType} {v : Value} (hd : parseFieldDescriptor (F k).2.2.1 = some ty) (hn : narrow ty v = v) (hfit : fits ty v = true) {w' : x_W} (hon : x_cell FT aC ad T w' h = .inr (ci, ((FT ci).map (x_fld ad w h)).set k v)) (hoff : ∀ j, j ≠ h → x_cell FT aC ad T w' j = x_cell FT aC ad T w j) (hok : h < nx → x_ok nx w → x_ok nx w') (hdg : decode cc pc = .ok (.putfield index, 3))
    (kk : ∀ (H1 : Heap) (locs1 : List Loc), H1.size = H.size → x_H D cl FT aC ad T nx A w' H1 → va_S A H0 H1 locs1 → W p l e R s m args below meth c0 H1 locs1 cells slots Q (F0 m (pc + 3) ls rest)) : W p l e R s m args below meth c0 H locs cells slots Q (F0 m pc ls (v :: .ref (ad h) :: rest)) := by
  have hap := va_apart (own := own) hts hin ty0 hty hnm hK hc
  have hh := hH.2.2.1 _ _ hT
  have h0 := hH.1 h _ (x_ws_at (FT := FT) (aC := aC) (ad := ad) (T := T) (w := w) hh)
  rw [x_cell_o hT hci] at h0
  obtain ⟨r, h1, cell, q1, q2, q3, q4⟩ := h0
  have hr : r = (C, F, N) := Option.some.inj (h1.symm.trans hc)
  subst hr
  obtain ⟨hS0, hfc, kC, hkC, hkind⟩ := hK.1 ci _ hc
  obtain ⟨cf, kf, fi, f, hi, hsl⟩ := hS0 k hk
  have hlay := hts _ (hin _ (u_in_lay hk))
  unfold u_lay at hlay
  rw [if_neg (by rw [hfin]; decide)] at hlay
  have hst := (u_facts hfc hkC (u_lays hts hin hk) hi).1
  have h6 := u_store hfc hkC hkind hlay hi hd hn hfit
  refine W.putK hexec hb (f := f) ⟨hown, hlink, ⟨_, _, _, hsame _ hi⟩, hst⟩ (by rw [q2]; exact h6) q1 q3 (by rw [hsl]; exact k2_hasslot (q4 k hk)) rfl rfl hdg fun H' e1 e2 e3 => ?_
  rw [hsl] at e1 ⊢
  exact kk H' _ e2 (x_H_put hH hT hon hoff hok ⟨_, hc, t_OB.to (V := updV (vp_V ((FT ci).map (x_fld ad w h))) k v) ⟨_, e1, q2, q3, t_set q4 hap hk v⟩ (fun j _ => vp_updV_set (by rw [List.length_map, hl]; exact hk) v j)⟩ e3) (hS.put e2 e3 (hH.dom hh))
theorem x_putFZ (hexec : p.tables.exec = Jvm.exec) (hb : c0.code = cc) {own ref C : String} {F : u_T} {N index : Nat} {Ts : List Cond} (hts : ∀ w ∈ Ts, w.before args s = true) (hin : ∀ w ∈ u_ws C F N, w ∈ Ts) (ty0 : Nat → FieldType) (hty : ∀ k, k < N → parseFieldDescriptor (F k).2.2.1 = some (ty0 k)) (hnm : ∀ a, a < N → ∀ b, b < N → a ≠ b → (F a).2.1 ≠ (F b).2.1) (hown : s.vm.findClass own = some m.cls) (hK : va_K D cl tys s) (hH : x_H D cl FT aC ad T nx A w H) (hS : va_S A H0 H locs) (hT : T h = some (ci, n)) (hci : ci < 100) (hc : cl[ci]? = some (C, F, N)) (hl : (FT ci).length = N) (k : Nat) (hk : k < N) (hlink : (Cond.fieldLink own index ref (F k).2.1 (F k).2.2.1).before args s = true) (hsame : ∀ x, s.fieldFound? (F k).1 (F k).2.1 (F k).2.2.1 = some x → s.fieldFound? ref (F k).2.1 (F k).2.2.1 = some x) (hfin : (F k).2.2.2 = true) (hin2 : meth.name = "<init>") (hdecl : (F k).1 = own) {ty : FieldType} {v : Value} (hd : parseFieldDescriptor (F k).2.2.1 = some ty) (hn : narrow ty v = v) (hfit : fits ty v = true) {w' : x_W} (hon : x_cell FT aC ad T w' h = .inr (ci, ((FT ci).map (x_fld ad w h)).set k v)) (hoff : ∀ j, j ≠ h → x_cell FT aC ad T w' j = x_cell FT aC ad T w j) (hok : h < nx → x_ok nx w → x_ok nx w') (hdg : decode cc pc = .ok (.putfield index, 3))
    (kk : ∀ (H1 : Heap) (locs1 : List Loc), H1.size = H.size → x_H D cl FT aC ad T nx A w' H1 → va_S A H0 H1 locs1 → W p l e R s m args below meth c0 H1 locs1 cells slots Q (F0 m (pc + 3) ls rest)) : W p l e R s m args below meth c0 H locs cells slots Q (F0 m pc ls (v :: .ref (ad h) :: rest)) := by
  have hap := va_apart (own := own) hts hin ty0 hty hnm hK hc
  have hh := hH.2.2.1 _ _ hT
  have h0 := hH.1 h _ (x_ws_at (FT := FT) (aC := aC) (ad := ad) (T := T) (w := w) hh)
  rw [x_cell_o hT hci] at h0
  obtain ⟨r, h1, cell, q1, q2, q3, q4⟩ := h0
  have hr : r = (C, F, N) := Option.some.inj (h1.symm.trans hc)
  subst hr
  obtain ⟨hS0, hfc, kC, hkC, hkind⟩ := hK.1 ci _ hc
  obtain ⟨cf, kf, fi, f, hi, hsl⟩ := hS0 k hk
  have hlay := hts _ (hin _ (u_in_lay hk))
  unfold u_lay at hlay
  rw [if_pos hfin] at hlay
  have hst := (u_facts hfc hkC (u_lays hts hin hk) hi).1
  have hcf : m.cls = cf := by
    obtain ⟨_, _, c', _, _, _, -, -, hf', -, -, -, hown2, -⟩ := Cond.laysFinal_spec hlay
    have e1 : c' = cf := by have := hi.symm.trans hf'; simp at this; exact this.1.symm
    rw [hdecl] at hown2
    rw [← e1]; exact Option.some.inj (hown.symm.trans hown2)
  have h6 := u_fits hfc hkC hkind (Or.inr hlay) hi hd hn hfit
  refine W.putFinK hexec hb hown hlink (hsame _ hi) hst hcf hin2 (by rw [q2]; exact h6) q1 q3 (by rw [hsl]; exact k2_hasslot (q4 k hk)) rfl rfl hdg fun H' e1 e2 e3 => ?_
  rw [hsl] at e1 ⊢
  exact kk H' _ e2 (x_H_put hH hT hon hoff hok ⟨_, hc, t_OB.to (V := updV (vp_V ((FT ci).map (x_fld ad w h))) k v) ⟨_, e1, q2, q3, t_set q4 hap hk v⟩ (fun j _ => vp_updV_set (by rw [List.length_map, hl]; exact hk) v j)⟩ e3) (hS.put e2 e3 (hH.dom hh))
theorem x_iastZ (hexec : p.tables.exec = Jvm.exec) (hb : c0.code = cc) (hK : va_K D cl tys s) (hH : x_H D cl FT aC ad T nx A w H) (hS : va_S A H0 H locs) (hT : T h = some (100, n)) (t0 : Nat) (ht : tys[t0]? = some (aC 100, .int)) {i v : Int32} (hin : vp_in i n) (hdg : decode cc pc = .ok (.iastore, 1))
    (kk : ∀ (H1 : Heap) (locs1 : List Loc), H1.size = H.size → x_H D cl FT aC ad T nx A (x_sA w h i.toNatClampNeg v) H1 → va_S A H0 H1 locs1 → W p l e R s m args below meth c0 H1 locs1 cells slots Q (F0 m (pc + 1) ls rest)) : W p l e R s m args below meth c0 H locs cells slots Q (F0 m pc ls (.int v :: .int i :: .ref (ad h) :: rest)) := by
  have hh := hH.2.2.1 _ _ hT
  have h0 := hH.1 h _ (x_ws_at (FT := FT) (aC := aC) (ad := ad) (T := T) (w := w) hh)
  rw [x_cell_a hT] at h0
  refine W.iast hexec hb h0 ((hK.2 t0 _ ht).1 n (fun j => .int (x_A w h j))) (fun q => by cases q) (by show ¬ (i < 0 ∨ (arrV _ _ _).slots.size ≤ _); rw [arrV_size]; exact hin) rfl rfl hdg fun H1 e1 z oq => ?_
  refine kk H1 _ z (x_H_put hH hT (x_on_A hT) (fun j hj => x_off_A hj) (fun hh ok => x_ok_A hh ok) ?_ oq) (hS.put z oq (hH.dom hh))
  show H1[ad h]? = some (vp_cell _ _)
  rw [e1, vp_cell_i, vp_cell_i, arrV_store]
  congr 2
  funext q
  by_cases hq : q = i.toNatClampNeg
  · subst hq; simp [updV, upd]
  · simp [updV, upd, hq]
theorem x_aastZ (hexec : p.tables.exec = Jvm.exec) (hb : c0.code = cc) (hK : va_K D cl tys s) (hH : x_H D cl FT aC ad T nx A w H) (hS : va_S A H0 H locs) (hT : T h = some (ci, n)) (hci : 103 ≤ ci) (t0 : Nat) {r : vw_C} (ht : tys[t0]? = some (aC ci, .object r.1)) {hv cv nv : Nat} (hTv : T hv = some (cv, nv)) (hcv : cv < 100) (hc : cl[cv]? = some r) {i : Int32} (hin : vp_in i n) (hdg : decode cc pc = .ok (.aastore, 1))
    (kk : ∀ (H1 : Heap) (locs1 : List Loc), H1.size = H.size → x_H D cl FT aC ad T nx A (x_sQ w h i.toNatClampNeg (some hv)) H1 → va_S A H0 H1 locs1 → W p l e R s m args below meth c0 H1 locs1 cells slots Q (F0 m (pc + 1) ls rest)) : W p l e R s m args below meth c0 H locs cells slots Q (F0 m pc ls (.ref (ad hv) :: .int i :: .ref (ad h) :: rest)) := by
  have hh := hH.2.2.1 _ _ hT
  have h0 := hH.1 h _ (x_ws_at (FT := FT) (aC := aC) (ad := ad) (T := T) (w := w) hh)
  rw [x_cell_q hT hci] at h0
  have h0v := hH.1 hv _ (x_ws_at (FT := FT) (aC := aC) (ad := ad) (T := T) (w := w) (hH.2.2.1 _ _ hTv))
  rw [x_cell_o hTv hcv] at h0v
  have hlt : i.toNatClampNeg < n := Nat.not_le.mp fun q => hin (Or.inr q)
  have hn0 : ¬ i < 0 := fun q => hin (Or.inl q)
  obtain ⟨r', hr', cellV, g1, g2, g3, -⟩ := h0v
  have hcls := (hK.1 cv r hc).2
  obtain ⟨kA, comp, k1, k2, k3, -⟩ := (hK.2 t0 _ ht).2
  have hcomp : comp = D.1 cv := Option.some.inj (k3.symm.trans hcls.1)
  subst hcomp
  obtain ⟨kC, hkC, -⟩ := hcls.2
  refine W.aast hexec hb h0 (fun q h => by cases h) (fun h => by cases h) k1 k2 rfl hkC ⟨hn0, by show _ < (arrV _ _ _).slots.size; rw [arrV_size]; exact hlt⟩ g1 (fun q h => by rw [g3] at h; cases h) (by rw [g2]; exact hkC) (by rw [g2]; exact va_assign hcls) rfl rfl hdg fun H1 e1 z oq => ?_
  refine kk H1 _ z (x_H_put hH hT (x_on_Q (v := some hv) hT hci) (fun j hj => x_off_Q hj) (fun hh ok => x_ok_Q hh (fun a ha => by cases ha; exact hH.2.2.1 _ _ hTv) ok) ?_ oq) (hS.put z oq (hH.dom hh))
  show H1[ad h]? = some (vp_cell _ _)
  rw [e1, vp_cell_q, vp_cell_q, arrV_store]
  congr 2
  funext q
  by_cases hq : q = i.toNatClampNeg
  · subst hq; simp [updV, va_up, va_rf]
  · simp [updV, va_up, hq]
end XZ
