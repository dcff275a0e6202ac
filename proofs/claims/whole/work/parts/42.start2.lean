/-! THE LAW'S START, second half: the entry's walk over what the pure part owes -/
def x_begin : Prop := ∀ a : Int32, ∃ (q1 q2 : x_T × Nat × x_W) (Sim : x_W → x_W → Prop), f_WD_init 1000 (x_uT x_T0 0 0 0) 1 x_w0 0 a = some q1 ∧ f_Mod_init 1000 (x_uT x_T0 0 10 0) 1 x_w0 0 a = some q2 ∧ (∃ n, q1.1 0 = some (0, n)) ∧ (∃ n, q2.1 0 = some (10, n)) ∧ Sim q1.2.2 q2.2.2 ∧ x_steps (x_uT q1.1 q1.2.1 101 1) q2.1 0 q1.2.1 0 Sim
theorem x_known {s : State} {args : Array Value} (hts : ∀ w ∈ x_tb, w.before args s = true) (hAo : x_Ao s) : ∃ (D : va_G) (aC : Nat → ClassId), va_K D x_cl (x_tys aC) s := by
  obtain ⟨c0, i0, k0⟩ := u_known hts i_WD (hts _ m_20)
  obtain ⟨c1, i1, k1⟩ := u_known hts i_Air (hts _ m_169)
  obtain ⟨c2, i2, k2⟩ := u_known hts i_Cell (hts _ m_228)
  obtain ⟨c3, i3, k3⟩ := u_known hts i_Corners (hts _ m_41)
  obtain ⟨c4, i4, k4⟩ := u_known hts i_Flow (hts _ m_275)
  obtain ⟨c5, i5, k5⟩ := u_known hts i_Material (hts _ m_35)
  obtain ⟨c6, i6, k6⟩ := u_known hts i_MouldRows (hts _ m_140)
  obtain ⟨c7, i7, k7⟩ := u_known hts i_Surroundings (hts _ m_87)
  obtain ⟨c8, i8, k8⟩ := u_known hts i_Trials (hts _ m_329)
  obtain ⟨c9, i9, k9⟩ := u_known hts i_Wall (hts _ m_162)
  obtain ⟨cM, iM, kM⟩ := u_known hts i_Mod (hts _ m_788)
  obtain ⟨a0, p0, q0⟩ := x_arrP (hts _ m_60)
  obtain ⟨a1, p1, q1⟩ := x_arrP (hts _ m_947)
  obtain ⟨a2, p2, q2⟩ := x_arrP (hts _ m_948)
  obtain ⟨a3, p3, q3⟩ := x_arrQ hAo.1
  obtain ⟨a4, p4, q4⟩ := x_arrQ hAo.2.1
  obtain ⟨a5, p5, q5⟩ := x_arrQ hAo.2.2
  refine ⟨(fun k => match k with | 0 => c0 | 1 => c1 | 2 => c2 | 3 => c3 | 4 => c4 | 5 => c5 | 6 => c6 | 7 => c7 | 8 => c8 | 9 => c9 | _ => cM, fun k => match k with | 0 => i0 | 1 => i1 | 2 => i2 | 3 => i3 | 4 => i4 | 5 => i5 | 6 => i6 | 7 => i7 | 8 => i8 | 9 => i9 | _ => iM), (fun k => if k = 100 then a0 else if k = 101 then a1 else if k = 102 then a2 else if k = 103 then a3 else if k = 104 then a4 else a5), fun k q hq => ?_, fun k q hq => ?_⟩
  · match k, hq with
    | 0, hq => cases hq; exact k0
    | 1, hq => cases hq; exact k1
    | 2, hq => cases hq; exact k2
    | 3, hq => cases hq; exact k3
    | 4, hq => cases hq; exact k4
    | 5, hq => cases hq; exact k5
    | 6, hq => cases hq; exact k6
    | 7, hq => cases hq; exact k7
    | 8, hq => cases hq; exact k8
    | 9, hq => cases hq; exact k9
    | 10, hq => cases hq; exact kM
    | k + 11, hq => cases hq
  · match k, hq with
    | 0, hq => cases hq; exact ⟨p0, q0⟩
    | 1, hq => cases hq; exact ⟨p1, q1⟩
    | 2, hq => cases hq; exact ⟨p2, q2⟩
    | 3, hq => cases hq; exact ⟨p3, q3⟩
    | 4, hq => cases hq; exact ⟨p4, q4⟩
    | 5, hq => cases hq; exact ⟨p5, q5⟩
    | k + 6, hq => cases hq
section XNc
variable {p : Program} {l : Launch} {e : Env} {R : Room} {s : State} {m : MethodId} {args : Array Value} {below : List Frame} {meth : Method} {c0 : Code} {H : Heap} {locs : List Loc} {cells slots : Nat} {Q : State → Prop}
variable {cc : ByteArray} {pc : Nat} {ls : Array Slot} {rest : List Value} {D : va_G} {cl : List vw_C} {FT : Nat → List (Nat × Nat)} {aC : Nat → ClassId} {ad : Nat → Nat} {T : x_T} {nx : Nat} {A : Nat → Prop} {w : x_W} {tys : List (ClassId × FieldType)} {H0 : Heap} {h ci n : Nat}
theorem x_new2 (hexec : p.tables.exec = Jvm.exec) (hb : c0.code = cc) {own C : String} {F : u_T} {N index : Nat} {Ts : List Cond} (hts : ∀ w ∈ Ts, w.before args s = true) (hin : ∀ w ∈ u_ws C F N, w ∈ Ts) (ty : Nat → FieldType) (hty : ∀ k, k < N → parseFieldDescriptor (F k).2.2.1 = some (ty k)) (hown : s.vm.findClass own = some m.cls) (hcl : (Cond.classLink own index C).before args s = true) (hinst : (Cond.instantiable C N).before args s = true) (hini : (Cond.initialized C).before args s = true)
    (hK : va_K D cl tys s) (hH : x_H D cl FT aC ad T nx A w H) (hS : va_S A H0 H locs) (hA : ∀ q, H0.size ≤ q → A q) (hz : H.size = ad nx) (hci : ci < 100) (hc : cl[ci]? = some (C, F, N)) (hfs : ∀ j, j < N → defaultValue (ty j) = vp_V ((FT ci).map x_dflt) j) (hcells : cells + 1 ≤ R.cells) (hslots : slots + N ≤ R.slots) (hdg : decode cc pc = .ok (.new index, 3))
    (kk : ∀ (H1 : Heap), H1.size = ad nx + 1 → x_H D cl FT aC ad (x_uT T nx ci 0) (nx + 1) A w H1 → va_S A H0 H1 locs → (∀ q, q < H.size → H1[q]? = H[q]?) → W p l e R s m args below meth c0 H1 locs (cells + 1) (slots + N) Q (F0 m (pc + 3) ls (.ref (ad nx) :: rest))) : W p l e R s m args below meth c0 H locs cells slots Q (F0 m pc ls rest) := by
  have hKn := hK.1 ci _ hc
  refine W.newcK hexec hb hown hcl hinst hini rfl hdg hcells hslots hKn.2.1 hz fun H1 kC hkC e1 z1 o1 => ?_
  have o2 : ∀ q, q < H.size → H1[q]? = H[q]? := fun q hq => o1 q (hz ▸ hq)
  refine kk H1 z1 (x_H_push hH hz (hA _ (hz ▸ hS.1)) o2 ?_) ⟨Nat.le_trans hS.1 (by omega), fun x h1 h2 => (o2 x (Nat.lt_of_lt_of_le h1 hS.1)).trans (hS.2.1 x h1 h2), hS.2.2⟩ o2
  rw [x_cell_o (c := ci) (n := 0) (by simp [x_uT]) hci, show (FT ci).map (x_fld ad w nx) = (FT ci).map x_dflt from List.map_congr_left (fun kd _ => x_fld_new hH kd)]
  exact ⟨_, hc, (u_born ty hts hin hKn hkC e1 hty).to hfs⟩
theorem x_newa2 (hexec : p.tables.exec = Jvm.exec) (hb : c0.code = cc) (harr : (Cond.arrayClass .long).before args s = true) (hK : va_K D cl tys s) (hH : x_H D cl FT aC ad T nx A w H) (hS : va_S A H0 H locs) (hA : ∀ q, H0.size ≤ q → A q) (hz : H.size = ad nx)
    (t0 : Nat) (ht : tys[t0]? = some (aC 101, .long)) {k : Int32} {N : Nat} (hn : ¬ k < 0) (hN : k.toNatClampNeg = N) (hbytes : N * 8 ≤ 536870912) (hcells : cells + 1 ≤ R.cells) (hslots : slots + N ≤ R.slots) (hdg : decode cc pc = .ok (.newarray .long, 2))
    (kk : ∀ (H1 : Heap), H1.size = ad nx + 1 → x_H D cl FT aC ad (x_uT T nx 101 N) (nx + 1) A w H1 → va_S A H0 H1 locs → (∀ q, q < H.size → H1[q]? = H[q]?) → W p l e R s m args below meth c0 H1 locs (cells + 1) (slots + N) Q (F0 m (pc + 2) ls (.ref (ad nx) :: rest))) : W p l e R s m args below meth c0 H locs cells slots Q (F0 m pc ls (.int k :: rest)) := by
  refine va_newaK (atype := .long) hexec hb harr rfl hdg rfl hn hN hbytes hcells hslots hz fun H1 cA e1 z1 o1 hAr hNm => ?_
  have o2 : ∀ q, q < H.size → H1[q]? = H[q]? := fun q hq => o1 q (hz ▸ hq)
  have hcA : aC 101 = cA := Option.some.inj ((hK.2 t0 _ ht).2.symm.trans hNm)
  refine kk H1 z1 (x_H_push hH hz (hA _ (hz ▸ hS.1)) o2 ?_) ⟨Nat.le_trans hS.1 (by omega), fun x h1 h2 => (o2 x (Nat.lt_of_lt_of_le h1 hS.1)).trans (hS.2.1 x h1 h2), hS.2.2⟩ o2
  rw [x_cell_b (n := N) (by simp [x_uT])]
  show H1[ad nx]? = some (vp_cell _ _)
  rw [e1, show defaultValue (newarray.typeOf .long) = .long 0 from rfl, vp_cell_l, hcA]
  congr 2
  funext j
  rw [(hH.2.2.2.1 nx (Nat.le_refl _) j).2.2.2.2.1]
end XNc
theorem x_cellPre {s : State} {H : Heap} {b L : Nat} {xs : Nat → Int32} (hX : va_X b L xs s H) : PreS s H (va_Pc [.ref b, .int 0] (fun U => va_X b L xs U U.heap)) [.ref b, .int 0] :=
  ⟨fun a U g mk q => ⟨q.1, va_X.moved (u := U) (U := U.calling g mk a) (Vm.Alike.refl U.vm) q.2⟩, fun U hU hW => ⟨rfl, by show va_X b L xs U U.heap; rw [hU]; exact hX.moved hW.alike⟩⟩
set_option maxHeartbeats 4000000 in
theorem whole_start {p : Program} {e : Env} {s : State} {m : MethodId} {below : List Frame} {meth : Method} {c : Code} (l : Launch) {b L : Nat} {xs : Nat → Int32} (hfl : l.flags = pinnedFlags ++ [noTraceFlag]) (hbeg : x_begin) (hL : L ≤ 3073) (C0 : lw_At p s m meth c b L xs) : W p l e room_1 s m #[Value.ref b] below meth c s.heap [] 0 0 (lw_Z below #[Value.ref b] s) (entryFrame m ([Value.ref b] : List Value).toArray 8) := by
  obtain ⟨hFx, hTf, hN, hAo⟩ := law_facts C0
  obtain ⟨hx, hb, hr, hml, hown, hts0, hXs, hbl, hlocks, hgv⟩ := id C0
  have hown : s.vm.findClass "WallDampLaw" = some m.cls := hown
  have hts : ∀ w ∈ x_tb, w.before #[Value.ref b] s = true := fun w h => hts0 w (x_tb_in h)
  obtain ⟨D, aC, hK⟩ := x_known hts hAo
  have hA : ∀ q : Nat, s.heap.size ≤ q → (fun q : Nat => s.heap.size ≤ q) q := fun _ h => h
  have hbA : ¬ (fun q : Nat => s.heap.size ≤ q) b := Nat.not_le.mpr hbl
  have hS : va_S (fun q : Nat => s.heap.size ≤ q) s.heap s.heap [] := va_S.rf
  have hl := lv_entry ([Value.ref b]) (n := 8) (Nat.le_of_ble_eq_true rfl)
  rw [lg_entry_eq]
  generalize (lg_sl ([Value.ref b]) ++ List.replicate (8 - (lg_sl ([Value.ref b])).length) Slot.unset).toArray = ls at hl ⊢
  have hl : lv_has ls 8 [(0, .ref b)] := hl
  generalize ha : (if nI L ≤ 0 then (0 : Int32) else xs (0 : Int32).toNatClampNeg) = a
  have hcell := c_Law_cell l b L xs hL
  rw [ha] at hcell
  obtain ⟨q1, q2, Sim, e1, e2, ⟨n1, t1⟩, ⟨n2, t2⟩, hsim, HS⟩ := hbeg a
  have hXk : ∀ {H : Heap} {locs : List Loc}, va_S (fun q : Nat => s.heap.size ≤ q) s.heap H locs → va_X b L xs s H := fun hS => hXs.kept (hS.2.1 b hbl hbA)
  -- the class's world
  have hH0 : x_H D x_cl x_FT aC (fun h => s.heap.size + h) x_T0 0 (fun q : Nat => s.heap.size ≤ q) x_w0 s.heap := x_H_0
  refine x_new2 (C := "WallDamp") (F := F_WD) (N := 8) (ci := 0) hx hb hts i_WD t_WD ty_WD hown (hts _ m_19) (hts _ m_20) (hts _ m_1) hK hH0 hS hA rfl (by decide) rfl df_WD (by decide) (by decide) d_Law_law_0 (fun H hz hH hS _ => ?_)
  refine lv_dup hx hb d_Law_law_3 rfl ?_
  refine lv_aload_n hx hb d_Law_law_4 rfl (lv_at hl 0 rfl) ?_
  refine lv_iconst (v := 0) hx hb d_Law_law_5 (by decide) ?_
  refine x_callP (st1 := [.int a, .ref (s.heap.size + 0), .ref (s.heap.size + 0)]) (va_runS (As := [.ref b, .int 0]) (rest := [.ref (s.heap.size + 0), .ref (s.heap.size + 0)]) ⟨hx, hb, hml, hown, hts⟩ hcell (va_cwS 2 hts (x_gS m_374 m_375 m_0 m_376) rfl rfl rfl pd_Law_cell ⟨Nat.le_of_ble_eq_true rfl, Nat.le_of_ble_eq_true rfl⟩) (x_cellPre (hXk hS)) rfl rfl hl.1 rfl (lv_room (Nat.le_of_ble_eq_true rfl)) d_Law_law_6 ⟨by decide, by decide⟩) rfl ?_
  refine x_callN2 (va_runI (As := [.int a]) (rest := [.ref (s.heap.size + 0)]) ⟨hx, hb, hml, hown, hts⟩ (c_WD_init l D aC (fun h => s.heap.size + h) 1000 (fun i _ => rfl) (x_uT x_T0 0 0 0) 1 x_w0 0 a q1 e1) (cwI 1 hts (x_gI m_23) rfl rfl rfl (hts _ m_1) (hts _ m_21) (hts _ m_22) rfl pd_WD_init ⟨Nat.le_of_ble_eq_true rfl, Nat.le_of_ble_eq_true rfl⟩) (x_preN hz hH hK hFx hAo) rfl rfl hl.1 rfl (lv_room (Nat.le_of_ble_eq_true rfl)) d_Law_law_9 ⟨by decide, by decide⟩) hz hH hA hS (fun H locs hz hH hS _ => ?_)
  have hK1 : 0 < q1.2.1 := hH.2.2.1 _ _ t1
  refine lv_astore_n (lv' := [(1, .ref (s.heap.size + 0)), (0, .ref b)]) hx hb d_Law_law_12 rfl hl (by decide) rfl (fun ls hl => ?_)
  -- the reference's world
  generalize hk1 : q1.2.1 = K1 at *
  have hG0 : x_H D x_cl x_FT aC (fun h => s.heap.size + K1 + h) x_T0 0 (fun q : Nat => s.heap.size ≤ q) x_w0 H := x_H_0
  refine x_new2 (C := "WallDampModel") (F := F_Mod) (N := 51) (ci := 10) hx hb hts i_Mod t_Mod ty_Mod hown (hts _ m_787) (hts _ m_788) (hts _ m_13) hK hG0 hS hA hz (by decide) rfl df_Mod (by decide) (by decide) d_Law_law_13 (fun H1 hz1 hG hS o1 => ?_)
  have hH : x_H D x_cl x_FT aC (fun h => s.heap.size + h) q1.1 K1 (fun q : Nat => s.heap.size ≤ q) q1.2.2 H1 := hH.kept (fun i hi => o1 _ (hH.lt hi))
  refine lv_dup hx hb d_Law_law_16 rfl ?_
  refine lv_aload_n hx hb d_Law_law_17 rfl (lv_at hl 1 rfl) ?_
  refine lv_iconst (v := 0) hx hb d_Law_law_18 (by decide) ?_
  refine x_callP (st1 := [.int a, .ref (s.heap.size + K1 + 0), .ref (s.heap.size + K1 + 0)]) (va_runS (As := [.ref b, .int 0]) (rest := [.ref (s.heap.size + K1 + 0), .ref (s.heap.size + K1 + 0)]) ⟨hx, hb, hml, hown, hts⟩ hcell (va_cwS 2 hts (x_gS m_374 m_375 m_0 m_376) rfl rfl rfl pd_Law_cell ⟨Nat.le_of_ble_eq_true rfl, Nat.le_of_ble_eq_true rfl⟩) (x_cellPre (hXk hS)) rfl rfl hl.1 rfl (lv_room (Nat.le_of_ble_eq_true rfl)) d_Law_law_19 ⟨by decide, by decide⟩) rfl ?_
  refine x_callN2 (va_runI (As := [.int a]) (rest := [.ref (s.heap.size + K1 + 0)]) ⟨hx, hb, hml, hown, hts⟩ (c_Mod_init l D aC (fun h => s.heap.size + K1 + h) 1000 (fun i _ => rfl) (x_uT x_T0 0 10 0) 1 x_w0 0 a q2 e2) (cwI 1 hts (x_gI m_791) rfl rfl rfl (hts _ m_13) (hts _ m_789) (hts _ m_790) rfl pd_Mod_init ⟨Nat.le_of_ble_eq_true rfl, Nat.le_of_ble_eq_true rfl⟩) (x_preN hz1 hG hK hFx hAo) rfl rfl hl.1 rfl (lv_room (Nat.le_of_ble_eq_true rfl)) d_Law_law_22 ⟨by decide, by decide⟩) hz1 hG hA hS (fun H2 locs2 hz2 hG hS hk2 => ?_)
  have hH : x_H D x_cl x_FT aC (fun h => s.heap.size + h) q1.1 K1 (fun q : Nat => s.heap.size ≤ q) q1.2.2 H2 := hH.kept (fun i hi => hk2 _ (hH.lt hi) (fun q => by
    rcases q with ⟨j, hj, q⟩ | q
    · have q : s.heap.size + i = s.heap.size + K1 + j := q
      omega
    · have := hH.lt hi
      omega))
  refine lv_astore_n (lv' := [(2, .ref (s.heap.size + K1 + 0)), (1, .ref (s.heap.size + 0)), (0, .ref b)]) hx hb d_Law_law_25 rfl hl (by decide) rfl (fun ls hl => ?_)
  -- out
  obtain ⟨ad1, hAd⟩ : ∃ f : Nat → Nat, f = fun h => if h < K1 then s.heap.size + h else s.heap.size + K1 + q2.2.1 + (h - K1) := ⟨_, rfl⟩
  have hH : x_H D x_cl x_FT aC ad1 q1.1 K1 (fun q : Nat => s.heap.size ≤ q) q1.2.2 H2 := hH.readdr (fun h hh => by rw [hAd]; exact if_pos hh)
  have hz3 : H2.size = ad1 K1 := by
    rw [hAd]
    simp only [Nat.lt_irrefl, if_false, Nat.sub_self, Nat.add_zero]
    exact hz2
  refine lv_iconst (v := 1) hx hb d_Law_law_26 (by decide) ?_
  refine x_newa2 (N := 1) hx hb (hts _ m_947) hK hH hS hA hz3 1 rfl (by decide) (by decide) (by decide) (by decide) (by decide) d_Law_law_27 (fun H3 hz4 hH hS o3 => ?_)
  have hG := hG.kept (H1 := H3) (fun i hi => o3 _ (hG.lt hi))
  have ea0 : ad1 0 = s.heap.size + 0 := by rw [hAd]; exact if_pos hK1
  refine lv_astore_n (lv' := [(3, .ref (ad1 K1)), (2, .ref (s.heap.size + K1 + 0)), (1, .ref (s.heap.size + 0)), (0, .ref b)]) hx hb d_Law_law_29 rfl hl (by decide) rfl (fun ls hl => ?_)
  refine lv_iconst (v := 1) hx hb d_Law_law_30 (by decide) ?_
  refine lv_istore (lv' := [(4, .int 1), (3, .ref (ad1 K1)), (2, .ref (s.heap.size + K1 + 0)), (1, .ref (s.heap.size + 0)), (0, .ref b)]) hx hb d_Law_law_31 hl (by decide) rfl (fun ls hl => ?_)
  have hap : ∀ i j, i < K1 + 1 → j < q2.2.1 → ad1 i ≠ (fun h => s.heap.size + K1 + h) j := fun i j hi hj => by
    rw [hAd]
    show (if i < K1 then s.heap.size + i else s.heap.size + K1 + q2.2.1 + (i - K1)) ≠ s.heap.size + K1 + j
    split <;> omega
  exact law_loop (X := 0) (O := K1) (Mo := 0) (nX := n1) (nM := n2) hL C0 hfl hK hFx hTf hN (by simp [x_uT, show ¬ (0 = K1) by omega, t1]) (by simp [x_uT]) t2 hap HS (L + 6) 1 _ _ q1.2.2 q2.2.2 H3 _ ls (by omega) (by omega) (by omega) (by omega) hsim hH hG hS (lv_sub (l' := [(0, .ref b), (1, .ref (ad1 0)), (2, .ref ((fun h => s.heap.size + K1 + h) 0)), (3, .ref (ad1 K1)), (4, .int (nI 1))]) hl [4, 3, 2, 1, 0] (by rw [ea0]; rfl))
