/-- one step of the law, case by case: what the pure part owes -/
def x_step0 (T1 T2 : x_T) (X O Mo : Nat) (Sim : x_W → x_W → Prop) : Prop := ∀ w1 w2 (p1 p2 p3 : Int32), Sim w1 w2 → ∃ r1 r2, f_Law_curve T1 w1 X p1 p2 p3 O = some r1 ∧ f_Mod_curve T2 w2 Mo p1 p2 p3 = some r2 ∧ f_Mod_thrown T2 r2.2 Mo = some r1.1 ∧ (r1.1 = 0 → x_B r1.2 O (0 : Int32).toNatClampNeg = r2.1.toInt64) ∧ Sim r1.2 r2.2
def x_step1 (T1 T2 : x_T) (X O Mo : Nat) (Sim : x_W → x_W → Prop) : Prop := ∀ w1 w2 (p1 p2 p3 p4 : Int32), Sim w1 w2 → ∃ r1 r2, f_Law_rates T1 w1 X p1 p2 p3 p4 = some r1 ∧ f_Mod_rates T2 w2 Mo p1 p2 p3 p4 = some r2 ∧ f_Mod_thrown T2 r2 Mo = some r1.1 ∧ Sim r1.2 r2
def x_step2 (T1 T2 : x_T) (X O Mo : Nat) (Sim : x_W → x_W → Prop) : Prop := ∀ w1 w2 (p1 p2 p3 : Int32), Sim w1 w2 → ∃ r1 r2, f_Law_cell1 T1 w1 X p1 p2 p3 = some r1 ∧ f_Mod_cell T2 w2 Mo p1 p2 p3 = some r2 ∧ f_Mod_thrown T2 r2 Mo = some r1.1 ∧ Sim r1.2 r2
def x_step3 (T1 T2 : x_T) (X O Mo : Nat) (Sim : x_W → x_W → Prop) : Prop := ∀ w1 w2 (p1 p2 : Int32), Sim w1 w2 → ∃ r1 r2, f_Law_table T1 w1 X p1 p2 O = some r1 ∧ f_Mod_table T2 w2 Mo p1 p2 = some r2 ∧ f_Mod_thrown T2 r2.2 Mo = some r1.1 ∧ (r1.1 = 0 → x_B r1.2 O (0 : Int32).toNatClampNeg = r2.1.toInt64) ∧ Sim r1.2 r2.2
def x_step4 (T1 T2 : x_T) (X O Mo : Nat) (Sim : x_W → x_W → Prop) : Prop := ∀ w1 w2 (p1 : Int32), Sim w1 w2 → ∃ r1 r2, f_Law_full T1 w1 X p1 O = some r1 ∧ f_Mod_full T2 w2 Mo p1 = some r2 ∧ f_Mod_thrown T2 r2.2 Mo = some r1.1 ∧ (r1.1 = 0 → x_B r1.2 O (0 : Int32).toNatClampNeg = r2.1.toInt64) ∧ Sim r1.2 r2.2
def x_step5 (T1 T2 : x_T) (X O Mo : Nat) (Sim : x_W → x_W → Prop) : Prop := ∀ w1 w2 (p1 p2 : Int32), Sim w1 w2 → ∃ r1 r2, f_Law_films T1 w1 X p1 p2 = some r1 ∧ f_Mod_films T2 w2 Mo p1 p2 = some r2 ∧ f_Mod_thrown T2 r2 Mo = some r1.1 ∧ Sim r1.2 r2
def x_step6 (T1 T2 : x_T) (X O Mo : Nat) (Sim : x_W → x_W → Prop) : Prop := ∀ w1 w2 (p1 p2 p3 p4 p5 : Int32), Sim w1 w2 → ∃ r1 r2, f_Law_outside T1 w1 X p1 p2 p3 p4 p5 = some r1 ∧ f_Mod_outside T2 w2 Mo p1 p2 p3 p4 p5 = some r2 ∧ f_Mod_thrown T2 r2 Mo = some r1.1 ∧ Sim r1.2 r2
def x_step7 (T1 T2 : x_T) (X O Mo : Nat) (Sim : x_W → x_W → Prop) : Prop := ∀ w1 w2 (p1 p2 p3 : Int32), Sim w1 w2 → ∃ r1 r2, f_Law_inside T1 w1 X p1 p2 p3 = some r1 ∧ f_Mod_inside T2 w2 Mo p1 p2 p3 = some r2 ∧ f_Mod_thrown T2 r2 Mo = some r1.1 ∧ Sim r1.2 r2
def x_step8 (T1 T2 : x_T) (X O Mo : Nat) (Sim : x_W → x_W → Prop) : Prop := ∀ w1 w2 (p1 p2 : Int32), Sim w1 w2 → ∃ r1 r2, f_Law_water T1 w1 X p1 p2 O = some r1 ∧ f_Mod_water T2 w2 Mo p1 p2 = some r2 ∧ f_Mod_thrown T2 r2.2 Mo = some r1.1 ∧ (r1.1 = 0 → x_B r1.2 O (0 : Int32).toNatClampNeg = r2.1.toInt64) ∧ Sim r1.2 r2.2
def x_step9 (T1 T2 : x_T) (X O Mo : Nat) (Sim : x_W → x_W → Prop) : Prop := ∀ w1 w2 (p1 p2 : Int32), Sim w1 w2 → ∃ r1 r2, f_Law_leak T1 w1 X p1 p2 O = some r1 ∧ f_Mod_leak T2 w2 Mo p1 p2 = some r2 ∧ f_Mod_thrown T2 r2.2 Mo = some r1.1 ∧ (r1.1 = 0 → x_B r1.2 O (0 : Int32).toNatClampNeg = r2.1.toInt64) ∧ Sim r1.2 r2.2
def x_step10 (T1 T2 : x_T) (X O Mo : Nat) (Sim : x_W → x_W → Prop) : Prop := ∀ w1 w2 (p1 p2 p3 p4 : Int32), Sim w1 w2 → ∃ r1 r2, f_Law_growth T1 w1 X p1 p2 p3 p4 O = some r1 ∧ f_Mod_growth T2 w2 Mo p1 p2 p3 p4 = some r2 ∧ f_Mod_thrown T2 r2.2 Mo = some r1.1 ∧ (r1.1 = 0 → x_B r1.2 O (0 : Int32).toNatClampNeg = r2.1.toInt64) ∧ Sim r1.2 r2.2
def x_step11 (T1 T2 : x_T) (X O Mo : Nat) (Sim : x_W → x_W → Prop) : Prop := ∀ w1 w2 (p1 : Int32), Sim w1 w2 → ∃ r1 r2, f_Law_run T1 w1 X p1 O = some r1 ∧ f_Mod_run T2 w2 Mo p1 = some r2 ∧ f_Mod_thrown T2 r2.2 Mo = some r1.1 ∧ (r1.1 = 0 → x_B r1.2 O (0 : Int32).toNatClampNeg = r2.1.toInt64) ∧ Sim r1.2 r2.2
def x_step12 (T1 T2 : x_T) (X O Mo : Nat) (Sim : x_W → x_W → Prop) : Prop := ∀ w1 w2 (p1 p2 : Int32), Sim w1 w2 → ∃ r1 r2, f_Law_told T1 w1 X p1 p2 O = some r1 ∧ f_Mod_told T2 w2 Mo p1 p2 = some r2 ∧ f_Mod_thrown T2 r2.2 Mo = some r1.1 ∧ (r1.1 = 0 → x_B r1.2 O (0 : Int32).toNatClampNeg = r2.1.toInt64) ∧ Sim r1.2 r2.2
def x_step13 (T1 T2 : x_T) (X O Mo : Nat) (Sim : x_W → x_W → Prop) : Prop := ∀ w1 w2 (p1 : Int32), Sim w1 w2 → ∃ r1 r2, f_Law_balance T1 w1 X p1 O = some r1 ∧ f_Mod_balance T2 w2 Mo p1 = some r2 ∧ f_Mod_thrown T2 r2.2 Mo = some r1.1 ∧ (r1.1 = 0 → x_B r1.2 O (0 : Int32).toNatClampNeg = r2.1) ∧ Sim r1.2 r2.2
def x_step14 (T1 T2 : x_T) (X O Mo : Nat) (Sim : x_W → x_W → Prop) : Prop := ∀ w1 w2, Sim w1 w2 → ∃ r w2', f_WD_mould T1 w1 X = some r ∧ f_Mod_mould T2 w2 Mo = some (r, w2') ∧ Sim w1 w2'
def x_step15 (T1 T2 : x_T) (X O Mo : Nat) (Sim : x_W → x_W → Prop) : Prop := ∀ w1 w2 (p1 p2 : Int32), Sim w1 w2 → ∃ r1 r2, f_Law_order T1 w1 X p1 p2 O = some r1 ∧ f_Mod_order T2 w2 Mo p1 p2 = some r2 ∧ f_Mod_thrown T2 r2.2 Mo = some r1.1 ∧ (r1.1 = 0 → x_B r1.2 O (0 : Int32).toNatClampNeg = r2.1.toInt64) ∧ Sim r1.2 r2.2
def x_steps (T1 T2 : x_T) (X O Mo : Nat) (Sim : x_W → x_W → Prop) : Prop := x_step0 T1 T2 X O Mo Sim ∧ x_step1 T1 T2 X O Mo Sim ∧ x_step2 T1 T2 X O Mo Sim ∧ x_step3 T1 T2 X O Mo Sim ∧ x_step4 T1 T2 X O Mo Sim ∧ x_step5 T1 T2 X O Mo Sim ∧ x_step6 T1 T2 X O Mo Sim ∧ x_step7 T1 T2 X O Mo Sim ∧ x_step8 T1 T2 X O Mo Sim ∧ x_step9 T1 T2 X O Mo Sim ∧ x_step10 T1 T2 X O Mo Sim ∧ x_step11 T1 T2 X O Mo Sim ∧ x_step12 T1 T2 X O Mo Sim ∧ x_step13 T1 T2 X O Mo Sim ∧ x_step14 T1 T2 X O Mo Sim ∧ x_step15 T1 T2 X O Mo Sim
theorem x_preW {s : State} {H : Heap} {D : va_G} {aC : Nat → ClassId} {ad : Nat → Nat} {T : x_T} {nx : Nat} {w : x_W} {A : Nat → Prop} {As : List Value} {locs : List Loc} (hS : va_S (fun q : Nat => s.heap.size ≤ q) s.heap H locs) (hH : x_H D x_cl x_FT aC ad T nx A w H) (hK : va_K D x_cl (x_tys aC) s) (hX : x_Fx s) (hTf : x_Tf s) (hN : va_Nc (x_en 2) (x_en 1) s) : PreS s H (x_Pw D aC ad T nx H.size w As) As :=
  ⟨x_blindW, fun U hU hW => ⟨rfl, ⟨⟨by rw [hU], by rw [hU]; exact hH.weaken (fun _ _ _ => trivial), va_K.moved hW.alike hK, hX.warm hW⟩, hTf.grow hW (fun a cell hc => by
    have hlt : a < s.heap.size := (Array.getElem?_eq_some_iff.mp hc).1
    rw [hU, hS.2.1 a hlt (by omega)]
    exact hc)⟩, hN.moved hW.alike⟩⟩
theorem x_v01 : vp_in (0 : Int32) 1 := vp_in_iff.mpr ⟨by decide, by decide⟩
theorem x_lsub {L i : Nat} (hL : L ≤ 3073) (hi : i ≤ 4000) (h : ¬ (nI L - 6 < nI i)) : i + 6 ≤ L := by
  rcases Nat.lt_or_ge L (i + 6) with q | q
  · exfalso
    apply h
    rw [Int32.lt_iff_toInt_lt, show (6 : Int32) = nI 6 from rfl, pk_sub_toInt (by omega) (by omega), nI_toInt (by omega)]
    omega
  · exact q
theorem x_vin {L i : Nat} (k : Nat) (hL : L ≤ 3073) (h : i + k < L) : vp_in (nI i + nI k) L := by rw [nI_add]; exact vp_in_nI h (by omega)
set_option maxHeartbeats 8000000 in
set_option maxRecDepth 100000 in
theorem law_loop {p : Program} {l : Launch} {e : Env} {s : State} {m : MethodId} {below : List Frame} {meth : Method} {c : Code} {D : va_G} {aC : Nat → ClassId} {b L : Nat} {xs : Nat → Int32} {T1 T2 : x_T} {nx1 nx2 X O Mo nX nM : Nat} {ad1 ad2 : Nat → Nat} {Sim : x_W → x_W → Prop} (hL : L ≤ 3073) (C0 : lw_At p s m meth c b L xs) (hfl : l.flags = pinnedFlags ++ [noTraceFlag]) (hK : va_K D x_cl (x_tys aC) s) (hX : x_Fx s) (hTf : x_Tf s) (hN : va_Nc (x_en 2) (x_en 1) s) (hTX : T1 X = some (0, nX)) (hTO : T1 O = some (101, 1)) (hTM : T2 Mo = some (10, nM)) (hap : ∀ i j, i < nx1 → j < nx2 → ad1 i ≠ ad2 j) (HS : x_steps T1 T2 X O Mo Sim) : ∀ (n i cn sl : Nat) (w1 w2 : x_W) (H : Heap) (locs : List Loc) (ls : Array Slot), i ≤ L + 6 → L + 7 ≤ i + n → cn ≤ 2000 + i → sl ≤ 20000 + 6 * i → Sim w1 w2 → x_H D x_cl x_FT aC ad1 T1 nx1 (fun q : Nat => s.heap.size ≤ q) w1 H → x_H D x_cl x_FT aC ad2 T2 nx2 (fun q : Nat => s.heap.size ≤ q) w2 H → va_S (fun q : Nat => s.heap.size ≤ q) s.heap H locs → lv_has ls 8 [(0, .ref b), (1, .ref (ad1 X)), (2, .ref (ad2 Mo)), (3, .ref (ad1 O)), (4, .int (nI i))] → W p l e room_1 s m #[Value.ref b] below meth c H locs cn sl (lw_Z below #[Value.ref b] s) (F0 m 33 ls []) := by
  obtain ⟨hx, hb, hr, hml, hown, hts0, hXs, hbl, hlocks, hgv⟩ := id C0
  have hown : s.vm.findClass "WallDampLaw" = some m.cls := hown
  have hts : ∀ w ∈ x_tb, w.before #[Value.ref b] s = true := fun w h => hts0 w (x_tb_in h)
  have hA : ∀ q : Nat, s.heap.size ≤ q → (fun q : Nat => s.heap.size ≤ q) q := fun _ h => h
  have hbA : ¬ (fun q : Nat => s.heap.size ≤ q) b := Nat.not_le.mpr hbl
  obtain ⟨s0, s1, s2, s3, s4, s5, s6, s7, s8, s9, s10, s11, s12, s13, s14, s15⟩ := HS
  intro n
  induction n with
  | zero => intro i cn sl w1 w2 H locs ls h1 h2; exact absurd h2 (by omega)
  | succ n ih =>
    intro i cn sl w1 w2 H locs ls hi hin hcn hsl hSim hH1 hH2 hS hl
    refine lv_iload hx hb d_Law_law_33 (lv_at hl 4 rfl) ?_
    refine lv_aload_n hx hb d_Law_law_35 rfl (lv_at hl 0 rfl) ?_
    refine va_slen hx hb hXs hbl hbA hS d_Law_law_36 ?_
    refine lv_bipush (v := 6) hx hb d_Law_law_37 (by decide) ?_
    refine lv_isub hx hb d_Law_law_39 ?_
    refine lv_icmp_gt (tgt := 1150) hx hb d_Law_law_40 (by decide) (fun c1 => ?_) (fun c1 => ?_)
    · refine lv_iconst (v := 1) hx hb d_Law_law_1150 (by decide) ?_
      refine va_forget (fun q hq => hS.2.2 q hq) ?_
      refine W.widen (k := 615714) (n := 7248928) (by omega) (by omega) ?_
      exact lw_ret hx hb hr hlocks d_Law_law_1151
    · have h6 : i + 6 ≤ L := x_lsub hL (by omega) c1
      have v1 : vp_in (nI i + 1) L := x_vin 1 hL (by omega)
      have v2 : vp_in (nI i + 2) L := x_vin 2 hL (by omega)
      have v3 : vp_in (nI i + 3) L := x_vin 3 hL (by omega)
      have v4 : vp_in (nI i + 4) L := x_vin 4 hL (by omega)
      have v5 : vp_in (nI i + 5) L := x_vin 5 hL (by omega)
      have v0 : vp_in (nI i) L := vp_in_nI (by omega) (by omega)
      have tail : ∀ (cn sl : Nat) (w1 w2 : x_W) (H : Heap) (locs : List Loc) (ls : Array Slot), cn ≤ 2000 + i + 6 → sl ≤ 20000 + 6 * i + 36 → Sim w1 w2 → x_H D x_cl x_FT aC ad1 T1 nx1 (fun q : Nat => s.heap.size ≤ q) w1 H → x_H D x_cl x_FT aC ad2 T2 nx2 (fun q : Nat => s.heap.size ≤ q) w2 H → va_S (fun q : Nat => s.heap.size ≤ q) s.heap H locs → lv_has ls 8 [(0, .ref b), (1, .ref (ad1 X)), (2, .ref (ad2 Mo)), (3, .ref (ad1 O)), (4, .int (nI i))] → W p l e room_1 s m #[Value.ref b] below meth c H locs cn sl (lw_Z below #[Value.ref b] s) (F0 m 1144 ls []) := by
        intro cn sl w1 w2 H locs ls hcn hsl hSim hH1 hH2 hS hl
        refine lv_iinc (v := nI (i + 6)) (lv' := [(4, .int (nI (i + 6))), (0, .ref b), (1, .ref (ad1 X)), (2, .ref (ad2 Mo)), (3, .ref (ad1 O))]) hx hb d_Law_law_1144 hl (k := 4) rfl (by rw [show Int32.ofInt 6 = nI 6 from rfl, nI_add]) (by decide) rfl (fun ls hl => ?_)
        refine lv_goto (tgt := 33) hx hb d_Law_law_1147 (by decide) ?_
        exact ih (i + 6) cn sl w1 w2 H locs ls (by omega) (by omega) (by omega) (by omega) hSim hH1 hH2 hS (lv_sub hl [1, 2, 3, 4, 0] rfl)
      refine lv_aload_n hx hb d_Law_law_43 rfl (lv_at hl 0 rfl) ?_
      refine lv_iload hx hb d_Law_law_44 (lv_at hl 4 rfl) ?_
      refine va_sld hx hb hXs hbl hbA hS v0 d_Law_law_46 ?_
      refine lv_bipush (v := 15) hx hb d_Law_law_47 (by decide) ?_
      refine lv_iand hx hb d_Law_law_49 ?_
      generalize hv : xs (nI i).toNatClampNeg &&& 15 = v
      by_cases c20 : v = 0
      · refine x_tin (k := 0) (off := 78) (tgt := 128) c20 hx hb d_Law_law_50 (by decide) (by decide) rfl (by decide) ?_
        obtain ⟨r1, r2, e1, e2, e3, e4, hSim⟩ := s0 w1 w2 (xs (nI i + 1).toNatClampNeg) (xs (nI i + 2).toNatClampNeg) (xs (nI i + 3).toNatClampNeg) hSim
        refine lv_aload_n hx hb d_Law_law_128 rfl (lv_at hl 1 rfl) ?_
        refine lv_aload_n hx hb d_Law_law_129 rfl (lv_at hl 0 rfl) ?_
        refine lv_iload hx hb d_Law_law_130 (lv_at hl 4 rfl) ?_
        refine lv_iconst (v := 1) hx hb d_Law_law_132 (by decide) ?_
        refine lv_iadd hx hb d_Law_law_133 ?_
        refine va_sld hx hb hXs hbl hbA hS v1 d_Law_law_134 ?_
        refine lv_aload_n hx hb d_Law_law_135 rfl (lv_at hl 0 rfl) ?_
        refine lv_iload hx hb d_Law_law_136 (lv_at hl 4 rfl) ?_
        refine lv_iconst (v := 2) hx hb d_Law_law_138 (by decide) ?_
        refine lv_iadd hx hb d_Law_law_139 ?_
        refine va_sld hx hb hXs hbl hbA hS v2 d_Law_law_140 ?_
        refine lv_aload_n hx hb d_Law_law_141 rfl (lv_at hl 0 rfl) ?_
        refine lv_iload hx hb d_Law_law_142 (lv_at hl 4 rfl) ?_
        refine lv_iconst (v := 3) hx hb d_Law_law_144 (by decide) ?_
        refine lv_iadd hx hb d_Law_law_145 ?_
        refine va_sld hx hb hXs hbl hbA hS v3 d_Law_law_146 ?_
        refine lv_aload_n hx hb d_Law_law_147 rfl (lv_at hl 3 rfl) ?_
        refine x_callW (st1 := [.int r1.1]) (x_runSW (n := 5) (As := [.ref (ad1 X), .int (xs (nI i + 1).toNatClampNeg), .int (xs (nI i + 2).toNatClampNeg), .int (xs (nI i + 3).toNatClampNeg), .ref (ad1 O)]) (rest := []) ⟨hx, hb, hml, hown, hts⟩ (c_Law_curve l hfl D aC ad1 T1 nx1 H.size w1 X (xs (nI i + 1).toNatClampNeg) (xs (nI i + 2).toNatClampNeg) (xs (nI i + 3).toNatClampNeg) O r1 e1) rfl rfl (Nat.le_of_ble_eq_true rfl) (Nat.le_of_ble_eq_true rfl) m_377 m_378 m_0 m_379 (by decide +kernel) (x_preW hS hH1 hK hX hTf hN) rfl rfl hl.1 rfl (lv_room (Nat.le_of_ble_eq_true rfl)) d_Law_law_148 ⟨by show _ ≤ 615714; omega, by show _ ≤ 7248928; omega⟩) rfl hH1 hA hS (fun H locs hH1 hS hsz hk => ?_)
        have hH2 := hH2.other hap hk
        refine lv_istore (lv' := [(5, .int r1.1), (0, .ref b), (1, .ref (ad1 X)), (2, .ref (ad2 Mo)), (3, .ref (ad1 O)), (4, .int (nI i))]) hx hb d_Law_law_151 hl (by decide) rfl (fun ls hl => ?_)
        refine lv_aload_n hx hb d_Law_law_153 rfl (lv_at hl 3 rfl) ?_
        refine lv_aload_n hx hb d_Law_law_154 rfl (lv_at hl 1 rfl) ?_
        refine lv_iload hx hb d_Law_law_155 (lv_at hl 5 rfl) ?_
        refine lv_iconst (v := 1) hx hb d_Law_law_157 (by decide) ?_
        refine lv_iadd hx hb d_Law_law_158 ?_
        refine va_sld hx hb hXs hbl hbA hS v1 d_Law_law_159 ?_
        refine lv_aload_n hx hb d_Law_law_160 rfl (lv_at hl 1 rfl) ?_
        refine lv_iload hx hb d_Law_law_161 (lv_at hl 5 rfl) ?_
        refine lv_iconst (v := 2) hx hb d_Law_law_163 (by decide) ?_
        refine lv_iadd hx hb d_Law_law_164 ?_
        refine va_sld hx hb hXs hbl hbA hS v2 d_Law_law_165 ?_
        refine lv_aload_n hx hb d_Law_law_166 rfl (lv_at hl 1 rfl) ?_
        refine lv_iload hx hb d_Law_law_167 (lv_at hl 5 rfl) ?_
        refine lv_iconst (v := 3) hx hb d_Law_law_169 (by decide) ?_
        refine lv_iadd hx hb d_Law_law_170 ?_
        refine va_sld hx hb hXs hbl hbA hS v3 d_Law_law_171 ?_
        refine x_callW (st1 := [.int r2.1]) (x_runV (As := [.int (xs (nI i + 1).toNatClampNeg), .int (xs (nI i + 2).toNatClampNeg), .int (xs (nI i + 3).toNatClampNeg)]) (rest := []) ⟨hx, hb, hml, hown, hts⟩ (x_wOf (c_Mod_curve l D aC ad2 T2 nx2 H.size w2 Mo (xs (nI i + 1).toNatClampNeg) (xs (nI i + 2).toNatClampNeg) (xs (nI i + 3).toNatClampNeg) r2 e2)) (cwV 3 hts (x_gV m_953 m_954 m_955 m_13 m_956) rfl rfl rfl ⟨rfl, pd_Mod_curve⟩ ⟨Nat.le_of_ble_eq_true rfl, Nat.le_of_ble_eq_true rfl⟩) hH2 hK hX hTM (by decide) rfl rfl rfl hl.1 rfl (lv_room (Nat.le_of_ble_eq_true rfl)) d_Law_law_172 ⟨by show _ ≤ 615714; omega, by show _ ≤ 7248928; omega⟩) rfl hH2 hA hS (fun H locs hH2 hS hsz hk => ?_)
        have hH1 := hH1.other (fun a c h1 h2 h => hap c a h2 h1 h.symm) hk
        refine lv_istore (lv' := [(6, .int r2.1), (5, .int r1.1), (0, .ref b), (1, .ref (ad1 X)), (2, .ref (ad2 Mo)), (3, .ref (ad1 O)), (4, .int (nI i))]) hx hb d_Law_law_175 hl (by decide) rfl (fun ls hl => ?_)
        refine lv_aload_n hx hb d_Law_law_177 rfl (lv_at hl 4 rfl) ?_
        refine x_callP (st1 := [.int r1.1]) (x_runV (As := []) (rest := []) ⟨hx, hb, hml, hown, hts⟩ (c_Mod_thrown l D aC ad2 T2 nx2 H.size r2.2 Mo r1.1 e3) (cwV 0 hts (x_gV m_949 m_950 m_951 m_13 m_952) rfl rfl rfl ⟨rfl, pd_Mod_thrown⟩ ⟨Nat.le_of_ble_eq_true rfl, Nat.le_of_ble_eq_true rfl⟩) hH2 hK hX hTM (by decide) rfl rfl rfl hl.1 rfl (lv_room (Nat.le_of_ble_eq_true rfl)) d_Law_law_178 ⟨by show _ ≤ 615714; omega, by show _ ≤ 7248928; omega⟩) rfl ?_
        refine lv_iload hx hb d_Law_law_181 (lv_at hl 1 rfl) ?_
        refine lv_icmp_eq (tgt := 188) hx hb d_Law_law_183 (by decide) (fun _ => ?_) (fun h => absurd rfl h)
        refine lv_iload hx hb d_Law_law_188 (lv_at hl 1 rfl) ?_
        refine lv_if_ne (tgt := 205) hx hb d_Law_law_190 (by decide) (fun _ => ?_) (fun h0 => ?_)
        · refine lv_goto (tgt := 1144) hx hb d_Law_law_205 (by decide) ?_
          exact tail _ _ r1.2 r2.2 H locs ls (by omega) (by omega) hSim hH1 hH2 hS (lv_sub hl [2, 3, 4, 5, 6] rfl)
        · refine lv_aload_n hx hb d_Law_law_193 rfl (lv_at hl 5 rfl) ?_
          refine lv_iconst (v := 0) hx hb d_Law_law_194 (by decide) ?_
          refine x_lald hx hb hK hH1 hTO 1 rfl x_v01 d_Law_law_195 ?_
          refine lv_iload hx hb d_Law_law_196 (lv_at hl 0 rfl) ?_
          refine lv_i2l (v := r2.1.toInt64) hx hb d_Law_law_198 rfl ?_
          refine W.lcmp hx hb d_Law_law_199 ?_
          refine lv_if_eq (tgt := 205) hx hb d_Law_law_200 (by decide) (fun _ => ?_) (fun h => absurd (by rw [e4 h0]; simp [lg_cmp]) h)
          refine lv_goto (tgt := 1144) hx hb d_Law_law_205 (by decide) ?_
          exact tail _ _ r1.2 r2.2 H locs ls (by omega) (by omega) hSim hH1 hH2 hS (lv_sub hl [2, 3, 4, 5, 6] rfl)
      by_cases c21 : v = 1
      · refine x_tin (k := 1) (off := 158) (tgt := 208) c21 hx hb d_Law_law_50 (by decide) (by decide) rfl (by decide) ?_
        obtain ⟨r1, r2, e1, e2, e3, hSim⟩ := s1 w1 w2 (xs (nI i + 1).toNatClampNeg) (xs (nI i + 2).toNatClampNeg) (xs (nI i + 3).toNatClampNeg) (xs (nI i + 4).toNatClampNeg) hSim
        refine lv_aload_n hx hb d_Law_law_208 rfl (lv_at hl 1 rfl) ?_
        refine lv_aload_n hx hb d_Law_law_209 rfl (lv_at hl 0 rfl) ?_
        refine lv_iload hx hb d_Law_law_210 (lv_at hl 4 rfl) ?_
        refine lv_iconst (v := 1) hx hb d_Law_law_212 (by decide) ?_
        refine lv_iadd hx hb d_Law_law_213 ?_
        refine va_sld hx hb hXs hbl hbA hS v1 d_Law_law_214 ?_
        refine lv_aload_n hx hb d_Law_law_215 rfl (lv_at hl 0 rfl) ?_
        refine lv_iload hx hb d_Law_law_216 (lv_at hl 4 rfl) ?_
        refine lv_iconst (v := 2) hx hb d_Law_law_218 (by decide) ?_
        refine lv_iadd hx hb d_Law_law_219 ?_
        refine va_sld hx hb hXs hbl hbA hS v2 d_Law_law_220 ?_
        refine lv_aload_n hx hb d_Law_law_221 rfl (lv_at hl 0 rfl) ?_
        refine lv_iload hx hb d_Law_law_222 (lv_at hl 4 rfl) ?_
        refine lv_iconst (v := 3) hx hb d_Law_law_224 (by decide) ?_
        refine lv_iadd hx hb d_Law_law_225 ?_
        refine va_sld hx hb hXs hbl hbA hS v3 d_Law_law_226 ?_
        refine lv_aload_n hx hb d_Law_law_227 rfl (lv_at hl 0 rfl) ?_
        refine lv_iload hx hb d_Law_law_228 (lv_at hl 4 rfl) ?_
        refine lv_iconst (v := 4) hx hb d_Law_law_230 (by decide) ?_
        refine lv_iadd hx hb d_Law_law_231 ?_
        refine va_sld hx hb hXs hbl hbA hS v4 d_Law_law_232 ?_
        refine x_callW (st1 := [.int r1.1]) (x_runSW (n := 5) (As := [.ref (ad1 X), .int (xs (nI i + 1).toNatClampNeg), .int (xs (nI i + 2).toNatClampNeg), .int (xs (nI i + 3).toNatClampNeg), .int (xs (nI i + 4).toNatClampNeg)]) (rest := []) ⟨hx, hb, hml, hown, hts⟩ (c_Law_rates l hfl D aC ad1 T1 nx1 H.size w1 X (xs (nI i + 1).toNatClampNeg) (xs (nI i + 2).toNatClampNeg) (xs (nI i + 3).toNatClampNeg) (xs (nI i + 4).toNatClampNeg) r1 e1) rfl rfl (Nat.le_of_ble_eq_true rfl) (Nat.le_of_ble_eq_true rfl) m_490 m_491 m_0 m_492 (by decide +kernel) (x_preW hS hH1 hK hX hTf hN) rfl rfl hl.1 rfl (lv_room (Nat.le_of_ble_eq_true rfl)) d_Law_law_233 ⟨by show _ ≤ 615714; omega, by show _ ≤ 7248928; omega⟩) rfl hH1 hA hS (fun H locs hH1 hS hsz hk => ?_)
        have hH2 := hH2.other hap hk
        refine lv_istore (lv' := [(5, .int r1.1), (0, .ref b), (1, .ref (ad1 X)), (2, .ref (ad2 Mo)), (3, .ref (ad1 O)), (4, .int (nI i))]) hx hb d_Law_law_236 hl (by decide) rfl (fun ls hl => ?_)
        refine lv_aload_n hx hb d_Law_law_238 rfl (lv_at hl 3 rfl) ?_
        refine lv_aload_n hx hb d_Law_law_239 rfl (lv_at hl 1 rfl) ?_
        refine lv_iload hx hb d_Law_law_240 (lv_at hl 5 rfl) ?_
        refine lv_iconst (v := 1) hx hb d_Law_law_242 (by decide) ?_
        refine lv_iadd hx hb d_Law_law_243 ?_
        refine va_sld hx hb hXs hbl hbA hS v1 d_Law_law_244 ?_
        refine lv_aload_n hx hb d_Law_law_245 rfl (lv_at hl 1 rfl) ?_
        refine lv_iload hx hb d_Law_law_246 (lv_at hl 5 rfl) ?_
        refine lv_iconst (v := 2) hx hb d_Law_law_248 (by decide) ?_
        refine lv_iadd hx hb d_Law_law_249 ?_
        refine va_sld hx hb hXs hbl hbA hS v2 d_Law_law_250 ?_
        refine lv_aload_n hx hb d_Law_law_251 rfl (lv_at hl 1 rfl) ?_
        refine lv_iload hx hb d_Law_law_252 (lv_at hl 5 rfl) ?_
        refine lv_iconst (v := 3) hx hb d_Law_law_254 (by decide) ?_
        refine lv_iadd hx hb d_Law_law_255 ?_
        refine va_sld hx hb hXs hbl hbA hS v3 d_Law_law_256 ?_
        refine lv_aload_n hx hb d_Law_law_257 rfl (lv_at hl 1 rfl) ?_
        refine lv_iload hx hb d_Law_law_258 (lv_at hl 5 rfl) ?_
        refine lv_iconst (v := 4) hx hb d_Law_law_260 (by decide) ?_
        refine lv_iadd hx hb d_Law_law_261 ?_
        refine va_sld hx hb hXs hbl hbA hS v4 d_Law_law_262 ?_
        refine x_callW (st1 := []) (x_runV (As := [.int (xs (nI i + 1).toNatClampNeg), .int (xs (nI i + 2).toNatClampNeg), .int (xs (nI i + 3).toNatClampNeg), .int (xs (nI i + 4).toNatClampNeg)]) (rest := []) ⟨hx, hb, hml, hown, hts⟩ (x_wOf (c_Mod_rates l D aC ad2 T2 nx2 H.size w2 Mo (xs (nI i + 1).toNatClampNeg) (xs (nI i + 2).toNatClampNeg) (xs (nI i + 3).toNatClampNeg) (xs (nI i + 4).toNatClampNeg) r2 e2)) (cwV 4 hts (x_gV m_967 m_968 m_969 m_13 m_970) rfl rfl rfl ⟨rfl, pd_Mod_rates⟩ ⟨Nat.le_of_ble_eq_true rfl, Nat.le_of_ble_eq_true rfl⟩) hH2 hK hX hTM (by decide) rfl rfl rfl hl.1 rfl (lv_room (Nat.le_of_ble_eq_true rfl)) d_Law_law_263 ⟨by show _ ≤ 615714; omega, by show _ ≤ 7248928; omega⟩) rfl hH2 hA hS (fun H locs hH2 hS hsz hk => ?_)
        have hH1 := hH1.other (fun a c h1 h2 h => hap c a h2 h1 h.symm) hk
        refine lv_aload_n hx hb d_Law_law_266 rfl (lv_at hl 3 rfl) ?_
        refine x_callP (st1 := [.int r1.1]) (x_runV (As := []) (rest := []) ⟨hx, hb, hml, hown, hts⟩ (c_Mod_thrown l D aC ad2 T2 nx2 H.size r2 Mo r1.1 e3) (cwV 0 hts (x_gV m_949 m_950 m_951 m_13 m_952) rfl rfl rfl ⟨rfl, pd_Mod_thrown⟩ ⟨Nat.le_of_ble_eq_true rfl, Nat.le_of_ble_eq_true rfl⟩) hH2 hK hX hTM (by decide) rfl rfl rfl hl.1 rfl (lv_room (Nat.le_of_ble_eq_true rfl)) d_Law_law_267 ⟨by show _ ≤ 615714; omega, by show _ ≤ 7248928; omega⟩) rfl ?_
        refine lv_iload hx hb d_Law_law_270 (lv_at hl 0 rfl) ?_
        refine lv_icmp_eq (tgt := 277) hx hb d_Law_law_272 (by decide) (fun _ => ?_) (fun h => absurd rfl h)
        refine lv_goto (tgt := 1144) hx hb d_Law_law_277 (by decide) ?_
        exact tail _ _ r1.2 r2 H locs ls (by omega) (by omega) hSim hH1 hH2 hS (lv_sub hl [1, 2, 3, 4, 5] rfl)
      by_cases c22 : v = 2
      · refine x_tin (k := 2) (off := 230) (tgt := 280) c22 hx hb d_Law_law_50 (by decide) (by decide) rfl (by decide) ?_
        obtain ⟨r1, r2, e1, e2, e3, hSim⟩ := s2 w1 w2 (xs (nI i + 1).toNatClampNeg) (xs (nI i + 2).toNatClampNeg) (xs (nI i + 3).toNatClampNeg) hSim
        refine lv_aload_n hx hb d_Law_law_280 rfl (lv_at hl 1 rfl) ?_
        refine lv_aload_n hx hb d_Law_law_281 rfl (lv_at hl 0 rfl) ?_
        refine lv_iload hx hb d_Law_law_282 (lv_at hl 4 rfl) ?_
        refine lv_iconst (v := 1) hx hb d_Law_law_284 (by decide) ?_
        refine lv_iadd hx hb d_Law_law_285 ?_
        refine va_sld hx hb hXs hbl hbA hS v1 d_Law_law_286 ?_
        refine lv_aload_n hx hb d_Law_law_287 rfl (lv_at hl 0 rfl) ?_
        refine lv_iload hx hb d_Law_law_288 (lv_at hl 4 rfl) ?_
        refine lv_iconst (v := 2) hx hb d_Law_law_290 (by decide) ?_
        refine lv_iadd hx hb d_Law_law_291 ?_
        refine va_sld hx hb hXs hbl hbA hS v2 d_Law_law_292 ?_
        refine lv_aload_n hx hb d_Law_law_293 rfl (lv_at hl 0 rfl) ?_
        refine lv_iload hx hb d_Law_law_294 (lv_at hl 4 rfl) ?_
        refine lv_iconst (v := 3) hx hb d_Law_law_296 (by decide) ?_
        refine lv_iadd hx hb d_Law_law_297 ?_
        refine va_sld hx hb hXs hbl hbA hS v3 d_Law_law_298 ?_
        refine x_callW (st1 := [.int r1.1]) (x_runSW (n := 4) (As := [.ref (ad1 X), .int (xs (nI i + 1).toNatClampNeg), .int (xs (nI i + 2).toNatClampNeg), .int (xs (nI i + 3).toNatClampNeg)]) (rest := []) ⟨hx, hb, hml, hown, hts⟩ (c_Law_cell1 l hfl D aC ad1 T1 nx1 H.size w1 X (xs (nI i + 1).toNatClampNeg) (xs (nI i + 2).toNatClampNeg) (xs (nI i + 3).toNatClampNeg) r1 e1) rfl rfl (Nat.le_of_ble_eq_true rfl) (Nat.le_of_ble_eq_true rfl) m_497 m_498 m_0 m_499 (by decide +kernel) (x_preW hS hH1 hK hX hTf hN) rfl rfl hl.1 rfl (lv_room (Nat.le_of_ble_eq_true rfl)) d_Law_law_299 ⟨by show _ ≤ 615714; omega, by show _ ≤ 7248928; omega⟩) rfl hH1 hA hS (fun H locs hH1 hS hsz hk => ?_)
        have hH2 := hH2.other hap hk
        refine lv_istore (lv' := [(5, .int r1.1), (0, .ref b), (1, .ref (ad1 X)), (2, .ref (ad2 Mo)), (3, .ref (ad1 O)), (4, .int (nI i))]) hx hb d_Law_law_302 hl (by decide) rfl (fun ls hl => ?_)
        refine lv_aload_n hx hb d_Law_law_304 rfl (lv_at hl 3 rfl) ?_
        refine lv_aload_n hx hb d_Law_law_305 rfl (lv_at hl 1 rfl) ?_
        refine lv_iload hx hb d_Law_law_306 (lv_at hl 5 rfl) ?_
        refine lv_iconst (v := 1) hx hb d_Law_law_308 (by decide) ?_
        refine lv_iadd hx hb d_Law_law_309 ?_
        refine va_sld hx hb hXs hbl hbA hS v1 d_Law_law_310 ?_
        refine lv_aload_n hx hb d_Law_law_311 rfl (lv_at hl 1 rfl) ?_
        refine lv_iload hx hb d_Law_law_312 (lv_at hl 5 rfl) ?_
        refine lv_iconst (v := 2) hx hb d_Law_law_314 (by decide) ?_
        refine lv_iadd hx hb d_Law_law_315 ?_
        refine va_sld hx hb hXs hbl hbA hS v2 d_Law_law_316 ?_
        refine lv_aload_n hx hb d_Law_law_317 rfl (lv_at hl 1 rfl) ?_
        refine lv_iload hx hb d_Law_law_318 (lv_at hl 5 rfl) ?_
        refine lv_iconst (v := 3) hx hb d_Law_law_320 (by decide) ?_
        refine lv_iadd hx hb d_Law_law_321 ?_
        refine va_sld hx hb hXs hbl hbA hS v3 d_Law_law_322 ?_
        refine x_callW (st1 := []) (x_runV (As := [.int (xs (nI i + 1).toNatClampNeg), .int (xs (nI i + 2).toNatClampNeg), .int (xs (nI i + 3).toNatClampNeg)]) (rest := []) ⟨hx, hb, hml, hown, hts⟩ (x_wOf (c_Mod_cell l D aC ad2 T2 nx2 H.size w2 Mo (xs (nI i + 1).toNatClampNeg) (xs (nI i + 2).toNatClampNeg) (xs (nI i + 3).toNatClampNeg) r2 e2)) (cwV 3 hts (x_gV m_972 m_973 m_974 m_13 m_975) rfl rfl rfl ⟨rfl, pd_Mod_cell⟩ ⟨Nat.le_of_ble_eq_true rfl, Nat.le_of_ble_eq_true rfl⟩) hH2 hK hX hTM (by decide) rfl rfl rfl hl.1 rfl (lv_room (Nat.le_of_ble_eq_true rfl)) d_Law_law_323 ⟨by show _ ≤ 615714; omega, by show _ ≤ 7248928; omega⟩) rfl hH2 hA hS (fun H locs hH2 hS hsz hk => ?_)
        have hH1 := hH1.other (fun a c h1 h2 h => hap c a h2 h1 h.symm) hk
        refine lv_aload_n hx hb d_Law_law_326 rfl (lv_at hl 3 rfl) ?_
        refine x_callP (st1 := [.int r1.1]) (x_runV (As := []) (rest := []) ⟨hx, hb, hml, hown, hts⟩ (c_Mod_thrown l D aC ad2 T2 nx2 H.size r2 Mo r1.1 e3) (cwV 0 hts (x_gV m_949 m_950 m_951 m_13 m_952) rfl rfl rfl ⟨rfl, pd_Mod_thrown⟩ ⟨Nat.le_of_ble_eq_true rfl, Nat.le_of_ble_eq_true rfl⟩) hH2 hK hX hTM (by decide) rfl rfl rfl hl.1 rfl (lv_room (Nat.le_of_ble_eq_true rfl)) d_Law_law_327 ⟨by show _ ≤ 615714; omega, by show _ ≤ 7248928; omega⟩) rfl ?_
        refine lv_iload hx hb d_Law_law_330 (lv_at hl 0 rfl) ?_
        refine lv_icmp_eq (tgt := 337) hx hb d_Law_law_332 (by decide) (fun _ => ?_) (fun h => absurd rfl h)
        refine lv_goto (tgt := 1144) hx hb d_Law_law_337 (by decide) ?_
        exact tail _ _ r1.2 r2 H locs ls (by omega) (by omega) hSim hH1 hH2 hS (lv_sub hl [1, 2, 3, 4, 5] rfl)
      by_cases c23 : v = 3
      · refine x_tin (k := 3) (off := 290) (tgt := 340) c23 hx hb d_Law_law_50 (by decide) (by decide) rfl (by decide) ?_
        obtain ⟨r1, r2, e1, e2, e3, e4, hSim⟩ := s3 w1 w2 (xs (nI i + 1).toNatClampNeg) (xs (nI i + 2).toNatClampNeg) hSim
        refine lv_aload_n hx hb d_Law_law_340 rfl (lv_at hl 1 rfl) ?_
        refine lv_aload_n hx hb d_Law_law_341 rfl (lv_at hl 0 rfl) ?_
        refine lv_iload hx hb d_Law_law_342 (lv_at hl 4 rfl) ?_
        refine lv_iconst (v := 1) hx hb d_Law_law_344 (by decide) ?_
        refine lv_iadd hx hb d_Law_law_345 ?_
        refine va_sld hx hb hXs hbl hbA hS v1 d_Law_law_346 ?_
        refine lv_aload_n hx hb d_Law_law_347 rfl (lv_at hl 0 rfl) ?_
        refine lv_iload hx hb d_Law_law_348 (lv_at hl 4 rfl) ?_
        refine lv_iconst (v := 2) hx hb d_Law_law_350 (by decide) ?_
        refine lv_iadd hx hb d_Law_law_351 ?_
        refine va_sld hx hb hXs hbl hbA hS v2 d_Law_law_352 ?_
        refine lv_aload_n hx hb d_Law_law_353 rfl (lv_at hl 3 rfl) ?_
        refine x_callW (st1 := [.int r1.1]) (x_runSW (n := 4) (As := [.ref (ad1 X), .int (xs (nI i + 1).toNatClampNeg), .int (xs (nI i + 2).toNatClampNeg), .ref (ad1 O)]) (rest := []) ⟨hx, hb, hml, hown, hts⟩ (c_Law_table l hfl D aC ad1 T1 nx1 H.size w1 X (xs (nI i + 1).toNatClampNeg) (xs (nI i + 2).toNatClampNeg) O r1 e1) rfl rfl (Nat.le_of_ble_eq_true rfl) (Nat.le_of_ble_eq_true rfl) m_508 m_509 m_0 m_510 (by decide +kernel) (x_preW hS hH1 hK hX hTf hN) rfl rfl hl.1 rfl (lv_room (Nat.le_of_ble_eq_true rfl)) d_Law_law_354 ⟨by show _ ≤ 615714; omega, by show _ ≤ 7248928; omega⟩) rfl hH1 hA hS (fun H locs hH1 hS hsz hk => ?_)
        have hH2 := hH2.other hap hk
        refine lv_istore (lv' := [(5, .int r1.1), (0, .ref b), (1, .ref (ad1 X)), (2, .ref (ad2 Mo)), (3, .ref (ad1 O)), (4, .int (nI i))]) hx hb d_Law_law_357 hl (by decide) rfl (fun ls hl => ?_)
        refine lv_aload_n hx hb d_Law_law_359 rfl (lv_at hl 3 rfl) ?_
        refine lv_aload_n hx hb d_Law_law_360 rfl (lv_at hl 1 rfl) ?_
        refine lv_iload hx hb d_Law_law_361 (lv_at hl 5 rfl) ?_
        refine lv_iconst (v := 1) hx hb d_Law_law_363 (by decide) ?_
        refine lv_iadd hx hb d_Law_law_364 ?_
        refine va_sld hx hb hXs hbl hbA hS v1 d_Law_law_365 ?_
        refine lv_aload_n hx hb d_Law_law_366 rfl (lv_at hl 1 rfl) ?_
        refine lv_iload hx hb d_Law_law_367 (lv_at hl 5 rfl) ?_
        refine lv_iconst (v := 2) hx hb d_Law_law_369 (by decide) ?_
        refine lv_iadd hx hb d_Law_law_370 ?_
        refine va_sld hx hb hXs hbl hbA hS v2 d_Law_law_371 ?_
        refine x_callW (st1 := [.int r2.1]) (x_runV (As := [.int (xs (nI i + 1).toNatClampNeg), .int (xs (nI i + 2).toNatClampNeg)]) (rest := []) ⟨hx, hb, hml, hown, hts⟩ (x_wOf (c_Mod_table l D aC ad2 T2 nx2 H.size w2 Mo (xs (nI i + 1).toNatClampNeg) (xs (nI i + 2).toNatClampNeg) r2 e2)) (cwV 2 hts (x_gV m_980 m_981 m_982 m_13 m_983) rfl rfl rfl ⟨rfl, pd_Mod_table⟩ ⟨Nat.le_of_ble_eq_true rfl, Nat.le_of_ble_eq_true rfl⟩) hH2 hK hX hTM (by decide) rfl rfl rfl hl.1 rfl (lv_room (Nat.le_of_ble_eq_true rfl)) d_Law_law_372 ⟨by show _ ≤ 615714; omega, by show _ ≤ 7248928; omega⟩) rfl hH2 hA hS (fun H locs hH2 hS hsz hk => ?_)
        have hH1 := hH1.other (fun a c h1 h2 h => hap c a h2 h1 h.symm) hk
        refine lv_istore (lv' := [(6, .int r2.1), (5, .int r1.1), (0, .ref b), (1, .ref (ad1 X)), (2, .ref (ad2 Mo)), (3, .ref (ad1 O)), (4, .int (nI i))]) hx hb d_Law_law_375 hl (by decide) rfl (fun ls hl => ?_)
        refine lv_aload_n hx hb d_Law_law_377 rfl (lv_at hl 4 rfl) ?_
        refine x_callP (st1 := [.int r1.1]) (x_runV (As := []) (rest := []) ⟨hx, hb, hml, hown, hts⟩ (c_Mod_thrown l D aC ad2 T2 nx2 H.size r2.2 Mo r1.1 e3) (cwV 0 hts (x_gV m_949 m_950 m_951 m_13 m_952) rfl rfl rfl ⟨rfl, pd_Mod_thrown⟩ ⟨Nat.le_of_ble_eq_true rfl, Nat.le_of_ble_eq_true rfl⟩) hH2 hK hX hTM (by decide) rfl rfl rfl hl.1 rfl (lv_room (Nat.le_of_ble_eq_true rfl)) d_Law_law_378 ⟨by show _ ≤ 615714; omega, by show _ ≤ 7248928; omega⟩) rfl ?_
        refine lv_iload hx hb d_Law_law_381 (lv_at hl 1 rfl) ?_
        refine lv_icmp_eq (tgt := 388) hx hb d_Law_law_383 (by decide) (fun _ => ?_) (fun h => absurd rfl h)
        refine lv_iload hx hb d_Law_law_388 (lv_at hl 1 rfl) ?_
        refine lv_if_ne (tgt := 405) hx hb d_Law_law_390 (by decide) (fun _ => ?_) (fun h0 => ?_)
        · refine lv_goto (tgt := 1144) hx hb d_Law_law_405 (by decide) ?_
          exact tail _ _ r1.2 r2.2 H locs ls (by omega) (by omega) hSim hH1 hH2 hS (lv_sub hl [2, 3, 4, 5, 6] rfl)
        · refine lv_aload_n hx hb d_Law_law_393 rfl (lv_at hl 5 rfl) ?_
          refine lv_iconst (v := 0) hx hb d_Law_law_394 (by decide) ?_
          refine x_lald hx hb hK hH1 hTO 1 rfl x_v01 d_Law_law_395 ?_
          refine lv_iload hx hb d_Law_law_396 (lv_at hl 0 rfl) ?_
          refine lv_i2l (v := r2.1.toInt64) hx hb d_Law_law_398 rfl ?_
          refine W.lcmp hx hb d_Law_law_399 ?_
          refine lv_if_eq (tgt := 405) hx hb d_Law_law_400 (by decide) (fun _ => ?_) (fun h => absurd (by rw [e4 h0]; simp [lg_cmp]) h)
          refine lv_goto (tgt := 1144) hx hb d_Law_law_405 (by decide) ?_
          exact tail _ _ r1.2 r2.2 H locs ls (by omega) (by omega) hSim hH1 hH2 hS (lv_sub hl [2, 3, 4, 5, 6] rfl)
      by_cases c24 : v = 4
      · refine x_tin (k := 4) (off := 358) (tgt := 408) c24 hx hb d_Law_law_50 (by decide) (by decide) rfl (by decide) ?_
        obtain ⟨r1, r2, e1, e2, e3, e4, hSim⟩ := s4 w1 w2 (xs (nI i + 1).toNatClampNeg) hSim
        refine lv_aload_n hx hb d_Law_law_408 rfl (lv_at hl 1 rfl) ?_
        refine lv_aload_n hx hb d_Law_law_409 rfl (lv_at hl 0 rfl) ?_
        refine lv_iload hx hb d_Law_law_410 (lv_at hl 4 rfl) ?_
        refine lv_iconst (v := 1) hx hb d_Law_law_412 (by decide) ?_
        refine lv_iadd hx hb d_Law_law_413 ?_
        refine va_sld hx hb hXs hbl hbA hS v1 d_Law_law_414 ?_
        refine lv_aload_n hx hb d_Law_law_415 rfl (lv_at hl 3 rfl) ?_
        refine x_callW (st1 := [.int r1.1]) (x_runSW (n := 3) (As := [.ref (ad1 X), .int (xs (nI i + 1).toNatClampNeg), .ref (ad1 O)]) (rest := []) ⟨hx, hb, hml, hown, hts⟩ (c_Law_full l hfl D aC ad1 T1 nx1 H.size w1 X (xs (nI i + 1).toNatClampNeg) O r1 e1) rfl rfl (Nat.le_of_ble_eq_true rfl) (Nat.le_of_ble_eq_true rfl) m_516 m_517 m_0 m_518 (by decide +kernel) (x_preW hS hH1 hK hX hTf hN) rfl rfl hl.1 rfl (lv_room (Nat.le_of_ble_eq_true rfl)) d_Law_law_416 ⟨by show _ ≤ 615714; omega, by show _ ≤ 7248928; omega⟩) rfl hH1 hA hS (fun H locs hH1 hS hsz hk => ?_)
        have hH2 := hH2.other hap hk
        refine lv_istore (lv' := [(5, .int r1.1), (0, .ref b), (1, .ref (ad1 X)), (2, .ref (ad2 Mo)), (3, .ref (ad1 O)), (4, .int (nI i))]) hx hb d_Law_law_419 hl (by decide) rfl (fun ls hl => ?_)
        refine lv_aload_n hx hb d_Law_law_421 rfl (lv_at hl 3 rfl) ?_
        refine lv_aload_n hx hb d_Law_law_422 rfl (lv_at hl 1 rfl) ?_
        refine lv_iload hx hb d_Law_law_423 (lv_at hl 5 rfl) ?_
        refine lv_iconst (v := 1) hx hb d_Law_law_425 (by decide) ?_
        refine lv_iadd hx hb d_Law_law_426 ?_
        refine va_sld hx hb hXs hbl hbA hS v1 d_Law_law_427 ?_
        refine x_callW (st1 := [.int r2.1]) (x_runV (As := [.int (xs (nI i + 1).toNatClampNeg)]) (rest := []) ⟨hx, hb, hml, hown, hts⟩ (x_wOf (c_Mod_full l D aC ad2 T2 nx2 H.size w2 Mo (xs (nI i + 1).toNatClampNeg) r2 e2)) (cwV 1 hts (x_gV m_986 m_987 m_988 m_13 m_989) rfl rfl rfl ⟨rfl, pd_Mod_full⟩ ⟨Nat.le_of_ble_eq_true rfl, Nat.le_of_ble_eq_true rfl⟩) hH2 hK hX hTM (by decide) rfl rfl rfl hl.1 rfl (lv_room (Nat.le_of_ble_eq_true rfl)) d_Law_law_428 ⟨by show _ ≤ 615714; omega, by show _ ≤ 7248928; omega⟩) rfl hH2 hA hS (fun H locs hH2 hS hsz hk => ?_)
        have hH1 := hH1.other (fun a c h1 h2 h => hap c a h2 h1 h.symm) hk
        refine lv_istore (lv' := [(6, .int r2.1), (5, .int r1.1), (0, .ref b), (1, .ref (ad1 X)), (2, .ref (ad2 Mo)), (3, .ref (ad1 O)), (4, .int (nI i))]) hx hb d_Law_law_431 hl (by decide) rfl (fun ls hl => ?_)
        refine lv_aload_n hx hb d_Law_law_433 rfl (lv_at hl 4 rfl) ?_
        refine x_callP (st1 := [.int r1.1]) (x_runV (As := []) (rest := []) ⟨hx, hb, hml, hown, hts⟩ (c_Mod_thrown l D aC ad2 T2 nx2 H.size r2.2 Mo r1.1 e3) (cwV 0 hts (x_gV m_949 m_950 m_951 m_13 m_952) rfl rfl rfl ⟨rfl, pd_Mod_thrown⟩ ⟨Nat.le_of_ble_eq_true rfl, Nat.le_of_ble_eq_true rfl⟩) hH2 hK hX hTM (by decide) rfl rfl rfl hl.1 rfl (lv_room (Nat.le_of_ble_eq_true rfl)) d_Law_law_434 ⟨by show _ ≤ 615714; omega, by show _ ≤ 7248928; omega⟩) rfl ?_
        refine lv_iload hx hb d_Law_law_437 (lv_at hl 1 rfl) ?_
        refine lv_icmp_eq (tgt := 444) hx hb d_Law_law_439 (by decide) (fun _ => ?_) (fun h => absurd rfl h)
        refine lv_iload hx hb d_Law_law_444 (lv_at hl 1 rfl) ?_
        refine lv_if_ne (tgt := 461) hx hb d_Law_law_446 (by decide) (fun _ => ?_) (fun h0 => ?_)
        · refine lv_goto (tgt := 1144) hx hb d_Law_law_461 (by decide) ?_
          exact tail _ _ r1.2 r2.2 H locs ls (by omega) (by omega) hSim hH1 hH2 hS (lv_sub hl [2, 3, 4, 5, 6] rfl)
        · refine lv_aload_n hx hb d_Law_law_449 rfl (lv_at hl 5 rfl) ?_
          refine lv_iconst (v := 0) hx hb d_Law_law_450 (by decide) ?_
          refine x_lald hx hb hK hH1 hTO 1 rfl x_v01 d_Law_law_451 ?_
          refine lv_iload hx hb d_Law_law_452 (lv_at hl 0 rfl) ?_
          refine lv_i2l (v := r2.1.toInt64) hx hb d_Law_law_454 rfl ?_
          refine W.lcmp hx hb d_Law_law_455 ?_
          refine lv_if_eq (tgt := 461) hx hb d_Law_law_456 (by decide) (fun _ => ?_) (fun h => absurd (by rw [e4 h0]; simp [lg_cmp]) h)
          refine lv_goto (tgt := 1144) hx hb d_Law_law_461 (by decide) ?_
          exact tail _ _ r1.2 r2.2 H locs ls (by omega) (by omega) hSim hH1 hH2 hS (lv_sub hl [2, 3, 4, 5, 6] rfl)
      by_cases c25 : v = 5
      · refine x_tin (k := 5) (off := 414) (tgt := 464) c25 hx hb d_Law_law_50 (by decide) (by decide) rfl (by decide) ?_
        obtain ⟨r1, r2, e1, e2, e3, hSim⟩ := s5 w1 w2 (xs (nI i + 1).toNatClampNeg) (xs (nI i + 2).toNatClampNeg) hSim
        refine lv_aload_n hx hb d_Law_law_464 rfl (lv_at hl 1 rfl) ?_
        refine lv_aload_n hx hb d_Law_law_465 rfl (lv_at hl 0 rfl) ?_
        refine lv_iload hx hb d_Law_law_466 (lv_at hl 4 rfl) ?_
        refine lv_iconst (v := 1) hx hb d_Law_law_468 (by decide) ?_
        refine lv_iadd hx hb d_Law_law_469 ?_
        refine va_sld hx hb hXs hbl hbA hS v1 d_Law_law_470 ?_
        refine lv_aload_n hx hb d_Law_law_471 rfl (lv_at hl 0 rfl) ?_
        refine lv_iload hx hb d_Law_law_472 (lv_at hl 4 rfl) ?_
        refine lv_iconst (v := 2) hx hb d_Law_law_474 (by decide) ?_
        refine lv_iadd hx hb d_Law_law_475 ?_
        refine va_sld hx hb hXs hbl hbA hS v2 d_Law_law_476 ?_
        refine x_callW (st1 := [.int r1.1]) (x_runSW (n := 3) (As := [.ref (ad1 X), .int (xs (nI i + 1).toNatClampNeg), .int (xs (nI i + 2).toNatClampNeg)]) (rest := []) ⟨hx, hb, hml, hown, hts⟩ (c_Law_films l hfl D aC ad1 T1 nx1 H.size w1 X (xs (nI i + 1).toNatClampNeg) (xs (nI i + 2).toNatClampNeg) r1 e1) rfl rfl (Nat.le_of_ble_eq_true rfl) (Nat.le_of_ble_eq_true rfl) m_527 m_528 m_0 m_529 (by decide +kernel) (x_preW hS hH1 hK hX hTf hN) rfl rfl hl.1 rfl (lv_room (Nat.le_of_ble_eq_true rfl)) d_Law_law_477 ⟨by show _ ≤ 615714; omega, by show _ ≤ 7248928; omega⟩) rfl hH1 hA hS (fun H locs hH1 hS hsz hk => ?_)
        have hH2 := hH2.other hap hk
        refine lv_istore (lv' := [(5, .int r1.1), (0, .ref b), (1, .ref (ad1 X)), (2, .ref (ad2 Mo)), (3, .ref (ad1 O)), (4, .int (nI i))]) hx hb d_Law_law_480 hl (by decide) rfl (fun ls hl => ?_)
        refine lv_aload_n hx hb d_Law_law_482 rfl (lv_at hl 3 rfl) ?_
        refine lv_aload_n hx hb d_Law_law_483 rfl (lv_at hl 1 rfl) ?_
        refine lv_iload hx hb d_Law_law_484 (lv_at hl 5 rfl) ?_
        refine lv_iconst (v := 1) hx hb d_Law_law_486 (by decide) ?_
        refine lv_iadd hx hb d_Law_law_487 ?_
        refine va_sld hx hb hXs hbl hbA hS v1 d_Law_law_488 ?_
        refine lv_aload_n hx hb d_Law_law_489 rfl (lv_at hl 1 rfl) ?_
        refine lv_iload hx hb d_Law_law_490 (lv_at hl 5 rfl) ?_
        refine lv_iconst (v := 2) hx hb d_Law_law_492 (by decide) ?_
        refine lv_iadd hx hb d_Law_law_493 ?_
        refine va_sld hx hb hXs hbl hbA hS v2 d_Law_law_494 ?_
        refine x_callW (st1 := []) (x_runV (As := [.int (xs (nI i + 1).toNatClampNeg), .int (xs (nI i + 2).toNatClampNeg)]) (rest := []) ⟨hx, hb, hml, hown, hts⟩ (x_wOf (c_Mod_films l D aC ad2 T2 nx2 H.size w2 Mo (xs (nI i + 1).toNatClampNeg) (xs (nI i + 2).toNatClampNeg) r2 e2)) (cwV 2 hts (x_gV m_994 m_995 m_996 m_13 m_997) rfl rfl rfl ⟨rfl, pd_Mod_films⟩ ⟨Nat.le_of_ble_eq_true rfl, Nat.le_of_ble_eq_true rfl⟩) hH2 hK hX hTM (by decide) rfl rfl rfl hl.1 rfl (lv_room (Nat.le_of_ble_eq_true rfl)) d_Law_law_495 ⟨by show _ ≤ 615714; omega, by show _ ≤ 7248928; omega⟩) rfl hH2 hA hS (fun H locs hH2 hS hsz hk => ?_)
        have hH1 := hH1.other (fun a c h1 h2 h => hap c a h2 h1 h.symm) hk
        refine lv_aload_n hx hb d_Law_law_498 rfl (lv_at hl 3 rfl) ?_
        refine x_callP (st1 := [.int r1.1]) (x_runV (As := []) (rest := []) ⟨hx, hb, hml, hown, hts⟩ (c_Mod_thrown l D aC ad2 T2 nx2 H.size r2 Mo r1.1 e3) (cwV 0 hts (x_gV m_949 m_950 m_951 m_13 m_952) rfl rfl rfl ⟨rfl, pd_Mod_thrown⟩ ⟨Nat.le_of_ble_eq_true rfl, Nat.le_of_ble_eq_true rfl⟩) hH2 hK hX hTM (by decide) rfl rfl rfl hl.1 rfl (lv_room (Nat.le_of_ble_eq_true rfl)) d_Law_law_499 ⟨by show _ ≤ 615714; omega, by show _ ≤ 7248928; omega⟩) rfl ?_
        refine lv_iload hx hb d_Law_law_502 (lv_at hl 0 rfl) ?_
        refine lv_icmp_eq (tgt := 509) hx hb d_Law_law_504 (by decide) (fun _ => ?_) (fun h => absurd rfl h)
        refine lv_goto (tgt := 1144) hx hb d_Law_law_509 (by decide) ?_
        exact tail _ _ r1.2 r2 H locs ls (by omega) (by omega) hSim hH1 hH2 hS (lv_sub hl [1, 2, 3, 4, 5] rfl)
      by_cases c26 : v = 6
      · refine x_tin (k := 6) (off := 462) (tgt := 512) c26 hx hb d_Law_law_50 (by decide) (by decide) rfl (by decide) ?_
        obtain ⟨r1, r2, e1, e2, e3, hSim⟩ := s6 w1 w2 (xs (nI i + 1).toNatClampNeg) (xs (nI i + 2).toNatClampNeg) (xs (nI i + 3).toNatClampNeg) (xs (nI i + 4).toNatClampNeg) (xs (nI i + 5).toNatClampNeg) hSim
        refine lv_aload_n hx hb d_Law_law_512 rfl (lv_at hl 1 rfl) ?_
        refine lv_aload_n hx hb d_Law_law_513 rfl (lv_at hl 0 rfl) ?_
        refine lv_iload hx hb d_Law_law_514 (lv_at hl 4 rfl) ?_
        refine lv_iconst (v := 1) hx hb d_Law_law_516 (by decide) ?_
        refine lv_iadd hx hb d_Law_law_517 ?_
        refine va_sld hx hb hXs hbl hbA hS v1 d_Law_law_518 ?_
        refine lv_aload_n hx hb d_Law_law_519 rfl (lv_at hl 0 rfl) ?_
        refine lv_iload hx hb d_Law_law_520 (lv_at hl 4 rfl) ?_
        refine lv_iconst (v := 2) hx hb d_Law_law_522 (by decide) ?_
        refine lv_iadd hx hb d_Law_law_523 ?_
        refine va_sld hx hb hXs hbl hbA hS v2 d_Law_law_524 ?_
        refine lv_aload_n hx hb d_Law_law_525 rfl (lv_at hl 0 rfl) ?_
        refine lv_iload hx hb d_Law_law_526 (lv_at hl 4 rfl) ?_
        refine lv_iconst (v := 3) hx hb d_Law_law_528 (by decide) ?_
        refine lv_iadd hx hb d_Law_law_529 ?_
        refine va_sld hx hb hXs hbl hbA hS v3 d_Law_law_530 ?_
        refine lv_aload_n hx hb d_Law_law_531 rfl (lv_at hl 0 rfl) ?_
        refine lv_iload hx hb d_Law_law_532 (lv_at hl 4 rfl) ?_
        refine lv_iconst (v := 4) hx hb d_Law_law_534 (by decide) ?_
        refine lv_iadd hx hb d_Law_law_535 ?_
        refine va_sld hx hb hXs hbl hbA hS v4 d_Law_law_536 ?_
        refine lv_aload_n hx hb d_Law_law_537 rfl (lv_at hl 0 rfl) ?_
        refine lv_iload hx hb d_Law_law_538 (lv_at hl 4 rfl) ?_
        refine lv_iconst (v := 5) hx hb d_Law_law_540 (by decide) ?_
        refine lv_iadd hx hb d_Law_law_541 ?_
        refine va_sld hx hb hXs hbl hbA hS v5 d_Law_law_542 ?_
        refine x_callW (st1 := [.int r1.1]) (x_runSW (n := 6) (As := [.ref (ad1 X), .int (xs (nI i + 1).toNatClampNeg), .int (xs (nI i + 2).toNatClampNeg), .int (xs (nI i + 3).toNatClampNeg), .int (xs (nI i + 4).toNatClampNeg), .int (xs (nI i + 5).toNatClampNeg)]) (rest := []) ⟨hx, hb, hml, hown, hts⟩ (c_Law_outside l hfl D aC ad1 T1 nx1 H.size w1 X (xs (nI i + 1).toNatClampNeg) (xs (nI i + 2).toNatClampNeg) (xs (nI i + 3).toNatClampNeg) (xs (nI i + 4).toNatClampNeg) (xs (nI i + 5).toNatClampNeg) r1 e1) rfl rfl (Nat.le_of_ble_eq_true rfl) (Nat.le_of_ble_eq_true rfl) m_534 m_535 m_0 m_536 (by decide +kernel) (x_preW hS hH1 hK hX hTf hN) rfl rfl hl.1 rfl (lv_room (Nat.le_of_ble_eq_true rfl)) d_Law_law_543 ⟨by show _ ≤ 615714; omega, by show _ ≤ 7248928; omega⟩) rfl hH1 hA hS (fun H locs hH1 hS hsz hk => ?_)
        have hH2 := hH2.other hap hk
        refine lv_istore (lv' := [(5, .int r1.1), (0, .ref b), (1, .ref (ad1 X)), (2, .ref (ad2 Mo)), (3, .ref (ad1 O)), (4, .int (nI i))]) hx hb d_Law_law_546 hl (by decide) rfl (fun ls hl => ?_)
        refine lv_aload_n hx hb d_Law_law_548 rfl (lv_at hl 3 rfl) ?_
        refine lv_aload_n hx hb d_Law_law_549 rfl (lv_at hl 1 rfl) ?_
        refine lv_iload hx hb d_Law_law_550 (lv_at hl 5 rfl) ?_
        refine lv_iconst (v := 1) hx hb d_Law_law_552 (by decide) ?_
        refine lv_iadd hx hb d_Law_law_553 ?_
        refine va_sld hx hb hXs hbl hbA hS v1 d_Law_law_554 ?_
        refine lv_aload_n hx hb d_Law_law_555 rfl (lv_at hl 1 rfl) ?_
        refine lv_iload hx hb d_Law_law_556 (lv_at hl 5 rfl) ?_
        refine lv_iconst (v := 2) hx hb d_Law_law_558 (by decide) ?_
        refine lv_iadd hx hb d_Law_law_559 ?_
        refine va_sld hx hb hXs hbl hbA hS v2 d_Law_law_560 ?_
        refine lv_aload_n hx hb d_Law_law_561 rfl (lv_at hl 1 rfl) ?_
        refine lv_iload hx hb d_Law_law_562 (lv_at hl 5 rfl) ?_
        refine lv_iconst (v := 3) hx hb d_Law_law_564 (by decide) ?_
        refine lv_iadd hx hb d_Law_law_565 ?_
        refine va_sld hx hb hXs hbl hbA hS v3 d_Law_law_566 ?_
        refine lv_aload_n hx hb d_Law_law_567 rfl (lv_at hl 1 rfl) ?_
        refine lv_iload hx hb d_Law_law_568 (lv_at hl 5 rfl) ?_
        refine lv_iconst (v := 4) hx hb d_Law_law_570 (by decide) ?_
        refine lv_iadd hx hb d_Law_law_571 ?_
        refine va_sld hx hb hXs hbl hbA hS v4 d_Law_law_572 ?_
        refine lv_aload_n hx hb d_Law_law_573 rfl (lv_at hl 1 rfl) ?_
        refine lv_iload hx hb d_Law_law_574 (lv_at hl 5 rfl) ?_
        refine lv_iconst (v := 5) hx hb d_Law_law_576 (by decide) ?_
        refine lv_iadd hx hb d_Law_law_577 ?_
        refine va_sld hx hb hXs hbl hbA hS v5 d_Law_law_578 ?_
        refine x_callW (st1 := []) (x_runV (As := [.int (xs (nI i + 1).toNatClampNeg), .int (xs (nI i + 2).toNatClampNeg), .int (xs (nI i + 3).toNatClampNeg), .int (xs (nI i + 4).toNatClampNeg), .int (xs (nI i + 5).toNatClampNeg)]) (rest := []) ⟨hx, hb, hml, hown, hts⟩ (x_wOf (c_Mod_outside l D aC ad2 T2 nx2 H.size w2 Mo (xs (nI i + 1).toNatClampNeg) (xs (nI i + 2).toNatClampNeg) (xs (nI i + 3).toNatClampNeg) (xs (nI i + 4).toNatClampNeg) (xs (nI i + 5).toNatClampNeg) r2 e2)) (cwV 5 hts (x_gV m_998 m_999 m_1000 m_13 m_1001) rfl rfl rfl ⟨rfl, pd_Mod_outside⟩ ⟨Nat.le_of_ble_eq_true rfl, Nat.le_of_ble_eq_true rfl⟩) hH2 hK hX hTM (by decide) rfl rfl rfl hl.1 rfl (lv_room (Nat.le_of_ble_eq_true rfl)) d_Law_law_579 ⟨by show _ ≤ 615714; omega, by show _ ≤ 7248928; omega⟩) rfl hH2 hA hS (fun H locs hH2 hS hsz hk => ?_)
        have hH1 := hH1.other (fun a c h1 h2 h => hap c a h2 h1 h.symm) hk
        refine lv_aload_n hx hb d_Law_law_582 rfl (lv_at hl 3 rfl) ?_
        refine x_callP (st1 := [.int r1.1]) (x_runV (As := []) (rest := []) ⟨hx, hb, hml, hown, hts⟩ (c_Mod_thrown l D aC ad2 T2 nx2 H.size r2 Mo r1.1 e3) (cwV 0 hts (x_gV m_949 m_950 m_951 m_13 m_952) rfl rfl rfl ⟨rfl, pd_Mod_thrown⟩ ⟨Nat.le_of_ble_eq_true rfl, Nat.le_of_ble_eq_true rfl⟩) hH2 hK hX hTM (by decide) rfl rfl rfl hl.1 rfl (lv_room (Nat.le_of_ble_eq_true rfl)) d_Law_law_583 ⟨by show _ ≤ 615714; omega, by show _ ≤ 7248928; omega⟩) rfl ?_
        refine lv_iload hx hb d_Law_law_586 (lv_at hl 0 rfl) ?_
        refine lv_icmp_eq (tgt := 593) hx hb d_Law_law_588 (by decide) (fun _ => ?_) (fun h => absurd rfl h)
        refine lv_goto (tgt := 1144) hx hb d_Law_law_593 (by decide) ?_
        exact tail _ _ r1.2 r2 H locs ls (by omega) (by omega) hSim hH1 hH2 hS (lv_sub hl [1, 2, 3, 4, 5] rfl)
      by_cases c27 : v = 7
      · refine x_tin (k := 7) (off := 546) (tgt := 596) c27 hx hb d_Law_law_50 (by decide) (by decide) rfl (by decide) ?_
        obtain ⟨r1, r2, e1, e2, e3, hSim⟩ := s7 w1 w2 (xs (nI i + 1).toNatClampNeg) (xs (nI i + 2).toNatClampNeg) (xs (nI i + 3).toNatClampNeg) hSim
        refine lv_aload_n hx hb d_Law_law_596 rfl (lv_at hl 1 rfl) ?_
        refine lv_aload_n hx hb d_Law_law_597 rfl (lv_at hl 0 rfl) ?_
        refine lv_iload hx hb d_Law_law_598 (lv_at hl 4 rfl) ?_
        refine lv_iconst (v := 1) hx hb d_Law_law_600 (by decide) ?_
        refine lv_iadd hx hb d_Law_law_601 ?_
        refine va_sld hx hb hXs hbl hbA hS v1 d_Law_law_602 ?_
        refine lv_aload_n hx hb d_Law_law_603 rfl (lv_at hl 0 rfl) ?_
        refine lv_iload hx hb d_Law_law_604 (lv_at hl 4 rfl) ?_
        refine lv_iconst (v := 2) hx hb d_Law_law_606 (by decide) ?_
        refine lv_iadd hx hb d_Law_law_607 ?_
        refine va_sld hx hb hXs hbl hbA hS v2 d_Law_law_608 ?_
        refine lv_aload_n hx hb d_Law_law_609 rfl (lv_at hl 0 rfl) ?_
        refine lv_iload hx hb d_Law_law_610 (lv_at hl 4 rfl) ?_
        refine lv_iconst (v := 3) hx hb d_Law_law_612 (by decide) ?_
        refine lv_iadd hx hb d_Law_law_613 ?_
        refine va_sld hx hb hXs hbl hbA hS v3 d_Law_law_614 ?_
        refine x_callW (st1 := [.int r1.1]) (x_runSW (n := 4) (As := [.ref (ad1 X), .int (xs (nI i + 1).toNatClampNeg), .int (xs (nI i + 2).toNatClampNeg), .int (xs (nI i + 3).toNatClampNeg)]) (rest := []) ⟨hx, hb, hml, hown, hts⟩ (c_Law_inside l hfl D aC ad1 T1 nx1 H.size w1 X (xs (nI i + 1).toNatClampNeg) (xs (nI i + 2).toNatClampNeg) (xs (nI i + 3).toNatClampNeg) r1 e1) rfl rfl (Nat.le_of_ble_eq_true rfl) (Nat.le_of_ble_eq_true rfl) m_544 m_545 m_0 m_546 (by decide +kernel) (x_preW hS hH1 hK hX hTf hN) rfl rfl hl.1 rfl (lv_room (Nat.le_of_ble_eq_true rfl)) d_Law_law_615 ⟨by show _ ≤ 615714; omega, by show _ ≤ 7248928; omega⟩) rfl hH1 hA hS (fun H locs hH1 hS hsz hk => ?_)
        have hH2 := hH2.other hap hk
        refine lv_istore (lv' := [(5, .int r1.1), (0, .ref b), (1, .ref (ad1 X)), (2, .ref (ad2 Mo)), (3, .ref (ad1 O)), (4, .int (nI i))]) hx hb d_Law_law_618 hl (by decide) rfl (fun ls hl => ?_)
        refine lv_aload_n hx hb d_Law_law_620 rfl (lv_at hl 3 rfl) ?_
        refine lv_aload_n hx hb d_Law_law_621 rfl (lv_at hl 1 rfl) ?_
        refine lv_iload hx hb d_Law_law_622 (lv_at hl 5 rfl) ?_
        refine lv_iconst (v := 1) hx hb d_Law_law_624 (by decide) ?_
        refine lv_iadd hx hb d_Law_law_625 ?_
        refine va_sld hx hb hXs hbl hbA hS v1 d_Law_law_626 ?_
        refine lv_aload_n hx hb d_Law_law_627 rfl (lv_at hl 1 rfl) ?_
        refine lv_iload hx hb d_Law_law_628 (lv_at hl 5 rfl) ?_
        refine lv_iconst (v := 2) hx hb d_Law_law_630 (by decide) ?_
        refine lv_iadd hx hb d_Law_law_631 ?_
        refine va_sld hx hb hXs hbl hbA hS v2 d_Law_law_632 ?_
        refine lv_aload_n hx hb d_Law_law_633 rfl (lv_at hl 1 rfl) ?_
        refine lv_iload hx hb d_Law_law_634 (lv_at hl 5 rfl) ?_
        refine lv_iconst (v := 3) hx hb d_Law_law_636 (by decide) ?_
        refine lv_iadd hx hb d_Law_law_637 ?_
        refine va_sld hx hb hXs hbl hbA hS v3 d_Law_law_638 ?_
        refine x_callW (st1 := []) (x_runV (As := [.int (xs (nI i + 1).toNatClampNeg), .int (xs (nI i + 2).toNatClampNeg), .int (xs (nI i + 3).toNatClampNeg)]) (rest := []) ⟨hx, hb, hml, hown, hts⟩ (x_wOf (c_Mod_inside l D aC ad2 T2 nx2 H.size w2 Mo (xs (nI i + 1).toNatClampNeg) (xs (nI i + 2).toNatClampNeg) (xs (nI i + 3).toNatClampNeg) r2 e2)) (cwV 3 hts (x_gV m_1004 m_1005 m_1006 m_13 m_1007) rfl rfl rfl ⟨rfl, pd_Mod_inside⟩ ⟨Nat.le_of_ble_eq_true rfl, Nat.le_of_ble_eq_true rfl⟩) hH2 hK hX hTM (by decide) rfl rfl rfl hl.1 rfl (lv_room (Nat.le_of_ble_eq_true rfl)) d_Law_law_639 ⟨by show _ ≤ 615714; omega, by show _ ≤ 7248928; omega⟩) rfl hH2 hA hS (fun H locs hH2 hS hsz hk => ?_)
        have hH1 := hH1.other (fun a c h1 h2 h => hap c a h2 h1 h.symm) hk
        refine lv_aload_n hx hb d_Law_law_642 rfl (lv_at hl 3 rfl) ?_
        refine x_callP (st1 := [.int r1.1]) (x_runV (As := []) (rest := []) ⟨hx, hb, hml, hown, hts⟩ (c_Mod_thrown l D aC ad2 T2 nx2 H.size r2 Mo r1.1 e3) (cwV 0 hts (x_gV m_949 m_950 m_951 m_13 m_952) rfl rfl rfl ⟨rfl, pd_Mod_thrown⟩ ⟨Nat.le_of_ble_eq_true rfl, Nat.le_of_ble_eq_true rfl⟩) hH2 hK hX hTM (by decide) rfl rfl rfl hl.1 rfl (lv_room (Nat.le_of_ble_eq_true rfl)) d_Law_law_643 ⟨by show _ ≤ 615714; omega, by show _ ≤ 7248928; omega⟩) rfl ?_
        refine lv_iload hx hb d_Law_law_646 (lv_at hl 0 rfl) ?_
        refine lv_icmp_eq (tgt := 653) hx hb d_Law_law_648 (by decide) (fun _ => ?_) (fun h => absurd rfl h)
        refine lv_goto (tgt := 1144) hx hb d_Law_law_653 (by decide) ?_
        exact tail _ _ r1.2 r2 H locs ls (by omega) (by omega) hSim hH1 hH2 hS (lv_sub hl [1, 2, 3, 4, 5] rfl)
      by_cases c28 : v = 8
      · refine x_tin (k := 8) (off := 606) (tgt := 656) c28 hx hb d_Law_law_50 (by decide) (by decide) rfl (by decide) ?_
        obtain ⟨r1, r2, e1, e2, e3, e4, hSim⟩ := s8 w1 w2 (xs (nI i + 1).toNatClampNeg) (xs (nI i + 2).toNatClampNeg) hSim
        refine lv_aload_n hx hb d_Law_law_656 rfl (lv_at hl 1 rfl) ?_
        refine lv_aload_n hx hb d_Law_law_657 rfl (lv_at hl 0 rfl) ?_
        refine lv_iload hx hb d_Law_law_658 (lv_at hl 4 rfl) ?_
        refine lv_iconst (v := 1) hx hb d_Law_law_660 (by decide) ?_
        refine lv_iadd hx hb d_Law_law_661 ?_
        refine va_sld hx hb hXs hbl hbA hS v1 d_Law_law_662 ?_
        refine lv_aload_n hx hb d_Law_law_663 rfl (lv_at hl 0 rfl) ?_
        refine lv_iload hx hb d_Law_law_664 (lv_at hl 4 rfl) ?_
        refine lv_iconst (v := 2) hx hb d_Law_law_666 (by decide) ?_
        refine lv_iadd hx hb d_Law_law_667 ?_
        refine va_sld hx hb hXs hbl hbA hS v2 d_Law_law_668 ?_
        refine lv_aload_n hx hb d_Law_law_669 rfl (lv_at hl 3 rfl) ?_
        refine x_callW (st1 := [.int r1.1]) (x_runSW (n := 4) (As := [.ref (ad1 X), .int (xs (nI i + 1).toNatClampNeg), .int (xs (nI i + 2).toNatClampNeg), .ref (ad1 O)]) (rest := []) ⟨hx, hb, hml, hown, hts⟩ (c_Law_water l hfl D aC ad1 T1 nx1 H.size w1 X (xs (nI i + 1).toNatClampNeg) (xs (nI i + 2).toNatClampNeg) O r1 e1) rfl rfl (Nat.le_of_ble_eq_true rfl) (Nat.le_of_ble_eq_true rfl) m_551 m_552 m_0 m_553 (by decide +kernel) (x_preW hS hH1 hK hX hTf hN) rfl rfl hl.1 rfl (lv_room (Nat.le_of_ble_eq_true rfl)) d_Law_law_670 ⟨by show _ ≤ 615714; omega, by show _ ≤ 7248928; omega⟩) rfl hH1 hA hS (fun H locs hH1 hS hsz hk => ?_)
        have hH2 := hH2.other hap hk
        refine lv_istore (lv' := [(5, .int r1.1), (0, .ref b), (1, .ref (ad1 X)), (2, .ref (ad2 Mo)), (3, .ref (ad1 O)), (4, .int (nI i))]) hx hb d_Law_law_673 hl (by decide) rfl (fun ls hl => ?_)
        refine lv_aload_n hx hb d_Law_law_675 rfl (lv_at hl 3 rfl) ?_
        refine lv_aload_n hx hb d_Law_law_676 rfl (lv_at hl 1 rfl) ?_
        refine lv_iload hx hb d_Law_law_677 (lv_at hl 5 rfl) ?_
        refine lv_iconst (v := 1) hx hb d_Law_law_679 (by decide) ?_
        refine lv_iadd hx hb d_Law_law_680 ?_
        refine va_sld hx hb hXs hbl hbA hS v1 d_Law_law_681 ?_
        refine lv_aload_n hx hb d_Law_law_682 rfl (lv_at hl 1 rfl) ?_
        refine lv_iload hx hb d_Law_law_683 (lv_at hl 5 rfl) ?_
        refine lv_iconst (v := 2) hx hb d_Law_law_685 (by decide) ?_
        refine lv_iadd hx hb d_Law_law_686 ?_
        refine va_sld hx hb hXs hbl hbA hS v2 d_Law_law_687 ?_
        refine x_callW (st1 := [.int r2.1]) (x_runV (As := [.int (xs (nI i + 1).toNatClampNeg), .int (xs (nI i + 2).toNatClampNeg)]) (rest := []) ⟨hx, hb, hml, hown, hts⟩ (x_wOf (c_Mod_water l D aC ad2 T2 nx2 H.size w2 Mo (xs (nI i + 1).toNatClampNeg) (xs (nI i + 2).toNatClampNeg) r2 e2)) (cwV 2 hts (x_gV m_1008 m_1009 m_1010 m_13 m_1011) rfl rfl rfl ⟨rfl, pd_Mod_water⟩ ⟨Nat.le_of_ble_eq_true rfl, Nat.le_of_ble_eq_true rfl⟩) hH2 hK hX hTM (by decide) rfl rfl rfl hl.1 rfl (lv_room (Nat.le_of_ble_eq_true rfl)) d_Law_law_688 ⟨by show _ ≤ 615714; omega, by show _ ≤ 7248928; omega⟩) rfl hH2 hA hS (fun H locs hH2 hS hsz hk => ?_)
        have hH1 := hH1.other (fun a c h1 h2 h => hap c a h2 h1 h.symm) hk
        refine lv_istore (lv' := [(6, .int r2.1), (5, .int r1.1), (0, .ref b), (1, .ref (ad1 X)), (2, .ref (ad2 Mo)), (3, .ref (ad1 O)), (4, .int (nI i))]) hx hb d_Law_law_691 hl (by decide) rfl (fun ls hl => ?_)
        refine lv_aload_n hx hb d_Law_law_693 rfl (lv_at hl 4 rfl) ?_
        refine x_callP (st1 := [.int r1.1]) (x_runV (As := []) (rest := []) ⟨hx, hb, hml, hown, hts⟩ (c_Mod_thrown l D aC ad2 T2 nx2 H.size r2.2 Mo r1.1 e3) (cwV 0 hts (x_gV m_949 m_950 m_951 m_13 m_952) rfl rfl rfl ⟨rfl, pd_Mod_thrown⟩ ⟨Nat.le_of_ble_eq_true rfl, Nat.le_of_ble_eq_true rfl⟩) hH2 hK hX hTM (by decide) rfl rfl rfl hl.1 rfl (lv_room (Nat.le_of_ble_eq_true rfl)) d_Law_law_694 ⟨by show _ ≤ 615714; omega, by show _ ≤ 7248928; omega⟩) rfl ?_
        refine lv_iload hx hb d_Law_law_697 (lv_at hl 1 rfl) ?_
        refine lv_icmp_eq (tgt := 704) hx hb d_Law_law_699 (by decide) (fun _ => ?_) (fun h => absurd rfl h)
        refine lv_iload hx hb d_Law_law_704 (lv_at hl 1 rfl) ?_
        refine lv_if_ne (tgt := 721) hx hb d_Law_law_706 (by decide) (fun _ => ?_) (fun h0 => ?_)
        · refine lv_goto (tgt := 1144) hx hb d_Law_law_721 (by decide) ?_
          exact tail _ _ r1.2 r2.2 H locs ls (by omega) (by omega) hSim hH1 hH2 hS (lv_sub hl [2, 3, 4, 5, 6] rfl)
        · refine lv_aload_n hx hb d_Law_law_709 rfl (lv_at hl 5 rfl) ?_
          refine lv_iconst (v := 0) hx hb d_Law_law_710 (by decide) ?_
          refine x_lald hx hb hK hH1 hTO 1 rfl x_v01 d_Law_law_711 ?_
          refine lv_iload hx hb d_Law_law_712 (lv_at hl 0 rfl) ?_
          refine lv_i2l (v := r2.1.toInt64) hx hb d_Law_law_714 rfl ?_
          refine W.lcmp hx hb d_Law_law_715 ?_
          refine lv_if_eq (tgt := 721) hx hb d_Law_law_716 (by decide) (fun _ => ?_) (fun h => absurd (by rw [e4 h0]; simp [lg_cmp]) h)
          refine lv_goto (tgt := 1144) hx hb d_Law_law_721 (by decide) ?_
          exact tail _ _ r1.2 r2.2 H locs ls (by omega) (by omega) hSim hH1 hH2 hS (lv_sub hl [2, 3, 4, 5, 6] rfl)
      by_cases c29 : v = 9
      · refine x_tin (k := 9) (off := 674) (tgt := 724) c29 hx hb d_Law_law_50 (by decide) (by decide) rfl (by decide) ?_
        obtain ⟨r1, r2, e1, e2, e3, e4, hSim⟩ := s9 w1 w2 (xs (nI i + 1).toNatClampNeg) (xs (nI i + 2).toNatClampNeg) hSim
        refine lv_aload_n hx hb d_Law_law_724 rfl (lv_at hl 1 rfl) ?_
        refine lv_aload_n hx hb d_Law_law_725 rfl (lv_at hl 0 rfl) ?_
        refine lv_iload hx hb d_Law_law_726 (lv_at hl 4 rfl) ?_
        refine lv_iconst (v := 1) hx hb d_Law_law_728 (by decide) ?_
        refine lv_iadd hx hb d_Law_law_729 ?_
        refine va_sld hx hb hXs hbl hbA hS v1 d_Law_law_730 ?_
        refine lv_aload_n hx hb d_Law_law_731 rfl (lv_at hl 0 rfl) ?_
        refine lv_iload hx hb d_Law_law_732 (lv_at hl 4 rfl) ?_
        refine lv_iconst (v := 2) hx hb d_Law_law_734 (by decide) ?_
        refine lv_iadd hx hb d_Law_law_735 ?_
        refine va_sld hx hb hXs hbl hbA hS v2 d_Law_law_736 ?_
        refine lv_aload_n hx hb d_Law_law_737 rfl (lv_at hl 3 rfl) ?_
        refine x_callW (st1 := [.int r1.1]) (x_runSW (n := 4) (As := [.ref (ad1 X), .int (xs (nI i + 1).toNatClampNeg), .int (xs (nI i + 2).toNatClampNeg), .ref (ad1 O)]) (rest := []) ⟨hx, hb, hml, hown, hts⟩ (c_Law_leak l hfl D aC ad1 T1 nx1 H.size w1 X (xs (nI i + 1).toNatClampNeg) (xs (nI i + 2).toNatClampNeg) O r1 e1) rfl rfl (Nat.le_of_ble_eq_true rfl) (Nat.le_of_ble_eq_true rfl) m_566 m_567 m_0 m_568 (by decide +kernel) (x_preW hS hH1 hK hX hTf hN) rfl rfl hl.1 rfl (lv_room (Nat.le_of_ble_eq_true rfl)) d_Law_law_738 ⟨by show _ ≤ 615714; omega, by show _ ≤ 7248928; omega⟩) rfl hH1 hA hS (fun H locs hH1 hS hsz hk => ?_)
        have hH2 := hH2.other hap hk
        refine lv_istore (lv' := [(5, .int r1.1), (0, .ref b), (1, .ref (ad1 X)), (2, .ref (ad2 Mo)), (3, .ref (ad1 O)), (4, .int (nI i))]) hx hb d_Law_law_741 hl (by decide) rfl (fun ls hl => ?_)
        refine lv_aload_n hx hb d_Law_law_743 rfl (lv_at hl 3 rfl) ?_
        refine lv_aload_n hx hb d_Law_law_744 rfl (lv_at hl 1 rfl) ?_
        refine lv_iload hx hb d_Law_law_745 (lv_at hl 5 rfl) ?_
        refine lv_iconst (v := 1) hx hb d_Law_law_747 (by decide) ?_
        refine lv_iadd hx hb d_Law_law_748 ?_
        refine va_sld hx hb hXs hbl hbA hS v1 d_Law_law_749 ?_
        refine lv_aload_n hx hb d_Law_law_750 rfl (lv_at hl 1 rfl) ?_
        refine lv_iload hx hb d_Law_law_751 (lv_at hl 5 rfl) ?_
        refine lv_iconst (v := 2) hx hb d_Law_law_753 (by decide) ?_
        refine lv_iadd hx hb d_Law_law_754 ?_
        refine va_sld hx hb hXs hbl hbA hS v2 d_Law_law_755 ?_
        refine x_callW (st1 := [.int r2.1]) (x_runV (As := [.int (xs (nI i + 1).toNatClampNeg), .int (xs (nI i + 2).toNatClampNeg)]) (rest := []) ⟨hx, hb, hml, hown, hts⟩ (x_wOf (c_Mod_leak l D aC ad2 T2 nx2 H.size w2 Mo (xs (nI i + 1).toNatClampNeg) (xs (nI i + 2).toNatClampNeg) r2 e2)) (cwV 2 hts (x_gV m_1012 m_1013 m_1014 m_13 m_1015) rfl rfl rfl ⟨rfl, pd_Mod_leak⟩ ⟨Nat.le_of_ble_eq_true rfl, Nat.le_of_ble_eq_true rfl⟩) hH2 hK hX hTM (by decide) rfl rfl rfl hl.1 rfl (lv_room (Nat.le_of_ble_eq_true rfl)) d_Law_law_756 ⟨by show _ ≤ 615714; omega, by show _ ≤ 7248928; omega⟩) rfl hH2 hA hS (fun H locs hH2 hS hsz hk => ?_)
        have hH1 := hH1.other (fun a c h1 h2 h => hap c a h2 h1 h.symm) hk
        refine lv_istore (lv' := [(6, .int r2.1), (5, .int r1.1), (0, .ref b), (1, .ref (ad1 X)), (2, .ref (ad2 Mo)), (3, .ref (ad1 O)), (4, .int (nI i))]) hx hb d_Law_law_759 hl (by decide) rfl (fun ls hl => ?_)
        refine lv_aload_n hx hb d_Law_law_761 rfl (lv_at hl 4 rfl) ?_
        refine x_callP (st1 := [.int r1.1]) (x_runV (As := []) (rest := []) ⟨hx, hb, hml, hown, hts⟩ (c_Mod_thrown l D aC ad2 T2 nx2 H.size r2.2 Mo r1.1 e3) (cwV 0 hts (x_gV m_949 m_950 m_951 m_13 m_952) rfl rfl rfl ⟨rfl, pd_Mod_thrown⟩ ⟨Nat.le_of_ble_eq_true rfl, Nat.le_of_ble_eq_true rfl⟩) hH2 hK hX hTM (by decide) rfl rfl rfl hl.1 rfl (lv_room (Nat.le_of_ble_eq_true rfl)) d_Law_law_762 ⟨by show _ ≤ 615714; omega, by show _ ≤ 7248928; omega⟩) rfl ?_
        refine lv_iload hx hb d_Law_law_765 (lv_at hl 1 rfl) ?_
        refine lv_icmp_eq (tgt := 772) hx hb d_Law_law_767 (by decide) (fun _ => ?_) (fun h => absurd rfl h)
        refine lv_iload hx hb d_Law_law_772 (lv_at hl 1 rfl) ?_
        refine lv_if_ne (tgt := 789) hx hb d_Law_law_774 (by decide) (fun _ => ?_) (fun h0 => ?_)
        · refine lv_goto (tgt := 1144) hx hb d_Law_law_789 (by decide) ?_
          exact tail _ _ r1.2 r2.2 H locs ls (by omega) (by omega) hSim hH1 hH2 hS (lv_sub hl [2, 3, 4, 5, 6] rfl)
        · refine lv_aload_n hx hb d_Law_law_777 rfl (lv_at hl 5 rfl) ?_
          refine lv_iconst (v := 0) hx hb d_Law_law_778 (by decide) ?_
          refine x_lald hx hb hK hH1 hTO 1 rfl x_v01 d_Law_law_779 ?_
          refine lv_iload hx hb d_Law_law_780 (lv_at hl 0 rfl) ?_
          refine lv_i2l (v := r2.1.toInt64) hx hb d_Law_law_782 rfl ?_
          refine W.lcmp hx hb d_Law_law_783 ?_
          refine lv_if_eq (tgt := 789) hx hb d_Law_law_784 (by decide) (fun _ => ?_) (fun h => absurd (by rw [e4 h0]; simp [lg_cmp]) h)
          refine lv_goto (tgt := 1144) hx hb d_Law_law_789 (by decide) ?_
          exact tail _ _ r1.2 r2.2 H locs ls (by omega) (by omega) hSim hH1 hH2 hS (lv_sub hl [2, 3, 4, 5, 6] rfl)
      by_cases c30 : v = 10
      · refine x_tin (k := 10) (off := 742) (tgt := 792) c30 hx hb d_Law_law_50 (by decide) (by decide) rfl (by decide) ?_
        obtain ⟨r1, r2, e1, e2, e3, e4, hSim⟩ := s10 w1 w2 (xs (nI i + 1).toNatClampNeg) (xs (nI i + 2).toNatClampNeg) (xs (nI i + 3).toNatClampNeg) (xs (nI i + 4).toNatClampNeg) hSim
        refine lv_aload_n hx hb d_Law_law_792 rfl (lv_at hl 1 rfl) ?_
        refine lv_aload_n hx hb d_Law_law_793 rfl (lv_at hl 0 rfl) ?_
        refine lv_iload hx hb d_Law_law_794 (lv_at hl 4 rfl) ?_
        refine lv_iconst (v := 1) hx hb d_Law_law_796 (by decide) ?_
        refine lv_iadd hx hb d_Law_law_797 ?_
        refine va_sld hx hb hXs hbl hbA hS v1 d_Law_law_798 ?_
        refine lv_aload_n hx hb d_Law_law_799 rfl (lv_at hl 0 rfl) ?_
        refine lv_iload hx hb d_Law_law_800 (lv_at hl 4 rfl) ?_
        refine lv_iconst (v := 2) hx hb d_Law_law_802 (by decide) ?_
        refine lv_iadd hx hb d_Law_law_803 ?_
        refine va_sld hx hb hXs hbl hbA hS v2 d_Law_law_804 ?_
        refine lv_aload_n hx hb d_Law_law_805 rfl (lv_at hl 0 rfl) ?_
        refine lv_iload hx hb d_Law_law_806 (lv_at hl 4 rfl) ?_
        refine lv_iconst (v := 3) hx hb d_Law_law_808 (by decide) ?_
        refine lv_iadd hx hb d_Law_law_809 ?_
        refine va_sld hx hb hXs hbl hbA hS v3 d_Law_law_810 ?_
        refine lv_aload_n hx hb d_Law_law_811 rfl (lv_at hl 0 rfl) ?_
        refine lv_iload hx hb d_Law_law_812 (lv_at hl 4 rfl) ?_
        refine lv_iconst (v := 4) hx hb d_Law_law_814 (by decide) ?_
        refine lv_iadd hx hb d_Law_law_815 ?_
        refine va_sld hx hb hXs hbl hbA hS v4 d_Law_law_816 ?_
        refine lv_aload_n hx hb d_Law_law_817 rfl (lv_at hl 3 rfl) ?_
        refine x_callW (st1 := [.int r1.1]) (x_runSW (n := 6) (As := [.ref (ad1 X), .int (xs (nI i + 1).toNatClampNeg), .int (xs (nI i + 2).toNatClampNeg), .int (xs (nI i + 3).toNatClampNeg), .int (xs (nI i + 4).toNatClampNeg), .ref (ad1 O)]) (rest := []) ⟨hx, hb, hml, hown, hts⟩ (c_Law_growth l hfl D aC ad1 T1 nx1 H.size w1 X (xs (nI i + 1).toNatClampNeg) (xs (nI i + 2).toNatClampNeg) (xs (nI i + 3).toNatClampNeg) (xs (nI i + 4).toNatClampNeg) O r1 e1) rfl rfl (Nat.le_of_ble_eq_true rfl) (Nat.le_of_ble_eq_true rfl) m_573 m_574 m_0 m_575 (by decide +kernel) (x_preW hS hH1 hK hX hTf hN) rfl rfl hl.1 rfl (lv_room (Nat.le_of_ble_eq_true rfl)) d_Law_law_818 ⟨by show _ ≤ 615714; omega, by show _ ≤ 7248928; omega⟩) rfl hH1 hA hS (fun H locs hH1 hS hsz hk => ?_)
        have hH2 := hH2.other hap hk
        refine lv_istore (lv' := [(5, .int r1.1), (0, .ref b), (1, .ref (ad1 X)), (2, .ref (ad2 Mo)), (3, .ref (ad1 O)), (4, .int (nI i))]) hx hb d_Law_law_821 hl (by decide) rfl (fun ls hl => ?_)
        refine lv_aload_n hx hb d_Law_law_823 rfl (lv_at hl 3 rfl) ?_
        refine lv_aload_n hx hb d_Law_law_824 rfl (lv_at hl 1 rfl) ?_
        refine lv_iload hx hb d_Law_law_825 (lv_at hl 5 rfl) ?_
        refine lv_iconst (v := 1) hx hb d_Law_law_827 (by decide) ?_
        refine lv_iadd hx hb d_Law_law_828 ?_
        refine va_sld hx hb hXs hbl hbA hS v1 d_Law_law_829 ?_
        refine lv_aload_n hx hb d_Law_law_830 rfl (lv_at hl 1 rfl) ?_
        refine lv_iload hx hb d_Law_law_831 (lv_at hl 5 rfl) ?_
        refine lv_iconst (v := 2) hx hb d_Law_law_833 (by decide) ?_
        refine lv_iadd hx hb d_Law_law_834 ?_
        refine va_sld hx hb hXs hbl hbA hS v2 d_Law_law_835 ?_
        refine lv_aload_n hx hb d_Law_law_836 rfl (lv_at hl 1 rfl) ?_
        refine lv_iload hx hb d_Law_law_837 (lv_at hl 5 rfl) ?_
        refine lv_iconst (v := 3) hx hb d_Law_law_839 (by decide) ?_
        refine lv_iadd hx hb d_Law_law_840 ?_
        refine va_sld hx hb hXs hbl hbA hS v3 d_Law_law_841 ?_
        refine lv_aload_n hx hb d_Law_law_842 rfl (lv_at hl 1 rfl) ?_
        refine lv_iload hx hb d_Law_law_843 (lv_at hl 5 rfl) ?_
        refine lv_iconst (v := 4) hx hb d_Law_law_845 (by decide) ?_
        refine lv_iadd hx hb d_Law_law_846 ?_
        refine va_sld hx hb hXs hbl hbA hS v4 d_Law_law_847 ?_
        refine x_callW (st1 := [.int r2.1]) (x_runV (As := [.int (xs (nI i + 1).toNatClampNeg), .int (xs (nI i + 2).toNatClampNeg), .int (xs (nI i + 3).toNatClampNeg), .int (xs (nI i + 4).toNatClampNeg)]) (rest := []) ⟨hx, hb, hml, hown, hts⟩ (x_wOf (c_Mod_growth l D aC ad2 T2 nx2 H.size w2 Mo (xs (nI i + 1).toNatClampNeg) (xs (nI i + 2).toNatClampNeg) (xs (nI i + 3).toNatClampNeg) (xs (nI i + 4).toNatClampNeg) r2 e2)) (cwV 4 hts (x_gV m_1016 m_1017 m_1018 m_13 m_1019) rfl rfl rfl ⟨rfl, pd_Mod_growth⟩ ⟨Nat.le_of_ble_eq_true rfl, Nat.le_of_ble_eq_true rfl⟩) hH2 hK hX hTM (by decide) rfl rfl rfl hl.1 rfl (lv_room (Nat.le_of_ble_eq_true rfl)) d_Law_law_848 ⟨by show _ ≤ 615714; omega, by show _ ≤ 7248928; omega⟩) rfl hH2 hA hS (fun H locs hH2 hS hsz hk => ?_)
        have hH1 := hH1.other (fun a c h1 h2 h => hap c a h2 h1 h.symm) hk
        refine lv_istore (lv' := [(6, .int r2.1), (5, .int r1.1), (0, .ref b), (1, .ref (ad1 X)), (2, .ref (ad2 Mo)), (3, .ref (ad1 O)), (4, .int (nI i))]) hx hb d_Law_law_851 hl (by decide) rfl (fun ls hl => ?_)
        refine lv_aload_n hx hb d_Law_law_853 rfl (lv_at hl 4 rfl) ?_
        refine x_callP (st1 := [.int r1.1]) (x_runV (As := []) (rest := []) ⟨hx, hb, hml, hown, hts⟩ (c_Mod_thrown l D aC ad2 T2 nx2 H.size r2.2 Mo r1.1 e3) (cwV 0 hts (x_gV m_949 m_950 m_951 m_13 m_952) rfl rfl rfl ⟨rfl, pd_Mod_thrown⟩ ⟨Nat.le_of_ble_eq_true rfl, Nat.le_of_ble_eq_true rfl⟩) hH2 hK hX hTM (by decide) rfl rfl rfl hl.1 rfl (lv_room (Nat.le_of_ble_eq_true rfl)) d_Law_law_854 ⟨by show _ ≤ 615714; omega, by show _ ≤ 7248928; omega⟩) rfl ?_
        refine lv_iload hx hb d_Law_law_857 (lv_at hl 1 rfl) ?_
        refine lv_icmp_eq (tgt := 864) hx hb d_Law_law_859 (by decide) (fun _ => ?_) (fun h => absurd rfl h)
        refine lv_iload hx hb d_Law_law_864 (lv_at hl 1 rfl) ?_
        refine lv_if_ne (tgt := 881) hx hb d_Law_law_866 (by decide) (fun _ => ?_) (fun h0 => ?_)
        · refine lv_goto (tgt := 1144) hx hb d_Law_law_881 (by decide) ?_
          exact tail _ _ r1.2 r2.2 H locs ls (by omega) (by omega) hSim hH1 hH2 hS (lv_sub hl [2, 3, 4, 5, 6] rfl)
        · refine lv_aload_n hx hb d_Law_law_869 rfl (lv_at hl 5 rfl) ?_
          refine lv_iconst (v := 0) hx hb d_Law_law_870 (by decide) ?_
          refine x_lald hx hb hK hH1 hTO 1 rfl x_v01 d_Law_law_871 ?_
          refine lv_iload hx hb d_Law_law_872 (lv_at hl 0 rfl) ?_
          refine lv_i2l (v := r2.1.toInt64) hx hb d_Law_law_874 rfl ?_
          refine W.lcmp hx hb d_Law_law_875 ?_
          refine lv_if_eq (tgt := 881) hx hb d_Law_law_876 (by decide) (fun _ => ?_) (fun h => absurd (by rw [e4 h0]; simp [lg_cmp]) h)
          refine lv_goto (tgt := 1144) hx hb d_Law_law_881 (by decide) ?_
          exact tail _ _ r1.2 r2.2 H locs ls (by omega) (by omega) hSim hH1 hH2 hS (lv_sub hl [2, 3, 4, 5, 6] rfl)
      by_cases c31 : v = 11
      · refine x_tin (k := 11) (off := 834) (tgt := 884) c31 hx hb d_Law_law_50 (by decide) (by decide) rfl (by decide) ?_
        obtain ⟨r1, r2, e1, e2, e3, e4, hSim⟩ := s11 w1 w2 (xs (nI i + 1).toNatClampNeg) hSim
        refine lv_aload_n hx hb d_Law_law_884 rfl (lv_at hl 1 rfl) ?_
        refine lv_aload_n hx hb d_Law_law_885 rfl (lv_at hl 0 rfl) ?_
        refine lv_iload hx hb d_Law_law_886 (lv_at hl 4 rfl) ?_
        refine lv_iconst (v := 1) hx hb d_Law_law_888 (by decide) ?_
        refine lv_iadd hx hb d_Law_law_889 ?_
        refine va_sld hx hb hXs hbl hbA hS v1 d_Law_law_890 ?_
        refine lv_aload_n hx hb d_Law_law_891 rfl (lv_at hl 3 rfl) ?_
        refine x_callW (st1 := [.int r1.1]) (x_runSW (n := 3) (As := [.ref (ad1 X), .int (xs (nI i + 1).toNatClampNeg), .ref (ad1 O)]) (rest := []) ⟨hx, hb, hml, hown, hts⟩ (c_Law_run l hfl D aC ad1 T1 nx1 H.size w1 X (xs (nI i + 1).toNatClampNeg) O r1 e1) rfl rfl (Nat.le_of_ble_eq_true rfl) (Nat.le_of_ble_eq_true rfl) m_589 m_590 m_0 m_591 (by decide +kernel) (x_preW hS hH1 hK hX hTf hN) rfl rfl hl.1 rfl (lv_room (Nat.le_of_ble_eq_true rfl)) d_Law_law_892 ⟨by show _ ≤ 615714; omega, by show _ ≤ 7248928; omega⟩) rfl hH1 hA hS (fun H locs hH1 hS hsz hk => ?_)
        have hH2 := hH2.other hap hk
        refine lv_istore (lv' := [(5, .int r1.1), (0, .ref b), (1, .ref (ad1 X)), (2, .ref (ad2 Mo)), (3, .ref (ad1 O)), (4, .int (nI i))]) hx hb d_Law_law_895 hl (by decide) rfl (fun ls hl => ?_)
        refine lv_aload_n hx hb d_Law_law_897 rfl (lv_at hl 3 rfl) ?_
        refine lv_aload_n hx hb d_Law_law_898 rfl (lv_at hl 1 rfl) ?_
        refine lv_iload hx hb d_Law_law_899 (lv_at hl 5 rfl) ?_
        refine lv_iconst (v := 1) hx hb d_Law_law_901 (by decide) ?_
        refine lv_iadd hx hb d_Law_law_902 ?_
        refine va_sld hx hb hXs hbl hbA hS v1 d_Law_law_903 ?_
        refine x_callW (st1 := [.int r2.1]) (x_runV (As := [.int (xs (nI i + 1).toNatClampNeg)]) (rest := []) ⟨hx, hb, hml, hown, hts⟩ (x_wOf (c_Mod_run l D aC ad2 T2 nx2 H.size w2 Mo (xs (nI i + 1).toNatClampNeg) r2 e2)) (cwV 1 hts (x_gV m_1020 m_1021 m_1022 m_13 m_1023) rfl rfl rfl ⟨rfl, pd_Mod_run⟩ ⟨Nat.le_of_ble_eq_true rfl, Nat.le_of_ble_eq_true rfl⟩) hH2 hK hX hTM (by decide) rfl rfl rfl hl.1 rfl (lv_room (Nat.le_of_ble_eq_true rfl)) d_Law_law_904 ⟨by show _ ≤ 615714; omega, by show _ ≤ 7248928; omega⟩) rfl hH2 hA hS (fun H locs hH2 hS hsz hk => ?_)
        have hH1 := hH1.other (fun a c h1 h2 h => hap c a h2 h1 h.symm) hk
        refine lv_istore (lv' := [(6, .int r2.1), (5, .int r1.1), (0, .ref b), (1, .ref (ad1 X)), (2, .ref (ad2 Mo)), (3, .ref (ad1 O)), (4, .int (nI i))]) hx hb d_Law_law_907 hl (by decide) rfl (fun ls hl => ?_)
        refine lv_aload_n hx hb d_Law_law_909 rfl (lv_at hl 4 rfl) ?_
        refine x_callP (st1 := [.int r1.1]) (x_runV (As := []) (rest := []) ⟨hx, hb, hml, hown, hts⟩ (c_Mod_thrown l D aC ad2 T2 nx2 H.size r2.2 Mo r1.1 e3) (cwV 0 hts (x_gV m_949 m_950 m_951 m_13 m_952) rfl rfl rfl ⟨rfl, pd_Mod_thrown⟩ ⟨Nat.le_of_ble_eq_true rfl, Nat.le_of_ble_eq_true rfl⟩) hH2 hK hX hTM (by decide) rfl rfl rfl hl.1 rfl (lv_room (Nat.le_of_ble_eq_true rfl)) d_Law_law_910 ⟨by show _ ≤ 615714; omega, by show _ ≤ 7248928; omega⟩) rfl ?_
        refine lv_iload hx hb d_Law_law_913 (lv_at hl 1 rfl) ?_
        refine lv_icmp_eq (tgt := 920) hx hb d_Law_law_915 (by decide) (fun _ => ?_) (fun h => absurd rfl h)
        refine lv_iload hx hb d_Law_law_920 (lv_at hl 1 rfl) ?_
        refine lv_if_ne (tgt := 937) hx hb d_Law_law_922 (by decide) (fun _ => ?_) (fun h0 => ?_)
        · refine lv_goto (tgt := 1144) hx hb d_Law_law_937 (by decide) ?_
          exact tail _ _ r1.2 r2.2 H locs ls (by omega) (by omega) hSim hH1 hH2 hS (lv_sub hl [2, 3, 4, 5, 6] rfl)
        · refine lv_aload_n hx hb d_Law_law_925 rfl (lv_at hl 5 rfl) ?_
          refine lv_iconst (v := 0) hx hb d_Law_law_926 (by decide) ?_
          refine x_lald hx hb hK hH1 hTO 1 rfl x_v01 d_Law_law_927 ?_
          refine lv_iload hx hb d_Law_law_928 (lv_at hl 0 rfl) ?_
          refine lv_i2l (v := r2.1.toInt64) hx hb d_Law_law_930 rfl ?_
          refine W.lcmp hx hb d_Law_law_931 ?_
          refine lv_if_eq (tgt := 937) hx hb d_Law_law_932 (by decide) (fun _ => ?_) (fun h => absurd (by rw [e4 h0]; simp [lg_cmp]) h)
          refine lv_goto (tgt := 1144) hx hb d_Law_law_937 (by decide) ?_
          exact tail _ _ r1.2 r2.2 H locs ls (by omega) (by omega) hSim hH1 hH2 hS (lv_sub hl [2, 3, 4, 5, 6] rfl)
      by_cases c32 : v = 12
      · refine x_tin (k := 12) (off := 890) (tgt := 940) c32 hx hb d_Law_law_50 (by decide) (by decide) rfl (by decide) ?_
        obtain ⟨r1, r2, e1, e2, e3, e4, hSim⟩ := s12 w1 w2 (xs (nI i + 1).toNatClampNeg) (xs (nI i + 2).toNatClampNeg) hSim
        refine lv_aload_n hx hb d_Law_law_940 rfl (lv_at hl 1 rfl) ?_
        refine lv_aload_n hx hb d_Law_law_941 rfl (lv_at hl 0 rfl) ?_
        refine lv_iload hx hb d_Law_law_942 (lv_at hl 4 rfl) ?_
        refine lv_iconst (v := 1) hx hb d_Law_law_944 (by decide) ?_
        refine lv_iadd hx hb d_Law_law_945 ?_
        refine va_sld hx hb hXs hbl hbA hS v1 d_Law_law_946 ?_
        refine lv_aload_n hx hb d_Law_law_947 rfl (lv_at hl 0 rfl) ?_
        refine lv_iload hx hb d_Law_law_948 (lv_at hl 4 rfl) ?_
        refine lv_iconst (v := 2) hx hb d_Law_law_950 (by decide) ?_
        refine lv_iadd hx hb d_Law_law_951 ?_
        refine va_sld hx hb hXs hbl hbA hS v2 d_Law_law_952 ?_
        refine lv_aload_n hx hb d_Law_law_953 rfl (lv_at hl 3 rfl) ?_
        refine x_callW (st1 := [.int r1.1]) (x_runSW (n := 4) (As := [.ref (ad1 X), .int (xs (nI i + 1).toNatClampNeg), .int (xs (nI i + 2).toNatClampNeg), .ref (ad1 O)]) (rest := []) ⟨hx, hb, hml, hown, hts⟩ (c_Law_told l hfl D aC ad1 T1 nx1 H.size w1 X (xs (nI i + 1).toNatClampNeg) (xs (nI i + 2).toNatClampNeg) O r1 e1) rfl rfl (Nat.le_of_ble_eq_true rfl) (Nat.le_of_ble_eq_true rfl) m_733 m_734 m_0 m_735 (by decide +kernel) (x_preW hS hH1 hK hX hTf hN) rfl rfl hl.1 rfl (lv_room (Nat.le_of_ble_eq_true rfl)) d_Law_law_954 ⟨by show _ ≤ 615714; omega, by show _ ≤ 7248928; omega⟩) rfl hH1 hA hS (fun H locs hH1 hS hsz hk => ?_)
        have hH2 := hH2.other hap hk
        refine lv_istore (lv' := [(5, .int r1.1), (0, .ref b), (1, .ref (ad1 X)), (2, .ref (ad2 Mo)), (3, .ref (ad1 O)), (4, .int (nI i))]) hx hb d_Law_law_957 hl (by decide) rfl (fun ls hl => ?_)
        refine lv_aload_n hx hb d_Law_law_959 rfl (lv_at hl 3 rfl) ?_
        refine lv_aload_n hx hb d_Law_law_960 rfl (lv_at hl 1 rfl) ?_
        refine lv_iload hx hb d_Law_law_961 (lv_at hl 5 rfl) ?_
        refine lv_iconst (v := 1) hx hb d_Law_law_963 (by decide) ?_
        refine lv_iadd hx hb d_Law_law_964 ?_
        refine va_sld hx hb hXs hbl hbA hS v1 d_Law_law_965 ?_
        refine lv_aload_n hx hb d_Law_law_966 rfl (lv_at hl 1 rfl) ?_
        refine lv_iload hx hb d_Law_law_967 (lv_at hl 5 rfl) ?_
        refine lv_iconst (v := 2) hx hb d_Law_law_969 (by decide) ?_
        refine lv_iadd hx hb d_Law_law_970 ?_
        refine va_sld hx hb hXs hbl hbA hS v2 d_Law_law_971 ?_
        refine x_callW (st1 := [.int r2.1]) (x_runV (As := [.int (xs (nI i + 1).toNatClampNeg), .int (xs (nI i + 2).toNatClampNeg)]) (rest := []) ⟨hx, hb, hml, hown, hts⟩ (x_wOf (c_Mod_told l D aC ad2 T2 nx2 H.size w2 Mo (xs (nI i + 1).toNatClampNeg) (xs (nI i + 2).toNatClampNeg) r2 e2)) (cwV 2 hts (x_gV m_1070 m_1071 m_1072 m_13 m_1073) rfl rfl rfl ⟨rfl, pd_Mod_told⟩ ⟨Nat.le_of_ble_eq_true rfl, Nat.le_of_ble_eq_true rfl⟩) hH2 hK hX hTM (by decide) rfl rfl rfl hl.1 rfl (lv_room (Nat.le_of_ble_eq_true rfl)) d_Law_law_972 ⟨by show _ ≤ 615714; omega, by show _ ≤ 7248928; omega⟩) rfl hH2 hA hS (fun H locs hH2 hS hsz hk => ?_)
        have hH1 := hH1.other (fun a c h1 h2 h => hap c a h2 h1 h.symm) hk
        refine lv_istore (lv' := [(6, .int r2.1), (5, .int r1.1), (0, .ref b), (1, .ref (ad1 X)), (2, .ref (ad2 Mo)), (3, .ref (ad1 O)), (4, .int (nI i))]) hx hb d_Law_law_975 hl (by decide) rfl (fun ls hl => ?_)
        refine lv_aload_n hx hb d_Law_law_977 rfl (lv_at hl 4 rfl) ?_
        refine x_callP (st1 := [.int r1.1]) (x_runV (As := []) (rest := []) ⟨hx, hb, hml, hown, hts⟩ (c_Mod_thrown l D aC ad2 T2 nx2 H.size r2.2 Mo r1.1 e3) (cwV 0 hts (x_gV m_949 m_950 m_951 m_13 m_952) rfl rfl rfl ⟨rfl, pd_Mod_thrown⟩ ⟨Nat.le_of_ble_eq_true rfl, Nat.le_of_ble_eq_true rfl⟩) hH2 hK hX hTM (by decide) rfl rfl rfl hl.1 rfl (lv_room (Nat.le_of_ble_eq_true rfl)) d_Law_law_978 ⟨by show _ ≤ 615714; omega, by show _ ≤ 7248928; omega⟩) rfl ?_
        refine lv_iload hx hb d_Law_law_981 (lv_at hl 1 rfl) ?_
        refine lv_icmp_eq (tgt := 988) hx hb d_Law_law_983 (by decide) (fun _ => ?_) (fun h => absurd rfl h)
        refine lv_iload hx hb d_Law_law_988 (lv_at hl 1 rfl) ?_
        refine lv_if_ne (tgt := 1005) hx hb d_Law_law_990 (by decide) (fun _ => ?_) (fun h0 => ?_)
        · refine lv_goto (tgt := 1144) hx hb d_Law_law_1005 (by decide) ?_
          exact tail _ _ r1.2 r2.2 H locs ls (by omega) (by omega) hSim hH1 hH2 hS (lv_sub hl [2, 3, 4, 5, 6] rfl)
        · refine lv_aload_n hx hb d_Law_law_993 rfl (lv_at hl 5 rfl) ?_
          refine lv_iconst (v := 0) hx hb d_Law_law_994 (by decide) ?_
          refine x_lald hx hb hK hH1 hTO 1 rfl x_v01 d_Law_law_995 ?_
          refine lv_iload hx hb d_Law_law_996 (lv_at hl 0 rfl) ?_
          refine lv_i2l (v := r2.1.toInt64) hx hb d_Law_law_998 rfl ?_
          refine W.lcmp hx hb d_Law_law_999 ?_
          refine lv_if_eq (tgt := 1005) hx hb d_Law_law_1000 (by decide) (fun _ => ?_) (fun h => absurd (by rw [e4 h0]; simp [lg_cmp]) h)
          refine lv_goto (tgt := 1144) hx hb d_Law_law_1005 (by decide) ?_
          exact tail _ _ r1.2 r2.2 H locs ls (by omega) (by omega) hSim hH1 hH2 hS (lv_sub hl [2, 3, 4, 5, 6] rfl)
      by_cases c33 : v = 13
      · refine x_tin (k := 13) (off := 958) (tgt := 1008) c33 hx hb d_Law_law_50 (by decide) (by decide) rfl (by decide) ?_
        obtain ⟨r1, r2, e1, e2, e3, e4, hSim⟩ := s13 w1 w2 (xs (nI i + 1).toNatClampNeg) hSim
        refine lv_aload_n hx hb d_Law_law_1008 rfl (lv_at hl 1 rfl) ?_
        refine lv_aload_n hx hb d_Law_law_1009 rfl (lv_at hl 0 rfl) ?_
        refine lv_iload hx hb d_Law_law_1010 (lv_at hl 4 rfl) ?_
        refine lv_iconst (v := 1) hx hb d_Law_law_1012 (by decide) ?_
        refine lv_iadd hx hb d_Law_law_1013 ?_
        refine va_sld hx hb hXs hbl hbA hS v1 d_Law_law_1014 ?_
        refine lv_aload_n hx hb d_Law_law_1015 rfl (lv_at hl 3 rfl) ?_
        refine x_callW (st1 := [.int r1.1]) (x_runSW (n := 3) (As := [.ref (ad1 X), .int (xs (nI i + 1).toNatClampNeg), .ref (ad1 O)]) (rest := []) ⟨hx, hb, hml, hown, hts⟩ (c_Law_balance l hfl D aC ad1 T1 nx1 H.size w1 X (xs (nI i + 1).toNatClampNeg) O r1 e1) rfl rfl (Nat.le_of_ble_eq_true rfl) (Nat.le_of_ble_eq_true rfl) m_740 m_741 m_0 m_742 (by decide +kernel) (x_preW hS hH1 hK hX hTf hN) rfl rfl hl.1 rfl (lv_room (Nat.le_of_ble_eq_true rfl)) d_Law_law_1016 ⟨by show _ ≤ 615714; omega, by show _ ≤ 7248928; omega⟩) rfl hH1 hA hS (fun H locs hH1 hS hsz hk => ?_)
        have hH2 := hH2.other hap hk
        refine lv_istore (lv' := [(5, .int r1.1), (0, .ref b), (1, .ref (ad1 X)), (2, .ref (ad2 Mo)), (3, .ref (ad1 O)), (4, .int (nI i))]) hx hb d_Law_law_1019 hl (by decide) rfl (fun ls hl => ?_)
        refine lv_aload_n hx hb d_Law_law_1021 rfl (lv_at hl 3 rfl) ?_
        refine lv_aload_n hx hb d_Law_law_1022 rfl (lv_at hl 1 rfl) ?_
        refine lv_iload hx hb d_Law_law_1023 (lv_at hl 5 rfl) ?_
        refine lv_iconst (v := 1) hx hb d_Law_law_1025 (by decide) ?_
        refine lv_iadd hx hb d_Law_law_1026 ?_
        refine va_sld hx hb hXs hbl hbA hS v1 d_Law_law_1027 ?_
        refine x_callW (st1 := [.long r2.1]) (x_runV (As := [.int (xs (nI i + 1).toNatClampNeg)]) (rest := []) ⟨hx, hb, hml, hown, hts⟩ (x_wOf (c_Mod_balance l D aC ad2 T2 nx2 H.size w2 Mo (xs (nI i + 1).toNatClampNeg) r2 e2)) (cwV 1 hts (x_gV m_1074 m_1075 m_1076 m_13 m_1077) rfl rfl rfl ⟨rfl, pd_Mod_balance⟩ ⟨Nat.le_of_ble_eq_true rfl, Nat.le_of_ble_eq_true rfl⟩) hH2 hK hX hTM (by decide) rfl rfl rfl hl.1 rfl (lv_room (Nat.le_of_ble_eq_true rfl)) d_Law_law_1028 ⟨by show _ ≤ 615714; omega, by show _ ≤ 7248928; omega⟩) rfl hH2 hA hS (fun H locs hH2 hS hsz hk => ?_)
        have hH1 := hH1.other (fun a c h1 h2 h => hap c a h2 h1 h.symm) hk
        refine lv_lstore (lv' := [(6, .long r2.1), (5, .int r1.1), (0, .ref b), (1, .ref (ad1 X)), (2, .ref (ad2 Mo)), (3, .ref (ad1 O)), (4, .int (nI i))]) hx hb d_Law_law_1031 hl (by decide) rfl (fun ls hl => ?_)
        refine lv_aload_n hx hb d_Law_law_1033 rfl (lv_at hl 4 rfl) ?_
        refine x_callP (st1 := [.int r1.1]) (x_runV (As := []) (rest := []) ⟨hx, hb, hml, hown, hts⟩ (c_Mod_thrown l D aC ad2 T2 nx2 H.size r2.2 Mo r1.1 e3) (cwV 0 hts (x_gV m_949 m_950 m_951 m_13 m_952) rfl rfl rfl ⟨rfl, pd_Mod_thrown⟩ ⟨Nat.le_of_ble_eq_true rfl, Nat.le_of_ble_eq_true rfl⟩) hH2 hK hX hTM (by decide) rfl rfl rfl hl.1 rfl (lv_room (Nat.le_of_ble_eq_true rfl)) d_Law_law_1034 ⟨by show _ ≤ 615714; omega, by show _ ≤ 7248928; omega⟩) rfl ?_
        refine lv_iload hx hb d_Law_law_1037 (lv_at hl 1 rfl) ?_
        refine lv_icmp_eq (tgt := 1044) hx hb d_Law_law_1039 (by decide) (fun _ => ?_) (fun h => absurd rfl h)
        refine lv_iload hx hb d_Law_law_1044 (lv_at hl 1 rfl) ?_
        refine lv_if_ne (tgt := 1060) hx hb d_Law_law_1046 (by decide) (fun _ => ?_) (fun h0 => ?_)
        · refine lv_goto (tgt := 1144) hx hb d_Law_law_1060 (by decide) ?_
          exact tail _ _ r1.2 r2.2 H locs ls (by omega) (by omega) hSim hH1 hH2 hS (lv_sub hl [2, 3, 4, 5, 6] rfl)
        · refine lv_aload_n hx hb d_Law_law_1049 rfl (lv_at hl 5 rfl) ?_
          refine lv_iconst (v := 0) hx hb d_Law_law_1050 (by decide) ?_
          refine x_lald hx hb hK hH1 hTO 1 rfl x_v01 d_Law_law_1051 ?_
          refine lv_lload hx hb d_Law_law_1052 (lv_at hl 0 rfl) ?_
          refine W.lcmp hx hb d_Law_law_1054 ?_
          refine lv_if_eq (tgt := 1060) hx hb d_Law_law_1055 (by decide) (fun _ => ?_) (fun h => absurd (by rw [e4 h0]; simp [lg_cmp]) h)
          refine lv_goto (tgt := 1144) hx hb d_Law_law_1060 (by decide) ?_
          exact tail _ _ r1.2 r2.2 H locs ls (by omega) (by omega) hSim hH1 hH2 hS (lv_sub hl [2, 3, 4, 5, 6] rfl)
      by_cases c34 : v = 14
      · refine x_tin (k := 14) (off := 1013) (tgt := 1063) c34 hx hb d_Law_law_50 (by decide) (by decide) rfl (by decide) ?_
        obtain ⟨r, w2a, e1, e2, hSim⟩ := s14 w1 w2 hSim
        refine lv_aload_n hx hb d_Law_law_1063 rfl (lv_at hl 1 rfl) ?_
        refine x_callP (st1 := [.int r]) (x_runV (As := []) (rest := []) ⟨hx, hb, hml, hown, hts⟩ (c_WD_mould l D aC ad1 T1 nx1 H.size w1 X r e1) (cwV 0 hts (x_gV m_370 m_371 m_372 m_1 m_373) rfl rfl rfl ⟨rfl, pd_WD_mould⟩ ⟨Nat.le_of_ble_eq_true rfl, Nat.le_of_ble_eq_true rfl⟩) hH1 hK hX hTX (by decide) rfl rfl rfl hl.1 rfl (lv_room (Nat.le_of_ble_eq_true rfl)) d_Law_law_1064 ⟨by show _ ≤ 615714; omega, by show _ ≤ 7248928; omega⟩) rfl ?_
        refine lv_aload_n hx hb d_Law_law_1067 rfl (lv_at hl 2 rfl) ?_
        refine x_callW (st1 := [.int r, .int r]) (x_runV (As := []) (rest := [.int r]) ⟨hx, hb, hml, hown, hts⟩ (x_wOf (c_Mod_mould l D aC ad2 T2 nx2 H.size w2 Mo (r, w2a) e2)) (cwV 0 hts (x_gV m_1082 m_1083 m_1084 m_13 m_1085) rfl rfl rfl ⟨rfl, pd_Mod_mould⟩ ⟨Nat.le_of_ble_eq_true rfl, Nat.le_of_ble_eq_true rfl⟩) hH2 hK hX hTM (by decide) rfl rfl rfl hl.1 rfl (lv_room (Nat.le_of_ble_eq_true rfl)) d_Law_law_1068 ⟨by show _ ≤ 615714; omega, by show _ ≤ 7248928; omega⟩) rfl hH2 hA hS (fun H locs hH2 hS hsz hk => ?_)
        have hH1 := hH1.other (fun a c h1 h2 h => hap c a h2 h1 h.symm) hk
        refine lv_icmp_eq (tgt := 1144) hx hb d_Law_law_1071 (by decide) (fun _ => ?_) (fun h => absurd rfl h)
        exact tail cn sl w1 w2a H locs ls (by omega) (by omega) hSim hH1 hH2 hS hl
      by_cases c35 : v = 15
      · refine x_tin (k := 15) (off := 1026) (tgt := 1076) c35 hx hb d_Law_law_50 (by decide) (by decide) rfl (by decide) ?_
        obtain ⟨r1, r2, e1, e2, e3, e4, hSim⟩ := s15 w1 w2 (xs (nI i + 1).toNatClampNeg) (xs (nI i + 2).toNatClampNeg) hSim
        refine lv_aload_n hx hb d_Law_law_1076 rfl (lv_at hl 1 rfl) ?_
        refine lv_aload_n hx hb d_Law_law_1077 rfl (lv_at hl 0 rfl) ?_
        refine lv_iload hx hb d_Law_law_1078 (lv_at hl 4 rfl) ?_
        refine lv_iconst (v := 1) hx hb d_Law_law_1080 (by decide) ?_
        refine lv_iadd hx hb d_Law_law_1081 ?_
        refine va_sld hx hb hXs hbl hbA hS v1 d_Law_law_1082 ?_
        refine lv_aload_n hx hb d_Law_law_1083 rfl (lv_at hl 0 rfl) ?_
        refine lv_iload hx hb d_Law_law_1084 (lv_at hl 4 rfl) ?_
        refine lv_iconst (v := 2) hx hb d_Law_law_1086 (by decide) ?_
        refine lv_iadd hx hb d_Law_law_1087 ?_
        refine va_sld hx hb hXs hbl hbA hS v2 d_Law_law_1088 ?_
        refine lv_aload_n hx hb d_Law_law_1089 rfl (lv_at hl 3 rfl) ?_
        refine x_callW (st1 := [.int r1.1]) (x_runSW (n := 4) (As := [.ref (ad1 X), .int (xs (nI i + 1).toNatClampNeg), .int (xs (nI i + 2).toNatClampNeg), .ref (ad1 O)]) (rest := []) ⟨hx, hb, hml, hown, hts⟩ (c_Law_order l hfl D aC ad1 T1 nx1 H.size w1 X (xs (nI i + 1).toNatClampNeg) (xs (nI i + 2).toNatClampNeg) O r1 e1) rfl rfl (Nat.le_of_ble_eq_true rfl) (Nat.le_of_ble_eq_true rfl) m_751 m_752 m_0 m_753 (by decide +kernel) (x_preW hS hH1 hK hX hTf hN) rfl rfl hl.1 rfl (lv_room (Nat.le_of_ble_eq_true rfl)) d_Law_law_1090 ⟨by show _ ≤ 615714; omega, by show _ ≤ 7248928; omega⟩) rfl hH1 hA hS (fun H locs hH1 hS hsz hk => ?_)
        have hH2 := hH2.other hap hk
        refine lv_istore (lv' := [(5, .int r1.1), (0, .ref b), (1, .ref (ad1 X)), (2, .ref (ad2 Mo)), (3, .ref (ad1 O)), (4, .int (nI i))]) hx hb d_Law_law_1093 hl (by decide) rfl (fun ls hl => ?_)
        refine lv_aload_n hx hb d_Law_law_1095 rfl (lv_at hl 3 rfl) ?_
        refine lv_aload_n hx hb d_Law_law_1096 rfl (lv_at hl 1 rfl) ?_
        refine lv_iload hx hb d_Law_law_1097 (lv_at hl 5 rfl) ?_
        refine lv_iconst (v := 1) hx hb d_Law_law_1099 (by decide) ?_
        refine lv_iadd hx hb d_Law_law_1100 ?_
        refine va_sld hx hb hXs hbl hbA hS v1 d_Law_law_1101 ?_
        refine lv_aload_n hx hb d_Law_law_1102 rfl (lv_at hl 1 rfl) ?_
        refine lv_iload hx hb d_Law_law_1103 (lv_at hl 5 rfl) ?_
        refine lv_iconst (v := 2) hx hb d_Law_law_1105 (by decide) ?_
        refine lv_iadd hx hb d_Law_law_1106 ?_
        refine va_sld hx hb hXs hbl hbA hS v2 d_Law_law_1107 ?_
        refine x_callW (st1 := [.int r2.1]) (x_runV (As := [.int (xs (nI i + 1).toNatClampNeg), .int (xs (nI i + 2).toNatClampNeg)]) (rest := []) ⟨hx, hb, hml, hown, hts⟩ (x_wOf (c_Mod_order l D aC ad2 T2 nx2 H.size w2 Mo (xs (nI i + 1).toNatClampNeg) (xs (nI i + 2).toNatClampNeg) r2 e2)) (cwV 2 hts (x_gV m_1086 m_1087 m_1088 m_13 m_1089) rfl rfl rfl ⟨rfl, pd_Mod_order⟩ ⟨Nat.le_of_ble_eq_true rfl, Nat.le_of_ble_eq_true rfl⟩) hH2 hK hX hTM (by decide) rfl rfl rfl hl.1 rfl (lv_room (Nat.le_of_ble_eq_true rfl)) d_Law_law_1108 ⟨by show _ ≤ 615714; omega, by show _ ≤ 7248928; omega⟩) rfl hH2 hA hS (fun H locs hH2 hS hsz hk => ?_)
        have hH1 := hH1.other (fun a c h1 h2 h => hap c a h2 h1 h.symm) hk
        refine lv_istore (lv' := [(6, .int r2.1), (5, .int r1.1), (0, .ref b), (1, .ref (ad1 X)), (2, .ref (ad2 Mo)), (3, .ref (ad1 O)), (4, .int (nI i))]) hx hb d_Law_law_1111 hl (by decide) rfl (fun ls hl => ?_)
        refine lv_aload_n hx hb d_Law_law_1113 rfl (lv_at hl 4 rfl) ?_
        refine x_callP (st1 := [.int r1.1]) (x_runV (As := []) (rest := []) ⟨hx, hb, hml, hown, hts⟩ (c_Mod_thrown l D aC ad2 T2 nx2 H.size r2.2 Mo r1.1 e3) (cwV 0 hts (x_gV m_949 m_950 m_951 m_13 m_952) rfl rfl rfl ⟨rfl, pd_Mod_thrown⟩ ⟨Nat.le_of_ble_eq_true rfl, Nat.le_of_ble_eq_true rfl⟩) hH2 hK hX hTM (by decide) rfl rfl rfl hl.1 rfl (lv_room (Nat.le_of_ble_eq_true rfl)) d_Law_law_1114 ⟨by show _ ≤ 615714; omega, by show _ ≤ 7248928; omega⟩) rfl ?_
        refine lv_iload hx hb d_Law_law_1117 (lv_at hl 1 rfl) ?_
        refine lv_icmp_eq (tgt := 1124) hx hb d_Law_law_1119 (by decide) (fun _ => ?_) (fun h => absurd rfl h)
        refine lv_iload hx hb d_Law_law_1124 (lv_at hl 1 rfl) ?_
        refine lv_if_ne (tgt := 1141) hx hb d_Law_law_1126 (by decide) (fun _ => ?_) (fun h0 => ?_)
        · refine lv_goto (tgt := 1144) hx hb d_Law_law_1141 (by decide) ?_
          exact tail _ _ r1.2 r2.2 H locs ls (by omega) (by omega) hSim hH1 hH2 hS (lv_sub hl [2, 3, 4, 5, 6] rfl)
        · refine lv_aload_n hx hb d_Law_law_1129 rfl (lv_at hl 5 rfl) ?_
          refine lv_iconst (v := 0) hx hb d_Law_law_1130 (by decide) ?_
          refine x_lald hx hb hK hH1 hTO 1 rfl x_v01 d_Law_law_1131 ?_
          refine lv_iload hx hb d_Law_law_1132 (lv_at hl 0 rfl) ?_
          refine lv_i2l (v := r2.1.toInt64) hx hb d_Law_law_1134 rfl ?_
          refine W.lcmp hx hb d_Law_law_1135 ?_
          refine lv_if_eq (tgt := 1141) hx hb d_Law_law_1136 (by decide) (fun _ => ?_) (fun h => absurd (by rw [e4 h0]; simp [lg_cmp]) h)
          refine lv_goto (tgt := 1144) hx hb d_Law_law_1141 (by decide) ?_
          exact tail _ _ r1.2 r2.2 H locs ls (by omega) (by omega) hSim hH1 hH2 hS (lv_sub hl [2, 3, 4, 5, 6] rfl)
      refine lv_tableOut (tgt := 1144) hx hb d_Law_law_50 (by have := lv_neT c20 (a := 0) rfl; have := lv_neT c21 (a := 1) rfl; have := lv_neT c22 (a := 2) rfl; have := lv_neT c23 (a := 3) rfl; have := lv_neT c24 (a := 4) rfl; have := lv_neT c25 (a := 5) rfl; have := lv_neT c26 (a := 6) rfl; have := lv_neT c27 (a := 7) rfl; have := lv_neT c28 (a := 8) rfl; have := lv_neT c29 (a := 9) rfl; have := lv_neT c30 (a := 10) rfl; have := lv_neT c31 (a := 11) rfl; have := lv_neT c32 (a := 12) rfl; have := lv_neT c33 (a := 13) rfl; have := lv_neT c34 (a := 14) rfl; have := lv_neT c35 (a := 15) rfl; omega) (by decide) ?_
      exact tail cn sl w1 w2 H locs ls (by omega) (by omega) hSim hH1 hH2 hS hl
