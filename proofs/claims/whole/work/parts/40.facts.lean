theorem x_in1 {c : Cond} (i : Nat) (h : tables_1_1[i]? = some c) : c ∈ lw_tbl := List.mem_append_right _ (List.mem_append_left _ (List.mem_of_getElem? h))
theorem x_in2 {c : Cond} (i : Nat) (h : tables_1_2[i]? = some c) : c ∈ lw_tbl := List.mem_append_right _ (List.mem_append_right _ (List.mem_append_left _ (List.mem_of_getElem? h)))
theorem x_in3 {c : Cond} (i : Nat) (h : tables_1_3[i]? = some c) : c ∈ lw_tbl := List.mem_append_right _ (List.mem_append_right _ (List.mem_append_right _ (List.mem_append_left _ (List.mem_of_getElem? h))))
theorem x_in4 {c : Cond} (i : Nat) (h : tables_1_4[i]? = some c) : c ∈ lw_tbl := List.mem_append_right _ (List.mem_append_right _ (List.mem_append_right _ (List.mem_append_right _ (List.mem_append_left _ (List.mem_of_getElem? h)))))
theorem x_in5 {c : Cond} (i : Nat) (h : tables_1_5[i]? = some c) : c ∈ lw_tbl := List.mem_append_right _ (List.mem_append_right _ (List.mem_append_right _ (List.mem_append_right _ (List.mem_append_right _ (List.mem_of_getElem? h)))))
set_option maxHeartbeats 4000000 in
set_option maxRecDepth 100000 in
theorem law_facts {p : Program} {s : State} {m : MethodId} {meth : Method} {c : Code} {b L : Nat} {xs : Nat → Int32} (C0 : lw_At p s m meth c b L xs) : x_Fx s ∧ x_Tf s ∧ va_Nc (x_en 2) (x_en 1) s ∧ x_Ao s := by
  obtain ⟨hx, hb, hr, hml, hown, hts, hXs, hbl, hlocks, hgv⟩ := id C0
  have hs := flat_of_before _ hgv
  refine ⟨⟨va_Nw.of rfl (hts _ (x_in3 217 rfl)), va_Nw.of rfl (hts _ (x_in3 226 rfl))⟩, ⟨fun w hw => ?_, fun q hq => ?_⟩, va_Nc.of (args := #[Value.ref b]) (hs _ (by decide +kernel)), va_AO.of (hts _ (x_in1 34 rfl)), va_AO.of (hts _ (x_in1 225 rfl)), va_AO.of (hts _ (x_in1 227 rfl))⟩
  · rw [← x_argless hw #[Value.ref b]]
    simp only [x_tw, List.mem_cons, List.not_mem_nil, or_false] at hw
    rcases hw with rfl | rfl | rfl | rfl | rfl | rfl | rfl | rfl | rfl
    · exact hts _ (x_in2 157 rfl)
    · exact hts _ (x_in2 159 rfl)
    · exact hts _ (x_in2 161 rfl)
    · exact hts _ (x_in2 155 rfl)
    · exact hts _ (x_in2 227 rfl)
    · exact hts _ (x_in2 180 rfl)
    · exact hts _ (x_in2 182 rfl)
    · exact hs _ (by decide +kernel)
    · exact hs _ (by decide +kernel)
  · simp only [x_str, List.mem_cons, List.not_mem_nil, or_false] at hq
    rcases hq with rfl | rfl | rfl | rfl | rfl | rfl
    · obtain ⟨a, _, _, _, q1, -⟩ := Cond.exactly_spec (args := #[Value.ref b]) (first := s) (o := none) (s := s) (idx := []) (t := .string "WallDamp" 228) (cls := "java/lang/String") (hs _ (by decide +kernel))
      exact ⟨a, vk_R.of (A := #[Value.ref b]) (hts _ (x_in2 193 rfl)) q1⟩
    · obtain ⟨a, _, _, _, q1, -⟩ := Cond.exactly_spec (args := #[Value.ref b]) (first := s) (o := none) (s := s) (idx := []) (t := .string "WallDamp" 231) (cls := "java/lang/String") (hs _ (by decide +kernel))
      exact ⟨a, vk_R.of (A := #[Value.ref b]) (hts _ (x_in2 234 rfl)) q1⟩
    · obtain ⟨a, _, _, _, q1, -⟩ := Cond.exactly_spec (args := #[Value.ref b]) (first := s) (o := none) (s := s) (idx := []) (t := .string "WallDamp" 237) (cls := "java/lang/String") (hs _ (by decide +kernel))
      exact ⟨a, vk_R.of (A := #[Value.ref b]) (hts _ (x_in3 8 rfl)) q1⟩
    · obtain ⟨a, _, _, _, q1, -⟩ := Cond.exactly_spec (args := #[Value.ref b]) (first := s) (o := none) (s := s) (idx := []) (t := .string "WallDamp" 164) (cls := "java/lang/String") (hs _ (by decide +kernel))
      exact ⟨a, vk_R.of (A := #[Value.ref b]) (hts _ (x_in3 104 rfl)) q1⟩
    · obtain ⟨a, _, _, _, q1, -⟩ := Cond.exactly_spec (args := #[Value.ref b]) (first := s) (o := none) (s := s) (idx := []) (t := .string "WallDamp" 173) (cls := "java/lang/String") (hs _ (by decide +kernel))
      exact ⟨a, vk_R.of (A := #[Value.ref b]) (hts _ (x_in3 116 rfl)) q1⟩
    · obtain ⟨a, _, _, _, q1, -⟩ := Cond.exactly_spec (args := #[Value.ref b]) (first := s) (o := none) (s := s) (idx := []) (t := .string "WallDamp" 217) (cls := "java/lang/String") (hs _ (by decide +kernel))
      exact ⟨a, vk_R.of (A := #[Value.ref b]) (hts _ (x_in4 38 rfl)) q1⟩
