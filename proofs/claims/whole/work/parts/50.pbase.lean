/-! THE PURE PART: numbers as ofInt of an Int; reads over writes; what a check comes to -/
theorem z_nI (n : Nat) : nI n = Int32.ofInt (n : Int) := rfl
theorem z_t {v : Int} (h1 : -2147483648 ≤ v) (h2 : v < 2147483648) : (Int32.ofInt v).toInt = v := by
  rw [Int32.toInt_ofInt]
  exact Int.bmod_eq_of_le (by simp [Int32.size]; omega) (by simp [Int32.size]; omega)
theorem z_T {v : Int} (h1 : -9223372036854775808 ≤ v) (h2 : v < 9223372036854775808) : (Int64.ofInt v).toInt = v := by
  rw [Int64.toInt_ofInt]
  exact Int.bmod_eq_of_le (by simp [Int64.size]; omega) (by simp [Int64.size]; omega)
theorem z_r (x : Int32) : -2147483648 ≤ x.toInt ∧ x.toInt < 2147483648 := by
  have h1 := Int32.toInt_lt x
  have h2 := Int32.le_toInt x
  constructor <;> omega
theorem z_R (x : Int64) : -9223372036854775808 ≤ x.toInt ∧ x.toInt < 9223372036854775808 := by
  have h1 := Int64.toInt_lt x
  have h2 := Int64.le_toInt x
  constructor <;> omega
theorem z_o (x : Int32) : Int32.ofInt x.toInt = x := Int32.ofInt_toInt x
theorem z_O (x : Int64) : Int64.ofInt x.toInt = x := Int64.ofInt_toInt x
theorem z_64 {v : Int} (h1 : -2147483648 ≤ v) (h2 : v < 2147483648) : (Int32.ofInt v).toInt64 = Int64.ofInt v := by
  apply Int64.toInt_inj.mp
  rw [Int32.toInt_toInt64, z_t h1 h2, z_T (by omega) (by omega)]
theorem z_64x (x : Int32) : x.toInt64 = Int64.ofInt x.toInt := by
  apply Int64.toInt_inj.mp
  have := z_r x
  rw [Int32.toInt_toInt64, z_T (by omega) (by omega)]
theorem z_32 (v : Int) : (Int64.ofInt v).toInt32 = Int32.ofInt v := by
  apply Int32.toInt_inj.mp
  rw [Int64.toInt_toInt32, Int64.toInt_ofInt, Int32.toInt_ofInt]
  exact Int.bmod_bmod_of_dvd (by decide)
theorem z_32x (x : Int64) : x.toInt32 = Int32.ofInt x.toInt := by rw [← z_32, z_O]
theorem z_lt (a b : Int32) : a < b ↔ a.toInt < b.toInt := Int32.lt_iff_toInt_lt
theorem z_le (a b : Int32) : a ≤ b ↔ a.toInt ≤ b.toInt := Int32.le_iff_toInt_le
theorem z_eq (a b : Int32) : a = b ↔ a.toInt = b.toInt := Int32.toInt_inj.symm
theorem z_Lt (a b : Int64) : a < b ↔ a.toInt < b.toInt := Int64.lt_iff_toInt_lt
theorem z_Le (a b : Int64) : a ≤ b ↔ a.toInt ≤ b.toInt := Int64.le_iff_toInt_le
theorem z_Eq (a b : Int64) : a = b ↔ a.toInt = b.toInt := Int64.toInt_inj.symm
theorem z_add (a b : Int) : Int32.ofInt a + Int32.ofInt b = Int32.ofInt (a + b) := (Int32.ofInt_add a b).symm
theorem z_sub (a b : Int) : Int32.ofInt a - Int32.ofInt b = Int32.ofInt (a - b) := (Int32.ofInt_sub a b).symm
theorem z_mul (a b : Int) : Int32.ofInt a * Int32.ofInt b = Int32.ofInt (a * b) := (Int32.ofInt_mul a b).symm
theorem z_neg (a : Int) : - Int32.ofInt a = Int32.ofInt (-a) := (Int32.ofInt_neg a).symm
theorem z_Add (a b : Int) : Int64.ofInt a + Int64.ofInt b = Int64.ofInt (a + b) := (Int64.ofInt_add a b).symm
theorem z_Sub (a b : Int) : Int64.ofInt a - Int64.ofInt b = Int64.ofInt (a - b) := (Int64.ofInt_sub a b).symm
theorem z_Mul (a b : Int) : Int64.ofInt a * Int64.ofInt b = Int64.ofInt (a * b) := (Int64.ofInt_mul a b).symm
theorem z_Neg (a : Int) : - Int64.ofInt a = Int64.ofInt (-a) := (Int64.ofInt_neg a).symm
theorem z_div {a b : Int} (h1 : -2147483648 ≤ a) (h2 : a < 2147483648) (h3 : 0 < b) (h4 : b < 2147483648) : Int32.ofInt a / Int32.ofInt b = Int32.ofInt (a.tdiv b) := by
  apply Int32.toInt_inj.mp
  rw [Int32.toInt_div, z_t h1 h2, z_t (by omega) h4, Int32.toInt_ofInt]
theorem z_Div {a b : Int} (h1 : -9223372036854775808 ≤ a) (h2 : a < 9223372036854775808) (h3 : 0 < b) (h4 : b < 9223372036854775808) : Int64.ofInt a / Int64.ofInt b = Int64.ofInt (a.tdiv b) := by
  apply Int64.toInt_inj.mp
  rw [Int64.toInt_div, z_T h1 h2, z_T (by omega) h4, Int64.toInt_ofInt]
theorem z_clamp (x : Int32) : x.toNatClampNeg = x.toInt.toNat := rfl
/-- 'o is there, and P holds of it' -/
def wp {α : Type} (o : Option α) (P : α → Prop) : Prop := ∃ a, o = some a ∧ P a
theorem wp_some {α : Type} (a : α) (P : α → Prop) : wp (some a) P ↔ P a := ⟨fun ⟨b, h1, h2⟩ => by cases h1; exact h2, fun h => ⟨a, rfl, h⟩⟩
theorem wp_bind {α β : Type} (o : Option α) (k : α → Option β) (P : β → Prop) : wp (o.bind k) P ↔ wp o (fun a => wp (k a) P) := by
  cases o with
  | none => exact ⟨fun ⟨b, h1, h2⟩ => (by cases h1), fun ⟨b, h1, h2⟩ => (by cases h1)⟩
  | some a => simp [wp_some]
theorem wp_ite {α : Type} {c : Prop} [Decidable c] {a b : Option α} {P : α → Prop} (h1 : c → wp a P) (h2 : ¬ c → wp b P) : wp (if c then a else b) P := by
  by_cases h : c
  · rw [if_pos h]; exact h1 h
  · rw [if_neg h]; exact h2 h
theorem wp_mono {α : Type} {o : Option α} {P Q : α → Prop} (h : wp o P) (hq : ∀ a, P a → Q a) : wp o Q := by
  obtain ⟨a, h1, h2⟩ := h
  exact ⟨a, h1, hq a h2⟩
theorem wp_eq {α : Type} {o : Option α} {a : α} {P : α → Prop} (e : o = some a) (h : P a) : wp o P := ⟨a, e, h⟩
theorem x_I_sI {w : x_W} {k h k' h' : Nat} {v : Int32} : x_I (x_sI w k h v) k' h' = if k' = k ∧ h' = h then v else x_I w k' h' := by
  unfold x_I x_sI x_u
  by_cases h1 : k' = k
  · by_cases h2 : h' = h
    · simp [h1, h2]
    · simp [h2]
  · simp [h1]
theorem x_J_sJ {w : x_W} {k h k' h' : Nat} {v : Int64} : x_J (x_sJ w k h v) k' h' = if k' = k ∧ h' = h then v else x_J w k' h' := by
  unfold x_J x_sJ x_u
  by_cases h1 : k' = k
  · by_cases h2 : h' = h
    · simp [h1, h2]
    · simp [h2]
  · simp [h1]
theorem x_R_sR {w : x_W} {k h k' h' : Nat} {v : Option Nat} : x_R (x_sR w k h v) k' h' = if k' = k ∧ h' = h then v else x_R w k' h' := by
  unfold x_R x_sR x_u
  by_cases h1 : k' = k
  · by_cases h2 : h' = h
    · simp [h1, h2]
    · simp [h2]
  · simp [h1]
theorem x_A_sA {w : x_W} {k h k' h' : Nat} {v : Int32} : x_A (x_sA w k h v) k' h' = if k' = k ∧ h' = h then v else x_A w k' h' := by
  unfold x_A x_sA x_u
  by_cases h1 : k' = k
  · by_cases h2 : h' = h
    · simp [h1, h2]
    · simp [h2]
  · simp [h1]
theorem x_B_sB {w : x_W} {k h k' h' : Nat} {v : Int64} : x_B (x_sB w k h v) k' h' = if k' = k ∧ h' = h then v else x_B w k' h' := by
  unfold x_B x_sB x_u
  by_cases h1 : k' = k
  · by_cases h2 : h' = h
    · simp [h1, h2]
    · simp [h2]
  · simp [h1]
theorem x_I_sJ {w : x_W} {k h k' h' : Nat} {v : Int64} : x_I (x_sJ w k h v) k' h' = x_I w k' h' := rfl
theorem x_I_sR {w : x_W} {k h k' h' : Nat} {v : Option Nat} : x_I (x_sR w k h v) k' h' = x_I w k' h' := rfl
theorem x_I_sA {w : x_W} {k h k' h' : Nat} {v : Int32} : x_I (x_sA w k h v) k' h' = x_I w k' h' := rfl
theorem x_I_sB {w : x_W} {k h k' h' : Nat} {v : Int64} : x_I (x_sB w k h v) k' h' = x_I w k' h' := rfl
theorem x_J_sI {w : x_W} {k h k' h' : Nat} {v : Int32} : x_J (x_sI w k h v) k' h' = x_J w k' h' := rfl
theorem x_J_sR {w : x_W} {k h k' h' : Nat} {v : Option Nat} : x_J (x_sR w k h v) k' h' = x_J w k' h' := rfl
theorem x_J_sA {w : x_W} {k h k' h' : Nat} {v : Int32} : x_J (x_sA w k h v) k' h' = x_J w k' h' := rfl
theorem x_J_sB {w : x_W} {k h k' h' : Nat} {v : Int64} : x_J (x_sB w k h v) k' h' = x_J w k' h' := rfl
theorem x_R_sI {w : x_W} {k h k' h' : Nat} {v : Int32} : x_R (x_sI w k h v) k' h' = x_R w k' h' := rfl
theorem x_R_sJ {w : x_W} {k h k' h' : Nat} {v : Int64} : x_R (x_sJ w k h v) k' h' = x_R w k' h' := rfl
theorem x_R_sA {w : x_W} {k h k' h' : Nat} {v : Int32} : x_R (x_sA w k h v) k' h' = x_R w k' h' := rfl
theorem x_R_sB {w : x_W} {k h k' h' : Nat} {v : Int64} : x_R (x_sB w k h v) k' h' = x_R w k' h' := rfl
theorem x_A_sI {w : x_W} {k h k' h' : Nat} {v : Int32} : x_A (x_sI w k h v) k' h' = x_A w k' h' := rfl
theorem x_A_sJ {w : x_W} {k h k' h' : Nat} {v : Int64} : x_A (x_sJ w k h v) k' h' = x_A w k' h' := rfl
theorem x_A_sR {w : x_W} {k h k' h' : Nat} {v : Option Nat} : x_A (x_sR w k h v) k' h' = x_A w k' h' := rfl
theorem x_A_sB {w : x_W} {k h k' h' : Nat} {v : Int64} : x_A (x_sB w k h v) k' h' = x_A w k' h' := rfl
theorem x_B_sI {w : x_W} {k h k' h' : Nat} {v : Int32} : x_B (x_sI w k h v) k' h' = x_B w k' h' := rfl
theorem x_B_sJ {w : x_W} {k h k' h' : Nat} {v : Int64} : x_B (x_sJ w k h v) k' h' = x_B w k' h' := rfl
theorem x_B_sR {w : x_W} {k h k' h' : Nat} {v : Option Nat} : x_B (x_sR w k h v) k' h' = x_B w k' h' := rfl
theorem x_B_sA {w : x_W} {k h k' h' : Nat} {v : Int32} : x_B (x_sA w k h v) k' h' = x_B w k' h' := rfl
theorem x_Q_sI {w : x_W} {k h k' h' : Nat} {v : Int32} : x_Q (x_sI w k h v) k' h' = x_Q w k' h' := rfl
theorem x_Q_sJ {w : x_W} {k h k' h' : Nat} {v : Int64} : x_Q (x_sJ w k h v) k' h' = x_Q w k' h' := rfl
theorem x_Q_sR {w : x_W} {k h k' h' : Nat} {v : Option Nat} : x_Q (x_sR w k h v) k' h' = x_Q w k' h' := rfl
theorem x_Q_sA {w : x_W} {k h k' h' : Nat} {v : Int32} : x_Q (x_sA w k h v) k' h' = x_Q w k' h' := rfl
theorem x_Q_sB {w : x_W} {k h k' h' : Nat} {v : Int64} : x_Q (x_sB w k h v) k' h' = x_Q w k' h' := rfl
theorem t_is {T : x_T} {a c n : Nat} (h : T a = some (c, n)) : x_is T a c = some () := by simp [x_is, h]
theorem t_len {T : x_T} {a c n : Nat} (h : T a = some (c, n)) : x_len T a c = some n := by simp [x_len, h]
theorem t_ix {T : x_T} {a c n : Nat} {i : Int32} (h : T a = some (c, n)) (h1 : 0 ≤ i.toInt) (h2 : i.toInt < n) : x_ix T a c i = some () := by simp [x_ix, h, h1, h2]
theorem t_ixn {T : x_T} {a c n k : Nat} (h : T a = some (c, n)) (hk : k < n) (hn : n < 100000) : x_ix T a c (nI k) = some () := t_ix h (by rw [nI_toInt (by omega)]; omega) (by rw [nI_toInt (by omega)]; omega)
theorem t_ex {T : x_T} {a c n : Nat} (h : T a = some (c, n)) : x_ex T a = some () := by simp [x_ex, h]
theorem t_pl1 {T : x_T} {a n : Nat} (h : T a = some (1, n)) : x_pl T a = some () := by simp [x_pl, h]
theorem t_pl2 {T : x_T} {a n : Nat} (h : T a = some (2, n)) : x_pl T a = some () := by simp [x_pl, h]
theorem nI_clampS {n : Nat} (h : n < 100000) : (nI n).toNatClampNeg = n := nI_clamp (by omega)
theorem nI_intS {n : Nat} (h : n < 100000) : (nI n).toInt = (n : Int) := nI_toInt (by omega)
theorem nI_leS {a b : Nat} (ha : a < 100000) (hb : b < 100000) : nI a ≤ nI b ↔ a ≤ b := by rw [z_le, nI_intS ha, nI_intS hb]; omega
theorem nI_ltS {a b : Nat} (ha : a < 100000) (hb : b < 100000) : nI a < nI b ↔ a < b := by rw [z_lt, nI_intS ha, nI_intS hb]; omega
theorem nI_eqS {a b : Nat} (ha : a < 100000) (hb : b < 100000) : nI a = nI b ↔ a = b := by rw [z_eq, nI_intS ha, nI_intS hb]; omega
theorem nI_sub1 {n : Nat} (h : 0 < n) : nI n - 1 = nI (n - 1) := by
  rw [show (1 : Int32) = Int32.ofInt 1 from rfl, z_nI, z_nI, z_sub]
  congr 1
  omega
theorem nI_dec {n : Nat} (h : 0 < n) : nI n + (-1) = nI (n - 1) := by
  rw [show (-1 : Int32) = Int32.ofInt (-1) from rfl, z_nI, z_nI, z_add]
  congr 1
  omega
theorem nI_inc (n : Nat) : nI n + 1 = nI (n + 1) := (nI_succ n).symm
theorem nI_addS (a b : Nat) : nI a + nI b = nI (a + b) := by rw [z_nI, z_nI, z_nI, z_add]; congr 1
theorem nI_mulS (a b : Nat) : nI a * nI b = nI (a * b) := by rw [z_nI, z_nI, z_nI, z_mul]; congr 1
