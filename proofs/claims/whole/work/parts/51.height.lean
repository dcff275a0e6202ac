/-! HEIGHTS: a line through corners that rise; the class goes up, the reference goes down -/
theorem z_mb {a b A B : Int} (h1 : 0 ≤ a) (h2 : a ≤ A) (h3 : 0 ≤ b) (h4 : b ≤ B) : 0 ≤ a * b ∧ a * b ≤ A * B := ⟨Int.mul_nonneg h1 h3, Int.mul_le_mul h2 h4 h3 (by omega)⟩
def hzI (X Y : Nat → Int) (x : Int) (i : Nat) : Int := Y i + ((Y (i + 1) - Y i) * (x - X i)).tdiv (X (i + 1) - X i)
def hzG (X Y : Nat → Int) (x : Int) : Nat → Nat → Int
  | 0, i => Y i
  | r + 1, i => if x ≤ X (i + 1) then hzI X Y x i else hzG X Y x r (i + 1)
theorem hzG_s (X Y : Nat → Int) (x : Int) (r i : Nat) : hzG X Y x (r + 1) i = if x ≤ X (i + 1) then hzI X Y x i else hzG X Y x r (i + 1) := rfl
def hz (c : Nat) (X Y : Nat → Int) (x : Int) : Int := if c = 0 then 0 else if x ≤ X 0 then Y 0 else hzG X Y x (c - 1) 0
def Cor (c : Nat) (X Y : Nat → Int) (top : Int) : Prop := c ≤ 8 ∧ (∀ i, i + 1 < c → X i < X (i + 1) ∧ Y i < Y (i + 1)) ∧ ∀ i, i < c → -5000 ≤ X i ∧ X i ≤ 1000000 ∧ 0 ≤ Y i ∧ Y i ≤ top
theorem hzI_b {X Y : Nat → Int} {x : Int} {i : Nat} (h1 : X i ≤ x) (h2 : x ≤ X (i + 1)) (h3 : X i < X (i + 1)) (h4 : Y i ≤ Y (i + 1)) : Y i ≤ hzI X Y x i ∧ hzI X Y x i ≤ Y (i + 1) := by
  unfold hzI
  have hb := z_mb (a := Y (i + 1) - Y i) (b := x - X i) (A := Y (i + 1) - Y i) (B := X (i + 1) - X i) (by omega) (Int.le_refl _) (by omega) (by omega)
  rw [Int.tdiv_eq_ediv_of_nonneg hb.1]
  have q1 := Int.ediv_nonneg hb.1 (b := X (i + 1) - X i) (by omega)
  have q2 : (Y (i + 1) - Y i) * (x - X i) / (X (i + 1) - X i) ≤ Y (i + 1) - Y i := Int.ediv_le_of_le_mul (by omega) hb.2
  omega
theorem hzI_end {X Y : Nat → Int} {i : Nat} (h3 : X i < X (i + 1)) : hzI X Y (X (i + 1)) i = Y (i + 1) := by
  unfold hzI
  rw [Int.mul_tdiv_cancel _ (by omega)]
  omega
theorem hzI_start {X Y : Nat → Int} {i : Nat} : hzI X Y (X i) i = Y i := by
  unfold hzI
  simp [wp_some, wp_bind, x_I_sI, x_J_sJ, x_R_sR, x_A_sA, x_B_sB, x_I_sJ, x_I_sR, x_I_sA, x_I_sB, x_J_sI, x_J_sR, x_J_sA, x_J_sB, x_R_sI, x_R_sJ, x_R_sA, x_R_sB, x_A_sI, x_A_sJ, x_A_sR, x_A_sB, x_B_sI, x_B_sJ, x_B_sR, x_B_sA, x_Q_sI, x_Q_sJ, x_Q_sR, x_Q_sA, x_Q_sB]
theorem hzG_b {c : Nat} {X Y : Nat → Int} {top x : Int} (hc : Cor c X Y top) : ∀ r i, i + r + 1 = c → X i < x → 0 ≤ hzG X Y x r i ∧ hzG X Y x r i ≤ top := by
  intro r
  induction r with
  | zero => intro i hi _; exact (hc.2.2 i (by omega)).2.2
  | succ r ih =>
    intro i hi hx
    unfold hzG
    by_cases h : x ≤ X (i + 1)
    · rw [if_pos h]
      have h1 := hzI_b (Y := Y) (Int.le_of_lt hx) h (hc.2.1 i (by omega)).1 (Int.le_of_lt (hc.2.1 i (by omega)).2)
      have h2 := hc.2.2 i (by omega)
      have h3 := hc.2.2 (i + 1) (by omega)
      omega
    · rw [if_neg h]
      exact ih (i + 1) (by omega) (by omega)
theorem hz_b {c : Nat} {X Y : Nat → Int} {top x : Int} (ht : 0 ≤ top) (hc : Cor c X Y top) : 0 ≤ hz c X Y x ∧ hz c X Y x ≤ top := by
  unfold hz
  by_cases h0 : c = 0
  · rw [if_pos h0]; omega
  · rw [if_neg h0]
    by_cases h1 : x ≤ X 0
    · rw [if_pos h1]
      exact (hc.2.2 0 (by omega)).2.2
    · rw [if_neg h1]
      exact hzG_b hc (c - 1) 0 (by omega) (by omega)
theorem Cor.mono {c : Nat} {X Y : Nat → Int} {top : Int} (hc : Cor c X Y top) : ∀ k i, i + k < c → X i ≤ X (i + k) := by
  intro k
  induction k with
  | zero => intro i _; exact Int.le_refl _
  | succ k ih =>
    intro i hi
    have h1 := ih i (by omega)
    have h2 := (hc.2.1 (i + k) (by omega)).1
    have : X (i + k + 1) = X (i + (k + 1)) := rfl
    omega
/-- going up, one comes to k where all corners behind the first up to k lie below x -/
theorem hzG_to {X Y : Nat → Int} {x : Int} : ∀ k r i, (∀ j, j < k → X (i + j + 1) < x) → hzG X Y x (r + k) i = hzG X Y x r (i + k) := by
  intro k
  induction k with
  | zero => intro r i _; rfl
  | succ k ih =>
    intro r i h
    show hzG X Y x (r + k + 1) i = _
    rw [hzG_s, if_neg (by have := h 0 (by omega); have e : X (i + 0 + 1) = X (i + 1) := rfl; omega)]
    rw [ih r (i + 1) (fun j hj => by have := h (j + 1) (by omega); rw [show i + 1 + j + 1 = i + (j + 1) + 1 by omega]; exact this)]
    rw [show i + 1 + k = i + (k + 1) by omega]
/-- what the reference finds, going down -/
theorem hz_down {c k : Nat} {X Y : Nat → Int} {top x : Int} (hc : Cor c X Y top) (hk : k < c) (hup : ∀ j, k < j → j < c → x < X j) (hst : k = 0 ∨ X k ≤ x) : hz c X Y x = if x ≤ X k then Y k else if k = c - 1 then Y k else hzI X Y x k := by
  have hc0 : ¬ c = 0 := by omega
  unfold hz
  rw [if_neg hc0]
  by_cases h1 : x ≤ X k
  · rw [if_pos h1]
    by_cases hk0 : k = 0
    · subst hk0
      rw [if_pos h1]
    · have he : x = X k := by rcases hst with h | h <;> omega
      obtain ⟨k', rfl⟩ : ∃ k', k = k' + 1 := ⟨k - 1, by omega⟩
      have h0 : ¬ x ≤ X 0 := by
        have m := hc.mono k' 0 (by omega)
        have m2 := (hc.2.1 k' (by omega)).1
        simp only [Nat.zero_add] at m
        omega
      rw [if_neg h0]
      have e1 : hzG X Y x (c - 1) 0 = hzG X Y x (c - 1 - k') k' := by
        have := hzG_to (X := X) (Y := Y) (x := x) k' (c - 1 - k') 0 (fun j hj => by
          have m := hc.mono (k' - (j + 1)) (j + 1) (by omega)
          have m2 := (hc.2.1 k' (by omega)).1
          rw [show j + 1 + (k' - (j + 1)) = k' by omega] at m
          rw [Nat.zero_add]
          omega)
        rw [show c - 1 - k' + k' = c - 1 by omega, Nat.zero_add] at this
        exact this
      rw [e1, show c - 1 - k' = (c - 1 - k' - 1) + 1 by omega]
      unfold hzG
      rw [if_pos (by omega), he]
      exact hzI_end (hc.2.1 k' (by omega)).1
  · rw [if_neg h1]
    have h0 : ¬ x ≤ X 0 := by
      have m := hc.mono k 0 (by omega)
      simp only [Nat.zero_add] at m
      omega
    rw [if_neg h0]
    have e1 : hzG X Y x (c - 1) 0 = hzG X Y x (c - 1 - k) k := by
      have := hzG_to (X := X) (Y := Y) (x := x) k (c - 1 - k) 0 (fun j hj => by
        have m := hc.mono (k - (j + 1)) (j + 1) (by omega)
        rw [show j + 1 + (k - (j + 1)) = k by omega] at m
        rw [Nat.zero_add]
        omega)
      rw [show c - 1 - k + k = c - 1 by omega, Nat.zero_add] at this
      exact this
    rw [e1]
    by_cases h2 : k = c - 1
    · rw [if_pos h2, h2, Nat.sub_self]
      rfl
    · rw [if_neg h2, show c - 1 - k = (c - 1 - k - 1) + 1 by omega]
      unfold hzG
      rw [if_pos (Int.le_of_lt (hup (k + 1) (by omega) (by omega)))]
/-- the leaf: both compute the same number -/
theorem lf_num {y0 y1 x0 x1 x : Int32} (a1 : 0 ≤ y0.toInt) (a2 : y0.toInt ≤ y1.toInt) (a3 : y1.toInt ≤ 100000) (b1 : -5000 ≤ x0.toInt) (b2 : x0.toInt < x1.toInt) (b3 : x1.toInt ≤ 1000000) (c1 : x0.toInt ≤ x.toInt) (c2 : x.toInt ≤ x1.toInt) :
    ((y1 - y0).toInt64 * (x - x0).toInt64) / (x1 - x0).toInt64 = Int64.ofInt (((y1.toInt - y0.toInt) * (x.toInt - x0.toInt)).tdiv (x1.toInt - x0.toInt)) := by
  have m := z_mb (a := y1.toInt - y0.toInt) (b := x.toInt - x0.toInt) (A := 100000) (B := 1005000) (by omega) (by omega) (by omega) (by omega)
  rw [← z_o y1, ← z_o y0, ← z_o x, ← z_o x0, ← z_o x1, z_sub, z_sub, z_sub, z_64 (by omega) (by omega), z_64 (by omega) (by omega), z_64 (by omega) (by omega), z_Mul, z_Div (by omega) (by omega) (by omega) (by omega)]
  simp only [z_o]
theorem x_nzl_ok {y : Int64} (h : y.toInt ≠ 0) : x_nzl y = some () := by
  unfold x_nzl
  rw [if_neg (fun e => h (by rw [e]; rfl))]
theorem x_nzi_ok {y : Int32} (h : y.toInt ≠ 0) : x_nzi y = some () := by
  unfold x_nzi
  rw [if_neg (fun e => h (by rw [e]; rfl))]
theorem z_sub_toInt {a b : Int32} (h1 : -2147483648 ≤ a.toInt - b.toInt) (h2 : a.toInt - b.toInt < 2147483648) : (a - b).toInt = a.toInt - b.toInt := by
  have e : a - b = Int32.ofInt (a.toInt - b.toInt) := by rw [← z_sub, z_o, z_o]
  rw [e, z_t h1 h2]
theorem z_add_toInt {a b : Int32} (h1 : -2147483648 ≤ a.toInt + b.toInt) (h2 : a.toInt + b.toInt < 2147483648) : (a + b).toInt = a.toInt + b.toInt := by
  have e : a + b = Int32.ofInt (a.toInt + b.toInt) := by rw [← z_add, z_o, z_o]
  rw [e, z_t h1 h2]
/-- the corners at a Corners object l0 of the class -/
def CorC (T : x_T) (w : x_W) (l0 c : Nat) (X Y : Nat → Int) : Prop := (T l0 = some (3, 0)) ∧ (∃ xa ya, x_R w 25 l0 = some xa ∧ x_R w 26 l0 = some ya ∧ T xa = some (100, 8) ∧ T ya = some (100, 8) ∧ (∀ j, j < c → (x_A w xa j).toInt = X j) ∧ ∀ j, j < c → (x_A w ya j).toInt = Y j) ∧ (x_I w 28 l0 = nI c)
theorem CorC.t {T : x_T} {w : x_W} {l0 c : Nat} {X Y : Nat → Int} (S_ : CorC T w l0 c X Y) : T l0 = some (3, 0) := S_.1
theorem CorC.ex {T : x_T} {w : x_W} {l0 c : Nat} {X Y : Nat → Int} (S_ : CorC T w l0 c X Y) : ∃ xa ya, x_R w 25 l0 = some xa ∧ x_R w 26 l0 = some ya ∧ T xa = some (100, 8) ∧ T ya = some (100, 8) ∧ (∀ j, j < c → (x_A w xa j).toInt = X j) ∧ ∀ j, j < c → (x_A w ya j).toInt = Y j := S_.2.1
theorem CorC.n {T : x_T} {w : x_W} {l0 c : Nat} {X Y : Nat → Int} (S_ : CorC T w l0 c X Y) : x_I w 28 l0 = nI c := S_.2.2
theorem h_class_loop {T : x_T} {w : x_W} {l0 c : Nat} {X Y : Nat → Int} {top : Int} (C : CorC T w l0 c X Y) (hc : Cor c X Y top) (htop : top ≤ 100000) (x : Int32) : ∀ r i fuel, i + r + 1 = c → r < fuel → X i < x.toInt → f_Corners_heightAt_28 T fuel w l0 x (nI (i + 1)) = some (Int32.ofInt (hzG X Y x.toInt r i)) := by
  obtain ⟨t, ⟨xa, ya, rx, ry, tx, ty, vx, vy⟩, hn⟩ := C
  have hc8 := hc.1
  intro r
  induction r with
  | zero =>
    intro i fuel hi hf hx
    obtain ⟨fuel, rfl⟩ : ∃ k, fuel = k + 1 := ⟨fuel - 1, by omega⟩
    unfold f_Corners_heightAt_28
    rw [t_is t, Option.bind_some, hn, if_pos ((nI_leS (by omega) (by omega)).mpr (by omega)), ry, Option.bind_some, nI_sub1 (by omega), t_ixn ty (by omega) (by omega), Option.bind_some, nI_clampS (by omega)]
    unfold hzG
    rw [← vy i (by omega), z_o, show c - 1 = i by omega]
  | succ r ih =>
    intro i fuel hi hf hx
    obtain ⟨fuel, rfl⟩ : ∃ k, fuel = k + 1 := ⟨fuel - 1, by omega⟩
    have hm := hc.2.1 i (by omega)
    have hb0 := hc.2.2 i (by omega)
    have hb1 := hc.2.2 (i + 1) (by omega)
    have ex0 := vx i (by omega)
    have ex1 := vx (i + 1) (by omega)
    have ey0 := vy i (by omega)
    have ey1 := vy (i + 1) (by omega)
    have hsp : (x_A w xa (i + 1) - x_A w xa i).toInt = X (i + 1) - X i := by rw [z_sub_toInt (by omega) (by omega), ex0, ex1]
    unfold f_Corners_heightAt_28
    rw [t_is t, Option.bind_some, hn, if_neg (by rw [nI_leS (by omega) (by omega)]; omega), rx]
    simp only [Option.bind_some]
    rw [t_ixn tx (by omega) (by omega), nI_sub1 (by omega), Nat.add_sub_cancel, t_ixn tx (by omega) (by omega), nI_clampS (by omega), nI_clampS (by omega)]
    simp only [Option.bind_some]
    unfold hzG
    by_cases h : x.toInt ≤ X (i + 1)
    · rw [if_pos h, if_neg (by rw [z_lt, ex1]; omega), if_neg (by rw [z_le, hsp, show (0 : Int32).toInt = 0 from rfl]; omega), ry]
      simp only [Option.bind_some]
      rw [t_ixn ty (by omega) (by omega), t_ixn ty (by omega) (by omega)]
      simp only [Option.bind_some]
      rw [x_nzl_ok (by rw [Int32.toInt_toInt64, hsp]; omega), Option.bind_some, lf_num (by omega) (by omega) (by omega) (by omega) (by omega) (by omega) (by omega) (by omega), z_32, ← z_o (x_A w ya i), z_add, z_o, ex0, ex1, ey0, ey1]
      rfl
    · rw [if_neg h, if_pos (by rw [z_lt, ex1]; omega)]
      unfold f_Corners_heightAt_112
      rw [nI_inc]
      exact ih (i + 1) fuel (by omega) (by omega) (by omega)
theorem h_class {T : x_T} {w : x_W} {l0 c : Nat} {X Y : Nat → Int} {top : Int} (C : CorC T w l0 c X Y) (hc : Cor c X Y top) (htop : top ≤ 100000) (x : Int32) : f_Corners_heightAt T w l0 x = some (Int32.ofInt (hz c X Y x.toInt)) := by
  obtain ⟨t, ⟨xa, ya, rx, ry, tx, ty, vx, vy⟩, hn⟩ := id C
  have hc8 := hc.1
  unfold f_Corners_heightAt hz
  rw [t_is t, Option.bind_some, hn]
  by_cases h0 : c = 0
  · subst h0
    rfl
  · rw [if_neg h0, if_neg (show ¬ nI c = 0 from fun e => h0 ((nI_eqS (b := 0) (by omega) (by omega)).mp e)), rx]
    simp only [Option.bind_some]
    rw [show (0 : Int32) = nI 0 from rfl, t_ixn tx (by omega) (by omega), nI_clampS (by omega)]
    simp only [Option.bind_some]
    have ex0 := vx 0 (by omega)
    have ey0 := vy 0 (by omega)
    by_cases h : x.toInt ≤ X 0
    · rw [if_pos h, if_neg (by rw [z_lt, ex0]; omega), ry]
      simp only [Option.bind_some]
      rw [t_ixn ty (by omega) (by omega), Option.bind_some, ← ey0, z_o]
    · rw [if_neg h, if_pos (by rw [z_lt, ex0]; omega)]
      exact h_class_loop C hc htop x (c - 1) 0 1000 (by omega) (by omega) (by omega)
