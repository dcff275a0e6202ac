/-! FLOWS AS NUMBERS -/
def zs (g : Nat → Int) : Nat → Int
  | 0 => 0
  | n + 1 => zs g n + g n
theorem zs_s (g : Nat → Int) (n : Nat) : zs g (n + 1) = zs g n + g n := rfl
theorem zs_0 (g : Nat → Int) : zs g 0 = 0 := rfl
theorem zs_congr {g g' : Nat → Int} {n : Nat} (h : ∀ i, i < n → g i = g' i) : zs g n = zs g' n := by
  induction n with
  | zero => rfl
  | succ n ih => rw [zs_s, zs_s, ih (fun i hi => h i (by omega)), h n (by omega)]
theorem zs_add (g g' : Nat → Int) (n : Nat) : zs (fun i => g i + g' i) n = zs g n + zs g' n := by
  induction n with
  | zero => rfl
  | succ n ih => rw [zs_s, zs_s, zs_s, ih]; omega
theorem zs_zero {g : Nat → Int} {n : Nat} (h : ∀ i, i < n → g i = 0) : zs g n = 0 := by
  induction n with
  | zero => rfl
  | succ n ih => rw [zs_s, ih (fun i hi => h i (by omega)), h n (by omega)]; rfl
theorem zs_single (g : Nat → Int) (a n : Nat) : zs (fun i => if i = a then g i else 0) n = if a < n then g a else 0 := by
  induction n with
  | zero => simp [wp_some, wp_bind, x_I_sI, x_J_sJ, x_R_sR, x_A_sA, x_B_sB, x_I_sJ, x_I_sR, x_I_sA, x_I_sB, x_J_sI, x_J_sR, x_J_sA, x_J_sB, x_R_sI, x_R_sJ, x_R_sA, x_R_sB, x_A_sI, x_A_sJ, x_A_sR, x_A_sB, x_B_sI, x_B_sJ, x_B_sR, x_B_sA, x_Q_sI, x_Q_sJ, x_Q_sR, x_Q_sA, x_Q_sB, zs]
  | succ n ih =>
    rw [zs_s, ih]
    show (if a < n then g a else 0) + (if n = a then g n else 0) = _
    by_cases h2 : n = a
    · subst h2
      simp [wp_some, wp_bind, x_I_sI, x_J_sJ, x_R_sR, x_A_sA, x_B_sB, x_I_sJ, x_I_sR, x_I_sA, x_I_sB, x_J_sI, x_J_sR, x_J_sA, x_J_sB, x_R_sI, x_R_sJ, x_R_sA, x_R_sB, x_A_sI, x_A_sJ, x_A_sR, x_A_sB, x_B_sI, x_B_sJ, x_B_sR, x_B_sA, x_Q_sI, x_Q_sJ, x_Q_sR, x_Q_sA, x_Q_sB]
    · by_cases h1 : a < n
      · simp [wp_some, wp_bind, x_I_sI, x_J_sJ, x_R_sR, x_A_sA, x_B_sB, x_I_sJ, x_I_sR, x_I_sA, x_I_sB, x_J_sI, x_J_sR, x_J_sA, x_J_sB, x_R_sI, x_R_sJ, x_R_sA, x_R_sB, x_A_sI, x_A_sJ, x_A_sR, x_A_sB, x_B_sI, x_B_sJ, x_B_sR, x_B_sA, x_Q_sI, x_Q_sJ, x_Q_sR, x_Q_sA, x_Q_sB, h1, h2, show a < n + 1 by omega]
      · simp [wp_some, wp_bind, x_I_sI, x_J_sJ, x_R_sR, x_A_sA, x_B_sB, x_I_sJ, x_I_sR, x_I_sA, x_I_sB, x_J_sI, x_J_sR, x_J_sA, x_J_sB, x_R_sI, x_R_sJ, x_R_sA, x_R_sB, x_A_sI, x_A_sJ, x_A_sR, x_A_sB, x_B_sI, x_B_sJ, x_B_sR, x_B_sA, x_Q_sI, x_Q_sJ, x_Q_sR, x_Q_sA, x_Q_sB, h1, h2, show ¬ a < n + 1 by omega]
theorem zs_split (g : Nat → Int) (a b : Nat) : zs g (a + b) = zs g a + zs (fun i => g (a + i)) b := by
  induction b with
  | zero => simp [wp_some, wp_bind, x_I_sI, x_J_sJ, x_R_sR, x_A_sA, x_B_sB, x_I_sJ, x_I_sR, x_I_sA, x_I_sB, x_J_sI, x_J_sR, x_J_sA, x_J_sB, x_R_sI, x_R_sJ, x_R_sA, x_R_sB, x_A_sI, x_A_sJ, x_A_sR, x_A_sB, x_B_sI, x_B_sJ, x_B_sR, x_B_sA, x_Q_sI, x_Q_sJ, x_Q_sR, x_Q_sA, x_Q_sB, zs]
  | succ b ih => rw [← Nat.add_assoc, zs_s, zs_s, ih]; omega
theorem zs_nonneg {g : Nat → Int} {n : Nat} (h : ∀ i, i < n → 0 ≤ g i) : 0 ≤ zs g n := by
  induction n with
  | zero => exact Int.le_refl _
  | succ n ih =>
    rw [zs_s]
    have h1 := ih (fun i hi => h i (by omega))
    have h2 := h n (by omega)
    omega
theorem zs_le {g : Nat → Int} {n : Nat} {B : Int} (h : ∀ i, i < n → g i ≤ B) : zs g n ≤ n * B := by
  induction n with
  | zero => simp [wp_some, wp_bind, x_I_sI, x_J_sJ, x_R_sR, x_A_sA, x_B_sB, x_I_sJ, x_I_sR, x_I_sA, x_I_sB, x_J_sI, x_J_sR, x_J_sA, x_J_sB, x_R_sI, x_R_sJ, x_R_sA, x_R_sB, x_A_sI, x_A_sJ, x_A_sR, x_A_sB, x_B_sI, x_B_sJ, x_B_sR, x_B_sA, x_Q_sI, x_Q_sJ, x_Q_sR, x_Q_sA, x_Q_sB, zs]
  | succ n ih =>
    rw [zs_s]
    have h1 := ih (fun i hi => h i (by omega))
    have h2 := h n (by omega)
    have h3 : ((n + 1 : Nat) : Int) * B = n * B + B := by rw [Int.natCast_add, Int.add_mul]; simp [wp_some, wp_bind, x_I_sI, x_J_sJ, x_R_sR, x_A_sA, x_B_sB, x_I_sJ, x_I_sR, x_I_sA, x_I_sB, x_J_sI, x_J_sR, x_J_sA, x_J_sB, x_R_sI, x_R_sJ, x_R_sA, x_R_sB, x_A_sI, x_A_sJ, x_A_sR, x_A_sB, x_B_sI, x_B_sJ, x_B_sR, x_B_sA, x_Q_sI, x_Q_sJ, x_Q_sR, x_Q_sA, x_Q_sB]
    omega
theorem zs_mono {g g' : Nat → Int} {n : Nat} (h : ∀ i, i < n → g i ≤ g' i) : zs g n ≤ zs g' n := by
  induction n with
  | zero => exact Int.le_refl _
  | succ n ih =>
    rw [zs_s, zs_s]
    have h1 := ih (fun i hi => h i (by omega))
    have h2 := h n (by omega)
    omega
/-- what floors leave of a sum -/
theorem zs_floor {g : Nat → Int} {n : Nat} {S L : Int} (hL : 0 < L) : zs (fun i => g i * S / L) n * L ≤ zs g n * S := by
  induction n with
  | zero => simp [wp_some, wp_bind, x_I_sI, x_J_sJ, x_R_sR, x_A_sA, x_B_sB, x_I_sJ, x_I_sR, x_I_sA, x_I_sB, x_J_sI, x_J_sR, x_J_sA, x_J_sB, x_R_sI, x_R_sJ, x_R_sA, x_R_sB, x_A_sI, x_A_sJ, x_A_sR, x_A_sB, x_B_sI, x_B_sJ, x_B_sR, x_B_sA, x_Q_sI, x_Q_sJ, x_Q_sR, x_Q_sA, x_Q_sB, zs]
  | succ n ih =>
    rw [zs_s, zs_s, Int.add_mul, Int.add_mul]
    have := Int.ediv_mul_le (g n * S) (b := L) (by omega)
    omega
/-- places: cells 0..n-1, the outer air n, the inner air n+1 -/
def op (n f : Nat) : Nat := if f = 0 then n else if f = 1 then n - 1 else if f = 2 then n else if f < 3 + n then f - 3 else f - (3 + n)
def ip (n f : Nat) : Nat := if f = 0 then 0 else if f = 1 then n + 1 else if f = 2 then 0 else if f < 3 + n then n + 1 else f - (3 + n) + 1
def SO (n p : Nat) (P N : Nat → Int) : Int := zs (fun f => (if op n f = p then P f else 0) + (if ip n f = p then N f else 0)) (2 * n + 2)
def SI (n p : Nat) (P N : Nat → Int) : Int := zs (fun f => (if ip n f = p then P f else 0) + (if op n f = p then N f else 0)) (2 * n + 2)
theorem op_leak (n k : Nat) (hk : k < n) : op n (3 + k) = k := by unfold op; rw [if_neg (by omega), if_neg (by omega), if_neg (by omega), if_pos (by omega)]; omega
theorem ip_leak (n k : Nat) (hk : k < n) : ip n (3 + k) = n + 1 := by unfold ip; rw [if_neg (by omega), if_neg (by omega), if_neg (by omega), if_pos (by omega)]
theorem op_betw (n k : Nat) : op n (3 + n + k) = k := by unfold op; rw [if_neg (by omega), if_neg (by omega), if_neg (by omega), if_neg (by omega)]; omega
theorem ip_betw (n k : Nat) : ip n (3 + n + k) = k + 1 := by unfold ip; rw [if_neg (by omega), if_neg (by omega), if_neg (by omega), if_neg (by omega)]; omega
theorem op_lt (n f : Nat) (hn : 1 ≤ n) (hf : f < 2 * n + 2) : op n f < n + 2 := by
  unfold op
  repeat' split
  all_goals omega
theorem ip_lt (n f : Nat) (hn : 1 ≤ n) (hf : f < 2 * n + 2) : ip n f < n + 2 := by
  unfold ip
  repeat' split
  all_goals omega
theorem zs_flows (g : Nat → Int) (n : Nat) (hn : 1 ≤ n) : zs g (2 * n + 2) = g 0 + g 1 + g 2 + zs (fun k => g (3 + k)) n + zs (fun k => g (3 + n + k)) (n - 1) := by
  rw [show 2 * n + 2 = 3 + n + (n - 1) by omega, zs_split, zs_split]
  simp [wp_some, wp_bind, x_I_sI, x_J_sJ, x_R_sR, x_A_sA, x_B_sB, x_I_sJ, x_I_sR, x_I_sA, x_I_sB, x_J_sI, x_J_sR, x_J_sA, x_J_sB, x_R_sI, x_R_sJ, x_R_sA, x_R_sB, x_A_sI, x_A_sJ, x_A_sR, x_A_sB, x_B_sI, x_B_sJ, x_B_sR, x_B_sA, x_Q_sI, x_Q_sJ, x_Q_sR, x_Q_sA, x_Q_sB, zs]
theorem zs_if {g : Nat → Int} {q : Nat → Prop} [DecidablePred q] {a n : Nat} (h : ∀ i, i < n → (q i ↔ i = a)) : zs (fun i => if q i then g i else 0) n = if a < n then g a else 0 := by
  rw [← zs_single]
  apply zs_congr
  intro i hi
  by_cases e : i = a
  · rw [if_pos e, if_pos ((h i hi).mpr e)]
  · rw [if_neg e, if_neg (fun z => e ((h i hi).mp z))]
theorem zs_if0 {g : Nat → Int} {q : Nat → Prop} [DecidablePred q] {n : Nat} (h : ∀ i, i < n → ¬ q i) : zs (fun i => if q i then g i else 0) n = 0 := zs_zero (fun i hi => if_neg (h i hi))
theorem zs_if1 {g : Nat → Int} {q : Nat → Prop} [DecidablePred q] {n : Nat} (h : ∀ i, i < n → q i) : zs (fun i => if q i then g i else 0) n = zs g n := zs_congr (fun i hi => if_pos (h i hi))
theorem SO_cell {n k : Nat} (hk : k < n) (P N : Nat → Int) : SO n k P N = (if k = 0 then N 0 + N 2 else 0) + (if k = n - 1 then P 1 else 0) + P (3 + k) + (if k + 1 < n then P (3 + n + k) else 0) + (if 0 < k then N (3 + n + (k - 1)) else 0) := by
  unfold SO
  rw [zs_flows _ n (by omega), zs_add, zs_add, zs_if (a := k) (fun i hi => by rw [op_leak n i hi]), zs_if0 (fun i hi => by rw [ip_leak n i hi]; omega), zs_if (a := k) (fun i hi => by rw [op_betw]), if_pos hk]
  have e2 : zs (fun i => if ip n (3 + n + i) = k then N (3 + n + i) else 0) (n - 1) = if 0 < k then N (3 + n + (k - 1)) else 0 := by
    by_cases h0 : 0 < k
    · rw [if_pos h0, zs_if (a := k - 1) (fun i hi => by rw [ip_betw]; omega), if_pos (by omega)]
    · rw [if_neg h0, zs_if0 (fun i hi => by rw [ip_betw]; omega)]
  rw [e2]
  have q0 : op n 0 = n ∧ op n 1 = n - 1 ∧ op n 2 = n ∧ ip n 0 = 0 ∧ ip n 1 = n + 1 ∧ ip n 2 = 0 := by simp [wp_some, wp_bind, x_I_sI, x_J_sJ, x_R_sR, x_A_sA, x_B_sB, x_I_sJ, x_I_sR, x_I_sA, x_I_sB, x_J_sI, x_J_sR, x_J_sA, x_J_sB, x_R_sI, x_R_sJ, x_R_sA, x_R_sB, x_A_sI, x_A_sJ, x_A_sR, x_A_sB, x_B_sI, x_B_sJ, x_B_sR, x_B_sA, x_Q_sI, x_Q_sJ, x_Q_sR, x_Q_sA, x_Q_sB, op, ip]
  obtain ⟨q1, q2, q3, q4, q5, q6⟩ := q0
  rw [q1, q2, q3, q4, q5, q6]
  rw [if_neg (show ¬ n = k by omega), if_neg (show ¬ n + 1 = k by omega), if_neg (show ¬ n = k by omega)]
  by_cases h0 : k = 0
  · rw [if_pos h0, if_pos h0.symm, if_pos h0.symm]
    by_cases h1 : k = n - 1
    · rw [if_pos h1, if_pos h1.symm, if_neg (show ¬ k < n - 1 by omega), if_neg (show ¬ k + 1 < n by omega)]; omega
    · rw [if_neg h1, if_neg (Ne.symm h1), if_pos (show k < n - 1 by omega), if_pos (show k + 1 < n by omega)]; omega
  · rw [if_neg h0, if_neg (Ne.symm h0), if_neg (Ne.symm h0)]
    by_cases h1 : k = n - 1
    · rw [if_pos h1, if_pos h1.symm, if_neg (show ¬ k < n - 1 by omega), if_neg (show ¬ k + 1 < n by omega)]; omega
    · rw [if_neg h1, if_neg (Ne.symm h1), if_pos (show k < n - 1 by omega), if_pos (show k + 1 < n by omega)]; omega
theorem SI_eq (n p : Nat) (P N : Nat → Int) : SI n p P N = SO n p N P := by
  unfold SI SO
  apply zs_congr
  intro i _
  omega
theorem SO_out {n : Nat} (hn : 1 ≤ n) (P N : Nat → Int) : SO n n P N = P 0 + P 2 := by
  unfold SO
  rw [zs_flows _ n (by omega), zs_add, zs_add, zs_if0 (fun i hi => by rw [op_leak n i hi]; omega), zs_if0 (fun i hi => by rw [ip_leak n i hi]; omega), zs_if0 (fun i hi => by rw [op_betw]; omega), zs_if0 (fun i hi => by rw [ip_betw]; omega)]
  simp only [op, ip]
  simp [wp_some, wp_bind, x_I_sI, x_J_sJ, x_R_sR, x_A_sA, x_B_sB, x_I_sJ, x_I_sR, x_I_sA, x_I_sB, x_J_sI, x_J_sR, x_J_sA, x_J_sB, x_R_sI, x_R_sJ, x_R_sA, x_R_sB, x_A_sI, x_A_sJ, x_A_sR, x_A_sB, x_B_sI, x_B_sJ, x_B_sR, x_B_sA, x_Q_sI, x_Q_sJ, x_Q_sR, x_Q_sA, x_Q_sB, show ¬ 0 = n by omega, show ¬ n - 1 = n by omega]
theorem SO_in {n : Nat} (hn : 1 ≤ n) (P N : Nat → Int) : SO n (n + 1) P N = N 1 + zs (fun k => N (3 + k)) n := by
  unfold SO
  rw [zs_flows _ n (by omega), zs_add, zs_add, zs_if0 (fun i hi => by rw [op_leak n i hi]; omega), zs_if1 (fun i hi => by rw [ip_leak n i hi]), zs_if0 (fun i hi => by rw [op_betw]; omega), zs_if0 (fun i hi => by rw [ip_betw]; omega)]
  simp only [op, ip]
  simp [wp_some, wp_bind, x_I_sI, x_J_sJ, x_R_sR, x_A_sA, x_B_sB, x_I_sJ, x_I_sR, x_I_sA, x_I_sB, x_J_sI, x_J_sR, x_J_sA, x_J_sB, x_R_sI, x_R_sJ, x_R_sA, x_R_sB, x_A_sI, x_A_sJ, x_A_sR, x_A_sB, x_B_sI, x_B_sJ, x_B_sR, x_B_sA, x_Q_sI, x_Q_sJ, x_Q_sR, x_Q_sA, x_Q_sB, show ¬ n - 1 = n + 1 by omega]
/-- a flow's portion -/
def lm (a l x : Int) : Int := if l < a then x * l / a else x
theorem lm_b {a l x : Int} (hx : 0 ≤ x) (hl : 0 ≤ l) : 0 ≤ lm a l x ∧ lm a l x ≤ x := by
  unfold lm
  by_cases h : l < a
  · rw [if_pos h]
    refine ⟨Int.ediv_nonneg (Int.mul_nonneg hx hl) (by omega), ?_⟩
    apply Int.ediv_le_of_le_mul (by omega)
    exact Int.mul_le_mul_of_nonneg_left (by omega) hx
  · rw [if_neg h]; omega
theorem lm_0 (a l : Int) : lm a l 0 = 0 := by unfold lm; simp [wp_some, wp_bind, x_I_sI, x_J_sJ, x_R_sR, x_A_sA, x_B_sB, x_I_sJ, x_I_sR, x_I_sA, x_I_sB, x_J_sI, x_J_sR, x_J_sA, x_J_sB, x_R_sI, x_R_sJ, x_R_sA, x_R_sB, x_A_sI, x_A_sJ, x_A_sR, x_A_sB, x_B_sI, x_B_sJ, x_B_sR, x_B_sA, x_Q_sI, x_Q_sJ, x_Q_sR, x_Q_sA, x_Q_sB]
def fP (s : Nat → Int) (f : Nat) : Int := if 0 ≤ s f then s f else 0
def fN (s : Nat → Int) (f : Nat) : Int := if 0 ≤ s f then 0 else - s f
def P1 (n : Nat) (sup s : Nat → Int) (f : Nat) : Int := lm (SO n (op n f) (fP s) (fN s)) (sup (op n f)) (fP s f)
def N1 (n : Nat) (sup s : Nat → Int) (f : Nat) : Int := lm (SO n (ip n f) (fP s) (fN s)) (sup (ip n f)) (fN s f)
def P2 (n : Nat) (sup roo s : Nat → Int) (f : Nat) : Int := lm (SI n (ip n f) (P1 n sup s) (N1 n sup s)) (roo (ip n f)) (P1 n sup s f)
def N2 (n : Nat) (sup roo s : Nat → Int) (f : Nat) : Int := lm (SI n (op n f) (P1 n sup s) (N1 n sup s)) (roo (op n f)) (N1 n sup s f)
theorem SO_nonneg {n p : Nat} {P N : Nat → Int} (hP : ∀ f, f < 2 * n + 2 → 0 ≤ P f) (hN : ∀ f, f < 2 * n + 2 → 0 ≤ N f) : 0 ≤ SO n p P N := by
  apply zs_nonneg
  intro i hi
  have := hP i hi
  have := hN i hi
  repeat' split
  all_goals omega
theorem SO_le {n p : Nat} {P N : Nat → Int} {B : Int} (hB : 0 ≤ B) (hP : ∀ f, f < 2 * n + 2 → P f ≤ B) (hN : ∀ f, f < 2 * n + 2 → N f ≤ B) : SO n p P N ≤ ((2 * n + 2 : Nat) : Int) * (2 * B) := by
  apply zs_le
  intro i hi
  have := hP i hi
  have := hN i hi
  repeat' split
  all_goals omega
theorem SO_mono {n p : Nat} {P N P' N' : Nat → Int} (hP : ∀ f, f < 2 * n + 2 → P f ≤ P' f) (hN : ∀ f, f < 2 * n + 2 → N f ≤ N' f) : SO n p P N ≤ SO n p P' N' := by
  apply zs_mono
  intro i hi
  have := hP i hi
  have := hN i hi
  repeat' split
  all_goals omega
/-- after the portion, no more leaves than there is -/
theorem SO_lm {n p : Nat} {P N : Nat → Int} {S : Int} (hP : ∀ f, f < 2 * n + 2 → 0 ≤ P f) (hN : ∀ f, f < 2 * n + 2 → 0 ≤ N f) (hS : 0 ≤ S) : SO n p (fun f => lm (SO n p P N) S (P f)) (fun f => lm (SO n p P N) S (N f)) ≤ S := by
  by_cases h : S < SO n p P N
  · have h1 := zs_floor (g := fun f => if op n f = p then P f else 0) (n := 2 * n + 2) (S := S) (L := SO n p P N) (by omega)
    have h2 := zs_floor (g := fun f => if ip n f = p then N f else 0) (n := 2 * n + 2) (S := S) (L := SO n p P N) (by omega)
    have e : SO n p (fun f => lm (SO n p P N) S (P f)) (fun f => lm (SO n p P N) S (N f)) = zs (fun i => (if op n i = p then P i else 0) * S / SO n p P N) (2 * n + 2) + zs (fun i => (if ip n i = p then N i else 0) * S / SO n p P N) (2 * n + 2) := by
      rw [← zs_add]
      unfold lm
      simp only [if_pos h]
      apply zs_congr
      intro i _
      have e1 : (if op n i = p then P i * S / SO n p P N else 0) = (if op n i = p then P i else 0) * S / SO n p P N := by split <;> simp [wp_some, wp_bind, x_I_sI, x_J_sJ, x_R_sR, x_A_sA, x_B_sB, x_I_sJ, x_I_sR, x_I_sA, x_I_sB, x_J_sI, x_J_sR, x_J_sA, x_J_sB, x_R_sI, x_R_sJ, x_R_sA, x_R_sB, x_A_sI, x_A_sJ, x_A_sR, x_A_sB, x_B_sI, x_B_sJ, x_B_sR, x_B_sA, x_Q_sI, x_Q_sJ, x_Q_sR, x_Q_sA, x_Q_sB]
      have e2 : (if ip n i = p then N i * S / SO n p P N else 0) = (if ip n i = p then N i else 0) * S / SO n p P N := by split <;> simp [wp_some, wp_bind, x_I_sI, x_J_sJ, x_R_sR, x_A_sA, x_B_sB, x_I_sJ, x_I_sR, x_I_sA, x_I_sB, x_J_sI, x_J_sR, x_J_sA, x_J_sB, x_R_sI, x_R_sJ, x_R_sA, x_R_sB, x_A_sI, x_A_sJ, x_A_sR, x_A_sB, x_B_sI, x_B_sJ, x_B_sR, x_B_sA, x_Q_sI, x_Q_sJ, x_Q_sR, x_Q_sA, x_Q_sB]
      rw [e1, e2]
    have e3 : SO n p P N = zs (fun f => if op n f = p then P f else 0) (2 * n + 2) + zs (fun f => if ip n f = p then N f else 0) (2 * n + 2) := by unfold SO; rw [zs_add]
    rw [e]
    have h3 : (zs (fun i => (if op n i = p then P i else 0) * S / SO n p P N) (2 * n + 2) + zs (fun i => (if ip n i = p then N i else 0) * S / SO n p P N) (2 * n + 2)) * SO n p P N ≤ S * SO n p P N := by
      rw [Int.add_mul]
      have h4 : S * SO n p P N = zs (fun f => if op n f = p then P f else 0) (2 * n + 2) * S + zs (fun f => if ip n f = p then N f else 0) (2 * n + 2) * S := by
        rw [← Int.add_mul, ← e3, Int.mul_comm]
      omega
    exact Int.le_of_mul_le_mul_right h3 (by omega)
  · have e : SO n p (fun f => lm (SO n p P N) S (P f)) (fun f => lm (SO n p P N) S (N f)) = SO n p P N := by
      unfold lm
      simp only [if_neg h]
    rw [e]; omega
def FB (n : Nat) (sup roo s : Nat → Int) : Prop := (1 ≤ n) ∧ (n ≤ 12) ∧ (∀ f, f < 2 * n + 2 → -110000 ≤ s f ∧ s f ≤ 110000) ∧ (∀ p, p < n + 2 → 0 ≤ sup p ∧ sup p ≤ 1000000000) ∧ (∀ p, p < n + 2 → 0 ≤ roo p ∧ roo p ≤ 1000000000) ∧ (∀ p, n ≤ p → sup p = 1000000000 ∧ roo p = 1000000000) ∧ (0 ≤ s 2) ∧ (∀ k, k < n → s (3 + k) ≤ 0)
theorem FB.n1 {n : Nat} {sup roo s : Nat → Int} (S_ : FB n sup roo s) : 1 ≤ n := S_.1
theorem FB.n12 {n : Nat} {sup roo s : Nat → Int} (S_ : FB n sup roo s) : n ≤ 12 := S_.2.1
theorem FB.sb {n : Nat} {sup roo s : Nat → Int} (S_ : FB n sup roo s) : ∀ f, f < 2 * n + 2 → -110000 ≤ s f ∧ s f ≤ 110000 := S_.2.2.1
theorem FB.u {n : Nat} {sup roo s : Nat → Int} (S_ : FB n sup roo s) : ∀ p, p < n + 2 → 0 ≤ sup p ∧ sup p ≤ 1000000000 := S_.2.2.2.1
theorem FB.r {n : Nat} {sup roo s : Nat → Int} (S_ : FB n sup roo s) : ∀ p, p < n + 2 → 0 ≤ roo p ∧ roo p ≤ 1000000000 := S_.2.2.2.2.1
theorem FB.ua {n : Nat} {sup roo s : Nat → Int} (S_ : FB n sup roo s) : ∀ p, n ≤ p → sup p = 1000000000 ∧ roo p = 1000000000 := S_.2.2.2.2.2.1
theorem FB.rain {n : Nat} {sup roo s : Nat → Int} (S_ : FB n sup roo s) : 0 ≤ s 2 := S_.2.2.2.2.2.2.1
theorem FB.leak {n : Nat} {sup roo s : Nat → Int} (S_ : FB n sup roo s) : ∀ k, k < n → s (3 + k) ≤ 0 := S_.2.2.2.2.2.2.2
section FBs
variable {n : Nat} {sup roo s : Nat → Int}
theorem FB.p0 (F : FB n sup roo s) : ∀ f, f < 2 * n + 2 → 0 ≤ fP s f ∧ fP s f ≤ 110000 := by
  intro f hf
  have := F.sb f hf
  unfold fP
  split <;> omega
theorem FB.q0 (F : FB n sup roo s) : ∀ f, f < 2 * n + 2 → 0 ≤ fN s f ∧ fN s f ≤ 110000 := by
  intro f hf
  have := F.sb f hf
  unfold fN
  split <;> omega
theorem FB.p1 (F : FB n sup roo s) : ∀ f, f < 2 * n + 2 → 0 ≤ P1 n sup s f ∧ P1 n sup s f ≤ fP s f := fun f hf => lm_b (F.p0 f hf).1 (F.u _ (op_lt n f F.n1 hf)).1
theorem FB.q1 (F : FB n sup roo s) : ∀ f, f < 2 * n + 2 → 0 ≤ N1 n sup s f ∧ N1 n sup s f ≤ fN s f := fun f hf => lm_b (F.q0 f hf).1 (F.u _ (ip_lt n f F.n1 hf)).1
theorem FB.p2 (F : FB n sup roo s) : ∀ f, f < 2 * n + 2 → 0 ≤ P2 n sup roo s f ∧ P2 n sup roo s f ≤ P1 n sup s f := fun f hf => lm_b (F.p1 f hf).1 (F.r _ (ip_lt n f F.n1 hf)).1
theorem FB.q2 (F : FB n sup roo s) : ∀ f, f < 2 * n + 2 → 0 ≤ N2 n sup roo s f ∧ N2 n sup roo s f ≤ N1 n sup s f := fun f hf => lm_b (F.q1 f hf).1 (F.r _ (op_lt n f F.n1 hf)).1
theorem FB.so0 (F : FB n sup roo s) (p : Nat) : 0 ≤ SO n p (fP s) (fN s) ∧ SO n p (fP s) (fN s) ≤ 6000000 := by
  refine ⟨SO_nonneg (fun f hf => (F.p0 f hf).1) (fun f hf => (F.q0 f hf).1), ?_⟩
  have h := SO_le (n := n) (p := p) (B := 110000) (by omega) (fun f hf => (F.p0 f hf).2) (fun f hf => (F.q0 f hf).2)
  have h1 := F.n12
  have h2 : ((2 * n + 2 : Nat) : Int) * (2 * 110000) ≤ 26 * (2 * 110000) := Int.mul_le_mul_of_nonneg_right (by omega) (by omega)
  omega
theorem FB.si1 (F : FB n sup roo s) (p : Nat) : 0 ≤ SI n p (P1 n sup s) (N1 n sup s) ∧ SI n p (P1 n sup s) (N1 n sup s) ≤ 6000000 := by
  rw [SI_eq]
  refine ⟨SO_nonneg (fun f hf => (F.q1 f hf).1) (fun f hf => (F.p1 f hf).1), ?_⟩
  have h := SO_le (n := n) (p := p) (B := 110000) (by omega) (fun f hf => Int.le_trans (F.q1 f hf).2 (F.q0 f hf).2) (fun f hf => Int.le_trans (F.p1 f hf).2 (F.p0 f hf).2)
  have h1 := F.n12
  have h2 : ((2 * n + 2 : Nat) : Int) * (2 * 110000) ≤ 26 * (2 * 110000) := Int.mul_le_mul_of_nonneg_right (by omega) (by omega)
  omega
/-- the end: what leaves is at most the supply, what comes at most the room -/
theorem FB.out (F : FB n sup roo s) {p : Nat} (hp : p < n + 2) : 0 ≤ SO n p (P2 n sup roo s) (N2 n sup roo s) ∧ SO n p (P2 n sup roo s) (N2 n sup roo s) ≤ sup p := by
  refine ⟨SO_nonneg (fun f hf => (F.p2 f hf).1) (fun f hf => (F.q2 f hf).1), ?_⟩
  refine Int.le_trans (SO_mono (fun f hf => (F.p2 f hf).2) (fun f hf => (F.q2 f hf).2)) ?_
  refine Int.le_trans (Int.le_of_eq ?_) (SO_lm (n := n) (p := p) (P := fP s) (N := fN s) (S := sup p) (fun f hf => (F.p0 f hf).1) (fun f hf => (F.q0 f hf).1) (F.u p hp).1)
  unfold SO
  apply zs_congr
  intro f _
  have e1 : (if op n f = p then P1 n sup s f else 0) = if op n f = p then lm (SO n p (fP s) (fN s)) (sup p) (fP s f) else 0 := by
    by_cases h : op n f = p
    · rw [if_pos h, if_pos h]; unfold P1; rw [h]
    · rw [if_neg h, if_neg h]
  have e2 : (if ip n f = p then N1 n sup s f else 0) = if ip n f = p then lm (SO n p (fP s) (fN s)) (sup p) (fN s f) else 0 := by
    by_cases h : ip n f = p
    · rw [if_pos h, if_pos h]; unfold N1; rw [h]
    · rw [if_neg h, if_neg h]
  rw [e1, e2]
  rfl
theorem FB.into (F : FB n sup roo s) {p : Nat} (hp : p < n + 2) : 0 ≤ SI n p (P2 n sup roo s) (N2 n sup roo s) ∧ SI n p (P2 n sup roo s) (N2 n sup roo s) ≤ roo p := by
  rw [SI_eq]
  refine ⟨SO_nonneg (fun f hf => (F.q2 f hf).1) (fun f hf => (F.p2 f hf).1), ?_⟩
  refine Int.le_trans (Int.le_of_eq ?_) (SO_lm (n := n) (p := p) (P := N1 n sup s) (N := P1 n sup s) (S := roo p) (fun f hf => (F.q1 f hf).1) (fun f hf => (F.p1 f hf).1) (F.r p hp).1)
  unfold SO
  apply zs_congr
  intro f _
  have e1 : (if ip n f = p then P2 n sup roo s f else 0) = if ip n f = p then lm (SO n p (N1 n sup s) (P1 n sup s)) (roo p) (P1 n sup s f) else 0 := by
    by_cases h : ip n f = p
    · rw [if_pos h, if_pos h]; unfold P2; rw [h, SI_eq]
    · rw [if_neg h, if_neg h]
  have e2 : (if op n f = p then N2 n sup roo s f else 0) = if op n f = p then lm (SO n p (N1 n sup s) (P1 n sup s)) (roo p) (N1 n sup s f) else 0 := by
    by_cases h : op n f = p
    · rw [if_pos h, if_pos h]; unfold N2; rw [h, SI_eq]
    · rw [if_neg h, if_neg h]
  rw [e1, e2]
  rfl
end FBs
