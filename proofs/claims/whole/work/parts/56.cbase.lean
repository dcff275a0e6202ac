/-! THE CLASS'S SIDE: frames, layout -/
def Fx (b e : Nat) (a1 a2 a3 : List Nat) (w w' : x_W) : Prop := (∀ k h, (k ∉ a1 ∨ h < b ∨ e ≤ h) → x_I w' k h = x_I w k h) ∧ (∀ k h, (k ∉ a2 ∨ h < b ∨ e ≤ h) → x_J w' k h = x_J w k h) ∧ (∀ k h, (k ∉ a3 ∨ h < b ∨ e ≤ h) → x_R w' k h = x_R w k h) ∧ (w'.2.2.2 = w.2.2.2)
theorem Fx.I {b e : Nat} {a1 a2 a3 : List Nat} {w w' : x_W} (S_ : Fx b e a1 a2 a3 w w') : ∀ k h, (k ∉ a1 ∨ h < b ∨ e ≤ h) → x_I w' k h = x_I w k h := S_.1
theorem Fx.J {b e : Nat} {a1 a2 a3 : List Nat} {w w' : x_W} (S_ : Fx b e a1 a2 a3 w w') : ∀ k h, (k ∉ a2 ∨ h < b ∨ e ≤ h) → x_J w' k h = x_J w k h := S_.2.1
theorem Fx.R {b e : Nat} {a1 a2 a3 : List Nat} {w w' : x_W} (S_ : Fx b e a1 a2 a3 w w') : ∀ k h, (k ∉ a3 ∨ h < b ∨ e ≤ h) → x_R w' k h = x_R w k h := S_.2.2.1
theorem Fx.q {b e : Nat} {a1 a2 a3 : List Nat} {w w' : x_W} (S_ : Fx b e a1 a2 a3 w w') : w'.2.2.2 = w.2.2.2 := S_.2.2.2
theorem Fx.refl (b e : Nat) (a1 a2 a3 : List Nat) (w : x_W) : Fx b e a1 a2 a3 w w := ⟨fun _ _ _ => rfl, fun _ _ _ => rfl, fun _ _ _ => rfl, rfl⟩
theorem Fx.trans {b e : Nat} {a1 a2 a3 : List Nat} {w w' w'' : x_W} (h1 : Fx b e a1 a2 a3 w w') (h2 : Fx b e a1 a2 a3 w' w'') : Fx b e a1 a2 a3 w w'' := ⟨fun k h q => (h2.I k h q).trans (h1.I k h q), fun k h q => (h2.J k h q).trans (h1.J k h q), fun k h q => (h2.R k h q).trans (h1.R k h q), h2.q.trans h1.q⟩
theorem Fx.mono {b e : Nat} {a1 a2 a3 b1 b2 b3 : List Nat} {w w' : x_W} (h : Fx b e a1 a2 a3 w w') (q1 : ∀ k ∈ a1, k ∈ b1) (q2 : ∀ k ∈ a2, k ∈ b2) (q3 : ∀ k ∈ a3, k ∈ b3) : Fx b e b1 b2 b3 w w' :=
  ⟨fun k i q => h.I k i (q.imp_left (fun z y => z (q1 k y))), fun k i q => h.J k i (q.imp_left (fun z y => z (q2 k y))), fun k i q => h.R k i (q.imp_left (fun z y => z (q3 k y))), h.q⟩
theorem Fx.A {b e : Nat} {a1 a2 a3 : List Nat} {w w' : x_W} (h : Fx b e a1 a2 a3 w w') (i j : Nat) : x_A w' i j = x_A w i j := by unfold x_A; rw [h.q]
theorem Fx.B {b e : Nat} {a1 a2 a3 : List Nat} {w w' : x_W} (h : Fx b e a1 a2 a3 w w') (i j : Nat) : x_B w' i j = x_B w i j := by unfold x_B; rw [h.q]
theorem Fx.Q {b e : Nat} {a1 a2 a3 : List Nat} {w w' : x_W} (h : Fx b e a1 a2 a3 w w') (i j : Nat) : x_Q w' i j = x_Q w i j := by unfold x_Q; rw [h.q]
theorem Fx.sI {b e : Nat} {a1 a2 a3 : List Nat} {w w' : x_W} {k h : Nat} {v : Int32} (F : Fx b e a1 a2 a3 w w') (hk : k ∈ a1) (h1 : b ≤ h) (h2 : h < e) : Fx b e a1 a2 a3 w (x_sI w' k h v) := by
  refine ⟨fun k' h' q => ?_, F.J, F.R, F.q⟩
  rw [x_I_sI, if_neg, F.I k' h' q]
  intro z
  rcases q with q | q | q
  · exact q (z.1 ▸ hk)
  · omega
  · omega
theorem Fx.sJ {b e : Nat} {a1 a2 a3 : List Nat} {w w' : x_W} {k h : Nat} {v : Int64} (F : Fx b e a1 a2 a3 w w') (hk : k ∈ a2) (h1 : b ≤ h) (h2 : h < e) : Fx b e a1 a2 a3 w (x_sJ w' k h v) := by
  refine ⟨F.I, fun k' h' q => ?_, F.R, F.q⟩
  rw [x_J_sJ, if_neg, F.J k' h' q]
  intro z
  rcases q with q | q | q
  · exact q (z.1 ▸ hk)
  · omega
  · omega
theorem Fx.sR {b e : Nat} {a1 a2 a3 : List Nat} {w w' : x_W} {k h : Nat} {v : Option Nat} (F : Fx b e a1 a2 a3 w w') (hk : k ∈ a3) (h1 : b ≤ h) (h2 : h < e) : Fx b e a1 a2 a3 w (x_sR w' k h v) := by
  refine ⟨F.I, F.J, fun k' h' q => ?_, F.q⟩
  rw [x_R_sR, if_neg, F.R k' h' q]
  intro z
  rcases q with q | q | q
  · exact q (z.1 ▸ hk)
  · omega
  · omega
/-- a loop that counts up -/
theorem loop_up {σ β : Type} {N : Nat} (hN : N < 900) (F : Nat → σ → Int32 → Option β) (I : Nat → σ → Prop) (Q : β → Prop)
    (step : ∀ i s fuel, i < N → I i s → ∃ s', I (i + 1) s' ∧ F (fuel + 1) s (nI i) = F fuel s' (nI (i + 1)))
    (exit : ∀ s fuel, I N s → wp (F (fuel + 1) s (nI N)) Q) : ∀ s, I 0 s → wp (F 1000 s (0 : Int32)) Q := by
  have go : ∀ d i s fuel, i + d = N → d < fuel → I i s → wp (F fuel s (nI i)) Q := by
    intro d
    induction d with
    | zero =>
      intro i s fuel hi hf hI
      obtain ⟨fuel, rfl⟩ : ∃ k, fuel = k + 1 := ⟨fuel - 1, by omega⟩
      have : i = N := by omega
      subst this
      exact exit s fuel hI
    | succ d ih =>
      intro i s fuel hi hf hI
      obtain ⟨fuel, rfl⟩ : ∃ k, fuel = k + 1 := ⟨fuel - 1, by omega⟩
      obtain ⟨s', h1, h2⟩ := step i s fuel (by omega) hI
      rw [h2]
      exact ih (i + 1) s' fuel (by omega) (by omega) h1
  intro s hI
  exact go N 0 s 1000 (by omega) (by omega) hI
def ph (b n p : Nat) : Nat := if p < n then b + 5 + 2 * p else if p = n then b + 1 else b + 2
def fh (b n f : Nat) : Nat := if f = 0 then b + 5 + 3 * n else if f = 1 then b + 6 + 3 * n else if f = 2 then b + 7 + 3 * n else if f < 3 + n then b + 6 + 2 * (f - 3) else b + 6 + 2 * n + (f - (3 + n))
theorem ph_cell {b n p : Nat} (h : p < n) : ph b n p = b + 5 + 2 * p := if_pos h
theorem ph_out {b n : Nat} : ph b n n = b + 1 := by unfold ph; rw [if_neg (by omega), if_pos rfl]
theorem ph_in {b n : Nat} : ph b n (n + 1) = b + 2 := by unfold ph; rw [if_neg (by omega), if_neg (by omega)]
theorem ph_r {b n p : Nat} (hp : p < n + 2) : b ≤ ph b n p ∧ ph b n p < b + 9 + 3 * n := by
  unfold ph
  repeat' split
  all_goals omega
theorem ph_inj {b n p q : Nat} (hp : p < n + 2) (hq : q < n + 2) : ph b n p = ph b n q ↔ p = q := by
  constructor
  · unfold ph
    repeat' split
    all_goals omega
  · intro h; rw [h]
theorem fh_r {b n f : Nat} (hf : f < 2 * n + 2) : b ≤ fh b n f ∧ fh b n f < b + 9 + 3 * n := by
  unfold fh
  repeat' split
  all_goals omega
theorem fh_inj {b n f g : Nat} (hf : f < 2 * n + 2) (hg : g < 2 * n + 2) : fh b n f = fh b n g ↔ f = g := by
  constructor
  · unfold fh
    repeat' split
    all_goals omega
  · intro h; rw [h]
theorem fh_leak {b n k : Nat} (h : k < n) : fh b n (3 + k) = b + 6 + 2 * k := by
  unfold fh
  rw [if_neg (by omega), if_neg (by omega), if_neg (by omega), if_pos (by omega)]
  omega
theorem fh_betw {b n k : Nat} : fh b n (3 + n + k) = b + 6 + 2 * n + k := by
  unfold fh
  rw [if_neg (by omega), if_neg (by omega), if_neg (by omega), if_neg (by omega)]
  omega
def WS (T : x_T) (w : x_W) (b n : Nat) : Prop := (1 ≤ n) ∧ (n ≤ 12) ∧ (T b = some (9, 0)) ∧ (T (b + 1) = some (1, 0)) ∧ (T (b + 2) = some (1, 0)) ∧ (T (b + 3) = some (104, n)) ∧ (T (b + 4) = some (105, n)) ∧ (T (b + 5 + 2 * n) = some (105, n - 1)) ∧ (T (b + 8 + 3 * n) = some (105, 2 * n + 2)) ∧ (∀ k, k < n → T (b + 5 + 2 * k) = some (2, 0) ∧ x_Q w (b + 3) k = some (b + 5 + 2 * k)) ∧ (∀ f, f < 2 * n + 2 → T (fh b n f) = some (4, 0) ∧ x_Q w (b + 8 + 3 * n) f = some (fh b n f) ∧ x_R w 29 (fh b n f) = some (ph b n (op n f)) ∧ x_R w 30 (fh b n f) = some (ph b n (ip n f))) ∧ (∀ k, k < n → x_Q w (b + 4) k = some (fh b n (3 + k))) ∧ (∀ k, k + 1 < n → x_Q w (b + 5 + 2 * n) k = some (fh b n (3 + n + k))) ∧ (x_R w 55 b = some (b + 3)) ∧ (x_R w 56 b = some (b + 1)) ∧ (x_R w 57 b = some (b + 2)) ∧ (x_R w 58 b = some (b + 5 + 3 * n)) ∧ (x_R w 59 b = some (b + 6 + 3 * n)) ∧ (x_R w 60 b = some (b + 7 + 3 * n)) ∧ (x_R w 61 b = some (b + 4)) ∧ (x_R w 62 b = some (b + 5 + 2 * n)) ∧ (x_R w 63 b = some (b + 8 + 3 * n))
theorem WS.n1 {T : x_T} {w : x_W} {b n : Nat} (S_ : WS T w b n) : 1 ≤ n := S_.1
theorem WS.n12 {T : x_T} {w : x_W} {b n : Nat} (S_ : WS T w b n) : n ≤ 12 := S_.2.1
theorem WS.t {T : x_T} {w : x_W} {b n : Nat} (S_ : WS T w b n) : T b = some (9, 0) := S_.2.2.1
theorem WS.ta {T : x_T} {w : x_W} {b n : Nat} (S_ : WS T w b n) : T (b + 1) = some (1, 0) := S_.2.2.2.1
theorem WS.ti {T : x_T} {w : x_W} {b n : Nat} (S_ : WS T w b n) : T (b + 2) = some (1, 0) := S_.2.2.2.2.1
theorem WS.tc {T : x_T} {w : x_W} {b n : Nat} (S_ : WS T w b n) : T (b + 3) = some (104, n) := S_.2.2.2.2.2.1
theorem WS.tl {T : x_T} {w : x_W} {b n : Nat} (S_ : WS T w b n) : T (b + 4) = some (105, n) := S_.2.2.2.2.2.2.1
theorem WS.tb {T : x_T} {w : x_W} {b n : Nat} (S_ : WS T w b n) : T (b + 5 + 2 * n) = some (105, n - 1) := S_.2.2.2.2.2.2.2.1
theorem WS.tf {T : x_T} {w : x_W} {b n : Nat} (S_ : WS T w b n) : T (b + 8 + 3 * n) = some (105, 2 * n + 2) := S_.2.2.2.2.2.2.2.2.1
theorem WS.c {T : x_T} {w : x_W} {b n : Nat} (S_ : WS T w b n) : ∀ k, k < n → T (b + 5 + 2 * k) = some (2, 0) ∧ x_Q w (b + 3) k = some (b + 5 + 2 * k) := S_.2.2.2.2.2.2.2.2.2.1
theorem WS.f {T : x_T} {w : x_W} {b n : Nat} (S_ : WS T w b n) : ∀ f, f < 2 * n + 2 → T (fh b n f) = some (4, 0) ∧ x_Q w (b + 8 + 3 * n) f = some (fh b n f) ∧ x_R w 29 (fh b n f) = some (ph b n (op n f)) ∧ x_R w 30 (fh b n f) = some (ph b n (ip n f)) := S_.2.2.2.2.2.2.2.2.2.2.1
theorem WS.lk {T : x_T} {w : x_W} {b n : Nat} (S_ : WS T w b n) : ∀ k, k < n → x_Q w (b + 4) k = some (fh b n (3 + k)) := S_.2.2.2.2.2.2.2.2.2.2.2.1
theorem WS.bt {T : x_T} {w : x_W} {b n : Nat} (S_ : WS T w b n) : ∀ k, k + 1 < n → x_Q w (b + 5 + 2 * n) k = some (fh b n (3 + n + k)) := S_.2.2.2.2.2.2.2.2.2.2.2.2.1
theorem WS.r55 {T : x_T} {w : x_W} {b n : Nat} (S_ : WS T w b n) : x_R w 55 b = some (b + 3) := S_.2.2.2.2.2.2.2.2.2.2.2.2.2.1
theorem WS.r56 {T : x_T} {w : x_W} {b n : Nat} (S_ : WS T w b n) : x_R w 56 b = some (b + 1) := S_.2.2.2.2.2.2.2.2.2.2.2.2.2.2.1
theorem WS.r57 {T : x_T} {w : x_W} {b n : Nat} (S_ : WS T w b n) : x_R w 57 b = some (b + 2) := S_.2.2.2.2.2.2.2.2.2.2.2.2.2.2.2.1
theorem WS.r58 {T : x_T} {w : x_W} {b n : Nat} (S_ : WS T w b n) : x_R w 58 b = some (b + 5 + 3 * n) := S_.2.2.2.2.2.2.2.2.2.2.2.2.2.2.2.2.1
theorem WS.r59 {T : x_T} {w : x_W} {b n : Nat} (S_ : WS T w b n) : x_R w 59 b = some (b + 6 + 3 * n) := S_.2.2.2.2.2.2.2.2.2.2.2.2.2.2.2.2.2.1
theorem WS.r60 {T : x_T} {w : x_W} {b n : Nat} (S_ : WS T w b n) : x_R w 60 b = some (b + 7 + 3 * n) := S_.2.2.2.2.2.2.2.2.2.2.2.2.2.2.2.2.2.2.1
theorem WS.r61 {T : x_T} {w : x_W} {b n : Nat} (S_ : WS T w b n) : x_R w 61 b = some (b + 4) := S_.2.2.2.2.2.2.2.2.2.2.2.2.2.2.2.2.2.2.2.1
theorem WS.r62 {T : x_T} {w : x_W} {b n : Nat} (S_ : WS T w b n) : x_R w 62 b = some (b + 5 + 2 * n) := S_.2.2.2.2.2.2.2.2.2.2.2.2.2.2.2.2.2.2.2.2.1
theorem WS.r63 {T : x_T} {w : x_W} {b n : Nat} (S_ : WS T w b n) : x_R w 63 b = some (b + 8 + 3 * n) := S_.2.2.2.2.2.2.2.2.2.2.2.2.2.2.2.2.2.2.2.2.2
theorem WS.of {T : x_T} {w w' : x_W} {b n : Nat} (S : WS T w b n) (hR : ∀ k h, k ≠ 17 → k ≠ 31 → k ≠ 32 → x_R w' k h = x_R w k h) (hQ : ∀ i j, x_Q w' i j = x_Q w i j) : WS T w' b n := by
  refine ⟨S.n1, S.n12, S.t, S.ta, S.ti, S.tc, S.tl, S.tb, S.tf, fun k hk => ?_, fun f hf => ?_, fun k hk => ?_, fun k hk => ?_, ?_, ?_, ?_, ?_, ?_, ?_, ?_, ?_, ?_⟩
  · rw [hQ]; exact S.c k hk
  · rw [hQ, hR _ _ (by decide) (by decide) (by decide), hR _ _ (by decide) (by decide) (by decide)]; exact S.f f hf
  · rw [hQ]; exact S.lk k hk
  · rw [hQ]; exact S.bt k hk
  · rw [hR _ _ (by decide) (by decide) (by decide)]; exact S.r55
  · rw [hR _ _ (by decide) (by decide) (by decide)]; exact S.r56
  · rw [hR _ _ (by decide) (by decide) (by decide)]; exact S.r57
  · rw [hR _ _ (by decide) (by decide) (by decide)]; exact S.r58
  · rw [hR _ _ (by decide) (by decide) (by decide)]; exact S.r59
  · rw [hR _ _ (by decide) (by decide) (by decide)]; exact S.r60
  · rw [hR _ _ (by decide) (by decide) (by decide)]; exact S.r61
  · rw [hR _ _ (by decide) (by decide) (by decide)]; exact S.r62
  · rw [hR _ _ (by decide) (by decide) (by decide)]; exact S.r63
theorem WS.pl {T : x_T} {w : x_W} {b n p : Nat} (S : WS T w b n) (hp : p < n + 2) : x_pl T (ph b n p) = some () := by
  by_cases h : p < n
  · rw [ph_cell h]; exact t_pl2 (S.c p h).1
  · by_cases h2 : p = n
    · subst h2; rw [ph_out]; exact t_pl1 S.ta
    · rw [show p = n + 1 by omega, ph_in]; exact t_pl1 S.ti
theorem WS.ex {T : x_T} {w : x_W} {b n p : Nat} (S : WS T w b n) (hp : p < n + 2) : x_ex T (ph b n p) = some () := by
  by_cases h : p < n
  · rw [ph_cell h]; exact t_ex (S.c p h).1
  · by_cases h2 : p = n
    · subst h2; rw [ph_out]; exact t_ex S.ta
    · rw [show p = n + 1 by omega, ph_in]; exact t_ex S.ti
def EC (T : x_T) (w : x_W) (E : En) : Prop := (∀ m, m < 6 → T (2 + 4 * m) = some (5, 0) ∧ x_R w 34 (2 + 4 * m) = some (3 + 4 * m) ∧ x_I w 35 (2 + 4 * m) = Int32.ofInt (E.vp m) ∧ x_I w 36 (2 + 4 * m) = Int32.ofInt (E.lq m) ∧ x_I w 37 (2 + 4 * m) = Int32.ofInt (E.ld m)) ∧ (∀ c, c < 7 → T (3 + 4 * c) = some (3, 0) ∧ x_R w 25 (3 + 4 * c) = some (4 + 4 * c) ∧ x_R w 26 (3 + 4 * c) = some (5 + 4 * c) ∧ T (4 + 4 * c) = some (100, 8) ∧ T (5 + 4 * c) = some (100, 8) ∧ x_I w 28 (3 + 4 * c) = nI (E.cn c) ∧ x_I w 27 (3 + 4 * c) = nI (if c = 6 then 8 else 7)) ∧ (∀ c, c < 7 → ∀ j, j < E.cn c → (x_A w (4 + 4 * c) j).toInt = E.X c j ∧ (x_A w (5 + 4 * c) j).toInt = E.Y c j) ∧ (T 26 = some (7, 0)) ∧ (x_R w 43 26 = some 27) ∧ (x_R w 44 26 = some 30) ∧ (x_R w 45 26 = some 31) ∧ (x_R w 46 26 = some 32) ∧ (x_R w 47 26 = some 33) ∧ (x_R w 48 26 = some 34) ∧ (x_R w 49 26 = some 35) ∧ (∀ j, j < 6 → T (30 + j) = some (100, 24)) ∧ (∀ j h, j < 6 → h < 24 → x_A w (30 + j) h = Int32.ofInt (E.cl j h)) ∧ (x_I w 50 26 = Int32.ofInt E.fo) ∧ (x_I w 51 26 = Int32.ofInt E.fi)
theorem EC.m {T : x_T} {w : x_W} {E : En} (S_ : EC T w E) : ∀ m, m < 6 → T (2 + 4 * m) = some (5, 0) ∧ x_R w 34 (2 + 4 * m) = some (3 + 4 * m) ∧ x_I w 35 (2 + 4 * m) = Int32.ofInt (E.vp m) ∧ x_I w 36 (2 + 4 * m) = Int32.ofInt (E.lq m) ∧ x_I w 37 (2 + 4 * m) = Int32.ofInt (E.ld m) := S_.1
theorem EC.c {T : x_T} {w : x_W} {E : En} (S_ : EC T w E) : ∀ c, c < 7 → T (3 + 4 * c) = some (3, 0) ∧ x_R w 25 (3 + 4 * c) = some (4 + 4 * c) ∧ x_R w 26 (3 + 4 * c) = some (5 + 4 * c) ∧ T (4 + 4 * c) = some (100, 8) ∧ T (5 + 4 * c) = some (100, 8) ∧ x_I w 28 (3 + 4 * c) = nI (E.cn c) ∧ x_I w 27 (3 + 4 * c) = nI (if c = 6 then 8 else 7) := S_.2.1
theorem EC.x {T : x_T} {w : x_W} {E : En} (S_ : EC T w E) : ∀ c, c < 7 → ∀ j, j < E.cn c → (x_A w (4 + 4 * c) j).toInt = E.X c j ∧ (x_A w (5 + 4 * c) j).toInt = E.Y c j := S_.2.2.1
theorem EC.s {T : x_T} {w : x_W} {E : En} (S_ : EC T w E) : T 26 = some (7, 0) := S_.2.2.2.1
theorem EC.r43 {T : x_T} {w : x_W} {E : En} (S_ : EC T w E) : x_R w 43 26 = some 27 := S_.2.2.2.2.1
theorem EC.r44 {T : x_T} {w : x_W} {E : En} (S_ : EC T w E) : x_R w 44 26 = some 30 := S_.2.2.2.2.2.1
theorem EC.r45 {T : x_T} {w : x_W} {E : En} (S_ : EC T w E) : x_R w 45 26 = some 31 := S_.2.2.2.2.2.2.1
theorem EC.r46 {T : x_T} {w : x_W} {E : En} (S_ : EC T w E) : x_R w 46 26 = some 32 := S_.2.2.2.2.2.2.2.1
theorem EC.r47 {T : x_T} {w : x_W} {E : En} (S_ : EC T w E) : x_R w 47 26 = some 33 := S_.2.2.2.2.2.2.2.2.1
theorem EC.r48 {T : x_T} {w : x_W} {E : En} (S_ : EC T w E) : x_R w 48 26 = some 34 := S_.2.2.2.2.2.2.2.2.2.1
theorem EC.r49 {T : x_T} {w : x_W} {E : En} (S_ : EC T w E) : x_R w 49 26 = some 35 := S_.2.2.2.2.2.2.2.2.2.2.1
theorem EC.a {T : x_T} {w : x_W} {E : En} (S_ : EC T w E) : ∀ j, j < 6 → T (30 + j) = some (100, 24) := S_.2.2.2.2.2.2.2.2.2.2.2.1
theorem EC.v {T : x_T} {w : x_W} {E : En} (S_ : EC T w E) : ∀ j h, j < 6 → h < 24 → x_A w (30 + j) h = Int32.ofInt (E.cl j h) := S_.2.2.2.2.2.2.2.2.2.2.2.2.1
theorem EC.o {T : x_T} {w : x_W} {E : En} (S_ : EC T w E) : x_I w 50 26 = Int32.ofInt E.fo := S_.2.2.2.2.2.2.2.2.2.2.2.2.2.1
theorem EC.i {T : x_T} {w : x_W} {E : En} (S_ : EC T w E) : x_I w 51 26 = Int32.ofInt E.fi := S_.2.2.2.2.2.2.2.2.2.2.2.2.2.2
theorem EC.of {T : x_T} {w w' : x_W} {E : En} (S : EC T w E) (hI : ∀ k h, k = 27 ∨ k = 28 ∨ k = 35 ∨ k = 36 ∨ k = 37 ∨ k = 50 ∨ k = 51 → x_I w' k h = x_I w k h) (hR : ∀ k h, k ≠ 17 → k ≠ 31 → k ≠ 32 → x_R w' k h = x_R w k h) (hA : ∀ i j, i < 36 → x_A w' i j = x_A w i j) : EC T w' E := by
  refine ⟨fun m hm => ?_, fun c hc => ?_, fun c hc j hj => ?_, S.s, ?_, ?_, ?_, ?_, ?_, ?_, ?_, S.a, fun j h hj hh => ?_, ?_, ?_⟩
  · rw [hR _ _ (by decide) (by decide) (by decide), hI _ _ (by decide), hI _ _ (by decide), hI _ _ (by decide)]; exact S.m m hm
  · rw [hR _ _ (by decide) (by decide) (by decide), hR _ _ (by decide) (by decide) (by decide), hI _ _ (by decide), hI _ _ (by decide)]; exact S.c c hc
  · rw [hA _ _ (by omega), hA _ _ (by omega)]; exact S.x c hc j hj
  · rw [hR _ _ (by decide) (by decide) (by decide)]; exact S.r43
  · rw [hR _ _ (by decide) (by decide) (by decide)]; exact S.r44
  · rw [hR _ _ (by decide) (by decide) (by decide)]; exact S.r45
  · rw [hR _ _ (by decide) (by decide) (by decide)]; exact S.r46
  · rw [hR _ _ (by decide) (by decide) (by decide)]; exact S.r47
  · rw [hR _ _ (by decide) (by decide) (by decide)]; exact S.r48
  · rw [hR _ _ (by decide) (by decide) (by decide)]; exact S.r49
  · rw [hA _ _ (by omega)]; exact S.v j h hj hh
  · rw [hI _ _ (by decide)]; exact S.o
  · rw [hI _ _ (by decide)]; exact S.i
def KC (w : x_W) (b n : Nat) (C : Ce) : Prop := (∀ k, k < n → x_R w 17 (b + 5 + 2 * k) = some (2 + 4 * C.mt k)) ∧ (∀ k, k < n → x_I w 18 (b + 5 + 2 * k) = Int32.ofInt (C.th k)) ∧ (∀ k, k < n → x_I w 19 (b + 5 + 2 * k) = Int32.ofInt (C.lk k)) ∧ (∀ k, k < n → x_I w 20 (b + 5 + 2 * k) = Int32.ofInt (C.hd k))
theorem KC.mt {w : x_W} {b n : Nat} {C : Ce} (S_ : KC w b n C) : ∀ k, k < n → x_R w 17 (b + 5 + 2 * k) = some (2 + 4 * C.mt k) := S_.1
theorem KC.th {w : x_W} {b n : Nat} {C : Ce} (S_ : KC w b n C) : ∀ k, k < n → x_I w 18 (b + 5 + 2 * k) = Int32.ofInt (C.th k) := S_.2.1
theorem KC.lk {w : x_W} {b n : Nat} {C : Ce} (S_ : KC w b n C) : ∀ k, k < n → x_I w 19 (b + 5 + 2 * k) = Int32.ofInt (C.lk k) := S_.2.2.1
theorem KC.hd {w : x_W} {b n : Nat} {C : Ce} (S_ : KC w b n C) : ∀ k, k < n → x_I w 20 (b + 5 + 2 * k) = Int32.ofInt (C.hd k) := S_.2.2.2
theorem EC.cc {T : x_T} {w : x_W} {E : En} (S : EC T w E) {c : Nat} (hc : c < 7) : CorC T w (3 + 4 * c) (E.cn c) (E.X c) (E.Y c) := by
  obtain ⟨h1, h2, h3, h4, h5, h6, h7⟩ := S.c c hc
  exact ⟨h1, ⟨_, _, h2, h3, h4, h5, fun j hj => (S.x c hc j hj).1, fun j hj => (S.x c hc j hj).2⟩, h6⟩
section CH
variable {T : x_T} {w : x_W} {E : En} {b n k : Nat} {C : Ce}
theorem c_dampOfHeld (B : EB E) (S : WS T w b n) (G : EC T w E) (K : KC w b n C) (KBd : KB E n C) (hk : k < n) : f_Cell_dampOfHeld T w (b + 5 + 2 * k) = some (Int32.ofInt (dpz E C k)) := by
  have hm := KBd.mt k hk
  have hh := KBd.hd k hk
  have hmo := B.mo hm
  unfold f_Cell_dampOfHeld
  rw [t_is (S.c k hk).1, K.mt k hk]
  simp only [Option.bind_some]
  rw [t_is (G.m _ hm).1, (G.m _ hm).2.1]
  simp only [Option.bind_some]
  rw [t_is (G.c _ (by omega)).1, h_class (G.cc (by omega)) (B.cor _ hm).1 (by omega), K.hd k hk, z_t (by omega) (by omega)]
  rfl
theorem c_most (B : EB E) (G : EC T w E) {m : Nat} (hm : m < 6) : f_Material_most T w (2 + 4 * m) = some (Int32.ofInt (moE E m)) := by
  obtain ⟨hc, h1, h7, h0⟩ := B.cor m hm
  obtain ⟨g1, g2, g3, g4, g5, g6, g7⟩ := G.c m (by omega)
  unfold f_Material_most f_Corners_lastX f_Corners_lastX_22
  rw [t_is (G.m _ hm).1, (G.m _ hm).2.1]
  simp only [Option.bind_some]
  rw [t_is g1, g6, if_neg (show ¬ nI (E.cn m) = 0 from fun e => by have := (nI_eqS (b := 0) (by omega) (by omega)).mp e; omega), g2, nI_sub1 (by omega)]
  simp only [Option.bind_some]
  rw [t_ixn g4 (by omega) (by omega), nI_clampS (by omega)]
  simp only [Option.bind_some]
  rw [← z_o (x_A w (4 + 4 * m) (E.cn m - 1)), (G.x m (by omega) _ (by omega)).1]
  rfl
theorem c_pressureAt (B : EB E) (G : EC T w E) {x d : Int} (hx : -2147483648 ≤ x ∧ x < 2147483648) (h0 : 0 ≤ d) (h1 : d ≤ 10000) : f_Surroundings_pressureAt T w 26 (Int32.ofInt x) (Int32.ofInt d) = some (Int32.ofInt (fu E x * d / 10000)) := by
  have hb := fu_b B x
  have hm := z_mb hb.1 hb.2 h0 h1
  unfold f_Surroundings_pressureAt
  rw [t_is G.s, G.r43]
  simp only [Option.bind_some]
  rw [t_is (G.c 6 (by omega)).1, h_class (G.cc (c := 6) (by omega)) B.tab (by omega), z_t hx.1 hx.2]
  simp only [Option.bind_some]
  rw [show hz (E.cn 6) (E.X 6) (E.Y 6) x = fu E x from rfl, z_64 (by omega) (by omega), z_64 (by omega) (by omega), z_Mul, show (10000 : Int64) = Int64.ofInt 10000 from rfl, z_Div (by omega) (by omega) (by omega) (by omega), z_32, Int.tdiv_eq_ediv_of_nonneg hm.1]
theorem c_resistance (B : EB E) (S : WS T w b n) (G : EC T w E) (K : KC w b n C) (KBd : KB E n C) (hk : k < n) : f_Cell_resistance T w (b + 5 + 2 * k) = some (Int32.ofInt (rs E C k)) := by
  have hm := KBd.mt k hk
  have ht := KBd.th k hk
  have hr := B.rt _ hm
  unfold f_Cell_resistance f_Cell_resistance_26
  rw [t_is (S.c k hk).1, K.mt k hk]
  simp only [Option.bind_some]
  rw [t_is (G.m _ hm).1, (G.m _ hm).2.2.2.2, K.th k hk]
  simp only [Option.bind_some]
  rw [if_pos (by rw [z_le, z_t (by omega) (by omega)]; exact hr.2.2.2.2.1), x_nzi_ok (by rw [z_t (by omega) (by omega)]; omega), show (100 : Int32) = Int32.ofInt 100 from rfl, z_mul, z_div (by omega) (by omega) (by omega) (by omega)]
  rfl
end CH
theorem m_max (T : x_T) (w : x_W) {a b : Int} (h1 : -2147483648 ≤ a) (h2 : a < 2147483648) (h3 : -2147483648 ≤ b) (h4 : b < 2147483648) : f_Math_max T w (Int32.ofInt a) (Int32.ofInt b) = some (Int32.ofInt (max a b)) := by
  unfold f_Math_max f_Math_max_10
  by_cases h : a < b
  · rw [if_pos (by rw [z_lt, z_t h1 h2, z_t h3 h4]; exact h), show max a b = b by omega]
  · rw [if_neg (by rw [z_lt, z_t h1 h2, z_t h3 h4]; exact h), show max a b = a by omega]
theorem m_min (T : x_T) (w : x_W) {a b : Int} (h1 : -2147483648 ≤ a) (h2 : a < 2147483648) (h3 : -2147483648 ≤ b) (h4 : b < 2147483648) : f_Math_min T w (Int32.ofInt a) (Int32.ofInt b) = some (Int32.ofInt (min a b)) := by
  unfold f_Math_min f_Math_min_10
  by_cases h : b < a
  · rw [if_pos (by rw [z_lt, z_t h1 h2, z_t h3 h4]; exact h), show min a b = b by omega]
  · rw [if_neg (by rw [z_lt, z_t h1 h2, z_t h3 h4]; exact h), show min a b = a by omega]
theorem z_xor64 {a b : Int64} (hb : 0 ≤ b.toInt) : 0 ≤ (a ^^^ b).toInt ↔ 0 ≤ a.toInt := by
  have e : ∀ x : Int64, 0 ≤ x.toInt ↔ x.toBitVec.msb = false := fun x => by
    rw [show x.toInt = x.toBitVec.toInt from rfl, BitVec.msb_eq_toInt]
    simp [wp_some, wp_bind, x_I_sI, x_J_sJ, x_R_sR, x_A_sA, x_B_sB, x_I_sJ, x_I_sR, x_I_sA, x_I_sB, x_J_sI, x_J_sR, x_J_sA, x_J_sB, x_R_sI, x_R_sJ, x_R_sA, x_R_sB, x_A_sI, x_A_sJ, x_A_sR, x_A_sB, x_B_sI, x_B_sJ, x_B_sR, x_B_sA, x_Q_sI, x_Q_sJ, x_Q_sR, x_Q_sA, x_Q_sB]
  rw [e] at hb
  rw [e, e, Int64.toBitVec_xor, BitVec.msb_xor, hb]
  simp [wp_some, wp_bind, x_I_sI, x_J_sJ, x_R_sR, x_A_sA, x_B_sB, x_I_sJ, x_I_sR, x_I_sA, x_I_sB, x_J_sI, x_J_sR, x_J_sA, x_J_sB, x_R_sI, x_R_sJ, x_R_sA, x_R_sB, x_A_sI, x_A_sJ, x_A_sR, x_A_sB, x_B_sI, x_B_sJ, x_B_sR, x_B_sA, x_Q_sI, x_Q_sJ, x_Q_sR, x_Q_sA, x_Q_sB]
theorem z_xor32 {a b : Int32} (hb : 0 ≤ b.toInt) : 0 ≤ (a ^^^ b).toInt ↔ 0 ≤ a.toInt := by
  have e : ∀ x : Int32, 0 ≤ x.toInt ↔ x.toBitVec.msb = false := fun x => by
    rw [show x.toInt = x.toBitVec.toInt from rfl, BitVec.msb_eq_toInt]
    simp [wp_some, wp_bind, x_I_sI, x_J_sJ, x_R_sR, x_A_sA, x_B_sB, x_I_sJ, x_I_sR, x_I_sA, x_I_sB, x_J_sI, x_J_sR, x_J_sA, x_J_sB, x_R_sI, x_R_sJ, x_R_sA, x_R_sB, x_A_sI, x_A_sJ, x_A_sR, x_A_sB, x_B_sI, x_B_sJ, x_B_sR, x_B_sA, x_Q_sI, x_Q_sJ, x_Q_sR, x_Q_sA, x_Q_sB]
  rw [e] at hb
  rw [e, e, Int32.toBitVec_xor, BitVec.msb_xor, hb]
  simp [wp_some, wp_bind, x_I_sI, x_J_sJ, x_R_sR, x_A_sA, x_B_sB, x_I_sJ, x_I_sR, x_I_sA, x_I_sB, x_J_sI, x_J_sR, x_J_sA, x_J_sB, x_R_sI, x_R_sJ, x_R_sA, x_R_sB, x_A_sI, x_A_sJ, x_A_sR, x_A_sB, x_B_sI, x_B_sJ, x_B_sR, x_B_sA, x_Q_sI, x_Q_sJ, x_Q_sR, x_Q_sA, x_Q_sB]
/-- the floor, from the quotient towards nought -/
theorem z_floor {a d : Int} (hd : 0 < d) : a / d = if 0 ≤ a then a.tdiv d else if a.tdiv d * d = a then a.tdiv d else a.tdiv d - 1 := by
  by_cases h : 0 ≤ a
  · rw [if_pos h, Int.tdiv_eq_ediv_of_nonneg h]
  · rw [if_neg h]
    have e1 := Int.tdiv_mul_add_tmod a d
    have e2 := Int.ediv_mul_add_emod a d
    have e3 := Int.emod_nonneg a (b := d) (by omega)
    have e4 := Int.emod_lt_of_pos a hd
    have e5 : -d < a.tmod d := by have := Int.lt_tmod_of_pos a hd; omega
    have e6 : a.tmod d ≤ 0 := by
      have := Int.tmod_nonneg d (a := -a) (by omega)
      rw [Int.neg_tmod] at this
      omega
    by_cases h2 : a.tdiv d * d = a
    · rw [if_pos h2]
      have : a.tmod d = 0 := by omega
      have h3 : a % d = 0 := by rw [← h2]; simp [wp_some, wp_bind, x_I_sI, x_J_sJ, x_R_sR, x_A_sA, x_B_sB, x_I_sJ, x_I_sR, x_I_sA, x_I_sB, x_J_sI, x_J_sR, x_J_sA, x_J_sB, x_R_sI, x_R_sJ, x_R_sA, x_R_sB, x_A_sI, x_A_sJ, x_A_sR, x_A_sB, x_B_sI, x_B_sJ, x_B_sR, x_B_sA, x_Q_sI, x_Q_sJ, x_Q_sR, x_Q_sA, x_Q_sB]
      have : a / d * d = a.tdiv d * d := by omega
      exact Int.eq_of_mul_eq_mul_right (by omega) this
    · rw [if_neg h2]
      have h7 : a.tmod d ≠ 0 := by omega
      have h8 : a / d < a.tdiv d := by
        apply Int.lt_of_not_ge
        intro hge
        have := Int.mul_le_mul_of_nonneg_right hge (Int.le_of_lt hd)
        omega
      have h9 : a.tdiv d - 1 ≤ a / d := by
        apply Int.le_of_not_gt
        intro hlt
        have h10 : a / d + 1 ≤ a.tdiv d - 1 := by omega
        have := Int.mul_le_mul_of_nonneg_right h10 (Int.le_of_lt hd)
        rw [Int.add_mul, Int.sub_mul] at this
        omega
      omega
theorem m_floorDiv (T : x_T) (w : x_W) {a d : Int} (h1 : -4611686018427387904 ≤ a) (h2 : a < 4611686018427387904) (h3 : 0 < d) (h4 : d < 4611686018427387904) : f_Math_floorDiv T w (Int64.ofInt a) (Int64.ofInt d) = some (Int64.ofInt (a / d)) := by
  unfold f_Math_floorDiv f_Math_floorDiv_27
  have eT : (Int64.ofInt d).toInt = d := z_T (by omega) (by omega)
  have eA : (Int64.ofInt a).toInt = a := z_T (by omega) (by omega)
  rw [x_nzl_ok (by rw [eT]; omega), z_Div (by omega) (by omega) (by omega) (by omega)]
  simp only [Option.bind_some]
  rw [z_floor h3]
  have hx : 0 ≤ lg_cmp (Int64.ofInt a ^^^ Int64.ofInt d) 0 ↔ 0 ≤ a := by
    rw [lg_cmp_ge, z_Le, show (0 : Int64).toInt = 0 from rfl, z_xor64 (by rw [eT]; omega), eA]
  have e1 := Int.tdiv_mul_add_tmod a d
  have e5 : -d < a.tmod d := by have := Int.lt_tmod_of_pos a h3; omega
  have e6 : a.tmod d < d := Int.tmod_lt_of_pos a h3
  by_cases h : 0 ≤ a
  · rw [if_pos (hx.mpr h), if_pos h]
  · rw [if_neg (fun q => h (hx.mp q)), if_neg h]
    have hy : lg_cmp (Int64.ofInt (a.tdiv d) * Int64.ofInt d) (Int64.ofInt a) = 0 ↔ a.tdiv d * d = a := by
      rw [lg_cmp_eq, z_Mul, z_Eq, eA, z_T (by omega) (by omega)]
    by_cases h2 : a.tdiv d * d = a
    · rw [if_pos (hy.mpr h2), if_pos h2]
    · rw [if_neg (fun q => h2 (hy.mp q)), if_neg h2, show (1 : Int64) = Int64.ofInt 1 from rfl, z_Sub]
theorem m_floorMod (T : x_T) (w : x_W) {h : Nat} (hh : h < 100000) : f_Math_floorMod T w (nI h) (24 : Int32) = some (nI (h % 24)) := by
  unfold f_Math_floorMod f_Math_floorMod_18
  rw [x_nzi_ok (by decide), show (24 : Int32) = Int32.ofInt 24 from rfl, z_nI, z_div (by omega) (by omega) (by omega) (by omega), z_mul, z_sub]
  simp only [Option.bind_some]
  rw [if_pos (by rw [z_le, show (0 : Int32).toInt = 0 from rfl, z_xor32 (by decide), z_t (by omega) (by omega)]; omega), z_nI]
  congr 2
  rw [Int.tdiv_eq_ediv_of_nonneg (by omega)]
  omega
