/-! THE REFERENCE'S LAYOUT -/
def R2 (T : x_T) (r : Nat → Nat → Option Nat) : Prop := (T 0 = some (10, 0)) ∧ (T 1 = some (100, 6)) ∧ (T 2 = some (100, 42)) ∧ (T 3 = some (100, 42)) ∧ (T 4 = some (100, 6)) ∧ (T 5 = some (100, 6)) ∧ (T 6 = some (100, 6)) ∧ (T 7 = some (100, 12)) ∧ (T 8 = some (100, 12)) ∧ (T 9 = some (101, 12)) ∧ (T 10 = some (100, 12)) ∧ (T 11 = some (100, 12)) ∧ (T 12 = some (100, 12)) ∧ (T 13 = some (102, 12)) ∧ (T 14 = some (100, 12)) ∧ (T 15 = some (100, 8)) ∧ (T 16 = some (100, 8)) ∧ (T 17 = some (100, 24)) ∧ (T 18 = some (100, 24)) ∧ (T 19 = some (100, 24)) ∧ (T 20 = some (100, 24)) ∧ (T 21 = some (100, 24)) ∧ (T 22 = some (100, 24)) ∧ (T 23 = some (100, 6)) ∧ (T 24 = some (100, 6)) ∧ (T 25 = some (100, 6)) ∧ (T 26 = some (100, 6)) ∧ (T 27 = some (101, 12)) ∧ (T 28 = some (100, 12)) ∧ (T 29 = some (101, 72)) ∧ (T 30 = some (100, 12)) ∧ (T 31 = some (100, 12)) ∧ (T 32 = some (100, 12)) ∧ (T 33 = some (100, 5)) ∧ (T 34 = some (100, 5)) ∧ (T 35 = some (102, 5)) ∧ (T 36 = some (101, 14)) ∧ (r 66 0 = some 1) ∧ (r 67 0 = some 2) ∧ (r 68 0 = some 3) ∧ (r 69 0 = some 4) ∧ (r 70 0 = some 5) ∧ (r 71 0 = some 6) ∧ (r 72 0 = some 7) ∧ (r 73 0 = some 8) ∧ (r 74 0 = some 9) ∧ (r 75 0 = some 10) ∧ (r 76 0 = some 11) ∧ (r 77 0 = some 12) ∧ (r 78 0 = some 13) ∧ (r 79 0 = some 14) ∧ (r 81 0 = some 15) ∧ (r 82 0 = some 16) ∧ (r 85 0 = some 17) ∧ (r 86 0 = some 18) ∧ (r 87 0 = some 19) ∧ (r 88 0 = some 20) ∧ (r 89 0 = some 21) ∧ (r 90 0 = some 22) ∧ (r 92 0 = some 23) ∧ (r 93 0 = some 24) ∧ (r 94 0 = some 25) ∧ (r 95 0 = some 26) ∧ (r 103 0 = some 27) ∧ (r 104 0 = some 28) ∧ (r 105 0 = some 29) ∧ (r 108 0 = some 30) ∧ (r 109 0 = some 31) ∧ (r 110 0 = some 32) ∧ (r 111 0 = some 33) ∧ (r 112 0 = some 34) ∧ (r 113 0 = some 35) ∧ (r 114 0 = some 36)
theorem R2.t0 {T : x_T} {r : Nat → Nat → Option Nat} (S_ : R2 T r) : T 0 = some (10, 0) := S_.1
theorem R2.a1 {T : x_T} {r : Nat → Nat → Option Nat} (S_ : R2 T r) : T 1 = some (100, 6) := S_.2.1
theorem R2.a2 {T : x_T} {r : Nat → Nat → Option Nat} (S_ : R2 T r) : T 2 = some (100, 42) := S_.2.2.1
theorem R2.a3 {T : x_T} {r : Nat → Nat → Option Nat} (S_ : R2 T r) : T 3 = some (100, 42) := S_.2.2.2.1
theorem R2.a4 {T : x_T} {r : Nat → Nat → Option Nat} (S_ : R2 T r) : T 4 = some (100, 6) := S_.2.2.2.2.1
theorem R2.a5 {T : x_T} {r : Nat → Nat → Option Nat} (S_ : R2 T r) : T 5 = some (100, 6) := S_.2.2.2.2.2.1
theorem R2.a6 {T : x_T} {r : Nat → Nat → Option Nat} (S_ : R2 T r) : T 6 = some (100, 6) := S_.2.2.2.2.2.2.1
theorem R2.a7 {T : x_T} {r : Nat → Nat → Option Nat} (S_ : R2 T r) : T 7 = some (100, 12) := S_.2.2.2.2.2.2.2.1
theorem R2.a8 {T : x_T} {r : Nat → Nat → Option Nat} (S_ : R2 T r) : T 8 = some (100, 12) := S_.2.2.2.2.2.2.2.2.1
theorem R2.a9 {T : x_T} {r : Nat → Nat → Option Nat} (S_ : R2 T r) : T 9 = some (101, 12) := S_.2.2.2.2.2.2.2.2.2.1
theorem R2.a10 {T : x_T} {r : Nat → Nat → Option Nat} (S_ : R2 T r) : T 10 = some (100, 12) := S_.2.2.2.2.2.2.2.2.2.2.1
theorem R2.a11 {T : x_T} {r : Nat → Nat → Option Nat} (S_ : R2 T r) : T 11 = some (100, 12) := S_.2.2.2.2.2.2.2.2.2.2.2.1
theorem R2.a12 {T : x_T} {r : Nat → Nat → Option Nat} (S_ : R2 T r) : T 12 = some (100, 12) := S_.2.2.2.2.2.2.2.2.2.2.2.2.1
theorem R2.a13 {T : x_T} {r : Nat → Nat → Option Nat} (S_ : R2 T r) : T 13 = some (102, 12) := S_.2.2.2.2.2.2.2.2.2.2.2.2.2.1
theorem R2.a14 {T : x_T} {r : Nat → Nat → Option Nat} (S_ : R2 T r) : T 14 = some (100, 12) := S_.2.2.2.2.2.2.2.2.2.2.2.2.2.2.1
theorem R2.a15 {T : x_T} {r : Nat → Nat → Option Nat} (S_ : R2 T r) : T 15 = some (100, 8) := S_.2.2.2.2.2.2.2.2.2.2.2.2.2.2.2.1
theorem R2.a16 {T : x_T} {r : Nat → Nat → Option Nat} (S_ : R2 T r) : T 16 = some (100, 8) := S_.2.2.2.2.2.2.2.2.2.2.2.2.2.2.2.2.1
theorem R2.a17 {T : x_T} {r : Nat → Nat → Option Nat} (S_ : R2 T r) : T 17 = some (100, 24) := S_.2.2.2.2.2.2.2.2.2.2.2.2.2.2.2.2.2.1
theorem R2.a18 {T : x_T} {r : Nat → Nat → Option Nat} (S_ : R2 T r) : T 18 = some (100, 24) := S_.2.2.2.2.2.2.2.2.2.2.2.2.2.2.2.2.2.2.1
theorem R2.a19 {T : x_T} {r : Nat → Nat → Option Nat} (S_ : R2 T r) : T 19 = some (100, 24) := S_.2.2.2.2.2.2.2.2.2.2.2.2.2.2.2.2.2.2.2.1
theorem R2.a20 {T : x_T} {r : Nat → Nat → Option Nat} (S_ : R2 T r) : T 20 = some (100, 24) := S_.2.2.2.2.2.2.2.2.2.2.2.2.2.2.2.2.2.2.2.2.1
theorem R2.a21 {T : x_T} {r : Nat → Nat → Option Nat} (S_ : R2 T r) : T 21 = some (100, 24) := S_.2.2.2.2.2.2.2.2.2.2.2.2.2.2.2.2.2.2.2.2.2.1
theorem R2.a22 {T : x_T} {r : Nat → Nat → Option Nat} (S_ : R2 T r) : T 22 = some (100, 24) := S_.2.2.2.2.2.2.2.2.2.2.2.2.2.2.2.2.2.2.2.2.2.2.1
theorem R2.a23 {T : x_T} {r : Nat → Nat → Option Nat} (S_ : R2 T r) : T 23 = some (100, 6) := S_.2.2.2.2.2.2.2.2.2.2.2.2.2.2.2.2.2.2.2.2.2.2.2.1
theorem R2.a24 {T : x_T} {r : Nat → Nat → Option Nat} (S_ : R2 T r) : T 24 = some (100, 6) := S_.2.2.2.2.2.2.2.2.2.2.2.2.2.2.2.2.2.2.2.2.2.2.2.2.1
theorem R2.a25 {T : x_T} {r : Nat → Nat → Option Nat} (S_ : R2 T r) : T 25 = some (100, 6) := S_.2.2.2.2.2.2.2.2.2.2.2.2.2.2.2.2.2.2.2.2.2.2.2.2.2.1
theorem R2.a26 {T : x_T} {r : Nat → Nat → Option Nat} (S_ : R2 T r) : T 26 = some (100, 6) := S_.2.2.2.2.2.2.2.2.2.2.2.2.2.2.2.2.2.2.2.2.2.2.2.2.2.2.1
theorem R2.a27 {T : x_T} {r : Nat → Nat → Option Nat} (S_ : R2 T r) : T 27 = some (101, 12) := S_.2.2.2.2.2.2.2.2.2.2.2.2.2.2.2.2.2.2.2.2.2.2.2.2.2.2.2.1
theorem R2.a28 {T : x_T} {r : Nat → Nat → Option Nat} (S_ : R2 T r) : T 28 = some (100, 12) := S_.2.2.2.2.2.2.2.2.2.2.2.2.2.2.2.2.2.2.2.2.2.2.2.2.2.2.2.2.1
theorem R2.a29 {T : x_T} {r : Nat → Nat → Option Nat} (S_ : R2 T r) : T 29 = some (101, 72) := S_.2.2.2.2.2.2.2.2.2.2.2.2.2.2.2.2.2.2.2.2.2.2.2.2.2.2.2.2.2.1
theorem R2.a30 {T : x_T} {r : Nat → Nat → Option Nat} (S_ : R2 T r) : T 30 = some (100, 12) := S_.2.2.2.2.2.2.2.2.2.2.2.2.2.2.2.2.2.2.2.2.2.2.2.2.2.2.2.2.2.2.1
theorem R2.a31 {T : x_T} {r : Nat → Nat → Option Nat} (S_ : R2 T r) : T 31 = some (100, 12) := S_.2.2.2.2.2.2.2.2.2.2.2.2.2.2.2.2.2.2.2.2.2.2.2.2.2.2.2.2.2.2.2.1
theorem R2.a32 {T : x_T} {r : Nat → Nat → Option Nat} (S_ : R2 T r) : T 32 = some (100, 12) := S_.2.2.2.2.2.2.2.2.2.2.2.2.2.2.2.2.2.2.2.2.2.2.2.2.2.2.2.2.2.2.2.2.1
theorem R2.a33 {T : x_T} {r : Nat → Nat → Option Nat} (S_ : R2 T r) : T 33 = some (100, 5) := S_.2.2.2.2.2.2.2.2.2.2.2.2.2.2.2.2.2.2.2.2.2.2.2.2.2.2.2.2.2.2.2.2.2.1
theorem R2.a34 {T : x_T} {r : Nat → Nat → Option Nat} (S_ : R2 T r) : T 34 = some (100, 5) := S_.2.2.2.2.2.2.2.2.2.2.2.2.2.2.2.2.2.2.2.2.2.2.2.2.2.2.2.2.2.2.2.2.2.2.1
theorem R2.a35 {T : x_T} {r : Nat → Nat → Option Nat} (S_ : R2 T r) : T 35 = some (102, 5) := S_.2.2.2.2.2.2.2.2.2.2.2.2.2.2.2.2.2.2.2.2.2.2.2.2.2.2.2.2.2.2.2.2.2.2.2.1
theorem R2.a36 {T : x_T} {r : Nat → Nat → Option Nat} (S_ : R2 T r) : T 36 = some (101, 14) := S_.2.2.2.2.2.2.2.2.2.2.2.2.2.2.2.2.2.2.2.2.2.2.2.2.2.2.2.2.2.2.2.2.2.2.2.2.1
theorem R2.q66 {T : x_T} {r : Nat → Nat → Option Nat} (S_ : R2 T r) : r 66 0 = some 1 := S_.2.2.2.2.2.2.2.2.2.2.2.2.2.2.2.2.2.2.2.2.2.2.2.2.2.2.2.2.2.2.2.2.2.2.2.2.2.1
theorem R2.q67 {T : x_T} {r : Nat → Nat → Option Nat} (S_ : R2 T r) : r 67 0 = some 2 := S_.2.2.2.2.2.2.2.2.2.2.2.2.2.2.2.2.2.2.2.2.2.2.2.2.2.2.2.2.2.2.2.2.2.2.2.2.2.2.1
theorem R2.q68 {T : x_T} {r : Nat → Nat → Option Nat} (S_ : R2 T r) : r 68 0 = some 3 := S_.2.2.2.2.2.2.2.2.2.2.2.2.2.2.2.2.2.2.2.2.2.2.2.2.2.2.2.2.2.2.2.2.2.2.2.2.2.2.2.1
theorem R2.q69 {T : x_T} {r : Nat → Nat → Option Nat} (S_ : R2 T r) : r 69 0 = some 4 := S_.2.2.2.2.2.2.2.2.2.2.2.2.2.2.2.2.2.2.2.2.2.2.2.2.2.2.2.2.2.2.2.2.2.2.2.2.2.2.2.2.1
theorem R2.q70 {T : x_T} {r : Nat → Nat → Option Nat} (S_ : R2 T r) : r 70 0 = some 5 := S_.2.2.2.2.2.2.2.2.2.2.2.2.2.2.2.2.2.2.2.2.2.2.2.2.2.2.2.2.2.2.2.2.2.2.2.2.2.2.2.2.2.1
theorem R2.q71 {T : x_T} {r : Nat → Nat → Option Nat} (S_ : R2 T r) : r 71 0 = some 6 := S_.2.2.2.2.2.2.2.2.2.2.2.2.2.2.2.2.2.2.2.2.2.2.2.2.2.2.2.2.2.2.2.2.2.2.2.2.2.2.2.2.2.2.1
theorem R2.q72 {T : x_T} {r : Nat → Nat → Option Nat} (S_ : R2 T r) : r 72 0 = some 7 := S_.2.2.2.2.2.2.2.2.2.2.2.2.2.2.2.2.2.2.2.2.2.2.2.2.2.2.2.2.2.2.2.2.2.2.2.2.2.2.2.2.2.2.2.1
theorem R2.q73 {T : x_T} {r : Nat → Nat → Option Nat} (S_ : R2 T r) : r 73 0 = some 8 := S_.2.2.2.2.2.2.2.2.2.2.2.2.2.2.2.2.2.2.2.2.2.2.2.2.2.2.2.2.2.2.2.2.2.2.2.2.2.2.2.2.2.2.2.2.1
theorem R2.q74 {T : x_T} {r : Nat → Nat → Option Nat} (S_ : R2 T r) : r 74 0 = some 9 := S_.2.2.2.2.2.2.2.2.2.2.2.2.2.2.2.2.2.2.2.2.2.2.2.2.2.2.2.2.2.2.2.2.2.2.2.2.2.2.2.2.2.2.2.2.2.1
theorem R2.q75 {T : x_T} {r : Nat → Nat → Option Nat} (S_ : R2 T r) : r 75 0 = some 10 := S_.2.2.2.2.2.2.2.2.2.2.2.2.2.2.2.2.2.2.2.2.2.2.2.2.2.2.2.2.2.2.2.2.2.2.2.2.2.2.2.2.2.2.2.2.2.2.1
theorem R2.q76 {T : x_T} {r : Nat → Nat → Option Nat} (S_ : R2 T r) : r 76 0 = some 11 := S_.2.2.2.2.2.2.2.2.2.2.2.2.2.2.2.2.2.2.2.2.2.2.2.2.2.2.2.2.2.2.2.2.2.2.2.2.2.2.2.2.2.2.2.2.2.2.2.1
theorem R2.q77 {T : x_T} {r : Nat → Nat → Option Nat} (S_ : R2 T r) : r 77 0 = some 12 := S_.2.2.2.2.2.2.2.2.2.2.2.2.2.2.2.2.2.2.2.2.2.2.2.2.2.2.2.2.2.2.2.2.2.2.2.2.2.2.2.2.2.2.2.2.2.2.2.2.1
theorem R2.q78 {T : x_T} {r : Nat → Nat → Option Nat} (S_ : R2 T r) : r 78 0 = some 13 := S_.2.2.2.2.2.2.2.2.2.2.2.2.2.2.2.2.2.2.2.2.2.2.2.2.2.2.2.2.2.2.2.2.2.2.2.2.2.2.2.2.2.2.2.2.2.2.2.2.2.1
theorem R2.q79 {T : x_T} {r : Nat → Nat → Option Nat} (S_ : R2 T r) : r 79 0 = some 14 := S_.2.2.2.2.2.2.2.2.2.2.2.2.2.2.2.2.2.2.2.2.2.2.2.2.2.2.2.2.2.2.2.2.2.2.2.2.2.2.2.2.2.2.2.2.2.2.2.2.2.2.1
theorem R2.q81 {T : x_T} {r : Nat → Nat → Option Nat} (S_ : R2 T r) : r 81 0 = some 15 := S_.2.2.2.2.2.2.2.2.2.2.2.2.2.2.2.2.2.2.2.2.2.2.2.2.2.2.2.2.2.2.2.2.2.2.2.2.2.2.2.2.2.2.2.2.2.2.2.2.2.2.2.1
theorem R2.q82 {T : x_T} {r : Nat → Nat → Option Nat} (S_ : R2 T r) : r 82 0 = some 16 := S_.2.2.2.2.2.2.2.2.2.2.2.2.2.2.2.2.2.2.2.2.2.2.2.2.2.2.2.2.2.2.2.2.2.2.2.2.2.2.2.2.2.2.2.2.2.2.2.2.2.2.2.2.1
theorem R2.q85 {T : x_T} {r : Nat → Nat → Option Nat} (S_ : R2 T r) : r 85 0 = some 17 := S_.2.2.2.2.2.2.2.2.2.2.2.2.2.2.2.2.2.2.2.2.2.2.2.2.2.2.2.2.2.2.2.2.2.2.2.2.2.2.2.2.2.2.2.2.2.2.2.2.2.2.2.2.2.1
theorem R2.q86 {T : x_T} {r : Nat → Nat → Option Nat} (S_ : R2 T r) : r 86 0 = some 18 := S_.2.2.2.2.2.2.2.2.2.2.2.2.2.2.2.2.2.2.2.2.2.2.2.2.2.2.2.2.2.2.2.2.2.2.2.2.2.2.2.2.2.2.2.2.2.2.2.2.2.2.2.2.2.2.1
theorem R2.q87 {T : x_T} {r : Nat → Nat → Option Nat} (S_ : R2 T r) : r 87 0 = some 19 := S_.2.2.2.2.2.2.2.2.2.2.2.2.2.2.2.2.2.2.2.2.2.2.2.2.2.2.2.2.2.2.2.2.2.2.2.2.2.2.2.2.2.2.2.2.2.2.2.2.2.2.2.2.2.2.2.1
theorem R2.q88 {T : x_T} {r : Nat → Nat → Option Nat} (S_ : R2 T r) : r 88 0 = some 20 := S_.2.2.2.2.2.2.2.2.2.2.2.2.2.2.2.2.2.2.2.2.2.2.2.2.2.2.2.2.2.2.2.2.2.2.2.2.2.2.2.2.2.2.2.2.2.2.2.2.2.2.2.2.2.2.2.2.1
theorem R2.q89 {T : x_T} {r : Nat → Nat → Option Nat} (S_ : R2 T r) : r 89 0 = some 21 := S_.2.2.2.2.2.2.2.2.2.2.2.2.2.2.2.2.2.2.2.2.2.2.2.2.2.2.2.2.2.2.2.2.2.2.2.2.2.2.2.2.2.2.2.2.2.2.2.2.2.2.2.2.2.2.2.2.2.1
theorem R2.q90 {T : x_T} {r : Nat → Nat → Option Nat} (S_ : R2 T r) : r 90 0 = some 22 := S_.2.2.2.2.2.2.2.2.2.2.2.2.2.2.2.2.2.2.2.2.2.2.2.2.2.2.2.2.2.2.2.2.2.2.2.2.2.2.2.2.2.2.2.2.2.2.2.2.2.2.2.2.2.2.2.2.2.2.1
theorem R2.q92 {T : x_T} {r : Nat → Nat → Option Nat} (S_ : R2 T r) : r 92 0 = some 23 := S_.2.2.2.2.2.2.2.2.2.2.2.2.2.2.2.2.2.2.2.2.2.2.2.2.2.2.2.2.2.2.2.2.2.2.2.2.2.2.2.2.2.2.2.2.2.2.2.2.2.2.2.2.2.2.2.2.2.2.2.1
theorem R2.q93 {T : x_T} {r : Nat → Nat → Option Nat} (S_ : R2 T r) : r 93 0 = some 24 := S_.2.2.2.2.2.2.2.2.2.2.2.2.2.2.2.2.2.2.2.2.2.2.2.2.2.2.2.2.2.2.2.2.2.2.2.2.2.2.2.2.2.2.2.2.2.2.2.2.2.2.2.2.2.2.2.2.2.2.2.2.1
theorem R2.q94 {T : x_T} {r : Nat → Nat → Option Nat} (S_ : R2 T r) : r 94 0 = some 25 := S_.2.2.2.2.2.2.2.2.2.2.2.2.2.2.2.2.2.2.2.2.2.2.2.2.2.2.2.2.2.2.2.2.2.2.2.2.2.2.2.2.2.2.2.2.2.2.2.2.2.2.2.2.2.2.2.2.2.2.2.2.2.1
theorem R2.q95 {T : x_T} {r : Nat → Nat → Option Nat} (S_ : R2 T r) : r 95 0 = some 26 := S_.2.2.2.2.2.2.2.2.2.2.2.2.2.2.2.2.2.2.2.2.2.2.2.2.2.2.2.2.2.2.2.2.2.2.2.2.2.2.2.2.2.2.2.2.2.2.2.2.2.2.2.2.2.2.2.2.2.2.2.2.2.2.1
theorem R2.q103 {T : x_T} {r : Nat → Nat → Option Nat} (S_ : R2 T r) : r 103 0 = some 27 := S_.2.2.2.2.2.2.2.2.2.2.2.2.2.2.2.2.2.2.2.2.2.2.2.2.2.2.2.2.2.2.2.2.2.2.2.2.2.2.2.2.2.2.2.2.2.2.2.2.2.2.2.2.2.2.2.2.2.2.2.2.2.2.2.1
theorem R2.q104 {T : x_T} {r : Nat → Nat → Option Nat} (S_ : R2 T r) : r 104 0 = some 28 := S_.2.2.2.2.2.2.2.2.2.2.2.2.2.2.2.2.2.2.2.2.2.2.2.2.2.2.2.2.2.2.2.2.2.2.2.2.2.2.2.2.2.2.2.2.2.2.2.2.2.2.2.2.2.2.2.2.2.2.2.2.2.2.2.2.1
theorem R2.q105 {T : x_T} {r : Nat → Nat → Option Nat} (S_ : R2 T r) : r 105 0 = some 29 := S_.2.2.2.2.2.2.2.2.2.2.2.2.2.2.2.2.2.2.2.2.2.2.2.2.2.2.2.2.2.2.2.2.2.2.2.2.2.2.2.2.2.2.2.2.2.2.2.2.2.2.2.2.2.2.2.2.2.2.2.2.2.2.2.2.2.1
theorem R2.q108 {T : x_T} {r : Nat → Nat → Option Nat} (S_ : R2 T r) : r 108 0 = some 30 := S_.2.2.2.2.2.2.2.2.2.2.2.2.2.2.2.2.2.2.2.2.2.2.2.2.2.2.2.2.2.2.2.2.2.2.2.2.2.2.2.2.2.2.2.2.2.2.2.2.2.2.2.2.2.2.2.2.2.2.2.2.2.2.2.2.2.2.1
theorem R2.q109 {T : x_T} {r : Nat → Nat → Option Nat} (S_ : R2 T r) : r 109 0 = some 31 := S_.2.2.2.2.2.2.2.2.2.2.2.2.2.2.2.2.2.2.2.2.2.2.2.2.2.2.2.2.2.2.2.2.2.2.2.2.2.2.2.2.2.2.2.2.2.2.2.2.2.2.2.2.2.2.2.2.2.2.2.2.2.2.2.2.2.2.2.1
theorem R2.q110 {T : x_T} {r : Nat → Nat → Option Nat} (S_ : R2 T r) : r 110 0 = some 32 := S_.2.2.2.2.2.2.2.2.2.2.2.2.2.2.2.2.2.2.2.2.2.2.2.2.2.2.2.2.2.2.2.2.2.2.2.2.2.2.2.2.2.2.2.2.2.2.2.2.2.2.2.2.2.2.2.2.2.2.2.2.2.2.2.2.2.2.2.2.1
theorem R2.q111 {T : x_T} {r : Nat → Nat → Option Nat} (S_ : R2 T r) : r 111 0 = some 33 := S_.2.2.2.2.2.2.2.2.2.2.2.2.2.2.2.2.2.2.2.2.2.2.2.2.2.2.2.2.2.2.2.2.2.2.2.2.2.2.2.2.2.2.2.2.2.2.2.2.2.2.2.2.2.2.2.2.2.2.2.2.2.2.2.2.2.2.2.2.2.1
theorem R2.q112 {T : x_T} {r : Nat → Nat → Option Nat} (S_ : R2 T r) : r 112 0 = some 34 := S_.2.2.2.2.2.2.2.2.2.2.2.2.2.2.2.2.2.2.2.2.2.2.2.2.2.2.2.2.2.2.2.2.2.2.2.2.2.2.2.2.2.2.2.2.2.2.2.2.2.2.2.2.2.2.2.2.2.2.2.2.2.2.2.2.2.2.2.2.2.2.1
theorem R2.q113 {T : x_T} {r : Nat → Nat → Option Nat} (S_ : R2 T r) : r 113 0 = some 35 := S_.2.2.2.2.2.2.2.2.2.2.2.2.2.2.2.2.2.2.2.2.2.2.2.2.2.2.2.2.2.2.2.2.2.2.2.2.2.2.2.2.2.2.2.2.2.2.2.2.2.2.2.2.2.2.2.2.2.2.2.2.2.2.2.2.2.2.2.2.2.2.2.1
theorem R2.q114 {T : x_T} {r : Nat → Nat → Option Nat} (S_ : R2 T r) : r 114 0 = some 36 := S_.2.2.2.2.2.2.2.2.2.2.2.2.2.2.2.2.2.2.2.2.2.2.2.2.2.2.2.2.2.2.2.2.2.2.2.2.2.2.2.2.2.2.2.2.2.2.2.2.2.2.2.2.2.2.2.2.2.2.2.2.2.2.2.2.2.2.2.2.2.2.2.2
theorem R2.r66 {T : x_T} {w : x_W} (h : R2 T w.2.2.1) : x_R w 66 0 = some 1 := h.q66
theorem R2.r67 {T : x_T} {w : x_W} (h : R2 T w.2.2.1) : x_R w 67 0 = some 2 := h.q67
theorem R2.r68 {T : x_T} {w : x_W} (h : R2 T w.2.2.1) : x_R w 68 0 = some 3 := h.q68
theorem R2.r69 {T : x_T} {w : x_W} (h : R2 T w.2.2.1) : x_R w 69 0 = some 4 := h.q69
theorem R2.r70 {T : x_T} {w : x_W} (h : R2 T w.2.2.1) : x_R w 70 0 = some 5 := h.q70
theorem R2.r71 {T : x_T} {w : x_W} (h : R2 T w.2.2.1) : x_R w 71 0 = some 6 := h.q71
theorem R2.r72 {T : x_T} {w : x_W} (h : R2 T w.2.2.1) : x_R w 72 0 = some 7 := h.q72
theorem R2.r73 {T : x_T} {w : x_W} (h : R2 T w.2.2.1) : x_R w 73 0 = some 8 := h.q73
theorem R2.r74 {T : x_T} {w : x_W} (h : R2 T w.2.2.1) : x_R w 74 0 = some 9 := h.q74
theorem R2.r75 {T : x_T} {w : x_W} (h : R2 T w.2.2.1) : x_R w 75 0 = some 10 := h.q75
theorem R2.r76 {T : x_T} {w : x_W} (h : R2 T w.2.2.1) : x_R w 76 0 = some 11 := h.q76
theorem R2.r77 {T : x_T} {w : x_W} (h : R2 T w.2.2.1) : x_R w 77 0 = some 12 := h.q77
theorem R2.r78 {T : x_T} {w : x_W} (h : R2 T w.2.2.1) : x_R w 78 0 = some 13 := h.q78
theorem R2.r79 {T : x_T} {w : x_W} (h : R2 T w.2.2.1) : x_R w 79 0 = some 14 := h.q79
theorem R2.r81 {T : x_T} {w : x_W} (h : R2 T w.2.2.1) : x_R w 81 0 = some 15 := h.q81
theorem R2.r82 {T : x_T} {w : x_W} (h : R2 T w.2.2.1) : x_R w 82 0 = some 16 := h.q82
theorem R2.r85 {T : x_T} {w : x_W} (h : R2 T w.2.2.1) : x_R w 85 0 = some 17 := h.q85
theorem R2.r86 {T : x_T} {w : x_W} (h : R2 T w.2.2.1) : x_R w 86 0 = some 18 := h.q86
theorem R2.r87 {T : x_T} {w : x_W} (h : R2 T w.2.2.1) : x_R w 87 0 = some 19 := h.q87
theorem R2.r88 {T : x_T} {w : x_W} (h : R2 T w.2.2.1) : x_R w 88 0 = some 20 := h.q88
theorem R2.r89 {T : x_T} {w : x_W} (h : R2 T w.2.2.1) : x_R w 89 0 = some 21 := h.q89
theorem R2.r90 {T : x_T} {w : x_W} (h : R2 T w.2.2.1) : x_R w 90 0 = some 22 := h.q90
theorem R2.r92 {T : x_T} {w : x_W} (h : R2 T w.2.2.1) : x_R w 92 0 = some 23 := h.q92
theorem R2.r93 {T : x_T} {w : x_W} (h : R2 T w.2.2.1) : x_R w 93 0 = some 24 := h.q93
theorem R2.r94 {T : x_T} {w : x_W} (h : R2 T w.2.2.1) : x_R w 94 0 = some 25 := h.q94
theorem R2.r95 {T : x_T} {w : x_W} (h : R2 T w.2.2.1) : x_R w 95 0 = some 26 := h.q95
theorem R2.r103 {T : x_T} {w : x_W} (h : R2 T w.2.2.1) : x_R w 103 0 = some 27 := h.q103
theorem R2.r104 {T : x_T} {w : x_W} (h : R2 T w.2.2.1) : x_R w 104 0 = some 28 := h.q104
theorem R2.r105 {T : x_T} {w : x_W} (h : R2 T w.2.2.1) : x_R w 105 0 = some 29 := h.q105
theorem R2.r108 {T : x_T} {w : x_W} (h : R2 T w.2.2.1) : x_R w 108 0 = some 30 := h.q108
theorem R2.r109 {T : x_T} {w : x_W} (h : R2 T w.2.2.1) : x_R w 109 0 = some 31 := h.q109
theorem R2.r110 {T : x_T} {w : x_W} (h : R2 T w.2.2.1) : x_R w 110 0 = some 32 := h.q110
theorem R2.r111 {T : x_T} {w : x_W} (h : R2 T w.2.2.1) : x_R w 111 0 = some 33 := h.q111
theorem R2.r112 {T : x_T} {w : x_W} (h : R2 T w.2.2.1) : x_R w 112 0 = some 34 := h.q112
theorem R2.r113 {T : x_T} {w : x_W} (h : R2 T w.2.2.1) : x_R w 113 0 = some 35 := h.q113
theorem R2.r114 {T : x_T} {w : x_W} (h : R2 T w.2.2.1) : x_R w 114 0 = some 36 := h.q114
theorem R2.i {T : x_T} {r : Nat → Nat → Option Nat} (h : R2 T r) : x_is T 0 10 = some () := t_is h.t0
