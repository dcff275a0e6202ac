/-! THE REFERENCE'S LAYOUT -/
structure R2 (T : x_T) (r : Nat → Nat → Option Nat) : Prop where
  t0 : T 0 = some (10, 0)
  a1 : T 1 = some (100, 6)
  a2 : T 2 = some (100, 42)
  a3 : T 3 = some (100, 42)
  a4 : T 4 = some (100, 6)
  a5 : T 5 = some (100, 6)
  a6 : T 6 = some (100, 6)
  a7 : T 7 = some (100, 12)
  a8 : T 8 = some (100, 12)
  a9 : T 9 = some (101, 12)
  a10 : T 10 = some (100, 12)
  a11 : T 11 = some (100, 12)
  a12 : T 12 = some (100, 12)
  a13 : T 13 = some (102, 12)
  a14 : T 14 = some (100, 12)
  a15 : T 15 = some (100, 8)
  a16 : T 16 = some (100, 8)
  a17 : T 17 = some (100, 24)
  a18 : T 18 = some (100, 24)
  a19 : T 19 = some (100, 24)
  a20 : T 20 = some (100, 24)
  a21 : T 21 = some (100, 24)
  a22 : T 22 = some (100, 24)
  a23 : T 23 = some (100, 6)
  a24 : T 24 = some (100, 6)
  a25 : T 25 = some (100, 6)
  a26 : T 26 = some (100, 6)
  a27 : T 27 = some (101, 12)
  a28 : T 28 = some (100, 12)
  a29 : T 29 = some (101, 72)
  a30 : T 30 = some (100, 12)
  a31 : T 31 = some (100, 12)
  a32 : T 32 = some (100, 12)
  a33 : T 33 = some (100, 5)
  a34 : T 34 = some (100, 5)
  a35 : T 35 = some (102, 5)
  a36 : T 36 = some (101, 14)
  q66 : r 66 0 = some 1
  q67 : r 67 0 = some 2
  q68 : r 68 0 = some 3
  q69 : r 69 0 = some 4
  q70 : r 70 0 = some 5
  q71 : r 71 0 = some 6
  q72 : r 72 0 = some 7
  q73 : r 73 0 = some 8
  q74 : r 74 0 = some 9
  q75 : r 75 0 = some 10
  q76 : r 76 0 = some 11
  q77 : r 77 0 = some 12
  q78 : r 78 0 = some 13
  q79 : r 79 0 = some 14
  q81 : r 81 0 = some 15
  q82 : r 82 0 = some 16
  q85 : r 85 0 = some 17
  q86 : r 86 0 = some 18
  q87 : r 87 0 = some 19
  q88 : r 88 0 = some 20
  q89 : r 89 0 = some 21
  q90 : r 90 0 = some 22
  q92 : r 92 0 = some 23
  q93 : r 93 0 = some 24
  q94 : r 94 0 = some 25
  q95 : r 95 0 = some 26
  q103 : r 103 0 = some 27
  q104 : r 104 0 = some 28
  q105 : r 105 0 = some 29
  q108 : r 108 0 = some 30
  q109 : r 109 0 = some 31
  q110 : r 110 0 = some 32
  q111 : r 111 0 = some 33
  q112 : r 112 0 = some 34
  q113 : r 113 0 = some 35
  q114 : r 114 0 = some 36
theorem R2.r66 {T : x_T} {w : x_W} (h : R2 T w.2.2.1) : x_R w 66 0 = some 1 := h.q66
theorem R2.r67 {T : x_T} {w : x_W} (h : R2 T w.2.2.1) : x_R w 67 0 = some 2 := h.q67
theorem R2.r68 {T : x_T} {w : x_W} (h : R2 T w.2.2.1) : x_R w 68 0 = some 3 := h.q68
theorem R2.r69 {T : x_T} {w : x_W} (h : R2 T w.2.2.1) : x_R w 69 0 = some 4 := h.q69
theorem R2.r70 {T : x_T} {w : x_W} (h : R2 T w.2.2.1) : x_R w 70 0 = some 5 := h.q70
theorem R2.r71 {T : x_T} {w : x_W} (h : R2 T w.2.2.1) : x_R w 71 0 = some 6 := h.q71
theorem R2.r72 {T : x_T} {w : x_W} (h : R2 T w.2.2.1) : x_R w 72 0 = some 7 := h.q72
theorem R2.r73 {T : x_T} {w : x_W} (h : R2 T w.2.2.1) : x_R w 73 0 = some 8 := h.q73
theorem R2.r74 {T : x_T} {w : x_W} (h : R2 T w.2.2.1) : x_R w 74 0 = some 9 := h.q74
theorem R2.r75 {T : x_T} {w : x_W} (h : R2 T w.2.2.1) : x_R w 75 0 = some 10 := h.q75
theorem R2.r76 {T : x_T} {w : x_W} (h : R2 T w.2.2.1) : x_R w 76 0 = some 11 := h.q76
theorem R2.r77 {T : x_T} {w : x_W} (h : R2 T w.2.2.1) : x_R w 77 0 = some 12 := h.q77
theorem R2.r78 {T : x_T} {w : x_W} (h : R2 T w.2.2.1) : x_R w 78 0 = some 13 := h.q78
theorem R2.r79 {T : x_T} {w : x_W} (h : R2 T w.2.2.1) : x_R w 79 0 = some 14 := h.q79
theorem R2.r81 {T : x_T} {w : x_W} (h : R2 T w.2.2.1) : x_R w 81 0 = some 15 := h.q81
theorem R2.r82 {T : x_T} {w : x_W} (h : R2 T w.2.2.1) : x_R w 82 0 = some 16 := h.q82
theorem R2.r85 {T : x_T} {w : x_W} (h : R2 T w.2.2.1) : x_R w 85 0 = some 17 := h.q85
theorem R2.r86 {T : x_T} {w : x_W} (h : R2 T w.2.2.1) : x_R w 86 0 = some 18 := h.q86
theorem R2.r87 {T : x_T} {w : x_W} (h : R2 T w.2.2.1) : x_R w 87 0 = some 19 := h.q87
theorem R2.r88 {T : x_T} {w : x_W} (h : R2 T w.2.2.1) : x_R w 88 0 = some 20 := h.q88
theorem R2.r89 {T : x_T} {w : x_W} (h : R2 T w.2.2.1) : x_R w 89 0 = some 21 := h.q89
theorem R2.r90 {T : x_T} {w : x_W} (h : R2 T w.2.2.1) : x_R w 90 0 = some 22 := h.q90
theorem R2.r92 {T : x_T} {w : x_W} (h : R2 T w.2.2.1) : x_R w 92 0 = some 23 := h.q92
theorem R2.r93 {T : x_T} {w : x_W} (h : R2 T w.2.2.1) : x_R w 93 0 = some 24 := h.q93
theorem R2.r94 {T : x_T} {w : x_W} (h : R2 T w.2.2.1) : x_R w 94 0 = some 25 := h.q94
theorem R2.r95 {T : x_T} {w : x_W} (h : R2 T w.2.2.1) : x_R w 95 0 = some 26 := h.q95
theorem R2.r103 {T : x_T} {w : x_W} (h : R2 T w.2.2.1) : x_R w 103 0 = some 27 := h.q103
theorem R2.r104 {T : x_T} {w : x_W} (h : R2 T w.2.2.1) : x_R w 104 0 = some 28 := h.q104
theorem R2.r105 {T : x_T} {w : x_W} (h : R2 T w.2.2.1) : x_R w 105 0 = some 29 := h.q105
theorem R2.r108 {T : x_T} {w : x_W} (h : R2 T w.2.2.1) : x_R w 108 0 = some 30 := h.q108
theorem R2.r109 {T : x_T} {w : x_W} (h : R2 T w.2.2.1) : x_R w 109 0 = some 31 := h.q109
theorem R2.r110 {T : x_T} {w : x_W} (h : R2 T w.2.2.1) : x_R w 110 0 = some 32 := h.q110
theorem R2.r111 {T : x_T} {w : x_W} (h : R2 T w.2.2.1) : x_R w 111 0 = some 33 := h.q111
theorem R2.r112 {T : x_T} {w : x_W} (h : R2 T w.2.2.1) : x_R w 112 0 = some 34 := h.q112
theorem R2.r113 {T : x_T} {w : x_W} (h : R2 T w.2.2.1) : x_R w 113 0 = some 35 := h.q113
theorem R2.r114 {T : x_T} {w : x_W} (h : R2 T w.2.2.1) : x_R w 114 0 = some 36 := h.q114
theorem R2.i {T : x_T} {r : Nat → Nat → Option Nat} (h : R2 T r) : x_is T 0 10 = some () := t_is h.t0
macro "rr " h:ident : tactic => `(tactic| simp only [Option.bind_some, wp_bind, wp_some, ($h).i, ($h).r66, ($h).r67, ($h).r68, ($h).r69, ($h).r70, ($h).r71, ($h).r72, ($h).r73, ($h).r74, ($h).r75, ($h).r76, ($h).r77, ($h).r78, ($h).r79, ($h).r81, ($h).r82, ($h).r85, ($h).r86, ($h).r87, ($h).r88, ($h).r89, ($h).r90, ($h).r92, ($h).r93, ($h).r94, ($h).r95, ($h).r103, ($h).r104, ($h).r105, ($h).r108, ($h).r109, ($h).r110, ($h).r111, ($h).r112, ($h).r113, ($h).r114, x_R_sI, x_R_sJ, x_R_sA, x_R_sB])
