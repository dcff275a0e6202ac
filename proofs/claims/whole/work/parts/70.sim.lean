/-! THE STATE BOTH SIDES STAND FOR; THE CHECKS -/
def Ab : Type := (En) × (Ce) × (Nat → Int32) × (Nat → Int32) × (Nat → Int32) × (Nat → Int32) × (Nat) × (Nat → Int32) × (Nat → Int32) × (Nat → Int32) × (Nat → Int32) × (Nat) × (Int32) × (Int64) × (Int64) × (Int64) × (Int64) × (Int64)
def Ab.E (S_ : Ab) : En := S_.1
def Ab.C (S_ : Ab) : Ce := S_.2.1
def Ab.wm (S_ : Ab) : Nat → Int32 := S_.2.2.1
def Ab.ps (S_ : Ab) : Nat → Int32 := S_.2.2.2.1
def Ab.fz (S_ : Ab) : Nat → Int32 := S_.2.2.2.2.1
def Ab.gd (S_ : Ab) : Nat → Int32 := S_.2.2.2.2.2.1
def Ab.gn (S_ : Ab) : Nat := S_.2.2.2.2.2.2.1
def Ab.g1 (S_ : Ab) : Nat → Int32 := S_.2.2.2.2.2.2.2.1
def Ab.g2 (S_ : Ab) : Nat → Int32 := S_.2.2.2.2.2.2.2.2.1
def Ab.g3 (S_ : Ab) : Nat → Int32 := S_.2.2.2.2.2.2.2.2.2.1
def Ab.g4 (S_ : Ab) : Nat → Int32 := S_.2.2.2.2.2.2.2.2.2.2.1
def Ab.hr (S_ : Ab) : Nat := S_.2.2.2.2.2.2.2.2.2.2.2.1
def Ab.mo (S_ : Ab) : Int32 := S_.2.2.2.2.2.2.2.2.2.2.2.2.1
def Ab.st (S_ : Ab) : Int64 := S_.2.2.2.2.2.2.2.2.2.2.2.2.2.1
def Ab.og (S_ : Ab) : Int64 := S_.2.2.2.2.2.2.2.2.2.2.2.2.2.2.1
def Ab.oc (S_ : Ab) : Int64 := S_.2.2.2.2.2.2.2.2.2.2.2.2.2.2.2.1
def Ab.ig (S_ : Ab) : Int64 := S_.2.2.2.2.2.2.2.2.2.2.2.2.2.2.2.2.1
def Ab.ic (S_ : Ab) : Int64 := S_.2.2.2.2.2.2.2.2.2.2.2.2.2.2.2.2.2
def Ab.mk_ (E_ : En) (C_ : Ce) (wm_ : Nat → Int32) (ps_ : Nat → Int32) (fz_ : Nat → Int32) (gd_ : Nat → Int32) (gn_ : Nat) (g1_ : Nat → Int32) (g2_ : Nat → Int32) (g3_ : Nat → Int32) (g4_ : Nat → Int32) (hr_ : Nat) (mo_ : Int32) (st_ : Int64) (og_ : Int64) (oc_ : Int64) (ig_ : Int64) (ic_ : Int64) : Ab := (E_, C_, wm_, ps_, fz_, gd_, gn_, g1_, g2_, g3_, g4_, hr_, mo_, st_, og_, oc_, ig_, ic_)
theorem Ab.E_mk (E_ : En) (C_ : Ce) (wm_ : Nat → Int32) (ps_ : Nat → Int32) (fz_ : Nat → Int32) (gd_ : Nat → Int32) (gn_ : Nat) (g1_ : Nat → Int32) (g2_ : Nat → Int32) (g3_ : Nat → Int32) (g4_ : Nat → Int32) (hr_ : Nat) (mo_ : Int32) (st_ : Int64) (og_ : Int64) (oc_ : Int64) (ig_ : Int64) (ic_ : Int64) : Ab.E (Ab.mk_ E_ C_ wm_ ps_ fz_ gd_ gn_ g1_ g2_ g3_ g4_ hr_ mo_ st_ og_ oc_ ig_ ic_) = E_ := rfl
theorem Ab.C_mk (E_ : En) (C_ : Ce) (wm_ : Nat → Int32) (ps_ : Nat → Int32) (fz_ : Nat → Int32) (gd_ : Nat → Int32) (gn_ : Nat) (g1_ : Nat → Int32) (g2_ : Nat → Int32) (g3_ : Nat → Int32) (g4_ : Nat → Int32) (hr_ : Nat) (mo_ : Int32) (st_ : Int64) (og_ : Int64) (oc_ : Int64) (ig_ : Int64) (ic_ : Int64) : Ab.C (Ab.mk_ E_ C_ wm_ ps_ fz_ gd_ gn_ g1_ g2_ g3_ g4_ hr_ mo_ st_ og_ oc_ ig_ ic_) = C_ := rfl
theorem Ab.wm_mk (E_ : En) (C_ : Ce) (wm_ : Nat → Int32) (ps_ : Nat → Int32) (fz_ : Nat → Int32) (gd_ : Nat → Int32) (gn_ : Nat) (g1_ : Nat → Int32) (g2_ : Nat → Int32) (g3_ : Nat → Int32) (g4_ : Nat → Int32) (hr_ : Nat) (mo_ : Int32) (st_ : Int64) (og_ : Int64) (oc_ : Int64) (ig_ : Int64) (ic_ : Int64) : Ab.wm (Ab.mk_ E_ C_ wm_ ps_ fz_ gd_ gn_ g1_ g2_ g3_ g4_ hr_ mo_ st_ og_ oc_ ig_ ic_) = wm_ := rfl
theorem Ab.ps_mk (E_ : En) (C_ : Ce) (wm_ : Nat → Int32) (ps_ : Nat → Int32) (fz_ : Nat → Int32) (gd_ : Nat → Int32) (gn_ : Nat) (g1_ : Nat → Int32) (g2_ : Nat → Int32) (g3_ : Nat → Int32) (g4_ : Nat → Int32) (hr_ : Nat) (mo_ : Int32) (st_ : Int64) (og_ : Int64) (oc_ : Int64) (ig_ : Int64) (ic_ : Int64) : Ab.ps (Ab.mk_ E_ C_ wm_ ps_ fz_ gd_ gn_ g1_ g2_ g3_ g4_ hr_ mo_ st_ og_ oc_ ig_ ic_) = ps_ := rfl
theorem Ab.fz_mk (E_ : En) (C_ : Ce) (wm_ : Nat → Int32) (ps_ : Nat → Int32) (fz_ : Nat → Int32) (gd_ : Nat → Int32) (gn_ : Nat) (g1_ : Nat → Int32) (g2_ : Nat → Int32) (g3_ : Nat → Int32) (g4_ : Nat → Int32) (hr_ : Nat) (mo_ : Int32) (st_ : Int64) (og_ : Int64) (oc_ : Int64) (ig_ : Int64) (ic_ : Int64) : Ab.fz (Ab.mk_ E_ C_ wm_ ps_ fz_ gd_ gn_ g1_ g2_ g3_ g4_ hr_ mo_ st_ og_ oc_ ig_ ic_) = fz_ := rfl
theorem Ab.gd_mk (E_ : En) (C_ : Ce) (wm_ : Nat → Int32) (ps_ : Nat → Int32) (fz_ : Nat → Int32) (gd_ : Nat → Int32) (gn_ : Nat) (g1_ : Nat → Int32) (g2_ : Nat → Int32) (g3_ : Nat → Int32) (g4_ : Nat → Int32) (hr_ : Nat) (mo_ : Int32) (st_ : Int64) (og_ : Int64) (oc_ : Int64) (ig_ : Int64) (ic_ : Int64) : Ab.gd (Ab.mk_ E_ C_ wm_ ps_ fz_ gd_ gn_ g1_ g2_ g3_ g4_ hr_ mo_ st_ og_ oc_ ig_ ic_) = gd_ := rfl
theorem Ab.gn_mk (E_ : En) (C_ : Ce) (wm_ : Nat → Int32) (ps_ : Nat → Int32) (fz_ : Nat → Int32) (gd_ : Nat → Int32) (gn_ : Nat) (g1_ : Nat → Int32) (g2_ : Nat → Int32) (g3_ : Nat → Int32) (g4_ : Nat → Int32) (hr_ : Nat) (mo_ : Int32) (st_ : Int64) (og_ : Int64) (oc_ : Int64) (ig_ : Int64) (ic_ : Int64) : Ab.gn (Ab.mk_ E_ C_ wm_ ps_ fz_ gd_ gn_ g1_ g2_ g3_ g4_ hr_ mo_ st_ og_ oc_ ig_ ic_) = gn_ := rfl
theorem Ab.g1_mk (E_ : En) (C_ : Ce) (wm_ : Nat → Int32) (ps_ : Nat → Int32) (fz_ : Nat → Int32) (gd_ : Nat → Int32) (gn_ : Nat) (g1_ : Nat → Int32) (g2_ : Nat → Int32) (g3_ : Nat → Int32) (g4_ : Nat → Int32) (hr_ : Nat) (mo_ : Int32) (st_ : Int64) (og_ : Int64) (oc_ : Int64) (ig_ : Int64) (ic_ : Int64) : Ab.g1 (Ab.mk_ E_ C_ wm_ ps_ fz_ gd_ gn_ g1_ g2_ g3_ g4_ hr_ mo_ st_ og_ oc_ ig_ ic_) = g1_ := rfl
theorem Ab.g2_mk (E_ : En) (C_ : Ce) (wm_ : Nat → Int32) (ps_ : Nat → Int32) (fz_ : Nat → Int32) (gd_ : Nat → Int32) (gn_ : Nat) (g1_ : Nat → Int32) (g2_ : Nat → Int32) (g3_ : Nat → Int32) (g4_ : Nat → Int32) (hr_ : Nat) (mo_ : Int32) (st_ : Int64) (og_ : Int64) (oc_ : Int64) (ig_ : Int64) (ic_ : Int64) : Ab.g2 (Ab.mk_ E_ C_ wm_ ps_ fz_ gd_ gn_ g1_ g2_ g3_ g4_ hr_ mo_ st_ og_ oc_ ig_ ic_) = g2_ := rfl
theorem Ab.g3_mk (E_ : En) (C_ : Ce) (wm_ : Nat → Int32) (ps_ : Nat → Int32) (fz_ : Nat → Int32) (gd_ : Nat → Int32) (gn_ : Nat) (g1_ : Nat → Int32) (g2_ : Nat → Int32) (g3_ : Nat → Int32) (g4_ : Nat → Int32) (hr_ : Nat) (mo_ : Int32) (st_ : Int64) (og_ : Int64) (oc_ : Int64) (ig_ : Int64) (ic_ : Int64) : Ab.g3 (Ab.mk_ E_ C_ wm_ ps_ fz_ gd_ gn_ g1_ g2_ g3_ g4_ hr_ mo_ st_ og_ oc_ ig_ ic_) = g3_ := rfl
theorem Ab.g4_mk (E_ : En) (C_ : Ce) (wm_ : Nat → Int32) (ps_ : Nat → Int32) (fz_ : Nat → Int32) (gd_ : Nat → Int32) (gn_ : Nat) (g1_ : Nat → Int32) (g2_ : Nat → Int32) (g3_ : Nat → Int32) (g4_ : Nat → Int32) (hr_ : Nat) (mo_ : Int32) (st_ : Int64) (og_ : Int64) (oc_ : Int64) (ig_ : Int64) (ic_ : Int64) : Ab.g4 (Ab.mk_ E_ C_ wm_ ps_ fz_ gd_ gn_ g1_ g2_ g3_ g4_ hr_ mo_ st_ og_ oc_ ig_ ic_) = g4_ := rfl
theorem Ab.hr_mk (E_ : En) (C_ : Ce) (wm_ : Nat → Int32) (ps_ : Nat → Int32) (fz_ : Nat → Int32) (gd_ : Nat → Int32) (gn_ : Nat) (g1_ : Nat → Int32) (g2_ : Nat → Int32) (g3_ : Nat → Int32) (g4_ : Nat → Int32) (hr_ : Nat) (mo_ : Int32) (st_ : Int64) (og_ : Int64) (oc_ : Int64) (ig_ : Int64) (ic_ : Int64) : Ab.hr (Ab.mk_ E_ C_ wm_ ps_ fz_ gd_ gn_ g1_ g2_ g3_ g4_ hr_ mo_ st_ og_ oc_ ig_ ic_) = hr_ := rfl
theorem Ab.mo_mk (E_ : En) (C_ : Ce) (wm_ : Nat → Int32) (ps_ : Nat → Int32) (fz_ : Nat → Int32) (gd_ : Nat → Int32) (gn_ : Nat) (g1_ : Nat → Int32) (g2_ : Nat → Int32) (g3_ : Nat → Int32) (g4_ : Nat → Int32) (hr_ : Nat) (mo_ : Int32) (st_ : Int64) (og_ : Int64) (oc_ : Int64) (ig_ : Int64) (ic_ : Int64) : Ab.mo (Ab.mk_ E_ C_ wm_ ps_ fz_ gd_ gn_ g1_ g2_ g3_ g4_ hr_ mo_ st_ og_ oc_ ig_ ic_) = mo_ := rfl
theorem Ab.st_mk (E_ : En) (C_ : Ce) (wm_ : Nat → Int32) (ps_ : Nat → Int32) (fz_ : Nat → Int32) (gd_ : Nat → Int32) (gn_ : Nat) (g1_ : Nat → Int32) (g2_ : Nat → Int32) (g3_ : Nat → Int32) (g4_ : Nat → Int32) (hr_ : Nat) (mo_ : Int32) (st_ : Int64) (og_ : Int64) (oc_ : Int64) (ig_ : Int64) (ic_ : Int64) : Ab.st (Ab.mk_ E_ C_ wm_ ps_ fz_ gd_ gn_ g1_ g2_ g3_ g4_ hr_ mo_ st_ og_ oc_ ig_ ic_) = st_ := rfl
theorem Ab.og_mk (E_ : En) (C_ : Ce) (wm_ : Nat → Int32) (ps_ : Nat → Int32) (fz_ : Nat → Int32) (gd_ : Nat → Int32) (gn_ : Nat) (g1_ : Nat → Int32) (g2_ : Nat → Int32) (g3_ : Nat → Int32) (g4_ : Nat → Int32) (hr_ : Nat) (mo_ : Int32) (st_ : Int64) (og_ : Int64) (oc_ : Int64) (ig_ : Int64) (ic_ : Int64) : Ab.og (Ab.mk_ E_ C_ wm_ ps_ fz_ gd_ gn_ g1_ g2_ g3_ g4_ hr_ mo_ st_ og_ oc_ ig_ ic_) = og_ := rfl
theorem Ab.oc_mk (E_ : En) (C_ : Ce) (wm_ : Nat → Int32) (ps_ : Nat → Int32) (fz_ : Nat → Int32) (gd_ : Nat → Int32) (gn_ : Nat) (g1_ : Nat → Int32) (g2_ : Nat → Int32) (g3_ : Nat → Int32) (g4_ : Nat → Int32) (hr_ : Nat) (mo_ : Int32) (st_ : Int64) (og_ : Int64) (oc_ : Int64) (ig_ : Int64) (ic_ : Int64) : Ab.oc (Ab.mk_ E_ C_ wm_ ps_ fz_ gd_ gn_ g1_ g2_ g3_ g4_ hr_ mo_ st_ og_ oc_ ig_ ic_) = oc_ := rfl
theorem Ab.ig_mk (E_ : En) (C_ : Ce) (wm_ : Nat → Int32) (ps_ : Nat → Int32) (fz_ : Nat → Int32) (gd_ : Nat → Int32) (gn_ : Nat) (g1_ : Nat → Int32) (g2_ : Nat → Int32) (g3_ : Nat → Int32) (g4_ : Nat → Int32) (hr_ : Nat) (mo_ : Int32) (st_ : Int64) (og_ : Int64) (oc_ : Int64) (ig_ : Int64) (ic_ : Int64) : Ab.ig (Ab.mk_ E_ C_ wm_ ps_ fz_ gd_ gn_ g1_ g2_ g3_ g4_ hr_ mo_ st_ og_ oc_ ig_ ic_) = ig_ := rfl
theorem Ab.ic_mk (E_ : En) (C_ : Ce) (wm_ : Nat → Int32) (ps_ : Nat → Int32) (fz_ : Nat → Int32) (gd_ : Nat → Int32) (gn_ : Nat) (g1_ : Nat → Int32) (g2_ : Nat → Int32) (g3_ : Nat → Int32) (g4_ : Nat → Int32) (hr_ : Nat) (mo_ : Int32) (st_ : Int64) (og_ : Int64) (oc_ : Int64) (ig_ : Int64) (ic_ : Int64) : Ab.ic (Ab.mk_ E_ C_ wm_ ps_ fz_ gd_ gn_ g1_ g2_ g3_ g4_ hr_ mo_ st_ og_ oc_ ig_ ic_) = ic_ := rfl
def AB (n : Nat) (A : Ab) : Prop := (EB A.E) ∧ (KB A.E n A.C) ∧ (∀ k, k < n → A.fz k = 0 ∨ A.fz k = 1) ∧ (A.gn ≤ 6) ∧ (∀ i, i < A.gn → 1 ≤ (A.g4 i).toInt ∧ (A.g4 i).toInt ≤ 1000) ∧ (A.hr ≤ 10000) ∧ (0 ≤ A.mo.toInt ∧ A.mo.toInt ≤ 1000000)
theorem AB.e {n : Nat} {A : Ab} (S_ : AB n A) : EB A.E := S_.1
theorem AB.k {n : Nat} {A : Ab} (S_ : AB n A) : KB A.E n A.C := S_.2.1
theorem AB.fz {n : Nat} {A : Ab} (S_ : AB n A) : ∀ k, k < n → A.fz k = 0 ∨ A.fz k = 1 := S_.2.2.1
theorem AB.gn {n : Nat} {A : Ab} (S_ : AB n A) : A.gn ≤ 6 := S_.2.2.2.1
theorem AB.g4 {n : Nat} {A : Ab} (S_ : AB n A) : ∀ i, i < A.gn → 1 ≤ (A.g4 i).toInt ∧ (A.g4 i).toInt ≤ 1000 := S_.2.2.2.2.1
theorem AB.hr {n : Nat} {A : Ab} (S_ : AB n A) : A.hr ≤ 10000 := S_.2.2.2.2.2.1
theorem AB.mo {n : Nat} {A : Ab} (S_ : AB n A) : 0 ≤ A.mo.toInt ∧ A.mo.toInt ≤ 1000000 := S_.2.2.2.2.2.2
/-- what never changes in the class's world -/
def CT (T : x_T) (w : x_W) (n : Nat) : Prop := (T 0 = some (0, 0)) ∧ (x_R w 7 0 = some 1) ∧ (x_R w 8 0 = some 26) ∧ (x_R w 9 0 = some 36) ∧ (x_R w 10 0 = some 41) ∧ (x_R w 11 0 = some (50 + 3 * n)) ∧ (T 1 = some (103, 6)) ∧ (∀ m, m < 6 → x_Q w 1 m = some (2 + 4 * m)) ∧ (T 36 = some (6, 0)) ∧ (x_R w 38 36 = some 37) ∧ (x_R w 39 36 = some 38) ∧ (x_R w 40 36 = some 39) ∧ (x_R w 41 36 = some 40) ∧ (T 37 = some (100, 6)) ∧ (T 38 = some (100, 6)) ∧ (T 39 = some (100, 6)) ∧ (T 40 = some (100, 6)) ∧ (T (50 + 3 * n) = some (8, 0)) ∧ (x_R w 54 (50 + 3 * n) = some (51 + 3 * n)) ∧ (x_R w 53 (50 + 3 * n) = some (60 + 6 * n)) ∧ (x_R w 52 (50 + 3 * n) = some (61 + 6 * n)) ∧ (T (60 + 6 * n) = some (100, 5)) ∧ (T (61 + 6 * n) = some (100, 5)) ∧ (T (62 + 6 * n) = some (101, 1))
theorem CT.t0 {T : x_T} {w : x_W} {n : Nat} (S_ : CT T w n) : T 0 = some (0, 0) := S_.1
theorem CT.r7 {T : x_T} {w : x_W} {n : Nat} (S_ : CT T w n) : x_R w 7 0 = some 1 := S_.2.1
theorem CT.r8 {T : x_T} {w : x_W} {n : Nat} (S_ : CT T w n) : x_R w 8 0 = some 26 := S_.2.2.1
theorem CT.r9 {T : x_T} {w : x_W} {n : Nat} (S_ : CT T w n) : x_R w 9 0 = some 36 := S_.2.2.2.1
theorem CT.r10 {T : x_T} {w : x_W} {n : Nat} (S_ : CT T w n) : x_R w 10 0 = some 41 := S_.2.2.2.2.1
theorem CT.r11 {T : x_T} {w : x_W} {n : Nat} (S_ : CT T w n) : x_R w 11 0 = some (50 + 3 * n) := S_.2.2.2.2.2.1
theorem CT.t1 {T : x_T} {w : x_W} {n : Nat} (S_ : CT T w n) : T 1 = some (103, 6) := S_.2.2.2.2.2.2.1
theorem CT.q1 {T : x_T} {w : x_W} {n : Nat} (S_ : CT T w n) : ∀ m, m < 6 → x_Q w 1 m = some (2 + 4 * m) := S_.2.2.2.2.2.2.2.1
theorem CT.t36 {T : x_T} {w : x_W} {n : Nat} (S_ : CT T w n) : T 36 = some (6, 0) := S_.2.2.2.2.2.2.2.2.1
theorem CT.r38 {T : x_T} {w : x_W} {n : Nat} (S_ : CT T w n) : x_R w 38 36 = some 37 := S_.2.2.2.2.2.2.2.2.2.1
theorem CT.r39 {T : x_T} {w : x_W} {n : Nat} (S_ : CT T w n) : x_R w 39 36 = some 38 := S_.2.2.2.2.2.2.2.2.2.2.1
theorem CT.r40 {T : x_T} {w : x_W} {n : Nat} (S_ : CT T w n) : x_R w 40 36 = some 39 := S_.2.2.2.2.2.2.2.2.2.2.2.1
theorem CT.r41 {T : x_T} {w : x_W} {n : Nat} (S_ : CT T w n) : x_R w 41 36 = some 40 := S_.2.2.2.2.2.2.2.2.2.2.2.2.1
theorem CT.t37 {T : x_T} {w : x_W} {n : Nat} (S_ : CT T w n) : T 37 = some (100, 6) := S_.2.2.2.2.2.2.2.2.2.2.2.2.2.1
theorem CT.t38 {T : x_T} {w : x_W} {n : Nat} (S_ : CT T w n) : T 38 = some (100, 6) := S_.2.2.2.2.2.2.2.2.2.2.2.2.2.2.1
theorem CT.t39 {T : x_T} {w : x_W} {n : Nat} (S_ : CT T w n) : T 39 = some (100, 6) := S_.2.2.2.2.2.2.2.2.2.2.2.2.2.2.2.1
theorem CT.t40 {T : x_T} {w : x_W} {n : Nat} (S_ : CT T w n) : T 40 = some (100, 6) := S_.2.2.2.2.2.2.2.2.2.2.2.2.2.2.2.2.1
theorem CT.tt {T : x_T} {w : x_W} {n : Nat} (S_ : CT T w n) : T (50 + 3 * n) = some (8, 0) := S_.2.2.2.2.2.2.2.2.2.2.2.2.2.2.2.2.2.1
theorem CT.r54 {T : x_T} {w : x_W} {n : Nat} (S_ : CT T w n) : x_R w 54 (50 + 3 * n) = some (51 + 3 * n) := S_.2.2.2.2.2.2.2.2.2.2.2.2.2.2.2.2.2.2.1
theorem CT.r53 {T : x_T} {w : x_W} {n : Nat} (S_ : CT T w n) : x_R w 53 (50 + 3 * n) = some (60 + 6 * n) := S_.2.2.2.2.2.2.2.2.2.2.2.2.2.2.2.2.2.2.2.1
theorem CT.r52 {T : x_T} {w : x_W} {n : Nat} (S_ : CT T w n) : x_R w 52 (50 + 3 * n) = some (61 + 6 * n) := S_.2.2.2.2.2.2.2.2.2.2.2.2.2.2.2.2.2.2.2.2.1
theorem CT.ta {T : x_T} {w : x_W} {n : Nat} (S_ : CT T w n) : T (60 + 6 * n) = some (100, 5) := S_.2.2.2.2.2.2.2.2.2.2.2.2.2.2.2.2.2.2.2.2.2.1
theorem CT.tb {T : x_T} {w : x_W} {n : Nat} (S_ : CT T w n) : T (61 + 6 * n) = some (100, 5) := S_.2.2.2.2.2.2.2.2.2.2.2.2.2.2.2.2.2.2.2.2.2.2.1
theorem CT.to {T : x_T} {w : x_W} {n : Nat} (S_ : CT T w n) : T (62 + 6 * n) = some (101, 1) := S_.2.2.2.2.2.2.2.2.2.2.2.2.2.2.2.2.2.2.2.2.2.2.2
theorem CT.of {T : x_T} {w w' : x_W} {n : Nat} (S : CT T w n) (hR : ∀ k h, k ≠ 17 → k ≠ 31 → k ≠ 32 → x_R w' k h = x_R w k h) (hQ : ∀ i j, x_Q w' i j = x_Q w i j) : CT T w' n := by
  refine ⟨S.t0, ?_, ?_, ?_, ?_, ?_, S.t1, fun m hm => ?_, S.t36, ?_, ?_, ?_, ?_, S.t37, S.t38, S.t39, S.t40, S.tt, ?_, ?_, ?_, S.ta, S.tb, S.to⟩
  · rw [hR _ _ (by decide) (by decide) (by decide)]; exact S.r7
  · rw [hR _ _ (by decide) (by decide) (by decide)]; exact S.r8
  · rw [hR _ _ (by decide) (by decide) (by decide)]; exact S.r9
  · rw [hR _ _ (by decide) (by decide) (by decide)]; exact S.r10
  · rw [hR _ _ (by decide) (by decide) (by decide)]; exact S.r11
  · rw [hQ]; exact S.q1 m hm
  · rw [hR _ _ (by decide) (by decide) (by decide)]; exact S.r38
  · rw [hR _ _ (by decide) (by decide) (by decide)]; exact S.r39
  · rw [hR _ _ (by decide) (by decide) (by decide)]; exact S.r40
  · rw [hR _ _ (by decide) (by decide) (by decide)]; exact S.r41
  · rw [hR _ _ (by decide) (by decide) (by decide)]; exact S.r54
  · rw [hR _ _ (by decide) (by decide) (by decide)]; exact S.r53
  · rw [hR _ _ (by decide) (by decide) (by decide)]; exact S.r52
/-- the data of the class that are no environment and no cells -/
def DC (w : x_W) (n : Nat) (A : Ab) : Prop := (∀ k, k < n → x_I w 0 (46 + 2 * k) = A.wm k) ∧ (∀ k, k < n → x_I w 22 (46 + 2 * k) = A.ps k) ∧ (∀ k, k < n → x_I w 24 (46 + 2 * k) = A.fz k) ∧ (∀ k, k < n → x_I w 23 (46 + 2 * k) = A.gd k) ∧ (x_I w 42 36 = nI A.gn) ∧ (∀ i, i < A.gn → x_A w 37 i = A.g1 i) ∧ (∀ i, i < A.gn → x_A w 38 i = A.g2 i) ∧ (∀ i, i < A.gn → x_A w 39 i = A.g3 i) ∧ (∀ i, i < A.gn → x_A w 40 i = A.g4 i) ∧ (x_I w 12 0 = nI A.hr) ∧ (x_I w 13 0 = A.mo) ∧ (x_J w 14 0 = A.st) ∧ (x_J w 15 42 = A.og) ∧ (x_J w 16 42 = A.oc) ∧ (x_J w 15 43 = A.ig) ∧ (x_J w 16 43 = A.ic)
theorem DC.wm {w : x_W} {n : Nat} {A : Ab} (S_ : DC w n A) : ∀ k, k < n → x_I w 0 (46 + 2 * k) = A.wm k := S_.1
theorem DC.ps {w : x_W} {n : Nat} {A : Ab} (S_ : DC w n A) : ∀ k, k < n → x_I w 22 (46 + 2 * k) = A.ps k := S_.2.1
theorem DC.fz {w : x_W} {n : Nat} {A : Ab} (S_ : DC w n A) : ∀ k, k < n → x_I w 24 (46 + 2 * k) = A.fz k := S_.2.2.1
theorem DC.gd {w : x_W} {n : Nat} {A : Ab} (S_ : DC w n A) : ∀ k, k < n → x_I w 23 (46 + 2 * k) = A.gd k := S_.2.2.2.1
theorem DC.gn {w : x_W} {n : Nat} {A : Ab} (S_ : DC w n A) : x_I w 42 36 = nI A.gn := S_.2.2.2.2.1
theorem DC.g1 {w : x_W} {n : Nat} {A : Ab} (S_ : DC w n A) : ∀ i, i < A.gn → x_A w 37 i = A.g1 i := S_.2.2.2.2.2.1
theorem DC.g2 {w : x_W} {n : Nat} {A : Ab} (S_ : DC w n A) : ∀ i, i < A.gn → x_A w 38 i = A.g2 i := S_.2.2.2.2.2.2.1
theorem DC.g3 {w : x_W} {n : Nat} {A : Ab} (S_ : DC w n A) : ∀ i, i < A.gn → x_A w 39 i = A.g3 i := S_.2.2.2.2.2.2.2.1
theorem DC.g4 {w : x_W} {n : Nat} {A : Ab} (S_ : DC w n A) : ∀ i, i < A.gn → x_A w 40 i = A.g4 i := S_.2.2.2.2.2.2.2.2.1
theorem DC.hr {w : x_W} {n : Nat} {A : Ab} (S_ : DC w n A) : x_I w 12 0 = nI A.hr := S_.2.2.2.2.2.2.2.2.2.1
theorem DC.mo {w : x_W} {n : Nat} {A : Ab} (S_ : DC w n A) : x_I w 13 0 = A.mo := S_.2.2.2.2.2.2.2.2.2.2.1
theorem DC.st {w : x_W} {n : Nat} {A : Ab} (S_ : DC w n A) : x_J w 14 0 = A.st := S_.2.2.2.2.2.2.2.2.2.2.2.1
theorem DC.og {w : x_W} {n : Nat} {A : Ab} (S_ : DC w n A) : x_J w 15 42 = A.og := S_.2.2.2.2.2.2.2.2.2.2.2.2.1
theorem DC.oc {w : x_W} {n : Nat} {A : Ab} (S_ : DC w n A) : x_J w 16 42 = A.oc := S_.2.2.2.2.2.2.2.2.2.2.2.2.2.1
theorem DC.ig {w : x_W} {n : Nat} {A : Ab} (S_ : DC w n A) : x_J w 15 43 = A.ig := S_.2.2.2.2.2.2.2.2.2.2.2.2.2.2.1
theorem DC.ic {w : x_W} {n : Nat} {A : Ab} (S_ : DC w n A) : x_J w 16 43 = A.ic := S_.2.2.2.2.2.2.2.2.2.2.2.2.2.2.2
def SC (T : x_T) (w : x_W) (n : Nat) (A : Ab) : Prop := (WS T w 41 n) ∧ (WS T w (51 + 3 * n) n) ∧ (CT T w n) ∧ (EC T w A.E) ∧ (KC w 41 n A.C) ∧ (DC w n A)
theorem SC.ws {T : x_T} {w : x_W} {n : Nat} {A : Ab} (S_ : SC T w n A) : WS T w 41 n := S_.1
theorem SC.wt {T : x_T} {w : x_W} {n : Nat} {A : Ab} (S_ : SC T w n A) : WS T w (51 + 3 * n) n := S_.2.1
theorem SC.ct {T : x_T} {w : x_W} {n : Nat} {A : Ab} (S_ : SC T w n A) : CT T w n := S_.2.2.1
theorem SC.e {T : x_T} {w : x_W} {n : Nat} {A : Ab} (S_ : SC T w n A) : EC T w A.E := S_.2.2.2.1
theorem SC.k {T : x_T} {w : x_W} {n : Nat} {A : Ab} (S_ : SC T w n A) : KC w 41 n A.C := S_.2.2.2.2.1
theorem SC.d {T : x_T} {w : x_W} {n : Nat} {A : Ab} (S_ : SC T w n A) : DC w n A := S_.2.2.2.2.2
def DR (w : x_W) (n : Nat) (A : Ab) : Prop := (∀ k, k < n → x_A w 11 k = A.wm k) ∧ (∀ k, k < n → x_A w 12 k = A.ps k) ∧ (∀ k, k < n → x_A w 13 k = A.fz k) ∧ (∀ k, k < n → x_A w 14 k = A.gd k) ∧ (x_I w 91 0 = nI A.gn) ∧ (∀ i, i < A.gn → x_A w 23 i = A.g1 i) ∧ (∀ i, i < A.gn → x_A w 24 i = A.g2 i) ∧ (∀ i, i < A.gn → x_A w 25 i = A.g3 i) ∧ (∀ i, i < A.gn → x_A w 26 i = A.g4 i) ∧ (x_I w 96 0 = nI A.hr) ∧ (x_I w 97 0 = A.mo) ∧ (x_J w 102 0 = A.st) ∧ (x_J w 98 0 = A.og) ∧ (x_J w 100 0 = A.oc) ∧ (x_J w 99 0 = A.ig) ∧ (x_J w 101 0 = A.ic)
theorem DR.wm {w : x_W} {n : Nat} {A : Ab} (S_ : DR w n A) : ∀ k, k < n → x_A w 11 k = A.wm k := S_.1
theorem DR.ps {w : x_W} {n : Nat} {A : Ab} (S_ : DR w n A) : ∀ k, k < n → x_A w 12 k = A.ps k := S_.2.1
theorem DR.fz {w : x_W} {n : Nat} {A : Ab} (S_ : DR w n A) : ∀ k, k < n → x_A w 13 k = A.fz k := S_.2.2.1
theorem DR.gd {w : x_W} {n : Nat} {A : Ab} (S_ : DR w n A) : ∀ k, k < n → x_A w 14 k = A.gd k := S_.2.2.2.1
theorem DR.gn {w : x_W} {n : Nat} {A : Ab} (S_ : DR w n A) : x_I w 91 0 = nI A.gn := S_.2.2.2.2.1
theorem DR.g1 {w : x_W} {n : Nat} {A : Ab} (S_ : DR w n A) : ∀ i, i < A.gn → x_A w 23 i = A.g1 i := S_.2.2.2.2.2.1
theorem DR.g2 {w : x_W} {n : Nat} {A : Ab} (S_ : DR w n A) : ∀ i, i < A.gn → x_A w 24 i = A.g2 i := S_.2.2.2.2.2.2.1
theorem DR.g3 {w : x_W} {n : Nat} {A : Ab} (S_ : DR w n A) : ∀ i, i < A.gn → x_A w 25 i = A.g3 i := S_.2.2.2.2.2.2.2.1
theorem DR.g4 {w : x_W} {n : Nat} {A : Ab} (S_ : DR w n A) : ∀ i, i < A.gn → x_A w 26 i = A.g4 i := S_.2.2.2.2.2.2.2.2.1
theorem DR.hr {w : x_W} {n : Nat} {A : Ab} (S_ : DR w n A) : x_I w 96 0 = nI A.hr := S_.2.2.2.2.2.2.2.2.2.1
theorem DR.mo {w : x_W} {n : Nat} {A : Ab} (S_ : DR w n A) : x_I w 97 0 = A.mo := S_.2.2.2.2.2.2.2.2.2.2.1
theorem DR.st {w : x_W} {n : Nat} {A : Ab} (S_ : DR w n A) : x_J w 102 0 = A.st := S_.2.2.2.2.2.2.2.2.2.2.2.1
theorem DR.og {w : x_W} {n : Nat} {A : Ab} (S_ : DR w n A) : x_J w 98 0 = A.og := S_.2.2.2.2.2.2.2.2.2.2.2.2.1
theorem DR.oc {w : x_W} {n : Nat} {A : Ab} (S_ : DR w n A) : x_J w 100 0 = A.oc := S_.2.2.2.2.2.2.2.2.2.2.2.2.2.1
theorem DR.ig {w : x_W} {n : Nat} {A : Ab} (S_ : DR w n A) : x_J w 99 0 = A.ig := S_.2.2.2.2.2.2.2.2.2.2.2.2.2.2.1
theorem DR.ic {w : x_W} {n : Nat} {A : Ab} (S_ : DR w n A) : x_J w 101 0 = A.ic := S_.2.2.2.2.2.2.2.2.2.2.2.2.2.2.2
def SR (T : x_T) (w : x_W) (n : Nat) (A : Ab) : Prop := (ER T w A.E n) ∧ (KR w n A.C) ∧ (DR w n A)
theorem SR.e {T : x_T} {w : x_W} {n : Nat} {A : Ab} (S_ : SR T w n A) : ER T w A.E n := S_.1
theorem SR.k {T : x_T} {w : x_W} {n : Nat} {A : Ab} (S_ : SR T w n A) : KR w n A.C := S_.2.1
theorem SR.d {T : x_T} {w : x_W} {n : Nat} {A : Ab} (S_ : SR T w n A) : DR w n A := S_.2.2
def Sim (T1 T2 : x_T) (n : Nat) (w1 w2 : x_W) : Prop := ∃ A, AB n A ∧ SC T1 w1 n A ∧ SR T2 w2 n A
/-- frames for all of it -/
theorem SC.of {T : x_T} {w w' : x_W} {n : Nat} {A : Ab} (S : SC T w n A) (hI : ∀ k h, x_I w' k h = x_I w k h) (hJ : ∀ k h, x_J w' k h = x_J w k h) (hR : ∀ k h, x_R w' k h = x_R w k h) (hQ : ∀ i j, x_Q w' i j = x_Q w i j) (hA : ∀ i j, x_A w' i j = x_A w i j) : SC T w' n A := by
  refine ⟨S.ws.of (fun k h _ _ _ => hR k h) hQ, S.wt.of (fun k h _ _ _ => hR k h) hQ, S.ct.of (fun k h _ _ _ => hR k h) hQ, S.e.of (fun k h _ => hI k h) (fun k h _ _ _ => hR k h) (fun i j _ => hA i j), ⟨fun k hk => by rw [hR]; exact S.k.mt k hk, fun k hk => by rw [hI]; exact S.k.th k hk, fun k hk => by rw [hI]; exact S.k.lk k hk, fun k hk => by rw [hI]; exact S.k.hd k hk⟩, ?_⟩
  have D := S.d
  exact ⟨fun k hk => by rw [hI]; exact D.wm k hk, fun k hk => by rw [hI]; exact D.ps k hk, fun k hk => by rw [hI]; exact D.fz k hk, fun k hk => by rw [hI]; exact D.gd k hk, by rw [hI]; exact D.gn, fun i hi => by rw [hA]; exact D.g1 i hi, fun i hi => by rw [hA]; exact D.g2 i hi, fun i hi => by rw [hA]; exact D.g3 i hi, fun i hi => by rw [hA]; exact D.g4 i hi, by rw [hI]; exact D.hr, by rw [hI]; exact D.mo, by rw [hJ]; exact D.st, by rw [hJ]; exact D.og, by rw [hJ]; exact D.oc, by rw [hJ]; exact D.ig, by rw [hJ]; exact D.ic⟩
theorem SC.out {T : x_T} {w : x_W} {n : Nat} {A : Ab} (S : SC T w n A) (h i : Nat) (v : Int64) : SC T (x_sB w h i v) n A := S.of (fun _ _ => rfl) (fun _ _ => rfl) (fun _ _ => rfl) (fun _ _ => rfl) (fun _ _ => rfl)
theorem SR.th {T : x_T} {w : x_W} {n : Nat} {A : Ab} (S : SR T w n A) (v : Int32) : SR T (x_sI w 64 0 v) n A := by
  have X : Gx [64] [] [] [] w (x_sI w 64 0 v) := (Gx.refl _ _ _ _ w).sI (by decide)
  have D := S.d
  exact ⟨X.er S.e, X.kr S.k, ⟨D.wm, D.ps, D.fz, D.gd, (X.I _ _ (by decide)).trans D.gn, D.g1, D.g2, D.g3, D.g4, (X.I _ _ (by decide)).trans D.hr, (X.I _ _ (by decide)).trans D.mo, D.st, D.og, D.oc, D.ig, D.ic⟩⟩
theorem q_within (T : x_T) (w : x_W) (v a b : Int32) : f_WD_requireWithin T w v a b = some (if a.toInt ≤ v.toInt ∧ v.toInt ≤ b.toInt then .ok () else .error 1) := by
  unfold f_WD_requireWithin f_WD_requireWithin_10
  simp only [z_lt, z_le]
  by_cases h1 : v.toInt < a.toInt
  · rw [if_pos h1, if_neg (by omega)]
  · rw [if_neg h1]
    by_cases h2 : v.toInt ≤ b.toInt
    · rw [if_pos h2, if_pos (by omega)]
    · rw [if_neg h2, if_neg (by omega)]
theorem q_in (T : x_T) (w : x_W) (v a b : Int64) : f_Mod_in T w v a b = some (if a.toInt ≤ v.toInt ∧ v.toInt ≤ b.toInt then 1 else 0) := by
  unfold f_Mod_in f_Mod_in_17 f_Mod_in_18 x_bo
  simp only [lg_cmp_lt, lg_cmp_gt, z_Lt]
  by_cases h1 : v.toInt < a.toInt
  · rw [if_pos h1, if_neg (show ¬ (a.toInt ≤ v.toInt ∧ v.toInt ≤ b.toInt) by omega)]; rfl
  · rw [if_neg h1]
    by_cases h2 : b.toInt < v.toInt
    · rw [if_pos h2, if_neg (show ¬ (a.toInt ≤ v.toInt ∧ v.toInt ≤ b.toInt) by omega)]; rfl
    · rw [if_neg h2, if_pos (show a.toInt ≤ v.toInt ∧ v.toInt ≤ b.toInt by omega)]; rfl
theorem q_isCell {T : x_T} {w : x_W} {E : En} {n : Nat} (G : ER T w E n) (n1 : 1 ≤ n) (n12 : n ≤ 12) (v : Int32) : f_Mod_isCell T w 0 v = some (if 0 ≤ v.toInt ∧ v.toInt ≤ (n : Int) - 1 then 1 else 0) := by
  unfold f_Mod_isCell
  rw [G.r.i, Option.bind_some, q_in, G.n, z_nI, z_64 (by omega) (by omega), show (1 : Int64) = Int64.ofInt 1 from rfl, z_Sub, z_T (by omega) (by omega), Int32.toInt_toInt64]
  unfold x_bo
  by_cases h : (0 : Int64).toInt ≤ v.toInt ∧ v.toInt ≤ (n : Int) - 1
  · rw [if_pos h]
    rw [show (0 : Int64).toInt = 0 from rfl] at h
    rw [if_pos h]
    rfl
  · rw [if_neg h]
    rw [show (0 : Int64).toInt = 0 from rfl] at h
    rw [if_neg h]
    rfl
theorem z_isN {p : Int32} {m : Int} (h : 0 ≤ p.toInt ∧ p.toInt ≤ m) : ∃ k : Nat, p = nI k ∧ (k : Int) ≤ m ∧ p.toInt = k := by
  refine ⟨p.toInt.toNat, ?_, by omega, by omega⟩
  rw [z_nI, Int.toNat_of_nonneg h.1, z_o]
theorem l0 : (0 : Int32).toInt = 0 := rfl
theorem l1 : (1 : Int32).toInt = 1 := rfl
theorem l5 : (5 : Int32).toInt = 5 := rfl
theorem l23 : (23 : Int32).toInt = 23 := rfl
theorem l48 : (48 : Int32).toInt = 48 := rfl
theorem l240 : (240 : Int32).toInt = 240 := rfl
theorem l1000 : (1000 : Int32).toInt = 1000 := rfl
theorem l5000 : (5000 : Int32).toInt = 5000 := rfl
theorem lm5000 : (-5000 : Int32).toInt = -5000 := rfl
theorem l10000 : (10000 : Int32).toInt = 10000 := rfl
theorem l100000 : (100000 : Int32).toInt = 100000 := rfl
theorem l1000000 : (1000000 : Int32).toInt = 1000000 := rfl
theorem L0 : (0 : Int64).toInt = 0 := rfl
theorem L1 : (1 : Int64).toInt = 1 := rfl
theorem L5 : (5 : Int64).toInt = 5 := rfl
theorem L23 : (23 : Int64).toInt = 23 := rfl
theorem L48 : (48 : Int64).toInt = 48 := rfl
theorem L240 : (240 : Int64).toInt = 240 := rfl
theorem L1000 : (1000 : Int64).toInt = 1000 := rfl
theorem L5000 : (5000 : Int64).toInt = 5000 := rfl
theorem Lm5000 : (-5000 : Int64).toInt = -5000 := rfl
theorem L10000 : (10000 : Int64).toInt = 10000 := rfl
theorem L100000 : (100000 : Int64).toInt = 100000 := rfl
theorem L1000000 : (1000000 : Int64).toInt = 1000000 := rfl
theorem one_ne : ((1 : Int32) = 0) = False := by decide
theorem two_ne : ((2 : Int32) = 0) = False := by decide
theorem one_le : ((1 : Int32) ≤ 0) = False := by decide
theorem two_le : ((2 : Int32) ≤ 0) = False := by decide
theorem zer_le : ((0 : Int32) ≤ 0) = True := by decide
theorem zer_eq : ((0 : Int32) = 0) = True := by decide
section MAT
variable {T : x_T} {w : x_W} {n : Nat} {A : Ab}
theorem q_mat (S : SC T w n A) (p : Int32) : f_WD_materialOf T w 0 p = some (if 0 ≤ p.toInt ∧ p.toInt ≤ 5 then .ok (2 + 4 * p.toInt.toNat) else .error 1) := by
  unfold f_WD_materialOf
  have e5 : (nI 6 - 1 : Int32).toInt = 5 := rfl
  simp only [q_within, q_in, l0, l1, l5, l23, l48, l240, l1000, l5000, lm5000, l10000, l100000, l1000000, L0, L1, L5, L23, L48, L240, L1000, L5000, Lm5000, L10000, L100000, L1000000, Int32.toInt_toInt64, Option.bind_some, t_is S.ct.t0, S.ct.r7, t_len S.ct.t1, e5]
  by_cases h : 0 ≤ p.toInt ∧ p.toInt ≤ 5
  · obtain ⟨m, rfl, hm, hm2⟩ := z_isN h
    rw [if_pos h, if_pos h, hm2]
    simp only [x_ec, t_ixn S.ct.t1 (show m < 6 by omega) (by omega), nI_clampS (show m < 100000 by omega), S.ct.q1 m (by omega), Option.bind_some, Int.toNat_natCast]
  · rw [if_neg h, if_neg h]
    rfl
theorem q_cell (S : SC T w n A) (p : Int32) : f_WD_cellAt T w 0 p = some (if 0 ≤ p.toInt ∧ p.toInt ≤ (n : Int) - 1 then .ok (46 + 2 * p.toInt.toNat) else .error 1) := by
  unfold f_WD_cellAt
  have n1 := S.ws.n1
  have n12 := S.ws.n12
  have e5 : (nI n - 1 : Int32).toInt = (n : Int) - 1 := by rw [nI_sub1 (by omega), nI_intS (by omega)]; omega
  simp only [q_within, q_in, l0, l1, l5, l23, l48, l240, l1000, l5000, lm5000, l10000, l100000, l1000000, L0, L1, L5, L23, L48, L240, L1000, L5000, Lm5000, L10000, L100000, L1000000, Int32.toInt_toInt64, Option.bind_some, t_is S.ct.t0, S.ct.r10, t_is S.ws.t, S.ws.r55, t_len S.ws.tc, e5]
  by_cases h : 0 ≤ p.toInt ∧ p.toInt ≤ (n : Int) - 1
  · obtain ⟨m, rfl, hm, hm2⟩ := z_isN h
    rw [if_pos h, if_pos h, hm2]
    simp only [x_ec, t_ixn S.ws.tc (show m < n by omega) (by omega), nI_clampS (show m < 100000 by omega), (S.ws.c m (by omega)).2, Option.bind_some, Int.toNat_natCast]
  · rw [if_neg h, if_neg h]
    rfl
end MAT
