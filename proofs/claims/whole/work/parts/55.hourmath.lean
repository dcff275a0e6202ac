/-! AN HOUR AS NUMBERS -/
def En : Type := (Nat → Nat) × (Nat → Nat → Int) × (Nat → Nat → Int) × (Nat → Int) × (Nat → Int) × (Nat → Int) × (Int) × (Int) × (Nat → Nat → Int)
def En.cn (S_ : En) : Nat → Nat := S_.1
def En.X (S_ : En) : Nat → Nat → Int := S_.2.1
def En.Y (S_ : En) : Nat → Nat → Int := S_.2.2.1
def En.vp (S_ : En) : Nat → Int := S_.2.2.2.1
def En.lq (S_ : En) : Nat → Int := S_.2.2.2.2.1
def En.ld (S_ : En) : Nat → Int := S_.2.2.2.2.2.1
def En.fo (S_ : En) : Int := S_.2.2.2.2.2.2.1
def En.fi (S_ : En) : Int := S_.2.2.2.2.2.2.2.1
def En.cl (S_ : En) : Nat → Nat → Int := S_.2.2.2.2.2.2.2.2
def En.mk_ (cn_ : Nat → Nat) (X_ : Nat → Nat → Int) (Y_ : Nat → Nat → Int) (vp_ : Nat → Int) (lq_ : Nat → Int) (ld_ : Nat → Int) (fo_ : Int) (fi_ : Int) (cl_ : Nat → Nat → Int) : En := (cn_, X_, Y_, vp_, lq_, ld_, fo_, fi_, cl_)
theorem En.cn_mk (cn_ : Nat → Nat) (X_ : Nat → Nat → Int) (Y_ : Nat → Nat → Int) (vp_ : Nat → Int) (lq_ : Nat → Int) (ld_ : Nat → Int) (fo_ : Int) (fi_ : Int) (cl_ : Nat → Nat → Int) : En.cn (En.mk_ cn_ X_ Y_ vp_ lq_ ld_ fo_ fi_ cl_) = cn_ := rfl
theorem En.X_mk (cn_ : Nat → Nat) (X_ : Nat → Nat → Int) (Y_ : Nat → Nat → Int) (vp_ : Nat → Int) (lq_ : Nat → Int) (ld_ : Nat → Int) (fo_ : Int) (fi_ : Int) (cl_ : Nat → Nat → Int) : En.X (En.mk_ cn_ X_ Y_ vp_ lq_ ld_ fo_ fi_ cl_) = X_ := rfl
theorem En.Y_mk (cn_ : Nat → Nat) (X_ : Nat → Nat → Int) (Y_ : Nat → Nat → Int) (vp_ : Nat → Int) (lq_ : Nat → Int) (ld_ : Nat → Int) (fo_ : Int) (fi_ : Int) (cl_ : Nat → Nat → Int) : En.Y (En.mk_ cn_ X_ Y_ vp_ lq_ ld_ fo_ fi_ cl_) = Y_ := rfl
theorem En.vp_mk (cn_ : Nat → Nat) (X_ : Nat → Nat → Int) (Y_ : Nat → Nat → Int) (vp_ : Nat → Int) (lq_ : Nat → Int) (ld_ : Nat → Int) (fo_ : Int) (fi_ : Int) (cl_ : Nat → Nat → Int) : En.vp (En.mk_ cn_ X_ Y_ vp_ lq_ ld_ fo_ fi_ cl_) = vp_ := rfl
theorem En.lq_mk (cn_ : Nat → Nat) (X_ : Nat → Nat → Int) (Y_ : Nat → Nat → Int) (vp_ : Nat → Int) (lq_ : Nat → Int) (ld_ : Nat → Int) (fo_ : Int) (fi_ : Int) (cl_ : Nat → Nat → Int) : En.lq (En.mk_ cn_ X_ Y_ vp_ lq_ ld_ fo_ fi_ cl_) = lq_ := rfl
theorem En.ld_mk (cn_ : Nat → Nat) (X_ : Nat → Nat → Int) (Y_ : Nat → Nat → Int) (vp_ : Nat → Int) (lq_ : Nat → Int) (ld_ : Nat → Int) (fo_ : Int) (fi_ : Int) (cl_ : Nat → Nat → Int) : En.ld (En.mk_ cn_ X_ Y_ vp_ lq_ ld_ fo_ fi_ cl_) = ld_ := rfl
theorem En.fo_mk (cn_ : Nat → Nat) (X_ : Nat → Nat → Int) (Y_ : Nat → Nat → Int) (vp_ : Nat → Int) (lq_ : Nat → Int) (ld_ : Nat → Int) (fo_ : Int) (fi_ : Int) (cl_ : Nat → Nat → Int) : En.fo (En.mk_ cn_ X_ Y_ vp_ lq_ ld_ fo_ fi_ cl_) = fo_ := rfl
theorem En.fi_mk (cn_ : Nat → Nat) (X_ : Nat → Nat → Int) (Y_ : Nat → Nat → Int) (vp_ : Nat → Int) (lq_ : Nat → Int) (ld_ : Nat → Int) (fo_ : Int) (fi_ : Int) (cl_ : Nat → Nat → Int) : En.fi (En.mk_ cn_ X_ Y_ vp_ lq_ ld_ fo_ fi_ cl_) = fi_ := rfl
theorem En.cl_mk (cn_ : Nat → Nat) (X_ : Nat → Nat → Int) (Y_ : Nat → Nat → Int) (vp_ : Nat → Int) (lq_ : Nat → Int) (ld_ : Nat → Int) (fo_ : Int) (fi_ : Int) (cl_ : Nat → Nat → Int) : En.cl (En.mk_ cn_ X_ Y_ vp_ lq_ ld_ fo_ fi_ cl_) = cl_ := rfl
def Ce : Type := (Nat → Nat) × (Nat → Int) × (Nat → Int) × (Nat → Int)
def Ce.mt (S_ : Ce) : Nat → Nat := S_.1
def Ce.th (S_ : Ce) : Nat → Int := S_.2.1
def Ce.lk (S_ : Ce) : Nat → Int := S_.2.2.1
def Ce.hd (S_ : Ce) : Nat → Int := S_.2.2.2
def Ce.mk_ (mt_ : Nat → Nat) (th_ : Nat → Int) (lk_ : Nat → Int) (hd_ : Nat → Int) : Ce := (mt_, th_, lk_, hd_)
theorem Ce.mt_mk (mt_ : Nat → Nat) (th_ : Nat → Int) (lk_ : Nat → Int) (hd_ : Nat → Int) : Ce.mt (Ce.mk_ mt_ th_ lk_ hd_) = mt_ := rfl
theorem Ce.th_mk (mt_ : Nat → Nat) (th_ : Nat → Int) (lk_ : Nat → Int) (hd_ : Nat → Int) : Ce.th (Ce.mk_ mt_ th_ lk_ hd_) = th_ := rfl
theorem Ce.lk_mk (mt_ : Nat → Nat) (th_ : Nat → Int) (lk_ : Nat → Int) (hd_ : Nat → Int) : Ce.lk (Ce.mk_ mt_ th_ lk_ hd_) = lk_ := rfl
theorem Ce.hd_mk (mt_ : Nat → Nat) (th_ : Nat → Int) (lk_ : Nat → Int) (hd_ : Nat → Int) : Ce.hd (Ce.mk_ mt_ th_ lk_ hd_) = hd_ := rfl
def moE (E : En) (m : Nat) : Int := E.X m (E.cn m - 1)
def EB (E : En) : Prop := (∀ m, m < 6 → Cor (E.cn m) (E.X m) (E.Y m) 10000 ∧ 1 ≤ E.cn m ∧ E.cn m ≤ 7 ∧ E.X m 0 = 0) ∧ (Cor (E.cn 6) (E.X 6) (E.Y 6) 100000) ∧ (∀ m, m < 6 → 0 ≤ E.vp m ∧ E.vp m ≤ 1000 ∧ 0 ≤ E.lq m ∧ E.lq m ≤ 1000 ∧ 1 ≤ E.ld m ∧ E.ld m ≤ 1000) ∧ (0 ≤ E.fo ∧ E.fo ≤ 1000 ∧ 0 ≤ E.fi ∧ E.fi ≤ 1000) ∧ (∀ h, h < 24 → -5000 ≤ E.cl 0 h ∧ E.cl 0 h ≤ 5000) ∧ (∀ h, h < 24 → 0 ≤ E.cl 1 h ∧ E.cl 1 h ≤ 10000) ∧ (∀ h, h < 24 → 0 ≤ E.cl 2 h ∧ E.cl 2 h ≤ 1000) ∧ (∀ h, h < 24 → 0 ≤ E.cl 3 h ∧ E.cl 3 h ≤ 1000) ∧ (∀ h, h < 24 → -5000 ≤ E.cl 4 h ∧ E.cl 4 h ≤ 5000) ∧ (∀ h, h < 24 → 0 ≤ E.cl 5 h ∧ E.cl 5 h ≤ 10000)
theorem EB.cor {E : En} (S_ : EB E) : ∀ m, m < 6 → Cor (E.cn m) (E.X m) (E.Y m) 10000 ∧ 1 ≤ E.cn m ∧ E.cn m ≤ 7 ∧ E.X m 0 = 0 := S_.1
theorem EB.tab {E : En} (S_ : EB E) : Cor (E.cn 6) (E.X 6) (E.Y 6) 100000 := S_.2.1
theorem EB.rt {E : En} (S_ : EB E) : ∀ m, m < 6 → 0 ≤ E.vp m ∧ E.vp m ≤ 1000 ∧ 0 ≤ E.lq m ∧ E.lq m ≤ 1000 ∧ 1 ≤ E.ld m ∧ E.ld m ≤ 1000 := S_.2.2.1
theorem EB.fm {E : En} (S_ : EB E) : 0 ≤ E.fo ∧ E.fo ≤ 1000 ∧ 0 ≤ E.fi ∧ E.fi ≤ 1000 := S_.2.2.2.1
theorem EB.c0 {E : En} (S_ : EB E) : ∀ h, h < 24 → -5000 ≤ E.cl 0 h ∧ E.cl 0 h ≤ 5000 := S_.2.2.2.2.1
theorem EB.c1 {E : En} (S_ : EB E) : ∀ h, h < 24 → 0 ≤ E.cl 1 h ∧ E.cl 1 h ≤ 10000 := S_.2.2.2.2.2.1
theorem EB.c2 {E : En} (S_ : EB E) : ∀ h, h < 24 → 0 ≤ E.cl 2 h ∧ E.cl 2 h ≤ 1000 := S_.2.2.2.2.2.2.1
theorem EB.c3 {E : En} (S_ : EB E) : ∀ h, h < 24 → 0 ≤ E.cl 3 h ∧ E.cl 3 h ≤ 1000 := S_.2.2.2.2.2.2.2.1
theorem EB.c4 {E : En} (S_ : EB E) : ∀ h, h < 24 → -5000 ≤ E.cl 4 h ∧ E.cl 4 h ≤ 5000 := S_.2.2.2.2.2.2.2.2.1
theorem EB.c5 {E : En} (S_ : EB E) : ∀ h, h < 24 → 0 ≤ E.cl 5 h ∧ E.cl 5 h ≤ 10000 := S_.2.2.2.2.2.2.2.2.2
def KB (E : En) (n : Nat) (C : Ce) : Prop := (1 ≤ n) ∧ (n ≤ 12) ∧ (∀ k, k < n → C.mt k < 6) ∧ (∀ k, k < n → 1 ≤ C.th k ∧ C.th k ≤ 1000) ∧ (∀ k, k < n → 0 ≤ C.lk k ∧ C.lk k ≤ 1000) ∧ (∀ k, k < n → 0 ≤ C.hd k ∧ C.hd k ≤ moE E (C.mt k))
theorem KB.n1 {E : En} {n : Nat} {C : Ce} (S_ : KB E n C) : 1 ≤ n := S_.1
theorem KB.n12 {E : En} {n : Nat} {C : Ce} (S_ : KB E n C) : n ≤ 12 := S_.2.1
theorem KB.mt {E : En} {n : Nat} {C : Ce} (S_ : KB E n C) : ∀ k, k < n → C.mt k < 6 := S_.2.2.1
theorem KB.th {E : En} {n : Nat} {C : Ce} (S_ : KB E n C) : ∀ k, k < n → 1 ≤ C.th k ∧ C.th k ≤ 1000 := S_.2.2.2.1
theorem KB.lk {E : En} {n : Nat} {C : Ce} (S_ : KB E n C) : ∀ k, k < n → 0 ≤ C.lk k ∧ C.lk k ≤ 1000 := S_.2.2.2.2.1
theorem KB.hd {E : En} {n : Nat} {C : Ce} (S_ : KB E n C) : ∀ k, k < n → 0 ≤ C.hd k ∧ C.hd k ≤ moE E (C.mt k) := S_.2.2.2.2.2
theorem EB.mo {E : En} (B : EB E) {m : Nat} (hm : m < 6) : 0 ≤ moE E m ∧ moE E m ≤ 1000000 := by
  obtain ⟨hc, h1, h7, h0⟩ := B.cor m hm
  have h2 := hc.mono (E.cn m - 1) 0 (by omega)
  have h3 := hc.2.2 (E.cn m - 1) (by omega)
  unfold moE
  rw [Nat.zero_add] at h2
  omega
def rs (E : En) (C : Ce) (k : Nat) : Int := (100 * C.th k).tdiv (E.ld (C.mt k))
def al (E : En) (n : Nat) (C : Ce) : Int := 2 * E.fo + 2 * zs (rs E C) n + 2 * E.fi
def wy (E : En) (C : Ce) (k : Nat) : Int := 2 * E.fo + 2 * zs (rs E C) k + rs E C k
def fc (E : En) (h : Nat) : Int := E.cl 0 h + E.cl 3 h
def wmz (E : En) (n : Nat) (C : Ce) (h k : Nat) : Int := if al E n C ≤ 0 then fc E h else fc E h + ((E.cl 4 h - fc E h) * wy E C k) / al E n C
def dpz (E : En) (C : Ce) (k : Nat) : Int := hz (E.cn (C.mt k)) (E.X (C.mt k)) (E.Y (C.mt k)) (C.hd k)
def fu (E : En) (x : Int) : Int := hz (E.cn 6) (E.X 6) (E.Y 6) x
def pcz (E : En) (n : Nat) (C : Ce) (h k : Nat) : Int := fu E (wmz E n C h k) * dpz E C k / 10000
def oPz (E : En) (h : Nat) : Int := fu E (fc E h) * E.cl 1 h / 10000
def iPz (E : En) (h : Nat) : Int := fu E (E.cl 4 h) * E.cl 5 h / 10000
def sgb (E : En) (n : Nat) (C : Ce) (h k : Nat) : Int := ((pcz E n C h k - pcz E n C h (k + 1)) * min (E.vp (C.mt k)) (E.vp (C.mt (k + 1)))).tdiv 1000 + ((dpz E C k - dpz E C (k + 1)) * min (E.lq (C.mt k)) (E.lq (C.mt (k + 1)))).tdiv 1000
def sgl (E : En) (n : Nat) (C : Ce) (h k : Nat) : Int := -((max 0 (iPz E h - pcz E n C h k) * C.lk k).tdiv 1000)
def sg (E : En) (n : Nat) (C : Ce) (h f : Nat) : Int :=
  if f = 0 then ((oPz E h - pcz E n C h 0) * E.vp (C.mt 0)).tdiv 1000
  else if f = 1 then ((pcz E n C h (n - 1) - iPz E h) * E.vp (C.mt (n - 1))).tdiv 1000
  else if f = 2 then (E.cl 2 h * E.lq (C.mt 0)).tdiv 100
  else if f < 3 + n then sgl E n C h (f - 3) else sgb E n C h (f - (3 + n))
theorem sg_leak {E : En} {n : Nat} {C : Ce} {h k : Nat} (hk : k < n) : sg E n C h (3 + k) = sgl E n C h k := by
  unfold sg
  rw [if_neg (by omega), if_neg (by omega), if_neg (by omega), if_pos (by omega), Nat.add_sub_cancel_left]
theorem sg_betw {E : En} {n : Nat} {C : Ce} {h k : Nat} : sg E n C h (3 + n + k) = sgb E n C h k := by
  unfold sg
  rw [if_neg (by omega), if_neg (by omega), if_neg (by omega), if_neg (by omega), Nat.add_sub_cancel_left]
def su (n : Nat) (C : Ce) (p : Nat) : Int := if p < n then C.hd p else 1000000000
def ro (E : En) (n : Nat) (C : Ce) (p : Nat) : Int := if p < n then moE E (C.mt p) - C.hd p else 1000000000
def PP (E : En) (n : Nat) (C : Ce) (h : Nat) : Nat → Int := P2 n (su n C) (ro E n C) (sg E n C h)
def NN (E : En) (n : Nat) (C : Ce) (h : Nat) : Nat → Int := N2 n (su n C) (ro E n C) (sg E n C h)
/-- the cells behind the hour -/
def hourC (E : En) (n : Nat) (C : Ce) (h : Nat) : Ce := ⟨C.mt, C.th, C.lk, fun k => C.hd k - SO n k (PP E n C h) (NN E n C h) + SI n k (PP E n C h) (NN E n C h)⟩
theorem tdiv_b {a B d : Int} (hd : 0 < d) (h1 : -(B * d) ≤ a) (h2 : a ≤ B * d) : -B ≤ a.tdiv d ∧ a.tdiv d ≤ B := by
  by_cases h : 0 ≤ a
  · rw [Int.tdiv_eq_ediv_of_nonneg h]
    have q1 := Int.ediv_nonneg h (b := d) (by omega)
    have q2 : a / d ≤ B := Int.ediv_le_of_le_mul hd h2
    omega
  · have e : a.tdiv d = -((-a) / d) := by
      rw [← Int.tdiv_eq_ediv_of_nonneg (by omega), Int.neg_tdiv, Int.neg_neg]
    have q1 := Int.ediv_nonneg (a := -a) (by omega) (b := d) (by omega)
    have q2 : (-a) / d ≤ B := Int.ediv_le_of_le_mul hd (by omega)
    rw [e]
    omega
theorem mul_b {a b A B : Int} (h1 : -A ≤ a) (h2 : a ≤ A) (h3 : 0 ≤ b) (h4 : b ≤ B) : -(A * B) ≤ a * b ∧ a * b ≤ A * B := by
  by_cases h : 0 ≤ a
  · have := z_mb h h2 h3 h4
    have q := z_mb (a := A) (b := B) (A := A) (B := B) (by omega) (by omega) (by omega) (by omega)
    omega
  · have := z_mb (a := -a) (b := b) (A := A) (B := B) (by omega) (by omega) h3 h4
    rw [Int.neg_mul] at this
    have q := z_mb (a := A) (b := B) (A := A) (B := B) (by omega) (by omega) (by omega) (by omega)
    omega
section HB
variable {E : En} {n h k : Nat} {C : Ce}
theorem rs_b (B : EB E) (K : KB E n C) (hk : k < n) : 0 ≤ rs E C k ∧ rs E C k ≤ 100000 := by
  unfold rs
  have h1 := K.th k hk
  have h2 := B.rt _ (K.mt k hk)
  rw [Int.tdiv_eq_ediv_of_nonneg (by omega)]
  refine ⟨Int.ediv_nonneg (by omega) (by omega), Int.ediv_le_of_le_mul (by omega) ?_⟩
  have h3 : 100000 * 1 ≤ 100000 * E.ld (C.mt k) := Int.mul_le_mul_of_nonneg_left (by omega) (by omega)
  omega
theorem zs_rs_b (B : EB E) (K : KB E n C) {m : Nat} (hm : m ≤ n) : 0 ≤ zs (rs E C) m ∧ zs (rs E C) m ≤ 1200000 := by
  refine ⟨zs_nonneg (fun i hi => (rs_b B K (by omega)).1), ?_⟩
  have h1 := zs_le (g := rs E C) (n := m) (B := 100000) (fun i hi => (rs_b B K (by omega)).2)
  have h2 := K.n12
  have h3 : (m : Int) * 100000 ≤ 12 * 100000 := Int.mul_le_mul_of_nonneg_right (by omega) (by omega)
  omega
theorem zs_grow {g : Nat → Int} {n : Nat} (h : ∀ i, i < n → 0 ≤ g i) : ∀ d m, m + d = n → zs g m ≤ zs g n := by
  intro d
  induction d with
  | zero => intro m hm; rw [show m = n by omega]; exact Int.le_refl _
  | succ d ih =>
    intro m hm
    have h1 := ih (m + 1) (by omega)
    rw [zs_s] at h1
    have h2 := h m (by omega)
    omega
theorem wy_b (B : EB E) (K : KB E n C) (hk : k < n) : 0 ≤ wy E C k ∧ wy E C k ≤ al E n C ∧ al E n C ≤ 3000000 := by
  have h1 := zs_rs_b B K (m := k) (by omega)
  have h2 := zs_rs_b B K (m := n) (by omega)
  have h3 := rs_b B K hk
  have h4 := zs_grow (g := rs E C) (fun i hi => (rs_b B K hi).1) (n - (k + 1)) (k + 1) (by omega)
  rw [zs_s] at h4
  have h5 := B.fm
  unfold wy al
  omega
theorem fc_b (B : EB E) (hh : h < 24) : -5000 ≤ fc E h ∧ fc E h ≤ 6000 := by
  have h1 := B.c0 h hh
  have h2 := B.c3 h hh
  unfold fc
  omega
theorem quot_b {r y a : Int} (hr : -11000 ≤ r) (hr2 : r ≤ 11000) (hy : 0 ≤ y) (hya : y ≤ a) (ha : 0 < a) : -11000 ≤ r * y / a ∧ r * y / a ≤ 11000 := by
  have h1 := mul_b hr hr2 hy hya
  refine ⟨?_, Int.ediv_le_of_le_mul ha (by omega)⟩
  apply Int.le_ediv_of_mul_le ha
  rw [Int.neg_mul]
  omega
theorem wmz_b (B : EB E) (K : KB E n C) (hh : h < 24) (hk : k < n) : -20000 ≤ wmz E n C h k ∧ wmz E n C h k ≤ 20000 := by
  have h1 := fc_b B hh
  have h2 := B.c4 h hh
  have h3 := wy_b B K hk
  unfold wmz
  by_cases ha : al E n C ≤ 0
  · rw [if_pos ha]; omega
  · rw [if_neg ha]
    have := quot_b (r := E.cl 4 h - fc E h) (y := wy E C k) (a := al E n C) (by omega) (by omega) h3.1 h3.2.1 (by omega)
    omega
theorem dpz_b (B : EB E) (K : KB E n C) (hk : k < n) : 0 ≤ dpz E C k ∧ dpz E C k ≤ 10000 := hz_b (by omega) (B.cor _ (K.mt k hk)).1
theorem fu_b (B : EB E) (x : Int) : 0 ≤ fu E x ∧ fu E x ≤ 100000 := hz_b (by omega) B.tab
theorem prs_b {a d : Int} (h1 : 0 ≤ a) (h2 : a ≤ 100000) (h3 : 0 ≤ d) (h4 : d ≤ 10000) : 0 ≤ a * d / 10000 ∧ a * d / 10000 ≤ 100000 := by
  have := z_mb h1 h2 h3 h4
  omega
theorem pcz_b (B : EB E) (K : KB E n C) (hk : k < n) : 0 ≤ pcz E n C h k ∧ pcz E n C h k ≤ 100000 := prs_b (fu_b B _).1 (fu_b B _).2 (dpz_b B K hk).1 (dpz_b B K hk).2
theorem oPz_b (B : EB E) (hh : h < 24) : 0 ≤ oPz E h ∧ oPz E h ≤ 100000 := prs_b (fu_b B _).1 (fu_b B _).2 (B.c1 h hh).1 (B.c1 h hh).2
theorem iPz_b (B : EB E) (hh : h < 24) : 0 ≤ iPz E h ∧ iPz E h ≤ 100000 := prs_b (fu_b B _).1 (fu_b B _).2 (B.c5 h hh).1 (B.c5 h hh).2
theorem sgl_b (B : EB E) (K : KB E n C) (hh : h < 24) (hk : k < n) : -100000 ≤ sgl E n C h k ∧ sgl E n C h k ≤ 0 := by
  unfold sgl
  have h1 := iPz_b B hh
  have h2 := pcz_b (h := h) B K hk
  have h3 := K.lk k hk
  have h4 := z_mb (a := max 0 (iPz E h - pcz E n C h k)) (b := C.lk k) (A := 100000) (B := 1000) (by omega) (by omega) h3.1 h3.2
  rw [Int.tdiv_eq_ediv_of_nonneg h4.1]
  omega
theorem sgb_b (B : EB E) (K : KB E n C) (hk : k + 1 < n) : -110000 ≤ sgb E n C h k ∧ sgb E n C h k ≤ 110000 := by
  unfold sgb
  have h1 := pcz_b (h := h) B K (k := k) (by omega)
  have h2 := pcz_b (h := h) B K hk
  have h3 := dpz_b B K (k := k) (by omega)
  have h4 := dpz_b B K hk
  have h5 := B.rt _ (K.mt k (by omega))
  have h6 := B.rt _ (K.mt (k + 1) hk)
  have m1 := mul_b (a := pcz E n C h k - pcz E n C h (k + 1)) (b := min (E.vp (C.mt k)) (E.vp (C.mt (k + 1)))) (A := 100000) (B := 1000) (by omega) (by omega) (by omega) (by omega)
  have m2 := mul_b (a := dpz E C k - dpz E C (k + 1)) (b := min (E.lq (C.mt k)) (E.lq (C.mt (k + 1)))) (A := 10000) (B := 1000) (by omega) (by omega) (by omega) (by omega)
  have t1 := tdiv_b (d := 1000) (B := 100000) (by omega) m1.1 m1.2
  have t2 := tdiv_b (d := 1000) (B := 10000) (by omega) m2.1 m2.2
  omega
theorem hour_FB (B : EB E) (K : KB E n C) (hh : h < 24) : FB n (su n C) (ro E n C) (sg E n C h) := by
  have n1 := K.n1
  refine ⟨K.n1, K.n12, fun f hf => ?_, fun p hp => ?_, fun p hp => ?_, fun p hp => ?_, ?_, fun k hk => ?_⟩
  · by_cases f0 : f = 0
    · unfold sg
      rw [if_pos f0]
      have h1 := oPz_b B hh
      have h2 := pcz_b (h := h) B K (k := 0) (by omega)
      have h5 := B.rt _ (K.mt 0 (by omega))
      have m1 := mul_b (a := oPz E h - pcz E n C h 0) (b := E.vp (C.mt 0)) (A := 100000) (B := 1000) (by omega) (by omega) (by omega) (by omega)
      have t1 := tdiv_b (d := 1000) (B := 100000) (by omega) m1.1 m1.2
      omega
    · by_cases f1 : f = 1
      · unfold sg
        rw [if_neg f0, if_pos f1]
        have h1 := iPz_b B hh
        have h2 := pcz_b (h := h) B K (k := n - 1) (by omega)
        have h5 := B.rt _ (K.mt (n - 1) (by omega))
        have m1 := mul_b (a := pcz E n C h (n - 1) - iPz E h) (b := E.vp (C.mt (n - 1))) (A := 100000) (B := 1000) (by omega) (by omega) (by omega) (by omega)
        have t1 := tdiv_b (d := 1000) (B := 100000) (by omega) m1.1 m1.2
        omega
      · by_cases f2 : f = 2
        · unfold sg
          rw [if_neg f0, if_neg f1, if_pos f2]
          have h1 := B.c2 h hh
          have h5 := B.rt _ (K.mt 0 (by omega))
          have m1 := mul_b (a := E.cl 2 h) (b := E.lq (C.mt 0)) (A := 1000) (B := 1000) (by omega) (by omega) (by omega) (by omega)
          have t1 := tdiv_b (d := 100) (B := 10000) (by omega) m1.1 m1.2
          omega
        · by_cases f3 : f < 3 + n
          · have e : f = 3 + (f - 3) := by omega
            rw [e, sg_leak (by omega)]
            have := sgl_b B K hh (k := f - 3) (by omega)
            omega
          · have e : f = 3 + n + (f - (3 + n)) := by omega
            rw [e, sg_betw]
            exact sgb_b B K (by omega)
  · unfold su
    by_cases hp' : p < n
    · rw [if_pos hp']
      have h1 := K.hd p hp'
      have h2 := B.mo (K.mt p hp')
      omega
    · rw [if_neg hp']; omega
  · unfold ro
    by_cases hp' : p < n
    · rw [if_pos hp']
      have h1 := K.hd p hp'
      have h2 := B.mo (K.mt p hp')
      omega
    · rw [if_neg hp']; omega
  · unfold su ro
    rw [if_neg (by omega), if_neg (by omega)]
    omega
  · show 0 ≤ (E.cl 2 h * E.lq (C.mt 0)).tdiv 100
    have h1 := B.c2 h hh
    have h5 := B.rt _ (K.mt 0 (by omega))
    have := Int.mul_nonneg h1.1 h5.2.2.1
    rw [Int.tdiv_eq_ediv_of_nonneg this]
    omega
  · rw [sg_leak hk]
    exact (sgl_b B K hh hk).2
theorem hour_KB (B : EB E) (K : KB E n C) (hh : h < 24) : KB E n (hourC E n C h) := by
  refine ⟨K.n1, K.n12, K.mt, K.th, K.lk, fun k hk => ?_⟩
  have F := hour_FB B K hh
  have h1 := F.out (p := k) (by omega)
  have h2 := F.into (p := k) (by omega)
  have h3 := K.hd k hk
  have e1 : su n C k = C.hd k := if_pos hk
  have e2 : ro E n C k = moE E (C.mt k) - C.hd k := if_pos hk
  rw [e1] at h1
  rw [e2] at h2
  show 0 ≤ C.hd k - SO n k (PP E n C h) (NN E n C h) + SI n k (PP E n C h) (NN E n C h) ∧ C.hd k - SO n k (PP E n C h) (NN E n C h) + SI n k (PP E n C h) (NN E n C h) ≤ moE E (C.mt k)
  unfold PP NN
  omega
end HB
