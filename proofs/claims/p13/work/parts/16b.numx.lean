/-! the model: numbers, exactly (wip/gen16/spec_p1.py) -/
theorem qR_P6 (f : Nat → Int64) : qP f 6 = qR f 6 := by
  simp only [qR, qP, qU, Nat.reduceSub, Nat.sub_zero, Nat.sub_self]
  omega
theorem zaddU {P1 Pa Pb U c a b v c2 : Int} (h : P1 + c * U = Pa + Pb) (hv : (c2 = 0 ∧ v = a + b + c) ∨ (c2 = 1 ∧ v = a + b + c - 1000000000)) : P1 + v * U + c2 * (1000000000 * U) = (Pa + a * U) + (Pb + b * U) := by
  rcases hv with ⟨e1, e2⟩ | ⟨e1, e2⟩ <;> rw [e1, e2]
  · rw [Int.add_mul, Int.add_mul]; omega
  · rw [Int.sub_mul, Int.add_mul, Int.add_mul]; omega
theorem zsubU {P1 Pa Pb U c a b v c2 : Int} (h : P1 - c * U = Pa - Pb) (hv : (c2 = 0 ∧ v = a - b - c) ∨ (c2 = 1 ∧ v = a - b - c + 1000000000)) : P1 + v * U - c2 * (1000000000 * U) = (Pa + a * U) - (Pb + b * U) := by
  rcases hv with ⟨e1, e2⟩ | ⟨e1, e2⟩ <;> rw [e1, e2]
  · rw [Int.sub_mul, Int.sub_mul]; omega
  · rw [Int.add_mul, Int.sub_mul, Int.sub_mul]; omega
/-- figures behind the first -/
def zNo9 (f : Nat → Int64) : Prop := ∀ k, 1 ≤ k → k < 6 → 0 ≤ (f k).toInt ∧ (f k).toInt < 1000000000
theorem qR_lt {f g : Nat → Int64} {M N : Int} (hf : zNo9 f) (hg : zNo9 g) {k : Nat} (hk : k < 6) (he : ∀ j, j < k → f j = g j) (h : (f k).toInt < (g k).toInt) : qR f 6 < qR g 6 := by
  have f1 := hf 1 (by decide) (by decide)
  have f2 := hf 2 (by decide) (by decide)
  have f3 := hf 3 (by decide) (by decide)
  have f4 := hf 4 (by decide) (by decide)
  have f5 := hf 5 (by decide) (by decide)
  have g1 := hg 1 (by decide) (by decide)
  have g2 := hg 2 (by decide) (by decide)
  have g3 := hg 3 (by decide) (by decide)
  have g4 := hg 4 (by decide) (by decide)
  have g5 := hg 5 (by decide) (by decide)
  have e : ∀ j, j < k → (f j).toInt = (g j).toInt := fun j hj => by rw [he j hj]
  have hc : k = 0 ∨ k = 1 ∨ k = 2 ∨ k = 3 ∨ k = 4 ∨ k = 5 := by omega
  simp only [qR]
  rcases hc with rfl | rfl | rfl | rfl | rfl | rfl
  · omega
  · have := e 0 (by omega); omega
  · have := e 0 (by omega); have := e 1 (by omega); omega
  · have := e 0 (by omega); have := e 1 (by omega); have := e 2 (by omega); omega
  · have := e 0 (by omega); have := e 1 (by omega); have := e 2 (by omega); have := e 3 (by omega); omega
  · have := e 0 (by omega); have := e 1 (by omega); have := e 2 (by omega); have := e 3 (by omega); have := e 4 (by omega); omega
theorem qR_z {f : Nat → Int64} (h : ∀ k, k < 6 → (f k).toInt = 0) : qR f 6 = 0 := by
  simp only [qR, h 0 (by decide), h 1 (by decide), h 2 (by decide), h 3 (by decide), h 4 (by decide), h 5 (by decide)]
  rfl
theorem zlimb {f g : Nat → Int64} (hf : zNo9 f) (hg : zNo9 g) (h : qR f 6 = qR g 6) : ∀ k, k < 6 → f k = g k := fun k hk => by
  have f1 := hf 1 (by decide) (by decide)
  have f2 := hf 2 (by decide) (by decide)
  have f3 := hf 3 (by decide) (by decide)
  have f4 := hf 4 (by decide) (by decide)
  have f5 := hf 5 (by decide) (by decide)
  have g1 := hg 1 (by decide) (by decide)
  have g2 := hg 2 (by decide) (by decide)
  have g3 := hg 3 (by decide) (by decide)
  have g4 := hg 4 (by decide) (by decide)
  have g5 := hg 5 (by decide) (by decide)
  simp only [qR] at h
  have e5 : (f 5).toInt = (g 5).toInt := by omega
  have e4 : (f 4).toInt = (g 4).toInt := by omega
  have e3 : (f 3).toInt = (g 3).toInt := by omega
  have e2 : (f 2).toInt = (g 2).toInt := by omega
  have e1 : (f 1).toInt = (g 1).toInt := by omega
  have e0 : (f 0).toInt = (g 0).toInt := by omega
  rcases (show k = 0 ∨ k = 1 ∨ k = 2 ∨ k = 3 ∨ k = 4 ∨ k = 5 by omega) with rfl | rfl | rfl | rfl | rfl | rfl
  · exact Int64.toInt_inj.mp e0
  · exact Int64.toInt_inj.mp e1
  · exact Int64.toInt_inj.mp e2
  · exact Int64.toInt_inj.mp e3
  · exact Int64.toInt_inj.mp e4
  · exact Int64.toInt_inj.mp e5
/-- the series: its terms, their sums -/
def zTt (a b : Int) : Nat → Int
  | 0 => 2 * a * 1000000000000000000000000000000000000000000000 / b
  | j + 1 => zTt a b j * a / b * a / b
def zSn (a b : Int) : Nat → Int
  | 0 => 0
  | j + 1 => zSn a b j + zTt a b j / (2 * (j : Int) + 1)
theorem zTt_0 {a b : Int} {j : Nat} (h : zTt a b j = 0) : ∀ n, zTt a b (j + n) = 0 := by
  intro n
  induction n with
  | zero => exact h
  | succ n ih => show zTt a b (j + n) * a / b * a / b = 0; rw [ih]; simp
theorem zSn_0 {a b : Int} {j : Nat} (h : zTt a b j = 0) : ∀ n, zSn a b (j + n) = zSn a b j := by
  intro n
  induction n with
  | zero => rfl
  | succ n ih => show zSn a b (j + n) + zTt a b (j + n) / (2 * ((j + n : Nat) : Int) + 1) = _; rw [ih, zTt_0 h n]; simp
theorem zmulbd {a b : Int} (h1 : -2000000 ≤ a) (h2 : a ≤ 2000000) (h3 : -1000000 ≤ b) (h4 : b ≤ 1000000) : -(2000000 * 1000000) ≤ a * b ∧ a * b ≤ 2000000 * 1000000 := by
  rcases Int.le_total 0 a with q | q
  · have e1 : a * b ≤ a * 1000000 := Int.mul_le_mul_of_nonneg_left h4 q
    have e2 : a * -1000000 ≤ a * b := Int.mul_le_mul_of_nonneg_left h3 q
    omega
  · have e1 : -a * b ≤ -a * 1000000 := Int.mul_le_mul_of_nonneg_left h4 (by omega)
    have e2 : -a * -1000000 ≤ -a * b := Int.mul_le_mul_of_nonneg_left h3 (by omega)
    rw [Int.neg_mul a b] at e1 e2
    omega
theorem ztG {k x c : Int64} (x0 : -1000000 ≤ x.toInt) (x1 : x.toInt ≤ 1000000) (k0 : 0 ≤ k.toInt) (k1 : k.toInt < 1000000000) (c0 : -1000000 ≤ c.toInt) (c1 : c.toInt ≤ 1000000) : (k * x + c).toInt = k.toInt * x.toInt + c.toInt ∧ -1000000000000000 ≤ (k * x + c).toInt ∧ (k * x + c).toInt ≤ 1000000000000000 := by
  have e1 : k.toInt * x.toInt ≤ k.toInt * 1000000 := Int.mul_le_mul_of_nonneg_left x1 k0
  have e2 : k.toInt * -1000000 ≤ k.toInt * x.toInt := Int.mul_le_mul_of_nonneg_left x0 k0
  have ew1 : (k * x).toInt = k.toInt * x.toInt := zmulJ (by omega) (by omega)
  have ew : (k * x + c).toInt = k.toInt * x.toInt + c.toInt := by rw [zaddJ (x := k * x) (y := c) (by omega) (by omega), ew1]
  rw [ew]
  omega
theorem zq1 {w : Int64} (h : 0 ≤ w.toInt) : (w / 1000000000).toInt = w.toInt / 1000000000 := by
  rw [zdivJ h (by decide)]; rfl
theorem zq2 {w : Int64} (h : w.toInt < 0) (w0 : -1000000000000000 ≤ w.toInt) : (-((999999999 - w) / 1000000000)).toInt = w.toInt / 1000000000 := by
  have e0 : (999999999 : Int64).toInt = 999999999 := rfl
  have e1 : (999999999 - w).toInt = 999999999 - w.toInt := by rw [zsubJ (x := 999999999) (y := w) (by rw [e0]; omega) (by rw [e0]; omega), e0]
  have e2 : ((999999999 - w) / 1000000000).toInt = (999999999 - w.toInt) / 1000000000 := by rw [zdivJ (by rw [e1]; omega) (by decide), e1]; rfl
  rw [Int64.toInt_neg, e2, Int.bmod_eq_of_le (by omega) (by omega)]
  omega
theorem zq3 {w qv : Int64} (w0 : -1000000000000000 ≤ w.toInt) (w1 : w.toInt ≤ 1000000000000000) (h : qv.toInt = w.toInt / 1000000000) : (w - qv * 1000000000).toInt = w.toInt % 1000000000 := by
  have e0 : (1000000000 : Int64).toInt = 1000000000 := rfl
  have e1 : (qv * 1000000000).toInt = qv.toInt * 1000000000 := by rw [zmulJ (x := qv) (y := 1000000000) (by rw [e0]; omega) (by rw [e0]; omega), e0]
  rw [zsubJ (x := w) (y := qv * 1000000000) (by omega) (by omega), e1]
  omega
theorem ztmU {P1 Pa c U k x nv qv : Int} (h : P1 + c * U = x * Pa) (hv : nv + qv * 1000000000 = k * x + c) : P1 + nv * U + qv * (1000000000 * U) = x * (Pa + k * U) := by
  have e1 : nv * U + qv * (1000000000 * U) = (k * x + c) * U := by rw [← hv, Int.add_mul, Int.mul_assoc]
  have e2 : (k * x + c) * U = x * (k * U) + c * U := by rw [Int.add_mul, Int.mul_comm k x, Int.mul_assoc]
  rw [Int.mul_add]
  omega
theorem zNo_cg {f g : Nat → Int64} {M : Int} (h : zNo f M) (e : ∀ k, k < 6 → g k = f k) : zNo g M := ⟨by rw [e 0 (by decide)]; exact h.1, by rw [e 0 (by decide)]; exact h.2.1, fun k k1 k6 => by rw [e k k6]; exact h.2.2 k k1 k6⟩
theorem zr0b {f : Nat → Int64} (h : zNo9 f) (hv : 0 ≤ qR f 6 ∧ qR f 6 ≤ 1000000000000000 * 1000000000000000000000000000000000000000000000) : -1000000000000000 ≤ (f 0).toInt ∧ (f 0).toInt ≤ 1000000000000000 := by
  have f1 := h 1 (by decide) (by decide)
  have f2 := h 2 (by decide) (by decide)
  have f3 := h 3 (by decide) (by decide)
  have f4 := h 4 (by decide) (by decide)
  have f5 := h 5 (by decide) (by decide)
  simp only [qR] at hv
  omega
theorem zTt_nn {a b : Int} (ha : 0 ≤ a) (hb : 0 < b) : ∀ j, 0 ≤ zTt a b j := by
  intro j
  induction j with
  | zero => exact Int.ediv_nonneg (Int.mul_nonneg (by omega) (by decide)) (by omega)
  | succ j ih => exact Int.ediv_nonneg (Int.mul_nonneg (Int.ediv_nonneg (Int.mul_nonneg ih ha) (by omega)) ha) (by omega)
theorem zdvle {t a b : Int} (ht : 0 ≤ t) (ha : 0 ≤ a) (hab : a < b) : t * a / b ≤ t := by
  have h1 : b * (t * a / b) ≤ t * a := Int.mul_ediv_self_le (by omega)
  exact zfall h1 ha hab ht
theorem zTt_le {a b : Int} (ha : 0 ≤ a) (hab : a < b) : ∀ j, zTt a b j ≤ 2 * 1000000000000000000000000000000000000000000000 := by
  intro j
  induction j with
  | zero =>
    show 2 * a * 1000000000000000000000000000000000000000000000 / b ≤ _
    have h1 := zdvle (t := 2 * 1000000000000000000000000000000000000000000000) (a := a) (b := b) (by decide) ha hab
    rw [show 2 * a * 1000000000000000000000000000000000000000000000 = 2 * 1000000000000000000000000000000000000000000000 * a by omega]
    exact h1
  | succ j ih =>
    have h0 := zTt_nn ha (show 0 < b by omega) j
    have h1 := zdvle h0 ha hab
    have h2 := zdvle (t := zTt a b j * a / b) (Int.ediv_nonneg (Int.mul_nonneg h0 ha) (by omega)) ha hab
    show zTt a b j * a / b * a / b ≤ _
    omega
theorem zSn_b {a b : Int} {j : Nat} (ha : 0 ≤ a) (hab : a < b) (hj : j ≤ 60) : 0 ≤ zSn a b j ∧ zSn a b j ≤ 1000000000000000 * 1000000000000000000000000000000000000000000000 := by
  have h : ∀ n, n ≤ 60 → 0 ≤ zSn a b n ∧ zSn a b n ≤ (n : Int) * (2 * 1000000000000000000000000000000000000000000000) := by
    intro n
    induction n with
    | zero => intro _; exact ⟨Int.le_refl _, Int.mul_nonneg (Int.natCast_nonneg 0) (by decide)⟩
    | succ n ih =>
      intro hn
      have h1 := ih (by omega)
      have h2 := zTt_nn ha (show 0 < b by omega) n
      have h3 := zTt_le ha hab n
      have h4 : 0 ≤ zTt a b n / (2 * (n : Int) + 1) := Int.ediv_nonneg h2 (by omega)
      have h5 : zTt a b n / (2 * (n : Int) + 1) ≤ zTt a b n := Int.ediv_le_self _ h2
      rw [zSn]
      omega
  have h1 := h j hj
  omega
theorem zrow9 {f : Nat → Int64} (h9 : zNo9 f) (h0 : -1000000000000000 ≤ (f 0).toInt ∧ (f 0).toInt ≤ 1000000000000000) {k : Nat} (hk : k < 6) : (1 ≤ k → 0 ≤ (f k).toInt ∧ (f k).toInt < 1000000000) ∧ -1000000000000000 ≤ (f k).toInt ∧ (f k).toInt ≤ 1000000000000000 := by
  refine ⟨fun h => h9 k h hk, ?_⟩
  by_cases e : k = 0
  · subst e; exact h0
  · have := h9 k (by omega) hk; omega
theorem zadd3 {x y c : Int64} (h1 : -9223372036854775808 ≤ x.toInt + y.toInt) (h2 : x.toInt + y.toInt ≤ 9223372036854775807) (h3 : -9223372036854775808 ≤ x.toInt + y.toInt + c.toInt) (h4 : x.toInt + y.toInt + c.toInt ≤ 9223372036854775807) : (x + y + c).toInt = x.toInt + y.toInt + c.toInt := by
  have e := zaddJ (x := x) (y := y) h1 h2
  rw [zaddJ (x := x + y) (y := c) (by omega) (by omega), e]
theorem zsub3 {x y c : Int64} (h1 : -9223372036854775808 ≤ x.toInt - y.toInt) (h2 : x.toInt - y.toInt ≤ 9223372036854775807) (h3 : -9223372036854775808 ≤ x.toInt - y.toInt - c.toInt) (h4 : x.toInt - y.toInt - c.toInt ≤ 9223372036854775807) : (x - y - c).toInt = x.toInt - y.toInt - c.toInt := by
  have e := zsubJ (x := x) (y := y) h1 h2
  rw [zsubJ (x := x - y) (y := c) (by omega) (by omega), e]
def zTwoI : Int := 693147180559945309417232121458176568075500113
theorem zd10 {d : Nat} {x : Int} (h : (2 : Int) ^ d ≤ x) (hx : x ≤ 1000) : d ≤ 10 := by
  refine Nat.le_of_not_lt fun q => ?_
  have h1 : 2 ^ 10 ≤ 2 ^ d := Nat.pow_le_pow_right (by decide) (by omega)
  have h2 : (2 : Int) ^ d = ((2 ^ d : Nat) : Int) := by rw [Int.natCast_pow]; rfl
  rw [h2] at h
  omega
theorem zSn_b2 {a b : Int} (ha : 0 ≤ a) (hab : a < b) : 0 ≤ zSn a b 60 ∧ zSn a b 60 ≤ 120 * 1000000000000000000000000000000000000000000000 := by
  have h : ∀ n, n ≤ 60 → 0 ≤ zSn a b n ∧ zSn a b n ≤ (n : Int) * (2 * 1000000000000000000000000000000000000000000000) := by
    intro n
    induction n with
    | zero => intro _; exact ⟨Int.le_refl _, Int.mul_nonneg (Int.natCast_nonneg 0) (by decide)⟩
    | succ n ih =>
      intro hn
      have h1 := ih (by omega)
      have h2 := zTt_nn ha (show 0 < b by omega) n
      have h3 := zTt_le ha hab n
      have h4 : 0 ≤ zTt a b n / (2 * (n : Int) + 1) := Int.ediv_nonneg h2 (by omega)
      have h5 : zTt a b n / (2 * (n : Int) + 1) ≤ zTt a b n := Int.ediv_le_self _ h2
      rw [zSn]
      omega
  have h1 := h 60 (by omega)
  omega
theorem zlgb {sm : Int} {j d : Nat} (hd : d ≤ 10) (hj : j ≤ d) (hsb : 0 ≤ sm ∧ sm ≤ 120 * 1000000000000000000000000000000000000000000000) : 0 ≤ sm + (j : Int) * zTwoI ∧ sm + (j : Int) * zTwoI ≤ 1000000000000000 * 1000000000000000000000000000000000000000000000 := by
  unfold zTwoI
  omega
/-- the logarithm that the model finds of x -/
def zLgR (x X : Int) : Prop := ∃ d : Nat, d ≤ 10 ∧ (2 : Int) ^ d ≤ x ∧ x < 2 * (2 : Int) ^ d ∧ X = zSn (x - 2 ^ d) (x + 2 ^ d) 60 + (d : Int) * zTwoI
def zTenI : Int := 2302585092994045684017991454684364207601101412
theorem zF2_9 : zNo9 (zFz 2) := fun k h1 h6 => by
  rcases (show k = 1 ∨ k = 2 ∨ k = 3 ∨ k = 4 ∨ k = 5 by omega) with rfl | rfl | rfl | rfl | rfl <;> exact ⟨by decide, by decide⟩
theorem zF3_9 : zNo9 (zFz 3) := fun k h1 h6 => by
  rcases (show k = 1 ∨ k = 2 ∨ k = 3 ∨ k = 4 ∨ k = 5 by omega) with rfl | rfl | rfl | rfl | rfl <;> exact ⟨by decide, by decide⟩
theorem zF2_v : qR (zFz 2) 6 = zTwoI := by decide +kernel
theorem zF3_v : qR (zFz 3) 6 = zTenI := by decide +kernel
theorem zLgR_b {x X : Int} (h : zLgR x X) (hx : 0 ≤ x) : 0 ≤ X ∧ X ≤ 1000000000000000 * 1000000000000000000000000000000000000000000000 := by
  obtain ⟨d, h1, h2, h3, rfl⟩ := h
  have h4 : (0 : Int) < (2 : Int) ^ d := Int.pow_pos (by decide)
  exact zlgb h1 (Nat.le_refl d) (zSn_b2 (by omega) (by omega))
theorem zr0s {f : Nat → Int64} (h : zNo9 f) (hv : 0 ≤ qR f 6 ∧ qR f 6 ≤ 3 * 1000000000000000000000000000000000000000000000) : -2000000 ≤ (f 0).toInt ∧ (f 0).toInt ≤ 2000000 := by
  have f1 := h 1 (by decide) (by decide)
  have f2 := h 2 (by decide) (by decide)
  have f3 := h 3 (by decide) (by decide)
  have f4 := h 4 (by decide) (by decide)
  have f5 := h 5 (by decide) (by decide)
  simp only [qR] at hv
  omega

set_option maxHeartbeats 4000000 in
set_option maxRecDepth 100000 in
theorem e_X12_adds (l : Launch) (G : zG) (z : Nat) (τ : Nat → Option (Nat × Nat)) (ρ : Nat → Nat → Option Nat) (ι : Nat → Nat → Int32) (κ : Nat → Nat → Int64) {a : Nat} (ha : τ a = some (14, 6)) {b : Nat} (hb : τ b = some (14, 6)) (dab : a ≠ b) (ha9 : zNo9 (κ a)) (hb9 : zNo9 (κ b)) (ha0 : -1000000000000000 ≤ (κ a 0).toInt ∧ (κ a 0).toInt ≤ 1000000000000000) (hb0 : -1000000000000000 ≤ (κ b 0).toInt ∧ (κ b 0).toInt ≤ 1000000000000000) : zM l G yX12_adds cX12_adds 7 none ({ frames := 0, cells := 0, slots := 0, locals := 0 } : Room) [.ref a, .ref b] (z, τ, ρ, ι, κ) (fun v s => v = none ∧ ∃ κ2, s = (z, τ, ρ, ι, κ2) ∧ (∀ q, q ≠ a → κ2 q = κ q) ∧ zNo9 (κ2 a) ∧ qR (κ2 a) 6 = qR (κ a) 6 + qR (κ b) 6) 0 0 := by
  refine zM_of zCd_X12_adds (Nat.le_of_ble_eq_true rfl) ?_
  intro E X hR hE
  subst hE
  show zW E G 7 (z, τ, ρ, ι, κ) 0 0 0 [(0, .ref a), (1, .ref b)] []
  have L5 : ∀ (m : Nat) (i : Int32) (c : Int64) (κ1 : Nat → Nat → Int64), (i.toInt + 1).toNat < m → -1 ≤ i.toInt → i.toInt ≤ 5 → (∀ q, q ≠ a → κ1 q = κ q) → (∀ k : Nat, (k : Int) ≤ i.toInt → κ1 a k = κ a k) → (∀ k : Nat, i.toInt < k → 1 ≤ k → k < 6 → 0 ≤ (κ1 a k).toInt ∧ (κ1 a k).toInt < 1000000000) → 0 ≤ c.toInt → c.toInt ≤ 1 → (i.toInt = -1 → c.toInt = 0) → qP (κ1 a) (5 - i.toInt).toNat + c.toInt * qU (5 - i.toInt).toNat = qP (κ a) (5 - i.toInt).toNat + qP (κ b) (5 - i.toInt).toNat → zW E G 7 (z, τ, ρ, ι, κ1) 0 0 5 [(0, .ref a), (1, .ref b), (2, .long c), (4, .int i)] [] := by
    intro m
    induction m with
    | zero => intro i c κ1 h; omega
    | succ m ih => ?_
    intro i c κ1 hm h0 h5 hf hs hbk c0 c1 hcm hP
    refine r_iload X (by rfl) dX12_adds_5 ?_
    refine r_if_lt X 61 dX12_adds_7 (by decide) (fun h7 => ?_) (fun h7 => ?_)
    · refine r_return X hR dX12_adds_61 (Nat.zero_le _) (Nat.zero_le _) ?_
      have hi1 : i.toInt = -1 := by omega
      rw [hcm hi1, hi1, show (5 - (-1 : Int)).toNat = 6 from rfl, qR_P6, qR_P6, qR_P6] at hP
      exact ⟨rfl, _, rfl, hf, fun k k1 k6 => hbk k (by omega) k1 k6, by omega⟩
    · have hic := zclN (i := i) (by omega)
      have hsi := hs i.toNatClampNeg (by omega)
      have hai : (1 ≤ i.toNatClampNeg → 0 ≤ (κ a i.toNatClampNeg).toInt ∧ (κ a i.toNatClampNeg).toInt < 1000000000) ∧ -1000000000000000 ≤ (κ a i.toNatClampNeg).toInt ∧ (κ a i.toNatClampNeg).toInt ≤ 1000000000000000 := zrow9 ha9 ha0 (by omega)
      have hbi : (1 ≤ i.toNatClampNeg → 0 ≤ (κ b i.toNatClampNeg).toInt ∧ (κ b i.toNatClampNeg).toInt < 1000000000) ∧ -1000000000000000 ≤ (κ b i.toNatClampNeg).toInt ∧ (κ b i.toNatClampNeg).toInt ≤ 1000000000000000 := zrow9 hb9 hb0 (by omega)
      have hbq : κ1 b i.toNatClampNeg = κ b i.toNatClampNeg := by rw [hf b (Ne.symm dab)]
      have hvv : (κ1 a i.toNatClampNeg + κ1 b i.toNatClampNeg + c).toInt = (κ a i.toNatClampNeg).toInt + (κ b i.toNatClampNeg).toInt + c.toInt := by rw [hsi, hbq]; exact zadd3 (by omega) (by omega) (by omega) (by omega)
      obtain ⟨j, hj, e2⟩ : ∃ j, i + -1 = j ∧ j.toInt = i.toInt + -1 := ⟨_, rfl, zadd_c (x := i) (-1) (-1) rfl (by omega) (by omega)⟩
      refine r_aload_n X (by rfl) dX12_adds_10 ?_
      refine r_iload X (by rfl) dX12_adds_11 ?_
      refine r_laload X dX12_adds_13 ha (vp_in_iff.mpr ⟨by omega, by omega⟩) ?_
      refine r_aload_n X (by rfl) dX12_adds_14 ?_
      refine r_iload X (by rfl) dX12_adds_15 ?_
      refine r_laload X dX12_adds_17 hb (vp_in_iff.mpr ⟨by omega, by omega⟩) ?_
      refine r_ladd X dX12_adds_18 ?_
      refine r_lload_n X (by rfl) dX12_adds_19 ?_
      refine r_ladd X dX12_adds_20 ?_
      refine r_lstore X (by decide) dX12_adds_21 ?_
      refine r_lconst X 0 (by decide) dX12_adds_23 ?_
      refine r_lstore_n X (by decide) dX12_adds_24 ?_
      refine r_iload X (by rfl) dX12_adds_25 ?_
      refine r_if_le X 49 dX12_adds_27 (by decide) (fun h27 => ?_) (fun h27 => ?_)
      · obtain ⟨nv, hnv, env⟩ : ∃ nv, κ1 a i.toNatClampNeg + κ1 b i.toNatClampNeg + c = nv ∧ nv.toInt = (κ a i.toNatClampNeg).toInt + (κ b i.toNatClampNeg).toInt + c.toInt := ⟨_, rfl, hvv⟩
        rw [hnv]
        have hstep := zaddU (c2 := 0) (v := nv.toInt) hP (Or.inl ⟨rfl, env⟩)
        have hnb : 1 ≤ i.toNatClampNeg → 0 ≤ nv.toInt ∧ nv.toInt < 1000000000 := fun _ => by omega
        refine r_aload_n X (by rfl) dX12_adds_49 ?_
        refine r_iload X (by rfl) dX12_adds_50 ?_
        refine r_lload X (by rfl) dX12_adds_52 ?_
        refine r_lastore X dX12_adds_54 ha (vp_in_iff.mpr ⟨by omega, by omega⟩) ?_
        refine r_iinc X (-1) (by decide) (by rfl) (by decide) dX12_adds_55 ?_
        refine r_goto X 5 dX12_adds_58 (by decide) ?_
        exact zW.loc4 (by rfl) (by rfl) (by rfl) (by rfl) (ih _ _ _ (by rw [hj, e2]; omega) (by rw [hj, e2]; omega) (by rw [hj, e2]; omega) (fun q hq => by rw [zu_r hq]; exact hf q hq) (fun k hk => by rw [hj, e2] at hk; rw [zu_k (show k ≠ i.toNatClampNeg by omega)]; exact hs k (by omega)) (fun k hk k1 h6 => by
          rw [hj, e2] at hk
          by_cases q : k = i.toNatClampNeg
          · subst q; rw [zu_s]; exact hnb k1
          · rw [zu_k q]; exact hbk k (by omega) k1 h6) (by decide) (by decide) (fun q => by first | rfl | (rw [hj, e2] at q; omega)) (by rw [hj, e2, show (5 - (i.toInt + -1)).toNat = (5 - i.toInt).toNat + 1 by omega, qP, qP, qP, qU, show 5 - (5 - i.toInt).toNat = i.toNatClampNeg by omega, zu_s, qP_congr (g := κ1 a) (by omega) (fun k h1 h2 => zu_k (show k ≠ i.toNatClampNeg by omega))]; exact hstep))
      · refine r_lload X (by rfl) dX12_adds_30 ?_
        refine r_ldc2 X zK_X12_103 dX12_adds_32 ?_
        refine r_lcmp_lt X 49 dX12_adds_35 dX12_adds_36 (by decide) (fun h35 => ?_) (fun h35 => ?_)
        · rw [show Int64.toInt 1000000000 = 1000000000 from rfl] at h35
          obtain ⟨nv, hnv, env⟩ : ∃ nv, κ1 a i.toNatClampNeg + κ1 b i.toNatClampNeg + c = nv ∧ nv.toInt = (κ a i.toNatClampNeg).toInt + (κ b i.toNatClampNeg).toInt + c.toInt := ⟨_, rfl, hvv⟩
          rw [hnv]
          have hstep := zaddU (c2 := 0) (v := nv.toInt) hP (Or.inl ⟨rfl, env⟩)
          have hnb : 1 ≤ i.toNatClampNeg → 0 ≤ nv.toInt ∧ nv.toInt < 1000000000 := fun _ => by omega
          refine r_aload_n X (by rfl) dX12_adds_49 ?_
          refine r_iload X (by rfl) dX12_adds_50 ?_
          refine r_lload X (by rfl) dX12_adds_52 ?_
          refine r_lastore X dX12_adds_54 ha (vp_in_iff.mpr ⟨by omega, by omega⟩) ?_
          refine r_iinc X (-1) (by decide) (by rfl) (by decide) dX12_adds_55 ?_
          refine r_goto X 5 dX12_adds_58 (by decide) ?_
          exact zW.loc4 (by rfl) (by rfl) (by rfl) (by rfl) (ih _ _ _ (by rw [hj, e2]; omega) (by rw [hj, e2]; omega) (by rw [hj, e2]; omega) (fun q hq => by rw [zu_r hq]; exact hf q hq) (fun k hk => by rw [hj, e2] at hk; rw [zu_k (show k ≠ i.toNatClampNeg by omega)]; exact hs k (by omega)) (fun k hk k1 h6 => by
            rw [hj, e2] at hk
            by_cases q : k = i.toNatClampNeg
            · subst q; rw [zu_s]; exact hnb k1
            · rw [zu_k q]; exact hbk k (by omega) k1 h6) (by decide) (by decide) (fun q => by first | rfl | (rw [hj, e2] at q; omega)) (by rw [hj, e2, show (5 - (i.toInt + -1)).toNat = (5 - i.toInt).toNat + 1 by omega, qP, qP, qP, qU, show 5 - (5 - i.toInt).toNat = i.toNatClampNeg by omega, zu_s, qP_congr (g := κ1 a) (by omega) (fun k h1 h2 => zu_k (show k ≠ i.toNatClampNeg by omega))]; exact hstep))
        · rw [show Int64.toInt 1000000000 = 1000000000 from rfl] at h35
          refine r_lload X (by rfl) dX12_adds_39 ?_
          refine r_ldc2 X zK_X12_103 dX12_adds_41 ?_
          refine r_lsub X dX12_adds_44 ?_
          refine r_lstore X (by decide) dX12_adds_45 ?_
          refine r_lconst X 1 (by decide) dX12_adds_47 ?_
          refine r_lstore_n X (by decide) dX12_adds_48 ?_
          obtain ⟨nv, hnv, env⟩ : ∃ nv, κ1 a i.toNatClampNeg + κ1 b i.toNatClampNeg + c - 1000000000 = nv ∧ nv.toInt = (κ a i.toNatClampNeg).toInt + (κ b i.toNatClampNeg).toInt + c.toInt - 1000000000 := ⟨_, rfl, by rw [zsubJ (by rw [hvv, show (1000000000 : Int64).toInt = 1000000000 from rfl]; omega) (by rw [hvv, show (1000000000 : Int64).toInt = 1000000000 from rfl]; omega), hvv, show (1000000000 : Int64).toInt = 1000000000 from rfl]⟩
          rw [hnv]
          have hstep := zaddU (c2 := 1) (v := nv.toInt) hP (Or.inr ⟨rfl, env⟩)
          have hnb : 1 ≤ i.toNatClampNeg → 0 ≤ nv.toInt ∧ nv.toInt < 1000000000 := fun _ => by omega
          refine r_aload_n X (by rfl) dX12_adds_49 ?_
          refine r_iload X (by rfl) dX12_adds_50 ?_
          refine r_lload X (by rfl) dX12_adds_52 ?_
          refine r_lastore X dX12_adds_54 ha (vp_in_iff.mpr ⟨by omega, by omega⟩) ?_
          refine r_iinc X (-1) (by decide) (by rfl) (by decide) dX12_adds_55 ?_
          refine r_goto X 5 dX12_adds_58 (by decide) ?_
          exact zW.loc4 (by rfl) (by rfl) (by rfl) (by rfl) (ih _ _ _ (by rw [hj, e2]; omega) (by rw [hj, e2]; omega) (by rw [hj, e2]; omega) (fun q hq => by rw [zu_r hq]; exact hf q hq) (fun k hk => by rw [hj, e2] at hk; rw [zu_k (show k ≠ i.toNatClampNeg by omega)]; exact hs k (by omega)) (fun k hk k1 h6 => by
            rw [hj, e2] at hk
            by_cases q : k = i.toNatClampNeg
            · subst q; rw [zu_s]; exact hnb k1
            · rw [zu_k q]; exact hbk k (by omega) k1 h6) (by decide) (by decide) (fun q => by first | rfl | (rw [hj, e2] at q; omega)) (by rw [hj, e2, show (5 - (i.toInt + -1)).toNat = (5 - i.toInt).toNat + 1 by omega, qP, qP, qP, qU, show 5 - (5 - i.toInt).toNat = i.toNatClampNeg by omega, zu_s, qP_congr (g := κ1 a) (by omega) (fun k h1 h2 => zu_k (show k ≠ i.toNatClampNeg by omega))]; exact hstep))
  refine r_lconst X 0 (by decide) dX12_adds_0 ?_
  refine r_lstore_n X (by decide) dX12_adds_1 ?_
  refine r_iconst X 5 (by decide) dX12_adds_2 ?_
  refine r_istore X (by decide) dX12_adds_3 ?_
  exact zW.loc4 (by rfl) (by rfl) (by rfl) (by rfl) (L5 7 _ _ _ (by decide) (by decide) (by decide) (fun _ _ => rfl) (fun _ _ => rfl) (fun k hk _ h6 => by rw [show Int32.toInt 5 = 5 from rfl] at hk; omega) (by decide) (by decide) (fun q => by rfl) (by rw [show (5 - Int32.toInt 5).toNat = 0 from rfl]; simp only [qP]; rw [show Int64.toInt 0 = 0 from rfl]; omega))
set_option maxHeartbeats 4000000 in
set_option maxRecDepth 100000 in
theorem e_X12_takes (l : Launch) (G : zG) (z : Nat) (τ : Nat → Option (Nat × Nat)) (ρ : Nat → Nat → Option Nat) (ι : Nat → Nat → Int32) (κ : Nat → Nat → Int64) {a : Nat} (ha : τ a = some (14, 6)) {b : Nat} (hb : τ b = some (14, 6)) (dab : a ≠ b) (ha9 : zNo9 (κ a)) (hb9 : zNo9 (κ b)) (ha0 : -1000000000000000 ≤ (κ a 0).toInt ∧ (κ a 0).toInt ≤ 1000000000000000) (hb0 : -1000000000000000 ≤ (κ b 0).toInt ∧ (κ b 0).toInt ≤ 1000000000000000) : zM l G yX12_takes cX12_takes 7 none ({ frames := 0, cells := 0, slots := 0, locals := 0 } : Room) [.ref a, .ref b] (z, τ, ρ, ι, κ) (fun v s => v = none ∧ ∃ κ2, s = (z, τ, ρ, ι, κ2) ∧ (∀ q, q ≠ a → κ2 q = κ q) ∧ zNo9 (κ2 a) ∧ qR (κ2 a) 6 = qR (κ a) 6 - qR (κ b) 6) 0 0 := by
  refine zM_of zCd_X12_takes (Nat.le_of_ble_eq_true rfl) ?_
  intro E X hR hE
  subst hE
  show zW E G 7 (z, τ, ρ, ι, κ) 0 0 0 [(0, .ref a), (1, .ref b)] []
  have L5 : ∀ (m : Nat) (i : Int32) (c : Int64) (κ1 : Nat → Nat → Int64), (i.toInt + 1).toNat < m → -1 ≤ i.toInt → i.toInt ≤ 5 → (∀ q, q ≠ a → κ1 q = κ q) → (∀ k : Nat, (k : Int) ≤ i.toInt → κ1 a k = κ a k) → (∀ k : Nat, i.toInt < k → 1 ≤ k → k < 6 → 0 ≤ (κ1 a k).toInt ∧ (κ1 a k).toInt < 1000000000) → 0 ≤ c.toInt → c.toInt ≤ 1 → (i.toInt = -1 → c.toInt = 0) → qP (κ1 a) (5 - i.toInt).toNat - c.toInt * qU (5 - i.toInt).toNat = qP (κ a) (5 - i.toInt).toNat - qP (κ b) (5 - i.toInt).toNat → zW E G 7 (z, τ, ρ, ι, κ1) 0 0 5 [(0, .ref a), (1, .ref b), (2, .long c), (4, .int i)] [] := by
    intro m
    induction m with
    | zero => intro i c κ1 h; omega
    | succ m ih => ?_
    intro i c κ1 hm h0 h5 hf hs hbk c0 c1 hcm hP
    refine r_iload X (by rfl) dX12_takes_5 ?_
    refine r_if_lt X 59 dX12_takes_7 (by decide) (fun h7 => ?_) (fun h7 => ?_)
    · refine r_return X hR dX12_takes_59 (Nat.zero_le _) (Nat.zero_le _) ?_
      have hi1 : i.toInt = -1 := by omega
      rw [hcm hi1, hi1, show (5 - (-1 : Int)).toNat = 6 from rfl, qR_P6, qR_P6, qR_P6] at hP
      exact ⟨rfl, _, rfl, hf, fun k k1 k6 => hbk k (by omega) k1 k6, by omega⟩
    · have hic := zclN (i := i) (by omega)
      have hsi := hs i.toNatClampNeg (by omega)
      have hai : (1 ≤ i.toNatClampNeg → 0 ≤ (κ a i.toNatClampNeg).toInt ∧ (κ a i.toNatClampNeg).toInt < 1000000000) ∧ -1000000000000000 ≤ (κ a i.toNatClampNeg).toInt ∧ (κ a i.toNatClampNeg).toInt ≤ 1000000000000000 := zrow9 ha9 ha0 (by omega)
      have hbi : (1 ≤ i.toNatClampNeg → 0 ≤ (κ b i.toNatClampNeg).toInt ∧ (κ b i.toNatClampNeg).toInt < 1000000000) ∧ -1000000000000000 ≤ (κ b i.toNatClampNeg).toInt ∧ (κ b i.toNatClampNeg).toInt ≤ 1000000000000000 := zrow9 hb9 hb0 (by omega)
      have hbq : κ1 b i.toNatClampNeg = κ b i.toNatClampNeg := by rw [hf b (Ne.symm dab)]
      have hvv : (κ1 a i.toNatClampNeg - κ1 b i.toNatClampNeg - c).toInt = (κ a i.toNatClampNeg).toInt - (κ b i.toNatClampNeg).toInt - c.toInt := by rw [hsi, hbq]; exact zsub3 (by omega) (by omega) (by omega) (by omega)
      obtain ⟨j, hj, e2⟩ : ∃ j, i + -1 = j ∧ j.toInt = i.toInt + -1 := ⟨_, rfl, zadd_c (x := i) (-1) (-1) rfl (by omega) (by omega)⟩
      refine r_aload_n X (by rfl) dX12_takes_10 ?_
      refine r_iload X (by rfl) dX12_takes_11 ?_
      refine r_laload X dX12_takes_13 ha (vp_in_iff.mpr ⟨by omega, by omega⟩) ?_
      refine r_aload_n X (by rfl) dX12_takes_14 ?_
      refine r_iload X (by rfl) dX12_takes_15 ?_
      refine r_laload X dX12_takes_17 hb (vp_in_iff.mpr ⟨by omega, by omega⟩) ?_
      refine r_lsub X dX12_takes_18 ?_
      refine r_lload_n X (by rfl) dX12_takes_19 ?_
      refine r_lsub X dX12_takes_20 ?_
      refine r_lstore X (by decide) dX12_takes_21 ?_
      refine r_lconst X 0 (by decide) dX12_takes_23 ?_
      refine r_lstore_n X (by decide) dX12_takes_24 ?_
      refine r_iload X (by rfl) dX12_takes_25 ?_
      refine r_if_le X 47 dX12_takes_27 (by decide) (fun h27 => ?_) (fun h27 => ?_)
      · obtain ⟨nv, hnv, env⟩ : ∃ nv, κ1 a i.toNatClampNeg - κ1 b i.toNatClampNeg - c = nv ∧ nv.toInt = (κ a i.toNatClampNeg).toInt - (κ b i.toNatClampNeg).toInt - c.toInt := ⟨_, rfl, hvv⟩
        rw [hnv]
        have hstep := zsubU (c2 := 0) (v := nv.toInt) hP (Or.inl ⟨rfl, env⟩)
        have hnb : 1 ≤ i.toNatClampNeg → 0 ≤ nv.toInt ∧ nv.toInt < 1000000000 := fun _ => by omega
        refine r_aload_n X (by rfl) dX12_takes_47 ?_
        refine r_iload X (by rfl) dX12_takes_48 ?_
        refine r_lload X (by rfl) dX12_takes_50 ?_
        refine r_lastore X dX12_takes_52 ha (vp_in_iff.mpr ⟨by omega, by omega⟩) ?_
        refine r_iinc X (-1) (by decide) (by rfl) (by decide) dX12_takes_53 ?_
        refine r_goto X 5 dX12_takes_56 (by decide) ?_
        exact zW.loc4 (by rfl) (by rfl) (by rfl) (by rfl) (ih _ _ _ (by rw [hj, e2]; omega) (by rw [hj, e2]; omega) (by rw [hj, e2]; omega) (fun q hq => by rw [zu_r hq]; exact hf q hq) (fun k hk => by rw [hj, e2] at hk; rw [zu_k (show k ≠ i.toNatClampNeg by omega)]; exact hs k (by omega)) (fun k hk k1 h6 => by
          rw [hj, e2] at hk
          by_cases q : k = i.toNatClampNeg
          · subst q; rw [zu_s]; exact hnb k1
          · rw [zu_k q]; exact hbk k (by omega) k1 h6) (by decide) (by decide) (fun q => by first | rfl | (rw [hj, e2] at q; omega)) (by rw [hj, e2, show (5 - (i.toInt + -1)).toNat = (5 - i.toInt).toNat + 1 by omega, qP, qP, qP, qU, show 5 - (5 - i.toInt).toNat = i.toNatClampNeg by omega, zu_s, qP_congr (g := κ1 a) (by omega) (fun k h1 h2 => zu_k (show k ≠ i.toNatClampNeg by omega))]; exact hstep))
      · refine r_lload X (by rfl) dX12_takes_30 ?_
        refine r_lconst X 0 (by decide) dX12_takes_32 ?_
        refine r_lcmp_ge X 47 dX12_takes_33 dX12_takes_34 (by decide) (fun h33 => ?_) (fun h33 => ?_)
        · rw [show Int64.toInt 0 = 0 from rfl] at h33
          obtain ⟨nv, hnv, env⟩ : ∃ nv, κ1 a i.toNatClampNeg - κ1 b i.toNatClampNeg - c = nv ∧ nv.toInt = (κ a i.toNatClampNeg).toInt - (κ b i.toNatClampNeg).toInt - c.toInt := ⟨_, rfl, hvv⟩
          rw [hnv]
          have hstep := zsubU (c2 := 0) (v := nv.toInt) hP (Or.inl ⟨rfl, env⟩)
          have hnb : 1 ≤ i.toNatClampNeg → 0 ≤ nv.toInt ∧ nv.toInt < 1000000000 := fun _ => by omega
          refine r_aload_n X (by rfl) dX12_takes_47 ?_
          refine r_iload X (by rfl) dX12_takes_48 ?_
          refine r_lload X (by rfl) dX12_takes_50 ?_
          refine r_lastore X dX12_takes_52 ha (vp_in_iff.mpr ⟨by omega, by omega⟩) ?_
          refine r_iinc X (-1) (by decide) (by rfl) (by decide) dX12_takes_53 ?_
          refine r_goto X 5 dX12_takes_56 (by decide) ?_
          exact zW.loc4 (by rfl) (by rfl) (by rfl) (by rfl) (ih _ _ _ (by rw [hj, e2]; omega) (by rw [hj, e2]; omega) (by rw [hj, e2]; omega) (fun q hq => by rw [zu_r hq]; exact hf q hq) (fun k hk => by rw [hj, e2] at hk; rw [zu_k (show k ≠ i.toNatClampNeg by omega)]; exact hs k (by omega)) (fun k hk k1 h6 => by
            rw [hj, e2] at hk
            by_cases q : k = i.toNatClampNeg
            · subst q; rw [zu_s]; exact hnb k1
            · rw [zu_k q]; exact hbk k (by omega) k1 h6) (by decide) (by decide) (fun q => by first | rfl | (rw [hj, e2] at q; omega)) (by rw [hj, e2, show (5 - (i.toInt + -1)).toNat = (5 - i.toInt).toNat + 1 by omega, qP, qP, qP, qU, show 5 - (5 - i.toInt).toNat = i.toNatClampNeg by omega, zu_s, qP_congr (g := κ1 a) (by omega) (fun k h1 h2 => zu_k (show k ≠ i.toNatClampNeg by omega))]; exact hstep))
        · rw [show Int64.toInt 0 = 0 from rfl] at h33
          refine r_lload X (by rfl) dX12_takes_37 ?_
          refine r_ldc2 X zK_X12_103 dX12_takes_39 ?_
          refine r_ladd X dX12_takes_42 ?_
          refine r_lstore X (by decide) dX12_takes_43 ?_
          refine r_lconst X 1 (by decide) dX12_takes_45 ?_
          refine r_lstore_n X (by decide) dX12_takes_46 ?_
          obtain ⟨nv, hnv, env⟩ : ∃ nv, κ1 a i.toNatClampNeg - κ1 b i.toNatClampNeg - c + 1000000000 = nv ∧ nv.toInt = (κ a i.toNatClampNeg).toInt - (κ b i.toNatClampNeg).toInt - c.toInt + 1000000000 := ⟨_, rfl, by rw [zaddJ (by rw [hvv, show (1000000000 : Int64).toInt = 1000000000 from rfl]; omega) (by rw [hvv, show (1000000000 : Int64).toInt = 1000000000 from rfl]; omega), hvv, show (1000000000 : Int64).toInt = 1000000000 from rfl]⟩
          rw [hnv]
          have hstep := zsubU (c2 := 1) (v := nv.toInt) hP (Or.inr ⟨rfl, env⟩)
          have hnb : 1 ≤ i.toNatClampNeg → 0 ≤ nv.toInt ∧ nv.toInt < 1000000000 := fun _ => by omega
          refine r_aload_n X (by rfl) dX12_takes_47 ?_
          refine r_iload X (by rfl) dX12_takes_48 ?_
          refine r_lload X (by rfl) dX12_takes_50 ?_
          refine r_lastore X dX12_takes_52 ha (vp_in_iff.mpr ⟨by omega, by omega⟩) ?_
          refine r_iinc X (-1) (by decide) (by rfl) (by decide) dX12_takes_53 ?_
          refine r_goto X 5 dX12_takes_56 (by decide) ?_
          exact zW.loc4 (by rfl) (by rfl) (by rfl) (by rfl) (ih _ _ _ (by rw [hj, e2]; omega) (by rw [hj, e2]; omega) (by rw [hj, e2]; omega) (fun q hq => by rw [zu_r hq]; exact hf q hq) (fun k hk => by rw [hj, e2] at hk; rw [zu_k (show k ≠ i.toNatClampNeg by omega)]; exact hs k (by omega)) (fun k hk k1 h6 => by
            rw [hj, e2] at hk
            by_cases q : k = i.toNatClampNeg
            · subst q; rw [zu_s]; exact hnb k1
            · rw [zu_k q]; exact hbk k (by omega) k1 h6) (by decide) (by decide) (fun q => by first | rfl | (rw [hj, e2] at q; omega)) (by rw [hj, e2, show (5 - (i.toInt + -1)).toNat = (5 - i.toInt).toNat + 1 by omega, qP, qP, qP, qU, show 5 - (5 - i.toInt).toNat = i.toNatClampNeg by omega, zu_s, qP_congr (g := κ1 a) (by omega) (fun k h1 h2 => zu_k (show k ≠ i.toNatClampNeg by omega))]; exact hstep))
  refine r_lconst X 0 (by decide) dX12_takes_0 ?_
  refine r_lstore_n X (by decide) dX12_takes_1 ?_
  refine r_iconst X 5 (by decide) dX12_takes_2 ?_
  refine r_istore X (by decide) dX12_takes_3 ?_
  exact zW.loc4 (by rfl) (by rfl) (by rfl) (by rfl) (L5 7 _ _ _ (by decide) (by decide) (by decide) (fun _ _ => rfl) (fun _ _ => rfl) (fun k hk _ h6 => by rw [show Int32.toInt 5 = 5 from rfl] at hk; omega) (by decide) (by decide) (fun q => by rfl) (by rw [show (5 - Int32.toInt 5).toNat = 0 from rfl]; simp only [qP]; rw [show Int64.toInt 0 = 0 from rfl]; omega))
set_option maxHeartbeats 4000000 in
set_option maxRecDepth 100000 in
theorem e_X12_addsF (l : Launch) (G : zG) (z : Nat) (τ : Nat → Option (Nat × Nat)) (ρ : Nat → Nat → Option Nat) (ι : Nat → Nat → Int32) (κ : Nat → Nat → Int64) {a : Nat} (ha : τ a = some (14, 6)) {b : Nat} (hb : τ b = some (1002, 6)) (ha9 : zNo9 (κ a)) (hb9 : zNo9 (zFz 2)) (ha0 : -1000000000000000 ≤ (κ a 0).toInt ∧ (κ a 0).toInt ≤ 1000000000000000) (hb0 : -1000000000000000 ≤ (zFz 2 0).toInt ∧ (zFz 2 0).toInt ≤ 1000000000000000) : zM l G yX12_adds cX12_adds 7 none ({ frames := 0, cells := 0, slots := 0, locals := 0 } : Room) [.ref a, .ref b] (z, τ, ρ, ι, κ) (fun v s => v = none ∧ ∃ κ2, s = (z, τ, ρ, ι, κ2) ∧ (∀ q, q ≠ a → κ2 q = κ q) ∧ zNo9 (κ2 a) ∧ qR (κ2 a) 6 = qR (κ a) 6 + qR (zFz 2) 6) 0 0 := by
  refine zM_of zCd_X12_adds (Nat.le_of_ble_eq_true rfl) ?_
  intro E X hR hE
  subst hE
  show zW E G 7 (z, τ, ρ, ι, κ) 0 0 0 [(0, .ref a), (1, .ref b)] []
  have L5 : ∀ (m : Nat) (i : Int32) (c : Int64) (κ1 : Nat → Nat → Int64), (i.toInt + 1).toNat < m → -1 ≤ i.toInt → i.toInt ≤ 5 → (∀ q, q ≠ a → κ1 q = κ q) → (∀ k : Nat, (k : Int) ≤ i.toInt → κ1 a k = κ a k) → (∀ k : Nat, i.toInt < k → 1 ≤ k → k < 6 → 0 ≤ (κ1 a k).toInt ∧ (κ1 a k).toInt < 1000000000) → 0 ≤ c.toInt → c.toInt ≤ 1 → (i.toInt = -1 → c.toInt = 0) → qP (κ1 a) (5 - i.toInt).toNat + c.toInt * qU (5 - i.toInt).toNat = qP (κ a) (5 - i.toInt).toNat + qP (zFz 2) (5 - i.toInt).toNat → zW E G 7 (z, τ, ρ, ι, κ1) 0 0 5 [(0, .ref a), (1, .ref b), (2, .long c), (4, .int i)] [] := by
    intro m
    induction m with
    | zero => intro i c κ1 h; omega
    | succ m ih => ?_
    intro i c κ1 hm h0 h5 hf hs hbk c0 c1 hcm hP
    refine r_iload X (by rfl) dX12_adds_5 ?_
    refine r_if_lt X 61 dX12_adds_7 (by decide) (fun h7 => ?_) (fun h7 => ?_)
    · refine r_return X hR dX12_adds_61 (Nat.zero_le _) (Nat.zero_le _) ?_
      have hi1 : i.toInt = -1 := by omega
      rw [hcm hi1, hi1, show (5 - (-1 : Int)).toNat = 6 from rfl, qR_P6, qR_P6, qR_P6] at hP
      exact ⟨rfl, _, rfl, hf, fun k k1 k6 => hbk k (by omega) k1 k6, by omega⟩
    · have hic := zclN (i := i) (by omega)
      have hsi := hs i.toNatClampNeg (by omega)
      have hai : (1 ≤ i.toNatClampNeg → 0 ≤ (κ a i.toNatClampNeg).toInt ∧ (κ a i.toNatClampNeg).toInt < 1000000000) ∧ -1000000000000000 ≤ (κ a i.toNatClampNeg).toInt ∧ (κ a i.toNatClampNeg).toInt ≤ 1000000000000000 := zrow9 ha9 ha0 (by omega)
      have hbi : (1 ≤ i.toNatClampNeg → 0 ≤ (zFz 2 i.toNatClampNeg).toInt ∧ (zFz 2 i.toNatClampNeg).toInt < 1000000000) ∧ -1000000000000000 ≤ (zFz 2 i.toNatClampNeg).toInt ∧ (zFz 2 i.toNatClampNeg).toInt ≤ 1000000000000000 := zrow9 hb9 hb0 (by omega)
      have hbq : zFz 2 i.toNatClampNeg = zFz 2 i.toNatClampNeg := rfl
      have hvv : (κ1 a i.toNatClampNeg + zFz 2 i.toNatClampNeg + c).toInt = (κ a i.toNatClampNeg).toInt + (zFz 2 i.toNatClampNeg).toInt + c.toInt := by rw [hsi, hbq]; exact zadd3 (by omega) (by omega) (by omega) (by omega)
      obtain ⟨j, hj, e2⟩ : ∃ j, i + -1 = j ∧ j.toInt = i.toInt + -1 := ⟨_, rfl, zadd_c (x := i) (-1) (-1) rfl (by omega) (by omega)⟩
      refine r_aload_n X (by rfl) dX12_adds_10 ?_
      refine r_iload X (by rfl) dX12_adds_11 ?_
      refine r_laload X dX12_adds_13 ha (vp_in_iff.mpr ⟨by omega, by omega⟩) ?_
      refine r_aload_n X (by rfl) dX12_adds_14 ?_
      refine r_iload X (by rfl) dX12_adds_15 ?_
      refine r_laloadF (f := 2) X dX12_adds_17 hb (vp_in_iff.mpr ⟨by omega, by omega⟩) ?_
      refine r_ladd X dX12_adds_18 ?_
      refine r_lload_n X (by rfl) dX12_adds_19 ?_
      refine r_ladd X dX12_adds_20 ?_
      refine r_lstore X (by decide) dX12_adds_21 ?_
      refine r_lconst X 0 (by decide) dX12_adds_23 ?_
      refine r_lstore_n X (by decide) dX12_adds_24 ?_
      refine r_iload X (by rfl) dX12_adds_25 ?_
      refine r_if_le X 49 dX12_adds_27 (by decide) (fun h27 => ?_) (fun h27 => ?_)
      · obtain ⟨nv, hnv, env⟩ : ∃ nv, κ1 a i.toNatClampNeg + zFz 2 i.toNatClampNeg + c = nv ∧ nv.toInt = (κ a i.toNatClampNeg).toInt + (zFz 2 i.toNatClampNeg).toInt + c.toInt := ⟨_, rfl, hvv⟩
        rw [hnv]
        have hstep := zaddU (c2 := 0) (v := nv.toInt) hP (Or.inl ⟨rfl, env⟩)
        have hnb : 1 ≤ i.toNatClampNeg → 0 ≤ nv.toInt ∧ nv.toInt < 1000000000 := fun _ => by omega
        refine r_aload_n X (by rfl) dX12_adds_49 ?_
        refine r_iload X (by rfl) dX12_adds_50 ?_
        refine r_lload X (by rfl) dX12_adds_52 ?_
        refine r_lastore X dX12_adds_54 ha (vp_in_iff.mpr ⟨by omega, by omega⟩) ?_
        refine r_iinc X (-1) (by decide) (by rfl) (by decide) dX12_adds_55 ?_
        refine r_goto X 5 dX12_adds_58 (by decide) ?_
        exact zW.loc4 (by rfl) (by rfl) (by rfl) (by rfl) (ih _ _ _ (by rw [hj, e2]; omega) (by rw [hj, e2]; omega) (by rw [hj, e2]; omega) (fun q hq => by rw [zu_r hq]; exact hf q hq) (fun k hk => by rw [hj, e2] at hk; rw [zu_k (show k ≠ i.toNatClampNeg by omega)]; exact hs k (by omega)) (fun k hk k1 h6 => by
          rw [hj, e2] at hk
          by_cases q : k = i.toNatClampNeg
          · subst q; rw [zu_s]; exact hnb k1
          · rw [zu_k q]; exact hbk k (by omega) k1 h6) (by decide) (by decide) (fun q => by first | rfl | (rw [hj, e2] at q; omega)) (by rw [hj, e2, show (5 - (i.toInt + -1)).toNat = (5 - i.toInt).toNat + 1 by omega, qP, qP, qP, qU, show 5 - (5 - i.toInt).toNat = i.toNatClampNeg by omega, zu_s, qP_congr (g := κ1 a) (by omega) (fun k h1 h2 => zu_k (show k ≠ i.toNatClampNeg by omega))]; exact hstep))
      · refine r_lload X (by rfl) dX12_adds_30 ?_
        refine r_ldc2 X zK_X12_103 dX12_adds_32 ?_
        refine r_lcmp_lt X 49 dX12_adds_35 dX12_adds_36 (by decide) (fun h35 => ?_) (fun h35 => ?_)
        · rw [show Int64.toInt 1000000000 = 1000000000 from rfl] at h35
          obtain ⟨nv, hnv, env⟩ : ∃ nv, κ1 a i.toNatClampNeg + zFz 2 i.toNatClampNeg + c = nv ∧ nv.toInt = (κ a i.toNatClampNeg).toInt + (zFz 2 i.toNatClampNeg).toInt + c.toInt := ⟨_, rfl, hvv⟩
          rw [hnv]
          have hstep := zaddU (c2 := 0) (v := nv.toInt) hP (Or.inl ⟨rfl, env⟩)
          have hnb : 1 ≤ i.toNatClampNeg → 0 ≤ nv.toInt ∧ nv.toInt < 1000000000 := fun _ => by omega
          refine r_aload_n X (by rfl) dX12_adds_49 ?_
          refine r_iload X (by rfl) dX12_adds_50 ?_
          refine r_lload X (by rfl) dX12_adds_52 ?_
          refine r_lastore X dX12_adds_54 ha (vp_in_iff.mpr ⟨by omega, by omega⟩) ?_
          refine r_iinc X (-1) (by decide) (by rfl) (by decide) dX12_adds_55 ?_
          refine r_goto X 5 dX12_adds_58 (by decide) ?_
          exact zW.loc4 (by rfl) (by rfl) (by rfl) (by rfl) (ih _ _ _ (by rw [hj, e2]; omega) (by rw [hj, e2]; omega) (by rw [hj, e2]; omega) (fun q hq => by rw [zu_r hq]; exact hf q hq) (fun k hk => by rw [hj, e2] at hk; rw [zu_k (show k ≠ i.toNatClampNeg by omega)]; exact hs k (by omega)) (fun k hk k1 h6 => by
            rw [hj, e2] at hk
            by_cases q : k = i.toNatClampNeg
            · subst q; rw [zu_s]; exact hnb k1
            · rw [zu_k q]; exact hbk k (by omega) k1 h6) (by decide) (by decide) (fun q => by first | rfl | (rw [hj, e2] at q; omega)) (by rw [hj, e2, show (5 - (i.toInt + -1)).toNat = (5 - i.toInt).toNat + 1 by omega, qP, qP, qP, qU, show 5 - (5 - i.toInt).toNat = i.toNatClampNeg by omega, zu_s, qP_congr (g := κ1 a) (by omega) (fun k h1 h2 => zu_k (show k ≠ i.toNatClampNeg by omega))]; exact hstep))
        · rw [show Int64.toInt 1000000000 = 1000000000 from rfl] at h35
          refine r_lload X (by rfl) dX12_adds_39 ?_
          refine r_ldc2 X zK_X12_103 dX12_adds_41 ?_
          refine r_lsub X dX12_adds_44 ?_
          refine r_lstore X (by decide) dX12_adds_45 ?_
          refine r_lconst X 1 (by decide) dX12_adds_47 ?_
          refine r_lstore_n X (by decide) dX12_adds_48 ?_
          obtain ⟨nv, hnv, env⟩ : ∃ nv, κ1 a i.toNatClampNeg + zFz 2 i.toNatClampNeg + c - 1000000000 = nv ∧ nv.toInt = (κ a i.toNatClampNeg).toInt + (zFz 2 i.toNatClampNeg).toInt + c.toInt - 1000000000 := ⟨_, rfl, by rw [zsubJ (by rw [hvv, show (1000000000 : Int64).toInt = 1000000000 from rfl]; omega) (by rw [hvv, show (1000000000 : Int64).toInt = 1000000000 from rfl]; omega), hvv, show (1000000000 : Int64).toInt = 1000000000 from rfl]⟩
          rw [hnv]
          have hstep := zaddU (c2 := 1) (v := nv.toInt) hP (Or.inr ⟨rfl, env⟩)
          have hnb : 1 ≤ i.toNatClampNeg → 0 ≤ nv.toInt ∧ nv.toInt < 1000000000 := fun _ => by omega
          refine r_aload_n X (by rfl) dX12_adds_49 ?_
          refine r_iload X (by rfl) dX12_adds_50 ?_
          refine r_lload X (by rfl) dX12_adds_52 ?_
          refine r_lastore X dX12_adds_54 ha (vp_in_iff.mpr ⟨by omega, by omega⟩) ?_
          refine r_iinc X (-1) (by decide) (by rfl) (by decide) dX12_adds_55 ?_
          refine r_goto X 5 dX12_adds_58 (by decide) ?_
          exact zW.loc4 (by rfl) (by rfl) (by rfl) (by rfl) (ih _ _ _ (by rw [hj, e2]; omega) (by rw [hj, e2]; omega) (by rw [hj, e2]; omega) (fun q hq => by rw [zu_r hq]; exact hf q hq) (fun k hk => by rw [hj, e2] at hk; rw [zu_k (show k ≠ i.toNatClampNeg by omega)]; exact hs k (by omega)) (fun k hk k1 h6 => by
            rw [hj, e2] at hk
            by_cases q : k = i.toNatClampNeg
            · subst q; rw [zu_s]; exact hnb k1
            · rw [zu_k q]; exact hbk k (by omega) k1 h6) (by decide) (by decide) (fun q => by first | rfl | (rw [hj, e2] at q; omega)) (by rw [hj, e2, show (5 - (i.toInt + -1)).toNat = (5 - i.toInt).toNat + 1 by omega, qP, qP, qP, qU, show 5 - (5 - i.toInt).toNat = i.toNatClampNeg by omega, zu_s, qP_congr (g := κ1 a) (by omega) (fun k h1 h2 => zu_k (show k ≠ i.toNatClampNeg by omega))]; exact hstep))
  refine r_lconst X 0 (by decide) dX12_adds_0 ?_
  refine r_lstore_n X (by decide) dX12_adds_1 ?_
  refine r_iconst X 5 (by decide) dX12_adds_2 ?_
  refine r_istore X (by decide) dX12_adds_3 ?_
  exact zW.loc4 (by rfl) (by rfl) (by rfl) (by rfl) (L5 7 _ _ _ (by decide) (by decide) (by decide) (fun _ _ => rfl) (fun _ _ => rfl) (fun k hk _ h6 => by rw [show Int32.toInt 5 = 5 from rfl] at hk; omega) (by decide) (by decide) (fun q => by rfl) (by rw [show (5 - Int32.toInt 5).toNat = 0 from rfl]; simp only [qP]; rw [show Int64.toInt 0 = 0 from rfl]; omega))
set_option maxHeartbeats 4000000 in
set_option maxRecDepth 100000 in
theorem e_X12_isLess (l : Launch) (G : zG) (z : Nat) (τ : Nat → Option (Nat × Nat)) (ρ : Nat → Nat → Option Nat) (ι : Nat → Nat → Int32) (κ : Nat → Nat → Int64) {a : Nat} (ha : τ a = some (14, 6)) {b : Nat} (hb : τ b = some (14, 6)) (ha9 : zNo9 (κ a)) (hb9 : zNo9 (κ b)) : zM l G yX12_isLess cX12_isLess 3 (some .boolean) ({ frames := 0, cells := 0, slots := 0, locals := 0 } : Room) [.ref a, .ref b] (z, τ, ρ, ι, κ) (fun v s => ∃ r, v = some (.int r) ∧ s = (z, τ, ρ, ι, κ) ∧ ((r = 1 ∧ qR (κ a) 6 < qR (κ b) 6) ∨ (r = 0 ∧ qR (κ b) 6 ≤ qR (κ a) 6))) 0 0 := by
  refine zM_of zCd_X12_isLess (Nat.le_of_ble_eq_true rfl) ?_
  intro E X hR hE
  subst hE
  show zW E G 3 (z, τ, ρ, ι, κ) 0 0 0 [(0, .ref a), (1, .ref b)] []
  have L2 : ∀ (m : Nat) (i : Int32), (6 - i.toInt).toNat < m → 0 ≤ i.toInt → (∀ j : Nat, (j : Int) < i.toInt → κ a j = κ b j) → zW E G 3 (z, τ, ρ, ι, κ) 0 0 2 [(0, .ref a), (1, .ref b), (2, .int i)] [] := by
    intro m
    induction m with
    | zero => intro i h; omega
    | succ m ih => ?_
    intro i hm h0 he
    have hic := zclN h0
    refine r_iload_n X (by rfl) dX12_isLess_2 ?_
    refine r_bipush X 6 (by decide) dX12_isLess_3 ?_
    refine r_icmp_ge X 40 dX12_isLess_5 (by decide) (fun h5 => ?_) (fun h5 => ?_)
    · rw [show Int32.toInt 6 = 6 from rfl] at h5
      refine r_iconst X 0 (by decide) dX12_isLess_40 ?_
      refine r_ireturn X hR dX12_isLess_41 rfl (Nat.zero_le _) (Nat.zero_le _) ?_
      exact ⟨_, rfl, rfl, Or.inr ⟨rfl, by rw [qR_congr (f := κ a) (g := κ b) (fun j hj => he j (by omega))]; exact Int.le_refl _⟩⟩
    · rw [show Int32.toInt 6 = 6 from rfl] at h5
      refine r_aload_n X (by rfl) dX12_isLess_8 ?_
      refine r_iload_n X (by rfl) dX12_isLess_9 ?_
      refine r_laload X dX12_isLess_10 ha (vp_in_iff.mpr ⟨h0, by omega⟩) ?_
      refine r_aload_n X (by rfl) dX12_isLess_11 ?_
      refine r_iload_n X (by rfl) dX12_isLess_12 ?_
      refine r_laload X dX12_isLess_13 hb (vp_in_iff.mpr ⟨h0, by omega⟩) ?_
      refine r_lcmp_eq X 34 dX12_isLess_14 dX12_isLess_15 (by decide) (fun h14 => ?_) (fun h14 => ?_)
      · refine r_iinc X 1 (by decide) (by rfl) (by decide) dX12_isLess_34 ?_
        refine r_goto X 2 dX12_isLess_37 (by decide) ?_
        exact zW.loc3 (by rfl) (by rfl) (by rfl) (ih _ (by have e := zinc (x := i) (by omega); omega) (by have e := zinc (x := i) (by omega); omega) (fun j hj => by
          have e := zinc (x := i) (by omega)
          by_cases q : j = i.toNatClampNeg
          · subst q; exact Int64.toInt_inj.mp h14
          · exact he j (by omega)))
      · refine r_aload_n X (by rfl) dX12_isLess_18 ?_
        refine r_iload_n X (by rfl) dX12_isLess_19 ?_
        refine r_laload X dX12_isLess_20 ha (vp_in_iff.mpr ⟨h0, by omega⟩) ?_
        refine r_aload_n X (by rfl) dX12_isLess_21 ?_
        refine r_iload_n X (by rfl) dX12_isLess_22 ?_
        refine r_laload X dX12_isLess_23 hb (vp_in_iff.mpr ⟨h0, by omega⟩) ?_
        refine r_lcmp_ge X 32 dX12_isLess_24 dX12_isLess_25 (by decide) (fun h24 => ?_) (fun h24 => ?_)
        · refine r_iconst X 0 (by decide) dX12_isLess_32 ?_
          refine r_ireturn X hR dX12_isLess_33 rfl (Nat.zero_le _) (Nat.zero_le _) ?_
          exact ⟨_, rfl, rfl, Or.inr ⟨rfl, Int.le_of_lt (qR_lt (M := 0) (N := 0) hb9 ha9 (k := i.toNatClampNeg) (by omega) (fun j hj => (he j (by omega)).symm) (by
            rcases Int.lt_trichotomy (κ a i.toNatClampNeg).toInt (κ b i.toNatClampNeg).toInt with q | q | q
            · omega
            · exact absurd q h14
            · exact q))⟩⟩
        · refine r_iconst X 1 (by decide) dX12_isLess_28 ?_
          refine r_goto X 33 dX12_isLess_29 (by decide) ?_
          refine r_ireturn X hR dX12_isLess_33 rfl (Nat.zero_le _) (Nat.zero_le _) ?_
          exact ⟨_, rfl, rfl, Or.inl ⟨rfl, qR_lt (M := 0) (N := 0) ha9 hb9 (k := i.toNatClampNeg) (by omega) (fun j hj => he j (by omega)) h24⟩⟩
  refine r_iconst X 0 (by decide) dX12_isLess_0 ?_
  refine r_istore_n X (by decide) dX12_isLess_1 ?_
  exact zW.loc3 (by rfl) (by rfl) (by rfl) (L2 7 _ (by decide) (by decide) (fun j hj => by rw [show Int32.toInt 0 = 0 from rfl] at hj; omega))
set_option maxHeartbeats 4000000 in
set_option maxRecDepth 100000 in
theorem e_X12_isNought (l : Launch) (G : zG) (z : Nat) (τ : Nat → Option (Nat × Nat)) (ρ : Nat → Nat → Option Nat) (ι : Nat → Nat → Int32) (κ : Nat → Nat → Int64) {a : Nat} (ha : τ a = some (14, 6)) : zM l G yX12_isNought cX12_isNought 3 (some .boolean) ({ frames := 0, cells := 0, slots := 0, locals := 0 } : Room) [.ref a] (z, τ, ρ, ι, κ) (fun v s => ∃ r, v = some (.int r) ∧ s = (z, τ, ρ, ι, κ) ∧ ((r = 0 ∧ ∃ k, k < 6 ∧ ¬ (κ a k).toInt = 0) ∨ (r = 1 ∧ ∀ k, k < 6 → (κ a k).toInt = 0))) 0 0 := by
  refine zM_of zCd_X12_isNought (Nat.le_of_ble_eq_true rfl) ?_
  intro E X hR hE
  subst hE
  show zW E G 3 (z, τ, ρ, ι, κ) 0 0 0 [(0, .ref a)] []
  have L4 : ∀ (m : Nat) (i p : Int32), (6 - i.toInt).toNat < m → 0 ≤ i.toInt → i.toInt ≤ 6 → ((p = 0 ∧ ∃ k, k < 6 ∧ ¬ (κ a k).toInt = 0) ∨ (p = 1 ∧ ∀ k : Nat, (k : Int) < i.toInt → (κ a k).toInt = 0)) → zW E G 3 (z, τ, ρ, ι, κ) 0 0 4 [(0, .ref a), (1, .int p), (2, .int i)] [] := by
    intro m
    induction m with
    | zero => intro i p h; omega
    | succ m ih => ?_
    intro i p hm h0 h6 hp
    have hic := zclN h0
    refine r_iload_n X (by rfl) dX12_isNought_4 ?_
    refine r_bipush X 6 (by decide) dX12_isNought_5 ?_
    refine r_icmp_ge X 34 dX12_isNought_7 (by decide) (fun h7 => ?_) (fun h7 => ?_)
    · rw [show Int32.toInt 6 = 6 from rfl] at h7
      refine r_iload_n X (by rfl) dX12_isNought_34 ?_
      refine r_ireturn X hR dX12_isNought_35 (by rcases hp with ⟨h, -⟩ | ⟨h, -⟩ <;> rw [h] <;> decide +kernel) (Nat.zero_le _) (Nat.zero_le _) ?_
      exact ⟨_, rfl, rfl, hp.imp id (fun h => ⟨h.1, fun k hk => h.2 k (by omega)⟩)⟩
    · rw [show Int32.toInt 6 = 6 from rfl] at h7
      refine r_iload_n X (by rfl) dX12_isNought_10 ?_
      refine r_if_eq X 26 dX12_isNought_11 (by decide) (fun h11 => ?_) (fun h11 => ?_)
      · refine r_iconst X 0 (by decide) dX12_isNought_26 ?_
        have hp2 : ((0 : Int32) = 0 ∧ ∃ k, k < 6 ∧ ¬ (κ a k).toInt = 0) ∨ ((0 : Int32) = 1 ∧ ∀ k : Nat, (k : Int) < (i + 1).toInt → (κ a k).toInt = 0) := by
          rcases hp with h | ⟨h, -⟩
          · exact Or.inl ⟨rfl, h.2⟩
          · rw [h] at h11; exact absurd h11 (by decide)
        refine r_istore_n X (by decide) dX12_isNought_27 ?_
        refine r_iinc X 1 (by decide) (by rfl) (by decide) dX12_isNought_28 ?_
        refine r_goto X 4 dX12_isNought_31 (by decide) ?_
        exact zW.loc3 (by rfl) (by rfl) (by rfl) (ih _ _ (by clear hp hp2; have e := zinc (x := i) (by omega); omega) (by clear hp hp2; have e := zinc (x := i) (by omega); omega) (by clear hp hp2; have e := zinc (x := i) (by omega); omega) hp2)
      · refine r_aload_n X (by rfl) dX12_isNought_14 ?_
        refine r_iload_n X (by rfl) dX12_isNought_15 ?_
        refine r_laload X dX12_isNought_16 ha (vp_in_iff.mpr ⟨h0, by omega⟩) ?_
        refine r_lconst X 0 (by decide) dX12_isNought_17 ?_
        refine r_lcmp_ne X 26 dX12_isNought_18 dX12_isNought_19 (by decide) (fun h18 => ?_) (fun h18 => ?_)
        · rw [show Int64.toInt 0 = 0 from rfl] at h18
          refine r_iconst X 0 (by decide) dX12_isNought_26 ?_
          have hp2 : ((0 : Int32) = 0 ∧ ∃ k, k < 6 ∧ ¬ (κ a k).toInt = 0) ∨ ((0 : Int32) = 1 ∧ ∀ k : Nat, (k : Int) < (i + 1).toInt → (κ a k).toInt = 0) := Or.inl ⟨rfl, i.toNatClampNeg, by omega, h18⟩
          refine r_istore_n X (by decide) dX12_isNought_27 ?_
          refine r_iinc X 1 (by decide) (by rfl) (by decide) dX12_isNought_28 ?_
          refine r_goto X 4 dX12_isNought_31 (by decide) ?_
          exact zW.loc3 (by rfl) (by rfl) (by rfl) (ih _ _ (by clear hp hp2; have e := zinc (x := i) (by omega); omega) (by clear hp hp2; have e := zinc (x := i) (by omega); omega) (by clear hp hp2; have e := zinc (x := i) (by omega); omega) hp2)
        · rw [show Int64.toInt 0 = 0 from rfl] at h18
          refine r_iconst X 1 (by decide) dX12_isNought_22 ?_
          refine r_goto X 27 dX12_isNought_23 (by decide) ?_
          have hp2 : ((1 : Int32) = 0 ∧ ∃ k, k < 6 ∧ ¬ (κ a k).toInt = 0) ∨ ((1 : Int32) = 1 ∧ ∀ k : Nat, (k : Int) < (i + 1).toInt → (κ a k).toInt = 0) := by
            have e := zinc (x := i) (by omega)
            rcases hp with ⟨h, -⟩ | ⟨-, h⟩
            · exact absurd h h11
            · refine Or.inr ⟨rfl, fun k hk => ?_⟩
              by_cases q : k = i.toNatClampNeg
              · subst q; exact h18
              · exact h k (by omega)
          refine r_istore_n X (by decide) dX12_isNought_27 ?_
          refine r_iinc X 1 (by decide) (by rfl) (by decide) dX12_isNought_28 ?_
          refine r_goto X 4 dX12_isNought_31 (by decide) ?_
          exact zW.loc3 (by rfl) (by rfl) (by rfl) (ih _ _ (by clear hp hp2; have e := zinc (x := i) (by omega); omega) (by clear hp hp2; have e := zinc (x := i) (by omega); omega) (by clear hp hp2; have e := zinc (x := i) (by omega); omega) hp2)
  refine r_iconst X 1 (by decide) dX12_isNought_0 ?_
  refine r_istore_n X (by decide) dX12_isNought_1 ?_
  refine r_iconst X 0 (by decide) dX12_isNought_2 ?_
  refine r_istore_n X (by decide) dX12_isNought_3 ?_
  exact zW.loc3 (by rfl) (by rfl) (by rfl) (L4 7 _ _ (by decide) (by decide) (by decide) (Or.inr ⟨rfl, fun k hk => by rw [show Int32.toInt 0 = 0 from rfl] at hk; omega⟩))
set_option maxHeartbeats 4000000 in
set_option maxRecDepth 100000 in
theorem e_X12_times (l : Launch) (G : zG) (z : Nat) (τ : Nat → Option (Nat × Nat)) (ρ : Nat → Nat → Option Nat) (ι : Nat → Nat → Int32) (κ : Nat → Nat → Int64) {a : Nat} (ha : τ a = some (14, 6)) (x : Int64) (x0 : -1000000 ≤ x.toInt) (x1 : x.toInt ≤ 1000000) (h9 : zNo9 (κ a)) (hr0 : -2000000 ≤ (κ a 0).toInt ∧ (κ a 0).toInt ≤ 2000000) : zM l G yX12_times cX12_times 10 none ({ frames := 0, cells := 0, slots := 0, locals := 0 } : Room) [.ref a, .long x] (z, τ, ρ, ι, κ) (fun v s => v = none ∧ ∃ κ2, s = (z, τ, ρ, ι, κ2) ∧ (∀ q, q ≠ a → κ2 q = κ q) ∧ zNo9 (κ2 a) ∧ (-1000000000000000 ≤ (κ2 a 0).toInt ∧ (κ2 a 0).toInt ≤ 1000000000000000) ∧ qR (κ2 a) 6 = qR (κ a) 6 * x.toInt) 0 0 := by
  refine zM_of zCd_X12_times (Nat.le_of_ble_eq_true rfl) ?_
  intro E X hR hE
  subst hE
  show zW E G 10 (z, τ, ρ, ι, κ) 0 0 0 [(0, .ref a), (1, .long x)] []
  have L5 : ∀ (m : Nat) (i : Int32) (c : Int64) (κ1 : Nat → Nat → Int64), i.toInt.toNat < m → 0 ≤ i.toInt → i.toInt ≤ 5 → (∀ q, q ≠ a → κ1 q = κ q) → (∀ k : Nat, (k : Int) ≤ i.toInt → κ1 a k = κ a k) → (∀ k : Nat, i.toInt < k → k < 6 → 0 ≤ (κ1 a k).toInt ∧ (κ1 a k).toInt < 1000000000) → -1000000 ≤ c.toInt → c.toInt ≤ 1000000 → qP (κ1 a) (5 - i.toNatClampNeg) + c.toInt * qU (5 - i.toNatClampNeg) = x.toInt * qP (κ a) (5 - i.toNatClampNeg) → zW E G 10 (z, τ, ρ, ι, κ1) 0 0 5 [(0, .ref a), (1, .long x), (3, .long c), (5, .int i)] [] := by
    intro m
    induction m with
    | zero => intro i c κ1 h; omega
    | succ m ih => ?_
    intro i c κ1 hm h0 h5 hf hs hb c0 c1 hP
    have hi := zclN h0
    refine r_iload X (by rfl) dX12_times_5 ?_
    refine r_if_le X 71 dX12_times_7 (by decide) (fun h7 => ?_) (fun h7 => ?_)
    · have hi0 : i = 0 := Int32.toInt_inj.mp (by rw [show Int32.toInt 0 = 0 from rfl]; omega)
      subst hi0
      have hs0 := hs 0 (by decide)
      have hm1 : -(2000000 * 1000000) ≤ (κ a 0).toInt * x.toInt ∧ (κ a 0).toInt * x.toInt ≤ 2000000 * 1000000 := zmulbd hr0.1 hr0.2 x0 x1
      have ew1 : (κ1 a 0 * x).toInt = (κ a 0).toInt * x.toInt := by rw [hs0]; exact zmulJ (by omega) (by omega)
      have ew : (κ1 a 0 * x + c).toInt = (κ a 0).toInt * x.toInt + c.toInt := by rw [zaddJ (x := κ1 a 0 * x) (y := c) (by omega) (by omega), ew1]
      refine r_aload_n X (by rfl) dX12_times_71 ?_
      refine r_iconst X 0 (by decide) dX12_times_72 ?_
      refine r_aload_n X (by rfl) dX12_times_73 ?_
      refine r_iconst X 0 (by decide) dX12_times_74 ?_
      refine r_laload X dX12_times_75 ha (vp_in_iff.mpr ⟨by decide, by decide⟩) ?_
      refine r_lload_n X (by rfl) dX12_times_76 ?_
      refine r_lmul X dX12_times_77 ?_
      refine r_lload_n X (by rfl) dX12_times_78 ?_
      refine r_ladd X dX12_times_79 ?_
      refine r_lastore X dX12_times_80 ha (vp_in_iff.mpr ⟨by decide, by decide⟩) ?_
      refine r_return X hR dX12_times_81 (Nat.zero_le _) (Nat.zero_le _) ?_
      refine ⟨rfl, _, rfl, fun q hq => by rw [zu_r hq]; exact hf q hq, ?_, ⟨?_, ?_⟩, ?_⟩
      · intro k k1 k6; rw [show Int32.toNatClampNeg 0 = 0 from rfl, zu_k (show k ≠ 0 by omega)]; exact hb k (by rw [show Int32.toInt 0 = 0 from rfl]; omega) k6
      · rw [show Int32.toNatClampNeg 0 = 0 from rfl, zu_s, ew]; omega
      · rw [show Int32.toNatClampNeg 0 = 0 from rfl, zu_s, ew]; omega
      · rw [show Int32.toNatClampNeg 0 = 0 from rfl, qR_P, qR_P, zu_s, ew, qP_congr (g := κ1 a) (by decide) (fun k h1 h2 => zu_k (show k ≠ 0 by omega))]
        rw [show Int32.toNatClampNeg 0 = 0 from rfl] at hP
        exact zendT hP
    · have hsi := hs i.toNatClampNeg (by omega)
      have hbi := h9 i.toNatClampNeg (by omega) (by omega)
      have HT := ztG (k := κ1 a i.toNatClampNeg) (x := x) (c := c) x0 x1 (by rw [hsi]; exact hbi.1) (by rw [hsi]; exact hbi.2) c0 c1
      obtain ⟨j, hj, e2⟩ : ∃ j, i + -1 = j ∧ j.toInt = i.toInt + -1 := ⟨_, rfl, zadd_c (x := i) (-1) (-1) rfl (by omega) (by omega)⟩
      refine r_aload_n X (by rfl) dX12_times_10 ?_
      refine r_iload X (by rfl) dX12_times_11 ?_
      refine r_laload X dX12_times_13 ha (vp_in_iff.mpr ⟨by omega, by omega⟩) ?_
      refine r_lload_n X (by rfl) dX12_times_14 ?_
      refine r_lmul X dX12_times_15 ?_
      refine r_lload_n X (by rfl) dX12_times_16 ?_
      refine r_ladd X dX12_times_17 ?_
      refine r_lstore X (by decide) dX12_times_18 ?_
      obtain ⟨w, hw, ew, w0, w1⟩ : ∃ w, κ1 a i.toNatClampNeg * x + c = w ∧ w.toInt = (κ1 a i.toNatClampNeg).toInt * x.toInt + c.toInt ∧ -1000000000000000 ≤ w.toInt ∧ w.toInt ≤ 1000000000000000 := ⟨_, rfl, HT⟩
      rw [hw]
      refine r_lload X (by rfl) dX12_times_20 ?_
      refine r_lconst X 0 (by decide) dX12_times_22 ?_
      refine r_lcmp_lt X 36 dX12_times_23 dX12_times_24 (by decide) (fun h23 => ?_) (fun h23 => ?_)
      · rw [show Int64.toInt 0 = 0 from rfl] at h23
        refine r_ldc2 X zK_X12_105 dX12_times_36 ?_
        refine r_lload X (by rfl) dX12_times_39 ?_
        refine r_lsub X dX12_times_41 ?_
        refine r_ldc2 X zK_X12_103 dX12_times_42 ?_
        refine r_ldiv X (by decide) dX12_times_45 ?_
        refine r_lneg X dX12_times_46 ?_
        refine r_lstore X (by decide) dX12_times_47 ?_
        obtain ⟨qv, hqv, eqv⟩ : ∃ qv, -((999999999 - w) / 1000000000) = qv ∧ qv.toInt = w.toInt / 1000000000 := ⟨_, rfl, zq2 (by omega) w0⟩
        rw [hqv]
        obtain ⟨nv, hnv, env⟩ : ∃ nv, w - qv * 1000000000 = nv ∧ nv.toInt = w.toInt % 1000000000 := ⟨_, rfl, zq3 w0 w1 eqv⟩
        refine r_aload_n X (by rfl) dX12_times_49 ?_
        refine r_iload X (by rfl) dX12_times_50 ?_
        refine r_lload X (by rfl) dX12_times_52 ?_
        refine r_lload X (by rfl) dX12_times_54 ?_
        refine r_ldc2 X zK_X12_103 dX12_times_56 ?_
        refine r_lmul X dX12_times_59 ?_
        refine r_lsub X dX12_times_60 ?_
        rw [hnv]
        refine r_lastore X dX12_times_61 ha (vp_in_iff.mpr ⟨by omega, by omega⟩) ?_
        refine r_lload X (by rfl) dX12_times_62 ?_
        refine r_lstore_n X (by decide) dX12_times_64 ?_
        refine r_iinc X (-1) (by decide) (by rfl) (by decide) dX12_times_65 ?_
        refine r_goto X 5 dX12_times_68 (by decide) ?_
        exact zW.loc4 (by rfl) (by rfl) (by rfl) (by rfl) (ih _ _ _ (by rw [hj, e2]; omega) (by rw [hj, e2]; omega) (by rw [hj, e2]; omega) (fun q hq => by rw [zu_r hq]; exact hf q hq) (fun k hk => by rw [hj, e2] at hk; rw [zu_k (show k ≠ i.toNatClampNeg by omega)]; exact hs k (by omega)) (fun k hk h6 => by
          rw [hj, e2] at hk
          by_cases q : k = i.toNatClampNeg
          · subst q; rw [zu_s]; omega
          · rw [zu_k q]; exact hb k (by omega) h6) (by omega) (by omega) (by rw [zdec5 (by omega) h5, qP, qP, qU, show 5 - (5 - i.toNatClampNeg) = i.toNatClampNeg by omega, zu_s, qP_congr (g := κ1 a) (by omega) (fun k h1 h2 => zu_k (show k ≠ i.toNatClampNeg by omega))]; exact ztmU hP (by rw [← hsi]; omega)))
      · rw [show Int64.toInt 0 = 0 from rfl] at h23
        refine r_lload X (by rfl) dX12_times_27 ?_
        refine r_ldc2 X zK_X12_103 dX12_times_29 ?_
        refine r_ldiv X (by decide) dX12_times_32 ?_
        refine r_goto X 47 dX12_times_33 (by decide) ?_
        refine r_lstore X (by decide) dX12_times_47 ?_
        obtain ⟨qv, hqv, eqv⟩ : ∃ qv, w / 1000000000 = qv ∧ qv.toInt = w.toInt / 1000000000 := ⟨_, rfl, zq1 (by omega)⟩
        rw [hqv]
        obtain ⟨nv, hnv, env⟩ : ∃ nv, w - qv * 1000000000 = nv ∧ nv.toInt = w.toInt % 1000000000 := ⟨_, rfl, zq3 w0 w1 eqv⟩
        refine r_aload_n X (by rfl) dX12_times_49 ?_
        refine r_iload X (by rfl) dX12_times_50 ?_
        refine r_lload X (by rfl) dX12_times_52 ?_
        refine r_lload X (by rfl) dX12_times_54 ?_
        refine r_ldc2 X zK_X12_103 dX12_times_56 ?_
        refine r_lmul X dX12_times_59 ?_
        refine r_lsub X dX12_times_60 ?_
        rw [hnv]
        refine r_lastore X dX12_times_61 ha (vp_in_iff.mpr ⟨by omega, by omega⟩) ?_
        refine r_lload X (by rfl) dX12_times_62 ?_
        refine r_lstore_n X (by decide) dX12_times_64 ?_
        refine r_iinc X (-1) (by decide) (by rfl) (by decide) dX12_times_65 ?_
        refine r_goto X 5 dX12_times_68 (by decide) ?_
        exact zW.loc4 (by rfl) (by rfl) (by rfl) (by rfl) (ih _ _ _ (by rw [hj, e2]; omega) (by rw [hj, e2]; omega) (by rw [hj, e2]; omega) (fun q hq => by rw [zu_r hq]; exact hf q hq) (fun k hk => by rw [hj, e2] at hk; rw [zu_k (show k ≠ i.toNatClampNeg by omega)]; exact hs k (by omega)) (fun k hk h6 => by
          rw [hj, e2] at hk
          by_cases q : k = i.toNatClampNeg
          · subst q; rw [zu_s]; omega
          · rw [zu_k q]; exact hb k (by omega) h6) (by omega) (by omega) (by rw [zdec5 (by omega) h5, qP, qP, qU, show 5 - (5 - i.toNatClampNeg) = i.toNatClampNeg by omega, zu_s, qP_congr (g := κ1 a) (by omega) (fun k h1 h2 => zu_k (show k ≠ i.toNatClampNeg by omega))]; exact ztmU hP (by rw [← hsi]; omega)))
  refine r_lconst X 0 (by decide) dX12_times_0 ?_
  refine r_lstore_n X (by decide) dX12_times_1 ?_
  refine r_iconst X 5 (by decide) dX12_times_2 ?_
  refine r_istore X (by decide) dX12_times_3 ?_
  exact zW.loc4 (by rfl) (by rfl) (by rfl) (by rfl) (L5 6 _ _ _ (by decide) (by decide) (by decide) (fun _ _ => rfl) (fun _ _ => rfl) (fun k hk h6 => by rw [show Int32.toInt 5 = 5 from rfl] at hk; omega) (by decide) (by decide) (by rw [show 5 - Int32.toNatClampNeg 5 = 0 from rfl, qP]; rw [show Int64.toInt 0 = 0 from rfl]; omega))
set_option maxHeartbeats 4000000 in
set_option maxRecDepth 100000 in
theorem e_X12_divides (l : Launch) (G : zG) (z : Nat) (τ : Nat → Option (Nat × Nat)) (ρ : Nat → Nat → Option Nat) (ι : Nat → Nat → Int32) (κ : Nat → Nat → Int64) {a : Nat} (ha : τ a = some (14, 6)) (x : Int64) (x0 : 1 ≤ x.toInt) (x1 : x.toInt ≤ 2000000) (hn : zNo (κ a) 1000000000000000) : zM l G yX12_divides cX12_divides 8 none ({ frames := 0, cells := 0, slots := 0, locals := 0 } : Room) [.ref a, .long x] (z, τ, ρ, ι, κ) (fun v s => v = none ∧ ∃ κ2, s = (z, τ, ρ, ι, κ2) ∧ (∀ q, q ≠ a → κ2 q = κ q) ∧ zNo (κ2 a) 1000000000000000 ∧ x.toInt * qR (κ2 a) 6 ≤ qR (κ a) 6 ∧ qR (κ2 a) 6 = qR (κ a) 6 / x.toInt) 0 0 := by
  refine zM_of zCd_X12_divides (Nat.le_of_ble_eq_true rfl) ?_
  intro E X hR hE
  subst hE
  show zW E G 8 (z, τ, ρ, ι, κ) 0 0 0 [(0, .ref a), (1, .long x)] []
  have hx : ¬ x = 0 := fun q => by rw [q, show Int64.toInt 0 = 0 from rfl] at x0; omega
  have L5 : ∀ (m : Nat) (i : Int32) (c : Int64) (κ1 : Nat → Nat → Int64), (6 - i.toInt).toNat < m → 0 ≤ i.toInt → i.toInt ≤ 6 → (∀ q, q ≠ a → κ1 q = κ q) → (∀ k : Nat, i.toInt ≤ k → κ1 a k = κ a k) → (∀ k : Nat, (k : Int) < i.toInt → 0 ≤ (κ1 a k).toInt ∧ (κ1 a k).toInt ≤ 1000000000000000 ∧ (1 ≤ k → (κ1 a k).toInt < 1000000000)) → 0 ≤ c.toInt → c.toInt < x.toInt → (i.toInt = 0 → c.toInt = 0) → qR (κ a) i.toNatClampNeg = x.toInt * qR (κ1 a) i.toNatClampNeg + c.toInt → zW E G 8 (z, τ, ρ, ι, κ1) 0 0 5 [(0, .ref a), (1, .long x), (3, .long c), (5, .int i)] [] := by
    intro m
    induction m with
    | zero => intro i c κ1 h; omega
    | succ m ih => ?_
    intro i c κ1 hm h0 h6 hf hs hb c0 c1 hc hP
    have hi := zclN h0
    refine r_iload X (by rfl) dX12_divides_5 ?_
    refine r_bipush X 6 (by decide) dX12_divides_7 ?_
    refine r_icmp_ge X 43 dX12_divides_9 (by decide) (fun h9 => ?_) (fun h9 => ?_)
    · rw [show Int32.toInt 6 = 6 from rfl] at h9
      refine r_return X hR dX12_divides_43 (Nat.zero_le _) (Nat.zero_le _) ?_
      have hi6 : i.toNatClampNeg = 6 := by omega
      rw [hi6] at hP
      refine ⟨rfl, _, rfl, hf, ⟨(hb 0 (by omega)).1, (hb 0 (by omega)).2.1, fun k k1 k6 => ⟨(hb k (by omega)).1, (hb k (by omega)).2.2 k1⟩⟩, ?_, ?_⟩
      · rw [hP]; omega
      · rw [hP, Int.add_comm, Int.add_mul_ediv_left _ _ (by omega), Int.ediv_eq_zero_of_lt c0 c1]; omega
    · rw [show Int32.toInt 6 = 6 from rfl] at h9
      have hsi := hs i.toNatClampNeg (by omega)
      have hb0 := zNo_at hn (k := i.toNatClampNeg) (by omega)
      have HD := zdstep (c := c) (k := κ1 a i.toNatClampNeg) (x := x) (U := 1000000000) (i := i.toNatClampNeg) rfl x0 x1 c0 c1 (fun q => hc (by omega)) (by rw [hsi]; exact ⟨hb0.1, by omega, hb0.2.2⟩) hP
      generalize hrv : c * 1000000000 + κ1 a i.toNatClampNeg - (c * 1000000000 + κ1 a i.toNatClampNeg) / x * x = rv at HD
      generalize hqv : (c * 1000000000 + κ1 a i.toNatClampNeg) / x = qv at HD
      obtain ⟨g1, g2, g3, g4⟩ := HD
      have e2 := zinc (x := i) (by omega)
      have e3 : (i + 1).toNatClampNeg = i.toNatClampNeg + 1 := by have := zclN (i := i + 1) (by omega); omega
      refine r_lload_n X (by rfl) dX12_divides_12 ?_
      refine r_ldc2 X zK_X12_103 dX12_divides_13 ?_
      refine r_lmul X dX12_divides_16 ?_
      refine r_aload_n X (by rfl) dX12_divides_17 ?_
      refine r_iload X (by rfl) dX12_divides_18 ?_
      refine r_laload X dX12_divides_20 ha (vp_in_iff.mpr ⟨h0, by omega⟩) ?_
      refine r_ladd X dX12_divides_21 ?_
      refine r_lstore X (by decide) dX12_divides_22 ?_
      refine r_aload_n X (by rfl) dX12_divides_24 ?_
      refine r_iload X (by rfl) dX12_divides_25 ?_
      refine r_lload X (by rfl) dX12_divides_27 ?_
      refine r_lload_n X (by rfl) dX12_divides_29 ?_
      refine r_ldiv X hx dX12_divides_30 ?_
      refine r_lastore X dX12_divides_31 ha (vp_in_iff.mpr ⟨h0, by omega⟩) ?_
      refine r_lload X (by rfl) dX12_divides_32 ?_
      refine r_lload_n X (by rfl) dX12_divides_34 ?_
      refine r_lrem X hx dX12_divides_35 ?_
      refine r_lstore_n X (by decide) dX12_divides_36 ?_
      refine r_iinc X 1 (by decide) (by rfl) (by decide) dX12_divides_37 ?_
      refine r_goto X 5 dX12_divides_40 (by decide) ?_
      exact zW.loc4 (by rfl) (by rfl) (by rfl) (by rfl) (ih _ _ _ (by rw [e2]; omega) (by rw [e2]; omega) (by rw [e2]; omega) (fun q hq => by rw [zu_r hq]; exact hf q hq) (fun k hk => by rw [e2] at hk; rw [zu_k (show k ≠ i.toNatClampNeg by omega)]; exact hs k (by omega)) (fun k hk => by
        rw [e2] at hk
        by_cases q : k = i.toNatClampNeg
        · subst q; rw [zu_s, hqv]; exact g1
        · rw [zu_k q]; exact hb k (by omega)) (by rw [hrv]; exact g2) (by rw [hrv]; exact g3) (by rw [e2]; omega) (by rw [e3, qR, qR, zu_s, hrv, hqv, qR_congr (g := κ1 a) (fun k h1 => zu_k (show k ≠ i.toNatClampNeg by omega)), ← hsi]; exact g4))
  refine r_lconst X 0 (by decide) dX12_divides_0 ?_
  refine r_lstore_n X (by decide) dX12_divides_1 ?_
  refine r_iconst X 0 (by decide) dX12_divides_2 ?_
  refine r_istore X (by decide) dX12_divides_3 ?_
  exact zW.loc4 (by rfl) (by rfl) (by rfl) (by rfl) (L5 7 _ _ _ (by decide) (by decide) (by decide) (fun _ _ => rfl) (fun _ _ => rfl) (fun k hk => by rw [show Int32.toInt 0 = 0 from rfl] at hk; omega) (by decide) (by rw [show Int64.toInt 0 = 0 from rfl]; omega) (fun _ => rfl) (by rw [show Int32.toNatClampNeg 0 = 0 from rfl, qR]; rw [show Int64.toInt 0 = 0 from rfl]; omega))
set_option maxHeartbeats 4000000 in
set_option maxRecDepth 100000 in
theorem e_X12_natural (l : Launch) (G : zG) (z : Nat) (τ : Nat → Option (Nat × Nat)) (ρ : Nat → Nat → Option Nat) (ι : Nat → Nat → Int32) (κ : Nat → Nat → Int64) {a M : Nat} (ha : τ a = some (12, M)) {te sh : Nat} (g17 : ρ a 17 = some te) (g18 : ρ a 18 = some sh) (hte : τ te = some (14, 6)) (hsh : τ sh = some (14, 6)) (dts : te ≠ sh) {t : Nat} (ht : τ t = some (14, 6)) (dtt : te ≠ t) (dst : sh ≠ t) (x y : Int64) (y0 : 1 ≤ y.toInt) (yx : y.toInt ≤ x.toInt) (x1 : x.toInt ≤ 1000) (hend : zTt (x.toInt - y.toInt) (x.toInt + y.toInt) 60 = 0) : zM l G yX12_natural cX12_natural 12 none ({ frames := 1, cells := 0, slots := 0, locals := 29 } : Room) [.ref a, .long x, .long y, .ref t] (z, τ, ρ, ι, κ) (fun v s => v = none ∧ ∃ κ2, s = (z, τ, ρ, ι, κ2) ∧ (∀ q, q ≠ te → q ≠ sh → q ≠ t → κ2 q = κ q) ∧ zNo9 (κ2 t) ∧ qR (κ2 t) 6 = zSn (x.toInt - y.toInt) (x.toInt + y.toInt) 60) 0 0 := by
  refine zM_of zCd_X12_natural (Nat.le_of_ble_eq_true rfl) ?_
  intro E X hR hE
  subst hE
  show zW E G 12 (z, τ, ρ, ι, κ) 0 0 0 [(0, .ref a), (1, .long x), (3, .long y), (5, .ref t)] []
  have ea : (x - y).toInt = x.toInt - y.toInt := zsubJ (by omega) (by omega)
  have eb : (x + y).toInt = x.toInt + y.toInt := zaddJ (by omega) (by omega)
  have e2 : ((2 : Int64) * (x - y)).toInt = 2 * (x.toInt - y.toInt) := by rw [zmulJ (by rw [ea, show (2 : Int64).toInt = 2 from rfl]; omega) (by rw [ea, show (2 : Int64).toInt = 2 from rfl]; omega), ea]; rfl
  have L41 : ∀ (m : Nat) (i : Int64) (j : Nat) (κ1 : Nat → Nat → Int64), 60 - j < m → j ≤ 60 → i.toInt = 2 * (j : Int) + 1 → zNo (κ1 te) 2000000 → qR (κ1 te) 6 = zTt (x.toInt - y.toInt) (x.toInt + y.toInt) j → zNo9 (κ1 t) → qR (κ1 t) 6 = zSn (x.toInt - y.toInt) (x.toInt + y.toInt) j → (∀ q, q ≠ te → q ≠ sh → q ≠ t → κ1 q = κ q) → zW E G 12 (z, τ, ρ, ι, κ1) 0 0 41 [(0, .ref a), (1, .long x), (3, .long y), (5, .ref t), (6, .long (x - y)), (8, .long (x + y)), (10, .long i)] [] := by
    intro m
    induction m with
    | zero => intro i j κ1 h; omega
    | succ m ih => ?_
    intro i j κ1 hm hj hi hB hv ht9 hs hfr
    refine r_aload_n X (by rfl) dX12_natural_41 ?_
    refine r_getR X dX12_natural_42 zF_X12_55 ha g17 ?_
    refine r_callS X dX12_natural_45 zLS_X12_114 zCd_X12_isNought (e_X12_isNought _ G z τ ρ _ _ hte) rfl rfl ⟨⟨rfl, rfl⟩, ⟨by decide, by decide⟩, ⟨Nat.le_of_ble_eq_true rfl, Nat.le_of_ble_eq_true rfl⟩, Nat.le_of_ble_eq_true rfl⟩ ?_
    rintro _ _ ⟨r, rfl, rfl, hr⟩
    refine r_if_ne X 127 dX12_natural_48 (by decide) (fun h48 => ?_) (fun h48 => ?_)
    · have hz0 : zTt (x.toInt - y.toInt) (x.toInt + y.toInt) j = 0 := by
        rcases hr with ⟨h, -⟩ | ⟨-, h⟩
        · exact absurd h h48
        · rw [← hv]; exact qR_z h
      clear hr
      refine r_return X hR dX12_natural_127 (Nat.zero_le _) (Nat.zero_le _) ?_
      have h60 := zSn_0 hz0 (60 - j)
      rw [show j + (60 - j) = 60 by omega] at h60
      exact ⟨rfl, _, rfl, hfr, ht9, by rw [h60]; exact hs⟩
    · have hpos : 0 < zTt (x.toInt - y.toInt) (x.toInt + y.toInt) j := by
        rcases hr with ⟨-, h⟩ | ⟨h, -⟩
        · rw [← hv]; exact qR_ne hB h
        · rw [h] at h48; exact absurd h48 (by decide)
      have hj60 : j < 60 := by
        rcases Nat.lt_or_ge j 60 with q | q
        · exact q
        · have e60 : j = 60 := by omega
          rw [e60, hend] at hpos; omega
      clear hr
      refine r_aload_n X (by rfl) dX12_natural_51 ?_
      refine r_getR X dX12_natural_52 zF_X12_55 ha g17 ?_
      refine r_aload_n X (by rfl) dX12_natural_55 ?_
      refine r_getR X dX12_natural_56 zF_X12_58 ha g18 ?_
      refine r_callS X dX12_natural_59 zLS_X12_118 zCd_X12_copies (c_X12_copies _ G z τ ρ _ _ hte hsh dts) rfl rfl ⟨⟨rfl, rfl⟩, ⟨by decide, by decide⟩, ⟨Nat.le_of_ble_eq_true rfl, Nat.le_of_ble_eq_true rfl⟩, Nat.le_of_ble_eq_true rfl⟩ ?_
      rintro _ _ ⟨rfl, k4, rfl, f4, c4⟩
      have hB4 : zNo (k4 te) 2000000 := by rw [f4 te dts]; exact hB
      have v4 : qR (k4 te) 6 = zTt (x.toInt - y.toInt) (x.toInt + y.toInt) j := by rw [f4 te dts]; exact hv
      have hS4 : zNo (k4 sh) 2000000 := zNo_cg hB c4
      have w4 : qR (k4 sh) 6 = zTt (x.toInt - y.toInt) (x.toInt + y.toInt) j := by rw [qR_congr (g := κ1 te) c4]; exact hv
      refine r_aload_n X (by rfl) dX12_natural_62 ?_
      refine r_getR X dX12_natural_63 zF_X12_58 ha g18 ?_
      refine r_lload X (by rfl) dX12_natural_66 ?_
      refine r_callS X dX12_natural_68 zLS_X12_111 zCd_X12_divides (e_X12_divides _ G z τ ρ _ _ hsh _ (by omega) (by omega) (hS4.le (by omega))) rfl rfl ⟨⟨rfl, rfl⟩, ⟨by decide, by decide⟩, ⟨Nat.le_of_ble_eq_true rfl, Nat.le_of_ble_eq_true rfl⟩, Nat.le_of_ble_eq_true rfl⟩ ?_
      rintro _ _ ⟨rfl, k5, rfl, f5, hn5, hT5, v5⟩
      rw [w4, hi] at v5
      have hS5 := zNo_down hS4 hn5 (by omega) hT5
      refine r_aload X (by rfl) dX12_natural_71 ?_
      refine r_aload_n X (by rfl) dX12_natural_73 ?_
      refine r_getR X dX12_natural_74 zF_X12_58 ha g18 ?_
      refine r_callS X dX12_natural_77 zLS_X12_99 zCd_X12_adds (e_X12_adds _ G z τ ρ _ _ ht hsh (Ne.symm dst) (by rw [f5 t (Ne.symm dst), f4 t (Ne.symm dst)]; exact ht9) hn5.2.2 (by rw [f5 t (Ne.symm dst), f4 t (Ne.symm dst)]; exact zr0b ht9 (by rw [hs]; exact zSn_b (by omega) (by omega) (by omega))) ⟨by have := hS5.1; omega, by have := hS5.2.1; omega⟩) rfl rfl ⟨⟨rfl, rfl⟩, ⟨by decide, by decide⟩, ⟨Nat.le_of_ble_eq_true rfl, Nat.le_of_ble_eq_true rfl⟩, Nat.le_of_ble_eq_true rfl⟩ ?_
      rintro _ _ ⟨rfl, k6, rfl, f6, h6t, v6⟩
      rw [f5 t (Ne.symm dst), f4 t (Ne.symm dst), hs, v5] at v6
      refine r_aload_n X (by rfl) dX12_natural_80 ?_
      refine r_getR X dX12_natural_81 zF_X12_55 ha g17 ?_
      refine r_lload X (by rfl) dX12_natural_84 ?_
      refine r_callS X dX12_natural_86 zLS_X12_121 zCd_X12_times (c_X12_timesS _ G z τ ρ _ _ hte _ (by omega) (by omega) (by rw [f6 te dtt, f5 te dts]; exact hB4)) rfl rfl ⟨⟨rfl, rfl⟩, ⟨by decide, by decide⟩, ⟨Nat.le_of_ble_eq_true rfl, Nat.le_of_ble_eq_true rfl⟩, Nat.le_of_ble_eq_true rfl⟩ ?_
      rintro _ _ ⟨rfl, k7, rfl, f7, hn7, hT7⟩
      rw [f6 te dtt, f5 te dts, v4, ea] at hT7
      refine r_aload_n X (by rfl) dX12_natural_89 ?_
      refine r_getR X dX12_natural_90 zF_X12_55 ha g17 ?_
      refine r_lload X (by rfl) dX12_natural_93 ?_
      refine r_callS X dX12_natural_95 zLS_X12_111 zCd_X12_divides (e_X12_divides _ G z τ ρ _ _ hte _ (by omega) (by omega) hn7) rfl rfl ⟨⟨rfl, rfl⟩, ⟨by decide, by decide⟩, ⟨Nat.le_of_ble_eq_true rfl, Nat.le_of_ble_eq_true rfl⟩, Nat.le_of_ble_eq_true rfl⟩ ?_
      rintro _ _ ⟨rfl, k8, rfl, f8, hn8, hT8, v8⟩
      rw [hT7, eb] at hT8 v8
      have hF8 := zfall hT8 (by omega) (by omega) (zTt_nn (by omega) (by omega) j)
      have hB8 := zNo_fall hB4 hn8 (by rw [v4]; exact hF8)
      refine r_aload_n X (by rfl) dX12_natural_98 ?_
      refine r_getR X dX12_natural_99 zF_X12_55 ha g17 ?_
      refine r_lload X (by rfl) dX12_natural_102 ?_
      refine r_callS X dX12_natural_104 zLS_X12_121 zCd_X12_times (c_X12_timesS _ G z τ ρ _ _ hte _ (by omega) (by omega) hB8) rfl rfl ⟨⟨rfl, rfl⟩, ⟨by decide, by decide⟩, ⟨Nat.le_of_ble_eq_true rfl, Nat.le_of_ble_eq_true rfl⟩, Nat.le_of_ble_eq_true rfl⟩ ?_
      rintro _ _ ⟨rfl, k9, rfl, f9, hn9, hT9⟩
      rw [v8, ea] at hT9
      refine r_aload_n X (by rfl) dX12_natural_107 ?_
      refine r_getR X dX12_natural_108 zF_X12_55 ha g17 ?_
      refine r_lload X (by rfl) dX12_natural_111 ?_
      refine r_callS X dX12_natural_113 zLS_X12_111 zCd_X12_divides (e_X12_divides _ G z τ ρ _ _ hte _ (by omega) (by omega) hn9) rfl rfl ⟨⟨rfl, rfl⟩, ⟨by decide, by decide⟩, ⟨Nat.le_of_ble_eq_true rfl, Nat.le_of_ble_eq_true rfl⟩, Nat.le_of_ble_eq_true rfl⟩ ?_
      rintro _ _ ⟨rfl, k10, rfl, f10, hn10, hT10, v10⟩
      rw [hT9, eb] at hT10 v10
      have hF10 := zfall hT10 (by omega) (by omega) (by rw [← v8]; exact qR_pos hB8)
      have hB10 := zNo_fall hB8 hn10 (by rw [v8]; exact hF10)
      refine r_lload X (by rfl) dX12_natural_116 ?_
      refine r_ldc2 X zK_X12_89 dX12_natural_118 ?_
      refine r_ladd X dX12_natural_121 ?_
      refine r_lstore X (by decide) dX12_natural_122 ?_
      refine r_goto X 41 dX12_natural_124 (by decide) ?_
      exact zW.loc7 (by rfl) (by rfl) (by rfl) (by rfl) (by rfl) (by rfl) (by rfl) (ih _ (j + 1) _ (by omega) (by omega) (by rw [zaddJ (x := i) (y := 2) (by rw [show Int64.toInt 2 = 2 from rfl]; omega) (by rw [show Int64.toInt 2 = 2 from rfl]; omega), show Int64.toInt 2 = 2 from rfl]; omega) hB10 v10 (by rw [f10 t (Ne.symm dtt), f9 t (Ne.symm dtt), f8 t (Ne.symm dtt), f7 t (Ne.symm dtt)]; exact h6t) (by rw [f10 t (Ne.symm dtt), f9 t (Ne.symm dtt), f8 t (Ne.symm dtt), f7 t (Ne.symm dtt)]; exact v6) (fun q q1 q2 q3 => by rw [f10 q q1, f9 q q1, f8 q q1, f7 q q1, f6 q q3, f5 q q2, f4 q q2]; exact hfr q q1 q2 q3))
  refine r_lload_n X (by rfl) dX12_natural_0 ?_
  refine r_lload_n X (by rfl) dX12_natural_1 ?_
  refine r_lsub X dX12_natural_2 ?_
  refine r_lstore X (by decide) dX12_natural_3 ?_
  refine r_lload_n X (by rfl) dX12_natural_5 ?_
  refine r_lload_n X (by rfl) dX12_natural_6 ?_
  refine r_ladd X dX12_natural_7 ?_
  refine r_lstore X (by decide) dX12_natural_8 ?_
  refine r_aload X (by rfl) dX12_natural_10 ?_
  refine r_lconst X 0 (by decide) dX12_natural_12 ?_
  refine r_callS X dX12_natural_13 zLS_X12_107 zCd_X12_sets (c_X12_sets _ G z τ ρ _ _ ht _) rfl rfl ⟨⟨rfl, rfl⟩, ⟨by decide, by decide⟩, ⟨Nat.le_of_ble_eq_true rfl, Nat.le_of_ble_eq_true rfl⟩, Nat.le_of_ble_eq_true rfl⟩ ?_
  rintro _ _ ⟨rfl, k1, rfl, f1, t0, t1⟩
  refine r_aload_n X (by rfl) dX12_natural_16 ?_
  refine r_getR X dX12_natural_17 zF_X12_55 ha g17 ?_
  refine r_ldc2 X zK_X12_89 dX12_natural_20 ?_
  refine r_lload X (by rfl) dX12_natural_23 ?_
  refine r_lmul X dX12_natural_25 ?_
  refine r_callS X dX12_natural_26 zLS_X12_107 zCd_X12_sets (c_X12_sets _ G z τ ρ _ _ hte _) rfl rfl ⟨⟨rfl, rfl⟩, ⟨by decide, by decide⟩, ⟨Nat.le_of_ble_eq_true rfl, Nat.le_of_ble_eq_true rfl⟩, Nat.le_of_ble_eq_true rfl⟩ ?_
  rintro _ _ ⟨rfl, k2, rfl, f2, s0, s1⟩
  have hn2 : zNo (k2 te) 2000000 := ⟨by rw [s0, e2]; omega, by rw [s0, e2]; omega, fun k h1 h6 => by rw [s1 k h1 h6]; decide⟩
  have v2 : qR (k2 te) 6 = 2 * (x.toInt - y.toInt) * 1000000000000000000000000000000000000000000000 := by simp only [qR, s0, e2, s1 1 (by decide) (by decide), s1 2 (by decide) (by decide), s1 3 (by decide) (by decide), s1 4 (by decide) (by decide), s1 5 (by decide) (by decide)]; rw [show Int64.toInt 0 = 0 from rfl]; omega
  refine r_aload_n X (by rfl) dX12_natural_29 ?_
  refine r_getR X dX12_natural_30 zF_X12_55 ha g17 ?_
  refine r_lload X (by rfl) dX12_natural_33 ?_
  refine r_callS X dX12_natural_35 zLS_X12_111 zCd_X12_divides (e_X12_divides _ G z τ ρ _ _ hte _ (by omega) (by omega) (hn2.le (by omega))) rfl rfl ⟨⟨rfl, rfl⟩, ⟨by decide, by decide⟩, ⟨Nat.le_of_ble_eq_true rfl, Nat.le_of_ble_eq_true rfl⟩, Nat.le_of_ble_eq_true rfl⟩ ?_
  rintro _ _ ⟨rfl, k3, rfl, f3, hn3, hT3, v3⟩
  have hB3 := zNo_down hn2 hn3 (by omega) hT3
  rw [v2, eb] at v3
  refine r_lconst X 1 (by decide) dX12_natural_38 ?_
  refine r_lstore X (by decide) dX12_natural_39 ?_
  exact zW.loc7 (by rfl) (by rfl) (by rfl) (by rfl) (by rfl) (by rfl) (by rfl) (L41 61 _ 0 _ (by decide) (by decide) (by decide) hB3 v3 (fun k k1 k6 => by rw [f3 t (Ne.symm dtt), f2 t (Ne.symm dtt), t1 k k1 k6]; decide) (by rw [f3 t (Ne.symm dtt), f2 t (Ne.symm dtt)]; exact qR_z (fun k k6 => by
    by_cases q : k = 0
    · subst q; rw [t0]; rfl
    · rw [t1 k (by omega) k6]; rfl)) (fun q q1 q2 q3 => by rw [f3 q q1, f2 q q1, f1 q q3]))
set_option maxHeartbeats 4000000 in
set_option maxRecDepth 100000 in
theorem e_X12_logOf (l : Launch) (G : zG) (z : Nat) (τ : Nat → Option (Nat × Nat)) (ρ : Nat → Nat → Option Nat) (ι : Nat → Nat → Int32) (κ : Nat → Nat → Int64) {a M : Nat} (ha : τ a = some (12, M)) {te sh : Nat} (g17 : ρ a 17 = some te) (g18 : ρ a 18 = some sh) (hte : τ te = some (14, 6)) (hsh : τ sh = some (14, 6)) (dts : te ≠ sh) {tw : Nat} (g15 : ρ a 15 = some tw) (htw : τ tw = some (1002, 6)) {t : Nat} (ht : τ t = some (14, 6)) (dtt : te ≠ t) (dst : sh ≠ t) (x : Int64) (x0 : 1 ≤ x.toInt) (x1 : x.toInt ≤ 1000) (hend : ∀ d : Nat, (2 : Int) ^ d ≤ x.toInt → x.toInt < 2 * (2 : Int) ^ d → zTt (x.toInt - 2 ^ d) (x.toInt + 2 ^ d) 60 = 0) : zM l G yX12_logOf cX12_logOf 8 none ({ frames := 2, cells := 0, slots := 0, locals := 60 } : Room) [.ref a, .long x, .ref t] (z, τ, ρ, ι, κ) (fun v s => v = none ∧ ∃ κ2, s = (z, τ, ρ, ι, κ2) ∧ (∀ q, q ≠ te → q ≠ sh → q ≠ t → κ2 q = κ q) ∧ zNo9 (κ2 t) ∧ ∃ d : Nat, d ≤ 10 ∧ (2 : Int) ^ d ≤ x.toInt ∧ x.toInt < 2 * (2 : Int) ^ d ∧ qR (κ2 t) 6 = zSn (x.toInt - 2 ^ d) (x.toInt + 2 ^ d) 60 + (d : Int) * zTwoI) 0 0 := by
  refine zM_of zCd_X12_logOf (Nat.le_of_ble_eq_true rfl) ?_
  intro E X hR hE
  subst hE
  show zW E G 8 (z, τ, ρ, ι, κ) 0 0 0 [(0, .ref a), (1, .long x), (3, .ref t)] []
  have L42 : ∀ (u : Int32) (v : Int64) (d : Nat) (hd : d ≤ 10) (hu : u.toInt = d) (h0d : (2 : Int) ^ d ≤ x.toInt) (h1d : x.toInt < 2 * (2 : Int) ^ d) (sm : Int) (hsm : sm = zSn (x.toInt - 2 ^ d) (x.toInt + 2 ^ d) 60) (hsb : 0 ≤ sm ∧ sm ≤ 120 * 1000000000000000000000000000000000000000000000) (m : Nat) (j : Int32) (κ1 : Nat → Nat → Int64), (u.toInt - j.toInt).toNat < m → 0 ≤ j.toInt → j.toInt ≤ u.toInt → (∀ q, q ≠ te → q ≠ sh → q ≠ t → κ1 q = κ q) → zNo9 (κ1 t) → qR (κ1 t) 6 = sm + (j.toNatClampNeg : Int) * zTwoI → zW E G 8 (z, τ, ρ, ι, κ1) 0 0 42 [(0, .ref a), (1, .long x), (3, .ref t), (4, .long v), (6, .int u), (7, .int j)] [] := by
    intro u v d hd hu h0d h1d sm hsm hsb m
    induction m with
    | zero => intro j κ1 h; omega
    | succ m ih => ?_
    intro j κ1 hm h0 hju hfr ht9 hv
    have hul := u.toInt_lt
    have hjc := zclN h0
    refine r_iload X (by rfl) dX12_logOf_42 ?_
    refine r_iload X (by rfl) dX12_logOf_44 ?_
    refine r_icmp_ge X 63 dX12_logOf_46 (by decide) (fun h46 => ?_) (fun h46 => ?_)
    · refine r_return X hR dX12_logOf_63 (Nat.zero_le _) (Nat.zero_le _) ?_
      rw [show j.toNatClampNeg = d by omega, hsm] at hv
      exact ⟨rfl, _, rfl, hfr, ht9, d, hd, h0d, h1d, hv⟩
    · refine r_aload_n X (by rfl) dX12_logOf_49 ?_
      refine r_aload_n X (by rfl) dX12_logOf_50 ?_
      refine r_getR X dX12_logOf_51 zF_X12_48 ha g15 ?_
      refine r_callS X dX12_logOf_54 zLS_X12_99 zCd_X12_adds (e_X12_addsF _ G z τ ρ _ _ ht htw ht9 zF2_9 (zr0b ht9 (by rw [hv]; exact zlgb hd (by omega) hsb)) (zr0b zF2_9 (by rw [zF2_v]; decide))) rfl rfl ⟨⟨rfl, rfl⟩, ⟨by decide, by decide⟩, ⟨Nat.le_of_ble_eq_true rfl, Nat.le_of_ble_eq_true rfl⟩, Nat.le_of_ble_eq_true rfl⟩ ?_
      rintro _ _ ⟨rfl, k2, rfl, f2, t2, v2⟩
      rw [hv, zF2_v] at v2
      refine r_iinc X 1 (by decide) (by rfl) (by decide) dX12_logOf_57 ?_
      refine r_goto X 42 dX12_logOf_60 (by decide) ?_
      exact zW.loc6 (by rfl) (by rfl) (by rfl) (by rfl) (by rfl) (by rfl) (ih _ _ (by have e := zinc (x := j) (by omega); omega) (by have e := zinc (x := j) (by omega); omega) (by have e := zinc (x := j) (by omega); omega) (fun q q1 q2 q3 => by rw [f2 q q3]; exact hfr q q1 q2 q3) t2 (by have e := zinc (x := j) (by omega); have e2 := zclN (i := j + 1) (by omega); rw [v2, show (j + 1).toNatClampNeg = j.toNatClampNeg + 1 by omega, Int.natCast_add, Int.add_mul]; omega))
  have L6 : ∀ (m : Nat) (v : Int64) (u : Int32) (d : Nat), (x.toInt - v.toInt).toNat < m → 1 ≤ v.toInt → v.toInt ≤ x.toInt → v.toInt = 2 ^ d → u.toInt = (d : Int) → d ≤ 10 → zW E G 8 (z, τ, ρ, ι, κ) 0 0 6 [(0, .ref a), (1, .long x), (3, .ref t), (4, .long v), (6, .int u)] [] := by
    intro m
    induction m with
    | zero => intro v u d h; omega
    | succ m ih => ?_
    intro v u d hm h0 h1 hvd hu hd
    have h0d : (2 : Int) ^ d ≤ x.toInt := by omega
    have e := zmulJ (x := 2) (y := v) (by rw [show (2 : Int64).toInt = 2 from rfl]; omega) (by rw [show (2 : Int64).toInt = 2 from rfl]; omega)
    rw [show (2 : Int64).toInt = 2 from rfl] at e
    have e2 := zmulJ (x := v) (y := 2) (by rw [show (2 : Int64).toInt = 2 from rfl]; omega) (by rw [show (2 : Int64).toInt = 2 from rfl]; omega)
    rw [show (2 : Int64).toInt = 2 from rfl] at e2
    refine r_ldc2 X zK_X12_89 dX12_logOf_6 ?_
    refine r_lload X (by rfl) dX12_logOf_9 ?_
    refine r_lmul X dX12_logOf_11 ?_
    refine r_lload_n X (by rfl) dX12_logOf_12 ?_
    refine r_lcmp_gt X 31 dX12_logOf_13 dX12_logOf_14 (by decide) (fun h13 => ?_) (fun h13 => ?_)
    · refine r_aload_n X (by rfl) dX12_logOf_31 ?_
      refine r_lload_n X (by rfl) dX12_logOf_32 ?_
      refine r_lload X (by rfl) dX12_logOf_33 ?_
      refine r_aload_n X (by rfl) dX12_logOf_35 ?_
      refine r_callV X dX12_logOf_36 zLV_X12_91 zCd_X12_natural (e_X12_natural _ G z τ ρ _ _ ha g17 g18 hte hsh dts ht dtt dst _ _ h0 h1 x1 (by rw [hvd]; exact hend d (by omega) (by omega))) ha ⟨by decide, rfl, rfl⟩ rfl rfl ⟨⟨rfl, rfl⟩, ⟨by decide, by decide⟩, ⟨Nat.le_of_ble_eq_true rfl, Nat.le_of_ble_eq_true rfl⟩, Nat.le_of_ble_eq_true rfl⟩ ?_
      rintro _ _ ⟨rfl, k1, rfl, f1, t1, v1⟩
      rw [hvd] at v1
      refine r_iconst X 0 (by decide) dX12_logOf_39 ?_
      refine r_istore X (by decide) dX12_logOf_40 ?_
      exact zW.loc6 (by rfl) (by rfl) (by rfl) (by rfl) (by rfl) (by rfl) (L42 _ _ d hd hu h0d (by omega) _ rfl (zSn_b2 (by omega) (by omega)) (u.toInt.toNat + 1) 0 _ (by rw [show Int32.toInt 0 = 0 from rfl]; omega) (by decide) (by rw [show Int32.toInt 0 = 0 from rfl]; omega) (fun q q1 q2 q3 => f1 q q1 q2 q3) t1 (by rw [v1, show Int32.toNatClampNeg 0 = 0 from rfl]; simp))
    · refine r_lload X (by rfl) dX12_logOf_17 ?_
      refine r_ldc2 X zK_X12_89 dX12_logOf_19 ?_
      refine r_lmul X dX12_logOf_22 ?_
      refine r_lstore X (by decide) dX12_logOf_23 ?_
      refine r_iinc X 1 (by decide) (by rfl) (by decide) dX12_logOf_25 ?_
      refine r_goto X 6 dX12_logOf_28 (by decide) ?_
      exact zW.loc5 (by rfl) (by rfl) (by rfl) (by rfl) (by rfl) (ih _ _ (d + 1) (by omega) (by omega) (by omega) (by rw [e2, hvd, Int.pow_succ]) (by rw [zinc (x := u) (by omega), hu]; omega) (zd10 (by rw [Int.pow_succ]; omega) x1))
  refine r_lconst X 1 (by decide) dX12_logOf_0 ?_
  refine r_lstore X (by decide) dX12_logOf_1 ?_
  refine r_iconst X 0 (by decide) dX12_logOf_3 ?_
  refine r_istore X (by decide) dX12_logOf_4 ?_
  exact zW.loc5 (by rfl) (by rfl) (by rfl) (by rfl) (by rfl) (L6 (x.toInt.toNat + 1) _ _ 0 (by rw [show Int64.toInt 1 = 1 from rfl]; omega) (by decide) (by rw [show Int64.toInt 1 = 1 from rfl]; exact x0) (by rfl) (by rfl) (by decide))
set_option maxHeartbeats 4000000 in
set_option maxRecDepth 100000 in
theorem e_X12_tens (l : Launch) (G : zG) (z : Nat) (τ : Nat → Option (Nat × Nat)) (ρ : Nat → Nat → Option Nat) (ι : Nat → Nat → Int32) (κ : Nat → Nat → Int64) (x : Int64) (x0 : 100 ≤ x.toInt) (x1 : x.toInt ≤ 999) : zM l G yX12_tens cX12_tens 9 (some .int) ({ frames := 0, cells := 0, slots := 0, locals := 0 } : Room) [.long x, .long 100] (z, τ, ρ, ι, κ) (fun v s => v = some (.int (if x.toInt = 100 then 1000 else 0)) ∧ s = (z, τ, ρ, ι, κ)) 0 0 := by
  refine zM_of zCd_X12_tens (Nat.le_of_ble_eq_true rfl) ?_
  intro E X hR hE
  subst hE
  show zW E G 9 (z, τ, ρ, ι, κ) 0 0 0 [(0, .long x), (2, .long 100)] []
  have L33 : ∀ (m : Nat) (v : Int64) (n : Int32), ((m = 2 ∧ v = 100 ∧ n = 1000) ∨ (m = 1 ∧ v = 1000 ∧ n = 1001 ∧ ¬ x.toInt = 100)) → zW E G 9 (z, τ, ρ, ι, κ) 0 0 33 [(0, .long x), (2, .long 100), (4, .long x), (6, .long v), (8, .int n)] [] := by
    intro m
    induction m with
    | zero => intro v n h; omega
    | succ m ih => ?_
    intro v n h
    have hvv : (v.toInt = 100 ∧ m = 1 ∧ v = 100 ∧ n = 1000) ∨ (v.toInt = 1000 ∧ m = 0 ∧ v = 1000 ∧ n = 1001 ∧ ¬ x.toInt = 100) := by
      rcases h with ⟨h1, h2, h3⟩ | ⟨h1, h2, h3, h4⟩
      · exact Or.inl ⟨by rw [h2]; rfl, by omega, h2, h3⟩
      · exact Or.inr ⟨by rw [h2]; rfl, by omega, h2, h3, h4⟩
    refine r_lload X (by rfl) dX12_tens_33 ?_
    refine r_lload X (by rfl) dX12_tens_35 ?_
    refine r_lcmp_le X 55 dX12_tens_37 dX12_tens_38 (by decide) (fun h37 => ?_) (fun h37 => ?_)
    · refine r_lload X (by rfl) dX12_tens_55 ?_
      refine r_lload X (by rfl) dX12_tens_57 ?_
      refine r_lcmp_ne X 68 dX12_tens_59 dX12_tens_60 (by decide) (fun h59 => ?_) (fun h59 => ?_)
      · refine r_iconst X 0 (by decide) dX12_tens_68 ?_
        refine r_ireturn X hR dX12_tens_69 rfl (Nat.zero_le _) (Nat.zero_le _) ?_
        rcases hvv with ⟨q1, q2, q3, q4⟩ | ⟨q1, q2, q3, q4, q5⟩
        · exfalso
          exact h59 (by omega)
        · exact ⟨by rw [if_neg q5], rfl⟩
      · refine r_iload X (by rfl) dX12_tens_63 ?_
        refine r_goto X 69 dX12_tens_65 (by decide) ?_
        refine r_ireturn X hR dX12_tens_69 rfl (Nat.zero_le _) (Nat.zero_le _) ?_
        have h59b := h59
        rcases hvv with ⟨q1, q2, q3, q4⟩ | ⟨q1, q2, q3, q4, q5⟩
        · exact ⟨by rw [if_pos (by omega), q4], rfl⟩
        · exfalso; omega
    · refine r_lload X (by rfl) dX12_tens_41 ?_
      refine r_ldc2 X zK_X12_124 dX12_tens_43 ?_
      refine r_lmul X dX12_tens_46 ?_
      refine r_lstore X (by decide) dX12_tens_47 ?_
      refine r_iinc X 1 (by decide) (by rfl) (by decide) dX12_tens_49 ?_
      refine r_goto X 33 dX12_tens_52 (by decide) ?_
      exact zW.loc5 (by rfl) (by rfl) (by rfl) (by rfl) (by rfl) (ih _ _ (by rcases hvv with ⟨q1, q2, q3, q4⟩ | ⟨q1, -⟩ <;> first | exact Or.inr ⟨q2, by rw [q3]; rfl, by rw [q4]; rfl, by omega⟩ | omega))
  refine r_lload_n X (by rfl) dX12_tens_0 ?_
  refine r_lstore X (by decide) dX12_tens_1 ?_
  refine r_lload_n X (by rfl) dX12_tens_3 ?_
  refine r_lstore X (by decide) dX12_tens_4 ?_
  refine r_sipush X 1000 (by decide) dX12_tens_6 ?_
  refine r_istore X (by decide) dX12_tens_9 ?_
  refine r_lload X (by rfl) dX12_tens_11 ?_
  refine r_lload X (by rfl) dX12_tens_13 ?_
  refine r_lcmp_ge X 33 dX12_tens_15 dX12_tens_16 (by decide) (fun h15 => ?_) (fun h15 => ?_)
  · skip
    exact zW.loc5 (by rfl) (by rfl) (by rfl) (by rfl) (by rfl) (L33 2 _ _ (Or.inl ⟨rfl, rfl, rfl⟩))
  · exfalso
    rw [show Int64.toInt 100 = 100 from rfl] at h15; omega
set_option maxHeartbeats 4000000 in
set_option maxRecDepth 100000 in
theorem e_X12_nearestOf (l : Launch) (G : zG) (z : Nat) (τ : Nat → Option (Nat × Nat)) (ρ : Nat → Nat → Option Nat) (ι : Nat → Nat → Int32) (κ : Nat → Nat → Int64) {a M : Nat} (ha : τ a = some (12, M)) {te sh : Nat} (g17 : ρ a 17 = some te) (g18 : ρ a 18 = some sh) (hte : τ te = some (14, 6)) (hsh : τ sh = some (14, 6)) (dts : te ≠ sh) {tw : Nat} (g15 : ρ a 15 = some tw) (htw : τ tw = some (1002, 6)) {tn on ot le ri : Nat} (g16 : ρ a 16 = some tn) (g19 : ρ a 19 = some on) (g20 : ρ a 20 = some ot) (g21 : ρ a 21 = some le) (g22 : ρ a 22 = some ri) (htn : τ tn = some (1003, 6)) (hon : τ on = some (14, 6)) (hot : τ ot = some (14, 6)) (hle : τ le = some (14, 6)) (hri : τ ri = some (14, 6)) (don : te ≠ on) (dso : sh ≠ on) (dot : te ≠ ot) (dso2 : sh ≠ ot) (dle : on ≠ le) (dri : tn ≠ ri) (n5 : on ≠ ot) (n11 : le ≠ ot) (n12 : le ≠ ri) (n13 : on ≠ ri) (n14 : ot ≠ ri) (x : Int64) (x0 : 100 ≤ x.toInt) (x1 : x.toInt ≤ 999) (hL : 100 ≤ (ι a 0).toInt ∧ (ι a 0).toInt ≤ 50000) (hex : (∀ d : Nat, (2 : Int) ^ d ≤ x.toInt → x.toInt < 2 * (2 : Int) ^ d → zTt (x.toInt - 2 ^ d) (x.toInt + 2 ^ d) 60 = 0)) (hey : (∀ d : Nat, (2 : Int) ^ d ≤ 100 → 100 < 2 * (2 : Int) ^ d → zTt (100 - 2 ^ d) (100 + 2 ^ d) 60 = 0)) (hX : ∀ X1 X2, 101 ≤ x.toInt → zLgR x.toInt X1 → zLgR 100 X2 → 0 ≤ X1 - X2 ∧ X1 - X2 ≤ zTenI) : zM l G yX12_nearestOf cX12_nearestOf 13 (some .int) ({ frames := 3, cells := 0, slots := 0, locals := 87 } : Room) [.ref a, .long x, .long 100, .int 1] (z, τ, ρ, ι, κ) (fun v s => ∃ r κ2, v = some (.int r) ∧ s = (z, τ, ρ, ι, κ2) ∧ ((x.toInt = 100 ∧ r = 0) ∨ (101 ≤ x.toInt ∧ ∃ X1 X2, zLgR x.toInt X1 ∧ zLgR 100 X2 ∧ zTenI * (2 * r.toInt - 1) ≤ (X1 - X2) * (2 * (ι a 0).toInt) ∧ (X1 - X2) * (2 * (ι a 0).toInt) < zTenI * (2 * r.toInt + 1)))) 0 0 := by
  refine zM_of zCd_X12_nearestOf (Nat.le_of_ble_eq_true rfl) ?_
  intro E X hR hE
  subst hE
  show zW E G 13 (z, τ, ρ, ι, κ) 0 0 0 [(0, .ref a), (1, .long x), (3, .long 100), (5, .int 1)] []
  have L73 : ∀ (hx101 : 101 ≤ x.toInt) (r : Int32) (X1 X2 : Int) (g1 : zLgR x.toInt X1) (g2 : zLgR 100 X2) (m : Nat) (p q : Int64) (κ1 : Nat → Nat → Int64), (q.toInt - p.toInt).toNat < m → -400000 ≤ p.toInt → p.toInt ≤ q.toInt → q.toInt ≤ 400000 → (∀ q, q ≠ te → q ≠ sh → q ≠ on → q ≠ ot → q ≠ le → q ≠ ri → κ1 q = κ q) → zNo9 (κ1 on) → qR (κ1 on) 6 = X1 → zNo9 (κ1 ot) → qR (κ1 ot) 6 = X2 → zTenI * (2 * p.toInt - 1) ≤ (X1 - X2) * (2 * (ι a 0).toInt) → (X1 - X2) * (2 * (ι a 0).toInt) < zTenI * (2 * q.toInt + 1) → zW E G 13 (z, τ, ρ, ι, κ1) 0 0 73 [(0, .ref a), (1, .long x), (3, .long 100), (5, .int 1), (6, .int r), (7, .long p), (9, .long q)] [] := by
    intro hx101 r X1 X2 g1 g2 m
    have hXX := hX X1 X2 hx101 g1 g2
    have b1 := zLgR_b g1 (by omega)
    have b2 := zLgR_b g2 (by omega)
    induction m with
    | zero => intro p q κ1 h; omega
    | succ m ih => ?_
    intro p q κ1 hm h0 h1 h2 hfr on9 von ot9 vot hlo hhi
    have e2L : ((2 : Int64) * (ι a 0).toInt64).toInt = 2 * (ι a 0).toInt := by rw [zmulJ (x := 2) (y := (ι a 0).toInt64) (by rw [Int32.toInt_toInt64, show (2 : Int64).toInt = 2 from rfl]; omega) (by rw [Int32.toInt_toInt64, show (2 : Int64).toInt = 2 from rfl]; omega), Int32.toInt_toInt64]; rfl
    refine r_lload X (by rfl) dX12_nearestOf_73 ?_
    refine r_lload X (by rfl) dX12_nearestOf_75 ?_
    refine r_lcmp_ge X 194 dX12_nearestOf_77 dX12_nearestOf_78 (by decide) (fun h77 => ?_) (fun h77 => ?_)
    · refine r_lload X (by rfl) dX12_nearestOf_194 ?_
      refine r_l2i X dX12_nearestOf_196 ?_
      refine r_ireturn X hR dX12_nearestOf_197 rfl (Nat.zero_le _) (Nat.zero_le _) ?_
      have hpq : q.toInt = p.toInt := by omega
      rw [hpq] at hhi
      have er : p.toInt32.toInt = p.toInt := by rw [Int64.toInt_toInt32, Int.bmod_eq_of_le (by omega) (by omega)]
      exact ⟨_, _, rfl, rfl, Or.inr ⟨hx101, X1, X2, g1, g2, by rw [er]; exact hlo, by rw [er]; exact hhi⟩⟩
    · have hd := zhalfD h0 h2 h77
      refine r_lload X (by rfl) dX12_nearestOf_81 ?_
      refine r_lload X (by rfl) dX12_nearestOf_83 ?_
      refine r_ladd X dX12_nearestOf_85 ?_
      refine r_lconst X 1 (by decide) dX12_nearestOf_86 ?_
      refine r_ladd X dX12_nearestOf_87 ?_
      refine r_ldc2 X zK_X12_89 dX12_nearestOf_88 ?_
      refine r_callS X dX12_nearestOf_91 zLS_X12_130 zCd_X12_down (c_X12_down _ G z τ ρ _ _ _ _ (by decide)) rfl rfl ⟨⟨rfl, rfl⟩, ⟨by decide, by decide⟩, ⟨Nat.le_of_ble_eq_true rfl, Nat.le_of_ble_eq_true rfl⟩, Nat.le_of_ble_eq_true rfl⟩ ?_
      rintro _ _ ⟨rfl, rfl⟩
      obtain ⟨k, hk⟩ : ∃ k, zDown (p + q + 1) 2 = k := ⟨_, rfl⟩
      rw [hk] at hd ⊢
      refine r_lstore X (by decide) dX12_nearestOf_94 ?_
      have es : (k - 1).toInt = k.toInt - 1 := by rw [zsubJ (x := k) (y := 1) (by rw [show (1 : Int64).toInt = 1 from rfl]; omega) (by rw [show (1 : Int64).toInt = 1 from rfl]; omega)]; rfl
      have ek2 : ((2 : Int64) * k).toInt = 2 * k.toInt := by rw [zmulJ (x := 2) (y := k) (by rw [show (2 : Int64).toInt = 2 from rfl]; omega) (by rw [show (2 : Int64).toInt = 2 from rfl]; omega)]; rfl
      have ekm : ((2 : Int64) * k - 1).toInt = 2 * k.toInt - 1 := by rw [zsubJ (x := 2 * k) (y := 1) (by rw [ek2, show (1 : Int64).toInt = 1 from rfl]; omega) (by rw [ek2, show (1 : Int64).toInt = 1 from rfl]; omega), ek2]; rfl
      have ekk : (((2 : Int64) * k - 1) * (1 : Int32).toInt64).toInt = 2 * k.toInt - 1 := by rw [show (1 : Int32).toInt64 = 1 from rfl, Int64.mul_one, ekm]
      refine r_aload_n X (by rfl) dX12_nearestOf_96 ?_
      refine r_getR X dX12_nearestOf_97 zF_X12_61 ha g19 ?_
      refine r_aload_n X (by rfl) dX12_nearestOf_100 ?_
      refine r_getR X dX12_nearestOf_101 zF_X12_67 ha g21 ?_
      refine r_callS X dX12_nearestOf_104 zLS_X12_118 zCd_X12_copies (c_X12_copies _ G z τ ρ _ _ hon hle dle) rfl rfl ⟨⟨rfl, rfl⟩, ⟨by decide, by decide⟩, ⟨Nat.le_of_ble_eq_true rfl, Nat.le_of_ble_eq_true rfl⟩, Nat.le_of_ble_eq_true rfl⟩ ?_
      rintro _ _ ⟨rfl, k3, rfl, f3, c3⟩
      have v3 : qR (k3 le) 6 = X1 := by rw [qR_congr (g := κ1 on) c3]; exact von
      have h3 : zNo9 (k3 le) := fun j j1 j6 => by rw [c3 j j6]; exact on9 j j1 j6
      refine r_aload_n X (by rfl) dX12_nearestOf_107 ?_
      refine r_getR X dX12_nearestOf_108 zF_X12_67 ha g21 ?_
      refine r_aload_n X (by rfl) dX12_nearestOf_111 ?_
      refine r_getR X dX12_nearestOf_112 zF_X12_64 ha g20 ?_
      refine r_callS X dX12_nearestOf_115 zLS_X12_142 zCd_X12_takes (e_X12_takes _ G z τ ρ _ _ hle hot n11 h3 (by rw [f3 ot (Ne.symm n11)]; exact ot9) (zr0b h3 (by rw [v3]; omega)) (by rw [f3 ot (Ne.symm n11)]; exact zr0b ot9 (by rw [vot]; omega))) rfl rfl ⟨⟨rfl, rfl⟩, ⟨by decide, by decide⟩, ⟨Nat.le_of_ble_eq_true rfl, Nat.le_of_ble_eq_true rfl⟩, Nat.le_of_ble_eq_true rfl⟩ ?_
      rintro _ _ ⟨rfl, k4, rfl, f4, h4, v4⟩
      rw [f3 ot (Ne.symm n11), v3, vot] at v4
      refine r_aload_n X (by rfl) dX12_nearestOf_118 ?_
      refine r_getR X dX12_nearestOf_119 zF_X12_67 ha g21 ?_
      refine r_ldc2 X zK_X12_89 dX12_nearestOf_122 ?_
      refine r_aload_n X (by rfl) dX12_nearestOf_125 ?_
      refine r_getI X dX12_nearestOf_126 zF_X12_7 ha ?_
      refine r_i2l X dX12_nearestOf_129 ?_
      refine r_lmul X dX12_nearestOf_130 ?_
      refine r_callS X dX12_nearestOf_131 zLS_X12_121 zCd_X12_times (e_X12_times _ G z τ ρ _ _ hle _ (by rw [e2L]; omega) (by rw [e2L]; omega) h4 (zr0s h4 (by rw [v4]; have : zTenI ≤ 3 * 1000000000000000000000000000000000000000000000 := (by decide); omega))) rfl rfl ⟨⟨rfl, rfl⟩, ⟨by decide, by decide⟩, ⟨Nat.le_of_ble_eq_true rfl, Nat.le_of_ble_eq_true rfl⟩, Nat.le_of_ble_eq_true rfl⟩ ?_
      rintro _ _ ⟨rfl, k5, rfl, f5, h5, -, v5⟩
      rw [v4, e2L] at v5
      refine r_aload_n X (by rfl) dX12_nearestOf_134 ?_
      refine r_getR X dX12_nearestOf_135 zF_X12_52 ha g16 ?_
      refine r_aload_n X (by rfl) dX12_nearestOf_138 ?_
      refine r_getR X dX12_nearestOf_139 zF_X12_70 ha g22 ?_
      refine r_callS X dX12_nearestOf_142 zLS_X12_118 zCd_X12_copies (c_X12_copiesF _ G z τ ρ _ _ htn hri) rfl rfl ⟨⟨rfl, rfl⟩, ⟨by decide, by decide⟩, ⟨Nat.le_of_ble_eq_true rfl, Nat.le_of_ble_eq_true rfl⟩, Nat.le_of_ble_eq_true rfl⟩ ?_
      rintro _ _ ⟨rfl, k6, rfl, f6, c6⟩
      have v6 : qR (k6 ri) 6 = zTenI := by rw [qR_congr (g := zFz 3) c6]; exact zF3_v
      have h6 : zNo9 (k6 ri) := fun j j1 j6 => by rw [c6 j j6]; exact zF3_9 j j1 j6
      refine r_aload_n X (by rfl) dX12_nearestOf_145 ?_
      refine r_getR X dX12_nearestOf_146 zF_X12_70 ha g22 ?_
      refine r_ldc2 X zK_X12_89 dX12_nearestOf_149 ?_
      refine r_lload X (by rfl) dX12_nearestOf_152 ?_
      refine r_lmul X dX12_nearestOf_154 ?_
      refine r_lconst X 1 (by decide) dX12_nearestOf_155 ?_
      refine r_lsub X dX12_nearestOf_156 ?_
      refine r_iload X (by rfl) dX12_nearestOf_157 ?_
      refine r_i2l X dX12_nearestOf_159 ?_
      refine r_lmul X dX12_nearestOf_160 ?_
      refine r_callS X dX12_nearestOf_161 zLS_X12_121 zCd_X12_times (e_X12_times _ G z τ ρ _ _ hri _ (by rw [ekk]; omega) (by rw [ekk]; omega) h6 (zr0s h6 (by rw [v6]; decide))) rfl rfl ⟨⟨rfl, rfl⟩, ⟨by decide, by decide⟩, ⟨Nat.le_of_ble_eq_true rfl, Nat.le_of_ble_eq_true rfl⟩, Nat.le_of_ble_eq_true rfl⟩ ?_
      rintro _ _ ⟨rfl, k7, rfl, f7, h7, -, v7⟩
      rw [v6, ekk] at v7
      refine r_aload_n X (by rfl) dX12_nearestOf_164 ?_
      refine r_getR X dX12_nearestOf_165 zF_X12_67 ha g21 ?_
      refine r_aload_n X (by rfl) dX12_nearestOf_168 ?_
      refine r_getR X dX12_nearestOf_169 zF_X12_70 ha g22 ?_
      refine r_callS X dX12_nearestOf_172 zLS_X12_145 zCd_X12_isLess (e_X12_isLess _ G z τ ρ _ _ hle hri (by rw [f7 le n12, f6 le n12]; exact h5) h7) rfl rfl ⟨⟨rfl, rfl⟩, ⟨by decide, by decide⟩, ⟨Nat.le_of_ble_eq_true rfl, Nat.le_of_ble_eq_true rfl⟩, Nat.le_of_ble_eq_true rfl⟩ ?_
      rintro _ _ ⟨r2, rfl, rfl, hr2⟩
      rw [f7 le n12, f6 le n12, v5, v7] at hr2
      have hfr8 : (∀ q, q ≠ te → q ≠ sh → q ≠ on → q ≠ ot → q ≠ le → q ≠ ri → k7 q = κ q) := fun q0 q1 q2 q3 q4 q5 q6 => by rw [f7 q0 q6, f6 q0 q6, f5 q0 q5, f4 q0 q5, f3 q0 q5]; exact hfr q0 q1 q2 q3 q4 q5 q6
      have eon : k7 on = κ1 on := by rw [f7 on n13, f6 on n13, f5 on dle, f4 on dle, f3 on dle]
      have eot : k7 ot = κ1 ot := by rw [f7 ot n14, f6 ot n14, f5 ot (Ne.symm n11), f4 ot (Ne.symm n11), f3 ot (Ne.symm n11)]
      refine r_if_eq X 187 dX12_nearestOf_175 (by decide) (fun h175 => ?_) (fun h175 => ?_)
      · have hlo2 : zTenI * (2 * k.toInt - 1) ≤ (X1 - X2) * (2 * (ι a 0).toInt) := by
          rcases hr2 with ⟨h, -⟩ | ⟨-, h⟩
          · rw [h] at h175; exact absurd h175 (by decide)
          · exact h
        refine r_lload X (by rfl) dX12_nearestOf_187 ?_
        refine r_lstore X (by decide) dX12_nearestOf_189 ?_
        refine r_goto X 73 dX12_nearestOf_191 (by decide) ?_
        exact zW.loc7 (by rfl) (by rfl) (by rfl) (by rfl) (by rfl) (by rfl) (by rfl) (ih _ _ _ (by omega) (by omega) (by omega) (by omega) hfr8 (by rw [eon]; exact on9) (by rw [eon]; exact von) (by rw [eot]; exact ot9) (by rw [eot]; exact vot) (by first | exact hlo | exact hlo2) (by first | exact hhi | exact hhi2))
      · have hhi2 : (X1 - X2) * (2 * (ι a 0).toInt) < zTenI * (2 * (k - 1).toInt + 1) := by
          rcases hr2 with ⟨-, h⟩ | ⟨h, -⟩
          · rw [es, show 2 * (k.toInt - 1) + 1 = 2 * k.toInt - 1 by omega]; exact h
          · exact absurd h h175
        refine r_lload X (by rfl) dX12_nearestOf_178 ?_
        refine r_lconst X 1 (by decide) dX12_nearestOf_180 ?_
        refine r_lsub X dX12_nearestOf_181 ?_
        refine r_lstore X (by decide) dX12_nearestOf_182 ?_
        refine r_goto X 191 dX12_nearestOf_184 (by decide) ?_
        refine r_goto X 73 dX12_nearestOf_191 (by decide) ?_
        exact zW.loc7 (by rfl) (by rfl) (by rfl) (by rfl) (by rfl) (by rfl) (by rfl) (ih _ _ _ (by omega) (by omega) (by omega) (by omega) hfr8 (by rw [eon]; exact on9) (by rw [eon]; exact von) (by rw [eot]; exact ot9) (by rw [eot]; exact vot) (by first | exact hlo | exact hlo2) (by first | exact hhi | exact hhi2))
  refine r_lload_n X (by rfl) dX12_nearestOf_0 ?_
  refine r_lload_n X (by rfl) dX12_nearestOf_1 ?_
  refine r_callS X dX12_nearestOf_2 zLS_X12_126 zCd_X12_tens (e_X12_tens _ G z τ ρ _ _ _ (by omega) x1) rfl rfl ⟨⟨rfl, rfl⟩, ⟨by decide, by decide⟩, ⟨Nat.le_of_ble_eq_true rfl, Nat.le_of_ble_eq_true rfl⟩, Nat.le_of_ble_eq_true rfl⟩ ?_
  rintro _ _ ⟨rfl, rfl⟩
  refine r_istore X (by decide) dX12_nearestOf_5 ?_
  refine r_iload X (by rfl) dX12_nearestOf_7 ?_
  refine r_if_le X 45 dX12_nearestOf_9 (by decide) (fun h9 => ?_) (fun h9 => ?_)
  · have hx101 : 101 ≤ x.toInt := by
      rcases Int.lt_or_le x.toInt 101 with q | q
      · rw [if_pos (show x.toInt = 100 by omega)] at h9; exact absurd h9 (by decide)
      · exact q
    refine r_aload_n X (by rfl) dX12_nearestOf_45 ?_
    refine r_lload_n X (by rfl) dX12_nearestOf_46 ?_
    refine r_aload_n X (by rfl) dX12_nearestOf_47 ?_
    refine r_getR X dX12_nearestOf_48 zF_X12_61 ha g19 ?_
    refine r_callV X dX12_nearestOf_51 zLV_X12_134 zCd_X12_logOf (e_X12_logOf _ G z τ ρ _ _ ha g17 g18 hte hsh dts g15 htw hon don dso _ (by omega) (by omega) hex) ha ⟨by decide, rfl, rfl⟩ rfl rfl ⟨⟨rfl, rfl⟩, ⟨by decide, by decide⟩, ⟨Nat.le_of_ble_eq_true rfl, Nat.le_of_ble_eq_true rfl⟩, Nat.le_of_ble_eq_true rfl⟩ ?_
    rintro _ _ ⟨rfl, k1, rfl, f1, p9, hX1⟩
    refine r_aload_n X (by rfl) dX12_nearestOf_54 ?_
    refine r_lload_n X (by rfl) dX12_nearestOf_55 ?_
    refine r_aload_n X (by rfl) dX12_nearestOf_56 ?_
    refine r_getR X dX12_nearestOf_57 zF_X12_64 ha g20 ?_
    refine r_callV X dX12_nearestOf_60 zLV_X12_134 zCd_X12_logOf (e_X12_logOf _ G z τ ρ _ _ ha g17 g18 hte hsh dts g15 htw hot dot dso2 _ (by decide) (by decide) (by rw [show Int64.toInt 100 = 100 from rfl]; exact hey)) ha ⟨by decide, rfl, rfl⟩ rfl rfl ⟨⟨rfl, rfl⟩, ⟨by decide, by decide⟩, ⟨Nat.le_of_ble_eq_true rfl, Nat.le_of_ble_eq_true rfl⟩, Nat.le_of_ble_eq_true rfl⟩ ?_
    rintro _ _ ⟨rfl, k2, rfl, f2, q9, hX2⟩
    obtain ⟨X1, hX1e⟩ : ∃ X1, qR (k1 on) 6 = X1 := ⟨_, rfl⟩
    obtain ⟨X2, hX2e⟩ : ∃ X2, qR (k2 ot) 6 = X2 := ⟨_, rfl⟩
    rw [hX1e] at hX1
    rw [hX2e, show Int64.toInt 100 = 100 from rfl] at hX2
    have g1 : zLgR x.toInt X1 := hX1
    have g2 : zLgR 100 X2 := hX2
    have hXX := hX X1 X2 hx101 g1 g2
    have b1 := zLgR_b g1 (by omega)
    have b2 := zLgR_b g2 (by omega)
    refine r_ldc2 X zK_X12_138 dX12_nearestOf_63 ?_
    refine r_lstore X (by decide) dX12_nearestOf_66 ?_
    refine r_ldc2 X zK_X12_140 dX12_nearestOf_68 ?_
    refine r_lstore X (by decide) dX12_nearestOf_71 ?_
    exact zW.loc7 (by rfl) (by rfl) (by rfl) (by rfl) (by rfl) (by rfl) (by rfl) (L73 hx101 _ X1 X2 g1 g2 800001 _ _ _ (by decide) (by decide) (by decide) (by decide) (fun q q1 q2 q3 q4 q5 q6 => by rw [f2 q q1 q2 q4, f1 q q1 q2 q3]) (by rw [f2 on (Ne.symm don) (Ne.symm dso) n5]; exact p9) (by rw [f2 on (Ne.symm don) (Ne.symm dso) n5]; exact hX1e) q9 hX2e (by have h8 : 0 ≤ (X1 - X2) * (2 * (ι a 0).toInt) := Int.mul_nonneg hXX.1 (by omega); exact Int.le_trans (by decide) h8) (by have h8 : (X1 - X2) * (2 * (ι a 0).toInt) ≤ zTenI * 100000 := Int.mul_le_mul hXX.2 (by omega) (by omega) (by decide); exact Int.lt_of_le_of_lt h8 (by decide)))
  · have hx100 : x.toInt = 100 := by
      rcases Int.lt_or_le x.toInt 101 with q | q
      · omega
      · rw [if_neg (show ¬ x.toInt = 100 by omega)] at h9; exact absurd h9 (by decide)
    refine r_ldc2 X zK_X12_89 dX12_nearestOf_12 ?_
    refine r_aload_n X (by rfl) dX12_nearestOf_15 ?_
    refine r_getI X dX12_nearestOf_16 zF_X12_7 ha ?_
    refine r_i2l X dX12_nearestOf_19 ?_
    refine r_lmul X dX12_nearestOf_20 ?_
    refine r_iload X (by rfl) dX12_nearestOf_21 ?_
    refine r_sipush X 1000 (by decide) dX12_nearestOf_23 ?_
    refine r_isub X dX12_nearestOf_26 ?_
    refine r_i2l X dX12_nearestOf_27 ?_
    refine r_lmul X dX12_nearestOf_28 ?_
    refine r_iload X (by rfl) dX12_nearestOf_29 ?_
    refine r_i2l X dX12_nearestOf_31 ?_
    refine r_ladd X dX12_nearestOf_32 ?_
    refine r_ldc2 X zK_X12_89 dX12_nearestOf_33 ?_
    refine r_iload X (by rfl) dX12_nearestOf_36 ?_
    refine r_i2l X dX12_nearestOf_38 ?_
    refine r_lmul X dX12_nearestOf_39 ?_
    refine r_callS X dX12_nearestOf_40 zLS_X12_130 zCd_X12_down (c_X12_down _ G z τ ρ _ _ _ _ (by decide)) rfl rfl ⟨⟨rfl, rfl⟩, ⟨by decide, by decide⟩, ⟨Nat.le_of_ble_eq_true rfl, Nat.le_of_ble_eq_true rfl⟩, Nat.le_of_ble_eq_true rfl⟩ ?_
    rintro _ _ ⟨rfl, rfl⟩
    refine r_l2i X dX12_nearestOf_43 ?_
    refine r_ireturn X hR dX12_nearestOf_44 rfl (Nat.zero_le _) (Nat.zero_le _) ?_
    refine ⟨_, _, rfl, rfl, Or.inl ⟨hx100, ?_⟩⟩
    rw [if_pos hx100, show ((1000 : Int32) - 1000).toInt64 = 0 from rfl, Int64.mul_zero, show (0 : Int64) + (1 : Int32).toInt64 = 1 from rfl]
    rfl
