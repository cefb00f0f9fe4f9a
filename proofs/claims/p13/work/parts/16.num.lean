/-! the model: numbers (wip/gen/spec_g.py) -/
def zNo (f : Nat → Int64) (M : Int) : Prop := 0 ≤ (f 0).toInt ∧ (f 0).toInt ≤ M ∧ ∀ k, 1 ≤ k → k < 6 → 0 ≤ (f k).toInt ∧ (f k).toInt < 1000000000
def qR (f : Nat → Int64) : Nat → Int
  | 0 => 0
  | d + 1 => qR f d * 1000000000 + (f d).toInt
def qU : Nat → Int
  | 0 => 1
  | d + 1 => 1000000000 * qU d
def qP (f : Nat → Int64) : Nat → Int
  | 0 => 0
  | d + 1 => qP f d + (f (5 - d)).toInt * qU d
theorem zNo.le {f : Nat → Int64} {M M2 : Int} (h : zNo f M) (h2 : M ≤ M2) : zNo f M2 := ⟨h.1, Int.le_trans h.2.1 h2, h.2.2⟩
theorem zNo_at {f : Nat → Int64} {M : Int} (h : zNo f M) {k : Nat} (hk : k < 6) : 0 ≤ (f k).toInt ∧ (f k).toInt ≤ max M 999999999 ∧ (1 ≤ k → (f k).toInt < 1000000000) := by
  by_cases q : k = 0
  · subst q; exact ⟨h.1, by have := h.2.1; omega, fun h => by omega⟩
  · have := h.2.2 k (by omega) hk
    exact ⟨this.1, by omega, fun _ => this.2⟩
theorem qR_congr {f g : Nat → Int64} {d : Nat} (h : ∀ k, k < d → f k = g k) : qR f d = qR g d := by
  induction d with
  | zero => rfl
  | succ d ih => rw [qR, qR, ih (fun k hk => h k (by omega)), h d (by omega)]
theorem qP_congr {f g : Nat → Int64} {d : Nat} (hd : d ≤ 5) (h : ∀ k, 5 - d < k → k < 6 → f k = g k) : qP f d = qP g d := by
  induction d with
  | zero => rfl
  | succ d ih => rw [qP, qP, ih (by omega) (fun k hk h6 => h k (by omega) h6), h (5 - d) (by omega) (by omega)]
theorem qR_P (f : Nat → Int64) : qR f 6 = (f 0).toInt * 1000000000000000000000000000000000000000000000 + qP f 5 := by
  simp only [qR, qP, qU, Nat.reduceSub, Nat.sub_zero]
  omega
theorem ztstep {k x c U : Int64} (hU : U.toInt = 1000000000) (x0 : 0 ≤ x.toInt) (x1 : x.toInt ≤ 1000000) (k0 : 0 ≤ k.toInt) (k1 : k.toInt < 1000000000) (c0 : 0 ≤ c.toInt) (c1 : c.toInt ≤ x.toInt) : 0 ≤ (k * x + c).toInt ∧ 0 ≤ ((k * x + c) / U).toInt ∧ ((k * x + c) / U).toInt ≤ x.toInt ∧ 0 ≤ (k * x + c - (k * x + c) / U * U).toInt ∧ (k * x + c - (k * x + c) / U * U).toInt < 1000000000 ∧ ∀ P1 P u : Int, P1 + c.toInt * u = x.toInt * P → P1 + (k * x + c - (k * x + c) / U * U).toInt * u + ((k * x + c) / U).toInt * (1000000000 * u) = x.toInt * (P + k.toInt * u) := by
  have hm1 : 0 ≤ k.toInt * x.toInt := Int.mul_nonneg k0 x0
  have hm2 : k.toInt * x.toInt ≤ 999999999 * x.toInt := Int.mul_le_mul_of_nonneg_right (by omega) x0
  have ew1 : (k * x).toInt = k.toInt * x.toInt := zmulJ (by omega) (by omega)
  have ew : (k * x + c).toInt = k.toInt * x.toInt + c.toInt := by rw [zaddJ (x := k * x) (y := c) (by omega) (by omega), ew1]
  generalize k * x + c = w at *
  have eq : (w / U).toInt = w.toInt / 1000000000 := by rw [zdivJ (x := w) (y := U) (by omega) (by omega), hU]
  have eq2 : (w / U * U).toInt = w.toInt / 1000000000 * 1000000000 := by rw [zmulJ (x := w / U) (y := U) (by rw [eq, hU]; omega) (by rw [eq, hU]; omega), eq, hU]
  have en : (w - w / U * U).toInt = w.toInt - w.toInt / 1000000000 * 1000000000 := by rw [zsubJ (x := w) (y := w / U * U) (by omega) (by omega), eq2]
  refine ⟨by omega, by omega, by omega, by omega, by omega, fun P1 P u h => ?_⟩
  rw [eq, en]
  generalize w.toInt / 1000000000 = q
  have e1 : (w.toInt - q * 1000000000) * u + q * (1000000000 * u) = w.toInt * u := by rw [Int.sub_mul, Int.mul_assoc]; omega
  have e2 : w.toInt * u = x.toInt * (k.toInt * u) + c.toInt * u := by rw [ew, Int.add_mul, Int.mul_comm k.toInt x.toInt, Int.mul_assoc]
  rw [Int.mul_add]
  omega
theorem zdstep {c k x U : Int64} {A B : Int} {i : Nat} (hU : U.toInt = 1000000000) (x0 : 1 ≤ x.toInt) (x1 : x.toInt ≤ 2000000) (c0 : 0 ≤ c.toInt) (c1 : c.toInt < x.toInt) (hc : i = 0 → c.toInt = 0) (hb0 : 0 ≤ k.toInt ∧ k.toInt ≤ 1000000000000000 ∧ (1 ≤ i → k.toInt < 1000000000)) (h : A = x.toInt * B + c.toInt) : (0 ≤ ((c * U + k) / x).toInt ∧ ((c * U + k) / x).toInt ≤ 1000000000000000 ∧ (1 ≤ i → ((c * U + k) / x).toInt < 1000000000)) ∧ 0 ≤ (c * U + k - (c * U + k) / x * x).toInt ∧ (c * U + k - (c * U + k) / x * x).toInt < x.toInt ∧ A * 1000000000 + k.toInt = x.toInt * (B * 1000000000 + ((c * U + k) / x).toInt) + (c * U + k - (c * U + k) / x * x).toInt := by
  have ew1 : (c * U).toInt = c.toInt * 1000000000 := by rw [← hU]; exact zmulJ (by rw [hU]; omega) (by rw [hU]; omega)
  have ew : (c * U + k).toInt = c.toInt * 1000000000 + k.toInt := by rw [zaddJ (x := c * U) (y := k) (by omega) (by omega), ew1]
  generalize c * U + k = w at *
  have ed : (w / x).toInt = w.toInt / x.toInt := zdivJ (by omega) (by omega)
  have hr1 := Int.emod_nonneg w.toInt (show x.toInt ≠ 0 by omega)
  have hr2 := Int.emod_lt_of_pos w.toInt (show 0 < x.toInt by omega)
  have hq1 : 0 ≤ w.toInt / x.toInt := Int.ediv_nonneg (by omega) (by omega)
  have hq3 : 1 ≤ i → w.toInt / x.toInt < 1000000000 := fun h => Int.ediv_lt_of_lt_mul (by omega) (by have := hb0.2.2 h; omega)
  have hq2 : w.toInt / x.toInt ≤ 1000000000000000 := by
    by_cases h : 1 ≤ i
    · have := hq3 h; omega
    · have hc0 := hc (by omega)
      have := Int.ediv_le_self (b := x.toInt) (a := w.toInt) (by omega)
      omega
  have h1 := Int.mul_ediv_add_emod w.toInt x.toInt
  rw [Int.mul_comm] at h1
  have em : (w / x * x).toInt = w.toInt / x.toInt * x.toInt := by rw [zmulJ (x := w / x) (y := x) (by rw [ed]; omega) (by rw [ed]; omega), ed]
  have er : (w - w / x * x).toInt = w.toInt % x.toInt := by rw [zsubJ (x := w) (y := w / x * x) (by omega) (by omega), em]; omega
  rw [ed, er]
  refine ⟨⟨hq1, hq2, hq3⟩, hr1, hr2, ?_⟩
  have h1 := Int.mul_ediv_add_emod w.toInt x.toInt
  rw [Int.mul_add, ← Int.mul_assoc]
  omega
theorem zdec5 {i : Int32} (h : 1 ≤ i.toInt) (h5 : i.toInt ≤ 5) : 5 - (i + -1).toNatClampNeg = 5 - i.toNatClampNeg + 1 := by
  have e2 := zadd_c (x := i) (-1) (-1) rfl (by omega) (by omega)
  generalize i + -1 = j at *
  have h1 := zclN (i := i) (by omega)
  have h2 := zclN (i := j) (by omega)
  omega
theorem zendT {A c k x B : Int} (h : A + c * qU 5 = x * B) : (k * x + c) * 1000000000000000000000000000000000000000000000 + A = (k * 1000000000000000000000000000000000000000000000 + B) * x := by
  have h2 : A + c * 1000000000000000000000000000000000000000000000 = x * B := h
  have e : (k * 1000000000000000000000000000000000000000000000 + B) * x = k * x * 1000000000000000000000000000000000000000000000 + x * B := by rw [Int.add_mul, Int.mul_right_comm, Int.mul_comm B x]
  rw [e]
  omega
theorem qR_pos {f : Nat → Int64} {M : Int} (h : zNo f M) : 0 ≤ qR f 6 := by
  have h0 := h.1
  have h1 := h.2.2 1 (by decide) (by decide)
  have h2 := h.2.2 2 (by decide) (by decide)
  have h3 := h.2.2 3 (by decide) (by decide)
  have h4 := h.2.2 4 (by decide) (by decide)
  have h5 := h.2.2 5 (by decide) (by decide)
  simp only [qR]
  omega
theorem qR_ne {f : Nat → Int64} {M : Int} (h : zNo f M) (hk : ∃ k, k < 6 ∧ ¬ (f k).toInt = 0) : 0 < qR f 6 := by
  have h0 := h.1
  have h1 := h.2.2 1 (by decide) (by decide)
  have h2 := h.2.2 2 (by decide) (by decide)
  have h3 := h.2.2 3 (by decide) (by decide)
  have h4 := h.2.2 4 (by decide) (by decide)
  have h5 := h.2.2 5 (by decide) (by decide)
  obtain ⟨k, k6, hk⟩ := hk
  have hc : k = 0 ∨ k = 1 ∨ k = 2 ∨ k = 3 ∨ k = 4 ∨ k = 5 := by omega
  simp only [qR]
  rcases hc with rfl | rfl | rfl | rfl | rfl | rfl <;> omega
/-- what is no more keeps the first figure small -/
theorem zNo_fall {f g : Nat → Int64} {M M2 : Int} (h : zNo f M) (h2 : zNo g M2) (hle : qR g 6 ≤ qR f 6) : zNo g M := by
  refine ⟨h2.1, ?_, h2.2.2⟩
  have h0 := h.2.1
  have h1 := h.2.2 1 (by decide) (by decide)
  have h2' := h.2.2 2 (by decide) (by decide)
  have h3 := h.2.2 3 (by decide) (by decide)
  have h4 := h.2.2 4 (by decide) (by decide)
  have h5 := h.2.2 5 (by decide) (by decide)
  have g1 := h2.2.2 1 (by decide) (by decide)
  have g2 := h2.2.2 2 (by decide) (by decide)
  have g3 := h2.2.2 3 (by decide) (by decide)
  have g4 := h2.2.2 4 (by decide) (by decide)
  have g5 := h2.2.2 5 (by decide) (by decide)
  simp only [qR] at hle
  omega
theorem zNo_down {f g : Nat → Int64} {M M2 n : Int} (h : zNo f M) (h2 : zNo g M2) (hn : 1 ≤ n) (hT : n * qR g 6 ≤ qR f 6) : zNo g M := by
  have h3 := qR_pos h2
  exact zNo_fall h h2 (Int.le_trans (by have := Int.mul_le_mul_of_nonneg_right hn h3; omega) hT)
theorem zfall {T T2 a b : Int} (h : b * T2 ≤ T * a) (h0 : 0 ≤ a) (hab : a < b) (hT : 0 ≤ T) : T2 ≤ T := by
  refine Int.not_lt.mp fun q => ?_
  have h1 : b * (T + 1) ≤ b * T2 := Int.mul_le_mul_of_nonneg_left (by omega) (by omega)
  have h2 : T * a ≤ T * b := Int.mul_le_mul_of_nonneg_left (by omega) hT
  rw [Int.mul_add, Int.mul_comm b T] at h1
  omega
theorem zfall_lt {T T2 a b : Int} (h : b * T2 ≤ T * a) (h0 : 0 ≤ a) (hab : a < b) (hT : 0 < T) : T2 < T := by
  refine Int.not_le.mp fun q => ?_
  have h1 : b * T ≤ b * T2 := Int.mul_le_mul_of_nonneg_left q (by omega)
  have h2 : T * (a + 1) ≤ T * b := Int.mul_le_mul_of_nonneg_left (by omega) (by omega)
  rw [Int.mul_add, Int.mul_comm T b] at h2
  omega
theorem zodd_ne {y : Int64} (h : y.toInt % 2 = 1) : ¬ y = 0 := fun q => by
  rw [q, show Int64.toInt 0 = 0 from rfl] at h
  omega
theorem zodd_2 {y : Int64} (h : y.toInt % 2 = 1) : (y + 2).toInt % 2 = 1 := by
  rw [Int64.toInt_add, show (2 : Int64).toInt = 2 from rfl, Int.bmod_def]
  omega
def zDown (x y : Int64) : Int64 := if 0 ≤ x.toInt then x / y else -((y - 1 - x) / y)
theorem zhalfD {p q : Int64} (h0 : -400000 ≤ p.toInt) (h2 : q.toInt ≤ 400000) (h : p.toInt < q.toInt) : p.toInt < (zDown (p + q + 1) 2).toInt ∧ (zDown (p + q + 1) 2).toInt ≤ q.toInt := by
  have e1 : (p + q).toInt = p.toInt + q.toInt := zaddJ (by omega) (by omega)
  have e2 : (p + q + 1).toInt = p.toInt + q.toInt + 1 := by rw [zaddJ (by rw [e1, show (1 : Int64).toInt = 1 from rfl]; omega) (by rw [e1, show (1 : Int64).toInt = 1 from rfl]; omega), e1]; rfl
  unfold zDown
  by_cases c : 0 ≤ (p + q + 1).toInt
  · rw [if_pos c, zdivJ c (by decide), e2, show (2 : Int64).toInt = 2 from rfl]
    omega
  · rw [if_neg c]
    have e3 : ((2 : Int64) - 1 - (p + q + 1)).toInt = 1 - (p.toInt + q.toInt + 1) := by rw [show (2 : Int64) - 1 = 1 from rfl, zsubJ (by rw [e2, show (1 : Int64).toInt = 1 from rfl]; omega) (by rw [e2, show (1 : Int64).toInt = 1 from rfl]; omega), e2]; rfl
    have e4 : (((2 : Int64) - 1 - (p + q + 1)) / 2).toInt = (1 - (p.toInt + q.toInt + 1)) / 2 := by rw [zdivJ (by rw [e3]; omega) (by decide), e3]; rfl
    rw [Int64.toInt_neg, e4, Int.bmod_eq_of_le (by omega) (by omega)]
    omega
set_option maxHeartbeats 4000000 in
set_option maxRecDepth 100000 in
theorem c_X12_in (l : Launch) (G : zG) (z : Nat) (τ : Nat → Option (Nat × Nat)) (ρ : Nat → Nat → Option Nat) (ι : Nat → Nat → Int32) (κ : Nat → Nat → Int64) (x y u : Int64) : zM l G yX12_in cX12_in 6 (some .boolean) ({ frames := 0, cells := 0, slots := 0, locals := 0 } : Room) [.long x, .long y, .long u] (z, τ, ρ, ι, κ) (fun v s => v = some (.int (if y.toInt ≤ x.toInt ∧ x.toInt ≤ u.toInt then 1 else 0)) ∧ s = (z, τ, ρ, ι, κ)) 0 0 := by
  refine zM_of zCd_X12_in (Nat.le_of_ble_eq_true rfl) ?_
  intro E X hR hE
  subst hE
  show zW E G 6 (z, τ, ρ, ι, κ) 0 0 0 [(0, .long x), (2, .long y), (4, .long u)] []
  refine r_lload_n X (by rfl) dX12_in_0 ?_
  refine r_lload_n X (by rfl) dX12_in_1 ?_
  refine r_lcmp_lt X 17 dX12_in_2 dX12_in_3 (by decide) (fun h2 => ?_) (fun h2 => ?_)
  · refine r_iconst X 0 (by decide) dX12_in_17 ?_
    refine r_ireturn X hR dX12_in_18 rfl (Nat.zero_le _) (Nat.zero_le _) ?_
    exact ⟨by first | rw [if_pos (by omega)] | rw [if_neg (by omega)], rfl⟩
  · refine r_lload_n X (by rfl) dX12_in_6 ?_
    refine r_lload X (by rfl) dX12_in_7 ?_
    refine r_lcmp_gt X 17 dX12_in_9 dX12_in_10 (by decide) (fun h9 => ?_) (fun h9 => ?_)
    · refine r_iconst X 0 (by decide) dX12_in_17 ?_
      refine r_ireturn X hR dX12_in_18 rfl (Nat.zero_le _) (Nat.zero_le _) ?_
      exact ⟨by first | rw [if_pos (by omega)] | rw [if_neg (by omega)], rfl⟩
    · refine r_iconst X 1 (by decide) dX12_in_13 ?_
      refine r_goto X 18 dX12_in_14 (by decide) ?_
      refine r_ireturn X hR dX12_in_18 rfl (Nat.zero_le _) (Nat.zero_le _) ?_
      exact ⟨by first | rw [if_pos (by omega)] | rw [if_neg (by omega)], rfl⟩
set_option maxHeartbeats 4000000 in
set_option maxRecDepth 100000 in
theorem c_X12_size (l : Launch) (G : zG) (z : Nat) (τ : Nat → Option (Nat × Nat)) (ρ : Nat → Nat → Option Nat) (ι : Nat → Nat → Int32) (κ : Nat → Nat → Int64) (x : Int32) : zM l G yX12_size cX12_size 1 (some .int) ({ frames := 0, cells := 0, slots := 0, locals := 0 } : Room) [.int x] (z, τ, ρ, ι, κ) (fun v s => v = some (.int (if x.toInt < 0 then -x else x)) ∧ s = (z, τ, ρ, ι, κ)) 0 0 := by
  refine zM_of zCd_X12_size (Nat.le_of_ble_eq_true rfl) ?_
  intro E X hR hE
  subst hE
  show zW E G 1 (z, τ, ρ, ι, κ) 0 0 0 [(0, .int x)] []
  refine r_iload_n X (by rfl) dX12_size_0 ?_
  refine r_if_ge X 9 dX12_size_1 (by decide) (fun h1 => ?_) (fun h1 => ?_)
  · refine r_iload_n X (by rfl) dX12_size_9 ?_
    refine r_ireturn X hR dX12_size_10 rfl (Nat.zero_le _) (Nat.zero_le _) ?_
    exact ⟨by first | rw [if_pos (by omega)] | rw [if_neg (by omega)], rfl⟩
  · refine r_iload_n X (by rfl) dX12_size_4 ?_
    refine r_ineg X dX12_size_5 ?_
    refine r_goto X 10 dX12_size_6 (by decide) ?_
    refine r_ireturn X hR dX12_size_10 rfl (Nat.zero_le _) (Nat.zero_le _) ?_
    exact ⟨by first | rw [if_pos (by omega)] | rw [if_neg (by omega)], rfl⟩
set_option maxHeartbeats 4000000 in
set_option maxRecDepth 100000 in
theorem c_X12_sets (l : Launch) (G : zG) (z : Nat) (τ : Nat → Option (Nat × Nat)) (ρ : Nat → Nat → Option Nat) (ι : Nat → Nat → Int32) (κ : Nat → Nat → Int64) {a : Nat} (ha : τ a = some (14, 6)) (x : Int64) : zM l G yX12_sets cX12_sets 4 none ({ frames := 0, cells := 0, slots := 0, locals := 0 } : Room) [.ref a, .long x] (z, τ, ρ, ι, κ) (fun v s => v = none ∧ ∃ κ2, s = (z, τ, ρ, ι, κ2) ∧ (∀ q, q ≠ a → κ2 q = κ q) ∧ κ2 a 0 = x ∧ ∀ k, 1 ≤ k → k < 6 → κ2 a k = 0) 0 0 := by
  refine zM_of zCd_X12_sets (Nat.le_of_ble_eq_true rfl) ?_
  intro E X hR hE
  subst hE
  show zW E G 4 (z, τ, ρ, ι, κ) 0 0 0 [(0, .ref a), (1, .long x)] []
  have L2 : ∀ (m : Nat) (i : Int32) (κ1 : Nat → Nat → Int64), (6 - i.toInt).toNat < m → 0 ≤ i.toInt → (∀ q, q ≠ a → κ1 q = κ q) → (∀ k : Nat, (k : Int) < i.toInt → k < 6 → κ1 a k = 0) → zW E G 4 (z, τ, ρ, ι, κ1) 0 0 2 [(0, .ref a), (1, .long x), (3, .int i)] [] := by
    intro m
    induction m with
    | zero => intro i κ1 h; omega
    | succ m ih => ?_
    intro i κ1 hm h0 hf hz
    refine r_iload_n X (by rfl) dX12_sets_2 ?_
    refine r_bipush X 6 (by decide) dX12_sets_3 ?_
    refine r_icmp_ge X 18 dX12_sets_5 (by decide) (fun h5 => ?_) (fun h5 => ?_)
    · rw [show Int32.toInt 6 = 6 from rfl] at h5
      refine r_aload_n X (by rfl) dX12_sets_18 ?_
      refine r_iconst X 0 (by decide) dX12_sets_19 ?_
      refine r_lload_n X (by rfl) dX12_sets_20 ?_
      refine r_lastore X dX12_sets_21 ha (vp_in_iff.mpr ⟨by decide, by decide⟩) ?_
      refine r_return X hR dX12_sets_22 (Nat.zero_le _) (Nat.zero_le _) ?_
      exact ⟨rfl, _, rfl, fun q hq => by rw [zu_r hq]; exact hf q hq, by rw [show Int32.toNatClampNeg 0 = 0 from rfl, zu_s], fun k h1 h6 => by rw [zu_k (show k ≠ Int32.toNatClampNeg 0 by rw [show Int32.toNatClampNeg 0 = 0 from rfl]; omega)]; exact hz k (by omega) h6⟩
    · rw [show Int32.toInt 6 = 6 from rfl] at h5
      refine r_aload_n X (by rfl) dX12_sets_8 ?_
      refine r_iload_n X (by rfl) dX12_sets_9 ?_
      refine r_lconst X 0 (by decide) dX12_sets_10 ?_
      refine r_lastore X dX12_sets_11 ha (vp_in_iff.mpr ⟨h0, by omega⟩) ?_
      refine r_iinc X 1 (by decide) (by rfl) (by decide) dX12_sets_12 ?_
      refine r_goto X 2 dX12_sets_15 (by decide) ?_
      exact zW.loc3 (by rfl) (by rfl) (by rfl) (ih _ _ (by have e := zinc (x := i) (by omega); omega) (by have e := zinc (x := i) (by omega); omega) (fun q hq => by rw [zu_r hq]; exact hf q hq) (fun k hk hk6 => by
        have e := zinc (x := i) (by omega)
        by_cases q : k = i.toNatClampNeg
        · subst q; rw [zu_s]
        · rw [zu_k q]; exact hz k (by have := zclN h0; omega) hk6))
  refine r_iconst X 0 (by decide) dX12_sets_0 ?_
  refine r_istore_n X (by decide) dX12_sets_1 ?_
  exact zW.loc3 (by rfl) (by rfl) (by rfl) (L2 7 _ _ (by decide) (by decide) (fun _ _ => rfl) (fun k hk _ => by rw [show Int32.toInt 0 = 0 from rfl] at hk; omega))
set_option maxHeartbeats 4000000 in
set_option maxRecDepth 100000 in
theorem c_X12_copies (l : Launch) (G : zG) (z : Nat) (τ : Nat → Option (Nat × Nat)) (ρ : Nat → Nat → Option Nat) (ι : Nat → Nat → Int32) (κ : Nat → Nat → Int64) {a : Nat} (ha : τ a = some (14, 6)) {b : Nat} (hb : τ b = some (14, 6)) (dab : a ≠ b) : zM l G yX12_copies cX12_copies 3 none ({ frames := 0, cells := 0, slots := 0, locals := 0 } : Room) [.ref a, .ref b] (z, τ, ρ, ι, κ) (fun v s => v = none ∧ ∃ κ2, s = (z, τ, ρ, ι, κ2) ∧ (∀ q, q ≠ b → κ2 q = κ q) ∧ ∀ k, k < 6 → κ2 b k = κ a k) 0 0 := by
  refine zM_of zCd_X12_copies (Nat.le_of_ble_eq_true rfl) ?_
  intro E X hR hE
  subst hE
  show zW E G 3 (z, τ, ρ, ι, κ) 0 0 0 [(0, .ref a), (1, .ref b)] []
  have L2 : ∀ (m : Nat) (i : Int32) (κ1 : Nat → Nat → Int64), (6 - i.toInt).toNat < m → 0 ≤ i.toInt → (∀ q, q ≠ b → κ1 q = κ q) → (∀ k : Nat, (k : Int) < i.toInt → k < 6 → κ1 b k = κ a k) → zW E G 3 (z, τ, ρ, ι, κ1) 0 0 2 [(0, .ref a), (1, .ref b), (2, .int i)] [] := by
    intro m
    induction m with
    | zero => intro i κ1 h; omega
    | succ m ih => ?_
    intro i κ1 hm h0 hf hz
    refine r_iload_n X (by rfl) dX12_copies_2 ?_
    refine r_bipush X 6 (by decide) dX12_copies_3 ?_
    refine r_icmp_ge X 20 dX12_copies_5 (by decide) (fun h5 => ?_) (fun h5 => ?_)
    · rw [show Int32.toInt 6 = 6 from rfl] at h5
      refine r_return X hR dX12_copies_20 (Nat.zero_le _) (Nat.zero_le _) ?_
      exact ⟨rfl, _, rfl, hf, fun k hk => hz k (by omega) hk⟩
    · rw [show Int32.toInt 6 = 6 from rfl] at h5
      refine r_aload_n X (by rfl) dX12_copies_8 ?_
      refine r_iload_n X (by rfl) dX12_copies_9 ?_
      refine r_aload_n X (by rfl) dX12_copies_10 ?_
      refine r_iload_n X (by rfl) dX12_copies_11 ?_
      refine r_laload X dX12_copies_12 ha (vp_in_iff.mpr ⟨h0, by omega⟩) ?_
      refine r_lastore X dX12_copies_13 hb (vp_in_iff.mpr ⟨h0, by omega⟩) ?_
      refine r_iinc X 1 (by decide) (by rfl) (by decide) dX12_copies_14 ?_
      refine r_goto X 2 dX12_copies_17 (by decide) ?_
      exact zW.loc3 (by rfl) (by rfl) (by rfl) (ih _ _ (by have e := zinc (x := i) (by omega); omega) (by have e := zinc (x := i) (by omega); omega) (fun q hq => by rw [zu_r hq]; exact hf q hq) (fun k hk hk6 => by
        have e := zinc (x := i) (by omega)
        by_cases q : k = i.toNatClampNeg
        · subst q; rw [zu_s, hf a dab]
        · rw [zu_k q]; exact hz k (by have := zclN h0; omega) hk6))
  refine r_iconst X 0 (by decide) dX12_copies_0 ?_
  refine r_istore_n X (by decide) dX12_copies_1 ?_
  exact zW.loc3 (by rfl) (by rfl) (by rfl) (L2 7 _ _ (by decide) (by decide) (fun _ _ => rfl) (fun k hk _ => by rw [show Int32.toInt 0 = 0 from rfl] at hk; omega))
set_option maxHeartbeats 4000000 in
set_option maxRecDepth 100000 in
theorem c_X12_adds (l : Launch) (G : zG) (z : Nat) (τ : Nat → Option (Nat × Nat)) (ρ : Nat → Nat → Option Nat) (ι : Nat → Nat → Int32) (κ : Nat → Nat → Int64) {a : Nat} (ha : τ a = some (14, 6)) {b : Nat} (hb : τ b = some (14, 6)) : zM l G yX12_adds cX12_adds 7 none ({ frames := 0, cells := 0, slots := 0, locals := 0 } : Room) [.ref a, .ref b] (z, τ, ρ, ι, κ) (fun v s => v = none ∧ ∃ κ2, s = (z, τ, ρ, ι, κ2) ∧ (∀ q, q ≠ a → κ2 q = κ q)) 0 0 := by
  refine zM_of zCd_X12_adds (Nat.le_of_ble_eq_true rfl) ?_
  intro E X hR hE
  subst hE
  show zW E G 7 (z, τ, ρ, ι, κ) 0 0 0 [(0, .ref a), (1, .ref b)] []
  have L5 : ∀ (m : Nat) (i : Int32) (c : Int64) (κ1 : Nat → Nat → Int64), (i.toInt + 1).toNat < m → i.toInt ≤ 5 → (∀ q, q ≠ a → κ1 q = κ q) → zW E G 7 (z, τ, ρ, ι, κ1) 0 0 5 [(0, .ref a), (1, .ref b), (2, .long c), (4, .int i)] [] := by
    intro m
    induction m with
    | zero => intro i c κ1 h; omega
    | succ m ih => ?_
    intro i c κ1 hm h0 hf
    refine r_iload X (by rfl) dX12_adds_5 ?_
    refine r_if_lt X 61 dX12_adds_7 (by decide) (fun h7 => ?_) (fun h7 => ?_)
    · refine r_return X hR dX12_adds_61 (Nat.zero_le _) (Nat.zero_le _) ?_
      exact ⟨rfl, _, rfl, hf⟩
    · refine r_aload_n X (by rfl) dX12_adds_10 ?_
      refine r_iload X (by rfl) dX12_adds_11 ?_
      refine r_laload X dX12_adds_13 ha (vp_in_iff.mpr ⟨by omega, by omega⟩) ?_
      refine r_aload_n X (by rfl) dX12_adds_14 ?_
      refine r_iload X (by rfl) dX12_adds_15 ?_
      refine r_laload X dX12_adds_17 hb (vp_in_iff.mpr ⟨by omega, by omega⟩) ?_
      refine r_ladd X dX12_adds_18 ?_
      refine r_lload_n X (by rfl) dX12_adds_19 ?_
      refine r_ladd X dX12_adds_20 ?_
      refine r_lstore X (by decide) dX12_adds_21 ?_
      refine r_lconst X 0 (by decide) dX12_adds_23 ?_
      refine r_lstore_n X (by decide) dX12_adds_24 ?_
      refine r_iload X (by rfl) dX12_adds_25 ?_
      refine r_if_le X 49 dX12_adds_27 (by decide) (fun h27 => ?_) (fun h27 => ?_)
      · refine r_aload_n X (by rfl) dX12_adds_49 ?_
        refine r_iload X (by rfl) dX12_adds_50 ?_
        refine r_lload X (by rfl) dX12_adds_52 ?_
        refine r_lastore X dX12_adds_54 ha (vp_in_iff.mpr ⟨by omega, by omega⟩) ?_
        refine r_iinc X (-1) (by decide) (by rfl) (by decide) dX12_adds_55 ?_
        refine r_goto X 5 dX12_adds_58 (by decide) ?_
        exact zW.loc4 (by rfl) (by rfl) (by rfl) (by rfl) (ih _ _ _ (by have e := zadd_c (x := i) (-1) (-1) rfl (by omega) (by omega); omega) (by have e := zadd_c (x := i) (-1) (-1) rfl (by omega) (by omega); omega) (fun q hq => by rw [zu_r hq]; exact hf q hq))
      · refine r_lload X (by rfl) dX12_adds_30 ?_
        refine r_ldc2 X zK_X12_103 dX12_adds_32 ?_
        refine r_lcmp_lt X 49 dX12_adds_35 dX12_adds_36 (by decide) (fun h35 => ?_) (fun h35 => ?_)
        · rw [show Int64.toInt 1000000000 = 1000000000 from rfl] at h35
          refine r_aload_n X (by rfl) dX12_adds_49 ?_
          refine r_iload X (by rfl) dX12_adds_50 ?_
          refine r_lload X (by rfl) dX12_adds_52 ?_
          refine r_lastore X dX12_adds_54 ha (vp_in_iff.mpr ⟨by omega, by omega⟩) ?_
          refine r_iinc X (-1) (by decide) (by rfl) (by decide) dX12_adds_55 ?_
          refine r_goto X 5 dX12_adds_58 (by decide) ?_
          exact zW.loc4 (by rfl) (by rfl) (by rfl) (by rfl) (ih _ _ _ (by have e := zadd_c (x := i) (-1) (-1) rfl (by omega) (by omega); omega) (by have e := zadd_c (x := i) (-1) (-1) rfl (by omega) (by omega); omega) (fun q hq => by rw [zu_r hq]; exact hf q hq))
        · rw [show Int64.toInt 1000000000 = 1000000000 from rfl] at h35
          refine r_lload X (by rfl) dX12_adds_39 ?_
          refine r_ldc2 X zK_X12_103 dX12_adds_41 ?_
          refine r_lsub X dX12_adds_44 ?_
          refine r_lstore X (by decide) dX12_adds_45 ?_
          refine r_lconst X 1 (by decide) dX12_adds_47 ?_
          refine r_lstore_n X (by decide) dX12_adds_48 ?_
          refine r_aload_n X (by rfl) dX12_adds_49 ?_
          refine r_iload X (by rfl) dX12_adds_50 ?_
          refine r_lload X (by rfl) dX12_adds_52 ?_
          refine r_lastore X dX12_adds_54 ha (vp_in_iff.mpr ⟨by omega, by omega⟩) ?_
          refine r_iinc X (-1) (by decide) (by rfl) (by decide) dX12_adds_55 ?_
          refine r_goto X 5 dX12_adds_58 (by decide) ?_
          exact zW.loc4 (by rfl) (by rfl) (by rfl) (by rfl) (ih _ _ _ (by have e := zadd_c (x := i) (-1) (-1) rfl (by omega) (by omega); omega) (by have e := zadd_c (x := i) (-1) (-1) rfl (by omega) (by omega); omega) (fun q hq => by rw [zu_r hq]; exact hf q hq))
  refine r_lconst X 0 (by decide) dX12_adds_0 ?_
  refine r_lstore_n X (by decide) dX12_adds_1 ?_
  refine r_iconst X 5 (by decide) dX12_adds_2 ?_
  refine r_istore X (by decide) dX12_adds_3 ?_
  exact zW.loc4 (by rfl) (by rfl) (by rfl) (by rfl) (L5 7 _ _ _ (by decide) (by decide) (fun _ _ => rfl))
set_option maxHeartbeats 4000000 in
set_option maxRecDepth 100000 in
theorem c_X12_takes (l : Launch) (G : zG) (z : Nat) (τ : Nat → Option (Nat × Nat)) (ρ : Nat → Nat → Option Nat) (ι : Nat → Nat → Int32) (κ : Nat → Nat → Int64) {a : Nat} (ha : τ a = some (14, 6)) {b : Nat} (hb : τ b = some (14, 6)) : zM l G yX12_takes cX12_takes 7 none ({ frames := 0, cells := 0, slots := 0, locals := 0 } : Room) [.ref a, .ref b] (z, τ, ρ, ι, κ) (fun v s => v = none ∧ ∃ κ2, s = (z, τ, ρ, ι, κ2) ∧ (∀ q, q ≠ a → κ2 q = κ q)) 0 0 := by
  refine zM_of zCd_X12_takes (Nat.le_of_ble_eq_true rfl) ?_
  intro E X hR hE
  subst hE
  show zW E G 7 (z, τ, ρ, ι, κ) 0 0 0 [(0, .ref a), (1, .ref b)] []
  have L5 : ∀ (m : Nat) (i : Int32) (c : Int64) (κ1 : Nat → Nat → Int64), (i.toInt + 1).toNat < m → i.toInt ≤ 5 → (∀ q, q ≠ a → κ1 q = κ q) → zW E G 7 (z, τ, ρ, ι, κ1) 0 0 5 [(0, .ref a), (1, .ref b), (2, .long c), (4, .int i)] [] := by
    intro m
    induction m with
    | zero => intro i c κ1 h; omega
    | succ m ih => ?_
    intro i c κ1 hm h0 hf
    refine r_iload X (by rfl) dX12_takes_5 ?_
    refine r_if_lt X 59 dX12_takes_7 (by decide) (fun h7 => ?_) (fun h7 => ?_)
    · refine r_return X hR dX12_takes_59 (Nat.zero_le _) (Nat.zero_le _) ?_
      exact ⟨rfl, _, rfl, hf⟩
    · refine r_aload_n X (by rfl) dX12_takes_10 ?_
      refine r_iload X (by rfl) dX12_takes_11 ?_
      refine r_laload X dX12_takes_13 ha (vp_in_iff.mpr ⟨by omega, by omega⟩) ?_
      refine r_aload_n X (by rfl) dX12_takes_14 ?_
      refine r_iload X (by rfl) dX12_takes_15 ?_
      refine r_laload X dX12_takes_17 hb (vp_in_iff.mpr ⟨by omega, by omega⟩) ?_
      refine r_lsub X dX12_takes_18 ?_
      refine r_lload_n X (by rfl) dX12_takes_19 ?_
      refine r_lsub X dX12_takes_20 ?_
      refine r_lstore X (by decide) dX12_takes_21 ?_
      refine r_lconst X 0 (by decide) dX12_takes_23 ?_
      refine r_lstore_n X (by decide) dX12_takes_24 ?_
      refine r_iload X (by rfl) dX12_takes_25 ?_
      refine r_if_le X 47 dX12_takes_27 (by decide) (fun h27 => ?_) (fun h27 => ?_)
      · refine r_aload_n X (by rfl) dX12_takes_47 ?_
        refine r_iload X (by rfl) dX12_takes_48 ?_
        refine r_lload X (by rfl) dX12_takes_50 ?_
        refine r_lastore X dX12_takes_52 ha (vp_in_iff.mpr ⟨by omega, by omega⟩) ?_
        refine r_iinc X (-1) (by decide) (by rfl) (by decide) dX12_takes_53 ?_
        refine r_goto X 5 dX12_takes_56 (by decide) ?_
        exact zW.loc4 (by rfl) (by rfl) (by rfl) (by rfl) (ih _ _ _ (by have e := zadd_c (x := i) (-1) (-1) rfl (by omega) (by omega); omega) (by have e := zadd_c (x := i) (-1) (-1) rfl (by omega) (by omega); omega) (fun q hq => by rw [zu_r hq]; exact hf q hq))
      · refine r_lload X (by rfl) dX12_takes_30 ?_
        refine r_lconst X 0 (by decide) dX12_takes_32 ?_
        refine r_lcmp_ge X 47 dX12_takes_33 dX12_takes_34 (by decide) (fun h33 => ?_) (fun h33 => ?_)
        · rw [show Int64.toInt 0 = 0 from rfl] at h33
          refine r_aload_n X (by rfl) dX12_takes_47 ?_
          refine r_iload X (by rfl) dX12_takes_48 ?_
          refine r_lload X (by rfl) dX12_takes_50 ?_
          refine r_lastore X dX12_takes_52 ha (vp_in_iff.mpr ⟨by omega, by omega⟩) ?_
          refine r_iinc X (-1) (by decide) (by rfl) (by decide) dX12_takes_53 ?_
          refine r_goto X 5 dX12_takes_56 (by decide) ?_
          exact zW.loc4 (by rfl) (by rfl) (by rfl) (by rfl) (ih _ _ _ (by have e := zadd_c (x := i) (-1) (-1) rfl (by omega) (by omega); omega) (by have e := zadd_c (x := i) (-1) (-1) rfl (by omega) (by omega); omega) (fun q hq => by rw [zu_r hq]; exact hf q hq))
        · rw [show Int64.toInt 0 = 0 from rfl] at h33
          refine r_lload X (by rfl) dX12_takes_37 ?_
          refine r_ldc2 X zK_X12_103 dX12_takes_39 ?_
          refine r_ladd X dX12_takes_42 ?_
          refine r_lstore X (by decide) dX12_takes_43 ?_
          refine r_lconst X 1 (by decide) dX12_takes_45 ?_
          refine r_lstore_n X (by decide) dX12_takes_46 ?_
          refine r_aload_n X (by rfl) dX12_takes_47 ?_
          refine r_iload X (by rfl) dX12_takes_48 ?_
          refine r_lload X (by rfl) dX12_takes_50 ?_
          refine r_lastore X dX12_takes_52 ha (vp_in_iff.mpr ⟨by omega, by omega⟩) ?_
          refine r_iinc X (-1) (by decide) (by rfl) (by decide) dX12_takes_53 ?_
          refine r_goto X 5 dX12_takes_56 (by decide) ?_
          exact zW.loc4 (by rfl) (by rfl) (by rfl) (by rfl) (ih _ _ _ (by have e := zadd_c (x := i) (-1) (-1) rfl (by omega) (by omega); omega) (by have e := zadd_c (x := i) (-1) (-1) rfl (by omega) (by omega); omega) (fun q hq => by rw [zu_r hq]; exact hf q hq))
  refine r_lconst X 0 (by decide) dX12_takes_0 ?_
  refine r_lstore_n X (by decide) dX12_takes_1 ?_
  refine r_iconst X 5 (by decide) dX12_takes_2 ?_
  refine r_istore X (by decide) dX12_takes_3 ?_
  exact zW.loc4 (by rfl) (by rfl) (by rfl) (by rfl) (L5 7 _ _ _ (by decide) (by decide) (fun _ _ => rfl))
set_option maxHeartbeats 4000000 in
set_option maxRecDepth 100000 in
theorem c_X12_addsF (l : Launch) (G : zG) (z : Nat) (τ : Nat → Option (Nat × Nat)) (ρ : Nat → Nat → Option Nat) (ι : Nat → Nat → Int32) (κ : Nat → Nat → Int64) {a : Nat} (ha : τ a = some (14, 6)) {b : Nat} (hb : τ b = some (1002, 6)) : zM l G yX12_adds cX12_adds 7 none ({ frames := 0, cells := 0, slots := 0, locals := 0 } : Room) [.ref a, .ref b] (z, τ, ρ, ι, κ) (fun v s => v = none ∧ ∃ κ2, s = (z, τ, ρ, ι, κ2) ∧ (∀ q, q ≠ a → κ2 q = κ q)) 0 0 := by
  refine zM_of zCd_X12_adds (Nat.le_of_ble_eq_true rfl) ?_
  intro E X hR hE
  subst hE
  show zW E G 7 (z, τ, ρ, ι, κ) 0 0 0 [(0, .ref a), (1, .ref b)] []
  have L5 : ∀ (m : Nat) (i : Int32) (c : Int64) (κ1 : Nat → Nat → Int64), (i.toInt + 1).toNat < m → i.toInt ≤ 5 → (∀ q, q ≠ a → κ1 q = κ q) → zW E G 7 (z, τ, ρ, ι, κ1) 0 0 5 [(0, .ref a), (1, .ref b), (2, .long c), (4, .int i)] [] := by
    intro m
    induction m with
    | zero => intro i c κ1 h; omega
    | succ m ih => ?_
    intro i c κ1 hm h0 hf
    refine r_iload X (by rfl) dX12_adds_5 ?_
    refine r_if_lt X 61 dX12_adds_7 (by decide) (fun h7 => ?_) (fun h7 => ?_)
    · refine r_return X hR dX12_adds_61 (Nat.zero_le _) (Nat.zero_le _) ?_
      exact ⟨rfl, _, rfl, hf⟩
    · refine r_aload_n X (by rfl) dX12_adds_10 ?_
      refine r_iload X (by rfl) dX12_adds_11 ?_
      refine r_laload X dX12_adds_13 ha (vp_in_iff.mpr ⟨by omega, by omega⟩) ?_
      refine r_aload_n X (by rfl) dX12_adds_14 ?_
      refine r_iload X (by rfl) dX12_adds_15 ?_
      refine r_laloadF (f := 2) X dX12_adds_17 hb (vp_in_iff.mpr ⟨by omega, by omega⟩) ?_
      refine r_ladd X dX12_adds_18 ?_
      refine r_lload_n X (by rfl) dX12_adds_19 ?_
      refine r_ladd X dX12_adds_20 ?_
      refine r_lstore X (by decide) dX12_adds_21 ?_
      refine r_lconst X 0 (by decide) dX12_adds_23 ?_
      refine r_lstore_n X (by decide) dX12_adds_24 ?_
      refine r_iload X (by rfl) dX12_adds_25 ?_
      refine r_if_le X 49 dX12_adds_27 (by decide) (fun h27 => ?_) (fun h27 => ?_)
      · refine r_aload_n X (by rfl) dX12_adds_49 ?_
        refine r_iload X (by rfl) dX12_adds_50 ?_
        refine r_lload X (by rfl) dX12_adds_52 ?_
        refine r_lastore X dX12_adds_54 ha (vp_in_iff.mpr ⟨by omega, by omega⟩) ?_
        refine r_iinc X (-1) (by decide) (by rfl) (by decide) dX12_adds_55 ?_
        refine r_goto X 5 dX12_adds_58 (by decide) ?_
        exact zW.loc4 (by rfl) (by rfl) (by rfl) (by rfl) (ih _ _ _ (by have e := zadd_c (x := i) (-1) (-1) rfl (by omega) (by omega); omega) (by have e := zadd_c (x := i) (-1) (-1) rfl (by omega) (by omega); omega) (fun q hq => by rw [zu_r hq]; exact hf q hq))
      · refine r_lload X (by rfl) dX12_adds_30 ?_
        refine r_ldc2 X zK_X12_103 dX12_adds_32 ?_
        refine r_lcmp_lt X 49 dX12_adds_35 dX12_adds_36 (by decide) (fun h35 => ?_) (fun h35 => ?_)
        · rw [show Int64.toInt 1000000000 = 1000000000 from rfl] at h35
          refine r_aload_n X (by rfl) dX12_adds_49 ?_
          refine r_iload X (by rfl) dX12_adds_50 ?_
          refine r_lload X (by rfl) dX12_adds_52 ?_
          refine r_lastore X dX12_adds_54 ha (vp_in_iff.mpr ⟨by omega, by omega⟩) ?_
          refine r_iinc X (-1) (by decide) (by rfl) (by decide) dX12_adds_55 ?_
          refine r_goto X 5 dX12_adds_58 (by decide) ?_
          exact zW.loc4 (by rfl) (by rfl) (by rfl) (by rfl) (ih _ _ _ (by have e := zadd_c (x := i) (-1) (-1) rfl (by omega) (by omega); omega) (by have e := zadd_c (x := i) (-1) (-1) rfl (by omega) (by omega); omega) (fun q hq => by rw [zu_r hq]; exact hf q hq))
        · rw [show Int64.toInt 1000000000 = 1000000000 from rfl] at h35
          refine r_lload X (by rfl) dX12_adds_39 ?_
          refine r_ldc2 X zK_X12_103 dX12_adds_41 ?_
          refine r_lsub X dX12_adds_44 ?_
          refine r_lstore X (by decide) dX12_adds_45 ?_
          refine r_lconst X 1 (by decide) dX12_adds_47 ?_
          refine r_lstore_n X (by decide) dX12_adds_48 ?_
          refine r_aload_n X (by rfl) dX12_adds_49 ?_
          refine r_iload X (by rfl) dX12_adds_50 ?_
          refine r_lload X (by rfl) dX12_adds_52 ?_
          refine r_lastore X dX12_adds_54 ha (vp_in_iff.mpr ⟨by omega, by omega⟩) ?_
          refine r_iinc X (-1) (by decide) (by rfl) (by decide) dX12_adds_55 ?_
          refine r_goto X 5 dX12_adds_58 (by decide) ?_
          exact zW.loc4 (by rfl) (by rfl) (by rfl) (by rfl) (ih _ _ _ (by have e := zadd_c (x := i) (-1) (-1) rfl (by omega) (by omega); omega) (by have e := zadd_c (x := i) (-1) (-1) rfl (by omega) (by omega); omega) (fun q hq => by rw [zu_r hq]; exact hf q hq))
  refine r_lconst X 0 (by decide) dX12_adds_0 ?_
  refine r_lstore_n X (by decide) dX12_adds_1 ?_
  refine r_iconst X 5 (by decide) dX12_adds_2 ?_
  refine r_istore X (by decide) dX12_adds_3 ?_
  exact zW.loc4 (by rfl) (by rfl) (by rfl) (by rfl) (L5 7 _ _ _ (by decide) (by decide) (fun _ _ => rfl))
set_option maxHeartbeats 4000000 in
set_option maxRecDepth 100000 in
theorem c_X12_copiesF (l : Launch) (G : zG) (z : Nat) (τ : Nat → Option (Nat × Nat)) (ρ : Nat → Nat → Option Nat) (ι : Nat → Nat → Int32) (κ : Nat → Nat → Int64) {a : Nat} (ha : τ a = some (1003, 6)) {b : Nat} (hb : τ b = some (14, 6)) : zM l G yX12_copies cX12_copies 3 none ({ frames := 0, cells := 0, slots := 0, locals := 0 } : Room) [.ref a, .ref b] (z, τ, ρ, ι, κ) (fun v s => v = none ∧ ∃ κ2, s = (z, τ, ρ, ι, κ2) ∧ (∀ q, q ≠ b → κ2 q = κ q) ∧ ∀ k, k < 6 → κ2 b k = zFz 3 k) 0 0 := by
  refine zM_of zCd_X12_copies (Nat.le_of_ble_eq_true rfl) ?_
  intro E X hR hE
  subst hE
  show zW E G 3 (z, τ, ρ, ι, κ) 0 0 0 [(0, .ref a), (1, .ref b)] []
  have L2 : ∀ (m : Nat) (i : Int32) (κ1 : Nat → Nat → Int64), (6 - i.toInt).toNat < m → 0 ≤ i.toInt → (∀ q, q ≠ b → κ1 q = κ q) → (∀ k : Nat, (k : Int) < i.toInt → k < 6 → κ1 b k = zFz 3 k) → zW E G 3 (z, τ, ρ, ι, κ1) 0 0 2 [(0, .ref a), (1, .ref b), (2, .int i)] [] := by
    intro m
    induction m with
    | zero => intro i κ1 h; omega
    | succ m ih => ?_
    intro i κ1 hm h0 hf hz
    refine r_iload_n X (by rfl) dX12_copies_2 ?_
    refine r_bipush X 6 (by decide) dX12_copies_3 ?_
    refine r_icmp_ge X 20 dX12_copies_5 (by decide) (fun h5 => ?_) (fun h5 => ?_)
    · rw [show Int32.toInt 6 = 6 from rfl] at h5
      refine r_return X hR dX12_copies_20 (Nat.zero_le _) (Nat.zero_le _) ?_
      exact ⟨rfl, _, rfl, hf, fun k hk => hz k (by omega) hk⟩
    · rw [show Int32.toInt 6 = 6 from rfl] at h5
      refine r_aload_n X (by rfl) dX12_copies_8 ?_
      refine r_iload_n X (by rfl) dX12_copies_9 ?_
      refine r_aload_n X (by rfl) dX12_copies_10 ?_
      refine r_iload_n X (by rfl) dX12_copies_11 ?_
      refine r_laloadF (f := 3) X dX12_copies_12 ha (vp_in_iff.mpr ⟨h0, by omega⟩) ?_
      refine r_lastore X dX12_copies_13 hb (vp_in_iff.mpr ⟨h0, by omega⟩) ?_
      refine r_iinc X 1 (by decide) (by rfl) (by decide) dX12_copies_14 ?_
      refine r_goto X 2 dX12_copies_17 (by decide) ?_
      exact zW.loc3 (by rfl) (by rfl) (by rfl) (ih _ _ (by have e := zinc (x := i) (by omega); omega) (by have e := zinc (x := i) (by omega); omega) (fun q hq => by rw [zu_r hq]; exact hf q hq) (fun k hk hk6 => by
        have e := zinc (x := i) (by omega)
        by_cases q : k = i.toNatClampNeg
        · subst q; rw [zu_s]
        · rw [zu_k q]; exact hz k (by have := zclN h0; omega) hk6))
  refine r_iconst X 0 (by decide) dX12_copies_0 ?_
  refine r_istore_n X (by decide) dX12_copies_1 ?_
  exact zW.loc3 (by rfl) (by rfl) (by rfl) (L2 7 _ _ (by decide) (by decide) (fun _ _ => rfl) (fun k hk _ => by rw [show Int32.toInt 0 = 0 from rfl] at hk; omega))
set_option maxHeartbeats 4000000 in
set_option maxRecDepth 100000 in
theorem c_X12_times (l : Launch) (G : zG) (z : Nat) (τ : Nat → Option (Nat × Nat)) (ρ : Nat → Nat → Option Nat) (ι : Nat → Nat → Int32) (κ : Nat → Nat → Int64) {a : Nat} (ha : τ a = some (14, 6)) (x : Int64) : zM l G yX12_times cX12_times 10 none ({ frames := 0, cells := 0, slots := 0, locals := 0 } : Room) [.ref a, .long x] (z, τ, ρ, ι, κ) (fun v s => v = none ∧ ∃ κ2, s = (z, τ, ρ, ι, κ2) ∧ (∀ q, q ≠ a → κ2 q = κ q)) 0 0 := by
  refine zM_of zCd_X12_times (Nat.le_of_ble_eq_true rfl) ?_
  intro E X hR hE
  subst hE
  show zW E G 10 (z, τ, ρ, ι, κ) 0 0 0 [(0, .ref a), (1, .long x)] []
  have L5 : ∀ (m : Nat) (i : Int32) (c : Int64) (κ1 : Nat → Nat → Int64), (i.toInt + 1).toNat < m → i.toInt ≤ 5 → (∀ q, q ≠ a → κ1 q = κ q) → zW E G 10 (z, τ, ρ, ι, κ1) 0 0 5 [(0, .ref a), (1, .long x), (3, .long c), (5, .int i)] [] := by
    intro m
    induction m with
    | zero => intro i c κ1 h; omega
    | succ m ih => ?_
    intro i c κ1 hm h0 hf
    refine r_iload X (by rfl) dX12_times_5 ?_
    refine r_if_le X 71 dX12_times_7 (by decide) (fun h7 => ?_) (fun h7 => ?_)
    · refine r_aload_n X (by rfl) dX12_times_71 ?_
      refine r_iconst X 0 (by decide) dX12_times_72 ?_
      refine r_aload_n X (by rfl) dX12_times_73 ?_
      refine r_iconst X 0 (by decide) dX12_times_74 ?_
      refine r_laload X dX12_times_75 ha (vp_in_iff.mpr ⟨by decide, by decide⟩) ?_
      refine r_lload_n X (by rfl) dX12_times_76 ?_
      refine r_lmul X dX12_times_77 ?_
      refine r_lload_n X (by rfl) dX12_times_78 ?_
      refine r_ladd X dX12_times_79 ?_
      refine r_lastore X dX12_times_80 ha (vp_in_iff.mpr ⟨by decide, by decide⟩) ?_
      refine r_return X hR dX12_times_81 (Nat.zero_le _) (Nat.zero_le _) ?_
      exact ⟨rfl, _, rfl, fun q hq => by rw [zu_r hq]; exact hf q hq⟩
    · refine r_aload_n X (by rfl) dX12_times_10 ?_
      refine r_iload X (by rfl) dX12_times_11 ?_
      refine r_laload X dX12_times_13 ha (vp_in_iff.mpr ⟨by omega, by omega⟩) ?_
      refine r_lload_n X (by rfl) dX12_times_14 ?_
      refine r_lmul X dX12_times_15 ?_
      refine r_lload_n X (by rfl) dX12_times_16 ?_
      refine r_ladd X dX12_times_17 ?_
      refine r_lstore X (by decide) dX12_times_18 ?_
      refine r_lload X (by rfl) dX12_times_20 ?_
      refine r_lconst X 0 (by decide) dX12_times_22 ?_
      refine r_lcmp_lt X 36 dX12_times_23 dX12_times_24 (by decide) (fun h23 => ?_) (fun h23 => ?_)
      · rw [show Int64.toInt 0 = 0 from rfl] at h23
        refine r_ldc2 X zK_X12_105 dX12_times_36 ?_
        refine r_lload X (by rfl) dX12_times_39 ?_
        refine r_lsub X dX12_times_41 ?_
        refine r_ldc2 X zK_X12_103 dX12_times_42 ?_
        refine r_ldiv X (by decide) dX12_times_45 ?_
        refine r_lneg X dX12_times_46 ?_
        refine r_lstore X (by decide) dX12_times_47 ?_
        refine r_aload_n X (by rfl) dX12_times_49 ?_
        refine r_iload X (by rfl) dX12_times_50 ?_
        refine r_lload X (by rfl) dX12_times_52 ?_
        refine r_lload X (by rfl) dX12_times_54 ?_
        refine r_ldc2 X zK_X12_103 dX12_times_56 ?_
        refine r_lmul X dX12_times_59 ?_
        refine r_lsub X dX12_times_60 ?_
        refine r_lastore X dX12_times_61 ha (vp_in_iff.mpr ⟨by omega, by omega⟩) ?_
        refine r_lload X (by rfl) dX12_times_62 ?_
        refine r_lstore_n X (by decide) dX12_times_64 ?_
        refine r_iinc X (-1) (by decide) (by rfl) (by decide) dX12_times_65 ?_
        refine r_goto X 5 dX12_times_68 (by decide) ?_
        exact zW.loc4 (by rfl) (by rfl) (by rfl) (by rfl) (ih _ _ _ (by have e := zadd_c (x := i) (-1) (-1) rfl (by omega) (by omega); omega) (by have e := zadd_c (x := i) (-1) (-1) rfl (by omega) (by omega); omega) (fun q hq => by rw [zu_r hq]; exact hf q hq))
      · rw [show Int64.toInt 0 = 0 from rfl] at h23
        refine r_lload X (by rfl) dX12_times_27 ?_
        refine r_ldc2 X zK_X12_103 dX12_times_29 ?_
        refine r_ldiv X (by decide) dX12_times_32 ?_
        refine r_goto X 47 dX12_times_33 (by decide) ?_
        refine r_lstore X (by decide) dX12_times_47 ?_
        refine r_aload_n X (by rfl) dX12_times_49 ?_
        refine r_iload X (by rfl) dX12_times_50 ?_
        refine r_lload X (by rfl) dX12_times_52 ?_
        refine r_lload X (by rfl) dX12_times_54 ?_
        refine r_ldc2 X zK_X12_103 dX12_times_56 ?_
        refine r_lmul X dX12_times_59 ?_
        refine r_lsub X dX12_times_60 ?_
        refine r_lastore X dX12_times_61 ha (vp_in_iff.mpr ⟨by omega, by omega⟩) ?_
        refine r_lload X (by rfl) dX12_times_62 ?_
        refine r_lstore_n X (by decide) dX12_times_64 ?_
        refine r_iinc X (-1) (by decide) (by rfl) (by decide) dX12_times_65 ?_
        refine r_goto X 5 dX12_times_68 (by decide) ?_
        exact zW.loc4 (by rfl) (by rfl) (by rfl) (by rfl) (ih _ _ _ (by have e := zadd_c (x := i) (-1) (-1) rfl (by omega) (by omega); omega) (by have e := zadd_c (x := i) (-1) (-1) rfl (by omega) (by omega); omega) (fun q hq => by rw [zu_r hq]; exact hf q hq))
  refine r_lconst X 0 (by decide) dX12_times_0 ?_
  refine r_lstore_n X (by decide) dX12_times_1 ?_
  refine r_iconst X 5 (by decide) dX12_times_2 ?_
  refine r_istore X (by decide) dX12_times_3 ?_
  exact zW.loc4 (by rfl) (by rfl) (by rfl) (by rfl) (L5 7 _ _ _ (by decide) (by decide) (fun _ _ => rfl))
set_option maxHeartbeats 4000000 in
set_option maxRecDepth 100000 in
theorem c_X12_timesS (l : Launch) (G : zG) (z : Nat) (τ : Nat → Option (Nat × Nat)) (ρ : Nat → Nat → Option Nat) (ι : Nat → Nat → Int32) (κ : Nat → Nat → Int64) {a : Nat} (ha : τ a = some (14, 6)) (x : Int64) (x0 : 0 ≤ x.toInt) (x1 : x.toInt ≤ 1000000) (hn : zNo (κ a) 2000000) : zM l G yX12_times cX12_times 10 none ({ frames := 0, cells := 0, slots := 0, locals := 0 } : Room) [.ref a, .long x] (z, τ, ρ, ι, κ) (fun v s => v = none ∧ ∃ κ2, s = (z, τ, ρ, ι, κ2) ∧ (∀ q, q ≠ a → κ2 q = κ q) ∧ zNo (κ2 a) 1000000000000000 ∧ qR (κ2 a) 6 = qR (κ a) 6 * x.toInt) 0 0 := by
  refine zM_of zCd_X12_times (Nat.le_of_ble_eq_true rfl) ?_
  intro E X hR hE
  subst hE
  show zW E G 10 (z, τ, ρ, ι, κ) 0 0 0 [(0, .ref a), (1, .long x)] []
  have L5 : ∀ (m : Nat) (i : Int32) (c : Int64) (κ1 : Nat → Nat → Int64), i.toInt.toNat < m → 0 ≤ i.toInt → i.toInt ≤ 5 → (∀ q, q ≠ a → κ1 q = κ q) → (∀ k : Nat, (k : Int) ≤ i.toInt → κ1 a k = κ a k) → (∀ k : Nat, i.toInt < k → k < 6 → 0 ≤ (κ1 a k).toInt ∧ (κ1 a k).toInt < 1000000000) → 0 ≤ c.toInt → c.toInt ≤ x.toInt → qP (κ1 a) (5 - i.toNatClampNeg) + c.toInt * qU (5 - i.toNatClampNeg) = x.toInt * qP (κ a) (5 - i.toNatClampNeg) → zW E G 10 (z, τ, ρ, ι, κ1) 0 0 5 [(0, .ref a), (1, .long x), (3, .long c), (5, .int i)] [] := by
    intro m
    induction m with
    | zero => intro i c κ1 h; omega
    | succ m ih => ?_
    intro i c κ1 hm h0 h5 hf hs hb c0 c1 hP
    have hi := zclN h0
    refine r_iload X (by rfl) dX12_times_5 ?_
    refine r_if_le X 71 dX12_times_7 (by decide) (fun h7 => ?_) (fun h7 => ?_)
    · have hi0 : i = 0 := Int32.toInt_inj.mp (by rw [show Int32.toInt 0 = 0 from rfl]; omega)
      subst hi0
      have hs0 := hs 0 (by decide)
      have hm1 : 0 ≤ (κ a 0).toInt * x.toInt := Int.mul_nonneg hn.1 x0
      have hm2 : (κ a 0).toInt * x.toInt ≤ 2000000 * x.toInt := Int.mul_le_mul_of_nonneg_right hn.2.1 x0
      have ew1 : (κ1 a 0 * x).toInt = (κ a 0).toInt * x.toInt := by rw [hs0]; exact zmulJ (by omega) (by omega)
      have ew : (κ1 a 0 * x + c).toInt = (κ a 0).toInt * x.toInt + c.toInt := by rw [zaddJ (x := κ1 a 0 * x) (y := c) (by omega) (by omega), ew1]
      refine r_aload_n X (by rfl) dX12_times_71 ?_
      refine r_iconst X 0 (by decide) dX12_times_72 ?_
      refine r_aload_n X (by rfl) dX12_times_73 ?_
      refine r_iconst X 0 (by decide) dX12_times_74 ?_
      refine r_laload X dX12_times_75 ha (vp_in_iff.mpr ⟨by decide, by decide⟩) ?_
      refine r_lload_n X (by rfl) dX12_times_76 ?_
      refine r_lmul X dX12_times_77 ?_
      refine r_lload_n X (by rfl) dX12_times_78 ?_
      refine r_ladd X dX12_times_79 ?_
      refine r_lastore X dX12_times_80 ha (vp_in_iff.mpr ⟨by decide, by decide⟩) ?_
      refine r_return X hR dX12_times_81 (Nat.zero_le _) (Nat.zero_le _) ?_
      refine ⟨rfl, _, rfl, fun q hq => by rw [zu_r hq]; exact hf q hq, ⟨?_, ?_, ?_⟩, ?_⟩
      · rw [show Int32.toNatClampNeg 0 = 0 from rfl, zu_s, ew]; omega
      · rw [show Int32.toNatClampNeg 0 = 0 from rfl, zu_s, ew]; omega
      · intro k k1 k6; rw [show Int32.toNatClampNeg 0 = 0 from rfl, zu_k (show k ≠ 0 by omega)]; exact hb k (by rw [show Int32.toInt 0 = 0 from rfl]; omega) k6
      · rw [show Int32.toNatClampNeg 0 = 0 from rfl, qR_P, qR_P, zu_s, ew, qP_congr (g := κ1 a) (by decide) (fun k h1 h2 => zu_k (show k ≠ 0 by omega))]
        rw [show Int32.toNatClampNeg 0 = 0 from rfl] at hP
        exact zendT hP
    · have hsi := hs i.toNatClampNeg (by omega)
      have hbi := hn.2.2 i.toNatClampNeg (by omega) (by omega)
      have HT := ztstep (k := κ1 a i.toNatClampNeg) (x := x) (c := c) (U := 1000000000) rfl x0 x1 (by rw [hsi]; exact hbi.1) (by rw [hsi]; exact hbi.2) c0 c1
      generalize hnv : κ1 a i.toNatClampNeg * x + c - (κ1 a i.toNatClampNeg * x + c) / 1000000000 * 1000000000 = nv at HT
      generalize hqv : (κ1 a i.toNatClampNeg * x + c) / 1000000000 = qv at HT
      obtain ⟨g1, g2, g3, g4, g5, g6⟩ := HT
      obtain ⟨j, hj, e2⟩ : ∃ j, i + -1 = j ∧ j.toInt = i.toInt + -1 := ⟨_, rfl, zadd_c (x := i) (-1) (-1) rfl (by omega) (by omega)⟩
      refine r_aload_n X (by rfl) dX12_times_10 ?_
      refine r_iload X (by rfl) dX12_times_11 ?_
      refine r_laload X dX12_times_13 ha (vp_in_iff.mpr ⟨by omega, by omega⟩) ?_
      refine r_lload_n X (by rfl) dX12_times_14 ?_
      refine r_lmul X dX12_times_15 ?_
      refine r_lload_n X (by rfl) dX12_times_16 ?_
      refine r_ladd X dX12_times_17 ?_
      refine r_lstore X (by decide) dX12_times_18 ?_
      refine r_lload X (by rfl) dX12_times_20 ?_
      refine r_lconst X 0 (by decide) dX12_times_22 ?_
      refine r_lcmp_lt X 36 dX12_times_23 dX12_times_24 (by decide) (fun h23 => ?_) (fun h23 => ?_)
      · rw [show Int64.toInt 0 = 0 from rfl] at h23
        exact absurd g1 (by omega)
      · rw [show Int64.toInt 0 = 0 from rfl] at h23
        refine r_lload X (by rfl) dX12_times_27 ?_
        refine r_ldc2 X zK_X12_103 dX12_times_29 ?_
        refine r_ldiv X (by decide) dX12_times_32 ?_
        refine r_goto X 47 dX12_times_33 (by decide) ?_
        refine r_lstore X (by decide) dX12_times_47 ?_
        refine r_aload_n X (by rfl) dX12_times_49 ?_
        refine r_iload X (by rfl) dX12_times_50 ?_
        refine r_lload X (by rfl) dX12_times_52 ?_
        refine r_lload X (by rfl) dX12_times_54 ?_
        refine r_ldc2 X zK_X12_103 dX12_times_56 ?_
        refine r_lmul X dX12_times_59 ?_
        refine r_lsub X dX12_times_60 ?_
        refine r_lastore X dX12_times_61 ha (vp_in_iff.mpr ⟨by omega, by omega⟩) ?_
        refine r_lload X (by rfl) dX12_times_62 ?_
        refine r_lstore_n X (by decide) dX12_times_64 ?_
        refine r_iinc X (-1) (by decide) (by rfl) (by decide) dX12_times_65 ?_
        refine r_goto X 5 dX12_times_68 (by decide) ?_
        exact zW.loc4 (by rfl) (by rfl) (by rfl) (by rfl) (ih _ _ _ (by rw [hj, e2]; omega) (by rw [hj, e2]; omega) (by rw [hj, e2]; omega) (fun q hq => by rw [zu_r hq]; exact hf q hq) (fun k hk => by rw [hj, e2] at hk; rw [zu_k (show k ≠ i.toNatClampNeg by omega)]; exact hs k (by omega)) (fun k hk h6 => by
          rw [hj, e2] at hk
          by_cases q : k = i.toNatClampNeg
          · subst q; rw [zu_s, hnv]; exact ⟨g4, g5⟩
          · rw [zu_k q]; exact hb k (by omega) h6) (by rw [hqv]; exact g2) (by rw [hqv]; exact g3) (by rw [zdec5 (by omega) h5, qP, qP, qU, show 5 - (5 - i.toNatClampNeg) = i.toNatClampNeg by omega, zu_s, hnv, hqv, qP_congr (g := κ1 a) (by omega) (fun k h1 h2 => zu_k (show k ≠ i.toNatClampNeg by omega)), ← hsi]; exact g6 _ _ _ hP))
  refine r_lconst X 0 (by decide) dX12_times_0 ?_
  refine r_lstore_n X (by decide) dX12_times_1 ?_
  refine r_iconst X 5 (by decide) dX12_times_2 ?_
  refine r_istore X (by decide) dX12_times_3 ?_
  exact zW.loc4 (by rfl) (by rfl) (by rfl) (by rfl) (L5 6 _ _ _ (by decide) (by decide) (by decide) (fun _ _ => rfl) (fun _ _ => rfl) (fun k hk h6 => by rw [show Int32.toInt 5 = 5 from rfl] at hk; omega) (by decide) (by rw [show Int64.toInt 0 = 0 from rfl]; exact x0) (by rw [show 5 - Int32.toNatClampNeg 5 = 0 from rfl, qP]; rw [show Int64.toInt 0 = 0 from rfl]; omega))
set_option maxHeartbeats 4000000 in
set_option maxRecDepth 100000 in
theorem c_X12_divides (l : Launch) (G : zG) (z : Nat) (τ : Nat → Option (Nat × Nat)) (ρ : Nat → Nat → Option Nat) (ι : Nat → Nat → Int32) (κ : Nat → Nat → Int64) {a : Nat} (ha : τ a = some (14, 6)) (x : Int64) (hx : ¬ x = 0) : zM l G yX12_divides cX12_divides 8 none ({ frames := 0, cells := 0, slots := 0, locals := 0 } : Room) [.ref a, .long x] (z, τ, ρ, ι, κ) (fun v s => v = none ∧ ∃ κ2, s = (z, τ, ρ, ι, κ2) ∧ (∀ q, q ≠ a → κ2 q = κ q)) 0 0 := by
  refine zM_of zCd_X12_divides (Nat.le_of_ble_eq_true rfl) ?_
  intro E X hR hE
  subst hE
  show zW E G 8 (z, τ, ρ, ι, κ) 0 0 0 [(0, .ref a), (1, .long x)] []
  have L5 : ∀ (m : Nat) (i : Int32) (c : Int64) (κ1 : Nat → Nat → Int64), (6 - i.toInt).toNat < m → 0 ≤ i.toInt → (∀ q, q ≠ a → κ1 q = κ q) → zW E G 8 (z, τ, ρ, ι, κ1) 0 0 5 [(0, .ref a), (1, .long x), (3, .long c), (5, .int i)] [] := by
    intro m
    induction m with
    | zero => intro i c κ1 h; omega
    | succ m ih => ?_
    intro i c κ1 hm h0 hf
    refine r_iload X (by rfl) dX12_divides_5 ?_
    refine r_bipush X 6 (by decide) dX12_divides_7 ?_
    refine r_icmp_ge X 43 dX12_divides_9 (by decide) (fun h9 => ?_) (fun h9 => ?_)
    · rw [show Int32.toInt 6 = 6 from rfl] at h9
      refine r_return X hR dX12_divides_43 (Nat.zero_le _) (Nat.zero_le _) ?_
      exact ⟨rfl, _, rfl, hf⟩
    · rw [show Int32.toInt 6 = 6 from rfl] at h9
      refine r_lload_n X (by rfl) dX12_divides_12 ?_
      refine r_ldc2 X zK_X12_103 dX12_divides_13 ?_
      refine r_lmul X dX12_divides_16 ?_
      refine r_aload_n X (by rfl) dX12_divides_17 ?_
      refine r_iload X (by rfl) dX12_divides_18 ?_
      refine r_laload X dX12_divides_20 ha (vp_in_iff.mpr ⟨h0, by omega⟩) ?_
      refine r_ladd X dX12_divides_21 ?_
      refine r_lstore X (by decide) dX12_divides_22 ?_
      refine r_aload_n X (by rfl) dX12_divides_24 ?_
      refine r_iload X (by rfl) dX12_divides_25 ?_
      refine r_lload X (by rfl) dX12_divides_27 ?_
      refine r_lload_n X (by rfl) dX12_divides_29 ?_
      refine r_ldiv X hx dX12_divides_30 ?_
      refine r_lastore X dX12_divides_31 ha (vp_in_iff.mpr ⟨h0, by omega⟩) ?_
      refine r_lload X (by rfl) dX12_divides_32 ?_
      refine r_lload_n X (by rfl) dX12_divides_34 ?_
      refine r_lrem X hx dX12_divides_35 ?_
      refine r_lstore_n X (by decide) dX12_divides_36 ?_
      refine r_iinc X 1 (by decide) (by rfl) (by decide) dX12_divides_37 ?_
      refine r_goto X 5 dX12_divides_40 (by decide) ?_
      exact zW.loc4 (by rfl) (by rfl) (by rfl) (by rfl) (ih _ _ _ (by have e := zinc (x := i) (by omega); omega) (by have e := zinc (x := i) (by omega); omega) (fun q hq => by rw [zu_r hq]; exact hf q hq))
  refine r_lconst X 0 (by decide) dX12_divides_0 ?_
  refine r_lstore_n X (by decide) dX12_divides_1 ?_
  refine r_iconst X 0 (by decide) dX12_divides_2 ?_
  refine r_istore X (by decide) dX12_divides_3 ?_
  exact zW.loc4 (by rfl) (by rfl) (by rfl) (by rfl) (L5 7 _ _ _ (by decide) (by decide) (fun _ _ => rfl))
set_option maxHeartbeats 4000000 in
set_option maxRecDepth 100000 in
theorem c_X12_dividesS (l : Launch) (G : zG) (z : Nat) (τ : Nat → Option (Nat × Nat)) (ρ : Nat → Nat → Option Nat) (ι : Nat → Nat → Int32) (κ : Nat → Nat → Int64) {a : Nat} (ha : τ a = some (14, 6)) (x : Int64) (x0 : 1 ≤ x.toInt) (x1 : x.toInt ≤ 2000000) (hn : zNo (κ a) 1000000000000000) : zM l G yX12_divides cX12_divides 8 none ({ frames := 0, cells := 0, slots := 0, locals := 0 } : Room) [.ref a, .long x] (z, τ, ρ, ι, κ) (fun v s => v = none ∧ ∃ κ2, s = (z, τ, ρ, ι, κ2) ∧ (∀ q, q ≠ a → κ2 q = κ q) ∧ zNo (κ2 a) 1000000000000000 ∧ x.toInt * qR (κ2 a) 6 ≤ qR (κ a) 6) 0 0 := by
  refine zM_of zCd_X12_divides (Nat.le_of_ble_eq_true rfl) ?_
  intro E X hR hE
  subst hE
  show zW E G 8 (z, τ, ρ, ι, κ) 0 0 0 [(0, .ref a), (1, .long x)] []
  have hx : ¬ x = 0 := fun q => by rw [q, show Int64.toInt 0 = 0 from rfl] at x0; omega
  have L5 : ∀ (m : Nat) (i : Int32) (c : Int64) (κ1 : Nat → Nat → Int64), (6 - i.toInt).toNat < m → 0 ≤ i.toInt → i.toInt ≤ 6 → (∀ q, q ≠ a → κ1 q = κ q) → (∀ k : Nat, i.toInt ≤ k → κ1 a k = κ a k) → (∀ k : Nat, (k : Int) < i.toInt → 0 ≤ (κ1 a k).toInt ∧ (κ1 a k).toInt ≤ 1000000000000000 ∧ (1 ≤ k → (κ1 a k).toInt < 1000000000)) → 0 ≤ c.toInt → c.toInt < x.toInt → (i.toInt = 0 → c.toInt = 0) → qR (κ a) i.toNatClampNeg = x.toInt * qR (κ1 a) i.toNatClampNeg + c.toInt → zW E G 8 (z, τ, ρ, ι, κ1) 0 0 5 [(0, .ref a), (1, .long x), (3, .long c), (5, .int i)] [] := by
    intro m
    induction m with
    | zero => intro i c κ1 h; omega
    | succ m ih => ?_
    intro i c κ1 hm h0 h6 hf hs hb c0 c1 hc hP
    have hi := zclN h0
    refine r_iload X (by rfl) dX12_divides_5 ?_
    refine r_bipush X 6 (by decide) dX12_divides_7 ?_
    refine r_icmp_ge X 43 dX12_divides_9 (by decide) (fun h9 => ?_) (fun h9 => ?_)
    · rw [show Int32.toInt 6 = 6 from rfl] at h9
      refine r_return X hR dX12_divides_43 (Nat.zero_le _) (Nat.zero_le _) ?_
      have hi6 : i.toNatClampNeg = 6 := by omega
      rw [hi6] at hP
      refine ⟨rfl, _, rfl, hf, ⟨(hb 0 (by omega)).1, (hb 0 (by omega)).2.1, fun k k1 k6 => ⟨(hb k (by omega)).1, (hb k (by omega)).2.2 k1⟩⟩, ?_⟩
      rw [hP]; omega
    · rw [show Int32.toInt 6 = 6 from rfl] at h9
      have hsi := hs i.toNatClampNeg (by omega)
      have hb0 := zNo_at hn (k := i.toNatClampNeg) (by omega)
      have HD := zdstep (c := c) (k := κ1 a i.toNatClampNeg) (x := x) (U := 1000000000) (i := i.toNatClampNeg) rfl x0 x1 c0 c1 (fun q => hc (by omega)) (by rw [hsi]; exact ⟨hb0.1, by omega, hb0.2.2⟩) hP
      generalize hrv : c * 1000000000 + κ1 a i.toNatClampNeg - (c * 1000000000 + κ1 a i.toNatClampNeg) / x * x = rv at HD
      generalize hqv : (c * 1000000000 + κ1 a i.toNatClampNeg) / x = qv at HD
      obtain ⟨g1, g2, g3, g4⟩ := HD
      have e2 := zinc (x := i) (by omega)
      have e3 : (i + 1).toNatClampNeg = i.toNatClampNeg + 1 := by have := zclN (i := i + 1) (by omega); omega
      refine r_lload_n X (by rfl) dX12_divides_12 ?_
      refine r_ldc2 X zK_X12_103 dX12_divides_13 ?_
      refine r_lmul X dX12_divides_16 ?_
      refine r_aload_n X (by rfl) dX12_divides_17 ?_
      refine r_iload X (by rfl) dX12_divides_18 ?_
      refine r_laload X dX12_divides_20 ha (vp_in_iff.mpr ⟨h0, by omega⟩) ?_
      refine r_ladd X dX12_divides_21 ?_
      refine r_lstore X (by decide) dX12_divides_22 ?_
      refine r_aload_n X (by rfl) dX12_divides_24 ?_
      refine r_iload X (by rfl) dX12_divides_25 ?_
      refine r_lload X (by rfl) dX12_divides_27 ?_
      refine r_lload_n X (by rfl) dX12_divides_29 ?_
      refine r_ldiv X hx dX12_divides_30 ?_
      refine r_lastore X dX12_divides_31 ha (vp_in_iff.mpr ⟨h0, by omega⟩) ?_
      refine r_lload X (by rfl) dX12_divides_32 ?_
      refine r_lload_n X (by rfl) dX12_divides_34 ?_
      refine r_lrem X hx dX12_divides_35 ?_
      refine r_lstore_n X (by decide) dX12_divides_36 ?_
      refine r_iinc X 1 (by decide) (by rfl) (by decide) dX12_divides_37 ?_
      refine r_goto X 5 dX12_divides_40 (by decide) ?_
      exact zW.loc4 (by rfl) (by rfl) (by rfl) (by rfl) (ih _ _ _ (by rw [e2]; omega) (by rw [e2]; omega) (by rw [e2]; omega) (fun q hq => by rw [zu_r hq]; exact hf q hq) (fun k hk => by rw [e2] at hk; rw [zu_k (show k ≠ i.toNatClampNeg by omega)]; exact hs k (by omega)) (fun k hk => by
        rw [e2] at hk
        by_cases q : k = i.toNatClampNeg
        · subst q; rw [zu_s, hqv]; exact g1
        · rw [zu_k q]; exact hb k (by omega)) (by rw [hrv]; exact g2) (by rw [hrv]; exact g3) (by rw [e2]; omega) (by rw [e3, qR, qR, zu_s, hrv, hqv, qR_congr (g := κ1 a) (fun k h1 => zu_k (show k ≠ i.toNatClampNeg by omega)), ← hsi]; exact g4))
  refine r_lconst X 0 (by decide) dX12_divides_0 ?_
  refine r_lstore_n X (by decide) dX12_divides_1 ?_
  refine r_iconst X 0 (by decide) dX12_divides_2 ?_
  refine r_istore X (by decide) dX12_divides_3 ?_
  exact zW.loc4 (by rfl) (by rfl) (by rfl) (by rfl) (L5 7 _ _ _ (by decide) (by decide) (by decide) (fun _ _ => rfl) (fun _ _ => rfl) (fun k hk => by rw [show Int32.toInt 0 = 0 from rfl] at hk; omega) (by decide) (by rw [show Int64.toInt 0 = 0 from rfl]; omega) (fun _ => rfl) (by rw [show Int32.toNatClampNeg 0 = 0 from rfl, qR]; rw [show Int64.toInt 0 = 0 from rfl]; omega))
set_option maxHeartbeats 4000000 in
set_option maxRecDepth 100000 in
theorem c_X12_isNought (l : Launch) (G : zG) (z : Nat) (τ : Nat → Option (Nat × Nat)) (ρ : Nat → Nat → Option Nat) (ι : Nat → Nat → Int32) (κ : Nat → Nat → Int64) {a : Nat} (ha : τ a = some (14, 6)) : zM l G yX12_isNought cX12_isNought 3 (some .boolean) ({ frames := 0, cells := 0, slots := 0, locals := 0 } : Room) [.ref a] (z, τ, ρ, ι, κ) (fun v s => ∃ r, v = some (.int r) ∧ (r = 0 → ∃ k, k < 6 ∧ ¬ (κ a k).toInt = 0) ∧ s = (z, τ, ρ, ι, κ)) 0 0 := by
  refine zM_of zCd_X12_isNought (Nat.le_of_ble_eq_true rfl) ?_
  intro E X hR hE
  subst hE
  show zW E G 3 (z, τ, ρ, ι, κ) 0 0 0 [(0, .ref a)] []
  have L4 : ∀ (m : Nat) (i p : Int32), (6 - i.toInt).toNat < m → 0 ≤ i.toInt → (p = 0 ∨ p = 1) → (p = 0 → ∃ k, k < 6 ∧ ¬ (κ a k).toInt = 0) → zW E G 3 (z, τ, ρ, ι, κ) 0 0 4 [(0, .ref a), (1, .int p), (2, .int i)] [] := by
    intro m
    induction m with
    | zero => intro i p h; omega
    | succ m ih => ?_
    intro i p hm h0 hp01 hp
    refine r_iload_n X (by rfl) dX12_isNought_4 ?_
    refine r_bipush X 6 (by decide) dX12_isNought_5 ?_
    refine r_icmp_ge X 34 dX12_isNought_7 (by decide) (fun h7 => ?_) (fun h7 => ?_)
    · rw [show Int32.toInt 6 = 6 from rfl] at h7
      refine r_iload_n X (by rfl) dX12_isNought_34 ?_
      refine r_ireturn X hR dX12_isNought_35 (by rcases hp01 with rfl | rfl <;> decide +kernel) (Nat.zero_le _) (Nat.zero_le _) ?_
      exact ⟨_, rfl, hp, rfl⟩
    · rw [show Int32.toInt 6 = 6 from rfl] at h7
      refine r_iload_n X (by rfl) dX12_isNought_10 ?_
      refine r_if_eq X 26 dX12_isNought_11 (by decide) (fun h11 => ?_) (fun h11 => ?_)
      · refine r_iconst X 0 (by decide) dX12_isNought_26 ?_
        refine r_istore_n X (by decide) dX12_isNought_27 ?_
        refine r_iinc X 1 (by decide) (by rfl) (by decide) dX12_isNought_28 ?_
        refine r_goto X 4 dX12_isNought_31 (by decide) ?_
        exact zW.loc3 (by rfl) (by rfl) (by rfl) (ih _ _ (by have e := zinc (x := i) (by omega); omega) (by have e := zinc (x := i) (by omega); omega) (by decide) (by first | (intro q; exact absurd q (by decide)) | (intro _; exact hp h11) | (intro _; exact ⟨_, zcl3 h0 h7, h18⟩)))
      · refine r_aload_n X (by rfl) dX12_isNought_14 ?_
        refine r_iload_n X (by rfl) dX12_isNought_15 ?_
        refine r_laload X dX12_isNought_16 ha (vp_in_iff.mpr ⟨h0, by omega⟩) ?_
        refine r_lconst X 0 (by decide) dX12_isNought_17 ?_
        refine r_lcmp_ne X 26 dX12_isNought_18 dX12_isNought_19 (by decide) (fun h18 => ?_) (fun h18 => ?_)
        · rw [show Int64.toInt 0 = 0 from rfl] at h18
          refine r_iconst X 0 (by decide) dX12_isNought_26 ?_
          refine r_istore_n X (by decide) dX12_isNought_27 ?_
          refine r_iinc X 1 (by decide) (by rfl) (by decide) dX12_isNought_28 ?_
          refine r_goto X 4 dX12_isNought_31 (by decide) ?_
          exact zW.loc3 (by rfl) (by rfl) (by rfl) (ih _ _ (by have e := zinc (x := i) (by omega); omega) (by have e := zinc (x := i) (by omega); omega) (by decide) (by first | (intro q; exact absurd q (by decide)) | (intro _; exact hp h11) | (intro _; exact ⟨_, zcl3 h0 h7, h18⟩)))
        · rw [show Int64.toInt 0 = 0 from rfl] at h18
          refine r_iconst X 1 (by decide) dX12_isNought_22 ?_
          refine r_goto X 27 dX12_isNought_23 (by decide) ?_
          refine r_istore_n X (by decide) dX12_isNought_27 ?_
          refine r_iinc X 1 (by decide) (by rfl) (by decide) dX12_isNought_28 ?_
          refine r_goto X 4 dX12_isNought_31 (by decide) ?_
          exact zW.loc3 (by rfl) (by rfl) (by rfl) (ih _ _ (by have e := zinc (x := i) (by omega); omega) (by have e := zinc (x := i) (by omega); omega) (by decide) (by first | (intro q; exact absurd q (by decide)) | (intro _; exact hp h11) | (intro _; exact ⟨_, zcl3 h0 h7, h18⟩)))
  refine r_iconst X 1 (by decide) dX12_isNought_0 ?_
  refine r_istore_n X (by decide) dX12_isNought_1 ?_
  refine r_iconst X 0 (by decide) dX12_isNought_2 ?_
  refine r_istore_n X (by decide) dX12_isNought_3 ?_
  exact zW.loc3 (by rfl) (by rfl) (by rfl) (L4 7 _ _ (by decide) (by decide) (by decide) (fun q => absurd q (by decide)))
set_option maxHeartbeats 4000000 in
set_option maxRecDepth 100000 in
theorem c_X12_isLess (l : Launch) (G : zG) (z : Nat) (τ : Nat → Option (Nat × Nat)) (ρ : Nat → Nat → Option Nat) (ι : Nat → Nat → Int32) (κ : Nat → Nat → Int64) {a : Nat} (ha : τ a = some (14, 6)) {b : Nat} (hb : τ b = some (14, 6)) : zM l G yX12_isLess cX12_isLess 3 (some .boolean) ({ frames := 0, cells := 0, slots := 0, locals := 0 } : Room) [.ref a, .ref b] (z, τ, ρ, ι, κ) (fun v s => ∃ r, v = some (.int r) ∧ s = (z, τ, ρ, ι, κ)) 0 0 := by
  refine zM_of zCd_X12_isLess (Nat.le_of_ble_eq_true rfl) ?_
  intro E X hR hE
  subst hE
  show zW E G 3 (z, τ, ρ, ι, κ) 0 0 0 [(0, .ref a), (1, .ref b)] []
  have L2 : ∀ (m : Nat) (i : Int32), (6 - i.toInt).toNat < m → 0 ≤ i.toInt → zW E G 3 (z, τ, ρ, ι, κ) 0 0 2 [(0, .ref a), (1, .ref b), (2, .int i)] [] := by
    intro m
    induction m with
    | zero => intro i h; omega
    | succ m ih => ?_
    intro i hm h0
    refine r_iload_n X (by rfl) dX12_isLess_2 ?_
    refine r_bipush X 6 (by decide) dX12_isLess_3 ?_
    refine r_icmp_ge X 40 dX12_isLess_5 (by decide) (fun h5 => ?_) (fun h5 => ?_)
    · rw [show Int32.toInt 6 = 6 from rfl] at h5
      refine r_iconst X 0 (by decide) dX12_isLess_40 ?_
      refine r_ireturn X hR dX12_isLess_41 rfl (Nat.zero_le _) (Nat.zero_le _) ?_
      exact ⟨_, rfl, rfl⟩
    · rw [show Int32.toInt 6 = 6 from rfl] at h5
      refine r_aload_n X (by rfl) dX12_isLess_8 ?_
      refine r_iload_n X (by rfl) dX12_isLess_9 ?_
      refine r_laload X dX12_isLess_10 ha (vp_in_iff.mpr ⟨h0, by omega⟩) ?_
      refine r_aload_n X (by rfl) dX12_isLess_11 ?_
      refine r_iload_n X (by rfl) dX12_isLess_12 ?_
      refine r_laload X dX12_isLess_13 hb (vp_in_iff.mpr ⟨h0, by omega⟩) ?_
      refine r_lcmp_eq X 34 dX12_isLess_14 dX12_isLess_15 (by decide) (fun h14 => ?_) (fun h14 => ?_)
      · refine r_iinc X 1 (by decide) (by rfl) (by decide) dX12_isLess_34 ?_
        refine r_goto X 2 dX12_isLess_37 (by decide) ?_
        exact zW.loc3 (by rfl) (by rfl) (by rfl) (ih _ (by have e := zinc (x := i) (by omega); omega) (by have e := zinc (x := i) (by omega); omega))
      · refine r_aload_n X (by rfl) dX12_isLess_18 ?_
        refine r_iload_n X (by rfl) dX12_isLess_19 ?_
        refine r_laload X dX12_isLess_20 ha (vp_in_iff.mpr ⟨h0, by omega⟩) ?_
        refine r_aload_n X (by rfl) dX12_isLess_21 ?_
        refine r_iload_n X (by rfl) dX12_isLess_22 ?_
        refine r_laload X dX12_isLess_23 hb (vp_in_iff.mpr ⟨h0, by omega⟩) ?_
        refine r_lcmp_ge X 32 dX12_isLess_24 dX12_isLess_25 (by decide) (fun h24 => ?_) (fun h24 => ?_)
        · refine r_iconst X 0 (by decide) dX12_isLess_32 ?_
          refine r_ireturn X hR dX12_isLess_33 rfl (Nat.zero_le _) (Nat.zero_le _) ?_
          exact ⟨_, rfl, rfl⟩
        · refine r_iconst X 1 (by decide) dX12_isLess_28 ?_
          refine r_goto X 33 dX12_isLess_29 (by decide) ?_
          refine r_ireturn X hR dX12_isLess_33 rfl (Nat.zero_le _) (Nat.zero_le _) ?_
          exact ⟨_, rfl, rfl⟩
  refine r_iconst X 0 (by decide) dX12_isLess_0 ?_
  refine r_istore_n X (by decide) dX12_isLess_1 ?_
  exact zW.loc3 (by rfl) (by rfl) (by rfl) (L2 7 _ (by decide) (by decide))
set_option maxHeartbeats 4000000 in
set_option maxRecDepth 100000 in
theorem c_X12_natural (l : Launch) (G : zG) (z : Nat) (τ : Nat → Option (Nat × Nat)) (ρ : Nat → Nat → Option Nat) (ι : Nat → Nat → Int32) (κ : Nat → Nat → Int64) {a M : Nat} (ha : τ a = some (12, M)) {te sh : Nat} (g17 : ρ a 17 = some te) (g18 : ρ a 18 = some sh) (hte : τ te = some (14, 6)) (hsh : τ sh = some (14, 6)) (dts : te ≠ sh) {t : Nat} (ht : τ t = some (14, 6)) (dtt : te ≠ t) (dst : sh ≠ t) (x y : Int64) (y0 : 1 ≤ y.toInt) (yx : y.toInt ≤ x.toInt) (x1 : x.toInt ≤ 1000000) : zM l G yX12_natural cX12_natural 12 none ({ frames := 1, cells := 0, slots := 0, locals := 29 } : Room) [.ref a, .long x, .long y, .ref t] (z, τ, ρ, ι, κ) (fun v s => v = none ∧ ∃ κ2, s = (z, τ, ρ, ι, κ2)) 0 0 := by
  refine zM_of zCd_X12_natural (Nat.le_of_ble_eq_true rfl) ?_
  intro E X hR hE
  subst hE
  show zW E G 12 (z, τ, ρ, ι, κ) 0 0 0 [(0, .ref a), (1, .long x), (3, .long y), (5, .ref t)] []
  have ea : (x - y).toInt = x.toInt - y.toInt := zsubJ (by omega) (by omega)
  have eb : (x + y).toInt = x.toInt + y.toInt := zaddJ (by omega) (by omega)
  have e2 : ((2 : Int64) * (x - y)).toInt = 2 * (x.toInt - y.toInt) := by rw [zmulJ (by rw [ea, show (2 : Int64).toInt = 2 from rfl]; omega) (by rw [ea, show (2 : Int64).toInt = 2 from rfl]; omega), ea]; rfl
  have L41 : ∀ (m : Nat) (i : Int64) (κ1 : Nat → Nat → Int64), (qR (κ1 te) 6).toNat < m → zNo (κ1 te) 2000000 → i.toInt % 2 = 1 → zW E G 12 (z, τ, ρ, ι, κ1) 0 0 41 [(0, .ref a), (1, .long x), (3, .long y), (5, .ref t), (6, .long (x - y)), (8, .long (x + y)), (10, .long i)] [] := by
    intro m
    induction m with
    | zero => intro i κ1 h; omega
    | succ m ih => ?_
    intro i κ1 hm hB ho
    refine r_aload_n X (by rfl) dX12_natural_41 ?_
    refine r_getR X dX12_natural_42 zF_X12_55 ha g17 ?_
    refine r_callS X dX12_natural_45 zLS_X12_114 zCd_X12_isNought (c_X12_isNought _ G z τ ρ _ _ hte) rfl rfl ⟨⟨rfl, rfl⟩, ⟨by decide, by decide⟩, ⟨Nat.le_of_ble_eq_true rfl, Nat.le_of_ble_eq_true rfl⟩, Nat.le_of_ble_eq_true rfl⟩ ?_
    rintro _ _ ⟨r, rfl, hr, rfl⟩
    refine r_if_ne X 127 dX12_natural_48 (by decide) (fun h48 => ?_) (fun h48 => ?_)
    · refine r_return X hR dX12_natural_127 (Nat.zero_le _) (Nat.zero_le _) ?_
      exact ⟨rfl, _, rfl⟩
    · have hpos := qR_ne hB (hr h48)
      refine r_aload_n X (by rfl) dX12_natural_51 ?_
      refine r_getR X dX12_natural_52 zF_X12_55 ha g17 ?_
      refine r_aload_n X (by rfl) dX12_natural_55 ?_
      refine r_getR X dX12_natural_56 zF_X12_58 ha g18 ?_
      refine r_callS X dX12_natural_59 zLS_X12_118 zCd_X12_copies (c_X12_copies _ G z τ ρ _ _ hte hsh dts) rfl rfl ⟨⟨rfl, rfl⟩, ⟨by decide, by decide⟩, ⟨Nat.le_of_ble_eq_true rfl, Nat.le_of_ble_eq_true rfl⟩, Nat.le_of_ble_eq_true rfl⟩ ?_
      rintro _ _ ⟨rfl, k4, rfl, f4, -⟩
      rw [← f4 te dts] at hB hm hpos
      refine r_aload_n X (by rfl) dX12_natural_62 ?_
      refine r_getR X dX12_natural_63 zF_X12_58 ha g18 ?_
      refine r_lload X (by rfl) dX12_natural_66 ?_
      refine r_callS X dX12_natural_68 zLS_X12_111 zCd_X12_divides (c_X12_divides _ G z τ ρ _ _ hsh _ (zodd_ne ho)) rfl rfl ⟨⟨rfl, rfl⟩, ⟨by decide, by decide⟩, ⟨Nat.le_of_ble_eq_true rfl, Nat.le_of_ble_eq_true rfl⟩, Nat.le_of_ble_eq_true rfl⟩ ?_
      rintro _ _ ⟨rfl, k5, rfl, f5⟩
      rw [← f5 te dts] at hB hm hpos
      refine r_aload X (by rfl) dX12_natural_71 ?_
      refine r_aload_n X (by rfl) dX12_natural_73 ?_
      refine r_getR X dX12_natural_74 zF_X12_58 ha g18 ?_
      refine r_callS X dX12_natural_77 zLS_X12_99 zCd_X12_adds (c_X12_adds _ G z τ ρ _ _ ht hsh) rfl rfl ⟨⟨rfl, rfl⟩, ⟨by decide, by decide⟩, ⟨Nat.le_of_ble_eq_true rfl, Nat.le_of_ble_eq_true rfl⟩, Nat.le_of_ble_eq_true rfl⟩ ?_
      rintro _ _ ⟨rfl, k6, rfl, f6⟩
      rw [← f6 te dtt] at hB hm hpos
      refine r_aload_n X (by rfl) dX12_natural_80 ?_
      refine r_getR X dX12_natural_81 zF_X12_55 ha g17 ?_
      refine r_lload X (by rfl) dX12_natural_84 ?_
      refine r_callS X dX12_natural_86 zLS_X12_121 zCd_X12_times (c_X12_timesS _ G z τ ρ _ _ hte _ (by omega) (by omega) hB) rfl rfl ⟨⟨rfl, rfl⟩, ⟨by decide, by decide⟩, ⟨Nat.le_of_ble_eq_true rfl, Nat.le_of_ble_eq_true rfl⟩, Nat.le_of_ble_eq_true rfl⟩ ?_
      rintro _ _ ⟨rfl, k7, rfl, -, hn7, hT7⟩
      refine r_aload_n X (by rfl) dX12_natural_89 ?_
      refine r_getR X dX12_natural_90 zF_X12_55 ha g17 ?_
      refine r_lload X (by rfl) dX12_natural_93 ?_
      refine r_callS X dX12_natural_95 zLS_X12_111 zCd_X12_divides (c_X12_dividesS _ G z τ ρ _ _ hte _ (by omega) (by omega) hn7) rfl rfl ⟨⟨rfl, rfl⟩, ⟨by decide, by decide⟩, ⟨Nat.le_of_ble_eq_true rfl, Nat.le_of_ble_eq_true rfl⟩, Nat.le_of_ble_eq_true rfl⟩ ?_
      rintro _ _ ⟨rfl, k8, rfl, -, hn8, hT8⟩
      rw [hT7, ea, eb] at hT8
      have hF8 := zfall hT8 (by omega) (by omega) (qR_pos hB)
      have hB8 := zNo_fall hB hn8 hF8
      refine r_aload_n X (by rfl) dX12_natural_98 ?_
      refine r_getR X dX12_natural_99 zF_X12_55 ha g17 ?_
      refine r_lload X (by rfl) dX12_natural_102 ?_
      refine r_callS X dX12_natural_104 zLS_X12_121 zCd_X12_times (c_X12_timesS _ G z τ ρ _ _ hte _ (by omega) (by omega) hB8) rfl rfl ⟨⟨rfl, rfl⟩, ⟨by decide, by decide⟩, ⟨Nat.le_of_ble_eq_true rfl, Nat.le_of_ble_eq_true rfl⟩, Nat.le_of_ble_eq_true rfl⟩ ?_
      rintro _ _ ⟨rfl, k9, rfl, -, hn9, hT9⟩
      refine r_aload_n X (by rfl) dX12_natural_107 ?_
      refine r_getR X dX12_natural_108 zF_X12_55 ha g17 ?_
      refine r_lload X (by rfl) dX12_natural_111 ?_
      refine r_callS X dX12_natural_113 zLS_X12_111 zCd_X12_divides (c_X12_dividesS _ G z τ ρ _ _ hte _ (by omega) (by omega) hn9) rfl rfl ⟨⟨rfl, rfl⟩, ⟨by decide, by decide⟩, ⟨Nat.le_of_ble_eq_true rfl, Nat.le_of_ble_eq_true rfl⟩, Nat.le_of_ble_eq_true rfl⟩ ?_
      rintro _ _ ⟨rfl, k10, rfl, -, hn10, hT10⟩
      rw [hT9, ea, eb] at hT10
      have hF10 := zfall hT10 (by omega) (by omega) (qR_pos hB8)
      have hB10 := zNo_fall hB8 hn10 hF10
      have hS10 := zfall_lt hT8 (by omega) (by omega) hpos
      refine r_lload X (by rfl) dX12_natural_116 ?_
      refine r_ldc2 X zK_X12_89 dX12_natural_118 ?_
      refine r_ladd X dX12_natural_121 ?_
      refine r_lstore X (by decide) dX12_natural_122 ?_
      refine r_goto X 41 dX12_natural_124 (by decide) ?_
      exact zW.loc7 (by rfl) (by rfl) (by rfl) (by rfl) (by rfl) (by rfl) (by rfl) (ih _ _ (by omega) hB10 (zodd_2 ho))
  refine r_lload_n X (by rfl) dX12_natural_0 ?_
  refine r_lload_n X (by rfl) dX12_natural_1 ?_
  refine r_lsub X dX12_natural_2 ?_
  refine r_lstore X (by decide) dX12_natural_3 ?_
  refine r_lload_n X (by rfl) dX12_natural_5 ?_
  refine r_lload_n X (by rfl) dX12_natural_6 ?_
  refine r_ladd X dX12_natural_7 ?_
  refine r_lstore X (by decide) dX12_natural_8 ?_
  refine r_aload X (by rfl) dX12_natural_10 ?_
  refine r_lconst X 0 (by decide) dX12_natural_12 ?_
  refine r_callS X dX12_natural_13 zLS_X12_107 zCd_X12_sets (c_X12_sets _ G z τ ρ _ _ ht _) rfl rfl ⟨⟨rfl, rfl⟩, ⟨by decide, by decide⟩, ⟨Nat.le_of_ble_eq_true rfl, Nat.le_of_ble_eq_true rfl⟩, Nat.le_of_ble_eq_true rfl⟩ ?_
  rintro _ _ ⟨rfl, k1, rfl, -⟩
  refine r_aload_n X (by rfl) dX12_natural_16 ?_
  refine r_getR X dX12_natural_17 zF_X12_55 ha g17 ?_
  refine r_ldc2 X zK_X12_89 dX12_natural_20 ?_
  refine r_lload X (by rfl) dX12_natural_23 ?_
  refine r_lmul X dX12_natural_25 ?_
  refine r_callS X dX12_natural_26 zLS_X12_107 zCd_X12_sets (c_X12_sets _ G z τ ρ _ _ hte _) rfl rfl ⟨⟨rfl, rfl⟩, ⟨by decide, by decide⟩, ⟨Nat.le_of_ble_eq_true rfl, Nat.le_of_ble_eq_true rfl⟩, Nat.le_of_ble_eq_true rfl⟩ ?_
  rintro _ _ ⟨rfl, k2, rfl, -, s0, s1⟩
  have hn2 : zNo (k2 te) 2000000 := ⟨by rw [s0, e2]; omega, by rw [s0, e2]; omega, fun k h1 h6 => by rw [s1 k h1 h6]; decide⟩
  refine r_aload_n X (by rfl) dX12_natural_29 ?_
  refine r_getR X dX12_natural_30 zF_X12_55 ha g17 ?_
  refine r_lload X (by rfl) dX12_natural_33 ?_
  refine r_callS X dX12_natural_35 zLS_X12_111 zCd_X12_divides (c_X12_dividesS _ G z τ ρ _ _ hte _ (by omega) (by omega) (hn2.le (by omega))) rfl rfl ⟨⟨rfl, rfl⟩, ⟨by decide, by decide⟩, ⟨Nat.le_of_ble_eq_true rfl, Nat.le_of_ble_eq_true rfl⟩, Nat.le_of_ble_eq_true rfl⟩ ?_
  rintro _ _ ⟨rfl, k3, rfl, -, hn3, hT3⟩
  have hB3 := zNo_down hn2 hn3 (by omega) hT3
  refine r_lconst X 1 (by decide) dX12_natural_38 ?_
  refine r_lstore X (by decide) dX12_natural_39 ?_
  exact zW.loc7 (by rfl) (by rfl) (by rfl) (by rfl) (by rfl) (by rfl) (by rfl) (L41 ((qR (k3 te) 6).toNat + 1) _ _ (by omega) hB3 (by decide))
set_option maxHeartbeats 4000000 in
set_option maxRecDepth 100000 in
theorem c_X12_logOf (l : Launch) (G : zG) (z : Nat) (τ : Nat → Option (Nat × Nat)) (ρ : Nat → Nat → Option Nat) (ι : Nat → Nat → Int32) (κ : Nat → Nat → Int64) {a M : Nat} (ha : τ a = some (12, M)) {te sh : Nat} (g17 : ρ a 17 = some te) (g18 : ρ a 18 = some sh) (hte : τ te = some (14, 6)) (hsh : τ sh = some (14, 6)) (dts : te ≠ sh) {tw : Nat} (g15 : ρ a 15 = some tw) (htw : τ tw = some (1002, 6)) {t : Nat} (ht : τ t = some (14, 6)) (dtt : te ≠ t) (dst : sh ≠ t) (x : Int64) (x0 : 1 ≤ x.toInt) (x1 : x.toInt ≤ 1000000) : zM l G yX12_logOf cX12_logOf 8 none ({ frames := 2, cells := 0, slots := 0, locals := 60 } : Room) [.ref a, .long x, .ref t] (z, τ, ρ, ι, κ) (fun v s => v = none ∧ ∃ κ2, s = (z, τ, ρ, ι, κ2)) 0 0 := by
  refine zM_of zCd_X12_logOf (Nat.le_of_ble_eq_true rfl) ?_
  intro E X hR hE
  subst hE
  show zW E G 8 (z, τ, ρ, ι, κ) 0 0 0 [(0, .ref a), (1, .long x), (3, .ref t)] []
  have L42 : ∀ (i u : Int32) (v : Int64), ∀ (m : Nat) (j : Int32) (κ1 : Nat → Nat → Int64), (u.toInt - j.toInt).toNat < m → 0 ≤ j.toInt → zW E G 8 (z, τ, ρ, ι, κ1) 0 0 42 [(0, .ref a), (1, .long x), (3, .ref t), (4, .long v), (6, .int u), (7, .int j)] [] := by
    intro i u v m
    induction m with
    | zero => intro j κ1 h; omega
    | succ m ih => ?_
    intro j κ1 hm h0
    have hul := u.toInt_lt
    refine r_iload X (by rfl) dX12_logOf_42 ?_
    refine r_iload X (by rfl) dX12_logOf_44 ?_
    refine r_icmp_ge X 63 dX12_logOf_46 (by decide) (fun h46 => ?_) (fun h46 => ?_)
    · refine r_return X hR dX12_logOf_63 (Nat.zero_le _) (Nat.zero_le _) ?_
      exact ⟨rfl, _, rfl⟩
    · refine r_aload_n X (by rfl) dX12_logOf_49 ?_
      refine r_aload_n X (by rfl) dX12_logOf_50 ?_
      refine r_getR X dX12_logOf_51 zF_X12_48 ha g15 ?_
      refine r_callS X dX12_logOf_54 zLS_X12_99 zCd_X12_adds (c_X12_addsF _ G z τ ρ _ _ ht htw) rfl rfl ⟨⟨rfl, rfl⟩, ⟨by decide, by decide⟩, ⟨Nat.le_of_ble_eq_true rfl, Nat.le_of_ble_eq_true rfl⟩, Nat.le_of_ble_eq_true rfl⟩ ?_
      rintro _ _ ⟨rfl, k2, rfl, -⟩
      refine r_iinc X 1 (by decide) (by rfl) (by decide) dX12_logOf_57 ?_
      refine r_goto X 42 dX12_logOf_60 (by decide) ?_
      exact zW.loc6 (by rfl) (by rfl) (by rfl) (by rfl) (by rfl) (by rfl) (ih _ _ (by have e := zinc (x := j) (by omega); omega) (by have e := zinc (x := j) (by omega); omega))
  have L6 : ∀ (m : Nat) (v : Int64) (u : Int32), (x.toInt - v.toInt).toNat < m → 1 ≤ v.toInt → v.toInt ≤ x.toInt → zW E G 8 (z, τ, ρ, ι, κ) 0 0 6 [(0, .ref a), (1, .long x), (3, .ref t), (4, .long v), (6, .int u)] [] := by
    intro m
    induction m with
    | zero => intro v u h; omega
    | succ m ih => ?_
    intro v u hm h0 h1
    have e := zmulJ (x := 2) (y := v) (by rw [show (2 : Int64).toInt = 2 from rfl]; omega) (by rw [show (2 : Int64).toInt = 2 from rfl]; omega)
    rw [show (2 : Int64).toInt = 2 from rfl] at e
    have e2 := zmulJ (x := v) (y := 2) (by rw [show (2 : Int64).toInt = 2 from rfl]; omega) (by rw [show (2 : Int64).toInt = 2 from rfl]; omega)
    rw [show (2 : Int64).toInt = 2 from rfl] at e2
    refine r_ldc2 X zK_X12_89 dX12_logOf_6 ?_
    refine r_lload X (by rfl) dX12_logOf_9 ?_
    refine r_lmul X dX12_logOf_11 ?_
    refine r_lload_n X (by rfl) dX12_logOf_12 ?_
    refine r_lcmp_gt X 31 dX12_logOf_13 dX12_logOf_14 (by decide) (fun h13 => ?_) (fun h13 => ?_)
    · refine r_aload_n X (by rfl) dX12_logOf_31 ?_
      refine r_lload_n X (by rfl) dX12_logOf_32 ?_
      refine r_lload X (by rfl) dX12_logOf_33 ?_
      refine r_aload_n X (by rfl) dX12_logOf_35 ?_
      refine r_callV X dX12_logOf_36 zLV_X12_91 zCd_X12_natural (c_X12_natural _ G z τ ρ _ _ ha g17 g18 hte hsh dts ht dtt dst _ _ h0 h1 x1) ha ⟨by decide, rfl, rfl⟩ rfl rfl ⟨⟨rfl, rfl⟩, ⟨by decide, by decide⟩, ⟨Nat.le_of_ble_eq_true rfl, Nat.le_of_ble_eq_true rfl⟩, Nat.le_of_ble_eq_true rfl⟩ ?_
      rintro _ _ ⟨rfl, k1, rfl⟩
      refine r_iconst X 0 (by decide) dX12_logOf_39 ?_
      refine r_istore X (by decide) dX12_logOf_40 ?_
      exact zW.loc6 (by rfl) (by rfl) (by rfl) (by rfl) (by rfl) (by rfl) (L42 0 _ _ (u.toInt.toNat + 1) _ _ (by rw [show Int32.toInt 0 = 0 from rfl]; omega) (by decide))
    · refine r_lload X (by rfl) dX12_logOf_17 ?_
      refine r_ldc2 X zK_X12_89 dX12_logOf_19 ?_
      refine r_lmul X dX12_logOf_22 ?_
      refine r_lstore X (by decide) dX12_logOf_23 ?_
      refine r_iinc X 1 (by decide) (by rfl) (by decide) dX12_logOf_25 ?_
      refine r_goto X 6 dX12_logOf_28 (by decide) ?_
      exact zW.loc5 (by rfl) (by rfl) (by rfl) (by rfl) (by rfl) (ih _ _ (by omega) (by omega) (by omega))
  refine r_lconst X 1 (by decide) dX12_logOf_0 ?_
  refine r_lstore X (by decide) dX12_logOf_1 ?_
  refine r_iconst X 0 (by decide) dX12_logOf_3 ?_
  refine r_istore X (by decide) dX12_logOf_4 ?_
  exact zW.loc5 (by rfl) (by rfl) (by rfl) (by rfl) (by rfl) (L6 (x.toInt.toNat + 1) _ _ (by rw [show Int64.toInt 1 = 1 from rfl]; omega) (by decide) (by rw [show Int64.toInt 1 = 1 from rfl]; exact x0))
set_option maxHeartbeats 4000000 in
set_option maxRecDepth 100000 in
theorem c_X12_down (l : Launch) (G : zG) (z : Nat) (τ : Nat → Option (Nat × Nat)) (ρ : Nat → Nat → Option Nat) (ι : Nat → Nat → Int32) (κ : Nat → Nat → Int64) (x y : Int64) (hy : ¬ y = 0) : zM l G yX12_down cX12_down 4 (some .long) ({ frames := 0, cells := 0, slots := 0, locals := 0 } : Room) [.long x, .long y] (z, τ, ρ, ι, κ) (fun v s => v = some (.long (zDown x y)) ∧ s = (z, τ, ρ, ι, κ)) 0 0 := by
  refine zM_of zCd_X12_down (Nat.le_of_ble_eq_true rfl) ?_
  intro E X hR hE
  subst hE
  show zW E G 4 (z, τ, ρ, ι, κ) 0 0 0 [(0, .long x), (2, .long y)] []
  refine r_lload_n X (by rfl) dX12_down_0 ?_
  refine r_lconst X 0 (by decide) dX12_down_1 ?_
  refine r_lcmp_lt X 12 dX12_down_2 dX12_down_3 (by decide) (fun h2 => ?_) (fun h2 => ?_)
  · rw [show Int64.toInt 0 = 0 from rfl] at h2
    refine r_lload_n X (by rfl) dX12_down_12 ?_
    refine r_lconst X 1 (by decide) dX12_down_13 ?_
    refine r_lsub X dX12_down_14 ?_
    refine r_lload_n X (by rfl) dX12_down_15 ?_
    refine r_lsub X dX12_down_16 ?_
    refine r_lload_n X (by rfl) dX12_down_17 ?_
    refine r_ldiv X hy dX12_down_18 ?_
    refine r_lneg X dX12_down_19 ?_
    refine r_lreturn X hR dX12_down_20 (Nat.zero_le _) (Nat.zero_le _) ?_
    exact ⟨by unfold zDown; first | rw [if_pos (by omega)] | rw [if_neg (by omega)], rfl⟩
  · rw [show Int64.toInt 0 = 0 from rfl] at h2
    refine r_lload_n X (by rfl) dX12_down_6 ?_
    refine r_lload_n X (by rfl) dX12_down_7 ?_
    refine r_ldiv X hy dX12_down_8 ?_
    refine r_goto X 20 dX12_down_9 (by decide) ?_
    refine r_lreturn X hR dX12_down_20 (Nat.zero_le _) (Nat.zero_le _) ?_
    exact ⟨by unfold zDown; first | rw [if_pos (by omega)] | rw [if_neg (by omega)], rfl⟩
set_option maxHeartbeats 4000000 in
set_option maxRecDepth 100000 in
theorem c_X12_tens (l : Launch) (G : zG) (z : Nat) (τ : Nat → Option (Nat × Nat)) (ρ : Nat → Nat → Option Nat) (ι : Nat → Nat → Int32) (κ : Nat → Nat → Int64) (x y : Int64) (x0 : 1 ≤ x.toInt) (x1 : x.toInt ≤ 1000000) (y0 : 1 ≤ y.toInt) (y1 : y.toInt ≤ 1000000) : zM l G yX12_tens cX12_tens 9 (some .int) ({ frames := 0, cells := 0, slots := 0, locals := 0 } : Room) [.long x, .long y] (z, τ, ρ, ι, κ) (fun v s => ∃ r, v = some (.int r) ∧ s = (z, τ, ρ, ι, κ)) 0 0 := by
  refine zM_of zCd_X12_tens (Nat.le_of_ble_eq_true rfl) ?_
  intro E X hR hE
  subst hE
  show zW E G 9 (z, τ, ρ, ι, κ) 0 0 0 [(0, .long x), (2, .long y)] []
  have L33 : ∀ (m : Nat) (u v : Int64) (n : Int32), (u.toInt - v.toInt).toNat < m → u.toInt ≤ 10000000 → 1 ≤ v.toInt → v.toInt ≤ 100000000 → zW E G 9 (z, τ, ρ, ι, κ) 0 0 33 [(0, .long x), (2, .long y), (4, .long u), (6, .long v), (8, .int n)] [] := by
    intro m
    induction m with
    | zero => intro u v n h; omega
    | succ m ih => ?_
    intro u v n hm h0 h1 h2
    have e10 := zmulJ (x := v) (y := 10) (by rw [show (10 : Int64).toInt = 10 from rfl]; omega) (by rw [show (10 : Int64).toInt = 10 from rfl]; omega)
    rw [show (10 : Int64).toInt = 10 from rfl] at e10
    refine r_lload X (by rfl) dX12_tens_33 ?_
    refine r_lload X (by rfl) dX12_tens_35 ?_
    refine r_lcmp_le X 55 dX12_tens_37 dX12_tens_38 (by decide) (fun h37 => ?_) (fun h37 => ?_)
    · refine r_lload X (by rfl) dX12_tens_55 ?_
      refine r_lload X (by rfl) dX12_tens_57 ?_
      refine r_lcmp_ne X 68 dX12_tens_59 dX12_tens_60 (by decide) (fun h59 => ?_) (fun h59 => ?_)
      · refine r_iconst X 0 (by decide) dX12_tens_68 ?_
        refine r_ireturn X hR dX12_tens_69 rfl (Nat.zero_le _) (Nat.zero_le _) ?_
        exact ⟨_, rfl, rfl⟩
      · refine r_iload X (by rfl) dX12_tens_63 ?_
        refine r_goto X 69 dX12_tens_65 (by decide) ?_
        refine r_ireturn X hR dX12_tens_69 rfl (Nat.zero_le _) (Nat.zero_le _) ?_
        exact ⟨_, rfl, rfl⟩
    · refine r_lload X (by rfl) dX12_tens_41 ?_
      refine r_ldc2 X zK_X12_124 dX12_tens_43 ?_
      refine r_lmul X dX12_tens_46 ?_
      refine r_lstore X (by decide) dX12_tens_47 ?_
      refine r_iinc X 1 (by decide) (by rfl) (by decide) dX12_tens_49 ?_
      refine r_goto X 33 dX12_tens_52 (by decide) ?_
      exact zW.loc5 (by rfl) (by rfl) (by rfl) (by rfl) (by rfl) (ih _ _ _ (by omega) h0 (by omega) (by omega))
  have L11 : ∀ (m : Nat) (u : Int64) (n : Int32), (y.toInt - u.toInt).toNat < m → 1 ≤ u.toInt → u.toInt ≤ 10000000 → zW E G 9 (z, τ, ρ, ι, κ) 0 0 11 [(0, .long x), (2, .long y), (4, .long u), (6, .long y), (8, .int n)] [] := by
    intro m
    induction m with
    | zero => intro u n h; omega
    | succ m ih => ?_
    intro u n hm h0 h1
    have e10 := zmulJ (x := u) (y := 10) (by rw [show (10 : Int64).toInt = 10 from rfl]; omega) (by rw [show (10 : Int64).toInt = 10 from rfl]; omega)
    rw [show (10 : Int64).toInt = 10 from rfl] at e10
    refine r_lload X (by rfl) dX12_tens_11 ?_
    refine r_lload X (by rfl) dX12_tens_13 ?_
    refine r_lcmp_ge X 33 dX12_tens_15 dX12_tens_16 (by decide) (fun h15 => ?_) (fun h15 => ?_)
    · exact zW.loc5 (by rfl) (by rfl) (by rfl) (by rfl) (by rfl) (L33 100000000 _ _ _ (by omega) h1 y0 (by omega))
    · refine r_lload X (by rfl) dX12_tens_19 ?_
      refine r_ldc2 X zK_X12_124 dX12_tens_21 ?_
      refine r_lmul X dX12_tens_24 ?_
      refine r_lstore X (by decide) dX12_tens_25 ?_
      refine r_iinc X (-1) (by decide) (by rfl) (by decide) dX12_tens_27 ?_
      refine r_goto X 11 dX12_tens_30 (by decide) ?_
      exact zW.loc5 (by rfl) (by rfl) (by rfl) (by rfl) (by rfl) (ih _ _ (by omega) (by omega) (by omega))
  refine r_lload_n X (by rfl) dX12_tens_0 ?_
  refine r_lstore X (by decide) dX12_tens_1 ?_
  refine r_lload_n X (by rfl) dX12_tens_3 ?_
  refine r_lstore X (by decide) dX12_tens_4 ?_
  refine r_sipush X 1000 (by decide) dX12_tens_6 ?_
  refine r_istore X (by decide) dX12_tens_9 ?_
  exact zW.loc5 (by rfl) (by rfl) (by rfl) (by rfl) (by rfl) (L11 1000001 _ _ (by omega) x0 (by omega))
set_option maxHeartbeats 4000000 in
set_option maxRecDepth 100000 in
theorem c_X12_nearestOf (l : Launch) (G : zG) (z : Nat) (τ : Nat → Option (Nat × Nat)) (ρ : Nat → Nat → Option Nat) (ι : Nat → Nat → Int32) (κ : Nat → Nat → Int64) {a M : Nat} (ha : τ a = some (12, M)) {te sh : Nat} (g17 : ρ a 17 = some te) (g18 : ρ a 18 = some sh) (hte : τ te = some (14, 6)) (hsh : τ sh = some (14, 6)) (dts : te ≠ sh) {tw : Nat} (g15 : ρ a 15 = some tw) (htw : τ tw = some (1002, 6)) {tn on ot le ri : Nat} (g16 : ρ a 16 = some tn) (g19 : ρ a 19 = some on) (g20 : ρ a 20 = some ot) (g21 : ρ a 21 = some le) (g22 : ρ a 22 = some ri) (htn : τ tn = some (1003, 6)) (hon : τ on = some (14, 6)) (hot : τ ot = some (14, 6)) (hle : τ le = some (14, 6)) (hri : τ ri = some (14, 6)) (don : te ≠ on) (dso : sh ≠ on) (dot : te ≠ ot) (dso2 : sh ≠ ot) (dle : on ≠ le) (dri : tn ≠ ri) (x y : Int64) (u : Int32) (x0 : 1 ≤ x.toInt) (x1 : x.toInt ≤ 1000000) (y0 : 1 ≤ y.toInt) (y1 : y.toInt ≤ 1000000) (u0 : 1 ≤ u.toInt) (u1 : u.toInt ≤ 3) : zM l G yX12_nearestOf cX12_nearestOf 13 (some .int) ({ frames := 3, cells := 0, slots := 0, locals := 87 } : Room) [.ref a, .long x, .long y, .int u] (z, τ, ρ, ι, κ) (fun v s => ∃ r κ2, v = some (.int r) ∧ s = (z, τ, ρ, ι, κ2)) 0 0 := by
  refine zM_of zCd_X12_nearestOf (Nat.le_of_ble_eq_true rfl) ?_
  intro E X hR hE
  subst hE
  show zW E G 13 (z, τ, ρ, ι, κ) 0 0 0 [(0, .ref a), (1, .long x), (3, .long y), (5, .int u)] []
  have L73 : ∀ (r : Int32) (m : Nat) (p q : Int64) (κ1 : Nat → Nat → Int64), (q.toInt - p.toInt).toNat < m → -400000 ≤ p.toInt → p.toInt ≤ q.toInt → q.toInt ≤ 400000 → zW E G 13 (z, τ, ρ, ι, κ1) 0 0 73 [(0, .ref a), (1, .long x), (3, .long y), (5, .int u), (6, .int r), (7, .long p), (9, .long q)] [] := by
    intro r m
    induction m with
    | zero => intro p q κ1 h; omega
    | succ m ih => ?_
    intro p q κ1 hm h0 h1 h2
    refine r_lload X (by rfl) dX12_nearestOf_73 ?_
    refine r_lload X (by rfl) dX12_nearestOf_75 ?_
    refine r_lcmp_ge X 194 dX12_nearestOf_77 dX12_nearestOf_78 (by decide) (fun h77 => ?_) (fun h77 => ?_)
    · refine r_lload X (by rfl) dX12_nearestOf_194 ?_
      refine r_l2i X dX12_nearestOf_196 ?_
      refine r_ireturn X hR dX12_nearestOf_197 rfl (Nat.zero_le _) (Nat.zero_le _) ?_
      exact ⟨_, _, rfl, rfl⟩
    · have hd := zhalfD h0 h2 h77
      refine r_lload X (by rfl) dX12_nearestOf_81 ?_
      refine r_lload X (by rfl) dX12_nearestOf_83 ?_
      refine r_ladd X dX12_nearestOf_85 ?_
      refine r_lconst X 1 (by decide) dX12_nearestOf_86 ?_
      refine r_ladd X dX12_nearestOf_87 ?_
      refine r_ldc2 X zK_X12_89 dX12_nearestOf_88 ?_
      refine r_callS X dX12_nearestOf_91 zLS_X12_130 zCd_X12_down (c_X12_down _ G z τ ρ _ _ _ _ (by decide)) rfl rfl ⟨⟨rfl, rfl⟩, ⟨by decide, by decide⟩, ⟨Nat.le_of_ble_eq_true rfl, Nat.le_of_ble_eq_true rfl⟩, Nat.le_of_ble_eq_true rfl⟩ ?_
      rintro _ _ ⟨rfl, rfl⟩
      refine r_lstore X (by decide) dX12_nearestOf_94 ?_
      refine r_aload_n X (by rfl) dX12_nearestOf_96 ?_
      refine r_getR X dX12_nearestOf_97 zF_X12_61 ha g19 ?_
      refine r_aload_n X (by rfl) dX12_nearestOf_100 ?_
      refine r_getR X dX12_nearestOf_101 zF_X12_67 ha g21 ?_
      refine r_callS X dX12_nearestOf_104 zLS_X12_118 zCd_X12_copies (c_X12_copies _ G z τ ρ _ _ hon hle dle) rfl rfl ⟨⟨rfl, rfl⟩, ⟨by decide, by decide⟩, ⟨Nat.le_of_ble_eq_true rfl, Nat.le_of_ble_eq_true rfl⟩, Nat.le_of_ble_eq_true rfl⟩ ?_
      rintro _ _ ⟨rfl, k3, rfl, -, -⟩
      refine r_aload_n X (by rfl) dX12_nearestOf_107 ?_
      refine r_getR X dX12_nearestOf_108 zF_X12_67 ha g21 ?_
      refine r_aload_n X (by rfl) dX12_nearestOf_111 ?_
      refine r_getR X dX12_nearestOf_112 zF_X12_64 ha g20 ?_
      refine r_callS X dX12_nearestOf_115 zLS_X12_142 zCd_X12_takes (c_X12_takes _ G z τ ρ _ _ hle hot) rfl rfl ⟨⟨rfl, rfl⟩, ⟨by decide, by decide⟩, ⟨Nat.le_of_ble_eq_true rfl, Nat.le_of_ble_eq_true rfl⟩, Nat.le_of_ble_eq_true rfl⟩ ?_
      rintro _ _ ⟨rfl, k4, rfl, -⟩
      refine r_aload_n X (by rfl) dX12_nearestOf_118 ?_
      refine r_getR X dX12_nearestOf_119 zF_X12_67 ha g21 ?_
      refine r_ldc2 X zK_X12_89 dX12_nearestOf_122 ?_
      refine r_aload_n X (by rfl) dX12_nearestOf_125 ?_
      refine r_getI X dX12_nearestOf_126 zF_X12_7 ha ?_
      refine r_i2l X dX12_nearestOf_129 ?_
      refine r_lmul X dX12_nearestOf_130 ?_
      refine r_callS X dX12_nearestOf_131 zLS_X12_121 zCd_X12_times (c_X12_times _ G z τ ρ _ _ hle _) rfl rfl ⟨⟨rfl, rfl⟩, ⟨by decide, by decide⟩, ⟨Nat.le_of_ble_eq_true rfl, Nat.le_of_ble_eq_true rfl⟩, Nat.le_of_ble_eq_true rfl⟩ ?_
      rintro _ _ ⟨rfl, k5, rfl, -⟩
      refine r_aload_n X (by rfl) dX12_nearestOf_134 ?_
      refine r_getR X dX12_nearestOf_135 zF_X12_52 ha g16 ?_
      refine r_aload_n X (by rfl) dX12_nearestOf_138 ?_
      refine r_getR X dX12_nearestOf_139 zF_X12_70 ha g22 ?_
      refine r_callS X dX12_nearestOf_142 zLS_X12_118 zCd_X12_copies (c_X12_copiesF _ G z τ ρ _ _ htn hri) rfl rfl ⟨⟨rfl, rfl⟩, ⟨by decide, by decide⟩, ⟨Nat.le_of_ble_eq_true rfl, Nat.le_of_ble_eq_true rfl⟩, Nat.le_of_ble_eq_true rfl⟩ ?_
      rintro _ _ ⟨rfl, k6, rfl, -, -⟩
      refine r_aload_n X (by rfl) dX12_nearestOf_145 ?_
      refine r_getR X dX12_nearestOf_146 zF_X12_70 ha g22 ?_
      refine r_ldc2 X zK_X12_89 dX12_nearestOf_149 ?_
      refine r_lload X (by rfl) dX12_nearestOf_152 ?_
      refine r_lmul X dX12_nearestOf_154 ?_
      refine r_lconst X 1 (by decide) dX12_nearestOf_155 ?_
      refine r_lsub X dX12_nearestOf_156 ?_
      refine r_iload X (by rfl) dX12_nearestOf_157 ?_
      refine r_i2l X dX12_nearestOf_159 ?_
      refine r_lmul X dX12_nearestOf_160 ?_
      refine r_callS X dX12_nearestOf_161 zLS_X12_121 zCd_X12_times (c_X12_times _ G z τ ρ _ _ hri _) rfl rfl ⟨⟨rfl, rfl⟩, ⟨by decide, by decide⟩, ⟨Nat.le_of_ble_eq_true rfl, Nat.le_of_ble_eq_true rfl⟩, Nat.le_of_ble_eq_true rfl⟩ ?_
      rintro _ _ ⟨rfl, k7, rfl, -⟩
      refine r_aload_n X (by rfl) dX12_nearestOf_164 ?_
      refine r_getR X dX12_nearestOf_165 zF_X12_67 ha g21 ?_
      refine r_aload_n X (by rfl) dX12_nearestOf_168 ?_
      refine r_getR X dX12_nearestOf_169 zF_X12_70 ha g22 ?_
      refine r_callS X dX12_nearestOf_172 zLS_X12_145 zCd_X12_isLess (c_X12_isLess _ G z τ ρ _ _ hle hri) rfl rfl ⟨⟨rfl, rfl⟩, ⟨by decide, by decide⟩, ⟨Nat.le_of_ble_eq_true rfl, Nat.le_of_ble_eq_true rfl⟩, Nat.le_of_ble_eq_true rfl⟩ ?_
      rintro _ _ ⟨r2, rfl, rfl⟩
      refine r_if_eq X 187 dX12_nearestOf_175 (by decide) (fun h175 => ?_) (fun h175 => ?_)
      · refine r_lload X (by rfl) dX12_nearestOf_187 ?_
        refine r_lstore X (by decide) dX12_nearestOf_189 ?_
        refine r_goto X 73 dX12_nearestOf_191 (by decide) ?_
        exact zW.loc7 (by rfl) (by rfl) (by rfl) (by rfl) (by rfl) (by rfl) (by rfl) (ih _ _ _ (by omega) (by omega) (by omega) (by omega))
      · have es := zsubJ (x := zDown (p + q + 1) 2) (y := 1) (by rw [show (1 : Int64).toInt = 1 from rfl]; omega) (by rw [show (1 : Int64).toInt = 1 from rfl]; omega)
        rw [show (1 : Int64).toInt = 1 from rfl] at es
        refine r_lload X (by rfl) dX12_nearestOf_178 ?_
        refine r_lconst X 1 (by decide) dX12_nearestOf_180 ?_
        refine r_lsub X dX12_nearestOf_181 ?_
        refine r_lstore X (by decide) dX12_nearestOf_182 ?_
        refine r_goto X 191 dX12_nearestOf_184 (by decide) ?_
        refine r_goto X 73 dX12_nearestOf_191 (by decide) ?_
        exact zW.loc7 (by rfl) (by rfl) (by rfl) (by rfl) (by rfl) (by rfl) (by rfl) (ih _ _ _ (by omega) (by omega) (by omega) (by omega))
  refine r_lload_n X (by rfl) dX12_nearestOf_0 ?_
  refine r_lload_n X (by rfl) dX12_nearestOf_1 ?_
  refine r_callS X dX12_nearestOf_2 zLS_X12_126 zCd_X12_tens (c_X12_tens _ G z τ ρ _ _ _ _ x0 x1 y0 y1) rfl rfl ⟨⟨rfl, rfl⟩, ⟨by decide, by decide⟩, ⟨Nat.le_of_ble_eq_true rfl, Nat.le_of_ble_eq_true rfl⟩, Nat.le_of_ble_eq_true rfl⟩ ?_
  rintro _ _ ⟨r, rfl, rfl⟩
  refine r_istore X (by decide) dX12_nearestOf_5 ?_
  refine r_iload X (by rfl) dX12_nearestOf_7 ?_
  refine r_if_le X 45 dX12_nearestOf_9 (by decide) (fun h9 => ?_) (fun h9 => ?_)
  · refine r_aload_n X (by rfl) dX12_nearestOf_45 ?_
    refine r_lload_n X (by rfl) dX12_nearestOf_46 ?_
    refine r_aload_n X (by rfl) dX12_nearestOf_47 ?_
    refine r_getR X dX12_nearestOf_48 zF_X12_61 ha g19 ?_
    refine r_callV X dX12_nearestOf_51 zLV_X12_134 zCd_X12_logOf (c_X12_logOf _ G z τ ρ _ _ ha g17 g18 hte hsh dts g15 htw hon don dso _ x0 x1) ha ⟨by decide, rfl, rfl⟩ rfl rfl ⟨⟨rfl, rfl⟩, ⟨by decide, by decide⟩, ⟨Nat.le_of_ble_eq_true rfl, Nat.le_of_ble_eq_true rfl⟩, Nat.le_of_ble_eq_true rfl⟩ ?_
    rintro _ _ ⟨rfl, k1, rfl⟩
    refine r_aload_n X (by rfl) dX12_nearestOf_54 ?_
    refine r_lload_n X (by rfl) dX12_nearestOf_55 ?_
    refine r_aload_n X (by rfl) dX12_nearestOf_56 ?_
    refine r_getR X dX12_nearestOf_57 zF_X12_64 ha g20 ?_
    refine r_callV X dX12_nearestOf_60 zLV_X12_134 zCd_X12_logOf (c_X12_logOf _ G z τ ρ _ _ ha g17 g18 hte hsh dts g15 htw hot dot dso2 _ y0 y1) ha ⟨by decide, rfl, rfl⟩ rfl rfl ⟨⟨rfl, rfl⟩, ⟨by decide, by decide⟩, ⟨Nat.le_of_ble_eq_true rfl, Nat.le_of_ble_eq_true rfl⟩, Nat.le_of_ble_eq_true rfl⟩ ?_
    rintro _ _ ⟨rfl, k2, rfl⟩
    refine r_ldc2 X zK_X12_138 dX12_nearestOf_63 ?_
    refine r_lstore X (by decide) dX12_nearestOf_66 ?_
    refine r_ldc2 X zK_X12_140 dX12_nearestOf_68 ?_
    refine r_lstore X (by decide) dX12_nearestOf_71 ?_
    exact zW.loc7 (by rfl) (by rfl) (by rfl) (by rfl) (by rfl) (by rfl) (by rfl) (L73 _ 800001 _ _ _ (by decide) (by decide) (by decide) (by decide))
  · refine r_ldc2 X zK_X12_89 dX12_nearestOf_12 ?_
    refine r_aload_n X (by rfl) dX12_nearestOf_15 ?_
    refine r_getI X dX12_nearestOf_16 zF_X12_7 ha ?_
    refine r_i2l X dX12_nearestOf_19 ?_
    refine r_lmul X dX12_nearestOf_20 ?_
    refine r_iload X (by rfl) dX12_nearestOf_21 ?_
    refine r_sipush X 1000 (by decide) dX12_nearestOf_23 ?_
    refine r_isub X dX12_nearestOf_26 ?_
    refine r_i2l X dX12_nearestOf_27 ?_
    refine r_lmul X dX12_nearestOf_28 ?_
    refine r_iload X (by rfl) dX12_nearestOf_29 ?_
    refine r_i2l X dX12_nearestOf_31 ?_
    refine r_ladd X dX12_nearestOf_32 ?_
    refine r_ldc2 X zK_X12_89 dX12_nearestOf_33 ?_
    refine r_iload X (by rfl) dX12_nearestOf_36 ?_
    refine r_i2l X dX12_nearestOf_38 ?_
    refine r_lmul X dX12_nearestOf_39 ?_
    refine r_callS X dX12_nearestOf_40 zLS_X12_130 zCd_X12_down (c_X12_down _ G z τ ρ _ _ _ _ (z2l u0)) rfl rfl ⟨⟨rfl, rfl⟩, ⟨by decide, by decide⟩, ⟨Nat.le_of_ble_eq_true rfl, Nat.le_of_ble_eq_true rfl⟩, Nat.le_of_ble_eq_true rfl⟩ ?_
    rintro _ _ ⟨rfl, rfl⟩
    refine r_l2i X dX12_nearestOf_43 ?_
    refine r_ireturn X hR dX12_nearestOf_44 rfl (Nat.zero_le _) (Nat.zero_le _) ?_
    exact ⟨_, _, rfl, rfl⟩
set_option maxHeartbeats 4000000 in
set_option maxRecDepth 100000 in
theorem c_X12_plain (l : Launch) (G : zG) (z : Nat) (τ : Nat → Option (Nat × Nat)) (ρ : Nat → Nat → Option Nat) (ι : Nat → Nat → Int32) (κ : Nat → Nat → Int64) {a M : Nat} (ha : τ a = some (12, M)) {te sh : Nat} (g17 : ρ a 17 = some te) (g18 : ρ a 18 = some sh) (hte : τ te = some (14, 6)) (hsh : τ sh = some (14, 6)) (dts : te ≠ sh) {tw : Nat} (g15 : ρ a 15 = some tw) (htw : τ tw = some (1002, 6)) {tn on ot le ri : Nat} (g16 : ρ a 16 = some tn) (g19 : ρ a 19 = some on) (g20 : ρ a 20 = some ot) (g21 : ρ a 21 = some le) (g22 : ρ a 22 = some ri) (htn : τ tn = some (1003, 6)) (hon : τ on = some (14, 6)) (hot : τ ot = some (14, 6)) (hle : τ le = some (14, 6)) (hri : τ ri = some (14, 6)) (don : te ≠ on) (dso : sh ≠ on) (dot : te ≠ ot) (dso2 : sh ≠ ot) (dle : on ≠ le) (dri : tn ≠ ri) (x : Int32) (x0 : 1 ≤ x.toInt) (x1 : x.toInt ≤ 1000000) : zM l G yX12_plain cX12_plain 2 (some .int) ({ frames := 4, cells := 0, slots := 0, locals := 119 } : Room) [.ref a, .int x] (z, τ, ρ, ι, κ) (fun v s => ∃ r κ2, v = some (.int r) ∧ s = (z, τ, ρ, ι, κ2)) 0 0 := by
  refine zM_of zCd_X12_plain (Nat.le_of_ble_eq_true rfl) ?_
  intro E X hR hE
  subst hE
  show zW E G 2 (z, τ, ρ, ι, κ) 0 0 0 [(0, .ref a), (1, .int x)] []
  refine r_aload_n X (by rfl) dX12_plain_0 ?_
  refine r_iload_n X (by rfl) dX12_plain_1 ?_
  refine r_i2l X dX12_plain_2 ?_
  refine r_ldc2 X zK_X12_149 dX12_plain_3 ?_
  refine r_iconst X 1 (by decide) dX12_plain_6 ?_
  refine r_callV X dX12_plain_7 zLV_X12_151 zCd_X12_nearestOf (c_X12_nearestOf _ G z τ ρ _ _ ha g17 g18 hte hsh dts g15 htw g16 g19 g20 g21 g22 htn hon hot hle hri don dso dot dso2 dle dri _ _ _ (by rw [Int32.toInt_toInt64]; omega) (by rw [Int32.toInt_toInt64]; omega) (by decide) (by decide) (by decide) (by decide)) ha ⟨by decide, rfl, rfl⟩ rfl rfl ⟨⟨rfl, rfl⟩, ⟨by decide, by decide⟩, ⟨Nat.le_of_ble_eq_true rfl, Nat.le_of_ble_eq_true rfl⟩, Nat.le_of_ble_eq_true rfl⟩ ?_
  rintro _ _ ⟨r, k1, rfl, rfl⟩
  refine r_ireturn X hR dX12_plain_10 rfl (Nat.zero_le _) (Nat.zero_le _) ?_
  exact ⟨_, _, rfl, rfl⟩
