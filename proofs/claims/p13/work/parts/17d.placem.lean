/-! the model's PLACE exactly (wip/gen16/spec_pb.py) -/
theorem sl_third {t a b : Int} (ht : 0 ≤ t) (ha : 0 ≤ a) (hb : 0 < b) (h3 : 3 * a ≤ b) : 0 ≤ t * a / b ∧ 3 * (t * a / b) ≤ t := by
  have h0 : 0 ≤ t * a / b := Int.ediv_nonneg (Int.mul_nonneg ht ha) (by omega)
  refine ⟨h0, ?_⟩
  have h1 : t * a / b * b ≤ t * a := Int.ediv_mul_le _ (by omega)
  have h2 : t * a / b * (3 * a) ≤ t * a / b * b := Int.mul_le_mul_of_nonneg_left h3 h0
  by_cases e : a = 0
  · rw [e, Int.mul_zero, Int.zero_ediv]; omega
  · have h4 : 3 * (t * a / b) * a ≤ t * a := by
      rw [Int.mul_left_comm, ← Int.mul_assoc] at h2
      exact Int.le_trans h2 h1
    exact Int.le_of_mul_le_mul_right h4 (by omega)
theorem sl_t9 {a b : Int} (ha : 0 ≤ a) (hb : 0 < b) (h3 : 3 * a ≤ b) : ∀ j, 0 ≤ zTt a b j ∧ zTt a b j * (9 : Int) ^ j ≤ 1000000000000000000000000000000000000000000000
  | 0 => by
    obtain ⟨h1, h2⟩ := sl_third (t := 2 * 1000000000000000000000000000000000000000000000) (by decide) ha hb h3
    have e : zTt a b 0 = 2 * 1000000000000000000000000000000000000000000000 * a / b := by show 2 * a * 1000000000000000000000000000000000000000000000 / b = _; rw [Int.mul_right_comm]
    rw [e, Int.pow_zero]
    omega
  | j + 1 => by
    obtain ⟨h1, h2⟩ := sl_t9 ha hb h3 j
    obtain ⟨g1, g2⟩ := sl_third h1 ha hb h3
    obtain ⟨k1, k2⟩ := sl_third g1 ha hb h3
    have e : zTt a b (j + 1) = zTt a b j * a / b * a / b := rfl
    rw [e]
    refine ⟨k1, Int.le_trans ?_ h2⟩
    rw [Int.pow_succ, Int.mul_left_comm, ← Int.mul_assoc, Int.mul_comm ((9 : Int) ^ j), Int.mul_right_comm] 
    exact Int.mul_le_mul_of_nonneg_right (by omega) (Int.le_of_lt (Int.pow_pos (by decide)))
theorem sl_t60 {a b : Int} (ha : 0 ≤ a) (hb : 0 < b) (h3 : 3 * a ≤ b) : zTt a b 60 = 0 := by
  obtain ⟨h1, h2⟩ := sl_t9 ha hb h3 60
  rw [show (9 : Int) ^ 60 = 1797010299914431210413179829509605039731475627537851106401 from by decide] at h2
  omega
theorem sl_ns_e {a b : Nat} : ∀ n j t s : Nat, (t : Int) = zTt a b j → (s : Int) = zSn a b j → ((sl_ns a b n (2 * j + 1) t s : Nat) : Int) = zSn a b (j + n)
  | 0, _, _, _, _, h => h
  | n + 1, j, t, s, h1, h2 => by
    rw [sl_ns_s]
    by_cases h : t = 0
    · rw [if_pos h, h2]
      exact (zSn_0 (j := j) (by rw [← h1, h]; rfl) (n + 1)).symm
    · rw [if_neg h, show 2 * j + 1 + 2 = 2 * (j + 1) + 1 by omega, sl_ns_e n (j + 1) _ _ (by rw [zTt, ← h1]; simp only [Int.natCast_ediv, Int.natCast_mul]) (by rw [zSn, ← h1, ← h2]; simp only [Int.natCast_add, Int.natCast_ediv, Int.natCast_mul]; rfl), show j + 1 + n = j + (n + 1) by omega]
theorem sl_M_e {x d : Nat} (h1 : (2 : Int) ^ d ≤ (x : Int)) (h2 : (x : Int) < 2 * (2 : Int) ^ d) : ((sl_M x : Nat) : Int) = zSn ((x : Int) - 2 ^ d) ((x : Int) + 2 ^ d) 60 + (d : Int) * zTwoI := by
  have ec : ((2 ^ d : Nat) : Int) = (2 : Int) ^ d := Int.natCast_pow 2 d
  have h0 : 0 < 2 ^ d := Nat.two_pow_pos d
  have hd : x.log2 = d := (Nat.log2_eq_iff (by omega)).mpr ⟨by omega, by rw [Nat.pow_succ]; omega⟩
  show ((sl_M1 x x.log2 (2 ^ x.log2) : Nat) : Int) = _
  rw [hd]
  obtain ⟨w, hw⟩ : ∃ w : Nat, 2 ^ d = w := ⟨_, rfl⟩
  rw [← ec, hw]
  rw [hw] at h0
  have hwx : w ≤ x := by omega
  show ((sl_ns (x - w) (x + w) 60 1 (2 * (x - w) * 1000000000000000000000000000000000000000000000 / (x + w)) 0 + d * 693147180559945309417232121458176568075500113 : Nat) : Int) = _
  rw [Int.natCast_add, Int.natCast_mul, show (x : Int) - (w : Int) = ((x - w : Nat) : Int) by omega, show (x : Int) + (w : Int) = ((x + w : Nat) : Int) by omega,
    show (1 : Nat) = 2 * 0 + 1 from rfl, sl_ns_e (a := x - w) (b := x + w) 60 0 _ 0 (by rw [zTt]; simp only [Int.natCast_ediv, Int.natCast_mul]; rfl) rfl]
  rfl
theorem zd20 {d : Nat} {x : Int} (h : (2 : Int) ^ d ≤ x) (hx : x ≤ 100000) : d ≤ 20 := by
  refine Nat.le_of_not_lt fun q => ?_
  have h1 : 2 ^ 20 ≤ 2 ^ d := Nat.pow_le_pow_right (by decide) (by omega)
  have h2 : (2 : Int) ^ d = ((2 ^ d : Nat) : Int) := by rw [Int.natCast_pow]; rfl
  rw [h2] at h
  omega
theorem zlgb2 {sm : Int} {j d : Nat} (hd : d ≤ 20) (hj : j ≤ d) (hsb : 0 ≤ sm ∧ sm ≤ 120 * 1000000000000000000000000000000000000000000000) : 0 ≤ sm + (j : Int) * zTwoI ∧ sm + (j : Int) * zTwoI ≤ 1000000000000000 * 1000000000000000000000000000000000000000000000 := by
  unfold zTwoI
  omega
theorem sl_M_b {v : Nat} (h0 : 100 ≤ v) (h1 : v ≤ 100000) : (sl_M 100 : Int) ≤ sl_M v ∧ (sl_M v : Int) ≤ sl_M 100 + 5 * 2302585092994045684017991454684364207601101412 ∧ (sl_M 100 : Int) ≤ 5 * 1000000000000000000000000000000000000000000000 := by
  obtain ⟨c1, c2⟩ := sl_cm_e h0 h1
  have c3 := sl_C_lt h0 h1
  have h := sl_cm_all h0 h1
  unfold sl_cm at h
  rw [Bool.and_eq_true] at h
  have e := sl_M100
  have hM := Nat.ble_eq.mp h.1
  rw [← e] at hM
  refine ⟨by omega, by omega, by rw [e]; decide⟩
theorem sl_M_mm {v w : Nat} (h0 : 100 ≤ v) (h1 : v ≤ 100000) (g0 : 100 ≤ w) (g1 : w ≤ 100000) : ∃ a b : Int, (sl_M v : Int) = a ∧ (sl_M w : Int) = b ∧ -(5 * 2302585092994045684017991454684364207601101412) ≤ a - b ∧ a - b ≤ 5 * 2302585092994045684017991454684364207601101412 ∧ 0 ≤ a ∧ a ≤ 20 * 1000000000000000000000000000000000000000000000 ∧ 0 ≤ b ∧ b ≤ 20 * 1000000000000000000000000000000000000000000000 := by
  obtain ⟨m1, m2, m3⟩ := sl_M_b h0 h1
  obtain ⟨m4, m5, -⟩ := sl_M_b g0 g1
  have p1 : (0 : Int) ≤ (sl_M v : Int) := Int.natCast_nonneg _
  have p2 : (0 : Int) ≤ (sl_M w : Int) := Int.natCast_nonneg _
  refine ⟨_, _, rfl, rfl, ?_⟩
  generalize (sl_M 100 : Int) = t at *
  generalize (sl_M v : Int) = a at *
  generalize (sl_M w : Int) = b at *
  clear h0 h1 g0 g1
  omega
theorem ztG2 {k x c : Int64} (x0 : -3000000 ≤ x.toInt) (x1 : x.toInt ≤ 3000000) (k0 : 0 ≤ k.toInt) (k1 : k.toInt < 1000000000) (c0 : -3000000 ≤ c.toInt) (c1 : c.toInt ≤ 3000000) : (k * x + c).toInt = k.toInt * x.toInt + c.toInt ∧ -3000000000000000 ≤ (k * x + c).toInt ∧ (k * x + c).toInt ≤ 3000000000000000 := by
  have e1 : k.toInt * x.toInt ≤ k.toInt * 3000000 := Int.mul_le_mul_of_nonneg_left x1 k0
  have e2 : k.toInt * -3000000 ≤ k.toInt * x.toInt := Int.mul_le_mul_of_nonneg_left x0 k0
  have ew1 : (k * x).toInt = k.toInt * x.toInt := zmulJ (by omega) (by omega)
  have ew : (k * x + c).toInt = k.toInt * x.toInt + c.toInt := by rw [zaddJ (x := k * x) (y := c) (by omega) (by omega), ew1]
  rw [ew]
  omega
theorem zq2b {w : Int64} (h : w.toInt < 0) (w0 : -3000000000000000 ≤ w.toInt) : (-((999999999 - w) / 1000000000)).toInt = w.toInt / 1000000000 := by
  have e0 : (999999999 : Int64).toInt = 999999999 := rfl
  have e1 : (999999999 - w).toInt = 999999999 - w.toInt := by rw [zsubJ (x := 999999999) (y := w) (by rw [e0]; omega) (by rw [e0]; omega), e0]
  have e2 : ((999999999 - w) / 1000000000).toInt = (999999999 - w.toInt) / 1000000000 := by rw [zdivJ (by rw [e1]; omega) (by decide), e1]; rfl
  rw [Int64.toInt_neg, e2, Int.bmod_eq_of_le (by omega) (by omega)]
  omega
theorem zq3b {w qv : Int64} (w0 : -3000000000000000 ≤ w.toInt) (w1 : w.toInt ≤ 3000000000000000) (h : qv.toInt = w.toInt / 1000000000) : (w - qv * 1000000000).toInt = w.toInt % 1000000000 := by
  have e0 : (1000000000 : Int64).toInt = 1000000000 := rfl
  have e1 : (qv * 1000000000).toInt = qv.toInt * 1000000000 := by rw [zmulJ (x := qv) (y := 1000000000) (by rw [e0]; omega) (by rw [e0]; omega), e0]
  rw [zsubJ (x := w) (y := qv * 1000000000) (by omega) (by omega), e1]
  omega
theorem zmulbd2 {a b : Int} (h1 : -2000000 ≤ a) (h2 : a ≤ 2000000) (h3 : -3000000 ≤ b) (h4 : b ≤ 3000000) : -(2000000 * 3000000) ≤ a * b ∧ a * b ≤ 2000000 * 3000000 := by
  rcases Int.le_total 0 a with q | q
  · have e1 : a * b ≤ a * 3000000 := Int.mul_le_mul_of_nonneg_left h4 q
    have e2 : a * -3000000 ≤ a * b := Int.mul_le_mul_of_nonneg_left h3 q
    omega
  · have e1 : -a * b ≤ -a * 3000000 := Int.mul_le_mul_of_nonneg_left h4 (by omega)
    have e2 : -a * -3000000 ≤ -a * b := Int.mul_le_mul_of_nonneg_left h3 (by omega)
    rw [Int.neg_mul a b] at e1 e2
    omega
theorem zr0t {f : Nat → Int64} (h : zNo9 f) (hv : -(20 * 1000000000000000000000000000000000000000000000) ≤ qR f 6 ∧ qR f 6 ≤ 20 * 1000000000000000000000000000000000000000000000) : -2000000 ≤ (f 0).toInt ∧ (f 0).toInt ≤ 2000000 := by
  have f1 := h 1 (by decide) (by decide)
  have f2 := h 2 (by decide) (by decide)
  have f3 := h 3 (by decide) (by decide)
  have f4 := h 4 (by decide) (by decide)
  have f5 := h 5 (by decide) (by decide)
  simp only [qR] at hv
  omega
theorem sl_down {x y : Int64} (x0 : -1000000000000 ≤ x.toInt) (x1 : x.toInt ≤ 1000000000000) (y0 : 1 ≤ y.toInt) (y1 : y.toInt ≤ 1000) : (zDown x y).toInt = x.toInt / y.toInt := by
  unfold zDown
  by_cases c : 0 ≤ x.toInt
  · rw [if_pos c, zdivJ c (by omega)]
  · rw [if_neg c]
    obtain ⟨d, hd⟩ : ∃ d : Int, y.toInt = d := ⟨_, rfl⟩
    obtain ⟨a, ha⟩ : ∃ a : Int, x.toInt = a := ⟨_, rfl⟩
    have e1 : (y - 1).toInt = d - 1 := by rw [zsubJ (x := y) (y := 1) (by rw [show Int64.toInt 1 = 1 from rfl]; omega) (by rw [show Int64.toInt 1 = 1 from rfl]; omega), hd]; rfl
    have e2 : (y - 1 - x).toInt = d - 1 - a := by rw [zsubJ (x := y - 1) (y := x) (by omega) (by omega), e1, ha]
    have e3 : ((y - 1 - x) / y).toInt = (d - 1 - a) / d := by rw [zdivJ (by omega) (by omega), e2, hd]
    have g1 : (d - 1 - a) / d ≤ d - 1 - a := Int.ediv_le_self _ (by omega)
    have g2 : 0 ≤ (d - 1 - a) / d := Int.ediv_nonneg (by omega) (by omega)
    have g3 := Int.ediv_mul_le (d - 1 - a) (show d ≠ 0 by omega)
    have g4 := Int.lt_ediv_add_one_mul_self (d - 1 - a) (show 0 < d by omega)
    rw [Int64.toInt_neg, e3, Int.bmod_eq_of_le (by omega) (by omega), ha, hd]
    obtain ⟨k, hk⟩ : ∃ k : Int, (d - 1 - a) / d = k := ⟨_, rfl⟩
    rw [hk] at g1 g2 g3 g4 ⊢
    rw [Int.add_mul] at g4
    refine Int.le_antisymm ?_ ?_
    · refine Int.le_ediv_of_mul_le (by omega) ?_
      rw [Int.neg_mul]; omega
    · have : a / d < -k + 1 := Int.ediv_lt_of_lt_mul (by omega) (by rw [Int.add_mul, Int.neg_mul]; omega)
      omega
theorem sl_ne {X Y : Nat} (x0 : 100 ≤ X) (x1 : X ≤ 100000) (y0 : 100 ≤ Y) (y1 : Y ≤ 9900) (h : X ≠ Y ∧ X ≠ 10 * Y ∧ X ≠ 100 * Y ∧ X ≠ 1000 * Y ∧ Y ≠ 10 * X) : ∀ i j : Nat, X * 10 ^ i ≠ Y * 10 ^ j := by
  intro i j q
  have hpos : ∀ k : Nat, 0 < 10 ^ k := fun k => Nat.pow_pos (by decide)
  rcases Nat.le_total i j with c | c
  · obtain ⟨k, rfl⟩ : ∃ k, j = i + k := ⟨j - i, by omega⟩
    rw [Nat.pow_add, Nat.mul_comm (10 ^ i), ← Nat.mul_assoc] at q
    have e := Nat.eq_of_mul_eq_mul_right (hpos i) q
    match k, e with
    | 0, e => rw [Nat.pow_zero] at e; omega
    | 1, e => rw [Nat.pow_one] at e; omega
    | 2, e => rw [show (10 : Nat) ^ 2 = 100 from rfl] at e; omega
    | 3, e => rw [show (10 : Nat) ^ 3 = 1000 from rfl] at e; omega
    | k + 4, e =>
      rw [Nat.pow_add, show (10 : Nat) ^ 4 = 10000 from rfl, ← Nat.mul_assoc] at e
      have := Nat.mul_le_mul y0 (hpos k)
      omega
  · obtain ⟨k, rfl⟩ : ∃ k, i = j + k := ⟨i - j, by omega⟩
    rw [Nat.pow_add, Nat.mul_comm (10 ^ j), ← Nat.mul_assoc] at q
    have e := Nat.eq_of_mul_eq_mul_right (hpos j) q
    match k, e with
    | 0, e => rw [Nat.pow_zero] at e; omega
    | 1, e => rw [Nat.pow_one] at e; omega
    | k + 2, e =>
      rw [Nat.pow_add, show (10 : Nat) ^ 2 = 100 from rfl, ← Nat.mul_assoc] at e
      have := Nat.mul_le_mul x0 (hpos k)
      omega
theorem sl_C_10 {v : Nat} (h0 : 100 ≤ v) (h1 : v ≤ 10000) : (sl_C (10 * v) : Int) = sl_C v + 309485009821345068724781056 := by
  rcases (show v < 1000 ∨ (1000 ≤ v ∧ v < 10000) ∨ v = 10000 by omega) with h | h | h
  · rw [sl_C_10a h0 h]; omega
  · rw [sl_C_10b h.1 h.2]; omega
  · rw [h, show 10 * 10000 = 100000 from rfl, sl_C_5]; omega
/-- what tens finds -/
def sl_Tn (X Y : Nat) (r : Int) : Prop := (X = Y ∧ r = 1000) ∨ (X = 10 * Y ∧ r = 1001) ∨ (X = 100 * Y ∧ r = 1002) ∨ (X = 1000 * Y ∧ r = 1003) ∨ (Y = 10 * X ∧ r = 999) ∨ (r = 0 ∧ X ≠ Y ∧ X ≠ 10 * Y ∧ X ≠ 100 * Y ∧ X ≠ 1000 * Y ∧ Y ≠ 10 * X)
theorem sl_Tn_p {X Y : Nat} {r : Int} (x0 : 100 ≤ X) (x1 : X ≤ 100000) (y0 : 100 ≤ Y) (y1 : Y ≤ 9900) (h : sl_Tn X Y r) (hr : 0 < r) : ∃ k : Int, r = 1000 + k ∧ -1 ≤ k ∧ k ≤ 3 ∧ (sl_C X : Int) - sl_C Y = k * 309485009821345068724781056 := by
  rcases h with ⟨h, e⟩ | ⟨h, e⟩ | ⟨h, e⟩ | ⟨h, e⟩ | ⟨h, e⟩ | ⟨e, -⟩
  · exact ⟨0, by omega, by omega, by omega, by rw [h]; omega⟩
  · exact ⟨1, by omega, by omega, by omega, by rw [h, sl_C_10 y0 (by omega)]; omega⟩
  · exact ⟨2, by omega, by omega, by omega, by rw [h, show 100 * Y = 10 * (10 * Y) by omega, sl_C_10 (v := 10 * Y) (by omega) (by omega), sl_C_10 y0 (by omega)]; omega⟩
  · exact ⟨3, by omega, by omega, by omega, by rw [h, show 1000 * Y = 10 * (10 * (10 * Y)) by omega, sl_C_10 (v := 10 * (10 * Y)) (by omega) (by omega), sl_C_10 (v := 10 * Y) (by omega) (by omega), sl_C_10 y0 (by omega)]; omega⟩
  · exact ⟨-1, by omega, by omega, by omega, by rw [h, sl_C_10 x0 (by omega)]; omega⟩
  · omega
theorem sl_Tn_n {X Y : Nat} {r : Int} (h : sl_Tn X Y r) (hr : r ≤ 0) : X ≠ Y ∧ X ≠ 10 * Y ∧ X ≠ 100 * Y ∧ X ≠ 1000 * Y ∧ Y ≠ 10 * X := by
  rcases h with ⟨_, e⟩ | ⟨_, e⟩ | ⟨_, e⟩ | ⟨_, e⟩ | ⟨_, e⟩ | ⟨_, e⟩
  · omega
  · omega
  · omega
  · omega
  · omega
  · exact e
theorem sl_near {X g : Nat} {u L p : Int} (x0 : 100 ≤ X) (x1 : X ≤ 100000) (g0 : 10 ≤ g) (g1 : g ≤ 990) (u0 : 1 ≤ u) (u1 : u ≤ 3) (L0 : 100 ≤ L) (L1 : L ≤ 50000) (hne : X ≠ 10 * g ∧ X ≠ 10 * (10 * g) ∧ X ≠ 100 * (10 * g) ∧ X ≠ 1000 * (10 * g) ∧ 10 * g ≠ 10 * X)
    (h1 : zTenI * ((2 * p - 1) * u) ≤ ((sl_M X : Int) - sl_M (10 * g)) * (2 * L)) (h2 : ((sl_M X : Int) - sl_M (10 * g)) * (2 * L) < zTenI * ((2 * p + 1) * u)) : p = zPzN X g u L := by
  have hn := sl_ne x0 x1 (by omega) (by omega) hne
  have s1 := sl_same x0 x1 g0 g1 hn ((2 * p - 1) * u) (by omega) L1
  have s2 := sl_same x0 x1 g0 g1 hn ((2 * p + 1) * u) (by omega) L1
  have eT : zTenI = 2302585092994045684017991454684364207601101412 := rfl
  have em : ∀ d : Int, L * (2 * d) = d * (2 * L) := fun d => by rw [Int.mul_left_comm, Int.mul_comm L d, Int.mul_left_comm]
  rw [em, em] at s1 s2
  rw [eT] at h1 h2
  rw [Int.mul_comm 2302585092994045684017991454684364207601101412 ((2 * p - 1) * u)] at h1
  rw [Int.mul_comm 2302585092994045684017991454684364207601101412 ((2 * p + 1) * u)] at h2
  have t1 := s1.mpr h1
  have t2 := fun q => Int.not_le.mpr h2 (s2.mp q)
  unfold zPzN
  generalize ((sl_C X : Int) - sl_C (10 * g)) * (2 * L) = V at *
  rcases (show u = 1 ∨ u = 2 ∨ u = 3 by omega) with rfl | rfl | rfl <;> omega
theorem sl_tieP {X g : Nat} {u L k : Int} (u0 : 1 ≤ u) (h : (sl_C X : Int) - sl_C (10 * g) = k * 309485009821345068724781056) : zPzN X g u L = (2 * L * k + u) / (2 * u) := by
  unfold zPzN
  rw [h, Int.mul_right_comm, Int.mul_ediv_cancel _ (by decide), Int.mul_comm k]

theorem sl_lo0 {A B L u : Int} (m1 : -(5 * 2302585092994045684017991454684364207601101412) ≤ A - B) (L0 : 100 ≤ L) (L1 : L ≤ 50000) (hu : u = 1 ∨ u = 2 ∨ u = 3) : zTenI * ((2 * Int64.toInt (-400000) - 1) * u) ≤ (A - B) * (2 * L) := by
  have e1 : -(5 * 2302585092994045684017991454684364207601101412) * (2 * L) ≤ (A - B) * (2 * L) := Int.mul_le_mul_of_nonneg_right (by omega) (by omega)
  have e2 : 5 * 2302585092994045684017991454684364207601101412 * (2 * L) ≤ 5 * 2302585092994045684017991454684364207601101412 * 100000 := Int.mul_le_mul_of_nonneg_left (by omega) (by decide)
  rw [show Int64.toInt (-400000) = -400000 from rfl, show zTenI = 2302585092994045684017991454684364207601101412 from rfl]
  rw [Int.neg_mul] at e1
  rcases hu with rfl | rfl | rfl <;> omega
theorem sl_hi0 {A B L u : Int} (m1 : A - B ≤ 5 * 2302585092994045684017991454684364207601101412) (L0 : 100 ≤ L) (L1 : L ≤ 50000) (hu : u = 1 ∨ u = 2 ∨ u = 3) : (A - B) * (2 * L) < zTenI * ((2 * Int64.toInt 400000 + 1) * u) := by
  have e1 : (A - B) * (2 * L) ≤ 5 * 2302585092994045684017991454684364207601101412 * (2 * L) := Int.mul_le_mul_of_nonneg_right (by omega) (by omega)
  have e2 : 5 * 2302585092994045684017991454684364207601101412 * (2 * L) ≤ 5 * 2302585092994045684017991454684364207601101412 * 100000 := Int.mul_le_mul_of_nonneg_left (by omega) (by decide)
  rw [show Int64.toInt 400000 = 400000 from rfl, show zTenI = 2302585092994045684017991454684364207601101412 from rfl]
  rcases hu with rfl | rfl | rfl <;> omega
theorem sl_pwr {X g : Nat} {L pw u : Int32} {k : Int} (L0 : 100 ≤ L.toInt) (L1 : L.toInt ≤ 50000) (hu : u.toInt = 1 ∨ u.toInt = 2 ∨ u.toInt = 3) (ek : pw.toInt = 1000 + k) (k0 : -1 ≤ k) (k1 : k ≤ 3) (eD : (sl_C X : Int) - sl_C (10 * g) = k * 309485009821345068724781056) :
    (zDown (2 * L.toInt64 * (pw - 1000).toInt64 + u.toInt64) (2 * u.toInt64)).toInt32.toInt = zPzN X g u.toInt L.toInt := by
  have eL : L.toInt64.toInt = L.toInt := Int32.toInt_toInt64 L
  have eu : u.toInt64.toInt = u.toInt := Int32.toInt_toInt64 u
  have e2 : (2 : Int64).toInt = 2 := rfl
  have e2L : ((2 : Int64) * L.toInt64).toInt = 2 * L.toInt := by rw [zmulJ (by rw [e2, eL]; omega) (by rw [e2, eL]; omega), e2, eL]
  have ep : (pw - 1000).toInt64.toInt = k := by rw [Int32.toInt_toInt64, zsubI (by rw [show Int32.toInt 1000 = 1000 from rfl]; omega) (by rw [show Int32.toInt 1000 = 1000 from rfl]; omega), show Int32.toInt 1000 = 1000 from rfl]; omega
  have b1 : 2 * L.toInt * k ≤ 2 * L.toInt * 3 := Int.mul_le_mul_of_nonneg_left k1 (by omega)
  have b2 : 2 * L.toInt * (-1) ≤ 2 * L.toInt * k := Int.mul_le_mul_of_nonneg_left k0 (by omega)
  have em : ((2 : Int64) * L.toInt64 * (pw - 1000).toInt64).toInt = 2 * L.toInt * k := by rw [zmulJ (by rw [e2L, ep]; omega) (by rw [e2L, ep]; omega), e2L, ep]
  have es : ((2 : Int64) * L.toInt64 * (pw - 1000).toInt64 + u.toInt64).toInt = 2 * L.toInt * k + u.toInt := by rw [zaddJ (by rw [em, eu]; omega) (by rw [em, eu]; omega), em, eu]
  have e2u : ((2 : Int64) * u.toInt64).toInt = 2 * u.toInt := by rw [zmulJ (by rw [e2, eu]; omega) (by rw [e2, eu]; omega), e2, eu]
  have ed := sl_down (x := (2 : Int64) * L.toInt64 * (pw - 1000).toInt64 + u.toInt64) (y := (2 : Int64) * u.toInt64) (by omega) (by omega) (by omega) (by omega)
  rw [es, e2u] at ed
  rw [Int64.toInt_toInt32, ed, sl_tieP (by omega) eD]
  generalize 2 * L.toInt * k = V at *
  exact Int.bmod_eq_of_le (by rcases hu with q | q | q <;> rw [q] <;> omega) (by rcases hu with q | q | q <;> rw [q] <;> omega)
theorem sl_st1 {X Y : Nat} {v v2 : Int64} {n n2 : Int32} (x0 : 100 ≤ X) (x1 : X ≤ 100000) (y0 : 100 ≤ Y) (y1 : Y ≤ 9900) (h : ((v.toInt = X ∧ n.toInt = 1000) ∨ (v.toInt = 10 * X ∧ n.toInt = 999 ∧ (X : Int) < Y) ∨ (v.toInt = 100 * X ∧ n.toInt = 998 ∧ 10 * (X : Int) < Y))) (hlt : v.toInt < (Y : Int)) (e : v2.toInt = 10 * v.toInt) (en : n2.toInt = n.toInt + -1) : ((v2.toInt = X ∧ n2.toInt = 1000) ∨ (v2.toInt = 10 * X ∧ n2.toInt = 999 ∧ (X : Int) < Y) ∨ (v2.toInt = 100 * X ∧ n2.toInt = 998 ∧ 10 * (X : Int) < Y)) := by
  rcases h with ⟨a, b⟩ | ⟨a, b, c⟩ | ⟨a, b, c⟩
  · exact Or.inr (Or.inl ⟨by omega, by omega, by omega⟩)
  · exact Or.inr (Or.inr ⟨by omega, by omega, by omega⟩)
  · exfalso; omega
theorem sl_st12 {X Y : Nat} {v w : Int64} {n : Int32} (x0 : 100 ≤ X) (x1 : X ≤ 100000) (y0 : 100 ≤ Y) (y1 : Y ≤ 9900) (h : ((v.toInt = X ∧ n.toInt = 1000) ∨ (v.toInt = 10 * X ∧ n.toInt = 999 ∧ (X : Int) < Y) ∨ (v.toInt = 100 * X ∧ n.toInt = 998 ∧ 10 * (X : Int) < Y))) (hge : (Y : Int) ≤ v.toInt) (hw : w.toInt = (Y : Int)) : ((v.toInt = X ∧ (Y : Int) ≤ X ∧ ((w.toInt = Y ∧ n.toInt = 1000) ∨ (w.toInt = 10 * Y ∧ n.toInt = 1001 ∧ (Y : Int) < X) ∨ (w.toInt = 100 * Y ∧ n.toInt = 1002 ∧ 10 * (Y : Int) < X) ∨ (w.toInt = 1000 * Y ∧ n.toInt = 1003 ∧ 100 * (Y : Int) < X))) ∨ (v.toInt = 10 * X ∧ (X : Int) < Y ∧ (Y : Int) ≤ 10 * X ∧ ((w.toInt = Y ∧ n.toInt = 999) ∨ (w.toInt = 10 * Y ∧ n.toInt = 1000 ∧ (Y : Int) < 10 * X))) ∨ (v.toInt = 100 * X ∧ 10 * (X : Int) < Y ∧ ((w.toInt = Y ∧ n.toInt = 998) ∨ (w.toInt = 10 * Y ∧ n.toInt = 999 ∧ (Y : Int) < 100 * X)))) := by
  rcases h with ⟨a, b⟩ | ⟨a, b, c⟩ | ⟨a, b, c⟩
  · exact Or.inl ⟨a, by omega, Or.inl ⟨hw, b⟩⟩
  · exact Or.inr (Or.inl ⟨a, c, by omega, Or.inl ⟨hw, b⟩⟩)
  · exact Or.inr (Or.inr ⟨a, c, Or.inl ⟨hw, b⟩⟩)
theorem sl_st2 {X Y : Nat} {v w w2 : Int64} {n n2 : Int32} (x0 : 100 ≤ X) (x1 : X ≤ 100000) (y0 : 100 ≤ Y) (y1 : Y ≤ 9900) (h : ((v.toInt = X ∧ (Y : Int) ≤ X ∧ ((w.toInt = Y ∧ n.toInt = 1000) ∨ (w.toInt = 10 * Y ∧ n.toInt = 1001 ∧ (Y : Int) < X) ∨ (w.toInt = 100 * Y ∧ n.toInt = 1002 ∧ 10 * (Y : Int) < X) ∨ (w.toInt = 1000 * Y ∧ n.toInt = 1003 ∧ 100 * (Y : Int) < X))) ∨ (v.toInt = 10 * X ∧ (X : Int) < Y ∧ (Y : Int) ≤ 10 * X ∧ ((w.toInt = Y ∧ n.toInt = 999) ∨ (w.toInt = 10 * Y ∧ n.toInt = 1000 ∧ (Y : Int) < 10 * X))) ∨ (v.toInt = 100 * X ∧ 10 * (X : Int) < Y ∧ ((w.toInt = Y ∧ n.toInt = 998) ∨ (w.toInt = 10 * Y ∧ n.toInt = 999 ∧ (Y : Int) < 100 * X))))) (hgt : w.toInt < v.toInt) (e : w2.toInt = 10 * w.toInt) (en : n2.toInt = n.toInt + 1) : ((v.toInt = X ∧ (Y : Int) ≤ X ∧ ((w2.toInt = Y ∧ n2.toInt = 1000) ∨ (w2.toInt = 10 * Y ∧ n2.toInt = 1001 ∧ (Y : Int) < X) ∨ (w2.toInt = 100 * Y ∧ n2.toInt = 1002 ∧ 10 * (Y : Int) < X) ∨ (w2.toInt = 1000 * Y ∧ n2.toInt = 1003 ∧ 100 * (Y : Int) < X))) ∨ (v.toInt = 10 * X ∧ (X : Int) < Y ∧ (Y : Int) ≤ 10 * X ∧ ((w2.toInt = Y ∧ n2.toInt = 999) ∨ (w2.toInt = 10 * Y ∧ n2.toInt = 1000 ∧ (Y : Int) < 10 * X))) ∨ (v.toInt = 100 * X ∧ 10 * (X : Int) < Y ∧ ((w2.toInt = Y ∧ n2.toInt = 998) ∨ (w2.toInt = 10 * Y ∧ n2.toInt = 999 ∧ (Y : Int) < 100 * X)))) := by
  rcases h with ⟨a, b, ⟨c, d⟩ | ⟨c, d, f⟩ | ⟨c, d, f⟩ | ⟨c, d, f⟩⟩ | ⟨a, b, b2, ⟨c, d⟩ | ⟨c, d, f⟩⟩ | ⟨a, b, ⟨c, d⟩ | ⟨c, d, f⟩⟩
  · exact Or.inl ⟨a, b, Or.inr (Or.inl ⟨by omega, by omega, by omega⟩)⟩
  · exact Or.inl ⟨a, b, Or.inr (Or.inr (Or.inl ⟨by omega, by omega, by omega⟩))⟩
  · exact Or.inl ⟨a, b, Or.inr (Or.inr (Or.inr ⟨by omega, by omega, by omega⟩))⟩
  · exfalso; omega
  · exact Or.inr (Or.inl ⟨a, b, b2, Or.inr ⟨by omega, by omega, by omega⟩⟩)
  · exfalso; omega
  · exact Or.inr (Or.inr ⟨a, b, Or.inr ⟨by omega, by omega, by omega⟩⟩)
  · exfalso; omega
theorem sl_st3 {X Y : Nat} {v w : Int64} {n r : Int32} (x0 : 100 ≤ X) (x1 : X ≤ 100000) (y0 : 100 ≤ Y) (y1 : Y ≤ 9900) (h : ((v.toInt = X ∧ (Y : Int) ≤ X ∧ ((w.toInt = Y ∧ n.toInt = 1000) ∨ (w.toInt = 10 * Y ∧ n.toInt = 1001 ∧ (Y : Int) < X) ∨ (w.toInt = 100 * Y ∧ n.toInt = 1002 ∧ 10 * (Y : Int) < X) ∨ (w.toInt = 1000 * Y ∧ n.toInt = 1003 ∧ 100 * (Y : Int) < X))) ∨ (v.toInt = 10 * X ∧ (X : Int) < Y ∧ (Y : Int) ≤ 10 * X ∧ ((w.toInt = Y ∧ n.toInt = 999) ∨ (w.toInt = 10 * Y ∧ n.toInt = 1000 ∧ (Y : Int) < 10 * X))) ∨ (v.toInt = 100 * X ∧ 10 * (X : Int) < Y ∧ ((w.toInt = Y ∧ n.toInt = 998) ∨ (w.toInt = 10 * Y ∧ n.toInt = 999 ∧ (Y : Int) < 100 * X))))) (hle : v.toInt ≤ w.toInt) (hr : (v.toInt = w.toInt ∧ r = n) ∨ (¬ v.toInt = w.toInt ∧ r = 0)) : sl_Tn X Y r.toInt := by
  unfold sl_Tn
  rcases hr with ⟨q, rfl⟩ | ⟨q, rfl⟩
  · rcases h with ⟨a, b, ⟨c, d⟩ | ⟨c, d, f⟩ | ⟨c, d, f⟩ | ⟨c, d, f⟩⟩ | ⟨a, b, b2, ⟨c, d⟩ | ⟨c, d, f⟩⟩ | ⟨a, b, ⟨c, d⟩ | ⟨c, d, f⟩⟩
    · exact Or.inl ⟨by omega, d⟩
    · exact Or.inr (Or.inl ⟨by omega, d⟩)
    · exact Or.inr (Or.inr (Or.inl ⟨by omega, d⟩))
    · exact Or.inr (Or.inr (Or.inr (Or.inl ⟨by omega, d⟩)))
    · exact Or.inr (Or.inr (Or.inr (Or.inr (Or.inl ⟨by omega, d⟩))))
    · exfalso; omega
    · exfalso; omega
    · exfalso; omega
  · refine Or.inr (Or.inr (Or.inr (Or.inr (Or.inr ⟨rfl, ?_⟩))))
    rcases h with ⟨a, b, ⟨c, d⟩ | ⟨c, d, f⟩ | ⟨c, d, f⟩ | ⟨c, d, f⟩⟩ | ⟨a, b, b2, ⟨c, d⟩ | ⟨c, d, f⟩⟩ | ⟨a, b, ⟨c, d⟩ | ⟨c, d, f⟩⟩ <;> omega

set_option maxHeartbeats 4000000 in
set_option maxRecDepth 100000 in
theorem e2_X12_times (l : Launch) (G : zG) (z : Nat) (τ : Nat → Option (Nat × Nat)) (ρ : Nat → Nat → Option Nat) (ι : Nat → Nat → Int32) (κ : Nat → Nat → Int64) {a : Nat} (ha : τ a = some (14, 6)) (x : Int64) (x0 : -3000000 ≤ x.toInt) (x1 : x.toInt ≤ 3000000) (h9 : zNo9 (κ a)) (hr0 : -2000000 ≤ (κ a 0).toInt ∧ (κ a 0).toInt ≤ 2000000) : zM l G yX12_times cX12_times 10 none ({ frames := 0, cells := 0, slots := 0, locals := 0 } : Room) [.ref a, .long x] (z, τ, ρ, ι, κ) (fun v s => v = none ∧ ∃ κ2, s = (z, τ, ρ, ι, κ2) ∧ (∀ q, q ≠ a → κ2 q = κ q) ∧ zNo9 (κ2 a) ∧ (-1000000000000000 ≤ (κ2 a 0).toInt ∧ (κ2 a 0).toInt ≤ 1000000000000000) ∧ qR (κ2 a) 6 = qR (κ a) 6 * x.toInt) 0 0 := by
  refine zM_of zCd_X12_times (Nat.le_of_ble_eq_true rfl) ?_
  intro E X hR hE
  subst hE
  show zW E G 10 (z, τ, ρ, ι, κ) 0 0 0 [(0, .ref a), (1, .long x)] []
  have L5 : ∀ (m : Nat) (i : Int32) (c : Int64) (κ1 : Nat → Nat → Int64), i.toInt.toNat < m → 0 ≤ i.toInt → i.toInt ≤ 5 → (∀ q, q ≠ a → κ1 q = κ q) → (∀ k : Nat, (k : Int) ≤ i.toInt → κ1 a k = κ a k) → (∀ k : Nat, i.toInt < k → k < 6 → 0 ≤ (κ1 a k).toInt ∧ (κ1 a k).toInt < 1000000000) → -3000000 ≤ c.toInt → c.toInt ≤ 3000000 → qP (κ1 a) (5 - i.toNatClampNeg) + c.toInt * qU (5 - i.toNatClampNeg) = x.toInt * qP (κ a) (5 - i.toNatClampNeg) → zW E G 10 (z, τ, ρ, ι, κ1) 0 0 5 [(0, .ref a), (1, .long x), (3, .long c), (5, .int i)] [] := by
    intro m
    induction m with
    | zero => intro i c κ1 h; omega
    | succ m ih => ?_
    intro i c κ1 hm h0 h5 hf hs hb c0 c1 hP
    have hi := zclN h0
    refine r_iload X (by rfl) dX12_times_5 ?_
    refine r_if_le X 71 dX12_times_7 (by decide) (fun h7 => ?_) (fun h7 => ?_)
    · have hi0 : i = 0 := Int32.toInt_inj.mp (by rw [show Int32.toInt 0 = 0 from rfl]; omega)
      subst hi0
      have hs0 := hs 0 (by decide)
      have hm1 : -(2000000 * 3000000) ≤ (κ a 0).toInt * x.toInt ∧ (κ a 0).toInt * x.toInt ≤ 2000000 * 3000000 := zmulbd2 hr0.1 hr0.2 x0 x1
      have ew1 : (κ1 a 0 * x).toInt = (κ a 0).toInt * x.toInt := by rw [hs0]; exact zmulJ (by omega) (by omega)
      have ew : (κ1 a 0 * x + c).toInt = (κ a 0).toInt * x.toInt + c.toInt := by rw [zaddJ (x := κ1 a 0 * x) (y := c) (by omega) (by omega), ew1]
      refine r_aload_n X (by rfl) dX12_times_71 ?_
      refine r_iconst X 0 (by decide) dX12_times_72 ?_
      refine r_aload_n X (by rfl) dX12_times_73 ?_
      refine r_iconst X 0 (by decide) dX12_times_74 ?_
      refine r_laload X dX12_times_75 ha (vp_in_iff.mpr ⟨by decide, by decide⟩) ?_
      refine r_lload_n X (by rfl) dX12_times_76 ?_
      refine r_lmul X dX12_times_77 ?_
      refine r_lload_n X (by rfl) dX12_times_78 ?_
      refine r_ladd X dX12_times_79 ?_
      refine r_lastore X dX12_times_80 ha (vp_in_iff.mpr ⟨by decide, by decide⟩) ?_
      refine r_return X hR dX12_times_81 (Nat.zero_le _) (Nat.zero_le _) ?_
      refine ⟨rfl, _, rfl, fun q hq => by rw [zu_r hq]; exact hf q hq, ?_, ⟨?_, ?_⟩, ?_⟩
      · intro k k1 k6; rw [show Int32.toNatClampNeg 0 = 0 from rfl, zu_k (show k ≠ 0 by omega)]; exact hb k (by rw [show Int32.toInt 0 = 0 from rfl]; omega) k6
      · rw [show Int32.toNatClampNeg 0 = 0 from rfl, zu_s, ew]; omega
      · rw [show Int32.toNatClampNeg 0 = 0 from rfl, zu_s, ew]; omega
      · rw [show Int32.toNatClampNeg 0 = 0 from rfl, qR_P, qR_P, zu_s, ew, qP_congr (g := κ1 a) (by decide) (fun k h1 h2 => zu_k (show k ≠ 0 by omega))]
        rw [show Int32.toNatClampNeg 0 = 0 from rfl] at hP
        exact zendT hP
    · have hsi := hs i.toNatClampNeg (by omega)
      have hbi := h9 i.toNatClampNeg (by omega) (by omega)
      have HT := ztG2 (k := κ1 a i.toNatClampNeg) (x := x) (c := c) x0 x1 (by rw [hsi]; exact hbi.1) (by rw [hsi]; exact hbi.2) c0 c1
      obtain ⟨j, hj, e2⟩ : ∃ j, i + -1 = j ∧ j.toInt = i.toInt + -1 := ⟨_, rfl, zadd_c (x := i) (-1) (-1) rfl (by omega) (by omega)⟩
      refine r_aload_n X (by rfl) dX12_times_10 ?_
      refine r_iload X (by rfl) dX12_times_11 ?_
      refine r_laload X dX12_times_13 ha (vp_in_iff.mpr ⟨by omega, by omega⟩) ?_
      refine r_lload_n X (by rfl) dX12_times_14 ?_
      refine r_lmul X dX12_times_15 ?_
      refine r_lload_n X (by rfl) dX12_times_16 ?_
      refine r_ladd X dX12_times_17 ?_
      refine r_lstore X (by decide) dX12_times_18 ?_
      obtain ⟨w, hw, ew, w0, w1⟩ : ∃ w, κ1 a i.toNatClampNeg * x + c = w ∧ w.toInt = (κ1 a i.toNatClampNeg).toInt * x.toInt + c.toInt ∧ -3000000000000000 ≤ w.toInt ∧ w.toInt ≤ 3000000000000000 := ⟨_, rfl, HT⟩
      rw [hw]
      refine r_lload X (by rfl) dX12_times_20 ?_
      refine r_lconst X 0 (by decide) dX12_times_22 ?_
      refine r_lcmp_lt X 36 dX12_times_23 dX12_times_24 (by decide) (fun h23 => ?_) (fun h23 => ?_)
      · rw [show Int64.toInt 0 = 0 from rfl] at h23
        refine r_ldc2 X zK_X12_105 dX12_times_36 ?_
        refine r_lload X (by rfl) dX12_times_39 ?_
        refine r_lsub X dX12_times_41 ?_
        refine r_ldc2 X zK_X12_103 dX12_times_42 ?_
        refine r_ldiv X (by decide) dX12_times_45 ?_
        refine r_lneg X dX12_times_46 ?_
        refine r_lstore X (by decide) dX12_times_47 ?_
        obtain ⟨qv, hqv, eqv⟩ : ∃ qv, -((999999999 - w) / 1000000000) = qv ∧ qv.toInt = w.toInt / 1000000000 := ⟨_, rfl, zq2b (by omega) w0⟩
        rw [hqv]
        obtain ⟨nv, hnv, env⟩ : ∃ nv, w - qv * 1000000000 = nv ∧ nv.toInt = w.toInt % 1000000000 := ⟨_, rfl, zq3b w0 w1 eqv⟩
        refine r_aload_n X (by rfl) dX12_times_49 ?_
        refine r_iload X (by rfl) dX12_times_50 ?_
        refine r_lload X (by rfl) dX12_times_52 ?_
        refine r_lload X (by rfl) dX12_times_54 ?_
        refine r_ldc2 X zK_X12_103 dX12_times_56 ?_
        refine r_lmul X dX12_times_59 ?_
        refine r_lsub X dX12_times_60 ?_
        rw [hnv]
        refine r_lastore X dX12_times_61 ha (vp_in_iff.mpr ⟨by omega, by omega⟩) ?_
        refine r_lload X (by rfl) dX12_times_62 ?_
        refine r_lstore_n X (by decide) dX12_times_64 ?_
        refine r_iinc X (-1) (by decide) (by rfl) (by decide) dX12_times_65 ?_
        refine r_goto X 5 dX12_times_68 (by decide) ?_
        exact zW.loc4 (by rfl) (by rfl) (by rfl) (by rfl) (ih _ _ _ (by rw [hj, e2]; omega) (by rw [hj, e2]; omega) (by rw [hj, e2]; omega) (fun q hq => by rw [zu_r hq]; exact hf q hq) (fun k hk => by rw [hj, e2] at hk; rw [zu_k (show k ≠ i.toNatClampNeg by omega)]; exact hs k (by omega)) (fun k hk h6 => by
          rw [hj, e2] at hk
          by_cases q : k = i.toNatClampNeg
          · subst q; rw [zu_s]; omega
          · rw [zu_k q]; exact hb k (by omega) h6) (by omega) (by omega) (by rw [zdec5 (by omega) h5, qP, qP, qU, show 5 - (5 - i.toNatClampNeg) = i.toNatClampNeg by omega, zu_s, qP_congr (g := κ1 a) (by omega) (fun k h1 h2 => zu_k (show k ≠ i.toNatClampNeg by omega))]; exact ztmU hP (by rw [← hsi]; omega)))
      · rw [show Int64.toInt 0 = 0 from rfl] at h23
        refine r_lload X (by rfl) dX12_times_27 ?_
        refine r_ldc2 X zK_X12_103 dX12_times_29 ?_
        refine r_ldiv X (by decide) dX12_times_32 ?_
        refine r_goto X 47 dX12_times_33 (by decide) ?_
        refine r_lstore X (by decide) dX12_times_47 ?_
        obtain ⟨qv, hqv, eqv⟩ : ∃ qv, w / 1000000000 = qv ∧ qv.toInt = w.toInt / 1000000000 := ⟨_, rfl, zq1 (by omega)⟩
        rw [hqv]
        obtain ⟨nv, hnv, env⟩ : ∃ nv, w - qv * 1000000000 = nv ∧ nv.toInt = w.toInt % 1000000000 := ⟨_, rfl, zq3b w0 w1 eqv⟩
        refine r_aload_n X (by rfl) dX12_times_49 ?_
        refine r_iload X (by rfl) dX12_times_50 ?_
        refine r_lload X (by rfl) dX12_times_52 ?_
        refine r_lload X (by rfl) dX12_times_54 ?_
        refine r_ldc2 X zK_X12_103 dX12_times_56 ?_
        refine r_lmul X dX12_times_59 ?_
        refine r_lsub X dX12_times_60 ?_
        rw [hnv]
        refine r_lastore X dX12_times_61 ha (vp_in_iff.mpr ⟨by omega, by omega⟩) ?_
        refine r_lload X (by rfl) dX12_times_62 ?_
        refine r_lstore_n X (by decide) dX12_times_64 ?_
        refine r_iinc X (-1) (by decide) (by rfl) (by decide) dX12_times_65 ?_
        refine r_goto X 5 dX12_times_68 (by decide) ?_
        exact zW.loc4 (by rfl) (by rfl) (by rfl) (by rfl) (ih _ _ _ (by rw [hj, e2]; omega) (by rw [hj, e2]; omega) (by rw [hj, e2]; omega) (fun q hq => by rw [zu_r hq]; exact hf q hq) (fun k hk => by rw [hj, e2] at hk; rw [zu_k (show k ≠ i.toNatClampNeg by omega)]; exact hs k (by omega)) (fun k hk h6 => by
          rw [hj, e2] at hk
          by_cases q : k = i.toNatClampNeg
          · subst q; rw [zu_s]; omega
          · rw [zu_k q]; exact hb k (by omega) h6) (by omega) (by omega) (by rw [zdec5 (by omega) h5, qP, qP, qU, show 5 - (5 - i.toNatClampNeg) = i.toNatClampNeg by omega, zu_s, qP_congr (g := κ1 a) (by omega) (fun k h1 h2 => zu_k (show k ≠ i.toNatClampNeg by omega))]; exact ztmU hP (by rw [← hsi]; omega)))
  refine r_lconst X 0 (by decide) dX12_times_0 ?_
  refine r_lstore_n X (by decide) dX12_times_1 ?_
  refine r_iconst X 5 (by decide) dX12_times_2 ?_
  refine r_istore X (by decide) dX12_times_3 ?_
  exact zW.loc4 (by rfl) (by rfl) (by rfl) (by rfl) (L5 6 _ _ _ (by decide) (by decide) (by decide) (fun _ _ => rfl) (fun _ _ => rfl) (fun k hk h6 => by rw [show Int32.toInt 5 = 5 from rfl] at hk; omega) (by decide) (by decide) (by rw [show 5 - Int32.toNatClampNeg 5 = 0 from rfl, qP]; rw [show Int64.toInt 0 = 0 from rfl]; omega))
set_option maxHeartbeats 4000000 in
set_option maxRecDepth 100000 in
theorem e2_X12_natural (l : Launch) (G : zG) (z : Nat) (τ : Nat → Option (Nat × Nat)) (ρ : Nat → Nat → Option Nat) (ι : Nat → Nat → Int32) (κ : Nat → Nat → Int64) {a M : Nat} (ha : τ a = some (12, M)) {te sh : Nat} (g17 : ρ a 17 = some te) (g18 : ρ a 18 = some sh) (hte : τ te = some (14, 6)) (hsh : τ sh = some (14, 6)) (dts : te ≠ sh) {t : Nat} (ht : τ t = some (14, 6)) (dtt : te ≠ t) (dst : sh ≠ t) (x y : Int64) (y0 : 1 ≤ y.toInt) (yx : y.toInt ≤ x.toInt) (x1 : x.toInt ≤ 100000) (hend : zTt (x.toInt - y.toInt) (x.toInt + y.toInt) 60 = 0) : zM l G yX12_natural cX12_natural 12 none ({ frames := 1, cells := 0, slots := 0, locals := 29 } : Room) [.ref a, .long x, .long y, .ref t] (z, τ, ρ, ι, κ) (fun v s => v = none ∧ ∃ κ2, s = (z, τ, ρ, ι, κ2) ∧ (∀ q, q ≠ te → q ≠ sh → q ≠ t → κ2 q = κ q) ∧ zNo9 (κ2 t) ∧ qR (κ2 t) 6 = zSn (x.toInt - y.toInt) (x.toInt + y.toInt) 60) 0 0 := by
  refine zM_of zCd_X12_natural (Nat.le_of_ble_eq_true rfl) ?_
  intro E X hR hE
  subst hE
  show zW E G 12 (z, τ, ρ, ι, κ) 0 0 0 [(0, .ref a), (1, .long x), (3, .long y), (5, .ref t)] []
  have ea : (x - y).toInt = x.toInt - y.toInt := zsubJ (by omega) (by omega)
  have eb : (x + y).toInt = x.toInt + y.toInt := zaddJ (by omega) (by omega)
  have e2 : ((2 : Int64) * (x - y)).toInt = 2 * (x.toInt - y.toInt) := by rw [zmulJ (by rw [ea, show (2 : Int64).toInt = 2 from rfl]; omega) (by rw [ea, show (2 : Int64).toInt = 2 from rfl]; omega), ea]; rfl
  have L41 : ∀ (m : Nat) (i : Int64) (j : Nat) (κ1 : Nat → Nat → Int64), 60 - j < m → j ≤ 60 → i.toInt = 2 * (j : Int) + 1 → zNo (κ1 te) 2000000 → qR (κ1 te) 6 = zTt (x.toInt - y.toInt) (x.toInt + y.toInt) j → zNo9 (κ1 t) → qR (κ1 t) 6 = zSn (x.toInt - y.toInt) (x.toInt + y.toInt) j → (∀ q, q ≠ te → q ≠ sh → q ≠ t → κ1 q = κ q) → zW E G 12 (z, τ, ρ, ι, κ1) 0 0 41 [(0, .ref a), (1, .long x), (3, .long y), (5, .ref t), (6, .long (x - y)), (8, .long (x + y)), (10, .long i)] [] := by
    intro m
    induction m with
    | zero => intro i j κ1 h; omega
    | succ m ih => ?_
    intro i j κ1 hm hj hi hB hv ht9 hs hfr
    refine r_aload_n X (by rfl) dX12_natural_41 ?_
    refine r_getR X dX12_natural_42 zF_X12_55 ha g17 ?_
    refine r_callS X dX12_natural_45 zLS_X12_114 zCd_X12_isNought (e_X12_isNought _ G z τ ρ _ _ hte) rfl rfl ⟨⟨rfl, rfl⟩, ⟨by decide, by decide⟩, ⟨Nat.le_of_ble_eq_true rfl, Nat.le_of_ble_eq_true rfl⟩, Nat.le_of_ble_eq_true rfl⟩ ?_
    rintro _ _ ⟨r, rfl, rfl, hr⟩
    refine r_if_ne X 127 dX12_natural_48 (by decide) (fun h48 => ?_) (fun h48 => ?_)
    · have hz0 : zTt (x.toInt - y.toInt) (x.toInt + y.toInt) j = 0 := by
        rcases hr with ⟨h, -⟩ | ⟨-, h⟩
        · exact absurd h h48
        · rw [← hv]; exact qR_z h
      clear hr
      refine r_return X hR dX12_natural_127 (Nat.zero_le _) (Nat.zero_le _) ?_
      have h60 := zSn_0 hz0 (60 - j)
      rw [show j + (60 - j) = 60 by omega] at h60
      exact ⟨rfl, _, rfl, hfr, ht9, by rw [h60]; exact hs⟩
    · have hpos : 0 < zTt (x.toInt - y.toInt) (x.toInt + y.toInt) j := by
        rcases hr with ⟨-, h⟩ | ⟨h, -⟩
        · rw [← hv]; exact qR_ne hB h
        · rw [h] at h48; exact absurd h48 (by decide)
      have hj60 : j < 60 := by
        rcases Nat.lt_or_ge j 60 with q | q
        · exact q
        · have e60 : j = 60 := by omega
          rw [e60, hend] at hpos; omega
      clear hr
      refine r_aload_n X (by rfl) dX12_natural_51 ?_
      refine r_getR X dX12_natural_52 zF_X12_55 ha g17 ?_
      refine r_aload_n X (by rfl) dX12_natural_55 ?_
      refine r_getR X dX12_natural_56 zF_X12_58 ha g18 ?_
      refine r_callS X dX12_natural_59 zLS_X12_118 zCd_X12_copies (c_X12_copies _ G z τ ρ _ _ hte hsh dts) rfl rfl ⟨⟨rfl, rfl⟩, ⟨by decide, by decide⟩, ⟨Nat.le_of_ble_eq_true rfl, Nat.le_of_ble_eq_true rfl⟩, Nat.le_of_ble_eq_true rfl⟩ ?_
      rintro _ _ ⟨rfl, k4, rfl, f4, c4⟩
      have hB4 : zNo (k4 te) 2000000 := by rw [f4 te dts]; exact hB
      have v4 : qR (k4 te) 6 = zTt (x.toInt - y.toInt) (x.toInt + y.toInt) j := by rw [f4 te dts]; exact hv
      have hS4 : zNo (k4 sh) 2000000 := zNo_cg hB c4
      have w4 : qR (k4 sh) 6 = zTt (x.toInt - y.toInt) (x.toInt + y.toInt) j := by rw [qR_congr (g := κ1 te) c4]; exact hv
      refine r_aload_n X (by rfl) dX12_natural_62 ?_
      refine r_getR X dX12_natural_63 zF_X12_58 ha g18 ?_
      refine r_lload X (by rfl) dX12_natural_66 ?_
      refine r_callS X dX12_natural_68 zLS_X12_111 zCd_X12_divides (e_X12_divides _ G z τ ρ _ _ hsh _ (by omega) (by omega) (hS4.le (by omega))) rfl rfl ⟨⟨rfl, rfl⟩, ⟨by decide, by decide⟩, ⟨Nat.le_of_ble_eq_true rfl, Nat.le_of_ble_eq_true rfl⟩, Nat.le_of_ble_eq_true rfl⟩ ?_
      rintro _ _ ⟨rfl, k5, rfl, f5, hn5, hT5, v5⟩
      rw [w4, hi] at v5
      have hS5 := zNo_down hS4 hn5 (by omega) hT5
      refine r_aload X (by rfl) dX12_natural_71 ?_
      refine r_aload_n X (by rfl) dX12_natural_73 ?_
      refine r_getR X dX12_natural_74 zF_X12_58 ha g18 ?_
      refine r_callS X dX12_natural_77 zLS_X12_99 zCd_X12_adds (e_X12_adds _ G z τ ρ _ _ ht hsh (Ne.symm dst) (by rw [f5 t (Ne.symm dst), f4 t (Ne.symm dst)]; exact ht9) hn5.2.2 (by rw [f5 t (Ne.symm dst), f4 t (Ne.symm dst)]; exact zr0b ht9 (by rw [hs]; exact zSn_b (by omega) (by omega) (by omega))) ⟨by have := hS5.1; omega, by have := hS5.2.1; omega⟩) rfl rfl ⟨⟨rfl, rfl⟩, ⟨by decide, by decide⟩, ⟨Nat.le_of_ble_eq_true rfl, Nat.le_of_ble_eq_true rfl⟩, Nat.le_of_ble_eq_true rfl⟩ ?_
      rintro _ _ ⟨rfl, k6, rfl, f6, h6t, v6⟩
      rw [f5 t (Ne.symm dst), f4 t (Ne.symm dst), hs, v5] at v6
      refine r_aload_n X (by rfl) dX12_natural_80 ?_
      refine r_getR X dX12_natural_81 zF_X12_55 ha g17 ?_
      refine r_lload X (by rfl) dX12_natural_84 ?_
      refine r_callS X dX12_natural_86 zLS_X12_121 zCd_X12_times (c_X12_timesS _ G z τ ρ _ _ hte _ (by omega) (by omega) (by rw [f6 te dtt, f5 te dts]; exact hB4)) rfl rfl ⟨⟨rfl, rfl⟩, ⟨by decide, by decide⟩, ⟨Nat.le_of_ble_eq_true rfl, Nat.le_of_ble_eq_true rfl⟩, Nat.le_of_ble_eq_true rfl⟩ ?_
      rintro _ _ ⟨rfl, k7, rfl, f7, hn7, hT7⟩
      rw [f6 te dtt, f5 te dts, v4, ea] at hT7
      refine r_aload_n X (by rfl) dX12_natural_89 ?_
      refine r_getR X dX12_natural_90 zF_X12_55 ha g17 ?_
      refine r_lload X (by rfl) dX12_natural_93 ?_
      refine r_callS X dX12_natural_95 zLS_X12_111 zCd_X12_divides (e_X12_divides _ G z τ ρ _ _ hte _ (by omega) (by omega) hn7) rfl rfl ⟨⟨rfl, rfl⟩, ⟨by decide, by decide⟩, ⟨Nat.le_of_ble_eq_true rfl, Nat.le_of_ble_eq_true rfl⟩, Nat.le_of_ble_eq_true rfl⟩ ?_
      rintro _ _ ⟨rfl, k8, rfl, f8, hn8, hT8, v8⟩
      rw [hT7, eb] at hT8 v8
      have hF8 := zfall hT8 (by omega) (by omega) (zTt_nn (by omega) (by omega) j)
      have hB8 := zNo_fall hB4 hn8 (by rw [v4]; exact hF8)
      refine r_aload_n X (by rfl) dX12_natural_98 ?_
      refine r_getR X dX12_natural_99 zF_X12_55 ha g17 ?_
      refine r_lload X (by rfl) dX12_natural_102 ?_
      refine r_callS X dX12_natural_104 zLS_X12_121 zCd_X12_times (c_X12_timesS _ G z τ ρ _ _ hte _ (by omega) (by omega) hB8) rfl rfl ⟨⟨rfl, rfl⟩, ⟨by decide, by decide⟩, ⟨Nat.le_of_ble_eq_true rfl, Nat.le_of_ble_eq_true rfl⟩, Nat.le_of_ble_eq_true rfl⟩ ?_
      rintro _ _ ⟨rfl, k9, rfl, f9, hn9, hT9⟩
      rw [v8, ea] at hT9
      refine r_aload_n X (by rfl) dX12_natural_107 ?_
      refine r_getR X dX12_natural_108 zF_X12_55 ha g17 ?_
      refine r_lload X (by rfl) dX12_natural_111 ?_
      refine r_callS X dX12_natural_113 zLS_X12_111 zCd_X12_divides (e_X12_divides _ G z τ ρ _ _ hte _ (by omega) (by omega) hn9) rfl rfl ⟨⟨rfl, rfl⟩, ⟨by decide, by decide⟩, ⟨Nat.le_of_ble_eq_true rfl, Nat.le_of_ble_eq_true rfl⟩, Nat.le_of_ble_eq_true rfl⟩ ?_
      rintro _ _ ⟨rfl, k10, rfl, f10, hn10, hT10, v10⟩
      rw [hT9, eb] at hT10 v10
      have hF10 := zfall hT10 (by omega) (by omega) (by rw [← v8]; exact qR_pos hB8)
      have hB10 := zNo_fall hB8 hn10 (by rw [v8]; exact hF10)
      refine r_lload X (by rfl) dX12_natural_116 ?_
      refine r_ldc2 X zK_X12_89 dX12_natural_118 ?_
      refine r_ladd X dX12_natural_121 ?_
      refine r_lstore X (by decide) dX12_natural_122 ?_
      refine r_goto X 41 dX12_natural_124 (by decide) ?_
      exact zW.loc7 (by rfl) (by rfl) (by rfl) (by rfl) (by rfl) (by rfl) (by rfl) (ih _ (j + 1) _ (by omega) (by omega) (by rw [zaddJ (x := i) (y := 2) (by rw [show Int64.toInt 2 = 2 from rfl]; omega) (by rw [show Int64.toInt 2 = 2 from rfl]; omega), show Int64.toInt 2 = 2 from rfl]; omega) hB10 v10 (by rw [f10 t (Ne.symm dtt), f9 t (Ne.symm dtt), f8 t (Ne.symm dtt), f7 t (Ne.symm dtt)]; exact h6t) (by rw [f10 t (Ne.symm dtt), f9 t (Ne.symm dtt), f8 t (Ne.symm dtt), f7 t (Ne.symm dtt)]; exact v6) (fun q q1 q2 q3 => by rw [f10 q q1, f9 q q1, f8 q q1, f7 q q1, f6 q q3, f5 q q2, f4 q q2]; exact hfr q q1 q2 q3))
  refine r_lload_n X (by rfl) dX12_natural_0 ?_
  refine r_lload_n X (by rfl) dX12_natural_1 ?_
  refine r_lsub X dX12_natural_2 ?_
  refine r_lstore X (by decide) dX12_natural_3 ?_
  refine r_lload_n X (by rfl) dX12_natural_5 ?_
  refine r_lload_n X (by rfl) dX12_natural_6 ?_
  refine r_ladd X dX12_natural_7 ?_
  refine r_lstore X (by decide) dX12_natural_8 ?_
  refine r_aload X (by rfl) dX12_natural_10 ?_
  refine r_lconst X 0 (by decide) dX12_natural_12 ?_
  refine r_callS X dX12_natural_13 zLS_X12_107 zCd_X12_sets (c_X12_sets _ G z τ ρ _ _ ht _) rfl rfl ⟨⟨rfl, rfl⟩, ⟨by decide, by decide⟩, ⟨Nat.le_of_ble_eq_true rfl, Nat.le_of_ble_eq_true rfl⟩, Nat.le_of_ble_eq_true rfl⟩ ?_
  rintro _ _ ⟨rfl, k1, rfl, f1, t0, t1⟩
  refine r_aload_n X (by rfl) dX12_natural_16 ?_
  refine r_getR X dX12_natural_17 zF_X12_55 ha g17 ?_
  refine r_ldc2 X zK_X12_89 dX12_natural_20 ?_
  refine r_lload X (by rfl) dX12_natural_23 ?_
  refine r_lmul X dX12_natural_25 ?_
  refine r_callS X dX12_natural_26 zLS_X12_107 zCd_X12_sets (c_X12_sets _ G z τ ρ _ _ hte _) rfl rfl ⟨⟨rfl, rfl⟩, ⟨by decide, by decide⟩, ⟨Nat.le_of_ble_eq_true rfl, Nat.le_of_ble_eq_true rfl⟩, Nat.le_of_ble_eq_true rfl⟩ ?_
  rintro _ _ ⟨rfl, k2, rfl, f2, s0, s1⟩
  have hn2 : zNo (k2 te) 2000000 := ⟨by rw [s0, e2]; omega, by rw [s0, e2]; omega, fun k h1 h6 => by rw [s1 k h1 h6]; decide⟩
  have v2 : qR (k2 te) 6 = 2 * (x.toInt - y.toInt) * 1000000000000000000000000000000000000000000000 := by simp only [qR, s0, e2, s1 1 (by decide) (by decide), s1 2 (by decide) (by decide), s1 3 (by decide) (by decide), s1 4 (by decide) (by decide), s1 5 (by decide) (by decide)]; rw [show Int64.toInt 0 = 0 from rfl]; omega
  refine r_aload_n X (by rfl) dX12_natural_29 ?_
  refine r_getR X dX12_natural_30 zF_X12_55 ha g17 ?_
  refine r_lload X (by rfl) dX12_natural_33 ?_
  refine r_callS X dX12_natural_35 zLS_X12_111 zCd_X12_divides (e_X12_divides _ G z τ ρ _ _ hte _ (by omega) (by omega) (hn2.le (by omega))) rfl rfl ⟨⟨rfl, rfl⟩, ⟨by decide, by decide⟩, ⟨Nat.le_of_ble_eq_true rfl, Nat.le_of_ble_eq_true rfl⟩, Nat.le_of_ble_eq_true rfl⟩ ?_
  rintro _ _ ⟨rfl, k3, rfl, f3, hn3, hT3, v3⟩
  have hB3 := zNo_down hn2 hn3 (by omega) hT3
  rw [v2, eb] at v3
  refine r_lconst X 1 (by decide) dX12_natural_38 ?_
  refine r_lstore X (by decide) dX12_natural_39 ?_
  exact zW.loc7 (by rfl) (by rfl) (by rfl) (by rfl) (by rfl) (by rfl) (by rfl) (L41 61 _ 0 _ (by decide) (by decide) (by decide) hB3 v3 (fun k k1 k6 => by rw [f3 t (Ne.symm dtt), f2 t (Ne.symm dtt), t1 k k1 k6]; decide) (by rw [f3 t (Ne.symm dtt), f2 t (Ne.symm dtt)]; exact qR_z (fun k k6 => by
    by_cases q : k = 0
    · subst q; rw [t0]; rfl
    · rw [t1 k (by omega) k6]; rfl)) (fun q q1 q2 q3 => by rw [f3 q q1, f2 q q1, f1 q q3]))
set_option maxHeartbeats 4000000 in
set_option maxRecDepth 100000 in
theorem e2_X12_logOf (l : Launch) (G : zG) (z : Nat) (τ : Nat → Option (Nat × Nat)) (ρ : Nat → Nat → Option Nat) (ι : Nat → Nat → Int32) (κ : Nat → Nat → Int64) {a M : Nat} (ha : τ a = some (12, M)) {te sh : Nat} (g17 : ρ a 17 = some te) (g18 : ρ a 18 = some sh) (hte : τ te = some (14, 6)) (hsh : τ sh = some (14, 6)) (dts : te ≠ sh) {tw : Nat} (g15 : ρ a 15 = some tw) (htw : τ tw = some (1002, 6)) {t : Nat} (ht : τ t = some (14, 6)) (dtt : te ≠ t) (dst : sh ≠ t) (x : Int64) (x0 : 1 ≤ x.toInt) (x1 : x.toInt ≤ 100000) (Xn : Nat) (hXx : x.toInt = (Xn : Int)) : zM l G yX12_logOf cX12_logOf 8 none ({ frames := 2, cells := 0, slots := 0, locals := 60 } : Room) [.ref a, .long x, .ref t] (z, τ, ρ, ι, κ) (fun v s => v = none ∧ ∃ κ2, s = (z, τ, ρ, ι, κ2) ∧ (∀ q, q ≠ te → q ≠ sh → q ≠ t → κ2 q = κ q) ∧ zNo9 (κ2 t) ∧ qR (κ2 t) 6 = (sl_M Xn : Int)) 0 0 := by
  refine zM_of zCd_X12_logOf (Nat.le_of_ble_eq_true rfl) ?_
  intro E X hR hE
  subst hE
  show zW E G 8 (z, τ, ρ, ι, κ) 0 0 0 [(0, .ref a), (1, .long x), (3, .ref t)] []
  have L42 : ∀ (u : Int32) (v : Int64) (d : Nat) (hd : d ≤ 20) (hu : u.toInt = d) (h0d : (2 : Int) ^ d ≤ x.toInt) (h1d : x.toInt < 2 * (2 : Int) ^ d) (sm : Int) (hsm : sm = zSn (x.toInt - 2 ^ d) (x.toInt + 2 ^ d) 60) (hsb : 0 ≤ sm ∧ sm ≤ 120 * 1000000000000000000000000000000000000000000000) (m : Nat) (j : Int32) (κ1 : Nat → Nat → Int64), (u.toInt - j.toInt).toNat < m → 0 ≤ j.toInt → j.toInt ≤ u.toInt → (∀ q, q ≠ te → q ≠ sh → q ≠ t → κ1 q = κ q) → zNo9 (κ1 t) → qR (κ1 t) 6 = sm + (j.toNatClampNeg : Int) * zTwoI → zW E G 8 (z, τ, ρ, ι, κ1) 0 0 42 [(0, .ref a), (1, .long x), (3, .ref t), (4, .long v), (6, .int u), (7, .int j)] [] := by
    intro u v d hd hu h0d h1d sm hsm hsb m
    induction m with
    | zero => intro j κ1 h; omega
    | succ m ih => ?_
    intro j κ1 hm h0 hju hfr ht9 hv
    have hul := u.toInt_lt
    have hjc := zclN h0
    refine r_iload X (by rfl) dX12_logOf_42 ?_
    refine r_iload X (by rfl) dX12_logOf_44 ?_
    refine r_icmp_ge X 63 dX12_logOf_46 (by decide) (fun h46 => ?_) (fun h46 => ?_)
    · refine r_return X hR dX12_logOf_63 (Nat.zero_le _) (Nat.zero_le _) ?_
      rw [show j.toNatClampNeg = d by omega, hsm] at hv
      exact ⟨rfl, _, rfl, hfr, ht9, by rw [hv, hXx, sl_M_e (x := Xn) (d := d) (by omega) (by omega)]⟩
    · refine r_aload_n X (by rfl) dX12_logOf_49 ?_
      refine r_aload_n X (by rfl) dX12_logOf_50 ?_
      refine r_getR X dX12_logOf_51 zF_X12_48 ha g15 ?_
      refine r_callS X dX12_logOf_54 zLS_X12_99 zCd_X12_adds (e_X12_addsF _ G z τ ρ _ _ ht htw ht9 zF2_9 (zr0b ht9 (by rw [hv]; exact zlgb2 hd (by omega) hsb)) (zr0b zF2_9 (by rw [zF2_v]; decide))) rfl rfl ⟨⟨rfl, rfl⟩, ⟨by decide, by decide⟩, ⟨Nat.le_of_ble_eq_true rfl, Nat.le_of_ble_eq_true rfl⟩, Nat.le_of_ble_eq_true rfl⟩ ?_
      rintro _ _ ⟨rfl, k2, rfl, f2, t2, v2⟩
      rw [hv, zF2_v] at v2
      refine r_iinc X 1 (by decide) (by rfl) (by decide) dX12_logOf_57 ?_
      refine r_goto X 42 dX12_logOf_60 (by decide) ?_
      exact zW.loc6 (by rfl) (by rfl) (by rfl) (by rfl) (by rfl) (by rfl) (ih _ _ (by have e := zinc (x := j) (by omega); omega) (by have e := zinc (x := j) (by omega); omega) (by have e := zinc (x := j) (by omega); omega) (fun q q1 q2 q3 => by rw [f2 q q3]; exact hfr q q1 q2 q3) t2 (by have e := zinc (x := j) (by omega); have e2 := zclN (i := j + 1) (by omega); rw [v2, show (j + 1).toNatClampNeg = j.toNatClampNeg + 1 by omega, Int.natCast_add, Int.add_mul]; omega))
  have L6 : ∀ (m : Nat) (v : Int64) (u : Int32) (d : Nat), (x.toInt - v.toInt).toNat < m → 1 ≤ v.toInt → v.toInt ≤ x.toInt → v.toInt = 2 ^ d → u.toInt = (d : Int) → d ≤ 20 → zW E G 8 (z, τ, ρ, ι, κ) 0 0 6 [(0, .ref a), (1, .long x), (3, .ref t), (4, .long v), (6, .int u)] [] := by
    intro m
    induction m with
    | zero => intro v u d h; omega
    | succ m ih => ?_
    intro v u d hm h0 h1 hvd hu hd
    have h0d : (2 : Int) ^ d ≤ x.toInt := by omega
    have e := zmulJ (x := 2) (y := v) (by rw [show (2 : Int64).toInt = 2 from rfl]; omega) (by rw [show (2 : Int64).toInt = 2 from rfl]; omega)
    rw [show (2 : Int64).toInt = 2 from rfl] at e
    have e2 := zmulJ (x := v) (y := 2) (by rw [show (2 : Int64).toInt = 2 from rfl]; omega) (by rw [show (2 : Int64).toInt = 2 from rfl]; omega)
    rw [show (2 : Int64).toInt = 2 from rfl] at e2
    refine r_ldc2 X zK_X12_89 dX12_logOf_6 ?_
    refine r_lload X (by rfl) dX12_logOf_9 ?_
    refine r_lmul X dX12_logOf_11 ?_
    refine r_lload_n X (by rfl) dX12_logOf_12 ?_
    refine r_lcmp_gt X 31 dX12_logOf_13 dX12_logOf_14 (by decide) (fun h13 => ?_) (fun h13 => ?_)
    · refine r_aload_n X (by rfl) dX12_logOf_31 ?_
      refine r_lload_n X (by rfl) dX12_logOf_32 ?_
      refine r_lload X (by rfl) dX12_logOf_33 ?_
      refine r_aload_n X (by rfl) dX12_logOf_35 ?_
      refine r_callV X dX12_logOf_36 zLV_X12_91 zCd_X12_natural (e2_X12_natural _ G z τ ρ _ _ ha g17 g18 hte hsh dts ht dtt dst _ _ h0 h1 x1 (by rw [hvd]; exact sl_t60 (by omega) (by omega) (by omega))) ha ⟨by decide, rfl, rfl⟩ rfl rfl ⟨⟨rfl, rfl⟩, ⟨by decide, by decide⟩, ⟨Nat.le_of_ble_eq_true rfl, Nat.le_of_ble_eq_true rfl⟩, Nat.le_of_ble_eq_true rfl⟩ ?_
      rintro _ _ ⟨rfl, k1, rfl, f1, t1, v1⟩
      rw [hvd] at v1
      refine r_iconst X 0 (by decide) dX12_logOf_39 ?_
      refine r_istore X (by decide) dX12_logOf_40 ?_
      exact zW.loc6 (by rfl) (by rfl) (by rfl) (by rfl) (by rfl) (by rfl) (L42 _ _ d hd hu h0d (by omega) _ rfl (zSn_b2 (by omega) (by omega)) (u.toInt.toNat + 1) 0 _ (by rw [show Int32.toInt 0 = 0 from rfl]; omega) (by decide) (by rw [show Int32.toInt 0 = 0 from rfl]; omega) (fun q q1 q2 q3 => f1 q q1 q2 q3) t1 (by rw [v1, show Int32.toNatClampNeg 0 = 0 from rfl]; simp))
    · refine r_lload X (by rfl) dX12_logOf_17 ?_
      refine r_ldc2 X zK_X12_89 dX12_logOf_19 ?_
      refine r_lmul X dX12_logOf_22 ?_
      refine r_lstore X (by decide) dX12_logOf_23 ?_
      refine r_iinc X 1 (by decide) (by rfl) (by decide) dX12_logOf_25 ?_
      refine r_goto X 6 dX12_logOf_28 (by decide) ?_
      exact zW.loc5 (by rfl) (by rfl) (by rfl) (by rfl) (by rfl) (ih _ _ (d + 1) (by omega) (by omega) (by omega) (by rw [e2, hvd, Int.pow_succ]) (by rw [zinc (x := u) (by omega), hu]; omega) (zd20 (by rw [Int.pow_succ]; omega) x1))
  refine r_lconst X 1 (by decide) dX12_logOf_0 ?_
  refine r_lstore X (by decide) dX12_logOf_1 ?_
  refine r_iconst X 0 (by decide) dX12_logOf_3 ?_
  refine r_istore X (by decide) dX12_logOf_4 ?_
  exact zW.loc5 (by rfl) (by rfl) (by rfl) (by rfl) (by rfl) (L6 (x.toInt.toNat + 1) _ _ 0 (by rw [show Int64.toInt 1 = 1 from rfl]; omega) (by decide) (by rw [show Int64.toInt 1 = 1 from rfl]; exact x0) (by rfl) (by rfl) (by decide))
set_option maxHeartbeats 4000000 in
set_option maxRecDepth 100000 in
theorem e2_X12_tens (l : Launch) (G : zG) (z : Nat) (τ : Nat → Option (Nat × Nat)) (ρ : Nat → Nat → Option Nat) (ι : Nat → Nat → Int32) (κ : Nat → Nat → Int64) (x y : Int64) (Xn Yn : Nat) (hx : x.toInt = (Xn : Int)) (hy : y.toInt = (Yn : Int)) (x0 : 100 ≤ Xn) (x1 : Xn ≤ 100000) (y0 : 100 ≤ Yn) (y1 : Yn ≤ 9900) : zM l G yX12_tens cX12_tens 9 (some .int) ({ frames := 0, cells := 0, slots := 0, locals := 0 } : Room) [.long x, .long y] (z, τ, ρ, ι, κ) (fun v s => ∃ r, v = some (.int r) ∧ s = (z, τ, ρ, ι, κ) ∧ sl_Tn Xn Yn r.toInt) 0 0 := by
  refine zM_of zCd_X12_tens (Nat.le_of_ble_eq_true rfl) ?_
  intro E X hR hE
  subst hE
  show zW E G 9 (z, τ, ρ, ι, κ) 0 0 0 [(0, .long x), (2, .long y)] []
  have L33 : ∀ (m : Nat) (v w : Int64) (n : Int32), (2000000 - w.toInt).toNat < m → ((v.toInt = Xn ∧ (Yn : Int) ≤ Xn ∧ ((w.toInt = Yn ∧ n.toInt = 1000) ∨ (w.toInt = 10 * Yn ∧ n.toInt = 1001 ∧ (Yn : Int) < Xn) ∨ (w.toInt = 100 * Yn ∧ n.toInt = 1002 ∧ 10 * (Yn : Int) < Xn) ∨ (w.toInt = 1000 * Yn ∧ n.toInt = 1003 ∧ 100 * (Yn : Int) < Xn))) ∨ (v.toInt = 10 * Xn ∧ (Xn : Int) < Yn ∧ (Yn : Int) ≤ 10 * Xn ∧ ((w.toInt = Yn ∧ n.toInt = 999) ∨ (w.toInt = 10 * Yn ∧ n.toInt = 1000 ∧ (Yn : Int) < 10 * Xn))) ∨ (v.toInt = 100 * Xn ∧ 10 * (Xn : Int) < Yn ∧ ((w.toInt = Yn ∧ n.toInt = 998) ∨ (w.toInt = 10 * Yn ∧ n.toInt = 999 ∧ (Yn : Int) < 100 * Xn)))) → zW E G 9 (z, τ, ρ, ι, κ) 0 0 33 [(0, .long x), (2, .long y), (4, .long v), (6, .long w), (8, .int n)] [] := by
    intro m
    induction m with
    | zero => intro v w n h; omega
    | succ m ih => ?_
    intro v w n hm h
    refine r_lload X (by rfl) dX12_tens_33 ?_
    refine r_lload X (by rfl) dX12_tens_35 ?_
    refine r_lcmp_le X 55 dX12_tens_37 dX12_tens_38 (by decide) (fun h37 => ?_) (fun h37 => ?_)
    · refine r_lload X (by rfl) dX12_tens_55 ?_
      refine r_lload X (by rfl) dX12_tens_57 ?_
      refine r_lcmp_ne X 68 dX12_tens_59 dX12_tens_60 (by decide) (fun h59 => ?_) (fun h59 => ?_)
      · refine r_iconst X 0 (by decide) dX12_tens_68 ?_
        refine r_ireturn X hR dX12_tens_69 rfl (Nat.zero_le _) (Nat.zero_le _) ?_
        exact ⟨_, rfl, rfl, sl_st3 x0 x1 y0 y1 h (by omega) (Or.inr ⟨fun q => h59 q, rfl⟩)⟩
      · refine r_iload X (by rfl) dX12_tens_63 ?_
        refine r_goto X 69 dX12_tens_65 (by decide) ?_
        refine r_ireturn X hR dX12_tens_69 rfl (Nat.zero_le _) (Nat.zero_le _) ?_
        exact ⟨_, rfl, rfl, sl_st3 x0 x1 y0 y1 h (by omega) (Or.inl ⟨by omega, rfl⟩)⟩
    · have e10 : (w * 10).toInt = 10 * w.toInt := by rw [zmulJ (x := w) (y := 10) (by rw [show (10 : Int64).toInt = 10 from rfl]; omega) (by rw [show (10 : Int64).toInt = 10 from rfl]; omega), show (10 : Int64).toInt = 10 from rfl]; omega
      refine r_lload X (by rfl) dX12_tens_41 ?_
      refine r_ldc2 X zK_X12_124 dX12_tens_43 ?_
      refine r_lmul X dX12_tens_46 ?_
      refine r_lstore X (by decide) dX12_tens_47 ?_
      refine r_iinc X 1 (by decide) (by rfl) (by decide) dX12_tens_49 ?_
      refine r_goto X 33 dX12_tens_52 (by decide) ?_
      exact zW.loc5 (by rfl) (by rfl) (by rfl) (by rfl) (by rfl) (ih _ _ _ (by omega) (sl_st2 x0 x1 y0 y1 h h37 e10 (zinc (x := n) (by omega))))
  have L11 : ∀ (m : Nat) (v : Int64) (n : Int32), (2000000 - v.toInt).toNat < m → ((v.toInt = Xn ∧ n.toInt = 1000) ∨ (v.toInt = 10 * Xn ∧ n.toInt = 999 ∧ (Xn : Int) < Yn) ∨ (v.toInt = 100 * Xn ∧ n.toInt = 998 ∧ 10 * (Xn : Int) < Yn)) → zW E G 9 (z, τ, ρ, ι, κ) 0 0 11 [(0, .long x), (2, .long y), (4, .long v), (6, .long y), (8, .int n)] [] := by
    intro m
    induction m with
    | zero => intro v n h; omega
    | succ m ih => ?_
    intro v n hm h
    refine r_lload X (by rfl) dX12_tens_11 ?_
    refine r_lload X (by rfl) dX12_tens_13 ?_
    refine r_lcmp_ge X 33 dX12_tens_15 dX12_tens_16 (by decide) (fun h15 => ?_) (fun h15 => ?_)
    · exact zW.loc5 (by rfl) (by rfl) (by rfl) (by rfl) (by rfl) (L33 2000001 _ _ _ (by omega) (sl_st12 x0 x1 y0 y1 h (by omega) hy))
    · have e10 : (v * 10).toInt = 10 * v.toInt := by rw [zmulJ (x := v) (y := 10) (by rw [show (10 : Int64).toInt = 10 from rfl]; omega) (by rw [show (10 : Int64).toInt = 10 from rfl]; omega), show (10 : Int64).toInt = 10 from rfl]; omega
      refine r_lload X (by rfl) dX12_tens_19 ?_
      refine r_ldc2 X zK_X12_124 dX12_tens_21 ?_
      refine r_lmul X dX12_tens_24 ?_
      refine r_lstore X (by decide) dX12_tens_25 ?_
      refine r_iinc X (-1) (by decide) (by rfl) (by decide) dX12_tens_27 ?_
      refine r_goto X 11 dX12_tens_30 (by decide) ?_
      exact zW.loc5 (by rfl) (by rfl) (by rfl) (by rfl) (by rfl) (ih _ _ (by omega) (sl_st1 x0 x1 y0 y1 h (by omega) e10 (zadd_c (x := n) (-1) (-1) rfl (by omega) (by omega))))
  refine r_lload_n X (by rfl) dX12_tens_0 ?_
  refine r_lstore X (by decide) dX12_tens_1 ?_
  refine r_lload_n X (by rfl) dX12_tens_3 ?_
  refine r_lstore X (by decide) dX12_tens_4 ?_
  refine r_sipush X 1000 (by decide) dX12_tens_6 ?_
  refine r_istore X (by decide) dX12_tens_9 ?_
  exact zW.loc5 (by rfl) (by rfl) (by rfl) (by rfl) (by rfl) (L11 2000001 _ _ (by omega) (Or.inl ⟨hx, rfl⟩))
set_option maxHeartbeats 4000000 in
set_option maxRecDepth 100000 in
theorem e2_X12_nearestOf (l : Launch) (G : zG) (z : Nat) (τ : Nat → Option (Nat × Nat)) (ρ : Nat → Nat → Option Nat) (ι : Nat → Nat → Int32) (κ : Nat → Nat → Int64) {a M : Nat} (ha : τ a = some (12, M)) {te sh : Nat} (g17 : ρ a 17 = some te) (g18 : ρ a 18 = some sh) (hte : τ te = some (14, 6)) (hsh : τ sh = some (14, 6)) (dts : te ≠ sh) {tw : Nat} (g15 : ρ a 15 = some tw) (htw : τ tw = some (1002, 6)) {tn on ot le ri : Nat} (g16 : ρ a 16 = some tn) (g19 : ρ a 19 = some on) (g20 : ρ a 20 = some ot) (g21 : ρ a 21 = some le) (g22 : ρ a 22 = some ri) (htn : τ tn = some (1003, 6)) (hon : τ on = some (14, 6)) (hot : τ ot = some (14, 6)) (hle : τ le = some (14, 6)) (hri : τ ri = some (14, 6)) (don : te ≠ on) (dso : sh ≠ on) (dot : te ≠ ot) (dso2 : sh ≠ ot) (dle : on ≠ le) (dri : tn ≠ ri) (n5 : on ≠ ot) (n11 : le ≠ ot) (n12 : le ≠ ri) (n13 : on ≠ ri) (n14 : ot ≠ ri) (x y : Int64) (u : Int32) (Xn g : Nat) (hXx : x.toInt = (Xn : Int)) (hgy : y.toInt = ((10 * g : Nat) : Int)) (x0 : 100 ≤ Xn) (x1 : Xn ≤ 100000) (g0 : 10 ≤ g) (g1 : g ≤ 990) (u0 : 1 ≤ u.toInt) (u1 : u.toInt ≤ 3) (hL : 100 ≤ (ι a 0).toInt ∧ (ι a 0).toInt ≤ 50000) : zM l G yX12_nearestOf cX12_nearestOf 13 (some .int) ({ frames := 3, cells := 0, slots := 0, locals := 87 } : Room) [.ref a, .long x, .long y, .int u] (z, τ, ρ, ι, κ) (fun v s => ∃ r κ2, v = some (.int r) ∧ s = (z, τ, ρ, ι, κ2) ∧ r.toInt = zPzN Xn g u.toInt (ι a 0).toInt) 0 0 := by
  refine zM_of zCd_X12_nearestOf (Nat.le_of_ble_eq_true rfl) ?_
  intro E X hR hE
  subst hE
  show zW E G 13 (z, τ, ρ, ι, κ) 0 0 0 [(0, .ref a), (1, .long x), (3, .long y), (5, .int u)] []
  have hu3 : u.toInt = 1 ∨ u.toInt = 2 ∨ u.toInt = 3 := by omega
  have eu : u.toInt64.toInt = u.toInt := Int32.toInt_toInt64 u
  obtain ⟨XM, YM, eXM, eYM, mm1, mm2, mm3, mm4, mm5, mm6⟩ := sl_M_mm (v := Xn) (w := 10 * g) x0 x1 (by omega) (by omega)
  have L73 : ∀ (hne : Xn ≠ 10 * g ∧ Xn ≠ 10 * (10 * g) ∧ Xn ≠ 100 * (10 * g) ∧ Xn ≠ 1000 * (10 * g) ∧ 10 * g ≠ 10 * Xn) (r : Int32) (m : Nat) (p q : Int64) (κ1 : Nat → Nat → Int64), (q.toInt - p.toInt).toNat < m → -400000 ≤ p.toInt → p.toInt ≤ q.toInt → q.toInt ≤ 400000 → (∀ q, q ≠ te → q ≠ sh → q ≠ on → q ≠ ot → q ≠ le → q ≠ ri → κ1 q = κ q) → zNo9 (κ1 on) → qR (κ1 on) 6 = XM → zNo9 (κ1 ot) → qR (κ1 ot) 6 = YM → zTenI * ((2 * p.toInt - 1) * u.toInt) ≤ (XM - YM) * (2 * (ι a 0).toInt) → (XM - YM) * (2 * (ι a 0).toInt) < zTenI * ((2 * q.toInt + 1) * u.toInt) → zW E G 13 (z, τ, ρ, ι, κ1) 0 0 73 [(0, .ref a), (1, .long x), (3, .long y), (5, .int u), (6, .int r), (7, .long p), (9, .long q)] [] := by
    intro hne r m
    induction m with
    | zero => intro p q κ1 h; omega
    | succ m ih => ?_
    intro p q κ1 hm h0 h1 h2 hfr on9 von ot9 vot hlo hhi
    have e2L : ((2 : Int64) * (ι a 0).toInt64).toInt = 2 * (ι a 0).toInt := by rw [zmulJ (x := 2) (y := (ι a 0).toInt64) (by rw [Int32.toInt_toInt64, show (2 : Int64).toInt = 2 from rfl]; omega) (by rw [Int32.toInt_toInt64, show (2 : Int64).toInt = 2 from rfl]; omega), Int32.toInt_toInt64]; rfl
    refine r_lload X (by rfl) dX12_nearestOf_73 ?_
    refine r_lload X (by rfl) dX12_nearestOf_75 ?_
    refine r_lcmp_ge X 194 dX12_nearestOf_77 dX12_nearestOf_78 (by decide) (fun h77 => ?_) (fun h77 => ?_)
    · refine r_lload X (by rfl) dX12_nearestOf_194 ?_
      refine r_l2i X dX12_nearestOf_196 ?_
      refine r_ireturn X hR dX12_nearestOf_197 rfl (Nat.zero_le _) (Nat.zero_le _) ?_
      have hpq : q.toInt = p.toInt := by omega
      rw [hpq] at hhi
      have er : p.toInt32.toInt = p.toInt := by rw [Int64.toInt_toInt32, Int.bmod_eq_of_le (by omega) (by omega)]
      exact ⟨_, _, rfl, rfl, by rw [er]; exact sl_near x0 x1 g0 g1 u0 u1 hL.1 hL.2 hne (by rw [eXM, eYM]; exact hlo) (by rw [eXM, eYM]; exact hhi)⟩
    · have hd := zhalfD h0 h2 h77
      refine r_lload X (by rfl) dX12_nearestOf_81 ?_
      refine r_lload X (by rfl) dX12_nearestOf_83 ?_
      refine r_ladd X dX12_nearestOf_85 ?_
      refine r_lconst X 1 (by decide) dX12_nearestOf_86 ?_
      refine r_ladd X dX12_nearestOf_87 ?_
      refine r_ldc2 X zK_X12_89 dX12_nearestOf_88 ?_
      refine r_callS X dX12_nearestOf_91 zLS_X12_130 zCd_X12_down (c_X12_down _ G z τ ρ _ _ _ _ (by decide)) rfl rfl ⟨⟨rfl, rfl⟩, ⟨by decide, by decide⟩, ⟨Nat.le_of_ble_eq_true rfl, Nat.le_of_ble_eq_true rfl⟩, Nat.le_of_ble_eq_true rfl⟩ ?_
      rintro _ _ ⟨rfl, rfl⟩
      obtain ⟨k, hk⟩ : ∃ k, zDown (p + q + 1) 2 = k := ⟨_, rfl⟩
      rw [hk] at hd ⊢
      refine r_lstore X (by decide) dX12_nearestOf_94 ?_
      have es : (k - 1).toInt = k.toInt - 1 := by rw [zsubJ (x := k) (y := 1) (by rw [show (1 : Int64).toInt = 1 from rfl]; omega) (by rw [show (1 : Int64).toInt = 1 from rfl]; omega)]; rfl
      have ek2 : ((2 : Int64) * k).toInt = 2 * k.toInt := by rw [zmulJ (x := 2) (y := k) (by rw [show (2 : Int64).toInt = 2 from rfl]; omega) (by rw [show (2 : Int64).toInt = 2 from rfl]; omega)]; rfl
      have ekm : ((2 : Int64) * k - 1).toInt = 2 * k.toInt - 1 := by rw [zsubJ (x := 2 * k) (y := 1) (by rw [ek2, show (1 : Int64).toInt = 1 from rfl]; omega) (by rw [ek2, show (1 : Int64).toInt = 1 from rfl]; omega), ek2]; rfl
      have ekk : (((2 : Int64) * k - 1) * u.toInt64).toInt = (2 * k.toInt - 1) * u.toInt := by
        have b9 : -2400003 ≤ (2 * k.toInt - 1) * u.toInt ∧ (2 * k.toInt - 1) * u.toInt ≤ 2400003 := by rcases hu3 with q9 | q9 | q9 <;> rw [q9] <;> omega
        rw [zmulJ (by rw [ekm, eu]; omega) (by rw [ekm, eu]; omega), ekm, eu]
      refine r_aload_n X (by rfl) dX12_nearestOf_96 ?_
      refine r_getR X dX12_nearestOf_97 zF_X12_61 ha g19 ?_
      refine r_aload_n X (by rfl) dX12_nearestOf_100 ?_
      refine r_getR X dX12_nearestOf_101 zF_X12_67 ha g21 ?_
      refine r_callS X dX12_nearestOf_104 zLS_X12_118 zCd_X12_copies (c_X12_copies _ G z τ ρ _ _ hon hle dle) rfl rfl ⟨⟨rfl, rfl⟩, ⟨by decide, by decide⟩, ⟨Nat.le_of_ble_eq_true rfl, Nat.le_of_ble_eq_true rfl⟩, Nat.le_of_ble_eq_true rfl⟩ ?_
      rintro _ _ ⟨rfl, k3, rfl, f3, c3⟩
      have v3 : qR (k3 le) 6 = XM := by rw [qR_congr (g := κ1 on) c3]; exact von
      have h3 : zNo9 (k3 le) := fun j j1 j6 => by rw [c3 j j6]; exact on9 j j1 j6
      refine r_aload_n X (by rfl) dX12_nearestOf_107 ?_
      refine r_getR X dX12_nearestOf_108 zF_X12_67 ha g21 ?_
      refine r_aload_n X (by rfl) dX12_nearestOf_111 ?_
      refine r_getR X dX12_nearestOf_112 zF_X12_64 ha g20 ?_
      refine r_callS X dX12_nearestOf_115 zLS_X12_142 zCd_X12_takes (e_X12_takes _ G z τ ρ _ _ hle hot n11 h3 (by rw [f3 ot (Ne.symm n11)]; exact ot9) (zr0b h3 (by rw [v3]; omega)) (by rw [f3 ot (Ne.symm n11)]; exact zr0b ot9 (by rw [vot]; omega))) rfl rfl ⟨⟨rfl, rfl⟩, ⟨by decide, by decide⟩, ⟨Nat.le_of_ble_eq_true rfl, Nat.le_of_ble_eq_true rfl⟩, Nat.le_of_ble_eq_true rfl⟩ ?_
      rintro _ _ ⟨rfl, k4, rfl, f4, h4, v4⟩
      rw [f3 ot (Ne.symm n11), v3, vot] at v4
      refine r_aload_n X (by rfl) dX12_nearestOf_118 ?_
      refine r_getR X dX12_nearestOf_119 zF_X12_67 ha g21 ?_
      refine r_ldc2 X zK_X12_89 dX12_nearestOf_122 ?_
      refine r_aload_n X (by rfl) dX12_nearestOf_125 ?_
      refine r_getI X dX12_nearestOf_126 zF_X12_7 ha ?_
      refine r_i2l X dX12_nearestOf_129 ?_
      refine r_lmul X dX12_nearestOf_130 ?_
      refine r_callS X dX12_nearestOf_131 zLS_X12_121 zCd_X12_times (e2_X12_times _ G z τ ρ _ _ hle _ (by rw [e2L]; omega) (by rw [e2L]; omega) h4 (zr0t h4 (by rw [v4]; omega))) rfl rfl ⟨⟨rfl, rfl⟩, ⟨by decide, by decide⟩, ⟨Nat.le_of_ble_eq_true rfl, Nat.le_of_ble_eq_true rfl⟩, Nat.le_of_ble_eq_true rfl⟩ ?_
      rintro _ _ ⟨rfl, k5, rfl, f5, h5, -, v5⟩
      rw [v4, e2L] at v5
      refine r_aload_n X (by rfl) dX12_nearestOf_134 ?_
      refine r_getR X dX12_nearestOf_135 zF_X12_52 ha g16 ?_
      refine r_aload_n X (by rfl) dX12_nearestOf_138 ?_
      refine r_getR X dX12_nearestOf_139 zF_X12_70 ha g22 ?_
      refine r_callS X dX12_nearestOf_142 zLS_X12_118 zCd_X12_copies (c_X12_copiesF _ G z τ ρ _ _ htn hri) rfl rfl ⟨⟨rfl, rfl⟩, ⟨by decide, by decide⟩, ⟨Nat.le_of_ble_eq_true rfl, Nat.le_of_ble_eq_true rfl⟩, Nat.le_of_ble_eq_true rfl⟩ ?_
      rintro _ _ ⟨rfl, k6, rfl, f6, c6⟩
      have v6 : qR (k6 ri) 6 = zTenI := by rw [qR_congr (g := zFz 3) c6]; exact zF3_v
      have h6 : zNo9 (k6 ri) := fun j j1 j6 => by rw [c6 j j6]; exact zF3_9 j j1 j6
      refine r_aload_n X (by rfl) dX12_nearestOf_145 ?_
      refine r_getR X dX12_nearestOf_146 zF_X12_70 ha g22 ?_
      refine r_ldc2 X zK_X12_89 dX12_nearestOf_149 ?_
      refine r_lload X (by rfl) dX12_nearestOf_152 ?_
      refine r_lmul X dX12_nearestOf_154 ?_
      refine r_lconst X 1 (by decide) dX12_nearestOf_155 ?_
      refine r_lsub X dX12_nearestOf_156 ?_
      refine r_iload X (by rfl) dX12_nearestOf_157 ?_
      refine r_i2l X dX12_nearestOf_159 ?_
      refine r_lmul X dX12_nearestOf_160 ?_
      refine r_callS X dX12_nearestOf_161 zLS_X12_121 zCd_X12_times (e2_X12_times _ G z τ ρ _ _ hri _ (by rw [ekk]; rcases hu3 with q9 | q9 | q9 <;> rw [q9] <;> omega) (by rw [ekk]; rcases hu3 with q9 | q9 | q9 <;> rw [q9] <;> omega) h6 (zr0s h6 (by rw [v6]; decide))) rfl rfl ⟨⟨rfl, rfl⟩, ⟨by decide, by decide⟩, ⟨Nat.le_of_ble_eq_true rfl, Nat.le_of_ble_eq_true rfl⟩, Nat.le_of_ble_eq_true rfl⟩ ?_
      rintro _ _ ⟨rfl, k7, rfl, f7, h7, -, v7⟩
      rw [v6, ekk] at v7
      refine r_aload_n X (by rfl) dX12_nearestOf_164 ?_
      refine r_getR X dX12_nearestOf_165 zF_X12_67 ha g21 ?_
      refine r_aload_n X (by rfl) dX12_nearestOf_168 ?_
      refine r_getR X dX12_nearestOf_169 zF_X12_70 ha g22 ?_
      refine r_callS X dX12_nearestOf_172 zLS_X12_145 zCd_X12_isLess (e_X12_isLess _ G z τ ρ _ _ hle hri (by rw [f7 le n12, f6 le n12]; exact h5) h7) rfl rfl ⟨⟨rfl, rfl⟩, ⟨by decide, by decide⟩, ⟨Nat.le_of_ble_eq_true rfl, Nat.le_of_ble_eq_true rfl⟩, Nat.le_of_ble_eq_true rfl⟩ ?_
      rintro _ _ ⟨r2, rfl, rfl, hr2⟩
      rw [f7 le n12, f6 le n12, v5, v7] at hr2
      have hfr8 : (∀ q, q ≠ te → q ≠ sh → q ≠ on → q ≠ ot → q ≠ le → q ≠ ri → k7 q = κ q) := fun q0 q1 q2 q3 q4 q5 q6 => by rw [f7 q0 q6, f6 q0 q6, f5 q0 q5, f4 q0 q5, f3 q0 q5]; exact hfr q0 q1 q2 q3 q4 q5 q6
      have eon : k7 on = κ1 on := by rw [f7 on n13, f6 on n13, f5 on dle, f4 on dle, f3 on dle]
      have eot : k7 ot = κ1 ot := by rw [f7 ot n14, f6 ot n14, f5 ot (Ne.symm n11), f4 ot (Ne.symm n11), f3 ot (Ne.symm n11)]
      refine r_if_eq X 187 dX12_nearestOf_175 (by decide) (fun h175 => ?_) (fun h175 => ?_)
      · have hlo2 : zTenI * ((2 * k.toInt - 1) * u.toInt) ≤ (XM - YM) * (2 * (ι a 0).toInt) := by
          rcases hr2 with ⟨h, -⟩ | ⟨-, h⟩
          · rw [h] at h175; exact absurd h175 (by decide)
          · exact h
        refine r_lload X (by rfl) dX12_nearestOf_187 ?_
        refine r_lstore X (by decide) dX12_nearestOf_189 ?_
        refine r_goto X 73 dX12_nearestOf_191 (by decide) ?_
        exact zW.loc7 (by rfl) (by rfl) (by rfl) (by rfl) (by rfl) (by rfl) (by rfl) (ih _ _ _ (by omega) (by omega) (by omega) (by omega) hfr8 (by rw [eon]; exact on9) (by rw [eon]; exact von) (by rw [eot]; exact ot9) (by rw [eot]; exact vot) (by first | exact hlo | exact hlo2) (by first | exact hhi | exact hhi2))
      · have hhi2 : (XM - YM) * (2 * (ι a 0).toInt) < zTenI * ((2 * (k - 1).toInt + 1) * u.toInt) := by
          rcases hr2 with ⟨-, h⟩ | ⟨h, -⟩
          · rw [es, show 2 * (k.toInt - 1) + 1 = 2 * k.toInt - 1 by omega]; exact h
          · exact absurd h h175
        refine r_lload X (by rfl) dX12_nearestOf_178 ?_
        refine r_lconst X 1 (by decide) dX12_nearestOf_180 ?_
        refine r_lsub X dX12_nearestOf_181 ?_
        refine r_lstore X (by decide) dX12_nearestOf_182 ?_
        refine r_goto X 191 dX12_nearestOf_184 (by decide) ?_
        refine r_goto X 73 dX12_nearestOf_191 (by decide) ?_
        exact zW.loc7 (by rfl) (by rfl) (by rfl) (by rfl) (by rfl) (by rfl) (by rfl) (ih _ _ _ (by omega) (by omega) (by omega) (by omega) hfr8 (by rw [eon]; exact on9) (by rw [eon]; exact von) (by rw [eot]; exact ot9) (by rw [eot]; exact vot) (by first | exact hlo | exact hlo2) (by first | exact hhi | exact hhi2))
  refine r_lload_n X (by rfl) dX12_nearestOf_0 ?_
  refine r_lload_n X (by rfl) dX12_nearestOf_1 ?_
  refine r_callS X dX12_nearestOf_2 zLS_X12_126 zCd_X12_tens (e2_X12_tens _ G z τ ρ _ _ _ _ Xn (10 * g) hXx hgy x0 x1 (by omega) (by omega)) rfl rfl ⟨⟨rfl, rfl⟩, ⟨by decide, by decide⟩, ⟨Nat.le_of_ble_eq_true rfl, Nat.le_of_ble_eq_true rfl⟩, Nat.le_of_ble_eq_true rfl⟩ ?_
  rintro _ _ ⟨pw, rfl, rfl, hTn⟩
  refine r_istore X (by decide) dX12_nearestOf_5 ?_
  refine r_iload X (by rfl) dX12_nearestOf_7 ?_
  refine r_if_le X 45 dX12_nearestOf_9 (by decide) (fun h9 => ?_) (fun h9 => ?_)
  · have hne := sl_Tn_n hTn (by omega)
    refine r_aload_n X (by rfl) dX12_nearestOf_45 ?_
    refine r_lload_n X (by rfl) dX12_nearestOf_46 ?_
    refine r_aload_n X (by rfl) dX12_nearestOf_47 ?_
    refine r_getR X dX12_nearestOf_48 zF_X12_61 ha g19 ?_
    refine r_callV X dX12_nearestOf_51 zLV_X12_134 zCd_X12_logOf (e2_X12_logOf _ G z τ ρ _ _ ha g17 g18 hte hsh dts g15 htw hon don dso _ (by omega) (by omega) Xn hXx) ha ⟨by decide, rfl, rfl⟩ rfl rfl ⟨⟨rfl, rfl⟩, ⟨by decide, by decide⟩, ⟨Nat.le_of_ble_eq_true rfl, Nat.le_of_ble_eq_true rfl⟩, Nat.le_of_ble_eq_true rfl⟩ ?_
    rintro _ _ ⟨rfl, k1, rfl, f1, p9, hX1⟩
    rw [eXM] at hX1
    refine r_aload_n X (by rfl) dX12_nearestOf_54 ?_
    refine r_lload_n X (by rfl) dX12_nearestOf_55 ?_
    refine r_aload_n X (by rfl) dX12_nearestOf_56 ?_
    refine r_getR X dX12_nearestOf_57 zF_X12_64 ha g20 ?_
    refine r_callV X dX12_nearestOf_60 zLV_X12_134 zCd_X12_logOf (e2_X12_logOf _ G z τ ρ _ _ ha g17 g18 hte hsh dts g15 htw hot dot dso2 _ (by omega) (by omega) (10 * g) hgy) ha ⟨by decide, rfl, rfl⟩ rfl rfl ⟨⟨rfl, rfl⟩, ⟨by decide, by decide⟩, ⟨Nat.le_of_ble_eq_true rfl, Nat.le_of_ble_eq_true rfl⟩, Nat.le_of_ble_eq_true rfl⟩ ?_
    rintro _ _ ⟨rfl, k2, rfl, f2, q9, hX2⟩
    rw [eYM] at hX2
    refine r_ldc2 X zK_X12_138 dX12_nearestOf_63 ?_
    refine r_lstore X (by decide) dX12_nearestOf_66 ?_
    refine r_ldc2 X zK_X12_140 dX12_nearestOf_68 ?_
    refine r_lstore X (by decide) dX12_nearestOf_71 ?_
    exact zW.loc7 (by rfl) (by rfl) (by rfl) (by rfl) (by rfl) (by rfl) (by rfl) (L73 hne _ 800001 _ _ _ (by decide) (by decide) (by decide) (by decide) (fun q q1 q2 q3 q4 q5 q6 => by rw [f2 q q1 q2 q4, f1 q q1 q2 q3]) (by rw [f2 on (Ne.symm don) (Ne.symm dso) n5]; exact p9) (by rw [f2 on (Ne.symm don) (Ne.symm dso) n5]; exact hX1) q9 hX2 (sl_lo0 mm1 hL.1 hL.2 hu3) (sl_hi0 mm2 hL.1 hL.2 hu3))
  · obtain ⟨kt, ek, kt0, kt1, eD⟩ := sl_Tn_p x0 x1 (by omega) (by omega) hTn (by omega)
    refine r_ldc2 X zK_X12_89 dX12_nearestOf_12 ?_
    refine r_aload_n X (by rfl) dX12_nearestOf_15 ?_
    refine r_getI X dX12_nearestOf_16 zF_X12_7 ha ?_
    refine r_i2l X dX12_nearestOf_19 ?_
    refine r_lmul X dX12_nearestOf_20 ?_
    refine r_iload X (by rfl) dX12_nearestOf_21 ?_
    refine r_sipush X 1000 (by decide) dX12_nearestOf_23 ?_
    refine r_isub X dX12_nearestOf_26 ?_
    refine r_i2l X dX12_nearestOf_27 ?_
    refine r_lmul X dX12_nearestOf_28 ?_
    refine r_iload X (by rfl) dX12_nearestOf_29 ?_
    refine r_i2l X dX12_nearestOf_31 ?_
    refine r_ladd X dX12_nearestOf_32 ?_
    refine r_ldc2 X zK_X12_89 dX12_nearestOf_33 ?_
    refine r_iload X (by rfl) dX12_nearestOf_36 ?_
    refine r_i2l X dX12_nearestOf_38 ?_
    refine r_lmul X dX12_nearestOf_39 ?_
    refine r_callS X dX12_nearestOf_40 zLS_X12_130 zCd_X12_down (c_X12_down _ G z τ ρ _ _ _ _ (z2l u0)) rfl rfl ⟨⟨rfl, rfl⟩, ⟨by decide, by decide⟩, ⟨Nat.le_of_ble_eq_true rfl, Nat.le_of_ble_eq_true rfl⟩, Nat.le_of_ble_eq_true rfl⟩ ?_
    rintro _ _ ⟨rfl, rfl⟩
    refine r_l2i X dX12_nearestOf_43 ?_
    refine r_ireturn X hR dX12_nearestOf_44 rfl (Nat.zero_le _) (Nat.zero_le _) ?_
    refine ⟨_, _, rfl, rfl, ?_⟩
    exact sl_pwr hL.1 hL.2 hu3 ek kt0 kt1 eD
