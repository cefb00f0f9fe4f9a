/-! a chain's places and products (wip/gen16/spec_o.py) -/
def zT1 : Nat → Int
  | 0 => 1
  | n + 1 => 10 * zT1 n
theorem zT1_p (n : Nat) : 0 < zT1 n := by
  induction n with
  | zero => decide
  | succ n ih => rw [zT1]; omega
theorem zT1_a (a b : Nat) : zT1 (a + b) = zT1 a * zT1 b := by
  induction b with
  | zero => exact (Int.mul_one _).symm
  | succ b ih =>
    show 10 * zT1 (a + b) = zT1 a * (10 * zT1 b)
    rw [ih, Int.mul_left_comm]
/-- the first three figures of P -/
def zTh (r : Int32) (P : Int) : Prop := (100 ≤ r.toInt ∧ r.toInt ≤ 999) ∧ ∃ j k : Nat, r.toInt * zT1 k ≤ P * zT1 j ∧ P * zT1 j < (r.toInt + 1) * zT1 k
theorem zth1 {r s P : Int} {j k j' k' : Nat} (h1 : r * zT1 k ≤ P * zT1 j) (h2 : P * zT1 j' < (s + 1) * zT1 k') : r * zT1 (k + j') < (s + 1) * zT1 (k' + j) := by
  rw [zT1_a, zT1_a, ← Int.mul_assoc, ← Int.mul_assoc]
  have e1 : r * zT1 k * zT1 j' ≤ P * zT1 j * zT1 j' := Int.mul_le_mul_of_nonneg_right h1 (Int.le_of_lt (zT1_p j'))
  have e2 : P * zT1 j' * zT1 j < (s + 1) * zT1 k' * zT1 j := Int.mul_lt_mul_of_pos_right h2 (zT1_p j)
  rw [Int.mul_right_comm P (zT1 j) (zT1 j')] at e1
  exact Int.lt_of_le_of_lt e1 e2
theorem zth2 {r s : Int} {A B : Nat} (r0 : 100 ≤ r) (r9 : r ≤ 999) (s0 : 100 ≤ s) (s9 : s ≤ 999) (h1 : r * zT1 A < (s + 1) * zT1 B) (h2 : s * zT1 B < (r + 1) * zT1 A) : ¬ A < B := fun h => by
  have hp := zT1_p A
  have e2 : 10 * zT1 A ≤ zT1 B := by
    have hp2 := zT1_p (B - A - 1)
    have e : zT1 B = 10 * zT1 (B - A - 1) * zT1 A := by
      rw [show 10 * zT1 (B - A - 1) = zT1 (B - A - 1 + 1) from rfl, ← zT1_a, show B - A - 1 + 1 + A = B by omega]
    rw [e]
    exact Int.mul_le_mul_of_nonneg_right (by omega) (by omega)
  generalize zT1 A = a at *
  generalize zT1 B = b at *
  have e3 : 100 * b ≤ s * b := Int.mul_le_mul_of_nonneg_right s0 (by omega)
  have e4 : (r + 1) * a ≤ 1000 * a := Int.mul_le_mul_of_nonneg_right (by omega) (by omega)
  omega
theorem zTh_u {r s : Int32} {P : Int} (h1 : zTh r P) (h2 : zTh s P) : r = s := by
  obtain ⟨⟨a1, a2⟩, j, k, a3, a4⟩ := h1
  obtain ⟨⟨b1, b2⟩, j', k', b3, b4⟩ := h2
  have c1 := zth1 a3 b4
  have c2 := zth1 b3 a4
  have d1 := zth2 a1 a2 b1 b2 c1 c2
  have d2 := zth2 b1 b2 a1 a2 c2 c1
  have e : k + j' = k' + j := by omega
  rw [e] at c1 c2
  have f1 := Int.lt_of_mul_lt_mul_right c1 (Int.le_of_lt (zT1_p _))
  have f2 := Int.lt_of_mul_lt_mul_right c2 (Int.le_of_lt (zT1_p _))
  exact Int32.toInt_inj.mp (by omega)
theorem zth3 {y x : Int} {k : Nat} (h : y * zT1 k ≤ x ∧ x < (y + 1) * zT1 k) : y / 10 * zT1 (k + 1) ≤ x ∧ x < (y / 10 + 1) * zT1 (k + 1) := by
  have hp := zT1_p k
  have e : zT1 (k + 1) = 10 * zT1 k := rfl
  have e1 : y / 10 * zT1 (k + 1) ≤ y * zT1 k := by
    rw [e, ← Int.mul_assoc]
    exact Int.mul_le_mul_of_nonneg_right (by omega) (by omega)
  have e2 : (y + 1) * zT1 k ≤ (y / 10 + 1) * zT1 (k + 1) := by
    rw [e, ← Int.mul_assoc]
    exact Int.mul_le_mul_of_nonneg_right (by omega) (by omega)
  exact ⟨Int.le_trans e1 h.1, Int.lt_of_lt_of_le h.2 e2⟩
theorem zth4 {r V P : Int} {k q : Nat} (h : r * zT1 k ≤ V ∧ V < (r + 1) * zT1 k) (g : V * zT1 q ≤ P ∧ P < (V + 1) * zT1 q) : r * zT1 (k + q) ≤ P ∧ P < (r + 1) * zT1 (k + q) := by
  have hp := Int.le_of_lt (zT1_p q)
  have e1 : r * zT1 k * zT1 q ≤ V * zT1 q := Int.mul_le_mul_of_nonneg_right h.1 hp
  have e2 : (V + 1) * zT1 q ≤ (r + 1) * zT1 k * zT1 q := Int.mul_le_mul_of_nonneg_right (by omega) hp
  rw [zT1_a, ← Int.mul_assoc, ← Int.mul_assoc]
  exact ⟨Int.le_trans e1 g.1, Int.lt_of_lt_of_le g.2 e2⟩
theorem zTh_of {r : Int32} {P : Int} {k : Nat} (j : Nat) (hr : 100 ≤ r.toInt ∧ r.toInt ≤ 999) (h : r.toInt * zT1 k ≤ P * zT1 j ∧ P * zT1 j < (r.toInt + 1) * zT1 k) : zTh r P := ⟨hr, j, k, h⟩
theorem zTh_0 {r : Int32} {P : Int} {k : Nat} (hr : 100 ≤ r.toInt ∧ r.toInt ≤ 999) (h : r.toInt * zT1 k ≤ P ∧ P < (r.toInt + 1) * zT1 k) : zTh r P := ⟨hr, 0, k, by rw [show zT1 0 = 1 from rfl, Int.mul_one]; exact h⟩
/-- the product of the first n factors -/
def zPr (g : Nat → Int32) : Nat → Int
  | 0 => 1
  | n + 1 => (g n).toInt * zPr g n
theorem zPr_congr {f g : Nat → Int32} {n : Nat} (h : ∀ k, k < n → f k = g k) : zPr f n = zPr g n := by
  induction n with
  | zero => rfl
  | succ n ih => rw [zPr, zPr, ih (fun k hk => h k (by omega)), h n (by omega)]
def zT4 : Nat → Int
  | 0 => 1
  | n + 1 => 999 * zT4 n
theorem zT4_m {i : Nat} (h : i ≤ 12) : zT4 i < 1000000000000000000000000000000000000 := by
  have hc : i = 0 ∨ i = 1 ∨ i = 2 ∨ i = 3 ∨ i = 4 ∨ i = 5 ∨ i = 6 ∨ i = 7 ∨ i = 8 ∨ i = 9 ∨ i = 10 ∨ i = 11 ∨ i = 12 := by omega
  rcases hc with rfl | rfl | rfl | rfl | rfl | rfl | rfl | rfl | rfl | rfl | rfl | rfl | rfl <;> decide
theorem zPr_b {g : Nat → Int32} {n : Nat} (h : ∀ k, k < n → 100 ≤ (g k).toInt ∧ (g k).toInt ≤ 999) : 1 ≤ zPr g n ∧ zPr g n ≤ zT4 n := by
  induction n with
  | zero => exact ⟨Int.le_refl _, Int.le_refl _⟩
  | succ n ih =>
    have h1 := ih (fun k hk => h k (by omega))
    have h2 := h n (by omega)
    have e1 : 1 * zPr g n ≤ (g n).toInt * zPr g n := Int.mul_le_mul_of_nonneg_right (by omega) (by omega)
    have e2 : (g n).toInt * zPr g n ≤ 999 * zPr g n := Int.mul_le_mul_of_nonneg_right h2.2 (by omega)
    rw [zPr, zT4]
    omega
theorem zPr_h {g : Nat → Int32} {n : Nat} (h : ∀ k, k < n → 100 ≤ (g k).toInt ∧ (g k).toInt ≤ 999) (hn : 1 ≤ n) : 100 ≤ zPr g n := by
  obtain ⟨s, rfl⟩ : ∃ s, n = s + 1 := ⟨n - 1, by omega⟩
  have h1 := (zPr_b (n := s) (fun k hk => h k (by omega))).1
  have h2 := h s (by omega)
  have e1 : 100 * zPr g s ≤ (g s).toInt * zPr g s := Int.mul_le_mul_of_nonneg_right h2.1 (by omega)
  rw [zPr]
  omega
theorem zTh_1 {g : Nat → Int32} : zTh 100 (zPr g 0) := ⟨⟨by decide, by decide⟩, 2, 0, by show (100 : Int) * 1 ≤ 1 * (10 * (10 * 1)); decide, by show (1 : Int) * (10 * (10 * 1)) < (100 + 1) * 1; decide⟩
/-- where n factors come to, and how often it was pulled -/
def zMv (L : Int32) (d : Nat → Int32) : Nat → Int32 × Int32
  | 0 => (0, 0)
  | n + 1 => if ((zMv L d n).1 + d n).toInt < L.toInt then ((zMv L d n).1 + d n, (zMv L d n).2) else ((zMv L d n).1 + d n - L, (zMv L d n).2 + 1)
theorem zMv_congr {L : Int32} {f g : Nat → Int32} {n : Nat} (h : ∀ k, k < n → f k = g k) : zMv L f n = zMv L g n := by
  induction n with
  | zero => rfl
  | succ n ih => rw [zMv, zMv, ih (fun k hk => h k (by omega)), h n (by omega)]
theorem zMv_lt {L : Int32} {d : Nat → Int32} {n : Nat} {p q : Int32} (hp : p = (zMv L d n).1) (hq : q = (zMv L d n).2) (h : (p + d n).toInt < L.toInt) : p + d n = (zMv L d (n + 1)).1 ∧ q = (zMv L d (n + 1)).2 := by
  subst hp; subst hq
  rw [zMv, if_pos h]
  exact ⟨rfl, rfl⟩
theorem zMv_ge {L : Int32} {d : Nat → Int32} {n : Nat} {p q : Int32} (hp : p = (zMv L d n).1) (hq : q = (zMv L d n).2) (h : ¬ (p + d n).toInt < L.toInt) : p + d n - L = (zMv L d (n + 1)).1 ∧ q + 1 = (zMv L d (n + 1)).2 := by
  subst hp; subst hq
  rw [zMv, if_neg h]
  exact ⟨rfl, rfl⟩
theorem zMv_b {L : Int32} {d : Nat → Int32} (hL : 100 ≤ L.toInt ∧ L.toInt ≤ 50000) {n : Nat} (h : ∀ k, k < n → 0 ≤ (d k).toInt ∧ (d k).toInt ≤ L.toInt) : 0 ≤ ((zMv L d n).1).toInt ∧ ((zMv L d n).1).toInt ≤ L.toInt := by
  induction n with
  | zero => exact ⟨by show (0 : Int) ≤ 0; decide, by show (0 : Int) ≤ L.toInt; omega⟩
  | succ n ih =>
    have h1 := ih (fun k hk => h k (by omega))
    have h2 := h n (by omega)
    have e : ((zMv L d n).1 + d n).toInt = ((zMv L d n).1).toInt + (d n).toInt := zaddI (by omega) (by omega)
    by_cases q : ((zMv L d n).1 + d n).toInt < L.toInt
    · rw [zMv, if_pos q]
      show 0 ≤ ((zMv L d n).1 + d n).toInt ∧ ((zMv L d n).1 + d n).toInt ≤ L.toInt
      omega
    · rw [zMv, if_neg q]
      have e2 : ((zMv L d n).1 + d n - L).toInt = ((zMv L d n).1 + d n).toInt - L.toInt := zsubI (by omega) (by omega)
      show 0 ≤ ((zMv L d n).1 + d n - L).toInt ∧ ((zMv L d n).1 + d n - L).toInt ≤ L.toInt
      omega
/-- the places of the factors -/
def zDp (L : Int32) (g : Nat → Int32) : Nat → Int32 := fun k => zPl9 L ((g k).toNatClampNeg - 100)
def zRg (L p r : Int32) : Prop := ∃ n : Nat, r.toInt = 100 + (n : Int) ∧ zNr (fun k => (zPl9 L k).toInt) p.toInt n
theorem zRg_u {L p r s : Int32} (h1 : zRg L p r) (h2 : zRg L p s) : r = s := by
  obtain ⟨n, e1, g1⟩ := h1
  obtain ⟨m, e2, g2⟩ := h2
  have e := zNr_u g1 g2
  exact Int32.toInt_inj.mp (by omega)
theorem zNr_cg {f g : Nat → Int} {p : Int} {n : Nat} (h : ∀ k, k < 900 → f k = g k) (hn : zNr f p n) : zNr g p n := by
  obtain ⟨h1, h2, h3⟩ := hn
  exact ⟨h1, fun k hk => by rw [← h n h1, ← h k hk]; exact h2 k hk, fun k hk => by rw [← h n h1, ← h k (by omega)]; exact h3 k hk⟩
/-- what chain answers -/
def zCH (L : Int32) (g : Nat → Int32) (n : Nat) (x r : Int32) : Prop := (¬ (0 ≤ x.toInt ∧ x.toInt ≤ 4) ∧ r = -2000000000) ∨ (x.toInt = 0 ∧ r = (zMv L (zDp L g) n).1) ∨ (x.toInt = 1 ∧ zRg L (zMv L (zDp L g) n).1 r) ∨ (x.toInt = 2 ∧ zTh r (zPr g n)) ∨ (x.toInt = 3 ∧ ∃ a b, r = a - b ∧ zRg L (zMv L (zDp L g) n).1 a ∧ zTh b (zPr g n)) ∨ (x.toInt = 4 ∧ r = (zMv L (zDp L g) n).2)
theorem zCH_u {L : Int32} {g : Nat → Int32} {n : Nat} {x r s : Int32} (h1 : zCH L g n x r) (h2 : zCH L g n x s) : r = s := by
  rcases h1 with ⟨a, rfl⟩ | ⟨a, rfl⟩ | ⟨a, b⟩ | ⟨a, b⟩ | ⟨a, p, q, rfl, b, d⟩ | ⟨a, rfl⟩ <;> rcases h2 with ⟨a', rfl⟩ | ⟨a', rfl⟩ | ⟨a', b'⟩ | ⟨a', b'⟩ | ⟨a', p', q', rfl, b', d'⟩ | ⟨a', rfl⟩
  all_goals first
    | rfl
    | exact zRg_u b b'
    | exact zTh_u b b'
    | (rw [zRg_u b b', zTh_u d d'])
    | (exfalso; omega)
theorem zCH_congr {L : Int32} {f g : Nat → Int32} {n : Nat} {x r : Int32} (h : ∀ k, k < n → f k = g k) (hC : zCH L f n x r) : zCH L g n x r := by
  have e1 : zMv L (zDp L f) n = zMv L (zDp L g) n := zMv_congr (fun k hk => by unfold zDp; rw [h k hk])
  have e2 : zPr f n = zPr g n := zPr_congr h
  unfold zCH at hC ⊢
  rw [← e1, ← e2]
  exact hC
theorem zs100 {v : Int32} (h : 100 ≤ v.toInt ∧ v.toInt ≤ 999) : (v - 100).toNatClampNeg = v.toNatClampNeg - 100 ∧ v.toNatClampNeg - 100 < 900 := by
  have e : (v - 100).toInt = v.toInt - 100 := zsubI (x := v) (y := 100) (by rw [show Int32.toInt 100 = 100 from rfl]; omega) (by rw [show Int32.toInt 100 = 100 from rfl]; omega)
  have h1 := zclN (i := v) (by omega)
  have h2 := zclN (i := v - 100) (by omega)
  omega
theorem zDp_b {L : Int32} {g : Nat → Int32} {n : Nat} (hL : 100 ≤ L.toInt ∧ L.toInt ≤ 50000) (h : ∀ k, k < n → 100 ≤ (g k).toInt ∧ (g k).toInt ≤ 999) : ∀ k, k < n → 0 ≤ (zDp L g k).toInt ∧ (zDp L g k).toInt ≤ L.toInt := fun k hk => zPl9_b hL (zs100 (h k hk)).2
def zW9 : Nat → Int
  | 0 => 1
  | n + 1 => 1000000000 * zW9 n
def zLm (f : Nat → Int64) : Nat → Int
  | 0 => 0
  | n + 1 => zLm f n + (f n).toInt * zW9 n
theorem zLm_congr {f g : Nat → Int64} {n : Nat} (h : ∀ k, k < n → f k = g k) : zLm f n = zLm g n := by
  induction n with
  | zero => rfl
  | succ n ih => rw [zLm, zLm, ih (fun k hk => h k (by omega)), h n (by omega)]
theorem zW9_p (n : Nat) : 0 < zW9 n := by
  induction n with
  | zero => decide
  | succ n ih => rw [zW9]; omega
theorem zLm_lt {f : Nat → Int64} {n : Nat} (h : ∀ k, k < n → 0 ≤ (f k).toInt ∧ (f k).toInt < 1000000000) : 0 ≤ zLm f n ∧ zLm f n < zW9 n := by
  induction n with
  | zero => exact ⟨Int.le_refl _, by show (0 : Int) < 1; decide⟩
  | succ n ih =>
    have h1 := ih (fun k hk => h k (by omega))
    have h2 := h n (by omega)
    have e1 := Int.mul_nonneg h2.1 (Int.le_of_lt (zW9_p n))
    have e2 : (f n).toInt * zW9 n ≤ 999999999 * zW9 n := Int.mul_le_mul_of_nonneg_right (by omega) (Int.le_of_lt (zW9_p n))
    rw [zLm, zW9]
    omega
theorem zLm_hi {f : Nat → Int64} {n m : Nat} (h : ∀ k, n ≤ k → k < m → f k = 0) (hnm : n ≤ m) : zLm f m = zLm f n := by
  induction m with
  | zero => rw [show n = 0 by omega]
  | succ m ih =>
    by_cases e : n = m + 1
    · rw [e]
    · rw [zLm, h m (by omega) (by omega), ih (fun k k1 k2 => h k k1 (by omega)) (by omega), show Int64.toInt 0 = 0 from rfl]
      omega
theorem zLm_t {f : Nat → Int64} {m t : Nat} (hd : ∀ k, k < m → 0 ≤ (f k).toInt ∧ (f k).toInt < 1000000000) (h1 : 1 ≤ t) (h3 : t < m) (hz : ∀ k, t < k → k < m → f k = 0) : ((f t).toInt * 1000000000 + (f (t - 1)).toInt) * zW9 (t - 1) ≤ zLm f m ∧ zLm f m < ((f t).toInt * 1000000000 + (f (t - 1)).toInt + 1) * zW9 (t - 1) := by
  obtain ⟨s, rfl⟩ : ∃ s, t = s + 1 := ⟨t - 1, by omega⟩
  have e0 : zLm f m = zLm f (s + 1 + 1) := zLm_hi (fun k k1 k2 => hz k (by omega) k2) (by omega)
  have e1 : zLm f (s + 1 + 1) = zLm f s + (f s).toInt * zW9 s + (f (s + 1)).toInt * (1000000000 * zW9 s) := rfl
  have e2 := zLm_lt (f := f) (n := s) (fun k hk => hd k (by omega))
  rw [show s + 1 - 1 = s by omega, e0, e1]
  clear e0 e1 hd hz
  generalize zLm f s = A at *
  generalize zW9 s = W at *
  generalize (f (s + 1)).toInt = a at *
  generalize (f s).toInt = b at *
  have e3 : (a * 1000000000 + b) * W = b * W + a * (1000000000 * W) := by rw [Int.add_mul, Int.mul_assoc]; omega
  have e4 : (a * 1000000000 + b + 1) * W = b * W + a * (1000000000 * W) + W := by rw [Int.add_mul, e3]; omega
  rw [e3, e4]
  omega
def zW4 : Nat → Int
  | 0 => 1
  | n + 1 => 10000 * zW4 n
def zFg (f : Nat → Int32) : Nat → Int
  | 0 => 0
  | n + 1 => zFg f n + (f n).toInt * zW4 n
theorem zFg_congr {f g : Nat → Int32} {n : Nat} (h : ∀ k, k < n → f k = g k) : zFg f n = zFg g n := by
  induction n with
  | zero => rfl
  | succ n ih => rw [zFg, zFg, ih (fun k hk => h k (by omega)), h n (by omega)]
theorem zW4_p (n : Nat) : 0 < zW4 n := by
  induction n with
  | zero => decide
  | succ n ih => rw [zW4]; omega
theorem zFg_lt {f : Nat → Int32} {n : Nat} (h : ∀ k, k < n → 0 ≤ (f k).toInt ∧ (f k).toInt < 10000) : 0 ≤ zFg f n ∧ zFg f n < zW4 n := by
  induction n with
  | zero => exact ⟨Int.le_refl _, by show (0 : Int) < 1; decide⟩
  | succ n ih =>
    have h1 := ih (fun k hk => h k (by omega))
    have h2 := h n (by omega)
    have e1 := Int.mul_nonneg h2.1 (Int.le_of_lt (zW4_p n))
    have e2 : (f n).toInt * zW4 n ≤ 9999 * zW4 n := Int.mul_le_mul_of_nonneg_right (by omega) (Int.le_of_lt (zW4_p n))
    rw [zFg, zW4]
    omega
theorem zFg_hi {f : Nat → Int32} {n m : Nat} (h : ∀ k, n ≤ k → k < m → f k = 0) (hnm : n ≤ m) : zFg f m = zFg f n := by
  induction m with
  | zero => rw [show n = 0 by omega]
  | succ m ih =>
    by_cases e : n = m + 1
    · rw [e]
    · rw [zFg, h m (by omega) (by omega), ih (fun k k1 k2 => h k k1 (by omega)) (by omega), show Int32.toInt 0 = 0 from rfl]
      omega
theorem zFg_t {f : Nat → Int32} {m t : Nat} (hd : ∀ k, k < m → 0 ≤ (f k).toInt ∧ (f k).toInt < 10000) (h1 : 1 ≤ t) (h3 : t < m) (hz : ∀ k, t < k → k < m → f k = 0) : ((f t).toInt * 10000 + (f (t - 1)).toInt) * zW4 (t - 1) ≤ zFg f m ∧ zFg f m < ((f t).toInt * 10000 + (f (t - 1)).toInt + 1) * zW4 (t - 1) := by
  obtain ⟨s, rfl⟩ : ∃ s, t = s + 1 := ⟨t - 1, by omega⟩
  have e0 : zFg f m = zFg f (s + 1 + 1) := zFg_hi (fun k k1 k2 => hz k (by omega) k2) (by omega)
  have e1 : zFg f (s + 1 + 1) = zFg f s + (f s).toInt * zW4 s + (f (s + 1)).toInt * (10000 * zW4 s) := rfl
  have e2 := zFg_lt (f := f) (n := s) (fun k hk => hd k (by omega))
  rw [show s + 1 - 1 = s by omega, e0, e1]
  clear e0 e1 hd hz
  generalize zFg f s = A at *
  generalize zW4 s = W at *
  generalize (f (s + 1)).toInt = a at *
  generalize (f s).toInt = b at *
  have e3 : (a * 10000 + b) * W = b * W + a * (10000 * W) := by rw [Int.add_mul, Int.mul_assoc]; omega
  have e4 : (a * 10000 + b + 1) * W = b * W + a * (10000 * W) + W := by rw [Int.add_mul, e3]; omega
  rw [e3, e4]
  omega
theorem zW9_e (n : Nat) : zW9 n = zT1 (9 * n) := by
  induction n with
  | zero => rfl
  | succ n ih =>
    rw [show 9 * (n + 1) = 9 * n + 9 by omega, zT1_a, ← ih, zW9, show zT1 9 = 1000000000 from rfl]
    omega
theorem zW4_e (n : Nat) : zW4 n = zT1 (4 * n) := by
  induction n with
  | zero => rfl
  | succ n ih =>
    rw [show 4 * (n + 1) = 4 * n + 4 by omega, zT1_a, ← ih, zW4, show zT1 4 = 10000 from rfl]
    omega
theorem zlbS {k x c U : Int64} (hU : U.toInt = 1000000000) (k0 : 0 ≤ k.toInt) (k1 : k.toInt < 1000000000) (x0 : 100 ≤ x.toInt) (x1 : x.toInt ≤ 999) (c0 : 0 ≤ c.toInt) (c1 : c.toInt ≤ x.toInt) : 0 ≤ (k * x + c - (k * x + c) / U * U).toInt ∧ (k * x + c - (k * x + c) / U * U).toInt < 1000000000 ∧ 0 ≤ ((k * x + c) / U).toInt ∧ ((k * x + c) / U).toInt ≤ x.toInt ∧ ∀ P1 P u : Int, P1 + c.toInt * u = x.toInt * P → P1 + (k * x + c - (k * x + c) / U * U).toInt * u + ((k * x + c) / U).toInt * (1000000000 * u) = x.toInt * (P + k.toInt * u) := by
  have hm1 : 0 ≤ k.toInt * x.toInt := Int.mul_nonneg k0 (by omega)
  have hm2 : k.toInt * x.toInt ≤ 999999999 * x.toInt := Int.mul_le_mul_of_nonneg_right (by omega) (by omega)
  have ew1 : (k * x).toInt = k.toInt * x.toInt := zmulJ (by omega) (by omega)
  have ew : (k * x + c).toInt = k.toInt * x.toInt + c.toInt := by rw [zaddJ (x := k * x) (y := c) (by omega) (by omega), ew1]
  generalize k * x + c = w at *
  have eq : (w / U).toInt = w.toInt / 1000000000 := by rw [zdivJ (x := w) (y := U) (by omega) (by omega), hU]
  have em : (w / U * U).toInt = w.toInt / 1000000000 * 1000000000 := by rw [zmulJ (x := w / U) (y := U) (by rw [eq, hU]; omega) (by rw [eq, hU]; omega), eq, hU]
  have en : (w - w / U * U).toInt = w.toInt - w.toInt / 1000000000 * 1000000000 := by rw [zsubJ (x := w) (y := w / U * U) (by rw [em]; omega) (by rw [em]; omega), em]
  rw [eq, en]
  refine ⟨by omega, by omega, by omega, by omega, fun P1 P u h => ?_⟩
  generalize w.toInt / 1000000000 = q
  have e1 : (w.toInt - q * 1000000000) * u + q * (1000000000 * u) = w.toInt * u := by rw [Int.sub_mul, Int.mul_assoc]; omega
  have e2 : w.toInt * u = x.toInt * (k.toInt * u) + c.toInt * u := by rw [ew, Int.add_mul, Int.mul_comm k.toInt x.toInt, Int.mul_assoc]
  rw [Int.mul_add]
  omega
theorem zlbE {A A0 c x : Int} (h : A + c * zW9 4 = x * A0) (hA : 0 ≤ A) (hc : 0 ≤ c) (h1 : x * A0 < 1000000000000000000000000000000000000) : A = x * A0 := by
  have h2 : A + c * 1000000000000000000000000000000000000 = x * A0 := h
  have hz : c = 0 := by omega
  subst hz
  omega
theorem zt32 {y : Int64} (h0 : 0 ≤ y.toInt) (h9 : y.toInt ≤ 999) : y.toInt32.toInt = y.toInt := by
  rw [Int64.toInt_toInt32]
  exact Int.bmod_eq_of_le (by omega) (by omega)
theorem zdTn {y : Int64} (h0 : 0 ≤ y.toInt) : (y / 10).toInt = y.toInt / 10 := by
  rw [zdivJ (x := y) (y := 10) h0 (by decide)]
  rfl
theorem ztop {a b : Int64} (ha : 1 ≤ a.toInt ∧ a.toInt < 1000000000) (hb : 0 ≤ b.toInt ∧ b.toInt < 1000000000) : (a * 1000000000 + b).toInt = a.toInt * 1000000000 + b.toInt ∧ 100 ≤ (a * 1000000000 + b).toInt := by
  have e1 : (a * 1000000000).toInt = a.toInt * 1000000000 := by rw [zmulJ (x := a) (y := 1000000000) (by rw [show Int64.toInt 1000000000 = 1000000000 from rfl]; omega) (by rw [show Int64.toInt 1000000000 = 1000000000 from rfl]; omega)]; rfl
  have e2 : (a * 1000000000 + b).toInt = a.toInt * 1000000000 + b.toInt := by rw [zaddJ (x := a * 1000000000) (y := b) (by rw [e1]; omega) (by rw [e1]; omega), e1]
  exact ⟨e2, by rw [e2]; omega⟩

set_option maxHeartbeats 4000000 in
set_option maxRecDepth 100000 in
theorem e_X0_move (l : Launch) (G : zG) (z : Nat) (τ : Nat → Option (Nat × Nat)) (ρ : Nat → Nat → Option Nat) (ι : Nat → Nat → Int32) (κ : Nat → Nat → Int64) {p pl M5 : Nat} (hp : τ p = some (5, M5)) (hρp : ρ p 1 = some pl) (hpl : τ pl = some (13, 900)) {a M6 : Nat} (ha : τ a = some (0, M6)) (hpa : p ≠ a) (x : Int32) : zM l G yX0_move cX0_move 3 none ({ frames := 2, cells := 0, slots := 0, locals := 41 } : Room) [.ref a, .int x, .ref p] (z, τ, ρ, ι, κ) (fun v s => v = none ∧ ∃ ι2, s = (z, τ, ρ, ι2, κ) ∧ (∀ b, b ≠ a → ι2 b = ι b) ∧ (((ι a 1 + (if 100 ≤ x.toInt ∧ x.toInt ≤ 999 then ι pl (x - 100).toNatClampNeg else 0)).toInt < (ι p 0).toInt ∧ ι2 a 1 = ι a 1 + (if 100 ≤ x.toInt ∧ x.toInt ≤ 999 then ι pl (x - 100).toNatClampNeg else 0) ∧ ι2 a 2 = ι a 2) ∨ (¬ (ι a 1 + (if 100 ≤ x.toInt ∧ x.toInt ≤ 999 then ι pl (x - 100).toNatClampNeg else 0)).toInt < (ι p 0).toInt ∧ ι2 a 1 = ι a 1 + (if 100 ≤ x.toInt ∧ x.toInt ≤ 999 then ι pl (x - 100).toNatClampNeg else 0) - ι p 0 ∧ ι2 a 2 = ι a 2 + 1))) 0 0 := by
  refine zM_of zCd_X0_move (Nat.le_of_ble_eq_true rfl) ?_
  intro E X hR hE
  subst hE
  show zW E G 3 (z, τ, ρ, ι, κ) 0 0 0 [(0, .ref a), (1, .int x), (2, .ref p)] []
  refine r_aload_n X (by rfl) dX0_move_0 ?_
  refine r_dup X rfl dX0_move_1 ?_
  refine r_getI X dX0_move_2 zF_X0_20 ha ?_
  refine r_aload_n X (by rfl) dX0_move_5 ?_
  refine r_iload_n X (by rfl) dX0_move_6 ?_
  refine r_callV X dX0_move_7 zLV_X0_31 zCd_X5_placeOf (c_X5_placeOf _ G z τ ρ _ _ hp hρp hpl _) hp ⟨by decide, rfl, rfl⟩ rfl rfl ⟨⟨rfl, rfl⟩, ⟨by decide, by decide⟩, ⟨Nat.le_of_ble_eq_true rfl, Nat.le_of_ble_eq_true rfl⟩, Nat.le_of_ble_eq_true rfl⟩ ?_
  rintro _ _ ⟨rfl, rfl⟩
  obtain ⟨dx, hdx⟩ : ∃ dx, (if 100 ≤ x.toInt ∧ x.toInt ≤ 999 then ι pl (x - 100).toNatClampNeg else 0) = dx := ⟨_, rfl⟩
  rw [hdx]
  refine r_iadd X dX0_move_10 ?_
  refine r_putI X dX0_move_11 zF_X0_20 ha rfl rfl ?_
  refine r_aload_n X (by rfl) dX0_move_14 ?_
  refine r_getI X dX0_move_15 zF_X0_20 ha ?_
  refine r_aload_n X (by rfl) dX0_move_18 ?_
  refine r_getI X dX0_move_19 zF_X0_37 hp ?_
  refine r_icmp_lt X 48 dX0_move_22 (by decide) (fun h22 => ?_) (fun h22 => ?_)
  · rw [zu_s, zu_r hpa] at h22
    refine r_return X hR dX0_move_48 (Nat.zero_le _) (Nat.zero_le _) ?_
    subst hdx
    exact ⟨rfl, _, rfl, fun b hb => by simp only [zu_r hb], Or.inl ⟨h22, zu_s, zu_k (by decide)⟩⟩
  · rw [zu_s, zu_r hpa] at h22
    refine r_aload_n X (by rfl) dX0_move_25 ?_
    refine r_dup X rfl dX0_move_26 ?_
    refine r_getI X dX0_move_27 zF_X0_20 ha ?_
    refine r_aload_n X (by rfl) dX0_move_30 ?_
    refine r_getI X dX0_move_31 zF_X0_37 hp ?_
    refine r_isub X dX0_move_34 ?_
    refine r_putI X dX0_move_35 zF_X0_20 ha rfl rfl ?_
    refine r_aload_n X (by rfl) dX0_move_38 ?_
    refine r_dup X rfl dX0_move_39 ?_
    refine r_getI X dX0_move_40 zF_X0_24 ha ?_
    refine r_iconst X 1 (by decide) dX0_move_43 ?_
    refine r_iadd X dX0_move_44 ?_
    refine r_putI X dX0_move_45 zF_X0_24 ha rfl rfl ?_
    refine r_return X hR dX0_move_48 (Nat.zero_le _) (Nat.zero_le _) ?_
    subst hdx
    refine ⟨rfl, _, rfl, fun b hb => by simp only [zu_r hb], Or.inr ⟨by omega, ?_, ?_⟩⟩
    · rw [zu_k (by decide), zu_s, zu_s, zu_r hpa]
    · rw [zu_s, zu_k (show (2 : Nat) ≠ 1 by decide), zu_k (show (2 : Nat) ≠ 1 by decide)]
set_option maxHeartbeats 4000000 in
set_option maxRecDepth 100000 in
theorem e_X0_walk (l : Launch) (G : zG) (z : Nat) (τ : Nat → Option (Nat × Nat)) (ρ : Nat → Nat → Option Nat) (ι : Nat → Nat → Int32) (κ : Nat → Nat → Int64) {p pl M5 : Nat} (hp : τ p = some (5, M5)) (hρp : ρ p 1 = some pl) (hpl : τ pl = some (13, 900)) {a M6 : Nat} (ha : τ a = some (0, M6)) {f fv M7 : Nat} (hρf : ρ a 0 = some f) (hf6 : τ f = some (6, M7)) (hρv : ρ f 0 = some fv) (hfv : τ fv = some (13, 12)) (hfa : f ≠ a) (hva : fv ≠ a) (hpa : p ≠ a) (hla : pl ≠ a) (h0f : 0 ≤ (ι f 1).toInt) (h1 : (ι f 1).toInt ≤ 12) : zM l G yX0_walk cX0_walk 3 none ({ frames := 3, cells := 0, slots := 0, locals := 63 } : Room) [.ref a, .ref p] (z, τ, ρ, ι, κ) (fun v s => v = none ∧ ∃ ι2, s = (z, τ, ρ, ι2, κ) ∧ (∀ b, b ≠ a → ι2 b = ι b) ∧ ι2 a 1 = (zMv (ι p 0) (fun k => if 100 ≤ (ι fv k).toInt ∧ (ι fv k).toInt ≤ 999 then ι pl (ι fv k - 100).toNatClampNeg else 0) (ι f 1).toNatClampNeg).1 ∧ ι2 a 2 = (zMv (ι p 0) (fun k => if 100 ≤ (ι fv k).toInt ∧ (ι fv k).toInt ≤ 999 then ι pl (ι fv k - 100).toNatClampNeg else 0) (ι f 1).toNatClampNeg).2) 0 0 := by
  refine zM_of zCd_X0_walk (Nat.le_of_ble_eq_true rfl) ?_
  intro E X hR hE
  subst hE
  show zW E G 3 (z, τ, ρ, ι, κ) 0 0 0 [(0, .ref a), (1, .ref p)] []
  have L6 : ∀ (m : Nat) (i : Int32) (ι1 : Nat → Nat → Int32), (12 - i.toInt).toNat < m → 0 ≤ i.toInt → i.toInt ≤ (ι f 1).toInt → (∀ b, b ≠ a → ι1 b = ι b) → ι1 a 1 = (zMv (ι p 0) (fun k => if 100 ≤ (ι fv k).toInt ∧ (ι fv k).toInt ≤ 999 then ι pl (ι fv k - 100).toNatClampNeg else 0) i.toNatClampNeg).1 → ι1 a 2 = (zMv (ι p 0) (fun k => if 100 ≤ (ι fv k).toInt ∧ (ι fv k).toInt ≤ 999 then ι pl (ι fv k - 100).toNatClampNeg else 0) i.toNatClampNeg).2 → zW E G 3 (z, τ, ρ, ι1, κ) 0 0 6 [(0, .ref a), (1, .ref p), (2, .int i)] [] := by
    intro m
    induction m with
    | zero => intro i ι1 h; omega
    | succ m ih => ?_
    intro i ι1 hm h0 hi hf hpp hqq
    have hfs : ι1 f 1 = ι f 1 := by rw [hf f hfa]
    have hic := zclN h0
    have hsc := zclN h0f
    refine r_iload_n X (by rfl) dX0_walk_6 ?_
    refine r_aload_n X (by rfl) dX0_walk_7 ?_
    refine r_getR X dX0_walk_8 zF_X0_16 ha hρf ?_
    refine r_getI X dX0_walk_11 zF_X0_43 hf6 ?_
    refine r_icmp_ge X 37 dX0_walk_14 (by decide) (fun h14 => ?_) (fun h14 => ?_)
    · rw [hfs] at h14
      refine r_return X hR dX0_walk_37 (Nat.zero_le _) (Nat.zero_le _) ?_
      have hin : i.toNatClampNeg = (ι f 1).toNatClampNeg := by omega
      rw [hin] at hpp hqq
      exact ⟨rfl, _, rfl, hf, hpp, hqq⟩
    · rw [hfs] at h14
      refine r_aload_n X (by rfl) dX0_walk_17 ?_
      refine r_aload_n X (by rfl) dX0_walk_18 ?_
      refine r_getR X dX0_walk_19 zF_X0_16 ha hρf ?_
      refine r_getR X dX0_walk_22 zF_X0_46 hf6 hρv ?_
      refine r_iload_n X (by rfl) dX0_walk_25 ?_
      refine r_iaload X dX0_walk_26 hfv (vp_in_iff.mpr ⟨h0, by omega⟩) ?_
      refine r_aload_n X (by rfl) dX0_walk_27 ?_
      refine r_callV X dX0_walk_28 zLV_X0_50 zCd_X0_move (e_X0_move _ G z τ ρ _ _ hp hρp hpl ha hpa _) ha ⟨by decide, rfl, rfl⟩ rfl rfl ⟨⟨rfl, rfl⟩, ⟨by decide, by decide⟩, ⟨Nat.le_of_ble_eq_true rfl, Nat.le_of_ble_eq_true rfl⟩, Nat.le_of_ble_eq_true rfl⟩ ?_
      rintro _ _ ⟨rfl, ι2, rfl, hf2, hm2⟩
      rw [hf fv hva, hf pl hla, hf p hpa] at hm2
      have hm3 : ι2 a 1 = (zMv (ι p 0) (fun k => if 100 ≤ (ι fv k).toInt ∧ (ι fv k).toInt ≤ 999 then ι pl (ι fv k - 100).toNatClampNeg else 0) (i.toNatClampNeg + 1)).1 ∧ ι2 a 2 = (zMv (ι p 0) (fun k => if 100 ≤ (ι fv k).toInt ∧ (ι fv k).toInt ≤ 999 then ι pl (ι fv k - 100).toNatClampNeg else 0) (i.toNatClampNeg + 1)).2 := by
        rcases hm2 with ⟨g1, g2, g3⟩ | ⟨g1, g2, g3⟩
        · rw [g2, g3]; exact zMv_lt (d := (fun k => if 100 ≤ (ι fv k).toInt ∧ (ι fv k).toInt ≤ 999 then ι pl (ι fv k - 100).toNatClampNeg else 0)) hpp hqq g1
        · rw [g2, g3]; exact zMv_ge (d := (fun k => if 100 ≤ (ι fv k).toInt ∧ (ι fv k).toInt ≤ 999 then ι pl (ι fv k - 100).toNatClampNeg else 0)) hpp hqq g1
      have ei := zinc (x := i) (by omega)
      have ei2 : (i + 1).toNatClampNeg = i.toNatClampNeg + 1 := by have := zclN (i := i + 1) (by omega); omega
      refine r_iinc X 1 (by decide) (by rfl) (by decide) dX0_walk_31 ?_
      refine r_goto X 6 dX0_walk_34 (by decide) ?_
      exact zW.loc3 (by rfl) (by rfl) (by rfl) (ih _ _ (by have e := zinc (x := i) (by omega); omega) (by have e := zinc (x := i) (by omega); omega) (by have e := zinc (x := i) (by omega); omega) (fun b hb => by rw [hf2 b hb]; exact hf b hb) (by rw [ei2]; exact hm3.1) (by rw [ei2]; exact hm3.2))
  refine r_aload_n X (by rfl) dX0_walk_0 ?_
  refine r_callV X dX0_walk_1 zLV_X0_40 zCd_X0_begin (c_X0_begin _ G z τ ρ _ _ ha) ha ⟨by decide, rfl, rfl⟩ rfl rfl ⟨⟨rfl, rfl⟩, ⟨by decide, by decide⟩, ⟨Nat.le_of_ble_eq_true rfl, Nat.le_of_ble_eq_true rfl⟩, Nat.le_of_ble_eq_true rfl⟩ ?_
  rintro _ _ ⟨rfl, rfl⟩
  refine r_iconst X 0 (by decide) dX0_walk_4 ?_
  refine r_istore_n X (by decide) dX0_walk_5 ?_
  exact zW.loc3 (by rfl) (by rfl) (by rfl) (L6 13 _ _ (by decide) (by decide) (by rw [show Int32.toInt 0 = 0 from rfl]; exact h0f) (fun b hb => by simp only [zu_r hb]) (by rw [zu_k (by decide), zu_s]; rfl) (by rw [zu_s]; rfl))
set_option maxHeartbeats 4000000 in
set_option maxRecDepth 100000 in
theorem e_X0_firstThree (l : Launch) (G : zG) (z : Nat) (τ : Nat → Option (Nat × Nat)) (ρ : Nat → Nat → Option Nat) (ι : Nat → Nat → Int32) (κ : Nat → Nat → Int64) (x : Int64) (hx : 100 ≤ x.toInt) : zM l G yX0_firstThree cX0_firstThree 4 (some .int) ({ frames := 0, cells := 0, slots := 0, locals := 0 } : Room) [.long x] (z, τ, ρ, ι, κ) (fun v s => ∃ r : Int32, v = some (.int r) ∧ s = (z, τ, ρ, ι, κ) ∧ (100 ≤ r.toInt ∧ r.toInt ≤ 999) ∧ ∃ k : Nat, r.toInt * zT1 k ≤ x.toInt ∧ x.toInt < (r.toInt + 1) * zT1 k) 0 0 := by
  refine zM_of zCd_X0_firstThree (Nat.le_of_ble_eq_true rfl) ?_
  intro E X hR hE
  subst hE
  show zW E G 4 (z, τ, ρ, ι, κ) 0 0 0 [(0, .long x)] []
  have L2 : ∀ (m : Nat) (y : Int64), y.toInt.toNat < m → 100 ≤ y.toInt → (∃ k : Nat, y.toInt * zT1 k ≤ x.toInt ∧ x.toInt < (y.toInt + 1) * zT1 k) → zW E G 4 (z, τ, ρ, ι, κ) 0 0 2 [(0, .long x), (2, .long y)] [] := by
    intro m
    induction m with
    | zero => intro y h; omega
    | succ m ih => ?_
    intro y hm hy hk0
    obtain ⟨k, hk⟩ := hk0
    have ed := zdTn (y := y) (by omega)
    refine r_lload_n X (by rfl) dX0_firstThree_2 ?_
    refine r_ldc2 X zK_X0_63 dX0_firstThree_3 ?_
    refine r_lcmp_le X 19 dX0_firstThree_6 dX0_firstThree_7 (by decide) (fun h6 => ?_) (fun h6 => ?_)
    · rw [show Int64.toInt 999 = 999 from rfl] at h6
      refine r_lload_n X (by rfl) dX0_firstThree_19 ?_
      refine r_l2i X dX0_firstThree_20 ?_
      refine r_ireturn X hR dX0_firstThree_21 rfl (Nat.zero_le _) (Nat.zero_le _) ?_
      have e32 := zt32 (y := y) (by omega) (by omega)
      exact ⟨_, rfl, rfl, by rw [e32]; omega, k, by rw [e32]; exact hk⟩
    · rw [show Int64.toInt 999 = 999 from rfl] at h6
      refine r_lload_n X (by rfl) dX0_firstThree_10 ?_
      refine r_ldc2 X zK_X0_65 dX0_firstThree_11 ?_
      refine r_ldiv X (by decide) dX0_firstThree_14 ?_
      refine r_lstore_n X (by decide) dX0_firstThree_15 ?_
      refine r_goto X 2 dX0_firstThree_16 (by decide) ?_
      exact zW.loc2 (by rfl) (by rfl) (ih _ (by rw [ed]; omega) (by rw [ed]; omega) ⟨k + 1, by rw [ed]; exact zth3 hk⟩)
  refine r_lload_n X (by rfl) dX0_firstThree_0 ?_
  refine r_lstore_n X (by decide) dX0_firstThree_1 ?_
  exact zW.loc2 (by rfl) (by rfl) (L2 (x.toInt.toNat + 1) _ (by omega) hx ⟨0, by rw [show zT1 0 = 1 from rfl]; omega⟩)
set_option maxHeartbeats 4000000 in
set_option maxRecDepth 100000 in
theorem e_X0_multiplyOut (l : Launch) (G : zG) (z : Nat) (τ : Nat → Option (Nat × Nat)) (ρ : Nat → Nat → Option Nat) (ι : Nat → Nat → Int32) (κ : Nat → Nat → Int64) {a M6 : Nat} (ha : τ a = some (0, M6)) {f fv M7 : Nat} (hρf : ρ a 0 = some f) (hf6 : τ f = some (6, M7)) (hρv : ρ f 0 = some fv) (hfv : τ fv = some (13, 12)) {lm : Nat} (hρm : ρ a 3 = some lm) (hlm : τ lm = some (14, 4)) (h0f : 0 ≤ (ι f 1).toInt) (h1 : (ι f 1).toInt ≤ 12) (hg : ∀ k : Nat, (k : Int) < (ι f 1).toInt → 100 ≤ (ι fv k).toInt ∧ (ι fv k).toInt ≤ 999) : zM l G yX0_multiplyOut cX0_multiplyOut 7 none ({ frames := 0, cells := 0, slots := 0, locals := 0 } : Room) [.ref a] (z, τ, ρ, ι, κ) (fun v s => v = none ∧ ∃ κ2, s = (z, τ, ρ, ι, κ2) ∧ (∀ k, k < 4 → 0 ≤ (κ2 lm k).toInt ∧ (κ2 lm k).toInt < 1000000000) ∧ zLm (κ2 lm) 4 = zPr (ι fv) (ι f 1).toNatClampNeg) 0 0 := by
  refine zM_of zCd_X0_multiplyOut (Nat.le_of_ble_eq_true rfl) ?_
  intro E X hR hE
  subst hE
  show zW E G 7 (z, τ, ρ, ι, κ) 0 0 0 [(0, .ref a)] []
  have L30 : ∀ (m : Nat) (i : Int32) (κ1 : Nat → Nat → Int64), (12 - i.toInt).toNat < m → 0 ≤ i.toInt → i.toInt ≤ (ι f 1).toInt → (∀ k, k < 4 → 0 ≤ (κ1 lm k).toInt ∧ (κ1 lm k).toInt < 1000000000) → zLm (κ1 lm) 4 = zPr (ι fv) i.toNatClampNeg → zW E G 7 (z, τ, ρ, ι, κ1) 0 0 30 [(0, .ref a), (1, .int i)] [] := by
    intro m
    induction m with
    | zero => intro i κ1 h; omega
    | succ m ih => ?_
    intro i κ1 hm h0 hi1 hd hp
    have hic := zclN h0
    have hsc := zclN h0f
    have L46 : ∀ (hi : i.toInt < (ι f 1).toInt) (m2 : Nat) (j : Int32) (y : Int64) (κ2 : Nat → Nat → Int64), (4 - j.toInt).toNat < m2 → 0 ≤ j.toInt → j.toInt ≤ 4 → (∀ k : Nat, j.toInt ≤ k → k < 4 → κ2 lm k = κ1 lm k) → (∀ k : Nat, k < 4 → (k : Int) < j.toInt → 0 ≤ (κ2 lm k).toInt ∧ (κ2 lm k).toInt < 1000000000) → 0 ≤ y.toInt → y.toInt ≤ (ι fv i.toNatClampNeg).toInt → zLm (κ2 lm) j.toNatClampNeg + y.toInt * zW9 j.toNatClampNeg = (ι fv i.toNatClampNeg).toInt * zLm (κ1 lm) j.toNatClampNeg → zW E G 7 (z, τ, ρ, ι, κ2) 0 0 46 [(0, .ref a), (1, .int i), (2, .long y), (4, .int j)] [] := by
      intro hi m2
      have hfa := hg i.toNatClampNeg (by omega)
      have hx64 : (ι fv i.toNatClampNeg).toInt64.toInt = (ι fv i.toNatClampNeg).toInt := Int32.toInt_toInt64 _
      induction m2 with
      | zero => intro j y κ2 h; omega
      | succ m2 ih2 => ?_
      intro j y κ2 hm2 hj0 hj4 hs hd2 c0 c1 hP
      have hjn := zclN hj0
      refine r_iload X (by rfl) dX0_multiplyOut_46 ?_
      refine r_iconst X 4 (by decide) dX0_multiplyOut_48 ?_
      refine r_icmp_ge X 100 dX0_multiplyOut_49 (by decide) (fun h49 => ?_) (fun h49 => ?_)
      · rw [show Int32.toInt 4 = 4 from rfl] at h49
        have hj2 : j.toNatClampNeg = 4 := by omega
        rw [hj2] at hP
        have hbn := (zPr_b (g := ι fv) (n := i.toNatClampNeg + 1) (fun k hk => hg k (by omega))).2
        have hbm := zT4_m (i := i.toNatClampNeg + 1) (by omega)
        have hmul : (ι fv i.toNatClampNeg).toInt * zLm (κ1 lm) 4 < 1000000000000000000000000000000000000 := by
          rw [hp]
          exact Int.lt_of_le_of_lt hbn hbm
        have hE := zlbE hP (zLm_lt (fun k hk => hd2 k hk (by omega))).1 c0 hmul
        have ei := zinc (x := i) (by omega)
        have ei2 : (i + 1).toNatClampNeg = i.toNatClampNeg + 1 := by have := zclN (i := i + 1) (by omega); omega
        refine r_iinc X 1 (by decide) (by rfl) (by decide) dX0_multiplyOut_100 ?_
        refine r_goto X 30 dX0_multiplyOut_103 (by decide) ?_
        exact zW.loc2 (by rfl) (by rfl) (ih _ _ (by have e := zinc (x := i) (by omega); omega) (by have e := zinc (x := i) (by omega); omega) (by have e := zinc (x := i) (by omega); omega) (fun k hk => hd2 k hk (by omega)) (by rw [ei2, zPr, hE, hp]))
      · rw [show Int32.toInt 4 = 4 from rfl] at h49
        have HT := zlbS (k := κ2 lm j.toNatClampNeg) (x := (ι fv i.toNatClampNeg).toInt64) (c := y) (U := 1000000000) rfl (by rw [hs _ (by omega) (by omega)]; exact (hd _ (by omega)).1) (by rw [hs _ (by omega) (by omega)]; exact (hd _ (by omega)).2) (by rw [hx64]; exact hfa.1) (by rw [hx64]; exact hfa.2) c0 (by rw [hx64]; exact c1)
        generalize hrv : κ2 lm j.toNatClampNeg * (ι fv i.toNatClampNeg).toInt64 + y - (κ2 lm j.toNatClampNeg * (ι fv i.toNatClampNeg).toInt64 + y) / 1000000000 * 1000000000 = rv at HT
        generalize hqv : (κ2 lm j.toNatClampNeg * (ι fv i.toNatClampNeg).toInt64 + y) / 1000000000 = qv at HT
        rw [hx64] at HT
        obtain ⟨g1, g2, g3, g4, g5⟩ := HT
        have ej := zinc (x := j) (by omega)
        have ej2 : (j + 1).toNatClampNeg = j.toNatClampNeg + 1 := by have := zclN (i := j + 1) (by omega); omega
        refine r_aload_n X (by rfl) dX0_multiplyOut_52 ?_
        refine r_getR X dX0_multiplyOut_53 zF_X0_27 ha hρm ?_
        refine r_iload X (by rfl) dX0_multiplyOut_56 ?_
        refine r_laload X dX0_multiplyOut_58 hlm (vp_in_iff.mpr ⟨hj0, by omega⟩) ?_
        refine r_aload_n X (by rfl) dX0_multiplyOut_59 ?_
        refine r_getR X dX0_multiplyOut_60 zF_X0_16 ha hρf ?_
        refine r_getR X dX0_multiplyOut_63 zF_X0_46 hf6 hρv ?_
        refine r_iload_n X (by rfl) dX0_multiplyOut_66 ?_
        refine r_iaload X dX0_multiplyOut_67 hfv (vp_in_iff.mpr ⟨h0, by omega⟩) ?_
        refine r_i2l X dX0_multiplyOut_68 ?_
        refine r_lmul X dX0_multiplyOut_69 ?_
        refine r_lload_n X (by rfl) dX0_multiplyOut_70 ?_
        refine r_ladd X dX0_multiplyOut_71 ?_
        refine r_lstore X (by decide) dX0_multiplyOut_72 ?_
        refine r_aload_n X (by rfl) dX0_multiplyOut_74 ?_
        refine r_getR X dX0_multiplyOut_75 zF_X0_27 ha hρm ?_
        refine r_iload X (by rfl) dX0_multiplyOut_78 ?_
        refine r_lload X (by rfl) dX0_multiplyOut_80 ?_
        refine r_ldc2 X zK_X0_57 dX0_multiplyOut_82 ?_
        refine r_lrem X (by decide) dX0_multiplyOut_85 ?_
        refine r_lastore X dX0_multiplyOut_86 hlm (vp_in_iff.mpr ⟨hj0, by omega⟩) ?_
        refine r_lload X (by rfl) dX0_multiplyOut_87 ?_
        refine r_ldc2 X zK_X0_57 dX0_multiplyOut_89 ?_
        refine r_ldiv X (by decide) dX0_multiplyOut_92 ?_
        refine r_lstore_n X (by decide) dX0_multiplyOut_93 ?_
        refine r_iinc X 1 (by decide) (by rfl) (by decide) dX0_multiplyOut_94 ?_
        refine r_goto X 46 dX0_multiplyOut_97 (by decide) ?_
        exact zW.loc4 (by rfl) (by rfl) (by rfl) (by rfl) (ih2 _ _ _ (by rw [ej]; omega) (by rw [ej]; omega) (by rw [ej]; omega) (fun k hk h4 => by rw [ej] at hk; rw [zu_k (show k ≠ j.toNatClampNeg by omega)]; exact hs k (by omega) h4) (fun k h4 hk => by
          rw [ej] at hk
          by_cases q : k = j.toNatClampNeg
          · subst q; rw [zu_s, hrv]; exact ⟨g1, g2⟩
          · rw [zu_k q]; exact hd2 k h4 (by omega)) (by rw [hqv]; exact g3) (by rw [hqv]; exact g4) (by rw [ej2, zLm, zLm, zW9, zu_s, hrv, hqv, zLm_congr (g := κ2 lm) (fun k hk => zu_k (show k ≠ j.toNatClampNeg by omega)), ← hs j.toNatClampNeg (by omega) (by omega)]; exact g5 _ _ _ hP))
    refine r_iload_n X (by rfl) dX0_multiplyOut_30 ?_
    refine r_aload_n X (by rfl) dX0_multiplyOut_31 ?_
    refine r_getR X dX0_multiplyOut_32 zF_X0_16 ha hρf ?_
    refine r_getI X dX0_multiplyOut_35 zF_X0_43 hf6 ?_
    refine r_icmp_ge X 106 dX0_multiplyOut_38 (by decide) (fun h38 => ?_) (fun h38 => ?_)
    · refine r_return X hR dX0_multiplyOut_106 (Nat.zero_le _) (Nat.zero_le _) ?_
      exact ⟨rfl, _, rfl, hd, by rw [hp, show i.toNatClampNeg = (ι f 1).toNatClampNeg by omega]⟩
    · refine r_lconst X 0 (by decide) dX0_multiplyOut_41 ?_
      refine r_lstore_n X (by decide) dX0_multiplyOut_42 ?_
      refine r_iconst X 0 (by decide) dX0_multiplyOut_43 ?_
      refine r_istore X (by decide) dX0_multiplyOut_44 ?_
      exact zW.loc4 (by rfl) (by rfl) (by rfl) (by rfl) (L46 h38 5 _ _ _ (by decide) (by decide) (by decide) (fun _ _ _ => rfl) (fun k _ hk => by rw [show Int32.toInt 0 = 0 from rfl] at hk; omega) (by decide) (by rw [show Int64.toInt 0 = 0 from rfl]; have := hg i.toNatClampNeg (by omega); omega) (by rw [show Int32.toNatClampNeg 0 = 0 from rfl, show Int64.toInt 0 = 0 from rfl]; simp only [zLm]; omega))
  have L2 : ∀ (m : Nat) (i : Int32) (κ1 : Nat → Nat → Int64), (4 - i.toInt).toNat < m → 0 ≤ i.toInt → (∀ k : Nat, k < 4 → (k : Int) < i.toInt → κ1 lm k = if k = 0 then 1 else 0) → zW E G 7 (z, τ, ρ, ι, κ1) 0 0 2 [(0, .ref a), (1, .int i)] [] := by
    intro m
    induction m with
    | zero => intro i κ1 h; omega
    | succ m ih => ?_
    intro i κ1 hm h0 hv
    have hic := zclN h0
    refine r_iload_n X (by rfl) dX0_multiplyOut_2 ?_
    refine r_iconst X 4 (by decide) dX0_multiplyOut_3 ?_
    refine r_icmp_ge X 28 dX0_multiplyOut_4 (by decide) (fun h4 => ?_) (fun h4 => ?_)
    · rw [show Int32.toInt 4 = 4 from rfl] at h4
      refine r_iconst X 0 (by decide) dX0_multiplyOut_28 ?_
      refine r_istore_n X (by decide) dX0_multiplyOut_29 ?_
      exact zW.loc2 (by rfl) (by rfl) (L30 13 _ _ (by decide) (by decide) (by rw [show Int32.toInt 0 = 0 from rfl]; exact h0f) (fun k hk => by
        rw [hv k hk (by omega)]
        by_cases q : k = 0
        · rw [if_pos q]; decide
        · rw [if_neg q]; decide) (by rw [zLm_congr (g := fun k => if k = 0 then (1 : Int64) else 0) (fun k hk => hv k hk (by omega)), show Int32.toNatClampNeg 0 = 0 from rfl, zPr]; decide +kernel))
    · rw [show Int32.toInt 4 = 4 from rfl] at h4
      refine r_aload_n X (by rfl) dX0_multiplyOut_7 ?_
      refine r_getR X dX0_multiplyOut_8 zF_X0_27 ha hρm ?_
      refine r_iload_n X (by rfl) dX0_multiplyOut_11 ?_
      refine r_iload_n X (by rfl) dX0_multiplyOut_12 ?_
      refine r_if_ne X 20 dX0_multiplyOut_13 (by decide) (fun h13 => ?_) (fun h13 => ?_)
      · have hz0 : i.toNatClampNeg ≠ 0 := fun e => h13 (Int32.toInt_inj.mp (by rw [show Int32.toInt 0 = 0 from rfl]; omega))
        refine r_lconst X 0 (by decide) dX0_multiplyOut_20 ?_
        refine r_lastore X dX0_multiplyOut_21 hlm (vp_in_iff.mpr ⟨h0, by omega⟩) ?_
        refine r_iinc X 1 (by decide) (by rfl) (by decide) dX0_multiplyOut_22 ?_
        refine r_goto X 2 dX0_multiplyOut_25 (by decide) ?_
        exact zW.loc2 (by rfl) (by rfl) (ih _ _ (by have e := zinc (x := i) (by omega); omega) (by have e := zinc (x := i) (by omega); omega) (fun k k4 hk => by
          have e := zinc (x := i) (by omega)
          by_cases q : k = i.toNatClampNeg
          · subst q; rw [zu_s]; first | rw [if_pos hz0] | rw [if_neg hz0]
          · rw [zu_k q]; exact hv k k4 (by omega)))
      · have hz0 : i.toNatClampNeg = 0 := by rw [h13]; rfl
        refine r_lconst X 1 (by decide) dX0_multiplyOut_16 ?_
        refine r_goto X 21 dX0_multiplyOut_17 (by decide) ?_
        refine r_lastore X dX0_multiplyOut_21 hlm (vp_in_iff.mpr ⟨h0, by omega⟩) ?_
        refine r_iinc X 1 (by decide) (by rfl) (by decide) dX0_multiplyOut_22 ?_
        refine r_goto X 2 dX0_multiplyOut_25 (by decide) ?_
        exact zW.loc2 (by rfl) (by rfl) (ih _ _ (by have e := zinc (x := i) (by omega); omega) (by have e := zinc (x := i) (by omega); omega) (fun k k4 hk => by
          have e := zinc (x := i) (by omega)
          by_cases q : k = i.toNatClampNeg
          · subst q; rw [zu_s]; first | rw [if_pos hz0] | rw [if_neg hz0]
          · rw [zu_k q]; exact hv k k4 (by omega)))
  refine r_iconst X 0 (by decide) dX0_multiplyOut_0 ?_
  refine r_istore_n X (by decide) dX0_multiplyOut_1 ?_
  exact zW.loc2 (by rfl) (by rfl) (L2 5 _ _ (by decide) (by decide) (fun k _ hk => by rw [show Int32.toInt 0 = 0 from rfl] at hk; omega))
set_option maxHeartbeats 4000000 in
set_option maxRecDepth 100000 in
theorem e_X0_truth (l : Launch) (G : zG) (z : Nat) (τ : Nat → Option (Nat × Nat)) (ρ : Nat → Nat → Option Nat) (ι : Nat → Nat → Int32) (κ : Nat → Nat → Int64) {a M6 : Nat} (ha : τ a = some (0, M6)) {f fv M7 : Nat} (hρf : ρ a 0 = some f) (hf6 : τ f = some (6, M7)) (hρv : ρ f 0 = some fv) (hfv : τ fv = some (13, 12)) {lm : Nat} (hρm : ρ a 3 = some lm) (hlm : τ lm = some (14, 4)) (h0f : 0 ≤ (ι f 1).toInt) (h1 : (ι f 1).toInt ≤ 12) (hg : ∀ k : Nat, (k : Int) < (ι f 1).toInt → 100 ≤ (ι fv k).toInt ∧ (ι fv k).toInt ≤ 999) : zM l G yX0_truth cX0_truth 2 (some .int) ({ frames := 1, cells := 0, slots := 0, locals := 26 } : Room) [.ref a] (z, τ, ρ, ι, κ) (fun v s => ∃ r κ2, v = some (.int r) ∧ s = (z, τ, ρ, ι, κ2) ∧ zTh r (zPr (ι fv) (ι f 1).toNatClampNeg)) 0 0 := by
  refine zM_of zCd_X0_truth (Nat.le_of_ble_eq_true rfl) ?_
  intro E X hR hE
  subst hE
  show zW E G 2 (z, τ, ρ, ι, κ) 0 0 0 [(0, .ref a)] []
  have L19 : ∀ (κ1 : Nat → Nat → Int64) (hne : ¬ ι f 1 = 0), (∀ k, k < 4 → 0 ≤ (κ1 lm k).toInt ∧ (κ1 lm k).toInt < 1000000000) → zLm (κ1 lm) 4 = zPr (ι fv) (ι f 1).toNatClampNeg → ∀ (m : Nat) (i : Int32), i.toInt.toNat < m → 0 ≤ i.toInt → i.toInt ≤ 3 → (∀ k : Nat, i.toInt < k → k < 4 → κ1 lm k = 0) → zW E G 2 (z, τ, ρ, ι, κ1) 0 0 19 [(0, .ref a), (1, .int i)] [] := by
    intro κ1 hne hd hp m
    have hsc := zclN h0f
    have hP9 := zPr_h (g := ι fv) (n := (ι f 1).toNatClampNeg) (fun k hk => hg k (by omega)) (by
      have : ¬ (ι f 1).toInt = 0 := fun e => hne (Int32.toInt_inj.mp (by rw [e]; rfl))
      omega)
    induction m with
    | zero => intro i h; omega
    | succ m ih => ?_
    intro i hm h0 h3 hz
    have hic := zclN h0
    refine r_iload_n X (by rfl) dX0_truth_19 ?_
    refine r_if_le X 40 dX0_truth_20 (by decide) (fun h20 => ?_) (fun h20 => ?_)
    · refine r_iload_n X (by rfl) dX0_truth_40 ?_
      refine r_if_le X 66 dX0_truth_41 (by decide) (fun h41 => ?_) (fun h41 => ?_)
      · have hi0 : i.toInt = 0 := by omega
        have hlt : zLm (κ1 lm) 4 = zLm (κ1 lm) 1 := zLm_hi (fun k k1 k4 => hz k (by omega) k4) (by decide)
        have hl1 : zLm (κ1 lm) 1 = 0 + (κ1 lm 0).toInt * 1 := rfl
        have hVe : (κ1 lm (Int32.toNatClampNeg 0)).toInt = zPr (ι fv) (ι f 1).toNatClampNeg := by
          rw [show Int32.toNatClampNeg 0 = 0 from rfl]
          omega
        have hV : 100 ≤ (κ1 lm (Int32.toNatClampNeg 0)).toInt := by rw [hVe]; exact hP9
        refine r_aload_n X (by rfl) dX0_truth_66 ?_
        refine r_getR X dX0_truth_67 zF_X0_27 ha hρm ?_
        refine r_iconst X 0 (by decide) dX0_truth_70 ?_
        refine r_laload X dX0_truth_71 hlm (vp_in_iff.mpr ⟨by decide, by decide⟩) ?_
        refine r_callS X dX0_truth_72 zLS_X0_59 zCd_X0_firstThree (e_X0_firstThree _ G z τ ρ _ _ _ hV) rfl rfl ⟨⟨rfl, rfl⟩, ⟨by decide, by decide⟩, ⟨Nat.le_of_ble_eq_true rfl, Nat.le_of_ble_eq_true rfl⟩, Nat.le_of_ble_eq_true rfl⟩ ?_
        rintro _ _ ⟨r, rfl, rfl, hr, k, hk⟩
        refine r_ireturn X hR dX0_truth_75 rfl (Nat.zero_le _) (Nat.zero_le _) ?_
        rw [hVe] at hk
        exact ⟨_, _, rfl, rfl, zTh_0 hr hk⟩
      · omega
    · refine r_aload_n X (by rfl) dX0_truth_23 ?_
      refine r_getR X dX0_truth_24 zF_X0_27 ha hρm ?_
      refine r_iload_n X (by rfl) dX0_truth_27 ?_
      refine r_laload X dX0_truth_28 hlm (vp_in_iff.mpr ⟨h0, by omega⟩) ?_
      refine r_lconst X 0 (by decide) dX0_truth_29 ?_
      refine r_lcmp_ne X 40 dX0_truth_30 dX0_truth_31 (by decide) (fun h30 => ?_) (fun h30 => ?_)
      · rw [show Int64.toInt 0 = 0 from rfl] at h30
        refine r_iload_n X (by rfl) dX0_truth_40 ?_
        refine r_if_le X 66 dX0_truth_41 (by decide) (fun h41 => ?_) (fun h41 => ?_)
        · omega
        · have es := zsub1 h41
          have esc := zclN (i := i - 1) (by omega)
          have hda := hd i.toNatClampNeg (by omega)
          have hdb := hd (i - 1).toNatClampNeg (by omega)
          have hlt := zLm_t (f := κ1 lm) (m := 4) (t := i.toNatClampNeg) hd (by omega) (by omega) (fun k k1 k4 => hz k (by omega) k4)
          rw [show i.toNatClampNeg - 1 = (i - 1).toNatClampNeg by omega, zW9_e, hp] at hlt
          obtain ⟨hVe, hV⟩ := ztop (a := κ1 lm i.toNatClampNeg) (b := κ1 lm (i - 1).toNatClampNeg) ⟨by omega, hda.2⟩ hdb
          rw [← hVe] at hlt
          refine r_aload_n X (by rfl) dX0_truth_44 ?_
          refine r_getR X dX0_truth_45 zF_X0_27 ha hρm ?_
          refine r_iload_n X (by rfl) dX0_truth_48 ?_
          refine r_laload X dX0_truth_49 hlm (vp_in_iff.mpr ⟨h0, by omega⟩) ?_
          refine r_ldc2 X zK_X0_57 dX0_truth_50 ?_
          refine r_lmul X dX0_truth_53 ?_
          refine r_aload_n X (by rfl) dX0_truth_54 ?_
          refine r_getR X dX0_truth_55 zF_X0_27 ha hρm ?_
          refine r_iload_n X (by rfl) dX0_truth_58 ?_
          refine r_iconst X 1 (by decide) dX0_truth_59 ?_
          refine r_isub X dX0_truth_60 ?_
          refine r_laload X dX0_truth_61 hlm (vp_in_iff.mpr (by have e := zsub1 h41; omega)) ?_
          refine r_ladd X dX0_truth_62 ?_
          refine r_goto X 72 dX0_truth_63 (by decide) ?_
          refine r_callS X dX0_truth_72 zLS_X0_59 zCd_X0_firstThree (e_X0_firstThree _ G z τ ρ _ _ _ hV) rfl rfl ⟨⟨rfl, rfl⟩, ⟨by decide, by decide⟩, ⟨Nat.le_of_ble_eq_true rfl, Nat.le_of_ble_eq_true rfl⟩, Nat.le_of_ble_eq_true rfl⟩ ?_
          rintro _ _ ⟨r, rfl, rfl, hr, k, hk⟩
          refine r_ireturn X hR dX0_truth_75 rfl (Nat.zero_le _) (Nat.zero_le _) ?_
          exact ⟨_, _, rfl, rfl, zTh_0 hr (zth4 hk hlt)⟩
      · rw [show Int64.toInt 0 = 0 from rfl] at h30
        have ed := zadd_c (x := i) (-1) (-1) rfl (by omega) (by omega)
        refine r_iinc X (-1) (by decide) (by rfl) (by decide) dX0_truth_34 ?_
        refine r_goto X 19 dX0_truth_37 (by decide) ?_
        exact zW.loc2 (by rfl) (by rfl) (ih _ (by rw [ed]; omega) (by rw [ed]; omega) (by rw [ed]; omega) (fun k hk k4 => by
          rw [ed] at hk
          by_cases q : k = i.toNatClampNeg
          · subst q; exact Int64.toInt_inj.mp (by rw [h30]; rfl)
          · exact hz k (by omega) k4))
  refine r_aload_n X (by rfl) dX0_truth_0 ?_
  refine r_getR X dX0_truth_1 zF_X0_16 ha hρf ?_
  refine r_getI X dX0_truth_4 zF_X0_43 hf6 ?_
  refine r_if_ne X 13 dX0_truth_7 (by decide) (fun h7 => ?_) (fun h7 => ?_)
  · refine r_aload_n X (by rfl) dX0_truth_13 ?_
    refine r_callV X dX0_truth_14 zLV_X0_54 zCd_X0_multiplyOut (e_X0_multiplyOut _ G z τ ρ _ _ ha hρf hf6 hρv hfv hρm hlm h0f h1 hg) ha ⟨by decide, rfl, rfl⟩ rfl rfl ⟨⟨rfl, rfl⟩, ⟨by decide, by decide⟩, ⟨Nat.le_of_ble_eq_true rfl, Nat.le_of_ble_eq_true rfl⟩, Nat.le_of_ble_eq_true rfl⟩ ?_
    rintro _ _ ⟨rfl, κ, rfl, hd, hp⟩
    refine r_iconst X 3 (by decide) dX0_truth_17 ?_
    refine r_istore_n X (by decide) dX0_truth_18 ?_
    exact zW.loc2 (by rfl) (by rfl) (L19 _ h7 hd hp 4 _ (by decide) (by decide) (by decide) (fun k hk k4 => by rw [show Int32.toInt 3 = 3 from rfl] at hk; omega))
  · refine r_bipush X 100 (by decide) dX0_truth_10 ?_
    refine r_ireturn X hR dX0_truth_12 rfl (Nat.zero_le _) (Nat.zero_le _) ?_
    rw [h7, show Int32.toNatClampNeg 0 = 0 from rfl]
    exact ⟨_, _, rfl, rfl, zTh_1⟩
