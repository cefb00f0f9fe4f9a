/-! the doubles of the laws (wip/gen/spec_u.py) -/
def zSu (f : Nat → Nat) : Nat → Nat
  | 0 => 0
  | n + 1 => zSu f n + f n
theorem zSu_cong {f g : Nat → Nat} : ∀ n, (∀ k, k < n → f k = g k) → zSu f n = zSu g n := by
  intro n
  induction n with
  | zero => intro _; rfl
  | succ n ih => intro h; rw [zSu, zSu, ih (fun k hk => h k (by omega)), h n (by omega)]
theorem zSu_add (f g : Nat → Nat) (n : Nat) : zSu (fun k => f k + g k) n = zSu f n + zSu g n := by
  induction n with
  | zero => rfl
  | succ n ih => rw [zSu, zSu, zSu, ih]; omega
theorem zSu_zero {f : Nat → Nat} : ∀ n, (∀ k, k < n → f k = 0) → zSu f n = 0 := by
  intro n
  induction n with
  | zero => intro _; rfl
  | succ n ih => intro h; rw [zSu, ih (fun k hk => h k (by omega)), h n (by omega)]
theorem zSu_comm (g : Nat → Nat → Nat) (n m : Nat) : zSu (fun i => zSu (fun j => g i j) m) n = zSu (fun j => zSu (fun i => g i j) n) m := by
  induction n with
  | zero => rw [zSu]; exact (zSu_zero m (fun k _ => rfl)).symm
  | succ n ih =>
    rw [zSu, ih, ← zSu_add]
    exact zSu_cong m (fun k _ => rfl)
theorem zSu_tail {f : Nat → Nat} (h : ∀ k, f k ≤ 1) {a : Nat} : ∀ b, a ≤ b → zSu f b ≤ zSu f a + (b - a) := by
  intro b
  induction b with
  | zero => intro q; have : a = 0 := by omega
            subst this; omega
  | succ b ih =>
    intro q
    by_cases e : a = b + 1
    · subst e; omega
    · have h1 := ih (by omega)
      have h2 := h b
      rw [zSu]; omega
theorem zSu_mono {f : Nat → Nat} {a : Nat} : ∀ b, a ≤ b → zSu f a ≤ zSu f b := by
  intro b
  induction b with
  | zero => intro q; have : a = 0 := by omega
            subst this; omega
  | succ b ih =>
    intro q
    by_cases e : a = b + 1
    · subst e; omega
    · have h1 := ih (by omega)
      rw [zSu]; omega
def zHs (f : Nat → Int) : Nat → Int → Bool
  | 0, _ => false
  | n + 1, x => zHs f n x || decide (f n = x)
theorem zHs_iff {f : Nat → Int} {x : Int} : ∀ n, zHs f n x = true ↔ ∃ k, k < n ∧ f k = x := by
  intro n
  induction n with
  | zero => exact ⟨fun h => (by cases h), fun ⟨k, h, _⟩ => absurd h (Nat.not_lt_zero k)⟩
  | succ n ih =>
    rw [zHs, Bool.or_eq_true, ih, decide_eq_true_eq]
    constructor
    · rintro (⟨k, h1, h2⟩ | h)
      · exact ⟨k, by omega, h2⟩
      · exact ⟨n, by omega, h⟩
    · rintro ⟨k, h1, h2⟩
      by_cases e : k = n
      · subst e; exact Or.inr h2
      · exact Or.inl ⟨k, by omega, h2⟩
theorem zHs_no {f : Nat → Int} {x : Int} {n : Nat} (h : ∀ k, k < n → f k ≠ x) : zHs f n x = false := by
  cases e : zHs f n x with
  | false => rfl
  | true => obtain ⟨k, h1, h2⟩ := (zHs_iff n).mp e; exact absurd h2 (h k h1)
def zRi (f : Nat → Int) (n : Nat) : Prop := ∀ i, i + 1 < n → f i < f (i + 1)
theorem zRi_lt {f : Nat → Int} {n : Nat} (h : zRi f n) {i : Nat} : ∀ j, i < j → j < n → f i < f j := by
  intro j
  induction j with
  | zero => intro q; omega
  | succ j ih =>
    intro q1 q2
    have h1 := h j q2
    by_cases e : i = j
    · subst e; exact h1
    · have h2 := ih (by omega) (by omega)
      omega
theorem zHs_sum {f : Nat → Int} {x : Int} : ∀ n, zRi f n → zSu (fun j => if f j = x then 1 else 0) n = if zHs f n x = true then 1 else 0 := by
  intro n
  induction n with
  | zero => intro _; rfl
  | succ n ih =>
    intro h
    rw [zSu, ih (fun i hi => h i (by omega)), zHs]
    by_cases e : f n = x
    · have h0 : zHs f n x = false := zHs_no (fun k hk => by have := zRi_lt h n hk (by omega); omega)
      rw [h0, if_pos e]; simp [e]
    · rw [if_neg e]; simp [e]
theorem zSu_bd {f : Nat → Nat} {c : Nat} (h : ∀ k, f k ≤ c) : ∀ n, zSu f n ≤ c * n := by
  intro n
  induction n with
  | zero => exact Nat.zero_le _
  | succ n ih => have h1 := h n; rw [zSu, Nat.mul_succ]; omega
theorem zSu_head (f : Nat → Nat) : ∀ n, zSu f (n + 1) = f 0 + zSu (fun k => f (k + 1)) n := by
  intro n
  induction n with
  | zero => show 0 + f 0 = f 0 + 0; omega
  | succ n ih => rw [zSu, ih, zSu]; omega
theorem zSu_rev (f : Nat → Nat) : ∀ n, zSu f n = zSu (fun k => f (n - 1 - k)) n := by
  intro n
  induction n with
  | zero => rfl
  | succ n ih =>
    rw [zSu_head (fun k => f (n + 1 - 1 - k)) n, zSu, ih]
    show zSu (fun k => f (n - 1 - k)) n + f n = f (n + 1 - 1 - 0) + zSu (fun k => f (n + 1 - 1 - (k + 1))) n
    rw [show n + 1 - 1 - 0 = n by omega, zSu_cong n (fun k hk => show f (n - 1 - k) = f (n + 1 - 1 - (k + 1)) from congrArg f (by omega))]
    omega
/-- is the sum of places i and j, i ahead of j, a place -/
def zDb (a : Nat → Int) (i j : Nat) : Nat := if i < j ∧ zHs a 60 (a i + a j) = true then 1 else 0
theorem zDb_1 {a : Nat → Int} {i : Nat} : ∀ j, zDb a i j ≤ 1 := fun j => by unfold zDb; split <;> omega
def zDr (a : Nat → Int) (i : Nat) : Nat := zSu (zDb a i) 60
theorem zDr_b {a : Nat → Int} : ∀ i, zDr a i ≤ 60 := fun i => by
  have h := zSu_tail (f := zDb a i) zDb_1 (a := 0) 60 (by omega)
  rw [show zSu (zDb a i) 0 = 0 from rfl] at h
  unfold zDr
  omega
def zDa (a : Nat → Int) : Nat := zSu (zDr a) 60
theorem zHs_cong {f g : Nat → Int} {x : Int} : ∀ n, (∀ k, k < n → f k = g k) → zHs f n x = zHs g n x := by
  intro n
  induction n with
  | zero => intro _; rfl
  | succ n ih => intro h; rw [zHs, zHs, ih (fun k hk => h k (by omega)), h n (by omega)]
theorem zDb_cong {a b : Nat → Int} (h : ∀ k, k < 60 → a k = b k) {i j : Nat} (hi : i < 60) (hj : j < 60) : zDb a i j = zDb b i j := by
  unfold zDb
  rw [h i hi, h j hj, zHs_cong 60 h]
theorem zDr_cong {a b : Nat → Int} (h : ∀ k, k < 60 → a k = b k) {i : Nat} (hi : i < 60) : zDr a i = zDr b i := zSu_cong 60 (fun j hj => zDb_cong h hi hj)
theorem zDa_cong {a b : Nat → Int} (h : ∀ k, k < 60 → a k = b k) : zDa a = zDa b := zSu_cong 60 (fun i hi => zDr_cong h hi)
theorem zDa_rev {a b : Nat → Int} (h : ∀ k, k < 60 → a k = b (59 - k)) : zDa a = zDa b := by
  have hs : ∀ x, zHs a 60 x = zHs b 60 x := fun x => by
    rw [Bool.eq_iff_iff, zHs_iff, zHs_iff]
    constructor
    · rintro ⟨k, h1, h2⟩
      exact ⟨59 - k, by omega, by rw [← h k h1]; exact h2⟩
    · rintro ⟨k, h1, h2⟩
      exact ⟨59 - k, by omega, by rw [h _ (by omega), show 59 - (59 - k) = k by omega]; exact h2⟩
  have e1 : zDa b = zSu (fun i => zSu (fun j => zDb b (60 - 1 - i) (60 - 1 - j)) 60) 60 := by
    unfold zDa
    rw [zSu_rev (zDr b) 60]
    exact zSu_cong 60 (fun i _ => zSu_rev (zDb b (60 - 1 - i)) 60)
  have e2 : zSu (fun i => zSu (fun j => zDb b (60 - 1 - i) (60 - 1 - j)) 60) 60 = zSu (fun i => zSu (fun j => zDb a j i) 60) 60 := zSu_cong 60 (fun i hi => zSu_cong 60 (fun j hj => by
    unfold zDb
    rw [hs, h i hi, h j hj, Int.add_comm (b (59 - j)) (b (59 - i))]
    by_cases e : j < i ∧ zHs b 60 (b (59 - i) + b (59 - j)) = true
    · rw [if_pos ⟨by omega, e.2⟩, if_pos e]
    · rw [if_neg (fun g => e ⟨by omega, g.2⟩), if_neg e]))
  rw [e1, e2, zSu_comm]
  rfl
/-- places that do not fall -/
def zNf (a : Nat → Int) : Prop := ∀ k, k + 1 < 60 → a k ≤ a (k + 1)
theorem zNf_le {a : Nat → Int} (h : zNf a) {i : Nat} : ∀ j, i ≤ j → j < 60 → a i ≤ a j := by
  intro j
  induction j with
  | zero => intro q1 _; have : i = 0 := by omega
            subst this; exact Int.le_refl _
  | succ j ih =>
    intro q1 q2
    by_cases e : i = j + 1
    · subst e; exact Int.le_refl _
    · have h1 := ih (by omega) (by omega)
      have h2 := h j q2
      omega
theorem zofN {i : Int32} (h : 0 ≤ i.toInt) : Int32.ofNat i.toNatClampNeg = i := by
  have h2 := zclN h
  have h3 := i.toInt_lt
  exact Int32.toInt_inj.mp (by rw [znat (by omega)]; omega)
theorem zofN1 {k : Nat} (hk : k < 60) : Int32.ofNat k + 1 = Int32.ofNat (k + 1) := by
  have h1 := znat (N := k) (by omega)
  have h2 := znat (N := k + 1) (by omega)
  exact Int32.toInt_inj.mp (by rw [zinc (x := Int32.ofNat k) (by omega), h1, h2]; omega)
theorem zofNa {k : Nat} (hk : k < 60) : 1 + Int32.ofNat k = Int32.ofNat (k + 1) := by
  have h1 := znat (N := k) (by omega)
  have h2 := znat (N := k + 1) (by omega)
  have e1 : Int32.toInt 1 = 1 := rfl
  exact Int32.toInt_inj.mp (by rw [zaddI (x := 1) (y := Int32.ofNat k) (by omega) (by omega), h1, h2, e1]; omega)
theorem zofN60 {k : Nat} (hk : k < 60) : 60 - Int32.ofNat k = Int32.ofNat (59 - k + 1) := by
  have h1 := znat (N := k) (by omega)
  have h2 := znat (N := 59 - k + 1) (by omega)
  have e1 : Int32.toInt 60 = 60 := rfl
  exact Int32.toInt_inj.mp (by rw [zsubI (x := 60) (y := Int32.ofNat k) (by omega) (by omega), h1, h2, e1]; omega)
/-- the laws' numbers rise -/
def zLr (L i : Int32) : Bool := decide ((zNum L (zOrd L i) - zNum L (zOrd L 0)).toInt ≤ (zNum L (zOrd L (i + 1)) - zNum L (zOrd L 0)).toInt)
theorem zLr_all : ∀ l, l < 4 → ∀ i, i < 59 → zLr (Int32.ofNat l) (Int32.ofNat i) = true := by decide +kernel
def zLw (L v : Int32) : Bool := decide ((zNum L v - zNum L (zOrd L 0)).toInt ≤ (zNum L (zOrd L 59) - zNum L (zOrd L 0)).toInt)
theorem zLw_all : ∀ l, l < 4 → ∀ v, v < 60 → zLw (Int32.ofNat l) (Int32.ofNat (v + 1)) = true := by decide +kernel
theorem zPl_i {x y s : Int32} (hx : 0 ≤ x.toInt ∧ x.toInt ≤ 3) (hy : 1 ≤ y.toInt ∧ y.toInt ≤ 60) (hs : 100 ≤ s.toInt ∧ s.toInt ≤ 50000) : 1 ≤ (zNum x (zOrd x 59) - zNum x (zOrd x 0)).toInt ∧ (zPl x y s).toInt = (2 * (zNum x y - zNum x (zOrd x 0)).toInt * s.toInt + (zNum x (zOrd x 59) - zNum x (zOrd x 0)).toInt) / (2 * (zNum x (zOrd x 59) - zNum x (zOrd x 0)).toInt) ∧ 0 ≤ (zPl x y s).toInt ∧ (zPl x y s).toInt ≤ 50000 := by
  have h := zLok_of hx hy
  unfold zLok at h
  simp only [Bool.and_eq_true, decide_eq_true_eq] at h
  obtain ⟨⟨⟨⟨⟨-, h2⟩, h3⟩, h4⟩, h5⟩, -⟩ := h
  have hw : (zNum x y - zNum x (zOrd x 0)).toInt ≤ (zNum x (zOrd x 59) - zNum x (zOrd x 0)).toInt := by
    have h1 := zclN hx.1
    have h9 := zclN (i := y) (by omega)
    have e1 := zofN hx.1
    have e2 : Int32.ofNat (y.toNatClampNeg - 1 + 1) = y := Int32.toInt_inj.mp (by rw [znat (by omega)]; omega)
    have h := zLw_all x.toNatClampNeg (by omega) (y.toNatClampNeg - 1) (by omega)
    unfold zLw at h
    rw [e1, e2] at h
    exact decide_eq_true_eq.mp h
  have hs' : s.toInt64.toInt = s.toInt := Int32.toInt_toInt64 s
  unfold zPl
  rw [if_neg (by omega)]
  generalize zNum x y - zNum x (zOrd x 0) = d at *
  generalize zNum x (zOrd x 59) - zNum x (zOrd x 0) = w at *
  generalize s.toInt64 = t at *
  refine ⟨h4, ?_⟩
  have e2 : (2 : Int64).toInt = 2 := rfl
  have e3 : (2 * d).toInt = 2 * d.toInt := by rw [zmulJ (x := 2) (y := d) (by rw [e2]; omega) (by rw [e2]; omega), e2]
  have e4 : 0 ≤ 2 * d.toInt * t.toInt := Int.mul_nonneg (by omega) (by omega)
  have e5 : 2 * d.toInt * t.toInt ≤ 2000000 * 50000 := Int.mul_le_mul (by omega) (by omega) (by omega) (by decide)
  have e5b : 2 * d.toInt * t.toInt ≤ 2 * w.toInt * t.toInt := Int.mul_le_mul_of_nonneg_right (by omega) (by omega)
  have e6 : (2 * d * t).toInt = 2 * d.toInt * t.toInt := by rw [zmulJ (x := 2 * d) (y := t) (by rw [e3]; omega) (by rw [e3]; omega), e3]
  have e7 : (2 * d * t + w).toInt = 2 * d.toInt * t.toInt + w.toInt := by rw [zaddJ (x := 2 * d * t) (y := w) (by omega) (by omega), e6]
  have e8 : (2 * w).toInt = 2 * w.toInt := by rw [zmulJ (x := 2) (y := w) (by rw [e2]; omega) (by rw [e2]; omega), e2]
  have e9 : ((2 * d * t + w) / (2 * w)).toInt = (2 * d.toInt * t.toInt + w.toInt) / (2 * w.toInt) := by rw [zdivJ (by omega) (by omega), e7, e8]
  have q1 : 0 ≤ (2 * d.toInt * t.toInt + w.toInt) / (2 * w.toInt) := Int.ediv_nonneg (by omega) (by omega)
  have q2 : (2 * d.toInt * t.toInt + w.toInt) / (2 * w.toInt) < 50001 := by
    refine Int.ediv_lt_of_lt_mul (by omega) ?_
    have q3 : 2 * w.toInt * t.toInt ≤ 2 * w.toInt * 50000 := Int.mul_le_mul_of_nonneg_left (by omega) (by omega)
    omega
  have e10 : ((2 * d * t + w) / (2 * w)).toInt32.toInt = (2 * d.toInt * t.toInt + w.toInt) / (2 * w.toInt) := by rw [Int64.toInt_toInt32, e9, Int.bmod_eq_of_le (by omega) (by omega)]
  rw [e10, ← hs']
  exact ⟨rfl, q1, by omega⟩
theorem zOrd_r {x i : Int32} (hi : 0 ≤ i.toInt ∧ i.toInt < 60) : 1 ≤ (zOrd x i).toInt ∧ (zOrd x i).toInt ≤ 60 := by
  have e1 : Int32.toInt 60 = 60 := rfl
  have e2 : Int32.toInt 1 = 1 := rfl
  have h1 : (60 - i).toInt = 60 - i.toInt := by rw [zsubI (x := 60) (y := i) (by omega) (by omega), e1]
  have h2 : (1 + i).toInt = 1 + i.toInt := by rw [zaddI (x := 1) (y := i) (by omega) (by omega), e2]
  unfold zOrd
  by_cases e : x = 2
  · rw [if_pos e, h1]; omega
  · rw [if_neg e, h2]; omega
/-- the class's places, in order -/
def zPa (x s : Int32) (k : Nat) : Int := (zPl x (zOrd x (Int32.ofNat k)) s).toInt
theorem zPa_b {x s : Int32} (hx : 0 ≤ x.toInt ∧ x.toInt ≤ 3) (hs : 100 ≤ s.toInt ∧ s.toInt ≤ 50000) {k : Nat} (hk : k < 60) : 0 ≤ zPa x s k ∧ zPa x s k ≤ 50000 :=
  (zPl_i hx (zOrd_r (x := x) (i := Int32.ofNat k) (by rw [znat (N := k) (by omega)]; omega)) hs).2.2
theorem zPa_nf {x s : Int32} (hx : 0 ≤ x.toInt ∧ x.toInt ≤ 3) (hs : 100 ≤ s.toInt ∧ s.toInt ≤ 50000) : zNf (zPa x s) := fun k hk => by
  have h1 := zPl_i hx (zOrd_r (x := x) (i := Int32.ofNat k) (by rw [znat (N := k) (by omega)]; omega)) hs
  have h2 := zPl_i hx (zOrd_r (x := x) (i := Int32.ofNat (k + 1)) (by rw [znat (N := k + 1) (by omega)]; omega)) hs
  unfold zPa
  rw [h1.2.1, h2.2.1]
  have h3 := zLr_all x.toNatClampNeg (by have := zclN hx.1; omega) k (by omega)
  unfold zLr at h3
  rw [zofN hx.1, zofN1 (by omega)] at h3
  have h4 := decide_eq_true_eq.mp h3
  have hw := h1.1
  generalize (zNum x (zOrd x (Int32.ofNat k)) - zNum x (zOrd x 0)).toInt = d1 at *
  generalize (zNum x (zOrd x (Int32.ofNat (k + 1))) - zNum x (zOrd x 0)).toInt = d2 at *
  generalize (zNum x (zOrd x 59) - zNum x (zOrd x 0)).toInt = w at *
  have h5 : 2 * d1 * s.toInt ≤ 2 * d2 * s.toInt := Int.mul_le_mul_of_nonneg_right (by omega) (by omega)
  exact Int.ediv_le_ediv (by omega) (by omega)
/-- the model's places, v from 1 -/
def zPb (x s : Int32) (k : Nat) : Int := (zPlM x (Int32.ofNat (k + 1)) s).toInt
theorem zPb_e {x s : Int32} (hx : 0 ≤ x.toInt ∧ x.toInt ≤ 3) (hs : 100 ≤ s.toInt ∧ s.toInt ≤ 50000) {k : Nat} (hk : k < 60) : zPb x s k = (zPl x (Int32.ofNat (k + 1)) s).toInt := by
  unfold zPb
  rw [zPl_eq hx (by rw [znat (N := k + 1) (by omega)]; omega) hs]
theorem zPb_b {x s : Int32} (hx : 0 ≤ x.toInt ∧ x.toInt ≤ 3) (hs : 100 ≤ s.toInt ∧ s.toInt ≤ 50000) {k : Nat} (hk : k < 60) : 0 ≤ zPb x s k ∧ zPb x s k ≤ 50000 := by
  rw [zPb_e hx hs hk]
  exact (zPl_i hx (by rw [znat (N := k + 1) (by omega)]; omega) hs).2.2
theorem zPab {x s : Int32} (hx : 0 ≤ x.toInt ∧ x.toInt ≤ 3) (hs : 100 ≤ s.toInt ∧ s.toInt ≤ 50000) : zDa (zPa x s) = zDa (zPb x s) := by
  by_cases e : x = 2
  · refine zDa_rev (fun k hk => ?_)
    rw [zPb_e hx hs (by omega)]
    unfold zPa zOrd
    rw [if_pos e, zofN60 hk]
  · refine zDa_cong (fun k hk => ?_)
    rw [zPb_e hx hs hk]
    unfold zPa zOrd
    rw [if_neg e, zofNa hk]

set_option maxHeartbeats 4000000 in
set_option maxRecDepth 100000 in
theorem e_X1_doublesFrom (l : Launch) (G : zG) (z : Nat) (τ : Nat → Option (Nat × Nat)) (ρ : Nat → Nat → Option Nat) (ι : Nat → Nat → Int32) (κ : Nat → Nat → Int64) {a pl M : Nat} (ha : τ a = some (1, M)) (g0 : ρ a 0 = some pl) (hpl : τ pl = some (13, 60)) (x : Int32) (x0 : 0 ≤ x.toInt) (x1 : x.toInt < 60) (hv : ∀ k, k < 60 → 0 ≤ (ι pl k).toInt ∧ (ι pl k).toInt ≤ 50000) (hm : zNf (fun k => (ι pl k).toInt)) : zM l G yX1_doublesFrom cX1_doublesFrom 6 (some .int) ({ frames := 0, cells := 0, slots := 0, locals := 0 } : Room) [.ref a, .int x] (z, τ, ρ, ι, κ) (fun v s => ∃ r, v = some (.int r) ∧ s = (z, τ, ρ, ι, κ) ∧ r.toInt = (zDr (fun k => (ι pl k).toInt) x.toNatClampNeg : Int)) 0 0 := by
  refine zM_of zCd_X1_doublesFrom (Nat.le_of_ble_eq_true rfl) ?_
  intro E X hR hE
  subst hE
  show zW E G 6 (z, τ, ρ, ι, κ) 0 0 0 [(0, .ref a), (1, .int x)] []
  have hxn := zclN x0
  have hvx := hv x.toNatClampNeg (by omega)
  have L9 : ∀ (m : Nat) (i p q : Int32), (60 - i.toInt).toNat < m → 0 ≤ i.toInt → x.toInt < i.toInt → i.toInt ≤ 60 → 0 ≤ q.toInt → (i.toInt < 60 → ∀ k : Nat, (k : Int) < q.toInt → k < 60 → (ι pl k).toInt < ((ι pl x.toNatClampNeg).toInt + (ι pl i.toNatClampNeg).toInt)) → p.toInt = (zSu (zDb (fun k => (ι pl k).toInt) x.toNatClampNeg) i.toNatClampNeg : Int) → zW E G 6 (z, τ, ρ, ι, κ) 0 0 9 [(0, .ref a), (1, .int x), (2, .int p), (3, .int q), (4, .int i)] [] := by
    intro m
    induction m with
    | zero => intro i p q h; omega
    | succ m ih => ?_
    intro i p q hm1 h0 hxi h60 hq hB hp
    have hic := zclN h0
    have L32 : i.toInt < 60 → ∀ (m2 : Nat) (q u : Int32), (60 - q.toInt).toNat < m2 → 0 ≤ q.toInt → u.toInt = ((ι pl x.toNatClampNeg).toInt + (ι pl i.toNatClampNeg).toInt) → (∀ k : Nat, (k : Int) < q.toInt → k < 60 → (ι pl k).toInt < u.toInt) → zW E G 6 (z, τ, ρ, ι, κ) 0 0 32 [(0, .ref a), (1, .int x), (2, .int p), (3, .int q), (4, .int i), (5, .int u)] [] := by
      intro hi m2
      induction m2 with
      | zero => intro q u h; omega
      | succ m2 ih2 => ?_
      intro q u hm2 hq2 hu hBu
      have hqc := zclN hq2
      refine r_iload_n X (by rfl) dX1_doublesFrom_32 ?_
      refine r_bipush X 60 (by decide) dX1_doublesFrom_33 ?_
      refine r_icmp_ge X 55 dX1_doublesFrom_35 (by decide) (fun h35 => ?_) (fun h35 => ?_)
      · rw [show Int32.toInt 60 = 60 from rfl] at h35
        refine r_iload_n X (by rfl) dX1_doublesFrom_55 ?_
        refine r_bipush X 60 (by decide) dX1_doublesFrom_56 ?_
        refine r_icmp_ge X 75 dX1_doublesFrom_58 (by decide) (fun h58 => ?_) (fun h58 => ?_)
        · rw [show Int32.toInt 60 = 60 from rfl] at h58
          have ei := zinc (x := i) (by omega)
          have ei2 : (i + 1).toNatClampNeg = i.toNatClampNeg + 1 := by have := zclN (i := i + 1) (by omega); omega
          have hle := zSu_tail (f := (zDb (fun k => (ι pl k).toInt) x.toNatClampNeg)) zDb_1 (a := 0) i.toNatClampNeg (Nat.zero_le _)
          rw [zSu] at hle
          have ep := zinc (x := p) (by omega)
          have hB2 : (i + 1).toInt < 60 → ∀ k : Nat, (k : Int) < q.toInt → k < 60 → (ι pl k).toInt < (ι pl x.toNatClampNeg).toInt + (ι pl (i.toNatClampNeg + 1)).toInt := fun g k hk k60 => by
            have h8 := hm i.toNatClampNeg (by omega)
            change (ι pl i.toNatClampNeg).toInt ≤ (ι pl (i.toNatClampNeg + 1)).toInt at h8
            have h9 := hBu k hk k60
            omega
          have hq0 : (zDb (fun k => (ι pl k).toInt) x.toNatClampNeg) i.toNatClampNeg = 0 := if_neg (fun g => by
            obtain ⟨k, k1, k2⟩ := (zHs_iff _).mp g.2
            change (ι pl k).toInt = ((ι pl x.toNatClampNeg).toInt + (ι pl i.toNatClampNeg).toInt) at k2
            have h9 := hBu k (by omega) k1
            omega)
          refine r_iinc X 1 (by decide) (by rfl) (by decide) dX1_doublesFrom_75 ?_
          refine r_goto X 9 dX1_doublesFrom_78 (by decide) ?_
          exact zW.loc5 (by rfl) (by rfl) (by rfl) (by rfl) (by rfl) (ih _ _ _ (by omega) (by omega) (by omega) (by omega) hq2 (by rw [ei2]; exact hB2) (by rw [ei2, zSu]; first | (rw [hq1]; omega) | (rw [hq0]; omega)))
        · rw [show Int32.toInt 60 = 60 from rfl] at h58
          refine r_aload_n X (by rfl) dX1_doublesFrom_61 ?_
          refine r_getR X dX1_doublesFrom_62 zF_X1_9 ha g0 ?_
          refine r_iload_n X (by rfl) dX1_doublesFrom_65 ?_
          refine r_iaload X dX1_doublesFrom_66 hpl (vp_in_iff.mpr ⟨hq2, by omega⟩) ?_
          refine r_iload X (by rfl) dX1_doublesFrom_67 ?_
          refine r_icmp_ne X 75 dX1_doublesFrom_69 (by decide) (fun h69 => ?_) (fun h69 => ?_)
          · have ei := zinc (x := i) (by omega)
            have ei2 : (i + 1).toNatClampNeg = i.toNatClampNeg + 1 := by have := zclN (i := i + 1) (by omega); omega
            have hle := zSu_tail (f := (zDb (fun k => (ι pl k).toInt) x.toNatClampNeg)) zDb_1 (a := 0) i.toNatClampNeg (Nat.zero_le _)
            rw [zSu] at hle
            have ep := zinc (x := p) (by omega)
            have hB2 : (i + 1).toInt < 60 → ∀ k : Nat, (k : Int) < q.toInt → k < 60 → (ι pl k).toInt < (ι pl x.toNatClampNeg).toInt + (ι pl (i.toNatClampNeg + 1)).toInt := fun g k hk k60 => by
              have h8 := hm i.toNatClampNeg (by omega)
              change (ι pl i.toNatClampNeg).toInt ≤ (ι pl (i.toNatClampNeg + 1)).toInt at h8
              have h9 := hBu k hk k60
              omega
            have hq0 : (zDb (fun k => (ι pl k).toInt) x.toNatClampNeg) i.toNatClampNeg = 0 := if_neg (fun g => by
              obtain ⟨k, k1, k2⟩ := (zHs_iff _).mp g.2
              change (ι pl k).toInt = ((ι pl x.toNatClampNeg).toInt + (ι pl i.toNatClampNeg).toInt) at k2
              rcases Nat.lt_or_ge k q.toNatClampNeg with g1 | g1
              · have h9 := hBu k (by omega) k1; omega
              · have h9 := zNf_le hm k g1 k1
                change (ι pl q.toNatClampNeg).toInt ≤ (ι pl k).toInt at h9
                have h10 : ¬ (ι pl q.toNatClampNeg).toInt = u.toInt := fun e => h69 (Int32.toInt_inj.mp e)
                omega)
            refine r_iinc X 1 (by decide) (by rfl) (by decide) dX1_doublesFrom_75 ?_
            refine r_goto X 9 dX1_doublesFrom_78 (by decide) ?_
            exact zW.loc5 (by rfl) (by rfl) (by rfl) (by rfl) (by rfl) (ih _ _ _ (by omega) (by omega) (by omega) (by omega) hq2 (by rw [ei2]; exact hB2) (by rw [ei2, zSu]; first | (rw [hq1]; omega) | (rw [hq0]; omega)))
          · refine r_iinc X 1 (by decide) (by rfl) (by decide) dX1_doublesFrom_72 ?_
            have ei := zinc (x := i) (by omega)
            have ei2 : (i + 1).toNatClampNeg = i.toNatClampNeg + 1 := by have := zclN (i := i + 1) (by omega); omega
            have hle := zSu_tail (f := (zDb (fun k => (ι pl k).toInt) x.toNatClampNeg)) zDb_1 (a := 0) i.toNatClampNeg (Nat.zero_le _)
            rw [zSu] at hle
            have ep := zinc (x := p) (by omega)
            have hB2 : (i + 1).toInt < 60 → ∀ k : Nat, (k : Int) < q.toInt → k < 60 → (ι pl k).toInt < (ι pl x.toNatClampNeg).toInt + (ι pl (i.toNatClampNeg + 1)).toInt := fun g k hk k60 => by
              have h8 := hm i.toNatClampNeg (by omega)
              change (ι pl i.toNatClampNeg).toInt ≤ (ι pl (i.toNatClampNeg + 1)).toInt at h8
              have h9 := hBu k hk k60
              omega
            have hq1 : (zDb (fun k => (ι pl k).toInt) x.toNatClampNeg) i.toNatClampNeg = 1 := if_pos ⟨by omega, (zHs_iff _).mpr ⟨q.toNatClampNeg, by omega, by
              show (ι pl q.toNatClampNeg).toInt = ((ι pl x.toNatClampNeg).toInt + (ι pl i.toNatClampNeg).toInt)
              rw [h69, hu]⟩⟩
            refine r_iinc X 1 (by decide) (by rfl) (by decide) dX1_doublesFrom_75 ?_
            refine r_goto X 9 dX1_doublesFrom_78 (by decide) ?_
            exact zW.loc5 (by rfl) (by rfl) (by rfl) (by rfl) (by rfl) (ih _ _ _ (by omega) (by omega) (by omega) (by omega) hq2 (by rw [ei2]; exact hB2) (by rw [ei2, zSu]; first | (rw [hq1]; omega) | (rw [hq0]; omega)))
      · rw [show Int32.toInt 60 = 60 from rfl] at h35
        refine r_aload_n X (by rfl) dX1_doublesFrom_38 ?_
        refine r_getR X dX1_doublesFrom_39 zF_X1_9 ha g0 ?_
        refine r_iload_n X (by rfl) dX1_doublesFrom_42 ?_
        refine r_iaload X dX1_doublesFrom_43 hpl (vp_in_iff.mpr ⟨hq2, by omega⟩) ?_
        refine r_iload X (by rfl) dX1_doublesFrom_44 ?_
        refine r_icmp_ge X 55 dX1_doublesFrom_46 (by decide) (fun h46 => ?_) (fun h46 => ?_)
        · refine r_iload_n X (by rfl) dX1_doublesFrom_55 ?_
          refine r_bipush X 60 (by decide) dX1_doublesFrom_56 ?_
          refine r_icmp_ge X 75 dX1_doublesFrom_58 (by decide) (fun h58 => ?_) (fun h58 => ?_)
          · rw [show Int32.toInt 60 = 60 from rfl] at h58
            have ei := zinc (x := i) (by omega)
            have ei2 : (i + 1).toNatClampNeg = i.toNatClampNeg + 1 := by have := zclN (i := i + 1) (by omega); omega
            have hle := zSu_tail (f := (zDb (fun k => (ι pl k).toInt) x.toNatClampNeg)) zDb_1 (a := 0) i.toNatClampNeg (Nat.zero_le _)
            rw [zSu] at hle
            have ep := zinc (x := p) (by omega)
            have hB2 : (i + 1).toInt < 60 → ∀ k : Nat, (k : Int) < q.toInt → k < 60 → (ι pl k).toInt < (ι pl x.toNatClampNeg).toInt + (ι pl (i.toNatClampNeg + 1)).toInt := fun g k hk k60 => by
              have h8 := hm i.toNatClampNeg (by omega)
              change (ι pl i.toNatClampNeg).toInt ≤ (ι pl (i.toNatClampNeg + 1)).toInt at h8
              have h9 := hBu k hk k60
              omega
            have hq0 : (zDb (fun k => (ι pl k).toInt) x.toNatClampNeg) i.toNatClampNeg = 0 := if_neg (fun g => by
              obtain ⟨k, k1, k2⟩ := (zHs_iff _).mp g.2
              change (ι pl k).toInt = ((ι pl x.toNatClampNeg).toInt + (ι pl i.toNatClampNeg).toInt) at k2
              have h9 := hBu k (by omega) k1
              omega)
            refine r_iinc X 1 (by decide) (by rfl) (by decide) dX1_doublesFrom_75 ?_
            refine r_goto X 9 dX1_doublesFrom_78 (by decide) ?_
            exact zW.loc5 (by rfl) (by rfl) (by rfl) (by rfl) (by rfl) (ih _ _ _ (by omega) (by omega) (by omega) (by omega) hq2 (by rw [ei2]; exact hB2) (by rw [ei2, zSu]; first | (rw [hq1]; omega) | (rw [hq0]; omega)))
          · rw [show Int32.toInt 60 = 60 from rfl] at h58
            refine r_aload_n X (by rfl) dX1_doublesFrom_61 ?_
            refine r_getR X dX1_doublesFrom_62 zF_X1_9 ha g0 ?_
            refine r_iload_n X (by rfl) dX1_doublesFrom_65 ?_
            refine r_iaload X dX1_doublesFrom_66 hpl (vp_in_iff.mpr ⟨hq2, by omega⟩) ?_
            refine r_iload X (by rfl) dX1_doublesFrom_67 ?_
            refine r_icmp_ne X 75 dX1_doublesFrom_69 (by decide) (fun h69 => ?_) (fun h69 => ?_)
            · have ei := zinc (x := i) (by omega)
              have ei2 : (i + 1).toNatClampNeg = i.toNatClampNeg + 1 := by have := zclN (i := i + 1) (by omega); omega
              have hle := zSu_tail (f := (zDb (fun k => (ι pl k).toInt) x.toNatClampNeg)) zDb_1 (a := 0) i.toNatClampNeg (Nat.zero_le _)
              rw [zSu] at hle
              have ep := zinc (x := p) (by omega)
              have hB2 : (i + 1).toInt < 60 → ∀ k : Nat, (k : Int) < q.toInt → k < 60 → (ι pl k).toInt < (ι pl x.toNatClampNeg).toInt + (ι pl (i.toNatClampNeg + 1)).toInt := fun g k hk k60 => by
                have h8 := hm i.toNatClampNeg (by omega)
                change (ι pl i.toNatClampNeg).toInt ≤ (ι pl (i.toNatClampNeg + 1)).toInt at h8
                have h9 := hBu k hk k60
                omega
              have hq0 : (zDb (fun k => (ι pl k).toInt) x.toNatClampNeg) i.toNatClampNeg = 0 := if_neg (fun g => by
                obtain ⟨k, k1, k2⟩ := (zHs_iff _).mp g.2
                change (ι pl k).toInt = ((ι pl x.toNatClampNeg).toInt + (ι pl i.toNatClampNeg).toInt) at k2
                rcases Nat.lt_or_ge k q.toNatClampNeg with g1 | g1
                · have h9 := hBu k (by omega) k1; omega
                · have h9 := zNf_le hm k g1 k1
                  change (ι pl q.toNatClampNeg).toInt ≤ (ι pl k).toInt at h9
                  have h10 : ¬ (ι pl q.toNatClampNeg).toInt = u.toInt := fun e => h69 (Int32.toInt_inj.mp e)
                  omega)
              refine r_iinc X 1 (by decide) (by rfl) (by decide) dX1_doublesFrom_75 ?_
              refine r_goto X 9 dX1_doublesFrom_78 (by decide) ?_
              exact zW.loc5 (by rfl) (by rfl) (by rfl) (by rfl) (by rfl) (ih _ _ _ (by omega) (by omega) (by omega) (by omega) hq2 (by rw [ei2]; exact hB2) (by rw [ei2, zSu]; first | (rw [hq1]; omega) | (rw [hq0]; omega)))
            · refine r_iinc X 1 (by decide) (by rfl) (by decide) dX1_doublesFrom_72 ?_
              have ei := zinc (x := i) (by omega)
              have ei2 : (i + 1).toNatClampNeg = i.toNatClampNeg + 1 := by have := zclN (i := i + 1) (by omega); omega
              have hle := zSu_tail (f := (zDb (fun k => (ι pl k).toInt) x.toNatClampNeg)) zDb_1 (a := 0) i.toNatClampNeg (Nat.zero_le _)
              rw [zSu] at hle
              have ep := zinc (x := p) (by omega)
              have hB2 : (i + 1).toInt < 60 → ∀ k : Nat, (k : Int) < q.toInt → k < 60 → (ι pl k).toInt < (ι pl x.toNatClampNeg).toInt + (ι pl (i.toNatClampNeg + 1)).toInt := fun g k hk k60 => by
                have h8 := hm i.toNatClampNeg (by omega)
                change (ι pl i.toNatClampNeg).toInt ≤ (ι pl (i.toNatClampNeg + 1)).toInt at h8
                have h9 := hBu k hk k60
                omega
              have hq1 : (zDb (fun k => (ι pl k).toInt) x.toNatClampNeg) i.toNatClampNeg = 1 := if_pos ⟨by omega, (zHs_iff _).mpr ⟨q.toNatClampNeg, by omega, by
                show (ι pl q.toNatClampNeg).toInt = ((ι pl x.toNatClampNeg).toInt + (ι pl i.toNatClampNeg).toInt)
                rw [h69, hu]⟩⟩
              refine r_iinc X 1 (by decide) (by rfl) (by decide) dX1_doublesFrom_75 ?_
              refine r_goto X 9 dX1_doublesFrom_78 (by decide) ?_
              exact zW.loc5 (by rfl) (by rfl) (by rfl) (by rfl) (by rfl) (ih _ _ _ (by omega) (by omega) (by omega) (by omega) hq2 (by rw [ei2]; exact hB2) (by rw [ei2, zSu]; first | (rw [hq1]; omega) | (rw [hq0]; omega)))
        · refine r_iinc X 1 (by decide) (by rfl) (by decide) dX1_doublesFrom_49 ?_
          refine r_goto X 32 dX1_doublesFrom_52 (by decide) ?_
          exact zW.loc6 (by rfl) (by rfl) (by rfl) (by rfl) (by rfl) (by rfl) (ih2 _ _ (by have e := zinc (x := q) (by omega); omega) (by have e := zinc (x := q) (by omega); omega) hu (fun k hk k60 => by
            have eq1 := zinc (x := q) (by omega)
            by_cases e : k = q.toNatClampNeg
            · subst e; exact h46
            · exact hBu k (by omega) k60))
    refine r_iload X (by rfl) dX1_doublesFrom_9 ?_
    refine r_bipush X 60 (by decide) dX1_doublesFrom_11 ?_
    refine r_icmp_ge X 81 dX1_doublesFrom_13 (by decide) (fun h13 => ?_) (fun h13 => ?_)
    · rw [show Int32.toInt 60 = 60 from rfl] at h13
      have hie : i.toNatClampNeg = 60 := by omega
      rw [hie] at hp
      refine r_iload_n X (by rfl) dX1_doublesFrom_81 ?_
      refine r_ireturn X hR dX1_doublesFrom_82 rfl (Nat.zero_le _) (Nat.zero_le _) ?_
      exact ⟨_, rfl, rfl, hp⟩
    · rw [show Int32.toInt 60 = 60 from rfl] at h13
      have hvi := hv i.toNatClampNeg (by omega)
      have esum : (ι pl x.toNatClampNeg + ι pl i.toNatClampNeg).toInt = ((ι pl x.toNatClampNeg).toInt + (ι pl i.toNatClampNeg).toInt) := zaddI (by omega) (by omega)
      refine r_aload_n X (by rfl) dX1_doublesFrom_16 ?_
      refine r_getR X dX1_doublesFrom_17 zF_X1_9 ha g0 ?_
      refine r_iload_n X (by rfl) dX1_doublesFrom_20 ?_
      refine r_iaload X dX1_doublesFrom_21 hpl (vp_in_iff.mpr ⟨x0, by omega⟩) ?_
      refine r_aload_n X (by rfl) dX1_doublesFrom_22 ?_
      refine r_getR X dX1_doublesFrom_23 zF_X1_9 ha g0 ?_
      refine r_iload X (by rfl) dX1_doublesFrom_26 ?_
      refine r_iaload X dX1_doublesFrom_28 hpl (vp_in_iff.mpr ⟨h0, by omega⟩) ?_
      refine r_iadd X dX1_doublesFrom_29 ?_
      refine r_istore X (by decide) dX1_doublesFrom_30 ?_
      exact zW.loc6 (by rfl) (by rfl) (by rfl) (by rfl) (by rfl) (by rfl) (L32 h13 61 _ _ (by omega) hq esum (fun k hk k60 => by rw [esum]; exact hB h13 k hk k60))
  refine r_iconst X 0 (by decide) dX1_doublesFrom_0 ?_
  refine r_istore_n X (by decide) dX1_doublesFrom_1 ?_
  refine r_iconst X 0 (by decide) dX1_doublesFrom_2 ?_
  refine r_istore_n X (by decide) dX1_doublesFrom_3 ?_
  refine r_iload_n X (by rfl) dX1_doublesFrom_4 ?_
  refine r_iconst X 1 (by decide) dX1_doublesFrom_5 ?_
  refine r_iadd X dX1_doublesFrom_6 ?_
  refine r_istore X (by decide) dX1_doublesFrom_7 ?_
  exact zW.loc5 (by rfl) (by rfl) (by rfl) (by rfl) (by rfl) (L9 61 _ _ _ (by have e := zinc (x := x) (by omega); omega) (by have e := zinc (x := x) (by omega); omega) (by have e := zinc (x := x) (by omega); omega) (by have e := zinc (x := x) (by omega); omega) (by decide) (fun _ k hk _ => by rw [show Int32.toInt 0 = 0 from rfl] at hk; omega) (by have e := zinc (x := x) (by omega); have e2 := zclN (i := x + 1) (by omega); rw [zSu_zero (f := (zDb (fun k => (ι pl k).toInt) x.toNatClampNeg)) (x + 1).toNatClampNeg (fun k hk => if_neg (fun g => by have := g.1; omega))]; rfl))
set_option maxHeartbeats 4000000 in
set_option maxRecDepth 100000 in
theorem e_X1_doublesOf (l : Launch) (G : zG) (z : Nat) (τ : Nat → Option (Nat × Nat)) (ρ : Nat → Nat → Option Nat) (ι : Nat → Nat → Int32) (κ : Nat → Nat → Int64) {a pl M : Nat} (ha : τ a = some (1, M)) (g0 : ρ a 0 = some pl) (hpl : τ pl = some (13, 60)) (x y : Int32) (hx : 0 ≤ x.toInt ∧ x.toInt ≤ 3) (hy : 100 ≤ y.toInt ∧ y.toInt ≤ 50000) : zM l G yX1_doublesOf cX1_doublesOf 5 (some .int) ({ frames := 2, cells := 0, slots := 0, locals := 47 } : Room) [.ref a, .int x, .int y] (z, τ, ρ, ι, κ) (fun v s => ∃ r ι2, v = some (.int r) ∧ s = (z, τ, ρ, ι2, κ) ∧ (∀ b, b ≠ pl → ι2 b = ι b) ∧ r.toInt = (zDa (zPa x y) : Int)) 0 0 := by
  refine zM_of zCd_X1_doublesOf (Nat.le_of_ble_eq_true rfl) ?_
  intro E X hR hE
  subst hE
  show zW E G 5 (z, τ, ρ, ι, κ) 0 0 0 [(0, .ref a), (1, .int x), (2, .int y)] []
  have L35 : ∀ (m : Nat) (i p : Int32) (ι1 : Nat → Nat → Int32), (60 - i.toInt).toNat < m → 0 ≤ i.toInt → i.toInt ≤ 60 → (∀ b, b ≠ pl → ι1 b = ι b) → (∀ k, k < 60 → (ι1 pl k).toInt = zPa x y k) → p.toInt = (zSu (zDr (zPa x y)) i.toNatClampNeg : Int) → zW E G 5 (z, τ, ρ, ι1, κ) 0 0 35 [(0, .ref a), (1, .int x), (2, .int y), (3, .int p), (4, .int i)] [] := by
    intro m
    induction m with
    | zero => intro i p ι1 h; omega
    | succ m ih => ?_
    intro i p ι1 hm h0 h60 hf hA hp
    have hic := zclN h0
    refine r_iload X (by rfl) dX1_doublesOf_35 ?_
    refine r_bipush X 60 (by decide) dX1_doublesOf_37 ?_
    refine r_icmp_ge X 57 dX1_doublesOf_39 (by decide) (fun h39 => ?_) (fun h39 => ?_)
    · rw [show Int32.toInt 60 = 60 from rfl] at h39
      have hie : i.toNatClampNeg = 60 := by omega
      rw [hie] at hp
      refine r_iload_n X (by rfl) dX1_doublesOf_57 ?_
      refine r_ireturn X hR dX1_doublesOf_58 rfl (Nat.zero_le _) (Nat.zero_le _) ?_
      exact ⟨_, _, rfl, rfl, hf, hp⟩
    · rw [show Int32.toInt 60 = 60 from rfl] at h39
      refine r_iload_n X (by rfl) dX1_doublesOf_42 ?_
      refine r_aload_n X (by rfl) dX1_doublesOf_43 ?_
      refine r_iload X (by rfl) dX1_doublesOf_44 ?_
      refine r_callV X dX1_doublesOf_46 zLV_X1_28 zCd_X1_doublesFrom (e_X1_doublesFrom _ G z τ ρ _ _ ha g0 hpl _ h0 (by omega) (fun k hk => by rw [hA k hk]; exact zPa_b hx hy hk) (fun k hk => by show (ι1 pl k).toInt ≤ (ι1 pl (k + 1)).toInt; rw [hA k (by omega), hA (k + 1) hk]; exact zPa_nf hx hy k hk)) ha ⟨by decide, rfl, rfl⟩ rfl rfl ⟨⟨rfl, rfl⟩, ⟨by decide, by decide⟩, ⟨Nat.le_of_ble_eq_true rfl, Nat.le_of_ble_eq_true rfl⟩, Nat.le_of_ble_eq_true rfl⟩ ?_
      rintro _ _ ⟨r, rfl, rfl, hr⟩
      have hr2 := zDr_cong (a := fun k => (ι1 pl k).toInt) (b := zPa x y) (i := i.toNatClampNeg) (fun k hk => hA k hk) (by omega)
      rw [hr2] at hr
      have hb1 := zDr_b (a := zPa x y) i.toNatClampNeg
      have hb2 := zSu_bd (f := zDr (zPa x y)) zDr_b i.toNatClampNeg
      have epr : (p + r).toInt = p.toInt + r.toInt := zaddI (by omega) (by omega)
      refine r_iadd X dX1_doublesOf_49 ?_
      refine r_istore_n X (by decide) dX1_doublesOf_50 ?_
      refine r_iinc X 1 (by decide) (by rfl) (by decide) dX1_doublesOf_51 ?_
      refine r_goto X 35 dX1_doublesOf_54 (by decide) ?_
      exact zW.loc5 (by rfl) (by rfl) (by rfl) (by rfl) (by rfl) (ih _ _ _ (by have e := zinc (x := i) (by omega); omega) (by have e := zinc (x := i) (by omega); omega) (by have e := zinc (x := i) (by omega); omega) hf hA (by have e := zinc (x := i) (by omega); have e2 := zclN (i := i + 1) (by omega); rw [show (i + 1).toNatClampNeg = i.toNatClampNeg + 1 by omega, zSu]; omega))
  have L2 : ∀ (m : Nat) (i : Int32) (ι1 : Nat → Nat → Int32), (60 - i.toInt).toNat < m → 0 ≤ i.toInt → (∀ b, b ≠ pl → ι1 b = ι b) → (∀ k : Nat, (k : Int) < i.toInt → (ι1 pl k).toInt = zPa x y k) → zW E G 5 (z, τ, ρ, ι1, κ) 0 0 2 [(0, .ref a), (1, .int x), (2, .int y), (3, .int i)] [] := by
    intro m
    induction m with
    | zero => intro i ι1 h; omega
    | succ m ih => ?_
    intro i ι1 hm h0 hf hA
    have hic := zclN h0
    refine r_iload_n X (by rfl) dX1_doublesOf_2 ?_
    refine r_bipush X 60 (by decide) dX1_doublesOf_3 ?_
    refine r_icmp_ge X 30 dX1_doublesOf_5 (by decide) (fun h5 => ?_) (fun h5 => ?_)
    · rw [show Int32.toInt 60 = 60 from rfl] at h5
      refine r_iconst X 0 (by decide) dX1_doublesOf_30 ?_
      refine r_istore_n X (by decide) dX1_doublesOf_31 ?_
      refine r_iconst X 0 (by decide) dX1_doublesOf_32 ?_
      refine r_istore X (by decide) dX1_doublesOf_33 ?_
      exact zW.loc5 (by rfl) (by rfl) (by rfl) (by rfl) (by rfl) (L35 61 _ _ _ (by decide) (by decide) (by decide) hf (fun k hk => by have h9 := hA k (by omega); exact h9) (by rfl))
    · rw [show Int32.toInt 60 = 60 from rfl] at h5
      refine r_aload_n X (by rfl) dX1_doublesOf_8 ?_
      refine r_getR X dX1_doublesOf_9 zF_X1_9 ha g0 ?_
      refine r_iload_n X (by rfl) dX1_doublesOf_12 ?_
      refine r_iload_n X (by rfl) dX1_doublesOf_13 ?_
      refine r_iload_n X (by rfl) dX1_doublesOf_14 ?_
      refine r_iload_n X (by rfl) dX1_doublesOf_15 ?_
      refine r_callS X dX1_doublesOf_16 zLS_X1_16 zCd_X1_inOrder (c_X1_inOrder _ G z τ ρ _ _ _ _) rfl rfl ⟨⟨rfl, rfl⟩, ⟨by decide, by decide⟩, ⟨Nat.le_of_ble_eq_true rfl, Nat.le_of_ble_eq_true rfl⟩, Nat.le_of_ble_eq_true rfl⟩ ?_
      rintro _ _ ⟨rfl, rfl⟩
      refine r_iload_n X (by rfl) dX1_doublesOf_19 ?_
      refine r_callS X dX1_doublesOf_20 zLS_X1_24 zCd_X1_placeOf (c_X1_placeOf _ G z τ ρ _ _ _ _ _) rfl rfl ⟨⟨rfl, rfl⟩, ⟨by decide, by decide⟩, ⟨Nat.le_of_ble_eq_true rfl, Nat.le_of_ble_eq_true rfl⟩, Nat.le_of_ble_eq_true rfl⟩ ?_
      rintro _ _ ⟨rfl, rfl⟩
      refine r_iastore X dX1_doublesOf_23 hpl (vp_in_iff.mpr ⟨h0, by omega⟩) ?_
      refine r_iinc X 1 (by decide) (by rfl) (by decide) dX1_doublesOf_24 ?_
      refine r_goto X 2 dX1_doublesOf_27 (by decide) ?_
      exact zW.loc4 (by rfl) (by rfl) (by rfl) (by rfl) (ih _ _ (by have e := zinc (x := i) (by omega); omega) (by have e := zinc (x := i) (by omega); omega) (fun b hb => by rw [zu_r hb]; exact hf b hb) (fun k hk => by
        have e := zinc (x := i) (by omega)
        by_cases e2 : k = i.toNatClampNeg
        · subst e2; rw [zu_s]; unfold zPa; rw [zofN h0]
        · rw [zu_k e2]; exact hA k (by omega)))
  refine r_iconst X 0 (by decide) dX1_doublesOf_0 ?_
  refine r_istore_n X (by decide) dX1_doublesOf_1 ?_
  exact zW.loc4 (by rfl) (by rfl) (by rfl) (by rfl) (L2 61 _ _ (by decide) (by decide) (fun _ _ => rfl) (fun k hk => by rw [show Int32.toInt 0 = 0 from rfl] at hk; omega))
set_option maxHeartbeats 4000000 in
set_option maxRecDepth 100000 in
theorem e_X11_doubled (l : Launch) (G : zG) (z : Nat) (τ : Nat → Option (Nat × Nat)) (ρ : Nat → Nat → Option Nat) (ι : Nat → Nat → Int32) (κ : Nat → Nat → Int64) {B c : Nat} (hL : zLay τ ρ B c) (hJ : zJ B c ι) (hRl : zRel B c ι) (x : Int32) : zM l G yX11_doubled cX11_doubled 2 (some .int) ({ frames := 3, cells := 0, slots := 0, locals := 71 } : Room) [.ref B, .int x] (z, τ, ρ, ι, κ) (fun v s => ∃ r ι2 κ2, v = some (.int r) ∧ s = (z, τ, ρ, ι2, κ2) ∧ zFc B c ι ι2 ∧ ((¬ (0 ≤ x.toInt ∧ x.toInt ≤ 3) ∧ r = -2) ∨ ((0 ≤ x.toInt ∧ x.toInt ≤ 3) ∧ r.toInt = (zDa (zPa x (ι B 10)) : Int)))) 0 0 := by
  refine zM_of zCd_X11_doubled (Nat.le_of_ble_eq_true rfl) ?_
  intro E X hR hE
  subst hE
  show zW E G 2 (z, τ, ρ, ι, κ) 0 0 0 [(0, .ref B), (1, .int x)] []
  refine r_iload_n X (by rfl) dX11_doubled_0 ?_
  refine r_callS X dX11_doubled_1 zLS_X11_237 zCd_X1_isLaw (c_X1_isLaw _ G z τ ρ _ _ _) rfl rfl ⟨⟨rfl, rfl⟩, ⟨by decide, by decide⟩, ⟨Nat.le_of_ble_eq_true rfl, Nat.le_of_ble_eq_true rfl⟩, Nat.le_of_ble_eq_true rfl⟩ ?_
  rintro _ _ ⟨rfl, rfl⟩
  refine r_if_eq X 22 dX11_doubled_4 (by decide) (fun h4 => ?_) (fun h4 => ?_)
  · refine r_bipush X (-2) (by decide) dX11_doubled_22 ?_
    refine r_ireturn X hR dX11_doubled_24 rfl (Nat.zero_le _) (Nat.zero_le _) ?_
    first | exact ⟨_, _, _, rfl, rfl, zFc_fr hJ (fun b q => hf2 b (by unfold zCx at q; omega)), Or.inr ⟨zif1 h4, hr2⟩⟩ | exact ⟨_, _, _, rfl, rfl, zFc.rfl hJ, Or.inl ⟨zif0 h4, rfl⟩⟩
  · refine r_aload_n X (by rfl) dX11_doubled_7 ?_
    refine r_getR X dX11_doubled_8 zF_X11_66 (zt hL 0 rfl) (zrf hL 8 rfl) ?_
    refine r_iload_n X (by rfl) dX11_doubled_11 ?_
    refine r_aload_n X (by rfl) dX11_doubled_12 ?_
    refine r_getI X dX11_doubled_13 zF_X11_74 (zt hL 0 rfl) ?_
    refine r_callV X dX11_doubled_16 zLV_X11_243 zCd_X1_doublesOf (e_X1_doublesOf _ G z τ ρ _ _ (zt hL 30 rfl) (zrf hL 31 rfl) (zt hL 31 rfl) _ _ (zif1 h4) hRl.1.2) (zt hL 30 rfl) ⟨by decide, rfl, rfl⟩ rfl rfl ⟨⟨rfl, rfl⟩, ⟨by decide, by decide⟩, ⟨Nat.le_of_ble_eq_true rfl, Nat.le_of_ble_eq_true rfl⟩, Nat.le_of_ble_eq_true rfl⟩ ?_
    rintro _ _ ⟨r, ι2, rfl, rfl, hf2, hr2⟩
    refine r_goto X 24 dX11_doubled_19 (by decide) ?_
    refine r_ireturn X hR dX11_doubled_24 rfl (Nat.zero_le _) (Nat.zero_le _) ?_
    first | exact ⟨_, _, _, rfl, rfl, zFc_fr hJ (fun b q => hf2 b (by unfold zCx at q; omega)), Or.inr ⟨zif1 h4, hr2⟩⟩ | exact ⟨_, _, _, rfl, rfl, zFc.rfl hJ, Or.inl ⟨zif0 h4, rfl⟩⟩
set_option maxHeartbeats 4000000 in
set_option maxRecDepth 100000 in
theorem e_X12_doubled (l : Launch) (G : zG) (z : Nat) (τ : Nat → Option (Nat × Nat)) (ρ : Nat → Nat → Option Nat) (ι : Nat → Nat → Int32) (κ : Nat → Nat → Int64) {B c : Nat} (hL : zLay τ ρ B c) (hRl : 100 ≤ (ι (B + 38) 0).toInt ∧ (ι (B + 38) 0).toInt ≤ 50000) (x : Int32) : zM l G yX12_doubled cX12_doubled 7 (some .int) ({ frames := 2, cells := 0, slots := 0, locals := 49 } : Room) [.ref (B + 38), .int x] (z, τ, ρ, ι, κ) (fun v s => ∃ r ι2 κ2, v = some (.int r) ∧ s = (z, τ, ρ, ι2, κ2) ∧ zFm B ι ι2 ∧ ((¬ (0 ≤ x.toInt ∧ x.toInt ≤ 3) ∧ r = -2) ∨ ((0 ≤ x.toInt ∧ x.toInt ≤ 3) ∧ r.toInt = (zDa (zPb x (ι (B + 38) 0)) : Int)))) 0 0 := by
  refine zM_of zCd_X12_doubled (Nat.le_of_ble_eq_true rfl) ?_
  intro E X hR hE
  subst hE
  show zW E G 7 (z, τ, ρ, ι, κ) 0 0 0 [(0, .ref (B + 38)), (1, .int x)] []
  have L45 : ∀ (hx : (0 ≤ x.toInt ∧ x.toInt ≤ 3)) (ι1 : Nat → Nat → Int32), zFm B ι ι1 → (∀ k : Nat, k < 60 → (ι1 (B + 62) (k + 1)).toInt = (zPb x (ι (B + 38) 0)) k) → ∀ (m : Nat) (i p : Int32), (61 - i.toInt).toNat < m → 1 ≤ i.toInt → i.toInt ≤ 61 → p.toInt = (zSu (zDr (zPb x (ι (B + 38) 0))) (i.toNatClampNeg - 1) : Int) → zW E G 7 (z, τ, ρ, ι1, κ) 0 0 45 [(0, .ref (B + 38)), (1, .int x), (2, .int p), (3, .int i)] [] := by
    intro hx ι1 hf hA m
    induction m with
    | zero => intro i p h; omega
    | succ m ih => ?_
    intro i p hm h0 h61 hp0
    have hic := zclN (i := i) (by omega)
    have L56 : ∀ (hi : i.toInt ≤ 60) (m2 : Nat) (j p : Int32), (62 - j.toInt).toNat < m2 → i.toInt < j.toInt → j.toInt ≤ 61 → p.toInt = (zSu (zDr (zPb x (ι (B + 38) 0))) (i.toNatClampNeg - 1) : Int) + (zSu (zDb (zPb x (ι (B + 38) 0)) (i.toNatClampNeg - 1)) (j.toNatClampNeg - 1) : Int) → zW E G 7 (z, τ, ρ, ι1, κ) 0 0 56 [(0, .ref (B + 38)), (1, .int x), (2, .int p), (3, .int i), (4, .int j)] [] := by
      intro hi m2
      induction m2 with
      | zero => intro j p h; omega
      | succ m2 ih2 => ?_
      intro j p hm2 hj0 hj61 hp
      have hjc := zclN (i := j) (by omega)
      have L69 : ∀ (hj : j.toInt ≤ 60) (m3 : Nat) (k q : Int32), (61 - k.toInt).toNat < m3 → 1 ≤ k.toInt → k.toInt ≤ 61 → q = (if zHs (zPb x (ι (B + 38) 0)) (k.toNatClampNeg - 1) ((zPb x (ι (B + 38) 0)) (i.toNatClampNeg - 1) + (zPb x (ι (B + 38) 0)) (j.toNatClampNeg - 1)) = true then (1 : Int32) else 0) → zW E G 7 (z, τ, ρ, ι1, κ) 0 0 69 [(0, .ref (B + 38)), (1, .int x), (2, .int p), (3, .int i), (4, .int j), (5, .int q), (6, .int k)] [] := by
        intro hj m3
        induction m3 with
        | zero => intro k q h; omega
        | succ m3 ih3 => ?_
        intro k q hm3 hk0 hk61 hq
        have hkc := zclN (i := k) (by omega)
        have eAi := hA (i.toNatClampNeg - 1) (by omega)
        have eAj := hA (j.toNatClampNeg - 1) (by omega)
        rw [show i.toNatClampNeg - 1 + 1 = i.toNatClampNeg by omega] at eAi
        rw [show j.toNatClampNeg - 1 + 1 = j.toNatClampNeg by omega] at eAj
        have bi := zPb_b hx hRl (k := i.toNatClampNeg - 1) (by omega)
        have bj := zPb_b hx hRl (k := j.toNatClampNeg - 1) (by omega)
        refine r_iload X (by rfl) dX12_doubled_69 ?_
        refine r_bipush X 60 (by decide) dX12_doubled_71 ?_
        refine r_icmp_gt X 118 dX12_doubled_73 (by decide) (fun h73 => ?_) (fun h73 => ?_)
        · rw [show Int32.toInt 60 = 60 from rfl] at h73
          have hke : k.toNatClampNeg - 1 = 60 := by omega
          rw [hke] at hq
          have hb1 := zSu_bd (f := zDr (zPb x (ι (B + 38) 0))) zDr_b (i.toNatClampNeg - 1)
          have hb2 := zSu_bd (f := zDb (zPb x (ι (B + 38) 0)) (i.toNatClampNeg - 1)) zDb_1 (j.toNatClampNeg - 1)
          refine r_iload_n X (by rfl) dX12_doubled_118 ?_
          refine r_iload X (by rfl) dX12_doubled_119 ?_
          refine r_if_eq X 128 dX12_doubled_121 (by decide) (fun h121 => ?_) (fun h121 => ?_)
          · have hd0 : zDb (zPb x (ι (B + 38) 0)) (i.toNatClampNeg - 1) (j.toNatClampNeg - 1) = 0 := if_neg (fun g => by rw [g.2] at hq; rw [hq] at h121; exact absurd h121 (by decide))
            have ep0 : (p + 0).toInt = p.toInt := by rw [zaddI (x := p) (y := 0) (by rw [show Int32.toInt 0 = 0 from rfl]; omega) (by rw [show Int32.toInt 0 = 0 from rfl]; omega), show Int32.toInt 0 = 0 from rfl, Int.add_zero]
            refine r_iconst X 0 (by decide) dX12_doubled_128 ?_
            refine r_iadd X dX12_doubled_129 ?_
            refine r_istore_n X (by decide) dX12_doubled_130 ?_
            refine r_iinc X 1 (by decide) (by rfl) (by decide) dX12_doubled_131 ?_
            refine r_goto X 56 dX12_doubled_134 (by decide) ?_
            exact zW.loc5 (by rfl) (by rfl) (by rfl) (by rfl) (by rfl) (ih2 _ _ (by have e := zinc (x := j) (by omega); omega) (by have e := zinc (x := j) (by omega); omega) (by have e := zinc (x := j) (by omega); omega) (by have e := zinc (x := j) (by omega); have e2 := zclN (i := j + 1) (by omega); rw [show (j + 1).toNatClampNeg - 1 = j.toNatClampNeg - 1 + 1 by omega, zSu]; first | (rw [ep1, hd1]; omega) | (rw [ep0, hd0]; omega)))
          · have hd1 : zDb (zPb x (ι (B + 38) 0)) (i.toNatClampNeg - 1) (j.toNatClampNeg - 1) = 1 := if_pos ⟨by omega, by
              cases e : zHs (zPb x (ι (B + 38) 0)) 60 ((zPb x (ι (B + 38) 0)) (i.toNatClampNeg - 1) + (zPb x (ι (B + 38) 0)) (j.toNatClampNeg - 1)) with
              | true => rfl
              | false => rw [e] at hq; exact absurd hq h121⟩
            have ep1 : (p + 1).toInt = p.toInt + 1 := zinc (by omega)
            refine r_iconst X 1 (by decide) dX12_doubled_124 ?_
            refine r_goto X 129 dX12_doubled_125 (by decide) ?_
            refine r_iadd X dX12_doubled_129 ?_
            refine r_istore_n X (by decide) dX12_doubled_130 ?_
            refine r_iinc X 1 (by decide) (by rfl) (by decide) dX12_doubled_131 ?_
            refine r_goto X 56 dX12_doubled_134 (by decide) ?_
            exact zW.loc5 (by rfl) (by rfl) (by rfl) (by rfl) (by rfl) (ih2 _ _ (by have e := zinc (x := j) (by omega); omega) (by have e := zinc (x := j) (by omega); omega) (by have e := zinc (x := j) (by omega); omega) (by have e := zinc (x := j) (by omega); have e2 := zclN (i := j + 1) (by omega); rw [show (j + 1).toNatClampNeg - 1 = j.toNatClampNeg - 1 + 1 by omega, zSu]; first | (rw [ep1, hd1]; omega) | (rw [ep0, hd0]; omega)))
        · rw [show Int32.toInt 60 = 60 from rfl] at h73
          refine r_iload X (by rfl) dX12_doubled_76 ?_
          refine r_if_ne X 105 dX12_doubled_78 (by decide) (fun h78 => ?_) (fun h78 => ?_)
          · refine r_iconst X 1 (by decide) dX12_doubled_105 ?_
            refine r_goto X 110 dX12_doubled_106 (by decide) ?_
            refine r_istore X (by decide) dX12_doubled_110 ?_
            have eAk := hA (k.toNatClampNeg - 1) (by omega)
            rw [show k.toNatClampNeg - 1 + 1 = k.toNatClampNeg by omega] at eAk
            have esm : (ι1 (B + 62) i.toNatClampNeg + ι1 (B + 62) j.toNatClampNeg).toInt = (zPb x (ι (B + 38) 0)) (i.toNatClampNeg - 1) + (zPb x (ι (B + 38) 0)) (j.toNatClampNeg - 1) := by rw [zaddI (by omega) (by omega), eAi, eAj]
            have hq2 : (1 : Int32) = if (zHs (zPb x (ι (B + 38) 0)) (k.toNatClampNeg - 1) ((zPb x (ι (B + 38) 0)) (i.toNatClampNeg - 1) + (zPb x (ι (B + 38) 0)) (j.toNatClampNeg - 1)) || decide ((zPb x (ι (B + 38) 0)) (k.toNatClampNeg - 1) = (zPb x (ι (B + 38) 0)) (i.toNatClampNeg - 1) + (zPb x (ι (B + 38) 0)) (j.toNatClampNeg - 1))) = true then 1 else 0 := by
              have h9 : zHs (zPb x (ι (B + 38) 0)) (k.toNatClampNeg - 1) ((zPb x (ι (B + 38) 0)) (i.toNatClampNeg - 1) + (zPb x (ι (B + 38) 0)) (j.toNatClampNeg - 1)) = true := by
                cases e : zHs (zPb x (ι (B + 38) 0)) (k.toNatClampNeg - 1) ((zPb x (ι (B + 38) 0)) (i.toNatClampNeg - 1) + (zPb x (ι (B + 38) 0)) (j.toNatClampNeg - 1)) with
                | true => rfl
                | false => rw [e] at hq; exact absurd hq h78
              rw [h9]; rfl
            refine r_iinc X 1 (by decide) (by rfl) (by decide) dX12_doubled_112 ?_
            refine r_goto X 69 dX12_doubled_115 (by decide) ?_
            exact zW.loc7 (by rfl) (by rfl) (by rfl) (by rfl) (by rfl) (by rfl) (by rfl) (ih3 _ _ (by have e := zinc (x := k) (by omega); omega) (by have e := zinc (x := k) (by omega); omega) (by have e := zinc (x := k) (by omega); omega) (by have e := zinc (x := k) (by omega); have e2 := zclN (i := k + 1) (by omega); rw [show (k + 1).toNatClampNeg - 1 = k.toNatClampNeg - 1 + 1 by omega, zHs]; exact hq2))
          · refine r_aload_n X (by rfl) dX12_doubled_81 ?_
            refine r_getR X dX12_doubled_82 zF_X12_86 (zt hL 38 rfl) (zrf hL 59 rfl) ?_
            refine r_iload X (by rfl) dX12_doubled_85 ?_
            refine r_iaload X dX12_doubled_87 (zt hL 62 rfl) (vp_in_iff.mpr ⟨by omega, by omega⟩) ?_
            refine r_aload_n X (by rfl) dX12_doubled_88 ?_
            refine r_getR X dX12_doubled_89 zF_X12_86 (zt hL 38 rfl) (zrf hL 59 rfl) ?_
            refine r_iload_n X (by rfl) dX12_doubled_92 ?_
            refine r_iaload X dX12_doubled_93 (zt hL 62 rfl) (vp_in_iff.mpr ⟨by omega, by omega⟩) ?_
            refine r_aload_n X (by rfl) dX12_doubled_94 ?_
            refine r_getR X dX12_doubled_95 zF_X12_86 (zt hL 38 rfl) (zrf hL 59 rfl) ?_
            refine r_iload X (by rfl) dX12_doubled_98 ?_
            refine r_iaload X dX12_doubled_100 (zt hL 62 rfl) (vp_in_iff.mpr ⟨by omega, by omega⟩) ?_
            refine r_iadd X dX12_doubled_101 ?_
            refine r_icmp_ne X 109 dX12_doubled_102 (by decide) (fun h102 => ?_) (fun h102 => ?_)
            · refine r_iconst X 0 (by decide) dX12_doubled_109 ?_
              refine r_istore X (by decide) dX12_doubled_110 ?_
              have eAk := hA (k.toNatClampNeg - 1) (by omega)
              rw [show k.toNatClampNeg - 1 + 1 = k.toNatClampNeg by omega] at eAk
              have esm : (ι1 (B + 62) i.toNatClampNeg + ι1 (B + 62) j.toNatClampNeg).toInt = (zPb x (ι (B + 38) 0)) (i.toNatClampNeg - 1) + (zPb x (ι (B + 38) 0)) (j.toNatClampNeg - 1) := by rw [zaddI (by omega) (by omega), eAi, eAj]
              have hq2 : (0 : Int32) = if (zHs (zPb x (ι (B + 38) 0)) (k.toNatClampNeg - 1) ((zPb x (ι (B + 38) 0)) (i.toNatClampNeg - 1) + (zPb x (ι (B + 38) 0)) (j.toNatClampNeg - 1)) || decide ((zPb x (ι (B + 38) 0)) (k.toNatClampNeg - 1) = (zPb x (ι (B + 38) 0)) (i.toNatClampNeg - 1) + (zPb x (ι (B + 38) 0)) (j.toNatClampNeg - 1))) = true then 1 else 0 := by
                rw [decide_eq_false (show ¬ (zPb x (ι (B + 38) 0)) (k.toNatClampNeg - 1) = (zPb x (ι (B + 38) 0)) (i.toNatClampNeg - 1) + (zPb x (ι (B + 38) 0)) (j.toNatClampNeg - 1) from fun e => h102 (Int32.toInt_inj.mp (by rw [eAk, esm, e]))), Bool.or_false, ← hq, h78]
              refine r_iinc X 1 (by decide) (by rfl) (by decide) dX12_doubled_112 ?_
              refine r_goto X 69 dX12_doubled_115 (by decide) ?_
              exact zW.loc7 (by rfl) (by rfl) (by rfl) (by rfl) (by rfl) (by rfl) (by rfl) (ih3 _ _ (by have e := zinc (x := k) (by omega); omega) (by have e := zinc (x := k) (by omega); omega) (by have e := zinc (x := k) (by omega); omega) (by have e := zinc (x := k) (by omega); have e2 := zclN (i := k + 1) (by omega); rw [show (k + 1).toNatClampNeg - 1 = k.toNatClampNeg - 1 + 1 by omega, zHs]; exact hq2))
            · refine r_iconst X 1 (by decide) dX12_doubled_105 ?_
              refine r_goto X 110 dX12_doubled_106 (by decide) ?_
              refine r_istore X (by decide) dX12_doubled_110 ?_
              have eAk := hA (k.toNatClampNeg - 1) (by omega)
              rw [show k.toNatClampNeg - 1 + 1 = k.toNatClampNeg by omega] at eAk
              have esm : (ι1 (B + 62) i.toNatClampNeg + ι1 (B + 62) j.toNatClampNeg).toInt = (zPb x (ι (B + 38) 0)) (i.toNatClampNeg - 1) + (zPb x (ι (B + 38) 0)) (j.toNatClampNeg - 1) := by rw [zaddI (by omega) (by omega), eAi, eAj]
              have hq2 : (1 : Int32) = if (zHs (zPb x (ι (B + 38) 0)) (k.toNatClampNeg - 1) ((zPb x (ι (B + 38) 0)) (i.toNatClampNeg - 1) + (zPb x (ι (B + 38) 0)) (j.toNatClampNeg - 1)) || decide ((zPb x (ι (B + 38) 0)) (k.toNatClampNeg - 1) = (zPb x (ι (B + 38) 0)) (i.toNatClampNeg - 1) + (zPb x (ι (B + 38) 0)) (j.toNatClampNeg - 1))) = true then 1 else 0 := by
                rw [decide_eq_true (show (zPb x (ι (B + 38) 0)) (k.toNatClampNeg - 1) = (zPb x (ι (B + 38) 0)) (i.toNatClampNeg - 1) + (zPb x (ι (B + 38) 0)) (j.toNatClampNeg - 1) by rw [← eAk, h102, esm]), Bool.or_true]; rfl
              refine r_iinc X 1 (by decide) (by rfl) (by decide) dX12_doubled_112 ?_
              refine r_goto X 69 dX12_doubled_115 (by decide) ?_
              exact zW.loc7 (by rfl) (by rfl) (by rfl) (by rfl) (by rfl) (by rfl) (by rfl) (ih3 _ _ (by have e := zinc (x := k) (by omega); omega) (by have e := zinc (x := k) (by omega); omega) (by have e := zinc (x := k) (by omega); omega) (by have e := zinc (x := k) (by omega); have e2 := zclN (i := k + 1) (by omega); rw [show (k + 1).toNatClampNeg - 1 = k.toNatClampNeg - 1 + 1 by omega, zHs]; exact hq2))
      refine r_iload X (by rfl) dX12_doubled_56 ?_
      refine r_bipush X 60 (by decide) dX12_doubled_58 ?_
      refine r_icmp_gt X 137 dX12_doubled_60 (by decide) (fun h60 => ?_) (fun h60 => ?_)
      · rw [show Int32.toInt 60 = 60 from rfl] at h60
        have hj60 : j.toNatClampNeg - 1 = 60 := by omega
        refine r_iinc X 1 (by decide) (by rfl) (by decide) dX12_doubled_137 ?_
        refine r_goto X 45 dX12_doubled_140 (by decide) ?_
        exact zW.loc4 (by rfl) (by rfl) (by rfl) (by rfl) (ih _ _ (by have e := zinc (x := i) (by omega); omega) (by have e := zinc (x := i) (by omega); omega) (by have e := zinc (x := i) (by omega); omega) (by have e := zinc (x := i) (by omega); have e2 := zclN (i := i + 1) (by omega); rw [show (i + 1).toNatClampNeg - 1 = i.toNatClampNeg - 1 + 1 by omega, zSu, hp, show j.toNatClampNeg - 1 = 60 by omega]; unfold zDr; omega))
      · rw [show Int32.toInt 60 = 60 from rfl] at h60
        refine r_iconst X 0 (by decide) dX12_doubled_63 ?_
        refine r_istore X (by decide) dX12_doubled_64 ?_
        refine r_iconst X 1 (by decide) dX12_doubled_66 ?_
        refine r_istore X (by decide) dX12_doubled_67 ?_
        exact zW.loc7 (by rfl) (by rfl) (by rfl) (by rfl) (by rfl) (by rfl) (by rfl) (L69 h60 61 _ _ (by decide) (by decide) (by decide) (by rfl))
    refine r_iload_n X (by rfl) dX12_doubled_45 ?_
    refine r_bipush X 60 (by decide) dX12_doubled_46 ?_
    refine r_icmp_gt X 143 dX12_doubled_48 (by decide) (fun h48 => ?_) (fun h48 => ?_)
    · rw [show Int32.toInt 60 = 60 from rfl] at h48
      refine r_iload_n X (by rfl) dX12_doubled_143 ?_
      refine r_ireturn X hR dX12_doubled_144 rfl (Nat.zero_le _) (Nat.zero_le _) ?_
      refine ⟨_, _, _, rfl, rfl, hf, Or.inr ⟨hx, ?_⟩⟩
      rw [hp0, show i.toNatClampNeg - 1 = 60 by omega]
      rfl
    · rw [show Int32.toInt 60 = 60 from rfl] at h48
      refine r_iload_n X (by rfl) dX12_doubled_51 ?_
      refine r_iconst X 1 (by decide) dX12_doubled_52 ?_
      refine r_iadd X dX12_doubled_53 ?_
      refine r_istore X (by decide) dX12_doubled_54 ?_
      exact zW.loc5 (by rfl) (by rfl) (by rfl) (by rfl) (by rfl) (L56 h48 63 _ _ (by have e := zinc (x := i) (by omega); omega) (by have e := zinc (x := i) (by omega); omega) (by have e := zinc (x := i) (by omega); omega) (by have e := zinc (x := i) (by omega); have e2 := zclN (i := i + 1) (by omega); rw [zSu_zero (f := zDb (zPb x (ι (B + 38) 0)) (i.toNatClampNeg - 1)) ((i + 1).toNatClampNeg - 1) (fun k hk => if_neg (fun g => by have := g.1; omega))]; omega))
  have L17 : ∀ (hx : (0 ≤ x.toInt ∧ x.toInt ≤ 3)) (m : Nat) (i : Int32) (ι1 : Nat → Nat → Int32), (61 - i.toInt).toNat < m → 1 ≤ i.toInt → zFm B ι ι1 → (∀ k : Nat, (k : Int) + 1 < i.toInt → (ι1 (B + 62) (k + 1)).toInt = (zPb x (ι (B + 38) 0)) k) → zW E G 7 (z, τ, ρ, ι1, κ) 0 0 17 [(0, .ref (B + 38)), (1, .int x), (2, .int i)] [] := by
    intro hx m
    induction m with
    | zero => intro i ι1 h; omega
    | succ m ih => ?_
    intro i ι1 hm h0 hf hA
    have hic := zclN (i := i) (by omega)
    have e38 : ι1 (B + 38) 0 = ι (B + 38) 0 := hf _ _ (by unfold zCm; omega)
    refine r_iload_n X (by rfl) dX12_doubled_17 ?_
    refine r_bipush X 60 (by decide) dX12_doubled_18 ?_
    refine r_icmp_gt X 41 dX12_doubled_20 (by decide) (fun h20 => ?_) (fun h20 => ?_)
    · rw [show Int32.toInt 60 = 60 from rfl] at h20
      refine r_iconst X 0 (by decide) dX12_doubled_41 ?_
      refine r_istore_n X (by decide) dX12_doubled_42 ?_
      refine r_iconst X 1 (by decide) dX12_doubled_43 ?_
      refine r_istore_n X (by decide) dX12_doubled_44 ?_
      exact zW.loc4 (by rfl) (by rfl) (by rfl) (by rfl) (L45 hx _ hf (fun k hk => hA k (by omega)) 61 _ _ (by decide) (by decide) (by decide) (by rfl))
    · rw [show Int32.toInt 60 = 60 from rfl] at h20
      refine r_aload_n X (by rfl) dX12_doubled_23 ?_
      refine r_getR X dX12_doubled_24 zF_X12_86 (zt hL 38 rfl) (zrf hL 59 rfl) ?_
      refine r_iload_n X (by rfl) dX12_doubled_27 ?_
      refine r_aload_n X (by rfl) dX12_doubled_28 ?_
      refine r_iload_n X (by rfl) dX12_doubled_29 ?_
      refine r_iload_n X (by rfl) dX12_doubled_30 ?_
      refine r_callV X dX12_doubled_31 zLV_X12_271 zCd_X12_lawPlace (c_X12_lawPlace _ G z τ ρ _ _ hL _ _ hx ⟨h0, by omega⟩) (zt hL 38 rfl) ⟨by decide, rfl, rfl⟩ rfl rfl ⟨⟨rfl, rfl⟩, ⟨by decide, by decide⟩, ⟨Nat.le_of_ble_eq_true rfl, Nat.le_of_ble_eq_true rfl⟩, Nat.le_of_ble_eq_true rfl⟩ ?_
      rintro _ _ ⟨rfl, rfl⟩
      refine r_iastore X dX12_doubled_34 (zt hL 62 rfl) (vp_in_iff.mpr ⟨by omega, by omega⟩) ?_
      refine r_iinc X 1 (by decide) (by rfl) (by decide) dX12_doubled_35 ?_
      refine r_goto X 17 dX12_doubled_38 (by decide) ?_
      exact zW.loc3 (by rfl) (by rfl) (by rfl) (ih _ _ (by have e := zinc (x := i) (by omega); omega) (by have e := zinc (x := i) (by omega); omega) (hf.u (by unfold zCm; omega)) (fun k hk => by
        have e := zinc (x := i) (by omega)
        by_cases e2 : k + 1 = i.toNatClampNeg
        · rw [e2, zu_s]
          unfold zPb
          rw [e2, zofN (by omega), e38]
        · rw [zu_k e2]; exact hA k (by omega)))
  refine r_iload_n X (by rfl) dX12_doubled_0 ?_
  refine r_i2l X dX12_doubled_1 ?_
  refine r_lconst X 0 (by decide) dX12_doubled_2 ?_
  refine r_ldc2 X zK_X12_171 dX12_doubled_3 ?_
  refine r_callS X dX12_doubled_6 zLS_X12_163 zCd_X12_in (c_X12_in _ G z τ ρ _ _ _ _ _) rfl rfl ⟨⟨rfl, rfl⟩, ⟨by decide, by decide⟩, ⟨Nat.le_of_ble_eq_true rfl, Nat.le_of_ble_eq_true rfl⟩, Nat.le_of_ble_eq_true rfl⟩ ?_
  rintro _ _ ⟨rfl, rfl⟩
  rw [Int32.toInt_toInt64, show Int64.toInt 0 = 0 from rfl, show Int64.toInt 3 = 3 from rfl]
  refine r_if_ne X 15 dX12_doubled_9 (by decide) (fun h9 => ?_) (fun h9 => ?_)
  · refine r_iconst X 1 (by decide) dX12_doubled_15 ?_
    refine r_istore_n X (by decide) dX12_doubled_16 ?_
    exact zW.loc3 (by rfl) (by rfl) (by rfl) (L17 (zif1 h9) 61 _ _ (by decide) (by decide) zFm.rfl (fun k hk => by rw [show Int32.toInt 1 = 1 from rfl] at hk; omega))
  · refine r_bipush X (-2) (by decide) dX12_doubled_12 ?_
    refine r_ireturn X hR dX12_doubled_14 rfl (Nat.zero_le _) (Nat.zero_le _) ?_
    exact ⟨_, _, _, rfl, rfl, zFm.rfl, Or.inl ⟨zif0 h9, rfl⟩⟩
def zD1_doubled (B : Nat) (ι : Nat → Nat → Int32) (x r : Int32) : Prop := (¬ (0 ≤ x.toInt ∧ x.toInt ≤ 3) ∧ r = -2) ∨ ((0 ≤ x.toInt ∧ x.toInt ≤ 3) ∧ r.toInt = (zDa (zPa x (ι B 10)) : Int))
def zD2_doubled (B : Nat) (ι : Nat → Nat → Int32) (x r : Int32) : Prop := (¬ (0 ≤ x.toInt ∧ x.toInt ≤ 3) ∧ r = -2) ∨ ((0 ≤ x.toInt ∧ x.toInt ≤ 3) ∧ r.toInt = (zDa (zPb x (ι (B + 38) 0)) : Int))
theorem zT_doubled {B c : Nat} {ι ι1 : Nat → Nat → Int32} (hR : zRel B c ι) (hE : zEc B ι ι1) {x r1 r2 : Int32} (h1 : zD1_doubled B ι x r1) (h2 : zD2_doubled B ι1 x r2) : r1 = r2 := by
  have e38 : ι1 (B + 38) 0 = ι (B + 38) 0 := hE _ _ (by unfold zCc; omega) (by omega)
  unfold zD2_doubled at h2
  rw [e38] at h2
  rcases h1 with ⟨h0, rfl⟩ | ⟨h0, h1⟩ <;> rcases h2 with ⟨g0, rfl⟩ | ⟨g0, h2⟩
  · rfl
  · exact absurd g0 h0
  · exact absurd h0 g0
  · refine Int32.toInt_inj.mp ?_
    rw [h1, h2, zPab h0 hR.1.2, hR.1.1]
