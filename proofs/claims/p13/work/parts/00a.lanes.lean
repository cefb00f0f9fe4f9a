/-! lanes of 88 bits in one number (wip/places) -/
theorem sl_and (i : Nat) {a b A B : Nat} (ha : a < 2 ^ i) (hb : b < 2 ^ i) : (2 ^ i * A + a) &&& (2 ^ i * B + b) = 2 ^ i * (A &&& B) + (a &&& b) := by
  apply Nat.eq_of_testBit_eq
  intro j
  rw [Nat.testBit_and, Nat.testBit_two_pow_mul_add A ha, Nat.testBit_two_pow_mul_add B hb, Nat.testBit_two_pow_mul_add (A &&& B) (Nat.and_lt_two_pow a hb)]
  by_cases h : j < i
  · rw [if_pos h, if_pos h, if_pos h, Nat.testBit_and]
  · rw [if_neg h, if_neg h, if_neg h, Nat.testBit_and]
/-- lane i of the packed number is f i -/
def sl_pk : Nat → (Nat → Nat) → Nat
  | 0, _ => 0
  | n + 1, f => 2 ^ 88 * sl_pk n (fun i => f (i + 1)) + f 0
theorem sl_pk_s (n : Nat) (f : Nat → Nat) : sl_pk (n + 1) f = 2 ^ 88 * sl_pk n (fun i => f (i + 1)) + f 0 := rfl
theorem sl_pk_congr : ∀ (n : Nat) (f g : Nat → Nat), (∀ i, i < n → f i = g i) → sl_pk n f = sl_pk n g
  | 0, _, _, _ => rfl
  | n + 1, f, g, h => by
    rw [sl_pk_s, sl_pk_s, h 0 (Nat.succ_pos n), sl_pk_congr n (fun i => f (i + 1)) (fun i => g (i + 1)) (fun i hi => h (i + 1) (Nat.succ_lt_succ hi))]
theorem sl_pk_and : ∀ (n : Nat) (f g : Nat → Nat), (∀ i, i < n → f i < 2 ^ 88) → (∀ i, i < n → g i < 2 ^ 88) → sl_pk n f &&& sl_pk n g = sl_pk n (fun i => f i &&& g i)
  | 0, _, _, _, _ => Nat.and_self 0
  | n + 1, f, g, hf, hg => by
    rw [sl_pk_s, sl_pk_s, sl_pk_s, sl_and 88 (hf 0 (Nat.succ_pos n)) (hg 0 (Nat.succ_pos n)), sl_pk_and n (fun i => f (i + 1)) (fun i => g (i + 1)) (fun i hi => hf (i + 1) (Nat.succ_lt_succ hi)) (fun i hi => hg (i + 1) (Nat.succ_lt_succ hi))]
theorem sl_pk_add : ∀ (n : Nat) (f g : Nat → Nat), sl_pk n (fun i => f i + g i) = sl_pk n f + sl_pk n g
  | 0, _, _ => rfl
  | n + 1, f, g => by
    rw [sl_pk_s, sl_pk_s, sl_pk_s, sl_pk_add n (fun i => f (i + 1)) (fun i => g (i + 1)), Nat.mul_add]
    exact Nat.add_add_add_comm _ _ _ _
theorem sl_pk_sub (n : Nat) (f g : Nat → Nat) (h : ∀ i, i < n → g i ≤ f i) : sl_pk n f - sl_pk n g = sl_pk n (fun i => f i - g i) := by
  have h1 := sl_pk_add n (fun i => f i - g i) g
  have h2 : sl_pk n (fun i => f i - g i + g i) = sl_pk n f := sl_pk_congr n _ _ (fun i hi => Nat.sub_add_cancel (h i hi))
  rw [← h2, h1, Nat.add_sub_cancel]
theorem sl_pk_mul : ∀ (n c : Nat) (f : Nat → Nat), c * sl_pk n f = sl_pk n (fun i => c * f i)
  | 0, _, _ => rfl
  | n + 1, c, f => by
    rw [sl_pk_s, sl_pk_s, ← sl_pk_mul n c (fun i => f (i + 1)), Nat.mul_add, Nat.mul_left_comm]
/-- one in each lane -/
def sl_i (n : Nat) : Nat := sl_pk n (fun _ => 1)
theorem sl_pk_c (n c : Nat) : sl_i n * c = sl_pk n (fun _ => c) := by
  rw [Nat.mul_comm, sl_i, sl_pk_mul]
  exact sl_pk_congr n _ _ (fun i _ => Nat.mul_one c)
theorem sl_i_e : ∀ n : Nat, sl_i n * (2 ^ 88 - 1) + 1 = 2 ^ (88 * n)
  | 0 => rfl
  | n + 1 => by
    have ih := sl_i_e n
    have e : 2 ^ (88 * (n + 1)) = 2 ^ 88 * 2 ^ (88 * n) := by rw [Nat.mul_add, Nat.mul_one, Nat.pow_add, Nat.mul_comm]
    rw [e, ← ih]
    show (2 ^ 88 * sl_i n + 1) * (2 ^ 88 - 1) + 1 = _
    rw [Nat.add_mul, Nat.one_mul, Nat.mul_assoc, Nat.mul_add, Nat.mul_one, Nat.add_assoc, Nat.sub_add_cancel (Nat.two_pow_pos 88)]
noncomputable def sl_one (n : Nat) : Nat := Nat.div (Nat.sub (Nat.pow 2 (88 * n)) 1) (Nat.sub (Nat.pow 2 88) 1)
theorem sl_one_e (n : Nat) : sl_one n = sl_i n := by
  have h := sl_i_e n
  show (2 ^ (88 * n) - 1) / (2 ^ 88 - 1) = sl_i n
  rw [← h, Nat.add_sub_cancel]
  exact Nat.mul_div_cancel _ (by decide)
theorem sl_pk_z : ∀ (n : Nat) (f : Nat → Nat), sl_pk n f = 0 → ∀ i, i < n → f i = 0
  | 0, _, _, i, hi => absurd hi (Nat.not_lt_zero i)
  | n + 1, f, h, i, hi => by
    rw [sl_pk_s] at h
    obtain ⟨h1, h2⟩ := Nat.add_eq_zero_iff.mp h
    cases i with
    | zero => exact h2
    | succ i =>
      have h3 : sl_pk n (fun i => f (i + 1)) = 0 := by
        rcases Nat.mul_eq_zero.mp h1 with q | q
        · exact absurd q (by decide)
        · exact q
      exact sl_pk_z n (fun i => f (i + 1)) h3 i (Nat.lt_of_succ_lt_succ hi)
theorem sl_pk_inj : ∀ (n : Nat) (f g : Nat → Nat), (∀ i, i < n → f i < 2 ^ 88) → (∀ i, i < n → g i < 2 ^ 88) → sl_pk n f = sl_pk n g → ∀ i, i < n → f i = g i
  | 0, _, _, _, _, _, i, hi => absurd hi (Nat.not_lt_zero i)
  | n + 1, f, g, hf, hg, h, i, hi => by
    rw [sl_pk_s, sl_pk_s] at h
    have h0 := hf 0 (Nat.succ_pos n)
    have g0 := hg 0 (Nat.succ_pos n)
    have e0 : f 0 = g 0 := by
      have := congrArg (· % 2 ^ 88) h
      simp only [Nat.mul_add_mod] at this
      rwa [Nat.mod_eq_of_lt h0, Nat.mod_eq_of_lt g0] at this
    cases i with
    | zero => exact e0
    | succ i =>
      rw [e0] at h
      have h3 := Nat.eq_of_mul_eq_mul_left (Nat.two_pow_pos 88) (Nat.add_right_cancel h)
      exact sl_pk_inj n (fun i => f (i + 1)) (fun i => g (i + 1)) (fun i hi => hf (i + 1) (Nat.succ_lt_succ hi)) (fun i hi => hg (i + 1) (Nat.succ_lt_succ hi)) h3 i (Nat.lt_of_succ_lt_succ hi)
/-- the guard bit of a lane -/
theorem sl_g {d : Nat} (h : d < 2 ^ 88) : d &&& 2 ^ 87 = 2 ^ 87 * (d / 2 ^ 87) := by
  have h1 := sl_and 87 (a := d % 2 ^ 87) (b := 0) (A := d / 2 ^ 87) (B := 1) (Nat.mod_lt _ (Nat.two_pow_pos 87)) (Nat.two_pow_pos 87)
  rw [Nat.div_add_mod, Nat.mul_one, Nat.add_zero, Nat.and_zero, Nat.add_zero, Nat.and_one_is_mod] at h1
  rw [h1, Nat.mod_eq_of_lt (Nat.div_lt_of_lt_mul (by rw [show (2 : Nat) ^ 87 * 2 = 2 ^ 88 from by decide]; exact h))]
theorem sl_gb {d : Nat} (h : d < 2 ^ 88) : d / 2 ^ 87 = 0 ∧ d < 2 ^ 87 ∨ d / 2 ^ 87 = 1 ∧ 2 ^ 87 ≤ d := by omega
noncomputable def sl_sel2 (p t c : Nat) : Nat := Nat.sub p (Nat.land t (Nat.sub c (Nat.shiftRight c 87)))
noncomputable def sl_sel (G p t : Nat) : Nat := sl_sel2 p t (Nat.land (Nat.sub p t) G)
def sl_l0 (p t : Nat) : Nat := if 2 ^ 87 ≤ p - t then p - t else p
theorem sl_sel_pk (n : Nat) (p t : Nat → Nat) (hp : ∀ i, i < n → p i < 2 ^ 88) (ht : ∀ i, i < n → t i < 2 ^ 87) (hle : ∀ i, i < n → t i ≤ p i) :
    sl_sel (sl_pk n (fun _ => 2 ^ 87)) (sl_pk n p) (sl_pk n t) = sl_pk n (fun i => sl_l0 (p i) (t i)) := by
  have hd : ∀ i, i < n → p i - t i < 2 ^ 88 := fun i hi => Nat.lt_of_le_of_lt (Nat.sub_le _ _) (hp i hi)
  have e1 : Nat.sub (sl_pk n p) (sl_pk n t) = sl_pk n (fun i => p i - t i) := sl_pk_sub n p t hle
  have e2 : Nat.land (sl_pk n (fun i => p i - t i)) (sl_pk n (fun _ => 2 ^ 87)) = sl_pk n (fun i => 2 ^ 87 * ((p i - t i) / 2 ^ 87)) :=
    (sl_pk_and n _ _ hd (fun _ _ => by decide)).trans (sl_pk_congr n _ _ (fun i hi => sl_g (hd i hi)))
  have e3 : Nat.shiftRight (sl_pk n (fun i => 2 ^ 87 * ((p i - t i) / 2 ^ 87))) 87 = sl_pk n (fun i => (p i - t i) / 2 ^ 87) := by
    rw [← sl_pk_mul n (2 ^ 87) (fun i => (p i - t i) / 2 ^ 87)]
    exact (Nat.shiftRight_eq_div_pow _ 87).trans (Nat.mul_div_cancel_left _ (Nat.two_pow_pos 87))
  have hb : ∀ i, i < n → (p i - t i) / 2 ^ 87 ≤ 2 ^ 87 * ((p i - t i) / 2 ^ 87) := fun i _ => Nat.le_mul_of_pos_left _ (Nat.two_pow_pos 87)
  have e4 : Nat.sub (sl_pk n (fun i => 2 ^ 87 * ((p i - t i) / 2 ^ 87))) (sl_pk n (fun i => (p i - t i) / 2 ^ 87)) = sl_pk n (fun i => 2 ^ 87 * ((p i - t i) / 2 ^ 87) - (p i - t i) / 2 ^ 87) := sl_pk_sub n _ _ hb
  have hm : ∀ i, i < n → 2 ^ 87 * ((p i - t i) / 2 ^ 87) - (p i - t i) / 2 ^ 87 < 2 ^ 88 := fun i hi => by
    have := hd i hi; omega
  have e5 : Nat.land (sl_pk n t) (sl_pk n (fun i => 2 ^ 87 * ((p i - t i) / 2 ^ 87) - (p i - t i) / 2 ^ 87)) = sl_pk n (fun i => t i &&& (2 ^ 87 * ((p i - t i) / 2 ^ 87) - (p i - t i) / 2 ^ 87)) :=
    sl_pk_and n _ _ (fun i hi => Nat.lt_trans (ht i hi) (by decide)) hm
  have e6 : Nat.sub (sl_pk n p) (sl_pk n (fun i => t i &&& (2 ^ 87 * ((p i - t i) / 2 ^ 87) - (p i - t i) / 2 ^ 87))) = sl_pk n (fun i => p i - (t i &&& (2 ^ 87 * ((p i - t i) / 2 ^ 87) - (p i - t i) / 2 ^ 87))) :=
    sl_pk_sub n _ _ (fun i hi => Nat.le_trans Nat.and_le_left (hle i hi))
  unfold sl_sel sl_sel2
  rw [e1, e2, e3, e4, e5, e6]
  refine sl_pk_congr n _ _ (fun i hi => ?_)
  show p i - (t i &&& (2 ^ 87 * ((p i - t i) / 2 ^ 87) - (p i - t i) / 2 ^ 87)) = sl_l0 (p i) (t i)
  unfold sl_l0
  rcases sl_gb (hd i hi) with ⟨h1, h2⟩ | ⟨h1, h2⟩
  · rw [h1, Nat.mul_zero, Nat.sub_zero, Nat.and_zero, Nat.sub_zero, if_neg (Nat.not_le.mpr h2)]
  · rw [h1, Nat.mul_one, Nat.and_two_pow_sub_one_of_lt_two_pow (ht i hi), if_pos h2]
noncomputable def sl_sweep (G q n : Nat) : Nat → Nat :=
  Nat.rec (motive := fun _ => Nat → Nat) (fun p => p) (fun s ih p => ih (sl_sel G p (Nat.shiftLeft q s))) n
def sl_lw (q : Nat) : Nat → Nat → Nat
  | 0, p => p
  | s + 1, p => sl_lw q s (sl_l0 p (q * 2 ^ s))
theorem sl_l0_b {p t : Nat} (h : 2 ^ 87 ≤ p) : 2 ^ 87 ≤ sl_l0 p t ∧ sl_l0 p t ≤ p := by
  unfold sl_l0
  by_cases q : 2 ^ 87 ≤ p - t
  · rw [if_pos q]; exact ⟨q, Nat.sub_le _ _⟩
  · rw [if_neg q]; exact ⟨h, Nat.le_refl _⟩
theorem sl_lw_b (q : Nat) : ∀ (s p : Nat), 2 ^ 87 ≤ p → 2 ^ 87 ≤ sl_lw q s p ∧ sl_lw q s p ≤ p
  | 0, p, h => ⟨h, Nat.le_refl _⟩
  | s + 1, p, h => by
    obtain ⟨h1, h2⟩ := sl_l0_b (t := q * 2 ^ s) h
    obtain ⟨h3, h4⟩ := sl_lw_b q s _ h1
    exact ⟨h3, Nat.le_trans h4 h2⟩
theorem sl_sweep_pk (n : Nat) (q : Nat → Nat) : ∀ (s : Nat) (p : Nat → Nat), (∀ i, i < n → q i * 2 ^ s ≤ 2 ^ 87) → (∀ i, i < n → 2 ^ 87 ≤ p i ∧ p i < 2 ^ 88) →
    sl_sweep (sl_pk n (fun _ => 2 ^ 87)) (sl_pk n q) s (sl_pk n p) = sl_pk n (fun i => sl_lw (q i) s (p i))
  | 0, _, _, _ => rfl
  | s + 1, p, hq, hp => by
    have hq2 : ∀ i, i < n → q i * 2 ^ s ≤ 2 ^ 86 := fun i hi => by
      have := hq i hi
      rw [Nat.pow_succ, ← Nat.mul_assoc] at this
      omega
    have e1 : Nat.shiftLeft (sl_pk n q) s = sl_pk n (fun i => q i * 2 ^ s) := by
      rw [show Nat.shiftLeft (sl_pk n q) s = sl_pk n q * 2 ^ s from Nat.shiftLeft_eq _ _, Nat.mul_comm, sl_pk_mul]
      exact sl_pk_congr n _ _ (fun i _ => Nat.mul_comm _ _)
    show sl_sweep (sl_pk n (fun _ => 2 ^ 87)) (sl_pk n q) s (sl_sel (sl_pk n (fun _ => 2 ^ 87)) (sl_pk n p) (Nat.shiftLeft (sl_pk n q) s)) = _
    rw [e1, sl_sel_pk n p (fun i => q i * 2 ^ s) (fun i hi => (hp i hi).2) (fun i hi => Nat.lt_of_le_of_lt (hq2 i hi) (by decide)) (fun i hi => Nat.le_trans (hq2 i hi) (Nat.le_trans (by decide) (hp i hi).1))]
    rw [sl_sweep_pk n q s (fun i => sl_l0 (p i) (q i * 2 ^ s)) (fun i hi => Nat.le_trans (hq2 i hi) (by decide)) (fun i hi => ⟨(sl_l0_b (hp i hi).1).1, Nat.lt_of_le_of_lt (sl_l0_b (hp i hi).1).2 (hp i hi).2⟩)]
    rfl
