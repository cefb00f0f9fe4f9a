/-! from lanes to distances (wip/places) -/
/-- p and q are what is left of two multiples of X over 2^69 (all signs) -/
def sl_Iv (X p q : Int) : Prop := ∃ a b c d s : Int, (s = 1 ∨ s = -1) ∧ 0 ≤ b ∧ 0 ≤ d ∧ b * c - a * d = s ∧ p = s * (b * X - a * 590295810358705651712) ∧ q = s * (c * 590295810358705651712 - d * X)
theorem sl_Iv_swap {X p q : Int} (h : sl_Iv X p q) : sl_Iv X q p := by
  obtain ⟨a, b, c, d, s, hs, hb, hd, hD, hp, hq⟩ := h
  refine ⟨c, d, a, b, -s, by omega, hd, hb, by grind, by grind, by grind⟩
theorem sl_Iv_step {X p q : Int} (h : sl_Iv X p q) {k : Int} (hk : 0 ≤ k) : sl_Iv X (p - k * q) q := by
  obtain ⟨a, b, c, d, s, hs, hb, hd, hD, hp, hq⟩ := h
  exact ⟨a + k * c, b + k * d, c, d, s, hs, Int.add_nonneg hb (Int.mul_nonneg hk hd), hd, by grind, by grind, hq⟩
theorem sl_Iv_0 (X : Int) : sl_Iv X (590295810358705651712 - X) X := ⟨1, 1, 0, 1, -1, by omega, by omega, by omega, by omega, by omega, by omega⟩
theorem sl_gap1 {α β b d p q L E : Int} (hb : 0 ≤ b) (hd : 0 ≤ d) (hL : L = α * b + β * d) (hP : p * d + q * b = 590295810358705651712) (hE : 0 ≤ E) (hL2 : L ≤ 50000)
    (ha : 1 ≤ α) (hbt : 1 ≤ β) (h1 : α * p - β * q < E) (h2 : β * q - α * p < E) (hp0 : 0 ≤ p) (hm : 50000 * (p + E) < 590295810358705651712) : False := by
  have e1 : L * p = b * (α * p - β * q) + β * (p * d + q * b) := by rw [hL]; grind
  rw [hP] at e1
  have hbL : b ≤ L := by
    have := Int.mul_le_mul_of_nonneg_right ha hb
    have := Int.mul_nonneg (show 0 ≤ β by omega) hd
    omega
  have e2 : b * (-E) ≤ b * (α * p - β * q) := Int.mul_le_mul_of_nonneg_left (by omega) hb
  have e3 : b * E ≤ L * E := Int.mul_le_mul_of_nonneg_right hbL hE
  have e4 : L * (p + E) ≤ 50000 * (p + E) := Int.mul_le_mul_of_nonneg_right hL2 (by omega)
  rw [Int.mul_add] at e4
  rw [Int.mul_neg] at e2
  omega
theorem sl_gap {X p q E : Int} (h : sl_Iv X p q) (hE : 0 ≤ E) (hp : E ≤ p) (hq : E ≤ q) (hm : 50000 * (p + E) < 590295810358705651712 ∨ 50000 * (q + E) < 590295810358705651712)
    (L N : Int) (h0 : 0 < L) (h1 : L ≤ 50000) : E ≤ L * X - N * 590295810358705651712 ∨ E ≤ N * 590295810358705651712 - L * X := by
  obtain ⟨a, b, c, d, s, hs, hb, hd, hD, hp2, hq2⟩ := h
  obtain ⟨α, hα⟩ : ∃ α, α = s * (L * c - N * d) := ⟨_, rfl⟩
  obtain ⟨β, hβ⟩ : ∃ β, β = s * (N * b - L * a) := ⟨_, rfl⟩
  have hss : s * s = 1 := by rcases hs with rfl | rfl <;> decide
  have hL : L = α * b + β * d := by
    have e : α * b + β * d = s * (b * c - a * d) * L := by rw [hα, hβ]; grind
    rw [e, hD, hss, Int.one_mul]
  have hN : N = α * a + β * c := by
    have e : α * a + β * c = s * (b * c - a * d) * N := by rw [hα, hβ]; grind
    rw [e, hD, hss, Int.one_mul]
  have hP : p * d + q * b = 590295810358705651712 := by
    have e : p * d + q * b = s * (b * c - a * d) * 590295810358705651712 := by rw [hp2, hq2]; grind
    rw [e, hD, hss, Int.one_mul]
  have hV : α * p - β * q = s * (L * X - N * 590295810358705651712) := by
    rw [hp2, hq2, hL, hN]; grind
  have key : E ≤ α * p - β * q ∨ E ≤ β * q - α * p := by
    by_cases ha : 1 ≤ α
    · by_cases hbt : 1 ≤ β
      · by_cases c1 : E ≤ α * p - β * q
        · exact Or.inl c1
        · by_cases c2 : E ≤ β * q - α * p
          · exact Or.inr c2
          · exfalso
            rcases hm with hm | hm
            · exact sl_gap1 hb hd hL hP hE h1 ha hbt (by omega) (by omega) (by omega) hm
            · exact sl_gap1 (α := β) (β := α) (b := d) (d := b) (p := q) (q := p) hd hb (by rw [hL]; omega) (by rw [← hP]; omega) hE h1 hbt ha (by omega) (by omega) (by omega) hm
      · have e1 : 1 * p ≤ α * p := Int.mul_le_mul_of_nonneg_right ha (by omega)
        have e2 : β * q ≤ 0 := Int.mul_nonpos_of_nonpos_of_nonneg (by omega) (by omega)
        exact Or.inl (by omega)
    · have e2 : α * p ≤ 0 := Int.mul_nonpos_of_nonpos_of_nonneg (by omega) (by omega)
      by_cases hbt : 1 ≤ β
      · have e1 : 1 * q ≤ β * q := Int.mul_le_mul_of_nonneg_right hbt (by omega)
        exact Or.inr (by omega)
      · exfalso
        have e3 : α * b ≤ 0 := Int.mul_nonpos_of_nonpos_of_nonneg (by omega) hb
        have e4 : β * d ≤ 0 := Int.mul_nonpos_of_nonpos_of_nonneg (by omega) hd
        omega
  rw [hV, show β * q - α * p = -(α * p - β * q) by omega, hV] at key
  rcases hs with rfl | rfl
  · rcases key with k | k
    · exact Or.inl (by omega)
    · exact Or.inr (by omega)
  · rcases key with k | k
    · exact Or.inr (by omega)
    · exact Or.inl (by omega)
/-- a lane: E is 2^18 -/
theorem sl_l0_Iv {X : Int} {p q t : Nat} (k : Nat) (ht : t = q * k) (h : sl_Iv X ((p : Int) - 154742504910672534362128384) q) : sl_Iv X ((sl_l0 p t : Nat) - 154742504910672534362128384 : Int) q := by
  unfold sl_l0
  by_cases c : 2 ^ 87 ≤ p - t
  · rw [if_pos c]
    have := sl_Iv_step h (k := (k : Int)) (Int.natCast_nonneg k)
    have e : ((p - t : Nat) : Int) - 154742504910672534362128384 = (p : Int) - 154742504910672534362128384 - (k : Int) * q := by
      rw [ht, Int.ofNat_sub (by rw [← ht]; omega), Int.natCast_mul, Int.mul_comm (q : Int)]
      omega
    rw [e]
    exact this
  · rw [if_neg c]; exact h
theorem sl_lw_Iv {X : Int} {q : Nat} : ∀ (s p : Nat), sl_Iv X ((p : Int) - 154742504910672534362128384) q → sl_Iv X ((sl_lw q s p : Nat) - 154742504910672534362128384 : Int) q
  | 0, _, h => h
  | s + 1, p, h => sl_lw_Iv s (sl_l0 p (q * 2 ^ s)) (sl_l0_Iv (2 ^ s) rfl h)
