/-! the first of the least, the first that holds (wip/genp/spec_pk.py) -/
def zAb (x : Int32) : Int32 := if x.toInt < 0 then -x else x
theorem zAb_v {x : Int32} (h : -2147483648 < x.toInt) : (zAb x).toInt = (if x.toInt < 0 then -x.toInt else x.toInt) ∧ 0 ≤ (zAb x).toInt := by
  have h2 := x.toInt_lt
  unfold zAb
  by_cases c : x.toInt < 0
  · rw [if_pos c, if_pos c, Int32.toInt_neg, Int.bmod_eq_of_le (by omega) (by omega)]
    omega
  · rw [if_neg c, if_neg c]
    omega
/-- f is the first of the least of g, ahead of m -/
def zAm (g : Nat → Int) (m f : Nat) : Prop := f < m ∧ (∀ k, k < f → g f < g k) ∧ ∀ k, k < m → g f ≤ g k
theorem zAm_u {g : Nat → Int} {m f f2 : Nat} (h : zAm g m f) (h2 : zAm g m f2) : f = f2 := by
  rcases Nat.lt_trichotomy f f2 with q | q | q
  · have := h2.2.1 f q; have := h.2.2 f2 h2.1; omega
  · exact q
  · have := h.2.1 f2 q; have := h2.2.2 f h.1; omega
theorem zAm_1 (g : Nat → Int) : zAm g 1 0 := ⟨by decide, fun k h => absurd h (Nat.not_lt_zero k), fun k h => by rw [show k = 0 by omega]; exact Int.le_refl _⟩
theorem zAm_lt {g : Nat → Int} {m f : Nat} (h : zAm g m f) (hl : g m < g f) : zAm g (m + 1) m := ⟨by omega, fun k hk => by have := h.2.2 k hk; omega, fun k hk => by
  by_cases q : k = m
  · rw [q]; exact Int.le_refl _
  · have := h.2.2 k (by omega); omega⟩
theorem zAm_ge {g : Nat → Int} {m f : Nat} (h : zAm g m f) (hl : g f ≤ g m) : zAm g (m + 1) f := ⟨by have := h.1; omega, h.2.1, fun k hk => by
  by_cases q : k = m
  · rw [q]; exact hl
  · exact h.2.2 k (by omega)⟩
theorem zAm_c {g g2 : Nat → Int} {m f : Nat} (h : zAm g m f) (e : ∀ k, k < m → g2 k = g k) : zAm g2 m f := ⟨h.1, fun k hk => by rw [e f h.1, e k (by have := h.1; omega)]; exact h.2.1 k hk, fun k hk => by rw [e f h.1, e k hk]; exact h.2.2 k hk⟩
/-- f is the first that holds, ahead of m -/
def zFi (p : Nat → Prop) (m f : Nat) : Prop := f < m ∧ p f ∧ ∀ k, k < f → ¬ p k
theorem zFi_u {p : Nat → Prop} {m f f2 : Nat} (h : zFi p m f) (h2 : zFi p m f2) : f = f2 := by
  rcases Nat.lt_trichotomy f f2 with q | q | q
  · exact absurd h.2.1 (h2.2.2 f q)
  · exact q
  · exact absurd h2.2.1 (h.2.2 f2 q)
