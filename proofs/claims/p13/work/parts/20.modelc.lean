/-! the model: chains, strips, laws (wip/gen/spec_j.py) -/
theorem zW.loc14 {E : zE} {G : zG} {nL : Nat} {s : zS} {n k pc : Nat} {L : List (Nat × Value)} {st : List Value} {i0 : Nat} {v0 : Value} {i1 : Nat} {v1 : Value} {i2 : Nat} {v2 : Value} {i3 : Nat} {v3 : Value} {i4 : Nat} {v4 : Value} {i5 : Nat} {v5 : Value} {i6 : Nat} {v6 : Value} {i7 : Nat} {v7 : Value} {i8 : Nat} {v8 : Value} {i9 : Nat} {v9 : Value} {i10 : Nat} {v10 : Value} {i11 : Nat} {v11 : Value} {i12 : Nat} {v12 : Value} {i13 : Nat} {v13 : Value} (h0 : zlk L i0 = some v0) (h1 : zlk L i1 = some v1) (h2 : zlk L i2 = some v2) (h3 : zlk L i3 = some v3) (h4 : zlk L i4 = some v4) (h5 : zlk L i5 = some v5) (h6 : zlk L i6 = some v6) (h7 : zlk L i7 = some v7) (h8 : zlk L i8 = some v8) (h9 : zlk L i9 = some v9) (h10 : zlk L i10 = some v10) (h11 : zlk L i11 = some v11) (h12 : zlk L i12 = some v12) (h13 : zlk L i13 = some v13) (kk : zW E G nL s n k pc [(i0, v0), (i1, v1), (i2, v2), (i3, v3), (i4, v4), (i5, v5), (i6, v6), (i7, v7), (i8, v8), (i9, v9), (i10, v10), (i11, v11), (i12, v12), (i13, v13)] st) : zW E G nL s n k pc L st := zW.loc [(i0, v0), (i1, v1), (i2, v2), (i3, v3), (i4, v4), (i5, v5), (i6, v6), (i7, v7), (i8, v8), (i9, v9), (i10, v10), (i11, v11), (i12, v12), (i13, v13)] (show zlks L [(i0, v0), (i1, v1), (i2, v2), (i3, v3), (i4, v4), (i5, v5), (i6, v6), (i7, v7), (i8, v8), (i9, v9), (i10, v10), (i11, v11), (i12, v12), (i13, v13)] from And.intro h0 (And.intro h1 (And.intro h2 (And.intro h3 (And.intro h4 (And.intro h5 (And.intro h6 (And.intro h7 (And.intro h8 (And.intro h9 (And.intro h10 (And.intro h11 (And.intro h12 (And.intro h13 (trivial))))))))))))))) kk
theorem zW.loc15 {E : zE} {G : zG} {nL : Nat} {s : zS} {n k pc : Nat} {L : List (Nat × Value)} {st : List Value} {i0 : Nat} {v0 : Value} {i1 : Nat} {v1 : Value} {i2 : Nat} {v2 : Value} {i3 : Nat} {v3 : Value} {i4 : Nat} {v4 : Value} {i5 : Nat} {v5 : Value} {i6 : Nat} {v6 : Value} {i7 : Nat} {v7 : Value} {i8 : Nat} {v8 : Value} {i9 : Nat} {v9 : Value} {i10 : Nat} {v10 : Value} {i11 : Nat} {v11 : Value} {i12 : Nat} {v12 : Value} {i13 : Nat} {v13 : Value} {i14 : Nat} {v14 : Value} (h0 : zlk L i0 = some v0) (h1 : zlk L i1 = some v1) (h2 : zlk L i2 = some v2) (h3 : zlk L i3 = some v3) (h4 : zlk L i4 = some v4) (h5 : zlk L i5 = some v5) (h6 : zlk L i6 = some v6) (h7 : zlk L i7 = some v7) (h8 : zlk L i8 = some v8) (h9 : zlk L i9 = some v9) (h10 : zlk L i10 = some v10) (h11 : zlk L i11 = some v11) (h12 : zlk L i12 = some v12) (h13 : zlk L i13 = some v13) (h14 : zlk L i14 = some v14) (kk : zW E G nL s n k pc [(i0, v0), (i1, v1), (i2, v2), (i3, v3), (i4, v4), (i5, v5), (i6, v6), (i7, v7), (i8, v8), (i9, v9), (i10, v10), (i11, v11), (i12, v12), (i13, v13), (i14, v14)] st) : zW E G nL s n k pc L st := zW.loc [(i0, v0), (i1, v1), (i2, v2), (i3, v3), (i4, v4), (i5, v5), (i6, v6), (i7, v7), (i8, v8), (i9, v9), (i10, v10), (i11, v11), (i12, v12), (i13, v13), (i14, v14)] (show zlks L [(i0, v0), (i1, v1), (i2, v2), (i3, v3), (i4, v4), (i5, v5), (i6, v6), (i7, v7), (i8, v8), (i9, v9), (i10, v10), (i11, v11), (i12, v12), (i13, v13), (i14, v14)] from And.intro h0 (And.intro h1 (And.intro h2 (And.intro h3 (And.intro h4 (And.intro h5 (And.intro h6 (And.intro h7 (And.intro h8 (And.intro h9 (And.intro h10 (And.intro h11 (And.intro h12 (And.intro h13 (And.intro h14 (trivial)))))))))))))))) kk
theorem zW.loc16 {E : zE} {G : zG} {nL : Nat} {s : zS} {n k pc : Nat} {L : List (Nat × Value)} {st : List Value} {i0 : Nat} {v0 : Value} {i1 : Nat} {v1 : Value} {i2 : Nat} {v2 : Value} {i3 : Nat} {v3 : Value} {i4 : Nat} {v4 : Value} {i5 : Nat} {v5 : Value} {i6 : Nat} {v6 : Value} {i7 : Nat} {v7 : Value} {i8 : Nat} {v8 : Value} {i9 : Nat} {v9 : Value} {i10 : Nat} {v10 : Value} {i11 : Nat} {v11 : Value} {i12 : Nat} {v12 : Value} {i13 : Nat} {v13 : Value} {i14 : Nat} {v14 : Value} {i15 : Nat} {v15 : Value} (h0 : zlk L i0 = some v0) (h1 : zlk L i1 = some v1) (h2 : zlk L i2 = some v2) (h3 : zlk L i3 = some v3) (h4 : zlk L i4 = some v4) (h5 : zlk L i5 = some v5) (h6 : zlk L i6 = some v6) (h7 : zlk L i7 = some v7) (h8 : zlk L i8 = some v8) (h9 : zlk L i9 = some v9) (h10 : zlk L i10 = some v10) (h11 : zlk L i11 = some v11) (h12 : zlk L i12 = some v12) (h13 : zlk L i13 = some v13) (h14 : zlk L i14 = some v14) (h15 : zlk L i15 = some v15) (kk : zW E G nL s n k pc [(i0, v0), (i1, v1), (i2, v2), (i3, v3), (i4, v4), (i5, v5), (i6, v6), (i7, v7), (i8, v8), (i9, v9), (i10, v10), (i11, v11), (i12, v12), (i13, v13), (i14, v14), (i15, v15)] st) : zW E G nL s n k pc L st := zW.loc [(i0, v0), (i1, v1), (i2, v2), (i3, v3), (i4, v4), (i5, v5), (i6, v6), (i7, v7), (i8, v8), (i9, v9), (i10, v10), (i11, v11), (i12, v12), (i13, v13), (i14, v14), (i15, v15)] (show zlks L [(i0, v0), (i1, v1), (i2, v2), (i3, v3), (i4, v4), (i5, v5), (i6, v6), (i7, v7), (i8, v8), (i9, v9), (i10, v10), (i11, v11), (i12, v12), (i13, v13), (i14, v14), (i15, v15)] from And.intro h0 (And.intro h1 (And.intro h2 (And.intro h3 (And.intro h4 (And.intro h5 (And.intro h6 (And.intro h7 (And.intro h8 (And.intro h9 (And.intro h10 (And.intro h11 (And.intro h12 (And.intro h13 (And.intro h14 (And.intro h15 (trivial))))))))))))))))) kk
theorem zW.loc17 {E : zE} {G : zG} {nL : Nat} {s : zS} {n k pc : Nat} {L : List (Nat × Value)} {st : List Value} {i0 : Nat} {v0 : Value} {i1 : Nat} {v1 : Value} {i2 : Nat} {v2 : Value} {i3 : Nat} {v3 : Value} {i4 : Nat} {v4 : Value} {i5 : Nat} {v5 : Value} {i6 : Nat} {v6 : Value} {i7 : Nat} {v7 : Value} {i8 : Nat} {v8 : Value} {i9 : Nat} {v9 : Value} {i10 : Nat} {v10 : Value} {i11 : Nat} {v11 : Value} {i12 : Nat} {v12 : Value} {i13 : Nat} {v13 : Value} {i14 : Nat} {v14 : Value} {i15 : Nat} {v15 : Value} {i16 : Nat} {v16 : Value} (h0 : zlk L i0 = some v0) (h1 : zlk L i1 = some v1) (h2 : zlk L i2 = some v2) (h3 : zlk L i3 = some v3) (h4 : zlk L i4 = some v4) (h5 : zlk L i5 = some v5) (h6 : zlk L i6 = some v6) (h7 : zlk L i7 = some v7) (h8 : zlk L i8 = some v8) (h9 : zlk L i9 = some v9) (h10 : zlk L i10 = some v10) (h11 : zlk L i11 = some v11) (h12 : zlk L i12 = some v12) (h13 : zlk L i13 = some v13) (h14 : zlk L i14 = some v14) (h15 : zlk L i15 = some v15) (h16 : zlk L i16 = some v16) (kk : zW E G nL s n k pc [(i0, v0), (i1, v1), (i2, v2), (i3, v3), (i4, v4), (i5, v5), (i6, v6), (i7, v7), (i8, v8), (i9, v9), (i10, v10), (i11, v11), (i12, v12), (i13, v13), (i14, v14), (i15, v15), (i16, v16)] st) : zW E G nL s n k pc L st := zW.loc [(i0, v0), (i1, v1), (i2, v2), (i3, v3), (i4, v4), (i5, v5), (i6, v6), (i7, v7), (i8, v8), (i9, v9), (i10, v10), (i11, v11), (i12, v12), (i13, v13), (i14, v14), (i15, v15), (i16, v16)] (show zlks L [(i0, v0), (i1, v1), (i2, v2), (i3, v3), (i4, v4), (i5, v5), (i6, v6), (i7, v7), (i8, v8), (i9, v9), (i10, v10), (i11, v11), (i12, v12), (i13, v13), (i14, v14), (i15, v15), (i16, v16)] from And.intro h0 (And.intro h1 (And.intro h2 (And.intro h3 (And.intro h4 (And.intro h5 (And.intro h6 (And.intro h7 (And.intro h8 (And.intro h9 (And.intro h10 (And.intro h11 (And.intro h12 (And.intro h13 (And.intro h14 (And.intro h15 (And.intro h16 (trivial)))))))))))))))))) kk
theorem zW.loc18 {E : zE} {G : zG} {nL : Nat} {s : zS} {n k pc : Nat} {L : List (Nat × Value)} {st : List Value} {i0 : Nat} {v0 : Value} {i1 : Nat} {v1 : Value} {i2 : Nat} {v2 : Value} {i3 : Nat} {v3 : Value} {i4 : Nat} {v4 : Value} {i5 : Nat} {v5 : Value} {i6 : Nat} {v6 : Value} {i7 : Nat} {v7 : Value} {i8 : Nat} {v8 : Value} {i9 : Nat} {v9 : Value} {i10 : Nat} {v10 : Value} {i11 : Nat} {v11 : Value} {i12 : Nat} {v12 : Value} {i13 : Nat} {v13 : Value} {i14 : Nat} {v14 : Value} {i15 : Nat} {v15 : Value} {i16 : Nat} {v16 : Value} {i17 : Nat} {v17 : Value} (h0 : zlk L i0 = some v0) (h1 : zlk L i1 = some v1) (h2 : zlk L i2 = some v2) (h3 : zlk L i3 = some v3) (h4 : zlk L i4 = some v4) (h5 : zlk L i5 = some v5) (h6 : zlk L i6 = some v6) (h7 : zlk L i7 = some v7) (h8 : zlk L i8 = some v8) (h9 : zlk L i9 = some v9) (h10 : zlk L i10 = some v10) (h11 : zlk L i11 = some v11) (h12 : zlk L i12 = some v12) (h13 : zlk L i13 = some v13) (h14 : zlk L i14 = some v14) (h15 : zlk L i15 = some v15) (h16 : zlk L i16 = some v16) (h17 : zlk L i17 = some v17) (kk : zW E G nL s n k pc [(i0, v0), (i1, v1), (i2, v2), (i3, v3), (i4, v4), (i5, v5), (i6, v6), (i7, v7), (i8, v8), (i9, v9), (i10, v10), (i11, v11), (i12, v12), (i13, v13), (i14, v14), (i15, v15), (i16, v16), (i17, v17)] st) : zW E G nL s n k pc L st := zW.loc [(i0, v0), (i1, v1), (i2, v2), (i3, v3), (i4, v4), (i5, v5), (i6, v6), (i7, v7), (i8, v8), (i9, v9), (i10, v10), (i11, v11), (i12, v12), (i13, v13), (i14, v14), (i15, v15), (i16, v16), (i17, v17)] (show zlks L [(i0, v0), (i1, v1), (i2, v2), (i3, v3), (i4, v4), (i5, v5), (i6, v6), (i7, v7), (i8, v8), (i9, v9), (i10, v10), (i11, v11), (i12, v12), (i13, v13), (i14, v14), (i15, v15), (i16, v16), (i17, v17)] from And.intro h0 (And.intro h1 (And.intro h2 (And.intro h3 (And.intro h4 (And.intro h5 (And.intro h6 (And.intro h7 (And.intro h8 (And.intro h9 (And.intro h10 (And.intro h11 (And.intro h12 (And.intro h13 (And.intro h14 (And.intro h15 (And.intro h16 (And.intro h17 (trivial))))))))))))))))))) kk
def zT3 : Nat → Int
  | 0 => 100
  | n + 1 => 1000 * zT3 n
theorem zFg_0 {f : Nat → Int32} {n : Nat} (h : ∀ k, k < n → f k = 0) : zFg f n = 0 := by
  induction n with
  | zero => rfl
  | succ n ih => rw [zFg, ih (fun k hk => h k (by omega)), h n (by omega), show Int32.toInt 0 = 0 from rfl]; omega
theorem zFg_p {f : Nat → Int32} {n : Nat} (h : ∀ k, k < n → 0 ≤ (f k).toInt) : 0 ≤ zFg f n := by
  induction n with
  | zero => exact Int.le_refl _
  | succ n ih =>
    have h1 := ih (fun k hk => h k (by omega))
    have h2 := Int.mul_nonneg (h n (by omega)) (Int.le_of_lt (zW4_p n))
    rw [zFg]; omega
theorem zT3_m {i : Nat} (h : i ≤ 12) : zT3 i ≤ 100000000000000000000000000000000000000 := by
  have hc : i = 0 ∨ i = 1 ∨ i = 2 ∨ i = 3 ∨ i = 4 ∨ i = 5 ∨ i = 6 ∨ i = 7 ∨ i = 8 ∨ i = 9 ∨ i = 10 ∨ i = 11 ∨ i = 12 := by omega
  rcases hc with rfl | rfl | rfl | rfl | rfl | rfl | rfl | rfl | rfl | rfl | rfl | rfl | rfl <;> decide
theorem ztrS {k x c U : Int32} (hU : U.toInt = 10000) (k0 : 0 ≤ k.toInt) (k1 : k.toInt < 10000) (x0 : 100 ≤ x.toInt) (x1 : x.toInt ≤ 999) (c0 : 0 ≤ c.toInt) (c1 : c.toInt ≤ x.toInt) : 0 ≤ (k * x + c - (k * x + c) / U * U).toInt ∧ (k * x + c - (k * x + c) / U * U).toInt < 10000 ∧ 0 ≤ ((k * x + c) / U).toInt ∧ ((k * x + c) / U).toInt ≤ x.toInt ∧ ∀ P1 P u : Int, P1 + c.toInt * u = x.toInt * P → P1 + (k * x + c - (k * x + c) / U * U).toInt * u + ((k * x + c) / U).toInt * (10000 * u) = x.toInt * (P + k.toInt * u) := by
  have hm1 : 0 ≤ k.toInt * x.toInt := Int.mul_nonneg k0 (by omega)
  have hm2 : k.toInt * x.toInt ≤ 9999 * x.toInt := Int.mul_le_mul_of_nonneg_right (by omega) (by omega)
  have ew1 : (k * x).toInt = k.toInt * x.toInt := zmulI (by omega) (by omega)
  have ew : (k * x + c).toInt = k.toInt * x.toInt + c.toInt := by rw [zaddI (x := k * x) (y := c) (by omega) (by omega), ew1]
  generalize k * x + c = w at *
  have eq : (w / U).toInt = w.toInt / 10000 := by rw [zdivI (x := w) (y := U) (by omega) (by omega), hU]
  have eq2 : (w / U * U).toInt = w.toInt / 10000 * 10000 := by rw [zmulI (x := w / U) (y := U) (by rw [eq, hU]; omega) (by rw [eq, hU]; omega), eq, hU]
  have en : (w - w / U * U).toInt = w.toInt - w.toInt / 10000 * 10000 := by rw [zsubI (x := w) (y := w / U * U) (by omega) (by omega), eq2]
  refine ⟨by omega, by omega, by omega, by omega, fun P1 P u h => ?_⟩
  rw [eq, en]
  generalize w.toInt / 10000 = q
  have e1 : (w.toInt - q * 10000) * u + q * (10000 * u) = w.toInt * u := by rw [Int.sub_mul, Int.mul_assoc]; omega
  have e2 : w.toInt * u = x.toInt * (k.toInt * u) + c.toInt * u := by rw [ew, Int.add_mul, Int.mul_comm k.toInt x.toInt, Int.mul_assoc]
  rw [Int.mul_add]
  omega
theorem ztrE {A A0 c x : Int} {i : Nat} (hi : i < 12) (h : A + c * zW4 12 = x * A0) (hA : 0 ≤ A) (hc : 0 ≤ c) (h0 : 0 < A0) (h1 : A0 ≤ zT3 i) (x0 : 100 ≤ x) (x1 : x ≤ 999) : 0 < A ∧ A ≤ zT3 (i + 1) ∧ A = x * A0 := by
  have hT := zT3_m (i := i) (by omega)
  have hT2 := zT3_m (i := i + 1) (by omega)
  have hx : x * A0 ≤ 999 * A0 := Int.mul_le_mul_of_nonneg_right x1 (by omega)
  have hx2 : 100 * A0 ≤ x * A0 := Int.mul_le_mul_of_nonneg_right x0 (by omega)
  have h2 : A + c * 1000000000000000000000000000000000000000000000000 = x * A0 := h
  have hz : c = 0 := by rw [zT3] at hT2; omega
  subst hz
  rw [zT3]
  omega
theorem ztopM {a b : Int32} (ha : 1 ≤ a.toInt ∧ a.toInt < 10000) (hb : 0 ≤ b.toInt ∧ b.toInt < 10000) : ((10000 : Int64) * a.toInt64 + b.toInt64).toInt = a.toInt * 10000 + b.toInt := by
  have a1 : a.toInt64.toInt = a.toInt := Int32.toInt_toInt64 _
  have b1 : b.toInt64.toInt = b.toInt := Int32.toInt_toInt64 _
  have e1 : ((10000 : Int64) * a.toInt64).toInt = 10000 * a.toInt := by rw [zmulJ (x := 10000) (y := a.toInt64) (by rw [a1, show Int64.toInt 10000 = 10000 from rfl]; omega) (by rw [a1, show Int64.toInt 10000 = 10000 from rfl]; omega), a1]; rfl
  rw [zaddJ (x := 10000 * a.toInt64) (y := b.toInt64) (by rw [e1, b1]; omega) (by rw [e1, b1]; omega), e1, b1]
  omega
theorem zuo5 {ι : Nat → Nat → Int32} {b k c j : Nat} {v : Int32} (h : ¬ (b = c ∧ k = j)) : zu ι c j v b k = ι b k := if_neg h
theorem zabI9 {x : Int32} (h : -2147483648 < x.toInt) : (if x.toInt < 0 then -x else x).toInt = zAi x.toInt := by
  have h2 := x.toInt_lt
  rcases zAi_of x.toInt with ⟨q, e⟩ | ⟨q, e⟩
  · rw [if_neg (by omega), e]
  · rw [if_pos q, e, Int32.toInt_neg, Int.bmod_eq_of_le (by omega) (by omega)]
theorem zsum9 {a b x y : Int32} (ha : 0 ≤ a.toInt ∧ a.toInt ≤ 50000) (hb : 0 ≤ b.toInt ∧ b.toInt ≤ 50000) (hx : 0 ≤ x.toInt ∧ x.toInt ≤ 50000) (hy : 0 ≤ y.toInt ∧ y.toInt ≤ 50000) : -1000000 ≤ (a - x + b - y).toInt ∧ (a - x + b - y).toInt ≤ 1000000 := by
  have e1 : (a - x).toInt = a.toInt - x.toInt := zsubI (by omega) (by omega)
  have e2 : (a - x + b).toInt = a.toInt - x.toInt + b.toInt := by rw [zaddI (x := a - x) (y := b) (by omega) (by omega), e1]
  have e3 : (a - x + b - y).toInt = a.toInt - x.toInt + b.toInt - y.toInt := by rw [zsubI (x := a - x + b) (y := y) (by omega) (by omega), e2]
  omega
/-- the nearest of the first m -/
def zNq (f : Nat → Int) (p : Int) (m n : Nat) : Prop := n < m ∧ (∀ k, k < m → zAi (f n - p) ≤ zAi (f k - p)) ∧ ∀ k, k < n → zAi (f n - p) < zAi (f k - p)
theorem zNq_0 {f : Nat → Int} {p : Int} {m : Nat} (h : m = 1) : zNq f p m 0 := by
  subst h
  refine ⟨by omega, fun k hk => ?_, fun k hk => absurd hk (Nat.not_lt_zero k)⟩
  rw [show k = 0 by omega]
  exact Int.le_refl _
theorem zNq_yes {f : Nat → Int} {p : Int} {m n : Nat} (h : zNq f p m n) (g : zAi (f m - p) < zAi (f n - p)) : zNq f p (m + 1) m := by
  refine ⟨by omega, fun k hk => ?_, fun k hk => Int.lt_of_lt_of_le g (h.2.1 k hk)⟩
  rcases Nat.lt_or_ge k m with q | q
  · exact Int.le_of_lt (Int.lt_of_lt_of_le g (h.2.1 k q))
  · rw [show k = m by omega]; exact Int.le_refl _
theorem zNq_no {f : Nat → Int} {p : Int} {m n : Nat} (h : zNq f p m n) (g : zAi (f n - p) ≤ zAi (f m - p)) : zNq f p (m + 1) n := by
  have h1 := h.1
  refine ⟨by omega, fun k hk => ?_, h.2.2⟩
  rcases Nat.lt_or_ge k m with q | q
  · exact h.2.1 k q
  · rw [show k = m by omega]; exact g
theorem zNq_end {f : Nat → Int} {p : Int} {n : Nat} (h : zNq f p 900 n) : zNr f p n := h
def zNumM (l v : Int32) : Int64 := if l.toInt = 0 then v.toInt64 * v.toInt64 else if l.toInt = 1 then v.toInt64 * v.toInt64 * v.toInt64 else if l.toInt = 2 then 1000000 / v.toInt64 else v.toInt64 * (v + 1).toInt64 / 2
def zPlM (l v s : Int32) : Int32 := if l = 2 then (zDown (2 * (zNumM l v - zNumM l 60) * s.toInt64 + zNumM l 1 - zNumM l 60) (2 * (zNumM l 1 - zNumM l 60))).toInt32 else (zDown (2 * (zNumM l v - zNumM l 1) * s.toInt64 + zNumM l 60 - zNumM l 1) (2 * (zNumM l 60 - zNumM l 1))).toInt32
theorem zlw_A {x : Int32} (h : x = 2) : ¬ (2 : Int64) * (zNumM x 1 - zNumM x 60) = 0 := by subst h; decide +kernel
theorem zlw_B {x : Int32} (h0 : 0 ≤ x.toInt) (h3 : x.toInt ≤ 3) (h : ¬ x = 2) : ¬ (2 : Int64) * (zNumM x 60 - zNumM x 1) = 0 := by
  have hc : x = 0 ∨ x = 1 ∨ x = 3 := by
    have : x.toInt = 0 ∨ x.toInt = 1 ∨ x.toInt = 2 ∨ x.toInt = 3 := by omega
    rcases this with q | q | q | q
    · exact Or.inl (Int32.toInt_inj.mp (by rw [q]; rfl))
    · exact Or.inr (Or.inl (Int32.toInt_inj.mp (by rw [q]; rfl)))
    · exact absurd (Int32.toInt_inj.mp (by rw [q]; rfl)) h
    · exact Or.inr (Or.inr (Int32.toInt_inj.mp (by rw [q]; rfl)))
  rcases hc with rfl | rfl | rfl <;> decide +kernel
set_option maxHeartbeats 4000000 in
set_option maxRecDepth 100000 in
theorem c_X12_plainOf (l : Launch) (G : zG) (z : Nat) (τ : Nat → Option (Nat × Nat)) (ρ : Nat → Nat → Option Nat) (ι : Nat → Nat → Int32) (κ : Nat → Nat → Int64) {B c : Nat} (hL : zLay τ ρ B c) (hL0 : 100 ≤ (ι (B + 38) 0).toInt ∧ (ι (B + 38) 0).toInt ≤ 50000) (hP : zPkM B ι) (x : Int32) (hx : 100 ≤ x.toInt ∧ x.toInt ≤ 999) : zM l G yX12_plainOf cX12_plainOf 3 (some .int) ({ frames := 5, cells := 0, slots := 0, locals := 140 } : Room) [.ref (B + 38), .int x] (z, τ, ρ, ι, κ) (fun v s => ∃ r ι2 κ2, v = some (.int r) ∧ s = (z, τ, ρ, ι2, κ2) ∧ zFp B ι ι2 ∧ zPkM B ι2 ∧ r = zPl9 (ι (B + 38) 0) (x.toNatClampNeg - 100)) 0 0 := by
  refine zM_of zCd_X12_plainOf (Nat.le_of_ble_eq_true rfl) ?_
  intro E X hR hE
  subst hE
  show zW E G 3 (z, τ, ρ, ι, κ) 0 0 0 [(0, .ref (B + 38)), (1, .int x)] []
  have L48 : ∀ (ι1 : Nat → Nat → Int32) (κ1 : Nat → Nat → Int64), zFp B ι ι1 → ι1 (B + 38) 26 = (ι (B + 38) 0) → (∀ k : Nat, k < 900 → ι1 (B + 59) k = zPl9 (ι (B + 38) 0) k) → zW E G 3 (z, τ, ρ, ι1, κ1) 0 0 48 [(0, .ref (B + 38)), (1, .int x)] [] := by
    intro ι1 κ1 hf h26 hc
    have es := zsubI (x := x) (y := 100) (by rw [show Int32.toInt 100 = 100 from rfl]; omega) (by rw [show Int32.toInt 100 = 100 from rfl]; omega)
    rw [show Int32.toInt 100 = 100 from rfl] at es
    refine r_aload_n X (by rfl) dX12_plainOf_48 ?_
    refine r_getR X dX12_plainOf_49 zF_X12_77 (zt hL 38 rfl) (zrf hL 56 rfl) ?_
    refine r_iload_n X (by rfl) dX12_plainOf_52 ?_
    refine r_bipush X 100 (by decide) dX12_plainOf_53 ?_
    refine r_isub X dX12_plainOf_55 ?_
    refine r_iaload X dX12_plainOf_56 (zt hL 59 rfl) (vp_in_iff.mpr ⟨by omega, by omega⟩) ?_
    refine r_ireturn X hR dX12_plainOf_57 rfl (Nat.zero_le _) (Nat.zero_le _) ?_
    refine ⟨_, _, _, rfl, rfl, hf, Or.inr (fun k hk => by rw [h26]; exact hc k hk), ?_⟩
    rw [hc (x - 100).toNatClampNeg (by have := zclN (i := x - 100) (by omega); omega)]
    exact congrArg _ (by have := zclN (i := x - 100) (by omega); have := zclN (i := x) (by omega); omega)
  have L21 : ∀ (m : Nat) (i : Int32) (ι1 : Nat → Nat → Int32) (κ1 : Nat → Nat → Int64), (900 - i.toInt).toNat < m → 0 ≤ i.toInt → zFp B ι ι1 → ι1 (B + 38) 26 = (ι (B + 38) 0) → (∀ k : Nat, k < 900 → (k : Int) < i.toInt → ι1 (B + 59) k = zPl9 (ι (B + 38) 0) k) → zW E G 3 (z, τ, ρ, ι1, κ1) 0 0 21 [(0, .ref (B + 38)), (1, .int x), (2, .int i)] [] := by
    intro m
    induction m with
    | zero => intro i ι1 κ1 h; omega
    | succ m ih => ?_
    intro i ι1 κ1 hm h0 hf h26 hc
    have hic := zclN h0
    have hL1 : ι1 (B + 38) 0 = ι (B + 38) 0 := hf _ _ (by omega) (by omega)
    refine r_iload_n X (by rfl) dX12_plainOf_21 ?_
    refine r_sipush X 900 (by decide) dX12_plainOf_22 ?_
    refine r_icmp_ge X 48 dX12_plainOf_25 (by decide) (fun h25 => ?_) (fun h25 => ?_)
    · rw [show Int32.toInt 900 = 900 from rfl] at h25
      exact zW.loc2 (by rfl) (by rfl) (L48 _ _ (by first | exact hf | exact zFp.rfl) (by first | exact h26 | exact h8) (by first | exact fun k hk => hc k hk (by omega) | exact (fun k hk => by rcases hP with q | q; (rw [h8] at q; omega); (rw [h8] at q; exact q k hk))))
    · rw [show Int32.toInt 900 = 900 from rfl] at h25
      have ea := zaddI (x := 100) (y := i) (by rw [show Int32.toInt 100 = 100 from rfl]; omega) (by rw [show Int32.toInt 100 = 100 from rfl]; omega)
      rw [show Int32.toInt 100 = 100 from rfl] at ea
      have eac : (100 + i).toNatClampNeg - 100 = i.toNatClampNeg := by have := zclN (i := 100 + i) (by omega); omega
      refine r_aload_n X (by rfl) dX12_plainOf_28 ?_
      refine r_getR X dX12_plainOf_29 zF_X12_77 (zt hL 38 rfl) (zrf hL 56 rfl) ?_
      refine r_iload_n X (by rfl) dX12_plainOf_32 ?_
      refine r_aload_n X (by rfl) dX12_plainOf_33 ?_
      refine r_bipush X 100 (by decide) dX12_plainOf_34 ?_
      refine r_iload_n X (by rfl) dX12_plainOf_36 ?_
      refine r_iadd X dX12_plainOf_37 ?_
      refine r_callV X dX12_plainOf_38 zLV_X12_224 zCd_X12_plain (e_X12_plain _ G z τ ρ _ _ (zt hL 38 rfl) (zrf hL 49 rfl) (zrf hL 50 rfl) (zt hL 52 rfl) (zt hL 53 rfl) (by omega) (zrf hL 47 rfl) (zt hL 50 rfl) (zrf hL 48 rfl) (zrf hL 51 rfl) (zrf hL 52 rfl) (zrf hL 53 rfl) (zrf hL 54 rfl) (zt hL 51 rfl) (zt hL 54 rfl) (zt hL 55 rfl) (zt hL 56 rfl) (zt hL 57 rfl) (by omega) (by omega) (by omega) (by omega) (by omega) (by omega) (by omega) (by omega) (by omega) (by omega) (by omega) _ (by omega) (by omega) (by rw [hL1]; exact hL0)) (zt hL 38 rfl) ⟨by decide, rfl, rfl⟩ rfl rfl ⟨⟨rfl, rfl⟩, ⟨by decide, by decide⟩, ⟨Nat.le_of_ble_eq_true rfl, Nat.le_of_ble_eq_true rfl⟩, Nat.le_of_ble_eq_true rfl⟩ ?_
      rintro _ _ ⟨κ2, rfl, rfl⟩
      rw [hL1, eac]
      refine r_iastore X dX12_plainOf_41 (zt hL 59 rfl) (vp_in_iff.mpr ⟨h0, by omega⟩) ?_
      refine r_iinc X 1 (by decide) (by rfl) (by decide) dX12_plainOf_42 ?_
      refine r_goto X 21 dX12_plainOf_45 (by decide) ?_
      exact zW.loc3 (by rfl) (by rfl) (by rfl) (ih _ _ _ (by have e := zinc (x := i) (by omega); omega) (by have e := zinc (x := i) (by omega); omega) (fun b k q1 q2 => by rw [zu_a q1]; exact hf b k q1 q2) (by rw [zu_a (by omega)]; exact h26) (fun k hk hki => by
        have e := zinc (x := i) (by omega)
        by_cases q : k = i.toNatClampNeg
        · subst q; rw [zu_s]
        · rw [zu_k q]; exact hc k hk (by omega)))
  refine r_aload_n X (by rfl) dX12_plainOf_0 ?_
  refine r_getI X dX12_plainOf_1 zF_X12_221 (zt hL 38 rfl) ?_
  refine r_aload_n X (by rfl) dX12_plainOf_4 ?_
  refine r_getI X dX12_plainOf_5 zF_X12_7 (zt hL 38 rfl) ?_
  refine r_icmp_eq X 48 dX12_plainOf_8 (by decide) (fun h8 => ?_) (fun h8 => ?_)
  · exact zW.loc2 (by rfl) (by rfl) (L48 _ _ (by first | exact hf | exact zFp.rfl) (by first | exact h26 | exact h8) (by first | exact fun k hk => hc k hk (by omega) | exact (fun k hk => by rcases hP with q | q; (rw [h8] at q; omega); (rw [h8] at q; exact q k hk))))
  · refine r_aload_n X (by rfl) dX12_plainOf_11 ?_
    refine r_aload_n X (by rfl) dX12_plainOf_12 ?_
    refine r_getI X dX12_plainOf_13 zF_X12_7 (zt hL 38 rfl) ?_
    refine r_putI X dX12_plainOf_16 zF_X12_221 (zt hL 38 rfl) rfl rfl ?_
    refine r_iconst X 0 (by decide) dX12_plainOf_19 ?_
    refine r_istore_n X (by decide) dX12_plainOf_20 ?_
    exact zW.loc3 (by rfl) (by rfl) (by rfl) (L21 901 0 _ _ (by decide) (by decide) (fun b k q1 q2 => zuo5 q2) zu_s (fun k _ hk => by rw [show Int32.toInt 0 = 0 from rfl] at hk; omega))
set_option maxHeartbeats 4000000 in
set_option maxRecDepth 100000 in
theorem c_X12_reading (l : Launch) (G : zG) (z : Nat) (τ : Nat → Option (Nat × Nat)) (ρ : Nat → Nat → Option Nat) (ι : Nat → Nat → Int32) (κ : Nat → Nat → Int64) {B c : Nat} (hL : zLay τ ρ B c) (hL0 : 100 ≤ (ι (B + 38) 0).toInt ∧ (ι (B + 38) 0).toInt ≤ 50000) (hP : zPkM B ι) (x : Int32) (hx : -1000000 ≤ x.toInt ∧ x.toInt ≤ 1000000) : zM l G yX12_reading cX12_reading 4 (some .int) ({ frames := 6, cells := 0, slots := 0, locals := 162 } : Room) [.ref (B + 38), .int x] (z, τ, ρ, ι, κ) (fun v s => ∃ r ι2 κ2, v = some (.int r) ∧ s = (z, τ, ρ, ι2, κ2) ∧ zFp B ι ι2 ∧ zPkM B ι2 ∧ ∃ n : Nat, r.toInt = 100 + (n : Int) ∧ zNr (fun k => (zPl9 (ι (B + 38) 0) k).toInt) x.toInt n) 0 0 := by
  refine zM_of zCd_X12_reading (Nat.le_of_ble_eq_true rfl) ?_
  intro E X hR hE
  subst hE
  show zW E G 4 (z, τ, ρ, ι, κ) 0 0 0 [(0, .ref (B + 38)), (1, .int x)] []
  have L6 : ∀ (m : Nat) (i b : Int32) (n : Nat) (ι1 : Nat → Nat → Int32) (κ1 : Nat → Nat → Int64), (1000 - i.toInt).toNat < m → 101 ≤ i.toInt → i.toInt ≤ 1000 → b.toInt = 100 + (n : Int) → zNq (fun k => (zPl9 (ι (B + 38) 0) k).toInt) x.toInt (i.toNatClampNeg - 100) n → zFp B ι ι1 → zPkM B ι1 → zW E G 4 (z, τ, ρ, ι1, κ1) 0 0 6 [(0, .ref (B + 38)), (1, .int x), (2, .int b), (3, .int i)] [] := by
    intro m
    induction m with
    | zero => intro i b n ι1 κ1 h; omega
    | succ m ih => ?_
    intro i b n ι1 κ1 hm h0 hi hb hn hf hP1
    have hic := zclN (i := i) (by omega)
    have hbc := zclN (i := b) (by omega)
    have hn1 := hn.1
    have hL1 : ι1 (B + 38) 0 = ι (B + 38) 0 := hf _ _ (by omega) (by omega)
    refine r_iload_n X (by rfl) dX12_reading_6 ?_
    refine r_sipush X 1000 (by decide) dX12_reading_7 ?_
    refine r_icmp_ge X 48 dX12_reading_10 (by decide) (fun h10 => ?_) (fun h10 => ?_)
    · rw [show Int32.toInt 1000 = 1000 from rfl] at h10
      refine r_iload_n X (by rfl) dX12_reading_48 ?_
      refine r_ireturn X hR dX12_reading_49 rfl (Nat.zero_le _) (Nat.zero_le _) ?_
      rw [show i.toNatClampNeg - 100 = 900 by omega] at hn
      exact ⟨_, _, _, rfl, rfl, hf, hP1, n, hb, zNq_end hn⟩
    · rw [show Int32.toInt 1000 = 1000 from rfl] at h10
      refine r_aload_n X (by rfl) dX12_reading_13 ?_
      refine r_iload_n X (by rfl) dX12_reading_14 ?_
      refine r_callV X dX12_reading_15 zLV_X12_227 zCd_X12_plainOf (c_X12_plainOf _ G z τ ρ _ _ hL (by rw [hL1]; exact hL0) hP1 _ ⟨by omega, by omega⟩) (zt hL 38 rfl) ⟨by decide, rfl, rfl⟩ rfl rfl ⟨⟨rfl, rfl⟩, ⟨by decide, by decide⟩, ⟨Nat.le_of_ble_eq_true rfl, Nat.le_of_ble_eq_true rfl⟩, Nat.le_of_ble_eq_true rfl⟩ ?_
      rintro _ _ ⟨r2, ι2, κ2, rfl, rfl, hf2, hp2, hq2⟩
      rw [hL1] at hq2
      have hL2 : ι2 (B + 38) 0 = ι (B + 38) 0 := by rw [hf2 _ _ (by omega) (by omega)]; exact hL1
      have bb2 := zPl9_b hL0 (k := i.toNatClampNeg - 100) (by omega)
      rw [← hq2] at bb2
      have ea2 : (r2 - x).toInt = r2.toInt - x.toInt := zsubI (by omega) (by omega)
      refine r_iload_n X (by rfl) dX12_reading_18 ?_
      refine r_isub X dX12_reading_19 ?_
      refine r_callS X dX12_reading_20 zLS_X12_199 zCd_X12_size (c_X12_size _ G z τ ρ _ _ _) rfl rfl ⟨⟨rfl, rfl⟩, ⟨by decide, by decide⟩, ⟨Nat.le_of_ble_eq_true rfl, Nat.le_of_ble_eq_true rfl⟩, Nat.le_of_ble_eq_true rfl⟩ ?_
      rintro _ _ ⟨rfl, rfl⟩
      obtain ⟨g2, hg2, eg2⟩ : ∃ g2, (if (r2 - x).toInt < 0 then -(r2 - x) else r2 - x) = g2 ∧ g2.toInt = zAi (r2.toInt - x.toInt) := ⟨_, rfl, by rw [zabI9 (x := r2 - x) (by omega), ea2]⟩
      rw [hg2]
      refine r_aload_n X (by rfl) dX12_reading_23 ?_
      refine r_iload_n X (by rfl) dX12_reading_24 ?_
      refine r_callV X dX12_reading_25 zLV_X12_227 zCd_X12_plainOf (c_X12_plainOf _ G z τ ρ _ _ hL (by rw [hL2]; exact hL0) hp2 _ ⟨by omega, by omega⟩) (zt hL 38 rfl) ⟨by decide, rfl, rfl⟩ rfl rfl ⟨⟨rfl, rfl⟩, ⟨by decide, by decide⟩, ⟨Nat.le_of_ble_eq_true rfl, Nat.le_of_ble_eq_true rfl⟩, Nat.le_of_ble_eq_true rfl⟩ ?_
      rintro _ _ ⟨r3, ι3, κ3, rfl, rfl, hf3, hp3, hq3⟩
      rw [hL2] at hq3
      have bb3 := zPl9_b hL0 (k := b.toNatClampNeg - 100) (by omega)
      rw [← hq3] at bb3
      have ea3 : (r3 - x).toInt = r3.toInt - x.toInt := zsubI (by omega) (by omega)
      refine r_iload_n X (by rfl) dX12_reading_28 ?_
      refine r_isub X dX12_reading_29 ?_
      refine r_callS X dX12_reading_30 zLS_X12_199 zCd_X12_size (c_X12_size _ G z τ ρ _ _ _) rfl rfl ⟨⟨rfl, rfl⟩, ⟨by decide, by decide⟩, ⟨Nat.le_of_ble_eq_true rfl, Nat.le_of_ble_eq_true rfl⟩, Nat.le_of_ble_eq_true rfl⟩ ?_
      rintro _ _ ⟨rfl, rfl⟩
      obtain ⟨g3, hg3, eg3⟩ : ∃ g3, (if (r3 - x).toInt < 0 then -(r3 - x) else r3 - x) = g3 ∧ g3.toInt = zAi (r3.toInt - x.toInt) := ⟨_, rfl, by rw [zabI9 (x := r3 - x) (by omega), ea3]⟩
      rw [hg3]
      refine r_icmp_ge X 40 dX12_reading_33 (by decide) (fun h33 => ?_) (fun h33 => ?_)
      · refine r_iload_n X (by rfl) dX12_reading_40 ?_
        refine r_istore_n X (by decide) dX12_reading_41 ?_
        have e := zinc (x := i) (by omega)
        have e2 := zclN (i := i + 1) (by omega)
        have q2 : r2.toInt = (zPl9 (ι (B + 38) 0) (i.toNatClampNeg - 100)).toInt := by rw [hq2]
        have q3 : r3.toInt = (zPl9 (ι (B + 38) 0) n).toInt := by rw [hq3, show b.toNatClampNeg - 100 = n by omega]
        rw [q2] at eg2
        rw [q3] at eg3
        have hn2 : zNq (fun k => (zPl9 (ι (B + 38) 0) k).toInt) x.toInt ((i + 1).toNatClampNeg - 100) n := by
          rw [show (i + 1).toNatClampNeg - 100 = i.toNatClampNeg - 100 + 1 by omega]
          exact zNq_no hn (by show zAi ((zPl9 (ι (B + 38) 0) n).toInt - x.toInt) ≤ zAi ((zPl9 (ι (B + 38) 0) (i.toNatClampNeg - 100)).toInt - x.toInt); omega)
        refine r_iinc X 1 (by decide) (by rfl) (by decide) dX12_reading_42 ?_
        refine r_goto X 6 dX12_reading_45 (by decide) ?_
        exact zW.loc4 (by rfl) (by rfl) (by rfl) (by rfl) (ih _ _ _ _ _ (by have e := zinc (x := i) (by omega); omega) (by have e := zinc (x := i) (by omega); omega) (by have e := zinc (x := i) (by omega); omega) (by first | exact hbn | exact hb) hn2 ((hf.tr hf2).tr hf3) hp3)
      · refine r_iload_n X (by rfl) dX12_reading_36 ?_
        refine r_goto X 41 dX12_reading_37 (by decide) ?_
        refine r_istore_n X (by decide) dX12_reading_41 ?_
        have e := zinc (x := i) (by omega)
        have e2 := zclN (i := i + 1) (by omega)
        have q2 : r2.toInt = (zPl9 (ι (B + 38) 0) (i.toNatClampNeg - 100)).toInt := by rw [hq2]
        have q3 : r3.toInt = (zPl9 (ι (B + 38) 0) n).toInt := by rw [hq3, show b.toNatClampNeg - 100 = n by omega]
        rw [q2] at eg2
        rw [q3] at eg3
        have hbn : i.toInt = 100 + ((i.toNatClampNeg - 100 : Nat) : Int) := by omega
        have hn2 : zNq (fun k => (zPl9 (ι (B + 38) 0) k).toInt) x.toInt ((i + 1).toNatClampNeg - 100) (i.toNatClampNeg - 100) := by
          rw [show (i + 1).toNatClampNeg - 100 = i.toNatClampNeg - 100 + 1 by omega]
          exact zNq_yes hn (by show zAi ((zPl9 (ι (B + 38) 0) (i.toNatClampNeg - 100)).toInt - x.toInt) < zAi ((zPl9 (ι (B + 38) 0) n).toInt - x.toInt); omega)
        refine r_iinc X 1 (by decide) (by rfl) (by decide) dX12_reading_42 ?_
        refine r_goto X 6 dX12_reading_45 (by decide) ?_
        exact zW.loc4 (by rfl) (by rfl) (by rfl) (by rfl) (ih _ _ _ _ _ (by have e := zinc (x := i) (by omega); omega) (by have e := zinc (x := i) (by omega); omega) (by have e := zinc (x := i) (by omega); omega) (by first | exact hbn | exact hb) hn2 ((hf.tr hf2).tr hf3) hp3)
  refine r_bipush X 100 (by decide) dX12_reading_0 ?_
  refine r_istore_n X (by decide) dX12_reading_2 ?_
  refine r_bipush X 101 (by decide) dX12_reading_3 ?_
  refine r_istore_n X (by decide) dX12_reading_5 ?_
  exact zW.loc4 (by rfl) (by rfl) (by rfl) (by rfl) (L6 1000 101 100 0 _ _ (by decide) (by decide) (by decide) (by decide) (zNq_0 rfl) zFp.rfl hP)
set_option maxHeartbeats 4000000 in
set_option maxRecDepth 100000 in
theorem c_X12_truth (l : Launch) (G : zG) (z : Nat) (τ : Nat → Option (Nat × Nat)) (ρ : Nat → Nat → Option Nat) (ι : Nat → Nat → Int32) (κ : Nat → Nat → Int64) {B c : Nat} (hL : zLay τ ρ B c) (hJ : zJ B c ι) : zM l G yX12_truth cX12_truth 6 (some .int) ({ frames := 0, cells := 0, slots := 0, locals := 0 } : Room) [.ref (B + 38)] (z, τ, ρ, ι, κ) (fun v s => ∃ r ι2 κ2, v = some (.int r) ∧ s = (z, τ, ρ, ι2, κ2) ∧ zFm B ι ι2 ∧ zTh r (zPr (ι (B + 47)) (ι (B + 38) 11).toNatClampNeg)) 0 0 := by
  refine zM_of zCd_X12_truth (Nat.le_of_ble_eq_true rfl) ?_
  intro E X hR hE
  subst hE
  show zW E G 6 (z, τ, ρ, ι, κ) 0 0 0 [(0, .ref (B + 38))] []
  obtain ⟨h8, hJc, hm1, hm2, hm3, hm4, hm5⟩ := id hJ
  have L150 : ∀ (i p q : Int32) (ι1 : Nat → Nat → Int32), zFm B ι ι1 → ∀ (Q : Int) (j : Nat), Q = zPr (ι (B + 47)) (ι (B + 38) 11).toNatClampNeg * zT1 j → ∀ (m : Nat) (y : Int64), y.toInt.toNat < m → 100 ≤ y.toInt → (∃ k : Nat, y.toInt * zT1 k ≤ Q ∧ Q < (y.toInt + 1) * zT1 k) → zW E G 6 (z, τ, ρ, ι1, κ) 0 0 150 [(0, .ref (B + 38)), (1, .int i), (2, .int p), (3, .int q), (4, .long y)] [] := by
    intro i p q ι1 hf Q j hQ m
    induction m with
    | zero => intro y h; omega
    | succ m ih => ?_
    intro y hm hy hk0
    obtain ⟨k, hk⟩ := hk0
    have ed := zdTn (y := y) (by omega)
    refine r_lload X (by rfl) dX12_truth_150 ?_
    refine r_ldc2 X zK_X12_230 dX12_truth_152 ?_
    refine r_lcmp_lt X 170 dX12_truth_155 dX12_truth_156 (by decide) (fun h155 => ?_) (fun h155 => ?_)
    · rw [show Int64.toInt 1000 = 1000 from rfl] at h155
      refine r_lload X (by rfl) dX12_truth_170 ?_
      refine r_l2i X dX12_truth_172 ?_
      refine r_ireturn X hR dX12_truth_173 rfl (Nat.zero_le _) (Nat.zero_le _) ?_
      have e32 := zt32 (y := y) (by omega) (by omega)
      exact ⟨_, _, _, rfl, rfl, hf, zTh_of j (by rw [e32]; omega) (by rw [e32, ← hQ]; exact hk)⟩
    · rw [show Int64.toInt 1000 = 1000 from rfl] at h155
      refine r_lload X (by rfl) dX12_truth_159 ?_
      refine r_ldc2 X zK_X12_124 dX12_truth_161 ?_
      refine r_ldiv X (by decide) dX12_truth_164 ?_
      refine r_lstore X (by decide) dX12_truth_165 ?_
      refine r_goto X 150 dX12_truth_167 (by decide) ?_
      exact zW.loc5 (by rfl) (by rfl) (by rfl) (by rfl) (by rfl) (ih _ (by rw [ed]; omega) (by rw [ed]; omega) ⟨k + 1, by rw [ed]; exact zth3 hk⟩)
  have L100 : ∀ (ι1 : Nat → Nat → Int32), zFm B ι ι1 → 0 < zFg (ι1 (B + 60)) 12 → (∀ k, k < 12 → 0 ≤ (ι1 (B + 60) k).toInt ∧ (ι1 (B + 60) k).toInt < 10000) → zFg (ι1 (B + 60)) 12 = 100 * zPr (ι (B + 47)) (ι (B + 38) 11).toNatClampNeg → ∀ (m : Nat) (i : Int32), i.toInt.toNat < m → 0 ≤ i.toInt → i.toInt ≤ 11 → (∀ k : Nat, i.toInt < k → k < 12 → ι1 (B + 60) k = 0) → zW E G 6 (z, τ, ρ, ι1, κ) 0 0 100 [(0, .ref (B + 38)), (1, .int i)] [] := by
    intro ι1 hf hF hd hpr m
    induction m with
    | zero => intro i h; omega
    | succ m ih => ?_
    intro i hm h0 h11 hz
    have hin := zclN h0
    refine r_aload_n X (by rfl) dX12_truth_100 ?_
    refine r_getR X dX12_truth_101 zF_X12_80 (zt hL 38 rfl) (zrf hL 57 rfl) ?_
    refine r_iload_n X (by rfl) dX12_truth_104 ?_
    refine r_iaload X dX12_truth_105 (zt hL 60 rfl) (vp_in_iff.mpr ⟨h0, by omega⟩) ?_
    refine r_if_ne X 115 dX12_truth_106 (by decide) (fun h106 => ?_) (fun h106 => ?_)
    · refine r_aload_n X (by rfl) dX12_truth_115 ?_
      refine r_getR X dX12_truth_116 zF_X12_80 (zt hL 38 rfl) (zrf hL 57 rfl) ?_
      refine r_iload_n X (by rfl) dX12_truth_119 ?_
      refine r_iaload X dX12_truth_120 (zt hL 60 rfl) (vp_in_iff.mpr ⟨h0, by omega⟩) ?_
      refine r_istore_n X (by decide) dX12_truth_121 ?_
      refine r_iload_n X (by rfl) dX12_truth_122 ?_
      refine r_if_le X 137 dX12_truth_123 (by decide) (fun h123 => ?_) (fun h123 => ?_)
      · have hi0 : i.toInt = 0 := by omega
        have hin0 : i.toNatClampNeg = 0 := by omega
        have hlt : zFg (ι1 (B + 60)) 12 = zFg (ι1 (B + 60)) 1 := zFg_hi (fun k k1 k4 => hz k (by omega) k4) (by decide)
        have hl1 : zFg (ι1 (B + 60)) 1 = 0 + (ι1 (B + 60) 0).toInt * 1 := rfl
        have hda := hd i.toNatClampNeg (by omega)
        have h1a : 1 ≤ (ι1 (B + 60) i.toNatClampNeg).toInt := by
          have : ¬ (ι1 (B + 60) i.toNatClampNeg).toInt = 0 := fun e => h106 (Int32.toInt_inj.mp (by rw [e]; rfl))
          omega
        have hVe := ztopM (a := ι1 (B + 60) i.toNatClampNeg) (b := 0) ⟨h1a, hda.2⟩ ⟨by decide, by decide⟩
        have hV : 100 ≤ ((10000 : Int64) * (ι1 (B + 60) i.toNatClampNeg).toInt64 + (0 : Int32).toInt64).toInt := by rw [hVe, show Int32.toInt 0 = 0 from rfl]; omega
        have hQ1 : 1000000 * zPr (ι (B + 47)) (ι (B + 38) 11).toNatClampNeg = zPr (ι (B + 47)) (ι (B + 38) 11).toNatClampNeg * zT1 6 := by rw [show zT1 6 = 1000000 from rfl]; omega
        have hQ2 : ∃ k : Nat, ((10000 : Int64) * (ι1 (B + 60) i.toNatClampNeg).toInt64 + (0 : Int32).toInt64).toInt * zT1 k ≤ 1000000 * zPr (ι (B + 47)) (ι (B + 38) 11).toNatClampNeg ∧ 1000000 * zPr (ι (B + 47)) (ι (B + 38) 11).toNatClampNeg < (((10000 : Int64) * (ι1 (B + 60) i.toNatClampNeg).toInt64 + (0 : Int32).toInt64).toInt + 1) * zT1 k := ⟨0, by rw [hVe, show Int32.toInt 0 = 0 from rfl, show zT1 0 = 1 from rfl, hin0]; omega⟩
        refine r_iconst X 0 (by decide) dX12_truth_137 ?_
        refine r_istore_n X (by decide) dX12_truth_138 ?_
        refine r_ldc2 X zK_X12_191 dX12_truth_139 ?_
        refine r_iload_n X (by rfl) dX12_truth_142 ?_
        refine r_i2l X dX12_truth_143 ?_
        refine r_lmul X dX12_truth_144 ?_
        refine r_iload_n X (by rfl) dX12_truth_145 ?_
        refine r_i2l X dX12_truth_146 ?_
        refine r_ladd X dX12_truth_147 ?_
        refine r_lstore X (by decide) dX12_truth_148 ?_
        exact zW.loc5 (by rfl) (by rfl) (by rfl) (by rfl) (by rfl) (L150 _ _ _ _ hf _ _ hQ1 _ _ (Nat.lt_succ_self _) hV hQ2)
      · have es := zsub1 h123
        have esc := zclN (i := i - 1) (by omega)
        have hda := hd i.toNatClampNeg (by omega)
        have hdb := hd (i - 1).toNatClampNeg (by omega)
        have h1a : 1 ≤ (ι1 (B + 60) i.toNatClampNeg).toInt := by
          have : ¬ (ι1 (B + 60) i.toNatClampNeg).toInt = 0 := fun e => h106 (Int32.toInt_inj.mp (by rw [e]; rfl))
          omega
        have hlt := zFg_t (f := ι1 (B + 60)) (m := 12) (t := i.toNatClampNeg) hd (by omega) (by omega) (fun k k1 k4 => hz k (by omega) k4)
        rw [show i.toNatClampNeg - 1 = (i - 1).toNatClampNeg by omega, zW4_e, hpr] at hlt
        have hVe := ztopM (a := ι1 (B + 60) i.toNatClampNeg) (b := ι1 (B + 60) (i - 1).toNatClampNeg) ⟨h1a, hda.2⟩ hdb
        rw [← hVe] at hlt
        have hV : 100 ≤ ((10000 : Int64) * (ι1 (B + 60) i.toNatClampNeg).toInt64 + (ι1 (B + 60) (i - 1).toNatClampNeg).toInt64).toInt := by rw [hVe]; omega
        have hQ1 : 100 * zPr (ι (B + 47)) (ι (B + 38) 11).toNatClampNeg = zPr (ι (B + 47)) (ι (B + 38) 11).toNatClampNeg * zT1 2 := by rw [show zT1 2 = 100 from rfl]; omega
        have hQ2 : ∃ k : Nat, ((10000 : Int64) * (ι1 (B + 60) i.toNatClampNeg).toInt64 + (ι1 (B + 60) (i - 1).toNatClampNeg).toInt64).toInt * zT1 k ≤ 100 * zPr (ι (B + 47)) (ι (B + 38) 11).toNatClampNeg ∧ 100 * zPr (ι (B + 47)) (ι (B + 38) 11).toNatClampNeg < (((10000 : Int64) * (ι1 (B + 60) i.toNatClampNeg).toInt64 + (ι1 (B + 60) (i - 1).toNatClampNeg).toInt64).toInt + 1) * zT1 k := ⟨_, hlt⟩
        refine r_aload_n X (by rfl) dX12_truth_126 ?_
        refine r_getR X dX12_truth_127 zF_X12_80 (zt hL 38 rfl) (zrf hL 57 rfl) ?_
        refine r_iload_n X (by rfl) dX12_truth_130 ?_
        refine r_iconst X 1 (by decide) dX12_truth_131 ?_
        refine r_isub X dX12_truth_132 ?_
        refine r_iaload X dX12_truth_133 (zt hL 60 rfl) (vp_in_iff.mpr (by have e := zsub1 h123; omega)) ?_
        refine r_goto X 138 dX12_truth_134 (by decide) ?_
        refine r_istore_n X (by decide) dX12_truth_138 ?_
        refine r_ldc2 X zK_X12_191 dX12_truth_139 ?_
        refine r_iload_n X (by rfl) dX12_truth_142 ?_
        refine r_i2l X dX12_truth_143 ?_
        refine r_lmul X dX12_truth_144 ?_
        refine r_iload_n X (by rfl) dX12_truth_145 ?_
        refine r_i2l X dX12_truth_146 ?_
        refine r_ladd X dX12_truth_147 ?_
        refine r_lstore X (by decide) dX12_truth_148 ?_
        exact zW.loc5 (by rfl) (by rfl) (by rfl) (by rfl) (by rfl) (L150 _ _ _ _ hf _ _ hQ1 _ _ (Nat.lt_succ_self _) hV hQ2)
    · have hne : ¬ i.toInt = 0 := fun q => by
        have hz2 : zFg (ι1 (B + 60)) 12 = 0 := zFg_0 (fun k hk => by
          by_cases q2 : k = i.toNatClampNeg
          · subst q2; exact h106
          · exact hz k (by omega) hk)
        omega
      have ed := zadd_c (x := i) (-1) (-1) rfl (by omega) (by omega)
      refine r_iinc X (-1) (by decide) (by rfl) (by decide) dX12_truth_109 ?_
      refine r_goto X 100 dX12_truth_112 (by decide) ?_
      exact zW.loc2 (by rfl) (by rfl) (ih _ (by rw [ed]; omega) (by rw [ed]; omega) (by rw [ed]; omega) (fun k hk h12 => by
        rw [ed] at hk
        by_cases q : k = i.toNatClampNeg
        · subst q; exact h106
        · exact hz k (by omega) h12))
  have L31 : ∀ (m : Nat) (i : Int32) (ι1 : Nat → Nat → Int32), (12 - i.toInt).toNat < m → 0 ≤ i.toInt → i.toInt ≤ 12 → zFm B ι ι1 → (∀ k, k < 12 → 0 ≤ (ι1 (B + 60) k).toInt ∧ (ι1 (B + 60) k).toInt < 10000) → 0 < zFg (ι1 (B + 60)) 12 → zFg (ι1 (B + 60)) 12 ≤ zT3 i.toNatClampNeg → i.toInt ≤ (ι (B + 38) 11).toInt → zFg (ι1 (B + 60)) 12 = 100 * zPr (ι (B + 47)) i.toNatClampNeg → zW E G 6 (z, τ, ρ, ι1, κ) 0 0 31 [(0, .ref (B + 38)), (1, .int i)] [] := by
    intro m
    induction m with
    | zero => intro i ι1 h; omega
    | succ m ih => ?_
    intro i ι1 hm h0 h12 hf hd hF hF2 hi11 hpr
    have hin := zclN h0
    have h11c := zclN hm2.1
    have h11 : ι1 (B + 38) 11 = ι (B + 38) 11 := hf _ _ (by unfold zCm; omega)
    have L43 : ∀ (hlt : i.toInt < (ι (B + 38) 11).toInt) (m2 : Nat) (j c2 : Int32) (ι2 : Nat → Nat → Int32), (12 - j.toInt).toNat < m2 → 0 ≤ j.toInt → j.toInt ≤ 12 → zFm B ι ι2 → (∀ k : Nat, j.toInt ≤ k → k < 12 → ι2 (B + 60) k = ι1 (B + 60) k) → (∀ k : Nat, k < 12 → (k : Int) < j.toInt → 0 ≤ (ι2 (B + 60) k).toInt ∧ (ι2 (B + 60) k).toInt < 10000) → 0 ≤ c2.toInt → c2.toInt ≤ (ι (B + 47) i.toNatClampNeg).toInt → zFg (ι2 (B + 60)) j.toNatClampNeg + c2.toInt * zW4 j.toNatClampNeg = (ι (B + 47) i.toNatClampNeg).toInt * zFg (ι1 (B + 60)) j.toNatClampNeg → zW E G 6 (z, τ, ρ, ι2, κ) 0 0 43 [(0, .ref (B + 38)), (1, .int i), (2, .int c2), (3, .int j)] [] := by
      intro hlt m2
      have hfa := hm3 i.toNatClampNeg (by omega)
      induction m2 with
      | zero => intro j c2 ι2 h; omega
      | succ m2 ih2 => ?_
      intro j c2 ι2 hm2 hj0 hj12 hf2 hs hd2 c0 c1 hP
      have hjn := zclN hj0
      have h47 : ι2 (B + 47) i.toNatClampNeg = ι (B + 47) i.toNatClampNeg := hf2 _ _ (by unfold zCm; omega)
      refine r_iload_n X (by rfl) dX12_truth_43 ?_
      refine r_bipush X 12 (by decide) dX12_truth_44 ?_
      refine r_icmp_ge X 91 dX12_truth_46 (by decide) (fun h46 => ?_) (fun h46 => ?_)
      · rw [show Int32.toInt 12 = 12 from rfl] at h46
        have hj2 : j.toNatClampNeg = 12 := by omega
        rw [hj2] at hP
        have hE := ztrE (i := i.toNatClampNeg) (by omega) hP (zFg_p (fun k hk => (hd2 k hk (by omega)).1)) c0 hF hF2 hfa.1 hfa.2
        have ei := zinc (x := i) (by omega)
        have ei2 : (i + 1).toNatClampNeg = i.toNatClampNeg + 1 := by have := zclN (i := i + 1) (by omega); omega
        refine r_iinc X 1 (by decide) (by rfl) (by decide) dX12_truth_91 ?_
        refine r_goto X 31 dX12_truth_94 (by decide) ?_
        exact zW.loc2 (by rfl) (by rfl) (ih _ _ (by rw [ei]; omega) (by rw [ei]; omega) (by rw [ei]; omega) hf2 (fun k hk => hd2 k hk (by omega)) hE.1 (by rw [ei2]; exact hE.2.1) (by rw [ei]; omega) (by rw [ei2, hE.2.2, hpr, zPr, Int.mul_left_comm]))
      · rw [show Int32.toInt 12 = 12 from rfl] at h46
        have HT := ztrS (k := ι2 (B + 60) j.toNatClampNeg) (x := ι2 (B + 47) i.toNatClampNeg) (c := c2) (U := 10000) rfl (by rw [hs _ (by omega) (by omega)]; exact (hd _ (by omega)).1) (by rw [hs _ (by omega) (by omega)]; exact (hd _ (by omega)).2) (by rw [h47]; exact hfa.1) (by rw [h47]; exact hfa.2) c0 (by rw [h47]; exact c1)
        generalize hrv : ι2 (B + 60) j.toNatClampNeg * ι2 (B + 47) i.toNatClampNeg + c2 - (ι2 (B + 60) j.toNatClampNeg * ι2 (B + 47) i.toNatClampNeg + c2) / 10000 * 10000 = rv at HT
        generalize hqv : (ι2 (B + 60) j.toNatClampNeg * ι2 (B + 47) i.toNatClampNeg + c2) / 10000 = qv at HT
        rw [h47] at HT
        obtain ⟨g1, g2, g3, g4, g5⟩ := HT
        have ej := zinc (x := j) (by omega)
        have ej2 : (j + 1).toNatClampNeg = j.toNatClampNeg + 1 := by have := zclN (i := j + 1) (by omega); omega
        refine r_aload_n X (by rfl) dX12_truth_49 ?_
        refine r_getR X dX12_truth_50 zF_X12_80 (zt hL 38 rfl) (zrf hL 57 rfl) ?_
        refine r_iload_n X (by rfl) dX12_truth_53 ?_
        refine r_iaload X dX12_truth_54 (zt hL 60 rfl) (vp_in_iff.mpr ⟨hj0, by omega⟩) ?_
        refine r_aload_n X (by rfl) dX12_truth_55 ?_
        refine r_getR X dX12_truth_56 zF_X12_39 (zt hL 38 rfl) (zrf hL 44 rfl) ?_
        refine r_iload_n X (by rfl) dX12_truth_59 ?_
        refine r_iaload X dX12_truth_60 (zt hL 47 rfl) (vp_in_iff.mpr ⟨h0, by omega⟩) ?_
        refine r_imul X dX12_truth_61 ?_
        refine r_iload_n X (by rfl) dX12_truth_62 ?_
        refine r_iadd X dX12_truth_63 ?_
        refine r_istore X (by decide) dX12_truth_64 ?_
        refine r_aload_n X (by rfl) dX12_truth_66 ?_
        refine r_getR X dX12_truth_67 zF_X12_80 (zt hL 38 rfl) (zrf hL 57 rfl) ?_
        refine r_iload_n X (by rfl) dX12_truth_70 ?_
        refine r_iload X (by rfl) dX12_truth_71 ?_
        refine r_sipush X 10000 (by decide) dX12_truth_73 ?_
        refine r_irem X (by decide) dX12_truth_76 ?_
        refine r_iastore X dX12_truth_77 (zt hL 60 rfl) (vp_in_iff.mpr ⟨hj0, by omega⟩) ?_
        refine r_iload X (by rfl) dX12_truth_78 ?_
        refine r_sipush X 10000 (by decide) dX12_truth_80 ?_
        refine r_idiv X (by decide) dX12_truth_83 ?_
        refine r_istore_n X (by decide) dX12_truth_84 ?_
        refine r_iinc X 1 (by decide) (by rfl) (by decide) dX12_truth_85 ?_
        refine r_goto X 43 dX12_truth_88 (by decide) ?_
        exact zW.loc4 (by rfl) (by rfl) (by rfl) (by rfl) (ih2 _ _ _ (by rw [ej]; omega) (by rw [ej]; omega) (by rw [ej]; omega) (hf2.u (by unfold zCm; omega)) (fun k hk h12 => by rw [ej] at hk; rw [zu_k (show k ≠ j.toNatClampNeg by omega)]; exact hs k (by omega) h12) (fun k h12 hk => by
          rw [ej] at hk
          by_cases q : k = j.toNatClampNeg
          · subst q; rw [zu_s, hrv]; exact ⟨g1, g2⟩
          · rw [zu_k q]; exact hd2 k h12 (by omega)) (by rw [hqv]; exact g3) (by rw [hqv]; exact g4) (by rw [ej2, zFg, zFg, zW4, zu_s, hrv, hqv, zFg_congr (g := ι2 (B + 60)) (fun k hk => zu_k (show k ≠ j.toNatClampNeg by omega)), ← hs j.toNatClampNeg (by omega) (by omega)]; exact g5 _ _ _ hP))
    refine r_iload_n X (by rfl) dX12_truth_31 ?_
    refine r_aload_n X (by rfl) dX12_truth_32 ?_
    refine r_getI X dX12_truth_33 zF_X12_218 (zt hL 38 rfl) ?_
    refine r_icmp_ge X 97 dX12_truth_36 (by decide) (fun h36 => ?_) (fun h36 => ?_)
    · refine r_bipush X 11 (by decide) dX12_truth_97 ?_
      refine r_istore_n X (by decide) dX12_truth_99 ?_
      exact zW.loc2 (by rfl) (by rfl) (L100 _ hf hF hd (by rw [hpr, show i.toNatClampNeg = (ι (B + 38) 11).toNatClampNeg by (have h36b := h36; rw [h11] at h36b; omega)]) 12 _ (by decide) (by decide) (by decide) (fun k hk h12 => by rw [show Int32.toInt 11 = 11 from rfl] at hk; omega))
    · rw [h11] at h36
      have hlt : i.toInt < (ι (B + 38) 11).toInt := h36
      refine r_iconst X 0 (by decide) dX12_truth_39 ?_
      refine r_istore_n X (by decide) dX12_truth_40 ?_
      refine r_iconst X 0 (by decide) dX12_truth_41 ?_
      refine r_istore_n X (by decide) dX12_truth_42 ?_
      exact zW.loc4 (by rfl) (by rfl) (by rfl) (by rfl) (L43 hlt 13 _ _ _ (by decide) (by decide) (by decide) hf (fun _ _ _ => rfl) (fun k _ hk => by rw [show Int32.toInt 0 = 0 from rfl] at hk; omega) (by decide) (by rw [show Int32.toInt 0 = 0 from rfl]; have := hm3 i.toNatClampNeg (by omega); omega) (by rw [show Int32.toNatClampNeg 0 = 0 from rfl, show Int32.toInt 0 = 0 from rfl]; simp only [zFg]; omega))
  have L2 : ∀ (m : Nat) (i : Int32) (ι1 : Nat → Nat → Int32), (12 - i.toInt).toNat < m → 0 ≤ i.toInt → zFm B ι ι1 → (∀ k : Nat, k < 12 → (k : Int) < i.toInt → ι1 (B + 60) k = 0) → zW E G 6 (z, τ, ρ, ι1, κ) 0 0 2 [(0, .ref (B + 38)), (1, .int i)] [] := by
    intro m
    induction m with
    | zero => intro i ι1 h; omega
    | succ m ih => ?_
    intro i ι1 hm h0 hf hz
    have hin := zclN h0
    refine r_iload_n X (by rfl) dX12_truth_2 ?_
    refine r_bipush X 12 (by decide) dX12_truth_3 ?_
    refine r_icmp_ge X 21 dX12_truth_5 (by decide) (fun h5 => ?_) (fun h5 => ?_)
    · rw [show Int32.toInt 12 = 12 from rfl] at h5
      have he0 : zFg (zu ι1 (B + 60) (Int32.toNatClampNeg 0) 100 (B + 60)) 12 = 100 := by
        have hc : ∀ k, k < 12 → zu ι1 (B + 60) (Int32.toNatClampNeg 0) 100 (B + 60) k = (fun k => if k = 0 then (100 : Int32) else 0) k := fun k hk => by
          by_cases q : k = 0
          · subst q; rw [show Int32.toNatClampNeg 0 = 0 from rfl, zu_s]; rfl
          · rw [show Int32.toNatClampNeg 0 = 0 from rfl, zu_k q, hz k hk (by omega)]; exact (if_neg q).symm
        rw [zFg_congr hc]; decide +kernel
      refine r_aload_n X (by rfl) dX12_truth_21 ?_
      refine r_getR X dX12_truth_22 zF_X12_80 (zt hL 38 rfl) (zrf hL 57 rfl) ?_
      refine r_iconst X 0 (by decide) dX12_truth_25 ?_
      refine r_bipush X 100 (by decide) dX12_truth_26 ?_
      refine r_iastore X dX12_truth_28 (zt hL 60 rfl) (vp_in_iff.mpr ⟨by decide, by decide⟩) ?_
      refine r_iconst X 0 (by decide) dX12_truth_29 ?_
      refine r_istore_n X (by decide) dX12_truth_30 ?_
      exact zW.loc2 (by rfl) (by rfl) (L31 13 _ _ (by decide) (by decide) (by decide) (hf.u (by unfold zCm; omega)) (fun k hk => by
        by_cases q : k = 0
        · subst q; rw [show Int32.toNatClampNeg 0 = 0 from rfl, zu_s]; decide
        · rw [show Int32.toNatClampNeg 0 = 0 from rfl, zu_k q, hz k hk (by omega)]; decide) (by rw [he0]; decide) (by rw [he0]; decide) (by rw [show Int32.toInt 0 = 0 from rfl]; exact hm2.1) (by rw [he0, show Int32.toNatClampNeg 0 = 0 from rfl]; rfl))
    · rw [show Int32.toInt 12 = 12 from rfl] at h5
      refine r_aload_n X (by rfl) dX12_truth_8 ?_
      refine r_getR X dX12_truth_9 zF_X12_80 (zt hL 38 rfl) (zrf hL 57 rfl) ?_
      refine r_iload_n X (by rfl) dX12_truth_12 ?_
      refine r_iconst X 0 (by decide) dX12_truth_13 ?_
      refine r_iastore X dX12_truth_14 (zt hL 60 rfl) (vp_in_iff.mpr ⟨h0, by omega⟩) ?_
      refine r_iinc X 1 (by decide) (by rfl) (by decide) dX12_truth_15 ?_
      refine r_goto X 2 dX12_truth_18 (by decide) ?_
      exact zW.loc2 (by rfl) (by rfl) (ih _ _ (by have e := zinc (x := i) (by omega); omega) (by have e := zinc (x := i) (by omega); omega) (hf.u (by unfold zCm; omega)) (fun k h12 hk => by
        have e := zinc (x := i) (by omega)
        by_cases q : k = i.toNatClampNeg
        · subst q; rw [zu_s]
        · rw [zu_k q]; exact hz k h12 (by omega)))
  refine r_iconst X 0 (by decide) dX12_truth_0 ?_
  refine r_istore_n X (by decide) dX12_truth_1 ?_
  exact zW.loc2 (by rfl) (by rfl) (L2 13 _ _ (by decide) (by decide) zFm.rfl (fun k _ hk => by rw [show Int32.toInt 0 = 0 from rfl] at hk; omega))
set_option maxHeartbeats 4000000 in
set_option maxRecDepth 100000 in
theorem c_X12_chain (l : Launch) (G : zG) (z : Nat) (τ : Nat → Option (Nat × Nat)) (ρ : Nat → Nat → Option Nat) (ι : Nat → Nat → Int32) (κ : Nat → Nat → Int64) {B c : Nat} (hL : zLay τ ρ B c) (hJ : zJ B c ι) (hL0 : 100 ≤ (ι (B + 38) 0).toInt ∧ (ι (B + 38) 0).toInt ≤ 50000) (hP : zPkM B ι) (x : Int32) : zM l G yX12_chain cX12_chain 5 (some .int) ({ frames := 7, cells := 0, slots := 0, locals := 185 } : Room) [.ref (B + 38), .int x] (z, τ, ρ, ι, κ) (fun v s => ∃ r ι2 κ2, v = some (.int r) ∧ s = (z, τ, ρ, ι2, κ2) ∧ zFm0 B ι ι2 ∧ zPkM B ι2 ∧ zCH (ι (B + 38) 0) (ι (B + 47)) (ι (B + 38) 11).toNatClampNeg x r) 0 0 := by
  refine zM_of zCd_X12_chain (Nat.le_of_ble_eq_true rfl) ?_
  intro E X hR hE
  subst hE
  show zW E G 5 (z, τ, ρ, ι, κ) 0 0 0 [(0, .ref (B + 38)), (1, .int x)] []
  obtain ⟨h8, hJc, hm1, hm2, hm3, hm4, hm5⟩ := id hJ
  have L22 : ∀ (hx4 : 0 ≤ x.toInt ∧ x.toInt ≤ 4) (m : Nat) (i p q : Int32) (ι1 : Nat → Nat → Int32) (κ1 : Nat → Nat → Int64), (12 - i.toInt).toNat < m → 0 ≤ i.toInt → (0 ≤ p.toInt ∧ p.toInt ≤ (ι (B + 38) 0).toInt) → zFm0 B ι ι1 → zPkM B ι1 → i.toInt ≤ (ι (B + 38) 11).toInt → p = (zMv (ι (B + 38) 0) (zDp (ι (B + 38) 0) (ι (B + 47))) i.toNatClampNeg).1 → q = (zMv (ι (B + 38) 0) (zDp (ι (B + 38) 0) (ι (B + 47))) i.toNatClampNeg).2 → zW E G 5 (z, τ, ρ, ι1, κ1) 0 0 22 [(0, .ref (B + 38)), (1, .int x), (2, .int p), (3, .int q), (4, .int i)] [] := by
    intro hx4 m
    induction m with
    | zero => intro i p q ι1 κ1 h; omega
    | succ m ih => ?_
    intro i p q ι1 κ1 hm h0 hp hf hP1 hi11 hmp hmq
    have h11 : ι1 (B + 38) 11 = ι (B + 38) 11 := hf _ _ (by unfold zCm0; omega)
    have h11i : (ι1 (B + 38) 11).toInt = (ι (B + 38) 11).toInt := by rw [h11]
    have h11c := zclN hm2.1
    have h47 : ∀ k, ι1 (B + 47) k = ι (B + 47) k := fun k => hf _ _ (by unfold zCm0; omega)
    have hJ1 := zJ_fm0 hJ hf
    obtain ⟨-, -, -, g2, g3, -⟩ := id hJ1
    have hin := zclN h0
    have hL1 : ι1 (B + 38) 0 = ι (B + 38) 0 := hf _ _ (by unfold zCm0; omega)
    refine r_iload X (by rfl) dX12_chain_22 ?_
    refine r_aload_n X (by rfl) dX12_chain_24 ?_
    refine r_getI X dX12_chain_25 zF_X12_218 (zt hL 38 rfl) ?_
    refine r_icmp_ge X 69 dX12_chain_28 (by decide) (fun h28 => ?_) (fun h28 => ?_)
    · rw [h11] at h28
      refine r_iload_n X (by rfl) dX12_chain_69 ?_
      have hii : i.toNatClampNeg = (ι (B + 38) 11).toNatClampNeg := by omega
      rw [hii] at hmp hmq
      have hsw : x.toInt = 0 + 0 ∨ x.toInt = 0 + 1 ∨ x.toInt = 0 + 2 ∨ x.toInt = 0 + 3 ∨ (x.toInt < 0 ∨ 3 < x.toInt) := by omega
      rcases hsw with hs | hs | hs | hs | hs
      · refine r_tableIn X (j0 := 0) 100 dX12_chain_70 hs rfl (by decide) (by decide) (by decide) ?_
        refine r_iload_n X (by rfl) dX12_chain_100 ?_
        refine r_ireturn X hR dX12_chain_101 rfl (Nat.zero_le _) (Nat.zero_le _) ?_
        exact ⟨_, _, _, rfl, rfl, hf, hP1, Or.inr (Or.inl ⟨by omega, hmp⟩)⟩
      · refine r_tableIn X (j0 := 1) 102 dX12_chain_70 hs rfl (by decide) (by decide) (by decide) ?_
        refine r_aload_n X (by rfl) dX12_chain_102 ?_
        refine r_iload_n X (by rfl) dX12_chain_103 ?_
        refine r_callV X dX12_chain_104 zLV_X12_232 zCd_X12_reading (c_X12_reading _ G z τ ρ _ _ hL (by rw [hL1]; exact hL0) hP1 _ ⟨by omega, by omega⟩) (zt hL 38 rfl) ⟨by decide, rfl, rfl⟩ rfl rfl ⟨⟨rfl, rfl⟩, ⟨by decide, by decide⟩, ⟨Nat.le_of_ble_eq_true rfl, Nat.le_of_ble_eq_true rfl⟩, Nat.le_of_ble_eq_true rfl⟩ ?_
        rintro _ _ ⟨r3, ι3, κ3, rfl, rfl, hf3, hp3, hq3⟩
        refine r_ireturn X hR dX12_chain_107 rfl (Nat.zero_le _) (Nat.zero_le _) ?_
        rw [hL1, hmp] at hq3
        exact ⟨_, _, _, rfl, rfl, hf.tr hf3.w, hp3, Or.inr (Or.inr (Or.inl ⟨by omega, hq3⟩))⟩
      · refine r_tableIn X (j0 := 2) 108 dX12_chain_70 hs rfl (by decide) (by decide) (by decide) ?_
        refine r_aload_n X (by rfl) dX12_chain_108 ?_
        refine r_callV X dX12_chain_109 zLV_X12_235 zCd_X12_truth (c_X12_truth _ G z τ ρ _ _ hL hJ1) (zt hL 38 rfl) ⟨by decide, rfl, rfl⟩ rfl rfl ⟨⟨rfl, rfl⟩, ⟨by decide, by decide⟩, ⟨Nat.le_of_ble_eq_true rfl, Nat.le_of_ble_eq_true rfl⟩, Nat.le_of_ble_eq_true rfl⟩ ?_
        rintro _ _ ⟨r4, ι4, κ4, rfl, rfl, hf4, ht4⟩
        refine r_ireturn X hR dX12_chain_112 rfl (Nat.zero_le _) (Nat.zero_le _) ?_
        rw [h11, zPr_congr (fun k _ => h47 k)] at ht4
        exact ⟨_, _, _, rfl, rfl, hf.tr hf4.w, zPkM_fm hf4 hP1, Or.inr (Or.inr (Or.inr (Or.inl ⟨by omega, ht4⟩)))⟩
      · refine r_tableIn X (j0 := 3) 113 dX12_chain_70 hs rfl (by decide) (by decide) (by decide) ?_
        refine r_aload_n X (by rfl) dX12_chain_113 ?_
        refine r_iload_n X (by rfl) dX12_chain_114 ?_
        refine r_callV X dX12_chain_115 zLV_X12_232 zCd_X12_reading (c_X12_reading _ G z τ ρ _ _ hL (by rw [hL1]; exact hL0) hP1 _ ⟨by omega, by omega⟩) (zt hL 38 rfl) ⟨by decide, rfl, rfl⟩ rfl rfl ⟨⟨rfl, rfl⟩, ⟨by decide, by decide⟩, ⟨Nat.le_of_ble_eq_true rfl, Nat.le_of_ble_eq_true rfl⟩, Nat.le_of_ble_eq_true rfl⟩ ?_
        rintro _ _ ⟨r3, ι3, κ3, rfl, rfl, hf3, hp3, hq3⟩
        refine r_aload_n X (by rfl) dX12_chain_118 ?_
        refine r_callV X dX12_chain_119 zLV_X12_235 zCd_X12_truth (c_X12_truth _ G z τ ρ _ _ hL (zJ_fm0 hJ1 hf3.w)) (zt hL 38 rfl) ⟨by decide, rfl, rfl⟩ rfl rfl ⟨⟨rfl, rfl⟩, ⟨by decide, by decide⟩, ⟨Nat.le_of_ble_eq_true rfl, Nat.le_of_ble_eq_true rfl⟩, Nat.le_of_ble_eq_true rfl⟩ ?_
        rintro _ _ ⟨r4, ι4, κ4, rfl, rfl, hf4, ht4⟩
        refine r_isub X dX12_chain_122 ?_
        refine r_ireturn X hR dX12_chain_123 rfl (Nat.zero_le _) (Nat.zero_le _) ?_
        rw [hL1, hmp] at hq3
        rw [hf3 (B + 38) 11 (by omega) (by omega), h11, zPr_congr (fun k _ => (hf3 (B + 47) k (by omega) (by omega)).trans (h47 k))] at ht4
        exact ⟨_, _, _, rfl, rfl, (hf.tr hf3.w).tr hf4.w, zPkM_fm hf4 hp3, Or.inr (Or.inr (Or.inr (Or.inr (Or.inl ⟨by omega, _, _, rfl, hq3, ht4⟩))))⟩
      · refine r_tableOut X 124 dX12_chain_70 hs (by decide) ?_
        refine r_iload_n X (by rfl) dX12_chain_124 ?_
        refine r_ireturn X hR dX12_chain_125 rfl (Nat.zero_le _) (Nat.zero_le _) ?_
        exact ⟨_, _, _, rfl, rfl, hf, hP1, Or.inr (Or.inr (Or.inr (Or.inr (Or.inr ⟨by omega, hmq⟩))))⟩
    · rw [h11] at h28
      refine r_iload_n X (by rfl) dX12_chain_31 ?_
      refine r_aload_n X (by rfl) dX12_chain_32 ?_
      refine r_aload_n X (by rfl) dX12_chain_33 ?_
      refine r_getR X dX12_chain_34 zF_X12_39 (zt hL 38 rfl) (zrf hL 44 rfl) ?_
      refine r_iload X (by rfl) dX12_chain_37 ?_
      refine r_iaload X dX12_chain_39 (zt hL 47 rfl) (vp_in_iff.mpr ⟨by omega, by omega⟩) ?_
      refine r_callV X dX12_chain_40 zLV_X12_227 zCd_X12_plainOf (c_X12_plainOf _ G z τ ρ _ _ hL (by rw [hL1]; exact hL0) hP1 _ (g3 _ (by omega))) (zt hL 38 rfl) ⟨by decide, rfl, rfl⟩ rfl rfl ⟨⟨rfl, rfl⟩, ⟨by decide, by decide⟩, ⟨Nat.le_of_ble_eq_true rfl, Nat.le_of_ble_eq_true rfl⟩, Nat.le_of_ble_eq_true rfl⟩ ?_
      rintro _ _ ⟨r2, ι2, κ2, rfl, rfl, hf2, hp2, hq2⟩
      rw [hL1] at hq2
      have hL2 : ι2 (B + 38) 0 = ι (B + 38) 0 := by rw [hf2 _ _ (by omega) (by omega)]; exact hL1
      have hL3 : (ι2 (B + 38) 0).toInt = (ι (B + 38) 0).toInt := by rw [hL2]
      have hg3 := g3 i.toNatClampNeg (by omega)
      have hfc := zclN (i := ι1 (B + 47) i.toNatClampNeg) (by omega)
      have bb2 := zPl9_b hL0 (k := (ι1 (B + 47) i.toNatClampNeg).toNatClampNeg - 100) (by omega)
      rw [← hq2] at bb2
      have e9 : (p + r2).toInt = p.toInt + r2.toInt := zaddI (by omega) (by omega)
      have hdr : r2 = zDp (ι (B + 38) 0) (ι (B + 47)) i.toNatClampNeg := by rw [hq2, h47]; rfl
      have ei := zinc (x := i) (by omega)
      have ei2 : (i + 1).toNatClampNeg = i.toNatClampNeg + 1 := by have := zclN (i := i + 1) (by omega); omega
      refine r_iadd X dX12_chain_43 ?_
      refine r_istore_n X (by decide) dX12_chain_44 ?_
      refine r_iload_n X (by rfl) dX12_chain_45 ?_
      refine r_aload_n X (by rfl) dX12_chain_46 ?_
      refine r_getI X dX12_chain_47 zF_X12_7 (zt hL 38 rfl) ?_
      refine r_icmp_lt X 63 dX12_chain_50 (by decide) (fun h50 => ?_) (fun h50 => ?_)
      · have hmv := zMv_lt (d := zDp (ι (B + 38) 0) (ι (B + 47))) hmp hmq (by rw [← hdr, ← hL2]; exact h50)
        rw [← hdr] at hmv
        refine r_iinc X 1 (by decide) (by rfl) (by decide) dX12_chain_63 ?_
        refine r_goto X 22 dX12_chain_66 (by decide) ?_
        exact zW.loc5 (by rfl) (by rfl) (by rfl) (by rfl) (by rfl) (ih _ _ _ _ _ (by have e := zinc (x := i) (by omega); omega) (by have e := zinc (x := i) (by omega); omega) (by first | exact ⟨by omega, by omega⟩ | (have e8 := zsubI (x := p + r2) (y := ι2 (B + 38) 0) (by omega) (by omega); exact ⟨by omega, by omega⟩)) (hf.tr hf2.w) hp2 (by have e := zinc (x := i) (by omega); omega) (by rw [ei2]; exact hmv.1) (by rw [ei2]; exact hmv.2))
      · have hmv0 := zMv_ge (d := zDp (ι (B + 38) 0) (ι (B + 47))) hmp hmq (by rw [← hdr, ← hL2]; omega)
        rw [← hdr] at hmv0
        have hmv : p + r2 - ι2 (B + 38) 0 = (zMv (ι (B + 38) 0) (zDp (ι (B + 38) 0) (ι (B + 47))) (i.toNatClampNeg + 1)).1 ∧ q + 1 = (zMv (ι (B + 38) 0) (zDp (ι (B + 38) 0) (ι (B + 47))) (i.toNatClampNeg + 1)).2 := by rw [hL2]; exact hmv0
        refine r_iload_n X (by rfl) dX12_chain_53 ?_
        refine r_aload_n X (by rfl) dX12_chain_54 ?_
        refine r_getI X dX12_chain_55 zF_X12_7 (zt hL 38 rfl) ?_
        refine r_isub X dX12_chain_58 ?_
        refine r_istore_n X (by decide) dX12_chain_59 ?_
        refine r_iinc X 1 (by decide) (by rfl) (by decide) dX12_chain_60 ?_
        refine r_iinc X 1 (by decide) (by rfl) (by decide) dX12_chain_63 ?_
        refine r_goto X 22 dX12_chain_66 (by decide) ?_
        exact zW.loc5 (by rfl) (by rfl) (by rfl) (by rfl) (by rfl) (ih _ _ _ _ _ (by have e := zinc (x := i) (by omega); omega) (by have e := zinc (x := i) (by omega); omega) (by first | exact ⟨by omega, by omega⟩ | (have e8 := zsubI (x := p + r2) (y := ι2 (B + 38) 0) (by omega) (by omega); exact ⟨by omega, by omega⟩)) (hf.tr hf2.w) hp2 (by have e := zinc (x := i) (by omega); omega) (by rw [ei2]; exact hmv.1) (by rw [ei2]; exact hmv.2))
  refine r_iload_n X (by rfl) dX12_chain_0 ?_
  refine r_i2l X dX12_chain_1 ?_
  refine r_lconst X 0 (by decide) dX12_chain_2 ?_
  refine r_ldc2 X zK_X12_97 dX12_chain_3 ?_
  refine r_callS X dX12_chain_6 zLS_X12_163 zCd_X12_in (c_X12_in _ G z τ ρ _ _ _ _ _) rfl rfl ⟨⟨rfl, rfl⟩, ⟨by decide, by decide⟩, ⟨Nat.le_of_ble_eq_true rfl, Nat.le_of_ble_eq_true rfl⟩, Nat.le_of_ble_eq_true rfl⟩ ?_
  rintro _ _ ⟨rfl, rfl⟩
  rw [Int32.toInt_toInt64, show Int64.toInt 0 = 0 from rfl, show Int64.toInt 4 = 4 from rfl]
  refine r_if_ne X 15 dX12_chain_9 (by decide) (fun h9 => ?_) (fun h9 => ?_)
  · refine r_iconst X 0 (by decide) dX12_chain_15 ?_
    refine r_istore_n X (by decide) dX12_chain_16 ?_
    refine r_iconst X 0 (by decide) dX12_chain_17 ?_
    refine r_istore_n X (by decide) dX12_chain_18 ?_
    refine r_iconst X 0 (by decide) dX12_chain_19 ?_
    refine r_istore X (by decide) dX12_chain_20 ?_
    exact zW.loc5 (by rfl) (by rfl) (by rfl) (by rfl) (by rfl) (L22 (zif1 h9) 13 0 0 0 _ _ (by decide) (by decide) ⟨by decide, by rw [show Int32.toInt 0 = 0 from rfl]; omega⟩ zFm0.rfl hP (by rw [show Int32.toInt 0 = 0 from rfl]; exact hm2.1) rfl rfl)
  · refine r_ldc X zK_X12_186 dX12_chain_12 ?_
    refine r_ireturn X hR dX12_chain_14 rfl (Nat.zero_le _) (Nat.zero_le _) ?_
    exact ⟨_, _, _, rfl, rfl, zFm0.rfl, hP, Or.inl ⟨zif0 h9, rfl⟩⟩
set_option maxHeartbeats 4000000 in
set_option maxRecDepth 100000 in
theorem c_X12_pairs (l : Launch) (G : zG) (z : Nat) (τ : Nat → Option (Nat × Nat)) (ρ : Nat → Nat → Option Nat) (ι : Nat → Nat → Int32) (κ : Nat → Nat → Int64) {B c : Nat} (hL : zLay τ ρ B c) (hL0 : 100 ≤ (ι (B + 38) 0).toInt ∧ (ι (B + 38) 0).toInt ≤ 50000) (hP : zPkM B ι) (x y u w : Int32) : zM l G yX12_pairs cX12_pairs 16 (some .int) ({ frames := 7, cells := 0, slots := 0, locals := 185 } : Room) [.ref (B + 38), .int x, .int y, .int u, .int w] (z, τ, ρ, ι, κ) (fun v s => ∃ r ι2 κ2, v = some (.int r) ∧ s = (z, τ, ρ, ι2, κ2) ∧ zFm0 B ι ι2 ∧ zPkM B ι2) 0 0 := by
  refine zM_of zCd_X12_pairs (Nat.le_of_ble_eq_true rfl) ?_
  intro E X hR hE
  subst hE
  show zW E G 16 (z, τ, ρ, ι, κ) 0 0 0 [(0, .ref (B + 38)), (1, .int x), (2, .int y), (3, .int u), (4, .int w)] []
  have L88 : ∀ (hU : (100 ≤ x.toInt ∧ y.toInt ≤ 999 ∧ 1 ≤ u.toInt ∧ u.toInt ≤ 999)) (m : Nat) (a w1 w2 w3 w4 w5 w6 : Int32) (ι1 : Nat → Nat → Int32) (κ1 : Nat → Nat → Int64), (3000 - a.toInt).toNat < m → 100 ≤ a.toInt → a.toInt ≤ 2000 → zFm0 B ι ι1 → zPkM B ι1 → zW E G 16 (z, τ, ρ, ι1, κ1) 0 0 88 [(0, .ref (B + 38)), (1, .int x), (2, .int y), (3, .int u), (4, .int w), (5, .int w1), (6, .int w2), (7, .int w3), (8, .int w4), (9, .int w5), (10, .int w6), (11, .int a)] [] := by
    intro hU m
    induction m with
    | zero => intro a w1 w2 w3 w4 w5 w6 ι1 κ1 h; omega
    | succ m ih => ?_
    intro a w1 w2 w3 w4 w5 w6 ι1 κ1 hm h0 h1 hf hP1
    have hac := zclN (i := a) (by omega)
    have L98 : ∀ (hay : a.toInt ≤ y.toInt) (m2 : Nat) (b w1 w2 w3 w4 w5 w6 : Int32) (ι2 : Nat → Nat → Int32) (κ2 : Nat → Nat → Int64), (3000 - b.toInt).toNat < m2 → 100 ≤ b.toInt → b.toInt ≤ 2000 → zFm0 B ι ι2 → zPkM B ι2 → zW E G 16 (z, τ, ρ, ι2, κ2) 0 0 98 [(0, .ref (B + 38)), (1, .int x), (2, .int y), (3, .int u), (4, .int w), (5, .int w1), (6, .int w2), (7, .int w3), (8, .int w4), (9, .int w5), (10, .int w6), (11, .int a), (12, .int b)] [] := by
      intro hay m2
      induction m2 with
      | zero => intro b w1 w2 w3 w4 w5 w6 ι2 κ2 h; omega
      | succ m2 ih2 => ?_
      intro b w1 w2 w3 w4 w5 w6 ι2 κ2 hm2 hb0 hb1 hf2 hP2
      have hbc := zclN (i := b) (by omega)
      have hL2 : ι2 (B + 38) 0 = ι (B + 38) 0 := hf2 _ _ (by unfold zCm0; omega)
      have L212 : ∀ (hby : b.toInt ≤ y.toInt) (p w6 : Int32) (ι3 : Nat → Nat → Int32) (κ3 : Nat → Nat → Int64), zFm0 B ι ι3 → zPkM B ι3 → (-1000000 ≤ p.toInt ∧ p.toInt ≤ 1000000) → ∀ (m3 : Nat) (t : Int32), t.toInt.toNat < m3 → zW E G 16 (z, τ, ρ, ι3, κ3) 0 0 212 [(0, .ref (B + 38)), (1, .int x), (2, .int y), (3, .int u), (4, .int w), (5, .int w1), (6, .int w2), (7, .int w3), (8, .int w4), (9, .int w5), (10, .int w6), (11, .int a), (12, .int b), (13, .int p), (14, .int t)] [] := by
        intro hby p w6 ι3 κ3 hf3 hP3 hpb m3
        have hL3 : ι3 (B + 38) 0 = ι (B + 38) 0 := hf3 _ _ (by unfold zCm0; omega)
        induction m3 with
        | zero => intro t h; omega
        | succ m3 ih3 => ?_
        intro t hm3
        refine r_iload X (by rfl) dX12_pairs_212 ?_
        refine r_sipush X 1000 (by decide) dX12_pairs_214 ?_
        refine r_icmp_lt X 230 dX12_pairs_217 (by decide) (fun h217 => ?_) (fun h217 => ?_)
        · rw [show Int32.toInt 1000 = 1000 from rfl] at h217
          refine r_aload_n X (by rfl) dX12_pairs_230 ?_
          refine r_iload X (by rfl) dX12_pairs_231 ?_
          refine r_callV X dX12_pairs_233 zLV_X12_232 zCd_X12_reading (c_X12_reading _ G z τ ρ _ _ hL (by rw [hL3]; exact hL0) hP3 _ hpb) (zt hL 38 rfl) ⟨by decide, rfl, rfl⟩ rfl rfl ⟨⟨rfl, rfl⟩, ⟨by decide, by decide⟩, ⟨Nat.le_of_ble_eq_true rfl, Nat.le_of_ble_eq_true rfl⟩, Nat.le_of_ble_eq_true rfl⟩ ?_
          rintro _ _ ⟨r6, ι6, κ6, rfl, rfl, hf6, hp6, hq6⟩
          refine r_iload X (by rfl) dX12_pairs_236 ?_
          refine r_isub X dX12_pairs_238 ?_
          refine r_callS X dX12_pairs_239 zLS_X12_199 zCd_X12_size (c_X12_size _ G z τ ρ _ _ _) rfl rfl ⟨⟨rfl, rfl⟩, ⟨by decide, by decide⟩, ⟨Nat.le_of_ble_eq_true rfl, Nat.le_of_ble_eq_true rfl⟩, Nat.le_of_ble_eq_true rfl⟩ ?_
          rintro _ _ ⟨rfl, rfl⟩
          generalize hgg : (if (r6 - t).toInt < 0 then -(r6 - t) else r6 - t) = gg
          refine r_istore X (by decide) dX12_pairs_242 ?_
          refine r_iload X (by rfl) dX12_pairs_244 ?_
          refine r_iload X (by rfl) dX12_pairs_246 ?_
          refine r_icmp_le X 256 dX12_pairs_248 (by decide) (fun h248 => ?_) (fun h248 => ?_)
          · refine r_iload X (by rfl) dX12_pairs_256 ?_
            refine r_istore X (by decide) dX12_pairs_258 ?_
            refine r_iload X (by rfl) dX12_pairs_260 ?_
            refine r_iload X (by rfl) dX12_pairs_262 ?_
            refine r_icmp_le X 272 dX12_pairs_264 (by decide) (fun h264 => ?_) (fun h264 => ?_)
            · refine r_iload X (by rfl) dX12_pairs_272 ?_
              refine r_istore X (by decide) dX12_pairs_274 ?_
              refine r_iload X (by rfl) dX12_pairs_276 ?_
              refine r_iload X (by rfl) dX12_pairs_278 ?_
              refine r_icmp_le X 288 dX12_pairs_280 (by decide) (fun h280 => ?_) (fun h280 => ?_)
              · refine r_iload X (by rfl) dX12_pairs_288 ?_
                refine r_istore X (by decide) dX12_pairs_290 ?_
                refine r_iload X (by rfl) dX12_pairs_292 ?_
                refine r_iload X (by rfl) dX12_pairs_294 ?_
                refine r_iadd X dX12_pairs_296 ?_
                refine r_istore X (by decide) dX12_pairs_297 ?_
                refine r_iinc X 1 (by decide) (by rfl) (by decide) dX12_pairs_299 ?_
                refine r_iload X (by rfl) dX12_pairs_302 ?_
                refine r_iload_n X (by rfl) dX12_pairs_304 ?_
                refine r_iadd X dX12_pairs_305 ?_
                refine r_istore X (by decide) dX12_pairs_306 ?_
                refine r_goto X 98 dX12_pairs_308 (by decide) ?_
                exact zW.loc13 (by rfl) (by rfl) (by rfl) (by rfl) (by rfl) (by rfl) (by rfl) (by rfl) (by rfl) (by rfl) (by rfl) (by rfl) (by rfl) (ih2 _ _ _ _ _ _ _ _ _ (by have e := zaddI (x := b) (y := u) (by omega) (by omega); omega) (by have e := zaddI (x := b) (y := u) (by omega) (by omega); omega) (by have e := zaddI (x := b) (y := u) (by omega) (by omega); omega) (hf3.tr hf6.w) hp6)
              · refine r_iload X (by rfl) dX12_pairs_283 ?_
                refine r_goto X 290 dX12_pairs_285 (by decide) ?_
                refine r_istore X (by decide) dX12_pairs_290 ?_
                refine r_iload X (by rfl) dX12_pairs_292 ?_
                refine r_iload X (by rfl) dX12_pairs_294 ?_
                refine r_iadd X dX12_pairs_296 ?_
                refine r_istore X (by decide) dX12_pairs_297 ?_
                refine r_iinc X 1 (by decide) (by rfl) (by decide) dX12_pairs_299 ?_
                refine r_iload X (by rfl) dX12_pairs_302 ?_
                refine r_iload_n X (by rfl) dX12_pairs_304 ?_
                refine r_iadd X dX12_pairs_305 ?_
                refine r_istore X (by decide) dX12_pairs_306 ?_
                refine r_goto X 98 dX12_pairs_308 (by decide) ?_
                exact zW.loc13 (by rfl) (by rfl) (by rfl) (by rfl) (by rfl) (by rfl) (by rfl) (by rfl) (by rfl) (by rfl) (by rfl) (by rfl) (by rfl) (ih2 _ _ _ _ _ _ _ _ _ (by have e := zaddI (x := b) (y := u) (by omega) (by omega); omega) (by have e := zaddI (x := b) (y := u) (by omega) (by omega); omega) (by have e := zaddI (x := b) (y := u) (by omega) (by omega); omega) (hf3.tr hf6.w) hp6)
            · refine r_iload X (by rfl) dX12_pairs_267 ?_
              refine r_goto X 274 dX12_pairs_269 (by decide) ?_
              refine r_istore X (by decide) dX12_pairs_274 ?_
              refine r_iload X (by rfl) dX12_pairs_276 ?_
              refine r_iload X (by rfl) dX12_pairs_278 ?_
              refine r_icmp_le X 288 dX12_pairs_280 (by decide) (fun h280 => ?_) (fun h280 => ?_)
              · refine r_iload X (by rfl) dX12_pairs_288 ?_
                refine r_istore X (by decide) dX12_pairs_290 ?_
                refine r_iload X (by rfl) dX12_pairs_292 ?_
                refine r_iload X (by rfl) dX12_pairs_294 ?_
                refine r_iadd X dX12_pairs_296 ?_
                refine r_istore X (by decide) dX12_pairs_297 ?_
                refine r_iinc X 1 (by decide) (by rfl) (by decide) dX12_pairs_299 ?_
                refine r_iload X (by rfl) dX12_pairs_302 ?_
                refine r_iload_n X (by rfl) dX12_pairs_304 ?_
                refine r_iadd X dX12_pairs_305 ?_
                refine r_istore X (by decide) dX12_pairs_306 ?_
                refine r_goto X 98 dX12_pairs_308 (by decide) ?_
                exact zW.loc13 (by rfl) (by rfl) (by rfl) (by rfl) (by rfl) (by rfl) (by rfl) (by rfl) (by rfl) (by rfl) (by rfl) (by rfl) (by rfl) (ih2 _ _ _ _ _ _ _ _ _ (by have e := zaddI (x := b) (y := u) (by omega) (by omega); omega) (by have e := zaddI (x := b) (y := u) (by omega) (by omega); omega) (by have e := zaddI (x := b) (y := u) (by omega) (by omega); omega) (hf3.tr hf6.w) hp6)
              · refine r_iload X (by rfl) dX12_pairs_283 ?_
                refine r_goto X 290 dX12_pairs_285 (by decide) ?_
                refine r_istore X (by decide) dX12_pairs_290 ?_
                refine r_iload X (by rfl) dX12_pairs_292 ?_
                refine r_iload X (by rfl) dX12_pairs_294 ?_
                refine r_iadd X dX12_pairs_296 ?_
                refine r_istore X (by decide) dX12_pairs_297 ?_
                refine r_iinc X 1 (by decide) (by rfl) (by decide) dX12_pairs_299 ?_
                refine r_iload X (by rfl) dX12_pairs_302 ?_
                refine r_iload_n X (by rfl) dX12_pairs_304 ?_
                refine r_iadd X dX12_pairs_305 ?_
                refine r_istore X (by decide) dX12_pairs_306 ?_
                refine r_goto X 98 dX12_pairs_308 (by decide) ?_
                exact zW.loc13 (by rfl) (by rfl) (by rfl) (by rfl) (by rfl) (by rfl) (by rfl) (by rfl) (by rfl) (by rfl) (by rfl) (by rfl) (by rfl) (ih2 _ _ _ _ _ _ _ _ _ (by have e := zaddI (x := b) (y := u) (by omega) (by omega); omega) (by have e := zaddI (x := b) (y := u) (by omega) (by omega); omega) (by have e := zaddI (x := b) (y := u) (by omega) (by omega); omega) (hf3.tr hf6.w) hp6)
          · refine r_iload X (by rfl) dX12_pairs_251 ?_
            refine r_goto X 258 dX12_pairs_253 (by decide) ?_
            refine r_istore X (by decide) dX12_pairs_258 ?_
            refine r_iload X (by rfl) dX12_pairs_260 ?_
            refine r_iload X (by rfl) dX12_pairs_262 ?_
            refine r_icmp_le X 272 dX12_pairs_264 (by decide) (fun h264 => ?_) (fun h264 => ?_)
            · refine r_iload X (by rfl) dX12_pairs_272 ?_
              refine r_istore X (by decide) dX12_pairs_274 ?_
              refine r_iload X (by rfl) dX12_pairs_276 ?_
              refine r_iload X (by rfl) dX12_pairs_278 ?_
              refine r_icmp_le X 288 dX12_pairs_280 (by decide) (fun h280 => ?_) (fun h280 => ?_)
              · refine r_iload X (by rfl) dX12_pairs_288 ?_
                refine r_istore X (by decide) dX12_pairs_290 ?_
                refine r_iload X (by rfl) dX12_pairs_292 ?_
                refine r_iload X (by rfl) dX12_pairs_294 ?_
                refine r_iadd X dX12_pairs_296 ?_
                refine r_istore X (by decide) dX12_pairs_297 ?_
                refine r_iinc X 1 (by decide) (by rfl) (by decide) dX12_pairs_299 ?_
                refine r_iload X (by rfl) dX12_pairs_302 ?_
                refine r_iload_n X (by rfl) dX12_pairs_304 ?_
                refine r_iadd X dX12_pairs_305 ?_
                refine r_istore X (by decide) dX12_pairs_306 ?_
                refine r_goto X 98 dX12_pairs_308 (by decide) ?_
                exact zW.loc13 (by rfl) (by rfl) (by rfl) (by rfl) (by rfl) (by rfl) (by rfl) (by rfl) (by rfl) (by rfl) (by rfl) (by rfl) (by rfl) (ih2 _ _ _ _ _ _ _ _ _ (by have e := zaddI (x := b) (y := u) (by omega) (by omega); omega) (by have e := zaddI (x := b) (y := u) (by omega) (by omega); omega) (by have e := zaddI (x := b) (y := u) (by omega) (by omega); omega) (hf3.tr hf6.w) hp6)
              · refine r_iload X (by rfl) dX12_pairs_283 ?_
                refine r_goto X 290 dX12_pairs_285 (by decide) ?_
                refine r_istore X (by decide) dX12_pairs_290 ?_
                refine r_iload X (by rfl) dX12_pairs_292 ?_
                refine r_iload X (by rfl) dX12_pairs_294 ?_
                refine r_iadd X dX12_pairs_296 ?_
                refine r_istore X (by decide) dX12_pairs_297 ?_
                refine r_iinc X 1 (by decide) (by rfl) (by decide) dX12_pairs_299 ?_
                refine r_iload X (by rfl) dX12_pairs_302 ?_
                refine r_iload_n X (by rfl) dX12_pairs_304 ?_
                refine r_iadd X dX12_pairs_305 ?_
                refine r_istore X (by decide) dX12_pairs_306 ?_
                refine r_goto X 98 dX12_pairs_308 (by decide) ?_
                exact zW.loc13 (by rfl) (by rfl) (by rfl) (by rfl) (by rfl) (by rfl) (by rfl) (by rfl) (by rfl) (by rfl) (by rfl) (by rfl) (by rfl) (ih2 _ _ _ _ _ _ _ _ _ (by have e := zaddI (x := b) (y := u) (by omega) (by omega); omega) (by have e := zaddI (x := b) (y := u) (by omega) (by omega); omega) (by have e := zaddI (x := b) (y := u) (by omega) (by omega); omega) (hf3.tr hf6.w) hp6)
            · refine r_iload X (by rfl) dX12_pairs_267 ?_
              refine r_goto X 274 dX12_pairs_269 (by decide) ?_
              refine r_istore X (by decide) dX12_pairs_274 ?_
              refine r_iload X (by rfl) dX12_pairs_276 ?_
              refine r_iload X (by rfl) dX12_pairs_278 ?_
              refine r_icmp_le X 288 dX12_pairs_280 (by decide) (fun h280 => ?_) (fun h280 => ?_)
              · refine r_iload X (by rfl) dX12_pairs_288 ?_
                refine r_istore X (by decide) dX12_pairs_290 ?_
                refine r_iload X (by rfl) dX12_pairs_292 ?_
                refine r_iload X (by rfl) dX12_pairs_294 ?_
                refine r_iadd X dX12_pairs_296 ?_
                refine r_istore X (by decide) dX12_pairs_297 ?_
                refine r_iinc X 1 (by decide) (by rfl) (by decide) dX12_pairs_299 ?_
                refine r_iload X (by rfl) dX12_pairs_302 ?_
                refine r_iload_n X (by rfl) dX12_pairs_304 ?_
                refine r_iadd X dX12_pairs_305 ?_
                refine r_istore X (by decide) dX12_pairs_306 ?_
                refine r_goto X 98 dX12_pairs_308 (by decide) ?_
                exact zW.loc13 (by rfl) (by rfl) (by rfl) (by rfl) (by rfl) (by rfl) (by rfl) (by rfl) (by rfl) (by rfl) (by rfl) (by rfl) (by rfl) (ih2 _ _ _ _ _ _ _ _ _ (by have e := zaddI (x := b) (y := u) (by omega) (by omega); omega) (by have e := zaddI (x := b) (y := u) (by omega) (by omega); omega) (by have e := zaddI (x := b) (y := u) (by omega) (by omega); omega) (hf3.tr hf6.w) hp6)
              · refine r_iload X (by rfl) dX12_pairs_283 ?_
                refine r_goto X 290 dX12_pairs_285 (by decide) ?_
                refine r_istore X (by decide) dX12_pairs_290 ?_
                refine r_iload X (by rfl) dX12_pairs_292 ?_
                refine r_iload X (by rfl) dX12_pairs_294 ?_
                refine r_iadd X dX12_pairs_296 ?_
                refine r_istore X (by decide) dX12_pairs_297 ?_
                refine r_iinc X 1 (by decide) (by rfl) (by decide) dX12_pairs_299 ?_
                refine r_iload X (by rfl) dX12_pairs_302 ?_
                refine r_iload_n X (by rfl) dX12_pairs_304 ?_
                refine r_iadd X dX12_pairs_305 ?_
                refine r_istore X (by decide) dX12_pairs_306 ?_
                refine r_goto X 98 dX12_pairs_308 (by decide) ?_
                exact zW.loc13 (by rfl) (by rfl) (by rfl) (by rfl) (by rfl) (by rfl) (by rfl) (by rfl) (by rfl) (by rfl) (by rfl) (by rfl) (by rfl) (ih2 _ _ _ _ _ _ _ _ _ (by have e := zaddI (x := b) (y := u) (by omega) (by omega); omega) (by have e := zaddI (x := b) (y := u) (by omega) (by omega); omega) (by have e := zaddI (x := b) (y := u) (by omega) (by omega); omega) (hf3.tr hf6.w) hp6)
        · rw [show Int32.toInt 1000 = 1000 from rfl] at h217
          refine r_iload X (by rfl) dX12_pairs_220 ?_
          refine r_bipush X 10 (by decide) dX12_pairs_222 ?_
          refine r_idiv X (by decide) dX12_pairs_224 ?_
          refine r_istore X (by decide) dX12_pairs_225 ?_
          refine r_goto X 212 dX12_pairs_227 (by decide) ?_
          exact zW.loc15 (by rfl) (by rfl) (by rfl) (by rfl) (by rfl) (by rfl) (by rfl) (by rfl) (by rfl) (by rfl) (by rfl) (by rfl) (by rfl) (by rfl) (by rfl) (ih3 _ (by have e := zdivI (x := t) (y := 10) (by omega) (by decide); rw [e, show Int32.toInt 10 = 10 from rfl]; omega))
      have L205 : ∀ (hby : b.toInt ≤ y.toInt) (p w6 : Int32) (ι3 : Nat → Nat → Int32) (κ3 : Nat → Nat → Int64), zFm0 B ι ι3 → zPkM B ι3 → (-1000000 ≤ p.toInt ∧ p.toInt ≤ 1000000) → zW E G 16 (z, τ, ρ, ι3, κ3) 0 0 205 [(0, .ref (B + 38)), (1, .int x), (2, .int y), (3, .int u), (4, .int w), (5, .int w1), (6, .int w2), (7, .int w3), (8, .int w4), (9, .int w5), (10, .int w6), (11, .int a), (12, .int b), (13, .int p)] [] := by
        intro hby p w6 ι3 κ3 hf3 hP3 hpb
        refine r_iload X (by rfl) dX12_pairs_205 ?_
        refine r_iload X (by rfl) dX12_pairs_207 ?_
        refine r_imul X dX12_pairs_209 ?_
        refine r_istore X (by decide) dX12_pairs_210 ?_
        exact zW.loc15 (by rfl) (by rfl) (by rfl) (by rfl) (by rfl) (by rfl) (by rfl) (by rfl) (by rfl) (by rfl) (by rfl) (by rfl) (by rfl) (by rfl) (by rfl) (L212 hby _ _ _ _ hf3 hP3 hpb _ _ (Nat.lt_succ_self _))
      refine r_iload X (by rfl) dX12_pairs_98 ?_
      refine r_iload_n X (by rfl) dX12_pairs_100 ?_
      refine r_icmp_gt X 311 dX12_pairs_101 (by decide) (fun h101 => ?_) (fun h101 => ?_)
      · refine r_iload X (by rfl) dX12_pairs_311 ?_
        refine r_iload_n X (by rfl) dX12_pairs_313 ?_
        refine r_iadd X dX12_pairs_314 ?_
        refine r_istore X (by decide) dX12_pairs_315 ?_
        refine r_goto X 88 dX12_pairs_317 (by decide) ?_
        exact zW.loc12 (by rfl) (by rfl) (by rfl) (by rfl) (by rfl) (by rfl) (by rfl) (by rfl) (by rfl) (by rfl) (by rfl) (by rfl) (ih _ _ _ _ _ _ _ _ _ (by have e := zaddI (x := a) (y := u) (by omega) (by omega); omega) (by have e := zaddI (x := a) (y := u) (by omega) (by omega); omega) (by have e := zaddI (x := a) (y := u) (by omega) (by omega); omega) hf2 hP2)
      · refine r_aload_n X (by rfl) dX12_pairs_104 ?_
        refine r_iload X (by rfl) dX12_pairs_105 ?_
        refine r_callV X dX12_pairs_107 zLV_X12_227 zCd_X12_plainOf (c_X12_plainOf _ G z τ ρ _ _ hL (by rw [hL2]; exact hL0) hP2 _ ⟨h0, by omega⟩) (zt hL 38 rfl) ⟨by decide, rfl, rfl⟩ rfl rfl ⟨⟨rfl, rfl⟩, ⟨by decide, by decide⟩, ⟨Nat.le_of_ble_eq_true rfl, Nat.le_of_ble_eq_true rfl⟩, Nat.le_of_ble_eq_true rfl⟩ ?_
        rintro _ _ ⟨r4, ι4, κ4, rfl, rfl, hf4, hp4, hq4⟩
        rw [hL2] at hq4
        have hL4 : ι4 (B + 38) 0 = ι (B + 38) 0 := by rw [hf4 _ _ (by omega) (by omega)]; exact hL2
        have hb4 := zPl9_b hL0 (k := a.toNatClampNeg - 100) (by omega)
        rw [← hq4] at hb4
        replace hb4 : 0 ≤ r4.toInt ∧ r4.toInt ≤ 50000 := ⟨hb4.1, by omega⟩
        have hLb4 : 0 ≤ (ι4 (B + 38) 0).toInt ∧ (ι4 (B + 38) 0).toInt ≤ 50000 := by rw [hL4]; exact ⟨by omega, by omega⟩
        have hLb0 : 0 ≤ (0 : Int32).toInt ∧ (0 : Int32).toInt ≤ 50000 := ⟨by decide, by decide⟩
        refine r_istore X (by decide) dX12_pairs_110 ?_
        refine r_iload X (by rfl) dX12_pairs_112 ?_
        refine r_iload X (by rfl) dX12_pairs_114 ?_
        refine r_aload_n X (by rfl) dX12_pairs_116 ?_
        refine r_getI X dX12_pairs_117 zF_X12_7 (zt hL 38 rfl) ?_
        refine r_icmp_lt X 127 dX12_pairs_120 (by decide) (fun h120 => ?_) (fun h120 => ?_)
        · refine r_iconst X 0 (by decide) dX12_pairs_127 ?_
          refine r_iadd X dX12_pairs_128 ?_
          refine r_istore X (by decide) dX12_pairs_129 ?_
          refine r_iload X (by rfl) dX12_pairs_131 ?_
          refine r_iload X (by rfl) dX12_pairs_133 ?_
          refine r_aload_n X (by rfl) dX12_pairs_135 ?_
          refine r_getI X dX12_pairs_136 zF_X12_7 (zt hL 38 rfl) ?_
          refine r_icmp_lt X 149 dX12_pairs_139 (by decide) (fun h139 => ?_) (fun h139 => ?_)
          · refine r_iconst X 0 (by decide) dX12_pairs_149 ?_
            refine r_isub X dX12_pairs_150 ?_
            refine r_istore X (by decide) dX12_pairs_151 ?_
            refine r_iload X (by rfl) dX12_pairs_153 ?_
            refine r_aload_n X (by rfl) dX12_pairs_155 ?_
            refine r_iload X (by rfl) dX12_pairs_156 ?_
            refine r_callV X dX12_pairs_158 zLV_X12_227 zCd_X12_plainOf (c_X12_plainOf _ G z τ ρ _ _ hL (by rw [hL4]; exact hL0) hp4 _ ⟨hb0, by omega⟩) (zt hL 38 rfl) ⟨by decide, rfl, rfl⟩ rfl rfl ⟨⟨rfl, rfl⟩, ⟨by decide, by decide⟩, ⟨Nat.le_of_ble_eq_true rfl, Nat.le_of_ble_eq_true rfl⟩, Nat.le_of_ble_eq_true rfl⟩ ?_
            rintro _ _ ⟨r5, ι5, κ5, rfl, rfl, hf5, hp5, hq5⟩
            rw [hL4] at hq5
            have hL5 : ι5 (B + 38) 0 = ι (B + 38) 0 := by rw [hf5 _ _ (by omega) (by omega)]; exact hL4
            have hb5 := zPl9_b hL0 (k := b.toNatClampNeg - 100) (by omega)
            rw [← hq5] at hb5
            replace hb5 : 0 ≤ r5.toInt ∧ r5.toInt ≤ 50000 := ⟨hb5.1, by omega⟩
            have hLb5 : 0 ≤ (ι5 (B + 38) 0).toInt ∧ (ι5 (B + 38) 0).toInt ≤ 50000 := by rw [hL5]; exact ⟨by omega, by omega⟩
            have hLb0 : 0 ≤ (0 : Int32).toInt ∧ (0 : Int32).toInt ≤ 50000 := ⟨by decide, by decide⟩
            refine r_iadd X dX12_pairs_161 ?_
            refine r_istore X (by decide) dX12_pairs_162 ?_
            refine r_iload X (by rfl) dX12_pairs_164 ?_
            refine r_iload X (by rfl) dX12_pairs_166 ?_
            refine r_aload_n X (by rfl) dX12_pairs_168 ?_
            refine r_getI X dX12_pairs_169 zF_X12_7 (zt hL 38 rfl) ?_
            refine r_icmp_lt X 179 dX12_pairs_172 (by decide) (fun h172 => ?_) (fun h172 => ?_)
            · refine r_iconst X 0 (by decide) dX12_pairs_179 ?_
              refine r_iadd X dX12_pairs_180 ?_
              refine r_istore X (by decide) dX12_pairs_181 ?_
              refine r_iload X (by rfl) dX12_pairs_183 ?_
              refine r_iload X (by rfl) dX12_pairs_185 ?_
              refine r_aload_n X (by rfl) dX12_pairs_187 ?_
              refine r_getI X dX12_pairs_188 zF_X12_7 (zt hL 38 rfl) ?_
              refine r_icmp_lt X 201 dX12_pairs_191 (by decide) (fun h191 => ?_) (fun h191 => ?_)
              · refine r_iconst X 0 (by decide) dX12_pairs_201 ?_
                refine r_isub X dX12_pairs_202 ?_
                refine r_istore X (by decide) dX12_pairs_203 ?_
                exact zW.loc14 (by rfl) (by rfl) (by rfl) (by rfl) (by rfl) (by rfl) (by rfl) (by rfl) (by rfl) (by rfl) (by rfl) (by rfl) (by rfl) (by rfl) (L205 h101 _ _ _ _ ((hf2.tr hf4.w).tr hf5.w) hp5 (zsum9 hb4 hb5 (by first | exact hLb4 | exact hLb0) (by first | exact hLb5 | exact hLb0)))
              · refine r_aload_n X (by rfl) dX12_pairs_194 ?_
                refine r_getI X dX12_pairs_195 zF_X12_7 (zt hL 38 rfl) ?_
                refine r_goto X 202 dX12_pairs_198 (by decide) ?_
                refine r_isub X dX12_pairs_202 ?_
                refine r_istore X (by decide) dX12_pairs_203 ?_
                exact zW.loc14 (by rfl) (by rfl) (by rfl) (by rfl) (by rfl) (by rfl) (by rfl) (by rfl) (by rfl) (by rfl) (by rfl) (by rfl) (by rfl) (by rfl) (L205 h101 _ _ _ _ ((hf2.tr hf4.w).tr hf5.w) hp5 (zsum9 hb4 hb5 (by first | exact hLb4 | exact hLb0) (by first | exact hLb5 | exact hLb0)))
            · refine r_iconst X 1 (by decide) dX12_pairs_175 ?_
              refine r_goto X 180 dX12_pairs_176 (by decide) ?_
              refine r_iadd X dX12_pairs_180 ?_
              refine r_istore X (by decide) dX12_pairs_181 ?_
              refine r_iload X (by rfl) dX12_pairs_183 ?_
              refine r_iload X (by rfl) dX12_pairs_185 ?_
              refine r_aload_n X (by rfl) dX12_pairs_187 ?_
              refine r_getI X dX12_pairs_188 zF_X12_7 (zt hL 38 rfl) ?_
              refine r_icmp_lt X 201 dX12_pairs_191 (by decide) (fun h191 => ?_) (fun h191 => ?_)
              · refine r_iconst X 0 (by decide) dX12_pairs_201 ?_
                refine r_isub X dX12_pairs_202 ?_
                refine r_istore X (by decide) dX12_pairs_203 ?_
                exact zW.loc14 (by rfl) (by rfl) (by rfl) (by rfl) (by rfl) (by rfl) (by rfl) (by rfl) (by rfl) (by rfl) (by rfl) (by rfl) (by rfl) (by rfl) (L205 h101 _ _ _ _ ((hf2.tr hf4.w).tr hf5.w) hp5 (zsum9 hb4 hb5 (by first | exact hLb4 | exact hLb0) (by first | exact hLb5 | exact hLb0)))
              · refine r_aload_n X (by rfl) dX12_pairs_194 ?_
                refine r_getI X dX12_pairs_195 zF_X12_7 (zt hL 38 rfl) ?_
                refine r_goto X 202 dX12_pairs_198 (by decide) ?_
                refine r_isub X dX12_pairs_202 ?_
                refine r_istore X (by decide) dX12_pairs_203 ?_
                exact zW.loc14 (by rfl) (by rfl) (by rfl) (by rfl) (by rfl) (by rfl) (by rfl) (by rfl) (by rfl) (by rfl) (by rfl) (by rfl) (by rfl) (by rfl) (L205 h101 _ _ _ _ ((hf2.tr hf4.w).tr hf5.w) hp5 (zsum9 hb4 hb5 (by first | exact hLb4 | exact hLb0) (by first | exact hLb5 | exact hLb0)))
          · refine r_aload_n X (by rfl) dX12_pairs_142 ?_
            refine r_getI X dX12_pairs_143 zF_X12_7 (zt hL 38 rfl) ?_
            refine r_goto X 150 dX12_pairs_146 (by decide) ?_
            refine r_isub X dX12_pairs_150 ?_
            refine r_istore X (by decide) dX12_pairs_151 ?_
            refine r_iload X (by rfl) dX12_pairs_153 ?_
            refine r_aload_n X (by rfl) dX12_pairs_155 ?_
            refine r_iload X (by rfl) dX12_pairs_156 ?_
            refine r_callV X dX12_pairs_158 zLV_X12_227 zCd_X12_plainOf (c_X12_plainOf _ G z τ ρ _ _ hL (by rw [hL4]; exact hL0) hp4 _ ⟨hb0, by omega⟩) (zt hL 38 rfl) ⟨by decide, rfl, rfl⟩ rfl rfl ⟨⟨rfl, rfl⟩, ⟨by decide, by decide⟩, ⟨Nat.le_of_ble_eq_true rfl, Nat.le_of_ble_eq_true rfl⟩, Nat.le_of_ble_eq_true rfl⟩ ?_
            rintro _ _ ⟨r5, ι5, κ5, rfl, rfl, hf5, hp5, hq5⟩
            rw [hL4] at hq5
            have hL5 : ι5 (B + 38) 0 = ι (B + 38) 0 := by rw [hf5 _ _ (by omega) (by omega)]; exact hL4
            have hb5 := zPl9_b hL0 (k := b.toNatClampNeg - 100) (by omega)
            rw [← hq5] at hb5
            replace hb5 : 0 ≤ r5.toInt ∧ r5.toInt ≤ 50000 := ⟨hb5.1, by omega⟩
            have hLb5 : 0 ≤ (ι5 (B + 38) 0).toInt ∧ (ι5 (B + 38) 0).toInt ≤ 50000 := by rw [hL5]; exact ⟨by omega, by omega⟩
            have hLb0 : 0 ≤ (0 : Int32).toInt ∧ (0 : Int32).toInt ≤ 50000 := ⟨by decide, by decide⟩
            refine r_iadd X dX12_pairs_161 ?_
            refine r_istore X (by decide) dX12_pairs_162 ?_
            refine r_iload X (by rfl) dX12_pairs_164 ?_
            refine r_iload X (by rfl) dX12_pairs_166 ?_
            refine r_aload_n X (by rfl) dX12_pairs_168 ?_
            refine r_getI X dX12_pairs_169 zF_X12_7 (zt hL 38 rfl) ?_
            refine r_icmp_lt X 179 dX12_pairs_172 (by decide) (fun h172 => ?_) (fun h172 => ?_)
            · refine r_iconst X 0 (by decide) dX12_pairs_179 ?_
              refine r_iadd X dX12_pairs_180 ?_
              refine r_istore X (by decide) dX12_pairs_181 ?_
              refine r_iload X (by rfl) dX12_pairs_183 ?_
              refine r_iload X (by rfl) dX12_pairs_185 ?_
              refine r_aload_n X (by rfl) dX12_pairs_187 ?_
              refine r_getI X dX12_pairs_188 zF_X12_7 (zt hL 38 rfl) ?_
              refine r_icmp_lt X 201 dX12_pairs_191 (by decide) (fun h191 => ?_) (fun h191 => ?_)
              · refine r_iconst X 0 (by decide) dX12_pairs_201 ?_
                refine r_isub X dX12_pairs_202 ?_
                refine r_istore X (by decide) dX12_pairs_203 ?_
                exact zW.loc14 (by rfl) (by rfl) (by rfl) (by rfl) (by rfl) (by rfl) (by rfl) (by rfl) (by rfl) (by rfl) (by rfl) (by rfl) (by rfl) (by rfl) (L205 h101 _ _ _ _ ((hf2.tr hf4.w).tr hf5.w) hp5 (zsum9 hb4 hb5 (by first | exact hLb4 | exact hLb0) (by first | exact hLb5 | exact hLb0)))
              · refine r_aload_n X (by rfl) dX12_pairs_194 ?_
                refine r_getI X dX12_pairs_195 zF_X12_7 (zt hL 38 rfl) ?_
                refine r_goto X 202 dX12_pairs_198 (by decide) ?_
                refine r_isub X dX12_pairs_202 ?_
                refine r_istore X (by decide) dX12_pairs_203 ?_
                exact zW.loc14 (by rfl) (by rfl) (by rfl) (by rfl) (by rfl) (by rfl) (by rfl) (by rfl) (by rfl) (by rfl) (by rfl) (by rfl) (by rfl) (by rfl) (L205 h101 _ _ _ _ ((hf2.tr hf4.w).tr hf5.w) hp5 (zsum9 hb4 hb5 (by first | exact hLb4 | exact hLb0) (by first | exact hLb5 | exact hLb0)))
            · refine r_iconst X 1 (by decide) dX12_pairs_175 ?_
              refine r_goto X 180 dX12_pairs_176 (by decide) ?_
              refine r_iadd X dX12_pairs_180 ?_
              refine r_istore X (by decide) dX12_pairs_181 ?_
              refine r_iload X (by rfl) dX12_pairs_183 ?_
              refine r_iload X (by rfl) dX12_pairs_185 ?_
              refine r_aload_n X (by rfl) dX12_pairs_187 ?_
              refine r_getI X dX12_pairs_188 zF_X12_7 (zt hL 38 rfl) ?_
              refine r_icmp_lt X 201 dX12_pairs_191 (by decide) (fun h191 => ?_) (fun h191 => ?_)
              · refine r_iconst X 0 (by decide) dX12_pairs_201 ?_
                refine r_isub X dX12_pairs_202 ?_
                refine r_istore X (by decide) dX12_pairs_203 ?_
                exact zW.loc14 (by rfl) (by rfl) (by rfl) (by rfl) (by rfl) (by rfl) (by rfl) (by rfl) (by rfl) (by rfl) (by rfl) (by rfl) (by rfl) (by rfl) (L205 h101 _ _ _ _ ((hf2.tr hf4.w).tr hf5.w) hp5 (zsum9 hb4 hb5 (by first | exact hLb4 | exact hLb0) (by first | exact hLb5 | exact hLb0)))
              · refine r_aload_n X (by rfl) dX12_pairs_194 ?_
                refine r_getI X dX12_pairs_195 zF_X12_7 (zt hL 38 rfl) ?_
                refine r_goto X 202 dX12_pairs_198 (by decide) ?_
                refine r_isub X dX12_pairs_202 ?_
                refine r_istore X (by decide) dX12_pairs_203 ?_
                exact zW.loc14 (by rfl) (by rfl) (by rfl) (by rfl) (by rfl) (by rfl) (by rfl) (by rfl) (by rfl) (by rfl) (by rfl) (by rfl) (by rfl) (by rfl) (L205 h101 _ _ _ _ ((hf2.tr hf4.w).tr hf5.w) hp5 (zsum9 hb4 hb5 (by first | exact hLb4 | exact hLb0) (by first | exact hLb5 | exact hLb0)))
        · refine r_iconst X 1 (by decide) dX12_pairs_123 ?_
          refine r_goto X 128 dX12_pairs_124 (by decide) ?_
          refine r_iadd X dX12_pairs_128 ?_
          refine r_istore X (by decide) dX12_pairs_129 ?_
          refine r_iload X (by rfl) dX12_pairs_131 ?_
          refine r_iload X (by rfl) dX12_pairs_133 ?_
          refine r_aload_n X (by rfl) dX12_pairs_135 ?_
          refine r_getI X dX12_pairs_136 zF_X12_7 (zt hL 38 rfl) ?_
          refine r_icmp_lt X 149 dX12_pairs_139 (by decide) (fun h139 => ?_) (fun h139 => ?_)
          · refine r_iconst X 0 (by decide) dX12_pairs_149 ?_
            refine r_isub X dX12_pairs_150 ?_
            refine r_istore X (by decide) dX12_pairs_151 ?_
            refine r_iload X (by rfl) dX12_pairs_153 ?_
            refine r_aload_n X (by rfl) dX12_pairs_155 ?_
            refine r_iload X (by rfl) dX12_pairs_156 ?_
            refine r_callV X dX12_pairs_158 zLV_X12_227 zCd_X12_plainOf (c_X12_plainOf _ G z τ ρ _ _ hL (by rw [hL4]; exact hL0) hp4 _ ⟨hb0, by omega⟩) (zt hL 38 rfl) ⟨by decide, rfl, rfl⟩ rfl rfl ⟨⟨rfl, rfl⟩, ⟨by decide, by decide⟩, ⟨Nat.le_of_ble_eq_true rfl, Nat.le_of_ble_eq_true rfl⟩, Nat.le_of_ble_eq_true rfl⟩ ?_
            rintro _ _ ⟨r5, ι5, κ5, rfl, rfl, hf5, hp5, hq5⟩
            rw [hL4] at hq5
            have hL5 : ι5 (B + 38) 0 = ι (B + 38) 0 := by rw [hf5 _ _ (by omega) (by omega)]; exact hL4
            have hb5 := zPl9_b hL0 (k := b.toNatClampNeg - 100) (by omega)
            rw [← hq5] at hb5
            replace hb5 : 0 ≤ r5.toInt ∧ r5.toInt ≤ 50000 := ⟨hb5.1, by omega⟩
            have hLb5 : 0 ≤ (ι5 (B + 38) 0).toInt ∧ (ι5 (B + 38) 0).toInt ≤ 50000 := by rw [hL5]; exact ⟨by omega, by omega⟩
            have hLb0 : 0 ≤ (0 : Int32).toInt ∧ (0 : Int32).toInt ≤ 50000 := ⟨by decide, by decide⟩
            refine r_iadd X dX12_pairs_161 ?_
            refine r_istore X (by decide) dX12_pairs_162 ?_
            refine r_iload X (by rfl) dX12_pairs_164 ?_
            refine r_iload X (by rfl) dX12_pairs_166 ?_
            refine r_aload_n X (by rfl) dX12_pairs_168 ?_
            refine r_getI X dX12_pairs_169 zF_X12_7 (zt hL 38 rfl) ?_
            refine r_icmp_lt X 179 dX12_pairs_172 (by decide) (fun h172 => ?_) (fun h172 => ?_)
            · refine r_iconst X 0 (by decide) dX12_pairs_179 ?_
              refine r_iadd X dX12_pairs_180 ?_
              refine r_istore X (by decide) dX12_pairs_181 ?_
              refine r_iload X (by rfl) dX12_pairs_183 ?_
              refine r_iload X (by rfl) dX12_pairs_185 ?_
              refine r_aload_n X (by rfl) dX12_pairs_187 ?_
              refine r_getI X dX12_pairs_188 zF_X12_7 (zt hL 38 rfl) ?_
              refine r_icmp_lt X 201 dX12_pairs_191 (by decide) (fun h191 => ?_) (fun h191 => ?_)
              · refine r_iconst X 0 (by decide) dX12_pairs_201 ?_
                refine r_isub X dX12_pairs_202 ?_
                refine r_istore X (by decide) dX12_pairs_203 ?_
                exact zW.loc14 (by rfl) (by rfl) (by rfl) (by rfl) (by rfl) (by rfl) (by rfl) (by rfl) (by rfl) (by rfl) (by rfl) (by rfl) (by rfl) (by rfl) (L205 h101 _ _ _ _ ((hf2.tr hf4.w).tr hf5.w) hp5 (zsum9 hb4 hb5 (by first | exact hLb4 | exact hLb0) (by first | exact hLb5 | exact hLb0)))
              · refine r_aload_n X (by rfl) dX12_pairs_194 ?_
                refine r_getI X dX12_pairs_195 zF_X12_7 (zt hL 38 rfl) ?_
                refine r_goto X 202 dX12_pairs_198 (by decide) ?_
                refine r_isub X dX12_pairs_202 ?_
                refine r_istore X (by decide) dX12_pairs_203 ?_
                exact zW.loc14 (by rfl) (by rfl) (by rfl) (by rfl) (by rfl) (by rfl) (by rfl) (by rfl) (by rfl) (by rfl) (by rfl) (by rfl) (by rfl) (by rfl) (L205 h101 _ _ _ _ ((hf2.tr hf4.w).tr hf5.w) hp5 (zsum9 hb4 hb5 (by first | exact hLb4 | exact hLb0) (by first | exact hLb5 | exact hLb0)))
            · refine r_iconst X 1 (by decide) dX12_pairs_175 ?_
              refine r_goto X 180 dX12_pairs_176 (by decide) ?_
              refine r_iadd X dX12_pairs_180 ?_
              refine r_istore X (by decide) dX12_pairs_181 ?_
              refine r_iload X (by rfl) dX12_pairs_183 ?_
              refine r_iload X (by rfl) dX12_pairs_185 ?_
              refine r_aload_n X (by rfl) dX12_pairs_187 ?_
              refine r_getI X dX12_pairs_188 zF_X12_7 (zt hL 38 rfl) ?_
              refine r_icmp_lt X 201 dX12_pairs_191 (by decide) (fun h191 => ?_) (fun h191 => ?_)
              · refine r_iconst X 0 (by decide) dX12_pairs_201 ?_
                refine r_isub X dX12_pairs_202 ?_
                refine r_istore X (by decide) dX12_pairs_203 ?_
                exact zW.loc14 (by rfl) (by rfl) (by rfl) (by rfl) (by rfl) (by rfl) (by rfl) (by rfl) (by rfl) (by rfl) (by rfl) (by rfl) (by rfl) (by rfl) (L205 h101 _ _ _ _ ((hf2.tr hf4.w).tr hf5.w) hp5 (zsum9 hb4 hb5 (by first | exact hLb4 | exact hLb0) (by first | exact hLb5 | exact hLb0)))
              · refine r_aload_n X (by rfl) dX12_pairs_194 ?_
                refine r_getI X dX12_pairs_195 zF_X12_7 (zt hL 38 rfl) ?_
                refine r_goto X 202 dX12_pairs_198 (by decide) ?_
                refine r_isub X dX12_pairs_202 ?_
                refine r_istore X (by decide) dX12_pairs_203 ?_
                exact zW.loc14 (by rfl) (by rfl) (by rfl) (by rfl) (by rfl) (by rfl) (by rfl) (by rfl) (by rfl) (by rfl) (by rfl) (by rfl) (by rfl) (by rfl) (L205 h101 _ _ _ _ ((hf2.tr hf4.w).tr hf5.w) hp5 (zsum9 hb4 hb5 (by first | exact hLb4 | exact hLb0) (by first | exact hLb5 | exact hLb0)))
          · refine r_aload_n X (by rfl) dX12_pairs_142 ?_
            refine r_getI X dX12_pairs_143 zF_X12_7 (zt hL 38 rfl) ?_
            refine r_goto X 150 dX12_pairs_146 (by decide) ?_
            refine r_isub X dX12_pairs_150 ?_
            refine r_istore X (by decide) dX12_pairs_151 ?_
            refine r_iload X (by rfl) dX12_pairs_153 ?_
            refine r_aload_n X (by rfl) dX12_pairs_155 ?_
            refine r_iload X (by rfl) dX12_pairs_156 ?_
            refine r_callV X dX12_pairs_158 zLV_X12_227 zCd_X12_plainOf (c_X12_plainOf _ G z τ ρ _ _ hL (by rw [hL4]; exact hL0) hp4 _ ⟨hb0, by omega⟩) (zt hL 38 rfl) ⟨by decide, rfl, rfl⟩ rfl rfl ⟨⟨rfl, rfl⟩, ⟨by decide, by decide⟩, ⟨Nat.le_of_ble_eq_true rfl, Nat.le_of_ble_eq_true rfl⟩, Nat.le_of_ble_eq_true rfl⟩ ?_
            rintro _ _ ⟨r5, ι5, κ5, rfl, rfl, hf5, hp5, hq5⟩
            rw [hL4] at hq5
            have hL5 : ι5 (B + 38) 0 = ι (B + 38) 0 := by rw [hf5 _ _ (by omega) (by omega)]; exact hL4
            have hb5 := zPl9_b hL0 (k := b.toNatClampNeg - 100) (by omega)
            rw [← hq5] at hb5
            replace hb5 : 0 ≤ r5.toInt ∧ r5.toInt ≤ 50000 := ⟨hb5.1, by omega⟩
            have hLb5 : 0 ≤ (ι5 (B + 38) 0).toInt ∧ (ι5 (B + 38) 0).toInt ≤ 50000 := by rw [hL5]; exact ⟨by omega, by omega⟩
            have hLb0 : 0 ≤ (0 : Int32).toInt ∧ (0 : Int32).toInt ≤ 50000 := ⟨by decide, by decide⟩
            refine r_iadd X dX12_pairs_161 ?_
            refine r_istore X (by decide) dX12_pairs_162 ?_
            refine r_iload X (by rfl) dX12_pairs_164 ?_
            refine r_iload X (by rfl) dX12_pairs_166 ?_
            refine r_aload_n X (by rfl) dX12_pairs_168 ?_
            refine r_getI X dX12_pairs_169 zF_X12_7 (zt hL 38 rfl) ?_
            refine r_icmp_lt X 179 dX12_pairs_172 (by decide) (fun h172 => ?_) (fun h172 => ?_)
            · refine r_iconst X 0 (by decide) dX12_pairs_179 ?_
              refine r_iadd X dX12_pairs_180 ?_
              refine r_istore X (by decide) dX12_pairs_181 ?_
              refine r_iload X (by rfl) dX12_pairs_183 ?_
              refine r_iload X (by rfl) dX12_pairs_185 ?_
              refine r_aload_n X (by rfl) dX12_pairs_187 ?_
              refine r_getI X dX12_pairs_188 zF_X12_7 (zt hL 38 rfl) ?_
              refine r_icmp_lt X 201 dX12_pairs_191 (by decide) (fun h191 => ?_) (fun h191 => ?_)
              · refine r_iconst X 0 (by decide) dX12_pairs_201 ?_
                refine r_isub X dX12_pairs_202 ?_
                refine r_istore X (by decide) dX12_pairs_203 ?_
                exact zW.loc14 (by rfl) (by rfl) (by rfl) (by rfl) (by rfl) (by rfl) (by rfl) (by rfl) (by rfl) (by rfl) (by rfl) (by rfl) (by rfl) (by rfl) (L205 h101 _ _ _ _ ((hf2.tr hf4.w).tr hf5.w) hp5 (zsum9 hb4 hb5 (by first | exact hLb4 | exact hLb0) (by first | exact hLb5 | exact hLb0)))
              · refine r_aload_n X (by rfl) dX12_pairs_194 ?_
                refine r_getI X dX12_pairs_195 zF_X12_7 (zt hL 38 rfl) ?_
                refine r_goto X 202 dX12_pairs_198 (by decide) ?_
                refine r_isub X dX12_pairs_202 ?_
                refine r_istore X (by decide) dX12_pairs_203 ?_
                exact zW.loc14 (by rfl) (by rfl) (by rfl) (by rfl) (by rfl) (by rfl) (by rfl) (by rfl) (by rfl) (by rfl) (by rfl) (by rfl) (by rfl) (by rfl) (L205 h101 _ _ _ _ ((hf2.tr hf4.w).tr hf5.w) hp5 (zsum9 hb4 hb5 (by first | exact hLb4 | exact hLb0) (by first | exact hLb5 | exact hLb0)))
            · refine r_iconst X 1 (by decide) dX12_pairs_175 ?_
              refine r_goto X 180 dX12_pairs_176 (by decide) ?_
              refine r_iadd X dX12_pairs_180 ?_
              refine r_istore X (by decide) dX12_pairs_181 ?_
              refine r_iload X (by rfl) dX12_pairs_183 ?_
              refine r_iload X (by rfl) dX12_pairs_185 ?_
              refine r_aload_n X (by rfl) dX12_pairs_187 ?_
              refine r_getI X dX12_pairs_188 zF_X12_7 (zt hL 38 rfl) ?_
              refine r_icmp_lt X 201 dX12_pairs_191 (by decide) (fun h191 => ?_) (fun h191 => ?_)
              · refine r_iconst X 0 (by decide) dX12_pairs_201 ?_
                refine r_isub X dX12_pairs_202 ?_
                refine r_istore X (by decide) dX12_pairs_203 ?_
                exact zW.loc14 (by rfl) (by rfl) (by rfl) (by rfl) (by rfl) (by rfl) (by rfl) (by rfl) (by rfl) (by rfl) (by rfl) (by rfl) (by rfl) (by rfl) (L205 h101 _ _ _ _ ((hf2.tr hf4.w).tr hf5.w) hp5 (zsum9 hb4 hb5 (by first | exact hLb4 | exact hLb0) (by first | exact hLb5 | exact hLb0)))
              · refine r_aload_n X (by rfl) dX12_pairs_194 ?_
                refine r_getI X dX12_pairs_195 zF_X12_7 (zt hL 38 rfl) ?_
                refine r_goto X 202 dX12_pairs_198 (by decide) ?_
                refine r_isub X dX12_pairs_202 ?_
                refine r_istore X (by decide) dX12_pairs_203 ?_
                exact zW.loc14 (by rfl) (by rfl) (by rfl) (by rfl) (by rfl) (by rfl) (by rfl) (by rfl) (by rfl) (by rfl) (by rfl) (by rfl) (by rfl) (by rfl) (L205 h101 _ _ _ _ ((hf2.tr hf4.w).tr hf5.w) hp5 (zsum9 hb4 hb5 (by first | exact hLb4 | exact hLb0) (by first | exact hLb5 | exact hLb0)))
    refine r_iload X (by rfl) dX12_pairs_88 ?_
    refine r_iload_n X (by rfl) dX12_pairs_90 ?_
    refine r_icmp_gt X 320 dX12_pairs_91 (by decide) (fun h91 => ?_) (fun h91 => ?_)
    · refine r_iload X (by rfl) dX12_pairs_320 ?_
      refine r_if_ne X 330 dX12_pairs_322 (by decide) (fun h322 => ?_) (fun h322 => ?_)
      · refine r_iload X (by rfl) dX12_pairs_330 ?_
        refine r_iconst X 1 (by decide) dX12_pairs_332 ?_
        refine r_icmp_ne X 341 dX12_pairs_333 (by decide) (fun h333 => ?_) (fun h333 => ?_)
        · refine r_iload X (by rfl) dX12_pairs_341 ?_
          refine r_iconst X 2 (by decide) dX12_pairs_343 ?_
          refine r_icmp_ne X 352 dX12_pairs_344 (by decide) (fun h344 => ?_) (fun h344 => ?_)
          · refine r_iload X (by rfl) dX12_pairs_352 ?_
            refine r_iconst X 3 (by decide) dX12_pairs_354 ?_
            refine r_icmp_ne X 363 dX12_pairs_355 (by decide) (fun h355 => ?_) (fun h355 => ?_)
            · refine r_iload X (by rfl) dX12_pairs_363 ?_
              refine r_iconst X 4 (by decide) dX12_pairs_365 ?_
              refine r_icmp_ne X 374 dX12_pairs_366 (by decide) (fun h366 => ?_) (fun h366 => ?_)
              · refine r_iload X (by rfl) dX12_pairs_374 ?_
                refine r_ireturn X hR dX12_pairs_376 rfl (Nat.zero_le _) (Nat.zero_le _) ?_
                exact ⟨_, _, _, rfl, rfl, hf, hP1⟩
              · refine r_iload X (by rfl) dX12_pairs_369 ?_
                refine r_goto X 376 dX12_pairs_371 (by decide) ?_
                refine r_ireturn X hR dX12_pairs_376 rfl (Nat.zero_le _) (Nat.zero_le _) ?_
                exact ⟨_, _, _, rfl, rfl, hf, hP1⟩
            · refine r_iload X (by rfl) dX12_pairs_358 ?_
              refine r_goto X 376 dX12_pairs_360 (by decide) ?_
              refine r_ireturn X hR dX12_pairs_376 rfl (Nat.zero_le _) (Nat.zero_le _) ?_
              exact ⟨_, _, _, rfl, rfl, hf, hP1⟩
          · refine r_iload X (by rfl) dX12_pairs_347 ?_
            refine r_goto X 376 dX12_pairs_349 (by decide) ?_
            refine r_ireturn X hR dX12_pairs_376 rfl (Nat.zero_le _) (Nat.zero_le _) ?_
            exact ⟨_, _, _, rfl, rfl, hf, hP1⟩
        · refine r_iload X (by rfl) dX12_pairs_336 ?_
          refine r_goto X 376 dX12_pairs_338 (by decide) ?_
          refine r_ireturn X hR dX12_pairs_376 rfl (Nat.zero_le _) (Nat.zero_le _) ?_
          exact ⟨_, _, _, rfl, rfl, hf, hP1⟩
      · refine r_iload X (by rfl) dX12_pairs_325 ?_
        refine r_goto X 376 dX12_pairs_327 (by decide) ?_
        refine r_ireturn X hR dX12_pairs_376 rfl (Nat.zero_le _) (Nat.zero_le _) ?_
        exact ⟨_, _, _, rfl, rfl, hf, hP1⟩
    · refine r_iload X (by rfl) dX12_pairs_94 ?_
      refine r_istore X (by decide) dX12_pairs_96 ?_
      exact zW.loc13 (by rfl) (by rfl) (by rfl) (by rfl) (by rfl) (by rfl) (by rfl) (by rfl) (by rfl) (by rfl) (by rfl) (by rfl) (by rfl) (L98 h91 3001 _ _ _ _ _ _ _ _ _ (by omega) (by omega) (by omega) hf hP1)
  refine r_iload_n X (by rfl) dX12_pairs_0 ?_
  refine r_i2l X dX12_pairs_1 ?_
  refine r_ldc2 X zK_X12_149 dX12_pairs_2 ?_
  refine r_ldc2 X zK_X12_216 dX12_pairs_5 ?_
  refine r_callS X dX12_pairs_8 zLS_X12_163 zCd_X12_in (c_X12_in _ G z τ ρ _ _ _ _ _) rfl rfl ⟨⟨rfl, rfl⟩, ⟨by decide, by decide⟩, ⟨Nat.le_of_ble_eq_true rfl, Nat.le_of_ble_eq_true rfl⟩, Nat.le_of_ble_eq_true rfl⟩ ?_
  rintro _ _ ⟨rfl, rfl⟩
  rw [Int32.toInt_toInt64, show Int64.toInt 100 = 100 from rfl, show Int64.toInt 999 = 999 from rfl]
  refine r_if_eq X 64 dX12_pairs_11 (by decide) (fun h11 => ?_) (fun h11 => ?_)
  · refine r_bipush X (-2) (by decide) dX12_pairs_64 ?_
    refine r_ireturn X hR dX12_pairs_66 rfl (Nat.zero_le _) (Nat.zero_le _) ?_
    exact ⟨_, _, _, rfl, rfl, zFm0.rfl, hP⟩
  · refine r_iload_n X (by rfl) dX12_pairs_14 ?_
    refine r_i2l X dX12_pairs_15 ?_
    refine r_iload_n X (by rfl) dX12_pairs_16 ?_
    refine r_i2l X dX12_pairs_17 ?_
    refine r_ldc2 X zK_X12_216 dX12_pairs_18 ?_
    refine r_callS X dX12_pairs_21 zLS_X12_163 zCd_X12_in (c_X12_in _ G z τ ρ _ _ _ _ _) rfl rfl ⟨⟨rfl, rfl⟩, ⟨by decide, by decide⟩, ⟨Nat.le_of_ble_eq_true rfl, Nat.le_of_ble_eq_true rfl⟩, Nat.le_of_ble_eq_true rfl⟩ ?_
    rintro _ _ ⟨rfl, rfl⟩
    rw [Int32.toInt_toInt64, Int32.toInt_toInt64, show Int64.toInt 999 = 999 from rfl]
    refine r_if_eq X 64 dX12_pairs_24 (by decide) (fun h24 => ?_) (fun h24 => ?_)
    · refine r_bipush X (-2) (by decide) dX12_pairs_64 ?_
      refine r_ireturn X hR dX12_pairs_66 rfl (Nat.zero_le _) (Nat.zero_le _) ?_
      exact ⟨_, _, _, rfl, rfl, zFm0.rfl, hP⟩
    · refine r_iload_n X (by rfl) dX12_pairs_27 ?_
      refine r_i2l X dX12_pairs_28 ?_
      refine r_lconst X 1 (by decide) dX12_pairs_29 ?_
      refine r_ldc2 X zK_X12_216 dX12_pairs_30 ?_
      refine r_callS X dX12_pairs_33 zLS_X12_163 zCd_X12_in (c_X12_in _ G z τ ρ _ _ _ _ _) rfl rfl ⟨⟨rfl, rfl⟩, ⟨by decide, by decide⟩, ⟨Nat.le_of_ble_eq_true rfl, Nat.le_of_ble_eq_true rfl⟩, Nat.le_of_ble_eq_true rfl⟩ ?_
      rintro _ _ ⟨rfl, rfl⟩
      rw [Int32.toInt_toInt64, show Int64.toInt 1 = 1 from rfl, show Int64.toInt 999 = 999 from rfl]
      refine r_if_eq X 64 dX12_pairs_36 (by decide) (fun h36 => ?_) (fun h36 => ?_)
      · refine r_bipush X (-2) (by decide) dX12_pairs_64 ?_
        refine r_ireturn X hR dX12_pairs_66 rfl (Nat.zero_le _) (Nat.zero_le _) ?_
        exact ⟨_, _, _, rfl, rfl, zFm0.rfl, hP⟩
      · refine r_iload X (by rfl) dX12_pairs_39 ?_
        refine r_i2l X dX12_pairs_41 ?_
        refine r_lconst X 0 (by decide) dX12_pairs_42 ?_
        refine r_ldc2 X zK_X12_95 dX12_pairs_43 ?_
        refine r_callS X dX12_pairs_46 zLS_X12_163 zCd_X12_in (c_X12_in _ G z τ ρ _ _ _ _ _) rfl rfl ⟨⟨rfl, rfl⟩, ⟨by decide, by decide⟩, ⟨Nat.le_of_ble_eq_true rfl, Nat.le_of_ble_eq_true rfl⟩, Nat.le_of_ble_eq_true rfl⟩ ?_
        rintro _ _ ⟨rfl, rfl⟩
        rw [Int32.toInt_toInt64, show Int64.toInt 0 = 0 from rfl, show Int64.toInt 5 = 5 from rfl]
        refine r_if_eq X 64 dX12_pairs_49 (by decide) (fun h49 => ?_) (fun h49 => ?_)
        · refine r_bipush X (-2) (by decide) dX12_pairs_64 ?_
          refine r_ireturn X hR dX12_pairs_66 rfl (Nat.zero_le _) (Nat.zero_le _) ?_
          exact ⟨_, _, _, rfl, rfl, zFm0.rfl, hP⟩
        · refine r_iload_n X (by rfl) dX12_pairs_52 ?_
          refine r_iload_n X (by rfl) dX12_pairs_53 ?_
          refine r_isub X dX12_pairs_54 ?_
          refine r_iload_n X (by rfl) dX12_pairs_55 ?_
          refine r_idiv X (fun q => by have := (zif1 h36).1; rw [q, show Int32.toInt 0 = 0 from rfl] at this; omega) dX12_pairs_56 ?_
          refine r_iconst X 1 (by decide) dX12_pairs_57 ?_
          refine r_iadd X dX12_pairs_58 ?_
          refine r_bipush X 100 (by decide) dX12_pairs_59 ?_
          refine r_icmp_le X 67 dX12_pairs_61 (by decide) (fun h61 => ?_) (fun h61 => ?_)
          · rw [show Int32.toInt 100 = 100 from rfl] at h61
            refine r_iconst X (-1) (by decide) dX12_pairs_67 ?_
            refine r_istore X (by decide) dX12_pairs_68 ?_
            refine r_iconst X 0 (by decide) dX12_pairs_70 ?_
            refine r_istore X (by decide) dX12_pairs_71 ?_
            refine r_iconst X 0 (by decide) dX12_pairs_73 ?_
            refine r_istore X (by decide) dX12_pairs_74 ?_
            refine r_iconst X 0 (by decide) dX12_pairs_76 ?_
            refine r_istore X (by decide) dX12_pairs_77 ?_
            refine r_iconst X 0 (by decide) dX12_pairs_79 ?_
            refine r_istore X (by decide) dX12_pairs_80 ?_
            refine r_iconst X 0 (by decide) dX12_pairs_82 ?_
            refine r_istore X (by decide) dX12_pairs_83 ?_
            refine r_iload_n X (by rfl) dX12_pairs_85 ?_
            refine r_istore X (by decide) dX12_pairs_86 ?_
            exact zW.loc12 (by rfl) (by rfl) (by rfl) (by rfl) (by rfl) (by rfl) (by rfl) (by rfl) (by rfl) (by rfl) (by rfl) (by rfl) (L88 ⟨(zif1 h11).1, (zif1 h24).2, (zif1 h36).1, (zif1 h36).2⟩ 3001 _ _ _ _ _ _ _ _ _ (by have := zif1 h11; omega) (zif1 h11).1 (by have := zif1 h11; omega) zFm0.rfl hP)
          · rw [show Int32.toInt 100 = 100 from rfl] at h61
            refine r_bipush X (-2) (by decide) dX12_pairs_64 ?_
            refine r_ireturn X hR dX12_pairs_66 rfl (Nat.zero_le _) (Nat.zero_le _) ?_
            exact ⟨_, _, _, rfl, rfl, zFm0.rfl, hP⟩
set_option maxHeartbeats 4000000 in
set_option maxRecDepth 100000 in
theorem c_X12_wipe (l : Launch) (G : zG) (z : Nat) (τ : Nat → Option (Nat × Nat)) (ρ : Nat → Nat → Option Nat) (ι : Nat → Nat → Int32) (κ : Nat → Nat → Int64) {B c : Nat} (hL : zLay τ ρ B c) (hJ : zJ B c ι) (x : Int32) : zM l G yX12_wipe cX12_wipe 3 (some .int) ({ frames := 2, cells := 0, slots := 0, locals := 45 } : Room) [.ref (B + 38), .int x] (z, τ, ρ, ι, κ) (fun v s => (¬ (0 ≤ x.toInt ∧ x.toInt ≤ 1) ∧ v = some (.int (-2)) ∧ s = (z, τ, ρ, ι, κ)) ∨ ((0 ≤ x.toInt ∧ x.toInt ≤ 1) ∧ v = some (.int (ι (B + 48) x.toNatClampNeg)) ∧ s = (z, τ, ρ, zu ι (B + 48) x.toNatClampNeg 0, κ))) 0 0 := by
  refine zM_of zCd_X12_wipe (Nat.le_of_ble_eq_true rfl) ?_
  intro E X hR hE
  subst hE
  show zW E G 3 (z, τ, ρ, ι, κ) 0 0 0 [(0, .ref (B + 38)), (1, .int x)] []
  refine r_iload_n X (by rfl) dX12_wipe_0 ?_
  refine r_callS X dX12_wipe_1 zLS_X12_259 zCd_X12_isStrip (c_X12_isStrip _ G z τ ρ _ _ _) rfl rfl ⟨⟨rfl, rfl⟩, ⟨by decide, by decide⟩, ⟨Nat.le_of_ble_eq_true rfl, Nat.le_of_ble_eq_true rfl⟩, Nat.le_of_ble_eq_true rfl⟩ ?_
  rintro _ _ ⟨rfl, rfl⟩
  refine r_if_ne X 10 dX12_wipe_4 (by decide) (fun h4 => ?_) (fun h4 => ?_)
  · refine r_aload_n X (by rfl) dX12_wipe_10 ?_
    refine r_getR X dX12_wipe_11 zF_X12_42 (zt hL 38 rfl) (zrf hL 45 rfl) ?_
    refine r_iload_n X (by rfl) dX12_wipe_14 ?_
    refine r_iaload X dX12_wipe_15 (zt hL 48 rfl) (by have := zif1 h4; exact vp_in_iff.mpr ⟨by omega, by omega⟩) ?_
    refine r_istore_n X (by decide) dX12_wipe_16 ?_
    refine r_aload_n X (by rfl) dX12_wipe_17 ?_
    refine r_getR X dX12_wipe_18 zF_X12_42 (zt hL 38 rfl) (zrf hL 45 rfl) ?_
    refine r_iload_n X (by rfl) dX12_wipe_21 ?_
    refine r_iconst X 0 (by decide) dX12_wipe_22 ?_
    refine r_iastore X dX12_wipe_23 (zt hL 48 rfl) (by have := zif1 h4; exact vp_in_iff.mpr ⟨by omega, by omega⟩) ?_
    refine r_iload_n X (by rfl) dX12_wipe_24 ?_
    refine r_ireturn X hR dX12_wipe_25 rfl (Nat.zero_le _) (Nat.zero_le _) ?_
    exact Or.inr ⟨zif1 h4, rfl, rfl⟩
  · refine r_bipush X (-2) (by decide) dX12_wipe_7 ?_
    refine r_ireturn X hR dX12_wipe_9 rfl (Nat.zero_le _) (Nat.zero_le _) ?_
    exact Or.inl ⟨zif0 h4, rfl, rfl⟩
set_option maxHeartbeats 4000000 in
set_option maxRecDepth 100000 in
theorem c_X12_cut (l : Launch) (G : zG) (z : Nat) (τ : Nat → Option (Nat × Nat)) (ρ : Nat → Nat → Option Nat) (ι : Nat → Nat → Int32) (κ : Nat → Nat → Int64) {B c : Nat} (hL : zLay τ ρ B c) (hJ : zJ B c ι) (x y : Int32) : zM l G yX12_cut cX12_cut 3 (some .int) ({ frames := 2, cells := 0, slots := 0, locals := 45 } : Room) [.ref (B + 38), .int x, .int y] (z, τ, ρ, ι, κ) (fun v s => (¬ ((0 ≤ x.toInt ∧ x.toInt ≤ 1) ∧ (0 ≤ y.toInt ∧ y.toInt ≤ 1000000) ∧ ¬ (0 < (ι (B + 48) x.toNatClampNeg).toInt ∧ y.toInt ≤ (ι (B + 49) (60 * x.toNatClampNeg + (ι (B + 48) x.toNatClampNeg).toNatClampNeg - 1)).toInt)) ∧ v = some (.int (-2)) ∧ s = (z, τ, ρ, ι, κ)) ∨ (((0 ≤ x.toInt ∧ x.toInt ≤ 1) ∧ (0 ≤ y.toInt ∧ y.toInt ≤ 1000000) ∧ ¬ (0 < (ι (B + 48) x.toNatClampNeg).toInt ∧ y.toInt ≤ (ι (B + 49) (60 * x.toNatClampNeg + (ι (B + 48) x.toNatClampNeg).toNatClampNeg - 1)).toInt)) ∧ ι (B + 48) x.toNatClampNeg = 60 ∧ v = some (.int (-4)) ∧ s = (z, τ, ρ, ι, κ)) ∨ (((0 ≤ x.toInt ∧ x.toInt ≤ 1) ∧ (0 ≤ y.toInt ∧ y.toInt ≤ 1000000) ∧ ¬ (0 < (ι (B + 48) x.toNatClampNeg).toInt ∧ y.toInt ≤ (ι (B + 49) (60 * x.toNatClampNeg + (ι (B + 48) x.toNatClampNeg).toNatClampNeg - 1)).toInt)) ∧ ¬ ι (B + 48) x.toNatClampNeg = 60 ∧ v = some (.int (ι (B + 48) x.toNatClampNeg + 1)) ∧ s = (z, τ, ρ, zu (zu ι (B + 49) (60 * x.toNatClampNeg + (ι (B + 48) x.toNatClampNeg).toNatClampNeg) y) (B + 48) x.toNatClampNeg (ι (B + 48) x.toNatClampNeg + 1), κ))) 0 0 := by
  refine zM_of zCd_X12_cut (Nat.le_of_ble_eq_true rfl) ?_
  intro E X hR hE
  subst hE
  show zW E G 3 (z, τ, ρ, ι, κ) 0 0 0 [(0, .ref (B + 38)), (1, .int x), (2, .int y)] []
  obtain ⟨h8, hJc, hm1, hm2, hm3, hm4, hm5⟩ := id hJ
  refine r_iload_n X (by rfl) dX12_cut_0 ?_
  refine r_callS X dX12_cut_1 zLS_X12_259 zCd_X12_isStrip (c_X12_isStrip _ G z τ ρ _ _ _) rfl rfl ⟨⟨rfl, rfl⟩, ⟨by decide, by decide⟩, ⟨Nat.le_of_ble_eq_true rfl, Nat.le_of_ble_eq_true rfl⟩, Nat.le_of_ble_eq_true rfl⟩ ?_
  rintro _ _ ⟨rfl, rfl⟩
  refine r_if_eq X 50 dX12_cut_4 (by decide) (fun h4 => ?_) (fun h4 => ?_)
  · refine r_bipush X (-2) (by decide) dX12_cut_50 ?_
    refine r_ireturn X hR dX12_cut_52 rfl (Nat.zero_le _) (Nat.zero_le _) ?_
    refine Or.inl ⟨fun hP => ?_, rfl, rfl⟩
    first | exact zif0 h4 hP.1 | exact zif0 h16 hP.2.1 | exact hP.2.2 ⟨by omega, by rw [← e5.2]; omega⟩
  · refine r_iload_n X (by rfl) dX12_cut_7 ?_
    refine r_i2l X dX12_cut_8 ?_
    refine r_lconst X 0 (by decide) dX12_cut_9 ?_
    refine r_ldc2 X zK_X12_211 dX12_cut_10 ?_
    refine r_callS X dX12_cut_13 zLS_X12_163 zCd_X12_in (c_X12_in _ G z τ ρ _ _ _ _ _) rfl rfl ⟨⟨rfl, rfl⟩, ⟨by decide, by decide⟩, ⟨Nat.le_of_ble_eq_true rfl, Nat.le_of_ble_eq_true rfl⟩, Nat.le_of_ble_eq_true rfl⟩ ?_
    rintro _ _ ⟨rfl, rfl⟩
    rw [Int32.toInt_toInt64, show Int64.toInt 0 = 0 from rfl, show Int64.toInt 1000000 = 1000000 from rfl]
    refine r_if_eq X 50 dX12_cut_16 (by decide) (fun h16 => ?_) (fun h16 => ?_)
    · refine r_bipush X (-2) (by decide) dX12_cut_50 ?_
      refine r_ireturn X hR dX12_cut_52 rfl (Nat.zero_le _) (Nat.zero_le _) ?_
      refine Or.inl ⟨fun hP => ?_, rfl, rfl⟩
      first | exact zif0 h4 hP.1 | exact zif0 h16 hP.2.1 | exact hP.2.2 ⟨by omega, by rw [← e5.2]; omega⟩
    · have hx := zif1 h4
      have hs := hm4 x.toNatClampNeg (by have := zclN hx.1; omega)
      have hxn := zclN hx.1
      have hsn := zclN hs.1
      have e4 := zix60 (x := x) (q := ι (B + 48) x.toNatClampNeg) hx.1 (by omega) hs.1 hs.2
      have e5 : 0 < (ι (B + 48) x.toNatClampNeg).toInt → (60 * x + ι (B + 48) x.toNatClampNeg - 1).toInt = 60 * x.toInt + (ι (B + 48) x.toNatClampNeg).toInt - 1 ∧ (60 * x + ι (B + 48) x.toNatClampNeg - 1).toNatClampNeg = 60 * x.toNatClampNeg + (ι (B + 48) x.toNatClampNeg).toNatClampNeg - 1 := fun hs0 => by
        have e6 := zsub1 (x := 60 * x + ι (B + 48) x.toNatClampNeg) (by omega)
        generalize 60 * x + ι (B + 48) x.toNatClampNeg - 1 = k at *
        have := zclN (i := k) (by omega)
        omega
      refine r_aload_n X (by rfl) dX12_cut_19 ?_
      refine r_getR X dX12_cut_20 zF_X12_42 (zt hL 38 rfl) (zrf hL 45 rfl) ?_
      refine r_iload_n X (by rfl) dX12_cut_23 ?_
      refine r_iaload X dX12_cut_24 (zt hL 48 rfl) (vp_in_iff.mpr ⟨hx.1, by omega⟩) ?_
      refine r_if_le X 53 dX12_cut_25 (by decide) (fun h25 => ?_) (fun h25 => ?_)
      · have hP : ((0 ≤ x.toInt ∧ x.toInt ≤ 1) ∧ (0 ≤ y.toInt ∧ y.toInt ≤ 1000000) ∧ ¬ (0 < (ι (B + 48) x.toNatClampNeg).toInt ∧ y.toInt ≤ (ι (B + 49) (60 * x.toNatClampNeg + (ι (B + 48) x.toNatClampNeg).toNatClampNeg - 1)).toInt)) := ⟨hx, zif1 h16, fun h => by first | (have := h.1; omega) | (have := h.2; rw [← e5.2] at this; omega)⟩
        refine r_aload_n X (by rfl) dX12_cut_53 ?_
        refine r_getR X dX12_cut_54 zF_X12_42 (zt hL 38 rfl) (zrf hL 45 rfl) ?_
        refine r_iload_n X (by rfl) dX12_cut_57 ?_
        refine r_iaload X dX12_cut_58 (zt hL 48 rfl) (vp_in_iff.mpr ⟨hx.1, by omega⟩) ?_
        refine r_bipush X 60 (by decide) dX12_cut_59 ?_
        refine r_icmp_ne X 67 dX12_cut_61 (by decide) (fun h61 => ?_) (fun h61 => ?_)
        · have hlt : (ι (B + 48) x.toNatClampNeg).toInt < 60 := by
            rcases Int.lt_or_eq_of_le hs.2 with q | q
            · exact q
            · exact absurd (Int32.toInt_inj.mp (by rw [q]; rfl)) h61
          refine r_aload_n X (by rfl) dX12_cut_67 ?_
          refine r_getR X dX12_cut_68 zF_X12_45 (zt hL 38 rfl) (zrf hL 46 rfl) ?_
          refine r_bipush X 60 (by decide) dX12_cut_71 ?_
          refine r_iload_n X (by rfl) dX12_cut_73 ?_
          refine r_imul X dX12_cut_74 ?_
          refine r_aload_n X (by rfl) dX12_cut_75 ?_
          refine r_getR X dX12_cut_76 zF_X12_42 (zt hL 38 rfl) (zrf hL 45 rfl) ?_
          refine r_iload_n X (by rfl) dX12_cut_79 ?_
          refine r_iaload X dX12_cut_80 (zt hL 48 rfl) (vp_in_iff.mpr ⟨hx.1, by omega⟩) ?_
          refine r_iadd X dX12_cut_81 ?_
          refine r_iload_n X (by rfl) dX12_cut_82 ?_
          refine r_iastore X dX12_cut_83 (zt hL 49 rfl) (vp_in_iff.mpr ⟨by omega, by omega⟩) ?_
          refine r_aload_n X (by rfl) dX12_cut_84 ?_
          refine r_getR X dX12_cut_85 zF_X12_42 (zt hL 38 rfl) (zrf hL 45 rfl) ?_
          refine r_iload_n X (by rfl) dX12_cut_88 ?_
          refine r_dup2 X rfl rfl dX12_cut_89 ?_
          refine r_iaload X dX12_cut_90 (zt hL 48 rfl) (vp_in_iff.mpr ⟨hx.1, by omega⟩) ?_
          refine r_iconst X 1 (by decide) dX12_cut_91 ?_
          refine r_iadd X dX12_cut_92 ?_
          refine r_iastore X dX12_cut_93 (zt hL 48 rfl) (vp_in_iff.mpr ⟨hx.1, by omega⟩) ?_
          refine r_aload_n X (by rfl) dX12_cut_94 ?_
          refine r_getR X dX12_cut_95 zF_X12_42 (zt hL 38 rfl) (zrf hL 45 rfl) ?_
          refine r_iload_n X (by rfl) dX12_cut_98 ?_
          refine r_iaload X dX12_cut_99 (zt hL 48 rfl) (vp_in_iff.mpr ⟨hx.1, by omega⟩) ?_
          refine r_ireturn X hR dX12_cut_100 rfl (Nat.zero_le _) (Nat.zero_le _) ?_
          rw [zu_s, zu_a (show B + 48 ≠ B + 49 by omega), e4.2]
          exact Or.inr (Or.inr ⟨hP, h61, rfl, rfl⟩)
        · refine r_bipush X (-4) (by decide) dX12_cut_64 ?_
          refine r_ireturn X hR dX12_cut_66 rfl (Nat.zero_le _) (Nat.zero_le _) ?_
          exact Or.inr (Or.inl ⟨hP, h61, rfl, rfl⟩)
      · replace e5 := e5 (by omega)
        refine r_iload_n X (by rfl) dX12_cut_28 ?_
        refine r_aload_n X (by rfl) dX12_cut_29 ?_
        refine r_getR X dX12_cut_30 zF_X12_45 (zt hL 38 rfl) (zrf hL 46 rfl) ?_
        refine r_bipush X 60 (by decide) dX12_cut_33 ?_
        refine r_iload_n X (by rfl) dX12_cut_35 ?_
        refine r_imul X dX12_cut_36 ?_
        refine r_aload_n X (by rfl) dX12_cut_37 ?_
        refine r_getR X dX12_cut_38 zF_X12_42 (zt hL 38 rfl) (zrf hL 45 rfl) ?_
        refine r_iload_n X (by rfl) dX12_cut_41 ?_
        refine r_iaload X dX12_cut_42 (zt hL 48 rfl) (vp_in_iff.mpr ⟨hx.1, by omega⟩) ?_
        refine r_iadd X dX12_cut_43 ?_
        refine r_iconst X 1 (by decide) dX12_cut_44 ?_
        refine r_isub X dX12_cut_45 ?_
        refine r_iaload X dX12_cut_46 (zt hL 49 rfl) (vp_in_iff.mpr ⟨by omega, by omega⟩) ?_
        refine r_icmp_gt X 53 dX12_cut_47 (by decide) (fun h47 => ?_) (fun h47 => ?_)
        · have hP : ((0 ≤ x.toInt ∧ x.toInt ≤ 1) ∧ (0 ≤ y.toInt ∧ y.toInt ≤ 1000000) ∧ ¬ (0 < (ι (B + 48) x.toNatClampNeg).toInt ∧ y.toInt ≤ (ι (B + 49) (60 * x.toNatClampNeg + (ι (B + 48) x.toNatClampNeg).toNatClampNeg - 1)).toInt)) := ⟨hx, zif1 h16, fun h => by first | (have := h.1; omega) | (have := h.2; rw [← e5.2] at this; omega)⟩
          refine r_aload_n X (by rfl) dX12_cut_53 ?_
          refine r_getR X dX12_cut_54 zF_X12_42 (zt hL 38 rfl) (zrf hL 45 rfl) ?_
          refine r_iload_n X (by rfl) dX12_cut_57 ?_
          refine r_iaload X dX12_cut_58 (zt hL 48 rfl) (vp_in_iff.mpr ⟨hx.1, by omega⟩) ?_
          refine r_bipush X 60 (by decide) dX12_cut_59 ?_
          refine r_icmp_ne X 67 dX12_cut_61 (by decide) (fun h61 => ?_) (fun h61 => ?_)
          · have hlt : (ι (B + 48) x.toNatClampNeg).toInt < 60 := by
              rcases Int.lt_or_eq_of_le hs.2 with q | q
              · exact q
              · exact absurd (Int32.toInt_inj.mp (by rw [q]; rfl)) h61
            refine r_aload_n X (by rfl) dX12_cut_67 ?_
            refine r_getR X dX12_cut_68 zF_X12_45 (zt hL 38 rfl) (zrf hL 46 rfl) ?_
            refine r_bipush X 60 (by decide) dX12_cut_71 ?_
            refine r_iload_n X (by rfl) dX12_cut_73 ?_
            refine r_imul X dX12_cut_74 ?_
            refine r_aload_n X (by rfl) dX12_cut_75 ?_
            refine r_getR X dX12_cut_76 zF_X12_42 (zt hL 38 rfl) (zrf hL 45 rfl) ?_
            refine r_iload_n X (by rfl) dX12_cut_79 ?_
            refine r_iaload X dX12_cut_80 (zt hL 48 rfl) (vp_in_iff.mpr ⟨hx.1, by omega⟩) ?_
            refine r_iadd X dX12_cut_81 ?_
            refine r_iload_n X (by rfl) dX12_cut_82 ?_
            refine r_iastore X dX12_cut_83 (zt hL 49 rfl) (vp_in_iff.mpr ⟨by omega, by omega⟩) ?_
            refine r_aload_n X (by rfl) dX12_cut_84 ?_
            refine r_getR X dX12_cut_85 zF_X12_42 (zt hL 38 rfl) (zrf hL 45 rfl) ?_
            refine r_iload_n X (by rfl) dX12_cut_88 ?_
            refine r_dup2 X rfl rfl dX12_cut_89 ?_
            refine r_iaload X dX12_cut_90 (zt hL 48 rfl) (vp_in_iff.mpr ⟨hx.1, by omega⟩) ?_
            refine r_iconst X 1 (by decide) dX12_cut_91 ?_
            refine r_iadd X dX12_cut_92 ?_
            refine r_iastore X dX12_cut_93 (zt hL 48 rfl) (vp_in_iff.mpr ⟨hx.1, by omega⟩) ?_
            refine r_aload_n X (by rfl) dX12_cut_94 ?_
            refine r_getR X dX12_cut_95 zF_X12_42 (zt hL 38 rfl) (zrf hL 45 rfl) ?_
            refine r_iload_n X (by rfl) dX12_cut_98 ?_
            refine r_iaload X dX12_cut_99 (zt hL 48 rfl) (vp_in_iff.mpr ⟨hx.1, by omega⟩) ?_
            refine r_ireturn X hR dX12_cut_100 rfl (Nat.zero_le _) (Nat.zero_le _) ?_
            rw [zu_s, zu_a (show B + 48 ≠ B + 49 by omega), e4.2]
            exact Or.inr (Or.inr ⟨hP, h61, rfl, rfl⟩)
          · refine r_bipush X (-4) (by decide) dX12_cut_64 ?_
            refine r_ireturn X hR dX12_cut_66 rfl (Nat.zero_le _) (Nat.zero_le _) ?_
            exact Or.inr (Or.inl ⟨hP, h61, rfl, rfl⟩)
        · refine r_bipush X (-2) (by decide) dX12_cut_50 ?_
          refine r_ireturn X hR dX12_cut_52 rfl (Nat.zero_le _) (Nat.zero_le _) ?_
          refine Or.inl ⟨fun hP => ?_, rfl, rfl⟩
          first | exact zif0 h4 hP.1 | exact zif0 h16 hP.2.1 | exact hP.2.2 ⟨by omega, by rw [← e5.2]; omega⟩
set_option maxHeartbeats 4000000 in
set_option maxRecDepth 100000 in
theorem c_X12_chosen (l : Launch) (G : zG) (z : Nat) (τ : Nat → Option (Nat × Nat)) (ρ : Nat → Nat → Option Nat) (ι : Nat → Nat → Int32) (κ : Nat → Nat → Int64) {B c : Nat} (hL : zLay τ ρ B c) (hJ : zJ B c ι) (x y u : Int32) : zM l G yX12_chosen cX12_chosen 8 (some .int) ({ frames := 2, cells := 0, slots := 0, locals := 45 } : Room) [.ref (B + 38), .int x, .int y, .int u] (z, τ, ρ, ι, κ) (fun v s => ∃ r, v = some (.int r) ∧ s = (z, τ, ρ, ι, κ)) 0 0 := by
  refine zM_of zCd_X12_chosen (Nat.le_of_ble_eq_true rfl) ?_
  intro E X hR hE
  subst hE
  show zW E G 8 (z, τ, ρ, ι, κ) 0 0 0 [(0, .ref (B + 38)), (1, .int x), (2, .int y), (3, .int u)] []
  obtain ⟨h8, hJc, hm1, hm2, hm3, hm4, hm5⟩ := id hJ
  have L36 : ∀ (hx : (0 ≤ x.toInt ∧ x.toInt ≤ 1)) (m : Nat) (i p q : Int32), (60 - i.toInt).toNat < m → 0 ≤ i.toInt → zW E G 8 (z, τ, ρ, ι, κ) 0 0 36 [(0, .ref (B + 38)), (1, .int x), (2, .int y), (3, .int u), (4, .int p), (5, .int q), (6, .int i)] [] := by
    intro hx
    have hs := hm4 x.toNatClampNeg (by have := zclN hx.1; omega)
    have hxn := zclN hx.1
    have hsn := zclN hs.1
    intro m
    induction m with
    | zero => intro i p q h; omega
    | succ m ih => ?_
    intro i p q hm h0
    refine r_iload X (by rfl) dX12_chosen_36 ?_
    refine r_aload_n X (by rfl) dX12_chosen_38 ?_
    refine r_getR X dX12_chosen_39 zF_X12_42 (zt hL 38 rfl) (zrf hL 45 rfl) ?_
    refine r_iload_n X (by rfl) dX12_chosen_42 ?_
    refine r_iaload X dX12_chosen_43 (zt hL 48 rfl) (vp_in_iff.mpr ⟨hx.1, by omega⟩) ?_
    refine r_icmp_ge X 97 dX12_chosen_44 (by decide) (fun h44 => ?_) (fun h44 => ?_)
    · refine r_iload_n X (by rfl) dX12_chosen_97 ?_
      refine r_if_ge X 106 dX12_chosen_98 (by decide) (fun h98 => ?_) (fun h98 => ?_)
      · refine r_iconst X (-1) (by decide) dX12_chosen_106 ?_
        refine r_ireturn X hR dX12_chosen_107 rfl (Nat.zero_le _) (Nat.zero_le _) ?_
        exact ⟨_, rfl, rfl⟩
      · refine r_iload X (by rfl) dX12_chosen_101 ?_
        refine r_goto X 107 dX12_chosen_103 (by decide) ?_
        refine r_ireturn X hR dX12_chosen_107 rfl (Nat.zero_le _) (Nat.zero_le _) ?_
        exact ⟨_, rfl, rfl⟩
    · have e4 := zix60 (x := x) (q := i) hx.1 (by omega) h0 (by omega)
      refine r_aload_n X (by rfl) dX12_chosen_47 ?_
      refine r_getR X dX12_chosen_48 zF_X12_45 (zt hL 38 rfl) (zrf hL 46 rfl) ?_
      refine r_bipush X 60 (by decide) dX12_chosen_51 ?_
      refine r_iload_n X (by rfl) dX12_chosen_53 ?_
      refine r_imul X dX12_chosen_54 ?_
      refine r_iload X (by rfl) dX12_chosen_55 ?_
      refine r_iadd X dX12_chosen_57 ?_
      refine r_iaload X dX12_chosen_58 (zt hL 49 rfl) (vp_in_iff.mpr ⟨by omega, by omega⟩) ?_
      refine r_istore X (by decide) dX12_chosen_59 ?_
      refine r_iload X (by rfl) dX12_chosen_61 ?_
      refine r_if_eq X 75 dX12_chosen_63 (by decide) (fun h63 => ?_) (fun h63 => ?_)
      · refine r_iload X (by rfl) dX12_chosen_75 ?_
        refine r_iload_n X (by rfl) dX12_chosen_77 ?_
        refine r_icmp_ne X 84 dX12_chosen_78 (by decide) (fun h78 => ?_) (fun h78 => ?_)
        · refine r_iinc X 1 (by decide) (by rfl) (by decide) dX12_chosen_84 ?_
          refine r_iload X (by rfl) dX12_chosen_87 ?_
          refine r_istore X (by decide) dX12_chosen_89 ?_
          refine r_iinc X 1 (by decide) (by rfl) (by decide) dX12_chosen_91 ?_
          refine r_goto X 36 dX12_chosen_94 (by decide) ?_
          exact zW.loc7 (by rfl) (by rfl) (by rfl) (by rfl) (by rfl) (by rfl) (by rfl) (ih _ _ _ (by have e := zinc (x := i) (by omega); omega) (by have e := zinc (x := i) (by omega); omega))
        · refine r_iload X (by rfl) dX12_chosen_81 ?_
          refine r_ireturn X hR dX12_chosen_83 rfl (Nat.zero_le _) (Nat.zero_le _) ?_
          exact ⟨_, rfl, rfl⟩
      · refine r_iload X (by rfl) dX12_chosen_66 ?_
        refine r_iload X (by rfl) dX12_chosen_68 ?_
        refine r_iload_n X (by rfl) dX12_chosen_70 ?_
        refine r_iadd X dX12_chosen_71 ?_
        refine r_icmp_lt X 91 dX12_chosen_72 (by decide) (fun h72 => ?_) (fun h72 => ?_)
        · refine r_iinc X 1 (by decide) (by rfl) (by decide) dX12_chosen_91 ?_
          refine r_goto X 36 dX12_chosen_94 (by decide) ?_
          exact zW.loc7 (by rfl) (by rfl) (by rfl) (by rfl) (by rfl) (by rfl) (by rfl) (ih _ _ _ (by have e := zinc (x := i) (by omega); omega) (by have e := zinc (x := i) (by omega); omega))
        · refine r_iload X (by rfl) dX12_chosen_75 ?_
          refine r_iload_n X (by rfl) dX12_chosen_77 ?_
          refine r_icmp_ne X 84 dX12_chosen_78 (by decide) (fun h78 => ?_) (fun h78 => ?_)
          · refine r_iinc X 1 (by decide) (by rfl) (by decide) dX12_chosen_84 ?_
            refine r_iload X (by rfl) dX12_chosen_87 ?_
            refine r_istore X (by decide) dX12_chosen_89 ?_
            refine r_iinc X 1 (by decide) (by rfl) (by decide) dX12_chosen_91 ?_
            refine r_goto X 36 dX12_chosen_94 (by decide) ?_
            exact zW.loc7 (by rfl) (by rfl) (by rfl) (by rfl) (by rfl) (by rfl) (by rfl) (ih _ _ _ (by have e := zinc (x := i) (by omega); omega) (by have e := zinc (x := i) (by omega); omega))
          · refine r_iload X (by rfl) dX12_chosen_81 ?_
            refine r_ireturn X hR dX12_chosen_83 rfl (Nat.zero_le _) (Nat.zero_le _) ?_
            exact ⟨_, rfl, rfl⟩
  refine r_iload_n X (by rfl) dX12_chosen_0 ?_
  refine r_callS X dX12_chosen_1 zLS_X12_259 zCd_X12_isStrip (c_X12_isStrip _ G z τ ρ _ _ _) rfl rfl ⟨⟨rfl, rfl⟩, ⟨by decide, by decide⟩, ⟨Nat.le_of_ble_eq_true rfl, Nat.le_of_ble_eq_true rfl⟩, Nat.le_of_ble_eq_true rfl⟩ ?_
  rintro _ _ ⟨rfl, rfl⟩
  refine r_if_eq X 24 dX12_chosen_4 (by decide) (fun h4 => ?_) (fun h4 => ?_)
  · refine r_bipush X (-2) (by decide) dX12_chosen_24 ?_
    refine r_ireturn X hR dX12_chosen_26 rfl (Nat.zero_le _) (Nat.zero_le _) ?_
    exact ⟨_, rfl, rfl⟩
  · refine r_iload_n X (by rfl) dX12_chosen_7 ?_
    refine r_i2l X dX12_chosen_8 ?_
    refine r_lconst X 1 (by decide) dX12_chosen_9 ?_
    refine r_ldc2 X zK_X12_167 dX12_chosen_10 ?_
    refine r_callS X dX12_chosen_13 zLS_X12_163 zCd_X12_in (c_X12_in _ G z τ ρ _ _ _ _ _) rfl rfl ⟨⟨rfl, rfl⟩, ⟨by decide, by decide⟩, ⟨Nat.le_of_ble_eq_true rfl, Nat.le_of_ble_eq_true rfl⟩, Nat.le_of_ble_eq_true rfl⟩ ?_
    rintro _ _ ⟨rfl, rfl⟩
    rw [Int32.toInt_toInt64, show Int64.toInt 1 = 1 from rfl, show Int64.toInt 100000 = 100000 from rfl]
    refine r_if_eq X 24 dX12_chosen_16 (by decide) (fun h16 => ?_) (fun h16 => ?_)
    · refine r_bipush X (-2) (by decide) dX12_chosen_24 ?_
      refine r_ireturn X hR dX12_chosen_26 rfl (Nat.zero_le _) (Nat.zero_le _) ?_
      exact ⟨_, rfl, rfl⟩
    · refine r_iload_n X (by rfl) dX12_chosen_19 ?_
      refine r_iconst X (-1) (by decide) dX12_chosen_20 ?_
      refine r_icmp_ge X 27 dX12_chosen_21 (by decide) (fun h21 => ?_) (fun h21 => ?_)
      · rw [show Int32.toInt (-1) = -1 from rfl] at h21
        refine r_iconst X 0 (by decide) dX12_chosen_27 ?_
        refine r_istore X (by decide) dX12_chosen_28 ?_
        refine r_iconst X 0 (by decide) dX12_chosen_30 ?_
        refine r_istore X (by decide) dX12_chosen_31 ?_
        refine r_iconst X 0 (by decide) dX12_chosen_33 ?_
        refine r_istore X (by decide) dX12_chosen_34 ?_
        exact zW.loc7 (by rfl) (by rfl) (by rfl) (by rfl) (by rfl) (by rfl) (by rfl) (L36 (zif1 h4) 61 _ _ _ (by decide) (by decide))
      · rw [show Int32.toInt (-1) = -1 from rfl] at h21
        refine r_bipush X (-2) (by decide) dX12_chosen_24 ?_
        refine r_ireturn X hR dX12_chosen_26 rfl (Nat.zero_le _) (Nat.zero_le _) ?_
        exact ⟨_, rfl, rfl⟩
set_option maxHeartbeats 4000000 in
set_option maxRecDepth 100000 in
theorem c_X12_has (l : Launch) (G : zG) (z : Nat) (τ : Nat → Option (Nat × Nat)) (ρ : Nat → Nat → Option Nat) (ι : Nat → Nat → Int32) (κ : Nat → Nat → Int64) {B c : Nat} (hL : zLay τ ρ B c) (hJ : zJ B c ι) (x y : Int32) (hx : (0 ≤ x.toInt ∧ x.toInt ≤ 1)) : zM l G yX12_has cX12_has 5 (some .boolean) ({ frames := 0, cells := 0, slots := 0, locals := 0 } : Room) [.ref (B + 38), .int x, .int y] (z, τ, ρ, ι, κ) (fun v s => ∃ r, v = some (.int r) ∧ s = (z, τ, ρ, ι, κ)) 0 0 := by
  refine zM_of zCd_X12_has (Nat.le_of_ble_eq_true rfl) ?_
  intro E X hR hE
  subst hE
  show zW E G 5 (z, τ, ρ, ι, κ) 0 0 0 [(0, .ref (B + 38)), (1, .int x), (2, .int y)] []
  obtain ⟨h8, hJc, hm1, hm2, hm3, hm4, hm5⟩ := id hJ
  have hs := hm4 x.toNatClampNeg (by have := zclN hx.1; omega)
  have hxn := zclN hx.1
  have hsn := zclN hs.1
  have L5 : ∀ (m : Nat) (i p : Int32), (60 - i.toInt).toNat < m → 0 ≤ i.toInt → (p = 0 ∨ p = 1) → zW E G 5 (z, τ, ρ, ι, κ) 0 0 5 [(0, .ref (B + 38)), (1, .int x), (2, .int y), (3, .int p), (4, .int i)] [] := by
    intro m
    induction m with
    | zero => intro i p h; omega
    | succ m ih => ?_
    intro i p hm h0 hp
    refine r_iload X (by rfl) dX12_has_5 ?_
    refine r_aload_n X (by rfl) dX12_has_7 ?_
    refine r_getR X dX12_has_8 zF_X12_42 (zt hL 38 rfl) (zrf hL 45 rfl) ?_
    refine r_iload_n X (by rfl) dX12_has_11 ?_
    refine r_iaload X dX12_has_12 (zt hL 48 rfl) (vp_in_iff.mpr ⟨hx.1, by omega⟩) ?_
    refine r_icmp_ge X 48 dX12_has_13 (by decide) (fun h13 => ?_) (fun h13 => ?_)
    · refine r_iload_n X (by rfl) dX12_has_48 ?_
      refine r_ireturn X hR dX12_has_49 (by rcases hp with rfl | rfl <;> decide +kernel) (Nat.zero_le _) (Nat.zero_le _) ?_
      exact ⟨_, rfl, rfl⟩
    · refine r_iload_n X (by rfl) dX12_has_16 ?_
      refine r_if_ne X 36 dX12_has_17 (by decide) (fun h17 => ?_) (fun h17 => ?_)
      · refine r_iconst X 1 (by decide) dX12_has_36 ?_
        refine r_goto X 41 dX12_has_37 (by decide) ?_
        refine r_istore_n X (by decide) dX12_has_41 ?_
        refine r_iinc X 1 (by decide) (by rfl) (by decide) dX12_has_42 ?_
        refine r_goto X 5 dX12_has_45 (by decide) ?_
        exact zW.loc5 (by rfl) (by rfl) (by rfl) (by rfl) (by rfl) (ih _ _ (by have e := zinc (x := i) (by omega); omega) (by have e := zinc (x := i) (by omega); omega) (by decide))
      · have e4 := zix60 (x := x) (q := i) hx.1 (by omega) h0 (by omega)
        refine r_aload_n X (by rfl) dX12_has_20 ?_
        refine r_getR X dX12_has_21 zF_X12_45 (zt hL 38 rfl) (zrf hL 46 rfl) ?_
        refine r_bipush X 60 (by decide) dX12_has_24 ?_
        refine r_iload_n X (by rfl) dX12_has_26 ?_
        refine r_imul X dX12_has_27 ?_
        refine r_iload X (by rfl) dX12_has_28 ?_
        refine r_iadd X dX12_has_30 ?_
        refine r_iaload X dX12_has_31 (zt hL 49 rfl) (vp_in_iff.mpr ⟨by omega, by omega⟩) ?_
        refine r_iload_n X (by rfl) dX12_has_32 ?_
        refine r_icmp_ne X 40 dX12_has_33 (by decide) (fun h33 => ?_) (fun h33 => ?_)
        · refine r_iconst X 0 (by decide) dX12_has_40 ?_
          refine r_istore_n X (by decide) dX12_has_41 ?_
          refine r_iinc X 1 (by decide) (by rfl) (by decide) dX12_has_42 ?_
          refine r_goto X 5 dX12_has_45 (by decide) ?_
          exact zW.loc5 (by rfl) (by rfl) (by rfl) (by rfl) (by rfl) (ih _ _ (by have e := zinc (x := i) (by omega); omega) (by have e := zinc (x := i) (by omega); omega) (by decide))
        · refine r_iconst X 1 (by decide) dX12_has_36 ?_
          refine r_goto X 41 dX12_has_37 (by decide) ?_
          refine r_istore_n X (by decide) dX12_has_41 ?_
          refine r_iinc X 1 (by decide) (by rfl) (by decide) dX12_has_42 ?_
          refine r_goto X 5 dX12_has_45 (by decide) ?_
          exact zW.loc5 (by rfl) (by rfl) (by rfl) (by rfl) (by rfl) (ih _ _ (by have e := zinc (x := i) (by omega); omega) (by have e := zinc (x := i) (by omega); omega) (by decide))
  refine r_iconst X 0 (by decide) dX12_has_0 ?_
  refine r_istore_n X (by decide) dX12_has_1 ?_
  refine r_iconst X 0 (by decide) dX12_has_2 ?_
  refine r_istore X (by decide) dX12_has_3 ?_
  exact zW.loc5 (by rfl) (by rfl) (by rfl) (by rfl) (by rfl) (L5 61 _ _ (by decide) (by decide) (by decide))
set_option maxHeartbeats 4000000 in
set_option maxRecDepth 100000 in
theorem c_X12_match (l : Launch) (G : zG) (z : Nat) (τ : Nat → Option (Nat × Nat)) (ρ : Nat → Nat → Option Nat) (ι : Nat → Nat → Int32) (κ : Nat → Nat → Int64) {B c : Nat} (hL : zLay τ ρ B c) (hJ : zJ B c ι) (x : Int32) : zM l G yX12_match cX12_match 9 (some .int) ({ frames := 1, cells := 0, slots := 0, locals := 25 } : Room) [.ref (B + 38), .int x] (z, τ, ρ, ι, κ) (fun v s => ∃ r, v = some (.int r) ∧ s = (z, τ, ρ, ι, κ)) 0 0 := by
  refine zM_of zCd_X12_match (Nat.le_of_ble_eq_true rfl) ?_
  intro E X hR hE
  subst hE
  show zW E G 9 (z, τ, ρ, ι, κ) 0 0 0 [(0, .ref (B + 38)), (1, .int x)] []
  obtain ⟨h8, hJc, hm1, hm2, hm3, hm4, hm5⟩ := id hJ
  have hs0 := hm4 0 (by decide)
  have hs1 := hm4 1 (by decide)
  have L38 : ∀ (m : Nat) (i p q : Int32), (60 - i.toInt).toNat < m → 0 ≤ i.toInt → zW E G 9 (z, τ, ρ, ι, κ) 0 0 38 [(0, .ref (B + 38)), (1, .int x), (2, .int p), (3, .int q), (4, .int i)] [] := by
    intro m
    induction m with
    | zero => intro i p q h; omega
    | succ m ih => ?_
    intro i p q hm h0
    have L52 : ∀ (hi : i.toInt < (ι (B + 48) 0).toInt) (m2 : Nat) (j p q : Int32), (60 - j.toInt).toNat < m2 → 0 ≤ j.toInt → zW E G 9 (z, τ, ρ, ι, κ) 0 0 52 [(0, .ref (B + 38)), (1, .int x), (2, .int p), (3, .int q), (4, .int i), (5, .int j)] [] := by
      intro hi m2
      induction m2 with
      | zero => intro j p q h; omega
      | succ m2 ih2 => ?_
      intro j p q hm2 hj0
      have L89 : ∀ (hj : j.toInt < (ι (B + 48) 1).toInt) (b : Int32) (m3 : Nat) (k y : Int32), (60 - k.toInt).toNat < m3 → 0 ≤ k.toInt → zW E G 9 (z, τ, ρ, ι, κ) 0 0 89 [(0, .ref (B + 38)), (1, .int x), (2, .int p), (3, .int q), (4, .int i), (5, .int j), (6, .int b), (7, .int y), (8, .int k)] [] := by
        intro hj b m3
        induction m3 with
        | zero => intro k y h; omega
        | succ m3 ih3 => ?_
        intro k y hm3 hk0
        refine r_iload X (by rfl) dX12_match_89 ?_
        refine r_aload_n X (by rfl) dX12_match_91 ?_
        refine r_getR X dX12_match_92 zF_X12_42 (zt hL 38 rfl) (zrf hL 45 rfl) ?_
        refine r_iconst X 1 (by decide) dX12_match_95 ?_
        refine r_iaload X dX12_match_96 (zt hL 48 rfl) (vp_in_iff.mpr ⟨by decide, by decide⟩) ?_
        refine r_icmp_ge X 137 dX12_match_97 (by decide) (fun h97 => ?_) (fun h97 => ?_)
        · refine r_iload X (by rfl) dX12_match_137 ?_
          refine r_callS X dX12_match_139 zLS_X12_199 zCd_X12_size (c_X12_size _ G z τ ρ _ _ _) rfl rfl ⟨⟨rfl, rfl⟩, ⟨by decide, by decide⟩, ⟨Nat.le_of_ble_eq_true rfl, Nat.le_of_ble_eq_true rfl⟩, Nat.le_of_ble_eq_true rfl⟩ ?_
          rintro _ _ ⟨rfl, rfl⟩
          refine r_iload_n X (by rfl) dX12_match_142 ?_
          refine r_callS X dX12_match_143 zLS_X12_199 zCd_X12_size (c_X12_size _ G z τ ρ _ _ _) rfl rfl ⟨⟨rfl, rfl⟩, ⟨by decide, by decide⟩, ⟨Nat.le_of_ble_eq_true rfl, Nat.le_of_ble_eq_true rfl⟩, Nat.le_of_ble_eq_true rfl⟩ ?_
          rintro _ _ ⟨rfl, rfl⟩
          refine r_icmp_lt X 167 dX12_match_146 (by decide) (fun h146 => ?_) (fun h146 => ?_)
          · refine r_iconst X 1 (by decide) dX12_match_167 ?_
            refine r_goto X 172 dX12_match_168 (by decide) ?_
            refine r_istore X (by decide) dX12_match_172 ?_
            refine r_iload X (by rfl) dX12_match_174 ?_
            refine r_iload_n X (by rfl) dX12_match_176 ?_
            refine r_icmp_gt X 191 dX12_match_177 (by decide) (fun h177 => ?_) (fun h177 => ?_)
            · refine r_iload X (by rfl) dX12_match_191 ?_
              refine r_istore_n X (by decide) dX12_match_193 ?_
              refine r_iload X (by rfl) dX12_match_194 ?_
              refine r_istore_n X (by decide) dX12_match_196 ?_
              refine r_iinc X 1 (by decide) (by rfl) (by decide) dX12_match_197 ?_
              refine r_goto X 52 dX12_match_200 (by decide) ?_
              exact zW.loc6 (by rfl) (by rfl) (by rfl) (by rfl) (by rfl) (by rfl) (ih2 _ _ _ (by change j.toInt < (ι (B + 48) 1).toInt at hj; have e := zinc (x := j) (by omega); omega) (by change j.toInt < (ι (B + 48) 1).toInt at hj; have e := zinc (x := j) (by omega); omega))
            · refine r_iload X (by rfl) dX12_match_180 ?_
              refine r_iload_n X (by rfl) dX12_match_182 ?_
              refine r_icmp_ne X 197 dX12_match_183 (by decide) (fun h183 => ?_) (fun h183 => ?_)
              · refine r_iinc X 1 (by decide) (by rfl) (by decide) dX12_match_197 ?_
                refine r_goto X 52 dX12_match_200 (by decide) ?_
                exact zW.loc6 (by rfl) (by rfl) (by rfl) (by rfl) (by rfl) (by rfl) (ih2 _ _ _ (by change j.toInt < (ι (B + 48) 1).toInt at hj; have e := zinc (x := j) (by omega); omega) (by change j.toInt < (ι (B + 48) 1).toInt at hj; have e := zinc (x := j) (by omega); omega))
              · refine r_iload X (by rfl) dX12_match_186 ?_
                refine r_if_eq X 197 dX12_match_188 (by decide) (fun h188 => ?_) (fun h188 => ?_)
                · refine r_iinc X 1 (by decide) (by rfl) (by decide) dX12_match_197 ?_
                  refine r_goto X 52 dX12_match_200 (by decide) ?_
                  exact zW.loc6 (by rfl) (by rfl) (by rfl) (by rfl) (by rfl) (by rfl) (ih2 _ _ _ (by change j.toInt < (ι (B + 48) 1).toInt at hj; have e := zinc (x := j) (by omega); omega) (by change j.toInt < (ι (B + 48) 1).toInt at hj; have e := zinc (x := j) (by omega); omega))
                · refine r_iload X (by rfl) dX12_match_191 ?_
                  refine r_istore_n X (by decide) dX12_match_193 ?_
                  refine r_iload X (by rfl) dX12_match_194 ?_
                  refine r_istore_n X (by decide) dX12_match_196 ?_
                  refine r_iinc X 1 (by decide) (by rfl) (by decide) dX12_match_197 ?_
                  refine r_goto X 52 dX12_match_200 (by decide) ?_
                  exact zW.loc6 (by rfl) (by rfl) (by rfl) (by rfl) (by rfl) (by rfl) (ih2 _ _ _ (by change j.toInt < (ι (B + 48) 1).toInt at hj; have e := zinc (x := j) (by omega); omega) (by change j.toInt < (ι (B + 48) 1).toInt at hj; have e := zinc (x := j) (by omega); omega))
          · refine r_iload X (by rfl) dX12_match_149 ?_
            refine r_callS X dX12_match_151 zLS_X12_199 zCd_X12_size (c_X12_size _ G z τ ρ _ _ _) rfl rfl ⟨⟨rfl, rfl⟩, ⟨by decide, by decide⟩, ⟨Nat.le_of_ble_eq_true rfl, Nat.le_of_ble_eq_true rfl⟩, Nat.le_of_ble_eq_true rfl⟩ ?_
            rintro _ _ ⟨rfl, rfl⟩
            refine r_iload_n X (by rfl) dX12_match_154 ?_
            refine r_callS X dX12_match_155 zLS_X12_199 zCd_X12_size (c_X12_size _ G z τ ρ _ _ _) rfl rfl ⟨⟨rfl, rfl⟩, ⟨by decide, by decide⟩, ⟨Nat.le_of_ble_eq_true rfl, Nat.le_of_ble_eq_true rfl⟩, Nat.le_of_ble_eq_true rfl⟩ ?_
            rintro _ _ ⟨rfl, rfl⟩
            refine r_icmp_ne X 171 dX12_match_158 (by decide) (fun h158 => ?_) (fun h158 => ?_)
            · refine r_iconst X 0 (by decide) dX12_match_171 ?_
              refine r_istore X (by decide) dX12_match_172 ?_
              refine r_iload X (by rfl) dX12_match_174 ?_
              refine r_iload_n X (by rfl) dX12_match_176 ?_
              refine r_icmp_gt X 191 dX12_match_177 (by decide) (fun h177 => ?_) (fun h177 => ?_)
              · refine r_iload X (by rfl) dX12_match_191 ?_
                refine r_istore_n X (by decide) dX12_match_193 ?_
                refine r_iload X (by rfl) dX12_match_194 ?_
                refine r_istore_n X (by decide) dX12_match_196 ?_
                refine r_iinc X 1 (by decide) (by rfl) (by decide) dX12_match_197 ?_
                refine r_goto X 52 dX12_match_200 (by decide) ?_
                exact zW.loc6 (by rfl) (by rfl) (by rfl) (by rfl) (by rfl) (by rfl) (ih2 _ _ _ (by change j.toInt < (ι (B + 48) 1).toInt at hj; have e := zinc (x := j) (by omega); omega) (by change j.toInt < (ι (B + 48) 1).toInt at hj; have e := zinc (x := j) (by omega); omega))
              · refine r_iload X (by rfl) dX12_match_180 ?_
                refine r_iload_n X (by rfl) dX12_match_182 ?_
                refine r_icmp_ne X 197 dX12_match_183 (by decide) (fun h183 => ?_) (fun h183 => ?_)
                · refine r_iinc X 1 (by decide) (by rfl) (by decide) dX12_match_197 ?_
                  refine r_goto X 52 dX12_match_200 (by decide) ?_
                  exact zW.loc6 (by rfl) (by rfl) (by rfl) (by rfl) (by rfl) (by rfl) (ih2 _ _ _ (by change j.toInt < (ι (B + 48) 1).toInt at hj; have e := zinc (x := j) (by omega); omega) (by change j.toInt < (ι (B + 48) 1).toInt at hj; have e := zinc (x := j) (by omega); omega))
                · refine r_iload X (by rfl) dX12_match_186 ?_
                  refine r_if_eq X 197 dX12_match_188 (by decide) (fun h188 => ?_) (fun h188 => ?_)
                  · refine r_iinc X 1 (by decide) (by rfl) (by decide) dX12_match_197 ?_
                    refine r_goto X 52 dX12_match_200 (by decide) ?_
                    exact zW.loc6 (by rfl) (by rfl) (by rfl) (by rfl) (by rfl) (by rfl) (ih2 _ _ _ (by change j.toInt < (ι (B + 48) 1).toInt at hj; have e := zinc (x := j) (by omega); omega) (by change j.toInt < (ι (B + 48) 1).toInt at hj; have e := zinc (x := j) (by omega); omega))
                  · refine r_iload X (by rfl) dX12_match_191 ?_
                    refine r_istore_n X (by decide) dX12_match_193 ?_
                    refine r_iload X (by rfl) dX12_match_194 ?_
                    refine r_istore_n X (by decide) dX12_match_196 ?_
                    refine r_iinc X 1 (by decide) (by rfl) (by decide) dX12_match_197 ?_
                    refine r_goto X 52 dX12_match_200 (by decide) ?_
                    exact zW.loc6 (by rfl) (by rfl) (by rfl) (by rfl) (by rfl) (by rfl) (ih2 _ _ _ (by change j.toInt < (ι (B + 48) 1).toInt at hj; have e := zinc (x := j) (by omega); omega) (by change j.toInt < (ι (B + 48) 1).toInt at hj; have e := zinc (x := j) (by omega); omega))
            · refine r_iload X (by rfl) dX12_match_161 ?_
              refine r_iload_n X (by rfl) dX12_match_163 ?_
              refine r_icmp_le X 171 dX12_match_164 (by decide) (fun h164 => ?_) (fun h164 => ?_)
              · refine r_iconst X 0 (by decide) dX12_match_171 ?_
                refine r_istore X (by decide) dX12_match_172 ?_
                refine r_iload X (by rfl) dX12_match_174 ?_
                refine r_iload_n X (by rfl) dX12_match_176 ?_
                refine r_icmp_gt X 191 dX12_match_177 (by decide) (fun h177 => ?_) (fun h177 => ?_)
                · refine r_iload X (by rfl) dX12_match_191 ?_
                  refine r_istore_n X (by decide) dX12_match_193 ?_
                  refine r_iload X (by rfl) dX12_match_194 ?_
                  refine r_istore_n X (by decide) dX12_match_196 ?_
                  refine r_iinc X 1 (by decide) (by rfl) (by decide) dX12_match_197 ?_
                  refine r_goto X 52 dX12_match_200 (by decide) ?_
                  exact zW.loc6 (by rfl) (by rfl) (by rfl) (by rfl) (by rfl) (by rfl) (ih2 _ _ _ (by change j.toInt < (ι (B + 48) 1).toInt at hj; have e := zinc (x := j) (by omega); omega) (by change j.toInt < (ι (B + 48) 1).toInt at hj; have e := zinc (x := j) (by omega); omega))
                · refine r_iload X (by rfl) dX12_match_180 ?_
                  refine r_iload_n X (by rfl) dX12_match_182 ?_
                  refine r_icmp_ne X 197 dX12_match_183 (by decide) (fun h183 => ?_) (fun h183 => ?_)
                  · refine r_iinc X 1 (by decide) (by rfl) (by decide) dX12_match_197 ?_
                    refine r_goto X 52 dX12_match_200 (by decide) ?_
                    exact zW.loc6 (by rfl) (by rfl) (by rfl) (by rfl) (by rfl) (by rfl) (ih2 _ _ _ (by change j.toInt < (ι (B + 48) 1).toInt at hj; have e := zinc (x := j) (by omega); omega) (by change j.toInt < (ι (B + 48) 1).toInt at hj; have e := zinc (x := j) (by omega); omega))
                  · refine r_iload X (by rfl) dX12_match_186 ?_
                    refine r_if_eq X 197 dX12_match_188 (by decide) (fun h188 => ?_) (fun h188 => ?_)
                    · refine r_iinc X 1 (by decide) (by rfl) (by decide) dX12_match_197 ?_
                      refine r_goto X 52 dX12_match_200 (by decide) ?_
                      exact zW.loc6 (by rfl) (by rfl) (by rfl) (by rfl) (by rfl) (by rfl) (ih2 _ _ _ (by change j.toInt < (ι (B + 48) 1).toInt at hj; have e := zinc (x := j) (by omega); omega) (by change j.toInt < (ι (B + 48) 1).toInt at hj; have e := zinc (x := j) (by omega); omega))
                    · refine r_iload X (by rfl) dX12_match_191 ?_
                      refine r_istore_n X (by decide) dX12_match_193 ?_
                      refine r_iload X (by rfl) dX12_match_194 ?_
                      refine r_istore_n X (by decide) dX12_match_196 ?_
                      refine r_iinc X 1 (by decide) (by rfl) (by decide) dX12_match_197 ?_
                      refine r_goto X 52 dX12_match_200 (by decide) ?_
                      exact zW.loc6 (by rfl) (by rfl) (by rfl) (by rfl) (by rfl) (by rfl) (ih2 _ _ _ (by change j.toInt < (ι (B + 48) 1).toInt at hj; have e := zinc (x := j) (by omega); omega) (by change j.toInt < (ι (B + 48) 1).toInt at hj; have e := zinc (x := j) (by omega); omega))
              · refine r_iconst X 1 (by decide) dX12_match_167 ?_
                refine r_goto X 172 dX12_match_168 (by decide) ?_
                refine r_istore X (by decide) dX12_match_172 ?_
                refine r_iload X (by rfl) dX12_match_174 ?_
                refine r_iload_n X (by rfl) dX12_match_176 ?_
                refine r_icmp_gt X 191 dX12_match_177 (by decide) (fun h177 => ?_) (fun h177 => ?_)
                · refine r_iload X (by rfl) dX12_match_191 ?_
                  refine r_istore_n X (by decide) dX12_match_193 ?_
                  refine r_iload X (by rfl) dX12_match_194 ?_
                  refine r_istore_n X (by decide) dX12_match_196 ?_
                  refine r_iinc X 1 (by decide) (by rfl) (by decide) dX12_match_197 ?_
                  refine r_goto X 52 dX12_match_200 (by decide) ?_
                  exact zW.loc6 (by rfl) (by rfl) (by rfl) (by rfl) (by rfl) (by rfl) (ih2 _ _ _ (by change j.toInt < (ι (B + 48) 1).toInt at hj; have e := zinc (x := j) (by omega); omega) (by change j.toInt < (ι (B + 48) 1).toInt at hj; have e := zinc (x := j) (by omega); omega))
                · refine r_iload X (by rfl) dX12_match_180 ?_
                  refine r_iload_n X (by rfl) dX12_match_182 ?_
                  refine r_icmp_ne X 197 dX12_match_183 (by decide) (fun h183 => ?_) (fun h183 => ?_)
                  · refine r_iinc X 1 (by decide) (by rfl) (by decide) dX12_match_197 ?_
                    refine r_goto X 52 dX12_match_200 (by decide) ?_
                    exact zW.loc6 (by rfl) (by rfl) (by rfl) (by rfl) (by rfl) (by rfl) (ih2 _ _ _ (by change j.toInt < (ι (B + 48) 1).toInt at hj; have e := zinc (x := j) (by omega); omega) (by change j.toInt < (ι (B + 48) 1).toInt at hj; have e := zinc (x := j) (by omega); omega))
                  · refine r_iload X (by rfl) dX12_match_186 ?_
                    refine r_if_eq X 197 dX12_match_188 (by decide) (fun h188 => ?_) (fun h188 => ?_)
                    · refine r_iinc X 1 (by decide) (by rfl) (by decide) dX12_match_197 ?_
                      refine r_goto X 52 dX12_match_200 (by decide) ?_
                      exact zW.loc6 (by rfl) (by rfl) (by rfl) (by rfl) (by rfl) (by rfl) (ih2 _ _ _ (by change j.toInt < (ι (B + 48) 1).toInt at hj; have e := zinc (x := j) (by omega); omega) (by change j.toInt < (ι (B + 48) 1).toInt at hj; have e := zinc (x := j) (by omega); omega))
                    · refine r_iload X (by rfl) dX12_match_191 ?_
                      refine r_istore_n X (by decide) dX12_match_193 ?_
                      refine r_iload X (by rfl) dX12_match_194 ?_
                      refine r_istore_n X (by decide) dX12_match_196 ?_
                      refine r_iinc X 1 (by decide) (by rfl) (by decide) dX12_match_197 ?_
                      refine r_goto X 52 dX12_match_200 (by decide) ?_
                      exact zW.loc6 (by rfl) (by rfl) (by rfl) (by rfl) (by rfl) (by rfl) (ih2 _ _ _ (by change j.toInt < (ι (B + 48) 1).toInt at hj; have e := zinc (x := j) (by omega); omega) (by change j.toInt < (ι (B + 48) 1).toInt at hj; have e := zinc (x := j) (by omega); omega))
        · change k.toInt < (ι (B + 48) 1).toInt at h97
          have e61 := zaddI (x := 60) (y := k) (by rw [show Int32.toInt 60 = 60 from rfl]; omega) (by rw [show Int32.toInt 60 = 60 from rfl]; omega)
          rw [show Int32.toInt 60 = 60 from rfl] at e61
          refine r_iload X (by rfl) dX12_match_100 ?_
          refine r_aload_n X (by rfl) dX12_match_102 ?_
          refine r_iconst X 0 (by decide) dX12_match_103 ?_
          refine r_aload_n X (by rfl) dX12_match_104 ?_
          refine r_getR X dX12_match_105 zF_X12_45 (zt hL 38 rfl) (zrf hL 46 rfl) ?_
          refine r_bipush X 60 (by decide) dX12_match_108 ?_
          refine r_iload X (by rfl) dX12_match_110 ?_
          refine r_iadd X dX12_match_112 ?_
          refine r_iaload X dX12_match_113 (zt hL 49 rfl) (vp_in_iff.mpr ⟨by omega, by omega⟩) ?_
          refine r_iload X (by rfl) dX12_match_114 ?_
          refine r_iadd X dX12_match_116 ?_
          refine r_callV X dX12_match_117 zLV_X12_262 zCd_X12_has (c_X12_has _ G z τ ρ _ _ hL hJ _ _ (by decide)) (zt hL 38 rfl) ⟨by decide, rfl, rfl⟩ rfl rfl ⟨⟨rfl, rfl⟩, ⟨by decide, by decide⟩, ⟨Nat.le_of_ble_eq_true rfl, Nat.le_of_ble_eq_true rfl⟩, Nat.le_of_ble_eq_true rfl⟩ ?_
          rintro _ _ ⟨r2, rfl, rfl⟩
          refine r_if_eq X 127 dX12_match_120 (by decide) (fun h120 => ?_) (fun h120 => ?_)
          · refine r_iconst X 0 (by decide) dX12_match_127 ?_
            refine r_iadd X dX12_match_128 ?_
            refine r_istore X (by decide) dX12_match_129 ?_
            refine r_iinc X 1 (by decide) (by rfl) (by decide) dX12_match_131 ?_
            refine r_goto X 89 dX12_match_134 (by decide) ?_
            exact zW.loc9 (by rfl) (by rfl) (by rfl) (by rfl) (by rfl) (by rfl) (by rfl) (by rfl) (by rfl) (ih3 _ _ (by change k.toInt < (ι (B + 48) 1).toInt at h97; have e := zinc (x := k) (by omega); omega) (by change k.toInt < (ι (B + 48) 1).toInt at h97; have e := zinc (x := k) (by omega); omega))
          · refine r_iconst X 1 (by decide) dX12_match_123 ?_
            refine r_goto X 128 dX12_match_124 (by decide) ?_
            refine r_iadd X dX12_match_128 ?_
            refine r_istore X (by decide) dX12_match_129 ?_
            refine r_iinc X 1 (by decide) (by rfl) (by decide) dX12_match_131 ?_
            refine r_goto X 89 dX12_match_134 (by decide) ?_
            exact zW.loc9 (by rfl) (by rfl) (by rfl) (by rfl) (by rfl) (by rfl) (by rfl) (by rfl) (by rfl) (ih3 _ _ (by change k.toInt < (ι (B + 48) 1).toInt at h97; have e := zinc (x := k) (by omega); omega) (by change k.toInt < (ι (B + 48) 1).toInt at h97; have e := zinc (x := k) (by omega); omega))
      refine r_iload X (by rfl) dX12_match_52 ?_
      refine r_aload_n X (by rfl) dX12_match_54 ?_
      refine r_getR X dX12_match_55 zF_X12_42 (zt hL 38 rfl) (zrf hL 45 rfl) ?_
      refine r_iconst X 1 (by decide) dX12_match_58 ?_
      refine r_iaload X dX12_match_59 (zt hL 48 rfl) (vp_in_iff.mpr ⟨by decide, by decide⟩) ?_
      refine r_icmp_ge X 203 dX12_match_60 (by decide) (fun h60 => ?_) (fun h60 => ?_)
      · refine r_iinc X 1 (by decide) (by rfl) (by decide) dX12_match_203 ?_
        refine r_goto X 38 dX12_match_206 (by decide) ?_
        exact zW.loc5 (by rfl) (by rfl) (by rfl) (by rfl) (by rfl) (ih _ _ _ (by change i.toInt < (ι (B + 48) 0).toInt at hi; have e := zinc (x := i) (by omega); omega) (by have e := zinc (x := i) (by omega); omega))
      · change j.toInt < (ι (B + 48) 1).toInt at h60
        have e60 := zaddI (x := 60) (y := j) (by rw [show Int32.toInt 60 = 60 from rfl]; omega) (by rw [show Int32.toInt 60 = 60 from rfl]; omega)
        rw [show Int32.toInt 60 = 60 from rfl] at e60
        refine r_aload_n X (by rfl) dX12_match_63 ?_
        refine r_getR X dX12_match_64 zF_X12_45 (zt hL 38 rfl) (zrf hL 46 rfl) ?_
        refine r_iload X (by rfl) dX12_match_67 ?_
        refine r_iaload X dX12_match_69 (zt hL 49 rfl) (vp_in_iff.mpr ⟨h0, by omega⟩) ?_
        refine r_aload_n X (by rfl) dX12_match_70 ?_
        refine r_getR X dX12_match_71 zF_X12_45 (zt hL 38 rfl) (zrf hL 46 rfl) ?_
        refine r_bipush X 60 (by decide) dX12_match_74 ?_
        refine r_iload X (by rfl) dX12_match_76 ?_
        refine r_iadd X dX12_match_78 ?_
        refine r_iaload X dX12_match_79 (zt hL 49 rfl) (vp_in_iff.mpr ⟨by omega, by omega⟩) ?_
        refine r_isub X dX12_match_80 ?_
        refine r_istore X (by decide) dX12_match_81 ?_
        refine r_iconst X 0 (by decide) dX12_match_83 ?_
        refine r_istore X (by decide) dX12_match_84 ?_
        refine r_iconst X 0 (by decide) dX12_match_86 ?_
        refine r_istore X (by decide) dX12_match_87 ?_
        exact zW.loc9 (by rfl) (by rfl) (by rfl) (by rfl) (by rfl) (by rfl) (by rfl) (by rfl) (by rfl) (L89 h60 _ 61 _ _ (by decide) (by decide))
    refine r_iload X (by rfl) dX12_match_38 ?_
    refine r_aload_n X (by rfl) dX12_match_40 ?_
    refine r_getR X dX12_match_41 zF_X12_42 (zt hL 38 rfl) (zrf hL 45 rfl) ?_
    refine r_iconst X 0 (by decide) dX12_match_44 ?_
    refine r_iaload X dX12_match_45 (zt hL 48 rfl) (vp_in_iff.mpr ⟨by decide, by decide⟩) ?_
    refine r_icmp_ge X 209 dX12_match_46 (by decide) (fun h46 => ?_) (fun h46 => ?_)
    · refine r_iload_n X (by rfl) dX12_match_209 ?_
      refine r_if_ne X 217 dX12_match_210 (by decide) (fun h210 => ?_) (fun h210 => ?_)
      · refine r_iload_n X (by rfl) dX12_match_217 ?_
        refine r_ireturn X hR dX12_match_218 rfl (Nat.zero_le _) (Nat.zero_le _) ?_
        exact ⟨_, rfl, rfl⟩
      · refine r_iload_n X (by rfl) dX12_match_213 ?_
        refine r_goto X 218 dX12_match_214 (by decide) ?_
        refine r_ireturn X hR dX12_match_218 rfl (Nat.zero_le _) (Nat.zero_le _) ?_
        exact ⟨_, rfl, rfl⟩
    · refine r_iconst X 0 (by decide) dX12_match_49 ?_
      refine r_istore X (by decide) dX12_match_50 ?_
      exact zW.loc6 (by rfl) (by rfl) (by rfl) (by rfl) (by rfl) (by rfl) (L52 h46 61 _ _ _ (by decide) (by decide))
  refine r_iload_n X (by rfl) dX12_match_0 ?_
  refine r_i2l X dX12_match_1 ?_
  refine r_lconst X 0 (by decide) dX12_match_2 ?_
  refine r_lconst X 1 (by decide) dX12_match_3 ?_
  refine r_callS X dX12_match_4 zLS_X12_163 zCd_X12_in (c_X12_in _ G z τ ρ _ _ _ _ _) rfl rfl ⟨⟨rfl, rfl⟩, ⟨by decide, by decide⟩, ⟨Nat.le_of_ble_eq_true rfl, Nat.le_of_ble_eq_true rfl⟩, Nat.le_of_ble_eq_true rfl⟩ ?_
  rintro _ _ ⟨rfl, rfl⟩
  rw [Int32.toInt_toInt64, show Int64.toInt 0 = 0 from rfl, show Int64.toInt 1 = 1 from rfl]
  refine r_if_eq X 28 dX12_match_7 (by decide) (fun h7 => ?_) (fun h7 => ?_)
  · refine r_ldc X zK_X12_186 dX12_match_28 ?_
    refine r_ireturn X hR dX12_match_30 rfl (Nat.zero_le _) (Nat.zero_le _) ?_
    exact ⟨_, rfl, rfl⟩
  · refine r_aload_n X (by rfl) dX12_match_10 ?_
    refine r_getR X dX12_match_11 zF_X12_42 (zt hL 38 rfl) (zrf hL 45 rfl) ?_
    refine r_iconst X 0 (by decide) dX12_match_14 ?_
    refine r_iaload X dX12_match_15 (zt hL 48 rfl) (vp_in_iff.mpr ⟨by decide, by decide⟩) ?_
    refine r_if_eq X 28 dX12_match_16 (by decide) (fun h16 => ?_) (fun h16 => ?_)
    · refine r_ldc X zK_X12_186 dX12_match_28 ?_
      refine r_ireturn X hR dX12_match_30 rfl (Nat.zero_le _) (Nat.zero_le _) ?_
      exact ⟨_, rfl, rfl⟩
    · refine r_aload_n X (by rfl) dX12_match_19 ?_
      refine r_getR X dX12_match_20 zF_X12_42 (zt hL 38 rfl) (zrf hL 45 rfl) ?_
      refine r_iconst X 1 (by decide) dX12_match_23 ?_
      refine r_iaload X dX12_match_24 (zt hL 48 rfl) (vp_in_iff.mpr ⟨by decide, by decide⟩) ?_
      refine r_if_ne X 31 dX12_match_25 (by decide) (fun h25 => ?_) (fun h25 => ?_)
      · refine r_iconst X 0 (by decide) dX12_match_31 ?_
        refine r_istore_n X (by decide) dX12_match_32 ?_
        refine r_iconst X 0 (by decide) dX12_match_33 ?_
        refine r_istore_n X (by decide) dX12_match_34 ?_
        refine r_iconst X 0 (by decide) dX12_match_35 ?_
        refine r_istore X (by decide) dX12_match_36 ?_
        exact zW.loc5 (by rfl) (by rfl) (by rfl) (by rfl) (by rfl) (L38 61 _ _ _ (by decide) (by decide))
      · refine r_ldc X zK_X12_186 dX12_match_28 ?_
        refine r_ireturn X hR dX12_match_30 rfl (Nat.zero_le _) (Nat.zero_le _) ?_
        exact ⟨_, rfl, rfl⟩
set_option maxHeartbeats 4000000 in
set_option maxRecDepth 100000 in
theorem c_X12_numberOf (l : Launch) (G : zG) (z : Nat) (τ : Nat → Option (Nat × Nat)) (ρ : Nat → Nat → Option Nat) (ι : Nat → Nat → Int32) (κ : Nat → Nat → Int64) (x y : Int32) (y1 : 1 ≤ y.toInt) : zM l G yX12_numberOf cX12_numberOf 2 (some .long) ({ frames := 0, cells := 0, slots := 0, locals := 0 } : Room) [.int x, .int y] (z, τ, ρ, ι, κ) (fun v s => v = some (.long (zNumM x y)) ∧ s = (z, τ, ρ, ι, κ)) 0 0 := by
  refine zM_of zCd_X12_numberOf (Nat.le_of_ble_eq_true rfl) ?_
  intro E X hR hE
  subst hE
  show zW E G 2 (z, τ, ρ, ι, κ) 0 0 0 [(0, .int x), (1, .int y)] []
  refine r_iload_n X (by rfl) dX12_numberOf_0 ?_
  refine r_if_ne X 12 dX12_numberOf_1 (by decide) (fun h1 => ?_) (fun h1 => ?_)
  · refine r_iload_n X (by rfl) dX12_numberOf_12 ?_
    refine r_iconst X 1 (by decide) dX12_numberOf_13 ?_
    refine r_icmp_ne X 28 dX12_numberOf_14 (by decide) (fun h14 => ?_) (fun h14 => ?_)
    · refine r_iload_n X (by rfl) dX12_numberOf_28 ?_
      refine r_iconst X 2 (by decide) dX12_numberOf_29 ?_
      refine r_icmp_ne X 42 dX12_numberOf_30 (by decide) (fun h30 => ?_) (fun h30 => ?_)
      · refine r_iload_n X (by rfl) dX12_numberOf_42 ?_
        refine r_i2l X dX12_numberOf_43 ?_
        refine r_iload_n X (by rfl) dX12_numberOf_44 ?_
        refine r_iconst X 1 (by decide) dX12_numberOf_45 ?_
        refine r_iadd X dX12_numberOf_46 ?_
        refine r_i2l X dX12_numberOf_47 ?_
        refine r_lmul X dX12_numberOf_48 ?_
        refine r_ldc2 X zK_X12_89 dX12_numberOf_49 ?_
        refine r_ldiv X (by decide) dX12_numberOf_52 ?_
        refine r_lreturn X hR dX12_numberOf_53 (Nat.zero_le _) (Nat.zero_le _) ?_
        exact ⟨by unfold zNumM; first | rw [if_pos (by rw [h1]; rfl)] | rw [if_neg (fun q => h1 (Int32.toInt_inj.mp (by rw [q]; rfl))), if_pos (by rw [h14]; rfl)] | rw [if_neg (fun q => h1 (Int32.toInt_inj.mp (by rw [q]; rfl))), if_neg (fun q => h14 (Int32.toInt_inj.mp (by rw [q]; rfl))), if_pos (by rw [h30]; rfl)] | rw [if_neg (fun q => h1 (Int32.toInt_inj.mp (by rw [q]; rfl))), if_neg (fun q => h14 (Int32.toInt_inj.mp (by rw [q]; rfl))), if_neg (fun q => h30 (Int32.toInt_inj.mp (by rw [q]; rfl)))], rfl⟩
      · refine r_ldc2 X zK_X12_211 dX12_numberOf_33 ?_
        refine r_iload_n X (by rfl) dX12_numberOf_36 ?_
        refine r_i2l X dX12_numberOf_37 ?_
        refine r_ldiv X (zne64 y1) dX12_numberOf_38 ?_
        refine r_goto X 53 dX12_numberOf_39 (by decide) ?_
        refine r_lreturn X hR dX12_numberOf_53 (Nat.zero_le _) (Nat.zero_le _) ?_
        exact ⟨by unfold zNumM; first | rw [if_pos (by rw [h1]; rfl)] | rw [if_neg (fun q => h1 (Int32.toInt_inj.mp (by rw [q]; rfl))), if_pos (by rw [h14]; rfl)] | rw [if_neg (fun q => h1 (Int32.toInt_inj.mp (by rw [q]; rfl))), if_neg (fun q => h14 (Int32.toInt_inj.mp (by rw [q]; rfl))), if_pos (by rw [h30]; rfl)] | rw [if_neg (fun q => h1 (Int32.toInt_inj.mp (by rw [q]; rfl))), if_neg (fun q => h14 (Int32.toInt_inj.mp (by rw [q]; rfl))), if_neg (fun q => h30 (Int32.toInt_inj.mp (by rw [q]; rfl)))], rfl⟩
    · refine r_iload_n X (by rfl) dX12_numberOf_17 ?_
      refine r_i2l X dX12_numberOf_18 ?_
      refine r_iload_n X (by rfl) dX12_numberOf_19 ?_
      refine r_i2l X dX12_numberOf_20 ?_
      refine r_lmul X dX12_numberOf_21 ?_
      refine r_iload_n X (by rfl) dX12_numberOf_22 ?_
      refine r_i2l X dX12_numberOf_23 ?_
      refine r_lmul X dX12_numberOf_24 ?_
      refine r_goto X 53 dX12_numberOf_25 (by decide) ?_
      refine r_lreturn X hR dX12_numberOf_53 (Nat.zero_le _) (Nat.zero_le _) ?_
      exact ⟨by unfold zNumM; first | rw [if_pos (by rw [h1]; rfl)] | rw [if_neg (fun q => h1 (Int32.toInt_inj.mp (by rw [q]; rfl))), if_pos (by rw [h14]; rfl)] | rw [if_neg (fun q => h1 (Int32.toInt_inj.mp (by rw [q]; rfl))), if_neg (fun q => h14 (Int32.toInt_inj.mp (by rw [q]; rfl))), if_pos (by rw [h30]; rfl)] | rw [if_neg (fun q => h1 (Int32.toInt_inj.mp (by rw [q]; rfl))), if_neg (fun q => h14 (Int32.toInt_inj.mp (by rw [q]; rfl))), if_neg (fun q => h30 (Int32.toInt_inj.mp (by rw [q]; rfl)))], rfl⟩
  · refine r_iload_n X (by rfl) dX12_numberOf_4 ?_
    refine r_i2l X dX12_numberOf_5 ?_
    refine r_iload_n X (by rfl) dX12_numberOf_6 ?_
    refine r_i2l X dX12_numberOf_7 ?_
    refine r_lmul X dX12_numberOf_8 ?_
    refine r_goto X 53 dX12_numberOf_9 (by decide) ?_
    refine r_lreturn X hR dX12_numberOf_53 (Nat.zero_le _) (Nat.zero_le _) ?_
    exact ⟨by unfold zNumM; first | rw [if_pos (by rw [h1]; rfl)] | rw [if_neg (fun q => h1 (Int32.toInt_inj.mp (by rw [q]; rfl))), if_pos (by rw [h14]; rfl)] | rw [if_neg (fun q => h1 (Int32.toInt_inj.mp (by rw [q]; rfl))), if_neg (fun q => h14 (Int32.toInt_inj.mp (by rw [q]; rfl))), if_pos (by rw [h30]; rfl)] | rw [if_neg (fun q => h1 (Int32.toInt_inj.mp (by rw [q]; rfl))), if_neg (fun q => h14 (Int32.toInt_inj.mp (by rw [q]; rfl))), if_neg (fun q => h30 (Int32.toInt_inj.mp (by rw [q]; rfl)))], rfl⟩
set_option maxHeartbeats 4000000 in
set_option maxRecDepth 100000 in
theorem c_X12_lawPlace (l : Launch) (G : zG) (z : Nat) (τ : Nat → Option (Nat × Nat)) (ρ : Nat → Nat → Option Nat) (ι : Nat → Nat → Int32) (κ : Nat → Nat → Int64) {B c : Nat} (hL : zLay τ ρ B c) (x y : Int32) (hx : 0 ≤ x.toInt ∧ x.toInt ≤ 3) (hy : 1 ≤ y.toInt ∧ y.toInt ≤ 60) : zM l G yX12_lawPlace cX12_lawPlace 7 (some .int) ({ frames := 1, cells := 0, slots := 0, locals := 23 } : Room) [.ref (B + 38), .int x, .int y] (z, τ, ρ, ι, κ) (fun v s => v = some (.int (zPlM x y (ι (B + 38) 0))) ∧ s = (z, τ, ρ, ι, κ)) 0 0 := by
  refine zM_of zCd_X12_lawPlace (Nat.le_of_ble_eq_true rfl) ?_
  intro E X hR hE
  subst hE
  show zW E G 7 (z, τ, ρ, ι, κ) 0 0 0 [(0, .ref (B + 38)), (1, .int x), (2, .int y)] []
  refine r_iload_n X (by rfl) dX12_lawPlace_0 ?_
  refine r_iload_n X (by rfl) dX12_lawPlace_1 ?_
  refine r_iconst X 2 (by decide) dX12_lawPlace_2 ?_
  refine r_icmp_ne X 11 dX12_lawPlace_3 (by decide) (fun h3 => ?_) (fun h3 => ?_)
  · have hne := zlw_B hx.1 hx.2 h3
    refine r_iconst X 1 (by decide) dX12_lawPlace_11 ?_
    refine r_callS X dX12_lawPlace_12 zLS_X12_265 zCd_X12_numberOf (c_X12_numberOf _ G z τ ρ _ _ _ _ (by decide)) rfl rfl ⟨⟨rfl, rfl⟩, ⟨by decide, by decide⟩, ⟨Nat.le_of_ble_eq_true rfl, Nat.le_of_ble_eq_true rfl⟩, Nat.le_of_ble_eq_true rfl⟩ ?_
    rintro _ _ ⟨rfl, rfl⟩
    refine r_lstore_n X (by decide) dX12_lawPlace_15 ?_
    refine r_iload_n X (by rfl) dX12_lawPlace_16 ?_
    refine r_iload_n X (by rfl) dX12_lawPlace_17 ?_
    refine r_iconst X 2 (by decide) dX12_lawPlace_18 ?_
    refine r_icmp_ne X 26 dX12_lawPlace_19 (by decide) (fun h19 => ?_) (fun h19 => ?_)
    · refine r_bipush X 60 (by decide) dX12_lawPlace_26 ?_
      refine r_callS X dX12_lawPlace_28 zLS_X12_265 zCd_X12_numberOf (c_X12_numberOf _ G z τ ρ _ _ _ _ (by decide)) rfl rfl ⟨⟨rfl, rfl⟩, ⟨by decide, by decide⟩, ⟨Nat.le_of_ble_eq_true rfl, Nat.le_of_ble_eq_true rfl⟩, Nat.le_of_ble_eq_true rfl⟩ ?_
      rintro _ _ ⟨rfl, rfl⟩
      refine r_lstore X (by decide) dX12_lawPlace_31 ?_
      refine r_ldc2 X zK_X12_89 dX12_lawPlace_33 ?_
      refine r_iload_n X (by rfl) dX12_lawPlace_36 ?_
      refine r_iload_n X (by rfl) dX12_lawPlace_37 ?_
      refine r_callS X dX12_lawPlace_38 zLS_X12_265 zCd_X12_numberOf (c_X12_numberOf _ G z τ ρ _ _ _ _ hy.1) rfl rfl ⟨⟨rfl, rfl⟩, ⟨by decide, by decide⟩, ⟨Nat.le_of_ble_eq_true rfl, Nat.le_of_ble_eq_true rfl⟩, Nat.le_of_ble_eq_true rfl⟩ ?_
      rintro _ _ ⟨rfl, rfl⟩
      refine r_lload_n X (by rfl) dX12_lawPlace_41 ?_
      refine r_lsub X dX12_lawPlace_42 ?_
      refine r_lmul X dX12_lawPlace_43 ?_
      refine r_aload_n X (by rfl) dX12_lawPlace_44 ?_
      refine r_getI X dX12_lawPlace_45 zF_X12_7 (zt hL 38 rfl) ?_
      refine r_i2l X dX12_lawPlace_48 ?_
      refine r_lmul X dX12_lawPlace_49 ?_
      refine r_lload X (by rfl) dX12_lawPlace_50 ?_
      refine r_ladd X dX12_lawPlace_52 ?_
      refine r_lload_n X (by rfl) dX12_lawPlace_53 ?_
      refine r_lsub X dX12_lawPlace_54 ?_
      refine r_ldc2 X zK_X12_89 dX12_lawPlace_55 ?_
      refine r_lload X (by rfl) dX12_lawPlace_58 ?_
      refine r_lload_n X (by rfl) dX12_lawPlace_60 ?_
      refine r_lsub X dX12_lawPlace_61 ?_
      refine r_lmul X dX12_lawPlace_62 ?_
      refine r_callS X dX12_lawPlace_63 zLS_X12_130 zCd_X12_down (c_X12_down _ G z τ ρ _ _ _ _ hne) rfl rfl ⟨⟨rfl, rfl⟩, ⟨by decide, by decide⟩, ⟨Nat.le_of_ble_eq_true rfl, Nat.le_of_ble_eq_true rfl⟩, Nat.le_of_ble_eq_true rfl⟩ ?_
      rintro _ _ ⟨rfl, rfl⟩
      refine r_l2i X dX12_lawPlace_66 ?_
      refine r_ireturn X hR dX12_lawPlace_67 rfl (Nat.zero_le _) (Nat.zero_le _) ?_
      exact ⟨by unfold zPlM; first | rw [if_pos h3] | rw [if_neg h3], rfl⟩
    · exact absurd h19 h3
  · have hne := zlw_A h3
    refine r_bipush X 60 (by decide) dX12_lawPlace_6 ?_
    refine r_goto X 12 dX12_lawPlace_8 (by decide) ?_
    refine r_callS X dX12_lawPlace_12 zLS_X12_265 zCd_X12_numberOf (c_X12_numberOf _ G z τ ρ _ _ _ _ (by decide)) rfl rfl ⟨⟨rfl, rfl⟩, ⟨by decide, by decide⟩, ⟨Nat.le_of_ble_eq_true rfl, Nat.le_of_ble_eq_true rfl⟩, Nat.le_of_ble_eq_true rfl⟩ ?_
    rintro _ _ ⟨rfl, rfl⟩
    refine r_lstore_n X (by decide) dX12_lawPlace_15 ?_
    refine r_iload_n X (by rfl) dX12_lawPlace_16 ?_
    refine r_iload_n X (by rfl) dX12_lawPlace_17 ?_
    refine r_iconst X 2 (by decide) dX12_lawPlace_18 ?_
    refine r_icmp_ne X 26 dX12_lawPlace_19 (by decide) (fun h19 => ?_) (fun h19 => ?_)
    · exact absurd h3 h19
    · refine r_iconst X 1 (by decide) dX12_lawPlace_22 ?_
      refine r_goto X 28 dX12_lawPlace_23 (by decide) ?_
      refine r_callS X dX12_lawPlace_28 zLS_X12_265 zCd_X12_numberOf (c_X12_numberOf _ G z τ ρ _ _ _ _ (by decide)) rfl rfl ⟨⟨rfl, rfl⟩, ⟨by decide, by decide⟩, ⟨Nat.le_of_ble_eq_true rfl, Nat.le_of_ble_eq_true rfl⟩, Nat.le_of_ble_eq_true rfl⟩ ?_
      rintro _ _ ⟨rfl, rfl⟩
      refine r_lstore X (by decide) dX12_lawPlace_31 ?_
      refine r_ldc2 X zK_X12_89 dX12_lawPlace_33 ?_
      refine r_iload_n X (by rfl) dX12_lawPlace_36 ?_
      refine r_iload_n X (by rfl) dX12_lawPlace_37 ?_
      refine r_callS X dX12_lawPlace_38 zLS_X12_265 zCd_X12_numberOf (c_X12_numberOf _ G z τ ρ _ _ _ _ hy.1) rfl rfl ⟨⟨rfl, rfl⟩, ⟨by decide, by decide⟩, ⟨Nat.le_of_ble_eq_true rfl, Nat.le_of_ble_eq_true rfl⟩, Nat.le_of_ble_eq_true rfl⟩ ?_
      rintro _ _ ⟨rfl, rfl⟩
      refine r_lload_n X (by rfl) dX12_lawPlace_41 ?_
      refine r_lsub X dX12_lawPlace_42 ?_
      refine r_lmul X dX12_lawPlace_43 ?_
      refine r_aload_n X (by rfl) dX12_lawPlace_44 ?_
      refine r_getI X dX12_lawPlace_45 zF_X12_7 (zt hL 38 rfl) ?_
      refine r_i2l X dX12_lawPlace_48 ?_
      refine r_lmul X dX12_lawPlace_49 ?_
      refine r_lload X (by rfl) dX12_lawPlace_50 ?_
      refine r_ladd X dX12_lawPlace_52 ?_
      refine r_lload_n X (by rfl) dX12_lawPlace_53 ?_
      refine r_lsub X dX12_lawPlace_54 ?_
      refine r_ldc2 X zK_X12_89 dX12_lawPlace_55 ?_
      refine r_lload X (by rfl) dX12_lawPlace_58 ?_
      refine r_lload_n X (by rfl) dX12_lawPlace_60 ?_
      refine r_lsub X dX12_lawPlace_61 ?_
      refine r_lmul X dX12_lawPlace_62 ?_
      refine r_callS X dX12_lawPlace_63 zLS_X12_130 zCd_X12_down (c_X12_down _ G z τ ρ _ _ _ _ hne) rfl rfl ⟨⟨rfl, rfl⟩, ⟨by decide, by decide⟩, ⟨Nat.le_of_ble_eq_true rfl, Nat.le_of_ble_eq_true rfl⟩, Nat.le_of_ble_eq_true rfl⟩ ?_
      rintro _ _ ⟨rfl, rfl⟩
      refine r_l2i X dX12_lawPlace_66 ?_
      refine r_ireturn X hR dX12_lawPlace_67 rfl (Nat.zero_le _) (Nat.zero_le _) ?_
      exact ⟨by unfold zPlM; first | rw [if_pos h3] | rw [if_neg h3], rfl⟩
set_option maxHeartbeats 4000000 in
set_option maxRecDepth 100000 in
theorem c_X12_law (l : Launch) (G : zG) (z : Nat) (τ : Nat → Option (Nat × Nat)) (ρ : Nat → Nat → Option Nat) (ι : Nat → Nat → Int32) (κ : Nat → Nat → Int64) {B c : Nat} (hL : zLay τ ρ B c) (x y : Int32) : zM l G yX12_law cX12_law 3 (some .int) ({ frames := 2, cells := 0, slots := 0, locals := 49 } : Room) [.ref (B + 38), .int x, .int y] (z, τ, ρ, ι, κ) (fun v s => v = some (.int (if (0 ≤ x.toInt ∧ x.toInt ≤ 3) ∧ 1 ≤ y.toInt ∧ y.toInt ≤ 60 then zPlM x y (ι (B + 38) 0) else -2)) ∧ s = (z, τ, ρ, ι, κ)) 0 0 := by
  refine zM_of zCd_X12_law (Nat.le_of_ble_eq_true rfl) ?_
  intro E X hR hE
  subst hE
  show zW E G 3 (z, τ, ρ, ι, κ) 0 0 0 [(0, .ref (B + 38)), (1, .int x), (2, .int y)] []
  refine r_iload_n X (by rfl) dX12_law_0 ?_
  refine r_i2l X dX12_law_1 ?_
  refine r_lconst X 0 (by decide) dX12_law_2 ?_
  refine r_ldc2 X zK_X12_171 dX12_law_3 ?_
  refine r_callS X dX12_law_6 zLS_X12_163 zCd_X12_in (c_X12_in _ G z τ ρ _ _ _ _ _) rfl rfl ⟨⟨rfl, rfl⟩, ⟨by decide, by decide⟩, ⟨Nat.le_of_ble_eq_true rfl, Nat.le_of_ble_eq_true rfl⟩, Nat.le_of_ble_eq_true rfl⟩ ?_
  rintro _ _ ⟨rfl, rfl⟩
  rw [Int32.toInt_toInt64, show Int64.toInt 0 = 0 from rfl, show Int64.toInt 3 = 3 from rfl]
  refine r_if_eq X 33 dX12_law_9 (by decide) (fun h9 => ?_) (fun h9 => ?_)
  · refine r_bipush X (-2) (by decide) dX12_law_33 ?_
    refine r_ireturn X hR dX12_law_35 rfl (Nat.zero_le _) (Nat.zero_le _) ?_
    refine ⟨congrArg (fun q => some (Value.int q)) (Eq.symm ?_), rfl⟩
    first | exact if_pos ⟨zif1 h9, zif1 h21⟩ | exact if_neg (fun q => zif0 h9 q.1) | exact if_neg (fun q => zif0 h21 q.2)
  · refine r_iload_n X (by rfl) dX12_law_12 ?_
    refine r_i2l X dX12_law_13 ?_
    refine r_lconst X 1 (by decide) dX12_law_14 ?_
    refine r_ldc2 X zK_X12_269 dX12_law_15 ?_
    refine r_callS X dX12_law_18 zLS_X12_163 zCd_X12_in (c_X12_in _ G z τ ρ _ _ _ _ _) rfl rfl ⟨⟨rfl, rfl⟩, ⟨by decide, by decide⟩, ⟨Nat.le_of_ble_eq_true rfl, Nat.le_of_ble_eq_true rfl⟩, Nat.le_of_ble_eq_true rfl⟩ ?_
    rintro _ _ ⟨rfl, rfl⟩
    rw [Int32.toInt_toInt64, show Int64.toInt 1 = 1 from rfl, show Int64.toInt 60 = 60 from rfl]
    refine r_if_eq X 33 dX12_law_21 (by decide) (fun h21 => ?_) (fun h21 => ?_)
    · refine r_bipush X (-2) (by decide) dX12_law_33 ?_
      refine r_ireturn X hR dX12_law_35 rfl (Nat.zero_le _) (Nat.zero_le _) ?_
      refine ⟨congrArg (fun q => some (Value.int q)) (Eq.symm ?_), rfl⟩
      first | exact if_pos ⟨zif1 h9, zif1 h21⟩ | exact if_neg (fun q => zif0 h9 q.1) | exact if_neg (fun q => zif0 h21 q.2)
    · refine r_aload_n X (by rfl) dX12_law_24 ?_
      refine r_iload_n X (by rfl) dX12_law_25 ?_
      refine r_iload_n X (by rfl) dX12_law_26 ?_
      refine r_callV X dX12_law_27 zLV_X12_271 zCd_X12_lawPlace (c_X12_lawPlace _ G z τ ρ _ _ hL _ _ (zif1 h9) (zif1 h21)) (zt hL 38 rfl) ⟨by decide, rfl, rfl⟩ rfl rfl ⟨⟨rfl, rfl⟩, ⟨by decide, by decide⟩, ⟨Nat.le_of_ble_eq_true rfl, Nat.le_of_ble_eq_true rfl⟩, Nat.le_of_ble_eq_true rfl⟩ ?_
      rintro _ _ ⟨rfl, rfl⟩
      refine r_goto X 35 dX12_law_30 (by decide) ?_
      refine r_ireturn X hR dX12_law_35 rfl (Nat.zero_le _) (Nat.zero_le _) ?_
      refine ⟨congrArg (fun q => some (Value.int q)) (Eq.symm ?_), rfl⟩
      first | exact if_pos ⟨zif1 h9, zif1 h21⟩ | exact if_neg (fun q => zif0 h9 q.1) | exact if_neg (fun q => zif0 h21 q.2)
set_option maxHeartbeats 4000000 in
set_option maxRecDepth 100000 in
theorem c_X12_doubled (l : Launch) (G : zG) (z : Nat) (τ : Nat → Option (Nat × Nat)) (ρ : Nat → Nat → Option Nat) (ι : Nat → Nat → Int32) (κ : Nat → Nat → Int64) {B c : Nat} (hL : zLay τ ρ B c) (x : Int32) : zM l G yX12_doubled cX12_doubled 7 (some .int) ({ frames := 2, cells := 0, slots := 0, locals := 49 } : Room) [.ref (B + 38), .int x] (z, τ, ρ, ι, κ) (fun v s => ∃ r ι2 κ2, v = some (.int r) ∧ s = (z, τ, ρ, ι2, κ2) ∧ zFm B ι ι2) 0 0 := by
  refine zM_of zCd_X12_doubled (Nat.le_of_ble_eq_true rfl) ?_
  intro E X hR hE
  subst hE
  show zW E G 7 (z, τ, ρ, ι, κ) 0 0 0 [(0, .ref (B + 38)), (1, .int x)] []
  have L45 : ∀ (ι1 : Nat → Nat → Int32), zFm B ι ι1 → ∀ (m : Nat) (i p : Int32), (61 - i.toInt).toNat < m → 1 ≤ i.toInt → zW E G 7 (z, τ, ρ, ι1, κ) 0 0 45 [(0, .ref (B + 38)), (1, .int x), (2, .int p), (3, .int i)] [] := by
    intro ι1 hf m
    induction m with
    | zero => intro i p h; omega
    | succ m ih => ?_
    intro i p hm h0
    have L56 : ∀ (hi : i.toInt ≤ 60) (m2 : Nat) (j p : Int32), (62 - j.toInt).toNat < m2 → 1 ≤ j.toInt → zW E G 7 (z, τ, ρ, ι1, κ) 0 0 56 [(0, .ref (B + 38)), (1, .int x), (2, .int p), (3, .int i), (4, .int j)] [] := by
      intro hi m2
      induction m2 with
      | zero => intro j p h; omega
      | succ m2 ih2 => ?_
      intro j p hm2 hj0
      have L69 : ∀ (hj : j.toInt ≤ 60) (m3 : Nat) (k q : Int32), (61 - k.toInt).toNat < m3 → 1 ≤ k.toInt → zW E G 7 (z, τ, ρ, ι1, κ) 0 0 69 [(0, .ref (B + 38)), (1, .int x), (2, .int p), (3, .int i), (4, .int j), (5, .int q), (6, .int k)] [] := by
        intro hj m3
        induction m3 with
        | zero => intro k q h; omega
        | succ m3 ih3 => ?_
        intro k q hm3 hk0
        refine r_iload X (by rfl) dX12_doubled_69 ?_
        refine r_bipush X 60 (by decide) dX12_doubled_71 ?_
        refine r_icmp_gt X 118 dX12_doubled_73 (by decide) (fun h73 => ?_) (fun h73 => ?_)
        · rw [show Int32.toInt 60 = 60 from rfl] at h73
          refine r_iload_n X (by rfl) dX12_doubled_118 ?_
          refine r_iload X (by rfl) dX12_doubled_119 ?_
          refine r_if_eq X 128 dX12_doubled_121 (by decide) (fun h121 => ?_) (fun h121 => ?_)
          · refine r_iconst X 0 (by decide) dX12_doubled_128 ?_
            refine r_iadd X dX12_doubled_129 ?_
            refine r_istore_n X (by decide) dX12_doubled_130 ?_
            refine r_iinc X 1 (by decide) (by rfl) (by decide) dX12_doubled_131 ?_
            refine r_goto X 56 dX12_doubled_134 (by decide) ?_
            exact zW.loc5 (by rfl) (by rfl) (by rfl) (by rfl) (by rfl) (ih2 _ _ (by have e := zinc (x := j) (by omega); omega) (by have e := zinc (x := j) (by omega); omega))
          · refine r_iconst X 1 (by decide) dX12_doubled_124 ?_
            refine r_goto X 129 dX12_doubled_125 (by decide) ?_
            refine r_iadd X dX12_doubled_129 ?_
            refine r_istore_n X (by decide) dX12_doubled_130 ?_
            refine r_iinc X 1 (by decide) (by rfl) (by decide) dX12_doubled_131 ?_
            refine r_goto X 56 dX12_doubled_134 (by decide) ?_
            exact zW.loc5 (by rfl) (by rfl) (by rfl) (by rfl) (by rfl) (ih2 _ _ (by have e := zinc (x := j) (by omega); omega) (by have e := zinc (x := j) (by omega); omega))
        · rw [show Int32.toInt 60 = 60 from rfl] at h73
          refine r_iload X (by rfl) dX12_doubled_76 ?_
          refine r_if_ne X 105 dX12_doubled_78 (by decide) (fun h78 => ?_) (fun h78 => ?_)
          · refine r_iconst X 1 (by decide) dX12_doubled_105 ?_
            refine r_goto X 110 dX12_doubled_106 (by decide) ?_
            refine r_istore X (by decide) dX12_doubled_110 ?_
            refine r_iinc X 1 (by decide) (by rfl) (by decide) dX12_doubled_112 ?_
            refine r_goto X 69 dX12_doubled_115 (by decide) ?_
            exact zW.loc7 (by rfl) (by rfl) (by rfl) (by rfl) (by rfl) (by rfl) (by rfl) (ih3 _ _ (by have e := zinc (x := k) (by omega); omega) (by have e := zinc (x := k) (by omega); omega))
          · refine r_aload_n X (by rfl) dX12_doubled_81 ?_
            refine r_getR X dX12_doubled_82 zF_X12_86 (zt hL 38 rfl) (zrf hL 59 rfl) ?_
            refine r_iload X (by rfl) dX12_doubled_85 ?_
            refine r_iaload X dX12_doubled_87 (zt hL 62 rfl) (vp_in_iff.mpr ⟨by omega, by omega⟩) ?_
            refine r_aload_n X (by rfl) dX12_doubled_88 ?_
            refine r_getR X dX12_doubled_89 zF_X12_86 (zt hL 38 rfl) (zrf hL 59 rfl) ?_
            refine r_iload_n X (by rfl) dX12_doubled_92 ?_
            refine r_iaload X dX12_doubled_93 (zt hL 62 rfl) (vp_in_iff.mpr ⟨by omega, by omega⟩) ?_
            refine r_aload_n X (by rfl) dX12_doubled_94 ?_
            refine r_getR X dX12_doubled_95 zF_X12_86 (zt hL 38 rfl) (zrf hL 59 rfl) ?_
            refine r_iload X (by rfl) dX12_doubled_98 ?_
            refine r_iaload X dX12_doubled_100 (zt hL 62 rfl) (vp_in_iff.mpr ⟨by omega, by omega⟩) ?_
            refine r_iadd X dX12_doubled_101 ?_
            refine r_icmp_ne X 109 dX12_doubled_102 (by decide) (fun h102 => ?_) (fun h102 => ?_)
            · refine r_iconst X 0 (by decide) dX12_doubled_109 ?_
              refine r_istore X (by decide) dX12_doubled_110 ?_
              refine r_iinc X 1 (by decide) (by rfl) (by decide) dX12_doubled_112 ?_
              refine r_goto X 69 dX12_doubled_115 (by decide) ?_
              exact zW.loc7 (by rfl) (by rfl) (by rfl) (by rfl) (by rfl) (by rfl) (by rfl) (ih3 _ _ (by have e := zinc (x := k) (by omega); omega) (by have e := zinc (x := k) (by omega); omega))
            · refine r_iconst X 1 (by decide) dX12_doubled_105 ?_
              refine r_goto X 110 dX12_doubled_106 (by decide) ?_
              refine r_istore X (by decide) dX12_doubled_110 ?_
              refine r_iinc X 1 (by decide) (by rfl) (by decide) dX12_doubled_112 ?_
              refine r_goto X 69 dX12_doubled_115 (by decide) ?_
              exact zW.loc7 (by rfl) (by rfl) (by rfl) (by rfl) (by rfl) (by rfl) (by rfl) (ih3 _ _ (by have e := zinc (x := k) (by omega); omega) (by have e := zinc (x := k) (by omega); omega))
      refine r_iload X (by rfl) dX12_doubled_56 ?_
      refine r_bipush X 60 (by decide) dX12_doubled_58 ?_
      refine r_icmp_gt X 137 dX12_doubled_60 (by decide) (fun h60 => ?_) (fun h60 => ?_)
      · rw [show Int32.toInt 60 = 60 from rfl] at h60
        refine r_iinc X 1 (by decide) (by rfl) (by decide) dX12_doubled_137 ?_
        refine r_goto X 45 dX12_doubled_140 (by decide) ?_
        exact zW.loc4 (by rfl) (by rfl) (by rfl) (by rfl) (ih _ _ (by have e := zinc (x := i) (by omega); omega) (by have e := zinc (x := i) (by omega); omega))
      · rw [show Int32.toInt 60 = 60 from rfl] at h60
        refine r_iconst X 0 (by decide) dX12_doubled_63 ?_
        refine r_istore X (by decide) dX12_doubled_64 ?_
        refine r_iconst X 1 (by decide) dX12_doubled_66 ?_
        refine r_istore X (by decide) dX12_doubled_67 ?_
        exact zW.loc7 (by rfl) (by rfl) (by rfl) (by rfl) (by rfl) (by rfl) (by rfl) (L69 h60 61 _ _ (by decide) (by decide))
    refine r_iload_n X (by rfl) dX12_doubled_45 ?_
    refine r_bipush X 60 (by decide) dX12_doubled_46 ?_
    refine r_icmp_gt X 143 dX12_doubled_48 (by decide) (fun h48 => ?_) (fun h48 => ?_)
    · rw [show Int32.toInt 60 = 60 from rfl] at h48
      refine r_iload_n X (by rfl) dX12_doubled_143 ?_
      refine r_ireturn X hR dX12_doubled_144 rfl (Nat.zero_le _) (Nat.zero_le _) ?_
      exact ⟨_, _, _, rfl, rfl, hf⟩
    · rw [show Int32.toInt 60 = 60 from rfl] at h48
      refine r_iload_n X (by rfl) dX12_doubled_51 ?_
      refine r_iconst X 1 (by decide) dX12_doubled_52 ?_
      refine r_iadd X dX12_doubled_53 ?_
      refine r_istore X (by decide) dX12_doubled_54 ?_
      exact zW.loc5 (by rfl) (by rfl) (by rfl) (by rfl) (by rfl) (L56 h48 63 _ _ (by have e := zinc (x := i) (by omega); omega) (by have e := zinc (x := i) (by omega); omega))
  have L17 : ∀ (hx : 0 ≤ x.toInt ∧ x.toInt ≤ 3) (m : Nat) (i : Int32) (ι1 : Nat → Nat → Int32), (61 - i.toInt).toNat < m → 1 ≤ i.toInt → zFm B ι ι1 → zW E G 7 (z, τ, ρ, ι1, κ) 0 0 17 [(0, .ref (B + 38)), (1, .int x), (2, .int i)] [] := by
    intro hx m
    induction m with
    | zero => intro i ι1 h; omega
    | succ m ih => ?_
    intro i ι1 hm h0 hf
    refine r_iload_n X (by rfl) dX12_doubled_17 ?_
    refine r_bipush X 60 (by decide) dX12_doubled_18 ?_
    refine r_icmp_gt X 41 dX12_doubled_20 (by decide) (fun h20 => ?_) (fun h20 => ?_)
    · rw [show Int32.toInt 60 = 60 from rfl] at h20
      refine r_iconst X 0 (by decide) dX12_doubled_41 ?_
      refine r_istore_n X (by decide) dX12_doubled_42 ?_
      refine r_iconst X 1 (by decide) dX12_doubled_43 ?_
      refine r_istore_n X (by decide) dX12_doubled_44 ?_
      exact zW.loc4 (by rfl) (by rfl) (by rfl) (by rfl) (L45 _ hf 61 _ _ (by decide) (by decide))
    · rw [show Int32.toInt 60 = 60 from rfl] at h20
      refine r_aload_n X (by rfl) dX12_doubled_23 ?_
      refine r_getR X dX12_doubled_24 zF_X12_86 (zt hL 38 rfl) (zrf hL 59 rfl) ?_
      refine r_iload_n X (by rfl) dX12_doubled_27 ?_
      refine r_aload_n X (by rfl) dX12_doubled_28 ?_
      refine r_iload_n X (by rfl) dX12_doubled_29 ?_
      refine r_iload_n X (by rfl) dX12_doubled_30 ?_
      refine r_callV X dX12_doubled_31 zLV_X12_271 zCd_X12_lawPlace (c_X12_lawPlace _ G z τ ρ _ _ hL _ _ hx ⟨h0, by omega⟩) (zt hL 38 rfl) ⟨by decide, rfl, rfl⟩ rfl rfl ⟨⟨rfl, rfl⟩, ⟨by decide, by decide⟩, ⟨Nat.le_of_ble_eq_true rfl, Nat.le_of_ble_eq_true rfl⟩, Nat.le_of_ble_eq_true rfl⟩ ?_
      rintro _ _ ⟨rfl, rfl⟩
      refine r_iastore X dX12_doubled_34 (zt hL 62 rfl) (vp_in_iff.mpr ⟨by omega, by omega⟩) ?_
      refine r_iinc X 1 (by decide) (by rfl) (by decide) dX12_doubled_35 ?_
      refine r_goto X 17 dX12_doubled_38 (by decide) ?_
      exact zW.loc3 (by rfl) (by rfl) (by rfl) (ih _ _ (by have e := zinc (x := i) (by omega); omega) (by have e := zinc (x := i) (by omega); omega) (hf.u (by unfold zCm; omega)))
  refine r_iload_n X (by rfl) dX12_doubled_0 ?_
  refine r_i2l X dX12_doubled_1 ?_
  refine r_lconst X 0 (by decide) dX12_doubled_2 ?_
  refine r_ldc2 X zK_X12_171 dX12_doubled_3 ?_
  refine r_callS X dX12_doubled_6 zLS_X12_163 zCd_X12_in (c_X12_in _ G z τ ρ _ _ _ _ _) rfl rfl ⟨⟨rfl, rfl⟩, ⟨by decide, by decide⟩, ⟨Nat.le_of_ble_eq_true rfl, Nat.le_of_ble_eq_true rfl⟩, Nat.le_of_ble_eq_true rfl⟩ ?_
  rintro _ _ ⟨rfl, rfl⟩
  rw [Int32.toInt_toInt64, show Int64.toInt 0 = 0 from rfl, show Int64.toInt 3 = 3 from rfl]
  refine r_if_ne X 15 dX12_doubled_9 (by decide) (fun h9 => ?_) (fun h9 => ?_)
  · refine r_iconst X 1 (by decide) dX12_doubled_15 ?_
    refine r_istore_n X (by decide) dX12_doubled_16 ?_
    exact zW.loc3 (by rfl) (by rfl) (by rfl) (L17 (zif1 h9) 61 _ _ (by decide) (by decide) zFm.rfl)
  · refine r_bipush X (-2) (by decide) dX12_doubled_12 ?_
    refine r_ireturn X hR dX12_doubled_14 rfl (Nat.zero_le _) (Nat.zero_le _) ?_
    exact ⟨_, _, _, rfl, rfl, zFm.rfl⟩
set_option maxHeartbeats 4000000 in
set_option maxRecDepth 100000 in
theorem c_X12_count (l : Launch) (G : zG) (z : Nat) (τ : Nat → Option (Nat × Nat)) (ρ : Nat → Nat → Option Nat) (ι : Nat → Nat → Int32) (κ : Nat → Nat → Int64) {B c : Nat} (hL : zLay τ ρ B c) (hJ : zJ B c ι) (x : Int32) : zM l G yX12_count cX12_count 4 (some .int) ({ frames := 0, cells := 0, slots := 0, locals := 0 } : Room) [.ref (B + 38), .int x] (z, τ, ρ, ι, κ) (fun v s => ∃ r, v = some (.int r) ∧ s = (z, τ, ρ, ι, κ)) 0 0 := by
  refine zM_of zCd_X12_count (Nat.le_of_ble_eq_true rfl) ?_
  intro E X hR hE
  subst hE
  show zW E G 4 (z, τ, ρ, ι, κ) 0 0 0 [(0, .ref (B + 38)), (1, .int x)] []
  obtain ⟨h8, hJc, hm1, hm2, hm3, hm4, hm5⟩ := id hJ
  have L4 : ∀ (m : Nat) (i p : Int32), (8 - i.toInt).toNat < m → 0 ≤ i.toInt → zW E G 4 (z, τ, ρ, ι, κ) 0 0 4 [(0, .ref (B + 38)), (1, .int x), (2, .int p), (3, .int i)] [] := by
    intro m
    induction m with
    | zero => intro i p h; omega
    | succ m ih => ?_
    intro i p hm h0
    refine r_iload_n X (by rfl) dX12_count_4 ?_
    refine r_aload_n X (by rfl) dX12_count_5 ?_
    refine r_getI X dX12_count_6 zF_X12_160 (zt hL 38 rfl) ?_
    refine r_icmp_ge X 35 dX12_count_9 (by decide) (fun h9 => ?_) (fun h9 => ?_)
    · refine r_iload_n X (by rfl) dX12_count_35 ?_
      have hsw : x.toInt = 0 + 0 ∨ x.toInt = 0 + 1 ∨ x.toInt = 0 + 2 ∨ x.toInt = 0 + 3 ∨ x.toInt = 0 + 4 ∨ x.toInt = 0 + 5 ∨ x.toInt = 0 + 6 ∨ (x.toInt < 0 ∨ 6 < x.toInt) := by omega
      rcases hsw with hs | hs | hs | hs | hs | hs | hs | hs
      · refine r_tableIn X (j0 := 0) 80 dX12_count_36 hs rfl (by decide) (by decide) (by decide) ?_
        refine r_aload_n X (by rfl) dX12_count_80 ?_
        refine r_getI X dX12_count_81 zF_X12_160 (zt hL 38 rfl) ?_
        refine r_ireturn X hR dX12_count_84 rfl (Nat.zero_le _) (Nat.zero_le _) ?_
        exact ⟨_, rfl, rfl⟩
      · refine r_tableIn X (j0 := 1) 85 dX12_count_36 hs rfl (by decide) (by decide) (by decide) ?_
        refine r_iload_n X (by rfl) dX12_count_85 ?_
        refine r_ireturn X hR dX12_count_86 rfl (Nat.zero_le _) (Nat.zero_le _) ?_
        exact ⟨_, rfl, rfl⟩
      · refine r_tableIn X (j0 := 2) 87 dX12_count_36 hs rfl (by decide) (by decide) (by decide) ?_
        refine r_aload_n X (by rfl) dX12_count_87 ?_
        refine r_getI X dX12_count_88 zF_X12_206 (zt hL 38 rfl) ?_
        refine r_ireturn X hR dX12_count_91 rfl (Nat.zero_le _) (Nat.zero_le _) ?_
        exact ⟨_, rfl, rfl⟩
      · refine r_tableIn X (j0 := 3) 92 dX12_count_36 hs rfl (by decide) (by decide) (by decide) ?_
        refine r_aload_n X (by rfl) dX12_count_92 ?_
        refine r_getI X dX12_count_93 zF_X12_218 (zt hL 38 rfl) ?_
        refine r_ireturn X hR dX12_count_96 rfl (Nat.zero_le _) (Nat.zero_le _) ?_
        exact ⟨_, rfl, rfl⟩
      · refine r_tableIn X (j0 := 4) 97 dX12_count_36 hs rfl (by decide) (by decide) (by decide) ?_
        refine r_aload_n X (by rfl) dX12_count_97 ?_
        refine r_getR X dX12_count_98 zF_X12_42 (zt hL 38 rfl) (zrf hL 45 rfl) ?_
        refine r_iconst X 0 (by decide) dX12_count_101 ?_
        refine r_iaload X dX12_count_102 (zt hL 48 rfl) (vp_in_iff.mpr ⟨by decide, by decide⟩) ?_
        refine r_ireturn X hR dX12_count_103 rfl (Nat.zero_le _) (Nat.zero_le _) ?_
        exact ⟨_, rfl, rfl⟩
      · refine r_tableIn X (j0 := 5) 104 dX12_count_36 hs rfl (by decide) (by decide) (by decide) ?_
        refine r_aload_n X (by rfl) dX12_count_104 ?_
        refine r_getR X dX12_count_105 zF_X12_42 (zt hL 38 rfl) (zrf hL 45 rfl) ?_
        refine r_iconst X 1 (by decide) dX12_count_108 ?_
        refine r_iaload X dX12_count_109 (zt hL 48 rfl) (vp_in_iff.mpr ⟨by decide, by decide⟩) ?_
        refine r_ireturn X hR dX12_count_110 rfl (Nat.zero_le _) (Nat.zero_le _) ?_
        exact ⟨_, rfl, rfl⟩
      · refine r_tableIn X (j0 := 6) 111 dX12_count_36 hs rfl (by decide) (by decide) (by decide) ?_
        refine r_aload_n X (by rfl) dX12_count_111 ?_
        refine r_getI X dX12_count_112 zF_X12_7 (zt hL 38 rfl) ?_
        refine r_ireturn X hR dX12_count_115 rfl (Nat.zero_le _) (Nat.zero_le _) ?_
        exact ⟨_, rfl, rfl⟩
      · refine r_tableOut X 116 dX12_count_36 hs (by decide) ?_
        refine r_ldc X zK_X12_186 dX12_count_116 ?_
        refine r_ireturn X hR dX12_count_118 rfl (Nat.zero_le _) (Nat.zero_le _) ?_
        exact ⟨_, rfl, rfl⟩
    · refine r_iload_n X (by rfl) dX12_count_12 ?_
      refine r_aload_n X (by rfl) dX12_count_13 ?_
      refine r_getR X dX12_count_14 zF_X12_13 (zt hL 38 rfl) (zrf hL 36 rfl) ?_
      refine r_iload_n X (by rfl) dX12_count_17 ?_
      refine r_zaload X dX12_count_18 (zt hL 39 rfl) (vp_in_iff.mpr ⟨by omega, by omega⟩) ?_
      refine r_if_eq X 26 dX12_count_19 (by decide) (fun h19 => ?_) (fun h19 => ?_)
      · refine r_iconst X 0 (by decide) dX12_count_26 ?_
        refine r_iadd X dX12_count_27 ?_
        refine r_istore_n X (by decide) dX12_count_28 ?_
        refine r_iinc X 1 (by decide) (by rfl) (by decide) dX12_count_29 ?_
        refine r_goto X 4 dX12_count_32 (by decide) ?_
        exact zW.loc4 (by rfl) (by rfl) (by rfl) (by rfl) (ih _ _ (by have e := zinc (x := i) (by omega); omega) (by have e := zinc (x := i) (by omega); omega))
      · refine r_iconst X 1 (by decide) dX12_count_22 ?_
        refine r_goto X 27 dX12_count_23 (by decide) ?_
        refine r_iadd X dX12_count_27 ?_
        refine r_istore_n X (by decide) dX12_count_28 ?_
        refine r_iinc X 1 (by decide) (by rfl) (by decide) dX12_count_29 ?_
        refine r_goto X 4 dX12_count_32 (by decide) ?_
        exact zW.loc4 (by rfl) (by rfl) (by rfl) (by rfl) (ih _ _ (by have e := zinc (x := i) (by omega); omega) (by have e := zinc (x := i) (by omega); omega))
  refine r_iconst X 0 (by decide) dX12_count_0 ?_
  refine r_istore_n X (by decide) dX12_count_1 ?_
  refine r_iconst X 0 (by decide) dX12_count_2 ?_
  refine r_istore_n X (by decide) dX12_count_3 ?_
  exact zW.loc4 (by rfl) (by rfl) (by rfl) (by rfl) (L4 9 _ _ (by decide) (by decide))
