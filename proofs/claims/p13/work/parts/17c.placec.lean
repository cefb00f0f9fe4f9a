/-! the class's PLACE exactly (wip/gen16/spec_pa.py) -/
theorem sl_uz2 {X : Nat} (h0 : 100 ≤ X) (h1 : X ≤ 100000) : (X < 1000 ∧ sl_un X = 1 ∧ sl_ze X = 0) ∨ (1000 ≤ X ∧ X < 10000 ∧ sl_un X = 10 ∧ sl_ze X = 1) ∨ (10000 ≤ X ∧ X < 100000 ∧ sl_un X = 100 ∧ sl_ze X = 2) ∨ (X = 100000 ∧ sl_un X = 1000 ∧ sl_ze X = 3) := by
  obtain ⟨a, b, c, d⟩ := sl_uz (v := X)
  rcases (show X < 1000 ∨ (1000 ≤ X ∧ X < 10000) ∨ (10000 ≤ X ∧ X < 100000) ∨ X = 100000 by omega) with h | h | h | h
  · exact Or.inl ⟨h, a h⟩
  · exact Or.inr (Or.inl ⟨h.1, h.2, b h.1 h.2⟩)
  · exact Or.inr (Or.inr (Or.inl ⟨h.1, h.2, c h.1 h.2⟩))
  · exact Or.inr (Or.inr (Or.inr ⟨h, d (by omega)⟩))
theorem sl_pl0 {x u i : Int32} {X : Nat} (hX : (X : Int) = x.toInt) (h0 : 100 ≤ X) (h1 : X ≤ 100000) (hs : (i = 0 ∧ u = 1) ∨ (i = 1 ∧ u = 10 ∧ 1000 ≤ X) ∨ (i = 2 ∧ u = 100 ∧ 10000 ≤ X) ∨ (i = 3 ∧ u = 1000 ∧ 100000 ≤ X)) (hq : 3 ≤ i.toInt ∨ (x / u).toInt < 1000) :
    ∃ un r : Nat, u.toInt = un ∧ sl_un X = un ∧ i.toInt = (sl_ze X : Nat) ∧ X / un = r ∧ (x / u).toInt = r ∧ 100 ≤ r ∧ r ≤ 999 ∧ 1 ≤ un ∧ un ≤ 1000 ∧ r * un ≤ X ∧ X - r * un ≤ 99 ∧ sl_ze X ≤ 3 := by
  have hu : 1 ≤ u.toInt := by rcases hs with ⟨-, rfl⟩ | ⟨-, rfl, -⟩ | ⟨-, rfl, -⟩ | ⟨-, rfl, -⟩ <;> decide
  have hd := zdivI (x := x) (y := u) (by omega) (by omega)
  rcases hs with ⟨rfl, rfl⟩ | ⟨rfl, rfl, g⟩ | ⟨rfl, rfl, g⟩ | ⟨rfl, rfl, g⟩
  · rw [show Int32.toInt 0 = 0 from rfl] at hq ⊢
    rw [show Int32.toInt 1 = 1 from rfl] at hd ⊢
    rcases sl_uz2 h0 h1 with ⟨a, b, c⟩ | ⟨a, a2, b, c⟩ | ⟨a, a2, b, c⟩ | ⟨a, b, c⟩
    · exact ⟨1, X, rfl, b, by rw [c]; rfl, by omega, by omega, by omega, by omega, by omega, by omega, by omega, by omega, by omega⟩
    · exfalso; omega
    · exfalso; omega
    · exfalso; omega
  · rw [show Int32.toInt 1 = 1 from rfl] at hq ⊢
    rw [show Int32.toInt 10 = 10 from rfl] at hd ⊢
    rcases sl_uz2 h0 h1 with ⟨a, b, c⟩ | ⟨a, a2, b, c⟩ | ⟨a, a2, b, c⟩ | ⟨a, b, c⟩
    · exfalso; omega
    · exact ⟨10, X / 10, rfl, b, by rw [c]; rfl, by omega, by omega, by omega, by omega, by omega, by omega, by omega, by omega, by omega⟩
    · exfalso; omega
    · exfalso; omega
  · rw [show Int32.toInt 2 = 2 from rfl] at hq ⊢
    rw [show Int32.toInt 100 = 100 from rfl] at hd ⊢
    rcases sl_uz2 h0 h1 with ⟨a, b, c⟩ | ⟨a, a2, b, c⟩ | ⟨a, a2, b, c⟩ | ⟨a, b, c⟩
    · exfalso; omega
    · exfalso; omega
    · exact ⟨100, X / 100, rfl, b, by rw [c]; rfl, by omega, by omega, by omega, by omega, by omega, by omega, by omega, by omega, by omega⟩
    · exfalso; omega
  · rw [show Int32.toInt 3 = 3 from rfl]
    rw [show Int32.toInt 1000 = 1000 from rfl] at hd ⊢
    rcases sl_uz2 h0 h1 with ⟨a, b, c⟩ | ⟨a, a2, b, c⟩ | ⟨a, a2, b, c⟩ | ⟨a, b, c⟩
    · exfalso; omega
    · exfalso; omega
    · exfalso; omega
    · exact ⟨1000, X / 1000, rfl, b, by rw [c]; rfl, by omega, by omega, by omega, by omega, by omega, by omega, by omega, by omega, by omega⟩
/-- the row of the table and the zeros -/
theorem sl_row {k : Nat} {i : Int32} {z : Nat} (hk : k < 900) (hi : i.toInt = (z : Nat)) (hz : z ≤ 3) : zFz 0 k + i.toInt64 <<< ((44 : Int32).toInt64 &&& 63) = Int64.ofNat ((sl_T k + z * 309485009821345068724781056) / 17592186044416) ∧ zFz 1 k = Int64.ofNat ((sl_T k + z * 309485009821345068724781056) % 17592186044416) := by
  have e := sl_tab_e k hk
  have hT := sl_T_lt k
  have e0 : zFz 0 k = Int64.ofNat (sl_T k / 17592186044416) := by show (zTab k).1 = _; rw [e]
  have e1 : zFz 1 k = Int64.ofNat (sl_T k % 17592186044416) := by show (zTab k).2 = _; rw [e]
  have es := sl_shl44 (x := i.toInt64) (by rw [Int32.toInt_toInt64]; omega) (by rw [Int32.toInt_toInt64]; omega)
  rw [Int32.toInt_toInt64, hi] at es
  have ef := zofI (n := sl_T k / 17592186044416) (by omega)
  rw [e0, e1]
  constructor
  · refine Int64.toInt_inj.mp ?_
    rw [zaddJ (by rw [es, ef]; omega) (by rw [es, ef]; omega), es, ef, zofI (by omega)]
    omega
  · rw [show (sl_T k + z * 309485009821345068724781056) % 17592186044416 = sl_T k % 17592186044416 by omega]
theorem sl_C_lt {v : Nat} (h0 : 100 ≤ v) (h1 : v ≤ 100000) : sl_C v < 4 * 309485009821345068724781056 := by
  have hg : ∀ (x y : Nat), x ≤ y → ∀ n i t V : Nat, sl_gr x y n i t V ≤ V + n * t := by
    intro x y hxy n
    induction n with
    | zero => intro i t V; show V ≤ _; omega
    | succ n ih =>
      intro i t V
      rw [sl_gr_s]
      by_cases h : t = 0
      · rw [if_pos h]; omega
      · rw [if_neg h]
        have hf : ∀ u : Nat, u * x / y ≤ u := fun u => Nat.div_le_of_le_mul (by rw [Nat.mul_comm y u]; exact Nat.mul_le_mul_left u hxy)
        have h2 := ih (i + 2) (t * x / y * x / y) (V + t / i)
        have h3 : n * (t * x / y * x / y) ≤ n * t := Nat.mul_le_mul_left n (Nat.le_trans (hf _) (hf _))
        have h4 := Nat.div_le_self t i
        rw [Nat.add_mul]
        omega
  have ha : ∀ x y V : Nat, 0 < y → 100 * x ≤ y → 2 * sl_ag x y V ≤ 2 * V + 309485009821345068724781056 := fun x y V hy hxy => by
    obtain ⟨t, ht⟩ : ∃ t, 268815263994367720190991274 * x / y = t := ⟨_, rfl⟩
    have h2 := hg x y (by omega) 50 1 t V
    have h3 : t * y ≤ 268815263994367720190991274 * x := by rw [← ht]; exact Nat.div_mul_le_self _ _
    have h4 : 100 * t * y ≤ 268815263994367720190991274 * y := by
      have h5 : 100 * (t * y) ≤ 100 * (268815263994367720190991274 * x) := Nat.mul_le_mul_left 100 h3
      have h6 : 268815263994367720190991274 * (100 * x) ≤ 268815263994367720190991274 * y := Nat.mul_le_mul_left _ hxy
      rw [Nat.mul_left_comm] at h6
      rw [Nat.mul_assoc]
      exact Nat.le_trans h5 h6
    have h7 := Nat.le_of_mul_le_mul_right h4 hy
    have e : sl_ag x y V = sl_gr x y 50 1 t V := by rw [← ht]; rfl
    rw [e]
    omega
  have hT := sl_T_lt
  rcases (show v < 1000 ∨ (1000 ≤ v ∧ v < 10000) ∨ (10000 ≤ v ∧ v < 100000) ∨ v = 100000 by omega) with h | h | h | h
  · rw [sl_C1_e h]
    have := hT (v - 100)
    omega
  · rw [sl_C2_e h.1 h.2]
    have h1 := ha (v - v / 10 * 10) (v + v / 10 * 10) (sl_T (v / 10 - 100)) (by omega) (by omega)
    have := hT (v / 10 - 100)
    omega
  · rw [sl_C3_e h.1 h.2]
    have h1 := ha (v - v / 100 * 100) (v + v / 100 * 100) (sl_T (v / 100 - 100)) (by omega) (by omega)
    have := hT (v / 100 - 100)
    omega
  · rw [h, sl_C_5, sl_C3_e (v := 10000) (by omega) (by omega), show (10000 : Nat) - 10000 / 100 * 100 = 0 from rfl, sl_ag_0]
    have := hT (10000 / 100 - 100)
    generalize sl_T (10000 / 100 - 100) = t at *
    omega
theorem sl_pl1 {x u i : Int32} {X : Nat} (hX : (X : Int) = x.toInt) (h1 : (i = 0 ∧ u = 1) ∨ (i = 1 ∧ u = 10 ∧ 1000 ≤ X) ∨ (i = 2 ∧ u = 100 ∧ 10000 ≤ X) ∨ (i = 3 ∧ u = 1000 ∧ 100000 ≤ X)) (hd : (x / u).toInt = x.toInt / u.toInt) (h7 : i.toInt < 3) (h17 : 1000 ≤ (x / u).toInt) :
    (i + 1 = 0 ∧ u * 10 = 1) ∨ (i + 1 = 1 ∧ u * 10 = 10 ∧ 1000 ≤ X) ∨ (i + 1 = 2 ∧ u * 10 = 100 ∧ 10000 ≤ X) ∨ (i + 1 = 3 ∧ u * 10 = 1000 ∧ 100000 ≤ X) := by
  rcases h1 with ⟨rfl, rfl⟩ | ⟨rfl, rfl, g⟩ | ⟨rfl, rfl, g⟩ | ⟨rfl, rfl, g⟩
  · rw [show Int32.toInt 1 = 1 from rfl] at hd
    exact Or.inr (Or.inl ⟨by decide, by decide, by omega⟩)
  · rw [show Int32.toInt 10 = 10 from rfl] at hd
    exact Or.inr (Or.inr (Or.inl ⟨by decide, by decide, by omega⟩))
  · rw [show Int32.toInt 100 = 100 from rfl] at hd
    exact Or.inr (Or.inr (Or.inr ⟨by decide, by decide, by omega⟩))
  · exact absurd h7 (by decide)
theorem sl_tn2 (x : Int64) : (x.toBitVec.toNat : Int) = x.toInt ∨ (x.toBitVec.toNat : Int) = x.toInt + 18446744073709551616 := by
  have hl := x.toBitVec.isLt
  rcases Nat.lt_or_ge (2 * x.toBitVec.toNat) (2 ^ 64) with c | c
  · exact Or.inl (BitVec.toInt_eq_toNat_of_lt c).symm
  · right
    have e : x.toInt = (x.toBitVec.toNat : Int) - 2 ^ 64 := by
      show x.toBitVec.toInt = _
      rw [BitVec.toInt_eq_toNat_cond, if_neg (Nat.not_lt.mpr c)]
      rfl
    omega
theorem sl_and44b (x : Int64) : (x &&& 17592186044415).toInt = x.toInt % 17592186044416 := by
  have e := sl_tn2 x
  have e1 : (x &&& 17592186044415).toBitVec.toNat = x.toBitVec.toNat % 2 ^ 44 := by
    rw [Int64.toBitVec_and, BitVec.toNat_and, show (17592186044415 : Int64).toBitVec.toNat = 2 ^ 44 - 1 from rfl, Nat.and_two_pow_sub_one_eq_mod]
  show (x &&& 17592186044415).toBitVec.toInt = _
  rw [BitVec.toInt_eq_toNat_of_lt (by rw [e1]; omega), e1]
  rcases e with e | e <;> omega
theorem sl_sb {A B : Nat} (hA : A < 4 * 309485009821345068724781056) (hB : B < 4 * 309485009821345068724781056) :
    (Int64.ofNat (A / 17592186044416) + (((Int64.ofNat (A % 17592186044416) - Int64.ofNat (B % 17592186044416)) >>> ((44 : Int32).toInt64 &&& 63)) - Int64.ofNat (B / 17592186044416))).toInt = ((A : Int) - B) / 17592186044416 ∧ ((Int64.ofNat (A % 17592186044416) - Int64.ofNat (B % 17592186044416)) &&& 17592186044415).toInt = ((A : Int) - B) % 17592186044416 := by
  have a1 := zofI (n := A / 17592186044416) (by omega)
  have a2 := zofI (n := A % 17592186044416) (by omega)
  have b1 := zofI (n := B / 17592186044416) (by omega)
  have b2 := zofI (n := B % 17592186044416) (by omega)
  have es : (Int64.ofNat (A % 17592186044416) - Int64.ofNat (B % 17592186044416)).toInt = ((A % 17592186044416 : Nat) : Int) - (B % 17592186044416 : Nat) := by rw [zsubJ (by rw [a2, b2]; omega) (by rw [a2, b2]; omega), a2, b2]
  have eh := zsh44 (Int64.ofNat (A % 17592186044416) - Int64.ofNat (B % 17592186044416))
  have ea := sl_and44b (Int64.ofNat (A % 17592186044416) - Int64.ofNat (B % 17592186044416))
  generalize Int64.ofNat (A % 17592186044416) - Int64.ofNat (B % 17592186044416) = R at *
  rw [es] at eh ea
  generalize R >>> ((44 : Int32).toInt64 &&& 63) = T at *
  have e2 : (T - Int64.ofNat (B / 17592186044416)).toInt = T.toInt - (B / 17592186044416 : Nat) := by rw [zsubJ (by rw [b1]; omega) (by rw [b1]; omega), b1]
  constructor
  · rw [zaddJ (by rw [a1, e2]; omega) (by rw [a1, e2]; omega), a1, e2]
    omega
  · rw [ea]
    omega
theorem sl_ft {h l : Int64} {n : Int32} {D : Int} (hh : h.toInt = D / 17592186044416) (hl : l.toInt = D % 17592186044416) (d0 : -(4 * 309485009821345068724781056) < D) (d1 : D < 4 * 309485009821345068724781056) (n0 : 0 ≤ n.toInt) (n1 : n.toInt ≤ 100000) : (zFt h l n).toInt = D * n.toInt / 309485009821345068724781056 := by
  obtain ⟨H, eH⟩ : ∃ H : Int, D / 17592186044416 = H := ⟨_, rfl⟩
  obtain ⟨L, eL⟩ : ∃ L : Int, D % 17592186044416 = L := ⟨_, rfl⟩
  have eD : D = H * 17592186044416 + L := by omega
  have en : n.toInt64.toInt = n.toInt := Int32.toInt_toInt64 n
  obtain ⟨N, hN⟩ : ∃ N : Int, n.toInt = N := ⟨_, rfl⟩
  rw [hN] at en n0 n1 ⊢
  have p1 : H * N ≤ 70368744177664 * N := Int.mul_le_mul_of_nonneg_right (by omega) n0
  have p2 : -70368744177664 * N ≤ H * N := Int.mul_le_mul_of_nonneg_right (by omega) n0
  have q1 : L * N ≤ 17592186044416 * N := Int.mul_le_mul_of_nonneg_right (by omega) n0
  have q2 : 0 ≤ L * N := Int.mul_nonneg (by omega) n0
  have eP : (h * n.toInt64).toInt = H * N := by rw [zmulJ (by rw [hh, eH, en]; omega) (by rw [hh, eH, en]; omega), hh, eH, en]
  have eR : (l * n.toInt64).toInt = L * N := by rw [zmulJ (by rw [hl, eL, en]; omega) (by rw [hl, eL, en]; omega), hl, eL, en]
  have eS := zsh44 (l * n.toInt64)
  rw [eR] at eS
  unfold zFt
  generalize h * n.toInt64 = P at *
  generalize (l * n.toInt64) >>> ((44 : Int32).toInt64 &&& 63) = T at *
  have eA : (P + T).toInt = H * N + L * N / 17592186044416 := by rw [zaddJ (x := P) (y := T) (by omega) (by omega), eP, eS]
  have eV := zsh44 (P + T)
  rw [eV, eA, eD, Int.add_mul, Int.mul_right_comm]
  generalize H * N = p at *
  generalize L * N = q at *
  omega
theorem sl_msb (x : Int64) : x.toBitVec.msb = decide (x.toInt < 0) := BitVec.msb_eq_toInt
theorem sl_xor (x y : Int64) (hy : 0 ≤ y.toInt) : (x ^^^ y).toInt < 0 ↔ x.toInt < 0 := by
  have h1 := sl_msb x
  have h2 := sl_msb y
  have h3 := sl_msb (x ^^^ y)
  rw [Int64.toBitVec_xor, BitVec.msb_xor, h1, h2, show decide (y.toInt < 0) = false from decide_eq_false (by omega), Bool.xor_false] at h3
  constructor
  · intro h; exact of_decide_eq_true (by rw [h3]; exact decide_eq_true h)
  · intro h; exact of_decide_eq_true (by rw [← h3]; exact decide_eq_true h)
/-- rounding down -/
theorem sl_fd0 {x y : Int64} (x0 : -1000000000000 ≤ x.toInt) (x1 : x.toInt ≤ 1000000000000) (y0 : 1 ≤ y.toInt) (y1 : y.toInt ≤ 1000) : (zFd x y).toInt = x.toInt / y.toInt := by
  obtain ⟨a, ha⟩ : ∃ a : Int, x.toInt = a := ⟨_, rfl⟩
  obtain ⟨d, hd⟩ : ∃ d : Int, y.toInt = d := ⟨_, rfl⟩
  have hxor := sl_xor x y (by omega)
  unfold zFd
  by_cases c : x.toInt < 0
  · have hdv : (x / y).toInt = -((-a) / d) := by
      rw [Int64.toInt_div, ha, hd, show a.tdiv d = -((-a).tdiv d) by rw [Int.neg_tdiv, Int.neg_neg], Int.tdiv_eq_ediv_of_nonneg (by omega)]
      have g1 : (-a) / d ≤ -a := Int.ediv_le_self _ (by omega)
      have g2 : 0 ≤ (-a) / d := Int.ediv_nonneg (by omega) (by omega)
      exact Int.bmod_eq_of_le (by omega) (by omega)
    have g1 : (-a) / d ≤ -a := Int.ediv_le_self _ (by omega)
    have g2 : 0 ≤ (-a) / d := Int.ediv_nonneg (by omega) (by omega)
    have g3 := Int.ediv_mul_le (-a) (show d ≠ 0 by omega)
    have g4 := Int.lt_ediv_add_one_mul_self (-a) (show 0 < d by omega)
    obtain ⟨k, hk⟩ : ∃ k : Int, (-a) / d = k := ⟨_, rfl⟩
    rw [hk] at hdv g1 g2 g3 g4
    have em : (x / y * y).toInt = -k * d := by
      have g5 : 0 ≤ k * d := Int.mul_nonneg g2 (by omega)
      rw [zmulJ (by rw [hdv, hd, Int.neg_mul]; omega) (by rw [hdv, hd, Int.neg_mul]; omega), hdv, hd]
    rw [ha, hd]
    by_cases e : x / y * y = x
    · rw [if_neg (fun q => q.2 e), hdv]
      rw [e, ha] at em
      rw [em, Int.mul_ediv_cancel _ (by omega)]
    · rw [if_pos ⟨hxor.mpr c, e⟩]
      have hne : ¬ -k * d = a := fun q => e (Int64.toInt_inj.mp (by rw [em, ha, q]))
      have e1 : (x / y - 1).toInt = -k - 1 := by rw [zsubJ (x := x / y) (y := 1) (by rw [hdv, show Int64.toInt 1 = 1 from rfl]; omega) (by rw [hdv, show Int64.toInt 1 = 1 from rfl]; omega), hdv]; rfl
      rw [e1]
      symm
      rw [Int.neg_mul] at hne
      refine Int.le_antisymm ?_ ?_
      · have : a / d < -k := Int.ediv_lt_of_lt_mul (by omega) (by rw [Int.neg_mul]; omega)
        omega
      · refine Int.le_ediv_of_mul_le (by omega) ?_
        rw [Int.add_mul] at g4
        rw [Int.sub_mul, Int.neg_mul]
        omega
  · rw [if_neg (fun q => c (hxor.mp q.1)), zdivJ (by omega) (by omega)]
/-- the PLACE of x on PARTS u, FOLD w, LONG y -/
noncomputable def zPzN (X g : Nat) (u L : Int) : Int := (((sl_C X : Int) - sl_C (10 * g)) * (2 * L) / 309485009821345068724781056 + u) / (2 * u)
theorem zPzN_b {X g : Nat} {u L : Int} (x0 : 100 ≤ X) (x1 : X ≤ 100000) (w0 : 10 ≤ g) (w1 : g ≤ 990) (u0 : 1 ≤ u) (u1 : u ≤ 3) (y0 : 100 ≤ L) (y1 : L ≤ 50000) : -400001 ≤ ((sl_C X : Int) - sl_C (10 * g)) * (2 * L) / 309485009821345068724781056 ∧ ((sl_C X : Int) - sl_C (10 * g)) * (2 * L) / 309485009821345068724781056 ≤ 400000 ∧ -400001 ≤ zPzN X g u L ∧ zPzN X g u L ≤ 400001 := by
  have c1 := sl_C_lt x0 x1
  have c2 := sl_C_lt (v := 10 * g) (by omega) (by omega)
  unfold zPzN
  obtain ⟨D, hD⟩ : ∃ D : Int, (sl_C X : Int) - sl_C (10 * g) = D := ⟨_, rfl⟩
  have d0 : -(4 * 309485009821345068724781056) < D := by omega
  have d1 : D < 4 * 309485009821345068724781056 := by omega
  rw [hD]
  have m1 : D * (2 * L) ≤ 4 * 309485009821345068724781056 * (2 * L) := Int.mul_le_mul_of_nonneg_right (by omega) (by omega)
  have m2 : -(4 * 309485009821345068724781056) * (2 * L) ≤ D * (2 * L) := Int.mul_le_mul_of_nonneg_right (by omega) (by omega)
  rw [Int.neg_mul] at m2
  generalize D * (2 * L) = V at *
  rcases (show u = 1 ∨ u = 2 ∨ u = 3 by omega) with rfl | rfl | rfl <;> omega
noncomputable def zPz (x w u y : Int32) : Int32 := Int32.ofInt (zPzN x.toNatClampNeg w.toNatClampNeg u.toInt y.toInt)
theorem zPz_b {x w u y : Int32} (x0 : 100 ≤ x.toInt) (x1 : x.toInt ≤ 100000) (w0 : 10 ≤ w.toInt) (w1 : w.toInt ≤ 990) (u0 : 1 ≤ u.toInt) (u1 : u.toInt ≤ 3) (y0 : 100 ≤ y.toInt) (y1 : y.toInt ≤ 50000) : -400001 ≤ ((sl_C x.toNatClampNeg : Int) - sl_C (10 * w.toNatClampNeg)) * (2 * y.toInt) / 309485009821345068724781056 ∧ ((sl_C x.toNatClampNeg : Int) - sl_C (10 * w.toNatClampNeg)) * (2 * y.toInt) / 309485009821345068724781056 ≤ 400000 ∧ -400001 ≤ zPzN x.toNatClampNeg w.toNatClampNeg u.toInt y.toInt ∧ zPzN x.toNatClampNeg w.toNatClampNeg u.toInt y.toInt ≤ 400001 ∧ (zPz x w u y).toInt = zPzN x.toNatClampNeg w.toNatClampNeg u.toInt y.toInt := by
  have hx := zclN (i := x) (by omega)
  have hw := zclN (i := w) (by omega)
  obtain ⟨b1, b2, b3, b4⟩ := zPzN_b (X := x.toNatClampNeg) (g := w.toNatClampNeg) (by omega) (by omega) (by omega) (by omega) u0 u1 y0 y1
  refine ⟨b1, b2, b3, b4, ?_⟩
  unfold zPz
  exact Int32.toInt_ofInt_of_le (by omega) (by omega)

set_option maxHeartbeats 4000000 in
set_option maxRecDepth 100000 in
theorem c_X2_putLogF (l : Launch) (G : zG) (z : Nat) (τ : Nat → Option (Nat × Nat)) (ρ : Nat → Nat → Option Nat) (ι : Nat → Nat → Int32) (κ : Nat → Nat → Int64) {a hi lo te to bo M1 M2 M3 M4 : Nat} (hτ : τ a = some (2, M1)) (hρ0 : ρ a 0 = some hi) (hρ1 : ρ a 1 = some lo) (hρ2 : ρ a 2 = some te) (hρ3 : ρ a 3 = some to) (hρ4 : ρ a 4 = some bo) (hhi : τ hi = some (1000, 900)) (hlo : τ lo = some (1001, 900)) (hte : τ te = some (10, M2)) (hto : τ to = some (10, M3)) (hbo : τ bo = some (10, M4)) {b M5 : Nat} (hb : τ b = some (10, M5)) (dtb : te ≠ b) (x : Int32) (x0 : 100 ≤ x.toInt) (x1 : x.toInt ≤ 100000) : zM l G yX2_putLog cX2_putLog 7 none ({ frames := 2, cells := 0, slots := 0, locals := 50 } : Room) [.ref a, .ref b, .int x] (z, τ, ρ, ι, κ) (fun v s => v = none ∧ ∃ κ2, s = (z, τ, ρ, ι, κ2) ∧ (∀ b9, b9 ≠ te → b9 ≠ b → κ2 b9 = κ b9) ∧ κ2 b 0 = Int64.ofNat (sl_C x.toNatClampNeg / 17592186044416) ∧ κ2 b 1 = Int64.ofNat (sl_C x.toNatClampNeg % 17592186044416)) 0 0 := by
  refine zM_of zCd_X2_putLog (Nat.le_of_ble_eq_true rfl) ?_
  intro E X hR hE
  subst hE
  show zW E G 7 (z, τ, ρ, ι, κ) 0 0 0 [(0, .ref a), (1, .ref b), (2, .int x)] []
  have hX : (x.toNatClampNeg : Int) = x.toInt := zclN (by omega)
  have L5 : ∀ (m : Nat) (i u : Int32), (3 - i.toInt).toNat < m → (i = 0 ∧ u = 1 ∨ i = 1 ∧ u = 10 ∧ 1000 ≤ x.toNatClampNeg ∨ i = 2 ∧ u = 100 ∧ 10000 ≤ x.toNatClampNeg ∨ i = 3 ∧ u = 1000 ∧ 100000 ≤ x.toNatClampNeg) → zW E G 7 (z, τ, ρ, ι, κ) 0 0 5 [(0, .ref a), (1, .ref b), (2, .int x), (3, .int i), (4, .int u)] [] := by
    intro m
    induction m with
    | zero => intro i u h; omega
    | succ m ih => ?_
    intro i u hm h1
    have hdv : (x / u).toInt = x.toInt / u.toInt := zdivI (by omega) (by rcases h1 with ⟨rfl, rfl⟩ | ⟨rfl, rfl, g⟩ | ⟨rfl, rfl, g⟩ | ⟨rfl, rfl, g⟩ <;> decide)
    refine r_iload_n X (by rfl) dX2_putLog_5 ?_
    refine r_iconst X 3 (by decide) dX2_putLog_6 ?_
    refine r_icmp_ge X 33 dX2_putLog_7 (by decide) (fun h7 => ?_) (fun h7 => ?_)
    · rw [show Int32.toInt 3 = 3 from rfl] at h7
      obtain ⟨un, r, hu, hun, hi9, hr, hxr, r0, r9, u1, u2, hru, hrest, hze⟩ := sl_pl0 hX (by omega) (by omega) h1 (Or.inl (by omega))
      have hs1 : (x / u - 100).toInt = r - 100 := by rw [zsubI (x := x / u) (y := 100) (by rw [hxr, show Int32.toInt 100 = 100 from rfl]; omega) (by rw [hxr, show Int32.toInt 100 = 100 from rfl]; omega), hxr]; rfl
      have hkc := zclN (i := x / u - 100) (by omega)
      obtain ⟨g0, g1⟩ := sl_row (k := (x / u - 100).toNatClampNeg) (i := i) (z := sl_ze x.toNatClampNeg) (by omega) hi9 hze
      refine r_iload_n X (by rfl) dX2_putLog_33 ?_
      refine r_iload X (by rfl) dX2_putLog_34 ?_
      refine r_idiv X (by rcases h1 with ⟨rfl, rfl⟩ | ⟨rfl, rfl, g⟩ | ⟨rfl, rfl, g⟩ | ⟨rfl, rfl, g⟩ <;> decide) dX2_putLog_36 ?_
      refine r_bipush X 100 (by decide) dX2_putLog_37 ?_
      refine r_isub X dX2_putLog_39 ?_
      refine r_istore X (by decide) dX2_putLog_40 ?_
      refine r_iload X (by rfl) dX2_putLog_42 ?_
      refine r_if_lt X 55 dX2_putLog_44 (by decide) (fun h44 => ?_) (fun h44 => ?_)
      · exfalso; omega
      · refine r_iload X (by rfl) dX2_putLog_47 ?_
        refine r_sipush X 900 (by decide) dX2_putLog_49 ?_
        refine r_icmp_lt X 56 dX2_putLog_52 (by decide) (fun h52 => ?_) (fun h52 => ?_)
        · rw [show Int32.toInt 900 = 900 from rfl] at h52
          refine r_aload_n X (by rfl) dX2_putLog_56 ?_
          refine r_aload_n X (by rfl) dX2_putLog_57 ?_
          refine r_getR X dX2_putLog_58 zF_X2_9 hτ hρ0 ?_
          refine r_iload X (by rfl) dX2_putLog_61 ?_
          refine r_laloadF (f := 0) X dX2_putLog_63 hhi (vp_in_iff.mpr ⟨by omega, by omega⟩) ?_
          refine r_iload_n X (by rfl) dX2_putLog_64 ?_
          refine r_i2l X dX2_putLog_65 ?_
          refine r_bipush X 44 (by decide) dX2_putLog_66 ?_
          refine r_lshl X dX2_putLog_68 ?_
          refine r_ladd X dX2_putLog_69 ?_
          refine r_aload_n X (by rfl) dX2_putLog_70 ?_
          refine r_getR X dX2_putLog_71 zF_X2_13 hτ hρ1 ?_
          refine r_iload X (by rfl) dX2_putLog_74 ?_
          refine r_laloadF (f := 1) X dX2_putLog_76 hlo (vp_in_iff.mpr ⟨by omega, by omega⟩) ?_
          refine r_callV X dX2_putLog_77 zLV_X2_44 zCd_X10_put (c_X10_put _ G z τ ρ _ _ hb _ _) hb ⟨by decide, rfl, rfl⟩ rfl rfl ⟨⟨rfl, rfl⟩, ⟨by decide, by decide⟩, ⟨Nat.le_of_ble_eq_true rfl, Nat.le_of_ble_eq_true rfl⟩, Nat.le_of_ble_eq_true rfl⟩ ?_
          rintro _ _ ⟨rfl, rfl⟩
          refine r_iload X (by rfl) dX2_putLog_80 ?_
          refine r_bipush X 100 (by decide) dX2_putLog_82 ?_
          refine r_iadd X dX2_putLog_84 ?_
          refine r_iload X (by rfl) dX2_putLog_85 ?_
          refine r_imul X dX2_putLog_87 ?_
          refine r_istore X (by decide) dX2_putLog_88 ?_
          refine r_aload_n X (by rfl) dX2_putLog_90 ?_
          refine r_aload_n X (by rfl) dX2_putLog_91 ?_
          refine r_iload_n X (by rfl) dX2_putLog_92 ?_
          refine r_iload X (by rfl) dX2_putLog_93 ?_
          refine r_isub X dX2_putLog_95 ?_
          refine r_iload_n X (by rfl) dX2_putLog_96 ?_
          refine r_iload X (by rfl) dX2_putLog_97 ?_
          refine r_iadd X dX2_putLog_99 ?_
          refine r_callV X dX2_putLog_100 zLV_X2_29 zCd_X2_addGrowth (c_X2_addGrowth _ G z τ ρ _ _ hτ hρ2 hte hb dtb _ _) hτ ⟨by decide, rfl, rfl⟩ rfl rfl ⟨⟨rfl, rfl⟩, ⟨by decide, by decide⟩, ⟨Nat.le_of_ble_eq_true rfl, Nat.le_of_ble_eq_true rfl⟩, Nat.le_of_ble_eq_true rfl⟩ ?_
          rintro _ _ ⟨rfl, κ1, rfl, hf1, hg, -⟩
          have ebs : ((x / u - 100 + 100) * u).toInt = ((r * un : Nat) : Int) := by rw [Int32.sub_add_cancel, zmulI (by rw [hxr, hu, ← Int.natCast_mul]; omega) (by rw [hxr, hu, ← Int.natCast_mul]; omega), hxr, hu, Int.natCast_mul]
          have es1 : (x - (x / u - 100 + 100) * u).toInt = ((x.toNatClampNeg - r * un : Nat) : Int) := by rw [zsubI (by rw [ebs]; omega) (by rw [ebs]; omega), ebs]; omega
          have es2 : (x + (x / u - 100 + 100) * u).toInt = ((x.toNatClampNeg + r * un : Nat) : Int) := by rw [zaddI (by rw [ebs]; omega) (by rw [ebs]; omega), ebs]; omega
          have hTl := sl_T_lt (x / u - 100).toNatClampNeg
          rw [zu_k (show (0 : Nat) ≠ 1 by decide), zu_s, zu_s, g0, g1, sl_ag_e es1 es2 (by omega) (by omega) (by omega) (by omega) (by omega)] at hg
          have eC := sl_C_e x.toNatClampNeg un (sl_ze x.toNatClampNeg) hun rfl
          rw [hr, show r - 100 = (x / u - 100).toNatClampNeg by omega] at eC
          rw [← eC] at hg
          obtain ⟨e1, e2⟩ := Prod.mk.inj hg
          refine r_return X hR dX2_putLog_103 (Nat.zero_le _) (Nat.zero_le _) ?_
          exact ⟨rfl, _, rfl, fun b9 q1 q2 => by rw [hf1 b9 q1 q2, zu_r q2, zu_r q2], e1, e2⟩
        · rw [show Int32.toInt 900 = 900 from rfl] at h52
          exfalso; omega
    · rw [show Int32.toInt 3 = 3 from rfl] at h7
      refine r_iload_n X (by rfl) dX2_putLog_10 ?_
      refine r_iload X (by rfl) dX2_putLog_11 ?_
      refine r_idiv X (by rcases h1 with ⟨rfl, rfl⟩ | ⟨rfl, rfl, g⟩ | ⟨rfl, rfl, g⟩ | ⟨rfl, rfl, g⟩ <;> decide) dX2_putLog_13 ?_
      refine r_sipush X 1000 (by decide) dX2_putLog_14 ?_
      refine r_icmp_lt X 33 dX2_putLog_17 (by decide) (fun h17 => ?_) (fun h17 => ?_)
      · rw [show Int32.toInt 1000 = 1000 from rfl] at h17
        obtain ⟨un, r, hu, hun, hi9, hr, hxr, r0, r9, u1, u2, hru, hrest, hze⟩ := sl_pl0 hX (by omega) (by omega) h1 (Or.inr (by omega))
        have hs1 : (x / u - 100).toInt = r - 100 := by rw [zsubI (x := x / u) (y := 100) (by rw [hxr, show Int32.toInt 100 = 100 from rfl]; omega) (by rw [hxr, show Int32.toInt 100 = 100 from rfl]; omega), hxr]; rfl
        have hkc := zclN (i := x / u - 100) (by omega)
        obtain ⟨g0, g1⟩ := sl_row (k := (x / u - 100).toNatClampNeg) (i := i) (z := sl_ze x.toNatClampNeg) (by omega) hi9 hze
        refine r_iload_n X (by rfl) dX2_putLog_33 ?_
        refine r_iload X (by rfl) dX2_putLog_34 ?_
        refine r_idiv X (by rcases h1 with ⟨rfl, rfl⟩ | ⟨rfl, rfl, g⟩ | ⟨rfl, rfl, g⟩ | ⟨rfl, rfl, g⟩ <;> decide) dX2_putLog_36 ?_
        refine r_bipush X 100 (by decide) dX2_putLog_37 ?_
        refine r_isub X dX2_putLog_39 ?_
        refine r_istore X (by decide) dX2_putLog_40 ?_
        refine r_iload X (by rfl) dX2_putLog_42 ?_
        refine r_if_lt X 55 dX2_putLog_44 (by decide) (fun h44 => ?_) (fun h44 => ?_)
        · exfalso; omega
        · refine r_iload X (by rfl) dX2_putLog_47 ?_
          refine r_sipush X 900 (by decide) dX2_putLog_49 ?_
          refine r_icmp_lt X 56 dX2_putLog_52 (by decide) (fun h52 => ?_) (fun h52 => ?_)
          · rw [show Int32.toInt 900 = 900 from rfl] at h52
            refine r_aload_n X (by rfl) dX2_putLog_56 ?_
            refine r_aload_n X (by rfl) dX2_putLog_57 ?_
            refine r_getR X dX2_putLog_58 zF_X2_9 hτ hρ0 ?_
            refine r_iload X (by rfl) dX2_putLog_61 ?_
            refine r_laloadF (f := 0) X dX2_putLog_63 hhi (vp_in_iff.mpr ⟨by omega, by omega⟩) ?_
            refine r_iload_n X (by rfl) dX2_putLog_64 ?_
            refine r_i2l X dX2_putLog_65 ?_
            refine r_bipush X 44 (by decide) dX2_putLog_66 ?_
            refine r_lshl X dX2_putLog_68 ?_
            refine r_ladd X dX2_putLog_69 ?_
            refine r_aload_n X (by rfl) dX2_putLog_70 ?_
            refine r_getR X dX2_putLog_71 zF_X2_13 hτ hρ1 ?_
            refine r_iload X (by rfl) dX2_putLog_74 ?_
            refine r_laloadF (f := 1) X dX2_putLog_76 hlo (vp_in_iff.mpr ⟨by omega, by omega⟩) ?_
            refine r_callV X dX2_putLog_77 zLV_X2_44 zCd_X10_put (c_X10_put _ G z τ ρ _ _ hb _ _) hb ⟨by decide, rfl, rfl⟩ rfl rfl ⟨⟨rfl, rfl⟩, ⟨by decide, by decide⟩, ⟨Nat.le_of_ble_eq_true rfl, Nat.le_of_ble_eq_true rfl⟩, Nat.le_of_ble_eq_true rfl⟩ ?_
            rintro _ _ ⟨rfl, rfl⟩
            refine r_iload X (by rfl) dX2_putLog_80 ?_
            refine r_bipush X 100 (by decide) dX2_putLog_82 ?_
            refine r_iadd X dX2_putLog_84 ?_
            refine r_iload X (by rfl) dX2_putLog_85 ?_
            refine r_imul X dX2_putLog_87 ?_
            refine r_istore X (by decide) dX2_putLog_88 ?_
            refine r_aload_n X (by rfl) dX2_putLog_90 ?_
            refine r_aload_n X (by rfl) dX2_putLog_91 ?_
            refine r_iload_n X (by rfl) dX2_putLog_92 ?_
            refine r_iload X (by rfl) dX2_putLog_93 ?_
            refine r_isub X dX2_putLog_95 ?_
            refine r_iload_n X (by rfl) dX2_putLog_96 ?_
            refine r_iload X (by rfl) dX2_putLog_97 ?_
            refine r_iadd X dX2_putLog_99 ?_
            refine r_callV X dX2_putLog_100 zLV_X2_29 zCd_X2_addGrowth (c_X2_addGrowth _ G z τ ρ _ _ hτ hρ2 hte hb dtb _ _) hτ ⟨by decide, rfl, rfl⟩ rfl rfl ⟨⟨rfl, rfl⟩, ⟨by decide, by decide⟩, ⟨Nat.le_of_ble_eq_true rfl, Nat.le_of_ble_eq_true rfl⟩, Nat.le_of_ble_eq_true rfl⟩ ?_
            rintro _ _ ⟨rfl, κ1, rfl, hf1, hg, -⟩
            have ebs : ((x / u - 100 + 100) * u).toInt = ((r * un : Nat) : Int) := by rw [Int32.sub_add_cancel, zmulI (by rw [hxr, hu, ← Int.natCast_mul]; omega) (by rw [hxr, hu, ← Int.natCast_mul]; omega), hxr, hu, Int.natCast_mul]
            have es1 : (x - (x / u - 100 + 100) * u).toInt = ((x.toNatClampNeg - r * un : Nat) : Int) := by rw [zsubI (by rw [ebs]; omega) (by rw [ebs]; omega), ebs]; omega
            have es2 : (x + (x / u - 100 + 100) * u).toInt = ((x.toNatClampNeg + r * un : Nat) : Int) := by rw [zaddI (by rw [ebs]; omega) (by rw [ebs]; omega), ebs]; omega
            have hTl := sl_T_lt (x / u - 100).toNatClampNeg
            rw [zu_k (show (0 : Nat) ≠ 1 by decide), zu_s, zu_s, g0, g1, sl_ag_e es1 es2 (by omega) (by omega) (by omega) (by omega) (by omega)] at hg
            have eC := sl_C_e x.toNatClampNeg un (sl_ze x.toNatClampNeg) hun rfl
            rw [hr, show r - 100 = (x / u - 100).toNatClampNeg by omega] at eC
            rw [← eC] at hg
            obtain ⟨e1, e2⟩ := Prod.mk.inj hg
            refine r_return X hR dX2_putLog_103 (Nat.zero_le _) (Nat.zero_le _) ?_
            exact ⟨rfl, _, rfl, fun b9 q1 q2 => by rw [hf1 b9 q1 q2, zu_r q2, zu_r q2], e1, e2⟩
          · rw [show Int32.toInt 900 = 900 from rfl] at h52
            exfalso; omega
      · rw [show Int32.toInt 1000 = 1000 from rfl] at h17
        refine r_iinc X 1 (by decide) (by rfl) (by decide) dX2_putLog_20 ?_
        refine r_iload X (by rfl) dX2_putLog_23 ?_
        refine r_bipush X 10 (by decide) dX2_putLog_25 ?_
        refine r_imul X dX2_putLog_27 ?_
        refine r_istore X (by decide) dX2_putLog_28 ?_
        refine r_goto X 5 dX2_putLog_30 (by decide) ?_
        exact zW.loc5 (by rfl) (by rfl) (by rfl) (by rfl) (by rfl) (ih _ _ (by rcases h1 with ⟨rfl, rfl⟩ | ⟨rfl, rfl, g⟩ | ⟨rfl, rfl, g⟩ | ⟨rfl, rfl, g⟩ <;> first | exact absurd h7 (by decide) | (change (3 - (0 : Int)).toNat < _ at hm; show (3 - (1 : Int)).toNat < m; omega) | (change (3 - (1 : Int)).toNat < _ at hm; show (3 - (2 : Int)).toNat < m; omega) | (change (3 - (2 : Int)).toNat < _ at hm; show (3 - (3 : Int)).toNat < m; omega)) (sl_pl1 hX h1 hdv (by omega) (by omega)))
  refine r_iconst X 0 (by decide) dX2_putLog_0 ?_
  refine r_istore_n X (by decide) dX2_putLog_1 ?_
  refine r_iconst X 1 (by decide) dX2_putLog_2 ?_
  refine r_istore X (by decide) dX2_putLog_3 ?_
  exact zW.loc5 (by rfl) (by rfl) (by rfl) (by rfl) (by rfl) (L5 4 _ _ (by decide) (Or.inl ⟨rfl, rfl⟩))
set_option maxHeartbeats 4000000 in
set_option maxRecDepth 100000 in
theorem c_X2_placeOfF (l : Launch) (G : zG) (z : Nat) (τ : Nat → Option (Nat × Nat)) (ρ : Nat → Nat → Option Nat) (ι : Nat → Nat → Int32) (κ : Nat → Nat → Int64) {a hi lo te to bo M1 M2 M3 M4 : Nat} (hτ : τ a = some (2, M1)) (hρ0 : ρ a 0 = some hi) (hρ1 : ρ a 1 = some lo) (hρ2 : ρ a 2 = some te) (hρ3 : ρ a 3 = some to) (hρ4 : ρ a 4 = some bo) (hhi : τ hi = some (1000, 900)) (hlo : τ lo = some (1001, 900)) (hte : τ te = some (10, M2)) (hto : τ to = some (10, M3)) (hbo : τ bo = some (10, M4)) (dte : te ≠ to) (dtb : te ≠ bo) (dtt : to ≠ bo) (x y u w : Int32) (x0 : 100 ≤ x.toInt) (x1 : x.toInt ≤ 100000) (y0 : 100 ≤ y.toInt) (y1 : y.toInt ≤ 50000) (u0 : 1 ≤ u.toInt) (u1 : u.toInt ≤ 3) (w0 : 10 ≤ w.toInt) (w1 : w.toInt ≤ 990) : zM l G yX2_placeOf cX2_placeOf 7 (some .int) ({ frames := 3, cells := 0, slots := 0, locals := 76 } : Room) [.ref a, .int x, .int y, .int u, .int w] (z, τ, ρ, ι, κ) (fun v s => ∃ κ2, v = some (.int (zPz x w u y)) ∧ s = (z, τ, ρ, ι, κ2)) 0 0 := by
  refine zM_of zCd_X2_placeOf (Nat.le_of_ble_eq_true rfl) ?_
  intro E X hR hE
  subst hE
  show zW E G 7 (z, τ, ρ, ι, κ) 0 0 0 [(0, .ref a), (1, .int x), (2, .int y), (3, .int u), (4, .int w)] []
  have hwc := zclN (i := w) (by omega)
  have hxc := zclN (i := x) (by omega)
  have e10 : ((10 : Int32) * w).toInt = 10 * w.toInt := by rw [zmulI (x := 10) (y := w) (by rw [show Int32.toInt 10 = 10 from rfl]; omega) (by rw [show Int32.toInt 10 = 10 from rfl]; omega)]; rfl
  have e10c := zclN (i := (10 : Int32) * w) (by omega)
  obtain ⟨b1, b2, b3, b4, b5⟩ := zPz_b x0 x1 w0 w1 u0 u1 y0 y1
  have cA := sl_C_lt (v := x.toNatClampNeg) (by omega) (by omega)
  have cB := sl_C_lt (v := 10 * w.toNatClampNeg) (by omega) (by omega)
  refine r_iload_n X (by rfl) dX2_placeOf_0 ?_
  refine r_iconst X 1 (by decide) dX2_placeOf_1 ?_
  refine r_icmp_ge X 7 dX2_placeOf_2 (by decide) (fun h2 => ?_) (fun h2 => ?_)
  · rw [show Int32.toInt 1 = 1 from rfl] at h2
    refine r_aload_n X (by rfl) dX2_placeOf_7 ?_
    refine r_aload_n X (by rfl) dX2_placeOf_8 ?_
    refine r_getR X dX2_placeOf_9 zF_X2_23 hτ hρ3 ?_
    refine r_iload_n X (by rfl) dX2_placeOf_12 ?_
    refine r_callV X dX2_placeOf_13 zLV_X2_60 zCd_X2_putLog (c_X2_putLogF _ G z τ ρ _ _ hτ hρ0 hρ1 hρ2 hρ3 hρ4 hhi hlo hte hto hbo hto dte _ x0 x1) hτ ⟨by decide, rfl, rfl⟩ rfl rfl ⟨⟨rfl, rfl⟩, ⟨by decide, by decide⟩, ⟨Nat.le_of_ble_eq_true rfl, Nat.le_of_ble_eq_true rfl⟩, Nat.le_of_ble_eq_true rfl⟩ ?_
    rintro _ _ ⟨rfl, κ1, rfl, hf1, e1, e2⟩
    refine r_aload_n X (by rfl) dX2_placeOf_16 ?_
    refine r_aload_n X (by rfl) dX2_placeOf_17 ?_
    refine r_getR X dX2_placeOf_18 zF_X2_26 hτ hρ4 ?_
    refine r_bipush X 10 (by decide) dX2_placeOf_21 ?_
    refine r_iload X (by rfl) dX2_placeOf_23 ?_
    refine r_imul X dX2_placeOf_25 ?_
    refine r_callV X dX2_placeOf_26 zLV_X2_60 zCd_X2_putLog (c_X2_putLogF _ G z τ ρ _ _ hτ hρ0 hρ1 hρ2 hρ3 hρ4 hhi hlo hte hto hbo hbo dtb _ (by omega) (by omega)) hτ ⟨by decide, rfl, rfl⟩ rfl rfl ⟨⟨rfl, rfl⟩, ⟨by decide, by decide⟩, ⟨Nat.le_of_ble_eq_true rfl, Nat.le_of_ble_eq_true rfl⟩, Nat.le_of_ble_eq_true rfl⟩ ?_
    rintro _ _ ⟨rfl, κ2, rfl, hf2, g1, g2⟩
    have t1 := hf2 to (Ne.symm dte) dtt
    rw [show ((10 : Int32) * w).toNatClampNeg = 10 * w.toNatClampNeg by omega] at g1 g2
    obtain ⟨s1, s2⟩ := sl_sb cA cB
    refine r_aload_n X (by rfl) dX2_placeOf_29 ?_
    refine r_getR X dX2_placeOf_30 zF_X2_23 hτ hρ3 ?_
    refine r_aload_n X (by rfl) dX2_placeOf_33 ?_
    refine r_getR X dX2_placeOf_34 zF_X2_26 hτ hρ4 ?_
    refine r_callV X dX2_placeOf_37 zLV_X2_63 zCd_X10_subtract (c_X10_subtract _ G z τ ρ _ _ hto hbo) hto ⟨by decide, rfl, rfl⟩ rfl rfl ⟨⟨rfl, rfl⟩, ⟨by decide, by decide⟩, ⟨Nat.le_of_ble_eq_true rfl, Nat.le_of_ble_eq_true rfl⟩, Nat.le_of_ble_eq_true rfl⟩ ?_
    rintro _ _ ⟨rfl, rfl⟩
    rw [g1, g2, t1, e1, e2]
    refine r_aload_n X (by rfl) dX2_placeOf_40 ?_
    refine r_getR X dX2_placeOf_41 zF_X2_23 hτ hρ3 ?_
    refine r_iconst X 2 (by decide) dX2_placeOf_44 ?_
    refine r_iload_n X (by rfl) dX2_placeOf_45 ?_
    refine r_imul X dX2_placeOf_46 ?_
    refine r_callV X dX2_placeOf_47 zLV_X2_67 zCd_X10_floorTimes (c_X10_floorTimes _ G z τ ρ _ _ hto _) hto ⟨by decide, rfl, rfl⟩ rfl rfl ⟨⟨rfl, rfl⟩, ⟨by decide, by decide⟩, ⟨Nat.le_of_ble_eq_true rfl, Nat.le_of_ble_eq_true rfl⟩, Nat.le_of_ble_eq_true rfl⟩ ?_
    rintro _ _ ⟨rfl, rfl⟩
    rw [zu_k (show (0 : Nat) ≠ 1 by decide), zu_s, zu_s]
    have e2L : ((2 : Int32) * y).toInt = 2 * y.toInt := by rw [zmulI (x := 2) (y := y) (by rw [show Int32.toInt 2 = 2 from rfl]; omega) (by rw [show Int32.toInt 2 = 2 from rfl]; omega)]; rfl
    have eft := sl_ft (n := (2 : Int32) * y) s1 s2 (by omega) (by omega) (by omega) (by omega)
    rw [e2L] at eft
    generalize zFt _ _ _ = FT at *
    refine r_lstore X (by decide) dX2_placeOf_50 ?_
    refine r_lload X (by rfl) dX2_placeOf_52 ?_
    refine r_iload_n X (by rfl) dX2_placeOf_54 ?_
    refine r_i2l X dX2_placeOf_55 ?_
    refine r_ladd X dX2_placeOf_56 ?_
    refine r_ldc2 X zK_X2_71 dX2_placeOf_57 ?_
    refine r_iload_n X (by rfl) dX2_placeOf_60 ?_
    refine r_i2l X dX2_placeOf_61 ?_
    refine r_lmul X dX2_placeOf_62 ?_
    refine r_callS X dX2_placeOf_63 zLS_X2_73 zCd_J9_floorDiv_f86c9 (c_floorDiv _ G z τ ρ _ _ _ _ (z2l u0)) rfl rfl ⟨⟨rfl, rfl⟩, ⟨by decide, by decide⟩, ⟨Nat.le_of_ble_eq_true rfl, Nat.le_of_ble_eq_true rfl⟩, Nat.le_of_ble_eq_true rfl⟩ ?_
    rintro _ _ ⟨rfl, rfl⟩
    have eu : u.toInt64.toInt = u.toInt := Int32.toInt_toInt64 u
    have e3 : (FT + u.toInt64).toInt = FT.toInt + u.toInt := by rw [zaddJ (by rw [eu]; omega) (by rw [eu]; omega), eu]
    have e4 : ((2 : Int64) * u.toInt64).toInt = 2 * u.toInt := by rw [zmulJ (x := 2) (y := u.toInt64) (by rw [eu, show Int64.toInt 2 = 2 from rfl]; omega) (by rw [eu, show Int64.toInt 2 = 2 from rfl]; omega), eu]; rfl
    have e5 := sl_fd0 (x := FT + u.toInt64) (y := (2 : Int64) * u.toInt64) (by omega) (by omega) (by omega) (by omega)
    rw [e3, e4, eft] at e5
    have e6 : (zFd (FT + u.toInt64) ((2 : Int64) * u.toInt64)).toInt32 = zPz x w u y := Int32.toInt_inj.mp (by rw [Int64.toInt_toInt32, e5, b5]; exact Int.bmod_eq_of_le (by show _ ≤ zPzN _ _ _ _; omega) (by show zPzN _ _ _ _ < _; omega))
    refine r_l2i X dX2_placeOf_66 ?_
    refine r_ireturn X hR dX2_placeOf_67 rfl (Nat.zero_le _) (Nat.zero_le _) ?_
    exact ⟨_, by rw [e6], rfl⟩
  · rw [show Int32.toInt 1 = 1 from rfl] at h2
    exfalso; omega
set_option maxHeartbeats 4000000 in
set_option maxRecDepth 100000 in
theorem c_X7_placeOfF (l : Launch) (G : zG) (z : Nat) (τ : Nat → Option (Nat × Nat)) (ρ : Nat → Nat → Option Nat) (ι : Nat → Nat → Int32) (κ : Nat → Nat → Int64) {lg hi lo te to bo M1 M2 M3 M4 : Nat} (hτl : τ lg = some (2, M1)) (hρ0 : ρ lg 0 = some hi) (hρ1 : ρ lg 1 = some lo) (hρ2 : ρ lg 2 = some te) (hρ3 : ρ lg 3 = some to) (hρ4 : ρ lg 4 = some bo) (hhi : τ hi = some (1000, 900)) (hlo : τ lo = some (1001, 900)) (hte : τ te = some (10, M2)) (hto : τ to = some (10, M3)) (hbo : τ bo = some (10, M4)) (dte : te ≠ to) (dtb : te ≠ bo) {a M5 : Nat} (ha : τ a = some (7, M5)) (dtt : to ≠ bo) (x y : Int32) (x0 : 100 ≤ x.toInt) (x1 : x.toInt ≤ 100000) (y0 : 100 ≤ y.toInt) (y1 : y.toInt ≤ 50000) (u0 : 1 ≤ (ι a 1).toInt) (u1 : (ι a 1).toInt ≤ 3) (w0 : 10 ≤ (ι a 2).toInt) (w1 : (ι a 2).toInt ≤ 990) : zM l G yX7_placeOf cX7_placeOf 5 (some .int) ({ frames := 4, cells := 0, slots := 0, locals := 102 } : Room) [.ref a, .int x, .int y, .ref lg] (z, τ, ρ, ι, κ) (fun v s => ∃ κ2, v = some (.int (if (ι a 3) = 0 then zPz x (ι a 2) (ι a 1) y else y - zPz x (ι a 2) (ι a 1) y)) ∧ s = (z, τ, ρ, ι, κ2)) 0 0 := by
  refine zM_of zCd_X7_placeOf (Nat.le_of_ble_eq_true rfl) ?_
  intro E X hR hE
  subst hE
  show zW E G 5 (z, τ, ρ, ι, κ) 0 0 0 [(0, .ref a), (1, .int x), (2, .int y), (3, .ref lg)] []
  refine r_aload_n X (by rfl) dX7_placeOf_0 ?_
  refine r_iload_n X (by rfl) dX7_placeOf_1 ?_
  refine r_iload_n X (by rfl) dX7_placeOf_2 ?_
  refine r_aload_n X (by rfl) dX7_placeOf_3 ?_
  refine r_getI X dX7_placeOf_4 zF_X7_47 ha ?_
  refine r_aload_n X (by rfl) dX7_placeOf_7 ?_
  refine r_getI X dX7_placeOf_8 zF_X7_50 ha ?_
  refine r_callV X dX7_placeOf_11 zLV_X7_56 zCd_X2_placeOf (c_X2_placeOfF _ G z τ ρ _ _ hτl hρ0 hρ1 hρ2 hρ3 hρ4 hhi hlo hte hto hbo dte dtb dtt _ _ _ _ x0 x1 y0 y1 u0 u1 w0 w1) hτl ⟨by decide, rfl, rfl⟩ rfl rfl ⟨⟨rfl, rfl⟩, ⟨by decide, by decide⟩, ⟨Nat.le_of_ble_eq_true rfl, Nat.le_of_ble_eq_true rfl⟩, Nat.le_of_ble_eq_true rfl⟩ ?_
  rintro _ _ ⟨κ1, rfl, rfl⟩
  refine r_istore X (by decide) dX7_placeOf_14 ?_
  refine r_aload_n X (by rfl) dX7_placeOf_16 ?_
  refine r_getI X dX7_placeOf_17 zF_X7_53 ha ?_
  refine r_if_eq X 30 dX7_placeOf_20 (by decide) (fun h20 => ?_) (fun h20 => ?_)
  · refine r_iload X (by rfl) dX7_placeOf_30 ?_
    refine r_ireturn X hR dX7_placeOf_32 rfl (Nat.zero_le _) (Nat.zero_le _) ?_
    exact ⟨_, by rw [if_pos h20], rfl⟩
  · refine r_iload_n X (by rfl) dX7_placeOf_23 ?_
    refine r_iload X (by rfl) dX7_placeOf_24 ?_
    refine r_isub X dX7_placeOf_26 ?_
    refine r_goto X 32 dX7_placeOf_27 (by decide) ?_
    refine r_ireturn X hR dX7_placeOf_32 rfl (Nat.zero_le _) (Nat.zero_le _) ?_
    exact ⟨_, by rw [if_neg h20], rfl⟩
