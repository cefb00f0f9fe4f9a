/-! the class's growth and table, as numbers (wip/places) -/
theorem sl_tn {x : Int64} (h : 0 ≤ x.toInt) : (x.toBitVec.toNat : Int) = x.toInt := by
  have hl := x.toBitVec.isLt
  rcases Nat.lt_or_ge (2 * x.toBitVec.toNat) (2 ^ 64) with c | c
  · exact (BitVec.toInt_eq_toNat_of_lt c).symm
  · exfalso
    have e : x.toInt = (x.toBitVec.toNat : Int) - 2 ^ 64 := by
      show x.toBitVec.toInt = _
      rw [BitVec.toInt_eq_toNat_cond, if_neg (Nat.not_lt.mpr c)]
      rfl
    omega
theorem sl_shl44 {x : Int64} (h0 : 0 ≤ x.toInt) (h1 : x.toInt < 524288) : (x <<< ((44 : Int32).toInt64 &&& 63)).toInt = x.toInt * 17592186044416 := by
  have e := sl_tn h0
  show (x.toBitVec <<< (((44 : Int32).toInt64 &&& 63).toBitVec.smod 64)).toInt = x.toInt * 17592186044416
  rw [BitVec.shiftLeft_eq', show (((44 : Int32).toInt64 &&& 63).toBitVec.smod 64).toNat = 44 from by decide, BitVec.toInt_shiftLeft, Nat.shiftLeft_eq, Int.natCast_mul, e]
  exact Int.bmod_eq_of_le (by omega) (by omega)
theorem sl_and44 {x : Int64} (h0 : 0 ≤ x.toInt) : (x &&& 17592186044415).toInt = x.toInt % 17592186044416 := by
  have e := sl_tn h0
  have e1 : (x &&& 17592186044415).toBitVec.toNat = x.toBitVec.toNat % 2 ^ 44 := by
    rw [Int64.toBitVec_and, BitVec.toNat_and, show (17592186044415 : Int64).toBitVec.toNat = 2 ^ 44 - 1 from rfl, Nat.and_two_pow_sub_one_eq_mod]
  show (x &&& 17592186044415).toBitVec.toInt = _
  rw [BitVec.toInt_eq_toNat_of_lt (by rw [e1]; omega), e1]
  omega
theorem sl_shr {t a b : Nat} {x y : Int32} (ht : t < 309485009821345068724781056) (hx : x.toInt = a) (hy : y.toInt = b) (a1 : a ≤ 127) (b0 : 0 < b) (b1 : b < 262144) :
    zS1h (Int64.ofNat (t / 17592186044416)) (Int64.ofNat (t % 17592186044416)) x y = Int64.ofNat (t * a / b / 17592186044416) ∧ zS1l (Int64.ofNat (t / 17592186044416)) (Int64.ofNat (t % 17592186044416)) x y = Int64.ofNat (t * a / b % 17592186044416) := by
  obtain ⟨h, hh⟩ : ∃ h, t / 17592186044416 = h := ⟨_, rfl⟩
  obtain ⟨l, hl⟩ : ∃ l, t % 17592186044416 = l := ⟨_, rfl⟩
  rw [hh, hl]
  have hb : h < 17592186044416 := by omega
  have lb : l < 17592186044416 := by omega
  have et : t = h * 17592186044416 + l := by omega
  have eH := zofI (n := h) (by omega)
  have eL := zofI (n := l) (by omega)
  have ex : x.toInt64.toInt = (a : Int) := by rw [Int32.toInt_toInt64, hx]
  have ey : y.toInt64.toInt = (b : Int) := by rw [Int32.toInt_toInt64, hy]
  have p1 : h * a ≤ 17592186044416 * 127 := Nat.mul_le_mul (by omega) a1
  have q1 : l * a ≤ 17592186044416 * 127 := Nat.mul_le_mul (by omega) a1
  obtain ⟨P, hP⟩ : ∃ P, h * a = P := ⟨_, rfl⟩
  obtain ⟨Q, hQ⟩ : ∃ Q, l * a = Q := ⟨_, rfl⟩
  have ePI : (h : Int) * a = P := by rw [← hP, Int.natCast_mul]
  have eQI : (l : Int) * a = Q := by rw [← hQ, Int.natCast_mul]
  rw [hP] at p1
  rw [hQ] at q1
  have eP : (Int64.ofNat h * x.toInt64).toInt = P := by rw [zmulJ (by rw [eH, ex, ePI]; omega) (by rw [eH, ex, ePI]; omega), eH, ex, ePI]
  have eQ : (Int64.ofNat l * x.toInt64).toInt = Q := by rw [zmulJ (by rw [eL, ex, eQI]; omega) (by rw [eL, ex, eQI]; omega), eL, ex, eQI]
  have eD : (Int64.ofNat h * x.toInt64 / y.toInt64).toInt = ((P / b : Nat) : Int) := by rw [zdivJ (by omega) (by omega), eP, ey, Int.natCast_ediv]
  have hdm := Nat.div_add_mod P b
  have hml := Nat.mod_lt P b0
  obtain ⟨d, hd⟩ : ∃ d, P / b = d := ⟨_, rfl⟩
  obtain ⟨m, hm⟩ : ∃ m, P % b = m := ⟨_, rfl⟩
  rw [hd, hm] at hdm
  rw [hm] at hml
  rw [hd] at eD
  have edb : (d : Int) * b = ((b * d : Nat) : Int) := by rw [Int.natCast_mul, Int.mul_comm]
  have eDb : (Int64.ofNat h * x.toInt64 / y.toInt64 * y.toInt64).toInt = ((b * d : Nat) : Int) := by rw [zmulJ (by rw [eD, ey, edb]; omega) (by rw [eD, ey, edb]; omega), eD, ey, edb]
  have eR : (Int64.ofNat h * x.toInt64 - Int64.ofNat h * x.toInt64 / y.toInt64 * y.toInt64).toInt = m := by rw [zsubJ (by rw [eP, eDb]; omega) (by rw [eP, eDb]; omega), eP, eDb]; omega
  have eS := sl_shl44 (x := Int64.ofNat h * x.toInt64 - Int64.ofNat h * x.toInt64 / y.toInt64 * y.toInt64) (by omega) (by omega)
  rw [eR] at eS
  have eSL : ((Int64.ofNat h * x.toInt64 - Int64.ofNat h * x.toInt64 / y.toInt64 * y.toInt64) <<< ((44 : Int32).toInt64 &&& 63) + Int64.ofNat l * x.toInt64).toInt = ((m * 17592186044416 + Q : Nat) : Int) := by rw [zaddJ (by rw [eS, eQ]; omega) (by rw [eS, eQ]; omega), eS, eQ]; omega
  have eW : (((Int64.ofNat h * x.toInt64 - Int64.ofNat h * x.toInt64 / y.toInt64 * y.toInt64) <<< ((44 : Int32).toInt64 &&& 63) + Int64.ofNat l * x.toInt64) / y.toInt64).toInt = (((m * 17592186044416 + Q) / b : Nat) : Int) := by rw [zdivJ (by omega) (by omega), eSL, ey, Int.natCast_ediv]
  obtain ⟨W, hW⟩ : ∃ W, (m * 17592186044416 + Q) / b = W := ⟨_, rfl⟩
  rw [hW] at eW
  have hWb : W ≤ m * 17592186044416 + Q := by rw [← hW]; exact Nat.div_le_self _ _
  have hT : t * a / b = d * 17592186044416 + W := by
    rw [← hW, et, Nat.add_mul, hQ, Nat.mul_right_comm, hP, ← hdm, show (b * d + m) * 17592186044416 + Q = b * (d * 17592186044416) + (m * 17592186044416 + Q) by rw [Nat.add_mul, Nat.mul_assoc]; omega, Nat.mul_add_div b0]
  have hdP : d ≤ P := by rw [← hd]; exact Nat.div_le_self _ _
  rw [hT]
  unfold zS1h zS1l
  rw [if_neg (by omega), if_neg (by omega)]
  unfold zSh zSl
  generalize Int64.ofNat h * x.toInt64 = A at *
  generalize ((A - A / y.toInt64 * y.toInt64) <<< ((44 : Int32).toInt64 &&& 63) + Int64.ofNat l * x.toInt64) / y.toInt64 = V at *
  constructor
  · refine Int64.toInt_inj.mp ?_
    have e1 := zsh44 V
    rw [eW] at e1
    rw [zaddJ (by rw [eD, e1]; omega) (by rw [eD, e1]; omega), eD, e1, zofI (by omega)]
    omega
  · refine Int64.toInt_inj.mp ?_
    rw [sl_and44 (by omega), eW, zofI (by omega)]
    omega
theorem sl_adp {V t k : Nat} {i : Int32} (hV : V < 79228162514264337593543950336) (ht : t < 309485009821345068724781056) (hi : i.toInt = k) (k0 : 0 < k) (k1 : k ≤ 127) :
    zAh (Int64.ofNat (V / 17592186044416)) (Int64.ofNat (V % 17592186044416)) (Int64.ofNat (t / 17592186044416)) (Int64.ofNat (t % 17592186044416)) i = Int64.ofNat ((V + t / k) / 17592186044416) ∧ zAl (Int64.ofNat (V % 17592186044416)) (Int64.ofNat (t / 17592186044416)) (Int64.ofNat (t % 17592186044416)) i = Int64.ofNat ((V + t / k) % 17592186044416) := by
  obtain ⟨h, hh⟩ : ∃ h, t / 17592186044416 = h := ⟨_, rfl⟩
  obtain ⟨l, hl⟩ : ∃ l, t % 17592186044416 = l := ⟨_, rfl⟩
  obtain ⟨H, hH⟩ : ∃ H, V / 17592186044416 = H := ⟨_, rfl⟩
  obtain ⟨L, hL⟩ : ∃ L, V % 17592186044416 = L := ⟨_, rfl⟩
  rw [hh, hl, hH, hL]
  have hb : h < 17592186044416 := by omega
  have lb : l < 17592186044416 := by omega
  have Lb : L < 17592186044416 := by omega
  have Hb : H < 4503599627370496 := by omega
  have et : t = h * 17592186044416 + l := by omega
  have eV : V = H * 17592186044416 + L := by omega
  have eh := zofI (n := h) (by omega)
  have el := zofI (n := l) (by omega)
  have eH := zofI (n := H) (by omega)
  have eL := zofI (n := L) (by omega)
  have ei : i.toInt64.toInt = (k : Int) := by rw [Int32.toInt_toInt64, hi]
  have eD : (Int64.ofNat h / i.toInt64).toInt = ((h / k : Nat) : Int) := by rw [zdivJ (by omega) (by omega), eh, ei, Int.natCast_ediv]
  have hdm := Nat.div_add_mod h k
  have hml := Nat.mod_lt h k0
  obtain ⟨d, hd⟩ : ∃ d, h / k = d := ⟨_, rfl⟩
  obtain ⟨m, hm⟩ : ∃ m, h % k = m := ⟨_, rfl⟩
  rw [hd, hm] at hdm
  rw [hm] at hml
  rw [hd] at eD
  have edb : (d : Int) * k = ((k * d : Nat) : Int) := by rw [Int.natCast_mul, Int.mul_comm]
  have eDb : (Int64.ofNat h / i.toInt64 * i.toInt64).toInt = ((k * d : Nat) : Int) := by rw [zmulJ (by rw [eD, ei, edb]; omega) (by rw [eD, ei, edb]; omega), eD, ei, edb]
  have eR : (Int64.ofNat h - Int64.ofNat h / i.toInt64 * i.toInt64).toInt = m := by rw [zsubJ (by rw [eh, eDb]; omega) (by rw [eh, eDb]; omega), eh, eDb]; omega
  have eS := sl_shl44 (x := Int64.ofNat h - Int64.ofNat h / i.toInt64 * i.toInt64) (by omega) (by omega)
  rw [eR] at eS
  have eSL : ((Int64.ofNat h - Int64.ofNat h / i.toInt64 * i.toInt64) <<< ((44 : Int32).toInt64 &&& 63) + Int64.ofNat l).toInt = ((m * 17592186044416 + l : Nat) : Int) := by rw [zaddJ (by rw [eS, el]; omega) (by rw [eS, el]; omega), eS, el]; omega
  have eW : (((Int64.ofNat h - Int64.ofNat h / i.toInt64 * i.toInt64) <<< ((44 : Int32).toInt64 &&& 63) + Int64.ofNat l) / i.toInt64).toInt = (((m * 17592186044416 + l) / k : Nat) : Int) := by rw [zdivJ (by omega) (by omega), eSL, ei, Int.natCast_ediv]
  obtain ⟨W, hW⟩ : ∃ W, (m * 17592186044416 + l) / k = W := ⟨_, rfl⟩
  rw [hW] at eW
  have hWb : W ≤ m * 17592186044416 + l := by rw [← hW]; exact Nat.div_le_self _ _
  have hdh : d ≤ h := by rw [← hd]; exact Nat.div_le_self _ _
  have hT : t / k = d * 17592186044416 + W := by
    rw [← hW, et, ← hdm, show (k * d + m) * 17592186044416 + l = k * (d * 17592186044416) + (m * 17592186044416 + l) by rw [Nat.add_mul, Nat.mul_assoc]; omega, Nat.mul_add_div k0]
  have eT : (Int64.ofNat L + ((Int64.ofNat h - Int64.ofNat h / i.toInt64 * i.toInt64) <<< ((44 : Int32).toInt64 &&& 63) + Int64.ofNat l) / i.toInt64).toInt = ((L + W : Nat) : Int) := by rw [zaddJ (by rw [eL, eW]; omega) (by rw [eL, eW]; omega), eL, eW]; omega
  rw [hT, eV]
  unfold zAh zAl
  generalize Int64.ofNat L + ((Int64.ofNat h - Int64.ofNat h / i.toInt64 * i.toInt64) <<< ((44 : Int32).toInt64 &&& 63) + Int64.ofNat l) / i.toInt64 = X at *
  constructor
  · refine Int64.toInt_inj.mp ?_
    have e1 := zsh44 X
    rw [eT] at e1
    have e2 : (Int64.ofNat h / i.toInt64 + X >>> ((44 : Int32).toInt64 &&& 63)).toInt = (d : Int) + (L + W : Nat) / 17592186044416 := by rw [zaddJ (by rw [eD, e1]; omega) (by rw [eD, e1]; omega), eD, e1]
    rw [zaddJ (by rw [eH, e2]; omega) (by rw [eH, e2]; omega), eH, e2, zofI (by omega)]
    omega
  · refine Int64.toInt_inj.mp ?_
    rw [sl_and44 (by omega), eT, zofI (by omega)]
    omega
theorem sl_of0 {n : Nat} (h : n < 9223372036854775808) : Int64.ofNat n = 0 ↔ n = 0 := by
  constructor
  · intro q
    have e := zofI h
    rw [q, show Int64.toInt 0 = 0 from rfl] at e
    omega
  · intro q
    rw [q]
    rfl
theorem sl_go {x y : Int32} {a b : Nat} (hx : x.toInt = a) (hy : y.toInt = b) (a1 : a ≤ 127) (b0 : 0 < b) (b1 : b < 262144) (hab : a ≤ b) : ∀ (n : Nat) (i : Int32) (t V : Nat), n ≤ 50 → t < 309485009821345068724781056 → V + n * 309485009821345068724781056 < 79228162514264337593543950336 → i.toInt = 101 - 2 * (n : Int) →
    zGo x y (n + 1) i (Int64.ofNat (t / 17592186044416)) (Int64.ofNat (t % 17592186044416)) (Int64.ofNat (V / 17592186044416)) (Int64.ofNat (V % 17592186044416)) = (Int64.ofNat (sl_gr a b n (101 - 2 * n) t V / 17592186044416), Int64.ofNat (sl_gr a b n (101 - 2 * n) t V % 17592186044416)) := by
  intro n
  induction n with
  | zero =>
    intro i t V _ _ _ hi
    rw [zGo, if_neg (fun q => by omega)]
    rfl
  | succ n ih =>
    intro i t V hn ht hV hi
    have hz : (Int64.ofNat (t / 17592186044416) = 0 ∧ Int64.ofNat (t % 17592186044416) = 0) ↔ t = 0 := by
      rw [sl_of0 (by omega), sl_of0 (by omega)]
      omega
    rw [zGo, sl_gr_s]
    by_cases h0 : t = 0
    · rw [if_neg (fun q => q.2 (hz.mpr h0)), if_pos h0]
    · rw [if_pos ⟨by omega, fun q => h0 (hz.mp q)⟩, if_neg h0, if_neg (by omega), if_neg (by omega)]
      obtain ⟨s1, s2⟩ := sl_shr ht hx hy a1 b0 b1
      have hfall : ∀ u : Nat, u * a / b ≤ u := fun u => Nat.div_le_of_le_mul (by rw [Nat.mul_comm b u]; exact Nat.mul_le_mul_left u hab)
      have ht1 := hfall t
      obtain ⟨s3, s4⟩ := sl_shr (t := t * a / b) (by omega) hx hy a1 b0 b1
      have ht2 := hfall (t * a / b)
      obtain ⟨g1, g2⟩ := sl_adp (V := V) (t := t) (k := 101 - 2 * (n + 1)) (i := i) (by omega) ht (by omega) (by omega) (by omega)
      have htk : t / (101 - 2 * (n + 1)) ≤ t := Nat.div_le_self _ _
      unfold zSwh zSwl
      rw [s1, s2, s3, s4, g1, g2, ih (i + 2) _ _ (by omega) (by omega) (by omega) (by rw [zadd_c (x := i) 2 2 rfl (by omega) (by omega)]; omega), show 101 - 2 * (n + 1) + 2 = 101 - 2 * n by omega]
theorem sl_ag_e {x y : Int32} {a b V : Nat} (hx : x.toInt = a) (hy : y.toInt = b) (a1 : a ≤ 127) (b0 : 0 < b) (b1 : b < 262144) (hab : a ≤ b) (hV : V < 15845632502852867518708790067) :
    zAg (Int64.ofNat (V / 17592186044416)) (Int64.ofNat (V % 17592186044416)) x y = (Int64.ofNat (sl_ag a b V / 17592186044416), Int64.ofNat (sl_ag a b V % 17592186044416)) := by
  unfold zAg
  by_cases h : a = 0
  · have e : sl_ag a b V = V := by
      show sl_gr a b 50 1 (268815263994367720190991274 * a / b) V = V
      rw [h, Nat.mul_zero, Nat.zero_div, sl_gr_s, if_pos rfl]
    rw [if_pos (by omega), e]
  · rw [if_neg (by omega)]
    obtain ⟨s1, s2⟩ := sl_shr (t := 268815263994367720190991274) (by decide) hx hy a1 b0 b1
    have hF1 : Int64.ofNat (268815263994367720190991274 / 17592186044416) = 15280378647410 := by decide
    have hF2 : Int64.ofNat (268815263994367720190991274 % 17592186044416) = 9283927628714 := by decide
    rw [hF1, hF2] at s1 s2
    have hfall : 268815263994367720190991274 * a / b ≤ 268815263994367720190991274 := Nat.div_le_of_le_mul (by rw [Nat.mul_comm b]; exact Nat.mul_le_mul_left _ hab)
    have hT : 268815263994367720190991274 * a / b < 309485009821345068724781056 := Nat.lt_of_le_of_lt hfall (by decide)
    rw [s1, s2, sl_go hx hy a1 b0 b1 hab 50 1 (268815263994367720190991274 * a / b) V (Nat.le_refl _) hT (by omega) (by decide)]
    rfl
theorem sl_T_lt (k : Nat) : sl_T k < 309485009821345068724781056 := Nat.mod_lt _ (by decide)
/-- the class's table, as it is -/
theorem sl_tab_e : ∀ k : Nat, k < 900 → zTab k = (Int64.ofNat (sl_T k / 17592186044416), Int64.ofNat (sl_T k % 17592186044416))
  | 0, _ => by
    rw [(sl_tck_at sl_tck_ok).1]
    rfl
  | k + 1, h => by
    have hT := (sl_tck_at sl_tck_ok).2 k (by omega)
    have hk := sl_T_lt k
    have e32 : (Int32.ofNat (k + 1)).toInt = ((k + 1 : Nat) : Int) := Int32.toInt_ofNat_of_lt (by omega)
    have e1 : (100 + Int32.ofNat (k + 1)).toInt = 101 + (k : Int) := by rw [zaddI (by rw [e32, show Int32.toInt 100 = 100 from rfl]; omega) (by rw [e32, show Int32.toInt 100 = 100 from rfl]; omega), e32, show Int32.toInt 100 = 100 from rfl]; omega
    have e2 : (2 * (100 + Int32.ofNat (k + 1))).toInt = 202 + 2 * (k : Int) := by rw [zmulI (by rw [e1, show Int32.toInt 2 = 2 from rfl]; omega) (by rw [e1, show Int32.toInt 2 = 2 from rfl]; omega), e1, show Int32.toInt 2 = 2 from rfl]; omega
    have e3 : (2 * (100 + Int32.ofNat (k + 1)) - 1).toInt = ((201 + 2 * k : Nat) : Int) := by rw [zsubI (by rw [e2, show Int32.toInt 1 = 1 from rfl]; omega) (by rw [e2, show Int32.toInt 1 = 1 from rfl]; omega), e2, show Int32.toInt 1 = 1 from rfl]; omega
    rw [zTab, sl_tab_e k (by omega), hT]
    exact sl_ag_e (a := 1) (b := 201 + 2 * k) rfl e3 (by omega) (by omega) (by omega) (by omega) (by omega)
