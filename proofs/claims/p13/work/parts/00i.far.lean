/-! both sides' logarithms fall alike (wip/places) -/
theorem sl_gr_V (x y : Nat) : ∀ n i t V c : Nat, sl_gr x y n i t (V + c) = sl_gr x y n i t V + c
  | 0, _, _, _, _ => rfl
  | n + 1, i, t, V, c => by
    rw [sl_gr_s, sl_gr_s]
    by_cases h : t = 0
    · rw [if_pos h, if_pos h]
    · rw [if_neg h, if_neg h, show V + c + t / i = V + t / i + c by omega, sl_gr_V x y n]
theorem sl_gr_10 (x y : Nat) : ∀ n i t V : Nat, sl_gr (10 * x) (10 * y) n i t V = sl_gr x y n i t V
  | 0, _, _, _ => rfl
  | n + 1, i, t, V => by
    have e : ∀ u : Nat, u * (10 * x) / (10 * y) = u * x / y := fun u => by rw [Nat.mul_left_comm, Nat.mul_div_mul_left _ _ (by decide)]
    rw [sl_gr_s, sl_gr_s, e, e, sl_gr_10 x y n]
theorem sl_ag_V (x y V c : Nat) : sl_ag x y (V + c) = sl_ag x y V + c := sl_gr_V x y 50 1 _ V c
theorem sl_ag_10 (x y V : Nat) : sl_ag (10 * x) (10 * y) V = sl_ag x y V := by
  show sl_gr (10 * x) (10 * y) 50 1 (268815263994367720190991274 * (10 * x) / (10 * y)) V = sl_gr x y 50 1 (268815263994367720190991274 * x / y) V
  rw [sl_gr_10, Nat.mul_left_comm, Nat.mul_div_mul_left _ _ (by decide)]
theorem sl_ag_0 (y V : Nat) : sl_ag 0 y V = V := by
  show sl_gr 0 y 50 1 (268815263994367720190991274 * 0 / y) V = V
  rw [Nat.mul_zero, Nat.zero_div, sl_gr_s, if_pos rfl]
theorem sl_C_e (v u z : Nat) (hu : sl_un v = u) (hz : sl_ze v = z) : sl_C v = sl_ag (v - v / u * u) (v + v / u * u) (sl_T (v / u - 100) + z * 309485009821345068724781056) := by
  show sl_ag (v - v / sl_un v * sl_un v) (v + v / sl_un v * sl_un v) (sl_T (v / sl_un v - 100) + sl_ze v * 309485009821345068724781056) = _
  rw [hu, hz]
theorem sl_bt {a b : Nat} (h : a ≤ b) : Nat.ble a b = true := Nat.ble_eq.mpr h
theorem sl_bf {a b : Nat} (h : b < a) : Nat.ble a b = false := Bool.eq_false_iff.mpr (fun q => by have := Nat.ble_eq.mp q; omega)
theorem sl_uz {v : Nat} : (v < 1000 → sl_un v = 1 ∧ sl_ze v = 0) ∧ (1000 ≤ v → v < 10000 → sl_un v = 10 ∧ sl_ze v = 1) ∧ (10000 ≤ v → v < 100000 → sl_un v = 100 ∧ sl_ze v = 2) ∧ (100000 ≤ v → sl_un v = 1000 ∧ sl_ze v = 3) := by
  unfold sl_un sl_ze
  refine ⟨fun h => ?_, fun h g => ?_, fun h g => ?_, fun h => ?_⟩
  · rw [sl_bf h]; exact ⟨rfl, rfl⟩
  · rw [sl_bt h, sl_bf g]; exact ⟨rfl, rfl⟩
  · rw [sl_bt (show 1000 ≤ v by omega), sl_bt h, sl_bf g]; exact ⟨rfl, rfl⟩
  · rw [sl_bt (show 1000 ≤ v by omega), sl_bt (show 10000 ≤ v by omega), sl_bt h]; exact ⟨rfl, rfl⟩
theorem sl_C1_e {v : Nat} (h1 : v < 1000) : sl_C v = sl_T (v - 100) := by
  obtain ⟨e1, e2⟩ := sl_uz.1 h1
  rw [sl_C_e v 1 0 e1 e2, Nat.div_one, Nat.mul_one, Nat.sub_self, sl_ag_0, Nat.zero_mul, Nat.add_zero]
theorem sl_C2_e {v : Nat} (h0 : 1000 ≤ v) (h1 : v < 10000) : sl_C v = sl_ag (v - v / 10 * 10) (v + v / 10 * 10) (sl_T (v / 10 - 100)) + 309485009821345068724781056 := by
  obtain ⟨e1, e2⟩ := sl_uz.2.1 h0 h1
  rw [sl_C_e v 10 1 e1 e2, Nat.one_mul, sl_ag_V]
theorem sl_C3_e {v : Nat} (h0 : 10000 ≤ v) (h1 : v < 100000) : sl_C v = sl_ag (v - v / 100 * 100) (v + v / 100 * 100) (sl_T (v / 100 - 100)) + 2 * 309485009821345068724781056 := by
  obtain ⟨e1, e2⟩ := sl_uz.2.2.1 h0 h1
  rw [sl_C_e v 100 2 e1 e2, sl_ag_V]
theorem sl_C_10a {v : Nat} (h0 : 100 ≤ v) (h1 : v < 1000) : sl_C (10 * v) = sl_C v + 309485009821345068724781056 := by
  have e1 := sl_C1_e h1
  have e2 := sl_C2_e (v := 10 * v) (by omega) (by omega)
  rw [show 10 * v / 10 = v by omega, show 10 * v - v * 10 = 0 by omega, sl_ag_0] at e2
  omega
theorem sl_C_10b {v : Nat} (h0 : 1000 ≤ v) (h1 : v < 10000) : sl_C (10 * v) = sl_C v + 309485009821345068724781056 := by
  have e1 := sl_C2_e h0 h1
  have e2 := sl_C3_e (v := 10 * v) (by omega) (by omega)
  rw [show 10 * v / 100 = v / 10 by omega, show 10 * v - v / 10 * 100 = 10 * (v - v / 10 * 10) by omega, show 10 * v + v / 10 * 100 = 10 * (v + v / 10 * 10) by omega, sl_ag_10] at e2
  omega
theorem sl_C_5 : sl_C 100000 = sl_C 10000 + 309485009821345068724781056 := by
  obtain ⟨e1, e2⟩ := (sl_uz (v := 100000)).2.2.2 (by omega)
  have e3 := sl_C3_e (v := 10000) (by omega) (by omega)
  have e5 := sl_C_e 100000 1000 3 e1 e2
  have t1 : (100000 : Nat) - 100000 / 1000 * 1000 = 0 := by decide
  have t2 : (10000 : Nat) - 10000 / 100 * 100 = 0 := by decide
  have t3 : (100000 : Nat) / 1000 - 100 = 0 := by decide
  have t4 : (10000 : Nat) / 100 - 100 = 0 := by decide
  rw [t1] at e5
  try rw [t3] at e5
  rw [sl_ag_0] at e5
  rw [t2] at e3
  try rw [t4] at e3
  rw [sl_ag_0] at e3
  generalize sl_T 0 = t at *
  generalize sl_C 100000 = a at *
  generalize sl_C 10000 = b at *
  clear e1 e2 t1 t2 t3 t4
  omega
/-- five figures, three figures -/
theorem sl_n5 {v : Nat} (h0 : 100 ≤ v) (h1 : v ≤ 100000) : ∃ (v5 a b : Nat) (z : Int), 10000 ≤ v5 ∧ v5 < 100000 ∧ v5 * 10 ^ b = v * 10 ^ a ∧ (sl_C v5 : Int) = sl_C v + z * 309485009821345068724781056 := by
  rcases (show v < 1000 ∨ (1000 ≤ v ∧ v < 10000) ∨ (10000 ≤ v ∧ v < 100000) ∨ v = 100000 by omega) with h | h | h | h
  · refine ⟨10 * (10 * v), 2, 0, 2, by omega, by omega, by omega, ?_⟩
    rw [sl_C_10b (v := 10 * v) (by omega) (by omega), sl_C_10a h0 h]
    omega
  · refine ⟨10 * v, 1, 0, 1, by omega, by omega, by omega, ?_⟩
    rw [sl_C_10b h.1 h.2]
    omega
  · exact ⟨v, 0, 0, 0, h.1, h.2, rfl, by omega⟩
  · subst h
    refine ⟨10000, 0, 1, -1, by omega, by omega, rfl, ?_⟩
    rw [sl_C_5]
    omega
theorem sl_n3 {g : Nat} (h0 : 10 ≤ g) (h1 : g ≤ 990) : ∃ (f a : Nat) (z : Int), 100 ≤ f ∧ f ≤ 990 ∧ f * 10 ^ a = 10 * g ∧ (sl_C f : Int) = sl_C (10 * g) + z * 309485009821345068724781056 := by
  rcases (show g < 100 ∨ 100 ≤ g by omega) with h | h
  · exact ⟨10 * g, 0, 0, by omega, by omega, by omega, by omega⟩
  · refine ⟨g, 1, -1, h, h1, by omega, ?_⟩
    rw [sl_C_10a h (by omega)]
    omega
theorem sl_far0 {a b L N : Int} {u w : Nat} (hu : (u : Int) = a % 154742504910672534362390528 / 262144) (hw : (w : Int) = b % 154742504910672534362390528 / 262144) (hL : 0 < L) (hL2 : L ≤ 50000)
    (h : sl_Gp ((u + (590295810358705651712 - w)) % 590295810358705651712)) : 111224553472 ≤ L * (2 * (a - b)) - N * 309485009821345068724781056 ∨ 111224553472 ≤ N * 309485009821345068724781056 - L * (2 * (a - b)) := by
  have hwb : w < 590295810358705651712 := by omega
  obtain ⟨X, hX⟩ : ∃ X, (u + (590295810358705651712 - w)) % 590295810358705651712 = X := ⟨_, rfl⟩
  rw [hX] at h
  obtain ⟨k, hk⟩ : ∃ k : Int, (u : Int) - w = X + k * 590295810358705651712 := ⟨((u + (590295810358705651712 - w)) / 590295810358705651712 : Nat) - 1, by omega⟩
  obtain ⟨ea, qa, hea, hea0, hea1⟩ : ∃ ea qa : Int, a = qa * 154742504910672534362390528 + u * 262144 + ea ∧ 0 ≤ ea ∧ ea < 262144 := ⟨a % 262144, a / 154742504910672534362390528, by omega, by omega, by omega⟩
  obtain ⟨eb, qb, heb, heb0, heb1⟩ : ∃ eb qb : Int, b = qb * 154742504910672534362390528 + w * 262144 + eb ∧ 0 ≤ eb ∧ eb < 262144 := ⟨b % 262144, b / 154742504910672534362390528, by omega, by omega, by omega⟩
  have e1 : 2 * (a - b) = (qa - qb + k) * 309485009821345068724781056 + (X : Int) * 524288 + 2 * (ea - eb) := by
    have : (u : Int) = X + k * 590295810358705651712 + w := by omega
    rw [hea, heb, this]
    omega
  have e2 : L * (2 * (a - b)) = L * (qa - qb + k) * 309485009821345068724781056 + L * X * 524288 + L * (2 * (ea - eb)) := by
    rw [e1, Int.mul_add, Int.mul_add, ← Int.mul_assoc, ← Int.mul_assoc]
  have b1 : L * (2 * (ea - eb)) ≤ L * 524288 := Int.mul_le_mul_of_nonneg_left (by omega) (by omega)
  have b2 : L * (-524288) ≤ L * (2 * (ea - eb)) := Int.mul_le_mul_of_nonneg_left (by omega) (by omega)
  have hg := h L (N - L * (qa - qb + k)) hL hL2
  rw [Int.sub_mul] at hg
  rw [e2]
  rw [Int.mul_neg] at b2
  generalize L * (2 * (ea - eb)) = R at *
  generalize L * (qa - qb + k) = Q at *
  generalize L * (X : Int) = Z at *
  omega
theorem sl_far {v g : Nat} (h0 : 100 ≤ v) (h1 : v ≤ 100000) (g0 : 10 ≤ g) (g1 : g ≤ 990) (hne : ∀ i j : Nat, v * 10 ^ i ≠ 10 * g * 10 ^ j) {L : Int} (N : Int) (hL : 0 < L) (hL2 : L ≤ 50000) :
    111224553472 ≤ L * (2 * ((sl_C v : Int) - sl_C (10 * g))) - N * 309485009821345068724781056 ∨ 111224553472 ≤ N * 309485009821345068724781056 - L * (2 * ((sl_C v : Int) - sl_C (10 * g))) := by
  obtain ⟨v5, a, b, z, v0, v1, hv, ev⟩ := sl_n5 h0 h1
  obtain ⟨f, c, y, f0, f1, hf, ef⟩ := sl_n3 g0 g1
  have hn : v5 ≠ 100 * f := fun q => hne (a + c) (b + 2) (by
    rw [Nat.pow_add, ← Nat.mul_assoc, ← hv, q, ← hf, Nat.pow_add]
    generalize 10 ^ b = B
    generalize 10 ^ c = C
    rw [show (10 : Nat) ^ 2 = 100 from rfl, ← Nat.mul_assoc, Nat.mul_right_comm (100 * f) B C, Nat.mul_right_comm (f * C) B 100, Nat.mul_right_comm f C 100, Nat.mul_comm f 100])
  have hG := sl_gp v0 v1 f0 f1 hn
  have hu : ((sl_u v5 : Nat) : Int) = (sl_C v5 : Int) % 154742504910672534362390528 / 262144 := by
    show ((sl_C v5 % 154742504910672534362390528 / 262144 : Nat) : Int) = _
    omega
  have hw : ((sl_u f : Nat) : Int) = (sl_C f : Int) % 154742504910672534362390528 / 262144 := by
    show ((sl_C f % 154742504910672534362390528 / 262144 : Nat) : Int) = _
    omega
  have h := sl_far0 (L := L) (N := N + L * (2 * (z - y))) hu hw hL hL2 hG
  have e : L * (2 * ((sl_C v5 : Int) - sl_C f)) = L * (2 * ((sl_C v : Int) - sl_C (10 * g))) + L * (2 * (z - y)) * 309485009821345068724781056 := by
    rw [ev, ef, Int.mul_assoc L, ← Int.mul_add]
    congr 1
    omega
  rw [e, Int.add_mul] at h
  generalize L * (2 * ((sl_C v : Int) - sl_C (10 * g))) = P at *
  generalize L * (2 * (z - y)) = Q at *
  omega
theorem sl_cm_e {v : Nat} (h0 : 100 ≤ v) (h1 : v ≤ 100000) : (sl_C v : Int) * 2302585092994045684017991454684364207601101412 - ((sl_M v : Int) - sl_M 100) * 309485009821345068724781056 ≤ 37725554163614444486950771993548623177336445534208 ∧ ((sl_M v : Int) - sl_M 100) * 309485009821345068724781056 - (sl_C v : Int) * 2302585092994045684017991454684364207601101412 ≤ 37725554163614444486950771993548623177336445534208 := by
  have h := sl_cm_all h0 h1
  unfold sl_cm at h
  rw [Bool.and_eq_true] at h
  obtain ⟨hM0, h⟩ := h
  have hM : 4605170185988091368035982909368728415202202832 ≤ sl_M v := Nat.ble_eq.mp hM0
  have e100 : sl_M 100 = 4605170185988091368035982909368728415202202832 := sl_M100
  have h' := Nat.ble_eq.mp (show Nat.ble (sl_C v * 2302585092994045684017991454684364207601101412 - (sl_M v - 4605170185988091368035982909368728415202202832) * 309485009821345068724781056 + ((sl_M v - 4605170185988091368035982909368728415202202832) * 309485009821345068724781056 - sl_C v * 2302585092994045684017991454684364207601101412)) 37725554163614444486950771993548623177336445534208 = true from h)
  rw [e100]
  have e1 : ((sl_M v : Int) - (4605170185988091368035982909368728415202202832 : Nat)) = ((sl_M v - 4605170185988091368035982909368728415202202832 : Nat) : Int) := by omega
  rw [e1]
  generalize sl_M v - 4605170185988091368035982909368728415202202832 = m at *
  generalize sl_C v = c at *
  omega
/-- what the class compares, and what the reference compares -/
theorem sl_same {v g : Nat} (h0 : 100 ≤ v) (h1 : v ≤ 100000) (g0 : 10 ≤ g) (g1 : g ≤ 990) (hne : ∀ i j : Nat, v * 10 ^ i ≠ 10 * g * 10 ^ j) {L : Int} (N : Int) (hL : 0 < L) (hL2 : L ≤ 50000) :
    N * 309485009821345068724781056 ≤ L * (2 * ((sl_C v : Int) - sl_C (10 * g))) ↔ N * 2302585092994045684017991454684364207601101412 ≤ L * (2 * ((sl_M v : Int) - sl_M (10 * g))) := by
  have hf := sl_far h0 h1 g0 g1 hne N hL hL2
  obtain ⟨c1, c2⟩ := sl_cm_e h0 h1
  obtain ⟨d1, d2⟩ := sl_cm_e (v := 10 * g) (by omega) (by omega)
  obtain ⟨R, hR⟩ : ∃ R : Int, R = ((sl_C v : Int) - sl_C (10 * g)) * 2302585092994045684017991454684364207601101412 - ((sl_M v : Int) - sl_M (10 * g)) * 309485009821345068724781056 := ⟨_, rfl⟩
  have r1 : R ≤ 2 * 37725554163614444486950771993548623177336445534208 := by rw [hR]; generalize sl_M 100 = m at *; omega
  have r2 : -(2 * 37725554163614444486950771993548623177336445534208) ≤ R := by rw [hR]; generalize sl_M 100 = m at *; omega
  have s1 : L * R ≤ 50000 * (2 * 37725554163614444486950771993548623177336445534208) := Int.le_trans (Int.mul_le_mul_of_nonneg_left r1 (by omega)) (Int.mul_le_mul_of_nonneg_right hL2 (by omega))
  have s2 : -(50000 * (2 * 37725554163614444486950771993548623177336445534208)) ≤ L * R := by
    have t1 : L * (-(2 * 37725554163614444486950771993548623177336445534208)) ≤ L * R := Int.mul_le_mul_of_nonneg_left r2 (by omega)
    have t2 : L * (2 * 37725554163614444486950771993548623177336445534208) ≤ 50000 * (2 * 37725554163614444486950771993548623177336445534208) := Int.mul_le_mul_of_nonneg_right hL2 (by omega)
    rw [Int.mul_neg] at t1
    omega
  have e : L * (2 * ((sl_C v : Int) - sl_C (10 * g))) * 2302585092994045684017991454684364207601101412 = L * (2 * ((sl_M v : Int) - sl_M (10 * g))) * 309485009821345068724781056 + 2 * (L * R) := by
    rw [hR]
    generalize (sl_C v : Int) - sl_C (10 * g) = p
    generalize (sl_M v : Int) - sl_M (10 * g) = q
    have a1 : L * (2 * p) * 2302585092994045684017991454684364207601101412 = 2 * (L * (p * 2302585092994045684017991454684364207601101412)) := by rw [Int.mul_left_comm L 2 p, Int.mul_assoc 2, Int.mul_assoc L]
    have a2 : L * (2 * q) * 309485009821345068724781056 = 2 * (L * (q * 309485009821345068724781056)) := by rw [Int.mul_left_comm L 2 q, Int.mul_assoc 2, Int.mul_assoc L]
    rw [a1, a2, Int.mul_sub]
    generalize L * (p * 2302585092994045684017991454684364207601101412) = x
    generalize L * (q * 309485009821345068724781056) = y
    omega
  generalize L * (2 * ((sl_C v : Int) - sl_C (10 * g))) = P at *
  generalize L * (2 * ((sl_M v : Int) - sl_M (10 * g))) = Q at *
  generalize L * R = T at *
  constructor
  · intro h
    rcases hf with hf | hf <;> omega
  · intro h
    rcases hf with hf | hf <;> omega
