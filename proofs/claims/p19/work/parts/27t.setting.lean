/-! the settings one by one (wip/gen16/spec_r.py) -/
def zTs : List Nat := [4294967296, 4898947072, 5721030656, 6425673728, 8573157376, 8573157376, 8573157376, 8573157376, 2194728288256, 2199014866944, 2199006478336, 2199006478336, 2199006478336, 2199014866944, 2199006478336, 2199006478336, 1464583847936, 6597066620928, 1466009911296, 6597052989440, 2199006478336, 2199006478336, 2199006478336, 2199006478336, 2194728288256, 2199014866944, 2199006478336, 2199006478336, 2199006478336, 2199014866944, 2199006478336, 2199006478336, 313532612608, 314136592384, 26388266483712, 26388262289408, 4398029733888, 4398029733888, 4398029733888, 4398029733888, 2194728288256, 2199014866944, 2199006478336, 2199006478336, 4398029733888, 4398038122496, 4398029733888, 4398029733888, 2186138353664, 2199020109824, 2199010672640, 2199006478336, 2199006478336, 2199006478336, 2199006478336, 2199006478336, 2194728288256, 2199014866944, 2199006478336, 2199006478336, 2199006478336, 2199014866944, 2199006478336, 2199006478336]
def zSo (fl : Nat → Bool) (C : List Nat) (m : Nat) : Bool := (List.range 65).all (fun k => (!(decide (24 ≤ k) && decide (k ≤ 40)) || C.getD k 999 == 999 || m.testBit k) && (!m.testBit k || (decide (16 ≤ k) && decide (k ≤ 48) && decide (C.getD k 999 < 999) && (List.range 7).all (fun i => i == 3 || !fl i || !decide (C.getD (k + 3 - i) 999 < C.getD k 999) || m.testBit (k + 3 - i)))))
theorem zSo_ok : ∀ b0 b1 b2 b4 b5 b6 : Bool, zSo (zFl b0 b1 b2 b4 b5 b6) (zTb (zBn b0 + 2 * zBn b1 + 4 * zBn b2 + 8 * zBn b4 + 16 * zBn b5 + 32 * zBn b6)) (zTs.getD (zBn b0 + 2 * zBn b1 + 4 * zBn b2 + 8 * zBn b4 + 16 * zBn b5 + 32 * zBn b6) 0) = true := by decide +kernel
/-- powers that a row of settings may come by -/
def zSo2 (fl : Nat → Bool) (C : Nat → Nat) (S : Nat → Bool) : Prop := (∀ k, 24 ≤ k → k ≤ 40 → C k < 999 → S k = true) ∧ ∀ k, k < 65 → S k = true → (16 ≤ k ∧ k ≤ 48) ∧ C k < 999 ∧ ∀ i, i < 7 → i ≠ 3 → fl i = true → C (k + 3 - i) < C k → S (k + 3 - i) = true
theorem zSo_q {fl : Nat → Bool} {C : List Nat} {D : Nat → Nat} {m : Nat} (h : zSo fl C m = true) (hD : ∀ k, k < 65 → D k = C.getD k 999) : zSo2 fl D (fun k => m.testBit k) := by
  simp only [zSo, Bool.and_eq_true, List.all_eq_true, List.mem_range, Bool.or_eq_true, beq_iff_eq, decide_eq_true_eq, Bool.not_eq_true', Bool.and_eq_false_iff, decide_eq_false_iff_not] at h
  refine ⟨fun k h1 h2 h3 => ?_, fun k hk hs => ?_⟩
  · rw [hD k (by omega)] at h3
    rcases (h k (by omega)).1 with ((e | e) | e) | e
    · exact absurd h1 e
    · exact absurd h2 e
    · omega
    · exact e
  · have hs2 : m.testBit k = true := hs
    rcases (h k hk).2 with e | ⟨⟨⟨e1, e2⟩, e3⟩, e4⟩
    · rw [hs2] at e; exact absurd e (by decide)
    · refine ⟨⟨e1, e2⟩, by rw [hD k hk]; exact e3, fun i hi hi3 hf hC => ?_⟩
      rw [hD k hk, hD (k + 3 - i) (by omega)] at hC
      rcases e4 i hi with ((e | e) | e) | e
      · exact absurd e hi3
      · rw [hf] at e; exact absurd e (by decide)
      · exact absurd hC e
      · exact e
theorem zSo_spr (B : Nat) (ι : Nat → Nat → Int32) (c : Nat) : ∃ S, zSo2 (zFs B ι c) (zSpr (zFs B ι c) 29575) S := by
  obtain ⟨h1, h2⟩ := zTb_ok (zLb B ι 3 true c) (zLb B ι 2 true c) (zLb B ι 1 true c) (zLb B ι 1 false c) (zLb B ι 2 false c) (zLb B ι 3 false c)
  have h3 := zSo_ok (zLb B ι 3 true c) (zLb B ι 2 true c) (zLb B ι 1 true c) (zLb B ι 1 false c) (zLb B ι 2 false c) (zLb B ι 3 false c)
  exact ⟨_, zSo_q h3 (fun k hk => (zCe_spr h1 h2 k hk).1)⟩
/-- the power that setting n moves, moved -/
def zMw (k : Nat → Nat) (n : Nat) : Nat := if n < 100 then k (n / 10 % 10) - n % 10 else k (n / 10 % 10) + n % 10
def zMvF (k : Nat → Nat) (n : Nat) : Nat → Nat := fun j => if j = n / 10 % 10 then zMw k n else k j
def zVn (fl : Nat → Bool) (C : Nat → Nat) (k : Nat → Nat) (n : Nat) : Prop := ((1 ≤ n % 10 ∧ n % 10 ≤ 3) ∧ n / 10 % 10 < 3 ∧ n < 200) ∧ fl (if n < 100 then 3 + n % 10 else 3 - n % 10) = true ∧ C (zMw k n) < C (k (n / 10 % 10))
theorem zVn_f {fl : Nat → Bool} {C : Nat → Nat} {S : Nat → Bool} {k : Nat → Nat} {n : Nat} (hq : zCqF fl C) (hS : zSo2 fl C S) (hk : ∀ j, j < 3 → S (k j) = true ∧ k j < 65) (hv : zVn fl C k n) : S (zMw k n) = true ∧ C (zMw k n) + 1 = C (k (n / 10 % 10)) ∧ 16 ≤ zMw k n ∧ zMw k n ≤ 48 := by
  obtain ⟨⟨⟨h1, h2⟩, h3, h4⟩, h5, h6⟩ := hv
  obtain ⟨k1, k2⟩ := hk (n / 10 % 10) h3
  obtain ⟨g1, g2, g3⟩ := hS.2 _ k2 k1
  have key : ∃ i, i < 7 ∧ i ≠ 3 ∧ fl i = true ∧ zMw k n = k (n / 10 % 10) + 3 - i ∧ zMw k n + i - 3 = k (n / 10 % 10) ∧ 3 ≤ zMw k n + i := by
    unfold zMw
    by_cases e : n < 100
    · rw [if_pos e] at h5 ⊢
      exact ⟨3 + n % 10, by omega, by omega, h5, by omega, by omega, by omega⟩
    · rw [if_neg e] at h5 ⊢
      exact ⟨3 - n % 10, by omega, by omega, h5, by omega, by omega, by omega⟩
  obtain ⟨i, i1, i2, i3, i4, i5, i6⟩ := key
  have hs : S (zMw k n) = true := by
    rw [i4] at h6 ⊢
    exact g3 i i1 i2 i3 h6
  have hw : zMw k n < 65 := by omega
  obtain ⟨w1, w2, -⟩ := hS.2 _ hw hs
  have he := hq.2.2.1 (zMw k n) hw i i1 (zEd_iff.mpr ⟨i2, i6, by omega, i3⟩)
  rw [i5] at he
  exact ⟨hs, by omega, w1⟩
theorem zVn_ex {fl : Nat → Bool} {C : Nat → Nat} {S : Nat → Bool} {k : Nat → Nat} (hq : zCqF fl C) (hS : zSo2 fl C S) (hk : ∀ j, j < 3 → S (k j) = true ∧ k j < 65) (hp : 0 < C (k 0) + C (k 1) + C (k 2)) : ∃ n, n < 124 ∧ zVn fl C k n := by
  obtain ⟨j, hj, h0⟩ : ∃ j, j < 3 ∧ 0 < C (k j) := by
    rcases (show 0 < C (k 0) ∨ 0 < C (k 1) ∨ 0 < C (k 2) by omega) with e | e | e
    · exact ⟨0, by omega, e⟩
    · exact ⟨1, by omega, e⟩
    · exact ⟨2, by omega, e⟩
  obtain ⟨k1, k2⟩ := hk j hj
  obtain ⟨g1, g2, g3⟩ := hS.2 _ k2 k1
  rcases hq.2.2.2 (k j) k2 g2 with e | ⟨i, i1, i2, i3, i4, i5, -, -⟩
  · rw [e, hq.1] at h0; omega
  · have i6 := zEd_iff.mp i4
    by_cases e : 3 < i
    · refine ⟨10 * j + (i - 3), by omega, ⟨⟨by omega, by omega⟩, by omega, by omega⟩, ?_, ?_⟩
      · rw [if_pos (by omega), show 3 + (10 * j + (i - 3)) % 10 = i by omega]; exact i6.2.2.2
      · unfold zMw
        rw [if_pos (by omega), show (10 * j + (i - 3)) / 10 % 10 = j by omega, show k j - (10 * j + (i - 3)) % 10 = k j + 3 - i by omega]; omega
    · refine ⟨100 + 10 * j + (3 - i), by omega, ⟨⟨by omega, by omega⟩, by omega, by omega⟩, ?_, ?_⟩
      · rw [if_neg (by omega), show 3 - (100 + 10 * j + (3 - i)) % 10 = i by omega]; exact i6.2.2.2
      · unfold zMw
        rw [if_neg (by omega), show (100 + 10 * j + (3 - i)) / 10 % 10 = j by omega, show k j + (100 + 10 * j + (3 - i)) % 10 = k j + 3 - i by omega]; omega
/-- t settings made, each the first that comes nearer; the last is n -/
def zSq (fl : Nat → Bool) (C : Nat → Nat) (k0 : Nat → Nat) : Nat → (Nat → Nat) → Nat → Prop
  | 0, k, n => k = k0 ∧ n = 0
  | t + 1, k, n => ∃ k1 n1, zSq fl C k0 t k1 n1 ∧ zVn fl C k1 n ∧ (∀ m, m < n → ¬ zVn fl C k1 m) ∧ k = zMvF k1 n
theorem zSq_det {fl : Nat → Bool} {C : Nat → Nat} {k0 : Nat → Nat} : ∀ t {k k' : Nat → Nat} {n n' : Nat}, zSq fl C k0 t k n → zSq fl C k0 t k' n' → k = k' ∧ n = n' := by
  intro t
  induction t with
  | zero => intro k k' n n' h h'; exact ⟨h.1.trans h'.1.symm, h.2.trans h'.2.symm⟩
  | succ t ih =>
    rintro k k' n n' ⟨k1, n1, h1, h2, h3, h4⟩ ⟨k2, n2, g1, g2, g3, g4⟩
    obtain ⟨e1, -⟩ := ih h1 g1
    subst e1
    have e2 : n = n' := by
      rcases Nat.lt_trichotomy n n' with e | e | e
      · exact absurd h2 (g3 n e)
      · exact e
      · exact absurd g2 (h3 n' e)
    subst e2
    exact ⟨h4.trans g4.symm, rfl⟩
theorem zSq_inv {fl : Nat → Bool} {C : Nat → Nat} {S : Nat → Bool} {k0 : Nat → Nat} (hq : zCqF fl C) (hS : zSo2 fl C S) (h0 : ∀ j, j < 3 → S (k0 j) = true ∧ k0 j < 65) : ∀ t {k : Nat → Nat} {n : Nat}, zSq fl C k0 t k n → (∀ j, j < 3 → S (k j) = true ∧ k j < 65) ∧ C (k 0) + C (k 1) + C (k 2) + t = C (k0 0) + C (k0 1) + C (k0 2) := by
  intro t
  induction t with
  | zero => rintro k n ⟨rfl, -⟩; exact ⟨h0, rfl⟩
  | succ t ih =>
    rintro k n ⟨k1, n1, h1, h2, h3, rfl⟩
    obtain ⟨i1, i2⟩ := ih h1
    obtain ⟨f1, f2, f3, f4⟩ := zVn_f hq hS i1 h2
    refine ⟨fun j hj => ?_, ?_⟩
    · unfold zMvF
      by_cases e : j = n / 10 % 10
      · rw [if_pos e]; exact ⟨f1, by omega⟩
      · rw [if_neg e]; exact i1 j hj
    · unfold zMvF
      have h5 := h2.1.2.1
      rcases (show n / 10 % 10 = 0 ∨ n / 10 % 10 = 1 ∨ n / 10 % 10 = 2 by omega) with e | e | e
      · rw [e] at f2 ⊢
        rw [if_pos rfl, if_neg (by decide), if_neg (by decide)]; omega
      · rw [e] at f2 ⊢
        rw [if_neg (by decide), if_pos rfl, if_neg (by decide)]; omega
      · rw [e] at f2 ⊢
        rw [if_neg (by decide), if_neg (by decide), if_pos rfl]; omega
theorem zVn_0 {fl : Nat → Bool} {C : Nat → Nat} {k : Nat → Nat} {j q : Nat} (hj : j < 3) (hq : 1 ≤ q ∧ q ≤ 3) : zVn fl C k (100 * 0 + 10 * j + q) ↔ fl (3 + q) = true ∧ C (k j - q) < C (k j) := by
  have e1 : (100 * 0 + 10 * j + q) % 10 = q := by omega
  have e2 : (100 * 0 + 10 * j + q) / 10 % 10 = j := by omega
  unfold zVn zMw
  rw [e1, e2, if_pos (by omega), if_pos (by omega)]
  exact ⟨fun h => h.2, fun h => ⟨⟨hq, hj, by omega⟩, h⟩⟩
theorem zVn_1 {fl : Nat → Bool} {C : Nat → Nat} {k : Nat → Nat} {j q : Nat} (hj : j < 3) (hq : 1 ≤ q ∧ q ≤ 3) : zVn fl C k (100 * 1 + 10 * j + q) ↔ fl (3 - q) = true ∧ C (k j + q) < C (k j) := by
  have e1 : (100 * 1 + 10 * j + q) % 10 = q := by omega
  have e2 : (100 * 1 + 10 * j + q) / 10 % 10 = j := by omega
  unfold zVn zMw
  rw [e1, e2, if_neg (by omega), if_neg (by omega)]
  exact ⟨fun h => h.2, fun h => ⟨⟨hq, hj, by omega⟩, h⟩⟩
theorem zMv_j {k : Nat → Nat} {i j q : Nat} (hi : i < 2) (hj : j < 3) (hq : 1 ≤ q ∧ q ≤ 3) (y : Nat) : zMvF k (100 * i + 10 * j + q) y = if y = j then (if i = 0 then k j - q else k j + q) else k y := by
  have e1 : (100 * i + 10 * j + q) % 10 = q := by omega
  have e2 : (100 * i + 10 * j + q) / 10 % 10 = j := by omega
  unfold zMvF zMw
  rw [e1, e2]
  by_cases e : i = 0
  · rw [if_pos (show 100 * i + 10 * j + q < 100 by omega), if_pos e]
  · rw [if_neg (show ¬ 100 * i + 10 * j + q < 100 by omega), if_neg e]
theorem zVs {fl : Nat → Bool} {C : Nat → Nat} {k : Nat → Nat} {A A2 : Nat} (h : ∀ m, m < A → ¬ zVn fl C k m) (h2 : ∀ m, A ≤ m → m < A2 → 1 ≤ m % 10 → m % 10 ≤ 3 → m / 10 % 10 < 3 → zVn fl C k m → False) : ∀ m, m < A2 → ¬ zVn fl C k m := fun m hm hv => by
  rcases Nat.lt_or_ge m A with e | e
  · exact h m e hv
  · exact h2 m e hm hv.1.1.1 hv.1.1.2 hv.1.2.1 hv
/-- what setting answers -/
def zSe (fl : Nat → Bool) (C : Nat → Nat) (k0 : Nat → Nat) (w r : Int32) : Prop := (((C (k0 0) + C (k0 1) + C (k0 2) : Nat) : Int) ≤ w.toInt ∧ r = -1) ∨ (999 ≤ C (k0 0) + C (k0 1) + C (k0 2) ∧ r = -1) ∨ (C (k0 0) + C (k0 1) + C (k0 2) < 999 ∧ w.toInt < ((C (k0 0) + C (k0 1) + C (k0 2) : Nat) : Int) ∧ ∃ k n, zSq fl C k0 (w.toInt + 1).toNat k n ∧ r.toInt = (n : Int))
theorem zSe_det {fl : Nat → Bool} {C : Nat → Nat} {k0 : Nat → Nat} {w r1 r2 : Int32} (h1 : zSe fl C k0 w r1) (h2 : zSe fl C k0 w r2) : r1 = r2 := by
  rcases h1 with ⟨a, rfl⟩ | ⟨a, rfl⟩ | ⟨a, b, k, n, c, d⟩ <;> rcases h2 with ⟨a2, rfl⟩ | ⟨a2, rfl⟩ | ⟨a2, b2, k2, n2, c2, d2⟩
  · rfl
  · rfl
  · omega
  · rfl
  · rfl
  · omega
  · omega
  · omega
  · obtain ⟨-, e⟩ := zSq_det _ c c2
    exact Int32.toInt_inj.mp (by rw [d, d2, e])
theorem zRw_k {C : Nat → Nat} {g k : Nat} {y : Int32} (hk : k ≤ 32 + g) (hy : y.toInt = 32 + (g : Int) - k) : zRw C g y.toNatClampNeg = C k := by
  have h := zclN (i := y) (by omega)
  unfold zRw
  rw [show 32 + g - y.toNatClampNeg = k by omega]
def zK3 (x y u : Int32) : Nat → Nat := fun j => match j with
  | 0 => (32 + x.toInt).toNat
  | 1 => (32 + y.toInt).toNat
  | _ => (32 + u.toInt).toNat
def zG3 (x y u : Int32) : Nat → Nat := fun j => match j with
  | 0 => (x + 24).toNatClampNeg
  | 1 => (y + 24).toNatClampNeg
  | _ => (u + 24).toNatClampNeg
theorem zKG {x y u : Int32} (hx : -8 ≤ x.toInt ∧ x.toInt ≤ 8) (hy : -8 ≤ y.toInt ∧ y.toInt ≤ 8) (hu : -8 ≤ u.toInt ∧ u.toInt ≤ 8) : ∀ j, j < 3 → zK3 x y u j = 8 + zG3 x y u j ∧ 16 ≤ zG3 x y u j ∧ zG3 x y u j ≤ 32 := fun j hj => by
  have a1 := zadd_c (x := x) 24 24 rfl (by omega) (by omega)
  have a2 := zclN (i := x + 24) (by omega)
  have b1 := zadd_c (x := y) 24 24 rfl (by omega) (by omega)
  have b2 := zclN (i := y + 24) (by omega)
  have c1 := zadd_c (x := u) 24 24 rfl (by omega) (by omega)
  have c2 := zclN (i := u + 24) (by omega)
  rcases (show j = 0 ∨ j = 1 ∨ j = 2 by omega) with rfl | rfl | rfl
  · show (32 + x.toInt).toNat = 8 + (x + 24).toNatClampNeg ∧ 16 ≤ (x + 24).toNatClampNeg ∧ (x + 24).toNatClampNeg ≤ 32
    omega
  · show (32 + y.toInt).toNat = 8 + (y + 24).toNatClampNeg ∧ 16 ≤ (y + 24).toNatClampNeg ∧ (y + 24).toNatClampNeg ≤ 32
    omega
  · show (32 + u.toInt).toNat = 8 + (u + 24).toNatClampNeg ∧ 16 ≤ (u + 24).toNatClampNeg ∧ (u + 24).toNatClampNeg ≤ 32
    omega
theorem zK3_9 {fl : Nat → Bool} {C : Nat → Nat} {S : Nat → Bool} (hS : zSo2 fl C S) {x y u : Int32} (hx : -8 ≤ x.toInt ∧ x.toInt ≤ 8) (hy : -8 ≤ y.toInt ∧ y.toInt ≤ 8) (hu : -8 ≤ u.toInt ∧ u.toInt ≤ 8) (h9 : C (zK3 x y u 0) + C (zK3 x y u 1) + C (zK3 x y u 2) < 999) : ∀ j, j < 3 → S (zK3 x y u j) = true ∧ zK3 x y u j < 65 := fun j hj => by
  have h1 := zKG hx hy hu j hj
  have h2 : C (zK3 x y u j) < 999 := by rcases (show j = 0 ∨ j = 1 ∨ j = 2 by omega) with rfl | rfl | rfl <;> omega
  exact ⟨hS.1 _ (by omega) (by omega) h2, by omega⟩
theorem zcodeI {i j q : Int32} (hi : 0 ≤ i.toInt ∧ i.toInt ≤ 1) (hj : 0 ≤ j.toInt ∧ j.toInt < 3) (hq : 1 ≤ q.toInt ∧ q.toInt ≤ 3) : (100 * i + 10 * j + q).toInt = ((100 * i.toNatClampNeg + 10 * j.toNatClampNeg + q.toNatClampNeg : Nat) : Int) := by
  have c1 := zclN (i := i) (by omega)
  have c2 := zclN (i := j) (by omega)
  have c3 := zclN (i := q) (by omega)
  have n1 : Int32.toInt 100 = 100 := rfl
  have n2 : Int32.toInt 10 = 10 := rfl
  have e1 : (100 * i).toInt = 100 * i.toInt := by rw [zmulI (x := 100) (y := i) (by rw [n1]; omega) (by rw [n1]; omega), n1]
  have e2 : (10 * j).toInt = 10 * j.toInt := by rw [zmulI (x := 10) (y := j) (by rw [n2]; omega) (by rw [n2]; omega), n2]
  have e3 : (100 * i + 10 * j).toInt = 100 * i.toInt + 10 * j.toInt := by rw [zaddI (x := 100 * i) (y := 10 * j) (by omega) (by omega), e1, e2]
  rw [zaddI (x := 100 * i + 10 * j) (y := q) (by omega) (by omega), e3]
  omega
def zTri (p q v : Int32) (K : Nat → Nat) : Prop := p.toInt = (K 0 : Int) - 32 ∧ q.toInt = (K 1 : Int) - 32 ∧ v.toInt = (K 2 : Int) - 32
/-- the model's search of a setting, codes under n looked at -/
def zJ3 (fl : Nat → Bool) (L : Nat → Nat) (K : Nat → Nat) (n d p q v : Int32) : Prop := (d.toInt < 0 ∧ zTri p q v K ∧ ∀ m, m < n.toNatClampNeg → ¬ zVn fl L K m) ∨ ∃ N : Nat, d.toInt = (N : Int) ∧ zVn fl L K N ∧ (∀ m, m < N → ¬ zVn fl L K m) ∧ zTri p q v (zMvF K N)
theorem zrm10e {x : Int32} (h : 0 ≤ x.toInt) : ∃ s, x - x / 10 * 10 = s ∧ s.toInt = x.toInt % 10 := by
  refine ⟨_, rfl, ?_⟩
  have hx := x.toInt_lt
  have e1 : (x / 10).toInt = x.toInt / 10 := by rw [zdivI h (by decide)]; rfl
  have e2 : (x / 10 * 10).toInt = x.toInt / 10 * 10 := by rw [zmulI (x := x / 10) (y := 10) (by rw [e1, show Int32.toInt 10 = 10 from rfl]; omega) (by rw [e1, show Int32.toInt 10 = 10 from rfl]; omega), e1]; rfl
  rw [zsubI (x := x) (y := x / 10 * 10) (by omega) (by omega), e2]
  omega
theorem zrm100e {x : Int32} (h : 0 ≤ x.toInt) : ∃ s, x / 10 - x / 10 / 10 * 10 = s ∧ s.toInt = x.toInt / 10 % 10 := by
  have e1 : (x / 10).toInt = x.toInt / 10 := by rw [zdivI h (by decide)]; rfl
  obtain ⟨s, h1, h2⟩ := zrm10e (x := x / 10) (by omega)
  exact ⟨s, h1, by rw [h2, e1]⟩
theorem zFs_p {B c : Nat} {ι : Nat → Nat → Int32} {s : Int32} (h : 1 ≤ s.toInt ∧ s.toInt ≤ 3) : zLb B ι s (decide (Int32.toInt 1 < 0)) c = zFs B ι c (3 + s.toNatClampNeg) := by
  have hc : s = 1 ∨ s = 2 ∨ s = 3 := by
    rcases (show s.toInt = 1 ∨ s.toInt = 2 ∨ s.toInt = 3 by omega) with e | e | e
    · exact Or.inl (Int32.toInt_inj.mp (by rw [e]; rfl))
    · exact Or.inr (Or.inl (Int32.toInt_inj.mp (by rw [e]; rfl)))
    · exact Or.inr (Or.inr (Int32.toInt_inj.mp (by rw [e]; rfl)))
  rcases hc with rfl | rfl | rfl <;> rfl
theorem zFs_m {B c : Nat} {ι : Nat → Nat → Int32} {s : Int32} (h : 1 ≤ s.toInt ∧ s.toInt ≤ 3) : zLb B ι s (decide (Int32.toInt (-1) < 0)) c = zFs B ι c (3 - s.toNatClampNeg) := by
  have hc : s = 1 ∨ s = 2 ∨ s = 3 := by
    rcases (show s.toInt = 1 ∨ s.toInt = 2 ∨ s.toInt = 3 by omega) with e | e | e
    · exact Or.inl (Int32.toInt_inj.mp (by rw [e]; rfl))
    · exact Or.inr (Or.inl (Int32.toInt_inj.mp (by rw [e]; rfl)))
    · exact Or.inr (Or.inr (Int32.toInt_inj.mp (by rw [e]; rfl)))
  rcases hc with rfl | rfl | rfl <;> rfl
theorem zVn_fl0 {fl : Nat → Bool} {C : Nat → Nat} {k : Nat → Nat} {n s : Nat} (h : zVn fl C k n) (hn : n < 100) (hs : s = n % 10) : fl (3 + s) = true := by
  have h2 := h.2.1
  rw [if_pos hn] at h2
  rw [hs]; exact h2
theorem zVn_fl1 {fl : Nat → Bool} {C : Nat → Nat} {k : Nat → Nat} {n s : Nat} (h : zVn fl C k n) (hn : 100 ≤ n) (hs : s = n % 10) : fl (3 - s) = true := by
  have h2 := h.2.1
  rw [if_neg (by omega)] at h2
  rw [hs]; exact h2
theorem zVn_gl0 {fl : Nat → Bool} {n s : Nat} (h : fl (3 + s) = true) (hn : n < 100) (hs : s = n % 10) : fl (if n < 100 then 3 + n % 10 else 3 - n % 10) = true := by
  rw [if_pos hn, ← hs]; exact h
theorem zVn_gl1 {fl : Nat → Bool} {n s : Nat} (h : fl (3 - s) = true) (hn : 100 ≤ n) (hs : s = n % 10) : fl (if n < 100 then 3 + n % 10 else 3 - n % 10) = true := by
  rw [if_neg (by omega), ← hs]; exact h

set_option maxHeartbeats 4000000 in
set_option maxRecDepth 100000 in
theorem e_X8_isNearer (l : Launch) (G : zG) (z : Nat) (τ : Nat → Option (Nat × Nat)) (ρ : Nat → Nat → Option Nat) (ι : Nat → Nat → Int32) (κ : Nat → Nat → Int64) {a mu dv aw nw M1 : Nat} {W : Nat → Nat} (ha : τ a = some (8, M1)) (g0 : ρ a 0 = some mu) (g1 : ρ a 1 = some dv) (g2 : ρ a 2 = some aw) (g3 : ρ a 3 = some nw) (hmu : τ mu = some (15, 4)) (hdv : τ dv = some (15, 4)) (haw : τ aw = some (18, 3)) (hnw : τ nw = some (13, 3)) (hW : ∀ j, j < 3 → ρ aw j = some (W j)) (hWt : ∀ j, j < 3 → τ (W j) = some (13, 49)) (x y : Int32) (x0 : 0 ≤ x.toInt) (x1 : x.toInt < 3) (hN : (∀ j : Nat, j < 3 → 0 ≤ (ι nw j).toInt ∧ (ι nw j).toInt < 49)) {R : Nat → Nat → Nat} (hrow : ∀ j, j < 3 → zRo (R j) (ι (W j))) (h9 : R x.toNatClampNeg (ι nw x.toNatClampNeg).toNatClampNeg < 999) : zM l G yX8_isNearer cX8_isNearer 3 (some .boolean) ({ frames := 0, cells := 0, slots := 0, locals := 0 } : Room) [.ref a, .int x, .int y] (z, τ, ρ, ι, κ) (fun v s => ∃ r, v = some (.int r) ∧ s = (z, τ, ρ, ι, κ) ∧ (¬ r = 0 ↔ (0 ≤ y.toInt ∧ y.toInt < 49 ∧ R x.toNatClampNeg y.toNatClampNeg < R x.toNatClampNeg (ι nw x.toNatClampNeg).toNatClampNeg))) 0 0 := by
  refine zM_of zCd_X8_isNearer (Nat.le_of_ble_eq_true rfl) ?_
  intro E X hR hE
  subst hE
  show zW E G 3 (z, τ, ρ, ι, κ) 0 0 0 [(0, .ref a), (1, .int x), (2, .int y)] []
  have hx3 : x.toNatClampNeg < 3 := zcl3 x0 x1
  have hnx := hN _ hx3
  have hnc := zclN hnx.1
  have hv := (hrow _ hx3 (ι nw x.toNatClampNeg).toNatClampNeg (by omega)).1 h9
  refine r_iload_n X (by rfl) dX8_isNearer_0 ?_
  refine r_if_lt X 50 dX8_isNearer_1 (by decide) (fun h1 => ?_) (fun h1 => ?_)
  · refine r_iconst X 0 (by decide) dX8_isNearer_50 ?_
    refine r_ireturn X hR dX8_isNearer_51 rfl (Nat.zero_le _) (Nat.zero_le _) ?_
    exact ⟨_, rfl, rfl, ⟨fun h => absurd rfl h, fun h => by omega⟩⟩
  · refine r_iload_n X (by rfl) dX8_isNearer_4 ?_
    refine r_bipush X 49 (by decide) dX8_isNearer_5 ?_
    refine r_icmp_ge X 50 dX8_isNearer_7 (by decide) (fun h7 => ?_) (fun h7 => ?_)
    · rw [show Int32.toInt 49 = 49 from rfl] at h7
      refine r_iconst X 0 (by decide) dX8_isNearer_50 ?_
      refine r_ireturn X hR dX8_isNearer_51 rfl (Nat.zero_le _) (Nat.zero_le _) ?_
      exact ⟨_, rfl, rfl, ⟨fun h => absurd rfl h, fun h => by omega⟩⟩
    · rw [show Int32.toInt 49 = 49 from rfl] at h7
      have hyc := zclN h1
      have hvy := hrow _ hx3 y.toNatClampNeg (by omega)
      refine r_aload_n X (by rfl) dX8_isNearer_10 ?_
      refine r_getR X dX8_isNearer_11 zF_X8_20 ha g2 ?_
      refine r_iload_n X (by rfl) dX8_isNearer_14 ?_
      refine r_aaload X dX8_isNearer_15 haw (by decide) (vp_in_iff.mpr ⟨x0, by omega⟩) (hW _ hx3) ?_
      refine r_iload_n X (by rfl) dX8_isNearer_16 ?_
      refine r_iaload X dX8_isNearer_17 (hWt _ hx3) (vp_in_iff.mpr ⟨h1, by omega⟩) ?_
      refine r_iconst X (-1) (by decide) dX8_isNearer_18 ?_
      refine r_icmp_eq X 50 dX8_isNearer_19 (by decide) (fun h19 => ?_) (fun h19 => ?_)
      · refine r_iconst X 0 (by decide) dX8_isNearer_50 ?_
        refine r_ireturn X hR dX8_isNearer_51 rfl (Nat.zero_le _) (Nat.zero_le _) ?_
        exact ⟨_, rfl, rfl, ⟨fun h => absurd rfl h, fun h => by 
          have e := hvy.1 (by omega)
          rw [h19, show Int32.toInt (-1) = -1 from rfl] at e
          omega⟩⟩
      · refine r_aload_n X (by rfl) dX8_isNearer_22 ?_
        refine r_getR X dX8_isNearer_23 zF_X8_20 ha g2 ?_
        refine r_iload_n X (by rfl) dX8_isNearer_26 ?_
        refine r_aaload X dX8_isNearer_27 haw (by decide) (vp_in_iff.mpr ⟨x0, by omega⟩) (hW _ hx3) ?_
        refine r_iload_n X (by rfl) dX8_isNearer_28 ?_
        refine r_iaload X dX8_isNearer_29 (hWt _ hx3) (vp_in_iff.mpr ⟨h1, by omega⟩) ?_
        refine r_aload_n X (by rfl) dX8_isNearer_30 ?_
        refine r_getR X dX8_isNearer_31 zF_X8_20 ha g2 ?_
        refine r_iload_n X (by rfl) dX8_isNearer_34 ?_
        refine r_aaload X dX8_isNearer_35 haw (by decide) (vp_in_iff.mpr ⟨x0, by omega⟩) (hW _ hx3) ?_
        refine r_aload_n X (by rfl) dX8_isNearer_36 ?_
        refine r_getR X dX8_isNearer_37 zF_X8_23 ha g3 ?_
        refine r_iload_n X (by rfl) dX8_isNearer_40 ?_
        refine r_iaload X dX8_isNearer_41 hnw (vp_in_iff.mpr ⟨x0, by omega⟩) ?_
        refine r_iaload X dX8_isNearer_42 (hWt _ hx3) (vp_in_iff.mpr (hN _ hx3)) ?_
        refine r_icmp_ge X 50 dX8_isNearer_43 (by decide) (fun h43 => ?_) (fun h43 => ?_)
        · refine r_iconst X 0 (by decide) dX8_isNearer_50 ?_
          refine r_ireturn X hR dX8_isNearer_51 rfl (Nat.zero_le _) (Nat.zero_le _) ?_
          have hy9 : R x.toNatClampNeg y.toNatClampNeg < 999 := by
            rcases Nat.lt_or_ge (R x.toNatClampNeg y.toNatClampNeg) 999 with e | e
            · exact e
            · exact absurd (hvy.2 e) h19
          have e := hvy.1 hy9
          exact ⟨_, rfl, rfl, ⟨fun h => absurd rfl h, fun h => by omega⟩⟩
        · refine r_iconst X 1 (by decide) dX8_isNearer_46 ?_
          refine r_goto X 51 dX8_isNearer_47 (by decide) ?_
          refine r_ireturn X hR dX8_isNearer_51 rfl (Nat.zero_le _) (Nat.zero_le _) ?_
          have hy9 : R x.toNatClampNeg y.toNatClampNeg < 999 := by
            rcases Nat.lt_or_ge (R x.toNatClampNeg y.toNatClampNeg) 999 with e | e
            · exact e
            · exact absurd (hvy.2 e) h19
          have e := hvy.1 hy9
          exact ⟨_, rfl, rfl, ⟨fun _ => ⟨by omega, by omega, by omega⟩, fun _ => by decide⟩⟩
set_option maxHeartbeats 4000000 in
set_option maxRecDepth 100000 in
theorem e_X8_makeFirst (l : Launch) (G : zG) (z : Nat) (τ : Nat → Option (Nat × Nat)) (ρ : Nat → Nat → Option Nat) (ι : Nat → Nat → Int32) (κ : Nat → Nat → Int64) {a mu dv aw nw M1 : Nat} {W : Nat → Nat} (ha : τ a = some (8, M1)) (g0 : ρ a 0 = some mu) (g1 : ρ a 1 = some dv) (g2 : ρ a 2 = some aw) (g3 : ρ a 3 = some nw) (hmu : τ mu = some (15, 4)) (hdv : τ dv = some (15, 4)) (haw : τ aw = some (18, 3)) (hnw : τ nw = some (13, 3)) (hW : ∀ j, j < 3 → ρ aw j = some (W j)) (hWt : ∀ j, j < 3 → τ (W j) = some (13, 49)) {fl : Nat → Bool} (hF : zMd ι mu dv fl) {C : Nat → Nat} (hq : zCqF fl C) {S : Nat → Bool} (hS : zSo2 fl C S) {g k : Nat → Nat} (hg : ∀ j, j < 3 → 16 ≤ g j ∧ g j ≤ 32) (hk : ∀ j, j < 3 → S (k j) = true ∧ k j < 65) (hrow : ∀ j, j < 3 → zRo (zRw C (g j)) (ι (W j))) (hnow : ∀ j, j < 3 → (ι nw j).toInt = 32 + (g j : Int) - k j) (hex : ∃ n, zVn fl C k n) : zM l G yX8_makeFirst cX8_makeFirst 5 (some .int) ({ frames := 1, cells := 0, slots := 0, locals := 22 } : Room) [.ref a] (z, τ, ρ, ι, κ) (fun v s => ∃ r ι2 n, v = some (.int r) ∧ s = (z, τ, ρ, ι2, κ) ∧ (∀ b, b ≠ nw → ι2 b = ι b) ∧ zVn fl C k n ∧ (∀ m, m < n → ¬ zVn fl C k m) ∧ r.toInt = (n : Int) ∧ ∀ j, j < 3 → (ι2 nw j).toInt = 32 + (g j : Int) - zMvF k n j) 0 0 := by
  refine zM_of zCd_X8_makeFirst (Nat.le_of_ble_eq_true rfl) ?_
  intro E X hR hE
  subst hE
  show zW E G 5 (z, τ, ρ, ι, κ) 0 0 0 [(0, .ref a)] []
  have hN : ∀ j : Nat, j < 3 → 0 ≤ (ι nw j).toInt ∧ (ι nw j).toInt < 49 := fun j hj => by
    have h1 := hg j hj
    have h2 := hS.2 _ (hk j hj).2 (hk j hj).1
    have h3 := hnow j hj
    omega
  have L2 : ∀ (m : Nat) (i : Int32), (2 - i.toInt).toNat < m → 0 ≤ i.toInt → i.toInt ≤ 2 → (∀ m : Nat, m < 100 * i.toNatClampNeg → ¬ zVn fl C k m) → zW E G 5 (z, τ, ρ, ι, κ) 0 0 2 [(0, .ref a), (1, .int i)] [] := by
    intro m
    induction m with
    | zero => intro i h; omega
    | succ m ih => ?_
    intro i hm h0 h2 hno
    have hic := zclN h0
    have L9 : i.toInt ≤ 1 → ∀ (m2 : Nat) (j : Int32), (3 - j.toInt).toNat < m2 → 0 ≤ j.toInt → j.toInt ≤ 3 → (∀ m : Nat, m < 100 * i.toNatClampNeg + 10 * j.toNatClampNeg → ¬ zVn fl C k m) → zW E G 5 (z, τ, ρ, ι, κ) 0 0 9 [(0, .ref a), (1, .int i), (2, .int j)] [] := by
      intro hi1 m2
      induction m2 with
      | zero => intro j h; omega
      | succ m2 ih2 => ?_
      intro j hm2 hj hj3 hno2
      have hjc0 := zclN hj
      have L16 : j.toInt < 3 → ∀ (m3 : Nat) (q : Int32), (4 - q.toInt).toNat < m3 → 1 ≤ q.toInt → q.toInt ≤ 4 → (∀ m : Nat, m < 100 * i.toNatClampNeg + 10 * j.toNatClampNeg + q.toNatClampNeg → ¬ zVn fl C k m) → zW E G 5 (z, τ, ρ, ι, κ) 0 0 16 [(0, .ref a), (1, .int i), (2, .int j), (3, .int q)] [] := by
        intro hj3 m3
        induction m3 with
        | zero => intro q h; omega
        | succ m3 ih3 => ?_
        intro q hm3 hq1 hq4 hno3
        have hqc := zclN (i := q) (by omega)
        have hjc : j.toNatClampNeg < 3 := zcl3 hj hj3
        have hnj := hnow _ hjc
        have hnb := hN _ hjc
        have hgj := hg _ hjc
        have hkj := hS.2 _ (hk _ hjc).2 (hk _ hjc).1
        refine r_iload_n X (by rfl) dX8_makeFirst_16 ?_
        refine r_iconst X 3 (by decide) dX8_makeFirst_17 ?_
        refine r_icmp_gt X 107 dX8_makeFirst_18 (by decide) (fun h18 => ?_) (fun h18 => ?_)
        · rw [show Int32.toInt 3 = 3 from rfl] at h18
          refine r_iinc X 1 (by decide) (by rfl) (by decide) dX8_makeFirst_107 ?_
          refine r_goto X 9 dX8_makeFirst_110 (by decide) ?_
          exact zW.loc3 (by rfl) (by rfl) (by rfl) (ih2 _ (by have e := zinc (x := j) (by omega); omega) (by have e := zinc (x := j) (by omega); omega) (by have e := zinc (x := j) (by omega); omega) (by have e := zinc (x := j) (by omega); have e2 := zclN (i := j + 1) (by omega); exact zVs hno3 (fun m a1 a2 a3 a4 a5 _ => by omega)))
        · rw [show Int32.toInt 3 = 3 from rfl] at h18
          refine r_iload_n X (by rfl) dX8_makeFirst_21 ?_
          refine r_if_ne X 36 dX8_makeFirst_22 (by decide) (fun h22 => ?_) (fun h22 => ?_)
          · refine r_aload_n X (by rfl) dX8_makeFirst_36 ?_
            refine r_getR X dX8_makeFirst_37 zF_X8_23 ha g3 ?_
            refine r_iload_n X (by rfl) dX8_makeFirst_40 ?_
            refine r_iaload X dX8_makeFirst_41 hnw (vp_in_iff.mpr ⟨hj, by omega⟩) ?_
            refine r_iload_n X (by rfl) dX8_makeFirst_42 ?_
            refine r_isub X dX8_makeFirst_43 ?_
            have hnx : (ι nw j.toNatClampNeg - q).toInt = (ι nw j.toNatClampNeg).toInt - q.toInt := zsubI (by omega) (by omega)
            have hi0 : i.toNatClampNeg = 1 := by
              have : ¬ i.toInt = 0 := fun e => h22 (Int32.toInt_inj.mp e)
              omega
            have hvi := zVn_1 (fl := fl) (C := C) (k := k) (j := j.toNatClampNeg) (q := q.toNatClampNeg) hjc (by omega)
            have hFq := hF q.toNatClampNeg (by omega) (by omega)
            refine r_istore X (by decide) dX8_makeFirst_44 ?_
            refine r_iload_n X (by rfl) dX8_makeFirst_46 ?_
            refine r_if_ne X 62 dX8_makeFirst_47 (by decide) (fun h47 => ?_) (fun h47 => ?_)
            · refine r_aload_n X (by rfl) dX8_makeFirst_62 ?_
              refine r_getR X dX8_makeFirst_63 zF_X8_15 ha g1 ?_
              refine r_iload_n X (by rfl) dX8_makeFirst_66 ?_
              refine r_zaload X dX8_makeFirst_67 hdv (vp_in_iff.mpr ⟨by omega, by omega⟩) ?_
              refine r_if_eq X 101 dX8_makeFirst_68 (by decide) (fun h68 => ?_) (fun h68 => ?_)
              · rw [hFq.2] at h68
                have hnv : ¬ zVn fl C k (100 * i.toNatClampNeg + 10 * j.toNatClampNeg + q.toNatClampNeg) := by rw [hi0, hvi]; exact fun e => zif0 h68 e.1
                refine r_iinc X 1 (by decide) (by rfl) (by decide) dX8_makeFirst_101 ?_
                refine r_goto X 16 dX8_makeFirst_104 (by decide) ?_
                exact zW.loc4 (by rfl) (by rfl) (by rfl) (by rfl) (ih3 _ (by have e := zinc (x := q) (by omega); omega) (by have e := zinc (x := q) (by omega); omega) (by have e := zinc (x := q) (by omega); omega) (fun m hm => by
                  have e := zinc (x := q) (by omega)
                  have e2 := zclN (i := q + 1) (by omega)
                  by_cases e3 : m = 100 * i.toNatClampNeg + 10 * j.toNatClampNeg + q.toNatClampNeg
                  · rw [e3]; exact hnv
                  · exact hno3 m (by omega)))
              · rw [hFq.2] at h68
                refine r_aload_n X (by rfl) dX8_makeFirst_71 ?_
                refine r_iload_n X (by rfl) dX8_makeFirst_72 ?_
                refine r_iload X (by rfl) dX8_makeFirst_73 ?_
                refine r_callV X dX8_makeFirst_75 zLV_X8_41 zCd_X8_isNearer (e_X8_isNearer _ G z τ ρ _ _ ha g0 g1 g2 g3 hmu hdv haw hnw hW hWt _ _ hj (by omega) hN (R := fun j => zRw C (g j)) hrow (by show zRw C (g j.toNatClampNeg) (ι nw j.toNatClampNeg).toNatClampNeg < 999; rw [zRw_k (k := k j.toNatClampNeg) (by omega) hnj]; exact hkj.2.1)) ha ⟨by decide, rfl, rfl⟩ rfl rfl ⟨⟨rfl, rfl⟩, ⟨by decide, by decide⟩, ⟨Nat.le_of_ble_eq_true rfl, Nat.le_of_ble_eq_true rfl⟩, Nat.le_of_ble_eq_true rfl⟩ ?_
                rintro _ _ ⟨r, rfl, rfl, hr⟩
                change ¬ r = 0 ↔ (_ ∧ _ ∧ zRw C (g j.toNatClampNeg) _ < zRw C (g j.toNatClampNeg) _) at hr
                rw [zRw_k (y := ι nw j.toNatClampNeg) (k := k j.toNatClampNeg) (by omega) hnj] at hr
                refine r_if_eq X 101 dX8_makeFirst_78 (by decide) (fun h78 => ?_) (fun h78 => ?_)
                · have hnv : ¬ zVn fl C k (100 * i.toNatClampNeg + 10 * j.toNatClampNeg + q.toNatClampNeg) := fun hv => by
                    have hf := zVn_f hq hS hk hv
                    rw [hi0, hvi] at hv
                    rw [hi0] at hf
                    have e1 : (100 * 1 + 10 * j.toNatClampNeg + q.toNatClampNeg) % 10 = q.toNatClampNeg := by omega
                    have e2 : (100 * 1 + 10 * j.toNatClampNeg + q.toNatClampNeg) / 10 % 10 = j.toNatClampNeg := by omega
                    unfold zMw at hf
                    rw [e1, e2, if_neg (by omega)] at hf
                    exact absurd h78 (hr.mpr ⟨by omega, by omega, by rw [zRw_k (k := k j.toNatClampNeg + q.toNatClampNeg) (by omega) (by omega)]; exact hv.2⟩)
                  refine r_iinc X 1 (by decide) (by rfl) (by decide) dX8_makeFirst_101 ?_
                  refine r_goto X 16 dX8_makeFirst_104 (by decide) ?_
                  exact zW.loc4 (by rfl) (by rfl) (by rfl) (by rfl) (ih3 _ (by have e := zinc (x := q) (by omega); omega) (by have e := zinc (x := q) (by omega); omega) (by have e := zinc (x := q) (by omega); omega) (fun m hm => by
                    have e := zinc (x := q) (by omega)
                    have e2 := zclN (i := q + 1) (by omega)
                    by_cases e3 : m = 100 * i.toNatClampNeg + 10 * j.toNatClampNeg + q.toNatClampNeg
                    · rw [e3]; exact hnv
                    · exact hno3 m (by omega)))
                · obtain ⟨n1, n2, n3⟩ := hr.mp h78
                  rw [zRw_k (k := k j.toNatClampNeg + q.toNatClampNeg) (by omega) (by omega)] at n3
                  have hvv : zVn fl C k (100 * i.toNatClampNeg + 10 * j.toNatClampNeg + q.toNatClampNeg) := by rw [hi0]; exact hvi.mpr ⟨zif1 h68, n3⟩
                  refine r_aload_n X (by rfl) dX8_makeFirst_81 ?_
                  refine r_getR X dX8_makeFirst_82 zF_X8_23 ha g3 ?_
                  refine r_iload_n X (by rfl) dX8_makeFirst_85 ?_
                  refine r_iload X (by rfl) dX8_makeFirst_86 ?_
                  refine r_iastore X dX8_makeFirst_88 hnw (vp_in_iff.mpr ⟨hj, by omega⟩) ?_
                  refine r_bipush X 100 (by decide) dX8_makeFirst_89 ?_
                  refine r_iload_n X (by rfl) dX8_makeFirst_91 ?_
                  refine r_imul X dX8_makeFirst_92 ?_
                  refine r_bipush X 10 (by decide) dX8_makeFirst_93 ?_
                  refine r_iload_n X (by rfl) dX8_makeFirst_95 ?_
                  refine r_imul X dX8_makeFirst_96 ?_
                  refine r_iadd X dX8_makeFirst_97 ?_
                  refine r_iload_n X (by rfl) dX8_makeFirst_98 ?_
                  refine r_iadd X dX8_makeFirst_99 ?_
                  refine r_ireturn X hR dX8_makeFirst_100 rfl (Nat.zero_le _) (Nat.zero_le _) ?_
                  have hE := zMv_j (k := k) (i := i.toNatClampNeg) (j := j.toNatClampNeg) (q := q.toNatClampNeg) (by omega) hjc (by omega)
                  refine ⟨_, _, 100 * i.toNatClampNeg + 10 * j.toNatClampNeg + q.toNatClampNeg, rfl, rfl, fun b hb => zu_r hb, hvv, hno3, ?_, fun y hy => ?_⟩
                  · exact zcodeI (by omega) (by omega) (by omega)
                  · rw [hE y, hi0]
                    by_cases e : y = j.toNatClampNeg
                    · subst e
                      rw [if_pos rfl, if_neg (by decide), zu_s, hnx]
                      omega
                    · rw [if_neg e, zu_k e]
                      exact hnow y hy
            · exact absurd h47 h22
          · refine r_aload_n X (by rfl) dX8_makeFirst_25 ?_
            refine r_getR X dX8_makeFirst_26 zF_X8_23 ha g3 ?_
            refine r_iload_n X (by rfl) dX8_makeFirst_29 ?_
            refine r_iaload X dX8_makeFirst_30 hnw (vp_in_iff.mpr ⟨hj, by omega⟩) ?_
            refine r_iload_n X (by rfl) dX8_makeFirst_31 ?_
            refine r_iadd X dX8_makeFirst_32 ?_
            refine r_goto X 44 dX8_makeFirst_33 (by decide) ?_
            have hnx : (ι nw j.toNatClampNeg + q).toInt = (ι nw j.toNatClampNeg).toInt + q.toInt := zaddI (by omega) (by omega)
            have hi0 : i.toNatClampNeg = 0 := by rw [h22]; rfl
            have hvi := zVn_0 (fl := fl) (C := C) (k := k) (j := j.toNatClampNeg) (q := q.toNatClampNeg) hjc (by omega)
            have hFq := hF q.toNatClampNeg (by omega) (by omega)
            refine r_istore X (by decide) dX8_makeFirst_44 ?_
            refine r_iload_n X (by rfl) dX8_makeFirst_46 ?_
            refine r_if_ne X 62 dX8_makeFirst_47 (by decide) (fun h47 => ?_) (fun h47 => ?_)
            · exact absurd h22 h47
            · refine r_aload_n X (by rfl) dX8_makeFirst_50 ?_
              refine r_getR X dX8_makeFirst_51 zF_X8_11 ha g0 ?_
              refine r_iload_n X (by rfl) dX8_makeFirst_54 ?_
              refine r_zaload X dX8_makeFirst_55 hmu (vp_in_iff.mpr ⟨by omega, by omega⟩) ?_
              refine r_if_eq X 101 dX8_makeFirst_56 (by decide) (fun h56 => ?_) (fun h56 => ?_)
              · rw [hFq.1] at h56
                have hnv : ¬ zVn fl C k (100 * i.toNatClampNeg + 10 * j.toNatClampNeg + q.toNatClampNeg) := by rw [hi0, hvi]; exact fun e => zif0 h56 e.1
                refine r_iinc X 1 (by decide) (by rfl) (by decide) dX8_makeFirst_101 ?_
                refine r_goto X 16 dX8_makeFirst_104 (by decide) ?_
                exact zW.loc4 (by rfl) (by rfl) (by rfl) (by rfl) (ih3 _ (by have e := zinc (x := q) (by omega); omega) (by have e := zinc (x := q) (by omega); omega) (by have e := zinc (x := q) (by omega); omega) (fun m hm => by
                  have e := zinc (x := q) (by omega)
                  have e2 := zclN (i := q + 1) (by omega)
                  by_cases e3 : m = 100 * i.toNatClampNeg + 10 * j.toNatClampNeg + q.toNatClampNeg
                  · rw [e3]; exact hnv
                  · exact hno3 m (by omega)))
              · rw [hFq.1] at h56
                refine r_goto X 71 dX8_makeFirst_59 (by decide) ?_
                refine r_aload_n X (by rfl) dX8_makeFirst_71 ?_
                refine r_iload_n X (by rfl) dX8_makeFirst_72 ?_
                refine r_iload X (by rfl) dX8_makeFirst_73 ?_
                refine r_callV X dX8_makeFirst_75 zLV_X8_41 zCd_X8_isNearer (e_X8_isNearer _ G z τ ρ _ _ ha g0 g1 g2 g3 hmu hdv haw hnw hW hWt _ _ hj (by omega) hN (R := fun j => zRw C (g j)) hrow (by show zRw C (g j.toNatClampNeg) (ι nw j.toNatClampNeg).toNatClampNeg < 999; rw [zRw_k (k := k j.toNatClampNeg) (by omega) hnj]; exact hkj.2.1)) ha ⟨by decide, rfl, rfl⟩ rfl rfl ⟨⟨rfl, rfl⟩, ⟨by decide, by decide⟩, ⟨Nat.le_of_ble_eq_true rfl, Nat.le_of_ble_eq_true rfl⟩, Nat.le_of_ble_eq_true rfl⟩ ?_
                rintro _ _ ⟨r, rfl, rfl, hr⟩
                change ¬ r = 0 ↔ (_ ∧ _ ∧ zRw C (g j.toNatClampNeg) _ < zRw C (g j.toNatClampNeg) _) at hr
                rw [zRw_k (y := ι nw j.toNatClampNeg) (k := k j.toNatClampNeg) (by omega) hnj] at hr
                refine r_if_eq X 101 dX8_makeFirst_78 (by decide) (fun h78 => ?_) (fun h78 => ?_)
                · have hnv : ¬ zVn fl C k (100 * i.toNatClampNeg + 10 * j.toNatClampNeg + q.toNatClampNeg) := fun hv => by
                    have hf := zVn_f hq hS hk hv
                    rw [hi0, hvi] at hv
                    rw [hi0] at hf
                    have e1 : (100 * 0 + 10 * j.toNatClampNeg + q.toNatClampNeg) % 10 = q.toNatClampNeg := by omega
                    have e2 : (100 * 0 + 10 * j.toNatClampNeg + q.toNatClampNeg) / 10 % 10 = j.toNatClampNeg := by omega
                    unfold zMw at hf
                    rw [e1, e2, if_pos (by omega)] at hf
                    exact absurd h78 (hr.mpr ⟨by omega, by omega, by rw [zRw_k (k := k j.toNatClampNeg - q.toNatClampNeg) (by omega) (by omega)]; exact hv.2⟩)
                  refine r_iinc X 1 (by decide) (by rfl) (by decide) dX8_makeFirst_101 ?_
                  refine r_goto X 16 dX8_makeFirst_104 (by decide) ?_
                  exact zW.loc4 (by rfl) (by rfl) (by rfl) (by rfl) (ih3 _ (by have e := zinc (x := q) (by omega); omega) (by have e := zinc (x := q) (by omega); omega) (by have e := zinc (x := q) (by omega); omega) (fun m hm => by
                    have e := zinc (x := q) (by omega)
                    have e2 := zclN (i := q + 1) (by omega)
                    by_cases e3 : m = 100 * i.toNatClampNeg + 10 * j.toNatClampNeg + q.toNatClampNeg
                    · rw [e3]; exact hnv
                    · exact hno3 m (by omega)))
                · obtain ⟨n1, n2, n3⟩ := hr.mp h78
                  rw [zRw_k (k := k j.toNatClampNeg - q.toNatClampNeg) (by omega) (by omega)] at n3
                  have hvv : zVn fl C k (100 * i.toNatClampNeg + 10 * j.toNatClampNeg + q.toNatClampNeg) := by rw [hi0]; exact hvi.mpr ⟨zif1 h56, n3⟩
                  refine r_aload_n X (by rfl) dX8_makeFirst_81 ?_
                  refine r_getR X dX8_makeFirst_82 zF_X8_23 ha g3 ?_
                  refine r_iload_n X (by rfl) dX8_makeFirst_85 ?_
                  refine r_iload X (by rfl) dX8_makeFirst_86 ?_
                  refine r_iastore X dX8_makeFirst_88 hnw (vp_in_iff.mpr ⟨hj, by omega⟩) ?_
                  refine r_bipush X 100 (by decide) dX8_makeFirst_89 ?_
                  refine r_iload_n X (by rfl) dX8_makeFirst_91 ?_
                  refine r_imul X dX8_makeFirst_92 ?_
                  refine r_bipush X 10 (by decide) dX8_makeFirst_93 ?_
                  refine r_iload_n X (by rfl) dX8_makeFirst_95 ?_
                  refine r_imul X dX8_makeFirst_96 ?_
                  refine r_iadd X dX8_makeFirst_97 ?_
                  refine r_iload_n X (by rfl) dX8_makeFirst_98 ?_
                  refine r_iadd X dX8_makeFirst_99 ?_
                  refine r_ireturn X hR dX8_makeFirst_100 rfl (Nat.zero_le _) (Nat.zero_le _) ?_
                  have hE := zMv_j (k := k) (i := i.toNatClampNeg) (j := j.toNatClampNeg) (q := q.toNatClampNeg) (by omega) hjc (by omega)
                  refine ⟨_, _, 100 * i.toNatClampNeg + 10 * j.toNatClampNeg + q.toNatClampNeg, rfl, rfl, fun b hb => zu_r hb, hvv, hno3, ?_, fun y hy => ?_⟩
                  · exact zcodeI (by omega) (by omega) (by omega)
                  · rw [hE y, hi0]
                    by_cases e : y = j.toNatClampNeg
                    · subst e
                      rw [if_pos rfl, if_pos rfl, zu_s, hnx]
                      omega
                    · rw [if_neg e, zu_k e]
                      exact hnow y hy
      refine r_iload_n X (by rfl) dX8_makeFirst_9 ?_
      refine r_iconst X 3 (by decide) dX8_makeFirst_10 ?_
      refine r_icmp_ge X 113 dX8_makeFirst_11 (by decide) (fun h11 => ?_) (fun h11 => ?_)
      · rw [show Int32.toInt 3 = 3 from rfl] at h11
        refine r_iinc X 1 (by decide) (by rfl) (by decide) dX8_makeFirst_113 ?_
        refine r_goto X 2 dX8_makeFirst_116 (by decide) ?_
        exact zW.loc2 (by rfl) (by rfl) (ih _ (by have e := zinc (x := i) (by omega); omega) (by have e := zinc (x := i) (by omega); omega) (by have e := zinc (x := i) (by omega); omega) (by have e := zinc (x := i) (by omega); have e2 := zclN (i := i + 1) (by omega); exact zVs hno2 (fun m a1 a2 a3 a4 a5 _ => by omega)))
      · rw [show Int32.toInt 3 = 3 from rfl] at h11
        refine r_iconst X 1 (by decide) dX8_makeFirst_14 ?_
        refine r_istore_n X (by decide) dX8_makeFirst_15 ?_
        exact zW.loc4 (by rfl) (by rfl) (by rfl) (by rfl) (L16 h11 5 _ (by decide) (by decide) (by decide) (zVs hno2 (fun m a1 a2 a3 a4 a5 _ => by rw [show Int32.toNatClampNeg 1 = 1 from rfl] at a2; omega)))
    refine r_iload_n X (by rfl) dX8_makeFirst_2 ?_
    refine r_iconst X 1 (by decide) dX8_makeFirst_3 ?_
    refine r_icmp_gt X 119 dX8_makeFirst_4 (by decide) (fun h4 => ?_) (fun h4 => ?_)
    · rw [show Int32.toInt 1 = 1 from rfl] at h4
      refine r_iconst X (-1) (by decide) dX8_makeFirst_119 ?_
      refine r_ireturn X hR dX8_makeFirst_120 rfl (Nat.zero_le _) (Nat.zero_le _) ?_
      exfalso
      obtain ⟨n, hn⟩ := hex
      exact hno n (by have := hn.1.2.2; omega) hn
    · rw [show Int32.toInt 1 = 1 from rfl] at h4
      refine r_iconst X 0 (by decide) dX8_makeFirst_7 ?_
      refine r_istore_n X (by decide) dX8_makeFirst_8 ?_
      exact zW.loc3 (by rfl) (by rfl) (by rfl) (L9 h4 4 _ (by decide) (by decide) (by decide) (fun m hm => hno m (by rw [show Int32.toNatClampNeg 0 = 0 from rfl] at hm; omega)))
  refine r_iconst X 0 (by decide) dX8_makeFirst_0 ?_
  refine r_istore_n X (by decide) dX8_makeFirst_1 ?_
  exact zW.loc2 (by rfl) (by rfl) (L2 3 _ (by decide) (by decide) (by decide) (fun m hm => by rw [show Int32.toNatClampNeg 0 = 0 from rfl] at hm; omega))
set_option maxHeartbeats 4000000 in
set_option maxRecDepth 100000 in
theorem e_X8_codeAt (l : Launch) (G : zG) (z : Nat) (τ : Nat → Option (Nat × Nat)) (ρ : Nat → Nat → Option Nat) (ι : Nat → Nat → Int32) (κ : Nat → Nat → Int64) {a mu dv aw nw M1 : Nat} {W : Nat → Nat} (ha : τ a = some (8, M1)) (g0 : ρ a 0 = some mu) (g1 : ρ a 1 = some dv) (g2 : ρ a 2 = some aw) (g3 : ρ a 3 = some nw) (hmu : τ mu = some (15, 4)) (hdv : τ dv = some (15, 4)) (haw : τ aw = some (18, 3)) (hnw : τ nw = some (13, 3)) (hW : ∀ j, j < 3 → ρ aw j = some (W j)) (hWt : ∀ j, j < 3 → τ (W j) = some (13, 49)) {fl : Nat → Bool} (hF : zMd ι mu dv fl) (dmw : mu ≠ nw) (dvw : dv ≠ nw) (dWw : ∀ j, j < 3 → W j ≠ nw) {C : Nat → Nat} (hq : zCqF fl C) {S : Nat → Bool} (hS : zSo2 fl C S) {e0 e1 e2 : Int32} (p0 : (-8 ≤ e0.toInt ∧ e0.toInt ≤ 8)) (p1 : (-8 ≤ e1.toInt ∧ e1.toInt ≤ 8)) (p2 : (-8 ≤ e2.toInt ∧ e2.toInt ≤ 8)) (hrow : ∀ j, j < 3 → zRo (zRw C (zG3 e0 e1 e2 j)) (ι (W j))) (x : Int32) (x0 : 0 ≤ x.toInt) : zM l G yX8_codeAt cX8_codeAt 4 (some .int) ({ frames := 2, cells := 0, slots := 0, locals := 46 } : Room) [.ref a, .int x] (z, τ, ρ, ι, κ) (fun v s => ∃ r ι2, v = some (.int r) ∧ s = (z, τ, ρ, ι2, κ) ∧ (∀ b, b ≠ nw → ι2 b = ι b) ∧ zSe fl C (zK3 e0 e1 e2) x r) 0 0 := by
  refine zM_of zCd_X8_codeAt (Nat.le_of_ble_eq_true rfl) ?_
  intro E X hR hE
  subst hE
  show zW E G 4 (z, τ, ρ, ι, κ) 0 0 0 [(0, .ref a), (1, .int x)] []
  have hxl := x.toInt_lt
  have hKG := zKG p0 p1 p2
  have L35 : ∀ (h9 : C ((zK3 e0 e1 e2) 0) + C ((zK3 e0 e1 e2) 1) + C ((zK3 e0 e1 e2) 2) < 999) (hxs : x.toInt < ((C ((zK3 e0 e1 e2) 0) + C ((zK3 e0 e1 e2) 1) + C ((zK3 e0 e1 e2) 2) : Nat) : Int)) (m : Nat) (i y : Int32) (ι1 : Nat → Nat → Int32) (K : Nat → Nat) (n : Nat), (x.toInt + 1 - i.toInt).toNat < m → 0 ≤ i.toInt → i.toInt ≤ x.toInt + 1 → (∀ b, b ≠ nw → ι1 b = ι b) → zSq fl C (zK3 e0 e1 e2) i.toNatClampNeg K n → (∀ j, j < 3 → (ι1 nw j).toInt = 32 + (zG3 e0 e1 e2 j : Int) - K j) → (1 ≤ i.toInt → y.toInt = (n : Int)) → zW E G 4 (z, τ, ρ, ι1, κ) 0 0 35 [(0, .ref a), (1, .int x), (2, .int y), (3, .int i)] [] := by
    intro h9 hxs m
    have hk9 := zK3_9 hS p0 p1 p2 h9
    induction m with
    | zero => intro i y ι1 K n h; omega
    | succ m ih => ?_
    intro i y ι1 K n hm h0 hi hf hsq hnq hy
    have hic := zclN h0
    have hinv := zSq_inv hq hS hk9 _ hsq
    refine r_iload_n X (by rfl) dX8_codeAt_35 ?_
    refine r_iload_n X (by rfl) dX8_codeAt_36 ?_
    refine r_icmp_gt X 51 dX8_codeAt_37 (by decide) (fun h37 => ?_) (fun h37 => ?_)
    · refine r_iload_n X (by rfl) dX8_codeAt_51 ?_
      refine r_ireturn X hR dX8_codeAt_52 rfl (Nat.zero_le _) (Nat.zero_le _) ?_
      rw [show i.toNatClampNeg = (x.toInt + 1).toNat by omega] at hsq
      exact ⟨_, _, rfl, rfl, hf, Or.inr (Or.inr ⟨h9, hxs, K, n, hsq, hy (by omega)⟩)⟩
    · obtain ⟨n9, -, hex⟩ := zVn_ex hq hS hinv.1 (by have := hinv.2; omega)
      have hex : ∃ n, zVn fl C K n := ⟨n9, hex⟩
      refine r_aload_n X (by rfl) dX8_codeAt_40 ?_
      refine r_callV X dX8_codeAt_41 zLV_X8_38 zCd_X8_makeFirst (e_X8_makeFirst _ G z τ ρ _ _ ha g0 g1 g2 g3 hmu hdv haw hnw hW hWt (fl := fl) (by intro s s1 s2; rw [hf mu dmw, hf dv dvw]; exact hF s s1 s2) hq hS (g := zG3 e0 e1 e2) (k := K) (fun j hj => (hKG j hj).2) hinv.1 (fun j hj => zRo_fr (hrow j hj) (hf _ (dWw j hj))) hnq hex) ha ⟨by decide, rfl, rfl⟩ rfl rfl ⟨⟨rfl, rfl⟩, ⟨by decide, by decide⟩, ⟨Nat.le_of_ble_eq_true rfl, Nat.le_of_ble_eq_true rfl⟩, Nat.le_of_ble_eq_true rfl⟩ ?_
      rintro _ _ ⟨r2, ι2, n2, rfl, rfl, hf2, hv2, hm2, hr2n, hnw2⟩
      refine r_istore_n X (by decide) dX8_codeAt_44 ?_
      refine r_iinc X 1 (by decide) (by rfl) (by decide) dX8_codeAt_45 ?_
      refine r_goto X 35 dX8_codeAt_48 (by decide) ?_
      exact zW.loc4 (by rfl) (by rfl) (by rfl) (by rfl) (ih _ _ _ _ _ (by have e := zinc (x := i) (by omega); omega) (by have e := zinc (x := i) (by omega); omega) (by have e := zinc (x := i) (by omega); omega) (fun b hb => by rw [hf2 b hb]; exact hf b hb) (by have e := zinc (x := i) (by omega); have e2 := zclN (i := i + 1) (by omega); rw [show (i + 1).toNatClampNeg = i.toNatClampNeg + 1 by omega]; exact ⟨K, n, hsq, hv2, hm2, rfl⟩) hnw2 (fun _ => hr2n))
  have L12 : ∀ (h9 : C ((zK3 e0 e1 e2) 0) + C ((zK3 e0 e1 e2) 1) + C ((zK3 e0 e1 e2) 2) < 999) (hxs : x.toInt < ((C ((zK3 e0 e1 e2) 0) + C ((zK3 e0 e1 e2) 1) + C ((zK3 e0 e1 e2) 2) : Nat) : Int)) (m : Nat) (i : Int32) (ι1 : Nat → Nat → Int32), (3 - i.toInt).toNat < m → 0 ≤ i.toInt → (∀ b, b ≠ nw → ι1 b = ι b) → (∀ j : Nat, (j : Int) < i.toInt → j < 3 → ι1 nw j = 24) → zW E G 4 (z, τ, ρ, ι1, κ) 0 0 12 [(0, .ref a), (1, .int x), (2, .int i)] [] := by
    intro h9 hxs m
    induction m with
    | zero => intro i ι1 h; omega
    | succ m ih => ?_
    intro i ι1 hm h0 hf hN
    refine r_iload_n X (by rfl) dX8_codeAt_12 ?_
    refine r_iconst X 3 (by decide) dX8_codeAt_13 ?_
    refine r_icmp_ge X 31 dX8_codeAt_14 (by decide) (fun h14 => ?_) (fun h14 => ?_)
    · rw [show Int32.toInt 3 = 3 from rfl] at h14
      refine r_iconst X (-1) (by decide) dX8_codeAt_31 ?_
      refine r_istore_n X (by decide) dX8_codeAt_32 ?_
      refine r_iconst X 0 (by decide) dX8_codeAt_33 ?_
      refine r_istore_n X (by decide) dX8_codeAt_34 ?_
      exact zW.loc4 (by rfl) (by rfl) (by rfl) (by rfl) (L35 h9 hxs ((x.toInt + 1).toNat + 1) 0 _ _ (zK3 e0 e1 e2) 0 (by rw [show (0 : Int32).toInt = 0 from rfl]; omega) (by decide) (by rw [show (0 : Int32).toInt = 0 from rfl]; omega) hf (show zSq fl C (zK3 e0 e1 e2) 0 (zK3 e0 e1 e2) 0 from ⟨rfl, rfl⟩) (fun j hj => by rw [hN j (by omega) hj]; have := hKG j hj; rw [show Int32.toInt 24 = 24 from rfl]; omega) (fun h => by rw [show (0 : Int32).toInt = 0 from rfl] at h; omega))
    · rw [show Int32.toInt 3 = 3 from rfl] at h14
      refine r_aload_n X (by rfl) dX8_codeAt_17 ?_
      refine r_getR X dX8_codeAt_18 zF_X8_23 ha g3 ?_
      refine r_iload_n X (by rfl) dX8_codeAt_21 ?_
      refine r_bipush X 24 (by decide) dX8_codeAt_22 ?_
      refine r_iastore X dX8_codeAt_24 hnw (vp_in_iff.mpr ⟨h0, by omega⟩) ?_
      refine r_iinc X 1 (by decide) (by rfl) (by decide) dX8_codeAt_25 ?_
      refine r_goto X 12 dX8_codeAt_28 (by decide) ?_
      exact zW.loc3 (by rfl) (by rfl) (by rfl) (ih _ _ (by have e := zinc (x := i) (by omega); omega) (by have e := zinc (x := i) (by omega); omega) (fun b hb => by rw [zu_r hb]; exact hf b hb) (fun k hk hk3 => by
        have e := zinc (x := i) (by omega)
        by_cases q : k = i.toNatClampNeg
        · subst q; rw [zu_s]
        · rw [zu_k q]; exact hN k (by have := zclN h0; omega) hk3))
  refine r_iload_n X (by rfl) dX8_codeAt_0 ?_
  refine r_aload_n X (by rfl) dX8_codeAt_1 ?_
  refine r_callV X dX8_codeAt_2 zLV_X8_34 zCd_X8_fewestToGoal (e_X8_fewestToGoal _ G z τ ρ _ _ ha g0 g1 g2 g3 hmu hdv haw hnw hW hWt (R := fun j => C ((zK3 e0 e1 e2) j)) (fun j hj => by have h := hrow j hj 24 (by omega); unfold zRw at h; rw [show 32 + zG3 e0 e1 e2 j - 24 = zK3 e0 e1 e2 j by have := hKG j hj; omega] at h; exact h) (fun j hj => hq.2.1 _ (by have := hKG j hj; omega))) ha ⟨by decide, rfl, rfl⟩ rfl rfl ⟨⟨rfl, rfl⟩, ⟨by decide, by decide⟩, ⟨Nat.le_of_ble_eq_true rfl, Nat.le_of_ble_eq_true rfl⟩, Nat.le_of_ble_eq_true rfl⟩ ?_
  rintro _ _ ⟨r, rfl, rfl, hr1, hr2⟩
  refine r_icmp_lt X 10 dX8_codeAt_5 (by decide) (fun h5 => ?_) (fun h5 => ?_)
  · change C ((zK3 e0 e1 e2) 0) + C ((zK3 e0 e1 e2) 1) + C ((zK3 e0 e1 e2) 2) < 999 → r.toInt = ((C ((zK3 e0 e1 e2) 0) + C ((zK3 e0 e1 e2) 1) + C ((zK3 e0 e1 e2) 2) : Nat) : Int) at hr1
    change 999 ≤ C ((zK3 e0 e1 e2) 0) + C ((zK3 e0 e1 e2) 1) + C ((zK3 e0 e1 e2) 2) → r.toInt = -1 at hr2
    have hsm : C ((zK3 e0 e1 e2) 0) + C ((zK3 e0 e1 e2) 1) + C ((zK3 e0 e1 e2) 2) < 999 := Nat.lt_of_not_le (fun h => by have := hr2 h; omega)
    refine r_iconst X 0 (by decide) dX8_codeAt_10 ?_
    refine r_istore_n X (by decide) dX8_codeAt_11 ?_
    exact zW.loc3 (by rfl) (by rfl) (by rfl) (L12 hsm (by have := hr1 hsm; omega) 4 _ _ (by decide) (by decide) (fun _ _ => rfl) (fun k hk _ => by rw [show Int32.toInt 0 = 0 from rfl] at hk; omega))
  · change C ((zK3 e0 e1 e2) 0) + C ((zK3 e0 e1 e2) 1) + C ((zK3 e0 e1 e2) 2) < 999 → r.toInt = ((C ((zK3 e0 e1 e2) 0) + C ((zK3 e0 e1 e2) 1) + C ((zK3 e0 e1 e2) 2) : Nat) : Int) at hr1
    change 999 ≤ C ((zK3 e0 e1 e2) 0) + C ((zK3 e0 e1 e2) 1) + C ((zK3 e0 e1 e2) 2) → r.toInt = -1 at hr2
    refine r_iconst X (-1) (by decide) dX8_codeAt_8 ?_
    refine r_ireturn X hR dX8_codeAt_9 rfl (Nat.zero_le _) (Nat.zero_le _) ?_
    rcases Nat.lt_or_ge (C ((zK3 e0 e1 e2) 0) + C ((zK3 e0 e1 e2) 1) + C ((zK3 e0 e1 e2) 2)) 999 with e | e
    · exact ⟨_, _, rfl, rfl, fun _ _ => rfl, Or.inl ⟨by have := hr1 e; omega, rfl⟩⟩
    · exact ⟨_, _, rfl, rfl, fun _ _ => rfl, Or.inr (Or.inl ⟨e, rfl⟩)⟩
set_option maxHeartbeats 4000000 in
set_option maxRecDepth 100000 in
theorem e_X11_setting (l : Launch) (G : zG) (z : Nat) (τ : Nat → Option (Nat × Nat)) (ρ : Nat → Nat → Option Nat) (ι : Nat → Nat → Int32) (κ : Nat → Nat → Int64) {B c : Nat} (hL : zLay τ ρ B c) (hJ : zJ B c ι) (hRl : zRel B c ι) (x y u w : Int32) : zM l G yX11_setting cX11_setting 5 (some .int) ({ frames := 4, cells := 0, slots := 0, locals := 94 } : Room) [.ref B, .int x, .int y, .int u, .int w] (z, τ, ρ, ι, κ) (fun v s => ∃ r ι2 κ2, v = some (.int r) ∧ s = (z, τ, ρ, ι2, κ2) ∧ zFc B c ι ι2 ∧ ((¬ (((-8 ≤ x.toInt ∧ x.toInt ≤ 8) ∧ (-8 ≤ y.toInt ∧ y.toInt ≤ 8) ∧ (-8 ≤ u.toInt ∧ u.toInt ≤ 8)) ∧ 0 ≤ w.toInt) ∧ r = -2) ∨ ((((-8 ≤ x.toInt ∧ x.toInt ≤ 8) ∧ (-8 ≤ y.toInt ∧ y.toInt ≤ 8) ∧ (-8 ≤ u.toInt ∧ u.toInt ≤ 8)) ∧ 0 ≤ w.toInt) ∧ zSe (zFs B ι c) (zSpr (zFs B ι c) 29575) (zK3 x y u) w r))) 0 0 := by
  refine zM_of zCd_X11_setting (Nat.le_of_ble_eq_true rfl) ?_
  intro E X hR hE
  subst hE
  show zW E G 5 (z, τ, ρ, ι, κ) 0 0 0 [(0, .ref B), (1, .int x), (2, .int y), (3, .int u), (4, .int w)] []
  have hW : ∀ j, j < 3 → ρ (B + 23) j = some (B + 24 + j) := fun j hj => by
    rcases (show j = 0 ∨ j = 1 ∨ j = 2 by omega) with rfl | rfl | rfl
    · exact (zrf hL 26 rfl)
    · exact (zrf hL 27 rfl)
    · exact (zrf hL 28 rfl)
  have hWt : ∀ j, j < 3 → τ (B + 24 + j) = some (13, 49) := fun j hj => by
    rcases (show j = 0 ∨ j = 1 ∨ j = 2 by omega) with rfl | rfl | rfl
    · exact (zt hL 24 rfl)
    · exact (zt hL 25 rfl)
    · exact (zt hL 26 rfl)
  obtain ⟨Sx, hS⟩ := zSo_spr B ι c
  refine r_iload_n X (by rfl) dX11_setting_0 ?_
  refine r_callS X dX11_setting_1 zLS_X11_202 zCd_X11_isPower (c_X11_isPower _ G z τ ρ _ _ _) rfl rfl ⟨⟨rfl, rfl⟩, ⟨by decide, by decide⟩, ⟨Nat.le_of_ble_eq_true rfl, Nat.le_of_ble_eq_true rfl⟩, Nat.le_of_ble_eq_true rfl⟩ ?_
  rintro _ _ ⟨rfl, rfl⟩
  refine r_if_eq X 26 dX11_setting_4 (by decide) (fun h4 => ?_) (fun h4 => ?_)
  · refine r_bipush X (-2) (by decide) dX11_setting_26 ?_
    refine r_ireturn X hR dX11_setting_28 rfl (Nat.zero_le _) (Nat.zero_le _) ?_
    exact ⟨_, _, _, rfl, rfl, zFc.rfl hJ, Or.inl ⟨fun hP => by first | exact zif0 h4 hP.1.1 | exact zif0 h11 hP.1.2.1 | exact zif0 h18 hP.1.2.2 | (have := hP.2; omega), rfl⟩⟩
  · refine r_iload_n X (by rfl) dX11_setting_7 ?_
    refine r_callS X dX11_setting_8 zLS_X11_202 zCd_X11_isPower (c_X11_isPower _ G z τ ρ _ _ _) rfl rfl ⟨⟨rfl, rfl⟩, ⟨by decide, by decide⟩, ⟨Nat.le_of_ble_eq_true rfl, Nat.le_of_ble_eq_true rfl⟩, Nat.le_of_ble_eq_true rfl⟩ ?_
    rintro _ _ ⟨rfl, rfl⟩
    refine r_if_eq X 26 dX11_setting_11 (by decide) (fun h11 => ?_) (fun h11 => ?_)
    · refine r_bipush X (-2) (by decide) dX11_setting_26 ?_
      refine r_ireturn X hR dX11_setting_28 rfl (Nat.zero_le _) (Nat.zero_le _) ?_
      exact ⟨_, _, _, rfl, rfl, zFc.rfl hJ, Or.inl ⟨fun hP => by first | exact zif0 h4 hP.1.1 | exact zif0 h11 hP.1.2.1 | exact zif0 h18 hP.1.2.2 | (have := hP.2; omega), rfl⟩⟩
    · refine r_iload_n X (by rfl) dX11_setting_14 ?_
      refine r_callS X dX11_setting_15 zLS_X11_202 zCd_X11_isPower (c_X11_isPower _ G z τ ρ _ _ _) rfl rfl ⟨⟨rfl, rfl⟩, ⟨by decide, by decide⟩, ⟨Nat.le_of_ble_eq_true rfl, Nat.le_of_ble_eq_true rfl⟩, Nat.le_of_ble_eq_true rfl⟩ ?_
      rintro _ _ ⟨rfl, rfl⟩
      refine r_if_eq X 26 dX11_setting_18 (by decide) (fun h18 => ?_) (fun h18 => ?_)
      · refine r_bipush X (-2) (by decide) dX11_setting_26 ?_
        refine r_ireturn X hR dX11_setting_28 rfl (Nat.zero_le _) (Nat.zero_le _) ?_
        exact ⟨_, _, _, rfl, rfl, zFc.rfl hJ, Or.inl ⟨fun hP => by first | exact zif0 h4 hP.1.1 | exact zif0 h11 hP.1.2.1 | exact zif0 h18 hP.1.2.2 | (have := hP.2; omega), rfl⟩⟩
      · refine r_iload X (by rfl) dX11_setting_21 ?_
        refine r_if_ge X 29 dX11_setting_23 (by decide) (fun h23 => ?_) (fun h23 => ?_)
        · refine r_aload_n X (by rfl) dX11_setting_29 ?_
          refine r_iload_n X (by rfl) dX11_setting_30 ?_
          refine r_iload_n X (by rfl) dX11_setting_31 ?_
          refine r_iload_n X (by rfl) dX11_setting_32 ?_
          refine r_callV X dX11_setting_33 zLV_X11_205 zCd_X11_aimSettings (e_X11_aimSettings _ G z τ ρ _ _ hL hJ hRl _ _ _ (zif1 h4) (zif1 h11) (zif1 h18)) (zt hL 0 rfl) ⟨by decide, rfl, rfl⟩ rfl rfl ⟨⟨rfl, rfl⟩, ⟨by decide, by decide⟩, ⟨Nat.le_of_ble_eq_true rfl, Nat.le_of_ble_eq_true rfl⟩, Nat.le_of_ble_eq_true rfl⟩ ?_
          rintro _ _ ⟨rfl, ι2, rfl, hf2, hq0, hq1, hq2, hmd⟩
          refine r_aload_n X (by rfl) dX11_setting_36 ?_
          refine r_getR X dX11_setting_37 zF_X11_46 (zt hL 0 rfl) (zrf hL 5 rfl) ?_
          refine r_iload X (by rfl) dX11_setting_40 ?_
          refine r_callV X dX11_setting_42 zLV_X11_211 zCd_X8_codeAt (e_X8_codeAt _ G z τ ρ _ _ (zt hL 20 rfl) (zrf hL 22 rfl) (zrf hL 23 rfl) (zrf hL 24 rfl) (zrf hL 25 rfl) (zt hL 21 rfl) (zt hL 22 rfl) (zt hL 23 rfl) (zt hL 27 rfl) hW hWt (fl := (zFs B ι c)) hmd (by omega) (by omega) (fun j hj => by show B + 24 + j ≠ B + 27; omega) (zCq_spr B ι c) hS (e0 := x) (e1 := y) (e2 := u) (zif1 h4) (zif1 h11) (zif1 h18) (by intro j hj; rcases (show j = 0 ∨ j = 1 ∨ j = 2 by omega) with rfl | rfl | rfl <;> first | exact hq0 | exact hq1 | exact hq2) _ (by omega)) (zt hL 20 rfl) ⟨by decide, rfl, rfl⟩ rfl rfl ⟨⟨rfl, rfl⟩, ⟨by decide, by decide⟩, ⟨Nat.le_of_ble_eq_true rfl, Nat.le_of_ble_eq_true rfl⟩, Nat.le_of_ble_eq_true rfl⟩ ?_
          rintro _ _ ⟨r, ι3, rfl, rfl, hf3, hse⟩
          refine r_ireturn X hR dX11_setting_45 rfl (Nat.zero_le _) (Nat.zero_le _) ?_
          exact ⟨_, _, _, rfl, rfl, zFc_fr hJ (fun b q => by rw [hf3 b (by unfold zCx at q; omega)]; exact hf2 b (by unfold zCx at q; omega)), Or.inr ⟨⟨⟨zif1 h4, zif1 h11, zif1 h18⟩, by omega⟩, hse⟩⟩
        · refine r_bipush X (-2) (by decide) dX11_setting_26 ?_
          refine r_ireturn X hR dX11_setting_28 rfl (Nat.zero_le _) (Nat.zero_le _) ?_
          exact ⟨_, _, _, rfl, rfl, zFc.rfl hJ, Or.inl ⟨fun hP => by first | exact zif0 h4 hP.1.1 | exact zif0 h11 hP.1.2.1 | exact zif0 h18 hP.1.2.2 | (have := hP.2; omega), rfl⟩⟩
set_option maxHeartbeats 4000000 in
set_option maxRecDepth 100000 in
theorem e_X12_setting (l : Launch) (G : zG) (z : Nat) (τ : Nat → Option (Nat × Nat)) (ρ : Nat → Nat → Option Nat) (ι : Nat → Nat → Int32) (κ : Nat → Nat → Int64) {B c : Nat} (hL : zLay τ ρ B c) (hJ : zJ B c ι) (x y u w : Int32) : zM l G yX12_setting cX12_setting 18 (some .int) ({ frames := 2, cells := 0, slots := 0, locals := 49 } : Room) [.ref (B + 38), .int x, .int y, .int u, .int w] (z, τ, ρ, ι, κ) (fun v s => ∃ r ι2 κ2, v = some (.int r) ∧ s = (z, τ, ρ, ι2, κ2) ∧ zFm B ι ι2 ∧ ((¬ (((-8 ≤ x.toInt ∧ x.toInt ≤ 8) ∧ (-8 ≤ y.toInt ∧ y.toInt ≤ 8) ∧ (-8 ≤ u.toInt ∧ u.toInt ≤ 8)) ∧ 0 ≤ w.toInt) ∧ r = -2) ∨ ((((-8 ≤ x.toInt ∧ x.toInt ≤ 8) ∧ (-8 ≤ y.toInt ∧ y.toInt ≤ 8) ∧ (-8 ≤ u.toInt ∧ u.toInt ≤ 8)) ∧ 0 ≤ w.toInt) ∧ zSe (zFs B ι c) (zSpr (zFs B ι c) 29575) (zK3 x y u) w r))) 0 0 := by
  refine zM_of zCd_X12_setting (Nat.le_of_ble_eq_true rfl) ?_
  intro E X hR hE
  subst hE
  show zW E G 18 (z, τ, ρ, ι, κ) 0 0 0 [(0, .ref (B + 38)), (1, .int x), (2, .int y), (3, .int u), (4, .int w)] []
  have hwl := w.toInt_lt
  obtain ⟨Sx, hS0⟩ := zSo_spr B ι c
  have hq0 := zCq_spr B ι c
  have L66 : ∀ (L : Nat → Nat) (hb : ∀ k, L k ≤ 999) (hq : zCqF (zFs B ι c) L) (hS : zSo2 (zFs B ι c) L Sx) (ι1 : Nat → Nat → Int32) (hf : zFm B ι ι1) (hV : ∀ k, k < 65 → (ι1 (B + 61) k).toInt = ((L k : Nat) : Int)) (hse : ∀ r, zSe (zFs B ι c) L (zK3 x y u) w r → zSe (zFs B ι c) (zSpr (zFs B ι c) 29575) (zK3 x y u) w r) (hpx : (-8 ≤ x.toInt ∧ x.toInt ≤ 8)) (hpy : (-8 ≤ y.toInt ∧ y.toInt ≤ 8)) (hpu : (-8 ≤ u.toInt ∧ u.toInt ≤ 8)) (hw : 0 ≤ w.toInt) (hsm : L ((zK3 x y u) 0) + L ((zK3 x y u) 1) + L ((zK3 x y u) 2) < 999) (hws : w.toInt < ((L ((zK3 x y u) 0) + L ((zK3 x y u) 1) + L ((zK3 x y u) 2) : Nat) : Int)) (m : Nat) (k p q v d r : Int32) (K : Nat → Nat) (n0 : Nat), (w.toInt + 1 - k.toInt).toNat < m → 0 ≤ k.toInt → k.toInt ≤ w.toInt + 1 → r.toInt = ((L ((zK3 x y u) 0) + L ((zK3 x y u) 1) + L ((zK3 x y u) 2) : Nat) : Int) - k.toInt → zSq (zFs B ι c) L (zK3 x y u) k.toNatClampNeg K n0 → zTri p q v K → (1 ≤ k.toInt → d.toInt = (n0 : Int)) → zW E G 18 (z, τ, ρ, ι1, κ) 0 0 66 [(0, .ref (B + 38)), (1, .int x), (2, .int y), (3, .int u), (4, .int w), (5, .int r), (6, .int p), (7, .int q), (8, .int v), (9, .int d), (10, .int k)] [] := by
    intro L hb hq hS ι1 hf hV hse hpx hpy hpu hw hsm hws m
    have hk9 := zK3_9 hS hpx hpy hpu hsm
    induction m with
    | zero => intro k p q v d r K n0 h; omega
    | succ m ih => ?_
    intro k p q v d r K n0 hm hk0 hk1 hr hsq ht3 hd
    have hkc := zclN hk0
    have hinv := zSq_inv hq hS hk9 _ hsq
    have hG0 := hS.2 _ (hinv.1 0 (by decide)).2 (hinv.1 0 (by decide)).1
    have hG1 := hS.2 _ (hinv.1 1 (by decide)).2 (hinv.1 1 (by decide)).1
    have hG2 := hS.2 _ (hinv.1 2 (by decide)).2 (hinv.1 2 (by decide)).1
    have L79 : ∀ (hkw : k.toInt ≤ w.toInt) (m2 : Nat) (n d p q v : Int32), (125 - n.toInt).toNat < m2 → 1 ≤ n.toInt → n.toInt ≤ 124 → zJ3 (zFs B ι c) L K n d p q v → zW E G 18 (z, τ, ρ, ι1, κ) 0 0 79 [(0, .ref (B + 38)), (1, .int x), (2, .int y), (3, .int u), (4, .int w), (5, .int r), (6, .int p), (7, .int q), (8, .int v), (9, .int d), (10, .int k), (11, .int n)] [] := by
      intro hkw m2
      induction m2 with
      | zero => intro n d p q v h; omega
      | succ m2 ih2 => ?_
      intro n d p q v hm2 hn0 hn1 hI
      have hnc := zclN (i := n) (by omega)
      refine r_iload X (by rfl) dX12_setting_79 ?_
      refine r_bipush X 124 (by decide) dX12_setting_81 ?_
      refine r_icmp_ge X 250 dX12_setting_83 (by decide) (fun h83 => ?_) (fun h83 => ?_)
      · rw [show Int32.toInt 124 = 124 from rfl] at h83
        obtain ⟨N, b1, b2, b3, b4⟩ : ∃ N : Nat, d.toInt = (N : Int) ∧ zVn (zFs B ι c) L K N ∧ (∀ m, m < N → ¬ zVn (zFs B ι c) L K m) ∧ zTri p q v (zMvF K N) := by
          rcases hI with ⟨a1, a2, a3⟩ | hI
          · exfalso
            obtain ⟨n9, hn9, hex⟩ := zVn_ex hq hS hinv.1 (by have := hinv.2; omega)
            exact a3 n9 (by omega) hex
          · exact hI
        have ek := zinc (x := k) (by omega)
        obtain ⟨r9, hr9', er⟩ : ∃ r9, r + -1 = r9 ∧ r9.toInt = r.toInt - 1 := ⟨_, rfl, zdec1 (by omega)⟩
        refine r_iinc X (-1) (by decide) (by rfl) (by decide) dX12_setting_250 ?_
        rw [hr9']
        refine r_iinc X 1 (by decide) (by rfl) (by decide) dX12_setting_253 ?_
        refine r_goto X 66 dX12_setting_256 (by decide) ?_
        exact zW.loc11 (by rfl) (by rfl) (by rfl) (by rfl) (by rfl) (by rfl) (by rfl) (by rfl) (by rfl) (by rfl) (by rfl) (ih _ _ _ _ _ _ (zMvF K N) N (by rw [ek]; omega) (by rw [ek]; omega) (by rw [ek]; omega) (by rw [er, ek, hr]; omega) (by have e2 := zclN (i := k + 1) (by rw [ek]; omega); rw [show (k + 1).toNatClampNeg = k.toNatClampNeg + 1 by rw [ek] at e2; omega]; exact ⟨K, n0, hsq, b2, b3, rfl⟩) b4 (fun _ => b1))
      · rw [show Int32.toInt 124 = 124 from rfl] at h83
        refine r_iload X (by rfl) dX12_setting_86 ?_
        refine r_if_ge X 250 dX12_setting_88 (by decide) (fun h88 => ?_) (fun h88 => ?_)
        · obtain ⟨N, b1, b2, b3, b4⟩ : ∃ N : Nat, d.toInt = (N : Int) ∧ zVn (zFs B ι c) L K N ∧ (∀ m, m < N → ¬ zVn (zFs B ι c) L K m) ∧ zTri p q v (zMvF K N) := by
            rcases hI with ⟨a1, a2, a3⟩ | hI
            · exfalso
              omega
            · exact hI
          have ek := zinc (x := k) (by omega)
          obtain ⟨r9, hr9', er⟩ : ∃ r9, r + -1 = r9 ∧ r9.toInt = r.toInt - 1 := ⟨_, rfl, zdec1 (by omega)⟩
          refine r_iinc X (-1) (by decide) (by rfl) (by decide) dX12_setting_250 ?_
          rw [hr9']
          refine r_iinc X 1 (by decide) (by rfl) (by decide) dX12_setting_253 ?_
          refine r_goto X 66 dX12_setting_256 (by decide) ?_
          exact zW.loc11 (by rfl) (by rfl) (by rfl) (by rfl) (by rfl) (by rfl) (by rfl) (by rfl) (by rfl) (by rfl) (by rfl) (ih _ _ _ _ _ _ (zMvF K N) N (by rw [ek]; omega) (by rw [ek]; omega) (by rw [ek]; omega) (by rw [er, ek, hr]; omega) (by have e2 := zclN (i := k + 1) (by rw [ek]; omega); rw [show (k + 1).toNatClampNeg = k.toNatClampNeg + 1 by rw [ek] at e2; omega]; exact ⟨K, n0, hsq, b2, b3, rfl⟩) b4 (fun _ => b1))
        · obtain ⟨a1, a2, a3⟩ : d.toInt < 0 ∧ zTri p q v K ∧ ∀ m, m < n.toNatClampNeg → ¬ zVn (zFs B ι c) L K m := by
            rcases hI with h | ⟨N, b1, -⟩
            · exact h
            · omega
          obtain ⟨t1, t2, t3⟩ := id a2
          have ei := zinc (x := n) (by omega)
          have eic := zclN (i := n + 1) (by rw [ei]; omega)
          rw [ei] at eic
          have q1 : (125 - (n + 1).toInt).toNat < m2 := by rw [ei]; omega
          have q2 : 1 ≤ (n + 1).toInt := by rw [ei]; omega
          have q3 : (n + 1).toInt ≤ 124 := by rw [ei]; omega
          clear ei
          have er1 := zsub1 (x := r) (by omega)
          obtain ⟨s, hs_, s0⟩ := zrm10e (x := n) (by omega)
          obtain ⟨t, ht_, t0⟩ := zrm100e (x := n) (by omega)
          have hinv2 := hinv.2
          refine r_iload X (by rfl) dX12_setting_91 ?_
          refine r_bipush X 10 (by decide) dX12_setting_93 ?_
          refine r_irem X (by decide) dX12_setting_95 ?_
          rw [hs_]
          refine r_istore X (by decide) dX12_setting_96 ?_
          refine r_iload X (by rfl) dX12_setting_98 ?_
          refine r_bipush X 10 (by decide) dX12_setting_100 ?_
          refine r_idiv X (by decide) dX12_setting_102 ?_
          refine r_bipush X 10 (by decide) dX12_setting_103 ?_
          refine r_irem X (by decide) dX12_setting_105 ?_
          rw [ht_]
          refine r_istore X (by decide) dX12_setting_106 ?_
          refine r_iload X (by rfl) dX12_setting_108 ?_
          refine r_bipush X 100 (by decide) dX12_setting_110 ?_
          refine r_icmp_ge X 119 dX12_setting_112 (by decide) (fun h112 => ?_) (fun h112 => ?_)
          · rw [show Int32.toInt 100 = 100 from rfl] at h112
            refine r_iconst X (-1) (by decide) dX12_setting_119 ?_
            refine r_istore X (by decide) dX12_setting_120 ?_
            refine r_iload X (by rfl) dX12_setting_122 ?_
            refine r_i2l X dX12_setting_124 ?_
            refine r_lconst X 1 (by decide) dX12_setting_125 ?_
            refine r_ldc2 X zK_X12_171 dX12_setting_126 ?_
            refine r_callS X dX12_setting_129 zLS_X12_163 zCd_X12_in (c_X12_in _ G z τ ρ _ _ _ _ _) rfl rfl ⟨⟨rfl, rfl⟩, ⟨by decide, by decide⟩, ⟨Nat.le_of_ble_eq_true rfl, Nat.le_of_ble_eq_true rfl⟩, Nat.le_of_ble_eq_true rfl⟩ ?_
            rintro _ _ ⟨rfl, rfl⟩
            rw [Int32.toInt_toInt64, show Int64.toInt 1 = 1 from rfl, show Int64.toInt 3 = 3 from rfl]
            refine r_if_eq X 244 dX12_setting_132 (by decide) (fun h132 => ?_) (fun h132 => ?_)
            · have hnv : ¬ zVn (zFs B ι c) L K n.toNatClampNeg := fun hv => zif0 h132 (by have := hv.1.1; omega)
              have hI2 : zJ3 (zFs B ι c) L K (n + 1) d p q v := Or.inl ⟨by omega, a2, fun m hm => by
                by_cases e3 : m = n.toNatClampNeg
                · rw [e3]; exact hnv
                · exact a3 m (by omega)⟩
              refine r_iinc X 1 (by decide) (by rfl) (by decide) dX12_setting_244 ?_
              refine r_goto X 79 dX12_setting_247 (by decide) ?_
              exact zW.loc12 (by rfl) (by rfl) (by rfl) (by rfl) (by rfl) (by rfl) (by rfl) (by rfl) (by rfl) (by rfl) (by rfl) (by rfl) (ih2 _ _ _ _ _ q1 q2 q3 hI2)
            · refine r_iload X (by rfl) dX12_setting_135 ?_
              refine r_iconst X 3 (by decide) dX12_setting_137 ?_
              refine r_icmp_ge X 244 dX12_setting_138 (by decide) (fun h138 => ?_) (fun h138 => ?_)
              · rw [show Int32.toInt 3 = 3 from rfl] at h138
                have hnv : ¬ zVn (zFs B ι c) L K n.toNatClampNeg := fun hv => by have := hv.1.2.1; omega
                have hI2 : zJ3 (zFs B ι c) L K (n + 1) d p q v := Or.inl ⟨by omega, a2, fun m hm => by
                  by_cases e3 : m = n.toNatClampNeg
                  · rw [e3]; exact hnv
                  · exact a3 m (by omega)⟩
                refine r_iinc X 1 (by decide) (by rfl) (by decide) dX12_setting_244 ?_
                refine r_goto X 79 dX12_setting_247 (by decide) ?_
                exact zW.loc12 (by rfl) (by rfl) (by rfl) (by rfl) (by rfl) (by rfl) (by rfl) (by rfl) (by rfl) (by rfl) (by rfl) (by rfl) (ih2 _ _ _ _ _ q1 q2 q3 hI2)
              · rw [show Int32.toInt 3 = 3 from rfl] at h138
                refine r_aload_n X (by rfl) dX12_setting_141 ?_
                refine r_iload X (by rfl) dX12_setting_142 ?_
                refine r_iload X (by rfl) dX12_setting_144 ?_
                refine r_callV X dX12_setting_146 zLV_X12_241 zCd_X12_lets (c_X12_lets _ G z τ ρ _ _ hL (zJ_fm hJ hf) _ _) (zt hL 38 rfl) ⟨by decide, rfl, rfl⟩ rfl rfl ⟨⟨rfl, rfl⟩, ⟨by decide, by decide⟩, ⟨Nat.le_of_ble_eq_true rfl, Nat.le_of_ble_eq_true rfl⟩, Nat.le_of_ble_eq_true rfl⟩ ?_
                rintro _ _ ⟨rfl, rfl⟩
                rw [zLb_fm hf]
                have hflg : zLb B ι s (decide (Int32.toInt (-1) < 0)) c = zFs B ι c (3 - s.toNatClampNeg) := zFs_m (by have := zif1 h132; omega)
                have hscl := zclN (i := s) (by omega)
                refine r_if_eq X 244 dX12_setting_149 (by decide) (fun h149 => ?_) (fun h149 => ?_)
                · have hnv : ¬ zVn (zFs B ι c) L K n.toNatClampNeg := fun hv => zif0 h149 (by rw [hflg]; exact zVn_fl1 hv (by omega) (by omega))
                  have hI2 : zJ3 (zFs B ι c) L K (n + 1) d p q v := Or.inl ⟨by omega, a2, fun m hm => by
                    by_cases e3 : m = n.toNatClampNeg
                    · rw [e3]; exact hnv
                    · exact a3 m (by omega)⟩
                  refine r_iinc X 1 (by decide) (by rfl) (by decide) dX12_setting_244 ?_
                  refine r_goto X 79 dX12_setting_247 (by decide) ?_
                  exact zW.loc12 (by rfl) (by rfl) (by rfl) (by rfl) (by rfl) (by rfl) (by rfl) (by rfl) (by rfl) (by rfl) (by rfl) (by rfl) (ih2 _ _ _ _ _ q1 q2 q3 hI2)
                · have hs3 := zif1 h132
                  refine r_iload X (by rfl) dX12_setting_152 ?_
                  refine r_iload X (by rfl) dX12_setting_154 ?_
                  refine r_if_ne X 167 dX12_setting_156 (by decide) (fun h156 => ?_) (fun h156 => ?_)
                  · refine r_iconst X 0 (by decide) dX12_setting_167 ?_
                    refine r_isub X dX12_setting_168 ?_
                    first | (obtain ⟨x5, hx5, ex5⟩ := zst_a (p := p) (s := s) (by omega) (by omega) (by omega); rw [hx5]) | (obtain ⟨x5, hx5, ex5⟩ := zst_b (p := p) (s := s) (by omega) (by omega) (by omega); rw [hx5]) | rw [Int32.sub_zero]
                    refine r_istore X (by decide) dX12_setting_169 ?_
                    refine r_iload X (by rfl) dX12_setting_171 ?_
                    refine r_iload X (by rfl) dX12_setting_173 ?_
                    refine r_iconst X 1 (by decide) dX12_setting_175 ?_
                    refine r_icmp_ne X 187 dX12_setting_176 (by decide) (fun h176 => ?_) (fun h176 => ?_)
                    · refine r_iconst X 0 (by decide) dX12_setting_187 ?_
                      refine r_isub X dX12_setting_188 ?_
                      first | (obtain ⟨x6, hx6, ex6⟩ := zst_a (p := q) (s := s) (by omega) (by omega) (by omega); rw [hx6]) | (obtain ⟨x6, hx6, ex6⟩ := zst_b (p := q) (s := s) (by omega) (by omega) (by omega); rw [hx6]) | rw [Int32.sub_zero]
                      refine r_istore X (by decide) dX12_setting_189 ?_
                      refine r_iload X (by rfl) dX12_setting_191 ?_
                      refine r_iload X (by rfl) dX12_setting_193 ?_
                      refine r_iconst X 2 (by decide) dX12_setting_195 ?_
                      refine r_icmp_ne X 207 dX12_setting_196 (by decide) (fun h196 => ?_) (fun h196 => ?_)
                      · exact (zt3 (by omega) (by omega) h156 h176 h196).elim
                      · refine r_iload X (by rfl) dX12_setting_199 ?_
                        refine r_iload X (by rfl) dX12_setting_201 ?_
                        refine r_imul X dX12_setting_203 ?_
                        refine r_goto X 208 dX12_setting_204 (by decide) ?_
                        refine r_isub X dX12_setting_208 ?_
                        first | (obtain ⟨x7, hx7, ex7⟩ := zst_a (p := v) (s := s) (by omega) (by omega) (by omega); rw [hx7]) | (obtain ⟨x7, hx7, ex7⟩ := zst_b (p := v) (s := s) (by omega) (by omega) (by omega); rw [hx7]) | rw [Int32.sub_zero]
                        refine r_istore X (by decide) dX12_setting_209 ?_
                        refine zW.loc18 (i0 := 0) (i1 := 1) (i2 := 2) (i3 := 3) (i4 := 4) (i5 := 5) (i6 := 6) (i7 := 7) (i8 := 8) (i9 := 9) (i10 := 10) (i11 := 11) (i12 := 12) (i13 := 13) (i14 := 14) (i15 := 15) (i16 := 16) (i17 := 17) (by rfl) (by rfl) (by rfl) (by rfl) (by rfl) (by rfl) (by rfl) (by rfl) (by rfl) (by rfl) (by rfl) (by rfl) (by rfl) (by rfl) (by rfl) (by rfl) (by rfl) (by rfl)  ?_
                        have htt := congrArg Int32.toInt h196
                        rw [show Int32.toInt 2 = 2 from rfl] at htt
                        obtain ⟨M_, hM_⟩ : ∃ M_, K 2 + n.toNatClampNeg % 10 = M_ := ⟨_, rfl⟩
                        have hMw : zMw K n.toNatClampNeg = M_ := by
                          unfold zMw
                          rw [if_neg (by omega), show n.toNatClampNeg / 10 % 10 = 2 by omega, hM_]
                        have hl5 : zLk L x7 (L M_) := by unfold zLk; rw [show (32 + x7.toInt).toNat = M_ by omega]
                        have hl0 : zLk L p (L (K 0)) := by unfold zLk; rw [show (32 + p.toInt).toNat = K 0 by omega]
                        have hl1 : zLk L q (L (K 1)) := by unfold zLk; rw [show (32 + q.toInt).toNat = K 1 by omega]
                        have hl2 : zLk L v (L (K 2)) := by unfold zLk; rw [show (32 + v.toInt).toNat = K 2 by omega]
                        refine r_aload_n X (by rfl) dX12_setting_211 ?_
                        refine r_iload X (by rfl) dX12_setting_212 ?_
                        refine r_iload X (by rfl) dX12_setting_214 ?_
                        refine r_iload X (by rfl) dX12_setting_216 ?_
                        refine r_callV X dX12_setting_218 zLV_X12_255 zCd_X12_leastTo (c_X12_leastTo _ G z τ ρ _ _ hL _ _ _ (by omega) (by omega) (by omega) _ hV hb _ _ _ (by first | exact hl5 | exact hl0) (by first | exact hl5 | exact hl1) (by first | exact hl5 | exact hl2)) (zt hL 38 rfl) ⟨by decide, rfl, rfl⟩ rfl rfl ⟨⟨rfl, rfl⟩, ⟨by decide, by decide⟩, ⟨Nat.le_of_ble_eq_true rfl, Nat.le_of_ble_eq_true rfl⟩, Nat.le_of_ble_eq_true rfl⟩ ?_
                        rintro _ _ ⟨r3, rfl, hr31, hr32, rfl⟩
                        refine r_iload X (by rfl) dX12_setting_221 ?_
                        refine r_iconst X 1 (by decide) dX12_setting_223 ?_
                        refine r_isub X dX12_setting_224 ?_
                        refine r_icmp_ne X 244 dX12_setting_225 (by decide) (fun h225 => ?_) (fun h225 => ?_)
                        · have hnv : ¬ zVn (zFs B ι c) L K n.toNatClampNeg := fun hv => by
                            have hvf := (zVn_f hq hS hinv.1 hv).2.1
                            rw [hMw, show n.toNatClampNeg / 10 % 10 = 2 by omega] at hvf
                            have e9 := hr31 (by omega)
                            exact h225 (Int32.toInt_inj.mp (by omega))
                          have hI2 : zJ3 (zFs B ι c) L K (n + 1) d p q v := Or.inl ⟨by omega, a2, fun m hm => by
                            by_cases e3 : m = n.toNatClampNeg
                            · rw [e3]; exact hnv
                            · exact a3 m (by omega)⟩
                          refine r_iinc X 1 (by decide) (by rfl) (by decide) dX12_setting_244 ?_
                          refine r_goto X 79 dX12_setting_247 (by decide) ?_
                          exact zW.loc12 (by rfl) (by rfl) (by rfl) (by rfl) (by rfl) (by rfl) (by rfl) (by rfl) (by rfl) (by rfl) (by rfl) (by rfl) (ih2 _ _ _ _ _ q1 q2 q3 hI2)
                        · have e225 := congrArg Int32.toInt h225
                          rw [er1] at e225
                          have hs9 : L (K 0) + L (K 1) + L M_ < 999 := Nat.lt_of_not_le (fun h => by have := hr32 h; omega)
                          have e9 := hr31 hs9
                          have hvv : zVn (zFs B ι c) L K n.toNatClampNeg := ⟨⟨⟨by have := zif1 h132; omega, by have := zif1 h132; omega⟩, by omega, by omega⟩, zVn_gl1 (s := s.toNatClampNeg) (by rw [← hflg]; exact zif1 h149) (by omega) (by omega), by rw [hMw, show n.toNatClampNeg / 10 % 10 = 2 by omega]; omega⟩
                          have hI2 : zJ3 (zFs B ι c) L K (n + 1) n p q x7 := Or.inr ⟨n.toNatClampNeg, by omega, hvv, a3, by
                            refine ⟨?_, ?_, ?_⟩ <;> unfold zMvF
                            · rw [if_neg (show ¬ 0 = n.toNatClampNeg / 10 % 10 by omega)]; omega
                            · rw [if_neg (show ¬ 1 = n.toNatClampNeg / 10 % 10 by omega)]; omega
                            · rw [if_pos (show 2 = n.toNatClampNeg / 10 % 10 by omega), hMw]; omega⟩
                          refine r_iload X (by rfl) dX12_setting_228 ?_
                          refine r_istore X (by decide) dX12_setting_230 ?_
                          refine r_iload X (by rfl) dX12_setting_232 ?_
                          refine r_istore X (by decide) dX12_setting_234 ?_
                          refine r_iload X (by rfl) dX12_setting_236 ?_
                          refine r_istore X (by decide) dX12_setting_238 ?_
                          refine r_iload X (by rfl) dX12_setting_240 ?_
                          refine r_istore X (by decide) dX12_setting_242 ?_
                          refine r_iinc X 1 (by decide) (by rfl) (by decide) dX12_setting_244 ?_
                          refine r_goto X 79 dX12_setting_247 (by decide) ?_
                          exact zW.loc12 (by rfl) (by rfl) (by rfl) (by rfl) (by rfl) (by rfl) (by rfl) (by rfl) (by rfl) (by rfl) (by rfl) (by rfl) (ih2 _ _ _ _ _ q1 q2 q3 hI2)
                    · refine r_iload X (by rfl) dX12_setting_179 ?_
                      refine r_iload X (by rfl) dX12_setting_181 ?_
                      refine r_imul X dX12_setting_183 ?_
                      refine r_goto X 188 dX12_setting_184 (by decide) ?_
                      refine r_isub X dX12_setting_188 ?_
                      first | (obtain ⟨x6, hx6, ex6⟩ := zst_a (p := q) (s := s) (by omega) (by omega) (by omega); rw [hx6]) | (obtain ⟨x6, hx6, ex6⟩ := zst_b (p := q) (s := s) (by omega) (by omega) (by omega); rw [hx6]) | rw [Int32.sub_zero]
                      refine r_istore X (by decide) dX12_setting_189 ?_
                      refine r_iload X (by rfl) dX12_setting_191 ?_
                      refine r_iload X (by rfl) dX12_setting_193 ?_
                      refine r_iconst X 2 (by decide) dX12_setting_195 ?_
                      refine r_icmp_ne X 207 dX12_setting_196 (by decide) (fun h196 => ?_) (fun h196 => ?_)
                      · refine r_iconst X 0 (by decide) dX12_setting_207 ?_
                        refine r_isub X dX12_setting_208 ?_
                        first | (obtain ⟨x7, hx7, ex7⟩ := zst_a (p := v) (s := s) (by omega) (by omega) (by omega); rw [hx7]) | (obtain ⟨x7, hx7, ex7⟩ := zst_b (p := v) (s := s) (by omega) (by omega) (by omega); rw [hx7]) | rw [Int32.sub_zero]
                        refine r_istore X (by decide) dX12_setting_209 ?_
                        refine zW.loc18 (i0 := 0) (i1 := 1) (i2 := 2) (i3 := 3) (i4 := 4) (i5 := 5) (i6 := 6) (i7 := 7) (i8 := 8) (i9 := 9) (i10 := 10) (i11 := 11) (i12 := 12) (i13 := 13) (i14 := 14) (i15 := 15) (i16 := 16) (i17 := 17) (by rfl) (by rfl) (by rfl) (by rfl) (by rfl) (by rfl) (by rfl) (by rfl) (by rfl) (by rfl) (by rfl) (by rfl) (by rfl) (by rfl) (by rfl) (by rfl) (by rfl) (by rfl)  ?_
                        have htt := congrArg Int32.toInt h176
                        rw [show Int32.toInt 1 = 1 from rfl] at htt
                        obtain ⟨M_, hM_⟩ : ∃ M_, K 1 + n.toNatClampNeg % 10 = M_ := ⟨_, rfl⟩
                        have hMw : zMw K n.toNatClampNeg = M_ := by
                          unfold zMw
                          rw [if_neg (by omega), show n.toNatClampNeg / 10 % 10 = 1 by omega, hM_]
                        have hl5 : zLk L x6 (L M_) := by unfold zLk; rw [show (32 + x6.toInt).toNat = M_ by omega]
                        have hl0 : zLk L p (L (K 0)) := by unfold zLk; rw [show (32 + p.toInt).toNat = K 0 by omega]
                        have hl1 : zLk L q (L (K 1)) := by unfold zLk; rw [show (32 + q.toInt).toNat = K 1 by omega]
                        have hl2 : zLk L v (L (K 2)) := by unfold zLk; rw [show (32 + v.toInt).toNat = K 2 by omega]
                        refine r_aload_n X (by rfl) dX12_setting_211 ?_
                        refine r_iload X (by rfl) dX12_setting_212 ?_
                        refine r_iload X (by rfl) dX12_setting_214 ?_
                        refine r_iload X (by rfl) dX12_setting_216 ?_
                        refine r_callV X dX12_setting_218 zLV_X12_255 zCd_X12_leastTo (c_X12_leastTo _ G z τ ρ _ _ hL _ _ _ (by omega) (by omega) (by omega) _ hV hb _ _ _ (by first | exact hl5 | exact hl0) (by first | exact hl5 | exact hl1) (by first | exact hl5 | exact hl2)) (zt hL 38 rfl) ⟨by decide, rfl, rfl⟩ rfl rfl ⟨⟨rfl, rfl⟩, ⟨by decide, by decide⟩, ⟨Nat.le_of_ble_eq_true rfl, Nat.le_of_ble_eq_true rfl⟩, Nat.le_of_ble_eq_true rfl⟩ ?_
                        rintro _ _ ⟨r3, rfl, hr31, hr32, rfl⟩
                        refine r_iload X (by rfl) dX12_setting_221 ?_
                        refine r_iconst X 1 (by decide) dX12_setting_223 ?_
                        refine r_isub X dX12_setting_224 ?_
                        refine r_icmp_ne X 244 dX12_setting_225 (by decide) (fun h225 => ?_) (fun h225 => ?_)
                        · have hnv : ¬ zVn (zFs B ι c) L K n.toNatClampNeg := fun hv => by
                            have hvf := (zVn_f hq hS hinv.1 hv).2.1
                            rw [hMw, show n.toNatClampNeg / 10 % 10 = 1 by omega] at hvf
                            have e9 := hr31 (by omega)
                            exact h225 (Int32.toInt_inj.mp (by omega))
                          have hI2 : zJ3 (zFs B ι c) L K (n + 1) d p q v := Or.inl ⟨by omega, a2, fun m hm => by
                            by_cases e3 : m = n.toNatClampNeg
                            · rw [e3]; exact hnv
                            · exact a3 m (by omega)⟩
                          refine r_iinc X 1 (by decide) (by rfl) (by decide) dX12_setting_244 ?_
                          refine r_goto X 79 dX12_setting_247 (by decide) ?_
                          exact zW.loc12 (by rfl) (by rfl) (by rfl) (by rfl) (by rfl) (by rfl) (by rfl) (by rfl) (by rfl) (by rfl) (by rfl) (by rfl) (ih2 _ _ _ _ _ q1 q2 q3 hI2)
                        · have e225 := congrArg Int32.toInt h225
                          rw [er1] at e225
                          have hs9 : L (K 0) + L M_ + L (K 2) < 999 := Nat.lt_of_not_le (fun h => by have := hr32 h; omega)
                          have e9 := hr31 hs9
                          have hvv : zVn (zFs B ι c) L K n.toNatClampNeg := ⟨⟨⟨by have := zif1 h132; omega, by have := zif1 h132; omega⟩, by omega, by omega⟩, zVn_gl1 (s := s.toNatClampNeg) (by rw [← hflg]; exact zif1 h149) (by omega) (by omega), by rw [hMw, show n.toNatClampNeg / 10 % 10 = 1 by omega]; omega⟩
                          have hI2 : zJ3 (zFs B ι c) L K (n + 1) n p x6 v := Or.inr ⟨n.toNatClampNeg, by omega, hvv, a3, by
                            refine ⟨?_, ?_, ?_⟩ <;> unfold zMvF
                            · rw [if_neg (show ¬ 0 = n.toNatClampNeg / 10 % 10 by omega)]; omega
                            · rw [if_pos (show 1 = n.toNatClampNeg / 10 % 10 by omega), hMw]; omega
                            · rw [if_neg (show ¬ 2 = n.toNatClampNeg / 10 % 10 by omega)]; omega⟩
                          refine r_iload X (by rfl) dX12_setting_228 ?_
                          refine r_istore X (by decide) dX12_setting_230 ?_
                          refine r_iload X (by rfl) dX12_setting_232 ?_
                          refine r_istore X (by decide) dX12_setting_234 ?_
                          refine r_iload X (by rfl) dX12_setting_236 ?_
                          refine r_istore X (by decide) dX12_setting_238 ?_
                          refine r_iload X (by rfl) dX12_setting_240 ?_
                          refine r_istore X (by decide) dX12_setting_242 ?_
                          refine r_iinc X 1 (by decide) (by rfl) (by decide) dX12_setting_244 ?_
                          refine r_goto X 79 dX12_setting_247 (by decide) ?_
                          exact zW.loc12 (by rfl) (by rfl) (by rfl) (by rfl) (by rfl) (by rfl) (by rfl) (by rfl) (by rfl) (by rfl) (by rfl) (by rfl) (ih2 _ _ _ _ _ q1 q2 q3 hI2)
                      · exact absurd (h176.symm.trans h196) (by decide)
                  · refine r_iload X (by rfl) dX12_setting_159 ?_
                    refine r_iload X (by rfl) dX12_setting_161 ?_
                    refine r_imul X dX12_setting_163 ?_
                    refine r_goto X 168 dX12_setting_164 (by decide) ?_
                    refine r_isub X dX12_setting_168 ?_
                    first | (obtain ⟨x5, hx5, ex5⟩ := zst_a (p := p) (s := s) (by omega) (by omega) (by omega); rw [hx5]) | (obtain ⟨x5, hx5, ex5⟩ := zst_b (p := p) (s := s) (by omega) (by omega) (by omega); rw [hx5]) | rw [Int32.sub_zero]
                    refine r_istore X (by decide) dX12_setting_169 ?_
                    refine r_iload X (by rfl) dX12_setting_171 ?_
                    refine r_iload X (by rfl) dX12_setting_173 ?_
                    refine r_iconst X 1 (by decide) dX12_setting_175 ?_
                    refine r_icmp_ne X 187 dX12_setting_176 (by decide) (fun h176 => ?_) (fun h176 => ?_)
                    · refine r_iconst X 0 (by decide) dX12_setting_187 ?_
                      refine r_isub X dX12_setting_188 ?_
                      first | (obtain ⟨x6, hx6, ex6⟩ := zst_a (p := q) (s := s) (by omega) (by omega) (by omega); rw [hx6]) | (obtain ⟨x6, hx6, ex6⟩ := zst_b (p := q) (s := s) (by omega) (by omega) (by omega); rw [hx6]) | rw [Int32.sub_zero]
                      refine r_istore X (by decide) dX12_setting_189 ?_
                      refine r_iload X (by rfl) dX12_setting_191 ?_
                      refine r_iload X (by rfl) dX12_setting_193 ?_
                      refine r_iconst X 2 (by decide) dX12_setting_195 ?_
                      refine r_icmp_ne X 207 dX12_setting_196 (by decide) (fun h196 => ?_) (fun h196 => ?_)
                      · refine r_iconst X 0 (by decide) dX12_setting_207 ?_
                        refine r_isub X dX12_setting_208 ?_
                        first | (obtain ⟨x7, hx7, ex7⟩ := zst_a (p := v) (s := s) (by omega) (by omega) (by omega); rw [hx7]) | (obtain ⟨x7, hx7, ex7⟩ := zst_b (p := v) (s := s) (by omega) (by omega) (by omega); rw [hx7]) | rw [Int32.sub_zero]
                        refine r_istore X (by decide) dX12_setting_209 ?_
                        refine zW.loc18 (i0 := 0) (i1 := 1) (i2 := 2) (i3 := 3) (i4 := 4) (i5 := 5) (i6 := 6) (i7 := 7) (i8 := 8) (i9 := 9) (i10 := 10) (i11 := 11) (i12 := 12) (i13 := 13) (i14 := 14) (i15 := 15) (i16 := 16) (i17 := 17) (by rfl) (by rfl) (by rfl) (by rfl) (by rfl) (by rfl) (by rfl) (by rfl) (by rfl) (by rfl) (by rfl) (by rfl) (by rfl) (by rfl) (by rfl) (by rfl) (by rfl) (by rfl)  ?_
                        have htt := congrArg Int32.toInt h156
                        rw [show Int32.toInt 0 = 0 from rfl] at htt
                        obtain ⟨M_, hM_⟩ : ∃ M_, K 0 + n.toNatClampNeg % 10 = M_ := ⟨_, rfl⟩
                        have hMw : zMw K n.toNatClampNeg = M_ := by
                          unfold zMw
                          rw [if_neg (by omega), show n.toNatClampNeg / 10 % 10 = 0 by omega, hM_]
                        have hl5 : zLk L x5 (L M_) := by unfold zLk; rw [show (32 + x5.toInt).toNat = M_ by omega]
                        have hl0 : zLk L p (L (K 0)) := by unfold zLk; rw [show (32 + p.toInt).toNat = K 0 by omega]
                        have hl1 : zLk L q (L (K 1)) := by unfold zLk; rw [show (32 + q.toInt).toNat = K 1 by omega]
                        have hl2 : zLk L v (L (K 2)) := by unfold zLk; rw [show (32 + v.toInt).toNat = K 2 by omega]
                        refine r_aload_n X (by rfl) dX12_setting_211 ?_
                        refine r_iload X (by rfl) dX12_setting_212 ?_
                        refine r_iload X (by rfl) dX12_setting_214 ?_
                        refine r_iload X (by rfl) dX12_setting_216 ?_
                        refine r_callV X dX12_setting_218 zLV_X12_255 zCd_X12_leastTo (c_X12_leastTo _ G z τ ρ _ _ hL _ _ _ (by omega) (by omega) (by omega) _ hV hb _ _ _ (by first | exact hl5 | exact hl0) (by first | exact hl5 | exact hl1) (by first | exact hl5 | exact hl2)) (zt hL 38 rfl) ⟨by decide, rfl, rfl⟩ rfl rfl ⟨⟨rfl, rfl⟩, ⟨by decide, by decide⟩, ⟨Nat.le_of_ble_eq_true rfl, Nat.le_of_ble_eq_true rfl⟩, Nat.le_of_ble_eq_true rfl⟩ ?_
                        rintro _ _ ⟨r3, rfl, hr31, hr32, rfl⟩
                        refine r_iload X (by rfl) dX12_setting_221 ?_
                        refine r_iconst X 1 (by decide) dX12_setting_223 ?_
                        refine r_isub X dX12_setting_224 ?_
                        refine r_icmp_ne X 244 dX12_setting_225 (by decide) (fun h225 => ?_) (fun h225 => ?_)
                        · have hnv : ¬ zVn (zFs B ι c) L K n.toNatClampNeg := fun hv => by
                            have hvf := (zVn_f hq hS hinv.1 hv).2.1
                            rw [hMw, show n.toNatClampNeg / 10 % 10 = 0 by omega] at hvf
                            have e9 := hr31 (by omega)
                            exact h225 (Int32.toInt_inj.mp (by omega))
                          have hI2 : zJ3 (zFs B ι c) L K (n + 1) d p q v := Or.inl ⟨by omega, a2, fun m hm => by
                            by_cases e3 : m = n.toNatClampNeg
                            · rw [e3]; exact hnv
                            · exact a3 m (by omega)⟩
                          refine r_iinc X 1 (by decide) (by rfl) (by decide) dX12_setting_244 ?_
                          refine r_goto X 79 dX12_setting_247 (by decide) ?_
                          exact zW.loc12 (by rfl) (by rfl) (by rfl) (by rfl) (by rfl) (by rfl) (by rfl) (by rfl) (by rfl) (by rfl) (by rfl) (by rfl) (ih2 _ _ _ _ _ q1 q2 q3 hI2)
                        · have e225 := congrArg Int32.toInt h225
                          rw [er1] at e225
                          have hs9 : L M_ + L (K 1) + L (K 2) < 999 := Nat.lt_of_not_le (fun h => by have := hr32 h; omega)
                          have e9 := hr31 hs9
                          have hvv : zVn (zFs B ι c) L K n.toNatClampNeg := ⟨⟨⟨by have := zif1 h132; omega, by have := zif1 h132; omega⟩, by omega, by omega⟩, zVn_gl1 (s := s.toNatClampNeg) (by rw [← hflg]; exact zif1 h149) (by omega) (by omega), by rw [hMw, show n.toNatClampNeg / 10 % 10 = 0 by omega]; omega⟩
                          have hI2 : zJ3 (zFs B ι c) L K (n + 1) n x5 q v := Or.inr ⟨n.toNatClampNeg, by omega, hvv, a3, by
                            refine ⟨?_, ?_, ?_⟩ <;> unfold zMvF
                            · rw [if_pos (show 0 = n.toNatClampNeg / 10 % 10 by omega), hMw]; omega
                            · rw [if_neg (show ¬ 1 = n.toNatClampNeg / 10 % 10 by omega)]; omega
                            · rw [if_neg (show ¬ 2 = n.toNatClampNeg / 10 % 10 by omega)]; omega⟩
                          refine r_iload X (by rfl) dX12_setting_228 ?_
                          refine r_istore X (by decide) dX12_setting_230 ?_
                          refine r_iload X (by rfl) dX12_setting_232 ?_
                          refine r_istore X (by decide) dX12_setting_234 ?_
                          refine r_iload X (by rfl) dX12_setting_236 ?_
                          refine r_istore X (by decide) dX12_setting_238 ?_
                          refine r_iload X (by rfl) dX12_setting_240 ?_
                          refine r_istore X (by decide) dX12_setting_242 ?_
                          refine r_iinc X 1 (by decide) (by rfl) (by decide) dX12_setting_244 ?_
                          refine r_goto X 79 dX12_setting_247 (by decide) ?_
                          exact zW.loc12 (by rfl) (by rfl) (by rfl) (by rfl) (by rfl) (by rfl) (by rfl) (by rfl) (by rfl) (by rfl) (by rfl) (by rfl) (ih2 _ _ _ _ _ q1 q2 q3 hI2)
                      · exact absurd (h156.symm.trans h196) (by decide)
                    · exact absurd (h156.symm.trans h176) (by decide)
          · rw [show Int32.toInt 100 = 100 from rfl] at h112
            refine r_iconst X 1 (by decide) dX12_setting_115 ?_
            refine r_goto X 120 dX12_setting_116 (by decide) ?_
            refine r_istore X (by decide) dX12_setting_120 ?_
            refine r_iload X (by rfl) dX12_setting_122 ?_
            refine r_i2l X dX12_setting_124 ?_
            refine r_lconst X 1 (by decide) dX12_setting_125 ?_
            refine r_ldc2 X zK_X12_171 dX12_setting_126 ?_
            refine r_callS X dX12_setting_129 zLS_X12_163 zCd_X12_in (c_X12_in _ G z τ ρ _ _ _ _ _) rfl rfl ⟨⟨rfl, rfl⟩, ⟨by decide, by decide⟩, ⟨Nat.le_of_ble_eq_true rfl, Nat.le_of_ble_eq_true rfl⟩, Nat.le_of_ble_eq_true rfl⟩ ?_
            rintro _ _ ⟨rfl, rfl⟩
            rw [Int32.toInt_toInt64, show Int64.toInt 1 = 1 from rfl, show Int64.toInt 3 = 3 from rfl]
            refine r_if_eq X 244 dX12_setting_132 (by decide) (fun h132 => ?_) (fun h132 => ?_)
            · have hnv : ¬ zVn (zFs B ι c) L K n.toNatClampNeg := fun hv => zif0 h132 (by have := hv.1.1; omega)
              have hI2 : zJ3 (zFs B ι c) L K (n + 1) d p q v := Or.inl ⟨by omega, a2, fun m hm => by
                by_cases e3 : m = n.toNatClampNeg
                · rw [e3]; exact hnv
                · exact a3 m (by omega)⟩
              refine r_iinc X 1 (by decide) (by rfl) (by decide) dX12_setting_244 ?_
              refine r_goto X 79 dX12_setting_247 (by decide) ?_
              exact zW.loc12 (by rfl) (by rfl) (by rfl) (by rfl) (by rfl) (by rfl) (by rfl) (by rfl) (by rfl) (by rfl) (by rfl) (by rfl) (ih2 _ _ _ _ _ q1 q2 q3 hI2)
            · refine r_iload X (by rfl) dX12_setting_135 ?_
              refine r_iconst X 3 (by decide) dX12_setting_137 ?_
              refine r_icmp_ge X 244 dX12_setting_138 (by decide) (fun h138 => ?_) (fun h138 => ?_)
              · rw [show Int32.toInt 3 = 3 from rfl] at h138
                have hnv : ¬ zVn (zFs B ι c) L K n.toNatClampNeg := fun hv => by have := hv.1.2.1; omega
                have hI2 : zJ3 (zFs B ι c) L K (n + 1) d p q v := Or.inl ⟨by omega, a2, fun m hm => by
                  by_cases e3 : m = n.toNatClampNeg
                  · rw [e3]; exact hnv
                  · exact a3 m (by omega)⟩
                refine r_iinc X 1 (by decide) (by rfl) (by decide) dX12_setting_244 ?_
                refine r_goto X 79 dX12_setting_247 (by decide) ?_
                exact zW.loc12 (by rfl) (by rfl) (by rfl) (by rfl) (by rfl) (by rfl) (by rfl) (by rfl) (by rfl) (by rfl) (by rfl) (by rfl) (ih2 _ _ _ _ _ q1 q2 q3 hI2)
              · rw [show Int32.toInt 3 = 3 from rfl] at h138
                refine r_aload_n X (by rfl) dX12_setting_141 ?_
                refine r_iload X (by rfl) dX12_setting_142 ?_
                refine r_iload X (by rfl) dX12_setting_144 ?_
                refine r_callV X dX12_setting_146 zLV_X12_241 zCd_X12_lets (c_X12_lets _ G z τ ρ _ _ hL (zJ_fm hJ hf) _ _) (zt hL 38 rfl) ⟨by decide, rfl, rfl⟩ rfl rfl ⟨⟨rfl, rfl⟩, ⟨by decide, by decide⟩, ⟨Nat.le_of_ble_eq_true rfl, Nat.le_of_ble_eq_true rfl⟩, Nat.le_of_ble_eq_true rfl⟩ ?_
                rintro _ _ ⟨rfl, rfl⟩
                rw [zLb_fm hf]
                have hflg : zLb B ι s (decide (Int32.toInt 1 < 0)) c = zFs B ι c (3 + s.toNatClampNeg) := zFs_p (by have := zif1 h132; omega)
                have hscl := zclN (i := s) (by omega)
                refine r_if_eq X 244 dX12_setting_149 (by decide) (fun h149 => ?_) (fun h149 => ?_)
                · have hnv : ¬ zVn (zFs B ι c) L K n.toNatClampNeg := fun hv => zif0 h149 (by rw [hflg]; exact zVn_fl0 hv (by omega) (by omega))
                  have hI2 : zJ3 (zFs B ι c) L K (n + 1) d p q v := Or.inl ⟨by omega, a2, fun m hm => by
                    by_cases e3 : m = n.toNatClampNeg
                    · rw [e3]; exact hnv
                    · exact a3 m (by omega)⟩
                  refine r_iinc X 1 (by decide) (by rfl) (by decide) dX12_setting_244 ?_
                  refine r_goto X 79 dX12_setting_247 (by decide) ?_
                  exact zW.loc12 (by rfl) (by rfl) (by rfl) (by rfl) (by rfl) (by rfl) (by rfl) (by rfl) (by rfl) (by rfl) (by rfl) (by rfl) (ih2 _ _ _ _ _ q1 q2 q3 hI2)
                · have hs3 := zif1 h132
                  refine r_iload X (by rfl) dX12_setting_152 ?_
                  refine r_iload X (by rfl) dX12_setting_154 ?_
                  refine r_if_ne X 167 dX12_setting_156 (by decide) (fun h156 => ?_) (fun h156 => ?_)
                  · refine r_iconst X 0 (by decide) dX12_setting_167 ?_
                    refine r_isub X dX12_setting_168 ?_
                    first | (obtain ⟨x5, hx5, ex5⟩ := zst_a (p := p) (s := s) (by omega) (by omega) (by omega); rw [hx5]) | (obtain ⟨x5, hx5, ex5⟩ := zst_b (p := p) (s := s) (by omega) (by omega) (by omega); rw [hx5]) | rw [Int32.sub_zero]
                    refine r_istore X (by decide) dX12_setting_169 ?_
                    refine r_iload X (by rfl) dX12_setting_171 ?_
                    refine r_iload X (by rfl) dX12_setting_173 ?_
                    refine r_iconst X 1 (by decide) dX12_setting_175 ?_
                    refine r_icmp_ne X 187 dX12_setting_176 (by decide) (fun h176 => ?_) (fun h176 => ?_)
                    · refine r_iconst X 0 (by decide) dX12_setting_187 ?_
                      refine r_isub X dX12_setting_188 ?_
                      first | (obtain ⟨x6, hx6, ex6⟩ := zst_a (p := q) (s := s) (by omega) (by omega) (by omega); rw [hx6]) | (obtain ⟨x6, hx6, ex6⟩ := zst_b (p := q) (s := s) (by omega) (by omega) (by omega); rw [hx6]) | rw [Int32.sub_zero]
                      refine r_istore X (by decide) dX12_setting_189 ?_
                      refine r_iload X (by rfl) dX12_setting_191 ?_
                      refine r_iload X (by rfl) dX12_setting_193 ?_
                      refine r_iconst X 2 (by decide) dX12_setting_195 ?_
                      refine r_icmp_ne X 207 dX12_setting_196 (by decide) (fun h196 => ?_) (fun h196 => ?_)
                      · exact (zt3 (by omega) (by omega) h156 h176 h196).elim
                      · refine r_iload X (by rfl) dX12_setting_199 ?_
                        refine r_iload X (by rfl) dX12_setting_201 ?_
                        refine r_imul X dX12_setting_203 ?_
                        refine r_goto X 208 dX12_setting_204 (by decide) ?_
                        refine r_isub X dX12_setting_208 ?_
                        first | (obtain ⟨x7, hx7, ex7⟩ := zst_a (p := v) (s := s) (by omega) (by omega) (by omega); rw [hx7]) | (obtain ⟨x7, hx7, ex7⟩ := zst_b (p := v) (s := s) (by omega) (by omega) (by omega); rw [hx7]) | rw [Int32.sub_zero]
                        refine r_istore X (by decide) dX12_setting_209 ?_
                        refine zW.loc18 (i0 := 0) (i1 := 1) (i2 := 2) (i3 := 3) (i4 := 4) (i5 := 5) (i6 := 6) (i7 := 7) (i8 := 8) (i9 := 9) (i10 := 10) (i11 := 11) (i12 := 12) (i13 := 13) (i14 := 14) (i15 := 15) (i16 := 16) (i17 := 17) (by rfl) (by rfl) (by rfl) (by rfl) (by rfl) (by rfl) (by rfl) (by rfl) (by rfl) (by rfl) (by rfl) (by rfl) (by rfl) (by rfl) (by rfl) (by rfl) (by rfl) (by rfl)  ?_
                        have htt := congrArg Int32.toInt h196
                        rw [show Int32.toInt 2 = 2 from rfl] at htt
                        obtain ⟨M_, hM_⟩ : ∃ M_, K 2 - n.toNatClampNeg % 10 = M_ := ⟨_, rfl⟩
                        have hMw : zMw K n.toNatClampNeg = M_ := by
                          unfold zMw
                          rw [if_pos (by omega), show n.toNatClampNeg / 10 % 10 = 2 by omega, hM_]
                        have hl5 : zLk L x7 (L M_) := by unfold zLk; rw [show (32 + x7.toInt).toNat = M_ by omega]
                        have hl0 : zLk L p (L (K 0)) := by unfold zLk; rw [show (32 + p.toInt).toNat = K 0 by omega]
                        have hl1 : zLk L q (L (K 1)) := by unfold zLk; rw [show (32 + q.toInt).toNat = K 1 by omega]
                        have hl2 : zLk L v (L (K 2)) := by unfold zLk; rw [show (32 + v.toInt).toNat = K 2 by omega]
                        refine r_aload_n X (by rfl) dX12_setting_211 ?_
                        refine r_iload X (by rfl) dX12_setting_212 ?_
                        refine r_iload X (by rfl) dX12_setting_214 ?_
                        refine r_iload X (by rfl) dX12_setting_216 ?_
                        refine r_callV X dX12_setting_218 zLV_X12_255 zCd_X12_leastTo (c_X12_leastTo _ G z τ ρ _ _ hL _ _ _ (by omega) (by omega) (by omega) _ hV hb _ _ _ (by first | exact hl5 | exact hl0) (by first | exact hl5 | exact hl1) (by first | exact hl5 | exact hl2)) (zt hL 38 rfl) ⟨by decide, rfl, rfl⟩ rfl rfl ⟨⟨rfl, rfl⟩, ⟨by decide, by decide⟩, ⟨Nat.le_of_ble_eq_true rfl, Nat.le_of_ble_eq_true rfl⟩, Nat.le_of_ble_eq_true rfl⟩ ?_
                        rintro _ _ ⟨r3, rfl, hr31, hr32, rfl⟩
                        refine r_iload X (by rfl) dX12_setting_221 ?_
                        refine r_iconst X 1 (by decide) dX12_setting_223 ?_
                        refine r_isub X dX12_setting_224 ?_
                        refine r_icmp_ne X 244 dX12_setting_225 (by decide) (fun h225 => ?_) (fun h225 => ?_)
                        · have hnv : ¬ zVn (zFs B ι c) L K n.toNatClampNeg := fun hv => by
                            have hvf := (zVn_f hq hS hinv.1 hv).2.1
                            rw [hMw, show n.toNatClampNeg / 10 % 10 = 2 by omega] at hvf
                            have e9 := hr31 (by omega)
                            exact h225 (Int32.toInt_inj.mp (by omega))
                          have hI2 : zJ3 (zFs B ι c) L K (n + 1) d p q v := Or.inl ⟨by omega, a2, fun m hm => by
                            by_cases e3 : m = n.toNatClampNeg
                            · rw [e3]; exact hnv
                            · exact a3 m (by omega)⟩
                          refine r_iinc X 1 (by decide) (by rfl) (by decide) dX12_setting_244 ?_
                          refine r_goto X 79 dX12_setting_247 (by decide) ?_
                          exact zW.loc12 (by rfl) (by rfl) (by rfl) (by rfl) (by rfl) (by rfl) (by rfl) (by rfl) (by rfl) (by rfl) (by rfl) (by rfl) (ih2 _ _ _ _ _ q1 q2 q3 hI2)
                        · have e225 := congrArg Int32.toInt h225
                          rw [er1] at e225
                          have hs9 : L (K 0) + L (K 1) + L M_ < 999 := Nat.lt_of_not_le (fun h => by have := hr32 h; omega)
                          have e9 := hr31 hs9
                          have hvv : zVn (zFs B ι c) L K n.toNatClampNeg := ⟨⟨⟨by have := zif1 h132; omega, by have := zif1 h132; omega⟩, by omega, by omega⟩, zVn_gl0 (s := s.toNatClampNeg) (by rw [← hflg]; exact zif1 h149) (by omega) (by omega), by rw [hMw, show n.toNatClampNeg / 10 % 10 = 2 by omega]; omega⟩
                          have hI2 : zJ3 (zFs B ι c) L K (n + 1) n p q x7 := Or.inr ⟨n.toNatClampNeg, by omega, hvv, a3, by
                            refine ⟨?_, ?_, ?_⟩ <;> unfold zMvF
                            · rw [if_neg (show ¬ 0 = n.toNatClampNeg / 10 % 10 by omega)]; omega
                            · rw [if_neg (show ¬ 1 = n.toNatClampNeg / 10 % 10 by omega)]; omega
                            · rw [if_pos (show 2 = n.toNatClampNeg / 10 % 10 by omega), hMw]; omega⟩
                          refine r_iload X (by rfl) dX12_setting_228 ?_
                          refine r_istore X (by decide) dX12_setting_230 ?_
                          refine r_iload X (by rfl) dX12_setting_232 ?_
                          refine r_istore X (by decide) dX12_setting_234 ?_
                          refine r_iload X (by rfl) dX12_setting_236 ?_
                          refine r_istore X (by decide) dX12_setting_238 ?_
                          refine r_iload X (by rfl) dX12_setting_240 ?_
                          refine r_istore X (by decide) dX12_setting_242 ?_
                          refine r_iinc X 1 (by decide) (by rfl) (by decide) dX12_setting_244 ?_
                          refine r_goto X 79 dX12_setting_247 (by decide) ?_
                          exact zW.loc12 (by rfl) (by rfl) (by rfl) (by rfl) (by rfl) (by rfl) (by rfl) (by rfl) (by rfl) (by rfl) (by rfl) (by rfl) (ih2 _ _ _ _ _ q1 q2 q3 hI2)
                    · refine r_iload X (by rfl) dX12_setting_179 ?_
                      refine r_iload X (by rfl) dX12_setting_181 ?_
                      refine r_imul X dX12_setting_183 ?_
                      refine r_goto X 188 dX12_setting_184 (by decide) ?_
                      refine r_isub X dX12_setting_188 ?_
                      first | (obtain ⟨x6, hx6, ex6⟩ := zst_a (p := q) (s := s) (by omega) (by omega) (by omega); rw [hx6]) | (obtain ⟨x6, hx6, ex6⟩ := zst_b (p := q) (s := s) (by omega) (by omega) (by omega); rw [hx6]) | rw [Int32.sub_zero]
                      refine r_istore X (by decide) dX12_setting_189 ?_
                      refine r_iload X (by rfl) dX12_setting_191 ?_
                      refine r_iload X (by rfl) dX12_setting_193 ?_
                      refine r_iconst X 2 (by decide) dX12_setting_195 ?_
                      refine r_icmp_ne X 207 dX12_setting_196 (by decide) (fun h196 => ?_) (fun h196 => ?_)
                      · refine r_iconst X 0 (by decide) dX12_setting_207 ?_
                        refine r_isub X dX12_setting_208 ?_
                        first | (obtain ⟨x7, hx7, ex7⟩ := zst_a (p := v) (s := s) (by omega) (by omega) (by omega); rw [hx7]) | (obtain ⟨x7, hx7, ex7⟩ := zst_b (p := v) (s := s) (by omega) (by omega) (by omega); rw [hx7]) | rw [Int32.sub_zero]
                        refine r_istore X (by decide) dX12_setting_209 ?_
                        refine zW.loc18 (i0 := 0) (i1 := 1) (i2 := 2) (i3 := 3) (i4 := 4) (i5 := 5) (i6 := 6) (i7 := 7) (i8 := 8) (i9 := 9) (i10 := 10) (i11 := 11) (i12 := 12) (i13 := 13) (i14 := 14) (i15 := 15) (i16 := 16) (i17 := 17) (by rfl) (by rfl) (by rfl) (by rfl) (by rfl) (by rfl) (by rfl) (by rfl) (by rfl) (by rfl) (by rfl) (by rfl) (by rfl) (by rfl) (by rfl) (by rfl) (by rfl) (by rfl)  ?_
                        have htt := congrArg Int32.toInt h176
                        rw [show Int32.toInt 1 = 1 from rfl] at htt
                        obtain ⟨M_, hM_⟩ : ∃ M_, K 1 - n.toNatClampNeg % 10 = M_ := ⟨_, rfl⟩
                        have hMw : zMw K n.toNatClampNeg = M_ := by
                          unfold zMw
                          rw [if_pos (by omega), show n.toNatClampNeg / 10 % 10 = 1 by omega, hM_]
                        have hl5 : zLk L x6 (L M_) := by unfold zLk; rw [show (32 + x6.toInt).toNat = M_ by omega]
                        have hl0 : zLk L p (L (K 0)) := by unfold zLk; rw [show (32 + p.toInt).toNat = K 0 by omega]
                        have hl1 : zLk L q (L (K 1)) := by unfold zLk; rw [show (32 + q.toInt).toNat = K 1 by omega]
                        have hl2 : zLk L v (L (K 2)) := by unfold zLk; rw [show (32 + v.toInt).toNat = K 2 by omega]
                        refine r_aload_n X (by rfl) dX12_setting_211 ?_
                        refine r_iload X (by rfl) dX12_setting_212 ?_
                        refine r_iload X (by rfl) dX12_setting_214 ?_
                        refine r_iload X (by rfl) dX12_setting_216 ?_
                        refine r_callV X dX12_setting_218 zLV_X12_255 zCd_X12_leastTo (c_X12_leastTo _ G z τ ρ _ _ hL _ _ _ (by omega) (by omega) (by omega) _ hV hb _ _ _ (by first | exact hl5 | exact hl0) (by first | exact hl5 | exact hl1) (by first | exact hl5 | exact hl2)) (zt hL 38 rfl) ⟨by decide, rfl, rfl⟩ rfl rfl ⟨⟨rfl, rfl⟩, ⟨by decide, by decide⟩, ⟨Nat.le_of_ble_eq_true rfl, Nat.le_of_ble_eq_true rfl⟩, Nat.le_of_ble_eq_true rfl⟩ ?_
                        rintro _ _ ⟨r3, rfl, hr31, hr32, rfl⟩
                        refine r_iload X (by rfl) dX12_setting_221 ?_
                        refine r_iconst X 1 (by decide) dX12_setting_223 ?_
                        refine r_isub X dX12_setting_224 ?_
                        refine r_icmp_ne X 244 dX12_setting_225 (by decide) (fun h225 => ?_) (fun h225 => ?_)
                        · have hnv : ¬ zVn (zFs B ι c) L K n.toNatClampNeg := fun hv => by
                            have hvf := (zVn_f hq hS hinv.1 hv).2.1
                            rw [hMw, show n.toNatClampNeg / 10 % 10 = 1 by omega] at hvf
                            have e9 := hr31 (by omega)
                            exact h225 (Int32.toInt_inj.mp (by omega))
                          have hI2 : zJ3 (zFs B ι c) L K (n + 1) d p q v := Or.inl ⟨by omega, a2, fun m hm => by
                            by_cases e3 : m = n.toNatClampNeg
                            · rw [e3]; exact hnv
                            · exact a3 m (by omega)⟩
                          refine r_iinc X 1 (by decide) (by rfl) (by decide) dX12_setting_244 ?_
                          refine r_goto X 79 dX12_setting_247 (by decide) ?_
                          exact zW.loc12 (by rfl) (by rfl) (by rfl) (by rfl) (by rfl) (by rfl) (by rfl) (by rfl) (by rfl) (by rfl) (by rfl) (by rfl) (ih2 _ _ _ _ _ q1 q2 q3 hI2)
                        · have e225 := congrArg Int32.toInt h225
                          rw [er1] at e225
                          have hs9 : L (K 0) + L M_ + L (K 2) < 999 := Nat.lt_of_not_le (fun h => by have := hr32 h; omega)
                          have e9 := hr31 hs9
                          have hvv : zVn (zFs B ι c) L K n.toNatClampNeg := ⟨⟨⟨by have := zif1 h132; omega, by have := zif1 h132; omega⟩, by omega, by omega⟩, zVn_gl0 (s := s.toNatClampNeg) (by rw [← hflg]; exact zif1 h149) (by omega) (by omega), by rw [hMw, show n.toNatClampNeg / 10 % 10 = 1 by omega]; omega⟩
                          have hI2 : zJ3 (zFs B ι c) L K (n + 1) n p x6 v := Or.inr ⟨n.toNatClampNeg, by omega, hvv, a3, by
                            refine ⟨?_, ?_, ?_⟩ <;> unfold zMvF
                            · rw [if_neg (show ¬ 0 = n.toNatClampNeg / 10 % 10 by omega)]; omega
                            · rw [if_pos (show 1 = n.toNatClampNeg / 10 % 10 by omega), hMw]; omega
                            · rw [if_neg (show ¬ 2 = n.toNatClampNeg / 10 % 10 by omega)]; omega⟩
                          refine r_iload X (by rfl) dX12_setting_228 ?_
                          refine r_istore X (by decide) dX12_setting_230 ?_
                          refine r_iload X (by rfl) dX12_setting_232 ?_
                          refine r_istore X (by decide) dX12_setting_234 ?_
                          refine r_iload X (by rfl) dX12_setting_236 ?_
                          refine r_istore X (by decide) dX12_setting_238 ?_
                          refine r_iload X (by rfl) dX12_setting_240 ?_
                          refine r_istore X (by decide) dX12_setting_242 ?_
                          refine r_iinc X 1 (by decide) (by rfl) (by decide) dX12_setting_244 ?_
                          refine r_goto X 79 dX12_setting_247 (by decide) ?_
                          exact zW.loc12 (by rfl) (by rfl) (by rfl) (by rfl) (by rfl) (by rfl) (by rfl) (by rfl) (by rfl) (by rfl) (by rfl) (by rfl) (ih2 _ _ _ _ _ q1 q2 q3 hI2)
                      · exact absurd (h176.symm.trans h196) (by decide)
                  · refine r_iload X (by rfl) dX12_setting_159 ?_
                    refine r_iload X (by rfl) dX12_setting_161 ?_
                    refine r_imul X dX12_setting_163 ?_
                    refine r_goto X 168 dX12_setting_164 (by decide) ?_
                    refine r_isub X dX12_setting_168 ?_
                    first | (obtain ⟨x5, hx5, ex5⟩ := zst_a (p := p) (s := s) (by omega) (by omega) (by omega); rw [hx5]) | (obtain ⟨x5, hx5, ex5⟩ := zst_b (p := p) (s := s) (by omega) (by omega) (by omega); rw [hx5]) | rw [Int32.sub_zero]
                    refine r_istore X (by decide) dX12_setting_169 ?_
                    refine r_iload X (by rfl) dX12_setting_171 ?_
                    refine r_iload X (by rfl) dX12_setting_173 ?_
                    refine r_iconst X 1 (by decide) dX12_setting_175 ?_
                    refine r_icmp_ne X 187 dX12_setting_176 (by decide) (fun h176 => ?_) (fun h176 => ?_)
                    · refine r_iconst X 0 (by decide) dX12_setting_187 ?_
                      refine r_isub X dX12_setting_188 ?_
                      first | (obtain ⟨x6, hx6, ex6⟩ := zst_a (p := q) (s := s) (by omega) (by omega) (by omega); rw [hx6]) | (obtain ⟨x6, hx6, ex6⟩ := zst_b (p := q) (s := s) (by omega) (by omega) (by omega); rw [hx6]) | rw [Int32.sub_zero]
                      refine r_istore X (by decide) dX12_setting_189 ?_
                      refine r_iload X (by rfl) dX12_setting_191 ?_
                      refine r_iload X (by rfl) dX12_setting_193 ?_
                      refine r_iconst X 2 (by decide) dX12_setting_195 ?_
                      refine r_icmp_ne X 207 dX12_setting_196 (by decide) (fun h196 => ?_) (fun h196 => ?_)
                      · refine r_iconst X 0 (by decide) dX12_setting_207 ?_
                        refine r_isub X dX12_setting_208 ?_
                        first | (obtain ⟨x7, hx7, ex7⟩ := zst_a (p := v) (s := s) (by omega) (by omega) (by omega); rw [hx7]) | (obtain ⟨x7, hx7, ex7⟩ := zst_b (p := v) (s := s) (by omega) (by omega) (by omega); rw [hx7]) | rw [Int32.sub_zero]
                        refine r_istore X (by decide) dX12_setting_209 ?_
                        refine zW.loc18 (i0 := 0) (i1 := 1) (i2 := 2) (i3 := 3) (i4 := 4) (i5 := 5) (i6 := 6) (i7 := 7) (i8 := 8) (i9 := 9) (i10 := 10) (i11 := 11) (i12 := 12) (i13 := 13) (i14 := 14) (i15 := 15) (i16 := 16) (i17 := 17) (by rfl) (by rfl) (by rfl) (by rfl) (by rfl) (by rfl) (by rfl) (by rfl) (by rfl) (by rfl) (by rfl) (by rfl) (by rfl) (by rfl) (by rfl) (by rfl) (by rfl) (by rfl)  ?_
                        have htt := congrArg Int32.toInt h156
                        rw [show Int32.toInt 0 = 0 from rfl] at htt
                        obtain ⟨M_, hM_⟩ : ∃ M_, K 0 - n.toNatClampNeg % 10 = M_ := ⟨_, rfl⟩
                        have hMw : zMw K n.toNatClampNeg = M_ := by
                          unfold zMw
                          rw [if_pos (by omega), show n.toNatClampNeg / 10 % 10 = 0 by omega, hM_]
                        have hl5 : zLk L x5 (L M_) := by unfold zLk; rw [show (32 + x5.toInt).toNat = M_ by omega]
                        have hl0 : zLk L p (L (K 0)) := by unfold zLk; rw [show (32 + p.toInt).toNat = K 0 by omega]
                        have hl1 : zLk L q (L (K 1)) := by unfold zLk; rw [show (32 + q.toInt).toNat = K 1 by omega]
                        have hl2 : zLk L v (L (K 2)) := by unfold zLk; rw [show (32 + v.toInt).toNat = K 2 by omega]
                        refine r_aload_n X (by rfl) dX12_setting_211 ?_
                        refine r_iload X (by rfl) dX12_setting_212 ?_
                        refine r_iload X (by rfl) dX12_setting_214 ?_
                        refine r_iload X (by rfl) dX12_setting_216 ?_
                        refine r_callV X dX12_setting_218 zLV_X12_255 zCd_X12_leastTo (c_X12_leastTo _ G z τ ρ _ _ hL _ _ _ (by omega) (by omega) (by omega) _ hV hb _ _ _ (by first | exact hl5 | exact hl0) (by first | exact hl5 | exact hl1) (by first | exact hl5 | exact hl2)) (zt hL 38 rfl) ⟨by decide, rfl, rfl⟩ rfl rfl ⟨⟨rfl, rfl⟩, ⟨by decide, by decide⟩, ⟨Nat.le_of_ble_eq_true rfl, Nat.le_of_ble_eq_true rfl⟩, Nat.le_of_ble_eq_true rfl⟩ ?_
                        rintro _ _ ⟨r3, rfl, hr31, hr32, rfl⟩
                        refine r_iload X (by rfl) dX12_setting_221 ?_
                        refine r_iconst X 1 (by decide) dX12_setting_223 ?_
                        refine r_isub X dX12_setting_224 ?_
                        refine r_icmp_ne X 244 dX12_setting_225 (by decide) (fun h225 => ?_) (fun h225 => ?_)
                        · have hnv : ¬ zVn (zFs B ι c) L K n.toNatClampNeg := fun hv => by
                            have hvf := (zVn_f hq hS hinv.1 hv).2.1
                            rw [hMw, show n.toNatClampNeg / 10 % 10 = 0 by omega] at hvf
                            have e9 := hr31 (by omega)
                            exact h225 (Int32.toInt_inj.mp (by omega))
                          have hI2 : zJ3 (zFs B ι c) L K (n + 1) d p q v := Or.inl ⟨by omega, a2, fun m hm => by
                            by_cases e3 : m = n.toNatClampNeg
                            · rw [e3]; exact hnv
                            · exact a3 m (by omega)⟩
                          refine r_iinc X 1 (by decide) (by rfl) (by decide) dX12_setting_244 ?_
                          refine r_goto X 79 dX12_setting_247 (by decide) ?_
                          exact zW.loc12 (by rfl) (by rfl) (by rfl) (by rfl) (by rfl) (by rfl) (by rfl) (by rfl) (by rfl) (by rfl) (by rfl) (by rfl) (ih2 _ _ _ _ _ q1 q2 q3 hI2)
                        · have e225 := congrArg Int32.toInt h225
                          rw [er1] at e225
                          have hs9 : L M_ + L (K 1) + L (K 2) < 999 := Nat.lt_of_not_le (fun h => by have := hr32 h; omega)
                          have e9 := hr31 hs9
                          have hvv : zVn (zFs B ι c) L K n.toNatClampNeg := ⟨⟨⟨by have := zif1 h132; omega, by have := zif1 h132; omega⟩, by omega, by omega⟩, zVn_gl0 (s := s.toNatClampNeg) (by rw [← hflg]; exact zif1 h149) (by omega) (by omega), by rw [hMw, show n.toNatClampNeg / 10 % 10 = 0 by omega]; omega⟩
                          have hI2 : zJ3 (zFs B ι c) L K (n + 1) n x5 q v := Or.inr ⟨n.toNatClampNeg, by omega, hvv, a3, by
                            refine ⟨?_, ?_, ?_⟩ <;> unfold zMvF
                            · rw [if_pos (show 0 = n.toNatClampNeg / 10 % 10 by omega), hMw]; omega
                            · rw [if_neg (show ¬ 1 = n.toNatClampNeg / 10 % 10 by omega)]; omega
                            · rw [if_neg (show ¬ 2 = n.toNatClampNeg / 10 % 10 by omega)]; omega⟩
                          refine r_iload X (by rfl) dX12_setting_228 ?_
                          refine r_istore X (by decide) dX12_setting_230 ?_
                          refine r_iload X (by rfl) dX12_setting_232 ?_
                          refine r_istore X (by decide) dX12_setting_234 ?_
                          refine r_iload X (by rfl) dX12_setting_236 ?_
                          refine r_istore X (by decide) dX12_setting_238 ?_
                          refine r_iload X (by rfl) dX12_setting_240 ?_
                          refine r_istore X (by decide) dX12_setting_242 ?_
                          refine r_iinc X 1 (by decide) (by rfl) (by decide) dX12_setting_244 ?_
                          refine r_goto X 79 dX12_setting_247 (by decide) ?_
                          exact zW.loc12 (by rfl) (by rfl) (by rfl) (by rfl) (by rfl) (by rfl) (by rfl) (by rfl) (by rfl) (by rfl) (by rfl) (by rfl) (ih2 _ _ _ _ _ q1 q2 q3 hI2)
                      · exact absurd (h156.symm.trans h196) (by decide)
                    · exact absurd (h156.symm.trans h176) (by decide)
    refine r_iload X (by rfl) dX12_setting_66 ?_
    refine r_iload X (by rfl) dX12_setting_68 ?_
    refine r_icmp_gt X 259 dX12_setting_70 (by decide) (fun h70 => ?_) (fun h70 => ?_)
    · refine r_iload X (by rfl) dX12_setting_259 ?_
      refine r_ireturn X hR dX12_setting_261 rfl (Nat.zero_le _) (Nat.zero_le _) ?_
      rw [show k.toNatClampNeg = (w.toInt + 1).toNat by omega] at hsq
      exact ⟨_, _, _, rfl, rfl, hf, Or.inr ⟨⟨⟨hpx, hpy, hpu⟩, hw⟩, hse _ (Or.inr (Or.inr ⟨hsm, hws, K, n0, hsq, hd (by omega)⟩))⟩⟩
    · refine r_iconst X (-1) (by decide) dX12_setting_73 ?_
      refine r_istore X (by decide) dX12_setting_74 ?_
      refine r_iconst X 1 (by decide) dX12_setting_76 ?_
      refine r_istore X (by decide) dX12_setting_77 ?_
      exact zW.loc12 (by rfl) (by rfl) (by rfl) (by rfl) (by rfl) (by rfl) (by rfl) (by rfl) (by rfl) (by rfl) (by rfl) (by rfl) (L79 h70 125 _ _ _ _ _ (by decide) (by decide) (by decide) (Or.inl ⟨by decide, ht3, fun m hm hv => by rw [show Int32.toNatClampNeg 1 = 1 from rfl] at hm; have := hv.1.1.1; omega⟩))
  refine r_iload_n X (by rfl) dX12_setting_0 ?_
  refine r_callS X dX12_setting_1 zLS_X12_249 zCd_X12_isPower (c_X12_isPower _ G z τ ρ _ _ _) rfl rfl ⟨⟨rfl, rfl⟩, ⟨by decide, by decide⟩, ⟨Nat.le_of_ble_eq_true rfl, Nat.le_of_ble_eq_true rfl⟩, Nat.le_of_ble_eq_true rfl⟩ ?_
  rintro _ _ ⟨rfl, rfl⟩
  refine r_if_eq X 26 dX12_setting_4 (by decide) (fun h4 => ?_) (fun h4 => ?_)
  · refine r_bipush X (-2) (by decide) dX12_setting_26 ?_
    refine r_ireturn X hR dX12_setting_28 rfl (Nat.zero_le _) (Nat.zero_le _) ?_
    exact ⟨_, _, _, rfl, rfl, zFm.rfl, Or.inl ⟨fun hP => by first | exact zif0 h4 hP.1.1 | exact zif0 h11 hP.1.2.1 | exact zif0 h18 hP.1.2.2 | (have := hP.2; omega), rfl⟩⟩
  · refine r_iload_n X (by rfl) dX12_setting_7 ?_
    refine r_callS X dX12_setting_8 zLS_X12_249 zCd_X12_isPower (c_X12_isPower _ G z τ ρ _ _ _) rfl rfl ⟨⟨rfl, rfl⟩, ⟨by decide, by decide⟩, ⟨Nat.le_of_ble_eq_true rfl, Nat.le_of_ble_eq_true rfl⟩, Nat.le_of_ble_eq_true rfl⟩ ?_
    rintro _ _ ⟨rfl, rfl⟩
    refine r_if_eq X 26 dX12_setting_11 (by decide) (fun h11 => ?_) (fun h11 => ?_)
    · refine r_bipush X (-2) (by decide) dX12_setting_26 ?_
      refine r_ireturn X hR dX12_setting_28 rfl (Nat.zero_le _) (Nat.zero_le _) ?_
      exact ⟨_, _, _, rfl, rfl, zFm.rfl, Or.inl ⟨fun hP => by first | exact zif0 h4 hP.1.1 | exact zif0 h11 hP.1.2.1 | exact zif0 h18 hP.1.2.2 | (have := hP.2; omega), rfl⟩⟩
    · refine r_iload_n X (by rfl) dX12_setting_14 ?_
      refine r_callS X dX12_setting_15 zLS_X12_249 zCd_X12_isPower (c_X12_isPower _ G z τ ρ _ _ _) rfl rfl ⟨⟨rfl, rfl⟩, ⟨by decide, by decide⟩, ⟨Nat.le_of_ble_eq_true rfl, Nat.le_of_ble_eq_true rfl⟩, Nat.le_of_ble_eq_true rfl⟩ ?_
      rintro _ _ ⟨rfl, rfl⟩
      refine r_if_eq X 26 dX12_setting_18 (by decide) (fun h18 => ?_) (fun h18 => ?_)
      · refine r_bipush X (-2) (by decide) dX12_setting_26 ?_
        refine r_ireturn X hR dX12_setting_28 rfl (Nat.zero_le _) (Nat.zero_le _) ?_
        exact ⟨_, _, _, rfl, rfl, zFm.rfl, Or.inl ⟨fun hP => by first | exact zif0 h4 hP.1.1 | exact zif0 h11 hP.1.2.1 | exact zif0 h18 hP.1.2.2 | (have := hP.2; omega), rfl⟩⟩
      · refine r_iload X (by rfl) dX12_setting_21 ?_
        refine r_if_ge X 29 dX12_setting_23 (by decide) (fun h23 => ?_) (fun h23 => ?_)
        · refine r_aload_n X (by rfl) dX12_setting_29 ?_
          refine r_callV X dX12_setting_30 zLV_X12_252 zCd_X12_spreads (c_X12_spreads _ G z τ ρ _ _ hL hJ) (zt hL 38 rfl) ⟨by decide, rfl, rfl⟩ rfl rfl ⟨⟨rfl, rfl⟩, ⟨by decide, by decide⟩, ⟨Nat.le_of_ble_eq_true rfl, Nat.le_of_ble_eq_true rfl⟩, Nat.le_of_ble_eq_true rfl⟩ ?_
          rintro _ _ ⟨rfl, ι2, rfl, hf2, hV⟩
          obtain ⟨L, hLd⟩ : ∃ L, zSpr (zFs B ι c) 29575 = L := ⟨_, rfl⟩
          have hb : ∀ k, L k ≤ 999 := fun k => by rw [← hLd]; exact zSpr_999 _ _ k
          have hq1 := hq0
          have hS := hS0
          have hse : ∀ r, zSe (zFs B ι c) L (zK3 x y u) w r → zSe (zFs B ι c) (zSpr (zFs B ι c) 29575) (zK3 x y u) w r := fun r h => by rw [hLd]; exact h
          rw [hLd] at hV hq1 hS
          clear hLd
          refine r_aload_n X (by rfl) dX12_setting_33 ?_
          refine r_iload_n X (by rfl) dX12_setting_34 ?_
          refine r_iload_n X (by rfl) dX12_setting_35 ?_
          refine r_iload_n X (by rfl) dX12_setting_36 ?_
          refine r_callV X dX12_setting_37 zLV_X12_255 zCd_X12_leastTo (c_X12_leastTo _ G z τ ρ _ _ hL _ _ _ (by have := zif1 h4; omega) (by have := zif1 h11; omega) (by have := zif1 h18; omega) _ hV hb (L ((zK3 x y u) 0)) (L ((zK3 x y u) 1)) (L ((zK3 x y u) 2)) rfl rfl rfl) (zt hL 38 rfl) ⟨by decide, rfl, rfl⟩ rfl rfl ⟨⟨rfl, rfl⟩, ⟨by decide, by decide⟩, ⟨Nat.le_of_ble_eq_true rfl, Nat.le_of_ble_eq_true rfl⟩, Nat.le_of_ble_eq_true rfl⟩ ?_
          rintro _ _ ⟨r0, rfl, hr1, hr2, rfl⟩
          refine r_istore X (by decide) dX12_setting_40 ?_
          refine r_iload X (by rfl) dX12_setting_42 ?_
          refine r_iload X (by rfl) dX12_setting_44 ?_
          refine r_icmp_lt X 51 dX12_setting_46 (by decide) (fun h46 => ?_) (fun h46 => ?_)
          · have g4 := zif1 h4
            have g11 := zif1 h11
            have g18 := zif1 h18
            have hsm : L ((zK3 x y u) 0) + L ((zK3 x y u) 1) + L ((zK3 x y u) 2) < 999 := Nat.lt_of_not_le (fun h => by have := hr2 h; omega)
            have hsv := hr1 hsm
            refine r_iload_n X (by rfl) dX12_setting_51 ?_
            refine r_istore X (by decide) dX12_setting_52 ?_
            refine r_iload_n X (by rfl) dX12_setting_54 ?_
            refine r_istore X (by decide) dX12_setting_55 ?_
            refine r_iload_n X (by rfl) dX12_setting_57 ?_
            refine r_istore X (by decide) dX12_setting_58 ?_
            refine r_iconst X (-1) (by decide) dX12_setting_60 ?_
            refine r_istore X (by decide) dX12_setting_61 ?_
            refine r_iconst X 0 (by decide) dX12_setting_63 ?_
            refine r_istore X (by decide) dX12_setting_64 ?_
            exact zW.loc11 (by rfl) (by rfl) (by rfl) (by rfl) (by rfl) (by rfl) (by rfl) (by rfl) (by rfl) (by rfl) (by rfl) (L66 _ hb hq1 hS _ hf2 hV hse g4 g11 g18 (by omega) hsm (by omega) ((w.toInt + 1).toNat + 1) 0 _ _ _ _ _ (zK3 x y u) 0 (by rw [show Int32.toInt 0 = 0 from rfl]; omega) (by decide) (by rw [show Int32.toInt 0 = 0 from rfl]; omega) (by rw [show Int32.toInt 0 = 0 from rfl]; omega) (show zSq (zFs B ι c) L (zK3 x y u) 0 (zK3 x y u) 0 from ⟨rfl, rfl⟩) (⟨by show x.toInt = (((32 + x.toInt).toNat : Nat) : Int) - 32; omega, by show y.toInt = (((32 + y.toInt).toNat : Nat) : Int) - 32; omega, by show u.toInt = (((32 + u.toInt).toNat : Nat) : Int) - 32; omega⟩) (fun h => by rw [show Int32.toInt 0 = 0 from rfl] at h; omega))
          · refine r_iconst X (-1) (by decide) dX12_setting_49 ?_
            refine r_ireturn X hR dX12_setting_50 rfl (Nat.zero_le _) (Nat.zero_le _) ?_
            refine ⟨_, _, _, rfl, rfl, hf2, Or.inr ⟨⟨⟨zif1 h4, zif1 h11, zif1 h18⟩, by omega⟩, hse _ ?_⟩⟩
            rcases Nat.lt_or_ge (L ((zK3 x y u) 0) + L ((zK3 x y u) 1) + L ((zK3 x y u) 2)) 999 with e | e
            · exact Or.inl ⟨by have := hr1 e; omega, rfl⟩
            · exact Or.inr (Or.inl ⟨e, rfl⟩)
        · refine r_bipush X (-2) (by decide) dX12_setting_26 ?_
          refine r_ireturn X hR dX12_setting_28 rfl (Nat.zero_le _) (Nat.zero_le _) ?_
          exact ⟨_, _, _, rfl, rfl, zFm.rfl, Or.inl ⟨fun hP => by first | exact zif0 h4 hP.1.1 | exact zif0 h11 hP.1.2.1 | exact zif0 h18 hP.1.2.2 | (have := hP.2; omega), rfl⟩⟩
def zDq_setting (B : Nat) (ι : Nat → Nat → Int32) (c : Nat) (x y u w r : Int32) : Prop := (¬ (((-8 ≤ x.toInt ∧ x.toInt ≤ 8) ∧ (-8 ≤ y.toInt ∧ y.toInt ≤ 8) ∧ (-8 ≤ u.toInt ∧ u.toInt ≤ 8)) ∧ 0 ≤ w.toInt) ∧ r = -2) ∨ ((((-8 ≤ x.toInt ∧ x.toInt ≤ 8) ∧ (-8 ≤ y.toInt ∧ y.toInt ≤ 8) ∧ (-8 ≤ u.toInt ∧ u.toInt ≤ 8)) ∧ 0 ≤ w.toInt) ∧ zSe (zFs B ι c) (zSpr (zFs B ι c) 29575) (zK3 x y u) w r)
theorem zT_setting {B c : Nat} {ι ι1 : Nat → Nat → Int32} (hE : zEc B ι ι1) {x y u w r1 r2 : Int32} (h1 : zDq_setting B ι c x y u w r1) (h2 : zDq_setting B ι1 c x y u w r2) : r1 = r2 := by
  unfold zDq_setting at h1 h2
  rw [zFs_ec hE] at h2
  rcases h1 with ⟨h0, rfl⟩ | ⟨h0, h1⟩ <;> rcases h2 with ⟨g0, rfl⟩ | ⟨g0, g1⟩
  · rfl
  · exact absurd g0 h0
  · exact absurd h0 g0
  · exact zSe_det h1 g1
