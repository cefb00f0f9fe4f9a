/-! what a digest takes in (wip/genr/spec_ka.py) -/
def zHh (h : Int64) (x : Int32) : Int64 := 31 * h + x.toInt64
def zHs (f : Nat → Int32) : Nat → Int64 → Int64
  | 0, h => h
  | n + 1, h => zHh (zHs f n h) (f n)
def zHp (f g e : Nat → Int32) : Nat → Int64 → Int64
  | 0, h => h
  | n + 1, h => zHh (zHh (zHh (zHp f g e n h) (f n)) (g n)) (e n)
def zHS (D : Nat → Int64 → Int64) : Nat → Int64 → Int64
  | 0, h => h
  | n + 1, h => D n (zHS D n h)
def zB1 (x : Int32) : Int32 := if x = 0 then 0 else 1
/-- a SCALE -/
def zSd (on pa fo tu : Int32) (n : Nat) (f g e : Nat → Int32) (h : Int64) : Int64 := zHp f g e n (zHh (zHh (zHh (zHh h (zB1 on)) pa) fo) (zB1 tu))
theorem zHs_0 {f : Nat → Int32} {h : Int64} : zHs f (Int32.toNatClampNeg 0) h = h := rfl
theorem zHS_0 {D : Nat → Int64 → Int64} {h : Int64} : zHS D (Int32.toNatClampNeg 0) h = h := rfl
theorem zHs_c {f g : Nat → Int32} : ∀ (n : Nat) (h : Int64), (∀ k, k < n → f k = g k) → zHs f n h = zHs g n h
  | 0, _, _ => rfl
  | n + 1, h, e => by
    show zHh (zHs f n h) (f n) = zHh (zHs g n h) (g n)
    rw [zHs_c n h (fun k hk => e k (by omega)), e n (by omega)]
theorem zHp_c {f g e f2 g2 e2 : Nat → Int32} : ∀ (n : Nat) (h : Int64), (∀ k, k < n → f k = f2 k ∧ g k = g2 k ∧ e k = e2 k) → zHp f g e n h = zHp f2 g2 e2 n h
  | 0, _, _ => rfl
  | n + 1, h, q => by
    show zHh (zHh (zHh (zHp f g e n h) (f n)) (g n)) (e n) = zHh (zHh (zHh (zHp f2 g2 e2 n h) (f2 n)) (g2 n)) (e2 n)
    obtain ⟨a, b, d⟩ := q n (by omega)
    rw [zHp_c n h (fun k hk => q k (by omega)), a, b, d]
theorem zHS_c {D E : Nat → Int64 → Int64} : ∀ (n : Nat) (h : Int64), (∀ k, k < n → ∀ h, D k h = E k h) → zHS D n h = zHS E n h
  | 0, _, _ => rfl
  | n + 1, h, e => by
    show D n (zHS D n h) = E n (zHS E n h)
    rw [zHS_c n h (fun k hk => e k (by omega)), e n (by omega)]
theorem zHp_s {f g e : Nat → Int32} {n : Nat} {y H : Int64} {a b d : Int32} (hy : y = zHp f g e n H) (ha : a = f n) (hb : b = g n) (hd : d = e n) : 31 * (31 * (31 * y + a.toInt64) + b.toInt64) + d.toInt64 = zHp f g e (n + 1) H := by
  subst hy ha hb hd
  rfl
theorem zHs_s {f : Nat → Int32} {i a : Int32} {y H : Int64} (i0 : 0 ≤ i.toInt) (i1 : i.toInt < 1000000) (hy : y = zHs f i.toNatClampNeg H) (ha : a = f i.toNatClampNeg) : 31 * y + a.toInt64 = zHs f (i + 1).toNatClampNeg H := by
  have e := zinc (x := i) (by omega)
  have e1 := zclN i0
  have e2 := zclN (i := i + 1) (by omega)
  rw [show (i + 1).toNatClampNeg = i.toNatClampNeg + 1 by omega]
  subst hy ha
  rfl
theorem zHS_s {D : Nat → Int64 → Int64} {i : Int32} {y y2 H : Int64} (i0 : 0 ≤ i.toInt) (i1 : i.toInt < 1000000) (hy : y = zHS D i.toNatClampNeg H) (h2 : y2 = D i.toNatClampNeg y) : y2 = zHS D (i + 1).toNatClampNeg H := by
  have e := zinc (x := i) (by omega)
  have e1 := zclN i0
  have e2 := zclN (i := i + 1) (by omega)
  rw [show (i + 1).toNatClampNeg = i.toNatClampNeg + 1 by omega]
  subst hy h2
  rfl
/-- what count answers -/
def zKs (P : Int32 → Int32 → Prop) (n : Int) (K : Nat → Int32) : Prop := ∀ x : Int32, 0 ≤ x.toInt → x.toInt < n → P x (K x.toNatClampNeg)
theorem zKs_s {P : Int32 → Int32 → Prop} {i r : Int32} {h H : Int64} {K : Nat → Int32} (i0 : 0 ≤ i.toInt) (i7 : i.toInt < 7) (hK : zKs P i.toInt K) (hh : h = zHs K i.toNatClampNeg H) (hr : P i r) : ∃ K2, zKs P (i + 1).toInt K2 ∧ 31 * h + r.toInt64 = zHs K2 (i + 1).toNatClampNeg H := by
  have e := zinc (x := i) (by omega)
  have e1 := zclN i0
  refine ⟨fun k => if k = i.toNatClampNeg then r else K k, fun x x0 x1 => ?_, zHs_s i0 (by omega) ?_ ?_⟩
  · have e2 := zclN x0
    show P x (if x.toNatClampNeg = i.toNatClampNeg then r else K x.toNatClampNeg)
    by_cases q : x = i
    · subst q
      rw [if_pos rfl]
      exact hr
    · have q2 : x.toInt ≠ i.toInt := fun p => q (Int32.toInt_inj.mp p)
      rw [if_neg (by omega)]
      exact hK x x0 (by omega)
  · rw [hh]
    exact zHs_c _ _ (fun k hk => (if_neg (by omega)).symm)
  · exact (if_pos rfl).symm
theorem zix0 {x : Int32} (h0 : 0 ≤ x.toInt) (h1 : x.toInt < 8) : (4 * x).toInt = 4 * x.toInt ∧ (4 * x).toNatClampNeg = 4 * x.toNatClampNeg := by
  have e := zix (x := x) (q := 0) h0 h1 (by decide) (by decide)
  rw [Int32.add_zero, show Int32.toInt 0 = 0 from rfl, show Int32.toNatClampNeg 0 = 0 from rfl] at e
  exact ⟨by omega, by omega⟩
theorem zofn {x : Int32} (h : 0 ≤ x.toInt) : Int32.ofNat x.toNatClampNeg = x := by
  have e := zclN h
  have e2 := x.toInt_lt
  refine Int32.toInt_inj.mp ?_
  rw [Int32.toInt_ofNat_of_lt (by omega)]
  exact e
theorem zofj {j : Nat} (h : j < 8) : (Int32.ofNat j).toInt = j ∧ (Int32.ofNat j).toNatClampNeg = j := by
  have e : (Int32.ofNat j).toInt = j := Int32.toInt_ofNat_of_lt (by omega)
  have e2 := zclN (i := Int32.ofNat j) (by omega)
  exact ⟨e, by omega⟩
