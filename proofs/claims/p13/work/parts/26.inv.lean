/-! what holds between calls stays so (wip/gen/spec_q.py) -/
/-- what the law's bounds read -/
def zRe (B b k : Nat) : Prop := (b = B ∧ k = 9) ∨ ((b = B + 12 ∨ b = B + 33 ∨ b = B + 36) ∧ k = 1) ∨ B + 63 ≤ b ∨ (b = B + 38 ∧ (k = 1 ∨ k = 11)) ∨ b = B + 40 ∨ b = B + 41 ∨ (B + 43 ≤ b ∧ b ≤ B + 48)
theorem zJm_fr {B c : Nat} {ι ι2 : Nat → Nat → Int32} (h : ∀ b k, zRe B b k → ι2 b k = ι b k) (hJ : zJm B c ι) : zJm B c ι2 := by
  obtain ⟨a1, a2, a3, a4, a5⟩ := hJ
  have e1 : ι2 (B + 38) 1 = ι (B + 38) 1 := h _ _ (by unfold zRe; omega)
  have e2 : ι2 (B + 38) 11 = ι (B + 38) 11 := h _ _ (by unfold zRe; omega)
  refine ⟨by rw [e1]; exact a1, by rw [e2]; exact a2, fun k hk => ?_, fun k hk => ?_, fun j hj => ?_⟩
  · rw [h (B + 47) k (by unfold zRe; omega)]
    exact a3 k (by rw [← e2]; exact hk)
  · rw [h (B + 48) k (by unfold zRe; omega)]
    exact a4 k hk
  · obtain ⟨b1, b2, b3, b4⟩ := a5 j hj
    have e3 : ι2 (B + 43) j = ι (B + 43) j := h _ _ (by unfold zRe; omega)
    refine ⟨by rw [h (B + 40) j (by unfold zRe; omega)]; exact b1, by rw [h (B + 41) j (by unfold zRe; omega)]; exact b2, by rw [e3]; exact b3, fun k hk => ?_⟩
    have := b4 k (by rw [← e3]; exact hk)
    unfold zSp
    rw [h (B + 44) _ (by unfold zRe; omega), h (B + 45) _ (by unfold zRe; omega), h (B + 46) _ (by unfold zRe; omega)]
    exact this
theorem zJc_fr {B c : Nat} {ι ι2 : Nat → Nat → Int32} (h : ∀ b k, zRe B b k → ι2 b k = ι b k) (hJ : zJc B c ι) : zJc B c ι2 := by
  obtain ⟨a1, a2, a3, a4, a5⟩ := hJ
  refine ⟨by rw [h B 9 (by unfold zRe; omega)]; exact a1, by rw [h _ 1 (by unfold zRe; omega)]; exact a2, by rw [h _ 1 (by unfold zRe; omega)]; exact a3, by rw [h _ 1 (by unfold zRe; omega)]; exact a4, fun j hj => zJs_of (h _ _ (by unfold zRe; omega)) (h _ _ (by unfold zRe; omega)) (by rw [h _ 10 (by unfold zRe; omega)]; exact (a5 j hj).2.2) (a5 j hj)⟩
theorem zJ_fr {B c : Nat} {ι ι2 : Nat → Nat → Int32} (hJ : zJ B c ι) (h : ∀ b k, zRe B b k → ι2 b k = ι b k) : zJ B c ι2 := ⟨hJ.1, zJc_fr h hJ.2.1, zJm_fr h hJ.2.2⟩
-- zuo: 17.lay
theorem zJ_u {B c b k : Nat} {v : Int32} {ι : Nat → Nat → Int32} (hJ : zJ B c ι) (h : ¬ zRe B b k) : zJ B c (zu ι b k v) := zJ_fr hJ (fun b2 k2 h2 => zuo (fun q => h (by rw [← q.1, ← q.2]; exact h2)))
/-- the size of the class's chain -/
theorem zJ_12 {B c : Nat} {v : Int32} {ι : Nat → Nat → Int32} (hJ : zJ B c ι) (h0 : 0 ≤ v.toInt) (h1 : v.toInt ≤ 12) : zJ B c (zu ι (B + 12) 1 v) := by
  obtain ⟨h8, ⟨a1, a2, a3, a4, a5⟩, hm⟩ := hJ
  refine ⟨h8, ⟨by rw [zuo (by omega)]; exact a1, by rw [zu_s]; exact ⟨h0, h1⟩, by rw [zuo (by omega)]; exact a3, by rw [zuo (by omega)]; exact a4, fun j hj => zJs_of (zuo (by omega)) (zuo (by omega)) (by rw [zuo (by omega)]; exact (a5 j hj).2.2) (a5 j hj)⟩, zJm_of (fun b k q1 q2 q3 => zuo (by omega)) hm⟩
/-- the size of a strip of the class -/
theorem zJ_33 {B c x : Nat} {v : Int32} {ι : Nat → Nat → Int32} (hJ : zJ B c ι) (hx : x < 2) (h0 : 0 ≤ v.toInt) (h1 : v.toInt ≤ 60) : zJ B c (zu ι (B + 33 + 3 * x) 1 v) := by
  obtain ⟨h8, ⟨a1, a2, a3, a4, a5⟩, hm⟩ := hJ
  refine ⟨h8, ⟨by rw [zuo (by omega)]; exact a1, by rw [zuo (by omega)]; exact a2, ?_, ?_, fun j hj => zJs_of (zuo (by omega)) (zuo (by omega)) (by rw [zuo (by omega)]; exact (a5 j hj).2.2) (a5 j hj)⟩, zJm_of (fun b k q1 q2 q3 => zuo (by omega)) hm⟩
  · by_cases e : x = 0
    · subst e; rw [show B + 33 + 3 * 0 = B + 33 from rfl, zu_s]; exact ⟨h0, h1⟩
    · rw [zuo (by omega)]; exact a3
  · by_cases e : x = 1
    · subst e; rw [show B + 33 + 3 * 1 = B + 36 from rfl, zu_s]; exact ⟨h0, h1⟩
    · rw [zuo (by omega)]; exact a4
theorem zJm_cong {B c : Nat} {ι ι2 : Nat → Nat → Int32} (hJ : zJ B c ι) (h : ∀ b k, b < B + 38 ∨ B + 57 < b → ι2 b k = ι b k) (hm : zJm B c ι2) : zJ B c ι2 := by
  obtain ⟨h8, ⟨a1, a2, a3, a4, a5⟩, -⟩ := hJ
  exact ⟨h8, ⟨by rw [h _ _ (by omega)]; exact a1, by rw [h _ _ (by omega)]; exact a2, by rw [h _ _ (by omega)]; exact a3, by rw [h _ _ (by omega)]; exact a4, fun j hj => zJs_of (h _ _ (by omega)) (h _ _ (by omega)) (by rw [h _ _ (by omega)]; exact (a5 j hj).2.2) (a5 j hj)⟩, hm⟩
/-- the model's factors -/
theorem zJ_m11 {B c : Nat} {x : Int32} {ι : Nat → Nat → Int32} (hJ : zJ B c ι) (hne : ¬ ι (B + 38) 11 = 12) (hx : 100 ≤ x.toInt ∧ x.toInt ≤ 999) : zJ B c (zu (zu ι (B + 47) (ι (B + 38) 11).toNatClampNeg x) (B + 38) 11 (ι (B + 38) 11 + 1)) := by
  obtain ⟨a1, a2, a3, a4, a5⟩ := id hJ.2.2
  have hlt : (ι (B + 38) 11).toInt < 12 := by
    rcases Int.lt_or_eq_of_le a2.2 with q | q
    · exact q
    · exact absurd (Int32.toInt_inj.mp (by rw [q]; rfl)) hne
  have e1 := zinc (x := ι (B + 38) 11) (by omega)
  have hn := zclN a2.1
  refine zJm_cong hJ (fun b k q => by rw [zuo (by omega), zuo (by omega)]) ⟨by rw [zuo (by omega), zuo (by omega)]; exact a1, by rw [zu_s, e1]; omega, fun k hk => ?_, fun k hk => by rw [zuo (by omega), zuo (by omega)]; exact a4 k hk, fun j hj => ?_⟩
  · rw [zu_s, e1] at hk
    rw [zuo (by omega)]
    by_cases e : k = (ι (B + 38) 11).toNatClampNeg
    · subst e; rw [zu_s]; exact hx
    · rw [zu_k e]; exact a3 k (by omega)
  · obtain ⟨b1, b2, b3, b4⟩ := a5 j hj
    refine ⟨by rw [zuo (by omega), zuo (by omega)]; exact b1, by rw [zuo (by omega), zuo (by omega)]; exact b2, by rw [zuo (by omega), zuo (by omega)]; exact b3, fun k hk => ?_⟩
    rw [zuo (by omega), zuo (by omega)] at hk
    have := b4 k hk
    unfold zSp
    rw [zuo (by omega), zuo (by omega), zuo (by omega), zuo (by omega), zuo (by omega), zuo (by omega)]
    exact this
theorem zJ_m11z {B c : Nat} {ι : Nat → Nat → Int32} (hJ : zJ B c ι) : zJ B c (zu ι (B + 38) 11 0) := by
  obtain ⟨a1, a2, a3, a4, a5⟩ := id hJ.2.2
  refine zJm_cong hJ (fun b k q => by rw [zuo (by omega)]) ⟨by rw [zuo (by omega)]; exact a1, by rw [zu_s]; decide, fun k hk => ?_, fun k hk => by rw [zuo (by omega)]; exact a4 k hk, fun j hj => ?_⟩
  · rw [zu_s, show Int32.toInt 0 = 0 from rfl] at hk; omega
  · obtain ⟨b1, b2, b3, b4⟩ := a5 j hj
    refine ⟨by rw [zuo (by omega)]; exact b1, by rw [zuo (by omega)]; exact b2, by rw [zuo (by omega)]; exact b3, fun k hk => ?_⟩
    rw [zuo (by omega)] at hk
    have := b4 k hk
    unfold zSp
    rw [zuo (by omega), zuo (by omega), zuo (by omega)]
    exact this
/-- the model's strips -/
theorem zJ_m48 {B c x n : Nat} {v y : Int32} {ι : Nat → Nat → Int32} (hJ : zJ B c ι) (h0 : 0 ≤ v.toInt) (h1 : v.toInt ≤ 60) : zJ B c (zu (zu ι (B + 49) n y) (B + 48) x v) := by
  have hJ2 := zJ_u (b := B + 49) (k := n) (v := y) hJ (by unfold zRe; omega)
  generalize zu ι (B + 49) n y = ι1 at hJ2
  obtain ⟨a1, a2, a3, a4, a5⟩ := id hJ2.2.2
  refine zJm_cong hJ2 (fun b k q => by rw [zuo (by omega)]) ⟨by rw [zuo (by omega)]; exact a1, by rw [zuo (by omega)]; exact a2, fun k hk => by rw [zuo (by omega)] at hk; rw [zuo (by omega)]; exact a3 k hk, fun k hk => ?_, fun j hj => ?_⟩
  · by_cases e : k = x
    · subst e; rw [zu_s]; exact ⟨h0, h1⟩
    · rw [zu_k e]; exact a4 k hk
  · obtain ⟨b1, b2, b3, b4⟩ := a5 j hj
    refine ⟨by rw [zuo (by omega)]; exact b1, by rw [zuo (by omega)]; exact b2, by rw [zuo (by omega)]; exact b3, fun k hk => ?_⟩
    rw [zuo (by omega)] at hk
    have := b4 k hk
    unfold zSp
    rw [zuo (by omega), zuo (by omega), zuo (by omega)]
    exact this
theorem zJ_m48z {B c x : Nat} {ι : Nat → Nat → Int32} (hJ : zJ B c ι) : zJ B c (zu ι (B + 48) x 0) := by
  obtain ⟨a1, a2, a3, a4, a5⟩ := id hJ.2.2
  refine zJm_cong hJ (fun b k q => by rw [zuo (by omega)]) ⟨by rw [zuo (by omega)]; exact a1, by rw [zuo (by omega)]; exact a2, fun k hk => by rw [zuo (by omega)] at hk; rw [zuo (by omega)]; exact a3 k hk, fun k hk => ?_, fun j hj => ?_⟩
  · by_cases e : k = x
    · subst e; rw [zu_s]; decide
    · rw [zu_k e]; exact a4 k hk
  · obtain ⟨b1, b2, b3, b4⟩ := a5 j hj
    refine ⟨by rw [zuo (by omega)]; exact b1, by rw [zuo (by omega)]; exact b2, by rw [zuo (by omega)]; exact b3, fun k hk => ?_⟩
    rw [zuo (by omega)] at hk
    have := b4 k hk
    unfold zSp
    rw [zuo (by omega), zuo (by omega), zuo (by omega)]
    exact this
/-- a span more, the class -/
theorem zJ_cspan {B c j : Nat} {x y u : Int32} {more : Int} {n4 : Nat} {ι ι2 : Nat → Nat → Int32} (hJ : zJ B c ι) (hj : j < c) (h4 : (ι (B + 63 + 7 * j) 5).toInt < 4) (hm0 : 0 ≤ more) (hm : (ι (B + 63 + 7 * j + 1) 1).toInt + more ≤ 400)
    (f1 : ∀ b, b ≠ B + 63 + 7 * j + 1 → b ≠ B + 63 + 7 * j + 2 → ι2 b = (zu (zu (zu (zu ι (B + 63 + 7 * j + 3) n4 x) (B + 63 + 7 * j + 4) n4 y) (B + 63 + 7 * j + 5) n4 u) (B + 63 + 7 * j) 5 (ι (B + 63 + 7 * j) 5 + 1)) b)
    (f2 : (ι2 (B + 63 + 7 * j + 1) 1).toInt = (ι (B + 63 + 7 * j + 1) 1).toInt + more) : zJ B c ι2 := by
  obtain ⟨h8, ⟨a1, a2, a3, a4, a5⟩, hm'⟩ := hJ
  have fr : ∀ b k, b < B + 63 + 7 * j ∨ B + 63 + 7 * j + 5 < b → ι2 b k = ι b k := fun b k q => by
    rw [f1 b (by omega) (by omega), zuo (by omega), zuo (by omega), zuo (by omega), zuo (by omega)]
  refine ⟨h8, ⟨by rw [fr _ _ (by omega)]; exact a1, by rw [fr _ _ (by omega)]; exact a2, by rw [fr _ _ (by omega)]; exact a3, by rw [fr _ _ (by omega)]; exact a4, fun i hi => ?_⟩, zJm_of (fun b k q1 q2 q3 => fr _ _ (by omega)) hm'⟩
  by_cases e : i = j
  · subst e
    obtain ⟨b1, b2, b3⟩ := a5 i hi
    have e1 := zinc (x := ι (B + 63 + 7 * i) 5) (by omega)
    unfold zJs
    rw [f1 (B + 63 + 7 * i) (by omega) (by omega), zu_s, zu_k (show (10 : Nat) ≠ 5 by decide), zuo (by omega), zuo (by omega), zuo (by omega), e1, f2]
    omega
  · exact zJs_of (fr _ _ (by omega)) (fr _ _ (by omega)) (by rw [fr _ _ (by omega)]; exact (a5 i hi).2.2) (a5 i hi)
/-- a span more, the model -/
theorem zJ_mspan {B c j : Nat} {x y u : Int32} {ι : Nat → Nat → Int32} (hJ : zJ B c ι) (hj : j < c) (h4 : (ι (B + 43) j).toInt < 4) (hx : 100 ≤ x.toInt) (hxy : x.toInt ≤ y.toInt) (hy : y.toInt ≤ 100000) (hu : 1 ≤ u.toInt) (hu2 : u.toInt ≤ 10000) :
    zJ B c (zu (zu (zu (zu ι (B + 44) (4 * j + (ι (B + 43) j).toNatClampNeg) x) (B + 45) (4 * j + (ι (B + 43) j).toNatClampNeg) y) (B + 46) (4 * j + (ι (B + 43) j).toNatClampNeg) u) (B + 43) j (ι (B + 43) j + 1)) := by
  obtain ⟨a1, a2, a3, a4, a5⟩ := id hJ.2.2
  refine zJm_cong hJ (fun b k q => by rw [zuo (by omega), zuo (by omega), zuo (by omega), zuo (by omega)]) ⟨by rw [zuo (by omega), zuo (by omega), zuo (by omega), zuo (by omega)]; exact a1, by rw [zuo (by omega), zuo (by omega), zuo (by omega), zuo (by omega)]; exact a2, fun k hk => ?_, fun k hk => by rw [zuo (by omega), zuo (by omega), zuo (by omega), zuo (by omega)]; exact a4 k hk, fun i hi => ?_⟩
  · rw [zuo (by omega), zuo (by omega), zuo (by omega), zuo (by omega)] at hk
    rw [zuo (by omega), zuo (by omega), zuo (by omega), zuo (by omega)]
    exact a3 k hk
  · obtain ⟨b1, b2, b3, b4⟩ := a5 i hi
    refine ⟨by rw [zuo (by omega), zuo (by omega), zuo (by omega), zuo (by omega)]; exact b1, by rw [zuo (by omega), zuo (by omega), zuo (by omega), zuo (by omega)]; exact b2, ?_⟩
    by_cases e : i = j
    · subst e
      have e1 := zinc (x := ι (B + 43) i) (by omega)
      have hn := zclN b3.1
      rw [zu_s, e1]
      refine ⟨by omega, fun k hk => ?_⟩
      by_cases e2 : k = (ι (B + 43) i).toNatClampNeg
      · subst e2
        unfold zSp
        rw [zuo (by omega), zuo (by omega), zuo (by omega), zu_s, zuo (by omega), zuo (by omega), zu_s, zuo (by omega), zu_s]
        exact ⟨hx, hxy, hy, hu, hu2⟩
      · have := b4 k (by omega)
        unfold zSp
        rw [zuo (by omega), zuo (by omega), zuo (by omega), zuo (by omega), zuo (by omega), zuo (by omega), zuo (by omega), zuo (by omega), zuo (by omega), zuo (by omega), zuo (by omega), zuo (by omega)]
        exact this
    · rw [zuo (by omega), zuo (by omega), zuo (by omega), zuo (by omega)]
      refine ⟨b3, fun k hk => ?_⟩
      have := b4 k hk
      obtain ⟨c1, c2, c3, c4⟩ := a5 j hj
      have hn := zclN c3.1
      unfold zSp
      rw [zuo (by omega), zuo (by omega), zuo (by omega), zuo (by omega), zuo (by omega), zuo (by omega), zuo (by omega), zuo (by omega), zuo (by omega), zuo (by omega), zuo (by omega), zuo (by omega)]
      exact this
/-- a SCALE more, both -/
theorem zJ_scale {B c z : Nat} {x y u w : Int32} {ι : Nat → Nat → Int32} (hJ : zJ B c ι) (hz : z = B + 63 + 7 * c) (hc : c < 8) (hy : 1 ≤ y.toInt ∧ y.toInt ≤ 3) (hu : 10 ≤ u.toInt ∧ u.toInt ≤ 990) {x2 w2 : Int32} {ι1 : Nat → Nat → Int32} (h1 : ι1 = zu (iX7 ι z (z + 1) x y u w) B 9 (ι B 9 + 1)) (hsp : ι (B + 43) c = 0) :
    zJm B c ι1 ∧ zJ B (c + 1) (zu (zu (zu (zu (zu ι1 (B + 39) (ι1 (B + 38) 1).toNatClampNeg x2) (B + 40) (ι1 (B + 38) 1).toNatClampNeg y) (B + 41) (ι1 (B + 38) 1).toNatClampNeg u) (B + 42) (ι1 (B + 38) 1).toNatClampNeg w2) (B + 38) 1 (ι1 (B + 38) 1 + 1)) := by
  obtain ⟨h8, ⟨a1, a2, a3, a4, a5⟩, hm⟩ := hJ
  have fr : ∀ b k, b < z → ¬ (b = B ∧ k = 9) → ι1 b k = ι b k := fun b k q1 q2 => by rw [h1, zuo (by omega), iX7_B q1]
  have hm1 : zJm B c ι1 := zJm_of (fun b k q1 q2 q3 => fr b k (by omega) (by omega)) hm
  refine ⟨hm1, ?_⟩
  obtain ⟨m1, m2, m3, m4, m5⟩ := hm1
  have hcn : (ι1 (B + 38) 1).toNatClampNeg = c := by have := zclN (i := ι1 (B + 38) 1) (by omega); omega
  have e9 : ι1 B 9 = ι B 9 + 1 := by rw [h1, zu_s]
  have e10 := zinc (x := ι B 9) (by omega)
  have e11 := zinc (x := ι1 (B + 38) 1) (by omega)
  have z1 : ι1 (z + 1) 1 = 0 := by rw [h1, zuo (by omega)]; simp [iX7, iX6, zu]
  have z5 : ι1 z 5 = 0 := by rw [h1, zuo (by omega)]; simp [iX7, iX6, zu]
  have z10 : ι1 z 10 = 0 := by rw [h1, zuo (by omega)]; simp [iX7, iX6, zu]
  rw [hcn]
  generalize hg : zu (zu (zu (zu (zu ι1 (B + 39) c x2) (B + 40) c y) (B + 41) c u) (B + 42) c w2) (B + 38) 1 (ι1 (B + 38) 1 + 1) = ι2
  have g1 : ∀ b k, ¬ (b = B + 38 ∧ k = 1) → ¬ ((b = B + 39 ∨ b = B + 40 ∨ b = B + 41 ∨ b = B + 42) ∧ k = c) → ι2 b k = ι1 b k := fun b k q1 q2 => by rw [← hg, zuo (by omega), zuo (by omega), zuo (by omega), zuo (by omega), zuo (by omega)]
  have g2 : ι2 (B + 38) 1 = ι1 (B + 38) 1 + 1 := by rw [← hg, zu_s]
  have g3 : ι2 (B + 40) c = y := by rw [← hg, zuo (by omega), zuo (by omega), zuo (by omega), zu_s]
  have g4 : ι2 (B + 41) c = u := by rw [← hg, zuo (by omega), zuo (by omega), zu_s]
  refine ⟨by omega, ⟨by rw [g1 _ _ (by omega) (by omega), e9, e10]; omega, by rw [g1 _ _ (by omega) (by omega), fr _ _ (by omega) (by omega)]; exact a2, by rw [g1 _ _ (by omega) (by omega), fr _ _ (by omega) (by omega)]; exact a3, by rw [g1 _ _ (by omega) (by omega), fr _ _ (by omega) (by omega)]; exact a4, fun j hj => ?_⟩, ⟨by rw [g2, e11]; omega, by rw [g1 _ _ (by omega) (by omega)]; exact m2, fun k hk => ?_, fun k hk => by rw [g1 _ _ (by omega) (by omega)]; exact m4 k hk, fun j hj => ?_⟩⟩
  · by_cases e : j = c
    · subst e
      rw [← hz]
      unfold zJs
      rw [g1 (z + 1) 1 (by omega) (by omega), g1 z 5 (by omega) (by omega), g1 z 10 (by omega) (by omega), z1, z5, z10]
      decide
    · have f : ∀ b k, B + 63 ≤ b → b < z → ι2 b k = ι b k := fun b k q1 q2 => by rw [g1 _ _ (by omega) (by omega), fr _ _ q2 (by omega)]
      exact zJs_of (f _ _ (by omega) (by omega)) (f _ _ (by omega) (by omega)) (by rw [f _ _ (by omega) (by omega)]; exact (a5 j (by omega)).2.2) (a5 j (by omega))
  · rw [g1 _ _ (by omega) (by omega)] at hk ⊢
    exact m3 k hk
  · by_cases e : j = c
    · subst e
      refine ⟨by rw [g3]; exact hy, by rw [g4]; exact hu, by rw [g1 _ _ (by omega) (by omega), fr _ _ (by omega) (by omega), hsp]; decide, fun k hk => ?_⟩
      rw [g1 _ _ (by omega) (by omega), fr _ _ (by omega) (by omega), hsp, show Int32.toInt 0 = 0 from rfl] at hk
      omega
    · obtain ⟨b1, b2, b3, b4⟩ := m5 j (by omega)
      refine ⟨by rw [g1 _ _ (by omega) (by omega)]; exact b1, by rw [g1 _ _ (by omega) (by omega)]; exact b2, by rw [g1 _ _ (by omega) (by omega)]; exact b3, fun k hk => ?_⟩
      rw [g1 _ _ (by omega) (by omega)] at hk
      have := b4 k hk
      unfold zSp
      rw [g1 _ _ (by omega) (by omega), g1 _ _ (by omega) (by omega), g1 _ _ (by omega) (by omega)]
      exact this
