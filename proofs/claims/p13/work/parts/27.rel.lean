/-! what both sides have in common (wip/gen/spec_v.py) -/
def zRs (B : Nat) (ι : Nat → Nat → Int32) (j : Nat) : Prop := ι (B + 63 + 7 * j) 0 = ι (B + 39) j ∧ ι (B + 63 + 7 * j) 1 = ι (B + 40) j ∧ ι (B + 63 + 7 * j) 3 = ι (B + 42) j ∧ ι (B + 63 + 7 * j) 5 = ι (B + 43) j ∧ (∀ k : Nat, (k : Int) < (ι (B + 43) j).toInt → ι (B + 63 + 7 * j + 4) k = ι (B + 45) (4 * j + k)) ∧ (ι (B + 63 + 7 * j + 1) 1).toInt = zMk B ι j (ι (B + 43) j).toNatClampNeg ∧ ∀ (q : Nat) (e : Int), (q : Int) < (ι (B + 43) j).toInt → 0 ≤ e → e < zSm B ι (4 * j + q) → (ι (B + 63 + 7 * j + 2) (zMk B ι j q + e).toNat).toInt = (ι (B + 44) (4 * j + q)).toInt + e * (ι (B + 46) (4 * j + q)).toInt
def zRt (B : Nat) (ι : Nat → Nat → Int32) (s : Nat) : Prop := ι (B + 33 + 3 * s) 1 = ι (B + 48) s ∧ (∀ k : Nat, (k : Int) < (ι (B + 48) s).toInt → ι (B + 34 + 3 * s) k = ι (B + 49) (60 * s + k) ∧ 0 ≤ (ι (B + 49) (60 * s + k)).toInt ∧ (ι (B + 49) (60 * s + k)).toInt ≤ 1000000) ∧ ∀ k : Nat, (k : Int) + 1 < (ι (B + 48) s).toInt → (ι (B + 49) (60 * s + k)).toInt < (ι (B + 49) (60 * s + (k + 1))).toInt
def zR1 (B : Nat) (ι : Nat → Nat → Int32) : Prop := ι B 10 = ι (B + 38) 0 ∧ 100 ≤ (ι B 10).toInt ∧ (ι B 10).toInt ≤ 50000
def zRc (B : Nat) (ι : Nat → Nat → Int32) : Prop := ι (B + 12) 1 = ι (B + 38) 11 ∧ ∀ k : Nat, (k : Int) < (ι (B + 38) 11).toInt → ι (B + 13) k = ι (B + 47) k
def zRel (B c : Nat) (ι : Nat → Nat → Int32) : Prop := zR1 B ι ∧ (∀ k, c ≤ k → ι (B + 43) k = 0) ∧ zRc B ι ∧ (∀ s, s < 2 → zRt B ι s) ∧ ∀ j, j < c → zRs B ι j
/-- a call that only stores, or sets the OFF -/
def zEc (B : Nat) (ι ι1 : Nat → Nat → Int32) : Prop := ∀ b k, ¬ zCcw B b k → ¬ (b = B ∧ k = 11) → ι1 b k = ι b k
theorem zJ_fo {B c : Nat} {ι ι2 : Nat → Nat → Int32} (hJ : zJ B c ι) (h : zFo B ι ι2) : zJ B c ι2 := zJ_fr hJ (fun b k q => h b k (by unfold zRe at q; unfold zCw; omega) (by unfold zRe at q; omega))
theorem zJ_sz {B c j : Nat} {ι : Nat → Nat → Int32} (hJ : zJ B c ι) (hj : j < 2) : 0 ≤ (ι (B + 33 + 3 * j) 1).toInt ∧ (ι (B + 33 + 3 * j) 1).toInt ≤ 60 := by
  rcases (show j = 0 ∨ j = 1 by omega) with rfl | rfl
  · exact hJ.2.1.2.2.1
  · exact hJ.2.1.2.2.2.1
theorem znei {x y : Int32} {N : Int} (h : x.toInt ≤ N) (hne : ¬ x = y) (hy : y.toInt = N) : x.toInt < N := by
  rcases Int.lt_or_eq_of_le h with q | q
  · exact q
  · exact absurd (Int32.toInt_inj.mp (by rw [q, hy])) hne
theorem zR1_fr {B : Nat} {ι ι2 : Nat → Nat → Int32} (hR : zR1 B ι) (h : ι2 B 10 = ι B 10) (h2 : ι2 (B + 38) 0 = ι (B + 38) 0) : zR1 B ι2 := by
  unfold zR1
  rw [h, h2]
  exact hR
theorem zRc_fr {B : Nat} {ι ι2 : Nat → Nat → Int32} (hR : zRc B ι) (h : ∀ b k, (b = B + 12 ∧ k = 1) ∨ (b = B + 38 ∧ k = 11) ∨ b = B + 13 ∨ b = B + 47 → ι2 b k = ι b k) : zRc B ι2 := by
  unfold zRc
  rw [h (B + 12) 1 (by omega), h (B + 38) 11 (by omega)]
  exact ⟨hR.1, fun k hk => by rw [h (B + 13) k (by omega), h (B + 47) k (by omega)]; exact hR.2 k hk⟩
theorem zRt_fr {B s : Nat} {ι ι2 : Nat → Nat → Int32} (hR : zRt B ι s) (h : ∀ b k, (b = B + 33 + 3 * s ∧ k = 1) ∨ b = B + 34 + 3 * s ∨ (b = B + 48 ∧ k = s) ∨ (b = B + 49 ∧ 60 * s ≤ k ∧ k < 60 * s + 60) → ι2 b k = ι b k) (h60 : (ι (B + 48) s).toInt ≤ 60) : zRt B ι2 s := by
  unfold zRt
  rw [h _ _ (by omega), h (B + 48) s (by omega)]
  refine ⟨hR.1, fun k hk => ?_, fun k hk => ?_⟩
  · rw [h (B + 34 + 3 * s) k (by omega), h (B + 49) _ (by omega)]
    exact hR.2.1 k hk
  · rw [h (B + 49) (60 * s + k) (by omega), h (B + 49) (60 * s + (k + 1)) (by omega)]
    exact hR.2.2 k hk
theorem zSm_fr {B m : Nat} {ι ι2 : Nat → Nat → Int32} (h : ∀ b, B + 44 ≤ b → b ≤ B + 46 → ι2 b m = ι b m) : zSm B ι2 m = zSm B ι m := by
  unfold zSm
  rw [h _ (by omega) (by omega), h _ (by omega) (by omega), h _ (by omega) (by omega)]
theorem zMk_fr {B j n : Nat} {ι ι2 : Nat → Nat → Int32} (h : ∀ b k, B + 44 ≤ b → b ≤ B + 46 → 4 * j ≤ k → k < 4 * j + n → ι2 b k = ι b k) : zMk B ι2 j n = zMk B ι j n := by
  induction n with
  | zero => rfl
  | succ n ih => rw [zMk, zMk, ih (fun b k h1 h2 h3 h4 => h b k h1 h2 h3 (by omega)), zSm_fr (fun b h1 h2 => h b _ h1 h2 (by omega) (by omega))]
theorem zMk_le {B j n : Nat} {ι : Nat → Nat → Int32} (h : ∀ k, k < n → zSp B ι (4 * j + k)) {q : Nat} (hq : q < n) : zMk B ι j q + zSm B ι (4 * j + q) ≤ zMk B ι j n := by
  induction n with
  | zero => omega
  | succ n ih =>
    rw [zMk]
    by_cases e : q = n
    · subst e; exact Int.le_refl _
    · have h1 := ih (fun k hk => h k (by omega)) (by omega)
      have h2 := zSm_b (h n (by omega))
      omega
theorem zRs_fr {B j : Nat} {ι ι2 : Nat → Nat → Int32} (hR : zRs B ι j) (h0 : 0 ≤ (ι (B + 43) j).toInt) (h : ∀ b k, (b = B + 63 + 7 * j ∧ (k = 0 ∨ k = 1 ∨ k = 3 ∨ k = 5)) ∨ (b = B + 63 + 7 * j + 1 ∧ k = 1) ∨ b = B + 63 + 7 * j + 2 ∨ b = B + 63 + 7 * j + 4 ∨ ((b = B + 39 ∨ b = B + 40 ∨ b = B + 42 ∨ b = B + 43) ∧ k = j) ∨ (B + 44 ≤ b ∧ b ≤ B + 46 ∧ 4 * j ≤ k ∧ k < 4 * j + (ι (B + 43) j).toNatClampNeg) → ι2 b k = ι b k) : zRs B ι2 j := by
  obtain ⟨a1, a2, a3, a4, a5, a6, a7⟩ := hR
  have hn := zclN h0
  have e43 : ι2 (B + 43) j = ι (B + 43) j := h _ _ (by omega)
  unfold zRs
  rw [e43]
  refine ⟨by rw [h _ 0 (by omega), h (B + 39) j (by omega)]; exact a1, by rw [h _ 1 (by omega), h (B + 40) j (by omega)]; exact a2, by rw [h _ 3 (by omega), h (B + 42) j (by omega)]; exact a3, by rw [h _ 5 (by omega)]; exact a4, fun k hk => by rw [h (B + 63 + 7 * j + 4) k (by omega), h (B + 45) _ (by omega)]; exact a5 k hk, by rw [h (B + 63 + 7 * j + 1) 1 (by omega), zMk_fr (fun b k q1 q2 q3 q4 => h b k (by omega))]; exact a6, fun q e hq he0 he => ?_⟩
  have es : zSm B ι2 (4 * j + q) = zSm B ι (4 * j + q) := zSm_fr (fun b q1 q2 => h b _ (by omega))
  rw [es] at he
  rw [zMk_fr (n := q) (fun b k q1 q2 q3 q4 => h b k (by omega)), h (B + 63 + 7 * j + 2) _ (by omega), h (B + 44) _ (by omega), h (B + 46) _ (by omega)]
  exact a7 q e hq he0 he
/-- what the relation reads -/
def zRd (B b k : Nat) : Prop := (b = B ∧ k = 10) ∨ (b = B + 12 ∧ k = 1) ∨ b = B + 13 ∨ (B + 33 ≤ b ∧ b ≤ B + 37) ∨ (b = B + 38 ∧ (k = 0 ∨ k = 11)) ∨ (B + 39 ≤ b ∧ b ≤ B + 49) ∨ (B + 63 ≤ b ∧ ¬ zCcw B b k)
theorem zRel_fr {B c : Nat} {ι ι2 : Nat → Nat → Int32} (hJ : zJ B c ι) (hR : zRel B c ι) (f : ∀ b k, zRd B b k → ι2 b k = ι b k) : zRel B c ι2 := by
  obtain ⟨r1, r2, r3, r4, r5⟩ := hR
  exact ⟨zR1_fr r1 (f _ _ (by unfold zRd; omega)) (f _ _ (by unfold zRd; omega)), fun k hk => by rw [f _ _ (by unfold zRd; omega)]; exact r2 k hk, zRc_fr r3 (fun b k q => f b k (by unfold zRd; omega)), fun s hs => zRt_fr (r4 s hs) (fun b k q => f b k (by unfold zRd; omega)) (hJ.2.2.2.2.2.1 s hs).2, fun j hj => zRs_fr (r5 j hj) (hJ.2.2.2.2.2.2 j hj).2.2.1.1 (fun b k q => f b k (by unfold zRd zCcw; omega))⟩
/-- two calls that leave what is seen -/
theorem zRel_q {B c : Nat} {ι ι1 ι2 : Nat → Nat → Int32} (hJ : zJ B c ι) (hR : zRel B c ι) (h1 : zEc B ι ι1) (h2 : zFo B ι1 ι2) : zRel B c ι2 := zRel_fr hJ hR (fun b k q => by rw [h2 b k (by unfold zRd at q; unfold zCw; omega) (by unfold zRd at q; omega), h1 b k (by unfold zRd at q; intro q2; rcases q with q | q | q | q | q | q | q <;> first | exact q.2 q2 | (unfold zCcw at q2; omega)) (by unfold zRd at q; omega)])
theorem zEc_q {B c : Nat} {ι ι1 : Nat → Nat → Int32} (h : zFc B c ι ι1) : zEc B ι ι1 := fun b k q _ => h.1 b k (fun q2 => q (by unfold zCcw; unfold zCc at q2; omega))
theorem zEc_s {B : Nat} {ι : Nat → Nat → Int32} : zEc B ι ι := fun _ _ _ _ => rfl
theorem zFo_q {B : Nat} {ι ι1 : Nat → Nat → Int32} (h : zFm B ι ι1) : zFo B ι ι1 := fun b k q _ => h b k (by unfold zCw at q; unfold zCm; omega)
theorem zFo_p {B : Nat} {ι ι1 : Nat → Nat → Int32} (h : zFq B ι ι1) : zFo B ι ι1 := fun b k q _ => h b k (by unfold zCw at q; unfold zCq; omega)
theorem zFo_s {B : Nat} {ι : Nat → Nat → Int32} : zFo B ι ι := fun _ _ _ _ => rfl
def zD1_rule (B : Nat) (ι ι2 : Nat → Nat → Int32) (x : Int32) (r : Int32) : Prop := (¬ (100 ≤ x.toInt ∧ x.toInt ≤ 50000) ∧ r = -2 ∧ ι2 = ι) ∨ ((100 ≤ x.toInt ∧ x.toInt ≤ 50000) ∧ r = ι B 10 ∧ ι2 = zu ι B 10 x)
def zD2_rule (B : Nat) (ι ι2 : Nat → Nat → Int32) (x : Int32) (r : Int32) : Prop := (¬ (100 ≤ x.toInt ∧ x.toInt ≤ 50000) ∧ r = -2 ∧ ι2 = ι) ∨ ((100 ≤ x.toInt ∧ x.toInt ≤ 50000) ∧ r = ι (B + 38) 0 ∧ ι2 = zu ι (B + 38) 0 x)
def zD1_factor (B : Nat) (ι ι2 : Nat → Nat → Int32) (x : Int32) (r : Int32) : Prop := (¬ (100 ≤ x.toInt ∧ x.toInt ≤ 999) ∧ r = -2 ∧ ι2 = ι) ∨ ((100 ≤ x.toInt ∧ x.toInt ≤ 999) ∧ 12 ≤ (ι (B + 12) 1).toInt ∧ r = -4 ∧ ι2 = ι) ∨ ((100 ≤ x.toInt ∧ x.toInt ≤ 999) ∧ (ι (B + 12) 1).toInt < 12 ∧ r = ι (B + 12) 1 + 1 ∧ ι2 = zu (zu ι (B + 13) (ι (B + 12) 1).toNatClampNeg x) (B + 12) 1 (ι (B + 12) 1 + 1))
def zD2_factor (B : Nat) (ι ι2 : Nat → Nat → Int32) (x : Int32) (r : Int32) : Prop := (¬ (100 ≤ x.toInt ∧ x.toInt ≤ 999) ∧ r = -2 ∧ ι2 = ι) ∨ ((100 ≤ x.toInt ∧ x.toInt ≤ 999) ∧ ι (B + 38) 11 = 12 ∧ r = -4 ∧ ι2 = ι) ∨ ((100 ≤ x.toInt ∧ x.toInt ≤ 999) ∧ ¬ ι (B + 38) 11 = 12 ∧ r = ι (B + 38) 11 + 1 ∧ ι2 = zu (zu ι (B + 47) (ι (B + 38) 11).toNatClampNeg x) (B + 38) 11 (ι (B + 38) 11 + 1))
def zD1_clear (B : Nat) (ι ι2 : Nat → Nat → Int32)  (r : Int32) : Prop := r = ι (B + 12) 1 ∧ ι2 = zu ι (B + 12) 1 0
def zD2_clear (B : Nat) (ι ι2 : Nat → Nat → Int32)  (r : Int32) : Prop := r = ι (B + 38) 11 ∧ ι2 = zu ι (B + 38) 11 0
def zD1_cut (B : Nat) (ι ι2 : Nat → Nat → Int32) (x y : Int32) (r : Int32) : Prop := (¬ ((0 ≤ x.toInt ∧ x.toInt < 2) ∧ (0 ≤ y.toInt ∧ y.toInt ≤ 1000000) ∧ ¬ (0 < (ι (B + 33 + 3 * x.toNatClampNeg) 1).toInt ∧ y.toInt ≤ (ι (B + 34 + 3 * x.toNatClampNeg) (ι (B + 33 + 3 * x.toNatClampNeg) 1 - 1).toNatClampNeg).toInt)) ∧ r = -2 ∧ ι2 = ι) ∨ (((0 ≤ x.toInt ∧ x.toInt < 2) ∧ (0 ≤ y.toInt ∧ y.toInt ≤ 1000000) ∧ ¬ (0 < (ι (B + 33 + 3 * x.toNatClampNeg) 1).toInt ∧ y.toInt ≤ (ι (B + 34 + 3 * x.toNatClampNeg) (ι (B + 33 + 3 * x.toNatClampNeg) 1 - 1).toNatClampNeg).toInt)) ∧ 60 ≤ (ι (B + 33 + 3 * x.toNatClampNeg) 1).toInt ∧ r = -4 ∧ ι2 = ι) ∨ (((0 ≤ x.toInt ∧ x.toInt < 2) ∧ (0 ≤ y.toInt ∧ y.toInt ≤ 1000000) ∧ ¬ (0 < (ι (B + 33 + 3 * x.toNatClampNeg) 1).toInt ∧ y.toInt ≤ (ι (B + 34 + 3 * x.toNatClampNeg) (ι (B + 33 + 3 * x.toNatClampNeg) 1 - 1).toNatClampNeg).toInt)) ∧ (ι (B + 33 + 3 * x.toNatClampNeg) 1).toInt < 60 ∧ r = ι (B + 33 + 3 * x.toNatClampNeg) 1 + 1 ∧ ι2 = zu (zu ι (B + 34 + 3 * x.toNatClampNeg) (ι (B + 33 + 3 * x.toNatClampNeg) 1).toNatClampNeg y) (B + 33 + 3 * x.toNatClampNeg) 1 (ι (B + 33 + 3 * x.toNatClampNeg) 1 + 1))
def zD2_cut (B : Nat) (ι ι2 : Nat → Nat → Int32) (x y : Int32) (r : Int32) : Prop := (¬ ((0 ≤ x.toInt ∧ x.toInt ≤ 1) ∧ (0 ≤ y.toInt ∧ y.toInt ≤ 1000000) ∧ ¬ (0 < (ι (B + 48) x.toNatClampNeg).toInt ∧ y.toInt ≤ (ι (B + 49) (60 * x.toNatClampNeg + (ι (B + 48) x.toNatClampNeg).toNatClampNeg - 1)).toInt)) ∧ r = -2 ∧ ι2 = ι) ∨ (((0 ≤ x.toInt ∧ x.toInt ≤ 1) ∧ (0 ≤ y.toInt ∧ y.toInt ≤ 1000000) ∧ ¬ (0 < (ι (B + 48) x.toNatClampNeg).toInt ∧ y.toInt ≤ (ι (B + 49) (60 * x.toNatClampNeg + (ι (B + 48) x.toNatClampNeg).toNatClampNeg - 1)).toInt)) ∧ ι (B + 48) x.toNatClampNeg = 60 ∧ r = -4 ∧ ι2 = ι) ∨ (((0 ≤ x.toInt ∧ x.toInt ≤ 1) ∧ (0 ≤ y.toInt ∧ y.toInt ≤ 1000000) ∧ ¬ (0 < (ι (B + 48) x.toNatClampNeg).toInt ∧ y.toInt ≤ (ι (B + 49) (60 * x.toNatClampNeg + (ι (B + 48) x.toNatClampNeg).toNatClampNeg - 1)).toInt)) ∧ ¬ ι (B + 48) x.toNatClampNeg = 60 ∧ r = ι (B + 48) x.toNatClampNeg + 1 ∧ ι2 = zu (zu ι (B + 49) (60 * x.toNatClampNeg + (ι (B + 48) x.toNatClampNeg).toNatClampNeg) y) (B + 48) x.toNatClampNeg (ι (B + 48) x.toNatClampNeg + 1))
def zD1_wipe (B : Nat) (ι ι2 : Nat → Nat → Int32) (x : Int32) (r : Int32) : Prop := (¬ (0 ≤ x.toInt ∧ x.toInt < 2) ∧ r = -2 ∧ ι2 = ι) ∨ ((0 ≤ x.toInt ∧ x.toInt < 2) ∧ r = ι (B + 33 + 3 * x.toNatClampNeg) 1 ∧ ι2 = zu ι (B + 33 + 3 * x.toNatClampNeg) 1 0)
def zD2_wipe (B : Nat) (ι ι2 : Nat → Nat → Int32) (x : Int32) (r : Int32) : Prop := (¬ (0 ≤ x.toInt ∧ x.toInt ≤ 1) ∧ r = -2 ∧ ι2 = ι) ∨ ((0 ≤ x.toInt ∧ x.toInt ≤ 1) ∧ r = ι (B + 48) x.toNatClampNeg ∧ ι2 = zu ι (B + 48) x.toNatClampNeg 0)
def zD1_span (B : Nat) (ι ι2 : Nat → Nat → Int32) (c : Nat) (x y u w : Int32) (r : Int32) : Prop := (¬ ((0 ≤ x.toInt ∧ x.toInt < (c : Int)) ∧ (100 ≤ y.toInt ∧ y.toInt ≤ 100000) ∧ (100 ≤ u.toInt ∧ u.toInt ≤ 100000) ∧ y.toInt ≤ u.toInt ∧ 1 ≤ w.toInt ∧ w.toInt ≤ 10000) ∧ r = -2 ∧ ι2 = ι) ∨ (((0 ≤ x.toInt ∧ x.toInt < (c : Int)) ∧ (100 ≤ y.toInt ∧ y.toInt ≤ 100000) ∧ (100 ≤ u.toInt ∧ u.toInt ≤ 100000) ∧ y.toInt ≤ u.toInt ∧ 1 ≤ w.toInt ∧ w.toInt ≤ 10000) ∧ (0 < (ι (B + 63 + 7 * x.toNatClampNeg) 5).toInt ∧ y.toInt ≤ (ι (B + 63 + 7 * x.toNatClampNeg + 4) (ι (B + 63 + 7 * x.toNatClampNeg) 5 - 1).toNatClampNeg).toInt) ∧ r = -3 ∧ ι2 = ι) ∨ (((0 ≤ x.toInt ∧ x.toInt < (c : Int)) ∧ (100 ≤ y.toInt ∧ y.toInt ≤ 100000) ∧ (100 ≤ u.toInt ∧ u.toInt ≤ 100000) ∧ y.toInt ≤ u.toInt ∧ 1 ≤ w.toInt ∧ w.toInt ≤ 10000) ∧ ¬ (0 < (ι (B + 63 + 7 * x.toNatClampNeg) 5).toInt ∧ y.toInt ≤ (ι (B + 63 + 7 * x.toNatClampNeg + 4) (ι (B + 63 + 7 * x.toNatClampNeg) 5 - 1).toNatClampNeg).toInt) ∧ ((ι (B + 63 + 7 * x.toNatClampNeg) 5).toInt = 4 ∨ 400 < (ι (B + 63 + 7 * x.toNatClampNeg + 1) 1).toInt + ((u.toInt - y.toInt) / w.toInt + 1)) ∧ r = -4 ∧ ι2 = ι) ∨ (((0 ≤ x.toInt ∧ x.toInt < (c : Int)) ∧ (100 ≤ y.toInt ∧ y.toInt ≤ 100000) ∧ (100 ≤ u.toInt ∧ u.toInt ≤ 100000) ∧ y.toInt ≤ u.toInt ∧ 1 ≤ w.toInt ∧ w.toInt ≤ 10000) ∧ ¬ (0 < (ι (B + 63 + 7 * x.toNatClampNeg) 5).toInt ∧ y.toInt ≤ (ι (B + 63 + 7 * x.toNatClampNeg + 4) (ι (B + 63 + 7 * x.toNatClampNeg) 5 - 1).toNatClampNeg).toInt) ∧ ¬ ((ι (B + 63 + 7 * x.toNatClampNeg) 5).toInt = 4 ∨ 400 < (ι (B + 63 + 7 * x.toNatClampNeg + 1) 1).toInt + ((u.toInt - y.toInt) / w.toInt + 1)) ∧ r.toInt = ((u.toInt - y.toInt) / w.toInt + 1) ∧ (∀ b, b ≠ B + 63 + 7 * x.toNatClampNeg + 1 → b ≠ B + 63 + 7 * x.toNatClampNeg + 2 → ι2 b = (zu (zu (zu (zu ι (B + 63 + 7 * x.toNatClampNeg + 3) (ι (B + 63 + 7 * x.toNatClampNeg) 5).toNatClampNeg y) (B + 63 + 7 * x.toNatClampNeg + 4) (ι (B + 63 + 7 * x.toNatClampNeg) 5).toNatClampNeg u) (B + 63 + 7 * x.toNatClampNeg + 5) (ι (B + 63 + 7 * x.toNatClampNeg) 5).toNatClampNeg w) (B + 63 + 7 * x.toNatClampNeg) 5 (ι (B + 63 + 7 * x.toNatClampNeg) 5 + 1)) b) ∧ (∀ k, k ≠ 1 → ι2 (B + 63 + 7 * x.toNatClampNeg + 1) k = ι (B + 63 + 7 * x.toNatClampNeg + 1) k) ∧ (ι2 (B + 63 + 7 * x.toNatClampNeg + 1) 1).toInt = (ι (B + 63 + 7 * x.toNatClampNeg + 1) 1).toInt + ((u.toInt - y.toInt) / w.toInt + 1) ∧ (∀ q : Nat, (q : Int) < (ι (B + 63 + 7 * x.toNatClampNeg + 1) 1).toInt → ι2 (B + 63 + 7 * x.toNatClampNeg + 2) q = ι (B + 63 + 7 * x.toNatClampNeg + 2) q) ∧ ∀ q : Nat, (q : Int) < ((u.toInt - y.toInt) / w.toInt + 1) → (ι2 (B + 63 + 7 * x.toNatClampNeg + 2) ((ι (B + 63 + 7 * x.toNatClampNeg + 1) 1).toNatClampNeg + q)).toInt = y.toInt + (q : Int) * w.toInt)
def zD2_span (B : Nat) (ι ι2 : Nat → Nat → Int32) (c : Nat) (x y u w : Int32) (r : Int32) : Prop := (¬ ((0 ≤ x.toInt ∧ x.toInt < (c : Int)) ∧ (100 ≤ y.toInt ∧ y.toInt ≤ 100000) ∧ (100 ≤ u.toInt ∧ u.toInt ≤ 100000) ∧ y.toInt ≤ u.toInt ∧ 1 ≤ w.toInt ∧ w.toInt ≤ 10000) ∧ r = -2 ∧ ι2 = ι) ∨ (((0 ≤ x.toInt ∧ x.toInt < (c : Int)) ∧ (100 ≤ y.toInt ∧ y.toInt ≤ 100000) ∧ (100 ≤ u.toInt ∧ u.toInt ≤ 100000) ∧ y.toInt ≤ u.toInt ∧ 1 ≤ w.toInt ∧ w.toInt ≤ 10000) ∧ (0 < (ι (B + 43) x.toNatClampNeg).toInt ∧ y.toInt ≤ (ι (B + 45) (4 * x.toNatClampNeg + (ι (B + 43) x.toNatClampNeg).toNatClampNeg - 1)).toInt) ∧ r = -3 ∧ ι2 = ι) ∨ (((0 ≤ x.toInt ∧ x.toInt < (c : Int)) ∧ (100 ≤ y.toInt ∧ y.toInt ≤ 100000) ∧ (100 ≤ u.toInt ∧ u.toInt ≤ 100000) ∧ y.toInt ≤ u.toInt ∧ 1 ≤ w.toInt ∧ w.toInt ≤ 10000) ∧ ¬ (0 < (ι (B + 43) x.toNatClampNeg).toInt ∧ y.toInt ≤ (ι (B + 45) (4 * x.toNatClampNeg + (ι (B + 43) x.toNatClampNeg).toNatClampNeg - 1)).toInt) ∧ ((ι (B + 43) x.toNatClampNeg).toInt = 4 ∨ 400 < zMk B ι x.toNatClampNeg (ι (B + 43) x.toNatClampNeg).toNatClampNeg + ((u.toInt - y.toInt) / w.toInt + 1)) ∧ r = -4 ∧ ι2 = ι) ∨ (((0 ≤ x.toInt ∧ x.toInt < (c : Int)) ∧ (100 ≤ y.toInt ∧ y.toInt ≤ 100000) ∧ (100 ≤ u.toInt ∧ u.toInt ≤ 100000) ∧ y.toInt ≤ u.toInt ∧ 1 ≤ w.toInt ∧ w.toInt ≤ 10000) ∧ ¬ (0 < (ι (B + 43) x.toNatClampNeg).toInt ∧ y.toInt ≤ (ι (B + 45) (4 * x.toNatClampNeg + (ι (B + 43) x.toNatClampNeg).toNatClampNeg - 1)).toInt) ∧ ¬ ((ι (B + 43) x.toNatClampNeg).toInt = 4 ∨ 400 < zMk B ι x.toNatClampNeg (ι (B + 43) x.toNatClampNeg).toNatClampNeg + ((u.toInt - y.toInt) / w.toInt + 1)) ∧ r.toInt = ((u.toInt - y.toInt) / w.toInt + 1) ∧ ι2 = zu (zu (zu (zu ι (B + 44) (4 * x.toNatClampNeg + (ι (B + 43) x.toNatClampNeg).toNatClampNeg) y) (B + 45) (4 * x.toNatClampNeg + (ι (B + 43) x.toNatClampNeg).toNatClampNeg) u) (B + 46) (4 * x.toNatClampNeg + (ι (B + 43) x.toNatClampNeg).toNatClampNeg) w) (B + 43) x.toNatClampNeg (ι (B + 43) x.toNatClampNeg + 1))
def zD1_scale (B : Nat) (ι ι2 : Nat → Nat → Int32) (c : Nat) (x y u w : Int32) (r : Int32) : Prop := (¬ ((1 ≤ y.toInt ∧ y.toInt ≤ 3) ∧ 10 ≤ u.toInt ∧ u.toInt ≤ 990) ∧ r = -2 ∧ ι2 = ι) ∨ (((1 ≤ y.toInt ∧ y.toInt ≤ 3) ∧ 10 ≤ u.toInt ∧ u.toInt ≤ 990) ∧ c = 8 ∧ r = -4 ∧ ι2 = ι) ∨ (((1 ≤ y.toInt ∧ y.toInt ≤ 3) ∧ 10 ≤ u.toInt ∧ u.toInt ≤ 990) ∧ c < 8 ∧ r = ι B 9 + 1 - 1 ∧ ι2 = zu (iX7 ι (B + 63 + 7 * c) (B + 63 + 7 * c + 1) x y u w) B 9 (ι B 9 + 1))
def zD2_scale (B : Nat) (ι ι2 : Nat → Nat → Int32) (c : Nat) (x y u w : Int32) (r : Int32) : Prop := (¬ ((1 ≤ y.toInt ∧ y.toInt ≤ 3) ∧ 10 ≤ u.toInt ∧ u.toInt ≤ 990) ∧ r = -2 ∧ ι2 = ι) ∨ (((1 ≤ y.toInt ∧ y.toInt ≤ 3) ∧ 10 ≤ u.toInt ∧ u.toInt ≤ 990) ∧ c = 8 ∧ r = -4 ∧ ι2 = ι) ∨ (((1 ≤ y.toInt ∧ y.toInt ≤ 3) ∧ 10 ≤ u.toInt ∧ u.toInt ≤ 990) ∧ c < 8 ∧ r = ι (B + 38) 1 + 1 - 1 ∧ ι2 = zu (zu (zu (zu (zu ι (B + 39) (ι (B + 38) 1).toNatClampNeg x) (B + 40) (ι (B + 38) 1).toNatClampNeg y) (B + 41) (ι (B + 38) 1).toNatClampNeg u) (B + 42) (ι (B + 38) 1).toNatClampNeg w) (B + 38) 1 (ι (B + 38) 1 + 1))
/-- the steps -/
theorem zT1_rule {B c : Nat} {ι ι1 : Nat → Nat → Int32} {r1 x : Int32} (hJ : zJ B c ι) (h1 : zD1_rule B ι ι1 x r1) : zJ B c ι1 := by
  rcases h1 with ⟨-, -, rfl⟩ | ⟨-, -, rfl⟩
  · exact hJ
  · exact zJ_u hJ (by unfold zRe; omega)
theorem zT_rule {B c : Nat} {ι ι1 ι2 : Nat → Nat → Int32} {r1 r2 : Int32} (hJ : zJ B c ι) (hR : zRel B c ι) {x : Int32} (hJ1 : zJ B c ι1) (h1 : zD1_rule B ι ι1 x r1) (h2 : zD2_rule B ι1 ι2 x r2) : zJ B c ι2 ∧ zRel B c ι2 ∧ r1 = r2 := by
  rcases h1 with ⟨h0, rfl, rfl⟩ | ⟨h0, rfl, rfl⟩ <;> rcases h2 with ⟨g0, rfl, rfl⟩ | ⟨g0, rfl, rfl⟩
  · exact ⟨hJ, hR, rfl⟩
  · exact absurd g0 h0
  · exact absurd h0 g0
  · refine ⟨zJ_u hJ1 (by unfold zRe; omega), ?_, by rw [zuo (by omega)]; exact hR.1.1⟩
    obtain ⟨r1, r2, r3, r4, r5⟩ := hR
    have f : ∀ b k, ¬ (b = B ∧ k = 10) → ¬ (b = B + 38 ∧ k = 0) → zu (zu ι B 10 x) (B + 38) 0 x b k = ι b k := fun b k q1 q2 => by rw [zuo (by omega), zuo (by omega)]
    exact ⟨⟨by rw [zuo (by omega), zu_s, zu_s], by rw [zuo (by omega), zu_s]; exact h0.1, by rw [zuo (by omega), zu_s]; exact h0.2⟩, fun k hk => by rw [f _ _ (by omega) (by omega)]; exact r2 k hk, zRc_fr r3 (fun b k q => f b k (by omega) (by omega)), fun s hs => zRt_fr (r4 s hs) (fun b k q => f b k (by omega) (by omega)) (hJ.2.2.2.2.2.1 s hs).2, fun j hj => zRs_fr (r5 j hj) (hJ.2.2.2.2.2.2 j hj).2.2.1.1 (fun b k q => f b k (by omega) (by omega))⟩
/-- the chain -/
theorem zT1_factor {B c : Nat} {ι ι1 : Nat → Nat → Int32} {r1 x : Int32} (hJ : zJ B c ι) (h1 : zD1_factor B ι ι1 x r1) : zJ B c ι1 := by
  rcases h1 with ⟨-, -, rfl⟩ | ⟨-, -, -, rfl⟩ | ⟨-, hlt, -, rfl⟩
  · exact hJ
  · exact hJ
  · have h12 := hJ.2.1.2.1
    have ez := zinc (x := ι (B + 12) 1) (by omega)
    exact zJ_12 (zJ_u hJ (by unfold zRe; omega)) (by omega) (by omega)
theorem zT_factor {B c : Nat} {ι ι1 ι2 : Nat → Nat → Int32} {r1 r2 : Int32} (hJ : zJ B c ι) (hR : zRel B c ι) {x : Int32} (hJ1 : zJ B c ι1) (h1 : zD1_factor B ι ι1 x r1) (h2 : zD2_factor B ι1 ι2 x r2) : zJ B c ι2 ∧ zRel B c ι2 ∧ r1 = r2 := by
  have hm : ∀ b k, B + 38 ≤ b → b ≤ B + 62 → ι1 b k = ι b k := by
    rcases h1 with ⟨-, -, rfl⟩ | ⟨-, -, -, rfl⟩ | ⟨-, -, -, rfl⟩ <;> intro b k q1 q2
    · rfl
    · rfl
    · rw [zuo (by omega), zuo (by omega)]
  have e11 := hm (B + 38) 11 (by omega) (by omega)
  have hc := hR.2.2.1.1
  unfold zD2_factor at h2
  rw [e11, ← hc] at h2
  have hmx := hJ.2.1.2.1
  rcases h1 with ⟨h0, rfl, rfl⟩ | ⟨h0, h3, rfl, rfl⟩ | ⟨h0, h3, rfl, hi⟩ <;> rcases h2 with ⟨g0, rfl, rfl⟩ | ⟨g0, g3, rfl, rfl⟩ | ⟨g0, g3, rfl, rfl⟩
  · exact ⟨hJ, hR, rfl⟩
  · exact absurd g0 h0
  · exact absurd g0 h0
  · exact absurd h0 g0
  · exact ⟨hJ, hR, rfl⟩
  · exact absurd (znei hmx.2 g3 rfl) (by omega)
  · exact absurd h0 g0
  · rw [g3] at h3; exact absurd h3 (by decide)
  · have hj2 := zJ_m11 hJ1 (by rw [e11, ← hc]; exact g3) h0
    rw [e11, ← hc] at hj2
    refine ⟨hj2, ?_, rfl⟩
    subst hi
    obtain ⟨r1, r2, r3, r4, r5⟩ := hR
    have hn := zclN hmx.1
    have e1 := zinc (x := ι (B + 12) 1) (by omega)
    generalize hv : ι (B + 12) 1 + 1 = v at *
    generalize hn' : (ι (B + 12) 1).toNatClampNeg = n at *
    have f : ∀ b k, ¬ (b = B + 13 ∧ k = n) → ¬ (b = B + 47 ∧ k = n) → ¬ (b = B + 12 ∧ k = 1) → ¬ (b = B + 38 ∧ k = 11) → zu (zu (zu (zu ι (B + 13) n x) (B + 12) 1 v) (B + 47) n x) (B + 38) 11 v b k = ι b k := fun b k q1 q2 q3 q4 => by rw [zuo (by omega), zuo (by omega), zuo (by omega), zuo (by omega)]
    refine ⟨zR1_fr r1 (f _ _ (by omega) (by omega) (by omega) (by omega)) (f _ _ (by omega) (by omega) (by omega) (by omega)), fun k hk => by rw [f _ _ (by omega) (by omega) (by omega) (by omega)]; exact r2 k hk, ⟨by rw [zuo (by omega), zuo (by omega), zu_s, zu_s], fun k hk => ?_⟩, fun s hs => zRt_fr (r4 s hs) (fun b k q => f b k (by omega) (by omega) (by omega) (by omega)) (hJ.2.2.2.2.2.1 s hs).2, fun j hj => zRs_fr (r5 j hj) (hJ.2.2.2.2.2.2 j hj).2.2.1.1 (fun b k q => f b k (by omega) (by omega) (by omega) (by omega))⟩
    rw [zu_s] at hk
    by_cases e2 : k = n
    · subst e2; rw [zuo (by omega), zuo (by omega), zuo (by omega), zu_s, zuo (by omega), zu_s]
    · rw [f _ _ (by omega) (by omega) (by omega) (by omega), f _ _ (by omega) (by omega) (by omega) (by omega)]
      exact r3.2 k (by rw [← hc]; omega)
theorem zT1_clear {B c : Nat} {ι ι1 : Nat → Nat → Int32} {r1 : Int32} (hJ : zJ B c ι) (h1 : zD1_clear B ι ι1 r1) : zJ B c ι1 := by
  rcases h1 with ⟨-, rfl⟩
  exact zJ_12 hJ (by decide) (by decide)
theorem zT_clear {B c : Nat} {ι ι1 ι2 : Nat → Nat → Int32} {r1 r2 : Int32} (hJ : zJ B c ι) (hR : zRel B c ι) (hJ1 : zJ B c ι1) (h1 : zD1_clear B ι ι1 r1) (h2 : zD2_clear B ι1 ι2 r2) : zJ B c ι2 ∧ zRel B c ι2 ∧ r1 = r2 := by
  rcases h1 with ⟨rfl, rfl⟩
  rcases h2 with ⟨rfl, rfl⟩
  refine ⟨zJ_m11z hJ1, ?_, by rw [zuo (by omega)]; exact hR.2.2.1.1⟩
  obtain ⟨r1, r2, r3, r4, r5⟩ := hR
  have f : ∀ b k, ¬ (b = B + 12 ∧ k = 1) → ¬ (b = B + 38 ∧ k = 11) → zu (zu ι (B + 12) 1 0) (B + 38) 11 0 b k = ι b k := fun b k q3 q4 => by rw [zuo (by omega), zuo (by omega)]
  exact ⟨zR1_fr r1 (f _ _ (by omega) (by omega)) (f _ _ (by omega) (by omega)), fun k hk => by rw [f _ _ (by omega) (by omega)]; exact r2 k hk, ⟨by rw [zuo (by omega), zu_s, zu_s], fun k hk => by rw [zu_s, show Int32.toInt 0 = 0 from rfl] at hk; omega⟩, fun s hs => zRt_fr (r4 s hs) (fun b k q => f b k (by omega) (by omega)) (hJ.2.2.2.2.2.1 s hs).2, fun j hj => zRs_fr (r5 j hj) (hJ.2.2.2.2.2.2 j hj).2.2.1.1 (fun b k q => f b k (by omega) (by omega))⟩
/-- the strips -/
theorem zT1_cut {B c : Nat} {ι ι1 : Nat → Nat → Int32} {r1 x y : Int32} (hJ : zJ B c ι) (h1 : zD1_cut B ι ι1 x y r1) : zJ B c ι1 := by
  rcases h1 with ⟨-, -, rfl⟩ | ⟨-, -, -, rfl⟩ | ⟨hP, hlt, -, rfl⟩
  · exact hJ
  · exact hJ
  · have hn := zclN hP.1.1
    have hx2 := hP.1.2
    have h33 := zJ_sz hJ (j := x.toNatClampNeg) (by omega)
    have ez := zinc (x := ι (B + 33 + 3 * x.toNatClampNeg) 1) (by omega)
    exact zJ_33 (zJ_u hJ (by unfold zRe; omega)) (by omega) (by omega) (by omega)
theorem zT_cut {B c : Nat} {ι ι1 ι2 : Nat → Nat → Int32} {r1 r2 : Int32} (hJ : zJ B c ι) (hR : zRel B c ι) {x y : Int32} (hJ1 : zJ B c ι1) (h1 : zD1_cut B ι ι1 x y r1) (h2 : zD2_cut B ι1 ι2 x y r2) : zJ B c ι2 ∧ zRel B c ι2 ∧ r1 = r2 := by
  have hm : ∀ b, B + 38 ≤ b → b ≤ B + 62 → ι1 b = ι b := by
    rcases h1 with ⟨-, -, rfl⟩ | ⟨-, -, -, rfl⟩ | ⟨hP, -, -, rfl⟩ <;> intro b q1 q2
    · rfl
    · rfl
    · have hn := zclN hP.1.1
      have hx2 := hP.1.2
      funext k; rw [zuo (by omega), zuo (by omega)]
  by_cases hx : 0 ≤ x.toInt ∧ x.toInt < 2
  · have hn := zclN hx.1
    have hx' : 0 ≤ x.toInt ∧ x.toInt ≤ 1 := by omega
    obtain ⟨r1, r2, r3, r4, r5⟩ := id hR
    obtain ⟨t1, t2, t3⟩ := r4 x.toNatClampNeg (by omega)
    have h33 := hJ.2.2.2.2.2.1 x.toNatClampNeg (by omega)
    have h49 := h2
    unfold zD2_cut at h2
    rw [hm (B + 48) (by omega) (by omega), hm (B + 49) (by omega) (by omega)] at h2
    unfold zD1_cut at h1
    rw [t1] at h1
    generalize hs : x.toNatClampNeg = s at *
    have hs2 : s < 2 := by omega
    have hnn := zclN h33.1
    have hP : (0 < (ι (B + 48) s).toInt ∧ y.toInt ≤ (ι (B + 34 + 3 * s) (ι (B + 48) s - 1).toNatClampNeg).toInt) ↔ (0 < (ι (B + 48) s).toInt ∧ y.toInt ≤ (ι (B + 49) (60 * s + (ι (B + 48) s).toNatClampNeg - 1)).toInt) := by
      by_cases h0 : 0 < (ι (B + 48) s).toInt
      · have e1 : (ι (B + 48) s - 1).toInt = (ι (B + 48) s).toInt - 1 := zsubI (x := ι (B + 48) s) (y := 1) (by rw [show Int32.toInt 1 = 1 from rfl]; omega) (by rw [show Int32.toInt 1 = 1 from rfl]; omega)
        have e2 := zclN (i := ι (B + 48) s - 1) (by omega)
        have e3 : 60 * s + (ι (B + 48) s).toNatClampNeg - 1 = 60 * s + (ι (B + 48) s - 1).toNatClampNeg := by omega
        rw [e3, (t2 (ι (B + 48) s - 1).toNatClampNeg (by omega)).1]
      · exact ⟨fun q => absurd q.1 h0, fun q => absurd q.1 h0⟩
    rw [hP] at h1
    simp only [hx, hx', true_and] at h1 h2
    generalize hQ : ((0 ≤ y.toInt ∧ y.toInt ≤ 1000000) ∧ ¬ (0 < (ι (B + 48) s).toInt ∧ y.toInt ≤ (ι (B + 49) (60 * s + (ι (B + 48) s).toNatClampNeg - 1)).toInt)) = Q at h1 h2
    rcases h1 with ⟨h0, rfl, rfl⟩ | ⟨h0, h3, rfl, rfl⟩ | ⟨h0, h3, rfl, hi⟩ <;> rcases h2 with ⟨g0, rfl, rfl⟩ | ⟨g0, g3, rfl, rfl⟩ | ⟨g0, g3, rfl, hi2⟩
    · exact ⟨hJ, hR, rfl⟩
    · exact absurd g0 h0
    · exact absurd g0 h0
    · exact absurd h0 g0
    · exact ⟨hJ, hR, rfl⟩
    · exact absurd (znei h33.2 g3 rfl) (by omega)
    · exact absurd h0 g0
    · rw [g3] at h3; exact absurd h3 (by decide)
    · have e1 := zinc (x := ι (B + 48) s) (by omega)
      rw [← hQ] at h0
      obtain ⟨hy, hlast⟩ := h0
      have hj2 := zJ_m48 (v := ι (B + 48) s + 1) (y := y) (x := s) (n := 60 * s + (ι (B + 48) s).toNatClampNeg) hJ1 (by omega) (by omega)
      rw [← hi2] at hj2
      refine ⟨hj2, ?_, rfl⟩
      rw [hi] at hi2
      rw [hi2]
      have hlt3 : ∀ k : Nat, (k : Int) + 1 = (ι (B + 48) s).toInt → (ι (B + 49) (60 * s + k)).toInt < y.toInt := fun k hk => by
        have e4 : 60 * s + (ι (B + 48) s).toNatClampNeg - 1 = 60 * s + k := by omega
        rw [e4] at hlast
        have h5 : ¬ (y.toInt ≤ (ι (B + 49) (60 * s + k)).toInt) := fun q => hlast ⟨by omega, q⟩
        omega
      clear hlast
      generalize hv : ι (B + 48) s + 1 = v at *
      generalize hn' : (ι (B + 48) s).toNatClampNeg = n at *
      have f : ∀ b k, ¬ (b = B + 34 + 3 * s ∧ k = n) → ¬ (b = B + 33 + 3 * s ∧ k = 1) → ¬ (b = B + 49 ∧ k = 60 * s + n) → ¬ (b = B + 48 ∧ k = s) → zu (zu (zu (zu ι (B + 34 + 3 * s) n y) (B + 33 + 3 * s) 1 v) (B + 49) (60 * s + n) y) (B + 48) s v b k = ι b k := fun b k q1 q2 q3 q4 => by rw [zuo (by omega), zuo (by omega), zuo (by omega), zuo (by omega)]
      refine ⟨zR1_fr r1 (f _ _ (by omega) (by omega) (by omega) (by omega)) (f _ _ (by omega) (by omega) (by omega) (by omega)), fun k hk => by rw [f _ _ (by omega) (by omega) (by omega) (by omega)]; exact r2 k hk, zRc_fr r3 (fun b k q => f b k (by omega) (by omega) (by omega) (by omega)), fun t ht => ?_, fun j hj => zRs_fr (r5 j hj) (hJ.2.2.2.2.2.2 j hj).2.2.1.1 (fun b k q => f b k (by omega) (by omega) (by omega) (by omega))⟩
      by_cases e : t = s
      · subst e
        have gn : zu (zu (zu (zu ι (B + 34 + 3 * t) n y) (B + 33 + 3 * t) 1 v) (B + 49) (60 * t + n) y) (B + 48) t v (B + 49) (60 * t + n) = y := by rw [zuo (by omega), zu_s]
        refine ⟨by rw [zuo (by omega), zuo (by omega), zu_s, zu_s], fun k hk => ?_, fun k hk => ?_⟩
        · rw [zu_s] at hk
          by_cases e2 : k = n
          · subst e2; rw [gn, zuo (by omega), zuo (by omega), zuo (by omega), zu_s]; exact ⟨rfl, hy⟩
          · rw [f _ _ (by omega) (by omega) (by omega) (by omega), f _ _ (by omega) (by omega) (by omega) (by omega)]
            exact t2 k (by omega)
        · rw [zu_s] at hk
          rw [f (B + 49) (60 * t + k) (by omega) (by omega) (by omega) (by omega)]
          by_cases e2 : k + 1 = n
          · rw [e2, gn]; exact hlt3 k (by omega)
          · rw [f (B + 49) (60 * t + (k + 1)) (by omega) (by omega) (by omega) (by omega)]
            exact t3 k (by omega)
      · exact zRt_fr (r4 t ht) (fun b k q => f b k (by omega) (by omega) (by omega) (by omega)) (hJ.2.2.2.2.2.1 t ht).2
  · have hx' : ¬ (0 ≤ x.toInt ∧ x.toInt ≤ 1) := by omega
    rcases h1 with ⟨h0, rfl, rfl⟩ | ⟨h0, h3, rfl, rfl⟩ | ⟨h0, h3, rfl, hi⟩
    · rcases h2 with ⟨g0, rfl, rfl⟩ | ⟨g0, g3, rfl, rfl⟩ | ⟨g0, g3, rfl, hi2⟩
      · exact ⟨hJ, hR, rfl⟩
      · exact absurd g0.1 hx'
      · exact absurd g0.1 hx'
    · exact absurd h0.1 hx
    · exact absurd h0.1 hx
theorem zT1_wipe {B c : Nat} {ι ι1 : Nat → Nat → Int32} {r1 x : Int32} (hJ : zJ B c ι) (h1 : zD1_wipe B ι ι1 x r1) : zJ B c ι1 := by
  rcases h1 with ⟨-, -, rfl⟩ | ⟨hP, -, rfl⟩
  · exact hJ
  · have hn := zclN hP.1
    have hx2 := hP.2
    exact zJ_33 hJ (by omega) (by decide) (by decide)
theorem zT_wipe {B c : Nat} {ι ι1 ι2 : Nat → Nat → Int32} {r1 r2 : Int32} (hJ : zJ B c ι) (hR : zRel B c ι) {x : Int32} (hJ1 : zJ B c ι1) (h1 : zD1_wipe B ι ι1 x r1) (h2 : zD2_wipe B ι1 ι2 x r2) : zJ B c ι2 ∧ zRel B c ι2 ∧ r1 = r2 := by
  rcases h1 with ⟨h0, rfl, rfl⟩ | ⟨h0, rfl, rfl⟩ <;> rcases h2 with ⟨g0, rfl, rfl⟩ | ⟨g0, rfl, rfl⟩
  · exact ⟨hJ, hR, rfl⟩
  · exact absurd (show 0 ≤ x.toInt ∧ x.toInt < 2 by omega) h0
  · exact absurd (show 0 ≤ x.toInt ∧ x.toInt ≤ 1 by omega) g0
  · have hn := zclN h0.1
    have hx2 := h0.2
    obtain ⟨r1, r2, r3, r4, r5⟩ := hR
    have t1 := (r4 x.toNatClampNeg (by omega)).1
    refine ⟨zJ_m48z hJ1, ?_, by rw [zuo (by omega)]; exact t1⟩
    generalize x.toNatClampNeg = s at *
    have f : ∀ b k, ¬ (b = B + 33 + 3 * s ∧ k = 1) → ¬ (b = B + 48 ∧ k = s) → zu (zu ι (B + 33 + 3 * s) 1 0) (B + 48) s 0 b k = ι b k := fun b k q2 q4 => by rw [zuo (by omega), zuo (by omega)]
    refine ⟨zR1_fr r1 (f _ _ (by omega) (by omega)) (f _ _ (by omega) (by omega)), fun k hk => by rw [f _ _ (by omega) (by omega)]; exact r2 k hk, zRc_fr r3 (fun b k q => f b k (by omega) (by omega)), fun t ht => ?_, fun j hj => zRs_fr (r5 j hj) (hJ.2.2.2.2.2.2 j hj).2.2.1.1 (fun b k q => f b k (by omega) (by omega))⟩
    by_cases e : t = s
    · subst e
      exact ⟨by rw [zuo (by omega), zu_s, zu_s], fun k hk => by rw [zu_s, show Int32.toInt 0 = 0 from rfl] at hk; omega, fun k hk => by rw [zu_s, show Int32.toInt 0 = 0 from rfl] at hk; omega⟩
    · exact zRt_fr (r4 t ht) (fun b k q => f b k (by omega) (by omega)) (hJ.2.2.2.2.2.1 t ht).2
/-- a span more -/
theorem zT1_span {B c : Nat} {ι ι1 : Nat → Nat → Int32} {r1 x y u w : Int32} (hJ : zJ B c ι) (h1 : zD1_span B ι ι1 c x y u w r1) : zJ B c ι1 ∧ ∀ b, b < B + 63 → ι1 b = ι b := by
  rcases h1 with ⟨-, -, rfl⟩ | ⟨-, -, -, rfl⟩ | ⟨-, -, -, -, rfl⟩ | ⟨hP, -, hF, -, f1, -, f3, -, -⟩
  · exact ⟨hJ, fun _ _ => rfl⟩
  · exact ⟨hJ, fun _ _ => rfl⟩
  · exact ⟨hJ, fun _ _ => rfl⟩
  · have hn := zclN hP.1.1
    have hx2 := hP.1.2
    have hs4 := (hJ.2.1.2.2.2.2 x.toNatClampNeg (by omega)).2.1
    have hq := Int.ediv_nonneg (show 0 ≤ u.toInt - y.toInt by have := hP.2.2.2.1; omega) (show 0 ≤ w.toInt by have := hP.2.2.2.2.1; omega)
    refine ⟨zJ_cspan hJ (j := x.toNatClampNeg) (by omega) (by omega) (by omega) (by omega) f1 f3, fun b hb => ?_⟩
    funext k
    rw [f1 b (by omega) (by omega), zuo (by omega), zuo (by omega), zuo (by omega), zuo (by omega)]
set_option maxHeartbeats 4000000 in
theorem zT_span4 {B c j : Nat} {ι ι1 : Nat → Nat → Int32} {y u w : Int32} (hJ : zJ B c ι) (hR : zRel B c ι) (hj : j < c) (h4 : (ι (B + 43) j).toInt < 4) {more : Int} (hmore : more = (u.toInt - y.toInt) / w.toInt + 1)
    (f1 : ∀ b, b ≠ B + 63 + 7 * j + 1 → b ≠ B + 63 + 7 * j + 2 → ι1 b = (zu (zu (zu (zu ι (B + 63 + 7 * j + 3) (ι (B + 63 + 7 * j) 5).toNatClampNeg y) (B + 63 + 7 * j + 4) (ι (B + 63 + 7 * j) 5).toNatClampNeg u) (B + 63 + 7 * j + 5) (ι (B + 63 + 7 * j) 5).toNatClampNeg w) (B + 63 + 7 * j) 5 (ι (B + 63 + 7 * j) 5 + 1)) b)
    (f3 : (ι1 (B + 63 + 7 * j + 1) 1).toInt = (ι (B + 63 + 7 * j + 1) 1).toInt + more) (f4 : ∀ q : Nat, (q : Int) < (ι (B + 63 + 7 * j + 1) 1).toInt → ι1 (B + 63 + 7 * j + 2) q = ι (B + 63 + 7 * j + 2) q) (f5 : ∀ q : Nat, (q : Int) < more → (ι1 (B + 63 + 7 * j + 2) ((ι (B + 63 + 7 * j + 1) 1).toNatClampNeg + q)).toInt = y.toInt + (q : Int) * w.toInt) :
    zRel B c (zu (zu (zu (zu ι1 (B + 44) (4 * j + (ι (B + 43) j).toNatClampNeg) y) (B + 45) (4 * j + (ι (B + 43) j).toNatClampNeg) u) (B + 46) (4 * j + (ι (B + 43) j).toNatClampNeg) w) (B + 43) j (ι (B + 43) j + 1)) := by
  obtain ⟨r1, r2, r3, r4, r5⟩ := hR
  obtain ⟨a1, a2, a3, a4, a5, a6, a7⟩ := r5 j hj
  have hjm := hJ.2.2.2.2.2.2
  have h43 := (hjm j hj).2.2.1
  have hn := zclN h43.1
  have e1 := zinc (x := ι (B + 43) j) (by omega)
  have hsp : ∀ k, k < (ι (B + 43) j).toNatClampNeg → zSp B ι (4 * j + k) := fun k hk => (hjm j hj).2.2.2 k (by omega)
  rw [a4] at f1
  have hc0 := (hJ.2.1.2.2.2.2 j hj).1
  have hcn := zclN hc0.1
  generalize hv : ι (B + 43) j + 1 = v at *
  generalize hn' : (ι (B + 43) j).toNatClampNeg = n at *
  generalize hg : zu (zu (zu (zu ι1 (B + 44) (4 * j + n) y) (B + 45) (4 * j + n) u) (B + 46) (4 * j + n) w) (B + 43) j v = ι2
  have g1 : ∀ b k, ¬ (b = B + 63 + 7 * j + 1) → ¬ (b = B + 63 + 7 * j + 2) → ¬ ((b = B + 63 + 7 * j + 3 ∨ b = B + 63 + 7 * j + 4 ∨ b = B + 63 + 7 * j + 5) ∧ k = n) → ¬ (b = B + 63 + 7 * j ∧ k = 5) → ¬ (B + 44 ≤ b ∧ b ≤ B + 46 ∧ k = 4 * j + n) → ¬ (b = B + 43 ∧ k = j) → ι2 b k = ι b k := fun b k q1 q2 q3 q4 q5 q6 => by
    rw [← hg, zuo (by omega), zuo (by omega), zuo (by omega), zuo (by omega), f1 b (by omega) (by omega), zuo (by omega), zuo (by omega), zuo (by omega), zuo (by omega)]
  have gc : ∀ b k, B + 63 ≤ b → ι2 b k = ι1 b k := fun b k q => by rw [← hg, zuo (by omega), zuo (by omega), zuo (by omega), zuo (by omega)]
  have g43 : ι2 (B + 43) j = v := by rw [← hg, zu_s]
  have g46 : ι2 (B + 46) (4 * j + n) = w := by rw [← hg, zuo (by omega), zu_s]
  have g45 : ι2 (B + 45) (4 * j + n) = u := by rw [← hg, zuo (by omega), zuo (by omega), zu_s]
  have g44 : ι2 (B + 44) (4 * j + n) = y := by rw [← hg, zuo (by omega), zuo (by omega), zuo (by omega), zu_s]
  have gS5 : ι2 (B + 63 + 7 * j) 5 = v := by rw [gc _ _ (by omega), f1 _ (by omega) (by omega), zu_s]
  have gS4 : ι2 (B + 63 + 7 * j + 4) n = u := by rw [gc _ _ (by omega), f1 _ (by omega) (by omega), zuo (by omega), zuo (by omega), zu_s]
  have gm : zSm B ι2 (4 * j + n) = more := by rw [zSm, g44, g45, g46, hmore]
  have gk : ∀ m, m ≤ n → zMk B ι2 j m = zMk B ι j m := fun m hm => zMk_fr (fun b k q1 q2 q3 q4 => g1 b k (by omega) (by omega) (by omega) (by omega) (by omega) (by omega))
  have hvn : v.toNatClampNeg = n + 1 := by have := zclN (i := v) (by omega); omega
  have hk0 := zMk_b hsp
  refine ⟨zR1_fr r1 (g1 _ _ (by omega) (by omega) (by omega) (by omega) (by omega) (by omega)) (g1 _ _ (by omega) (by omega) (by omega) (by omega) (by omega) (by omega)), fun k hk => by rw [g1 _ _ (by omega) (by omega) (by omega) (by omega) (by omega) (by omega)]; exact r2 k hk, zRc_fr r3 (fun b k q => g1 b k (by omega) (by omega) (by omega) (by omega) (by omega) (by omega)), fun t ht => zRt_fr (r4 t ht) (fun b k q => g1 b k (by omega) (by omega) (by omega) (by omega) (by omega) (by omega)) (hJ.2.2.2.2.2.1 t ht).2, fun i hi => ?_⟩
  by_cases e : i = j
  · subst e
    unfold zRs
    rw [g43, hvn]
    refine ⟨by rw [g1 _ 0 (by omega) (by omega) (by omega) (by omega) (by omega) (by omega), g1 (B + 39) i (by omega) (by omega) (by omega) (by omega) (by omega) (by omega)]; exact a1, by rw [g1 _ 1 (by omega) (by omega) (by omega) (by omega) (by omega) (by omega), g1 (B + 40) i (by omega) (by omega) (by omega) (by omega) (by omega) (by omega)]; exact a2, by rw [g1 _ 3 (by omega) (by omega) (by omega) (by omega) (by omega) (by omega), g1 (B + 42) i (by omega) (by omega) (by omega) (by omega) (by omega) (by omega)]; exact a3, gS5, fun k hk => ?_, by rw [gc _ _ (by omega), f3, zMk, gk n (Nat.le_refl n), gm, a6], fun q e hq he0 he => ?_⟩
    · by_cases e2 : k = n
      · subst e2; rw [gS4, g45]
      · rw [g1 _ k (by omega) (by omega) (by omega) (by omega) (by omega) (by omega), g1 (B + 45) _ (by omega) (by omega) (by omega) (by omega) (by omega) (by omega)]
        exact a5 k (by omega)
    · by_cases e2 : q = n
      · subst e2
        rw [gm] at he
        rw [gk q (Nat.le_refl q), g44, g46, gc _ _ (by omega)]
        have h1 := f5 e.toNat (by omega)
        have e3 : (zMk B ι i q + e).toNat = (ι (B + 63 + 7 * i + 1) 1).toNatClampNeg + e.toNat := by omega
        rw [e3, h1, Int.toNat_of_nonneg he0]
      · have es : zSm B ι2 (4 * i + q) = zSm B ι (4 * i + q) := zSm_fr (fun b q1 q2 => g1 b _ (by omega) (by omega) (by omega) (by omega) (by omega) (by omega))
        rw [es] at he
        have hle := zMk_le hsp (q := q) (by omega)
        have hq0 := zMk_b (n := q) (fun k hk => hsp k (by omega))
        rw [gk q (by omega), g1 (B + 44) _ (by omega) (by omega) (by omega) (by omega) (by omega) (by omega), g1 (B + 46) _ (by omega) (by omega) (by omega) (by omega) (by omega) (by omega), gc _ _ (by omega), f4 _ (by omega)]
        exact a7 q e (by omega) he0 he
  · exact zRs_fr (r5 i hi) (hjm i hi).2.2.1.1 (fun b k q => by
      have h5 := (hjm i hi).2.2.1
      have h6 := zclN h5.1
      exact g1 b k (by omega) (by omega) (by omega) (by omega) (by omega) (by omega))
theorem zT_span {B c : Nat} {ι ι1 ι2 : Nat → Nat → Int32} {r1 r2 : Int32} (hJ : zJ B c ι) (hR : zRel B c ι) {x y u w : Int32} (hJ1 : zJ B c ι1) (hm : ∀ b, b < B + 63 → ι1 b = ι b) (h1 : zD1_span B ι ι1 c x y u w r1) (h2 : zD2_span B ι1 ι2 c x y u w r2) : zJ B c ι2 ∧ zRel B c ι2 ∧ r1 = r2 := by
  by_cases hP : ((0 ≤ x.toInt ∧ x.toInt < (c : Int)) ∧ (100 ≤ y.toInt ∧ y.toInt ≤ 100000) ∧ (100 ≤ u.toInt ∧ u.toInt ≤ 100000) ∧ y.toInt ≤ u.toInt ∧ 1 ≤ w.toInt ∧ w.toInt ≤ 10000)
  · have hn := zclN hP.1.1
    have hx2 := hP.1.2
    have hs4 := (hJ.2.2.2.2.2.2 x.toNatClampNeg (by omega)).2.2.1
    obtain ⟨a1, a2, a3, a4, a5, a6, a7⟩ := hR.2.2.2.2 x.toNatClampNeg (by omega)
    have hk : zMk B ι1 x.toNatClampNeg (ι (B + 43) x.toNatClampNeg).toNatClampNeg = zMk B ι x.toNatClampNeg (ι (B + 43) x.toNatClampNeg).toNatClampNeg := zMk_fr (fun b k q1 q2 q3 q4 => by rw [hm b (by omega)])
    unfold zD2_span at h2
    rw [hm (B + 43) (by omega), hm (B + 45) (by omega), hk] at h2
    have h1' := h1
    unfold zD1_span at h1
    rw [a4, a6] at h1
    generalize hs : x.toNatClampNeg = j at *
    have hnn := zclN hs4.1
    have hE : (0 < (ι (B + 43) j).toInt ∧ y.toInt ≤ (ι (B + 63 + 7 * j + 4) (ι (B + 43) j - 1).toNatClampNeg).toInt) ↔ (0 < (ι (B + 43) j).toInt ∧ y.toInt ≤ (ι (B + 45) (4 * j + (ι (B + 43) j).toNatClampNeg - 1)).toInt) := by
      by_cases h0 : 0 < (ι (B + 43) j).toInt
      · have e1 : (ι (B + 43) j - 1).toInt = (ι (B + 43) j).toInt - 1 := zsubI (x := ι (B + 43) j) (y := 1) (by rw [show Int32.toInt 1 = 1 from rfl]; omega) (by rw [show Int32.toInt 1 = 1 from rfl]; omega)
        have e2 := zclN (i := ι (B + 43) j - 1) (by omega)
        have e3 : 4 * j + (ι (B + 43) j).toNatClampNeg - 1 = 4 * j + (ι (B + 43) j - 1).toNatClampNeg := by omega
        rw [e3, a5 (ι (B + 43) j - 1).toNatClampNeg (by omega)]
      · exact ⟨fun q => absurd q.1 h0, fun q => absurd q.1 h0⟩
    rw [hE] at h1
    generalize (0 < (ι (B + 43) j).toInt ∧ y.toInt ≤ (ι (B + 45) (4 * j + (ι (B + 43) j).toNatClampNeg - 1)).toInt) = Q at h1 h2
    generalize hQ2 : ((ι (B + 43) j).toInt = 4 ∨ 400 < zMk B ι j (ι (B + 43) j).toNatClampNeg + ((u.toInt - y.toInt) / w.toInt + 1)) = Q2 at h1 h2
    rcases h1 with ⟨h0, rfl, rfl⟩ | ⟨-, h0, rfl, rfl⟩ | ⟨-, h0, h3, rfl, rfl⟩ | ⟨-, h0, h3, h5, f1, f2, f3, f4, f5⟩ <;> rcases h2 with ⟨g0, rfl, rfl⟩ | ⟨-, g0, rfl, rfl⟩ | ⟨-, g0, g3, rfl, rfl⟩ | ⟨-, g0, g3, g5, hi2⟩
    · exact absurd hP h0
    · exact absurd hP h0
    · exact absurd hP h0
    · exact absurd hP h0
    · exact absurd hP g0
    · exact ⟨hJ, hR, rfl⟩
    · exact absurd h0 g0
    · exact absurd h0 g0
    · exact absurd hP g0
    · exact absurd g0 h0
    · exact ⟨hJ, hR, rfl⟩
    · exact absurd h3 g3
    · exact absurd hP g0
    · exact absurd g0 h0
    · exact absurd g3 h3
    · rw [← hQ2] at h3
      have hlt4 : (ι (B + 43) j).toInt < 4 := by
        have : ¬ (ι (B + 43) j).toInt = 4 := fun q => h3 (Or.inl q)
        omega
      have hm43 : ι1 (B + 43) j = ι (B + 43) j := by rw [hm _ (by omega)]
      have hj2 := zJ_mspan (x := y) (y := u) (u := w) hJ1 (j := j) (by omega) (by rw [hm43]; exact hlt4) hP.2.1.1 hP.2.2.2.1 hP.2.2.1.2 hP.2.2.2.2.1 hP.2.2.2.2.2
      rw [hm43] at hj2
      rw [hi2]
      refine ⟨hj2, zT_span4 hJ hR (by omega) hlt4 rfl ?_ ?_ ?_ ?_, Int32.toInt_inj.mp (by omega)⟩
      · intro b q1 q2; rw [a4]; exact f1 b q1 q2
      · rw [a6]; exact f3
      · intro q hq; rw [a6] at hq; exact f4 q hq
      · intro q hq; exact f5 q hq
  · rcases h1 with ⟨h0, rfl, rfl⟩ | ⟨h0, -, -, -⟩ | ⟨h0, -, -, -, -⟩ | ⟨h0, -, -, -, -⟩
    · rcases h2 with ⟨g0, rfl, rfl⟩ | ⟨g0, -, -, -⟩ | ⟨g0, -, -, -, -⟩ | ⟨g0, -, -, -, -⟩
      · exact ⟨hJ, hR, rfl⟩
      · exact absurd g0 hP
      · exact absurd g0 hP
      · exact absurd g0 hP
    · exact absurd h0 hP
    · exact absurd h0 hP
    · exact absurd h0 hP
/-- a SCALE more -/
theorem zT1_scale {B c : Nat} {ι ι1 : Nat → Nat → Int32} {r1 x y u w : Int32} (hJ : zJ B c ι) (hR : zRel B c ι) (h1 : zD1_scale B ι ι1 c x y u w r1) : zJm B c ι1 := by
  rcases h1 with ⟨-, -, rfl⟩ | ⟨-, -, -, rfl⟩ | ⟨h0, hc8, -, rfl⟩
  · exact hJ.2.2
  · exact hJ.2.2
  · exact (zJ_scale (x2 := 0) (w2 := 0) hJ rfl hc8 h0.1 h0.2 rfl (hR.2.1 c (Nat.le_refl c))).1
theorem zT_scale {B c : Nat} {ι ι1 ι2 : Nat → Nat → Int32} {r1 r2 : Int32} (hJ : zJ B c ι) (hR : zRel B c ι) {x y u w : Int32} (h1 : zD1_scale B ι ι1 c x y u w r1) (h2 : zD2_scale B ι1 ι2 c x y u w r2) : ((¬ (((1 ≤ y.toInt ∧ y.toInt ≤ 3) ∧ 10 ≤ u.toInt ∧ u.toInt ≤ 990) ∧ c < 8) ∧ zJ B c ι2 ∧ zRel B c ι2) ∨ ((((1 ≤ y.toInt ∧ y.toInt ≤ 3) ∧ 10 ≤ u.toInt ∧ u.toInt ≤ 990) ∧ c < 8) ∧ zJ B (c + 1) ι2 ∧ zRel B (c + 1) ι2)) ∧ r1 = r2 := by
  rcases h1 with ⟨h0, rfl, rfl⟩ | ⟨h0, h3, rfl, rfl⟩ | ⟨h0, h3, rfl, hi⟩ <;> rcases h2 with ⟨g0, rfl, rfl⟩ | ⟨g0, g3, rfl, rfl⟩ | ⟨g0, g3, rfl, hi2⟩
  · exact ⟨Or.inl ⟨fun q => h0 q.1, hJ, hR⟩, rfl⟩
  · exact absurd g0 h0
  · exact absurd g0 h0
  · exact absurd h0 g0
  · exact ⟨Or.inl ⟨fun q => by have := q.2; omega, hJ, hR⟩, rfl⟩
  · omega
  · exact absurd h0 g0
  · omega
  · have hs := zJ_scale (x2 := x) (w2 := w) hJ rfl h3 h0.1 h0.2 hi (hR.2.1 c (Nat.le_refl c))
    have hmc := hs.1.1
    have hcc := hJ.2.1.1
    have e0 : ι B 9 = ι1 (B + 38) 1 := Int32.toInt_inj.mp (by rw [hmc, hcc])
    have hcn : (ι1 (B + 38) 1).toNatClampNeg = c := by have := zclN (i := ι1 (B + 38) 1) (by omega); omega
    refine ⟨Or.inr ⟨⟨h0, h3⟩, by rw [hi2]; exact hs.2, ?_⟩, by rw [e0]⟩
    rw [hcn] at hi2
    have fr : ∀ b k, b < B + 63 + 7 * c → ¬ (b = B ∧ k = 9) → ι1 b k = ι b k := fun b k q1 q2 => by rw [hi, zuo (by omega), iX7_B (by omega)]
    have g1 : ∀ b k, ¬ (b = B + 38 ∧ k = 1) → ¬ ((b = B + 39 ∨ b = B + 40 ∨ b = B + 41 ∨ b = B + 42) ∧ k = c) → ι2 b k = ι1 b k := fun b k q1 q2 => by rw [hi2, zuo (by omega), zuo (by omega), zuo (by omega), zuo (by omega), zuo (by omega)]
    have g39 : ι2 (B + 39) c = x := by rw [hi2, zuo (by omega), zuo (by omega), zuo (by omega), zuo (by omega), zu_s]
    have g40 : ι2 (B + 40) c = y := by rw [hi2, zuo (by omega), zuo (by omega), zuo (by omega), zu_s]
    have g42 : ι2 (B + 42) c = w := by rw [hi2, zuo (by omega), zu_s]
    have s0 : ι1 (B + 63 + 7 * c) 0 = x := by rw [hi, zuo (by omega)]; simp [iX7, iX6, zu]
    have s1 : ι1 (B + 63 + 7 * c) 1 = y := by rw [hi, zuo (by omega)]; simp [iX7, iX6, zu]
    have s3 : ι1 (B + 63 + 7 * c) 3 = w := by rw [hi, zuo (by omega)]; simp [iX7, iX6, zu]
    have s5 : ι1 (B + 63 + 7 * c) 5 = 0 := by rw [hi, zuo (by omega)]; simp [iX7, iX6, zu]
    have z1 : ι1 (B + 63 + 7 * c + 1) 1 = 0 := by rw [hi, zuo (by omega)]; simp [iX7, iX6, zu]
    have hf : ∀ b k, b < B + 63 + 7 * c → ¬ (b = B ∧ k = 9) → ¬ (b = B + 38 ∧ k = 1) → ¬ ((b = B + 39 ∨ b = B + 40 ∨ b = B + 41 ∨ b = B + 42) ∧ k = c) → ι2 b k = ι b k := fun b k q1 q2 q3 q4 => by rw [g1 b k q3 q4, fr b k q1 q2]
    obtain ⟨r1, r2, r3, r4, r5⟩ := hR
    refine ⟨zR1_fr r1 (hf _ _ (by omega) (by omega) (by omega) (by omega)) (hf _ _ (by omega) (by omega) (by omega) (by omega)), fun k hk => by rw [hf _ _ (by omega) (by omega) (by omega) (by omega)]; exact r2 k (by omega), zRc_fr r3 (fun b k q => hf b k (by omega) (by omega) (by omega) (by omega)), fun s hs => zRt_fr (r4 s hs) (fun b k q => hf b k (by omega) (by omega) (by omega) (by omega)) (hJ.2.2.2.2.2.1 s hs).2, fun j hj => ?_⟩
    by_cases e : j = c
    · subst e
      have e43 : ι2 (B + 43) j = 0 := by rw [hf _ _ (by omega) (by omega) (by omega) (by omega)]; exact r2 j (Nat.le_refl j)
      have en : (0 : Int32).toNatClampNeg = 0 := rfl
      unfold zRs
      rw [g39, g40, g42, e43, g1 _ _ (by omega) (by omega), g1 _ _ (by omega) (by omega), g1 _ _ (by omega) (by omega), g1 _ 5 (by omega) (by omega), g1 (B + 63 + 7 * j + 1) 1 (by omega) (by omega), s0, s1, s3, s5, z1, en]
      exact ⟨rfl, rfl, rfl, rfl, fun k hk => by rw [show Int32.toInt 0 = 0 from rfl] at hk; omega, rfl, fun q e hq => by rw [show Int32.toInt 0 = 0 from rfl] at hq; omega⟩
    · exact zRs_fr (r5 j (by omega)) (hJ.2.2.2.2.2.2 j (by omega)).2.2.1.1 (fun b k q => hf b k (by omega) (by omega) (by omega) (by omega))
/-- marks -/
theorem zQ_marks {B c : Nat} {ι : Nat → Nat → Int32} (hR : zRel B c ι) {x r : Int32} (hx : 0 ≤ x.toInt ∧ x.toInt < (c : Int)) (h : r.toInt = zMk B ι x.toNatClampNeg (ι (B + 43) x.toNatClampNeg).toNatClampNeg) : ι (B + 63 + 7 * x.toNatClampNeg + 1) 1 = r := by
  have hn := zclN hx.1
  have a6 := (hR.2.2.2.2 x.toNatClampNeg (by omega)).2.2.2.2.2.1
  exact Int32.toInt_inj.mp (by rw [a6, h])
theorem zQ_mark {B c : Nat} {ι : Nat → Nat → Int32} (hJ : zJ B c ι) (hR : zRel B c ι) {x y r : Int32} (hx : 0 ≤ x.toInt ∧ x.toInt < (c : Int)) (hy : 0 ≤ y.toInt) {q : Nat} {e : Int} (hq : (q : Int) < (ι (B + 43) x.toNatClampNeg).toInt) (he0 : 0 ≤ e) (he : e < zSm B ι (4 * x.toNatClampNeg + q)) (h1 : y.toInt = zMk B ι x.toNatClampNeg q + e) (h2 : r.toInt = (ι (B + 44) (4 * x.toNatClampNeg + q)).toInt + e * (ι (B + 46) (4 * x.toNatClampNeg + q)).toInt) : ι (B + 63 + 7 * x.toNatClampNeg + 2) y.toNatClampNeg = r := by
  have hn := zclN hx.1
  have hyn := zclN hy
  have a7 := (hR.2.2.2.2 x.toNatClampNeg (by omega)).2.2.2.2.2.2 q e hq he0 he
  have e1 : (zMk B ι x.toNatClampNeg q + e).toNat = y.toNatClampNeg := by omega
  rw [e1] at a7
  exact Int32.toInt_inj.mp (by rw [a7, h2])
def zD1_mark (B : Nat) (ι : Nat → Nat → Int32) (c : Nat) (x y : Int32) (r : Int32) : Prop := (¬ ((0 ≤ x.toInt ∧ x.toInt < (c : Int)) ∧ 0 ≤ y.toInt) ∧ r = -2) ∨ (((0 ≤ x.toInt ∧ x.toInt < (c : Int)) ∧ 0 ≤ y.toInt) ∧ r = (if 0 ≤ y.toInt ∧ y.toInt < (ι (B + 63 + 7 * x.toNatClampNeg + 1) 1).toInt then ι (B + 63 + 7 * x.toNatClampNeg + 2) y.toNatClampNeg else -1))
def zD2_mark (B : Nat) (ι : Nat → Nat → Int32) (c : Nat) (x y : Int32) (r : Int32) : Prop := (¬ ((0 ≤ x.toInt ∧ x.toInt < (c : Int)) ∧ 0 ≤ y.toInt) ∧ r = -2) ∨ (((0 ≤ x.toInt ∧ x.toInt < (c : Int)) ∧ 0 ≤ y.toInt) ∧ zMk B ι x.toNatClampNeg (ι (B + 43) x.toNatClampNeg).toNatClampNeg ≤ y.toInt ∧ r = -1) ∨ (((0 ≤ x.toInt ∧ x.toInt < (c : Int)) ∧ 0 ≤ y.toInt) ∧ y.toInt < zMk B ι x.toNatClampNeg (ι (B + 43) x.toNatClampNeg).toNatClampNeg ∧ ∃ (q : Nat) (e : Int), (q : Int) < (ι (B + 43) x.toNatClampNeg).toInt ∧ 0 ≤ e ∧ e < zSm B ι (4 * x.toNatClampNeg + q) ∧ y.toInt = zMk B ι x.toNatClampNeg q + e ∧ r.toInt = (ι (B + 44) (4 * x.toNatClampNeg + q)).toInt + e * (ι (B + 46) (4 * x.toNatClampNeg + q)).toInt)
def zD1_marks (B : Nat) (ι : Nat → Nat → Int32) (c : Nat) (x : Int32) (r : Int32) : Prop := (¬ (0 ≤ x.toInt ∧ x.toInt < (c : Int)) ∧ r = -2) ∨ ((0 ≤ x.toInt ∧ x.toInt < (c : Int)) ∧ r = ι (B + 63 + 7 * x.toNatClampNeg + 1) 1)
def zD2_marks (B : Nat) (ι : Nat → Nat → Int32) (c : Nat) (x : Int32) (r : Int32) : Prop := (¬ (0 ≤ x.toInt ∧ x.toInt < (c : Int)) ∧ r = -2) ∨ ((0 ≤ x.toInt ∧ x.toInt < (c : Int)) ∧ r.toInt = zMk B ι x.toNatClampNeg (ι (B + 43) x.toNatClampNeg).toNatClampNeg)
theorem zT_mark {B c : Nat} {ι : Nat → Nat → Int32} {r1 r2 x y : Int32} (hJ : zJ B c ι) (hR : zRel B c ι) (h1 : zD1_mark B ι c x y r1) (h2 : zD2_mark B ι c x y r2) : r1 = r2 := by
  rcases h1 with ⟨h0, rfl⟩ | ⟨h0, rfl⟩ <;> rcases h2 with ⟨g0, rfl⟩ | ⟨g0, g1, rfl⟩ | ⟨g0, g1, q, e, h3, h4, h5, h6, h7⟩
  · rfl
  · exact absurd g0 h0
  · exact absurd g0 h0
  · exact absurd h0 g0
  · have hn := zclN h0.1.1
    have a6 := (hR.2.2.2.2 x.toNatClampNeg (by omega)).2.2.2.2.2.1
    rw [a6]
    exact if_neg (fun q => by omega)
  · have hn := zclN h0.1.1
    have a6 := (hR.2.2.2.2 x.toNatClampNeg (by omega)).2.2.2.2.2.1
    rw [a6, if_pos ⟨h0.2, g1⟩]
    exact zQ_mark hJ hR h0.1 h0.2 h3 h4 h5 h6 h7
theorem zT_marks {B c : Nat} {ι : Nat → Nat → Int32} {r1 r2 x : Int32} (hR : zRel B c ι) (h1 : zD1_marks B ι c x r1) (h2 : zD2_marks B ι c x r2) : r1 = r2 := by
  rcases h1 with ⟨h0, rfl⟩ | ⟨h0, rfl⟩ <;> rcases h2 with ⟨g0, rfl⟩ | ⟨g0, g1⟩
  · rfl
  · exact absurd g0 h0
  · exact absurd h0 g0
  · exact zQ_marks hR h0 g1
/-- the laws: both sides' numbers are alike -/
def zLok (L V : Int32) : Bool := decide (zNumM L V = zNum L V) && decide (0 ≤ (zNum L V - zNum L (zOrd L 0)).toInt) && decide ((zNum L V - zNum L (zOrd L 0)).toInt ≤ 1000000) && decide (1 ≤ (zNum L (zOrd L 59) - zNum L (zOrd L 0)).toInt) && decide ((zNum L (zOrd L 59) - zNum L (zOrd L 0)).toInt ≤ 1000000) && (if L = 2 then decide (zNum L (zOrd L 59) = zNumM L 1) && decide (zNum L (zOrd L 0) = zNumM L 60) else decide (zNum L (zOrd L 59) = zNumM L 60) && decide (zNum L (zOrd L 0) = zNumM L 1))
theorem zLok_all : ∀ l, l < 4 → ∀ v, v < 60 → zLok (Int32.ofNat l) (Int32.ofNat (v + 1)) = true := by decide +kernel
theorem zLok_of {x y : Int32} (hx : 0 ≤ x.toInt ∧ x.toInt ≤ 3) (hy : 1 ≤ y.toInt ∧ y.toInt ≤ 60) : zLok x y = true := by
  have h1 := zclN hx.1
  have h2 := zclN (i := y) (by omega)
  have e1 : Int32.ofNat x.toNatClampNeg = x := Int32.toInt_inj.mp (by rw [znat (by omega)]; omega)
  have e2 : Int32.ofNat (y.toNatClampNeg - 1 + 1) = y := Int32.toInt_inj.mp (by rw [znat (by omega)]; omega)
  have h := zLok_all x.toNatClampNeg (by omega) (y.toNatClampNeg - 1) (by omega)
  rw [e1, e2] at h
  exact h
theorem zLdn {d f l s : Int64} (h0 : 0 ≤ d.toInt) (h1 : d.toInt ≤ 1000000) (h2 : 1 ≤ (l - f).toInt) (h3 : (l - f).toInt ≤ 1000000) (hs : 100 ≤ s.toInt ∧ s.toInt ≤ 50000) : zDown (2 * d * s + l - f) (2 * (l - f)) = (2 * d * s + (l - f)) / (2 * (l - f)) := by
  have e2 : (2 : Int64).toInt = 2 := rfl
  have e3 : (2 * d).toInt = 2 * d.toInt := by rw [zmulJ (x := 2) (y := d) (by rw [e2]; omega) (by rw [e2]; omega), e2]
  have e4 : 0 ≤ 2 * d.toInt * s.toInt := Int.mul_nonneg (by omega) (by omega)
  have e5 : 2 * d.toInt * s.toInt ≤ 2000000 * 50000 := Int.mul_le_mul (by omega) hs.2 (by omega) (by decide)
  have e6 : (2 * d * s).toInt = 2 * d.toInt * s.toInt := by rw [zmulJ (x := 2 * d) (y := s) (by rw [e3]; omega) (by rw [e3]; omega), e3]
  have e7 : 2 * d * s + l - f = 2 * d * s + (l - f) := by rw [Int64.sub_eq_add_neg, Int64.sub_eq_add_neg, Int64.add_assoc]
  generalize hw : l - f = w at *
  generalize 2 * d * s = a at *
  have e8 : (a + w).toInt = a.toInt + w.toInt := zaddJ (x := a) (y := w) (by omega) (by omega)
  rw [e7, zDown, if_pos (by omega)]
theorem zPl_eq {x y s : Int32} (hx : 0 ≤ x.toInt ∧ x.toInt ≤ 3) (hy : 1 ≤ y.toInt ∧ y.toInt ≤ 60) (hs : 100 ≤ s.toInt ∧ s.toInt ≤ 50000) : zPl x y s = zPlM x y s := by
  have h := zLok_of hx hy
  unfold zLok at h
  simp only [Bool.and_eq_true, decide_eq_true_eq] at h
  obtain ⟨⟨⟨⟨⟨h1, h2⟩, h3⟩, h4⟩, h5⟩, h6⟩ := h
  have hs' : 100 ≤ s.toInt64.toInt ∧ s.toInt64.toInt ≤ 50000 := by rw [Int32.toInt_toInt64]; exact hs
  unfold zPl zPlM
  rw [if_neg (by omega)]
  by_cases e : x = 2
  · rw [if_pos e] at h6 ⊢
    simp only [Bool.and_eq_true, decide_eq_true_eq] at h6
    rw [h6.1, h6.2] at h4 h5 ⊢
    rw [h6.2] at h2 h3
    rw [h1, zLdn h2 h3 h4 h5 hs']
  · rw [if_neg e] at h6 ⊢
    simp only [Bool.and_eq_true, decide_eq_true_eq] at h6
    rw [h6.1, h6.2] at h4 h5 ⊢
    rw [h6.2] at h2 h3
    rw [h1, zLdn h2 h3 h4 h5 hs']
theorem zT_law {B c : Nat} {ι : Nat → Nat → Int32} (hR : zRel B c ι) (x y : Int32) : (if (0 ≤ x.toInt ∧ x.toInt ≤ 3) ∧ 1 ≤ y.toInt ∧ y.toInt ≤ 60 then zPl x y (ι B 10) else -2) = (if (0 ≤ x.toInt ∧ x.toInt ≤ 3) ∧ 1 ≤ y.toInt ∧ y.toInt ≤ 60 then zPlM x y (ι (B + 38) 0) else -2) := by
  by_cases h : (0 ≤ x.toInt ∧ x.toInt ≤ 3) ∧ 1 ≤ y.toInt ∧ y.toInt ≤ 60
  · rw [if_pos h, if_pos h, zPl_eq h.1 h.2 hR.1.2, hR.1.1]
  · rw [if_neg h, if_neg h]
