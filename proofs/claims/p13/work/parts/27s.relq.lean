/-! the class's stores of PLACES; closest, nearest, between (wip/genq/q_spec_rb.py) -/
def zRQ (B c : Nat) (ι : Nat → Nat → Int32) : Prop := zRP B c ι ∧ zPlC B c ι
theorem zPlC_hi {B c : Nat} {ι ι2 : Nat → Nat → Int32} (hC : zPlC B c ι) (h : ∀ b k, B + 63 ≤ b → ι2 b k = ι b k) : zPlC B c ι2 := by
  intro j hj k hk
  rw [h _ _ (by omega)] at hk
  rw [h (B + 63 + 7 * j + 6) k (by omega), h (B + 63 + 7 * j) 11 (by omega), hC j hj k hk]
  exact (zVl_c (h _ _ (by omega)) (h _ _ (by omega)) (h _ _ (by omega)) (h _ _ (by omega))).symm
theorem zRQ_q {B c : Nat} {ι ι1 ι2 : Nat → Nat → Int32} (hJ : zJ B c ι) (hR : zRQ B c ι) (h1 : zEdp B ι ι1) (h2 : zFdp B c ι1 ι2) : zRQ B c ι2 := ⟨zRP_q hJ hR.1 h1 h2, zPlC_hi hR.2 (fun b k q => by
  have e1 := h1 b k (by unfold zCc; omega)
  rcases h2 with h2 | ⟨h2, -⟩
  · rw [h2 b k (by unfold zCm; omega), e1]
  · rw [h2 b k (by unfold zCq; omega), e1])⟩
theorem zRQ_0 {B c : Nat} {ι ι1 ι2 : Nat → Nat → Int32} (hR : zRQ B c ι) (hl : zRl B c ι2) (hF : zFc0 B c ι ι1) (hG : zFm0 B ι1 ι2) : zRQ B c ι2 := ⟨zRP_0 hR.1 hl hF hG, zPlC_hi hR.2 (fun b k q => by rw [hG b k (by unfold zCm0; omega), hF.1 b k (by unfold zCc0; omega)])⟩
theorem zV1_rule {B : Nat} {ι ι1 : Nat → Nat → Int32} {r1 : Int32} {x : Int32} (h : zD1_rule B ι ι1 x r1) : ∀ b k, B + 63 ≤ b → ι1 b k = ι b k := by
  rcases h with ⟨-, -, rfl⟩ | ⟨-, -, rfl⟩ <;> intro b k q
  · rfl
  · rw [zuo (by omega)]
theorem zV2_rule {B : Nat} {ι1 ι2 : Nat → Nat → Int32} {r2 : Int32} {x : Int32} (h : zD2_rule B ι1 ι2 x r2) : ∀ b k, B + 63 ≤ b → ι2 b k = ι1 b k := by
  rcases h with ⟨-, -, rfl⟩ | ⟨-, -, rfl⟩ <;> intro b k q
  · rfl
  · rw [zuo (by omega)]
theorem zU_rule {B c : Nat} {ι ι1 ι2 : Nat → Nat → Int32} {r1 r2 : Int32} {x : Int32} (hC : zPlC B c ι) (h1 : zD1_rule B ι ι1 x r1) (h2 : zD2_rule B ι1 ι2 x r2) : zPlC B c ι2 := zPlC_hi hC (fun b k q => (zV2_rule h2 b k q).trans (zV1_rule h1 b k q))
theorem zV1_factor {B : Nat} {ι ι1 : Nat → Nat → Int32} {r1 : Int32} {x : Int32} (h : zD1_factor B ι ι1 x r1) : ∀ b k, B + 63 ≤ b → ι1 b k = ι b k := by
  rcases h with ⟨-, -, rfl⟩ | ⟨-, -, -, rfl⟩ | ⟨-, -, -, rfl⟩ <;> intro b k q
  · rfl
  · rfl
  · rw [zuo (by omega), zuo (by omega)]
theorem zV2_factor {B : Nat} {ι1 ι2 : Nat → Nat → Int32} {r2 : Int32} {x : Int32} (h : zD2_factor B ι1 ι2 x r2) : ∀ b k, B + 63 ≤ b → ι2 b k = ι1 b k := by
  rcases h with ⟨-, -, rfl⟩ | ⟨-, -, -, rfl⟩ | ⟨-, -, -, rfl⟩ <;> intro b k q
  · rfl
  · rfl
  · rw [zuo (by omega), zuo (by omega)]
theorem zU_factor {B c : Nat} {ι ι1 ι2 : Nat → Nat → Int32} {r1 r2 : Int32} {x : Int32} (hC : zPlC B c ι) (h1 : zD1_factor B ι ι1 x r1) (h2 : zD2_factor B ι1 ι2 x r2) : zPlC B c ι2 := zPlC_hi hC (fun b k q => (zV2_factor h2 b k q).trans (zV1_factor h1 b k q))
theorem zV1_clear {B : Nat} {ι ι1 : Nat → Nat → Int32} {r1 : Int32}  (h : zD1_clear B ι ι1 r1) : ∀ b k, B + 63 ≤ b → ι1 b k = ι b k := by
  obtain ⟨-, rfl⟩ := h
  intro b k q
  rw [zuo (by omega)]
theorem zV2_clear {B : Nat} {ι1 ι2 : Nat → Nat → Int32} {r2 : Int32}  (h : zD2_clear B ι1 ι2 r2) : ∀ b k, B + 63 ≤ b → ι2 b k = ι1 b k := by
  obtain ⟨-, rfl⟩ := h
  intro b k q
  rw [zuo (by omega)]
theorem zU_clear {B c : Nat} {ι ι1 ι2 : Nat → Nat → Int32} {r1 r2 : Int32}  (hC : zPlC B c ι) (h1 : zD1_clear B ι ι1 r1) (h2 : zD2_clear B ι1 ι2 r2) : zPlC B c ι2 := zPlC_hi hC (fun b k q => (zV2_clear h2 b k q).trans (zV1_clear h1 b k q))
theorem zV1_cut {B : Nat} {ι ι1 : Nat → Nat → Int32} {r1 : Int32} {x y : Int32} (h : zD1_cut B ι ι1 x y r1) : ∀ b k, B + 63 ≤ b → ι1 b k = ι b k := by
  rcases h with ⟨-, -, rfl⟩ | ⟨-, -, -, rfl⟩ | ⟨hP, -, -, rfl⟩ <;> intro b k q
  · rfl
  · rfl
  · have hx2 := zclN hP.1.1
    have hx3 := hP.1.2
    rw [zuo (by omega), zuo (by omega)]
theorem zV2_cut {B : Nat} {ι1 ι2 : Nat → Nat → Int32} {r2 : Int32} {x y : Int32} (h : zD2_cut B ι1 ι2 x y r2) : ∀ b k, B + 63 ≤ b → ι2 b k = ι1 b k := by
  rcases h with ⟨-, -, rfl⟩ | ⟨-, -, -, rfl⟩ | ⟨-, -, -, rfl⟩ <;> intro b k q
  · rfl
  · rfl
  · rw [zuo (by omega), zuo (by omega)]
theorem zU_cut {B c : Nat} {ι ι1 ι2 : Nat → Nat → Int32} {r1 r2 : Int32} {x y : Int32} (hC : zPlC B c ι) (h1 : zD1_cut B ι ι1 x y r1) (h2 : zD2_cut B ι1 ι2 x y r2) : zPlC B c ι2 := zPlC_hi hC (fun b k q => (zV2_cut h2 b k q).trans (zV1_cut h1 b k q))
theorem zV1_wipe {B : Nat} {ι ι1 : Nat → Nat → Int32} {r1 : Int32} {x : Int32} (h : zD1_wipe B ι ι1 x r1) : ∀ b k, B + 63 ≤ b → ι1 b k = ι b k := by
  rcases h with ⟨-, -, rfl⟩ | ⟨hP, -, rfl⟩ <;> intro b k q
  · rfl
  · have hx2 := zclN hP.1
    have hx3 := hP.2
    rw [zuo (by omega)]
theorem zV2_wipe {B : Nat} {ι1 ι2 : Nat → Nat → Int32} {r2 : Int32} {x : Int32} (h : zD2_wipe B ι1 ι2 x r2) : ∀ b k, B + 63 ≤ b → ι2 b k = ι1 b k := by
  rcases h with ⟨-, -, rfl⟩ | ⟨-, -, rfl⟩ <;> intro b k q
  · rfl
  · rw [zuo (by omega)]
theorem zU_wipe {B c : Nat} {ι ι1 ι2 : Nat → Nat → Int32} {r1 r2 : Int32} {x : Int32} (hC : zPlC B c ι) (h1 : zD1_wipe B ι ι1 x r1) (h2 : zD2_wipe B ι1 ι2 x r2) : zPlC B c ι2 := zPlC_hi hC (fun b k q => (zV2_wipe h2 b k q).trans (zV1_wipe h1 b k q))
theorem zU_off {B c : Nat} {ι ι1 ι2 : Nat → Nat → Int32} {x r1 r2 : Int32} (hC : zPlC B c ι) (h1 : zE1_off B ι ι1 x r1) (h2 : zE2_off B ι1 ι2 x r2) : zPlC B c ι2 := zPlC_hi hC (fun b k q => by
  have e1 : ι1 b k = ι b k := by
    rcases h1 with ⟨-, -, rfl⟩ | ⟨-, -, rfl⟩
    · rfl
    · rw [zuo (by omega)]
  rcases h2 with ⟨-, -, rfl⟩ | ⟨-, -, rfl⟩
  · exact e1
  · rw [zuo (by omega)]; exact e1)
theorem zU_set {B c : Nat} {ι ι1 ι2 : Nat → Nat → Int32} {x y u w r1 r2 : Int32} (hC : zPlC B c ι) (h1 : zE1_set B c ι ι1 x y u w r1) (h2 : zE2_set B c ι1 ι2 x y u w r2) : zPlC B c ι2 := zPlC_hi hC (fun b k q => by
  have e1 : ι1 b k = ι b k := by
    rcases h1 with ⟨-, -, rfl⟩ | ⟨-, -, rfl⟩
    · rfl
    · rw [zuo (by omega)]
  rcases h2 with ⟨-, -, rfl⟩ | ⟨-, -, i, h3, -, rfl⟩
  · exact e1
  · rw [zuo (by omega), h3 b k (by unfold zCq; omega)]; exact e1)
theorem zU_span {B c : Nat} {ι ι1 ι2 : Nat → Nat → Int32} {r1 r2 : Int32} {x y u w : Int32} (hJ : zJ B c ι) (hC : zPlC B c ι) (h1 : zD1_span B ι ι1 c x y u w r1) (h2 : zD2_span B ι1 ι2 c x y u w r2) : zPlC B c ι2 := by
  have f2 : ∀ b k, B + 63 ≤ b → ι2 b k = ι1 b k := by
    rcases h2 with ⟨-, -, rfl⟩ | ⟨-, -, -, rfl⟩ | ⟨-, -, -, -, rfl⟩ | ⟨-, -, -, -, rfl⟩ <;> intro b k q
    · rfl
    · rfl
    · rfl
    · rw [zuo (by omega), zuo (by omega), zuo (by omega), zuo (by omega)]
  refine zPlC_hi ?_ f2
  rcases h1 with ⟨-, -, rfl⟩ | ⟨-, -, -, rfl⟩ | ⟨-, -, -, -, rfl⟩ | ⟨hP, -, hF, -, f1, -, f3, f4, -⟩
  · exact hC
  · exact hC
  · exact hC
  · have hx2 := zclN hP.1.1
    intro j hj k hk
    have e : ∀ k, k ≠ 5 → ι1 (B + 63 + 7 * j) k = ι (B + 63 + 7 * j) k := fun k hk => by rw [f1 _ (by omega) (by omega), zuo (by omega), zuo (by omega), zuo (by omega), zuo (by omega)]
    rw [e 10 (by decide)] at hk
    have e6 : ι1 (B + 63 + 7 * j + 6) k = ι (B + 63 + 7 * j + 6) k := by rw [f1 _ (by omega) (by omega), zuo (by omega), zuo (by omega), zuo (by omega), zuo (by omega)]
    have hs := (hJ.2.1.2.2.2.2 j hj).2.2.2
    have e2 : ι1 (B + 63 + 7 * j + 2) k = ι (B + 63 + 7 * j + 2) k := by
      by_cases q : j = x.toNatClampNeg
      · rw [q]
        rw [q] at hk hs
        exact f4 k (by omega)
      · rw [f1 _ (by omega) (by omega), zuo (by omega), zuo (by omega), zuo (by omega), zuo (by omega)]
    rw [e6, e 11 (by decide), hC j hj k hk]
    exact (zVl_c (e 1 (by decide)) (e 2 (by decide)) (e 3 (by decide)) e2).symm
theorem zU_scale {B c : Nat} {ι ι1 ι2 : Nat → Nat → Int32} {r1 r2 : Int32} {x y u w : Int32} (hC : zPlC B c ι) (h1 : zD1_scale B ι ι1 c x y u w r1) (h2 : zD2_scale B ι1 ι2 c x y u w r2) {c2 : Nat} (hc : c2 = c ∨ ((((1 ≤ y.toInt ∧ y.toInt ≤ 3) ∧ 10 ≤ u.toInt ∧ u.toInt ≤ 990) ∧ c < 8) ∧ c2 = c + 1)) : zPlC B c2 ι2 := by
  have f2 : ∀ b k, B + 63 ≤ b → ι2 b k = ι1 b k := by
    rcases h2 with ⟨-, -, rfl⟩ | ⟨-, -, -, rfl⟩ | ⟨-, -, -, rfl⟩ <;> intro b k q
    · rfl
    · rfl
    · rw [zuo (by omega), zuo (by omega), zuo (by omega), zuo (by omega), zuo (by omega)]
  refine zPlC_hi ?_ f2
  rcases h1 with ⟨h0, -, rfl⟩ | ⟨h0, h3, -, rfl⟩ | ⟨h0, h3, -, hi⟩
  · rcases hc with rfl | ⟨q, -⟩
    · exact hC
    · exact absurd q.1 h0
  · rcases hc with rfl | ⟨q, -⟩
    · exact hC
    · exact absurd q.2 (by omega)
  · have fr : ∀ b k, b < B + 63 + 7 * c → B + 63 ≤ b → ι1 b k = ι b k := fun b k q1 q2 => by rw [hi, zuo (by omega), iX7_B (by omega)]
    have z10 : ι1 (B + 63 + 7 * c) 10 = 0 := by rw [hi, zuo (by omega)]; simp [iX7, iX6, zu]
    intro j hj k hk
    by_cases q : j < c
    · rw [fr _ _ (by omega) (by omega)] at hk
      rw [fr _ _ (by omega) (by omega), fr _ 11 (by omega) (by omega), hC j q k hk]
      exact (zVl_c (fr _ _ (by omega) (by omega)) (fr _ _ (by omega) (by omega)) (fr _ _ (by omega) (by omega)) (fr _ _ (by omega) (by omega))).symm
    · have e : j = c := by rcases hc with rfl | ⟨-, q2⟩ <;> omega
      rw [e, z10, show Int32.toInt 0 = 0 from rfl] at hk
      omega
/-- MARK k lies in a SPAN -/
theorem zMk_dec {B j : Nat} {ι : Nat → Nat → Int32} : ∀ (n : Nat) (k : Int), 0 ≤ k → k < zMk B ι j n → ∃ (q : Nat) (e : Int), q < n ∧ 0 ≤ e ∧ e < zSm B ι (4 * j + q) ∧ k = zMk B ι j q + e
  | 0, k, h0, h1 => by rw [zMk] at h1; omega
  | n + 1, k, h0, h1 => by
    by_cases c : k < zMk B ι j n
    · obtain ⟨q, e, a1, a2, a3, a4⟩ := zMk_dec n k h0 c
      exact ⟨q, e, by omega, a2, a3, a4⟩
    · rw [zMk] at h1
      exact ⟨n, k - zMk B ι j n, by omega, by omega, by omega, by omega⟩
theorem zMn_of {B c : Nat} {ι : Nat → Nat → Int32} (hJ : zJ B c ι) (hR : zRP B c ι) : zMn B c ι := by
  intro j hj k hk
  obtain ⟨-, -, h3, h4⟩ := hJ.2.2.2.2.2.2 j hj
  obtain ⟨-, -, -, -, -, a6, a7⟩ := hR.1.1.2.2.2.2 j hj
  have hn := zclN h3.1
  rw [a6] at hk
  obtain ⟨q, e, q1, q2, q3, q4⟩ := zMk_dec _ (k : Int) (Int.natCast_nonneg k) hk
  have hS := h4 q (by omega)
  have hv := a7 q e (by omega) q2 q3
  rw [← q4, Int.toNat_natCast] at hv
  have hz := zmk_le hS.2.1 hS.2.2.2.1 q2 q3
  rw [hv]
  have := hS.1
  have := hS.2.2.1
  omega
theorem zMu_of {B c : Nat} {ι : Nat → Nat → Int32} (hJ : zJ B c ι) (hR : zRP B c ι) (j : Nat) : zMu B ι j (ι (B + 63 + 7 * j + 2)) := by
  by_cases hj : j < c
  · obtain ⟨-, -, -, -, -, a6, a7⟩ := hR.1.1.2.2.2.2 j hj
    refine ⟨fun i r hr => ?_, fun k hk => zMn_of hJ hR j hj k (by rw [a6]; exact hk)⟩
    obtain ⟨q, e, h1, h2, h3, h4, h5⟩ := hr
    have hv := a7 q e h1 h2 h3
    rw [← h4, Int.toNat_natCast] at hv
    exact Int32.toInt_inj.mp (by rw [h5, hv])
  · have e0 := hR.1.1.2.1 j (by omega)
    refine ⟨fun i r hr => ?_, fun k hk => ?_⟩
    · obtain ⟨q, e, h1, -⟩ := hr
      rw [e0, show Int32.toInt 0 = 0 from rfl] at h1
      omega
    · rw [e0, show Int32.toNatClampNeg 0 = 0 from rfl, zMk] at hk
      omega
/-- the class has placed its MARKS -/
theorem zT1_fs {B c j : Nat} {ι ι1 : Nat → Nat → Int32} (hJ : zJ B c ι) (hR : zRQ B c ι) (hj : j < c) (hF : zFsc B j ι ι1) (hC : zPlC B c ι1) (hb : 0 ≤ (ι1 (B + 63 + 7 * j) 10).toInt ∧ (ι1 (B + 63 + 7 * j) 10).toInt ≤ (ι (B + 63 + 7 * j + 1) 1).toInt) : zJ B c ι1 ∧ zRQ B c ι1 := by
  have f : ∀ b k, ¬ (B + 63 ≤ b ∧ (((b - B - 63) % 7 = 0 ∧ (k = 10 ∨ k = 11)) ∨ (b - B - 63) % 7 = 6)) → ι1 b k = ι b k := fun b k q => by
    by_cases e : b = B + 63 + 7 * j
    · subst e
      exact hF.2 k (fun q2 => q (by omega)) (fun q2 => q (by omega))
    · rw [hF.1 b e (fun q2 => q (by omega))]
  refine ⟨⟨hJ.1, ?_, zJm_of (fun b k q1 q2 q3 => f b k (by omega)) hJ.2.2⟩, ⟨⟨zRel_fr hJ hR.1.1.1 (fun b k q => f b k (fun q2 => ?_)), zPq_fr hR.1.1.2 (fun b k q => f b k (by unfold zPb at q; omega))⟩, fun i hi => ?_, ?_, zPsM_fr hR.1.2.2.2 (fun b k q => f b k (by unfold zPs at q; omega))⟩, hC⟩
  · obtain ⟨b1, b2, b3, b4, b5⟩ := hJ.2.1
    refine ⟨by rw [f B 9 (by omega)]; exact b1, by rw [f (B + 12) 1 (by omega)]; exact b2, by rw [f (B + 33) 1 (by omega)]; exact b3, by rw [f (B + 36) 1 (by omega)]; exact b4, fun i hi => zJs_of (f _ _ (by omega)) (f _ _ (by omega)) ?_ (b5 i hi)⟩
    by_cases e : i = j
    · rw [e]; exact hb
    · rw [hF.1 _ (by omega) (by omega)]; exact (b5 i hi).2.2
  · unfold zRd at q
    rcases q with q | q | q | q | q | q | q
    · omega
    · omega
    · omega
    · omega
    · omega
    · omega
    · exact q.2 (by unfold zCcw; omega)
  · rw [f _ _ (by omega), f _ _ (by omega)]
    exact hR.1.2.1 i hi
  · rw [f _ _ (by omega), f _ _ (by omega)]
    exact hR.1.2.2.1
theorem zPcv_fs {B j : Nat} {ι ι1 : Nat → Nat → Int32} (hF : zFsc B j ι ι1) (v : Int32) : zPcv B ι1 j v = zPcv B ι j v := by
  unfold zPcv
  rw [hF.2 1 (by decide) (by decide), hF.2 2 (by decide) (by decide), hF.2 3 (by decide) (by decide), hF.1 B (by omega) (by omega)]
/-- dividing with both signs turned -/
theorem zdvb {w : Int64} {a b : Int32} (hw : -200000 ≤ w.toInt ∧ w.toInt ≤ 200000) (ha : -3000000 ≤ a.toInt ∧ a.toInt ≤ 3000000) (hb : -3000000 ≤ b.toInt ∧ b.toInt ≤ 3000000) (hs : (0 ≤ a.toInt ∧ 0 < b.toInt) ∨ (a.toInt ≤ 0 ∧ b.toInt < 0)) : w * a.toInt64 / b.toInt64 = w * (zAb a).toInt64 / (zAb b).toInt64 := by
  rcases hs with ⟨h1, h2⟩ | ⟨h1, h2⟩
  · have ea : zAb a = a := if_neg (by omega)
    have eb : zAb b = b := if_neg (by omega)
    rw [ea, eb]
  · have ea := (zAb_v (x := a) (by omega)).1
    have eb := (zAb_v (x := b) (by omega)).1
    rw [if_pos h2] at eb
    have ea2 : (zAb a).toInt = -a.toInt := by
      rw [ea]
      by_cases q : a.toInt < 0
      · rw [if_pos q]
      · rw [if_neg q]; omega
    have m1 : w.toInt * a.toInt ≤ 200000 * 3000000 ∧ -(200000 * 3000000) ≤ w.toInt * a.toInt := by
      have e1 : w.toInt * -a.toInt ≤ 200000 * -a.toInt := Int.mul_le_mul_of_nonneg_right hw.2 (by omega)
      have e2 : -200000 * -a.toInt ≤ w.toInt * -a.toInt := Int.mul_le_mul_of_nonneg_right hw.1 (by omega)
      have e3 : w.toInt * -a.toInt = -(w.toInt * a.toInt) := Int.mul_neg _ _
      rw [e3] at e1 e2
      omega
    have p1 : (w * a.toInt64).toInt = w.toInt * a.toInt := by rw [zmulJ (by rw [Int32.toInt_toInt64]; omega) (by rw [Int32.toInt_toInt64]; omega), Int32.toInt_toInt64]
    have p2 : (w * (zAb a).toInt64).toInt = -(w.toInt * a.toInt) := by rw [zmulJ (by rw [Int32.toInt_toInt64, ea2, Int.mul_neg]; omega) (by rw [Int32.toInt_toInt64, ea2, Int.mul_neg]; omega), Int32.toInt_toInt64, ea2, Int.mul_neg]
    refine Int64.toInt_inj.mp ?_
    rw [Int64.toInt_div, Int64.toInt_div, p1, p2, Int32.toInt_toInt64, Int32.toInt_toInt64, eb, Int.neg_tdiv_neg]
def zE1_closest (B c : Nat) (ι ι2 : Nat → Nat → Int32) (x y r : Int32) : Prop := ((ι2 = ι ∧ ¬ ((0 ≤ x.toInt ∧ x.toInt < (c : Int)) ∧ 0 ≤ y.toInt ∧ y.toInt ≤ 1) ∧ r = -2) ∨ (((0 ≤ x.toInt ∧ x.toInt < (c : Int)) ∧ 0 ≤ y.toInt ∧ y.toInt ≤ 1) ∧ zFsc B x.toNatClampNeg ι ι2 ∧ zPlC B c ι2 ∧ (0 ≤ (ι2 (B + 63 + 7 * x.toNatClampNeg) 10).toInt ∧ (ι2 (B + 63 + 7 * x.toNatClampNeg) 10).toInt ≤ (ι (B + 63 + 7 * x.toNatClampNeg + 1) 1).toInt) ∧ (((ι (B + 63 + 7 * x.toNatClampNeg + 1) 1).toInt < 2 ∧ r = -1) ∨ (2 ≤ (ι (B + 63 + 7 * x.toNatClampNeg + 1) 1).toInt ∧ ∃ f : Nat, zAm (fun k => (zAb (zPcv B ι x.toNatClampNeg (ι (B + 63 + 7 * x.toNatClampNeg + 2) (k + 1)) - zPcv B ι x.toNatClampNeg (ι (B + 63 + 7 * x.toNatClampNeg + 2) k))).toInt) ((ι (B + 63 + 7 * x.toNatClampNeg + 1) 1).toNatClampNeg - 1) f ∧ ((y.toInt = 0 ∧ r = ι (B + 63 + 7 * x.toNatClampNeg + 2) f) ∨ (y.toInt = 1 ∧ r.toInt = (fun k => (zAb (zPcv B ι x.toNatClampNeg (ι (B + 63 + 7 * x.toNatClampNeg + 2) (k + 1)) - zPcv B ι x.toNatClampNeg (ι (B + 63 + 7 * x.toNatClampNeg + 2) k))).toInt) f))))))
def zE2_closest (B c : Nat) (ι : Nat → Nat → Int32) (x y r : Int32) : Prop := ((¬ ((0 ≤ x.toInt ∧ x.toInt < (c : Int)) ∧ 0 ≤ y.toInt ∧ y.toInt ≤ 1) ∧ r = -2) ∨ (((0 ≤ x.toInt ∧ x.toInt < (c : Int)) ∧ 0 ≤ y.toInt ∧ y.toInt ≤ 1) ∧ ((zMk B ι x.toNatClampNeg (ι (B + 43) x.toNatClampNeg).toNatClampNeg < 2 ∧ r = -1) ∨ (2 ≤ zMk B ι x.toNatClampNeg (ι (B + 43) x.toNatClampNeg).toNatClampNeg ∧ ∃ f : Nat, zAm (fun k => (zAb (zPm B ι x ((ι (B + 63 + 7 * x.toNatClampNeg + 2)) (k + 1)) - zPm B ι x ((ι (B + 63 + 7 * x.toNatClampNeg + 2)) k))).toInt) ((zMk B ι x.toNatClampNeg (ι (B + 43) x.toNatClampNeg).toNatClampNeg).toNat - 1) f ∧ ((y.toInt = 0 ∧ r = (ι (B + 63 + 7 * x.toNatClampNeg + 2)) f) ∨ (y.toInt = 1 ∧ r.toInt = (fun k => (zAb (zPm B ι x ((ι (B + 63 + 7 * x.toNatClampNeg + 2)) (k + 1)) - zPm B ι x ((ι (B + 63 + 7 * x.toNatClampNeg + 2)) k))).toInt) f))))))
theorem zT1_closest {B c : Nat} {ι ι1 : Nat → Nat → Int32} {x y r : Int32} (hJ : zJ B c ι) (hR : zRQ B c ι) (h : zE1_closest B c ι ι1 x y r) : zJ B c ι1 ∧ zRQ B c ι1 := by
  rcases h with ⟨rfl, -, -⟩ | ⟨hQ, hF, hC, hb, -⟩
  · exact ⟨hJ, hR⟩
  · exact zT1_fs hJ hR (by have := zclN hQ.1.1; have := hQ.1.2; omega) hF hC hb
theorem zT_closest {B c : Nat} {ι ι1 : Nat → Nat → Int32} {x y r1 r2 : Int32} (hJ : zJ B c ι) (hR : zRQ B c ι) (hJ1 : zJ B c ι1) (hR1 : zRQ B c ι1) (h1 : zE1_closest B c ι ι1 x y r1) (h2 : zE2_closest B c ι1 x y r2) : r1 = r2 := by
  rcases h1 with ⟨rfl, h0, rfl⟩ | ⟨hQ, hF, hC, hb, h1⟩ <;> rcases h2 with ⟨g0, rfl⟩ | ⟨gQ, h2⟩
  · rfl
  · exact absurd gQ h0
  · exact absurd hQ g0
  · have hx := hQ.1
    have hxn := zclN hx.1
    have hj : x.toNatClampNeg < c := by omega
    have hM : ι (B + 63 + 7 * x.toNatClampNeg + 2) = ι1 (B + 63 + 7 * x.toNatClampNeg + 2) := (hF.1 _ (by omega) (by omega)).symm
    have hN1 := (hR1.1.1.1.2.2.2.2 x.toNatClampNeg hj).2.2.2.2.2.1
    have hN : (ι (B + 63 + 7 * x.toNatClampNeg + 1) 1).toInt = zMk B ι1 x.toNatClampNeg (ι1 (B + 43) x.toNatClampNeg).toNatClampNeg := by rw [← hN1, hF.1 (B + 63 + 7 * x.toNatClampNeg + 1) (by omega) (by omega)]
    have hn0 := (hJ.2.1.2.2.2.2 x.toNatClampNeg hj).1.1
    have hnc := zclN hn0
    have hP : ∀ k, zPcv B ι x.toNatClampNeg (ι (B + 63 + 7 * x.toNatClampNeg + 2) k) = zPm B ι1 x (ι1 (B + 63 + 7 * x.toNatClampNeg + 2) k) := fun k => by rw [hM, ← zPcv_fs hF]; exact zP_eq hR1.1 hx _
    simp only [hP] at h1
    try dsimp only at h1 h2
    rcases h1 with ⟨h1, rfl⟩ | ⟨h1, f, h3, h4⟩ <;> rcases h2 with ⟨g1, rfl⟩ | ⟨g1, f2, g3, g4⟩
    · rfl
    · omega
    · omega
    · have ef : f = f2 := zAm_u h3 (by rw [show (ι (B + 63 + 7 * x.toNatClampNeg + 1) 1).toNatClampNeg - 1 = (zMk B ι1 x.toNatClampNeg (ι1 (B + 43) x.toNatClampNeg).toNatClampNeg).toNat - 1 by omega]; exact g3)
      subst ef
      rcases h4 with ⟨y0, rfl⟩ | ⟨y1, h4⟩ <;> rcases g4 with ⟨z0, rfl⟩ | ⟨z1, g4⟩
      · rw [hM]
      · omega
      · omega
      · exact Int32.toInt_inj.mp (h4.trans g4.symm)
def zE1_nearest (B c : Nat) (ι ι2 : Nat → Nat → Int32) (x y r : Int32) : Prop := ((ι2 = ι ∧ ¬ ((0 ≤ x.toInt ∧ x.toInt < (c : Int)) ∧ -1000000 ≤ y.toInt ∧ y.toInt ≤ 1000000) ∧ r = -2) ∨ (((0 ≤ x.toInt ∧ x.toInt < (c : Int)) ∧ -1000000 ≤ y.toInt ∧ y.toInt ≤ 1000000) ∧ zFsc B x.toNatClampNeg ι ι2 ∧ zPlC B c ι2 ∧ (0 ≤ (ι2 (B + 63 + 7 * x.toNatClampNeg) 10).toInt ∧ (ι2 (B + 63 + 7 * x.toNatClampNeg) 10).toInt ≤ (ι (B + 63 + 7 * x.toNatClampNeg + 1) 1).toInt) ∧ (((ι (B + 63 + 7 * x.toNatClampNeg + 1) 1).toInt ≤ 0 ∧ r = -1) ∨ (0 < (ι (B + 63 + 7 * x.toNatClampNeg + 1) 1).toInt ∧ ∃ f : Nat, zAm (fun k => (zAb (zPcv B ι x.toNatClampNeg (ι (B + 63 + 7 * x.toNatClampNeg + 2) k) - y)).toInt) (ι (B + 63 + 7 * x.toNatClampNeg + 1) 1).toNatClampNeg f ∧ r = ι (B + 63 + 7 * x.toNatClampNeg + 2) f))))
def zE2_nearest (B c : Nat) (ι : Nat → Nat → Int32) (x y r : Int32) : Prop := ((¬ ((0 ≤ x.toInt ∧ x.toInt < (c : Int)) ∧ -1000000 ≤ y.toInt ∧ y.toInt ≤ 1000000) ∧ r = -2) ∨ (((0 ≤ x.toInt ∧ x.toInt < (c : Int)) ∧ -1000000 ≤ y.toInt ∧ y.toInt ≤ 1000000) ∧ ((zMk B ι x.toNatClampNeg (ι (B + 43) x.toNatClampNeg).toNatClampNeg ≤ 0 ∧ r = -1) ∨ (0 < zMk B ι x.toNatClampNeg (ι (B + 43) x.toNatClampNeg).toNatClampNeg ∧ ∃ f : Nat, zAm (fun k => (zAb (zPm B ι x ((ι (B + 63 + 7 * x.toNatClampNeg + 2)) k) - y)).toInt) (zMk B ι x.toNatClampNeg (ι (B + 43) x.toNatClampNeg).toNatClampNeg).toNat f ∧ r = (ι (B + 63 + 7 * x.toNatClampNeg + 2)) f))))
theorem zT1_nearest {B c : Nat} {ι ι1 : Nat → Nat → Int32} {x y r : Int32} (hJ : zJ B c ι) (hR : zRQ B c ι) (h : zE1_nearest B c ι ι1 x y r) : zJ B c ι1 ∧ zRQ B c ι1 := by
  rcases h with ⟨rfl, -, -⟩ | ⟨hQ, hF, hC, hb, -⟩
  · exact ⟨hJ, hR⟩
  · exact zT1_fs hJ hR (by have := zclN hQ.1.1; have := hQ.1.2; omega) hF hC hb
theorem zT_nearest {B c : Nat} {ι ι1 : Nat → Nat → Int32} {x y r1 r2 : Int32} (hJ : zJ B c ι) (hR : zRQ B c ι) (hJ1 : zJ B c ι1) (hR1 : zRQ B c ι1) (h1 : zE1_nearest B c ι ι1 x y r1) (h2 : zE2_nearest B c ι1 x y r2) : r1 = r2 := by
  rcases h1 with ⟨rfl, h0, rfl⟩ | ⟨hQ, hF, hC, hb, h1⟩ <;> rcases h2 with ⟨g0, rfl⟩ | ⟨gQ, h2⟩
  · rfl
  · exact absurd gQ h0
  · exact absurd hQ g0
  · have hx := hQ.1
    have hxn := zclN hx.1
    have hj : x.toNatClampNeg < c := by omega
    have hM : ι (B + 63 + 7 * x.toNatClampNeg + 2) = ι1 (B + 63 + 7 * x.toNatClampNeg + 2) := (hF.1 _ (by omega) (by omega)).symm
    have hN1 := (hR1.1.1.1.2.2.2.2 x.toNatClampNeg hj).2.2.2.2.2.1
    have hN : (ι (B + 63 + 7 * x.toNatClampNeg + 1) 1).toInt = zMk B ι1 x.toNatClampNeg (ι1 (B + 43) x.toNatClampNeg).toNatClampNeg := by rw [← hN1, hF.1 (B + 63 + 7 * x.toNatClampNeg + 1) (by omega) (by omega)]
    have hn0 := (hJ.2.1.2.2.2.2 x.toNatClampNeg hj).1.1
    have hnc := zclN hn0
    have hP : ∀ k, zPcv B ι x.toNatClampNeg (ι (B + 63 + 7 * x.toNatClampNeg + 2) k) = zPm B ι1 x (ι1 (B + 63 + 7 * x.toNatClampNeg + 2) k) := fun k => by rw [hM, ← zPcv_fs hF]; exact zP_eq hR1.1 hx _
    simp only [hP] at h1
    try dsimp only at h1 h2
    rcases h1 with ⟨h1, rfl⟩ | ⟨h1, f, h3, rfl⟩ <;> rcases h2 with ⟨g1, rfl⟩ | ⟨g1, f2, g3, rfl⟩
    · rfl
    · omega
    · omega
    · have ef : f = f2 := zAm_u h3 (by rw [show (ι (B + 63 + 7 * x.toNatClampNeg + 1) 1).toNatClampNeg = (zMk B ι1 x.toNatClampNeg (ι1 (B + 43) x.toNatClampNeg).toNatClampNeg).toNat by omega]; exact g3)
      rw [ef, hM]
def zE1_between (B c : Nat) (ι ι2 : Nat → Nat → Int32) (x y r : Int32) : Prop := ((ι2 = ι ∧ ¬ ((0 ≤ x.toInt ∧ x.toInt < (c : Int)) ∧ -1000000 ≤ y.toInt ∧ y.toInt ≤ 1000000) ∧ r = -2) ∨ (((0 ≤ x.toInt ∧ x.toInt < (c : Int)) ∧ -1000000 ≤ y.toInt ∧ y.toInt ≤ 1000000) ∧ zFsc B x.toNatClampNeg ι ι2 ∧ zPlC B c ι2 ∧ (0 ≤ (ι2 (B + 63 + 7 * x.toNatClampNeg) 10).toInt ∧ (ι2 (B + 63 + 7 * x.toNatClampNeg) 10).toInt ≤ (ι (B + 63 + 7 * x.toNatClampNeg + 1) 1).toInt) ∧ ((r = -1 ∧ ∀ k : Nat, (k : Int) + 1 < (ι (B + 63 + 7 * x.toNatClampNeg + 1) 1).toInt → ¬ zBw (fun k => zPcv B ι x.toNatClampNeg (ι (B + 63 + 7 * x.toNatClampNeg + 2) k)) y k) ∨ ∃ f : Nat, (f : Int) + 1 < (ι (B + 63 + 7 * x.toNatClampNeg + 1) 1).toInt ∧ zFi (zBw (fun k => zPcv B ι x.toNatClampNeg (ι (B + 63 + 7 * x.toNatClampNeg + 2) k)) y) ((ι (B + 63 + 7 * x.toNatClampNeg + 1) 1).toNatClampNeg - 1) f ∧ r = ι (B + 63 + 7 * x.toNatClampNeg + 2) f + ((ι (B + 63 + 7 * x.toNatClampNeg + 2) (f + 1) - ι (B + 63 + 7 * x.toNatClampNeg + 2) f).toInt64 * (y - zPcv B ι x.toNatClampNeg (ι (B + 63 + 7 * x.toNatClampNeg + 2) f)).toInt64 / (zPcv B ι x.toNatClampNeg (ι (B + 63 + 7 * x.toNatClampNeg + 2) (f + 1)) - zPcv B ι x.toNatClampNeg (ι (B + 63 + 7 * x.toNatClampNeg + 2) f)).toInt64).toInt32)))
def zE2_between (B c : Nat) (ι : Nat → Nat → Int32) (x y r : Int32) : Prop := ((¬ ((0 ≤ x.toInt ∧ x.toInt < (c : Int)) ∧ -1000000 ≤ y.toInt ∧ y.toInt ≤ 1000000) ∧ r = -2) ∨ (((0 ≤ x.toInt ∧ x.toInt < (c : Int)) ∧ -1000000 ≤ y.toInt ∧ y.toInt ≤ 1000000) ∧ ((r = -1 ∧ ∀ k : Nat, (k : Int) + 1 < zMk B ι x.toNatClampNeg (ι (B + 43) x.toNatClampNeg).toNatClampNeg → ¬ zBw (fun k => zPm B ι x ((ι (B + 63 + 7 * x.toNatClampNeg + 2)) k)) y k) ∨ ∃ f : Nat, (f : Int) + 1 < zMk B ι x.toNatClampNeg (ι (B + 43) x.toNatClampNeg).toNatClampNeg ∧ zFi (zBw (fun k => zPm B ι x ((ι (B + 63 + 7 * x.toNatClampNeg + 2)) k)) y) ((zMk B ι x.toNatClampNeg (ι (B + 43) x.toNatClampNeg).toNatClampNeg).toNat - 1) f ∧ r = (ι (B + 63 + 7 * x.toNatClampNeg + 2)) f + (((ι (B + 63 + 7 * x.toNatClampNeg + 2)) (f + 1) - (ι (B + 63 + 7 * x.toNatClampNeg + 2)) f).toInt64 * (zAb (y - zPm B ι x ((ι (B + 63 + 7 * x.toNatClampNeg + 2)) f))).toInt64 / (zAb (zPm B ι x ((ι (B + 63 + 7 * x.toNatClampNeg + 2)) (f + 1)) - zPm B ι x ((ι (B + 63 + 7 * x.toNatClampNeg + 2)) f))).toInt64).toInt32)))
theorem zT1_between {B c : Nat} {ι ι1 : Nat → Nat → Int32} {x y r : Int32} (hJ : zJ B c ι) (hR : zRQ B c ι) (h : zE1_between B c ι ι1 x y r) : zJ B c ι1 ∧ zRQ B c ι1 := by
  rcases h with ⟨rfl, -, -⟩ | ⟨hQ, hF, hC, hb, -⟩
  · exact ⟨hJ, hR⟩
  · exact zT1_fs hJ hR (by have := zclN hQ.1.1; have := hQ.1.2; omega) hF hC hb
theorem zT_between {B c : Nat} {ι ι1 : Nat → Nat → Int32} {x y r1 r2 : Int32} (hJ : zJ B c ι) (hR : zRQ B c ι) (hJ1 : zJ B c ι1) (hR1 : zRQ B c ι1) (h1 : zE1_between B c ι ι1 x y r1) (h2 : zE2_between B c ι1 x y r2) : r1 = r2 := by
  rcases h1 with ⟨rfl, h0, rfl⟩ | ⟨hQ, hF, hC, hb, h1⟩ <;> rcases h2 with ⟨g0, rfl⟩ | ⟨gQ, h2⟩
  · rfl
  · exact absurd gQ h0
  · exact absurd hQ g0
  · have hx := hQ.1
    have hxn := zclN hx.1
    have hj : x.toNatClampNeg < c := by omega
    have hM : ι (B + 63 + 7 * x.toNatClampNeg + 2) = ι1 (B + 63 + 7 * x.toNatClampNeg + 2) := (hF.1 _ (by omega) (by omega)).symm
    have hN1 := (hR1.1.1.1.2.2.2.2 x.toNatClampNeg hj).2.2.2.2.2.1
    have hN : (ι (B + 63 + 7 * x.toNatClampNeg + 1) 1).toInt = zMk B ι1 x.toNatClampNeg (ι1 (B + 43) x.toNatClampNeg).toNatClampNeg := by rw [← hN1, hF.1 (B + 63 + 7 * x.toNatClampNeg + 1) (by omega) (by omega)]
    have hn0 := (hJ.2.1.2.2.2.2 x.toNatClampNeg hj).1.1
    have hnc := zclN hn0
    have hP : ∀ k, zPcv B ι x.toNatClampNeg (ι (B + 63 + 7 * x.toNatClampNeg + 2) k) = zPm B ι1 x (ι1 (B + 63 + 7 * x.toNatClampNeg + 2) k) := fun k => by rw [hM, ← zPcv_fs hF]; exact zP_eq hR1.1 hx _
    simp only [hP] at h1
    try dsimp only at h1 h2
    rcases h1 with ⟨rfl, h1⟩ | ⟨f, h0, h3, rfl⟩ <;> rcases h2 with ⟨rfl, g1⟩ | ⟨f2, g0, g3, rfl⟩
    · rfl
    · exact absurd g3.2.1 (h1 f2 (by omega))
    · exact absurd h3.2.1 (g1 f (by omega))
    · have ef : f = f2 := zFi_u h3 (by rw [show (ι (B + 63 + 7 * x.toNatClampNeg + 1) 1).toNatClampNeg - 1 = (zMk B ι1 x.toNatClampNeg (ι1 (B + 43) x.toNatClampNeg).toNatClampNeg).toNat - 1 by omega]; exact g3)
      subst ef
      have hm1 := zMn_of hJ1 hR1.1 x.toNatClampNeg hj f (by rw [hN1]; omega)
      have hm2 := zMn_of hJ1 hR1.1 x.toNatClampNeg hj (f + 1) (by rw [hN1]; omega)
      have p1 := zPm_b hJ1 hx hm1 (zst_of hR1.1)
      have p2 := zPm_b hJ1 hx hm2 (zst_of hR1.1)
      have hbw := g3.2.1
      rw [hM]
      have hq := hbw.2
      have hne : ¬ (zPm B ι1 x (ι1 (B + 63 + 7 * x.toNatClampNeg + 2) f)).toInt = (zPm B ι1 x (ι1 (B + 63 + 7 * x.toNatClampNeg + 2) (f + 1))).toInt := fun q => hbw.1 (Int32.toInt_inj.mp q)
      have s1 : (ι1 (B + 63 + 7 * x.toNatClampNeg + 2) (f + 1) - ι1 (B + 63 + 7 * x.toNatClampNeg + 2) f).toInt = (ι1 (B + 63 + 7 * x.toNatClampNeg + 2) (f + 1)).toInt - (ι1 (B + 63 + 7 * x.toNatClampNeg + 2) f).toInt := zsubI (by omega) (by omega)
      have hq2 : ((zPm B ι1 x (ι1 (B + 63 + 7 * x.toNatClampNeg + 2) f)).toInt ≤ y.toInt ∧ y.toInt ≤ (zPm B ι1 x (ι1 (B + 63 + 7 * x.toNatClampNeg + 2) (f + 1))).toInt) ∨ ((zPm B ι1 x (ι1 (B + 63 + 7 * x.toNatClampNeg + 2) (f + 1))).toInt ≤ y.toInt ∧ y.toInt ≤ (zPm B ι1 x (ι1 (B + 63 + 7 * x.toNatClampNeg + 2) f)).toInt) := hq
      have hy := hQ.2
      generalize zPm B ι1 x (ι1 (B + 63 + 7 * x.toNatClampNeg + 2) f) = P at *
      generalize zPm B ι1 x (ι1 (B + 63 + 7 * x.toNatClampNeg + 2) (f + 1)) = P2 at *
      have s2 : (y - P).toInt = y.toInt - P.toInt := zsubI (by omega) (by omega)
      have s3 : (P2 - P).toInt = P2.toInt - P.toInt := zsubI (by omega) (by omega)
      rw [zdvb (a := y - P) (b := P2 - P) (by rw [Int32.toInt_toInt64, s1]; omega) (by omega) (by omega) (by omega)]
