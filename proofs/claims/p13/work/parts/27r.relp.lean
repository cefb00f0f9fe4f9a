/-! PLACES alike (wip/genp/spec_ra.py) -/
/-- what PLACES read, FOLDS of the class aside -/
def zPs (B b k : Nat) : Prop := b = B + 58 ∨ (b = B + 38 ∧ (k = 24 ∨ k = 10)) ∨ b = B + 40 ∨ b = B + 41 ∨ (b = B ∧ k = 11)
theorem zPsM_fr {B c : Nat} {ι ι2 : Nat → Nat → Int32} (hM : zPsM B c ι) (h : ∀ b k, zPs B b k → ι2 b k = ι b k) : zPsM B c ι2 := by
  intro j v hj h0 h1
  unfold zNv
  rw [h (B + 58) _ (by unfold zPs; omega), h (B + 38) 24 (by unfold zPs; omega), h (B + 41) j (by unfold zPs; omega), h (B + 40) j (by unfold zPs; omega)]
  exact hM j v hj h0 h1
/-- what both sides have in common, PLACES with it -/
def zRP (B c : Nat) (ι : Nat → Nat → Int32) : Prop := zRl B c ι ∧ (∀ j, j < c → ι (B + 63 + 7 * j) 2 = ι (B + 41) j) ∧ ι B 11 = ι (B + 38) 10 ∧ zPsM B c ι
theorem zRP_fr {B c : Nat} {ι ι2 : Nat → Nat → Int32} (hR : zRP B c ι) (hl : zRl B c ι2) (h : ∀ b k, zPs B b k → ι2 b k = ι b k) (hf : ∀ j, j < c → ι2 (B + 63 + 7 * j) 2 = ι (B + 63 + 7 * j) 2) : zRP B c ι2 :=
  ⟨hl, fun j hj => by rw [hf j hj, h (B + 41) j (by unfold zPs; omega)]; exact hR.2.1 j hj, by rw [h B 11 (by unfold zPs; omega), h (B + 38) 10 (by unfold zPs; omega)]; exact hR.2.2.1, zPsM_fr hR.2.2.2 h⟩
theorem zPF_of {B c : Nat} {ι : Nat → Nat → Int32} (hJ : zJ B c ι) (hR : zRP B c ι) : zPF B c ι := by
  refine ⟨hR.1.1.1.2, fun j hj => ?_⟩
  obtain ⟨hp, hf, -, -⟩ := hJ.2.2.2.2.2.2 j hj
  obtain ⟨-, a2, -⟩ := hR.1.1.2.2.2.2 j hj
  rw [a2, hR.2.1 j hj]
  exact ⟨hp, hf⟩
theorem zst_of {B c : Nat} {ι : Nat → Nat → Int32} (hR : zRP B c ι) : 100 ≤ (ι (B + 38) 0).toInt ∧ (ι (B + 38) 0).toInt ≤ 50000 := by
  rw [← hR.1.1.1.1]
  exact hR.1.1.1.2
/-- the PLACES of both sides -/
theorem zP_eq {B c : Nat} {ι : Nat → Nat → Int32} {x : Int32} (hR : zRP B c ι) (hx : 0 ≤ x.toInt ∧ x.toInt < (c : Int)) (y : Int32) : zPcv B ι x.toNatClampNeg y = zPm B ι x y := by
  have hn := zclN hx.1
  obtain ⟨-, a2, a3, -⟩ := hR.1.1.2.2.2.2 x.toNatClampNeg (by omega)
  unfold zPcv zPm zPz zNv
  rw [a2, a3, hR.2.1 x.toNatClampNeg (by omega), hR.1.1.1.1]
/-- questions -/
def zEdp (B : Nat) (ι ι1 : Nat → Nat → Int32) : Prop := ∀ b k, ¬ zCc B b k → ι1 b k = ι b k
def zFdp (B c : Nat) (ι ι1 : Nat → Nat → Int32) : Prop := zFm B ι ι1 ∨ (zFq B ι ι1 ∧ zPsM B c ι1)
theorem zRP_q {B c : Nat} {ι ι1 ι2 : Nat → Nat → Int32} (hJ : zJ B c ι) (hR : zRP B c ι) (h1 : zEdp B ι ι1) (h2 : zFdp B c ι1 ι2) : zRP B c ι2 := by
  have hl : zRl B c ι2 := zRl_q hJ hR.1 (fun b k q _ => h1 b k (fun q2 => q (by unfold zCcw; unfold zCc at q2; omega))) (by
    rcases h2 with h2 | h2
    · exact zFo_q h2
    · exact zFo_p h2.1)
  have hR1 : (∀ b k, zPs B b k → ι1 b k = ι b k) ∧ ∀ j, j < c → ι1 (B + 63 + 7 * j) 2 = ι (B + 63 + 7 * j) 2 := ⟨fun b k q => h1 b k (by unfold zPs at q; unfold zCc; omega), fun j _ => h1 _ _ (by unfold zCc; omega)⟩
  rcases h2 with h2 | ⟨h2, h3⟩
  · exact zRP_fr hR hl (fun b k q => by rw [h2 b k (by unfold zPs at q; unfold zCm; omega)]; exact hR1.1 b k q) (fun j hj => by rw [h2 _ _ (by unfold zCm; omega)]; exact hR1.2 j hj)
  · refine ⟨hl, fun j hj => ?_, ?_, h3⟩
    · rw [h2 _ _ (by unfold zCq; omega), h2 _ _ (by unfold zCq; omega), hR1.2 j hj, hR1.1 _ _ (by unfold zPs; omega)]
      exact hR.2.1 j hj
    · rw [h2 _ _ (by unfold zCq; omega), h2 _ _ (by unfold zCq; omega), hR1.1 _ _ (by unfold zPs; omega), hR1.1 _ _ (by unfold zPs; omega)]
      exact hR.2.2.1
theorem zEdp_q {B c : Nat} {ι ι1 : Nat → Nat → Int32} (h : zFc B c ι ι1) : zEdp B ι ι1 := fun b k q => h.1 b k q
theorem zEdp_s {B : Nat} {ι : Nat → Nat → Int32} : zEdp B ι ι := fun _ _ _ => rfl
theorem zFdp_q {B c : Nat} {ι ι1 : Nat → Nat → Int32} (h : zFm B ι ι1) : zFdp B c ι ι1 := Or.inl h
theorem zFdp_s {B c : Nat} {ι : Nat → Nat → Int32} : zFdp B c ι ι := Or.inl zFm.rfl
/-- the store of PLACES after a question of the class -/
theorem zPsM_1 {B c : Nat} {ι ι1 : Nat → Nat → Int32} (hR : zRP B c ι) (h1 : zEdp B ι ι1) : (100 ≤ (ι1 (B + 38) 0).toInt ∧ (ι1 (B + 38) 0).toInt ≤ 50000) ∧ zPsM B c ι1 := by
  refine ⟨?_, zPsM_fr hR.2.2.2 (fun b k q => h1 b k (by unfold zPs at q; unfold zCc; omega))⟩
  rw [h1 _ _ (by unfold zCc; omega)]
  exact zst_of hR
/-- OFF is told -/
theorem zRP_off {B c : Nat} {ι ι1 ι2 : Nat → Nat → Int32} {v : Int32} (hR : zRP B c ι) (hJ : zJ B c ι) (h1 : ι1 = zu ι B 11 v) (hq : zFq B ι1 ι2) (hM : zPsM B c ι2) : zRP B c (zu ι2 (B + 38) 10 v) := by
  have e : ∀ b k, ¬ (b = B ∧ k = 11) → ¬ zCq B b k → ¬ (b = B + 38 ∧ k = 10) → zu ι2 (B + 38) 10 v b k = ι b k := fun b k q1 q2 q3 => by rw [zuo q3, hq b k q2, h1, zuo q1]
  refine ⟨⟨zRel_fr hJ hR.1.1 (fun b k q => e b k (by unfold zRd at q; omega) (by unfold zRd at q; unfold zCq; omega) (by unfold zRd at q; omega)), zPq_fr hR.1.2 (fun b k q => e b k (by unfold zPb at q; omega) (by unfold zPb at q; unfold zCq; omega) (by unfold zPb at q; omega))⟩, fun j hj => ?_, ?_, ?_⟩
  · rw [e _ _ (by omega) (by unfold zCq; omega) (by omega), e _ _ (by omega) (by unfold zCq; omega) (by omega)]
    exact hR.2.1 j hj
  · rw [zu_s, zuo (by omega), hq _ _ (by unfold zCq; omega), h1, zu_s]
  · intro j w hj h0 h9
    unfold zNv
    rw [zuo (by omega), zuo (by omega), zuo (by omega), zuo (by omega)]
    exact hM j w hj h0 h9
theorem zS1_rule {B : Nat} {ι ι1 : Nat → Nat → Int32} {r1 : Int32} {x : Int32} (h : zD1_rule B ι ι1 x r1) : ∀ b k, (zPs B b k ∨ (B + 63 ≤ b ∧ k = 2)) → ι1 b k = ι b k := by
  rcases h with ⟨-, -, rfl⟩ | ⟨-, -, rfl⟩ <;> intro b k q <;> unfold zPs at q
  · rfl
  · rw [zuo (by omega)]
theorem zS2_rule {B : Nat} {ι1 ι2 : Nat → Nat → Int32} {r2 : Int32} {x : Int32} (h : zD2_rule B ι1 ι2 x r2) : ∀ b k, (zPs B b k ∨ (B + 63 ≤ b ∧ k = 2)) → ι2 b k = ι1 b k := by
  rcases h with ⟨-, -, rfl⟩ | ⟨-, -, rfl⟩ <;> intro b k q <;> unfold zPs at q
  · rfl
  · rw [zuo (by omega)]
theorem zSP_rule {B c : Nat} {ι ι1 ι2 : Nat → Nat → Int32} {r1 r2 : Int32} {x : Int32} (hR : zRP B c ι) (hl : zRl B c ι2) (h1 : zD1_rule B ι ι1 x r1) (h2 : zD2_rule B ι1 ι2 x r2) : zRP B c ι2 := zRP_fr hR hl (fun b k q => (zS2_rule h2 b k (Or.inl q)).trans (zS1_rule h1 b k (Or.inl q))) (fun j _ => (zS2_rule h2 _ 2 (Or.inr ⟨by omega, rfl⟩)).trans (zS1_rule h1 _ 2 (Or.inr ⟨by omega, rfl⟩)))
theorem zS1_factor {B : Nat} {ι ι1 : Nat → Nat → Int32} {r1 : Int32} {x : Int32} (h : zD1_factor B ι ι1 x r1) : ∀ b k, (zPs B b k ∨ (B + 63 ≤ b ∧ k = 2)) → ι1 b k = ι b k := by
  rcases h with ⟨-, -, rfl⟩ | ⟨-, -, -, rfl⟩ | ⟨-, -, -, rfl⟩ <;> intro b k q <;> unfold zPs at q
  · rfl
  · rfl
  · rw [zuo (by omega), zuo (by omega)]
theorem zS2_factor {B : Nat} {ι1 ι2 : Nat → Nat → Int32} {r2 : Int32} {x : Int32} (h : zD2_factor B ι1 ι2 x r2) : ∀ b k, (zPs B b k ∨ (B + 63 ≤ b ∧ k = 2)) → ι2 b k = ι1 b k := by
  rcases h with ⟨-, -, rfl⟩ | ⟨-, -, -, rfl⟩ | ⟨-, -, -, rfl⟩ <;> intro b k q <;> unfold zPs at q
  · rfl
  · rfl
  · rw [zuo (by omega), zuo (by omega)]
theorem zSP_factor {B c : Nat} {ι ι1 ι2 : Nat → Nat → Int32} {r1 r2 : Int32} {x : Int32} (hR : zRP B c ι) (hl : zRl B c ι2) (h1 : zD1_factor B ι ι1 x r1) (h2 : zD2_factor B ι1 ι2 x r2) : zRP B c ι2 := zRP_fr hR hl (fun b k q => (zS2_factor h2 b k (Or.inl q)).trans (zS1_factor h1 b k (Or.inl q))) (fun j _ => (zS2_factor h2 _ 2 (Or.inr ⟨by omega, rfl⟩)).trans (zS1_factor h1 _ 2 (Or.inr ⟨by omega, rfl⟩)))
theorem zS1_clear {B : Nat} {ι ι1 : Nat → Nat → Int32} {r1 : Int32}  (h : zD1_clear B ι ι1 r1) : ∀ b k, (zPs B b k ∨ (B + 63 ≤ b ∧ k = 2)) → ι1 b k = ι b k := by
  obtain ⟨-, rfl⟩ := h
  intro b k q
  unfold zPs at q
  rw [zuo (by omega)]
theorem zS2_clear {B : Nat} {ι1 ι2 : Nat → Nat → Int32} {r2 : Int32}  (h : zD2_clear B ι1 ι2 r2) : ∀ b k, (zPs B b k ∨ (B + 63 ≤ b ∧ k = 2)) → ι2 b k = ι1 b k := by
  obtain ⟨-, rfl⟩ := h
  intro b k q
  unfold zPs at q
  rw [zuo (by omega)]
theorem zSP_clear {B c : Nat} {ι ι1 ι2 : Nat → Nat → Int32} {r1 r2 : Int32}  (hR : zRP B c ι) (hl : zRl B c ι2) (h1 : zD1_clear B ι ι1 r1) (h2 : zD2_clear B ι1 ι2 r2) : zRP B c ι2 := zRP_fr hR hl (fun b k q => (zS2_clear h2 b k (Or.inl q)).trans (zS1_clear h1 b k (Or.inl q))) (fun j _ => (zS2_clear h2 _ 2 (Or.inr ⟨by omega, rfl⟩)).trans (zS1_clear h1 _ 2 (Or.inr ⟨by omega, rfl⟩)))
theorem zS1_cut {B : Nat} {ι ι1 : Nat → Nat → Int32} {r1 : Int32} {x y : Int32} (h : zD1_cut B ι ι1 x y r1) : ∀ b k, (zPs B b k ∨ (B + 63 ≤ b ∧ k = 2)) → ι1 b k = ι b k := by
  rcases h with ⟨-, -, rfl⟩ | ⟨-, -, -, rfl⟩ | ⟨hP, -, -, rfl⟩ <;> intro b k q <;> unfold zPs at q
  · rfl
  · rfl
  · have hx2 := zclN hP.1.1
    have hx3 := hP.1.2
    rw [zuo (by omega), zuo (by omega)]
theorem zS2_cut {B : Nat} {ι1 ι2 : Nat → Nat → Int32} {r2 : Int32} {x y : Int32} (h : zD2_cut B ι1 ι2 x y r2) : ∀ b k, (zPs B b k ∨ (B + 63 ≤ b ∧ k = 2)) → ι2 b k = ι1 b k := by
  rcases h with ⟨-, -, rfl⟩ | ⟨-, -, -, rfl⟩ | ⟨-, -, -, rfl⟩ <;> intro b k q <;> unfold zPs at q
  · rfl
  · rfl
  · rw [zuo (by omega), zuo (by omega)]
theorem zSP_cut {B c : Nat} {ι ι1 ι2 : Nat → Nat → Int32} {r1 r2 : Int32} {x y : Int32} (hR : zRP B c ι) (hl : zRl B c ι2) (h1 : zD1_cut B ι ι1 x y r1) (h2 : zD2_cut B ι1 ι2 x y r2) : zRP B c ι2 := zRP_fr hR hl (fun b k q => (zS2_cut h2 b k (Or.inl q)).trans (zS1_cut h1 b k (Or.inl q))) (fun j _ => (zS2_cut h2 _ 2 (Or.inr ⟨by omega, rfl⟩)).trans (zS1_cut h1 _ 2 (Or.inr ⟨by omega, rfl⟩)))
theorem zS1_wipe {B : Nat} {ι ι1 : Nat → Nat → Int32} {r1 : Int32} {x : Int32} (h : zD1_wipe B ι ι1 x r1) : ∀ b k, (zPs B b k ∨ (B + 63 ≤ b ∧ k = 2)) → ι1 b k = ι b k := by
  rcases h with ⟨-, -, rfl⟩ | ⟨-, -, rfl⟩ <;> intro b k q <;> unfold zPs at q
  · rfl
  · rw [zuo (by omega)]
theorem zS2_wipe {B : Nat} {ι1 ι2 : Nat → Nat → Int32} {r2 : Int32} {x : Int32} (h : zD2_wipe B ι1 ι2 x r2) : ∀ b k, (zPs B b k ∨ (B + 63 ≤ b ∧ k = 2)) → ι2 b k = ι1 b k := by
  rcases h with ⟨-, -, rfl⟩ | ⟨-, -, rfl⟩ <;> intro b k q <;> unfold zPs at q
  · rfl
  · rw [zuo (by omega)]
theorem zSP_wipe {B c : Nat} {ι ι1 ι2 : Nat → Nat → Int32} {r1 r2 : Int32} {x : Int32} (hR : zRP B c ι) (hl : zRl B c ι2) (h1 : zD1_wipe B ι ι1 x r1) (h2 : zD2_wipe B ι1 ι2 x r2) : zRP B c ι2 := zRP_fr hR hl (fun b k q => (zS2_wipe h2 b k (Or.inl q)).trans (zS1_wipe h1 b k (Or.inl q))) (fun j _ => (zS2_wipe h2 _ 2 (Or.inr ⟨by omega, rfl⟩)).trans (zS1_wipe h1 _ 2 (Or.inr ⟨by omega, rfl⟩)))
theorem zSP_span {B c : Nat} {ι ι1 ι2 : Nat → Nat → Int32} {r1 r2 : Int32} {x y u w : Int32} (hJ : zJ B c ι) (hR : zRP B c ι) (hl : zRl B c ι2) (h1 : zD1_span B ι ι1 c x y u w r1) (h2 : zD2_span B ι1 ι2 c x y u w r2) : zRP B c ι2 := by
  have hm := (zT1_span hJ h1).2
  have f1 : ∀ j, j < c → ι1 (B + 63 + 7 * j) 2 = ι (B + 63 + 7 * j) 2 := by
    rcases h1 with ⟨-, -, rfl⟩ | ⟨-, -, -, rfl⟩ | ⟨-, -, -, -, rfl⟩ | ⟨hP, -, hF, -, f1, -, f3, -, -⟩ <;> intro j hj
    · rfl
    · rfl
    · rfl
    · rw [f1 _ (by omega) (by omega), zuo (by omega), zuo (by omega), zuo (by omega), zuo (by omega)]
  have f2 : ∀ b k, ¬ (B + 43 ≤ b ∧ b ≤ B + 46) → ι2 b k = ι1 b k := by
    rcases h2 with ⟨-, -, rfl⟩ | ⟨-, -, -, rfl⟩ | ⟨-, -, -, -, rfl⟩ | ⟨-, -, -, -, rfl⟩ <;> intro b k q
    · rfl
    · rfl
    · rfl
    · rw [zuo (by omega), zuo (by omega), zuo (by omega), zuo (by omega)]
  exact zRP_fr hR hl (fun b k q => by rw [f2 b k (by unfold zPs at q; omega), hm b (by unfold zPs at q; omega)]) (fun j hj => by rw [f2 _ _ (by omega), f1 j hj])
/-- a new SCALE: c grows -/
theorem zSP_scale {B c : Nat} {ι ι1 ι2 : Nat → Nat → Int32} {r1 r2 : Int32} {x y u w : Int32} (hJ : zJ B c ι) (hR : zRP B c ι) (h1 : zD1_scale B ι ι1 c x y u w r1) (h2 : zD2_scale B ι1 ι2 c x y u w r2) {c2 : Nat} (hl : zRl B c2 ι2) (hc : (¬ (((1 ≤ y.toInt ∧ y.toInt ≤ 3) ∧ 10 ≤ u.toInt ∧ u.toInt ≤ 990) ∧ c < 8) ∧ c2 = c) ∨ ((((1 ≤ y.toInt ∧ y.toInt ≤ 3) ∧ 10 ≤ u.toInt ∧ u.toInt ≤ 990) ∧ c < 8) ∧ c2 = c + 1)) : zRP B c2 ι2 := by
  have hm1 := zT1_scale hJ hR.1.1 h1
  rcases h1 with ⟨h0, rfl, rfl⟩ | ⟨h0, h3, rfl, rfl⟩ | ⟨h0, h3, rfl, hi⟩ <;> rcases h2 with ⟨g0, rfl, rfl⟩ | ⟨g0, g3, rfl, rfl⟩ | ⟨g0, g3, rfl, hi2⟩
  · have e : c2 = c := by rcases hc with ⟨-, e⟩ | ⟨q, -⟩; exact e; exact absurd q.1 h0
    rw [e]; exact hR
  · exact absurd g0 h0
  · exact absurd g0 h0
  · exact absurd h0 g0
  · have e : c2 = c := by rcases hc with ⟨-, e⟩ | ⟨q, -⟩; exact e; omega
    rw [e]; exact hR
  · omega
  · exact absurd h0 g0
  · omega
  · have e : c2 = c + 1 := by rcases hc with ⟨q, -⟩ | ⟨-, e⟩; exact absurd ⟨h0, h3⟩ q; exact e
    subst e
    have hcn : (ι1 (B + 38) 1).toNatClampNeg = c := by have := hm1.1; have := zclN (i := ι1 (B + 38) 1) (by omega); omega
    rw [hcn] at hi2
    have fr : ∀ b k, b < B + 63 + 7 * c → ¬ (b = B ∧ k = 9) → ι1 b k = ι b k := fun b k q1 q2 => by rw [hi, zuo (by omega), iX7_B (by omega)]
    have g1 : ∀ b k, ¬ (b = B + 38 ∧ k = 1) → ¬ ((b = B + 39 ∨ b = B + 40 ∨ b = B + 41 ∨ b = B + 42) ∧ k = c) → ι2 b k = ι1 b k := fun b k q1 q2 => by rw [hi2, zuo (by omega), zuo (by omega), zuo (by omega), zuo (by omega), zuo (by omega)]
    have g41 : ι2 (B + 41) c = u := by rw [hi2, zuo (by omega), zuo (by omega), zu_s]
    have s2 : ι1 (B + 63 + 7 * c) 2 = u := by rw [hi, zuo (by omega)]; simp [iX7, iX6, zu]
    have hf : ∀ b k, b < B + 63 + 7 * c → ¬ (b = B ∧ k = 9) → ¬ (b = B + 38 ∧ k = 1) → ¬ ((b = B + 39 ∨ b = B + 40 ∨ b = B + 41 ∨ b = B + 42) ∧ k = c) → ι2 b k = ι b k := fun b k q1 q2 q3 q4 => by rw [g1 b k q3 q4, fr b k q1 q2]
    refine ⟨hl, fun j hj => ?_, ?_, fun j v hj v0 v1 => ?_⟩
    · by_cases q : j = c
      · rw [q, g41, g1 _ _ (by omega) (by omega), s2]
      · rw [hf _ _ (by omega) (by omega) (by omega) (by omega), hf _ _ (by omega) (by omega) (by omega) (by omega)]
        exact hR.2.1 j (by omega)
    · rw [hf _ _ (by omega) (by omega) (by omega) (by omega), hf _ _ (by omega) (by omega) (by omega) (by omega)]
      exact hR.2.2.1
    · rw [hf _ _ (by omega) (by omega) (by omega) (by omega), hf (B + 38) 24 (by omega) (by omega) (by omega) (by omega)]
      rcases hR.2.2.2 j v hj v0 v1 with q | ⟨q1, q2, q3⟩
      · exact Or.inl q
      · refine Or.inr ⟨by omega, q2, ?_⟩
        unfold zNv
        rw [hf (B + 41) j (by omega) (by omega) (by omega) (by omega), hf (B + 40) j (by omega) (by omega) (by omega) (by omega)]
        exact q3
theorem zRP_0 {B c : Nat} {ι ι1 ι2 : Nat → Nat → Int32} (hR : zRP B c ι) (hl : zRl B c ι2) (hF : zFc0 B c ι ι1) (hG : zFm0 B ι1 ι2) : zRP B c ι2 :=
  zRP_fr hR hl (fun b k q => by rw [hG b k (by unfold zPs at q; unfold zCm0; omega), hF.1 b k (by unfold zPs at q; unfold zCc0; omega)]) (fun j hj => by rw [hG _ _ (by unfold zCm0; omega), hF.1 _ _ (by unfold zCc0; omega)])
theorem zPm_fr {B : Nat} {ι ι2 : Nat → Nat → Int32} {x y : Int32} (h : ∀ b k, b = B + 40 ∨ b = B + 41 ∨ b = B + 42 ∨ (b = B + 38 ∧ k = 0) → ι2 b k = ι b k) : zPm B ι2 x y = zPm B ι x y := by
  unfold zPm zNv
  rw [h (B + 42) _ (by omega), h (B + 41) _ (by omega), h (B + 40) _ (by omega), h (B + 38) 0 (by omega)]
theorem zon_eq {B c : Nat} {ι : Nat → Nat → Int32} {x : Int32} (hR : zRP B c ι) (hx : 0 ≤ x.toInt ∧ x.toInt < (c : Int)) : ι (B + 63 + 7 * x.toNatClampNeg) 0 = ι (B + 39) x.toNatClampNeg := by
  have hn := zclN hx.1
  exact (hR.1.1.2.2.2.2 x.toNatClampNeg (by omega)).1
def zQp (c : Nat) (x y : Int32) : Prop := (0 ≤ x.toInt ∧ x.toInt < (c : Int)) ∧ (100 ≤ y.toInt ∧ y.toInt ≤ 100000)
def zE1_place (B c : Nat) (ι : Nat → Nat → Int32) (x y r : Int32) : Prop := (¬ zQp c x y ∧ r = -2000000000) ∨ (zQp c x y ∧ r = zPcv B ι x.toNatClampNeg y)
def zE2_place (B c : Nat) (ι : Nat → Nat → Int32) (x y r : Int32) : Prop := (¬ zQp c x y ∧ r = -2000000000) ∨ (zQp c x y ∧ r = zPm B ι x y)
theorem zT_place {B c : Nat} {ι : Nat → Nat → Int32} {x y r1 r2 : Int32} (hR : zRP B c ι) (h1 : zE1_place B c ι x y r1) (h2 : zE2_place B c ι x y r2) : r1 = r2 := by
  rcases h1 with ⟨h0, rfl⟩ | ⟨h0, rfl⟩ <;> rcases h2 with ⟨g0, rfl⟩ | ⟨g0, rfl⟩
  · rfl
  · exact absurd g0 h0
  · exact absurd h0 g0
  · exact zP_eq hR h0.1 y
def zQa (c : Nat) (x y u : Int32) : Prop := (0 ≤ x.toInt ∧ x.toInt < (c : Int)) ∧ (100 ≤ y.toInt ∧ y.toInt ≤ 100000) ∧ (0 ≤ u.toInt ∧ u.toInt < (c : Int))
def zE1_against (B c : Nat) (ι : Nat → Nat → Int32) (x y u r : Int32) : Prop := (¬ zQa c x y u ∧ r = -2000000000) ∨ (zQa c x y u ∧ r = zPcv B ι x.toNatClampNeg y + (if ι (B + 63 + 7 * x.toNatClampNeg) 0 = 0 then 0 else ι B 11) - (if ι (B + 63 + 7 * u.toNatClampNeg) 0 = 0 then 0 else ι B 11))
def zE2_against (B c : Nat) (ι : Nat → Nat → Int32) (x y u r : Int32) : Prop := (¬ zQa c x y u ∧ r = -2000000000) ∨ (zQa c x y u ∧ r = zPm B ι x y + (if ι (B + 39) x.toNatClampNeg = 0 then 0 else ι (B + 38) 10) - (if ι (B + 39) u.toNatClampNeg = 0 then 0 else ι (B + 38) 10))
theorem zT_against {B c : Nat} {ι : Nat → Nat → Int32} {x y u r1 r2 : Int32} (hR : zRP B c ι) (h1 : zE1_against B c ι x y u r1) (h2 : zE2_against B c ι x y u r2) : r1 = r2 := by
  rcases h1 with ⟨h0, rfl⟩ | ⟨h0, rfl⟩ <;> rcases h2 with ⟨g0, rfl⟩ | ⟨g0, rfl⟩
  · rfl
  · exact absurd g0 h0
  · exact absurd h0 g0
  · rw [zP_eq hR h0.1 y, zon_eq hR h0.1, zon_eq hR h0.2.2, hR.2.2.1]
/-- OFF is told -/
def zQo (x : Int32) : Prop := -200000 ≤ x.toInt ∧ x.toInt ≤ 200000
def zE1_off (B : Nat) (ι ι1 : Nat → Nat → Int32) (x r : Int32) : Prop := (¬ zQo x ∧ r = -2000000000 ∧ ι1 = ι) ∨ (zQo x ∧ r = ι B 11 ∧ ι1 = zu ι B 11 x)
def zE2_off (B : Nat) (ι ι1 : Nat → Nat → Int32) (x r : Int32) : Prop := (¬ zQo x ∧ r = -2000000000 ∧ ι1 = ι) ∨ (zQo x ∧ r = ι (B + 38) 10 ∧ ι1 = zu ι (B + 38) 10 x)
theorem zT1_off {B c : Nat} {ι ι1 : Nat → Nat → Int32} {x r : Int32} (hJ : zJ B c ι) (h : zE1_off B ι ι1 x r) : zJ B c ι1 := by
  rcases h with ⟨-, -, rfl⟩ | ⟨-, -, rfl⟩
  · exact hJ
  · exact zJ_u hJ (by unfold zRe; omega)
theorem zT_off {B c : Nat} {ι ι1 ι2 : Nat → Nat → Int32} {x r1 r2 : Int32} (hJ : zJ B c ι) (hR : zRP B c ι) (h1 : zE1_off B ι ι1 x r1) (h2 : zE2_off B ι1 ι2 x r2) : zJ B c ι2 ∧ zRP B c ι2 ∧ r1 = r2 := by
  have hJ1 := zT1_off hJ h1
  rcases h1 with ⟨h0, rfl, rfl⟩ | ⟨h0, rfl, hi⟩ <;> rcases h2 with ⟨g0, rfl, rfl⟩ | ⟨g0, rfl, rfl⟩
  · exact ⟨hJ, hR, rfl⟩
  · exact absurd g0 h0
  · exact absurd h0 g0
  · refine ⟨zJ_u hJ1 (by unfold zRe; omega), zRP_off hR hJ hi zFq.rfl (fun j v hj h0 h9 => ?_), ?_⟩
    · rw [hi]
      unfold zNv
      rw [zuo (by omega), zuo (by omega), zuo (by omega), zuo (by omega)]
      exact hR.2.2.2 j v hj h0 h9
    · rw [hi, zuo (by omega)]; exact hR.2.2.1
/-- SET -/
def zQs (c : Nat) (p q : Prop) (x y u w : Int32) : Prop := ((0 ≤ x.toInt ∧ x.toInt < (c : Int)) ∧ p ∧ (0 ≤ u.toInt ∧ u.toInt < (c : Int)) ∧ q) ∧ (100 ≤ y.toInt ∧ y.toInt ≤ 100000) ∧ (100 ≤ w.toInt ∧ w.toInt ≤ 100000)
def zE1_set (B c : Nat) (ι ι1 : Nat → Nat → Int32) (x y u w r : Int32) : Prop := (¬ zQs c (¬ ι (B + 63 + 7 * x.toNatClampNeg) 0 = 0) (ι (B + 63 + 7 * u.toNatClampNeg) 0 = 0) x y u w ∧ r = -2000000000 ∧ ι1 = ι) ∨ (zQs c (¬ ι (B + 63 + 7 * x.toNatClampNeg) 0 = 0) (ι (B + 63 + 7 * u.toNatClampNeg) 0 = 0) x y u w ∧ r = zPcv B ι u.toNatClampNeg w - zPcv B ι x.toNatClampNeg y ∧ ι1 = zu ι B 11 r)
def zE2_set (B c : Nat) (ι ι1 : Nat → Nat → Int32) (x y u w r : Int32) : Prop := (¬ zQs c (¬ ι (B + 39) x.toNatClampNeg = 0) (ι (B + 39) u.toNatClampNeg = 0) x y u w ∧ r = -2000000000 ∧ ι1 = ι) ∨ (zQs c (¬ ι (B + 39) x.toNatClampNeg = 0) (ι (B + 39) u.toNatClampNeg = 0) x y u w ∧ r = zPm B ι u w - zPm B ι x y ∧ ∃ i, zFq B ι i ∧ zPsM B c i ∧ ι1 = zu i (B + 38) 10 r)
theorem zT1_set {B c : Nat} {ι ι1 : Nat → Nat → Int32} {x y u w r : Int32} (hJ : zJ B c ι) (hR : zRP B c ι) (h : zE1_set B c ι ι1 x y u w r) : zJ B c ι1 ∧ (100 ≤ (ι1 (B + 38) 0).toInt ∧ (ι1 (B + 38) 0).toInt ≤ 50000) ∧ zPsM B c ι1 := by
  rcases h with ⟨-, -, rfl⟩ | ⟨-, -, rfl⟩
  · exact ⟨hJ, zst_of hR, hR.2.2.2⟩
  · refine ⟨zJ_u hJ (by unfold zRe; omega), by rw [zuo (by omega)]; exact zst_of hR, fun j v hj h0 h1 => ?_⟩
    unfold zNv
    rw [zuo (by omega), zuo (by omega), zuo (by omega), zuo (by omega)]
    exact hR.2.2.2 j v hj h0 h1
theorem zT_set {B c : Nat} {ι ι1 ι2 : Nat → Nat → Int32} {x y u w r1 r2 : Int32} (hJ : zJ B c ι) (hR : zRP B c ι) (h1 : zE1_set B c ι ι1 x y u w r1) (h2 : zE2_set B c ι1 ι2 x y u w r2) : zJ B c ι2 ∧ zRP B c ι2 ∧ r1 = r2 := by
  have hx : (0 ≤ x.toInt ∧ x.toInt < (c : Int)) → ι (B + 63 + 7 * x.toNatClampNeg) 0 = ι (B + 39) x.toNatClampNeg := zon_eq hR
  have hu : (0 ≤ u.toInt ∧ u.toInt < (c : Int)) → ι (B + 63 + 7 * u.toNatClampNeg) 0 = ι (B + 39) u.toNatClampNeg := zon_eq hR
  have hm1 := zT1_set hJ hR h1
  rcases h1 with ⟨h0, rfl, rfl⟩ | ⟨h0, h3, hi⟩ <;> rcases h2 with ⟨g0, rfl, rfl⟩ | ⟨g0, g3, i, g4, g5, rfl⟩
  · exact ⟨hJ, hR, rfl⟩
  · refine absurd ?_ h0
    obtain ⟨⟨a1, a2, a3, a4⟩, a5⟩ := g0
    exact ⟨⟨a1, by rw [hx a1]; exact a2, a3, by rw [hu a3]; exact a4⟩, a5⟩
  · refine absurd ?_ g0
    obtain ⟨⟨a1, a2, a3, a4⟩, a5⟩ := h0
    rw [hi]
    exact ⟨⟨a1, by rw [zuo (by omega), ← hx a1]; exact a2, a3, by rw [zuo (by omega), ← hu a3]; exact a4⟩, a5⟩
  · have e1 : zPm B ι1 u w = zPm B ι u w := zPm_fr (fun b k q => by rw [hi, zuo (by omega)])
    have e2 : zPm B ι1 x y = zPm B ι x y := zPm_fr (fun b k q => by rw [hi, zuo (by omega)])
    have er : r1 = r2 := by rw [h3, g3, e1, e2, zP_eq hR h0.1.1 y, zP_eq hR h0.1.2.2.1 w]
    subst er
    exact ⟨zJ_u (zJ_fq hm1.1 g4) (by unfold zRe; omega), zRP_off hR hJ hi g4 g5, rfl⟩
/-- counts -/
theorem zO_eq {B : Nat} {ι : Nat → Nat → Int32} : ∀ n : Nat, (∀ j, j < n → ι (B + 63 + 7 * j) 0 = ι (B + 39) j) → zOc B ι n = zOm B ι n
  | 0, _ => rfl
  | n + 1, h => by rw [zOc, zOm, zO_eq n (fun j hj => h j (by omega)), h n (by omega)]
theorem zT_count {B c : Nat} {ι : Nat → Nat → Int32} {x r1 r2 : Int32} (hJ : zJ B c ι) (hR : zRP B c ι) (h1 : zK1 B c ι x r1) (h2 : zK2 B c ι x r2) : r1 = r2 := by
  have e9 : ι B 9 = ι (B + 38) 1 := Int32.toInt_inj.mp (by rw [hJ.2.1.1, hJ.2.2.1])
  have eO : zOc B ι c = zOm B ι c := zO_eq c (fun j hj => (hR.1.1.2.2.2.2 j hj).1)
  have es := hR.1.1.2.2.2.1
  have e4 : ι (B + 33) 1 = ι (B + 48) 0 := (es 0 (by decide)).1
  have e5 : ι (B + 36) 1 = ι (B + 48) 1 := (es 1 (by decide)).1
  rcases h1 with ⟨a, rfl⟩ | ⟨a, b⟩ | ⟨a, rfl⟩ | ⟨a, rfl⟩ | ⟨a, rfl⟩ | ⟨a, rfl⟩ | ⟨a, rfl⟩ | ⟨a, rfl⟩ <;> rcases h2 with ⟨d, rfl⟩ | ⟨d, e⟩ | ⟨d, rfl⟩ | ⟨d, rfl⟩ | ⟨d, rfl⟩ | ⟨d, rfl⟩ | ⟨d, rfl⟩ | ⟨d, rfl⟩ <;> first
    | (exfalso; omega)
    | exact e9
    | exact Int32.toInt_inj.mp (by rw [b, e, eO])
    | exact hR.2.2.1
    | exact hR.1.1.2.2.1.1
    | exact e4
    | exact e5
    | exact hR.1.1.1.1
    | rfl
