/-! the plain scales of both sides (wip/gen16/spec_aa.py) -/
def zPb (B b k : Nat) : Prop := b = B + 8 ∨ b = B + 9 ∨ b = B + 59 ∨ (b = B + 38 ∧ k = 26)
def zPq (B : Nat) (ι : Nat → Nat → Int32) : Prop := zPk ι (B + 8) (B + 9) ∧ zPkM B ι
theorem zPk_fr {B : Nat} {ι ι2 : Nat → Nat → Int32} (hP : zPk ι (B + 8) (B + 9)) (h : ∀ b k, b = B + 8 ∨ b = B + 9 → ι2 b k = ι b k) : zPk ι2 (B + 8) (B + 9) := by
  unfold zPk at hP ⊢
  rw [h (B + 8) 0 (Or.inl rfl)]
  rcases hP with q | q
  · exact Or.inl q
  · exact Or.inr (fun k hk => by rw [h (B + 9) k (Or.inr rfl)]; exact q k hk)
theorem zPkM_fr {B : Nat} {ι ι2 : Nat → Nat → Int32} (hP : zPkM B ι) (h : ∀ b k, b = B + 59 ∨ (b = B + 38 ∧ k = 26) → ι2 b k = ι b k) : zPkM B ι2 := by
  unfold zPkM at hP ⊢
  rw [h (B + 38) 26 (Or.inr ⟨rfl, rfl⟩)]
  rcases hP with q | q
  · exact Or.inl q
  · exact Or.inr (fun k hk => by rw [h (B + 59) k (Or.inl rfl)]; exact q k hk)
theorem zPq_fr {B : Nat} {ι ι2 : Nat → Nat → Int32} (hP : zPq B ι) (h : ∀ b k, zPb B b k → ι2 b k = ι b k) : zPq B ι2 := ⟨zPk_fr hP.1 (fun b k q => h b k (by unfold zPb; omega)), zPkM_fr hP.2 (fun b k q => h b k (by unfold zPb; omega))⟩
/-- what both sides have in common, and the plain scales -/
def zRl (B c : Nat) (ι : Nat → Nat → Int32) : Prop := zRel B c ι ∧ zPq B ι
theorem zRl_q {B c : Nat} {ι ι1 ι2 : Nat → Nat → Int32} (hJ : zJ B c ι) (hR : zRl B c ι) (h1 : zEc B ι ι1) (h2 : zFo B ι1 ι2) : zRl B c ι2 := ⟨zRel_q hJ hR.1 h1 h2, zPq_fr hR.2 (fun b k q => by
  unfold zPb at q
  rw [h2 b k (by unfold zCw; omega) (by omega), h1 b k (by unfold zCcw; omega) (by omega)])⟩
theorem zB1_rule {B : Nat} {ι ι1 : Nat → Nat → Int32} {r1 : Int32} {x : Int32} (h : zD1_rule B ι ι1 x r1) : ∀ b k, zPb B b k → ι1 b k = ι b k := by
  rcases h with ⟨-, -, rfl⟩ | ⟨-, -, rfl⟩ <;> intro b k q <;> unfold zPb at q
  · rfl
  · rw [zuo (by omega)]
theorem zB2_rule {B : Nat} {ι1 ι2 : Nat → Nat → Int32} {r2 : Int32} {x : Int32} (h : zD2_rule B ι1 ι2 x r2) : ∀ b k, zPb B b k → ι2 b k = ι1 b k := by
  rcases h with ⟨-, -, rfl⟩ | ⟨-, -, rfl⟩ <;> intro b k q <;> unfold zPb at q
  · rfl
  · rw [zuo (by omega)]
theorem zP_rule {B : Nat} {ι ι1 ι2 : Nat → Nat → Int32} {r1 r2 : Int32} {x : Int32} (hP : zPq B ι) (h1 : zD1_rule B ι ι1 x r1) (h2 : zD2_rule B ι1 ι2 x r2) : zPq B ι2 := zPq_fr (zPq_fr hP (zB1_rule h1)) (zB2_rule h2)
theorem zB1_factor {B : Nat} {ι ι1 : Nat → Nat → Int32} {r1 : Int32} {x : Int32} (h : zD1_factor B ι ι1 x r1) : ∀ b k, zPb B b k → ι1 b k = ι b k := by
  rcases h with ⟨-, -, rfl⟩ | ⟨-, -, -, rfl⟩ | ⟨-, -, -, rfl⟩ <;> intro b k q <;> unfold zPb at q
  · rfl
  · rfl
  · rw [zuo (by omega), zuo (by omega)]
theorem zB2_factor {B : Nat} {ι1 ι2 : Nat → Nat → Int32} {r2 : Int32} {x : Int32} (h : zD2_factor B ι1 ι2 x r2) : ∀ b k, zPb B b k → ι2 b k = ι1 b k := by
  rcases h with ⟨-, -, rfl⟩ | ⟨-, -, -, rfl⟩ | ⟨-, -, -, rfl⟩ <;> intro b k q <;> unfold zPb at q
  · rfl
  · rfl
  · rw [zuo (by omega), zuo (by omega)]
theorem zP_factor {B : Nat} {ι ι1 ι2 : Nat → Nat → Int32} {r1 r2 : Int32} {x : Int32} (hP : zPq B ι) (h1 : zD1_factor B ι ι1 x r1) (h2 : zD2_factor B ι1 ι2 x r2) : zPq B ι2 := zPq_fr (zPq_fr hP (zB1_factor h1)) (zB2_factor h2)
theorem zB1_clear {B : Nat} {ι ι1 : Nat → Nat → Int32} {r1 : Int32}  (h : zD1_clear B ι ι1 r1) : ∀ b k, zPb B b k → ι1 b k = ι b k := by
  obtain ⟨-, rfl⟩ := h
  intro b k q
  unfold zPb at q
  rw [zuo (by omega)]
theorem zB2_clear {B : Nat} {ι1 ι2 : Nat → Nat → Int32} {r2 : Int32}  (h : zD2_clear B ι1 ι2 r2) : ∀ b k, zPb B b k → ι2 b k = ι1 b k := by
  obtain ⟨-, rfl⟩ := h
  intro b k q
  unfold zPb at q
  rw [zuo (by omega)]
theorem zP_clear {B : Nat} {ι ι1 ι2 : Nat → Nat → Int32} {r1 r2 : Int32}  (hP : zPq B ι) (h1 : zD1_clear B ι ι1 r1) (h2 : zD2_clear B ι1 ι2 r2) : zPq B ι2 := zPq_fr (zPq_fr hP (zB1_clear h1)) (zB2_clear h2)
theorem zB1_cut {B : Nat} {ι ι1 : Nat → Nat → Int32} {r1 : Int32} {x y : Int32} (h : zD1_cut B ι ι1 x y r1) : ∀ b k, zPb B b k → ι1 b k = ι b k := by
  rcases h with ⟨-, -, rfl⟩ | ⟨-, -, -, rfl⟩ | ⟨-, -, -, rfl⟩ <;> intro b k q <;> unfold zPb at q
  · rfl
  · rfl
  · rw [zuo (by omega), zuo (by omega)]
theorem zB2_cut {B : Nat} {ι1 ι2 : Nat → Nat → Int32} {r2 : Int32} {x y : Int32} (h : zD2_cut B ι1 ι2 x y r2) : ∀ b k, zPb B b k → ι2 b k = ι1 b k := by
  rcases h with ⟨-, -, rfl⟩ | ⟨-, -, -, rfl⟩ | ⟨-, -, -, rfl⟩ <;> intro b k q <;> unfold zPb at q
  · rfl
  · rfl
  · rw [zuo (by omega), zuo (by omega)]
theorem zP_cut {B : Nat} {ι ι1 ι2 : Nat → Nat → Int32} {r1 r2 : Int32} {x y : Int32} (hP : zPq B ι) (h1 : zD1_cut B ι ι1 x y r1) (h2 : zD2_cut B ι1 ι2 x y r2) : zPq B ι2 := zPq_fr (zPq_fr hP (zB1_cut h1)) (zB2_cut h2)
theorem zB1_wipe {B : Nat} {ι ι1 : Nat → Nat → Int32} {r1 : Int32} {x : Int32} (h : zD1_wipe B ι ι1 x r1) : ∀ b k, zPb B b k → ι1 b k = ι b k := by
  rcases h with ⟨-, -, rfl⟩ | ⟨-, -, rfl⟩ <;> intro b k q <;> unfold zPb at q
  · rfl
  · rw [zuo (by omega)]
theorem zB2_wipe {B : Nat} {ι1 ι2 : Nat → Nat → Int32} {r2 : Int32} {x : Int32} (h : zD2_wipe B ι1 ι2 x r2) : ∀ b k, zPb B b k → ι2 b k = ι1 b k := by
  rcases h with ⟨-, -, rfl⟩ | ⟨-, -, rfl⟩ <;> intro b k q <;> unfold zPb at q
  · rfl
  · rw [zuo (by omega)]
theorem zP_wipe {B : Nat} {ι ι1 ι2 : Nat → Nat → Int32} {r1 r2 : Int32} {x : Int32} (hP : zPq B ι) (h1 : zD1_wipe B ι ι1 x r1) (h2 : zD2_wipe B ι1 ι2 x r2) : zPq B ι2 := zPq_fr (zPq_fr hP (zB1_wipe h1)) (zB2_wipe h2)
theorem zB1_span {B c : Nat} {ι ι1 : Nat → Nat → Int32} {r1 : Int32} {x y u w : Int32} (hJ : zJ B c ι) (h : zD1_span B ι ι1 c x y u w r1) : ∀ b k, zPb B b k → ι1 b k = ι b k := fun b k q => by rw [(zT1_span hJ h).2 b (by unfold zPb at q; omega)]
theorem zB2_span {B c : Nat} {ι1 ι2 : Nat → Nat → Int32} {r2 : Int32} {x y u w : Int32} (h : zD2_span B ι1 ι2 c x y u w r2) : ∀ b k, zPb B b k → ι2 b k = ι1 b k := by
  rcases h with ⟨-, -, rfl⟩ | ⟨-, -, -, rfl⟩ | ⟨-, -, -, -, rfl⟩ | ⟨-, -, -, -, rfl⟩ <;> intro b k q <;> unfold zPb at q
  · rfl
  · rfl
  · rfl
  · rw [zuo (by omega), zuo (by omega), zuo (by omega), zuo (by omega)]
theorem zP_span {B c : Nat} {ι ι1 ι2 : Nat → Nat → Int32} {r1 r2 : Int32} {x y u w : Int32} (hJ : zJ B c ι) (hP : zPq B ι) (h1 : zD1_span B ι ι1 c x y u w r1) (h2 : zD2_span B ι1 ι2 c x y u w r2) : zPq B ι2 := zPq_fr (zPq_fr hP (zB1_span hJ h1)) (zB2_span h2)
theorem zB1_scale {B c : Nat} {ι ι1 : Nat → Nat → Int32} {r1 : Int32} {x y u w : Int32} (h : zD1_scale B ι ι1 c x y u w r1) : ∀ b k, zPb B b k → ι1 b k = ι b k := by
  rcases h with ⟨-, -, rfl⟩ | ⟨-, -, -, rfl⟩ | ⟨-, -, -, rfl⟩ <;> intro b k q <;> unfold zPb at q
  · rfl
  · rfl
  · rw [zuo (by omega), iX7_B (by omega)]
theorem zB2_scale {B c : Nat} {ι1 ι2 : Nat → Nat → Int32} {r2 : Int32} {x y u w : Int32} (h : zD2_scale B ι1 ι2 c x y u w r2) : ∀ b k, zPb B b k → ι2 b k = ι1 b k := by
  rcases h with ⟨-, -, rfl⟩ | ⟨-, -, -, rfl⟩ | ⟨-, -, -, rfl⟩ <;> intro b k q <;> unfold zPb at q
  · rfl
  · rfl
  · rw [zuo (by omega), zuo (by omega), zuo (by omega), zuo (by omega), zuo (by omega)]
theorem zP_scale {B c : Nat} {ι ι1 ι2 : Nat → Nat → Int32} {r1 r2 : Int32} {x y u w : Int32} (hP : zPq B ι) (h1 : zD1_scale B ι ι1 c x y u w r1) (h2 : zD2_scale B ι1 ι2 c x y u w r2) : zPq B ι2 := zPq_fr (zPq_fr hP (zB1_scale h1)) (zB2_scale h2)
/-- the class's factors -/
theorem zT_cg {B c : Nat} {ι : Nat → Nat → Int32} (hJ : zJ B c ι) (hR : zRel B c ι) : ∀ k : Nat, (k : Int) < (ι (B + 12) 1).toInt → 100 ≤ (ι (B + 13) k).toInt ∧ (ι (B + 13) k).toInt ≤ 999 := fun k hk => by
  rw [hR.2.2.1.1] at hk
  rw [hR.2.2.1.2 k hk]
  exact hJ.2.2.2.2.1 k hk
/-- the class has cut its plain scale -/
theorem zT1_plain {B c : Nat} {ι ι1 : Nat → Nat → Int32} (hJ : zJ B c ι) (hR : zRl B c ι) (hF : zFc0 B c ι ι1) : zJ B c ι1 ∧ (100 ≤ (ι1 (B + 38) 0).toInt ∧ (ι1 (B + 38) 0).toInt ≤ 50000) ∧ zPkM B ι1 := by
  refine ⟨zJ_fc0 hJ hF, ?_, zPkM_fr hR.2.2 (fun b k q => hF.1 b k (by unfold zCc0; omega))⟩
  rw [hF.1 (B + 38) 0 (by unfold zCc0; omega), ← hR.1.1.1]
  exact hR.1.1.2
/-- and the model too -/
theorem zT2_plain {B c : Nat} {ι ι1 ι2 : Nat → Nat → Int32} (hJ : zJ B c ι) (hR : zRl B c ι) (hF : zFc0 B c ι ι1) (hP : zPk ι1 (B + 8) (B + 9)) (hG : zFm0 B ι1 ι2) (hM : zPkM B ι2) : zRl B c ι2 := by
  refine ⟨zRel_fr hJ hR.1 (fun b k q => ?_), zPk_fr hP (fun b k q => hG b k (by unfold zCm0; omega)), hM⟩
  rw [hG b k (by unfold zRd at q; unfold zCm0; omega), hF.1 b k (fun q2 => by
    unfold zRd at q
    unfold zCc0 at q2
    rcases q with q | q | q | q | q | q | q
    · omega
    · omega
    · omega
    · omega
    · omega
    · omega
    · have := q.1; omega)]
theorem zT_chain {B c : Nat} {ι ι1 : Nat → Nat → Int32} {x r1 r2 : Int32} (hJ : zJ B c ι) (hR : zRl B c ι) (hF : zFc0 B c ι ι1) (h1 : zCH (ι B 10) (ι (B + 13)) (ι (B + 12) 1).toNatClampNeg x r1) (h2 : zCH (ι1 (B + 38) 0) (ι1 (B + 47)) (ι1 (B + 38) 11).toNatClampNeg x r2) : r1 = r2 := by
  have e0 : ι1 (B + 38) 0 = ι B 10 := by rw [hF.1 (B + 38) 0 (by unfold zCc0; omega)]; exact hR.1.1.1.symm
  have e11 : ι1 (B + 38) 11 = ι (B + 12) 1 := by rw [hF.1 (B + 38) 11 (by unfold zCc0; omega)]; exact hR.1.2.2.1.1.symm
  rw [e0, e11] at h2
  have hn := zclN hJ.2.1.2.1.1
  refine zCH_u h1 (zCH_congr (fun k hk => ?_) h2)
  rw [hF.1 (B + 47) k (by unfold zCc0; omega)]
  exact (hR.1.2.2.1.2 k (by rw [← hR.1.2.2.1.1]; omega)).symm
