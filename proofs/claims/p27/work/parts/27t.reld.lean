/-! froms and eachs of SPANS alike; digests alike (wip/genr/spec_kd.py) -/
def zSF (B c : Nat) (ι : Nat → Nat → Int32) : Prop := ∀ j, j < c → ∀ k : Nat, (k : Int) < (ι (B + 43) j).toInt → ι (B + 63 + 7 * j + 3) k = ι (B + 44) (4 * j + k) ∧ ι (B + 63 + 7 * j + 5) k = ι (B + 46) (4 * j + k)
def zSw (B b : Nat) : Prop := b = B + 43 ∨ b = B + 44 ∨ b = B + 46 ∨ (B + 63 ≤ b ∧ ((b - B - 63) % 7 = 3 ∨ (b - B - 63) % 7 = 5))
def zRD (B c : Nat) (ι : Nat → Nat → Int32) : Prop := zRP B c ι ∧ zSF B c ι
theorem zSF_fr {B c : Nat} {ι ι2 : Nat → Nat → Int32} (hS : zSF B c ι) (h : ∀ b k, zSw B b → ι2 b k = ι b k) : zSF B c ι2 := by
  intro j hj k hk
  rw [h (B + 43) j (by unfold zSw; omega)] at hk
  rw [h (B + 63 + 7 * j + 3) k (by unfold zSw; omega), h (B + 63 + 7 * j + 5) k (by unfold zSw; omega), h (B + 44) _ (by unfold zSw; omega), h (B + 46) _ (by unfold zSw; omega)]
  exact hS j hj k hk
theorem zRD_q {B c : Nat} {ι ι1 ι2 : Nat → Nat → Int32} (hJ : zJ B c ι) (hR : zRD B c ι) (h1 : zEdp B ι ι1) (h2 : zFdp B c ι1 ι2) : zRD B c ι2 := ⟨zRP_q hJ hR.1 h1 h2, zSF_fr hR.2 (fun b k q => by
  have e1 := h1 b k (by unfold zSw at q; unfold zCc; omega)
  rcases h2 with h2 | ⟨h2, -⟩
  · rw [h2 b k (by unfold zSw at q; unfold zCm; omega), e1]
  · rw [h2 b k (by unfold zSw at q; unfold zCq; omega), e1])⟩
theorem zRD_0 {B c : Nat} {ι ι1 ι2 : Nat → Nat → Int32} (hR : zRD B c ι) (hl : zRl B c ι2) (hF : zFc0 B c ι ι1) (hG : zFm0 B ι1 ι2) : zRD B c ι2 := ⟨zRP_0 hR.1 hl hF hG, zSF_fr hR.2 (fun b k q => by rw [hG b k (by unfold zSw at q; unfold zCm0; omega), hF.1 b k (by unfold zSw at q; unfold zCc0; omega)])⟩
theorem zX1_rule {B : Nat} {ι ι1 : Nat → Nat → Int32} {r1 : Int32} {x : Int32} (h : zD1_rule B ι ι1 x r1) : ∀ b k, zSw B b → ι1 b k = ι b k := by
  rcases h with ⟨-, -, rfl⟩ | ⟨-, -, rfl⟩ <;> intro b k q <;> unfold zSw at q
  · rfl
  · rw [zuo (by omega)]
theorem zX2_rule {B : Nat} {ι1 ι2 : Nat → Nat → Int32} {r2 : Int32} {x : Int32} (h : zD2_rule B ι1 ι2 x r2) : ∀ b k, zSw B b → ι2 b k = ι1 b k := by
  rcases h with ⟨-, -, rfl⟩ | ⟨-, -, rfl⟩ <;> intro b k q <;> unfold zSw at q
  · rfl
  · rw [zuo (by omega)]
theorem zXF_rule {B c : Nat} {ι ι1 ι2 : Nat → Nat → Int32} {r1 r2 : Int32} {x : Int32} (hS : zSF B c ι) (h1 : zD1_rule B ι ι1 x r1) (h2 : zD2_rule B ι1 ι2 x r2) : zSF B c ι2 := zSF_fr hS (fun b k q => (zX2_rule h2 b k q).trans (zX1_rule h1 b k q))
theorem zX1_factor {B : Nat} {ι ι1 : Nat → Nat → Int32} {r1 : Int32} {x : Int32} (h : zD1_factor B ι ι1 x r1) : ∀ b k, zSw B b → ι1 b k = ι b k := by
  rcases h with ⟨-, -, rfl⟩ | ⟨-, -, -, rfl⟩ | ⟨-, -, -, rfl⟩ <;> intro b k q <;> unfold zSw at q
  · rfl
  · rfl
  · rw [zuo (by omega), zuo (by omega)]
theorem zX2_factor {B : Nat} {ι1 ι2 : Nat → Nat → Int32} {r2 : Int32} {x : Int32} (h : zD2_factor B ι1 ι2 x r2) : ∀ b k, zSw B b → ι2 b k = ι1 b k := by
  rcases h with ⟨-, -, rfl⟩ | ⟨-, -, -, rfl⟩ | ⟨-, -, -, rfl⟩ <;> intro b k q <;> unfold zSw at q
  · rfl
  · rfl
  · rw [zuo (by omega), zuo (by omega)]
theorem zXF_factor {B c : Nat} {ι ι1 ι2 : Nat → Nat → Int32} {r1 r2 : Int32} {x : Int32} (hS : zSF B c ι) (h1 : zD1_factor B ι ι1 x r1) (h2 : zD2_factor B ι1 ι2 x r2) : zSF B c ι2 := zSF_fr hS (fun b k q => (zX2_factor h2 b k q).trans (zX1_factor h1 b k q))
theorem zX1_clear {B : Nat} {ι ι1 : Nat → Nat → Int32} {r1 : Int32}  (h : zD1_clear B ι ι1 r1) : ∀ b k, zSw B b → ι1 b k = ι b k := by
  obtain ⟨-, rfl⟩ := h
  intro b k q
  unfold zSw at q
  rw [zuo (by omega)]
theorem zX2_clear {B : Nat} {ι1 ι2 : Nat → Nat → Int32} {r2 : Int32}  (h : zD2_clear B ι1 ι2 r2) : ∀ b k, zSw B b → ι2 b k = ι1 b k := by
  obtain ⟨-, rfl⟩ := h
  intro b k q
  unfold zSw at q
  rw [zuo (by omega)]
theorem zXF_clear {B c : Nat} {ι ι1 ι2 : Nat → Nat → Int32} {r1 r2 : Int32}  (hS : zSF B c ι) (h1 : zD1_clear B ι ι1 r1) (h2 : zD2_clear B ι1 ι2 r2) : zSF B c ι2 := zSF_fr hS (fun b k q => (zX2_clear h2 b k q).trans (zX1_clear h1 b k q))
theorem zX1_cut {B : Nat} {ι ι1 : Nat → Nat → Int32} {r1 : Int32} {x y : Int32} (h : zD1_cut B ι ι1 x y r1) : ∀ b k, zSw B b → ι1 b k = ι b k := by
  rcases h with ⟨-, -, rfl⟩ | ⟨-, -, -, rfl⟩ | ⟨hP, -, -, rfl⟩ <;> intro b k q <;> unfold zSw at q
  · rfl
  · rfl
  · have hx2 := zclN hP.1.1
    have hx3 := hP.1.2
    rw [zuo (by omega), zuo (by omega)]
theorem zX2_cut {B : Nat} {ι1 ι2 : Nat → Nat → Int32} {r2 : Int32} {x y : Int32} (h : zD2_cut B ι1 ι2 x y r2) : ∀ b k, zSw B b → ι2 b k = ι1 b k := by
  rcases h with ⟨-, -, rfl⟩ | ⟨-, -, -, rfl⟩ | ⟨-, -, -, rfl⟩ <;> intro b k q <;> unfold zSw at q
  · rfl
  · rfl
  · rw [zuo (by omega), zuo (by omega)]
theorem zXF_cut {B c : Nat} {ι ι1 ι2 : Nat → Nat → Int32} {r1 r2 : Int32} {x y : Int32} (hS : zSF B c ι) (h1 : zD1_cut B ι ι1 x y r1) (h2 : zD2_cut B ι1 ι2 x y r2) : zSF B c ι2 := zSF_fr hS (fun b k q => (zX2_cut h2 b k q).trans (zX1_cut h1 b k q))
theorem zX1_wipe {B : Nat} {ι ι1 : Nat → Nat → Int32} {r1 : Int32} {x : Int32} (h : zD1_wipe B ι ι1 x r1) : ∀ b k, zSw B b → ι1 b k = ι b k := by
  rcases h with ⟨-, -, rfl⟩ | ⟨hP, -, rfl⟩ <;> intro b k q <;> unfold zSw at q
  · rfl
  · have hx2 := zclN hP.1
    have hx3 := hP.2
    rw [zuo (by omega)]
theorem zX2_wipe {B : Nat} {ι1 ι2 : Nat → Nat → Int32} {r2 : Int32} {x : Int32} (h : zD2_wipe B ι1 ι2 x r2) : ∀ b k, zSw B b → ι2 b k = ι1 b k := by
  rcases h with ⟨-, -, rfl⟩ | ⟨-, -, rfl⟩ <;> intro b k q <;> unfold zSw at q
  · rfl
  · rw [zuo (by omega)]
theorem zXF_wipe {B c : Nat} {ι ι1 ι2 : Nat → Nat → Int32} {r1 r2 : Int32} {x : Int32} (hS : zSF B c ι) (h1 : zD1_wipe B ι ι1 x r1) (h2 : zD2_wipe B ι1 ι2 x r2) : zSF B c ι2 := zSF_fr hS (fun b k q => (zX2_wipe h2 b k q).trans (zX1_wipe h1 b k q))
theorem zXF_off {B c : Nat} {ι ι1 ι2 : Nat → Nat → Int32} {x r1 r2 : Int32} (hS : zSF B c ι) (h1 : zE1_off B ι ι1 x r1) (h2 : zE2_off B ι1 ι2 x r2) : zSF B c ι2 := zSF_fr hS (fun b k q => by
  unfold zSw at q
  have e1 : ι1 b k = ι b k := by
    rcases h1 with ⟨-, -, rfl⟩ | ⟨-, -, rfl⟩
    · rfl
    · rw [zuo (by omega)]
  rcases h2 with ⟨-, -, rfl⟩ | ⟨-, -, rfl⟩
  · exact e1
  · rw [zuo (by omega)]; exact e1)
theorem zXF_set {B c : Nat} {ι ι1 ι2 : Nat → Nat → Int32} {x y u w r1 r2 : Int32} (hS : zSF B c ι) (h1 : zE1_set B c ι ι1 x y u w r1) (h2 : zE2_set B c ι1 ι2 x y u w r2) : zSF B c ι2 := zSF_fr hS (fun b k q => by
  unfold zSw at q
  have e1 : ι1 b k = ι b k := by
    rcases h1 with ⟨-, -, rfl⟩ | ⟨-, -, rfl⟩
    · rfl
    · rw [zuo (by omega)]
  rcases h2 with ⟨-, -, rfl⟩ | ⟨-, -, i, h3, -, rfl⟩
  · exact e1
  · rw [zuo (by omega), h3 b k (by unfold zCq; omega)]; exact e1)
/-- a new SPAN -/
theorem zXF_span {B c : Nat} {ι ι1 ι2 : Nat → Nat → Int32} {r1 r2 : Int32} {x y u w : Int32} (hJ : zJ B c ι) (hR : zRel B c ι) (hS : zSF B c ι) (h1 : zD1_span B ι ι1 c x y u w r1) (h2 : zD2_span B ι1 ι2 c x y u w r2) (he : r1 = r2) : zSF B c ι2 := by
  have hm := (zT1_span hJ h1).2
  have pos : ∀ {p q d : Int}, p ≤ q → 1 ≤ d → 1 ≤ (q - p) / d + 1 := fun {p q d} h3 h4 => by
    have h5 : 0 ≤ (q - p) / d := Int.ediv_nonneg (by omega) (by omega)
    omega
  have t2 : (-2 : Int32).toInt = -2 := rfl
  have t3 : (-3 : Int32).toInt = -3 := rfl
  have t4 : (-4 : Int32).toInt = -4 := rfl
  have same : ∀ {i : Nat → Nat → Int32}, i = ι → ι2 = i → zSF B c ι2 := fun h3 h4 => by rw [h4, h3]; exact hS
  rcases h2 with ⟨-, g0, hi2⟩ | ⟨-, -, g0, hi2⟩ | ⟨-, -, -, g0, hi2⟩ | ⟨hP, -, -, hr2, hi2⟩
  · rcases h1 with ⟨-, -, hi⟩ | ⟨-, -, -, hi⟩ | ⟨-, -, -, -, hi⟩ | ⟨hP, -, -, hr, -⟩
    · exact same hi hi2
    · exact same hi hi2
    · exact same hi hi2
    · have := pos hP.2.2.2.1 hP.2.2.2.2.1
      rw [he, g0] at hr
      omega
  · rcases h1 with ⟨-, -, hi⟩ | ⟨-, -, -, hi⟩ | ⟨-, -, -, -, hi⟩ | ⟨hP, -, -, hr, -⟩
    · exact same hi hi2
    · exact same hi hi2
    · exact same hi hi2
    · have := pos hP.2.2.2.1 hP.2.2.2.2.1
      rw [he, g0] at hr
      omega
  · rcases h1 with ⟨-, -, hi⟩ | ⟨-, -, -, hi⟩ | ⟨-, -, -, -, hi⟩ | ⟨hP, -, -, hr, -⟩
    · exact same hi hi2
    · exact same hi hi2
    · exact same hi hi2
    · have := pos hP.2.2.2.1 hP.2.2.2.2.1
      rw [he, g0] at hr
      omega
  · have hp := pos hP.2.2.2.1 hP.2.2.2.2.1
    rcases h1 with ⟨-, g0, -⟩ | ⟨-, -, g0, -⟩ | ⟨-, -, -, g0, -⟩ | ⟨-, -, hG, hr, f1, -⟩
    · rw [← he, g0] at hr2; omega
    · rw [← he, g0] at hr2; omega
    · rw [← he, g0] at hr2; omega
    · have hx := zclN hP.1.1
      have hx2 := hP.1.2
      have hs4 := (hJ.2.2.2.2.2.2 x.toNatClampNeg (by omega)).2.2.1
      have a4 := (hR.2.2.2.2 x.toNatClampNeg (by omega)).2.2.2.1
      have h4 : ¬ (ι (B + 63 + 7 * x.toNatClampNeg) 5).toInt = 4 := fun q => hG (Or.inl q)
      rw [a4] at f1 h4
      rw [hm (B + 43) (by omega)] at hi2
      have hn := zclN hs4.1
      have e1 := zinc (x := ι (B + 43) x.toNatClampNeg) (by omega)
      generalize hnn : (ι (B + 43) x.toNatClampNeg).toNatClampNeg = n at *
      generalize hj9 : x.toNatClampNeg = q at *
      intro j hj k hk
      by_cases c1 : j = q
      · subst c1
        have e43 : ι2 (B + 43) j = ι (B + 43) j + 1 := by rw [hi2, zu_s]
        rw [e43, e1] at hk
        by_cases c2 : k = n
        · subst c2
          constructor
          · rw [hi2, zuo (by omega), zuo (by omega), zuo (by omega), zuo (by omega), f1 _ (by omega) (by omega), zuo (by omega), zuo (by omega), zuo (by omega), zu_s, zuo (by omega), zuo (by omega), zuo (by omega), zu_s]
          · rw [hi2, zuo (by omega), zuo (by omega), zuo (by omega), zuo (by omega), f1 _ (by omega) (by omega), zuo (by omega), zu_s, zuo (by omega), zu_s]
        · have hk2 : (k : Int) < (ι (B + 43) j).toInt := by omega
          obtain ⟨s1, s2⟩ := hS j hj k hk2
          constructor
          · rw [hi2, zuo (by omega), zuo (by omega), zuo (by omega), zuo (by omega), f1 _ (by omega) (by omega), zuo (by omega), zuo (by omega), zuo (by omega), zuo (by omega), s1, zuo (by omega), zuo (by omega), zuo (by omega), zuo (by omega), hm (B + 44) (by omega)]
          · rw [hi2, zuo (by omega), zuo (by omega), zuo (by omega), zuo (by omega), f1 _ (by omega) (by omega), zuo (by omega), zuo (by omega), zuo (by omega), zuo (by omega), s2, zuo (by omega), zuo (by omega), zuo (by omega), zuo (by omega), hm (B + 46) (by omega)]
      · have e43 : ι2 (B + 43) j = ι (B + 43) j := by rw [hi2, zuo (by omega), zuo (by omega), zuo (by omega), zuo (by omega), hm (B + 43) (by omega)]
        rw [e43] at hk
        have h44 := (hJ.2.2.2.2.2.2 j hj).2.2.1
        obtain ⟨s1, s2⟩ := hS j hj k hk
        constructor
        · rw [hi2, zuo (by omega), zuo (by omega), zuo (by omega), zuo (by omega), f1 _ (by omega) (by omega), zuo (by omega), zuo (by omega), zuo (by omega), zuo (by omega), s1, zuo (by omega), zuo (by omega), zuo (by omega), zuo (by omega), hm (B + 44) (by omega)]
        · rw [hi2, zuo (by omega), zuo (by omega), zuo (by omega), zuo (by omega), f1 _ (by omega) (by omega), zuo (by omega), zuo (by omega), zuo (by omega), zuo (by omega), s2, zuo (by omega), zuo (by omega), zuo (by omega), zuo (by omega), hm (B + 46) (by omega)]
/-- a new SCALE -/
theorem zXF_scale {B c : Nat} {ι ι1 ι2 : Nat → Nat → Int32} {r1 r2 : Int32} {x y u w : Int32} (hJ : zJ B c ι) (hR : zRel B c ι) (hS : zSF B c ι) (h1 : zD1_scale B ι ι1 c x y u w r1) (h2 : zD2_scale B ι1 ι2 c x y u w r2) {c2 : Nat} (hc : c2 = c ∨ ((((1 ≤ y.toInt ∧ y.toInt ≤ 3) ∧ 10 ≤ u.toInt ∧ u.toInt ≤ 990) ∧ c < 8) ∧ c2 = c + 1)) : zSF B c2 ι2 := by
  have f2 : ∀ b k, zSw B b → ι2 b k = ι1 b k := by
    rcases h2 with ⟨-, -, rfl⟩ | ⟨-, -, -, rfl⟩ | ⟨-, -, -, rfl⟩ <;> intro b k q <;> unfold zSw at q
    · rfl
    · rfl
    · rw [zuo (by omega), zuo (by omega), zuo (by omega), zuo (by omega), zuo (by omega)]
  refine zSF_fr ?_ f2
  rcases h1 with ⟨h0, -, rfl⟩ | ⟨h0, h3, -, rfl⟩ | ⟨h0, h3, -, hi⟩
  · rcases hc with rfl | ⟨q, -⟩
    · exact hS
    · exact absurd q.1 h0
  · rcases hc with rfl | ⟨q, -⟩
    · exact hS
    · exact absurd q.2 (by omega)
  · have fr : ∀ b k, b < B + 63 + 7 * c → ¬ (b = B ∧ k = 9) → ι1 b k = ι b k := fun b k q1 q2 => by rw [hi, zuo (by omega), iX7_B (by omega)]
    intro j hj k hk
    by_cases q : j < c
    · rw [fr _ _ (by omega) (by omega)] at hk
      rw [fr _ _ (by omega) (by omega), fr _ _ (by omega) (by omega), fr _ _ (by omega) (by omega), fr _ _ (by omega) (by omega)]
      exact hS j q k hk
    · have e : j = c := by rcases hc with rfl | ⟨-, q2⟩ <;> omega
      rw [fr _ _ (by omega) (by omega), e, hR.2.1 c (Nat.le_refl c), show Int32.toInt 0 = 0 from rfl] at hk
      omega
/-- a SCALE in the digest -/
theorem zD_eq {B c j : Nat} {ι : Nat → Nat → Int32} (hJ : zJ B c ι) (hR : zRD B c ι) (hj : j < c) (h : Int64) : zDc B ι j h = zDm B ι j h := by
  have h8 := hJ.1
  obtain ⟨a1, a2, a3, a4, a5, -, -⟩ := hR.1.1.1.2.2.2.2 j hj
  have hs := (hJ.2.2.2.2.2.2 j hj).2.2.1
  have hn := zclN hs.1
  obtain ⟨o1, o2⟩ := zofj (j := j) (by omega)
  have hP : ∀ v, zPcv B ι j v = zPm B ι (Int32.ofNat j) v := fun v => by
    have e := zP_eq (x := Int32.ofNat j) hR.1 ⟨by omega, by omega⟩ v
    rw [o2] at e
    exact e
  unfold zDc zDm zSd
  rw [hP, hP, a1, a2, a3, a4, hR.1.2.1 j hj, zHp_c (f := ι (B + 63 + 7 * j + 3)) (g := ι (B + 63 + 7 * j + 4)) (e := ι (B + 63 + 7 * j + 5)) (f2 := fun k => ι (B + 44) (4 * j + k)) (g2 := fun k => ι (B + 45) (4 * j + k)) (e2 := fun k => ι (B + 46) (4 * j + k)) (ι (B + 43) j).toNatClampNeg _ (fun k hk => ⟨(hR.2 j hj k (by omega)).1, a5 k (by omega), (hR.2 j hj k (by omega)).2⟩)]
theorem zT_digest {B c : Nat} {ι : Nat → Nat → Int32} {K1 K2 : Nat → Int32} (hJ : zJ B c ι) (hR : zRD B c ι) (h1 : zKs (zK1 B c ι) 7 K1) (h2 : zKs (zK2 B c ι) 7 K2) : zG1 B c ι K1 = zG2 B c ι K2 := by
  have eK : ∀ k, k < 7 → K1 k = K2 k := fun k hk => by
    rcases (show k = 0 ∨ k = 1 ∨ k = 2 ∨ k = 3 ∨ k = 4 ∨ k = 5 ∨ k = 6 by omega) with rfl | rfl | rfl | rfl | rfl | rfl | rfl
    · exact zT_count hJ hR.1 (h1 0 (by decide) (by decide)) (h2 0 (by decide) (by decide))
    · exact zT_count hJ hR.1 (h1 1 (by decide) (by decide)) (h2 1 (by decide) (by decide))
    · exact zT_count hJ hR.1 (h1 2 (by decide) (by decide)) (h2 2 (by decide) (by decide))
    · exact zT_count hJ hR.1 (h1 3 (by decide) (by decide)) (h2 3 (by decide) (by decide))
    · exact zT_count hJ hR.1 (h1 4 (by decide) (by decide)) (h2 4 (by decide) (by decide))
    · exact zT_count hJ hR.1 (h1 5 (by decide) (by decide)) (h2 5 (by decide) (by decide))
    · exact zT_count hJ hR.1 (h1 6 (by decide) (by decide)) (h2 6 (by decide) (by decide))
  have ef := hR.1.1.1.2.2.1
  have hf := hJ.2.2.2.1
  have hfn := zclN hf.1
  have es := hR.1.1.1.2.2.2.1
  have e1 : zDf B c ι K1 = zDg B c ι K2 := by
    unfold zDf zDg
    rw [ef.1, zHs_c 7 _ eK, zHS_c (D := zDc B ι) (E := zDm B ι) c _ (fun k hk h => zD_eq hJ hR hk h), zHs_c (f := ι (B + 13)) (g := ι (B + 47)) (ι (B + 38) 11).toNatClampNeg _ (fun k hk => ef.2 k (by omega))]
  unfold zG1 zG2
  rw [e1]
  refine zHS_c 2 _ (fun s hs h => ?_)
  obtain ⟨b1, b2, -⟩ := es s hs
  have hb := hJ.2.2.2.2.2.1 s hs
  have hbn := zclN hb.1
  unfold zDt zDw
  rw [b1, zHs_c (f := ι (B + 34 + 3 * s)) (g := fun k => ι (B + 49) (60 * s + k)) (ι (B + 48) s).toNatClampNeg _ (fun k hk => (b2 k (by omega)).1)]
