/-! the class, calls (wip/gen/spec_m.py) -/
theorem zStr {τ : Nat → Option (Nat × Nat)} {ρ : Nat → Nat → Option Nat} {B c j : Nat} (hL : zLay τ ρ B c) (hj : j < 2) : ρ (B + 28) j = some (B + 32 + 3 * j) ∧ τ (B + 32 + 3 * j) = some (9, 0) ∧ ρ (B + 32 + 3 * j) 0 = some (B + 33 + 3 * j) ∧ τ (B + 33 + 3 * j) = some (6, 0) ∧ ρ (B + 33 + 3 * j) 0 = some (B + 34 + 3 * j) ∧ τ (B + 34 + 3 * j) = some (13, 60) := by
  rcases (show j = 0 ∨ j = 1 by omega) with rfl | rfl
  · exact ⟨(zrf hL 29 rfl), (zt hL 32 rfl), (zrf hL 32 rfl), (zt hL 33 rfl), (zrf hL 33 rfl), (zt hL 34 rfl)⟩
  · exact ⟨(zrf hL 30 rfl), (zt hL 35 rfl), (zrf hL 34 rfl), (zt hL 36 rfl), (zrf hL 35 rfl), (zt hL 37 rfl)⟩
/-- the class's cells that only store, scales aside -/
def zCx0 (B b : Nat) : Prop := b = B + 8 ∨ b = B + 9 ∨ b = B + 11 ∨ b = B + 15 ∨ b = B + 16 ∨ (B + 20 ≤ b ∧ b ≤ B + 27) ∨ b = B + 29 ∨ b = B + 31
def zCx (B b : Nat) : Prop := b = B + 11 ∨ b = B + 15 ∨ b = B + 16 ∨ (B + 20 ≤ b ∧ b ≤ B + 27) ∨ b = B + 29 ∨ b = B + 31
theorem zFc0_fr {B c : Nat} {ι ι2 : Nat → Nat → Int32} (hJ : zJ B c ι) (h : ∀ b, ¬ zCx0 B b → ι2 b = ι b) : zFc0 B c ι ι2 := by
  refine ⟨fun b k q => ?_, fun j hj => ?_⟩
  · rw [h b (fun q2 => q (by unfold zCx0 at q2; unfold zCc0; omega))]
  · rw [h _ (by unfold zCx0; omega)]
    exact (hJ.2.1.2.2.2.2 j hj).2.2
theorem zFc_fr {B c : Nat} {ι ι2 : Nat → Nat → Int32} (hJ : zJ B c ι) (h : ∀ b, ¬ zCx B b → ι2 b = ι b) : zFc B c ι ι2 := by
  refine ⟨fun b k q => ?_, fun j hj => ?_⟩
  · rw [h b (fun q2 => q (by unfold zCx at q2; unfold zCc; omega))]
  · rw [h _ (by unfold zCx; omega)]
    exact (hJ.2.1.2.2.2.2 j hj).2.2
theorem zFc.rfl {B c : Nat} {ι : Nat → Nat → Int32} (hJ : zJ B c ι) : zFc B c ι ι := zFc_fr hJ (fun _ _ => Eq.refl _)
theorem zFc0.rfl {B c : Nat} {ι : Nat → Nat → Int32} (hJ : zJ B c ι) : zFc0 B c ι ι := zFc0_fr hJ (fun _ _ => Eq.refl _)
theorem tX7_lt {τ : Nat → Option (Nat × Nat)} {z b : Nat} {v : Nat × Nat} (h : b < z) : tX7 (zp τ z v) z (z + 1) b = τ b := by
  simp only [tX7, tX6, zp]
  rw [if_neg (by omega), if_neg (by omega), if_neg (by omega), if_neg (by omega), if_neg (by omega), if_neg (by omega), if_neg (by omega)]
theorem rX7_lt {ρ : Nat → Nat → Option Nat} {z b k : Nat} (h : b < z) : rX7 ρ z (z + 1) b k = ρ b k := by
  simp only [rX7, rX6]
  rw [zu_a (by omega), zu_a (by omega), zu_a (by omega), zu_a (by omega), zu_a (by omega), zu_a (by omega)]
theorem zSc_of {τ τ2 : Nat → Option (Nat × Nat)} {ρ ρ2 : Nat → Nat → Option Nat} {S : Nat} (h : ∀ b, S ≤ b → b ≤ S + 6 → τ2 b = τ b) (h2 : ∀ b k, S ≤ b → b ≤ S + 6 → ρ2 b k = ρ b k) (hS : zSc τ ρ S) : zSc τ2 ρ2 S := by
  unfold zSc
  rw [h S (by omega) (by omega), h (S + 1) (by omega) (by omega), h (S + 2) (by omega) (by omega), h (S + 3) (by omega) (by omega), h (S + 4) (by omega) (by omega), h (S + 5) (by omega) (by omega), h (S + 6) (by omega) (by omega), h2 S 4 (by omega) (by omega), h2 S 6 (by omega) (by omega), h2 S 7 (by omega) (by omega), h2 S 8 (by omega) (by omega), h2 S 9 (by omega) (by omega), h2 (S + 1) 0 (by omega) (by omega)]
  exact hS
theorem zSc_new {τ : Nat → Option (Nat × Nat)} {ρ : Nat → Nat → Option Nat} {z : Nat} : zSc (tX7 (zp τ z (7, 0)) z (z + 1)) (rX7 ρ z (z + 1)) z := by
  unfold zSc
  simp [tX7, tX6, rX7, rX6, zp, zu, Nat.add_assoc]
theorem zLay_new {τ : Nat → Option (Nat × Nat)} {ρ : Nat → Nat → Option Nat} {z B c : Nat} (hL : zLay τ ρ B c) (hz : z = B + 63 + 7 * c) : zLay (tX7 (zp τ z (7, 0)) z (z + 1)) (zu (rX7 ρ z (z + 1)) (B + 10) c (some z)) B (c + 1) := by
  have d1 : ∀ q ∈ ztl, q.1 < 63 := by decide
  have d2 : ∀ q ∈ zrl, q.1 < 63 ∧ q.1 ≠ 10 := by decide
  refine ⟨fun q hq => ?_, fun q hq => ?_, fun j hj => ?_⟩
  · have := d1 q hq
    rw [tX7_lt (by omega)]
    exact hL.1 q hq
  · have := d2 q hq
    rw [zu_a (by omega), rX7_lt (by omega)]
    exact hL.2.1 q hq
  · by_cases e : j = c
    · subst e
      refine ⟨by rw [zu_s, hz], ?_⟩
      rw [← hz]
      refine zSc_of (fun b _ _ => Eq.refl _) (fun b k h1 h2 => zu_a (by omega)) (zSc_new (τ := τ) (ρ := ρ) (z := z))
    · obtain ⟨a1, a2⟩ := hL.2.2 j (by omega)
      refine ⟨by rw [zu_k e, rX7_lt (by omega)]; exact a1, zSc_of (fun b h1 h2 => tX7_lt (by omega)) (fun b k h1 h2 => by rw [zu_a (by omega), rX7_lt (by omega)]) a2⟩
theorem iX7_B {ι : Nat → Nat → Int32} {z b k : Nat} {x y u w : Int32} (h : b < z) : iX7 ι z (z + 1) x y u w b k = ι b k := by
  simp only [iX7, iX6]
  rw [zu_a (by omega), zu_a (by omega), zu_a (by omega), zu_a (by omega), zu_a (by omega), zu_a (by omega), zu_a (by omega), zu_a (by omega)]
theorem zne1 {x : Int32} (h : 1 ≤ x.toInt) : ¬ x = 0 := fun q => by
  rw [q, show Int32.toInt 0 = 0 from rfl] at h
  omega
set_option maxHeartbeats 4000000 in
set_option maxRecDepth 100000 in
theorem c_X7_addSpan (l : Launch) (G : zG) (z : Nat) (τ : Nat → Option (Nat × Nat)) (ρ : Nat → Nat → Option Nat) (ι : Nat → Nat → Int32) (κ : Nat → Nat → Int64) {a mk v fr ts ea pc M5 M6 : Nat} (ha : τ a = some (7, M5)) (g4 : ρ a 4 = some mk) (g6 : ρ a 6 = some fr) (g7 : ρ a 7 = some ts) (g8 : ρ a 8 = some ea) (g9 : ρ a 9 = some pc) (hmk : τ mk = some (6, M6)) (hv0 : ρ mk 0 = some v) (hv : τ v = some (13, 400)) (hfr : τ fr = some (13, 4)) (hto2 : τ ts = some (13, 4)) (hea : τ ea = some (13, 4)) (hpc : τ pc = some (13, 400)) (n0 : 0 ≤ (ι mk 1).toInt) (n1 : (ι mk 1).toInt ≤ 400) (dmv : v ≠ mk) (dma : a ≠ mk) (dva : a ≠ v) (dfm : fr ≠ mk) (dtm : ts ≠ mk) (dem : ea ≠ mk) (dfv : fr ≠ v) (dtv : ts ≠ v) (dev : ea ≠ v) (dfa : fr ≠ a) (dta : ts ≠ a) (dea : ea ≠ a) (x y u : Int32) (s0 : 0 ≤ (ι a 5).toInt) (s1 : (ι a 5).toInt < 4) (x0 : 100 ≤ x.toInt) (xy : x.toInt ≤ y.toInt) (y1 : y.toInt ≤ 100000) (u1 : 1 ≤ u.toInt) (u2 : u.toInt ≤ 10000) (hm : (ι mk 1).toInt + ((y.toInt - x.toInt) / u.toInt + 1) ≤ 400) : zM l G yX7_addSpan cX7_addSpan 5 none ({ frames := 2, cells := 0, slots := 0, locals := 41 } : Room) [.ref a, .int x, .int y, .int u] (z, τ, ρ, ι, κ) (fun v0 s => v0 = none ∧ ∃ ι2, s = (z, τ, ρ, ι2, κ) ∧ (∀ b, b ≠ mk → b ≠ v → ι2 b = (zu (zu (zu (zu ι fr (ι a 5).toNatClampNeg x) ts (ι a 5).toNatClampNeg y) ea (ι a 5).toNatClampNeg u) a 5 (ι a 5 + 1)) b) ∧ (∀ k, k ≠ 1 → ι2 mk k = ι mk k) ∧ (ι2 mk 1).toInt = (ι mk 1).toInt + ((y.toInt - x.toInt) / u.toInt + 1) ∧ (∀ q : Nat, (q : Int) < (ι mk 1).toInt → ι2 v q = ι v q) ∧ ∀ q : Nat, (q : Int) < ((y.toInt - x.toInt) / u.toInt + 1) → (ι2 v ((ι mk 1).toNatClampNeg + q)).toInt = x.toInt + (q : Int) * u.toInt) 0 0 := by
  refine zM_of zCd_X7_addSpan (Nat.le_of_ble_eq_true rfl) ?_
  intro E X hR hE
  subst hE
  show zW E G 5 (z, τ, ρ, ι, κ) 0 0 0 [(0, .ref a), (1, .int x), (2, .int y), (3, .int u)] []
  have hq1 : 0 ≤ (y.toInt - x.toInt) / u.toInt := Int.ediv_nonneg (by omega) (by omega)
  have hnn := zclN n0
  have L57 : ∀ (m j : Nat) (i : Int32) (ι1 : Nat → Nat → Int32), 400 - j < m → i.toInt = x.toInt + (j : Int) * u.toInt → (j : Int) ≤ ((y.toInt - x.toInt) / u.toInt + 1) → ((∀ b, b ≠ mk → b ≠ v → ι1 b = (zu (zu (zu (zu ι fr (ι a 5).toNatClampNeg x) ts (ι a 5).toNatClampNeg y) ea (ι a 5).toNatClampNeg u) a 5 (ι a 5 + 1)) b) ∧ (∀ k, k ≠ 1 → ι1 mk k = ι mk k) ∧ (ι1 mk 1).toInt = (ι mk 1).toInt + (j : Int) ∧ (∀ q : Nat, (q : Int) < (ι mk 1).toInt → ι1 v q = ι v q) ∧ ∀ q : Nat, (q : Int) < (j : Int) → (ι1 v ((ι mk 1).toNatClampNeg + q)).toInt = x.toInt + (q : Int) * u.toInt) → zW E G 5 (z, τ, ρ, ι1, κ) 0 0 57 [(0, .ref a), (1, .int x), (2, .int y), (3, .int u), (4, .int i)] [] := by
    intro m
    induction m with
    | zero => intro j i ι1 h; omega
    | succ m ih => ?_
    intro j i ι1 hm2 hi hj ⟨f1, f2, f3, f4, f5⟩
    refine r_iload X (by rfl) dX7_addSpan_57 ?_
    refine r_iload_n X (by rfl) dX7_addSpan_59 ?_
    refine r_icmp_gt X 92 dX7_addSpan_60 (by decide) (fun h60 => ?_) (fun h60 => ?_)
    · refine r_return X hR dX7_addSpan_92 (Nat.zero_le _) (Nat.zero_le _) ?_
      have hju : y.toInt - x.toInt < (j : Int) * u.toInt := by omega
      have hj2 : (y.toInt - x.toInt) / u.toInt < (j : Int) := Int.ediv_lt_of_lt_mul (by omega) hju
      have hje : (j : Int) = ((y.toInt - x.toInt) / u.toInt + 1) := by omega
      rw [hje] at f3 f5
      exact ⟨rfl, _, rfl, f1, f2, f3, f4, f5⟩
    · have hj0 : 0 ≤ (j : Int) * u.toInt := Int.mul_nonneg (by omega) (by omega)
      have hju : (j : Int) * u.toInt ≤ y.toInt - x.toInt := by omega
      have hj2 : (j : Int) ≤ (y.toInt - x.toInt) / u.toInt := Int.le_ediv_of_mul_le (by omega) hju
      have hfull : (ι1 mk 1).toInt < 400 := by omega
      have e1 := zinc (x := ι1 mk 1) (by omega)
      have h1n := zclN (i := ι1 mk 1) (by omega)
      refine r_aload_n X (by rfl) dX7_addSpan_63 ?_
      refine r_getR X dX7_addSpan_64 zF_X7_16 ha g4 ?_
      refine r_callV X dX7_addSpan_67 zLV_X7_65 zCd_X6_isFull (c_X6_isFull _ G z τ ρ _ _ hmk hv0 hv (by decide)) hmk ⟨by decide, rfl, rfl⟩ rfl rfl ⟨⟨rfl, rfl⟩, ⟨by decide, by decide⟩, ⟨Nat.le_of_ble_eq_true rfl, Nat.le_of_ble_eq_true rfl⟩, Nat.le_of_ble_eq_true rfl⟩ ?_
      rintro _ _ ⟨rfl, rfl⟩
      rw [if_neg (by omega)]
      refine r_if_ne X 92 dX7_addSpan_70 (by decide) (fun h70 => ?_) (fun h70 => ?_)
      · exact absurd h70 (by decide)
      · refine r_aload_n X (by rfl) dX7_addSpan_73 ?_
        refine r_getR X dX7_addSpan_74 zF_X7_16 ha g4 ?_
        refine r_iload X (by rfl) dX7_addSpan_77 ?_
        refine r_callV X dX7_addSpan_79 zLV_X7_69 zCd_X6_append (c_X6_append _ G z τ ρ _ _ hmk hv0 hv _ (by decide) (by omega) (by omega) dmv) hmk ⟨by decide, rfl, rfl⟩ rfl rfl ⟨⟨rfl, rfl⟩, ⟨by decide, by decide⟩, ⟨Nat.le_of_ble_eq_true rfl, Nat.le_of_ble_eq_true rfl⟩, Nat.le_of_ble_eq_true rfl⟩ ?_
        rintro _ _ ⟨rfl, rfl⟩
        refine r_pop X rfl dX7_addSpan_82 ?_
        refine r_iload X (by rfl) dX7_addSpan_83 ?_
        refine r_iload_n X (by rfl) dX7_addSpan_85 ?_
        refine r_iadd X dX7_addSpan_86 ?_
        refine r_istore X (by decide) dX7_addSpan_87 ?_
        refine r_goto X 57 dX7_addSpan_89 (by decide) ?_
        exact zW.loc5 (by rfl) (by rfl) (by rfl) (by rfl) (by rfl) (ih (j + 1) _ _ (by omega) (by rw [zaddI (x := i) (y := u) (by omega) (by omega), hi, Int.natCast_add, Int.add_mul]; omega) (by omega) ⟨fun b h1 h2 => by rw [zu_r h1, zu_r h2]; exact f1 b h1 h2, fun k hk => by rw [zu_k hk, zu_a (Ne.symm dmv)]; exact f2 k hk, by rw [zu_s, e1, f3]; omega, fun q hq => by rw [zu_r dmv, zu_k (by omega)]; exact f4 q hq, fun q hq => by
          rw [zu_r dmv]
          by_cases e : (q : Int) = (j : Int)
          · rw [show (ι mk 1).toNatClampNeg + q = (ι1 mk 1).toNatClampNeg by omega, zu_s, hi, e]
          · rw [zu_k (by omega)]; exact f5 q (by omega)⟩)
  refine r_aload_n X (by rfl) dX7_addSpan_0 ?_
  refine r_getI X dX7_addSpan_1 zF_X7_20 ha ?_
  refine r_iconst X 4 (by decide) dX7_addSpan_4 ?_
  refine r_icmp_ge X 13 dX7_addSpan_5 (by decide) (fun h5 => ?_) (fun h5 => ?_)
  · rw [show Int32.toInt 4 = 4 from rfl] at h5
    omega
  · rw [show Int32.toInt 4 = 4 from rfl] at h5
    refine r_iload_n X (by rfl) dX7_addSpan_8 ?_
    refine r_iconst X 1 (by decide) dX7_addSpan_9 ?_
    refine r_icmp_ge X 14 dX7_addSpan_10 (by decide) (fun h10 => ?_) (fun h10 => ?_)
    · rw [show Int32.toInt 1 = 1 from rfl] at h10
      refine r_aload_n X (by rfl) dX7_addSpan_14 ?_
      refine r_getR X dX7_addSpan_15 zF_X7_24 ha g6 ?_
      refine r_aload_n X (by rfl) dX7_addSpan_18 ?_
      refine r_getI X dX7_addSpan_19 zF_X7_20 ha ?_
      refine r_iload_n X (by rfl) dX7_addSpan_22 ?_
      refine r_iastore X dX7_addSpan_23 hfr (vp_in_iff.mpr ⟨s0, by omega⟩) ?_
      refine r_aload_n X (by rfl) dX7_addSpan_24 ?_
      refine r_getR X dX7_addSpan_25 zF_X7_28 ha g7 ?_
      refine r_aload_n X (by rfl) dX7_addSpan_28 ?_
      refine r_getI X dX7_addSpan_29 zF_X7_20 ha ?_
      rw [zu_a (Ne.symm dfa)]
      refine r_iload_n X (by rfl) dX7_addSpan_32 ?_
      refine r_iastore X dX7_addSpan_33 hto2 (vp_in_iff.mpr ⟨s0, by omega⟩) ?_
      refine r_aload_n X (by rfl) dX7_addSpan_34 ?_
      refine r_getR X dX7_addSpan_35 zF_X7_31 ha g8 ?_
      refine r_aload_n X (by rfl) dX7_addSpan_38 ?_
      refine r_getI X dX7_addSpan_39 zF_X7_20 ha ?_
      rw [zu_a (Ne.symm dta), zu_a (Ne.symm dfa)]
      refine r_iload_n X (by rfl) dX7_addSpan_42 ?_
      refine r_iastore X dX7_addSpan_43 hea (vp_in_iff.mpr ⟨s0, by omega⟩) ?_
      refine r_aload_n X (by rfl) dX7_addSpan_44 ?_
      refine r_dup X rfl dX7_addSpan_45 ?_
      refine r_getI X dX7_addSpan_46 zF_X7_20 ha ?_
      rw [zu_a (Ne.symm dea), zu_a (Ne.symm dta), zu_a (Ne.symm dfa)]
      refine r_iconst X 1 (by decide) dX7_addSpan_49 ?_
      refine r_iadd X dX7_addSpan_50 ?_
      refine r_putI X dX7_addSpan_51 zF_X7_20 ha rfl rfl ?_
      refine r_iload_n X (by rfl) dX7_addSpan_54 ?_
      refine r_istore X (by decide) dX7_addSpan_55 ?_
      exact zW.loc5 (by rfl) (by rfl) (by rfl) (by rfl) (by rfl) (L57 401 0 _ _ (by omega) (by omega) (by omega) ⟨fun _ _ _ => rfl, fun k hk => by rw [zu_a (Ne.symm dma), zu_a (Ne.symm dem), zu_a (Ne.symm dtm), zu_a (Ne.symm dfm)], by rw [zu_a (Ne.symm dma), zu_a (Ne.symm dem), zu_a (Ne.symm dtm), zu_a (Ne.symm dfm)]; omega, fun q hq => by rw [zu_a (Ne.symm dva), zu_a (Ne.symm dev), zu_a (Ne.symm dtv), zu_a (Ne.symm dfv)], fun q hq => by omega⟩)
    · rw [show Int32.toInt 1 = 1 from rfl] at h10
      omega
set_option maxHeartbeats 4000000 in
set_option maxRecDepth 100000 in
theorem c_X11_isNumber (l : Launch) (G : zG) (z : Nat) (τ : Nat → Option (Nat × Nat)) (ρ : Nat → Nat → Option Nat) (ι : Nat → Nat → Int32) (κ : Nat → Nat → Int64) (x : Int32) : zM l G yX11_isNumber cX11_isNumber 1 (some .boolean) ({ frames := 0, cells := 0, slots := 0, locals := 0 } : Room) [.int x] (z, τ, ρ, ι, κ) (fun v s => v = some (.int (if 100 ≤ x.toInt ∧ x.toInt ≤ 100000 then 1 else 0)) ∧ s = (z, τ, ρ, ι, κ)) 0 0 := by
  refine zM_of zCd_X11_isNumber (Nat.le_of_ble_eq_true rfl) ?_
  intro E X hR hE
  subst hE
  show zW E G 1 (z, τ, ρ, ι, κ) 0 0 0 [(0, .int x)] []
  refine r_iload_n X (by rfl) dX11_isNumber_0 ?_
  refine r_bipush X 100 (by decide) dX11_isNumber_1 ?_
  refine r_icmp_lt X 16 dX11_isNumber_3 (by decide) (fun h3 => ?_) (fun h3 => ?_)
  · rw [show Int32.toInt 100 = 100 from rfl] at h3
    refine r_iconst X 0 (by decide) dX11_isNumber_16 ?_
    refine r_ireturn X hR dX11_isNumber_17 rfl (Nat.zero_le _) (Nat.zero_le _) ?_
    exact ⟨by first | rw [if_pos (by omega)] | rw [if_neg (by omega)], rfl⟩
  · rw [show Int32.toInt 100 = 100 from rfl] at h3
    refine r_iload_n X (by rfl) dX11_isNumber_6 ?_
    refine r_ldc X zK_X11_224 dX11_isNumber_7 ?_
    refine r_icmp_gt X 16 dX11_isNumber_9 (by decide) (fun h9 => ?_) (fun h9 => ?_)
    · rw [show Int32.toInt 100000 = 100000 from rfl] at h9
      refine r_iconst X 0 (by decide) dX11_isNumber_16 ?_
      refine r_ireturn X hR dX11_isNumber_17 rfl (Nat.zero_le _) (Nat.zero_le _) ?_
      exact ⟨by first | rw [if_pos (by omega)] | rw [if_neg (by omega)], rfl⟩
    · rw [show Int32.toInt 100000 = 100000 from rfl] at h9
      refine r_iconst X 1 (by decide) dX11_isNumber_12 ?_
      refine r_goto X 17 dX11_isNumber_13 (by decide) ?_
      refine r_ireturn X hR dX11_isNumber_17 rfl (Nat.zero_le _) (Nat.zero_le _) ?_
      exact ⟨by first | rw [if_pos (by omega)] | rw [if_neg (by omega)], rfl⟩
set_option maxHeartbeats 4000000 in
set_option maxRecDepth 100000 in
theorem c_X11_isAskedPlace (l : Launch) (G : zG) (z : Nat) (τ : Nat → Option (Nat × Nat)) (ρ : Nat → Nat → Option Nat) (ι : Nat → Nat → Int32) (κ : Nat → Nat → Int64) (x : Int32) : zM l G yX11_isAskedPlace cX11_isAskedPlace 1 (some .boolean) ({ frames := 0, cells := 0, slots := 0, locals := 0 } : Room) [.int x] (z, τ, ρ, ι, κ) (fun v s => v = some (.int (if -1000000 ≤ x.toInt ∧ x.toInt ≤ 1000000 then 1 else 0)) ∧ s = (z, τ, ρ, ι, κ)) 0 0 := by
  refine zM_of zCd_X11_isAskedPlace (Nat.le_of_ble_eq_true rfl) ?_
  intro E X hR hE
  subst hE
  show zW E G 1 (z, τ, ρ, ι, κ) 0 0 0 [(0, .int x)] []
  refine r_iload_n X (by rfl) dX11_isAskedPlace_0 ?_
  refine r_ldcw X zK_X11_263 dX11_isAskedPlace_1 ?_
  refine r_icmp_lt X 17 dX11_isAskedPlace_4 (by decide) (fun h4 => ?_) (fun h4 => ?_)
  · rw [show Int32.toInt (-1000000) = -1000000 from rfl] at h4
    refine r_iconst X 0 (by decide) dX11_isAskedPlace_17 ?_
    refine r_ireturn X hR dX11_isAskedPlace_18 rfl (Nat.zero_le _) (Nat.zero_le _) ?_
    exact ⟨by first | rw [if_pos (by omega)] | rw [if_neg (by omega)], rfl⟩
  · rw [show Int32.toInt (-1000000) = -1000000 from rfl] at h4
    refine r_iload_n X (by rfl) dX11_isAskedPlace_7 ?_
    refine r_ldc X zK_X11_217 dX11_isAskedPlace_8 ?_
    refine r_icmp_gt X 17 dX11_isAskedPlace_10 (by decide) (fun h10 => ?_) (fun h10 => ?_)
    · rw [show Int32.toInt 1000000 = 1000000 from rfl] at h10
      refine r_iconst X 0 (by decide) dX11_isAskedPlace_17 ?_
      refine r_ireturn X hR dX11_isAskedPlace_18 rfl (Nat.zero_le _) (Nat.zero_le _) ?_
      exact ⟨by first | rw [if_pos (by omega)] | rw [if_neg (by omega)], rfl⟩
    · rw [show Int32.toInt 1000000 = 1000000 from rfl] at h10
      refine r_iconst X 1 (by decide) dX11_isAskedPlace_13 ?_
      refine r_goto X 18 dX11_isAskedPlace_14 (by decide) ?_
      refine r_ireturn X hR dX11_isAskedPlace_18 rfl (Nat.zero_le _) (Nat.zero_le _) ?_
      exact ⟨by first | rw [if_pos (by omega)] | rw [if_neg (by omega)], rfl⟩
set_option maxHeartbeats 4000000 in
set_option maxRecDepth 100000 in
theorem c_X11_isPower (l : Launch) (G : zG) (z : Nat) (τ : Nat → Option (Nat × Nat)) (ρ : Nat → Nat → Option Nat) (ι : Nat → Nat → Int32) (κ : Nat → Nat → Int64) (x : Int32) : zM l G yX11_isPower cX11_isPower 1 (some .boolean) ({ frames := 0, cells := 0, slots := 0, locals := 0 } : Room) [.int x] (z, τ, ρ, ι, κ) (fun v s => v = some (.int (if -8 ≤ x.toInt ∧ x.toInt ≤ 8 then 1 else 0)) ∧ s = (z, τ, ρ, ι, κ)) 0 0 := by
  refine zM_of zCd_X11_isPower (Nat.le_of_ble_eq_true rfl) ?_
  intro E X hR hE
  subst hE
  show zW E G 1 (z, τ, ρ, ι, κ) 0 0 0 [(0, .int x)] []
  refine r_iload_n X (by rfl) dX11_isPower_0 ?_
  refine r_bipush X (-8) (by decide) dX11_isPower_1 ?_
  refine r_icmp_lt X 16 dX11_isPower_3 (by decide) (fun h3 => ?_) (fun h3 => ?_)
  · rw [show Int32.toInt (-8) = -8 from rfl] at h3
    refine r_iconst X 0 (by decide) dX11_isPower_16 ?_
    refine r_ireturn X hR dX11_isPower_17 rfl (Nat.zero_le _) (Nat.zero_le _) ?_
    exact ⟨by first | rw [if_pos (by omega)] | rw [if_neg (by omega)], rfl⟩
  · rw [show Int32.toInt (-8) = -8 from rfl] at h3
    refine r_iload_n X (by rfl) dX11_isPower_6 ?_
    refine r_bipush X 8 (by decide) dX11_isPower_7 ?_
    refine r_icmp_gt X 16 dX11_isPower_9 (by decide) (fun h9 => ?_) (fun h9 => ?_)
    · rw [show Int32.toInt 8 = 8 from rfl] at h9
      refine r_iconst X 0 (by decide) dX11_isPower_16 ?_
      refine r_ireturn X hR dX11_isPower_17 rfl (Nat.zero_le _) (Nat.zero_le _) ?_
      exact ⟨by first | rw [if_pos (by omega)] | rw [if_neg (by omega)], rfl⟩
    · rw [show Int32.toInt 8 = 8 from rfl] at h9
      refine r_iconst X 1 (by decide) dX11_isPower_12 ?_
      refine r_goto X 17 dX11_isPower_13 (by decide) ?_
      refine r_ireturn X hR dX11_isPower_17 rfl (Nat.zero_le _) (Nat.zero_le _) ?_
      exact ⟨by first | rw [if_pos (by omega)] | rw [if_neg (by omega)], rfl⟩
set_option maxHeartbeats 4000000 in
set_option maxRecDepth 100000 in
theorem c_X11_scaleAt (l : Launch) (G : zG) (z : Nat) (τ : Nat → Option (Nat × Nat)) (ρ : Nat → Nat → Option Nat) (ι : Nat → Nat → Int32) (κ : Nat → Nat → Int64) {B c : Nat} (hL : zLay τ ρ B c) (hJ : zJ B c ι) (x : Int32) : zM l G yX11_scaleAt cX11_scaleAt 2 (some (.object "SlideRules$Scale")) ({ frames := 0, cells := 0, slots := 0, locals := 0 } : Room) [.ref B, .int x] (z, τ, ρ, ι, κ) (fun v s => (v = some .null ∧ ¬ (0 ≤ x.toInt ∧ x.toInt < (c : Int)) ∧ s = (z, τ, ρ, ι, κ)) ∨ (v = some (.ref (B + 63 + 7 * x.toNatClampNeg)) ∧ (0 ≤ x.toInt ∧ x.toInt < (c : Int)) ∧ s = (z, τ, ρ, ι, κ))) 0 0 := by
  refine zM_of zCd_X11_scaleAt (Nat.le_of_ble_eq_true rfl) ?_
  intro E X hR hE
  subst hE
  show zW E G 2 (z, τ, ρ, ι, κ) 0 0 0 [(0, .ref B), (1, .int x)] []
  obtain ⟨h8, ⟨hc1, hc2, hc3, hc4, hc5⟩, hJm⟩ := id hJ
  refine r_iload_n X (by rfl) dX11_scaleAt_0 ?_
  refine r_if_lt X 21 dX11_scaleAt_1 (by decide) (fun h1 => ?_) (fun h1 => ?_)
  · refine r_null X dX11_scaleAt_21 ?_
    refine r_areturn X hR (Or.inl rfl) dX11_scaleAt_22 (Nat.zero_le _) (Nat.zero_le _) ?_
    first | exact Or.inl ⟨rfl, fun h => by omega, rfl⟩ | exact Or.inr ⟨rfl, ⟨by omega, by omega⟩, rfl⟩
  · refine r_iload_n X (by rfl) dX11_scaleAt_4 ?_
    refine r_aload_n X (by rfl) dX11_scaleAt_5 ?_
    refine r_getI X dX11_scaleAt_6 zF_X11_70 (zt hL 0 rfl) ?_
    refine r_icmp_ge X 21 dX11_scaleAt_9 (by decide) (fun h9 => ?_) (fun h9 => ?_)
    · refine r_null X dX11_scaleAt_21 ?_
      refine r_areturn X hR (Or.inl rfl) dX11_scaleAt_22 (Nat.zero_le _) (Nat.zero_le _) ?_
      first | exact Or.inl ⟨rfl, fun h => by omega, rfl⟩ | exact Or.inr ⟨rfl, ⟨by omega, by omega⟩, rfl⟩
    · refine r_aload_n X (by rfl) dX11_scaleAt_12 ?_
      refine r_getR X dX11_scaleAt_13 zF_X11_25 (zt hL 0 rfl) (zrf hL 2 rfl) ?_
      refine r_iload_n X (by rfl) dX11_scaleAt_16 ?_
      refine r_aaload X dX11_scaleAt_17 (zt hL 10 rfl) (by decide) (vp_in_iff.mpr ⟨by omega, by omega⟩) (hL.2.2 x.toNatClampNeg (by have := zclN (i := x) (by omega); omega)).1 ?_
      refine r_goto X 22 dX11_scaleAt_18 (by decide) ?_
      refine r_areturn X hR (Or.inr ⟨_, rfl⟩) dX11_scaleAt_22 (Nat.zero_le _) (Nat.zero_le _) ?_
      first | exact Or.inl ⟨rfl, fun h => by omega, rfl⟩ | exact Or.inr ⟨rfl, ⟨by omega, by omega⟩, rfl⟩
set_option maxHeartbeats 4000000 in
set_option maxRecDepth 100000 in
theorem c_X11_rule (l : Launch) (G : zG) (z : Nat) (τ : Nat → Option (Nat × Nat)) (ρ : Nat → Nat → Option Nat) (ι : Nat → Nat → Int32) (κ : Nat → Nat → Int64) {B c : Nat} (hL : zLay τ ρ B c) (hJ : zJ B c ι) (x : Int32) : zM l G yX11_rule cX11_rule 3 (some .int) ({ frames := 0, cells := 0, slots := 0, locals := 0 } : Room) [.ref B, .int x] (z, τ, ρ, ι, κ) (fun v s => (¬ (100 ≤ x.toInt ∧ x.toInt ≤ 50000) ∧ v = some (.int (-2)) ∧ s = (z, τ, ρ, ι, κ)) ∨ ((100 ≤ x.toInt ∧ x.toInt ≤ 50000) ∧ v = some (.int (ι B 10)) ∧ s = (z, τ, ρ, zu ι B 10 x, κ))) 0 0 := by
  refine zM_of zCd_X11_rule (Nat.le_of_ble_eq_true rfl) ?_
  intro E X hR hE
  subst hE
  show zW E G 3 (z, τ, ρ, ι, κ) 0 0 0 [(0, .ref B), (1, .int x)] []
  refine r_iload_n X (by rfl) dX11_rule_0 ?_
  refine r_bipush X 100 (by decide) dX11_rule_1 ?_
  refine r_icmp_lt X 12 dX11_rule_3 (by decide) (fun h3 => ?_) (fun h3 => ?_)
  · rw [show Int32.toInt 100 = 100 from rfl] at h3
    refine r_bipush X (-2) (by decide) dX11_rule_12 ?_
    refine r_ireturn X hR dX11_rule_14 rfl (Nat.zero_le _) (Nat.zero_le _) ?_
    exact Or.inl ⟨fun h => by omega, rfl, rfl⟩
  · rw [show Int32.toInt 100 = 100 from rfl] at h3
    refine r_iload_n X (by rfl) dX11_rule_6 ?_
    refine r_ldc X zK_X11_81 dX11_rule_7 ?_
    refine r_icmp_le X 15 dX11_rule_9 (by decide) (fun h9 => ?_) (fun h9 => ?_)
    · rw [show Int32.toInt 50000 = 50000 from rfl] at h9
      refine r_aload_n X (by rfl) dX11_rule_15 ?_
      refine r_getI X dX11_rule_16 zF_X11_74 (zt hL 0 rfl) ?_
      refine r_istore_n X (by decide) dX11_rule_19 ?_
      refine r_aload_n X (by rfl) dX11_rule_20 ?_
      refine r_iload_n X (by rfl) dX11_rule_21 ?_
      refine r_putI X dX11_rule_22 zF_X11_74 (zt hL 0 rfl) rfl rfl ?_
      refine r_iload_n X (by rfl) dX11_rule_25 ?_
      refine r_ireturn X hR dX11_rule_26 rfl (Nat.zero_le _) (Nat.zero_le _) ?_
      exact Or.inr ⟨⟨by omega, by omega⟩, rfl, rfl⟩
    · rw [show Int32.toInt 50000 = 50000 from rfl] at h9
      refine r_bipush X (-2) (by decide) dX11_rule_12 ?_
      refine r_ireturn X hR dX11_rule_14 rfl (Nat.zero_le _) (Nat.zero_le _) ?_
      exact Or.inl ⟨fun h => by omega, rfl, rfl⟩
set_option maxHeartbeats 4000000 in
set_option maxRecDepth 100000 in
theorem c_X11_off (l : Launch) (G : zG) (z : Nat) (τ : Nat → Option (Nat × Nat)) (ρ : Nat → Nat → Option Nat) (ι : Nat → Nat → Int32) (κ : Nat → Nat → Int64) {B c : Nat} (hL : zLay τ ρ B c) (hJ : zJ B c ι) (x : Int32) : zM l G yX11_off cX11_off 3 (some .int) ({ frames := 0, cells := 0, slots := 0, locals := 0 } : Room) [.ref B, .int x] (z, τ, ρ, ι, κ) (fun v s => (¬ (-200000 ≤ x.toInt ∧ x.toInt ≤ 200000) ∧ v = some (.int (-2000000000)) ∧ s = (z, τ, ρ, ι, κ)) ∨ ((-200000 ≤ x.toInt ∧ x.toInt ≤ 200000) ∧ v = some (.int (ι B 11)) ∧ s = (z, τ, ρ, zu ι B 11 x, κ))) 0 0 := by
  refine zM_of zCd_X11_off (Nat.le_of_ble_eq_true rfl) ?_
  intro E X hR hE
  subst hE
  show zW E G 3 (z, τ, ρ, ι, κ) 0 0 0 [(0, .ref B), (1, .int x)] []
  refine r_iload_n X (by rfl) dX11_off_0 ?_
  refine r_ldc X zK_X11_132 dX11_off_1 ?_
  refine r_icmp_lt X 12 dX11_off_3 (by decide) (fun h3 => ?_) (fun h3 => ?_)
  · rw [show Int32.toInt (-200000) = -200000 from rfl] at h3
    refine r_ldc X zK_X11_93 dX11_off_12 ?_
    refine r_ireturn X hR dX11_off_14 rfl (Nat.zero_le _) (Nat.zero_le _) ?_
    exact Or.inl ⟨fun h => by omega, rfl, rfl⟩
  · rw [show Int32.toInt (-200000) = -200000 from rfl] at h3
    refine r_iload_n X (by rfl) dX11_off_6 ?_
    refine r_ldc X zK_X11_133 dX11_off_7 ?_
    refine r_icmp_le X 15 dX11_off_9 (by decide) (fun h9 => ?_) (fun h9 => ?_)
    · rw [show Int32.toInt 200000 = 200000 from rfl] at h9
      refine r_aload_n X (by rfl) dX11_off_15 ?_
      refine r_getI X dX11_off_16 zF_X11_77 (zt hL 0 rfl) ?_
      refine r_istore_n X (by decide) dX11_off_19 ?_
      refine r_aload_n X (by rfl) dX11_off_20 ?_
      refine r_iload_n X (by rfl) dX11_off_21 ?_
      refine r_putI X dX11_off_22 zF_X11_77 (zt hL 0 rfl) rfl rfl ?_
      refine r_iload_n X (by rfl) dX11_off_25 ?_
      refine r_ireturn X hR dX11_off_26 rfl (Nat.zero_le _) (Nat.zero_le _) ?_
      exact Or.inr ⟨⟨by omega, by omega⟩, rfl, rfl⟩
    · rw [show Int32.toInt 200000 = 200000 from rfl] at h9
      refine r_ldc X zK_X11_93 dX11_off_12 ?_
      refine r_ireturn X hR dX11_off_14 rfl (Nat.zero_le _) (Nat.zero_le _) ?_
      exact Or.inl ⟨fun h => by omega, rfl, rfl⟩
set_option maxHeartbeats 4000000 in
set_option maxRecDepth 100000 in
theorem c_X11_place (l : Launch) (G : zG) (z : Nat) (τ : Nat → Option (Nat × Nat)) (ρ : Nat → Nat → Option Nat) (ι : Nat → Nat → Int32) (κ : Nat → Nat → Int64) {B c : Nat} (hL : zLay τ ρ B c) (hJ : zJ B c ι) (x y : Int32) : zM l G yX11_place cX11_place 4 (some .int) ({ frames := 5, cells := 0, slots := 0, locals := 126 } : Room) [.ref B, .int x, .int y] (z, τ, ρ, ι, κ) (fun v s => ∃ r κ2, v = some (.int r) ∧ s = (z, τ, ρ, ι, κ2)) 0 0 := by
  refine zM_of zCd_X11_place (Nat.le_of_ble_eq_true rfl) ?_
  intro E X hR hE
  subst hE
  show zW E G 4 (z, τ, ρ, ι, κ) 0 0 0 [(0, .ref B), (1, .int x), (2, .int y)] []
  obtain ⟨h8, ⟨hc1, hc2, hc3, hc4, hc5⟩, hJm⟩ := id hJ
  have hsc : (0 ≤ x.toInt ∧ x.toInt < (c : Int)) → zSc τ ρ (B + 63 + 7 * x.toNatClampNeg) := fun h => (hL.2.2 _ (by have := zclN h.1; omega)).2
  have hjs : (0 ≤ x.toInt ∧ x.toInt < (c : Int)) → zJs ι (B + 63 + 7 * x.toNatClampNeg) := fun h => hc5 _ (by have := zclN h.1; omega)
  refine r_aload_n X (by rfl) dX11_place_0 ?_
  refine r_iload_n X (by rfl) dX11_place_1 ?_
  refine r_callV X dX11_place_2 zLV_X11_85 zCd_X11_scaleAt (c_X11_scaleAt _ G z τ ρ _ _ hL hJ _) (zt hL 0 rfl) ⟨by decide, rfl, rfl⟩ rfl rfl ⟨⟨rfl, rfl⟩, ⟨by decide, by decide⟩, ⟨Nat.le_of_ble_eq_true rfl, Nat.le_of_ble_eq_true rfl⟩, Nat.le_of_ble_eq_true rfl⟩ ?_
  rintro _ _ (⟨rfl, hx, rfl⟩ | ⟨rfl, hx, rfl⟩)
  · refine r_astore_nN X (by decide) dX11_place_5 ?_
    refine r_aload_nN X (by rfl) dX11_place_6 ?_
    refine r_ifnullN X 17 dX11_place_7 (by decide) ?_
    refine r_ldc X zK_X11_93 dX11_place_17 ?_
    refine r_ireturn X hR dX11_place_19 rfl (Nat.zero_le _) (Nat.zero_le _) ?_
    exact ⟨_, _, rfl, rfl⟩
  · refine r_astore_n X (by decide) dX11_place_5 ?_
    refine r_aload_n X (by rfl) dX11_place_6 ?_
    refine r_ifnull X dX11_place_7 ?_
    refine r_iload_n X (by rfl) dX11_place_10 ?_
    refine r_callS X dX11_place_11 zLS_X11_89 zCd_X11_isNumber (c_X11_isNumber _ G z τ ρ _ _ _) rfl rfl ⟨⟨rfl, rfl⟩, ⟨by decide, by decide⟩, ⟨Nat.le_of_ble_eq_true rfl, Nat.le_of_ble_eq_true rfl⟩, Nat.le_of_ble_eq_true rfl⟩ ?_
    rintro _ _ ⟨rfl, rfl⟩
    refine r_if_ne X 20 dX11_place_14 (by decide) (fun h14 => ?_) (fun h14 => ?_)
    · refine r_aload_n X (by rfl) dX11_place_20 ?_
      refine r_iload_n X (by rfl) dX11_place_21 ?_
      refine r_aload_n X (by rfl) dX11_place_22 ?_
      refine r_getI X dX11_place_23 zF_X11_74 (zt hL 0 rfl) ?_
      refine r_aload_n X (by rfl) dX11_place_26 ?_
      refine r_getR X dX11_place_27 zF_X11_10 (zt hL 0 rfl) (zrf hL 0 rfl) ?_
      refine r_callV X dX11_place_30 zLV_X11_94 zCd_X7_placeOf (c_X7_placeOf _ G z τ ρ _ _ (zt hL 1 rfl) (zrf hL 9 rfl) (zrf hL 10 rfl) (zrf hL 11 rfl) (zrf hL 12 rfl) (zrf hL 13 rfl) (zt hL 2 rfl) (zt hL 3 rfl) (zt hL 4 rfl) (zt hL 5 rfl) (zt hL 6 rfl) (by omega) (by omega) (hsc hx).1 _ _) (hsc hx).1 ⟨by decide, rfl, rfl⟩ rfl rfl ⟨⟨rfl, rfl⟩, ⟨by decide, by decide⟩, ⟨Nat.le_of_ble_eq_true rfl, Nat.le_of_ble_eq_true rfl⟩, Nat.le_of_ble_eq_true rfl⟩ ?_
      rintro _ _ ⟨r, κ2, rfl, rfl⟩
      refine r_ireturn X hR dX11_place_33 rfl (Nat.zero_le _) (Nat.zero_le _) ?_
      exact ⟨_, _, rfl, rfl⟩
    · refine r_ldc X zK_X11_93 dX11_place_17 ?_
      refine r_ireturn X hR dX11_place_19 rfl (Nat.zero_le _) (Nat.zero_le _) ?_
      exact ⟨_, _, rfl, rfl⟩
set_option maxHeartbeats 4000000 in
set_option maxRecDepth 100000 in
theorem c_X11_span (l : Launch) (G : zG) (z : Nat) (τ : Nat → Option (Nat × Nat)) (ρ : Nat → Nat → Option Nat) (ι : Nat → Nat → Int32) (κ : Nat → Nat → Int64) {B c : Nat} (hL : zLay τ ρ B c) (hJ : zJ B c ι) (x y u w : Int32) : zM l G yX11_span cX11_span 7 (some .int) ({ frames := 3, cells := 0, slots := 0, locals := 65 } : Room) [.ref B, .int x, .int y, .int u, .int w] (z, τ, ρ, ι, κ) (fun v s => (¬ ((0 ≤ x.toInt ∧ x.toInt < (c : Int)) ∧ (100 ≤ y.toInt ∧ y.toInt ≤ 100000) ∧ (100 ≤ u.toInt ∧ u.toInt ≤ 100000) ∧ y.toInt ≤ u.toInt ∧ 1 ≤ w.toInt ∧ w.toInt ≤ 10000) ∧ v = some (.int (-2)) ∧ s = (z, τ, ρ, ι, κ)) ∨ (((0 ≤ x.toInt ∧ x.toInt < (c : Int)) ∧ (100 ≤ y.toInt ∧ y.toInt ≤ 100000) ∧ (100 ≤ u.toInt ∧ u.toInt ≤ 100000) ∧ y.toInt ≤ u.toInt ∧ 1 ≤ w.toInt ∧ w.toInt ≤ 10000) ∧ (0 < (ι (B + 63 + 7 * x.toNatClampNeg) 5).toInt ∧ y.toInt ≤ (ι (B + 63 + 7 * x.toNatClampNeg + 4) (ι (B + 63 + 7 * x.toNatClampNeg) 5 - 1).toNatClampNeg).toInt) ∧ v = some (.int (-3)) ∧ s = (z, τ, ρ, ι, κ)) ∨ (((0 ≤ x.toInt ∧ x.toInt < (c : Int)) ∧ (100 ≤ y.toInt ∧ y.toInt ≤ 100000) ∧ (100 ≤ u.toInt ∧ u.toInt ≤ 100000) ∧ y.toInt ≤ u.toInt ∧ 1 ≤ w.toInt ∧ w.toInt ≤ 10000) ∧ ¬ (0 < (ι (B + 63 + 7 * x.toNatClampNeg) 5).toInt ∧ y.toInt ≤ (ι (B + 63 + 7 * x.toNatClampNeg + 4) (ι (B + 63 + 7 * x.toNatClampNeg) 5 - 1).toNatClampNeg).toInt) ∧ ((ι (B + 63 + 7 * x.toNatClampNeg) 5).toInt = 4 ∨ 400 < (ι (B + 63 + 7 * x.toNatClampNeg + 1) 1).toInt + ((u.toInt - y.toInt) / w.toInt + 1)) ∧ v = some (.int (-4)) ∧ s = (z, τ, ρ, ι, κ)) ∨ (((0 ≤ x.toInt ∧ x.toInt < (c : Int)) ∧ (100 ≤ y.toInt ∧ y.toInt ≤ 100000) ∧ (100 ≤ u.toInt ∧ u.toInt ≤ 100000) ∧ y.toInt ≤ u.toInt ∧ 1 ≤ w.toInt ∧ w.toInt ≤ 10000) ∧ ¬ (0 < (ι (B + 63 + 7 * x.toNatClampNeg) 5).toInt ∧ y.toInt ≤ (ι (B + 63 + 7 * x.toNatClampNeg + 4) (ι (B + 63 + 7 * x.toNatClampNeg) 5 - 1).toNatClampNeg).toInt) ∧ ¬ ((ι (B + 63 + 7 * x.toNatClampNeg) 5).toInt = 4 ∨ 400 < (ι (B + 63 + 7 * x.toNatClampNeg + 1) 1).toInt + ((u.toInt - y.toInt) / w.toInt + 1)) ∧ (∃ r, v = some (.int r) ∧ r.toInt = ((u.toInt - y.toInt) / w.toInt + 1)) ∧ ∃ ι2, s = (z, τ, ρ, ι2, κ) ∧ (∀ b, b ≠ B + 63 + 7 * x.toNatClampNeg + 1 → b ≠ B + 63 + 7 * x.toNatClampNeg + 2 → ι2 b = (zu (zu (zu (zu ι (B + 63 + 7 * x.toNatClampNeg + 3) (ι (B + 63 + 7 * x.toNatClampNeg) 5).toNatClampNeg y) (B + 63 + 7 * x.toNatClampNeg + 4) (ι (B + 63 + 7 * x.toNatClampNeg) 5).toNatClampNeg u) (B + 63 + 7 * x.toNatClampNeg + 5) (ι (B + 63 + 7 * x.toNatClampNeg) 5).toNatClampNeg w) (B + 63 + 7 * x.toNatClampNeg) 5 (ι (B + 63 + 7 * x.toNatClampNeg) 5 + 1)) b) ∧ (∀ k, k ≠ 1 → ι2 (B + 63 + 7 * x.toNatClampNeg + 1) k = ι (B + 63 + 7 * x.toNatClampNeg + 1) k) ∧ (ι2 (B + 63 + 7 * x.toNatClampNeg + 1) 1).toInt = (ι (B + 63 + 7 * x.toNatClampNeg + 1) 1).toInt + ((u.toInt - y.toInt) / w.toInt + 1) ∧ (∀ q : Nat, (q : Int) < (ι (B + 63 + 7 * x.toNatClampNeg + 1) 1).toInt → ι2 (B + 63 + 7 * x.toNatClampNeg + 2) q = ι (B + 63 + 7 * x.toNatClampNeg + 2) q) ∧ ∀ q : Nat, (q : Int) < ((u.toInt - y.toInt) / w.toInt + 1) → (ι2 (B + 63 + 7 * x.toNatClampNeg + 2) ((ι (B + 63 + 7 * x.toNatClampNeg + 1) 1).toNatClampNeg + q)).toInt = y.toInt + (q : Int) * w.toInt)) 0 0 := by
  refine zM_of zCd_X11_span (Nat.le_of_ble_eq_true rfl) ?_
  intro E X hR hE
  subst hE
  show zW E G 7 (z, τ, ρ, ι, κ) 0 0 0 [(0, .ref B), (1, .int x), (2, .int y), (3, .int u), (4, .int w)] []
  obtain ⟨h8, ⟨hc1, hc2, hc3, hc4, hc5⟩, hJm⟩ := id hJ
  have hsc : (0 ≤ x.toInt ∧ x.toInt < (c : Int)) → zSc τ ρ (B + 63 + 7 * x.toNatClampNeg) := fun h => (hL.2.2 _ (by have := zclN h.1; omega)).2
  have hjs : (0 ≤ x.toInt ∧ x.toInt < (c : Int)) → zJs ι (B + 63 + 7 * x.toNatClampNeg) := fun h => hc5 _ (by have := zclN h.1; omega)
  refine r_aload_n X (by rfl) dX11_span_0 ?_
  refine r_iload_n X (by rfl) dX11_span_1 ?_
  refine r_callV X dX11_span_2 zLV_X11_85 zCd_X11_scaleAt (c_X11_scaleAt _ G z τ ρ _ _ hL hJ _) (zt hL 0 rfl) ⟨by decide, rfl, rfl⟩ rfl rfl ⟨⟨rfl, rfl⟩, ⟨by decide, by decide⟩, ⟨Nat.le_of_ble_eq_true rfl, Nat.le_of_ble_eq_true rfl⟩, Nat.le_of_ble_eq_true rfl⟩ ?_
  rintro _ _ (⟨rfl, hx, rfl⟩ | ⟨rfl, hx, rfl⟩)
  · refine r_astoreN X (by decide) dX11_span_5 ?_
    refine r_aloadN X (by rfl) dX11_span_7 ?_
    refine r_ifnullN X 45 dX11_span_9 (by decide) ?_
    refine r_bipush X (-2) (by decide) dX11_span_45 ?_
    refine r_ireturn X hR dX11_span_47 rfl (Nat.zero_le _) (Nat.zero_le _) ?_
    exact Or.inl ⟨fun ⟨q1, q2, q3, q4, q5, q6⟩ => by first | exact hx q1 | exact zif0 h16 q2 | exact zif0 h23 q3 | omega, rfl, rfl⟩
  · refine r_astore X (by decide) dX11_span_5 ?_
    refine r_aload X (by rfl) dX11_span_7 ?_
    refine r_ifnull X dX11_span_9 ?_
    refine r_iload_n X (by rfl) dX11_span_12 ?_
    refine r_callS X dX11_span_13 zLS_X11_89 zCd_X11_isNumber (c_X11_isNumber _ G z τ ρ _ _ _) rfl rfl ⟨⟨rfl, rfl⟩, ⟨by decide, by decide⟩, ⟨Nat.le_of_ble_eq_true rfl, Nat.le_of_ble_eq_true rfl⟩, Nat.le_of_ble_eq_true rfl⟩ ?_
    rintro _ _ ⟨rfl, rfl⟩
    refine r_if_eq X 45 dX11_span_16 (by decide) (fun h16 => ?_) (fun h16 => ?_)
    · refine r_bipush X (-2) (by decide) dX11_span_45 ?_
      refine r_ireturn X hR dX11_span_47 rfl (Nat.zero_le _) (Nat.zero_le _) ?_
      exact Or.inl ⟨fun ⟨q1, q2, q3, q4, q5, q6⟩ => by first | exact hx q1 | exact zif0 h16 q2 | exact zif0 h23 q3 | omega, rfl, rfl⟩
    · refine r_iload_n X (by rfl) dX11_span_19 ?_
      refine r_callS X dX11_span_20 zLS_X11_89 zCd_X11_isNumber (c_X11_isNumber _ G z τ ρ _ _ _) rfl rfl ⟨⟨rfl, rfl⟩, ⟨by decide, by decide⟩, ⟨Nat.le_of_ble_eq_true rfl, Nat.le_of_ble_eq_true rfl⟩, Nat.le_of_ble_eq_true rfl⟩ ?_
      rintro _ _ ⟨rfl, rfl⟩
      refine r_if_eq X 45 dX11_span_23 (by decide) (fun h23 => ?_) (fun h23 => ?_)
      · refine r_bipush X (-2) (by decide) dX11_span_45 ?_
        refine r_ireturn X hR dX11_span_47 rfl (Nat.zero_le _) (Nat.zero_le _) ?_
        exact Or.inl ⟨fun ⟨q1, q2, q3, q4, q5, q6⟩ => by first | exact hx q1 | exact zif0 h16 q2 | exact zif0 h23 q3 | omega, rfl, rfl⟩
      · refine r_iload_n X (by rfl) dX11_span_26 ?_
        refine r_iload_n X (by rfl) dX11_span_27 ?_
        refine r_icmp_gt X 45 dX11_span_28 (by decide) (fun h28 => ?_) (fun h28 => ?_)
        · refine r_bipush X (-2) (by decide) dX11_span_45 ?_
          refine r_ireturn X hR dX11_span_47 rfl (Nat.zero_le _) (Nat.zero_le _) ?_
          exact Or.inl ⟨fun ⟨q1, q2, q3, q4, q5, q6⟩ => by first | exact hx q1 | exact zif0 h16 q2 | exact zif0 h23 q3 | omega, rfl, rfl⟩
        · refine r_iload X (by rfl) dX11_span_31 ?_
          refine r_iconst X 1 (by decide) dX11_span_33 ?_
          refine r_icmp_lt X 45 dX11_span_34 (by decide) (fun h34 => ?_) (fun h34 => ?_)
          · rw [show Int32.toInt 1 = 1 from rfl] at h34
            refine r_bipush X (-2) (by decide) dX11_span_45 ?_
            refine r_ireturn X hR dX11_span_47 rfl (Nat.zero_le _) (Nat.zero_le _) ?_
            exact Or.inl ⟨fun ⟨q1, q2, q3, q4, q5, q6⟩ => by first | exact hx q1 | exact zif0 h16 q2 | exact zif0 h23 q3 | omega, rfl, rfl⟩
          · rw [show Int32.toInt 1 = 1 from rfl] at h34
            refine r_iload X (by rfl) dX11_span_37 ?_
            refine r_sipush X 10000 (by decide) dX11_span_39 ?_
            refine r_icmp_le X 48 dX11_span_42 (by decide) (fun h42 => ?_) (fun h42 => ?_)
            · rw [show Int32.toInt 10000 = 10000 from rfl] at h42
              have hy := zif1 h16
              have hu := zif1 h23
              have hP : ((0 ≤ x.toInt ∧ x.toInt < (c : Int)) ∧ (100 ≤ y.toInt ∧ y.toInt ≤ 100000) ∧ (100 ≤ u.toInt ∧ u.toInt ≤ 100000) ∧ y.toInt ≤ u.toInt ∧ 1 ≤ w.toInt ∧ w.toInt ≤ 10000) := ⟨hx, hy, hu, by omega, by omega, by omega⟩
              have hs5 := (hjs hx).2.1
              have hn := (hjs hx).1
              have hv := zSm_v hy.1 (show y.toInt ≤ u.toInt by omega) hu.2 (show 1 ≤ w.toInt by omega)
              have hq1 : 0 ≤ (u.toInt - y.toInt) / w.toInt := Int.ediv_nonneg (by omega) (by omega)
              refine r_iload_n X (by rfl) dX11_span_48 ?_
              refine r_aload X (by rfl) dX11_span_49 ?_
              refine r_callV X dX11_span_51 zLV_X11_98 zCd_X7_lastTo (c_X7_lastTo _ G z τ ρ _ _ (hsc hx).1 (hsc hx).2.1 (hsc hx).2.2.1 (hsc hx).2.2.2.1 (hsc hx).2.2.2.2.1 (hsc hx).2.2.2.2.2.1 (hsc hx).2.2.2.2.2.2.1 (hsc hx).2.2.2.2.2.2.2.1 (hsc hx).2.2.2.2.2.2.2.2.1 (hsc hx).2.2.2.2.2.2.2.2.2.1 (hsc hx).2.2.2.2.2.2.2.2.2.2.1 (hsc hx).2.2.2.2.2.2.2.2.2.2.2.1 (hsc hx).2.2.2.2.2.2.2.2.2.2.2.2 (hjs hx).2.1.2) (hsc hx).1 ⟨by decide, rfl, rfl⟩ rfl rfl ⟨⟨rfl, rfl⟩, ⟨by decide, by decide⟩, ⟨Nat.le_of_ble_eq_true rfl, Nat.le_of_ble_eq_true rfl⟩, Nat.le_of_ble_eq_true rfl⟩ ?_
              rintro _ _ ⟨rfl, rfl⟩
              refine r_icmp_gt X 60 dX11_span_54 (by decide) (fun h54 => ?_) (fun h54 => ?_)
              · have hN : ¬ (0 < (ι (B + 63 + 7 * x.toNatClampNeg) 5).toInt ∧ y.toInt ≤ (ι (B + 63 + 7 * x.toNatClampNeg + 4) (ι (B + 63 + 7 * x.toNatClampNeg) 5 - 1).toNatClampNeg).toInt) := fun q => by rw [if_pos q.1] at h54; omega
                refine r_iload_n X (by rfl) dX11_span_60 ?_
                refine r_iload_n X (by rfl) dX11_span_61 ?_
                refine r_isub X dX11_span_62 ?_
                refine r_iload X (by rfl) dX11_span_63 ?_
                refine r_idiv X (fun q => by have := hP.2.2.2.2.1; rw [q, show Int32.toInt 0 = 0 from rfl] at this; omega) dX11_span_65 ?_
                refine r_iconst X 1 (by decide) dX11_span_66 ?_
                refine r_iadd X dX11_span_67 ?_
                refine r_istore X (by decide) dX11_span_68 ?_
                refine r_aload X (by rfl) dX11_span_70 ?_
                refine r_iload X (by rfl) dX11_span_72 ?_
                refine r_callV X dX11_span_74 zLV_X11_102 zCd_X7_hasRoomFor (c_X7_hasRoomFor _ G z τ ρ _ _ (hsc hx).1 (hsc hx).2.1 (hsc hx).2.2.1 (hsc hx).2.2.2.1 (hsc hx).2.2.2.2.1 (hsc hx).2.2.2.2.2.1 (hsc hx).2.2.2.2.2.2.1 (hsc hx).2.2.2.2.2.2.2.1 (hsc hx).2.2.2.2.2.2.2.2.1 (hsc hx).2.2.2.2.2.2.2.2.2.1 (hsc hx).2.2.2.2.2.2.2.2.2.2.1 (hsc hx).2.2.2.2.2.2.2.2.2.2.2.1 (hsc hx).2.2.2.2.2.2.2.2.2.2.2.2 (hjs hx).1.1 (hjs hx).1.2 _) (hsc hx).1 ⟨by decide, rfl, rfl⟩ rfl rfl ⟨⟨rfl, rfl⟩, ⟨by decide, by decide⟩, ⟨Nat.le_of_ble_eq_true rfl, Nat.le_of_ble_eq_true rfl⟩, Nat.le_of_ble_eq_true rfl⟩ ?_
                rintro _ _ ⟨rfl, rfl⟩
                refine r_if_ne X 83 dX11_span_77 (by decide) (fun h77 => ?_) (fun h77 => ?_)
                · have hR1 := zif1 h77
                  rw [hv] at hR1
                  refine r_aload X (by rfl) dX11_span_83 ?_
                  refine r_iload_n X (by rfl) dX11_span_85 ?_
                  refine r_iload_n X (by rfl) dX11_span_86 ?_
                  refine r_iload X (by rfl) dX11_span_87 ?_
                  refine r_callV X dX11_span_89 zLV_X11_105 zCd_X7_addSpan (c_X7_addSpan _ G z τ ρ _ _ (hsc hx).1 (hsc hx).2.1 (hsc hx).2.2.1 (hsc hx).2.2.2.1 (hsc hx).2.2.2.2.1 (hsc hx).2.2.2.2.2.1 (hsc hx).2.2.2.2.2.2.1 (hsc hx).2.2.2.2.2.2.2.1 (hsc hx).2.2.2.2.2.2.2.2.1 (hsc hx).2.2.2.2.2.2.2.2.2.1 (hsc hx).2.2.2.2.2.2.2.2.2.2.1 (hsc hx).2.2.2.2.2.2.2.2.2.2.2.1 (hsc hx).2.2.2.2.2.2.2.2.2.2.2.2 (hjs hx).1.1 (hjs hx).1.2 (by omega) (by omega) (by omega) (by omega) (by omega) (by omega) (by omega) (by omega) (by omega) (by omega) (by omega) (by omega) _ _ _ (hjs hx).2.1.1 (by omega) (by omega) (by omega) (by omega) (by omega) (by omega) (by omega)) (hsc hx).1 ⟨by decide, rfl, rfl⟩ rfl rfl ⟨⟨rfl, rfl⟩, ⟨by decide, by decide⟩, ⟨Nat.le_of_ble_eq_true rfl, Nat.le_of_ble_eq_true rfl⟩, Nat.le_of_ble_eq_true rfl⟩ ?_
                  rintro _ _ ⟨rfl, ι2, rfl, hF⟩
                  refine r_iload X (by rfl) dX11_span_92 ?_
                  refine r_ireturn X hR dX11_span_94 rfl (Nat.zero_le _) (Nat.zero_le _) ?_
                  exact Or.inr (Or.inr (Or.inr ⟨hP, hN, by omega, ⟨_, rfl, hv⟩, _, rfl, hF⟩))
                · have hR1 := zif0 h77
                  rw [hv] at hR1
                  refine r_bipush X (-4) (by decide) dX11_span_80 ?_
                  refine r_ireturn X hR dX11_span_82 rfl (Nat.zero_le _) (Nat.zero_le _) ?_
                  exact Or.inr (Or.inr (Or.inl ⟨hP, hN, by omega, rfl, rfl⟩))
              · have hN : (0 < (ι (B + 63 + 7 * x.toNatClampNeg) 5).toInt ∧ y.toInt ≤ (ι (B + 63 + 7 * x.toNatClampNeg + 4) (ι (B + 63 + 7 * x.toNatClampNeg) 5 - 1).toNatClampNeg).toInt) := by
                  by_cases q : 0 < (ι (B + 63 + 7 * x.toNatClampNeg) 5).toInt
                  · rw [if_pos q] at h54; exact ⟨q, by omega⟩
                  · rw [if_neg q, show Int32.toInt 0 = 0 from rfl] at h54; omega
                refine r_bipush X (-3) (by decide) dX11_span_57 ?_
                refine r_ireturn X hR dX11_span_59 rfl (Nat.zero_le _) (Nat.zero_le _) ?_
                exact Or.inr (Or.inl ⟨hP, hN, rfl, rfl⟩)
            · rw [show Int32.toInt 10000 = 10000 from rfl] at h42
              refine r_bipush X (-2) (by decide) dX11_span_45 ?_
              refine r_ireturn X hR dX11_span_47 rfl (Nat.zero_le _) (Nat.zero_le _) ?_
              exact Or.inl ⟨fun ⟨q1, q2, q3, q4, q5, q6⟩ => by first | exact hx q1 | exact zif0 h16 q2 | exact zif0 h23 q3 | omega, rfl, rfl⟩
set_option maxHeartbeats 4000000 in
set_option maxRecDepth 100000 in
theorem c_X11_mark (l : Launch) (G : zG) (z : Nat) (τ : Nat → Option (Nat × Nat)) (ρ : Nat → Nat → Option Nat) (ι : Nat → Nat → Int32) (κ : Nat → Nat → Int64) {B c : Nat} (hL : zLay τ ρ B c) (hJ : zJ B c ι) (x y : Int32) : zM l G yX11_mark cX11_mark 4 (some .int) ({ frames := 1, cells := 0, slots := 0, locals := 21 } : Room) [.ref B, .int x, .int y] (z, τ, ρ, ι, κ) (fun v s => (¬ ((0 ≤ x.toInt ∧ x.toInt < (c : Int)) ∧ 0 ≤ y.toInt) ∧ v = some (.int (-2)) ∧ s = (z, τ, ρ, ι, κ)) ∨ (((0 ≤ x.toInt ∧ x.toInt < (c : Int)) ∧ 0 ≤ y.toInt) ∧ v = some (.int (if 0 ≤ y.toInt ∧ y.toInt < (ι (B + 63 + 7 * x.toNatClampNeg + 1) 1).toInt then ι (B + 63 + 7 * x.toNatClampNeg + 2) y.toNatClampNeg else -1)) ∧ s = (z, τ, ρ, ι, κ))) 0 0 := by
  refine zM_of zCd_X11_mark (Nat.le_of_ble_eq_true rfl) ?_
  intro E X hR hE
  subst hE
  show zW E G 4 (z, τ, ρ, ι, κ) 0 0 0 [(0, .ref B), (1, .int x), (2, .int y)] []
  obtain ⟨h8, ⟨hc1, hc2, hc3, hc4, hc5⟩, hJm⟩ := id hJ
  have hsc : (0 ≤ x.toInt ∧ x.toInt < (c : Int)) → zSc τ ρ (B + 63 + 7 * x.toNatClampNeg) := fun h => (hL.2.2 _ (by have := zclN h.1; omega)).2
  have hjs : (0 ≤ x.toInt ∧ x.toInt < (c : Int)) → zJs ι (B + 63 + 7 * x.toNatClampNeg) := fun h => hc5 _ (by have := zclN h.1; omega)
  refine r_aload_n X (by rfl) dX11_mark_0 ?_
  refine r_iload_n X (by rfl) dX11_mark_1 ?_
  refine r_callV X dX11_mark_2 zLV_X11_85 zCd_X11_scaleAt (c_X11_scaleAt _ G z τ ρ _ _ hL hJ _) (zt hL 0 rfl) ⟨by decide, rfl, rfl⟩ rfl rfl ⟨⟨rfl, rfl⟩, ⟨by decide, by decide⟩, ⟨Nat.le_of_ble_eq_true rfl, Nat.le_of_ble_eq_true rfl⟩, Nat.le_of_ble_eq_true rfl⟩ ?_
  rintro _ _ (⟨rfl, hx, rfl⟩ | ⟨rfl, hx, rfl⟩)
  · refine r_astore_nN X (by decide) dX11_mark_5 ?_
    refine r_aload_nN X (by rfl) dX11_mark_6 ?_
    refine r_ifnullN X 14 dX11_mark_7 (by decide) ?_
    refine r_bipush X (-2) (by decide) dX11_mark_14 ?_
    refine r_ireturn X hR dX11_mark_16 rfl (Nat.zero_le _) (Nat.zero_le _) ?_
    exact Or.inl ⟨fun q => by first | exact hx q.1 | (have := q.2; omega), rfl, rfl⟩
  · refine r_astore_n X (by decide) dX11_mark_5 ?_
    refine r_aload_n X (by rfl) dX11_mark_6 ?_
    refine r_ifnull X dX11_mark_7 ?_
    refine r_iload_n X (by rfl) dX11_mark_10 ?_
    refine r_if_ge X 17 dX11_mark_11 (by decide) (fun h11 => ?_) (fun h11 => ?_)
    · refine r_aload_n X (by rfl) dX11_mark_17 ?_
      refine r_iload_n X (by rfl) dX11_mark_18 ?_
      refine r_callV X dX11_mark_19 zLV_X11_109 zCd_X7_numberAt (c_X7_numberAt _ G z τ ρ _ _ (hsc hx).1 (hsc hx).2.1 (hsc hx).2.2.1 (hsc hx).2.2.2.1 (hsc hx).2.2.2.2.1 (hsc hx).2.2.2.2.2.1 (hsc hx).2.2.2.2.2.2.1 (hsc hx).2.2.2.2.2.2.2.1 (hsc hx).2.2.2.2.2.2.2.2.1 (hsc hx).2.2.2.2.2.2.2.2.2.1 (hsc hx).2.2.2.2.2.2.2.2.2.2.1 (hsc hx).2.2.2.2.2.2.2.2.2.2.2.1 (hsc hx).2.2.2.2.2.2.2.2.2.2.2.2 (hjs hx).1.1 (hjs hx).1.2 _) (hsc hx).1 ⟨by decide, rfl, rfl⟩ rfl rfl ⟨⟨rfl, rfl⟩, ⟨by decide, by decide⟩, ⟨Nat.le_of_ble_eq_true rfl, Nat.le_of_ble_eq_true rfl⟩, Nat.le_of_ble_eq_true rfl⟩ ?_
      rintro _ _ ⟨rfl, rfl⟩
      refine r_ireturn X hR dX11_mark_22 rfl (Nat.zero_le _) (Nat.zero_le _) ?_
      exact Or.inr ⟨⟨hx, by omega⟩, rfl, rfl⟩
    · refine r_bipush X (-2) (by decide) dX11_mark_14 ?_
      refine r_ireturn X hR dX11_mark_16 rfl (Nat.zero_le _) (Nat.zero_le _) ?_
      exact Or.inl ⟨fun q => by first | exact hx q.1 | (have := q.2; omega), rfl, rfl⟩
set_option maxHeartbeats 4000000 in
set_option maxRecDepth 100000 in
theorem c_X11_marks (l : Launch) (G : zG) (z : Nat) (τ : Nat → Option (Nat × Nat)) (ρ : Nat → Nat → Option Nat) (ι : Nat → Nat → Int32) (κ : Nat → Nat → Int64) {B c : Nat} (hL : zLay τ ρ B c) (hJ : zJ B c ι) (x : Int32) : zM l G yX11_marks cX11_marks 3 (some .int) ({ frames := 1, cells := 0, slots := 0, locals := 21 } : Room) [.ref B, .int x] (z, τ, ρ, ι, κ) (fun v s => (¬ (0 ≤ x.toInt ∧ x.toInt < (c : Int)) ∧ v = some (.int (-2)) ∧ s = (z, τ, ρ, ι, κ)) ∨ ((0 ≤ x.toInt ∧ x.toInt < (c : Int)) ∧ v = some (.int (ι (B + 63 + 7 * x.toNatClampNeg + 1) 1)) ∧ s = (z, τ, ρ, ι, κ))) 0 0 := by
  refine zM_of zCd_X11_marks (Nat.le_of_ble_eq_true rfl) ?_
  intro E X hR hE
  subst hE
  show zW E G 3 (z, τ, ρ, ι, κ) 0 0 0 [(0, .ref B), (1, .int x)] []
  obtain ⟨h8, ⟨hc1, hc2, hc3, hc4, hc5⟩, hJm⟩ := id hJ
  have hsc : (0 ≤ x.toInt ∧ x.toInt < (c : Int)) → zSc τ ρ (B + 63 + 7 * x.toNatClampNeg) := fun h => (hL.2.2 _ (by have := zclN h.1; omega)).2
  have hjs : (0 ≤ x.toInt ∧ x.toInt < (c : Int)) → zJs ι (B + 63 + 7 * x.toNatClampNeg) := fun h => hc5 _ (by have := zclN h.1; omega)
  refine r_aload_n X (by rfl) dX11_marks_0 ?_
  refine r_iload_n X (by rfl) dX11_marks_1 ?_
  refine r_callV X dX11_marks_2 zLV_X11_85 zCd_X11_scaleAt (c_X11_scaleAt _ G z τ ρ _ _ hL hJ _) (zt hL 0 rfl) ⟨by decide, rfl, rfl⟩ rfl rfl ⟨⟨rfl, rfl⟩, ⟨by decide, by decide⟩, ⟨Nat.le_of_ble_eq_true rfl, Nat.le_of_ble_eq_true rfl⟩, Nat.le_of_ble_eq_true rfl⟩ ?_
  rintro _ _ (⟨rfl, hx, rfl⟩ | ⟨rfl, hx, rfl⟩)
  · refine r_astore_nN X (by decide) dX11_marks_5 ?_
    refine r_aload_nN X (by rfl) dX11_marks_6 ?_
    refine r_ifnonnullN X dX11_marks_7 ?_
    refine r_bipush X (-2) (by decide) dX11_marks_10 ?_
    refine r_goto X 22 dX11_marks_12 (by decide) ?_
    refine r_ireturn X hR dX11_marks_22 rfl (Nat.zero_le _) (Nat.zero_le _) ?_
    first | exact Or.inl ⟨hx, rfl, rfl⟩ | exact Or.inr ⟨hx, rfl, rfl⟩
  · refine r_astore_n X (by decide) dX11_marks_5 ?_
    refine r_aload_n X (by rfl) dX11_marks_6 ?_
    refine r_ifnonnull X 15 dX11_marks_7 (by decide) ?_
    refine r_aload_n X (by rfl) dX11_marks_15 ?_
    refine r_getR X dX11_marks_16 zF_X11_113 (hsc hx).1 (hsc hx).2.1 ?_
    refine r_getI X dX11_marks_19 zF_X11_117 (hsc hx).2.2.2.2.2.2.1 ?_
    refine r_ireturn X hR dX11_marks_22 rfl (Nat.zero_le _) (Nat.zero_le _) ?_
    first | exact Or.inl ⟨hx, rfl, rfl⟩ | exact Or.inr ⟨hx, rfl, rfl⟩
set_option maxHeartbeats 4000000 in
set_option maxRecDepth 100000 in
theorem c_X11_set (l : Launch) (G : zG) (z : Nat) (τ : Nat → Option (Nat × Nat)) (ρ : Nat → Nat → Option Nat) (ι : Nat → Nat → Int32) (κ : Nat → Nat → Int64) {B c : Nat} (hL : zLay τ ρ B c) (hJ : zJ B c ι) (x y u w : Int32) : zM l G yX11_set cX11_set 7 (some .int) ({ frames := 5, cells := 0, slots := 0, locals := 126 } : Room) [.ref B, .int x, .int y, .int u, .int w] (z, τ, ρ, ι, κ) (fun v s => ∃ r ι2 κ2, v = some (.int r) ∧ s = (z, τ, ρ, ι2, κ2) ∧ ∀ b k, ¬ (b = B ∧ k = 11) → ι2 b k = ι b k) 0 0 := by
  refine zM_of zCd_X11_set (Nat.le_of_ble_eq_true rfl) ?_
  intro E X hR hE
  subst hE
  show zW E G 7 (z, τ, ρ, ι, κ) 0 0 0 [(0, .ref B), (1, .int x), (2, .int y), (3, .int u), (4, .int w)] []
  obtain ⟨h8, ⟨hc1, hc2, hc3, hc4, hc5⟩, hJm⟩ := id hJ
  have hsc : (0 ≤ x.toInt ∧ x.toInt < (c : Int)) → zSc τ ρ (B + 63 + 7 * x.toNatClampNeg) := fun h => (hL.2.2 _ (by have := zclN h.1; omega)).2
  have hjs : (0 ≤ x.toInt ∧ x.toInt < (c : Int)) → zJs ι (B + 63 + 7 * x.toNatClampNeg) := fun h => hc5 _ (by have := zclN h.1; omega)
  have hscu : (0 ≤ u.toInt ∧ u.toInt < (c : Int)) → zSc τ ρ (B + 63 + 7 * u.toNatClampNeg) := fun h => (hL.2.2 _ (by have := zclN h.1; omega)).2
  have hjsu : (0 ≤ u.toInt ∧ u.toInt < (c : Int)) → zJs ι (B + 63 + 7 * u.toNatClampNeg) := fun h => hc5 _ (by have := zclN h.1; omega)
  refine r_aload_n X (by rfl) dX11_set_0 ?_
  refine r_iload_n X (by rfl) dX11_set_1 ?_
  refine r_callV X dX11_set_2 zLV_X11_85 zCd_X11_scaleAt (c_X11_scaleAt _ G z τ ρ _ _ hL hJ _) (zt hL 0 rfl) ⟨by decide, rfl, rfl⟩ rfl rfl ⟨⟨rfl, rfl⟩, ⟨by decide, by decide⟩, ⟨Nat.le_of_ble_eq_true rfl, Nat.le_of_ble_eq_true rfl⟩, Nat.le_of_ble_eq_true rfl⟩ ?_
  rintro _ _ (⟨rfl, hx, rfl⟩ | ⟨rfl, hx, rfl⟩)
  · refine r_astoreN X (by decide) dX11_set_5 ?_
    refine r_aload_n X (by rfl) dX11_set_7 ?_
    refine r_iload_n X (by rfl) dX11_set_8 ?_
    refine r_callV X dX11_set_9 zLV_X11_85 zCd_X11_scaleAt (c_X11_scaleAt _ G z τ ρ _ _ hL hJ _) (zt hL 0 rfl) ⟨by decide, rfl, rfl⟩ rfl rfl ⟨⟨rfl, rfl⟩, ⟨by decide, by decide⟩, ⟨Nat.le_of_ble_eq_true rfl, Nat.le_of_ble_eq_true rfl⟩, Nat.le_of_ble_eq_true rfl⟩ ?_
    rintro _ _ (⟨rfl, hxu, rfl⟩ | ⟨rfl, hxu, rfl⟩)
    · refine r_astoreN X (by decide) dX11_set_12 ?_
      refine r_aloadN X (by rfl) dX11_set_14 ?_
      refine r_ifnullN X 40 dX11_set_16 (by decide) ?_
      refine r_ldc X zK_X11_93 dX11_set_40 ?_
      refine r_ireturn X hR dX11_set_42 rfl (Nat.zero_le _) (Nat.zero_le _) ?_
      first | exact ⟨_, _, _, rfl, rfl, fun _ _ _ => rfl⟩ | exact ⟨_, _, _, rfl, rfl, fun b k q => if_neg q⟩
    · refine r_astore X (by decide) dX11_set_12 ?_
      refine r_aloadN X (by rfl) dX11_set_14 ?_
      refine r_ifnullN X 40 dX11_set_16 (by decide) ?_
      refine r_ldc X zK_X11_93 dX11_set_40 ?_
      refine r_ireturn X hR dX11_set_42 rfl (Nat.zero_le _) (Nat.zero_le _) ?_
      first | exact ⟨_, _, _, rfl, rfl, fun _ _ _ => rfl⟩ | exact ⟨_, _, _, rfl, rfl, fun b k q => if_neg q⟩
  · refine r_astore X (by decide) dX11_set_5 ?_
    refine r_aload_n X (by rfl) dX11_set_7 ?_
    refine r_iload_n X (by rfl) dX11_set_8 ?_
    refine r_callV X dX11_set_9 zLV_X11_85 zCd_X11_scaleAt (c_X11_scaleAt _ G z τ ρ _ _ hL hJ _) (zt hL 0 rfl) ⟨by decide, rfl, rfl⟩ rfl rfl ⟨⟨rfl, rfl⟩, ⟨by decide, by decide⟩, ⟨Nat.le_of_ble_eq_true rfl, Nat.le_of_ble_eq_true rfl⟩, Nat.le_of_ble_eq_true rfl⟩ ?_
    rintro _ _ (⟨rfl, hxu, rfl⟩ | ⟨rfl, hxu, rfl⟩)
    · refine r_astoreN X (by decide) dX11_set_12 ?_
      refine r_aload X (by rfl) dX11_set_14 ?_
      refine r_ifnull X dX11_set_16 ?_
      refine r_aload X (by rfl) dX11_set_19 ?_
      refine r_getI X dX11_set_21 zF_X11_134 (hsc hx).1 ?_
      refine r_if_eq X 40 dX11_set_24 (by decide) (fun h24 => ?_) (fun h24 => ?_)
      · refine r_ldc X zK_X11_93 dX11_set_40 ?_
        refine r_ireturn X hR dX11_set_42 rfl (Nat.zero_le _) (Nat.zero_le _) ?_
        first | exact ⟨_, _, _, rfl, rfl, fun _ _ _ => rfl⟩ | exact ⟨_, _, _, rfl, rfl, fun b k q => if_neg q⟩
      · refine r_aloadN X (by rfl) dX11_set_27 ?_
        refine r_ifnullN X 40 dX11_set_29 (by decide) ?_
        refine r_ldc X zK_X11_93 dX11_set_40 ?_
        refine r_ireturn X hR dX11_set_42 rfl (Nat.zero_le _) (Nat.zero_le _) ?_
        first | exact ⟨_, _, _, rfl, rfl, fun _ _ _ => rfl⟩ | exact ⟨_, _, _, rfl, rfl, fun b k q => if_neg q⟩
    · refine r_astore X (by decide) dX11_set_12 ?_
      refine r_aload X (by rfl) dX11_set_14 ?_
      refine r_ifnull X dX11_set_16 ?_
      refine r_aload X (by rfl) dX11_set_19 ?_
      refine r_getI X dX11_set_21 zF_X11_134 (hsc hx).1 ?_
      refine r_if_eq X 40 dX11_set_24 (by decide) (fun h24 => ?_) (fun h24 => ?_)
      · refine r_ldc X zK_X11_93 dX11_set_40 ?_
        refine r_ireturn X hR dX11_set_42 rfl (Nat.zero_le _) (Nat.zero_le _) ?_
        first | exact ⟨_, _, _, rfl, rfl, fun _ _ _ => rfl⟩ | exact ⟨_, _, _, rfl, rfl, fun b k q => if_neg q⟩
      · refine r_aload X (by rfl) dX11_set_27 ?_
        refine r_ifnull X dX11_set_29 ?_
        refine r_aload X (by rfl) dX11_set_32 ?_
        refine r_getI X dX11_set_34 zF_X11_134 (hscu hxu).1 ?_
        refine r_if_eq X 43 dX11_set_37 (by decide) (fun h37 => ?_) (fun h37 => ?_)
        · refine r_iload_n X (by rfl) dX11_set_43 ?_
          refine r_callS X dX11_set_44 zLS_X11_89 zCd_X11_isNumber (c_X11_isNumber _ G z τ ρ _ _ _) rfl rfl ⟨⟨rfl, rfl⟩, ⟨by decide, by decide⟩, ⟨Nat.le_of_ble_eq_true rfl, Nat.le_of_ble_eq_true rfl⟩, Nat.le_of_ble_eq_true rfl⟩ ?_
          rintro _ _ ⟨rfl, rfl⟩
          refine r_if_eq X 58 dX11_set_47 (by decide) (fun h47 => ?_) (fun h47 => ?_)
          · refine r_ldc X zK_X11_93 dX11_set_58 ?_
            refine r_ireturn X hR dX11_set_60 rfl (Nat.zero_le _) (Nat.zero_le _) ?_
            first | exact ⟨_, _, _, rfl, rfl, fun _ _ _ => rfl⟩ | exact ⟨_, _, _, rfl, rfl, fun b k q => if_neg q⟩
          · refine r_iload X (by rfl) dX11_set_50 ?_
            refine r_callS X dX11_set_52 zLS_X11_89 zCd_X11_isNumber (c_X11_isNumber _ G z τ ρ _ _ _) rfl rfl ⟨⟨rfl, rfl⟩, ⟨by decide, by decide⟩, ⟨Nat.le_of_ble_eq_true rfl, Nat.le_of_ble_eq_true rfl⟩, Nat.le_of_ble_eq_true rfl⟩ ?_
            rintro _ _ ⟨rfl, rfl⟩
            refine r_if_ne X 61 dX11_set_55 (by decide) (fun h55 => ?_) (fun h55 => ?_)
            · refine r_aload_n X (by rfl) dX11_set_61 ?_
              refine r_aload X (by rfl) dX11_set_62 ?_
              refine r_iload X (by rfl) dX11_set_64 ?_
              refine r_aload_n X (by rfl) dX11_set_66 ?_
              refine r_getI X dX11_set_67 zF_X11_74 (zt hL 0 rfl) ?_
              refine r_aload_n X (by rfl) dX11_set_70 ?_
              refine r_getR X dX11_set_71 zF_X11_10 (zt hL 0 rfl) (zrf hL 0 rfl) ?_
              refine r_callV X dX11_set_74 zLV_X11_94 zCd_X7_placeOf (c_X7_placeOf _ G z τ ρ _ _ (zt hL 1 rfl) (zrf hL 9 rfl) (zrf hL 10 rfl) (zrf hL 11 rfl) (zrf hL 12 rfl) (zrf hL 13 rfl) (zt hL 2 rfl) (zt hL 3 rfl) (zt hL 4 rfl) (zt hL 5 rfl) (zt hL 6 rfl) (by omega) (by omega) (hscu hxu).1 _ _) (hscu hxu).1 ⟨by decide, rfl, rfl⟩ rfl rfl ⟨⟨rfl, rfl⟩, ⟨by decide, by decide⟩, ⟨Nat.le_of_ble_eq_true rfl, Nat.le_of_ble_eq_true rfl⟩, Nat.le_of_ble_eq_true rfl⟩ ?_
              rintro _ _ ⟨r, κ2, rfl, rfl⟩
              refine r_aload X (by rfl) dX11_set_77 ?_
              refine r_iload_n X (by rfl) dX11_set_79 ?_
              refine r_aload_n X (by rfl) dX11_set_80 ?_
              refine r_getI X dX11_set_81 zF_X11_74 (zt hL 0 rfl) ?_
              refine r_aload_n X (by rfl) dX11_set_84 ?_
              refine r_getR X dX11_set_85 zF_X11_10 (zt hL 0 rfl) (zrf hL 0 rfl) ?_
              refine r_callV X dX11_set_88 zLV_X11_94 zCd_X7_placeOf (c_X7_placeOf _ G z τ ρ _ _ (zt hL 1 rfl) (zrf hL 9 rfl) (zrf hL 10 rfl) (zrf hL 11 rfl) (zrf hL 12 rfl) (zrf hL 13 rfl) (zt hL 2 rfl) (zt hL 3 rfl) (zt hL 4 rfl) (zt hL 5 rfl) (zt hL 6 rfl) (by omega) (by omega) (hsc hx).1 _ _) (hsc hx).1 ⟨by decide, rfl, rfl⟩ rfl rfl ⟨⟨rfl, rfl⟩, ⟨by decide, by decide⟩, ⟨Nat.le_of_ble_eq_true rfl, Nat.le_of_ble_eq_true rfl⟩, Nat.le_of_ble_eq_true rfl⟩ ?_
              rintro _ _ ⟨r3, κ3, rfl, rfl⟩
              refine r_isub X dX11_set_91 ?_
              refine r_putI X dX11_set_92 zF_X11_77 (zt hL 0 rfl) rfl rfl ?_
              refine r_aload_n X (by rfl) dX11_set_95 ?_
              refine r_getI X dX11_set_96 zF_X11_77 (zt hL 0 rfl) ?_
              refine r_ireturn X hR dX11_set_99 rfl (Nat.zero_le _) (Nat.zero_le _) ?_
              first | exact ⟨_, _, _, rfl, rfl, fun _ _ _ => rfl⟩ | exact ⟨_, _, _, rfl, rfl, fun b k q => if_neg q⟩
            · refine r_ldc X zK_X11_93 dX11_set_58 ?_
              refine r_ireturn X hR dX11_set_60 rfl (Nat.zero_le _) (Nat.zero_le _) ?_
              first | exact ⟨_, _, _, rfl, rfl, fun _ _ _ => rfl⟩ | exact ⟨_, _, _, rfl, rfl, fun b k q => if_neg q⟩
        · refine r_ldc X zK_X11_93 dX11_set_40 ?_
          refine r_ireturn X hR dX11_set_42 rfl (Nat.zero_le _) (Nat.zero_le _) ?_
          first | exact ⟨_, _, _, rfl, rfl, fun _ _ _ => rfl⟩ | exact ⟨_, _, _, rfl, rfl, fun b k q => if_neg q⟩
set_option maxHeartbeats 4000000 in
set_option maxRecDepth 100000 in
theorem c_X11_against (l : Launch) (G : zG) (z : Nat) (τ : Nat → Option (Nat × Nat)) (ρ : Nat → Nat → Option Nat) (ι : Nat → Nat → Int32) (κ : Nat → Nat → Int64) {B c : Nat} (hL : zLay τ ρ B c) (hJ : zJ B c ι) (x y u : Int32) : zM l G yX11_against cX11_against 7 (some .int) ({ frames := 5, cells := 0, slots := 0, locals := 126 } : Room) [.ref B, .int x, .int y, .int u] (z, τ, ρ, ι, κ) (fun v s => ∃ r κ2, v = some (.int r) ∧ s = (z, τ, ρ, ι, κ2)) 0 0 := by
  refine zM_of zCd_X11_against (Nat.le_of_ble_eq_true rfl) ?_
  intro E X hR hE
  subst hE
  show zW E G 7 (z, τ, ρ, ι, κ) 0 0 0 [(0, .ref B), (1, .int x), (2, .int y), (3, .int u)] []
  obtain ⟨h8, ⟨hc1, hc2, hc3, hc4, hc5⟩, hJm⟩ := id hJ
  have hsc : (0 ≤ x.toInt ∧ x.toInt < (c : Int)) → zSc τ ρ (B + 63 + 7 * x.toNatClampNeg) := fun h => (hL.2.2 _ (by have := zclN h.1; omega)).2
  have hjs : (0 ≤ x.toInt ∧ x.toInt < (c : Int)) → zJs ι (B + 63 + 7 * x.toNatClampNeg) := fun h => hc5 _ (by have := zclN h.1; omega)
  have hscu : (0 ≤ u.toInt ∧ u.toInt < (c : Int)) → zSc τ ρ (B + 63 + 7 * u.toNatClampNeg) := fun h => (hL.2.2 _ (by have := zclN h.1; omega)).2
  have hjsu : (0 ≤ u.toInt ∧ u.toInt < (c : Int)) → zJs ι (B + 63 + 7 * u.toNatClampNeg) := fun h => hc5 _ (by have := zclN h.1; omega)
  refine r_aload_n X (by rfl) dX11_against_0 ?_
  refine r_iload_n X (by rfl) dX11_against_1 ?_
  refine r_callV X dX11_against_2 zLV_X11_85 zCd_X11_scaleAt (c_X11_scaleAt _ G z τ ρ _ _ hL hJ _) (zt hL 0 rfl) ⟨by decide, rfl, rfl⟩ rfl rfl ⟨⟨rfl, rfl⟩, ⟨by decide, by decide⟩, ⟨Nat.le_of_ble_eq_true rfl, Nat.le_of_ble_eq_true rfl⟩, Nat.le_of_ble_eq_true rfl⟩ ?_
  rintro _ _ (⟨rfl, hx, rfl⟩ | ⟨rfl, hx, rfl⟩)
  · refine r_astoreN X (by decide) dX11_against_5 ?_
    refine r_aload_n X (by rfl) dX11_against_7 ?_
    refine r_iload_n X (by rfl) dX11_against_8 ?_
    refine r_callV X dX11_against_9 zLV_X11_85 zCd_X11_scaleAt (c_X11_scaleAt _ G z τ ρ _ _ hL hJ _) (zt hL 0 rfl) ⟨by decide, rfl, rfl⟩ rfl rfl ⟨⟨rfl, rfl⟩, ⟨by decide, by decide⟩, ⟨Nat.le_of_ble_eq_true rfl, Nat.le_of_ble_eq_true rfl⟩, Nat.le_of_ble_eq_true rfl⟩ ?_
    rintro _ _ (⟨rfl, hxu, rfl⟩ | ⟨rfl, hxu, rfl⟩)
    · refine r_astoreN X (by decide) dX11_against_12 ?_
      refine r_aloadN X (by rfl) dX11_against_14 ?_
      refine r_ifnullN X 31 dX11_against_16 (by decide) ?_
      refine r_ldc X zK_X11_93 dX11_against_31 ?_
      refine r_ireturn X hR dX11_against_33 rfl (Nat.zero_le _) (Nat.zero_le _) ?_
      exact ⟨_, _, rfl, rfl⟩
    · refine r_astore X (by decide) dX11_against_12 ?_
      refine r_aloadN X (by rfl) dX11_against_14 ?_
      refine r_ifnullN X 31 dX11_against_16 (by decide) ?_
      refine r_ldc X zK_X11_93 dX11_against_31 ?_
      refine r_ireturn X hR dX11_against_33 rfl (Nat.zero_le _) (Nat.zero_le _) ?_
      exact ⟨_, _, rfl, rfl⟩
  · refine r_astore X (by decide) dX11_against_5 ?_
    refine r_aload_n X (by rfl) dX11_against_7 ?_
    refine r_iload_n X (by rfl) dX11_against_8 ?_
    refine r_callV X dX11_against_9 zLV_X11_85 zCd_X11_scaleAt (c_X11_scaleAt _ G z τ ρ _ _ hL hJ _) (zt hL 0 rfl) ⟨by decide, rfl, rfl⟩ rfl rfl ⟨⟨rfl, rfl⟩, ⟨by decide, by decide⟩, ⟨Nat.le_of_ble_eq_true rfl, Nat.le_of_ble_eq_true rfl⟩, Nat.le_of_ble_eq_true rfl⟩ ?_
    rintro _ _ (⟨rfl, hxu, rfl⟩ | ⟨rfl, hxu, rfl⟩)
    · refine r_astoreN X (by decide) dX11_against_12 ?_
      refine r_aload X (by rfl) dX11_against_14 ?_
      refine r_ifnull X dX11_against_16 ?_
      refine r_iload_n X (by rfl) dX11_against_19 ?_
      refine r_callS X dX11_against_20 zLS_X11_89 zCd_X11_isNumber (c_X11_isNumber _ G z τ ρ _ _ _) rfl rfl ⟨⟨rfl, rfl⟩, ⟨by decide, by decide⟩, ⟨Nat.le_of_ble_eq_true rfl, Nat.le_of_ble_eq_true rfl⟩, Nat.le_of_ble_eq_true rfl⟩ ?_
      rintro _ _ ⟨rfl, rfl⟩
      refine r_if_eq X 31 dX11_against_23 (by decide) (fun h23 => ?_) (fun h23 => ?_)
      · refine r_ldc X zK_X11_93 dX11_against_31 ?_
        refine r_ireturn X hR dX11_against_33 rfl (Nat.zero_le _) (Nat.zero_le _) ?_
        exact ⟨_, _, rfl, rfl⟩
      · refine r_aloadN X (by rfl) dX11_against_26 ?_
        refine r_ifnonnullN X dX11_against_28 ?_
        refine r_ldc X zK_X11_93 dX11_against_31 ?_
        refine r_ireturn X hR dX11_against_33 rfl (Nat.zero_le _) (Nat.zero_le _) ?_
        exact ⟨_, _, rfl, rfl⟩
    · refine r_astore X (by decide) dX11_against_12 ?_
      refine r_aload X (by rfl) dX11_against_14 ?_
      refine r_ifnull X dX11_against_16 ?_
      refine r_iload_n X (by rfl) dX11_against_19 ?_
      refine r_callS X dX11_against_20 zLS_X11_89 zCd_X11_isNumber (c_X11_isNumber _ G z τ ρ _ _ _) rfl rfl ⟨⟨rfl, rfl⟩, ⟨by decide, by decide⟩, ⟨Nat.le_of_ble_eq_true rfl, Nat.le_of_ble_eq_true rfl⟩, Nat.le_of_ble_eq_true rfl⟩ ?_
      rintro _ _ ⟨rfl, rfl⟩
      refine r_if_eq X 31 dX11_against_23 (by decide) (fun h23 => ?_) (fun h23 => ?_)
      · refine r_ldc X zK_X11_93 dX11_against_31 ?_
        refine r_ireturn X hR dX11_against_33 rfl (Nat.zero_le _) (Nat.zero_le _) ?_
        exact ⟨_, _, rfl, rfl⟩
      · refine r_aload X (by rfl) dX11_against_26 ?_
        refine r_ifnonnull X 34 dX11_against_28 (by decide) ?_
        refine r_aload X (by rfl) dX11_against_34 ?_
        refine r_iload_n X (by rfl) dX11_against_36 ?_
        refine r_aload_n X (by rfl) dX11_against_37 ?_
        refine r_getI X dX11_against_38 zF_X11_74 (zt hL 0 rfl) ?_
        refine r_aload_n X (by rfl) dX11_against_41 ?_
        refine r_getR X dX11_against_42 zF_X11_10 (zt hL 0 rfl) (zrf hL 0 rfl) ?_
        refine r_callV X dX11_against_45 zLV_X11_94 zCd_X7_placeOf (c_X7_placeOf _ G z τ ρ _ _ (zt hL 1 rfl) (zrf hL 9 rfl) (zrf hL 10 rfl) (zrf hL 11 rfl) (zrf hL 12 rfl) (zrf hL 13 rfl) (zt hL 2 rfl) (zt hL 3 rfl) (zt hL 4 rfl) (zt hL 5 rfl) (zt hL 6 rfl) (by omega) (by omega) (hsc hx).1 _ _) (hsc hx).1 ⟨by decide, rfl, rfl⟩ rfl rfl ⟨⟨rfl, rfl⟩, ⟨by decide, by decide⟩, ⟨Nat.le_of_ble_eq_true rfl, Nat.le_of_ble_eq_true rfl⟩, Nat.le_of_ble_eq_true rfl⟩ ?_
        rintro _ _ ⟨r, κ2, rfl, rfl⟩
        refine r_istore X (by decide) dX11_against_48 ?_
        refine r_aload X (by rfl) dX11_against_50 ?_
        refine r_getI X dX11_against_52 zF_X11_134 (hsc hx).1 ?_
        refine r_if_eq X 67 dX11_against_55 (by decide) (fun h55 => ?_) (fun h55 => ?_)
        · refine r_aload X (by rfl) dX11_against_67 ?_
          refine r_getI X dX11_against_69 zF_X11_134 (hscu hxu).1 ?_
          refine r_if_eq X 84 dX11_against_72 (by decide) (fun h72 => ?_) (fun h72 => ?_)
          · refine r_iload X (by rfl) dX11_against_84 ?_
            refine r_ireturn X hR dX11_against_86 rfl (Nat.zero_le _) (Nat.zero_le _) ?_
            exact ⟨_, _, rfl, rfl⟩
          · refine r_iload X (by rfl) dX11_against_75 ?_
            refine r_aload_n X (by rfl) dX11_against_77 ?_
            refine r_getI X dX11_against_78 zF_X11_77 (zt hL 0 rfl) ?_
            refine r_isub X dX11_against_81 ?_
            refine r_istore X (by decide) dX11_against_82 ?_
            refine r_iload X (by rfl) dX11_against_84 ?_
            refine r_ireturn X hR dX11_against_86 rfl (Nat.zero_le _) (Nat.zero_le _) ?_
            exact ⟨_, _, rfl, rfl⟩
        · refine r_iload X (by rfl) dX11_against_58 ?_
          refine r_aload_n X (by rfl) dX11_against_60 ?_
          refine r_getI X dX11_against_61 zF_X11_77 (zt hL 0 rfl) ?_
          refine r_iadd X dX11_against_64 ?_
          refine r_istore X (by decide) dX11_against_65 ?_
          refine r_aload X (by rfl) dX11_against_67 ?_
          refine r_getI X dX11_against_69 zF_X11_134 (hscu hxu).1 ?_
          refine r_if_eq X 84 dX11_against_72 (by decide) (fun h72 => ?_) (fun h72 => ?_)
          · refine r_iload X (by rfl) dX11_against_84 ?_
            refine r_ireturn X hR dX11_against_86 rfl (Nat.zero_le _) (Nat.zero_le _) ?_
            exact ⟨_, _, rfl, rfl⟩
          · refine r_iload X (by rfl) dX11_against_75 ?_
            refine r_aload_n X (by rfl) dX11_against_77 ?_
            refine r_getI X dX11_against_78 zF_X11_77 (zt hL 0 rfl) ?_
            refine r_isub X dX11_against_81 ?_
            refine r_istore X (by decide) dX11_against_82 ?_
            refine r_iload X (by rfl) dX11_against_84 ?_
            refine r_ireturn X hR dX11_against_86 rfl (Nat.zero_le _) (Nat.zero_le _) ?_
            exact ⟨_, _, rfl, rfl⟩
set_option maxHeartbeats 4000000 in
set_option maxRecDepth 100000 in
theorem c_X11_factor (l : Launch) (G : zG) (z : Nat) (τ : Nat → Option (Nat × Nat)) (ρ : Nat → Nat → Option Nat) (ι : Nat → Nat → Int32) (κ : Nat → Nat → Int64) {B c : Nat} (hL : zLay τ ρ B c) (hJ : zJ B c ι) (x : Int32) : zM l G yX11_factor cX11_factor 2 (some .int) ({ frames := 2, cells := 0, slots := 0, locals := 41 } : Room) [.ref B, .int x] (z, τ, ρ, ι, κ) (fun v s => (¬ (100 ≤ x.toInt ∧ x.toInt ≤ 999) ∧ v = some (.int (-2)) ∧ s = (z, τ, ρ, ι, κ)) ∨ ((100 ≤ x.toInt ∧ x.toInt ≤ 999) ∧ 12 ≤ (ι (B + 12) 1).toInt ∧ v = some (.int (-4)) ∧ s = (z, τ, ρ, ι, κ)) ∨ ((100 ≤ x.toInt ∧ x.toInt ≤ 999) ∧ (ι (B + 12) 1).toInt < 12 ∧ v = some (.int (ι (B + 12) 1 + 1)) ∧ s = (z, τ, ρ, zu (zu ι (B + 13) (ι (B + 12) 1).toNatClampNeg x) (B + 12) 1 (ι (B + 12) 1 + 1), κ))) 0 0 := by
  refine zM_of zCd_X11_factor (Nat.le_of_ble_eq_true rfl) ?_
  intro E X hR hE
  subst hE
  show zW E G 2 (z, τ, ρ, ι, κ) 0 0 0 [(0, .ref B), (1, .int x)] []
  obtain ⟨h8, ⟨hc1, hc2, hc3, hc4, hc5⟩, hJm⟩ := id hJ
  refine r_iload_n X (by rfl) dX11_factor_0 ?_
  refine r_callS X dX11_factor_1 zLS_X11_147 zCd_X11_isFactor (c_X11_isFactor _ G z τ ρ _ _ _) rfl rfl ⟨⟨rfl, rfl⟩, ⟨by decide, by decide⟩, ⟨Nat.le_of_ble_eq_true rfl, Nat.le_of_ble_eq_true rfl⟩, Nat.le_of_ble_eq_true rfl⟩ ?_
  rintro _ _ ⟨rfl, rfl⟩
  refine r_if_ne X 10 dX11_factor_4 (by decide) (fun h4 => ?_) (fun h4 => ?_)
  · refine r_aload_n X (by rfl) dX11_factor_10 ?_
    refine r_getR X dX11_factor_11 zF_X11_32 (zt hL 0 rfl) (zrf hL 3 rfl) ?_
    refine r_getR X dX11_factor_14 zF_X11_150 (zt hL 11 rfl) (zrf hL 15 rfl) ?_
    refine r_callV X dX11_factor_17 zLV_X11_153 zCd_X6_isFull (c_X6_isFull _ G z τ ρ _ _ (zt hL 12 rfl) (zrf hL 17 rfl) (zt hL 13 rfl) (by decide)) (zt hL 12 rfl) ⟨by decide, rfl, rfl⟩ rfl rfl ⟨⟨rfl, rfl⟩, ⟨by decide, by decide⟩, ⟨Nat.le_of_ble_eq_true rfl, Nat.le_of_ble_eq_true rfl⟩, Nat.le_of_ble_eq_true rfl⟩ ?_
    rintro _ _ ⟨rfl, rfl⟩
    refine r_if_eq X 28 dX11_factor_20 (by decide) (fun h20 => ?_) (fun h20 => ?_)
    · refine r_aload_n X (by rfl) dX11_factor_28 ?_
      refine r_getR X dX11_factor_29 zF_X11_32 (zt hL 0 rfl) (zrf hL 3 rfl) ?_
      refine r_getR X dX11_factor_32 zF_X11_150 (zt hL 11 rfl) (zrf hL 15 rfl) ?_
      refine r_iload_n X (by rfl) dX11_factor_35 ?_
      refine r_callV X dX11_factor_36 zLV_X11_157 zCd_X6_append (c_X6_append _ G z τ ρ _ _ (zt hL 12 rfl) (zrf hL 17 rfl) (zt hL 13 rfl) _ (by decide) hc2.1 (by have := zif0 h20; omega) (by omega)) (zt hL 12 rfl) ⟨by decide, rfl, rfl⟩ rfl rfl ⟨⟨rfl, rfl⟩, ⟨by decide, by decide⟩, ⟨Nat.le_of_ble_eq_true rfl, Nat.le_of_ble_eq_true rfl⟩, Nat.le_of_ble_eq_true rfl⟩ ?_
      rintro _ _ ⟨rfl, rfl⟩
      refine r_ireturn X hR dX11_factor_39 rfl (Nat.zero_le _) (Nat.zero_le _) ?_
      first | exact Or.inr (Or.inl ⟨zif1 h4, zif1 h20, rfl, rfl⟩) | exact Or.inr (Or.inr ⟨zif1 h4, (by have := zif0 h20; omega), rfl, rfl⟩)
    · refine r_bipush X (-4) (by decide) dX11_factor_23 ?_
      refine r_goto X 39 dX11_factor_25 (by decide) ?_
      refine r_ireturn X hR dX11_factor_39 rfl (Nat.zero_le _) (Nat.zero_le _) ?_
      first | exact Or.inr (Or.inl ⟨zif1 h4, zif1 h20, rfl, rfl⟩) | exact Or.inr (Or.inr ⟨zif1 h4, (by have := zif0 h20; omega), rfl, rfl⟩)
  · refine r_bipush X (-2) (by decide) dX11_factor_7 ?_
    refine r_ireturn X hR dX11_factor_9 rfl (Nat.zero_le _) (Nat.zero_le _) ?_
    exact Or.inl ⟨zif0 h4, rfl, rfl⟩
set_option maxHeartbeats 4000000 in
set_option maxRecDepth 100000 in
theorem c_X11_clear (l : Launch) (G : zG) (z : Nat) (τ : Nat → Option (Nat × Nat)) (ρ : Nat → Nat → Option Nat) (ι : Nat → Nat → Int32) (κ : Nat → Nat → Int64) {B c : Nat} (hL : zLay τ ρ B c) (hJ : zJ B c ι) : zM l G yX11_clear cX11_clear 1 (some .int) ({ frames := 1, cells := 0, slots := 0, locals := 21 } : Room) [.ref B] (z, τ, ρ, ι, κ) (fun v s => v = some (.int (ι (B + 12) 1)) ∧ s = (z, τ, ρ, zu ι (B + 12) 1 0, κ)) 0 0 := by
  refine zM_of zCd_X11_clear (Nat.le_of_ble_eq_true rfl) ?_
  intro E X hR hE
  subst hE
  show zW E G 1 (z, τ, ρ, ι, κ) 0 0 0 [(0, .ref B)] []
  refine r_aload_n X (by rfl) dX11_clear_0 ?_
  refine r_getR X dX11_clear_1 zF_X11_32 (zt hL 0 rfl) (zrf hL 3 rfl) ?_
  refine r_getR X dX11_clear_4 zF_X11_150 (zt hL 11 rfl) (zrf hL 15 rfl) ?_
  refine r_callV X dX11_clear_7 zLV_X11_160 zCd_X6_empty (c_X6_empty _ G z τ ρ _ _ (zt hL 12 rfl)) (zt hL 12 rfl) ⟨by decide, rfl, rfl⟩ rfl rfl ⟨⟨rfl, rfl⟩, ⟨by decide, by decide⟩, ⟨Nat.le_of_ble_eq_true rfl, Nat.le_of_ble_eq_true rfl⟩, Nat.le_of_ble_eq_true rfl⟩ ?_
  rintro _ _ ⟨rfl, rfl⟩
  refine r_ireturn X hR dX11_clear_10 rfl (Nat.zero_le _) (Nat.zero_le _) ?_
  exact ⟨rfl, rfl⟩
set_option maxHeartbeats 4000000 in
set_option maxRecDepth 100000 in
theorem c_X11_chain (l : Launch) (G : zG) (z : Nat) (τ : Nat → Option (Nat × Nat)) (ρ : Nat → Nat → Option Nat) (ι : Nat → Nat → Int32) (κ : Nat → Nat → Int64) {B c : Nat} (hL : zLay τ ρ B c) (hJ : zJ B c ι) (hT : zTq) (hP0 : zPk ι (B + 8) (B + 9)) (hst : 100 ≤ (ι B 10).toInt ∧ (ι B 10).toInt ≤ 50000) (hg : ∀ k : Nat, (k : Int) < (ι (B + 12) 1).toInt → 100 ≤ (ι (B + 13) k).toInt ∧ (ι (B + 13) k).toInt ≤ 999) (x : Int32) : zM l G yX11_chain cX11_chain 2 (some .int) ({ frames := 5, cells := 0, slots := 0, locals := 125 } : Room) [.ref B, .int x] (z, τ, ρ, ι, κ) (fun v s => ∃ r ι2 κ2, v = some (.int r) ∧ s = (z, τ, ρ, ι2, κ2) ∧ zFc0 B c ι ι2 ∧ zPk ι2 (B + 8) (B + 9) ∧ zCH (ι B 10) (ι (B + 13)) (ι (B + 12) 1).toNatClampNeg x r) 0 0 := by
  refine zM_of zCd_X11_chain (Nat.le_of_ble_eq_true rfl) ?_
  intro E X hR hE
  subst hE
  show zW E G 2 (z, τ, ρ, ι, κ) 0 0 0 [(0, .ref B), (1, .int x)] []
  obtain ⟨h8, ⟨hc1, hc2, hc3, hc4, hc5⟩, hJm⟩ := id hJ
  have hnc := zclN hc2.1
  refine r_iload_n X (by rfl) dX11_chain_0 ?_
  refine r_if_lt X 9 dX11_chain_1 (by decide) (fun h1 => ?_) (fun h1 => ?_)
  · refine r_ldc X zK_X11_93 dX11_chain_9 ?_
    refine r_ireturn X hR dX11_chain_11 rfl (Nat.zero_le _) (Nat.zero_le _) ?_
    exact ⟨_, _, _, rfl, rfl, zFc0.rfl hJ, hP0, Or.inl ⟨by omega, rfl⟩⟩
  · refine r_iload_n X (by rfl) dX11_chain_4 ?_
    refine r_iconst X 4 (by decide) dX11_chain_5 ?_
    refine r_icmp_le X 12 dX11_chain_6 (by decide) (fun h6 => ?_) (fun h6 => ?_)
    · rw [show Int32.toInt 4 = 4 from rfl] at h6
      refine r_aload_n X (by rfl) dX11_chain_12 ?_
      refine r_getR X dX11_chain_13 zF_X11_19 (zt hL 0 rfl) (zrf hL 1 rfl) ?_
      refine r_aload_n X (by rfl) dX11_chain_16 ?_
      refine r_getI X dX11_chain_17 zF_X11_74 (zt hL 0 rfl) ?_
      refine r_aload_n X (by rfl) dX11_chain_20 ?_
      refine r_getR X dX11_chain_21 zF_X11_10 (zt hL 0 rfl) (zrf hL 0 rfl) ?_
      refine r_callV X dX11_chain_24 zLV_X11_163 zCd_X5_cutFor (c_X5_cutFor _ G z τ ρ _ _ (zt hL 1 rfl) (zrf hL 9 rfl) (zrf hL 10 rfl) (zrf hL 11 rfl) (zrf hL 12 rfl) (zrf hL 13 rfl) (zt hL 2 rfl) (zt hL 3 rfl) (zt hL 4 rfl) (zt hL 5 rfl) (zt hL 6 rfl) (by omega) (by omega) (zt hL 8 rfl) (zrf hL 14 rfl) (zt hL 9 rfl) (by omega) (by omega) hT hP0 _ hst.1) (zt hL 8 rfl) ⟨by decide, rfl, rfl⟩ rfl rfl ⟨⟨rfl, rfl⟩, ⟨by decide, by decide⟩, ⟨Nat.le_of_ble_eq_true rfl, Nat.le_of_ble_eq_true rfl⟩, Nat.le_of_ble_eq_true rfl⟩ ?_
      rintro _ _ ⟨rfl, ι2, κ2, rfl, hf2, hs2, hp2⟩
      have h12 : ι2 (B + 12) = ι (B + 12) := hf2 _ (by omega) (by omega)
      have h13 : ι2 (B + 13) = ι (B + 13) := hf2 _ (by omega) (by omega)
      refine r_aload_n X (by rfl) dX11_chain_27 ?_
      refine r_getR X dX11_chain_28 zF_X11_32 (zt hL 0 rfl) (zrf hL 3 rfl) ?_
      refine r_aload_n X (by rfl) dX11_chain_31 ?_
      refine r_getR X dX11_chain_32 zF_X11_19 (zt hL 0 rfl) (zrf hL 1 rfl) ?_
      refine r_callV X dX11_chain_35 zLV_X11_166 zCd_X0_walk (e_X0_walk _ G z τ ρ _ _ (zt hL 8 rfl) (zrf hL 14 rfl) (zt hL 9 rfl) (zt hL 11 rfl) (zrf hL 15 rfl) (zt hL 12 rfl) (zrf hL 17 rfl) (zt hL 13 rfl) (by omega) (by omega) (by omega) (by omega) (by rw [h12]; exact hc2.1) (by rw [h12]; exact hc2.2)) (zt hL 11 rfl) ⟨by decide, rfl, rfl⟩ rfl rfl ⟨⟨rfl, rfl⟩, ⟨by decide, by decide⟩, ⟨Nat.le_of_ble_eq_true rfl, Nat.le_of_ble_eq_true rfl⟩, Nat.le_of_ble_eq_true rfl⟩ ?_
      rintro _ _ ⟨rfl, ι3, rfl, hf3, hm1, hm2⟩
      have hF := zFc0_fr (c := c) hJ (ι2 := ι3) (fun b q => by rw [hf3 b (by unfold zCx0 at q; omega), hf2 b (by unfold zCx0 at q; omega) (by unfold zCx0 at q; omega)])
      have hP3 : zPk ι3 (B + 8) (B + 9) := Or.inr (fun k hk => by rw [hf3 (B + 9) (by omega), hf3 (B + 8) (by omega), hs2]; exact hp2 k hk)
      have hD : zMv (ι2 (B + 8) 0) (fun k => if 100 ≤ (ι2 (B + 13) k).toInt ∧ (ι2 (B + 13) k).toInt ≤ 999 then ι2 (B + 9) (ι2 (B + 13) k - 100).toNatClampNeg else 0) (ι2 (B + 12) 1).toNatClampNeg = (zMv (ι B 10) (zDp (ι B 10) (ι (B + 13))) (ι (B + 12) 1).toNatClampNeg) := by
        rw [hs2, h12]
        refine zMv_congr (fun k hk => ?_)
        have hk2 := hg k (by omega)
        have hk3 := zs100 hk2
        show (if 100 ≤ (ι2 (B + 13) k).toInt ∧ (ι2 (B + 13) k).toInt ≤ 999 then ι2 (B + 9) (ι2 (B + 13) k - 100).toNatClampNeg else 0) = zPl9 (ι B 10) ((ι (B + 13) k).toNatClampNeg - 100)
        rw [h13, if_pos hk2, hk3.1, hp2 _ hk3.2]
        rfl
      rw [hD] at hm1 hm2
      have h12b : ι3 (B + 12) = ι (B + 12) := by rw [hf3 _ (by omega), h12]
      have h13b : ι3 (B + 13) = ι (B + 13) := by rw [hf3 _ (by omega), h13]
      have hpl : ∀ k, k < 900 → ι3 (B + 9) k = zPl9 (ι B 10) k := fun k hk => by rw [hf3 (B + 9) (by omega), hp2 k hk]; rfl
      have hM3 : zNd (fun k => (ι3 (B + 9) k).toInt) := fun k hk => by
        show (ι3 (B + 9) k).toInt ≤ (ι3 (B + 9) (k + 1)).toInt
        rw [hpl k (by omega), hpl (k + 1) hk]
        exact zPl9_nd hst k hk
      have hb3 : ∀ k, k < 900 → -1000000 ≤ (ι3 (B + 9) k).toInt ∧ (ι3 (B + 9) k).toInt ≤ 1000000 := fun k hk => by
        have hb := zPl9_b hst hk
        rw [hpl k hk]
        omega
      have hmb := zMv_b hst (zDp_b (g := ι (B + 13)) (n := (ι (B + 12) 1).toNatClampNeg) hst (fun k hk => hg k (by omega)))
      have hx3 : -1000000 ≤ (ι3 (B + 11) 1).toInt ∧ (ι3 (B + 11) 1).toInt ≤ 1000000 := by rw [hm1]; omega
      refine r_iload_n X (by rfl) dX11_chain_38 ?_
      have hsw : x.toInt = 0 + 0 ∨ x.toInt = 0 + 1 ∨ x.toInt = 0 + 2 ∨ x.toInt = 0 + 3 ∨ (x.toInt < 0 ∨ 3 < x.toInt) := by omega
      rcases hsw with hs | hs | hs | hs | hs
      · refine r_tableIn X (j0 := 0) 68 dX11_chain_39 hs rfl (by decide) (by decide) (by decide) ?_
        refine r_aload_n X (by rfl) dX11_chain_68 ?_
        refine r_getR X dX11_chain_69 zF_X11_32 (zt hL 0 rfl) (zrf hL 3 rfl) ?_
        refine r_getI X dX11_chain_72 zF_X11_170 (zt hL 11 rfl) ?_
        refine r_ireturn X hR dX11_chain_75 rfl (Nat.zero_le _) (Nat.zero_le _) ?_
        exact ⟨_, _, _, rfl, rfl, hF, hP3, Or.inr (Or.inl ⟨by omega, hm1⟩)⟩
      · refine r_tableIn X (j0 := 1) 76 dX11_chain_39 hs rfl (by decide) (by decide) (by decide) ?_
        refine r_aload_n X (by rfl) dX11_chain_76 ?_
        refine r_getR X dX11_chain_77 zF_X11_19 (zt hL 0 rfl) (zrf hL 1 rfl) ?_
        refine r_aload_n X (by rfl) dX11_chain_80 ?_
        refine r_getR X dX11_chain_81 zF_X11_32 (zt hL 0 rfl) (zrf hL 3 rfl) ?_
        refine r_getI X dX11_chain_84 zF_X11_170 (zt hL 11 rfl) ?_
        refine r_callV X dX11_chain_87 zLV_X11_173 zCd_X5_readingOf (e_X5_readingOf _ G z τ ρ _ _ (zt hL 8 rfl) (zrf hL 14 rfl) (zt hL 9 rfl) hM3 hb3 _ hx3) (zt hL 8 rfl) ⟨by decide, rfl, rfl⟩ rfl rfl ⟨⟨rfl, rfl⟩, ⟨by decide, by decide⟩, ⟨Nat.le_of_ble_eq_true rfl, Nat.le_of_ble_eq_true rfl⟩, Nat.le_of_ble_eq_true rfl⟩ ?_
        rintro _ _ ⟨r, rfl, rfl, n3, hr3, hn3⟩
        have hrg : zRg (ι B 10) (zMv (ι B 10) (zDp (ι B 10) (ι (B + 13))) (ι (B + 12) 1).toNatClampNeg).1 r := by
          rw [hm1] at hn3
          exact ⟨n3, hr3, zNr_cg (fun k hk => by rw [hpl k hk]) hn3⟩
        refine r_ireturn X hR dX11_chain_90 rfl (Nat.zero_le _) (Nat.zero_le _) ?_
        exact ⟨_, _, _, rfl, rfl, hF, hP3, Or.inr (Or.inr (Or.inl ⟨by omega, hrg⟩))⟩
      · refine r_tableIn X (j0 := 2) 91 dX11_chain_39 hs rfl (by decide) (by decide) (by decide) ?_
        refine r_aload_n X (by rfl) dX11_chain_91 ?_
        refine r_getR X dX11_chain_92 zF_X11_32 (zt hL 0 rfl) (zrf hL 3 rfl) ?_
        refine r_callV X dX11_chain_95 zLV_X11_176 zCd_X0_truth (e_X0_truth _ G z τ ρ _ _ (zt hL 11 rfl) (zrf hL 15 rfl) (zt hL 12 rfl) (zrf hL 17 rfl) (zt hL 13 rfl) (zrf hL 16 rfl) (zt hL 14 rfl) (by rw [h12b]; exact hc2.1) (by rw [h12b]; exact hc2.2) (by rw [h12b, h13b]; exact hg)) (zt hL 11 rfl) ⟨by decide, rfl, rfl⟩ rfl rfl ⟨⟨rfl, rfl⟩, ⟨by decide, by decide⟩, ⟨Nat.le_of_ble_eq_true rfl, Nat.le_of_ble_eq_true rfl⟩, Nat.le_of_ble_eq_true rfl⟩ ?_
        rintro _ _ ⟨r2, κ3, rfl, rfl, ht2⟩
        rw [h12b, h13b] at ht2
        refine r_ireturn X hR dX11_chain_98 rfl (Nat.zero_le _) (Nat.zero_le _) ?_
        exact ⟨_, _, _, rfl, rfl, hF, hP3, Or.inr (Or.inr (Or.inr (Or.inl ⟨by omega, ht2⟩)))⟩
      · refine r_tableIn X (j0 := 3) 99 dX11_chain_39 hs rfl (by decide) (by decide) (by decide) ?_
        refine r_aload_n X (by rfl) dX11_chain_99 ?_
        refine r_getR X dX11_chain_100 zF_X11_19 (zt hL 0 rfl) (zrf hL 1 rfl) ?_
        refine r_aload_n X (by rfl) dX11_chain_103 ?_
        refine r_getR X dX11_chain_104 zF_X11_32 (zt hL 0 rfl) (zrf hL 3 rfl) ?_
        refine r_getI X dX11_chain_107 zF_X11_170 (zt hL 11 rfl) ?_
        refine r_callV X dX11_chain_110 zLV_X11_173 zCd_X5_readingOf (e_X5_readingOf _ G z τ ρ _ _ (zt hL 8 rfl) (zrf hL 14 rfl) (zt hL 9 rfl) hM3 hb3 _ hx3) (zt hL 8 rfl) ⟨by decide, rfl, rfl⟩ rfl rfl ⟨⟨rfl, rfl⟩, ⟨by decide, by decide⟩, ⟨Nat.le_of_ble_eq_true rfl, Nat.le_of_ble_eq_true rfl⟩, Nat.le_of_ble_eq_true rfl⟩ ?_
        rintro _ _ ⟨r, rfl, rfl, n3, hr3, hn3⟩
        have hrg : zRg (ι B 10) (zMv (ι B 10) (zDp (ι B 10) (ι (B + 13))) (ι (B + 12) 1).toNatClampNeg).1 r := by
          rw [hm1] at hn3
          exact ⟨n3, hr3, zNr_cg (fun k hk => by rw [hpl k hk]) hn3⟩
        refine r_aload_n X (by rfl) dX11_chain_113 ?_
        refine r_getR X dX11_chain_114 zF_X11_32 (zt hL 0 rfl) (zrf hL 3 rfl) ?_
        refine r_callV X dX11_chain_117 zLV_X11_176 zCd_X0_truth (e_X0_truth _ G z τ ρ _ _ (zt hL 11 rfl) (zrf hL 15 rfl) (zt hL 12 rfl) (zrf hL 17 rfl) (zt hL 13 rfl) (zrf hL 16 rfl) (zt hL 14 rfl) (by rw [h12b]; exact hc2.1) (by rw [h12b]; exact hc2.2) (by rw [h12b, h13b]; exact hg)) (zt hL 11 rfl) ⟨by decide, rfl, rfl⟩ rfl rfl ⟨⟨rfl, rfl⟩, ⟨by decide, by decide⟩, ⟨Nat.le_of_ble_eq_true rfl, Nat.le_of_ble_eq_true rfl⟩, Nat.le_of_ble_eq_true rfl⟩ ?_
        rintro _ _ ⟨r2, κ3, rfl, rfl, ht2⟩
        rw [h12b, h13b] at ht2
        refine r_isub X dX11_chain_120 ?_
        refine r_ireturn X hR dX11_chain_121 rfl (Nat.zero_le _) (Nat.zero_le _) ?_
        exact ⟨_, _, _, rfl, rfl, hF, hP3, Or.inr (Or.inr (Or.inr (Or.inr (Or.inl ⟨by omega, _, _, rfl, hrg, ht2⟩))))⟩
      · refine r_tableOut X 122 dX11_chain_39 hs (by decide) ?_
        refine r_aload_n X (by rfl) dX11_chain_122 ?_
        refine r_getR X dX11_chain_123 zF_X11_32 (zt hL 0 rfl) (zrf hL 3 rfl) ?_
        refine r_getI X dX11_chain_126 zF_X11_179 (zt hL 11 rfl) ?_
        refine r_ireturn X hR dX11_chain_129 rfl (Nat.zero_le _) (Nat.zero_le _) ?_
        exact ⟨_, _, _, rfl, rfl, hF, hP3, Or.inr (Or.inr (Or.inr (Or.inr (Or.inr ⟨by omega, hm2⟩))))⟩
    · rw [show Int32.toInt 4 = 4 from rfl] at h6
      refine r_ldc X zK_X11_93 dX11_chain_9 ?_
      refine r_ireturn X hR dX11_chain_11 rfl (Nat.zero_le _) (Nat.zero_le _) ?_
      exact ⟨_, _, _, rfl, rfl, zFc0.rfl hJ, hP0, Or.inl ⟨by omega, rfl⟩⟩
set_option maxHeartbeats 4000000 in
set_option maxRecDepth 100000 in
theorem c_X11_pairs (l : Launch) (G : zG) (z : Nat) (τ : Nat → Option (Nat × Nat)) (ρ : Nat → Nat → Option Nat) (ι : Nat → Nat → Int32) (κ : Nat → Nat → Int64) {B c : Nat} (hL : zLay τ ρ B c) (hJ : zJ B c ι) (hT : zTq) (hP0 : zPk ι (B + 8) (B + 9)) (hst : 100 ≤ (ι B 10).toInt ∧ (ι B 10).toInt ≤ 50000) (x y u w : Int32) : zM l G yX11_pairs cX11_pairs 5 (some .int) ({ frames := 5, cells := 0, slots := 0, locals := 125 } : Room) [.ref B, .int x, .int y, .int u, .int w] (z, τ, ρ, ι, κ) (fun v s => ∃ r ι2 κ2, v = some (.int r) ∧ s = (z, τ, ρ, ι2, κ2) ∧ zFc0 B c ι ι2 ∧ zPk ι2 (B + 8) (B + 9)) 0 0 := by
  refine zM_of zCd_X11_pairs (Nat.le_of_ble_eq_true rfl) ?_
  intro E X hR hE
  subst hE
  show zW E G 5 (z, τ, ρ, ι, κ) 0 0 0 [(0, .ref B), (1, .int x), (2, .int y), (3, .int u), (4, .int w)] []
  obtain ⟨h8, ⟨hc1, hc2, hc3, hc4, hc5⟩, hJm⟩ := id hJ
  refine r_iload_n X (by rfl) dX11_pairs_0 ?_
  refine r_callS X dX11_pairs_1 zLS_X11_147 zCd_X11_isFactor (c_X11_isFactor _ G z τ ρ _ _ _) rfl rfl ⟨⟨rfl, rfl⟩, ⟨by decide, by decide⟩, ⟨Nat.le_of_ble_eq_true rfl, Nat.le_of_ble_eq_true rfl⟩, Nat.le_of_ble_eq_true rfl⟩ ?_
  rintro _ _ ⟨rfl, rfl⟩
  refine r_if_eq X 42 dX11_pairs_4 (by decide) (fun h4 => ?_) (fun h4 => ?_)
  · refine r_bipush X (-2) (by decide) dX11_pairs_42 ?_
    refine r_ireturn X hR dX11_pairs_44 rfl (Nat.zero_le _) (Nat.zero_le _) ?_
    first | exact ⟨_, _, _, rfl, rfl, hF, hP3⟩ | exact ⟨_, _, _, rfl, rfl, zFc0.rfl hJ, hP0⟩
  · refine r_iload_n X (by rfl) dX11_pairs_7 ?_
    refine r_callS X dX11_pairs_8 zLS_X11_147 zCd_X11_isFactor (c_X11_isFactor _ G z τ ρ _ _ _) rfl rfl ⟨⟨rfl, rfl⟩, ⟨by decide, by decide⟩, ⟨Nat.le_of_ble_eq_true rfl, Nat.le_of_ble_eq_true rfl⟩, Nat.le_of_ble_eq_true rfl⟩ ?_
    rintro _ _ ⟨rfl, rfl⟩
    refine r_if_eq X 42 dX11_pairs_11 (by decide) (fun h11 => ?_) (fun h11 => ?_)
    · refine r_bipush X (-2) (by decide) dX11_pairs_42 ?_
      refine r_ireturn X hR dX11_pairs_44 rfl (Nat.zero_le _) (Nat.zero_le _) ?_
      first | exact ⟨_, _, _, rfl, rfl, hF, hP3⟩ | exact ⟨_, _, _, rfl, rfl, zFc0.rfl hJ, hP0⟩
    · refine r_iload_n X (by rfl) dX11_pairs_14 ?_
      refine r_iload_n X (by rfl) dX11_pairs_15 ?_
      refine r_icmp_gt X 42 dX11_pairs_16 (by decide) (fun h16 => ?_) (fun h16 => ?_)
      · refine r_bipush X (-2) (by decide) dX11_pairs_42 ?_
        refine r_ireturn X hR dX11_pairs_44 rfl (Nat.zero_le _) (Nat.zero_le _) ?_
        first | exact ⟨_, _, _, rfl, rfl, hF, hP3⟩ | exact ⟨_, _, _, rfl, rfl, zFc0.rfl hJ, hP0⟩
      · refine r_iload_n X (by rfl) dX11_pairs_19 ?_
        refine r_iconst X 1 (by decide) dX11_pairs_20 ?_
        refine r_icmp_lt X 42 dX11_pairs_21 (by decide) (fun h21 => ?_) (fun h21 => ?_)
        · rw [show Int32.toInt 1 = 1 from rfl] at h21
          refine r_bipush X (-2) (by decide) dX11_pairs_42 ?_
          refine r_ireturn X hR dX11_pairs_44 rfl (Nat.zero_le _) (Nat.zero_le _) ?_
          first | exact ⟨_, _, _, rfl, rfl, hF, hP3⟩ | exact ⟨_, _, _, rfl, rfl, zFc0.rfl hJ, hP0⟩
        · rw [show Int32.toInt 1 = 1 from rfl] at h21
          refine r_iload_n X (by rfl) dX11_pairs_24 ?_
          refine r_sipush X 10000 (by decide) dX11_pairs_25 ?_
          refine r_icmp_gt X 42 dX11_pairs_28 (by decide) (fun h28 => ?_) (fun h28 => ?_)
          · rw [show Int32.toInt 10000 = 10000 from rfl] at h28
            refine r_bipush X (-2) (by decide) dX11_pairs_42 ?_
            refine r_ireturn X hR dX11_pairs_44 rfl (Nat.zero_le _) (Nat.zero_le _) ?_
            first | exact ⟨_, _, _, rfl, rfl, hF, hP3⟩ | exact ⟨_, _, _, rfl, rfl, zFc0.rfl hJ, hP0⟩
          · rw [show Int32.toInt 10000 = 10000 from rfl] at h28
            refine r_iload X (by rfl) dX11_pairs_31 ?_
            refine r_if_lt X 42 dX11_pairs_33 (by decide) (fun h33 => ?_) (fun h33 => ?_)
            · refine r_bipush X (-2) (by decide) dX11_pairs_42 ?_
              refine r_ireturn X hR dX11_pairs_44 rfl (Nat.zero_le _) (Nat.zero_le _) ?_
              first | exact ⟨_, _, _, rfl, rfl, hF, hP3⟩ | exact ⟨_, _, _, rfl, rfl, zFc0.rfl hJ, hP0⟩
            · refine r_iload X (by rfl) dX11_pairs_36 ?_
              refine r_iconst X 5 (by decide) dX11_pairs_38 ?_
              refine r_icmp_le X 45 dX11_pairs_39 (by decide) (fun h39 => ?_) (fun h39 => ?_)
              · rw [show Int32.toInt 5 = 5 from rfl] at h39
                have g4 := zif1 h4
                have g11 := zif1 h11
                refine r_iload_n X (by rfl) dX11_pairs_45 ?_
                refine r_iload_n X (by rfl) dX11_pairs_46 ?_
                refine r_isub X dX11_pairs_47 ?_
                refine r_iload_n X (by rfl) dX11_pairs_48 ?_
                refine r_idiv X (zne1 (x := u) (by omega)) dX11_pairs_49 ?_
                refine r_iconst X 1 (by decide) dX11_pairs_50 ?_
                refine r_iadd X dX11_pairs_51 ?_
                refine r_bipush X 100 (by decide) dX11_pairs_52 ?_
                refine r_icmp_le X 60 dX11_pairs_54 (by decide) (fun h54 => ?_) (fun h54 => ?_)
                · rw [show Int32.toInt 100 = 100 from rfl] at h54
                  refine r_aload_n X (by rfl) dX11_pairs_60 ?_
                  refine r_getR X dX11_pairs_61 zF_X11_19 (zt hL 0 rfl) (zrf hL 1 rfl) ?_
                  refine r_aload_n X (by rfl) dX11_pairs_64 ?_
                  refine r_getI X dX11_pairs_65 zF_X11_74 (zt hL 0 rfl) ?_
                  refine r_aload_n X (by rfl) dX11_pairs_68 ?_
                  refine r_getR X dX11_pairs_69 zF_X11_10 (zt hL 0 rfl) (zrf hL 0 rfl) ?_
                  refine r_callV X dX11_pairs_72 zLV_X11_163 zCd_X5_cutFor (c_X5_cutFor _ G z τ ρ _ _ (zt hL 1 rfl) (zrf hL 9 rfl) (zrf hL 10 rfl) (zrf hL 11 rfl) (zrf hL 12 rfl) (zrf hL 13 rfl) (zt hL 2 rfl) (zt hL 3 rfl) (zt hL 4 rfl) (zt hL 5 rfl) (zt hL 6 rfl) (by omega) (by omega) (zt hL 8 rfl) (zrf hL 14 rfl) (zt hL 9 rfl) (by omega) (by omega) hT hP0 _ hst.1) (zt hL 8 rfl) ⟨by decide, rfl, rfl⟩ rfl rfl ⟨⟨rfl, rfl⟩, ⟨by decide, by decide⟩, ⟨Nat.le_of_ble_eq_true rfl, Nat.le_of_ble_eq_true rfl⟩, Nat.le_of_ble_eq_true rfl⟩ ?_
                  rintro _ _ ⟨rfl, ι2, κ2, rfl, hf2, hs2, hp2⟩
                  refine r_aload_n X (by rfl) dX11_pairs_75 ?_
                  refine r_getR X dX11_pairs_76 zF_X11_39 (zt hL 0 rfl) (zrf hL 4 rfl) ?_
                  refine r_iload_n X (by rfl) dX11_pairs_79 ?_
                  refine r_iload_n X (by rfl) dX11_pairs_80 ?_
                  refine r_iload_n X (by rfl) dX11_pairs_81 ?_
                  refine r_aload_n X (by rfl) dX11_pairs_82 ?_
                  refine r_getR X dX11_pairs_83 zF_X11_19 (zt hL 0 rfl) (zrf hL 1 rfl) ?_
                  refine r_callV X dX11_pairs_86 zLV_X11_182 zCd_X4_sumUp (c_X4_sumUp _ G z τ ρ _ _ (zt hL 8 rfl) (zrf hL 14 rfl) (zt hL 9 rfl) (zt hL 16 rfl) (zt hL 15 rfl) (zrf hL 18 rfl) (by omega) (by omega) (by omega) _ _ _ (by omega) (by omega) (by omega) (by omega) (by omega)) (zt hL 15 rfl) ⟨by decide, rfl, rfl⟩ rfl rfl ⟨⟨rfl, rfl⟩, ⟨by decide, by decide⟩, ⟨Nat.le_of_ble_eq_true rfl, Nat.le_of_ble_eq_true rfl⟩, Nat.le_of_ble_eq_true rfl⟩ ?_
                  rintro _ _ ⟨rfl, ι3, rfl, hf3⟩
                  have hF := zFc0_fr (c := c) hJ (ι2 := ι3) (fun b q => by rw [hf3 b (by unfold zCx0 at q; omega) (by unfold zCx0 at q; omega), hf2 b (by unfold zCx0 at q; omega) (by unfold zCx0 at q; omega)])
                  have hP3 : zPk ι3 (B + 8) (B + 9) := Or.inr (fun k hk => by rw [hf3 (B + 9) (by omega) (by omega), hf3 (B + 8) (by omega) (by omega), hs2]; exact hp2 k hk)
                  refine r_iload X (by rfl) dX11_pairs_89 ?_
                  have hsw : w.toInt = 0 + 0 ∨ w.toInt = 0 + 1 ∨ w.toInt = 0 + 2 ∨ w.toInt = 0 + 3 ∨ w.toInt = 0 + 4 ∨ (w.toInt < 0 ∨ 4 < w.toInt) := by omega
                  rcases hsw with hs | hs | hs | hs | hs | hs
                  · refine r_tableIn X (j0 := 0) 124 dX11_pairs_91 hs rfl (by decide) (by decide) (by decide) ?_
                    refine r_aload_n X (by rfl) dX11_pairs_124 ?_
                    refine r_getR X dX11_pairs_125 zF_X11_39 (zt hL 0 rfl) (zrf hL 4 rfl) ?_
                    refine r_getI X dX11_pairs_128 zF_X11_186 (zt hL 15 rfl) ?_
                    refine r_ireturn X hR dX11_pairs_131 rfl (Nat.zero_le _) (Nat.zero_le _) ?_
                    first | exact ⟨_, _, _, rfl, rfl, hF, hP3⟩ | exact ⟨_, _, _, rfl, rfl, zFc0.rfl hJ, hP0⟩
                  · refine r_tableIn X (j0 := 1) 132 dX11_pairs_91 hs rfl (by decide) (by decide) (by decide) ?_
                    refine r_aload_n X (by rfl) dX11_pairs_132 ?_
                    refine r_getR X dX11_pairs_133 zF_X11_39 (zt hL 0 rfl) (zrf hL 4 rfl) ?_
                    refine r_getI X dX11_pairs_136 zF_X11_189 (zt hL 15 rfl) ?_
                    refine r_ireturn X hR dX11_pairs_139 rfl (Nat.zero_le _) (Nat.zero_le _) ?_
                    first | exact ⟨_, _, _, rfl, rfl, hF, hP3⟩ | exact ⟨_, _, _, rfl, rfl, zFc0.rfl hJ, hP0⟩
                  · refine r_tableIn X (j0 := 2) 140 dX11_pairs_91 hs rfl (by decide) (by decide) (by decide) ?_
                    refine r_aload_n X (by rfl) dX11_pairs_140 ?_
                    refine r_getR X dX11_pairs_141 zF_X11_39 (zt hL 0 rfl) (zrf hL 4 rfl) ?_
                    refine r_getI X dX11_pairs_144 zF_X11_192 (zt hL 15 rfl) ?_
                    refine r_ireturn X hR dX11_pairs_147 rfl (Nat.zero_le _) (Nat.zero_le _) ?_
                    first | exact ⟨_, _, _, rfl, rfl, hF, hP3⟩ | exact ⟨_, _, _, rfl, rfl, zFc0.rfl hJ, hP0⟩
                  · refine r_tableIn X (j0 := 3) 148 dX11_pairs_91 hs rfl (by decide) (by decide) (by decide) ?_
                    refine r_aload_n X (by rfl) dX11_pairs_148 ?_
                    refine r_getR X dX11_pairs_149 zF_X11_39 (zt hL 0 rfl) (zrf hL 4 rfl) ?_
                    refine r_getI X dX11_pairs_152 zF_X11_195 (zt hL 15 rfl) ?_
                    refine r_ireturn X hR dX11_pairs_155 rfl (Nat.zero_le _) (Nat.zero_le _) ?_
                    first | exact ⟨_, _, _, rfl, rfl, hF, hP3⟩ | exact ⟨_, _, _, rfl, rfl, zFc0.rfl hJ, hP0⟩
                  · refine r_tableIn X (j0 := 4) 156 dX11_pairs_91 hs rfl (by decide) (by decide) (by decide) ?_
                    refine r_aload_n X (by rfl) dX11_pairs_156 ?_
                    refine r_getR X dX11_pairs_157 zF_X11_39 (zt hL 0 rfl) (zrf hL 4 rfl) ?_
                    refine r_getI X dX11_pairs_160 zF_X11_198 (zt hL 15 rfl) ?_
                    refine r_ireturn X hR dX11_pairs_163 rfl (Nat.zero_le _) (Nat.zero_le _) ?_
                    first | exact ⟨_, _, _, rfl, rfl, hF, hP3⟩ | exact ⟨_, _, _, rfl, rfl, zFc0.rfl hJ, hP0⟩
                  · refine r_tableOut X 164 dX11_pairs_91 hs (by decide) ?_
                    refine r_aload_n X (by rfl) dX11_pairs_164 ?_
                    refine r_getR X dX11_pairs_165 zF_X11_39 (zt hL 0 rfl) (zrf hL 4 rfl) ?_
                    refine r_getI X dX11_pairs_168 zF_X11_201 (zt hL 15 rfl) ?_
                    refine r_ireturn X hR dX11_pairs_171 rfl (Nat.zero_le _) (Nat.zero_le _) ?_
                    first | exact ⟨_, _, _, rfl, rfl, hF, hP3⟩ | exact ⟨_, _, _, rfl, rfl, zFc0.rfl hJ, hP0⟩
                · rw [show Int32.toInt 100 = 100 from rfl] at h54
                  refine r_bipush X (-2) (by decide) dX11_pairs_57 ?_
                  refine r_ireturn X hR dX11_pairs_59 rfl (Nat.zero_le _) (Nat.zero_le _) ?_
                  first | exact ⟨_, _, _, rfl, rfl, hF, hP3⟩ | exact ⟨_, _, _, rfl, rfl, zFc0.rfl hJ, hP0⟩
              · rw [show Int32.toInt 5 = 5 from rfl] at h39
                refine r_bipush X (-2) (by decide) dX11_pairs_42 ?_
                refine r_ireturn X hR dX11_pairs_44 rfl (Nat.zero_le _) (Nat.zero_le _) ?_
                first | exact ⟨_, _, _, rfl, rfl, hF, hP3⟩ | exact ⟨_, _, _, rfl, rfl, zFc0.rfl hJ, hP0⟩
set_option maxHeartbeats 4000000 in
set_option maxRecDepth 100000 in
theorem c_X11_scalesOnSlide (l : Launch) (G : zG) (z : Nat) (τ : Nat → Option (Nat × Nat)) (ρ : Nat → Nat → Option Nat) (ι : Nat → Nat → Int32) (κ : Nat → Nat → Int64) {B c : Nat} (hL : zLay τ ρ B c) (hJ : zJ B c ι) : zM l G yX11_scalesOnSlide cX11_scalesOnSlide 3 (some .int) ({ frames := 0, cells := 0, slots := 0, locals := 0 } : Room) [.ref B] (z, τ, ρ, ι, κ) (fun v s => ∃ r, v = some (.int r) ∧ s = (z, τ, ρ, ι, κ)) 0 0 := by
  refine zM_of zCd_X11_scalesOnSlide (Nat.le_of_ble_eq_true rfl) ?_
  intro E X hR hE
  subst hE
  show zW E G 3 (z, τ, ρ, ι, κ) 0 0 0 [(0, .ref B)] []
  obtain ⟨h8, ⟨hc1, hc2, hc3, hc4, hc5⟩, hJm⟩ := id hJ
  have L4 : ∀ (m : Nat) (i p : Int32), (8 - i.toInt).toNat < m → 0 ≤ i.toInt → zW E G 3 (z, τ, ρ, ι, κ) 0 0 4 [(0, .ref B), (1, .int p), (2, .int i)] [] := by
    intro m
    induction m with
    | zero => intro i p h; omega
    | succ m ih => ?_
    intro i p hm h0
    have hin := zclN h0
    refine r_iload_n X (by rfl) dX11_scalesOnSlide_4 ?_
    refine r_aload_n X (by rfl) dX11_scalesOnSlide_5 ?_
    refine r_getI X dX11_scalesOnSlide_6 zF_X11_70 (zt hL 0 rfl) ?_
    refine r_icmp_ge X 33 dX11_scalesOnSlide_9 (by decide) (fun h9 => ?_) (fun h9 => ?_)
    · refine r_iload_n X (by rfl) dX11_scalesOnSlide_33 ?_
      refine r_ireturn X hR dX11_scalesOnSlide_34 rfl (Nat.zero_le _) (Nat.zero_le _) ?_
      exact ⟨_, rfl, rfl⟩
    · refine r_aload_n X (by rfl) dX11_scalesOnSlide_12 ?_
      refine r_getR X dX11_scalesOnSlide_13 zF_X11_25 (zt hL 0 rfl) (zrf hL 2 rfl) ?_
      refine r_iload_n X (by rfl) dX11_scalesOnSlide_16 ?_
      refine r_aaload X dX11_scalesOnSlide_17 (zt hL 10 rfl) (by decide) (vp_in_iff.mpr ⟨by omega, by omega⟩) (hL.2.2 i.toNatClampNeg (by omega)).1 ?_
      refine r_getI X dX11_scalesOnSlide_18 zF_X11_134 (hL.2.2 i.toNatClampNeg (by omega)).2.1 ?_
      refine r_if_eq X 27 dX11_scalesOnSlide_21 (by decide) (fun h21 => ?_) (fun h21 => ?_)
      · refine r_iinc X 1 (by decide) (by rfl) (by decide) dX11_scalesOnSlide_27 ?_
        refine r_goto X 4 dX11_scalesOnSlide_30 (by decide) ?_
        exact zW.loc3 (by rfl) (by rfl) (by rfl) (ih _ _ (by have e := zinc (x := i) (by omega); omega) (by have e := zinc (x := i) (by omega); omega))
      · refine r_iinc X 1 (by decide) (by rfl) (by decide) dX11_scalesOnSlide_24 ?_
        refine r_iinc X 1 (by decide) (by rfl) (by decide) dX11_scalesOnSlide_27 ?_
        refine r_goto X 4 dX11_scalesOnSlide_30 (by decide) ?_
        exact zW.loc3 (by rfl) (by rfl) (by rfl) (ih _ _ (by have e := zinc (x := i) (by omega); omega) (by have e := zinc (x := i) (by omega); omega))
  refine r_iconst X 0 (by decide) dX11_scalesOnSlide_0 ?_
  refine r_istore_n X (by decide) dX11_scalesOnSlide_1 ?_
  refine r_iconst X 0 (by decide) dX11_scalesOnSlide_2 ?_
  refine r_istore_n X (by decide) dX11_scalesOnSlide_3 ?_
  exact zW.loc3 (by rfl) (by rfl) (by rfl) (L4 9 _ _ (by decide) (by decide))
set_option maxHeartbeats 4000000 in
set_option maxRecDepth 100000 in
theorem c_X11_aimSettings (l : Launch) (G : zG) (z : Nat) (τ : Nat → Option (Nat × Nat)) (ρ : Nat → Nat → Option Nat) (ι : Nat → Nat → Int32) (κ : Nat → Nat → Int64) {B c : Nat} (hL : zLay τ ρ B c) (hJ : zJ B c ι) (x y u : Int32) : zM l G yX11_aimSettings cX11_aimSettings 5 none ({ frames := 3, cells := 0, slots := 0, locals := 70 } : Room) [.ref B, .int x, .int y, .int u] (z, τ, ρ, ι, κ) (fun v s => v = none ∧ ∃ ι2, s = (z, τ, ρ, ι2, κ) ∧ ∀ b, ¬ (B + 20 ≤ b ∧ b ≤ B + 27) → ι2 b = ι b) 0 0 := by
  refine zM_of zCd_X11_aimSettings (Nat.le_of_ble_eq_true rfl) ?_
  intro E X hR hE
  subst hE
  show zW E G 5 (z, τ, ρ, ι, κ) 0 0 0 [(0, .ref B), (1, .int x), (2, .int y), (3, .int u)] []
  obtain ⟨h8, ⟨hc1, hc2, hc3, hc4, hc5⟩, hJm⟩ := id hJ
  have hW : ∀ j, j < 3 → ρ (B + 23) j = some (B + 24 + j) := fun j hj => by
    rcases (show j = 0 ∨ j = 1 ∨ j = 2 by omega) with rfl | rfl | rfl
    · exact (zrf hL 26 rfl)
    · exact (zrf hL 27 rfl)
    · exact (zrf hL 28 rfl)
  have hWt : ∀ j, j < 3 → τ (B + 24 + j) = some (13, 49) := fun j hj => by
    rcases (show j = 0 ∨ j = 1 ∨ j = 2 by omega) with rfl | rfl | rfl
    · exact (zt hL 24 rfl)
    · exact (zt hL 25 rfl)
    · exact (zt hL 26 rfl)
  have L10 : ∀ (m : Nat) (i : Int32) (ι1 : Nat → Nat → Int32), (8 - i.toInt).toNat < m → 0 ≤ i.toInt → (∀ b, ¬ (B + 20 ≤ b ∧ b ≤ B + 27) → ι1 b = ι b) → zW E G 5 (z, τ, ρ, ι1, κ) 0 0 10 [(0, .ref B), (1, .int x), (2, .int y), (3, .int u), (4, .int i)] [] := by
    intro m
    induction m with
    | zero => intro i ι1 h; omega
    | succ m ih => ?_
    intro i ι1 hm h0 hf
    have hin := zclN h0
    have h9 : ι1 B 9 = ι B 9 := by rw [hf B (by omega)]
    refine r_iload X (by rfl) dX11_aimSettings_10 ?_
    refine r_aload_n X (by rfl) dX11_aimSettings_12 ?_
    refine r_getI X dX11_aimSettings_13 zF_X11_70 (zt hL 0 rfl) ?_
    refine r_icmp_ge X 65 dX11_aimSettings_16 (by decide) (fun h16 => ?_) (fun h16 => ?_)
    · rw [h9] at h16
      refine r_aload_n X (by rfl) dX11_aimSettings_65 ?_
      refine r_getR X dX11_aimSettings_66 zF_X11_46 (zt hL 0 rfl) (zrf hL 5 rfl) ?_
      refine r_iload_n X (by rfl) dX11_aimSettings_69 ?_
      refine r_iload_n X (by rfl) dX11_aimSettings_70 ?_
      refine r_iload_n X (by rfl) dX11_aimSettings_71 ?_
      refine r_callV X dX11_aimSettings_72 zLV_X11_277 zCd_X8_aimAt (c_X8_aimAt _ G z τ ρ _ _ (zt hL 20 rfl) (zrf hL 22 rfl) (zrf hL 23 rfl) (zrf hL 24 rfl) (zrf hL 25 rfl) (zt hL 21 rfl) (zt hL 22 rfl) (zt hL 23 rfl) (zt hL 27 rfl) hW hWt _ _ _) (zt hL 20 rfl) ⟨by decide, rfl, rfl⟩ rfl rfl ⟨⟨rfl, rfl⟩, ⟨by decide, by decide⟩, ⟨Nat.le_of_ble_eq_true rfl, Nat.le_of_ble_eq_true rfl⟩, Nat.le_of_ble_eq_true rfl⟩ ?_
      rintro _ _ ⟨rfl, ι4, rfl, hf4⟩
      refine r_return X hR dX11_aimSettings_75 (Nat.zero_le _) (Nat.zero_le _) ?_
      exact ⟨rfl, _, rfl, fun b hb => by rw [hf4 b (by omega) (by omega) (by omega)]; exact hf b hb⟩
    · rw [h9] at h16
      refine r_aload_n X (by rfl) dX11_aimSettings_19 ?_
      refine r_getR X dX11_aimSettings_20 zF_X11_25 (zt hL 0 rfl) (zrf hL 2 rfl) ?_
      refine r_iload X (by rfl) dX11_aimSettings_23 ?_
      refine r_aaload X dX11_aimSettings_25 (zt hL 10 rfl) (by decide) (vp_in_iff.mpr ⟨by omega, by omega⟩) (hL.2.2 i.toNatClampNeg (by omega)).1 ?_
      refine r_getI X dX11_aimSettings_26 zF_X11_134 (hL.2.2 i.toNatClampNeg (by omega)).2.1 ?_
      refine r_if_eq X 59 dX11_aimSettings_29 (by decide) (fun h29 => ?_) (fun h29 => ?_)
      · refine r_iinc X 1 (by decide) (by rfl) (by decide) dX11_aimSettings_59 ?_
        refine r_goto X 10 dX11_aimSettings_62 (by decide) ?_
        exact zW.loc5 (by rfl) (by rfl) (by rfl) (by rfl) (by rfl) (ih _ _ (by have e := zinc (x := i) (by omega); omega) (by have e := zinc (x := i) (by omega); omega) (by first | exact hf | exact hf3))
      · refine r_aload_n X (by rfl) dX11_aimSettings_32 ?_
        refine r_getR X dX11_aimSettings_33 zF_X11_46 (zt hL 0 rfl) (zrf hL 5 rfl) ?_
        refine r_aload_n X (by rfl) dX11_aimSettings_36 ?_
        refine r_getR X dX11_aimSettings_37 zF_X11_25 (zt hL 0 rfl) (zrf hL 2 rfl) ?_
        refine r_iload X (by rfl) dX11_aimSettings_40 ?_
        refine r_aaload X dX11_aimSettings_42 (zt hL 10 rfl) (by decide) (vp_in_iff.mpr ⟨by omega, by omega⟩) (hL.2.2 i.toNatClampNeg (by omega)).1 ?_
        refine r_getI X dX11_aimSettings_43 zF_X11_267 (hL.2.2 i.toNatClampNeg (by omega)).2.1 ?_
        refine r_aload_n X (by rfl) dX11_aimSettings_46 ?_
        refine r_getR X dX11_aimSettings_47 zF_X11_25 (zt hL 0 rfl) (zrf hL 2 rfl) ?_
        refine r_iload X (by rfl) dX11_aimSettings_50 ?_
        refine r_aaload X dX11_aimSettings_52 (zt hL 10 rfl) (by decide) (vp_in_iff.mpr ⟨by omega, by omega⟩) (hL.2.2 i.toNatClampNeg (by omega)).1 ?_
        refine r_getI X dX11_aimSettings_53 zF_X11_270 (hL.2.2 i.toNatClampNeg (by omega)).2.1 ?_
        refine r_callV X dX11_aimSettings_56 zLV_X11_273 zCd_X8_allow (c_X8_allow _ G z τ ρ _ _ (zt hL 20 rfl) (zrf hL 22 rfl) (zrf hL 23 rfl) (zrf hL 24 rfl) (zrf hL 25 rfl) (zt hL 21 rfl) (zt hL 22 rfl) (zt hL 23 rfl) (zt hL 27 rfl) hW hWt _ _) (zt hL 20 rfl) ⟨by decide, rfl, rfl⟩ rfl rfl ⟨⟨rfl, rfl⟩, ⟨by decide, by decide⟩, ⟨Nat.le_of_ble_eq_true rfl, Nat.le_of_ble_eq_true rfl⟩, Nat.le_of_ble_eq_true rfl⟩ ?_
        rintro _ _ ⟨rfl, ι3, rfl, hf3'⟩
        have hf3 : ∀ b, ¬ (B + 20 ≤ b ∧ b ≤ B + 27) → ι3 b = ι b := fun b hb => by rw [hf3' b (by omega) (by omega)]; exact hf b hb
        refine r_iinc X 1 (by decide) (by rfl) (by decide) dX11_aimSettings_59 ?_
        refine r_goto X 10 dX11_aimSettings_62 (by decide) ?_
        exact zW.loc5 (by rfl) (by rfl) (by rfl) (by rfl) (by rfl) (ih _ _ (by have e := zinc (x := i) (by omega); omega) (by have e := zinc (x := i) (by omega); omega) (by first | exact hf | exact hf3))
  refine r_aload_n X (by rfl) dX11_aimSettings_0 ?_
  refine r_getR X dX11_aimSettings_1 zF_X11_46 (zt hL 0 rfl) (zrf hL 5 rfl) ?_
  refine r_callV X dX11_aimSettings_4 zLV_X11_264 zCd_X8_forgetParts (c_X8_forgetParts _ G z τ ρ _ _ (zt hL 20 rfl) (zrf hL 22 rfl) (zrf hL 23 rfl) (zrf hL 24 rfl) (zrf hL 25 rfl) (zt hL 21 rfl) (zt hL 22 rfl) (zt hL 23 rfl) (zt hL 27 rfl) hW hWt) (zt hL 20 rfl) ⟨by decide, rfl, rfl⟩ rfl rfl ⟨⟨rfl, rfl⟩, ⟨by decide, by decide⟩, ⟨Nat.le_of_ble_eq_true rfl, Nat.le_of_ble_eq_true rfl⟩, Nat.le_of_ble_eq_true rfl⟩ ?_
  rintro _ _ ⟨rfl, ι2, rfl, hf2⟩
  refine r_iconst X 0 (by decide) dX11_aimSettings_7 ?_
  refine r_istore X (by decide) dX11_aimSettings_8 ?_
  exact zW.loc5 (by rfl) (by rfl) (by rfl) (by rfl) (by rfl) (L10 9 _ _ (by decide) (by decide) (fun b hb => hf2 b (by omega) (by omega)))
set_option maxHeartbeats 4000000 in
set_option maxRecDepth 100000 in
theorem c_X11_fewest (l : Launch) (G : zG) (z : Nat) (τ : Nat → Option (Nat × Nat)) (ρ : Nat → Nat → Option Nat) (ι : Nat → Nat → Int32) (κ : Nat → Nat → Int64) {B c : Nat} (hL : zLay τ ρ B c) (hJ : zJ B c ι) (x y u : Int32) : zM l G yX11_fewest cX11_fewest 4 (some .int) ({ frames := 4, cells := 0, slots := 0, locals := 94 } : Room) [.ref B, .int x, .int y, .int u] (z, τ, ρ, ι, κ) (fun v s => ∃ r ι2 κ2, v = some (.int r) ∧ s = (z, τ, ρ, ι2, κ2) ∧ zFc B c ι ι2) 0 0 := by
  refine zM_of zCd_X11_fewest (Nat.le_of_ble_eq_true rfl) ?_
  intro E X hR hE
  subst hE
  show zW E G 4 (z, τ, ρ, ι, κ) 0 0 0 [(0, .ref B), (1, .int x), (2, .int y), (3, .int u)] []
  have hW : ∀ j, j < 3 → ρ (B + 23) j = some (B + 24 + j) := fun j hj => by
    rcases (show j = 0 ∨ j = 1 ∨ j = 2 by omega) with rfl | rfl | rfl
    · exact (zrf hL 26 rfl)
    · exact (zrf hL 27 rfl)
    · exact (zrf hL 28 rfl)
  have hWt : ∀ j, j < 3 → τ (B + 24 + j) = some (13, 49) := fun j hj => by
    rcases (show j = 0 ∨ j = 1 ∨ j = 2 by omega) with rfl | rfl | rfl
    · exact (zt hL 24 rfl)
    · exact (zt hL 25 rfl)
    · exact (zt hL 26 rfl)
  refine r_iload_n X (by rfl) dX11_fewest_0 ?_
  refine r_callS X dX11_fewest_1 zLS_X11_202 zCd_X11_isPower (c_X11_isPower _ G z τ ρ _ _ _) rfl rfl ⟨⟨rfl, rfl⟩, ⟨by decide, by decide⟩, ⟨Nat.le_of_ble_eq_true rfl, Nat.le_of_ble_eq_true rfl⟩, Nat.le_of_ble_eq_true rfl⟩ ?_
  rintro _ _ ⟨rfl, rfl⟩
  refine r_if_eq X 21 dX11_fewest_4 (by decide) (fun h4 => ?_) (fun h4 => ?_)
  · refine r_bipush X (-2) (by decide) dX11_fewest_21 ?_
    refine r_ireturn X hR dX11_fewest_23 rfl (Nat.zero_le _) (Nat.zero_le _) ?_
    exact ⟨_, _, _, rfl, rfl, zFc.rfl hJ⟩
  · refine r_iload_n X (by rfl) dX11_fewest_7 ?_
    refine r_callS X dX11_fewest_8 zLS_X11_202 zCd_X11_isPower (c_X11_isPower _ G z τ ρ _ _ _) rfl rfl ⟨⟨rfl, rfl⟩, ⟨by decide, by decide⟩, ⟨Nat.le_of_ble_eq_true rfl, Nat.le_of_ble_eq_true rfl⟩, Nat.le_of_ble_eq_true rfl⟩ ?_
    rintro _ _ ⟨rfl, rfl⟩
    refine r_if_eq X 21 dX11_fewest_11 (by decide) (fun h11 => ?_) (fun h11 => ?_)
    · refine r_bipush X (-2) (by decide) dX11_fewest_21 ?_
      refine r_ireturn X hR dX11_fewest_23 rfl (Nat.zero_le _) (Nat.zero_le _) ?_
      exact ⟨_, _, _, rfl, rfl, zFc.rfl hJ⟩
    · refine r_iload_n X (by rfl) dX11_fewest_14 ?_
      refine r_callS X dX11_fewest_15 zLS_X11_202 zCd_X11_isPower (c_X11_isPower _ G z τ ρ _ _ _) rfl rfl ⟨⟨rfl, rfl⟩, ⟨by decide, by decide⟩, ⟨Nat.le_of_ble_eq_true rfl, Nat.le_of_ble_eq_true rfl⟩, Nat.le_of_ble_eq_true rfl⟩ ?_
      rintro _ _ ⟨rfl, rfl⟩
      refine r_if_ne X 24 dX11_fewest_18 (by decide) (fun h18 => ?_) (fun h18 => ?_)
      · refine r_aload_n X (by rfl) dX11_fewest_24 ?_
        refine r_iload_n X (by rfl) dX11_fewest_25 ?_
        refine r_iload_n X (by rfl) dX11_fewest_26 ?_
        refine r_iload_n X (by rfl) dX11_fewest_27 ?_
        refine r_callV X dX11_fewest_28 zLV_X11_205 zCd_X11_aimSettings (c_X11_aimSettings _ G z τ ρ _ _ hL hJ _ _ _) (zt hL 0 rfl) ⟨by decide, rfl, rfl⟩ rfl rfl ⟨⟨rfl, rfl⟩, ⟨by decide, by decide⟩, ⟨Nat.le_of_ble_eq_true rfl, Nat.le_of_ble_eq_true rfl⟩, Nat.le_of_ble_eq_true rfl⟩ ?_
        rintro _ _ ⟨rfl, ι2, rfl, hf2⟩
        refine r_aload_n X (by rfl) dX11_fewest_31 ?_
        refine r_getR X dX11_fewest_32 zF_X11_46 (zt hL 0 rfl) (zrf hL 5 rfl) ?_
        refine r_callV X dX11_fewest_35 zLV_X11_208 zCd_X8_fewestToGoal (c_X8_fewestToGoal _ G z τ ρ _ _ (zt hL 20 rfl) (zrf hL 22 rfl) (zrf hL 23 rfl) (zrf hL 24 rfl) (zrf hL 25 rfl) (zt hL 21 rfl) (zt hL 22 rfl) (zt hL 23 rfl) (zt hL 27 rfl) hW hWt) (zt hL 20 rfl) ⟨by decide, rfl, rfl⟩ rfl rfl ⟨⟨rfl, rfl⟩, ⟨by decide, by decide⟩, ⟨Nat.le_of_ble_eq_true rfl, Nat.le_of_ble_eq_true rfl⟩, Nat.le_of_ble_eq_true rfl⟩ ?_
        rintro _ _ ⟨r, rfl, rfl⟩
        refine r_ireturn X hR dX11_fewest_38 rfl (Nat.zero_le _) (Nat.zero_le _) ?_
        exact ⟨_, _, _, rfl, rfl, zFc_fr hJ (fun b q => hf2 b (by unfold zCx at q; omega))⟩
      · refine r_bipush X (-2) (by decide) dX11_fewest_21 ?_
        refine r_ireturn X hR dX11_fewest_23 rfl (Nat.zero_le _) (Nat.zero_le _) ?_
        exact ⟨_, _, _, rfl, rfl, zFc.rfl hJ⟩
set_option maxHeartbeats 4000000 in
set_option maxRecDepth 100000 in
theorem c_X11_setting (l : Launch) (G : zG) (z : Nat) (τ : Nat → Option (Nat × Nat)) (ρ : Nat → Nat → Option Nat) (ι : Nat → Nat → Int32) (κ : Nat → Nat → Int64) {B c : Nat} (hL : zLay τ ρ B c) (hJ : zJ B c ι) (x y u w : Int32) : zM l G yX11_setting cX11_setting 5 (some .int) ({ frames := 4, cells := 0, slots := 0, locals := 94 } : Room) [.ref B, .int x, .int y, .int u, .int w] (z, τ, ρ, ι, κ) (fun v s => ∃ r ι2 κ2, v = some (.int r) ∧ s = (z, τ, ρ, ι2, κ2) ∧ zFc B c ι ι2) 0 0 := by
  refine zM_of zCd_X11_setting (Nat.le_of_ble_eq_true rfl) ?_
  intro E X hR hE
  subst hE
  show zW E G 5 (z, τ, ρ, ι, κ) 0 0 0 [(0, .ref B), (1, .int x), (2, .int y), (3, .int u), (4, .int w)] []
  have hW : ∀ j, j < 3 → ρ (B + 23) j = some (B + 24 + j) := fun j hj => by
    rcases (show j = 0 ∨ j = 1 ∨ j = 2 by omega) with rfl | rfl | rfl
    · exact (zrf hL 26 rfl)
    · exact (zrf hL 27 rfl)
    · exact (zrf hL 28 rfl)
  have hWt : ∀ j, j < 3 → τ (B + 24 + j) = some (13, 49) := fun j hj => by
    rcases (show j = 0 ∨ j = 1 ∨ j = 2 by omega) with rfl | rfl | rfl
    · exact (zt hL 24 rfl)
    · exact (zt hL 25 rfl)
    · exact (zt hL 26 rfl)
  refine r_iload_n X (by rfl) dX11_setting_0 ?_
  refine r_callS X dX11_setting_1 zLS_X11_202 zCd_X11_isPower (c_X11_isPower _ G z τ ρ _ _ _) rfl rfl ⟨⟨rfl, rfl⟩, ⟨by decide, by decide⟩, ⟨Nat.le_of_ble_eq_true rfl, Nat.le_of_ble_eq_true rfl⟩, Nat.le_of_ble_eq_true rfl⟩ ?_
  rintro _ _ ⟨rfl, rfl⟩
  refine r_if_eq X 26 dX11_setting_4 (by decide) (fun h4 => ?_) (fun h4 => ?_)
  · refine r_bipush X (-2) (by decide) dX11_setting_26 ?_
    refine r_ireturn X hR dX11_setting_28 rfl (Nat.zero_le _) (Nat.zero_le _) ?_
    exact ⟨_, _, _, rfl, rfl, zFc.rfl hJ⟩
  · refine r_iload_n X (by rfl) dX11_setting_7 ?_
    refine r_callS X dX11_setting_8 zLS_X11_202 zCd_X11_isPower (c_X11_isPower _ G z τ ρ _ _ _) rfl rfl ⟨⟨rfl, rfl⟩, ⟨by decide, by decide⟩, ⟨Nat.le_of_ble_eq_true rfl, Nat.le_of_ble_eq_true rfl⟩, Nat.le_of_ble_eq_true rfl⟩ ?_
    rintro _ _ ⟨rfl, rfl⟩
    refine r_if_eq X 26 dX11_setting_11 (by decide) (fun h11 => ?_) (fun h11 => ?_)
    · refine r_bipush X (-2) (by decide) dX11_setting_26 ?_
      refine r_ireturn X hR dX11_setting_28 rfl (Nat.zero_le _) (Nat.zero_le _) ?_
      exact ⟨_, _, _, rfl, rfl, zFc.rfl hJ⟩
    · refine r_iload_n X (by rfl) dX11_setting_14 ?_
      refine r_callS X dX11_setting_15 zLS_X11_202 zCd_X11_isPower (c_X11_isPower _ G z τ ρ _ _ _) rfl rfl ⟨⟨rfl, rfl⟩, ⟨by decide, by decide⟩, ⟨Nat.le_of_ble_eq_true rfl, Nat.le_of_ble_eq_true rfl⟩, Nat.le_of_ble_eq_true rfl⟩ ?_
      rintro _ _ ⟨rfl, rfl⟩
      refine r_if_eq X 26 dX11_setting_18 (by decide) (fun h18 => ?_) (fun h18 => ?_)
      · refine r_bipush X (-2) (by decide) dX11_setting_26 ?_
        refine r_ireturn X hR dX11_setting_28 rfl (Nat.zero_le _) (Nat.zero_le _) ?_
        exact ⟨_, _, _, rfl, rfl, zFc.rfl hJ⟩
      · refine r_iload X (by rfl) dX11_setting_21 ?_
        refine r_if_ge X 29 dX11_setting_23 (by decide) (fun h23 => ?_) (fun h23 => ?_)
        · refine r_aload_n X (by rfl) dX11_setting_29 ?_
          refine r_iload_n X (by rfl) dX11_setting_30 ?_
          refine r_iload_n X (by rfl) dX11_setting_31 ?_
          refine r_iload_n X (by rfl) dX11_setting_32 ?_
          refine r_callV X dX11_setting_33 zLV_X11_205 zCd_X11_aimSettings (c_X11_aimSettings _ G z τ ρ _ _ hL hJ _ _ _) (zt hL 0 rfl) ⟨by decide, rfl, rfl⟩ rfl rfl ⟨⟨rfl, rfl⟩, ⟨by decide, by decide⟩, ⟨Nat.le_of_ble_eq_true rfl, Nat.le_of_ble_eq_true rfl⟩, Nat.le_of_ble_eq_true rfl⟩ ?_
          rintro _ _ ⟨rfl, ι2, rfl, hf2⟩
          refine r_aload_n X (by rfl) dX11_setting_36 ?_
          refine r_getR X dX11_setting_37 zF_X11_46 (zt hL 0 rfl) (zrf hL 5 rfl) ?_
          refine r_iload X (by rfl) dX11_setting_40 ?_
          refine r_callV X dX11_setting_42 zLV_X11_211 zCd_X8_codeAt (c_X8_codeAt _ G z τ ρ _ _ (zt hL 20 rfl) (zrf hL 22 rfl) (zrf hL 23 rfl) (zrf hL 24 rfl) (zrf hL 25 rfl) (zt hL 21 rfl) (zt hL 22 rfl) (zt hL 23 rfl) (zt hL 27 rfl) hW hWt _) (zt hL 20 rfl) ⟨by decide, rfl, rfl⟩ rfl rfl ⟨⟨rfl, rfl⟩, ⟨by decide, by decide⟩, ⟨Nat.le_of_ble_eq_true rfl, Nat.le_of_ble_eq_true rfl⟩, Nat.le_of_ble_eq_true rfl⟩ ?_
          rintro _ _ ⟨r, ι3, rfl, rfl, hf3⟩
          refine r_ireturn X hR dX11_setting_45 rfl (Nat.zero_le _) (Nat.zero_le _) ?_
          exact ⟨_, _, _, rfl, rfl, zFc_fr hJ (fun b q => by rw [hf3 b (by unfold zCx at q; omega)]; exact hf2 b (by unfold zCx at q; omega))⟩
        · refine r_bipush X (-2) (by decide) dX11_setting_26 ?_
          refine r_ireturn X hR dX11_setting_28 rfl (Nat.zero_le _) (Nat.zero_le _) ?_
          exact ⟨_, _, _, rfl, rfl, zFc.rfl hJ⟩
set_option maxHeartbeats 4000000 in
set_option maxRecDepth 100000 in
theorem c_X11_cut (l : Launch) (G : zG) (z : Nat) (τ : Nat → Option (Nat × Nat)) (ρ : Nat → Nat → Option Nat) (ι : Nat → Nat → Int32) (κ : Nat → Nat → Int64) {B c : Nat} (hL : zLay τ ρ B c) (hJ : zJ B c ι) (x y : Int32) : zM l G yX11_cut cX11_cut 3 (some .int) ({ frames := 2, cells := 0, slots := 0, locals := 41 } : Room) [.ref B, .int x, .int y] (z, τ, ρ, ι, κ) (fun v s => (¬ ((0 ≤ x.toInt ∧ x.toInt < 2) ∧ (0 ≤ y.toInt ∧ y.toInt ≤ 1000000) ∧ ¬ (0 < (ι (B + 33 + 3 * x.toNatClampNeg) 1).toInt ∧ y.toInt ≤ (ι (B + 34 + 3 * x.toNatClampNeg) (ι (B + 33 + 3 * x.toNatClampNeg) 1 - 1).toNatClampNeg).toInt)) ∧ v = some (.int (-2)) ∧ s = (z, τ, ρ, ι, κ)) ∨ (((0 ≤ x.toInt ∧ x.toInt < 2) ∧ (0 ≤ y.toInt ∧ y.toInt ≤ 1000000) ∧ ¬ (0 < (ι (B + 33 + 3 * x.toNatClampNeg) 1).toInt ∧ y.toInt ≤ (ι (B + 34 + 3 * x.toNatClampNeg) (ι (B + 33 + 3 * x.toNatClampNeg) 1 - 1).toNatClampNeg).toInt)) ∧ 60 ≤ (ι (B + 33 + 3 * x.toNatClampNeg) 1).toInt ∧ v = some (.int (-4)) ∧ s = (z, τ, ρ, ι, κ)) ∨ (((0 ≤ x.toInt ∧ x.toInt < 2) ∧ (0 ≤ y.toInt ∧ y.toInt ≤ 1000000) ∧ ¬ (0 < (ι (B + 33 + 3 * x.toNatClampNeg) 1).toInt ∧ y.toInt ≤ (ι (B + 34 + 3 * x.toNatClampNeg) (ι (B + 33 + 3 * x.toNatClampNeg) 1 - 1).toNatClampNeg).toInt)) ∧ (ι (B + 33 + 3 * x.toNatClampNeg) 1).toInt < 60 ∧ v = some (.int (ι (B + 33 + 3 * x.toNatClampNeg) 1 + 1)) ∧ s = (z, τ, ρ, zu (zu ι (B + 34 + 3 * x.toNatClampNeg) (ι (B + 33 + 3 * x.toNatClampNeg) 1).toNatClampNeg y) (B + 33 + 3 * x.toNatClampNeg) 1 (ι (B + 33 + 3 * x.toNatClampNeg) 1 + 1), κ))) 0 0 := by
  refine zM_of zCd_X11_cut (Nat.le_of_ble_eq_true rfl) ?_
  intro E X hR hE
  subst hE
  show zW E G 3 (z, τ, ρ, ι, κ) 0 0 0 [(0, .ref B), (1, .int x), (2, .int y)] []
  obtain ⟨h8, ⟨hc1, hc2, hc3, hc4, hc5⟩, hJm⟩ := id hJ
  have hst : (0 ≤ x.toInt ∧ x.toInt < 2) → τ (B + 32 + 3 * x.toNatClampNeg) = some (9, 0) ∧ ρ (B + 32 + 3 * x.toNatClampNeg) 0 = some (B + 33 + 3 * x.toNatClampNeg) ∧ τ (B + 33 + 3 * x.toNatClampNeg) = some (6, 0) ∧ ρ (B + 33 + 3 * x.toNatClampNeg) 0 = some (B + 34 + 3 * x.toNatClampNeg) ∧ τ (B + 34 + 3 * x.toNatClampNeg) = some (13, 60) := fun h => (zStr hL (by have := zclN h.1; omega)).2
  have hsz : (0 ≤ x.toInt ∧ x.toInt < 2) → 0 ≤ (ι (B + 33 + 3 * x.toNatClampNeg) 1).toInt ∧ (ι (B + 33 + 3 * x.toNatClampNeg) 1).toInt ≤ 60 := fun h => by
    have := zclN h.1
    rcases (show x.toNatClampNeg = 0 ∨ x.toNatClampNeg = 1 by omega) with e | e <;> rw [e]
    · exact hc3
    · exact hc4
  refine r_iload_n X (by rfl) dX11_cut_0 ?_
  refine r_callS X dX11_cut_1 zLS_X11_214 zCd_X11_isStrip (c_X11_isStrip _ G z τ ρ _ _ _) rfl rfl ⟨⟨rfl, rfl⟩, ⟨by decide, by decide⟩, ⟨Nat.le_of_ble_eq_true rfl, Nat.le_of_ble_eq_true rfl⟩, Nat.le_of_ble_eq_true rfl⟩ ?_
  rintro _ _ ⟨rfl, rfl⟩
  refine r_if_eq X 33 dX11_cut_4 (by decide) (fun h4 => ?_) (fun h4 => ?_)
  · refine r_bipush X (-2) (by decide) dX11_cut_33 ?_
    refine r_ireturn X hR dX11_cut_35 rfl (Nat.zero_le _) (Nat.zero_le _) ?_
    exact Or.inl ⟨fun ⟨q1, q2, q3⟩ => by first | exact zif0 h4 q1 | omega | exact q3 hN, rfl, rfl⟩
  · refine r_iload_n X (by rfl) dX11_cut_7 ?_
    refine r_if_lt X 33 dX11_cut_8 (by decide) (fun h8 => ?_) (fun h8 => ?_)
    · refine r_bipush X (-2) (by decide) dX11_cut_33 ?_
      refine r_ireturn X hR dX11_cut_35 rfl (Nat.zero_le _) (Nat.zero_le _) ?_
      exact Or.inl ⟨fun ⟨q1, q2, q3⟩ => by first | exact zif0 h4 q1 | omega | exact q3 hN, rfl, rfl⟩
    · refine r_iload_n X (by rfl) dX11_cut_11 ?_
      refine r_ldc X zK_X11_217 dX11_cut_12 ?_
      refine r_icmp_gt X 33 dX11_cut_14 (by decide) (fun h14 => ?_) (fun h14 => ?_)
      · rw [show Int32.toInt 1000000 = 1000000 from rfl] at h14
        refine r_bipush X (-2) (by decide) dX11_cut_33 ?_
        refine r_ireturn X hR dX11_cut_35 rfl (Nat.zero_le _) (Nat.zero_le _) ?_
        exact Or.inl ⟨fun ⟨q1, q2, q3⟩ => by first | exact zif0 h4 q1 | omega | exact q3 hN, rfl, rfl⟩
      · rw [show Int32.toInt 1000000 = 1000000 from rfl] at h14
        have hx := zif1 h4
        have hsx := hsz hx
        refine r_iload_n X (by rfl) dX11_cut_17 ?_
        refine r_aload_n X (by rfl) dX11_cut_18 ?_
        refine r_getR X dX11_cut_19 zF_X11_52 (zt hL 0 rfl) (zrf hL 6 rfl) ?_
        refine r_iload_n X (by rfl) dX11_cut_22 ?_
        refine r_aaload X dX11_cut_23 (zt hL 28 rfl) (by decide) (vp_in_iff.mpr ⟨by omega, by omega⟩) (zStr hL (by have := zclN hx.1; omega)).1 ?_
        refine r_getR X dX11_cut_24 zF_X11_218 (hst hx).1 (hst hx).2.1 ?_
        refine r_callV X dX11_cut_27 zLV_X11_221 zCd_X6_last (c_X6_last _ G z τ ρ _ _ (hst hx).2.2.1 (hst hx).2.2.2.1 (hst hx).2.2.2.2 (hsz hx).1 (by have := (hsz hx).2; omega)) (hst hx).2.2.1 ⟨by decide, rfl, rfl⟩ rfl rfl ⟨⟨rfl, rfl⟩, ⟨by decide, by decide⟩, ⟨Nat.le_of_ble_eq_true rfl, Nat.le_of_ble_eq_true rfl⟩, Nat.le_of_ble_eq_true rfl⟩ ?_
        rintro _ _ ⟨rfl, rfl⟩
        refine r_icmp_gt X 36 dX11_cut_30 (by decide) (fun h30 => ?_) (fun h30 => ?_)
        · have hN : ¬ (0 < (ι (B + 33 + 3 * x.toNatClampNeg) 1).toInt ∧ y.toInt ≤ (ι (B + 34 + 3 * x.toNatClampNeg) (ι (B + 33 + 3 * x.toNatClampNeg) 1 - 1).toNatClampNeg).toInt) := fun q => by rw [if_pos q.1] at h30; omega
          refine r_aload_n X (by rfl) dX11_cut_36 ?_
          refine r_getR X dX11_cut_37 zF_X11_52 (zt hL 0 rfl) (zrf hL 6 rfl) ?_
          refine r_iload_n X (by rfl) dX11_cut_40 ?_
          refine r_aaload X dX11_cut_41 (zt hL 28 rfl) (by decide) (vp_in_iff.mpr ⟨by omega, by omega⟩) (zStr hL (by have := zclN hx.1; omega)).1 ?_
          refine r_getR X dX11_cut_42 zF_X11_218 (hst hx).1 (hst hx).2.1 ?_
          refine r_callV X dX11_cut_45 zLV_X11_153 zCd_X6_isFull (c_X6_isFull _ G z τ ρ _ _ (hst hx).2.2.1 (hst hx).2.2.2.1 (hst hx).2.2.2.2 (by decide)) (hst hx).2.2.1 ⟨by decide, rfl, rfl⟩ rfl rfl ⟨⟨rfl, rfl⟩, ⟨by decide, by decide⟩, ⟨Nat.le_of_ble_eq_true rfl, Nat.le_of_ble_eq_true rfl⟩, Nat.le_of_ble_eq_true rfl⟩ ?_
          rintro _ _ ⟨rfl, rfl⟩
          refine r_if_eq X 56 dX11_cut_48 (by decide) (fun h48 => ?_) (fun h48 => ?_)
          · refine r_aload_n X (by rfl) dX11_cut_56 ?_
            refine r_getR X dX11_cut_57 zF_X11_52 (zt hL 0 rfl) (zrf hL 6 rfl) ?_
            refine r_iload_n X (by rfl) dX11_cut_60 ?_
            refine r_aaload X dX11_cut_61 (zt hL 28 rfl) (by decide) (vp_in_iff.mpr ⟨by omega, by omega⟩) (zStr hL (by have := zclN hx.1; omega)).1 ?_
            refine r_getR X dX11_cut_62 zF_X11_218 (hst hx).1 (hst hx).2.1 ?_
            refine r_iload_n X (by rfl) dX11_cut_65 ?_
            refine r_callV X dX11_cut_66 zLV_X11_157 zCd_X6_append (c_X6_append _ G z τ ρ _ _ (hst hx).2.2.1 (hst hx).2.2.2.1 (hst hx).2.2.2.2 _ (by decide) (hsz hx).1 (by have := zif0 h48; omega) (by omega)) (hst hx).2.2.1 ⟨by decide, rfl, rfl⟩ rfl rfl ⟨⟨rfl, rfl⟩, ⟨by decide, by decide⟩, ⟨Nat.le_of_ble_eq_true rfl, Nat.le_of_ble_eq_true rfl⟩, Nat.le_of_ble_eq_true rfl⟩ ?_
            rintro _ _ ⟨rfl, rfl⟩
            refine r_ireturn X hR dX11_cut_69 rfl (Nat.zero_le _) (Nat.zero_le _) ?_
            first | exact Or.inr (Or.inl ⟨⟨hx, ⟨by omega, by omega⟩, hN⟩, zif1 h48, rfl, rfl⟩) | exact Or.inr (Or.inr ⟨⟨hx, ⟨by omega, by omega⟩, hN⟩, (by have := zif0 h48; omega), rfl, rfl⟩)
          · refine r_bipush X (-4) (by decide) dX11_cut_51 ?_
            refine r_goto X 69 dX11_cut_53 (by decide) ?_
            refine r_ireturn X hR dX11_cut_69 rfl (Nat.zero_le _) (Nat.zero_le _) ?_
            first | exact Or.inr (Or.inl ⟨⟨hx, ⟨by omega, by omega⟩, hN⟩, zif1 h48, rfl, rfl⟩) | exact Or.inr (Or.inr ⟨⟨hx, ⟨by omega, by omega⟩, hN⟩, (by have := zif0 h48; omega), rfl, rfl⟩)
        · have hN : 0 < (ι (B + 33 + 3 * x.toNatClampNeg) 1).toInt ∧ y.toInt ≤ (ι (B + 34 + 3 * x.toNatClampNeg) (ι (B + 33 + 3 * x.toNatClampNeg) 1 - 1).toNatClampNeg).toInt := by
            by_cases q : 0 < (ι (B + 33 + 3 * x.toNatClampNeg) 1).toInt
            · rw [if_pos q] at h30; exact ⟨q, by omega⟩
            · rw [if_neg q, show Int32.toInt (-1) = -1 from rfl] at h30; omega
          refine r_bipush X (-2) (by decide) dX11_cut_33 ?_
          refine r_ireturn X hR dX11_cut_35 rfl (Nat.zero_le _) (Nat.zero_le _) ?_
          exact Or.inl ⟨fun ⟨q1, q2, q3⟩ => by first | exact zif0 h4 q1 | omega | exact q3 hN, rfl, rfl⟩
set_option maxHeartbeats 4000000 in
set_option maxRecDepth 100000 in
theorem c_X11_wipe (l : Launch) (G : zG) (z : Nat) (τ : Nat → Option (Nat × Nat)) (ρ : Nat → Nat → Option Nat) (ι : Nat → Nat → Int32) (κ : Nat → Nat → Int64) {B c : Nat} (hL : zLay τ ρ B c) (hJ : zJ B c ι) (x : Int32) : zM l G yX11_wipe cX11_wipe 2 (some .int) ({ frames := 1, cells := 0, slots := 0, locals := 21 } : Room) [.ref B, .int x] (z, τ, ρ, ι, κ) (fun v s => (¬ (0 ≤ x.toInt ∧ x.toInt < 2) ∧ v = some (.int (-2)) ∧ s = (z, τ, ρ, ι, κ)) ∨ ((0 ≤ x.toInt ∧ x.toInt < 2) ∧ v = some (.int (ι (B + 33 + 3 * x.toNatClampNeg) 1)) ∧ s = (z, τ, ρ, zu ι (B + 33 + 3 * x.toNatClampNeg) 1 0, κ))) 0 0 := by
  refine zM_of zCd_X11_wipe (Nat.le_of_ble_eq_true rfl) ?_
  intro E X hR hE
  subst hE
  show zW E G 2 (z, τ, ρ, ι, κ) 0 0 0 [(0, .ref B), (1, .int x)] []
  obtain ⟨h8, ⟨hc1, hc2, hc3, hc4, hc5⟩, hJm⟩ := id hJ
  have hst : (0 ≤ x.toInt ∧ x.toInt < 2) → τ (B + 32 + 3 * x.toNatClampNeg) = some (9, 0) ∧ ρ (B + 32 + 3 * x.toNatClampNeg) 0 = some (B + 33 + 3 * x.toNatClampNeg) ∧ τ (B + 33 + 3 * x.toNatClampNeg) = some (6, 0) ∧ ρ (B + 33 + 3 * x.toNatClampNeg) 0 = some (B + 34 + 3 * x.toNatClampNeg) ∧ τ (B + 34 + 3 * x.toNatClampNeg) = some (13, 60) := fun h => (zStr hL (by have := zclN h.1; omega)).2
  have hsz : (0 ≤ x.toInt ∧ x.toInt < 2) → 0 ≤ (ι (B + 33 + 3 * x.toNatClampNeg) 1).toInt ∧ (ι (B + 33 + 3 * x.toNatClampNeg) 1).toInt ≤ 60 := fun h => by
    have := zclN h.1
    rcases (show x.toNatClampNeg = 0 ∨ x.toNatClampNeg = 1 by omega) with e | e <;> rw [e]
    · exact hc3
    · exact hc4
  refine r_iload_n X (by rfl) dX11_wipe_0 ?_
  refine r_callS X dX11_wipe_1 zLS_X11_214 zCd_X11_isStrip (c_X11_isStrip _ G z τ ρ _ _ _) rfl rfl ⟨⟨rfl, rfl⟩, ⟨by decide, by decide⟩, ⟨Nat.le_of_ble_eq_true rfl, Nat.le_of_ble_eq_true rfl⟩, Nat.le_of_ble_eq_true rfl⟩ ?_
  rintro _ _ ⟨rfl, rfl⟩
  refine r_if_eq X 22 dX11_wipe_4 (by decide) (fun h4 => ?_) (fun h4 => ?_)
  · refine r_bipush X (-2) (by decide) dX11_wipe_22 ?_
    refine r_ireturn X hR dX11_wipe_24 rfl (Nat.zero_le _) (Nat.zero_le _) ?_
    first | exact Or.inl ⟨zif0 h4, rfl, rfl⟩ | exact Or.inr ⟨hx, rfl, rfl⟩
  · have hx := zif1 h4
    refine r_aload_n X (by rfl) dX11_wipe_7 ?_
    refine r_getR X dX11_wipe_8 zF_X11_52 (zt hL 0 rfl) (zrf hL 6 rfl) ?_
    refine r_iload_n X (by rfl) dX11_wipe_11 ?_
    refine r_aaload X dX11_wipe_12 (zt hL 28 rfl) (by decide) (vp_in_iff.mpr ⟨by omega, by omega⟩) (zStr hL (by have := zclN hx.1; omega)).1 ?_
    refine r_getR X dX11_wipe_13 zF_X11_218 (hst hx).1 (hst hx).2.1 ?_
    refine r_callV X dX11_wipe_16 zLV_X11_160 zCd_X6_empty (c_X6_empty _ G z τ ρ _ _ (hst hx).2.2.1) (hst hx).2.2.1 ⟨by decide, rfl, rfl⟩ rfl rfl ⟨⟨rfl, rfl⟩, ⟨by decide, by decide⟩, ⟨Nat.le_of_ble_eq_true rfl, Nat.le_of_ble_eq_true rfl⟩, Nat.le_of_ble_eq_true rfl⟩ ?_
    rintro _ _ ⟨rfl, rfl⟩
    refine r_goto X 24 dX11_wipe_19 (by decide) ?_
    refine r_ireturn X hR dX11_wipe_24 rfl (Nat.zero_le _) (Nat.zero_le _) ?_
    first | exact Or.inl ⟨zif0 h4, rfl, rfl⟩ | exact Or.inr ⟨hx, rfl, rfl⟩
set_option maxHeartbeats 4000000 in
set_option maxRecDepth 100000 in
theorem c_X11_chosen (l : Launch) (G : zG) (z : Nat) (τ : Nat → Option (Nat × Nat)) (ρ : Nat → Nat → Option Nat) (ι : Nat → Nat → Int32) (κ : Nat → Nat → Int64) {B c : Nat} (hL : zLay τ ρ B c) (hJ : zJ B c ι) (x y u : Int32) : zM l G yX11_chosen cX11_chosen 4 (some .int) ({ frames := 1, cells := 0, slots := 0, locals := 26 } : Room) [.ref B, .int x, .int y, .int u] (z, τ, ρ, ι, κ) (fun v s => ∃ r, v = some (.int r) ∧ s = (z, τ, ρ, ι, κ)) 0 0 := by
  refine zM_of zCd_X11_chosen (Nat.le_of_ble_eq_true rfl) ?_
  intro E X hR hE
  subst hE
  show zW E G 4 (z, τ, ρ, ι, κ) 0 0 0 [(0, .ref B), (1, .int x), (2, .int y), (3, .int u)] []
  obtain ⟨h8, ⟨hc1, hc2, hc3, hc4, hc5⟩, hJm⟩ := id hJ
  have hst : (0 ≤ x.toInt ∧ x.toInt < 2) → τ (B + 32 + 3 * x.toNatClampNeg) = some (9, 0) ∧ ρ (B + 32 + 3 * x.toNatClampNeg) 0 = some (B + 33 + 3 * x.toNatClampNeg) ∧ τ (B + 33 + 3 * x.toNatClampNeg) = some (6, 0) ∧ ρ (B + 33 + 3 * x.toNatClampNeg) 0 = some (B + 34 + 3 * x.toNatClampNeg) ∧ τ (B + 34 + 3 * x.toNatClampNeg) = some (13, 60) := fun h => (zStr hL (by have := zclN h.1; omega)).2
  have hsz : (0 ≤ x.toInt ∧ x.toInt < 2) → 0 ≤ (ι (B + 33 + 3 * x.toNatClampNeg) 1).toInt ∧ (ι (B + 33 + 3 * x.toNatClampNeg) 1).toInt ≤ 60 := fun h => by
    have := zclN h.1
    rcases (show x.toNatClampNeg = 0 ∨ x.toNatClampNeg = 1 by omega) with e | e <;> rw [e]
    · exact hc3
    · exact hc4
  refine r_iload_n X (by rfl) dX11_chosen_0 ?_
  refine r_callS X dX11_chosen_1 zLS_X11_214 zCd_X11_isStrip (c_X11_isStrip _ G z τ ρ _ _ _) rfl rfl ⟨⟨rfl, rfl⟩, ⟨by decide, by decide⟩, ⟨Nat.le_of_ble_eq_true rfl, Nat.le_of_ble_eq_true rfl⟩, Nat.le_of_ble_eq_true rfl⟩ ?_
  rintro _ _ ⟨rfl, rfl⟩
  refine r_if_eq X 23 dX11_chosen_4 (by decide) (fun h4 => ?_) (fun h4 => ?_)
  · refine r_bipush X (-2) (by decide) dX11_chosen_23 ?_
    refine r_ireturn X hR dX11_chosen_25 rfl (Nat.zero_le _) (Nat.zero_le _) ?_
    exact ⟨_, rfl, rfl⟩
  · refine r_iload_n X (by rfl) dX11_chosen_7 ?_
    refine r_iconst X 1 (by decide) dX11_chosen_8 ?_
    refine r_icmp_lt X 23 dX11_chosen_9 (by decide) (fun h9 => ?_) (fun h9 => ?_)
    · rw [show Int32.toInt 1 = 1 from rfl] at h9
      refine r_bipush X (-2) (by decide) dX11_chosen_23 ?_
      refine r_ireturn X hR dX11_chosen_25 rfl (Nat.zero_le _) (Nat.zero_le _) ?_
      exact ⟨_, rfl, rfl⟩
    · rw [show Int32.toInt 1 = 1 from rfl] at h9
      refine r_iload_n X (by rfl) dX11_chosen_12 ?_
      refine r_ldc X zK_X11_224 dX11_chosen_13 ?_
      refine r_icmp_gt X 23 dX11_chosen_15 (by decide) (fun h15 => ?_) (fun h15 => ?_)
      · rw [show Int32.toInt 100000 = 100000 from rfl] at h15
        refine r_bipush X (-2) (by decide) dX11_chosen_23 ?_
        refine r_ireturn X hR dX11_chosen_25 rfl (Nat.zero_le _) (Nat.zero_le _) ?_
        exact ⟨_, rfl, rfl⟩
      · rw [show Int32.toInt 100000 = 100000 from rfl] at h15
        refine r_iload_n X (by rfl) dX11_chosen_18 ?_
        refine r_iconst X (-1) (by decide) dX11_chosen_19 ?_
        refine r_icmp_ge X 26 dX11_chosen_20 (by decide) (fun h20 => ?_) (fun h20 => ?_)
        · rw [show Int32.toInt (-1) = -1 from rfl] at h20
          have hx := zif1 h4
          refine r_aload_n X (by rfl) dX11_chosen_26 ?_
          refine r_getR X dX11_chosen_27 zF_X11_52 (zt hL 0 rfl) (zrf hL 6 rfl) ?_
          refine r_iload_n X (by rfl) dX11_chosen_30 ?_
          refine r_aaload X dX11_chosen_31 (zt hL 28 rfl) (by decide) (vp_in_iff.mpr ⟨by omega, by omega⟩) (zStr hL (by have := zclN hx.1; omega)).1 ?_
          refine r_iload_n X (by rfl) dX11_chosen_32 ?_
          refine r_iload_n X (by rfl) dX11_chosen_33 ?_
          refine r_callV X dX11_chosen_34 zLV_X11_225 zCd_X9_choose (c_X9_choose _ G z τ ρ _ _ (hst hx).1 (hst hx).2.1 (hst hx).2.2.1 (hst hx).2.2.2.1 (hst hx).2.2.2.2 (hsz hx).2 _ _) (hst hx).1 ⟨by decide, rfl, rfl⟩ rfl rfl ⟨⟨rfl, rfl⟩, ⟨by decide, by decide⟩, ⟨Nat.le_of_ble_eq_true rfl, Nat.le_of_ble_eq_true rfl⟩, Nat.le_of_ble_eq_true rfl⟩ ?_
          rintro _ _ ⟨r, rfl, rfl⟩
          refine r_ireturn X hR dX11_chosen_37 rfl (Nat.zero_le _) (Nat.zero_le _) ?_
          exact ⟨_, rfl, rfl⟩
        · rw [show Int32.toInt (-1) = -1 from rfl] at h20
          refine r_bipush X (-2) (by decide) dX11_chosen_23 ?_
          refine r_ireturn X hR dX11_chosen_25 rfl (Nat.zero_le _) (Nat.zero_le _) ?_
          exact ⟨_, rfl, rfl⟩
set_option maxHeartbeats 4000000 in
set_option maxRecDepth 100000 in
theorem c_X11_match (l : Launch) (G : zG) (z : Nat) (τ : Nat → Option (Nat × Nat)) (ρ : Nat → Nat → Option Nat) (ι : Nat → Nat → Int32) (κ : Nat → Nat → Int64) {B c : Nat} (hL : zLay τ ρ B c) (hJ : zJ B c ι) (x : Int32) : zM l G yX11_match cX11_match 2 (some .int) ({ frames := 3, cells := 0, slots := 0, locals := 68 } : Room) [.ref B, .int x] (z, τ, ρ, ι, κ) (fun v s => ∃ r ι2 κ2, v = some (.int r) ∧ s = (z, τ, ρ, ι2, κ2) ∧ zFc B c ι ι2) 0 0 := by
  refine zM_of zCd_X11_match (Nat.le_of_ble_eq_true rfl) ?_
  intro E X hR hE
  subst hE
  show zW E G 2 (z, τ, ρ, ι, κ) 0 0 0 [(0, .ref B), (1, .int x)] []
  obtain ⟨h8, ⟨hc1, hc2, hc3, hc4, hc5⟩, hJm⟩ := id hJ
  refine r_iload_n X (by rfl) dX11_match_0 ?_
  refine r_if_lt X 9 dX11_match_1 (by decide) (fun h1 => ?_) (fun h1 => ?_)
  · refine r_ldc X zK_X11_93 dX11_match_9 ?_
    refine r_ireturn X hR dX11_match_11 rfl (Nat.zero_le _) (Nat.zero_le _) ?_
    first | exact ⟨_, _, _, rfl, rfl, zFc_fr hJ (fun b q => hf2 b (by unfold zCx at q; omega))⟩ | exact ⟨_, _, _, rfl, rfl, zFc.rfl hJ⟩
  · refine r_iload_n X (by rfl) dX11_match_4 ?_
    refine r_iconst X 1 (by decide) dX11_match_5 ?_
    refine r_icmp_le X 12 dX11_match_6 (by decide) (fun h6 => ?_) (fun h6 => ?_)
    · rw [show Int32.toInt 1 = 1 from rfl] at h6
      refine r_aload_n X (by rfl) dX11_match_12 ?_
      refine r_getR X dX11_match_13 zF_X11_52 (zt hL 0 rfl) (zrf hL 6 rfl) ?_
      refine r_iconst X 0 (by decide) dX11_match_16 ?_
      refine r_aaload X dX11_match_17 (zt hL 28 rfl) (by decide) (vp_in_iff.mpr ⟨by decide, by decide⟩) (zrf hL 29 rfl) ?_
      refine r_getR X dX11_match_18 zF_X11_218 (zt hL 32 rfl) (zrf hL 32 rfl) ?_
      refine r_getI X dX11_match_21 zF_X11_117 (zt hL 33 rfl) ?_
      refine r_if_eq X 42 dX11_match_24 (by decide) (fun h24 => ?_) (fun h24 => ?_)
      · refine r_ldc X zK_X11_93 dX11_match_42 ?_
        refine r_ireturn X hR dX11_match_44 rfl (Nat.zero_le _) (Nat.zero_le _) ?_
        first | exact ⟨_, _, _, rfl, rfl, zFc_fr hJ (fun b q => hf2 b (by unfold zCx at q; omega))⟩ | exact ⟨_, _, _, rfl, rfl, zFc.rfl hJ⟩
      · refine r_aload_n X (by rfl) dX11_match_27 ?_
        refine r_getR X dX11_match_28 zF_X11_52 (zt hL 0 rfl) (zrf hL 6 rfl) ?_
        refine r_iconst X 1 (by decide) dX11_match_31 ?_
        refine r_aaload X dX11_match_32 (zt hL 28 rfl) (by decide) (vp_in_iff.mpr ⟨by decide, by decide⟩) (zrf hL 30 rfl) ?_
        refine r_getR X dX11_match_33 zF_X11_218 (zt hL 35 rfl) (zrf hL 34 rfl) ?_
        refine r_getI X dX11_match_36 zF_X11_117 (zt hL 36 rfl) ?_
        refine r_if_ne X 45 dX11_match_39 (by decide) (fun h39 => ?_) (fun h39 => ?_)
        · refine r_aload_n X (by rfl) dX11_match_45 ?_
          refine r_getR X dX11_match_46 zF_X11_59 (zt hL 0 rfl) (zrf hL 7 rfl) ?_
          refine r_aload_n X (by rfl) dX11_match_49 ?_
          refine r_getR X dX11_match_50 zF_X11_52 (zt hL 0 rfl) (zrf hL 6 rfl) ?_
          refine r_iconst X 0 (by decide) dX11_match_53 ?_
          refine r_aaload X dX11_match_54 (zt hL 28 rfl) (by decide) (vp_in_iff.mpr ⟨by decide, by decide⟩) (zrf hL 29 rfl) ?_
          refine r_getR X dX11_match_55 zF_X11_218 (zt hL 32 rfl) (zrf hL 32 rfl) ?_
          refine r_aload_n X (by rfl) dX11_match_58 ?_
          refine r_getR X dX11_match_59 zF_X11_52 (zt hL 0 rfl) (zrf hL 6 rfl) ?_
          refine r_iconst X 1 (by decide) dX11_match_62 ?_
          refine r_aaload X dX11_match_63 (zt hL 28 rfl) (by decide) (vp_in_iff.mpr ⟨by decide, by decide⟩) (zrf hL 30 rfl) ?_
          refine r_getR X dX11_match_64 zF_X11_218 (zt hL 35 rfl) (zrf hL 34 rfl) ?_
          refine r_callV X dX11_match_67 zLV_X11_229 zCd_X3_find (c_X3_find _ G z τ ρ _ _ (zt hL 33 rfl) (zrf hL 33 rfl) (zt hL 34 rfl) (zt hL 36 rfl) (zrf hL 35 rfl) (zt hL 37 rfl) hc3.2 hc4.2 (zt hL 29 rfl) (by omega) (by omega)) (zt hL 29 rfl) ⟨by decide, rfl, rfl⟩ rfl rfl ⟨⟨rfl, rfl⟩, ⟨by decide, by decide⟩, ⟨Nat.le_of_ble_eq_true rfl, Nat.le_of_ble_eq_true rfl⟩, Nat.le_of_ble_eq_true rfl⟩ ?_
          rintro _ _ ⟨rfl, ι2, rfl, hf2⟩
          refine r_iload_n X (by rfl) dX11_match_70 ?_
          refine r_if_ne X 84 dX11_match_71 (by decide) (fun h71 => ?_) (fun h71 => ?_)
          · refine r_aload_n X (by rfl) dX11_match_84 ?_
            refine r_getR X dX11_match_85 zF_X11_59 (zt hL 0 rfl) (zrf hL 7 rfl) ?_
            refine r_getI X dX11_match_88 zF_X11_236 (zt hL 29 rfl) ?_
            refine r_ireturn X hR dX11_match_91 rfl (Nat.zero_le _) (Nat.zero_le _) ?_
            first | exact ⟨_, _, _, rfl, rfl, zFc_fr hJ (fun b q => hf2 b (by unfold zCx at q; omega))⟩ | exact ⟨_, _, _, rfl, rfl, zFc.rfl hJ⟩
          · refine r_aload_n X (by rfl) dX11_match_74 ?_
            refine r_getR X dX11_match_75 zF_X11_59 (zt hL 0 rfl) (zrf hL 7 rfl) ?_
            refine r_getI X dX11_match_78 zF_X11_233 (zt hL 29 rfl) ?_
            refine r_goto X 91 dX11_match_81 (by decide) ?_
            refine r_ireturn X hR dX11_match_91 rfl (Nat.zero_le _) (Nat.zero_le _) ?_
            first | exact ⟨_, _, _, rfl, rfl, zFc_fr hJ (fun b q => hf2 b (by unfold zCx at q; omega))⟩ | exact ⟨_, _, _, rfl, rfl, zFc.rfl hJ⟩
        · refine r_ldc X zK_X11_93 dX11_match_42 ?_
          refine r_ireturn X hR dX11_match_44 rfl (Nat.zero_le _) (Nat.zero_le _) ?_
          first | exact ⟨_, _, _, rfl, rfl, zFc_fr hJ (fun b q => hf2 b (by unfold zCx at q; omega))⟩ | exact ⟨_, _, _, rfl, rfl, zFc.rfl hJ⟩
    · rw [show Int32.toInt 1 = 1 from rfl] at h6
      refine r_ldc X zK_X11_93 dX11_match_9 ?_
      refine r_ireturn X hR dX11_match_11 rfl (Nat.zero_le _) (Nat.zero_le _) ?_
      first | exact ⟨_, _, _, rfl, rfl, zFc_fr hJ (fun b q => hf2 b (by unfold zCx at q; omega))⟩ | exact ⟨_, _, _, rfl, rfl, zFc.rfl hJ⟩
set_option maxHeartbeats 4000000 in
set_option maxRecDepth 100000 in
theorem c_X11_law (l : Launch) (G : zG) (z : Nat) (τ : Nat → Option (Nat × Nat)) (ρ : Nat → Nat → Option Nat) (ι : Nat → Nat → Int32) (κ : Nat → Nat → Int64) {B c : Nat} (hL : zLay τ ρ B c) (hJ : zJ B c ι) (x y : Int32) : zM l G yX11_law cX11_law 3 (some .int) ({ frames := 2, cells := 0, slots := 0, locals := 47 } : Room) [.ref B, .int x, .int y] (z, τ, ρ, ι, κ) (fun v s => v = some (.int (if (0 ≤ x.toInt ∧ x.toInt ≤ 3) ∧ 1 ≤ y.toInt ∧ y.toInt ≤ 60 then zPl x y (ι B 10) else -2)) ∧ s = (z, τ, ρ, ι, κ)) 0 0 := by
  refine zM_of zCd_X11_law (Nat.le_of_ble_eq_true rfl) ?_
  intro E X hR hE
  subst hE
  show zW E G 3 (z, τ, ρ, ι, κ) 0 0 0 [(0, .ref B), (1, .int x), (2, .int y)] []
  refine r_iload_n X (by rfl) dX11_law_0 ?_
  refine r_callS X dX11_law_1 zLS_X11_237 zCd_X1_isLaw (c_X1_isLaw _ G z τ ρ _ _ _) rfl rfl ⟨⟨rfl, rfl⟩, ⟨by decide, by decide⟩, ⟨Nat.le_of_ble_eq_true rfl, Nat.le_of_ble_eq_true rfl⟩, Nat.le_of_ble_eq_true rfl⟩ ?_
  rintro _ _ ⟨rfl, rfl⟩
  refine r_if_eq X 18 dX11_law_4 (by decide) (fun h4 => ?_) (fun h4 => ?_)
  · refine r_bipush X (-2) (by decide) dX11_law_18 ?_
    refine r_ireturn X hR dX11_law_20 rfl (Nat.zero_le _) (Nat.zero_le _) ?_
    refine ⟨congrArg (fun q => some (Value.int q)) (Eq.symm ?_), rfl⟩
    first | exact if_neg (fun q => zif0 h4 q.1) | exact if_neg (fun q => by omega)
  · refine r_iload_n X (by rfl) dX11_law_7 ?_
    refine r_iconst X 1 (by decide) dX11_law_8 ?_
    refine r_icmp_lt X 18 dX11_law_9 (by decide) (fun h9 => ?_) (fun h9 => ?_)
    · rw [show Int32.toInt 1 = 1 from rfl] at h9
      refine r_bipush X (-2) (by decide) dX11_law_18 ?_
      refine r_ireturn X hR dX11_law_20 rfl (Nat.zero_le _) (Nat.zero_le _) ?_
      refine ⟨congrArg (fun q => some (Value.int q)) (Eq.symm ?_), rfl⟩
      first | exact if_neg (fun q => zif0 h4 q.1) | exact if_neg (fun q => by omega)
    · rw [show Int32.toInt 1 = 1 from rfl] at h9
      refine r_iload_n X (by rfl) dX11_law_12 ?_
      refine r_bipush X 60 (by decide) dX11_law_13 ?_
      refine r_icmp_le X 21 dX11_law_15 (by decide) (fun h15 => ?_) (fun h15 => ?_)
      · rw [show Int32.toInt 60 = 60 from rfl] at h15
        refine r_iload_n X (by rfl) dX11_law_21 ?_
        refine r_iload_n X (by rfl) dX11_law_22 ?_
        refine r_aload_n X (by rfl) dX11_law_23 ?_
        refine r_getI X dX11_law_24 zF_X11_74 (zt hL 0 rfl) ?_
        refine r_callS X dX11_law_27 zLS_X11_240 zCd_X1_placeOf (c_X1_placeOf _ G z τ ρ _ _ _ _ _) rfl rfl ⟨⟨rfl, rfl⟩, ⟨by decide, by decide⟩, ⟨Nat.le_of_ble_eq_true rfl, Nat.le_of_ble_eq_true rfl⟩, Nat.le_of_ble_eq_true rfl⟩ ?_
        rintro _ _ ⟨rfl, rfl⟩
        refine r_ireturn X hR dX11_law_30 rfl (Nat.zero_le _) (Nat.zero_le _) ?_
        refine ⟨congrArg (fun q => some (Value.int q)) (Eq.symm ?_), rfl⟩
        exact if_pos ⟨zif1 h4, by omega, by omega⟩
      · rw [show Int32.toInt 60 = 60 from rfl] at h15
        refine r_bipush X (-2) (by decide) dX11_law_18 ?_
        refine r_ireturn X hR dX11_law_20 rfl (Nat.zero_le _) (Nat.zero_le _) ?_
        refine ⟨congrArg (fun q => some (Value.int q)) (Eq.symm ?_), rfl⟩
        first | exact if_neg (fun q => zif0 h4 q.1) | exact if_neg (fun q => by omega)
set_option maxHeartbeats 4000000 in
set_option maxRecDepth 100000 in
theorem c_X11_doubled (l : Launch) (G : zG) (z : Nat) (τ : Nat → Option (Nat × Nat)) (ρ : Nat → Nat → Option Nat) (ι : Nat → Nat → Int32) (κ : Nat → Nat → Int64) {B c : Nat} (hL : zLay τ ρ B c) (hJ : zJ B c ι) (x : Int32) : zM l G yX11_doubled cX11_doubled 2 (some .int) ({ frames := 3, cells := 0, slots := 0, locals := 71 } : Room) [.ref B, .int x] (z, τ, ρ, ι, κ) (fun v s => ∃ r ι2 κ2, v = some (.int r) ∧ s = (z, τ, ρ, ι2, κ2) ∧ zFc B c ι ι2) 0 0 := by
  refine zM_of zCd_X11_doubled (Nat.le_of_ble_eq_true rfl) ?_
  intro E X hR hE
  subst hE
  show zW E G 2 (z, τ, ρ, ι, κ) 0 0 0 [(0, .ref B), (1, .int x)] []
  refine r_iload_n X (by rfl) dX11_doubled_0 ?_
  refine r_callS X dX11_doubled_1 zLS_X11_237 zCd_X1_isLaw (c_X1_isLaw _ G z τ ρ _ _ _) rfl rfl ⟨⟨rfl, rfl⟩, ⟨by decide, by decide⟩, ⟨Nat.le_of_ble_eq_true rfl, Nat.le_of_ble_eq_true rfl⟩, Nat.le_of_ble_eq_true rfl⟩ ?_
  rintro _ _ ⟨rfl, rfl⟩
  refine r_if_eq X 22 dX11_doubled_4 (by decide) (fun h4 => ?_) (fun h4 => ?_)
  · refine r_bipush X (-2) (by decide) dX11_doubled_22 ?_
    refine r_ireturn X hR dX11_doubled_24 rfl (Nat.zero_le _) (Nat.zero_le _) ?_
    first | exact ⟨_, _, _, rfl, rfl, zFc_fr hJ (fun b q => hf2 b (by unfold zCx at q; omega))⟩ | exact ⟨_, _, _, rfl, rfl, zFc.rfl hJ⟩
  · refine r_aload_n X (by rfl) dX11_doubled_7 ?_
    refine r_getR X dX11_doubled_8 zF_X11_66 (zt hL 0 rfl) (zrf hL 8 rfl) ?_
    refine r_iload_n X (by rfl) dX11_doubled_11 ?_
    refine r_aload_n X (by rfl) dX11_doubled_12 ?_
    refine r_getI X dX11_doubled_13 zF_X11_74 (zt hL 0 rfl) ?_
    refine r_callV X dX11_doubled_16 zLV_X11_243 zCd_X1_doublesOf (c_X1_doublesOf _ G z τ ρ _ _ (zt hL 30 rfl) (zrf hL 31 rfl) (zt hL 31 rfl) _ _) (zt hL 30 rfl) ⟨by decide, rfl, rfl⟩ rfl rfl ⟨⟨rfl, rfl⟩, ⟨by decide, by decide⟩, ⟨Nat.le_of_ble_eq_true rfl, Nat.le_of_ble_eq_true rfl⟩, Nat.le_of_ble_eq_true rfl⟩ ?_
    rintro _ _ ⟨r, ι2, rfl, rfl, hf2⟩
    refine r_goto X 24 dX11_doubled_19 (by decide) ?_
    refine r_ireturn X hR dX11_doubled_24 rfl (Nat.zero_le _) (Nat.zero_le _) ?_
    first | exact ⟨_, _, _, rfl, rfl, zFc_fr hJ (fun b q => hf2 b (by unfold zCx at q; omega))⟩ | exact ⟨_, _, _, rfl, rfl, zFc.rfl hJ⟩
set_option maxHeartbeats 4000000 in
set_option maxRecDepth 100000 in
theorem c_X11_count (l : Launch) (G : zG) (z : Nat) (τ : Nat → Option (Nat × Nat)) (ρ : Nat → Nat → Option Nat) (ι : Nat → Nat → Int32) (κ : Nat → Nat → Int64) {B c : Nat} (hL : zLay τ ρ B c) (hJ : zJ B c ι) (x : Int32) : zM l G yX11_count cX11_count 2 (some .int) ({ frames := 1, cells := 0, slots := 0, locals := 22 } : Room) [.ref B, .int x] (z, τ, ρ, ι, κ) (fun v s => ∃ r, v = some (.int r) ∧ s = (z, τ, ρ, ι, κ)) 0 0 := by
  refine zM_of zCd_X11_count (Nat.le_of_ble_eq_true rfl) ?_
  intro E X hR hE
  subst hE
  show zW E G 2 (z, τ, ρ, ι, κ) 0 0 0 [(0, .ref B), (1, .int x)] []
  refine r_iload_n X (by rfl) dX11_count_0 ?_
  have hsw : x.toInt = 0 + 0 ∨ x.toInt = 0 + 1 ∨ x.toInt = 0 + 2 ∨ x.toInt = 0 + 3 ∨ x.toInt = 0 + 4 ∨ x.toInt = 0 + 5 ∨ x.toInt = 0 + 6 ∨ (x.toInt < 0 ∨ 6 < x.toInt) := by omega
  rcases hsw with hs | hs | hs | hs | hs | hs | hs | hs
  · refine r_tableIn X (j0 := 0) 44 dX11_count_1 hs rfl (by decide) (by decide) (by decide) ?_
    refine r_aload_n X (by rfl) dX11_count_44 ?_
    refine r_getI X dX11_count_45 zF_X11_70 (zt hL 0 rfl) ?_
    refine r_ireturn X hR dX11_count_48 rfl (Nat.zero_le _) (Nat.zero_le _) ?_
    exact ⟨_, rfl, rfl⟩
  · refine r_tableIn X (j0 := 1) 49 dX11_count_1 hs rfl (by decide) (by decide) (by decide) ?_
    refine r_aload_n X (by rfl) dX11_count_49 ?_
    refine r_callV X dX11_count_50 zLV_X11_246 zCd_X11_scalesOnSlide (c_X11_scalesOnSlide _ G z τ ρ _ _ hL hJ) (zt hL 0 rfl) ⟨by decide, rfl, rfl⟩ rfl rfl ⟨⟨rfl, rfl⟩, ⟨by decide, by decide⟩, ⟨Nat.le_of_ble_eq_true rfl, Nat.le_of_ble_eq_true rfl⟩, Nat.le_of_ble_eq_true rfl⟩ ?_
    rintro _ _ ⟨r, rfl, rfl⟩
    refine r_ireturn X hR dX11_count_53 rfl (Nat.zero_le _) (Nat.zero_le _) ?_
    exact ⟨_, rfl, rfl⟩
  · refine r_tableIn X (j0 := 2) 54 dX11_count_1 hs rfl (by decide) (by decide) (by decide) ?_
    refine r_aload_n X (by rfl) dX11_count_54 ?_
    refine r_getI X dX11_count_55 zF_X11_77 (zt hL 0 rfl) ?_
    refine r_ireturn X hR dX11_count_58 rfl (Nat.zero_le _) (Nat.zero_le _) ?_
    exact ⟨_, rfl, rfl⟩
  · refine r_tableIn X (j0 := 3) 59 dX11_count_1 hs rfl (by decide) (by decide) (by decide) ?_
    refine r_aload_n X (by rfl) dX11_count_59 ?_
    refine r_getR X dX11_count_60 zF_X11_32 (zt hL 0 rfl) (zrf hL 3 rfl) ?_
    refine r_getR X dX11_count_63 zF_X11_150 (zt hL 11 rfl) (zrf hL 15 rfl) ?_
    refine r_getI X dX11_count_66 zF_X11_117 (zt hL 12 rfl) ?_
    refine r_ireturn X hR dX11_count_69 rfl (Nat.zero_le _) (Nat.zero_le _) ?_
    exact ⟨_, rfl, rfl⟩
  · refine r_tableIn X (j0 := 4) 70 dX11_count_1 hs rfl (by decide) (by decide) (by decide) ?_
    refine r_aload_n X (by rfl) dX11_count_70 ?_
    refine r_getR X dX11_count_71 zF_X11_52 (zt hL 0 rfl) (zrf hL 6 rfl) ?_
    refine r_iconst X 0 (by decide) dX11_count_74 ?_
    refine r_aaload X dX11_count_75 (zt hL 28 rfl) (by decide) (vp_in_iff.mpr ⟨by decide, by decide⟩) (zrf hL 29 rfl) ?_
    refine r_getR X dX11_count_76 zF_X11_218 (zt hL 32 rfl) (zrf hL 32 rfl) ?_
    refine r_getI X dX11_count_79 zF_X11_117 (zt hL 33 rfl) ?_
    refine r_ireturn X hR dX11_count_82 rfl (Nat.zero_le _) (Nat.zero_le _) ?_
    exact ⟨_, rfl, rfl⟩
  · refine r_tableIn X (j0 := 5) 83 dX11_count_1 hs rfl (by decide) (by decide) (by decide) ?_
    refine r_aload_n X (by rfl) dX11_count_83 ?_
    refine r_getR X dX11_count_84 zF_X11_52 (zt hL 0 rfl) (zrf hL 6 rfl) ?_
    refine r_iconst X 1 (by decide) dX11_count_87 ?_
    refine r_aaload X dX11_count_88 (zt hL 28 rfl) (by decide) (vp_in_iff.mpr ⟨by decide, by decide⟩) (zrf hL 30 rfl) ?_
    refine r_getR X dX11_count_89 zF_X11_218 (zt hL 35 rfl) (zrf hL 34 rfl) ?_
    refine r_getI X dX11_count_92 zF_X11_117 (zt hL 36 rfl) ?_
    refine r_ireturn X hR dX11_count_95 rfl (Nat.zero_le _) (Nat.zero_le _) ?_
    exact ⟨_, rfl, rfl⟩
  · refine r_tableIn X (j0 := 6) 96 dX11_count_1 hs rfl (by decide) (by decide) (by decide) ?_
    refine r_aload_n X (by rfl) dX11_count_96 ?_
    refine r_getI X dX11_count_97 zF_X11_74 (zt hL 0 rfl) ?_
    refine r_ireturn X hR dX11_count_100 rfl (Nat.zero_le _) (Nat.zero_le _) ?_
    exact ⟨_, rfl, rfl⟩
  · refine r_tableOut X 101 dX11_count_1 hs (by decide) ?_
    refine r_ldc X zK_X11_93 dX11_count_101 ?_
    refine r_ireturn X hR dX11_count_103 rfl (Nat.zero_le _) (Nat.zero_le _) ?_
    exact ⟨_, rfl, rfl⟩
set_option maxHeartbeats 4000000 in
set_option maxRecDepth 100000 in
theorem c_X11_digest (l : Launch) (G : zG) (z : Nat) (τ : Nat → Option (Nat × Nat)) (ρ : Nat → Nat → Option Nat) (ι : Nat → Nat → Int32) (κ : Nat → Nat → Int64) {B c : Nat} (hL : zLay τ ρ B c) (hJ : zJ B c ι) : zM l G yX11_digest cX11_digest 4 (some .long) ({ frames := 6, cells := 0, slots := 0, locals := 149 } : Room) [.ref B] (z, τ, ρ, ι, κ) (fun v s => ∃ r κ2, v = some (.long r) ∧ s = (z, τ, ρ, ι, κ2)) 0 0 := by
  refine zM_of zCd_X11_digest (Nat.le_of_ble_eq_true rfl) ?_
  intro E X hR hE
  subst hE
  show zW E G 4 (z, τ, ρ, ι, κ) 0 0 0 [(0, .ref B)] []
  obtain ⟨h8, ⟨hc1, hc2, hc3, hc4, hc5⟩, hJm⟩ := id hJ
  have L104 : ∀ (κ1 : Nat → Nat → Int64) (m : Nat) (i : Int32) (h : Int64), (2 - i.toInt).toNat < m → 0 ≤ i.toInt → zW E G 4 (z, τ, ρ, ι, κ1) 0 0 104 [(0, .ref B), (1, .long h), (3, .int i)] [] := by
    intro κ1 m
    induction m with
    | zero => intro i h h1; omega
    | succ m ih => ?_
    intro i h hm h0
    have hin := zclN h0
    refine r_iload_n X (by rfl) dX11_digest_104 ?_
    refine r_iconst X 2 (by decide) dX11_digest_105 ?_
    refine r_icmp_ge X 129 dX11_digest_106 (by decide) (fun h106 => ?_) (fun h106 => ?_)
    · rw [show Int32.toInt 2 = 2 from rfl] at h106
      refine r_lload_n X (by rfl) dX11_digest_129 ?_
      refine r_lreturn X hR dX11_digest_130 (Nat.zero_le _) (Nat.zero_le _) ?_
      exact ⟨_, _, rfl, rfl⟩
    · rw [show Int32.toInt 2 = 2 from rfl] at h106
      refine r_aload_n X (by rfl) dX11_digest_109 ?_
      refine r_getR X dX11_digest_110 zF_X11_52 (zt hL 0 rfl) (zrf hL 6 rfl) ?_
      refine r_iload_n X (by rfl) dX11_digest_113 ?_
      refine r_aaload X dX11_digest_114 (zt hL 28 rfl) (by decide) (vp_in_iff.mpr ⟨by omega, by omega⟩) (zStr hL (j := i.toNatClampNeg) (by omega)).1 ?_
      refine r_getR X dX11_digest_115 zF_X11_218 (zStr hL (j := i.toNatClampNeg) (by omega)).2.1 (zStr hL (j := i.toNatClampNeg) (by omega)).2.2.1 ?_
      refine r_lload_n X (by rfl) dX11_digest_118 ?_
      refine r_callV X dX11_digest_119 zLV_X11_262 zCd_X6_digestOnto (c_X6_digestOnto _ G z τ ρ _ _ (zStr hL (j := i.toNatClampNeg) (by omega)).2.2.2.1 (zStr hL (j := i.toNatClampNeg) (by omega)).2.2.2.2.1 (zStr hL (j := i.toNatClampNeg) (by omega)).2.2.2.2.2 _ (by rcases (show i.toNatClampNeg = 0 ∨ i.toNatClampNeg = 1 by omega) with e | e <;> rw [e] <;> first | exact hc3.2 | exact hc4.2) (by decide)) (zStr hL (j := i.toNatClampNeg) (by omega)).2.2.2.1 ⟨by decide, rfl, rfl⟩ rfl rfl ⟨⟨rfl, rfl⟩, ⟨by decide, by decide⟩, ⟨Nat.le_of_ble_eq_true rfl, Nat.le_of_ble_eq_true rfl⟩, Nat.le_of_ble_eq_true rfl⟩ ?_
      rintro _ _ ⟨r6, rfl, rfl⟩
      refine r_lstore_n X (by decide) dX11_digest_122 ?_
      refine r_iinc X 1 (by decide) (by rfl) (by decide) dX11_digest_123 ?_
      refine r_goto X 104 dX11_digest_126 (by decide) ?_
      exact zW.loc3 (by rfl) (by rfl) (by rfl) (ih _ _ (by have e := zinc (x := i) (by omega); omega) (by have e := zinc (x := i) (by omega); omega))
  have L33 : ∀ (m : Nat) (i : Int32) (h : Int64) (κ1 : Nat → Nat → Int64), (8 - i.toInt).toNat < m → 0 ≤ i.toInt → zW E G 4 (z, τ, ρ, ι, κ1) 0 0 33 [(0, .ref B), (1, .long h), (3, .int i)] [] := by
    intro m
    induction m with
    | zero => intro i h κ1 h1; omega
    | succ m ih => ?_
    intro i h κ1 hm h0
    have hin := zclN h0
    refine r_iload_n X (by rfl) dX11_digest_33 ?_
    refine r_aload_n X (by rfl) dX11_digest_34 ?_
    refine r_getI X dX11_digest_35 zF_X11_70 (zt hL 0 rfl) ?_
    refine r_icmp_ge X 90 dX11_digest_38 (by decide) (fun h38 => ?_) (fun h38 => ?_)
    · refine r_aload_n X (by rfl) dX11_digest_90 ?_
      refine r_getR X dX11_digest_91 zF_X11_32 (zt hL 0 rfl) (zrf hL 3 rfl) ?_
      refine r_getR X dX11_digest_94 zF_X11_150 (zt hL 11 rfl) (zrf hL 15 rfl) ?_
      refine r_lload_n X (by rfl) dX11_digest_97 ?_
      refine r_callV X dX11_digest_98 zLV_X11_262 zCd_X6_digestOnto (c_X6_digestOnto _ G z τ ρ _ _ (zt hL 12 rfl) (zrf hL 17 rfl) (zt hL 13 rfl) _ (by have := hc2.2; omega) (by decide)) (zt hL 12 rfl) ⟨by decide, rfl, rfl⟩ rfl rfl ⟨⟨rfl, rfl⟩, ⟨by decide, by decide⟩, ⟨Nat.le_of_ble_eq_true rfl, Nat.le_of_ble_eq_true rfl⟩, Nat.le_of_ble_eq_true rfl⟩ ?_
      rintro _ _ ⟨r5, rfl, rfl⟩
      refine r_lstore_n X (by decide) dX11_digest_101 ?_
      refine r_iconst X 0 (by decide) dX11_digest_102 ?_
      refine r_istore_n X (by decide) dX11_digest_103 ?_
      exact zW.loc3 (by rfl) (by rfl) (by rfl) (L104 _ 3 _ _ (by decide) (by decide))
    · refine r_aload_n X (by rfl) dX11_digest_41 ?_
      refine r_getR X dX11_digest_42 zF_X11_25 (zt hL 0 rfl) (zrf hL 2 rfl) ?_
      refine r_iload_n X (by rfl) dX11_digest_45 ?_
      refine r_aaload X dX11_digest_46 (zt hL 10 rfl) (by decide) (vp_in_iff.mpr ⟨by omega, by omega⟩) (hL.2.2 i.toNatClampNeg (by omega)).1 ?_
      refine r_lload_n X (by rfl) dX11_digest_47 ?_
      refine r_callV X dX11_digest_48 zLV_X11_256 zCd_X7_digestOnto (c_X7_digestOnto _ G z τ ρ _ _ (hL.2.2 i.toNatClampNeg (by omega)).2.1 (hL.2.2 i.toNatClampNeg (by omega)).2.2.1 (hL.2.2 i.toNatClampNeg (by omega)).2.2.2.1 (hL.2.2 i.toNatClampNeg (by omega)).2.2.2.2.1 (hL.2.2 i.toNatClampNeg (by omega)).2.2.2.2.2.1 (hL.2.2 i.toNatClampNeg (by omega)).2.2.2.2.2.2.1 (hL.2.2 i.toNatClampNeg (by omega)).2.2.2.2.2.2.2.1 (hL.2.2 i.toNatClampNeg (by omega)).2.2.2.2.2.2.2.2.1 (hL.2.2 i.toNatClampNeg (by omega)).2.2.2.2.2.2.2.2.2.1 (hL.2.2 i.toNatClampNeg (by omega)).2.2.2.2.2.2.2.2.2.2.1 (hL.2.2 i.toNatClampNeg (by omega)).2.2.2.2.2.2.2.2.2.2.2.1 (hL.2.2 i.toNatClampNeg (by omega)).2.2.2.2.2.2.2.2.2.2.2.2.1 (hL.2.2 i.toNatClampNeg (by omega)).2.2.2.2.2.2.2.2.2.2.2.2.2 (hc5 i.toNatClampNeg (by omega)).2.1.2 _) (hL.2.2 i.toNatClampNeg (by omega)).2.1 ⟨by decide, rfl, rfl⟩ rfl rfl ⟨⟨rfl, rfl⟩, ⟨by decide, by decide⟩, ⟨Nat.le_of_ble_eq_true rfl, Nat.le_of_ble_eq_true rfl⟩, Nat.le_of_ble_eq_true rfl⟩ ?_
      rintro _ _ ⟨r2, rfl, rfl⟩
      refine r_lstore_n X (by decide) dX11_digest_51 ?_
      refine r_ldc2 X zK_X11_251 dX11_digest_52 ?_
      refine r_lload_n X (by rfl) dX11_digest_55 ?_
      refine r_lmul X dX11_digest_56 ?_
      refine r_aload_n X (by rfl) dX11_digest_57 ?_
      refine r_iload_n X (by rfl) dX11_digest_58 ?_
      refine r_sipush X 200 (by decide) dX11_digest_59 ?_
      refine r_callV X dX11_digest_62 zLV_X11_260 zCd_X11_place (c_X11_place _ G z τ ρ _ _ hL hJ _ _) (zt hL 0 rfl) ⟨by decide, rfl, rfl⟩ rfl rfl ⟨⟨rfl, rfl⟩, ⟨by decide, by decide⟩, ⟨Nat.le_of_ble_eq_true rfl, Nat.le_of_ble_eq_true rfl⟩, Nat.le_of_ble_eq_true rfl⟩ ?_
      rintro _ _ ⟨r3, κ3, rfl, rfl⟩
      refine r_i2l X dX11_digest_65 ?_
      refine r_ladd X dX11_digest_66 ?_
      refine r_lstore_n X (by decide) dX11_digest_67 ?_
      refine r_ldc2 X zK_X11_251 dX11_digest_68 ?_
      refine r_lload_n X (by rfl) dX11_digest_71 ?_
      refine r_lmul X dX11_digest_72 ?_
      refine r_aload_n X (by rfl) dX11_digest_73 ?_
      refine r_iload_n X (by rfl) dX11_digest_74 ?_
      refine r_sipush X 300 (by decide) dX11_digest_75 ?_
      refine r_callV X dX11_digest_78 zLV_X11_260 zCd_X11_place (c_X11_place _ G z τ ρ _ _ hL hJ _ _) (zt hL 0 rfl) ⟨by decide, rfl, rfl⟩ rfl rfl ⟨⟨rfl, rfl⟩, ⟨by decide, by decide⟩, ⟨Nat.le_of_ble_eq_true rfl, Nat.le_of_ble_eq_true rfl⟩, Nat.le_of_ble_eq_true rfl⟩ ?_
      rintro _ _ ⟨r4, κ4, rfl, rfl⟩
      refine r_i2l X dX11_digest_81 ?_
      refine r_ladd X dX11_digest_82 ?_
      refine r_lstore_n X (by decide) dX11_digest_83 ?_
      refine r_iinc X 1 (by decide) (by rfl) (by decide) dX11_digest_84 ?_
      refine r_goto X 33 dX11_digest_87 (by decide) ?_
      exact zW.loc3 (by rfl) (by rfl) (by rfl) (ih _ _ _ (by have e := zinc (x := i) (by omega); omega) (by have e := zinc (x := i) (by omega); omega))
  have L6 : ∀ (m : Nat) (i : Int32) (h : Int64), (7 - i.toInt).toNat < m → 0 ≤ i.toInt → zW E G 4 (z, τ, ρ, ι, κ) 0 0 6 [(0, .ref B), (1, .long h), (3, .int i)] [] := by
    intro m
    induction m with
    | zero => intro i h h1; omega
    | succ m ih => ?_
    intro i h hm h0
    refine r_iload_n X (by rfl) dX11_digest_6 ?_
    refine r_bipush X 7 (by decide) dX11_digest_7 ?_
    refine r_icmp_ge X 31 dX11_digest_9 (by decide) (fun h9 => ?_) (fun h9 => ?_)
    · rw [show Int32.toInt 7 = 7 from rfl] at h9
      refine r_iconst X 0 (by decide) dX11_digest_31 ?_
      refine r_istore_n X (by decide) dX11_digest_32 ?_
      exact zW.loc3 (by rfl) (by rfl) (by rfl) (L33 9 _ _ _ (by decide) (by decide))
    · rw [show Int32.toInt 7 = 7 from rfl] at h9
      refine r_ldc2 X zK_X11_251 dX11_digest_12 ?_
      refine r_lload_n X (by rfl) dX11_digest_15 ?_
      refine r_lmul X dX11_digest_16 ?_
      refine r_aload_n X (by rfl) dX11_digest_17 ?_
      refine r_iload_n X (by rfl) dX11_digest_18 ?_
      refine r_callV X dX11_digest_19 zLV_X11_253 zCd_X11_count (c_X11_count _ G z τ ρ _ _ hL hJ _) (zt hL 0 rfl) ⟨by decide, rfl, rfl⟩ rfl rfl ⟨⟨rfl, rfl⟩, ⟨by decide, by decide⟩, ⟨Nat.le_of_ble_eq_true rfl, Nat.le_of_ble_eq_true rfl⟩, Nat.le_of_ble_eq_true rfl⟩ ?_
      rintro _ _ ⟨r1, rfl, rfl⟩
      refine r_i2l X dX11_digest_22 ?_
      refine r_ladd X dX11_digest_23 ?_
      refine r_lstore_n X (by decide) dX11_digest_24 ?_
      refine r_iinc X 1 (by decide) (by rfl) (by decide) dX11_digest_25 ?_
      refine r_goto X 6 dX11_digest_28 (by decide) ?_
      exact zW.loc3 (by rfl) (by rfl) (by rfl) (ih _ _ (by have e := zinc (x := i) (by omega); omega) (by have e := zinc (x := i) (by omega); omega))
  refine r_ldc2 X zK_X11_249 dX11_digest_0 ?_
  refine r_lstore_n X (by decide) dX11_digest_3 ?_
  refine r_iconst X 0 (by decide) dX11_digest_4 ?_
  refine r_istore_n X (by decide) dX11_digest_5 ?_
  exact zW.loc3 (by rfl) (by rfl) (by rfl) (L6 8 _ _ (by decide) (by decide))
set_option maxHeartbeats 4000000 in
set_option maxRecDepth 100000 in
theorem c_X11_scale (l : Launch) (G : zG) (z : Nat) (τ : Nat → Option (Nat × Nat)) (ρ : Nat → Nat → Option Nat) (ι : Nat → Nat → Int32) (κ : Nat → Nat → Int64) {B c : Nat} (hL : zLay τ ρ B c) (hJ : zJ B c ι) (hz : z = B + 63 + 7 * c) (x y u w : Int32) (x01 : x = 0 ∨ x = 1) (w01 : w = 0 ∨ w = 1) : zM l G yX11_scale cX11_scale 5 (some .int) ({ frames := 3, cells := 7, slots := 826, locals := 66 } : Room) [.ref B, .int x, .int y, .int u, .int w] (z, τ, ρ, ι, κ) (fun v s => (¬ ((1 ≤ y.toInt ∧ y.toInt ≤ 3) ∧ 10 ≤ u.toInt ∧ u.toInt ≤ 990) ∧ v = some (.int (-2)) ∧ s = (z, τ, ρ, ι, κ)) ∨ (((1 ≤ y.toInt ∧ y.toInt ≤ 3) ∧ 10 ≤ u.toInt ∧ u.toInt ≤ 990) ∧ c = 8 ∧ v = some (.int (-4)) ∧ s = (z, τ, ρ, ι, κ)) ∨ (((1 ≤ y.toInt ∧ y.toInt ≤ 3) ∧ 10 ≤ u.toInt ∧ u.toInt ≤ 990) ∧ c < 8 ∧ v = some (.int (ι B 9 + 1 - 1)) ∧ s = (z + 7, tX7 (zp τ z (7, 0)) z (z + 1), zu (rX7 ρ z (z + 1)) (B + 10) c (some z), zu (iX7 ι z (z + 1) x y u w) B 9 (ι B 9 + 1), κ))) 7 826 := by
  refine zM_of zCd_X11_scale (Nat.le_of_ble_eq_true rfl) ?_
  intro E X hR hE
  subst hE
  show zW E G 5 (z, τ, ρ, ι, κ) 0 0 0 [(0, .ref B), (1, .int x), (2, .int y), (3, .int u), (4, .int w)] []
  obtain ⟨h8, ⟨hc1, hc2, hc3, hc4, hc5⟩, hJm⟩ := id hJ
  have hcn : (ι B 9).toNatClampNeg = c := by have := zclN (i := ι B 9) (by omega); omega
  refine r_iload_n X (by rfl) dX11_scale_0 ?_
  refine r_iconst X 1 (by decide) dX11_scale_1 ?_
  refine r_icmp_lt X 23 dX11_scale_2 (by decide) (fun h2 => ?_) (fun h2 => ?_)
  · rw [show Int32.toInt 1 = 1 from rfl] at h2
    refine r_bipush X (-2) (by decide) dX11_scale_23 ?_
    refine r_ireturn X hR dX11_scale_25 rfl (Nat.le_of_ble_eq_true rfl) (Nat.le_of_ble_eq_true rfl) ?_
    exact Or.inl ⟨fun h => by omega, rfl, rfl⟩
  · rw [show Int32.toInt 1 = 1 from rfl] at h2
    refine r_iload_n X (by rfl) dX11_scale_5 ?_
    refine r_iconst X 3 (by decide) dX11_scale_6 ?_
    refine r_icmp_gt X 23 dX11_scale_7 (by decide) (fun h7 => ?_) (fun h7 => ?_)
    · rw [show Int32.toInt 3 = 3 from rfl] at h7
      refine r_bipush X (-2) (by decide) dX11_scale_23 ?_
      refine r_ireturn X hR dX11_scale_25 rfl (Nat.le_of_ble_eq_true rfl) (Nat.le_of_ble_eq_true rfl) ?_
      exact Or.inl ⟨fun h => by omega, rfl, rfl⟩
    · rw [show Int32.toInt 3 = 3 from rfl] at h7
      refine r_iload_n X (by rfl) dX11_scale_10 ?_
      refine r_bipush X 10 (by decide) dX11_scale_11 ?_
      refine r_icmp_lt X 23 dX11_scale_13 (by decide) (fun h13 => ?_) (fun h13 => ?_)
      · rw [show Int32.toInt 10 = 10 from rfl] at h13
        refine r_bipush X (-2) (by decide) dX11_scale_23 ?_
        refine r_ireturn X hR dX11_scale_25 rfl (Nat.le_of_ble_eq_true rfl) (Nat.le_of_ble_eq_true rfl) ?_
        exact Or.inl ⟨fun h => by omega, rfl, rfl⟩
      · rw [show Int32.toInt 10 = 10 from rfl] at h13
        refine r_iload_n X (by rfl) dX11_scale_16 ?_
        refine r_sipush X 990 (by decide) dX11_scale_17 ?_
        refine r_icmp_le X 26 dX11_scale_20 (by decide) (fun h20 => ?_) (fun h20 => ?_)
        · rw [show Int32.toInt 990 = 990 from rfl] at h20
          refine r_aload_n X (by rfl) dX11_scale_26 ?_
          refine r_getI X dX11_scale_27 zF_X11_70 (by first | exact (zt hL 0 rfl) | (rw [tX7_lt (by omega)]; exact (zt hL 0 rfl))) ?_
          refine r_bipush X 8 (by decide) dX11_scale_30 ?_
          refine r_icmp_lt X 38 dX11_scale_32 (by decide) (fun h32 => ?_) (fun h32 => ?_)
          · rw [show Int32.toInt 8 = 8 from rfl] at h32
            refine r_aload_n X (by rfl) dX11_scale_38 ?_
            refine r_getR X dX11_scale_39 zF_X11_25 (by first | exact (zt hL 0 rfl) | (rw [tX7_lt (by omega)]; exact (zt hL 0 rfl))) (zrf hL 2 rfl) ?_
            refine r_aload_n X (by rfl) dX11_scale_42 ?_
            refine r_getI X dX11_scale_43 zF_X11_70 (by first | exact (zt hL 0 rfl) | (rw [tX7_lt (by omega)]; exact (zt hL 0 rfl))) ?_
            refine r_new X 0 dX11_scale_46 zCl_7 (by decide) zcl_X11_23 zis_X7 zini_X7 zdf_7 (Nat.le_of_ble_eq_true rfl) (Nat.le_of_ble_eq_true rfl) (fun hz46 => ?_)
            refine r_dup X rfl dX11_scale_49 ?_
            refine r_iload_n X (by rfl) dX11_scale_50 ?_
            refine r_iload_n X (by rfl) dX11_scale_51 ?_
            refine r_iload_n X (by rfl) dX11_scale_52 ?_
            refine r_iload X (by rfl) dX11_scale_53 ?_
            refine r_callI X dX11_scale_55 zLI_X11_82 rfl zCd_X7_init (c_X7_init _ _ _ _ _ _ _ zp_s (by omega) _ _ _ _ x01 w01) rfl rfl ⟨⟨rfl, rfl⟩, ⟨by decide, by decide⟩, ⟨Nat.le_of_ble_eq_true rfl, Nat.le_of_ble_eq_true rfl⟩, Nat.le_of_ble_eq_true rfl⟩ ?_
            rintro _ _ ⟨rfl, rfl⟩
            refine r_aastore (q := 3) (ci := 7) (t := 16) (N := 8) (N2 := 0) X dX11_scale_58 (by first | exact (zt hL 10 rfl) | (rw [tX7_lt (by omega)]; exact (zt hL 10 rfl))) (by decide) rfl (by decide) rfl (by simp [zp, zu, Nat.add_assoc, tX6, rX6, iX6, tX0, rX0, iX0, tX2, rX2, iX2, tX5, rX5, iX5, tX4, rX4, iX4, tX8, rX8, iX8, tX9, rX9, iX9, tX3, rX3, iX3, tX1, rX1, iX1, tX7, rX7, iX7]) (vp_in_iff.mpr ⟨by omega, by omega⟩) ?_
            refine r_aload_n X (by rfl) dX11_scale_59 ?_
            refine r_dup X rfl dX11_scale_60 ?_
            rw [hcn]
            refine r_getI X dX11_scale_61 zF_X11_70 (by first | exact (zt hL 0 rfl) | (rw [tX7_lt (by omega)]; exact (zt hL 0 rfl))) ?_
            rw [iX7_B (by omega)]
            refine r_iconst X 1 (by decide) dX11_scale_64 ?_
            refine r_iadd X dX11_scale_65 ?_
            refine r_putI X dX11_scale_66 zF_X11_70 (by first | exact (zt hL 0 rfl) | (rw [tX7_lt (by omega)]; exact (zt hL 0 rfl))) rfl rfl ?_
            refine r_aload_n X (by rfl) dX11_scale_69 ?_
            refine r_getI X dX11_scale_70 zF_X11_70 (by first | exact (zt hL 0 rfl) | (rw [tX7_lt (by omega)]; exact (zt hL 0 rfl))) ?_
            rw [zu_s]
            refine r_iconst X 1 (by decide) dX11_scale_73 ?_
            refine r_isub X dX11_scale_74 ?_
            refine r_ireturn X hR dX11_scale_75 rfl (Nat.le_of_ble_eq_true rfl) (Nat.le_of_ble_eq_true rfl) ?_
            exact Or.inr (Or.inr ⟨⟨⟨by omega, by omega⟩, by omega, by omega⟩, by omega, rfl, rfl⟩)
          · rw [show Int32.toInt 8 = 8 from rfl] at h32
            refine r_bipush X (-4) (by decide) dX11_scale_35 ?_
            refine r_ireturn X hR dX11_scale_37 rfl (Nat.le_of_ble_eq_true rfl) (Nat.le_of_ble_eq_true rfl) ?_
            exact Or.inr (Or.inl ⟨⟨⟨by omega, by omega⟩, by omega, by omega⟩, by omega, rfl, rfl⟩)
        · rw [show Int32.toInt 990 = 990 from rfl] at h20
          refine r_bipush X (-2) (by decide) dX11_scale_23 ?_
          refine r_ireturn X hR dX11_scale_25 rfl (Nat.le_of_ble_eq_true rfl) (Nat.le_of_ble_eq_true rfl) ?_
          exact Or.inl ⟨fun h => by omega, rfl, rfl⟩
