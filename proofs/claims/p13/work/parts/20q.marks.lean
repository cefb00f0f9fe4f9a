/-! the model's MARKS by PLACES, exactly (wip/genp/spec_ph.py) -/
/-- place x lies between PLACES k and k + 1 -/
def zBw (P : Nat → Int32) (x : Int32) (k : Nat) : Prop := ¬ P k = P (k + 1) ∧ (((P k).toInt ≤ x.toInt ∧ x.toInt ≤ (P (k + 1)).toInt) ∨ ((P (k + 1)).toInt ≤ x.toInt ∧ x.toInt ≤ (P k).toInt))
/-- MARK i of SCALE j, by the SPANS -/
def zMkR (B : Nat) (ι : Nat → Nat → Int32) (j : Nat) (i : Int) (r : Int32) : Prop := ∃ (q : Nat) (e : Int), (q : Int) < (ι (B + 43) j).toInt ∧ 0 ≤ e ∧ e < zSm B ι (4 * j + q) ∧ i = zMk B ι j q + e ∧ r.toInt = (ι (B + 44) (4 * j + q)).toInt + e * (ι (B + 46) (4 * j + q)).toInt
theorem zMkR_fq {B j : Nat} {ι ι2 : Nat → Nat → Int32} {i : Int} {r : Int32} (h : zFq B ι ι2) (hr : zMkR B ι2 j i r) : zMkR B ι j i r := by
  obtain ⟨q, e, h1, h2, h3, h4, h5⟩ := hr
  have e43 : ι2 (B + 43) j = ι (B + 43) j := h _ _ (by unfold zCq; omega)
  have e44 : ι2 (B + 44) (4 * j + q) = ι (B + 44) (4 * j + q) := h _ _ (by unfold zCq; omega)
  have e45 : ι2 (B + 45) (4 * j + q) = ι (B + 45) (4 * j + q) := h _ _ (by unfold zCq; omega)
  have e46 : ι2 (B + 46) (4 * j + q) = ι (B + 46) (4 * j + q) := h _ _ (by unfold zCq; omega)
  refine ⟨q, e, by rw [← e43]; exact h1, h2, ?_, ?_, ?_⟩
  · unfold zSm at h3 ⊢
    rw [e44, e45, e46] at h3
    exact h3
  · rw [h4, zMk_fq h]
  · rw [h5, e44, e46]
/-- the numbers of a SCALE's MARKS -/
def zMu (B : Nat) (ι : Nat → Nat → Int32) (j : Nat) (μ : Nat → Int32) : Prop := (∀ (i : Nat) (r : Int32), zMkR B ι j i r → r = μ i) ∧ ∀ k : Nat, (k : Int) < zMk B ι j (ι (B + 43) j).toNatClampNeg → 100 ≤ (μ k).toInt ∧ (μ k).toInt ≤ 100000
theorem zPm_b {B c : Nat} {ι : Nat → Nat → Int32} {x y : Int32} (hJ : zJ B c ι) (hx : 0 ≤ x.toInt ∧ x.toInt < (c : Int)) (hy : 100 ≤ y.toInt ∧ y.toInt ≤ 100000) (hst : 100 ≤ (ι (B + 38) 0).toInt ∧ (ι (B + 38) 0).toInt ≤ 50000) : -500000 ≤ (zPm B ι x y).toInt ∧ (zPm B ι x y).toInt ≤ 500000 := by
  have hxn := zclN hx.1
  have hyn := zclN (i := y) (by omega)
  obtain ⟨b0, b1⟩ := zNv_b (v := y.toNatClampNeg) hJ (show x.toNatClampNeg < c by omega) (by omega) (by omega) hst.1 hst.2
  have e := Int32.toInt_ofInt_of_le (n := zNv B ι x.toNatClampNeg y.toNatClampNeg (ι (B + 38) 0).toInt) (by omega) (by omega)
  unfold zPm
  by_cases q : ι (B + 42) x.toNatClampNeg = 0
  · rw [if_pos q, e]; omega
  · rw [if_neg q, zsubI (by rw [e]; omega) (by rw [e]; omega), e]; omega
theorem zAbd {a b : Int32} (ha : -1000000 ≤ a.toInt ∧ a.toInt ≤ 1000000) (hb : -1000000 ≤ b.toInt ∧ b.toInt ≤ 1000000) : 0 ≤ (zAb (a - b)).toInt := (zAb_v (by rw [zsubI (by omega) (by omega)]; omega)).2

theorem zMk_nn {B c j : Nat} {ι : Nat → Nat → Int32} (hJ : zJ B c ι) (hj : j < c) : 0 ≤ zMk B ι j (ι (B + 43) j).toNatClampNeg := by
  obtain ⟨-, -, h3, h4⟩ := hJ.2.2.2.2.2.2 j hj
  have hn := zclN h3.1
  have := zMk_b (B := B) (ι := ι) (j := j) (n := (ι (B + 43) j).toNatClampNeg) (fun k hk => h4 k (by omega))
  omega

set_option maxHeartbeats 4000000 in
set_option maxRecDepth 100000 in
theorem e2_X12_closest (l : Launch) (G : zG) (z : Nat) (τ : Nat → Option (Nat × Nat)) (ρ : Nat → Nat → Option Nat) (ι : Nat → Nat → Int32) (κ : Nat → Nat → Int64) {B c : Nat} (hL : zLay τ ρ B c) (hJ : zJ B c ι) (hst : 100 ≤ (ι (B + 38) 0).toInt ∧ (ι (B + 38) 0).toInt ≤ 50000) (hM : zPsM B c ι) (x y : Int32) (μ : Nat → Int32) (hμ : zMu B ι x.toNatClampNeg μ) : zM l G yX12_closest cX12_closest 10 (some .int) ({ frames := 5, cells := 0, slots := 0, locals := 143 } : Room) [.ref (B + 38), .int x, .int y] (z, τ, ρ, ι, κ) (fun v s => ∃ r ι2 κ2, v = some (.int r) ∧ s = (z, τ, ρ, ι2, κ2) ∧ zFq B ι ι2 ∧ zPsM B c ι2 ∧ ((¬ ((0 ≤ x.toInt ∧ x.toInt < (c : Int)) ∧ 0 ≤ y.toInt ∧ y.toInt ≤ 1) ∧ r = -2) ∨ (((0 ≤ x.toInt ∧ x.toInt < (c : Int)) ∧ 0 ≤ y.toInt ∧ y.toInt ≤ 1) ∧ ((zMk B ι x.toNatClampNeg (ι (B + 43) x.toNatClampNeg).toNatClampNeg < 2 ∧ r = -1) ∨ (2 ≤ zMk B ι x.toNatClampNeg (ι (B + 43) x.toNatClampNeg).toNatClampNeg ∧ ∃ f : Nat, zAm (fun k => (zAb (zPm B ι x (μ (k + 1)) - zPm B ι x (μ k))).toInt) ((zMk B ι x.toNatClampNeg (ι (B + 43) x.toNatClampNeg).toNatClampNeg).toNat - 1) f ∧ ((y.toInt = 0 ∧ r = μ f) ∨ (y.toInt = 1 ∧ r.toInt = (fun k => (zAb (zPm B ι x (μ (k + 1)) - zPm B ι x (μ k))).toInt) f))))))) 0 0 := by
  refine zM_of zCd_X12_closest (Nat.le_of_ble_eq_true rfl) ?_
  intro E X hR hE
  subst hE
  show zW E G 10 (z, τ, ρ, ι, κ) 0 0 0 [(0, .ref (B + 38)), (1, .int x), (2, .int y)] []
  have L56 : ∀ (hx : (0 ≤ x.toInt ∧ x.toInt < (c : Int))) (hy9 : 0 ≤ y.toInt ∧ y.toInt ≤ 1) (n : Int32), n.toInt = zMk B ι x.toNatClampNeg (ι (B + 43) x.toNatClampNeg).toNatClampNeg → n.toInt ≤ 399604 → 2 ≤ n.toInt → ∀ (m : Nat) (i b l w : Int32) (ι1 : Nat → Nat → Int32) (κ1 : Nat → Nat → Int64), (400000 - i.toInt).toNat < m → 1 ≤ i.toInt → i.toInt ≤ zMk B ι x.toNatClampNeg (ι (B + 43) x.toNatClampNeg).toNatClampNeg → w = zPm B ι x (μ (i.toNatClampNeg - 1)) → zFq B ι ι1 → zPsM B c ι1 → ((i.toInt = 1 ∧ l = -1) ∨ (2 ≤ i.toInt ∧ ∃ f : Nat, zAm (fun k => (zAb (zPm B ι x (μ (k + 1)) - zPm B ι x (μ k))).toInt) (i.toNatClampNeg - 1) f ∧ b = μ f ∧ l.toInt = (fun k => (zAb (zPm B ι x (μ (k + 1)) - zPm B ι x (μ k))).toInt) f)) → zW E G 10 (z, τ, ρ, ι1, κ1) 0 0 56 [(0, .ref (B + 38)), (1, .int x), (2, .int y), (3, .int n), (4, .int b), (5, .int l), (6, .int w), (7, .int i)] [] := by
    intro hx hy9 n hn hn2 hn3 m
    have hpb : ∀ k : Nat, (k : Int) < zMk B ι x.toNatClampNeg (ι (B + 43) x.toNatClampNeg).toNatClampNeg → -1000000 ≤ (zPm B ι x (μ k)).toInt ∧ (zPm B ι x (μ k)).toInt ≤ 1000000 := fun k hk => by have := zPm_b hJ hx (hμ.2 k hk) hst; omega
    have hG0 : ∀ k : Nat, (k : Int) + 1 < zMk B ι x.toNatClampNeg (ι (B + 43) x.toNatClampNeg).toNatClampNeg → 0 ≤ (fun k => (zAb (zPm B ι x (μ (k + 1)) - zPm B ι x (μ k))).toInt) k := fun k hk => zAbd (hpb (k + 1) (by omega)) (hpb k (by omega))
    induction m with
    | zero => intro i b l w ι1 κ1 h; omega
    | succ m ih => ?_
    intro i b l w ι1 κ1 hm h0 hile hw hf hM1 hI
    subst hw
    have hJ1 := zJ_fq hJ hf
    have hst1 : 100 ≤ (ι1 (B + 38) 0).toInt ∧ (ι1 (B + 38) 0).toInt ≤ 50000 := by rw [hf (B + 38) 0 (by unfold zCq; omega)]; exact hst
    have es := zsub1 (x := i) (by omega)
    have hic := zclN (i := i) (by omega)
    have e1 := zinc (x := i) (by omega)
    have hic1 := zclN (i := i + 1) (by omega)
    have hicm := zclN (i := i - 1) (by omega)
    refine r_iload X (by rfl) dX12_closest_56 ?_
    refine r_iload_n X (by rfl) dX12_closest_58 ?_
    refine r_icmp_ge X 145 dX12_closest_59 (by decide) (fun h59 => ?_) (fun h59 => ?_)
    · refine r_iload_n X (by rfl) dX12_closest_145 ?_
      refine r_if_ne X 154 dX12_closest_146 (by decide) (fun h146 => ?_) (fun h146 => ?_)
      · refine r_iload X (by rfl) dX12_closest_154 ?_
        refine r_ireturn X hR dX12_closest_156 rfl (Nat.zero_le _) (Nat.zero_le _) ?_
        have hI2 := hI.resolve_left (fun q => by omega)
        clear hI
        obtain ⟨q1, f, q2, q3, q4⟩ := hI2
        have hy0 : (y = 0 → y.toInt = 0) ∧ (¬ y = 0 → y.toInt ≠ 0) := ⟨fun q => by rw [q]; rfl, fun q q2 => q (Int32.toInt_inj.mp (by rw [q2]; rfl))⟩
        exact ⟨_, _, _, rfl, rfl, hf, hM1, Or.inr ⟨⟨hx, hy9⟩, Or.inr ⟨by omega, f, by rw [show (zMk B ι x.toNatClampNeg (ι (B + 43) x.toNatClampNeg).toNatClampNeg).toNat - 1 = i.toNatClampNeg - 1 by omega]; exact q2, Or.inr ⟨by have := hy0.2 h146; omega, q4⟩⟩⟩⟩
      · refine r_iload X (by rfl) dX12_closest_149 ?_
        refine r_goto X 156 dX12_closest_151 (by decide) ?_
        refine r_ireturn X hR dX12_closest_156 rfl (Nat.zero_le _) (Nat.zero_le _) ?_
        have hI2 := hI.resolve_left (fun q => by omega)
        clear hI
        obtain ⟨q1, f, q2, q3, q4⟩ := hI2
        have hy0 : (y = 0 → y.toInt = 0) ∧ (¬ y = 0 → y.toInt ≠ 0) := ⟨fun q => by rw [q]; rfl, fun q q2 => q (Int32.toInt_inj.mp (by rw [q2]; rfl))⟩
        exact ⟨_, _, _, rfl, rfl, hf, hM1, Or.inr ⟨⟨hx, hy9⟩, Or.inr ⟨by omega, f, by rw [show (zMk B ι x.toNatClampNeg (ι (B + 43) x.toNatClampNeg).toNatClampNeg).toNat - 1 = i.toNatClampNeg - 1 by omega]; exact q2, Or.inl ⟨hy0.1 h146, q3⟩⟩⟩⟩
    · refine r_aload_n X (by rfl) dX12_closest_62 ?_
      refine r_iload_n X (by rfl) dX12_closest_63 ?_
      refine r_aload_n X (by rfl) dX12_closest_64 ?_
      refine r_iload_n X (by rfl) dX12_closest_65 ?_
      refine r_iload X (by rfl) dX12_closest_66 ?_
      refine r_callV X dX12_closest_68 zLV_X12_196 zCd_X12_markOf (c_X12_markOf _ G z τ ρ _ _ hL hJ1 _ hx _ (by omega) (by rw [zMt_fq hf]; omega)) (zt hL 38 rfl) ⟨by decide, rfl, rfl⟩ rfl rfl ⟨⟨rfl, rfl⟩, ⟨by decide, by decide⟩, ⟨Nat.le_of_ble_eq_true rfl, Nat.le_of_ble_eq_true rfl⟩, Nat.le_of_ble_eq_true rfl⟩ ?_
      rintro _ _ ⟨r2, rfl, hRr2, r20, r21, rfl⟩
      have hmr2 : r2 = μ (i.toNatClampNeg) := hμ.1 _ _ (zMkR_fq hf (by rw [show ((i.toNatClampNeg : Nat) : Int) = i.toInt by omega]; exact hRr2))
      clear hRr2
      refine r_callV X dX12_closest_71 zLV_X12_182 zCd_X12_placeOf (e2_X12_placeOf _ G z τ ρ _ _ hL hJ1 _ hx _ ⟨r20, r21⟩ hst1 hM1) (zt hL 38 rfl) ⟨by decide, rfl, rfl⟩ rfl rfl ⟨⟨rfl, rfl⟩, ⟨by decide, by decide⟩, ⟨Nat.le_of_ble_eq_true rfl, Nat.le_of_ble_eq_true rfl⟩, Nat.le_of_ble_eq_true rfl⟩ ?_
      rintro _ _ ⟨ι2, κ2, rfl, rfl, hf2, hM2⟩
      rw [zPm_fq hf, hmr2]
      refine r_istore X (by decide) dX12_closest_74 ?_
      refine r_iload X (by rfl) dX12_closest_76 ?_
      refine r_iload X (by rfl) dX12_closest_78 ?_
      refine r_isub X dX12_closest_80 ?_
      refine r_callS X dX12_closest_81 zLS_X12_199 zCd_X12_size (c_X12_size _ G z τ ρ _ _ _) rfl rfl ⟨⟨rfl, rfl⟩, ⟨by decide, by decide⟩, ⟨Nat.le_of_ble_eq_true rfl, Nat.le_of_ble_eq_true rfl⟩, Nat.le_of_ble_eq_true rfl⟩ ?_
      rintro _ _ ⟨rfl, rfl⟩
      change zW _ _ _ _ _ _ _ _ (.int (zAb (zPm B ι x (μ i.toNatClampNeg) - zPm B ι x (μ (i.toNatClampNeg - 1)))) :: _)
      refine r_istore X (by decide) dX12_closest_84 ?_
      refine r_iload X (by rfl) dX12_closest_86 ?_
      refine r_if_lt X 98 dX12_closest_88 (by decide) (fun h88 => ?_) (fun h88 => ?_)
      · refine r_aload_n X (by rfl) dX12_closest_98 ?_
        refine r_iload_n X (by rfl) dX12_closest_99 ?_
        refine r_iload X (by rfl) dX12_closest_100 ?_
        refine r_iconst X 1 (by decide) dX12_closest_102 ?_
        refine r_isub X dX12_closest_103 ?_
        refine r_callV X dX12_closest_104 zLV_X12_196 zCd_X12_markOf (c_X12_markOf _ G z τ ρ _ _ hL (zJ_fq hJ1 hf2) _ hx _ (by omega) (by rw [zMt_fq (hf.tr hf2)]; omega)) (zt hL 38 rfl) ⟨by decide, rfl, rfl⟩ rfl rfl ⟨⟨rfl, rfl⟩, ⟨by decide, by decide⟩, ⟨Nat.le_of_ble_eq_true rfl, Nat.le_of_ble_eq_true rfl⟩, Nat.le_of_ble_eq_true rfl⟩ ?_
        rintro _ _ ⟨r4, rfl, hRr4, r40, r41, rfl⟩
        have hmr4 : r4 = μ (i.toNatClampNeg - 1) := hμ.1 _ _ (zMkR_fq (hf.tr hf2) (by rw [show ((i.toNatClampNeg - 1 : Nat) : Int) = (i - 1).toInt by omega]; exact hRr4))
        clear hRr4
        refine r_goto X 112 dX12_closest_107 (by decide) ?_
        refine r_istore X (by decide) dX12_closest_112 ?_
        refine r_iload X (by rfl) dX12_closest_114 ?_
        refine r_if_lt X 126 dX12_closest_116 (by decide) (fun h116 => ?_) (fun h116 => ?_)
        · refine r_iload X (by rfl) dX12_closest_126 ?_
          refine r_goto X 133 dX12_closest_128 (by decide) ?_
          refine r_istore X (by decide) dX12_closest_133 ?_
          refine r_iload X (by rfl) dX12_closest_135 ?_
          refine r_istore X (by decide) dX12_closest_137 ?_
          refine r_iinc X 1 (by decide) (by rfl) (by decide) dX12_closest_139 ?_
          refine r_goto X 56 dX12_closest_142 (by decide) ?_
          exact zW.loc8 (by rfl) (by rfl) (by rfl) (by rfl) (by rfl) (by rfl) (by rfl) (by rfl) (ih _ _ _ _ _ _ (by omega) (by omega) (by omega) (by rw [show (i + 1).toNatClampNeg - 1 = i.toNatClampNeg by omega]) (hf.tr hf2) hM2 (Or.inr ⟨by omega, by
            have hGi : (zAb (zPm B ι x (μ i.toNatClampNeg) - zPm B ι x (μ (i.toNatClampNeg - 1)))).toInt = (fun k => (zAb (zPm B ι x (μ (k + 1)) - zPm B ι x (μ k))).toInt) (i.toNatClampNeg - 1) := by show _ = (zAb (zPm B ι x (μ (i.toNatClampNeg - 1 + 1)) - zPm B ι x (μ (i.toNatClampNeg - 1)))).toInt; rw [show i.toNatClampNeg - 1 + 1 = i.toNatClampNeg by omega]
            rw [show (i + 1).toNatClampNeg - 1 = i.toNatClampNeg - 1 + 1 by omega]
            rcases hI with ⟨q1, q2⟩ | ⟨q1, f, q2, q3, q4⟩
            · have hl : l.toInt = -1 := by rw [q2]; rfl
              have h00 : i.toNatClampNeg - 1 = 0 := by omega
              first
                | (exfalso; omega)
                | (rw [h00] at hGi hmr4 ⊢; exact ⟨0, zAm_1 _, hmr4, hGi⟩)
            · have gf : (zAb (zPm B ι x (μ (f + 1)) - zPm B ι x (μ f))).toInt = l.toInt := q4.symm
              have gi : (zAb (zPm B ι x (μ (i.toNatClampNeg - 1 + 1)) - zPm B ι x (μ (i.toNatClampNeg - 1)))).toInt = (zAb (zPm B ι x (μ i.toNatClampNeg) - zPm B ι x (μ (i.toNatClampNeg - 1)))).toInt := hGi.symm
              have hg0 : 0 ≤ (zAb (zPm B ι x (μ (f + 1)) - zPm B ι x (μ f))).toInt := hG0 f (by have := q2.1; omega)
              first
                | (have hz : (zAb (zPm B ι x (μ (i.toNatClampNeg - 1 + 1)) - zPm B ι x (μ (i.toNatClampNeg - 1)))).toInt < (zAb (zPm B ι x (μ (f + 1)) - zPm B ι x (μ f))).toInt := by omega
                   exact ⟨i.toNatClampNeg - 1, zAm_lt q2 hz, hmr4, hGi⟩)
                | (have hz : (zAb (zPm B ι x (μ (f + 1)) - zPm B ι x (μ f))).toInt ≤ (zAb (zPm B ι x (μ (i.toNatClampNeg - 1 + 1)) - zPm B ι x (μ (i.toNatClampNeg - 1)))).toInt := by omega
                   exact ⟨f, zAm_ge q2 hz, q3, q4⟩)
                | (exfalso; omega)⟩))
        · refine r_iload X (by rfl) dX12_closest_119 ?_
          refine r_iload X (by rfl) dX12_closest_121 ?_
          refine r_icmp_ge X 131 dX12_closest_123 (by decide) (fun h123 => ?_) (fun h123 => ?_)
          · refine r_iload X (by rfl) dX12_closest_131 ?_
            refine r_istore X (by decide) dX12_closest_133 ?_
            refine r_iload X (by rfl) dX12_closest_135 ?_
            refine r_istore X (by decide) dX12_closest_137 ?_
            refine r_iinc X 1 (by decide) (by rfl) (by decide) dX12_closest_139 ?_
            refine r_goto X 56 dX12_closest_142 (by decide) ?_
            exact zW.loc8 (by rfl) (by rfl) (by rfl) (by rfl) (by rfl) (by rfl) (by rfl) (by rfl) (ih _ _ _ _ _ _ (by omega) (by omega) (by omega) (by rw [show (i + 1).toNatClampNeg - 1 = i.toNatClampNeg by omega]) (hf.tr hf2) hM2 (Or.inr ⟨by omega, by
              have hGi : (zAb (zPm B ι x (μ i.toNatClampNeg) - zPm B ι x (μ (i.toNatClampNeg - 1)))).toInt = (fun k => (zAb (zPm B ι x (μ (k + 1)) - zPm B ι x (μ k))).toInt) (i.toNatClampNeg - 1) := by show _ = (zAb (zPm B ι x (μ (i.toNatClampNeg - 1 + 1)) - zPm B ι x (μ (i.toNatClampNeg - 1)))).toInt; rw [show i.toNatClampNeg - 1 + 1 = i.toNatClampNeg by omega]
              rw [show (i + 1).toNatClampNeg - 1 = i.toNatClampNeg - 1 + 1 by omega]
              rcases hI with ⟨q1, q2⟩ | ⟨q1, f, q2, q3, q4⟩
              · have hl : l.toInt = -1 := by rw [q2]; rfl
                have h00 : i.toNatClampNeg - 1 = 0 := by omega
                first
                  | (exfalso; omega)
                  | (rw [h00] at hGi hmr4 ⊢; exact ⟨0, zAm_1 _, hmr4, hGi⟩)
              · have gf : (zAb (zPm B ι x (μ (f + 1)) - zPm B ι x (μ f))).toInt = l.toInt := q4.symm
                have gi : (zAb (zPm B ι x (μ (i.toNatClampNeg - 1 + 1)) - zPm B ι x (μ (i.toNatClampNeg - 1)))).toInt = (zAb (zPm B ι x (μ i.toNatClampNeg) - zPm B ι x (μ (i.toNatClampNeg - 1)))).toInt := hGi.symm
                have hg0 : 0 ≤ (zAb (zPm B ι x (μ (f + 1)) - zPm B ι x (μ f))).toInt := hG0 f (by have := q2.1; omega)
                first
                  | (have hz : (zAb (zPm B ι x (μ (i.toNatClampNeg - 1 + 1)) - zPm B ι x (μ (i.toNatClampNeg - 1)))).toInt < (zAb (zPm B ι x (μ (f + 1)) - zPm B ι x (μ f))).toInt := by omega
                     exact ⟨i.toNatClampNeg - 1, zAm_lt q2 hz, hmr4, hGi⟩)
                  | (have hz : (zAb (zPm B ι x (μ (f + 1)) - zPm B ι x (μ f))).toInt ≤ (zAb (zPm B ι x (μ (i.toNatClampNeg - 1 + 1)) - zPm B ι x (μ (i.toNatClampNeg - 1)))).toInt := by omega
                     exact ⟨f, zAm_ge q2 hz, q3, q4⟩)
                  | (exfalso; omega)⟩))
          · refine r_iload X (by rfl) dX12_closest_126 ?_
            refine r_goto X 133 dX12_closest_128 (by decide) ?_
            refine r_istore X (by decide) dX12_closest_133 ?_
            refine r_iload X (by rfl) dX12_closest_135 ?_
            refine r_istore X (by decide) dX12_closest_137 ?_
            refine r_iinc X 1 (by decide) (by rfl) (by decide) dX12_closest_139 ?_
            refine r_goto X 56 dX12_closest_142 (by decide) ?_
            exact zW.loc8 (by rfl) (by rfl) (by rfl) (by rfl) (by rfl) (by rfl) (by rfl) (by rfl) (ih _ _ _ _ _ _ (by omega) (by omega) (by omega) (by rw [show (i + 1).toNatClampNeg - 1 = i.toNatClampNeg by omega]) (hf.tr hf2) hM2 (Or.inr ⟨by omega, by
              have hGi : (zAb (zPm B ι x (μ i.toNatClampNeg) - zPm B ι x (μ (i.toNatClampNeg - 1)))).toInt = (fun k => (zAb (zPm B ι x (μ (k + 1)) - zPm B ι x (μ k))).toInt) (i.toNatClampNeg - 1) := by show _ = (zAb (zPm B ι x (μ (i.toNatClampNeg - 1 + 1)) - zPm B ι x (μ (i.toNatClampNeg - 1)))).toInt; rw [show i.toNatClampNeg - 1 + 1 = i.toNatClampNeg by omega]
              rw [show (i + 1).toNatClampNeg - 1 = i.toNatClampNeg - 1 + 1 by omega]
              rcases hI with ⟨q1, q2⟩ | ⟨q1, f, q2, q3, q4⟩
              · have hl : l.toInt = -1 := by rw [q2]; rfl
                have h00 : i.toNatClampNeg - 1 = 0 := by omega
                first
                  | (exfalso; omega)
                  | (rw [h00] at hGi hmr4 ⊢; exact ⟨0, zAm_1 _, hmr4, hGi⟩)
              · have gf : (zAb (zPm B ι x (μ (f + 1)) - zPm B ι x (μ f))).toInt = l.toInt := q4.symm
                have gi : (zAb (zPm B ι x (μ (i.toNatClampNeg - 1 + 1)) - zPm B ι x (μ (i.toNatClampNeg - 1)))).toInt = (zAb (zPm B ι x (μ i.toNatClampNeg) - zPm B ι x (μ (i.toNatClampNeg - 1)))).toInt := hGi.symm
                have hg0 : 0 ≤ (zAb (zPm B ι x (μ (f + 1)) - zPm B ι x (μ f))).toInt := hG0 f (by have := q2.1; omega)
                first
                  | (have hz : (zAb (zPm B ι x (μ (i.toNatClampNeg - 1 + 1)) - zPm B ι x (μ (i.toNatClampNeg - 1)))).toInt < (zAb (zPm B ι x (μ (f + 1)) - zPm B ι x (μ f))).toInt := by omega
                     exact ⟨i.toNatClampNeg - 1, zAm_lt q2 hz, hmr4, hGi⟩)
                  | (have hz : (zAb (zPm B ι x (μ (f + 1)) - zPm B ι x (μ f))).toInt ≤ (zAb (zPm B ι x (μ (i.toNatClampNeg - 1 + 1)) - zPm B ι x (μ (i.toNatClampNeg - 1)))).toInt := by omega
                     exact ⟨f, zAm_ge q2 hz, q3, q4⟩)
                  | (exfalso; omega)⟩))
      · refine r_iload X (by rfl) dX12_closest_91 ?_
        refine r_iload X (by rfl) dX12_closest_93 ?_
        refine r_icmp_ge X 110 dX12_closest_95 (by decide) (fun h95 => ?_) (fun h95 => ?_)
        · refine r_iload X (by rfl) dX12_closest_110 ?_
          refine r_istore X (by decide) dX12_closest_112 ?_
          refine r_iload X (by rfl) dX12_closest_114 ?_
          refine r_if_lt X 126 dX12_closest_116 (by decide) (fun h116 => ?_) (fun h116 => ?_)
          · refine r_iload X (by rfl) dX12_closest_126 ?_
            refine r_goto X 133 dX12_closest_128 (by decide) ?_
            refine r_istore X (by decide) dX12_closest_133 ?_
            refine r_iload X (by rfl) dX12_closest_135 ?_
            refine r_istore X (by decide) dX12_closest_137 ?_
            refine r_iinc X 1 (by decide) (by rfl) (by decide) dX12_closest_139 ?_
            refine r_goto X 56 dX12_closest_142 (by decide) ?_
            exact zW.loc8 (by rfl) (by rfl) (by rfl) (by rfl) (by rfl) (by rfl) (by rfl) (by rfl) (ih _ _ _ _ _ _ (by omega) (by omega) (by omega) (by rw [show (i + 1).toNatClampNeg - 1 = i.toNatClampNeg by omega]) (hf.tr hf2) hM2 (Or.inr ⟨by omega, by
              have hGi : (zAb (zPm B ι x (μ i.toNatClampNeg) - zPm B ι x (μ (i.toNatClampNeg - 1)))).toInt = (fun k => (zAb (zPm B ι x (μ (k + 1)) - zPm B ι x (μ k))).toInt) (i.toNatClampNeg - 1) := by show _ = (zAb (zPm B ι x (μ (i.toNatClampNeg - 1 + 1)) - zPm B ι x (μ (i.toNatClampNeg - 1)))).toInt; rw [show i.toNatClampNeg - 1 + 1 = i.toNatClampNeg by omega]
              rw [show (i + 1).toNatClampNeg - 1 = i.toNatClampNeg - 1 + 1 by omega]
              rcases hI with ⟨q1, q2⟩ | ⟨q1, f, q2, q3, q4⟩
              · have hl : l.toInt = -1 := by rw [q2]; rfl
                have h00 : i.toNatClampNeg - 1 = 0 := by omega
                first
                  | (exfalso; omega)
                  | (rw [h00] at hGi hmr4 ⊢; exact ⟨0, zAm_1 _, hmr4, hGi⟩)
              · have gf : (zAb (zPm B ι x (μ (f + 1)) - zPm B ι x (μ f))).toInt = l.toInt := q4.symm
                have gi : (zAb (zPm B ι x (μ (i.toNatClampNeg - 1 + 1)) - zPm B ι x (μ (i.toNatClampNeg - 1)))).toInt = (zAb (zPm B ι x (μ i.toNatClampNeg) - zPm B ι x (μ (i.toNatClampNeg - 1)))).toInt := hGi.symm
                have hg0 : 0 ≤ (zAb (zPm B ι x (μ (f + 1)) - zPm B ι x (μ f))).toInt := hG0 f (by have := q2.1; omega)
                first
                  | (have hz : (zAb (zPm B ι x (μ (i.toNatClampNeg - 1 + 1)) - zPm B ι x (μ (i.toNatClampNeg - 1)))).toInt < (zAb (zPm B ι x (μ (f + 1)) - zPm B ι x (μ f))).toInt := by omega
                     exact ⟨i.toNatClampNeg - 1, zAm_lt q2 hz, hmr4, hGi⟩)
                  | (have hz : (zAb (zPm B ι x (μ (f + 1)) - zPm B ι x (μ f))).toInt ≤ (zAb (zPm B ι x (μ (i.toNatClampNeg - 1 + 1)) - zPm B ι x (μ (i.toNatClampNeg - 1)))).toInt := by omega
                     exact ⟨f, zAm_ge q2 hz, q3, q4⟩)
                  | (exfalso; omega)⟩))
          · refine r_iload X (by rfl) dX12_closest_119 ?_
            refine r_iload X (by rfl) dX12_closest_121 ?_
            refine r_icmp_ge X 131 dX12_closest_123 (by decide) (fun h123 => ?_) (fun h123 => ?_)
            · refine r_iload X (by rfl) dX12_closest_131 ?_
              refine r_istore X (by decide) dX12_closest_133 ?_
              refine r_iload X (by rfl) dX12_closest_135 ?_
              refine r_istore X (by decide) dX12_closest_137 ?_
              refine r_iinc X 1 (by decide) (by rfl) (by decide) dX12_closest_139 ?_
              refine r_goto X 56 dX12_closest_142 (by decide) ?_
              exact zW.loc8 (by rfl) (by rfl) (by rfl) (by rfl) (by rfl) (by rfl) (by rfl) (by rfl) (ih _ _ _ _ _ _ (by omega) (by omega) (by omega) (by rw [show (i + 1).toNatClampNeg - 1 = i.toNatClampNeg by omega]) (hf.tr hf2) hM2 (Or.inr ⟨by omega, by
                have hGi : (zAb (zPm B ι x (μ i.toNatClampNeg) - zPm B ι x (μ (i.toNatClampNeg - 1)))).toInt = (fun k => (zAb (zPm B ι x (μ (k + 1)) - zPm B ι x (μ k))).toInt) (i.toNatClampNeg - 1) := by show _ = (zAb (zPm B ι x (μ (i.toNatClampNeg - 1 + 1)) - zPm B ι x (μ (i.toNatClampNeg - 1)))).toInt; rw [show i.toNatClampNeg - 1 + 1 = i.toNatClampNeg by omega]
                rw [show (i + 1).toNatClampNeg - 1 = i.toNatClampNeg - 1 + 1 by omega]
                rcases hI with ⟨q1, q2⟩ | ⟨q1, f, q2, q3, q4⟩
                · have hl : l.toInt = -1 := by rw [q2]; rfl
                  have h00 : i.toNatClampNeg - 1 = 0 := by omega
                  first
                    | (exfalso; omega)
                    | (rw [h00] at hGi hmr4 ⊢; exact ⟨0, zAm_1 _, hmr4, hGi⟩)
                · have gf : (zAb (zPm B ι x (μ (f + 1)) - zPm B ι x (μ f))).toInt = l.toInt := q4.symm
                  have gi : (zAb (zPm B ι x (μ (i.toNatClampNeg - 1 + 1)) - zPm B ι x (μ (i.toNatClampNeg - 1)))).toInt = (zAb (zPm B ι x (μ i.toNatClampNeg) - zPm B ι x (μ (i.toNatClampNeg - 1)))).toInt := hGi.symm
                  have hg0 : 0 ≤ (zAb (zPm B ι x (μ (f + 1)) - zPm B ι x (μ f))).toInt := hG0 f (by have := q2.1; omega)
                  first
                    | (have hz : (zAb (zPm B ι x (μ (i.toNatClampNeg - 1 + 1)) - zPm B ι x (μ (i.toNatClampNeg - 1)))).toInt < (zAb (zPm B ι x (μ (f + 1)) - zPm B ι x (μ f))).toInt := by omega
                       exact ⟨i.toNatClampNeg - 1, zAm_lt q2 hz, hmr4, hGi⟩)
                    | (have hz : (zAb (zPm B ι x (μ (f + 1)) - zPm B ι x (μ f))).toInt ≤ (zAb (zPm B ι x (μ (i.toNatClampNeg - 1 + 1)) - zPm B ι x (μ (i.toNatClampNeg - 1)))).toInt := by omega
                       exact ⟨f, zAm_ge q2 hz, q3, q4⟩)
                    | (exfalso; omega)⟩))
            · refine r_iload X (by rfl) dX12_closest_126 ?_
              refine r_goto X 133 dX12_closest_128 (by decide) ?_
              refine r_istore X (by decide) dX12_closest_133 ?_
              refine r_iload X (by rfl) dX12_closest_135 ?_
              refine r_istore X (by decide) dX12_closest_137 ?_
              refine r_iinc X 1 (by decide) (by rfl) (by decide) dX12_closest_139 ?_
              refine r_goto X 56 dX12_closest_142 (by decide) ?_
              exact zW.loc8 (by rfl) (by rfl) (by rfl) (by rfl) (by rfl) (by rfl) (by rfl) (by rfl) (ih _ _ _ _ _ _ (by omega) (by omega) (by omega) (by rw [show (i + 1).toNatClampNeg - 1 = i.toNatClampNeg by omega]) (hf.tr hf2) hM2 (Or.inr ⟨by omega, by
                have hGi : (zAb (zPm B ι x (μ i.toNatClampNeg) - zPm B ι x (μ (i.toNatClampNeg - 1)))).toInt = (fun k => (zAb (zPm B ι x (μ (k + 1)) - zPm B ι x (μ k))).toInt) (i.toNatClampNeg - 1) := by show _ = (zAb (zPm B ι x (μ (i.toNatClampNeg - 1 + 1)) - zPm B ι x (μ (i.toNatClampNeg - 1)))).toInt; rw [show i.toNatClampNeg - 1 + 1 = i.toNatClampNeg by omega]
                rw [show (i + 1).toNatClampNeg - 1 = i.toNatClampNeg - 1 + 1 by omega]
                rcases hI with ⟨q1, q2⟩ | ⟨q1, f, q2, q3, q4⟩
                · have hl : l.toInt = -1 := by rw [q2]; rfl
                  have h00 : i.toNatClampNeg - 1 = 0 := by omega
                  first
                    | (exfalso; omega)
                    | (rw [h00] at hGi hmr4 ⊢; exact ⟨0, zAm_1 _, hmr4, hGi⟩)
                · have gf : (zAb (zPm B ι x (μ (f + 1)) - zPm B ι x (μ f))).toInt = l.toInt := q4.symm
                  have gi : (zAb (zPm B ι x (μ (i.toNatClampNeg - 1 + 1)) - zPm B ι x (μ (i.toNatClampNeg - 1)))).toInt = (zAb (zPm B ι x (μ i.toNatClampNeg) - zPm B ι x (μ (i.toNatClampNeg - 1)))).toInt := hGi.symm
                  have hg0 : 0 ≤ (zAb (zPm B ι x (μ (f + 1)) - zPm B ι x (μ f))).toInt := hG0 f (by have := q2.1; omega)
                  first
                    | (have hz : (zAb (zPm B ι x (μ (i.toNatClampNeg - 1 + 1)) - zPm B ι x (μ (i.toNatClampNeg - 1)))).toInt < (zAb (zPm B ι x (μ (f + 1)) - zPm B ι x (μ f))).toInt := by omega
                       exact ⟨i.toNatClampNeg - 1, zAm_lt q2 hz, hmr4, hGi⟩)
                    | (have hz : (zAb (zPm B ι x (μ (f + 1)) - zPm B ι x (μ f))).toInt ≤ (zAb (zPm B ι x (μ (i.toNatClampNeg - 1 + 1)) - zPm B ι x (μ (i.toNatClampNeg - 1)))).toInt := by omega
                       exact ⟨f, zAm_ge q2 hz, q3, q4⟩)
                    | (exfalso; omega)⟩))
        · refine r_aload_n X (by rfl) dX12_closest_98 ?_
          refine r_iload_n X (by rfl) dX12_closest_99 ?_
          refine r_iload X (by rfl) dX12_closest_100 ?_
          refine r_iconst X 1 (by decide) dX12_closest_102 ?_
          refine r_isub X dX12_closest_103 ?_
          refine r_callV X dX12_closest_104 zLV_X12_196 zCd_X12_markOf (c_X12_markOf _ G z τ ρ _ _ hL (zJ_fq hJ1 hf2) _ hx _ (by omega) (by rw [zMt_fq (hf.tr hf2)]; omega)) (zt hL 38 rfl) ⟨by decide, rfl, rfl⟩ rfl rfl ⟨⟨rfl, rfl⟩, ⟨by decide, by decide⟩, ⟨Nat.le_of_ble_eq_true rfl, Nat.le_of_ble_eq_true rfl⟩, Nat.le_of_ble_eq_true rfl⟩ ?_
          rintro _ _ ⟨r4, rfl, hRr4, r40, r41, rfl⟩
          have hmr4 : r4 = μ (i.toNatClampNeg - 1) := hμ.1 _ _ (zMkR_fq (hf.tr hf2) (by rw [show ((i.toNatClampNeg - 1 : Nat) : Int) = (i - 1).toInt by omega]; exact hRr4))
          clear hRr4
          refine r_goto X 112 dX12_closest_107 (by decide) ?_
          refine r_istore X (by decide) dX12_closest_112 ?_
          refine r_iload X (by rfl) dX12_closest_114 ?_
          refine r_if_lt X 126 dX12_closest_116 (by decide) (fun h116 => ?_) (fun h116 => ?_)
          · refine r_iload X (by rfl) dX12_closest_126 ?_
            refine r_goto X 133 dX12_closest_128 (by decide) ?_
            refine r_istore X (by decide) dX12_closest_133 ?_
            refine r_iload X (by rfl) dX12_closest_135 ?_
            refine r_istore X (by decide) dX12_closest_137 ?_
            refine r_iinc X 1 (by decide) (by rfl) (by decide) dX12_closest_139 ?_
            refine r_goto X 56 dX12_closest_142 (by decide) ?_
            exact zW.loc8 (by rfl) (by rfl) (by rfl) (by rfl) (by rfl) (by rfl) (by rfl) (by rfl) (ih _ _ _ _ _ _ (by omega) (by omega) (by omega) (by rw [show (i + 1).toNatClampNeg - 1 = i.toNatClampNeg by omega]) (hf.tr hf2) hM2 (Or.inr ⟨by omega, by
              have hGi : (zAb (zPm B ι x (μ i.toNatClampNeg) - zPm B ι x (μ (i.toNatClampNeg - 1)))).toInt = (fun k => (zAb (zPm B ι x (μ (k + 1)) - zPm B ι x (μ k))).toInt) (i.toNatClampNeg - 1) := by show _ = (zAb (zPm B ι x (μ (i.toNatClampNeg - 1 + 1)) - zPm B ι x (μ (i.toNatClampNeg - 1)))).toInt; rw [show i.toNatClampNeg - 1 + 1 = i.toNatClampNeg by omega]
              rw [show (i + 1).toNatClampNeg - 1 = i.toNatClampNeg - 1 + 1 by omega]
              rcases hI with ⟨q1, q2⟩ | ⟨q1, f, q2, q3, q4⟩
              · have hl : l.toInt = -1 := by rw [q2]; rfl
                have h00 : i.toNatClampNeg - 1 = 0 := by omega
                first
                  | (exfalso; omega)
                  | (rw [h00] at hGi hmr4 ⊢; exact ⟨0, zAm_1 _, hmr4, hGi⟩)
              · have gf : (zAb (zPm B ι x (μ (f + 1)) - zPm B ι x (μ f))).toInt = l.toInt := q4.symm
                have gi : (zAb (zPm B ι x (μ (i.toNatClampNeg - 1 + 1)) - zPm B ι x (μ (i.toNatClampNeg - 1)))).toInt = (zAb (zPm B ι x (μ i.toNatClampNeg) - zPm B ι x (μ (i.toNatClampNeg - 1)))).toInt := hGi.symm
                have hg0 : 0 ≤ (zAb (zPm B ι x (μ (f + 1)) - zPm B ι x (μ f))).toInt := hG0 f (by have := q2.1; omega)
                first
                  | (have hz : (zAb (zPm B ι x (μ (i.toNatClampNeg - 1 + 1)) - zPm B ι x (μ (i.toNatClampNeg - 1)))).toInt < (zAb (zPm B ι x (μ (f + 1)) - zPm B ι x (μ f))).toInt := by omega
                     exact ⟨i.toNatClampNeg - 1, zAm_lt q2 hz, hmr4, hGi⟩)
                  | (have hz : (zAb (zPm B ι x (μ (f + 1)) - zPm B ι x (μ f))).toInt ≤ (zAb (zPm B ι x (μ (i.toNatClampNeg - 1 + 1)) - zPm B ι x (μ (i.toNatClampNeg - 1)))).toInt := by omega
                     exact ⟨f, zAm_ge q2 hz, q3, q4⟩)
                  | (exfalso; omega)⟩))
          · refine r_iload X (by rfl) dX12_closest_119 ?_
            refine r_iload X (by rfl) dX12_closest_121 ?_
            refine r_icmp_ge X 131 dX12_closest_123 (by decide) (fun h123 => ?_) (fun h123 => ?_)
            · refine r_iload X (by rfl) dX12_closest_131 ?_
              refine r_istore X (by decide) dX12_closest_133 ?_
              refine r_iload X (by rfl) dX12_closest_135 ?_
              refine r_istore X (by decide) dX12_closest_137 ?_
              refine r_iinc X 1 (by decide) (by rfl) (by decide) dX12_closest_139 ?_
              refine r_goto X 56 dX12_closest_142 (by decide) ?_
              exact zW.loc8 (by rfl) (by rfl) (by rfl) (by rfl) (by rfl) (by rfl) (by rfl) (by rfl) (ih _ _ _ _ _ _ (by omega) (by omega) (by omega) (by rw [show (i + 1).toNatClampNeg - 1 = i.toNatClampNeg by omega]) (hf.tr hf2) hM2 (Or.inr ⟨by omega, by
                have hGi : (zAb (zPm B ι x (μ i.toNatClampNeg) - zPm B ι x (μ (i.toNatClampNeg - 1)))).toInt = (fun k => (zAb (zPm B ι x (μ (k + 1)) - zPm B ι x (μ k))).toInt) (i.toNatClampNeg - 1) := by show _ = (zAb (zPm B ι x (μ (i.toNatClampNeg - 1 + 1)) - zPm B ι x (μ (i.toNatClampNeg - 1)))).toInt; rw [show i.toNatClampNeg - 1 + 1 = i.toNatClampNeg by omega]
                rw [show (i + 1).toNatClampNeg - 1 = i.toNatClampNeg - 1 + 1 by omega]
                rcases hI with ⟨q1, q2⟩ | ⟨q1, f, q2, q3, q4⟩
                · have hl : l.toInt = -1 := by rw [q2]; rfl
                  have h00 : i.toNatClampNeg - 1 = 0 := by omega
                  first
                    | (exfalso; omega)
                    | (rw [h00] at hGi hmr4 ⊢; exact ⟨0, zAm_1 _, hmr4, hGi⟩)
                · have gf : (zAb (zPm B ι x (μ (f + 1)) - zPm B ι x (μ f))).toInt = l.toInt := q4.symm
                  have gi : (zAb (zPm B ι x (μ (i.toNatClampNeg - 1 + 1)) - zPm B ι x (μ (i.toNatClampNeg - 1)))).toInt = (zAb (zPm B ι x (μ i.toNatClampNeg) - zPm B ι x (μ (i.toNatClampNeg - 1)))).toInt := hGi.symm
                  have hg0 : 0 ≤ (zAb (zPm B ι x (μ (f + 1)) - zPm B ι x (μ f))).toInt := hG0 f (by have := q2.1; omega)
                  first
                    | (have hz : (zAb (zPm B ι x (μ (i.toNatClampNeg - 1 + 1)) - zPm B ι x (μ (i.toNatClampNeg - 1)))).toInt < (zAb (zPm B ι x (μ (f + 1)) - zPm B ι x (μ f))).toInt := by omega
                       exact ⟨i.toNatClampNeg - 1, zAm_lt q2 hz, hmr4, hGi⟩)
                    | (have hz : (zAb (zPm B ι x (μ (f + 1)) - zPm B ι x (μ f))).toInt ≤ (zAb (zPm B ι x (μ (i.toNatClampNeg - 1 + 1)) - zPm B ι x (μ (i.toNatClampNeg - 1)))).toInt := by omega
                       exact ⟨f, zAm_ge q2 hz, q3, q4⟩)
                    | (exfalso; omega)⟩))
            · refine r_iload X (by rfl) dX12_closest_126 ?_
              refine r_goto X 133 dX12_closest_128 (by decide) ?_
              refine r_istore X (by decide) dX12_closest_133 ?_
              refine r_iload X (by rfl) dX12_closest_135 ?_
              refine r_istore X (by decide) dX12_closest_137 ?_
              refine r_iinc X 1 (by decide) (by rfl) (by decide) dX12_closest_139 ?_
              refine r_goto X 56 dX12_closest_142 (by decide) ?_
              exact zW.loc8 (by rfl) (by rfl) (by rfl) (by rfl) (by rfl) (by rfl) (by rfl) (by rfl) (ih _ _ _ _ _ _ (by omega) (by omega) (by omega) (by rw [show (i + 1).toNatClampNeg - 1 = i.toNatClampNeg by omega]) (hf.tr hf2) hM2 (Or.inr ⟨by omega, by
                have hGi : (zAb (zPm B ι x (μ i.toNatClampNeg) - zPm B ι x (μ (i.toNatClampNeg - 1)))).toInt = (fun k => (zAb (zPm B ι x (μ (k + 1)) - zPm B ι x (μ k))).toInt) (i.toNatClampNeg - 1) := by show _ = (zAb (zPm B ι x (μ (i.toNatClampNeg - 1 + 1)) - zPm B ι x (μ (i.toNatClampNeg - 1)))).toInt; rw [show i.toNatClampNeg - 1 + 1 = i.toNatClampNeg by omega]
                rw [show (i + 1).toNatClampNeg - 1 = i.toNatClampNeg - 1 + 1 by omega]
                rcases hI with ⟨q1, q2⟩ | ⟨q1, f, q2, q3, q4⟩
                · have hl : l.toInt = -1 := by rw [q2]; rfl
                  have h00 : i.toNatClampNeg - 1 = 0 := by omega
                  first
                    | (exfalso; omega)
                    | (rw [h00] at hGi hmr4 ⊢; exact ⟨0, zAm_1 _, hmr4, hGi⟩)
                · have gf : (zAb (zPm B ι x (μ (f + 1)) - zPm B ι x (μ f))).toInt = l.toInt := q4.symm
                  have gi : (zAb (zPm B ι x (μ (i.toNatClampNeg - 1 + 1)) - zPm B ι x (μ (i.toNatClampNeg - 1)))).toInt = (zAb (zPm B ι x (μ i.toNatClampNeg) - zPm B ι x (μ (i.toNatClampNeg - 1)))).toInt := hGi.symm
                  have hg0 : 0 ≤ (zAb (zPm B ι x (μ (f + 1)) - zPm B ι x (μ f))).toInt := hG0 f (by have := q2.1; omega)
                  first
                    | (have hz : (zAb (zPm B ι x (μ (i.toNatClampNeg - 1 + 1)) - zPm B ι x (μ (i.toNatClampNeg - 1)))).toInt < (zAb (zPm B ι x (μ (f + 1)) - zPm B ι x (μ f))).toInt := by omega
                       exact ⟨i.toNatClampNeg - 1, zAm_lt q2 hz, hmr4, hGi⟩)
                    | (have hz : (zAb (zPm B ι x (μ (f + 1)) - zPm B ι x (μ f))).toInt ≤ (zAb (zPm B ι x (μ (i.toNatClampNeg - 1 + 1)) - zPm B ι x (μ (i.toNatClampNeg - 1)))).toInt := by omega
                       exact ⟨f, zAm_ge q2 hz, q3, q4⟩)
                    | (exfalso; omega)⟩))
  refine r_aload_n X (by rfl) dX12_closest_0 ?_
  refine r_iload_n X (by rfl) dX12_closest_1 ?_
  refine r_callV X dX12_closest_2 zLV_X12_175 zCd_X12_isScale (c_X12_isScale _ G z τ ρ _ _ hL hJ _) (zt hL 38 rfl) ⟨by decide, rfl, rfl⟩ rfl rfl ⟨⟨rfl, rfl⟩, ⟨by decide, by decide⟩, ⟨Nat.le_of_ble_eq_true rfl, Nat.le_of_ble_eq_true rfl⟩, Nat.le_of_ble_eq_true rfl⟩ ?_
  rintro _ _ ⟨rfl, rfl⟩
  refine r_if_eq X 18 dX12_closest_5 (by decide) (fun h5 => ?_) (fun h5 => ?_)
  · refine r_bipush X (-2) (by decide) dX12_closest_18 ?_
    refine r_ireturn X hR dX12_closest_20 rfl (Nat.zero_le _) (Nat.zero_le _) ?_
    exact ⟨_, _, _, rfl, rfl, zFq.rfl, hM, Or.inl ⟨fun q => by first | exact zif0 h5 q.1 | exact zif0 h15 q.2, rfl⟩⟩
  · refine r_iload_n X (by rfl) dX12_closest_8 ?_
    refine r_i2l X dX12_closest_9 ?_
    refine r_lconst X 0 (by decide) dX12_closest_10 ?_
    refine r_lconst X 1 (by decide) dX12_closest_11 ?_
    refine r_callS X dX12_closest_12 zLS_X12_163 zCd_X12_in (c_X12_in _ G z τ ρ _ _ _ _ _) rfl rfl ⟨⟨rfl, rfl⟩, ⟨by decide, by decide⟩, ⟨Nat.le_of_ble_eq_true rfl, Nat.le_of_ble_eq_true rfl⟩, Nat.le_of_ble_eq_true rfl⟩ ?_
    rintro _ _ ⟨rfl, rfl⟩
    rw [Int32.toInt_toInt64, show Int64.toInt 0 = 0 from rfl, show Int64.toInt 1 = 1 from rfl]
    refine r_if_ne X 21 dX12_closest_15 (by decide) (fun h15 => ?_) (fun h15 => ?_)
    · have hx := zif1 h5
      refine r_aload_n X (by rfl) dX12_closest_21 ?_
      refine r_iload_n X (by rfl) dX12_closest_22 ?_
      refine r_callV X dX12_closest_23 zLV_X12_193 zCd_X12_marksOf (c_X12_marksOf _ G z τ ρ _ _ hL hJ _ hx) (zt hL 38 rfl) ⟨by decide, rfl, rfl⟩ rfl rfl ⟨⟨rfl, rfl⟩, ⟨by decide, by decide⟩, ⟨Nat.le_of_ble_eq_true rfl, Nat.le_of_ble_eq_true rfl⟩, Nat.le_of_ble_eq_true rfl⟩ ?_
      rintro _ _ ⟨r, rfl, hr, hr0, hr1, rfl⟩
      refine r_istore_n X (by decide) dX12_closest_26 ?_
      refine r_iload_n X (by rfl) dX12_closest_27 ?_
      refine r_iconst X 2 (by decide) dX12_closest_28 ?_
      refine r_icmp_ge X 34 dX12_closest_29 (by decide) (fun h29 => ?_) (fun h29 => ?_)
      · rw [show Int32.toInt 2 = 2 from rfl] at h29
        refine r_iconst X 0 (by decide) dX12_closest_34 ?_
        refine r_istore X (by decide) dX12_closest_35 ?_
        refine r_iconst X (-1) (by decide) dX12_closest_37 ?_
        refine r_istore X (by decide) dX12_closest_38 ?_
        refine r_aload_n X (by rfl) dX12_closest_40 ?_
        refine r_iload_n X (by rfl) dX12_closest_41 ?_
        refine r_aload_n X (by rfl) dX12_closest_42 ?_
        refine r_iload_n X (by rfl) dX12_closest_43 ?_
        refine r_iconst X 0 (by decide) dX12_closest_44 ?_
        refine r_callV X dX12_closest_45 zLV_X12_196 zCd_X12_markOf (c_X12_markOf _ G z τ ρ _ _ hL hJ _ hx _ (by decide) (by rw [show Int32.toInt 0 = 0 from rfl]; omega)) (zt hL 38 rfl) ⟨by decide, rfl, rfl⟩ rfl rfl ⟨⟨rfl, rfl⟩, ⟨by decide, by decide⟩, ⟨Nat.le_of_ble_eq_true rfl, Nat.le_of_ble_eq_true rfl⟩, Nat.le_of_ble_eq_true rfl⟩ ?_
        rintro _ _ ⟨r2, rfl, hRr2, r20, r21, rfl⟩
        have hmr2 : r2 = μ 0 := hμ.1 _ _ hRr2
        clear hRr2
        refine r_callV X dX12_closest_48 zLV_X12_182 zCd_X12_placeOf (e2_X12_placeOf _ G z τ ρ _ _ hL hJ _ hx _ ⟨r20, r21⟩ hst hM) (zt hL 38 rfl) ⟨by decide, rfl, rfl⟩ rfl rfl ⟨⟨rfl, rfl⟩, ⟨by decide, by decide⟩, ⟨Nat.le_of_ble_eq_true rfl, Nat.le_of_ble_eq_true rfl⟩, Nat.le_of_ble_eq_true rfl⟩ ?_
        rintro _ _ ⟨ι2, κ2, rfl, rfl, hf2, hM2⟩
        rw [zPm_fq zFq.rfl, hmr2]
        refine r_istore X (by decide) dX12_closest_51 ?_
        refine r_iconst X 1 (by decide) dX12_closest_53 ?_
        refine r_istore X (by decide) dX12_closest_54 ?_
        exact zW.loc8 (by rfl) (by rfl) (by rfl) (by rfl) (by rfl) (by rfl) (by rfl) (by rfl) (L56 hx (zif1 h15) _ hr hr1 (by omega) 400001 _ _ _ _ _ _ (by decide) (by decide) (by rw [show Int32.toInt 1 = 1 from rfl]; omega) (by rfl) hf2 hM2 (by exact Or.inl ⟨rfl, rfl⟩))
      · rw [show Int32.toInt 2 = 2 from rfl] at h29
        refine r_iconst X (-1) (by decide) dX12_closest_32 ?_
        refine r_ireturn X hR dX12_closest_33 rfl (Nat.zero_le _) (Nat.zero_le _) ?_
        exact ⟨_, _, _, rfl, rfl, zFq.rfl, hM, Or.inr ⟨⟨hx, zif1 h15⟩, Or.inl ⟨by omega, rfl⟩⟩⟩
    · refine r_bipush X (-2) (by decide) dX12_closest_18 ?_
      refine r_ireturn X hR dX12_closest_20 rfl (Nat.zero_le _) (Nat.zero_le _) ?_
      exact ⟨_, _, _, rfl, rfl, zFq.rfl, hM, Or.inl ⟨fun q => by first | exact zif0 h5 q.1 | exact zif0 h15 q.2, rfl⟩⟩
set_option maxHeartbeats 4000000 in
set_option maxRecDepth 100000 in
theorem e2_X12_nearest (l : Launch) (G : zG) (z : Nat) (τ : Nat → Option (Nat × Nat)) (ρ : Nat → Nat → Option Nat) (ι : Nat → Nat → Int32) (κ : Nat → Nat → Int64) {B c : Nat} (hL : zLay τ ρ B c) (hJ : zJ B c ι) (hst : 100 ≤ (ι (B + 38) 0).toInt ∧ (ι (B + 38) 0).toInt ≤ 50000) (hM : zPsM B c ι) (x y : Int32) (μ : Nat → Int32) (hμ : zMu B ι x.toNatClampNeg μ) : zM l G yX12_nearest cX12_nearest 7 (some .int) ({ frames := 5, cells := 0, slots := 0, locals := 143 } : Room) [.ref (B + 38), .int x, .int y] (z, τ, ρ, ι, κ) (fun v s => ∃ r ι2 κ2, v = some (.int r) ∧ s = (z, τ, ρ, ι2, κ2) ∧ zFq B ι ι2 ∧ zPsM B c ι2 ∧ ((¬ ((0 ≤ x.toInt ∧ x.toInt < (c : Int)) ∧ -1000000 ≤ y.toInt ∧ y.toInt ≤ 1000000) ∧ r = -2) ∨ (((0 ≤ x.toInt ∧ x.toInt < (c : Int)) ∧ -1000000 ≤ y.toInt ∧ y.toInt ≤ 1000000) ∧ ((zMk B ι x.toNatClampNeg (ι (B + 43) x.toNatClampNeg).toNatClampNeg ≤ 0 ∧ r = -1) ∨ (0 < zMk B ι x.toNatClampNeg (ι (B + 43) x.toNatClampNeg).toNatClampNeg ∧ ∃ f : Nat, zAm (fun k => (zAb (zPm B ι x (μ k) - y)).toInt) (zMk B ι x.toNatClampNeg (ι (B + 43) x.toNatClampNeg).toNatClampNeg).toNat f ∧ r = μ f))))) 0 0 := by
  refine zM_of zCd_X12_nearest (Nat.le_of_ble_eq_true rfl) ?_
  intro E X hR hE
  subst hE
  show zW E G 7 (z, τ, ρ, ι, κ) 0 0 0 [(0, .ref (B + 38)), (1, .int x), (2, .int y)] []
  have L26 : ∀ (hx : (0 ≤ x.toInt ∧ x.toInt < (c : Int))) (hy9 : -1000000 ≤ y.toInt ∧ y.toInt ≤ 1000000), ∀ (m : Nat) (i b l : Int32) (ι1 : Nat → Nat → Int32) (κ1 : Nat → Nat → Int64), (400000 - i.toInt).toNat < m → 0 ≤ i.toInt → i.toInt ≤ zMk B ι x.toNatClampNeg (ι (B + 43) x.toNatClampNeg).toNatClampNeg → zFq B ι ι1 → zPsM B c ι1 → ((i.toInt = 0 ∧ b = -1 ∧ l = -1) ∨ (1 ≤ i.toInt ∧ ∃ f : Nat, zAm (fun k => (zAb (zPm B ι x (μ k) - y)).toInt) i.toNatClampNeg f ∧ b = μ f ∧ l.toInt = (fun k => (zAb (zPm B ι x (μ k) - y)).toInt) f)) → zW E G 7 (z, τ, ρ, ι1, κ1) 0 0 26 [(0, .ref (B + 38)), (1, .int x), (2, .int y), (3, .int b), (4, .int l), (5, .int i)] [] := by
    intro hx hy9 m
    have hpb : ∀ k : Nat, (k : Int) < zMk B ι x.toNatClampNeg (ι (B + 43) x.toNatClampNeg).toNatClampNeg → -1000000 ≤ (zPm B ι x (μ k)).toInt ∧ (zPm B ι x (μ k)).toInt ≤ 1000000 := fun k hk => by have := zPm_b hJ hx (hμ.2 k hk) hst; omega
    have hG0 : ∀ k : Nat, (k : Int) < zMk B ι x.toNatClampNeg (ι (B + 43) x.toNatClampNeg).toNatClampNeg → 0 ≤ (fun k => (zAb (zPm B ι x (μ k) - y)).toInt) k := fun k hk => zAbd (hpb k hk) hy9
    induction m with
    | zero => intro i b l ι1 κ1 h; omega
    | succ m ih => ?_
    intro i b l ι1 κ1 hm h0 hile hf hM1 hI
    have hJ1 := zJ_fq hJ hf
    have hst1 : 100 ≤ (ι1 (B + 38) 0).toInt ∧ (ι1 (B + 38) 0).toInt ≤ 50000 := by rw [hf (B + 38) 0 (by unfold zCq; omega)]; exact hst
    have hic := zclN h0
    refine r_iload X (by rfl) dX12_nearest_26 ?_
    refine r_aload_n X (by rfl) dX12_nearest_28 ?_
    refine r_iload_n X (by rfl) dX12_nearest_29 ?_
    refine r_callV X dX12_nearest_30 zLV_X12_193 zCd_X12_marksOf (c_X12_marksOf _ G z τ ρ _ _ hL hJ1 _ hx) (zt hL 38 rfl) ⟨by decide, rfl, rfl⟩ rfl rfl ⟨⟨rfl, rfl⟩, ⟨by decide, by decide⟩, ⟨Nat.le_of_ble_eq_true rfl, Nat.le_of_ble_eq_true rfl⟩, Nat.le_of_ble_eq_true rfl⟩ ?_
    rintro _ _ ⟨r, rfl, hr, hr0, hr1, rfl⟩
    rw [zMt_fq hf] at hr
    have e1 := zinc (x := i) (by omega)
    have hic1 := zclN (i := i + 1) (by omega)
    refine r_icmp_ge X 106 dX12_nearest_33 (by decide) (fun h33 => ?_) (fun h33 => ?_)
    · refine r_iload_n X (by rfl) dX12_nearest_106 ?_
      refine r_ireturn X hR dX12_nearest_107 rfl (Nat.zero_le _) (Nat.zero_le _) ?_
      refine ⟨_, _, _, rfl, rfl, hf, hM1, Or.inr ⟨⟨hx, hy9⟩, ?_⟩⟩
      rcases hI with ⟨q1, q2, -⟩ | ⟨q1, f, q2, q3, -⟩
      · exact Or.inl ⟨by omega, q2⟩
      · exact Or.inr ⟨by omega, f, by rw [show (zMk B ι x.toNatClampNeg (ι (B + 43) x.toNatClampNeg).toNatClampNeg).toNat = i.toNatClampNeg by omega]; exact q2, q3⟩
    · refine r_aload_n X (by rfl) dX12_nearest_36 ?_
      refine r_iload_n X (by rfl) dX12_nearest_37 ?_
      refine r_aload_n X (by rfl) dX12_nearest_38 ?_
      refine r_iload_n X (by rfl) dX12_nearest_39 ?_
      refine r_iload X (by rfl) dX12_nearest_40 ?_
      refine r_callV X dX12_nearest_42 zLV_X12_196 zCd_X12_markOf (c_X12_markOf _ G z τ ρ _ _ hL hJ1 _ hx _ (by omega) (by rw [zMt_fq hf]; omega)) (zt hL 38 rfl) ⟨by decide, rfl, rfl⟩ rfl rfl ⟨⟨rfl, rfl⟩, ⟨by decide, by decide⟩, ⟨Nat.le_of_ble_eq_true rfl, Nat.le_of_ble_eq_true rfl⟩, Nat.le_of_ble_eq_true rfl⟩ ?_
      rintro _ _ ⟨r2, rfl, hRr2, r20, r21, rfl⟩
      have hmr2 : r2 = μ (i.toNatClampNeg) := hμ.1 _ _ (zMkR_fq hf (by rw [show ((i.toNatClampNeg : Nat) : Int) = i.toInt by omega]; exact hRr2))
      clear hRr2
      refine r_callV X dX12_nearest_45 zLV_X12_182 zCd_X12_placeOf (e2_X12_placeOf _ G z τ ρ _ _ hL hJ1 _ hx _ ⟨r20, r21⟩ hst1 hM1) (zt hL 38 rfl) ⟨by decide, rfl, rfl⟩ rfl rfl ⟨⟨rfl, rfl⟩, ⟨by decide, by decide⟩, ⟨Nat.le_of_ble_eq_true rfl, Nat.le_of_ble_eq_true rfl⟩, Nat.le_of_ble_eq_true rfl⟩ ?_
      rintro _ _ ⟨ι2, κ2, rfl, rfl, hf2, hM2⟩
      rw [zPm_fq hf, hmr2]
      refine r_iload_n X (by rfl) dX12_nearest_48 ?_
      refine r_isub X dX12_nearest_49 ?_
      refine r_callS X dX12_nearest_50 zLS_X12_199 zCd_X12_size (c_X12_size _ G z τ ρ _ _ _) rfl rfl ⟨⟨rfl, rfl⟩, ⟨by decide, by decide⟩, ⟨Nat.le_of_ble_eq_true rfl, Nat.le_of_ble_eq_true rfl⟩, Nat.le_of_ble_eq_true rfl⟩ ?_
      rintro _ _ ⟨rfl, rfl⟩
      change zW _ _ _ _ _ _ _ _ (.int (zAb (zPm B ι x (μ i.toNatClampNeg) - y)) :: _)
      refine r_istore X (by decide) dX12_nearest_53 ?_
      refine r_iload X (by rfl) dX12_nearest_55 ?_
      refine r_if_lt X 67 dX12_nearest_57 (by decide) (fun h57 => ?_) (fun h57 => ?_)
      · refine r_aload_n X (by rfl) dX12_nearest_67 ?_
        refine r_iload_n X (by rfl) dX12_nearest_68 ?_
        refine r_iload X (by rfl) dX12_nearest_69 ?_
        refine r_callV X dX12_nearest_71 zLV_X12_196 zCd_X12_markOf (c_X12_markOf _ G z τ ρ _ _ hL (zJ_fq hJ1 hf2) _ hx _ (by omega) (by rw [zMt_fq (hf.tr hf2)]; omega)) (zt hL 38 rfl) ⟨by decide, rfl, rfl⟩ rfl rfl ⟨⟨rfl, rfl⟩, ⟨by decide, by decide⟩, ⟨Nat.le_of_ble_eq_true rfl, Nat.le_of_ble_eq_true rfl⟩, Nat.le_of_ble_eq_true rfl⟩ ?_
        rintro _ _ ⟨r4, rfl, hRr4, r40, r41, rfl⟩
        have hmr4 : r4 = μ (i.toNatClampNeg) := hμ.1 _ _ (zMkR_fq (hf.tr hf2) (by rw [show ((i.toNatClampNeg : Nat) : Int) = i.toInt by omega]; exact hRr4))
        clear hRr4
        refine r_goto X 78 dX12_nearest_74 (by decide) ?_
        refine r_istore_n X (by decide) dX12_nearest_78 ?_
        refine r_iload X (by rfl) dX12_nearest_79 ?_
        refine r_if_lt X 91 dX12_nearest_81 (by decide) (fun h81 => ?_) (fun h81 => ?_)
        · refine r_iload X (by rfl) dX12_nearest_91 ?_
          refine r_goto X 98 dX12_nearest_93 (by decide) ?_
          refine r_istore X (by decide) dX12_nearest_98 ?_
          refine r_iinc X 1 (by decide) (by rfl) (by decide) dX12_nearest_100 ?_
          refine r_goto X 26 dX12_nearest_103 (by decide) ?_
          exact zW.loc6 (by rfl) (by rfl) (by rfl) (by rfl) (by rfl) (by rfl) (ih _ _ _ _ _ (by omega) (by omega) (by omega) (hf.tr hf2) hM2 (Or.inr ⟨by omega, by
            rw [show (i + 1).toNatClampNeg = i.toNatClampNeg + 1 by omega]
            rcases hI with ⟨q1, q2, q3⟩ | ⟨q1, f, q2, q3, q4⟩
            · have hl : l.toInt = -1 := by rw [q3]; rfl
              have h00 : i.toNatClampNeg = 0 := by omega
              first
                | (exfalso; omega)
                | (rw [h00] at hmr4 ⊢; exact ⟨0, zAm_1 _, hmr4, rfl⟩)
            · have gf : (zAb (zPm B ι x (μ f) - y)).toInt = l.toInt := q4.symm
              have hg0 : 0 ≤ (zAb (zPm B ι x (μ f) - y)).toInt := hG0 f (by have := q2.1; omega)
              first
                | (have hz : (zAb (zPm B ι x (μ i.toNatClampNeg) - y)).toInt < (zAb (zPm B ι x (μ f) - y)).toInt := by omega
                   exact ⟨i.toNatClampNeg, zAm_lt q2 hz, hmr4, rfl⟩)
                | (have hz : (zAb (zPm B ι x (μ f) - y)).toInt ≤ (zAb (zPm B ι x (μ i.toNatClampNeg) - y)).toInt := by omega
                   exact ⟨f, zAm_ge q2 hz, q3, q4⟩)
                | (exfalso; omega)⟩))
        · refine r_iload X (by rfl) dX12_nearest_84 ?_
          refine r_iload X (by rfl) dX12_nearest_86 ?_
          refine r_icmp_ge X 96 dX12_nearest_88 (by decide) (fun h88 => ?_) (fun h88 => ?_)
          · refine r_iload X (by rfl) dX12_nearest_96 ?_
            refine r_istore X (by decide) dX12_nearest_98 ?_
            refine r_iinc X 1 (by decide) (by rfl) (by decide) dX12_nearest_100 ?_
            refine r_goto X 26 dX12_nearest_103 (by decide) ?_
            exact zW.loc6 (by rfl) (by rfl) (by rfl) (by rfl) (by rfl) (by rfl) (ih _ _ _ _ _ (by omega) (by omega) (by omega) (hf.tr hf2) hM2 (Or.inr ⟨by omega, by
              rw [show (i + 1).toNatClampNeg = i.toNatClampNeg + 1 by omega]
              rcases hI with ⟨q1, q2, q3⟩ | ⟨q1, f, q2, q3, q4⟩
              · have hl : l.toInt = -1 := by rw [q3]; rfl
                have h00 : i.toNatClampNeg = 0 := by omega
                first
                  | (exfalso; omega)
                  | (rw [h00] at hmr4 ⊢; exact ⟨0, zAm_1 _, hmr4, rfl⟩)
              · have gf : (zAb (zPm B ι x (μ f) - y)).toInt = l.toInt := q4.symm
                have hg0 : 0 ≤ (zAb (zPm B ι x (μ f) - y)).toInt := hG0 f (by have := q2.1; omega)
                first
                  | (have hz : (zAb (zPm B ι x (μ i.toNatClampNeg) - y)).toInt < (zAb (zPm B ι x (μ f) - y)).toInt := by omega
                     exact ⟨i.toNatClampNeg, zAm_lt q2 hz, hmr4, rfl⟩)
                  | (have hz : (zAb (zPm B ι x (μ f) - y)).toInt ≤ (zAb (zPm B ι x (μ i.toNatClampNeg) - y)).toInt := by omega
                     exact ⟨f, zAm_ge q2 hz, q3, q4⟩)
                  | (exfalso; omega)⟩))
          · refine r_iload X (by rfl) dX12_nearest_91 ?_
            refine r_goto X 98 dX12_nearest_93 (by decide) ?_
            refine r_istore X (by decide) dX12_nearest_98 ?_
            refine r_iinc X 1 (by decide) (by rfl) (by decide) dX12_nearest_100 ?_
            refine r_goto X 26 dX12_nearest_103 (by decide) ?_
            exact zW.loc6 (by rfl) (by rfl) (by rfl) (by rfl) (by rfl) (by rfl) (ih _ _ _ _ _ (by omega) (by omega) (by omega) (hf.tr hf2) hM2 (Or.inr ⟨by omega, by
              rw [show (i + 1).toNatClampNeg = i.toNatClampNeg + 1 by omega]
              rcases hI with ⟨q1, q2, q3⟩ | ⟨q1, f, q2, q3, q4⟩
              · have hl : l.toInt = -1 := by rw [q3]; rfl
                have h00 : i.toNatClampNeg = 0 := by omega
                first
                  | (exfalso; omega)
                  | (rw [h00] at hmr4 ⊢; exact ⟨0, zAm_1 _, hmr4, rfl⟩)
              · have gf : (zAb (zPm B ι x (μ f) - y)).toInt = l.toInt := q4.symm
                have hg0 : 0 ≤ (zAb (zPm B ι x (μ f) - y)).toInt := hG0 f (by have := q2.1; omega)
                first
                  | (have hz : (zAb (zPm B ι x (μ i.toNatClampNeg) - y)).toInt < (zAb (zPm B ι x (μ f) - y)).toInt := by omega
                     exact ⟨i.toNatClampNeg, zAm_lt q2 hz, hmr4, rfl⟩)
                  | (have hz : (zAb (zPm B ι x (μ f) - y)).toInt ≤ (zAb (zPm B ι x (μ i.toNatClampNeg) - y)).toInt := by omega
                     exact ⟨f, zAm_ge q2 hz, q3, q4⟩)
                  | (exfalso; omega)⟩))
      · refine r_iload X (by rfl) dX12_nearest_60 ?_
        refine r_iload X (by rfl) dX12_nearest_62 ?_
        refine r_icmp_ge X 77 dX12_nearest_64 (by decide) (fun h64 => ?_) (fun h64 => ?_)
        · refine r_iload_n X (by rfl) dX12_nearest_77 ?_
          refine r_istore_n X (by decide) dX12_nearest_78 ?_
          refine r_iload X (by rfl) dX12_nearest_79 ?_
          refine r_if_lt X 91 dX12_nearest_81 (by decide) (fun h81 => ?_) (fun h81 => ?_)
          · refine r_iload X (by rfl) dX12_nearest_91 ?_
            refine r_goto X 98 dX12_nearest_93 (by decide) ?_
            refine r_istore X (by decide) dX12_nearest_98 ?_
            refine r_iinc X 1 (by decide) (by rfl) (by decide) dX12_nearest_100 ?_
            refine r_goto X 26 dX12_nearest_103 (by decide) ?_
            exact zW.loc6 (by rfl) (by rfl) (by rfl) (by rfl) (by rfl) (by rfl) (ih _ _ _ _ _ (by omega) (by omega) (by omega) (hf.tr hf2) hM2 (Or.inr ⟨by omega, by
              rw [show (i + 1).toNatClampNeg = i.toNatClampNeg + 1 by omega]
              rcases hI with ⟨q1, q2, q3⟩ | ⟨q1, f, q2, q3, q4⟩
              · have hl : l.toInt = -1 := by rw [q3]; rfl
                have h00 : i.toNatClampNeg = 0 := by omega
                first
                  | (exfalso; omega)
                  | (rw [h00] at hmr4 ⊢; exact ⟨0, zAm_1 _, hmr4, rfl⟩)
              · have gf : (zAb (zPm B ι x (μ f) - y)).toInt = l.toInt := q4.symm
                have hg0 : 0 ≤ (zAb (zPm B ι x (μ f) - y)).toInt := hG0 f (by have := q2.1; omega)
                first
                  | (have hz : (zAb (zPm B ι x (μ i.toNatClampNeg) - y)).toInt < (zAb (zPm B ι x (μ f) - y)).toInt := by omega
                     exact ⟨i.toNatClampNeg, zAm_lt q2 hz, hmr4, rfl⟩)
                  | (have hz : (zAb (zPm B ι x (μ f) - y)).toInt ≤ (zAb (zPm B ι x (μ i.toNatClampNeg) - y)).toInt := by omega
                     exact ⟨f, zAm_ge q2 hz, q3, q4⟩)
                  | (exfalso; omega)⟩))
          · refine r_iload X (by rfl) dX12_nearest_84 ?_
            refine r_iload X (by rfl) dX12_nearest_86 ?_
            refine r_icmp_ge X 96 dX12_nearest_88 (by decide) (fun h88 => ?_) (fun h88 => ?_)
            · refine r_iload X (by rfl) dX12_nearest_96 ?_
              refine r_istore X (by decide) dX12_nearest_98 ?_
              refine r_iinc X 1 (by decide) (by rfl) (by decide) dX12_nearest_100 ?_
              refine r_goto X 26 dX12_nearest_103 (by decide) ?_
              exact zW.loc6 (by rfl) (by rfl) (by rfl) (by rfl) (by rfl) (by rfl) (ih _ _ _ _ _ (by omega) (by omega) (by omega) (hf.tr hf2) hM2 (Or.inr ⟨by omega, by
                rw [show (i + 1).toNatClampNeg = i.toNatClampNeg + 1 by omega]
                rcases hI with ⟨q1, q2, q3⟩ | ⟨q1, f, q2, q3, q4⟩
                · have hl : l.toInt = -1 := by rw [q3]; rfl
                  have h00 : i.toNatClampNeg = 0 := by omega
                  first
                    | (exfalso; omega)
                    | (rw [h00] at hmr4 ⊢; exact ⟨0, zAm_1 _, hmr4, rfl⟩)
                · have gf : (zAb (zPm B ι x (μ f) - y)).toInt = l.toInt := q4.symm
                  have hg0 : 0 ≤ (zAb (zPm B ι x (μ f) - y)).toInt := hG0 f (by have := q2.1; omega)
                  first
                    | (have hz : (zAb (zPm B ι x (μ i.toNatClampNeg) - y)).toInt < (zAb (zPm B ι x (μ f) - y)).toInt := by omega
                       exact ⟨i.toNatClampNeg, zAm_lt q2 hz, hmr4, rfl⟩)
                    | (have hz : (zAb (zPm B ι x (μ f) - y)).toInt ≤ (zAb (zPm B ι x (μ i.toNatClampNeg) - y)).toInt := by omega
                       exact ⟨f, zAm_ge q2 hz, q3, q4⟩)
                    | (exfalso; omega)⟩))
            · refine r_iload X (by rfl) dX12_nearest_91 ?_
              refine r_goto X 98 dX12_nearest_93 (by decide) ?_
              refine r_istore X (by decide) dX12_nearest_98 ?_
              refine r_iinc X 1 (by decide) (by rfl) (by decide) dX12_nearest_100 ?_
              refine r_goto X 26 dX12_nearest_103 (by decide) ?_
              exact zW.loc6 (by rfl) (by rfl) (by rfl) (by rfl) (by rfl) (by rfl) (ih _ _ _ _ _ (by omega) (by omega) (by omega) (hf.tr hf2) hM2 (Or.inr ⟨by omega, by
                rw [show (i + 1).toNatClampNeg = i.toNatClampNeg + 1 by omega]
                rcases hI with ⟨q1, q2, q3⟩ | ⟨q1, f, q2, q3, q4⟩
                · have hl : l.toInt = -1 := by rw [q3]; rfl
                  have h00 : i.toNatClampNeg = 0 := by omega
                  first
                    | (exfalso; omega)
                    | (rw [h00] at hmr4 ⊢; exact ⟨0, zAm_1 _, hmr4, rfl⟩)
                · have gf : (zAb (zPm B ι x (μ f) - y)).toInt = l.toInt := q4.symm
                  have hg0 : 0 ≤ (zAb (zPm B ι x (μ f) - y)).toInt := hG0 f (by have := q2.1; omega)
                  first
                    | (have hz : (zAb (zPm B ι x (μ i.toNatClampNeg) - y)).toInt < (zAb (zPm B ι x (μ f) - y)).toInt := by omega
                       exact ⟨i.toNatClampNeg, zAm_lt q2 hz, hmr4, rfl⟩)
                    | (have hz : (zAb (zPm B ι x (μ f) - y)).toInt ≤ (zAb (zPm B ι x (μ i.toNatClampNeg) - y)).toInt := by omega
                       exact ⟨f, zAm_ge q2 hz, q3, q4⟩)
                    | (exfalso; omega)⟩))
        · refine r_aload_n X (by rfl) dX12_nearest_67 ?_
          refine r_iload_n X (by rfl) dX12_nearest_68 ?_
          refine r_iload X (by rfl) dX12_nearest_69 ?_
          refine r_callV X dX12_nearest_71 zLV_X12_196 zCd_X12_markOf (c_X12_markOf _ G z τ ρ _ _ hL (zJ_fq hJ1 hf2) _ hx _ (by omega) (by rw [zMt_fq (hf.tr hf2)]; omega)) (zt hL 38 rfl) ⟨by decide, rfl, rfl⟩ rfl rfl ⟨⟨rfl, rfl⟩, ⟨by decide, by decide⟩, ⟨Nat.le_of_ble_eq_true rfl, Nat.le_of_ble_eq_true rfl⟩, Nat.le_of_ble_eq_true rfl⟩ ?_
          rintro _ _ ⟨r4, rfl, hRr4, r40, r41, rfl⟩
          have hmr4 : r4 = μ (i.toNatClampNeg) := hμ.1 _ _ (zMkR_fq (hf.tr hf2) (by rw [show ((i.toNatClampNeg : Nat) : Int) = i.toInt by omega]; exact hRr4))
          clear hRr4
          refine r_goto X 78 dX12_nearest_74 (by decide) ?_
          refine r_istore_n X (by decide) dX12_nearest_78 ?_
          refine r_iload X (by rfl) dX12_nearest_79 ?_
          refine r_if_lt X 91 dX12_nearest_81 (by decide) (fun h81 => ?_) (fun h81 => ?_)
          · refine r_iload X (by rfl) dX12_nearest_91 ?_
            refine r_goto X 98 dX12_nearest_93 (by decide) ?_
            refine r_istore X (by decide) dX12_nearest_98 ?_
            refine r_iinc X 1 (by decide) (by rfl) (by decide) dX12_nearest_100 ?_
            refine r_goto X 26 dX12_nearest_103 (by decide) ?_
            exact zW.loc6 (by rfl) (by rfl) (by rfl) (by rfl) (by rfl) (by rfl) (ih _ _ _ _ _ (by omega) (by omega) (by omega) (hf.tr hf2) hM2 (Or.inr ⟨by omega, by
              rw [show (i + 1).toNatClampNeg = i.toNatClampNeg + 1 by omega]
              rcases hI with ⟨q1, q2, q3⟩ | ⟨q1, f, q2, q3, q4⟩
              · have hl : l.toInt = -1 := by rw [q3]; rfl
                have h00 : i.toNatClampNeg = 0 := by omega
                first
                  | (exfalso; omega)
                  | (rw [h00] at hmr4 ⊢; exact ⟨0, zAm_1 _, hmr4, rfl⟩)
              · have gf : (zAb (zPm B ι x (μ f) - y)).toInt = l.toInt := q4.symm
                have hg0 : 0 ≤ (zAb (zPm B ι x (μ f) - y)).toInt := hG0 f (by have := q2.1; omega)
                first
                  | (have hz : (zAb (zPm B ι x (μ i.toNatClampNeg) - y)).toInt < (zAb (zPm B ι x (μ f) - y)).toInt := by omega
                     exact ⟨i.toNatClampNeg, zAm_lt q2 hz, hmr4, rfl⟩)
                  | (have hz : (zAb (zPm B ι x (μ f) - y)).toInt ≤ (zAb (zPm B ι x (μ i.toNatClampNeg) - y)).toInt := by omega
                     exact ⟨f, zAm_ge q2 hz, q3, q4⟩)
                  | (exfalso; omega)⟩))
          · refine r_iload X (by rfl) dX12_nearest_84 ?_
            refine r_iload X (by rfl) dX12_nearest_86 ?_
            refine r_icmp_ge X 96 dX12_nearest_88 (by decide) (fun h88 => ?_) (fun h88 => ?_)
            · refine r_iload X (by rfl) dX12_nearest_96 ?_
              refine r_istore X (by decide) dX12_nearest_98 ?_
              refine r_iinc X 1 (by decide) (by rfl) (by decide) dX12_nearest_100 ?_
              refine r_goto X 26 dX12_nearest_103 (by decide) ?_
              exact zW.loc6 (by rfl) (by rfl) (by rfl) (by rfl) (by rfl) (by rfl) (ih _ _ _ _ _ (by omega) (by omega) (by omega) (hf.tr hf2) hM2 (Or.inr ⟨by omega, by
                rw [show (i + 1).toNatClampNeg = i.toNatClampNeg + 1 by omega]
                rcases hI with ⟨q1, q2, q3⟩ | ⟨q1, f, q2, q3, q4⟩
                · have hl : l.toInt = -1 := by rw [q3]; rfl
                  have h00 : i.toNatClampNeg = 0 := by omega
                  first
                    | (exfalso; omega)
                    | (rw [h00] at hmr4 ⊢; exact ⟨0, zAm_1 _, hmr4, rfl⟩)
                · have gf : (zAb (zPm B ι x (μ f) - y)).toInt = l.toInt := q4.symm
                  have hg0 : 0 ≤ (zAb (zPm B ι x (μ f) - y)).toInt := hG0 f (by have := q2.1; omega)
                  first
                    | (have hz : (zAb (zPm B ι x (μ i.toNatClampNeg) - y)).toInt < (zAb (zPm B ι x (μ f) - y)).toInt := by omega
                       exact ⟨i.toNatClampNeg, zAm_lt q2 hz, hmr4, rfl⟩)
                    | (have hz : (zAb (zPm B ι x (μ f) - y)).toInt ≤ (zAb (zPm B ι x (μ i.toNatClampNeg) - y)).toInt := by omega
                       exact ⟨f, zAm_ge q2 hz, q3, q4⟩)
                    | (exfalso; omega)⟩))
            · refine r_iload X (by rfl) dX12_nearest_91 ?_
              refine r_goto X 98 dX12_nearest_93 (by decide) ?_
              refine r_istore X (by decide) dX12_nearest_98 ?_
              refine r_iinc X 1 (by decide) (by rfl) (by decide) dX12_nearest_100 ?_
              refine r_goto X 26 dX12_nearest_103 (by decide) ?_
              exact zW.loc6 (by rfl) (by rfl) (by rfl) (by rfl) (by rfl) (by rfl) (ih _ _ _ _ _ (by omega) (by omega) (by omega) (hf.tr hf2) hM2 (Or.inr ⟨by omega, by
                rw [show (i + 1).toNatClampNeg = i.toNatClampNeg + 1 by omega]
                rcases hI with ⟨q1, q2, q3⟩ | ⟨q1, f, q2, q3, q4⟩
                · have hl : l.toInt = -1 := by rw [q3]; rfl
                  have h00 : i.toNatClampNeg = 0 := by omega
                  first
                    | (exfalso; omega)
                    | (rw [h00] at hmr4 ⊢; exact ⟨0, zAm_1 _, hmr4, rfl⟩)
                · have gf : (zAb (zPm B ι x (μ f) - y)).toInt = l.toInt := q4.symm
                  have hg0 : 0 ≤ (zAb (zPm B ι x (μ f) - y)).toInt := hG0 f (by have := q2.1; omega)
                  first
                    | (have hz : (zAb (zPm B ι x (μ i.toNatClampNeg) - y)).toInt < (zAb (zPm B ι x (μ f) - y)).toInt := by omega
                       exact ⟨i.toNatClampNeg, zAm_lt q2 hz, hmr4, rfl⟩)
                    | (have hz : (zAb (zPm B ι x (μ f) - y)).toInt ≤ (zAb (zPm B ι x (μ i.toNatClampNeg) - y)).toInt := by omega
                       exact ⟨f, zAm_ge q2 hz, q3, q4⟩)
                    | (exfalso; omega)⟩))
  refine r_aload_n X (by rfl) dX12_nearest_0 ?_
  refine r_iload_n X (by rfl) dX12_nearest_1 ?_
  refine r_callV X dX12_nearest_2 zLV_X12_175 zCd_X12_isScale (c_X12_isScale _ G z τ ρ _ _ hL hJ _) (zt hL 38 rfl) ⟨by decide, rfl, rfl⟩ rfl rfl ⟨⟨rfl, rfl⟩, ⟨by decide, by decide⟩, ⟨Nat.le_of_ble_eq_true rfl, Nat.le_of_ble_eq_true rfl⟩, Nat.le_of_ble_eq_true rfl⟩ ?_
  rintro _ _ ⟨rfl, rfl⟩
  refine r_if_eq X 15 dX12_nearest_5 (by decide) (fun h5 => ?_) (fun h5 => ?_)
  · refine r_bipush X (-2) (by decide) dX12_nearest_15 ?_
    refine r_ireturn X hR dX12_nearest_17 rfl (Nat.zero_le _) (Nat.zero_le _) ?_
    exact ⟨_, _, _, rfl, rfl, zFq.rfl, hM, Or.inl ⟨fun q => by first | exact zif0 h5 q.1 | exact zif0 h12 q.2, rfl⟩⟩
  · refine r_iload_n X (by rfl) dX12_nearest_8 ?_
    refine r_callS X dX12_nearest_9 zLS_X12_213 zCd_X12_isPlace (c_X12_isPlace _ G z τ ρ _ _ _) rfl rfl ⟨⟨rfl, rfl⟩, ⟨by decide, by decide⟩, ⟨Nat.le_of_ble_eq_true rfl, Nat.le_of_ble_eq_true rfl⟩, Nat.le_of_ble_eq_true rfl⟩ ?_
    rintro _ _ ⟨rfl, rfl⟩
    refine r_if_ne X 18 dX12_nearest_12 (by decide) (fun h12 => ?_) (fun h12 => ?_)
    · refine r_iconst X (-1) (by decide) dX12_nearest_18 ?_
      refine r_istore_n X (by decide) dX12_nearest_19 ?_
      refine r_iconst X (-1) (by decide) dX12_nearest_20 ?_
      refine r_istore X (by decide) dX12_nearest_21 ?_
      refine r_iconst X 0 (by decide) dX12_nearest_23 ?_
      refine r_istore X (by decide) dX12_nearest_24 ?_
      exact zW.loc6 (by rfl) (by rfl) (by rfl) (by rfl) (by rfl) (by rfl) (L26 (zif1 h5) (zif1 h12) 400001 _ _ _ _ _ (by decide) (by decide) (by have := zMk_nn hJ (show x.toNatClampNeg < c by have hx9 := zif1 h5; have := zclN hx9.1; omega); rw [show Int32.toInt 0 = 0 from rfl]; omega) zFq.rfl hM (by exact Or.inl ⟨rfl, rfl, rfl⟩))
    · refine r_bipush X (-2) (by decide) dX12_nearest_15 ?_
      refine r_ireturn X hR dX12_nearest_17 rfl (Nat.zero_le _) (Nat.zero_le _) ?_
      exact ⟨_, _, _, rfl, rfl, zFq.rfl, hM, Or.inl ⟨fun q => by first | exact zif0 h5 q.1 | exact zif0 h12 q.2, rfl⟩⟩
set_option maxHeartbeats 4000000 in
set_option maxRecDepth 100000 in
theorem e2_X12_between (l : Launch) (G : zG) (z : Nat) (τ : Nat → Option (Nat × Nat)) (ρ : Nat → Nat → Option Nat) (ι : Nat → Nat → Int32) (κ : Nat → Nat → Int64) {B c : Nat} (hL : zLay τ ρ B c) (hJ : zJ B c ι) (hst : 100 ≤ (ι (B + 38) 0).toInt ∧ (ι (B + 38) 0).toInt ≤ 50000) (hM : zPsM B c ι) (x y : Int32) (μ : Nat → Int32) (hμ : zMu B ι x.toNatClampNeg μ) : zM l G yX12_between cX12_between 9 (some .int) ({ frames := 5, cells := 0, slots := 0, locals := 143 } : Room) [.ref (B + 38), .int x, .int y] (z, τ, ρ, ι, κ) (fun v s => ∃ r ι2 κ2, v = some (.int r) ∧ s = (z, τ, ρ, ι2, κ2) ∧ zFq B ι ι2 ∧ zPsM B c ι2 ∧ ((¬ ((0 ≤ x.toInt ∧ x.toInt < (c : Int)) ∧ -1000000 ≤ y.toInt ∧ y.toInt ≤ 1000000) ∧ r = -2) ∨ (((0 ≤ x.toInt ∧ x.toInt < (c : Int)) ∧ -1000000 ≤ y.toInt ∧ y.toInt ≤ 1000000) ∧ ((r = -1 ∧ ∀ k : Nat, (k : Int) + 1 < zMk B ι x.toNatClampNeg (ι (B + 43) x.toNatClampNeg).toNatClampNeg → ¬ zBw (fun k => zPm B ι x (μ k)) y k) ∨ ∃ f : Nat, (f : Int) + 1 < zMk B ι x.toNatClampNeg (ι (B + 43) x.toNatClampNeg).toNatClampNeg ∧ zFi (zBw (fun k => zPm B ι x (μ k)) y) ((zMk B ι x.toNatClampNeg (ι (B + 43) x.toNatClampNeg).toNatClampNeg).toNat - 1) f ∧ r = μ f + ((μ (f + 1) - μ f).toInt64 * (zAb (y - zPm B ι x (μ f))).toInt64 / (zAb (zPm B ι x (μ (f + 1)) - zPm B ι x (μ f))).toInt64).toInt32)))) 0 0 := by
  refine zM_of zCd_X12_between (Nat.le_of_ble_eq_true rfl) ?_
  intro E X hR hE
  subst hE
  show zW E G 9 (z, τ, ρ, ι, κ) 0 0 0 [(0, .ref (B + 38)), (1, .int x), (2, .int y)] []
  have L48 : ∀ (hx : (0 ≤ x.toInt ∧ x.toInt < (c : Int))) (hy9 : -1000000 ≤ y.toInt ∧ y.toInt ≤ 1000000) (n : Int32), n.toInt = zMk B ι x.toNatClampNeg (ι (B + 43) x.toNatClampNeg).toNatClampNeg → n.toInt ≤ 399604 → ∀ (m : Nat) (i l : Int32) (ι1 : Nat → Nat → Int32) (κ1 : Nat → Nat → Int64), (400000 - i.toInt).toNat < m → 1 ≤ i.toInt → (1 ≤ n.toInt → i.toInt ≤ n.toInt ∧ l = zPm B ι x (μ (i.toNatClampNeg - 1))) → zFq B ι ι1 → zPsM B c ι1 → (∀ k : Nat, (k : Int) + 1 < i.toInt → ¬ zBw (fun k => zPm B ι x (μ k)) y k) → zW E G 9 (z, τ, ρ, ι1, κ1) 0 0 48 [(0, .ref (B + 38)), (1, .int x), (2, .int y), (3, .int n), (4, .int l), (5, .int i)] [] := by
    intro hx hy9 n hn hn2 m
    induction m with
    | zero => intro i l ι1 κ1 h; omega
    | succ m ih => ?_
    intro i l ι1 κ1 hm h0 hl9 hf hM1 hI
    have hJ1 := zJ_fq hJ hf
    have hst1 : 100 ≤ (ι1 (B + 38) 0).toInt ∧ (ι1 (B + 38) 0).toInt ≤ 50000 := by rw [hf (B + 38) 0 (by unfold zCq; omega)]; exact hst
    have es := zsub1 (x := i) (by omega)
    have hic := zclN (i := i) (by omega)
    have hicm := zclN (i := i - 1) (by omega)
    have eim : i.toNatClampNeg - 1 + 1 = i.toNatClampNeg := by omega
    refine r_iload X (by rfl) dX12_between_48 ?_
    refine r_iload_n X (by rfl) dX12_between_50 ?_
    refine r_icmp_ge X 166 dX12_between_51 (by decide) (fun h51 => ?_) (fun h51 => ?_)
    · refine r_iconst X (-1) (by decide) dX12_between_166 ?_
      refine r_ireturn X hR dX12_between_167 rfl (Nat.zero_le _) (Nat.zero_le _) ?_
      refine ⟨_, _, _, rfl, rfl, hf, hM1, Or.inr ⟨⟨hx, hy9⟩, Or.inl ⟨rfl, fun k hk => hI k ?_⟩⟩⟩
      have := hl9 (by omega)
      omega
    · obtain ⟨hile, rfl⟩ := hl9 (by omega)
      have e1 := zinc (x := i) (by omega)
      have hic1 := zclN (i := i + 1) (by omega)
      refine r_aload_n X (by rfl) dX12_between_54 ?_
      refine r_iload_n X (by rfl) dX12_between_55 ?_
      refine r_aload_n X (by rfl) dX12_between_56 ?_
      refine r_iload_n X (by rfl) dX12_between_57 ?_
      refine r_iload X (by rfl) dX12_between_58 ?_
      refine r_callV X dX12_between_60 zLV_X12_196 zCd_X12_markOf (c_X12_markOf _ G z τ ρ _ _ hL hJ1 _ hx _ (by omega) (by rw [zMt_fq hf]; omega)) (zt hL 38 rfl) ⟨by decide, rfl, rfl⟩ rfl rfl ⟨⟨rfl, rfl⟩, ⟨by decide, by decide⟩, ⟨Nat.le_of_ble_eq_true rfl, Nat.le_of_ble_eq_true rfl⟩, Nat.le_of_ble_eq_true rfl⟩ ?_
      rintro _ _ ⟨r2, rfl, hRr2, r20, r21, rfl⟩
      have hmr2 : r2 = μ (i.toNatClampNeg) := hμ.1 _ _ (zMkR_fq hf (by rw [show ((i.toNatClampNeg : Nat) : Int) = i.toInt by omega]; exact hRr2))
      clear hRr2
      refine r_callV X dX12_between_63 zLV_X12_182 zCd_X12_placeOf (e2_X12_placeOf _ G z τ ρ _ _ hL hJ1 _ hx _ ⟨r20, r21⟩ hst1 hM1) (zt hL 38 rfl) ⟨by decide, rfl, rfl⟩ rfl rfl ⟨⟨rfl, rfl⟩, ⟨by decide, by decide⟩, ⟨Nat.le_of_ble_eq_true rfl, Nat.le_of_ble_eq_true rfl⟩, Nat.le_of_ble_eq_true rfl⟩ ?_
      rintro _ _ ⟨ι2, κ2, rfl, rfl, hf2, hM2⟩
      rw [zPm_fq hf, hmr2]
      refine r_istore X (by decide) dX12_between_66 ?_
      refine r_iload X (by rfl) dX12_between_68 ?_
      refine r_iload X (by rfl) dX12_between_70 ?_
      refine r_icmp_eq X 156 dX12_between_72 (by decide) (fun h72 => ?_) (fun h72 => ?_)
      · have hno : ¬ zBw (fun k => zPm B ι x (μ k)) y (i.toNatClampNeg - 1) := fun q => q.1 (by show zPm B ι x (μ (i.toNatClampNeg - 1)) = zPm B ι x (μ (i.toNatClampNeg - 1 + 1)); rw [eim]; exact h72.symm)
        refine r_iload X (by rfl) dX12_between_156 ?_
        refine r_istore X (by decide) dX12_between_158 ?_
        refine r_iinc X 1 (by decide) (by rfl) (by decide) dX12_between_160 ?_
        refine r_goto X 48 dX12_between_163 (by decide) ?_
        exact zW.loc6 (by rfl) (by rfl) (by rfl) (by rfl) (by rfl) (by rfl) (ih _ _ _ _ (by omega) (by omega) (fun _ => ⟨by omega, by rw [show (i + 1).toNatClampNeg - 1 = i.toNatClampNeg by omega]⟩) (hf.tr hf2) hM2 (fun k hk => by
            by_cases q : k = i.toNatClampNeg - 1
            · rw [q]; exact hno
            · exact hI k (by omega)))
      · refine r_iload_n X (by rfl) dX12_between_75 ?_
        refine r_i2l X dX12_between_76 ?_
        refine r_iload X (by rfl) dX12_between_77 ?_
        refine r_i2l X dX12_between_79 ?_
        refine r_iload X (by rfl) dX12_between_80 ?_
        refine r_i2l X dX12_between_82 ?_
        refine r_callS X dX12_between_83 zLS_X12_163 zCd_X12_in (c_X12_in _ G z τ ρ _ _ _ _ _) rfl rfl ⟨⟨rfl, rfl⟩, ⟨by decide, by decide⟩, ⟨Nat.le_of_ble_eq_true rfl, Nat.le_of_ble_eq_true rfl⟩, Nat.le_of_ble_eq_true rfl⟩ ?_
        rintro _ _ ⟨rfl, rfl⟩
        simp only [Int32.toInt_toInt64]
        refine r_if_ne X 103 dX12_between_86 (by decide) (fun h86 => ?_) (fun h86 => ?_)
        · refine r_aload_n X (by rfl) dX12_between_103 ?_
          refine r_iload_n X (by rfl) dX12_between_104 ?_
          refine r_iload X (by rfl) dX12_between_105 ?_
          refine r_callV X dX12_between_107 zLV_X12_196 zCd_X12_markOf (c_X12_markOf _ G z τ ρ _ _ hL (zJ_fq hJ1 hf2) _ hx _ (by omega) (by rw [zMt_fq (hf.tr hf2)]; omega)) (zt hL 38 rfl) ⟨by decide, rfl, rfl⟩ rfl rfl ⟨⟨rfl, rfl⟩, ⟨by decide, by decide⟩, ⟨Nat.le_of_ble_eq_true rfl, Nat.le_of_ble_eq_true rfl⟩, Nat.le_of_ble_eq_true rfl⟩ ?_
          rintro _ _ ⟨r4, rfl, hRr4, r40, r41, rfl⟩
          have hmr4 : r4 = μ (i.toNatClampNeg) := hμ.1 _ _ (zMkR_fq (hf.tr hf2) (by rw [show ((i.toNatClampNeg : Nat) : Int) = i.toInt by omega]; exact hRr4))
          clear hRr4
          refine r_aload_n X (by rfl) dX12_between_110 ?_
          refine r_iload_n X (by rfl) dX12_between_111 ?_
          refine r_iload X (by rfl) dX12_between_112 ?_
          refine r_iconst X 1 (by decide) dX12_between_114 ?_
          refine r_isub X dX12_between_115 ?_
          refine r_callV X dX12_between_116 zLV_X12_196 zCd_X12_markOf (c_X12_markOf _ G z τ ρ _ _ hL (zJ_fq hJ1 hf2) _ hx _ (by omega) (by rw [zMt_fq (hf.tr hf2)]; omega)) (zt hL 38 rfl) ⟨by decide, rfl, rfl⟩ rfl rfl ⟨⟨rfl, rfl⟩, ⟨by decide, by decide⟩, ⟨Nat.le_of_ble_eq_true rfl, Nat.le_of_ble_eq_true rfl⟩, Nat.le_of_ble_eq_true rfl⟩ ?_
          rintro _ _ ⟨r5, rfl, hRr5, r50, r51, rfl⟩
          have hmr5 : r5 = μ (i.toNatClampNeg - 1) := hμ.1 _ _ (zMkR_fq (hf.tr hf2) (by rw [show ((i.toNatClampNeg - 1 : Nat) : Int) = (i - 1).toInt by omega]; exact hRr5))
          clear hRr5
          refine r_isub X dX12_between_119 ?_
          refine r_i2l X dX12_between_120 ?_
          refine r_lstore X (by decide) dX12_between_121 ?_
          refine r_aload_n X (by rfl) dX12_between_123 ?_
          refine r_iload_n X (by rfl) dX12_between_124 ?_
          refine r_iload X (by rfl) dX12_between_125 ?_
          refine r_iconst X 1 (by decide) dX12_between_127 ?_
          refine r_isub X dX12_between_128 ?_
          refine r_callV X dX12_between_129 zLV_X12_196 zCd_X12_markOf (c_X12_markOf _ G z τ ρ _ _ hL (zJ_fq hJ1 hf2) _ hx _ (by omega) (by rw [zMt_fq (hf.tr hf2)]; omega)) (zt hL 38 rfl) ⟨by decide, rfl, rfl⟩ rfl rfl ⟨⟨rfl, rfl⟩, ⟨by decide, by decide⟩, ⟨Nat.le_of_ble_eq_true rfl, Nat.le_of_ble_eq_true rfl⟩, Nat.le_of_ble_eq_true rfl⟩ ?_
          rintro _ _ ⟨r6, rfl, hRr6, r60, r61, rfl⟩
          have hmr6 : r6 = μ (i.toNatClampNeg - 1) := hμ.1 _ _ (zMkR_fq (hf.tr hf2) (by rw [show ((i.toNatClampNeg - 1 : Nat) : Int) = (i - 1).toInt by omega]; exact hRr6))
          clear hRr6
          refine r_lload X (by rfl) dX12_between_132 ?_
          refine r_iload_n X (by rfl) dX12_between_134 ?_
          refine r_iload X (by rfl) dX12_between_135 ?_
          refine r_isub X dX12_between_137 ?_
          refine r_callS X dX12_between_138 zLS_X12_199 zCd_X12_size (c_X12_size _ G z τ ρ _ _ _) rfl rfl ⟨⟨rfl, rfl⟩, ⟨by decide, by decide⟩, ⟨Nat.le_of_ble_eq_true rfl, Nat.le_of_ble_eq_true rfl⟩, Nat.le_of_ble_eq_true rfl⟩ ?_
          rintro _ _ ⟨rfl, rfl⟩
          refine r_i2l X dX12_between_141 ?_
          refine r_lmul X dX12_between_142 ?_
          refine r_iload X (by rfl) dX12_between_143 ?_
          refine r_iload X (by rfl) dX12_between_145 ?_
          refine r_isub X dX12_between_147 ?_
          refine r_callS X dX12_between_148 zLS_X12_199 zCd_X12_size (c_X12_size _ G z τ ρ _ _ _) rfl rfl ⟨⟨rfl, rfl⟩, ⟨by decide, by decide⟩, ⟨Nat.le_of_ble_eq_true rfl, Nat.le_of_ble_eq_true rfl⟩, Nat.le_of_ble_eq_true rfl⟩ ?_
          rintro _ _ ⟨rfl, rfl⟩
          refine r_i2l X dX12_between_151 ?_
          refine r_ldiv X (zsz_ne h72) dX12_between_152 ?_
          refine r_l2i X dX12_between_153 ?_
          refine r_iadd X dX12_between_154 ?_
          refine r_ireturn X hR dX12_between_155 rfl (Nat.zero_le _) (Nat.zero_le _) ?_
          rw [hmr4, hmr5, hmr6]
          have hb : zBw (fun k => zPm B ι x (μ k)) y (i.toNatClampNeg - 1) := by
            refine ⟨fun q => h72 (by have q2 : zPm B ι x (μ (i.toNatClampNeg - 1)) = zPm B ι x (μ (i.toNatClampNeg - 1 + 1)) := q; rw [eim] at q2; exact q2.symm), ?_⟩
            show ((zPm B ι x (μ (i.toNatClampNeg - 1))).toInt ≤ y.toInt ∧ y.toInt ≤ (zPm B ι x (μ (i.toNatClampNeg - 1 + 1))).toInt) ∨ ((zPm B ι x (μ (i.toNatClampNeg - 1 + 1))).toInt ≤ y.toInt ∧ y.toInt ≤ (zPm B ι x (μ (i.toNatClampNeg - 1))).toInt)
            rw [eim]
            first
              | exact Or.inl (zif1 h86)
              | exact Or.inr (zif1 h100)
          refine ⟨_, _, _, rfl, rfl, hf.tr hf2, hM2, Or.inr ⟨⟨hx, hy9⟩, Or.inr ⟨i.toNatClampNeg - 1, by omega, ⟨by omega, hb, fun k hk => hI k (by omega)⟩, ?_⟩⟩⟩
          rw [eim]
          rfl
        · refine r_iload_n X (by rfl) dX12_between_89 ?_
          refine r_i2l X dX12_between_90 ?_
          refine r_iload X (by rfl) dX12_between_91 ?_
          refine r_i2l X dX12_between_93 ?_
          refine r_iload X (by rfl) dX12_between_94 ?_
          refine r_i2l X dX12_between_96 ?_
          refine r_callS X dX12_between_97 zLS_X12_163 zCd_X12_in (c_X12_in _ G z τ ρ _ _ _ _ _) rfl rfl ⟨⟨rfl, rfl⟩, ⟨by decide, by decide⟩, ⟨Nat.le_of_ble_eq_true rfl, Nat.le_of_ble_eq_true rfl⟩, Nat.le_of_ble_eq_true rfl⟩ ?_
          rintro _ _ ⟨rfl, rfl⟩
          simp only [Int32.toInt_toInt64]
          refine r_if_eq X 156 dX12_between_100 (by decide) (fun h100 => ?_) (fun h100 => ?_)
          · have hno : ¬ zBw (fun k => zPm B ι x (μ k)) y (i.toNatClampNeg - 1) := fun q => by
              have q1 : ((zPm B ι x (μ (i.toNatClampNeg - 1))).toInt ≤ y.toInt ∧ y.toInt ≤ (zPm B ι x (μ (i.toNatClampNeg - 1 + 1))).toInt) ∨ ((zPm B ι x (μ (i.toNatClampNeg - 1 + 1))).toInt ≤ y.toInt ∧ y.toInt ≤ (zPm B ι x (μ (i.toNatClampNeg - 1))).toInt) := q.2
              rw [eim] at q1
              rcases q1 with q1 | q1
              · exact zif0 h86 q1
              · exact zif0 h100 q1
            refine r_iload X (by rfl) dX12_between_156 ?_
            refine r_istore X (by decide) dX12_between_158 ?_
            refine r_iinc X 1 (by decide) (by rfl) (by decide) dX12_between_160 ?_
            refine r_goto X 48 dX12_between_163 (by decide) ?_
            exact zW.loc6 (by rfl) (by rfl) (by rfl) (by rfl) (by rfl) (by rfl) (ih _ _ _ _ (by omega) (by omega) (fun _ => ⟨by omega, by rw [show (i + 1).toNatClampNeg - 1 = i.toNatClampNeg by omega]⟩) (hf.tr hf2) hM2 (fun k hk => by
                by_cases q : k = i.toNatClampNeg - 1
                · rw [q]; exact hno
                · exact hI k (by omega)))
          · refine r_aload_n X (by rfl) dX12_between_103 ?_
            refine r_iload_n X (by rfl) dX12_between_104 ?_
            refine r_iload X (by rfl) dX12_between_105 ?_
            refine r_callV X dX12_between_107 zLV_X12_196 zCd_X12_markOf (c_X12_markOf _ G z τ ρ _ _ hL (zJ_fq hJ1 hf2) _ hx _ (by omega) (by rw [zMt_fq (hf.tr hf2)]; omega)) (zt hL 38 rfl) ⟨by decide, rfl, rfl⟩ rfl rfl ⟨⟨rfl, rfl⟩, ⟨by decide, by decide⟩, ⟨Nat.le_of_ble_eq_true rfl, Nat.le_of_ble_eq_true rfl⟩, Nat.le_of_ble_eq_true rfl⟩ ?_
            rintro _ _ ⟨r4, rfl, hRr4, r40, r41, rfl⟩
            have hmr4 : r4 = μ (i.toNatClampNeg) := hμ.1 _ _ (zMkR_fq (hf.tr hf2) (by rw [show ((i.toNatClampNeg : Nat) : Int) = i.toInt by omega]; exact hRr4))
            clear hRr4
            refine r_aload_n X (by rfl) dX12_between_110 ?_
            refine r_iload_n X (by rfl) dX12_between_111 ?_
            refine r_iload X (by rfl) dX12_between_112 ?_
            refine r_iconst X 1 (by decide) dX12_between_114 ?_
            refine r_isub X dX12_between_115 ?_
            refine r_callV X dX12_between_116 zLV_X12_196 zCd_X12_markOf (c_X12_markOf _ G z τ ρ _ _ hL (zJ_fq hJ1 hf2) _ hx _ (by omega) (by rw [zMt_fq (hf.tr hf2)]; omega)) (zt hL 38 rfl) ⟨by decide, rfl, rfl⟩ rfl rfl ⟨⟨rfl, rfl⟩, ⟨by decide, by decide⟩, ⟨Nat.le_of_ble_eq_true rfl, Nat.le_of_ble_eq_true rfl⟩, Nat.le_of_ble_eq_true rfl⟩ ?_
            rintro _ _ ⟨r5, rfl, hRr5, r50, r51, rfl⟩
            have hmr5 : r5 = μ (i.toNatClampNeg - 1) := hμ.1 _ _ (zMkR_fq (hf.tr hf2) (by rw [show ((i.toNatClampNeg - 1 : Nat) : Int) = (i - 1).toInt by omega]; exact hRr5))
            clear hRr5
            refine r_isub X dX12_between_119 ?_
            refine r_i2l X dX12_between_120 ?_
            refine r_lstore X (by decide) dX12_between_121 ?_
            refine r_aload_n X (by rfl) dX12_between_123 ?_
            refine r_iload_n X (by rfl) dX12_between_124 ?_
            refine r_iload X (by rfl) dX12_between_125 ?_
            refine r_iconst X 1 (by decide) dX12_between_127 ?_
            refine r_isub X dX12_between_128 ?_
            refine r_callV X dX12_between_129 zLV_X12_196 zCd_X12_markOf (c_X12_markOf _ G z τ ρ _ _ hL (zJ_fq hJ1 hf2) _ hx _ (by omega) (by rw [zMt_fq (hf.tr hf2)]; omega)) (zt hL 38 rfl) ⟨by decide, rfl, rfl⟩ rfl rfl ⟨⟨rfl, rfl⟩, ⟨by decide, by decide⟩, ⟨Nat.le_of_ble_eq_true rfl, Nat.le_of_ble_eq_true rfl⟩, Nat.le_of_ble_eq_true rfl⟩ ?_
            rintro _ _ ⟨r6, rfl, hRr6, r60, r61, rfl⟩
            have hmr6 : r6 = μ (i.toNatClampNeg - 1) := hμ.1 _ _ (zMkR_fq (hf.tr hf2) (by rw [show ((i.toNatClampNeg - 1 : Nat) : Int) = (i - 1).toInt by omega]; exact hRr6))
            clear hRr6
            refine r_lload X (by rfl) dX12_between_132 ?_
            refine r_iload_n X (by rfl) dX12_between_134 ?_
            refine r_iload X (by rfl) dX12_between_135 ?_
            refine r_isub X dX12_between_137 ?_
            refine r_callS X dX12_between_138 zLS_X12_199 zCd_X12_size (c_X12_size _ G z τ ρ _ _ _) rfl rfl ⟨⟨rfl, rfl⟩, ⟨by decide, by decide⟩, ⟨Nat.le_of_ble_eq_true rfl, Nat.le_of_ble_eq_true rfl⟩, Nat.le_of_ble_eq_true rfl⟩ ?_
            rintro _ _ ⟨rfl, rfl⟩
            refine r_i2l X dX12_between_141 ?_
            refine r_lmul X dX12_between_142 ?_
            refine r_iload X (by rfl) dX12_between_143 ?_
            refine r_iload X (by rfl) dX12_between_145 ?_
            refine r_isub X dX12_between_147 ?_
            refine r_callS X dX12_between_148 zLS_X12_199 zCd_X12_size (c_X12_size _ G z τ ρ _ _ _) rfl rfl ⟨⟨rfl, rfl⟩, ⟨by decide, by decide⟩, ⟨Nat.le_of_ble_eq_true rfl, Nat.le_of_ble_eq_true rfl⟩, Nat.le_of_ble_eq_true rfl⟩ ?_
            rintro _ _ ⟨rfl, rfl⟩
            refine r_i2l X dX12_between_151 ?_
            refine r_ldiv X (zsz_ne h72) dX12_between_152 ?_
            refine r_l2i X dX12_between_153 ?_
            refine r_iadd X dX12_between_154 ?_
            refine r_ireturn X hR dX12_between_155 rfl (Nat.zero_le _) (Nat.zero_le _) ?_
            rw [hmr4, hmr5, hmr6]
            have hb : zBw (fun k => zPm B ι x (μ k)) y (i.toNatClampNeg - 1) := by
              refine ⟨fun q => h72 (by have q2 : zPm B ι x (μ (i.toNatClampNeg - 1)) = zPm B ι x (μ (i.toNatClampNeg - 1 + 1)) := q; rw [eim] at q2; exact q2.symm), ?_⟩
              show ((zPm B ι x (μ (i.toNatClampNeg - 1))).toInt ≤ y.toInt ∧ y.toInt ≤ (zPm B ι x (μ (i.toNatClampNeg - 1 + 1))).toInt) ∨ ((zPm B ι x (μ (i.toNatClampNeg - 1 + 1))).toInt ≤ y.toInt ∧ y.toInt ≤ (zPm B ι x (μ (i.toNatClampNeg - 1))).toInt)
              rw [eim]
              first
                | exact Or.inl (zif1 h86)
                | exact Or.inr (zif1 h100)
            refine ⟨_, _, _, rfl, rfl, hf.tr hf2, hM2, Or.inr ⟨⟨hx, hy9⟩, Or.inr ⟨i.toNatClampNeg - 1, by omega, ⟨by omega, hb, fun k hk => hI k (by omega)⟩, ?_⟩⟩⟩
            rw [eim]
            rfl
  refine r_aload_n X (by rfl) dX12_between_0 ?_
  refine r_iload_n X (by rfl) dX12_between_1 ?_
  refine r_callV X dX12_between_2 zLV_X12_175 zCd_X12_isScale (c_X12_isScale _ G z τ ρ _ _ hL hJ _) (zt hL 38 rfl) ⟨by decide, rfl, rfl⟩ rfl rfl ⟨⟨rfl, rfl⟩, ⟨by decide, by decide⟩, ⟨Nat.le_of_ble_eq_true rfl, Nat.le_of_ble_eq_true rfl⟩, Nat.le_of_ble_eq_true rfl⟩ ?_
  rintro _ _ ⟨rfl, rfl⟩
  refine r_if_eq X 15 dX12_between_5 (by decide) (fun h5 => ?_) (fun h5 => ?_)
  · refine r_bipush X (-2) (by decide) dX12_between_15 ?_
    refine r_ireturn X hR dX12_between_17 rfl (Nat.zero_le _) (Nat.zero_le _) ?_
    exact ⟨_, _, _, rfl, rfl, zFq.rfl, hM, Or.inl ⟨fun q => by first | exact zif0 h5 q.1 | exact zif0 h12 q.2, rfl⟩⟩
  · refine r_iload_n X (by rfl) dX12_between_8 ?_
    refine r_callS X dX12_between_9 zLS_X12_213 zCd_X12_isPlace (c_X12_isPlace _ G z τ ρ _ _ _) rfl rfl ⟨⟨rfl, rfl⟩, ⟨by decide, by decide⟩, ⟨Nat.le_of_ble_eq_true rfl, Nat.le_of_ble_eq_true rfl⟩, Nat.le_of_ble_eq_true rfl⟩ ?_
    rintro _ _ ⟨rfl, rfl⟩
    refine r_if_ne X 18 dX12_between_12 (by decide) (fun h12 => ?_) (fun h12 => ?_)
    · have hx := zif1 h5
      refine r_aload_n X (by rfl) dX12_between_18 ?_
      refine r_iload_n X (by rfl) dX12_between_19 ?_
      refine r_callV X dX12_between_20 zLV_X12_193 zCd_X12_marksOf (c_X12_marksOf _ G z τ ρ _ _ hL hJ _ hx) (zt hL 38 rfl) ⟨by decide, rfl, rfl⟩ rfl rfl ⟨⟨rfl, rfl⟩, ⟨by decide, by decide⟩, ⟨Nat.le_of_ble_eq_true rfl, Nat.le_of_ble_eq_true rfl⟩, Nat.le_of_ble_eq_true rfl⟩ ?_
      rintro _ _ ⟨r, rfl, hr, hr0, hr1, rfl⟩
      refine r_istore_n X (by decide) dX12_between_23 ?_
      refine r_iload_n X (by rfl) dX12_between_24 ?_
      refine r_if_ne X 32 dX12_between_25 (by decide) (fun h25 => ?_) (fun h25 => ?_)
      · have hr3 : 0 < r.toInt := by
          rcases Int.lt_or_eq_of_le hr0 with q | q
          · exact q
          · exact absurd (Int32.toInt_inj.mp (by rw [← q]; rfl)) h25
        refine r_aload_n X (by rfl) dX12_between_32 ?_
        refine r_iload_n X (by rfl) dX12_between_33 ?_
        refine r_aload_n X (by rfl) dX12_between_34 ?_
        refine r_iload_n X (by rfl) dX12_between_35 ?_
        refine r_iconst X 0 (by decide) dX12_between_36 ?_
        refine r_callV X dX12_between_37 zLV_X12_196 zCd_X12_markOf (c_X12_markOf _ G z τ ρ _ _ hL hJ _ hx _ (by decide) (by rw [show Int32.toInt 0 = 0 from rfl]; omega)) (zt hL 38 rfl) ⟨by decide, rfl, rfl⟩ rfl rfl ⟨⟨rfl, rfl⟩, ⟨by decide, by decide⟩, ⟨Nat.le_of_ble_eq_true rfl, Nat.le_of_ble_eq_true rfl⟩, Nat.le_of_ble_eq_true rfl⟩ ?_
        rintro _ _ ⟨r2, rfl, hRr2, r20, r21, rfl⟩
        have hmr2 : r2 = μ 0 := hμ.1 _ _ hRr2
        clear hRr2
        refine r_callV X dX12_between_40 zLV_X12_182 zCd_X12_placeOf (e2_X12_placeOf _ G z τ ρ _ _ hL hJ _ hx _ ⟨r20, r21⟩ hst hM) (zt hL 38 rfl) ⟨by decide, rfl, rfl⟩ rfl rfl ⟨⟨rfl, rfl⟩, ⟨by decide, by decide⟩, ⟨Nat.le_of_ble_eq_true rfl, Nat.le_of_ble_eq_true rfl⟩, Nat.le_of_ble_eq_true rfl⟩ ?_
        rintro _ _ ⟨ι2, κ2, rfl, rfl, hf2, hM2⟩
        rw [zPm_fq zFq.rfl, hmr2]
        refine r_istore X (by decide) dX12_between_43 ?_
        refine r_iconst X 1 (by decide) dX12_between_45 ?_
        refine r_istore X (by decide) dX12_between_46 ?_
        exact zW.loc6 (by rfl) (by rfl) (by rfl) (by rfl) (by rfl) (by rfl) (L48 hx (zif1 h12) _ hr hr1 400001 _ _ _ _ (by decide) (by decide) (by first | exact fun _ => ⟨by rw [show Int32.toInt 1 = 1 from rfl]; omega, rfl⟩ | (intro q; omega)) (by first | exact hf2 | exact zFq.rfl) (by first | exact hM2 | exact hM) (fun k hk => by rw [show Int32.toInt 1 = 1 from rfl] at hk; omega))
      · have hr3 : r.toInt = 0 := by rw [h25]; rfl
        refine r_iconst X 0 (by decide) dX12_between_28 ?_
        refine r_goto X 43 dX12_between_29 (by decide) ?_
        refine r_istore X (by decide) dX12_between_43 ?_
        refine r_iconst X 1 (by decide) dX12_between_45 ?_
        refine r_istore X (by decide) dX12_between_46 ?_
        exact zW.loc6 (by rfl) (by rfl) (by rfl) (by rfl) (by rfl) (by rfl) (L48 hx (zif1 h12) _ hr hr1 400001 _ _ _ _ (by decide) (by decide) (by first | exact fun _ => ⟨by rw [show Int32.toInt 1 = 1 from rfl]; omega, rfl⟩ | (intro q; omega)) (by first | exact hf2 | exact zFq.rfl) (by first | exact hM2 | exact hM) (fun k hk => by rw [show Int32.toInt 1 = 1 from rfl] at hk; omega))
    · refine r_bipush X (-2) (by decide) dX12_between_15 ?_
      refine r_ireturn X hR dX12_between_17 rfl (Nat.zero_le _) (Nat.zero_le _) ?_
      exact ⟨_, _, _, rfl, rfl, zFq.rfl, hM, Or.inl ⟨fun q => by first | exact zif0 h5 q.1 | exact zif0 h12 q.2, rfl⟩⟩
