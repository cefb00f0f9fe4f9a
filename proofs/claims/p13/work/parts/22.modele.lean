/-! the model: settings (wip/gen/spec_k.py) -/
theorem zdec1 {x : Int32} (h : -2147483647 ≤ x.toInt) : (x + -1).toInt = x.toInt - 1 := by
  have h2 := x.toInt_lt
  rw [zadd_c (x := x) (-1) (-1) rfl (by omega) (by omega)]
  omega
def zLk (L : Nat → Nat) (p : Int32) (n : Nat) : Prop := L (32 + p.toInt).toNat = n
theorem zst_a {p s : Int32} (h1 : -27 ≤ p.toInt) (h2 : p.toInt ≤ 27) (h3 : 0 ≤ s.toInt ∧ s.toInt ≤ 3) : ∃ x, p - 1 * s = x ∧ x.toInt = p.toInt - s.toInt := ⟨_, rfl, by rw [Int32.one_mul]; exact zsubI (by omega) (by omega)⟩
theorem zst_b {p s : Int32} (h1 : -27 ≤ p.toInt) (h2 : p.toInt ≤ 27) (h3 : 0 ≤ s.toInt ∧ s.toInt ≤ 3) : ∃ x, p - -1 * s = x ∧ x.toInt = p.toInt + s.toInt := ⟨_, rfl, by
  have e1 : ((-1 : Int32) * s).toInt = -s.toInt := by rw [zmulI (x := -1) (y := s) (by rw [show Int32.toInt (-1) = -1 from rfl]; omega) (by rw [show Int32.toInt (-1) = -1 from rfl]; omega), show Int32.toInt (-1) = -1 from rfl]; omega
  rw [zsubI (x := p) (y := -1 * s) (by rw [e1]; omega) (by rw [e1]; omega), e1]; omega⟩
theorem zrm10 {x : Int32} (h : 0 ≤ x.toInt) : ∃ s, x - x / 10 * 10 = s ∧ 0 ≤ s.toInt ∧ s.toInt ≤ 9 := by
  refine ⟨_, rfl, ?_⟩
  have hx := x.toInt_lt
  have e1 : (x / 10).toInt = x.toInt / 10 := by rw [zdivI h (by decide)]; rfl
  have e2 : (x / 10 * 10).toInt = x.toInt / 10 * 10 := by rw [zmulI (x := x / 10) (y := 10) (by rw [e1, show Int32.toInt 10 = 10 from rfl]; omega) (by rw [e1, show Int32.toInt 10 = 10 from rfl]; omega), e1]; rfl
  rw [zsubI (x := x) (y := x / 10 * 10) (by omega) (by omega), e2]
  omega
theorem zrm100 {x : Int32} (h : 0 ≤ x.toInt) : ∃ s, x / 10 - x / 10 / 10 * 10 = s ∧ 0 ≤ s.toInt := by
  have e1 : (x / 10).toInt = x.toInt / 10 := by rw [zdivI h (by decide)]; rfl
  obtain ⟨s, h1, h2, -⟩ := zrm10 (x := x / 10) (by omega)
  exact ⟨s, h1, h2⟩
theorem zt3 {t : Int32} (h0 : 0 ≤ t.toInt) (h1 : t.toInt < 3) (a : ¬ t = 0) (b : ¬ t = 1) (c : ¬ t = 2) : False := by
  have : t.toInt = 0 ∨ t.toInt = 1 ∨ t.toInt = 2 := by omega
  rcases this with e | e | e
  · exact a (Int32.toInt_inj.mp (by rw [e]; rfl))
  · exact b (Int32.toInt_inj.mp (by rw [e]; rfl))
  · exact c (Int32.toInt_inj.mp (by rw [e]; rfl))
set_option maxHeartbeats 4000000 in
set_option maxRecDepth 100000 in
theorem c_X12_lets (l : Launch) (G : zG) (z : Nat) (τ : Nat → Option (Nat × Nat)) (ρ : Nat → Nat → Option Nat) (ι : Nat → Nat → Int32) (κ : Nat → Nat → Int64) {B c : Nat} (hL : zLay τ ρ B c) (hJ : zJ B c ι) (x y : Int32) : zM l G yX12_lets cX12_lets 5 (some .boolean) ({ frames := 0, cells := 0, slots := 0, locals := 0 } : Room) [.ref (B + 38), .int x, .int y] (z, τ, ρ, ι, κ) (fun v s => v = some (.int (if zLb B ι x (decide (y.toInt < 0)) c = true then 1 else 0)) ∧ s = (z, τ, ρ, ι, κ)) 0 0 := by
  refine zM_of zCd_X12_lets (Nat.le_of_ble_eq_true rfl) ?_
  intro E X hR hE
  subst hE
  show zW E G 5 (z, τ, ρ, ι, κ) 0 0 0 [(0, .ref (B + 38)), (1, .int x), (2, .int y)] []
  obtain ⟨h8, hJc, hm1, hm2, hm3, hm4, hm5⟩ := id hJ
  have L5 : ∀ (m : Nat) (i p : Int32), (8 - i.toInt).toNat < m → 0 ≤ i.toInt → i.toInt ≤ (c : Int) → p = (if zLb B ι x (decide (y.toInt < 0)) i.toNatClampNeg = true then 1 else 0) → zW E G 5 (z, τ, ρ, ι, κ) 0 0 5 [(0, .ref (B + 38)), (1, .int x), (2, .int y), (3, .int p), (4, .int i)] [] := by
    intro m
    induction m with
    | zero => intro i p h; omega
    | succ m ih => ?_
    intro i p hm h0 hc1 hp
    have hin := zclN h0
    refine r_iload X (by rfl) dX12_lets_5 ?_
    refine r_aload_n X (by rfl) dX12_lets_7 ?_
    refine r_getI X dX12_lets_8 zF_X12_160 (zt hL 38 rfl) ?_
    refine r_icmp_ge X 65 dX12_lets_11 (by decide) (fun h11 => ?_) (fun h11 => ?_)
    · refine r_iload_n X (by rfl) dX12_lets_65 ?_
      refine r_ireturn X hR dX12_lets_66 (by rw [hp]; split <;> rfl) (Nat.zero_le _) (Nat.zero_le _) ?_
      have hie : i.toNatClampNeg = c := by omega
      rw [hie] at hp
      exact ⟨by rw [hp], rfl⟩
    · have ei := zinc (x := i) (by omega)
      have ei2 : (i + 1).toNatClampNeg = i.toNatClampNeg + 1 := by have := zclN (i := i + 1) (by omega); omega
      refine r_iload_n X (by rfl) dX12_lets_14 ?_
      refine r_if_ne X 53 dX12_lets_15 (by decide) (fun h15 => ?_) (fun h15 => ?_)
      · rw [hp] at h15
        have hz := zif1 h15
        have hv : (zLb B ι x (decide (y.toInt < 0)) i.toNatClampNeg || (ι (B + 39) i.toNatClampNeg != 0 && ι (B + 40) i.toNatClampNeg == x && (decide (y.toInt < 0) || ι (B + 42) i.toNatClampNeg == 0))) = true := by rw [hz]; rfl
        refine r_iconst X 1 (by decide) dX12_lets_53 ?_
        refine r_goto X 58 dX12_lets_54 (by decide) ?_
        refine r_istore_n X (by decide) dX12_lets_58 ?_
        refine r_iinc X 1 (by decide) (by rfl) (by decide) dX12_lets_59 ?_
        refine r_goto X 5 dX12_lets_62 (by decide) ?_
        exact zW.loc5 (by rfl) (by rfl) (by rfl) (by rfl) (by rfl) (ih _ _ (by rw [ei]; omega) (by rw [ei]; omega) (by rw [ei]; omega) (by rw [ei2, zLb]; first | exact (if_pos hv).symm | exact (if_neg hv).symm))
      · rw [hp] at h15
        have hz := zif0 h15
        refine r_aload_n X (by rfl) dX12_lets_18 ?_
        refine r_getR X dX12_lets_19 zF_X12_13 (zt hL 38 rfl) (zrf hL 36 rfl) ?_
        refine r_iload X (by rfl) dX12_lets_22 ?_
        refine r_zaload X dX12_lets_24 (zt hL 39 rfl) (vp_in_iff.mpr ⟨by omega, by omega⟩) ?_
        refine r_if_eq X 57 dX12_lets_25 (by decide) (fun h25 => ?_) (fun h25 => ?_)
        · have hv : ¬ (zLb B ι x (decide (y.toInt < 0)) i.toNatClampNeg || (ι (B + 39) i.toNatClampNeg != 0 && ι (B + 40) i.toNatClampNeg == x && (decide (y.toInt < 0) || ι (B + 42) i.toNatClampNeg == 0))) = true := by simp [hz, h25]
          refine r_iconst X 0 (by decide) dX12_lets_57 ?_
          refine r_istore_n X (by decide) dX12_lets_58 ?_
          refine r_iinc X 1 (by decide) (by rfl) (by decide) dX12_lets_59 ?_
          refine r_goto X 5 dX12_lets_62 (by decide) ?_
          exact zW.loc5 (by rfl) (by rfl) (by rfl) (by rfl) (by rfl) (ih _ _ (by rw [ei]; omega) (by rw [ei]; omega) (by rw [ei]; omega) (by rw [ei2, zLb]; first | exact (if_pos hv).symm | exact (if_neg hv).symm))
        · refine r_aload_n X (by rfl) dX12_lets_28 ?_
          refine r_getR X dX12_lets_29 zF_X12_17 (zt hL 38 rfl) (zrf hL 37 rfl) ?_
          refine r_iload X (by rfl) dX12_lets_32 ?_
          refine r_iaload X dX12_lets_34 (zt hL 40 rfl) (vp_in_iff.mpr ⟨by omega, by omega⟩) ?_
          refine r_iload_n X (by rfl) dX12_lets_35 ?_
          refine r_icmp_ne X 57 dX12_lets_36 (by decide) (fun h36 => ?_) (fun h36 => ?_)
          · have hv : ¬ (zLb B ι x (decide (y.toInt < 0)) i.toNatClampNeg || (ι (B + 39) i.toNatClampNeg != 0 && ι (B + 40) i.toNatClampNeg == x && (decide (y.toInt < 0) || ι (B + 42) i.toNatClampNeg == 0))) = true := by simp [hz, h36]
            refine r_iconst X 0 (by decide) dX12_lets_57 ?_
            refine r_istore_n X (by decide) dX12_lets_58 ?_
            refine r_iinc X 1 (by decide) (by rfl) (by decide) dX12_lets_59 ?_
            refine r_goto X 5 dX12_lets_62 (by decide) ?_
            exact zW.loc5 (by rfl) (by rfl) (by rfl) (by rfl) (by rfl) (ih _ _ (by rw [ei]; omega) (by rw [ei]; omega) (by rw [ei]; omega) (by rw [ei2, zLb]; first | exact (if_pos hv).symm | exact (if_neg hv).symm))
          · refine r_iload_n X (by rfl) dX12_lets_39 ?_
            refine r_if_lt X 53 dX12_lets_40 (by decide) (fun h40 => ?_) (fun h40 => ?_)
            · have hv : (zLb B ι x (decide (y.toInt < 0)) i.toNatClampNeg || (ι (B + 39) i.toNatClampNeg != 0 && ι (B + 40) i.toNatClampNeg == x && (decide (y.toInt < 0) || ι (B + 42) i.toNatClampNeg == 0))) = true := by simp [h25, h36, h40]
              refine r_iconst X 1 (by decide) dX12_lets_53 ?_
              refine r_goto X 58 dX12_lets_54 (by decide) ?_
              refine r_istore_n X (by decide) dX12_lets_58 ?_
              refine r_iinc X 1 (by decide) (by rfl) (by decide) dX12_lets_59 ?_
              refine r_goto X 5 dX12_lets_62 (by decide) ?_
              exact zW.loc5 (by rfl) (by rfl) (by rfl) (by rfl) (by rfl) (ih _ _ (by rw [ei]; omega) (by rw [ei]; omega) (by rw [ei]; omega) (by rw [ei2, zLb]; first | exact (if_pos hv).symm | exact (if_neg hv).symm))
            · refine r_aload_n X (by rfl) dX12_lets_43 ?_
              refine r_getR X dX12_lets_44 zF_X12_24 (zt hL 38 rfl) (zrf hL 39 rfl) ?_
              refine r_iload X (by rfl) dX12_lets_47 ?_
              refine r_zaload X dX12_lets_49 (zt hL 42 rfl) (vp_in_iff.mpr ⟨by omega, by omega⟩) ?_
              refine r_if_ne X 57 dX12_lets_50 (by decide) (fun h50 => ?_) (fun h50 => ?_)
              · have hv : ¬ (zLb B ι x (decide (y.toInt < 0)) i.toNatClampNeg || (ι (B + 39) i.toNatClampNeg != 0 && ι (B + 40) i.toNatClampNeg == x && (decide (y.toInt < 0) || ι (B + 42) i.toNatClampNeg == 0))) = true := by
                  simp only [Bool.or_eq_true, Bool.and_eq_true, decide_eq_true_eq, beq_iff_eq]
                  rintro (q | q)
                  · exact hz q
                  · rcases q.2 with q2 | q2
                    · omega
                    · exact h50 q2
                refine r_iconst X 0 (by decide) dX12_lets_57 ?_
                refine r_istore_n X (by decide) dX12_lets_58 ?_
                refine r_iinc X 1 (by decide) (by rfl) (by decide) dX12_lets_59 ?_
                refine r_goto X 5 dX12_lets_62 (by decide) ?_
                exact zW.loc5 (by rfl) (by rfl) (by rfl) (by rfl) (by rfl) (ih _ _ (by rw [ei]; omega) (by rw [ei]; omega) (by rw [ei]; omega) (by rw [ei2, zLb]; first | exact (if_pos hv).symm | exact (if_neg hv).symm))
              · have hv : (zLb B ι x (decide (y.toInt < 0)) i.toNatClampNeg || (ι (B + 39) i.toNatClampNeg != 0 && ι (B + 40) i.toNatClampNeg == x && (decide (y.toInt < 0) || ι (B + 42) i.toNatClampNeg == 0))) = true := by simp [h25, h36, h50]
                refine r_iconst X 1 (by decide) dX12_lets_53 ?_
                refine r_goto X 58 dX12_lets_54 (by decide) ?_
                refine r_istore_n X (by decide) dX12_lets_58 ?_
                refine r_iinc X 1 (by decide) (by rfl) (by decide) dX12_lets_59 ?_
                refine r_goto X 5 dX12_lets_62 (by decide) ?_
                exact zW.loc5 (by rfl) (by rfl) (by rfl) (by rfl) (by rfl) (ih _ _ (by rw [ei]; omega) (by rw [ei]; omega) (by rw [ei]; omega) (by rw [ei2, zLb]; first | exact (if_pos hv).symm | exact (if_neg hv).symm))
  refine r_iconst X 0 (by decide) dX12_lets_0 ?_
  refine r_istore_n X (by decide) dX12_lets_1 ?_
  refine r_iconst X 0 (by decide) dX12_lets_2 ?_
  refine r_istore X (by decide) dX12_lets_3 ?_
  exact zW.loc5 (by rfl) (by rfl) (by rfl) (by rfl) (by rfl) (L5 9 _ _ (by decide) (by decide) (by rw [show Int32.toInt 0 = 0 from rfl]; omega) (by rfl))
set_option maxHeartbeats 4000000 in
set_option maxRecDepth 100000 in
theorem c_X12_spreads (l : Launch) (G : zG) (z : Nat) (τ : Nat → Option (Nat × Nat)) (ρ : Nat → Nat → Option Nat) (ι : Nat → Nat → Int32) (κ : Nat → Nat → Int64) {B c : Nat} (hL : zLay τ ρ B c) (hJ : zJ B c ι) : zM l G yX12_spreads cX12_spreads 5 none ({ frames := 1, cells := 0, slots := 0, locals := 25 } : Room) [.ref (B + 38)] (z, τ, ρ, ι, κ) (fun v s => v = none ∧ ∃ ι2, s = (z, τ, ρ, ι2, κ) ∧ zFm B ι ι2 ∧ (∀ k, k < 65 → (ι2 (B + 61) k).toInt = ((zSpr (zFs B ι c) 29575 k : Nat) : Int))) 0 0 := by
  refine zM_of zCd_X12_spreads (Nat.le_of_ble_eq_true rfl) ?_
  intro E X hR hE
  subst hE
  show zW E G 5 (z, τ, ρ, ι, κ) 0 0 0 [(0, .ref (B + 38))] []
  have L35 : ∀ (m : Nat) (i : Int32) (ι1 : Nat → Nat → Int32), (65 - i.toInt).toNat < m → 0 ≤ i.toInt → i.toInt ≤ 65 → zFm B ι ι1 → (∀ k, k < 65 → (ι1 (B + 61) k).toInt = ((zSpr (zFs B ι c) (455 * i.toNatClampNeg) k : Nat) : Int)) → zW E G 5 (z, τ, ρ, ι1, κ) 0 0 35 [(0, .ref (B + 38)), (1, .int i)] [] := by
    intro m
    induction m with
    | zero => intro i ι1 h; omega
    | succ m ih => ?_
    intro i ι1 hm h0 h65 hf hV
    have hin := zclN h0
    have L43 : ∀ (hi65 : i.toInt < 65) (m2 : Nat) (j : Int32) (ι1 : Nat → Nat → Int32), (65 - j.toInt).toNat < m2 → 0 ≤ j.toInt → j.toInt ≤ 65 → zFm B ι ι1 → (∀ k, k < 65 → (ι1 (B + 61) k).toInt = ((zSpr (zFs B ι c) (455 * i.toNatClampNeg + 7 * j.toNatClampNeg) k : Nat) : Int)) → zW E G 5 (z, τ, ρ, ι1, κ) 0 0 43 [(0, .ref (B + 38)), (1, .int i), (2, .int j)] [] := by
      intro hi65 m2
      induction m2 with
      | zero => intro j ι1 h; omega
      | succ m2 ih2 => ?_
      intro j ι1 hm2 hj0 hj65 hf hV
      have hjn := zclN hj0
      have L52 : ∀ (hj65 : j.toInt < 65) (m3 : Nat) (q : Int32) (ι1 : Nat → Nat → Int32), (4 - q.toInt).toNat < m3 → -3 ≤ q.toInt → q.toInt ≤ 4 → zFm B ι ι1 → (∀ k, k < 65 → (ι1 (B + 61) k).toInt = ((zSpr (zFs B ι c) (455 * i.toNatClampNeg + 7 * j.toNatClampNeg + (q.toInt + 3).toNat) k : Nat) : Int)) → zW E G 5 (z, τ, ρ, ι1, κ) 0 0 52 [(0, .ref (B + 38)), (1, .int i), (2, .int j), (3, .int q)] [] := by
        intro hj65 m3
        induction m3 with
        | zero => intro q ι1 h; omega
        | succ m3 ih3 => ?_
        intro q ι1 hm3 hq0 hq4 hf hV
        obtain ⟨f, hfd⟩ : ∃ f, zSpr (zFs B ι c) (455 * i.toNatClampNeg + 7 * j.toNatClampNeg + (q.toInt + 3).toNat) = f := ⟨_, rfl⟩
        have hb9 : ∀ k, f k ≤ 999 := fun k => by rw [← hfd]; exact zSpr_999 _ _ k
        rw [hfd] at hV
        refine r_iload_n X (by rfl) dX12_spreads_52 ?_
        refine r_iconst X 4 (by decide) dX12_spreads_53 ?_
        refine r_icmp_ge X 130 dX12_spreads_54 (by decide) (fun h54 => ?_) (fun h54 => ?_)
        · rw [show Int32.toInt 4 = 4 from rfl] at h54
          have ej := zinc (x := j) (by omega)
          have ej2 : (j + 1).toNatClampNeg = j.toNatClampNeg + 1 := by have := zclN (i := j + 1) (by omega); omega
          refine r_iinc X 1 (by decide) (by rfl) (by decide) dX12_spreads_130 ?_
          refine r_goto X 43 dX12_spreads_133 (by decide) ?_
          exact zW.loc3 (by rfl) (by rfl) (by rfl) (ih2 _ _ (by rw [ej]; omega) (by rw [ej]; omega) (by rw [ej]; omega) hf (by rw [ej2, show 455 * i.toNatClampNeg + 7 * (j.toNatClampNeg + 1) = 455 * i.toNatClampNeg + 7 * j.toNatClampNeg + (q.toInt + 3).toNat by omega, hfd]; exact hV))
        · rw [show Int32.toInt 4 = 4 from rfl] at h54
          have eq := zinc (x := q) (by omega)
          have ea := zaddI (x := j) (y := q) (by omega) (by omega)
          obtain ⟨w, hw, ew⟩ : ∃ w, j + q = w ∧ w.toInt = j.toInt + q.toInt := ⟨_, rfl, ea⟩
          clear ea
          refine r_iload_n X (by rfl) dX12_spreads_57 ?_
          refine r_iload_n X (by rfl) dX12_spreads_58 ?_
          refine r_iadd X dX12_spreads_59 ?_
          rw [hw]
          refine r_istore X (by decide) dX12_spreads_60 ?_
          refine r_iload_n X (by rfl) dX12_spreads_62 ?_
          refine r_if_eq X 124 dX12_spreads_63 (by decide) (fun h63 => ?_) (fun h63 => ?_)
          · have hno : ¬ (zEd (zFs B ι c) j.toNatClampNeg (q.toInt + 3).toNat = true ∧ f j.toNatClampNeg + 1 < f (j.toNatClampNeg + (q.toInt + 3).toNat - 3)) := fun h => (zEd_iff.mp h.1).1 (by rw [h63]; rfl)
            refine r_iinc X 1 (by decide) (by rfl) (by decide) dX12_spreads_124 ?_
            refine r_goto X 52 dX12_spreads_127 (by decide) ?_
            exact zW.loc4 (by rfl) (by rfl) (by rfl) (by rfl) (ih3 _ _ (by rw [eq]; omega) (by rw [eq]; omega) (by rw [eq]; omega) (by first | exact hf | exact hf.u (by unfold zCm; omega)) (by rw [eq, show 455 * i.toNatClampNeg + 7 * j.toNatClampNeg + (q.toInt + 1 + 3).toNat = 455 * i.toNatClampNeg + 7 * j.toNatClampNeg + (q.toInt + 3).toNat + 1 by omega]; rw [zSpr_s, hfd]; first | exact zSpN (zTj (by omega) (by omega)).1 (zTj (by omega) (by omega)).2 hno hV | exact zSpY (zTj (by omega) (by omega)).1 (zTj (by omega) (by omega)).2 hyes.1 hyes.2 hV (by rw [e1, r1]; rfl) hwn))
          · refine r_iload X (by rfl) dX12_spreads_66 ?_
            refine r_i2l X dX12_spreads_68 ?_
            refine r_lconst X 0 (by decide) dX12_spreads_69 ?_
            refine r_ldc2 X zK_X12_239 dX12_spreads_70 ?_
            refine r_callS X dX12_spreads_73 zLS_X12_163 zCd_X12_in (c_X12_in _ G z τ ρ _ _ _ _ _) rfl rfl ⟨⟨rfl, rfl⟩, ⟨by decide, by decide⟩, ⟨Nat.le_of_ble_eq_true rfl, Nat.le_of_ble_eq_true rfl⟩, Nat.le_of_ble_eq_true rfl⟩ ?_
            rintro _ _ ⟨rfl, rfl⟩
            rw [Int32.toInt_toInt64, show Int64.toInt 0 = 0 from rfl, show Int64.toInt 64 = 64 from rfl]
            refine r_if_eq X 124 dX12_spreads_76 (by decide) (fun h76 => ?_) (fun h76 => ?_)
            · have hno : ¬ (zEd (zFs B ι c) j.toNatClampNeg (q.toInt + 3).toNat = true ∧ f j.toNatClampNeg + 1 < f (j.toNatClampNeg + (q.toInt + 3).toNat - 3)) := fun h => zif0 h76 (by have := zEd_iff.mp h.1; omega)
              refine r_iinc X 1 (by decide) (by rfl) (by decide) dX12_spreads_124 ?_
              refine r_goto X 52 dX12_spreads_127 (by decide) ?_
              exact zW.loc4 (by rfl) (by rfl) (by rfl) (by rfl) (ih3 _ _ (by rw [eq]; omega) (by rw [eq]; omega) (by rw [eq]; omega) (by first | exact hf | exact hf.u (by unfold zCm; omega)) (by rw [eq, show 455 * i.toNatClampNeg + 7 * j.toNatClampNeg + (q.toInt + 1 + 3).toNat = 455 * i.toNatClampNeg + 7 * j.toNatClampNeg + (q.toInt + 3).toNat + 1 by omega]; rw [zSpr_s, hfd]; first | exact zSpN (zTj (by omega) (by omega)).1 (zTj (by omega) (by omega)).2 hno hV | exact zSpY (zTj (by omega) (by omega)).1 (zTj (by omega) (by omega)).2 hyes.1 hyes.2 hV (by rw [e1, r1]; rfl) hwn))
            · refine r_aload_n X (by rfl) dX12_spreads_79 ?_
              refine r_iload_n X (by rfl) dX12_spreads_80 ?_
              refine r_callS X dX12_spreads_81 zLS_X12_199 zCd_X12_size (c_X12_size _ G z τ ρ _ _ _) rfl rfl ⟨⟨rfl, rfl⟩, ⟨by decide, by decide⟩, ⟨Nat.le_of_ble_eq_true rfl, Nat.le_of_ble_eq_true rfl⟩, Nat.le_of_ble_eq_true rfl⟩ ?_
              rintro _ _ ⟨rfl, rfl⟩
              refine r_iload_n X (by rfl) dX12_spreads_84 ?_
              refine r_callV X dX12_spreads_85 zLV_X12_241 zCd_X12_lets (c_X12_lets _ G z τ ρ _ _ hL (zJ_fm hJ hf) _ _) (zt hL 38 rfl) ⟨by decide, rfl, rfl⟩ rfl rfl ⟨⟨rfl, rfl⟩, ⟨by decide, by decide⟩, ⟨Nat.le_of_ble_eq_true rfl, Nat.le_of_ble_eq_true rfl⟩, Nat.le_of_ble_eq_true rfl⟩ ?_
              rintro _ _ ⟨rfl, rfl⟩
              rw [zLb_fm hf, zFs_q hq0 (by omega) h63]
              refine r_if_eq X 124 dX12_spreads_88 (by decide) (fun h88 => ?_) (fun h88 => ?_)
              · have hno : ¬ (zEd (zFs B ι c) j.toNatClampNeg (q.toInt + 3).toNat = true ∧ f j.toNatClampNeg + 1 < f (j.toNatClampNeg + (q.toInt + 3).toNat - 3)) := fun h => zif0 h88 (zEd_iff.mp h.1).2.2.2
                refine r_iinc X 1 (by decide) (by rfl) (by decide) dX12_spreads_124 ?_
                refine r_goto X 52 dX12_spreads_127 (by decide) ?_
                exact zW.loc4 (by rfl) (by rfl) (by rfl) (by rfl) (ih3 _ _ (by rw [eq]; omega) (by rw [eq]; omega) (by rw [eq]; omega) (by first | exact hf | exact hf.u (by unfold zCm; omega)) (by rw [eq, show 455 * i.toNatClampNeg + 7 * j.toNatClampNeg + (q.toInt + 1 + 3).toNat = 455 * i.toNatClampNeg + 7 * j.toNatClampNeg + (q.toInt + 3).toNat + 1 by omega]; rw [zSpr_s, hfd]; first | exact zSpN (zTj (by omega) (by omega)).1 (zTj (by omega) (by omega)).2 hno hV | exact zSpY (zTj (by omega) (by omega)).1 (zTj (by omega) (by omega)).2 hyes.1 hyes.2 hV (by rw [e1, r1]; rfl) hwn))
              · have hin2 := zif1 h76
                have hq3 : (q.toInt + 3).toNat ≠ 3 := fun h => h63 (Int32.toInt_inj.mp (by rw [show Int32.toInt 0 = 0 from rfl]; omega))
                have hwn : w.toNatClampNeg = j.toNatClampNeg + (q.toInt + 3).toNat - 3 := by have := zclN (i := w) hin2.1; omega
                have r1 := hV j.toNatClampNeg (by omega)
                have r2 := hV w.toNatClampNeg (by omega)
                rw [hwn] at r2
                have b1 := hb9 j.toNatClampNeg
                have e1 := zinc (x := ι1 (B + 61) j.toNatClampNeg) (by omega)
                refine r_aload_n X (by rfl) dX12_spreads_91 ?_
                refine r_getR X dX12_spreads_92 zF_X12_83 (zt hL 38 rfl) (zrf hL 58 rfl) ?_
                refine r_iload_n X (by rfl) dX12_spreads_95 ?_
                refine r_iaload X dX12_spreads_96 (zt hL 61 rfl) (vp_in_iff.mpr ⟨by omega, by omega⟩) ?_
                refine r_iconst X 1 (by decide) dX12_spreads_97 ?_
                refine r_iadd X dX12_spreads_98 ?_
                refine r_aload_n X (by rfl) dX12_spreads_99 ?_
                refine r_getR X dX12_spreads_100 zF_X12_83 (zt hL 38 rfl) (zrf hL 58 rfl) ?_
                refine r_iload X (by rfl) dX12_spreads_103 ?_
                refine r_iaload X dX12_spreads_105 (zt hL 61 rfl) (by have := zif1 h76; exact vp_in_iff.mpr ⟨by omega, by omega⟩) ?_
                rw [hwn]
                refine r_icmp_ge X 124 dX12_spreads_106 (by decide) (fun h106 => ?_) (fun h106 => ?_)
                · have hno : ¬ (zEd (zFs B ι c) j.toNatClampNeg (q.toInt + 3).toNat = true ∧ f j.toNatClampNeg + 1 < f (j.toNatClampNeg + (q.toInt + 3).toNat - 3)) := fun h => by have := h.2; omega
                  refine r_iinc X 1 (by decide) (by rfl) (by decide) dX12_spreads_124 ?_
                  refine r_goto X 52 dX12_spreads_127 (by decide) ?_
                  exact zW.loc4 (by rfl) (by rfl) (by rfl) (by rfl) (ih3 _ _ (by rw [eq]; omega) (by rw [eq]; omega) (by rw [eq]; omega) (by first | exact hf | exact hf.u (by unfold zCm; omega)) (by rw [eq, show 455 * i.toNatClampNeg + 7 * j.toNatClampNeg + (q.toInt + 1 + 3).toNat = 455 * i.toNatClampNeg + 7 * j.toNatClampNeg + (q.toInt + 3).toNat + 1 by omega]; rw [zSpr_s, hfd]; first | exact zSpN (zTj (by omega) (by omega)).1 (zTj (by omega) (by omega)).2 hno hV | exact zSpY (zTj (by omega) (by omega)).1 (zTj (by omega) (by omega)).2 hyes.1 hyes.2 hV (by rw [e1, r1]; rfl) hwn))
                · have hyes := (And.intro ((zEd_iff (k := j.toNatClampNeg) (i := (q.toInt + 3).toNat)).mpr ⟨hq3, by omega, by omega, zif1 h88⟩) (show f j.toNatClampNeg + 1 < f (j.toNatClampNeg + (q.toInt + 3).toNat - 3) by omega))
                  refine r_aload_n X (by rfl) dX12_spreads_109 ?_
                  refine r_getR X dX12_spreads_110 zF_X12_83 (zt hL 38 rfl) (zrf hL 58 rfl) ?_
                  refine r_iload X (by rfl) dX12_spreads_113 ?_
                  refine r_aload_n X (by rfl) dX12_spreads_115 ?_
                  refine r_getR X dX12_spreads_116 zF_X12_83 (zt hL 38 rfl) (zrf hL 58 rfl) ?_
                  refine r_iload_n X (by rfl) dX12_spreads_119 ?_
                  refine r_iaload X dX12_spreads_120 (zt hL 61 rfl) (vp_in_iff.mpr ⟨by omega, by omega⟩) ?_
                  refine r_iconst X 1 (by decide) dX12_spreads_121 ?_
                  refine r_iadd X dX12_spreads_122 ?_
                  refine r_iastore X dX12_spreads_123 (zt hL 61 rfl) (by have := zif1 h76; exact vp_in_iff.mpr ⟨by omega, by omega⟩) ?_
                  refine r_iinc X 1 (by decide) (by rfl) (by decide) dX12_spreads_124 ?_
                  refine r_goto X 52 dX12_spreads_127 (by decide) ?_
                  exact zW.loc4 (by rfl) (by rfl) (by rfl) (by rfl) (ih3 _ _ (by rw [eq]; omega) (by rw [eq]; omega) (by rw [eq]; omega) (by first | exact hf | exact hf.u (by unfold zCm; omega)) (by rw [eq, show 455 * i.toNatClampNeg + 7 * j.toNatClampNeg + (q.toInt + 1 + 3).toNat = 455 * i.toNatClampNeg + 7 * j.toNatClampNeg + (q.toInt + 3).toNat + 1 by omega]; rw [zSpr_s, hfd]; first | exact zSpN (zTj (by omega) (by omega)).1 (zTj (by omega) (by omega)).2 hno hV | exact zSpY (zTj (by omega) (by omega)).1 (zTj (by omega) (by omega)).2 hyes.1 hyes.2 hV (by rw [e1, r1]; rfl) hwn))
      refine r_iload_n X (by rfl) dX12_spreads_43 ?_
      refine r_bipush X 65 (by decide) dX12_spreads_44 ?_
      refine r_icmp_ge X 136 dX12_spreads_46 (by decide) (fun h46 => ?_) (fun h46 => ?_)
      · rw [show Int32.toInt 65 = 65 from rfl] at h46
        have ei := zinc (x := i) (by omega)
        have ei2 : (i + 1).toNatClampNeg = i.toNatClampNeg + 1 := by have := zclN (i := i + 1) (by omega); omega
        refine r_iinc X 1 (by decide) (by rfl) (by decide) dX12_spreads_136 ?_
        refine r_goto X 35 dX12_spreads_139 (by decide) ?_
        exact zW.loc2 (by rfl) (by rfl) (ih _ _ (by rw [ei]; omega) (by rw [ei]; omega) (by rw [ei]; omega) hf (by rw [ei2, show 455 * (i.toNatClampNeg + 1) = 455 * i.toNatClampNeg + 7 * j.toNatClampNeg by omega]; exact hV))
      · rw [show Int32.toInt 65 = 65 from rfl] at h46
        refine r_bipush X (-3) (by decide) dX12_spreads_49 ?_
        refine r_istore_n X (by decide) dX12_spreads_51 ?_
        exact zW.loc4 (by rfl) (by rfl) (by rfl) (by rfl) (L52 h46 8 _ _ (by decide) (by decide) (by decide) hf (by rw [show (Int32.toInt (-3) + 3).toNat = 0 from rfl]; exact hV))
    refine r_iload_n X (by rfl) dX12_spreads_35 ?_
    refine r_bipush X 65 (by decide) dX12_spreads_36 ?_
    refine r_icmp_ge X 142 dX12_spreads_38 (by decide) (fun h38 => ?_) (fun h38 => ?_)
    · rw [show Int32.toInt 65 = 65 from rfl] at h38
      refine r_return X hR dX12_spreads_142 (Nat.zero_le _) (Nat.zero_le _) ?_
      have hi5 : i.toNatClampNeg = 65 := by omega
      rw [hi5] at hV
      exact ⟨rfl, _, rfl, hf, hV⟩
    · rw [show Int32.toInt 65 = 65 from rfl] at h38
      refine r_iconst X 0 (by decide) dX12_spreads_41 ?_
      refine r_istore_n X (by decide) dX12_spreads_42 ?_
      exact zW.loc3 (by rfl) (by rfl) (by rfl) (L43 h38 66 0 _ (by decide) (by decide) (by decide) hf (by rw [show Int32.toNatClampNeg 0 = 0 from rfl, Nat.mul_zero, Nat.add_zero]; exact hV))
  have L2 : ∀ (m : Nat) (i : Int32) (ι1 : Nat → Nat → Int32), (65 - i.toInt).toNat < m → 0 ≤ i.toInt → zFm B ι ι1 → (∀ k : Nat, k < 65 → (k : Int) < i.toInt → (ι1 (B + 61) k).toInt = ((zSpr (zFs B ι c) 0 k : Nat) : Int)) → zW E G 5 (z, τ, ρ, ι1, κ) 0 0 2 [(0, .ref (B + 38)), (1, .int i)] [] := by
    intro m
    induction m with
    | zero => intro i ι1 h; omega
    | succ m ih => ?_
    intro i ι1 hm h0 hf hz
    have hin := zclN h0
    refine r_iload_n X (by rfl) dX12_spreads_2 ?_
    refine r_bipush X 65 (by decide) dX12_spreads_3 ?_
    refine r_icmp_ge X 33 dX12_spreads_5 (by decide) (fun h5 => ?_) (fun h5 => ?_)
    · rw [show Int32.toInt 65 = 65 from rfl] at h5
      refine r_iconst X 0 (by decide) dX12_spreads_33 ?_
      refine r_istore_n X (by decide) dX12_spreads_34 ?_
      exact zW.loc2 (by rfl) (by rfl) (L35 66 0 _ (by decide) (by decide) (by decide) hf (by rw [show Int32.toNatClampNeg 0 = 0 from rfl, Nat.mul_zero]; exact fun k hk => hz k hk (by omega)))
    · rw [show Int32.toInt 65 = 65 from rfl] at h5
      have ei := zinc (x := i) (by omega)
      refine r_aload_n X (by rfl) dX12_spreads_8 ?_
      refine r_getR X dX12_spreads_9 zF_X12_83 (zt hL 38 rfl) (zrf hL 58 rfl) ?_
      refine r_iload_n X (by rfl) dX12_spreads_12 ?_
      refine r_iload_n X (by rfl) dX12_spreads_13 ?_
      refine r_bipush X 32 (by decide) dX12_spreads_14 ?_
      refine r_icmp_ne X 23 dX12_spreads_16 (by decide) (fun h16 => ?_) (fun h16 => ?_)
      · refine r_sipush X 999 (by decide) dX12_spreads_23 ?_
        refine r_iastore X dX12_spreads_26 (zt hL 61 rfl) (vp_in_iff.mpr ⟨h0, by omega⟩) ?_
        refine r_iinc X 1 (by decide) (by rfl) (by decide) dX12_spreads_27 ?_
        refine r_goto X 2 dX12_spreads_30 (by decide) ?_
        exact zW.loc2 (by rfl) (by rfl) (ih _ _ (by rw [ei]; omega) (by rw [ei]; omega) (hf.u (by unfold zCm; omega)) (fun k h65 hk => by
          rw [ei] at hk
          by_cases q : k = i.toNatClampNeg
          · subst q; rw [zu_s]; first | exact zSp0 h16 | exact zSp1 h0 h16
          · rw [zu_k q]; exact hz k h65 (by omega)))
      · refine r_iconst X 0 (by decide) dX12_spreads_19 ?_
        refine r_goto X 26 dX12_spreads_20 (by decide) ?_
        refine r_iastore X dX12_spreads_26 (zt hL 61 rfl) (vp_in_iff.mpr ⟨h0, by omega⟩) ?_
        refine r_iinc X 1 (by decide) (by rfl) (by decide) dX12_spreads_27 ?_
        refine r_goto X 2 dX12_spreads_30 (by decide) ?_
        exact zW.loc2 (by rfl) (by rfl) (ih _ _ (by rw [ei]; omega) (by rw [ei]; omega) (hf.u (by unfold zCm; omega)) (fun k h65 hk => by
          rw [ei] at hk
          by_cases q : k = i.toNatClampNeg
          · subst q; rw [zu_s]; first | exact zSp0 h16 | exact zSp1 h0 h16
          · rw [zu_k q]; exact hz k h65 (by omega)))
  refine r_iconst X 0 (by decide) dX12_spreads_0 ?_
  refine r_istore_n X (by decide) dX12_spreads_1 ?_
  exact zW.loc2 (by rfl) (by rfl) (L2 66 _ _ (by decide) (by decide) zFm.rfl (fun k _ hk => by rw [show Int32.toInt 0 = 0 from rfl] at hk; omega))
set_option maxHeartbeats 4000000 in
set_option maxRecDepth 100000 in
theorem c_X12_leastTo (l : Launch) (G : zG) (z : Nat) (τ : Nat → Option (Nat × Nat)) (ρ : Nat → Nat → Option Nat) (ι : Nat → Nat → Int32) (κ : Nat → Nat → Int64) {B c : Nat} (hL : zLay τ ρ B c) (x y u : Int32) (x0 : -32 ≤ x.toInt ∧ x.toInt ≤ 32) (y0 : -32 ≤ y.toInt ∧ y.toInt ≤ 32) (u0 : -32 ≤ u.toInt ∧ u.toInt ≤ 32) (L : Nat → Nat) (hV : ∀ k, k < 65 → (ι (B + 61) k).toInt = ((L k : Nat) : Int)) (hb : ∀ k, L k ≤ 999) (a b d : Nat) (ha : zLk L x a) (hb1 : zLk L y b) (hd : zLk L u d) : zM l G yX12_leastTo cX12_leastTo 5 (some .int) ({ frames := 0, cells := 0, slots := 0, locals := 0 } : Room) [.ref (B + 38), .int x, .int y, .int u] (z, τ, ρ, ι, κ) (fun v s => ∃ r, v = some (.int r) ∧ (a + b + d < 999 → r.toInt = ((a + b + d : Nat) : Int)) ∧ (999 ≤ a + b + d → r.toInt = -1) ∧ s = (z, τ, ρ, ι, κ)) 0 0 := by
  refine zM_of zCd_X12_leastTo (Nat.le_of_ble_eq_true rfl) ?_
  intro E X hR hE
  subst hE
  show zW E G 5 (z, τ, ρ, ι, κ) 0 0 0 [(0, .ref (B + 38)), (1, .int x), (2, .int y), (3, .int u)] []
  unfold zLk at ha hb1 hd
  subst ha hb1 hd
  have ex := zaddI (x := 32) (y := x) (by rw [show Int32.toInt 32 = 32 from rfl]; omega) (by rw [show Int32.toInt 32 = 32 from rfl]; omega)
  rw [show Int32.toInt 32 = 32 from rfl] at ex
  have nx : (32 + x).toNatClampNeg = (32 + x.toInt).toNat := by have := zclN (i := 32 + x) (by omega); omega
  have rx := hV (32 + x.toInt).toNat (by omega)
  have bbx := hb (32 + x.toInt).toNat
  have ey := zaddI (x := 32) (y := y) (by rw [show Int32.toInt 32 = 32 from rfl]; omega) (by rw [show Int32.toInt 32 = 32 from rfl]; omega)
  rw [show Int32.toInt 32 = 32 from rfl] at ey
  have ny : (32 + y).toNatClampNeg = (32 + y.toInt).toNat := by have := zclN (i := 32 + y) (by omega); omega
  have ry := hV (32 + y.toInt).toNat (by omega)
  have bby := hb (32 + y.toInt).toNat
  have eu := zaddI (x := 32) (y := u) (by rw [show Int32.toInt 32 = 32 from rfl]; omega) (by rw [show Int32.toInt 32 = 32 from rfl]; omega)
  rw [show Int32.toInt 32 = 32 from rfl] at eu
  have nu : (32 + u).toNatClampNeg = (32 + u.toInt).toNat := by have := zclN (i := 32 + u) (by omega); omega
  have ru := hV (32 + u.toInt).toNat (by omega)
  have bbu := hb (32 + u.toInt).toNat
  have s1 := zaddI (x := ι (B + 61) (32 + x).toNatClampNeg) (y := ι (B + 61) (32 + y).toNatClampNeg) (by rw [nx, ny]; omega) (by rw [nx, ny]; omega)
  have s2 := zaddI (x := ι (B + 61) (32 + x).toNatClampNeg + ι (B + 61) (32 + y).toNatClampNeg) (y := ι (B + 61) (32 + u).toNatClampNeg) (by rw [s1, nx, ny, nu]; omega) (by rw [s1, nx, ny, nu]; omega)
  have s3 : (ι (B + 61) (32 + x).toNatClampNeg + ι (B + 61) (32 + y).toNatClampNeg + ι (B + 61) (32 + u).toNatClampNeg).toInt = ((L (32 + x.toInt).toNat + L (32 + y.toInt).toNat + L (32 + u.toInt).toNat : Nat) : Int) := by rw [s2, s1, nx, ny, nu]; omega
  clear s1 s2
  refine r_aload_n X (by rfl) dX12_leastTo_0 ?_
  refine r_getR X dX12_leastTo_1 zF_X12_83 (zt hL 38 rfl) (zrf hL 58 rfl) ?_
  refine r_bipush X 32 (by decide) dX12_leastTo_4 ?_
  refine r_iload_n X (by rfl) dX12_leastTo_6 ?_
  refine r_iadd X dX12_leastTo_7 ?_
  refine r_iaload X dX12_leastTo_8 (zt hL 61 rfl) (vp_in_iff.mpr ⟨by omega, by omega⟩) ?_
  refine r_aload_n X (by rfl) dX12_leastTo_9 ?_
  refine r_getR X dX12_leastTo_10 zF_X12_83 (zt hL 38 rfl) (zrf hL 58 rfl) ?_
  refine r_bipush X 32 (by decide) dX12_leastTo_13 ?_
  refine r_iload_n X (by rfl) dX12_leastTo_15 ?_
  refine r_iadd X dX12_leastTo_16 ?_
  refine r_iaload X dX12_leastTo_17 (zt hL 61 rfl) (vp_in_iff.mpr ⟨by omega, by omega⟩) ?_
  refine r_iadd X dX12_leastTo_18 ?_
  refine r_aload_n X (by rfl) dX12_leastTo_19 ?_
  refine r_getR X dX12_leastTo_20 zF_X12_83 (zt hL 38 rfl) (zrf hL 58 rfl) ?_
  refine r_bipush X 32 (by decide) dX12_leastTo_23 ?_
  refine r_iload_n X (by rfl) dX12_leastTo_25 ?_
  refine r_iadd X dX12_leastTo_26 ?_
  refine r_iaload X dX12_leastTo_27 (zt hL 61 rfl) (vp_in_iff.mpr ⟨by omega, by omega⟩) ?_
  refine r_iadd X dX12_leastTo_28 ?_
  refine r_istore X (by decide) dX12_leastTo_29 ?_
  refine r_iload X (by rfl) dX12_leastTo_31 ?_
  refine r_sipush X 999 (by decide) dX12_leastTo_33 ?_
  refine r_icmp_ge X 44 dX12_leastTo_36 (by decide) (fun h36 => ?_) (fun h36 => ?_)
  · rw [show Int32.toInt 999 = 999 from rfl] at h36
    refine r_iconst X (-1) (by decide) dX12_leastTo_44 ?_
    refine r_ireturn X hR dX12_leastTo_45 rfl (Nat.zero_le _) (Nat.zero_le _) ?_
    first | exact ⟨_, rfl, fun _ => by rw [show Int32.toInt (-1) = -1 from rfl]; omega, fun _ => by rw [show Int32.toInt (-1) = -1 from rfl], rfl⟩ | exact ⟨_, rfl, fun _ => by omega, fun _ => by omega, rfl⟩
  · rw [show Int32.toInt 999 = 999 from rfl] at h36
    refine r_iload X (by rfl) dX12_leastTo_39 ?_
    refine r_goto X 45 dX12_leastTo_41 (by decide) ?_
    refine r_ireturn X hR dX12_leastTo_45 rfl (Nat.zero_le _) (Nat.zero_le _) ?_
    first | exact ⟨_, rfl, fun _ => by rw [show Int32.toInt (-1) = -1 from rfl]; omega, fun _ => by rw [show Int32.toInt (-1) = -1 from rfl], rfl⟩ | exact ⟨_, rfl, fun _ => by omega, fun _ => by omega, rfl⟩
set_option maxHeartbeats 4000000 in
set_option maxRecDepth 100000 in
theorem c_X12_fewest (l : Launch) (G : zG) (z : Nat) (τ : Nat → Option (Nat × Nat)) (ρ : Nat → Nat → Option Nat) (ι : Nat → Nat → Int32) (κ : Nat → Nat → Int64) {B c : Nat} (hL : zLay τ ρ B c) (hJ : zJ B c ι) (x y u : Int32) : zM l G yX12_fewest cX12_fewest 4 (some .int) ({ frames := 2, cells := 0, slots := 0, locals := 49 } : Room) [.ref (B + 38), .int x, .int y, .int u] (z, τ, ρ, ι, κ) (fun v s => ∃ r ι2, v = some (.int r) ∧ s = (z, τ, ρ, ι2, κ) ∧ zFm B ι ι2 ∧ ((¬ ((-8 ≤ x.toInt ∧ x.toInt ≤ 8) ∧ (-8 ≤ y.toInt ∧ y.toInt ≤ 8) ∧ (-8 ≤ u.toInt ∧ u.toInt ≤ 8)) ∧ r = -2) ∨ (((-8 ≤ x.toInt ∧ x.toInt ≤ 8) ∧ (-8 ≤ y.toInt ∧ y.toInt ≤ 8) ∧ (-8 ≤ u.toInt ∧ u.toInt ≤ 8)) ∧ (zSpr (zFs B ι c) 29575 (32 + x.toInt).toNat + zSpr (zFs B ι c) 29575 (32 + y.toInt).toNat + zSpr (zFs B ι c) 29575 (32 + u.toInt).toNat < 999 → r.toInt = ((zSpr (zFs B ι c) 29575 (32 + x.toInt).toNat + zSpr (zFs B ι c) 29575 (32 + y.toInt).toNat + zSpr (zFs B ι c) 29575 (32 + u.toInt).toNat : Nat) : Int)) ∧ (999 ≤ zSpr (zFs B ι c) 29575 (32 + x.toInt).toNat + zSpr (zFs B ι c) 29575 (32 + y.toInt).toNat + zSpr (zFs B ι c) 29575 (32 + u.toInt).toNat → r.toInt = -1)))) 0 0 := by
  refine zM_of zCd_X12_fewest (Nat.le_of_ble_eq_true rfl) ?_
  intro E X hR hE
  subst hE
  show zW E G 4 (z, τ, ρ, ι, κ) 0 0 0 [(0, .ref (B + 38)), (1, .int x), (2, .int y), (3, .int u)] []
  refine r_iload_n X (by rfl) dX12_fewest_0 ?_
  refine r_callS X dX12_fewest_1 zLS_X12_249 zCd_X12_isPower (c_X12_isPower _ G z τ ρ _ _ _) rfl rfl ⟨⟨rfl, rfl⟩, ⟨by decide, by decide⟩, ⟨Nat.le_of_ble_eq_true rfl, Nat.le_of_ble_eq_true rfl⟩, Nat.le_of_ble_eq_true rfl⟩ ?_
  rintro _ _ ⟨rfl, rfl⟩
  refine r_if_eq X 21 dX12_fewest_4 (by decide) (fun h4 => ?_) (fun h4 => ?_)
  · refine r_bipush X (-2) (by decide) dX12_fewest_21 ?_
    refine r_ireturn X hR dX12_fewest_23 rfl (Nat.zero_le _) (Nat.zero_le _) ?_
    exact ⟨_, _, rfl, rfl, zFm.rfl, Or.inl ⟨fun hP => by first | exact zif0 h4 hP.1 | exact zif0 h11 hP.2.1 | exact zif0 h18 hP.2.2, rfl⟩⟩
  · refine r_iload_n X (by rfl) dX12_fewest_7 ?_
    refine r_callS X dX12_fewest_8 zLS_X12_249 zCd_X12_isPower (c_X12_isPower _ G z τ ρ _ _ _) rfl rfl ⟨⟨rfl, rfl⟩, ⟨by decide, by decide⟩, ⟨Nat.le_of_ble_eq_true rfl, Nat.le_of_ble_eq_true rfl⟩, Nat.le_of_ble_eq_true rfl⟩ ?_
    rintro _ _ ⟨rfl, rfl⟩
    refine r_if_eq X 21 dX12_fewest_11 (by decide) (fun h11 => ?_) (fun h11 => ?_)
    · refine r_bipush X (-2) (by decide) dX12_fewest_21 ?_
      refine r_ireturn X hR dX12_fewest_23 rfl (Nat.zero_le _) (Nat.zero_le _) ?_
      exact ⟨_, _, rfl, rfl, zFm.rfl, Or.inl ⟨fun hP => by first | exact zif0 h4 hP.1 | exact zif0 h11 hP.2.1 | exact zif0 h18 hP.2.2, rfl⟩⟩
    · refine r_iload_n X (by rfl) dX12_fewest_14 ?_
      refine r_callS X dX12_fewest_15 zLS_X12_249 zCd_X12_isPower (c_X12_isPower _ G z τ ρ _ _ _) rfl rfl ⟨⟨rfl, rfl⟩, ⟨by decide, by decide⟩, ⟨Nat.le_of_ble_eq_true rfl, Nat.le_of_ble_eq_true rfl⟩, Nat.le_of_ble_eq_true rfl⟩ ?_
      rintro _ _ ⟨rfl, rfl⟩
      refine r_if_ne X 24 dX12_fewest_18 (by decide) (fun h18 => ?_) (fun h18 => ?_)
      · refine r_aload_n X (by rfl) dX12_fewest_24 ?_
        refine r_callV X dX12_fewest_25 zLV_X12_252 zCd_X12_spreads (c_X12_spreads _ G z τ ρ _ _ hL hJ) (zt hL 38 rfl) ⟨by decide, rfl, rfl⟩ rfl rfl ⟨⟨rfl, rfl⟩, ⟨by decide, by decide⟩, ⟨Nat.le_of_ble_eq_true rfl, Nat.le_of_ble_eq_true rfl⟩, Nat.le_of_ble_eq_true rfl⟩ ?_
        rintro _ _ ⟨rfl, ι2, rfl, hf2, hV⟩
        refine r_aload_n X (by rfl) dX12_fewest_28 ?_
        refine r_iload_n X (by rfl) dX12_fewest_29 ?_
        refine r_iload_n X (by rfl) dX12_fewest_30 ?_
        refine r_iload_n X (by rfl) dX12_fewest_31 ?_
        refine r_callV X dX12_fewest_32 zLV_X12_255 zCd_X12_leastTo (c_X12_leastTo _ G z τ ρ _ _ hL _ _ _ (by have := zif1 h4; omega) (by have := zif1 h11; omega) (by have := zif1 h18; omega) _ hV (zSpr_999 _ _) _ _ _ rfl rfl rfl) (zt hL 38 rfl) ⟨by decide, rfl, rfl⟩ rfl rfl ⟨⟨rfl, rfl⟩, ⟨by decide, by decide⟩, ⟨Nat.le_of_ble_eq_true rfl, Nat.le_of_ble_eq_true rfl⟩, Nat.le_of_ble_eq_true rfl⟩ ?_
        rintro _ _ ⟨r, rfl, hr1, hr2, rfl⟩
        refine r_ireturn X hR dX12_fewest_35 rfl (Nat.zero_le _) (Nat.zero_le _) ?_
        exact ⟨_, _, rfl, rfl, hf2, Or.inr ⟨⟨zif1 h4, zif1 h11, zif1 h18⟩, hr1, hr2⟩⟩
      · refine r_bipush X (-2) (by decide) dX12_fewest_21 ?_
        refine r_ireturn X hR dX12_fewest_23 rfl (Nat.zero_le _) (Nat.zero_le _) ?_
        exact ⟨_, _, rfl, rfl, zFm.rfl, Or.inl ⟨fun hP => by first | exact zif0 h4 hP.1 | exact zif0 h11 hP.2.1 | exact zif0 h18 hP.2.2, rfl⟩⟩
