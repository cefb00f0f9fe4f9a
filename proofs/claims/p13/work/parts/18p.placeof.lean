/-! the model's store of PLACES (wip/gen16/spec_pc.py) -/
/-- the PLACE of v on SCALE j, not TURNED, on LONG L -/
noncomputable def zNv (B : Nat) (ι : Nat → Nat → Int32) (j v : Nat) (L : Int) : Int := zPzN v (ι (B + 41) j).toNatClampNeg (ι (B + 40) j).toInt L
theorem zNv_fq {B j v : Nat} {L : Int} {ι ι2 : Nat → Nat → Int32} (h : zFq B ι ι2) : zNv B ι2 j v L = zNv B ι j v L := by
  unfold zNv
  rw [h (B + 41) j (by unfold zCq; omega), h (B + 40) j (by unfold zCq; omega)]
/-- what the store holds -/
def zPsM (B c : Nat) (ι : Nat → Nat → Int32) : Prop := ∀ j v : Nat, j < 8 → 100 ≤ v → v ≤ 100000 → ι (B + 58) (100001 * j + v) = 0 ∨ (j < c ∧ (100 ≤ (ι (B + 38) 24).toInt ∧ (ι (B + 38) 24).toInt ≤ 50000) ∧ (ι (B + 58) (100001 * j + v)).toInt = 1000000 + zNv B ι j v (ι (B + 38) 24).toInt)
/-- the PLACE that the model answers -/
noncomputable def zPm (B : Nat) (ι : Nat → Nat → Int32) (x y : Int32) : Int32 := if ι (B + 42) x.toNatClampNeg = 0 then Int32.ofInt (zNv B ι x.toNatClampNeg y.toNatClampNeg (ι (B + 38) 0).toInt) else ι (B + 38) 0 - Int32.ofInt (zNv B ι x.toNatClampNeg y.toNatClampNeg (ι (B + 38) 0).toInt)
theorem zPm_fq {B : Nat} {ι ι2 : Nat → Nat → Int32} (h : zFq B ι ι2) (x y : Int32) : zPm B ι2 x y = zPm B ι x y := by
  unfold zPm
  rw [zNv_fq h, h (B + 42) _ (by unfold zCq; omega), h (B + 38) 0 (by unfold zCq; omega)]
theorem zNv_b {B c j v : Nat} {ι : Nat → Nat → Int32} {L : Int} (hJ : zJ B c ι) (hj : j < c) (h0 : 100 ≤ v) (h1 : v ≤ 100000) (l0 : 100 ≤ L) (l1 : L ≤ 50000) : -400001 ≤ zNv B ι j v L ∧ zNv B ι j v L ≤ 400001 := by
  obtain ⟨hp, hf, -, -⟩ := hJ.2.2.2.2.2.2 j hj
  have hfc := zclN (i := ι (B + 41) j) (by omega)
  obtain ⟨-, -, b3, b4⟩ := zPzN_b (X := v) (g := (ι (B + 41) j).toNatClampNeg) (u := (ι (B + 40) j).toInt) (L := L) h0 h1 (by omega) (by omega) hp.1 hp.2 l0 l1
  exact ⟨b3, b4⟩
theorem zixG {x v : Int32} (h0 : 0 ≤ x.toInt) (h1 : x.toInt < 8) (h2 : 100 ≤ v.toInt) (h3 : v.toInt ≤ 100000) : ∃ w, 100001 * x + v = w ∧ 0 ≤ w.toInt ∧ w.toInt < 800008 ∧ w.toNatClampNeg = 100001 * x.toNatClampNeg + v.toNatClampNeg := by
  have e1 : (100001 * x).toInt = 100001 * x.toInt := by rw [zmulI (x := 100001) (y := x) (by rw [show (100001 : Int32).toInt = 100001 from rfl]; omega) (by rw [show (100001 : Int32).toInt = 100001 from rfl]; omega)]; rfl
  have e2 : (100001 * x + v).toInt = 100001 * x.toInt + v.toInt := by rw [zaddI (x := 100001 * x) (y := v) (by rw [e1]; omega) (by rw [e1]; omega), e1]
  obtain ⟨w, hw⟩ : ∃ w, 100001 * x + v = w := ⟨_, rfl⟩
  rw [hw] at e2
  have a1 := zclN h0
  have a2 := zclN (i := v) (by omega)
  have a3 := zclN (i := w) (by omega)
  exact ⟨w, hw, by omega, by omega, by omega⟩
theorem zPsM_z {B c : Nat} {ι : Nat → Nat → Int32} (h : ∀ k : Nat, k < 800008 → ι (B + 58) k = 0) : zPsM B c ι := fun j v hj _ hv => Or.inl (h _ (by omega))
/-- a PLACE is put into the store -/
theorem zPsM_u {B c j v : Nat} {r : Int32} {ι : Nat → Nat → Int32} (hM : zPsM B c ι) (hj : j < c) (h8 : c ≤ 8) (h0 : 100 ≤ v) (h1 : v ≤ 100000) (l0 : 100 ≤ (ι (B + 38) 24).toInt ∧ (ι (B + 38) 24).toInt ≤ 50000) (hr : r.toInt = 1000000 + zNv B ι j v (ι (B + 38) 24).toInt) : zPsM B c (zu ι (B + 58) (100001 * j + v) r) := by
  have hq : zFq B ι (zu ι (B + 58) (100001 * j + v) r) := zFq.rfl.u (by unfold zCq; omega)
  intro j2 v2 hj2 g0 g1
  rw [zNv_fq hq, show zu ι (B + 58) (100001 * j + v) r (B + 38) 24 = ι (B + 38) 24 from zuo (by omega)]
  by_cases e : 100001 * j2 + v2 = 100001 * j + v
  · have e1 : j2 = j := by omega
    have e2 : v2 = v := by omega
    subst e1 e2
    rw [zu_s]
    exact Or.inr ⟨hj, l0, hr⟩
  · rw [zuo (by omega)]
    exact hM j2 v2 hj2 g0 g1

set_option maxHeartbeats 4000000 in
set_option maxRecDepth 100000 in
theorem e2_X12_placeOf (l : Launch) (G : zG) (z : Nat) (τ : Nat → Option (Nat × Nat)) (ρ : Nat → Nat → Option Nat) (ι : Nat → Nat → Int32) (κ : Nat → Nat → Int64) {B c : Nat} (hL : zLay τ ρ B c) (hJ : zJ B c ι) (x : Int32) (hx : 0 ≤ x.toInt ∧ x.toInt < (c : Int)) (y : Int32) (hy : 100 ≤ y.toInt ∧ y.toInt ≤ 100000) (hst : 100 ≤ (ι (B + 38) 0).toInt ∧ (ι (B + 38) 0).toInt ≤ 50000) (hM : zPsM B c ι) : zM l G yX12_placeOf cX12_placeOf 5 (some .int) ({ frames := 4, cells := 0, slots := 0, locals := 119 } : Room) [.ref (B + 38), .int x, .int y] (z, τ, ρ, ι, κ) (fun v s => ∃ ι2 κ2, v = some (.int (zPm B ι x y)) ∧ s = (z, τ, ρ, ι2, κ2) ∧ zFq B ι ι2 ∧ zPsM B c ι2) 0 0 := by
  refine zM_of zCd_X12_placeOf (Nat.le_of_ble_eq_true rfl) ?_
  intro E X hR hE
  subst hE
  show zW E G 5 (z, τ, ρ, ι, κ) 0 0 0 [(0, .ref (B + 38)), (1, .int x), (2, .int y)] []
  obtain ⟨h8, hJc, hm1, hm2, hm3, hm4, hm5⟩ := id hJ
  have hjc := zclN hx.1
  have hyc := zclN (i := y) (by omega)
  obtain ⟨w, hw, w0, w1, hwn⟩ := zixG (x := x) (v := y) hx.1 (by omega) hy.1 hy.2
  have hwc := zclN w0
  obtain ⟨nb0, nb1⟩ := zNv_b (v := y.toNatClampNeg) hJ (show x.toNatClampNeg < c by omega) (by omega) (by omega) hst.1 hst.2
  have L88 : ∀ (ι9 : Nat → Nat → Int32) (κ9 : Nat → Nat → Int64), zFq B ι ι9 → zPsM B c ι9 → (ι9 (B + 58) w.toNatClampNeg).toInt = 1000000 + zNv B ι x.toNatClampNeg y.toNatClampNeg (ι (B + 38) 0).toInt → zW E G 5 (z, τ, ρ, ι9, κ9) 0 0 88 [(0, .ref (B + 38)), (1, .int x), (2, .int y), (3, .int w)] [] := by
    intro ι9 κ9 hq2 hM2 hv
    have ep : (ι9 (B + 58) w.toNatClampNeg - 1000000).toInt = zNv B ι x.toNatClampNeg y.toNatClampNeg (ι (B + 38) 0).toInt := by rw [zsubI (by rw [hv, show Int32.toInt 1000000 = 1000000 from rfl]; omega) (by rw [hv, show Int32.toInt 1000000 = 1000000 from rfl]; omega), hv, show Int32.toInt 1000000 = 1000000 from rfl]; omega
    have ep2 : ι9 (B + 58) w.toNatClampNeg - 1000000 = Int32.ofInt (zNv B ι x.toNatClampNeg y.toNatClampNeg (ι (B + 38) 0).toInt) := Int32.toInt_inj.mp (by rw [ep, Int32.toInt_ofInt_of_le (by omega) (by omega)])
    have e42 : ι9 (B + 42) x.toNatClampNeg = ι (B + 42) x.toNatClampNeg := hq2 _ _ (by unfold zCq; omega)
    have e0 : ι9 (B + 38) 0 = (ι (B + 38) 0) := hq2 _ _ (by unfold zCq; omega)
    refine r_aload_n X (by rfl) dX12_placeOf_88 ?_
    refine r_getR X dX12_placeOf_89 zF_X12_74 (zt hL 38 rfl) (zrf hL 55 rfl) ?_
    refine r_iload_n X (by rfl) dX12_placeOf_92 ?_
    refine r_iaload X dX12_placeOf_93 (zt hL 58 rfl) (vp_in_iff.mpr ⟨w0, w1⟩) ?_
    refine r_ldc X zK_X12_159 dX12_placeOf_94 ?_
    refine r_isub X dX12_placeOf_96 ?_
    refine r_istore X (by decide) dX12_placeOf_97 ?_
    refine r_aload_n X (by rfl) dX12_placeOf_99 ?_
    refine r_getR X dX12_placeOf_100 zF_X12_24 (zt hL 38 rfl) (zrf hL 39 rfl) ?_
    refine r_iload_n X (by rfl) dX12_placeOf_103 ?_
    refine r_zaload X dX12_placeOf_104 (zt hL 42 rfl) (vp_in_iff.mpr ⟨by omega, by omega⟩) ?_
    refine r_if_eq X 118 dX12_placeOf_105 (by decide) (fun h105 => ?_) (fun h105 => ?_)
    · refine r_iload X (by rfl) dX12_placeOf_118 ?_
      refine r_ireturn X hR dX12_placeOf_120 rfl (Nat.zero_le _) (Nat.zero_le _) ?_
      exact ⟨_, _, by unfold zPm; rw [if_pos (by rw [← e42]; exact h105), ep2], rfl, hq2, hM2⟩
    · refine r_aload_n X (by rfl) dX12_placeOf_108 ?_
      refine r_getI X dX12_placeOf_109 zF_X12_7 (zt hL 38 rfl) ?_
      refine r_iload X (by rfl) dX12_placeOf_112 ?_
      refine r_isub X dX12_placeOf_114 ?_
      refine r_goto X 120 dX12_placeOf_115 (by decide) ?_
      refine r_ireturn X hR dX12_placeOf_120 rfl (Nat.zero_le _) (Nat.zero_le _) ?_
      exact ⟨_, _, by unfold zPm; rw [if_neg (fun q => h105 (by rw [e42]; exact q)), ep2, e0], rfl, hq2, hM2⟩
  have L40 : ∀ (ι1 : Nat → Nat → Int32), zFq B ι ι1 → ι1 (B + 38) 24 = (ι (B + 38) 0) → zPsM B c ι1 → zW E G 5 (z, τ, ρ, ι1, κ) 0 0 40 [(0, .ref (B + 38)), (1, .int x), (2, .int y)] [] := by
    intro ι1 hq hff hM1
    obtain ⟨-, -, -, -, -, -, g5⟩ := zJ_fq hJ hq
    obtain ⟨hp, hfo, -, -⟩ := g5 x.toNatClampNeg (by omega)
    have h10 := zL10 hfo.1 hfo.2
    have e41 : ι1 (B + 41) x.toNatClampNeg = ι (B + 41) x.toNatClampNeg := hq _ _ (by unfold zCq; omega)
    have e40 : ι1 (B + 40) x.toNatClampNeg = ι (B + 40) x.toNatClampNeg := hq _ _ (by unfold zCq; omega)
    have e00 : ι1 (B + 38) 0 = (ι (B + 38) 0) := hq _ _ (by unfold zCq; omega)
    have hfc := zclN (i := ι1 (B + 41) x.toNatClampNeg) (by omega)
    have enq : zNv B ι1 x.toNatClampNeg y.toNatClampNeg (ι1 (B + 38) 24).toInt = zNv B ι x.toNatClampNeg y.toNatClampNeg (ι (B + 38) 0).toInt := by rw [hff, zNv_fq hq]
    refine r_ldc X zK_X12_158 dX12_placeOf_40 ?_
    refine r_iload_n X (by rfl) dX12_placeOf_42 ?_
    refine r_imul X dX12_placeOf_43 ?_
    refine r_iload_n X (by rfl) dX12_placeOf_44 ?_
    refine r_iadd X dX12_placeOf_45 ?_
    rw [hw]
    refine r_istore_n X (by decide) dX12_placeOf_46 ?_
    refine r_aload_n X (by rfl) dX12_placeOf_47 ?_
    refine r_getR X dX12_placeOf_48 zF_X12_74 (zt hL 38 rfl) (zrf hL 55 rfl) ?_
    refine r_iload_n X (by rfl) dX12_placeOf_51 ?_
    refine r_iaload X dX12_placeOf_52 (zt hL 58 rfl) (vp_in_iff.mpr ⟨w0, w1⟩) ?_
    refine r_if_ne X 88 dX12_placeOf_53 (by decide) (fun h53 => ?_) (fun h53 => ?_)
    · have hq2 := hq
      have hM2 := hM1
      have hv : (ι1 (B + 58) w.toNatClampNeg).toInt = 1000000 + zNv B ι x.toNatClampNeg y.toNatClampNeg (ι (B + 38) 0).toInt := by
        rcases hM1 x.toNatClampNeg y.toNatClampNeg (by omega) (by omega) (by omega) with q | ⟨-, -, q⟩
        · rw [← hwn] at q; exact absurd q h53
        · rw [hwn, q, enq]
      exact zW.loc4 (by rfl) (by rfl) (by rfl) (by rfl) (L88 _ _ hq2 hM2 hv)
    · refine r_aload_n X (by rfl) dX12_placeOf_56 ?_
      refine r_getR X dX12_placeOf_57 zF_X12_74 (zt hL 38 rfl) (zrf hL 55 rfl) ?_
      refine r_iload_n X (by rfl) dX12_placeOf_60 ?_
      refine r_ldc X zK_X12_159 dX12_placeOf_61 ?_
      refine r_aload_n X (by rfl) dX12_placeOf_63 ?_
      refine r_iload_n X (by rfl) dX12_placeOf_64 ?_
      refine r_i2l X dX12_placeOf_65 ?_
      refine r_ldc2 X zK_X12_124 dX12_placeOf_66 ?_
      refine r_aload_n X (by rfl) dX12_placeOf_69 ?_
      refine r_getR X dX12_placeOf_70 zF_X12_21 (zt hL 38 rfl) (zrf hL 38 rfl) ?_
      refine r_iload_n X (by rfl) dX12_placeOf_73 ?_
      refine r_iaload X dX12_placeOf_74 (zt hL 41 rfl) (vp_in_iff.mpr ⟨by omega, by omega⟩) ?_
      refine r_i2l X dX12_placeOf_75 ?_
      refine r_lmul X dX12_placeOf_76 ?_
      refine r_aload_n X (by rfl) dX12_placeOf_77 ?_
      refine r_getR X dX12_placeOf_78 zF_X12_17 (zt hL 38 rfl) (zrf hL 37 rfl) ?_
      refine r_iload_n X (by rfl) dX12_placeOf_81 ?_
      refine r_iaload X dX12_placeOf_82 (zt hL 40 rfl) (vp_in_iff.mpr ⟨by omega, by omega⟩) ?_
      refine r_callV X dX12_placeOf_83 zLV_X12_151 zCd_X12_nearestOf (e2_X12_nearestOf _ G z τ ρ _ _ (zt hL 38 rfl) (zrf hL 49 rfl) (zrf hL 50 rfl) (zt hL 52 rfl) (zt hL 53 rfl) (by omega) (zrf hL 47 rfl) (zt hL 50 rfl) (zrf hL 48 rfl) (zrf hL 51 rfl) (zrf hL 52 rfl) (zrf hL 53 rfl) (zrf hL 54 rfl) (zt hL 51 rfl) (zt hL 54 rfl) (zt hL 55 rfl) (zt hL 56 rfl) (zt hL 57 rfl) (by omega) (by omega) (by omega) (by omega) (by omega) (by omega) (by omega) (by omega) (by omega) (by omega) (by omega) _ _ _ y.toNatClampNeg (ι1 (B + 41) x.toNatClampNeg).toNatClampNeg (by rw [Int32.toInt_toInt64]; omega) (by rw [zmulJ (x := 10) (by rw [Int32.toInt_toInt64, show (10 : Int64).toInt = 10 from rfl]; omega) (by rw [Int32.toInt_toInt64, show (10 : Int64).toInt = 10 from rfl]; omega), Int32.toInt_toInt64, show (10 : Int64).toInt = 10 from rfl]; omega) (by omega) (by omega) (by omega) (by omega) hp.1 hp.2 (by rw [e00]; exact hst)) (zt hL 38 rfl) ⟨by decide, rfl, rfl⟩ rfl rfl ⟨⟨rfl, rfl⟩, ⟨by decide, by decide⟩, ⟨Nat.le_of_ble_eq_true rfl, Nat.le_of_ble_eq_true rfl⟩, Nat.le_of_ble_eq_true rfl⟩ ?_
      rintro _ _ ⟨r, κ2, rfl, rfl, hr⟩
      have hr2 : r.toInt = zNv B ι x.toNatClampNeg y.toNatClampNeg (ι (B + 38) 0).toInt := by rw [hr, e00, e41, e40]; rfl
      have ers : (1000000 + r).toInt = 1000000 + zNv B ι x.toNatClampNeg y.toNatClampNeg (ι (B + 38) 0).toInt := by rw [zaddI (by rw [hr2, show Int32.toInt 1000000 = 1000000 from rfl]; omega) (by rw [hr2, show Int32.toInt 1000000 = 1000000 from rfl]; omega), hr2, show Int32.toInt 1000000 = 1000000 from rfl]
      have hq2 : zFq B ι (zu ι1 (B + 58) w.toNatClampNeg (1000000 + r)) := hq.u (by unfold zCq; omega)
      have hM2 : zPsM B c (zu ι1 (B + 58) w.toNatClampNeg (1000000 + r)) := by
        rw [hwn]
        exact zPsM_u hM1 (by omega) h8 (by omega) (by omega) (by rw [hff]; exact hst) (by rw [ers, enq])
      have hv : (zu ι1 (B + 58) w.toNatClampNeg (1000000 + r) (B + 58) w.toNatClampNeg).toInt = 1000000 + zNv B ι x.toNatClampNeg y.toNatClampNeg (ι (B + 38) 0).toInt := by rw [zu_s]; exact ers
      refine r_iadd X dX12_placeOf_86 ?_
      refine r_iastore X dX12_placeOf_87 (zt hL 58 rfl) (vp_in_iff.mpr ⟨w0, w1⟩) ?_
      exact zW.loc4 (by rfl) (by rfl) (by rfl) (by rfl) (L88 _ _ hq2 hM2 hv)
  have L21 : ∀ (m : Nat) (i : Int32) (ι1 : Nat → Nat → Int32), (800008 - i.toInt).toNat < m → 0 ≤ i.toInt → zFq B ι ι1 → ι1 (B + 38) 24 = (ι (B + 38) 0) → (∀ k : Nat, (k : Int) < i.toInt → ι1 (B + 58) k = 0) → zW E G 5 (z, τ, ρ, ι1, κ) 0 0 21 [(0, .ref (B + 38)), (1, .int x), (2, .int y), (3, .int i)] [] := by
    intro m
    induction m with
    | zero => intro i ι1 h; omega
    | succ m ih => ?_
    intro i ι1 hm h0 hq hff hz
    have hic := zclN h0
    refine r_iload_n X (by rfl) dX12_placeOf_21 ?_
    refine r_ldc X zK_X12_73 dX12_placeOf_22 ?_
    refine r_icmp_ge X 40 dX12_placeOf_24 (by decide) (fun h24 => ?_) (fun h24 => ?_)
    · rw [show Int32.toInt 800008 = 800008 from rfl] at h24
      exact zW.loc3 (by rfl) (by rfl) (by rfl) (L40 _ (by first | exact zFq.rfl | exact hq) (by first | exact h8 | exact hff) (by first | exact hM | exact zPsM_z (fun k hk => hz k (by omega))))
    · rw [show Int32.toInt 800008 = 800008 from rfl] at h24
      refine r_aload_n X (by rfl) dX12_placeOf_27 ?_
      refine r_getR X dX12_placeOf_28 zF_X12_74 (zt hL 38 rfl) (zrf hL 55 rfl) ?_
      refine r_iload_n X (by rfl) dX12_placeOf_31 ?_
      refine r_iconst X 0 (by decide) dX12_placeOf_32 ?_
      refine r_iastore X dX12_placeOf_33 (zt hL 58 rfl) (vp_in_iff.mpr ⟨h0, by omega⟩) ?_
      refine r_iinc X 1 (by decide) (by rfl) (by decide) dX12_placeOf_34 ?_
      refine r_goto X 21 dX12_placeOf_37 (by decide) ?_
      exact zW.loc4 (by rfl) (by rfl) (by rfl) (by rfl) (ih _ _ (by have e := zinc (x := i) (by omega); omega) (by have e := zinc (x := i) (by omega); omega) (hq.u (by unfold zCq; omega)) (by rw [zuo (by omega)]; exact hff) (fun k hk => by
        have e := zinc (x := i) (by omega)
        by_cases q : k = i.toNatClampNeg
        · subst q; rw [zu_s]
        · rw [zuo (by omega)]; exact hz k (by omega)))
  refine r_aload_n X (by rfl) dX12_placeOf_0 ?_
  refine r_getI X dX12_placeOf_1 zF_X12_155 (zt hL 38 rfl) ?_
  refine r_aload_n X (by rfl) dX12_placeOf_4 ?_
  refine r_getI X dX12_placeOf_5 zF_X12_7 (zt hL 38 rfl) ?_
  refine r_icmp_eq X 40 dX12_placeOf_8 (by decide) (fun h8 => ?_) (fun h8 => ?_)
  · exact zW.loc3 (by rfl) (by rfl) (by rfl) (L40 _ (by first | exact zFq.rfl | exact hq) (by first | exact h8 | exact hff) (by first | exact hM | exact zPsM_z (fun k hk => hz k (by omega))))
  · refine r_aload_n X (by rfl) dX12_placeOf_11 ?_
    refine r_aload_n X (by rfl) dX12_placeOf_12 ?_
    refine r_getI X dX12_placeOf_13 zF_X12_7 (zt hL 38 rfl) ?_
    refine r_putI X dX12_placeOf_16 zF_X12_155 (zt hL 38 rfl) rfl rfl ?_
    refine r_iconst X 0 (by decide) dX12_placeOf_19 ?_
    refine r_istore_n X (by decide) dX12_placeOf_20 ?_
    exact zW.loc4 (by rfl) (by rfl) (by rfl) (by rfl) (L21 800009 _ _ (by decide) (by decide) (zFq.rfl.u (by unfold zCq; omega)) (by rw [zu_s]) (fun k hk => by rw [show Int32.toInt 0 = 0 from rfl] at hk; omega))
