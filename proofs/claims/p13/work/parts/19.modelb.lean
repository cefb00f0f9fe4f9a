/-! the model: SCALES, calls (wip/gen/spec_i.py) -/
theorem zMt_fm {B j : Nat} {ι ι2 : Nat → Nat → Int32} (h : zFm B ι ι2) : zMk B ι2 j (ι2 (B + 43) j).toNatClampNeg = zMk B ι j (ι (B + 43) j).toNatClampNeg := by
  rw [zMk_fm h, h _ _ (by unfold zCm; omega)]
theorem zMt_fq {B j : Nat} {ι ι2 : Nat → Nat → Int32} (h : zFq B ι ι2) : zMk B ι2 j (ι2 (B + 43) j).toNatClampNeg = zMk B ι j (ι (B + 43) j).toNatClampNeg := by
  rw [zMk_fq h, h _ _ (by unfold zCq; omega)]
theorem zsz_ne {p l : Int32} (h : ¬ p = l) : ¬ (if (p - l).toInt < 0 then -(p - l) else p - l).toInt64 = 0 := fun q => by
  have h2 := congrArg Int64.toInt q
  rw [Int32.toInt_toInt64] at h2
  have h3 : (if (p - l).toInt < 0 then -(p - l) else p - l) = 0 := Int32.toInt_inj.mp (by rw [h2]; rfl)
  have h5 : p - l = 0 := by
    by_cases c : (p - l).toInt < 0
    · rw [if_pos c] at h3
      have h6 := congrArg (fun x => -x) h3
      simpa using h6
    · rw [if_neg c] at h3; exact h3
  have h4 : p - l + l = l := by rw [h5, Int32.zero_add]
  rw [Int32.sub_add_cancel] at h4
  exact h h4
/-- all but the OFF of the model and its stores -/
def zFo (B : Nat) (ι ι2 : Nat → Nat → Int32) : Prop := ∀ b k, ¬ zCw B b k → ¬ (b = B + 38 ∧ k = 10) → ι2 b k = ι b k
set_option maxHeartbeats 4000000 in
set_option maxRecDepth 100000 in
theorem c_X12_scale (l : Launch) (G : zG) (z : Nat) (τ : Nat → Option (Nat × Nat)) (ρ : Nat → Nat → Option Nat) (ι : Nat → Nat → Int32) (κ : Nat → Nat → Int64) {B c : Nat} (hL : zLay τ ρ B c) (h8 : c ≤ 8) (hJm : zJm B c ι) (x y u w : Int32) (x01 : x = 0 ∨ x = 1) (w01 : w = 0 ∨ w = 1) : zM l G yX12_scale cX12_scale 5 (some .int) ({ frames := 1, cells := 0, slots := 0, locals := 25 } : Room) [.ref (B + 38), .int x, .int y, .int u, .int w] (z, τ, ρ, ι, κ) (fun v s => (¬ ((1 ≤ y.toInt ∧ y.toInt ≤ 3) ∧ 10 ≤ u.toInt ∧ u.toInt ≤ 990) ∧ v = some (.int (-2)) ∧ s = (z, τ, ρ, ι, κ)) ∨ (((1 ≤ y.toInt ∧ y.toInt ≤ 3) ∧ 10 ≤ u.toInt ∧ u.toInt ≤ 990) ∧ c = 8 ∧ v = some (.int (-4)) ∧ s = (z, τ, ρ, ι, κ)) ∨ (((1 ≤ y.toInt ∧ y.toInt ≤ 3) ∧ 10 ≤ u.toInt ∧ u.toInt ≤ 990) ∧ c < 8 ∧ v = some (.int (ι (B + 38) 1 + 1 - 1)) ∧ s = (z, τ, ρ, zu (zu (zu (zu (zu ι (B + 39) (ι (B + 38) 1).toNatClampNeg x) (B + 40) (ι (B + 38) 1).toNatClampNeg y) (B + 41) (ι (B + 38) 1).toNatClampNeg u) (B + 42) (ι (B + 38) 1).toNatClampNeg w) (B + 38) 1 (ι (B + 38) 1 + 1), κ))) 0 0 := by
  refine zM_of zCd_X12_scale (Nat.le_of_ble_eq_true rfl) ?_
  intro E X hR hE
  subst hE
  show zW E G 5 (z, τ, ρ, ι, κ) 0 0 0 [(0, .ref (B + 38)), (1, .int x), (2, .int y), (3, .int u), (4, .int w)] []
  obtain ⟨hm1, hm2, hm3, hm4, hm5⟩ := id hJm
  refine r_iload_n X (by rfl) dX12_scale_0 ?_
  refine r_i2l X dX12_scale_1 ?_
  refine r_lconst X 1 (by decide) dX12_scale_2 ?_
  refine r_ldc2 X zK_X12_171 dX12_scale_3 ?_
  refine r_callS X dX12_scale_6 zLS_X12_163 zCd_X12_in (c_X12_in _ G z τ ρ _ _ _ _ _) rfl rfl ⟨⟨rfl, rfl⟩, ⟨by decide, by decide⟩, ⟨Nat.le_of_ble_eq_true rfl, Nat.le_of_ble_eq_true rfl⟩, Nat.le_of_ble_eq_true rfl⟩ ?_
  rintro _ _ ⟨rfl, rfl⟩
  rw [Int32.toInt_toInt64, show Int64.toInt 1 = 1 from rfl, show Int64.toInt 3 = 3 from rfl]
  refine r_if_eq X 26 dX12_scale_9 (by decide) (fun h9 => ?_) (fun h9 => ?_)
  · refine r_bipush X (-2) (by decide) dX12_scale_26 ?_
    refine r_ireturn X hR dX12_scale_28 rfl (Nat.zero_le _) (Nat.zero_le _) ?_
    exact Or.inl ⟨fun hP => by first | exact zif0 h9 hP.1 | exact zif0 h23 hP.2, rfl, rfl⟩
  · refine r_iload_n X (by rfl) dX12_scale_12 ?_
    refine r_i2l X dX12_scale_13 ?_
    refine r_ldc2 X zK_X12_124 dX12_scale_14 ?_
    refine r_ldc2 X zK_X12_173 dX12_scale_17 ?_
    refine r_callS X dX12_scale_20 zLS_X12_163 zCd_X12_in (c_X12_in _ G z τ ρ _ _ _ _ _) rfl rfl ⟨⟨rfl, rfl⟩, ⟨by decide, by decide⟩, ⟨Nat.le_of_ble_eq_true rfl, Nat.le_of_ble_eq_true rfl⟩, Nat.le_of_ble_eq_true rfl⟩ ?_
    rintro _ _ ⟨rfl, rfl⟩
    rw [Int32.toInt_toInt64, show Int64.toInt 10 = 10 from rfl, show Int64.toInt 990 = 990 from rfl]
    refine r_if_ne X 29 dX12_scale_23 (by decide) (fun h23 => ?_) (fun h23 => ?_)
    · refine r_aload_n X (by rfl) dX12_scale_29 ?_
      refine r_getI X dX12_scale_30 zF_X12_160 (zt hL 38 rfl) ?_
      refine r_bipush X 8 (by decide) dX12_scale_33 ?_
      refine r_icmp_ne X 41 dX12_scale_35 (by decide) (fun h35 => ?_) (fun h35 => ?_)
      · have hlt : c < 8 := by
          rcases Nat.lt_or_eq_of_le h8 with q | q
          · exact q
          · exact absurd (Int32.toInt_inj.mp (by rw [hm1, q]; rfl)) h35
        refine r_aload_n X (by rfl) dX12_scale_41 ?_
        refine r_getR X dX12_scale_42 zF_X12_13 (zt hL 38 rfl) (zrf hL 36 rfl) ?_
        refine r_aload_n X (by rfl) dX12_scale_45 ?_
        refine r_getI X dX12_scale_46 zF_X12_160 (zt hL 38 rfl) ?_
        refine r_iload_n X (by rfl) dX12_scale_49 ?_
        refine r_zastore X dX12_scale_50 (zt hL 39 rfl) (vp_in_iff.mpr ⟨by omega, by omega⟩) x01 ?_
        refine r_aload_n X (by rfl) dX12_scale_51 ?_
        refine r_getR X dX12_scale_52 zF_X12_17 (zt hL 38 rfl) (zrf hL 37 rfl) ?_
        refine r_aload_n X (by rfl) dX12_scale_55 ?_
        refine r_getI X dX12_scale_56 zF_X12_160 (zt hL 38 rfl) ?_
        rw [zu_a (show B + 38 ≠ B + 39 by omega)]
        refine r_iload_n X (by rfl) dX12_scale_59 ?_
        refine r_iastore X dX12_scale_60 (zt hL 40 rfl) (vp_in_iff.mpr ⟨by omega, by omega⟩) ?_
        refine r_aload_n X (by rfl) dX12_scale_61 ?_
        refine r_getR X dX12_scale_62 zF_X12_21 (zt hL 38 rfl) (zrf hL 38 rfl) ?_
        refine r_aload_n X (by rfl) dX12_scale_65 ?_
        refine r_getI X dX12_scale_66 zF_X12_160 (zt hL 38 rfl) ?_
        rw [zu_a (show B + 38 ≠ B + 40 by omega), zu_a (show B + 38 ≠ B + 39 by omega)]
        refine r_iload_n X (by rfl) dX12_scale_69 ?_
        refine r_iastore X dX12_scale_70 (zt hL 41 rfl) (vp_in_iff.mpr ⟨by omega, by omega⟩) ?_
        refine r_aload_n X (by rfl) dX12_scale_71 ?_
        refine r_getR X dX12_scale_72 zF_X12_24 (zt hL 38 rfl) (zrf hL 39 rfl) ?_
        refine r_aload_n X (by rfl) dX12_scale_75 ?_
        refine r_getI X dX12_scale_76 zF_X12_160 (zt hL 38 rfl) ?_
        rw [zu_a (show B + 38 ≠ B + 41 by omega), zu_a (show B + 38 ≠ B + 40 by omega), zu_a (show B + 38 ≠ B + 39 by omega)]
        refine r_iload X (by rfl) dX12_scale_79 ?_
        refine r_zastore X dX12_scale_81 (zt hL 42 rfl) (vp_in_iff.mpr ⟨by omega, by omega⟩) w01 ?_
        refine r_aload_n X (by rfl) dX12_scale_82 ?_
        refine r_dup X rfl dX12_scale_83 ?_
        refine r_getI X dX12_scale_84 zF_X12_160 (zt hL 38 rfl) ?_
        rw [zu_a (show B + 38 ≠ B + 42 by omega), zu_a (show B + 38 ≠ B + 41 by omega), zu_a (show B + 38 ≠ B + 40 by omega), zu_a (show B + 38 ≠ B + 39 by omega)]
        refine r_iconst X 1 (by decide) dX12_scale_87 ?_
        refine r_iadd X dX12_scale_88 ?_
        refine r_putI X dX12_scale_89 zF_X12_160 (zt hL 38 rfl) rfl rfl ?_
        refine r_aload_n X (by rfl) dX12_scale_92 ?_
        refine r_getI X dX12_scale_93 zF_X12_160 (zt hL 38 rfl) ?_
        rw [zu_s]
        refine r_iconst X 1 (by decide) dX12_scale_96 ?_
        refine r_isub X dX12_scale_97 ?_
        refine r_ireturn X hR dX12_scale_98 rfl (Nat.zero_le _) (Nat.zero_le _) ?_
        exact Or.inr (Or.inr ⟨⟨zif1 h9, zif1 h23⟩, hlt, rfl, rfl⟩)
      · rw [h35] at hm1
        have hc8 : c = 8 := by have : (8 : Int) = c := hm1; omega
        refine r_bipush X (-4) (by decide) dX12_scale_38 ?_
        refine r_ireturn X hR dX12_scale_40 rfl (Nat.zero_le _) (Nat.zero_le _) ?_
        exact Or.inr (Or.inl ⟨⟨zif1 h9, zif1 h23⟩, hc8, rfl, rfl⟩)
    · refine r_bipush X (-2) (by decide) dX12_scale_26 ?_
      refine r_ireturn X hR dX12_scale_28 rfl (Nat.zero_le _) (Nat.zero_le _) ?_
      exact Or.inl ⟨fun hP => by first | exact zif0 h9 hP.1 | exact zif0 h23 hP.2, rfl, rfl⟩
set_option maxHeartbeats 4000000 in
set_option maxRecDepth 100000 in
theorem c_X12_marks (l : Launch) (G : zG) (z : Nat) (τ : Nat → Option (Nat × Nat)) (ρ : Nat → Nat → Option Nat) (ι : Nat → Nat → Int32) (κ : Nat → Nat → Int64) {B c : Nat} (hL : zLay τ ρ B c) (hJ : zJ B c ι) (x : Int32) : zM l G yX12_marks cX12_marks 2 (some .int) ({ frames := 2, cells := 0, slots := 0, locals := 46 } : Room) [.ref (B + 38), .int x] (z, τ, ρ, ι, κ) (fun v s => (¬ (0 ≤ x.toInt ∧ x.toInt < (c : Int)) ∧ v = some (.int (-2)) ∧ s = (z, τ, ρ, ι, κ)) ∨ ((0 ≤ x.toInt ∧ x.toInt < (c : Int)) ∧ ∃ r, v = some (.int r) ∧ r.toInt = zMk B ι x.toNatClampNeg (ι (B + 43) x.toNatClampNeg).toNatClampNeg ∧ s = (z, τ, ρ, ι, κ))) 0 0 := by
  refine zM_of zCd_X12_marks (Nat.le_of_ble_eq_true rfl) ?_
  intro E X hR hE
  subst hE
  show zW E G 2 (z, τ, ρ, ι, κ) 0 0 0 [(0, .ref (B + 38)), (1, .int x)] []
  refine r_aload_n X (by rfl) dX12_marks_0 ?_
  refine r_iload_n X (by rfl) dX12_marks_1 ?_
  refine r_callV X dX12_marks_2 zLV_X12_175 zCd_X12_isScale (c_X12_isScale _ G z τ ρ _ _ hL hJ _) (zt hL 38 rfl) ⟨by decide, rfl, rfl⟩ rfl rfl ⟨⟨rfl, rfl⟩, ⟨by decide, by decide⟩, ⟨Nat.le_of_ble_eq_true rfl, Nat.le_of_ble_eq_true rfl⟩, Nat.le_of_ble_eq_true rfl⟩ ?_
  rintro _ _ ⟨rfl, rfl⟩
  refine r_if_eq X 16 dX12_marks_5 (by decide) (fun h5 => ?_) (fun h5 => ?_)
  · refine r_bipush X (-2) (by decide) dX12_marks_16 ?_
    refine r_ireturn X hR dX12_marks_18 rfl (Nat.zero_le _) (Nat.zero_le _) ?_
    first | exact Or.inl ⟨zif0 h5, rfl, rfl⟩ | exact Or.inr ⟨zif1 h5, _, rfl, hr, rfl⟩
  · refine r_aload_n X (by rfl) dX12_marks_8 ?_
    refine r_iload_n X (by rfl) dX12_marks_9 ?_
    refine r_callV X dX12_marks_10 zLV_X12_193 zCd_X12_marksOf (c_X12_marksOf _ G z τ ρ _ _ hL hJ _ (zif1 h5)) (zt hL 38 rfl) ⟨by decide, rfl, rfl⟩ rfl rfl ⟨⟨rfl, rfl⟩, ⟨by decide, by decide⟩, ⟨Nat.le_of_ble_eq_true rfl, Nat.le_of_ble_eq_true rfl⟩, Nat.le_of_ble_eq_true rfl⟩ ?_
    rintro _ _ ⟨r, rfl, hr, _, _, rfl⟩
    refine r_goto X 18 dX12_marks_13 (by decide) ?_
    refine r_ireturn X hR dX12_marks_18 rfl (Nat.zero_le _) (Nat.zero_le _) ?_
    first | exact Or.inl ⟨zif0 h5, rfl, rfl⟩ | exact Or.inr ⟨zif1 h5, _, rfl, hr, rfl⟩
set_option maxHeartbeats 4000000 in
set_option maxRecDepth 100000 in
theorem c_X12_mark (l : Launch) (G : zG) (z : Nat) (τ : Nat → Option (Nat × Nat)) (ρ : Nat → Nat → Option Nat) (ι : Nat → Nat → Int32) (κ : Nat → Nat → Int64) {B c : Nat} (hL : zLay τ ρ B c) (hJ : zJ B c ι) (x y : Int32) : zM l G yX12_mark cX12_mark 3 (some .int) ({ frames := 2, cells := 0, slots := 0, locals := 46 } : Room) [.ref (B + 38), .int x, .int y] (z, τ, ρ, ι, κ) (fun v s => (¬ ((0 ≤ x.toInt ∧ x.toInt < (c : Int)) ∧ 0 ≤ y.toInt) ∧ v = some (.int (-2)) ∧ s = (z, τ, ρ, ι, κ)) ∨ (((0 ≤ x.toInt ∧ x.toInt < (c : Int)) ∧ 0 ≤ y.toInt) ∧ zMk B ι x.toNatClampNeg (ι (B + 43) x.toNatClampNeg).toNatClampNeg ≤ y.toInt ∧ v = some (.int (-1)) ∧ s = (z, τ, ρ, ι, κ)) ∨ (((0 ≤ x.toInt ∧ x.toInt < (c : Int)) ∧ 0 ≤ y.toInt) ∧ y.toInt < zMk B ι x.toNatClampNeg (ι (B + 43) x.toNatClampNeg).toNatClampNeg ∧ ∃ r, v = some (.int r) ∧ (∃ (q : Nat) (e : Int), (q : Int) < (ι (B + 43) x.toNatClampNeg).toInt ∧ 0 ≤ e ∧ e < zSm B ι (4 * x.toNatClampNeg + q) ∧ y.toInt = zMk B ι x.toNatClampNeg q + e ∧ r.toInt = (ι (B + 44) (4 * x.toNatClampNeg + q)).toInt + e * (ι (B + 46) (4 * x.toNatClampNeg + q)).toInt) ∧ s = (z, τ, ρ, ι, κ))) 0 0 := by
  refine zM_of zCd_X12_mark (Nat.le_of_ble_eq_true rfl) ?_
  intro E X hR hE
  subst hE
  show zW E G 3 (z, τ, ρ, ι, κ) 0 0 0 [(0, .ref (B + 38)), (1, .int x), (2, .int y)] []
  refine r_aload_n X (by rfl) dX12_mark_0 ?_
  refine r_iload_n X (by rfl) dX12_mark_1 ?_
  refine r_callV X dX12_mark_2 zLV_X12_175 zCd_X12_isScale (c_X12_isScale _ G z τ ρ _ _ hL hJ _) (zt hL 38 rfl) ⟨by decide, rfl, rfl⟩ rfl rfl ⟨⟨rfl, rfl⟩, ⟨by decide, by decide⟩, ⟨Nat.le_of_ble_eq_true rfl, Nat.le_of_ble_eq_true rfl⟩, Nat.le_of_ble_eq_true rfl⟩ ?_
  rintro _ _ ⟨rfl, rfl⟩
  refine r_if_eq X 12 dX12_mark_5 (by decide) (fun h5 => ?_) (fun h5 => ?_)
  · refine r_bipush X (-2) (by decide) dX12_mark_12 ?_
    refine r_ireturn X hR dX12_mark_14 rfl (Nat.zero_le _) (Nat.zero_le _) ?_
    exact Or.inl ⟨fun hP => by first | exact zif0 h5 hP.1 | (have := hP.2; omega), rfl, rfl⟩
  · refine r_iload_n X (by rfl) dX12_mark_8 ?_
    refine r_if_ge X 15 dX12_mark_9 (by decide) (fun h9 => ?_) (fun h9 => ?_)
    · refine r_iload_n X (by rfl) dX12_mark_15 ?_
      refine r_aload_n X (by rfl) dX12_mark_16 ?_
      refine r_iload_n X (by rfl) dX12_mark_17 ?_
      refine r_callV X dX12_mark_18 zLV_X12_193 zCd_X12_marksOf (c_X12_marksOf _ G z τ ρ _ _ hL hJ _ (zif1 h5)) (zt hL 38 rfl) ⟨by decide, rfl, rfl⟩ rfl rfl ⟨⟨rfl, rfl⟩, ⟨by decide, by decide⟩, ⟨Nat.le_of_ble_eq_true rfl, Nat.le_of_ble_eq_true rfl⟩, Nat.le_of_ble_eq_true rfl⟩ ?_
      rintro _ _ ⟨r, rfl, hr, _, _, rfl⟩
      refine r_icmp_ge X 33 dX12_mark_21 (by decide) (fun h21 => ?_) (fun h21 => ?_)
      · refine r_iconst X (-1) (by decide) dX12_mark_33 ?_
        refine r_ireturn X hR dX12_mark_34 rfl (Nat.zero_le _) (Nat.zero_le _) ?_
        first | exact Or.inr (Or.inl ⟨⟨zif1 h5, by omega⟩, by omega, rfl, rfl⟩) | exact Or.inr (Or.inr ⟨⟨zif1 h5, by omega⟩, by omega, _, rfl, hr2, rfl⟩)
      · refine r_aload_n X (by rfl) dX12_mark_24 ?_
        refine r_iload_n X (by rfl) dX12_mark_25 ?_
        refine r_iload_n X (by rfl) dX12_mark_26 ?_
        refine r_callV X dX12_mark_27 zLV_X12_196 zCd_X12_markOf (c_X12_markOf _ G z τ ρ _ _ hL hJ _ (zif1 h5) _ (by omega) (by omega)) (zt hL 38 rfl) ⟨by decide, rfl, rfl⟩ rfl rfl ⟨⟨rfl, rfl⟩, ⟨by decide, by decide⟩, ⟨Nat.le_of_ble_eq_true rfl, Nat.le_of_ble_eq_true rfl⟩, Nat.le_of_ble_eq_true rfl⟩ ?_
        rintro _ _ ⟨r2, rfl, hr2, _, _, rfl⟩
        refine r_goto X 34 dX12_mark_30 (by decide) ?_
        refine r_ireturn X hR dX12_mark_34 rfl (Nat.zero_le _) (Nat.zero_le _) ?_
        first | exact Or.inr (Or.inl ⟨⟨zif1 h5, by omega⟩, by omega, rfl, rfl⟩) | exact Or.inr (Or.inr ⟨⟨zif1 h5, by omega⟩, by omega, _, rfl, hr2, rfl⟩)
    · refine r_bipush X (-2) (by decide) dX12_mark_12 ?_
      refine r_ireturn X hR dX12_mark_14 rfl (Nat.zero_le _) (Nat.zero_le _) ?_
      exact Or.inl ⟨fun hP => by first | exact zif0 h5 hP.1 | (have := hP.2; omega), rfl, rfl⟩
set_option maxHeartbeats 4000000 in
set_option maxRecDepth 100000 in
theorem c_X12_span (l : Launch) (G : zG) (z : Nat) (τ : Nat → Option (Nat × Nat)) (ρ : Nat → Nat → Option Nat) (ι : Nat → Nat → Int32) (κ : Nat → Nat → Int64) {B c : Nat} (hL : zLay τ ρ B c) (hJ : zJ B c ι) (x y u w : Int32) : zM l G yX12_span cX12_span 7 (some .int) ({ frames := 2, cells := 0, slots := 0, locals := 46 } : Room) [.ref (B + 38), .int x, .int y, .int u, .int w] (z, τ, ρ, ι, κ) (fun v s => (¬ ((0 ≤ x.toInt ∧ x.toInt < (c : Int)) ∧ (100 ≤ y.toInt ∧ y.toInt ≤ 100000) ∧ (100 ≤ u.toInt ∧ u.toInt ≤ 100000) ∧ y.toInt ≤ u.toInt ∧ 1 ≤ w.toInt ∧ w.toInt ≤ 10000) ∧ v = some (.int (-2)) ∧ s = (z, τ, ρ, ι, κ)) ∨ (((0 ≤ x.toInt ∧ x.toInt < (c : Int)) ∧ (100 ≤ y.toInt ∧ y.toInt ≤ 100000) ∧ (100 ≤ u.toInt ∧ u.toInt ≤ 100000) ∧ y.toInt ≤ u.toInt ∧ 1 ≤ w.toInt ∧ w.toInt ≤ 10000) ∧ (0 < (ι (B + 43) x.toNatClampNeg).toInt ∧ y.toInt ≤ (ι (B + 45) (4 * x.toNatClampNeg + (ι (B + 43) x.toNatClampNeg).toNatClampNeg - 1)).toInt) ∧ v = some (.int (-3)) ∧ s = (z, τ, ρ, ι, κ)) ∨ (((0 ≤ x.toInt ∧ x.toInt < (c : Int)) ∧ (100 ≤ y.toInt ∧ y.toInt ≤ 100000) ∧ (100 ≤ u.toInt ∧ u.toInt ≤ 100000) ∧ y.toInt ≤ u.toInt ∧ 1 ≤ w.toInt ∧ w.toInt ≤ 10000) ∧ ¬ (0 < (ι (B + 43) x.toNatClampNeg).toInt ∧ y.toInt ≤ (ι (B + 45) (4 * x.toNatClampNeg + (ι (B + 43) x.toNatClampNeg).toNatClampNeg - 1)).toInt) ∧ ((ι (B + 43) x.toNatClampNeg).toInt = 4 ∨ 400 < zMk B ι x.toNatClampNeg (ι (B + 43) x.toNatClampNeg).toNatClampNeg + ((u.toInt - y.toInt) / w.toInt + 1)) ∧ v = some (.int (-4)) ∧ s = (z, τ, ρ, ι, κ)) ∨ (((0 ≤ x.toInt ∧ x.toInt < (c : Int)) ∧ (100 ≤ y.toInt ∧ y.toInt ≤ 100000) ∧ (100 ≤ u.toInt ∧ u.toInt ≤ 100000) ∧ y.toInt ≤ u.toInt ∧ 1 ≤ w.toInt ∧ w.toInt ≤ 10000) ∧ ¬ (0 < (ι (B + 43) x.toNatClampNeg).toInt ∧ y.toInt ≤ (ι (B + 45) (4 * x.toNatClampNeg + (ι (B + 43) x.toNatClampNeg).toNatClampNeg - 1)).toInt) ∧ ¬ ((ι (B + 43) x.toNatClampNeg).toInt = 4 ∨ 400 < zMk B ι x.toNatClampNeg (ι (B + 43) x.toNatClampNeg).toNatClampNeg + ((u.toInt - y.toInt) / w.toInt + 1)) ∧ (∃ r, v = some (.int r) ∧ r.toInt = (u.toInt - y.toInt) / w.toInt + 1) ∧ s = (z, τ, ρ, zu (zu (zu (zu ι (B + 44) (4 * x.toNatClampNeg + (ι (B + 43) x.toNatClampNeg).toNatClampNeg) y) (B + 45) (4 * x.toNatClampNeg + (ι (B + 43) x.toNatClampNeg).toNatClampNeg) u) (B + 46) (4 * x.toNatClampNeg + (ι (B + 43) x.toNatClampNeg).toNatClampNeg) w) (B + 43) x.toNatClampNeg (ι (B + 43) x.toNatClampNeg + 1), κ))) 0 0 := by
  refine zM_of zCd_X12_span (Nat.le_of_ble_eq_true rfl) ?_
  intro E X hR hE
  subst hE
  show zW E G 7 (z, τ, ρ, ι, κ) 0 0 0 [(0, .ref (B + 38)), (1, .int x), (2, .int y), (3, .int u), (4, .int w)] []
  obtain ⟨h8, hJc, hm1, hm2, hm3, hm4, hm5⟩ := id hJ
  have L76 : ∀ (hP : ((0 ≤ x.toInt ∧ x.toInt < (c : Int)) ∧ (100 ≤ y.toInt ∧ y.toInt ≤ 100000) ∧ (100 ≤ u.toInt ∧ u.toInt ≤ 100000) ∧ y.toInt ≤ u.toInt ∧ 1 ≤ w.toInt ∧ w.toInt ≤ 10000)) (hN : ¬ (0 < (ι (B + 43) x.toNatClampNeg).toInt ∧ y.toInt ≤ (ι (B + 45) (4 * x.toNatClampNeg + (ι (B + 43) x.toNatClampNeg).toNatClampNeg - 1)).toInt)), zW E G 7 (z, τ, ρ, ι, κ) 0 0 76 [(0, .ref (B + 38)), (1, .int x), (2, .int y), (3, .int u), (4, .int w)] [] := by
    intro hP hN
    obtain ⟨hx, hy, hu, hyu, hw⟩ := id hP
    have hj := hm5 x.toNatClampNeg (by have := zclN hx.1; omega)
    have hjc := zclN hx.1
    obtain ⟨hp, hfo, hsp, hss⟩ := id hj
    have hsn := zclN hsp.1
    have hv := zSm_v hy.1 hyu hu.2 hw.1
    have hq1 : 0 ≤ (u.toInt - y.toInt) / w.toInt := Int.ediv_nonneg (by omega) (by omega)
    have hq2 : (u.toInt - y.toInt) / w.toInt ≤ u.toInt - y.toInt := Int.ediv_le_self _ (by omega)
    have e4 := zix (x := x) (q := ι (B + 43) x.toNatClampNeg) hx.1 (by omega) hsp.1 hsp.2
    refine r_iload_n X (by rfl) dX12_span_76 ?_
    refine r_iload_n X (by rfl) dX12_span_77 ?_
    refine r_isub X dX12_span_78 ?_
    refine r_iload X (by rfl) dX12_span_79 ?_
    refine r_idiv X (fun q => by rw [q, show Int32.toInt 0 = 0 from rfl] at hw; omega) dX12_span_81 ?_
    refine r_iconst X 1 (by decide) dX12_span_82 ?_
    refine r_iadd X dX12_span_83 ?_
    refine r_istore X (by decide) dX12_span_84 ?_
    refine r_aload_n X (by rfl) dX12_span_86 ?_
    refine r_getR X dX12_span_87 zF_X12_27 (zt hL 38 rfl) (zrf hL 40 rfl) ?_
    refine r_iload_n X (by rfl) dX12_span_90 ?_
    refine r_iaload X dX12_span_91 (zt hL 43 rfl) (vp_in_iff.mpr ⟨hx.1, by omega⟩) ?_
    refine r_iconst X 4 (by decide) dX12_span_92 ?_
    refine r_icmp_eq X 110 dX12_span_93 (by decide) (fun h93 => ?_) (fun h93 => ?_)
    · refine r_bipush X (-4) (by decide) dX12_span_110 ?_
      refine r_ireturn X hR dX12_span_112 rfl (Nat.zero_le _) (Nat.zero_le _) ?_
      exact Or.inr (Or.inr (Or.inl ⟨hP, hN, by first | exact Or.inl (by rw [h93]; rfl) | exact Or.inr (by omega), rfl, rfl⟩))
    · have hlt4 : (ι (B + 43) x.toNatClampNeg).toInt < 4 := by
        rcases Int.lt_or_eq_of_le hsp.2 with q | q
        · exact q
        · exact absurd (Int32.toInt_inj.mp (by rw [q]; rfl)) h93
      refine r_aload_n X (by rfl) dX12_span_96 ?_
      refine r_iload_n X (by rfl) dX12_span_97 ?_
      refine r_callV X dX12_span_98 zLV_X12_193 zCd_X12_marksOf (c_X12_marksOf _ G z τ ρ _ _ hL hJ _ hx) (zt hL 38 rfl) ⟨by decide, rfl, rfl⟩ rfl rfl ⟨⟨rfl, rfl⟩, ⟨by decide, by decide⟩, ⟨Nat.le_of_ble_eq_true rfl, Nat.le_of_ble_eq_true rfl⟩, Nat.le_of_ble_eq_true rfl⟩ ?_
      rintro _ _ ⟨r, rfl, hr, hr0, hr1, rfl⟩
      have hra := zaddI (x := r) (y := (u - y) / w + 1) (by omega) (by omega)
      refine r_iload X (by rfl) dX12_span_101 ?_
      refine r_iadd X dX12_span_103 ?_
      refine r_sipush X 400 (by decide) dX12_span_104 ?_
      refine r_icmp_le X 113 dX12_span_107 (by decide) (fun h107 => ?_) (fun h107 => ?_)
      · rw [show Int32.toInt 400 = 400 from rfl] at h107
        refine r_iconst X 4 (by decide) dX12_span_113 ?_
        refine r_iload_n X (by rfl) dX12_span_114 ?_
        refine r_imul X dX12_span_115 ?_
        refine r_aload_n X (by rfl) dX12_span_116 ?_
        refine r_getR X dX12_span_117 zF_X12_27 (zt hL 38 rfl) (zrf hL 40 rfl) ?_
        refine r_iload_n X (by rfl) dX12_span_120 ?_
        refine r_iaload X dX12_span_121 (zt hL 43 rfl) (vp_in_iff.mpr ⟨hx.1, by omega⟩) ?_
        refine r_iadd X dX12_span_122 ?_
        refine r_istore X (by decide) dX12_span_123 ?_
        refine r_aload_n X (by rfl) dX12_span_125 ?_
        refine r_getR X dX12_span_126 zF_X12_30 (zt hL 38 rfl) (zrf hL 41 rfl) ?_
        refine r_iload X (by rfl) dX12_span_129 ?_
        refine r_iload_n X (by rfl) dX12_span_131 ?_
        refine r_iastore X dX12_span_132 (zt hL 44 rfl) (vp_in_iff.mpr ⟨by omega, by omega⟩) ?_
        refine r_aload_n X (by rfl) dX12_span_133 ?_
        refine r_getR X dX12_span_134 zF_X12_33 (zt hL 38 rfl) (zrf hL 42 rfl) ?_
        refine r_iload X (by rfl) dX12_span_137 ?_
        refine r_iload_n X (by rfl) dX12_span_139 ?_
        refine r_iastore X dX12_span_140 (zt hL 45 rfl) (vp_in_iff.mpr ⟨by omega, by omega⟩) ?_
        refine r_aload_n X (by rfl) dX12_span_141 ?_
        refine r_getR X dX12_span_142 zF_X12_36 (zt hL 38 rfl) (zrf hL 43 rfl) ?_
        refine r_iload X (by rfl) dX12_span_145 ?_
        refine r_iload X (by rfl) dX12_span_147 ?_
        refine r_iastore X dX12_span_149 (zt hL 46 rfl) (vp_in_iff.mpr ⟨by omega, by omega⟩) ?_
        refine r_aload_n X (by rfl) dX12_span_150 ?_
        refine r_getR X dX12_span_151 zF_X12_27 (zt hL 38 rfl) (zrf hL 40 rfl) ?_
        refine r_iload_n X (by rfl) dX12_span_154 ?_
        refine r_dup2 X rfl rfl dX12_span_155 ?_
        refine r_iaload X dX12_span_156 (zt hL 43 rfl) (vp_in_iff.mpr ⟨hx.1, by omega⟩) ?_
        refine r_iconst X 1 (by decide) dX12_span_157 ?_
        refine r_iadd X dX12_span_158 ?_
        refine r_iastore X dX12_span_159 (zt hL 43 rfl) (vp_in_iff.mpr ⟨hx.1, by omega⟩) ?_
        refine r_iload X (by rfl) dX12_span_160 ?_
        refine r_ireturn X hR dX12_span_162 rfl (Nat.zero_le _) (Nat.zero_le _) ?_
        refine Or.inr (Or.inr (Or.inr ⟨hP, hN, ?_, ⟨_, rfl, hv⟩, ?_⟩))
        · rintro (q | q)
          · exact h93 (Int32.toInt_inj.mp (by rw [q]; rfl))
          · omega
        · rw [e4.2, zu_a (show B + 43 ≠ B + 46 by omega), zu_a (show B + 43 ≠ B + 45 by omega), zu_a (show B + 43 ≠ B + 44 by omega)]
      · rw [show Int32.toInt 400 = 400 from rfl] at h107
        refine r_bipush X (-4) (by decide) dX12_span_110 ?_
        refine r_ireturn X hR dX12_span_112 rfl (Nat.zero_le _) (Nat.zero_le _) ?_
        exact Or.inr (Or.inr (Or.inl ⟨hP, hN, by first | exact Or.inl (by rw [h93]; rfl) | exact Or.inr (by omega), rfl, rfl⟩))
  refine r_aload_n X (by rfl) dX12_span_0 ?_
  refine r_iload_n X (by rfl) dX12_span_1 ?_
  refine r_callV X dX12_span_2 zLV_X12_175 zCd_X12_isScale (c_X12_isScale _ G z τ ρ _ _ hL hJ _) (zt hL 38 rfl) ⟨by decide, rfl, rfl⟩ rfl rfl ⟨⟨rfl, rfl⟩, ⟨by decide, by decide⟩, ⟨Nat.le_of_ble_eq_true rfl, Nat.le_of_ble_eq_true rfl⟩, Nat.le_of_ble_eq_true rfl⟩ ?_
  rintro _ _ ⟨rfl, rfl⟩
  refine r_if_eq X 40 dX12_span_5 (by decide) (fun h5 => ?_) (fun h5 => ?_)
  · refine r_bipush X (-2) (by decide) dX12_span_40 ?_
    refine r_ireturn X hR dX12_span_42 rfl (Nat.zero_le _) (Nat.zero_le _) ?_
    exact Or.inl ⟨fun ⟨q1, q2, q3, q4, q5⟩ => by first | exact zif0 h5 q1 | exact zif0 h12 q2 | exact zif0 h19 q3 | omega | exact zif0 h37 q5, rfl, rfl⟩
  · refine r_iload_n X (by rfl) dX12_span_8 ?_
    refine r_callS X dX12_span_9 zLS_X12_179 zCd_X12_isNumber (c_X12_isNumber _ G z τ ρ _ _ _) rfl rfl ⟨⟨rfl, rfl⟩, ⟨by decide, by decide⟩, ⟨Nat.le_of_ble_eq_true rfl, Nat.le_of_ble_eq_true rfl⟩, Nat.le_of_ble_eq_true rfl⟩ ?_
    rintro _ _ ⟨rfl, rfl⟩
    refine r_if_eq X 40 dX12_span_12 (by decide) (fun h12 => ?_) (fun h12 => ?_)
    · refine r_bipush X (-2) (by decide) dX12_span_40 ?_
      refine r_ireturn X hR dX12_span_42 rfl (Nat.zero_le _) (Nat.zero_le _) ?_
      exact Or.inl ⟨fun ⟨q1, q2, q3, q4, q5⟩ => by first | exact zif0 h5 q1 | exact zif0 h12 q2 | exact zif0 h19 q3 | omega | exact zif0 h37 q5, rfl, rfl⟩
    · refine r_iload_n X (by rfl) dX12_span_15 ?_
      refine r_callS X dX12_span_16 zLS_X12_179 zCd_X12_isNumber (c_X12_isNumber _ G z τ ρ _ _ _) rfl rfl ⟨⟨rfl, rfl⟩, ⟨by decide, by decide⟩, ⟨Nat.le_of_ble_eq_true rfl, Nat.le_of_ble_eq_true rfl⟩, Nat.le_of_ble_eq_true rfl⟩ ?_
      rintro _ _ ⟨rfl, rfl⟩
      refine r_if_eq X 40 dX12_span_19 (by decide) (fun h19 => ?_) (fun h19 => ?_)
      · refine r_bipush X (-2) (by decide) dX12_span_40 ?_
        refine r_ireturn X hR dX12_span_42 rfl (Nat.zero_le _) (Nat.zero_le _) ?_
        exact Or.inl ⟨fun ⟨q1, q2, q3, q4, q5⟩ => by first | exact zif0 h5 q1 | exact zif0 h12 q2 | exact zif0 h19 q3 | omega | exact zif0 h37 q5, rfl, rfl⟩
      · refine r_iload_n X (by rfl) dX12_span_22 ?_
        refine r_iload_n X (by rfl) dX12_span_23 ?_
        refine r_icmp_gt X 40 dX12_span_24 (by decide) (fun h24 => ?_) (fun h24 => ?_)
        · refine r_bipush X (-2) (by decide) dX12_span_40 ?_
          refine r_ireturn X hR dX12_span_42 rfl (Nat.zero_le _) (Nat.zero_le _) ?_
          exact Or.inl ⟨fun ⟨q1, q2, q3, q4, q5⟩ => by first | exact zif0 h5 q1 | exact zif0 h12 q2 | exact zif0 h19 q3 | omega | exact zif0 h37 q5, rfl, rfl⟩
        · refine r_iload X (by rfl) dX12_span_27 ?_
          refine r_i2l X dX12_span_29 ?_
          refine r_lconst X 1 (by decide) dX12_span_30 ?_
          refine r_ldc2 X zK_X12_191 dX12_span_31 ?_
          refine r_callS X dX12_span_34 zLS_X12_163 zCd_X12_in (c_X12_in _ G z τ ρ _ _ _ _ _) rfl rfl ⟨⟨rfl, rfl⟩, ⟨by decide, by decide⟩, ⟨Nat.le_of_ble_eq_true rfl, Nat.le_of_ble_eq_true rfl⟩, Nat.le_of_ble_eq_true rfl⟩ ?_
          rintro _ _ ⟨rfl, rfl⟩
          rw [Int32.toInt_toInt64, show Int64.toInt 1 = 1 from rfl, show Int64.toInt 10000 = 10000 from rfl]
          refine r_if_ne X 43 dX12_span_37 (by decide) (fun h37 => ?_) (fun h37 => ?_)
          · have hx := zif1 h5
            have hj := hm5 x.toNatClampNeg (by have := zclN hx.1; omega)
            have hjc := zclN hx.1
            obtain ⟨hp, hfo, hsp, hss⟩ := id hj
            have hsn := zclN hsp.1
            have e5 : 0 < (ι (B + 43) x.toNatClampNeg).toInt → (4 * x + ι (B + 43) x.toNatClampNeg - 1).toInt = 4 * x.toInt + (ι (B + 43) x.toNatClampNeg).toInt - 1 ∧ (4 * x + ι (B + 43) x.toNatClampNeg - 1).toNatClampNeg = 4 * x.toNatClampNeg + (ι (B + 43) x.toNatClampNeg).toNatClampNeg - 1 := fun hs => by
              have e4 := zix (x := x) (q := ι (B + 43) x.toNatClampNeg) hx.1 (by omega) hsp.1 hsp.2
              have e6 := zsub1 (x := 4 * x + ι (B + 43) x.toNatClampNeg) (by omega)
              generalize 4 * x + ι (B + 43) x.toNatClampNeg - 1 = k at *
              have := zclN (i := k) (by omega)
              omega
            refine r_aload_n X (by rfl) dX12_span_43 ?_
            refine r_getR X dX12_span_44 zF_X12_27 (zt hL 38 rfl) (zrf hL 40 rfl) ?_
            refine r_iload_n X (by rfl) dX12_span_47 ?_
            refine r_iaload X dX12_span_48 (zt hL 43 rfl) (vp_in_iff.mpr ⟨hx.1, by omega⟩) ?_
            refine r_if_le X 76 dX12_span_49 (by decide) (fun h49 => ?_) (fun h49 => ?_)
            · exact zW.loc5 (by rfl) (by rfl) (by rfl) (by rfl) (by rfl) (L76 ⟨zif1 h5, zif1 h12, zif1 h19, by omega, zif1 h37⟩ (fun h => by first | (have := h.1; omega) | (have := h.2; rw [← e5.2] at this; omega)))
            · replace e5 := e5 (by omega)
              refine r_iload_n X (by rfl) dX12_span_52 ?_
              refine r_aload_n X (by rfl) dX12_span_53 ?_
              refine r_getR X dX12_span_54 zF_X12_33 (zt hL 38 rfl) (zrf hL 42 rfl) ?_
              refine r_iconst X 4 (by decide) dX12_span_57 ?_
              refine r_iload_n X (by rfl) dX12_span_58 ?_
              refine r_imul X dX12_span_59 ?_
              refine r_aload_n X (by rfl) dX12_span_60 ?_
              refine r_getR X dX12_span_61 zF_X12_27 (zt hL 38 rfl) (zrf hL 40 rfl) ?_
              refine r_iload_n X (by rfl) dX12_span_64 ?_
              refine r_iaload X dX12_span_65 (zt hL 43 rfl) (vp_in_iff.mpr ⟨hx.1, by omega⟩) ?_
              refine r_iadd X dX12_span_66 ?_
              refine r_iconst X 1 (by decide) dX12_span_67 ?_
              refine r_isub X dX12_span_68 ?_
              refine r_iaload X dX12_span_69 (zt hL 45 rfl) (vp_in_iff.mpr ⟨by omega, by omega⟩) ?_
              refine r_icmp_gt X 76 dX12_span_70 (by decide) (fun h70 => ?_) (fun h70 => ?_)
              · exact zW.loc5 (by rfl) (by rfl) (by rfl) (by rfl) (by rfl) (L76 ⟨zif1 h5, zif1 h12, zif1 h19, by omega, zif1 h37⟩ (fun h => by first | (have := h.1; omega) | (have := h.2; rw [← e5.2] at this; omega)))
              · refine r_bipush X (-3) (by decide) dX12_span_73 ?_
                refine r_ireturn X hR dX12_span_75 rfl (Nat.zero_le _) (Nat.zero_le _) ?_
                exact Or.inr (Or.inl ⟨⟨zif1 h5, zif1 h12, zif1 h19, by omega, zif1 h37⟩, ⟨by omega, by rw [← e5.2]; omega⟩, rfl, rfl⟩)
          · refine r_bipush X (-2) (by decide) dX12_span_40 ?_
            refine r_ireturn X hR dX12_span_42 rfl (Nat.zero_le _) (Nat.zero_le _) ?_
            exact Or.inl ⟨fun ⟨q1, q2, q3, q4, q5⟩ => by first | exact zif0 h5 q1 | exact zif0 h12 q2 | exact zif0 h19 q3 | omega | exact zif0 h37 q5, rfl, rfl⟩
