/-! the model's calls that read PLACES (wip/genp/spec_pe.py) -/
def zOm (B : Nat) (ι : Nat → Nat → Int32) : Nat → Int
  | 0 => 0
  | n + 1 => zOm B ι n + if ι (B + 39) n = 0 then 0 else 1
theorem zOm_b (B : Nat) (ι : Nat → Nat → Int32) : ∀ n : Nat, 0 ≤ zOm B ι n ∧ zOm B ι n ≤ n
  | 0 => ⟨Int.le_refl _, Int.le_refl _⟩
  | n + 1 => by
    have h := zOm_b B ι n
    rw [zOm]
    split <;> omega
def zK2 (B c : Nat) (ι : Nat → Nat → Int32) (x r : Int32) : Prop := (x.toInt = 0 ∧ r = ι (B + 38) 1) ∨ (x.toInt = 1 ∧ r.toInt = zOm B ι c) ∨ (x.toInt = 2 ∧ r = ι (B + 38) 10) ∨ (x.toInt = 3 ∧ r = ι (B + 38) 11) ∨ (x.toInt = 4 ∧ r = ι (B + 48) 0) ∨ (x.toInt = 5 ∧ r = ι (B + 48) 1) ∨ (x.toInt = 6 ∧ r = ι (B + 38) 0) ∨ ((x.toInt < 0 ∨ 6 < x.toInt) ∧ r = -2000000000)

set_option maxHeartbeats 4000000 in
set_option maxRecDepth 100000 in
theorem e2_X12_place (l : Launch) (G : zG) (z : Nat) (τ : Nat → Option (Nat × Nat)) (ρ : Nat → Nat → Option Nat) (ι : Nat → Nat → Int32) (κ : Nat → Nat → Int64) {B c : Nat} (hL : zLay τ ρ B c) (hJ : zJ B c ι) (hst : 100 ≤ (ι (B + 38) 0).toInt ∧ (ι (B + 38) 0).toInt ≤ 50000) (hM : zPsM B c ι) (x y : Int32) : zM l G yX12_place cX12_place 3 (some .int) ({ frames := 5, cells := 0, slots := 0, locals := 143 } : Room) [.ref (B + 38), .int x, .int y] (z, τ, ρ, ι, κ) (fun v s => (¬ ((0 ≤ x.toInt ∧ x.toInt < (c : Int)) ∧ (100 ≤ y.toInt ∧ y.toInt ≤ 100000)) ∧ v = some (.int (-2000000000)) ∧ s = (z, τ, ρ, ι, κ)) ∨ (((0 ≤ x.toInt ∧ x.toInt < (c : Int)) ∧ (100 ≤ y.toInt ∧ y.toInt ≤ 100000)) ∧ ∃ ι2 κ2, v = some (.int (zPm B ι x y)) ∧ s = (z, τ, ρ, ι2, κ2) ∧ zFq B ι ι2 ∧ zPsM B c ι2)) 0 0 := by
  refine zM_of zCd_X12_place (Nat.le_of_ble_eq_true rfl) ?_
  intro E X hR hE
  subst hE
  show zW E G 3 (z, τ, ρ, ι, κ) 0 0 0 [(0, .ref (B + 38)), (1, .int x), (2, .int y)] []
  refine r_aload_n X (by rfl) dX12_place_0 ?_
  refine r_iload_n X (by rfl) dX12_place_1 ?_
  refine r_callV X dX12_place_2 zLV_X12_175 zCd_X12_isScale (c_X12_isScale _ G z τ ρ _ _ hL hJ _) (zt hL 38 rfl) ⟨by decide, rfl, rfl⟩ rfl rfl ⟨⟨rfl, rfl⟩, ⟨by decide, by decide⟩, ⟨Nat.le_of_ble_eq_true rfl, Nat.le_of_ble_eq_true rfl⟩, Nat.le_of_ble_eq_true rfl⟩ ?_
  rintro _ _ ⟨rfl, rfl⟩
  refine r_if_eq X 24 dX12_place_5 (by decide) (fun h5 => ?_) (fun h5 => ?_)
  · refine r_ldc X zK_X12_186 dX12_place_24 ?_
    refine r_ireturn X hR dX12_place_26 rfl (Nat.zero_le _) (Nat.zero_le _) ?_
    first | exact Or.inr ⟨⟨zif1 h5, zif1 h12⟩, _, _, rfl, rfl, hq2, hM2⟩ | exact Or.inl ⟨fun q => by first | exact zif0 h5 q.1 | exact zif0 h12 q.2, rfl, rfl⟩
  · refine r_iload_n X (by rfl) dX12_place_8 ?_
    refine r_callS X dX12_place_9 zLS_X12_179 zCd_X12_isNumber (c_X12_isNumber _ G z τ ρ _ _ _) rfl rfl ⟨⟨rfl, rfl⟩, ⟨by decide, by decide⟩, ⟨Nat.le_of_ble_eq_true rfl, Nat.le_of_ble_eq_true rfl⟩, Nat.le_of_ble_eq_true rfl⟩ ?_
    rintro _ _ ⟨rfl, rfl⟩
    refine r_if_eq X 24 dX12_place_12 (by decide) (fun h12 => ?_) (fun h12 => ?_)
    · refine r_ldc X zK_X12_186 dX12_place_24 ?_
      refine r_ireturn X hR dX12_place_26 rfl (Nat.zero_le _) (Nat.zero_le _) ?_
      first | exact Or.inr ⟨⟨zif1 h5, zif1 h12⟩, _, _, rfl, rfl, hq2, hM2⟩ | exact Or.inl ⟨fun q => by first | exact zif0 h5 q.1 | exact zif0 h12 q.2, rfl, rfl⟩
    · refine r_aload_n X (by rfl) dX12_place_15 ?_
      refine r_iload_n X (by rfl) dX12_place_16 ?_
      refine r_iload_n X (by rfl) dX12_place_17 ?_
      refine r_callV X dX12_place_18 zLV_X12_182 zCd_X12_placeOf (e2_X12_placeOf _ G z τ ρ _ _ hL hJ _ (zif1 h5) _ (zif1 h12) hst hM) (zt hL 38 rfl) ⟨by decide, rfl, rfl⟩ rfl rfl ⟨⟨rfl, rfl⟩, ⟨by decide, by decide⟩, ⟨Nat.le_of_ble_eq_true rfl, Nat.le_of_ble_eq_true rfl⟩, Nat.le_of_ble_eq_true rfl⟩ ?_
      rintro _ _ ⟨ι2, κ2, rfl, rfl, hq2, hM2⟩
      refine r_goto X 26 dX12_place_21 (by decide) ?_
      refine r_ireturn X hR dX12_place_26 rfl (Nat.zero_le _) (Nat.zero_le _) ?_
      first | exact Or.inr ⟨⟨zif1 h5, zif1 h12⟩, _, _, rfl, rfl, hq2, hM2⟩ | exact Or.inl ⟨fun q => by first | exact zif0 h5 q.1 | exact zif0 h12 q.2, rfl, rfl⟩
set_option maxHeartbeats 4000000 in
set_option maxRecDepth 100000 in
theorem e2_X12_set (l : Launch) (G : zG) (z : Nat) (τ : Nat → Option (Nat × Nat)) (ρ : Nat → Nat → Option Nat) (ι : Nat → Nat → Int32) (κ : Nat → Nat → Int64) {B c : Nat} (hL : zLay τ ρ B c) (hJ : zJ B c ι) (hst : 100 ≤ (ι (B + 38) 0).toInt ∧ (ι (B + 38) 0).toInt ≤ 50000) (hM : zPsM B c ι) (x y u w : Int32) : zM l G yX12_set cX12_set 5 (some .int) ({ frames := 5, cells := 0, slots := 0, locals := 143 } : Room) [.ref (B + 38), .int x, .int y, .int u, .int w] (z, τ, ρ, ι, κ) (fun v s => (¬ (((0 ≤ x.toInt ∧ x.toInt < (c : Int)) ∧ ¬ ι (B + 39) x.toNatClampNeg = 0 ∧ (0 ≤ u.toInt ∧ u.toInt < (c : Int)) ∧ ι (B + 39) u.toNatClampNeg = 0) ∧ (100 ≤ y.toInt ∧ y.toInt ≤ 100000) ∧ (100 ≤ w.toInt ∧ w.toInt ≤ 100000)) ∧ v = some (.int (-2000000000)) ∧ s = (z, τ, ρ, ι, κ)) ∨ ((((0 ≤ x.toInt ∧ x.toInt < (c : Int)) ∧ ¬ ι (B + 39) x.toNatClampNeg = 0 ∧ (0 ≤ u.toInt ∧ u.toInt < (c : Int)) ∧ ι (B + 39) u.toNatClampNeg = 0) ∧ (100 ≤ y.toInt ∧ y.toInt ≤ 100000) ∧ (100 ≤ w.toInt ∧ w.toInt ≤ 100000)) ∧ ∃ ι2 κ2, v = some (.int (zPm B ι u w - zPm B ι x y)) ∧ s = (z, τ, ρ, zu ι2 (B + 38) 10 (zPm B ι u w - zPm B ι x y), κ2) ∧ zFq B ι ι2 ∧ zPsM B c ι2)) 0 0 := by
  refine zM_of zCd_X12_set (Nat.le_of_ble_eq_true rfl) ?_
  intro E X hR hE
  subst hE
  show zW E G 5 (z, τ, ρ, ι, κ) 0 0 0 [(0, .ref (B + 38)), (1, .int x), (2, .int y), (3, .int u), (4, .int w)] []
  obtain ⟨h8, hJc, hm1, hm2, hm3, hm4, hm5⟩ := id hJ
  refine r_aload_n X (by rfl) dX12_set_0 ?_
  refine r_iload_n X (by rfl) dX12_set_1 ?_
  refine r_callV X dX12_set_2 zLV_X12_175 zCd_X12_isScale (c_X12_isScale _ G z τ ρ _ _ hL hJ _) (zt hL 38 rfl) ⟨by decide, rfl, rfl⟩ rfl rfl ⟨⟨rfl, rfl⟩, ⟨by decide, by decide⟩, ⟨Nat.le_of_ble_eq_true rfl, Nat.le_of_ble_eq_true rfl⟩, Nat.le_of_ble_eq_true rfl⟩ ?_
  rintro _ _ ⟨rfl, rfl⟩
  refine r_if_eq X 49 dX12_set_5 (by decide) (fun h5 => ?_) (fun h5 => ?_)
  · refine r_ldc X zK_X12_186 dX12_set_49 ?_
    refine r_ireturn X hR dX12_set_51 rfl (Nat.zero_le _) (Nat.zero_le _) ?_
    exact Or.inl ⟨fun q => by first | exact zif0 h5 q.1.1 | exact zif0 h12 q.2.1 | exact zif0 h20 q.1.2.2.1 | exact zif0 h28 q.2.2 | exact q.1.2.1 h37 | exact h46 q.1.2.2.2, rfl, rfl⟩
  · refine r_iload_n X (by rfl) dX12_set_8 ?_
    refine r_callS X dX12_set_9 zLS_X12_179 zCd_X12_isNumber (c_X12_isNumber _ G z τ ρ _ _ _) rfl rfl ⟨⟨rfl, rfl⟩, ⟨by decide, by decide⟩, ⟨Nat.le_of_ble_eq_true rfl, Nat.le_of_ble_eq_true rfl⟩, Nat.le_of_ble_eq_true rfl⟩ ?_
    rintro _ _ ⟨rfl, rfl⟩
    refine r_if_eq X 49 dX12_set_12 (by decide) (fun h12 => ?_) (fun h12 => ?_)
    · refine r_ldc X zK_X12_186 dX12_set_49 ?_
      refine r_ireturn X hR dX12_set_51 rfl (Nat.zero_le _) (Nat.zero_le _) ?_
      exact Or.inl ⟨fun q => by first | exact zif0 h5 q.1.1 | exact zif0 h12 q.2.1 | exact zif0 h20 q.1.2.2.1 | exact zif0 h28 q.2.2 | exact q.1.2.1 h37 | exact h46 q.1.2.2.2, rfl, rfl⟩
    · refine r_aload_n X (by rfl) dX12_set_15 ?_
      refine r_iload_n X (by rfl) dX12_set_16 ?_
      refine r_callV X dX12_set_17 zLV_X12_175 zCd_X12_isScale (c_X12_isScale _ G z τ ρ _ _ hL hJ _) (zt hL 38 rfl) ⟨by decide, rfl, rfl⟩ rfl rfl ⟨⟨rfl, rfl⟩, ⟨by decide, by decide⟩, ⟨Nat.le_of_ble_eq_true rfl, Nat.le_of_ble_eq_true rfl⟩, Nat.le_of_ble_eq_true rfl⟩ ?_
      rintro _ _ ⟨rfl, rfl⟩
      refine r_if_eq X 49 dX12_set_20 (by decide) (fun h20 => ?_) (fun h20 => ?_)
      · refine r_ldc X zK_X12_186 dX12_set_49 ?_
        refine r_ireturn X hR dX12_set_51 rfl (Nat.zero_le _) (Nat.zero_le _) ?_
        exact Or.inl ⟨fun q => by first | exact zif0 h5 q.1.1 | exact zif0 h12 q.2.1 | exact zif0 h20 q.1.2.2.1 | exact zif0 h28 q.2.2 | exact q.1.2.1 h37 | exact h46 q.1.2.2.2, rfl, rfl⟩
      · refine r_iload X (by rfl) dX12_set_23 ?_
        refine r_callS X dX12_set_25 zLS_X12_179 zCd_X12_isNumber (c_X12_isNumber _ G z τ ρ _ _ _) rfl rfl ⟨⟨rfl, rfl⟩, ⟨by decide, by decide⟩, ⟨Nat.le_of_ble_eq_true rfl, Nat.le_of_ble_eq_true rfl⟩, Nat.le_of_ble_eq_true rfl⟩ ?_
        rintro _ _ ⟨rfl, rfl⟩
        refine r_if_eq X 49 dX12_set_28 (by decide) (fun h28 => ?_) (fun h28 => ?_)
        · refine r_ldc X zK_X12_186 dX12_set_49 ?_
          refine r_ireturn X hR dX12_set_51 rfl (Nat.zero_le _) (Nat.zero_le _) ?_
          exact Or.inl ⟨fun q => by first | exact zif0 h5 q.1.1 | exact zif0 h12 q.2.1 | exact zif0 h20 q.1.2.2.1 | exact zif0 h28 q.2.2 | exact q.1.2.1 h37 | exact h46 q.1.2.2.2, rfl, rfl⟩
        · refine r_aload_n X (by rfl) dX12_set_31 ?_
          refine r_getR X dX12_set_32 zF_X12_13 (zt hL 38 rfl) (zrf hL 36 rfl) ?_
          refine r_iload_n X (by rfl) dX12_set_35 ?_
          refine r_zaload X dX12_set_36 (zt hL 39 rfl) (by have := zif1 h5; exact vp_in_iff.mpr ⟨by omega, by omega⟩) ?_
          refine r_if_eq X 49 dX12_set_37 (by decide) (fun h37 => ?_) (fun h37 => ?_)
          · refine r_ldc X zK_X12_186 dX12_set_49 ?_
            refine r_ireturn X hR dX12_set_51 rfl (Nat.zero_le _) (Nat.zero_le _) ?_
            exact Or.inl ⟨fun q => by first | exact zif0 h5 q.1.1 | exact zif0 h12 q.2.1 | exact zif0 h20 q.1.2.2.1 | exact zif0 h28 q.2.2 | exact q.1.2.1 h37 | exact h46 q.1.2.2.2, rfl, rfl⟩
          · refine r_aload_n X (by rfl) dX12_set_40 ?_
            refine r_getR X dX12_set_41 zF_X12_13 (zt hL 38 rfl) (zrf hL 36 rfl) ?_
            refine r_iload_n X (by rfl) dX12_set_44 ?_
            refine r_zaload X dX12_set_45 (zt hL 39 rfl) (by have := zif1 h20; exact vp_in_iff.mpr ⟨by omega, by omega⟩) ?_
            refine r_if_eq X 52 dX12_set_46 (by decide) (fun h46 => ?_) (fun h46 => ?_)
            · refine r_aload_n X (by rfl) dX12_set_52 ?_
              refine r_aload_n X (by rfl) dX12_set_53 ?_
              refine r_iload_n X (by rfl) dX12_set_54 ?_
              refine r_iload X (by rfl) dX12_set_55 ?_
              refine r_callV X dX12_set_57 zLV_X12_182 zCd_X12_placeOf (e2_X12_placeOf _ G z τ ρ _ _ hL hJ _ (zif1 h20) _ (zif1 h28) hst hM) (zt hL 38 rfl) ⟨by decide, rfl, rfl⟩ rfl rfl ⟨⟨rfl, rfl⟩, ⟨by decide, by decide⟩, ⟨Nat.le_of_ble_eq_true rfl, Nat.le_of_ble_eq_true rfl⟩, Nat.le_of_ble_eq_true rfl⟩ ?_
              rintro _ _ ⟨ι2, κ2, rfl, rfl, hq2, hM2⟩
              refine r_aload_n X (by rfl) dX12_set_60 ?_
              refine r_iload_n X (by rfl) dX12_set_61 ?_
              refine r_iload_n X (by rfl) dX12_set_62 ?_
              refine r_callV X dX12_set_63 zLV_X12_182 zCd_X12_placeOf (e2_X12_placeOf _ G z τ ρ _ _ hL (zJ_fq hJ hq2) _ (zif1 h5) _ (zif1 h12) (by rw [hq2 _ _ (by unfold zCq; omega)]; exact hst) hM2) (zt hL 38 rfl) ⟨by decide, rfl, rfl⟩ rfl rfl ⟨⟨rfl, rfl⟩, ⟨by decide, by decide⟩, ⟨Nat.le_of_ble_eq_true rfl, Nat.le_of_ble_eq_true rfl⟩, Nat.le_of_ble_eq_true rfl⟩ ?_
              rintro _ _ ⟨ι3, κ3, rfl, rfl, hq3, hM3⟩
              rw [zPm_fq hq2]
              refine r_isub X dX12_set_66 ?_
              refine r_putI X dX12_set_67 zF_X12_206 (zt hL 38 rfl) rfl rfl ?_
              refine r_aload_n X (by rfl) dX12_set_70 ?_
              refine r_getI X dX12_set_71 zF_X12_206 (zt hL 38 rfl) ?_
              rw [zu_s]
              refine r_ireturn X hR dX12_set_74 rfl (Nat.zero_le _) (Nat.zero_le _) ?_
              exact Or.inr ⟨⟨⟨zif1 h5, h37, zif1 h20, h46⟩, zif1 h12, zif1 h28⟩, _, _, rfl, rfl, hq2.tr hq3, hM3⟩
            · refine r_ldc X zK_X12_186 dX12_set_49 ?_
              refine r_ireturn X hR dX12_set_51 rfl (Nat.zero_le _) (Nat.zero_le _) ?_
              exact Or.inl ⟨fun q => by first | exact zif0 h5 q.1.1 | exact zif0 h12 q.2.1 | exact zif0 h20 q.1.2.2.1 | exact zif0 h28 q.2.2 | exact q.1.2.1 h37 | exact h46 q.1.2.2.2, rfl, rfl⟩
set_option maxHeartbeats 4000000 in
set_option maxRecDepth 100000 in
theorem e2_X12_against (l : Launch) (G : zG) (z : Nat) (τ : Nat → Option (Nat × Nat)) (ρ : Nat → Nat → Option Nat) (ι : Nat → Nat → Int32) (κ : Nat → Nat → Int64) {B c : Nat} (hL : zLay τ ρ B c) (hJ : zJ B c ι) (hst : 100 ≤ (ι (B + 38) 0).toInt ∧ (ι (B + 38) 0).toInt ≤ 50000) (hM : zPsM B c ι) (x y u : Int32) : zM l G yX12_against cX12_against 4 (some .int) ({ frames := 5, cells := 0, slots := 0, locals := 143 } : Room) [.ref (B + 38), .int x, .int y, .int u] (z, τ, ρ, ι, κ) (fun v s => (¬ ((0 ≤ x.toInt ∧ x.toInt < (c : Int)) ∧ (100 ≤ y.toInt ∧ y.toInt ≤ 100000) ∧ (0 ≤ u.toInt ∧ u.toInt < (c : Int))) ∧ v = some (.int (-2000000000)) ∧ s = (z, τ, ρ, ι, κ)) ∨ (((0 ≤ x.toInt ∧ x.toInt < (c : Int)) ∧ (100 ≤ y.toInt ∧ y.toInt ≤ 100000) ∧ (0 ≤ u.toInt ∧ u.toInt < (c : Int))) ∧ ∃ ι2 κ2, v = some (.int (zPm B ι x y + (if ι (B + 39) x.toNatClampNeg = 0 then 0 else ι (B + 38) 10) - (if ι (B + 39) u.toNatClampNeg = 0 then 0 else ι (B + 38) 10))) ∧ s = (z, τ, ρ, ι2, κ2) ∧ zFq B ι ι2 ∧ zPsM B c ι2)) 0 0 := by
  refine zM_of zCd_X12_against (Nat.le_of_ble_eq_true rfl) ?_
  intro E X hR hE
  subst hE
  show zW E G 4 (z, τ, ρ, ι, κ) 0 0 0 [(0, .ref (B + 38)), (1, .int x), (2, .int y), (3, .int u)] []
  obtain ⟨h8, hJc, hm1, hm2, hm3, hm4, hm5⟩ := id hJ
  refine r_aload_n X (by rfl) dX12_against_0 ?_
  refine r_iload_n X (by rfl) dX12_against_1 ?_
  refine r_callV X dX12_against_2 zLV_X12_175 zCd_X12_isScale (c_X12_isScale _ G z τ ρ _ _ hL hJ _) (zt hL 38 rfl) ⟨by decide, rfl, rfl⟩ rfl rfl ⟨⟨rfl, rfl⟩, ⟨by decide, by decide⟩, ⟨Nat.le_of_ble_eq_true rfl, Nat.le_of_ble_eq_true rfl⟩, Nat.le_of_ble_eq_true rfl⟩ ?_
  rintro _ _ ⟨rfl, rfl⟩
  refine r_if_eq X 23 dX12_against_5 (by decide) (fun h5 => ?_) (fun h5 => ?_)
  · refine r_ldc X zK_X12_186 dX12_against_23 ?_
    refine r_ireturn X hR dX12_against_25 rfl (Nat.zero_le _) (Nat.zero_le _) ?_
    exact Or.inl ⟨fun q => by first | exact zif0 h5 q.1 | exact zif0 h12 q.2.1 | exact zif0 h20 q.2.2, rfl, rfl⟩
  · refine r_iload_n X (by rfl) dX12_against_8 ?_
    refine r_callS X dX12_against_9 zLS_X12_179 zCd_X12_isNumber (c_X12_isNumber _ G z τ ρ _ _ _) rfl rfl ⟨⟨rfl, rfl⟩, ⟨by decide, by decide⟩, ⟨Nat.le_of_ble_eq_true rfl, Nat.le_of_ble_eq_true rfl⟩, Nat.le_of_ble_eq_true rfl⟩ ?_
    rintro _ _ ⟨rfl, rfl⟩
    refine r_if_eq X 23 dX12_against_12 (by decide) (fun h12 => ?_) (fun h12 => ?_)
    · refine r_ldc X zK_X12_186 dX12_against_23 ?_
      refine r_ireturn X hR dX12_against_25 rfl (Nat.zero_le _) (Nat.zero_le _) ?_
      exact Or.inl ⟨fun q => by first | exact zif0 h5 q.1 | exact zif0 h12 q.2.1 | exact zif0 h20 q.2.2, rfl, rfl⟩
    · refine r_aload_n X (by rfl) dX12_against_15 ?_
      refine r_iload_n X (by rfl) dX12_against_16 ?_
      refine r_callV X dX12_against_17 zLV_X12_175 zCd_X12_isScale (c_X12_isScale _ G z τ ρ _ _ hL hJ _) (zt hL 38 rfl) ⟨by decide, rfl, rfl⟩ rfl rfl ⟨⟨rfl, rfl⟩, ⟨by decide, by decide⟩, ⟨Nat.le_of_ble_eq_true rfl, Nat.le_of_ble_eq_true rfl⟩, Nat.le_of_ble_eq_true rfl⟩ ?_
      rintro _ _ ⟨rfl, rfl⟩
      refine r_if_ne X 26 dX12_against_20 (by decide) (fun h20 => ?_) (fun h20 => ?_)
      · refine r_aload_n X (by rfl) dX12_against_26 ?_
        refine r_iload_n X (by rfl) dX12_against_27 ?_
        refine r_iload_n X (by rfl) dX12_against_28 ?_
        refine r_callV X dX12_against_29 zLV_X12_182 zCd_X12_placeOf (e2_X12_placeOf _ G z τ ρ _ _ hL hJ _ (zif1 h5) _ (zif1 h12) hst hM) (zt hL 38 rfl) ⟨by decide, rfl, rfl⟩ rfl rfl ⟨⟨rfl, rfl⟩, ⟨by decide, by decide⟩, ⟨Nat.le_of_ble_eq_true rfl, Nat.le_of_ble_eq_true rfl⟩, Nat.le_of_ble_eq_true rfl⟩ ?_
        rintro _ _ ⟨ι2, κ2, rfl, rfl, hq2, hM2⟩
        have e39 : ι2 (B + 39) x.toNatClampNeg = ι (B + 39) x.toNatClampNeg := hq2 _ _ (by unfold zCq; omega)
        have e39u : ι2 (B + 39) u.toNatClampNeg = ι (B + 39) u.toNatClampNeg := hq2 _ _ (by unfold zCq; omega)
        refine r_aload_n X (by rfl) dX12_against_32 ?_
        refine r_getR X dX12_against_33 zF_X12_13 (zt hL 38 rfl) (zrf hL 36 rfl) ?_
        refine r_iload_n X (by rfl) dX12_against_36 ?_
        refine r_zaload X dX12_against_37 (zt hL 39 rfl) (by have := zif1 h5; exact vp_in_iff.mpr ⟨by omega, by omega⟩) ?_
        refine r_if_eq X 48 dX12_against_38 (by decide) (fun h38 => ?_) (fun h38 => ?_)
        · refine r_iconst X 0 (by decide) dX12_against_48 ?_
          refine r_iadd X dX12_against_49 ?_
          refine r_aload_n X (by rfl) dX12_against_50 ?_
          refine r_getR X dX12_against_51 zF_X12_13 (zt hL 38 rfl) (zrf hL 36 rfl) ?_
          refine r_iload_n X (by rfl) dX12_against_54 ?_
          refine r_zaload X dX12_against_55 (zt hL 39 rfl) (by have := zif1 h20; exact vp_in_iff.mpr ⟨by omega, by omega⟩) ?_
          refine r_if_eq X 66 dX12_against_56 (by decide) (fun h56 => ?_) (fun h56 => ?_)
          · refine r_iconst X 0 (by decide) dX12_against_66 ?_
            refine r_isub X dX12_against_67 ?_
            refine r_ireturn X hR dX12_against_68 rfl (Nat.zero_le _) (Nat.zero_le _) ?_
            exact Or.inr ⟨⟨zif1 h5, zif1 h12, zif1 h20⟩, _, _, by rw [if_pos (by rw [← e39]; exact h38), if_pos (by rw [← e39u]; exact h56)], rfl, hq2, hM2⟩
          · refine r_aload_n X (by rfl) dX12_against_59 ?_
            refine r_getI X dX12_against_60 zF_X12_206 (zt hL 38 rfl) ?_
            refine r_goto X 67 dX12_against_63 (by decide) ?_
            refine r_isub X dX12_against_67 ?_
            refine r_ireturn X hR dX12_against_68 rfl (Nat.zero_le _) (Nat.zero_le _) ?_
            exact Or.inr ⟨⟨zif1 h5, zif1 h12, zif1 h20⟩, _, _, by rw [if_pos (by rw [← e39]; exact h38), if_neg (fun q => h56 (by rw [e39u]; exact q)), hq2 (B + 38) 10 (by unfold zCq; omega)], rfl, hq2, hM2⟩
        · refine r_aload_n X (by rfl) dX12_against_41 ?_
          refine r_getI X dX12_against_42 zF_X12_206 (zt hL 38 rfl) ?_
          refine r_goto X 49 dX12_against_45 (by decide) ?_
          refine r_iadd X dX12_against_49 ?_
          refine r_aload_n X (by rfl) dX12_against_50 ?_
          refine r_getR X dX12_against_51 zF_X12_13 (zt hL 38 rfl) (zrf hL 36 rfl) ?_
          refine r_iload_n X (by rfl) dX12_against_54 ?_
          refine r_zaload X dX12_against_55 (zt hL 39 rfl) (by have := zif1 h20; exact vp_in_iff.mpr ⟨by omega, by omega⟩) ?_
          refine r_if_eq X 66 dX12_against_56 (by decide) (fun h56 => ?_) (fun h56 => ?_)
          · refine r_iconst X 0 (by decide) dX12_against_66 ?_
            refine r_isub X dX12_against_67 ?_
            refine r_ireturn X hR dX12_against_68 rfl (Nat.zero_le _) (Nat.zero_le _) ?_
            exact Or.inr ⟨⟨zif1 h5, zif1 h12, zif1 h20⟩, _, _, by rw [if_neg (fun q => h38 (by rw [e39]; exact q)), if_pos (by rw [← e39u]; exact h56), hq2 (B + 38) 10 (by unfold zCq; omega)], rfl, hq2, hM2⟩
          · refine r_aload_n X (by rfl) dX12_against_59 ?_
            refine r_getI X dX12_against_60 zF_X12_206 (zt hL 38 rfl) ?_
            refine r_goto X 67 dX12_against_63 (by decide) ?_
            refine r_isub X dX12_against_67 ?_
            refine r_ireturn X hR dX12_against_68 rfl (Nat.zero_le _) (Nat.zero_le _) ?_
            exact Or.inr ⟨⟨zif1 h5, zif1 h12, zif1 h20⟩, _, _, by rw [if_neg (fun q => h38 (by rw [e39]; exact q)), if_neg (fun q => h56 (by rw [e39u]; exact q)), hq2 (B + 38) 10 (by unfold zCq; omega)], rfl, hq2, hM2⟩
      · refine r_ldc X zK_X12_186 dX12_against_23 ?_
        refine r_ireturn X hR dX12_against_25 rfl (Nat.zero_le _) (Nat.zero_le _) ?_
        exact Or.inl ⟨fun q => by first | exact zif0 h5 q.1 | exact zif0 h12 q.2.1 | exact zif0 h20 q.2.2, rfl, rfl⟩
set_option maxHeartbeats 4000000 in
set_option maxRecDepth 100000 in
theorem e2_X12_count (l : Launch) (G : zG) (z : Nat) (τ : Nat → Option (Nat × Nat)) (ρ : Nat → Nat → Option Nat) (ι : Nat → Nat → Int32) (κ : Nat → Nat → Int64) {B c : Nat} (hL : zLay τ ρ B c) (hJ : zJ B c ι) (x : Int32) : zM l G yX12_count cX12_count 4 (some .int) ({ frames := 0, cells := 0, slots := 0, locals := 0 } : Room) [.ref (B + 38), .int x] (z, τ, ρ, ι, κ) (fun v s => ∃ r, v = some (.int r) ∧ s = (z, τ, ρ, ι, κ) ∧ zK2 B c ι x r) 0 0 := by
  refine zM_of zCd_X12_count (Nat.le_of_ble_eq_true rfl) ?_
  intro E X hR hE
  subst hE
  show zW E G 4 (z, τ, ρ, ι, κ) 0 0 0 [(0, .ref (B + 38)), (1, .int x)] []
  obtain ⟨h8, hJc, hm1, hm2, hm3, hm4, hm5⟩ := id hJ
  have L4 : ∀ (m : Nat) (i p : Int32), (8 - i.toInt).toNat < m → 0 ≤ i.toInt → i.toInt ≤ (c : Int) → p.toInt = zOm B ι i.toNatClampNeg → zW E G 4 (z, τ, ρ, ι, κ) 0 0 4 [(0, .ref (B + 38)), (1, .int x), (2, .int p), (3, .int i)] [] := by
    intro m
    induction m with
    | zero => intro i p h; omega
    | succ m ih => ?_
    intro i p hm h0 hc9 hp
    have hin := zclN h0
    have hob := zOm_b B ι i.toNatClampNeg
    refine r_iload_n X (by rfl) dX12_count_4 ?_
    refine r_aload_n X (by rfl) dX12_count_5 ?_
    refine r_getI X dX12_count_6 zF_X12_160 (zt hL 38 rfl) ?_
    refine r_icmp_ge X 35 dX12_count_9 (by decide) (fun h9 => ?_) (fun h9 => ?_)
    · refine r_iload_n X (by rfl) dX12_count_35 ?_
      have hp9 : p.toInt = zOm B ι c := by rw [show i.toNatClampNeg = c by omega] at hp; exact hp
      have hsw : x.toInt = 0 + 0 ∨ x.toInt = 0 + 1 ∨ x.toInt = 0 + 2 ∨ x.toInt = 0 + 3 ∨ x.toInt = 0 + 4 ∨ x.toInt = 0 + 5 ∨ x.toInt = 0 + 6 ∨ (x.toInt < 0 ∨ 6 < x.toInt) := by omega
      rcases hsw with hs | hs | hs | hs | hs | hs | hs | hs
      · refine r_tableIn X (j0 := 0) 80 dX12_count_36 hs rfl (by decide) (by decide) (by decide) ?_
        refine r_aload_n X (by rfl) dX12_count_80 ?_
        refine r_getI X dX12_count_81 zF_X12_160 (zt hL 38 rfl) ?_
        refine r_ireturn X hR dX12_count_84 rfl (Nat.zero_le _) (Nat.zero_le _) ?_
        first | exact ⟨_, rfl, rfl, Or.inl ⟨by omega, rfl⟩⟩ | exact ⟨_, rfl, rfl, Or.inr (Or.inl ⟨by omega, hp9⟩)⟩ | exact ⟨_, rfl, rfl, Or.inr (Or.inr (Or.inl ⟨by omega, rfl⟩))⟩ | exact ⟨_, rfl, rfl, Or.inr (Or.inr (Or.inr (Or.inl ⟨by omega, rfl⟩)))⟩ | exact ⟨_, rfl, rfl, Or.inr (Or.inr (Or.inr (Or.inr (Or.inl ⟨by omega, rfl⟩))))⟩ | exact ⟨_, rfl, rfl, Or.inr (Or.inr (Or.inr (Or.inr (Or.inr (Or.inl ⟨by omega, rfl⟩)))))⟩ | exact ⟨_, rfl, rfl, Or.inr (Or.inr (Or.inr (Or.inr (Or.inr (Or.inr (Or.inl ⟨by omega, rfl⟩))))))⟩ | exact ⟨_, rfl, rfl, Or.inr (Or.inr (Or.inr (Or.inr (Or.inr (Or.inr (Or.inr ⟨by omega, rfl⟩))))))⟩
      · refine r_tableIn X (j0 := 1) 85 dX12_count_36 hs rfl (by decide) (by decide) (by decide) ?_
        refine r_iload_n X (by rfl) dX12_count_85 ?_
        refine r_ireturn X hR dX12_count_86 rfl (Nat.zero_le _) (Nat.zero_le _) ?_
        first | exact ⟨_, rfl, rfl, Or.inl ⟨by omega, rfl⟩⟩ | exact ⟨_, rfl, rfl, Or.inr (Or.inl ⟨by omega, hp9⟩)⟩ | exact ⟨_, rfl, rfl, Or.inr (Or.inr (Or.inl ⟨by omega, rfl⟩))⟩ | exact ⟨_, rfl, rfl, Or.inr (Or.inr (Or.inr (Or.inl ⟨by omega, rfl⟩)))⟩ | exact ⟨_, rfl, rfl, Or.inr (Or.inr (Or.inr (Or.inr (Or.inl ⟨by omega, rfl⟩))))⟩ | exact ⟨_, rfl, rfl, Or.inr (Or.inr (Or.inr (Or.inr (Or.inr (Or.inl ⟨by omega, rfl⟩)))))⟩ | exact ⟨_, rfl, rfl, Or.inr (Or.inr (Or.inr (Or.inr (Or.inr (Or.inr (Or.inl ⟨by omega, rfl⟩))))))⟩ | exact ⟨_, rfl, rfl, Or.inr (Or.inr (Or.inr (Or.inr (Or.inr (Or.inr (Or.inr ⟨by omega, rfl⟩))))))⟩
      · refine r_tableIn X (j0 := 2) 87 dX12_count_36 hs rfl (by decide) (by decide) (by decide) ?_
        refine r_aload_n X (by rfl) dX12_count_87 ?_
        refine r_getI X dX12_count_88 zF_X12_206 (zt hL 38 rfl) ?_
        refine r_ireturn X hR dX12_count_91 rfl (Nat.zero_le _) (Nat.zero_le _) ?_
        first | exact ⟨_, rfl, rfl, Or.inl ⟨by omega, rfl⟩⟩ | exact ⟨_, rfl, rfl, Or.inr (Or.inl ⟨by omega, hp9⟩)⟩ | exact ⟨_, rfl, rfl, Or.inr (Or.inr (Or.inl ⟨by omega, rfl⟩))⟩ | exact ⟨_, rfl, rfl, Or.inr (Or.inr (Or.inr (Or.inl ⟨by omega, rfl⟩)))⟩ | exact ⟨_, rfl, rfl, Or.inr (Or.inr (Or.inr (Or.inr (Or.inl ⟨by omega, rfl⟩))))⟩ | exact ⟨_, rfl, rfl, Or.inr (Or.inr (Or.inr (Or.inr (Or.inr (Or.inl ⟨by omega, rfl⟩)))))⟩ | exact ⟨_, rfl, rfl, Or.inr (Or.inr (Or.inr (Or.inr (Or.inr (Or.inr (Or.inl ⟨by omega, rfl⟩))))))⟩ | exact ⟨_, rfl, rfl, Or.inr (Or.inr (Or.inr (Or.inr (Or.inr (Or.inr (Or.inr ⟨by omega, rfl⟩))))))⟩
      · refine r_tableIn X (j0 := 3) 92 dX12_count_36 hs rfl (by decide) (by decide) (by decide) ?_
        refine r_aload_n X (by rfl) dX12_count_92 ?_
        refine r_getI X dX12_count_93 zF_X12_218 (zt hL 38 rfl) ?_
        refine r_ireturn X hR dX12_count_96 rfl (Nat.zero_le _) (Nat.zero_le _) ?_
        first | exact ⟨_, rfl, rfl, Or.inl ⟨by omega, rfl⟩⟩ | exact ⟨_, rfl, rfl, Or.inr (Or.inl ⟨by omega, hp9⟩)⟩ | exact ⟨_, rfl, rfl, Or.inr (Or.inr (Or.inl ⟨by omega, rfl⟩))⟩ | exact ⟨_, rfl, rfl, Or.inr (Or.inr (Or.inr (Or.inl ⟨by omega, rfl⟩)))⟩ | exact ⟨_, rfl, rfl, Or.inr (Or.inr (Or.inr (Or.inr (Or.inl ⟨by omega, rfl⟩))))⟩ | exact ⟨_, rfl, rfl, Or.inr (Or.inr (Or.inr (Or.inr (Or.inr (Or.inl ⟨by omega, rfl⟩)))))⟩ | exact ⟨_, rfl, rfl, Or.inr (Or.inr (Or.inr (Or.inr (Or.inr (Or.inr (Or.inl ⟨by omega, rfl⟩))))))⟩ | exact ⟨_, rfl, rfl, Or.inr (Or.inr (Or.inr (Or.inr (Or.inr (Or.inr (Or.inr ⟨by omega, rfl⟩))))))⟩
      · refine r_tableIn X (j0 := 4) 97 dX12_count_36 hs rfl (by decide) (by decide) (by decide) ?_
        refine r_aload_n X (by rfl) dX12_count_97 ?_
        refine r_getR X dX12_count_98 zF_X12_42 (zt hL 38 rfl) (zrf hL 45 rfl) ?_
        refine r_iconst X 0 (by decide) dX12_count_101 ?_
        refine r_iaload X dX12_count_102 (zt hL 48 rfl) (vp_in_iff.mpr ⟨by decide, by decide⟩) ?_
        refine r_ireturn X hR dX12_count_103 rfl (Nat.zero_le _) (Nat.zero_le _) ?_
        first | exact ⟨_, rfl, rfl, Or.inl ⟨by omega, rfl⟩⟩ | exact ⟨_, rfl, rfl, Or.inr (Or.inl ⟨by omega, hp9⟩)⟩ | exact ⟨_, rfl, rfl, Or.inr (Or.inr (Or.inl ⟨by omega, rfl⟩))⟩ | exact ⟨_, rfl, rfl, Or.inr (Or.inr (Or.inr (Or.inl ⟨by omega, rfl⟩)))⟩ | exact ⟨_, rfl, rfl, Or.inr (Or.inr (Or.inr (Or.inr (Or.inl ⟨by omega, rfl⟩))))⟩ | exact ⟨_, rfl, rfl, Or.inr (Or.inr (Or.inr (Or.inr (Or.inr (Or.inl ⟨by omega, rfl⟩)))))⟩ | exact ⟨_, rfl, rfl, Or.inr (Or.inr (Or.inr (Or.inr (Or.inr (Or.inr (Or.inl ⟨by omega, rfl⟩))))))⟩ | exact ⟨_, rfl, rfl, Or.inr (Or.inr (Or.inr (Or.inr (Or.inr (Or.inr (Or.inr ⟨by omega, rfl⟩))))))⟩
      · refine r_tableIn X (j0 := 5) 104 dX12_count_36 hs rfl (by decide) (by decide) (by decide) ?_
        refine r_aload_n X (by rfl) dX12_count_104 ?_
        refine r_getR X dX12_count_105 zF_X12_42 (zt hL 38 rfl) (zrf hL 45 rfl) ?_
        refine r_iconst X 1 (by decide) dX12_count_108 ?_
        refine r_iaload X dX12_count_109 (zt hL 48 rfl) (vp_in_iff.mpr ⟨by decide, by decide⟩) ?_
        refine r_ireturn X hR dX12_count_110 rfl (Nat.zero_le _) (Nat.zero_le _) ?_
        first | exact ⟨_, rfl, rfl, Or.inl ⟨by omega, rfl⟩⟩ | exact ⟨_, rfl, rfl, Or.inr (Or.inl ⟨by omega, hp9⟩)⟩ | exact ⟨_, rfl, rfl, Or.inr (Or.inr (Or.inl ⟨by omega, rfl⟩))⟩ | exact ⟨_, rfl, rfl, Or.inr (Or.inr (Or.inr (Or.inl ⟨by omega, rfl⟩)))⟩ | exact ⟨_, rfl, rfl, Or.inr (Or.inr (Or.inr (Or.inr (Or.inl ⟨by omega, rfl⟩))))⟩ | exact ⟨_, rfl, rfl, Or.inr (Or.inr (Or.inr (Or.inr (Or.inr (Or.inl ⟨by omega, rfl⟩)))))⟩ | exact ⟨_, rfl, rfl, Or.inr (Or.inr (Or.inr (Or.inr (Or.inr (Or.inr (Or.inl ⟨by omega, rfl⟩))))))⟩ | exact ⟨_, rfl, rfl, Or.inr (Or.inr (Or.inr (Or.inr (Or.inr (Or.inr (Or.inr ⟨by omega, rfl⟩))))))⟩
      · refine r_tableIn X (j0 := 6) 111 dX12_count_36 hs rfl (by decide) (by decide) (by decide) ?_
        refine r_aload_n X (by rfl) dX12_count_111 ?_
        refine r_getI X dX12_count_112 zF_X12_7 (zt hL 38 rfl) ?_
        refine r_ireturn X hR dX12_count_115 rfl (Nat.zero_le _) (Nat.zero_le _) ?_
        first | exact ⟨_, rfl, rfl, Or.inl ⟨by omega, rfl⟩⟩ | exact ⟨_, rfl, rfl, Or.inr (Or.inl ⟨by omega, hp9⟩)⟩ | exact ⟨_, rfl, rfl, Or.inr (Or.inr (Or.inl ⟨by omega, rfl⟩))⟩ | exact ⟨_, rfl, rfl, Or.inr (Or.inr (Or.inr (Or.inl ⟨by omega, rfl⟩)))⟩ | exact ⟨_, rfl, rfl, Or.inr (Or.inr (Or.inr (Or.inr (Or.inl ⟨by omega, rfl⟩))))⟩ | exact ⟨_, rfl, rfl, Or.inr (Or.inr (Or.inr (Or.inr (Or.inr (Or.inl ⟨by omega, rfl⟩)))))⟩ | exact ⟨_, rfl, rfl, Or.inr (Or.inr (Or.inr (Or.inr (Or.inr (Or.inr (Or.inl ⟨by omega, rfl⟩))))))⟩ | exact ⟨_, rfl, rfl, Or.inr (Or.inr (Or.inr (Or.inr (Or.inr (Or.inr (Or.inr ⟨by omega, rfl⟩))))))⟩
      · refine r_tableOut X 116 dX12_count_36 hs (by decide) ?_
        refine r_ldc X zK_X12_186 dX12_count_116 ?_
        refine r_ireturn X hR dX12_count_118 rfl (Nat.zero_le _) (Nat.zero_le _) ?_
        first | exact ⟨_, rfl, rfl, Or.inl ⟨by omega, rfl⟩⟩ | exact ⟨_, rfl, rfl, Or.inr (Or.inl ⟨by omega, hp9⟩)⟩ | exact ⟨_, rfl, rfl, Or.inr (Or.inr (Or.inl ⟨by omega, rfl⟩))⟩ | exact ⟨_, rfl, rfl, Or.inr (Or.inr (Or.inr (Or.inl ⟨by omega, rfl⟩)))⟩ | exact ⟨_, rfl, rfl, Or.inr (Or.inr (Or.inr (Or.inr (Or.inl ⟨by omega, rfl⟩))))⟩ | exact ⟨_, rfl, rfl, Or.inr (Or.inr (Or.inr (Or.inr (Or.inr (Or.inl ⟨by omega, rfl⟩)))))⟩ | exact ⟨_, rfl, rfl, Or.inr (Or.inr (Or.inr (Or.inr (Or.inr (Or.inr (Or.inl ⟨by omega, rfl⟩))))))⟩ | exact ⟨_, rfl, rfl, Or.inr (Or.inr (Or.inr (Or.inr (Or.inr (Or.inr (Or.inr ⟨by omega, rfl⟩))))))⟩
    · refine r_iload_n X (by rfl) dX12_count_12 ?_
      refine r_aload_n X (by rfl) dX12_count_13 ?_
      refine r_getR X dX12_count_14 zF_X12_13 (zt hL 38 rfl) (zrf hL 36 rfl) ?_
      refine r_iload_n X (by rfl) dX12_count_17 ?_
      refine r_zaload X dX12_count_18 (zt hL 39 rfl) (vp_in_iff.mpr ⟨by omega, by omega⟩) ?_
      refine r_if_eq X 26 dX12_count_19 (by decide) (fun h19 => ?_) (fun h19 => ?_)
      · refine r_iconst X 0 (by decide) dX12_count_26 ?_
        refine r_iadd X dX12_count_27 ?_
        refine r_istore_n X (by decide) dX12_count_28 ?_
        refine r_iinc X 1 (by decide) (by rfl) (by decide) dX12_count_29 ?_
        refine r_goto X 4 dX12_count_32 (by decide) ?_
        exact zW.loc4 (by rfl) (by rfl) (by rfl) (by rfl) (ih _ _ (by have e := zinc (x := i) (by omega); omega) (by have e := zinc (x := i) (by omega); omega) (by have e := zinc (x := i) (by omega); omega) (by have e := zinc (x := i) (by omega); have e2 := zclN (i := i + 1) (by omega); rw [show (i + 1).toNatClampNeg = i.toNatClampNeg + 1 by omega, zOm]; first | rw [if_pos h19, Int32.add_zero]; omega | (rw [if_neg h19, zinc (x := p) (by omega)]; omega)))
      · refine r_iconst X 1 (by decide) dX12_count_22 ?_
        refine r_goto X 27 dX12_count_23 (by decide) ?_
        refine r_iadd X dX12_count_27 ?_
        refine r_istore_n X (by decide) dX12_count_28 ?_
        refine r_iinc X 1 (by decide) (by rfl) (by decide) dX12_count_29 ?_
        refine r_goto X 4 dX12_count_32 (by decide) ?_
        exact zW.loc4 (by rfl) (by rfl) (by rfl) (by rfl) (ih _ _ (by have e := zinc (x := i) (by omega); omega) (by have e := zinc (x := i) (by omega); omega) (by have e := zinc (x := i) (by omega); omega) (by have e := zinc (x := i) (by omega); have e2 := zclN (i := i + 1) (by omega); rw [show (i + 1).toNatClampNeg = i.toNatClampNeg + 1 by omega, zOm]; first | rw [if_pos h19, Int32.add_zero]; omega | (rw [if_neg h19, zinc (x := p) (by omega)]; omega)))
  refine r_iconst X 0 (by decide) dX12_count_0 ?_
  refine r_istore_n X (by decide) dX12_count_1 ?_
  refine r_iconst X 0 (by decide) dX12_count_2 ?_
  refine r_istore_n X (by decide) dX12_count_3 ?_
  exact zW.loc4 (by rfl) (by rfl) (by rfl) (by rfl) (L4 9 _ _ (by decide) (by decide) (by rw [show Int32.toInt 0 = 0 from rfl]; omega) (by rfl))
set_option maxHeartbeats 4000000 in
set_option maxRecDepth 100000 in
theorem e2_X12_digest (l : Launch) (G : zG) (z : Nat) (τ : Nat → Option (Nat × Nat)) (ρ : Nat → Nat → Option Nat) (ι : Nat → Nat → Int32) (κ : Nat → Nat → Int64) {B c : Nat} (hL : zLay τ ρ B c) (hJ : zJ B c ι) (hst : 100 ≤ (ι (B + 38) 0).toInt ∧ (ι (B + 38) 0).toInt ≤ 50000) (hM : zPsM B c ι) : zM l G yX12_digest cX12_digest 5 (some .long) ({ frames := 5, cells := 0, slots := 0, locals := 143 } : Room) [.ref (B + 38)] (z, τ, ρ, ι, κ) (fun v s => ∃ r ι2 κ2, v = some (.long r) ∧ s = (z, τ, ρ, ι2, κ2) ∧ zFq B ι ι2 ∧ zPsM B c ι2) 0 0 := by
  refine zM_of zCd_X12_digest (Nat.le_of_ble_eq_true rfl) ?_
  intro E X hR hE
  subst hE
  show zW E G 5 (z, τ, ρ, ι, κ) 0 0 0 [(0, .ref (B + 38))] []
  obtain ⟨h8, hJc, hm1, hm2, hm3, hm4, hm5⟩ := id hJ
  have L254 : ∀ (ι1 : Nat → Nat → Int32) (κ1 : Nat → Nat → Int64), zFq B ι ι1 → zPsM B c ι1 → zJm B c ι1 → ∀ (m : Nat) (i : Int32) (h : Int64), (2 - i.toInt).toNat < m → 0 ≤ i.toInt → zW E G 5 (z, τ, ρ, ι1, κ1) 0 0 254 [(0, .ref (B + 38)), (1, .long h), (3, .int i)] [] := by
    intro ι1 κ1 hf hM1 ⟨g1, g2, g3, g4, g5⟩ m
    induction m with
    | zero => intro i h h1; omega
    | succ m ih => ?_
    intro i h hm h0
    have L262 : ∀ (hi : i.toInt < 2) (m2 : Nat) (j : Int32) (h : Int64), (60 - j.toInt).toNat < m2 → 0 ≤ j.toInt → zW E G 5 (z, τ, ρ, ι1, κ1) 0 0 262 [(0, .ref (B + 38)), (1, .long h), (3, .int i), (4, .int j)] [] := by
      intro hi m2
      have hs := g4 i.toNatClampNeg (by have := zclN h0; omega)
      induction m2 with
      | zero => intro j h h1; omega
      | succ m2 ih2 => ?_
      intro j h hm2 hj0
      refine r_iload X (by rfl) dX12_digest_262 ?_
      refine r_aload_n X (by rfl) dX12_digest_264 ?_
      refine r_getR X dX12_digest_265 zF_X12_42 (zt hL 38 rfl) (zrf hL 45 rfl) ?_
      refine r_iload_n X (by rfl) dX12_digest_268 ?_
      refine r_iaload X dX12_digest_269 (zt hL 48 rfl) (vp_in_iff.mpr ⟨h0, by omega⟩) ?_
      refine r_icmp_ge X 299 dX12_digest_270 (by decide) (fun h270 => ?_) (fun h270 => ?_)
      · refine r_iinc X 1 (by decide) (by rfl) (by decide) dX12_digest_299 ?_
        refine r_goto X 254 dX12_digest_302 (by decide) ?_
        exact zW.loc3 (by rfl) (by rfl) (by rfl) (ih _ _ (by have e := zinc (x := i) (by omega); omega) (by have e := zinc (x := i) (by omega); omega))
      · refine r_ldc2 X zK_X12_276 dX12_digest_273 ?_
        refine r_lload_n X (by rfl) dX12_digest_276 ?_
        refine r_lmul X dX12_digest_277 ?_
        refine r_aload_n X (by rfl) dX12_digest_278 ?_
        refine r_getR X dX12_digest_279 zF_X12_45 (zt hL 38 rfl) (zrf hL 46 rfl) ?_
        refine r_bipush X 60 (by decide) dX12_digest_282 ?_
        refine r_iload_n X (by rfl) dX12_digest_284 ?_
        refine r_imul X dX12_digest_285 ?_
        refine r_iload X (by rfl) dX12_digest_286 ?_
        refine r_iadd X dX12_digest_288 ?_
        refine r_iaload X dX12_digest_289 (zt hL 49 rfl) (by have e60 := zix60 (x := i) (q := j) h0 (by omega) hj0 (by omega); exact vp_in_iff.mpr ⟨by omega, by omega⟩) ?_
        refine r_i2l X dX12_digest_290 ?_
        refine r_ladd X dX12_digest_291 ?_
        refine r_lstore_n X (by decide) dX12_digest_292 ?_
        refine r_iinc X 1 (by decide) (by rfl) (by decide) dX12_digest_293 ?_
        refine r_goto X 262 dX12_digest_296 (by decide) ?_
        exact zW.loc4 (by rfl) (by rfl) (by rfl) (by rfl) (ih2 _ _ (by have e := zinc (x := j) (by omega); omega) (by have e := zinc (x := j) (by omega); omega))
    refine r_iload_n X (by rfl) dX12_digest_254 ?_
    refine r_iconst X 2 (by decide) dX12_digest_255 ?_
    refine r_icmp_ge X 305 dX12_digest_256 (by decide) (fun h256 => ?_) (fun h256 => ?_)
    · rw [show Int32.toInt 2 = 2 from rfl] at h256
      refine r_lload_n X (by rfl) dX12_digest_305 ?_
      refine r_lreturn X hR dX12_digest_306 (Nat.zero_le _) (Nat.zero_le _) ?_
      exact ⟨_, _, _, rfl, rfl, hf, hM1⟩
    · rw [show Int32.toInt 2 = 2 from rfl] at h256
      refine r_iconst X 0 (by decide) dX12_digest_259 ?_
      refine r_istore X (by decide) dX12_digest_260 ?_
      exact zW.loc4 (by rfl) (by rfl) (by rfl) (by rfl) (L262 h256 61 _ _ (by decide) (by decide))
  have L224 : ∀ (ι1 : Nat → Nat → Int32) (κ1 : Nat → Nat → Int64), zFq B ι ι1 → zPsM B c ι1 → zJm B c ι1 → ∀ (m : Nat) (i : Int32) (h : Int64), (12 - i.toInt).toNat < m → 0 ≤ i.toInt → zW E G 5 (z, τ, ρ, ι1, κ1) 0 0 224 [(0, .ref (B + 38)), (1, .long h), (3, .int i)] [] := by
    intro ι1 κ1 hf hM1 ⟨g1, g2, g3, g4, g5⟩ m
    induction m with
    | zero => intro i h h1; omega
    | succ m ih => ?_
    intro i h hm h0
    refine r_iload_n X (by rfl) dX12_digest_224 ?_
    refine r_aload_n X (by rfl) dX12_digest_225 ?_
    refine r_getI X dX12_digest_226 zF_X12_218 (zt hL 38 rfl) ?_
    refine r_icmp_ge X 252 dX12_digest_229 (by decide) (fun h229 => ?_) (fun h229 => ?_)
    · refine r_iconst X 0 (by decide) dX12_digest_252 ?_
      refine r_istore_n X (by decide) dX12_digest_253 ?_
      exact zW.loc3 (by rfl) (by rfl) (by rfl) (L254 _ _ hf hM1 ⟨g1, g2, g3, g4, g5⟩ 3 _ _ (by decide) (by decide))
    · refine r_ldc2 X zK_X12_276 dX12_digest_232 ?_
      refine r_lload_n X (by rfl) dX12_digest_235 ?_
      refine r_lmul X dX12_digest_236 ?_
      refine r_aload_n X (by rfl) dX12_digest_237 ?_
      refine r_getR X dX12_digest_238 zF_X12_39 (zt hL 38 rfl) (zrf hL 44 rfl) ?_
      refine r_iload_n X (by rfl) dX12_digest_241 ?_
      refine r_iaload X dX12_digest_242 (zt hL 47 rfl) (vp_in_iff.mpr ⟨by omega, by omega⟩) ?_
      refine r_i2l X dX12_digest_243 ?_
      refine r_ladd X dX12_digest_244 ?_
      refine r_lstore_n X (by decide) dX12_digest_245 ?_
      refine r_iinc X 1 (by decide) (by rfl) (by decide) dX12_digest_246 ?_
      refine r_goto X 224 dX12_digest_249 (by decide) ?_
      exact zW.loc3 (by rfl) (by rfl) (by rfl) (ih _ _ (by have e := zinc (x := i) (by omega); omega) (by have e := zinc (x := i) (by omega); omega))
  have L33 : ∀ (m : Nat) (i : Int32) (h : Int64) (ι1 : Nat → Nat → Int32) (κ1 : Nat → Nat → Int64), (8 - i.toInt).toNat < m → 0 ≤ i.toInt → zFq B ι ι1 → zPsM B c ι1 → zW E G 5 (z, τ, ρ, ι1, κ1) 0 0 33 [(0, .ref (B + 38)), (1, .long h), (3, .int i)] [] := by
    intro m
    induction m with
    | zero => intro i h ι1 κ1 h1; omega
    | succ m ih => ?_
    intro i h ι1 κ1 hm h0 hf hM1
    have hst1 : 100 ≤ (ι1 (B + 38) 0).toInt ∧ (ι1 (B + 38) 0).toInt ≤ 50000 := by rw [hf (B + 38) 0 (by unfold zCq; omega)]; exact hst
    have hJ1 := zJ_fq hJ hf
    obtain ⟨-, -, g1, g2, g3, g4, g5⟩ := id hJ1
    have L118 : ∀ (hi : i.toInt < (c : Int)) (m2 : Nat) (j : Int32) (h : Int64), (32 - j.toInt).toNat < m2 → 0 ≤ j.toInt → zW E G 5 (z, τ, ρ, ι1, κ1) 0 0 118 [(0, .ref (B + 38)), (1, .long h), (3, .int i), (4, .int j)] [] := by
      intro hi m2
      have hin := zclN h0
      obtain ⟨-, -, hsp, -⟩ := g5 i.toNatClampNeg (by omega)
      have e0 := zix (x := i) (q := 0) h0 (by omega) (by decide) (by decide)
      rw [Int32.add_zero, show Int32.toInt 0 = 0 from rfl] at e0
      have e4 := zix (x := i) (q := ι1 (B + 43) i.toNatClampNeg) h0 (by omega) hsp.1 hsp.2
      induction m2 with
      | zero => intro j h h1; omega
      | succ m2 ih2 => ?_
      intro j h hm2 hj0
      refine r_iload X (by rfl) dX12_digest_118 ?_
      refine r_iconst X 4 (by decide) dX12_digest_120 ?_
      refine r_iload_n X (by rfl) dX12_digest_121 ?_
      refine r_imul X dX12_digest_122 ?_
      refine r_aload_n X (by rfl) dX12_digest_123 ?_
      refine r_getR X dX12_digest_124 zF_X12_27 (zt hL 38 rfl) (zrf hL 40 rfl) ?_
      refine r_iload_n X (by rfl) dX12_digest_127 ?_
      refine r_iaload X dX12_digest_128 (zt hL 43 rfl) (vp_in_iff.mpr ⟨h0, by omega⟩) ?_
      refine r_iadd X dX12_digest_129 ?_
      refine r_icmp_ge X 184 dX12_digest_130 (by decide) (fun h130 => ?_) (fun h130 => ?_)
      · refine r_ldc2 X zK_X12_276 dX12_digest_184 ?_
        refine r_lload_n X (by rfl) dX12_digest_187 ?_
        refine r_lmul X dX12_digest_188 ?_
        refine r_aload_n X (by rfl) dX12_digest_189 ?_
        refine r_iload_n X (by rfl) dX12_digest_190 ?_
        refine r_sipush X 200 (by decide) dX12_digest_191 ?_
        refine r_callV X dX12_digest_194 zLV_X12_182 zCd_X12_placeOf (e2_X12_placeOf _ G z τ ρ _ _ hL hJ1 _ ⟨h0, hi⟩ _ (by decide) hst1 hM1) (zt hL 38 rfl) ⟨by decide, rfl, rfl⟩ rfl rfl ⟨⟨rfl, rfl⟩, ⟨by decide, by decide⟩, ⟨Nat.le_of_ble_eq_true rfl, Nat.le_of_ble_eq_true rfl⟩, Nat.le_of_ble_eq_true rfl⟩ ?_
        rintro _ _ ⟨ι2, κ2, rfl, rfl, hq2, hM2⟩
        have hf2 := hq2
        generalize zPm _ _ _ _ = r2
        refine r_i2l X dX12_digest_197 ?_
        refine r_ladd X dX12_digest_198 ?_
        refine r_lstore_n X (by decide) dX12_digest_199 ?_
        refine r_ldc2 X zK_X12_276 dX12_digest_200 ?_
        refine r_lload_n X (by rfl) dX12_digest_203 ?_
        refine r_lmul X dX12_digest_204 ?_
        refine r_aload_n X (by rfl) dX12_digest_205 ?_
        refine r_iload_n X (by rfl) dX12_digest_206 ?_
        refine r_sipush X 300 (by decide) dX12_digest_207 ?_
        refine r_callV X dX12_digest_210 zLV_X12_182 zCd_X12_placeOf (e2_X12_placeOf _ G z τ ρ _ _ hL (zJ_fq hJ1 hf2) _ ⟨h0, hi⟩ _ (by decide) (by rw [hq2 _ _ (by unfold zCq; omega)]; exact hst1) hM2) (zt hL 38 rfl) ⟨by decide, rfl, rfl⟩ rfl rfl ⟨⟨rfl, rfl⟩, ⟨by decide, by decide⟩, ⟨Nat.le_of_ble_eq_true rfl, Nat.le_of_ble_eq_true rfl⟩, Nat.le_of_ble_eq_true rfl⟩ ?_
        rintro _ _ ⟨ι3, κ3, rfl, rfl, hq3, hM3⟩
        have hf3 := hq3
        generalize zPm _ _ _ _ = r3
        refine r_i2l X dX12_digest_213 ?_
        refine r_ladd X dX12_digest_214 ?_
        refine r_lstore_n X (by decide) dX12_digest_215 ?_
        refine r_iinc X 1 (by decide) (by rfl) (by decide) dX12_digest_216 ?_
        refine r_goto X 33 dX12_digest_219 (by decide) ?_
        exact zW.loc3 (by rfl) (by rfl) (by rfl) (ih _ _ _ _ (by have e := zinc (x := i) (by omega); omega) (by have e := zinc (x := i) (by omega); omega) ((hf.tr hf2).tr hf3) hM3)
      · refine r_ldc2 X zK_X12_276 dX12_digest_133 ?_
        refine r_lload_n X (by rfl) dX12_digest_136 ?_
        refine r_lmul X dX12_digest_137 ?_
        refine r_aload_n X (by rfl) dX12_digest_138 ?_
        refine r_getR X dX12_digest_139 zF_X12_30 (zt hL 38 rfl) (zrf hL 41 rfl) ?_
        refine r_iload X (by rfl) dX12_digest_142 ?_
        refine r_iaload X dX12_digest_144 (zt hL 44 rfl) (vp_in_iff.mpr ⟨by omega, by omega⟩) ?_
        refine r_i2l X dX12_digest_145 ?_
        refine r_ladd X dX12_digest_146 ?_
        refine r_lstore_n X (by decide) dX12_digest_147 ?_
        refine r_ldc2 X zK_X12_276 dX12_digest_148 ?_
        refine r_lload_n X (by rfl) dX12_digest_151 ?_
        refine r_lmul X dX12_digest_152 ?_
        refine r_aload_n X (by rfl) dX12_digest_153 ?_
        refine r_getR X dX12_digest_154 zF_X12_33 (zt hL 38 rfl) (zrf hL 42 rfl) ?_
        refine r_iload X (by rfl) dX12_digest_157 ?_
        refine r_iaload X dX12_digest_159 (zt hL 45 rfl) (vp_in_iff.mpr ⟨by omega, by omega⟩) ?_
        refine r_i2l X dX12_digest_160 ?_
        refine r_ladd X dX12_digest_161 ?_
        refine r_lstore_n X (by decide) dX12_digest_162 ?_
        refine r_ldc2 X zK_X12_276 dX12_digest_163 ?_
        refine r_lload_n X (by rfl) dX12_digest_166 ?_
        refine r_lmul X dX12_digest_167 ?_
        refine r_aload_n X (by rfl) dX12_digest_168 ?_
        refine r_getR X dX12_digest_169 zF_X12_36 (zt hL 38 rfl) (zrf hL 43 rfl) ?_
        refine r_iload X (by rfl) dX12_digest_172 ?_
        refine r_iaload X dX12_digest_174 (zt hL 46 rfl) (vp_in_iff.mpr ⟨by omega, by omega⟩) ?_
        refine r_i2l X dX12_digest_175 ?_
        refine r_ladd X dX12_digest_176 ?_
        refine r_lstore_n X (by decide) dX12_digest_177 ?_
        refine r_iinc X 1 (by decide) (by rfl) (by decide) dX12_digest_178 ?_
        refine r_goto X 118 dX12_digest_181 (by decide) ?_
        exact zW.loc4 (by rfl) (by rfl) (by rfl) (by rfl) (ih2 _ _ (by have e := zinc (x := j) (by omega); omega) (by have e := zinc (x := j) (by omega); omega))
    refine r_iload_n X (by rfl) dX12_digest_33 ?_
    refine r_aload_n X (by rfl) dX12_digest_34 ?_
    refine r_getI X dX12_digest_35 zF_X12_160 (zt hL 38 rfl) ?_
    refine r_icmp_ge X 222 dX12_digest_38 (by decide) (fun h38 => ?_) (fun h38 => ?_)
    · refine r_iconst X 0 (by decide) dX12_digest_222 ?_
      refine r_istore_n X (by decide) dX12_digest_223 ?_
      exact zW.loc3 (by rfl) (by rfl) (by rfl) (L224 _ _ hf hM1 ⟨g1, g2, g3, g4, g5⟩ 13 _ _ (by decide) (by decide))
    · refine r_ldc2 X zK_X12_276 dX12_digest_41 ?_
      refine r_lload_n X (by rfl) dX12_digest_44 ?_
      refine r_lmul X dX12_digest_45 ?_
      refine r_aload_n X (by rfl) dX12_digest_46 ?_
      refine r_getR X dX12_digest_47 zF_X12_13 (zt hL 38 rfl) (zrf hL 36 rfl) ?_
      refine r_iload_n X (by rfl) dX12_digest_50 ?_
      refine r_zaload X dX12_digest_51 (zt hL 39 rfl) (vp_in_iff.mpr ⟨by omega, by omega⟩) ?_
      refine r_if_eq X 59 dX12_digest_52 (by decide) (fun h52 => ?_) (fun h52 => ?_)
      · refine r_iconst X 0 (by decide) dX12_digest_59 ?_
        refine r_i2l X dX12_digest_60 ?_
        refine r_ladd X dX12_digest_61 ?_
        refine r_lstore_n X (by decide) dX12_digest_62 ?_
        refine r_ldc2 X zK_X12_276 dX12_digest_63 ?_
        refine r_lload_n X (by rfl) dX12_digest_66 ?_
        refine r_lmul X dX12_digest_67 ?_
        refine r_aload_n X (by rfl) dX12_digest_68 ?_
        refine r_getR X dX12_digest_69 zF_X12_17 (zt hL 38 rfl) (zrf hL 37 rfl) ?_
        refine r_iload_n X (by rfl) dX12_digest_72 ?_
        refine r_iaload X dX12_digest_73 (zt hL 40 rfl) (vp_in_iff.mpr ⟨by omega, by omega⟩) ?_
        refine r_i2l X dX12_digest_74 ?_
        refine r_ladd X dX12_digest_75 ?_
        refine r_lstore_n X (by decide) dX12_digest_76 ?_
        refine r_ldc2 X zK_X12_276 dX12_digest_77 ?_
        refine r_lload_n X (by rfl) dX12_digest_80 ?_
        refine r_lmul X dX12_digest_81 ?_
        refine r_aload_n X (by rfl) dX12_digest_82 ?_
        refine r_getR X dX12_digest_83 zF_X12_21 (zt hL 38 rfl) (zrf hL 38 rfl) ?_
        refine r_iload_n X (by rfl) dX12_digest_86 ?_
        refine r_iaload X dX12_digest_87 (zt hL 41 rfl) (vp_in_iff.mpr ⟨by omega, by omega⟩) ?_
        refine r_i2l X dX12_digest_88 ?_
        refine r_ladd X dX12_digest_89 ?_
        refine r_lstore_n X (by decide) dX12_digest_90 ?_
        refine r_ldc2 X zK_X12_276 dX12_digest_91 ?_
        refine r_lload_n X (by rfl) dX12_digest_94 ?_
        refine r_lmul X dX12_digest_95 ?_
        refine r_aload_n X (by rfl) dX12_digest_96 ?_
        refine r_getR X dX12_digest_97 zF_X12_24 (zt hL 38 rfl) (zrf hL 39 rfl) ?_
        refine r_iload_n X (by rfl) dX12_digest_100 ?_
        refine r_zaload X dX12_digest_101 (zt hL 42 rfl) (vp_in_iff.mpr ⟨by omega, by omega⟩) ?_
        refine r_if_eq X 109 dX12_digest_102 (by decide) (fun h102 => ?_) (fun h102 => ?_)
        · refine r_iconst X 0 (by decide) dX12_digest_109 ?_
          refine r_i2l X dX12_digest_110 ?_
          refine r_ladd X dX12_digest_111 ?_
          refine r_lstore_n X (by decide) dX12_digest_112 ?_
          refine r_iconst X 4 (by decide) dX12_digest_113 ?_
          refine r_iload_n X (by rfl) dX12_digest_114 ?_
          refine r_imul X dX12_digest_115 ?_
          refine r_istore X (by decide) dX12_digest_116 ?_
          exact zW.loc4 (by rfl) (by rfl) (by rfl) (by rfl) (L118 (by omega) 33 _ _ (by have e0 := zix (x := i) (q := 0) h0 (by omega) (by decide) (by decide); rw [Int32.add_zero, show Int32.toInt 0 = 0 from rfl] at e0; omega) (by have e0 := zix (x := i) (q := 0) h0 (by omega) (by decide) (by decide); rw [Int32.add_zero, show Int32.toInt 0 = 0 from rfl] at e0; omega))
        · refine r_iconst X 1 (by decide) dX12_digest_105 ?_
          refine r_goto X 110 dX12_digest_106 (by decide) ?_
          refine r_i2l X dX12_digest_110 ?_
          refine r_ladd X dX12_digest_111 ?_
          refine r_lstore_n X (by decide) dX12_digest_112 ?_
          refine r_iconst X 4 (by decide) dX12_digest_113 ?_
          refine r_iload_n X (by rfl) dX12_digest_114 ?_
          refine r_imul X dX12_digest_115 ?_
          refine r_istore X (by decide) dX12_digest_116 ?_
          exact zW.loc4 (by rfl) (by rfl) (by rfl) (by rfl) (L118 (by omega) 33 _ _ (by have e0 := zix (x := i) (q := 0) h0 (by omega) (by decide) (by decide); rw [Int32.add_zero, show Int32.toInt 0 = 0 from rfl] at e0; omega) (by have e0 := zix (x := i) (q := 0) h0 (by omega) (by decide) (by decide); rw [Int32.add_zero, show Int32.toInt 0 = 0 from rfl] at e0; omega))
      · refine r_iconst X 1 (by decide) dX12_digest_55 ?_
        refine r_goto X 60 dX12_digest_56 (by decide) ?_
        refine r_i2l X dX12_digest_60 ?_
        refine r_ladd X dX12_digest_61 ?_
        refine r_lstore_n X (by decide) dX12_digest_62 ?_
        refine r_ldc2 X zK_X12_276 dX12_digest_63 ?_
        refine r_lload_n X (by rfl) dX12_digest_66 ?_
        refine r_lmul X dX12_digest_67 ?_
        refine r_aload_n X (by rfl) dX12_digest_68 ?_
        refine r_getR X dX12_digest_69 zF_X12_17 (zt hL 38 rfl) (zrf hL 37 rfl) ?_
        refine r_iload_n X (by rfl) dX12_digest_72 ?_
        refine r_iaload X dX12_digest_73 (zt hL 40 rfl) (vp_in_iff.mpr ⟨by omega, by omega⟩) ?_
        refine r_i2l X dX12_digest_74 ?_
        refine r_ladd X dX12_digest_75 ?_
        refine r_lstore_n X (by decide) dX12_digest_76 ?_
        refine r_ldc2 X zK_X12_276 dX12_digest_77 ?_
        refine r_lload_n X (by rfl) dX12_digest_80 ?_
        refine r_lmul X dX12_digest_81 ?_
        refine r_aload_n X (by rfl) dX12_digest_82 ?_
        refine r_getR X dX12_digest_83 zF_X12_21 (zt hL 38 rfl) (zrf hL 38 rfl) ?_
        refine r_iload_n X (by rfl) dX12_digest_86 ?_
        refine r_iaload X dX12_digest_87 (zt hL 41 rfl) (vp_in_iff.mpr ⟨by omega, by omega⟩) ?_
        refine r_i2l X dX12_digest_88 ?_
        refine r_ladd X dX12_digest_89 ?_
        refine r_lstore_n X (by decide) dX12_digest_90 ?_
        refine r_ldc2 X zK_X12_276 dX12_digest_91 ?_
        refine r_lload_n X (by rfl) dX12_digest_94 ?_
        refine r_lmul X dX12_digest_95 ?_
        refine r_aload_n X (by rfl) dX12_digest_96 ?_
        refine r_getR X dX12_digest_97 zF_X12_24 (zt hL 38 rfl) (zrf hL 39 rfl) ?_
        refine r_iload_n X (by rfl) dX12_digest_100 ?_
        refine r_zaload X dX12_digest_101 (zt hL 42 rfl) (vp_in_iff.mpr ⟨by omega, by omega⟩) ?_
        refine r_if_eq X 109 dX12_digest_102 (by decide) (fun h102 => ?_) (fun h102 => ?_)
        · refine r_iconst X 0 (by decide) dX12_digest_109 ?_
          refine r_i2l X dX12_digest_110 ?_
          refine r_ladd X dX12_digest_111 ?_
          refine r_lstore_n X (by decide) dX12_digest_112 ?_
          refine r_iconst X 4 (by decide) dX12_digest_113 ?_
          refine r_iload_n X (by rfl) dX12_digest_114 ?_
          refine r_imul X dX12_digest_115 ?_
          refine r_istore X (by decide) dX12_digest_116 ?_
          exact zW.loc4 (by rfl) (by rfl) (by rfl) (by rfl) (L118 (by omega) 33 _ _ (by have e0 := zix (x := i) (q := 0) h0 (by omega) (by decide) (by decide); rw [Int32.add_zero, show Int32.toInt 0 = 0 from rfl] at e0; omega) (by have e0 := zix (x := i) (q := 0) h0 (by omega) (by decide) (by decide); rw [Int32.add_zero, show Int32.toInt 0 = 0 from rfl] at e0; omega))
        · refine r_iconst X 1 (by decide) dX12_digest_105 ?_
          refine r_goto X 110 dX12_digest_106 (by decide) ?_
          refine r_i2l X dX12_digest_110 ?_
          refine r_ladd X dX12_digest_111 ?_
          refine r_lstore_n X (by decide) dX12_digest_112 ?_
          refine r_iconst X 4 (by decide) dX12_digest_113 ?_
          refine r_iload_n X (by rfl) dX12_digest_114 ?_
          refine r_imul X dX12_digest_115 ?_
          refine r_istore X (by decide) dX12_digest_116 ?_
          exact zW.loc4 (by rfl) (by rfl) (by rfl) (by rfl) (L118 (by omega) 33 _ _ (by have e0 := zix (x := i) (q := 0) h0 (by omega) (by decide) (by decide); rw [Int32.add_zero, show Int32.toInt 0 = 0 from rfl] at e0; omega) (by have e0 := zix (x := i) (q := 0) h0 (by omega) (by decide) (by decide); rw [Int32.add_zero, show Int32.toInt 0 = 0 from rfl] at e0; omega))
  have L6 : ∀ (m : Nat) (i : Int32) (h : Int64), (7 - i.toInt).toNat < m → 0 ≤ i.toInt → zW E G 5 (z, τ, ρ, ι, κ) 0 0 6 [(0, .ref (B + 38)), (1, .long h), (3, .int i)] [] := by
    intro m
    induction m with
    | zero => intro i h h1; omega
    | succ m ih => ?_
    intro i h hm h0
    refine r_iload_n X (by rfl) dX12_digest_6 ?_
    refine r_bipush X 7 (by decide) dX12_digest_7 ?_
    refine r_icmp_ge X 31 dX12_digest_9 (by decide) (fun h9 => ?_) (fun h9 => ?_)
    · rw [show Int32.toInt 7 = 7 from rfl] at h9
      refine r_iconst X 0 (by decide) dX12_digest_31 ?_
      refine r_istore_n X (by decide) dX12_digest_32 ?_
      exact zW.loc3 (by rfl) (by rfl) (by rfl) (L33 9 _ _ _ _ (by decide) (by decide) zFq.rfl hM)
    · rw [show Int32.toInt 7 = 7 from rfl] at h9
      refine r_ldc2 X zK_X12_276 dX12_digest_12 ?_
      refine r_lload_n X (by rfl) dX12_digest_15 ?_
      refine r_lmul X dX12_digest_16 ?_
      refine r_aload_n X (by rfl) dX12_digest_17 ?_
      refine r_iload_n X (by rfl) dX12_digest_18 ?_
      refine r_callV X dX12_digest_19 zLV_X12_278 zCd_X12_count (c_X12_count _ G z τ ρ _ _ hL hJ _) (zt hL 38 rfl) ⟨by decide, rfl, rfl⟩ rfl rfl ⟨⟨rfl, rfl⟩, ⟨by decide, by decide⟩, ⟨Nat.le_of_ble_eq_true rfl, Nat.le_of_ble_eq_true rfl⟩, Nat.le_of_ble_eq_true rfl⟩ ?_
      rintro _ _ ⟨r1, rfl, rfl⟩
      refine r_i2l X dX12_digest_22 ?_
      refine r_ladd X dX12_digest_23 ?_
      refine r_lstore_n X (by decide) dX12_digest_24 ?_
      refine r_iinc X 1 (by decide) (by rfl) (by decide) dX12_digest_25 ?_
      refine r_goto X 6 dX12_digest_28 (by decide) ?_
      exact zW.loc3 (by rfl) (by rfl) (by rfl) (ih _ _ (by have e := zinc (x := i) (by omega); omega) (by have e := zinc (x := i) (by omega); omega))
  refine r_ldc2 X zK_X12_274 dX12_digest_0 ?_
  refine r_lstore_n X (by decide) dX12_digest_3 ?_
  refine r_iconst X 0 (by decide) dX12_digest_4 ?_
  refine r_istore_n X (by decide) dX12_digest_5 ?_
  exact zW.loc3 (by rfl) (by rfl) (by rfl) (L6 8 _ _ (by decide) (by decide))
