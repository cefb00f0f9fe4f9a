/-! the model's calls that read PLACES (wip/genp/spec_pe.py) -/
def zOm (B : Nat) (ι : Nat → Nat → Int32) : Nat → Int
  | 0 => 0
  | n + 1 => zOm B ι n + if ι (B + 39) n = 0 then 0 else 1
theorem zOm_b (B : Nat) (ι : Nat → Nat → Int32) : ∀ n : Nat, 0 ≤ zOm B ι n ∧ zOm B ι n ≤ n
  | 0 => ⟨Int.le_refl _, Int.le_refl _⟩
  | n + 1 => by
    have h := zOm_b B ι n
    rw [zOm]
    split <;> omega
def zK2 (B c : Nat) (ι : Nat → Nat → Int32) (x r : Int32) : Prop := (x.toInt = 0 ∧ r = ι (B + 38) 1) ∨ (x.toInt = 1 ∧ r.toInt = zOm B ι c) ∨ (x.toInt = 2 ∧ r = ι (B + 38) 10) ∨ (x.toInt = 3 ∧ r = ι (B + 38) 11) ∨ (x.toInt = 4 ∧ r = ι (B + 48) 0) ∨ (x.toInt = 5 ∧ r = ι (B + 48) 1) ∨ (x.toInt = 6 ∧ r = ι (B + 38) 0) ∨ ((x.toInt < 0 ∨ 6 < x.toInt) ∧ r = -2000000000)

set_option maxHeartbeats 4000000 in
set_option maxRecDepth 100000 in
theorem e2_X12_place (l : Launch) (G : zG) (z : Nat) (τ : Nat → Option (Nat × Nat)) (ρ : Nat → Nat → Option Nat) (ι : Nat → Nat → Int32) (κ : Nat → Nat → Int64) {B c : Nat} (hL : zLay τ ρ B c) (hJ : zJ B c ι) (hst : 100 ≤ (ι (B + 38) 0).toInt ∧ (ι (B + 38) 0).toInt ≤ 50000) (hM : zPsM B c ι) (x y : Int32) : zM l G yX12_place cX12_place 3 (some .int) ({ frames := 5, cells := 0, slots := 0, locals := 143 } : Room) [.ref (B + 38), .int x, .int y] (z, τ, ρ, ι, κ) (fun v s => (¬ ((0 ≤ x.toInt ∧ x.toInt < (c : Int)) ∧ (100 ≤ y.toInt ∧ y.toInt ≤ 100000)) ∧ v = some (.int (-2000000000)) ∧ s = (z, τ, ρ, ι, κ)) ∨ (((0 ≤ x.toInt ∧ x.toInt < (c : Int)) ∧ (100 ≤ y.toInt ∧ y.toInt ≤ 100000)) ∧ ∃ ι2 κ2, v = some (.int (zPm B ι x y)) ∧ s = (z, τ, ρ, ι2, κ2) ∧ zFq B ι ι2 ∧ zPsM B c ι2)) 0 0 := by
  refine zM_of zCd_X12_place (Nat.le_of_ble_eq_true rfl) ?_
  intro E X hR hE
  subst hE
  show zW E G 3 (z, τ, ρ, ι, κ) 0 0 0 [(0, .ref (B + 38)), (1, .int x), (2, .int y)] []
  refine r_aload_n X (by rfl) dX12_place_0 ?_
  refine r_iload_n X (by rfl) dX12_place_1 ?_
  refine r_callV X dX12_place_2 zLV_X12_175 zCd_X12_isScale (c_X12_isScale _ G z τ ρ _ _ hL hJ _) (zt hL 38 rfl) ⟨by decide, rfl, rfl⟩ rfl rfl ⟨⟨rfl, rfl⟩, ⟨by decide, by decide⟩, ⟨Nat.le_of_ble_eq_true rfl, Nat.le_of_ble_eq_true rfl⟩, Nat.le_of_ble_eq_true rfl⟩ ?_
  rintro _ _ ⟨rfl, rfl⟩
  refine r_if_eq X 24 dX12_place_5 (by decide) (fun h5 => ?_) (fun h5 => ?_)
  · refine r_ldc X zK_X12_186 dX12_place_24 ?_
    refine r_ireturn X hR dX12_place_26 rfl (Nat.zero_le _) (Nat.zero_le _) ?_
    first | exact Or.inr ⟨⟨zif1 h5, zif1 h12⟩, _, _, rfl, rfl, hq2, hM2⟩ | exact Or.inl ⟨fun q => by first | exact zif0 h5 q.1 | exact zif0 h12 q.2, rfl, rfl⟩
  · refine r_iload_n X (by rfl) dX12_place_8 ?_
    refine r_callS X dX12_place_9 zLS_X12_179 zCd_X12_isNumber (c_X12_isNumber _ G z τ ρ _ _ _) rfl rfl ⟨⟨rfl, rfl⟩, ⟨by decide, by decide⟩, ⟨Nat.le_of_ble_eq_true rfl, Nat.le_of_ble_eq_true rfl⟩, Nat.le_of_ble_eq_true rfl⟩ ?_
    rintro _ _ ⟨rfl, rfl⟩
    refine r_if_eq X 24 dX12_place_12 (by decide) (fun h12 => ?_) (fun h12 => ?_)
    · refine r_ldc X zK_X12_186 dX12_place_24 ?_
      refine r_ireturn X hR dX12_place_26 rfl (Nat.zero_le _) (Nat.zero_le _) ?_
      first | exact Or.inr ⟨⟨zif1 h5, zif1 h12⟩, _, _, rfl, rfl, hq2, hM2⟩ | exact Or.inl ⟨fun q => by first | exact zif0 h5 q.1 | exact zif0 h12 q.2, rfl, rfl⟩
    · refine r_aload_n X (by rfl) dX12_place_15 ?_
      refine r_iload_n X (by rfl) dX12_place_16 ?_
      refine r_iload_n X (by rfl) dX12_place_17 ?_
      refine r_callV X dX12_place_18 zLV_X12_182 zCd_X12_placeOf (e2_X12_placeOf _ G z τ ρ _ _ hL hJ _ (zif1 h5) _ (zif1 h12) hst hM) (zt hL 38 rfl) ⟨by decide, rfl, rfl⟩ rfl rfl ⟨⟨rfl, rfl⟩, ⟨by decide, by decide⟩, ⟨Nat.le_of_ble_eq_true rfl, Nat.le_of_ble_eq_true rfl⟩, Nat.le_of_ble_eq_true rfl⟩ ?_
      rintro _ _ ⟨ι2, κ2, rfl, rfl, hq2, hM2⟩
      refine r_goto X 26 dX12_place_21 (by decide) ?_
      refine r_ireturn X hR dX12_place_26 rfl (Nat.zero_le _) (Nat.zero_le _) ?_
      first | exact Or.inr ⟨⟨zif1 h5, zif1 h12⟩, _, _, rfl, rfl, hq2, hM2⟩ | exact Or.inl ⟨fun q => by first | exact zif0 h5 q.1 | exact zif0 h12 q.2, rfl, rfl⟩
set_option maxHeartbeats 4000000 in
set_option maxRecDepth 100000 in
theorem e2_X12_set (l : Launch) (G : zG) (z : Nat) (τ : Nat → Option (Nat × Nat)) (ρ : Nat → Nat → Option Nat) (ι : Nat → Nat → Int32) (κ : Nat → Nat → Int64) {B c : Nat} (hL : zLay τ ρ B c) (hJ : zJ B c ι) (hst : 100 ≤ (ι (B + 38) 0).toInt ∧ (ι (B + 38) 0).toInt ≤ 50000) (hM : zPsM B c ι) (x y u w : Int32) : zM l G yX12_set cX12_set 5 (some .int) ({ frames := 5, cells := 0, slots := 0, locals := 143 } : Room) [.ref (B + 38), .int x, .int y, .int u, .int w] (z, τ, ρ, ι, κ) (fun v s => (¬ (((0 ≤ x.toInt ∧ x.toInt < (c : Int)) ∧ ¬ ι (B + 39) x.toNatClampNeg = 0 ∧ (0 ≤ u.toInt ∧ u.toInt < (c : Int)) ∧ ι (B + 39) u.toNatClampNeg = 0) ∧ (100 ≤ y.toInt ∧ y.toInt ≤ 100000) ∧ (100 ≤ w.toInt ∧ w.toInt ≤ 100000)) ∧ v = some (.int (-2000000000)) ∧ s = (z, τ, ρ, ι, κ)) ∨ ((((0 ≤ x.toInt ∧ x.toInt < (c : Int)) ∧ ¬ ι (B + 39) x.toNatClampNeg = 0 ∧ (0 ≤ u.toInt ∧ u.toInt < (c : Int)) ∧ ι (B + 39) u.toNatClampNeg = 0) ∧ (100 ≤ y.toInt ∧ y.toInt ≤ 100000) ∧ (100 ≤ w.toInt ∧ w.toInt ≤ 100000)) ∧ ∃ ι2 κ2, v = some (.int (zPm B ι u w - zPm B ι x y)) ∧ s = (z, τ, ρ, zu ι2 (B + 38) 10 (zPm B ι u w - zPm B ι x y), κ2) ∧ zFq B ι ι2 ∧ zPsM B c ι2)) 0 0 := by
  refine zM_of zCd_X12_set (Nat.le_of_ble_eq_true rfl) ?_
  intro E X hR hE
  subst hE
  show zW E G 5 (z, τ, ρ, ι, κ) 0 0 0 [(0, .ref (B + 38)), (1, .int x), (2, .int y), (3, .int u), (4, .int w)] []
  obtain ⟨h8, hJc, hm1, hm2, hm3, hm4, hm5⟩ := id hJ
  refine r_aload_n X (by rfl) dX12_set_0 ?_
  refine r_iload_n X (by rfl) dX12_set_1 ?_
  refine r_callV X dX12_set_2 zLV_X12_175 zCd_X12_isScale (c_X12_isScale _ G z τ ρ _ _ hL hJ _) (zt hL 38 rfl) ⟨by decide, rfl, rfl⟩ rfl rfl ⟨⟨rfl, rfl⟩, ⟨by decide, by decide⟩, ⟨Nat.le_of_ble_eq_true rfl, Nat.le_of_ble_eq_true rfl⟩, Nat.le_of_ble_eq_true rfl⟩ ?_
  rintro _ _ ⟨rfl, rfl⟩
  refine r_if_eq X 49 dX12_set_5 (by decide) (fun h5 => ?_) (fun h5 => ?_)
  · refine r_ldc X zK_X12_186 dX12_set_49 ?_
    refine r_ireturn X hR dX12_set_51 rfl (Nat.zero_le _) (Nat.zero_le _) ?_
    exact Or.inl ⟨fun q => by first | exact zif0 h5 q.1.1 | exact zif0 h12 q.2.1 | exact zif0 h20 q.1.2.2.1 | exact zif0 h28 q.2.2 | exact q.1.2.1 h37 | exact h46 q.1.2.2.2, rfl, rfl⟩
  · refine r_iload_n X (by rfl) dX12_set_8 ?_
    refine r_callS X dX12_set_9 zLS_X12_179 zCd_X12_isNumber (c_X12_isNumber _ G z τ ρ _ _ _) rfl rfl ⟨⟨rfl, rfl⟩, ⟨by decide, by decide⟩, ⟨Nat.le_of_ble_eq_true rfl, Nat.le_of_ble_eq_true rfl⟩, Nat.le_of_ble_eq_true rfl⟩ ?_
    rintro _ _ ⟨rfl, rfl⟩
    refine r_if_eq X 49 dX12_set_12 (by decide) (fun h12 => ?_) (fun h12 => ?_)
    · refine r_ldc X zK_X12_186 dX12_set_49 ?_
      refine r_ireturn X hR dX12_set_51 rfl (Nat.zero_le _) (Nat.zero_le _) ?_
      exact Or.inl ⟨fun q => by first | exact zif0 h5 q.1.1 | exact zif0 h12 q.2.1 | exact zif0 h20 q.1.2.2.1 | exact zif0 h28 q.2.2 | exact q.1.2.1 h37 | exact h46 q.1.2.2.2, rfl, rfl⟩
    · refine r_aload_n X (by rfl) dX12_set_15 ?_
      refine r_iload_n X (by rfl) dX12_set_16 ?_
      refine r_callV X dX12_set_17 zLV_X12_175 zCd_X12_isScale (c_X12_isScale _ G z τ ρ _ _ hL hJ _) (zt hL 38 rfl) ⟨by decide, rfl, rfl⟩ rfl rfl ⟨⟨rfl, rfl⟩, ⟨by decide, by decide⟩, ⟨Nat.le_of_ble_eq_true rfl, Nat.le_of_ble_eq_true rfl⟩, Nat.le_of_ble_eq_true rfl⟩ ?_
      rintro _ _ ⟨rfl, rfl⟩
      refine r_if_eq X 49 dX12_set_20 (by decide) (fun h20 => ?_) (fun h20 => ?_)
      · refine r_ldc X zK_X12_186 dX12_set_49 ?_
        refine r_ireturn X hR dX12_set_51 rfl (Nat.zero_le _) (Nat.zero_le _) ?_
        exact Or.inl ⟨fun q => by first | exact zif0 h5 q.1.1 | exact zif0 h12 q.2.1 | exact zif0 h20 q.1.2.2.1 | exact zif0 h28 q.2.2 | exact q.1.2.1 h37 | exact h46 q.1.2.2.2, rfl, rfl⟩
      · refine r_iload X (by rfl) dX12_set_23 ?_
        refine r_callS X dX12_set_25 zLS_X12_179 zCd_X12_isNumber (c_X12_isNumber _ G z τ ρ _ _ _) rfl rfl ⟨⟨rfl, rfl⟩, ⟨by decide, by decide⟩, ⟨Nat.le_of_ble_eq_true rfl, Nat.le_of_ble_eq_true rfl⟩, Nat.le_of_ble_eq_true rfl⟩ ?_
        rintro _ _ ⟨rfl, rfl⟩
        refine r_if_eq X 49 dX12_set_28 (by decide) (fun h28 => ?_) (fun h28 => ?_)
        · refine r_ldc X zK_X12_186 dX12_set_49 ?_
          refine r_ireturn X hR dX12_set_51 rfl (Nat.zero_le _) (Nat.zero_le _) ?_
          exact Or.inl ⟨fun q => by first | exact zif0 h5 q.1.1 | exact zif0 h12 q.2.1 | exact zif0 h20 q.1.2.2.1 | exact zif0 h28 q.2.2 | exact q.1.2.1 h37 | exact h46 q.1.2.2.2, rfl, rfl⟩
        · refine r_aload_n X (by rfl) dX12_set_31 ?_
          refine r_getR X dX12_set_32 zF_X12_13 (zt hL 38 rfl) (zrf hL 36 rfl) ?_
          refine r_iload_n X (by rfl) dX12_set_35 ?_
          refine r_zaload X dX12_set_36 (zt hL 39 rfl) (by have := zif1 h5; exact vp_in_iff.mpr ⟨by omega, by omega⟩) ?_
          refine r_if_eq X 49 dX12_set_37 (by decide) (fun h37 => ?_) (fun h37 => ?_)
          · refine r_ldc X zK_X12_186 dX12_set_49 ?_
            refine r_ireturn X hR dX12_set_51 rfl (Nat.zero_le _) (Nat.zero_le _) ?_
            exact Or.inl ⟨fun q => by first | exact zif0 h5 q.1.1 | exact zif0 h12 q.2.1 | exact zif0 h20 q.1.2.2.1 | exact zif0 h28 q.2.2 | exact q.1.2.1 h37 | exact h46 q.1.2.2.2, rfl, rfl⟩
          · refine r_aload_n X (by rfl) dX12_set_40 ?_
            refine r_getR X dX12_set_41 zF_X12_13 (zt hL 38 rfl) (zrf hL 36 rfl) ?_
            refine r_iload_n X (by rfl) dX12_set_44 ?_
            refine r_zaload X dX12_set_45 (zt hL 39 rfl) (by have := zif1 h20; exact vp_in_iff.mpr ⟨by omega, by omega⟩) ?_
            refine r_if_eq X 52 dX12_set_46 (by decide) (fun h46 => ?_) (fun h46 => ?_)
            · refine r_aload_n X (by rfl) dX12_set_52 ?_
              refine r_aload_n X (by rfl) dX12_set_53 ?_
              refine r_iload_n X (by rfl) dX12_set_54 ?_
              refine r_iload X (by rfl) dX12_set_55 ?_
              refine r_callV X dX12_set_57 zLV_X12_182 zCd_X12_placeOf (e2_X12_placeOf _ G z τ ρ _ _ hL hJ _ (zif1 h20) _ (zif1 h28) hst hM) (zt hL 38 rfl) ⟨by decide, rfl, rfl⟩ rfl rfl ⟨⟨rfl, rfl⟩, ⟨by decide, by decide⟩, ⟨Nat.le_of_ble_eq_true rfl, Nat.le_of_ble_eq_true rfl⟩, Nat.le_of_ble_eq_true rfl⟩ ?_
              rintro _ _ ⟨ι2, κ2, rfl, rfl, hq2, hM2⟩
              refine r_aload_n X (by rfl) dX12_set_60 ?_
              refine r_iload_n X (by rfl) dX12_set_61 ?_
              refine r_iload_n X (by rfl) dX12_set_62 ?_
              refine r_callV X dX12_set_63 zLV_X12_182 zCd_X12_placeOf (e2_X12_placeOf _ G z τ ρ _ _ hL (zJ_fq hJ hq2) _ (zif1 h5) _ (zif1 h12) (by rw [hq2 _ _ (by unfold zCq; omega)]; exact hst) hM2) (zt hL 38 rfl) ⟨by decide, rfl, rfl⟩ rfl rfl ⟨⟨rfl, rfl⟩, ⟨by decide, by decide⟩, ⟨Nat.le_of_ble_eq_true rfl, Nat.le_of_ble_eq_true rfl⟩, Nat.le_of_ble_eq_true rfl⟩ ?_
              rintro _ _ ⟨ι3, κ3, rfl, rfl, hq3, hM3⟩
              rw [zPm_fq hq2]
              refine r_isub X dX12_set_66 ?_
              refine r_putI X dX12_set_67 zF_X12_206 (zt hL 38 rfl) rfl rfl ?_
              refine r_aload_n X (by rfl) dX12_set_70 ?_
              refine r_getI X dX12_set_71 zF_X12_206 (zt hL 38 rfl) ?_
              rw [zu_s]
              refine r_ireturn X hR dX12_set_74 rfl (Nat.zero_le _) (Nat.zero_le _) ?_
              exact Or.inr ⟨⟨⟨zif1 h5, h37, zif1 h20, h46⟩, zif1 h12, zif1 h28⟩, _, _, rfl, rfl, hq2.tr hq3, hM3⟩
            · refine r_ldc X zK_X12_186 dX12_set_49 ?_
              refine r_ireturn X hR dX12_set_51 rfl (Nat.zero_le _) (Nat.zero_le _) ?_
              exact Or.inl ⟨fun q => by first | exact zif0 h5 q.1.1 | exact zif0 h12 q.2.1 | exact zif0 h20 q.1.2.2.1 | exact zif0 h28 q.2.2 | exact q.1.2.1 h37 | exact h46 q.1.2.2.2, rfl, rfl⟩
set_option maxHeartbeats 4000000 in
set_option maxRecDepth 100000 in
theorem e2_X12_against (l : Launch) (G : zG) (z : Nat) (τ : Nat → Option (Nat × Nat)) (ρ : Nat → Nat → Option Nat) (ι : Nat → Nat → Int32) (κ : Nat → Nat → Int64) {B c : Nat} (hL : zLay τ ρ B c) (hJ : zJ B c ι) (hst : 100 ≤ (ι (B + 38) 0).toInt ∧ (ι (B + 38) 0).toInt ≤ 50000) (hM : zPsM B c ι) (x y u : Int32) : zM l G yX12_against cX12_against 4 (some .int) ({ frames := 5, cells := 0, slots := 0, locals := 143 } : Room) [.ref (B + 38), .int x, .int y, .int u] (z, τ, ρ, ι, κ) (fun v s => (¬ ((0 ≤ x.toInt ∧ x.toInt < (c : Int)) ∧ (100 ≤ y.toInt ∧ y.toInt ≤ 100000) ∧ (0 ≤ u.toInt ∧ u.toInt < (c : Int))) ∧ v = some (.int (-2000000000)) ∧ s = (z, τ, ρ, ι, κ)) ∨ (((0 ≤ x.toInt ∧ x.toInt < (c : Int)) ∧ (100 ≤ y.toInt ∧ y.toInt ≤ 100000) ∧ (0 ≤ u.toInt ∧ u.toInt < (c : Int))) ∧ ∃ ι2 κ2, v = some (.int (zPm B ι x y + (if ι (B + 39) x.toNatClampNeg = 0 then 0 else ι (B + 38) 10) - (if ι (B + 39) u.toNatClampNeg = 0 then 0 else ι (B + 38) 10))) ∧ s = (z, τ, ρ, ι2, κ2) ∧ zFq B ι ι2 ∧ zPsM B c ι2)) 0 0 := by
  refine zM_of zCd_X12_against (Nat.le_of_ble_eq_true rfl) ?_
  intro E X hR hE
  subst hE
  show zW E G 4 (z, τ, ρ, ι, κ) 0 0 0 [(0, .ref (B + 38)), (1, .int x), (2, .int y), (3, .int u)] []
  obtain ⟨h8, hJc, hm1, hm2, hm3, hm4, hm5⟩ := id hJ
  refine r_aload_n X (by rfl) dX12_against_0 ?_
  refine r_iload_n X (by rfl) dX12_against_1 ?_
  refine r_callV X dX12_against_2 zLV_X12_175 zCd_X12_isScale (c_X12_isScale _ G z τ ρ _ _ hL hJ _) (zt hL 38 rfl) ⟨by decide, rfl, rfl⟩ rfl rfl ⟨⟨rfl, rfl⟩, ⟨by decide, by decide⟩, ⟨Nat.le_of_ble_eq_true rfl, Nat.le_of_ble_eq_true rfl⟩, Nat.le_of_ble_eq_true rfl⟩ ?_
  rintro _ _ ⟨rfl, rfl⟩
  refine r_if_eq X 23 dX12_against_5 (by decide) (fun h5 => ?_) (fun h5 => ?_)
  · refine r_ldc X zK_X12_186 dX12_against_23 ?_
    refine r_ireturn X hR dX12_against_25 rfl (Nat.zero_le _) (Nat.zero_le _) ?_
    exact Or.inl ⟨fun q => by first | exact zif0 h5 q.1 | exact zif0 h12 q.2.1 | exact zif0 h20 q.2.2, rfl, rfl⟩
  · refine r_iload_n X (by rfl) dX12_against_8 ?_
    refine r_callS X dX12_against_9 zLS_X12_179 zCd_X12_isNumber (c_X12_isNumber _ G z τ ρ _ _ _) rfl rfl ⟨⟨rfl, rfl⟩, ⟨by decide, by decide⟩, ⟨Nat.le_of_ble_eq_true rfl, Nat.le_of_ble_eq_true rfl⟩, Nat.le_of_ble_eq_true rfl⟩ ?_
    rintro _ _ ⟨rfl, rfl⟩
    refine r_if_eq X 23 dX12_against_12 (by decide) (fun h12 => ?_) (fun h12 => ?_)
    · refine r_ldc X zK_X12_186 dX12_against_23 ?_
      refine r_ireturn X hR dX12_against_25 rfl (Nat.zero_le _) (Nat.zero_le _) ?_
      exact Or.inl ⟨fun q => by first | exact zif0 h5 q.1 | exact zif0 h12 q.2.1 | exact zif0 h20 q.2.2, rfl, rfl⟩
    · refine r_aload_n X (by rfl) dX12_against_15 ?_
      refine r_iload_n X (by rfl) dX12_against_16 ?_
      refine r_callV X dX12_against_17 zLV_X12_175 zCd_X12_isScale (c_X12_isScale _ G z τ ρ _ _ hL hJ _) (zt hL 38 rfl) ⟨by decide, rfl, rfl⟩ rfl rfl ⟨⟨rfl, rfl⟩, ⟨by decide, by decide⟩, ⟨Nat.le_of_ble_eq_true rfl, Nat.le_of_ble_eq_true rfl⟩, Nat.le_of_ble_eq_true rfl⟩ ?_
      rintro _ _ ⟨rfl, rfl⟩
      refine r_if_ne X 26 dX12_against_20 (by decide) (fun h20 => ?_) (fun h20 => ?_)
      · refine r_aload_n X (by rfl) dX12_against_26 ?_
        refine r_iload_n X (by rfl) dX12_against_27 ?_
        refine r_iload_n X (by rfl) dX12_against_28 ?_
        refine r_callV X dX12_against_29 zLV_X12_182 zCd_X12_placeOf (e2_X12_placeOf _ G z τ ρ _ _ hL hJ _ (zif1 h5) _ (zif1 h12) hst hM) (zt hL 38 rfl) ⟨by decide, rfl, rfl⟩ rfl rfl ⟨⟨rfl, rfl⟩, ⟨by decide, by decide⟩, ⟨Nat.le_of_ble_eq_true rfl, Nat.le_of_ble_eq_true rfl⟩, Nat.le_of_ble_eq_true rfl⟩ ?_
        rintro _ _ ⟨ι2, κ2, rfl, rfl, hq2, hM2⟩
        have e39 : ι2 (B + 39) x.toNatClampNeg = ι (B + 39) x.toNatClampNeg := hq2 _ _ (by unfold zCq; omega)
        have e39u : ι2 (B + 39) u.toNatClampNeg = ι (B + 39) u.toNatClampNeg := hq2 _ _ (by unfold zCq; omega)
        refine r_aload_n X (by rfl) dX12_against_32 ?_
        refine r_getR X dX12_against_33 zF_X12_13 (zt hL 38 rfl) (zrf hL 36 rfl) ?_
        refine r_iload_n X (by rfl) dX12_against_36 ?_
        refine r_zaload X dX12_against_37 (zt hL 39 rfl) (by have := zif1 h5; exact vp_in_iff.mpr ⟨by omega, by omega⟩) ?_
        refine r_if_eq X 48 dX12_against_38 (by decide) (fun h38 => ?_) (fun h38 => ?_)
        · refine r_iconst X 0 (by decide) dX12_against_48 ?_
          refine r_iadd X dX12_against_49 ?_
          refine r_aload_n X (by rfl) dX12_against_50 ?_
          refine r_getR X dX12_against_51 zF_X12_13 (zt hL 38 rfl) (zrf hL 36 rfl) ?_
          refine r_iload_n X (by rfl) dX12_against_54 ?_
          refine r_zaload X dX12_against_55 (zt hL 39 rfl) (by have := zif1 h20; exact vp_in_iff.mpr ⟨by omega, by omega⟩) ?_
          refine r_if_eq X 66 dX12_against_56 (by decide) (fun h56 => ?_) (fun h56 => ?_)
          · refine r_iconst X 0 (by decide) dX12_against_66 ?_
            refine r_isub X dX12_against_67 ?_
            refine r_ireturn X hR dX12_against_68 rfl (Nat.zero_le _) (Nat.zero_le _) ?_
            exact Or.inr ⟨⟨zif1 h5, zif1 h12, zif1 h20⟩, _, _, by rw [if_pos (by rw [← e39]; exact h38), if_pos (by rw [← e39u]; exact h56)], rfl, hq2, hM2⟩
          · refine r_aload_n X (by rfl) dX12_against_59 ?_
            refine r_getI X dX12_against_60 zF_X12_206 (zt hL 38 rfl) ?_
            refine r_goto X 67 dX12_against_63 (by decide) ?_
            refine r_isub X dX12_against_67 ?_
            refine r_ireturn X hR dX12_against_68 rfl (Nat.zero_le _) (Nat.zero_le _) ?_
            exact Or.inr ⟨⟨zif1 h5, zif1 h12, zif1 h20⟩, _, _, by rw [if_pos (by rw [← e39]; exact h38), if_neg (fun q => h56 (by rw [e39u]; exact q)), hq2 (B + 38) 10 (by unfold zCq; omega)], rfl, hq2, hM2⟩
        · refine r_aload_n X (by rfl) dX12_against_41 ?_
          refine r_getI X dX12_against_42 zF_X12_206 (zt hL 38 rfl) ?_
          refine r_goto X 49 dX12_against_45 (by decide) ?_
          refine r_iadd X dX12_against_49 ?_
          refine r_aload_n X (by rfl) dX12_against_50 ?_
          refine r_getR X dX12_against_51 zF_X12_13 (zt hL 38 rfl) (zrf hL 36 rfl) ?_
          refine r_iload_n X (by rfl) dX12_against_54 ?_
          refine r_zaload X dX12_against_55 (zt hL 39 rfl) (by have := zif1 h20; exact vp_in_iff.mpr ⟨by omega, by omega⟩) ?_
          refine r_if_eq X 66 dX12_against_56 (by decide) (fun h56 => ?_) (fun h56 => ?_)
          · refine r_iconst X 0 (by decide) dX12_against_66 ?_
            refine r_isub X dX12_against_67 ?_
            refine r_ireturn X hR dX12_against_68 rfl (Nat.zero_le _) (Nat.zero_le _) ?_
            exact Or.inr ⟨⟨zif1 h5, zif1 h12, zif1 h20⟩, _, _, by rw [if_neg (fun q => h38 (by rw [e39]; exact q)), if_pos (by rw [← e39u]; exact h56), hq2 (B + 38) 10 (by unfold zCq; omega)], rfl, hq2, hM2⟩
          · refine r_aload_n X (by rfl) dX12_against_59 ?_
            refine r_getI X dX12_against_60 zF_X12_206 (zt hL 38 rfl) ?_
            refine r_goto X 67 dX12_against_63 (by decide) ?_
            refine r_isub X dX12_against_67 ?_
            refine r_ireturn X hR dX12_against_68 rfl (Nat.zero_le _) (Nat.zero_le _) ?_
            exact Or.inr ⟨⟨zif1 h5, zif1 h12, zif1 h20⟩, _, _, by rw [if_neg (fun q => h38 (by rw [e39]; exact q)), if_neg (fun q => h56 (by rw [e39u]; exact q)), hq2 (B + 38) 10 (by unfold zCq; omega)], rfl, hq2, hM2⟩
      · refine r_ldc X zK_X12_186 dX12_against_23 ?_
        refine r_ireturn X hR dX12_against_25 rfl (Nat.zero_le _) (Nat.zero_le _) ?_
        exact Or.inl ⟨fun q => by first | exact zif0 h5 q.1 | exact zif0 h12 q.2.1 | exact zif0 h20 q.2.2, rfl, rfl⟩
set_option maxHeartbeats 4000000 in
set_option maxRecDepth 100000 in
theorem e2_X12_count (l : Launch) (G : zG) (z : Nat) (τ : Nat → Option (Nat × Nat)) (ρ : Nat → Nat → Option Nat) (ι : Nat → Nat → Int32) (κ : Nat → Nat → Int64) {B c : Nat} (hL : zLay τ ρ B c) (hJ : zJ B c ι) (x : Int32) : zM l G yX12_count cX12_count 4 (some .int) ({ frames := 0, cells := 0, slots := 0, locals := 0 } : Room) [.ref (B + 38), .int x] (z, τ, ρ, ι, κ) (fun v s => ∃ r, v = some (.int r) ∧ s = (z, τ, ρ, ι, κ) ∧ zK2 B c ι x r) 0 0 := by
  refine zM_of zCd_X12_count (Nat.le_of_ble_eq_true rfl) ?_
  intro E X hR hE
  subst hE
  show zW E G 4 (z, τ, ρ, ι, κ) 0 0 0 [(0, .ref (B + 38)), (1, .int x)] []
  obtain ⟨h8, hJc, hm1, hm2, hm3, hm4, hm5⟩ := id hJ
  have L4 : ∀ (m : Nat) (i p : Int32), (8 - i.toInt).toNat < m → 0 ≤ i.toInt → i.toInt ≤ (c : Int) → p.toInt = zOm B ι i.toNatClampNeg → zW E G 4 (z, τ, ρ, ι, κ) 0 0 4 [(0, .ref (B + 38)), (1, .int x), (2, .int p), (3, .int i)] [] := by
    intro m
    induction m with
    | zero => intro i p h; omega
    | succ m ih => ?_
    intro i p hm h0 hc9 hp
    have hin := zclN h0
    have hob := zOm_b B ι i.toNatClampNeg
    refine r_iload_n X (by rfl) dX12_count_4 ?_
    refine r_aload_n X (by rfl) dX12_count_5 ?_
    refine r_getI X dX12_count_6 zF_X12_160 (zt hL 38 rfl) ?_
    refine r_icmp_ge X 35 dX12_count_9 (by decide) (fun h9 => ?_) (fun h9 => ?_)
    · refine r_iload_n X (by rfl) dX12_count_35 ?_
      have hp9 : p.toInt = zOm B ι c := by rw [show i.toNatClampNeg = c by omega] at hp; exact hp
      have hsw : x.toInt = 0 + 0 ∨ x.toInt = 0 + 1 ∨ x.toInt = 0 + 2 ∨ x.toInt = 0 + 3 ∨ x.toInt = 0 + 4 ∨ x.toInt = 0 + 5 ∨ x.toInt = 0 + 6 ∨ (x.toInt < 0 ∨ 6 < x.toInt) := by omega
      rcases hsw with hs | hs | hs | hs | hs | hs | hs | hs
      · refine r_tableIn X (j0 := 0) 80 dX12_count_36 hs rfl (by decide) (by decide) (by decide) ?_
        refine r_aload_n X (by rfl) dX12_count_80 ?_
        refine r_getI X dX12_count_81 zF_X12_160 (zt hL 38 rfl) ?_
        refine r_ireturn X hR dX12_count_84 rfl (Nat.zero_le _) (Nat.zero_le _) ?_
        first | exact ⟨_, rfl, rfl, Or.inl ⟨by omega, rfl⟩⟩ | exact ⟨_, rfl, rfl, Or.inr (Or.inl ⟨by omega, hp9⟩)⟩ | exact ⟨_, rfl, rfl, Or.inr (Or.inr (Or.inl ⟨by omega, rfl⟩))⟩ | exact ⟨_, rfl, rfl, Or.inr (Or.inr (Or.inr (Or.inl ⟨by omega, rfl⟩)))⟩ | exact ⟨_, rfl, rfl, Or.inr (Or.inr (Or.inr (Or.inr (Or.inl ⟨by omega, rfl⟩))))⟩ | exact ⟨_, rfl, rfl, Or.inr (Or.inr (Or.inr (Or.inr (Or.inr (Or.inl ⟨by omega, rfl⟩)))))⟩ | exact ⟨_, rfl, rfl, Or.inr (Or.inr (Or.inr (Or.inr (Or.inr (Or.inr (Or.inl ⟨by omega, rfl⟩))))))⟩ | exact ⟨_, rfl, rfl, Or.inr (Or.inr (Or.inr (Or.inr (Or.inr (Or.inr (Or.inr ⟨by omega, rfl⟩))))))⟩
      · refine r_tableIn X (j0 := 1) 85 dX12_count_36 hs rfl (by decide) (by decide) (by decide) ?_
        refine r_iload_n X (by rfl) dX12_count_85 ?_
        refine r_ireturn X hR dX12_count_86 rfl (Nat.zero_le _) (Nat.zero_le _) ?_
        first | exact ⟨_, rfl, rfl, Or.inl ⟨by omega, rfl⟩⟩ | exact ⟨_, rfl, rfl, Or.inr (Or.inl ⟨by omega, hp9⟩)⟩ | exact ⟨_, rfl, rfl, Or.inr (Or.inr (Or.inl ⟨by omega, rfl⟩))⟩ | exact ⟨_, rfl, rfl, Or.inr (Or.inr (Or.inr (Or.inl ⟨by omega, rfl⟩)))⟩ | exact ⟨_, rfl, rfl, Or.inr (Or.inr (Or.inr (Or.inr (Or.inl ⟨by omega, rfl⟩))))⟩ | exact ⟨_, rfl, rfl, Or.inr (Or.inr (Or.inr (Or.inr (Or.inr (Or.inl ⟨by omega, rfl⟩)))))⟩ | exact ⟨_, rfl, rfl, Or.inr (Or.inr (Or.inr (Or.inr (Or.inr (Or.inr (Or.inl ⟨by omega, rfl⟩))))))⟩ | exact ⟨_, rfl, rfl, Or.inr (Or.inr (Or.inr (Or.inr (Or.inr (Or.inr (Or.inr ⟨by omega, rfl⟩))))))⟩
      · refine r_tableIn X (j0 := 2) 87 dX12_count_36 hs rfl (by decide) (by decide) (by decide) ?_
        refine r_aload_n X (by rfl) dX12_count_87 ?_
        refine r_getI X dX12_count_88 zF_X12_206 (zt hL 38 rfl) ?_
        refine r_ireturn X hR dX12_count_91 rfl (Nat.zero_le _) (Nat.zero_le _) ?_
        first | exact ⟨_, rfl, rfl, Or.inl ⟨by omega, rfl⟩⟩ | exact ⟨_, rfl, rfl, Or.inr (Or.inl ⟨by omega, hp9⟩)⟩ | exact ⟨_, rfl, rfl, Or.inr (Or.inr (Or.inl ⟨by omega, rfl⟩))⟩ | exact ⟨_, rfl, rfl, Or.inr (Or.inr (Or.inr (Or.inl ⟨by omega, rfl⟩)))⟩ | exact ⟨_, rfl, rfl, Or.inr (Or.inr (Or.inr (Or.inr (Or.inl ⟨by omega, rfl⟩))))⟩ | exact ⟨_, rfl, rfl, Or.inr (Or.inr (Or.inr (Or.inr (Or.inr (Or.inl ⟨by omega, rfl⟩)))))⟩ | exact ⟨_, rfl, rfl, Or.inr (Or.inr (Or.inr (Or.inr (Or.inr (Or.inr (Or.inl ⟨by omega, rfl⟩))))))⟩ | exact ⟨_, rfl, rfl, Or.inr (Or.inr (Or.inr (Or.inr (Or.inr (Or.inr (Or.inr ⟨by omega, rfl⟩))))))⟩
      · refine r_tableIn X (j0 := 3) 92 dX12_count_36 hs rfl (by decide) (by decide) (by decide) ?_
        refine r_aload_n X (by rfl) dX12_count_92 ?_
        refine r_getI X dX12_count_93 zF_X12_218 (zt hL 38 rfl) ?_
        refine r_ireturn X hR dX12_count_96 rfl (Nat.zero_le _) (Nat.zero_le _) ?_
        first | exact ⟨_, rfl, rfl, Or.inl ⟨by omega, rfl⟩⟩ | exact ⟨_, rfl, rfl, Or.inr (Or.inl ⟨by omega, hp9⟩)⟩ | exact ⟨_, rfl, rfl, Or.inr (Or.inr (Or.inl ⟨by omega, rfl⟩))⟩ | exact ⟨_, rfl, rfl, Or.inr (Or.inr (Or.inr (Or.inl ⟨by omega, rfl⟩)))⟩ | exact ⟨_, rfl, rfl, Or.inr (Or.inr (Or.inr (Or.inr (Or.inl ⟨by omega, rfl⟩))))⟩ | exact ⟨_, rfl, rfl, Or.inr (Or.inr (Or.inr (Or.inr (Or.inr (Or.inl ⟨by omega, rfl⟩)))))⟩ | exact ⟨_, rfl, rfl, Or.inr (Or.inr (Or.inr (Or.inr (Or.inr (Or.inr (Or.inl ⟨by omega, rfl⟩))))))⟩ | exact ⟨_, rfl, rfl, Or.inr (Or.inr (Or.inr (Or.inr (Or.inr (Or.inr (Or.inr ⟨by omega, rfl⟩))))))⟩
      · refine r_tableIn X (j0 := 4) 97 dX12_count_36 hs rfl (by decide) (by decide) (by decide) ?_
        refine r_aload_n X (by rfl) dX12_count_97 ?_
        refine r_getR X dX12_count_98 zF_X12_42 (zt hL 38 rfl) (zrf hL 45 rfl) ?_
        refine r_iconst X 0 (by decide) dX12_count_101 ?_
        refine r_iaload X dX12_count_102 (zt hL 48 rfl) (vp_in_iff.mpr ⟨by decide, by decide⟩) ?_
        refine r_ireturn X hR dX12_count_103 rfl (Nat.zero_le _) (Nat.zero_le _) ?_
        first | exact ⟨_, rfl, rfl, Or.inl ⟨by omega, rfl⟩⟩ | exact ⟨_, rfl, rfl, Or.inr (Or.inl ⟨by omega, hp9⟩)⟩ | exact ⟨_, rfl, rfl, Or.inr (Or.inr (Or.inl ⟨by omega, rfl⟩))⟩ | exact ⟨_, rfl, rfl, Or.inr (Or.inr (Or.inr (Or.inl ⟨by omega, rfl⟩)))⟩ | exact ⟨_, rfl, rfl, Or.inr (Or.inr (Or.inr (Or.inr (Or.inl ⟨by omega, rfl⟩))))⟩ | exact ⟨_, rfl, rfl, Or.inr (Or.inr (Or.inr (Or.inr (Or.inr (Or.inl ⟨by omega, rfl⟩)))))⟩ | exact ⟨_, rfl, rfl, Or.inr (Or.inr (Or.inr (Or.inr (Or.inr (Or.inr (Or.inl ⟨by omega, rfl⟩))))))⟩ | exact ⟨_, rfl, rfl, Or.inr (Or.inr (Or.inr (Or.inr (Or.inr (Or.inr (Or.inr ⟨by omega, rfl⟩))))))⟩
      · refine r_tableIn X (j0 := 5) 104 dX12_count_36 hs rfl (by decide) (by decide) (by decide) ?_
        refine r_aload_n X (by rfl) dX12_count_104 ?_
        refine r_getR X dX12_count_105 zF_X12_42 (zt hL 38 rfl) (zrf hL 45 rfl) ?_
        refine r_iconst X 1 (by decide) dX12_count_108 ?_
        refine r_iaload X dX12_count_109 (zt hL 48 rfl) (vp_in_iff.mpr ⟨by decide, by decide⟩) ?_
        refine r_ireturn X hR dX12_count_110 rfl (Nat.zero_le _) (Nat.zero_le _) ?_
        first | exact ⟨_, rfl, rfl, Or.inl ⟨by omega, rfl⟩⟩ | exact ⟨_, rfl, rfl, Or.inr (Or.inl ⟨by omega, hp9⟩)⟩ | exact ⟨_, rfl, rfl, Or.inr (Or.inr (Or.inl ⟨by omega, rfl⟩))⟩ | exact ⟨_, rfl, rfl, Or.inr (Or.inr (Or.inr (Or.inl ⟨by omega, rfl⟩)))⟩ | exact ⟨_, rfl, rfl, Or.inr (Or.inr (Or.inr (Or.inr (Or.inl ⟨by omega, rfl⟩))))⟩ | exact ⟨_, rfl, rfl, Or.inr (Or.inr (Or.inr (Or.inr (Or.inr (Or.inl ⟨by omega, rfl⟩)))))⟩ | exact ⟨_, rfl, rfl, Or.inr (Or.inr (Or.inr (Or.inr (Or.inr (Or.inr (Or.inl ⟨by omega, rfl⟩))))))⟩ | exact ⟨_, rfl, rfl, Or.inr (Or.inr (Or.inr (Or.inr (Or.inr (Or.inr (Or.inr ⟨by omega, rfl⟩))))))⟩
      · refine r_tableIn X (j0 := 6) 111 dX12_count_36 hs rfl (by decide) (by decide) (by decide) ?_
        refine r_aload_n X (by rfl) dX12_count_111 ?_
        refine r_getI X dX12_count_112 zF_X12_7 (zt hL 38 rfl) ?_
        refine r_ireturn X hR dX12_count_115 rfl (Nat.zero_le _) (Nat.zero_le _) ?_
        first | exact ⟨_, rfl, rfl, Or.inl ⟨by omega, rfl⟩⟩ | exact ⟨_, rfl, rfl, Or.inr (Or.inl ⟨by omega, hp9⟩)⟩ | exact ⟨_, rfl, rfl, Or.inr (Or.inr (Or.inl ⟨by omega, rfl⟩))⟩ | exact ⟨_, rfl, rfl, Or.inr (Or.inr (Or.inr (Or.inl ⟨by omega, rfl⟩)))⟩ | exact ⟨_, rfl, rfl, Or.inr (Or.inr (Or.inr (Or.inr (Or.inl ⟨by omega, rfl⟩))))⟩ | exact ⟨_, rfl, rfl, Or.inr (Or.inr (Or.inr (Or.inr (Or.inr (Or.inl ⟨by omega, rfl⟩)))))⟩ | exact ⟨_, rfl, rfl, Or.inr (Or.inr (Or.inr (Or.inr (Or.inr (Or.inr (Or.inl ⟨by omega, rfl⟩))))))⟩ | exact ⟨_, rfl, rfl, Or.inr (Or.inr (Or.inr (Or.inr (Or.inr (Or.inr (Or.inr ⟨by omega, rfl⟩))))))⟩
      · refine r_tableOut X 116 dX12_count_36 hs (by decide) ?_
        refine r_ldc X zK_X12_186 dX12_count_116 ?_
        refine r_ireturn X hR dX12_count_118 rfl (Nat.zero_le _) (Nat.zero_le _) ?_
        first | exact ⟨_, rfl, rfl, Or.inl ⟨by omega, rfl⟩⟩ | exact ⟨_, rfl, rfl, Or.inr (Or.inl ⟨by omega, hp9⟩)⟩ | exact ⟨_, rfl, rfl, Or.inr (Or.inr (Or.inl ⟨by omega, rfl⟩))⟩ | exact ⟨_, rfl, rfl, Or.inr (Or.inr (Or.inr (Or.inl ⟨by omega, rfl⟩)))⟩ | exact ⟨_, rfl, rfl, Or.inr (Or.inr (Or.inr (Or.inr (Or.inl ⟨by omega, rfl⟩))))⟩ | exact ⟨_, rfl, rfl, Or.inr (Or.inr (Or.inr (Or.inr (Or.inr (Or.inl ⟨by omega, rfl⟩)))))⟩ | exact ⟨_, rfl, rfl, Or.inr (Or.inr (Or.inr (Or.inr (Or.inr (Or.inr (Or.inl ⟨by omega, rfl⟩))))))⟩ | exact ⟨_, rfl, rfl, Or.inr (Or.inr (Or.inr (Or.inr (Or.inr (Or.inr (Or.inr ⟨by omega, rfl⟩))))))⟩
    · refine r_iload_n X (by rfl) dX12_count_12 ?_
      refine r_aload_n X (by rfl) dX12_count_13 ?_
      refine r_getR X dX12_count_14 zF_X12_13 (zt hL 38 rfl) (zrf hL 36 rfl) ?_
      refine r_iload_n X (by rfl) dX12_count_17 ?_
      refine r_zaload X dX12_count_18 (zt hL 39 rfl) (vp_in_iff.mpr ⟨by omega, by omega⟩) ?_
      refine r_if_eq X 26 dX12_count_19 (by decide) (fun h19 => ?_) (fun h19 => ?_)
      · refine r_iconst X 0 (by decide) dX12_count_26 ?_
        refine r_iadd X dX12_count_27 ?_
        refine r_istore_n X (by decide) dX12_count_28 ?_
        refine r_iinc X 1 (by decide) (by rfl) (by decide) dX12_count_29 ?_
        refine r_goto X 4 dX12_count_32 (by decide) ?_
        exact zW.loc4 (by rfl) (by rfl) (by rfl) (by rfl) (ih _ _ (by have e := zinc (x := i) (by omega); omega) (by have e := zinc (x := i) (by omega); omega) (by have e := zinc (x := i) (by omega); omega) (by have e := zinc (x := i) (by omega); have e2 := zclN (i := i + 1) (by omega); rw [show (i + 1).toNatClampNeg = i.toNatClampNeg + 1 by omega, zOm]; first | rw [if_pos h19, Int32.add_zero]; omega | (rw [if_neg h19, zinc (x := p) (by omega)]; omega)))
      · refine r_iconst X 1 (by decide) dX12_count_22 ?_
        refine r_goto X 27 dX12_count_23 (by decide) ?_
        refine r_iadd X dX12_count_27 ?_
        refine r_istore_n X (by decide) dX12_count_28 ?_
        refine r_iinc X 1 (by decide) (by rfl) (by decide) dX12_count_29 ?_
        refine r_goto X 4 dX12_count_32 (by decide) ?_
        exact zW.loc4 (by rfl) (by rfl) (by rfl) (by rfl) (ih _ _ (by have e := zinc (x := i) (by omega); omega) (by have e := zinc (x := i) (by omega); omega) (by have e := zinc (x := i) (by omega); omega) (by have e := zinc (x := i) (by omega); have e2 := zclN (i := i + 1) (by omega); rw [show (i + 1).toNatClampNeg = i.toNatClampNeg + 1 by omega, zOm]; first | rw [if_pos h19, Int32.add_zero]; omega | (rw [if_neg h19, zinc (x := p) (by omega)]; omega)))
  refine r_iconst X 0 (by decide) dX12_count_0 ?_
  refine r_istore_n X (by decide) dX12_count_1 ?_
  refine r_iconst X 0 (by decide) dX12_count_2 ?_
  refine r_istore_n X (by decide) dX12_count_3 ?_
  exact zW.loc4 (by rfl) (by rfl) (by rfl) (by rfl) (L4 9 _ _ (by decide) (by decide) (by rw [show Int32.toInt 0 = 0 from rfl]; omega) (by rfl))
set_option maxHeartbeats 4000000 in
set_option maxRecDepth 100000 in
theorem e2_X12_closest (l : Launch) (G : zG) (z : Nat) (τ : Nat → Option (Nat × Nat)) (ρ : Nat → Nat → Option Nat) (ι : Nat → Nat → Int32) (κ : Nat → Nat → Int64) {B c : Nat} (hL : zLay τ ρ B c) (hJ : zJ B c ι) (hst : 100 ≤ (ι (B + 38) 0).toInt ∧ (ι (B + 38) 0).toInt ≤ 50000) (hM : zPsM B c ι) (x y : Int32) : zM l G yX12_closest cX12_closest 10 (some .int) ({ frames := 5, cells := 0, slots := 0, locals := 143 } : Room) [.ref (B + 38), .int x, .int y] (z, τ, ρ, ι, κ) (fun v s => ∃ r ι2 κ2, v = some (.int r) ∧ s = (z, τ, ρ, ι2, κ2) ∧ zFq B ι ι2 ∧ zPsM B c ι2) 0 0 := by
  refine zM_of zCd_X12_closest (Nat.le_of_ble_eq_true rfl) ?_
  intro E X hR hE
  subst hE
  show zW E G 10 (z, τ, ρ, ι, κ) 0 0 0 [(0, .ref (B + 38)), (1, .int x), (2, .int y)] []
  have L56 : ∀ (hx : (0 ≤ x.toInt ∧ x.toInt < (c : Int))) (n : Int32), n.toInt = zMk B ι x.toNatClampNeg (ι (B + 43) x.toNatClampNeg).toNatClampNeg → n.toInt ≤ 399604 → ∀ (m : Nat) (i b l p : Int32) (ι1 : Nat → Nat → Int32) (κ1 : Nat → Nat → Int64), (400000 - i.toInt).toNat < m → 1 ≤ i.toInt → zFq B ι ι1 → zPsM B c ι1 → zW E G 10 (z, τ, ρ, ι1, κ1) 0 0 56 [(0, .ref (B + 38)), (1, .int x), (2, .int y), (3, .int n), (4, .int b), (5, .int l), (6, .int p), (7, .int i)] [] := by
    intro hx n hn hn2 m
    induction m with
    | zero => intro i b l p ι1 κ1 h; omega
    | succ m ih => ?_
    intro i b l p ι1 κ1 hm h0 hf hM1
    have hst1 : 100 ≤ (ι1 (B + 38) 0).toInt ∧ (ι1 (B + 38) 0).toInt ≤ 50000 := by rw [hf (B + 38) 0 (by unfold zCq; omega)]; exact hst
    have hJ1 := zJ_fq hJ hf
    have es := zsub1 (x := i) (by omega)
    refine r_iload X (by rfl) dX12_closest_56 ?_
    refine r_iload_n X (by rfl) dX12_closest_58 ?_
    refine r_icmp_ge X 145 dX12_closest_59 (by decide) (fun h59 => ?_) (fun h59 => ?_)
    · refine r_iload_n X (by rfl) dX12_closest_145 ?_
      refine r_if_ne X 154 dX12_closest_146 (by decide) (fun h146 => ?_) (fun h146 => ?_)
      · refine r_iload X (by rfl) dX12_closest_154 ?_
        refine r_ireturn X hR dX12_closest_156 rfl (Nat.zero_le _) (Nat.zero_le _) ?_
        exact ⟨_, _, _, rfl, rfl, hf, hM1⟩
      · refine r_iload X (by rfl) dX12_closest_149 ?_
        refine r_goto X 156 dX12_closest_151 (by decide) ?_
        refine r_ireturn X hR dX12_closest_156 rfl (Nat.zero_le _) (Nat.zero_le _) ?_
        exact ⟨_, _, _, rfl, rfl, hf, hM1⟩
    · refine r_aload_n X (by rfl) dX12_closest_62 ?_
      refine r_iload_n X (by rfl) dX12_closest_63 ?_
      refine r_aload_n X (by rfl) dX12_closest_64 ?_
      refine r_iload_n X (by rfl) dX12_closest_65 ?_
      refine r_iload X (by rfl) dX12_closest_66 ?_
      refine r_callV X dX12_closest_68 zLV_X12_196 zCd_X12_markOf (c_X12_markOf _ G z τ ρ _ _ hL hJ1 _ hx _ (by omega) (by rw [zMt_fq hf]; omega)) (zt hL 38 rfl) ⟨by decide, rfl, rfl⟩ rfl rfl ⟨⟨rfl, rfl⟩, ⟨by decide, by decide⟩, ⟨Nat.le_of_ble_eq_true rfl, Nat.le_of_ble_eq_true rfl⟩, Nat.le_of_ble_eq_true rfl⟩ ?_
      rintro _ _ ⟨r2, rfl, -, r20, r21, rfl⟩
      refine r_callV X dX12_closest_71 zLV_X12_182 zCd_X12_placeOf (e2_X12_placeOf _ G z τ ρ _ _ hL hJ1 _ hx _ ⟨r20, r21⟩ hst1 hM1) (zt hL 38 rfl) ⟨by decide, rfl, rfl⟩ rfl rfl ⟨⟨rfl, rfl⟩, ⟨by decide, by decide⟩, ⟨Nat.le_of_ble_eq_true rfl, Nat.le_of_ble_eq_true rfl⟩, Nat.le_of_ble_eq_true rfl⟩ ?_
      rintro _ _ ⟨ι2, κ2, rfl, rfl, hq2, hM2⟩
      have hf2 := hq2
      generalize zPm _ _ _ _ = r3
      refine r_istore X (by decide) dX12_closest_74 ?_
      refine r_iload X (by rfl) dX12_closest_76 ?_
      refine r_iload X (by rfl) dX12_closest_78 ?_
      refine r_isub X dX12_closest_80 ?_
      refine r_callS X dX12_closest_81 zLS_X12_199 zCd_X12_size (c_X12_size _ G z τ ρ _ _ _) rfl rfl ⟨⟨rfl, rfl⟩, ⟨by decide, by decide⟩, ⟨Nat.le_of_ble_eq_true rfl, Nat.le_of_ble_eq_true rfl⟩, Nat.le_of_ble_eq_true rfl⟩ ?_
      rintro _ _ ⟨rfl, rfl⟩
      generalize hg : (if (r3 - p).toInt < 0 then -(r3 - p) else r3 - p) = gg
      refine r_istore X (by decide) dX12_closest_84 ?_
      refine r_iload X (by rfl) dX12_closest_86 ?_
      refine r_if_lt X 98 dX12_closest_88 (by decide) (fun h88 => ?_) (fun h88 => ?_)
      · refine r_aload_n X (by rfl) dX12_closest_98 ?_
        refine r_iload_n X (by rfl) dX12_closest_99 ?_
        refine r_iload X (by rfl) dX12_closest_100 ?_
        refine r_iconst X 1 (by decide) dX12_closest_102 ?_
        refine r_isub X dX12_closest_103 ?_
        refine r_callV X dX12_closest_104 zLV_X12_196 zCd_X12_markOf (c_X12_markOf _ G z τ ρ _ _ hL (zJ_fq hJ1 hf2) _ hx _ (by omega) (by rw [zMt_fq (hf.tr hf2)]; omega)) (zt hL 38 rfl) ⟨by decide, rfl, rfl⟩ rfl rfl ⟨⟨rfl, rfl⟩, ⟨by decide, by decide⟩, ⟨Nat.le_of_ble_eq_true rfl, Nat.le_of_ble_eq_true rfl⟩, Nat.le_of_ble_eq_true rfl⟩ ?_
        rintro _ _ ⟨r4, rfl, -, r40, r41, rfl⟩
        refine r_goto X 112 dX12_closest_107 (by decide) ?_
        refine r_istore X (by decide) dX12_closest_112 ?_
        refine r_iload X (by rfl) dX12_closest_114 ?_
        refine r_if_lt X 126 dX12_closest_116 (by decide) (fun h116 => ?_) (fun h116 => ?_)
        · refine r_iload X (by rfl) dX12_closest_126 ?_
          refine r_goto X 133 dX12_closest_128 (by decide) ?_
          refine r_istore X (by decide) dX12_closest_133 ?_
          refine r_iload X (by rfl) dX12_closest_135 ?_
          refine r_istore X (by decide) dX12_closest_137 ?_
          refine r_iinc X 1 (by decide) (by rfl) (by decide) dX12_closest_139 ?_
          refine r_goto X 56 dX12_closest_142 (by decide) ?_
          exact zW.loc8 (by rfl) (by rfl) (by rfl) (by rfl) (by rfl) (by rfl) (by rfl) (by rfl) (ih _ _ _ _ _ _ (by have e := zinc (x := i) (by omega); omega) (by have e := zinc (x := i) (by omega); omega) (hf.tr hf2) hM2)
        · refine r_iload X (by rfl) dX12_closest_119 ?_
          refine r_iload X (by rfl) dX12_closest_121 ?_
          refine r_icmp_ge X 131 dX12_closest_123 (by decide) (fun h123 => ?_) (fun h123 => ?_)
          · refine r_iload X (by rfl) dX12_closest_131 ?_
            refine r_istore X (by decide) dX12_closest_133 ?_
            refine r_iload X (by rfl) dX12_closest_135 ?_
            refine r_istore X (by decide) dX12_closest_137 ?_
            refine r_iinc X 1 (by decide) (by rfl) (by decide) dX12_closest_139 ?_
            refine r_goto X 56 dX12_closest_142 (by decide) ?_
            exact zW.loc8 (by rfl) (by rfl) (by rfl) (by rfl) (by rfl) (by rfl) (by rfl) (by rfl) (ih _ _ _ _ _ _ (by have e := zinc (x := i) (by omega); omega) (by have e := zinc (x := i) (by omega); omega) (hf.tr hf2) hM2)
          · refine r_iload X (by rfl) dX12_closest_126 ?_
            refine r_goto X 133 dX12_closest_128 (by decide) ?_
            refine r_istore X (by decide) dX12_closest_133 ?_
            refine r_iload X (by rfl) dX12_closest_135 ?_
            refine r_istore X (by decide) dX12_closest_137 ?_
            refine r_iinc X 1 (by decide) (by rfl) (by decide) dX12_closest_139 ?_
            refine r_goto X 56 dX12_closest_142 (by decide) ?_
            exact zW.loc8 (by rfl) (by rfl) (by rfl) (by rfl) (by rfl) (by rfl) (by rfl) (by rfl) (ih _ _ _ _ _ _ (by have e := zinc (x := i) (by omega); omega) (by have e := zinc (x := i) (by omega); omega) (hf.tr hf2) hM2)
      · refine r_iload X (by rfl) dX12_closest_91 ?_
        refine r_iload X (by rfl) dX12_closest_93 ?_
        refine r_icmp_ge X 110 dX12_closest_95 (by decide) (fun h95 => ?_) (fun h95 => ?_)
        · refine r_iload X (by rfl) dX12_closest_110 ?_
          refine r_istore X (by decide) dX12_closest_112 ?_
          refine r_iload X (by rfl) dX12_closest_114 ?_
          refine r_if_lt X 126 dX12_closest_116 (by decide) (fun h116 => ?_) (fun h116 => ?_)
          · refine r_iload X (by rfl) dX12_closest_126 ?_
            refine r_goto X 133 dX12_closest_128 (by decide) ?_
            refine r_istore X (by decide) dX12_closest_133 ?_
            refine r_iload X (by rfl) dX12_closest_135 ?_
            refine r_istore X (by decide) dX12_closest_137 ?_
            refine r_iinc X 1 (by decide) (by rfl) (by decide) dX12_closest_139 ?_
            refine r_goto X 56 dX12_closest_142 (by decide) ?_
            exact zW.loc8 (by rfl) (by rfl) (by rfl) (by rfl) (by rfl) (by rfl) (by rfl) (by rfl) (ih _ _ _ _ _ _ (by have e := zinc (x := i) (by omega); omega) (by have e := zinc (x := i) (by omega); omega) (hf.tr hf2) hM2)
          · refine r_iload X (by rfl) dX12_closest_119 ?_
            refine r_iload X (by rfl) dX12_closest_121 ?_
            refine r_icmp_ge X 131 dX12_closest_123 (by decide) (fun h123 => ?_) (fun h123 => ?_)
            · refine r_iload X (by rfl) dX12_closest_131 ?_
              refine r_istore X (by decide) dX12_closest_133 ?_
              refine r_iload X (by rfl) dX12_closest_135 ?_
              refine r_istore X (by decide) dX12_closest_137 ?_
              refine r_iinc X 1 (by decide) (by rfl) (by decide) dX12_closest_139 ?_
              refine r_goto X 56 dX12_closest_142 (by decide) ?_
              exact zW.loc8 (by rfl) (by rfl) (by rfl) (by rfl) (by rfl) (by rfl) (by rfl) (by rfl) (ih _ _ _ _ _ _ (by have e := zinc (x := i) (by omega); omega) (by have e := zinc (x := i) (by omega); omega) (hf.tr hf2) hM2)
            · refine r_iload X (by rfl) dX12_closest_126 ?_
              refine r_goto X 133 dX12_closest_128 (by decide) ?_
              refine r_istore X (by decide) dX12_closest_133 ?_
              refine r_iload X (by rfl) dX12_closest_135 ?_
              refine r_istore X (by decide) dX12_closest_137 ?_
              refine r_iinc X 1 (by decide) (by rfl) (by decide) dX12_closest_139 ?_
              refine r_goto X 56 dX12_closest_142 (by decide) ?_
              exact zW.loc8 (by rfl) (by rfl) (by rfl) (by rfl) (by rfl) (by rfl) (by rfl) (by rfl) (ih _ _ _ _ _ _ (by have e := zinc (x := i) (by omega); omega) (by have e := zinc (x := i) (by omega); omega) (hf.tr hf2) hM2)
        · refine r_aload_n X (by rfl) dX12_closest_98 ?_
          refine r_iload_n X (by rfl) dX12_closest_99 ?_
          refine r_iload X (by rfl) dX12_closest_100 ?_
          refine r_iconst X 1 (by decide) dX12_closest_102 ?_
          refine r_isub X dX12_closest_103 ?_
          refine r_callV X dX12_closest_104 zLV_X12_196 zCd_X12_markOf (c_X12_markOf _ G z τ ρ _ _ hL (zJ_fq hJ1 hf2) _ hx _ (by omega) (by rw [zMt_fq (hf.tr hf2)]; omega)) (zt hL 38 rfl) ⟨by decide, rfl, rfl⟩ rfl rfl ⟨⟨rfl, rfl⟩, ⟨by decide, by decide⟩, ⟨Nat.le_of_ble_eq_true rfl, Nat.le_of_ble_eq_true rfl⟩, Nat.le_of_ble_eq_true rfl⟩ ?_
          rintro _ _ ⟨r4, rfl, -, r40, r41, rfl⟩
          refine r_goto X 112 dX12_closest_107 (by decide) ?_
          refine r_istore X (by decide) dX12_closest_112 ?_
          refine r_iload X (by rfl) dX12_closest_114 ?_
          refine r_if_lt X 126 dX12_closest_116 (by decide) (fun h116 => ?_) (fun h116 => ?_)
          · refine r_iload X (by rfl) dX12_closest_126 ?_
            refine r_goto X 133 dX12_closest_128 (by decide) ?_
            refine r_istore X (by decide) dX12_closest_133 ?_
            refine r_iload X (by rfl) dX12_closest_135 ?_
            refine r_istore X (by decide) dX12_closest_137 ?_
            refine r_iinc X 1 (by decide) (by rfl) (by decide) dX12_closest_139 ?_
            refine r_goto X 56 dX12_closest_142 (by decide) ?_
            exact zW.loc8 (by rfl) (by rfl) (by rfl) (by rfl) (by rfl) (by rfl) (by rfl) (by rfl) (ih _ _ _ _ _ _ (by have e := zinc (x := i) (by omega); omega) (by have e := zinc (x := i) (by omega); omega) (hf.tr hf2) hM2)
          · refine r_iload X (by rfl) dX12_closest_119 ?_
            refine r_iload X (by rfl) dX12_closest_121 ?_
            refine r_icmp_ge X 131 dX12_closest_123 (by decide) (fun h123 => ?_) (fun h123 => ?_)
            · refine r_iload X (by rfl) dX12_closest_131 ?_
              refine r_istore X (by decide) dX12_closest_133 ?_
              refine r_iload X (by rfl) dX12_closest_135 ?_
              refine r_istore X (by decide) dX12_closest_137 ?_
              refine r_iinc X 1 (by decide) (by rfl) (by decide) dX12_closest_139 ?_
              refine r_goto X 56 dX12_closest_142 (by decide) ?_
              exact zW.loc8 (by rfl) (by rfl) (by rfl) (by rfl) (by rfl) (by rfl) (by rfl) (by rfl) (ih _ _ _ _ _ _ (by have e := zinc (x := i) (by omega); omega) (by have e := zinc (x := i) (by omega); omega) (hf.tr hf2) hM2)
            · refine r_iload X (by rfl) dX12_closest_126 ?_
              refine r_goto X 133 dX12_closest_128 (by decide) ?_
              refine r_istore X (by decide) dX12_closest_133 ?_
              refine r_iload X (by rfl) dX12_closest_135 ?_
              refine r_istore X (by decide) dX12_closest_137 ?_
              refine r_iinc X 1 (by decide) (by rfl) (by decide) dX12_closest_139 ?_
              refine r_goto X 56 dX12_closest_142 (by decide) ?_
              exact zW.loc8 (by rfl) (by rfl) (by rfl) (by rfl) (by rfl) (by rfl) (by rfl) (by rfl) (ih _ _ _ _ _ _ (by have e := zinc (x := i) (by omega); omega) (by have e := zinc (x := i) (by omega); omega) (hf.tr hf2) hM2)
  refine r_aload_n X (by rfl) dX12_closest_0 ?_
  refine r_iload_n X (by rfl) dX12_closest_1 ?_
  refine r_callV X dX12_closest_2 zLV_X12_175 zCd_X12_isScale (c_X12_isScale _ G z τ ρ _ _ hL hJ _) (zt hL 38 rfl) ⟨by decide, rfl, rfl⟩ rfl rfl ⟨⟨rfl, rfl⟩, ⟨by decide, by decide⟩, ⟨Nat.le_of_ble_eq_true rfl, Nat.le_of_ble_eq_true rfl⟩, Nat.le_of_ble_eq_true rfl⟩ ?_
  rintro _ _ ⟨rfl, rfl⟩
  refine r_if_eq X 18 dX12_closest_5 (by decide) (fun h5 => ?_) (fun h5 => ?_)
  · refine r_bipush X (-2) (by decide) dX12_closest_18 ?_
    refine r_ireturn X hR dX12_closest_20 rfl (Nat.zero_le _) (Nat.zero_le _) ?_
    exact ⟨_, _, _, rfl, rfl, zFq.rfl, hM⟩
  · refine r_iload_n X (by rfl) dX12_closest_8 ?_
    refine r_i2l X dX12_closest_9 ?_
    refine r_lconst X 0 (by decide) dX12_closest_10 ?_
    refine r_lconst X 1 (by decide) dX12_closest_11 ?_
    refine r_callS X dX12_closest_12 zLS_X12_163 zCd_X12_in (c_X12_in _ G z τ ρ _ _ _ _ _) rfl rfl ⟨⟨rfl, rfl⟩, ⟨by decide, by decide⟩, ⟨Nat.le_of_ble_eq_true rfl, Nat.le_of_ble_eq_true rfl⟩, Nat.le_of_ble_eq_true rfl⟩ ?_
    rintro _ _ ⟨rfl, rfl⟩
    rw [Int32.toInt_toInt64, show Int64.toInt 0 = 0 from rfl, show Int64.toInt 1 = 1 from rfl]
    refine r_if_ne X 21 dX12_closest_15 (by decide) (fun h15 => ?_) (fun h15 => ?_)
    · have hx := zif1 h5
      refine r_aload_n X (by rfl) dX12_closest_21 ?_
      refine r_iload_n X (by rfl) dX12_closest_22 ?_
      refine r_callV X dX12_closest_23 zLV_X12_193 zCd_X12_marksOf (c_X12_marksOf _ G z τ ρ _ _ hL hJ _ hx) (zt hL 38 rfl) ⟨by decide, rfl, rfl⟩ rfl rfl ⟨⟨rfl, rfl⟩, ⟨by decide, by decide⟩, ⟨Nat.le_of_ble_eq_true rfl, Nat.le_of_ble_eq_true rfl⟩, Nat.le_of_ble_eq_true rfl⟩ ?_
      rintro _ _ ⟨r, rfl, hr, hr0, hr1, rfl⟩
      refine r_istore_n X (by decide) dX12_closest_26 ?_
      refine r_iload_n X (by rfl) dX12_closest_27 ?_
      refine r_iconst X 2 (by decide) dX12_closest_28 ?_
      refine r_icmp_ge X 34 dX12_closest_29 (by decide) (fun h29 => ?_) (fun h29 => ?_)
      · rw [show Int32.toInt 2 = 2 from rfl] at h29
        refine r_iconst X 0 (by decide) dX12_closest_34 ?_
        refine r_istore X (by decide) dX12_closest_35 ?_
        refine r_iconst X (-1) (by decide) dX12_closest_37 ?_
        refine r_istore X (by decide) dX12_closest_38 ?_
        refine r_aload_n X (by rfl) dX12_closest_40 ?_
        refine r_iload_n X (by rfl) dX12_closest_41 ?_
        refine r_aload_n X (by rfl) dX12_closest_42 ?_
        refine r_iload_n X (by rfl) dX12_closest_43 ?_
        refine r_iconst X 0 (by decide) dX12_closest_44 ?_
        refine r_callV X dX12_closest_45 zLV_X12_196 zCd_X12_markOf (c_X12_markOf _ G z τ ρ _ _ hL hJ _ hx _ (by decide) (by rw [show Int32.toInt 0 = 0 from rfl]; omega)) (zt hL 38 rfl) ⟨by decide, rfl, rfl⟩ rfl rfl ⟨⟨rfl, rfl⟩, ⟨by decide, by decide⟩, ⟨Nat.le_of_ble_eq_true rfl, Nat.le_of_ble_eq_true rfl⟩, Nat.le_of_ble_eq_true rfl⟩ ?_
        rintro _ _ ⟨r2, rfl, -, r20, r21, rfl⟩
        refine r_callV X dX12_closest_48 zLV_X12_182 zCd_X12_placeOf (e2_X12_placeOf _ G z τ ρ _ _ hL hJ _ hx _ ⟨r20, r21⟩ hst hM) (zt hL 38 rfl) ⟨by decide, rfl, rfl⟩ rfl rfl ⟨⟨rfl, rfl⟩, ⟨by decide, by decide⟩, ⟨Nat.le_of_ble_eq_true rfl, Nat.le_of_ble_eq_true rfl⟩, Nat.le_of_ble_eq_true rfl⟩ ?_
        rintro _ _ ⟨ι2, κ2, rfl, rfl, hq2, hM2⟩
        have hf2 := hq2
        generalize zPm _ _ _ _ = r3
        refine r_istore X (by decide) dX12_closest_51 ?_
        refine r_iconst X 1 (by decide) dX12_closest_53 ?_
        refine r_istore X (by decide) dX12_closest_54 ?_
        exact zW.loc8 (by rfl) (by rfl) (by rfl) (by rfl) (by rfl) (by rfl) (by rfl) (by rfl) (L56 hx _ hr hr1 400001 _ _ _ _ _ _ (by decide) (by decide) hf2 hM2)
      · rw [show Int32.toInt 2 = 2 from rfl] at h29
        refine r_iconst X (-1) (by decide) dX12_closest_32 ?_
        refine r_ireturn X hR dX12_closest_33 rfl (Nat.zero_le _) (Nat.zero_le _) ?_
        exact ⟨_, _, _, rfl, rfl, zFq.rfl, hM⟩
    · refine r_bipush X (-2) (by decide) dX12_closest_18 ?_
      refine r_ireturn X hR dX12_closest_20 rfl (Nat.zero_le _) (Nat.zero_le _) ?_
      exact ⟨_, _, _, rfl, rfl, zFq.rfl, hM⟩
set_option maxHeartbeats 4000000 in
set_option maxRecDepth 100000 in
theorem e2_X12_nearest (l : Launch) (G : zG) (z : Nat) (τ : Nat → Option (Nat × Nat)) (ρ : Nat → Nat → Option Nat) (ι : Nat → Nat → Int32) (κ : Nat → Nat → Int64) {B c : Nat} (hL : zLay τ ρ B c) (hJ : zJ B c ι) (hst : 100 ≤ (ι (B + 38) 0).toInt ∧ (ι (B + 38) 0).toInt ≤ 50000) (hM : zPsM B c ι) (x y : Int32) : zM l G yX12_nearest cX12_nearest 7 (some .int) ({ frames := 5, cells := 0, slots := 0, locals := 143 } : Room) [.ref (B + 38), .int x, .int y] (z, τ, ρ, ι, κ) (fun v s => ∃ r ι2 κ2, v = some (.int r) ∧ s = (z, τ, ρ, ι2, κ2) ∧ zFq B ι ι2 ∧ zPsM B c ι2) 0 0 := by
  refine zM_of zCd_X12_nearest (Nat.le_of_ble_eq_true rfl) ?_
  intro E X hR hE
  subst hE
  show zW E G 7 (z, τ, ρ, ι, κ) 0 0 0 [(0, .ref (B + 38)), (1, .int x), (2, .int y)] []
  have L26 : ∀ (hx : (0 ≤ x.toInt ∧ x.toInt < (c : Int))), ∀ (m : Nat) (i b l : Int32) (ι1 : Nat → Nat → Int32) (κ1 : Nat → Nat → Int64), (400000 - i.toInt).toNat < m → 0 ≤ i.toInt → zFq B ι ι1 → zPsM B c ι1 → zW E G 7 (z, τ, ρ, ι1, κ1) 0 0 26 [(0, .ref (B + 38)), (1, .int x), (2, .int y), (3, .int b), (4, .int l), (5, .int i)] [] := by
    intro hx m
    induction m with
    | zero => intro i b l ι1 κ1 h; omega
    | succ m ih => ?_
    intro i b l ι1 κ1 hm h0 hf hM1
    have hst1 : 100 ≤ (ι1 (B + 38) 0).toInt ∧ (ι1 (B + 38) 0).toInt ≤ 50000 := by rw [hf (B + 38) 0 (by unfold zCq; omega)]; exact hst
    have hJ1 := zJ_fq hJ hf
    refine r_iload X (by rfl) dX12_nearest_26 ?_
    refine r_aload_n X (by rfl) dX12_nearest_28 ?_
    refine r_iload_n X (by rfl) dX12_nearest_29 ?_
    refine r_callV X dX12_nearest_30 zLV_X12_193 zCd_X12_marksOf (c_X12_marksOf _ G z τ ρ _ _ hL hJ1 _ hx) (zt hL 38 rfl) ⟨by decide, rfl, rfl⟩ rfl rfl ⟨⟨rfl, rfl⟩, ⟨by decide, by decide⟩, ⟨Nat.le_of_ble_eq_true rfl, Nat.le_of_ble_eq_true rfl⟩, Nat.le_of_ble_eq_true rfl⟩ ?_
    rintro _ _ ⟨r, rfl, hr, hr0, hr1, rfl⟩
    refine r_icmp_ge X 106 dX12_nearest_33 (by decide) (fun h33 => ?_) (fun h33 => ?_)
    · refine r_iload_n X (by rfl) dX12_nearest_106 ?_
      refine r_ireturn X hR dX12_nearest_107 rfl (Nat.zero_le _) (Nat.zero_le _) ?_
      exact ⟨_, _, _, rfl, rfl, hf, hM1⟩
    · refine r_aload_n X (by rfl) dX12_nearest_36 ?_
      refine r_iload_n X (by rfl) dX12_nearest_37 ?_
      refine r_aload_n X (by rfl) dX12_nearest_38 ?_
      refine r_iload_n X (by rfl) dX12_nearest_39 ?_
      refine r_iload X (by rfl) dX12_nearest_40 ?_
      refine r_callV X dX12_nearest_42 zLV_X12_196 zCd_X12_markOf (c_X12_markOf _ G z τ ρ _ _ hL hJ1 _ hx _ h0 (by omega)) (zt hL 38 rfl) ⟨by decide, rfl, rfl⟩ rfl rfl ⟨⟨rfl, rfl⟩, ⟨by decide, by decide⟩, ⟨Nat.le_of_ble_eq_true rfl, Nat.le_of_ble_eq_true rfl⟩, Nat.le_of_ble_eq_true rfl⟩ ?_
      rintro _ _ ⟨r2, rfl, -, r20, r21, rfl⟩
      refine r_callV X dX12_nearest_45 zLV_X12_182 zCd_X12_placeOf (e2_X12_placeOf _ G z τ ρ _ _ hL hJ1 _ hx _ ⟨r20, r21⟩ hst1 hM1) (zt hL 38 rfl) ⟨by decide, rfl, rfl⟩ rfl rfl ⟨⟨rfl, rfl⟩, ⟨by decide, by decide⟩, ⟨Nat.le_of_ble_eq_true rfl, Nat.le_of_ble_eq_true rfl⟩, Nat.le_of_ble_eq_true rfl⟩ ?_
      rintro _ _ ⟨ι2, κ2, rfl, rfl, hq2, hM2⟩
      have hf2 := hq2
      generalize zPm _ _ _ _ = r3
      refine r_iload_n X (by rfl) dX12_nearest_48 ?_
      refine r_isub X dX12_nearest_49 ?_
      refine r_callS X dX12_nearest_50 zLS_X12_199 zCd_X12_size (c_X12_size _ G z τ ρ _ _ _) rfl rfl ⟨⟨rfl, rfl⟩, ⟨by decide, by decide⟩, ⟨Nat.le_of_ble_eq_true rfl, Nat.le_of_ble_eq_true rfl⟩, Nat.le_of_ble_eq_true rfl⟩ ?_
      rintro _ _ ⟨rfl, rfl⟩
      generalize hg : (if (r3 - y).toInt < 0 then -(r3 - y) else r3 - y) = gg
      refine r_istore X (by decide) dX12_nearest_53 ?_
      refine r_iload X (by rfl) dX12_nearest_55 ?_
      refine r_if_lt X 67 dX12_nearest_57 (by decide) (fun h57 => ?_) (fun h57 => ?_)
      · refine r_aload_n X (by rfl) dX12_nearest_67 ?_
        refine r_iload_n X (by rfl) dX12_nearest_68 ?_
        refine r_iload X (by rfl) dX12_nearest_69 ?_
        refine r_callV X dX12_nearest_71 zLV_X12_196 zCd_X12_markOf (c_X12_markOf _ G z τ ρ _ _ hL (zJ_fq hJ1 hf2) _ hx _ h0 (by rw [zMt_fq hf2]; omega)) (zt hL 38 rfl) ⟨by decide, rfl, rfl⟩ rfl rfl ⟨⟨rfl, rfl⟩, ⟨by decide, by decide⟩, ⟨Nat.le_of_ble_eq_true rfl, Nat.le_of_ble_eq_true rfl⟩, Nat.le_of_ble_eq_true rfl⟩ ?_
        rintro _ _ ⟨r4, rfl, -, r40, r41, rfl⟩
        refine r_goto X 78 dX12_nearest_74 (by decide) ?_
        refine r_istore_n X (by decide) dX12_nearest_78 ?_
        refine r_iload X (by rfl) dX12_nearest_79 ?_
        refine r_if_lt X 91 dX12_nearest_81 (by decide) (fun h81 => ?_) (fun h81 => ?_)
        · refine r_iload X (by rfl) dX12_nearest_91 ?_
          refine r_goto X 98 dX12_nearest_93 (by decide) ?_
          refine r_istore X (by decide) dX12_nearest_98 ?_
          refine r_iinc X 1 (by decide) (by rfl) (by decide) dX12_nearest_100 ?_
          refine r_goto X 26 dX12_nearest_103 (by decide) ?_
          exact zW.loc6 (by rfl) (by rfl) (by rfl) (by rfl) (by rfl) (by rfl) (ih _ _ _ _ _ (by have e := zinc (x := i) (by omega); omega) (by have e := zinc (x := i) (by omega); omega) (hf.tr hf2) hM2)
        · refine r_iload X (by rfl) dX12_nearest_84 ?_
          refine r_iload X (by rfl) dX12_nearest_86 ?_
          refine r_icmp_ge X 96 dX12_nearest_88 (by decide) (fun h88 => ?_) (fun h88 => ?_)
          · refine r_iload X (by rfl) dX12_nearest_96 ?_
            refine r_istore X (by decide) dX12_nearest_98 ?_
            refine r_iinc X 1 (by decide) (by rfl) (by decide) dX12_nearest_100 ?_
            refine r_goto X 26 dX12_nearest_103 (by decide) ?_
            exact zW.loc6 (by rfl) (by rfl) (by rfl) (by rfl) (by rfl) (by rfl) (ih _ _ _ _ _ (by have e := zinc (x := i) (by omega); omega) (by have e := zinc (x := i) (by omega); omega) (hf.tr hf2) hM2)
          · refine r_iload X (by rfl) dX12_nearest_91 ?_
            refine r_goto X 98 dX12_nearest_93 (by decide) ?_
            refine r_istore X (by decide) dX12_nearest_98 ?_
            refine r_iinc X 1 (by decide) (by rfl) (by decide) dX12_nearest_100 ?_
            refine r_goto X 26 dX12_nearest_103 (by decide) ?_
            exact zW.loc6 (by rfl) (by rfl) (by rfl) (by rfl) (by rfl) (by rfl) (ih _ _ _ _ _ (by have e := zinc (x := i) (by omega); omega) (by have e := zinc (x := i) (by omega); omega) (hf.tr hf2) hM2)
      · refine r_iload X (by rfl) dX12_nearest_60 ?_
        refine r_iload X (by rfl) dX12_nearest_62 ?_
        refine r_icmp_ge X 77 dX12_nearest_64 (by decide) (fun h64 => ?_) (fun h64 => ?_)
        · refine r_iload_n X (by rfl) dX12_nearest_77 ?_
          refine r_istore_n X (by decide) dX12_nearest_78 ?_
          refine r_iload X (by rfl) dX12_nearest_79 ?_
          refine r_if_lt X 91 dX12_nearest_81 (by decide) (fun h81 => ?_) (fun h81 => ?_)
          · refine r_iload X (by rfl) dX12_nearest_91 ?_
            refine r_goto X 98 dX12_nearest_93 (by decide) ?_
            refine r_istore X (by decide) dX12_nearest_98 ?_
            refine r_iinc X 1 (by decide) (by rfl) (by decide) dX12_nearest_100 ?_
            refine r_goto X 26 dX12_nearest_103 (by decide) ?_
            exact zW.loc6 (by rfl) (by rfl) (by rfl) (by rfl) (by rfl) (by rfl) (ih _ _ _ _ _ (by have e := zinc (x := i) (by omega); omega) (by have e := zinc (x := i) (by omega); omega) (hf.tr hf2) hM2)
          · refine r_iload X (by rfl) dX12_nearest_84 ?_
            refine r_iload X (by rfl) dX12_nearest_86 ?_
            refine r_icmp_ge X 96 dX12_nearest_88 (by decide) (fun h88 => ?_) (fun h88 => ?_)
            · refine r_iload X (by rfl) dX12_nearest_96 ?_
              refine r_istore X (by decide) dX12_nearest_98 ?_
              refine r_iinc X 1 (by decide) (by rfl) (by decide) dX12_nearest_100 ?_
              refine r_goto X 26 dX12_nearest_103 (by decide) ?_
              exact zW.loc6 (by rfl) (by rfl) (by rfl) (by rfl) (by rfl) (by rfl) (ih _ _ _ _ _ (by have e := zinc (x := i) (by omega); omega) (by have e := zinc (x := i) (by omega); omega) (hf.tr hf2) hM2)
            · refine r_iload X (by rfl) dX12_nearest_91 ?_
              refine r_goto X 98 dX12_nearest_93 (by decide) ?_
              refine r_istore X (by decide) dX12_nearest_98 ?_
              refine r_iinc X 1 (by decide) (by rfl) (by decide) dX12_nearest_100 ?_
              refine r_goto X 26 dX12_nearest_103 (by decide) ?_
              exact zW.loc6 (by rfl) (by rfl) (by rfl) (by rfl) (by rfl) (by rfl) (ih _ _ _ _ _ (by have e := zinc (x := i) (by omega); omega) (by have e := zinc (x := i) (by omega); omega) (hf.tr hf2) hM2)
        · refine r_aload_n X (by rfl) dX12_nearest_67 ?_
          refine r_iload_n X (by rfl) dX12_nearest_68 ?_
          refine r_iload X (by rfl) dX12_nearest_69 ?_
          refine r_callV X dX12_nearest_71 zLV_X12_196 zCd_X12_markOf (c_X12_markOf _ G z τ ρ _ _ hL (zJ_fq hJ1 hf2) _ hx _ h0 (by rw [zMt_fq hf2]; omega)) (zt hL 38 rfl) ⟨by decide, rfl, rfl⟩ rfl rfl ⟨⟨rfl, rfl⟩, ⟨by decide, by decide⟩, ⟨Nat.le_of_ble_eq_true rfl, Nat.le_of_ble_eq_true rfl⟩, Nat.le_of_ble_eq_true rfl⟩ ?_
          rintro _ _ ⟨r4, rfl, -, r40, r41, rfl⟩
          refine r_goto X 78 dX12_nearest_74 (by decide) ?_
          refine r_istore_n X (by decide) dX12_nearest_78 ?_
          refine r_iload X (by rfl) dX12_nearest_79 ?_
          refine r_if_lt X 91 dX12_nearest_81 (by decide) (fun h81 => ?_) (fun h81 => ?_)
          · refine r_iload X (by rfl) dX12_nearest_91 ?_
            refine r_goto X 98 dX12_nearest_93 (by decide) ?_
            refine r_istore X (by decide) dX12_nearest_98 ?_
            refine r_iinc X 1 (by decide) (by rfl) (by decide) dX12_nearest_100 ?_
            refine r_goto X 26 dX12_nearest_103 (by decide) ?_
            exact zW.loc6 (by rfl) (by rfl) (by rfl) (by rfl) (by rfl) (by rfl) (ih _ _ _ _ _ (by have e := zinc (x := i) (by omega); omega) (by have e := zinc (x := i) (by omega); omega) (hf.tr hf2) hM2)
          · refine r_iload X (by rfl) dX12_nearest_84 ?_
            refine r_iload X (by rfl) dX12_nearest_86 ?_
            refine r_icmp_ge X 96 dX12_nearest_88 (by decide) (fun h88 => ?_) (fun h88 => ?_)
            · refine r_iload X (by rfl) dX12_nearest_96 ?_
              refine r_istore X (by decide) dX12_nearest_98 ?_
              refine r_iinc X 1 (by decide) (by rfl) (by decide) dX12_nearest_100 ?_
              refine r_goto X 26 dX12_nearest_103 (by decide) ?_
              exact zW.loc6 (by rfl) (by rfl) (by rfl) (by rfl) (by rfl) (by rfl) (ih _ _ _ _ _ (by have e := zinc (x := i) (by omega); omega) (by have e := zinc (x := i) (by omega); omega) (hf.tr hf2) hM2)
            · refine r_iload X (by rfl) dX12_nearest_91 ?_
              refine r_goto X 98 dX12_nearest_93 (by decide) ?_
              refine r_istore X (by decide) dX12_nearest_98 ?_
              refine r_iinc X 1 (by decide) (by rfl) (by decide) dX12_nearest_100 ?_
              refine r_goto X 26 dX12_nearest_103 (by decide) ?_
              exact zW.loc6 (by rfl) (by rfl) (by rfl) (by rfl) (by rfl) (by rfl) (ih _ _ _ _ _ (by have e := zinc (x := i) (by omega); omega) (by have e := zinc (x := i) (by omega); omega) (hf.tr hf2) hM2)
  refine r_aload_n X (by rfl) dX12_nearest_0 ?_
  refine r_iload_n X (by rfl) dX12_nearest_1 ?_
  refine r_callV X dX12_nearest_2 zLV_X12_175 zCd_X12_isScale (c_X12_isScale _ G z τ ρ _ _ hL hJ _) (zt hL 38 rfl) ⟨by decide, rfl, rfl⟩ rfl rfl ⟨⟨rfl, rfl⟩, ⟨by decide, by decide⟩, ⟨Nat.le_of_ble_eq_true rfl, Nat.le_of_ble_eq_true rfl⟩, Nat.le_of_ble_eq_true rfl⟩ ?_
  rintro _ _ ⟨rfl, rfl⟩
  refine r_if_eq X 15 dX12_nearest_5 (by decide) (fun h5 => ?_) (fun h5 => ?_)
  · refine r_bipush X (-2) (by decide) dX12_nearest_15 ?_
    refine r_ireturn X hR dX12_nearest_17 rfl (Nat.zero_le _) (Nat.zero_le _) ?_
    exact ⟨_, _, _, rfl, rfl, zFq.rfl, hM⟩
  · refine r_iload_n X (by rfl) dX12_nearest_8 ?_
    refine r_callS X dX12_nearest_9 zLS_X12_213 zCd_X12_isPlace (c_X12_isPlace _ G z τ ρ _ _ _) rfl rfl ⟨⟨rfl, rfl⟩, ⟨by decide, by decide⟩, ⟨Nat.le_of_ble_eq_true rfl, Nat.le_of_ble_eq_true rfl⟩, Nat.le_of_ble_eq_true rfl⟩ ?_
    rintro _ _ ⟨rfl, rfl⟩
    refine r_if_ne X 18 dX12_nearest_12 (by decide) (fun h12 => ?_) (fun h12 => ?_)
    · refine r_iconst X (-1) (by decide) dX12_nearest_18 ?_
      refine r_istore_n X (by decide) dX12_nearest_19 ?_
      refine r_iconst X (-1) (by decide) dX12_nearest_20 ?_
      refine r_istore X (by decide) dX12_nearest_21 ?_
      refine r_iconst X 0 (by decide) dX12_nearest_23 ?_
      refine r_istore X (by decide) dX12_nearest_24 ?_
      exact zW.loc6 (by rfl) (by rfl) (by rfl) (by rfl) (by rfl) (by rfl) (L26 (zif1 h5) 400001 _ _ _ _ _ (by decide) (by decide) zFq.rfl hM)
    · refine r_bipush X (-2) (by decide) dX12_nearest_15 ?_
      refine r_ireturn X hR dX12_nearest_17 rfl (Nat.zero_le _) (Nat.zero_le _) ?_
      exact ⟨_, _, _, rfl, rfl, zFq.rfl, hM⟩
set_option maxHeartbeats 4000000 in
set_option maxRecDepth 100000 in
theorem e2_X12_between (l : Launch) (G : zG) (z : Nat) (τ : Nat → Option (Nat × Nat)) (ρ : Nat → Nat → Option Nat) (ι : Nat → Nat → Int32) (κ : Nat → Nat → Int64) {B c : Nat} (hL : zLay τ ρ B c) (hJ : zJ B c ι) (hst : 100 ≤ (ι (B + 38) 0).toInt ∧ (ι (B + 38) 0).toInt ≤ 50000) (hM : zPsM B c ι) (x y : Int32) : zM l G yX12_between cX12_between 9 (some .int) ({ frames := 5, cells := 0, slots := 0, locals := 143 } : Room) [.ref (B + 38), .int x, .int y] (z, τ, ρ, ι, κ) (fun v s => ∃ r ι2 κ2, v = some (.int r) ∧ s = (z, τ, ρ, ι2, κ2) ∧ zFq B ι ι2 ∧ zPsM B c ι2) 0 0 := by
  refine zM_of zCd_X12_between (Nat.le_of_ble_eq_true rfl) ?_
  intro E X hR hE
  subst hE
  show zW E G 9 (z, τ, ρ, ι, κ) 0 0 0 [(0, .ref (B + 38)), (1, .int x), (2, .int y)] []
  have L48 : ∀ (hx : (0 ≤ x.toInt ∧ x.toInt < (c : Int))) (n : Int32), n.toInt = zMk B ι x.toNatClampNeg (ι (B + 43) x.toNatClampNeg).toNatClampNeg → n.toInt ≤ 399604 → ∀ (m : Nat) (i l : Int32) (ι1 : Nat → Nat → Int32) (κ1 : Nat → Nat → Int64), (400000 - i.toInt).toNat < m → 1 ≤ i.toInt → zFq B ι ι1 → zPsM B c ι1 → zW E G 9 (z, τ, ρ, ι1, κ1) 0 0 48 [(0, .ref (B + 38)), (1, .int x), (2, .int y), (3, .int n), (4, .int l), (5, .int i)] [] := by
    intro hx n hn hn2 m
    induction m with
    | zero => intro i l ι1 κ1 h; omega
    | succ m ih => ?_
    intro i l ι1 κ1 hm h0 hf hM1
    have hst1 : 100 ≤ (ι1 (B + 38) 0).toInt ∧ (ι1 (B + 38) 0).toInt ≤ 50000 := by rw [hf (B + 38) 0 (by unfold zCq; omega)]; exact hst
    have hJ1 := zJ_fq hJ hf
    have es := zsub1 (x := i) (by omega)
    refine r_iload X (by rfl) dX12_between_48 ?_
    refine r_iload_n X (by rfl) dX12_between_50 ?_
    refine r_icmp_ge X 166 dX12_between_51 (by decide) (fun h51 => ?_) (fun h51 => ?_)
    · refine r_iconst X (-1) (by decide) dX12_between_166 ?_
      refine r_ireturn X hR dX12_between_167 rfl (Nat.zero_le _) (Nat.zero_le _) ?_
      exact ⟨_, _, _, rfl, rfl, hf, hM1⟩
    · refine r_aload_n X (by rfl) dX12_between_54 ?_
      refine r_iload_n X (by rfl) dX12_between_55 ?_
      refine r_aload_n X (by rfl) dX12_between_56 ?_
      refine r_iload_n X (by rfl) dX12_between_57 ?_
      refine r_iload X (by rfl) dX12_between_58 ?_
      refine r_callV X dX12_between_60 zLV_X12_196 zCd_X12_markOf (c_X12_markOf _ G z τ ρ _ _ hL hJ1 _ hx _ (by omega) (by rw [zMt_fq hf]; omega)) (zt hL 38 rfl) ⟨by decide, rfl, rfl⟩ rfl rfl ⟨⟨rfl, rfl⟩, ⟨by decide, by decide⟩, ⟨Nat.le_of_ble_eq_true rfl, Nat.le_of_ble_eq_true rfl⟩, Nat.le_of_ble_eq_true rfl⟩ ?_
      rintro _ _ ⟨r2, rfl, -, r20, r21, rfl⟩
      refine r_callV X dX12_between_63 zLV_X12_182 zCd_X12_placeOf (e2_X12_placeOf _ G z τ ρ _ _ hL hJ1 _ hx _ ⟨r20, r21⟩ hst1 hM1) (zt hL 38 rfl) ⟨by decide, rfl, rfl⟩ rfl rfl ⟨⟨rfl, rfl⟩, ⟨by decide, by decide⟩, ⟨Nat.le_of_ble_eq_true rfl, Nat.le_of_ble_eq_true rfl⟩, Nat.le_of_ble_eq_true rfl⟩ ?_
      rintro _ _ ⟨ι2, κ2, rfl, rfl, hq2, hM2⟩
      have hf2 := hq2
      generalize zPm _ _ _ _ = r3
      refine r_istore X (by decide) dX12_between_66 ?_
      refine r_iload X (by rfl) dX12_between_68 ?_
      refine r_iload X (by rfl) dX12_between_70 ?_
      refine r_icmp_eq X 156 dX12_between_72 (by decide) (fun h72 => ?_) (fun h72 => ?_)
      · refine r_iload X (by rfl) dX12_between_156 ?_
        refine r_istore X (by decide) dX12_between_158 ?_
        refine r_iinc X 1 (by decide) (by rfl) (by decide) dX12_between_160 ?_
        refine r_goto X 48 dX12_between_163 (by decide) ?_
        exact zW.loc6 (by rfl) (by rfl) (by rfl) (by rfl) (by rfl) (by rfl) (ih _ _ _ _ (by have e := zinc (x := i) (by omega); omega) (by have e := zinc (x := i) (by omega); omega) (hf.tr hf2) hM2)
      · refine r_iload_n X (by rfl) dX12_between_75 ?_
        refine r_i2l X dX12_between_76 ?_
        refine r_iload X (by rfl) dX12_between_77 ?_
        refine r_i2l X dX12_between_79 ?_
        refine r_iload X (by rfl) dX12_between_80 ?_
        refine r_i2l X dX12_between_82 ?_
        refine r_callS X dX12_between_83 zLS_X12_163 zCd_X12_in (c_X12_in _ G z τ ρ _ _ _ _ _) rfl rfl ⟨⟨rfl, rfl⟩, ⟨by decide, by decide⟩, ⟨Nat.le_of_ble_eq_true rfl, Nat.le_of_ble_eq_true rfl⟩, Nat.le_of_ble_eq_true rfl⟩ ?_
        rintro _ _ ⟨rfl, rfl⟩
        refine r_if_ne X 103 dX12_between_86 (by decide) (fun h86 => ?_) (fun h86 => ?_)
        · refine r_aload_n X (by rfl) dX12_between_103 ?_
          refine r_iload_n X (by rfl) dX12_between_104 ?_
          refine r_iload X (by rfl) dX12_between_105 ?_
          refine r_callV X dX12_between_107 zLV_X12_196 zCd_X12_markOf (c_X12_markOf _ G z τ ρ _ _ hL (zJ_fq hJ1 hf2) _ hx _ (by omega) (by rw [zMt_fq (hf.tr hf2)]; omega)) (zt hL 38 rfl) ⟨by decide, rfl, rfl⟩ rfl rfl ⟨⟨rfl, rfl⟩, ⟨by decide, by decide⟩, ⟨Nat.le_of_ble_eq_true rfl, Nat.le_of_ble_eq_true rfl⟩, Nat.le_of_ble_eq_true rfl⟩ ?_
          rintro _ _ ⟨r4, rfl, -, r40, r41, rfl⟩
          refine r_aload_n X (by rfl) dX12_between_110 ?_
          refine r_iload_n X (by rfl) dX12_between_111 ?_
          refine r_iload X (by rfl) dX12_between_112 ?_
          refine r_iconst X 1 (by decide) dX12_between_114 ?_
          refine r_isub X dX12_between_115 ?_
          refine r_callV X dX12_between_116 zLV_X12_196 zCd_X12_markOf (c_X12_markOf _ G z τ ρ _ _ hL (zJ_fq hJ1 hf2) _ hx _ (by omega) (by rw [zMt_fq (hf.tr hf2)]; omega)) (zt hL 38 rfl) ⟨by decide, rfl, rfl⟩ rfl rfl ⟨⟨rfl, rfl⟩, ⟨by decide, by decide⟩, ⟨Nat.le_of_ble_eq_true rfl, Nat.le_of_ble_eq_true rfl⟩, Nat.le_of_ble_eq_true rfl⟩ ?_
          rintro _ _ ⟨r5, rfl, -, r50, r51, rfl⟩
          refine r_isub X dX12_between_119 ?_
          refine r_i2l X dX12_between_120 ?_
          refine r_lstore X (by decide) dX12_between_121 ?_
          refine r_aload_n X (by rfl) dX12_between_123 ?_
          refine r_iload_n X (by rfl) dX12_between_124 ?_
          refine r_iload X (by rfl) dX12_between_125 ?_
          refine r_iconst X 1 (by decide) dX12_between_127 ?_
          refine r_isub X dX12_between_128 ?_
          refine r_callV X dX12_between_129 zLV_X12_196 zCd_X12_markOf (c_X12_markOf _ G z τ ρ _ _ hL (zJ_fq hJ1 hf2) _ hx _ (by omega) (by rw [zMt_fq (hf.tr hf2)]; omega)) (zt hL 38 rfl) ⟨by decide, rfl, rfl⟩ rfl rfl ⟨⟨rfl, rfl⟩, ⟨by decide, by decide⟩, ⟨Nat.le_of_ble_eq_true rfl, Nat.le_of_ble_eq_true rfl⟩, Nat.le_of_ble_eq_true rfl⟩ ?_
          rintro _ _ ⟨r6, rfl, -, r60, r61, rfl⟩
          refine r_lload X (by rfl) dX12_between_132 ?_
          refine r_iload_n X (by rfl) dX12_between_134 ?_
          refine r_iload X (by rfl) dX12_between_135 ?_
          refine r_isub X dX12_between_137 ?_
          refine r_callS X dX12_between_138 zLS_X12_199 zCd_X12_size (c_X12_size _ G z τ ρ _ _ _) rfl rfl ⟨⟨rfl, rfl⟩, ⟨by decide, by decide⟩, ⟨Nat.le_of_ble_eq_true rfl, Nat.le_of_ble_eq_true rfl⟩, Nat.le_of_ble_eq_true rfl⟩ ?_
          rintro _ _ ⟨rfl, rfl⟩
          refine r_i2l X dX12_between_141 ?_
          refine r_lmul X dX12_between_142 ?_
          refine r_iload X (by rfl) dX12_between_143 ?_
          refine r_iload X (by rfl) dX12_between_145 ?_
          refine r_isub X dX12_between_147 ?_
          refine r_callS X dX12_between_148 zLS_X12_199 zCd_X12_size (c_X12_size _ G z τ ρ _ _ _) rfl rfl ⟨⟨rfl, rfl⟩, ⟨by decide, by decide⟩, ⟨Nat.le_of_ble_eq_true rfl, Nat.le_of_ble_eq_true rfl⟩, Nat.le_of_ble_eq_true rfl⟩ ?_
          rintro _ _ ⟨rfl, rfl⟩
          refine r_i2l X dX12_between_151 ?_
          refine r_ldiv X (zsz_ne h72) dX12_between_152 ?_
          refine r_l2i X dX12_between_153 ?_
          refine r_iadd X dX12_between_154 ?_
          refine r_ireturn X hR dX12_between_155 rfl (Nat.zero_le _) (Nat.zero_le _) ?_
          exact ⟨_, _, _, rfl, rfl, hf.tr hf2, hM2⟩
        · refine r_iload_n X (by rfl) dX12_between_89 ?_
          refine r_i2l X dX12_between_90 ?_
          refine r_iload X (by rfl) dX12_between_91 ?_
          refine r_i2l X dX12_between_93 ?_
          refine r_iload X (by rfl) dX12_between_94 ?_
          refine r_i2l X dX12_between_96 ?_
          refine r_callS X dX12_between_97 zLS_X12_163 zCd_X12_in (c_X12_in _ G z τ ρ _ _ _ _ _) rfl rfl ⟨⟨rfl, rfl⟩, ⟨by decide, by decide⟩, ⟨Nat.le_of_ble_eq_true rfl, Nat.le_of_ble_eq_true rfl⟩, Nat.le_of_ble_eq_true rfl⟩ ?_
          rintro _ _ ⟨rfl, rfl⟩
          refine r_if_eq X 156 dX12_between_100 (by decide) (fun h100 => ?_) (fun h100 => ?_)
          · refine r_iload X (by rfl) dX12_between_156 ?_
            refine r_istore X (by decide) dX12_between_158 ?_
            refine r_iinc X 1 (by decide) (by rfl) (by decide) dX12_between_160 ?_
            refine r_goto X 48 dX12_between_163 (by decide) ?_
            exact zW.loc6 (by rfl) (by rfl) (by rfl) (by rfl) (by rfl) (by rfl) (ih _ _ _ _ (by have e := zinc (x := i) (by omega); omega) (by have e := zinc (x := i) (by omega); omega) (hf.tr hf2) hM2)
          · refine r_aload_n X (by rfl) dX12_between_103 ?_
            refine r_iload_n X (by rfl) dX12_between_104 ?_
            refine r_iload X (by rfl) dX12_between_105 ?_
            refine r_callV X dX12_between_107 zLV_X12_196 zCd_X12_markOf (c_X12_markOf _ G z τ ρ _ _ hL (zJ_fq hJ1 hf2) _ hx _ (by omega) (by rw [zMt_fq (hf.tr hf2)]; omega)) (zt hL 38 rfl) ⟨by decide, rfl, rfl⟩ rfl rfl ⟨⟨rfl, rfl⟩, ⟨by decide, by decide⟩, ⟨Nat.le_of_ble_eq_true rfl, Nat.le_of_ble_eq_true rfl⟩, Nat.le_of_ble_eq_true rfl⟩ ?_
            rintro _ _ ⟨r4, rfl, -, r40, r41, rfl⟩
            refine r_aload_n X (by rfl) dX12_between_110 ?_
            refine r_iload_n X (by rfl) dX12_between_111 ?_
            refine r_iload X (by rfl) dX12_between_112 ?_
            refine r_iconst X 1 (by decide) dX12_between_114 ?_
            refine r_isub X dX12_between_115 ?_
            refine r_callV X dX12_between_116 zLV_X12_196 zCd_X12_markOf (c_X12_markOf _ G z τ ρ _ _ hL (zJ_fq hJ1 hf2) _ hx _ (by omega) (by rw [zMt_fq (hf.tr hf2)]; omega)) (zt hL 38 rfl) ⟨by decide, rfl, rfl⟩ rfl rfl ⟨⟨rfl, rfl⟩, ⟨by decide, by decide⟩, ⟨Nat.le_of_ble_eq_true rfl, Nat.le_of_ble_eq_true rfl⟩, Nat.le_of_ble_eq_true rfl⟩ ?_
            rintro _ _ ⟨r5, rfl, -, r50, r51, rfl⟩
            refine r_isub X dX12_between_119 ?_
            refine r_i2l X dX12_between_120 ?_
            refine r_lstore X (by decide) dX12_between_121 ?_
            refine r_aload_n X (by rfl) dX12_between_123 ?_
            refine r_iload_n X (by rfl) dX12_between_124 ?_
            refine r_iload X (by rfl) dX12_between_125 ?_
            refine r_iconst X 1 (by decide) dX12_between_127 ?_
            refine r_isub X dX12_between_128 ?_
            refine r_callV X dX12_between_129 zLV_X12_196 zCd_X12_markOf (c_X12_markOf _ G z τ ρ _ _ hL (zJ_fq hJ1 hf2) _ hx _ (by omega) (by rw [zMt_fq (hf.tr hf2)]; omega)) (zt hL 38 rfl) ⟨by decide, rfl, rfl⟩ rfl rfl ⟨⟨rfl, rfl⟩, ⟨by decide, by decide⟩, ⟨Nat.le_of_ble_eq_true rfl, Nat.le_of_ble_eq_true rfl⟩, Nat.le_of_ble_eq_true rfl⟩ ?_
            rintro _ _ ⟨r6, rfl, -, r60, r61, rfl⟩
            refine r_lload X (by rfl) dX12_between_132 ?_
            refine r_iload_n X (by rfl) dX12_between_134 ?_
            refine r_iload X (by rfl) dX12_between_135 ?_
            refine r_isub X dX12_between_137 ?_
            refine r_callS X dX12_between_138 zLS_X12_199 zCd_X12_size (c_X12_size _ G z τ ρ _ _ _) rfl rfl ⟨⟨rfl, rfl⟩, ⟨by decide, by decide⟩, ⟨Nat.le_of_ble_eq_true rfl, Nat.le_of_ble_eq_true rfl⟩, Nat.le_of_ble_eq_true rfl⟩ ?_
            rintro _ _ ⟨rfl, rfl⟩
            refine r_i2l X dX12_between_141 ?_
            refine r_lmul X dX12_between_142 ?_
            refine r_iload X (by rfl) dX12_between_143 ?_
            refine r_iload X (by rfl) dX12_between_145 ?_
            refine r_isub X dX12_between_147 ?_
            refine r_callS X dX12_between_148 zLS_X12_199 zCd_X12_size (c_X12_size _ G z τ ρ _ _ _) rfl rfl ⟨⟨rfl, rfl⟩, ⟨by decide, by decide⟩, ⟨Nat.le_of_ble_eq_true rfl, Nat.le_of_ble_eq_true rfl⟩, Nat.le_of_ble_eq_true rfl⟩ ?_
            rintro _ _ ⟨rfl, rfl⟩
            refine r_i2l X dX12_between_151 ?_
            refine r_ldiv X (zsz_ne h72) dX12_between_152 ?_
            refine r_l2i X dX12_between_153 ?_
            refine r_iadd X dX12_between_154 ?_
            refine r_ireturn X hR dX12_between_155 rfl (Nat.zero_le _) (Nat.zero_le _) ?_
            exact ⟨_, _, _, rfl, rfl, hf.tr hf2, hM2⟩
  refine r_aload_n X (by rfl) dX12_between_0 ?_
  refine r_iload_n X (by rfl) dX12_between_1 ?_
  refine r_callV X dX12_between_2 zLV_X12_175 zCd_X12_isScale (c_X12_isScale _ G z τ ρ _ _ hL hJ _) (zt hL 38 rfl) ⟨by decide, rfl, rfl⟩ rfl rfl ⟨⟨rfl, rfl⟩, ⟨by decide, by decide⟩, ⟨Nat.le_of_ble_eq_true rfl, Nat.le_of_ble_eq_true rfl⟩, Nat.le_of_ble_eq_true rfl⟩ ?_
  rintro _ _ ⟨rfl, rfl⟩
  refine r_if_eq X 15 dX12_between_5 (by decide) (fun h5 => ?_) (fun h5 => ?_)
  · refine r_bipush X (-2) (by decide) dX12_between_15 ?_
    refine r_ireturn X hR dX12_between_17 rfl (Nat.zero_le _) (Nat.zero_le _) ?_
    exact ⟨_, _, _, rfl, rfl, zFq.rfl, hM⟩
  · refine r_iload_n X (by rfl) dX12_between_8 ?_
    refine r_callS X dX12_between_9 zLS_X12_213 zCd_X12_isPlace (c_X12_isPlace _ G z τ ρ _ _ _) rfl rfl ⟨⟨rfl, rfl⟩, ⟨by decide, by decide⟩, ⟨Nat.le_of_ble_eq_true rfl, Nat.le_of_ble_eq_true rfl⟩, Nat.le_of_ble_eq_true rfl⟩ ?_
    rintro _ _ ⟨rfl, rfl⟩
    refine r_if_ne X 18 dX12_between_12 (by decide) (fun h12 => ?_) (fun h12 => ?_)
    · have hx := zif1 h5
      refine r_aload_n X (by rfl) dX12_between_18 ?_
      refine r_iload_n X (by rfl) dX12_between_19 ?_
      refine r_callV X dX12_between_20 zLV_X12_193 zCd_X12_marksOf (c_X12_marksOf _ G z τ ρ _ _ hL hJ _ hx) (zt hL 38 rfl) ⟨by decide, rfl, rfl⟩ rfl rfl ⟨⟨rfl, rfl⟩, ⟨by decide, by decide⟩, ⟨Nat.le_of_ble_eq_true rfl, Nat.le_of_ble_eq_true rfl⟩, Nat.le_of_ble_eq_true rfl⟩ ?_
      rintro _ _ ⟨r, rfl, hr, hr0, hr1, rfl⟩
      refine r_istore_n X (by decide) dX12_between_23 ?_
      refine r_iload_n X (by rfl) dX12_between_24 ?_
      refine r_if_ne X 32 dX12_between_25 (by decide) (fun h25 => ?_) (fun h25 => ?_)
      · have hr3 : 0 < r.toInt := by
          rcases Int.lt_or_eq_of_le hr0 with q | q
          · exact q
          · exact absurd (Int32.toInt_inj.mp (by rw [← q]; rfl)) h25
        refine r_aload_n X (by rfl) dX12_between_32 ?_
        refine r_iload_n X (by rfl) dX12_between_33 ?_
        refine r_aload_n X (by rfl) dX12_between_34 ?_
        refine r_iload_n X (by rfl) dX12_between_35 ?_
        refine r_iconst X 0 (by decide) dX12_between_36 ?_
        refine r_callV X dX12_between_37 zLV_X12_196 zCd_X12_markOf (c_X12_markOf _ G z τ ρ _ _ hL hJ _ hx _ (by decide) (by rw [show Int32.toInt 0 = 0 from rfl]; omega)) (zt hL 38 rfl) ⟨by decide, rfl, rfl⟩ rfl rfl ⟨⟨rfl, rfl⟩, ⟨by decide, by decide⟩, ⟨Nat.le_of_ble_eq_true rfl, Nat.le_of_ble_eq_true rfl⟩, Nat.le_of_ble_eq_true rfl⟩ ?_
        rintro _ _ ⟨r2, rfl, -, r20, r21, rfl⟩
        refine r_callV X dX12_between_40 zLV_X12_182 zCd_X12_placeOf (e2_X12_placeOf _ G z τ ρ _ _ hL hJ _ hx _ ⟨r20, r21⟩ hst hM) (zt hL 38 rfl) ⟨by decide, rfl, rfl⟩ rfl rfl ⟨⟨rfl, rfl⟩, ⟨by decide, by decide⟩, ⟨Nat.le_of_ble_eq_true rfl, Nat.le_of_ble_eq_true rfl⟩, Nat.le_of_ble_eq_true rfl⟩ ?_
        rintro _ _ ⟨ι2, κ2, rfl, rfl, hq2, hM2⟩
        have hf2 := hq2
        generalize zPm _ _ _ _ = r3
        refine r_istore X (by decide) dX12_between_43 ?_
        refine r_iconst X 1 (by decide) dX12_between_45 ?_
        refine r_istore X (by decide) dX12_between_46 ?_
        exact zW.loc6 (by rfl) (by rfl) (by rfl) (by rfl) (by rfl) (by rfl) (L48 hx _ hr hr1 400001 _ _ _ _ (by decide) (by decide) (by first | exact hf2 | exact zFq.rfl) (by first | exact hM2 | exact hM))
      · refine r_iconst X 0 (by decide) dX12_between_28 ?_
        refine r_goto X 43 dX12_between_29 (by decide) ?_
        refine r_istore X (by decide) dX12_between_43 ?_
        refine r_iconst X 1 (by decide) dX12_between_45 ?_
        refine r_istore X (by decide) dX12_between_46 ?_
        exact zW.loc6 (by rfl) (by rfl) (by rfl) (by rfl) (by rfl) (by rfl) (L48 hx _ hr hr1 400001 _ _ _ _ (by decide) (by decide) (by first | exact hf2 | exact zFq.rfl) (by first | exact hM2 | exact hM))
    · refine r_bipush X (-2) (by decide) dX12_between_15 ?_
      refine r_ireturn X hR dX12_between_17 rfl (Nat.zero_le _) (Nat.zero_le _) ?_
      exact ⟨_, _, _, rfl, rfl, zFq.rfl, hM⟩
set_option maxHeartbeats 4000000 in
set_option maxRecDepth 100000 in
theorem e2_X12_digest (l : Launch) (G : zG) (z : Nat) (τ : Nat → Option (Nat × Nat)) (ρ : Nat → Nat → Option Nat) (ι : Nat → Nat → Int32) (κ : Nat → Nat → Int64) {B c : Nat} (hL : zLay τ ρ B c) (hJ : zJ B c ι) (hst : 100 ≤ (ι (B + 38) 0).toInt ∧ (ι (B + 38) 0).toInt ≤ 50000) (hM : zPsM B c ι) : zM l G yX12_digest cX12_digest 5 (some .long) ({ frames := 5, cells := 0, slots := 0, locals := 143 } : Room) [.ref (B + 38)] (z, τ, ρ, ι, κ) (fun v s => ∃ r ι2 κ2, v = some (.long r) ∧ s = (z, τ, ρ, ι2, κ2) ∧ zFq B ι ι2 ∧ zPsM B c ι2) 0 0 := by
  refine zM_of zCd_X12_digest (Nat.le_of_ble_eq_true rfl) ?_
  intro E X hR hE
  subst hE
  show zW E G 5 (z, τ, ρ, ι, κ) 0 0 0 [(0, .ref (B + 38))] []
  obtain ⟨h8, hJc, hm1, hm2, hm3, hm4, hm5⟩ := id hJ
  have L254 : ∀ (ι1 : Nat → Nat → Int32) (κ1 : Nat → Nat → Int64), zFq B ι ι1 → zPsM B c ι1 → zJm B c ι1 → ∀ (m : Nat) (i : Int32) (h : Int64), (2 - i.toInt).toNat < m → 0 ≤ i.toInt → zW E G 5 (z, τ, ρ, ι1, κ1) 0 0 254 [(0, .ref (B + 38)), (1, .long h), (3, .int i)] [] := by
    intro ι1 κ1 hf hM1 ⟨g1, g2, g3, g4, g5⟩ m
    induction m with
    | zero => intro i h h1; omega
    | succ m ih => ?_
    intro i h hm h0
    have L262 : ∀ (hi : i.toInt < 2) (m2 : Nat) (j : Int32) (h : Int64), (60 - j.toInt).toNat < m2 → 0 ≤ j.toInt → zW E G 5 (z, τ, ρ, ι1, κ1) 0 0 262 [(0, .ref (B + 38)), (1, .long h), (3, .int i), (4, .int j)] [] := by
      intro hi m2
      have hs := g4 i.toNatClampNeg (by have := zclN h0; omega)
      induction m2 with
      | zero => intro j h h1; omega
      | succ m2 ih2 => ?_
      intro j h hm2 hj0
      refine r_iload X (by rfl) dX12_digest_262 ?_
      refine r_aload_n X (by rfl) dX12_digest_264 ?_
      refine r_getR X dX12_digest_265 zF_X12_42 (zt hL 38 rfl) (zrf hL 45 rfl) ?_
      refine r_iload_n X (by rfl) dX12_digest_268 ?_
      refine r_iaload X dX12_digest_269 (zt hL 48 rfl) (vp_in_iff.mpr ⟨h0, by omega⟩) ?_
      refine r_icmp_ge X 299 dX12_digest_270 (by decide) (fun h270 => ?_) (fun h270 => ?_)
      · refine r_iinc X 1 (by decide) (by rfl) (by decide) dX12_digest_299 ?_
        refine r_goto X 254 dX12_digest_302 (by decide) ?_
        exact zW.loc3 (by rfl) (by rfl) (by rfl) (ih _ _ (by have e := zinc (x := i) (by omega); omega) (by have e := zinc (x := i) (by omega); omega))
      · refine r_ldc2 X zK_X12_276 dX12_digest_273 ?_
        refine r_lload_n X (by rfl) dX12_digest_276 ?_
        refine r_lmul X dX12_digest_277 ?_
        refine r_aload_n X (by rfl) dX12_digest_278 ?_
        refine r_getR X dX12_digest_279 zF_X12_45 (zt hL 38 rfl) (zrf hL 46 rfl) ?_
        refine r_bipush X 60 (by decide) dX12_digest_282 ?_
        refine r_iload_n X (by rfl) dX12_digest_284 ?_
        refine r_imul X dX12_digest_285 ?_
        refine r_iload X (by rfl) dX12_digest_286 ?_
        refine r_iadd X dX12_digest_288 ?_
        refine r_iaload X dX12_digest_289 (zt hL 49 rfl) (by have e60 := zix60 (x := i) (q := j) h0 (by omega) hj0 (by omega); exact vp_in_iff.mpr ⟨by omega, by omega⟩) ?_
        refine r_i2l X dX12_digest_290 ?_
        refine r_ladd X dX12_digest_291 ?_
        refine r_lstore_n X (by decide) dX12_digest_292 ?_
        refine r_iinc X 1 (by decide) (by rfl) (by decide) dX12_digest_293 ?_
        refine r_goto X 262 dX12_digest_296 (by decide) ?_
        exact zW.loc4 (by rfl) (by rfl) (by rfl) (by rfl) (ih2 _ _ (by have e := zinc (x := j) (by omega); omega) (by have e := zinc (x := j) (by omega); omega))
    refine r_iload_n X (by rfl) dX12_digest_254 ?_
    refine r_iconst X 2 (by decide) dX12_digest_255 ?_
    refine r_icmp_ge X 305 dX12_digest_256 (by decide) (fun h256 => ?_) (fun h256 => ?_)
    · rw [show Int32.toInt 2 = 2 from rfl] at h256
      refine r_lload_n X (by rfl) dX12_digest_305 ?_
      refine r_lreturn X hR dX12_digest_306 (Nat.zero_le _) (Nat.zero_le _) ?_
      exact ⟨_, _, _, rfl, rfl, hf, hM1⟩
    · rw [show Int32.toInt 2 = 2 from rfl] at h256
      refine r_iconst X 0 (by decide) dX12_digest_259 ?_
      refine r_istore X (by decide) dX12_digest_260 ?_
      exact zW.loc4 (by rfl) (by rfl) (by rfl) (by rfl) (L262 h256 61 _ _ (by decide) (by decide))
  have L224 : ∀ (ι1 : Nat → Nat → Int32) (κ1 : Nat → Nat → Int64), zFq B ι ι1 → zPsM B c ι1 → zJm B c ι1 → ∀ (m : Nat) (i : Int32) (h : Int64), (12 - i.toInt).toNat < m → 0 ≤ i.toInt → zW E G 5 (z, τ, ρ, ι1, κ1) 0 0 224 [(0, .ref (B + 38)), (1, .long h), (3, .int i)] [] := by
    intro ι1 κ1 hf hM1 ⟨g1, g2, g3, g4, g5⟩ m
    induction m with
    | zero => intro i h h1; omega
    | succ m ih => ?_
    intro i h hm h0
    refine r_iload_n X (by rfl) dX12_digest_224 ?_
    refine r_aload_n X (by rfl) dX12_digest_225 ?_
    refine r_getI X dX12_digest_226 zF_X12_218 (zt hL 38 rfl) ?_
    refine r_icmp_ge X 252 dX12_digest_229 (by decide) (fun h229 => ?_) (fun h229 => ?_)
    · refine r_iconst X 0 (by decide) dX12_digest_252 ?_
      refine r_istore_n X (by decide) dX12_digest_253 ?_
      exact zW.loc3 (by rfl) (by rfl) (by rfl) (L254 _ _ hf hM1 ⟨g1, g2, g3, g4, g5⟩ 3 _ _ (by decide) (by decide))
    · refine r_ldc2 X zK_X12_276 dX12_digest_232 ?_
      refine r_lload_n X (by rfl) dX12_digest_235 ?_
      refine r_lmul X dX12_digest_236 ?_
      refine r_aload_n X (by rfl) dX12_digest_237 ?_
      refine r_getR X dX12_digest_238 zF_X12_39 (zt hL 38 rfl) (zrf hL 44 rfl) ?_
      refine r_iload_n X (by rfl) dX12_digest_241 ?_
      refine r_iaload X dX12_digest_242 (zt hL 47 rfl) (vp_in_iff.mpr ⟨by omega, by omega⟩) ?_
      refine r_i2l X dX12_digest_243 ?_
      refine r_ladd X dX12_digest_244 ?_
      refine r_lstore_n X (by decide) dX12_digest_245 ?_
      refine r_iinc X 1 (by decide) (by rfl) (by decide) dX12_digest_246 ?_
      refine r_goto X 224 dX12_digest_249 (by decide) ?_
      exact zW.loc3 (by rfl) (by rfl) (by rfl) (ih _ _ (by have e := zinc (x := i) (by omega); omega) (by have e := zinc (x := i) (by omega); omega))
  have L33 : ∀ (m : Nat) (i : Int32) (h : Int64) (ι1 : Nat → Nat → Int32) (κ1 : Nat → Nat → Int64), (8 - i.toInt).toNat < m → 0 ≤ i.toInt → zFq B ι ι1 → zPsM B c ι1 → zW E G 5 (z, τ, ρ, ι1, κ1) 0 0 33 [(0, .ref (B + 38)), (1, .long h), (3, .int i)] [] := by
    intro m
    induction m with
    | zero => intro i h ι1 κ1 h1; omega
    | succ m ih => ?_
    intro i h ι1 κ1 hm h0 hf hM1
    have hst1 : 100 ≤ (ι1 (B + 38) 0).toInt ∧ (ι1 (B + 38) 0).toInt ≤ 50000 := by rw [hf (B + 38) 0 (by unfold zCq; omega)]; exact hst
    have hJ1 := zJ_fq hJ hf
    obtain ⟨-, -, g1, g2, g3, g4, g5⟩ := id hJ1
    have L118 : ∀ (hi : i.toInt < (c : Int)) (m2 : Nat) (j : Int32) (h : Int64), (32 - j.toInt).toNat < m2 → 0 ≤ j.toInt → zW E G 5 (z, τ, ρ, ι1, κ1) 0 0 118 [(0, .ref (B + 38)), (1, .long h), (3, .int i), (4, .int j)] [] := by
      intro hi m2
      have hin := zclN h0
      obtain ⟨-, -, hsp, -⟩ := g5 i.toNatClampNeg (by omega)
      have e0 := zix (x := i) (q := 0) h0 (by omega) (by decide) (by decide)
      rw [Int32.add_zero, show Int32.toInt 0 = 0 from rfl] at e0
      have e4 := zix (x := i) (q := ι1 (B + 43) i.toNatClampNeg) h0 (by omega) hsp.1 hsp.2
      induction m2 with
      | zero => intro j h h1; omega
      | succ m2 ih2 => ?_
      intro j h hm2 hj0
      refine r_iload X (by rfl) dX12_digest_118 ?_
      refine r_iconst X 4 (by decide) dX12_digest_120 ?_
      refine r_iload_n X (by rfl) dX12_digest_121 ?_
      refine r_imul X dX12_digest_122 ?_
      refine r_aload_n X (by rfl) dX12_digest_123 ?_
      refine r_getR X dX12_digest_124 zF_X12_27 (zt hL 38 rfl) (zrf hL 40 rfl) ?_
      refine r_iload_n X (by rfl) dX12_digest_127 ?_
      refine r_iaload X dX12_digest_128 (zt hL 43 rfl) (vp_in_iff.mpr ⟨h0, by omega⟩) ?_
      refine r_iadd X dX12_digest_129 ?_
      refine r_icmp_ge X 184 dX12_digest_130 (by decide) (fun h130 => ?_) (fun h130 => ?_)
      · refine r_ldc2 X zK_X12_276 dX12_digest_184 ?_
        refine r_lload_n X (by rfl) dX12_digest_187 ?_
        refine r_lmul X dX12_digest_188 ?_
        refine r_aload_n X (by rfl) dX12_digest_189 ?_
        refine r_iload_n X (by rfl) dX12_digest_190 ?_
        refine r_sipush X 200 (by decide) dX12_digest_191 ?_
        refine r_callV X dX12_digest_194 zLV_X12_182 zCd_X12_placeOf (e2_X12_placeOf _ G z τ ρ _ _ hL hJ1 _ ⟨h0, hi⟩ _ (by decide) hst1 hM1) (zt hL 38 rfl) ⟨by decide, rfl, rfl⟩ rfl rfl ⟨⟨rfl, rfl⟩, ⟨by decide, by decide⟩, ⟨Nat.le_of_ble_eq_true rfl, Nat.le_of_ble_eq_true rfl⟩, Nat.le_of_ble_eq_true rfl⟩ ?_
        rintro _ _ ⟨ι2, κ2, rfl, rfl, hq2, hM2⟩
        have hf2 := hq2
        generalize zPm _ _ _ _ = r2
        refine r_i2l X dX12_digest_197 ?_
        refine r_ladd X dX12_digest_198 ?_
        refine r_lstore_n X (by decide) dX12_digest_199 ?_
        refine r_ldc2 X zK_X12_276 dX12_digest_200 ?_
        refine r_lload_n X (by rfl) dX12_digest_203 ?_
        refine r_lmul X dX12_digest_204 ?_
        refine r_aload_n X (by rfl) dX12_digest_205 ?_
        refine r_iload_n X (by rfl) dX12_digest_206 ?_
        refine r_sipush X 300 (by decide) dX12_digest_207 ?_
        refine r_callV X dX12_digest_210 zLV_X12_182 zCd_X12_placeOf (e2_X12_placeOf _ G z τ ρ _ _ hL (zJ_fq hJ1 hf2) _ ⟨h0, hi⟩ _ (by decide) (by rw [hq2 _ _ (by unfold zCq; omega)]; exact hst1) hM2) (zt hL 38 rfl) ⟨by decide, rfl, rfl⟩ rfl rfl ⟨⟨rfl, rfl⟩, ⟨by decide, by decide⟩, ⟨Nat.le_of_ble_eq_true rfl, Nat.le_of_ble_eq_true rfl⟩, Nat.le_of_ble_eq_true rfl⟩ ?_
        rintro _ _ ⟨ι3, κ3, rfl, rfl, hq3, hM3⟩
        have hf3 := hq3
        generalize zPm _ _ _ _ = r3
        refine r_i2l X dX12_digest_213 ?_
        refine r_ladd X dX12_digest_214 ?_
        refine r_lstore_n X (by decide) dX12_digest_215 ?_
        refine r_iinc X 1 (by decide) (by rfl) (by decide) dX12_digest_216 ?_
        refine r_goto X 33 dX12_digest_219 (by decide) ?_
        exact zW.loc3 (by rfl) (by rfl) (by rfl) (ih _ _ _ _ (by have e := zinc (x := i) (by omega); omega) (by have e := zinc (x := i) (by omega); omega) ((hf.tr hf2).tr hf3) hM3)
      · refine r_ldc2 X zK_X12_276 dX12_digest_133 ?_
        refine r_lload_n X (by rfl) dX12_digest_136 ?_
        refine r_lmul X dX12_digest_137 ?_
        refine r_aload_n X (by rfl) dX12_digest_138 ?_
        refine r_getR X dX12_digest_139 zF_X12_30 (zt hL 38 rfl) (zrf hL 41 rfl) ?_
        refine r_iload X (by rfl) dX12_digest_142 ?_
        refine r_iaload X dX12_digest_144 (zt hL 44 rfl) (vp_in_iff.mpr ⟨by omega, by omega⟩) ?_
        refine r_i2l X dX12_digest_145 ?_
        refine r_ladd X dX12_digest_146 ?_
        refine r_lstore_n X (by decide) dX12_digest_147 ?_
        refine r_ldc2 X zK_X12_276 dX12_digest_148 ?_
        refine r_lload_n X (by rfl) dX12_digest_151 ?_
        refine r_lmul X dX12_digest_152 ?_
        refine r_aload_n X (by rfl) dX12_digest_153 ?_
        refine r_getR X dX12_digest_154 zF_X12_33 (zt hL 38 rfl) (zrf hL 42 rfl) ?_
        refine r_iload X (by rfl) dX12_digest_157 ?_
        refine r_iaload X dX12_digest_159 (zt hL 45 rfl) (vp_in_iff.mpr ⟨by omega, by omega⟩) ?_
        refine r_i2l X dX12_digest_160 ?_
        refine r_ladd X dX12_digest_161 ?_
        refine r_lstore_n X (by decide) dX12_digest_162 ?_
        refine r_ldc2 X zK_X12_276 dX12_digest_163 ?_
        refine r_lload_n X (by rfl) dX12_digest_166 ?_
        refine r_lmul X dX12_digest_167 ?_
        refine r_aload_n X (by rfl) dX12_digest_168 ?_
        refine r_getR X dX12_digest_169 zF_X12_36 (zt hL 38 rfl) (zrf hL 43 rfl) ?_
        refine r_iload X (by rfl) dX12_digest_172 ?_
        refine r_iaload X dX12_digest_174 (zt hL 46 rfl) (vp_in_iff.mpr ⟨by omega, by omega⟩) ?_
        refine r_i2l X dX12_digest_175 ?_
        refine r_ladd X dX12_digest_176 ?_
        refine r_lstore_n X (by decide) dX12_digest_177 ?_
        refine r_iinc X 1 (by decide) (by rfl) (by decide) dX12_digest_178 ?_
        refine r_goto X 118 dX12_digest_181 (by decide) ?_
        exact zW.loc4 (by rfl) (by rfl) (by rfl) (by rfl) (ih2 _ _ (by have e := zinc (x := j) (by omega); omega) (by have e := zinc (x := j) (by omega); omega))
    refine r_iload_n X (by rfl) dX12_digest_33 ?_
    refine r_aload_n X (by rfl) dX12_digest_34 ?_
    refine r_getI X dX12_digest_35 zF_X12_160 (zt hL 38 rfl) ?_
    refine r_icmp_ge X 222 dX12_digest_38 (by decide) (fun h38 => ?_) (fun h38 => ?_)
    · refine r_iconst X 0 (by decide) dX12_digest_222 ?_
      refine r_istore_n X (by decide) dX12_digest_223 ?_
      exact zW.loc3 (by rfl) (by rfl) (by rfl) (L224 _ _ hf hM1 ⟨g1, g2, g3, g4, g5⟩ 13 _ _ (by decide) (by decide))
    · refine r_ldc2 X zK_X12_276 dX12_digest_41 ?_
      refine r_lload_n X (by rfl) dX12_digest_44 ?_
      refine r_lmul X dX12_digest_45 ?_
      refine r_aload_n X (by rfl) dX12_digest_46 ?_
      refine r_getR X dX12_digest_47 zF_X12_13 (zt hL 38 rfl) (zrf hL 36 rfl) ?_
      refine r_iload_n X (by rfl) dX12_digest_50 ?_
      refine r_zaload X dX12_digest_51 (zt hL 39 rfl) (vp_in_iff.mpr ⟨by omega, by omega⟩) ?_
      refine r_if_eq X 59 dX12_digest_52 (by decide) (fun h52 => ?_) (fun h52 => ?_)
      · refine r_iconst X 0 (by decide) dX12_digest_59 ?_
        refine r_i2l X dX12_digest_60 ?_
        refine r_ladd X dX12_digest_61 ?_
        refine r_lstore_n X (by decide) dX12_digest_62 ?_
        refine r_ldc2 X zK_X12_276 dX12_digest_63 ?_
        refine r_lload_n X (by rfl) dX12_digest_66 ?_
        refine r_lmul X dX12_digest_67 ?_
        refine r_aload_n X (by rfl) dX12_digest_68 ?_
        refine r_getR X dX12_digest_69 zF_X12_17 (zt hL 38 rfl) (zrf hL 37 rfl) ?_
        refine r_iload_n X (by rfl) dX12_digest_72 ?_
        refine r_iaload X dX12_digest_73 (zt hL 40 rfl) (vp_in_iff.mpr ⟨by omega, by omega⟩) ?_
        refine r_i2l X dX12_digest_74 ?_
        refine r_ladd X dX12_digest_75 ?_
        refine r_lstore_n X (by decide) dX12_digest_76 ?_
        refine r_ldc2 X zK_X12_276 dX12_digest_77 ?_
        refine r_lload_n X (by rfl) dX12_digest_80 ?_
        refine r_lmul X dX12_digest_81 ?_
        refine r_aload_n X (by rfl) dX12_digest_82 ?_
        refine r_getR X dX12_digest_83 zF_X12_21 (zt hL 38 rfl) (zrf hL 38 rfl) ?_
        refine r_iload_n X (by rfl) dX12_digest_86 ?_
        refine r_iaload X dX12_digest_87 (zt hL 41 rfl) (vp_in_iff.mpr ⟨by omega, by omega⟩) ?_
        refine r_i2l X dX12_digest_88 ?_
        refine r_ladd X dX12_digest_89 ?_
        refine r_lstore_n X (by decide) dX12_digest_90 ?_
        refine r_ldc2 X zK_X12_276 dX12_digest_91 ?_
        refine r_lload_n X (by rfl) dX12_digest_94 ?_
        refine r_lmul X dX12_digest_95 ?_
        refine r_aload_n X (by rfl) dX12_digest_96 ?_
        refine r_getR X dX12_digest_97 zF_X12_24 (zt hL 38 rfl) (zrf hL 39 rfl) ?_
        refine r_iload_n X (by rfl) dX12_digest_100 ?_
        refine r_zaload X dX12_digest_101 (zt hL 42 rfl) (vp_in_iff.mpr ⟨by omega, by omega⟩) ?_
        refine r_if_eq X 109 dX12_digest_102 (by decide) (fun h102 => ?_) (fun h102 => ?_)
        · refine r_iconst X 0 (by decide) dX12_digest_109 ?_
          refine r_i2l X dX12_digest_110 ?_
          refine r_ladd X dX12_digest_111 ?_
          refine r_lstore_n X (by decide) dX12_digest_112 ?_
          refine r_iconst X 4 (by decide) dX12_digest_113 ?_
          refine r_iload_n X (by rfl) dX12_digest_114 ?_
          refine r_imul X dX12_digest_115 ?_
          refine r_istore X (by decide) dX12_digest_116 ?_
          exact zW.loc4 (by rfl) (by rfl) (by rfl) (by rfl) (L118 (by omega) 33 _ _ (by have e0 := zix (x := i) (q := 0) h0 (by omega) (by decide) (by decide); rw [Int32.add_zero, show Int32.toInt 0 = 0 from rfl] at e0; omega) (by have e0 := zix (x := i) (q := 0) h0 (by omega) (by decide) (by decide); rw [Int32.add_zero, show Int32.toInt 0 = 0 from rfl] at e0; omega))
        · refine r_iconst X 1 (by decide) dX12_digest_105 ?_
          refine r_goto X 110 dX12_digest_106 (by decide) ?_
          refine r_i2l X dX12_digest_110 ?_
          refine r_ladd X dX12_digest_111 ?_
          refine r_lstore_n X (by decide) dX12_digest_112 ?_
          refine r_iconst X 4 (by decide) dX12_digest_113 ?_
          refine r_iload_n X (by rfl) dX12_digest_114 ?_
          refine r_imul X dX12_digest_115 ?_
          refine r_istore X (by decide) dX12_digest_116 ?_
          exact zW.loc4 (by rfl) (by rfl) (by rfl) (by rfl) (L118 (by omega) 33 _ _ (by have e0 := zix (x := i) (q := 0) h0 (by omega) (by decide) (by decide); rw [Int32.add_zero, show Int32.toInt 0 = 0 from rfl] at e0; omega) (by have e0 := zix (x := i) (q := 0) h0 (by omega) (by decide) (by decide); rw [Int32.add_zero, show Int32.toInt 0 = 0 from rfl] at e0; omega))
      · refine r_iconst X 1 (by decide) dX12_digest_55 ?_
        refine r_goto X 60 dX12_digest_56 (by decide) ?_
        refine r_i2l X dX12_digest_60 ?_
        refine r_ladd X dX12_digest_61 ?_
        refine r_lstore_n X (by decide) dX12_digest_62 ?_
        refine r_ldc2 X zK_X12_276 dX12_digest_63 ?_
        refine r_lload_n X (by rfl) dX12_digest_66 ?_
        refine r_lmul X dX12_digest_67 ?_
        refine r_aload_n X (by rfl) dX12_digest_68 ?_
        refine r_getR X dX12_digest_69 zF_X12_17 (zt hL 38 rfl) (zrf hL 37 rfl) ?_
        refine r_iload_n X (by rfl) dX12_digest_72 ?_
        refine r_iaload X dX12_digest_73 (zt hL 40 rfl) (vp_in_iff.mpr ⟨by omega, by omega⟩) ?_
        refine r_i2l X dX12_digest_74 ?_
        refine r_ladd X dX12_digest_75 ?_
        refine r_lstore_n X (by decide) dX12_digest_76 ?_
        refine r_ldc2 X zK_X12_276 dX12_digest_77 ?_
        refine r_lload_n X (by rfl) dX12_digest_80 ?_
        refine r_lmul X dX12_digest_81 ?_
        refine r_aload_n X (by rfl) dX12_digest_82 ?_
        refine r_getR X dX12_digest_83 zF_X12_21 (zt hL 38 rfl) (zrf hL 38 rfl) ?_
        refine r_iload_n X (by rfl) dX12_digest_86 ?_
        refine r_iaload X dX12_digest_87 (zt hL 41 rfl) (vp_in_iff.mpr ⟨by omega, by omega⟩) ?_
        refine r_i2l X dX12_digest_88 ?_
        refine r_ladd X dX12_digest_89 ?_
        refine r_lstore_n X (by decide) dX12_digest_90 ?_
        refine r_ldc2 X zK_X12_276 dX12_digest_91 ?_
        refine r_lload_n X (by rfl) dX12_digest_94 ?_
        refine r_lmul X dX12_digest_95 ?_
        refine r_aload_n X (by rfl) dX12_digest_96 ?_
        refine r_getR X dX12_digest_97 zF_X12_24 (zt hL 38 rfl) (zrf hL 39 rfl) ?_
        refine r_iload_n X (by rfl) dX12_digest_100 ?_
        refine r_zaload X dX12_digest_101 (zt hL 42 rfl) (vp_in_iff.mpr ⟨by omega, by omega⟩) ?_
        refine r_if_eq X 109 dX12_digest_102 (by decide) (fun h102 => ?_) (fun h102 => ?_)
        · refine r_iconst X 0 (by decide) dX12_digest_109 ?_
          refine r_i2l X dX12_digest_110 ?_
          refine r_ladd X dX12_digest_111 ?_
          refine r_lstore_n X (by decide) dX12_digest_112 ?_
          refine r_iconst X 4 (by decide) dX12_digest_113 ?_
          refine r_iload_n X (by rfl) dX12_digest_114 ?_
          refine r_imul X dX12_digest_115 ?_
          refine r_istore X (by decide) dX12_digest_116 ?_
          exact zW.loc4 (by rfl) (by rfl) (by rfl) (by rfl) (L118 (by omega) 33 _ _ (by have e0 := zix (x := i) (q := 0) h0 (by omega) (by decide) (by decide); rw [Int32.add_zero, show Int32.toInt 0 = 0 from rfl] at e0; omega) (by have e0 := zix (x := i) (q := 0) h0 (by omega) (by decide) (by decide); rw [Int32.add_zero, show Int32.toInt 0 = 0 from rfl] at e0; omega))
        · refine r_iconst X 1 (by decide) dX12_digest_105 ?_
          refine r_goto X 110 dX12_digest_106 (by decide) ?_
          refine r_i2l X dX12_digest_110 ?_
          refine r_ladd X dX12_digest_111 ?_
          refine r_lstore_n X (by decide) dX12_digest_112 ?_
          refine r_iconst X 4 (by decide) dX12_digest_113 ?_
          refine r_iload_n X (by rfl) dX12_digest_114 ?_
          refine r_imul X dX12_digest_115 ?_
          refine r_istore X (by decide) dX12_digest_116 ?_
          exact zW.loc4 (by rfl) (by rfl) (by rfl) (by rfl) (L118 (by omega) 33 _ _ (by have e0 := zix (x := i) (q := 0) h0 (by omega) (by decide) (by decide); rw [Int32.add_zero, show Int32.toInt 0 = 0 from rfl] at e0; omega) (by have e0 := zix (x := i) (q := 0) h0 (by omega) (by decide) (by decide); rw [Int32.add_zero, show Int32.toInt 0 = 0 from rfl] at e0; omega))
  have L6 : ∀ (m : Nat) (i : Int32) (h : Int64), (7 - i.toInt).toNat < m → 0 ≤ i.toInt → zW E G 5 (z, τ, ρ, ι, κ) 0 0 6 [(0, .ref (B + 38)), (1, .long h), (3, .int i)] [] := by
    intro m
    induction m with
    | zero => intro i h h1; omega
    | succ m ih => ?_
    intro i h hm h0
    refine r_iload_n X (by rfl) dX12_digest_6 ?_
    refine r_bipush X 7 (by decide) dX12_digest_7 ?_
    refine r_icmp_ge X 31 dX12_digest_9 (by decide) (fun h9 => ?_) (fun h9 => ?_)
    · rw [show Int32.toInt 7 = 7 from rfl] at h9
      refine r_iconst X 0 (by decide) dX12_digest_31 ?_
      refine r_istore_n X (by decide) dX12_digest_32 ?_
      exact zW.loc3 (by rfl) (by rfl) (by rfl) (L33 9 _ _ _ _ (by decide) (by decide) zFq.rfl hM)
    · rw [show Int32.toInt 7 = 7 from rfl] at h9
      refine r_ldc2 X zK_X12_276 dX12_digest_12 ?_
      refine r_lload_n X (by rfl) dX12_digest_15 ?_
      refine r_lmul X dX12_digest_16 ?_
      refine r_aload_n X (by rfl) dX12_digest_17 ?_
      refine r_iload_n X (by rfl) dX12_digest_18 ?_
      refine r_callV X dX12_digest_19 zLV_X12_278 zCd_X12_count (c_X12_count _ G z τ ρ _ _ hL hJ _) (zt hL 38 rfl) ⟨by decide, rfl, rfl⟩ rfl rfl ⟨⟨rfl, rfl⟩, ⟨by decide, by decide⟩, ⟨Nat.le_of_ble_eq_true rfl, Nat.le_of_ble_eq_true rfl⟩, Nat.le_of_ble_eq_true rfl⟩ ?_
      rintro _ _ ⟨r1, rfl, rfl⟩
      refine r_i2l X dX12_digest_22 ?_
      refine r_ladd X dX12_digest_23 ?_
      refine r_lstore_n X (by decide) dX12_digest_24 ?_
      refine r_iinc X 1 (by decide) (by rfl) (by decide) dX12_digest_25 ?_
      refine r_goto X 6 dX12_digest_28 (by decide) ?_
      exact zW.loc3 (by rfl) (by rfl) (by rfl) (ih _ _ (by have e := zinc (x := i) (by omega); omega) (by have e := zinc (x := i) (by omega); omega))
  refine r_ldc2 X zK_X12_274 dX12_digest_0 ?_
  refine r_lstore_n X (by decide) dX12_digest_3 ?_
  refine r_iconst X 0 (by decide) dX12_digest_4 ?_
  refine r_istore_n X (by decide) dX12_digest_5 ?_
  exact zW.loc3 (by rfl) (by rfl) (by rfl) (L6 8 _ _ (by decide) (by decide))
