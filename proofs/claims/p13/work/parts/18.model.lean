/-! the model: SCALES (wip/gen/spec_h.py) -/
set_option maxHeartbeats 4000000 in
set_option maxRecDepth 100000 in
theorem c_X12_isScale (l : Launch) (G : zG) (z : Nat) (τ : Nat → Option (Nat × Nat)) (ρ : Nat → Nat → Option Nat) (ι : Nat → Nat → Int32) (κ : Nat → Nat → Int64) {B c : Nat} (hL : zLay τ ρ B c) (hJ : zJ B c ι) (x : Int32) : zM l G yX12_isScale cX12_isScale 2 (some .boolean) ({ frames := 1, cells := 0, slots := 0, locals := 25 } : Room) [.ref (B + 38), .int x] (z, τ, ρ, ι, κ) (fun v s => v = some (.int (if 0 ≤ x.toInt ∧ x.toInt < (c : Int) then 1 else 0)) ∧ s = (z, τ, ρ, ι, κ)) 0 0 := by
  refine zM_of zCd_X12_isScale (Nat.le_of_ble_eq_true rfl) ?_
  intro E X hR hE
  subst hE
  show zW E G 2 (z, τ, ρ, ι, κ) 0 0 0 [(0, .ref (B + 38)), (1, .int x)] []
  obtain ⟨h8, hJc, hm1, hm2, hm3, hm4, hm5⟩ := id hJ
  have e1 := zsubI (x := ι (B + 38) 1) (y := 1) (by rw [hm1, show Int32.toInt 1 = 1 from rfl]; omega) (by rw [hm1, show Int32.toInt 1 = 1 from rfl]; omega)
  rw [hm1, show Int32.toInt 1 = 1 from rfl] at e1
  refine r_iload_n X (by rfl) dX12_isScale_0 ?_
  refine r_i2l X dX12_isScale_1 ?_
  refine r_lconst X 0 (by decide) dX12_isScale_2 ?_
  refine r_aload_n X (by rfl) dX12_isScale_3 ?_
  refine r_getI X dX12_isScale_4 zF_X12_160 (zt hL 38 rfl) ?_
  refine r_iconst X 1 (by decide) dX12_isScale_7 ?_
  refine r_isub X dX12_isScale_8 ?_
  refine r_i2l X dX12_isScale_9 ?_
  refine r_callS X dX12_isScale_10 zLS_X12_163 zCd_X12_in (c_X12_in _ G z τ ρ _ _ _ _ _) rfl rfl ⟨⟨rfl, rfl⟩, ⟨by decide, by decide⟩, ⟨Nat.le_of_ble_eq_true rfl, Nat.le_of_ble_eq_true rfl⟩, Nat.le_of_ble_eq_true rfl⟩ ?_
  rintro _ _ ⟨rfl, rfl⟩
  rw [Int32.toInt_toInt64, Int32.toInt_toInt64, e1, show Int64.toInt 0 = 0 from rfl]
  refine r_ireturn X hR dX12_isScale_13 (by split <;> rfl) (Nat.zero_le _) (Nat.zero_le _) ?_
  exact ⟨by
    by_cases q : 0 ≤ x.toInt ∧ x.toInt < (c : Int)
    · rw [if_pos q, if_pos ⟨q.1, by omega⟩]
    · rw [if_neg q, if_neg (fun h => q ⟨h.1, by omega⟩)], rfl⟩
set_option maxHeartbeats 4000000 in
set_option maxRecDepth 100000 in
theorem c_X12_isNumber (l : Launch) (G : zG) (z : Nat) (τ : Nat → Option (Nat × Nat)) (ρ : Nat → Nat → Option Nat) (ι : Nat → Nat → Int32) (κ : Nat → Nat → Int64) (x : Int32) : zM l G yX12_isNumber cX12_isNumber 1 (some .boolean) ({ frames := 1, cells := 0, slots := 0, locals := 25 } : Room) [.int x] (z, τ, ρ, ι, κ) (fun v s => v = some (.int (if 100 ≤ x.toInt ∧ x.toInt ≤ 100000 then 1 else 0)) ∧ s = (z, τ, ρ, ι, κ)) 0 0 := by
  refine zM_of zCd_X12_isNumber (Nat.le_of_ble_eq_true rfl) ?_
  intro E X hR hE
  subst hE
  show zW E G 1 (z, τ, ρ, ι, κ) 0 0 0 [(0, .int x)] []
  refine r_iload_n X (by rfl) dX12_isNumber_0 ?_
  refine r_i2l X dX12_isNumber_1 ?_
  refine r_ldc2 X zK_X12_149 dX12_isNumber_2 ?_
  refine r_ldc2 X zK_X12_167 dX12_isNumber_5 ?_
  refine r_callS X dX12_isNumber_8 zLS_X12_163 zCd_X12_in (c_X12_in _ G z τ ρ _ _ _ _ _) rfl rfl ⟨⟨rfl, rfl⟩, ⟨by decide, by decide⟩, ⟨Nat.le_of_ble_eq_true rfl, Nat.le_of_ble_eq_true rfl⟩, Nat.le_of_ble_eq_true rfl⟩ ?_
  rintro _ _ ⟨rfl, rfl⟩
  rw [Int32.toInt_toInt64, show Int64.toInt 100 = 100 from rfl, show Int64.toInt 100000 = 100000 from rfl]
  refine r_ireturn X hR dX12_isNumber_11 (by split <;> rfl) (Nat.zero_le _) (Nat.zero_le _) ?_
  exact ⟨rfl, rfl⟩
set_option maxHeartbeats 4000000 in
set_option maxRecDepth 100000 in
theorem c_X12_isPlace (l : Launch) (G : zG) (z : Nat) (τ : Nat → Option (Nat × Nat)) (ρ : Nat → Nat → Option Nat) (ι : Nat → Nat → Int32) (κ : Nat → Nat → Int64) (x : Int32) : zM l G yX12_isPlace cX12_isPlace 1 (some .boolean) ({ frames := 1, cells := 0, slots := 0, locals := 25 } : Room) [.int x] (z, τ, ρ, ι, κ) (fun v s => v = some (.int (if -1000000 ≤ x.toInt ∧ x.toInt ≤ 1000000 then 1 else 0)) ∧ s = (z, τ, ρ, ι, κ)) 0 0 := by
  refine zM_of zCd_X12_isPlace (Nat.le_of_ble_eq_true rfl) ?_
  intro E X hR hE
  subst hE
  show zW E G 1 (z, τ, ρ, ι, κ) 0 0 0 [(0, .int x)] []
  refine r_iload_n X (by rfl) dX12_isPlace_0 ?_
  refine r_i2l X dX12_isPlace_1 ?_
  refine r_ldc2 X zK_X12_209 dX12_isPlace_2 ?_
  refine r_ldc2 X zK_X12_211 dX12_isPlace_5 ?_
  refine r_callS X dX12_isPlace_8 zLS_X12_163 zCd_X12_in (c_X12_in _ G z τ ρ _ _ _ _ _) rfl rfl ⟨⟨rfl, rfl⟩, ⟨by decide, by decide⟩, ⟨Nat.le_of_ble_eq_true rfl, Nat.le_of_ble_eq_true rfl⟩, Nat.le_of_ble_eq_true rfl⟩ ?_
  rintro _ _ ⟨rfl, rfl⟩
  rw [Int32.toInt_toInt64, show Int64.toInt (-1000000) = (-1000000) from rfl, show Int64.toInt 1000000 = 1000000 from rfl]
  refine r_ireturn X hR dX12_isPlace_11 (by split <;> rfl) (Nat.zero_le _) (Nat.zero_le _) ?_
  exact ⟨rfl, rfl⟩
set_option maxHeartbeats 4000000 in
set_option maxRecDepth 100000 in
theorem c_X12_isPower (l : Launch) (G : zG) (z : Nat) (τ : Nat → Option (Nat × Nat)) (ρ : Nat → Nat → Option Nat) (ι : Nat → Nat → Int32) (κ : Nat → Nat → Int64) (x : Int32) : zM l G yX12_isPower cX12_isPower 1 (some .boolean) ({ frames := 1, cells := 0, slots := 0, locals := 25 } : Room) [.int x] (z, τ, ρ, ι, κ) (fun v s => v = some (.int (if -8 ≤ x.toInt ∧ x.toInt ≤ 8 then 1 else 0)) ∧ s = (z, τ, ρ, ι, κ)) 0 0 := by
  refine zM_of zCd_X12_isPower (Nat.le_of_ble_eq_true rfl) ?_
  intro E X hR hE
  subst hE
  show zW E G 1 (z, τ, ρ, ι, κ) 0 0 0 [(0, .int x)] []
  refine r_iload_n X (by rfl) dX12_isPower_0 ?_
  refine r_i2l X dX12_isPower_1 ?_
  refine r_ldc2 X zK_X12_245 dX12_isPower_2 ?_
  refine r_ldc2 X zK_X12_247 dX12_isPower_5 ?_
  refine r_callS X dX12_isPower_8 zLS_X12_163 zCd_X12_in (c_X12_in _ G z τ ρ _ _ _ _ _) rfl rfl ⟨⟨rfl, rfl⟩, ⟨by decide, by decide⟩, ⟨Nat.le_of_ble_eq_true rfl, Nat.le_of_ble_eq_true rfl⟩, Nat.le_of_ble_eq_true rfl⟩ ?_
  rintro _ _ ⟨rfl, rfl⟩
  rw [Int32.toInt_toInt64, show Int64.toInt (-8) = (-8) from rfl, show Int64.toInt 8 = 8 from rfl]
  refine r_ireturn X hR dX12_isPower_11 (by split <;> rfl) (Nat.zero_le _) (Nat.zero_le _) ?_
  exact ⟨rfl, rfl⟩
set_option maxHeartbeats 4000000 in
set_option maxRecDepth 100000 in
theorem c_X12_isStrip (l : Launch) (G : zG) (z : Nat) (τ : Nat → Option (Nat × Nat)) (ρ : Nat → Nat → Option Nat) (ι : Nat → Nat → Int32) (κ : Nat → Nat → Int64) (x : Int32) : zM l G yX12_isStrip cX12_isStrip 1 (some .boolean) ({ frames := 1, cells := 0, slots := 0, locals := 25 } : Room) [.int x] (z, τ, ρ, ι, κ) (fun v s => v = some (.int (if 0 ≤ x.toInt ∧ x.toInt ≤ 1 then 1 else 0)) ∧ s = (z, τ, ρ, ι, κ)) 0 0 := by
  refine zM_of zCd_X12_isStrip (Nat.le_of_ble_eq_true rfl) ?_
  intro E X hR hE
  subst hE
  show zW E G 1 (z, τ, ρ, ι, κ) 0 0 0 [(0, .int x)] []
  refine r_iload_n X (by rfl) dX12_isStrip_0 ?_
  refine r_i2l X dX12_isStrip_1 ?_
  refine r_lconst X 0 (by decide) dX12_isStrip_2 ?_
  refine r_lconst X 1 (by decide) dX12_isStrip_3 ?_
  refine r_callS X dX12_isStrip_4 zLS_X12_163 zCd_X12_in (c_X12_in _ G z τ ρ _ _ _ _ _) rfl rfl ⟨⟨rfl, rfl⟩, ⟨by decide, by decide⟩, ⟨Nat.le_of_ble_eq_true rfl, Nat.le_of_ble_eq_true rfl⟩, Nat.le_of_ble_eq_true rfl⟩ ?_
  rintro _ _ ⟨rfl, rfl⟩
  rw [Int32.toInt_toInt64, show Int64.toInt 0 = 0 from rfl, show Int64.toInt 1 = 1 from rfl]
  refine r_ireturn X hR dX12_isStrip_7 (by split <;> rfl) (Nat.zero_le _) (Nat.zero_le _) ?_
  exact ⟨rfl, rfl⟩
set_option maxHeartbeats 4000000 in
set_option maxRecDepth 100000 in
theorem c_X12_rule (l : Launch) (G : zG) (z : Nat) (τ : Nat → Option (Nat × Nat)) (ρ : Nat → Nat → Option Nat) (ι : Nat → Nat → Int32) (κ : Nat → Nat → Int64) {B c : Nat} (hL : zLay τ ρ B c) (hJ : zJ B c ι) (x : Int32) : zM l G yX12_rule cX12_rule 3 (some .int) ({ frames := 1, cells := 0, slots := 0, locals := 25 } : Room) [.ref (B + 38), .int x] (z, τ, ρ, ι, κ) (fun v s => (¬ (100 ≤ x.toInt ∧ x.toInt ≤ 50000) ∧ v = some (.int (-2)) ∧ s = (z, τ, ρ, ι, κ)) ∨ ((100 ≤ x.toInt ∧ x.toInt ≤ 50000) ∧ v = some (.int (ι (B + 38) 0)) ∧ s = (z, τ, ρ, zu ι (B + 38) 0 x, κ))) 0 0 := by
  refine zM_of zCd_X12_rule (Nat.le_of_ble_eq_true rfl) ?_
  intro E X hR hE
  subst hE
  show zW E G 3 (z, τ, ρ, ι, κ) 0 0 0 [(0, .ref (B + 38)), (1, .int x)] []
  refine r_iload_n X (by rfl) dX12_rule_0 ?_
  refine r_i2l X dX12_rule_1 ?_
  refine r_ldc2 X zK_X12_149 dX12_rule_2 ?_
  refine r_ldc2 X zK_X12_169 dX12_rule_5 ?_
  refine r_callS X dX12_rule_8 zLS_X12_163 zCd_X12_in (c_X12_in _ G z τ ρ _ _ _ _ _) rfl rfl ⟨⟨rfl, rfl⟩, ⟨by decide, by decide⟩, ⟨Nat.le_of_ble_eq_true rfl, Nat.le_of_ble_eq_true rfl⟩, Nat.le_of_ble_eq_true rfl⟩ ?_
  rintro _ _ ⟨rfl, rfl⟩
  rw [Int32.toInt_toInt64, show Int64.toInt 100 = 100 from rfl, show Int64.toInt 50000 = 50000 from rfl]
  refine r_if_ne X 17 dX12_rule_11 (by decide) (fun h11 => ?_) (fun h11 => ?_)
  · refine r_aload_n X (by rfl) dX12_rule_17 ?_
    refine r_getI X dX12_rule_18 zF_X12_7 (zt hL 38 rfl) ?_
    refine r_istore_n X (by decide) dX12_rule_21 ?_
    refine r_aload_n X (by rfl) dX12_rule_22 ?_
    refine r_iload_n X (by rfl) dX12_rule_23 ?_
    refine r_putI X dX12_rule_24 zF_X12_7 (zt hL 38 rfl) rfl rfl ?_
    refine r_iload_n X (by rfl) dX12_rule_27 ?_
    refine r_ireturn X hR dX12_rule_28 rfl (Nat.zero_le _) (Nat.zero_le _) ?_
    exact Or.inr ⟨zif1 h11, rfl, rfl⟩
  · refine r_bipush X (-2) (by decide) dX12_rule_14 ?_
    refine r_ireturn X hR dX12_rule_16 rfl (Nat.zero_le _) (Nat.zero_le _) ?_
    exact Or.inl ⟨zif0 h11, rfl, rfl⟩
set_option maxHeartbeats 4000000 in
set_option maxRecDepth 100000 in
theorem c_X12_off (l : Launch) (G : zG) (z : Nat) (τ : Nat → Option (Nat × Nat)) (ρ : Nat → Nat → Option Nat) (ι : Nat → Nat → Int32) (κ : Nat → Nat → Int64) {B c : Nat} (hL : zLay τ ρ B c) (hJ : zJ B c ι) (x : Int32) : zM l G yX12_off cX12_off 3 (some .int) ({ frames := 1, cells := 0, slots := 0, locals := 25 } : Room) [.ref (B + 38), .int x] (z, τ, ρ, ι, κ) (fun v s => (¬ (-200000 ≤ x.toInt ∧ x.toInt ≤ 200000) ∧ v = some (.int (-2000000000)) ∧ s = (z, τ, ρ, ι, κ)) ∨ ((-200000 ≤ x.toInt ∧ x.toInt ≤ 200000) ∧ v = some (.int (ι (B + 38) 10)) ∧ s = (z, τ, ρ, zu ι (B + 38) 10 x, κ))) 0 0 := by
  refine zM_of zCd_X12_off (Nat.le_of_ble_eq_true rfl) ?_
  intro E X hR hE
  subst hE
  show zW E G 3 (z, τ, ρ, ι, κ) 0 0 0 [(0, .ref (B + 38)), (1, .int x)] []
  refine r_iload_n X (by rfl) dX12_off_0 ?_
  refine r_i2l X dX12_off_1 ?_
  refine r_ldc2 X zK_X12_202 dX12_off_2 ?_
  refine r_ldc2 X zK_X12_204 dX12_off_5 ?_
  refine r_callS X dX12_off_8 zLS_X12_163 zCd_X12_in (c_X12_in _ G z τ ρ _ _ _ _ _) rfl rfl ⟨⟨rfl, rfl⟩, ⟨by decide, by decide⟩, ⟨Nat.le_of_ble_eq_true rfl, Nat.le_of_ble_eq_true rfl⟩, Nat.le_of_ble_eq_true rfl⟩ ?_
  rintro _ _ ⟨rfl, rfl⟩
  rw [Int32.toInt_toInt64, show Int64.toInt (-200000) = (-200000) from rfl, show Int64.toInt 200000 = 200000 from rfl]
  refine r_if_ne X 17 dX12_off_11 (by decide) (fun h11 => ?_) (fun h11 => ?_)
  · refine r_aload_n X (by rfl) dX12_off_17 ?_
    refine r_getI X dX12_off_18 zF_X12_206 (zt hL 38 rfl) ?_
    refine r_istore_n X (by decide) dX12_off_21 ?_
    refine r_aload_n X (by rfl) dX12_off_22 ?_
    refine r_iload_n X (by rfl) dX12_off_23 ?_
    refine r_putI X dX12_off_24 zF_X12_206 (zt hL 38 rfl) rfl rfl ?_
    refine r_iload_n X (by rfl) dX12_off_27 ?_
    refine r_ireturn X hR dX12_off_28 rfl (Nat.zero_le _) (Nat.zero_le _) ?_
    exact Or.inr ⟨zif1 h11, rfl, rfl⟩
  · refine r_ldc X zK_X12_186 dX12_off_14 ?_
    refine r_ireturn X hR dX12_off_16 rfl (Nat.zero_le _) (Nat.zero_le _) ?_
    exact Or.inl ⟨zif0 h11, rfl, rfl⟩
set_option maxHeartbeats 4000000 in
set_option maxRecDepth 100000 in
theorem c_X12_clear (l : Launch) (G : zG) (z : Nat) (τ : Nat → Option (Nat × Nat)) (ρ : Nat → Nat → Option Nat) (ι : Nat → Nat → Int32) (κ : Nat → Nat → Int64) {B c : Nat} (hL : zLay τ ρ B c) (hJ : zJ B c ι) : zM l G yX12_clear cX12_clear 2 (some .int) ({ frames := 0, cells := 0, slots := 0, locals := 0 } : Room) [.ref (B + 38)] (z, τ, ρ, ι, κ) (fun v s => v = some (.int (ι (B + 38) 11)) ∧ s = (z, τ, ρ, zu ι (B + 38) 11 0, κ)) 0 0 := by
  refine zM_of zCd_X12_clear (Nat.le_of_ble_eq_true rfl) ?_
  intro E X hR hE
  subst hE
  show zW E G 2 (z, τ, ρ, ι, κ) 0 0 0 [(0, .ref (B + 38))] []
  refine r_aload_n X (by rfl) dX12_clear_0 ?_
  refine r_getI X dX12_clear_1 zF_X12_218 (zt hL 38 rfl) ?_
  refine r_istore_n X (by decide) dX12_clear_4 ?_
  refine r_aload_n X (by rfl) dX12_clear_5 ?_
  refine r_iconst X 0 (by decide) dX12_clear_6 ?_
  refine r_putI X dX12_clear_7 zF_X12_218 (zt hL 38 rfl) rfl rfl ?_
  refine r_iload_n X (by rfl) dX12_clear_10 ?_
  refine r_ireturn X hR dX12_clear_11 rfl (Nat.zero_le _) (Nat.zero_le _) ?_
  exact ⟨rfl, rfl⟩
set_option maxHeartbeats 4000000 in
set_option maxRecDepth 100000 in
theorem c_X12_factor (l : Launch) (G : zG) (z : Nat) (τ : Nat → Option (Nat × Nat)) (ρ : Nat → Nat → Option Nat) (ι : Nat → Nat → Int32) (κ : Nat → Nat → Int64) {B c : Nat} (hL : zLay τ ρ B c) (hJ : zJ B c ι) (x : Int32) : zM l G yX12_factor cX12_factor 2 (some .int) ({ frames := 1, cells := 0, slots := 0, locals := 25 } : Room) [.ref (B + 38), .int x] (z, τ, ρ, ι, κ) (fun v s => (¬ (100 ≤ x.toInt ∧ x.toInt ≤ 999) ∧ v = some (.int (-2)) ∧ s = (z, τ, ρ, ι, κ)) ∨ ((100 ≤ x.toInt ∧ x.toInt ≤ 999) ∧ ι (B + 38) 11 = 12 ∧ v = some (.int (-4)) ∧ s = (z, τ, ρ, ι, κ)) ∨ ((100 ≤ x.toInt ∧ x.toInt ≤ 999) ∧ ¬ ι (B + 38) 11 = 12 ∧ v = some (.int (ι (B + 38) 11 + 1)) ∧ s = (z, τ, ρ, zu (zu ι (B + 47) (ι (B + 38) 11).toNatClampNeg x) (B + 38) 11 (ι (B + 38) 11 + 1), κ))) 0 0 := by
  refine zM_of zCd_X12_factor (Nat.le_of_ble_eq_true rfl) ?_
  intro E X hR hE
  subst hE
  show zW E G 2 (z, τ, ρ, ι, κ) 0 0 0 [(0, .ref (B + 38)), (1, .int x)] []
  obtain ⟨h8, hJc, hm1, hm2, hm3, hm4, hm5⟩ := id hJ
  refine r_iload_n X (by rfl) dX12_factor_0 ?_
  refine r_i2l X dX12_factor_1 ?_
  refine r_ldc2 X zK_X12_149 dX12_factor_2 ?_
  refine r_ldc2 X zK_X12_216 dX12_factor_5 ?_
  refine r_callS X dX12_factor_8 zLS_X12_163 zCd_X12_in (c_X12_in _ G z τ ρ _ _ _ _ _) rfl rfl ⟨⟨rfl, rfl⟩, ⟨by decide, by decide⟩, ⟨Nat.le_of_ble_eq_true rfl, Nat.le_of_ble_eq_true rfl⟩, Nat.le_of_ble_eq_true rfl⟩ ?_
  rintro _ _ ⟨rfl, rfl⟩
  rw [Int32.toInt_toInt64, show Int64.toInt 100 = 100 from rfl, show Int64.toInt 999 = 999 from rfl]
  refine r_if_ne X 17 dX12_factor_11 (by decide) (fun h11 => ?_) (fun h11 => ?_)
  · refine r_aload_n X (by rfl) dX12_factor_17 ?_
    refine r_getI X dX12_factor_18 zF_X12_218 (zt hL 38 rfl) ?_
    refine r_bipush X 12 (by decide) dX12_factor_21 ?_
    refine r_icmp_ne X 29 dX12_factor_23 (by decide) (fun h23 => ?_) (fun h23 => ?_)
    · have hlt : (ι (B + 38) 11).toInt < 12 := by
        rcases Int.lt_or_eq_of_le hm2.2 with q | q
        · exact q
        · exact absurd (Int32.toInt_inj.mp (by rw [q]; rfl)) h23
      refine r_aload_n X (by rfl) dX12_factor_29 ?_
      refine r_getR X dX12_factor_30 zF_X12_39 (zt hL 38 rfl) (zrf hL 44 rfl) ?_
      refine r_aload_n X (by rfl) dX12_factor_33 ?_
      refine r_getI X dX12_factor_34 zF_X12_218 (zt hL 38 rfl) ?_
      refine r_iload_n X (by rfl) dX12_factor_37 ?_
      refine r_iastore X dX12_factor_38 (zt hL 47 rfl) (vp_in_iff.mpr ⟨hm2.1, hlt⟩) ?_
      refine r_aload_n X (by rfl) dX12_factor_39 ?_
      refine r_dup X rfl dX12_factor_40 ?_
      refine r_getI X dX12_factor_41 zF_X12_218 (zt hL 38 rfl) ?_
      refine r_iconst X 1 (by decide) dX12_factor_44 ?_
      refine r_iadd X dX12_factor_45 ?_
      refine r_putI X dX12_factor_46 zF_X12_218 (zt hL 38 rfl) rfl rfl ?_
      refine r_aload_n X (by rfl) dX12_factor_49 ?_
      refine r_getI X dX12_factor_50 zF_X12_218 (zt hL 38 rfl) ?_
      refine r_ireturn X hR dX12_factor_53 rfl (Nat.zero_le _) (Nat.zero_le _) ?_
      rw [zu_a (show B + 38 ≠ B + 47 by omega)]
      exact Or.inr (Or.inr ⟨zif1 h11, h23, by rw [zu_s], rfl⟩)
    · refine r_bipush X (-4) (by decide) dX12_factor_26 ?_
      refine r_ireturn X hR dX12_factor_28 rfl (Nat.zero_le _) (Nat.zero_le _) ?_
      exact Or.inr (Or.inl ⟨zif1 h11, h23, rfl, rfl⟩)
  · refine r_bipush X (-2) (by decide) dX12_factor_14 ?_
    refine r_ireturn X hR dX12_factor_16 rfl (Nat.zero_le _) (Nat.zero_le _) ?_
    exact Or.inl ⟨zif0 h11, rfl, rfl⟩
set_option maxHeartbeats 4000000 in
set_option maxRecDepth 100000 in
theorem c_X12_spanMarks (l : Launch) (G : zG) (z : Nat) (τ : Nat → Option (Nat × Nat)) (ρ : Nat → Nat → Option Nat) (ι : Nat → Nat → Int32) (κ : Nat → Nat → Int64) {B c : Nat} (hL : zLay τ ρ B c) (hJ : zJ B c ι) (x : Int32) (x0 : 0 ≤ x.toInt) (x1 : x.toInt < 32) (hS : zSp B ι x.toNatClampNeg) : zM l G yX12_spanMarks cX12_spanMarks 2 (some .int) ({ frames := 0, cells := 0, slots := 0, locals := 0 } : Room) [.ref (B + 38), .int x] (z, τ, ρ, ι, κ) (fun v s => ∃ r, v = some (.int r) ∧ r.toInt = zSm B ι x.toNatClampNeg ∧ 1 ≤ r.toInt ∧ r.toInt ≤ 99901 ∧ s = (z, τ, ρ, ι, κ)) 0 0 := by
  refine zM_of zCd_X12_spanMarks (Nat.le_of_ble_eq_true rfl) ?_
  intro E X hR hE
  subst hE
  show zW E G 2 (z, τ, ρ, ι, κ) 0 0 0 [(0, .ref (B + 38)), (1, .int x)] []
  have hb := zSm_b hS
  have hv := zSm_v hS.1 hS.2.1 hS.2.2.1 hS.2.2.2.1
  change _ = zSm B ι x.toNatClampNeg at hv
  refine r_aload_n X (by rfl) dX12_spanMarks_0 ?_
  refine r_getR X dX12_spanMarks_1 zF_X12_33 (zt hL 38 rfl) (zrf hL 42 rfl) ?_
  refine r_iload_n X (by rfl) dX12_spanMarks_4 ?_
  refine r_iaload X dX12_spanMarks_5 (zt hL 45 rfl) (vp_in_iff.mpr ⟨x0, by omega⟩) ?_
  refine r_aload_n X (by rfl) dX12_spanMarks_6 ?_
  refine r_getR X dX12_spanMarks_7 zF_X12_30 (zt hL 38 rfl) (zrf hL 41 rfl) ?_
  refine r_iload_n X (by rfl) dX12_spanMarks_10 ?_
  refine r_iaload X dX12_spanMarks_11 (zt hL 44 rfl) (vp_in_iff.mpr ⟨x0, by omega⟩) ?_
  refine r_isub X dX12_spanMarks_12 ?_
  refine r_aload_n X (by rfl) dX12_spanMarks_13 ?_
  refine r_getR X dX12_spanMarks_14 zF_X12_36 (zt hL 38 rfl) (zrf hL 43 rfl) ?_
  refine r_iload_n X (by rfl) dX12_spanMarks_17 ?_
  refine r_iaload X dX12_spanMarks_18 (zt hL 46 rfl) (vp_in_iff.mpr ⟨x0, by omega⟩) ?_
  refine r_idiv X (fun q => by have := hS.2.2.2.1; rw [q, show Int32.toInt 0 = 0 from rfl] at this; omega) dX12_spanMarks_19 ?_
  refine r_iconst X 1 (by decide) dX12_spanMarks_20 ?_
  refine r_iadd X dX12_spanMarks_21 ?_
  refine r_ireturn X hR dX12_spanMarks_22 rfl (Nat.zero_le _) (Nat.zero_le _) ?_
  exact ⟨_, rfl, hv, by omega, by omega, rfl⟩
set_option maxHeartbeats 4000000 in
set_option maxRecDepth 100000 in
theorem c_X12_marksOf (l : Launch) (G : zG) (z : Nat) (τ : Nat → Option (Nat × Nat)) (ρ : Nat → Nat → Option Nat) (ι : Nat → Nat → Int32) (κ : Nat → Nat → Int64) {B c : Nat} (hL : zLay τ ρ B c) (hJ : zJ B c ι) (x : Int32) (hx : 0 ≤ x.toInt ∧ x.toInt < (c : Int)) : zM l G yX12_marksOf cX12_marksOf 4 (some .int) ({ frames := 1, cells := 0, slots := 0, locals := 21 } : Room) [.ref (B + 38), .int x] (z, τ, ρ, ι, κ) (fun v s => ∃ r, v = some (.int r) ∧ r.toInt = zMk B ι x.toNatClampNeg (ι (B + 43) x.toNatClampNeg).toNatClampNeg ∧ 0 ≤ r.toInt ∧ r.toInt ≤ 399604 ∧ s = (z, τ, ρ, ι, κ)) 0 0 := by
  refine zM_of zCd_X12_marksOf (Nat.le_of_ble_eq_true rfl) ?_
  intro E X hR hE
  subst hE
  show zW E G 4 (z, τ, ρ, ι, κ) 0 0 0 [(0, .ref (B + 38)), (1, .int x)] []
  obtain ⟨h8, hJc, hm1, hm2, hm3, hm4, hm5⟩ := id hJ
  have hj := hm5 x.toNatClampNeg (by have := zclN hx.1; omega)
  have hjc := zclN hx.1
  obtain ⟨hp, hfo, hsp, hss⟩ := id hj
  have hsn := zclN hsp.1
  have L4 : ∀ (m : Nat) (q p : Int32), (4 - q.toInt).toNat < m → 0 ≤ q.toInt → q.toInt ≤ (ι (B + 43) x.toNatClampNeg).toInt → p.toInt = zMk B ι x.toNatClampNeg q.toNatClampNeg → zW E G 4 (z, τ, ρ, ι, κ) 0 0 4 [(0, .ref (B + 38)), (1, .int x), (2, .int p), (3, .int q)] [] := by
    intro m
    induction m with
    | zero => intro q p h; omega
    | succ m ih => ?_
    intro q p hm h0 h1 hp1
    have hq := zclN h0
    have hb := zMk_b (n := q.toNatClampNeg) (fun k hk => hss k (by omega))
    refine r_iload_n X (by rfl) dX12_marksOf_4 ?_
    refine r_aload_n X (by rfl) dX12_marksOf_5 ?_
    refine r_getR X dX12_marksOf_6 zF_X12_27 (zt hL 38 rfl) (zrf hL 40 rfl) ?_
    refine r_iload_n X (by rfl) dX12_marksOf_9 ?_
    refine r_iaload X dX12_marksOf_10 (zt hL 43 rfl) (vp_in_iff.mpr ⟨hx.1, by omega⟩) ?_
    refine r_icmp_ge X 32 dX12_marksOf_11 (by decide) (fun h11 => ?_) (fun h11 => ?_)
    · refine r_iload_n X (by rfl) dX12_marksOf_32 ?_
      refine r_ireturn X hR dX12_marksOf_33 rfl (Nat.zero_le _) (Nat.zero_le _) ?_
      have hb1 : 0 ≤ p.toInt ∧ p.toInt ≤ 399604 := by omega
      have hqe : q.toNatClampNeg = (ι (B + 43) x.toNatClampNeg).toNatClampNeg := by omega
      rw [hqe] at hp1
      exact ⟨_, rfl, hp1, hb1.1, hb1.2, rfl⟩
    · have e4 := zix (x := x) (q := q) hx.1 (by omega) h0 (by omega)
      have ei := zinc (x := q) (by omega)
      have ei2 : (q + 1).toNatClampNeg = q.toNatClampNeg + 1 := by have := zclN (i := q + 1) (by omega); omega
      refine r_iload_n X (by rfl) dX12_marksOf_14 ?_
      refine r_aload_n X (by rfl) dX12_marksOf_15 ?_
      refine r_iconst X 4 (by decide) dX12_marksOf_16 ?_
      refine r_iload_n X (by rfl) dX12_marksOf_17 ?_
      refine r_imul X dX12_marksOf_18 ?_
      refine r_iload_n X (by rfl) dX12_marksOf_19 ?_
      refine r_iadd X dX12_marksOf_20 ?_
      refine r_callV X dX12_marksOf_21 zLV_X12_187 zCd_X12_spanMarks (c_X12_spanMarks _ G z τ ρ _ _ hL hJ _ (by rw [e4.1]; omega) (by rw [e4.1]; omega) (by rw [e4.2]; exact hss _ (by omega))) (zt hL 38 rfl) ⟨by decide, rfl, rfl⟩ rfl rfl ⟨⟨rfl, rfl⟩, ⟨by decide, by decide⟩, ⟨Nat.le_of_ble_eq_true rfl, Nat.le_of_ble_eq_true rfl⟩, Nat.le_of_ble_eq_true rfl⟩ ?_
      rintro _ _ ⟨r1, rfl, hr1, _, _, rfl⟩
      refine r_iadd X dX12_marksOf_24 ?_
      refine r_istore_n X (by decide) dX12_marksOf_25 ?_
      refine r_iinc X 1 (by decide) (by rfl) (by decide) dX12_marksOf_26 ?_
      refine r_goto X 4 dX12_marksOf_29 (by decide) ?_
      exact zW.loc4 (by rfl) (by rfl) (by rfl) (by rfl) (ih _ _ (by rw [ei]; omega) (by rw [ei]; omega) (by rw [ei]; omega) (by rw [ei2, zMk, zaddI (x := p) (y := r1) (by omega) (by omega), hr1, e4.2, hp1]))
  refine r_iconst X 0 (by decide) dX12_marksOf_0 ?_
  refine r_istore_n X (by decide) dX12_marksOf_1 ?_
  refine r_iconst X 0 (by decide) dX12_marksOf_2 ?_
  refine r_istore_n X (by decide) dX12_marksOf_3 ?_
  exact zW.loc4 (by rfl) (by rfl) (by rfl) (by rfl) (L4 5 _ _ (by decide) (by rw [show Int32.toInt 0 = 0 from rfl]; omega) (by rw [show Int32.toInt 0 = 0 from rfl]; omega) (by rfl))
set_option maxHeartbeats 4000000 in
set_option maxRecDepth 100000 in
theorem c_X12_markOf (l : Launch) (G : zG) (z : Nat) (τ : Nat → Option (Nat × Nat)) (ρ : Nat → Nat → Option Nat) (ι : Nat → Nat → Int32) (κ : Nat → Nat → Int64) {B c : Nat} (hL : zLay τ ρ B c) (hJ : zJ B c ι) (x : Int32) (hx : 0 ≤ x.toInt ∧ x.toInt < (c : Int)) (y : Int32) (y0 : 0 ≤ y.toInt) (y1 : y.toInt < zMk B ι x.toNatClampNeg (ι (B + 43) x.toNatClampNeg).toNatClampNeg) : zM l G yX12_markOf cX12_markOf 5 (some .int) ({ frames := 1, cells := 0, slots := 0, locals := 21 } : Room) [.ref (B + 38), .int x, .int y] (z, τ, ρ, ι, κ) (fun v s => ∃ r, v = some (.int r) ∧ (∃ (q : Nat) (e : Int), (q : Int) < (ι (B + 43) x.toNatClampNeg).toInt ∧ 0 ≤ e ∧ e < zSm B ι (4 * x.toNatClampNeg + q) ∧ y.toInt = zMk B ι x.toNatClampNeg q + e ∧ r.toInt = (ι (B + 44) (4 * x.toNatClampNeg + q)).toInt + e * (ι (B + 46) (4 * x.toNatClampNeg + q)).toInt) ∧ 100 ≤ r.toInt ∧ r.toInt ≤ 100000 ∧ s = (z, τ, ρ, ι, κ)) 0 0 := by
  refine zM_of zCd_X12_markOf (Nat.le_of_ble_eq_true rfl) ?_
  intro E X hR hE
  subst hE
  show zW E G 5 (z, τ, ρ, ι, κ) 0 0 0 [(0, .ref (B + 38)), (1, .int x), (2, .int y)] []
  obtain ⟨h8, hJc, hm1, hm2, hm3, hm4, hm5⟩ := id hJ
  have hj := hm5 x.toNatClampNeg (by have := zclN hx.1; omega)
  have hjc := zclN hx.1
  obtain ⟨hp, hfo, hsp, hss⟩ := id hj
  have hsn := zclN hsp.1
  have e0 := zix (x := x) (q := 0) hx.1 (by omega) (by decide) (by decide)
  rw [Int32.add_zero, show Int32.toInt 0 = 0 from rfl] at e0
  have hbt := zMk_b (B := B) (ι := ι) (j := x.toNatClampNeg) (n := (ι (B + 43) x.toNatClampNeg).toNatClampNeg) (fun k hk => hss k (by omega))
  have hpos : 0 < (ι (B + 43) x.toNatClampNeg).toInt := by
    rcases Int.lt_or_eq_of_le hsp.1 with q | q
    · exact q
    · exfalso
      rw [show (ι (B + 43) x.toNatClampNeg).toNatClampNeg = 0 by omega, zMk] at y1
      omega
  have L7 : ∀ (m : Nat) (d : Nat) (k p : Int32), 4 - d < m → k.toInt = 4 * x.toInt + d → (d : Int) < (ι (B + 43) x.toNatClampNeg).toInt → 0 ≤ p.toInt → y.toInt = zMk B ι x.toNatClampNeg d + p.toInt → zW E G 5 (z, τ, ρ, ι, κ) 0 0 7 [(0, .ref (B + 38)), (1, .int x), (2, .int y), (3, .int p), (4, .int k)] [] := by
    intro m
    induction m with
    | zero => intro d k p h; omega
    | succ m ih => ?_
    intro d k p hm hk hd hp0 hy
    have hk2 : k.toNatClampNeg = 4 * x.toNatClampNeg + d := by have := zclN (i := k) (by omega); omega
    have hS := hss d hd
    have hb := zSm_b hS
    have hbd := zMk_b (n := d) (fun k hk => hss k (by omega))
    refine r_iload_n X (by rfl) dX12_markOf_7 ?_
    refine r_aload_n X (by rfl) dX12_markOf_8 ?_
    refine r_iload X (by rfl) dX12_markOf_9 ?_
    refine r_callV X dX12_markOf_11 zLV_X12_187 zCd_X12_spanMarks (c_X12_spanMarks _ G z τ ρ _ _ hL hJ _ (by omega) (by omega) (by rw [hk2]; exact hS)) (zt hL 38 rfl) ⟨by decide, rfl, rfl⟩ rfl rfl ⟨⟨rfl, rfl⟩, ⟨by decide, by decide⟩, ⟨Nat.le_of_ble_eq_true rfl, Nat.le_of_ble_eq_true rfl⟩, Nat.le_of_ble_eq_true rfl⟩ ?_
    rintro _ _ ⟨r1, rfl, hr1, _, _, rfl⟩
    rw [hk2] at hr1
    refine r_icmp_lt X 32 dX12_markOf_14 (by decide) (fun h14 => ?_) (fun h14 => ?_)
    · have hz := zmk_le hS.2.1 hS.2.2.2.1 hp0 (show p.toInt < zSm B ι (4 * x.toNatClampNeg + d) by omega)
      have em : (p * ι (B + 46) (4 * x.toNatClampNeg + d)).toInt = p.toInt * (ι (B + 46) (4 * x.toNatClampNeg + d)).toInt := zmulI (by have := hS.1; have := hS.2.2.1; omega) (by have := hS.1; have := hS.2.2.1; omega)
      have ea := zaddI (x := ι (B + 44) (4 * x.toNatClampNeg + d)) (y := p * ι (B + 46) (4 * x.toNatClampNeg + d)) (by have := hS.1; have := hS.2.2.1; omega) (by have := hS.1; have := hS.2.2.1; omega)
      refine r_aload_n X (by rfl) dX12_markOf_32 ?_
      refine r_getR X dX12_markOf_33 zF_X12_30 (zt hL 38 rfl) (zrf hL 41 rfl) ?_
      refine r_iload X (by rfl) dX12_markOf_36 ?_
      refine r_iaload X dX12_markOf_38 (zt hL 44 rfl) (vp_in_iff.mpr ⟨by omega, by omega⟩) ?_
      refine r_iload_n X (by rfl) dX12_markOf_39 ?_
      refine r_aload_n X (by rfl) dX12_markOf_40 ?_
      refine r_getR X dX12_markOf_41 zF_X12_36 (zt hL 38 rfl) (zrf hL 43 rfl) ?_
      refine r_iload X (by rfl) dX12_markOf_44 ?_
      refine r_iaload X dX12_markOf_46 (zt hL 46 rfl) (vp_in_iff.mpr ⟨by omega, by omega⟩) ?_
      refine r_imul X dX12_markOf_47 ?_
      refine r_iadd X dX12_markOf_48 ?_
      rw [hk2]
      refine r_ireturn X hR dX12_markOf_49 rfl (Nat.zero_le _) (Nat.zero_le _) ?_
      exact ⟨_, rfl, ⟨d, p.toInt, hd, hp0, by omega, hy, by rw [ea, em]⟩, by rw [ea, em]; have := hS.1; omega, by rw [ea, em]; have := hS.2.2.1; omega, rfl⟩
    · have hd2 : (d : Int) + 1 < (ι (B + 43) x.toNatClampNeg).toInt := by
        rcases Int.lt_or_eq_of_le (show (d : Int) + 1 ≤ (ι (B + 43) x.toNatClampNeg).toInt by omega) with q | q
        · exact q
        · exfalso
          rw [show (ι (B + 43) x.toNatClampNeg).toNatClampNeg = d + 1 by omega, zMk] at y1
          omega
      have ei := zinc (x := k) (by omega)
      refine r_iload_n X (by rfl) dX12_markOf_17 ?_
      refine r_aload_n X (by rfl) dX12_markOf_18 ?_
      refine r_iload X (by rfl) dX12_markOf_19 ?_
      refine r_callV X dX12_markOf_21 zLV_X12_187 zCd_X12_spanMarks (c_X12_spanMarks _ G z τ ρ _ _ hL hJ _ (by omega) (by omega) (by rw [hk2]; exact hS)) (zt hL 38 rfl) ⟨by decide, rfl, rfl⟩ rfl rfl ⟨⟨rfl, rfl⟩, ⟨by decide, by decide⟩, ⟨Nat.le_of_ble_eq_true rfl, Nat.le_of_ble_eq_true rfl⟩, Nat.le_of_ble_eq_true rfl⟩ ?_
      rintro _ _ ⟨r2, rfl, hr2, _, _, rfl⟩
      rw [hk2] at hr2
      refine r_isub X dX12_markOf_24 ?_
      refine r_istore_n X (by decide) dX12_markOf_25 ?_
      have es := zsubI (x := p) (y := r2) (by omega) (by omega)
      refine r_iinc X 1 (by decide) (by rfl) (by decide) dX12_markOf_26 ?_
      refine r_goto X 7 dX12_markOf_29 (by decide) ?_
      exact zW.loc5 (by rfl) (by rfl) (by rfl) (by rfl) (by rfl) (ih (d + 1) _ _ (by omega) (by rw [ei]; omega) (by omega) (by rw [es]; omega) (by rw [es, zMk]; omega))
  refine r_iload_n X (by rfl) dX12_markOf_0 ?_
  refine r_istore_n X (by decide) dX12_markOf_1 ?_
  refine r_iconst X 4 (by decide) dX12_markOf_2 ?_
  refine r_iload_n X (by rfl) dX12_markOf_3 ?_
  refine r_imul X dX12_markOf_4 ?_
  refine r_istore X (by decide) dX12_markOf_5 ?_
  exact zW.loc5 (by rfl) (by rfl) (by rfl) (by rfl) (by rfl) (L7 5 0 _ _ (by decide) (by rw [e0.1]; omega) (by omega) y0 (by rw [zMk]; omega))
