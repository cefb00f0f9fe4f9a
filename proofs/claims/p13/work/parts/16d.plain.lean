/-! the model's plain numbers (wip/gen16/spec_p3.py) -/
set_option maxHeartbeats 4000000 in
set_option maxRecDepth 100000 in
theorem e_X12_plain (l : Launch) (G : zG) (z : Nat) (τ : Nat → Option (Nat × Nat)) (ρ : Nat → Nat → Option Nat) (ι : Nat → Nat → Int32) (κ : Nat → Nat → Int64) {a M : Nat} (ha : τ a = some (12, M)) {te sh : Nat} (g17 : ρ a 17 = some te) (g18 : ρ a 18 = some sh) (hte : τ te = some (14, 6)) (hsh : τ sh = some (14, 6)) (dts : te ≠ sh) {tw : Nat} (g15 : ρ a 15 = some tw) (htw : τ tw = some (1002, 6)) {tn on ot le ri : Nat} (g16 : ρ a 16 = some tn) (g19 : ρ a 19 = some on) (g20 : ρ a 20 = some ot) (g21 : ρ a 21 = some le) (g22 : ρ a 22 = some ri) (htn : τ tn = some (1003, 6)) (hon : τ on = some (14, 6)) (hot : τ ot = some (14, 6)) (hle : τ le = some (14, 6)) (hri : τ ri = some (14, 6)) (don : te ≠ on) (dso : sh ≠ on) (dot : te ≠ ot) (dso2 : sh ≠ ot) (dle : on ≠ le) (dri : tn ≠ ri) (n5 : on ≠ ot) (n11 : le ≠ ot) (n12 : le ≠ ri) (n13 : on ≠ ri) (n14 : ot ≠ ri) (x : Int32) (x0 : 100 ≤ x.toInt) (x1 : x.toInt ≤ 999) (hL : 100 ≤ (ι a 0).toInt ∧ (ι a 0).toInt ≤ 50000) : zM l G yX12_plain cX12_plain 2 (some .int) ({ frames := 4, cells := 0, slots := 0, locals := 119 } : Room) [.ref a, .int x] (z, τ, ρ, ι, κ) (fun v s => ∃ κ2, v = some (.int (zPl9 (ι a 0) (x.toNatClampNeg - 100))) ∧ s = (z, τ, ρ, ι, κ2)) 0 0 := by
  refine zM_of zCd_X12_plain (Nat.le_of_ble_eq_true rfl) ?_
  intro E X hR hE
  subst hE
  show zW E G 2 (z, τ, ρ, ι, κ) 0 0 0 [(0, .ref a), (1, .int x)] []
  have hxc := zclN (i := x) (by omega)
  have hxn : (x.toInt64).toInt = ((x.toNatClampNeg : Nat) : Int) := by rw [Int32.toInt_toInt64]; omega
  have h100 : (100 : Int64).toInt = ((100 : Nat) : Int) := rfl
  refine r_aload_n X (by rfl) dX12_plain_0 ?_
  refine r_iload_n X (by rfl) dX12_plain_1 ?_
  refine r_i2l X dX12_plain_2 ?_
  refine r_ldc2 X zK_X12_149 dX12_plain_3 ?_
  refine r_iconst X 1 (by decide) dX12_plain_6 ?_
  refine r_callV X dX12_plain_7 zLV_X12_151 zCd_X12_nearestOf (e_X12_nearestOf _ G z τ ρ _ _ ha g17 g18 hte hsh dts g15 htw g16 g19 g20 g21 g22 htn hon hot hle hri don dso dot dso2 dle dri n5 n11 n12 n13 n14 _ (by omega) (by omega) hL (by rw [hxn]; exact zEnd_n (by omega) (by omega) (zE1_at (by omega) (by omega))) (zEnd_n (x := 100) (by omega) (by omega) zHun_e.2) (fun X1 X2 h g1 g2 => zXb (x := x.toNatClampNeg) (by omega) (by omega) X1 X2 (by rw [← hxn]; exact g1) g2)) ha ⟨by decide, rfl, rfl⟩ rfl rfl ⟨⟨rfl, rfl⟩, ⟨by decide, by decide⟩, ⟨Nat.le_of_ble_eq_true rfl, Nat.le_of_ble_eq_true rfl⟩, Nat.le_of_ble_eq_true rfl⟩ ?_
  rintro _ _ ⟨r, k1, rfl, rfl, hr⟩
  refine r_ireturn X hR dX12_plain_10 rfl (Nat.zero_le _) (Nat.zero_le _) ?_
  refine ⟨_, ?_, rfl⟩
  rcases hr with ⟨h1, h2⟩ | ⟨h1, X1, X2, g1, g2, b1, b2⟩
  · rw [h2, show x.toNatClampNeg - 100 = 0 by omega, zPl9_0 hL]
  · rw [hxn] at g1
    rw [zPlain_eq (x := x.toNatClampNeg) (by omega) (by omega) hL g1 g2 b1 b2]
    rfl
