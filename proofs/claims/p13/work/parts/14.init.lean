/-! constructors (wip/gen/spec_e.py) -/
theorem zclN9 {i : Int32} (h : 0 ≤ i.toInt) : (i.toNatClampNeg : Int) = i.toInt := by rw [Int32.toNatClampNeg]; omega
theorem zofN9 {i : Int32} (h : 0 ≤ i.toInt) : Int32.ofNat i.toNatClampNeg = i := by
  have h2 := zclN9 h
  have h3 := i.toInt_lt
  exact Int32.toInt_inj.mp (by rw [znat (by omega)]; omega)
def tX6 (τ : Nat → Option (Nat × Nat)) (a z : Nat) (N : Nat) : Nat → Option (Nat × Nat) := zp τ z (13, N)
def rX6 (ρ : Nat → Nat → Option Nat) (a z : Nat) : Nat → Nat → Option Nat := zu ρ a 0 (some z)
def iX6 (ι : Nat → Nat → Int32) (a z : Nat) : Nat → Nat → Int32 := zu ι a 1 0
def tX0 (τ : Nat → Option (Nat × Nat)) (a z : Nat)  : Nat → Option (Nat × Nat) := zp (tX6 (zp τ z (6, 0)) z (z + 1) 12) (z + 2) (14, 4)
def rX0 (ρ : Nat → Nat → Option Nat) (a z : Nat) : Nat → Nat → Option Nat := zu (zu (rX6 ρ z (z + 1)) a 0 (some z)) a 3 (some (z + 2))
def iX0 (ι : Nat → Nat → Int32) (a z : Nat) : Nat → Nat → Int32 := zu (zu (iX6 ι z (z + 1)) a 1 0) a 2 0
def tX2 (τ : Nat → Option (Nat × Nat)) (a z : Nat)  : Nat → Option (Nat × Nat) := zp (zp (zp (zp (zp (zp τ z (14, 900)) (z + 1) (14, 900)) (z + 2) (10, 0)) (z + 3) (10, 0)) (z + 4) (10, 0)) (z + 5) (10, 0)
def rX2 (ρ : Nat → Nat → Option Nat) (a z : Nat) : Nat → Nat → Option Nat := zu (zu (zu (zu (zu ρ a 0 (some z)) a 1 (some (z + 1))) a 2 (some (z + 2))) a 3 (some (z + 3))) a 4 (some (z + 4))
def iX2 (ι : Nat → Nat → Int32) (a z : Nat) : Nat → Nat → Int32 := ι
def tX5 (τ : Nat → Option (Nat × Nat)) (a z : Nat)  : Nat → Option (Nat × Nat) := zp τ z (13, 900)
def rX5 (ρ : Nat → Nat → Option Nat) (a z : Nat) : Nat → Nat → Option Nat := zu ρ a 1 (some z)
def iX5 (ι : Nat → Nat → Int32) (a z : Nat) : Nat → Nat → Int32 := zu ι a 0 0
def tX4 (τ : Nat → Option (Nat × Nat)) (a z : Nat)  : Nat → Option (Nat × Nat) := tX0 (zp τ z (0, 0)) z (z + 1)
def rX4 (ρ : Nat → Nat → Option Nat) (a z : Nat) : Nat → Nat → Option Nat := zu (rX0 ρ z (z + 1)) a 10 (some z)
def iX4 (ι : Nat → Nat → Int32) (a z : Nat) : Nat → Nat → Int32 := iX0 (zu (zu (zu (zu (zu (zu (zu (zu (zu (zu ι a 0 0) a 1 0) a 2 0) a 3 0) a 4 0) a 5 0) a 6 0) a 7 0) a 8 0) a 9 0) z (z + 1)
def tX8 (τ : Nat → Option (Nat × Nat)) (a z : Nat)  : Nat → Option (Nat × Nat) := zp (zp (zp (zp (zp (zp (zp τ z (15, 4)) (z + 1) (15, 4)) (z + 2) (18, 3)) (z + 3) (13, 49)) (z + 4) (13, 49)) (z + 5) (13, 49)) (z + 6) (13, 3)
def rX8 (ρ : Nat → Nat → Option Nat) (a z : Nat) : Nat → Nat → Option Nat := zu (zu (zu (zu (zu (zu (zu ρ a 0 (some z)) a 1 (some (z + 1))) (z + 2) 0 (some (z + 3))) (z + 2) 1 (some (z + 4))) (z + 2) 2 (some (z + 5))) a 2 (some (z + 2))) a 3 (some (z + 6))
def iX8 (ι : Nat → Nat → Int32) (a z : Nat) : Nat → Nat → Int32 := ι
def tX9 (τ : Nat → Option (Nat × Nat)) (a z : Nat)  : Nat → Option (Nat × Nat) := tX6 (zp τ z (6, 0)) z (z + 1) 60
def rX9 (ρ : Nat → Nat → Option Nat) (a z : Nat) : Nat → Nat → Option Nat := zu (rX6 ρ z (z + 1)) a 0 (some z)
def iX9 (ι : Nat → Nat → Int32) (a z : Nat) : Nat → Nat → Int32 := iX6 ι z (z + 1)
def tX3 (τ : Nat → Option (Nat × Nat)) (a z : Nat)  : Nat → Option (Nat × Nat) := τ
def rX3 (ρ : Nat → Nat → Option Nat) (a z : Nat) : Nat → Nat → Option Nat := ρ
def iX3 (ι : Nat → Nat → Int32) (a z : Nat) : Nat → Nat → Int32 := zu (zu ι a 0 0) a 1 0
def tX1 (τ : Nat → Option (Nat × Nat)) (a z : Nat)  : Nat → Option (Nat × Nat) := zp τ z (13, 60)
def rX1 (ρ : Nat → Nat → Option Nat) (a z : Nat) : Nat → Nat → Option Nat := zu ρ a 0 (some z)
def iX1 (ι : Nat → Nat → Int32) (a z : Nat) : Nat → Nat → Int32 := ι
def tX7 (τ : Nat → Option (Nat × Nat)) (a z : Nat)  : Nat → Option (Nat × Nat) := zp (zp (zp (zp (tX6 (zp τ z (6, 0)) z (z + 1) 400) (z + 2) (13, 4)) (z + 3) (13, 4)) (z + 4) (13, 4)) (z + 5) (13, 400)
def rX7 (ρ : Nat → Nat → Option Nat) (a z : Nat) : Nat → Nat → Option Nat := zu (zu (zu (zu (zu (rX6 ρ z (z + 1)) a 4 (some z)) a 6 (some (z + 2))) a 7 (some (z + 3))) a 8 (some (z + 4))) a 9 (some (z + 5))
def tX11 (τ : Nat → Option (Nat × Nat)) (a z : Nat)  : Nat → Option (Nat × Nat) := tX9 (zp (tX9 (zp (tX1 (zp (tX3 (zp (zp (tX8 (zp (tX4 (zp (tX0 (zp (zp (tX5 (zp (tX2 (zp τ z (2, 0)) z (z + 1)) (z + 7) (5, 0)) (z + 7) (z + 8)) (z + 9) (16, 8)) (z + 10) (0, 0)) (z + 10) (z + 11)) (z + 14) (4, 0)) (z + 14) (z + 15)) (z + 19) (8, 0)) (z + 19) (z + 20)) (z + 27) (17, 2)) (z + 28) (3, 0)) (z + 28) (z + 29)) (z + 29) (1, 0)) (z + 29) (z + 30)) (z + 31) (9, 0)) (z + 31) (z + 32)) (z + 34) (9, 0)) (z + 34) (z + 35)
def rX11 (ρ : Nat → Nat → Option Nat) (a z : Nat) : Nat → Nat → Option Nat := zu (rX9 (zu (rX9 (zu (rX1 (zu (zu (zu (rX8 (zu (rX4 (zu (rX0 (zu (zu (rX5 (zu (rX2 ρ z (z + 1)) a 0 (some z)) (z + 7) (z + 8)) a 1 (some (z + 7))) a 2 (some (z + 9))) (z + 10) (z + 11)) a 3 (some (z + 10))) (z + 14) (z + 15)) a 4 (some (z + 14))) (z + 19) (z + 20)) a 5 (some (z + 19))) a 6 (some (z + 27))) a 7 (some (z + 28))) (z + 29) (z + 30)) a 8 (some (z + 29))) (z + 31) (z + 32)) (z + 27) 0 (some (z + 31))) (z + 34) (z + 35)) (z + 27) 1 (some (z + 34))
def iX11 (ι : Nat → Nat → Int32) (a z : Nat) : Nat → Nat → Int32 := iX9 (iX9 (zu (zu (zu (iX3 (iX4 (iX0 (iX5 ι (z + 7) (z + 8)) (z + 10) (z + 11)) (z + 14) (z + 15)) (z + 28) (z + 29)) a 9 0) a 10 10000) a 11 0) (z + 31) (z + 32)) (z + 34) (z + 35)
def iX7 (ι : Nat → Nat → Int32) (a z : Nat) (x y u w : Int32) : Nat → Nat → Int32 := zu (zu (zu (zu (zu (zu (zu (iX6 ι z (z + 1)) a 5 0) a 10 0) a 11 0) a 0 x) a 1 y) a 2 u) a 3 w
set_option maxHeartbeats 4000000 in
set_option maxRecDepth 100000 in
theorem c_X10_init (l : Launch) (G : zG) (z : Nat) (τ : Nat → Option (Nat × Nat)) (ρ : Nat → Nat → Option Nat) (ι : Nat → Nat → Int32) (κ : Nat → Nat → Int64) {a : Nat} (ha : τ a = some (10, 0)) (haz : a < z) : zM l G yX10_init cX10_init 1 none ({ frames := 1, cells := 0, slots := 0, locals := 20 } : Room) [.ref a] (z, τ, ρ, ι, κ) (fun v s => v = none ∧ s = (z, τ, ρ, ι, zu (zu κ a 0 0) a 1 0)) 0 0 := by
  refine zM_ofI zCd_X10_init (Nat.le_of_ble_eq_true rfl) rfl ?_
  intro E X hR hE hin
  subst hE
  show zW E G 1 (z, τ, ρ, ι, κ) 0 0 0 [(0, .ref a)] []
  have na : ∀ k, a ≠ z + k := fun k => by omega
  have na0 : a ≠ z := na 0
  refine r_aload_n X (by rfl) dX10_init_0 ?_
  refine r_objInit X dX10_init_1 zob_X10_3 (Nat.le_of_ble_eq_true rfl) (Nat.le_of_ble_eq_true rfl) ?_
  refine r_aload_n X (by rfl) dX10_init_4 ?_
  refine r_lconst X 0 (by decide) dX10_init_5 ?_
  refine r_putJ (N := 0) X dX10_init_6 zF_X10_9 (by simp [zp, zu, na, na0, ha, Nat.add_assoc, tX6, rX6, iX6, tX0, rX0, iX0, tX2, rX2, iX2, tX5, rX5, iX5, tX4, rX4, iX4, tX8, rX8, iX8, tX9, rX9, iX9, tX3, rX3, iX3, tX1, rX1, iX1, tX7, rX7, iX7]) rfl rfl ?_
  refine r_aload_n X (by rfl) dX10_init_9 ?_
  refine r_lconst X 0 (by decide) dX10_init_10 ?_
  refine r_putJ (N := 0) X dX10_init_11 zF_X10_13 (by simp [zp, zu, na, na0, ha, Nat.add_assoc, tX6, rX6, iX6, tX0, rX0, iX0, tX2, rX2, iX2, tX5, rX5, iX5, tX4, rX4, iX4, tX8, rX8, iX8, tX9, rX9, iX9, tX3, rX3, iX3, tX1, rX1, iX1, tX7, rX7, iX7]) rfl rfl ?_
  refine r_return X hR dX10_init_14 (Nat.le_of_ble_eq_true rfl) (Nat.le_of_ble_eq_true rfl) ?_
  exact ⟨rfl, rfl⟩
set_option maxHeartbeats 4000000 in
set_option maxRecDepth 100000 in
theorem c_X6_init (l : Launch) (G : zG) (z : Nat) (τ : Nat → Option (Nat × Nat)) (ρ : Nat → Nat → Option Nat) (ι : Nat → Nat → Int32) (κ : Nat → Nat → Int64) {a : Nat} (ha : τ a = some (6, 0)) (haz : a < z) (x : Int32) (N : Nat) (x0 : 0 ≤ x.toInt) (xN : x.toNatClampNeg = N) (hN : N ≤ 400) : zM l G yX6_init cX6_init 2 none ({ frames := 1, cells := 1, slots := N, locals := 21 } : Room) [.ref a, .int x] (z, τ, ρ, ι, κ) (fun v s => v = none ∧ s = (z + 1, tX6 τ a z N, rX6 ρ a z, iX6 ι a z, κ)) 1 N := by
  refine zM_ofI zCd_X6_init (Nat.le_of_ble_eq_true rfl) rfl ?_
  intro E X hR hE hin
  subst hE
  show zW E G 2 (z, τ, ρ, ι, κ) 0 0 0 [(0, .ref a), (1, .int x)] []
  have na : ∀ k, a ≠ z + k := fun k => by omega
  have na0 : a ≠ z := na 0
  refine r_aload_n X (by rfl) dX6_init_0 ?_
  refine r_objInit X dX6_init_1 zob_X6_3 (Nat.le_of_ble_eq_true rfl) (Nat.le_of_ble_eq_true rfl) ?_
  refine r_aload_n X (by rfl) dX6_init_4 ?_
  refine r_iconst X 0 (by decide) dX6_init_5 ?_
  refine r_putI (N := 0) X dX6_init_6 zF_X6_9 (by simp [zp, zu, na, na0, ha, Nat.add_assoc, tX6, rX6, iX6, tX0, rX0, iX0, tX2, rX2, iX2, tX5, rX5, iX5, tX4, rX4, iX4, tX8, rX8, iX8, tX9, rX9, iX9, tX3, rX3, iX3, tX1, rX1, iX1, tX7, rX7, iX7]) rfl rfl ?_
  refine r_aload_n X (by rfl) dX6_init_9 ?_
  refine r_iload_n X (by rfl) dX6_init_10 ?_
  refine r_iconst X 0 (by decide) dX6_init_11 ?_
  refine r_callS X dX6_init_12 zLS_X6_15 zCd_J9_max_7cf53 (c_max _ _ _ _ _ _ _ _ _) rfl rfl ⟨⟨rfl, rfl⟩, ⟨Nat.le_of_ble_eq_true rfl, Nat.le_of_ble_eq_true rfl⟩, ⟨Nat.le_of_ble_eq_true rfl, Nat.zero_le _⟩, Nat.le_of_ble_eq_true rfl⟩ ?_
  rintro _ _ ⟨rfl, rfl⟩
  rw [if_neg (by rw [show (0 : Int32).toInt = 0 from rfl]; omega)]
  refine r_newI X dX6_init_15 (by rw [zlt]; rw [show (0 : Int32).toInt = 0 from rfl]; omega) xN (by omega) (Nat.le_of_ble_eq_true rfl) (by show 0 + N ≤ N; omega) (fun hz15 => ?_)
  refine r_putFR (N := 0) X hin dX6_init_17 zF_X6_21 (by simp [zp, zu, na, na0, ha, Nat.add_assoc, tX6, rX6, iX6, tX0, rX0, iX0, tX2, rX2, iX2, tX5, rX5, iX5, tX4, rX4, iX4, tX8, rX8, iX8, tX9, rX9, iX9, tX3, rX3, iX3, tX1, rX1, iX1, tX7, rX7, iX7]) rfl rfl rfl rfl ?_
  refine r_return X hR dX6_init_20 (Nat.le_of_ble_eq_true rfl) (by omega) ?_
  exact ⟨rfl, rfl⟩
set_option maxHeartbeats 4000000 in
set_option maxRecDepth 100000 in
theorem c_X0_init (l : Launch) (G : zG) (z : Nat) (τ : Nat → Option (Nat × Nat)) (ρ : Nat → Nat → Option Nat) (ι : Nat → Nat → Int32) (κ : Nat → Nat → Int64) {a : Nat} (ha : τ a = some (0, 0)) (haz : a < z) : zM l G yX0_init cX0_init 1 none ({ frames := 2, cells := 3, slots := 18, locals := 42 } : Room) [.ref a] (z, τ, ρ, ι, κ) (fun v s => v = none ∧ s = (z + 3, tX0 τ a z, rX0 ρ a z, iX0 ι a z, κ)) 3 18 := by
  refine zM_ofI zCd_X0_init (Nat.le_of_ble_eq_true rfl) rfl ?_
  intro E X hR hE hin
  subst hE
  show zW E G 1 (z, τ, ρ, ι, κ) 0 0 0 [(0, .ref a)] []
  have na : ∀ k, a ≠ z + k := fun k => by omega
  have na0 : a ≠ z := na 0
  refine r_aload_n X (by rfl) dX0_init_0 ?_
  refine r_objInit X dX0_init_1 zob_X0_3 (Nat.le_of_ble_eq_true rfl) (Nat.le_of_ble_eq_true rfl) ?_
  refine r_aload_n X (by rfl) dX0_init_4 ?_
  refine r_new X 0 dX0_init_5 zCl_6 (by decide) zcl_X0_9 zis_X6 zini_X6 zdf_6 (Nat.le_of_ble_eq_true rfl) (Nat.le_of_ble_eq_true rfl) (fun hz5 => ?_)
  refine r_dup X rfl dX0_init_8 ?_
  refine r_bipush X 12 (by decide) dX0_init_9 ?_
  refine r_callI X dX0_init_11 zLI_X0_13 rfl zCd_X6_init (c_X6_init _ _ _ _ _ _ _ (by simp [zp, zu, na, na0, ha, Nat.add_assoc, tX6, rX6, iX6, tX0, rX0, iX0, tX2, rX2, iX2, tX5, rX5, iX5, tX4, rX4, iX4, tX8, rX8, iX8, tX9, rX9, iX9, tX3, rX3, iX3, tX1, rX1, iX1, tX7, rX7, iX7]) (by omega) _ 12 (by decide) rfl (by decide)) rfl rfl ⟨⟨rfl, rfl⟩, ⟨Nat.le_of_ble_eq_true rfl, Nat.le_of_ble_eq_true rfl⟩, ⟨Nat.le_of_ble_eq_true rfl, Nat.le_of_ble_eq_true rfl⟩, Nat.le_of_ble_eq_true rfl⟩ ?_
  rintro _ _ ⟨rfl, rfl⟩
  refine r_putFR (N := 0) X hin dX0_init_14 zF_X0_16 (by simp [zp, zu, na, na0, ha, Nat.add_assoc, tX6, rX6, iX6, tX0, rX0, iX0, tX2, rX2, iX2, tX5, rX5, iX5, tX4, rX4, iX4, tX8, rX8, iX8, tX9, rX9, iX9, tX3, rX3, iX3, tX1, rX1, iX1, tX7, rX7, iX7]) rfl rfl rfl rfl ?_
  refine r_aload_n X (by rfl) dX0_init_17 ?_
  refine r_iconst X 0 (by decide) dX0_init_18 ?_
  refine r_putI (N := 0) X dX0_init_19 zF_X0_20 (by simp [zp, zu, na, na0, ha, Nat.add_assoc, tX6, rX6, iX6, tX0, rX0, iX0, tX2, rX2, iX2, tX5, rX5, iX5, tX4, rX4, iX4, tX8, rX8, iX8, tX9, rX9, iX9, tX3, rX3, iX3, tX1, rX1, iX1, tX7, rX7, iX7]) rfl rfl ?_
  refine r_aload_n X (by rfl) dX0_init_22 ?_
  refine r_iconst X 0 (by decide) dX0_init_23 ?_
  refine r_putI (N := 0) X dX0_init_24 zF_X0_24 (by simp [zp, zu, na, na0, ha, Nat.add_assoc, tX6, rX6, iX6, tX0, rX0, iX0, tX2, rX2, iX2, tX5, rX5, iX5, tX4, rX4, iX4, tX8, rX8, iX8, tX9, rX9, iX9, tX3, rX3, iX3, tX1, rX1, iX1, tX7, rX7, iX7]) rfl rfl ?_
  refine r_aload_n X (by rfl) dX0_init_27 ?_
  refine r_iconst X 4 (by decide) dX0_init_28 ?_
  refine r_newJ (N := 4) X dX0_init_29 (by decide) rfl (by decide) (Nat.le_of_ble_eq_true rfl) (Nat.le_of_ble_eq_true rfl) (fun hz29 => ?_)
  refine r_putFR (N := 0) X hin dX0_init_31 zF_X0_27 (by simp [zp, zu, na, na0, ha, Nat.add_assoc, tX6, rX6, iX6, tX0, rX0, iX0, tX2, rX2, iX2, tX5, rX5, iX5, tX4, rX4, iX4, tX8, rX8, iX8, tX9, rX9, iX9, tX3, rX3, iX3, tX1, rX1, iX1, tX7, rX7, iX7]) rfl rfl rfl rfl ?_
  refine r_return X hR dX0_init_34 (Nat.le_of_ble_eq_true rfl) (Nat.le_of_ble_eq_true rfl) ?_
  exact ⟨rfl, rfl⟩
set_option maxHeartbeats 4000000 in
set_option maxRecDepth 100000 in
theorem c_X5_init (l : Launch) (G : zG) (z : Nat) (τ : Nat → Option (Nat × Nat)) (ρ : Nat → Nat → Option Nat) (ι : Nat → Nat → Int32) (κ : Nat → Nat → Int64) {a : Nat} (ha : τ a = some (5, 0)) (haz : a < z) : zM l G yX5_init cX5_init 1 none ({ frames := 1, cells := 1, slots := 900, locals := 20 } : Room) [.ref a] (z, τ, ρ, ι, κ) (fun v s => v = none ∧ s = (z + 1, tX5 τ a z, rX5 ρ a z, iX5 ι a z, κ)) 1 900 := by
  refine zM_ofI zCd_X5_init (Nat.le_of_ble_eq_true rfl) rfl ?_
  intro E X hR hE hin
  subst hE
  show zW E G 1 (z, τ, ρ, ι, κ) 0 0 0 [(0, .ref a)] []
  have na : ∀ k, a ≠ z + k := fun k => by omega
  have na0 : a ≠ z := na 0
  refine r_aload_n X (by rfl) dX5_init_0 ?_
  refine r_objInit X dX5_init_1 zob_X5_3 (Nat.le_of_ble_eq_true rfl) (Nat.le_of_ble_eq_true rfl) ?_
  refine r_aload_n X (by rfl) dX5_init_4 ?_
  refine r_iconst X 0 (by decide) dX5_init_5 ?_
  refine r_putI (N := 0) X dX5_init_6 zF_X5_9 (by simp [zp, zu, na, na0, ha, Nat.add_assoc, tX6, rX6, iX6, tX0, rX0, iX0, tX2, rX2, iX2, tX5, rX5, iX5, tX4, rX4, iX4, tX8, rX8, iX8, tX9, rX9, iX9, tX3, rX3, iX3, tX1, rX1, iX1, tX7, rX7, iX7]) rfl rfl ?_
  refine r_aload_n X (by rfl) dX5_init_9 ?_
  refine r_sipush X 900 (by decide) dX5_init_10 ?_
  refine r_newI (N := 900) X dX5_init_13 (by decide) rfl (by decide) (Nat.le_of_ble_eq_true rfl) (Nat.le_of_ble_eq_true rfl) (fun hz13 => ?_)
  refine r_putFR (N := 0) X hin dX5_init_15 zF_X5_15 (by simp [zp, zu, na, na0, ha, Nat.add_assoc, tX6, rX6, iX6, tX0, rX0, iX0, tX2, rX2, iX2, tX5, rX5, iX5, tX4, rX4, iX4, tX8, rX8, iX8, tX9, rX9, iX9, tX3, rX3, iX3, tX1, rX1, iX1, tX7, rX7, iX7]) rfl rfl rfl rfl ?_
  refine r_return X hR dX5_init_18 (Nat.le_of_ble_eq_true rfl) (Nat.le_of_ble_eq_true rfl) ?_
  exact ⟨rfl, rfl⟩
set_option maxHeartbeats 4000000 in
set_option maxRecDepth 100000 in
theorem c_X4_init (l : Launch) (G : zG) (z : Nat) (τ : Nat → Option (Nat × Nat)) (ρ : Nat → Nat → Option Nat) (ι : Nat → Nat → Int32) (κ : Nat → Nat → Int64) {a : Nat} (ha : τ a = some (4, 0)) (haz : a < z) : zM l G yX4_init cX4_init 1 none ({ frames := 3, cells := 4, slots := 22, locals := 62 } : Room) [.ref a] (z, τ, ρ, ι, κ) (fun v s => v = none ∧ s = (z + 4, tX4 τ a z, rX4 ρ a z, iX4 ι a z, κ)) 4 22 := by
  refine zM_ofI zCd_X4_init (Nat.le_of_ble_eq_true rfl) rfl ?_
  intro E X hR hE hin
  subst hE
  show zW E G 1 (z, τ, ρ, ι, κ) 0 0 0 [(0, .ref a)] []
  have na : ∀ k, a ≠ z + k := fun k => by omega
  have na0 : a ≠ z := na 0
  refine r_aload_n X (by rfl) dX4_init_0 ?_
  refine r_objInit X dX4_init_1 zob_X4_3 (Nat.le_of_ble_eq_true rfl) (Nat.le_of_ble_eq_true rfl) ?_
  refine r_aload_n X (by rfl) dX4_init_4 ?_
  refine r_iconst X 0 (by decide) dX4_init_5 ?_
  refine r_putI (N := 0) X dX4_init_6 zF_X4_9 (by simp [zp, zu, na, na0, ha, Nat.add_assoc, tX6, rX6, iX6, tX0, rX0, iX0, tX2, rX2, iX2, tX5, rX5, iX5, tX4, rX4, iX4, tX8, rX8, iX8, tX9, rX9, iX9, tX3, rX3, iX3, tX1, rX1, iX1, tX7, rX7, iX7]) rfl rfl ?_
  refine r_aload_n X (by rfl) dX4_init_9 ?_
  refine r_iconst X 0 (by decide) dX4_init_10 ?_
  refine r_putI (N := 0) X dX4_init_11 zF_X4_15 (by simp [zp, zu, na, na0, ha, Nat.add_assoc, tX6, rX6, iX6, tX0, rX0, iX0, tX2, rX2, iX2, tX5, rX5, iX5, tX4, rX4, iX4, tX8, rX8, iX8, tX9, rX9, iX9, tX3, rX3, iX3, tX1, rX1, iX1, tX7, rX7, iX7]) rfl rfl ?_
  refine r_aload_n X (by rfl) dX4_init_14 ?_
  refine r_iconst X 0 (by decide) dX4_init_15 ?_
  refine r_putI (N := 0) X dX4_init_16 zF_X4_18 (by simp [zp, zu, na, na0, ha, Nat.add_assoc, tX6, rX6, iX6, tX0, rX0, iX0, tX2, rX2, iX2, tX5, rX5, iX5, tX4, rX4, iX4, tX8, rX8, iX8, tX9, rX9, iX9, tX3, rX3, iX3, tX1, rX1, iX1, tX7, rX7, iX7]) rfl rfl ?_
  refine r_aload_n X (by rfl) dX4_init_19 ?_
  refine r_iconst X 0 (by decide) dX4_init_20 ?_
  refine r_putI (N := 0) X dX4_init_21 zF_X4_21 (by simp [zp, zu, na, na0, ha, Nat.add_assoc, tX6, rX6, iX6, tX0, rX0, iX0, tX2, rX2, iX2, tX5, rX5, iX5, tX4, rX4, iX4, tX8, rX8, iX8, tX9, rX9, iX9, tX3, rX3, iX3, tX1, rX1, iX1, tX7, rX7, iX7]) rfl rfl ?_
  refine r_aload_n X (by rfl) dX4_init_24 ?_
  refine r_iconst X 0 (by decide) dX4_init_25 ?_
  refine r_putI (N := 0) X dX4_init_26 zF_X4_24 (by simp [zp, zu, na, na0, ha, Nat.add_assoc, tX6, rX6, iX6, tX0, rX0, iX0, tX2, rX2, iX2, tX5, rX5, iX5, tX4, rX4, iX4, tX8, rX8, iX8, tX9, rX9, iX9, tX3, rX3, iX3, tX1, rX1, iX1, tX7, rX7, iX7]) rfl rfl ?_
  refine r_aload_n X (by rfl) dX4_init_29 ?_
  refine r_iconst X 0 (by decide) dX4_init_30 ?_
  refine r_putI (N := 0) X dX4_init_31 zF_X4_27 (by simp [zp, zu, na, na0, ha, Nat.add_assoc, tX6, rX6, iX6, tX0, rX0, iX0, tX2, rX2, iX2, tX5, rX5, iX5, tX4, rX4, iX4, tX8, rX8, iX8, tX9, rX9, iX9, tX3, rX3, iX3, tX1, rX1, iX1, tX7, rX7, iX7]) rfl rfl ?_
  refine r_aload_n X (by rfl) dX4_init_34 ?_
  refine r_iconst X 0 (by decide) dX4_init_35 ?_
  refine r_putI (N := 0) X dX4_init_36 zF_X4_30 (by simp [zp, zu, na, na0, ha, Nat.add_assoc, tX6, rX6, iX6, tX0, rX0, iX0, tX2, rX2, iX2, tX5, rX5, iX5, tX4, rX4, iX4, tX8, rX8, iX8, tX9, rX9, iX9, tX3, rX3, iX3, tX1, rX1, iX1, tX7, rX7, iX7]) rfl rfl ?_
  refine r_aload_n X (by rfl) dX4_init_39 ?_
  refine r_iconst X 0 (by decide) dX4_init_40 ?_
  refine r_putI (N := 0) X dX4_init_41 zF_X4_33 (by simp [zp, zu, na, na0, ha, Nat.add_assoc, tX6, rX6, iX6, tX0, rX0, iX0, tX2, rX2, iX2, tX5, rX5, iX5, tX4, rX4, iX4, tX8, rX8, iX8, tX9, rX9, iX9, tX3, rX3, iX3, tX1, rX1, iX1, tX7, rX7, iX7]) rfl rfl ?_
  refine r_aload_n X (by rfl) dX4_init_44 ?_
  refine r_iconst X 0 (by decide) dX4_init_45 ?_
  refine r_putI (N := 0) X dX4_init_46 zF_X4_36 (by simp [zp, zu, na, na0, ha, Nat.add_assoc, tX6, rX6, iX6, tX0, rX0, iX0, tX2, rX2, iX2, tX5, rX5, iX5, tX4, rX4, iX4, tX8, rX8, iX8, tX9, rX9, iX9, tX3, rX3, iX3, tX1, rX1, iX1, tX7, rX7, iX7]) rfl rfl ?_
  refine r_aload_n X (by rfl) dX4_init_49 ?_
  refine r_iconst X 0 (by decide) dX4_init_50 ?_
  refine r_putI (N := 0) X dX4_init_51 zF_X4_39 (by simp [zp, zu, na, na0, ha, Nat.add_assoc, tX6, rX6, iX6, tX0, rX0, iX0, tX2, rX2, iX2, tX5, rX5, iX5, tX4, rX4, iX4, tX8, rX8, iX8, tX9, rX9, iX9, tX3, rX3, iX3, tX1, rX1, iX1, tX7, rX7, iX7]) rfl rfl ?_
  refine r_aload_n X (by rfl) dX4_init_54 ?_
  refine r_new X 0 dX4_init_55 zCl_0 (by decide) zcl_X4_42 zis_X0 zini_X0 zdf_0 (Nat.le_of_ble_eq_true rfl) (Nat.le_of_ble_eq_true rfl) (fun hz55 => ?_)
  refine r_dup X rfl dX4_init_58 ?_
  refine r_callIN X dX4_init_59 zNe_X4_44 zini_X0 zinst_X0_init rfl zCd_X0_init (c_X0_init _ _ _ _ _ _ _ (by simp [zp, zu, na, na0, ha, Nat.add_assoc, tX6, rX6, iX6, tX0, rX0, iX0, tX2, rX2, iX2, tX5, rX5, iX5, tX4, rX4, iX4, tX8, rX8, iX8, tX9, rX9, iX9, tX3, rX3, iX3, tX1, rX1, iX1, tX7, rX7, iX7]) (by omega)) rfl rfl ⟨⟨rfl, rfl⟩, ⟨Nat.le_of_ble_eq_true rfl, Nat.le_of_ble_eq_true rfl⟩, ⟨Nat.le_of_ble_eq_true rfl, Nat.le_of_ble_eq_true rfl⟩, Nat.le_of_ble_eq_true rfl⟩ ?_
  rintro _ _ ⟨rfl, rfl⟩
  refine r_putFR (N := 0) X hin dX4_init_62 zF_X4_45 (by simp [zp, zu, na, na0, ha, Nat.add_assoc, tX6, rX6, iX6, tX0, rX0, iX0, tX2, rX2, iX2, tX5, rX5, iX5, tX4, rX4, iX4, tX8, rX8, iX8, tX9, rX9, iX9, tX3, rX3, iX3, tX1, rX1, iX1, tX7, rX7, iX7]) rfl rfl rfl rfl ?_
  refine r_return X hR dX4_init_65 (Nat.le_of_ble_eq_true rfl) (Nat.le_of_ble_eq_true rfl) ?_
  exact ⟨rfl, rfl⟩
set_option maxHeartbeats 4000000 in
set_option maxRecDepth 100000 in
theorem c_X8_init (l : Launch) (G : zG) (z : Nat) (τ : Nat → Option (Nat × Nat)) (ρ : Nat → Nat → Option Nat) (ι : Nat → Nat → Int32) (κ : Nat → Nat → Int64) {a : Nat} (ha : τ a = some (8, 0)) (haz : a < z) : zM l G yX8_init cX8_init 1 none ({ frames := 1, cells := 7, slots := 161, locals := 20 } : Room) [.ref a] (z, τ, ρ, ι, κ) (fun v s => v = none ∧ s = (z + 7, tX8 τ a z, rX8 ρ a z, iX8 ι a z, κ)) 7 161 := by
  refine zM_ofI zCd_X8_init (Nat.le_of_ble_eq_true rfl) rfl ?_
  intro E X hR hE hin
  subst hE
  show zW E G 1 (z, τ, ρ, ι, κ) 0 0 0 [(0, .ref a)] []
  have na : ∀ k, a ≠ z + k := fun k => by omega
  have na0 : a ≠ z := na 0
  refine r_aload_n X (by rfl) dX8_init_0 ?_
  refine r_objInit X dX8_init_1 zob_X8_5 (Nat.le_of_ble_eq_true rfl) (Nat.le_of_ble_eq_true rfl) ?_
  refine r_aload_n X (by rfl) dX8_init_4 ?_
  refine r_iconst X 4 (by decide) dX8_init_5 ?_
  refine r_newZ (N := 4) X dX8_init_6 (by decide) rfl (by decide) (Nat.le_of_ble_eq_true rfl) (Nat.le_of_ble_eq_true rfl) (fun hz6 => ?_)
  refine r_putFR (N := 0) X hin dX8_init_8 zF_X8_11 (by simp [zp, zu, na, na0, ha, Nat.add_assoc, tX6, rX6, iX6, tX0, rX0, iX0, tX2, rX2, iX2, tX5, rX5, iX5, tX4, rX4, iX4, tX8, rX8, iX8, tX9, rX9, iX9, tX3, rX3, iX3, tX1, rX1, iX1, tX7, rX7, iX7]) rfl rfl rfl rfl ?_
  refine r_aload_n X (by rfl) dX8_init_11 ?_
  refine r_iconst X 4 (by decide) dX8_init_12 ?_
  refine r_newZ (N := 4) X dX8_init_13 (by decide) rfl (by decide) (Nat.le_of_ble_eq_true rfl) (Nat.le_of_ble_eq_true rfl) (fun hz13 => ?_)
  refine r_putFR (N := 0) X hin dX8_init_15 zF_X8_15 (by simp [zp, zu, na, na0, ha, Nat.add_assoc, tX6, rX6, iX6, tX0, rX0, iX0, tX2, rX2, iX2, tX5, rX5, iX5, tX4, rX4, iX4, tX8, rX8, iX8, tX9, rX9, iX9, tX3, rX3, iX3, tX1, rX1, iX1, tX7, rX7, iX7]) rfl rfl rfl rfl ?_
  refine r_aload_n X (by rfl) dX8_init_18 ?_
  refine r_iconst X 3 (by decide) dX8_init_19 ?_
  refine r_bipush X 49 (by decide) dX8_init_20 ?_
  refine r_mna X dX8_init_22 zcl_X8_18 (Nat.le_of_ble_eq_true rfl) (Nat.le_of_ble_eq_true rfl) (fun hz22 => ?_)
  refine r_putFR (N := 0) X hin dX8_init_26 zF_X8_20 (by simp [zp, zu, na, na0, ha, Nat.add_assoc, tX6, rX6, iX6, tX0, rX0, iX0, tX2, rX2, iX2, tX5, rX5, iX5, tX4, rX4, iX4, tX8, rX8, iX8, tX9, rX9, iX9, tX3, rX3, iX3, tX1, rX1, iX1, tX7, rX7, iX7]) rfl rfl rfl rfl ?_
  refine r_aload_n X (by rfl) dX8_init_29 ?_
  refine r_iconst X 3 (by decide) dX8_init_30 ?_
  refine r_newI (N := 3) X dX8_init_31 (by decide) rfl (by decide) (Nat.le_of_ble_eq_true rfl) (Nat.le_of_ble_eq_true rfl) (fun hz31 => ?_)
  refine r_putFR (N := 0) X hin dX8_init_33 zF_X8_23 (by simp [zp, zu, na, na0, ha, Nat.add_assoc, tX6, rX6, iX6, tX0, rX0, iX0, tX2, rX2, iX2, tX5, rX5, iX5, tX4, rX4, iX4, tX8, rX8, iX8, tX9, rX9, iX9, tX3, rX3, iX3, tX1, rX1, iX1, tX7, rX7, iX7]) rfl rfl rfl rfl ?_
  refine r_return X hR dX8_init_36 (Nat.le_of_ble_eq_true rfl) (Nat.le_of_ble_eq_true rfl) ?_
  exact ⟨rfl, rfl⟩
set_option maxHeartbeats 4000000 in
set_option maxRecDepth 100000 in
theorem c_X9_init (l : Launch) (G : zG) (z : Nat) (τ : Nat → Option (Nat × Nat)) (ρ : Nat → Nat → Option Nat) (ι : Nat → Nat → Int32) (κ : Nat → Nat → Int64) {a : Nat} (ha : τ a = some (9, 0)) (haz : a < z) : zM l G yX9_init cX9_init 1 none ({ frames := 2, cells := 2, slots := 62, locals := 42 } : Room) [.ref a] (z, τ, ρ, ι, κ) (fun v s => v = none ∧ s = (z + 2, tX9 τ a z, rX9 ρ a z, iX9 ι a z, κ)) 2 62 := by
  refine zM_ofI zCd_X9_init (Nat.le_of_ble_eq_true rfl) rfl ?_
  intro E X hR hE hin
  subst hE
  show zW E G 1 (z, τ, ρ, ι, κ) 0 0 0 [(0, .ref a)] []
  have na : ∀ k, a ≠ z + k := fun k => by omega
  have na0 : a ≠ z := na 0
  refine r_aload_n X (by rfl) dX9_init_0 ?_
  refine r_objInit X dX9_init_1 zob_X9_3 (Nat.le_of_ble_eq_true rfl) (Nat.le_of_ble_eq_true rfl) ?_
  refine r_aload_n X (by rfl) dX9_init_4 ?_
  refine r_new X 0 dX9_init_5 zCl_6 (by decide) zcl_X9_9 zis_X6 zini_X6 zdf_6 (Nat.le_of_ble_eq_true rfl) (Nat.le_of_ble_eq_true rfl) (fun hz5 => ?_)
  refine r_dup X rfl dX9_init_8 ?_
  refine r_bipush X 60 (by decide) dX9_init_9 ?_
  refine r_callI X dX9_init_11 zLI_X9_13 rfl zCd_X6_init (c_X6_init _ _ _ _ _ _ _ (by simp [zp, zu, na, na0, ha, Nat.add_assoc, tX6, rX6, iX6, tX0, rX0, iX0, tX2, rX2, iX2, tX5, rX5, iX5, tX4, rX4, iX4, tX8, rX8, iX8, tX9, rX9, iX9, tX3, rX3, iX3, tX1, rX1, iX1, tX7, rX7, iX7]) (by omega) _ 60 (by decide) rfl (by decide)) rfl rfl ⟨⟨rfl, rfl⟩, ⟨Nat.le_of_ble_eq_true rfl, Nat.le_of_ble_eq_true rfl⟩, ⟨Nat.le_of_ble_eq_true rfl, Nat.le_of_ble_eq_true rfl⟩, Nat.le_of_ble_eq_true rfl⟩ ?_
  rintro _ _ ⟨rfl, rfl⟩
  refine r_putFR (N := 0) X hin dX9_init_14 zF_X9_16 (by simp [zp, zu, na, na0, ha, Nat.add_assoc, tX6, rX6, iX6, tX0, rX0, iX0, tX2, rX2, iX2, tX5, rX5, iX5, tX4, rX4, iX4, tX8, rX8, iX8, tX9, rX9, iX9, tX3, rX3, iX3, tX1, rX1, iX1, tX7, rX7, iX7]) rfl rfl rfl rfl ?_
  refine r_return X hR dX9_init_17 (Nat.le_of_ble_eq_true rfl) (Nat.le_of_ble_eq_true rfl) ?_
  exact ⟨rfl, rfl⟩
set_option maxHeartbeats 4000000 in
set_option maxRecDepth 100000 in
theorem c_X3_init (l : Launch) (G : zG) (z : Nat) (τ : Nat → Option (Nat × Nat)) (ρ : Nat → Nat → Option Nat) (ι : Nat → Nat → Int32) (κ : Nat → Nat → Int64) {a : Nat} (ha : τ a = some (3, 0)) (haz : a < z) : zM l G yX3_init cX3_init 1 none ({ frames := 1, cells := 0, slots := 0, locals := 20 } : Room) [.ref a] (z, τ, ρ, ι, κ) (fun v s => v = none ∧ s = (z, tX3 τ a z, rX3 ρ a z, iX3 ι a z, κ)) 0 0 := by
  refine zM_ofI zCd_X3_init (Nat.le_of_ble_eq_true rfl) rfl ?_
  intro E X hR hE hin
  subst hE
  show zW E G 1 (z, τ, ρ, ι, κ) 0 0 0 [(0, .ref a)] []
  have na : ∀ k, a ≠ z + k := fun k => by omega
  have na0 : a ≠ z := na 0
  refine r_aload_n X (by rfl) dX3_init_0 ?_
  refine r_objInit X dX3_init_1 zob_X3_1 (Nat.le_of_ble_eq_true rfl) (Nat.le_of_ble_eq_true rfl) ?_
  refine r_aload_n X (by rfl) dX3_init_4 ?_
  refine r_iconst X 0 (by decide) dX3_init_5 ?_
  refine r_putI (N := 0) X dX3_init_6 zF_X3_7 (by simp [zp, zu, na, na0, ha, Nat.add_assoc, tX6, rX6, iX6, tX0, rX0, iX0, tX2, rX2, iX2, tX5, rX5, iX5, tX4, rX4, iX4, tX8, rX8, iX8, tX9, rX9, iX9, tX3, rX3, iX3, tX1, rX1, iX1, tX7, rX7, iX7]) rfl rfl ?_
  refine r_aload_n X (by rfl) dX3_init_9 ?_
  refine r_iconst X 0 (by decide) dX3_init_10 ?_
  refine r_putI (N := 0) X dX3_init_11 zF_X3_13 (by simp [zp, zu, na, na0, ha, Nat.add_assoc, tX6, rX6, iX6, tX0, rX0, iX0, tX2, rX2, iX2, tX5, rX5, iX5, tX4, rX4, iX4, tX8, rX8, iX8, tX9, rX9, iX9, tX3, rX3, iX3, tX1, rX1, iX1, tX7, rX7, iX7]) rfl rfl ?_
  refine r_return X hR dX3_init_14 (Nat.le_of_ble_eq_true rfl) (Nat.le_of_ble_eq_true rfl) ?_
  exact ⟨rfl, rfl⟩
set_option maxHeartbeats 4000000 in
set_option maxRecDepth 100000 in
theorem c_X1_init (l : Launch) (G : zG) (z : Nat) (τ : Nat → Option (Nat × Nat)) (ρ : Nat → Nat → Option Nat) (ι : Nat → Nat → Int32) (κ : Nat → Nat → Int64) {a : Nat} (ha : τ a = some (1, 0)) (haz : a < z) : zM l G yX1_init cX1_init 1 none ({ frames := 1, cells := 1, slots := 60, locals := 20 } : Room) [.ref a] (z, τ, ρ, ι, κ) (fun v s => v = none ∧ s = (z + 1, tX1 τ a z, rX1 ρ a z, iX1 ι a z, κ)) 1 60 := by
  refine zM_ofI zCd_X1_init (Nat.le_of_ble_eq_true rfl) rfl ?_
  intro E X hR hE hin
  subst hE
  show zW E G 1 (z, τ, ρ, ι, κ) 0 0 0 [(0, .ref a)] []
  have na : ∀ k, a ≠ z + k := fun k => by omega
  have na0 : a ≠ z := na 0
  refine r_aload_n X (by rfl) dX1_init_0 ?_
  refine r_objInit X dX1_init_1 zob_X1_1 (Nat.le_of_ble_eq_true rfl) (Nat.le_of_ble_eq_true rfl) ?_
  refine r_aload_n X (by rfl) dX1_init_4 ?_
  refine r_bipush X 60 (by decide) dX1_init_5 ?_
  refine r_newI (N := 60) X dX1_init_7 (by decide) rfl (by decide) (Nat.le_of_ble_eq_true rfl) (Nat.le_of_ble_eq_true rfl) (fun hz7 => ?_)
  refine r_putFR (N := 0) X hin dX1_init_9 zF_X1_9 (by simp [zp, zu, na, na0, ha, Nat.add_assoc, tX6, rX6, iX6, tX0, rX0, iX0, tX2, rX2, iX2, tX5, rX5, iX5, tX4, rX4, iX4, tX8, rX8, iX8, tX9, rX9, iX9, tX3, rX3, iX3, tX1, rX1, iX1, tX7, rX7, iX7]) rfl rfl rfl rfl ?_
  refine r_return X hR dX1_init_12 (Nat.le_of_ble_eq_true rfl) (Nat.le_of_ble_eq_true rfl) ?_
  exact ⟨rfl, rfl⟩
set_option maxHeartbeats 4000000 in
set_option maxRecDepth 100000 in
theorem c_X7_init (l : Launch) (G : zG) (z : Nat) (τ : Nat → Option (Nat × Nat)) (ρ : Nat → Nat → Option Nat) (ι : Nat → Nat → Int32) (κ : Nat → Nat → Int64) {a : Nat} (ha : τ a = some (7, 0)) (haz : a < z) (x y u w : Int32) (hx : x = 0 ∨ x = 1) (hw : w = 0 ∨ w = 1) : zM l G yX7_init cX7_init 5 none ({ frames := 2, cells := 6, slots := 814, locals := 42 } : Room) [.ref a, .int x, .int y, .int u, .int w] (z, τ, ρ, ι, κ) (fun v s => v = none ∧ s = (z + 6, tX7 τ a z, rX7 ρ a z, iX7 ι a z x y u w, κ)) 6 814 := by
  refine zM_ofI zCd_X7_init (Nat.le_of_ble_eq_true rfl) rfl ?_
  intro E X hR hE hin
  subst hE
  show zW E G 5 (z, τ, ρ, ι, κ) 0 0 0 [(0, .ref a), (1, .int x), (2, .int y), (3, .int u), (4, .int w)] []
  have na : ∀ k, a ≠ z + k := fun k => by omega
  have na0 : a ≠ z := na 0
  refine r_aload_n X (by rfl) dX7_init_0 ?_
  refine r_objInit X dX7_init_1 zob_X7_3 (Nat.le_of_ble_eq_true rfl) (Nat.le_of_ble_eq_true rfl) ?_
  refine r_aload_n X (by rfl) dX7_init_4 ?_
  refine r_new X 0 dX7_init_5 zCl_6 (by decide) zcl_X7_9 zis_X6 zini_X6 zdf_6 (Nat.le_of_ble_eq_true rfl) (Nat.le_of_ble_eq_true rfl) (fun hz5 => ?_)
  refine r_dup X rfl dX7_init_8 ?_
  refine r_sipush X 400 (by decide) dX7_init_9 ?_
  refine r_callI X dX7_init_12 zLI_X7_13 rfl zCd_X6_init (c_X6_init _ _ _ _ _ _ _ (by simp [zp, zu, na, na0, ha, Nat.add_assoc, tX6, rX6, iX6, tX0, rX0, iX0, tX2, rX2, iX2, tX5, rX5, iX5, tX4, rX4, iX4, tX8, rX8, iX8, tX9, rX9, iX9, tX3, rX3, iX3, tX1, rX1, iX1, tX7, rX7, iX7]) (by omega) _ 400 (by decide) rfl (by decide)) rfl rfl ⟨⟨rfl, rfl⟩, ⟨Nat.le_of_ble_eq_true rfl, Nat.le_of_ble_eq_true rfl⟩, ⟨Nat.le_of_ble_eq_true rfl, Nat.le_of_ble_eq_true rfl⟩, Nat.le_of_ble_eq_true rfl⟩ ?_
  rintro _ _ ⟨rfl, rfl⟩
  refine r_putFR (N := 0) X hin dX7_init_15 zF_X7_16 (by simp [zp, zu, na, na0, ha, Nat.add_assoc, tX6, rX6, iX6, tX0, rX0, iX0, tX2, rX2, iX2, tX5, rX5, iX5, tX4, rX4, iX4, tX8, rX8, iX8, tX9, rX9, iX9, tX3, rX3, iX3, tX1, rX1, iX1, tX7, rX7, iX7]) rfl rfl rfl rfl ?_
  refine r_aload_n X (by rfl) dX7_init_18 ?_
  refine r_iconst X 0 (by decide) dX7_init_19 ?_
  refine r_putI (N := 0) X dX7_init_20 zF_X7_20 (by simp [zp, zu, na, na0, ha, Nat.add_assoc, tX6, rX6, iX6, tX0, rX0, iX0, tX2, rX2, iX2, tX5, rX5, iX5, tX4, rX4, iX4, tX8, rX8, iX8, tX9, rX9, iX9, tX3, rX3, iX3, tX1, rX1, iX1, tX7, rX7, iX7]) rfl rfl ?_
  refine r_aload_n X (by rfl) dX7_init_23 ?_
  refine r_iconst X 4 (by decide) dX7_init_24 ?_
  refine r_newI (N := 4) X dX7_init_25 (by decide) rfl (by decide) (Nat.le_of_ble_eq_true rfl) (Nat.le_of_ble_eq_true rfl) (fun hz25 => ?_)
  refine r_putFR (N := 0) X hin dX7_init_27 zF_X7_24 (by simp [zp, zu, na, na0, ha, Nat.add_assoc, tX6, rX6, iX6, tX0, rX0, iX0, tX2, rX2, iX2, tX5, rX5, iX5, tX4, rX4, iX4, tX8, rX8, iX8, tX9, rX9, iX9, tX3, rX3, iX3, tX1, rX1, iX1, tX7, rX7, iX7]) rfl rfl rfl rfl ?_
  refine r_aload_n X (by rfl) dX7_init_30 ?_
  refine r_iconst X 4 (by decide) dX7_init_31 ?_
  refine r_newI (N := 4) X dX7_init_32 (by decide) rfl (by decide) (Nat.le_of_ble_eq_true rfl) (Nat.le_of_ble_eq_true rfl) (fun hz32 => ?_)
  refine r_putFR (N := 0) X hin dX7_init_34 zF_X7_28 (by simp [zp, zu, na, na0, ha, Nat.add_assoc, tX6, rX6, iX6, tX0, rX0, iX0, tX2, rX2, iX2, tX5, rX5, iX5, tX4, rX4, iX4, tX8, rX8, iX8, tX9, rX9, iX9, tX3, rX3, iX3, tX1, rX1, iX1, tX7, rX7, iX7]) rfl rfl rfl rfl ?_
  refine r_aload_n X (by rfl) dX7_init_37 ?_
  refine r_iconst X 4 (by decide) dX7_init_38 ?_
  refine r_newI (N := 4) X dX7_init_39 (by decide) rfl (by decide) (Nat.le_of_ble_eq_true rfl) (Nat.le_of_ble_eq_true rfl) (fun hz39 => ?_)
  refine r_putFR (N := 0) X hin dX7_init_41 zF_X7_31 (by simp [zp, zu, na, na0, ha, Nat.add_assoc, tX6, rX6, iX6, tX0, rX0, iX0, tX2, rX2, iX2, tX5, rX5, iX5, tX4, rX4, iX4, tX8, rX8, iX8, tX9, rX9, iX9, tX3, rX3, iX3, tX1, rX1, iX1, tX7, rX7, iX7]) rfl rfl rfl rfl ?_
  refine r_aload_n X (by rfl) dX7_init_44 ?_
  refine r_sipush X 400 (by decide) dX7_init_45 ?_
  refine r_newI (N := 400) X dX7_init_48 (by decide) rfl (by decide) (Nat.le_of_ble_eq_true rfl) (Nat.le_of_ble_eq_true rfl) (fun hz48 => ?_)
  refine r_putFR (N := 0) X hin dX7_init_50 zF_X7_34 (by simp [zp, zu, na, na0, ha, Nat.add_assoc, tX6, rX6, iX6, tX0, rX0, iX0, tX2, rX2, iX2, tX5, rX5, iX5, tX4, rX4, iX4, tX8, rX8, iX8, tX9, rX9, iX9, tX3, rX3, iX3, tX1, rX1, iX1, tX7, rX7, iX7]) rfl rfl rfl rfl ?_
  refine r_aload_n X (by rfl) dX7_init_53 ?_
  refine r_iconst X 0 (by decide) dX7_init_54 ?_
  refine r_putI (N := 0) X dX7_init_55 zF_X7_37 (by simp [zp, zu, na, na0, ha, Nat.add_assoc, tX6, rX6, iX6, tX0, rX0, iX0, tX2, rX2, iX2, tX5, rX5, iX5, tX4, rX4, iX4, tX8, rX8, iX8, tX9, rX9, iX9, tX3, rX3, iX3, tX1, rX1, iX1, tX7, rX7, iX7]) rfl rfl ?_
  refine r_aload_n X (by rfl) dX7_init_58 ?_
  refine r_iconst X 0 (by decide) dX7_init_59 ?_
  refine r_putI (N := 0) X dX7_init_60 zF_X7_40 (by simp [zp, zu, na, na0, ha, Nat.add_assoc, tX6, rX6, iX6, tX0, rX0, iX0, tX2, rX2, iX2, tX5, rX5, iX5, tX4, rX4, iX4, tX8, rX8, iX8, tX9, rX9, iX9, tX3, rX3, iX3, tX1, rX1, iX1, tX7, rX7, iX7]) rfl rfl ?_
  refine r_aload_n X (by rfl) dX7_init_63 ?_
  refine r_iload_n X (by rfl) dX7_init_64 ?_
  refine r_putFI (N := 0) X hin dX7_init_65 zF_X7_43 (by simp [zp, zu, na, na0, ha, Nat.add_assoc, tX6, rX6, iX6, tX0, rX0, iX0, tX2, rX2, iX2, tX5, rX5, iX5, tX4, rX4, iX4, tX8, rX8, iX8, tX9, rX9, iX9, tX3, rX3, iX3, tX1, rX1, iX1, tX7, rX7, iX7]) rfl rfl (by rcases hx with rfl | rfl <;> decide +kernel) (by rcases hx with rfl | rfl <;> decide +kernel) ?_
  refine r_aload_n X (by rfl) dX7_init_68 ?_
  refine r_iload_n X (by rfl) dX7_init_69 ?_
  refine r_putFI (N := 0) X hin dX7_init_70 zF_X7_47 (by simp [zp, zu, na, na0, ha, Nat.add_assoc, tX6, rX6, iX6, tX0, rX0, iX0, tX2, rX2, iX2, tX5, rX5, iX5, tX4, rX4, iX4, tX8, rX8, iX8, tX9, rX9, iX9, tX3, rX3, iX3, tX1, rX1, iX1, tX7, rX7, iX7]) rfl rfl rfl rfl ?_
  refine r_aload_n X (by rfl) dX7_init_73 ?_
  refine r_iload_n X (by rfl) dX7_init_74 ?_
  refine r_putFI (N := 0) X hin dX7_init_75 zF_X7_50 (by simp [zp, zu, na, na0, ha, Nat.add_assoc, tX6, rX6, iX6, tX0, rX0, iX0, tX2, rX2, iX2, tX5, rX5, iX5, tX4, rX4, iX4, tX8, rX8, iX8, tX9, rX9, iX9, tX3, rX3, iX3, tX1, rX1, iX1, tX7, rX7, iX7]) rfl rfl rfl rfl ?_
  refine r_aload_n X (by rfl) dX7_init_78 ?_
  refine r_iload X (by rfl) dX7_init_79 ?_
  refine r_putFI (N := 0) X hin dX7_init_81 zF_X7_53 (by simp [zp, zu, na, na0, ha, Nat.add_assoc, tX6, rX6, iX6, tX0, rX0, iX0, tX2, rX2, iX2, tX5, rX5, iX5, tX4, rX4, iX4, tX8, rX8, iX8, tX9, rX9, iX9, tX3, rX3, iX3, tX1, rX1, iX1, tX7, rX7, iX7]) rfl rfl (by rcases hw with rfl | rfl <;> decide +kernel) (by rcases hw with rfl | rfl <;> decide +kernel) ?_
  refine r_return X hR dX7_init_84 (Nat.le_of_ble_eq_true rfl) (Nat.le_of_ble_eq_true rfl) ?_
  exact ⟨rfl, rfl⟩
set_option maxHeartbeats 4000000 in
set_option maxRecDepth 100000 in
theorem c_X2_init (l : Launch) (G : zG) (z : Nat) (τ : Nat → Option (Nat × Nat)) (ρ : Nat → Nat → Option Nat) (ι : Nat → Nat → Int32) (κ : Nat → Nat → Int64) {a : Nat} (ha : τ a = some (2, 0)) (haz : a < z) : zM l G yX2_init cX2_init 3 none ({ frames := 2, cells := 6, slots := 1808, locals := 50 } : Room) [.ref a] (z, τ, ρ, ι, κ) (fun v s => v = none ∧ ∃ κ2, s = (z + 6, tX2 τ a z, rX2 ρ a z, ι, κ2) ∧ (∀ b9, b9 < z → κ2 b9 = κ b9) ∧ ∀ k, k < 900 → κ2 z k = (zTab k).1 ∧ κ2 (z + 1) k = (zTab k).2) 6 1808 := by
  refine zM_ofI zCd_X2_init (Nat.le_of_ble_eq_true rfl) rfl ?_
  intro E X hR hE hin
  subst hE
  show zW E G 3 (z, τ, ρ, ι, κ) 0 0 0 [(0, .ref a)] []
  have na : ∀ k, a ≠ z + k := fun k => by omega
  have na0 : a ≠ z := na 0
  have f0 : tX2 τ a z a = some (2, 0) := (by simp [zp, zu, na, na0, ha, Nat.add_assoc, tX6, rX6, iX6, tX0, rX0, iX0, tX2, rX2, iX2, tX5, rX5, iX5, tX4, rX4, iX4, tX8, rX8, iX8, tX9, rX9, iX9, tX3, rX3, iX3, tX1, rX1, iX1, tX7, rX7, iX7])
  have f1 : rX2 ρ a z a 0 = some z := (by simp [zp, zu, na, na0, ha, Nat.add_assoc, tX6, rX6, iX6, tX0, rX0, iX0, tX2, rX2, iX2, tX5, rX5, iX5, tX4, rX4, iX4, tX8, rX8, iX8, tX9, rX9, iX9, tX3, rX3, iX3, tX1, rX1, iX1, tX7, rX7, iX7])
  have f2 : rX2 ρ a z a 1 = some (z + 1) := (by simp [zp, zu, na, na0, ha, Nat.add_assoc, tX6, rX6, iX6, tX0, rX0, iX0, tX2, rX2, iX2, tX5, rX5, iX5, tX4, rX4, iX4, tX8, rX8, iX8, tX9, rX9, iX9, tX3, rX3, iX3, tX1, rX1, iX1, tX7, rX7, iX7])
  have f3 : rX2 ρ a z a 2 = some (z + 2) := (by simp [zp, zu, na, na0, ha, Nat.add_assoc, tX6, rX6, iX6, tX0, rX0, iX0, tX2, rX2, iX2, tX5, rX5, iX5, tX4, rX4, iX4, tX8, rX8, iX8, tX9, rX9, iX9, tX3, rX3, iX3, tX1, rX1, iX1, tX7, rX7, iX7])
  have f4 : tX2 τ a z (z + 2) = some (10, 0) := (by simp [zp, zu, na, na0, ha, Nat.add_assoc, tX6, rX6, iX6, tX0, rX0, iX0, tX2, rX2, iX2, tX5, rX5, iX5, tX4, rX4, iX4, tX8, rX8, iX8, tX9, rX9, iX9, tX3, rX3, iX3, tX1, rX1, iX1, tX7, rX7, iX7])
  have f5 : tX2 τ a z (z + 5) = some (10, 0) := (by simp [zp, zu, na, na0, ha, Nat.add_assoc, tX6, rX6, iX6, tX0, rX0, iX0, tX2, rX2, iX2, tX5, rX5, iX5, tX4, rX4, iX4, tX8, rX8, iX8, tX9, rX9, iX9, tX3, rX3, iX3, tX1, rX1, iX1, tX7, rX7, iX7])
  have f6 : tX2 τ a z z = some (14, 900) := (by simp [zp, zu, na, na0, ha, Nat.add_assoc, tX6, rX6, iX6, tX0, rX0, iX0, tX2, rX2, iX2, tX5, rX5, iX5, tX4, rX4, iX4, tX8, rX8, iX8, tX9, rX9, iX9, tX3, rX3, iX3, tX1, rX1, iX1, tX7, rX7, iX7])
  have f7 : tX2 τ a z (z + 1) = some (14, 900) := (by simp [zp, zu, na, na0, ha, Nat.add_assoc, tX6, rX6, iX6, tX0, rX0, iX0, tX2, rX2, iX2, tX5, rX5, iX5, tX4, rX4, iX4, tX8, rX8, iX8, tX9, rX9, iX9, tX3, rX3, iX3, tX1, rX1, iX1, tX7, rX7, iX7])
  have L65 : ∀ (m : Nat) (i : Int32) (κ1 : Nat → Nat → Int64), (900 - i.toInt).toNat < m → 1 ≤ i.toInt → i.toInt ≤ 900 → (∀ b9, b9 < z → κ1 b9 = κ b9) → κ1 (z + 5) 0 = (zTab (i.toNatClampNeg - 1)).1 → κ1 (z + 5) 1 = (zTab (i.toNatClampNeg - 1)).2 → (∀ k : Nat, (k : Int) < i.toInt → κ1 z k = (zTab k).1 ∧ κ1 (z + 1) k = (zTab k).2) → zW E G 3 (z + 6, tX2 τ a z, rX2 ρ a z, ι, κ1) 6 1808 65 [(0, .ref a), (1, .ref (z + 5)), (2, .int i)] [] := by
    intro m
    induction m with
    | zero => intro i κ1 h; omega
    | succ m ih => ?_
    intro i κ1 hm h0 h9 hlo hs0 hs1 hrows
    have hic := zclN9 (i := i) (by omega)
    refine r_iload_n X (by rfl) dX2_init_65 ?_
    refine r_sipush X 900 (by decide) dX2_init_66 ?_
    refine r_icmp_ge X 112 dX2_init_69 (by decide) (fun h69 => ?_) (fun h69 => ?_)
    · rw [show Int32.toInt 900 = 900 from rfl] at h69
      refine r_return X hR dX2_init_112 (Nat.le_of_ble_eq_true rfl) (Nat.le_of_ble_eq_true rfl) ?_
      exact ⟨rfl, _, rfl, hlo, fun k hk => hrows k (by omega)⟩
    · rw [show Int32.toInt 900 = 900 from rfl] at h69
      refine r_aload_n X (by rfl) dX2_init_72 ?_
      refine r_aload_n X (by rfl) dX2_init_73 ?_
      refine r_iconst X 1 (by decide) dX2_init_74 ?_
      refine r_iconst X 2 (by decide) dX2_init_75 ?_
      refine r_bipush X 100 (by decide) dX2_init_76 ?_
      refine r_iload_n X (by rfl) dX2_init_78 ?_
      refine r_iadd X dX2_init_79 ?_
      refine r_imul X dX2_init_80 ?_
      refine r_iconst X 1 (by decide) dX2_init_81 ?_
      refine r_isub X dX2_init_82 ?_
      refine r_callV (t := 2) (N := 0) X dX2_init_83 zLV_X2_29 zCd_X2_addGrowth (c_X2_addGrowth _ G _ _ _ _ _ f0 f3 f4 f5 (by omega) _ _) (by simp [zp, zu, na, na0, ha, Nat.add_assoc, tX6, rX6, iX6, tX0, rX0, iX0, tX2, rX2, iX2, tX5, rX5, iX5, tX4, rX4, iX4, tX8, rX8, iX8, tX9, rX9, iX9, tX3, rX3, iX3, tX1, rX1, iX1, tX7, rX7, iX7]) ⟨by decide, rfl, rfl⟩ rfl rfl ⟨⟨rfl, rfl⟩, ⟨Nat.le_of_ble_eq_true rfl, Nat.le_of_ble_eq_true rfl⟩, ⟨Nat.le_of_ble_eq_true rfl, Nat.le_of_ble_eq_true rfl⟩, Nat.le_of_ble_eq_true rfl⟩ ?_
      rintro _ _ ⟨rfl, κ5, rfl, hf5, hg5, -⟩
      rw [Prod.ext_iff] at hg5
      have ei := zinc (x := i) (by omega)
      have ei1 : (i + 1).toNatClampNeg - 1 = i.toNatClampNeg := by have := zclN9 (i := i + 1) (by omega); omega
      have hst : zTab i.toNatClampNeg = zAg (κ1 (z + 5) 0) (κ1 (z + 5) 1) 1 (2 * (100 + i) - 1) := by
        rw [hs0, hs1]
        conv => lhs; rw [show i.toNatClampNeg = i.toNatClampNeg - 1 + 1 by omega, zTab]
        rw [show i.toNatClampNeg - 1 + 1 = i.toNatClampNeg by omega, zofN9 (by omega)]
      have ht0 : κ5 (z + 5) 0 = (zTab i.toNatClampNeg).1 := by rw [hst]; exact hg5.1
      have ht1 : κ5 (z + 5) 1 = (zTab i.toNatClampNeg).2 := by rw [hst]; exact hg5.2
      refine r_aload_n X (by rfl) dX2_init_86 ?_
      refine r_getR (N := 0) (b := z) X dX2_init_87 zF_X2_9 (by simp [zp, zu, na, na0, ha, Nat.add_assoc, tX6, rX6, iX6, tX0, rX0, iX0, tX2, rX2, iX2, tX5, rX5, iX5, tX4, rX4, iX4, tX8, rX8, iX8, tX9, rX9, iX9, tX3, rX3, iX3, tX1, rX1, iX1, tX7, rX7, iX7]) f1 ?_
      refine r_iload_n X (by rfl) dX2_init_90 ?_
      refine r_aload_n X (by rfl) dX2_init_91 ?_
      refine r_getJ (N := 0) X dX2_init_92 zF_X2_33 f5 ?_
      refine r_lastore X dX2_init_95 f6 (vp_in_iff.mpr ⟨by omega, by omega⟩) ?_
      refine r_aload_n X (by rfl) dX2_init_96 ?_
      refine r_getR (N := 0) (b := z + 1) X dX2_init_97 zF_X2_13 (by simp [zp, zu, na, na0, ha, Nat.add_assoc, tX6, rX6, iX6, tX0, rX0, iX0, tX2, rX2, iX2, tX5, rX5, iX5, tX4, rX4, iX4, tX8, rX8, iX8, tX9, rX9, iX9, tX3, rX3, iX3, tX1, rX1, iX1, tX7, rX7, iX7]) f2 ?_
      refine r_iload_n X (by rfl) dX2_init_100 ?_
      refine r_aload_n X (by rfl) dX2_init_101 ?_
      refine r_getJ (N := 0) X dX2_init_102 zF_X2_37 f5 ?_
      refine r_lastore X dX2_init_105 f7 (vp_in_iff.mpr ⟨by omega, by omega⟩) ?_
      refine r_iinc X 1 (by decide) (by rfl) (by decide) dX2_init_106 ?_
      refine r_goto X 65 dX2_init_109 (by decide) ?_
      exact zW.loc3 (by rfl) (by rfl) (by rfl) (ih _ _ (by have e := zinc (x := i) (by omega); omega) (by have e := zinc (x := i) (by omega); omega) (by have e := zinc (x := i) (by omega); omega) (fun b9 q => by rw [zu_r (by omega), zu_r (by omega), hf5 b9 (by omega) (by omega)]; exact hlo b9 q) (by rw [zu_a (by omega), zu_a (by omega), ei1]; exact ht0) (by rw [zu_a (by omega), zu_a (by omega), ei1]; exact ht1) (fun k hk => by
        have e := zinc (x := i) (by omega)
        by_cases q : k = i.toNatClampNeg
        · subst q; rw [zu_a (by omega), zu_s, zu_s, zu_a (by omega)]; exact ⟨ht0, ht1⟩
        · rw [zu_a (by omega), zu_k q, zu_k q, zu_a (by omega), hf5 z (by omega) (by omega), hf5 (z + 1) (by omega) (by omega)]; exact hrows k (by omega)))
  refine r_aload_n X (by rfl) dX2_init_0 ?_
  refine r_objInit X dX2_init_1 zob_X2_1 (Nat.le_of_ble_eq_true rfl) (Nat.le_of_ble_eq_true rfl) ?_
  refine r_aload_n X (by rfl) dX2_init_4 ?_
  refine r_sipush X 900 (by decide) dX2_init_5 ?_
  refine r_newJ (N := 900) X dX2_init_8 (by decide) rfl (by decide) (Nat.le_of_ble_eq_true rfl) (Nat.le_of_ble_eq_true rfl) (fun hz8 => ?_)
  refine r_putFR (N := 0) X hin dX2_init_10 zF_X2_9 (by simp [zp, zu, na, na0, ha, Nat.add_assoc, tX6, rX6, iX6, tX0, rX0, iX0, tX2, rX2, iX2, tX5, rX5, iX5, tX4, rX4, iX4, tX8, rX8, iX8, tX9, rX9, iX9, tX3, rX3, iX3, tX1, rX1, iX1, tX7, rX7, iX7]) rfl rfl rfl rfl ?_
  refine r_aload_n X (by rfl) dX2_init_13 ?_
  refine r_sipush X 900 (by decide) dX2_init_14 ?_
  refine r_newJ (N := 900) X dX2_init_17 (by decide) rfl (by decide) (Nat.le_of_ble_eq_true rfl) (Nat.le_of_ble_eq_true rfl) (fun hz17 => ?_)
  refine r_putFR (N := 0) X hin dX2_init_19 zF_X2_13 (by simp [zp, zu, na, na0, ha, Nat.add_assoc, tX6, rX6, iX6, tX0, rX0, iX0, tX2, rX2, iX2, tX5, rX5, iX5, tX4, rX4, iX4, tX8, rX8, iX8, tX9, rX9, iX9, tX3, rX3, iX3, tX1, rX1, iX1, tX7, rX7, iX7]) rfl rfl rfl rfl ?_
  refine r_aload_n X (by rfl) dX2_init_22 ?_
  refine r_new X 0 dX2_init_23 zCl_10 (by decide) zcl_X2_16 zis_X10 zini_X10 zdf_10 (Nat.le_of_ble_eq_true rfl) (Nat.le_of_ble_eq_true rfl) (fun hz23 => ?_)
  refine r_dup X rfl dX2_init_26 ?_
  refine r_callIN X dX2_init_27 zNe_X2_18 zini_X10 zinst_X10_init rfl zCd_X10_init (c_X10_init _ _ _ _ _ _ _ (by simp [zp, zu, na, na0, ha, Nat.add_assoc, tX6, rX6, iX6, tX0, rX0, iX0, tX2, rX2, iX2, tX5, rX5, iX5, tX4, rX4, iX4, tX8, rX8, iX8, tX9, rX9, iX9, tX3, rX3, iX3, tX1, rX1, iX1, tX7, rX7, iX7]) (by omega)) rfl rfl ⟨⟨rfl, rfl⟩, ⟨Nat.le_of_ble_eq_true rfl, Nat.le_of_ble_eq_true rfl⟩, ⟨Nat.le_of_ble_eq_true rfl, Nat.le_of_ble_eq_true rfl⟩, Nat.le_of_ble_eq_true rfl⟩ ?_
  rintro _ _ ⟨rfl, rfl⟩
  refine r_putFR (N := 0) X hin dX2_init_30 zF_X2_19 (by simp [zp, zu, na, na0, ha, Nat.add_assoc, tX6, rX6, iX6, tX0, rX0, iX0, tX2, rX2, iX2, tX5, rX5, iX5, tX4, rX4, iX4, tX8, rX8, iX8, tX9, rX9, iX9, tX3, rX3, iX3, tX1, rX1, iX1, tX7, rX7, iX7]) rfl rfl rfl rfl ?_
  refine r_aload_n X (by rfl) dX2_init_33 ?_
  refine r_new X 0 dX2_init_34 zCl_10 (by decide) zcl_X2_16 zis_X10 zini_X10 zdf_10 (Nat.le_of_ble_eq_true rfl) (Nat.le_of_ble_eq_true rfl) (fun hz34 => ?_)
  refine r_dup X rfl dX2_init_37 ?_
  refine r_callIN X dX2_init_38 zNe_X2_18 zini_X10 zinst_X10_init rfl zCd_X10_init (c_X10_init _ _ _ _ _ _ _ (by simp [zp, zu, na, na0, ha, Nat.add_assoc, tX6, rX6, iX6, tX0, rX0, iX0, tX2, rX2, iX2, tX5, rX5, iX5, tX4, rX4, iX4, tX8, rX8, iX8, tX9, rX9, iX9, tX3, rX3, iX3, tX1, rX1, iX1, tX7, rX7, iX7]) (by omega)) rfl rfl ⟨⟨rfl, rfl⟩, ⟨Nat.le_of_ble_eq_true rfl, Nat.le_of_ble_eq_true rfl⟩, ⟨Nat.le_of_ble_eq_true rfl, Nat.le_of_ble_eq_true rfl⟩, Nat.le_of_ble_eq_true rfl⟩ ?_
  rintro _ _ ⟨rfl, rfl⟩
  refine r_putFR (N := 0) X hin dX2_init_41 zF_X2_23 (by simp [zp, zu, na, na0, ha, Nat.add_assoc, tX6, rX6, iX6, tX0, rX0, iX0, tX2, rX2, iX2, tX5, rX5, iX5, tX4, rX4, iX4, tX8, rX8, iX8, tX9, rX9, iX9, tX3, rX3, iX3, tX1, rX1, iX1, tX7, rX7, iX7]) rfl rfl rfl rfl ?_
  refine r_aload_n X (by rfl) dX2_init_44 ?_
  refine r_new X 0 dX2_init_45 zCl_10 (by decide) zcl_X2_16 zis_X10 zini_X10 zdf_10 (Nat.le_of_ble_eq_true rfl) (Nat.le_of_ble_eq_true rfl) (fun hz45 => ?_)
  refine r_dup X rfl dX2_init_48 ?_
  refine r_callIN X dX2_init_49 zNe_X2_18 zini_X10 zinst_X10_init rfl zCd_X10_init (c_X10_init _ _ _ _ _ _ _ (by simp [zp, zu, na, na0, ha, Nat.add_assoc, tX6, rX6, iX6, tX0, rX0, iX0, tX2, rX2, iX2, tX5, rX5, iX5, tX4, rX4, iX4, tX8, rX8, iX8, tX9, rX9, iX9, tX3, rX3, iX3, tX1, rX1, iX1, tX7, rX7, iX7]) (by omega)) rfl rfl ⟨⟨rfl, rfl⟩, ⟨Nat.le_of_ble_eq_true rfl, Nat.le_of_ble_eq_true rfl⟩, ⟨Nat.le_of_ble_eq_true rfl, Nat.le_of_ble_eq_true rfl⟩, Nat.le_of_ble_eq_true rfl⟩ ?_
  rintro _ _ ⟨rfl, rfl⟩
  refine r_putFR (N := 0) X hin dX2_init_52 zF_X2_26 (by simp [zp, zu, na, na0, ha, Nat.add_assoc, tX6, rX6, iX6, tX0, rX0, iX0, tX2, rX2, iX2, tX5, rX5, iX5, tX4, rX4, iX4, tX8, rX8, iX8, tX9, rX9, iX9, tX3, rX3, iX3, tX1, rX1, iX1, tX7, rX7, iX7]) rfl rfl rfl rfl ?_
  refine r_new X 0 dX2_init_55 zCl_10 (by decide) zcl_X2_16 zis_X10 zini_X10 zdf_10 (Nat.le_of_ble_eq_true rfl) (Nat.le_of_ble_eq_true rfl) (fun hz55 => ?_)
  refine r_dup X rfl dX2_init_58 ?_
  refine r_callIN X dX2_init_59 zNe_X2_18 zini_X10 zinst_X10_init rfl zCd_X10_init (c_X10_init _ _ _ _ _ _ _ (by simp [zp, zu, na, na0, ha, Nat.add_assoc, tX6, rX6, iX6, tX0, rX0, iX0, tX2, rX2, iX2, tX5, rX5, iX5, tX4, rX4, iX4, tX8, rX8, iX8, tX9, rX9, iX9, tX3, rX3, iX3, tX1, rX1, iX1, tX7, rX7, iX7]) (by omega)) rfl rfl ⟨⟨rfl, rfl⟩, ⟨Nat.le_of_ble_eq_true rfl, Nat.le_of_ble_eq_true rfl⟩, ⟨Nat.le_of_ble_eq_true rfl, Nat.le_of_ble_eq_true rfl⟩, Nat.le_of_ble_eq_true rfl⟩ ?_
  rintro _ _ ⟨rfl, rfl⟩
  refine r_astore_n X (by decide) dX2_init_62 ?_
  refine r_iconst X 1 (by decide) dX2_init_63 ?_
  refine r_istore_n X (by decide) dX2_init_64 ?_
  exact zW.loc3 (by rfl) (by rfl) (by rfl) (L65 901 1 _ (by decide) (by decide) (by decide) (fun b9 q => by simp only [zu_r (show b9 ≠ z + 2 by omega), zu_r (show b9 ≠ z + 3 by omega), zu_r (show b9 ≠ z + 4 by omega), zu_r (show b9 ≠ z + 5 by omega)]) (by rw [zu_k (show (0 : Nat) ≠ 1 by decide), zu_s]; rfl) (by rw [zu_s]; rfl) (fun k hk => by
    have hk0 : k = 0 := by rw [show Int32.toInt 1 = 1 from rfl] at hk; omega
    subst hk0
    simp only [zu_a (show z ≠ z + 2 by omega), zu_a (show z ≠ z + 3 by omega), zu_a (show z ≠ z + 4 by omega), zu_a (show z ≠ z + 5 by omega), zu_a (show z + 1 ≠ z + 2 by omega), zu_a (show z + 1 ≠ z + 3 by omega), zu_a (show z + 1 ≠ z + 4 by omega), zu_a (show z + 1 ≠ z + 5 by omega)]
    exact ⟨(hz8 0).2.2, (hz17 0).2.2⟩))
set_option maxHeartbeats 4000000 in
set_option maxRecDepth 100000 in
theorem c_X11_init (l : Launch) (G : zG) (z : Nat) (τ : Nat → Option (Nat × Nat)) (ρ : Nat → Nat → Option Nat) (ι : Nat → Nat → Int32) (κ : Nat → Nat → Int64) {a : Nat} (ha : τ a = some (11, 0)) (haz : a < z) : zM l G yX11_init cX11_init 2 none ({ frames := 4, cells := 37, slots := 3134, locals := 82 } : Room) [.ref a] (z, τ, ρ, ι, κ) (fun v s => v = none ∧ ∃ κ2, s = (z + 37, tX11 τ a z, rX11 ρ a z, iX11 ι a z, κ2) ∧ ∀ k, k < 900 → κ2 (z + 1) k = (zTab k).1 ∧ κ2 (z + 2) k = (zTab k).2) 37 3134 := by
  refine zM_ofI zCd_X11_init (Nat.le_of_ble_eq_true rfl) rfl ?_
  intro E X hR hE hin
  subst hE
  show zW E G 2 (z, τ, ρ, ι, κ) 0 0 0 [(0, .ref a)] []
  have na : ∀ k, a ≠ z + k := fun k => by omega
  have na0 : a ≠ z := na 0
  refine r_aload_n X (by rfl) dX11_init_0 ?_
  refine r_objInit X dX11_init_1 zob_X11_1 (Nat.le_of_ble_eq_true rfl) (Nat.le_of_ble_eq_true rfl) ?_
  refine r_aload_n X (by rfl) dX11_init_4 ?_
  refine r_new X 0 dX11_init_5 zCl_2 (by decide) zcl_X11_7 zis_X2 zini_X2 zdf_2 (Nat.le_of_ble_eq_true rfl) (Nat.le_of_ble_eq_true rfl) (fun hz5 => ?_)
  refine r_dup X rfl dX11_init_8 ?_
  refine r_callI X dX11_init_9 zLI_X11_9 rfl zCd_X2_init (c_X2_init _ _ _ _ _ _ _ (by simp [zp, zu, na, na0, ha, Nat.add_assoc, tX6, rX6, iX6, tX0, rX0, iX0, tX2, rX2, iX2, tX5, rX5, iX5, tX4, rX4, iX4, tX8, rX8, iX8, tX9, rX9, iX9, tX3, rX3, iX3, tX1, rX1, iX1, tX7, rX7, iX7]) (by omega)) rfl rfl ⟨⟨rfl, rfl⟩, ⟨Nat.le_of_ble_eq_true rfl, Nat.le_of_ble_eq_true rfl⟩, ⟨Nat.le_of_ble_eq_true rfl, Nat.le_of_ble_eq_true rfl⟩, Nat.le_of_ble_eq_true rfl⟩ ?_
  rintro _ _ ⟨rfl, κ9, rfl, -, hT9⟩
  refine r_putFR (N := 0) X hin dX11_init_12 zF_X11_10 (by simp [zp, zu, na, na0, ha, Nat.add_assoc, tX6, rX6, iX6, tX0, rX0, iX0, tX2, rX2, iX2, tX5, rX5, iX5, tX4, rX4, iX4, tX8, rX8, iX8, tX9, rX9, iX9, tX3, rX3, iX3, tX1, rX1, iX1, tX7, rX7, iX7]) rfl rfl rfl rfl ?_
  refine r_aload_n X (by rfl) dX11_init_15 ?_
  refine r_new X 0 dX11_init_16 zCl_5 (by decide) zcl_X11_16 zis_X5 zini_X5 zdf_5 (Nat.le_of_ble_eq_true rfl) (Nat.le_of_ble_eq_true rfl) (fun hz16 => ?_)
  refine r_dup X rfl dX11_init_19 ?_
  refine r_callIN X dX11_init_20 zNe_X11_18 zini_X5 zinst_X5_init rfl zCd_X5_init (c_X5_init _ _ _ _ _ _ _ (by simp [zp, zu, na, na0, ha, Nat.add_assoc, tX6, rX6, iX6, tX0, rX0, iX0, tX2, rX2, iX2, tX5, rX5, iX5, tX4, rX4, iX4, tX8, rX8, iX8, tX9, rX9, iX9, tX3, rX3, iX3, tX1, rX1, iX1, tX7, rX7, iX7]) (by omega)) rfl rfl ⟨⟨rfl, rfl⟩, ⟨Nat.le_of_ble_eq_true rfl, Nat.le_of_ble_eq_true rfl⟩, ⟨Nat.le_of_ble_eq_true rfl, Nat.le_of_ble_eq_true rfl⟩, Nat.le_of_ble_eq_true rfl⟩ ?_
  rintro _ _ ⟨rfl, rfl⟩
  refine r_putFR (N := 0) X hin dX11_init_23 zF_X11_19 (by simp [zp, zu, na, na0, ha, Nat.add_assoc, tX6, rX6, iX6, tX0, rX0, iX0, tX2, rX2, iX2, tX5, rX5, iX5, tX4, rX4, iX4, tX8, rX8, iX8, tX9, rX9, iX9, tX3, rX3, iX3, tX1, rX1, iX1, tX7, rX7, iX7]) rfl rfl rfl rfl ?_
  refine r_aload_n X (by rfl) dX11_init_26 ?_
  refine r_bipush X 8 (by decide) dX11_init_27 ?_
  refine r_newR (t := 16) (q := 3) (N := 8) X dX11_init_29 zcl_X11_23 (fun U h => h.2.1) (by decide) rfl (by decide) rfl (by decide) (Nat.le_of_ble_eq_true rfl) (Nat.le_of_ble_eq_true rfl) (fun hz29 => ?_)
  refine r_putFR (N := 0) X hin dX11_init_32 zF_X11_25 (by simp [zp, zu, na, na0, ha, Nat.add_assoc, tX6, rX6, iX6, tX0, rX0, iX0, tX2, rX2, iX2, tX5, rX5, iX5, tX4, rX4, iX4, tX8, rX8, iX8, tX9, rX9, iX9, tX3, rX3, iX3, tX1, rX1, iX1, tX7, rX7, iX7]) rfl rfl rfl rfl ?_
  refine r_aload_n X (by rfl) dX11_init_35 ?_
  refine r_new X 0 dX11_init_36 zCl_0 (by decide) zcl_X11_29 zis_X0 zini_X0 zdf_0 (Nat.le_of_ble_eq_true rfl) (Nat.le_of_ble_eq_true rfl) (fun hz36 => ?_)
  refine r_dup X rfl dX11_init_39 ?_
  refine r_callIN X dX11_init_40 zNe_X11_31 zini_X0 zinst_X0_init rfl zCd_X0_init (c_X0_init _ _ _ _ _ _ _ (by simp [zp, zu, na, na0, ha, Nat.add_assoc, tX6, rX6, iX6, tX0, rX0, iX0, tX2, rX2, iX2, tX5, rX5, iX5, tX4, rX4, iX4, tX8, rX8, iX8, tX9, rX9, iX9, tX3, rX3, iX3, tX1, rX1, iX1, tX7, rX7, iX7]) (by omega)) rfl rfl ⟨⟨rfl, rfl⟩, ⟨Nat.le_of_ble_eq_true rfl, Nat.le_of_ble_eq_true rfl⟩, ⟨Nat.le_of_ble_eq_true rfl, Nat.le_of_ble_eq_true rfl⟩, Nat.le_of_ble_eq_true rfl⟩ ?_
  rintro _ _ ⟨rfl, rfl⟩
  refine r_putFR (N := 0) X hin dX11_init_43 zF_X11_32 (by simp [zp, zu, na, na0, ha, Nat.add_assoc, tX6, rX6, iX6, tX0, rX0, iX0, tX2, rX2, iX2, tX5, rX5, iX5, tX4, rX4, iX4, tX8, rX8, iX8, tX9, rX9, iX9, tX3, rX3, iX3, tX1, rX1, iX1, tX7, rX7, iX7]) rfl rfl rfl rfl ?_
  refine r_aload_n X (by rfl) dX11_init_46 ?_
  refine r_new X 0 dX11_init_47 zCl_4 (by decide) zcl_X11_36 zis_X4 zini_X4 zdf_4 (Nat.le_of_ble_eq_true rfl) (Nat.le_of_ble_eq_true rfl) (fun hz47 => ?_)
  refine r_dup X rfl dX11_init_50 ?_
  refine r_callIN X dX11_init_51 zNe_X11_38 zini_X4 zinst_X4_init rfl zCd_X4_init (c_X4_init _ _ _ _ _ _ _ (by simp [zp, zu, na, na0, ha, Nat.add_assoc, tX6, rX6, iX6, tX0, rX0, iX0, tX2, rX2, iX2, tX5, rX5, iX5, tX4, rX4, iX4, tX8, rX8, iX8, tX9, rX9, iX9, tX3, rX3, iX3, tX1, rX1, iX1, tX7, rX7, iX7]) (by omega)) rfl rfl ⟨⟨rfl, rfl⟩, ⟨Nat.le_of_ble_eq_true rfl, Nat.le_of_ble_eq_true rfl⟩, ⟨Nat.le_of_ble_eq_true rfl, Nat.le_of_ble_eq_true rfl⟩, Nat.le_of_ble_eq_true rfl⟩ ?_
  rintro _ _ ⟨rfl, rfl⟩
  refine r_putFR (N := 0) X hin dX11_init_54 zF_X11_39 (by simp [zp, zu, na, na0, ha, Nat.add_assoc, tX6, rX6, iX6, tX0, rX0, iX0, tX2, rX2, iX2, tX5, rX5, iX5, tX4, rX4, iX4, tX8, rX8, iX8, tX9, rX9, iX9, tX3, rX3, iX3, tX1, rX1, iX1, tX7, rX7, iX7]) rfl rfl rfl rfl ?_
  refine r_aload_n X (by rfl) dX11_init_57 ?_
  refine r_new X 0 dX11_init_58 zCl_8 (by decide) zcl_X11_43 zis_X8 zini_X8 zdf_8 (Nat.le_of_ble_eq_true rfl) (Nat.le_of_ble_eq_true rfl) (fun hz58 => ?_)
  refine r_dup X rfl dX11_init_61 ?_
  refine r_callIN X dX11_init_62 zNe_X11_45 zini_X8 zinst_X8_init rfl zCd_X8_init (c_X8_init _ _ _ _ _ _ _ (by simp [zp, zu, na, na0, ha, Nat.add_assoc, tX6, rX6, iX6, tX0, rX0, iX0, tX2, rX2, iX2, tX5, rX5, iX5, tX4, rX4, iX4, tX8, rX8, iX8, tX9, rX9, iX9, tX3, rX3, iX3, tX1, rX1, iX1, tX7, rX7, iX7]) (by omega)) rfl rfl ⟨⟨rfl, rfl⟩, ⟨Nat.le_of_ble_eq_true rfl, Nat.le_of_ble_eq_true rfl⟩, ⟨Nat.le_of_ble_eq_true rfl, Nat.le_of_ble_eq_true rfl⟩, Nat.le_of_ble_eq_true rfl⟩ ?_
  rintro _ _ ⟨rfl, rfl⟩
  refine r_putFR (N := 0) X hin dX11_init_65 zF_X11_46 (by simp [zp, zu, na, na0, ha, Nat.add_assoc, tX6, rX6, iX6, tX0, rX0, iX0, tX2, rX2, iX2, tX5, rX5, iX5, tX4, rX4, iX4, tX8, rX8, iX8, tX9, rX9, iX9, tX3, rX3, iX3, tX1, rX1, iX1, tX7, rX7, iX7]) rfl rfl rfl rfl ?_
  refine r_aload_n X (by rfl) dX11_init_68 ?_
  refine r_iconst X 2 (by decide) dX11_init_69 ?_
  refine r_newR (t := 17) (q := 4) (N := 2) X dX11_init_70 zcl_X11_50 (fun U h => h.2.2.1) (by decide) rfl (by decide) rfl (by decide) (Nat.le_of_ble_eq_true rfl) (Nat.le_of_ble_eq_true rfl) (fun hz70 => ?_)
  refine r_putFR (N := 0) X hin dX11_init_73 zF_X11_52 (by simp [zp, zu, na, na0, ha, Nat.add_assoc, tX6, rX6, iX6, tX0, rX0, iX0, tX2, rX2, iX2, tX5, rX5, iX5, tX4, rX4, iX4, tX8, rX8, iX8, tX9, rX9, iX9, tX3, rX3, iX3, tX1, rX1, iX1, tX7, rX7, iX7]) rfl rfl rfl rfl ?_
  refine r_aload_n X (by rfl) dX11_init_76 ?_
  refine r_new X 0 dX11_init_77 zCl_3 (by decide) zcl_X11_56 zis_X3 zini_X3 zdf_3 (Nat.le_of_ble_eq_true rfl) (Nat.le_of_ble_eq_true rfl) (fun hz77 => ?_)
  refine r_dup X rfl dX11_init_80 ?_
  refine r_callIN X dX11_init_81 zNe_X11_58 zini_X3 zinst_X3_init rfl zCd_X3_init (c_X3_init _ _ _ _ _ _ _ (by simp [zp, zu, na, na0, ha, Nat.add_assoc, tX6, rX6, iX6, tX0, rX0, iX0, tX2, rX2, iX2, tX5, rX5, iX5, tX4, rX4, iX4, tX8, rX8, iX8, tX9, rX9, iX9, tX3, rX3, iX3, tX1, rX1, iX1, tX7, rX7, iX7]) (by omega)) rfl rfl ⟨⟨rfl, rfl⟩, ⟨Nat.le_of_ble_eq_true rfl, Nat.le_of_ble_eq_true rfl⟩, ⟨Nat.le_of_ble_eq_true rfl, Nat.le_of_ble_eq_true rfl⟩, Nat.le_of_ble_eq_true rfl⟩ ?_
  rintro _ _ ⟨rfl, rfl⟩
  refine r_putFR (N := 0) X hin dX11_init_84 zF_X11_59 (by simp [zp, zu, na, na0, ha, Nat.add_assoc, tX6, rX6, iX6, tX0, rX0, iX0, tX2, rX2, iX2, tX5, rX5, iX5, tX4, rX4, iX4, tX8, rX8, iX8, tX9, rX9, iX9, tX3, rX3, iX3, tX1, rX1, iX1, tX7, rX7, iX7]) rfl rfl rfl rfl ?_
  refine r_aload_n X (by rfl) dX11_init_87 ?_
  refine r_new X 0 dX11_init_88 zCl_1 (by decide) zcl_X11_63 zis_X1 zini_X1 zdf_1 (Nat.le_of_ble_eq_true rfl) (Nat.le_of_ble_eq_true rfl) (fun hz88 => ?_)
  refine r_dup X rfl dX11_init_91 ?_
  refine r_callIN X dX11_init_92 zNe_X11_65 zini_X1 zinst_X1_init rfl zCd_X1_init (c_X1_init _ _ _ _ _ _ _ (by simp [zp, zu, na, na0, ha, Nat.add_assoc, tX6, rX6, iX6, tX0, rX0, iX0, tX2, rX2, iX2, tX5, rX5, iX5, tX4, rX4, iX4, tX8, rX8, iX8, tX9, rX9, iX9, tX3, rX3, iX3, tX1, rX1, iX1, tX7, rX7, iX7]) (by omega)) rfl rfl ⟨⟨rfl, rfl⟩, ⟨Nat.le_of_ble_eq_true rfl, Nat.le_of_ble_eq_true rfl⟩, ⟨Nat.le_of_ble_eq_true rfl, Nat.le_of_ble_eq_true rfl⟩, Nat.le_of_ble_eq_true rfl⟩ ?_
  rintro _ _ ⟨rfl, rfl⟩
  refine r_putFR (N := 0) X hin dX11_init_95 zF_X11_66 (by simp [zp, zu, na, na0, ha, Nat.add_assoc, tX6, rX6, iX6, tX0, rX0, iX0, tX2, rX2, iX2, tX5, rX5, iX5, tX4, rX4, iX4, tX8, rX8, iX8, tX9, rX9, iX9, tX3, rX3, iX3, tX1, rX1, iX1, tX7, rX7, iX7]) rfl rfl rfl rfl ?_
  refine r_aload_n X (by rfl) dX11_init_98 ?_
  refine r_iconst X 0 (by decide) dX11_init_99 ?_
  refine r_putI (N := 0) X dX11_init_100 zF_X11_70 (by simp [zp, zu, na, na0, ha, Nat.add_assoc, tX6, rX6, iX6, tX0, rX0, iX0, tX2, rX2, iX2, tX5, rX5, iX5, tX4, rX4, iX4, tX8, rX8, iX8, tX9, rX9, iX9, tX3, rX3, iX3, tX1, rX1, iX1, tX7, rX7, iX7]) rfl rfl ?_
  refine r_aload_n X (by rfl) dX11_init_103 ?_
  refine r_sipush X 10000 (by decide) dX11_init_104 ?_
  refine r_putI (N := 0) X dX11_init_107 zF_X11_74 (by simp [zp, zu, na, na0, ha, Nat.add_assoc, tX6, rX6, iX6, tX0, rX0, iX0, tX2, rX2, iX2, tX5, rX5, iX5, tX4, rX4, iX4, tX8, rX8, iX8, tX9, rX9, iX9, tX3, rX3, iX3, tX1, rX1, iX1, tX7, rX7, iX7]) rfl rfl ?_
  refine r_aload_n X (by rfl) dX11_init_110 ?_
  refine r_iconst X 0 (by decide) dX11_init_111 ?_
  refine r_putI (N := 0) X dX11_init_112 zF_X11_77 (by simp [zp, zu, na, na0, ha, Nat.add_assoc, tX6, rX6, iX6, tX0, rX0, iX0, tX2, rX2, iX2, tX5, rX5, iX5, tX4, rX4, iX4, tX8, rX8, iX8, tX9, rX9, iX9, tX3, rX3, iX3, tX1, rX1, iX1, tX7, rX7, iX7]) rfl rfl ?_
  refine r_iconst X 0 (by decide) dX11_init_115 ?_
  refine r_istore_n X (by decide) dX11_init_116 ?_
  refine r_iload_n X (by rfl) dX11_init_117 ?_
  refine r_iconst X 2 (by decide) dX11_init_118 ?_
  refine r_icmp_ge X 141 dX11_init_119 (by decide) (fun h => absurd h (by decide)) (fun _ => ?_)
  refine r_aload_n X (by rfl) dX11_init_122 ?_
  refine r_getR (N := 0) (b := z + 27) X dX11_init_123 zF_X11_52 (by simp [zp, zu, na, na0, ha, Nat.add_assoc, tX6, rX6, iX6, tX0, rX0, iX0, tX2, rX2, iX2, tX5, rX5, iX5, tX4, rX4, iX4, tX8, rX8, iX8, tX9, rX9, iX9, tX3, rX3, iX3, tX1, rX1, iX1, tX7, rX7, iX7]) (by simp [zp, zu, na, na0, ha, Nat.add_assoc, tX6, rX6, iX6, tX0, rX0, iX0, tX2, rX2, iX2, tX5, rX5, iX5, tX4, rX4, iX4, tX8, rX8, iX8, tX9, rX9, iX9, tX3, rX3, iX3, tX1, rX1, iX1, tX7, rX7, iX7]) ?_
  refine r_iload_n X (by rfl) dX11_init_126 ?_
  refine r_new X 0 dX11_init_127 zCl_9 (by decide) zcl_X11_50 zis_X9 zini_X9 zdf_9 (Nat.le_of_ble_eq_true rfl) (Nat.le_of_ble_eq_true rfl) (fun hz127 => ?_)
  refine r_dup X rfl dX11_init_130 ?_
  refine r_callIN X dX11_init_131 zNe_X11_80 zini_X9 zinst_X9_init rfl zCd_X9_init (c_X9_init _ _ _ _ _ _ _ (by simp [zp, zu, na, na0, ha, Nat.add_assoc, tX6, rX6, iX6, tX0, rX0, iX0, tX2, rX2, iX2, tX5, rX5, iX5, tX4, rX4, iX4, tX8, rX8, iX8, tX9, rX9, iX9, tX3, rX3, iX3, tX1, rX1, iX1, tX7, rX7, iX7]) (by omega)) rfl rfl ⟨⟨rfl, rfl⟩, ⟨Nat.le_of_ble_eq_true rfl, Nat.le_of_ble_eq_true rfl⟩, ⟨Nat.le_of_ble_eq_true rfl, Nat.le_of_ble_eq_true rfl⟩, Nat.le_of_ble_eq_true rfl⟩ ?_
  rintro _ _ ⟨rfl, rfl⟩
  refine r_aastore (q := 4) (ci := 9) (t := 17) (N := 2) (N2 := 0) X dX11_init_134 (by simp [zp, zu, na, na0, ha, Nat.add_assoc, tX6, rX6, iX6, tX0, rX0, iX0, tX2, rX2, iX2, tX5, rX5, iX5, tX4, rX4, iX4, tX8, rX8, iX8, tX9, rX9, iX9, tX3, rX3, iX3, tX1, rX1, iX1, tX7, rX7, iX7]) (by decide) rfl (by decide) rfl (by simp [zp, zu, na, na0, ha, Nat.add_assoc, tX6, rX6, iX6, tX0, rX0, iX0, tX2, rX2, iX2, tX5, rX5, iX5, tX4, rX4, iX4, tX8, rX8, iX8, tX9, rX9, iX9, tX3, rX3, iX3, tX1, rX1, iX1, tX7, rX7, iX7]) (vp_in_iff.mpr ⟨by decide, by decide⟩) ?_
  refine r_iinc X 1 (by decide) (by rfl) (by decide) dX11_init_135 ?_
  refine r_goto X 117 dX11_init_138 (by decide) ?_
  refine r_iload_n X (by rfl) dX11_init_117 ?_
  refine r_iconst X 2 (by decide) dX11_init_118 ?_
  refine r_icmp_ge X 141 dX11_init_119 (by decide) (fun h => absurd h (by decide)) (fun _ => ?_)
  refine r_aload_n X (by rfl) dX11_init_122 ?_
  refine r_getR (N := 0) (b := z + 27) X dX11_init_123 zF_X11_52 (by simp [zp, zu, na, na0, ha, Nat.add_assoc, tX6, rX6, iX6, tX0, rX0, iX0, tX2, rX2, iX2, tX5, rX5, iX5, tX4, rX4, iX4, tX8, rX8, iX8, tX9, rX9, iX9, tX3, rX3, iX3, tX1, rX1, iX1, tX7, rX7, iX7]) (by simp [zp, zu, na, na0, ha, Nat.add_assoc, tX6, rX6, iX6, tX0, rX0, iX0, tX2, rX2, iX2, tX5, rX5, iX5, tX4, rX4, iX4, tX8, rX8, iX8, tX9, rX9, iX9, tX3, rX3, iX3, tX1, rX1, iX1, tX7, rX7, iX7]) ?_
  refine r_iload_n X (by rfl) dX11_init_126 ?_
  refine r_new X 0 dX11_init_127 zCl_9 (by decide) zcl_X11_50 zis_X9 zini_X9 zdf_9 (Nat.le_of_ble_eq_true rfl) (Nat.le_of_ble_eq_true rfl) (fun hz127 => ?_)
  refine r_dup X rfl dX11_init_130 ?_
  refine r_callIN X dX11_init_131 zNe_X11_80 zini_X9 zinst_X9_init rfl zCd_X9_init (c_X9_init _ _ _ _ _ _ _ (by simp [zp, zu, na, na0, ha, Nat.add_assoc, tX6, rX6, iX6, tX0, rX0, iX0, tX2, rX2, iX2, tX5, rX5, iX5, tX4, rX4, iX4, tX8, rX8, iX8, tX9, rX9, iX9, tX3, rX3, iX3, tX1, rX1, iX1, tX7, rX7, iX7]) (by omega)) rfl rfl ⟨⟨rfl, rfl⟩, ⟨Nat.le_of_ble_eq_true rfl, Nat.le_of_ble_eq_true rfl⟩, ⟨Nat.le_of_ble_eq_true rfl, Nat.le_of_ble_eq_true rfl⟩, Nat.le_of_ble_eq_true rfl⟩ ?_
  rintro _ _ ⟨rfl, rfl⟩
  refine r_aastore (q := 4) (ci := 9) (t := 17) (N := 2) (N2 := 0) X dX11_init_134 (by simp [zp, zu, na, na0, ha, Nat.add_assoc, tX6, rX6, iX6, tX0, rX0, iX0, tX2, rX2, iX2, tX5, rX5, iX5, tX4, rX4, iX4, tX8, rX8, iX8, tX9, rX9, iX9, tX3, rX3, iX3, tX1, rX1, iX1, tX7, rX7, iX7]) (by decide) rfl (by decide) rfl (by simp [zp, zu, na, na0, ha, Nat.add_assoc, tX6, rX6, iX6, tX0, rX0, iX0, tX2, rX2, iX2, tX5, rX5, iX5, tX4, rX4, iX4, tX8, rX8, iX8, tX9, rX9, iX9, tX3, rX3, iX3, tX1, rX1, iX1, tX7, rX7, iX7]) (vp_in_iff.mpr ⟨by decide, by decide⟩) ?_
  refine r_iinc X 1 (by decide) (by rfl) (by decide) dX11_init_135 ?_
  refine r_goto X 117 dX11_init_138 (by decide) ?_
  refine r_iload_n X (by rfl) dX11_init_117 ?_
  refine r_iconst X 2 (by decide) dX11_init_118 ?_
  refine r_icmp_ge X 141 dX11_init_119 (by decide) (fun _ => ?_) (fun h => absurd h (by decide))
  refine r_return X hR dX11_init_141 (Nat.le_of_ble_eq_true rfl) (Nat.le_of_ble_eq_true rfl) ?_
  exact ⟨rfl, _, rfl, hT9⟩
