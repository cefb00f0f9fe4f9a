/-! Laws (wip/gen/spec_f.py) -/
def zNum (l v : Int32) : Int64 := if l.toInt = 0 then v.toInt64 * v.toInt64 else if l.toInt = 1 then v.toInt64 * v.toInt64 * v.toInt64 else if l.toInt = 2 then (if v = 0 then 0 else (1000000 / v).toInt64) else v.toInt64 * (v + 1).toInt64 / 2
def zOrd (l i : Int32) : Int32 := if l = 2 then 60 - i else 1 + i
def zPl (l v s : Int32) : Int32 := if (zNum l (zOrd l 59) - zNum l (zOrd l 0)).toInt < 1 then 0 else ((2 * (zNum l v - zNum l (zOrd l 0)) * s.toInt64 + (zNum l (zOrd l 59) - zNum l (zOrd l 0))) / (2 * (zNum l (zOrd l 59) - zNum l (zOrd l 0)))).toInt32
theorem z2w {w : Int64} (h : 1 ≤ w.toInt) : ¬ (2 : Int64) * w = 0 := fun q => by
  have h2 := congrArg Int64.toInt q
  have h3 := w.toInt_lt
  rw [Int64.toInt_mul, show (2 : Int64).toInt = 2 from rfl, show (0 : Int64).toInt = 0 from rfl, Int.bmod_def] at h2
  omega
theorem zaddJ {x y : Int64} (h1 : -9223372036854775808 ≤ x.toInt + y.toInt) (h2 : x.toInt + y.toInt ≤ 9223372036854775807) : (x + y).toInt = x.toInt + y.toInt := by
  rw [Int64.toInt_add]
  exact Int.bmod_eq_of_le (by omega) (by omega)
theorem zsubJ {x y : Int64} (h1 : -9223372036854775808 ≤ x.toInt - y.toInt) (h2 : x.toInt - y.toInt ≤ 9223372036854775807) : (x - y).toInt = x.toInt - y.toInt := by
  rw [Int64.toInt_sub]
  exact Int.bmod_eq_of_le (by omega) (by omega)
theorem zmulJ {x y : Int64} (h1 : -9223372036854775808 ≤ x.toInt * y.toInt) (h2 : x.toInt * y.toInt ≤ 9223372036854775807) : (x * y).toInt = x.toInt * y.toInt := by
  rw [Int64.toInt_mul]
  exact Int.bmod_eq_of_le (by omega) (by omega)
theorem zdivJ {x y : Int64} (h1 : 0 ≤ x.toInt) (h2 : 0 < y.toInt) : (x / y).toInt = x.toInt / y.toInt := by
  have h3 := x.toInt_lt
  have h4 : x.toInt / y.toInt ≤ x.toInt := Int.ediv_le_self _ h1
  have h5 : 0 ≤ x.toInt / y.toInt := Int.ediv_nonneg h1 (by omega)
  rw [Int64.toInt_div, Int.tdiv_eq_ediv_of_nonneg h1, Int.bmod_eq_of_le (by omega) (by omega)]
theorem zmodJ {x y : Int64} (h1 : 0 ≤ x.toInt) : (x % y).toInt = x.toInt % y.toInt := by
  rw [Int64.toInt_mod, Int.tmod_eq_emod_of_nonneg h1]
set_option maxHeartbeats 4000000 in
set_option maxRecDepth 100000 in
theorem c_X1_isLaw (l : Launch) (G : zG) (z : Nat) (τ : Nat → Option (Nat × Nat)) (ρ : Nat → Nat → Option Nat) (ι : Nat → Nat → Int32) (κ : Nat → Nat → Int64) (x : Int32) : zM l G yX1_isLaw cX1_isLaw 1 (some .boolean) ({ frames := 0, cells := 0, slots := 0, locals := 0 } : Room) [.int x] (z, τ, ρ, ι, κ) (fun v s => v = some (.int (if 0 ≤ x.toInt ∧ x.toInt ≤ 3 then 1 else 0)) ∧ s = (z, τ, ρ, ι, κ)) 0 0 := by
  refine zM_of zCd_X1_isLaw (Nat.le_of_ble_eq_true rfl) ?_
  intro E X hR hE
  subst hE
  show zW E G 1 (z, τ, ρ, ι, κ) 0 0 0 [(0, .int x)] []
  refine r_iload_n X (by rfl) dX1_isLaw_0 ?_
  refine r_if_lt X 13 dX1_isLaw_1 (by decide) (fun h1 => ?_) (fun h1 => ?_)
  · refine r_iconst X 0 (by decide) dX1_isLaw_13 ?_
    refine r_ireturn X hR dX1_isLaw_14 rfl (Nat.zero_le _) (Nat.zero_le _) ?_
    exact ⟨by first | rw [if_pos (by omega)] | rw [if_neg (by omega)], rfl⟩
  · refine r_iload_n X (by rfl) dX1_isLaw_4 ?_
    refine r_iconst X 3 (by decide) dX1_isLaw_5 ?_
    refine r_icmp_gt X 13 dX1_isLaw_6 (by decide) (fun h6 => ?_) (fun h6 => ?_)
    · rw [show Int32.toInt 3 = 3 from rfl] at h6
      refine r_iconst X 0 (by decide) dX1_isLaw_13 ?_
      refine r_ireturn X hR dX1_isLaw_14 rfl (Nat.zero_le _) (Nat.zero_le _) ?_
      exact ⟨by first | rw [if_pos (by omega)] | rw [if_neg (by omega)], rfl⟩
    · rw [show Int32.toInt 3 = 3 from rfl] at h6
      refine r_iconst X 1 (by decide) dX1_isLaw_9 ?_
      refine r_goto X 14 dX1_isLaw_10 (by decide) ?_
      refine r_ireturn X hR dX1_isLaw_14 rfl (Nat.zero_le _) (Nat.zero_le _) ?_
      exact ⟨by first | rw [if_pos (by omega)] | rw [if_neg (by omega)], rfl⟩
set_option maxHeartbeats 4000000 in
set_option maxRecDepth 100000 in
theorem c_X1_numberOf (l : Launch) (G : zG) (z : Nat) (τ : Nat → Option (Nat × Nat)) (ρ : Nat → Nat → Option Nat) (ι : Nat → Nat → Int32) (κ : Nat → Nat → Int64) (x y : Int32) : zM l G yX1_numberOf cX1_numberOf 2 (some .long) ({ frames := 0, cells := 0, slots := 0, locals := 0 } : Room) [.int x, .int y] (z, τ, ρ, ι, κ) (fun v s => v = some (.long (zNum x y)) ∧ s = (z, τ, ρ, ι, κ)) 0 0 := by
  refine zM_of zCd_X1_numberOf (Nat.le_of_ble_eq_true rfl) ?_
  intro E X hR hE
  subst hE
  show zW E G 2 (z, τ, ρ, ι, κ) 0 0 0 [(0, .int x), (1, .int y)] []
  refine r_iload_n X (by rfl) dX1_numberOf_0 ?_
  have hsw : x.toInt = 0 + 0 ∨ x.toInt = 0 + 1 ∨ x.toInt = 0 + 2 ∨ (x.toInt < 0 ∨ 2 < x.toInt) := by omega
  rcases hsw with hs | hs | hs | hs
  · refine r_tableIn X (j0 := 0) 28 dX1_numberOf_1 hs rfl (by decide) (by decide) (by decide) ?_
    refine r_iload_n X (by rfl) dX1_numberOf_28 ?_
    refine r_i2l X dX1_numberOf_29 ?_
    refine r_iload_n X (by rfl) dX1_numberOf_30 ?_
    refine r_i2l X dX1_numberOf_31 ?_
    refine r_lmul X dX1_numberOf_32 ?_
    refine r_lreturn X hR dX1_numberOf_33 (Nat.zero_le _) (Nat.zero_le _) ?_
    exact ⟨by unfold zNum; first | (rw [if_pos (by omega)]) | (rw [if_neg (by omega), if_pos (by omega)]) | (rw [if_neg (by omega), if_neg (by omega), if_pos (by omega), if_pos h44]) | (rw [if_neg (by omega), if_neg (by omega), if_pos (by omega), if_neg h44]) | (rw [if_neg (by omega), if_neg (by omega), if_neg (by omega)]), rfl⟩
  · refine r_tableIn X (j0 := 1) 34 dX1_numberOf_1 hs rfl (by decide) (by decide) (by decide) ?_
    refine r_iload_n X (by rfl) dX1_numberOf_34 ?_
    refine r_i2l X dX1_numberOf_35 ?_
    refine r_iload_n X (by rfl) dX1_numberOf_36 ?_
    refine r_i2l X dX1_numberOf_37 ?_
    refine r_lmul X dX1_numberOf_38 ?_
    refine r_iload_n X (by rfl) dX1_numberOf_39 ?_
    refine r_i2l X dX1_numberOf_40 ?_
    refine r_lmul X dX1_numberOf_41 ?_
    refine r_lreturn X hR dX1_numberOf_42 (Nat.zero_le _) (Nat.zero_le _) ?_
    exact ⟨by unfold zNum; first | (rw [if_pos (by omega)]) | (rw [if_neg (by omega), if_pos (by omega)]) | (rw [if_neg (by omega), if_neg (by omega), if_pos (by omega), if_pos h44]) | (rw [if_neg (by omega), if_neg (by omega), if_pos (by omega), if_neg h44]) | (rw [if_neg (by omega), if_neg (by omega), if_neg (by omega)]), rfl⟩
  · refine r_tableIn X (j0 := 2) 43 dX1_numberOf_1 hs rfl (by decide) (by decide) (by decide) ?_
    refine r_iload_n X (by rfl) dX1_numberOf_43 ?_
    refine r_if_ne X 51 dX1_numberOf_44 (by decide) (fun h44 => ?_) (fun h44 => ?_)
    · refine r_ldc X zK_X1_13 dX1_numberOf_51 ?_
      refine r_iload_n X (by rfl) dX1_numberOf_53 ?_
      refine r_idiv X h44 dX1_numberOf_54 ?_
      refine r_i2l X dX1_numberOf_55 ?_
      refine r_lreturn X hR dX1_numberOf_56 (Nat.zero_le _) (Nat.zero_le _) ?_
      exact ⟨by unfold zNum; first | (rw [if_pos (by omega)]) | (rw [if_neg (by omega), if_pos (by omega)]) | (rw [if_neg (by omega), if_neg (by omega), if_pos (by omega), if_pos h44]) | (rw [if_neg (by omega), if_neg (by omega), if_pos (by omega), if_neg h44]) | (rw [if_neg (by omega), if_neg (by omega), if_neg (by omega)]), rfl⟩
    · refine r_lconst X 0 (by decide) dX1_numberOf_47 ?_
      refine r_goto X 56 dX1_numberOf_48 (by decide) ?_
      refine r_lreturn X hR dX1_numberOf_56 (Nat.zero_le _) (Nat.zero_le _) ?_
      exact ⟨by unfold zNum; first | (rw [if_pos (by omega)]) | (rw [if_neg (by omega), if_pos (by omega)]) | (rw [if_neg (by omega), if_neg (by omega), if_pos (by omega), if_pos h44]) | (rw [if_neg (by omega), if_neg (by omega), if_pos (by omega), if_neg h44]) | (rw [if_neg (by omega), if_neg (by omega), if_neg (by omega)]), rfl⟩
  · refine r_tableOut X 57 dX1_numberOf_1 hs (by decide) ?_
    refine r_iload_n X (by rfl) dX1_numberOf_57 ?_
    refine r_i2l X dX1_numberOf_58 ?_
    refine r_iload_n X (by rfl) dX1_numberOf_59 ?_
    refine r_iconst X 1 (by decide) dX1_numberOf_60 ?_
    refine r_iadd X dX1_numberOf_61 ?_
    refine r_i2l X dX1_numberOf_62 ?_
    refine r_lmul X dX1_numberOf_63 ?_
    refine r_ldc2 X zK_X1_14 dX1_numberOf_64 ?_
    refine r_ldiv X (by decide) dX1_numberOf_67 ?_
    refine r_lreturn X hR dX1_numberOf_68 (Nat.zero_le _) (Nat.zero_le _) ?_
    exact ⟨by unfold zNum; first | (rw [if_pos (by omega)]) | (rw [if_neg (by omega), if_pos (by omega)]) | (rw [if_neg (by omega), if_neg (by omega), if_pos (by omega), if_pos h44]) | (rw [if_neg (by omega), if_neg (by omega), if_pos (by omega), if_neg h44]) | (rw [if_neg (by omega), if_neg (by omega), if_neg (by omega)]), rfl⟩
set_option maxHeartbeats 4000000 in
set_option maxRecDepth 100000 in
theorem c_X1_inOrder (l : Launch) (G : zG) (z : Nat) (τ : Nat → Option (Nat × Nat)) (ρ : Nat → Nat → Option Nat) (ι : Nat → Nat → Int32) (κ : Nat → Nat → Int64) (x y : Int32) : zM l G yX1_inOrder cX1_inOrder 2 (some .int) ({ frames := 0, cells := 0, slots := 0, locals := 0 } : Room) [.int x, .int y] (z, τ, ρ, ι, κ) (fun v s => v = some (.int (zOrd x y)) ∧ s = (z, τ, ρ, ι, κ)) 0 0 := by
  refine zM_of zCd_X1_inOrder (Nat.le_of_ble_eq_true rfl) ?_
  intro E X hR hE
  subst hE
  show zW E G 2 (z, τ, ρ, ι, κ) 0 0 0 [(0, .int x), (1, .int y)] []
  refine r_iload_n X (by rfl) dX1_inOrder_0 ?_
  refine r_iconst X 2 (by decide) dX1_inOrder_1 ?_
  refine r_icmp_ne X 12 dX1_inOrder_2 (by decide) (fun h2 => ?_) (fun h2 => ?_)
  · refine r_iconst X 1 (by decide) dX1_inOrder_12 ?_
    refine r_iload_n X (by rfl) dX1_inOrder_13 ?_
    refine r_iadd X dX1_inOrder_14 ?_
    refine r_ireturn X hR dX1_inOrder_15 rfl (Nat.zero_le _) (Nat.zero_le _) ?_
    exact ⟨by unfold zOrd; first | rw [if_pos h2] | rw [if_neg h2], rfl⟩
  · refine r_bipush X 60 (by decide) dX1_inOrder_5 ?_
    refine r_iload_n X (by rfl) dX1_inOrder_7 ?_
    refine r_isub X dX1_inOrder_8 ?_
    refine r_goto X 15 dX1_inOrder_9 (by decide) ?_
    refine r_ireturn X hR dX1_inOrder_15 rfl (Nat.zero_le _) (Nat.zero_le _) ?_
    exact ⟨by unfold zOrd; first | rw [if_pos h2] | rw [if_neg h2], rfl⟩
set_option maxHeartbeats 4000000 in
set_option maxRecDepth 100000 in
theorem c_X1_placeOf (l : Launch) (G : zG) (z : Nat) (τ : Nat → Option (Nat × Nat)) (ρ : Nat → Nat → Option Nat) (ι : Nat → Nat → Int32) (κ : Nat → Nat → Int64) (x y u : Int32) : zM l G yX1_placeOf cX1_placeOf 7 (some .int) ({ frames := 1, cells := 0, slots := 0, locals := 21 } : Room) [.int x, .int y, .int u] (z, τ, ρ, ι, κ) (fun v s => v = some (.int (zPl x y u)) ∧ s = (z, τ, ρ, ι, κ)) 0 0 := by
  refine zM_of zCd_X1_placeOf (Nat.le_of_ble_eq_true rfl) ?_
  intro E X hR hE
  subst hE
  show zW E G 7 (z, τ, ρ, ι, κ) 0 0 0 [(0, .int x), (1, .int y), (2, .int u)] []
  refine r_iload_n X (by rfl) dX1_placeOf_0 ?_
  refine r_iload_n X (by rfl) dX1_placeOf_1 ?_
  refine r_iconst X 0 (by decide) dX1_placeOf_2 ?_
  refine r_callS X dX1_placeOf_3 zLS_X1_16 zCd_X1_inOrder (c_X1_inOrder _ G z τ ρ _ _ _ _) rfl rfl ⟨⟨rfl, rfl⟩, ⟨by decide, by decide⟩, ⟨Nat.le_of_ble_eq_true rfl, Nat.le_of_ble_eq_true rfl⟩, Nat.le_of_ble_eq_true rfl⟩ ?_
  rintro _ _ ⟨rfl, rfl⟩
  refine r_callS X dX1_placeOf_6 zLS_X1_20 zCd_X1_numberOf (c_X1_numberOf _ G z τ ρ _ _ _ _) rfl rfl ⟨⟨rfl, rfl⟩, ⟨by decide, by decide⟩, ⟨Nat.le_of_ble_eq_true rfl, Nat.le_of_ble_eq_true rfl⟩, Nat.le_of_ble_eq_true rfl⟩ ?_
  rintro _ _ ⟨rfl, rfl⟩
  refine r_lstore_n X (by decide) dX1_placeOf_9 ?_
  refine r_iload_n X (by rfl) dX1_placeOf_10 ?_
  refine r_iload_n X (by rfl) dX1_placeOf_11 ?_
  refine r_bipush X 59 (by decide) dX1_placeOf_12 ?_
  refine r_callS X dX1_placeOf_14 zLS_X1_16 zCd_X1_inOrder (c_X1_inOrder _ G z τ ρ _ _ _ _) rfl rfl ⟨⟨rfl, rfl⟩, ⟨by decide, by decide⟩, ⟨Nat.le_of_ble_eq_true rfl, Nat.le_of_ble_eq_true rfl⟩, Nat.le_of_ble_eq_true rfl⟩ ?_
  rintro _ _ ⟨rfl, rfl⟩
  refine r_callS X dX1_placeOf_17 zLS_X1_20 zCd_X1_numberOf (c_X1_numberOf _ G z τ ρ _ _ _ _) rfl rfl ⟨⟨rfl, rfl⟩, ⟨by decide, by decide⟩, ⟨Nat.le_of_ble_eq_true rfl, Nat.le_of_ble_eq_true rfl⟩, Nat.le_of_ble_eq_true rfl⟩ ?_
  rintro _ _ ⟨rfl, rfl⟩
  refine r_lload_n X (by rfl) dX1_placeOf_20 ?_
  refine r_lsub X dX1_placeOf_21 ?_
  refine r_lstore X (by decide) dX1_placeOf_22 ?_
  refine r_lload X (by rfl) dX1_placeOf_24 ?_
  refine r_lconst X 1 (by decide) dX1_placeOf_26 ?_
  refine r_lcmp_ge X 33 dX1_placeOf_27 dX1_placeOf_28 (by decide) (fun h27 => ?_) (fun h27 => ?_)
  · rw [show Int64.toInt 1 = 1 from rfl] at h27
    refine r_ldc2 X zK_X1_14 dX1_placeOf_33 ?_
    refine r_iload_n X (by rfl) dX1_placeOf_36 ?_
    refine r_iload_n X (by rfl) dX1_placeOf_37 ?_
    refine r_callS X dX1_placeOf_38 zLS_X1_20 zCd_X1_numberOf (c_X1_numberOf _ G z τ ρ _ _ _ _) rfl rfl ⟨⟨rfl, rfl⟩, ⟨by decide, by decide⟩, ⟨Nat.le_of_ble_eq_true rfl, Nat.le_of_ble_eq_true rfl⟩, Nat.le_of_ble_eq_true rfl⟩ ?_
    rintro _ _ ⟨rfl, rfl⟩
    refine r_lload_n X (by rfl) dX1_placeOf_41 ?_
    refine r_lsub X dX1_placeOf_42 ?_
    refine r_lmul X dX1_placeOf_43 ?_
    refine r_iload_n X (by rfl) dX1_placeOf_44 ?_
    refine r_i2l X dX1_placeOf_45 ?_
    refine r_lmul X dX1_placeOf_46 ?_
    refine r_lload X (by rfl) dX1_placeOf_47 ?_
    refine r_ladd X dX1_placeOf_49 ?_
    refine r_ldc2 X zK_X1_14 dX1_placeOf_50 ?_
    refine r_lload X (by rfl) dX1_placeOf_53 ?_
    refine r_lmul X dX1_placeOf_55 ?_
    refine r_ldiv X (z2w h27) dX1_placeOf_56 ?_
    refine r_l2i X dX1_placeOf_57 ?_
    refine r_ireturn X hR dX1_placeOf_58 rfl (Nat.zero_le _) (Nat.zero_le _) ?_
    exact ⟨by unfold zPl; rw [if_neg (by omega)], rfl⟩
  · rw [show Int64.toInt 1 = 1 from rfl] at h27
    refine r_iconst X 0 (by decide) dX1_placeOf_31 ?_
    refine r_ireturn X hR dX1_placeOf_32 rfl (Nat.zero_le _) (Nat.zero_le _) ?_
    exact ⟨by unfold zPl; rw [if_pos (by omega)], rfl⟩
set_option maxHeartbeats 4000000 in
set_option maxRecDepth 100000 in
theorem c_X1_doublesFrom (l : Launch) (G : zG) (z : Nat) (τ : Nat → Option (Nat × Nat)) (ρ : Nat → Nat → Option Nat) (ι : Nat → Nat → Int32) (κ : Nat → Nat → Int64) {a pl M : Nat} (ha : τ a = some (1, M)) (g0 : ρ a 0 = some pl) (hpl : τ pl = some (13, 60)) (x : Int32) (x0 : 0 ≤ x.toInt) (x1 : x.toInt < 60) : zM l G yX1_doublesFrom cX1_doublesFrom 6 (some .int) ({ frames := 0, cells := 0, slots := 0, locals := 0 } : Room) [.ref a, .int x] (z, τ, ρ, ι, κ) (fun v s => ∃ r, v = some (.int r) ∧ s = (z, τ, ρ, ι, κ)) 0 0 := by
  refine zM_of zCd_X1_doublesFrom (Nat.le_of_ble_eq_true rfl) ?_
  intro E X hR hE
  subst hE
  show zW E G 6 (z, τ, ρ, ι, κ) 0 0 0 [(0, .ref a), (1, .int x)] []
  have L9 : ∀ (m : Nat) (i p q : Int32), (60 - i.toInt).toNat < m → 0 ≤ i.toInt → 0 ≤ q.toInt → zW E G 6 (z, τ, ρ, ι, κ) 0 0 9 [(0, .ref a), (1, .int x), (2, .int p), (3, .int q), (4, .int i)] [] := by
    intro m
    induction m with
    | zero => intro i p q h; omega
    | succ m ih => ?_
    intro i p q hm h0 hq
    have L32 : i.toInt < 60 → ∀ (m2 : Nat) (q u : Int32), (60 - q.toInt).toNat < m2 → 0 ≤ q.toInt → zW E G 6 (z, τ, ρ, ι, κ) 0 0 32 [(0, .ref a), (1, .int x), (2, .int p), (3, .int q), (4, .int i), (5, .int u)] [] := by
      intro hi m2
      induction m2 with
      | zero => intro q u h; omega
      | succ m2 ih2 => ?_
      intro q u hm2 hq2
      refine r_iload_n X (by rfl) dX1_doublesFrom_32 ?_
      refine r_bipush X 60 (by decide) dX1_doublesFrom_33 ?_
      refine r_icmp_ge X 55 dX1_doublesFrom_35 (by decide) (fun h35 => ?_) (fun h35 => ?_)
      · rw [show Int32.toInt 60 = 60 from rfl] at h35
        refine r_iload_n X (by rfl) dX1_doublesFrom_55 ?_
        refine r_bipush X 60 (by decide) dX1_doublesFrom_56 ?_
        refine r_icmp_ge X 75 dX1_doublesFrom_58 (by decide) (fun h58 => ?_) (fun h58 => ?_)
        · rw [show Int32.toInt 60 = 60 from rfl] at h58
          refine r_iinc X 1 (by decide) (by rfl) (by decide) dX1_doublesFrom_75 ?_
          refine r_goto X 9 dX1_doublesFrom_78 (by decide) ?_
          exact zW.loc5 (by rfl) (by rfl) (by rfl) (by rfl) (by rfl) (ih _ _ _ (by have e := zinc (x := i) (by omega); omega) (by have e := zinc (x := i) (by omega); omega) hq2)
        · rw [show Int32.toInt 60 = 60 from rfl] at h58
          refine r_aload_n X (by rfl) dX1_doublesFrom_61 ?_
          refine r_getR X dX1_doublesFrom_62 zF_X1_9 ha g0 ?_
          refine r_iload_n X (by rfl) dX1_doublesFrom_65 ?_
          refine r_iaload X dX1_doublesFrom_66 hpl (vp_in_iff.mpr ⟨hq2, by omega⟩) ?_
          refine r_iload X (by rfl) dX1_doublesFrom_67 ?_
          refine r_icmp_ne X 75 dX1_doublesFrom_69 (by decide) (fun h69 => ?_) (fun h69 => ?_)
          · refine r_iinc X 1 (by decide) (by rfl) (by decide) dX1_doublesFrom_75 ?_
            refine r_goto X 9 dX1_doublesFrom_78 (by decide) ?_
            exact zW.loc5 (by rfl) (by rfl) (by rfl) (by rfl) (by rfl) (ih _ _ _ (by have e := zinc (x := i) (by omega); omega) (by have e := zinc (x := i) (by omega); omega) hq2)
          · refine r_iinc X 1 (by decide) (by rfl) (by decide) dX1_doublesFrom_72 ?_
            refine r_iinc X 1 (by decide) (by rfl) (by decide) dX1_doublesFrom_75 ?_
            refine r_goto X 9 dX1_doublesFrom_78 (by decide) ?_
            exact zW.loc5 (by rfl) (by rfl) (by rfl) (by rfl) (by rfl) (ih _ _ _ (by have e := zinc (x := i) (by omega); omega) (by have e := zinc (x := i) (by omega); omega) hq2)
      · rw [show Int32.toInt 60 = 60 from rfl] at h35
        refine r_aload_n X (by rfl) dX1_doublesFrom_38 ?_
        refine r_getR X dX1_doublesFrom_39 zF_X1_9 ha g0 ?_
        refine r_iload_n X (by rfl) dX1_doublesFrom_42 ?_
        refine r_iaload X dX1_doublesFrom_43 hpl (vp_in_iff.mpr ⟨hq2, by omega⟩) ?_
        refine r_iload X (by rfl) dX1_doublesFrom_44 ?_
        refine r_icmp_ge X 55 dX1_doublesFrom_46 (by decide) (fun h46 => ?_) (fun h46 => ?_)
        · refine r_iload_n X (by rfl) dX1_doublesFrom_55 ?_
          refine r_bipush X 60 (by decide) dX1_doublesFrom_56 ?_
          refine r_icmp_ge X 75 dX1_doublesFrom_58 (by decide) (fun h58 => ?_) (fun h58 => ?_)
          · rw [show Int32.toInt 60 = 60 from rfl] at h58
            refine r_iinc X 1 (by decide) (by rfl) (by decide) dX1_doublesFrom_75 ?_
            refine r_goto X 9 dX1_doublesFrom_78 (by decide) ?_
            exact zW.loc5 (by rfl) (by rfl) (by rfl) (by rfl) (by rfl) (ih _ _ _ (by have e := zinc (x := i) (by omega); omega) (by have e := zinc (x := i) (by omega); omega) hq2)
          · rw [show Int32.toInt 60 = 60 from rfl] at h58
            refine r_aload_n X (by rfl) dX1_doublesFrom_61 ?_
            refine r_getR X dX1_doublesFrom_62 zF_X1_9 ha g0 ?_
            refine r_iload_n X (by rfl) dX1_doublesFrom_65 ?_
            refine r_iaload X dX1_doublesFrom_66 hpl (vp_in_iff.mpr ⟨hq2, by omega⟩) ?_
            refine r_iload X (by rfl) dX1_doublesFrom_67 ?_
            refine r_icmp_ne X 75 dX1_doublesFrom_69 (by decide) (fun h69 => ?_) (fun h69 => ?_)
            · refine r_iinc X 1 (by decide) (by rfl) (by decide) dX1_doublesFrom_75 ?_
              refine r_goto X 9 dX1_doublesFrom_78 (by decide) ?_
              exact zW.loc5 (by rfl) (by rfl) (by rfl) (by rfl) (by rfl) (ih _ _ _ (by have e := zinc (x := i) (by omega); omega) (by have e := zinc (x := i) (by omega); omega) hq2)
            · refine r_iinc X 1 (by decide) (by rfl) (by decide) dX1_doublesFrom_72 ?_
              refine r_iinc X 1 (by decide) (by rfl) (by decide) dX1_doublesFrom_75 ?_
              refine r_goto X 9 dX1_doublesFrom_78 (by decide) ?_
              exact zW.loc5 (by rfl) (by rfl) (by rfl) (by rfl) (by rfl) (ih _ _ _ (by have e := zinc (x := i) (by omega); omega) (by have e := zinc (x := i) (by omega); omega) hq2)
        · refine r_iinc X 1 (by decide) (by rfl) (by decide) dX1_doublesFrom_49 ?_
          refine r_goto X 32 dX1_doublesFrom_52 (by decide) ?_
          exact zW.loc6 (by rfl) (by rfl) (by rfl) (by rfl) (by rfl) (by rfl) (ih2 _ _ (by have e := zinc (x := q) (by omega); omega) (by have e := zinc (x := q) (by omega); omega))
    refine r_iload X (by rfl) dX1_doublesFrom_9 ?_
    refine r_bipush X 60 (by decide) dX1_doublesFrom_11 ?_
    refine r_icmp_ge X 81 dX1_doublesFrom_13 (by decide) (fun h13 => ?_) (fun h13 => ?_)
    · rw [show Int32.toInt 60 = 60 from rfl] at h13
      refine r_iload_n X (by rfl) dX1_doublesFrom_81 ?_
      refine r_ireturn X hR dX1_doublesFrom_82 rfl (Nat.zero_le _) (Nat.zero_le _) ?_
      exact ⟨_, rfl, rfl⟩
    · rw [show Int32.toInt 60 = 60 from rfl] at h13
      refine r_aload_n X (by rfl) dX1_doublesFrom_16 ?_
      refine r_getR X dX1_doublesFrom_17 zF_X1_9 ha g0 ?_
      refine r_iload_n X (by rfl) dX1_doublesFrom_20 ?_
      refine r_iaload X dX1_doublesFrom_21 hpl (vp_in_iff.mpr ⟨x0, by omega⟩) ?_
      refine r_aload_n X (by rfl) dX1_doublesFrom_22 ?_
      refine r_getR X dX1_doublesFrom_23 zF_X1_9 ha g0 ?_
      refine r_iload X (by rfl) dX1_doublesFrom_26 ?_
      refine r_iaload X dX1_doublesFrom_28 hpl (vp_in_iff.mpr ⟨h0, by omega⟩) ?_
      refine r_iadd X dX1_doublesFrom_29 ?_
      refine r_istore X (by decide) dX1_doublesFrom_30 ?_
      exact zW.loc6 (by rfl) (by rfl) (by rfl) (by rfl) (by rfl) (by rfl) (L32 h13 61 _ _ (by omega) hq)
  refine r_iconst X 0 (by decide) dX1_doublesFrom_0 ?_
  refine r_istore_n X (by decide) dX1_doublesFrom_1 ?_
  refine r_iconst X 0 (by decide) dX1_doublesFrom_2 ?_
  refine r_istore_n X (by decide) dX1_doublesFrom_3 ?_
  refine r_iload_n X (by rfl) dX1_doublesFrom_4 ?_
  refine r_iconst X 1 (by decide) dX1_doublesFrom_5 ?_
  refine r_iadd X dX1_doublesFrom_6 ?_
  refine r_istore X (by decide) dX1_doublesFrom_7 ?_
  exact zW.loc5 (by rfl) (by rfl) (by rfl) (by rfl) (by rfl) (L9 61 _ _ _ (by have e := zinc (x := x) (by omega); omega) (by have e := zinc (x := x) (by omega); omega) (by decide))
set_option maxHeartbeats 4000000 in
set_option maxRecDepth 100000 in
theorem c_X1_doublesOf (l : Launch) (G : zG) (z : Nat) (τ : Nat → Option (Nat × Nat)) (ρ : Nat → Nat → Option Nat) (ι : Nat → Nat → Int32) (κ : Nat → Nat → Int64) {a pl M : Nat} (ha : τ a = some (1, M)) (g0 : ρ a 0 = some pl) (hpl : τ pl = some (13, 60)) (x y : Int32) : zM l G yX1_doublesOf cX1_doublesOf 5 (some .int) ({ frames := 2, cells := 0, slots := 0, locals := 47 } : Room) [.ref a, .int x, .int y] (z, τ, ρ, ι, κ) (fun v s => ∃ r ι2, v = some (.int r) ∧ s = (z, τ, ρ, ι2, κ) ∧ ∀ b, b ≠ pl → ι2 b = ι b) 0 0 := by
  refine zM_of zCd_X1_doublesOf (Nat.le_of_ble_eq_true rfl) ?_
  intro E X hR hE
  subst hE
  show zW E G 5 (z, τ, ρ, ι, κ) 0 0 0 [(0, .ref a), (1, .int x), (2, .int y)] []
  have L35 : ∀ (m : Nat) (i p : Int32) (ι1 : Nat → Nat → Int32), (60 - i.toInt).toNat < m → 0 ≤ i.toInt → (∀ b, b ≠ pl → ι1 b = ι b) → zW E G 5 (z, τ, ρ, ι1, κ) 0 0 35 [(0, .ref a), (1, .int x), (2, .int y), (3, .int p), (4, .int i)] [] := by
    intro m
    induction m with
    | zero => intro i p ι1 h; omega
    | succ m ih => ?_
    intro i p ι1 hm h0 hf
    refine r_iload X (by rfl) dX1_doublesOf_35 ?_
    refine r_bipush X 60 (by decide) dX1_doublesOf_37 ?_
    refine r_icmp_ge X 57 dX1_doublesOf_39 (by decide) (fun h39 => ?_) (fun h39 => ?_)
    · rw [show Int32.toInt 60 = 60 from rfl] at h39
      refine r_iload_n X (by rfl) dX1_doublesOf_57 ?_
      refine r_ireturn X hR dX1_doublesOf_58 rfl (Nat.zero_le _) (Nat.zero_le _) ?_
      exact ⟨_, _, rfl, rfl, hf⟩
    · rw [show Int32.toInt 60 = 60 from rfl] at h39
      refine r_iload_n X (by rfl) dX1_doublesOf_42 ?_
      refine r_aload_n X (by rfl) dX1_doublesOf_43 ?_
      refine r_iload X (by rfl) dX1_doublesOf_44 ?_
      refine r_callV X dX1_doublesOf_46 zLV_X1_28 zCd_X1_doublesFrom (c_X1_doublesFrom _ G z τ ρ _ _ ha g0 hpl _ h0 (by omega)) ha ⟨by decide, rfl, rfl⟩ rfl rfl ⟨⟨rfl, rfl⟩, ⟨by decide, by decide⟩, ⟨Nat.le_of_ble_eq_true rfl, Nat.le_of_ble_eq_true rfl⟩, Nat.le_of_ble_eq_true rfl⟩ ?_
      rintro _ _ ⟨r, rfl, rfl⟩
      refine r_iadd X dX1_doublesOf_49 ?_
      refine r_istore_n X (by decide) dX1_doublesOf_50 ?_
      refine r_iinc X 1 (by decide) (by rfl) (by decide) dX1_doublesOf_51 ?_
      refine r_goto X 35 dX1_doublesOf_54 (by decide) ?_
      exact zW.loc5 (by rfl) (by rfl) (by rfl) (by rfl) (by rfl) (ih _ _ _ (by have e := zinc (x := i) (by omega); omega) (by have e := zinc (x := i) (by omega); omega) hf)
  have L2 : ∀ (m : Nat) (i : Int32) (ι1 : Nat → Nat → Int32), (60 - i.toInt).toNat < m → 0 ≤ i.toInt → (∀ b, b ≠ pl → ι1 b = ι b) → zW E G 5 (z, τ, ρ, ι1, κ) 0 0 2 [(0, .ref a), (1, .int x), (2, .int y), (3, .int i)] [] := by
    intro m
    induction m with
    | zero => intro i ι1 h; omega
    | succ m ih => ?_
    intro i ι1 hm h0 hf
    refine r_iload_n X (by rfl) dX1_doublesOf_2 ?_
    refine r_bipush X 60 (by decide) dX1_doublesOf_3 ?_
    refine r_icmp_ge X 30 dX1_doublesOf_5 (by decide) (fun h5 => ?_) (fun h5 => ?_)
    · rw [show Int32.toInt 60 = 60 from rfl] at h5
      refine r_iconst X 0 (by decide) dX1_doublesOf_30 ?_
      refine r_istore_n X (by decide) dX1_doublesOf_31 ?_
      refine r_iconst X 0 (by decide) dX1_doublesOf_32 ?_
      refine r_istore X (by decide) dX1_doublesOf_33 ?_
      exact zW.loc5 (by rfl) (by rfl) (by rfl) (by rfl) (by rfl) (L35 61 _ _ _ (by decide) (by decide) hf)
    · rw [show Int32.toInt 60 = 60 from rfl] at h5
      refine r_aload_n X (by rfl) dX1_doublesOf_8 ?_
      refine r_getR X dX1_doublesOf_9 zF_X1_9 ha g0 ?_
      refine r_iload_n X (by rfl) dX1_doublesOf_12 ?_
      refine r_iload_n X (by rfl) dX1_doublesOf_13 ?_
      refine r_iload_n X (by rfl) dX1_doublesOf_14 ?_
      refine r_iload_n X (by rfl) dX1_doublesOf_15 ?_
      refine r_callS X dX1_doublesOf_16 zLS_X1_16 zCd_X1_inOrder (c_X1_inOrder _ G z τ ρ _ _ _ _) rfl rfl ⟨⟨rfl, rfl⟩, ⟨by decide, by decide⟩, ⟨Nat.le_of_ble_eq_true rfl, Nat.le_of_ble_eq_true rfl⟩, Nat.le_of_ble_eq_true rfl⟩ ?_
      rintro _ _ ⟨rfl, rfl⟩
      refine r_iload_n X (by rfl) dX1_doublesOf_19 ?_
      refine r_callS X dX1_doublesOf_20 zLS_X1_24 zCd_X1_placeOf (c_X1_placeOf _ G z τ ρ _ _ _ _ _) rfl rfl ⟨⟨rfl, rfl⟩, ⟨by decide, by decide⟩, ⟨Nat.le_of_ble_eq_true rfl, Nat.le_of_ble_eq_true rfl⟩, Nat.le_of_ble_eq_true rfl⟩ ?_
      rintro _ _ ⟨rfl, rfl⟩
      refine r_iastore X dX1_doublesOf_23 hpl (vp_in_iff.mpr ⟨h0, by omega⟩) ?_
      refine r_iinc X 1 (by decide) (by rfl) (by decide) dX1_doublesOf_24 ?_
      refine r_goto X 2 dX1_doublesOf_27 (by decide) ?_
      exact zW.loc4 (by rfl) (by rfl) (by rfl) (by rfl) (ih _ _ (by have e := zinc (x := i) (by omega); omega) (by have e := zinc (x := i) (by omega); omega) (fun b hb => by rw [zu_r hb]; exact hf b hb))
  refine r_iconst X 0 (by decide) dX1_doublesOf_0 ?_
  refine r_istore_n X (by decide) dX1_doublesOf_1 ?_
  exact zW.loc4 (by rfl) (by rfl) (by rfl) (by rfl) (L2 61 _ _ (by decide) (by decide) (fun _ _ => rfl))
