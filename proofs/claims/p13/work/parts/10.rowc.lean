/-! Row, Chain.begin (wip/gen/spec_a.py) -/
theorem znat {N : Nat} (h : N < 2 ^ 31) : (Int32.ofNat N).toInt = (N : Int) := nI_toInt h
theorem zaddI {x y : Int32} (h1 : -2147483648 ≤ x.toInt + y.toInt) (h2 : x.toInt + y.toInt ≤ 2147483647) : (x + y).toInt = x.toInt + y.toInt := by
  rw [Int32.toInt_add]
  exact Int.bmod_eq_of_le (by omega) (by omega)
theorem zsubI {x y : Int32} (h1 : -2147483648 ≤ x.toInt - y.toInt) (h2 : x.toInt - y.toInt ≤ 2147483647) : (x - y).toInt = x.toInt - y.toInt := by
  rw [Int32.toInt_sub]
  exact Int.bmod_eq_of_le (by omega) (by omega)
theorem zmulI {x y : Int32} (h1 : -2147483648 ≤ x.toInt * y.toInt) (h2 : x.toInt * y.toInt ≤ 2147483647) : (x * y).toInt = x.toInt * y.toInt := by
  rw [Int32.toInt_mul]
  exact Int.bmod_eq_of_le (by omega) (by omega)
theorem zi1 : (1 : Int32).toInt = 1 := rfl
theorem zsub1 {x : Int32} (h : 0 < x.toInt) : (x - 1).toInt = x.toInt - 1 := by
  have h2 := x.toInt_lt
  rw [zsubI (by rw [zi1]; omega) (by rw [zi1]; omega), zi1]
theorem zinc {x : Int32} (h : x.toInt < 2147483647) : (x + 1).toInt = x.toInt + 1 := by
  have h2 := x.le_toInt
  rw [zaddI (by rw [zi1]; omega) (by rw [zi1]; omega), zi1]
set_option maxHeartbeats 4000000 in
set_option maxRecDepth 100000 in
/-- Row.isFull -/
theorem c_X6_isFull (l : Launch) (G : zG) (z : Nat) (τ : Nat → Option (Nat × Nat)) (ρ : Nat → Nat → Option Nat) (ι : Nat → Nat → Int32) (κ : Nat → Nat → Int64) {a v M N : Nat} (hτ : τ a = some (6, M)) (hρ : ρ a 0 = some v) (hτv : τ v = some (13, N)) (hN : N < 2 ^ 31) : zM l G yX6_isFull cX6_isFull 1 (some .boolean) ({ frames := 0, cells := 0, slots := 0, locals := 0 } : Room) [.ref a] (z, τ, ρ, ι, κ) (fun v s => v = some (.int (if (N : Int) ≤ (ι a 1).toInt then 1 else 0)) ∧ s = (z, τ, ρ, ι, κ)) 0 0 := by
  refine zM_of zCd_X6_isFull (Nat.le_of_ble_eq_true rfl) ?_
  intro E X hR hE
  subst hE
  show zW E G 1 (z, τ, ρ, ι, κ) 0 0 0 [(0, .ref a)] []
  refine r_aload_n X (by rfl) dX6_isFull_0 ?_
  refine r_getI X dX6_isFull_1 zF_X6_9 hτ ?_
  refine r_aload_n X (by rfl) dX6_isFull_4 ?_
  refine r_getR X dX6_isFull_5 zF_X6_21 hτ hρ ?_
  refine r_alen X dX6_isFull_8 hτv ?_
  refine r_icmp_lt X 16 dX6_isFull_9 (by decide) (fun h9 => ?_) (fun h9 => ?_)
  · rw [znat hN] at h9
    refine r_iconst X 0 (by decide) dX6_isFull_16 ?_
    refine r_ireturn X hR dX6_isFull_17 rfl (Nat.zero_le _) (Nat.zero_le _) ?_
    exact ⟨by first | rw [if_neg (by omega)] | rw [if_pos (by omega)], rfl⟩
  · rw [znat hN] at h9
    refine r_iconst X 1 (by decide) dX6_isFull_12 ?_
    refine r_goto X 17 dX6_isFull_13 (by decide) ?_
    refine r_ireturn X hR dX6_isFull_17 rfl (Nat.zero_le _) (Nat.zero_le _) ?_
    exact ⟨by first | rw [if_neg (by omega)] | rw [if_pos (by omega)], rfl⟩
set_option maxHeartbeats 4000000 in
set_option maxRecDepth 100000 in
/-- Row.append, not full -/
theorem c_X6_append (l : Launch) (G : zG) (z : Nat) (τ : Nat → Option (Nat × Nat)) (ρ : Nat → Nat → Option Nat) (ι : Nat → Nat → Int32) (κ : Nat → Nat → Int64) {a v M N : Nat} (hτ : τ a = some (6, M)) (hρ : ρ a 0 = some v) (hτv : τ v = some (13, N)) (x : Int32) (hN : N < 2 ^ 31) (h0 : 0 ≤ (ι a 1).toInt) (h1 : (ι a 1).toInt < N) (hav : v ≠ a) : zM l G yX6_append cX6_append 2 (some .int) ({ frames := 1, cells := 0, slots := 0, locals := 20 } : Room) [.ref a, .int x] (z, τ, ρ, ι, κ) (fun v0 s => v0 = some (.int (ι a 1 + 1)) ∧ s = (z, τ, ρ, zu (zu ι v (ι a 1).toNatClampNeg x) a 1 (ι a 1 + 1), κ)) 0 0 := by
  refine zM_of zCd_X6_append (Nat.le_of_ble_eq_true rfl) ?_
  intro E X hR hE
  subst hE
  show zW E G 2 (z, τ, ρ, ι, κ) 0 0 0 [(0, .ref a), (1, .int x)] []
  refine r_aload_n X (by rfl) dX6_append_0 ?_
  refine r_callV X dX6_append_1 zLV_X6_25 zCd_X6_isFull (c_X6_isFull _ G z τ ρ ι κ hτ hρ hτv hN) hτ ⟨by decide, rfl, rfl⟩ rfl rfl ⟨⟨rfl, rfl⟩, ⟨by decide, by decide⟩, ⟨Nat.le_of_ble_eq_true rfl, Nat.le_of_ble_eq_true rfl⟩, Nat.le_of_ble_eq_true rfl⟩ ?_
  rintro _ _ ⟨rfl, rfl⟩
  rw [if_neg (by omega)]
  refine r_if_ne X 27 dX6_append_4 (by decide) (fun h4 => ?_) (fun h4 => ?_)
  · exact absurd h4 (by decide)
  · refine r_aload_n X (by rfl) dX6_append_7 ?_
    refine r_getR X dX6_append_8 zF_X6_21 hτ hρ ?_
    refine r_aload_n X (by rfl) dX6_append_11 ?_
    refine r_getI X dX6_append_12 zF_X6_9 hτ ?_
    refine r_iload_n X (by rfl) dX6_append_15 ?_
    refine r_iastore X dX6_append_16 hτv (vp_in_iff.mpr ⟨h0, h1⟩) ?_
    refine r_aload_n X (by rfl) dX6_append_17 ?_
    refine r_dup X rfl dX6_append_18 ?_
    refine r_getI X dX6_append_19 zF_X6_9 hτ ?_
    refine r_iconst X 1 (by decide) dX6_append_22 ?_
    refine r_iadd X dX6_append_23 ?_
    refine r_putI X dX6_append_24 zF_X6_9 hτ rfl rfl ?_
    refine r_aload_n X (by rfl) dX6_append_27 ?_
    refine r_getI X dX6_append_28 zF_X6_9 hτ ?_
    refine r_ireturn X hR dX6_append_31 rfl (Nat.zero_le _) (Nat.zero_le _) ?_
    rw [zu_a (Ne.symm hav)]
    exact ⟨by rw [zu_s], rfl⟩
set_option maxHeartbeats 4000000 in
set_option maxRecDepth 100000 in
/-- Row.empty -/
theorem c_X6_empty (l : Launch) (G : zG) (z : Nat) (τ : Nat → Option (Nat × Nat)) (ρ : Nat → Nat → Option Nat) (ι : Nat → Nat → Int32) (κ : Nat → Nat → Int64) {a M : Nat} (hτ : τ a = some (6, M)) : zM l G yX6_empty cX6_empty 2 (some .int) ({ frames := 0, cells := 0, slots := 0, locals := 0 } : Room) [.ref a] (z, τ, ρ, ι, κ) (fun v s => v = some (.int (ι a 1)) ∧ s = (z, τ, ρ, zu ι a 1 0, κ)) 0 0 := by
  refine zM_of zCd_X6_empty (Nat.le_of_ble_eq_true rfl) ?_
  intro E X hR hE
  subst hE
  show zW E G 2 (z, τ, ρ, ι, κ) 0 0 0 [(0, .ref a)] []
  refine r_aload_n X (by rfl) dX6_empty_0 ?_
  refine r_getI X dX6_empty_1 zF_X6_9 hτ ?_
  refine r_istore_n X (by decide) dX6_empty_4 ?_
  refine r_aload_n X (by rfl) dX6_empty_5 ?_
  refine r_iconst X 0 (by decide) dX6_empty_6 ?_
  refine r_putI X dX6_empty_7 zF_X6_9 hτ rfl rfl ?_
  refine r_iload_n X (by rfl) dX6_empty_10 ?_
  refine r_ireturn X hR dX6_empty_11 rfl (Nat.zero_le _) (Nat.zero_le _) ?_
  exact ⟨rfl, rfl⟩
set_option maxHeartbeats 4000000 in
set_option maxRecDepth 100000 in
/-- Row.last -/
theorem c_X6_last (l : Launch) (G : zG) (z : Nat) (τ : Nat → Option (Nat × Nat)) (ρ : Nat → Nat → Option Nat) (ι : Nat → Nat → Int32) (κ : Nat → Nat → Int64) {a v M N : Nat} (hτ : τ a = some (6, M)) (hρ : ρ a 0 = some v) (hτv : τ v = some (13, N)) (h0 : 0 ≤ (ι a 1).toInt) (h1 : (ι a 1).toInt ≤ N) : zM l G yX6_last cX6_last 1 (some .int) ({ frames := 0, cells := 0, slots := 0, locals := 0 } : Room) [.ref a] (z, τ, ρ, ι, κ) (fun v0 s => v0 = some (.int (if 0 < (ι a 1).toInt then ι v (ι a 1 - 1).toNatClampNeg else -1)) ∧ s = (z, τ, ρ, ι, κ)) 0 0 := by
  refine zM_of zCd_X6_last (Nat.le_of_ble_eq_true rfl) ?_
  intro E X hR hE
  subst hE
  show zW E G 1 (z, τ, ρ, ι, κ) 0 0 0 [(0, .ref a)] []
  refine r_aload_n X (by rfl) dX6_last_0 ?_
  refine r_getI X dX6_last_1 zF_X6_9 hτ ?_
  refine r_if_le X 21 dX6_last_4 (by decide) (fun h4 => ?_) (fun h4 => ?_)
  · refine r_iconst X (-1) (by decide) dX6_last_21 ?_
    refine r_ireturn X hR dX6_last_22 rfl (Nat.zero_le _) (Nat.zero_le _) ?_
    exact ⟨by first | rw [if_neg (by omega)] | rw [if_pos (by omega)], rfl⟩
  · refine r_aload_n X (by rfl) dX6_last_7 ?_
    refine r_getR X dX6_last_8 zF_X6_21 hτ hρ ?_
    refine r_aload_n X (by rfl) dX6_last_11 ?_
    refine r_getI X dX6_last_12 zF_X6_9 hτ ?_
    refine r_iconst X 1 (by decide) dX6_last_15 ?_
    refine r_isub X dX6_last_16 ?_
    refine r_iaload X dX6_last_17 hτv (vp_in_iff.mpr (by have := zsub1 h4; omega)) ?_
    refine r_goto X 22 dX6_last_18 (by decide) ?_
    refine r_ireturn X hR dX6_last_22 rfl (Nat.zero_le _) (Nat.zero_le _) ?_
    exact ⟨by first | rw [if_neg (by omega)] | rw [if_pos (by omega)], rfl⟩
set_option maxHeartbeats 4000000 in
set_option maxRecDepth 100000 in
/-- Chain.begin -/
theorem c_X0_begin (l : Launch) (G : zG) (z : Nat) (τ : Nat → Option (Nat × Nat)) (ρ : Nat → Nat → Option Nat) (ι : Nat → Nat → Int32) (κ : Nat → Nat → Int64) {a M : Nat} (hτ : τ a = some (0, M)) : zM l G yX0_begin cX0_begin 1 none ({ frames := 0, cells := 0, slots := 0, locals := 0 } : Room) [.ref a] (z, τ, ρ, ι, κ) (fun v s => v = none ∧ s = (z, τ, ρ, zu (zu ι a 1 0) a 2 0, κ)) 0 0 := by
  refine zM_of zCd_X0_begin (Nat.le_of_ble_eq_true rfl) ?_
  intro E X hR hE
  subst hE
  show zW E G 1 (z, τ, ρ, ι, κ) 0 0 0 [(0, .ref a)] []
  refine r_aload_n X (by rfl) dX0_begin_0 ?_
  refine r_iconst X 0 (by decide) dX0_begin_1 ?_
  refine r_putI X dX0_begin_2 zF_X0_20 hτ rfl rfl ?_
  refine r_aload_n X (by rfl) dX0_begin_5 ?_
  refine r_iconst X 0 (by decide) dX0_begin_6 ?_
  refine r_putI X dX0_begin_7 zF_X0_24 hτ rfl rfl ?_
  refine r_return X hR dX0_begin_10 (Nat.zero_le _) (Nat.zero_le _) ?_
  exact ⟨rfl, rfl⟩
