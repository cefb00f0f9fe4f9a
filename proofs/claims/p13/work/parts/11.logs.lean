/-! Math, Wide, Logs (wip/gen/spec_b.py) -/
theorem zadd_c {x : Int32} (c : Int32) (k : Int) (hc : c.toInt = k) (h1 : -2147483648 ≤ x.toInt + k) (h2 : x.toInt + k ≤ 2147483647) : (x + c).toInt = x.toInt + k := by
  rw [zaddI (by rw [hc]; omega) (by rw [hc]; omega), hc]
/-- what a shrink of te leaves -/
def zSk (κ : Nat → Nat → Int64) (te : Nat) (x y : Int32) : Nat → Nat → Int64 := if y.toInt < 1 then κ else zu (zu κ te 0 (zSh (κ te 0) (κ te 1) x y)) te 1 (zSl (κ te 0) (κ te 1) x y)
def zAk (κ : Nat → Nat → Int64) (a b : Nat) (x : Int32) : Nat → Nat → Int64 := if x.toInt < 1 then κ else zu (zu κ a 0 (zAh (κ a 0) (κ a 1) (κ b 0) (κ b 1) x)) a 1 (zAl (κ a 1) (κ b 0) (κ b 1) x)
theorem zSk_r {κ : Nat → Nat → Int64} {te b : Nat} {x y : Int32} (h : b ≠ te) : zSk κ te x y b = κ b := by
  unfold zSk
  by_cases e : y.toInt < 1
  · rw [if_pos e]
  · rw [if_neg e, zu_r h, zu_r h]
theorem zSk_0 {κ : Nat → Nat → Int64} {te : Nat} {x y : Int32} : zSk κ te x y te 0 = zS1h (κ te 0) (κ te 1) x y := by
  unfold zSk zS1h
  by_cases e : y.toInt < 1
  · rw [if_pos e, if_pos e]
  · rw [if_neg e, if_neg e, zu_k (show (0 : Nat) ≠ 1 by decide), zu_s]
theorem zSk_1 {κ : Nat → Nat → Int64} {te : Nat} {x y : Int32} : zSk κ te x y te 1 = zS1l (κ te 0) (κ te 1) x y := by
  unfold zSk zS1l
  by_cases e : y.toInt < 1
  · rw [if_pos e, if_pos e]
  · rw [if_neg e, if_neg e, zu_s]
theorem zAk_r {κ : Nat → Nat → Int64} {a b c : Nat} {x : Int32} (h : c ≠ a) : zAk κ a b x c = κ c := by
  unfold zAk
  by_cases e : x.toInt < 1
  · rw [if_pos e]
  · rw [if_neg e, zu_r h, zu_r h]
theorem zAk_0 {κ : Nat → Nat → Int64} {a b : Nat} {x : Int32} : zAk κ a b x a 0 = if x.toInt < 1 then κ a 0 else zAh (κ a 0) (κ a 1) (κ b 0) (κ b 1) x := by
  unfold zAk
  by_cases e : x.toInt < 1
  · rw [if_pos e, if_pos e]
  · rw [if_neg e, if_neg e, zu_k (show (0 : Nat) ≠ 1 by decide), zu_s]
theorem zAk_1 {κ : Nat → Nat → Int64} {a b : Nat} {x : Int32} : zAk κ a b x a 1 = if x.toInt < 1 then κ a 1 else zAl (κ a 1) (κ b 0) (κ b 1) x := by
  unfold zAk
  by_cases e : x.toInt < 1
  · rw [if_pos e, if_pos e]
  · rw [if_neg e, if_neg e, zu_s]
theorem zdiv1 {x : Int32} (h : 0 ≤ x.toInt) : x / 1 = x := Int32.toInt_inj.mp (by
  have h3 := x.toInt_lt
  rw [Int32.toInt_div, Int.tdiv_eq_ediv_of_nonneg h, show Int32.toInt 1 = 1 from rfl, Int.ediv_one, Int.bmod_eq_of_le (by omega) (by omega)])
theorem zb01 {p : Prop} [Decidable p] (h : ¬ (if p then (1 : Int32) else 0) = 0) : ¬ ¬ p := fun q => h (if_neg q)
theorem zb00 {p : Prop} [Decidable p] (h : (if p then (1 : Int32) else 0) = 0) : ¬ p := fun q => by rw [if_pos q] at h; exact absurd h (by decide)
theorem zne64 {x : Int32} (h : 1 ≤ x.toInt) : ¬ x.toInt64 = 0 := fun q => by
  have h2 := congrArg Int64.toInt q
  rw [Int32.toInt_toInt64] at h2
  simp at h2
  omega
theorem z2l {x : Int32} (h : 1 ≤ x.toInt) : ¬ (2 : Int64) * x.toInt64 = 0 := fun q => by
  have h2 := congrArg Int64.toInt q
  have h3 := x.toInt_lt
  rw [Int64.toInt_mul, Int32.toInt_toInt64, show (2 : Int64).toInt = 2 from rfl, Int.bmod_eq_of_le (by omega) (by omega)] at h2
  simp at h2
  omega
set_option maxHeartbeats 4000000 in
set_option maxRecDepth 100000 in
theorem c_abs (l : Launch) (G : zG) (z : Nat) (τ : Nat → Option (Nat × Nat)) (ρ : Nat → Nat → Option Nat) (ι : Nat → Nat → Int32) (κ : Nat → Nat → Int64) (x : Int32) : zM l G yJ9_abs_0f7a4 cJ9_abs_0f7a4 1 (some .int) ({ frames := 0, cells := 0, slots := 0, locals := 0 } : Room) [.int x] (z, τ, ρ, ι, κ) (fun v s => v = some (.int (if x.toInt < 0 then -x else x)) ∧ s = (z, τ, ρ, ι, κ)) 0 0 := by
  refine zM_of zCd_J9_abs_0f7a4 (Nat.le_of_ble_eq_true rfl) ?_
  intro E X hR hE
  subst hE
  show zW E G 1 (z, τ, ρ, ι, κ) 0 0 0 [(0, .int x)] []
  refine r_iload_n X (by rfl) dJ9_abs_0f7a4_0 ?_
  refine r_if_ge X 9 dJ9_abs_0f7a4_1 (by decide) (fun h1 => ?_) (fun h1 => ?_)
  · refine r_iload_n X (by rfl) dJ9_abs_0f7a4_9 ?_
    refine r_ireturn X hR dJ9_abs_0f7a4_10 rfl (Nat.zero_le _) (Nat.zero_le _) ?_
    exact ⟨by first | rw [if_neg (by omega)] | rw [if_pos (by omega)], rfl⟩
  · refine r_iload_n X (by rfl) dJ9_abs_0f7a4_4 ?_
    refine r_ineg X dJ9_abs_0f7a4_5 ?_
    refine r_goto X 10 dJ9_abs_0f7a4_6 (by decide) ?_
    refine r_ireturn X hR dJ9_abs_0f7a4_10 rfl (Nat.zero_le _) (Nat.zero_le _) ?_
    exact ⟨by first | rw [if_neg (by omega)] | rw [if_pos (by omega)], rfl⟩
set_option maxHeartbeats 4000000 in
set_option maxRecDepth 100000 in
theorem c_max (l : Launch) (G : zG) (z : Nat) (τ : Nat → Option (Nat × Nat)) (ρ : Nat → Nat → Option Nat) (ι : Nat → Nat → Int32) (κ : Nat → Nat → Int64) (x y : Int32) : zM l G yJ9_max_7cf53 cJ9_max_7cf53 2 (some .int) ({ frames := 0, cells := 0, slots := 0, locals := 0 } : Room) [.int x, .int y] (z, τ, ρ, ι, κ) (fun v s => v = some (.int (if x.toInt < y.toInt then y else x)) ∧ s = (z, τ, ρ, ι, κ)) 0 0 := by
  refine zM_of zCd_J9_max_7cf53 (Nat.le_of_ble_eq_true rfl) ?_
  intro E X hR hE
  subst hE
  show zW E G 2 (z, τ, ρ, ι, κ) 0 0 0 [(0, .int x), (1, .int y)] []
  refine r_iload_n X (by rfl) dJ9_max_7cf53_0 ?_
  refine r_iload_n X (by rfl) dJ9_max_7cf53_1 ?_
  refine r_icmp_lt X 9 dJ9_max_7cf53_2 (by decide) (fun h2 => ?_) (fun h2 => ?_)
  · refine r_iload_n X (by rfl) dJ9_max_7cf53_9 ?_
    refine r_ireturn X hR dJ9_max_7cf53_10 rfl (Nat.zero_le _) (Nat.zero_le _) ?_
    exact ⟨by first | rw [if_neg (by omega)] | rw [if_pos (by omega)], rfl⟩
  · refine r_iload_n X (by rfl) dJ9_max_7cf53_5 ?_
    refine r_goto X 10 dJ9_max_7cf53_6 (by decide) ?_
    refine r_ireturn X hR dJ9_max_7cf53_10 rfl (Nat.zero_le _) (Nat.zero_le _) ?_
    exact ⟨by first | rw [if_neg (by omega)] | rw [if_pos (by omega)], rfl⟩
set_option maxHeartbeats 4000000 in
set_option maxRecDepth 100000 in
theorem c_min (l : Launch) (G : zG) (z : Nat) (τ : Nat → Option (Nat × Nat)) (ρ : Nat → Nat → Option Nat) (ι : Nat → Nat → Int32) (κ : Nat → Nat → Int64) (x y : Int32) : zM l G yJ9_min_7cf53 cJ9_min_7cf53 2 (some .int) ({ frames := 0, cells := 0, slots := 0, locals := 0 } : Room) [.int x, .int y] (z, τ, ρ, ι, κ) (fun v s => v = some (.int (if y.toInt < x.toInt then y else x)) ∧ s = (z, τ, ρ, ι, κ)) 0 0 := by
  refine zM_of zCd_J9_min_7cf53 (Nat.le_of_ble_eq_true rfl) ?_
  intro E X hR hE
  subst hE
  show zW E G 2 (z, τ, ρ, ι, κ) 0 0 0 [(0, .int x), (1, .int y)] []
  refine r_iload_n X (by rfl) dJ9_min_7cf53_0 ?_
  refine r_iload_n X (by rfl) dJ9_min_7cf53_1 ?_
  refine r_icmp_gt X 9 dJ9_min_7cf53_2 (by decide) (fun h2 => ?_) (fun h2 => ?_)
  · refine r_iload_n X (by rfl) dJ9_min_7cf53_9 ?_
    refine r_ireturn X hR dJ9_min_7cf53_10 rfl (Nat.zero_le _) (Nat.zero_le _) ?_
    exact ⟨by first | rw [if_neg (by omega)] | rw [if_pos (by omega)], rfl⟩
  · refine r_iload_n X (by rfl) dJ9_min_7cf53_5 ?_
    refine r_goto X 10 dJ9_min_7cf53_6 (by decide) ?_
    refine r_ireturn X hR dJ9_min_7cf53_10 rfl (Nat.zero_le _) (Nat.zero_le _) ?_
    exact ⟨by first | rw [if_neg (by omega)] | rw [if_pos (by omega)], rfl⟩
set_option maxHeartbeats 4000000 in
set_option maxRecDepth 100000 in
theorem c_floorDiv (l : Launch) (G : zG) (z : Nat) (τ : Nat → Option (Nat × Nat)) (ρ : Nat → Nat → Option Nat) (ι : Nat → Nat → Int32) (κ : Nat → Nat → Int64) (x y : Int64) (hy : ¬ y = 0) : zM l G yJ9_floorDiv_f86c9 cJ9_floorDiv_f86c9 6 (some .long) ({ frames := 0, cells := 0, slots := 0, locals := 0 } : Room) [.long x, .long y] (z, τ, ρ, ι, κ) (fun v s => v = some (.long (zFd x y)) ∧ s = (z, τ, ρ, ι, κ)) 0 0 := by
  refine zM_of zCd_J9_floorDiv_f86c9 (Nat.le_of_ble_eq_true rfl) ?_
  intro E X hR hE
  subst hE
  show zW E G 6 (z, τ, ρ, ι, κ) 0 0 0 [(0, .long x), (2, .long y)] []
  refine r_lload_n X (by rfl) dJ9_floorDiv_f86c9_0 ?_
  refine r_lload_n X (by rfl) dJ9_floorDiv_f86c9_1 ?_
  refine r_ldiv X hy dJ9_floorDiv_f86c9_2 ?_
  refine r_lstore X (by decide) dJ9_floorDiv_f86c9_3 ?_
  refine r_lload_n X (by rfl) dJ9_floorDiv_f86c9_5 ?_
  refine r_lload_n X (by rfl) dJ9_floorDiv_f86c9_6 ?_
  refine r_lxor X dJ9_floorDiv_f86c9_7 ?_
  refine r_lconst X 0 (by decide) dJ9_floorDiv_f86c9_8 ?_
  refine r_lcmp_ge X 27 dJ9_floorDiv_f86c9_9 dJ9_floorDiv_f86c9_10 (by decide) (fun h9 => ?_) (fun h9 => ?_)
  · rw [show Int64.toInt 0 = 0 from rfl] at h9
    refine r_lload X (by rfl) dJ9_floorDiv_f86c9_27 ?_
    refine r_lreturn X hR dJ9_floorDiv_f86c9_29 (Nat.zero_le _) (Nat.zero_le _) ?_
    exact ⟨by unfold zFd; rw [if_neg (fun q => by omega)], rfl⟩
  · rw [show Int64.toInt 0 = 0 from rfl] at h9
    refine r_lload X (by rfl) dJ9_floorDiv_f86c9_13 ?_
    refine r_lload_n X (by rfl) dJ9_floorDiv_f86c9_15 ?_
    refine r_lmul X dJ9_floorDiv_f86c9_16 ?_
    refine r_lload_n X (by rfl) dJ9_floorDiv_f86c9_17 ?_
    refine r_lcmp_eq X 27 dJ9_floorDiv_f86c9_18 dJ9_floorDiv_f86c9_19 (by decide) (fun h18 => ?_) (fun h18 => ?_)
    · refine r_lload X (by rfl) dJ9_floorDiv_f86c9_27 ?_
      refine r_lreturn X hR dJ9_floorDiv_f86c9_29 (Nat.zero_le _) (Nat.zero_le _) ?_
      exact ⟨by unfold zFd; rw [if_neg (fun q => q.2 (Int64.toInt_inj.mp h18))], rfl⟩
    · refine r_lload X (by rfl) dJ9_floorDiv_f86c9_22 ?_
      refine r_lconst X 1 (by decide) dJ9_floorDiv_f86c9_24 ?_
      refine r_lsub X dJ9_floorDiv_f86c9_25 ?_
      refine r_lreturn X hR dJ9_floorDiv_f86c9_26 (Nat.zero_le _) (Nat.zero_le _) ?_
      exact ⟨by unfold zFd; rw [if_pos ⟨by omega, fun q => h18 (congrArg Int64.toInt q)⟩], rfl⟩
set_option maxHeartbeats 4000000 in
set_option maxRecDepth 100000 in
theorem c_X10_put (l : Launch) (G : zG) (z : Nat) (τ : Nat → Option (Nat × Nat)) (ρ : Nat → Nat → Option Nat) (ι : Nat → Nat → Int32) (κ : Nat → Nat → Int64) {a M : Nat} (hτ : τ a = some (10, M)) (x y : Int64) : zM l G yX10_put cX10_put 5 none ({ frames := 0, cells := 0, slots := 0, locals := 0 } : Room) [.ref a, .long x, .long y] (z, τ, ρ, ι, κ) (fun v s => v = none ∧ s = (z, τ, ρ, ι, zu (zu κ a 0 x) a 1 y)) 0 0 := by
  refine zM_of zCd_X10_put (Nat.le_of_ble_eq_true rfl) ?_
  intro E X hR hE
  subst hE
  show zW E G 5 (z, τ, ρ, ι, κ) 0 0 0 [(0, .ref a), (1, .long x), (3, .long y)] []
  refine r_aload_n X (by rfl) dX10_put_0 ?_
  refine r_lload_n X (by rfl) dX10_put_1 ?_
  refine r_putJ X dX10_put_2 zF_X10_9 hτ rfl rfl ?_
  refine r_aload_n X (by rfl) dX10_put_5 ?_
  refine r_lload_n X (by rfl) dX10_put_6 ?_
  refine r_putJ X dX10_put_7 zF_X10_13 hτ rfl rfl ?_
  refine r_return X hR dX10_put_10 (Nat.zero_le _) (Nat.zero_le _) ?_
  exact ⟨rfl, rfl⟩
set_option maxHeartbeats 4000000 in
set_option maxRecDepth 100000 in
theorem c_X10_addPart (l : Launch) (G : zG) (z : Nat) (τ : Nat → Option (Nat × Nat)) (ρ : Nat → Nat → Option Nat) (ι : Nat → Nat → Int32) (κ : Nat → Nat → Int64) {a M : Nat} (hτ : τ a = some (10, M)) {b M2 : Nat} (hτb : τ b = some (10, M2)) (x : Int32) : zM l G yX10_addPart cX10_addPart 7 none ({ frames := 0, cells := 0, slots := 0, locals := 0 } : Room) [.ref a, .ref b, .int x] (z, τ, ρ, ι, κ) (fun v s => v = none ∧ s = (z, τ, ρ, ι, zAk κ a b x)) 0 0 := by
  refine zM_of zCd_X10_addPart (Nat.le_of_ble_eq_true rfl) ?_
  intro E X hR hE
  subst hE
  show zW E G 7 (z, τ, ρ, ι, κ) 0 0 0 [(0, .ref a), (1, .ref b), (2, .int x)] []
  refine r_iload_n X (by rfl) dX10_addPart_0 ?_
  refine r_iconst X 1 (by decide) dX10_addPart_1 ?_
  refine r_icmp_ge X 6 dX10_addPart_2 (by decide) (fun h2 => ?_) (fun h2 => ?_)
  · rw [show Int32.toInt 1 = 1 from rfl] at h2
    refine r_aload_n X (by rfl) dX10_addPart_6 ?_
    refine r_getJ X dX10_addPart_7 zF_X10_9 hτb ?_
    refine r_iload_n X (by rfl) dX10_addPart_10 ?_
    refine r_i2l X dX10_addPart_11 ?_
    refine r_lrem X (zne64 h2) dX10_addPart_12 ?_
    refine r_lstore_n X (by decide) dX10_addPart_13 ?_
    refine r_aload_n X (by rfl) dX10_addPart_14 ?_
    refine r_getJ X dX10_addPart_15 zF_X10_13 hτ ?_
    refine r_lload_n X (by rfl) dX10_addPart_18 ?_
    refine r_bipush X 44 (by decide) dX10_addPart_19 ?_
    refine r_lshl X dX10_addPart_21 ?_
    refine r_aload_n X (by rfl) dX10_addPart_22 ?_
    refine r_getJ X dX10_addPart_23 zF_X10_13 hτb ?_
    refine r_ladd X dX10_addPart_26 ?_
    refine r_iload_n X (by rfl) dX10_addPart_27 ?_
    refine r_i2l X dX10_addPart_28 ?_
    refine r_ldiv X (zne64 h2) dX10_addPart_29 ?_
    refine r_ladd X dX10_addPart_30 ?_
    refine r_lstore X (by decide) dX10_addPart_31 ?_
    refine r_aload_n X (by rfl) dX10_addPart_33 ?_
    refine r_dup X rfl dX10_addPart_34 ?_
    refine r_getJ X dX10_addPart_35 zF_X10_9 hτ ?_
    refine r_aload_n X (by rfl) dX10_addPart_38 ?_
    refine r_getJ X dX10_addPart_39 zF_X10_9 hτb ?_
    refine r_iload_n X (by rfl) dX10_addPart_42 ?_
    refine r_i2l X dX10_addPart_43 ?_
    refine r_ldiv X (zne64 h2) dX10_addPart_44 ?_
    refine r_lload X (by rfl) dX10_addPart_45 ?_
    refine r_bipush X 44 (by decide) dX10_addPart_47 ?_
    refine r_lshr X dX10_addPart_49 ?_
    refine r_ladd X dX10_addPart_50 ?_
    refine r_ladd X dX10_addPart_51 ?_
    refine r_putJ X dX10_addPart_52 zF_X10_9 hτ rfl rfl ?_
    refine r_aload_n X (by rfl) dX10_addPart_55 ?_
    refine r_lload X (by rfl) dX10_addPart_56 ?_
    refine r_ldc2 X zK_X10_16 dX10_addPart_58 ?_
    refine r_land X dX10_addPart_61 ?_
    refine r_putJ X dX10_addPart_62 zF_X10_13 hτ rfl rfl ?_
    refine r_return X hR dX10_addPart_65 (Nat.zero_le _) (Nat.zero_le _) ?_
    exact ⟨rfl, by rw [zAk, if_neg (by omega)]; rfl⟩
  · rw [show Int32.toInt 1 = 1 from rfl] at h2
    refine r_return X hR dX10_addPart_5 (Nat.zero_le _) (Nat.zero_le _) ?_
    exact ⟨rfl, by rw [zAk, if_pos (by omega)]⟩
set_option maxHeartbeats 4000000 in
set_option maxRecDepth 100000 in
theorem c_X10_subtract (l : Launch) (G : zG) (z : Nat) (τ : Nat → Option (Nat × Nat)) (ρ : Nat → Nat → Option Nat) (ι : Nat → Nat → Int32) (κ : Nat → Nat → Int64) {a M : Nat} (hτ : τ a = some (10, M)) {b M2 : Nat} (hτb : τ b = some (10, M2)) : zM l G yX10_subtract cX10_subtract 4 none ({ frames := 0, cells := 0, slots := 0, locals := 0 } : Room) [.ref a, .ref b] (z, τ, ρ, ι, κ) (fun v s => v = none ∧ s = (z, τ, ρ, ι, zu (zu κ a 0 (κ a 0 + (((κ a 1 - κ b 1) >>> ((44 : Int32).toInt64 &&& 63)) - κ b 0))) a 1 ((κ a 1 - κ b 1) &&& 17592186044415))) 0 0 := by
  refine zM_of zCd_X10_subtract (Nat.le_of_ble_eq_true rfl) ?_
  intro E X hR hE
  subst hE
  show zW E G 4 (z, τ, ρ, ι, κ) 0 0 0 [(0, .ref a), (1, .ref b)] []
  refine r_aload_n X (by rfl) dX10_subtract_0 ?_
  refine r_getJ X dX10_subtract_1 zF_X10_13 hτ ?_
  refine r_aload_n X (by rfl) dX10_subtract_4 ?_
  refine r_getJ X dX10_subtract_5 zF_X10_13 hτb ?_
  refine r_lsub X dX10_subtract_8 ?_
  refine r_lstore_n X (by decide) dX10_subtract_9 ?_
  refine r_aload_n X (by rfl) dX10_subtract_10 ?_
  refine r_dup X rfl dX10_subtract_11 ?_
  refine r_getJ X dX10_subtract_12 zF_X10_9 hτ ?_
  refine r_lload_n X (by rfl) dX10_subtract_15 ?_
  refine r_bipush X 44 (by decide) dX10_subtract_16 ?_
  refine r_lshr X dX10_subtract_18 ?_
  refine r_aload_n X (by rfl) dX10_subtract_19 ?_
  refine r_getJ X dX10_subtract_20 zF_X10_9 hτb ?_
  refine r_lsub X dX10_subtract_23 ?_
  refine r_ladd X dX10_subtract_24 ?_
  refine r_putJ X dX10_subtract_25 zF_X10_9 hτ rfl rfl ?_
  refine r_aload_n X (by rfl) dX10_subtract_28 ?_
  refine r_lload_n X (by rfl) dX10_subtract_29 ?_
  refine r_ldc2 X zK_X10_16 dX10_subtract_30 ?_
  refine r_land X dX10_subtract_33 ?_
  refine r_putJ X dX10_subtract_34 zF_X10_13 hτ rfl rfl ?_
  refine r_return X hR dX10_subtract_37 (Nat.zero_le _) (Nat.zero_le _) ?_
  exact ⟨rfl, rfl⟩
set_option maxHeartbeats 4000000 in
set_option maxRecDepth 100000 in
theorem c_X10_shrink (l : Launch) (G : zG) (z : Nat) (τ : Nat → Option (Nat × Nat)) (ρ : Nat → Nat → Option Nat) (ι : Nat → Nat → Int32) (κ : Nat → Nat → Int64) {a M : Nat} (hτ : τ a = some (10, M)) (x y : Int32) : zM l G yX10_shrink cX10_shrink 7 none ({ frames := 0, cells := 0, slots := 0, locals := 0 } : Room) [.ref a, .int x, .int y] (z, τ, ρ, ι, κ) (fun v s => v = none ∧ s = (z, τ, ρ, ι, zSk κ a x y)) 0 0 := by
  refine zM_of zCd_X10_shrink (Nat.le_of_ble_eq_true rfl) ?_
  intro E X hR hE
  subst hE
  show zW E G 7 (z, τ, ρ, ι, κ) 0 0 0 [(0, .ref a), (1, .int x), (2, .int y)] []
  refine r_iload_n X (by rfl) dX10_shrink_0 ?_
  refine r_iconst X 1 (by decide) dX10_shrink_1 ?_
  refine r_icmp_ge X 6 dX10_shrink_2 (by decide) (fun h2 => ?_) (fun h2 => ?_)
  · rw [show Int32.toInt 1 = 1 from rfl] at h2
    refine r_aload_n X (by rfl) dX10_shrink_6 ?_
    refine r_getJ X dX10_shrink_7 zF_X10_9 hτ ?_
    refine r_iload_n X (by rfl) dX10_shrink_10 ?_
    refine r_i2l X dX10_shrink_11 ?_
    refine r_lmul X dX10_shrink_12 ?_
    refine r_lstore_n X (by decide) dX10_shrink_13 ?_
    refine r_lload_n X (by rfl) dX10_shrink_14 ?_
    refine r_iload_n X (by rfl) dX10_shrink_15 ?_
    refine r_i2l X dX10_shrink_16 ?_
    refine r_lrem X (zne64 h2) dX10_shrink_17 ?_
    refine r_bipush X 44 (by decide) dX10_shrink_18 ?_
    refine r_lshl X dX10_shrink_20 ?_
    refine r_aload_n X (by rfl) dX10_shrink_21 ?_
    refine r_getJ X dX10_shrink_22 zF_X10_13 hτ ?_
    refine r_iload_n X (by rfl) dX10_shrink_25 ?_
    refine r_i2l X dX10_shrink_26 ?_
    refine r_lmul X dX10_shrink_27 ?_
    refine r_ladd X dX10_shrink_28 ?_
    refine r_iload_n X (by rfl) dX10_shrink_29 ?_
    refine r_i2l X dX10_shrink_30 ?_
    refine r_ldiv X (zne64 h2) dX10_shrink_31 ?_
    refine r_lstore X (by decide) dX10_shrink_32 ?_
    refine r_aload_n X (by rfl) dX10_shrink_34 ?_
    refine r_lload_n X (by rfl) dX10_shrink_35 ?_
    refine r_iload_n X (by rfl) dX10_shrink_36 ?_
    refine r_i2l X dX10_shrink_37 ?_
    refine r_ldiv X (zne64 h2) dX10_shrink_38 ?_
    refine r_lload X (by rfl) dX10_shrink_39 ?_
    refine r_bipush X 44 (by decide) dX10_shrink_41 ?_
    refine r_lshr X dX10_shrink_43 ?_
    refine r_ladd X dX10_shrink_44 ?_
    refine r_putJ X dX10_shrink_45 zF_X10_9 hτ rfl rfl ?_
    refine r_aload_n X (by rfl) dX10_shrink_48 ?_
    refine r_lload X (by rfl) dX10_shrink_49 ?_
    refine r_ldc2 X zK_X10_16 dX10_shrink_51 ?_
    refine r_land X dX10_shrink_54 ?_
    refine r_putJ X dX10_shrink_55 zF_X10_13 hτ rfl rfl ?_
    refine r_return X hR dX10_shrink_58 (Nat.zero_le _) (Nat.zero_le _) ?_
    exact ⟨rfl, by rw [zSk, if_neg (by omega)]; rfl⟩
  · rw [show Int32.toInt 1 = 1 from rfl] at h2
    refine r_return X hR dX10_shrink_5 (Nat.zero_le _) (Nat.zero_le _) ?_
    exact ⟨rfl, by rw [zSk, if_pos (by omega)]⟩
set_option maxHeartbeats 4000000 in
set_option maxRecDepth 100000 in
theorem c_X10_isZero (l : Launch) (G : zG) (z : Nat) (τ : Nat → Option (Nat × Nat)) (ρ : Nat → Nat → Option Nat) (ι : Nat → Nat → Int32) (κ : Nat → Nat → Int64) {a M : Nat} (hτ : τ a = some (10, M)) : zM l G yX10_isZero cX10_isZero 1 (some .boolean) ({ frames := 0, cells := 0, slots := 0, locals := 0 } : Room) [.ref a] (z, τ, ρ, ι, κ) (fun v s => v = some (.int (if κ a 0 = 0 ∧ κ a 1 = 0 then 1 else 0)) ∧ s = (z, τ, ρ, ι, κ)) 0 0 := by
  refine zM_of zCd_X10_isZero (Nat.le_of_ble_eq_true rfl) ?_
  intro E X hR hE
  subst hE
  show zW E G 1 (z, τ, ρ, ι, κ) 0 0 0 [(0, .ref a)] []
  refine r_aload_n X (by rfl) dX10_isZero_0 ?_
  refine r_getJ X dX10_isZero_1 zF_X10_9 hτ ?_
  refine r_lconst X 0 (by decide) dX10_isZero_4 ?_
  refine r_lcmp_ne X 22 dX10_isZero_5 dX10_isZero_6 (by decide) (fun h5 => ?_) (fun h5 => ?_)
  · rw [show Int64.toInt 0 = 0 from rfl] at h5
    refine r_iconst X 0 (by decide) dX10_isZero_22 ?_
    refine r_ireturn X hR dX10_isZero_23 rfl (Nat.zero_le _) (Nat.zero_le _) ?_
    exact ⟨by rw [if_neg (fun q => h5 (congrArg Int64.toInt q.1))], rfl⟩
  · rw [show Int64.toInt 0 = 0 from rfl] at h5
    refine r_aload_n X (by rfl) dX10_isZero_9 ?_
    refine r_getJ X dX10_isZero_10 zF_X10_13 hτ ?_
    refine r_lconst X 0 (by decide) dX10_isZero_13 ?_
    refine r_lcmp_ne X 22 dX10_isZero_14 dX10_isZero_15 (by decide) (fun h14 => ?_) (fun h14 => ?_)
    · rw [show Int64.toInt 0 = 0 from rfl] at h14
      refine r_iconst X 0 (by decide) dX10_isZero_22 ?_
      refine r_ireturn X hR dX10_isZero_23 rfl (Nat.zero_le _) (Nat.zero_le _) ?_
      exact ⟨by rw [if_neg (fun q => h14 (congrArg Int64.toInt q.2))], rfl⟩
    · rw [show Int64.toInt 0 = 0 from rfl] at h14
      refine r_iconst X 1 (by decide) dX10_isZero_18 ?_
      refine r_goto X 23 dX10_isZero_19 (by decide) ?_
      refine r_ireturn X hR dX10_isZero_23 rfl (Nat.zero_le _) (Nat.zero_le _) ?_
      exact ⟨by rw [if_pos ⟨Int64.toInt_inj.mp h5, Int64.toInt_inj.mp h14⟩], rfl⟩
set_option maxHeartbeats 4000000 in
set_option maxRecDepth 100000 in
theorem c_X10_floorTimes (l : Launch) (G : zG) (z : Nat) (τ : Nat → Option (Nat × Nat)) (ρ : Nat → Nat → Option Nat) (ι : Nat → Nat → Int32) (κ : Nat → Nat → Int64) {a M : Nat} (hτ : τ a = some (10, M)) (x : Int32) : zM l G yX10_floorTimes cX10_floorTimes 2 (some .long) ({ frames := 0, cells := 0, slots := 0, locals := 0 } : Room) [.ref a, .int x] (z, τ, ρ, ι, κ) (fun v s => v = some (.long (zFt (κ a 0) (κ a 1) x)) ∧ s = (z, τ, ρ, ι, κ)) 0 0 := by
  refine zM_of zCd_X10_floorTimes (Nat.le_of_ble_eq_true rfl) ?_
  intro E X hR hE
  subst hE
  show zW E G 2 (z, τ, ρ, ι, κ) 0 0 0 [(0, .ref a), (1, .int x)] []
  refine r_aload_n X (by rfl) dX10_floorTimes_0 ?_
  refine r_getJ X dX10_floorTimes_1 zF_X10_9 hτ ?_
  refine r_iload_n X (by rfl) dX10_floorTimes_4 ?_
  refine r_i2l X dX10_floorTimes_5 ?_
  refine r_lmul X dX10_floorTimes_6 ?_
  refine r_aload_n X (by rfl) dX10_floorTimes_7 ?_
  refine r_getJ X dX10_floorTimes_8 zF_X10_13 hτ ?_
  refine r_iload_n X (by rfl) dX10_floorTimes_11 ?_
  refine r_i2l X dX10_floorTimes_12 ?_
  refine r_lmul X dX10_floorTimes_13 ?_
  refine r_bipush X 44 (by decide) dX10_floorTimes_14 ?_
  refine r_lshr X dX10_floorTimes_16 ?_
  refine r_ladd X dX10_floorTimes_17 ?_
  refine r_bipush X 44 (by decide) dX10_floorTimes_18 ?_
  refine r_lshr X dX10_floorTimes_20 ?_
  refine r_lreturn X hR dX10_floorTimes_21 (Nat.zero_le _) (Nat.zero_le _) ?_
  exact ⟨rfl, rfl⟩
set_option maxHeartbeats 4000000 in
set_option maxRecDepth 100000 in
theorem c_X2_addGrowth (l : Launch) (G : zG) (z : Nat) (τ : Nat → Option (Nat × Nat)) (ρ : Nat → Nat → Option Nat) (ι : Nat → Nat → Int32) (κ : Nat → Nat → Int64) {a te M1 M2 : Nat} (hτ : τ a = some (2, M1)) (hρ2 : ρ a 2 = some te) (hte : τ te = some (10, M2)) {b M5 : Nat} (hb : τ b = some (10, M5)) (dtb : te ≠ b) (x y : Int32) : zM l G yX2_addGrowth cX2_addGrowth 5 none ({ frames := 1, cells := 0, slots := 0, locals := 26 } : Room) [.ref a, .ref b, .int x, .int y] (z, τ, ρ, ι, κ) (fun v s => v = none ∧ ∃ κ2, s = (z, τ, ρ, ι, κ2) ∧ (∀ b9, b9 ≠ te → b9 ≠ b → κ2 b9 = κ b9) ∧ (κ2 b 0, κ2 b 1) = zAg (κ b 0) (κ b 1) x y ∧ (x.toInt < 1 → κ2 = κ)) 0 0 := by
  refine zM_of zCd_X2_addGrowth (Nat.le_of_ble_eq_true rfl) ?_
  intro E X hR hE
  subst hE
  show zW E G 5 (z, τ, ρ, ι, κ) 0 0 0 [(0, .ref a), (1, .ref b), (2, .int x), (3, .int y)] []
  have L31 : ∀ (hx : 1 ≤ x.toInt) (m : Nat) (i : Int32) (κ1 : Nat → Nat → Int64), (101 - i.toInt).toNat < 2 * m → 1 ≤ i.toInt → i.toInt ≤ 101 → (∀ b9, b9 ≠ te → b9 ≠ b → κ1 b9 = κ b9) → zGo x y m i (κ1 te 0) (κ1 te 1) (κ1 b 0) (κ1 b 1) = zAg (κ b 0) (κ b 1) x y → zW E G 5 (z, τ, ρ, ι, κ1) 0 0 31 [(0, .ref a), (1, .ref b), (2, .int x), (3, .int y), (4, .int i)] [] := by
    intro hx m
    induction m with
    | zero => intro i κ1 h; omega
    | succ m ih => ?_
    intro i κ1 hm h1 h2 hf hG
    rw [zGo] at hG
    refine r_iload X (by rfl) dX2_addGrowth_31 ?_
    refine r_bipush X 99 (by decide) dX2_addGrowth_33 ?_
    refine r_icmp_gt X 82 dX2_addGrowth_35 (by decide) (fun h35 => ?_) (fun h35 => ?_)
    · rw [show Int32.toInt 99 = 99 from rfl] at h35
      rw [if_neg (fun q => by omega)] at hG
      refine r_return X hR dX2_addGrowth_82 (Nat.zero_le _) (Nat.zero_le _) ?_
      exact ⟨rfl, _, rfl, hf, hG, fun q => by omega⟩
    · rw [show Int32.toInt 99 = 99 from rfl] at h35
      refine r_aload_n X (by rfl) dX2_addGrowth_38 ?_
      refine r_getR X dX2_addGrowth_39 zF_X2_19 hτ hρ2 ?_
      refine r_callV X dX2_addGrowth_42 zLV_X2_52 zCd_X10_isZero (c_X10_isZero _ G z τ ρ _ _ hte) hte ⟨by decide, rfl, rfl⟩ rfl rfl ⟨⟨rfl, rfl⟩, ⟨by decide, by decide⟩, ⟨Nat.le_of_ble_eq_true rfl, Nat.le_of_ble_eq_true rfl⟩, Nat.le_of_ble_eq_true rfl⟩ ?_
      rintro _ _ ⟨rfl, rfl⟩
      refine r_if_ne X 82 dX2_addGrowth_45 (by decide) (fun h45 => ?_) (fun h45 => ?_)
      · rw [if_neg (fun q => zb01 h45 q.2)] at hG
        refine r_return X hR dX2_addGrowth_82 (Nat.zero_le _) (Nat.zero_le _) ?_
        exact ⟨rfl, _, rfl, hf, hG, fun q => by omega⟩
      · rw [if_pos ⟨by omega, fun q => zb00 h45 q⟩] at hG
        refine r_aload_n X (by rfl) dX2_addGrowth_48 ?_
        refine r_aload_n X (by rfl) dX2_addGrowth_49 ?_
        refine r_getR X dX2_addGrowth_50 zF_X2_19 hτ hρ2 ?_
        refine r_iload X (by rfl) dX2_addGrowth_53 ?_
        refine r_callV X dX2_addGrowth_55 zLV_X2_56 zCd_X10_addPart (c_X10_addPart _ G z τ ρ _ _ hb hte _) hb ⟨by decide, rfl, rfl⟩ rfl rfl ⟨⟨rfl, rfl⟩, ⟨by decide, by decide⟩, ⟨Nat.le_of_ble_eq_true rfl, Nat.le_of_ble_eq_true rfl⟩, Nat.le_of_ble_eq_true rfl⟩ ?_
        rintro _ _ ⟨rfl, rfl⟩
        refine r_aload_n X (by rfl) dX2_addGrowth_58 ?_
        refine r_getR X dX2_addGrowth_59 zF_X2_19 hτ hρ2 ?_
        refine r_iload_n X (by rfl) dX2_addGrowth_62 ?_
        refine r_iload_n X (by rfl) dX2_addGrowth_63 ?_
        refine r_callV X dX2_addGrowth_64 zLV_X2_48 zCd_X10_shrink (c_X10_shrink _ G z τ ρ _ _ hte _ _) hte ⟨by decide, rfl, rfl⟩ rfl rfl ⟨⟨rfl, rfl⟩, ⟨by decide, by decide⟩, ⟨Nat.le_of_ble_eq_true rfl, Nat.le_of_ble_eq_true rfl⟩, Nat.le_of_ble_eq_true rfl⟩ ?_
        rintro _ _ ⟨rfl, rfl⟩
        refine r_aload_n X (by rfl) dX2_addGrowth_67 ?_
        refine r_getR X dX2_addGrowth_68 zF_X2_19 hτ hρ2 ?_
        refine r_iload_n X (by rfl) dX2_addGrowth_71 ?_
        refine r_iload_n X (by rfl) dX2_addGrowth_72 ?_
        refine r_callV X dX2_addGrowth_73 zLV_X2_48 zCd_X10_shrink (c_X10_shrink _ G z τ ρ _ _ hte _ _) hte ⟨by decide, rfl, rfl⟩ rfl rfl ⟨⟨rfl, rfl⟩, ⟨by decide, by decide⟩, ⟨Nat.le_of_ble_eq_true rfl, Nat.le_of_ble_eq_true rfl⟩, Nat.le_of_ble_eq_true rfl⟩ ?_
        rintro _ _ ⟨rfl, rfl⟩
        refine r_iinc X 2 (by decide) (by rfl) (by decide) dX2_addGrowth_76 ?_
        refine r_goto X 31 dX2_addGrowth_79 (by decide) ?_
        exact zW.loc5 (by rfl) (by rfl) (by rfl) (by rfl) (by rfl) (ih _ _ (by have e := zadd_c (x := i) 2 2 rfl (by omega) (by omega); omega) (by have e := zadd_c (x := i) 2 2 rfl (by omega) (by omega); omega) (by have e := zadd_c (x := i) 2 2 rfl (by omega) (by omega); omega) (fun b9 q1 q2 => by rw [zSk_r q1, zSk_r q1, zAk_r q2]; exact hf b9 q1 q2) (by
          unfold zSwh zSwl at hG
          simp only [zSk_0, zSk_1, zSk_r (Ne.symm dtb), zAk_r dtb, zAk_0, zAk_1]
          with_reducible exact hG))
  refine r_iload_n X (by rfl) dX2_addGrowth_0 ?_
  refine r_iconst X 1 (by decide) dX2_addGrowth_1 ?_
  refine r_icmp_ge X 6 dX2_addGrowth_2 (by decide) (fun h2 => ?_) (fun h2 => ?_)
  · rw [show Int32.toInt 1 = 1 from rfl] at h2
    refine r_aload_n X (by rfl) dX2_addGrowth_6 ?_
    refine r_getR X dX2_addGrowth_7 zF_X2_19 hτ hρ2 ?_
    refine r_ldc2 X zK_X2_40 dX2_addGrowth_10 ?_
    refine r_ldc2 X zK_X2_42 dX2_addGrowth_13 ?_
    refine r_callV X dX2_addGrowth_16 zLV_X2_44 zCd_X10_put (c_X10_put _ G z τ ρ _ _ hte _ _) hte ⟨by decide, rfl, rfl⟩ rfl rfl ⟨⟨rfl, rfl⟩, ⟨by decide, by decide⟩, ⟨Nat.le_of_ble_eq_true rfl, Nat.le_of_ble_eq_true rfl⟩, Nat.le_of_ble_eq_true rfl⟩ ?_
    rintro _ _ ⟨rfl, rfl⟩
    refine r_aload_n X (by rfl) dX2_addGrowth_19 ?_
    refine r_getR X dX2_addGrowth_20 zF_X2_19 hτ hρ2 ?_
    refine r_iload_n X (by rfl) dX2_addGrowth_23 ?_
    refine r_iload_n X (by rfl) dX2_addGrowth_24 ?_
    refine r_callV X dX2_addGrowth_25 zLV_X2_48 zCd_X10_shrink (c_X10_shrink _ G z τ ρ _ _ hte _ _) hte ⟨by decide, rfl, rfl⟩ rfl rfl ⟨⟨rfl, rfl⟩, ⟨by decide, by decide⟩, ⟨Nat.le_of_ble_eq_true rfl, Nat.le_of_ble_eq_true rfl⟩, Nat.le_of_ble_eq_true rfl⟩ ?_
    rintro _ _ ⟨rfl, rfl⟩
    refine r_iconst X 1 (by decide) dX2_addGrowth_28 ?_
    refine r_istore X (by decide) dX2_addGrowth_29 ?_
    exact zW.loc5 (by rfl) (by rfl) (by rfl) (by rfl) (by rfl) (L31 h2 51 _ _ (by decide) (by decide) (by decide) (fun b9 q1 q2 => by rw [zSk_r q1, zu_r q1, zu_r q1]) (by rw [zSk_0, zSk_1, zSk_r (Ne.symm dtb), zu_r (Ne.symm dtb), zu_r (Ne.symm dtb), zu_k (show (0 : Nat) ≠ 1 by decide), zu_s, zu_s, zAg, if_neg (by omega)]))
  · rw [show Int32.toInt 1 = 1 from rfl] at h2
    refine r_return X hR dX2_addGrowth_5 (Nat.zero_le _) (Nat.zero_le _) ?_
    exact ⟨rfl, _, rfl, fun _ _ _ => rfl, (if_pos (by omega)).symm, fun _ => rfl⟩
set_option maxHeartbeats 4000000 in
set_option maxRecDepth 100000 in
theorem c_X2_putLog (l : Launch) (G : zG) (z : Nat) (τ : Nat → Option (Nat × Nat)) (ρ : Nat → Nat → Option Nat) (ι : Nat → Nat → Int32) (κ : Nat → Nat → Int64) {a hi lo te to bo M1 M2 M3 M4 : Nat} (hτ : τ a = some (2, M1)) (hρ0 : ρ a 0 = some hi) (hρ1 : ρ a 1 = some lo) (hρ2 : ρ a 2 = some te) (hρ3 : ρ a 3 = some to) (hρ4 : ρ a 4 = some bo) (hhi : τ hi = some (1000, 900)) (hlo : τ lo = some (1001, 900)) (hte : τ te = some (10, M2)) (hto : τ to = some (10, M3)) (hbo : τ bo = some (10, M4)) {b M5 : Nat} (hb : τ b = some (10, M5)) (dtb : te ≠ b) (x : Int32) : zM l G yX2_putLog cX2_putLog 7 none ({ frames := 2, cells := 0, slots := 0, locals := 50 } : Room) [.ref a, .ref b, .int x] (z, τ, ρ, ι, κ) (fun v s => v = none ∧ ∃ κ2, s = (z, τ, ρ, ι, κ2)) 0 0 := by
  refine zM_of zCd_X2_putLog (Nat.le_of_ble_eq_true rfl) ?_
  intro E X hR hE
  subst hE
  show zW E G 7 (z, τ, ρ, ι, κ) 0 0 0 [(0, .ref a), (1, .ref b), (2, .int x)] []
  have L5 : ∀ (m : Nat) (i u : Int32), (3 - i.toInt).toNat < m → (i = 0 ∧ u = 1 ∨ i = 1 ∧ u = 10 ∨ i = 2 ∧ u = 100 ∨ i = 3 ∧ u = 1000) → zW E G 7 (z, τ, ρ, ι, κ) 0 0 5 [(0, .ref a), (1, .ref b), (2, .int x), (3, .int i), (4, .int u)] [] := by
    intro m
    induction m with
    | zero => intro i u h; omega
    | succ m ih => ?_
    intro i u hm h1
    refine r_iload_n X (by rfl) dX2_putLog_5 ?_
    refine r_iconst X 3 (by decide) dX2_putLog_6 ?_
    refine r_icmp_ge X 33 dX2_putLog_7 (by decide) (fun h7 => ?_) (fun h7 => ?_)
    · rw [show Int32.toInt 3 = 3 from rfl] at h7
      refine r_iload_n X (by rfl) dX2_putLog_33 ?_
      refine r_iload X (by rfl) dX2_putLog_34 ?_
      refine r_idiv X (by rcases h1 with ⟨-, rfl⟩ | ⟨-, rfl⟩ | ⟨-, rfl⟩ | ⟨-, rfl⟩ <;> decide) dX2_putLog_36 ?_
      refine r_bipush X 100 (by decide) dX2_putLog_37 ?_
      refine r_isub X dX2_putLog_39 ?_
      refine r_istore X (by decide) dX2_putLog_40 ?_
      refine r_iload X (by rfl) dX2_putLog_42 ?_
      refine r_if_lt X 55 dX2_putLog_44 (by decide) (fun h44 => ?_) (fun h44 => ?_)
      · refine r_return X hR dX2_putLog_55 (Nat.zero_le _) (Nat.zero_le _) ?_
        exact ⟨rfl, _, rfl⟩
      · refine r_iload X (by rfl) dX2_putLog_47 ?_
        refine r_sipush X 900 (by decide) dX2_putLog_49 ?_
        refine r_icmp_lt X 56 dX2_putLog_52 (by decide) (fun h52 => ?_) (fun h52 => ?_)
        · rw [show Int32.toInt 900 = 900 from rfl] at h52
          refine r_aload_n X (by rfl) dX2_putLog_56 ?_
          refine r_aload_n X (by rfl) dX2_putLog_57 ?_
          refine r_getR X dX2_putLog_58 zF_X2_9 hτ hρ0 ?_
          refine r_iload X (by rfl) dX2_putLog_61 ?_
          refine r_laloadF (f := 0) X dX2_putLog_63 hhi (vp_in_iff.mpr ⟨h44, by omega⟩) ?_
          refine r_iload_n X (by rfl) dX2_putLog_64 ?_
          refine r_i2l X dX2_putLog_65 ?_
          refine r_bipush X 44 (by decide) dX2_putLog_66 ?_
          refine r_lshl X dX2_putLog_68 ?_
          refine r_ladd X dX2_putLog_69 ?_
          refine r_aload_n X (by rfl) dX2_putLog_70 ?_
          refine r_getR X dX2_putLog_71 zF_X2_13 hτ hρ1 ?_
          refine r_iload X (by rfl) dX2_putLog_74 ?_
          refine r_laloadF (f := 1) X dX2_putLog_76 hlo (vp_in_iff.mpr ⟨h44, by omega⟩) ?_
          refine r_callV X dX2_putLog_77 zLV_X2_44 zCd_X10_put (c_X10_put _ G z τ ρ _ _ hb _ _) hb ⟨by decide, rfl, rfl⟩ rfl rfl ⟨⟨rfl, rfl⟩, ⟨by decide, by decide⟩, ⟨Nat.le_of_ble_eq_true rfl, Nat.le_of_ble_eq_true rfl⟩, Nat.le_of_ble_eq_true rfl⟩ ?_
          rintro _ _ ⟨rfl, rfl⟩
          refine r_iload X (by rfl) dX2_putLog_80 ?_
          refine r_bipush X 100 (by decide) dX2_putLog_82 ?_
          refine r_iadd X dX2_putLog_84 ?_
          refine r_iload X (by rfl) dX2_putLog_85 ?_
          refine r_imul X dX2_putLog_87 ?_
          refine r_istore X (by decide) dX2_putLog_88 ?_
          refine r_aload_n X (by rfl) dX2_putLog_90 ?_
          refine r_aload_n X (by rfl) dX2_putLog_91 ?_
          refine r_iload_n X (by rfl) dX2_putLog_92 ?_
          refine r_iload X (by rfl) dX2_putLog_93 ?_
          refine r_isub X dX2_putLog_95 ?_
          refine r_iload_n X (by rfl) dX2_putLog_96 ?_
          refine r_iload X (by rfl) dX2_putLog_97 ?_
          refine r_iadd X dX2_putLog_99 ?_
          refine r_callV X dX2_putLog_100 zLV_X2_29 zCd_X2_addGrowth (c_X2_addGrowth _ G z τ ρ _ _ hτ hρ2 hte hb dtb _ _) hτ ⟨by decide, rfl, rfl⟩ rfl rfl ⟨⟨rfl, rfl⟩, ⟨by decide, by decide⟩, ⟨Nat.le_of_ble_eq_true rfl, Nat.le_of_ble_eq_true rfl⟩, Nat.le_of_ble_eq_true rfl⟩ ?_
          rintro _ _ ⟨rfl, κ1, rfl, hf1, -, -⟩
          refine r_return X hR dX2_putLog_103 (Nat.zero_le _) (Nat.zero_le _) ?_
          exact ⟨rfl, _, rfl⟩
        · rw [show Int32.toInt 900 = 900 from rfl] at h52
          refine r_return X hR dX2_putLog_55 (Nat.zero_le _) (Nat.zero_le _) ?_
          exact ⟨rfl, _, rfl⟩
    · rw [show Int32.toInt 3 = 3 from rfl] at h7
      refine r_iload_n X (by rfl) dX2_putLog_10 ?_
      refine r_iload X (by rfl) dX2_putLog_11 ?_
      refine r_idiv X (by rcases h1 with ⟨-, rfl⟩ | ⟨-, rfl⟩ | ⟨-, rfl⟩ | ⟨-, rfl⟩ <;> decide) dX2_putLog_13 ?_
      refine r_sipush X 1000 (by decide) dX2_putLog_14 ?_
      refine r_icmp_lt X 33 dX2_putLog_17 (by decide) (fun h17 => ?_) (fun h17 => ?_)
      · rw [show Int32.toInt 1000 = 1000 from rfl] at h17
        refine r_iload_n X (by rfl) dX2_putLog_33 ?_
        refine r_iload X (by rfl) dX2_putLog_34 ?_
        refine r_idiv X (by rcases h1 with ⟨-, rfl⟩ | ⟨-, rfl⟩ | ⟨-, rfl⟩ | ⟨-, rfl⟩ <;> decide) dX2_putLog_36 ?_
        refine r_bipush X 100 (by decide) dX2_putLog_37 ?_
        refine r_isub X dX2_putLog_39 ?_
        refine r_istore X (by decide) dX2_putLog_40 ?_
        refine r_iload X (by rfl) dX2_putLog_42 ?_
        refine r_if_lt X 55 dX2_putLog_44 (by decide) (fun h44 => ?_) (fun h44 => ?_)
        · refine r_return X hR dX2_putLog_55 (Nat.zero_le _) (Nat.zero_le _) ?_
          exact ⟨rfl, _, rfl⟩
        · refine r_iload X (by rfl) dX2_putLog_47 ?_
          refine r_sipush X 900 (by decide) dX2_putLog_49 ?_
          refine r_icmp_lt X 56 dX2_putLog_52 (by decide) (fun h52 => ?_) (fun h52 => ?_)
          · rw [show Int32.toInt 900 = 900 from rfl] at h52
            refine r_aload_n X (by rfl) dX2_putLog_56 ?_
            refine r_aload_n X (by rfl) dX2_putLog_57 ?_
            refine r_getR X dX2_putLog_58 zF_X2_9 hτ hρ0 ?_
            refine r_iload X (by rfl) dX2_putLog_61 ?_
            refine r_laloadF (f := 0) X dX2_putLog_63 hhi (vp_in_iff.mpr ⟨h44, by omega⟩) ?_
            refine r_iload_n X (by rfl) dX2_putLog_64 ?_
            refine r_i2l X dX2_putLog_65 ?_
            refine r_bipush X 44 (by decide) dX2_putLog_66 ?_
            refine r_lshl X dX2_putLog_68 ?_
            refine r_ladd X dX2_putLog_69 ?_
            refine r_aload_n X (by rfl) dX2_putLog_70 ?_
            refine r_getR X dX2_putLog_71 zF_X2_13 hτ hρ1 ?_
            refine r_iload X (by rfl) dX2_putLog_74 ?_
            refine r_laloadF (f := 1) X dX2_putLog_76 hlo (vp_in_iff.mpr ⟨h44, by omega⟩) ?_
            refine r_callV X dX2_putLog_77 zLV_X2_44 zCd_X10_put (c_X10_put _ G z τ ρ _ _ hb _ _) hb ⟨by decide, rfl, rfl⟩ rfl rfl ⟨⟨rfl, rfl⟩, ⟨by decide, by decide⟩, ⟨Nat.le_of_ble_eq_true rfl, Nat.le_of_ble_eq_true rfl⟩, Nat.le_of_ble_eq_true rfl⟩ ?_
            rintro _ _ ⟨rfl, rfl⟩
            refine r_iload X (by rfl) dX2_putLog_80 ?_
            refine r_bipush X 100 (by decide) dX2_putLog_82 ?_
            refine r_iadd X dX2_putLog_84 ?_
            refine r_iload X (by rfl) dX2_putLog_85 ?_
            refine r_imul X dX2_putLog_87 ?_
            refine r_istore X (by decide) dX2_putLog_88 ?_
            refine r_aload_n X (by rfl) dX2_putLog_90 ?_
            refine r_aload_n X (by rfl) dX2_putLog_91 ?_
            refine r_iload_n X (by rfl) dX2_putLog_92 ?_
            refine r_iload X (by rfl) dX2_putLog_93 ?_
            refine r_isub X dX2_putLog_95 ?_
            refine r_iload_n X (by rfl) dX2_putLog_96 ?_
            refine r_iload X (by rfl) dX2_putLog_97 ?_
            refine r_iadd X dX2_putLog_99 ?_
            refine r_callV X dX2_putLog_100 zLV_X2_29 zCd_X2_addGrowth (c_X2_addGrowth _ G z τ ρ _ _ hτ hρ2 hte hb dtb _ _) hτ ⟨by decide, rfl, rfl⟩ rfl rfl ⟨⟨rfl, rfl⟩, ⟨by decide, by decide⟩, ⟨Nat.le_of_ble_eq_true rfl, Nat.le_of_ble_eq_true rfl⟩, Nat.le_of_ble_eq_true rfl⟩ ?_
            rintro _ _ ⟨rfl, κ1, rfl, hf1, -, -⟩
            refine r_return X hR dX2_putLog_103 (Nat.zero_le _) (Nat.zero_le _) ?_
            exact ⟨rfl, _, rfl⟩
          · rw [show Int32.toInt 900 = 900 from rfl] at h52
            refine r_return X hR dX2_putLog_55 (Nat.zero_le _) (Nat.zero_le _) ?_
            exact ⟨rfl, _, rfl⟩
      · rw [show Int32.toInt 1000 = 1000 from rfl] at h17
        refine r_iinc X 1 (by decide) (by rfl) (by decide) dX2_putLog_20 ?_
        refine r_iload X (by rfl) dX2_putLog_23 ?_
        refine r_bipush X 10 (by decide) dX2_putLog_25 ?_
        refine r_imul X dX2_putLog_27 ?_
        refine r_istore X (by decide) dX2_putLog_28 ?_
        refine r_goto X 5 dX2_putLog_30 (by decide) ?_
        exact zW.loc5 (by rfl) (by rfl) (by rfl) (by rfl) (by rfl) (ih _ _ (by rcases h1 with ⟨rfl, rfl⟩ | ⟨rfl, rfl⟩ | ⟨rfl, rfl⟩ | ⟨rfl, rfl⟩ <;> first | exact absurd h7 (by decide) | (change (3 - (0 : Int)).toNat < _ at hm; show (3 - (1 : Int)).toNat < m; omega) | (change (3 - (1 : Int)).toNat < _ at hm; show (3 - (2 : Int)).toNat < m; omega) | (change (3 - (2 : Int)).toNat < _ at hm; show (3 - (3 : Int)).toNat < m; omega)) (by rcases h1 with ⟨rfl, rfl⟩ | ⟨rfl, rfl⟩ | ⟨rfl, rfl⟩ | ⟨rfl, rfl⟩ <;> first | exact absurd h7 (by decide) | decide))
  refine r_iconst X 0 (by decide) dX2_putLog_0 ?_
  refine r_istore_n X (by decide) dX2_putLog_1 ?_
  refine r_iconst X 1 (by decide) dX2_putLog_2 ?_
  refine r_istore X (by decide) dX2_putLog_3 ?_
  exact zW.loc5 (by rfl) (by rfl) (by rfl) (by rfl) (by rfl) (L5 4 _ _ (by decide) (by decide))
set_option maxHeartbeats 4000000 in
set_option maxRecDepth 100000 in
theorem c_X2_putLogE (l : Launch) (G : zG) (z : Nat) (τ : Nat → Option (Nat × Nat)) (ρ : Nat → Nat → Option Nat) (ι : Nat → Nat → Int32) (κ : Nat → Nat → Int64) {a hi lo te to bo M1 M2 M3 M4 : Nat} (hτ : τ a = some (2, M1)) (hρ0 : ρ a 0 = some hi) (hρ1 : ρ a 1 = some lo) (hρ2 : ρ a 2 = some te) (hρ3 : ρ a 3 = some to) (hρ4 : ρ a 4 = some bo) (hhi : τ hi = some (1000, 900)) (hlo : τ lo = some (1001, 900)) (hte : τ te = some (10, M2)) (hto : τ to = some (10, M3)) (hbo : τ bo = some (10, M4)) {b M5 : Nat} (hb : τ b = some (10, M5)) (dtb : te ≠ b) (x : Int32) (x0 : 100 ≤ x.toInt) (x1 : x.toInt ≤ 999) : zM l G yX2_putLog cX2_putLog 7 none ({ frames := 2, cells := 0, slots := 0, locals := 50 } : Room) [.ref a, .ref b, .int x] (z, τ, ρ, ι, κ) (fun v s => v = none ∧ ∃ κ2, s = (z, τ, ρ, ι, κ2) ∧ (∀ b9, b9 ≠ te → b9 ≠ b → κ2 b9 = κ b9) ∧ κ2 b 0 = zFz 0 (x - 100).toNatClampNeg ∧ κ2 b 1 = zFz 1 (x - 100).toNatClampNeg) 0 0 := by
  refine zM_of zCd_X2_putLog (Nat.le_of_ble_eq_true rfl) ?_
  intro E X hR hE
  subst hE
  show zW E G 7 (z, τ, ρ, ι, κ) 0 0 0 [(0, .ref a), (1, .ref b), (2, .int x)] []
  have hd1 := zdiv1 (x := x) (by omega)
  have hs1 : (x - 100).toInt = x.toInt - 100 := zsubI (by rw [show Int32.toInt 100 = 100 from rfl]; omega) (by rw [show Int32.toInt 100 = 100 from rfl]; omega)
  refine r_iconst X 0 (by decide) dX2_putLog_0 ?_
  refine r_istore_n X (by decide) dX2_putLog_1 ?_
  refine r_iconst X 1 (by decide) dX2_putLog_2 ?_
  refine r_istore X (by decide) dX2_putLog_3 ?_
  refine r_iload_n X (by rfl) dX2_putLog_5 ?_
  refine r_iconst X 3 (by decide) dX2_putLog_6 ?_
  refine r_icmp_ge X 33 dX2_putLog_7 (by decide) (fun h => absurd h (by decide)) (fun _ => ?_)
  refine r_iload_n X (by rfl) dX2_putLog_10 ?_
  refine r_iload X (by rfl) dX2_putLog_11 ?_
  refine r_idiv X (by decide) dX2_putLog_13 ?_
  rw [hd1]
  refine r_sipush X 1000 (by decide) dX2_putLog_14 ?_
  refine r_icmp_lt X 33 dX2_putLog_17 (by decide) (fun h17 => ?_) (fun h17 => ?_)
  · rw [show Int32.toInt 1000 = 1000 from rfl] at h17
    refine r_iload_n X (by rfl) dX2_putLog_33 ?_
    refine r_iload X (by rfl) dX2_putLog_34 ?_
    refine r_idiv X (by decide) dX2_putLog_36 ?_
    rw [hd1]
    refine r_bipush X 100 (by decide) dX2_putLog_37 ?_
    refine r_isub X dX2_putLog_39 ?_
    refine r_istore X (by decide) dX2_putLog_40 ?_
    refine r_iload X (by rfl) dX2_putLog_42 ?_
    refine r_if_lt X 55 dX2_putLog_44 (by decide) (fun h44 => ?_) (fun h44 => ?_)
    · exfalso; omega
    · refine r_iload X (by rfl) dX2_putLog_47 ?_
      refine r_sipush X 900 (by decide) dX2_putLog_49 ?_
      refine r_icmp_lt X 56 dX2_putLog_52 (by decide) (fun h52 => ?_) (fun h52 => ?_)
      · rw [show Int32.toInt 900 = 900 from rfl] at h52
        refine r_aload_n X (by rfl) dX2_putLog_56 ?_
        refine r_aload_n X (by rfl) dX2_putLog_57 ?_
        refine r_getR X dX2_putLog_58 zF_X2_9 hτ hρ0 ?_
        refine r_iload X (by rfl) dX2_putLog_61 ?_
        refine r_laloadF (f := 0) X dX2_putLog_63 hhi (vp_in_iff.mpr ⟨by omega, by omega⟩) ?_
        refine r_iload_n X (by rfl) dX2_putLog_64 ?_
        refine r_i2l X dX2_putLog_65 ?_
        refine r_bipush X 44 (by decide) dX2_putLog_66 ?_
        refine r_lshl X dX2_putLog_68 ?_
        refine r_ladd X dX2_putLog_69 ?_
        refine r_aload_n X (by rfl) dX2_putLog_70 ?_
        refine r_getR X dX2_putLog_71 zF_X2_13 hτ hρ1 ?_
        refine r_iload X (by rfl) dX2_putLog_74 ?_
        refine r_laloadF (f := 1) X dX2_putLog_76 hlo (vp_in_iff.mpr ⟨by omega, by omega⟩) ?_
        refine r_callV X dX2_putLog_77 zLV_X2_44 zCd_X10_put (c_X10_put _ G z τ ρ _ _ hb _ _) hb ⟨by decide, rfl, rfl⟩ rfl rfl ⟨⟨rfl, rfl⟩, ⟨by decide, by decide⟩, ⟨Nat.le_of_ble_eq_true rfl, Nat.le_of_ble_eq_true rfl⟩, Nat.le_of_ble_eq_true rfl⟩ ?_
        rintro _ _ ⟨rfl, rfl⟩
        refine r_iload X (by rfl) dX2_putLog_80 ?_
        refine r_bipush X 100 (by decide) dX2_putLog_82 ?_
        refine r_iadd X dX2_putLog_84 ?_
        refine r_iload X (by rfl) dX2_putLog_85 ?_
        refine r_imul X dX2_putLog_87 ?_
        refine r_istore X (by decide) dX2_putLog_88 ?_
        refine r_aload_n X (by rfl) dX2_putLog_90 ?_
        refine r_aload_n X (by rfl) dX2_putLog_91 ?_
        refine r_iload_n X (by rfl) dX2_putLog_92 ?_
        refine r_iload X (by rfl) dX2_putLog_93 ?_
        refine r_isub X dX2_putLog_95 ?_
        refine r_iload_n X (by rfl) dX2_putLog_96 ?_
        refine r_iload X (by rfl) dX2_putLog_97 ?_
        refine r_iadd X dX2_putLog_99 ?_
        refine r_callV X dX2_putLog_100 zLV_X2_29 zCd_X2_addGrowth (c_X2_addGrowth _ G z τ ρ _ _ hτ hρ2 hte hb dtb _ _) hτ ⟨by decide, rfl, rfl⟩ rfl rfl ⟨⟨rfl, rfl⟩, ⟨by decide, by decide⟩, ⟨Nat.le_of_ble_eq_true rfl, Nat.le_of_ble_eq_true rfl⟩, Nat.le_of_ble_eq_true rfl⟩ ?_
        rintro _ _ ⟨rfl, κ1, rfl, -, -, hk1⟩
        refine r_return X hR dX2_putLog_103 (Nat.zero_le _) (Nat.zero_le _) ?_
        have hk := hk1 (by rw [Int32.sub_add_cancel, Int32.mul_one, Int32.sub_self]; decide)
        rw [hk]
        exact ⟨rfl, _, rfl, fun b9 q1 q2 => by rw [zu_r q2, zu_r q2], by rw [zu_k (show (0 : Nat) ≠ 1 by decide), zu_s, show ((0 : Int32).toInt64 <<< ((44 : Int32).toInt64 &&& 63)) = 0 from by decide, Int64.add_zero], zu_s⟩
      · rw [show Int32.toInt 900 = 900 from rfl] at h52
        exfalso; omega
  · rw [show Int32.toInt 1000 = 1000 from rfl] at h17
    exfalso; omega
set_option maxHeartbeats 4000000 in
set_option maxRecDepth 100000 in
theorem c_X2_placeOf (l : Launch) (G : zG) (z : Nat) (τ : Nat → Option (Nat × Nat)) (ρ : Nat → Nat → Option Nat) (ι : Nat → Nat → Int32) (κ : Nat → Nat → Int64) {a hi lo te to bo M1 M2 M3 M4 : Nat} (hτ : τ a = some (2, M1)) (hρ0 : ρ a 0 = some hi) (hρ1 : ρ a 1 = some lo) (hρ2 : ρ a 2 = some te) (hρ3 : ρ a 3 = some to) (hρ4 : ρ a 4 = some bo) (hhi : τ hi = some (1000, 900)) (hlo : τ lo = some (1001, 900)) (hte : τ te = some (10, M2)) (hto : τ to = some (10, M3)) (hbo : τ bo = some (10, M4)) (dte : te ≠ to) (dtb : te ≠ bo) (x y u w : Int32) : zM l G yX2_placeOf cX2_placeOf 7 (some .int) ({ frames := 3, cells := 0, slots := 0, locals := 76 } : Room) [.ref a, .int x, .int y, .int u, .int w] (z, τ, ρ, ι, κ) (fun v s => ∃ r κ2, v = some (.int r) ∧ s = (z, τ, ρ, ι, κ2)) 0 0 := by
  refine zM_of zCd_X2_placeOf (Nat.le_of_ble_eq_true rfl) ?_
  intro E X hR hE
  subst hE
  show zW E G 7 (z, τ, ρ, ι, κ) 0 0 0 [(0, .ref a), (1, .int x), (2, .int y), (3, .int u), (4, .int w)] []
  refine r_iload_n X (by rfl) dX2_placeOf_0 ?_
  refine r_iconst X 1 (by decide) dX2_placeOf_1 ?_
  refine r_icmp_ge X 7 dX2_placeOf_2 (by decide) (fun h2 => ?_) (fun h2 => ?_)
  · rw [show Int32.toInt 1 = 1 from rfl] at h2
    refine r_aload_n X (by rfl) dX2_placeOf_7 ?_
    refine r_aload_n X (by rfl) dX2_placeOf_8 ?_
    refine r_getR X dX2_placeOf_9 zF_X2_23 hτ hρ3 ?_
    refine r_iload_n X (by rfl) dX2_placeOf_12 ?_
    refine r_callV X dX2_placeOf_13 zLV_X2_60 zCd_X2_putLog (c_X2_putLog _ G z τ ρ _ _ hτ hρ0 hρ1 hρ2 hρ3 hρ4 hhi hlo hte hto hbo hto dte _) hτ ⟨by decide, rfl, rfl⟩ rfl rfl ⟨⟨rfl, rfl⟩, ⟨by decide, by decide⟩, ⟨Nat.le_of_ble_eq_true rfl, Nat.le_of_ble_eq_true rfl⟩, Nat.le_of_ble_eq_true rfl⟩ ?_
    rintro _ _ ⟨rfl, κ1, rfl⟩
    refine r_aload_n X (by rfl) dX2_placeOf_16 ?_
    refine r_aload_n X (by rfl) dX2_placeOf_17 ?_
    refine r_getR X dX2_placeOf_18 zF_X2_26 hτ hρ4 ?_
    refine r_bipush X 10 (by decide) dX2_placeOf_21 ?_
    refine r_iload X (by rfl) dX2_placeOf_23 ?_
    refine r_imul X dX2_placeOf_25 ?_
    refine r_callV X dX2_placeOf_26 zLV_X2_60 zCd_X2_putLog (c_X2_putLog _ G z τ ρ _ _ hτ hρ0 hρ1 hρ2 hρ3 hρ4 hhi hlo hte hto hbo hbo dtb _) hτ ⟨by decide, rfl, rfl⟩ rfl rfl ⟨⟨rfl, rfl⟩, ⟨by decide, by decide⟩, ⟨Nat.le_of_ble_eq_true rfl, Nat.le_of_ble_eq_true rfl⟩, Nat.le_of_ble_eq_true rfl⟩ ?_
    rintro _ _ ⟨rfl, κ2, rfl⟩
    refine r_aload_n X (by rfl) dX2_placeOf_29 ?_
    refine r_getR X dX2_placeOf_30 zF_X2_23 hτ hρ3 ?_
    refine r_aload_n X (by rfl) dX2_placeOf_33 ?_
    refine r_getR X dX2_placeOf_34 zF_X2_26 hτ hρ4 ?_
    refine r_callV X dX2_placeOf_37 zLV_X2_63 zCd_X10_subtract (c_X10_subtract _ G z τ ρ _ _ hto hbo) hto ⟨by decide, rfl, rfl⟩ rfl rfl ⟨⟨rfl, rfl⟩, ⟨by decide, by decide⟩, ⟨Nat.le_of_ble_eq_true rfl, Nat.le_of_ble_eq_true rfl⟩, Nat.le_of_ble_eq_true rfl⟩ ?_
    rintro _ _ ⟨rfl, rfl⟩
    refine r_aload_n X (by rfl) dX2_placeOf_40 ?_
    refine r_getR X dX2_placeOf_41 zF_X2_23 hτ hρ3 ?_
    refine r_iconst X 2 (by decide) dX2_placeOf_44 ?_
    refine r_iload_n X (by rfl) dX2_placeOf_45 ?_
    refine r_imul X dX2_placeOf_46 ?_
    refine r_callV X dX2_placeOf_47 zLV_X2_67 zCd_X10_floorTimes (c_X10_floorTimes _ G z τ ρ _ _ hto _) hto ⟨by decide, rfl, rfl⟩ rfl rfl ⟨⟨rfl, rfl⟩, ⟨by decide, by decide⟩, ⟨Nat.le_of_ble_eq_true rfl, Nat.le_of_ble_eq_true rfl⟩, Nat.le_of_ble_eq_true rfl⟩ ?_
    rintro _ _ ⟨rfl, rfl⟩
    refine r_lstore X (by decide) dX2_placeOf_50 ?_
    refine r_lload X (by rfl) dX2_placeOf_52 ?_
    refine r_iload_n X (by rfl) dX2_placeOf_54 ?_
    refine r_i2l X dX2_placeOf_55 ?_
    refine r_ladd X dX2_placeOf_56 ?_
    refine r_ldc2 X zK_X2_71 dX2_placeOf_57 ?_
    refine r_iload_n X (by rfl) dX2_placeOf_60 ?_
    refine r_i2l X dX2_placeOf_61 ?_
    refine r_lmul X dX2_placeOf_62 ?_
    refine r_callS X dX2_placeOf_63 zLS_X2_73 zCd_J9_floorDiv_f86c9 (c_floorDiv _ G z τ ρ _ _ _ _ (z2l h2)) rfl rfl ⟨⟨rfl, rfl⟩, ⟨by decide, by decide⟩, ⟨Nat.le_of_ble_eq_true rfl, Nat.le_of_ble_eq_true rfl⟩, Nat.le_of_ble_eq_true rfl⟩ ?_
    rintro _ _ ⟨rfl, rfl⟩
    refine r_l2i X dX2_placeOf_66 ?_
    refine r_ireturn X hR dX2_placeOf_67 rfl (Nat.zero_le _) (Nat.zero_le _) ?_
    exact ⟨_, _, rfl, rfl⟩
  · rw [show Int32.toInt 1 = 1 from rfl] at h2
    refine r_iconst X 0 (by decide) dX2_placeOf_5 ?_
    refine r_ireturn X hR dX2_placeOf_6 rfl (Nat.zero_le _) (Nat.zero_le _) ?_
    exact ⟨_, _, rfl, rfl⟩
set_option maxHeartbeats 4000000 in
set_option maxRecDepth 100000 in
theorem c_X2_placeOfE (l : Launch) (G : zG) (z : Nat) (τ : Nat → Option (Nat × Nat)) (ρ : Nat → Nat → Option Nat) (ι : Nat → Nat → Int32) (κ : Nat → Nat → Int64) {a hi lo te to bo M1 M2 M3 M4 : Nat} (hτ : τ a = some (2, M1)) (hρ0 : ρ a 0 = some hi) (hρ1 : ρ a 1 = some lo) (hρ2 : ρ a 2 = some te) (hρ3 : ρ a 3 = some to) (hρ4 : ρ a 4 = some bo) (hhi : τ hi = some (1000, 900)) (hlo : τ lo = some (1001, 900)) (hte : τ te = some (10, M2)) (hto : τ to = some (10, M3)) (hbo : τ bo = some (10, M4)) (dte : te ≠ to) (dtb : te ≠ bo) (dtt : to ≠ bo) (x y : Int32) (x0 : 100 ≤ x.toInt) (x1 : x.toInt ≤ 999) (hT : zTq) : zM l G yX2_placeOf cX2_placeOf 7 (some .int) ({ frames := 3, cells := 0, slots := 0, locals := 76 } : Room) [.ref a, .int x, .int y, .int 1, .int 10] (z, τ, ρ, ι, κ) (fun v s => ∃ κ2, v = some (.int (zPc (zFz 0 (x - 100).toNatClampNeg) (zFz 1 (x - 100).toNatClampNeg) y)) ∧ s = (z, τ, ρ, ι, κ2)) 0 0 := by
  refine zM_of zCd_X2_placeOf (Nat.le_of_ble_eq_true rfl) ?_
  intro E X hR hE
  subst hE
  show zW E G 7 (z, τ, ρ, ι, κ) 0 0 0 [(0, .ref a), (1, .int x), (2, .int y), (3, .int 1), (4, .int 10)] []
  refine r_iload_n X (by rfl) dX2_placeOf_0 ?_
  refine r_iconst X 1 (by decide) dX2_placeOf_1 ?_
  refine r_icmp_ge X 7 dX2_placeOf_2 (by decide) (fun h2 => ?_) (fun h2 => ?_)
  · rw [show Int32.toInt 1 = 1 from rfl] at h2
    refine r_aload_n X (by rfl) dX2_placeOf_7 ?_
    refine r_aload_n X (by rfl) dX2_placeOf_8 ?_
    refine r_getR X dX2_placeOf_9 zF_X2_23 hτ hρ3 ?_
    refine r_iload_n X (by rfl) dX2_placeOf_12 ?_
    refine r_callV X dX2_placeOf_13 zLV_X2_60 zCd_X2_putLog (c_X2_putLogE _ G z τ ρ _ _ hτ hρ0 hρ1 hρ2 hρ3 hρ4 hhi hlo hte hto hbo hto dte _ x0 x1) hτ ⟨by decide, rfl, rfl⟩ rfl rfl ⟨⟨rfl, rfl⟩, ⟨by decide, by decide⟩, ⟨Nat.le_of_ble_eq_true rfl, Nat.le_of_ble_eq_true rfl⟩, Nat.le_of_ble_eq_true rfl⟩ ?_
    rintro _ _ ⟨rfl, κ1, rfl, hf1, e1, e2⟩
    refine r_aload_n X (by rfl) dX2_placeOf_16 ?_
    refine r_aload_n X (by rfl) dX2_placeOf_17 ?_
    refine r_getR X dX2_placeOf_18 zF_X2_26 hτ hρ4 ?_
    refine r_bipush X 10 (by decide) dX2_placeOf_21 ?_
    refine r_iload X (by rfl) dX2_placeOf_23 ?_
    refine r_imul X dX2_placeOf_25 ?_
    refine r_callV X dX2_placeOf_26 zLV_X2_60 zCd_X2_putLog (c_X2_putLogE _ G z τ ρ _ _ hτ hρ0 hρ1 hρ2 hρ3 hρ4 hhi hlo hte hto hbo hbo dtb _ (by decide) (by decide)) hτ ⟨by decide, rfl, rfl⟩ rfl rfl ⟨⟨rfl, rfl⟩, ⟨by decide, by decide⟩, ⟨Nat.le_of_ble_eq_true rfl, Nat.le_of_ble_eq_true rfl⟩, Nat.le_of_ble_eq_true rfl⟩ ?_
    rintro _ _ ⟨rfl, κ2, rfl, hf2, g1, g2⟩
    have t1 := hf2 to (Ne.symm dte) dtt
    have g1 : κ2 bo 0 = 0 := by rw [g1, show ((10 : Int32) * 10 - 100).toNatClampNeg = 0 from rfl]; exact hT.1
    have g2 : κ2 bo 1 = 0 := by rw [g2, show ((10 : Int32) * 10 - 100).toNatClampNeg = 0 from rfl]; exact hT.2.1
    have hlx := hT.2.2 (x - 100).toNatClampNeg (by have e := zsubI (x := x) (y := 100) (by rw [show Int32.toInt 100 = 100 from rfl]; omega) (by rw [show Int32.toInt 100 = 100 from rfl]; omega); rw [show Int32.toInt 100 = 100 from rfl] at e; rw [Int32.toNatClampNeg]; omega)
    refine r_aload_n X (by rfl) dX2_placeOf_29 ?_
    refine r_getR X dX2_placeOf_30 zF_X2_23 hτ hρ3 ?_
    refine r_aload_n X (by rfl) dX2_placeOf_33 ?_
    refine r_getR X dX2_placeOf_34 zF_X2_26 hτ hρ4 ?_
    refine r_callV X dX2_placeOf_37 zLV_X2_63 zCd_X10_subtract (c_X10_subtract _ G z τ ρ _ _ hto hbo) hto ⟨by decide, rfl, rfl⟩ rfl rfl ⟨⟨rfl, rfl⟩, ⟨by decide, by decide⟩, ⟨Nat.le_of_ble_eq_true rfl, Nat.le_of_ble_eq_true rfl⟩, Nat.le_of_ble_eq_true rfl⟩ ?_
    rintro _ _ ⟨rfl, rfl⟩
    rw [g1, g2, t1, e1, e2, hlx.1, hlx.2, show (0 : Int64) - 0 = 0 from rfl, Int64.add_zero]
    refine r_aload_n X (by rfl) dX2_placeOf_40 ?_
    refine r_getR X dX2_placeOf_41 zF_X2_23 hτ hρ3 ?_
    refine r_iconst X 2 (by decide) dX2_placeOf_44 ?_
    refine r_iload_n X (by rfl) dX2_placeOf_45 ?_
    refine r_imul X dX2_placeOf_46 ?_
    refine r_callV X dX2_placeOf_47 zLV_X2_67 zCd_X10_floorTimes (c_X10_floorTimes _ G z τ ρ _ _ hto _) hto ⟨by decide, rfl, rfl⟩ rfl rfl ⟨⟨rfl, rfl⟩, ⟨by decide, by decide⟩, ⟨Nat.le_of_ble_eq_true rfl, Nat.le_of_ble_eq_true rfl⟩, Nat.le_of_ble_eq_true rfl⟩ ?_
    rintro _ _ ⟨rfl, rfl⟩
    rw [zu_k (show (0 : Nat) ≠ 1 by decide), zu_s, zu_s]
    refine r_lstore X (by decide) dX2_placeOf_50 ?_
    refine r_lload X (by rfl) dX2_placeOf_52 ?_
    refine r_iload_n X (by rfl) dX2_placeOf_54 ?_
    refine r_i2l X dX2_placeOf_55 ?_
    refine r_ladd X dX2_placeOf_56 ?_
    refine r_ldc2 X zK_X2_71 dX2_placeOf_57 ?_
    refine r_iload_n X (by rfl) dX2_placeOf_60 ?_
    refine r_i2l X dX2_placeOf_61 ?_
    refine r_lmul X dX2_placeOf_62 ?_
    refine r_callS X dX2_placeOf_63 zLS_X2_73 zCd_J9_floorDiv_f86c9 (c_floorDiv _ G z τ ρ _ _ _ _ (by decide)) rfl rfl ⟨⟨rfl, rfl⟩, ⟨by decide, by decide⟩, ⟨Nat.le_of_ble_eq_true rfl, Nat.le_of_ble_eq_true rfl⟩, Nat.le_of_ble_eq_true rfl⟩ ?_
    rintro _ _ ⟨rfl, rfl⟩
    refine r_l2i X dX2_placeOf_66 ?_
    refine r_ireturn X hR dX2_placeOf_67 rfl (Nat.zero_le _) (Nat.zero_le _) ?_
    exact ⟨_, rfl, rfl⟩
  · rw [show Int32.toInt 1 = 1 from rfl] at h2
    exact absurd h2 (by decide)
