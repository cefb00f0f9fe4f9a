/-! Settings, Strip, Match (weakly), Scale (wip/gen/spec_d.py) -/
theorem zcl3 {i : Int32} {N : Nat} (h : 0 ≤ i.toInt) (h2 : i.toInt < (N : Int)) : i.toNatClampNeg < N := by
  have : (i.toNatClampNeg : Int) = i.toInt := by rw [Int32.toNatClampNeg]; omega
  omega
theorem znesub {x y : Int32} (h : ¬ x = y) : ¬ (y - x).toInt64 = 0 := fun q => h (by
  have h2 := congrArg Int64.toInt q
  rw [Int32.toInt_toInt64] at h2
  have h3 : y - x = 0 := Int32.toInt_inj.mp (by rw [h2]; rfl)
  have h4 : y - x + x = x := by rw [h3, Int32.zero_add]
  rw [Int32.sub_add_cancel] at h4
  exact h4.symm)
set_option maxHeartbeats 4000000 in
set_option maxRecDepth 100000 in
theorem c_X8_forgetParts (l : Launch) (G : zG) (z : Nat) (τ : Nat → Option (Nat × Nat)) (ρ : Nat → Nat → Option Nat) (ι : Nat → Nat → Int32) (κ : Nat → Nat → Int64) {a mu dv aw nw M1 : Nat} {W : Nat → Nat} (ha : τ a = some (8, M1)) (g0 : ρ a 0 = some mu) (g1 : ρ a 1 = some dv) (g2 : ρ a 2 = some aw) (g3 : ρ a 3 = some nw) (hmu : τ mu = some (15, 4)) (hdv : τ dv = some (15, 4)) (haw : τ aw = some (18, 3)) (hnw : τ nw = some (13, 3)) (hW : ∀ j, j < 3 → ρ aw j = some (W j)) (hWt : ∀ j, j < 3 → τ (W j) = some (13, 49)) : zM l G yX8_forgetParts cX8_forgetParts 2 none ({ frames := 0, cells := 0, slots := 0, locals := 0 } : Room) [.ref a] (z, τ, ρ, ι, κ) (fun v s => v = none ∧ ∃ ι2, s = (z, τ, ρ, ι2, κ) ∧ ∀ b, b ≠ mu → b ≠ dv → ι2 b = ι b) 0 0 := by
  refine zM_of zCd_X8_forgetParts (Nat.le_of_ble_eq_true rfl) ?_
  intro E X hR hE
  subst hE
  show zW E G 2 (z, τ, ρ, ι, κ) 0 0 0 [(0, .ref a)] []
  have L2 : ∀ (m : Nat) (i : Int32) (ι1 : Nat → Nat → Int32), (4 - i.toInt).toNat < m → 0 ≤ i.toInt → (∀ b, b ≠ mu → b ≠ dv → ι1 b = ι b) → zW E G 2 (z, τ, ρ, ι1, κ) 0 0 2 [(0, .ref a), (1, .int i)] [] := by
    intro m
    induction m with
    | zero => intro i ι1 h; omega
    | succ m ih => ?_
    intro i ι1 hm h0 hf
    refine r_iload_n X (by rfl) dX8_forgetParts_2 ?_
    refine r_iconst X 3 (by decide) dX8_forgetParts_3 ?_
    refine r_icmp_gt X 27 dX8_forgetParts_4 (by decide) (fun h4 => ?_) (fun h4 => ?_)
    · rw [show Int32.toInt 3 = 3 from rfl] at h4
      refine r_return X hR dX8_forgetParts_27 (Nat.zero_le _) (Nat.zero_le _) ?_
      exact ⟨rfl, _, rfl, hf⟩
    · rw [show Int32.toInt 3 = 3 from rfl] at h4
      refine r_aload_n X (by rfl) dX8_forgetParts_7 ?_
      refine r_getR X dX8_forgetParts_8 zF_X8_11 ha g0 ?_
      refine r_iload_n X (by rfl) dX8_forgetParts_11 ?_
      refine r_iconst X 0 (by decide) dX8_forgetParts_12 ?_
      refine r_zastore X dX8_forgetParts_13 hmu (vp_in_iff.mpr ⟨h0, by omega⟩) (by decide) ?_
      refine r_aload_n X (by rfl) dX8_forgetParts_14 ?_
      refine r_getR X dX8_forgetParts_15 zF_X8_15 ha g1 ?_
      refine r_iload_n X (by rfl) dX8_forgetParts_18 ?_
      refine r_iconst X 0 (by decide) dX8_forgetParts_19 ?_
      refine r_zastore X dX8_forgetParts_20 hdv (vp_in_iff.mpr ⟨h0, by omega⟩) (by decide) ?_
      refine r_iinc X 1 (by decide) (by rfl) (by decide) dX8_forgetParts_21 ?_
      refine r_goto X 2 dX8_forgetParts_24 (by decide) ?_
      exact zW.loc2 (by rfl) (by rfl) (ih _ _ (by have e := zinc (x := i) (by omega); omega) (by have e := zinc (x := i) (by omega); omega) (fun b h1 h2 => by rw [zu_r h2, zu_r h1]; exact hf b h1 h2))
  refine r_iconst X 0 (by decide) dX8_forgetParts_0 ?_
  refine r_istore_n X (by decide) dX8_forgetParts_1 ?_
  exact zW.loc2 (by rfl) (by rfl) (L2 5 _ _ (by decide) (by decide) (fun _ _ _ => rfl))
set_option maxHeartbeats 4000000 in
set_option maxRecDepth 100000 in
theorem c_X8_allow (l : Launch) (G : zG) (z : Nat) (τ : Nat → Option (Nat × Nat)) (ρ : Nat → Nat → Option Nat) (ι : Nat → Nat → Int32) (κ : Nat → Nat → Int64) {a mu dv aw nw M1 : Nat} {W : Nat → Nat} (ha : τ a = some (8, M1)) (g0 : ρ a 0 = some mu) (g1 : ρ a 1 = some dv) (g2 : ρ a 2 = some aw) (g3 : ρ a 3 = some nw) (hmu : τ mu = some (15, 4)) (hdv : τ dv = some (15, 4)) (haw : τ aw = some (18, 3)) (hnw : τ nw = some (13, 3)) (hW : ∀ j, j < 3 → ρ aw j = some (W j)) (hWt : ∀ j, j < 3 → τ (W j) = some (13, 49)) (x y : Int32) : zM l G yX8_allow cX8_allow 3 none ({ frames := 0, cells := 0, slots := 0, locals := 0 } : Room) [.ref a, .int x, .int y] (z, τ, ρ, ι, κ) (fun v s => v = none ∧ ∃ ι2, s = (z, τ, ρ, ι2, κ) ∧ ∀ b, b ≠ mu → b ≠ dv → ι2 b = ι b) 0 0 := by
  refine zM_of zCd_X8_allow (Nat.le_of_ble_eq_true rfl) ?_
  intro E X hR hE
  subst hE
  show zW E G 3 (z, τ, ρ, ι, κ) 0 0 0 [(0, .ref a), (1, .int x), (2, .int y)] []
  refine r_iload_n X (by rfl) dX8_allow_0 ?_
  refine r_iconst X 1 (by decide) dX8_allow_1 ?_
  refine r_icmp_lt X 10 dX8_allow_2 (by decide) (fun h2 => ?_) (fun h2 => ?_)
  · rw [show Int32.toInt 1 = 1 from rfl] at h2
    refine r_return X hR dX8_allow_10 (Nat.zero_le _) (Nat.zero_le _) ?_
    exact ⟨rfl, _, rfl, fun b h1 h2 => by simp only [zu_r h1, zu_r h2]⟩
  · rw [show Int32.toInt 1 = 1 from rfl] at h2
    refine r_iload_n X (by rfl) dX8_allow_5 ?_
    refine r_iconst X 3 (by decide) dX8_allow_6 ?_
    refine r_icmp_le X 11 dX8_allow_7 (by decide) (fun h7 => ?_) (fun h7 => ?_)
    · rw [show Int32.toInt 3 = 3 from rfl] at h7
      refine r_aload_n X (by rfl) dX8_allow_11 ?_
      refine r_getR X dX8_allow_12 zF_X8_15 ha g1 ?_
      refine r_iload_n X (by rfl) dX8_allow_15 ?_
      refine r_iconst X 1 (by decide) dX8_allow_16 ?_
      refine r_zastore X dX8_allow_17 hdv (vp_in_iff.mpr ⟨by omega, by omega⟩) (by decide) ?_
      refine r_iload_n X (by rfl) dX8_allow_18 ?_
      refine r_if_ne X 29 dX8_allow_19 (by decide) (fun h19 => ?_) (fun h19 => ?_)
      · refine r_return X hR dX8_allow_29 (Nat.zero_le _) (Nat.zero_le _) ?_
        exact ⟨rfl, _, rfl, fun b h1 h2 => by simp only [zu_r h1, zu_r h2]⟩
      · refine r_aload_n X (by rfl) dX8_allow_22 ?_
        refine r_getR X dX8_allow_23 zF_X8_11 ha g0 ?_
        refine r_iload_n X (by rfl) dX8_allow_26 ?_
        refine r_iconst X 1 (by decide) dX8_allow_27 ?_
        refine r_zastore X dX8_allow_28 hmu (vp_in_iff.mpr ⟨by omega, by omega⟩) (by decide) ?_
        refine r_return X hR dX8_allow_29 (Nat.zero_le _) (Nat.zero_le _) ?_
        exact ⟨rfl, _, rfl, fun b h1 h2 => by simp only [zu_r h1, zu_r h2]⟩
    · rw [show Int32.toInt 3 = 3 from rfl] at h7
      refine r_return X hR dX8_allow_10 (Nat.zero_le _) (Nat.zero_le _) ?_
      exact ⟨rfl, _, rfl, fun b h1 h2 => by simp only [zu_r h1, zu_r h2]⟩
set_option maxHeartbeats 4000000 in
set_option maxRecDepth 100000 in
theorem c_X8_reachBack (l : Launch) (G : zG) (z : Nat) (τ : Nat → Option (Nat × Nat)) (ρ : Nat → Nat → Option Nat) (ι : Nat → Nat → Int32) (κ : Nat → Nat → Int64) {a mu dv aw nw M1 : Nat} {W : Nat → Nat} (ha : τ a = some (8, M1)) (g0 : ρ a 0 = some mu) (g1 : ρ a 1 = some dv) (g2 : ρ a 2 = some aw) (g3 : ρ a 3 = some nw) (hmu : τ mu = some (15, 4)) (hdv : τ dv = some (15, 4)) (haw : τ aw = some (18, 3)) (hnw : τ nw = some (13, 3)) (hW : ∀ j, j < 3 → ρ aw j = some (W j)) (hWt : ∀ j, j < 3 → τ (W j) = some (13, 49)) {w : Nat} (hw : τ w = some (13, 49)) (x : Int32) (x0 : 0 ≤ x.toInt) (x1 : x.toInt < 49) : zM l G yX8_reachBack cX8_reachBack 4 none ({ frames := 0, cells := 0, slots := 0, locals := 0 } : Room) [.ref a, .ref w, .int x] (z, τ, ρ, ι, κ) (fun v s => v = none ∧ ∃ ι2, s = (z, τ, ρ, ι2, κ) ∧ ∀ b, b ≠ w → ι2 b = ι b) 0 0 := by
  refine zM_of zCd_X8_reachBack (Nat.le_of_ble_eq_true rfl) ?_
  intro E X hR hE
  subst hE
  show zW E G 4 (z, τ, ρ, ι, κ) 0 0 0 [(0, .ref a), (1, .ref w), (2, .int x)] []
  have L2 : ∀ (m : Nat) (i : Int32) (ι1 : Nat → Nat → Int32), (4 - i.toInt).toNat < m → 1 ≤ i.toInt → (∀ b, b ≠ w → ι1 b = ι b) → zW E G 4 (z, τ, ρ, ι1, κ) 0 0 2 [(0, .ref a), (1, .ref w), (2, .int x), (3, .int i)] [] := by
    intro m
    induction m with
    | zero => intro i ι1 h; omega
    | succ m ih => ?_
    intro i ι1 hm h0 hf
    refine r_iload_n X (by rfl) dX8_reachBack_2 ?_
    refine r_iconst X 3 (by decide) dX8_reachBack_3 ?_
    refine r_icmp_gt X 83 dX8_reachBack_4 (by decide) (fun h4 => ?_) (fun h4 => ?_)
    · rw [show Int32.toInt 3 = 3 from rfl] at h4
      refine r_return X hR dX8_reachBack_83 (Nat.zero_le _) (Nat.zero_le _) ?_
      exact ⟨rfl, _, rfl, hf⟩
    · rw [show Int32.toInt 3 = 3 from rfl] at h4
      have es := zsubI (x := x) (y := i) (by omega) (by omega)
      have ea := zaddI (x := x) (y := i) (by omega) (by omega)
      refine r_aload_n X (by rfl) dX8_reachBack_7 ?_
      refine r_getR X dX8_reachBack_8 zF_X8_11 ha g0 ?_
      refine r_iload_n X (by rfl) dX8_reachBack_11 ?_
      refine r_zaload X dX8_reachBack_12 hmu (vp_in_iff.mpr ⟨by omega, by omega⟩) ?_
      refine r_if_eq X 41 dX8_reachBack_13 (by decide) (fun h13 => ?_) (fun h13 => ?_)
      · refine r_aload_n X (by rfl) dX8_reachBack_41 ?_
        refine r_getR X dX8_reachBack_42 zF_X8_15 ha g1 ?_
        refine r_iload_n X (by rfl) dX8_reachBack_45 ?_
        refine r_zaload X dX8_reachBack_46 hdv (vp_in_iff.mpr ⟨by omega, by omega⟩) ?_
        refine r_if_eq X 77 dX8_reachBack_47 (by decide) (fun h47 => ?_) (fun h47 => ?_)
        · refine r_iinc X 1 (by decide) (by rfl) (by decide) dX8_reachBack_77 ?_
          refine r_goto X 2 dX8_reachBack_80 (by decide) ?_
          exact zW.loc4 (by rfl) (by rfl) (by rfl) (by rfl) (ih _ _ (by have e := zinc (x := i) (by omega); omega) (by have e := zinc (x := i) (by omega); omega) (fun b h1 => by first | (simp only [zu_r h1]; exact hf b h1) | exact hf b h1))
        · refine r_iload_n X (by rfl) dX8_reachBack_50 ?_
          refine r_iload_n X (by rfl) dX8_reachBack_51 ?_
          refine r_iadd X dX8_reachBack_52 ?_
          refine r_bipush X 49 (by decide) dX8_reachBack_53 ?_
          refine r_icmp_ge X 77 dX8_reachBack_55 (by decide) (fun h55 => ?_) (fun h55 => ?_)
          · rw [show Int32.toInt 49 = 49 from rfl] at h55
            refine r_iinc X 1 (by decide) (by rfl) (by decide) dX8_reachBack_77 ?_
            refine r_goto X 2 dX8_reachBack_80 (by decide) ?_
            exact zW.loc4 (by rfl) (by rfl) (by rfl) (by rfl) (ih _ _ (by have e := zinc (x := i) (by omega); omega) (by have e := zinc (x := i) (by omega); omega) (fun b h1 => by first | (simp only [zu_r h1]; exact hf b h1) | exact hf b h1))
          · rw [show Int32.toInt 49 = 49 from rfl] at h55
            refine r_aload_n X (by rfl) dX8_reachBack_58 ?_
            refine r_iload_n X (by rfl) dX8_reachBack_59 ?_
            refine r_iload_n X (by rfl) dX8_reachBack_60 ?_
            refine r_iadd X dX8_reachBack_61 ?_
            refine r_iaload X dX8_reachBack_62 hw (vp_in_iff.mpr ⟨by omega, by omega⟩) ?_
            refine r_iconst X (-1) (by decide) dX8_reachBack_63 ?_
            refine r_icmp_ne X 77 dX8_reachBack_64 (by decide) (fun h64 => ?_) (fun h64 => ?_)
            · refine r_iinc X 1 (by decide) (by rfl) (by decide) dX8_reachBack_77 ?_
              refine r_goto X 2 dX8_reachBack_80 (by decide) ?_
              exact zW.loc4 (by rfl) (by rfl) (by rfl) (by rfl) (ih _ _ (by have e := zinc (x := i) (by omega); omega) (by have e := zinc (x := i) (by omega); omega) (fun b h1 => by first | (simp only [zu_r h1]; exact hf b h1) | exact hf b h1))
            · refine r_aload_n X (by rfl) dX8_reachBack_67 ?_
              refine r_iload_n X (by rfl) dX8_reachBack_68 ?_
              refine r_iload_n X (by rfl) dX8_reachBack_69 ?_
              refine r_iadd X dX8_reachBack_70 ?_
              refine r_aload_n X (by rfl) dX8_reachBack_71 ?_
              refine r_iload_n X (by rfl) dX8_reachBack_72 ?_
              refine r_iaload X dX8_reachBack_73 hw (vp_in_iff.mpr ⟨x0, by omega⟩) ?_
              refine r_iconst X 1 (by decide) dX8_reachBack_74 ?_
              refine r_iadd X dX8_reachBack_75 ?_
              refine r_iastore X dX8_reachBack_76 hw (vp_in_iff.mpr ⟨by omega, by omega⟩) ?_
              refine r_iinc X 1 (by decide) (by rfl) (by decide) dX8_reachBack_77 ?_
              refine r_goto X 2 dX8_reachBack_80 (by decide) ?_
              exact zW.loc4 (by rfl) (by rfl) (by rfl) (by rfl) (ih _ _ (by have e := zinc (x := i) (by omega); omega) (by have e := zinc (x := i) (by omega); omega) (fun b h1 => by first | (simp only [zu_r h1]; exact hf b h1) | exact hf b h1))
      · refine r_iload_n X (by rfl) dX8_reachBack_16 ?_
        refine r_iload_n X (by rfl) dX8_reachBack_17 ?_
        refine r_isub X dX8_reachBack_18 ?_
        refine r_if_lt X 41 dX8_reachBack_19 (by decide) (fun h19 => ?_) (fun h19 => ?_)
        · refine r_aload_n X (by rfl) dX8_reachBack_41 ?_
          refine r_getR X dX8_reachBack_42 zF_X8_15 ha g1 ?_
          refine r_iload_n X (by rfl) dX8_reachBack_45 ?_
          refine r_zaload X dX8_reachBack_46 hdv (vp_in_iff.mpr ⟨by omega, by omega⟩) ?_
          refine r_if_eq X 77 dX8_reachBack_47 (by decide) (fun h47 => ?_) (fun h47 => ?_)
          · refine r_iinc X 1 (by decide) (by rfl) (by decide) dX8_reachBack_77 ?_
            refine r_goto X 2 dX8_reachBack_80 (by decide) ?_
            exact zW.loc4 (by rfl) (by rfl) (by rfl) (by rfl) (ih _ _ (by have e := zinc (x := i) (by omega); omega) (by have e := zinc (x := i) (by omega); omega) (fun b h1 => by first | (simp only [zu_r h1]; exact hf b h1) | exact hf b h1))
          · refine r_iload_n X (by rfl) dX8_reachBack_50 ?_
            refine r_iload_n X (by rfl) dX8_reachBack_51 ?_
            refine r_iadd X dX8_reachBack_52 ?_
            refine r_bipush X 49 (by decide) dX8_reachBack_53 ?_
            refine r_icmp_ge X 77 dX8_reachBack_55 (by decide) (fun h55 => ?_) (fun h55 => ?_)
            · rw [show Int32.toInt 49 = 49 from rfl] at h55
              refine r_iinc X 1 (by decide) (by rfl) (by decide) dX8_reachBack_77 ?_
              refine r_goto X 2 dX8_reachBack_80 (by decide) ?_
              exact zW.loc4 (by rfl) (by rfl) (by rfl) (by rfl) (ih _ _ (by have e := zinc (x := i) (by omega); omega) (by have e := zinc (x := i) (by omega); omega) (fun b h1 => by first | (simp only [zu_r h1]; exact hf b h1) | exact hf b h1))
            · rw [show Int32.toInt 49 = 49 from rfl] at h55
              refine r_aload_n X (by rfl) dX8_reachBack_58 ?_
              refine r_iload_n X (by rfl) dX8_reachBack_59 ?_
              refine r_iload_n X (by rfl) dX8_reachBack_60 ?_
              refine r_iadd X dX8_reachBack_61 ?_
              refine r_iaload X dX8_reachBack_62 hw (vp_in_iff.mpr ⟨by omega, by omega⟩) ?_
              refine r_iconst X (-1) (by decide) dX8_reachBack_63 ?_
              refine r_icmp_ne X 77 dX8_reachBack_64 (by decide) (fun h64 => ?_) (fun h64 => ?_)
              · refine r_iinc X 1 (by decide) (by rfl) (by decide) dX8_reachBack_77 ?_
                refine r_goto X 2 dX8_reachBack_80 (by decide) ?_
                exact zW.loc4 (by rfl) (by rfl) (by rfl) (by rfl) (ih _ _ (by have e := zinc (x := i) (by omega); omega) (by have e := zinc (x := i) (by omega); omega) (fun b h1 => by first | (simp only [zu_r h1]; exact hf b h1) | exact hf b h1))
              · refine r_aload_n X (by rfl) dX8_reachBack_67 ?_
                refine r_iload_n X (by rfl) dX8_reachBack_68 ?_
                refine r_iload_n X (by rfl) dX8_reachBack_69 ?_
                refine r_iadd X dX8_reachBack_70 ?_
                refine r_aload_n X (by rfl) dX8_reachBack_71 ?_
                refine r_iload_n X (by rfl) dX8_reachBack_72 ?_
                refine r_iaload X dX8_reachBack_73 hw (vp_in_iff.mpr ⟨x0, by omega⟩) ?_
                refine r_iconst X 1 (by decide) dX8_reachBack_74 ?_
                refine r_iadd X dX8_reachBack_75 ?_
                refine r_iastore X dX8_reachBack_76 hw (vp_in_iff.mpr ⟨by omega, by omega⟩) ?_
                refine r_iinc X 1 (by decide) (by rfl) (by decide) dX8_reachBack_77 ?_
                refine r_goto X 2 dX8_reachBack_80 (by decide) ?_
                exact zW.loc4 (by rfl) (by rfl) (by rfl) (by rfl) (ih _ _ (by have e := zinc (x := i) (by omega); omega) (by have e := zinc (x := i) (by omega); omega) (fun b h1 => by first | (simp only [zu_r h1]; exact hf b h1) | exact hf b h1))
        · refine r_aload_n X (by rfl) dX8_reachBack_22 ?_
          refine r_iload_n X (by rfl) dX8_reachBack_23 ?_
          refine r_iload_n X (by rfl) dX8_reachBack_24 ?_
          refine r_isub X dX8_reachBack_25 ?_
          refine r_iaload X dX8_reachBack_26 hw (vp_in_iff.mpr ⟨by omega, by omega⟩) ?_
          refine r_iconst X (-1) (by decide) dX8_reachBack_27 ?_
          refine r_icmp_ne X 41 dX8_reachBack_28 (by decide) (fun h28 => ?_) (fun h28 => ?_)
          · refine r_aload_n X (by rfl) dX8_reachBack_41 ?_
            refine r_getR X dX8_reachBack_42 zF_X8_15 ha g1 ?_
            refine r_iload_n X (by rfl) dX8_reachBack_45 ?_
            refine r_zaload X dX8_reachBack_46 hdv (vp_in_iff.mpr ⟨by omega, by omega⟩) ?_
            refine r_if_eq X 77 dX8_reachBack_47 (by decide) (fun h47 => ?_) (fun h47 => ?_)
            · refine r_iinc X 1 (by decide) (by rfl) (by decide) dX8_reachBack_77 ?_
              refine r_goto X 2 dX8_reachBack_80 (by decide) ?_
              exact zW.loc4 (by rfl) (by rfl) (by rfl) (by rfl) (ih _ _ (by have e := zinc (x := i) (by omega); omega) (by have e := zinc (x := i) (by omega); omega) (fun b h1 => by first | (simp only [zu_r h1]; exact hf b h1) | exact hf b h1))
            · refine r_iload_n X (by rfl) dX8_reachBack_50 ?_
              refine r_iload_n X (by rfl) dX8_reachBack_51 ?_
              refine r_iadd X dX8_reachBack_52 ?_
              refine r_bipush X 49 (by decide) dX8_reachBack_53 ?_
              refine r_icmp_ge X 77 dX8_reachBack_55 (by decide) (fun h55 => ?_) (fun h55 => ?_)
              · rw [show Int32.toInt 49 = 49 from rfl] at h55
                refine r_iinc X 1 (by decide) (by rfl) (by decide) dX8_reachBack_77 ?_
                refine r_goto X 2 dX8_reachBack_80 (by decide) ?_
                exact zW.loc4 (by rfl) (by rfl) (by rfl) (by rfl) (ih _ _ (by have e := zinc (x := i) (by omega); omega) (by have e := zinc (x := i) (by omega); omega) (fun b h1 => by first | (simp only [zu_r h1]; exact hf b h1) | exact hf b h1))
              · rw [show Int32.toInt 49 = 49 from rfl] at h55
                refine r_aload_n X (by rfl) dX8_reachBack_58 ?_
                refine r_iload_n X (by rfl) dX8_reachBack_59 ?_
                refine r_iload_n X (by rfl) dX8_reachBack_60 ?_
                refine r_iadd X dX8_reachBack_61 ?_
                refine r_iaload X dX8_reachBack_62 hw (vp_in_iff.mpr ⟨by omega, by omega⟩) ?_
                refine r_iconst X (-1) (by decide) dX8_reachBack_63 ?_
                refine r_icmp_ne X 77 dX8_reachBack_64 (by decide) (fun h64 => ?_) (fun h64 => ?_)
                · refine r_iinc X 1 (by decide) (by rfl) (by decide) dX8_reachBack_77 ?_
                  refine r_goto X 2 dX8_reachBack_80 (by decide) ?_
                  exact zW.loc4 (by rfl) (by rfl) (by rfl) (by rfl) (ih _ _ (by have e := zinc (x := i) (by omega); omega) (by have e := zinc (x := i) (by omega); omega) (fun b h1 => by first | (simp only [zu_r h1]; exact hf b h1) | exact hf b h1))
                · refine r_aload_n X (by rfl) dX8_reachBack_67 ?_
                  refine r_iload_n X (by rfl) dX8_reachBack_68 ?_
                  refine r_iload_n X (by rfl) dX8_reachBack_69 ?_
                  refine r_iadd X dX8_reachBack_70 ?_
                  refine r_aload_n X (by rfl) dX8_reachBack_71 ?_
                  refine r_iload_n X (by rfl) dX8_reachBack_72 ?_
                  refine r_iaload X dX8_reachBack_73 hw (vp_in_iff.mpr ⟨x0, by omega⟩) ?_
                  refine r_iconst X 1 (by decide) dX8_reachBack_74 ?_
                  refine r_iadd X dX8_reachBack_75 ?_
                  refine r_iastore X dX8_reachBack_76 hw (vp_in_iff.mpr ⟨by omega, by omega⟩) ?_
                  refine r_iinc X 1 (by decide) (by rfl) (by decide) dX8_reachBack_77 ?_
                  refine r_goto X 2 dX8_reachBack_80 (by decide) ?_
                  exact zW.loc4 (by rfl) (by rfl) (by rfl) (by rfl) (ih _ _ (by have e := zinc (x := i) (by omega); omega) (by have e := zinc (x := i) (by omega); omega) (fun b h1 => by first | (simp only [zu_r h1]; exact hf b h1) | exact hf b h1))
          · refine r_aload_n X (by rfl) dX8_reachBack_31 ?_
            refine r_iload_n X (by rfl) dX8_reachBack_32 ?_
            refine r_iload_n X (by rfl) dX8_reachBack_33 ?_
            refine r_isub X dX8_reachBack_34 ?_
            refine r_aload_n X (by rfl) dX8_reachBack_35 ?_
            refine r_iload_n X (by rfl) dX8_reachBack_36 ?_
            refine r_iaload X dX8_reachBack_37 hw (vp_in_iff.mpr ⟨x0, by omega⟩) ?_
            refine r_iconst X 1 (by decide) dX8_reachBack_38 ?_
            refine r_iadd X dX8_reachBack_39 ?_
            refine r_iastore X dX8_reachBack_40 hw (vp_in_iff.mpr ⟨by omega, by omega⟩) ?_
            refine r_aload_n X (by rfl) dX8_reachBack_41 ?_
            refine r_getR X dX8_reachBack_42 zF_X8_15 ha g1 ?_
            refine r_iload_n X (by rfl) dX8_reachBack_45 ?_
            refine r_zaload X dX8_reachBack_46 hdv (vp_in_iff.mpr ⟨by omega, by omega⟩) ?_
            refine r_if_eq X 77 dX8_reachBack_47 (by decide) (fun h47 => ?_) (fun h47 => ?_)
            · refine r_iinc X 1 (by decide) (by rfl) (by decide) dX8_reachBack_77 ?_
              refine r_goto X 2 dX8_reachBack_80 (by decide) ?_
              exact zW.loc4 (by rfl) (by rfl) (by rfl) (by rfl) (ih _ _ (by have e := zinc (x := i) (by omega); omega) (by have e := zinc (x := i) (by omega); omega) (fun b h1 => by first | (simp only [zu_r h1]; exact hf b h1) | exact hf b h1))
            · refine r_iload_n X (by rfl) dX8_reachBack_50 ?_
              refine r_iload_n X (by rfl) dX8_reachBack_51 ?_
              refine r_iadd X dX8_reachBack_52 ?_
              refine r_bipush X 49 (by decide) dX8_reachBack_53 ?_
              refine r_icmp_ge X 77 dX8_reachBack_55 (by decide) (fun h55 => ?_) (fun h55 => ?_)
              · rw [show Int32.toInt 49 = 49 from rfl] at h55
                refine r_iinc X 1 (by decide) (by rfl) (by decide) dX8_reachBack_77 ?_
                refine r_goto X 2 dX8_reachBack_80 (by decide) ?_
                exact zW.loc4 (by rfl) (by rfl) (by rfl) (by rfl) (ih _ _ (by have e := zinc (x := i) (by omega); omega) (by have e := zinc (x := i) (by omega); omega) (fun b h1 => by first | (simp only [zu_r h1]; exact hf b h1) | exact hf b h1))
              · rw [show Int32.toInt 49 = 49 from rfl] at h55
                refine r_aload_n X (by rfl) dX8_reachBack_58 ?_
                refine r_iload_n X (by rfl) dX8_reachBack_59 ?_
                refine r_iload_n X (by rfl) dX8_reachBack_60 ?_
                refine r_iadd X dX8_reachBack_61 ?_
                refine r_iaload X dX8_reachBack_62 hw (vp_in_iff.mpr ⟨by omega, by omega⟩) ?_
                refine r_iconst X (-1) (by decide) dX8_reachBack_63 ?_
                refine r_icmp_ne X 77 dX8_reachBack_64 (by decide) (fun h64 => ?_) (fun h64 => ?_)
                · refine r_iinc X 1 (by decide) (by rfl) (by decide) dX8_reachBack_77 ?_
                  refine r_goto X 2 dX8_reachBack_80 (by decide) ?_
                  exact zW.loc4 (by rfl) (by rfl) (by rfl) (by rfl) (ih _ _ (by have e := zinc (x := i) (by omega); omega) (by have e := zinc (x := i) (by omega); omega) (fun b h1 => by first | (simp only [zu_r h1]; exact hf b h1) | exact hf b h1))
                · refine r_aload_n X (by rfl) dX8_reachBack_67 ?_
                  refine r_iload_n X (by rfl) dX8_reachBack_68 ?_
                  refine r_iload_n X (by rfl) dX8_reachBack_69 ?_
                  refine r_iadd X dX8_reachBack_70 ?_
                  refine r_aload_n X (by rfl) dX8_reachBack_71 ?_
                  refine r_iload_n X (by rfl) dX8_reachBack_72 ?_
                  refine r_iaload X dX8_reachBack_73 hw (vp_in_iff.mpr ⟨x0, by omega⟩) ?_
                  refine r_iconst X 1 (by decide) dX8_reachBack_74 ?_
                  refine r_iadd X dX8_reachBack_75 ?_
                  refine r_iastore X dX8_reachBack_76 hw (vp_in_iff.mpr ⟨by omega, by omega⟩) ?_
                  refine r_iinc X 1 (by decide) (by rfl) (by decide) dX8_reachBack_77 ?_
                  refine r_goto X 2 dX8_reachBack_80 (by decide) ?_
                  exact zW.loc4 (by rfl) (by rfl) (by rfl) (by rfl) (ih _ _ (by have e := zinc (x := i) (by omega); omega) (by have e := zinc (x := i) (by omega); omega) (fun b h1 => by first | (simp only [zu_r h1]; exact hf b h1) | exact hf b h1))
  refine r_iconst X 1 (by decide) dX8_reachBack_0 ?_
  refine r_istore_n X (by decide) dX8_reachBack_1 ?_
  exact zW.loc4 (by rfl) (by rfl) (by rfl) (by rfl) (L2 5 _ _ (by decide) (by decide) (fun _ _ => rfl))
set_option maxHeartbeats 4000000 in
set_option maxRecDepth 100000 in
theorem c_X8_measure (l : Launch) (G : zG) (z : Nat) (τ : Nat → Option (Nat × Nat)) (ρ : Nat → Nat → Option Nat) (ι : Nat → Nat → Int32) (κ : Nat → Nat → Int64) {a mu dv aw nw M1 : Nat} {W : Nat → Nat} (ha : τ a = some (8, M1)) (g0 : ρ a 0 = some mu) (g1 : ρ a 1 = some dv) (g2 : ρ a 2 = some aw) (g3 : ρ a 3 = some nw) (hmu : τ mu = some (15, 4)) (hdv : τ dv = some (15, 4)) (haw : τ aw = some (18, 3)) (hnw : τ nw = some (13, 3)) (hW : ∀ j, j < 3 → ρ aw j = some (W j)) (hWt : ∀ j, j < 3 → τ (W j) = some (13, 49)) {w : Nat} (hw : τ w = some (13, 49)) (x : Int32) : zM l G yX8_measure cX8_measure 5 none ({ frames := 1, cells := 0, slots := 0, locals := 23 } : Room) [.ref a, .ref w, .int x] (z, τ, ρ, ι, κ) (fun v s => v = none ∧ ∃ ι2, s = (z, τ, ρ, ι2, κ) ∧ ∀ b, b ≠ w → ι2 b = ι b) 0 0 := by
  refine zM_of zCd_X8_measure (Nat.le_of_ble_eq_true rfl) ?_
  intro E X hR hE
  subst hE
  show zW E G 5 (z, τ, ρ, ι, κ) 0 0 0 [(0, .ref a), (1, .ref w), (2, .int x)] []
  have L29 : ∀ (m : Nat) (i : Int32) (ι1 : Nat → Nat → Int32), (49 - i.toInt).toNat < m → 0 ≤ i.toInt → (∀ b, b ≠ w → ι1 b = ι b) → zW E G 5 (z, τ, ρ, ι1, κ) 0 0 29 [(0, .ref a), (1, .ref w), (2, .int x), (3, .int i)] [] := by
    intro m
    induction m with
    | zero => intro i ι1 h; omega
    | succ m ih => ?_
    intro i ι1 hm h0 hf
    have L38 : i.toInt < 49 → ∀ (m2 : Nat) (j : Int32) (ι2 : Nat → Nat → Int32), (49 - j.toInt).toNat < m2 → 0 ≤ j.toInt → (∀ b, b ≠ w → ι2 b = ι b) → zW E G 5 (z, τ, ρ, ι2, κ) 0 0 38 [(0, .ref a), (1, .ref w), (2, .int x), (3, .int i), (4, .int j)] [] := by
      intro hi m2
      induction m2 with
      | zero => intro j ι2 h; omega
      | succ m2 ih2 => ?_
      intro j ι2 hm2 hj hf2
      refine r_iload X (by rfl) dX8_measure_38 ?_
      refine r_bipush X 49 (by decide) dX8_measure_40 ?_
      refine r_icmp_ge X 66 dX8_measure_42 (by decide) (fun h42 => ?_) (fun h42 => ?_)
      · rw [show Int32.toInt 49 = 49 from rfl] at h42
        refine r_iinc X 1 (by decide) (by rfl) (by decide) dX8_measure_66 ?_
        refine r_goto X 29 dX8_measure_69 (by decide) ?_
        exact zW.loc4 (by rfl) (by rfl) (by rfl) (by rfl) (ih _ _ (by have e := zinc (x := i) (by omega); omega) (by have e := zinc (x := i) (by omega); omega) hf2)
      · rw [show Int32.toInt 49 = 49 from rfl] at h42
        refine r_aload_n X (by rfl) dX8_measure_45 ?_
        refine r_iload X (by rfl) dX8_measure_46 ?_
        refine r_iaload X dX8_measure_48 hw (vp_in_iff.mpr ⟨hj, by omega⟩) ?_
        refine r_iload_n X (by rfl) dX8_measure_49 ?_
        refine r_icmp_ne X 60 dX8_measure_50 (by decide) (fun h50 => ?_) (fun h50 => ?_)
        · refine r_iinc X 1 (by decide) (by rfl) (by decide) dX8_measure_60 ?_
          refine r_goto X 38 dX8_measure_63 (by decide) ?_
          exact zW.loc5 (by rfl) (by rfl) (by rfl) (by rfl) (by rfl) (ih2 _ _ (by have e := zinc (x := j) (by omega); omega) (by have e := zinc (x := j) (by omega); omega) hf2)
        · refine r_aload_n X (by rfl) dX8_measure_53 ?_
          refine r_aload_n X (by rfl) dX8_measure_54 ?_
          refine r_iload X (by rfl) dX8_measure_55 ?_
          refine r_callV X dX8_measure_57 zLV_X8_31 zCd_X8_reachBack (c_X8_reachBack _ G z τ ρ _ _ ha g0 g1 g2 g3 hmu hdv haw hnw hW hWt hw _ hj (by omega)) ha ⟨by decide, rfl, rfl⟩ rfl rfl ⟨⟨rfl, rfl⟩, ⟨by decide, by decide⟩, ⟨Nat.le_of_ble_eq_true rfl, Nat.le_of_ble_eq_true rfl⟩, Nat.le_of_ble_eq_true rfl⟩ ?_
          rintro _ _ ⟨rfl, ι3, rfl, hf3⟩
          have hf2 : ∀ b, b ≠ w → ι3 b = ι b := fun b hb => by rw [hf3 b hb]; exact hf2 b hb
          refine r_iinc X 1 (by decide) (by rfl) (by decide) dX8_measure_60 ?_
          refine r_goto X 38 dX8_measure_63 (by decide) ?_
          exact zW.loc5 (by rfl) (by rfl) (by rfl) (by rfl) (by rfl) (ih2 _ _ (by have e := zinc (x := j) (by omega); omega) (by have e := zinc (x := j) (by omega); omega) hf2)
    refine r_iload_n X (by rfl) dX8_measure_29 ?_
    refine r_bipush X 49 (by decide) dX8_measure_30 ?_
    refine r_icmp_ge X 72 dX8_measure_32 (by decide) (fun h32 => ?_) (fun h32 => ?_)
    · rw [show Int32.toInt 49 = 49 from rfl] at h32
      refine r_return X hR dX8_measure_72 (Nat.zero_le _) (Nat.zero_le _) ?_
      exact ⟨rfl, _, rfl, hf⟩
    · rw [show Int32.toInt 49 = 49 from rfl] at h32
      refine r_iconst X 0 (by decide) dX8_measure_35 ?_
      refine r_istore X (by decide) dX8_measure_36 ?_
      exact zW.loc5 (by rfl) (by rfl) (by rfl) (by rfl) (by rfl) (L38 h32 50 _ _ (by decide) (by decide) hf)
  have L2 : ∀ (m : Nat) (i : Int32) (ι1 : Nat → Nat → Int32), (49 - i.toInt).toNat < m → 0 ≤ i.toInt → (∀ b, b ≠ w → ι1 b = ι b) → zW E G 5 (z, τ, ρ, ι1, κ) 0 0 2 [(0, .ref a), (1, .ref w), (2, .int x), (3, .int i)] [] := by
    intro m
    induction m with
    | zero => intro i ι1 h; omega
    | succ m ih => ?_
    intro i ι1 hm h0 hf
    refine r_iload_n X (by rfl) dX8_measure_2 ?_
    refine r_bipush X 49 (by decide) dX8_measure_3 ?_
    refine r_icmp_ge X 27 dX8_measure_5 (by decide) (fun h5 => ?_) (fun h5 => ?_)
    · rw [show Int32.toInt 49 = 49 from rfl] at h5
      refine r_iconst X 0 (by decide) dX8_measure_27 ?_
      refine r_istore_n X (by decide) dX8_measure_28 ?_
      exact zW.loc4 (by rfl) (by rfl) (by rfl) (by rfl) (L29 50 _ _ (by decide) (by decide) hf)
    · rw [show Int32.toInt 49 = 49 from rfl] at h5
      refine r_aload_n X (by rfl) dX8_measure_8 ?_
      refine r_iload_n X (by rfl) dX8_measure_9 ?_
      refine r_iload_n X (by rfl) dX8_measure_10 ?_
      refine r_iload_n X (by rfl) dX8_measure_11 ?_
      refine r_icmp_ne X 19 dX8_measure_12 (by decide) (fun h12 => ?_) (fun h12 => ?_)
      · refine r_iconst X (-1) (by decide) dX8_measure_19 ?_
        refine r_iastore X dX8_measure_20 hw (vp_in_iff.mpr ⟨h0, by omega⟩) ?_
        refine r_iinc X 1 (by decide) (by rfl) (by decide) dX8_measure_21 ?_
        refine r_goto X 2 dX8_measure_24 (by decide) ?_
        exact zW.loc4 (by rfl) (by rfl) (by rfl) (by rfl) (ih _ _ (by have e := zinc (x := i) (by omega); omega) (by have e := zinc (x := i) (by omega); omega) (fun b h1 => by first | (simp only [zu_r h1]; exact hf b h1) | exact hf b h1))
      · refine r_iconst X 0 (by decide) dX8_measure_15 ?_
        refine r_goto X 20 dX8_measure_16 (by decide) ?_
        refine r_iastore X dX8_measure_20 hw (vp_in_iff.mpr ⟨h0, by omega⟩) ?_
        refine r_iinc X 1 (by decide) (by rfl) (by decide) dX8_measure_21 ?_
        refine r_goto X 2 dX8_measure_24 (by decide) ?_
        exact zW.loc4 (by rfl) (by rfl) (by rfl) (by rfl) (ih _ _ (by have e := zinc (x := i) (by omega); omega) (by have e := zinc (x := i) (by omega); omega) (fun b h1 => by first | (simp only [zu_r h1]; exact hf b h1) | exact hf b h1))
  refine r_iconst X 0 (by decide) dX8_measure_0 ?_
  refine r_istore_n X (by decide) dX8_measure_1 ?_
  exact zW.loc4 (by rfl) (by rfl) (by rfl) (by rfl) (L2 50 _ _ (by decide) (by decide) (fun _ _ => rfl))
set_option maxHeartbeats 4000000 in
set_option maxRecDepth 100000 in
theorem c_X8_aimAt (l : Launch) (G : zG) (z : Nat) (τ : Nat → Option (Nat × Nat)) (ρ : Nat → Nat → Option Nat) (ι : Nat → Nat → Int32) (κ : Nat → Nat → Int64) {a mu dv aw nw M1 : Nat} {W : Nat → Nat} (ha : τ a = some (8, M1)) (g0 : ρ a 0 = some mu) (g1 : ρ a 1 = some dv) (g2 : ρ a 2 = some aw) (g3 : ρ a 3 = some nw) (hmu : τ mu = some (15, 4)) (hdv : τ dv = some (15, 4)) (haw : τ aw = some (18, 3)) (hnw : τ nw = some (13, 3)) (hW : ∀ j, j < 3 → ρ aw j = some (W j)) (hWt : ∀ j, j < 3 → τ (W j) = some (13, 49)) (x y u : Int32) : zM l G yX8_aimAt cX8_aimAt 4 none ({ frames := 2, cells := 0, slots := 0, locals := 47 } : Room) [.ref a, .int x, .int y, .int u] (z, τ, ρ, ι, κ) (fun v s => v = none ∧ ∃ ι2, s = (z, τ, ρ, ι2, κ) ∧ ∀ b, b ≠ W 0 → b ≠ W 1 → b ≠ W 2 → ι2 b = ι b) 0 0 := by
  refine zM_of zCd_X8_aimAt (Nat.le_of_ble_eq_true rfl) ?_
  intro E X hR hE
  subst hE
  show zW E G 4 (z, τ, ρ, ι, κ) 0 0 0 [(0, .ref a), (1, .int x), (2, .int y), (3, .int u)] []
  refine r_aload_n X (by rfl) dX8_aimAt_0 ?_
  refine r_aload_n X (by rfl) dX8_aimAt_1 ?_
  refine r_getR X dX8_aimAt_2 zF_X8_20 ha g2 ?_
  refine r_iconst X 0 (by decide) dX8_aimAt_5 ?_
  refine r_aaload X dX8_aimAt_6 haw (by decide) (vp_in_iff.mpr ⟨by decide, by decide⟩) (hW 0 (by decide)) ?_
  refine r_iload_n X (by rfl) dX8_aimAt_7 ?_
  refine r_bipush X 24 (by decide) dX8_aimAt_8 ?_
  refine r_iadd X dX8_aimAt_10 ?_
  refine r_callV X dX8_aimAt_11 zLV_X8_27 zCd_X8_measure (c_X8_measure _ G z τ ρ _ _ ha g0 g1 g2 g3 hmu hdv haw hnw hW hWt (hWt 0 (by decide)) _) ha ⟨by decide, rfl, rfl⟩ rfl rfl ⟨⟨rfl, rfl⟩, ⟨by decide, by decide⟩, ⟨Nat.le_of_ble_eq_true rfl, Nat.le_of_ble_eq_true rfl⟩, Nat.le_of_ble_eq_true rfl⟩ ?_
  rintro _ _ ⟨rfl, ιa, rfl, fa⟩
  refine r_aload_n X (by rfl) dX8_aimAt_14 ?_
  refine r_aload_n X (by rfl) dX8_aimAt_15 ?_
  refine r_getR X dX8_aimAt_16 zF_X8_20 ha g2 ?_
  refine r_iconst X 1 (by decide) dX8_aimAt_19 ?_
  refine r_aaload X dX8_aimAt_20 haw (by decide) (vp_in_iff.mpr ⟨by decide, by decide⟩) (hW 1 (by decide)) ?_
  refine r_iload_n X (by rfl) dX8_aimAt_21 ?_
  refine r_bipush X 24 (by decide) dX8_aimAt_22 ?_
  refine r_iadd X dX8_aimAt_24 ?_
  refine r_callV X dX8_aimAt_25 zLV_X8_27 zCd_X8_measure (c_X8_measure _ G z τ ρ _ _ ha g0 g1 g2 g3 hmu hdv haw hnw hW hWt (hWt 1 (by decide)) _) ha ⟨by decide, rfl, rfl⟩ rfl rfl ⟨⟨rfl, rfl⟩, ⟨by decide, by decide⟩, ⟨Nat.le_of_ble_eq_true rfl, Nat.le_of_ble_eq_true rfl⟩, Nat.le_of_ble_eq_true rfl⟩ ?_
  rintro _ _ ⟨rfl, ιb, rfl, fb⟩
  refine r_aload_n X (by rfl) dX8_aimAt_28 ?_
  refine r_aload_n X (by rfl) dX8_aimAt_29 ?_
  refine r_getR X dX8_aimAt_30 zF_X8_20 ha g2 ?_
  refine r_iconst X 2 (by decide) dX8_aimAt_33 ?_
  refine r_aaload X dX8_aimAt_34 haw (by decide) (vp_in_iff.mpr ⟨by decide, by decide⟩) (hW 2 (by decide)) ?_
  refine r_iload_n X (by rfl) dX8_aimAt_35 ?_
  refine r_bipush X 24 (by decide) dX8_aimAt_36 ?_
  refine r_iadd X dX8_aimAt_38 ?_
  refine r_callV X dX8_aimAt_39 zLV_X8_27 zCd_X8_measure (c_X8_measure _ G z τ ρ _ _ ha g0 g1 g2 g3 hmu hdv haw hnw hW hWt (hWt 2 (by decide)) _) ha ⟨by decide, rfl, rfl⟩ rfl rfl ⟨⟨rfl, rfl⟩, ⟨by decide, by decide⟩, ⟨Nat.le_of_ble_eq_true rfl, Nat.le_of_ble_eq_true rfl⟩, Nat.le_of_ble_eq_true rfl⟩ ?_
  rintro _ _ ⟨rfl, ιc, rfl, fc⟩
  refine r_return X hR dX8_aimAt_42 (Nat.zero_le _) (Nat.zero_le _) ?_
  exact ⟨rfl, _, rfl, fun b h1 h2 h3 => by rw [fc b h3, fb b h2, fa b h1]⟩
set_option maxHeartbeats 4000000 in
set_option maxRecDepth 100000 in
theorem c_X8_fewestToGoal (l : Launch) (G : zG) (z : Nat) (τ : Nat → Option (Nat × Nat)) (ρ : Nat → Nat → Option Nat) (ι : Nat → Nat → Int32) (κ : Nat → Nat → Int64) {a mu dv aw nw M1 : Nat} {W : Nat → Nat} (ha : τ a = some (8, M1)) (g0 : ρ a 0 = some mu) (g1 : ρ a 1 = some dv) (g2 : ρ a 2 = some aw) (g3 : ρ a 3 = some nw) (hmu : τ mu = some (15, 4)) (hdv : τ dv = some (15, 4)) (haw : τ aw = some (18, 3)) (hnw : τ nw = some (13, 3)) (hW : ∀ j, j < 3 → ρ aw j = some (W j)) (hWt : ∀ j, j < 3 → τ (W j) = some (13, 49)) : zM l G yX8_fewestToGoal cX8_fewestToGoal 3 (some .int) ({ frames := 0, cells := 0, slots := 0, locals := 0 } : Room) [.ref a] (z, τ, ρ, ι, κ) (fun v s => ∃ r, v = some (.int r) ∧ s = (z, τ, ρ, ι, κ)) 0 0 := by
  refine zM_of zCd_X8_fewestToGoal (Nat.le_of_ble_eq_true rfl) ?_
  intro E X hR hE
  subst hE
  show zW E G 3 (z, τ, ρ, ι, κ) 0 0 0 [(0, .ref a)] []
  have L4 : ∀ (m : Nat) (i y : Int32), (3 - i.toInt).toNat < m → 0 ≤ i.toInt → zW E G 3 (z, τ, ρ, ι, κ) 0 0 4 [(0, .ref a), (1, .int y), (2, .int i)] [] := by
    intro m
    induction m with
    | zero => intro i y h; omega
    | succ m ih => ?_
    intro i y hm h0
    refine r_iload_n X (by rfl) dX8_fewestToGoal_4 ?_
    refine r_iconst X 3 (by decide) dX8_fewestToGoal_5 ?_
    refine r_icmp_ge X 42 dX8_fewestToGoal_6 (by decide) (fun h6 => ?_) (fun h6 => ?_)
    · rw [show Int32.toInt 3 = 3 from rfl] at h6
      refine r_iload_n X (by rfl) dX8_fewestToGoal_42 ?_
      refine r_ireturn X hR dX8_fewestToGoal_43 rfl (Nat.zero_le _) (Nat.zero_le _) ?_
      exact ⟨_, rfl, rfl⟩
    · rw [show Int32.toInt 3 = 3 from rfl] at h6
      have hi3 : i.toNatClampNeg < 3 := zcl3 h0 h6
      refine r_aload_n X (by rfl) dX8_fewestToGoal_9 ?_
      refine r_getR X dX8_fewestToGoal_10 zF_X8_20 ha g2 ?_
      refine r_iload_n X (by rfl) dX8_fewestToGoal_13 ?_
      refine r_aaload X dX8_fewestToGoal_14 haw (by decide) (vp_in_iff.mpr ⟨h0, by omega⟩) (hW _ hi3) ?_
      refine r_bipush X 24 (by decide) dX8_fewestToGoal_15 ?_
      refine r_iaload X dX8_fewestToGoal_17 (hWt _ hi3) (vp_in_iff.mpr ⟨by decide, by decide⟩) ?_
      refine r_iconst X (-1) (by decide) dX8_fewestToGoal_18 ?_
      refine r_icmp_ne X 24 dX8_fewestToGoal_19 (by decide) (fun h19 => ?_) (fun h19 => ?_)
      · refine r_iload_n X (by rfl) dX8_fewestToGoal_24 ?_
        refine r_aload_n X (by rfl) dX8_fewestToGoal_25 ?_
        refine r_getR X dX8_fewestToGoal_26 zF_X8_20 ha g2 ?_
        refine r_iload_n X (by rfl) dX8_fewestToGoal_29 ?_
        refine r_aaload X dX8_fewestToGoal_30 haw (by decide) (vp_in_iff.mpr ⟨h0, by omega⟩) (hW _ hi3) ?_
        refine r_bipush X 24 (by decide) dX8_fewestToGoal_31 ?_
        refine r_iaload X dX8_fewestToGoal_33 (hWt _ hi3) (vp_in_iff.mpr ⟨by decide, by decide⟩) ?_
        refine r_iadd X dX8_fewestToGoal_34 ?_
        refine r_istore_n X (by decide) dX8_fewestToGoal_35 ?_
        refine r_iinc X 1 (by decide) (by rfl) (by decide) dX8_fewestToGoal_36 ?_
        refine r_goto X 4 dX8_fewestToGoal_39 (by decide) ?_
        exact zW.loc3 (by rfl) (by rfl) (by rfl) (ih _ _ (by have e := zinc (x := i) (by omega); omega) (by have e := zinc (x := i) (by omega); omega))
      · refine r_iconst X (-1) (by decide) dX8_fewestToGoal_22 ?_
        refine r_ireturn X hR dX8_fewestToGoal_23 rfl (Nat.zero_le _) (Nat.zero_le _) ?_
        exact ⟨_, rfl, rfl⟩
  refine r_iconst X 0 (by decide) dX8_fewestToGoal_0 ?_
  refine r_istore_n X (by decide) dX8_fewestToGoal_1 ?_
  refine r_iconst X 0 (by decide) dX8_fewestToGoal_2 ?_
  refine r_istore_n X (by decide) dX8_fewestToGoal_3 ?_
  exact zW.loc3 (by rfl) (by rfl) (by rfl) (L4 4 _ _ (by decide) (by decide))
set_option maxHeartbeats 4000000 in
set_option maxRecDepth 100000 in
theorem c_X8_isNearer (l : Launch) (G : zG) (z : Nat) (τ : Nat → Option (Nat × Nat)) (ρ : Nat → Nat → Option Nat) (ι : Nat → Nat → Int32) (κ : Nat → Nat → Int64) {a mu dv aw nw M1 : Nat} {W : Nat → Nat} (ha : τ a = some (8, M1)) (g0 : ρ a 0 = some mu) (g1 : ρ a 1 = some dv) (g2 : ρ a 2 = some aw) (g3 : ρ a 3 = some nw) (hmu : τ mu = some (15, 4)) (hdv : τ dv = some (15, 4)) (haw : τ aw = some (18, 3)) (hnw : τ nw = some (13, 3)) (hW : ∀ j, j < 3 → ρ aw j = some (W j)) (hWt : ∀ j, j < 3 → τ (W j) = some (13, 49)) (x y : Int32) (x0 : 0 ≤ x.toInt) (x1 : x.toInt < 3) (hN : (∀ j : Nat, j < 3 → 0 ≤ (ι nw j).toInt ∧ (ι nw j).toInt < 49)) : zM l G yX8_isNearer cX8_isNearer 3 (some .boolean) ({ frames := 0, cells := 0, slots := 0, locals := 0 } : Room) [.ref a, .int x, .int y] (z, τ, ρ, ι, κ) (fun v s => ∃ r, v = some (.int r) ∧ (¬ r = 0 → 0 ≤ y.toInt ∧ y.toInt < 49) ∧ s = (z, τ, ρ, ι, κ)) 0 0 := by
  refine zM_of zCd_X8_isNearer (Nat.le_of_ble_eq_true rfl) ?_
  intro E X hR hE
  subst hE
  show zW E G 3 (z, τ, ρ, ι, κ) 0 0 0 [(0, .ref a), (1, .int x), (2, .int y)] []
  have hx3 : x.toNatClampNeg < 3 := zcl3 x0 x1
  refine r_iload_n X (by rfl) dX8_isNearer_0 ?_
  refine r_if_lt X 50 dX8_isNearer_1 (by decide) (fun h1 => ?_) (fun h1 => ?_)
  · refine r_iconst X 0 (by decide) dX8_isNearer_50 ?_
    refine r_ireturn X hR dX8_isNearer_51 rfl (Nat.zero_le _) (Nat.zero_le _) ?_
    exact ⟨_, rfl, fun hr => by first | exact absurd rfl hr | (constructor <;> omega), rfl⟩
  · refine r_iload_n X (by rfl) dX8_isNearer_4 ?_
    refine r_bipush X 49 (by decide) dX8_isNearer_5 ?_
    refine r_icmp_ge X 50 dX8_isNearer_7 (by decide) (fun h7 => ?_) (fun h7 => ?_)
    · rw [show Int32.toInt 49 = 49 from rfl] at h7
      refine r_iconst X 0 (by decide) dX8_isNearer_50 ?_
      refine r_ireturn X hR dX8_isNearer_51 rfl (Nat.zero_le _) (Nat.zero_le _) ?_
      exact ⟨_, rfl, fun hr => by first | exact absurd rfl hr | (constructor <;> omega), rfl⟩
    · rw [show Int32.toInt 49 = 49 from rfl] at h7
      refine r_aload_n X (by rfl) dX8_isNearer_10 ?_
      refine r_getR X dX8_isNearer_11 zF_X8_20 ha g2 ?_
      refine r_iload_n X (by rfl) dX8_isNearer_14 ?_
      refine r_aaload X dX8_isNearer_15 haw (by decide) (vp_in_iff.mpr ⟨x0, by omega⟩) (hW _ hx3) ?_
      refine r_iload_n X (by rfl) dX8_isNearer_16 ?_
      refine r_iaload X dX8_isNearer_17 (hWt _ hx3) (vp_in_iff.mpr ⟨h1, by omega⟩) ?_
      refine r_iconst X (-1) (by decide) dX8_isNearer_18 ?_
      refine r_icmp_eq X 50 dX8_isNearer_19 (by decide) (fun h19 => ?_) (fun h19 => ?_)
      · refine r_iconst X 0 (by decide) dX8_isNearer_50 ?_
        refine r_ireturn X hR dX8_isNearer_51 rfl (Nat.zero_le _) (Nat.zero_le _) ?_
        exact ⟨_, rfl, fun hr => by first | exact absurd rfl hr | (constructor <;> omega), rfl⟩
      · refine r_aload_n X (by rfl) dX8_isNearer_22 ?_
        refine r_getR X dX8_isNearer_23 zF_X8_20 ha g2 ?_
        refine r_iload_n X (by rfl) dX8_isNearer_26 ?_
        refine r_aaload X dX8_isNearer_27 haw (by decide) (vp_in_iff.mpr ⟨x0, by omega⟩) (hW _ hx3) ?_
        refine r_iload_n X (by rfl) dX8_isNearer_28 ?_
        refine r_iaload X dX8_isNearer_29 (hWt _ hx3) (vp_in_iff.mpr ⟨h1, by omega⟩) ?_
        refine r_aload_n X (by rfl) dX8_isNearer_30 ?_
        refine r_getR X dX8_isNearer_31 zF_X8_20 ha g2 ?_
        refine r_iload_n X (by rfl) dX8_isNearer_34 ?_
        refine r_aaload X dX8_isNearer_35 haw (by decide) (vp_in_iff.mpr ⟨x0, by omega⟩) (hW _ hx3) ?_
        refine r_aload_n X (by rfl) dX8_isNearer_36 ?_
        refine r_getR X dX8_isNearer_37 zF_X8_23 ha g3 ?_
        refine r_iload_n X (by rfl) dX8_isNearer_40 ?_
        refine r_iaload X dX8_isNearer_41 hnw (vp_in_iff.mpr ⟨x0, by omega⟩) ?_
        refine r_iaload X dX8_isNearer_42 (hWt _ hx3) (vp_in_iff.mpr (hN _ hx3)) ?_
        refine r_icmp_ge X 50 dX8_isNearer_43 (by decide) (fun h43 => ?_) (fun h43 => ?_)
        · refine r_iconst X 0 (by decide) dX8_isNearer_50 ?_
          refine r_ireturn X hR dX8_isNearer_51 rfl (Nat.zero_le _) (Nat.zero_le _) ?_
          exact ⟨_, rfl, fun hr => by first | exact absurd rfl hr | (constructor <;> omega), rfl⟩
        · refine r_iconst X 1 (by decide) dX8_isNearer_46 ?_
          refine r_goto X 51 dX8_isNearer_47 (by decide) ?_
          refine r_ireturn X hR dX8_isNearer_51 rfl (Nat.zero_le _) (Nat.zero_le _) ?_
          exact ⟨_, rfl, fun hr => by first | exact absurd rfl hr | (constructor <;> omega), rfl⟩
set_option maxHeartbeats 4000000 in
set_option maxRecDepth 100000 in
theorem c_X8_makeFirst (l : Launch) (G : zG) (z : Nat) (τ : Nat → Option (Nat × Nat)) (ρ : Nat → Nat → Option Nat) (ι : Nat → Nat → Int32) (κ : Nat → Nat → Int64) {a mu dv aw nw M1 : Nat} {W : Nat → Nat} (ha : τ a = some (8, M1)) (g0 : ρ a 0 = some mu) (g1 : ρ a 1 = some dv) (g2 : ρ a 2 = some aw) (g3 : ρ a 3 = some nw) (hmu : τ mu = some (15, 4)) (hdv : τ dv = some (15, 4)) (haw : τ aw = some (18, 3)) (hnw : τ nw = some (13, 3)) (hW : ∀ j, j < 3 → ρ aw j = some (W j)) (hWt : ∀ j, j < 3 → τ (W j) = some (13, 49)) (hN : (∀ j : Nat, j < 3 → 0 ≤ (ι nw j).toInt ∧ (ι nw j).toInt < 49)) : zM l G yX8_makeFirst cX8_makeFirst 5 (some .int) ({ frames := 1, cells := 0, slots := 0, locals := 22 } : Room) [.ref a] (z, τ, ρ, ι, κ) (fun v s => ∃ r ι2, v = some (.int r) ∧ s = (z, τ, ρ, ι2, κ) ∧ (∀ b, b ≠ nw → ι2 b = ι b) ∧ (∀ j : Nat, j < 3 → 0 ≤ (ι2 nw j).toInt ∧ (ι2 nw j).toInt < 49)) 0 0 := by
  refine zM_of zCd_X8_makeFirst (Nat.le_of_ble_eq_true rfl) ?_
  intro E X hR hE
  subst hE
  show zW E G 5 (z, τ, ρ, ι, κ) 0 0 0 [(0, .ref a)] []
  have L2 : ∀ (m : Nat) (i : Int32), (2 - i.toInt).toNat < m → 0 ≤ i.toInt → zW E G 5 (z, τ, ρ, ι, κ) 0 0 2 [(0, .ref a), (1, .int i)] [] := by
    intro m
    induction m with
    | zero => intro i h; omega
    | succ m ih => ?_
    intro i hm h0
    have L9 : i.toInt ≤ 1 → ∀ (m2 : Nat) (j : Int32), (3 - j.toInt).toNat < m2 → 0 ≤ j.toInt → zW E G 5 (z, τ, ρ, ι, κ) 0 0 9 [(0, .ref a), (1, .int i), (2, .int j)] [] := by
      intro hi1 m2
      induction m2 with
      | zero => intro j h; omega
      | succ m2 ih2 => ?_
      intro j hm2 hj
      have L16 : j.toInt < 3 → ∀ (m3 : Nat) (q : Int32), (4 - q.toInt).toNat < m3 → 1 ≤ q.toInt → zW E G 5 (z, τ, ρ, ι, κ) 0 0 16 [(0, .ref a), (1, .int i), (2, .int j), (3, .int q)] [] := by
        intro hj3 m3
        induction m3 with
        | zero => intro q h; omega
        | succ m3 ih3 => ?_
        intro q hm3 hq
        have hjc : j.toNatClampNeg < 3 := zcl3 hj hj3
        refine r_iload_n X (by rfl) dX8_makeFirst_16 ?_
        refine r_iconst X 3 (by decide) dX8_makeFirst_17 ?_
        refine r_icmp_gt X 107 dX8_makeFirst_18 (by decide) (fun h18 => ?_) (fun h18 => ?_)
        · rw [show Int32.toInt 3 = 3 from rfl] at h18
          refine r_iinc X 1 (by decide) (by rfl) (by decide) dX8_makeFirst_107 ?_
          refine r_goto X 9 dX8_makeFirst_110 (by decide) ?_
          exact zW.loc3 (by rfl) (by rfl) (by rfl) (ih2 _ (by have e := zinc (x := j) (by omega); omega) (by have e := zinc (x := j) (by omega); omega))
        · rw [show Int32.toInt 3 = 3 from rfl] at h18
          refine r_iload_n X (by rfl) dX8_makeFirst_21 ?_
          refine r_if_ne X 36 dX8_makeFirst_22 (by decide) (fun h22 => ?_) (fun h22 => ?_)
          · refine r_aload_n X (by rfl) dX8_makeFirst_36 ?_
            refine r_getR X dX8_makeFirst_37 zF_X8_23 ha g3 ?_
            refine r_iload_n X (by rfl) dX8_makeFirst_40 ?_
            refine r_iaload X dX8_makeFirst_41 hnw (vp_in_iff.mpr ⟨hj, by omega⟩) ?_
            refine r_iload_n X (by rfl) dX8_makeFirst_42 ?_
            refine r_isub X dX8_makeFirst_43 ?_
            refine r_istore X (by decide) dX8_makeFirst_44 ?_
            refine r_iload_n X (by rfl) dX8_makeFirst_46 ?_
            refine r_if_ne X 62 dX8_makeFirst_47 (by decide) (fun h47 => ?_) (fun h47 => ?_)
            · refine r_aload_n X (by rfl) dX8_makeFirst_62 ?_
              refine r_getR X dX8_makeFirst_63 zF_X8_15 ha g1 ?_
              refine r_iload_n X (by rfl) dX8_makeFirst_66 ?_
              refine r_zaload X dX8_makeFirst_67 hdv (vp_in_iff.mpr ⟨by omega, by omega⟩) ?_
              refine r_if_eq X 101 dX8_makeFirst_68 (by decide) (fun h68 => ?_) (fun h68 => ?_)
              · refine r_iinc X 1 (by decide) (by rfl) (by decide) dX8_makeFirst_101 ?_
                refine r_goto X 16 dX8_makeFirst_104 (by decide) ?_
                exact zW.loc4 (by rfl) (by rfl) (by rfl) (by rfl) (ih3 _ (by have e := zinc (x := q) (by omega); omega) (by have e := zinc (x := q) (by omega); omega))
              · refine r_aload_n X (by rfl) dX8_makeFirst_71 ?_
                refine r_iload_n X (by rfl) dX8_makeFirst_72 ?_
                refine r_iload X (by rfl) dX8_makeFirst_73 ?_
                refine r_callV X dX8_makeFirst_75 zLV_X8_41 zCd_X8_isNearer (c_X8_isNearer _ G z τ ρ _ _ ha g0 g1 g2 g3 hmu hdv haw hnw hW hWt _ _ hj (by omega) hN) ha ⟨by decide, rfl, rfl⟩ rfl rfl ⟨⟨rfl, rfl⟩, ⟨by decide, by decide⟩, ⟨Nat.le_of_ble_eq_true rfl, Nat.le_of_ble_eq_true rfl⟩, Nat.le_of_ble_eq_true rfl⟩ ?_
                rintro _ _ ⟨r, rfl, hr, rfl⟩
                refine r_if_eq X 101 dX8_makeFirst_78 (by decide) (fun h78 => ?_) (fun h78 => ?_)
                · refine r_iinc X 1 (by decide) (by rfl) (by decide) dX8_makeFirst_101 ?_
                  refine r_goto X 16 dX8_makeFirst_104 (by decide) ?_
                  exact zW.loc4 (by rfl) (by rfl) (by rfl) (by rfl) (ih3 _ (by have e := zinc (x := q) (by omega); omega) (by have e := zinc (x := q) (by omega); omega))
                · refine r_aload_n X (by rfl) dX8_makeFirst_81 ?_
                  refine r_getR X dX8_makeFirst_82 zF_X8_23 ha g3 ?_
                  refine r_iload_n X (by rfl) dX8_makeFirst_85 ?_
                  refine r_iload X (by rfl) dX8_makeFirst_86 ?_
                  refine r_iastore X dX8_makeFirst_88 hnw (vp_in_iff.mpr ⟨hj, by omega⟩) ?_
                  refine r_bipush X 100 (by decide) dX8_makeFirst_89 ?_
                  refine r_iload_n X (by rfl) dX8_makeFirst_91 ?_
                  refine r_imul X dX8_makeFirst_92 ?_
                  refine r_bipush X 10 (by decide) dX8_makeFirst_93 ?_
                  refine r_iload_n X (by rfl) dX8_makeFirst_95 ?_
                  refine r_imul X dX8_makeFirst_96 ?_
                  refine r_iadd X dX8_makeFirst_97 ?_
                  refine r_iload_n X (by rfl) dX8_makeFirst_98 ?_
                  refine r_iadd X dX8_makeFirst_99 ?_
                  refine r_ireturn X hR dX8_makeFirst_100 rfl (Nat.zero_le _) (Nat.zero_le _) ?_
                  exact ⟨_, _, rfl, rfl, fun b hb => zu_r hb, fun k hk => by
                    by_cases e : k = j.toNatClampNeg
                    · subst e; rw [zu_s]; exact hr h78
                    · rw [zu_k e]; exact hN k hk⟩
            · refine r_aload_n X (by rfl) dX8_makeFirst_50 ?_
              refine r_getR X dX8_makeFirst_51 zF_X8_11 ha g0 ?_
              refine r_iload_n X (by rfl) dX8_makeFirst_54 ?_
              refine r_zaload X dX8_makeFirst_55 hmu (vp_in_iff.mpr ⟨by omega, by omega⟩) ?_
              refine r_if_eq X 101 dX8_makeFirst_56 (by decide) (fun h56 => ?_) (fun h56 => ?_)
              · refine r_iinc X 1 (by decide) (by rfl) (by decide) dX8_makeFirst_101 ?_
                refine r_goto X 16 dX8_makeFirst_104 (by decide) ?_
                exact zW.loc4 (by rfl) (by rfl) (by rfl) (by rfl) (ih3 _ (by have e := zinc (x := q) (by omega); omega) (by have e := zinc (x := q) (by omega); omega))
              · refine r_goto X 71 dX8_makeFirst_59 (by decide) ?_
                refine r_aload_n X (by rfl) dX8_makeFirst_71 ?_
                refine r_iload_n X (by rfl) dX8_makeFirst_72 ?_
                refine r_iload X (by rfl) dX8_makeFirst_73 ?_
                refine r_callV X dX8_makeFirst_75 zLV_X8_41 zCd_X8_isNearer (c_X8_isNearer _ G z τ ρ _ _ ha g0 g1 g2 g3 hmu hdv haw hnw hW hWt _ _ hj (by omega) hN) ha ⟨by decide, rfl, rfl⟩ rfl rfl ⟨⟨rfl, rfl⟩, ⟨by decide, by decide⟩, ⟨Nat.le_of_ble_eq_true rfl, Nat.le_of_ble_eq_true rfl⟩, Nat.le_of_ble_eq_true rfl⟩ ?_
                rintro _ _ ⟨r, rfl, hr, rfl⟩
                refine r_if_eq X 101 dX8_makeFirst_78 (by decide) (fun h78 => ?_) (fun h78 => ?_)
                · refine r_iinc X 1 (by decide) (by rfl) (by decide) dX8_makeFirst_101 ?_
                  refine r_goto X 16 dX8_makeFirst_104 (by decide) ?_
                  exact zW.loc4 (by rfl) (by rfl) (by rfl) (by rfl) (ih3 _ (by have e := zinc (x := q) (by omega); omega) (by have e := zinc (x := q) (by omega); omega))
                · refine r_aload_n X (by rfl) dX8_makeFirst_81 ?_
                  refine r_getR X dX8_makeFirst_82 zF_X8_23 ha g3 ?_
                  refine r_iload_n X (by rfl) dX8_makeFirst_85 ?_
                  refine r_iload X (by rfl) dX8_makeFirst_86 ?_
                  refine r_iastore X dX8_makeFirst_88 hnw (vp_in_iff.mpr ⟨hj, by omega⟩) ?_
                  refine r_bipush X 100 (by decide) dX8_makeFirst_89 ?_
                  refine r_iload_n X (by rfl) dX8_makeFirst_91 ?_
                  refine r_imul X dX8_makeFirst_92 ?_
                  refine r_bipush X 10 (by decide) dX8_makeFirst_93 ?_
                  refine r_iload_n X (by rfl) dX8_makeFirst_95 ?_
                  refine r_imul X dX8_makeFirst_96 ?_
                  refine r_iadd X dX8_makeFirst_97 ?_
                  refine r_iload_n X (by rfl) dX8_makeFirst_98 ?_
                  refine r_iadd X dX8_makeFirst_99 ?_
                  refine r_ireturn X hR dX8_makeFirst_100 rfl (Nat.zero_le _) (Nat.zero_le _) ?_
                  exact ⟨_, _, rfl, rfl, fun b hb => zu_r hb, fun k hk => by
                    by_cases e : k = j.toNatClampNeg
                    · subst e; rw [zu_s]; exact hr h78
                    · rw [zu_k e]; exact hN k hk⟩
          · refine r_aload_n X (by rfl) dX8_makeFirst_25 ?_
            refine r_getR X dX8_makeFirst_26 zF_X8_23 ha g3 ?_
            refine r_iload_n X (by rfl) dX8_makeFirst_29 ?_
            refine r_iaload X dX8_makeFirst_30 hnw (vp_in_iff.mpr ⟨hj, by omega⟩) ?_
            refine r_iload_n X (by rfl) dX8_makeFirst_31 ?_
            refine r_iadd X dX8_makeFirst_32 ?_
            refine r_goto X 44 dX8_makeFirst_33 (by decide) ?_
            refine r_istore X (by decide) dX8_makeFirst_44 ?_
            refine r_iload_n X (by rfl) dX8_makeFirst_46 ?_
            refine r_if_ne X 62 dX8_makeFirst_47 (by decide) (fun h47 => ?_) (fun h47 => ?_)
            · refine r_aload_n X (by rfl) dX8_makeFirst_62 ?_
              refine r_getR X dX8_makeFirst_63 zF_X8_15 ha g1 ?_
              refine r_iload_n X (by rfl) dX8_makeFirst_66 ?_
              refine r_zaload X dX8_makeFirst_67 hdv (vp_in_iff.mpr ⟨by omega, by omega⟩) ?_
              refine r_if_eq X 101 dX8_makeFirst_68 (by decide) (fun h68 => ?_) (fun h68 => ?_)
              · refine r_iinc X 1 (by decide) (by rfl) (by decide) dX8_makeFirst_101 ?_
                refine r_goto X 16 dX8_makeFirst_104 (by decide) ?_
                exact zW.loc4 (by rfl) (by rfl) (by rfl) (by rfl) (ih3 _ (by have e := zinc (x := q) (by omega); omega) (by have e := zinc (x := q) (by omega); omega))
              · refine r_aload_n X (by rfl) dX8_makeFirst_71 ?_
                refine r_iload_n X (by rfl) dX8_makeFirst_72 ?_
                refine r_iload X (by rfl) dX8_makeFirst_73 ?_
                refine r_callV X dX8_makeFirst_75 zLV_X8_41 zCd_X8_isNearer (c_X8_isNearer _ G z τ ρ _ _ ha g0 g1 g2 g3 hmu hdv haw hnw hW hWt _ _ hj (by omega) hN) ha ⟨by decide, rfl, rfl⟩ rfl rfl ⟨⟨rfl, rfl⟩, ⟨by decide, by decide⟩, ⟨Nat.le_of_ble_eq_true rfl, Nat.le_of_ble_eq_true rfl⟩, Nat.le_of_ble_eq_true rfl⟩ ?_
                rintro _ _ ⟨r, rfl, hr, rfl⟩
                refine r_if_eq X 101 dX8_makeFirst_78 (by decide) (fun h78 => ?_) (fun h78 => ?_)
                · refine r_iinc X 1 (by decide) (by rfl) (by decide) dX8_makeFirst_101 ?_
                  refine r_goto X 16 dX8_makeFirst_104 (by decide) ?_
                  exact zW.loc4 (by rfl) (by rfl) (by rfl) (by rfl) (ih3 _ (by have e := zinc (x := q) (by omega); omega) (by have e := zinc (x := q) (by omega); omega))
                · refine r_aload_n X (by rfl) dX8_makeFirst_81 ?_
                  refine r_getR X dX8_makeFirst_82 zF_X8_23 ha g3 ?_
                  refine r_iload_n X (by rfl) dX8_makeFirst_85 ?_
                  refine r_iload X (by rfl) dX8_makeFirst_86 ?_
                  refine r_iastore X dX8_makeFirst_88 hnw (vp_in_iff.mpr ⟨hj, by omega⟩) ?_
                  refine r_bipush X 100 (by decide) dX8_makeFirst_89 ?_
                  refine r_iload_n X (by rfl) dX8_makeFirst_91 ?_
                  refine r_imul X dX8_makeFirst_92 ?_
                  refine r_bipush X 10 (by decide) dX8_makeFirst_93 ?_
                  refine r_iload_n X (by rfl) dX8_makeFirst_95 ?_
                  refine r_imul X dX8_makeFirst_96 ?_
                  refine r_iadd X dX8_makeFirst_97 ?_
                  refine r_iload_n X (by rfl) dX8_makeFirst_98 ?_
                  refine r_iadd X dX8_makeFirst_99 ?_
                  refine r_ireturn X hR dX8_makeFirst_100 rfl (Nat.zero_le _) (Nat.zero_le _) ?_
                  exact ⟨_, _, rfl, rfl, fun b hb => zu_r hb, fun k hk => by
                    by_cases e : k = j.toNatClampNeg
                    · subst e; rw [zu_s]; exact hr h78
                    · rw [zu_k e]; exact hN k hk⟩
            · refine r_aload_n X (by rfl) dX8_makeFirst_50 ?_
              refine r_getR X dX8_makeFirst_51 zF_X8_11 ha g0 ?_
              refine r_iload_n X (by rfl) dX8_makeFirst_54 ?_
              refine r_zaload X dX8_makeFirst_55 hmu (vp_in_iff.mpr ⟨by omega, by omega⟩) ?_
              refine r_if_eq X 101 dX8_makeFirst_56 (by decide) (fun h56 => ?_) (fun h56 => ?_)
              · refine r_iinc X 1 (by decide) (by rfl) (by decide) dX8_makeFirst_101 ?_
                refine r_goto X 16 dX8_makeFirst_104 (by decide) ?_
                exact zW.loc4 (by rfl) (by rfl) (by rfl) (by rfl) (ih3 _ (by have e := zinc (x := q) (by omega); omega) (by have e := zinc (x := q) (by omega); omega))
              · refine r_goto X 71 dX8_makeFirst_59 (by decide) ?_
                refine r_aload_n X (by rfl) dX8_makeFirst_71 ?_
                refine r_iload_n X (by rfl) dX8_makeFirst_72 ?_
                refine r_iload X (by rfl) dX8_makeFirst_73 ?_
                refine r_callV X dX8_makeFirst_75 zLV_X8_41 zCd_X8_isNearer (c_X8_isNearer _ G z τ ρ _ _ ha g0 g1 g2 g3 hmu hdv haw hnw hW hWt _ _ hj (by omega) hN) ha ⟨by decide, rfl, rfl⟩ rfl rfl ⟨⟨rfl, rfl⟩, ⟨by decide, by decide⟩, ⟨Nat.le_of_ble_eq_true rfl, Nat.le_of_ble_eq_true rfl⟩, Nat.le_of_ble_eq_true rfl⟩ ?_
                rintro _ _ ⟨r, rfl, hr, rfl⟩
                refine r_if_eq X 101 dX8_makeFirst_78 (by decide) (fun h78 => ?_) (fun h78 => ?_)
                · refine r_iinc X 1 (by decide) (by rfl) (by decide) dX8_makeFirst_101 ?_
                  refine r_goto X 16 dX8_makeFirst_104 (by decide) ?_
                  exact zW.loc4 (by rfl) (by rfl) (by rfl) (by rfl) (ih3 _ (by have e := zinc (x := q) (by omega); omega) (by have e := zinc (x := q) (by omega); omega))
                · refine r_aload_n X (by rfl) dX8_makeFirst_81 ?_
                  refine r_getR X dX8_makeFirst_82 zF_X8_23 ha g3 ?_
                  refine r_iload_n X (by rfl) dX8_makeFirst_85 ?_
                  refine r_iload X (by rfl) dX8_makeFirst_86 ?_
                  refine r_iastore X dX8_makeFirst_88 hnw (vp_in_iff.mpr ⟨hj, by omega⟩) ?_
                  refine r_bipush X 100 (by decide) dX8_makeFirst_89 ?_
                  refine r_iload_n X (by rfl) dX8_makeFirst_91 ?_
                  refine r_imul X dX8_makeFirst_92 ?_
                  refine r_bipush X 10 (by decide) dX8_makeFirst_93 ?_
                  refine r_iload_n X (by rfl) dX8_makeFirst_95 ?_
                  refine r_imul X dX8_makeFirst_96 ?_
                  refine r_iadd X dX8_makeFirst_97 ?_
                  refine r_iload_n X (by rfl) dX8_makeFirst_98 ?_
                  refine r_iadd X dX8_makeFirst_99 ?_
                  refine r_ireturn X hR dX8_makeFirst_100 rfl (Nat.zero_le _) (Nat.zero_le _) ?_
                  exact ⟨_, _, rfl, rfl, fun b hb => zu_r hb, fun k hk => by
                    by_cases e : k = j.toNatClampNeg
                    · subst e; rw [zu_s]; exact hr h78
                    · rw [zu_k e]; exact hN k hk⟩
      refine r_iload_n X (by rfl) dX8_makeFirst_9 ?_
      refine r_iconst X 3 (by decide) dX8_makeFirst_10 ?_
      refine r_icmp_ge X 113 dX8_makeFirst_11 (by decide) (fun h11 => ?_) (fun h11 => ?_)
      · rw [show Int32.toInt 3 = 3 from rfl] at h11
        refine r_iinc X 1 (by decide) (by rfl) (by decide) dX8_makeFirst_113 ?_
        refine r_goto X 2 dX8_makeFirst_116 (by decide) ?_
        exact zW.loc2 (by rfl) (by rfl) (ih _ (by have e := zinc (x := i) (by omega); omega) (by have e := zinc (x := i) (by omega); omega))
      · rw [show Int32.toInt 3 = 3 from rfl] at h11
        refine r_iconst X 1 (by decide) dX8_makeFirst_14 ?_
        refine r_istore_n X (by decide) dX8_makeFirst_15 ?_
        exact zW.loc4 (by rfl) (by rfl) (by rfl) (by rfl) (L16 h11 5 _ (by decide) (by decide))
    refine r_iload_n X (by rfl) dX8_makeFirst_2 ?_
    refine r_iconst X 1 (by decide) dX8_makeFirst_3 ?_
    refine r_icmp_gt X 119 dX8_makeFirst_4 (by decide) (fun h4 => ?_) (fun h4 => ?_)
    · rw [show Int32.toInt 1 = 1 from rfl] at h4
      refine r_iconst X (-1) (by decide) dX8_makeFirst_119 ?_
      refine r_ireturn X hR dX8_makeFirst_120 rfl (Nat.zero_le _) (Nat.zero_le _) ?_
      exact ⟨_, _, rfl, rfl, fun _ _ => rfl, hN⟩
    · rw [show Int32.toInt 1 = 1 from rfl] at h4
      refine r_iconst X 0 (by decide) dX8_makeFirst_7 ?_
      refine r_istore_n X (by decide) dX8_makeFirst_8 ?_
      exact zW.loc3 (by rfl) (by rfl) (by rfl) (L9 h4 4 _ (by decide) (by decide))
  refine r_iconst X 0 (by decide) dX8_makeFirst_0 ?_
  refine r_istore_n X (by decide) dX8_makeFirst_1 ?_
  exact zW.loc2 (by rfl) (by rfl) (L2 3 _ (by decide) (by decide))
set_option maxHeartbeats 4000000 in
set_option maxRecDepth 100000 in
theorem c_X8_codeAt (l : Launch) (G : zG) (z : Nat) (τ : Nat → Option (Nat × Nat)) (ρ : Nat → Nat → Option Nat) (ι : Nat → Nat → Int32) (κ : Nat → Nat → Int64) {a mu dv aw nw M1 : Nat} {W : Nat → Nat} (ha : τ a = some (8, M1)) (g0 : ρ a 0 = some mu) (g1 : ρ a 1 = some dv) (g2 : ρ a 2 = some aw) (g3 : ρ a 3 = some nw) (hmu : τ mu = some (15, 4)) (hdv : τ dv = some (15, 4)) (haw : τ aw = some (18, 3)) (hnw : τ nw = some (13, 3)) (hW : ∀ j, j < 3 → ρ aw j = some (W j)) (hWt : ∀ j, j < 3 → τ (W j) = some (13, 49)) (x : Int32) : zM l G yX8_codeAt cX8_codeAt 4 (some .int) ({ frames := 2, cells := 0, slots := 0, locals := 46 } : Room) [.ref a, .int x] (z, τ, ρ, ι, κ) (fun v s => ∃ r ι2, v = some (.int r) ∧ s = (z, τ, ρ, ι2, κ) ∧ (∀ b, b ≠ nw → ι2 b = ι b)) 0 0 := by
  refine zM_of zCd_X8_codeAt (Nat.le_of_ble_eq_true rfl) ?_
  intro E X hR hE
  subst hE
  show zW E G 4 (z, τ, ρ, ι, κ) 0 0 0 [(0, .ref a), (1, .int x)] []
  have hxl := x.toInt_lt
  have L35 : x.toInt < 2147483647 → ∀ (m : Nat) (i y : Int32) (ι1 : Nat → Nat → Int32), (x.toInt + 1 - i.toInt).toNat < m → 0 ≤ i.toInt → i.toInt ≤ 2147483647 → (∀ b, b ≠ nw → ι1 b = ι b) → (∀ j : Nat, j < 3 → 0 ≤ (ι1 nw j).toInt ∧ (ι1 nw j).toInt < 49) → zW E G 4 (z, τ, ρ, ι1, κ) 0 0 35 [(0, .ref a), (1, .int x), (2, .int y), (3, .int i)] [] := by
    intro hx1 m
    induction m with
    | zero => intro i y ι1 h; omega
    | succ m ih => ?_
    intro i y ι1 hm h0 hi hf hN
    refine r_iload_n X (by rfl) dX8_codeAt_35 ?_
    refine r_iload_n X (by rfl) dX8_codeAt_36 ?_
    refine r_icmp_gt X 51 dX8_codeAt_37 (by decide) (fun h37 => ?_) (fun h37 => ?_)
    · refine r_iload_n X (by rfl) dX8_codeAt_51 ?_
      refine r_ireturn X hR dX8_codeAt_52 rfl (Nat.zero_le _) (Nat.zero_le _) ?_
      exact ⟨_, _, rfl, rfl, hf⟩
    · refine r_aload_n X (by rfl) dX8_codeAt_40 ?_
      refine r_callV X dX8_codeAt_41 zLV_X8_38 zCd_X8_makeFirst (c_X8_makeFirst _ G z τ ρ _ _ ha g0 g1 g2 g3 hmu hdv haw hnw hW hWt hN) ha ⟨by decide, rfl, rfl⟩ rfl rfl ⟨⟨rfl, rfl⟩, ⟨by decide, by decide⟩, ⟨Nat.le_of_ble_eq_true rfl, Nat.le_of_ble_eq_true rfl⟩, Nat.le_of_ble_eq_true rfl⟩ ?_
      rintro _ _ ⟨r2, ι2, rfl, rfl, hf2, hN2⟩
      refine r_istore_n X (by decide) dX8_codeAt_44 ?_
      refine r_iinc X 1 (by decide) (by rfl) (by decide) dX8_codeAt_45 ?_
      refine r_goto X 35 dX8_codeAt_48 (by decide) ?_
      exact zW.loc4 (by rfl) (by rfl) (by rfl) (by rfl) (ih _ _ _ (by have e := zinc (x := i) (by omega); omega) (by have e := zinc (x := i) (by omega); omega) (by have := (i + 1).toInt_lt; omega) (fun b hb => by rw [hf2 b hb]; exact hf b hb) hN2)
  have L12 : x.toInt < 2147483647 → ∀ (m : Nat) (i : Int32) (ι1 : Nat → Nat → Int32), (3 - i.toInt).toNat < m → 0 ≤ i.toInt → (∀ b, b ≠ nw → ι1 b = ι b) → (∀ j : Nat, (j : Int) < i.toInt → j < 3 → ι1 nw j = 24) → zW E G 4 (z, τ, ρ, ι1, κ) 0 0 12 [(0, .ref a), (1, .int x), (2, .int i)] [] := by
    intro hx1 m
    induction m with
    | zero => intro i ι1 h; omega
    | succ m ih => ?_
    intro i ι1 hm h0 hf hN
    refine r_iload_n X (by rfl) dX8_codeAt_12 ?_
    refine r_iconst X 3 (by decide) dX8_codeAt_13 ?_
    refine r_icmp_ge X 31 dX8_codeAt_14 (by decide) (fun h14 => ?_) (fun h14 => ?_)
    · rw [show Int32.toInt 3 = 3 from rfl] at h14
      refine r_iconst X (-1) (by decide) dX8_codeAt_31 ?_
      refine r_istore_n X (by decide) dX8_codeAt_32 ?_
      refine r_iconst X 0 (by decide) dX8_codeAt_33 ?_
      refine r_istore_n X (by decide) dX8_codeAt_34 ?_
      exact zW.loc4 (by rfl) (by rfl) (by rfl) (by rfl) (L35 hx1 ((x.toInt + 1).toNat + 1) _ _ _ (by rw [show (0 : Int32).toInt = 0 from rfl]; omega) (by decide) (by decide) hf (fun k hk => by rw [hN k (by omega) hk]; decide))
    · rw [show Int32.toInt 3 = 3 from rfl] at h14
      refine r_aload_n X (by rfl) dX8_codeAt_17 ?_
      refine r_getR X dX8_codeAt_18 zF_X8_23 ha g3 ?_
      refine r_iload_n X (by rfl) dX8_codeAt_21 ?_
      refine r_bipush X 24 (by decide) dX8_codeAt_22 ?_
      refine r_iastore X dX8_codeAt_24 hnw (vp_in_iff.mpr ⟨h0, by omega⟩) ?_
      refine r_iinc X 1 (by decide) (by rfl) (by decide) dX8_codeAt_25 ?_
      refine r_goto X 12 dX8_codeAt_28 (by decide) ?_
      exact zW.loc3 (by rfl) (by rfl) (by rfl) (ih _ _ (by have e := zinc (x := i) (by omega); omega) (by have e := zinc (x := i) (by omega); omega) (fun b hb => by rw [zu_r hb]; exact hf b hb) (fun k hk hk3 => by
        have e := zinc (x := i) (by omega)
        by_cases q : k = i.toNatClampNeg
        · subst q; rw [zu_s]
        · rw [zu_k q]; exact hN k (by have := zclN h0; omega) hk3))
  refine r_iload_n X (by rfl) dX8_codeAt_0 ?_
  refine r_aload_n X (by rfl) dX8_codeAt_1 ?_
  refine r_callV X dX8_codeAt_2 zLV_X8_34 zCd_X8_fewestToGoal (c_X8_fewestToGoal _ G z τ ρ _ _ ha g0 g1 g2 g3 hmu hdv haw hnw hW hWt) ha ⟨by decide, rfl, rfl⟩ rfl rfl ⟨⟨rfl, rfl⟩, ⟨by decide, by decide⟩, ⟨Nat.le_of_ble_eq_true rfl, Nat.le_of_ble_eq_true rfl⟩, Nat.le_of_ble_eq_true rfl⟩ ?_
  rintro _ _ ⟨r, rfl, rfl⟩
  refine r_icmp_lt X 10 dX8_codeAt_5 (by decide) (fun h5 => ?_) (fun h5 => ?_)
  · refine r_iconst X 0 (by decide) dX8_codeAt_10 ?_
    refine r_istore_n X (by decide) dX8_codeAt_11 ?_
    exact zW.loc3 (by rfl) (by rfl) (by rfl) (L12 (by have := r.toInt_lt; omega) 4 _ _ (by decide) (by decide) (fun _ _ => rfl) (fun k hk _ => by rw [show Int32.toInt 0 = 0 from rfl] at hk; omega))
  · refine r_iconst X (-1) (by decide) dX8_codeAt_8 ?_
    refine r_ireturn X hR dX8_codeAt_9 rfl (Nat.zero_le _) (Nat.zero_le _) ?_
    exact ⟨_, _, rfl, rfl, fun _ _ => rfl⟩
set_option maxHeartbeats 4000000 in
set_option maxRecDepth 100000 in
theorem c_X9_choose (l : Launch) (G : zG) (z : Nat) (τ : Nat → Option (Nat × Nat)) (ρ : Nat → Nat → Option Nat) (ι : Nat → Nat → Int32) (κ : Nat → Nat → Int64) {a f v M1 M2 : Nat} (ha : τ a = some (9, M1)) (g0 : ρ a 0 = some f) (hf6 : τ f = some (6, M2)) (hv0 : ρ f 0 = some v) (hv : τ v = some (13, 60)) (n1 : (ι f 1).toInt ≤ 60) (x y : Int32) : zM l G yX9_choose cX9_choose 7 (some .int) ({ frames := 0, cells := 0, slots := 0, locals := 0 } : Room) [.ref a, .int x, .int y] (z, τ, ρ, ι, κ) (fun v s => ∃ r, v = some (.int r) ∧ s = (z, τ, ρ, ι, κ)) 0 0 := by
  refine zM_of zCd_X9_choose (Nat.le_of_ble_eq_true rfl) ?_
  intro E X hR hE
  subst hE
  show zW E G 7 (z, τ, ρ, ι, κ) 0 0 0 [(0, .ref a), (1, .int x), (2, .int y)] []
  have L8 : ∀ (m : Nat) (i p q : Int32), (60 - i.toInt).toNat < m → 0 ≤ i.toInt → zW E G 7 (z, τ, ρ, ι, κ) 0 0 8 [(0, .ref a), (1, .int x), (2, .int y), (3, .int p), (4, .int q), (5, .int i)] [] := by
    intro m
    induction m with
    | zero => intro i p q h; omega
    | succ m ih => ?_
    intro i p q hm h0
    refine r_iload X (by rfl) dX9_choose_8 ?_
    refine r_aload_n X (by rfl) dX9_choose_10 ?_
    refine r_getR X dX9_choose_11 zF_X9_16 ha g0 ?_
    refine r_getI X dX9_choose_14 zF_X9_20 hf6 ?_
    refine r_icmp_ge X 66 dX9_choose_17 (by decide) (fun h17 => ?_) (fun h17 => ?_)
    · refine r_iload_n X (by rfl) dX9_choose_66 ?_
      refine r_iconst X (-1) (by decide) dX9_choose_67 ?_
      refine r_icmp_ne X 75 dX9_choose_68 (by decide) (fun h68 => ?_) (fun h68 => ?_)
      · refine r_iconst X (-1) (by decide) dX9_choose_75 ?_
        refine r_ireturn X hR dX9_choose_76 rfl (Nat.zero_le _) (Nat.zero_le _) ?_
        exact ⟨_, rfl, rfl⟩
      · refine r_iload_n X (by rfl) dX9_choose_71 ?_
        refine r_goto X 76 dX9_choose_72 (by decide) ?_
        refine r_ireturn X hR dX9_choose_76 rfl (Nat.zero_le _) (Nat.zero_le _) ?_
        exact ⟨_, rfl, rfl⟩
    · refine r_aload_n X (by rfl) dX9_choose_20 ?_
      refine r_getR X dX9_choose_21 zF_X9_16 ha g0 ?_
      refine r_getR X dX9_choose_24 zF_X9_24 hf6 hv0 ?_
      refine r_iload X (by rfl) dX9_choose_27 ?_
      refine r_iaload X dX9_choose_29 hv (vp_in_iff.mpr ⟨h0, by omega⟩) ?_
      refine r_istore X (by decide) dX9_choose_30 ?_
      refine r_iload_n X (by rfl) dX9_choose_32 ?_
      refine r_if_eq X 45 dX9_choose_33 (by decide) (fun h33 => ?_) (fun h33 => ?_)
      · refine r_iload_n X (by rfl) dX9_choose_45 ?_
        refine r_iload_n X (by rfl) dX9_choose_46 ?_
        refine r_icmp_ne X 53 dX9_choose_47 (by decide) (fun h47 => ?_) (fun h47 => ?_)
        · refine r_iload X (by rfl) dX9_choose_53 ?_
          refine r_istore X (by decide) dX9_choose_55 ?_
          refine r_iinc X 1 (by decide) (by rfl) (by decide) dX9_choose_57 ?_
          refine r_iinc X 1 (by decide) (by rfl) (by decide) dX9_choose_60 ?_
          refine r_goto X 8 dX9_choose_63 (by decide) ?_
          exact zW.loc6 (by rfl) (by rfl) (by rfl) (by rfl) (by rfl) (by rfl) (ih _ _ _ (by have e := zinc (x := i) (by omega); omega) (by have e := zinc (x := i) (by omega); omega))
        · refine r_iload X (by rfl) dX9_choose_50 ?_
          refine r_ireturn X hR dX9_choose_52 rfl (Nat.zero_le _) (Nat.zero_le _) ?_
          exact ⟨_, rfl, rfl⟩
      · refine r_iload X (by rfl) dX9_choose_36 ?_
        refine r_iload X (by rfl) dX9_choose_38 ?_
        refine r_isub X dX9_choose_40 ?_
        refine r_iload_n X (by rfl) dX9_choose_41 ?_
        refine r_icmp_lt X 60 dX9_choose_42 (by decide) (fun h42 => ?_) (fun h42 => ?_)
        · refine r_iinc X 1 (by decide) (by rfl) (by decide) dX9_choose_60 ?_
          refine r_goto X 8 dX9_choose_63 (by decide) ?_
          exact zW.loc6 (by rfl) (by rfl) (by rfl) (by rfl) (by rfl) (by rfl) (ih _ _ _ (by have e := zinc (x := i) (by omega); omega) (by have e := zinc (x := i) (by omega); omega))
        · refine r_iload_n X (by rfl) dX9_choose_45 ?_
          refine r_iload_n X (by rfl) dX9_choose_46 ?_
          refine r_icmp_ne X 53 dX9_choose_47 (by decide) (fun h47 => ?_) (fun h47 => ?_)
          · refine r_iload X (by rfl) dX9_choose_53 ?_
            refine r_istore X (by decide) dX9_choose_55 ?_
            refine r_iinc X 1 (by decide) (by rfl) (by decide) dX9_choose_57 ?_
            refine r_iinc X 1 (by decide) (by rfl) (by decide) dX9_choose_60 ?_
            refine r_goto X 8 dX9_choose_63 (by decide) ?_
            exact zW.loc6 (by rfl) (by rfl) (by rfl) (by rfl) (by rfl) (by rfl) (ih _ _ _ (by have e := zinc (x := i) (by omega); omega) (by have e := zinc (x := i) (by omega); omega))
          · refine r_iload X (by rfl) dX9_choose_50 ?_
            refine r_ireturn X hR dX9_choose_52 rfl (Nat.zero_le _) (Nat.zero_le _) ?_
            exact ⟨_, rfl, rfl⟩
  refine r_iconst X 0 (by decide) dX9_choose_0 ?_
  refine r_istore_n X (by decide) dX9_choose_1 ?_
  refine r_iconst X 0 (by decide) dX9_choose_2 ?_
  refine r_istore X (by decide) dX9_choose_3 ?_
  refine r_iconst X 0 (by decide) dX9_choose_5 ?_
  refine r_istore X (by decide) dX9_choose_6 ?_
  exact zW.loc6 (by rfl) (by rfl) (by rfl) (by rfl) (by rfl) (by rfl) (L8 61 _ _ _ (by decide) (by decide))
set_option maxHeartbeats 4000000 in
set_option maxRecDepth 100000 in
theorem c_X3_alike (l : Launch) (G : zG) (z : Nat) (τ : Nat → Option (Nat × Nat)) (ρ : Nat → Nat → Option Nat) (ι : Nat → Nat → Int32) (κ : Nat → Nat → Int64) {f v g w M1 M2 : Nat} (hf6 : τ f = some (6, M1)) (hv0 : ρ f 0 = some v) (hv : τ v = some (13, 60)) (hg6 : τ g = some (6, M2)) (hw0 : ρ g 0 = some w) (hw : τ w = some (13, 60)) (n1 : (ι f 1).toInt ≤ 60) (n2 : (ι g 1).toInt ≤ 60) (x y : Int32) (x0 : 0 ≤ x.toInt) (x1 : x.toInt < (ι f 1).toInt) (y0 : 0 ≤ y.toInt) (y1 : y.toInt < (ι g 1).toInt) : zM l G yX3_alike cX3_alike 9 (some .int) ({ frames := 0, cells := 0, slots := 0, locals := 0 } : Room) [.ref f, .int x, .ref g, .int y] (z, τ, ρ, ι, κ) (fun v s => ∃ r, v = some (.int r) ∧ s = (z, τ, ρ, ι, κ)) 0 0 := by
  refine zM_of zCd_X3_alike (Nat.le_of_ble_eq_true rfl) ?_
  intro E X hR hE
  subst hE
  show zW E G 9 (z, τ, ρ, ι, κ) 0 0 0 [(0, .ref f), (1, .int x), (2, .ref g), (3, .int y)] []
  have L24 : ∀ (m : Nat) (i j p u : Int32), (60 - i.toInt).toNat < m → 0 ≤ i.toInt → 0 ≤ j.toInt → zW E G 9 (z, τ, ρ, ι, κ) 0 0 24 [(0, .ref f), (1, .int x), (2, .ref g), (3, .int y), (4, .int u), (5, .int p), (6, .int j), (7, .int i)] [] := by
    intro m
    induction m with
    | zero => intro i j p u h; omega
    | succ m ih => ?_
    intro i j p u hm h0 hj
    have L45 : i.toInt < (ι f 1).toInt → ∀ (m2 : Nat) (j wd : Int32), (60 - j.toInt).toNat < m2 → 0 ≤ j.toInt → zW E G 9 (z, τ, ρ, ι, κ) 0 0 45 [(0, .ref f), (1, .int x), (2, .ref g), (3, .int y), (4, .int u), (5, .int p), (6, .int j), (7, .int i), (8, .int wd)] [] := by
      intro hi m2
      induction m2 with
      | zero => intro j wd h; omega
      | succ m2 ih2 => ?_
      intro j wd hm2 hj
      refine r_iload X (by rfl) dX3_alike_45 ?_
      refine r_aload_n X (by rfl) dX3_alike_47 ?_
      refine r_getI X dX3_alike_48 zF_X3_16 hg6 ?_
      refine r_icmp_ge X 72 dX3_alike_51 (by decide) (fun h51 => ?_) (fun h51 => ?_)
      · refine r_iload X (by rfl) dX3_alike_72 ?_
        refine r_aload_n X (by rfl) dX3_alike_74 ?_
        refine r_getI X dX3_alike_75 zF_X3_16 hg6 ?_
        refine r_icmp_ge X 96 dX3_alike_78 (by decide) (fun h78 => ?_) (fun h78 => ?_)
        · refine r_iinc X 1 (by decide) (by rfl) (by decide) dX3_alike_96 ?_
          refine r_goto X 24 dX3_alike_99 (by decide) ?_
          exact zW.loc8 (by rfl) (by rfl) (by rfl) (by rfl) (by rfl) (by rfl) (by rfl) (by rfl) (ih _ _ _ _ (by have e := zinc (x := i) (by omega); omega) (by have e := zinc (x := i) (by omega); omega) hj)
        · refine r_aload_n X (by rfl) dX3_alike_81 ?_
          refine r_getR X dX3_alike_82 zF_X3_27 hg6 hw0 ?_
          refine r_iload X (by rfl) dX3_alike_85 ?_
          refine r_iaload X dX3_alike_87 hw (vp_in_iff.mpr ⟨hj, by omega⟩) ?_
          refine r_iload X (by rfl) dX3_alike_88 ?_
          refine r_icmp_ne X 96 dX3_alike_90 (by decide) (fun h90 => ?_) (fun h90 => ?_)
          · refine r_iinc X 1 (by decide) (by rfl) (by decide) dX3_alike_96 ?_
            refine r_goto X 24 dX3_alike_99 (by decide) ?_
            exact zW.loc8 (by rfl) (by rfl) (by rfl) (by rfl) (by rfl) (by rfl) (by rfl) (by rfl) (ih _ _ _ _ (by have e := zinc (x := i) (by omega); omega) (by have e := zinc (x := i) (by omega); omega) hj)
          · refine r_iinc X 1 (by decide) (by rfl) (by decide) dX3_alike_93 ?_
            refine r_iinc X 1 (by decide) (by rfl) (by decide) dX3_alike_96 ?_
            refine r_goto X 24 dX3_alike_99 (by decide) ?_
            exact zW.loc8 (by rfl) (by rfl) (by rfl) (by rfl) (by rfl) (by rfl) (by rfl) (by rfl) (ih _ _ _ _ (by have e := zinc (x := i) (by omega); omega) (by have e := zinc (x := i) (by omega); omega) hj)
      · refine r_aload_n X (by rfl) dX3_alike_54 ?_
        refine r_getR X dX3_alike_55 zF_X3_27 hg6 hw0 ?_
        refine r_iload X (by rfl) dX3_alike_58 ?_
        refine r_iaload X dX3_alike_60 hw (vp_in_iff.mpr ⟨hj, by omega⟩) ?_
        refine r_iload X (by rfl) dX3_alike_61 ?_
        refine r_icmp_ge X 72 dX3_alike_63 (by decide) (fun h63 => ?_) (fun h63 => ?_)
        · refine r_iload X (by rfl) dX3_alike_72 ?_
          refine r_aload_n X (by rfl) dX3_alike_74 ?_
          refine r_getI X dX3_alike_75 zF_X3_16 hg6 ?_
          refine r_icmp_ge X 96 dX3_alike_78 (by decide) (fun h78 => ?_) (fun h78 => ?_)
          · refine r_iinc X 1 (by decide) (by rfl) (by decide) dX3_alike_96 ?_
            refine r_goto X 24 dX3_alike_99 (by decide) ?_
            exact zW.loc8 (by rfl) (by rfl) (by rfl) (by rfl) (by rfl) (by rfl) (by rfl) (by rfl) (ih _ _ _ _ (by have e := zinc (x := i) (by omega); omega) (by have e := zinc (x := i) (by omega); omega) hj)
          · refine r_aload_n X (by rfl) dX3_alike_81 ?_
            refine r_getR X dX3_alike_82 zF_X3_27 hg6 hw0 ?_
            refine r_iload X (by rfl) dX3_alike_85 ?_
            refine r_iaload X dX3_alike_87 hw (vp_in_iff.mpr ⟨hj, by omega⟩) ?_
            refine r_iload X (by rfl) dX3_alike_88 ?_
            refine r_icmp_ne X 96 dX3_alike_90 (by decide) (fun h90 => ?_) (fun h90 => ?_)
            · refine r_iinc X 1 (by decide) (by rfl) (by decide) dX3_alike_96 ?_
              refine r_goto X 24 dX3_alike_99 (by decide) ?_
              exact zW.loc8 (by rfl) (by rfl) (by rfl) (by rfl) (by rfl) (by rfl) (by rfl) (by rfl) (ih _ _ _ _ (by have e := zinc (x := i) (by omega); omega) (by have e := zinc (x := i) (by omega); omega) hj)
            · refine r_iinc X 1 (by decide) (by rfl) (by decide) dX3_alike_93 ?_
              refine r_iinc X 1 (by decide) (by rfl) (by decide) dX3_alike_96 ?_
              refine r_goto X 24 dX3_alike_99 (by decide) ?_
              exact zW.loc8 (by rfl) (by rfl) (by rfl) (by rfl) (by rfl) (by rfl) (by rfl) (by rfl) (ih _ _ _ _ (by have e := zinc (x := i) (by omega); omega) (by have e := zinc (x := i) (by omega); omega) hj)
        · refine r_iinc X 1 (by decide) (by rfl) (by decide) dX3_alike_66 ?_
          refine r_goto X 45 dX3_alike_69 (by decide) ?_
          exact zW.loc9 (by rfl) (by rfl) (by rfl) (by rfl) (by rfl) (by rfl) (by rfl) (by rfl) (by rfl) (ih2 _ _ (by have e := zinc (x := j) (by omega); omega) (by have e := zinc (x := j) (by omega); omega))
    refine r_iload X (by rfl) dX3_alike_24 ?_
    refine r_aload_n X (by rfl) dX3_alike_26 ?_
    refine r_getI X dX3_alike_27 zF_X3_16 hf6 ?_
    refine r_icmp_ge X 102 dX3_alike_30 (by decide) (fun h30 => ?_) (fun h30 => ?_)
    · refine r_iload X (by rfl) dX3_alike_102 ?_
      refine r_ireturn X hR dX3_alike_104 rfl (Nat.zero_le _) (Nat.zero_le _) ?_
      exact ⟨_, rfl, rfl⟩
    · refine r_aload_n X (by rfl) dX3_alike_33 ?_
      refine r_getR X dX3_alike_34 zF_X3_27 hf6 hv0 ?_
      refine r_iload X (by rfl) dX3_alike_37 ?_
      refine r_iaload X dX3_alike_39 hv (vp_in_iff.mpr ⟨h0, by omega⟩) ?_
      refine r_iload X (by rfl) dX3_alike_40 ?_
      refine r_isub X dX3_alike_42 ?_
      refine r_istore X (by decide) dX3_alike_43 ?_
      exact zW.loc9 (by rfl) (by rfl) (by rfl) (by rfl) (by rfl) (by rfl) (by rfl) (by rfl) (by rfl) (L45 h30 61 _ _ (by omega) hj)
  refine r_aload_n X (by rfl) dX3_alike_0 ?_
  refine r_getR X dX3_alike_1 zF_X3_27 hf6 hv0 ?_
  refine r_iload_n X (by rfl) dX3_alike_4 ?_
  refine r_iaload X dX3_alike_5 hv (vp_in_iff.mpr ⟨x0, by omega⟩) ?_
  refine r_aload_n X (by rfl) dX3_alike_6 ?_
  refine r_getR X dX3_alike_7 zF_X3_27 hg6 hw0 ?_
  refine r_iload_n X (by rfl) dX3_alike_10 ?_
  refine r_iaload X dX3_alike_11 hw (vp_in_iff.mpr ⟨y0, by omega⟩) ?_
  refine r_isub X dX3_alike_12 ?_
  refine r_istore X (by decide) dX3_alike_13 ?_
  refine r_iconst X 0 (by decide) dX3_alike_15 ?_
  refine r_istore X (by decide) dX3_alike_16 ?_
  refine r_iload_n X (by rfl) dX3_alike_18 ?_
  refine r_istore X (by decide) dX3_alike_19 ?_
  refine r_iload_n X (by rfl) dX3_alike_21 ?_
  refine r_istore X (by decide) dX3_alike_22 ?_
  exact zW.loc8 (by rfl) (by rfl) (by rfl) (by rfl) (by rfl) (by rfl) (by rfl) (by rfl) (L24 61 _ _ _ _ (by omega) x0 y0)
set_option maxHeartbeats 4000000 in
set_option maxRecDepth 100000 in
theorem c_X3_weigh (l : Launch) (G : zG) (z : Nat) (τ : Nat → Option (Nat × Nat)) (ρ : Nat → Nat → Option Nat) (ι : Nat → Nat → Int32) (κ : Nat → Nat → Int64) {a M3 : Nat} (ha : τ a = some (3, M3)) (x y : Int32) : zM l G yX3_weigh cX3_weigh 5 none ({ frames := 1, cells := 0, slots := 0, locals := 20 } : Room) [.ref a, .int x, .int y] (z, τ, ρ, ι, κ) (fun v s => v = none ∧ ∃ ι2, s = (z, τ, ρ, ι2, κ) ∧ ∀ b, b ≠ a → ι2 b = ι b) 0 0 := by
  refine zM_of zCd_X3_weigh (Nat.le_of_ble_eq_true rfl) ?_
  intro E X hR hE
  subst hE
  show zW E G 5 (z, τ, ρ, ι, κ) 0 0 0 [(0, .ref a), (1, .int x), (2, .int y)] []
  refine r_aload_n X (by rfl) dX3_weigh_0 ?_
  refine r_getI X dX3_weigh_1 zF_X3_7 ha ?_
  refine r_callS X dX3_weigh_4 zLS_X3_39 zCd_J9_abs_0f7a4 (c_abs _ G z τ ρ _ _ _) rfl rfl ⟨⟨rfl, rfl⟩, ⟨by decide, by decide⟩, ⟨Nat.le_of_ble_eq_true rfl, Nat.le_of_ble_eq_true rfl⟩, Nat.le_of_ble_eq_true rfl⟩ ?_
  rintro _ _ ⟨rfl, rfl⟩
  refine r_iload_n X (by rfl) dX3_weigh_7 ?_
  refine r_callS X dX3_weigh_8 zLS_X3_39 zCd_J9_abs_0f7a4 (c_abs _ G z τ ρ _ _ _) rfl rfl ⟨⟨rfl, rfl⟩, ⟨by decide, by decide⟩, ⟨Nat.le_of_ble_eq_true rfl, Nat.le_of_ble_eq_true rfl⟩, Nat.le_of_ble_eq_true rfl⟩ ?_
  rintro _ _ ⟨rfl, rfl⟩
  refine r_isub X dX3_weigh_11 ?_
  refine r_istore_n X (by decide) dX3_weigh_12 ?_
  refine r_iload_n X (by rfl) dX3_weigh_13 ?_
  refine r_if_gt X 29 dX3_weigh_14 (by decide) (fun h14 => ?_) (fun h14 => ?_)
  · refine r_iconst X 1 (by decide) dX3_weigh_29 ?_
    refine r_goto X 34 dX3_weigh_30 (by decide) ?_
    refine r_istore X (by decide) dX3_weigh_34 ?_
    refine r_iload_n X (by rfl) dX3_weigh_36 ?_
    refine r_aload_n X (by rfl) dX3_weigh_37 ?_
    refine r_getI X dX3_weigh_38 zF_X3_13 ha ?_
    refine r_icmp_gt X 57 dX3_weigh_41 (by decide) (fun h41 => ?_) (fun h41 => ?_)
    · refine r_aload_n X (by rfl) dX3_weigh_57 ?_
      refine r_iload_n X (by rfl) dX3_weigh_58 ?_
      refine r_putI X dX3_weigh_59 zF_X3_7 ha rfl rfl ?_
      refine r_aload_n X (by rfl) dX3_weigh_62 ?_
      refine r_iload_n X (by rfl) dX3_weigh_63 ?_
      refine r_putI X dX3_weigh_64 zF_X3_13 ha rfl rfl ?_
      refine r_return X hR dX3_weigh_67 (Nat.zero_le _) (Nat.zero_le _) ?_
      exact ⟨rfl, _, rfl, fun b hb => by simp only [zu_r hb]⟩
    · refine r_iload_n X (by rfl) dX3_weigh_44 ?_
      refine r_aload_n X (by rfl) dX3_weigh_45 ?_
      refine r_getI X dX3_weigh_46 zF_X3_13 ha ?_
      refine r_icmp_ne X 67 dX3_weigh_49 (by decide) (fun h49 => ?_) (fun h49 => ?_)
      · refine r_return X hR dX3_weigh_67 (Nat.zero_le _) (Nat.zero_le _) ?_
        exact ⟨rfl, _, rfl, fun b hb => by simp only [zu_r hb]⟩
      · refine r_iload X (by rfl) dX3_weigh_52 ?_
        refine r_if_eq X 67 dX3_weigh_54 (by decide) (fun h54 => ?_) (fun h54 => ?_)
        · refine r_return X hR dX3_weigh_67 (Nat.zero_le _) (Nat.zero_le _) ?_
          exact ⟨rfl, _, rfl, fun b hb => by simp only [zu_r hb]⟩
        · refine r_aload_n X (by rfl) dX3_weigh_57 ?_
          refine r_iload_n X (by rfl) dX3_weigh_58 ?_
          refine r_putI X dX3_weigh_59 zF_X3_7 ha rfl rfl ?_
          refine r_aload_n X (by rfl) dX3_weigh_62 ?_
          refine r_iload_n X (by rfl) dX3_weigh_63 ?_
          refine r_putI X dX3_weigh_64 zF_X3_13 ha rfl rfl ?_
          refine r_return X hR dX3_weigh_67 (Nat.zero_le _) (Nat.zero_le _) ?_
          exact ⟨rfl, _, rfl, fun b hb => by simp only [zu_r hb]⟩
  · refine r_iload_n X (by rfl) dX3_weigh_17 ?_
    refine r_if_ne X 33 dX3_weigh_18 (by decide) (fun h18 => ?_) (fun h18 => ?_)
    · refine r_iconst X 0 (by decide) dX3_weigh_33 ?_
      refine r_istore X (by decide) dX3_weigh_34 ?_
      refine r_iload_n X (by rfl) dX3_weigh_36 ?_
      refine r_aload_n X (by rfl) dX3_weigh_37 ?_
      refine r_getI X dX3_weigh_38 zF_X3_13 ha ?_
      refine r_icmp_gt X 57 dX3_weigh_41 (by decide) (fun h41 => ?_) (fun h41 => ?_)
      · refine r_aload_n X (by rfl) dX3_weigh_57 ?_
        refine r_iload_n X (by rfl) dX3_weigh_58 ?_
        refine r_putI X dX3_weigh_59 zF_X3_7 ha rfl rfl ?_
        refine r_aload_n X (by rfl) dX3_weigh_62 ?_
        refine r_iload_n X (by rfl) dX3_weigh_63 ?_
        refine r_putI X dX3_weigh_64 zF_X3_13 ha rfl rfl ?_
        refine r_return X hR dX3_weigh_67 (Nat.zero_le _) (Nat.zero_le _) ?_
        exact ⟨rfl, _, rfl, fun b hb => by simp only [zu_r hb]⟩
      · refine r_iload_n X (by rfl) dX3_weigh_44 ?_
        refine r_aload_n X (by rfl) dX3_weigh_45 ?_
        refine r_getI X dX3_weigh_46 zF_X3_13 ha ?_
        refine r_icmp_ne X 67 dX3_weigh_49 (by decide) (fun h49 => ?_) (fun h49 => ?_)
        · refine r_return X hR dX3_weigh_67 (Nat.zero_le _) (Nat.zero_le _) ?_
          exact ⟨rfl, _, rfl, fun b hb => by simp only [zu_r hb]⟩
        · refine r_iload X (by rfl) dX3_weigh_52 ?_
          refine r_if_eq X 67 dX3_weigh_54 (by decide) (fun h54 => ?_) (fun h54 => ?_)
          · refine r_return X hR dX3_weigh_67 (Nat.zero_le _) (Nat.zero_le _) ?_
            exact ⟨rfl, _, rfl, fun b hb => by simp only [zu_r hb]⟩
          · refine r_aload_n X (by rfl) dX3_weigh_57 ?_
            refine r_iload_n X (by rfl) dX3_weigh_58 ?_
            refine r_putI X dX3_weigh_59 zF_X3_7 ha rfl rfl ?_
            refine r_aload_n X (by rfl) dX3_weigh_62 ?_
            refine r_iload_n X (by rfl) dX3_weigh_63 ?_
            refine r_putI X dX3_weigh_64 zF_X3_13 ha rfl rfl ?_
            refine r_return X hR dX3_weigh_67 (Nat.zero_le _) (Nat.zero_le _) ?_
            exact ⟨rfl, _, rfl, fun b hb => by simp only [zu_r hb]⟩
    · refine r_iload_n X (by rfl) dX3_weigh_21 ?_
      refine r_aload_n X (by rfl) dX3_weigh_22 ?_
      refine r_getI X dX3_weigh_23 zF_X3_7 ha ?_
      refine r_icmp_le X 33 dX3_weigh_26 (by decide) (fun h26 => ?_) (fun h26 => ?_)
      · refine r_iconst X 0 (by decide) dX3_weigh_33 ?_
        refine r_istore X (by decide) dX3_weigh_34 ?_
        refine r_iload_n X (by rfl) dX3_weigh_36 ?_
        refine r_aload_n X (by rfl) dX3_weigh_37 ?_
        refine r_getI X dX3_weigh_38 zF_X3_13 ha ?_
        refine r_icmp_gt X 57 dX3_weigh_41 (by decide) (fun h41 => ?_) (fun h41 => ?_)
        · refine r_aload_n X (by rfl) dX3_weigh_57 ?_
          refine r_iload_n X (by rfl) dX3_weigh_58 ?_
          refine r_putI X dX3_weigh_59 zF_X3_7 ha rfl rfl ?_
          refine r_aload_n X (by rfl) dX3_weigh_62 ?_
          refine r_iload_n X (by rfl) dX3_weigh_63 ?_
          refine r_putI X dX3_weigh_64 zF_X3_13 ha rfl rfl ?_
          refine r_return X hR dX3_weigh_67 (Nat.zero_le _) (Nat.zero_le _) ?_
          exact ⟨rfl, _, rfl, fun b hb => by simp only [zu_r hb]⟩
        · refine r_iload_n X (by rfl) dX3_weigh_44 ?_
          refine r_aload_n X (by rfl) dX3_weigh_45 ?_
          refine r_getI X dX3_weigh_46 zF_X3_13 ha ?_
          refine r_icmp_ne X 67 dX3_weigh_49 (by decide) (fun h49 => ?_) (fun h49 => ?_)
          · refine r_return X hR dX3_weigh_67 (Nat.zero_le _) (Nat.zero_le _) ?_
            exact ⟨rfl, _, rfl, fun b hb => by simp only [zu_r hb]⟩
          · refine r_iload X (by rfl) dX3_weigh_52 ?_
            refine r_if_eq X 67 dX3_weigh_54 (by decide) (fun h54 => ?_) (fun h54 => ?_)
            · refine r_return X hR dX3_weigh_67 (Nat.zero_le _) (Nat.zero_le _) ?_
              exact ⟨rfl, _, rfl, fun b hb => by simp only [zu_r hb]⟩
            · refine r_aload_n X (by rfl) dX3_weigh_57 ?_
              refine r_iload_n X (by rfl) dX3_weigh_58 ?_
              refine r_putI X dX3_weigh_59 zF_X3_7 ha rfl rfl ?_
              refine r_aload_n X (by rfl) dX3_weigh_62 ?_
              refine r_iload_n X (by rfl) dX3_weigh_63 ?_
              refine r_putI X dX3_weigh_64 zF_X3_13 ha rfl rfl ?_
              refine r_return X hR dX3_weigh_67 (Nat.zero_le _) (Nat.zero_le _) ?_
              exact ⟨rfl, _, rfl, fun b hb => by simp only [zu_r hb]⟩
      · refine r_iconst X 1 (by decide) dX3_weigh_29 ?_
        refine r_goto X 34 dX3_weigh_30 (by decide) ?_
        refine r_istore X (by decide) dX3_weigh_34 ?_
        refine r_iload_n X (by rfl) dX3_weigh_36 ?_
        refine r_aload_n X (by rfl) dX3_weigh_37 ?_
        refine r_getI X dX3_weigh_38 zF_X3_13 ha ?_
        refine r_icmp_gt X 57 dX3_weigh_41 (by decide) (fun h41 => ?_) (fun h41 => ?_)
        · refine r_aload_n X (by rfl) dX3_weigh_57 ?_
          refine r_iload_n X (by rfl) dX3_weigh_58 ?_
          refine r_putI X dX3_weigh_59 zF_X3_7 ha rfl rfl ?_
          refine r_aload_n X (by rfl) dX3_weigh_62 ?_
          refine r_iload_n X (by rfl) dX3_weigh_63 ?_
          refine r_putI X dX3_weigh_64 zF_X3_13 ha rfl rfl ?_
          refine r_return X hR dX3_weigh_67 (Nat.zero_le _) (Nat.zero_le _) ?_
          exact ⟨rfl, _, rfl, fun b hb => by simp only [zu_r hb]⟩
        · refine r_iload_n X (by rfl) dX3_weigh_44 ?_
          refine r_aload_n X (by rfl) dX3_weigh_45 ?_
          refine r_getI X dX3_weigh_46 zF_X3_13 ha ?_
          refine r_icmp_ne X 67 dX3_weigh_49 (by decide) (fun h49 => ?_) (fun h49 => ?_)
          · refine r_return X hR dX3_weigh_67 (Nat.zero_le _) (Nat.zero_le _) ?_
            exact ⟨rfl, _, rfl, fun b hb => by simp only [zu_r hb]⟩
          · refine r_iload X (by rfl) dX3_weigh_52 ?_
            refine r_if_eq X 67 dX3_weigh_54 (by decide) (fun h54 => ?_) (fun h54 => ?_)
            · refine r_return X hR dX3_weigh_67 (Nat.zero_le _) (Nat.zero_le _) ?_
              exact ⟨rfl, _, rfl, fun b hb => by simp only [zu_r hb]⟩
            · refine r_aload_n X (by rfl) dX3_weigh_57 ?_
              refine r_iload_n X (by rfl) dX3_weigh_58 ?_
              refine r_putI X dX3_weigh_59 zF_X3_7 ha rfl rfl ?_
              refine r_aload_n X (by rfl) dX3_weigh_62 ?_
              refine r_iload_n X (by rfl) dX3_weigh_63 ?_
              refine r_putI X dX3_weigh_64 zF_X3_13 ha rfl rfl ?_
              refine r_return X hR dX3_weigh_67 (Nat.zero_le _) (Nat.zero_le _) ?_
              exact ⟨rfl, _, rfl, fun b hb => by simp only [zu_r hb]⟩
set_option maxHeartbeats 4000000 in
set_option maxRecDepth 100000 in
theorem c_X3_find (l : Launch) (G : zG) (z : Nat) (τ : Nat → Option (Nat × Nat)) (ρ : Nat → Nat → Option Nat) (ι : Nat → Nat → Int32) (κ : Nat → Nat → Int64) {f v g w M1 M2 : Nat} (hf6 : τ f = some (6, M1)) (hv0 : ρ f 0 = some v) (hv : τ v = some (13, 60)) (hg6 : τ g = some (6, M2)) (hw0 : ρ g 0 = some w) (hw : τ w = some (13, 60)) (n1 : (ι f 1).toInt ≤ 60) (n2 : (ι g 1).toInt ≤ 60) {a M3 : Nat} (ha : τ a = some (3, M3)) (hfa : f ≠ a) (hga : g ≠ a) : zM l G yX3_find cX3_find 5 none ({ frames := 2, cells := 0, slots := 0, locals := 44 } : Room) [.ref a, .ref f, .ref g] (z, τ, ρ, ι, κ) (fun v s => v = none ∧ ∃ ι2, s = (z, τ, ρ, ι2, κ) ∧ ∀ b, b ≠ a → ι2 b = ι b) 0 0 := by
  refine zM_of zCd_X3_find (Nat.le_of_ble_eq_true rfl) ?_
  intro E X hR hE
  subst hE
  show zW E G 5 (z, τ, ρ, ι, κ) 0 0 0 [(0, .ref a), (1, .ref f), (2, .ref g)] []
  have L12 : ∀ (m : Nat) (i : Int32) (ι1 : Nat → Nat → Int32), (60 - i.toInt).toNat < m → 0 ≤ i.toInt → (∀ b, b ≠ a → ι1 b = ι b) → zW E G 5 (z, τ, ρ, ι1, κ) 0 0 12 [(0, .ref a), (1, .ref f), (2, .ref g), (3, .int i)] [] := by
    intro m
    induction m with
    | zero => intro i ι1 h; omega
    | succ m ih => ?_
    intro i ι1 hm h0 hf
    have L23 : i.toInt < (ι f 1).toInt → ∀ (m2 : Nat) (j : Int32) (ι2 : Nat → Nat → Int32), (60 - j.toInt).toNat < m2 → 0 ≤ j.toInt → (∀ b, b ≠ a → ι2 b = ι b) → zW E G 5 (z, τ, ρ, ι2, κ) 0 0 23 [(0, .ref a), (1, .ref f), (2, .ref g), (3, .int i), (4, .int j)] [] := by
      intro hi m2
      induction m2 with
      | zero => intro j ι2 h; omega
      | succ m2 ih2 => ?_
      intro j ι2 hm2 hj hf2
      have h17 : i.toInt < (ι2 f 1).toInt := by rw [hf2 f hfa]; exact hi
      refine r_iload X (by rfl) dX3_find_23 ?_
      refine r_aload_n X (by rfl) dX3_find_25 ?_
      refine r_getI X dX3_find_26 zF_X3_16 hg6 ?_
      refine r_icmp_ge X 87 dX3_find_29 (by decide) (fun h29 => ?_) (fun h29 => ?_)
      · have h29b := h29
        rw [hf2 g hga] at h29b
        refine r_iinc X 1 (by decide) (by rfl) (by decide) dX3_find_87 ?_
        refine r_goto X 12 dX3_find_90 (by decide) ?_
        exact zW.loc4 (by rfl) (by rfl) (by rfl) (by rfl) (ih _ _ (by have e := zinc (x := i) (by omega); omega) (by have e := zinc (x := i) (by omega); omega) hf2)
      · have h29b := h29
        rw [hf2 g hga] at h29b
        refine r_aload_n X (by rfl) dX3_find_32 ?_
        refine r_getI X dX3_find_33 zF_X3_16 hf6 ?_
        refine r_iload_n X (by rfl) dX3_find_36 ?_
        refine r_isub X dX3_find_37 ?_
        refine r_aload_n X (by rfl) dX3_find_38 ?_
        refine r_getI X dX3_find_39 zF_X3_16 hg6 ?_
        refine r_iload X (by rfl) dX3_find_42 ?_
        refine r_isub X dX3_find_44 ?_
        refine r_callS X dX3_find_45 zLS_X3_21 zCd_J9_min_7cf53 (c_min _ G z τ ρ _ _ _ _) rfl rfl ⟨⟨rfl, rfl⟩, ⟨by decide, by decide⟩, ⟨Nat.le_of_ble_eq_true rfl, Nat.le_of_ble_eq_true rfl⟩, Nat.le_of_ble_eq_true rfl⟩ ?_
        rintro _ _ ⟨rfl, rfl⟩
        refine r_aload_n X (by rfl) dX3_find_48 ?_
        refine r_getI X dX3_find_49 zF_X3_13 ha ?_
        refine r_icmp_lt X 81 dX3_find_52 (by decide) (fun h52 => ?_) (fun h52 => ?_)
        · refine r_iinc X 1 (by decide) (by rfl) (by decide) dX3_find_81 ?_
          refine r_goto X 23 dX3_find_84 (by decide) ?_
          exact zW.loc5 (by rfl) (by rfl) (by rfl) (by rfl) (by rfl) (ih2 _ _ (by have e := zinc (x := j) (by omega); omega) (by have e := zinc (x := j) (by omega); omega) hf2)
        · refine r_aload_n X (by rfl) dX3_find_55 ?_
          refine r_aload_n X (by rfl) dX3_find_56 ?_
          refine r_getR X dX3_find_57 zF_X3_27 hf6 hv0 ?_
          refine r_iload_n X (by rfl) dX3_find_60 ?_
          refine r_iaload X dX3_find_61 hv (vp_in_iff.mpr ⟨h0, by omega⟩) ?_
          refine r_aload_n X (by rfl) dX3_find_62 ?_
          refine r_getR X dX3_find_63 zF_X3_27 hg6 hw0 ?_
          refine r_iload X (by rfl) dX3_find_66 ?_
          refine r_iaload X dX3_find_68 hw (vp_in_iff.mpr ⟨hj, by omega⟩) ?_
          refine r_isub X dX3_find_69 ?_
          refine r_aload_n X (by rfl) dX3_find_70 ?_
          refine r_iload_n X (by rfl) dX3_find_71 ?_
          refine r_aload_n X (by rfl) dX3_find_72 ?_
          refine r_iload X (by rfl) dX3_find_73 ?_
          refine r_callS X dX3_find_75 zLS_X3_31 zCd_X3_alike (c_X3_alike _ G z τ ρ _ _ hf6 hv0 hv hg6 hw0 hw (by rw [hf2 f hfa]; exact n1) (by rw [hf2 g hga]; exact n2) _ _ h0 h17 hj h29) rfl rfl ⟨⟨rfl, rfl⟩, ⟨by decide, by decide⟩, ⟨Nat.le_of_ble_eq_true rfl, Nat.le_of_ble_eq_true rfl⟩, Nat.le_of_ble_eq_true rfl⟩ ?_
          rintro _ _ ⟨r, rfl, rfl⟩
          refine r_callV X dX3_find_78 zLV_X3_35 zCd_X3_weigh (c_X3_weigh _ G z τ ρ _ _ ha _ _) ha ⟨by decide, rfl, rfl⟩ rfl rfl ⟨⟨rfl, rfl⟩, ⟨by decide, by decide⟩, ⟨Nat.le_of_ble_eq_true rfl, Nat.le_of_ble_eq_true rfl⟩, Nat.le_of_ble_eq_true rfl⟩ ?_
          rintro _ _ ⟨rfl, ι3, rfl, hf3⟩
          have hf2 : ∀ b, b ≠ a → ι3 b = ι b := fun b hb => by rw [hf3 b hb]; exact hf2 b hb
          refine r_iinc X 1 (by decide) (by rfl) (by decide) dX3_find_81 ?_
          refine r_goto X 23 dX3_find_84 (by decide) ?_
          exact zW.loc5 (by rfl) (by rfl) (by rfl) (by rfl) (by rfl) (ih2 _ _ (by have e := zinc (x := j) (by omega); omega) (by have e := zinc (x := j) (by omega); omega) hf2)
    refine r_iload_n X (by rfl) dX3_find_12 ?_
    refine r_aload_n X (by rfl) dX3_find_13 ?_
    refine r_getI X dX3_find_14 zF_X3_16 hf6 ?_
    refine r_icmp_ge X 93 dX3_find_17 (by decide) (fun h17 => ?_) (fun h17 => ?_)
    · rw [hf f hfa] at h17
      refine r_return X hR dX3_find_93 (Nat.zero_le _) (Nat.zero_le _) ?_
      exact ⟨rfl, _, rfl, hf⟩
    · have h17b := h17
      rw [hf f hfa] at h17b
      refine r_iconst X 0 (by decide) dX3_find_20 ?_
      refine r_istore X (by decide) dX3_find_21 ?_
      exact zW.loc5 (by rfl) (by rfl) (by rfl) (by rfl) (by rfl) (L23 (by rw [hf f hfa] at h17; exact h17) 61 _ _ (by decide) (by decide) hf)
  refine r_aload_n X (by rfl) dX3_find_0 ?_
  refine r_iconst X 0 (by decide) dX3_find_1 ?_
  refine r_putI X dX3_find_2 zF_X3_13 ha rfl rfl ?_
  refine r_aload_n X (by rfl) dX3_find_5 ?_
  refine r_iconst X 0 (by decide) dX3_find_6 ?_
  refine r_putI X dX3_find_7 zF_X3_7 ha rfl rfl ?_
  refine r_iconst X 0 (by decide) dX3_find_10 ?_
  refine r_istore_n X (by decide) dX3_find_11 ?_
  exact zW.loc4 (by rfl) (by rfl) (by rfl) (by rfl) (L12 61 _ _ (by decide) (by decide) (fun b hb => by simp only [zu_r hb]))
set_option maxHeartbeats 4000000 in
set_option maxRecDepth 100000 in
theorem c_X7_placeOf (l : Launch) (G : zG) (z : Nat) (τ : Nat → Option (Nat × Nat)) (ρ : Nat → Nat → Option Nat) (ι : Nat → Nat → Int32) (κ : Nat → Nat → Int64) {lg hi lo te to bo M1 M2 M3 M4 : Nat} (hτl : τ lg = some (2, M1)) (hρ0 : ρ lg 0 = some hi) (hρ1 : ρ lg 1 = some lo) (hρ2 : ρ lg 2 = some te) (hρ3 : ρ lg 3 = some to) (hρ4 : ρ lg 4 = some bo) (hhi : τ hi = some (1000, 900)) (hlo : τ lo = some (1001, 900)) (hte : τ te = some (10, M2)) (hto : τ to = some (10, M3)) (hbo : τ bo = some (10, M4)) (dte : te ≠ to) (dtb : te ≠ bo) {a M5 : Nat} (ha : τ a = some (7, M5)) (x y : Int32) : zM l G yX7_placeOf cX7_placeOf 5 (some .int) ({ frames := 4, cells := 0, slots := 0, locals := 102 } : Room) [.ref a, .int x, .int y, .ref lg] (z, τ, ρ, ι, κ) (fun v s => ∃ r κ2, v = some (.int r) ∧ s = (z, τ, ρ, ι, κ2)) 0 0 := by
  refine zM_of zCd_X7_placeOf (Nat.le_of_ble_eq_true rfl) ?_
  intro E X hR hE
  subst hE
  show zW E G 5 (z, τ, ρ, ι, κ) 0 0 0 [(0, .ref a), (1, .int x), (2, .int y), (3, .ref lg)] []
  refine r_aload_n X (by rfl) dX7_placeOf_0 ?_
  refine r_iload_n X (by rfl) dX7_placeOf_1 ?_
  refine r_iload_n X (by rfl) dX7_placeOf_2 ?_
  refine r_aload_n X (by rfl) dX7_placeOf_3 ?_
  refine r_getI X dX7_placeOf_4 zF_X7_47 ha ?_
  refine r_aload_n X (by rfl) dX7_placeOf_7 ?_
  refine r_getI X dX7_placeOf_8 zF_X7_50 ha ?_
  refine r_callV X dX7_placeOf_11 zLV_X7_56 zCd_X2_placeOf (c_X2_placeOf _ G z τ ρ _ _ hτl hρ0 hρ1 hρ2 hρ3 hρ4 hhi hlo hte hto hbo dte dtb _ _ _ _) hτl ⟨by decide, rfl, rfl⟩ rfl rfl ⟨⟨rfl, rfl⟩, ⟨by decide, by decide⟩, ⟨Nat.le_of_ble_eq_true rfl, Nat.le_of_ble_eq_true rfl⟩, Nat.le_of_ble_eq_true rfl⟩ ?_
  rintro _ _ ⟨r, κ1, rfl, rfl⟩
  refine r_istore X (by decide) dX7_placeOf_14 ?_
  refine r_aload_n X (by rfl) dX7_placeOf_16 ?_
  refine r_getI X dX7_placeOf_17 zF_X7_53 ha ?_
  refine r_if_eq X 30 dX7_placeOf_20 (by decide) (fun h20 => ?_) (fun h20 => ?_)
  · refine r_iload X (by rfl) dX7_placeOf_30 ?_
    refine r_ireturn X hR dX7_placeOf_32 rfl (Nat.zero_le _) (Nat.zero_le _) ?_
    exact ⟨_, _, rfl, rfl⟩
  · refine r_iload_n X (by rfl) dX7_placeOf_23 ?_
    refine r_iload X (by rfl) dX7_placeOf_24 ?_
    refine r_isub X dX7_placeOf_26 ?_
    refine r_goto X 32 dX7_placeOf_27 (by decide) ?_
    refine r_ireturn X hR dX7_placeOf_32 rfl (Nat.zero_le _) (Nat.zero_le _) ?_
    exact ⟨_, _, rfl, rfl⟩
set_option maxHeartbeats 4000000 in
set_option maxRecDepth 100000 in
theorem c_X7_lastTo (l : Launch) (G : zG) (z : Nat) (τ : Nat → Option (Nat × Nat)) (ρ : Nat → Nat → Option Nat) (ι : Nat → Nat → Int32) (κ : Nat → Nat → Int64) {a mk v fr ts ea pc M5 M6 : Nat} (ha : τ a = some (7, M5)) (g4 : ρ a 4 = some mk) (g6 : ρ a 6 = some fr) (g7 : ρ a 7 = some ts) (g8 : ρ a 8 = some ea) (g9 : ρ a 9 = some pc) (hmk : τ mk = some (6, M6)) (hv0 : ρ mk 0 = some v) (hv : τ v = some (13, 400)) (hfr : τ fr = some (13, 4)) (hto2 : τ ts = some (13, 4)) (hea : τ ea = some (13, 4)) (hpc : τ pc = some (13, 400)) (p1 : (ι a 5).toInt ≤ 4) : zM l G yX7_lastTo cX7_lastTo 1 (some .int) ({ frames := 0, cells := 0, slots := 0, locals := 0 } : Room) [.ref a] (z, τ, ρ, ι, κ) (fun v0 s => v0 = some (.int (if 0 < (ι a 5).toInt then ι ts (ι a 5 - 1).toNatClampNeg else 0)) ∧ s = (z, τ, ρ, ι, κ)) 0 0 := by
  refine zM_of zCd_X7_lastTo (Nat.le_of_ble_eq_true rfl) ?_
  intro E X hR hE
  subst hE
  show zW E G 1 (z, τ, ρ, ι, κ) 0 0 0 [(0, .ref a)] []
  refine r_aload_n X (by rfl) dX7_lastTo_0 ?_
  refine r_getI X dX7_lastTo_1 zF_X7_20 ha ?_
  refine r_if_le X 21 dX7_lastTo_4 (by decide) (fun h4 => ?_) (fun h4 => ?_)
  · refine r_iconst X 0 (by decide) dX7_lastTo_21 ?_
    refine r_ireturn X hR dX7_lastTo_22 rfl (Nat.zero_le _) (Nat.zero_le _) ?_
    exact ⟨by first | rw [if_pos (by omega)] | rw [if_neg (by omega)], rfl⟩
  · refine r_aload_n X (by rfl) dX7_lastTo_7 ?_
    refine r_getR X dX7_lastTo_8 zF_X7_28 ha g7 ?_
    refine r_aload_n X (by rfl) dX7_lastTo_11 ?_
    refine r_getI X dX7_lastTo_12 zF_X7_20 ha ?_
    refine r_iconst X 1 (by decide) dX7_lastTo_15 ?_
    refine r_isub X dX7_lastTo_16 ?_
    refine r_iaload X dX7_lastTo_17 hto2 (vp_in_iff.mpr (by have e := zsub1 h4; omega)) ?_
    refine r_goto X 22 dX7_lastTo_18 (by decide) ?_
    refine r_ireturn X hR dX7_lastTo_22 rfl (Nat.zero_le _) (Nat.zero_le _) ?_
    exact ⟨by first | rw [if_pos (by omega)] | rw [if_neg (by omega)], rfl⟩
set_option maxHeartbeats 4000000 in
set_option maxRecDepth 100000 in
theorem c_X7_hasRoomFor (l : Launch) (G : zG) (z : Nat) (τ : Nat → Option (Nat × Nat)) (ρ : Nat → Nat → Option Nat) (ι : Nat → Nat → Int32) (κ : Nat → Nat → Int64) {a mk v fr ts ea pc M5 M6 : Nat} (ha : τ a = some (7, M5)) (g4 : ρ a 4 = some mk) (g6 : ρ a 6 = some fr) (g7 : ρ a 7 = some ts) (g8 : ρ a 8 = some ea) (g9 : ρ a 9 = some pc) (hmk : τ mk = some (6, M6)) (hv0 : ρ mk 0 = some v) (hv : τ v = some (13, 400)) (hfr : τ fr = some (13, 4)) (hto2 : τ ts = some (13, 4)) (hea : τ ea = some (13, 4)) (hpc : τ pc = some (13, 400)) (n0 : 0 ≤ (ι mk 1).toInt) (n1 : (ι mk 1).toInt ≤ 400) (x : Int32) : zM l G yX7_hasRoomFor cX7_hasRoomFor 2 (some .boolean) ({ frames := 0, cells := 0, slots := 0, locals := 0 } : Room) [.ref a, .int x] (z, τ, ρ, ι, κ) (fun v0 s => v0 = some (.int (if (ι a 5).toInt < 4 ∧ x.toInt ≤ 400 - (ι mk 1).toInt then 1 else 0)) ∧ s = (z, τ, ρ, ι, κ)) 0 0 := by
  refine zM_of zCd_X7_hasRoomFor (Nat.le_of_ble_eq_true rfl) ?_
  intro E X hR hE
  subst hE
  show zW E G 2 (z, τ, ρ, ι, κ) 0 0 0 [(0, .ref a), (1, .int x)] []
  refine r_aload_n X (by rfl) dX7_hasRoomFor_0 ?_
  refine r_getI X dX7_hasRoomFor_1 zF_X7_20 ha ?_
  refine r_iconst X 4 (by decide) dX7_hasRoomFor_4 ?_
  refine r_icmp_ge X 27 dX7_hasRoomFor_5 (by decide) (fun h5 => ?_) (fun h5 => ?_)
  · rw [show Int32.toInt 4 = 4 from rfl] at h5
    refine r_iconst X 0 (by decide) dX7_hasRoomFor_27 ?_
    refine r_ireturn X hR dX7_hasRoomFor_28 rfl (Nat.zero_le _) (Nat.zero_le _) ?_
    exact ⟨by first | rw [if_pos (by omega)] | rw [if_neg (by omega)], rfl⟩
  · rw [show Int32.toInt 4 = 4 from rfl] at h5
    have es := zsubI (x := 400) (y := ι mk 1) (by rw [show (400 : Int32).toInt = 400 from rfl]; omega) (by rw [show (400 : Int32).toInt = 400 from rfl]; omega)
    rw [show (400 : Int32).toInt = 400 from rfl] at es
    refine r_iload_n X (by rfl) dX7_hasRoomFor_8 ?_
    refine r_sipush X 400 (by decide) dX7_hasRoomFor_9 ?_
    refine r_aload_n X (by rfl) dX7_hasRoomFor_12 ?_
    refine r_getR X dX7_hasRoomFor_13 zF_X7_16 ha g4 ?_
    refine r_getI X dX7_hasRoomFor_16 zF_X7_62 hmk ?_
    refine r_isub X dX7_hasRoomFor_19 ?_
    refine r_icmp_gt X 27 dX7_hasRoomFor_20 (by decide) (fun h20 => ?_) (fun h20 => ?_)
    · refine r_iconst X 0 (by decide) dX7_hasRoomFor_27 ?_
      refine r_ireturn X hR dX7_hasRoomFor_28 rfl (Nat.zero_le _) (Nat.zero_le _) ?_
      exact ⟨by first | rw [if_pos (by omega)] | rw [if_neg (by omega)], rfl⟩
    · refine r_iconst X 1 (by decide) dX7_hasRoomFor_23 ?_
      refine r_goto X 28 dX7_hasRoomFor_24 (by decide) ?_
      refine r_ireturn X hR dX7_hasRoomFor_28 rfl (Nat.zero_le _) (Nat.zero_le _) ?_
      exact ⟨by first | rw [if_pos (by omega)] | rw [if_neg (by omega)], rfl⟩
set_option maxHeartbeats 4000000 in
set_option maxRecDepth 100000 in
theorem c_X7_numberAt (l : Launch) (G : zG) (z : Nat) (τ : Nat → Option (Nat × Nat)) (ρ : Nat → Nat → Option Nat) (ι : Nat → Nat → Int32) (κ : Nat → Nat → Int64) {a mk v fr ts ea pc M5 M6 : Nat} (ha : τ a = some (7, M5)) (g4 : ρ a 4 = some mk) (g6 : ρ a 6 = some fr) (g7 : ρ a 7 = some ts) (g8 : ρ a 8 = some ea) (g9 : ρ a 9 = some pc) (hmk : τ mk = some (6, M6)) (hv0 : ρ mk 0 = some v) (hv : τ v = some (13, 400)) (hfr : τ fr = some (13, 4)) (hto2 : τ ts = some (13, 4)) (hea : τ ea = some (13, 4)) (hpc : τ pc = some (13, 400)) (n0 : 0 ≤ (ι mk 1).toInt) (n1 : (ι mk 1).toInt ≤ 400) (x : Int32) : zM l G yX7_numberAt cX7_numberAt 2 (some .int) ({ frames := 0, cells := 0, slots := 0, locals := 0 } : Room) [.ref a, .int x] (z, τ, ρ, ι, κ) (fun v0 s => v0 = some (.int (if 0 ≤ x.toInt ∧ x.toInt < (ι mk 1).toInt then ι v x.toNatClampNeg else -1)) ∧ s = (z, τ, ρ, ι, κ)) 0 0 := by
  refine zM_of zCd_X7_numberAt (Nat.le_of_ble_eq_true rfl) ?_
  intro E X hR hE
  subst hE
  show zW E G 2 (z, τ, ρ, ι, κ) 0 0 0 [(0, .ref a), (1, .int x)] []
  refine r_iload_n X (by rfl) dX7_numberAt_0 ?_
  refine r_if_lt X 27 dX7_numberAt_1 (by decide) (fun h1 => ?_) (fun h1 => ?_)
  · refine r_iconst X (-1) (by decide) dX7_numberAt_27 ?_
    refine r_ireturn X hR dX7_numberAt_28 rfl (Nat.zero_le _) (Nat.zero_le _) ?_
    exact ⟨by first | rw [if_pos (by omega)] | rw [if_neg (by omega)], rfl⟩
  · refine r_iload_n X (by rfl) dX7_numberAt_4 ?_
    refine r_aload_n X (by rfl) dX7_numberAt_5 ?_
    refine r_getR X dX7_numberAt_6 zF_X7_16 ha g4 ?_
    refine r_getI X dX7_numberAt_9 zF_X7_62 hmk ?_
    refine r_icmp_ge X 27 dX7_numberAt_12 (by decide) (fun h12 => ?_) (fun h12 => ?_)
    · refine r_iconst X (-1) (by decide) dX7_numberAt_27 ?_
      refine r_ireturn X hR dX7_numberAt_28 rfl (Nat.zero_le _) (Nat.zero_le _) ?_
      exact ⟨by first | rw [if_pos (by omega)] | rw [if_neg (by omega)], rfl⟩
    · refine r_aload_n X (by rfl) dX7_numberAt_15 ?_
      refine r_getR X dX7_numberAt_16 zF_X7_16 ha g4 ?_
      refine r_getR X dX7_numberAt_19 zF_X7_73 hmk hv0 ?_
      refine r_iload_n X (by rfl) dX7_numberAt_22 ?_
      refine r_iaload X dX7_numberAt_23 hv (vp_in_iff.mpr ⟨h1, by omega⟩) ?_
      refine r_goto X 28 dX7_numberAt_24 (by decide) ?_
      refine r_ireturn X hR dX7_numberAt_28 rfl (Nat.zero_le _) (Nat.zero_le _) ?_
      exact ⟨by first | rw [if_pos (by omega)] | rw [if_neg (by omega)], rfl⟩
set_option maxHeartbeats 4000000 in
set_option maxRecDepth 100000 in
theorem c_X7_placeMarks (l : Launch) (G : zG) (z : Nat) (τ : Nat → Option (Nat × Nat)) (ρ : Nat → Nat → Option Nat) (ι : Nat → Nat → Int32) (κ : Nat → Nat → Int64) {lg hi lo te to bo M1 M2 M3 M4 : Nat} (hτl : τ lg = some (2, M1)) (hρ0 : ρ lg 0 = some hi) (hρ1 : ρ lg 1 = some lo) (hρ2 : ρ lg 2 = some te) (hρ3 : ρ lg 3 = some to) (hρ4 : ρ lg 4 = some bo) (hhi : τ hi = some (1000, 900)) (hlo : τ lo = some (1001, 900)) (hte : τ te = some (10, M2)) (hto : τ to = some (10, M3)) (hbo : τ bo = some (10, M4)) (dte : te ≠ to) (dtb : te ≠ bo) {a mk v fr ts ea pc M5 M6 : Nat} (ha : τ a = some (7, M5)) (g4 : ρ a 4 = some mk) (g6 : ρ a 6 = some fr) (g7 : ρ a 7 = some ts) (g8 : ρ a 8 = some ea) (g9 : ρ a 9 = some pc) (hmk : τ mk = some (6, M6)) (hv0 : ρ mk 0 = some v) (hv : τ v = some (13, 400)) (hfr : τ fr = some (13, 4)) (hto2 : τ ts = some (13, 4)) (hea : τ ea = some (13, 4)) (hpc : τ pc = some (13, 400)) (n0 : 0 ≤ (ι mk 1).toInt) (n1 : (ι mk 1).toInt ≤ 400) (hmka : mk ≠ a) (hmkp : mk ≠ pc) (hpa : pc ≠ a) (x : Int32) (q0 : 0 ≤ (ι a 10).toInt) (q1 : (ι a 10).toInt ≤ (ι mk 1).toInt) : zM l G yX7_placeMarks cX7_placeMarks 3 none ({ frames := 5, cells := 0, slots := 0, locals := 126 } : Room) [.ref a, .int x, .ref lg] (z, τ, ρ, ι, κ) (fun v0 s => v0 = none ∧ ∃ ι2 κ2, s = (z, τ, ρ, ι2, κ2) ∧ (∀ b, b ≠ a → b ≠ pc → ι2 b = ι b) ∧ (∀ k, k ≠ 10 → k ≠ 11 → ι2 a k = ι a k) ∧ 0 ≤ (ι2 a 10).toInt ∧ (ι2 a 10).toInt ≤ (ι mk 1).toInt) 0 0 := by
  refine zM_of zCd_X7_placeMarks (Nat.le_of_ble_eq_true rfl) ?_
  intro E X hR hE
  subst hE
  show zW E G 3 (z, τ, ρ, ι, κ) 0 0 0 [(0, .ref a), (1, .int x), (2, .ref lg)] []
  have L18 : ∀ (m : Nat) (ι1 : Nat → Nat → Int32) (κ1 : Nat → Nat → Int64), (400 - (ι1 a 10).toInt).toNat < m → (∀ b, b ≠ a → b ≠ pc → ι1 b = ι b) ∧ (∀ k, k ≠ 10 → k ≠ 11 → ι1 a k = ι a k) ∧ 0 ≤ (ι1 a 10).toInt ∧ (ι1 a 10).toInt ≤ (ι mk 1).toInt → zW E G 3 (z, τ, ρ, ι1, κ1) 0 0 18 [(0, .ref a), (1, .int x), (2, .ref lg)] [] := by
    intro m
    induction m with
    | zero => intro ι1 κ1 h; omega
    | succ m ih => ?_
    intro ι1 κ1 hm ⟨hf, hg, p0, p1⟩
    have hms : ι1 mk 1 = ι mk 1 := by rw [hf mk hmka hmkp]
    refine r_aload_n X (by rfl) dX7_placeMarks_18 ?_
    refine r_getI X dX7_placeMarks_19 zF_X7_37 ha ?_
    refine r_aload_n X (by rfl) dX7_placeMarks_22 ?_
    refine r_getR X dX7_placeMarks_23 zF_X7_16 ha g4 ?_
    refine r_getI X dX7_placeMarks_26 zF_X7_62 hmk ?_
    refine r_icmp_ge X 72 dX7_placeMarks_29 (by decide) (fun h29 => ?_) (fun h29 => ?_)
    · rw [hms] at h29
      refine r_return X hR dX7_placeMarks_72 (Nat.zero_le _) (Nat.zero_le _) ?_
      exact ⟨rfl, _, _, rfl, hf, hg, p0, p1⟩
    · rw [hms] at h29
      refine r_aload_n X (by rfl) dX7_placeMarks_32 ?_
      refine r_getR X dX7_placeMarks_33 zF_X7_34 ha g9 ?_
      refine r_aload_n X (by rfl) dX7_placeMarks_36 ?_
      refine r_getI X dX7_placeMarks_37 zF_X7_37 ha ?_
      refine r_aload_n X (by rfl) dX7_placeMarks_40 ?_
      refine r_aload_n X (by rfl) dX7_placeMarks_41 ?_
      refine r_getR X dX7_placeMarks_42 zF_X7_16 ha g4 ?_
      refine r_getR X dX7_placeMarks_45 zF_X7_73 hmk hv0 ?_
      refine r_aload_n X (by rfl) dX7_placeMarks_48 ?_
      refine r_getI X dX7_placeMarks_49 zF_X7_37 ha ?_
      refine r_iaload X dX7_placeMarks_52 hv (vp_in_iff.mpr ⟨p0, by omega⟩) ?_
      refine r_iload_n X (by rfl) dX7_placeMarks_53 ?_
      refine r_aload_n X (by rfl) dX7_placeMarks_54 ?_
      refine r_callV X dX7_placeMarks_55 zLV_X7_76 zCd_X7_placeOf (c_X7_placeOf _ G z τ ρ _ _ hτl hρ0 hρ1 hρ2 hρ3 hρ4 hhi hlo hte hto hbo dte dtb ha _ _) ha ⟨by decide, rfl, rfl⟩ rfl rfl ⟨⟨rfl, rfl⟩, ⟨by decide, by decide⟩, ⟨Nat.le_of_ble_eq_true rfl, Nat.le_of_ble_eq_true rfl⟩, Nat.le_of_ble_eq_true rfl⟩ ?_
      rintro _ _ ⟨r, κ2, rfl, rfl⟩
      refine r_iastore X dX7_placeMarks_58 hpc (vp_in_iff.mpr ⟨p0, by omega⟩) ?_
      refine r_aload_n X (by rfl) dX7_placeMarks_59 ?_
      refine r_dup X rfl dX7_placeMarks_60 ?_
      refine r_getI X dX7_placeMarks_61 zF_X7_37 ha ?_
      refine r_iconst X 1 (by decide) dX7_placeMarks_64 ?_
      refine r_iadd X dX7_placeMarks_65 ?_
      refine r_putI X dX7_placeMarks_66 zF_X7_37 ha rfl rfl ?_
      refine r_goto X 18 dX7_placeMarks_69 (by decide) ?_
      exact zW.loc3 (by rfl) (by rfl) (by rfl) (ih _ _ (by rw [zu_s, zu_a (Ne.symm hpa)]; have e := zinc (x := ι1 a 10) (by omega); omega) ⟨fun b g1 g2 => by rw [zu_r g1, zu_r g2]; exact hf b g1 g2, fun k g1 g2 => by rw [zu_k g1, zu_a (Ne.symm hpa)]; exact hg k g1 g2, by rw [zu_s, zu_a (Ne.symm hpa)]; have e := zinc (x := ι1 a 10) (by omega); omega, by rw [zu_s, zu_a (Ne.symm hpa)]; have e := zinc (x := ι1 a 10) (by omega); omega⟩)
  refine r_aload_n X (by rfl) dX7_placeMarks_0 ?_
  refine r_getI X dX7_placeMarks_1 zF_X7_40 ha ?_
  refine r_iload_n X (by rfl) dX7_placeMarks_4 ?_
  refine r_icmp_eq X 18 dX7_placeMarks_5 (by decide) (fun h5 => ?_) (fun h5 => ?_)
  · exact zW.loc3 (by rfl) (by rfl) (by rfl) (L18 401 _ _ (by first | (rw [zu_s]; decide) | omega) (by first | exact ⟨fun _ _ _ => rfl, fun _ _ _ => rfl, q0, q1⟩ | exact ⟨fun b g1 _ => by simp only [zu_r g1], fun k g1 g2 => by rw [zu_k g1, zu_k g2], by rw [zu_s]; decide, by rw [zu_s]; exact n0⟩))
  · refine r_aload_n X (by rfl) dX7_placeMarks_8 ?_
    refine r_iload_n X (by rfl) dX7_placeMarks_9 ?_
    refine r_putI X dX7_placeMarks_10 zF_X7_40 ha rfl rfl ?_
    refine r_aload_n X (by rfl) dX7_placeMarks_13 ?_
    refine r_iconst X 0 (by decide) dX7_placeMarks_14 ?_
    refine r_putI X dX7_placeMarks_15 zF_X7_37 ha rfl rfl ?_
    exact zW.loc3 (by rfl) (by rfl) (by rfl) (L18 401 _ _ (by first | (rw [zu_s]; decide) | omega) (by first | exact ⟨fun _ _ _ => rfl, fun _ _ _ => rfl, q0, q1⟩ | exact ⟨fun b g1 _ => by simp only [zu_r g1], fun k g1 g2 => by rw [zu_k g1, zu_k g2], by rw [zu_s]; decide, by rw [zu_s]; exact n0⟩))
set_option maxHeartbeats 4000000 in
set_option maxRecDepth 100000 in
theorem c_X7_gapBehind (l : Launch) (G : zG) (z : Nat) (τ : Nat → Option (Nat × Nat)) (ρ : Nat → Nat → Option Nat) (ι : Nat → Nat → Int32) (κ : Nat → Nat → Int64) {a mk v fr ts ea pc M5 M6 : Nat} (ha : τ a = some (7, M5)) (g4 : ρ a 4 = some mk) (g6 : ρ a 6 = some fr) (g7 : ρ a 7 = some ts) (g8 : ρ a 8 = some ea) (g9 : ρ a 9 = some pc) (hmk : τ mk = some (6, M6)) (hv0 : ρ mk 0 = some v) (hv : τ v = some (13, 400)) (hfr : τ fr = some (13, 4)) (hto2 : τ ts = some (13, 4)) (hea : τ ea = some (13, 4)) (hpc : τ pc = some (13, 400)) (n0 : 0 ≤ (ι mk 1).toInt) (n1 : (ι mk 1).toInt ≤ 400) (x : Int32) (x1 : x.toInt ≤ 1000) : zM l G yX7_gapBehind cX7_gapBehind 2 (some .int) ({ frames := 1, cells := 0, slots := 0, locals := 20 } : Room) [.ref a, .int x] (z, τ, ρ, ι, κ) (fun v s => ∃ r, v = some (.int r) ∧ s = (z, τ, ρ, ι, κ)) 0 0 := by
  refine zM_of zCd_X7_gapBehind (Nat.le_of_ble_eq_true rfl) ?_
  intro E X hR hE
  subst hE
  show zW E G 2 (z, τ, ρ, ι, κ) 0 0 0 [(0, .ref a), (1, .int x)] []
  refine r_iload_n X (by rfl) dX7_gapBehind_0 ?_
  refine r_if_lt X 38 dX7_gapBehind_1 (by decide) (fun h1 => ?_) (fun h1 => ?_)
  · refine r_iconst X (-1) (by decide) dX7_gapBehind_38 ?_
    refine r_ireturn X hR dX7_gapBehind_39 rfl (Nat.zero_le _) (Nat.zero_le _) ?_
    exact ⟨_, rfl, rfl⟩
  · have e := zinc (x := x) (by omega)
    refine r_iload_n X (by rfl) dX7_gapBehind_4 ?_
    refine r_iconst X 1 (by decide) dX7_gapBehind_5 ?_
    refine r_iadd X dX7_gapBehind_6 ?_
    refine r_aload_n X (by rfl) dX7_gapBehind_7 ?_
    refine r_getR X dX7_gapBehind_8 zF_X7_16 ha g4 ?_
    refine r_getI X dX7_gapBehind_11 zF_X7_62 hmk ?_
    refine r_icmp_ge X 38 dX7_gapBehind_14 (by decide) (fun h14 => ?_) (fun h14 => ?_)
    · refine r_iconst X (-1) (by decide) dX7_gapBehind_38 ?_
      refine r_ireturn X hR dX7_gapBehind_39 rfl (Nat.zero_le _) (Nat.zero_le _) ?_
      exact ⟨_, rfl, rfl⟩
    · refine r_aload_n X (by rfl) dX7_gapBehind_17 ?_
      refine r_getR X dX7_gapBehind_18 zF_X7_34 ha g9 ?_
      refine r_iload_n X (by rfl) dX7_gapBehind_21 ?_
      refine r_iconst X 1 (by decide) dX7_gapBehind_22 ?_
      refine r_iadd X dX7_gapBehind_23 ?_
      refine r_iaload X dX7_gapBehind_24 hpc (vp_in_iff.mpr (by omega)) ?_
      refine r_aload_n X (by rfl) dX7_gapBehind_25 ?_
      refine r_getR X dX7_gapBehind_26 zF_X7_34 ha g9 ?_
      refine r_iload_n X (by rfl) dX7_gapBehind_29 ?_
      refine r_iaload X dX7_gapBehind_30 hpc (vp_in_iff.mpr (by omega)) ?_
      refine r_isub X dX7_gapBehind_31 ?_
      refine r_callS X dX7_gapBehind_32 zLS_X7_79 zCd_J9_abs_0f7a4 (c_abs _ G z τ ρ _ _ _) rfl rfl ⟨⟨rfl, rfl⟩, ⟨by decide, by decide⟩, ⟨Nat.le_of_ble_eq_true rfl, Nat.le_of_ble_eq_true rfl⟩, Nat.le_of_ble_eq_true rfl⟩ ?_
      rintro _ _ ⟨rfl, rfl⟩
      refine r_goto X 39 dX7_gapBehind_35 (by decide) ?_
      refine r_ireturn X hR dX7_gapBehind_39 rfl (Nat.zero_le _) (Nat.zero_le _) ?_
      exact ⟨_, rfl, rfl⟩
set_option maxHeartbeats 4000000 in
set_option maxRecDepth 100000 in
theorem c_X7_firstOfClosest (l : Launch) (G : zG) (z : Nat) (τ : Nat → Option (Nat × Nat)) (ρ : Nat → Nat → Option Nat) (ι : Nat → Nat → Int32) (κ : Nat → Nat → Int64) {a mk v fr ts ea pc M5 M6 : Nat} (ha : τ a = some (7, M5)) (g4 : ρ a 4 = some mk) (g6 : ρ a 6 = some fr) (g7 : ρ a 7 = some ts) (g8 : ρ a 8 = some ea) (g9 : ρ a 9 = some pc) (hmk : τ mk = some (6, M6)) (hv0 : ρ mk 0 = some v) (hv : τ v = some (13, 400)) (hfr : τ fr = some (13, 4)) (hto2 : τ ts = some (13, 4)) (hea : τ ea = some (13, 4)) (hpc : τ pc = some (13, 400)) (n0 : 0 ≤ (ι mk 1).toInt) (n1 : (ι mk 1).toInt ≤ 400) : zM l G yX7_firstOfClosest cX7_firstOfClosest 3 (some .int) ({ frames := 2, cells := 0, slots := 0, locals := 41 } : Room) [.ref a] (z, τ, ρ, ι, κ) (fun v s => ∃ r, v = some (.int r) ∧ r.toInt ≤ 400 ∧ s = (z, τ, ρ, ι, κ)) 0 0 := by
  refine zM_of zCd_X7_firstOfClosest (Nat.le_of_ble_eq_true rfl) ?_
  intro E X hR hE
  subst hE
  show zW E G 3 (z, τ, ρ, ι, κ) 0 0 0 [(0, .ref a)] []
  have L19 : ∀ (m : Nat) (i p : Int32), (400 - i.toInt).toNat < m → 1 ≤ i.toInt → i.toInt ≤ 1000 → p.toInt ≤ 400 → zW E G 3 (z, τ, ρ, ι, κ) 0 0 19 [(0, .ref a), (1, .int p), (2, .int i)] [] := by
    intro m
    induction m with
    | zero => intro i p h g1 g2; omega
    | succ m ih => ?_
    intro i p hm h0 hi hp
    have e1 := zinc (x := i) (by omega)
    refine r_iload_n X (by rfl) dX7_firstOfClosest_19 ?_
    refine r_iconst X 1 (by decide) dX7_firstOfClosest_20 ?_
    refine r_iadd X dX7_firstOfClosest_21 ?_
    refine r_aload_n X (by rfl) dX7_firstOfClosest_22 ?_
    refine r_getR X dX7_firstOfClosest_23 zF_X7_16 ha g4 ?_
    refine r_getI X dX7_firstOfClosest_26 zF_X7_62 hmk ?_
    refine r_icmp_ge X 53 dX7_firstOfClosest_29 (by decide) (fun h29 => ?_) (fun h29 => ?_)
    · refine r_iload_n X (by rfl) dX7_firstOfClosest_53 ?_
      refine r_ireturn X hR dX7_firstOfClosest_54 rfl (Nat.zero_le _) (Nat.zero_le _) ?_
      exact ⟨_, rfl, hp, rfl⟩
    · refine r_aload_n X (by rfl) dX7_firstOfClosest_32 ?_
      refine r_iload_n X (by rfl) dX7_firstOfClosest_33 ?_
      refine r_callV X dX7_firstOfClosest_34 zLV_X7_84 zCd_X7_gapBehind (c_X7_gapBehind _ G z τ ρ _ _ ha g4 g6 g7 g8 g9 hmk hv0 hv hfr hto2 hea hpc n0 n1 _ (by omega)) ha ⟨by decide, rfl, rfl⟩ rfl rfl ⟨⟨rfl, rfl⟩, ⟨by decide, by decide⟩, ⟨Nat.le_of_ble_eq_true rfl, Nat.le_of_ble_eq_true rfl⟩, Nat.le_of_ble_eq_true rfl⟩ ?_
      rintro _ _ ⟨r1, rfl, rfl⟩
      refine r_aload_n X (by rfl) dX7_firstOfClosest_37 ?_
      refine r_iload_n X (by rfl) dX7_firstOfClosest_38 ?_
      refine r_callV X dX7_firstOfClosest_39 zLV_X7_84 zCd_X7_gapBehind (c_X7_gapBehind _ G z τ ρ _ _ ha g4 g6 g7 g8 g9 hmk hv0 hv hfr hto2 hea hpc n0 n1 _ (by omega)) ha ⟨by decide, rfl, rfl⟩ rfl rfl ⟨⟨rfl, rfl⟩, ⟨by decide, by decide⟩, ⟨Nat.le_of_ble_eq_true rfl, Nat.le_of_ble_eq_true rfl⟩, Nat.le_of_ble_eq_true rfl⟩ ?_
      rintro _ _ ⟨r2, rfl, rfl⟩
      refine r_icmp_ge X 47 dX7_firstOfClosest_42 (by decide) (fun h42 => ?_) (fun h42 => ?_)
      · refine r_iinc X 1 (by decide) (by rfl) (by decide) dX7_firstOfClosest_47 ?_
        refine r_goto X 19 dX7_firstOfClosest_50 (by decide) ?_
        exact zW.loc3 (by rfl) (by rfl) (by rfl) (ih _ _ (by omega) (by omega) (by omega) (by omega))
      · refine r_iload_n X (by rfl) dX7_firstOfClosest_45 ?_
        refine r_istore_n X (by decide) dX7_firstOfClosest_46 ?_
        refine r_iinc X 1 (by decide) (by rfl) (by decide) dX7_firstOfClosest_47 ?_
        refine r_goto X 19 dX7_firstOfClosest_50 (by decide) ?_
        exact zW.loc3 (by rfl) (by rfl) (by rfl) (ih _ _ (by omega) (by omega) (by omega) (by omega))
  refine r_aload_n X (by rfl) dX7_firstOfClosest_0 ?_
  refine r_getR X dX7_firstOfClosest_1 zF_X7_16 ha g4 ?_
  refine r_getI X dX7_firstOfClosest_4 zF_X7_62 hmk ?_
  refine r_iconst X 1 (by decide) dX7_firstOfClosest_7 ?_
  refine r_icmp_le X 15 dX7_firstOfClosest_8 (by decide) (fun h8 => ?_) (fun h8 => ?_)
  · rw [show Int32.toInt 1 = 1 from rfl] at h8
    refine r_iconst X (-1) (by decide) dX7_firstOfClosest_15 ?_
    refine r_istore_n X (by decide) dX7_firstOfClosest_16 ?_
    refine r_iconst X 1 (by decide) dX7_firstOfClosest_17 ?_
    refine r_istore_n X (by decide) dX7_firstOfClosest_18 ?_
    exact zW.loc3 (by rfl) (by rfl) (by rfl) (L19 1000 _ _ (by decide) (by decide) (by decide) (by decide))
  · rw [show Int32.toInt 1 = 1 from rfl] at h8
    refine r_iconst X 0 (by decide) dX7_firstOfClosest_11 ?_
    refine r_goto X 16 dX7_firstOfClosest_12 (by decide) ?_
    refine r_istore_n X (by decide) dX7_firstOfClosest_16 ?_
    refine r_iconst X 1 (by decide) dX7_firstOfClosest_17 ?_
    refine r_istore_n X (by decide) dX7_firstOfClosest_18 ?_
    exact zW.loc3 (by rfl) (by rfl) (by rfl) (L19 1000 _ _ (by decide) (by decide) (by decide) (by decide))
set_option maxHeartbeats 4000000 in
set_option maxRecDepth 100000 in
theorem c_X7_nearestTo (l : Launch) (G : zG) (z : Nat) (τ : Nat → Option (Nat × Nat)) (ρ : Nat → Nat → Option Nat) (ι : Nat → Nat → Int32) (κ : Nat → Nat → Int64) {a mk v fr ts ea pc M5 M6 : Nat} (ha : τ a = some (7, M5)) (g4 : ρ a 4 = some mk) (g6 : ρ a 6 = some fr) (g7 : ρ a 7 = some ts) (g8 : ρ a 8 = some ea) (g9 : ρ a 9 = some pc) (hmk : τ mk = some (6, M6)) (hv0 : ρ mk 0 = some v) (hv : τ v = some (13, 400)) (hfr : τ fr = some (13, 4)) (hto2 : τ ts = some (13, 4)) (hea : τ ea = some (13, 4)) (hpc : τ pc = some (13, 400)) (n0 : 0 ≤ (ι mk 1).toInt) (n1 : (ι mk 1).toInt ≤ 400) (x : Int32) : zM l G yX7_nearestTo cX7_nearestTo 4 (some .int) ({ frames := 1, cells := 0, slots := 0, locals := 21 } : Room) [.ref a, .int x] (z, τ, ρ, ι, κ) (fun v s => ∃ r, v = some (.int r) ∧ s = (z, τ, ρ, ι, κ)) 0 0 := by
  refine zM_of zCd_X7_nearestTo (Nat.le_of_ble_eq_true rfl) ?_
  intro E X hR hE
  subst hE
  show zW E G 4 (z, τ, ρ, ι, κ) 0 0 0 [(0, .ref a), (1, .int x)] []
  have L18 : ∀ (m : Nat) (i p : Int32), (400 - i.toInt).toNat < m → 1 ≤ i.toInt → (0 < (ι mk 1).toInt → 0 ≤ p.toInt ∧ p.toInt < (ι mk 1).toInt) → zW E G 4 (z, τ, ρ, ι, κ) 0 0 18 [(0, .ref a), (1, .int x), (2, .int p), (3, .int i)] [] := by
    intro m
    induction m with
    | zero => intro i p h; omega
    | succ m ih => ?_
    intro i p hm h0 hp
    refine r_iload_n X (by rfl) dX7_nearestTo_18 ?_
    refine r_aload_n X (by rfl) dX7_nearestTo_19 ?_
    refine r_getR X dX7_nearestTo_20 zF_X7_16 ha g4 ?_
    refine r_getI X dX7_nearestTo_23 zF_X7_62 hmk ?_
    refine r_icmp_ge X 62 dX7_nearestTo_26 (by decide) (fun h26 => ?_) (fun h26 => ?_)
    · refine r_aload_n X (by rfl) dX7_nearestTo_62 ?_
      refine r_iload_n X (by rfl) dX7_nearestTo_63 ?_
      refine r_callV X dX7_nearestTo_64 zLV_X7_87 zCd_X7_numberAt (c_X7_numberAt _ G z τ ρ _ _ ha g4 g6 g7 g8 g9 hmk hv0 hv hfr hto2 hea hpc n0 n1 _) ha ⟨by decide, rfl, rfl⟩ rfl rfl ⟨⟨rfl, rfl⟩, ⟨by decide, by decide⟩, ⟨Nat.le_of_ble_eq_true rfl, Nat.le_of_ble_eq_true rfl⟩, Nat.le_of_ble_eq_true rfl⟩ ?_
      rintro _ _ ⟨rfl, rfl⟩
      refine r_ireturn X hR dX7_nearestTo_67 rfl (Nat.zero_le _) (Nat.zero_le _) ?_
      exact ⟨_, rfl, rfl⟩
    · refine r_aload_n X (by rfl) dX7_nearestTo_29 ?_
      refine r_getR X dX7_nearestTo_30 zF_X7_34 ha g9 ?_
      refine r_iload_n X (by rfl) dX7_nearestTo_33 ?_
      refine r_iaload X dX7_nearestTo_34 hpc (vp_in_iff.mpr ⟨by omega, by omega⟩) ?_
      refine r_iload_n X (by rfl) dX7_nearestTo_35 ?_
      refine r_isub X dX7_nearestTo_36 ?_
      refine r_callS X dX7_nearestTo_37 zLS_X7_79 zCd_J9_abs_0f7a4 (c_abs _ G z τ ρ _ _ _) rfl rfl ⟨⟨rfl, rfl⟩, ⟨by decide, by decide⟩, ⟨Nat.le_of_ble_eq_true rfl, Nat.le_of_ble_eq_true rfl⟩, Nat.le_of_ble_eq_true rfl⟩ ?_
      rintro _ _ ⟨rfl, rfl⟩
      refine r_aload_n X (by rfl) dX7_nearestTo_40 ?_
      refine r_getR X dX7_nearestTo_41 zF_X7_34 ha g9 ?_
      refine r_iload_n X (by rfl) dX7_nearestTo_44 ?_
      refine r_iaload X dX7_nearestTo_45 hpc (vp_in_iff.mpr ⟨by omega, by omega⟩) ?_
      refine r_iload_n X (by rfl) dX7_nearestTo_46 ?_
      refine r_isub X dX7_nearestTo_47 ?_
      refine r_callS X dX7_nearestTo_48 zLS_X7_79 zCd_J9_abs_0f7a4 (c_abs _ G z τ ρ _ _ _) rfl rfl ⟨⟨rfl, rfl⟩, ⟨by decide, by decide⟩, ⟨Nat.le_of_ble_eq_true rfl, Nat.le_of_ble_eq_true rfl⟩, Nat.le_of_ble_eq_true rfl⟩ ?_
      rintro _ _ ⟨rfl, rfl⟩
      refine r_icmp_ge X 56 dX7_nearestTo_51 (by decide) (fun h51 => ?_) (fun h51 => ?_)
      · refine r_iinc X 1 (by decide) (by rfl) (by decide) dX7_nearestTo_56 ?_
        refine r_goto X 18 dX7_nearestTo_59 (by decide) ?_
        exact zW.loc4 (by rfl) (by rfl) (by rfl) (by rfl) (ih _ _ (by have e := zinc (x := i) (by omega); omega) (by have e := zinc (x := i) (by omega); omega) (by intro; omega))
      · refine r_iload_n X (by rfl) dX7_nearestTo_54 ?_
        refine r_istore_n X (by decide) dX7_nearestTo_55 ?_
        refine r_iinc X 1 (by decide) (by rfl) (by decide) dX7_nearestTo_56 ?_
        refine r_goto X 18 dX7_nearestTo_59 (by decide) ?_
        exact zW.loc4 (by rfl) (by rfl) (by rfl) (by rfl) (ih _ _ (by have e := zinc (x := i) (by omega); omega) (by have e := zinc (x := i) (by omega); omega) (by intro; omega))
  refine r_aload_n X (by rfl) dX7_nearestTo_0 ?_
  refine r_getR X dX7_nearestTo_1 zF_X7_16 ha g4 ?_
  refine r_getI X dX7_nearestTo_4 zF_X7_62 hmk ?_
  refine r_if_le X 14 dX7_nearestTo_7 (by decide) (fun h7 => ?_) (fun h7 => ?_)
  · refine r_iconst X (-1) (by decide) dX7_nearestTo_14 ?_
    refine r_istore_n X (by decide) dX7_nearestTo_15 ?_
    refine r_iconst X 1 (by decide) dX7_nearestTo_16 ?_
    refine r_istore_n X (by decide) dX7_nearestTo_17 ?_
    exact zW.loc4 (by rfl) (by rfl) (by rfl) (by rfl) (L18 401 _ _ (by decide) (by decide) (by first | (rw [show (0 : Int32).toInt = 0 from rfl]; omega) | (intro q; omega)))
  · refine r_iconst X 0 (by decide) dX7_nearestTo_10 ?_
    refine r_goto X 15 dX7_nearestTo_11 (by decide) ?_
    refine r_istore_n X (by decide) dX7_nearestTo_15 ?_
    refine r_iconst X 1 (by decide) dX7_nearestTo_16 ?_
    refine r_istore_n X (by decide) dX7_nearestTo_17 ?_
    exact zW.loc4 (by rfl) (by rfl) (by rfl) (by rfl) (L18 401 _ _ (by decide) (by decide) (by first | (rw [show (0 : Int32).toInt = 0 from rfl]; omega) | (intro q; omega)))
set_option maxHeartbeats 4000000 in
set_option maxRecDepth 100000 in
theorem c_X7_readBetween (l : Launch) (G : zG) (z : Nat) (τ : Nat → Option (Nat × Nat)) (ρ : Nat → Nat → Option Nat) (ι : Nat → Nat → Int32) (κ : Nat → Nat → Int64) {a mk v fr ts ea pc M5 M6 : Nat} (ha : τ a = some (7, M5)) (g4 : ρ a 4 = some mk) (g6 : ρ a 6 = some fr) (g7 : ρ a 7 = some ts) (g8 : ρ a 8 = some ea) (g9 : ρ a 9 = some pc) (hmk : τ mk = some (6, M6)) (hv0 : ρ mk 0 = some v) (hv : τ v = some (13, 400)) (hfr : τ fr = some (13, 4)) (hto2 : τ ts = some (13, 4)) (hea : τ ea = some (13, 4)) (hpc : τ pc = some (13, 400)) (n0 : 0 ≤ (ι mk 1).toInt) (n1 : (ι mk 1).toInt ≤ 400) (x : Int32) : zM l G yX7_readBetween cX7_readBetween 7 (some .int) ({ frames := 1, cells := 0, slots := 0, locals := 21 } : Room) [.ref a, .int x] (z, τ, ρ, ι, κ) (fun v s => ∃ r, v = some (.int r) ∧ s = (z, τ, ρ, ι, κ)) 0 0 := by
  refine zM_of zCd_X7_readBetween (Nat.le_of_ble_eq_true rfl) ?_
  intro E X hR hE
  subst hE
  show zW E G 7 (z, τ, ρ, ι, κ) 0 0 0 [(0, .ref a), (1, .int x)] []
  have L2 : ∀ (m : Nat) (i : Int32), (400 - i.toInt).toNat < m → 0 ≤ i.toInt → i.toInt ≤ 1000 → zW E G 7 (z, τ, ρ, ι, κ) 0 0 2 [(0, .ref a), (1, .int x), (2, .int i)] [] := by
    intro m
    induction m with
    | zero => intro i h g1 g2; omega
    | succ m ih => ?_
    intro i hm h0 hi
    have e1 := zinc (x := i) (by omega)
    refine r_iload_n X (by rfl) dX7_readBetween_2 ?_
    refine r_iconst X 1 (by decide) dX7_readBetween_3 ?_
    refine r_iadd X dX7_readBetween_4 ?_
    refine r_aload_n X (by rfl) dX7_readBetween_5 ?_
    refine r_getR X dX7_readBetween_6 zF_X7_16 ha g4 ?_
    refine r_getI X dX7_readBetween_9 zF_X7_62 hmk ?_
    refine r_icmp_ge X 113 dX7_readBetween_12 (by decide) (fun h12 => ?_) (fun h12 => ?_)
    · refine r_iconst X (-1) (by decide) dX7_readBetween_113 ?_
      refine r_ireturn X hR dX7_readBetween_114 rfl (Nat.zero_le _) (Nat.zero_le _) ?_
      exact ⟨_, rfl, rfl⟩
    · refine r_aload_n X (by rfl) dX7_readBetween_15 ?_
      refine r_getR X dX7_readBetween_16 zF_X7_34 ha g9 ?_
      refine r_iload_n X (by rfl) dX7_readBetween_19 ?_
      refine r_iaload X dX7_readBetween_20 hpc (vp_in_iff.mpr ⟨by omega, by omega⟩) ?_
      refine r_istore_n X (by decide) dX7_readBetween_21 ?_
      refine r_aload_n X (by rfl) dX7_readBetween_22 ?_
      refine r_getR X dX7_readBetween_23 zF_X7_34 ha g9 ?_
      refine r_iload_n X (by rfl) dX7_readBetween_26 ?_
      refine r_iconst X 1 (by decide) dX7_readBetween_27 ?_
      refine r_iadd X dX7_readBetween_28 ?_
      refine r_iaload X dX7_readBetween_29 hpc (vp_in_iff.mpr ⟨by omega, by omega⟩) ?_
      refine r_istore X (by decide) dX7_readBetween_30 ?_
      refine r_iload_n X (by rfl) dX7_readBetween_32 ?_
      refine r_iload X (by rfl) dX7_readBetween_33 ?_
      refine r_icmp_eq X 107 dX7_readBetween_35 (by decide) (fun h35 => ?_) (fun h35 => ?_)
      · refine r_iinc X 1 (by decide) (by rfl) (by decide) dX7_readBetween_107 ?_
        refine r_goto X 2 dX7_readBetween_110 (by decide) ?_
        exact zW.loc3 (by rfl) (by rfl) (by rfl) (ih _ (by omega) (by omega) (by omega))
      · refine r_iload_n X (by rfl) dX7_readBetween_38 ?_
        refine r_iload X (by rfl) dX7_readBetween_39 ?_
        refine r_callS X dX7_readBetween_41 zLS_X7_90 zCd_J9_min_7cf53 (c_min _ G z τ ρ _ _ _ _) rfl rfl ⟨⟨rfl, rfl⟩, ⟨by decide, by decide⟩, ⟨Nat.le_of_ble_eq_true rfl, Nat.le_of_ble_eq_true rfl⟩, Nat.le_of_ble_eq_true rfl⟩ ?_
        rintro _ _ ⟨rfl, rfl⟩
        refine r_iload_n X (by rfl) dX7_readBetween_44 ?_
        refine r_icmp_gt X 107 dX7_readBetween_45 (by decide) (fun h45 => ?_) (fun h45 => ?_)
        · refine r_iinc X 1 (by decide) (by rfl) (by decide) dX7_readBetween_107 ?_
          refine r_goto X 2 dX7_readBetween_110 (by decide) ?_
          exact zW.loc3 (by rfl) (by rfl) (by rfl) (ih _ (by omega) (by omega) (by omega))
        · refine r_iload_n X (by rfl) dX7_readBetween_48 ?_
          refine r_iload_n X (by rfl) dX7_readBetween_49 ?_
          refine r_iload X (by rfl) dX7_readBetween_50 ?_
          refine r_callS X dX7_readBetween_52 zLS_X7_94 zCd_J9_max_7cf53 (c_max _ G z τ ρ _ _ _ _) rfl rfl ⟨⟨rfl, rfl⟩, ⟨by decide, by decide⟩, ⟨Nat.le_of_ble_eq_true rfl, Nat.le_of_ble_eq_true rfl⟩, Nat.le_of_ble_eq_true rfl⟩ ?_
          rintro _ _ ⟨rfl, rfl⟩
          refine r_icmp_gt X 107 dX7_readBetween_55 (by decide) (fun h55 => ?_) (fun h55 => ?_)
          · refine r_iinc X 1 (by decide) (by rfl) (by decide) dX7_readBetween_107 ?_
            refine r_goto X 2 dX7_readBetween_110 (by decide) ?_
            exact zW.loc3 (by rfl) (by rfl) (by rfl) (ih _ (by omega) (by omega) (by omega))
          · refine r_aload_n X (by rfl) dX7_readBetween_58 ?_
            refine r_getR X dX7_readBetween_59 zF_X7_16 ha g4 ?_
            refine r_getR X dX7_readBetween_62 zF_X7_73 hmk hv0 ?_
            refine r_iload_n X (by rfl) dX7_readBetween_65 ?_
            refine r_iconst X 1 (by decide) dX7_readBetween_66 ?_
            refine r_iadd X dX7_readBetween_67 ?_
            refine r_iaload X dX7_readBetween_68 hv (vp_in_iff.mpr ⟨by omega, by omega⟩) ?_
            refine r_aload_n X (by rfl) dX7_readBetween_69 ?_
            refine r_getR X dX7_readBetween_70 zF_X7_16 ha g4 ?_
            refine r_getR X dX7_readBetween_73 zF_X7_73 hmk hv0 ?_
            refine r_iload_n X (by rfl) dX7_readBetween_76 ?_
            refine r_iaload X dX7_readBetween_77 hv (vp_in_iff.mpr ⟨by omega, by omega⟩) ?_
            refine r_isub X dX7_readBetween_78 ?_
            refine r_i2l X dX7_readBetween_79 ?_
            refine r_lstore X (by decide) dX7_readBetween_80 ?_
            refine r_aload_n X (by rfl) dX7_readBetween_82 ?_
            refine r_getR X dX7_readBetween_83 zF_X7_16 ha g4 ?_
            refine r_getR X dX7_readBetween_86 zF_X7_73 hmk hv0 ?_
            refine r_iload_n X (by rfl) dX7_readBetween_89 ?_
            refine r_iaload X dX7_readBetween_90 hv (vp_in_iff.mpr ⟨by omega, by omega⟩) ?_
            refine r_lload X (by rfl) dX7_readBetween_91 ?_
            refine r_iload_n X (by rfl) dX7_readBetween_93 ?_
            refine r_iload_n X (by rfl) dX7_readBetween_94 ?_
            refine r_isub X dX7_readBetween_95 ?_
            refine r_i2l X dX7_readBetween_96 ?_
            refine r_lmul X dX7_readBetween_97 ?_
            refine r_iload X (by rfl) dX7_readBetween_98 ?_
            refine r_iload_n X (by rfl) dX7_readBetween_100 ?_
            refine r_isub X dX7_readBetween_101 ?_
            refine r_i2l X dX7_readBetween_102 ?_
            refine r_ldiv X (znesub h35) dX7_readBetween_103 ?_
            refine r_l2i X dX7_readBetween_104 ?_
            refine r_iadd X dX7_readBetween_105 ?_
            refine r_ireturn X hR dX7_readBetween_106 rfl (Nat.zero_le _) (Nat.zero_le _) ?_
            exact ⟨_, rfl, rfl⟩
  refine r_iconst X 0 (by decide) dX7_readBetween_0 ?_
  refine r_istore_n X (by decide) dX7_readBetween_1 ?_
  exact zW.loc3 (by rfl) (by rfl) (by rfl) (L2 1000 _ (by decide) (by decide) (by decide))
set_option maxHeartbeats 4000000 in
set_option maxRecDepth 100000 in
theorem c_X7_digestOnto (l : Launch) (G : zG) (z : Nat) (τ : Nat → Option (Nat × Nat)) (ρ : Nat → Nat → Option Nat) (ι : Nat → Nat → Int32) (κ : Nat → Nat → Int64) {a mk v fr ts ea pc M5 M6 : Nat} (ha : τ a = some (7, M5)) (g4 : ρ a 4 = some mk) (g6 : ρ a 6 = some fr) (g7 : ρ a 7 = some ts) (g8 : ρ a 8 = some ea) (g9 : ρ a 9 = some pc) (hmk : τ mk = some (6, M6)) (hv0 : ρ mk 0 = some v) (hv : τ v = some (13, 400)) (hfr : τ fr = some (13, 4)) (hto2 : τ ts = some (13, 4)) (hea : τ ea = some (13, 4)) (hpc : τ pc = some (13, 400)) (p1 : (ι a 5).toInt ≤ 4) (x : Int64) : zM l G yX7_digestOnto cX7_digestOnto 4 (some .long) ({ frames := 0, cells := 0, slots := 0, locals := 0 } : Room) [.ref a, .long x] (z, τ, ρ, ι, κ) (fun v s => ∃ r, v = some (.long r) ∧ s = (z, τ, ρ, ι, κ)) 0 0 := by
  refine zM_of zCd_X7_digestOnto (Nat.le_of_ble_eq_true rfl) ?_
  intro E X hR hE
  subst hE
  show zW E G 4 (z, τ, ρ, ι, κ) 0 0 0 [(0, .ref a), (1, .long x)] []
  have L66 : ∀ (m : Nat) (i : Int32) (y : Int64), (4 - i.toInt).toNat < m → 0 ≤ i.toInt → zW E G 4 (z, τ, ρ, ι, κ) 0 0 66 [(0, .ref a), (1, .long y), (3, .int i)] [] := by
    intro m
    induction m with
    | zero => intro i y h; omega
    | succ m ih => ?_
    intro i y hm h0
    refine r_iload_n X (by rfl) dX7_digestOnto_66 ?_
    refine r_aload_n X (by rfl) dX7_digestOnto_67 ?_
    refine r_getI X dX7_digestOnto_68 zF_X7_20 ha ?_
    refine r_icmp_ge X 122 dX7_digestOnto_71 (by decide) (fun h71 => ?_) (fun h71 => ?_)
    · refine r_lload_n X (by rfl) dX7_digestOnto_122 ?_
      refine r_lreturn X hR dX7_digestOnto_123 (Nat.zero_le _) (Nat.zero_le _) ?_
      exact ⟨_, rfl, rfl⟩
    · refine r_ldc2 X zK_X7_97 dX7_digestOnto_74 ?_
      refine r_lload_n X (by rfl) dX7_digestOnto_77 ?_
      refine r_lmul X dX7_digestOnto_78 ?_
      refine r_aload_n X (by rfl) dX7_digestOnto_79 ?_
      refine r_getR X dX7_digestOnto_80 zF_X7_24 ha g6 ?_
      refine r_iload_n X (by rfl) dX7_digestOnto_83 ?_
      refine r_iaload X dX7_digestOnto_84 hfr (vp_in_iff.mpr ⟨h0, by omega⟩) ?_
      refine r_i2l X dX7_digestOnto_85 ?_
      refine r_ladd X dX7_digestOnto_86 ?_
      refine r_lstore_n X (by decide) dX7_digestOnto_87 ?_
      refine r_ldc2 X zK_X7_97 dX7_digestOnto_88 ?_
      refine r_lload_n X (by rfl) dX7_digestOnto_91 ?_
      refine r_lmul X dX7_digestOnto_92 ?_
      refine r_aload_n X (by rfl) dX7_digestOnto_93 ?_
      refine r_getR X dX7_digestOnto_94 zF_X7_28 ha g7 ?_
      refine r_iload_n X (by rfl) dX7_digestOnto_97 ?_
      refine r_iaload X dX7_digestOnto_98 hto2 (vp_in_iff.mpr ⟨h0, by omega⟩) ?_
      refine r_i2l X dX7_digestOnto_99 ?_
      refine r_ladd X dX7_digestOnto_100 ?_
      refine r_lstore_n X (by decide) dX7_digestOnto_101 ?_
      refine r_ldc2 X zK_X7_97 dX7_digestOnto_102 ?_
      refine r_lload_n X (by rfl) dX7_digestOnto_105 ?_
      refine r_lmul X dX7_digestOnto_106 ?_
      refine r_aload_n X (by rfl) dX7_digestOnto_107 ?_
      refine r_getR X dX7_digestOnto_108 zF_X7_31 ha g8 ?_
      refine r_iload_n X (by rfl) dX7_digestOnto_111 ?_
      refine r_iaload X dX7_digestOnto_112 hea (vp_in_iff.mpr ⟨h0, by omega⟩) ?_
      refine r_i2l X dX7_digestOnto_113 ?_
      refine r_ladd X dX7_digestOnto_114 ?_
      refine r_lstore_n X (by decide) dX7_digestOnto_115 ?_
      refine r_iinc X 1 (by decide) (by rfl) (by decide) dX7_digestOnto_116 ?_
      refine r_goto X 66 dX7_digestOnto_119 (by decide) ?_
      exact zW.loc3 (by rfl) (by rfl) (by rfl) (ih _ _ (by have e := zinc (x := i) (by omega); omega) (by have e := zinc (x := i) (by omega); omega))
  refine r_ldc2 X zK_X7_97 dX7_digestOnto_0 ?_
  refine r_lload_n X (by rfl) dX7_digestOnto_3 ?_
  refine r_lmul X dX7_digestOnto_4 ?_
  refine r_aload_n X (by rfl) dX7_digestOnto_5 ?_
  refine r_getI X dX7_digestOnto_6 zF_X7_43 ha ?_
  refine r_if_eq X 16 dX7_digestOnto_9 (by decide) (fun h9 => ?_) (fun h9 => ?_)
  · refine r_iconst X 0 (by decide) dX7_digestOnto_16 ?_
    refine r_i2l X dX7_digestOnto_17 ?_
    refine r_ladd X dX7_digestOnto_18 ?_
    refine r_lstore_n X (by decide) dX7_digestOnto_19 ?_
    refine r_ldc2 X zK_X7_97 dX7_digestOnto_20 ?_
    refine r_lload_n X (by rfl) dX7_digestOnto_23 ?_
    refine r_lmul X dX7_digestOnto_24 ?_
    refine r_aload_n X (by rfl) dX7_digestOnto_25 ?_
    refine r_getI X dX7_digestOnto_26 zF_X7_47 ha ?_
    refine r_i2l X dX7_digestOnto_29 ?_
    refine r_ladd X dX7_digestOnto_30 ?_
    refine r_lstore_n X (by decide) dX7_digestOnto_31 ?_
    refine r_ldc2 X zK_X7_97 dX7_digestOnto_32 ?_
    refine r_lload_n X (by rfl) dX7_digestOnto_35 ?_
    refine r_lmul X dX7_digestOnto_36 ?_
    refine r_aload_n X (by rfl) dX7_digestOnto_37 ?_
    refine r_getI X dX7_digestOnto_38 zF_X7_50 ha ?_
    refine r_i2l X dX7_digestOnto_41 ?_
    refine r_ladd X dX7_digestOnto_42 ?_
    refine r_lstore_n X (by decide) dX7_digestOnto_43 ?_
    refine r_ldc2 X zK_X7_97 dX7_digestOnto_44 ?_
    refine r_lload_n X (by rfl) dX7_digestOnto_47 ?_
    refine r_lmul X dX7_digestOnto_48 ?_
    refine r_aload_n X (by rfl) dX7_digestOnto_49 ?_
    refine r_getI X dX7_digestOnto_50 zF_X7_53 ha ?_
    refine r_if_eq X 60 dX7_digestOnto_53 (by decide) (fun h53 => ?_) (fun h53 => ?_)
    · refine r_iconst X 0 (by decide) dX7_digestOnto_60 ?_
      refine r_i2l X dX7_digestOnto_61 ?_
      refine r_ladd X dX7_digestOnto_62 ?_
      refine r_lstore_n X (by decide) dX7_digestOnto_63 ?_
      refine r_iconst X 0 (by decide) dX7_digestOnto_64 ?_
      refine r_istore_n X (by decide) dX7_digestOnto_65 ?_
      exact zW.loc3 (by rfl) (by rfl) (by rfl) (L66 5 _ _ (by decide) (by decide))
    · refine r_iconst X 1 (by decide) dX7_digestOnto_56 ?_
      refine r_goto X 61 dX7_digestOnto_57 (by decide) ?_
      refine r_i2l X dX7_digestOnto_61 ?_
      refine r_ladd X dX7_digestOnto_62 ?_
      refine r_lstore_n X (by decide) dX7_digestOnto_63 ?_
      refine r_iconst X 0 (by decide) dX7_digestOnto_64 ?_
      refine r_istore_n X (by decide) dX7_digestOnto_65 ?_
      exact zW.loc3 (by rfl) (by rfl) (by rfl) (L66 5 _ _ (by decide) (by decide))
  · refine r_iconst X 1 (by decide) dX7_digestOnto_12 ?_
    refine r_goto X 17 dX7_digestOnto_13 (by decide) ?_
    refine r_i2l X dX7_digestOnto_17 ?_
    refine r_ladd X dX7_digestOnto_18 ?_
    refine r_lstore_n X (by decide) dX7_digestOnto_19 ?_
    refine r_ldc2 X zK_X7_97 dX7_digestOnto_20 ?_
    refine r_lload_n X (by rfl) dX7_digestOnto_23 ?_
    refine r_lmul X dX7_digestOnto_24 ?_
    refine r_aload_n X (by rfl) dX7_digestOnto_25 ?_
    refine r_getI X dX7_digestOnto_26 zF_X7_47 ha ?_
    refine r_i2l X dX7_digestOnto_29 ?_
    refine r_ladd X dX7_digestOnto_30 ?_
    refine r_lstore_n X (by decide) dX7_digestOnto_31 ?_
    refine r_ldc2 X zK_X7_97 dX7_digestOnto_32 ?_
    refine r_lload_n X (by rfl) dX7_digestOnto_35 ?_
    refine r_lmul X dX7_digestOnto_36 ?_
    refine r_aload_n X (by rfl) dX7_digestOnto_37 ?_
    refine r_getI X dX7_digestOnto_38 zF_X7_50 ha ?_
    refine r_i2l X dX7_digestOnto_41 ?_
    refine r_ladd X dX7_digestOnto_42 ?_
    refine r_lstore_n X (by decide) dX7_digestOnto_43 ?_
    refine r_ldc2 X zK_X7_97 dX7_digestOnto_44 ?_
    refine r_lload_n X (by rfl) dX7_digestOnto_47 ?_
    refine r_lmul X dX7_digestOnto_48 ?_
    refine r_aload_n X (by rfl) dX7_digestOnto_49 ?_
    refine r_getI X dX7_digestOnto_50 zF_X7_53 ha ?_
    refine r_if_eq X 60 dX7_digestOnto_53 (by decide) (fun h53 => ?_) (fun h53 => ?_)
    · refine r_iconst X 0 (by decide) dX7_digestOnto_60 ?_
      refine r_i2l X dX7_digestOnto_61 ?_
      refine r_ladd X dX7_digestOnto_62 ?_
      refine r_lstore_n X (by decide) dX7_digestOnto_63 ?_
      refine r_iconst X 0 (by decide) dX7_digestOnto_64 ?_
      refine r_istore_n X (by decide) dX7_digestOnto_65 ?_
      exact zW.loc3 (by rfl) (by rfl) (by rfl) (L66 5 _ _ (by decide) (by decide))
    · refine r_iconst X 1 (by decide) dX7_digestOnto_56 ?_
      refine r_goto X 61 dX7_digestOnto_57 (by decide) ?_
      refine r_i2l X dX7_digestOnto_61 ?_
      refine r_ladd X dX7_digestOnto_62 ?_
      refine r_lstore_n X (by decide) dX7_digestOnto_63 ?_
      refine r_iconst X 0 (by decide) dX7_digestOnto_64 ?_
      refine r_istore_n X (by decide) dX7_digestOnto_65 ?_
      exact zW.loc3 (by rfl) (by rfl) (by rfl) (L66 5 _ _ (by decide) (by decide))
