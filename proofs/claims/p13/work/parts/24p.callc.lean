/-! the class's calls that read PLACES, exactly (wip/gen16/spec_pd.py) -/
/-- the PLACE of v on SCALE j of the class -/
noncomputable def zPcv (B : Nat) (ι : Nat → Nat → Int32) (j : Nat) (v : Int32) : Int32 := if ι (B + 63 + 7 * j) 3 = 0 then zPz v (ι (B + 63 + 7 * j) 2) (ι (B + 63 + 7 * j) 1) (ι B 10) else ι B 10 - zPz v (ι (B + 63 + 7 * j) 2) (ι (B + 63 + 7 * j) 1) (ι B 10)
/-- PARTS and FOLDS are as told -/
def zPF (B c : Nat) (ι : Nat → Nat → Int32) : Prop := (100 ≤ (ι B 10).toInt ∧ (ι B 10).toInt ≤ 50000) ∧ ∀ j, j < c → (1 ≤ (ι (B + 63 + 7 * j) 1).toInt ∧ (ι (B + 63 + 7 * j) 1).toInt ≤ 3) ∧ 10 ≤ (ι (B + 63 + 7 * j) 2).toInt ∧ (ι (B + 63 + 7 * j) 2).toInt ≤ 990
/-- how many SCALES are on the SLIDE -/
def zOc (B : Nat) (ι : Nat → Nat → Int32) : Nat → Int
  | 0 => 0
  | n + 1 => zOc B ι n + if ι (B + 63 + 7 * n) 0 = 0 then 0 else 1
/-- count, answered -/
def zK1 (B c : Nat) (ι : Nat → Nat → Int32) (x r : Int32) : Prop := (x.toInt = 0 ∧ r = ι B 9) ∨ (x.toInt = 1 ∧ r.toInt = zOc B ι c) ∨ (x.toInt = 2 ∧ r = ι B 11) ∨ (x.toInt = 3 ∧ r = ι (B + 12) 1) ∨ (x.toInt = 4 ∧ r = ι (B + 33) 1) ∨ (x.toInt = 5 ∧ r = ι (B + 36) 1) ∨ (x.toInt = 6 ∧ r = ι B 10) ∨ ((x.toInt < 0 ∨ 6 < x.toInt) ∧ r = -2000000000)
theorem zOc_b (B : Nat) (ι : Nat → Nat → Int32) : ∀ n : Nat, 0 ≤ zOc B ι n ∧ zOc B ι n ≤ n
  | 0 => ⟨Int.le_refl _, Int.le_refl _⟩
  | n + 1 => by
    have h := zOc_b B ι n
    rw [zOc]
    split <;> omega

set_option maxHeartbeats 4000000 in
set_option maxRecDepth 100000 in
theorem e_X11_place (l : Launch) (G : zG) (z : Nat) (τ : Nat → Option (Nat × Nat)) (ρ : Nat → Nat → Option Nat) (ι : Nat → Nat → Int32) (κ : Nat → Nat → Int64) {B c : Nat} (hL : zLay τ ρ B c) (hJ : zJ B c ι) (hPF : zPF B c ι) (x y : Int32) : zM l G yX11_place cX11_place 4 (some .int) ({ frames := 5, cells := 0, slots := 0, locals := 126 } : Room) [.ref B, .int x, .int y] (z, τ, ρ, ι, κ) (fun v s => (¬ ((0 ≤ x.toInt ∧ x.toInt < (c : Int)) ∧ (100 ≤ y.toInt ∧ y.toInt ≤ 100000)) ∧ v = some (.int (-2000000000)) ∧ s = (z, τ, ρ, ι, κ)) ∨ (((0 ≤ x.toInt ∧ x.toInt < (c : Int)) ∧ (100 ≤ y.toInt ∧ y.toInt ≤ 100000)) ∧ ∃ κ2, v = some (.int (zPcv B ι x.toNatClampNeg y)) ∧ s = (z, τ, ρ, ι, κ2))) 0 0 := by
  refine zM_of zCd_X11_place (Nat.le_of_ble_eq_true rfl) ?_
  intro E X hR hE
  subst hE
  show zW E G 4 (z, τ, ρ, ι, κ) 0 0 0 [(0, .ref B), (1, .int x), (2, .int y)] []
  obtain ⟨h8, ⟨hc1, hc2, hc3, hc4, hc5⟩, hJm⟩ := id hJ
  have hsc : (0 ≤ x.toInt ∧ x.toInt < (c : Int)) → zSc τ ρ (B + 63 + 7 * x.toNatClampNeg) := fun h => (hL.2.2 _ (by have := zclN h.1; omega)).2
  have hjs : (0 ≤ x.toInt ∧ x.toInt < (c : Int)) → zJs ι (B + 63 + 7 * x.toNatClampNeg) := fun h => hc5 _ (by have := zclN h.1; omega)
  have hpf := fun h : (0 ≤ x.toInt ∧ x.toInt < (c : Int)) => hPF.2 _ (show x.toNatClampNeg < c by have := zclN h.1; omega)
  refine r_aload_n X (by rfl) dX11_place_0 ?_
  refine r_iload_n X (by rfl) dX11_place_1 ?_
  refine r_callV X dX11_place_2 zLV_X11_85 zCd_X11_scaleAt (c_X11_scaleAt _ G z τ ρ _ _ hL hJ _) (zt hL 0 rfl) ⟨by decide, rfl, rfl⟩ rfl rfl ⟨⟨rfl, rfl⟩, ⟨by decide, by decide⟩, ⟨Nat.le_of_ble_eq_true rfl, Nat.le_of_ble_eq_true rfl⟩, Nat.le_of_ble_eq_true rfl⟩ ?_
  rintro _ _ (⟨rfl, hx, rfl⟩ | ⟨rfl, hx, rfl⟩)
  · refine r_astore_nN X (by decide) dX11_place_5 ?_
    refine r_aload_nN X (by rfl) dX11_place_6 ?_
    refine r_ifnullN X 17 dX11_place_7 (by decide) ?_
    refine r_ldc X zK_X11_93 dX11_place_17 ?_
    refine r_ireturn X hR dX11_place_19 rfl (Nat.zero_le _) (Nat.zero_le _) ?_
    exact Or.inl ⟨fun q => by first | exact hx q.1 | exact zif0 h14 q.2, rfl, rfl⟩
  · refine r_astore_n X (by decide) dX11_place_5 ?_
    refine r_aload_n X (by rfl) dX11_place_6 ?_
    refine r_ifnull X dX11_place_7 ?_
    refine r_iload_n X (by rfl) dX11_place_10 ?_
    refine r_callS X dX11_place_11 zLS_X11_89 zCd_X11_isNumber (c_X11_isNumber _ G z τ ρ _ _ _) rfl rfl ⟨⟨rfl, rfl⟩, ⟨by decide, by decide⟩, ⟨Nat.le_of_ble_eq_true rfl, Nat.le_of_ble_eq_true rfl⟩, Nat.le_of_ble_eq_true rfl⟩ ?_
    rintro _ _ ⟨rfl, rfl⟩
    refine r_if_ne X 20 dX11_place_14 (by decide) (fun h14 => ?_) (fun h14 => ?_)
    · refine r_aload_n X (by rfl) dX11_place_20 ?_
      refine r_iload_n X (by rfl) dX11_place_21 ?_
      refine r_aload_n X (by rfl) dX11_place_22 ?_
      refine r_getI X dX11_place_23 zF_X11_74 (zt hL 0 rfl) ?_
      refine r_aload_n X (by rfl) dX11_place_26 ?_
      refine r_getR X dX11_place_27 zF_X11_10 (zt hL 0 rfl) (zrf hL 0 rfl) ?_
      refine r_callV X dX11_place_30 zLV_X11_94 zCd_X7_placeOf (c_X7_placeOfF _ G z τ ρ _ _ (zt hL 1 rfl) (zrf hL 9 rfl) (zrf hL 10 rfl) (zrf hL 11 rfl) (zrf hL 12 rfl) (zrf hL 13 rfl) (zt hL 2 rfl) (zt hL 3 rfl) (zt hL 4 rfl) (zt hL 5 rfl) (zt hL 6 rfl) (by omega) (by omega) (hsc hx).1 (by omega) _ _ (zif1 h14).1 (zif1 h14).2 hPF.1.1 hPF.1.2 (hpf hx).1.1 (hpf hx).1.2 (hpf hx).2.1 (hpf hx).2.2) (hsc hx).1 ⟨by decide, rfl, rfl⟩ rfl rfl ⟨⟨rfl, rfl⟩, ⟨by decide, by decide⟩, ⟨Nat.le_of_ble_eq_true rfl, Nat.le_of_ble_eq_true rfl⟩, Nat.le_of_ble_eq_true rfl⟩ ?_
      rintro _ _ ⟨κ2, rfl, rfl⟩
      refine r_ireturn X hR dX11_place_33 rfl (Nat.zero_le _) (Nat.zero_le _) ?_
      exact Or.inr ⟨⟨hx, zif1 h14⟩, _, rfl, rfl⟩
    · refine r_ldc X zK_X11_93 dX11_place_17 ?_
      refine r_ireturn X hR dX11_place_19 rfl (Nat.zero_le _) (Nat.zero_le _) ?_
      exact Or.inl ⟨fun q => by first | exact hx q.1 | exact zif0 h14 q.2, rfl, rfl⟩
set_option maxHeartbeats 4000000 in
set_option maxRecDepth 100000 in
theorem e_X11_set (l : Launch) (G : zG) (z : Nat) (τ : Nat → Option (Nat × Nat)) (ρ : Nat → Nat → Option Nat) (ι : Nat → Nat → Int32) (κ : Nat → Nat → Int64) {B c : Nat} (hL : zLay τ ρ B c) (hJ : zJ B c ι) (hPF : zPF B c ι) (x y u w : Int32) : zM l G yX11_set cX11_set 7 (some .int) ({ frames := 5, cells := 0, slots := 0, locals := 126 } : Room) [.ref B, .int x, .int y, .int u, .int w] (z, τ, ρ, ι, κ) (fun v s => (¬ (((0 ≤ x.toInt ∧ x.toInt < (c : Int)) ∧ ¬ ι (B + 63 + 7 * x.toNatClampNeg) 0 = 0 ∧ (0 ≤ u.toInt ∧ u.toInt < (c : Int)) ∧ ι (B + 63 + 7 * u.toNatClampNeg) 0 = 0) ∧ (100 ≤ y.toInt ∧ y.toInt ≤ 100000) ∧ (100 ≤ w.toInt ∧ w.toInt ≤ 100000)) ∧ v = some (.int (-2000000000)) ∧ s = (z, τ, ρ, ι, κ)) ∨ ((((0 ≤ x.toInt ∧ x.toInt < (c : Int)) ∧ ¬ ι (B + 63 + 7 * x.toNatClampNeg) 0 = 0 ∧ (0 ≤ u.toInt ∧ u.toInt < (c : Int)) ∧ ι (B + 63 + 7 * u.toNatClampNeg) 0 = 0) ∧ (100 ≤ y.toInt ∧ y.toInt ≤ 100000) ∧ (100 ≤ w.toInt ∧ w.toInt ≤ 100000)) ∧ ∃ κ2, v = some (.int (zPcv B ι u.toNatClampNeg w - zPcv B ι x.toNatClampNeg y)) ∧ s = (z, τ, ρ, zu ι B 11 (zPcv B ι u.toNatClampNeg w - zPcv B ι x.toNatClampNeg y), κ2))) 0 0 := by
  refine zM_of zCd_X11_set (Nat.le_of_ble_eq_true rfl) ?_
  intro E X hR hE
  subst hE
  show zW E G 7 (z, τ, ρ, ι, κ) 0 0 0 [(0, .ref B), (1, .int x), (2, .int y), (3, .int u), (4, .int w)] []
  obtain ⟨h8, ⟨hc1, hc2, hc3, hc4, hc5⟩, hJm⟩ := id hJ
  have hsc : (0 ≤ x.toInt ∧ x.toInt < (c : Int)) → zSc τ ρ (B + 63 + 7 * x.toNatClampNeg) := fun h => (hL.2.2 _ (by have := zclN h.1; omega)).2
  have hjs : (0 ≤ x.toInt ∧ x.toInt < (c : Int)) → zJs ι (B + 63 + 7 * x.toNatClampNeg) := fun h => hc5 _ (by have := zclN h.1; omega)
  have hscu : (0 ≤ u.toInt ∧ u.toInt < (c : Int)) → zSc τ ρ (B + 63 + 7 * u.toNatClampNeg) := fun h => (hL.2.2 _ (by have := zclN h.1; omega)).2
  have hjsu : (0 ≤ u.toInt ∧ u.toInt < (c : Int)) → zJs ι (B + 63 + 7 * u.toNatClampNeg) := fun h => hc5 _ (by have := zclN h.1; omega)
  have hpf := fun h : (0 ≤ x.toInt ∧ x.toInt < (c : Int)) => hPF.2 _ (show x.toNatClampNeg < c by have := zclN h.1; omega)
  have hpfu := fun h : (0 ≤ u.toInt ∧ u.toInt < (c : Int)) => hPF.2 _ (show u.toNatClampNeg < c by have := zclN h.1; omega)
  refine r_aload_n X (by rfl) dX11_set_0 ?_
  refine r_iload_n X (by rfl) dX11_set_1 ?_
  refine r_callV X dX11_set_2 zLV_X11_85 zCd_X11_scaleAt (c_X11_scaleAt _ G z τ ρ _ _ hL hJ _) (zt hL 0 rfl) ⟨by decide, rfl, rfl⟩ rfl rfl ⟨⟨rfl, rfl⟩, ⟨by decide, by decide⟩, ⟨Nat.le_of_ble_eq_true rfl, Nat.le_of_ble_eq_true rfl⟩, Nat.le_of_ble_eq_true rfl⟩ ?_
  rintro _ _ (⟨rfl, hx, rfl⟩ | ⟨rfl, hx, rfl⟩)
  · refine r_astoreN X (by decide) dX11_set_5 ?_
    refine r_aload_n X (by rfl) dX11_set_7 ?_
    refine r_iload_n X (by rfl) dX11_set_8 ?_
    refine r_callV X dX11_set_9 zLV_X11_85 zCd_X11_scaleAt (c_X11_scaleAt _ G z τ ρ _ _ hL hJ _) (zt hL 0 rfl) ⟨by decide, rfl, rfl⟩ rfl rfl ⟨⟨rfl, rfl⟩, ⟨by decide, by decide⟩, ⟨Nat.le_of_ble_eq_true rfl, Nat.le_of_ble_eq_true rfl⟩, Nat.le_of_ble_eq_true rfl⟩ ?_
    rintro _ _ (⟨rfl, hxu, rfl⟩ | ⟨rfl, hxu, rfl⟩)
    · refine r_astoreN X (by decide) dX11_set_12 ?_
      refine r_aloadN X (by rfl) dX11_set_14 ?_
      refine r_ifnullN X 40 dX11_set_16 (by decide) ?_
      refine r_ldc X zK_X11_93 dX11_set_40 ?_
      refine r_ireturn X hR dX11_set_42 rfl (Nat.zero_le _) (Nat.zero_le _) ?_
      exact Or.inl ⟨fun q => by first | exact hx q.1.1 | exact q.1.2.1 h24 | exact hxu q.1.2.2.1 | exact h37 q.1.2.2.2, rfl, rfl⟩
    · refine r_astore X (by decide) dX11_set_12 ?_
      refine r_aloadN X (by rfl) dX11_set_14 ?_
      refine r_ifnullN X 40 dX11_set_16 (by decide) ?_
      refine r_ldc X zK_X11_93 dX11_set_40 ?_
      refine r_ireturn X hR dX11_set_42 rfl (Nat.zero_le _) (Nat.zero_le _) ?_
      exact Or.inl ⟨fun q => by first | exact hx q.1.1 | exact q.1.2.1 h24 | exact hxu q.1.2.2.1 | exact h37 q.1.2.2.2, rfl, rfl⟩
  · refine r_astore X (by decide) dX11_set_5 ?_
    refine r_aload_n X (by rfl) dX11_set_7 ?_
    refine r_iload_n X (by rfl) dX11_set_8 ?_
    refine r_callV X dX11_set_9 zLV_X11_85 zCd_X11_scaleAt (c_X11_scaleAt _ G z τ ρ _ _ hL hJ _) (zt hL 0 rfl) ⟨by decide, rfl, rfl⟩ rfl rfl ⟨⟨rfl, rfl⟩, ⟨by decide, by decide⟩, ⟨Nat.le_of_ble_eq_true rfl, Nat.le_of_ble_eq_true rfl⟩, Nat.le_of_ble_eq_true rfl⟩ ?_
    rintro _ _ (⟨rfl, hxu, rfl⟩ | ⟨rfl, hxu, rfl⟩)
    · refine r_astoreN X (by decide) dX11_set_12 ?_
      refine r_aload X (by rfl) dX11_set_14 ?_
      refine r_ifnull X dX11_set_16 ?_
      refine r_aload X (by rfl) dX11_set_19 ?_
      refine r_getI X dX11_set_21 zF_X11_134 (hsc hx).1 ?_
      refine r_if_eq X 40 dX11_set_24 (by decide) (fun h24 => ?_) (fun h24 => ?_)
      · refine r_ldc X zK_X11_93 dX11_set_40 ?_
        refine r_ireturn X hR dX11_set_42 rfl (Nat.zero_le _) (Nat.zero_le _) ?_
        exact Or.inl ⟨fun q => by first | exact hx q.1.1 | exact q.1.2.1 h24 | exact hxu q.1.2.2.1 | exact h37 q.1.2.2.2, rfl, rfl⟩
      · refine r_aloadN X (by rfl) dX11_set_27 ?_
        refine r_ifnullN X 40 dX11_set_29 (by decide) ?_
        refine r_ldc X zK_X11_93 dX11_set_40 ?_
        refine r_ireturn X hR dX11_set_42 rfl (Nat.zero_le _) (Nat.zero_le _) ?_
        exact Or.inl ⟨fun q => by first | exact hx q.1.1 | exact q.1.2.1 h24 | exact hxu q.1.2.2.1 | exact h37 q.1.2.2.2, rfl, rfl⟩
    · refine r_astore X (by decide) dX11_set_12 ?_
      refine r_aload X (by rfl) dX11_set_14 ?_
      refine r_ifnull X dX11_set_16 ?_
      refine r_aload X (by rfl) dX11_set_19 ?_
      refine r_getI X dX11_set_21 zF_X11_134 (hsc hx).1 ?_
      refine r_if_eq X 40 dX11_set_24 (by decide) (fun h24 => ?_) (fun h24 => ?_)
      · refine r_ldc X zK_X11_93 dX11_set_40 ?_
        refine r_ireturn X hR dX11_set_42 rfl (Nat.zero_le _) (Nat.zero_le _) ?_
        exact Or.inl ⟨fun q => by first | exact hx q.1.1 | exact q.1.2.1 h24 | exact hxu q.1.2.2.1 | exact h37 q.1.2.2.2, rfl, rfl⟩
      · refine r_aload X (by rfl) dX11_set_27 ?_
        refine r_ifnull X dX11_set_29 ?_
        refine r_aload X (by rfl) dX11_set_32 ?_
        refine r_getI X dX11_set_34 zF_X11_134 (hscu hxu).1 ?_
        refine r_if_eq X 43 dX11_set_37 (by decide) (fun h37 => ?_) (fun h37 => ?_)
        · refine r_iload_n X (by rfl) dX11_set_43 ?_
          refine r_callS X dX11_set_44 zLS_X11_89 zCd_X11_isNumber (c_X11_isNumber _ G z τ ρ _ _ _) rfl rfl ⟨⟨rfl, rfl⟩, ⟨by decide, by decide⟩, ⟨Nat.le_of_ble_eq_true rfl, Nat.le_of_ble_eq_true rfl⟩, Nat.le_of_ble_eq_true rfl⟩ ?_
          rintro _ _ ⟨rfl, rfl⟩
          refine r_if_eq X 58 dX11_set_47 (by decide) (fun h47 => ?_) (fun h47 => ?_)
          · refine r_ldc X zK_X11_93 dX11_set_58 ?_
            refine r_ireturn X hR dX11_set_60 rfl (Nat.zero_le _) (Nat.zero_le _) ?_
            exact Or.inl ⟨fun q => by first | exact zif0 h47 q.2.1 | exact zif0 h55 q.2.2, rfl, rfl⟩
          · refine r_iload X (by rfl) dX11_set_50 ?_
            refine r_callS X dX11_set_52 zLS_X11_89 zCd_X11_isNumber (c_X11_isNumber _ G z τ ρ _ _ _) rfl rfl ⟨⟨rfl, rfl⟩, ⟨by decide, by decide⟩, ⟨Nat.le_of_ble_eq_true rfl, Nat.le_of_ble_eq_true rfl⟩, Nat.le_of_ble_eq_true rfl⟩ ?_
            rintro _ _ ⟨rfl, rfl⟩
            refine r_if_ne X 61 dX11_set_55 (by decide) (fun h55 => ?_) (fun h55 => ?_)
            · refine r_aload_n X (by rfl) dX11_set_61 ?_
              refine r_aload X (by rfl) dX11_set_62 ?_
              refine r_iload X (by rfl) dX11_set_64 ?_
              refine r_aload_n X (by rfl) dX11_set_66 ?_
              refine r_getI X dX11_set_67 zF_X11_74 (zt hL 0 rfl) ?_
              refine r_aload_n X (by rfl) dX11_set_70 ?_
              refine r_getR X dX11_set_71 zF_X11_10 (zt hL 0 rfl) (zrf hL 0 rfl) ?_
              refine r_callV X dX11_set_74 zLV_X11_94 zCd_X7_placeOf (c_X7_placeOfF _ G z τ ρ _ _ (zt hL 1 rfl) (zrf hL 9 rfl) (zrf hL 10 rfl) (zrf hL 11 rfl) (zrf hL 12 rfl) (zrf hL 13 rfl) (zt hL 2 rfl) (zt hL 3 rfl) (zt hL 4 rfl) (zt hL 5 rfl) (zt hL 6 rfl) (by omega) (by omega) (hscu hxu).1 (by omega) _ _ (zif1 h55).1 (zif1 h55).2 hPF.1.1 hPF.1.2 (hpfu hxu).1.1 (hpfu hxu).1.2 (hpfu hxu).2.1 (hpfu hxu).2.2) (hscu hxu).1 ⟨by decide, rfl, rfl⟩ rfl rfl ⟨⟨rfl, rfl⟩, ⟨by decide, by decide⟩, ⟨Nat.le_of_ble_eq_true rfl, Nat.le_of_ble_eq_true rfl⟩, Nat.le_of_ble_eq_true rfl⟩ ?_
              rintro _ _ ⟨κ2, rfl, rfl⟩
              refine r_aload X (by rfl) dX11_set_77 ?_
              refine r_iload_n X (by rfl) dX11_set_79 ?_
              refine r_aload_n X (by rfl) dX11_set_80 ?_
              refine r_getI X dX11_set_81 zF_X11_74 (zt hL 0 rfl) ?_
              refine r_aload_n X (by rfl) dX11_set_84 ?_
              refine r_getR X dX11_set_85 zF_X11_10 (zt hL 0 rfl) (zrf hL 0 rfl) ?_
              refine r_callV X dX11_set_88 zLV_X11_94 zCd_X7_placeOf (c_X7_placeOfF _ G z τ ρ _ _ (zt hL 1 rfl) (zrf hL 9 rfl) (zrf hL 10 rfl) (zrf hL 11 rfl) (zrf hL 12 rfl) (zrf hL 13 rfl) (zt hL 2 rfl) (zt hL 3 rfl) (zt hL 4 rfl) (zt hL 5 rfl) (zt hL 6 rfl) (by omega) (by omega) (hsc hx).1 (by omega) _ _ (zif1 h47).1 (zif1 h47).2 hPF.1.1 hPF.1.2 (hpf hx).1.1 (hpf hx).1.2 (hpf hx).2.1 (hpf hx).2.2) (hsc hx).1 ⟨by decide, rfl, rfl⟩ rfl rfl ⟨⟨rfl, rfl⟩, ⟨by decide, by decide⟩, ⟨Nat.le_of_ble_eq_true rfl, Nat.le_of_ble_eq_true rfl⟩, Nat.le_of_ble_eq_true rfl⟩ ?_
              rintro _ _ ⟨κ3, rfl, rfl⟩
              refine r_isub X dX11_set_91 ?_
              refine r_putI X dX11_set_92 zF_X11_77 (zt hL 0 rfl) rfl rfl ?_
              refine r_aload_n X (by rfl) dX11_set_95 ?_
              refine r_getI X dX11_set_96 zF_X11_77 (zt hL 0 rfl) ?_
              rw [zu_s]
              refine r_ireturn X hR dX11_set_99 rfl (Nat.zero_le _) (Nat.zero_le _) ?_
              exact Or.inr ⟨⟨⟨hx, h24, hxu, h37⟩, zif1 h47, zif1 h55⟩, _, rfl, rfl⟩
            · refine r_ldc X zK_X11_93 dX11_set_58 ?_
              refine r_ireturn X hR dX11_set_60 rfl (Nat.zero_le _) (Nat.zero_le _) ?_
              exact Or.inl ⟨fun q => by first | exact zif0 h47 q.2.1 | exact zif0 h55 q.2.2, rfl, rfl⟩
        · refine r_ldc X zK_X11_93 dX11_set_40 ?_
          refine r_ireturn X hR dX11_set_42 rfl (Nat.zero_le _) (Nat.zero_le _) ?_
          exact Or.inl ⟨fun q => by first | exact hx q.1.1 | exact q.1.2.1 h24 | exact hxu q.1.2.2.1 | exact h37 q.1.2.2.2, rfl, rfl⟩
set_option maxHeartbeats 4000000 in
set_option maxRecDepth 100000 in
theorem e_X11_against (l : Launch) (G : zG) (z : Nat) (τ : Nat → Option (Nat × Nat)) (ρ : Nat → Nat → Option Nat) (ι : Nat → Nat → Int32) (κ : Nat → Nat → Int64) {B c : Nat} (hL : zLay τ ρ B c) (hJ : zJ B c ι) (hPF : zPF B c ι) (x y u : Int32) : zM l G yX11_against cX11_against 7 (some .int) ({ frames := 5, cells := 0, slots := 0, locals := 126 } : Room) [.ref B, .int x, .int y, .int u] (z, τ, ρ, ι, κ) (fun v s => (¬ ((0 ≤ x.toInt ∧ x.toInt < (c : Int)) ∧ (100 ≤ y.toInt ∧ y.toInt ≤ 100000) ∧ (0 ≤ u.toInt ∧ u.toInt < (c : Int))) ∧ v = some (.int (-2000000000)) ∧ s = (z, τ, ρ, ι, κ)) ∨ (((0 ≤ x.toInt ∧ x.toInt < (c : Int)) ∧ (100 ≤ y.toInt ∧ y.toInt ≤ 100000) ∧ (0 ≤ u.toInt ∧ u.toInt < (c : Int))) ∧ ∃ κ2, v = some (.int (zPcv B ι x.toNatClampNeg y + (if ι (B + 63 + 7 * x.toNatClampNeg) 0 = 0 then 0 else ι B 11) - (if ι (B + 63 + 7 * u.toNatClampNeg) 0 = 0 then 0 else ι B 11))) ∧ s = (z, τ, ρ, ι, κ2))) 0 0 := by
  refine zM_of zCd_X11_against (Nat.le_of_ble_eq_true rfl) ?_
  intro E X hR hE
  subst hE
  show zW E G 7 (z, τ, ρ, ι, κ) 0 0 0 [(0, .ref B), (1, .int x), (2, .int y), (3, .int u)] []
  obtain ⟨h8, ⟨hc1, hc2, hc3, hc4, hc5⟩, hJm⟩ := id hJ
  have hsc : (0 ≤ x.toInt ∧ x.toInt < (c : Int)) → zSc τ ρ (B + 63 + 7 * x.toNatClampNeg) := fun h => (hL.2.2 _ (by have := zclN h.1; omega)).2
  have hjs : (0 ≤ x.toInt ∧ x.toInt < (c : Int)) → zJs ι (B + 63 + 7 * x.toNatClampNeg) := fun h => hc5 _ (by have := zclN h.1; omega)
  have hscu : (0 ≤ u.toInt ∧ u.toInt < (c : Int)) → zSc τ ρ (B + 63 + 7 * u.toNatClampNeg) := fun h => (hL.2.2 _ (by have := zclN h.1; omega)).2
  have hjsu : (0 ≤ u.toInt ∧ u.toInt < (c : Int)) → zJs ι (B + 63 + 7 * u.toNatClampNeg) := fun h => hc5 _ (by have := zclN h.1; omega)
  have hpf := fun h : (0 ≤ x.toInt ∧ x.toInt < (c : Int)) => hPF.2 _ (show x.toNatClampNeg < c by have := zclN h.1; omega)
  refine r_aload_n X (by rfl) dX11_against_0 ?_
  refine r_iload_n X (by rfl) dX11_against_1 ?_
  refine r_callV X dX11_against_2 zLV_X11_85 zCd_X11_scaleAt (c_X11_scaleAt _ G z τ ρ _ _ hL hJ _) (zt hL 0 rfl) ⟨by decide, rfl, rfl⟩ rfl rfl ⟨⟨rfl, rfl⟩, ⟨by decide, by decide⟩, ⟨Nat.le_of_ble_eq_true rfl, Nat.le_of_ble_eq_true rfl⟩, Nat.le_of_ble_eq_true rfl⟩ ?_
  rintro _ _ (⟨rfl, hx, rfl⟩ | ⟨rfl, hx, rfl⟩)
  · refine r_astoreN X (by decide) dX11_against_5 ?_
    refine r_aload_n X (by rfl) dX11_against_7 ?_
    refine r_iload_n X (by rfl) dX11_against_8 ?_
    refine r_callV X dX11_against_9 zLV_X11_85 zCd_X11_scaleAt (c_X11_scaleAt _ G z τ ρ _ _ hL hJ _) (zt hL 0 rfl) ⟨by decide, rfl, rfl⟩ rfl rfl ⟨⟨rfl, rfl⟩, ⟨by decide, by decide⟩, ⟨Nat.le_of_ble_eq_true rfl, Nat.le_of_ble_eq_true rfl⟩, Nat.le_of_ble_eq_true rfl⟩ ?_
    rintro _ _ (⟨rfl, hxu, rfl⟩ | ⟨rfl, hxu, rfl⟩)
    · refine r_astoreN X (by decide) dX11_against_12 ?_
      refine r_aloadN X (by rfl) dX11_against_14 ?_
      refine r_ifnullN X 31 dX11_against_16 (by decide) ?_
      refine r_ldc X zK_X11_93 dX11_against_31 ?_
      refine r_ireturn X hR dX11_against_33 rfl (Nat.zero_le _) (Nat.zero_le _) ?_
      exact Or.inl ⟨fun q => by first | exact hx q.1 | exact zif0 h23 q.2.1 | exact hxu q.2.2, rfl, rfl⟩
    · refine r_astore X (by decide) dX11_against_12 ?_
      refine r_aloadN X (by rfl) dX11_against_14 ?_
      refine r_ifnullN X 31 dX11_against_16 (by decide) ?_
      refine r_ldc X zK_X11_93 dX11_against_31 ?_
      refine r_ireturn X hR dX11_against_33 rfl (Nat.zero_le _) (Nat.zero_le _) ?_
      exact Or.inl ⟨fun q => by first | exact hx q.1 | exact zif0 h23 q.2.1 | exact hxu q.2.2, rfl, rfl⟩
  · refine r_astore X (by decide) dX11_against_5 ?_
    refine r_aload_n X (by rfl) dX11_against_7 ?_
    refine r_iload_n X (by rfl) dX11_against_8 ?_
    refine r_callV X dX11_against_9 zLV_X11_85 zCd_X11_scaleAt (c_X11_scaleAt _ G z τ ρ _ _ hL hJ _) (zt hL 0 rfl) ⟨by decide, rfl, rfl⟩ rfl rfl ⟨⟨rfl, rfl⟩, ⟨by decide, by decide⟩, ⟨Nat.le_of_ble_eq_true rfl, Nat.le_of_ble_eq_true rfl⟩, Nat.le_of_ble_eq_true rfl⟩ ?_
    rintro _ _ (⟨rfl, hxu, rfl⟩ | ⟨rfl, hxu, rfl⟩)
    · refine r_astoreN X (by decide) dX11_against_12 ?_
      refine r_aload X (by rfl) dX11_against_14 ?_
      refine r_ifnull X dX11_against_16 ?_
      refine r_iload_n X (by rfl) dX11_against_19 ?_
      refine r_callS X dX11_against_20 zLS_X11_89 zCd_X11_isNumber (c_X11_isNumber _ G z τ ρ _ _ _) rfl rfl ⟨⟨rfl, rfl⟩, ⟨by decide, by decide⟩, ⟨Nat.le_of_ble_eq_true rfl, Nat.le_of_ble_eq_true rfl⟩, Nat.le_of_ble_eq_true rfl⟩ ?_
      rintro _ _ ⟨rfl, rfl⟩
      refine r_if_eq X 31 dX11_against_23 (by decide) (fun h23 => ?_) (fun h23 => ?_)
      · refine r_ldc X zK_X11_93 dX11_against_31 ?_
        refine r_ireturn X hR dX11_against_33 rfl (Nat.zero_le _) (Nat.zero_le _) ?_
        exact Or.inl ⟨fun q => by first | exact hx q.1 | exact zif0 h23 q.2.1 | exact hxu q.2.2, rfl, rfl⟩
      · refine r_aloadN X (by rfl) dX11_against_26 ?_
        refine r_ifnonnullN X dX11_against_28 ?_
        refine r_ldc X zK_X11_93 dX11_against_31 ?_
        refine r_ireturn X hR dX11_against_33 rfl (Nat.zero_le _) (Nat.zero_le _) ?_
        exact Or.inl ⟨fun q => by first | exact hx q.1 | exact zif0 h23 q.2.1 | exact hxu q.2.2, rfl, rfl⟩
    · refine r_astore X (by decide) dX11_against_12 ?_
      refine r_aload X (by rfl) dX11_against_14 ?_
      refine r_ifnull X dX11_against_16 ?_
      refine r_iload_n X (by rfl) dX11_against_19 ?_
      refine r_callS X dX11_against_20 zLS_X11_89 zCd_X11_isNumber (c_X11_isNumber _ G z τ ρ _ _ _) rfl rfl ⟨⟨rfl, rfl⟩, ⟨by decide, by decide⟩, ⟨Nat.le_of_ble_eq_true rfl, Nat.le_of_ble_eq_true rfl⟩, Nat.le_of_ble_eq_true rfl⟩ ?_
      rintro _ _ ⟨rfl, rfl⟩
      refine r_if_eq X 31 dX11_against_23 (by decide) (fun h23 => ?_) (fun h23 => ?_)
      · refine r_ldc X zK_X11_93 dX11_against_31 ?_
        refine r_ireturn X hR dX11_against_33 rfl (Nat.zero_le _) (Nat.zero_le _) ?_
        exact Or.inl ⟨fun q => by first | exact hx q.1 | exact zif0 h23 q.2.1 | exact hxu q.2.2, rfl, rfl⟩
      · refine r_aload X (by rfl) dX11_against_26 ?_
        refine r_ifnonnull X 34 dX11_against_28 (by decide) ?_
        refine r_aload X (by rfl) dX11_against_34 ?_
        refine r_iload_n X (by rfl) dX11_against_36 ?_
        refine r_aload_n X (by rfl) dX11_against_37 ?_
        refine r_getI X dX11_against_38 zF_X11_74 (zt hL 0 rfl) ?_
        refine r_aload_n X (by rfl) dX11_against_41 ?_
        refine r_getR X dX11_against_42 zF_X11_10 (zt hL 0 rfl) (zrf hL 0 rfl) ?_
        refine r_callV X dX11_against_45 zLV_X11_94 zCd_X7_placeOf (c_X7_placeOfF _ G z τ ρ _ _ (zt hL 1 rfl) (zrf hL 9 rfl) (zrf hL 10 rfl) (zrf hL 11 rfl) (zrf hL 12 rfl) (zrf hL 13 rfl) (zt hL 2 rfl) (zt hL 3 rfl) (zt hL 4 rfl) (zt hL 5 rfl) (zt hL 6 rfl) (by omega) (by omega) (hsc hx).1 (by omega) _ _ (zif1 h23).1 (zif1 h23).2 hPF.1.1 hPF.1.2 (hpf hx).1.1 (hpf hx).1.2 (hpf hx).2.1 (hpf hx).2.2) (hsc hx).1 ⟨by decide, rfl, rfl⟩ rfl rfl ⟨⟨rfl, rfl⟩, ⟨by decide, by decide⟩, ⟨Nat.le_of_ble_eq_true rfl, Nat.le_of_ble_eq_true rfl⟩, Nat.le_of_ble_eq_true rfl⟩ ?_
        rintro _ _ ⟨κ2, rfl, rfl⟩
        refine r_istore X (by decide) dX11_against_48 ?_
        refine r_aload X (by rfl) dX11_against_50 ?_
        refine r_getI X dX11_against_52 zF_X11_134 (hsc hx).1 ?_
        refine r_if_eq X 67 dX11_against_55 (by decide) (fun h55 => ?_) (fun h55 => ?_)
        · refine r_aload X (by rfl) dX11_against_67 ?_
          refine r_getI X dX11_against_69 zF_X11_134 (hscu hxu).1 ?_
          refine r_if_eq X 84 dX11_against_72 (by decide) (fun h72 => ?_) (fun h72 => ?_)
          · refine r_iload X (by rfl) dX11_against_84 ?_
            refine r_ireturn X hR dX11_against_86 rfl (Nat.zero_le _) (Nat.zero_le _) ?_
            exact Or.inr ⟨⟨hx, zif1 h23, hxu⟩, _, by rw [if_pos h55, if_pos h72, Int32.add_zero, Int32.sub_zero]; rfl, rfl⟩
          · refine r_iload X (by rfl) dX11_against_75 ?_
            refine r_aload_n X (by rfl) dX11_against_77 ?_
            refine r_getI X dX11_against_78 zF_X11_77 (zt hL 0 rfl) ?_
            refine r_isub X dX11_against_81 ?_
            refine r_istore X (by decide) dX11_against_82 ?_
            refine r_iload X (by rfl) dX11_against_84 ?_
            refine r_ireturn X hR dX11_against_86 rfl (Nat.zero_le _) (Nat.zero_le _) ?_
            exact Or.inr ⟨⟨hx, zif1 h23, hxu⟩, _, by rw [if_pos h55, if_neg h72, Int32.add_zero]; rfl, rfl⟩
        · refine r_iload X (by rfl) dX11_against_58 ?_
          refine r_aload_n X (by rfl) dX11_against_60 ?_
          refine r_getI X dX11_against_61 zF_X11_77 (zt hL 0 rfl) ?_
          refine r_iadd X dX11_against_64 ?_
          refine r_istore X (by decide) dX11_against_65 ?_
          refine r_aload X (by rfl) dX11_against_67 ?_
          refine r_getI X dX11_against_69 zF_X11_134 (hscu hxu).1 ?_
          refine r_if_eq X 84 dX11_against_72 (by decide) (fun h72 => ?_) (fun h72 => ?_)
          · refine r_iload X (by rfl) dX11_against_84 ?_
            refine r_ireturn X hR dX11_against_86 rfl (Nat.zero_le _) (Nat.zero_le _) ?_
            exact Or.inr ⟨⟨hx, zif1 h23, hxu⟩, _, by rw [if_neg h55, if_pos h72, Int32.sub_zero]; rfl, rfl⟩
          · refine r_iload X (by rfl) dX11_against_75 ?_
            refine r_aload_n X (by rfl) dX11_against_77 ?_
            refine r_getI X dX11_against_78 zF_X11_77 (zt hL 0 rfl) ?_
            refine r_isub X dX11_against_81 ?_
            refine r_istore X (by decide) dX11_against_82 ?_
            refine r_iload X (by rfl) dX11_against_84 ?_
            refine r_ireturn X hR dX11_against_86 rfl (Nat.zero_le _) (Nat.zero_le _) ?_
            exact Or.inr ⟨⟨hx, zif1 h23, hxu⟩, _, by rw [if_neg h55, if_neg h72]; rfl, rfl⟩
set_option maxHeartbeats 4000000 in
set_option maxRecDepth 100000 in
theorem e_X11_scalesOnSlide (l : Launch) (G : zG) (z : Nat) (τ : Nat → Option (Nat × Nat)) (ρ : Nat → Nat → Option Nat) (ι : Nat → Nat → Int32) (κ : Nat → Nat → Int64) {B c : Nat} (hL : zLay τ ρ B c) (hJ : zJ B c ι) : zM l G yX11_scalesOnSlide cX11_scalesOnSlide 3 (some .int) ({ frames := 0, cells := 0, slots := 0, locals := 0 } : Room) [.ref B] (z, τ, ρ, ι, κ) (fun v s => ∃ r, v = some (.int r) ∧ s = (z, τ, ρ, ι, κ) ∧ r.toInt = zOc B ι c) 0 0 := by
  refine zM_of zCd_X11_scalesOnSlide (Nat.le_of_ble_eq_true rfl) ?_
  intro E X hR hE
  subst hE
  show zW E G 3 (z, τ, ρ, ι, κ) 0 0 0 [(0, .ref B)] []
  obtain ⟨h8, ⟨hc1, hc2, hc3, hc4, hc5⟩, hJm⟩ := id hJ
  have L4 : ∀ (m : Nat) (i p : Int32), (8 - i.toInt).toNat < m → 0 ≤ i.toInt → i.toInt ≤ (c : Int) → p.toInt = zOc B ι i.toNatClampNeg → zW E G 3 (z, τ, ρ, ι, κ) 0 0 4 [(0, .ref B), (1, .int p), (2, .int i)] [] := by
    intro m
    induction m with
    | zero => intro i p h; omega
    | succ m ih => ?_
    intro i p hm h0 hc9 hp
    have hin := zclN h0
    have hob := zOc_b B ι i.toNatClampNeg
    refine r_iload_n X (by rfl) dX11_scalesOnSlide_4 ?_
    refine r_aload_n X (by rfl) dX11_scalesOnSlide_5 ?_
    refine r_getI X dX11_scalesOnSlide_6 zF_X11_70 (zt hL 0 rfl) ?_
    refine r_icmp_ge X 33 dX11_scalesOnSlide_9 (by decide) (fun h9 => ?_) (fun h9 => ?_)
    · refine r_iload_n X (by rfl) dX11_scalesOnSlide_33 ?_
      refine r_ireturn X hR dX11_scalesOnSlide_34 rfl (Nat.zero_le _) (Nat.zero_le _) ?_
      exact ⟨_, rfl, rfl, by rw [show i.toNatClampNeg = c by omega] at hp; exact hp⟩
    · refine r_aload_n X (by rfl) dX11_scalesOnSlide_12 ?_
      refine r_getR X dX11_scalesOnSlide_13 zF_X11_25 (zt hL 0 rfl) (zrf hL 2 rfl) ?_
      refine r_iload_n X (by rfl) dX11_scalesOnSlide_16 ?_
      refine r_aaload X dX11_scalesOnSlide_17 (zt hL 10 rfl) (by decide) (vp_in_iff.mpr ⟨by omega, by omega⟩) (hL.2.2 i.toNatClampNeg (by omega)).1 ?_
      refine r_getI X dX11_scalesOnSlide_18 zF_X11_134 (hL.2.2 i.toNatClampNeg (by omega)).2.1 ?_
      refine r_if_eq X 27 dX11_scalesOnSlide_21 (by decide) (fun h21 => ?_) (fun h21 => ?_)
      · refine r_iinc X 1 (by decide) (by rfl) (by decide) dX11_scalesOnSlide_27 ?_
        refine r_goto X 4 dX11_scalesOnSlide_30 (by decide) ?_
        exact zW.loc3 (by rfl) (by rfl) (by rfl) (ih _ _ (by have e := zinc (x := i) (by omega); omega) (by have e := zinc (x := i) (by omega); omega) (by have e := zinc (x := i) (by omega); omega) (by have e := zinc (x := i) (by omega); have e2 := zclN (i := i + 1) (by omega); rw [show (i + 1).toNatClampNeg = i.toNatClampNeg + 1 by omega, zOc]; first | rw [if_pos h21]; omega | (rw [if_neg h21, zinc (x := p) (by omega)]; omega)))
      · refine r_iinc X 1 (by decide) (by rfl) (by decide) dX11_scalesOnSlide_24 ?_
        refine r_iinc X 1 (by decide) (by rfl) (by decide) dX11_scalesOnSlide_27 ?_
        refine r_goto X 4 dX11_scalesOnSlide_30 (by decide) ?_
        exact zW.loc3 (by rfl) (by rfl) (by rfl) (ih _ _ (by have e := zinc (x := i) (by omega); omega) (by have e := zinc (x := i) (by omega); omega) (by have e := zinc (x := i) (by omega); omega) (by have e := zinc (x := i) (by omega); have e2 := zclN (i := i + 1) (by omega); rw [show (i + 1).toNatClampNeg = i.toNatClampNeg + 1 by omega, zOc]; first | rw [if_pos h21]; omega | (rw [if_neg h21, zinc (x := p) (by omega)]; omega)))
  refine r_iconst X 0 (by decide) dX11_scalesOnSlide_0 ?_
  refine r_istore_n X (by decide) dX11_scalesOnSlide_1 ?_
  refine r_iconst X 0 (by decide) dX11_scalesOnSlide_2 ?_
  refine r_istore_n X (by decide) dX11_scalesOnSlide_3 ?_
  exact zW.loc3 (by rfl) (by rfl) (by rfl) (L4 9 _ _ (by decide) (by decide) (by rw [show Int32.toInt 0 = 0 from rfl]; omega) (by rfl))
set_option maxHeartbeats 4000000 in
set_option maxRecDepth 100000 in
theorem e_X11_count (l : Launch) (G : zG) (z : Nat) (τ : Nat → Option (Nat × Nat)) (ρ : Nat → Nat → Option Nat) (ι : Nat → Nat → Int32) (κ : Nat → Nat → Int64) {B c : Nat} (hL : zLay τ ρ B c) (hJ : zJ B c ι) (x : Int32) : zM l G yX11_count cX11_count 2 (some .int) ({ frames := 1, cells := 0, slots := 0, locals := 22 } : Room) [.ref B, .int x] (z, τ, ρ, ι, κ) (fun v s => ∃ r, v = some (.int r) ∧ s = (z, τ, ρ, ι, κ) ∧ zK1 B c ι x r) 0 0 := by
  refine zM_of zCd_X11_count (Nat.le_of_ble_eq_true rfl) ?_
  intro E X hR hE
  subst hE
  show zW E G 2 (z, τ, ρ, ι, κ) 0 0 0 [(0, .ref B), (1, .int x)] []
  refine r_iload_n X (by rfl) dX11_count_0 ?_
  have hsw : x.toInt = 0 + 0 ∨ x.toInt = 0 + 1 ∨ x.toInt = 0 + 2 ∨ x.toInt = 0 + 3 ∨ x.toInt = 0 + 4 ∨ x.toInt = 0 + 5 ∨ x.toInt = 0 + 6 ∨ (x.toInt < 0 ∨ 6 < x.toInt) := by omega
  rcases hsw with hs | hs | hs | hs | hs | hs | hs | hs
  · refine r_tableIn X (j0 := 0) 44 dX11_count_1 hs rfl (by decide) (by decide) (by decide) ?_
    refine r_aload_n X (by rfl) dX11_count_44 ?_
    refine r_getI X dX11_count_45 zF_X11_70 (zt hL 0 rfl) ?_
    refine r_ireturn X hR dX11_count_48 rfl (Nat.zero_le _) (Nat.zero_le _) ?_
    first | exact ⟨_, rfl, rfl, Or.inl ⟨by omega, rfl⟩⟩ | exact ⟨_, rfl, rfl, Or.inr (Or.inl ⟨by omega, hr⟩)⟩ | exact ⟨_, rfl, rfl, Or.inr (Or.inr (Or.inl ⟨by omega, rfl⟩))⟩ | exact ⟨_, rfl, rfl, Or.inr (Or.inr (Or.inr (Or.inl ⟨by omega, rfl⟩)))⟩ | exact ⟨_, rfl, rfl, Or.inr (Or.inr (Or.inr (Or.inr (Or.inl ⟨by omega, rfl⟩))))⟩ | exact ⟨_, rfl, rfl, Or.inr (Or.inr (Or.inr (Or.inr (Or.inr (Or.inl ⟨by omega, rfl⟩)))))⟩ | exact ⟨_, rfl, rfl, Or.inr (Or.inr (Or.inr (Or.inr (Or.inr (Or.inr (Or.inl ⟨by omega, rfl⟩))))))⟩ | exact ⟨_, rfl, rfl, Or.inr (Or.inr (Or.inr (Or.inr (Or.inr (Or.inr (Or.inr ⟨by omega, rfl⟩))))))⟩
  · refine r_tableIn X (j0 := 1) 49 dX11_count_1 hs rfl (by decide) (by decide) (by decide) ?_
    refine r_aload_n X (by rfl) dX11_count_49 ?_
    refine r_callV X dX11_count_50 zLV_X11_246 zCd_X11_scalesOnSlide (e_X11_scalesOnSlide _ G z τ ρ _ _ hL hJ) (zt hL 0 rfl) ⟨by decide, rfl, rfl⟩ rfl rfl ⟨⟨rfl, rfl⟩, ⟨by decide, by decide⟩, ⟨Nat.le_of_ble_eq_true rfl, Nat.le_of_ble_eq_true rfl⟩, Nat.le_of_ble_eq_true rfl⟩ ?_
    rintro _ _ ⟨r, rfl, rfl, hr⟩
    refine r_ireturn X hR dX11_count_53 rfl (Nat.zero_le _) (Nat.zero_le _) ?_
    first | exact ⟨_, rfl, rfl, Or.inl ⟨by omega, rfl⟩⟩ | exact ⟨_, rfl, rfl, Or.inr (Or.inl ⟨by omega, hr⟩)⟩ | exact ⟨_, rfl, rfl, Or.inr (Or.inr (Or.inl ⟨by omega, rfl⟩))⟩ | exact ⟨_, rfl, rfl, Or.inr (Or.inr (Or.inr (Or.inl ⟨by omega, rfl⟩)))⟩ | exact ⟨_, rfl, rfl, Or.inr (Or.inr (Or.inr (Or.inr (Or.inl ⟨by omega, rfl⟩))))⟩ | exact ⟨_, rfl, rfl, Or.inr (Or.inr (Or.inr (Or.inr (Or.inr (Or.inl ⟨by omega, rfl⟩)))))⟩ | exact ⟨_, rfl, rfl, Or.inr (Or.inr (Or.inr (Or.inr (Or.inr (Or.inr (Or.inl ⟨by omega, rfl⟩))))))⟩ | exact ⟨_, rfl, rfl, Or.inr (Or.inr (Or.inr (Or.inr (Or.inr (Or.inr (Or.inr ⟨by omega, rfl⟩))))))⟩
  · refine r_tableIn X (j0 := 2) 54 dX11_count_1 hs rfl (by decide) (by decide) (by decide) ?_
    refine r_aload_n X (by rfl) dX11_count_54 ?_
    refine r_getI X dX11_count_55 zF_X11_77 (zt hL 0 rfl) ?_
    refine r_ireturn X hR dX11_count_58 rfl (Nat.zero_le _) (Nat.zero_le _) ?_
    first | exact ⟨_, rfl, rfl, Or.inl ⟨by omega, rfl⟩⟩ | exact ⟨_, rfl, rfl, Or.inr (Or.inl ⟨by omega, hr⟩)⟩ | exact ⟨_, rfl, rfl, Or.inr (Or.inr (Or.inl ⟨by omega, rfl⟩))⟩ | exact ⟨_, rfl, rfl, Or.inr (Or.inr (Or.inr (Or.inl ⟨by omega, rfl⟩)))⟩ | exact ⟨_, rfl, rfl, Or.inr (Or.inr (Or.inr (Or.inr (Or.inl ⟨by omega, rfl⟩))))⟩ | exact ⟨_, rfl, rfl, Or.inr (Or.inr (Or.inr (Or.inr (Or.inr (Or.inl ⟨by omega, rfl⟩)))))⟩ | exact ⟨_, rfl, rfl, Or.inr (Or.inr (Or.inr (Or.inr (Or.inr (Or.inr (Or.inl ⟨by omega, rfl⟩))))))⟩ | exact ⟨_, rfl, rfl, Or.inr (Or.inr (Or.inr (Or.inr (Or.inr (Or.inr (Or.inr ⟨by omega, rfl⟩))))))⟩
  · refine r_tableIn X (j0 := 3) 59 dX11_count_1 hs rfl (by decide) (by decide) (by decide) ?_
    refine r_aload_n X (by rfl) dX11_count_59 ?_
    refine r_getR X dX11_count_60 zF_X11_32 (zt hL 0 rfl) (zrf hL 3 rfl) ?_
    refine r_getR X dX11_count_63 zF_X11_150 (zt hL 11 rfl) (zrf hL 15 rfl) ?_
    refine r_getI X dX11_count_66 zF_X11_117 (zt hL 12 rfl) ?_
    refine r_ireturn X hR dX11_count_69 rfl (Nat.zero_le _) (Nat.zero_le _) ?_
    first | exact ⟨_, rfl, rfl, Or.inl ⟨by omega, rfl⟩⟩ | exact ⟨_, rfl, rfl, Or.inr (Or.inl ⟨by omega, hr⟩)⟩ | exact ⟨_, rfl, rfl, Or.inr (Or.inr (Or.inl ⟨by omega, rfl⟩))⟩ | exact ⟨_, rfl, rfl, Or.inr (Or.inr (Or.inr (Or.inl ⟨by omega, rfl⟩)))⟩ | exact ⟨_, rfl, rfl, Or.inr (Or.inr (Or.inr (Or.inr (Or.inl ⟨by omega, rfl⟩))))⟩ | exact ⟨_, rfl, rfl, Or.inr (Or.inr (Or.inr (Or.inr (Or.inr (Or.inl ⟨by omega, rfl⟩)))))⟩ | exact ⟨_, rfl, rfl, Or.inr (Or.inr (Or.inr (Or.inr (Or.inr (Or.inr (Or.inl ⟨by omega, rfl⟩))))))⟩ | exact ⟨_, rfl, rfl, Or.inr (Or.inr (Or.inr (Or.inr (Or.inr (Or.inr (Or.inr ⟨by omega, rfl⟩))))))⟩
  · refine r_tableIn X (j0 := 4) 70 dX11_count_1 hs rfl (by decide) (by decide) (by decide) ?_
    refine r_aload_n X (by rfl) dX11_count_70 ?_
    refine r_getR X dX11_count_71 zF_X11_52 (zt hL 0 rfl) (zrf hL 6 rfl) ?_
    refine r_iconst X 0 (by decide) dX11_count_74 ?_
    refine r_aaload X dX11_count_75 (zt hL 28 rfl) (by decide) (vp_in_iff.mpr ⟨by decide, by decide⟩) (zrf hL 29 rfl) ?_
    refine r_getR X dX11_count_76 zF_X11_218 (zt hL 32 rfl) (zrf hL 32 rfl) ?_
    refine r_getI X dX11_count_79 zF_X11_117 (zt hL 33 rfl) ?_
    refine r_ireturn X hR dX11_count_82 rfl (Nat.zero_le _) (Nat.zero_le _) ?_
    first | exact ⟨_, rfl, rfl, Or.inl ⟨by omega, rfl⟩⟩ | exact ⟨_, rfl, rfl, Or.inr (Or.inl ⟨by omega, hr⟩)⟩ | exact ⟨_, rfl, rfl, Or.inr (Or.inr (Or.inl ⟨by omega, rfl⟩))⟩ | exact ⟨_, rfl, rfl, Or.inr (Or.inr (Or.inr (Or.inl ⟨by omega, rfl⟩)))⟩ | exact ⟨_, rfl, rfl, Or.inr (Or.inr (Or.inr (Or.inr (Or.inl ⟨by omega, rfl⟩))))⟩ | exact ⟨_, rfl, rfl, Or.inr (Or.inr (Or.inr (Or.inr (Or.inr (Or.inl ⟨by omega, rfl⟩)))))⟩ | exact ⟨_, rfl, rfl, Or.inr (Or.inr (Or.inr (Or.inr (Or.inr (Or.inr (Or.inl ⟨by omega, rfl⟩))))))⟩ | exact ⟨_, rfl, rfl, Or.inr (Or.inr (Or.inr (Or.inr (Or.inr (Or.inr (Or.inr ⟨by omega, rfl⟩))))))⟩
  · refine r_tableIn X (j0 := 5) 83 dX11_count_1 hs rfl (by decide) (by decide) (by decide) ?_
    refine r_aload_n X (by rfl) dX11_count_83 ?_
    refine r_getR X dX11_count_84 zF_X11_52 (zt hL 0 rfl) (zrf hL 6 rfl) ?_
    refine r_iconst X 1 (by decide) dX11_count_87 ?_
    refine r_aaload X dX11_count_88 (zt hL 28 rfl) (by decide) (vp_in_iff.mpr ⟨by decide, by decide⟩) (zrf hL 30 rfl) ?_
    refine r_getR X dX11_count_89 zF_X11_218 (zt hL 35 rfl) (zrf hL 34 rfl) ?_
    refine r_getI X dX11_count_92 zF_X11_117 (zt hL 36 rfl) ?_
    refine r_ireturn X hR dX11_count_95 rfl (Nat.zero_le _) (Nat.zero_le _) ?_
    first | exact ⟨_, rfl, rfl, Or.inl ⟨by omega, rfl⟩⟩ | exact ⟨_, rfl, rfl, Or.inr (Or.inl ⟨by omega, hr⟩)⟩ | exact ⟨_, rfl, rfl, Or.inr (Or.inr (Or.inl ⟨by omega, rfl⟩))⟩ | exact ⟨_, rfl, rfl, Or.inr (Or.inr (Or.inr (Or.inl ⟨by omega, rfl⟩)))⟩ | exact ⟨_, rfl, rfl, Or.inr (Or.inr (Or.inr (Or.inr (Or.inl ⟨by omega, rfl⟩))))⟩ | exact ⟨_, rfl, rfl, Or.inr (Or.inr (Or.inr (Or.inr (Or.inr (Or.inl ⟨by omega, rfl⟩)))))⟩ | exact ⟨_, rfl, rfl, Or.inr (Or.inr (Or.inr (Or.inr (Or.inr (Or.inr (Or.inl ⟨by omega, rfl⟩))))))⟩ | exact ⟨_, rfl, rfl, Or.inr (Or.inr (Or.inr (Or.inr (Or.inr (Or.inr (Or.inr ⟨by omega, rfl⟩))))))⟩
  · refine r_tableIn X (j0 := 6) 96 dX11_count_1 hs rfl (by decide) (by decide) (by decide) ?_
    refine r_aload_n X (by rfl) dX11_count_96 ?_
    refine r_getI X dX11_count_97 zF_X11_74 (zt hL 0 rfl) ?_
    refine r_ireturn X hR dX11_count_100 rfl (Nat.zero_le _) (Nat.zero_le _) ?_
    first | exact ⟨_, rfl, rfl, Or.inl ⟨by omega, rfl⟩⟩ | exact ⟨_, rfl, rfl, Or.inr (Or.inl ⟨by omega, hr⟩)⟩ | exact ⟨_, rfl, rfl, Or.inr (Or.inr (Or.inl ⟨by omega, rfl⟩))⟩ | exact ⟨_, rfl, rfl, Or.inr (Or.inr (Or.inr (Or.inl ⟨by omega, rfl⟩)))⟩ | exact ⟨_, rfl, rfl, Or.inr (Or.inr (Or.inr (Or.inr (Or.inl ⟨by omega, rfl⟩))))⟩ | exact ⟨_, rfl, rfl, Or.inr (Or.inr (Or.inr (Or.inr (Or.inr (Or.inl ⟨by omega, rfl⟩)))))⟩ | exact ⟨_, rfl, rfl, Or.inr (Or.inr (Or.inr (Or.inr (Or.inr (Or.inr (Or.inl ⟨by omega, rfl⟩))))))⟩ | exact ⟨_, rfl, rfl, Or.inr (Or.inr (Or.inr (Or.inr (Or.inr (Or.inr (Or.inr ⟨by omega, rfl⟩))))))⟩
  · refine r_tableOut X 101 dX11_count_1 hs (by decide) ?_
    refine r_ldc X zK_X11_93 dX11_count_101 ?_
    refine r_ireturn X hR dX11_count_103 rfl (Nat.zero_le _) (Nat.zero_le _) ?_
    first | exact ⟨_, rfl, rfl, Or.inl ⟨by omega, rfl⟩⟩ | exact ⟨_, rfl, rfl, Or.inr (Or.inl ⟨by omega, hr⟩)⟩ | exact ⟨_, rfl, rfl, Or.inr (Or.inr (Or.inl ⟨by omega, rfl⟩))⟩ | exact ⟨_, rfl, rfl, Or.inr (Or.inr (Or.inr (Or.inl ⟨by omega, rfl⟩)))⟩ | exact ⟨_, rfl, rfl, Or.inr (Or.inr (Or.inr (Or.inr (Or.inl ⟨by omega, rfl⟩))))⟩ | exact ⟨_, rfl, rfl, Or.inr (Or.inr (Or.inr (Or.inr (Or.inr (Or.inl ⟨by omega, rfl⟩)))))⟩ | exact ⟨_, rfl, rfl, Or.inr (Or.inr (Or.inr (Or.inr (Or.inr (Or.inr (Or.inl ⟨by omega, rfl⟩))))))⟩ | exact ⟨_, rfl, rfl, Or.inr (Or.inr (Or.inr (Or.inr (Or.inr (Or.inr (Or.inr ⟨by omega, rfl⟩))))))⟩
