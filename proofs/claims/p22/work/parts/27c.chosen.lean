/-! CHOSEN, exactly (wip/gen/spec_y.py) -/
/-- what is CHOSEN among n places f i, f (i + 1) .., when m are chosen, the last l -/
def zCh (f : Nat → Int) (d w : Int) : Nat → Nat → Int → Int → Int
  | 0, _, m, _ => if w = -1 then m else -1
  | n + 1, i, m, l => if m = 0 ∨ d ≤ f i - l then (if m = w then f i else zCh f d w n (i + 1) (m + 1) (f i)) else zCh f d w n (i + 1) m l
theorem zCh_cong {f g : Nat → Int} {d w : Int} : ∀ n i m l, (∀ k, i ≤ k → k < i + n → f k = g k) → zCh f d w n i m l = zCh g d w n i m l := by
  intro n
  induction n with
  | zero => intro i m l h; rfl
  | succ n ih =>
    intro i m l h
    rw [zCh, zCh, h i (Nat.le_refl i) (by omega), ih (i + 1) (m + 1) (g i) (fun k h1 h2 => h k (by omega) (by omega)), ih (i + 1) m l (fun k h1 h2 => h k (by omega) (by omega))]
theorem zRt_m {B c : Nat} {ι : Nat → Nat → Int32} (hR : zRel B c ι) {x : Int32} (hx : 0 ≤ x.toInt ∧ x.toInt ≤ 1) : ∀ k : Nat, (k : Int) < (ι (B + 48) x.toNatClampNeg).toInt → 0 ≤ (ι (B + 49) (60 * x.toNatClampNeg + k)).toInt ∧ (ι (B + 49) (60 * x.toNatClampNeg + k)).toInt ≤ 1000000 := fun k hk => by
  have hn := zclN hx.1
  exact ((hR.2.2.2.1 x.toNatClampNeg (by omega)).2.1 k hk).2
theorem zRt_v {B c : Nat} {ι : Nat → Nat → Int32} (hR : zRel B c ι) {x : Int32} (hx : 0 ≤ x.toInt ∧ x.toInt < 2) : ∀ k : Nat, (k : Int) < (ι (B + 33 + 3 * x.toNatClampNeg) 1).toInt → 0 ≤ (ι (B + 34 + 3 * x.toNatClampNeg) k).toInt ∧ (ι (B + 34 + 3 * x.toNatClampNeg) k).toInt ≤ 1000000 := fun k hk => by
  have hn := zclN hx.1
  obtain ⟨h1, h2, -⟩ := hR.2.2.2.1 x.toNatClampNeg (by omega)
  rw [h1] at hk
  have h3 := h2 k hk
  rw [h3.1]
  exact h3.2

set_option maxHeartbeats 4000000 in
set_option maxRecDepth 100000 in
theorem e_X9_choose (l : Launch) (G : zG) (z : Nat) (τ : Nat → Option (Nat × Nat)) (ρ : Nat → Nat → Option Nat) (ι : Nat → Nat → Int32) (κ : Nat → Nat → Int64) {a f e M1 M2 : Nat} (ha : τ a = some (9, M1)) (g0 : ρ a 0 = some f) (hf6 : τ f = some (6, M2)) (hv0 : ρ f 0 = some e) (hv : τ e = some (13, 60)) (n0 : 0 ≤ (ι f 1).toInt) (n1 : (ι f 1).toInt ≤ 60) (x y : Int32) (hV : ∀ k : Nat, (k : Int) < (ι f 1).toInt → 0 ≤ (ι e k).toInt ∧ (ι e k).toInt ≤ 1000000) : zM l G yX9_choose cX9_choose 7 (some .int) ({ frames := 0, cells := 0, slots := 0, locals := 0 } : Room) [.ref a, .int x, .int y] (z, τ, ρ, ι, κ) (fun v s => ∃ r, v = some (.int r) ∧ r.toInt = zCh (fun k => (ι e k).toInt) x.toInt y.toInt (ι f 1).toInt.toNat 0 0 0 ∧ s = (z, τ, ρ, ι, κ)) 0 0 := by
  refine zM_of zCd_X9_choose (Nat.le_of_ble_eq_true rfl) ?_
  intro E X hR hE
  subst hE
  show zW E G 7 (z, τ, ρ, ι, κ) 0 0 0 [(0, .ref a), (1, .int x), (2, .int y)] []
  obtain ⟨Z, hZ⟩ : ∃ Z, zCh (fun k => (ι e k).toInt) x.toInt y.toInt (ι f 1).toInt.toNat 0 0 0 = Z := ⟨_, rfl⟩
  have L8 : ∀ (m : Nat) (i p q : Int32), (60 - i.toInt).toNat < m → 0 ≤ i.toInt → i.toInt ≤ (ι f 1).toInt → 0 ≤ p.toInt → p.toInt ≤ i.toInt → 0 ≤ q.toInt → q.toInt ≤ 1000000 → zCh (fun k => (ι e k).toInt) x.toInt y.toInt ((ι f 1).toInt - i.toInt).toNat i.toNatClampNeg p.toInt q.toInt = Z → zW E G 7 (z, τ, ρ, ι, κ) 0 0 8 [(0, .ref a), (1, .int x), (2, .int y), (3, .int p), (4, .int q), (5, .int i)] [] := by
    intro m
    induction m with
    | zero => intro i p q h; omega
    | succ m ih => ?_
    intro i p q hm h0 hi p0 p1 q0 q1 hc
    refine r_iload X (by rfl) dX9_choose_8 ?_
    refine r_aload_n X (by rfl) dX9_choose_10 ?_
    refine r_getR X dX9_choose_11 zF_X9_16 ha g0 ?_
    refine r_getI X dX9_choose_14 zF_X9_20 hf6 ?_
    refine r_icmp_ge X 66 dX9_choose_17 (by decide) (fun h17 => ?_) (fun h17 => ?_)
    · refine r_iload_n X (by rfl) dX9_choose_66 ?_
      refine r_iconst X (-1) (by decide) dX9_choose_67 ?_
      refine r_icmp_ne X 75 dX9_choose_68 (by decide) (fun h68 => ?_) (fun h68 => ?_)
      · refine r_iconst X (-1) (by decide) dX9_choose_75 ?_
        refine r_ireturn X hR dX9_choose_76 rfl (Nat.zero_le _) (Nat.zero_le _) ?_
        have hz : ((ι f 1).toInt - i.toInt).toNat = 0 := by omega
        rw [hz, zCh] at hc
        rw [if_neg (fun ee => h68 (Int32.toInt_inj.mp (by rw [ee]; rfl)))] at hc
        exact ⟨_, rfl, hc.trans hZ.symm, rfl⟩
      · refine r_iload_n X (by rfl) dX9_choose_71 ?_
        refine r_goto X 76 dX9_choose_72 (by decide) ?_
        refine r_ireturn X hR dX9_choose_76 rfl (Nat.zero_le _) (Nat.zero_le _) ?_
        have hz : ((ι f 1).toInt - i.toInt).toNat = 0 := by omega
        rw [hz, zCh] at hc
        rw [if_pos (by rw [h68]; rfl)] at hc
        exact ⟨_, rfl, hc.trans hZ.symm, rfl⟩
    · obtain ⟨n, hn⟩ : ∃ n, ((ι f 1).toInt - i.toInt).toNat = n + 1 := ⟨((ι f 1).toInt - i.toInt).toNat - 1, by omega⟩
      rw [hn, zCh] at hc
      have hin := zclN h0
      have hvb := hV i.toNatClampNeg (by omega)
      have ei := zinc (x := i) (by omega)
      have ei2 : (i + 1).toNatClampNeg = i.toNatClampNeg + 1 := by have := zclN (i := i + 1) (by omega); omega
      have ep := zinc (x := p) (by omega)
      have hn2 : ((ι f 1).toInt - (i + 1).toInt).toNat = n := by omega
      refine r_aload_n X (by rfl) dX9_choose_20 ?_
      refine r_getR X dX9_choose_21 zF_X9_16 ha g0 ?_
      refine r_getR X dX9_choose_24 zF_X9_24 hf6 hv0 ?_
      refine r_iload X (by rfl) dX9_choose_27 ?_
      refine r_iaload X dX9_choose_29 hv (vp_in_iff.mpr ⟨h0, by omega⟩) ?_
      refine r_istore X (by decide) dX9_choose_30 ?_
      refine r_iload_n X (by rfl) dX9_choose_32 ?_
      refine r_if_eq X 45 dX9_choose_33 (by decide) (fun h33 => ?_) (fun h33 => ?_)
      · rw [if_pos (by first | exact Or.inl (by rw [h33]; rfl) | exact Or.inr (by show x.toInt ≤ (ι e i.toNatClampNeg).toInt - q.toInt; omega))] at hc
        refine r_iload_n X (by rfl) dX9_choose_45 ?_
        refine r_iload_n X (by rfl) dX9_choose_46 ?_
        refine r_icmp_ne X 53 dX9_choose_47 (by decide) (fun h47 => ?_) (fun h47 => ?_)
        · rw [if_neg (fun e => h47 (Int32.toInt_inj.mp e))] at hc
          refine r_iload X (by rfl) dX9_choose_53 ?_
          refine r_istore X (by decide) dX9_choose_55 ?_
          refine r_iinc X 1 (by decide) (by rfl) (by decide) dX9_choose_57 ?_
          refine r_iinc X 1 (by decide) (by rfl) (by decide) dX9_choose_60 ?_
          refine r_goto X 8 dX9_choose_63 (by decide) ?_
          exact zW.loc6 (by rfl) (by rfl) (by rfl) (by rfl) (by rfl) (by rfl) (ih _ _ _ (by omega) (by omega) (by omega) (by omega) (by omega) (by omega) (by omega) (by rw [hn2, ei2]; first | exact hc | (rw [ep]; exact hc)))
        · refine r_iload X (by rfl) dX9_choose_50 ?_
          refine r_ireturn X hR dX9_choose_52 rfl (Nat.zero_le _) (Nat.zero_le _) ?_
          rw [if_pos (by rw [h47])] at hc
          exact ⟨_, rfl, hc.trans hZ.symm, rfl⟩
      · have hs : ((ι e i.toNatClampNeg) - q).toInt = (ι e i.toNatClampNeg).toInt - q.toInt := zsubI (by omega) (by omega)
        refine r_iload X (by rfl) dX9_choose_36 ?_
        refine r_iload X (by rfl) dX9_choose_38 ?_
        refine r_isub X dX9_choose_40 ?_
        refine r_iload_n X (by rfl) dX9_choose_41 ?_
        refine r_icmp_lt X 60 dX9_choose_42 (by decide) (fun h42 => ?_) (fun h42 => ?_)
        · rw [if_neg (fun ee => by
            rcases ee with ee | ee
            · exact h33 (Int32.toInt_inj.mp ee)
            · change x.toInt ≤ (ι e i.toNatClampNeg).toInt - q.toInt at ee; omega)] at hc
          refine r_iinc X 1 (by decide) (by rfl) (by decide) dX9_choose_60 ?_
          refine r_goto X 8 dX9_choose_63 (by decide) ?_
          exact zW.loc6 (by rfl) (by rfl) (by rfl) (by rfl) (by rfl) (by rfl) (ih _ _ _ (by omega) (by omega) (by omega) (by omega) (by omega) (by omega) (by omega) (by rw [hn2, ei2]; first | exact hc | (rw [ep]; exact hc)))
        · rw [if_pos (by first | exact Or.inl (by rw [h33]; rfl) | exact Or.inr (by show x.toInt ≤ (ι e i.toNatClampNeg).toInt - q.toInt; omega))] at hc
          refine r_iload_n X (by rfl) dX9_choose_45 ?_
          refine r_iload_n X (by rfl) dX9_choose_46 ?_
          refine r_icmp_ne X 53 dX9_choose_47 (by decide) (fun h47 => ?_) (fun h47 => ?_)
          · rw [if_neg (fun e => h47 (Int32.toInt_inj.mp e))] at hc
            refine r_iload X (by rfl) dX9_choose_53 ?_
            refine r_istore X (by decide) dX9_choose_55 ?_
            refine r_iinc X 1 (by decide) (by rfl) (by decide) dX9_choose_57 ?_
            refine r_iinc X 1 (by decide) (by rfl) (by decide) dX9_choose_60 ?_
            refine r_goto X 8 dX9_choose_63 (by decide) ?_
            exact zW.loc6 (by rfl) (by rfl) (by rfl) (by rfl) (by rfl) (by rfl) (ih _ _ _ (by omega) (by omega) (by omega) (by omega) (by omega) (by omega) (by omega) (by rw [hn2, ei2]; first | exact hc | (rw [ep]; exact hc)))
          · refine r_iload X (by rfl) dX9_choose_50 ?_
            refine r_ireturn X hR dX9_choose_52 rfl (Nat.zero_le _) (Nat.zero_le _) ?_
            rw [if_pos (by rw [h47])] at hc
            exact ⟨_, rfl, hc.trans hZ.symm, rfl⟩
  refine r_iconst X 0 (by decide) dX9_choose_0 ?_
  refine r_istore_n X (by decide) dX9_choose_1 ?_
  refine r_iconst X 0 (by decide) dX9_choose_2 ?_
  refine r_istore X (by decide) dX9_choose_3 ?_
  refine r_iconst X 0 (by decide) dX9_choose_5 ?_
  refine r_istore X (by decide) dX9_choose_6 ?_
  exact zW.loc6 (by rfl) (by rfl) (by rfl) (by rfl) (by rfl) (by rfl) (L8 61 _ _ _ (by decide) (by decide) (by rw [show Int32.toInt 0 = 0 from rfl]; omega) (by decide) (by decide) (by decide) (by decide) (by rw [show Int32.toInt 0 = 0 from rfl, Int.sub_zero]; exact hZ))
set_option maxHeartbeats 4000000 in
set_option maxRecDepth 100000 in
theorem e_X11_chosen (l : Launch) (G : zG) (z : Nat) (τ : Nat → Option (Nat × Nat)) (ρ : Nat → Nat → Option Nat) (ι : Nat → Nat → Int32) (κ : Nat → Nat → Int64) {B c : Nat} (hL : zLay τ ρ B c) (hJ : zJ B c ι) (hRl : zRel B c ι) (x y u : Int32) : zM l G yX11_chosen cX11_chosen 4 (some .int) ({ frames := 1, cells := 0, slots := 0, locals := 26 } : Room) [.ref B, .int x, .int y, .int u] (z, τ, ρ, ι, κ) (fun v s => ∃ r, v = some (.int r) ∧ s = (z, τ, ρ, ι, κ) ∧ ((¬ ((0 ≤ x.toInt ∧ x.toInt < 2) ∧ (1 ≤ y.toInt ∧ y.toInt ≤ 100000) ∧ -1 ≤ u.toInt) ∧ r = -2) ∨ (((0 ≤ x.toInt ∧ x.toInt < 2) ∧ (1 ≤ y.toInt ∧ y.toInt ≤ 100000) ∧ -1 ≤ u.toInt) ∧ r.toInt = zCh (fun k => (ι (B + 34 + 3 * x.toNatClampNeg) k).toInt) y.toInt u.toInt (ι (B + 33 + 3 * x.toNatClampNeg) 1).toInt.toNat 0 0 0))) 0 0 := by
  refine zM_of zCd_X11_chosen (Nat.le_of_ble_eq_true rfl) ?_
  intro E X hR hE
  subst hE
  show zW E G 4 (z, τ, ρ, ι, κ) 0 0 0 [(0, .ref B), (1, .int x), (2, .int y), (3, .int u)] []
  obtain ⟨h8, ⟨hc1, hc2, hc3, hc4, hc5⟩, hJm⟩ := id hJ
  have hst : (0 ≤ x.toInt ∧ x.toInt < 2) → τ (B + 32 + 3 * x.toNatClampNeg) = some (9, 0) ∧ ρ (B + 32 + 3 * x.toNatClampNeg) 0 = some (B + 33 + 3 * x.toNatClampNeg) ∧ τ (B + 33 + 3 * x.toNatClampNeg) = some (6, 0) ∧ ρ (B + 33 + 3 * x.toNatClampNeg) 0 = some (B + 34 + 3 * x.toNatClampNeg) ∧ τ (B + 34 + 3 * x.toNatClampNeg) = some (13, 60) := fun h => (zStr hL (by have := zclN h.1; omega)).2
  have hsz : (0 ≤ x.toInt ∧ x.toInt < 2) → 0 ≤ (ι (B + 33 + 3 * x.toNatClampNeg) 1).toInt ∧ (ι (B + 33 + 3 * x.toNatClampNeg) 1).toInt ≤ 60 := fun h => by
    have := zclN h.1
    rcases (show x.toNatClampNeg = 0 ∨ x.toNatClampNeg = 1 by omega) with e | e <;> rw [e]
    · exact hc3
    · exact hc4
  refine r_iload_n X (by rfl) dX11_chosen_0 ?_
  refine r_callS X dX11_chosen_1 zLS_X11_214 zCd_X11_isStrip (c_X11_isStrip _ G z τ ρ _ _ _) rfl rfl ⟨⟨rfl, rfl⟩, ⟨by decide, by decide⟩, ⟨Nat.le_of_ble_eq_true rfl, Nat.le_of_ble_eq_true rfl⟩, Nat.le_of_ble_eq_true rfl⟩ ?_
  rintro _ _ ⟨rfl, rfl⟩
  refine r_if_eq X 23 dX11_chosen_4 (by decide) (fun h4 => ?_) (fun h4 => ?_)
  · refine r_bipush X (-2) (by decide) dX11_chosen_23 ?_
    refine r_ireturn X hR dX11_chosen_25 rfl (Nat.zero_le _) (Nat.zero_le _) ?_
    exact ⟨_, rfl, rfl, Or.inl ⟨fun q => by first | exact zif0 h4 q.1 | (have := q.2; omega), rfl⟩⟩
  · refine r_iload_n X (by rfl) dX11_chosen_7 ?_
    refine r_iconst X 1 (by decide) dX11_chosen_8 ?_
    refine r_icmp_lt X 23 dX11_chosen_9 (by decide) (fun h9 => ?_) (fun h9 => ?_)
    · rw [show Int32.toInt 1 = 1 from rfl] at h9
      refine r_bipush X (-2) (by decide) dX11_chosen_23 ?_
      refine r_ireturn X hR dX11_chosen_25 rfl (Nat.zero_le _) (Nat.zero_le _) ?_
      exact ⟨_, rfl, rfl, Or.inl ⟨fun q => by first | exact zif0 h4 q.1 | (have := q.2; omega), rfl⟩⟩
    · rw [show Int32.toInt 1 = 1 from rfl] at h9
      refine r_iload_n X (by rfl) dX11_chosen_12 ?_
      refine r_ldc X zK_X11_224 dX11_chosen_13 ?_
      refine r_icmp_gt X 23 dX11_chosen_15 (by decide) (fun h15 => ?_) (fun h15 => ?_)
      · rw [show Int32.toInt 100000 = 100000 from rfl] at h15
        refine r_bipush X (-2) (by decide) dX11_chosen_23 ?_
        refine r_ireturn X hR dX11_chosen_25 rfl (Nat.zero_le _) (Nat.zero_le _) ?_
        exact ⟨_, rfl, rfl, Or.inl ⟨fun q => by first | exact zif0 h4 q.1 | (have := q.2; omega), rfl⟩⟩
      · rw [show Int32.toInt 100000 = 100000 from rfl] at h15
        refine r_iload_n X (by rfl) dX11_chosen_18 ?_
        refine r_iconst X (-1) (by decide) dX11_chosen_19 ?_
        refine r_icmp_ge X 26 dX11_chosen_20 (by decide) (fun h20 => ?_) (fun h20 => ?_)
        · rw [show Int32.toInt (-1) = -1 from rfl] at h20
          have hx := zif1 h4
          refine r_aload_n X (by rfl) dX11_chosen_26 ?_
          refine r_getR X dX11_chosen_27 zF_X11_52 (zt hL 0 rfl) (zrf hL 6 rfl) ?_
          refine r_iload_n X (by rfl) dX11_chosen_30 ?_
          refine r_aaload X dX11_chosen_31 (zt hL 28 rfl) (by decide) (vp_in_iff.mpr ⟨by omega, by omega⟩) (zStr hL (by have := zclN hx.1; omega)).1 ?_
          refine r_iload_n X (by rfl) dX11_chosen_32 ?_
          refine r_iload_n X (by rfl) dX11_chosen_33 ?_
          refine r_callV X dX11_chosen_34 zLV_X11_225 zCd_X9_choose (e_X9_choose _ G z τ ρ _ _ (hst hx).1 (hst hx).2.1 (hst hx).2.2.1 (hst hx).2.2.2.1 (hst hx).2.2.2.2 (hsz hx).1 (hsz hx).2 _ _ (zRt_v hRl hx)) (hst hx).1 ⟨by decide, rfl, rfl⟩ rfl rfl ⟨⟨rfl, rfl⟩, ⟨by decide, by decide⟩, ⟨Nat.le_of_ble_eq_true rfl, Nat.le_of_ble_eq_true rfl⟩, Nat.le_of_ble_eq_true rfl⟩ ?_
          rintro _ _ ⟨r, rfl, hr, rfl⟩
          refine r_ireturn X hR dX11_chosen_37 rfl (Nat.zero_le _) (Nat.zero_le _) ?_
          exact ⟨_, rfl, rfl, Or.inr ⟨⟨hx, by omega, by omega⟩, hr⟩⟩
        · rw [show Int32.toInt (-1) = -1 from rfl] at h20
          refine r_bipush X (-2) (by decide) dX11_chosen_23 ?_
          refine r_ireturn X hR dX11_chosen_25 rfl (Nat.zero_le _) (Nat.zero_le _) ?_
          exact ⟨_, rfl, rfl, Or.inl ⟨fun q => by first | exact zif0 h4 q.1 | (have := q.2; omega), rfl⟩⟩
set_option maxHeartbeats 4000000 in
set_option maxRecDepth 100000 in
theorem e_X12_chosen (l : Launch) (G : zG) (z : Nat) (τ : Nat → Option (Nat × Nat)) (ρ : Nat → Nat → Option Nat) (ι : Nat → Nat → Int32) (κ : Nat → Nat → Int64) {B c : Nat} (hL : zLay τ ρ B c) (hJ : zJ B c ι) (hRl : zRel B c ι) (x y u : Int32) : zM l G yX12_chosen cX12_chosen 8 (some .int) ({ frames := 2, cells := 0, slots := 0, locals := 45 } : Room) [.ref (B + 38), .int x, .int y, .int u] (z, τ, ρ, ι, κ) (fun v s => ∃ r, v = some (.int r) ∧ s = (z, τ, ρ, ι, κ) ∧ ((¬ ((0 ≤ x.toInt ∧ x.toInt ≤ 1) ∧ (1 ≤ y.toInt ∧ y.toInt ≤ 100000) ∧ -1 ≤ u.toInt) ∧ r = -2) ∨ (((0 ≤ x.toInt ∧ x.toInt ≤ 1) ∧ (1 ≤ y.toInt ∧ y.toInt ≤ 100000) ∧ -1 ≤ u.toInt) ∧ r.toInt = zCh (fun k => (ι (B + 49) (60 * x.toNatClampNeg + k)).toInt) y.toInt u.toInt (ι (B + 48) x.toNatClampNeg).toInt.toNat 0 0 0))) 0 0 := by
  refine zM_of zCd_X12_chosen (Nat.le_of_ble_eq_true rfl) ?_
  intro E X hR hE
  subst hE
  show zW E G 8 (z, τ, ρ, ι, κ) 0 0 0 [(0, .ref (B + 38)), (1, .int x), (2, .int y), (3, .int u)] []
  obtain ⟨h8, hJc, hm1, hm2, hm3, hm4, hm5⟩ := id hJ
  obtain ⟨Z, hZ⟩ : ∃ Z, zCh (fun k => (ι (B + 49) (60 * x.toNatClampNeg + k)).toInt) y.toInt u.toInt (ι (B + 48) x.toNatClampNeg).toInt.toNat 0 0 0 = Z := ⟨_, rfl⟩
  have L36 : ∀ (hx : (0 ≤ x.toInt ∧ x.toInt ≤ 1)) (m : Nat) (i p q : Int32), (1 ≤ y.toInt ∧ y.toInt ≤ 100000) → -1 ≤ u.toInt → (60 - i.toInt).toNat < m → 0 ≤ i.toInt → i.toInt ≤ (ι (B + 48) x.toNatClampNeg).toInt → 0 ≤ p.toInt → p.toInt ≤ i.toInt → 0 ≤ q.toInt → q.toInt ≤ 1000000 → zCh (fun k => (ι (B + 49) (60 * x.toNatClampNeg + k)).toInt) y.toInt u.toInt ((ι (B + 48) x.toNatClampNeg).toInt - i.toInt).toNat i.toNatClampNeg p.toInt q.toInt = Z → zW E G 8 (z, τ, ρ, ι, κ) 0 0 36 [(0, .ref (B + 38)), (1, .int x), (2, .int y), (3, .int u), (4, .int p), (5, .int q), (6, .int i)] [] := by
    intro hx
    have hs := hm4 x.toNatClampNeg (by have := zclN hx.1; omega)
    have hxn := zclN hx.1
    have hsn := zclN hs.1
    have hV := zRt_m hRl hx
    intro m
    induction m with
    | zero => intro i p q _ _ h; omega
    | succ m ih => ?_
    intro i p q hy hu hm h0 hi p0 p1 q0 q1 hc
    refine r_iload X (by rfl) dX12_chosen_36 ?_
    refine r_aload_n X (by rfl) dX12_chosen_38 ?_
    refine r_getR X dX12_chosen_39 zF_X12_42 (zt hL 38 rfl) (zrf hL 45 rfl) ?_
    refine r_iload_n X (by rfl) dX12_chosen_42 ?_
    refine r_iaload X dX12_chosen_43 (zt hL 48 rfl) (vp_in_iff.mpr ⟨hx.1, by omega⟩) ?_
    refine r_icmp_ge X 97 dX12_chosen_44 (by decide) (fun h44 => ?_) (fun h44 => ?_)
    · refine r_iload_n X (by rfl) dX12_chosen_97 ?_
      refine r_if_ge X 106 dX12_chosen_98 (by decide) (fun h98 => ?_) (fun h98 => ?_)
      · refine r_iconst X (-1) (by decide) dX12_chosen_106 ?_
        refine r_ireturn X hR dX12_chosen_107 rfl (Nat.zero_le _) (Nat.zero_le _) ?_
        have hz : ((ι (B + 48) x.toNatClampNeg).toInt - i.toInt).toNat = 0 := by omega
        rw [hz, zCh] at hc
        rw [if_neg (by omega)] at hc
        exact ⟨_, rfl, rfl, Or.inr ⟨⟨hx, hy, hu⟩, hc.trans hZ.symm⟩⟩
      · refine r_iload X (by rfl) dX12_chosen_101 ?_
        refine r_goto X 107 dX12_chosen_103 (by decide) ?_
        refine r_ireturn X hR dX12_chosen_107 rfl (Nat.zero_le _) (Nat.zero_le _) ?_
        have hz : ((ι (B + 48) x.toNatClampNeg).toInt - i.toInt).toNat = 0 := by omega
        rw [hz, zCh] at hc
        rw [if_pos (by omega)] at hc
        exact ⟨_, rfl, rfl, Or.inr ⟨⟨hx, hy, hu⟩, hc.trans hZ.symm⟩⟩
    · have e4 := zix60 (x := x) (q := i) hx.1 (by omega) h0 (by omega)
      obtain ⟨n, hn⟩ : ∃ n, ((ι (B + 48) x.toNatClampNeg).toInt - i.toInt).toNat = n + 1 := ⟨((ι (B + 48) x.toNatClampNeg).toInt - i.toInt).toNat - 1, by omega⟩
      rw [hn, zCh] at hc
      have hin := zclN h0
      have hvb := hV i.toNatClampNeg (by omega)
      have ei := zinc (x := i) (by omega)
      have ei2 : (i + 1).toNatClampNeg = i.toNatClampNeg + 1 := by have := zclN (i := i + 1) (by omega); omega
      have ep := zinc (x := p) (by omega)
      have hn2 : ((ι (B + 48) x.toNatClampNeg).toInt - (i + 1).toInt).toNat = n := by omega
      have hv4 : 0 ≤ (ι (B + 49) (60 * x + i).toNatClampNeg).toInt ∧ (ι (B + 49) (60 * x + i).toNatClampNeg).toInt ≤ 1000000 := by rw [e4.2]; exact hvb
      refine r_aload_n X (by rfl) dX12_chosen_47 ?_
      refine r_getR X dX12_chosen_48 zF_X12_45 (zt hL 38 rfl) (zrf hL 46 rfl) ?_
      refine r_bipush X 60 (by decide) dX12_chosen_51 ?_
      refine r_iload_n X (by rfl) dX12_chosen_53 ?_
      refine r_imul X dX12_chosen_54 ?_
      refine r_iload X (by rfl) dX12_chosen_55 ?_
      refine r_iadd X dX12_chosen_57 ?_
      refine r_iaload X dX12_chosen_58 (zt hL 49 rfl) (vp_in_iff.mpr ⟨by omega, by omega⟩) ?_
      refine r_istore X (by decide) dX12_chosen_59 ?_
      refine r_iload X (by rfl) dX12_chosen_61 ?_
      refine r_if_eq X 75 dX12_chosen_63 (by decide) (fun h63 => ?_) (fun h63 => ?_)
      · rw [if_pos (by first | exact Or.inl (by rw [h63]; rfl) | exact Or.inr (by show y.toInt ≤ (ι (B + 49) (60 * x.toNatClampNeg + i.toNatClampNeg)).toInt - q.toInt; rw [← e4.2]; omega))] at hc
        refine r_iload X (by rfl) dX12_chosen_75 ?_
        refine r_iload_n X (by rfl) dX12_chosen_77 ?_
        refine r_icmp_ne X 84 dX12_chosen_78 (by decide) (fun h78 => ?_) (fun h78 => ?_)
        · rw [if_neg (fun e => h78 (Int32.toInt_inj.mp e))] at hc
          refine r_iinc X 1 (by decide) (by rfl) (by decide) dX12_chosen_84 ?_
          refine r_iload X (by rfl) dX12_chosen_87 ?_
          refine r_istore X (by decide) dX12_chosen_89 ?_
          refine r_iinc X 1 (by decide) (by rfl) (by decide) dX12_chosen_91 ?_
          refine r_goto X 36 dX12_chosen_94 (by decide) ?_
          exact zW.loc7 (by rfl) (by rfl) (by rfl) (by rfl) (by rfl) (by rfl) (by rfl) (ih _ _ _ hy hu (by omega) (by omega) (by omega) (by omega) (by omega) (by omega) (by omega) (by rw [hn2, ei2]; first | exact hc | (rw [ep, e4.2]; exact hc)))
        · refine r_iload X (by rfl) dX12_chosen_81 ?_
          refine r_ireturn X hR dX12_chosen_83 rfl (Nat.zero_le _) (Nat.zero_le _) ?_
          rw [if_pos (by rw [h78])] at hc
          exact ⟨_, rfl, rfl, Or.inr ⟨⟨hx, hy, hu⟩, by rw [e4.2]; exact hc.trans hZ.symm⟩⟩
      · have hs4 : (q + y).toInt = q.toInt + y.toInt := zaddI (by omega) (by omega)
        refine r_iload X (by rfl) dX12_chosen_66 ?_
        refine r_iload X (by rfl) dX12_chosen_68 ?_
        refine r_iload_n X (by rfl) dX12_chosen_70 ?_
        refine r_iadd X dX12_chosen_71 ?_
        refine r_icmp_lt X 91 dX12_chosen_72 (by decide) (fun h72 => ?_) (fun h72 => ?_)
        · rw [if_neg (fun e => by
            rcases e with e | e
            · exact h63 (Int32.toInt_inj.mp e)
            · change y.toInt ≤ (ι (B + 49) (60 * x.toNatClampNeg + i.toNatClampNeg)).toInt - q.toInt at e; rw [← e4.2] at e; omega)] at hc
          refine r_iinc X 1 (by decide) (by rfl) (by decide) dX12_chosen_91 ?_
          refine r_goto X 36 dX12_chosen_94 (by decide) ?_
          exact zW.loc7 (by rfl) (by rfl) (by rfl) (by rfl) (by rfl) (by rfl) (by rfl) (ih _ _ _ hy hu (by omega) (by omega) (by omega) (by omega) (by omega) (by omega) (by omega) (by rw [hn2, ei2]; first | exact hc | (rw [ep, e4.2]; exact hc)))
        · rw [if_pos (by first | exact Or.inl (by rw [h63]; rfl) | exact Or.inr (by show y.toInt ≤ (ι (B + 49) (60 * x.toNatClampNeg + i.toNatClampNeg)).toInt - q.toInt; rw [← e4.2]; omega))] at hc
          refine r_iload X (by rfl) dX12_chosen_75 ?_
          refine r_iload_n X (by rfl) dX12_chosen_77 ?_
          refine r_icmp_ne X 84 dX12_chosen_78 (by decide) (fun h78 => ?_) (fun h78 => ?_)
          · rw [if_neg (fun e => h78 (Int32.toInt_inj.mp e))] at hc
            refine r_iinc X 1 (by decide) (by rfl) (by decide) dX12_chosen_84 ?_
            refine r_iload X (by rfl) dX12_chosen_87 ?_
            refine r_istore X (by decide) dX12_chosen_89 ?_
            refine r_iinc X 1 (by decide) (by rfl) (by decide) dX12_chosen_91 ?_
            refine r_goto X 36 dX12_chosen_94 (by decide) ?_
            exact zW.loc7 (by rfl) (by rfl) (by rfl) (by rfl) (by rfl) (by rfl) (by rfl) (ih _ _ _ hy hu (by omega) (by omega) (by omega) (by omega) (by omega) (by omega) (by omega) (by rw [hn2, ei2]; first | exact hc | (rw [ep, e4.2]; exact hc)))
          · refine r_iload X (by rfl) dX12_chosen_81 ?_
            refine r_ireturn X hR dX12_chosen_83 rfl (Nat.zero_le _) (Nat.zero_le _) ?_
            rw [if_pos (by rw [h78])] at hc
            exact ⟨_, rfl, rfl, Or.inr ⟨⟨hx, hy, hu⟩, by rw [e4.2]; exact hc.trans hZ.symm⟩⟩
  refine r_iload_n X (by rfl) dX12_chosen_0 ?_
  refine r_callS X dX12_chosen_1 zLS_X12_259 zCd_X12_isStrip (c_X12_isStrip _ G z τ ρ _ _ _) rfl rfl ⟨⟨rfl, rfl⟩, ⟨by decide, by decide⟩, ⟨Nat.le_of_ble_eq_true rfl, Nat.le_of_ble_eq_true rfl⟩, Nat.le_of_ble_eq_true rfl⟩ ?_
  rintro _ _ ⟨rfl, rfl⟩
  refine r_if_eq X 24 dX12_chosen_4 (by decide) (fun h4 => ?_) (fun h4 => ?_)
  · refine r_bipush X (-2) (by decide) dX12_chosen_24 ?_
    refine r_ireturn X hR dX12_chosen_26 rfl (Nat.zero_le _) (Nat.zero_le _) ?_
    exact ⟨_, rfl, rfl, Or.inl ⟨fun q => by first | exact zif0 h4 q.1 | exact zif0 h16 q.2.1 | (have := q.2.2; omega), rfl⟩⟩
  · refine r_iload_n X (by rfl) dX12_chosen_7 ?_
    refine r_i2l X dX12_chosen_8 ?_
    refine r_lconst X 1 (by decide) dX12_chosen_9 ?_
    refine r_ldc2 X zK_X12_167 dX12_chosen_10 ?_
    refine r_callS X dX12_chosen_13 zLS_X12_163 zCd_X12_in (c_X12_in _ G z τ ρ _ _ _ _ _) rfl rfl ⟨⟨rfl, rfl⟩, ⟨by decide, by decide⟩, ⟨Nat.le_of_ble_eq_true rfl, Nat.le_of_ble_eq_true rfl⟩, Nat.le_of_ble_eq_true rfl⟩ ?_
    rintro _ _ ⟨rfl, rfl⟩
    rw [Int32.toInt_toInt64, show Int64.toInt 1 = 1 from rfl, show Int64.toInt 100000 = 100000 from rfl]
    refine r_if_eq X 24 dX12_chosen_16 (by decide) (fun h16 => ?_) (fun h16 => ?_)
    · refine r_bipush X (-2) (by decide) dX12_chosen_24 ?_
      refine r_ireturn X hR dX12_chosen_26 rfl (Nat.zero_le _) (Nat.zero_le _) ?_
      exact ⟨_, rfl, rfl, Or.inl ⟨fun q => by first | exact zif0 h4 q.1 | exact zif0 h16 q.2.1 | (have := q.2.2; omega), rfl⟩⟩
    · refine r_iload_n X (by rfl) dX12_chosen_19 ?_
      refine r_iconst X (-1) (by decide) dX12_chosen_20 ?_
      refine r_icmp_ge X 27 dX12_chosen_21 (by decide) (fun h21 => ?_) (fun h21 => ?_)
      · rw [show Int32.toInt (-1) = -1 from rfl] at h21
        refine r_iconst X 0 (by decide) dX12_chosen_27 ?_
        refine r_istore X (by decide) dX12_chosen_28 ?_
        refine r_iconst X 0 (by decide) dX12_chosen_30 ?_
        refine r_istore X (by decide) dX12_chosen_31 ?_
        refine r_iconst X 0 (by decide) dX12_chosen_33 ?_
        refine r_istore X (by decide) dX12_chosen_34 ?_
        exact zW.loc7 (by rfl) (by rfl) (by rfl) (by rfl) (by rfl) (by rfl) (by rfl) (L36 (zif1 h4) 61 _ _ _ (zif1 h16) (by omega) (by decide) (by decide) (by rw [show Int32.toInt 0 = 0 from rfl]; exact (hm4 x.toNatClampNeg (by have h9 := (zif1 h4).1; have h8 := (zif1 h4).2; have := zclN h9; omega)).1) (by decide) (by decide) (by decide) (by decide) (by rw [show Int32.toInt 0 = 0 from rfl, Int.sub_zero]; exact hZ))
      · rw [show Int32.toInt (-1) = -1 from rfl] at h21
        refine r_bipush X (-2) (by decide) dX12_chosen_24 ?_
        refine r_ireturn X hR dX12_chosen_26 rfl (Nat.zero_le _) (Nat.zero_le _) ?_
        exact ⟨_, rfl, rfl, Or.inl ⟨fun q => by first | exact zif0 h4 q.1 | exact zif0 h16 q.2.1 | (have := q.2.2; omega), rfl⟩⟩
def zD1_chosen (B : Nat) (ι : Nat → Nat → Int32) (x y u r : Int32) : Prop := (¬ ((0 ≤ x.toInt ∧ x.toInt < 2) ∧ (1 ≤ y.toInt ∧ y.toInt ≤ 100000) ∧ -1 ≤ u.toInt) ∧ r = -2) ∨ (((0 ≤ x.toInt ∧ x.toInt < 2) ∧ (1 ≤ y.toInt ∧ y.toInt ≤ 100000) ∧ -1 ≤ u.toInt) ∧ r.toInt = zCh (fun k => (ι (B + 34 + 3 * x.toNatClampNeg) k).toInt) y.toInt u.toInt (ι (B + 33 + 3 * x.toNatClampNeg) 1).toInt.toNat 0 0 0)
def zD2_chosen (B : Nat) (ι : Nat → Nat → Int32) (x y u r : Int32) : Prop := (¬ ((0 ≤ x.toInt ∧ x.toInt ≤ 1) ∧ (1 ≤ y.toInt ∧ y.toInt ≤ 100000) ∧ -1 ≤ u.toInt) ∧ r = -2) ∨ (((0 ≤ x.toInt ∧ x.toInt ≤ 1) ∧ (1 ≤ y.toInt ∧ y.toInt ≤ 100000) ∧ -1 ≤ u.toInt) ∧ r.toInt = zCh (fun k => (ι (B + 49) (60 * x.toNatClampNeg + k)).toInt) y.toInt u.toInt (ι (B + 48) x.toNatClampNeg).toInt.toNat 0 0 0)
theorem zT_chosen {B c : Nat} {ι : Nat → Nat → Int32} (hR : zRel B c ι) {x y u r1 r2 : Int32} (h1 : zD1_chosen B ι x y u r1) (h2 : zD2_chosen B ι x y u r2) : r1 = r2 := by
  rcases h1 with ⟨h0, rfl⟩ | ⟨h0, h1⟩ <;> rcases h2 with ⟨g0, rfl⟩ | ⟨g0, h2⟩
  · rfl
  · exact absurd ⟨⟨g0.1.1, by have := g0.1.2; omega⟩, g0.2⟩ h0
  · exact absurd ⟨⟨h0.1.1, by have := h0.1.2; omega⟩, h0.2⟩ g0
  · have hn := zclN h0.1.1
    have hx2 := h0.1.2
    obtain ⟨e1, e2, -⟩ := hR.2.2.2.1 x.toNatClampNeg (by omega)
    refine Int32.toInt_inj.mp ?_
    rw [h1, h2, e1]
    exact zCh_cong _ _ _ _ (fun k q1 q2 => by
      show (ι (B + 34 + 3 * x.toNatClampNeg) k).toInt = (ι (B + 49) (60 * x.toNatClampNeg + k)).toInt
      rw [(e2 k (by omega)).1])
