/-! the class's MARKS by PLACES, exactly (wip/genp/spec_pg.py) -/
/-- the PLACE of MARK k: the SCALE at a, its numbers at v, LONG x -/
noncomputable def zVl (ι : Nat → Nat → Int32) (a v : Nat) (x : Int32) (k : Nat) : Int32 := if ι a 3 = 0 then zPz (ι v k) (ι a 2) (ι a 1) x else x - zPz (ι v k) (ι a 2) (ι a 1) x
/-- what is stored of PLACES is right -/
def zPlC (B c : Nat) (ι : Nat → Nat → Int32) : Prop := ∀ j, j < c → ∀ k : Nat, (k : Int) < (ι (B + 63 + 7 * j) 10).toInt → ι (B + 63 + 7 * j + 6) k = zVl ι (B + 63 + 7 * j) (B + 63 + 7 * j + 2) (ι (B + 63 + 7 * j) 11) k
/-- MARKS are numbers -/
def zMn (B c : Nat) (ι : Nat → Nat → Int32) : Prop := ∀ j, j < c → ∀ k : Nat, (k : Int) < (ι (B + 63 + 7 * j + 1) 1).toInt → 100 ≤ (ι (B + 63 + 7 * j + 2) k).toInt ∧ (ι (B + 63 + 7 * j + 2) k).toInt ≤ 100000
/-- the stores of PLACES alone -/
def zFsc (B j : Nat) (ι ι2 : Nat → Nat → Int32) : Prop := (∀ b, b ≠ B + 63 + 7 * j → b ≠ B + 63 + 7 * j + 6 → ι2 b = ι b) ∧ ∀ k, k ≠ 10 → k ≠ 11 → ι2 (B + 63 + 7 * j) k = ι (B + 63 + 7 * j) k
theorem zVl_c {ι ι2 : Nat → Nat → Int32} {a v : Nat} {x : Int32} {k : Nat} (h1 : ι2 a 1 = ι a 1) (h2 : ι2 a 2 = ι a 2) (h3 : ι2 a 3 = ι a 3) (hv : ι2 v k = ι v k) : zVl ι2 a v x k = zVl ι a v x k := by
  unfold zVl
  rw [h1, h2, h3, hv]
theorem zPlC_fs {B c j : Nat} {ι ι2 : Nat → Nat → Int32} {x : Int32} (hC : zPlC B c ι) (hF : zFsc B j ι ι2) (h11 : ι2 (B + 63 + 7 * j) 11 = x) (h10 : ι2 (B + 63 + 7 * j) 10 = ι (B + 63 + 7 * j + 1) 1) (hv : ∀ k : Nat, (k : Int) < (ι (B + 63 + 7 * j + 1) 1).toInt → ι2 (B + 63 + 7 * j + 6) k = zVl ι (B + 63 + 7 * j) (B + 63 + 7 * j + 2) x k) : zPlC B c ι2 := by
  intro i hi k hk
  by_cases e : i = j
  · subst e
    rw [h11, hv k (by rw [← h10]; exact hk)]
    exact (zVl_c (hF.2 1 (by decide) (by decide)) (hF.2 2 (by decide) (by decide)) (hF.2 3 (by decide) (by decide)) (by rw [hF.1 _ (by omega) (by omega)])).symm
  · have e0 : ι2 (B + 63 + 7 * i) = ι (B + 63 + 7 * i) := hF.1 _ (by omega) (by omega)
    have e6 : ι2 (B + 63 + 7 * i + 6) = ι (B + 63 + 7 * i + 6) := hF.1 _ (by omega) (by omega)
    have e2 : ι2 (B + 63 + 7 * i + 2) = ι (B + 63 + 7 * i + 2) := hF.1 _ (by omega) (by omega)
    rw [e0] at hk
    rw [e6, hC i hi k hk, zVl_c (ι2 := ι2) (ι := ι) (by rw [e0]) (by rw [e0]) (by rw [e0]) (by rw [e2]), e0]

theorem zBw_lo {P : Nat → Int32} {x : Int32} {k : Nat} (h : x.toInt < (if (P (k + 1)).toInt < (P k).toInt then P (k + 1) else P k).toInt) : ¬ zBw P x k := fun q => by
  obtain ⟨-, q⟩ := q
  by_cases c : (P (k + 1)).toInt < (P k).toInt
  · rw [if_pos c] at h; omega
  · rw [if_neg c] at h; omega
theorem zBw_hi {P : Nat → Int32} {x : Int32} {k : Nat} (h : (if (P k).toInt < (P (k + 1)).toInt then P (k + 1) else P k).toInt < x.toInt) : ¬ zBw P x k := fun q => by
  obtain ⟨-, q⟩ := q
  by_cases c : (P k).toInt < (P (k + 1)).toInt
  · rw [if_pos c] at h; omega
  · rw [if_neg c] at h; omega
theorem zBw_of {P : Nat → Int32} {x : Int32} {k : Nat} (h0 : ¬ P k = P (k + 1)) (h1 : (if (P (k + 1)).toInt < (P k).toInt then P (k + 1) else P k).toInt ≤ x.toInt) (h2 : x.toInt ≤ (if (P k).toInt < (P (k + 1)).toInt then P (k + 1) else P k).toInt) : zBw P x k := by
  refine ⟨h0, ?_⟩
  by_cases c : (P (k + 1)).toInt < (P k).toInt
  · rw [if_pos c] at h1
    rw [if_neg (by omega)] at h2
    exact Or.inr ⟨h1, h2⟩
  · rw [if_neg c] at h1
    refine Or.inl ⟨h1, ?_⟩
    by_cases d : (P k).toInt < (P (k + 1)).toInt
    · rw [if_pos d] at h2; exact h2
    · rw [if_neg d] at h2; omega

set_option maxHeartbeats 4000000 in
set_option maxRecDepth 100000 in
theorem e_X7_placeMarks (l : Launch) (G : zG) (z : Nat) (τ : Nat → Option (Nat × Nat)) (ρ : Nat → Nat → Option Nat) (ι : Nat → Nat → Int32) (κ : Nat → Nat → Int64) {lg hi lo te to bo M1 M2 M3 M4 : Nat} (hτl : τ lg = some (2, M1)) (hρ0 : ρ lg 0 = some hi) (hρ1 : ρ lg 1 = some lo) (hρ2 : ρ lg 2 = some te) (hρ3 : ρ lg 3 = some to) (hρ4 : ρ lg 4 = some bo) (hhi : τ hi = some (1000, 900)) (hlo : τ lo = some (1001, 900)) (hte : τ te = some (10, M2)) (hto : τ to = some (10, M3)) (hbo : τ bo = some (10, M4)) (dte : te ≠ to) (dtb : te ≠ bo) {a mk v fr ts ea pc M5 M6 : Nat} (ha : τ a = some (7, M5)) (g4 : ρ a 4 = some mk) (g6 : ρ a 6 = some fr) (g7 : ρ a 7 = some ts) (g8 : ρ a 8 = some ea) (g9 : ρ a 9 = some pc) (hmk : τ mk = some (6, M6)) (hv0 : ρ mk 0 = some v) (hv : τ v = some (13, 400)) (hfr : τ fr = some (13, 4)) (hto2 : τ ts = some (13, 4)) (hea : τ ea = some (13, 4)) (hpc : τ pc = some (13, 400)) (n0 : 0 ≤ (ι mk 1).toInt) (n1 : (ι mk 1).toInt ≤ 400) (hmka : mk ≠ a) (hmkp : mk ≠ pc) (hpa : pc ≠ a) (hva : v ≠ a) (hvp : v ≠ pc) (dtt : to ≠ bo) (x : Int32) (q0 : 0 ≤ (ι a 10).toInt) (q1 : (ι a 10).toInt ≤ (ι mk 1).toInt) (y0 : 100 ≤ x.toInt) (y1 : x.toInt ≤ 50000) (u0 : 1 ≤ (ι a 1).toInt) (u1 : (ι a 1).toInt ≤ 3) (w0 : 10 ≤ (ι a 2).toInt) (w1 : (ι a 2).toInt ≤ 990) (hmv : ∀ k : Nat, (k : Int) < (ι mk 1).toInt → 100 ≤ (ι v k).toInt ∧ (ι v k).toInt ≤ 100000) (hca : ι a 11 = x → ∀ k : Nat, (k : Int) < (ι a 10).toInt → ι pc k = zVl ι a v x k) : zM l G yX7_placeMarks cX7_placeMarks 3 none ({ frames := 5, cells := 0, slots := 0, locals := 126 } : Room) [.ref a, .int x, .ref lg] (z, τ, ρ, ι, κ) (fun v0 s => v0 = none ∧ ∃ ι2 κ2, s = (z, τ, ρ, ι2, κ2) ∧ (∀ b, b ≠ a → b ≠ pc → ι2 b = ι b) ∧ (∀ k, k ≠ 10 → k ≠ 11 → ι2 a k = ι a k) ∧ ι2 a 11 = x ∧ ι2 a 10 = ι mk 1 ∧ ∀ k : Nat, (k : Int) < (ι mk 1).toInt → ι2 pc k = zVl ι a v x k) 0 0 := by
  refine zM_of zCd_X7_placeMarks (Nat.le_of_ble_eq_true rfl) ?_
  intro E X hR hE
  subst hE
  show zW E G 3 (z, τ, ρ, ι, κ) 0 0 0 [(0, .ref a), (1, .int x), (2, .ref lg)] []
  have L18 : ∀ (m : Nat) (ι1 : Nat → Nat → Int32) (κ1 : Nat → Nat → Int64), (400 - (ι1 a 10).toInt).toNat < m → ((∀ b, b ≠ a → b ≠ pc → ι1 b = ι b) ∧ (∀ k, k ≠ 10 → k ≠ 11 → ι1 a k = ι a k) ∧ 0 ≤ (ι1 a 10).toInt ∧ (ι1 a 10).toInt ≤ (ι mk 1).toInt) → ι1 a 11 = x → (∀ k : Nat, (k : Int) < (ι1 a 10).toInt → ι1 pc k = zVl ι a v x k) → zW E G 3 (z, τ, ρ, ι1, κ1) 0 0 18 [(0, .ref a), (1, .int x), (2, .ref lg)] [] := by
    intro m
    induction m with
    | zero => intro ι1 κ1 h; omega
    | succ m ih => ?_
    intro ι1 κ1 hm ⟨hf, hg, p0, p1⟩ h11 hv1
    have hms : ι1 mk 1 = ι mk 1 := by rw [hf mk hmka hmkp]
    have hvv : ι1 v = ι v := hf v hva hvp
    have e1 := hg 1 (by decide) (by decide)
    have e2 := hg 2 (by decide) (by decide)
    have e3 := hg 3 (by decide) (by decide)
    have hic := zclN p0
    refine r_aload_n X (by rfl) dX7_placeMarks_18 ?_
    refine r_getI X dX7_placeMarks_19 zF_X7_37 ha ?_
    refine r_aload_n X (by rfl) dX7_placeMarks_22 ?_
    refine r_getR X dX7_placeMarks_23 zF_X7_16 ha g4 ?_
    refine r_getI X dX7_placeMarks_26 zF_X7_62 hmk ?_
    refine r_icmp_ge X 72 dX7_placeMarks_29 (by decide) (fun h29 => ?_) (fun h29 => ?_)
    · rw [hms] at h29
      refine r_return X hR dX7_placeMarks_72 (Nat.zero_le _) (Nat.zero_le _) ?_
      have e10 : ι1 a 10 = ι mk 1 := Int32.toInt_inj.mp (by omega)
      exact ⟨rfl, _, _, rfl, hf, hg, h11, e10, fun k hk => hv1 k (by rw [e10]; exact hk)⟩
    · rw [hms] at h29
      refine r_aload_n X (by rfl) dX7_placeMarks_32 ?_
      refine r_getR X dX7_placeMarks_33 zF_X7_34 ha g9 ?_
      refine r_aload_n X (by rfl) dX7_placeMarks_36 ?_
      refine r_getI X dX7_placeMarks_37 zF_X7_37 ha ?_
      refine r_aload_n X (by rfl) dX7_placeMarks_40 ?_
      refine r_aload_n X (by rfl) dX7_placeMarks_41 ?_
      refine r_getR X dX7_placeMarks_42 zF_X7_16 ha g4 ?_
      refine r_getR X dX7_placeMarks_45 zF_X7_73 hmk hv0 ?_
      refine r_aload_n X (by rfl) dX7_placeMarks_48 ?_
      refine r_getI X dX7_placeMarks_49 zF_X7_37 ha ?_
      refine r_iaload X dX7_placeMarks_52 hv (vp_in_iff.mpr ⟨p0, by omega⟩) ?_
      refine r_iload_n X (by rfl) dX7_placeMarks_53 ?_
      refine r_aload_n X (by rfl) dX7_placeMarks_54 ?_
      refine r_callV X dX7_placeMarks_55 zLV_X7_76 zCd_X7_placeOf (c_X7_placeOfF _ G z τ ρ _ _ hτl hρ0 hρ1 hρ2 hρ3 hρ4 hhi hlo hte hto hbo dte dtb ha dtt _ _ (by rw [hvv]; exact (hmv _ (by omega)).1) (by rw [hvv]; exact (hmv _ (by omega)).2) y0 y1 (by rw [e1]; exact u0) (by rw [e1]; exact u1) (by rw [e2]; exact w0) (by rw [e2]; exact w1)) ha ⟨by decide, rfl, rfl⟩ rfl rfl ⟨⟨rfl, rfl⟩, ⟨by decide, by decide⟩, ⟨Nat.le_of_ble_eq_true rfl, Nat.le_of_ble_eq_true rfl⟩, Nat.le_of_ble_eq_true rfl⟩ ?_
      rintro _ _ ⟨κ2, rfl, rfl⟩
      have hval : (if ι1 a 3 = 0 then zPz (ι1 v (ι1 a 10).toNatClampNeg) (ι1 a 2) (ι1 a 1) x else x - zPz (ι1 v (ι1 a 10).toNatClampNeg) (ι1 a 2) (ι1 a 1) x) = zVl ι a v x (ι1 a 10).toNatClampNeg := by unfold zVl; rw [hvv, e1, e2, e3]
      rw [hval]
      refine r_iastore X dX7_placeMarks_58 hpc (vp_in_iff.mpr ⟨p0, by omega⟩) ?_
      refine r_aload_n X (by rfl) dX7_placeMarks_59 ?_
      refine r_dup X rfl dX7_placeMarks_60 ?_
      refine r_getI X dX7_placeMarks_61 zF_X7_37 ha ?_
      refine r_iconst X 1 (by decide) dX7_placeMarks_64 ?_
      refine r_iadd X dX7_placeMarks_65 ?_
      refine r_putI X dX7_placeMarks_66 zF_X7_37 ha rfl rfl ?_
      refine r_goto X 18 dX7_placeMarks_69 (by decide) ?_
      exact zW.loc3 (by rfl) (by rfl) (by rfl) (ih _ _ (by rw [zu_s, zu_a (Ne.symm hpa)]; have e := zinc (x := ι1 a 10) (by omega); omega) ⟨fun b g1 g2 => by rw [zu_r g1, zu_r g2]; exact hf b g1 g2, fun k g1 g2 => by rw [zu_k g1, zu_a (Ne.symm hpa)]; exact hg k g1 g2, by rw [zu_s, zu_a (Ne.symm hpa)]; have e := zinc (x := ι1 a 10) (by omega); omega, by rw [zu_s, zu_a (Ne.symm hpa)]; have e := zinc (x := ι1 a 10) (by omega); omega⟩ (by rw [zu_k (show (11 : Nat) ≠ 10 by decide), zu_a (Ne.symm hpa)]; exact h11) (fun k hk => by
        rw [zu_s, zu_a (Ne.symm hpa)] at hk
        have e := zinc (x := ι1 a 10) (by omega)
        rw [zu_r hpa]
        by_cases q : k = (ι1 a 10).toNatClampNeg
        · subst q; rw [zu_s]
        · rw [zu_k q]; exact hv1 k (by omega)))
  refine r_aload_n X (by rfl) dX7_placeMarks_0 ?_
  refine r_getI X dX7_placeMarks_1 zF_X7_40 ha ?_
  refine r_iload_n X (by rfl) dX7_placeMarks_4 ?_
  refine r_icmp_eq X 18 dX7_placeMarks_5 (by decide) (fun h5 => ?_) (fun h5 => ?_)
  · exact zW.loc3 (by rfl) (by rfl) (by rfl) (L18 401 _ _ (by first | (rw [zu_s]; decide) | omega) (by first | exact ⟨fun _ _ _ => rfl, fun _ _ _ => rfl, q0, q1⟩ | exact ⟨fun b g1 _ => by simp only [zu_r g1], fun k g1 g2 => by rw [zu_k g1, zu_k g2], by rw [zu_s]; decide, by rw [zu_s]; exact n0⟩) (by first | exact h5 | (rw [zu_k (show (11 : Nat) ≠ 10 by decide), zu_s])) (by first | exact hca h5 | (intro k hk; rw [zu_s, show Int32.toInt 0 = 0 from rfl] at hk; omega)))
  · refine r_aload_n X (by rfl) dX7_placeMarks_8 ?_
    refine r_iload_n X (by rfl) dX7_placeMarks_9 ?_
    refine r_putI X dX7_placeMarks_10 zF_X7_40 ha rfl rfl ?_
    refine r_aload_n X (by rfl) dX7_placeMarks_13 ?_
    refine r_iconst X 0 (by decide) dX7_placeMarks_14 ?_
    refine r_putI X dX7_placeMarks_15 zF_X7_37 ha rfl rfl ?_
    exact zW.loc3 (by rfl) (by rfl) (by rfl) (L18 401 _ _ (by first | (rw [zu_s]; decide) | omega) (by first | exact ⟨fun _ _ _ => rfl, fun _ _ _ => rfl, q0, q1⟩ | exact ⟨fun b g1 _ => by simp only [zu_r g1], fun k g1 g2 => by rw [zu_k g1, zu_k g2], by rw [zu_s]; decide, by rw [zu_s]; exact n0⟩) (by first | exact h5 | (rw [zu_k (show (11 : Nat) ≠ 10 by decide), zu_s])) (by first | exact hca h5 | (intro k hk; rw [zu_s, show Int32.toInt 0 = 0 from rfl] at hk; omega)))
set_option maxHeartbeats 4000000 in
set_option maxRecDepth 100000 in
theorem e_X7_gapBehind (l : Launch) (G : zG) (z : Nat) (τ : Nat → Option (Nat × Nat)) (ρ : Nat → Nat → Option Nat) (ι : Nat → Nat → Int32) (κ : Nat → Nat → Int64) {a mk v fr ts ea pc M5 M6 : Nat} (ha : τ a = some (7, M5)) (g4 : ρ a 4 = some mk) (g6 : ρ a 6 = some fr) (g7 : ρ a 7 = some ts) (g8 : ρ a 8 = some ea) (g9 : ρ a 9 = some pc) (hmk : τ mk = some (6, M6)) (hv0 : ρ mk 0 = some v) (hv : τ v = some (13, 400)) (hfr : τ fr = some (13, 4)) (hto2 : τ ts = some (13, 4)) (hea : τ ea = some (13, 4)) (hpc : τ pc = some (13, 400)) (n0 : 0 ≤ (ι mk 1).toInt) (n1 : (ι mk 1).toInt ≤ 400) (x : Int32) (x1 : x.toInt ≤ 1000) : zM l G yX7_gapBehind cX7_gapBehind 2 (some .int) ({ frames := 1, cells := 0, slots := 0, locals := 20 } : Room) [.ref a, .int x] (z, τ, ρ, ι, κ) (fun v s => v = some (.int (if 0 ≤ x.toInt ∧ x.toInt + 1 < (ι mk 1).toInt then zAb (ι pc (x + 1).toNatClampNeg - ι pc x.toNatClampNeg) else -1)) ∧ s = (z, τ, ρ, ι, κ)) 0 0 := by
  refine zM_of zCd_X7_gapBehind (Nat.le_of_ble_eq_true rfl) ?_
  intro E X hR hE
  subst hE
  show zW E G 2 (z, τ, ρ, ι, κ) 0 0 0 [(0, .ref a), (1, .int x)] []
  refine r_iload_n X (by rfl) dX7_gapBehind_0 ?_
  refine r_if_lt X 38 dX7_gapBehind_1 (by decide) (fun h1 => ?_) (fun h1 => ?_)
  · refine r_iconst X (-1) (by decide) dX7_gapBehind_38 ?_
    refine r_ireturn X hR dX7_gapBehind_39 rfl (Nat.zero_le _) (Nat.zero_le _) ?_
    first | exact ⟨by rw [if_pos (show 0 ≤ x.toInt ∧ x.toInt + 1 < (ι mk 1).toInt from ⟨by omega, by omega⟩)]; rfl, rfl⟩ | exact ⟨by rw [if_neg (show ¬ (0 ≤ x.toInt ∧ x.toInt + 1 < (ι mk 1).toInt) from fun q => by omega)], rfl⟩
  · have e := zinc (x := x) (by omega)
    refine r_iload_n X (by rfl) dX7_gapBehind_4 ?_
    refine r_iconst X 1 (by decide) dX7_gapBehind_5 ?_
    refine r_iadd X dX7_gapBehind_6 ?_
    refine r_aload_n X (by rfl) dX7_gapBehind_7 ?_
    refine r_getR X dX7_gapBehind_8 zF_X7_16 ha g4 ?_
    refine r_getI X dX7_gapBehind_11 zF_X7_62 hmk ?_
    refine r_icmp_ge X 38 dX7_gapBehind_14 (by decide) (fun h14 => ?_) (fun h14 => ?_)
    · refine r_iconst X (-1) (by decide) dX7_gapBehind_38 ?_
      refine r_ireturn X hR dX7_gapBehind_39 rfl (Nat.zero_le _) (Nat.zero_le _) ?_
      first | exact ⟨by rw [if_pos (show 0 ≤ x.toInt ∧ x.toInt + 1 < (ι mk 1).toInt from ⟨by omega, by omega⟩)]; rfl, rfl⟩ | exact ⟨by rw [if_neg (show ¬ (0 ≤ x.toInt ∧ x.toInt + 1 < (ι mk 1).toInt) from fun q => by omega)], rfl⟩
    · refine r_aload_n X (by rfl) dX7_gapBehind_17 ?_
      refine r_getR X dX7_gapBehind_18 zF_X7_34 ha g9 ?_
      refine r_iload_n X (by rfl) dX7_gapBehind_21 ?_
      refine r_iconst X 1 (by decide) dX7_gapBehind_22 ?_
      refine r_iadd X dX7_gapBehind_23 ?_
      refine r_iaload X dX7_gapBehind_24 hpc (vp_in_iff.mpr (by omega)) ?_
      refine r_aload_n X (by rfl) dX7_gapBehind_25 ?_
      refine r_getR X dX7_gapBehind_26 zF_X7_34 ha g9 ?_
      refine r_iload_n X (by rfl) dX7_gapBehind_29 ?_
      refine r_iaload X dX7_gapBehind_30 hpc (vp_in_iff.mpr (by omega)) ?_
      refine r_isub X dX7_gapBehind_31 ?_
      refine r_callS X dX7_gapBehind_32 zLS_X7_79 zCd_J9_abs_0f7a4 (c_abs _ G z τ ρ _ _ _) rfl rfl ⟨⟨rfl, rfl⟩, ⟨by decide, by decide⟩, ⟨Nat.le_of_ble_eq_true rfl, Nat.le_of_ble_eq_true rfl⟩, Nat.le_of_ble_eq_true rfl⟩ ?_
      rintro _ _ ⟨rfl, rfl⟩
      refine r_goto X 39 dX7_gapBehind_35 (by decide) ?_
      refine r_ireturn X hR dX7_gapBehind_39 rfl (Nat.zero_le _) (Nat.zero_le _) ?_
      first | exact ⟨by rw [if_pos (show 0 ≤ x.toInt ∧ x.toInt + 1 < (ι mk 1).toInt from ⟨by omega, by omega⟩)]; rfl, rfl⟩ | exact ⟨by rw [if_neg (show ¬ (0 ≤ x.toInt ∧ x.toInt + 1 < (ι mk 1).toInt) from fun q => by omega)], rfl⟩
set_option maxHeartbeats 4000000 in
set_option maxRecDepth 100000 in
theorem e_X7_firstOfClosest (l : Launch) (G : zG) (z : Nat) (τ : Nat → Option (Nat × Nat)) (ρ : Nat → Nat → Option Nat) (ι : Nat → Nat → Int32) (κ : Nat → Nat → Int64) {a mk v fr ts ea pc M5 M6 : Nat} (ha : τ a = some (7, M5)) (g4 : ρ a 4 = some mk) (g6 : ρ a 6 = some fr) (g7 : ρ a 7 = some ts) (g8 : ρ a 8 = some ea) (g9 : ρ a 9 = some pc) (hmk : τ mk = some (6, M6)) (hv0 : ρ mk 0 = some v) (hv : τ v = some (13, 400)) (hfr : τ fr = some (13, 4)) (hto2 : τ ts = some (13, 4)) (hea : τ ea = some (13, 4)) (hpc : τ pc = some (13, 400)) (n0 : 0 ≤ (ι mk 1).toInt) (n1 : (ι mk 1).toInt ≤ 400) : zM l G yX7_firstOfClosest cX7_firstOfClosest 3 (some .int) ({ frames := 2, cells := 0, slots := 0, locals := 41 } : Room) [.ref a] (z, τ, ρ, ι, κ) (fun v s => ∃ r, v = some (.int r) ∧ s = (z, τ, ρ, ι, κ) ∧ r.toInt ≤ 400 ∧ (((ι mk 1).toInt < 2 ∧ r = -1) ∨ (2 ≤ (ι mk 1).toInt ∧ ∃ f : Nat, r.toInt = f ∧ zAm (fun k => (zAb (ι pc (k + 1) - ι pc k)).toInt) ((ι mk 1).toNatClampNeg - 1) f))) 0 0 := by
  refine zM_of zCd_X7_firstOfClosest (Nat.le_of_ble_eq_true rfl) ?_
  intro E X hR hE
  subst hE
  show zW E G 3 (z, τ, ρ, ι, κ) 0 0 0 [(0, .ref a)] []
  have hnn := zclN n0
  have L19 : ∀ (m : Nat) (i p : Int32), (400 - i.toInt).toNat < m → 1 ≤ i.toInt → i.toInt ≤ 1000 → (((ι mk 1).toInt < 2 ∧ p = -1) ∨ (2 ≤ (ι mk 1).toInt ∧ i.toInt + 1 ≤ (ι mk 1).toInt ∧ ∃ f : Nat, p.toInt = f ∧ zAm (fun k => (zAb (ι pc (k + 1) - ι pc k)).toInt) i.toNatClampNeg f)) → zW E G 3 (z, τ, ρ, ι, κ) 0 0 19 [(0, .ref a), (1, .int p), (2, .int i)] [] := by
    intro m
    induction m with
    | zero => intro i p h g1 g2; omega
    | succ m ih => ?_
    intro i p hm h0 hi hp
    have e1 := zinc (x := i) (by omega)
    have hic := zclN (i := i) (by omega)
    have hic1 := zclN (i := i + 1) (by omega)
    refine r_iload_n X (by rfl) dX7_firstOfClosest_19 ?_
    refine r_iconst X 1 (by decide) dX7_firstOfClosest_20 ?_
    refine r_iadd X dX7_firstOfClosest_21 ?_
    refine r_aload_n X (by rfl) dX7_firstOfClosest_22 ?_
    refine r_getR X dX7_firstOfClosest_23 zF_X7_16 ha g4 ?_
    refine r_getI X dX7_firstOfClosest_26 zF_X7_62 hmk ?_
    refine r_icmp_ge X 53 dX7_firstOfClosest_29 (by decide) (fun h29 => ?_) (fun h29 => ?_)
    · refine r_iload_n X (by rfl) dX7_firstOfClosest_53 ?_
      refine r_ireturn X hR dX7_firstOfClosest_54 rfl (Nat.zero_le _) (Nat.zero_le _) ?_
      exact ⟨_, rfl, rfl, by rcases hp with ⟨-, q⟩ | ⟨-, q0, f, q, q2⟩; (rw [q]; decide); (have := q2.1; omega), hp.imp id (fun ⟨q1, q2, f, q3, q4⟩ => ⟨q1, f, q3, by rw [show (ι mk 1).toNatClampNeg - 1 = i.toNatClampNeg by omega]; exact q4⟩)⟩
    · have hp2 := hp.resolve_left (fun q => by omega)
      clear hp
      obtain ⟨h2n, hin, f, hpf, hf⟩ := hp2
      have hfi := hf.1
      have hpc9 := zclN (i := p) (by omega)
      have e3 := zinc (x := p) (by omega)
      have hp19 := zclN (i := p + 1) (by omega)
      refine r_aload_n X (by rfl) dX7_firstOfClosest_32 ?_
      refine r_iload_n X (by rfl) dX7_firstOfClosest_33 ?_
      refine r_callV X dX7_firstOfClosest_34 zLV_X7_84 zCd_X7_gapBehind (e_X7_gapBehind _ G z τ ρ _ _ ha g4 g6 g7 g8 g9 hmk hv0 hv hfr hto2 hea hpc n0 n1 _ (by omega)) ha ⟨by decide, rfl, rfl⟩ rfl rfl ⟨⟨rfl, rfl⟩, ⟨by decide, by decide⟩, ⟨Nat.le_of_ble_eq_true rfl, Nat.le_of_ble_eq_true rfl⟩, Nat.le_of_ble_eq_true rfl⟩ ?_
      rintro _ _ ⟨rfl, rfl⟩
      rw [if_pos ⟨by omega, by omega⟩, show (i + 1).toNatClampNeg = i.toNatClampNeg + 1 by omega]
      refine r_aload_n X (by rfl) dX7_firstOfClosest_37 ?_
      refine r_iload_n X (by rfl) dX7_firstOfClosest_38 ?_
      refine r_callV X dX7_firstOfClosest_39 zLV_X7_84 zCd_X7_gapBehind (e_X7_gapBehind _ G z τ ρ _ _ ha g4 g6 g7 g8 g9 hmk hv0 hv hfr hto2 hea hpc n0 n1 _ (by omega)) ha ⟨by decide, rfl, rfl⟩ rfl rfl ⟨⟨rfl, rfl⟩, ⟨by decide, by decide⟩, ⟨Nat.le_of_ble_eq_true rfl, Nat.le_of_ble_eq_true rfl⟩, Nat.le_of_ble_eq_true rfl⟩ ?_
      rintro _ _ ⟨rfl, rfl⟩
      rw [if_pos ⟨by omega, by omega⟩, show (p + 1).toNatClampNeg = f + 1 by omega, show p.toNatClampNeg = f by omega]
      refine r_icmp_ge X 47 dX7_firstOfClosest_42 (by decide) (fun h42 => ?_) (fun h42 => ?_)
      · refine r_iinc X 1 (by decide) (by rfl) (by decide) dX7_firstOfClosest_47 ?_
        refine r_goto X 19 dX7_firstOfClosest_50 (by decide) ?_
        exact zW.loc3 (by rfl) (by rfl) (by rfl) (ih _ _ (by omega) (by omega) (by omega) (Or.inr ⟨h2n, by omega, by
          rw [show (i + 1).toNatClampNeg = i.toNatClampNeg + 1 by omega]
          first
            | exact ⟨f, hpf, zAm_ge hf h42⟩
            | exact ⟨f, hpf, zAm_ge hf (Int.not_lt.mp h42)⟩
            | exact ⟨i.toNatClampNeg, by omega, zAm_lt hf h42⟩
            | exact ⟨i.toNatClampNeg, by omega, zAm_lt hf (Int.not_le.mp h42)⟩⟩))
      · refine r_iload_n X (by rfl) dX7_firstOfClosest_45 ?_
        refine r_istore_n X (by decide) dX7_firstOfClosest_46 ?_
        refine r_iinc X 1 (by decide) (by rfl) (by decide) dX7_firstOfClosest_47 ?_
        refine r_goto X 19 dX7_firstOfClosest_50 (by decide) ?_
        exact zW.loc3 (by rfl) (by rfl) (by rfl) (ih _ _ (by omega) (by omega) (by omega) (Or.inr ⟨h2n, by omega, by
          rw [show (i + 1).toNatClampNeg = i.toNatClampNeg + 1 by omega]
          first
            | exact ⟨f, hpf, zAm_ge hf h42⟩
            | exact ⟨f, hpf, zAm_ge hf (Int.not_lt.mp h42)⟩
            | exact ⟨i.toNatClampNeg, by omega, zAm_lt hf h42⟩
            | exact ⟨i.toNatClampNeg, by omega, zAm_lt hf (Int.not_le.mp h42)⟩⟩))
  refine r_aload_n X (by rfl) dX7_firstOfClosest_0 ?_
  refine r_getR X dX7_firstOfClosest_1 zF_X7_16 ha g4 ?_
  refine r_getI X dX7_firstOfClosest_4 zF_X7_62 hmk ?_
  refine r_iconst X 1 (by decide) dX7_firstOfClosest_7 ?_
  refine r_icmp_le X 15 dX7_firstOfClosest_8 (by decide) (fun h8 => ?_) (fun h8 => ?_)
  · rw [show Int32.toInt 1 = 1 from rfl] at h8
    refine r_iconst X (-1) (by decide) dX7_firstOfClosest_15 ?_
    refine r_istore_n X (by decide) dX7_firstOfClosest_16 ?_
    refine r_iconst X 1 (by decide) dX7_firstOfClosest_17 ?_
    refine r_istore_n X (by decide) dX7_firstOfClosest_18 ?_
    exact zW.loc3 (by rfl) (by rfl) (by rfl) (L19 1000 _ _ (by decide) (by decide) (by decide) (by first | exact Or.inr ⟨by omega, by rw [show Int32.toInt 1 = 1 from rfl]; omega, 0, rfl, zAm_1 _⟩ | exact Or.inl ⟨by omega, rfl⟩))
  · rw [show Int32.toInt 1 = 1 from rfl] at h8
    refine r_iconst X 0 (by decide) dX7_firstOfClosest_11 ?_
    refine r_goto X 16 dX7_firstOfClosest_12 (by decide) ?_
    refine r_istore_n X (by decide) dX7_firstOfClosest_16 ?_
    refine r_iconst X 1 (by decide) dX7_firstOfClosest_17 ?_
    refine r_istore_n X (by decide) dX7_firstOfClosest_18 ?_
    exact zW.loc3 (by rfl) (by rfl) (by rfl) (L19 1000 _ _ (by decide) (by decide) (by decide) (by first | exact Or.inr ⟨by omega, by rw [show Int32.toInt 1 = 1 from rfl]; omega, 0, rfl, zAm_1 _⟩ | exact Or.inl ⟨by omega, rfl⟩))
set_option maxHeartbeats 4000000 in
set_option maxRecDepth 100000 in
theorem e_X7_nearestTo (l : Launch) (G : zG) (z : Nat) (τ : Nat → Option (Nat × Nat)) (ρ : Nat → Nat → Option Nat) (ι : Nat → Nat → Int32) (κ : Nat → Nat → Int64) {a mk v fr ts ea pc M5 M6 : Nat} (ha : τ a = some (7, M5)) (g4 : ρ a 4 = some mk) (g6 : ρ a 6 = some fr) (g7 : ρ a 7 = some ts) (g8 : ρ a 8 = some ea) (g9 : ρ a 9 = some pc) (hmk : τ mk = some (6, M6)) (hv0 : ρ mk 0 = some v) (hv : τ v = some (13, 400)) (hfr : τ fr = some (13, 4)) (hto2 : τ ts = some (13, 4)) (hea : τ ea = some (13, 4)) (hpc : τ pc = some (13, 400)) (n0 : 0 ≤ (ι mk 1).toInt) (n1 : (ι mk 1).toInt ≤ 400) (x : Int32) : zM l G yX7_nearestTo cX7_nearestTo 4 (some .int) ({ frames := 1, cells := 0, slots := 0, locals := 21 } : Room) [.ref a, .int x] (z, τ, ρ, ι, κ) (fun v0 s => ∃ r, v0 = some (.int r) ∧ s = (z, τ, ρ, ι, κ) ∧ (((ι mk 1).toInt ≤ 0 ∧ r = -1) ∨ (0 < (ι mk 1).toInt ∧ ∃ f : Nat, zAm (fun k => (zAb (ι pc k - x)).toInt) (ι mk 1).toNatClampNeg f ∧ r = ι v f))) 0 0 := by
  refine zM_of zCd_X7_nearestTo (Nat.le_of_ble_eq_true rfl) ?_
  intro E X hR hE
  subst hE
  show zW E G 4 (z, τ, ρ, ι, κ) 0 0 0 [(0, .ref a), (1, .int x)] []
  have hnn := zclN n0
  have L18 : ∀ (m : Nat) (i p : Int32), (400 - i.toInt).toNat < m → 1 ≤ i.toInt → (((ι mk 1).toInt ≤ 0 ∧ p = -1) ∨ (0 < (ι mk 1).toInt ∧ i.toInt ≤ (ι mk 1).toInt ∧ ∃ f : Nat, p.toInt = f ∧ zAm (fun k => (zAb (ι pc k - x)).toInt) i.toNatClampNeg f)) → zW E G 4 (z, τ, ρ, ι, κ) 0 0 18 [(0, .ref a), (1, .int x), (2, .int p), (3, .int i)] [] := by
    intro m
    induction m with
    | zero => intro i p h; omega
    | succ m ih => ?_
    intro i p hm h0 hp
    have hic := zclN (i := i) (by omega)
    refine r_iload_n X (by rfl) dX7_nearestTo_18 ?_
    refine r_aload_n X (by rfl) dX7_nearestTo_19 ?_
    refine r_getR X dX7_nearestTo_20 zF_X7_16 ha g4 ?_
    refine r_getI X dX7_nearestTo_23 zF_X7_62 hmk ?_
    refine r_icmp_ge X 62 dX7_nearestTo_26 (by decide) (fun h26 => ?_) (fun h26 => ?_)
    · refine r_aload_n X (by rfl) dX7_nearestTo_62 ?_
      refine r_iload_n X (by rfl) dX7_nearestTo_63 ?_
      refine r_callV X dX7_nearestTo_64 zLV_X7_87 zCd_X7_numberAt (c_X7_numberAt _ G z τ ρ _ _ ha g4 g6 g7 g8 g9 hmk hv0 hv hfr hto2 hea hpc n0 n1 _) ha ⟨by decide, rfl, rfl⟩ rfl rfl ⟨⟨rfl, rfl⟩, ⟨by decide, by decide⟩, ⟨Nat.le_of_ble_eq_true rfl, Nat.le_of_ble_eq_true rfl⟩, Nat.le_of_ble_eq_true rfl⟩ ?_
      rintro _ _ ⟨rfl, rfl⟩
      refine r_ireturn X hR dX7_nearestTo_67 rfl (Nat.zero_le _) (Nat.zero_le _) ?_
      rcases hp with ⟨q, q2⟩ | ⟨q, q2, f, q3, q4⟩
      · refine ⟨_, rfl, rfl, Or.inl ⟨q, ?_⟩⟩
        rw [if_neg (fun q5 => by omega)]
      · have hq4 := q4.1
        have hpn := zclN (i := p) (by omega)
        refine ⟨_, rfl, rfl, Or.inr ⟨q, f, by rw [show (ι mk 1).toNatClampNeg = i.toNatClampNeg by omega]; exact q4, ?_⟩⟩
        rw [if_pos ⟨by omega, by omega⟩, show p.toNatClampNeg = f by omega]
    · have hp2 := hp.resolve_left (fun q => by omega)
      clear hp
      obtain ⟨h2n, hin, f, hpf, hf⟩ := hp2
      have hfi := hf.1
      have hpc9 := zclN (i := p) (by omega)
      have epf : p.toNatClampNeg = f := by omega
      refine r_aload_n X (by rfl) dX7_nearestTo_29 ?_
      refine r_getR X dX7_nearestTo_30 zF_X7_34 ha g9 ?_
      refine r_iload_n X (by rfl) dX7_nearestTo_33 ?_
      refine r_iaload X dX7_nearestTo_34 hpc (vp_in_iff.mpr ⟨by omega, by omega⟩) ?_
      refine r_iload_n X (by rfl) dX7_nearestTo_35 ?_
      refine r_isub X dX7_nearestTo_36 ?_
      refine r_callS X dX7_nearestTo_37 zLS_X7_79 zCd_J9_abs_0f7a4 (c_abs _ G z τ ρ _ _ _) rfl rfl ⟨⟨rfl, rfl⟩, ⟨by decide, by decide⟩, ⟨Nat.le_of_ble_eq_true rfl, Nat.le_of_ble_eq_true rfl⟩, Nat.le_of_ble_eq_true rfl⟩ ?_
      rintro _ _ ⟨rfl, rfl⟩
      refine r_aload_n X (by rfl) dX7_nearestTo_40 ?_
      refine r_getR X dX7_nearestTo_41 zF_X7_34 ha g9 ?_
      refine r_iload_n X (by rfl) dX7_nearestTo_44 ?_
      refine r_iaload X dX7_nearestTo_45 hpc (vp_in_iff.mpr ⟨by omega, by omega⟩) ?_
      refine r_iload_n X (by rfl) dX7_nearestTo_46 ?_
      refine r_isub X dX7_nearestTo_47 ?_
      refine r_callS X dX7_nearestTo_48 zLS_X7_79 zCd_J9_abs_0f7a4 (c_abs _ G z τ ρ _ _ _) rfl rfl ⟨⟨rfl, rfl⟩, ⟨by decide, by decide⟩, ⟨Nat.le_of_ble_eq_true rfl, Nat.le_of_ble_eq_true rfl⟩, Nat.le_of_ble_eq_true rfl⟩ ?_
      rintro _ _ ⟨rfl, rfl⟩
      rw [epf]
      change zW _ _ _ _ _ _ _ _ (.int (zAb (ι pc f - x)) :: .int (zAb (ι pc i.toNatClampNeg - x)) :: [])
      refine r_icmp_ge X 56 dX7_nearestTo_51 (by decide) (fun h51 => ?_) (fun h51 => ?_)
      · refine r_iinc X 1 (by decide) (by rfl) (by decide) dX7_nearestTo_56 ?_
        refine r_goto X 18 dX7_nearestTo_59 (by decide) ?_
        exact zW.loc4 (by rfl) (by rfl) (by rfl) (by rfl) (ih _ _ (by have e := zinc (x := i) (by omega); omega) (by have e := zinc (x := i) (by omega); omega) (by
          have e := zinc (x := i) (by omega)
          have hic1 := zclN (i := i + 1) (by omega)
          refine Or.inr ⟨h2n, by omega, ?_⟩
          rw [show (i + 1).toNatClampNeg = i.toNatClampNeg + 1 by omega]
          first
            | exact ⟨f, hpf, zAm_ge hf h51⟩
            | exact ⟨f, hpf, zAm_ge hf (Int.not_lt.mp h51)⟩
            | exact ⟨i.toNatClampNeg, by omega, zAm_lt hf h51⟩
            | exact ⟨i.toNatClampNeg, by omega, zAm_lt hf (Int.not_le.mp h51)⟩))
      · refine r_iload_n X (by rfl) dX7_nearestTo_54 ?_
        refine r_istore_n X (by decide) dX7_nearestTo_55 ?_
        refine r_iinc X 1 (by decide) (by rfl) (by decide) dX7_nearestTo_56 ?_
        refine r_goto X 18 dX7_nearestTo_59 (by decide) ?_
        exact zW.loc4 (by rfl) (by rfl) (by rfl) (by rfl) (ih _ _ (by have e := zinc (x := i) (by omega); omega) (by have e := zinc (x := i) (by omega); omega) (by
          have e := zinc (x := i) (by omega)
          have hic1 := zclN (i := i + 1) (by omega)
          refine Or.inr ⟨h2n, by omega, ?_⟩
          rw [show (i + 1).toNatClampNeg = i.toNatClampNeg + 1 by omega]
          first
            | exact ⟨f, hpf, zAm_ge hf h51⟩
            | exact ⟨f, hpf, zAm_ge hf (Int.not_lt.mp h51)⟩
            | exact ⟨i.toNatClampNeg, by omega, zAm_lt hf h51⟩
            | exact ⟨i.toNatClampNeg, by omega, zAm_lt hf (Int.not_le.mp h51)⟩))
  refine r_aload_n X (by rfl) dX7_nearestTo_0 ?_
  refine r_getR X dX7_nearestTo_1 zF_X7_16 ha g4 ?_
  refine r_getI X dX7_nearestTo_4 zF_X7_62 hmk ?_
  refine r_if_le X 14 dX7_nearestTo_7 (by decide) (fun h7 => ?_) (fun h7 => ?_)
  · refine r_iconst X (-1) (by decide) dX7_nearestTo_14 ?_
    refine r_istore_n X (by decide) dX7_nearestTo_15 ?_
    refine r_iconst X 1 (by decide) dX7_nearestTo_16 ?_
    refine r_istore_n X (by decide) dX7_nearestTo_17 ?_
    exact zW.loc4 (by rfl) (by rfl) (by rfl) (by rfl) (L18 401 _ _ (by decide) (by decide) (by first | exact Or.inr ⟨by omega, by rw [show Int32.toInt 1 = 1 from rfl]; omega, 0, rfl, zAm_1 _⟩ | exact Or.inl ⟨by omega, rfl⟩))
  · refine r_iconst X 0 (by decide) dX7_nearestTo_10 ?_
    refine r_goto X 15 dX7_nearestTo_11 (by decide) ?_
    refine r_istore_n X (by decide) dX7_nearestTo_15 ?_
    refine r_iconst X 1 (by decide) dX7_nearestTo_16 ?_
    refine r_istore_n X (by decide) dX7_nearestTo_17 ?_
    exact zW.loc4 (by rfl) (by rfl) (by rfl) (by rfl) (L18 401 _ _ (by decide) (by decide) (by first | exact Or.inr ⟨by omega, by rw [show Int32.toInt 1 = 1 from rfl]; omega, 0, rfl, zAm_1 _⟩ | exact Or.inl ⟨by omega, rfl⟩))
set_option maxHeartbeats 4000000 in
set_option maxRecDepth 100000 in
theorem e_X7_readBetween (l : Launch) (G : zG) (z : Nat) (τ : Nat → Option (Nat × Nat)) (ρ : Nat → Nat → Option Nat) (ι : Nat → Nat → Int32) (κ : Nat → Nat → Int64) {a mk v fr ts ea pc M5 M6 : Nat} (ha : τ a = some (7, M5)) (g4 : ρ a 4 = some mk) (g6 : ρ a 6 = some fr) (g7 : ρ a 7 = some ts) (g8 : ρ a 8 = some ea) (g9 : ρ a 9 = some pc) (hmk : τ mk = some (6, M6)) (hv0 : ρ mk 0 = some v) (hv : τ v = some (13, 400)) (hfr : τ fr = some (13, 4)) (hto2 : τ ts = some (13, 4)) (hea : τ ea = some (13, 4)) (hpc : τ pc = some (13, 400)) (n0 : 0 ≤ (ι mk 1).toInt) (n1 : (ι mk 1).toInt ≤ 400) (x : Int32) : zM l G yX7_readBetween cX7_readBetween 7 (some .int) ({ frames := 1, cells := 0, slots := 0, locals := 21 } : Room) [.ref a, .int x] (z, τ, ρ, ι, κ) (fun v0 s => ∃ r, v0 = some (.int r) ∧ s = (z, τ, ρ, ι, κ) ∧ ((r = -1 ∧ ∀ k : Nat, (k : Int) + 1 < (ι mk 1).toInt → ¬ zBw (ι pc) x k) ∨ ∃ f : Nat, (f : Int) + 1 < (ι mk 1).toInt ∧ zFi (zBw (ι pc) x) ((ι mk 1).toNatClampNeg - 1) f ∧ r = ι v f + ((ι v (f + 1) - ι v f).toInt64 * (x - ι pc f).toInt64 / (ι pc (f + 1) - ι pc f).toInt64).toInt32)) 0 0 := by
  refine zM_of zCd_X7_readBetween (Nat.le_of_ble_eq_true rfl) ?_
  intro E X hR hE
  subst hE
  show zW E G 7 (z, τ, ρ, ι, κ) 0 0 0 [(0, .ref a), (1, .int x)] []
  have hnn := zclN n0
  have L2 : ∀ (m : Nat) (i : Int32), (400 - i.toInt).toNat < m → 0 ≤ i.toInt → i.toInt ≤ 1000 → (∀ k : Nat, (k : Int) < i.toInt → ¬ zBw (ι pc) x k) → zW E G 7 (z, τ, ρ, ι, κ) 0 0 2 [(0, .ref a), (1, .int x), (2, .int i)] [] := by
    intro m
    induction m with
    | zero => intro i h g1 g2; omega
    | succ m ih => ?_
    intro i hm h0 hi hb
    have e1 := zinc (x := i) (by omega)
    have hic := zclN h0
    have hic1 := zclN (i := i + 1) (by omega)
    have ei : (i + 1).toNatClampNeg = i.toNatClampNeg + 1 := by omega
    refine r_iload_n X (by rfl) dX7_readBetween_2 ?_
    refine r_iconst X 1 (by decide) dX7_readBetween_3 ?_
    refine r_iadd X dX7_readBetween_4 ?_
    refine r_aload_n X (by rfl) dX7_readBetween_5 ?_
    refine r_getR X dX7_readBetween_6 zF_X7_16 ha g4 ?_
    refine r_getI X dX7_readBetween_9 zF_X7_62 hmk ?_
    refine r_icmp_ge X 113 dX7_readBetween_12 (by decide) (fun h12 => ?_) (fun h12 => ?_)
    · refine r_iconst X (-1) (by decide) dX7_readBetween_113 ?_
      refine r_ireturn X hR dX7_readBetween_114 rfl (Nat.zero_le _) (Nat.zero_le _) ?_
      exact ⟨_, rfl, rfl, Or.inl ⟨rfl, fun k hk => hb k (by omega)⟩⟩
    · refine r_aload_n X (by rfl) dX7_readBetween_15 ?_
      refine r_getR X dX7_readBetween_16 zF_X7_34 ha g9 ?_
      refine r_iload_n X (by rfl) dX7_readBetween_19 ?_
      refine r_iaload X dX7_readBetween_20 hpc (vp_in_iff.mpr ⟨by omega, by omega⟩) ?_
      refine r_istore_n X (by decide) dX7_readBetween_21 ?_
      refine r_aload_n X (by rfl) dX7_readBetween_22 ?_
      refine r_getR X dX7_readBetween_23 zF_X7_34 ha g9 ?_
      refine r_iload_n X (by rfl) dX7_readBetween_26 ?_
      refine r_iconst X 1 (by decide) dX7_readBetween_27 ?_
      refine r_iadd X dX7_readBetween_28 ?_
      refine r_iaload X dX7_readBetween_29 hpc (vp_in_iff.mpr ⟨by omega, by omega⟩) ?_
      refine r_istore X (by decide) dX7_readBetween_30 ?_
      refine r_iload_n X (by rfl) dX7_readBetween_32 ?_
      refine r_iload X (by rfl) dX7_readBetween_33 ?_
      refine r_icmp_eq X 107 dX7_readBetween_35 (by decide) (fun h35 => ?_) (fun h35 => ?_)
      · have hno : ¬ zBw (ι pc) x i.toNatClampNeg := fun q => q.1 (by rw [← ei]; exact h35)
        refine r_iinc X 1 (by decide) (by rfl) (by decide) dX7_readBetween_107 ?_
        refine r_goto X 2 dX7_readBetween_110 (by decide) ?_
        exact zW.loc3 (by rfl) (by rfl) (by rfl) (ih _ (by omega) (by omega) (by omega) (fun k hk => by
          by_cases q : k = i.toNatClampNeg
          · rw [q]; exact hno
          · exact hb k (by omega)))
      · refine r_iload_n X (by rfl) dX7_readBetween_38 ?_
        refine r_iload X (by rfl) dX7_readBetween_39 ?_
        refine r_callS X dX7_readBetween_41 zLS_X7_90 zCd_J9_min_7cf53 (c_min _ G z τ ρ _ _ _ _) rfl rfl ⟨⟨rfl, rfl⟩, ⟨by decide, by decide⟩, ⟨Nat.le_of_ble_eq_true rfl, Nat.le_of_ble_eq_true rfl⟩, Nat.le_of_ble_eq_true rfl⟩ ?_
        rintro _ _ ⟨rfl, rfl⟩
        refine r_iload_n X (by rfl) dX7_readBetween_44 ?_
        refine r_icmp_gt X 107 dX7_readBetween_45 (by decide) (fun h45 => ?_) (fun h45 => ?_)
        · have hno : ¬ zBw (ι pc) x i.toNatClampNeg := fun q => zBw_lo (by rw [← ei]; exact h45) q
          refine r_iinc X 1 (by decide) (by rfl) (by decide) dX7_readBetween_107 ?_
          refine r_goto X 2 dX7_readBetween_110 (by decide) ?_
          exact zW.loc3 (by rfl) (by rfl) (by rfl) (ih _ (by omega) (by omega) (by omega) (fun k hk => by
            by_cases q : k = i.toNatClampNeg
            · rw [q]; exact hno
            · exact hb k (by omega)))
        · refine r_iload_n X (by rfl) dX7_readBetween_48 ?_
          refine r_iload_n X (by rfl) dX7_readBetween_49 ?_
          refine r_iload X (by rfl) dX7_readBetween_50 ?_
          refine r_callS X dX7_readBetween_52 zLS_X7_94 zCd_J9_max_7cf53 (c_max _ G z τ ρ _ _ _ _) rfl rfl ⟨⟨rfl, rfl⟩, ⟨by decide, by decide⟩, ⟨Nat.le_of_ble_eq_true rfl, Nat.le_of_ble_eq_true rfl⟩, Nat.le_of_ble_eq_true rfl⟩ ?_
          rintro _ _ ⟨rfl, rfl⟩
          refine r_icmp_gt X 107 dX7_readBetween_55 (by decide) (fun h55 => ?_) (fun h55 => ?_)
          · have hno : ¬ zBw (ι pc) x i.toNatClampNeg := fun q => zBw_hi (by rw [← ei]; exact h55) q
            refine r_iinc X 1 (by decide) (by rfl) (by decide) dX7_readBetween_107 ?_
            refine r_goto X 2 dX7_readBetween_110 (by decide) ?_
            exact zW.loc3 (by rfl) (by rfl) (by rfl) (ih _ (by omega) (by omega) (by omega) (fun k hk => by
              by_cases q : k = i.toNatClampNeg
              · rw [q]; exact hno
              · exact hb k (by omega)))
          · refine r_aload_n X (by rfl) dX7_readBetween_58 ?_
            refine r_getR X dX7_readBetween_59 zF_X7_16 ha g4 ?_
            refine r_getR X dX7_readBetween_62 zF_X7_73 hmk hv0 ?_
            refine r_iload_n X (by rfl) dX7_readBetween_65 ?_
            refine r_iconst X 1 (by decide) dX7_readBetween_66 ?_
            refine r_iadd X dX7_readBetween_67 ?_
            refine r_iaload X dX7_readBetween_68 hv (vp_in_iff.mpr ⟨by omega, by omega⟩) ?_
            refine r_aload_n X (by rfl) dX7_readBetween_69 ?_
            refine r_getR X dX7_readBetween_70 zF_X7_16 ha g4 ?_
            refine r_getR X dX7_readBetween_73 zF_X7_73 hmk hv0 ?_
            refine r_iload_n X (by rfl) dX7_readBetween_76 ?_
            refine r_iaload X dX7_readBetween_77 hv (vp_in_iff.mpr ⟨by omega, by omega⟩) ?_
            refine r_isub X dX7_readBetween_78 ?_
            refine r_i2l X dX7_readBetween_79 ?_
            refine r_lstore X (by decide) dX7_readBetween_80 ?_
            refine r_aload_n X (by rfl) dX7_readBetween_82 ?_
            refine r_getR X dX7_readBetween_83 zF_X7_16 ha g4 ?_
            refine r_getR X dX7_readBetween_86 zF_X7_73 hmk hv0 ?_
            refine r_iload_n X (by rfl) dX7_readBetween_89 ?_
            refine r_iaload X dX7_readBetween_90 hv (vp_in_iff.mpr ⟨by omega, by omega⟩) ?_
            refine r_lload X (by rfl) dX7_readBetween_91 ?_
            refine r_iload_n X (by rfl) dX7_readBetween_93 ?_
            refine r_iload_n X (by rfl) dX7_readBetween_94 ?_
            refine r_isub X dX7_readBetween_95 ?_
            refine r_i2l X dX7_readBetween_96 ?_
            refine r_lmul X dX7_readBetween_97 ?_
            refine r_iload X (by rfl) dX7_readBetween_98 ?_
            refine r_iload_n X (by rfl) dX7_readBetween_100 ?_
            refine r_isub X dX7_readBetween_101 ?_
            refine r_i2l X dX7_readBetween_102 ?_
            refine r_ldiv X (znesub h35) dX7_readBetween_103 ?_
            refine r_l2i X dX7_readBetween_104 ?_
            refine r_iadd X dX7_readBetween_105 ?_
            refine r_ireturn X hR dX7_readBetween_106 rfl (Nat.zero_le _) (Nat.zero_le _) ?_
            rw [ei] at h35 h45 h55 ⊢
            exact ⟨_, rfl, rfl, Or.inr ⟨i.toNatClampNeg, by omega, ⟨by omega, zBw_of h35 h45 h55, fun k hk => hb k (by omega)⟩, rfl⟩⟩
  refine r_iconst X 0 (by decide) dX7_readBetween_0 ?_
  refine r_istore_n X (by decide) dX7_readBetween_1 ?_
  exact zW.loc3 (by rfl) (by rfl) (by rfl) (L2 1000 _ (by decide) (by decide) (by decide) (fun k hk => by rw [show Int32.toInt 0 = 0 from rfl] at hk; omega))
set_option maxHeartbeats 4000000 in
set_option maxRecDepth 100000 in
theorem e_X11_closest (l : Launch) (G : zG) (z : Nat) (τ : Nat → Option (Nat × Nat)) (ρ : Nat → Nat → Option Nat) (ι : Nat → Nat → Int32) (κ : Nat → Nat → Int64) {B c : Nat} (hL : zLay τ ρ B c) (hJ : zJ B c ι) (hPF : zPF B c ι) (hC : zPlC B c ι) (hMn : zMn B c ι) (x y : Int32) : zM l G yX11_closest cX11_closest 5 (some .int) ({ frames := 6, cells := 0, slots := 0, locals := 148 } : Room) [.ref B, .int x, .int y] (z, τ, ρ, ι, κ) (fun v s => ∃ r ι2 κ2, v = some (.int r) ∧ s = (z, τ, ρ, ι2, κ2) ∧ ((ι2 = ι ∧ ¬ ((0 ≤ x.toInt ∧ x.toInt < (c : Int)) ∧ 0 ≤ y.toInt ∧ y.toInt ≤ 1) ∧ r = -2) ∨ (((0 ≤ x.toInt ∧ x.toInt < (c : Int)) ∧ 0 ≤ y.toInt ∧ y.toInt ≤ 1) ∧ zFsc B x.toNatClampNeg ι ι2 ∧ zPlC B c ι2 ∧ (0 ≤ (ι2 (B + 63 + 7 * x.toNatClampNeg) 10).toInt ∧ (ι2 (B + 63 + 7 * x.toNatClampNeg) 10).toInt ≤ (ι (B + 63 + 7 * x.toNatClampNeg + 1) 1).toInt) ∧ (((ι (B + 63 + 7 * x.toNatClampNeg + 1) 1).toInt < 2 ∧ r = -1) ∨ (2 ≤ (ι (B + 63 + 7 * x.toNatClampNeg + 1) 1).toInt ∧ ∃ f : Nat, zAm (fun k => (zAb (zPcv B ι x.toNatClampNeg (ι (B + 63 + 7 * x.toNatClampNeg + 2) (k + 1)) - zPcv B ι x.toNatClampNeg (ι (B + 63 + 7 * x.toNatClampNeg + 2) k))).toInt) ((ι (B + 63 + 7 * x.toNatClampNeg + 1) 1).toNatClampNeg - 1) f ∧ ((y.toInt = 0 ∧ r = ι (B + 63 + 7 * x.toNatClampNeg + 2) f) ∨ (y.toInt = 1 ∧ r.toInt = (fun k => (zAb (zPcv B ι x.toNatClampNeg (ι (B + 63 + 7 * x.toNatClampNeg + 2) (k + 1)) - zPcv B ι x.toNatClampNeg (ι (B + 63 + 7 * x.toNatClampNeg + 2) k))).toInt) f))))))) 0 0 := by
  refine zM_of zCd_X11_closest (Nat.le_of_ble_eq_true rfl) ?_
  intro E X hR hE
  subst hE
  show zW E G 5 (z, τ, ρ, ι, κ) 0 0 0 [(0, .ref B), (1, .int x), (2, .int y)] []
  obtain ⟨h8, ⟨hc1, hc2, hc3, hc4, hc5⟩, hJm⟩ := id hJ
  have hsc : (0 ≤ x.toInt ∧ x.toInt < (c : Int)) → zSc τ ρ (B + 63 + 7 * x.toNatClampNeg) := fun h => (hL.2.2 _ (by have := zclN h.1; omega)).2
  have hjs : (0 ≤ x.toInt ∧ x.toInt < (c : Int)) → zJs ι (B + 63 + 7 * x.toNatClampNeg) := fun h => hc5 _ (by have := zclN h.1; omega)
  have hpf := fun h : (0 ≤ x.toInt ∧ x.toInt < (c : Int)) => hPF.2 _ (show x.toNatClampNeg < c by have := zclN h.1; omega)
  have hxn : (0 ≤ x.toInt ∧ x.toInt < (c : Int)) → x.toNatClampNeg < c := fun h => by have := zclN h.1; omega
  refine r_aload_n X (by rfl) dX11_closest_0 ?_
  refine r_iload_n X (by rfl) dX11_closest_1 ?_
  refine r_callV X dX11_closest_2 zLV_X11_85 zCd_X11_scaleAt (c_X11_scaleAt _ G z τ ρ _ _ hL hJ _) (zt hL 0 rfl) ⟨by decide, rfl, rfl⟩ rfl rfl ⟨⟨rfl, rfl⟩, ⟨by decide, by decide⟩, ⟨Nat.le_of_ble_eq_true rfl, Nat.le_of_ble_eq_true rfl⟩, Nat.le_of_ble_eq_true rfl⟩ ?_
  rintro _ _ (⟨rfl, hx, rfl⟩ | ⟨rfl, hx, rfl⟩)
  · refine r_astore_nN X (by decide) dX11_closest_5 ?_
    refine r_aload_nN X (by rfl) dX11_closest_6 ?_
    refine r_ifnullN X 19 dX11_closest_7 (by decide) ?_
    refine r_bipush X (-2) (by decide) dX11_closest_19 ?_
    refine r_ireturn X hR dX11_closest_21 rfl (Nat.zero_le _) (Nat.zero_le _) ?_
    exact ⟨_, _, _, rfl, rfl, Or.inl ⟨rfl, fun q => by first | exact hx q.1 | omega, rfl⟩⟩
  · refine r_astore_n X (by decide) dX11_closest_5 ?_
    refine r_aload_n X (by rfl) dX11_closest_6 ?_
    refine r_ifnull X dX11_closest_7 ?_
    refine r_iload_n X (by rfl) dX11_closest_10 ?_
    refine r_if_lt X 19 dX11_closest_11 (by decide) (fun h11 => ?_) (fun h11 => ?_)
    · refine r_bipush X (-2) (by decide) dX11_closest_19 ?_
      refine r_ireturn X hR dX11_closest_21 rfl (Nat.zero_le _) (Nat.zero_le _) ?_
      exact ⟨_, _, _, rfl, rfl, Or.inl ⟨rfl, fun q => by first | exact hx q.1 | omega, rfl⟩⟩
    · refine r_iload_n X (by rfl) dX11_closest_14 ?_
      refine r_iconst X 1 (by decide) dX11_closest_15 ?_
      refine r_icmp_le X 22 dX11_closest_16 (by decide) (fun h16 => ?_) (fun h16 => ?_)
      · rw [show Int32.toInt 1 = 1 from rfl] at h16
        refine r_aload_n X (by rfl) dX11_closest_22 ?_
        refine r_aload_n X (by rfl) dX11_closest_23 ?_
        refine r_getI X dX11_closest_24 zF_X11_74 (zt hL 0 rfl) ?_
        refine r_aload_n X (by rfl) dX11_closest_27 ?_
        refine r_getR X dX11_closest_28 zF_X11_10 (zt hL 0 rfl) (zrf hL 0 rfl) ?_
        refine r_callV X dX11_closest_31 zLV_X11_122 zCd_X7_placeMarks (e_X7_placeMarks _ G z τ ρ _ _ (zt hL 1 rfl) (zrf hL 9 rfl) (zrf hL 10 rfl) (zrf hL 11 rfl) (zrf hL 12 rfl) (zrf hL 13 rfl) (zt hL 2 rfl) (zt hL 3 rfl) (zt hL 4 rfl) (zt hL 5 rfl) (zt hL 6 rfl) (by omega) (by omega) (hsc hx).1 (hsc hx).2.1 (hsc hx).2.2.1 (hsc hx).2.2.2.1 (hsc hx).2.2.2.2.1 (hsc hx).2.2.2.2.2.1 (hsc hx).2.2.2.2.2.2.1 (hsc hx).2.2.2.2.2.2.2.1 (hsc hx).2.2.2.2.2.2.2.2.1 (hsc hx).2.2.2.2.2.2.2.2.2.1 (hsc hx).2.2.2.2.2.2.2.2.2.2.1 (hsc hx).2.2.2.2.2.2.2.2.2.2.2.1 (hsc hx).2.2.2.2.2.2.2.2.2.2.2.2 (hjs hx).1.1 (hjs hx).1.2 (by omega) (by omega) (by omega) (by omega) (by omega) (by omega) _ (hjs hx).2.2.1 (hjs hx).2.2.2 hPF.1.1 hPF.1.2 (hpf hx).1.1 (hpf hx).1.2 (hpf hx).2.1 (hpf hx).2.2 (hMn _ (hxn hx)) (fun h => by rw [← h]; exact hC _ (hxn hx))) (hsc hx).1 ⟨by decide, rfl, rfl⟩ rfl rfl ⟨⟨rfl, rfl⟩, ⟨by decide, by decide⟩, ⟨Nat.le_of_ble_eq_true rfl, Nat.le_of_ble_eq_true rfl⟩, Nat.le_of_ble_eq_true rfl⟩ ?_
        rintro _ _ ⟨rfl, ι2, κ2, rfl, hF1, hF3, h11, h10, hV⟩
        have hF : zFsc B x.toNatClampNeg ι ι2 := ⟨hF1, hF3⟩
        have hC2 := zPlC_fs hC hF h11 h10 hV
        have hn1 : ι2 (B + 63 + 7 * x.toNatClampNeg + 1) 1 = ι (B + 63 + 7 * x.toNatClampNeg + 1) 1 := by rw [hF1 _ (by omega) (by omega)]
        have hv2 : ι2 (B + 63 + 7 * x.toNatClampNeg + 2) = ι (B + 63 + 7 * x.toNatClampNeg + 2) := hF1 _ (by omega) (by omega)
        have hn := (hjs hx).1
        have hnc := zclN hn.1
        rw [← hn1] at hn
        refine r_aload_n X (by rfl) dX11_closest_34 ?_
        refine r_callV X dX11_closest_35 zLV_X11_126 zCd_X7_firstOfClosest (e_X7_firstOfClosest _ G z τ ρ _ _ (hsc hx).1 (hsc hx).2.1 (hsc hx).2.2.1 (hsc hx).2.2.2.1 (hsc hx).2.2.2.2.1 (hsc hx).2.2.2.2.2.1 (hsc hx).2.2.2.2.2.2.1 (hsc hx).2.2.2.2.2.2.2.1 (hsc hx).2.2.2.2.2.2.2.2.1 (hsc hx).2.2.2.2.2.2.2.2.2.1 (hsc hx).2.2.2.2.2.2.2.2.2.2.1 (hsc hx).2.2.2.2.2.2.2.2.2.2.2.1 (hsc hx).2.2.2.2.2.2.2.2.2.2.2.2 hn.1 hn.2) (hsc hx).1 ⟨by decide, rfl, rfl⟩ rfl rfl ⟨⟨rfl, rfl⟩, ⟨by decide, by decide⟩, ⟨Nat.le_of_ble_eq_true rfl, Nat.le_of_ble_eq_true rfl⟩, Nat.le_of_ble_eq_true rfl⟩ ?_
        rintro _ _ ⟨r, rfl, rfl, hr4, hr⟩
        rw [hn1] at hr
        refine r_istore X (by decide) dX11_closest_38 ?_
        refine r_iload X (by rfl) dX11_closest_40 ?_
        refine r_iconst X (-1) (by decide) dX11_closest_42 ?_
        refine r_icmp_ne X 48 dX11_closest_43 (by decide) (fun h43 => ?_) (fun h43 => ?_)
        · refine r_iload_n X (by rfl) dX11_closest_48 ?_
          refine r_if_ne X 61 dX11_closest_49 (by decide) (fun h49 => ?_) (fun h49 => ?_)
          · refine r_aload_n X (by rfl) dX11_closest_61 ?_
            refine r_iload X (by rfl) dX11_closest_62 ?_
            refine r_callV X dX11_closest_64 zLV_X11_129 zCd_X7_gapBehind (e_X7_gapBehind _ G z τ ρ _ _ (hsc hx).1 (hsc hx).2.1 (hsc hx).2.2.1 (hsc hx).2.2.2.1 (hsc hx).2.2.2.2.1 (hsc hx).2.2.2.2.2.1 (hsc hx).2.2.2.2.2.2.1 (hsc hx).2.2.2.2.2.2.2.1 (hsc hx).2.2.2.2.2.2.2.2.1 (hsc hx).2.2.2.2.2.2.2.2.2.1 (hsc hx).2.2.2.2.2.2.2.2.2.2.1 (hsc hx).2.2.2.2.2.2.2.2.2.2.2.1 (hsc hx).2.2.2.2.2.2.2.2.2.2.2.2 hn.1 hn.2 _ (by omega)) (hsc hx).1 ⟨by decide, rfl, rfl⟩ rfl rfl ⟨⟨rfl, rfl⟩, ⟨by decide, by decide⟩, ⟨Nat.le_of_ble_eq_true rfl, Nat.le_of_ble_eq_true rfl⟩, Nat.le_of_ble_eq_true rfl⟩ ?_
            rintro _ _ ⟨rfl, rfl⟩
            refine r_ireturn X hR dX11_closest_67 rfl (Nat.zero_le _) (Nat.zero_le _) ?_
            have hV2 : ∀ k : Nat, (k : Int) < (ι (B + 63 + 7 * x.toNatClampNeg + 1) 1).toInt → ι2 (B + 63 + 7 * x.toNatClampNeg + 6) k = zPcv B ι x.toNatClampNeg (ι (B + 63 + 7 * x.toNatClampNeg + 2) k) := fun k hk => hV k hk
            have hr9 := hr.resolve_left (fun q => h43 q.2)
            clear hr
            obtain ⟨q, f, q2, q3⟩ := hr9
            have hy0 : (y = 0 → y.toInt = 0) ∧ (¬ y = 0 → y.toInt ≠ 0) := ⟨fun q => by rw [q]; rfl, fun q q2 => q (Int32.toInt_inj.mp (by rw [q2]; rfl))⟩
            have q4 := q3.1
            have hrn := zclN (i := r) (by omega)
            have er1 := zinc (x := r) (by omega)
            have hr1n := zclN (i := r + 1) (by omega)
            have q5 : zAm (fun k => (zAb (zPcv B ι x.toNatClampNeg (ι (B + 63 + 7 * x.toNatClampNeg + 2) (k + 1)) - zPcv B ι x.toNatClampNeg (ι (B + 63 + 7 * x.toNatClampNeg + 2) k))).toInt) ((ι (B + 63 + 7 * x.toNatClampNeg + 1) 1).toNatClampNeg - 1) f := zAm_c q3 (fun k hk => by show (zAb (zPcv B ι x.toNatClampNeg (ι (B + 63 + 7 * x.toNatClampNeg + 2) (k + 1)) - zPcv B ι x.toNatClampNeg (ι (B + 63 + 7 * x.toNatClampNeg + 2) k))).toInt = (zAb (ι2 (B + 63 + 7 * x.toNatClampNeg + 6) (k + 1) - ι2 (B + 63 + 7 * x.toNatClampNeg + 6) k)).toInt; rw [hV2 (k + 1) (by omega), hV2 k (by omega)])
            refine ⟨_, _, _, rfl, rfl, Or.inr ⟨⟨hx, by omega, by omega⟩, hF, hC2, ⟨by rw [h10]; omega, by rw [h10]; exact Int.le_refl _⟩, Or.inr ⟨q, f, q5, ?_⟩⟩⟩
            exact Or.inr ⟨by have := hy0.2 h49; omega, by rw [if_pos ⟨by omega, by rw [hn1]; omega⟩, show (r + 1).toNatClampNeg = f + 1 by omega, show r.toNatClampNeg = f by omega, hV2 (f + 1) (by omega), hV2 f (by omega)]⟩
          · refine r_aload_n X (by rfl) dX11_closest_52 ?_
            refine r_iload X (by rfl) dX11_closest_53 ?_
            refine r_callV X dX11_closest_55 zLV_X11_109 zCd_X7_numberAt (c_X7_numberAt _ G z τ ρ _ _ (hsc hx).1 (hsc hx).2.1 (hsc hx).2.2.1 (hsc hx).2.2.2.1 (hsc hx).2.2.2.2.1 (hsc hx).2.2.2.2.2.1 (hsc hx).2.2.2.2.2.2.1 (hsc hx).2.2.2.2.2.2.2.1 (hsc hx).2.2.2.2.2.2.2.2.1 (hsc hx).2.2.2.2.2.2.2.2.2.1 (hsc hx).2.2.2.2.2.2.2.2.2.2.1 (hsc hx).2.2.2.2.2.2.2.2.2.2.2.1 (hsc hx).2.2.2.2.2.2.2.2.2.2.2.2 hn.1 hn.2 _) (hsc hx).1 ⟨by decide, rfl, rfl⟩ rfl rfl ⟨⟨rfl, rfl⟩, ⟨by decide, by decide⟩, ⟨Nat.le_of_ble_eq_true rfl, Nat.le_of_ble_eq_true rfl⟩, Nat.le_of_ble_eq_true rfl⟩ ?_
            rintro _ _ ⟨rfl, rfl⟩
            refine r_goto X 67 dX11_closest_58 (by decide) ?_
            refine r_ireturn X hR dX11_closest_67 rfl (Nat.zero_le _) (Nat.zero_le _) ?_
            have hV2 : ∀ k : Nat, (k : Int) < (ι (B + 63 + 7 * x.toNatClampNeg + 1) 1).toInt → ι2 (B + 63 + 7 * x.toNatClampNeg + 6) k = zPcv B ι x.toNatClampNeg (ι (B + 63 + 7 * x.toNatClampNeg + 2) k) := fun k hk => hV k hk
            have hr9 := hr.resolve_left (fun q => h43 q.2)
            clear hr
            obtain ⟨q, f, q2, q3⟩ := hr9
            have hy0 : (y = 0 → y.toInt = 0) ∧ (¬ y = 0 → y.toInt ≠ 0) := ⟨fun q => by rw [q]; rfl, fun q q2 => q (Int32.toInt_inj.mp (by rw [q2]; rfl))⟩
            have q4 := q3.1
            have hrn := zclN (i := r) (by omega)
            have er1 := zinc (x := r) (by omega)
            have hr1n := zclN (i := r + 1) (by omega)
            have q5 : zAm (fun k => (zAb (zPcv B ι x.toNatClampNeg (ι (B + 63 + 7 * x.toNatClampNeg + 2) (k + 1)) - zPcv B ι x.toNatClampNeg (ι (B + 63 + 7 * x.toNatClampNeg + 2) k))).toInt) ((ι (B + 63 + 7 * x.toNatClampNeg + 1) 1).toNatClampNeg - 1) f := zAm_c q3 (fun k hk => by show (zAb (zPcv B ι x.toNatClampNeg (ι (B + 63 + 7 * x.toNatClampNeg + 2) (k + 1)) - zPcv B ι x.toNatClampNeg (ι (B + 63 + 7 * x.toNatClampNeg + 2) k))).toInt = (zAb (ι2 (B + 63 + 7 * x.toNatClampNeg + 6) (k + 1) - ι2 (B + 63 + 7 * x.toNatClampNeg + 6) k)).toInt; rw [hV2 (k + 1) (by omega), hV2 k (by omega)])
            refine ⟨_, _, _, rfl, rfl, Or.inr ⟨⟨hx, by omega, by omega⟩, hF, hC2, ⟨by rw [h10]; omega, by rw [h10]; exact Int.le_refl _⟩, Or.inr ⟨q, f, q5, ?_⟩⟩⟩
            exact Or.inl ⟨hy0.1 h49, by rw [if_pos ⟨by omega, by rw [hn1]; omega⟩, hv2, show r.toNatClampNeg = f by omega]⟩
        · refine r_iconst X (-1) (by decide) dX11_closest_46 ?_
          refine r_ireturn X hR dX11_closest_47 rfl (Nat.zero_le _) (Nat.zero_le _) ?_
          refine ⟨_, _, _, rfl, rfl, Or.inr ⟨⟨hx, by omega, by omega⟩, hF, hC2, ⟨by rw [h10]; omega, by rw [h10]; exact Int.le_refl _⟩, ?_⟩⟩
          rcases hr with ⟨q, -⟩ | ⟨q, f, q2, q3⟩
          · exact Or.inl ⟨q, rfl⟩
          · exfalso; rw [h43, show Int32.toInt (-1) = -1 from rfl] at q2; omega
      · rw [show Int32.toInt 1 = 1 from rfl] at h16
        refine r_bipush X (-2) (by decide) dX11_closest_19 ?_
        refine r_ireturn X hR dX11_closest_21 rfl (Nat.zero_le _) (Nat.zero_le _) ?_
        exact ⟨_, _, _, rfl, rfl, Or.inl ⟨rfl, fun q => by first | exact hx q.1 | omega, rfl⟩⟩
set_option maxHeartbeats 4000000 in
set_option maxRecDepth 100000 in
theorem e_X11_nearest (l : Launch) (G : zG) (z : Nat) (τ : Nat → Option (Nat × Nat)) (ρ : Nat → Nat → Option Nat) (ι : Nat → Nat → Int32) (κ : Nat → Nat → Int64) {B c : Nat} (hL : zLay τ ρ B c) (hJ : zJ B c ι) (hPF : zPF B c ι) (hC : zPlC B c ι) (hMn : zMn B c ι) (x y : Int32) : zM l G yX11_nearest cX11_nearest 4 (some .int) ({ frames := 6, cells := 0, slots := 0, locals := 148 } : Room) [.ref B, .int x, .int y] (z, τ, ρ, ι, κ) (fun v s => ∃ r ι2 κ2, v = some (.int r) ∧ s = (z, τ, ρ, ι2, κ2) ∧ ((ι2 = ι ∧ ¬ ((0 ≤ x.toInt ∧ x.toInt < (c : Int)) ∧ -1000000 ≤ y.toInt ∧ y.toInt ≤ 1000000) ∧ r = -2) ∨ (((0 ≤ x.toInt ∧ x.toInt < (c : Int)) ∧ -1000000 ≤ y.toInt ∧ y.toInt ≤ 1000000) ∧ zFsc B x.toNatClampNeg ι ι2 ∧ zPlC B c ι2 ∧ (0 ≤ (ι2 (B + 63 + 7 * x.toNatClampNeg) 10).toInt ∧ (ι2 (B + 63 + 7 * x.toNatClampNeg) 10).toInt ≤ (ι (B + 63 + 7 * x.toNatClampNeg + 1) 1).toInt) ∧ (((ι (B + 63 + 7 * x.toNatClampNeg + 1) 1).toInt ≤ 0 ∧ r = -1) ∨ (0 < (ι (B + 63 + 7 * x.toNatClampNeg + 1) 1).toInt ∧ ∃ f : Nat, zAm (fun k => (zAb (zPcv B ι x.toNatClampNeg (ι (B + 63 + 7 * x.toNatClampNeg + 2) k) - y)).toInt) (ι (B + 63 + 7 * x.toNatClampNeg + 1) 1).toNatClampNeg f ∧ r = ι (B + 63 + 7 * x.toNatClampNeg + 2) f))))) 0 0 := by
  refine zM_of zCd_X11_nearest (Nat.le_of_ble_eq_true rfl) ?_
  intro E X hR hE
  subst hE
  show zW E G 4 (z, τ, ρ, ι, κ) 0 0 0 [(0, .ref B), (1, .int x), (2, .int y)] []
  obtain ⟨h8, ⟨hc1, hc2, hc3, hc4, hc5⟩, hJm⟩ := id hJ
  have hsc : (0 ≤ x.toInt ∧ x.toInt < (c : Int)) → zSc τ ρ (B + 63 + 7 * x.toNatClampNeg) := fun h => (hL.2.2 _ (by have := zclN h.1; omega)).2
  have hjs : (0 ≤ x.toInt ∧ x.toInt < (c : Int)) → zJs ι (B + 63 + 7 * x.toNatClampNeg) := fun h => hc5 _ (by have := zclN h.1; omega)
  have hpf := fun h : (0 ≤ x.toInt ∧ x.toInt < (c : Int)) => hPF.2 _ (show x.toNatClampNeg < c by have := zclN h.1; omega)
  have hxn : (0 ≤ x.toInt ∧ x.toInt < (c : Int)) → x.toNatClampNeg < c := fun h => by have := zclN h.1; omega
  refine r_aload_n X (by rfl) dX11_nearest_0 ?_
  refine r_iload_n X (by rfl) dX11_nearest_1 ?_
  refine r_callV X dX11_nearest_2 zLV_X11_85 zCd_X11_scaleAt (c_X11_scaleAt _ G z τ ρ _ _ hL hJ _) (zt hL 0 rfl) ⟨by decide, rfl, rfl⟩ rfl rfl ⟨⟨rfl, rfl⟩, ⟨by decide, by decide⟩, ⟨Nat.le_of_ble_eq_true rfl, Nat.le_of_ble_eq_true rfl⟩, Nat.le_of_ble_eq_true rfl⟩ ?_
  rintro _ _ (⟨rfl, hx, rfl⟩ | ⟨rfl, hx, rfl⟩)
  · refine r_astore_nN X (by decide) dX11_nearest_5 ?_
    refine r_aload_nN X (by rfl) dX11_nearest_6 ?_
    refine r_ifnullN X 17 dX11_nearest_7 (by decide) ?_
    refine r_bipush X (-2) (by decide) dX11_nearest_17 ?_
    refine r_ireturn X hR dX11_nearest_19 rfl (Nat.zero_le _) (Nat.zero_le _) ?_
    exact ⟨_, _, _, rfl, rfl, Or.inl ⟨rfl, fun q => by first | exact hx q.1 | exact zif0 h14 q.2, rfl⟩⟩
  · refine r_astore_n X (by decide) dX11_nearest_5 ?_
    refine r_aload_n X (by rfl) dX11_nearest_6 ?_
    refine r_ifnull X dX11_nearest_7 ?_
    refine r_iload_n X (by rfl) dX11_nearest_10 ?_
    refine r_callS X dX11_nearest_11 zLS_X11_138 zCd_X11_isAskedPlace (c_X11_isAskedPlace _ G z τ ρ _ _ _) rfl rfl ⟨⟨rfl, rfl⟩, ⟨by decide, by decide⟩, ⟨Nat.le_of_ble_eq_true rfl, Nat.le_of_ble_eq_true rfl⟩, Nat.le_of_ble_eq_true rfl⟩ ?_
    rintro _ _ ⟨rfl, rfl⟩
    refine r_if_ne X 20 dX11_nearest_14 (by decide) (fun h14 => ?_) (fun h14 => ?_)
    · refine r_aload_n X (by rfl) dX11_nearest_20 ?_
      refine r_aload_n X (by rfl) dX11_nearest_21 ?_
      refine r_getI X dX11_nearest_22 zF_X11_74 (zt hL 0 rfl) ?_
      refine r_aload_n X (by rfl) dX11_nearest_25 ?_
      refine r_getR X dX11_nearest_26 zF_X11_10 (zt hL 0 rfl) (zrf hL 0 rfl) ?_
      refine r_callV X dX11_nearest_29 zLV_X11_122 zCd_X7_placeMarks (e_X7_placeMarks _ G z τ ρ _ _ (zt hL 1 rfl) (zrf hL 9 rfl) (zrf hL 10 rfl) (zrf hL 11 rfl) (zrf hL 12 rfl) (zrf hL 13 rfl) (zt hL 2 rfl) (zt hL 3 rfl) (zt hL 4 rfl) (zt hL 5 rfl) (zt hL 6 rfl) (by omega) (by omega) (hsc hx).1 (hsc hx).2.1 (hsc hx).2.2.1 (hsc hx).2.2.2.1 (hsc hx).2.2.2.2.1 (hsc hx).2.2.2.2.2.1 (hsc hx).2.2.2.2.2.2.1 (hsc hx).2.2.2.2.2.2.2.1 (hsc hx).2.2.2.2.2.2.2.2.1 (hsc hx).2.2.2.2.2.2.2.2.2.1 (hsc hx).2.2.2.2.2.2.2.2.2.2.1 (hsc hx).2.2.2.2.2.2.2.2.2.2.2.1 (hsc hx).2.2.2.2.2.2.2.2.2.2.2.2 (hjs hx).1.1 (hjs hx).1.2 (by omega) (by omega) (by omega) (by omega) (by omega) (by omega) _ (hjs hx).2.2.1 (hjs hx).2.2.2 hPF.1.1 hPF.1.2 (hpf hx).1.1 (hpf hx).1.2 (hpf hx).2.1 (hpf hx).2.2 (hMn _ (hxn hx)) (fun h => by rw [← h]; exact hC _ (hxn hx))) (hsc hx).1 ⟨by decide, rfl, rfl⟩ rfl rfl ⟨⟨rfl, rfl⟩, ⟨by decide, by decide⟩, ⟨Nat.le_of_ble_eq_true rfl, Nat.le_of_ble_eq_true rfl⟩, Nat.le_of_ble_eq_true rfl⟩ ?_
      rintro _ _ ⟨rfl, ι2, κ2, rfl, hF1, hF3, h11, h10, hV⟩
      have hF : zFsc B x.toNatClampNeg ι ι2 := ⟨hF1, hF3⟩
      have hC2 := zPlC_fs hC hF h11 h10 hV
      have hn1 : ι2 (B + 63 + 7 * x.toNatClampNeg + 1) 1 = ι (B + 63 + 7 * x.toNatClampNeg + 1) 1 := by rw [hF1 _ (by omega) (by omega)]
      have hv2 : ι2 (B + 63 + 7 * x.toNatClampNeg + 2) = ι (B + 63 + 7 * x.toNatClampNeg + 2) := hF1 _ (by omega) (by omega)
      have hn := (hjs hx).1
      have hnc := zclN hn.1
      rw [← hn1] at hn
      refine r_aload_n X (by rfl) dX11_nearest_32 ?_
      refine r_iload_n X (by rfl) dX11_nearest_33 ?_
      refine r_callV X dX11_nearest_34 zLV_X11_141 zCd_X7_nearestTo (e_X7_nearestTo _ G z τ ρ _ _ (hsc hx).1 (hsc hx).2.1 (hsc hx).2.2.1 (hsc hx).2.2.2.1 (hsc hx).2.2.2.2.1 (hsc hx).2.2.2.2.2.1 (hsc hx).2.2.2.2.2.2.1 (hsc hx).2.2.2.2.2.2.2.1 (hsc hx).2.2.2.2.2.2.2.2.1 (hsc hx).2.2.2.2.2.2.2.2.2.1 (hsc hx).2.2.2.2.2.2.2.2.2.2.1 (hsc hx).2.2.2.2.2.2.2.2.2.2.2.1 (hsc hx).2.2.2.2.2.2.2.2.2.2.2.2 hn.1 hn.2 _) (hsc hx).1 ⟨by decide, rfl, rfl⟩ rfl rfl ⟨⟨rfl, rfl⟩, ⟨by decide, by decide⟩, ⟨Nat.le_of_ble_eq_true rfl, Nat.le_of_ble_eq_true rfl⟩, Nat.le_of_ble_eq_true rfl⟩ ?_
      rintro _ _ ⟨r, rfl, rfl, hr⟩
      rw [hn1, hv2] at hr
      refine r_ireturn X hR dX11_nearest_37 rfl (Nat.zero_le _) (Nat.zero_le _) ?_
      have hV2 : ∀ k : Nat, (k : Int) < (ι (B + 63 + 7 * x.toNatClampNeg + 1) 1).toInt → ι2 (B + 63 + 7 * x.toNatClampNeg + 6) k = zPcv B ι x.toNatClampNeg (ι (B + 63 + 7 * x.toNatClampNeg + 2) k) := fun k hk => hV k hk
      refine ⟨_, _, _, rfl, rfl, Or.inr ⟨⟨hx, zif1 h14⟩, hF, hC2, ⟨by rw [h10]; omega, by rw [h10]; exact Int.le_refl _⟩, hr.imp id (fun ⟨q, f, q2, q3⟩ => ⟨q, f, zAm_c q2 (fun k hk => by show (zAb (zPcv B ι x.toNatClampNeg (ι (B + 63 + 7 * x.toNatClampNeg + 2) k) - y)).toInt = (zAb (ι2 (B + 63 + 7 * x.toNatClampNeg + 6) k - y)).toInt; rw [hV2 k (by omega)]), q3⟩)⟩⟩
    · refine r_bipush X (-2) (by decide) dX11_nearest_17 ?_
      refine r_ireturn X hR dX11_nearest_19 rfl (Nat.zero_le _) (Nat.zero_le _) ?_
      exact ⟨_, _, _, rfl, rfl, Or.inl ⟨rfl, fun q => by first | exact hx q.1 | exact zif0 h14 q.2, rfl⟩⟩
set_option maxHeartbeats 4000000 in
set_option maxRecDepth 100000 in
theorem e_X11_between (l : Launch) (G : zG) (z : Nat) (τ : Nat → Option (Nat × Nat)) (ρ : Nat → Nat → Option Nat) (ι : Nat → Nat → Int32) (κ : Nat → Nat → Int64) {B c : Nat} (hL : zLay τ ρ B c) (hJ : zJ B c ι) (hPF : zPF B c ι) (hC : zPlC B c ι) (hMn : zMn B c ι) (x y : Int32) : zM l G yX11_between cX11_between 4 (some .int) ({ frames := 6, cells := 0, slots := 0, locals := 148 } : Room) [.ref B, .int x, .int y] (z, τ, ρ, ι, κ) (fun v s => ∃ r ι2 κ2, v = some (.int r) ∧ s = (z, τ, ρ, ι2, κ2) ∧ ((ι2 = ι ∧ ¬ ((0 ≤ x.toInt ∧ x.toInt < (c : Int)) ∧ -1000000 ≤ y.toInt ∧ y.toInt ≤ 1000000) ∧ r = -2) ∨ (((0 ≤ x.toInt ∧ x.toInt < (c : Int)) ∧ -1000000 ≤ y.toInt ∧ y.toInt ≤ 1000000) ∧ zFsc B x.toNatClampNeg ι ι2 ∧ zPlC B c ι2 ∧ (0 ≤ (ι2 (B + 63 + 7 * x.toNatClampNeg) 10).toInt ∧ (ι2 (B + 63 + 7 * x.toNatClampNeg) 10).toInt ≤ (ι (B + 63 + 7 * x.toNatClampNeg + 1) 1).toInt) ∧ ((r = -1 ∧ ∀ k : Nat, (k : Int) + 1 < (ι (B + 63 + 7 * x.toNatClampNeg + 1) 1).toInt → ¬ zBw (fun k => zPcv B ι x.toNatClampNeg (ι (B + 63 + 7 * x.toNatClampNeg + 2) k)) y k) ∨ ∃ f : Nat, (f : Int) + 1 < (ι (B + 63 + 7 * x.toNatClampNeg + 1) 1).toInt ∧ zFi (zBw (fun k => zPcv B ι x.toNatClampNeg (ι (B + 63 + 7 * x.toNatClampNeg + 2) k)) y) ((ι (B + 63 + 7 * x.toNatClampNeg + 1) 1).toNatClampNeg - 1) f ∧ r = ι (B + 63 + 7 * x.toNatClampNeg + 2) f + ((ι (B + 63 + 7 * x.toNatClampNeg + 2) (f + 1) - ι (B + 63 + 7 * x.toNatClampNeg + 2) f).toInt64 * (y - zPcv B ι x.toNatClampNeg (ι (B + 63 + 7 * x.toNatClampNeg + 2) f)).toInt64 / (zPcv B ι x.toNatClampNeg (ι (B + 63 + 7 * x.toNatClampNeg + 2) (f + 1)) - zPcv B ι x.toNatClampNeg (ι (B + 63 + 7 * x.toNatClampNeg + 2) f)).toInt64).toInt32)))) 0 0 := by
  refine zM_of zCd_X11_between (Nat.le_of_ble_eq_true rfl) ?_
  intro E X hR hE
  subst hE
  show zW E G 4 (z, τ, ρ, ι, κ) 0 0 0 [(0, .ref B), (1, .int x), (2, .int y)] []
  obtain ⟨h8, ⟨hc1, hc2, hc3, hc4, hc5⟩, hJm⟩ := id hJ
  have hsc : (0 ≤ x.toInt ∧ x.toInt < (c : Int)) → zSc τ ρ (B + 63 + 7 * x.toNatClampNeg) := fun h => (hL.2.2 _ (by have := zclN h.1; omega)).2
  have hjs : (0 ≤ x.toInt ∧ x.toInt < (c : Int)) → zJs ι (B + 63 + 7 * x.toNatClampNeg) := fun h => hc5 _ (by have := zclN h.1; omega)
  have hpf := fun h : (0 ≤ x.toInt ∧ x.toInt < (c : Int)) => hPF.2 _ (show x.toNatClampNeg < c by have := zclN h.1; omega)
  have hxn : (0 ≤ x.toInt ∧ x.toInt < (c : Int)) → x.toNatClampNeg < c := fun h => by have := zclN h.1; omega
  refine r_aload_n X (by rfl) dX11_between_0 ?_
  refine r_iload_n X (by rfl) dX11_between_1 ?_
  refine r_callV X dX11_between_2 zLV_X11_85 zCd_X11_scaleAt (c_X11_scaleAt _ G z τ ρ _ _ hL hJ _) (zt hL 0 rfl) ⟨by decide, rfl, rfl⟩ rfl rfl ⟨⟨rfl, rfl⟩, ⟨by decide, by decide⟩, ⟨Nat.le_of_ble_eq_true rfl, Nat.le_of_ble_eq_true rfl⟩, Nat.le_of_ble_eq_true rfl⟩ ?_
  rintro _ _ (⟨rfl, hx, rfl⟩ | ⟨rfl, hx, rfl⟩)
  · refine r_astore_nN X (by decide) dX11_between_5 ?_
    refine r_aload_nN X (by rfl) dX11_between_6 ?_
    refine r_ifnullN X 17 dX11_between_7 (by decide) ?_
    refine r_bipush X (-2) (by decide) dX11_between_17 ?_
    refine r_ireturn X hR dX11_between_19 rfl (Nat.zero_le _) (Nat.zero_le _) ?_
    exact ⟨_, _, _, rfl, rfl, Or.inl ⟨rfl, fun q => by first | exact hx q.1 | exact zif0 h14 q.2, rfl⟩⟩
  · refine r_astore_n X (by decide) dX11_between_5 ?_
    refine r_aload_n X (by rfl) dX11_between_6 ?_
    refine r_ifnull X dX11_between_7 ?_
    refine r_iload_n X (by rfl) dX11_between_10 ?_
    refine r_callS X dX11_between_11 zLS_X11_138 zCd_X11_isAskedPlace (c_X11_isAskedPlace _ G z τ ρ _ _ _) rfl rfl ⟨⟨rfl, rfl⟩, ⟨by decide, by decide⟩, ⟨Nat.le_of_ble_eq_true rfl, Nat.le_of_ble_eq_true rfl⟩, Nat.le_of_ble_eq_true rfl⟩ ?_
    rintro _ _ ⟨rfl, rfl⟩
    refine r_if_ne X 20 dX11_between_14 (by decide) (fun h14 => ?_) (fun h14 => ?_)
    · refine r_aload_n X (by rfl) dX11_between_20 ?_
      refine r_aload_n X (by rfl) dX11_between_21 ?_
      refine r_getI X dX11_between_22 zF_X11_74 (zt hL 0 rfl) ?_
      refine r_aload_n X (by rfl) dX11_between_25 ?_
      refine r_getR X dX11_between_26 zF_X11_10 (zt hL 0 rfl) (zrf hL 0 rfl) ?_
      refine r_callV X dX11_between_29 zLV_X11_122 zCd_X7_placeMarks (e_X7_placeMarks _ G z τ ρ _ _ (zt hL 1 rfl) (zrf hL 9 rfl) (zrf hL 10 rfl) (zrf hL 11 rfl) (zrf hL 12 rfl) (zrf hL 13 rfl) (zt hL 2 rfl) (zt hL 3 rfl) (zt hL 4 rfl) (zt hL 5 rfl) (zt hL 6 rfl) (by omega) (by omega) (hsc hx).1 (hsc hx).2.1 (hsc hx).2.2.1 (hsc hx).2.2.2.1 (hsc hx).2.2.2.2.1 (hsc hx).2.2.2.2.2.1 (hsc hx).2.2.2.2.2.2.1 (hsc hx).2.2.2.2.2.2.2.1 (hsc hx).2.2.2.2.2.2.2.2.1 (hsc hx).2.2.2.2.2.2.2.2.2.1 (hsc hx).2.2.2.2.2.2.2.2.2.2.1 (hsc hx).2.2.2.2.2.2.2.2.2.2.2.1 (hsc hx).2.2.2.2.2.2.2.2.2.2.2.2 (hjs hx).1.1 (hjs hx).1.2 (by omega) (by omega) (by omega) (by omega) (by omega) (by omega) _ (hjs hx).2.2.1 (hjs hx).2.2.2 hPF.1.1 hPF.1.2 (hpf hx).1.1 (hpf hx).1.2 (hpf hx).2.1 (hpf hx).2.2 (hMn _ (hxn hx)) (fun h => by rw [← h]; exact hC _ (hxn hx))) (hsc hx).1 ⟨by decide, rfl, rfl⟩ rfl rfl ⟨⟨rfl, rfl⟩, ⟨by decide, by decide⟩, ⟨Nat.le_of_ble_eq_true rfl, Nat.le_of_ble_eq_true rfl⟩, Nat.le_of_ble_eq_true rfl⟩ ?_
      rintro _ _ ⟨rfl, ι2, κ2, rfl, hF1, hF3, h11, h10, hV⟩
      have hF : zFsc B x.toNatClampNeg ι ι2 := ⟨hF1, hF3⟩
      have hC2 := zPlC_fs hC hF h11 h10 hV
      have hn1 : ι2 (B + 63 + 7 * x.toNatClampNeg + 1) 1 = ι (B + 63 + 7 * x.toNatClampNeg + 1) 1 := by rw [hF1 _ (by omega) (by omega)]
      have hv2 : ι2 (B + 63 + 7 * x.toNatClampNeg + 2) = ι (B + 63 + 7 * x.toNatClampNeg + 2) := hF1 _ (by omega) (by omega)
      have hn := (hjs hx).1
      have hnc := zclN hn.1
      rw [← hn1] at hn
      refine r_aload_n X (by rfl) dX11_between_32 ?_
      refine r_iload_n X (by rfl) dX11_between_33 ?_
      refine r_callV X dX11_between_34 zLV_X11_144 zCd_X7_readBetween (e_X7_readBetween _ G z τ ρ _ _ (hsc hx).1 (hsc hx).2.1 (hsc hx).2.2.1 (hsc hx).2.2.2.1 (hsc hx).2.2.2.2.1 (hsc hx).2.2.2.2.2.1 (hsc hx).2.2.2.2.2.2.1 (hsc hx).2.2.2.2.2.2.2.1 (hsc hx).2.2.2.2.2.2.2.2.1 (hsc hx).2.2.2.2.2.2.2.2.2.1 (hsc hx).2.2.2.2.2.2.2.2.2.2.1 (hsc hx).2.2.2.2.2.2.2.2.2.2.2.1 (hsc hx).2.2.2.2.2.2.2.2.2.2.2.2 hn.1 hn.2 _) (hsc hx).1 ⟨by decide, rfl, rfl⟩ rfl rfl ⟨⟨rfl, rfl⟩, ⟨by decide, by decide⟩, ⟨Nat.le_of_ble_eq_true rfl, Nat.le_of_ble_eq_true rfl⟩, Nat.le_of_ble_eq_true rfl⟩ ?_
      rintro _ _ ⟨r, rfl, rfl, hr⟩
      rw [hn1, hv2] at hr
      refine r_ireturn X hR dX11_between_37 rfl (Nat.zero_le _) (Nat.zero_le _) ?_
      have hV2 : ∀ k : Nat, (k : Int) < (ι (B + 63 + 7 * x.toNatClampNeg + 1) 1).toInt → ι2 (B + 63 + 7 * x.toNatClampNeg + 6) k = zPcv B ι x.toNatClampNeg (ι (B + 63 + 7 * x.toNatClampNeg + 2) k) := fun k hk => hV k hk
      have hB : ∀ k : Nat, (k : Int) + 1 < (ι (B + 63 + 7 * x.toNatClampNeg + 1) 1).toInt → (zBw (ι2 (B + 63 + 7 * x.toNatClampNeg + 6)) y k ↔ zBw (fun k => zPcv B ι x.toNatClampNeg (ι (B + 63 + 7 * x.toNatClampNeg + 2) k)) y k) := fun k hk => by unfold zBw; rw [hV2 k (by omega), hV2 (k + 1) (by omega)]
      refine ⟨_, _, _, rfl, rfl, Or.inr ⟨⟨hx, zif1 h14⟩, hF, hC2, ⟨by rw [h10]; omega, by rw [h10]; exact Int.le_refl _⟩, ?_⟩⟩
      rcases hr with ⟨q, q2⟩ | ⟨f, q, q2, q3⟩
      · exact Or.inl ⟨q, fun k hk q5 => q2 k hk ((hB k hk).mpr q5)⟩
      · exact Or.inr ⟨f, q, ⟨q2.1, (hB f q).mp q2.2.1, fun k hk q5 => q2.2.2 k hk ((hB k (by omega)).mpr q5)⟩, by rw [q3, hV2 f (by omega), hV2 (f + 1) (by omega)]⟩
    · refine r_bipush X (-2) (by decide) dX11_between_17 ?_
      refine r_ireturn X hR dX11_between_19 rfl (Nat.zero_le _) (Nat.zero_le _) ?_
      exact ⟨_, _, _, rfl, rfl, Or.inl ⟨rfl, fun q => by first | exact hx q.1 | exact zif0 h14 q.2, rfl⟩⟩
