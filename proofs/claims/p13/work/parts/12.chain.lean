/-! PlainScale, Chain, PairSums (wip/gen/spec_c.py) -/
theorem zclN {i : Int32} (h : 0 ≤ i.toInt) : (i.toNatClampNeg : Int) = i.toInt := by rw [Int32.toNatClampNeg]; omega
theorem zif0 {p : Prop} [Decidable p] (h : (if p then (1 : Int32) else 0) = 0) : ¬ p := fun q => by rw [if_pos q] at h; exact absurd h (by decide)
/-- the plain scale is not cut yet, or is cut by the table -/
def zPk (ι : Nat → Nat → Int32) (p pl : Nat) : Prop := (ι p 0).toInt < 100 ∨ ∀ k, k < 900 → ι pl k = zPc (zFz 0 k) (zFz 1 k) (ι p 0)
def zNd (f : Nat → Int) : Prop := ∀ k, k + 1 < 900 → f k ≤ f (k + 1)
theorem zNd_le {f : Nat → Int} (h : zNd f) {i : Nat} : ∀ j, i ≤ j → j < 900 → f i ≤ f j := by
  intro j
  induction j with
  | zero => intro q1 _; have : i = 0 := by omega
            subst this; exact Int.le_refl _
  | succ j ih =>
    intro q1 q2
    by_cases e : i = j + 1
    · subst e; exact Int.le_refl _
    · have h1 := ih (by omega) (by omega)
      have h2 := h j q2
      omega
def zAi (x : Int) : Int := if x < 0 then -x else x
theorem zAi_of (x : Int) : (0 ≤ x ∧ zAi x = x) ∨ (x < 0 ∧ zAi x = -x) := by
  unfold zAi
  by_cases h : x < 0
  · rw [if_pos h]; exact Or.inr ⟨h, rfl⟩
  · rw [if_neg h]; exact Or.inl ⟨by omega, rfl⟩
/-- n is the first of those nearest to p -/
def zNr (f : Nat → Int) (p : Int) (n : Nat) : Prop := n < 900 ∧ (∀ k, k < 900 → zAi (f n - p) ≤ zAi (f k - p)) ∧ ∀ k, k < n → zAi (f n - p) < zAi (f k - p)
theorem zNr_u {f : Nat → Int} {p : Int} {n m : Nat} (h : zNr f p n) (g : zNr f p m) : n = m := by
  rcases Nat.lt_trichotomy n m with e | e | e
  · have := g.2.2 n e
    have := h.2.1 m g.1
    omega
  · exact e
  · have := h.2.2 m e
    have := g.2.1 n h.1
    omega
theorem zNr_0 {f : Nat → Int} (hM : zNd f) {p : Int} (h : p ≤ f 0) : zNr f p 0 := ⟨by omega, fun k hk => by
  have h1 := zNd_le hM k (Nat.zero_le k) hk
  have z1 := zAi_of (f 0 - p)
  have z2 := zAi_of (f k - p)
  omega, fun k hk => by omega⟩
theorem zNr_up {f : Nat → Int} (hM : zNd f) {p : Int} {r : Nat} (h1 : 1 ≤ r) (h9 : r < 900) (h : p ≤ f r) (hl : f r - p < p - f (r - 1)) : zNr f p r := by
  have z1 := zAi_of (f r - p)
  refine ⟨h9, fun k hk => ?_, fun k hk => ?_⟩
  · have z2 := zAi_of (f k - p)
    rcases Nat.lt_or_ge k r with e | e
    · have := zNd_le hM (r - 1) (i := k) (by omega) (by omega); omega
    · have := zNd_le hM k (i := r) e hk; omega
  · have z2 := zAi_of (f k - p)
    have := zNd_le hM (r - 1) (i := k) (by omega) (by omega); omega
theorem zNr_dn {f : Nat → Int} (hM : zNd f) {p : Int} {r n : Nat} (h1 : 1 ≤ r) (h9 : r ≤ 900) (hlo : f (r - 1) < p) (hup : ∀ k, r ≤ k → k < 900 → p - f (r - 1) ≤ f k - p) (hn : n ≤ r - 1) (hn2 : ∀ k, k < n → f k < f (r - 1)) (hn3 : f (r - 1) ≤ f n) : zNr f p n := by
  have z1 := zAi_of (f n - p)
  have h2 := zNd_le hM (r - 1) (i := n) hn (by omega)
  refine ⟨by omega, fun k hk => ?_, fun k hk => ?_⟩
  · have z2 := zAi_of (f k - p)
    rcases Nat.lt_or_ge k r with e | e
    · have := zNd_le hM (r - 1) (i := k) (by omega) (by omega); omega
    · have := hup k e hk; omega
  · have z2 := zAi_of (f k - p)
    have := hn2 k hk; omega
theorem zhalf {x : Int32} (h : 0 ≤ x.toInt) : (x / 2).toInt = x.toInt / 2 := by
  have h2 := x.toInt_lt
  rw [Int32.toInt_div, show (2 : Int32).toInt = 2 from rfl, Int.tdiv_eq_ediv_of_nonneg h]
  exact Int.bmod_eq_of_le (by omega) (by omega)
theorem zmid {lo hi : Int32} (h0 : 0 ≤ lo.toInt) (h : lo.toInt < hi.toInt) (h2 : hi.toInt ≤ 1000000) : lo.toInt ≤ ((lo + hi) / 2).toInt ∧ ((lo + hi) / 2).toInt < hi.toInt := by
  have e := zaddI (x := lo) (y := hi) (by omega) (by omega)
  rw [zhalf (by omega), e]
  omega
theorem zdiv10 {y : Int64} (h : 0 < y.toInt) : 0 ≤ (y / 10).toInt ∧ (y / 10).toInt < y.toInt := by
  have h2 := y.toInt_lt
  rw [Int64.toInt_div, show (10 : Int64).toInt = 10 from rfl, Int.tdiv_eq_ediv_of_nonneg (by omega), Int.bmod_eq_of_le (by omega) (by omega)]
  omega
set_option maxHeartbeats 4000000 in
set_option maxRecDepth 100000 in
theorem c_X11_isFactor (l : Launch) (G : zG) (z : Nat) (τ : Nat → Option (Nat × Nat)) (ρ : Nat → Nat → Option Nat) (ι : Nat → Nat → Int32) (κ : Nat → Nat → Int64) (x : Int32) : zM l G yX11_isFactor cX11_isFactor 1 (some .boolean) ({ frames := 0, cells := 0, slots := 0, locals := 0 } : Room) [.int x] (z, τ, ρ, ι, κ) (fun v s => v = some (.int (if 100 ≤ x.toInt ∧ x.toInt ≤ 999 then 1 else 0)) ∧ s = (z, τ, ρ, ι, κ)) 0 0 := by
  refine zM_of zCd_X11_isFactor (Nat.le_of_ble_eq_true rfl) ?_
  intro E X hR hE
  subst hE
  show zW E G 1 (z, τ, ρ, ι, κ) 0 0 0 [(0, .int x)] []
  refine r_iload_n X (by rfl) dX11_isFactor_0 ?_
  refine r_bipush X 100 (by decide) dX11_isFactor_1 ?_
  refine r_icmp_lt X 17 dX11_isFactor_3 (by decide) (fun h3 => ?_) (fun h3 => ?_)
  · rw [show Int32.toInt 100 = 100 from rfl] at h3
    refine r_iconst X 0 (by decide) dX11_isFactor_17 ?_
    refine r_ireturn X hR dX11_isFactor_18 rfl (Nat.zero_le _) (Nat.zero_le _) ?_
    exact ⟨by first | rw [if_pos (by omega)] | rw [if_neg (by omega)], rfl⟩
  · rw [show Int32.toInt 100 = 100 from rfl] at h3
    refine r_iload_n X (by rfl) dX11_isFactor_6 ?_
    refine r_sipush X 999 (by decide) dX11_isFactor_7 ?_
    refine r_icmp_gt X 17 dX11_isFactor_10 (by decide) (fun h10 => ?_) (fun h10 => ?_)
    · rw [show Int32.toInt 999 = 999 from rfl] at h10
      refine r_iconst X 0 (by decide) dX11_isFactor_17 ?_
      refine r_ireturn X hR dX11_isFactor_18 rfl (Nat.zero_le _) (Nat.zero_le _) ?_
      exact ⟨by first | rw [if_pos (by omega)] | rw [if_neg (by omega)], rfl⟩
    · rw [show Int32.toInt 999 = 999 from rfl] at h10
      refine r_iconst X 1 (by decide) dX11_isFactor_13 ?_
      refine r_goto X 18 dX11_isFactor_14 (by decide) ?_
      refine r_ireturn X hR dX11_isFactor_18 rfl (Nat.zero_le _) (Nat.zero_le _) ?_
      exact ⟨by first | rw [if_pos (by omega)] | rw [if_neg (by omega)], rfl⟩
set_option maxHeartbeats 4000000 in
set_option maxRecDepth 100000 in
theorem c_X11_isStrip (l : Launch) (G : zG) (z : Nat) (τ : Nat → Option (Nat × Nat)) (ρ : Nat → Nat → Option Nat) (ι : Nat → Nat → Int32) (κ : Nat → Nat → Int64) (x : Int32) : zM l G yX11_isStrip cX11_isStrip 1 (some .boolean) ({ frames := 0, cells := 0, slots := 0, locals := 0 } : Room) [.int x] (z, τ, ρ, ι, κ) (fun v s => v = some (.int (if 0 ≤ x.toInt ∧ x.toInt < 2 then 1 else 0)) ∧ s = (z, τ, ρ, ι, κ)) 0 0 := by
  refine zM_of zCd_X11_isStrip (Nat.le_of_ble_eq_true rfl) ?_
  intro E X hR hE
  subst hE
  show zW E G 1 (z, τ, ρ, ι, κ) 0 0 0 [(0, .int x)] []
  refine r_iload_n X (by rfl) dX11_isStrip_0 ?_
  refine r_if_lt X 13 dX11_isStrip_1 (by decide) (fun h1 => ?_) (fun h1 => ?_)
  · refine r_iconst X 0 (by decide) dX11_isStrip_13 ?_
    refine r_ireturn X hR dX11_isStrip_14 rfl (Nat.zero_le _) (Nat.zero_le _) ?_
    exact ⟨by first | rw [if_pos (by omega)] | rw [if_neg (by omega)], rfl⟩
  · refine r_iload_n X (by rfl) dX11_isStrip_4 ?_
    refine r_iconst X 2 (by decide) dX11_isStrip_5 ?_
    refine r_icmp_ge X 13 dX11_isStrip_6 (by decide) (fun h6 => ?_) (fun h6 => ?_)
    · rw [show Int32.toInt 2 = 2 from rfl] at h6
      refine r_iconst X 0 (by decide) dX11_isStrip_13 ?_
      refine r_ireturn X hR dX11_isStrip_14 rfl (Nat.zero_le _) (Nat.zero_le _) ?_
      exact ⟨by first | rw [if_pos (by omega)] | rw [if_neg (by omega)], rfl⟩
    · rw [show Int32.toInt 2 = 2 from rfl] at h6
      refine r_iconst X 1 (by decide) dX11_isStrip_9 ?_
      refine r_goto X 14 dX11_isStrip_10 (by decide) ?_
      refine r_ireturn X hR dX11_isStrip_14 rfl (Nat.zero_le _) (Nat.zero_le _) ?_
      exact ⟨by first | rw [if_pos (by omega)] | rw [if_neg (by omega)], rfl⟩
set_option maxHeartbeats 4000000 in
set_option maxRecDepth 100000 in
theorem c_X6_digestOnto (l : Launch) (G : zG) (z : Nat) (τ : Nat → Option (Nat × Nat)) (ρ : Nat → Nat → Option Nat) (ι : Nat → Nat → Int32) (κ : Nat → Nat → Int64) {a v M N : Nat} (hτ : τ a = some (6, M)) (hρ : ρ a 0 = some v) (hτv : τ v = some (13, N)) (h : Int64) (h1 : (ι a 1).toInt ≤ N) (hN : N < 2 ^ 31) : zM l G yX6_digestOnto cX6_digestOnto 4 (some .long) ({ frames := 0, cells := 0, slots := 0, locals := 0 } : Room) [.ref a, .long h] (z, τ, ρ, ι, κ) (fun v s => ∃ r, v = some (.long r) ∧ s = (z, τ, ρ, ι, κ)) 0 0 := by
  refine zM_of zCd_X6_digestOnto (Nat.le_of_ble_eq_true rfl) ?_
  intro E X hR hE
  subst hE
  show zW E G 4 (z, τ, ρ, ι, κ) 0 0 0 [(0, .ref a), (1, .long h)] []
  have L2 : ∀ (m : Nat) (i : Int32) (y : Int64), ((ι a 1).toInt - i.toInt).toNat < m → 0 ≤ i.toInt → zW E G 4 (z, τ, ρ, ι, κ) 0 0 2 [(0, .ref a), (1, .long y), (3, .int i)] [] := by
    intro m
    induction m with
    | zero => intro i y h; omega
    | succ m ih => ?_
    intro i y hm h0
    have hlt := (ι a 1).toInt_lt
    refine r_iload_n X (by rfl) dX6_digestOnto_2 ?_
    refine r_aload_n X (by rfl) dX6_digestOnto_3 ?_
    refine r_getI X dX6_digestOnto_4 zF_X6_9 hτ ?_
    refine r_icmp_ge X 30 dX6_digestOnto_7 (by decide) (fun h7 => ?_) (fun h7 => ?_)
    · refine r_lload_n X (by rfl) dX6_digestOnto_30 ?_
      refine r_lreturn X hR dX6_digestOnto_31 (Nat.zero_le _) (Nat.zero_le _) ?_
      exact ⟨_, rfl, rfl⟩
    · refine r_ldc2 X zK_X6_29 dX6_digestOnto_10 ?_
      refine r_lload_n X (by rfl) dX6_digestOnto_13 ?_
      refine r_lmul X dX6_digestOnto_14 ?_
      refine r_aload_n X (by rfl) dX6_digestOnto_15 ?_
      refine r_getR X dX6_digestOnto_16 zF_X6_21 hτ hρ ?_
      refine r_iload_n X (by rfl) dX6_digestOnto_19 ?_
      refine r_iaload X dX6_digestOnto_20 hτv (vp_in_iff.mpr ⟨h0, by omega⟩) ?_
      refine r_i2l X dX6_digestOnto_21 ?_
      refine r_ladd X dX6_digestOnto_22 ?_
      refine r_lstore_n X (by decide) dX6_digestOnto_23 ?_
      refine r_iinc X 1 (by decide) (by rfl) (by decide) dX6_digestOnto_24 ?_
      refine r_goto X 2 dX6_digestOnto_27 (by decide) ?_
      exact zW.loc3 (by rfl) (by rfl) (by rfl) (ih _ _ (by have e := zinc (x := i) (by omega); omega) (by have e := zinc (x := i) (by omega); omega))
  refine r_iconst X 0 (by decide) dX6_digestOnto_0 ?_
  refine r_istore_n X (by decide) dX6_digestOnto_1 ?_
  exact zW.loc3 (by rfl) (by rfl) (by rfl) (L2 ((ι a 1).toInt.toNat + 1) _ _ (by rw [show (0 : Int32).toInt = 0 from rfl]; omega) (by decide))
set_option maxHeartbeats 4000000 in
set_option maxRecDepth 100000 in
theorem c_X5_cutFor (l : Launch) (G : zG) (z : Nat) (τ : Nat → Option (Nat × Nat)) (ρ : Nat → Nat → Option Nat) (ι : Nat → Nat → Int32) (κ : Nat → Nat → Int64) {lg hi lo te to bo M1 M2 M3 M4 : Nat} (hτl : τ lg = some (2, M1)) (hρ0 : ρ lg 0 = some hi) (hρ1 : ρ lg 1 = some lo) (hρ2 : ρ lg 2 = some te) (hρ3 : ρ lg 3 = some to) (hρ4 : ρ lg 4 = some bo) (hhi : τ hi = some (1000, 900)) (hlo : τ lo = some (1001, 900)) (hte : τ te = some (10, M2)) (hto : τ to = some (10, M3)) (hbo : τ bo = some (10, M4)) (dte : te ≠ to) (dtb : te ≠ bo) {p pl M5 : Nat} (hp : τ p = some (5, M5)) (hρp : ρ p 1 = some pl) (hpl : τ pl = some (13, 900)) (dtt : to ≠ bo) (hpp : pl ≠ p) (hT : zTq) (hK : zPk ι p pl) (x : Int32) (x1 : 100 ≤ x.toInt) : zM l G yX5_cutFor cX5_cutFor 4 none ({ frames := 4, cells := 0, slots := 0, locals := 102 } : Room) [.ref p, .int x, .ref lg] (z, τ, ρ, ι, κ) (fun v s => v = none ∧ ∃ ι2 κ2, s = (z, τ, ρ, ι2, κ2) ∧ (∀ b, b ≠ p → b ≠ pl → ι2 b = ι b) ∧ ι2 p 0 = x ∧ ∀ k, k < 900 → ι2 pl k = zPc (zFz 0 k) (zFz 1 k) x) 0 0 := by
  refine zM_of zCd_X5_cutFor (Nat.le_of_ble_eq_true rfl) ?_
  intro E X hR hE
  subst hE
  show zW E G 4 (z, τ, ρ, ι, κ) 0 0 0 [(0, .ref p), (1, .int x), (2, .ref lg)] []
  have L16 : ∀ (m : Nat) (i : Int32) (ι1 : Nat → Nat → Int32) (κ1 : Nat → Nat → Int64), (900 - i.toInt).toNat < m → 0 ≤ i.toInt → (∀ b, b ≠ p → b ≠ pl → ι1 b = ι b) → ι1 p 0 = x → (∀ k : Nat, (k : Int) < i.toInt → ι1 pl k = zPc (zFz 0 k) (zFz 1 k) x) → zW E G 4 (z, τ, ρ, ι1, κ1) 0 0 16 [(0, .ref p), (1, .int x), (2, .ref lg), (3, .int i)] [] := by
    intro m
    induction m with
    | zero => intro i ι1 κ1 h; omega
    | succ m ih => ?_
    intro i ι1 κ1 hm h0 hf hs hv
    have hic := zclN h0
    refine r_iload_n X (by rfl) dX5_cutFor_16 ?_
    refine r_sipush X 900 (by decide) dX5_cutFor_17 ?_
    refine r_icmp_ge X 47 dX5_cutFor_20 (by decide) (fun h20 => ?_) (fun h20 => ?_)
    · rw [show Int32.toInt 900 = 900 from rfl] at h20
      refine r_return X hR dX5_cutFor_47 (Nat.zero_le _) (Nat.zero_le _) ?_
      exact ⟨rfl, _, _, rfl, hf, hs, fun k h9 => hv k (by omega)⟩
    · rw [show Int32.toInt 900 = 900 from rfl] at h20
      refine r_aload_n X (by rfl) dX5_cutFor_23 ?_
      refine r_getR X dX5_cutFor_24 zF_X5_15 hp hρp ?_
      refine r_iload_n X (by rfl) dX5_cutFor_27 ?_
      have e100 : (100 + i).toInt = 100 + i.toInt := by rw [zaddI (x := 100) (y := i) (by rw [show Int32.toInt 100 = 100 from rfl]; omega) (by rw [show Int32.toInt 100 = 100 from rfl]; omega), show Int32.toInt 100 = 100 from rfl]
      have e100b : (100 + i - 100).toInt = i.toInt := by rw [zsubI (x := 100 + i) (y := 100) (by rw [e100, show Int32.toInt 100 = 100 from rfl]; omega) (by rw [e100, show Int32.toInt 100 = 100 from rfl]; omega), e100, show Int32.toInt 100 = 100 from rfl]; omega
      have e100c : (100 + i - 100).toNatClampNeg = i.toNatClampNeg := by have := zclN (i := 100 + i - 100) (by omega); omega
      refine r_aload_n X (by rfl) dX5_cutFor_28 ?_
      refine r_bipush X 100 (by decide) dX5_cutFor_29 ?_
      refine r_iload_n X (by rfl) dX5_cutFor_31 ?_
      refine r_iadd X dX5_cutFor_32 ?_
      refine r_iload_n X (by rfl) dX5_cutFor_33 ?_
      refine r_iconst X 1 (by decide) dX5_cutFor_34 ?_
      refine r_bipush X 10 (by decide) dX5_cutFor_35 ?_
      refine r_callV X dX5_cutFor_37 zLV_X5_19 zCd_X2_placeOf (c_X2_placeOfE _ G z τ ρ _ _ hτl hρ0 hρ1 hρ2 hρ3 hρ4 hhi hlo hte hto hbo dte dtb dtt _ _ (by omega) (by omega) hT) hτl ⟨by decide, rfl, rfl⟩ rfl rfl ⟨⟨rfl, rfl⟩, ⟨by decide, by decide⟩, ⟨Nat.le_of_ble_eq_true rfl, Nat.le_of_ble_eq_true rfl⟩, Nat.le_of_ble_eq_true rfl⟩ ?_
      rintro _ _ ⟨κ2, rfl, rfl⟩
      rw [e100c]
      refine r_iastore X dX5_cutFor_40 hpl (vp_in_iff.mpr ⟨h0, by omega⟩) ?_
      refine r_iinc X 1 (by decide) (by rfl) (by decide) dX5_cutFor_41 ?_
      refine r_goto X 16 dX5_cutFor_44 (by decide) ?_
      exact zW.loc4 (by rfl) (by rfl) (by rfl) (by rfl) (ih _ _ _ (by have e := zinc (x := i) (by omega); omega) (by have e := zinc (x := i) (by omega); omega) (fun b h1 h2 => by rw [zu_r h2]; exact hf b h1 h2) (by rw [zu_r (Ne.symm hpp)]; exact hs) (fun k hk9 => by
        have e := zinc (x := i) (by omega)
        by_cases q : k = i.toNatClampNeg
        · subst q; rw [zu_s]
        · rw [zu_k q]; exact hv k (by omega)))
  refine r_iload_n X (by rfl) dX5_cutFor_0 ?_
  refine r_aload_n X (by rfl) dX5_cutFor_1 ?_
  refine r_getI X dX5_cutFor_2 zF_X5_9 hp ?_
  refine r_icmp_ne X 9 dX5_cutFor_5 (by decide) (fun h5 => ?_) (fun h5 => ?_)
  · refine r_aload_n X (by rfl) dX5_cutFor_9 ?_
    refine r_iload_n X (by rfl) dX5_cutFor_10 ?_
    refine r_putI X dX5_cutFor_11 zF_X5_9 hp rfl rfl ?_
    refine r_iconst X 0 (by decide) dX5_cutFor_14 ?_
    refine r_istore_n X (by decide) dX5_cutFor_15 ?_
    exact zW.loc4 (by rfl) (by rfl) (by rfl) (by rfl) (L16 901 _ _ _ (by decide) (by decide) (fun b h1 _ => zu_r h1) zu_s (fun k hk => by rw [show Int32.toInt 0 = 0 from rfl] at hk; omega))
  · refine r_return X hR dX5_cutFor_8 (Nat.zero_le _) (Nat.zero_le _) ?_
    exact ⟨rfl, _, _, rfl, fun _ _ _ => rfl, h5.symm, fun k hk => by
      rcases hK with q | q
      · rw [← h5] at q; omega
      · rw [h5]; exact q k hk⟩
set_option maxHeartbeats 4000000 in
set_option maxRecDepth 100000 in
theorem c_X5_placeOf (l : Launch) (G : zG) (z : Nat) (τ : Nat → Option (Nat × Nat)) (ρ : Nat → Nat → Option Nat) (ι : Nat → Nat → Int32) (κ : Nat → Nat → Int64) {p pl M5 : Nat} (hp : τ p = some (5, M5)) (hρp : ρ p 1 = some pl) (hpl : τ pl = some (13, 900)) (x : Int32) : zM l G yX5_placeOf cX5_placeOf 2 (some .int) ({ frames := 1, cells := 0, slots := 0, locals := 20 } : Room) [.ref p, .int x] (z, τ, ρ, ι, κ) (fun v s => v = some (.int (if 100 ≤ x.toInt ∧ x.toInt ≤ 999 then ι pl (x - 100).toNatClampNeg else 0)) ∧ s = (z, τ, ρ, ι, κ)) 0 0 := by
  refine zM_of zCd_X5_placeOf (Nat.le_of_ble_eq_true rfl) ?_
  intro E X hR hE
  subst hE
  show zW E G 2 (z, τ, ρ, ι, κ) 0 0 0 [(0, .ref p), (1, .int x)] []
  refine r_iload_n X (by rfl) dX5_placeOf_0 ?_
  refine r_callSN X dX5_placeOf_1 zNe_X5_25 zini_X11 zstat_X11_isFactor zCd_X11_isFactor (c_X11_isFactor _ G z τ ρ _ _ _) rfl rfl ⟨⟨rfl, rfl⟩, ⟨by decide, by decide⟩, ⟨Nat.le_of_ble_eq_true rfl, Nat.le_of_ble_eq_true rfl⟩, Nat.le_of_ble_eq_true rfl⟩ ?_
  rintro _ _ ⟨rfl, rfl⟩
  refine r_if_eq X 19 dX5_placeOf_4 (by decide) (fun h4 => ?_) (fun h4 => ?_)
  · refine r_iconst X 0 (by decide) dX5_placeOf_19 ?_
    refine r_ireturn X hR dX5_placeOf_20 rfl (Nat.zero_le _) (Nat.zero_le _) ?_
    first | exact ⟨by rw [if_pos hx], rfl⟩ | exact ⟨by rw [if_neg (zif0 h4)], rfl⟩
  · have hx : 100 ≤ x.toInt ∧ x.toInt ≤ 999 := by
      by_cases q : 100 ≤ x.toInt ∧ x.toInt ≤ 999
      · exact q
      · rw [if_neg q] at h4; exact absurd rfl h4
    refine r_aload_n X (by rfl) dX5_placeOf_7 ?_
    refine r_getR X dX5_placeOf_8 zF_X5_15 hp hρp ?_
    refine r_iload_n X (by rfl) dX5_placeOf_11 ?_
    refine r_bipush X 100 (by decide) dX5_placeOf_12 ?_
    refine r_isub X dX5_placeOf_14 ?_
    refine r_iaload X dX5_placeOf_15 hpl (vp_in_iff.mpr (by rw [zsubI (by rw [show (100 : Int32).toInt = 100 from rfl]; omega) (by rw [show (100 : Int32).toInt = 100 from rfl]; omega), show (100 : Int32).toInt = 100 from rfl]; omega)) ?_
    refine r_goto X 20 dX5_placeOf_16 (by decide) ?_
    refine r_ireturn X hR dX5_placeOf_20 rfl (Nat.zero_le _) (Nat.zero_le _) ?_
    first | exact ⟨by rw [if_pos hx], rfl⟩ | exact ⟨by rw [if_neg (zif0 h4)], rfl⟩
set_option maxHeartbeats 4000000 in
set_option maxRecDepth 100000 in
theorem c_X5_firstFrom (l : Launch) (G : zG) (z : Nat) (τ : Nat → Option (Nat × Nat)) (ρ : Nat → Nat → Option Nat) (ι : Nat → Nat → Int32) (κ : Nat → Nat → Int64) {p pl M5 : Nat} (hp : τ p = some (5, M5)) (hρp : ρ p 1 = some pl) (hpl : τ pl = some (13, 900)) (x : Int32) : zM l G yX5_firstFrom cX5_firstFrom 5 (some .int) ({ frames := 0, cells := 0, slots := 0, locals := 0 } : Room) [.ref p, .int x] (z, τ, ρ, ι, κ) (fun v s => ∃ r, v = some (.int r) ∧ 0 ≤ r.toInt ∧ r.toInt ≤ 900 ∧ s = (z, τ, ρ, ι, κ)) 0 0 := by
  refine zM_of zCd_X5_firstFrom (Nat.le_of_ble_eq_true rfl) ?_
  intro E X hR hE
  subst hE
  show zW E G 5 (z, τ, ρ, ι, κ) 0 0 0 [(0, .ref p), (1, .int x)] []
  have L6 : ∀ (m : Nat) (lo hi : Int32), (hi.toInt - lo.toInt).toNat < m → 0 ≤ lo.toInt → lo.toInt ≤ hi.toInt → hi.toInt ≤ 900 → zW E G 5 (z, τ, ρ, ι, κ) 0 0 6 [(0, .ref p), (1, .int x), (2, .int lo), (3, .int hi)] [] := by
    intro m
    induction m with
    | zero => intro lo hi h; omega
    | succ m ih => ?_
    intro lo hi hm h0 h1 h2
    refine r_iload_n X (by rfl) dX5_firstFrom_6 ?_
    refine r_iload_n X (by rfl) dX5_firstFrom_7 ?_
    refine r_icmp_ge X 43 dX5_firstFrom_8 (by decide) (fun h8 => ?_) (fun h8 => ?_)
    · refine r_iload_n X (by rfl) dX5_firstFrom_43 ?_
      refine r_ireturn X hR dX5_firstFrom_44 rfl (Nat.zero_le _) (Nat.zero_le _) ?_
      exact ⟨_, rfl, h0, by omega, rfl⟩
    · have hm2 := zmid h0 h8 (by omega)
      refine r_iload_n X (by rfl) dX5_firstFrom_11 ?_
      refine r_iload_n X (by rfl) dX5_firstFrom_12 ?_
      refine r_iadd X dX5_firstFrom_13 ?_
      refine r_iconst X 2 (by decide) dX5_firstFrom_14 ?_
      refine r_idiv X (by decide) dX5_firstFrom_15 ?_
      refine r_istore X (by decide) dX5_firstFrom_16 ?_
      refine r_aload_n X (by rfl) dX5_firstFrom_18 ?_
      refine r_getR X dX5_firstFrom_19 zF_X5_15 hp hρp ?_
      refine r_iload X (by rfl) dX5_firstFrom_22 ?_
      refine r_iaload X dX5_firstFrom_24 hpl (vp_in_iff.mpr (by omega)) ?_
      refine r_iload_n X (by rfl) dX5_firstFrom_25 ?_
      refine r_icmp_ge X 37 dX5_firstFrom_26 (by decide) (fun h26 => ?_) (fun h26 => ?_)
      · refine r_iload X (by rfl) dX5_firstFrom_37 ?_
        refine r_istore_n X (by decide) dX5_firstFrom_39 ?_
        refine r_goto X 6 dX5_firstFrom_40 (by decide) ?_
        exact zW.loc4 (by rfl) (by rfl) (by rfl) (by rfl) (ih _ _ (by omega) (by omega) (by omega) (by omega))
      · have e := zinc (x := (lo + hi) / 2) (by omega)
        refine r_iload X (by rfl) dX5_firstFrom_29 ?_
        refine r_iconst X 1 (by decide) dX5_firstFrom_31 ?_
        refine r_iadd X dX5_firstFrom_32 ?_
        refine r_istore_n X (by decide) dX5_firstFrom_33 ?_
        refine r_goto X 40 dX5_firstFrom_34 (by decide) ?_
        refine r_goto X 6 dX5_firstFrom_40 (by decide) ?_
        exact zW.loc4 (by rfl) (by rfl) (by rfl) (by rfl) (ih _ _ (by omega) (by omega) (by omega) (by omega))
  refine r_iconst X 0 (by decide) dX5_firstFrom_0 ?_
  refine r_istore_n X (by decide) dX5_firstFrom_1 ?_
  refine r_sipush X 900 (by decide) dX5_firstFrom_2 ?_
  refine r_istore_n X (by decide) dX5_firstFrom_5 ?_
  exact zW.loc4 (by rfl) (by rfl) (by rfl) (by rfl) (L6 901 _ _ (by decide) (by decide) (by decide) (by decide))
set_option maxHeartbeats 4000000 in
set_option maxRecDepth 100000 in
theorem c_X5_readingOf (l : Launch) (G : zG) (z : Nat) (τ : Nat → Option (Nat × Nat)) (ρ : Nat → Nat → Option Nat) (ι : Nat → Nat → Int32) (κ : Nat → Nat → Int64) {p pl M5 : Nat} (hp : τ p = some (5, M5)) (hρp : ρ p 1 = some pl) (hpl : τ pl = some (13, 900)) (x : Int32) : zM l G yX5_readingOf cX5_readingOf 4 (some .int) ({ frames := 1, cells := 0, slots := 0, locals := 24 } : Room) [.ref p, .int x] (z, τ, ρ, ι, κ) (fun v s => ∃ r, v = some (.int r) ∧ s = (z, τ, ρ, ι, κ)) 0 0 := by
  refine zM_of zCd_X5_readingOf (Nat.le_of_ble_eq_true rfl) ?_
  intro E X hR hE
  subst hE
  show zW E G 4 (z, τ, ρ, ι, κ) 0 0 0 [(0, .ref p), (1, .int x)] []
  refine r_aload_n X (by rfl) dX5_readingOf_0 ?_
  refine r_iload_n X (by rfl) dX5_readingOf_1 ?_
  refine r_callV X dX5_readingOf_2 zLV_X5_29 zCd_X5_firstFrom (c_X5_firstFrom _ G z τ ρ _ _ hp hρp hpl _) hp ⟨by decide, rfl, rfl⟩ rfl rfl ⟨⟨rfl, rfl⟩, ⟨by decide, by decide⟩, ⟨Nat.le_of_ble_eq_true rfl, Nat.le_of_ble_eq_true rfl⟩, Nat.le_of_ble_eq_true rfl⟩ ?_
  rintro _ _ ⟨r, rfl, hr0, hr1, rfl⟩
  refine r_istore_n X (by decide) dX5_readingOf_5 ?_
  refine r_iload_n X (by rfl) dX5_readingOf_6 ?_
  refine r_if_ne X 13 dX5_readingOf_7 (by decide) (fun h7 => ?_) (fun h7 => ?_)
  · have hr2 : 0 < r.toInt := by
      rcases Int.lt_or_eq_of_le hr0 with q | q
      · exact q
      · exact absurd (Int32.toInt_inj.mp (by rw [← q]; rfl)) h7
    have hr3 := zsub1 hr2
    refine r_aload_n X (by rfl) dX5_readingOf_13 ?_
    refine r_getR X dX5_readingOf_14 zF_X5_15 hp hρp ?_
    refine r_iload_n X (by rfl) dX5_readingOf_17 ?_
    refine r_iconst X 1 (by decide) dX5_readingOf_18 ?_
    refine r_isub X dX5_readingOf_19 ?_
    refine r_iaload X dX5_readingOf_20 hpl (vp_in_iff.mpr (by omega)) ?_
    refine r_istore_n X (by decide) dX5_readingOf_21 ?_
    refine r_iload_n X (by rfl) dX5_readingOf_22 ?_
    refine r_sipush X 900 (by decide) dX5_readingOf_23 ?_
    refine r_icmp_ge X 48 dX5_readingOf_26 (by decide) (fun h26 => ?_) (fun h26 => ?_)
    · rw [show Int32.toInt 900 = 900 from rfl] at h26
      refine r_bipush X 100 (by decide) dX5_readingOf_48 ?_
      refine r_aload_n X (by rfl) dX5_readingOf_50 ?_
      refine r_iload_n X (by rfl) dX5_readingOf_51 ?_
      refine r_callV X dX5_readingOf_52 zLV_X5_29 zCd_X5_firstFrom (c_X5_firstFrom _ G z τ ρ _ _ hp hρp hpl _) hp ⟨by decide, rfl, rfl⟩ rfl rfl ⟨⟨rfl, rfl⟩, ⟨by decide, by decide⟩, ⟨Nat.le_of_ble_eq_true rfl, Nat.le_of_ble_eq_true rfl⟩, Nat.le_of_ble_eq_true rfl⟩ ?_
      rintro _ _ ⟨r2, rfl, _, _, rfl⟩
      refine r_iadd X dX5_readingOf_55 ?_
      refine r_ireturn X hR dX5_readingOf_56 rfl (Nat.zero_le _) (Nat.zero_le _) ?_
      exact ⟨_, rfl, rfl⟩
    · rw [show Int32.toInt 900 = 900 from rfl] at h26
      refine r_aload_n X (by rfl) dX5_readingOf_29 ?_
      refine r_getR X dX5_readingOf_30 zF_X5_15 hp hρp ?_
      refine r_iload_n X (by rfl) dX5_readingOf_33 ?_
      refine r_iaload X dX5_readingOf_34 hpl (vp_in_iff.mpr (by omega)) ?_
      refine r_iload_n X (by rfl) dX5_readingOf_35 ?_
      refine r_isub X dX5_readingOf_36 ?_
      refine r_iload_n X (by rfl) dX5_readingOf_37 ?_
      refine r_iload_n X (by rfl) dX5_readingOf_38 ?_
      refine r_isub X dX5_readingOf_39 ?_
      refine r_icmp_ge X 48 dX5_readingOf_40 (by decide) (fun h40 => ?_) (fun h40 => ?_)
      · refine r_bipush X 100 (by decide) dX5_readingOf_48 ?_
        refine r_aload_n X (by rfl) dX5_readingOf_50 ?_
        refine r_iload_n X (by rfl) dX5_readingOf_51 ?_
        refine r_callV X dX5_readingOf_52 zLV_X5_29 zCd_X5_firstFrom (c_X5_firstFrom _ G z τ ρ _ _ hp hρp hpl _) hp ⟨by decide, rfl, rfl⟩ rfl rfl ⟨⟨rfl, rfl⟩, ⟨by decide, by decide⟩, ⟨Nat.le_of_ble_eq_true rfl, Nat.le_of_ble_eq_true rfl⟩, Nat.le_of_ble_eq_true rfl⟩ ?_
        rintro _ _ ⟨r2, rfl, _, _, rfl⟩
        refine r_iadd X dX5_readingOf_55 ?_
        refine r_ireturn X hR dX5_readingOf_56 rfl (Nat.zero_le _) (Nat.zero_le _) ?_
        exact ⟨_, rfl, rfl⟩
      · refine r_bipush X 100 (by decide) dX5_readingOf_43 ?_
        refine r_iload_n X (by rfl) dX5_readingOf_45 ?_
        refine r_iadd X dX5_readingOf_46 ?_
        refine r_ireturn X hR dX5_readingOf_47 rfl (Nat.zero_le _) (Nat.zero_le _) ?_
        exact ⟨_, rfl, rfl⟩
  · refine r_bipush X 100 (by decide) dX5_readingOf_10 ?_
    refine r_ireturn X hR dX5_readingOf_12 rfl (Nat.zero_le _) (Nat.zero_le _) ?_
    exact ⟨_, rfl, rfl⟩
set_option maxHeartbeats 4000000 in
set_option maxRecDepth 100000 in
theorem e_X5_firstFrom (l : Launch) (G : zG) (z : Nat) (τ : Nat → Option (Nat × Nat)) (ρ : Nat → Nat → Option Nat) (ι : Nat → Nat → Int32) (κ : Nat → Nat → Int64) {p pl M5 : Nat} (hp : τ p = some (5, M5)) (hρp : ρ p 1 = some pl) (hpl : τ pl = some (13, 900)) (hM : zNd (fun k => (ι pl k).toInt)) (x : Int32) : zM l G yX5_firstFrom cX5_firstFrom 5 (some .int) ({ frames := 0, cells := 0, slots := 0, locals := 0 } : Room) [.ref p, .int x] (z, τ, ρ, ι, κ) (fun v s => ∃ r, v = some (.int r) ∧ 0 ≤ r.toInt ∧ r.toInt ≤ 900 ∧ s = (z, τ, ρ, ι, κ) ∧ (∀ k : Nat, (k : Int) < r.toInt → (ι pl k).toInt < x.toInt) ∧ ∀ k : Nat, r.toInt ≤ (k : Int) → k < 900 → x.toInt ≤ (ι pl k).toInt) 0 0 := by
  refine zM_of zCd_X5_firstFrom (Nat.le_of_ble_eq_true rfl) ?_
  intro E X hR hE
  subst hE
  show zW E G 5 (z, τ, ρ, ι, κ) 0 0 0 [(0, .ref p), (1, .int x)] []
  have L6 : ∀ (m : Nat) (lo hi : Int32), (hi.toInt - lo.toInt).toNat < m → 0 ≤ lo.toInt → lo.toInt ≤ hi.toInt → hi.toInt ≤ 900 → (∀ k : Nat, (k : Int) < lo.toInt → (ι pl k).toInt < x.toInt) → (∀ k : Nat, hi.toInt ≤ (k : Int) → k < 900 → x.toInt ≤ (ι pl k).toInt) → zW E G 5 (z, τ, ρ, ι, κ) 0 0 6 [(0, .ref p), (1, .int x), (2, .int lo), (3, .int hi)] [] := by
    intro m
    induction m with
    | zero => intro lo hi h; omega
    | succ m ih => ?_
    intro lo hi hm h0 h1 h2 hA hB
    refine r_iload_n X (by rfl) dX5_firstFrom_6 ?_
    refine r_iload_n X (by rfl) dX5_firstFrom_7 ?_
    refine r_icmp_ge X 43 dX5_firstFrom_8 (by decide) (fun h8 => ?_) (fun h8 => ?_)
    · refine r_iload_n X (by rfl) dX5_firstFrom_43 ?_
      refine r_ireturn X hR dX5_firstFrom_44 rfl (Nat.zero_le _) (Nat.zero_le _) ?_
      have hlh : lo.toInt = hi.toInt := by omega
      exact ⟨_, rfl, h0, by omega, rfl, hA, fun k hk => hB k (by omega)⟩
    · have hm2 := zmid h0 h8 (by omega)
      have hmc := zclN (i := (lo + hi) / 2) (by omega)
      refine r_iload_n X (by rfl) dX5_firstFrom_11 ?_
      refine r_iload_n X (by rfl) dX5_firstFrom_12 ?_
      refine r_iadd X dX5_firstFrom_13 ?_
      refine r_iconst X 2 (by decide) dX5_firstFrom_14 ?_
      refine r_idiv X (by decide) dX5_firstFrom_15 ?_
      refine r_istore X (by decide) dX5_firstFrom_16 ?_
      refine r_aload_n X (by rfl) dX5_firstFrom_18 ?_
      refine r_getR X dX5_firstFrom_19 zF_X5_15 hp hρp ?_
      refine r_iload X (by rfl) dX5_firstFrom_22 ?_
      refine r_iaload X dX5_firstFrom_24 hpl (vp_in_iff.mpr (by omega)) ?_
      refine r_iload_n X (by rfl) dX5_firstFrom_25 ?_
      refine r_icmp_ge X 37 dX5_firstFrom_26 (by decide) (fun h26 => ?_) (fun h26 => ?_)
      · have hB2 : ∀ k : Nat, ((lo + hi) / 2).toInt ≤ (k : Int) → k < 900 → x.toInt ≤ (ι pl k).toInt := fun k hk k9 => by
          have h9 := zNd_le hM k (i := ((lo + hi) / 2).toNatClampNeg) (by omega) k9
          change (ι pl ((lo + hi) / 2).toNatClampNeg).toInt ≤ (ι pl k).toInt at h9
          omega
        refine r_iload X (by rfl) dX5_firstFrom_37 ?_
        refine r_istore_n X (by decide) dX5_firstFrom_39 ?_
        refine r_goto X 6 dX5_firstFrom_40 (by decide) ?_
        exact zW.loc4 (by rfl) (by rfl) (by rfl) (by rfl) (ih _ _ (by omega) (by omega) (by omega) (by omega) (by first | exact hA | exact hA2) (by first | exact hB | exact hB2))
      · have e := zinc (x := (lo + hi) / 2) (by omega)
        have hA2 : ∀ k : Nat, (k : Int) < ((lo + hi) / 2 + 1).toInt → (ι pl k).toInt < x.toInt := fun k hk => by
          have h9 := zNd_le hM ((lo + hi) / 2).toNatClampNeg (i := k) (by omega) (by omega)
          change (ι pl k).toInt ≤ (ι pl ((lo + hi) / 2).toNatClampNeg).toInt at h9
          omega
        refine r_iload X (by rfl) dX5_firstFrom_29 ?_
        refine r_iconst X 1 (by decide) dX5_firstFrom_31 ?_
        refine r_iadd X dX5_firstFrom_32 ?_
        refine r_istore_n X (by decide) dX5_firstFrom_33 ?_
        refine r_goto X 40 dX5_firstFrom_34 (by decide) ?_
        refine r_goto X 6 dX5_firstFrom_40 (by decide) ?_
        exact zW.loc4 (by rfl) (by rfl) (by rfl) (by rfl) (ih _ _ (by omega) (by omega) (by omega) (by omega) (by first | exact hA | exact hA2) (by first | exact hB | exact hB2))
  refine r_iconst X 0 (by decide) dX5_firstFrom_0 ?_
  refine r_istore_n X (by decide) dX5_firstFrom_1 ?_
  refine r_sipush X 900 (by decide) dX5_firstFrom_2 ?_
  refine r_istore_n X (by decide) dX5_firstFrom_5 ?_
  exact zW.loc4 (by rfl) (by rfl) (by rfl) (by rfl) (L6 901 _ _ (by decide) (by decide) (by decide) (by decide) (fun k hk => by rw [show Int32.toInt 0 = 0 from rfl] at hk; omega) (fun k hk h9 => by rw [show Int32.toInt 900 = 900 from rfl] at hk; omega))
set_option maxHeartbeats 4000000 in
set_option maxRecDepth 100000 in
theorem e_X5_readingOf (l : Launch) (G : zG) (z : Nat) (τ : Nat → Option (Nat × Nat)) (ρ : Nat → Nat → Option Nat) (ι : Nat → Nat → Int32) (κ : Nat → Nat → Int64) {p pl M5 : Nat} (hp : τ p = some (5, M5)) (hρp : ρ p 1 = some pl) (hpl : τ pl = some (13, 900)) (hM : zNd (fun k => (ι pl k).toInt)) (hb : ∀ k, k < 900 → -1000000 ≤ (ι pl k).toInt ∧ (ι pl k).toInt ≤ 1000000) (x : Int32) (hx : -1000000 ≤ x.toInt ∧ x.toInt ≤ 1000000) : zM l G yX5_readingOf cX5_readingOf 4 (some .int) ({ frames := 1, cells := 0, slots := 0, locals := 24 } : Room) [.ref p, .int x] (z, τ, ρ, ι, κ) (fun v s => ∃ r, v = some (.int r) ∧ s = (z, τ, ρ, ι, κ) ∧ ∃ n : Nat, r.toInt = 100 + (n : Int) ∧ zNr (fun k => (ι pl k).toInt) x.toInt n) 0 0 := by
  refine zM_of zCd_X5_readingOf (Nat.le_of_ble_eq_true rfl) ?_
  intro E X hR hE
  subst hE
  show zW E G 4 (z, τ, ρ, ι, κ) 0 0 0 [(0, .ref p), (1, .int x)] []
  refine r_aload_n X (by rfl) dX5_readingOf_0 ?_
  refine r_iload_n X (by rfl) dX5_readingOf_1 ?_
  refine r_callV X dX5_readingOf_2 zLV_X5_29 zCd_X5_firstFrom (e_X5_firstFrom _ G z τ ρ _ _ hp hρp hpl hM _) hp ⟨by decide, rfl, rfl⟩ rfl rfl ⟨⟨rfl, rfl⟩, ⟨by decide, by decide⟩, ⟨Nat.le_of_ble_eq_true rfl, Nat.le_of_ble_eq_true rfl⟩, Nat.le_of_ble_eq_true rfl⟩ ?_
  rintro _ _ ⟨r, rfl, hr0, hr1, rfl, hA, hB⟩
  have hrc := zclN hr0
  refine r_istore_n X (by decide) dX5_readingOf_5 ?_
  refine r_iload_n X (by rfl) dX5_readingOf_6 ?_
  refine r_if_ne X 13 dX5_readingOf_7 (by decide) (fun h7 => ?_) (fun h7 => ?_)
  · have hr2 : 0 < r.toInt := by
      rcases Int.lt_or_eq_of_le hr0 with q | q
      · exact q
      · exact absurd (Int32.toInt_inj.mp (by rw [← q]; rfl)) h7
    have hr3 := zsub1 hr2
    have hr3c := zclN (i := r - 1) (by omega)
    have hlo := hA (r - 1).toNatClampNeg (by omega)
    have hblo := hb (r - 1).toNatClampNeg (by omega)
    refine r_aload_n X (by rfl) dX5_readingOf_13 ?_
    refine r_getR X dX5_readingOf_14 zF_X5_15 hp hρp ?_
    refine r_iload_n X (by rfl) dX5_readingOf_17 ?_
    refine r_iconst X 1 (by decide) dX5_readingOf_18 ?_
    refine r_isub X dX5_readingOf_19 ?_
    refine r_iaload X dX5_readingOf_20 hpl (vp_in_iff.mpr (by omega)) ?_
    refine r_istore_n X (by decide) dX5_readingOf_21 ?_
    refine r_iload_n X (by rfl) dX5_readingOf_22 ?_
    refine r_sipush X 900 (by decide) dX5_readingOf_23 ?_
    refine r_icmp_ge X 48 dX5_readingOf_26 (by decide) (fun h26 => ?_) (fun h26 => ?_)
    · rw [show Int32.toInt 900 = 900 from rfl] at h26
      refine r_bipush X 100 (by decide) dX5_readingOf_48 ?_
      refine r_aload_n X (by rfl) dX5_readingOf_50 ?_
      refine r_iload_n X (by rfl) dX5_readingOf_51 ?_
      refine r_callV X dX5_readingOf_52 zLV_X5_29 zCd_X5_firstFrom (e_X5_firstFrom _ G z τ ρ _ _ hp hρp hpl hM _) hp ⟨by decide, rfl, rfl⟩ rfl rfl ⟨⟨rfl, rfl⟩, ⟨by decide, by decide⟩, ⟨Nat.le_of_ble_eq_true rfl, Nat.le_of_ble_eq_true rfl⟩, Nat.le_of_ble_eq_true rfl⟩ ?_
      rintro _ _ ⟨r2, rfl, hq0, hq1, rfl, hA2, hB2⟩
      have hqc := zclN hq0
      refine r_iadd X dX5_readingOf_55 ?_
      refine r_ireturn X hR dX5_readingOf_56 rfl (Nat.zero_le _) (Nat.zero_le _) ?_
      have e9 : r.toNatClampNeg - 1 = (r - 1).toNatClampNeg := by omega
      have h11 : r2.toInt ≤ (r - 1).toInt := Int.not_lt.mp (fun q => by have := hA2 (r - 1).toNatClampNeg (by omega); omega)
      exact ⟨_, rfl, rfl, r2.toNatClampNeg, by rw [zaddI (x := 100) (y := r2) (by rw [show Int32.toInt 100 = 100 from rfl]; omega) (by rw [show Int32.toInt 100 = 100 from rfl]; omega), show Int32.toInt 100 = 100 from rfl]; omega, zNr_dn hM (r := r.toNatClampNeg) (by omega) (by omega) (by rw [e9]; exact hlo) (fun k k1 k2 => by
        omega) (by omega) (fun k hk => by rw [e9]; exact hA2 k (by omega)) (by rw [e9]; exact hB2 _ (by omega) (by omega))⟩
    · rw [show Int32.toInt 900 = 900 from rfl] at h26
      have hup := hB r.toNatClampNeg (by omega) (by omega)
      have hbup := hb r.toNatClampNeg (by omega)
      have es1 : (ι pl r.toNatClampNeg - x).toInt = (ι pl r.toNatClampNeg).toInt - x.toInt := zsubI (by omega) (by omega)
      have es2 : (x - ι pl (r - 1).toNatClampNeg).toInt = x.toInt - (ι pl (r - 1).toNatClampNeg).toInt := zsubI (by omega) (by omega)
      refine r_aload_n X (by rfl) dX5_readingOf_29 ?_
      refine r_getR X dX5_readingOf_30 zF_X5_15 hp hρp ?_
      refine r_iload_n X (by rfl) dX5_readingOf_33 ?_
      refine r_iaload X dX5_readingOf_34 hpl (vp_in_iff.mpr (by omega)) ?_
      refine r_iload_n X (by rfl) dX5_readingOf_35 ?_
      refine r_isub X dX5_readingOf_36 ?_
      refine r_iload_n X (by rfl) dX5_readingOf_37 ?_
      refine r_iload_n X (by rfl) dX5_readingOf_38 ?_
      refine r_isub X dX5_readingOf_39 ?_
      refine r_icmp_ge X 48 dX5_readingOf_40 (by decide) (fun h40 => ?_) (fun h40 => ?_)
      · refine r_bipush X 100 (by decide) dX5_readingOf_48 ?_
        refine r_aload_n X (by rfl) dX5_readingOf_50 ?_
        refine r_iload_n X (by rfl) dX5_readingOf_51 ?_
        refine r_callV X dX5_readingOf_52 zLV_X5_29 zCd_X5_firstFrom (e_X5_firstFrom _ G z τ ρ _ _ hp hρp hpl hM _) hp ⟨by decide, rfl, rfl⟩ rfl rfl ⟨⟨rfl, rfl⟩, ⟨by decide, by decide⟩, ⟨Nat.le_of_ble_eq_true rfl, Nat.le_of_ble_eq_true rfl⟩, Nat.le_of_ble_eq_true rfl⟩ ?_
        rintro _ _ ⟨r2, rfl, hq0, hq1, rfl, hA2, hB2⟩
        have hqc := zclN hq0
        refine r_iadd X dX5_readingOf_55 ?_
        refine r_ireturn X hR dX5_readingOf_56 rfl (Nat.zero_le _) (Nat.zero_le _) ?_
        have e9 : r.toNatClampNeg - 1 = (r - 1).toNatClampNeg := by omega
        have h11 : r2.toInt ≤ (r - 1).toInt := Int.not_lt.mp (fun q => by have := hA2 (r - 1).toNatClampNeg (by omega); omega)
        exact ⟨_, rfl, rfl, r2.toNatClampNeg, by rw [zaddI (x := 100) (y := r2) (by rw [show Int32.toInt 100 = 100 from rfl]; omega) (by rw [show Int32.toInt 100 = 100 from rfl]; omega), show Int32.toInt 100 = 100 from rfl]; omega, zNr_dn hM (r := r.toNatClampNeg) (by omega) (by omega) (by rw [e9]; exact hlo) (fun k k1 k2 => by
          have h9 := zNd_le hM k (i := r.toNatClampNeg) k1 k2
          change (ι pl r.toNatClampNeg).toInt ≤ (ι pl k).toInt at h9
          show x.toInt - (ι pl (r.toNatClampNeg - 1)).toInt ≤ (ι pl k).toInt - x.toInt
          rw [e9]; omega) (by omega) (fun k hk => by rw [e9]; exact hA2 k (by omega)) (by rw [e9]; exact hB2 _ (by omega) (by omega))⟩
      · refine r_bipush X 100 (by decide) dX5_readingOf_43 ?_
        refine r_iload_n X (by rfl) dX5_readingOf_45 ?_
        refine r_iadd X dX5_readingOf_46 ?_
        refine r_ireturn X hR dX5_readingOf_47 rfl (Nat.zero_le _) (Nat.zero_le _) ?_
        exact ⟨_, rfl, rfl, r.toNatClampNeg, by rw [zaddI (x := 100) (y := r) (by rw [show Int32.toInt 100 = 100 from rfl]; omega) (by rw [show Int32.toInt 100 = 100 from rfl]; omega), show Int32.toInt 100 = 100 from rfl]; omega, zNr_up hM (r := r.toNatClampNeg) (by omega) (by omega) hup (by show (ι pl r.toNatClampNeg).toInt - x.toInt < x.toInt - (ι pl (r.toNatClampNeg - 1)).toInt; rw [show r.toNatClampNeg - 1 = (r - 1).toNatClampNeg by omega]; omega)⟩
  · refine r_bipush X 100 (by decide) dX5_readingOf_10 ?_
    refine r_ireturn X hR dX5_readingOf_12 rfl (Nat.zero_le _) (Nat.zero_le _) ?_
    have hr9 : r.toInt = 0 := by rw [h7]; rfl
    exact ⟨_, rfl, rfl, 0, rfl, zNr_0 hM (hB 0 (by omega) (by omega))⟩
set_option maxHeartbeats 4000000 in
set_option maxRecDepth 100000 in
theorem c_X0_move (l : Launch) (G : zG) (z : Nat) (τ : Nat → Option (Nat × Nat)) (ρ : Nat → Nat → Option Nat) (ι : Nat → Nat → Int32) (κ : Nat → Nat → Int64) {p pl M5 : Nat} (hp : τ p = some (5, M5)) (hρp : ρ p 1 = some pl) (hpl : τ pl = some (13, 900)) {a M6 : Nat} (ha : τ a = some (0, M6)) (x : Int32) : zM l G yX0_move cX0_move 3 none ({ frames := 2, cells := 0, slots := 0, locals := 41 } : Room) [.ref a, .int x, .ref p] (z, τ, ρ, ι, κ) (fun v s => v = none ∧ ∃ ι2, s = (z, τ, ρ, ι2, κ) ∧ ∀ b, b ≠ a → ι2 b = ι b) 0 0 := by
  refine zM_of zCd_X0_move (Nat.le_of_ble_eq_true rfl) ?_
  intro E X hR hE
  subst hE
  show zW E G 3 (z, τ, ρ, ι, κ) 0 0 0 [(0, .ref a), (1, .int x), (2, .ref p)] []
  refine r_aload_n X (by rfl) dX0_move_0 ?_
  refine r_dup X rfl dX0_move_1 ?_
  refine r_getI X dX0_move_2 zF_X0_20 ha ?_
  refine r_aload_n X (by rfl) dX0_move_5 ?_
  refine r_iload_n X (by rfl) dX0_move_6 ?_
  refine r_callV X dX0_move_7 zLV_X0_31 zCd_X5_placeOf (c_X5_placeOf _ G z τ ρ _ _ hp hρp hpl _) hp ⟨by decide, rfl, rfl⟩ rfl rfl ⟨⟨rfl, rfl⟩, ⟨by decide, by decide⟩, ⟨Nat.le_of_ble_eq_true rfl, Nat.le_of_ble_eq_true rfl⟩, Nat.le_of_ble_eq_true rfl⟩ ?_
  rintro _ _ ⟨rfl, rfl⟩
  refine r_iadd X dX0_move_10 ?_
  refine r_putI X dX0_move_11 zF_X0_20 ha rfl rfl ?_
  refine r_aload_n X (by rfl) dX0_move_14 ?_
  refine r_getI X dX0_move_15 zF_X0_20 ha ?_
  refine r_aload_n X (by rfl) dX0_move_18 ?_
  refine r_getI X dX0_move_19 zF_X0_37 hp ?_
  refine r_icmp_lt X 48 dX0_move_22 (by decide) (fun h22 => ?_) (fun h22 => ?_)
  · refine r_return X hR dX0_move_48 (Nat.zero_le _) (Nat.zero_le _) ?_
    exact ⟨rfl, _, rfl, fun b hb => by simp only [zu_r hb]⟩
  · refine r_aload_n X (by rfl) dX0_move_25 ?_
    refine r_dup X rfl dX0_move_26 ?_
    refine r_getI X dX0_move_27 zF_X0_20 ha ?_
    refine r_aload_n X (by rfl) dX0_move_30 ?_
    refine r_getI X dX0_move_31 zF_X0_37 hp ?_
    refine r_isub X dX0_move_34 ?_
    refine r_putI X dX0_move_35 zF_X0_20 ha rfl rfl ?_
    refine r_aload_n X (by rfl) dX0_move_38 ?_
    refine r_dup X rfl dX0_move_39 ?_
    refine r_getI X dX0_move_40 zF_X0_24 ha ?_
    refine r_iconst X 1 (by decide) dX0_move_43 ?_
    refine r_iadd X dX0_move_44 ?_
    refine r_putI X dX0_move_45 zF_X0_24 ha rfl rfl ?_
    refine r_return X hR dX0_move_48 (Nat.zero_le _) (Nat.zero_le _) ?_
    exact ⟨rfl, _, rfl, fun b hb => by simp only [zu_r hb]⟩
set_option maxHeartbeats 4000000 in
set_option maxRecDepth 100000 in
theorem c_X0_walk (l : Launch) (G : zG) (z : Nat) (τ : Nat → Option (Nat × Nat)) (ρ : Nat → Nat → Option Nat) (ι : Nat → Nat → Int32) (κ : Nat → Nat → Int64) {p pl M5 : Nat} (hp : τ p = some (5, M5)) (hρp : ρ p 1 = some pl) (hpl : τ pl = some (13, 900)) {a M6 : Nat} (ha : τ a = some (0, M6)) {f fv M7 : Nat} (hρf : ρ a 0 = some f) (hf6 : τ f = some (6, M7)) (hρv : ρ f 0 = some fv) (hfv : τ fv = some (13, 12)) (hfa : f ≠ a) (hva : fv ≠ a) (h1 : (ι f 1).toInt ≤ 12) : zM l G yX0_walk cX0_walk 3 none ({ frames := 3, cells := 0, slots := 0, locals := 63 } : Room) [.ref a, .ref p] (z, τ, ρ, ι, κ) (fun v s => v = none ∧ ∃ ι2, s = (z, τ, ρ, ι2, κ) ∧ ∀ b, b ≠ a → ι2 b = ι b) 0 0 := by
  refine zM_of zCd_X0_walk (Nat.le_of_ble_eq_true rfl) ?_
  intro E X hR hE
  subst hE
  show zW E G 3 (z, τ, ρ, ι, κ) 0 0 0 [(0, .ref a), (1, .ref p)] []
  have L6 : ∀ (m : Nat) (i : Int32) (ι1 : Nat → Nat → Int32), (12 - i.toInt).toNat < m → 0 ≤ i.toInt → (∀ b, b ≠ a → ι1 b = ι b) → zW E G 3 (z, τ, ρ, ι1, κ) 0 0 6 [(0, .ref a), (1, .ref p), (2, .int i)] [] := by
    intro m
    induction m with
    | zero => intro i ι1 h; omega
    | succ m ih => ?_
    intro i ι1 hm h0 hf
    have hfs : ι1 f 1 = ι f 1 := by rw [hf f hfa]
    refine r_iload_n X (by rfl) dX0_walk_6 ?_
    refine r_aload_n X (by rfl) dX0_walk_7 ?_
    refine r_getR X dX0_walk_8 zF_X0_16 ha hρf ?_
    refine r_getI X dX0_walk_11 zF_X0_43 hf6 ?_
    refine r_icmp_ge X 37 dX0_walk_14 (by decide) (fun h14 => ?_) (fun h14 => ?_)
    · rw [hfs] at h14
      refine r_return X hR dX0_walk_37 (Nat.zero_le _) (Nat.zero_le _) ?_
      exact ⟨rfl, _, rfl, hf⟩
    · rw [hfs] at h14
      refine r_aload_n X (by rfl) dX0_walk_17 ?_
      refine r_aload_n X (by rfl) dX0_walk_18 ?_
      refine r_getR X dX0_walk_19 zF_X0_16 ha hρf ?_
      refine r_getR X dX0_walk_22 zF_X0_46 hf6 hρv ?_
      refine r_iload_n X (by rfl) dX0_walk_25 ?_
      refine r_iaload X dX0_walk_26 hfv (vp_in_iff.mpr ⟨h0, by omega⟩) ?_
      refine r_aload_n X (by rfl) dX0_walk_27 ?_
      refine r_callV X dX0_walk_28 zLV_X0_50 zCd_X0_move (c_X0_move _ G z τ ρ _ _ hp hρp hpl ha _) ha ⟨by decide, rfl, rfl⟩ rfl rfl ⟨⟨rfl, rfl⟩, ⟨by decide, by decide⟩, ⟨Nat.le_of_ble_eq_true rfl, Nat.le_of_ble_eq_true rfl⟩, Nat.le_of_ble_eq_true rfl⟩ ?_
      rintro _ _ ⟨rfl, ι2, rfl, hf2⟩
      refine r_iinc X 1 (by decide) (by rfl) (by decide) dX0_walk_31 ?_
      refine r_goto X 6 dX0_walk_34 (by decide) ?_
      exact zW.loc3 (by rfl) (by rfl) (by rfl) (ih _ _ (by have e := zinc (x := i) (by omega); omega) (by have e := zinc (x := i) (by omega); omega) (fun b hb => by rw [hf2 b hb]; exact hf b hb))
  refine r_aload_n X (by rfl) dX0_walk_0 ?_
  refine r_callV X dX0_walk_1 zLV_X0_40 zCd_X0_begin (c_X0_begin _ G z τ ρ _ _ ha) ha ⟨by decide, rfl, rfl⟩ rfl rfl ⟨⟨rfl, rfl⟩, ⟨by decide, by decide⟩, ⟨Nat.le_of_ble_eq_true rfl, Nat.le_of_ble_eq_true rfl⟩, Nat.le_of_ble_eq_true rfl⟩ ?_
  rintro _ _ ⟨rfl, rfl⟩
  refine r_iconst X 0 (by decide) dX0_walk_4 ?_
  refine r_istore_n X (by decide) dX0_walk_5 ?_
  exact zW.loc3 (by rfl) (by rfl) (by rfl) (L6 13 _ _ (by decide) (by decide) (fun b hb => by simp only [zu_r hb]))
set_option maxHeartbeats 4000000 in
set_option maxRecDepth 100000 in
theorem c_X0_firstThree (l : Launch) (G : zG) (z : Nat) (τ : Nat → Option (Nat × Nat)) (ρ : Nat → Nat → Option Nat) (ι : Nat → Nat → Int32) (κ : Nat → Nat → Int64) (x : Int64) : zM l G yX0_firstThree cX0_firstThree 4 (some .int) ({ frames := 0, cells := 0, slots := 0, locals := 0 } : Room) [.long x] (z, τ, ρ, ι, κ) (fun v s => ∃ r, v = some (.int r) ∧ s = (z, τ, ρ, ι, κ)) 0 0 := by
  refine zM_of zCd_X0_firstThree (Nat.le_of_ble_eq_true rfl) ?_
  intro E X hR hE
  subst hE
  show zW E G 4 (z, τ, ρ, ι, κ) 0 0 0 [(0, .long x)] []
  have L2 : ∀ (m : Nat) (y : Int64), y.toInt.toNat < m → zW E G 4 (z, τ, ρ, ι, κ) 0 0 2 [(0, .long x), (2, .long y)] [] := by
    intro m
    induction m with
    | zero => intro y h; omega
    | succ m ih => ?_
    intro y hm
    refine r_lload_n X (by rfl) dX0_firstThree_2 ?_
    refine r_ldc2 X zK_X0_63 dX0_firstThree_3 ?_
    refine r_lcmp_le X 19 dX0_firstThree_6 dX0_firstThree_7 (by decide) (fun h6 => ?_) (fun h6 => ?_)
    · rw [show Int64.toInt 999 = 999 from rfl] at h6
      refine r_lload_n X (by rfl) dX0_firstThree_19 ?_
      refine r_l2i X dX0_firstThree_20 ?_
      refine r_ireturn X hR dX0_firstThree_21 rfl (Nat.zero_le _) (Nat.zero_le _) ?_
      exact ⟨_, rfl, rfl⟩
    · rw [show Int64.toInt 999 = 999 from rfl] at h6
      refine r_lload_n X (by rfl) dX0_firstThree_10 ?_
      refine r_ldc2 X zK_X0_65 dX0_firstThree_11 ?_
      refine r_ldiv X (by decide) dX0_firstThree_14 ?_
      refine r_lstore_n X (by decide) dX0_firstThree_15 ?_
      refine r_goto X 2 dX0_firstThree_16 (by decide) ?_
      exact zW.loc2 (by rfl) (by rfl) (ih _ (by have e := zdiv10 (y := y) (by omega); omega))
  refine r_lload_n X (by rfl) dX0_firstThree_0 ?_
  refine r_lstore_n X (by decide) dX0_firstThree_1 ?_
  exact zW.loc2 (by rfl) (by rfl) (L2 (x.toInt.toNat + 1) _ (by omega))
set_option maxHeartbeats 4000000 in
set_option maxRecDepth 100000 in
theorem c_X0_multiplyOut (l : Launch) (G : zG) (z : Nat) (τ : Nat → Option (Nat × Nat)) (ρ : Nat → Nat → Option Nat) (ι : Nat → Nat → Int32) (κ : Nat → Nat → Int64) {a M6 : Nat} (ha : τ a = some (0, M6)) {f fv M7 : Nat} (hρf : ρ a 0 = some f) (hf6 : τ f = some (6, M7)) (hρv : ρ f 0 = some fv) (hfv : τ fv = some (13, 12)) {lm : Nat} (hρm : ρ a 3 = some lm) (hlm : τ lm = some (14, 4)) (h1 : (ι f 1).toInt ≤ 12) : zM l G yX0_multiplyOut cX0_multiplyOut 7 none ({ frames := 0, cells := 0, slots := 0, locals := 0 } : Room) [.ref a] (z, τ, ρ, ι, κ) (fun v s => v = none ∧ ∃ κ2, s = (z, τ, ρ, ι, κ2)) 0 0 := by
  refine zM_of zCd_X0_multiplyOut (Nat.le_of_ble_eq_true rfl) ?_
  intro E X hR hE
  subst hE
  show zW E G 7 (z, τ, ρ, ι, κ) 0 0 0 [(0, .ref a)] []
  have L30 : ∀ (m : Nat) (i : Int32) (κ1 : Nat → Nat → Int64), (12 - i.toInt).toNat < m → 0 ≤ i.toInt → zW E G 7 (z, τ, ρ, ι, κ1) 0 0 30 [(0, .ref a), (1, .int i)] [] := by
    intro m
    induction m with
    | zero => intro i κ1 h; omega
    | succ m ih => ?_
    intro i κ1 hm h0
    have L46 : i.toInt < (ι f 1).toInt → ∀ (m2 : Nat) (j : Int32) (y : Int64) (κ2 : Nat → Nat → Int64), (4 - j.toInt).toNat < m2 → 0 ≤ j.toInt → zW E G 7 (z, τ, ρ, ι, κ2) 0 0 46 [(0, .ref a), (1, .int i), (2, .long y), (4, .int j)] [] := by
      intro hi m2
      induction m2 with
      | zero => intro j y κ2 h; omega
      | succ m2 ih2 => ?_
      intro j y κ2 hm2 hj
      refine r_iload X (by rfl) dX0_multiplyOut_46 ?_
      refine r_iconst X 4 (by decide) dX0_multiplyOut_48 ?_
      refine r_icmp_ge X 100 dX0_multiplyOut_49 (by decide) (fun h49 => ?_) (fun h49 => ?_)
      · rw [show Int32.toInt 4 = 4 from rfl] at h49
        refine r_iinc X 1 (by decide) (by rfl) (by decide) dX0_multiplyOut_100 ?_
        refine r_goto X 30 dX0_multiplyOut_103 (by decide) ?_
        exact zW.loc2 (by rfl) (by rfl) (ih _ _ (by have e := zinc (x := i) (by omega); omega) (by have e := zinc (x := i) (by omega); omega))
      · rw [show Int32.toInt 4 = 4 from rfl] at h49
        refine r_aload_n X (by rfl) dX0_multiplyOut_52 ?_
        refine r_getR X dX0_multiplyOut_53 zF_X0_27 ha hρm ?_
        refine r_iload X (by rfl) dX0_multiplyOut_56 ?_
        refine r_laload X dX0_multiplyOut_58 hlm (vp_in_iff.mpr ⟨hj, by omega⟩) ?_
        refine r_aload_n X (by rfl) dX0_multiplyOut_59 ?_
        refine r_getR X dX0_multiplyOut_60 zF_X0_16 ha hρf ?_
        refine r_getR X dX0_multiplyOut_63 zF_X0_46 hf6 hρv ?_
        refine r_iload_n X (by rfl) dX0_multiplyOut_66 ?_
        refine r_iaload X dX0_multiplyOut_67 hfv (vp_in_iff.mpr ⟨h0, by omega⟩) ?_
        refine r_i2l X dX0_multiplyOut_68 ?_
        refine r_lmul X dX0_multiplyOut_69 ?_
        refine r_lload_n X (by rfl) dX0_multiplyOut_70 ?_
        refine r_ladd X dX0_multiplyOut_71 ?_
        refine r_lstore X (by decide) dX0_multiplyOut_72 ?_
        refine r_aload_n X (by rfl) dX0_multiplyOut_74 ?_
        refine r_getR X dX0_multiplyOut_75 zF_X0_27 ha hρm ?_
        refine r_iload X (by rfl) dX0_multiplyOut_78 ?_
        refine r_lload X (by rfl) dX0_multiplyOut_80 ?_
        refine r_ldc2 X zK_X0_57 dX0_multiplyOut_82 ?_
        refine r_lrem X (by decide) dX0_multiplyOut_85 ?_
        refine r_lastore X dX0_multiplyOut_86 hlm (vp_in_iff.mpr ⟨hj, by omega⟩) ?_
        refine r_lload X (by rfl) dX0_multiplyOut_87 ?_
        refine r_ldc2 X zK_X0_57 dX0_multiplyOut_89 ?_
        refine r_ldiv X (by decide) dX0_multiplyOut_92 ?_
        refine r_lstore_n X (by decide) dX0_multiplyOut_93 ?_
        refine r_iinc X 1 (by decide) (by rfl) (by decide) dX0_multiplyOut_94 ?_
        refine r_goto X 46 dX0_multiplyOut_97 (by decide) ?_
        exact zW.loc4 (by rfl) (by rfl) (by rfl) (by rfl) (ih2 _ _ _ (by have e := zinc (x := j) (by omega); omega) (by have e := zinc (x := j) (by omega); omega))
    refine r_iload_n X (by rfl) dX0_multiplyOut_30 ?_
    refine r_aload_n X (by rfl) dX0_multiplyOut_31 ?_
    refine r_getR X dX0_multiplyOut_32 zF_X0_16 ha hρf ?_
    refine r_getI X dX0_multiplyOut_35 zF_X0_43 hf6 ?_
    refine r_icmp_ge X 106 dX0_multiplyOut_38 (by decide) (fun h38 => ?_) (fun h38 => ?_)
    · refine r_return X hR dX0_multiplyOut_106 (Nat.zero_le _) (Nat.zero_le _) ?_
      exact ⟨rfl, _, rfl⟩
    · refine r_lconst X 0 (by decide) dX0_multiplyOut_41 ?_
      refine r_lstore_n X (by decide) dX0_multiplyOut_42 ?_
      refine r_iconst X 0 (by decide) dX0_multiplyOut_43 ?_
      refine r_istore X (by decide) dX0_multiplyOut_44 ?_
      exact zW.loc4 (by rfl) (by rfl) (by rfl) (by rfl) (L46 h38 5 _ _ _ (by decide) (by decide))
  have L2 : ∀ (m : Nat) (i : Int32) (κ1 : Nat → Nat → Int64), (4 - i.toInt).toNat < m → 0 ≤ i.toInt → zW E G 7 (z, τ, ρ, ι, κ1) 0 0 2 [(0, .ref a), (1, .int i)] [] := by
    intro m
    induction m with
    | zero => intro i κ1 h; omega
    | succ m ih => ?_
    intro i κ1 hm h0
    refine r_iload_n X (by rfl) dX0_multiplyOut_2 ?_
    refine r_iconst X 4 (by decide) dX0_multiplyOut_3 ?_
    refine r_icmp_ge X 28 dX0_multiplyOut_4 (by decide) (fun h4 => ?_) (fun h4 => ?_)
    · rw [show Int32.toInt 4 = 4 from rfl] at h4
      refine r_iconst X 0 (by decide) dX0_multiplyOut_28 ?_
      refine r_istore_n X (by decide) dX0_multiplyOut_29 ?_
      exact zW.loc2 (by rfl) (by rfl) (L30 13 _ _ (by decide) (by decide))
    · rw [show Int32.toInt 4 = 4 from rfl] at h4
      refine r_aload_n X (by rfl) dX0_multiplyOut_7 ?_
      refine r_getR X dX0_multiplyOut_8 zF_X0_27 ha hρm ?_
      refine r_iload_n X (by rfl) dX0_multiplyOut_11 ?_
      refine r_iload_n X (by rfl) dX0_multiplyOut_12 ?_
      refine r_if_ne X 20 dX0_multiplyOut_13 (by decide) (fun h13 => ?_) (fun h13 => ?_)
      · refine r_lconst X 0 (by decide) dX0_multiplyOut_20 ?_
        refine r_lastore X dX0_multiplyOut_21 hlm (vp_in_iff.mpr ⟨h0, by omega⟩) ?_
        refine r_iinc X 1 (by decide) (by rfl) (by decide) dX0_multiplyOut_22 ?_
        refine r_goto X 2 dX0_multiplyOut_25 (by decide) ?_
        exact zW.loc2 (by rfl) (by rfl) (ih _ _ (by have e := zinc (x := i) (by omega); omega) (by have e := zinc (x := i) (by omega); omega))
      · refine r_lconst X 1 (by decide) dX0_multiplyOut_16 ?_
        refine r_goto X 21 dX0_multiplyOut_17 (by decide) ?_
        refine r_lastore X dX0_multiplyOut_21 hlm (vp_in_iff.mpr ⟨h0, by omega⟩) ?_
        refine r_iinc X 1 (by decide) (by rfl) (by decide) dX0_multiplyOut_22 ?_
        refine r_goto X 2 dX0_multiplyOut_25 (by decide) ?_
        exact zW.loc2 (by rfl) (by rfl) (ih _ _ (by have e := zinc (x := i) (by omega); omega) (by have e := zinc (x := i) (by omega); omega))
  refine r_iconst X 0 (by decide) dX0_multiplyOut_0 ?_
  refine r_istore_n X (by decide) dX0_multiplyOut_1 ?_
  exact zW.loc2 (by rfl) (by rfl) (L2 5 _ _ (by decide) (by decide))
set_option maxHeartbeats 4000000 in
set_option maxRecDepth 100000 in
theorem c_X0_truth (l : Launch) (G : zG) (z : Nat) (τ : Nat → Option (Nat × Nat)) (ρ : Nat → Nat → Option Nat) (ι : Nat → Nat → Int32) (κ : Nat → Nat → Int64) {a M6 : Nat} (ha : τ a = some (0, M6)) {f fv M7 : Nat} (hρf : ρ a 0 = some f) (hf6 : τ f = some (6, M7)) (hρv : ρ f 0 = some fv) (hfv : τ fv = some (13, 12)) {lm : Nat} (hρm : ρ a 3 = some lm) (hlm : τ lm = some (14, 4)) (h1 : (ι f 1).toInt ≤ 12) : zM l G yX0_truth cX0_truth 2 (some .int) ({ frames := 1, cells := 0, slots := 0, locals := 26 } : Room) [.ref a] (z, τ, ρ, ι, κ) (fun v s => ∃ r κ2, v = some (.int r) ∧ s = (z, τ, ρ, ι, κ2)) 0 0 := by
  refine zM_of zCd_X0_truth (Nat.le_of_ble_eq_true rfl) ?_
  intro E X hR hE
  subst hE
  show zW E G 2 (z, τ, ρ, ι, κ) 0 0 0 [(0, .ref a)] []
  have L19 : ∀ (m : Nat) (i : Int32) (κ1 : Nat → Nat → Int64), i.toInt.toNat < m → 0 ≤ i.toInt → i.toInt ≤ 3 → zW E G 2 (z, τ, ρ, ι, κ1) 0 0 19 [(0, .ref a), (1, .int i)] [] := by
    intro m
    induction m with
    | zero => intro i κ1 h; omega
    | succ m ih => ?_
    intro i κ1 hm h0 h3
    refine r_iload_n X (by rfl) dX0_truth_19 ?_
    refine r_if_le X 40 dX0_truth_20 (by decide) (fun h20 => ?_) (fun h20 => ?_)
    · refine r_iload_n X (by rfl) dX0_truth_40 ?_
      refine r_if_le X 66 dX0_truth_41 (by decide) (fun h41 => ?_) (fun h41 => ?_)
      · refine r_aload_n X (by rfl) dX0_truth_66 ?_
        refine r_getR X dX0_truth_67 zF_X0_27 ha hρm ?_
        refine r_iconst X 0 (by decide) dX0_truth_70 ?_
        refine r_laload X dX0_truth_71 hlm (vp_in_iff.mpr ⟨by decide, by decide⟩) ?_
        refine r_callS X dX0_truth_72 zLS_X0_59 zCd_X0_firstThree (c_X0_firstThree _ G z τ ρ _ _ _) rfl rfl ⟨⟨rfl, rfl⟩, ⟨by decide, by decide⟩, ⟨Nat.le_of_ble_eq_true rfl, Nat.le_of_ble_eq_true rfl⟩, Nat.le_of_ble_eq_true rfl⟩ ?_
        rintro _ _ ⟨r, rfl, rfl⟩
        refine r_ireturn X hR dX0_truth_75 rfl (Nat.zero_le _) (Nat.zero_le _) ?_
        exact ⟨_, _, rfl, rfl⟩
      · refine r_aload_n X (by rfl) dX0_truth_44 ?_
        refine r_getR X dX0_truth_45 zF_X0_27 ha hρm ?_
        refine r_iload_n X (by rfl) dX0_truth_48 ?_
        refine r_laload X dX0_truth_49 hlm (vp_in_iff.mpr ⟨h0, by omega⟩) ?_
        refine r_ldc2 X zK_X0_57 dX0_truth_50 ?_
        refine r_lmul X dX0_truth_53 ?_
        refine r_aload_n X (by rfl) dX0_truth_54 ?_
        refine r_getR X dX0_truth_55 zF_X0_27 ha hρm ?_
        refine r_iload_n X (by rfl) dX0_truth_58 ?_
        refine r_iconst X 1 (by decide) dX0_truth_59 ?_
        refine r_isub X dX0_truth_60 ?_
        refine r_laload X dX0_truth_61 hlm (vp_in_iff.mpr (by have e := zsub1 h41; omega)) ?_
        refine r_ladd X dX0_truth_62 ?_
        refine r_goto X 72 dX0_truth_63 (by decide) ?_
        refine r_callS X dX0_truth_72 zLS_X0_59 zCd_X0_firstThree (c_X0_firstThree _ G z τ ρ _ _ _) rfl rfl ⟨⟨rfl, rfl⟩, ⟨by decide, by decide⟩, ⟨Nat.le_of_ble_eq_true rfl, Nat.le_of_ble_eq_true rfl⟩, Nat.le_of_ble_eq_true rfl⟩ ?_
        rintro _ _ ⟨r, rfl, rfl⟩
        refine r_ireturn X hR dX0_truth_75 rfl (Nat.zero_le _) (Nat.zero_le _) ?_
        exact ⟨_, _, rfl, rfl⟩
    · refine r_aload_n X (by rfl) dX0_truth_23 ?_
      refine r_getR X dX0_truth_24 zF_X0_27 ha hρm ?_
      refine r_iload_n X (by rfl) dX0_truth_27 ?_
      refine r_laload X dX0_truth_28 hlm (vp_in_iff.mpr ⟨h0, by omega⟩) ?_
      refine r_lconst X 0 (by decide) dX0_truth_29 ?_
      refine r_lcmp_ne X 40 dX0_truth_30 dX0_truth_31 (by decide) (fun h30 => ?_) (fun h30 => ?_)
      · rw [show Int64.toInt 0 = 0 from rfl] at h30
        refine r_iload_n X (by rfl) dX0_truth_40 ?_
        refine r_if_le X 66 dX0_truth_41 (by decide) (fun h41 => ?_) (fun h41 => ?_)
        · refine r_aload_n X (by rfl) dX0_truth_66 ?_
          refine r_getR X dX0_truth_67 zF_X0_27 ha hρm ?_
          refine r_iconst X 0 (by decide) dX0_truth_70 ?_
          refine r_laload X dX0_truth_71 hlm (vp_in_iff.mpr ⟨by decide, by decide⟩) ?_
          refine r_callS X dX0_truth_72 zLS_X0_59 zCd_X0_firstThree (c_X0_firstThree _ G z τ ρ _ _ _) rfl rfl ⟨⟨rfl, rfl⟩, ⟨by decide, by decide⟩, ⟨Nat.le_of_ble_eq_true rfl, Nat.le_of_ble_eq_true rfl⟩, Nat.le_of_ble_eq_true rfl⟩ ?_
          rintro _ _ ⟨r, rfl, rfl⟩
          refine r_ireturn X hR dX0_truth_75 rfl (Nat.zero_le _) (Nat.zero_le _) ?_
          exact ⟨_, _, rfl, rfl⟩
        · refine r_aload_n X (by rfl) dX0_truth_44 ?_
          refine r_getR X dX0_truth_45 zF_X0_27 ha hρm ?_
          refine r_iload_n X (by rfl) dX0_truth_48 ?_
          refine r_laload X dX0_truth_49 hlm (vp_in_iff.mpr ⟨h0, by omega⟩) ?_
          refine r_ldc2 X zK_X0_57 dX0_truth_50 ?_
          refine r_lmul X dX0_truth_53 ?_
          refine r_aload_n X (by rfl) dX0_truth_54 ?_
          refine r_getR X dX0_truth_55 zF_X0_27 ha hρm ?_
          refine r_iload_n X (by rfl) dX0_truth_58 ?_
          refine r_iconst X 1 (by decide) dX0_truth_59 ?_
          refine r_isub X dX0_truth_60 ?_
          refine r_laload X dX0_truth_61 hlm (vp_in_iff.mpr (by have e := zsub1 h41; omega)) ?_
          refine r_ladd X dX0_truth_62 ?_
          refine r_goto X 72 dX0_truth_63 (by decide) ?_
          refine r_callS X dX0_truth_72 zLS_X0_59 zCd_X0_firstThree (c_X0_firstThree _ G z τ ρ _ _ _) rfl rfl ⟨⟨rfl, rfl⟩, ⟨by decide, by decide⟩, ⟨Nat.le_of_ble_eq_true rfl, Nat.le_of_ble_eq_true rfl⟩, Nat.le_of_ble_eq_true rfl⟩ ?_
          rintro _ _ ⟨r, rfl, rfl⟩
          refine r_ireturn X hR dX0_truth_75 rfl (Nat.zero_le _) (Nat.zero_le _) ?_
          exact ⟨_, _, rfl, rfl⟩
      · rw [show Int64.toInt 0 = 0 from rfl] at h30
        refine r_iinc X (-1) (by decide) (by rfl) (by decide) dX0_truth_34 ?_
        refine r_goto X 19 dX0_truth_37 (by decide) ?_
        exact zW.loc2 (by rfl) (by rfl) (ih _ _ (by have e := zadd_c (x := i) (-1) (-1) rfl (by omega) (by omega); omega) (by have e := zadd_c (x := i) (-1) (-1) rfl (by omega) (by omega); omega) (by have e := zadd_c (x := i) (-1) (-1) rfl (by omega) (by omega); omega))
  refine r_aload_n X (by rfl) dX0_truth_0 ?_
  refine r_getR X dX0_truth_1 zF_X0_16 ha hρf ?_
  refine r_getI X dX0_truth_4 zF_X0_43 hf6 ?_
  refine r_if_ne X 13 dX0_truth_7 (by decide) (fun h7 => ?_) (fun h7 => ?_)
  · refine r_aload_n X (by rfl) dX0_truth_13 ?_
    refine r_callV X dX0_truth_14 zLV_X0_54 zCd_X0_multiplyOut (c_X0_multiplyOut _ G z τ ρ _ _ ha hρf hf6 hρv hfv hρm hlm h1) ha ⟨by decide, rfl, rfl⟩ rfl rfl ⟨⟨rfl, rfl⟩, ⟨by decide, by decide⟩, ⟨Nat.le_of_ble_eq_true rfl, Nat.le_of_ble_eq_true rfl⟩, Nat.le_of_ble_eq_true rfl⟩ ?_
    rintro _ _ ⟨rfl, κ, rfl⟩
    refine r_iconst X 3 (by decide) dX0_truth_17 ?_
    refine r_istore_n X (by decide) dX0_truth_18 ?_
    exact zW.loc2 (by rfl) (by rfl) (L19 4 _ _ (by decide) (by decide) (by decide))
  · refine r_bipush X 100 (by decide) dX0_truth_10 ?_
    refine r_ireturn X hR dX0_truth_12 rfl (Nat.zero_le _) (Nat.zero_le _) ?_
    exact ⟨_, _, rfl, rfl⟩
set_option maxHeartbeats 4000000 in
set_option maxRecDepth 100000 in
theorem c_X4_take (l : Launch) (G : zG) (z : Nat) (τ : Nat → Option (Nat × Nat)) (ρ : Nat → Nat → Option Nat) (ι : Nat → Nat → Int32) (κ : Nat → Nat → Int64) {p pl M5 : Nat} (hp : τ p = some (5, M5)) (hρp : ρ p 1 = some pl) (hpl : τ pl = some (13, 900)) {a M6 : Nat} (ha : τ a = some (0, M6)) {q M8 : Nat} (hq : τ q = some (4, M8)) (hρq : ρ q 10 = some a) (haq : a ≠ q) (hpa : p ≠ a) (hpla : pl ≠ a) (x y : Int32) : zM l G yX4_take cX4_take 5 none ({ frames := 3, cells := 0, slots := 0, locals := 63 } : Room) [.ref q, .int x, .int y, .ref p] (z, τ, ρ, ι, κ) (fun v s => v = none ∧ ∃ ι2, s = (z, τ, ρ, ι2, κ) ∧ (∀ b, b ≠ q → b ≠ a → ι2 b = ι b) ∧ ι2 q 7 = ι q 7 ∧ ι2 q 8 = ι q 8) 0 0 := by
  refine zM_of zCd_X4_take (Nat.le_of_ble_eq_true rfl) ?_
  intro E X hR hE
  subst hE
  show zW E G 5 (z, τ, ρ, ι, κ) 0 0 0 [(0, .ref q), (1, .int x), (2, .int y), (3, .ref p)] []
  refine r_aload_n X (by rfl) dX4_take_0 ?_
  refine r_getR X dX4_take_1 zF_X4_45 hq hρq ?_
  refine r_callV X dX4_take_4 zLV_X4_56 zCd_X0_begin (c_X0_begin _ G z τ ρ _ _ ha) ha ⟨by decide, rfl, rfl⟩ rfl rfl ⟨⟨rfl, rfl⟩, ⟨by decide, by decide⟩, ⟨Nat.le_of_ble_eq_true rfl, Nat.le_of_ble_eq_true rfl⟩, Nat.le_of_ble_eq_true rfl⟩ ?_
  rintro _ _ ⟨rfl, rfl⟩
  refine r_aload_n X (by rfl) dX4_take_7 ?_
  refine r_getR X dX4_take_8 zF_X4_45 hq hρq ?_
  refine r_iload_n X (by rfl) dX4_take_11 ?_
  refine r_aload_n X (by rfl) dX4_take_12 ?_
  refine r_callV X dX4_take_13 zLV_X4_59 zCd_X0_move (c_X0_move _ G z τ ρ _ _ hp hρp hpl ha _) ha ⟨by decide, rfl, rfl⟩ rfl rfl ⟨⟨rfl, rfl⟩, ⟨by decide, by decide⟩, ⟨Nat.le_of_ble_eq_true rfl, Nat.le_of_ble_eq_true rfl⟩, Nat.le_of_ble_eq_true rfl⟩ ?_
  rintro _ _ ⟨rfl, ι2, rfl, hf2⟩
  refine r_aload_n X (by rfl) dX4_take_16 ?_
  refine r_getR X dX4_take_17 zF_X4_45 hq hρq ?_
  refine r_iload_n X (by rfl) dX4_take_20 ?_
  refine r_aload_n X (by rfl) dX4_take_21 ?_
  refine r_callV X dX4_take_22 zLV_X4_59 zCd_X0_move (c_X0_move _ G z τ ρ _ _ hp hρp hpl ha _) ha ⟨by decide, rfl, rfl⟩ rfl rfl ⟨⟨rfl, rfl⟩, ⟨by decide, by decide⟩, ⟨Nat.le_of_ble_eq_true rfl, Nat.le_of_ble_eq_true rfl⟩, Nat.le_of_ble_eq_true rfl⟩ ?_
  rintro _ _ ⟨rfl, ι3, rfl, hf3⟩
  have hf4 : ∀ b, b ≠ a → ι3 b = ι b := fun b hb => by rw [hf3 b hb, hf2 b hb]; simp only [zu_r hb]
  refine r_aload_n X (by rfl) dX4_take_25 ?_
  refine r_aload_n X (by rfl) dX4_take_26 ?_
  refine r_getR X dX4_take_27 zF_X4_45 hq hρq ?_
  refine r_getI X dX4_take_30 zF_X4_63 ha ?_
  refine r_callV X dX4_take_33 zLV_X4_66 zCd_X5_readingOf (c_X5_readingOf _ G z τ ρ _ _ hp hρp hpl _) hp ⟨by decide, rfl, rfl⟩ rfl rfl ⟨⟨rfl, rfl⟩, ⟨by decide, by decide⟩, ⟨Nat.le_of_ble_eq_true rfl, Nat.le_of_ble_eq_true rfl⟩, Nat.le_of_ble_eq_true rfl⟩ ?_
  rintro _ _ ⟨r, rfl, rfl⟩
  refine r_iload_n X (by rfl) dX4_take_36 ?_
  refine r_i2l X dX4_take_37 ?_
  refine r_iload_n X (by rfl) dX4_take_38 ?_
  refine r_i2l X dX4_take_39 ?_
  refine r_lmul X dX4_take_40 ?_
  refine r_callS X dX4_take_41 zLS_X4_70 zCd_X0_firstThree (c_X0_firstThree _ G z τ ρ _ _ _) rfl rfl ⟨⟨rfl, rfl⟩, ⟨by decide, by decide⟩, ⟨Nat.le_of_ble_eq_true rfl, Nat.le_of_ble_eq_true rfl⟩, Nat.le_of_ble_eq_true rfl⟩ ?_
  rintro _ _ ⟨r2, rfl, rfl⟩
  refine r_isub X dX4_take_44 ?_
  refine r_callS X dX4_take_45 zLS_X4_74 zCd_J9_abs_0f7a4 (c_abs _ G z τ ρ _ _ _) rfl rfl ⟨⟨rfl, rfl⟩, ⟨by decide, by decide⟩, ⟨Nat.le_of_ble_eq_true rfl, Nat.le_of_ble_eq_true rfl⟩, Nat.le_of_ble_eq_true rfl⟩ ?_
  rintro _ _ ⟨rfl, rfl⟩
  refine r_istore X (by decide) dX4_take_48 ?_
  refine r_iload X (by rfl) dX4_take_50 ?_
  refine r_aload_n X (by rfl) dX4_take_52 ?_
  refine r_getI X dX4_take_53 zF_X4_9 hq ?_
  refine r_icmp_le X 75 dX4_take_56 (by decide) (fun h56 => ?_) (fun h56 => ?_)
  · refine r_aload_n X (by rfl) dX4_take_75 ?_
    refine r_dup X rfl dX4_take_76 ?_
    refine r_getI X dX4_take_77 zF_X4_21 hq ?_
    refine r_iload X (by rfl) dX4_take_80 ?_
    refine r_iadd X dX4_take_82 ?_
    refine r_putI X dX4_take_83 zF_X4_21 hq rfl rfl ?_
    refine r_aload_n X (by rfl) dX4_take_86 ?_
    refine r_dup X rfl dX4_take_87 ?_
    refine r_getI X dX4_take_88 zF_X4_24 hq ?_
    refine r_iconst X 1 (by decide) dX4_take_91 ?_
    refine r_iadd X dX4_take_92 ?_
    refine r_putI X dX4_take_93 zF_X4_24 hq rfl rfl ?_
    refine r_aload_n X (by rfl) dX4_take_96 ?_
    refine r_dup X rfl dX4_take_97 ?_
    refine r_getI X dX4_take_98 zF_X4_27 hq ?_
    refine r_aload_n X (by rfl) dX4_take_101 ?_
    refine r_getR X dX4_take_102 zF_X4_45 hq hρq ?_
    refine r_getI X dX4_take_105 zF_X4_79 ha ?_
    refine r_iadd X dX4_take_108 ?_
    refine r_putI X dX4_take_109 zF_X4_27 hq rfl rfl ?_
    refine r_return X hR dX4_take_112 (Nat.zero_le _) (Nat.zero_le _) ?_
    exact ⟨rfl, _, rfl, fun b h1 h2 => by simp only [zu_r h1]; exact hf4 b h2, by simp only [zu_k (show (7 : Nat) ≠ 0 by decide), zu_k (show (7 : Nat) ≠ 1 by decide), zu_k (show (7 : Nat) ≠ 2 by decide), zu_k (show (7 : Nat) ≠ 3 by decide), zu_k (show (7 : Nat) ≠ 4 by decide), zu_k (show (7 : Nat) ≠ 5 by decide)]; rw [hf4 q (Ne.symm haq)], by simp only [zu_k (show (8 : Nat) ≠ 0 by decide), zu_k (show (8 : Nat) ≠ 1 by decide), zu_k (show (8 : Nat) ≠ 2 by decide), zu_k (show (8 : Nat) ≠ 3 by decide), zu_k (show (8 : Nat) ≠ 4 by decide), zu_k (show (8 : Nat) ≠ 5 by decide)]; rw [hf4 q (Ne.symm haq)]⟩
  · refine r_aload_n X (by rfl) dX4_take_59 ?_
    refine r_iload X (by rfl) dX4_take_60 ?_
    refine r_putI X dX4_take_62 zF_X4_9 hq rfl rfl ?_
    refine r_aload_n X (by rfl) dX4_take_65 ?_
    refine r_iload_n X (by rfl) dX4_take_66 ?_
    refine r_putI X dX4_take_67 zF_X4_15 hq rfl rfl ?_
    refine r_aload_n X (by rfl) dX4_take_70 ?_
    refine r_iload_n X (by rfl) dX4_take_71 ?_
    refine r_putI X dX4_take_72 zF_X4_18 hq rfl rfl ?_
    refine r_aload_n X (by rfl) dX4_take_75 ?_
    refine r_dup X rfl dX4_take_76 ?_
    refine r_getI X dX4_take_77 zF_X4_21 hq ?_
    refine r_iload X (by rfl) dX4_take_80 ?_
    refine r_iadd X dX4_take_82 ?_
    refine r_putI X dX4_take_83 zF_X4_21 hq rfl rfl ?_
    refine r_aload_n X (by rfl) dX4_take_86 ?_
    refine r_dup X rfl dX4_take_87 ?_
    refine r_getI X dX4_take_88 zF_X4_24 hq ?_
    refine r_iconst X 1 (by decide) dX4_take_91 ?_
    refine r_iadd X dX4_take_92 ?_
    refine r_putI X dX4_take_93 zF_X4_24 hq rfl rfl ?_
    refine r_aload_n X (by rfl) dX4_take_96 ?_
    refine r_dup X rfl dX4_take_97 ?_
    refine r_getI X dX4_take_98 zF_X4_27 hq ?_
    refine r_aload_n X (by rfl) dX4_take_101 ?_
    refine r_getR X dX4_take_102 zF_X4_45 hq hρq ?_
    refine r_getI X dX4_take_105 zF_X4_79 ha ?_
    refine r_iadd X dX4_take_108 ?_
    refine r_putI X dX4_take_109 zF_X4_27 hq rfl rfl ?_
    refine r_return X hR dX4_take_112 (Nat.zero_le _) (Nat.zero_le _) ?_
    exact ⟨rfl, _, rfl, fun b h1 h2 => by simp only [zu_r h1]; exact hf4 b h2, by simp only [zu_k (show (7 : Nat) ≠ 0 by decide), zu_k (show (7 : Nat) ≠ 1 by decide), zu_k (show (7 : Nat) ≠ 2 by decide), zu_k (show (7 : Nat) ≠ 3 by decide), zu_k (show (7 : Nat) ≠ 4 by decide), zu_k (show (7 : Nat) ≠ 5 by decide)]; rw [hf4 q (Ne.symm haq)], by simp only [zu_k (show (8 : Nat) ≠ 0 by decide), zu_k (show (8 : Nat) ≠ 1 by decide), zu_k (show (8 : Nat) ≠ 2 by decide), zu_k (show (8 : Nat) ≠ 3 by decide), zu_k (show (8 : Nat) ≠ 4 by decide), zu_k (show (8 : Nat) ≠ 5 by decide)]; rw [hf4 q (Ne.symm haq)]⟩
set_option maxHeartbeats 4000000 in
set_option maxRecDepth 100000 in
theorem c_X4_sumUp (l : Launch) (G : zG) (z : Nat) (τ : Nat → Option (Nat × Nat)) (ρ : Nat → Nat → Option Nat) (ι : Nat → Nat → Int32) (κ : Nat → Nat → Int64) {p pl M5 : Nat} (hp : τ p = some (5, M5)) (hρp : ρ p 1 = some pl) (hpl : τ pl = some (13, 900)) {a M6 : Nat} (ha : τ a = some (0, M6)) {q M8 : Nat} (hq : τ q = some (4, M8)) (hρq : ρ q 10 = some a) (haq : a ≠ q) (hpa : p ≠ a) (hpla : pl ≠ a) (x y u : Int32) (hx : 0 ≤ x.toInt) (hy : y.toInt ≤ 999) (hu : 1 ≤ u.toInt) (hu2 : u.toInt ≤ 10000) (hxy : x.toInt ≤ y.toInt) : zM l G yX4_sumUp cX4_sumUp 7 none ({ frames := 4, cells := 0, slots := 0, locals := 87 } : Room) [.ref q, .int x, .int y, .int u, .ref p] (z, τ, ρ, ι, κ) (fun v s => v = none ∧ ∃ ι2, s = (z, τ, ρ, ι2, κ) ∧ ∀ b, b ≠ q → b ≠ a → ι2 b = ι b) 0 0 := by
  refine zM_of zCd_X4_sumUp (Nat.le_of_ble_eq_true rfl) ?_
  intro E X hR hE
  subst hE
  show zW E G 7 (z, τ, ρ, ι, κ) 0 0 0 [(0, .ref q), (1, .int x), (2, .int y), (3, .int u), (4, .ref p)] []
  have L92 : ∀ (m : Nat) (i : Int32) (ι1 : Nat → Nat → Int32), (11000 - i.toInt).toNat < m → 0 ≤ i.toInt → i.toInt ≤ 10999 → (∀ b, b ≠ q → b ≠ a → ι1 b = ι b) → ι1 q 7 = y → ι1 q 8 = u → zW E G 7 (z, τ, ρ, ι1, κ) 0 0 92 [(0, .ref q), (1, .int x), (2, .int y), (3, .int u), (4, .ref p), (5, .int i)] [] := by
    intro m
    induction m with
    | zero => intro i ι1 h; omega
    | succ m ih => ?_
    intro i ι1 hm h0 hi2 hf h7 h8
    have L105 : i.toInt ≤ y.toInt → ∀ (m2 : Nat) (j : Int32) (ι2 : Nat → Nat → Int32), (11000 - j.toInt).toNat < m2 → 0 ≤ j.toInt → j.toInt ≤ 10999 → (∀ b, b ≠ q → b ≠ a → ι2 b = ι b) → ι2 q 7 = y → ι2 q 8 = u → zW E G 7 (z, τ, ρ, ι2, κ) 0 0 105 [(0, .ref q), (1, .int x), (2, .int y), (3, .int u), (4, .ref p), (5, .int i), (6, .int j)] [] := by
      intro hiy m2
      induction m2 with
      | zero => intro j ι2 h; omega
      | succ m2 ih2 => ?_
      intro j ι2 hm2 hj0 hj2 hf2 h72 h82
      refine r_iload X (by rfl) dX4_sumUp_105 ?_
      refine r_aload_n X (by rfl) dX4_sumUp_107 ?_
      refine r_getI X dX4_sumUp_108 zF_X4_33 hq ?_
      refine r_icmp_gt X 136 dX4_sumUp_111 (by decide) (fun h111 => ?_) (fun h111 => ?_)
      · refine r_iload X (by rfl) dX4_sumUp_136 ?_
        refine r_aload_n X (by rfl) dX4_sumUp_138 ?_
        refine r_getI X dX4_sumUp_139 zF_X4_36 hq ?_
        refine r_iadd X dX4_sumUp_142 ?_
        refine r_istore X (by decide) dX4_sumUp_143 ?_
        refine r_goto X 92 dX4_sumUp_145 (by decide) ?_
        exact zW.loc6 (by rfl) (by rfl) (by rfl) (by rfl) (by rfl) (by rfl) (ih _ _ (by rw [h82]; have e := zaddI (x := i) (y := u) (by omega) (by omega); omega) (by rw [h82]; have e := zaddI (x := i) (y := u) (by omega) (by omega); omega) (by rw [h82]; have e := zaddI (x := i) (y := u) (by omega) (by omega); omega) hf2 h72 h82)
      · rw [h72] at h111
        refine r_aload_n X (by rfl) dX4_sumUp_114 ?_
        refine r_iload X (by rfl) dX4_sumUp_115 ?_
        refine r_iload X (by rfl) dX4_sumUp_117 ?_
        refine r_aload X (by rfl) dX4_sumUp_119 ?_
        refine r_callV X dX4_sumUp_121 zLV_X4_52 zCd_X4_take (c_X4_take _ G z τ ρ _ _ hp hρp hpl ha hq hρq haq hpa hpla _ _) hq ⟨by decide, rfl, rfl⟩ rfl rfl ⟨⟨rfl, rfl⟩, ⟨by decide, by decide⟩, ⟨Nat.le_of_ble_eq_true rfl, Nat.le_of_ble_eq_true rfl⟩, Nat.le_of_ble_eq_true rfl⟩ ?_
        rintro _ _ ⟨rfl, ι3, rfl, hf3, h73, h83⟩
        rw [h72] at h73
        rw [h82] at h83
        have hf4 : ∀ b, b ≠ q → b ≠ a → ι3 b = ι b := fun b g1 g2 => by rw [hf3 b g1 g2]; exact hf2 b g1 g2
        refine r_iload X (by rfl) dX4_sumUp_124 ?_
        refine r_aload_n X (by rfl) dX4_sumUp_126 ?_
        refine r_getI X dX4_sumUp_127 zF_X4_36 hq ?_
        refine r_iadd X dX4_sumUp_130 ?_
        refine r_istore X (by decide) dX4_sumUp_131 ?_
        refine r_goto X 105 dX4_sumUp_133 (by decide) ?_
        exact zW.loc7 (by rfl) (by rfl) (by rfl) (by rfl) (by rfl) (by rfl) (by rfl) (ih2 _ _ (by rw [h83]; have e := zaddI (x := j) (y := u) (by omega) (by omega); omega) (by rw [h83]; have e := zaddI (x := j) (y := u) (by omega) (by omega); omega) (by rw [h83]; have e := zaddI (x := j) (y := u) (by omega) (by omega); omega) hf4 h73 h83)
    refine r_iload X (by rfl) dX4_sumUp_92 ?_
    refine r_aload_n X (by rfl) dX4_sumUp_94 ?_
    refine r_getI X dX4_sumUp_95 zF_X4_33 hq ?_
    refine r_icmp_gt X 148 dX4_sumUp_98 (by decide) (fun h98 => ?_) (fun h98 => ?_)
    · refine r_return X hR dX4_sumUp_148 (Nat.zero_le _) (Nat.zero_le _) ?_
      exact ⟨rfl, _, rfl, hf⟩
    · rw [h7] at h98
      refine r_iload X (by rfl) dX4_sumUp_101 ?_
      refine r_istore X (by decide) dX4_sumUp_103 ?_
      exact zW.loc7 (by rfl) (by rfl) (by rfl) (by rfl) (by rfl) (by rfl) (by rfl) (L105 h98 11001 _ _ (by omega) (by omega) (by omega) hf h7 h8)
  refine r_iload_n X (by rfl) dX4_sumUp_0 ?_
  refine r_iconst X 1 (by decide) dX4_sumUp_1 ?_
  refine r_icmp_lt X 41 dX4_sumUp_2 (by decide) (fun h2 => ?_) (fun h2 => ?_)
  · rw [show Int32.toInt 1 = 1 from rfl] at h2
    omega
  · rw [show Int32.toInt 1 = 1 from rfl] at h2
    refine r_aload_n X (by rfl) dX4_sumUp_5 ?_
    refine r_getI X dX4_sumUp_6 zF_X4_30 hq ?_
    refine r_iload_n X (by rfl) dX4_sumUp_9 ?_
    refine r_icmp_ne X 42 dX4_sumUp_10 (by decide) (fun h10 => ?_) (fun h10 => ?_)
    · refine r_aload_n X (by rfl) dX4_sumUp_42 ?_
      refine r_iload_n X (by rfl) dX4_sumUp_43 ?_
      refine r_putI X dX4_sumUp_44 zF_X4_30 hq rfl rfl ?_
      refine r_aload_n X (by rfl) dX4_sumUp_47 ?_
      refine r_iload_n X (by rfl) dX4_sumUp_48 ?_
      refine r_putI X dX4_sumUp_49 zF_X4_33 hq rfl rfl ?_
      refine r_aload_n X (by rfl) dX4_sumUp_52 ?_
      refine r_iload_n X (by rfl) dX4_sumUp_53 ?_
      refine r_putI X dX4_sumUp_54 zF_X4_36 hq rfl rfl ?_
      refine r_aload_n X (by rfl) dX4_sumUp_57 ?_
      refine r_aload X (by rfl) dX4_sumUp_58 ?_
      refine r_getI X dX4_sumUp_60 zF_X4_49 hp ?_
      generalize zu (zu (zu ι q 6 x) q 7 y) q 8 u p 0 = w9
      refine r_putI X dX4_sumUp_63 zF_X4_39 hq rfl rfl ?_
      refine r_aload_n X (by rfl) dX4_sumUp_66 ?_
      refine r_iconst X (-1) (by decide) dX4_sumUp_67 ?_
      refine r_putI X dX4_sumUp_68 zF_X4_9 hq rfl rfl ?_
      refine r_aload_n X (by rfl) dX4_sumUp_71 ?_
      refine r_iconst X 0 (by decide) dX4_sumUp_72 ?_
      refine r_putI X dX4_sumUp_73 zF_X4_21 hq rfl rfl ?_
      refine r_aload_n X (by rfl) dX4_sumUp_76 ?_
      refine r_iconst X 0 (by decide) dX4_sumUp_77 ?_
      refine r_putI X dX4_sumUp_78 zF_X4_24 hq rfl rfl ?_
      refine r_aload_n X (by rfl) dX4_sumUp_81 ?_
      refine r_iconst X 0 (by decide) dX4_sumUp_82 ?_
      refine r_putI X dX4_sumUp_83 zF_X4_27 hq rfl rfl ?_
      refine r_aload_n X (by rfl) dX4_sumUp_86 ?_
      refine r_getI X dX4_sumUp_87 zF_X4_30 hq ?_
      have hr6 : zu (zu (zu (zu (zu (zu (zu (zu ι q 6 x) q 7 y) q 8 u) q 9 w9) q 0 (-1)) q 3 0) q 4 0) q 5 0 q 6 = x := by simp [zu]
      have hr7 : zu (zu (zu (zu (zu (zu (zu (zu ι q 6 x) q 7 y) q 8 u) q 9 w9) q 0 (-1)) q 3 0) q 4 0) q 5 0 q 7 = y := by simp [zu]
      have hr8 : zu (zu (zu (zu (zu (zu (zu (zu ι q 6 x) q 7 y) q 8 u) q 9 w9) q 0 (-1)) q 3 0) q 4 0) q 5 0 q 8 = u := by simp [zu]
      refine r_istore X (by decide) dX4_sumUp_90 ?_
      exact zW.loc6 (by rfl) (by rfl) (by rfl) (by rfl) (by rfl) (by rfl) (L92 11001 _ _ (by rw [hr6]; omega) (by rw [hr6]; omega) (by rw [hr6]; omega) (fun b g1 _ => by simp only [zu_r g1]) hr7 hr8)
    · refine r_aload_n X (by rfl) dX4_sumUp_13 ?_
      refine r_getI X dX4_sumUp_14 zF_X4_33 hq ?_
      refine r_iload_n X (by rfl) dX4_sumUp_17 ?_
      refine r_icmp_ne X 42 dX4_sumUp_18 (by decide) (fun h18 => ?_) (fun h18 => ?_)
      · refine r_aload_n X (by rfl) dX4_sumUp_42 ?_
        refine r_iload_n X (by rfl) dX4_sumUp_43 ?_
        refine r_putI X dX4_sumUp_44 zF_X4_30 hq rfl rfl ?_
        refine r_aload_n X (by rfl) dX4_sumUp_47 ?_
        refine r_iload_n X (by rfl) dX4_sumUp_48 ?_
        refine r_putI X dX4_sumUp_49 zF_X4_33 hq rfl rfl ?_
        refine r_aload_n X (by rfl) dX4_sumUp_52 ?_
        refine r_iload_n X (by rfl) dX4_sumUp_53 ?_
        refine r_putI X dX4_sumUp_54 zF_X4_36 hq rfl rfl ?_
        refine r_aload_n X (by rfl) dX4_sumUp_57 ?_
        refine r_aload X (by rfl) dX4_sumUp_58 ?_
        refine r_getI X dX4_sumUp_60 zF_X4_49 hp ?_
        generalize zu (zu (zu ι q 6 x) q 7 y) q 8 u p 0 = w9
        refine r_putI X dX4_sumUp_63 zF_X4_39 hq rfl rfl ?_
        refine r_aload_n X (by rfl) dX4_sumUp_66 ?_
        refine r_iconst X (-1) (by decide) dX4_sumUp_67 ?_
        refine r_putI X dX4_sumUp_68 zF_X4_9 hq rfl rfl ?_
        refine r_aload_n X (by rfl) dX4_sumUp_71 ?_
        refine r_iconst X 0 (by decide) dX4_sumUp_72 ?_
        refine r_putI X dX4_sumUp_73 zF_X4_21 hq rfl rfl ?_
        refine r_aload_n X (by rfl) dX4_sumUp_76 ?_
        refine r_iconst X 0 (by decide) dX4_sumUp_77 ?_
        refine r_putI X dX4_sumUp_78 zF_X4_24 hq rfl rfl ?_
        refine r_aload_n X (by rfl) dX4_sumUp_81 ?_
        refine r_iconst X 0 (by decide) dX4_sumUp_82 ?_
        refine r_putI X dX4_sumUp_83 zF_X4_27 hq rfl rfl ?_
        refine r_aload_n X (by rfl) dX4_sumUp_86 ?_
        refine r_getI X dX4_sumUp_87 zF_X4_30 hq ?_
        have hr6 : zu (zu (zu (zu (zu (zu (zu (zu ι q 6 x) q 7 y) q 8 u) q 9 w9) q 0 (-1)) q 3 0) q 4 0) q 5 0 q 6 = x := by simp [zu]
        have hr7 : zu (zu (zu (zu (zu (zu (zu (zu ι q 6 x) q 7 y) q 8 u) q 9 w9) q 0 (-1)) q 3 0) q 4 0) q 5 0 q 7 = y := by simp [zu]
        have hr8 : zu (zu (zu (zu (zu (zu (zu (zu ι q 6 x) q 7 y) q 8 u) q 9 w9) q 0 (-1)) q 3 0) q 4 0) q 5 0 q 8 = u := by simp [zu]
        refine r_istore X (by decide) dX4_sumUp_90 ?_
        exact zW.loc6 (by rfl) (by rfl) (by rfl) (by rfl) (by rfl) (by rfl) (L92 11001 _ _ (by rw [hr6]; omega) (by rw [hr6]; omega) (by rw [hr6]; omega) (fun b g1 _ => by simp only [zu_r g1]) hr7 hr8)
      · refine r_aload_n X (by rfl) dX4_sumUp_21 ?_
        refine r_getI X dX4_sumUp_22 zF_X4_36 hq ?_
        refine r_iload_n X (by rfl) dX4_sumUp_25 ?_
        refine r_icmp_ne X 42 dX4_sumUp_26 (by decide) (fun h26 => ?_) (fun h26 => ?_)
        · refine r_aload_n X (by rfl) dX4_sumUp_42 ?_
          refine r_iload_n X (by rfl) dX4_sumUp_43 ?_
          refine r_putI X dX4_sumUp_44 zF_X4_30 hq rfl rfl ?_
          refine r_aload_n X (by rfl) dX4_sumUp_47 ?_
          refine r_iload_n X (by rfl) dX4_sumUp_48 ?_
          refine r_putI X dX4_sumUp_49 zF_X4_33 hq rfl rfl ?_
          refine r_aload_n X (by rfl) dX4_sumUp_52 ?_
          refine r_iload_n X (by rfl) dX4_sumUp_53 ?_
          refine r_putI X dX4_sumUp_54 zF_X4_36 hq rfl rfl ?_
          refine r_aload_n X (by rfl) dX4_sumUp_57 ?_
          refine r_aload X (by rfl) dX4_sumUp_58 ?_
          refine r_getI X dX4_sumUp_60 zF_X4_49 hp ?_
          generalize zu (zu (zu ι q 6 x) q 7 y) q 8 u p 0 = w9
          refine r_putI X dX4_sumUp_63 zF_X4_39 hq rfl rfl ?_
          refine r_aload_n X (by rfl) dX4_sumUp_66 ?_
          refine r_iconst X (-1) (by decide) dX4_sumUp_67 ?_
          refine r_putI X dX4_sumUp_68 zF_X4_9 hq rfl rfl ?_
          refine r_aload_n X (by rfl) dX4_sumUp_71 ?_
          refine r_iconst X 0 (by decide) dX4_sumUp_72 ?_
          refine r_putI X dX4_sumUp_73 zF_X4_21 hq rfl rfl ?_
          refine r_aload_n X (by rfl) dX4_sumUp_76 ?_
          refine r_iconst X 0 (by decide) dX4_sumUp_77 ?_
          refine r_putI X dX4_sumUp_78 zF_X4_24 hq rfl rfl ?_
          refine r_aload_n X (by rfl) dX4_sumUp_81 ?_
          refine r_iconst X 0 (by decide) dX4_sumUp_82 ?_
          refine r_putI X dX4_sumUp_83 zF_X4_27 hq rfl rfl ?_
          refine r_aload_n X (by rfl) dX4_sumUp_86 ?_
          refine r_getI X dX4_sumUp_87 zF_X4_30 hq ?_
          have hr6 : zu (zu (zu (zu (zu (zu (zu (zu ι q 6 x) q 7 y) q 8 u) q 9 w9) q 0 (-1)) q 3 0) q 4 0) q 5 0 q 6 = x := by simp [zu]
          have hr7 : zu (zu (zu (zu (zu (zu (zu (zu ι q 6 x) q 7 y) q 8 u) q 9 w9) q 0 (-1)) q 3 0) q 4 0) q 5 0 q 7 = y := by simp [zu]
          have hr8 : zu (zu (zu (zu (zu (zu (zu (zu ι q 6 x) q 7 y) q 8 u) q 9 w9) q 0 (-1)) q 3 0) q 4 0) q 5 0 q 8 = u := by simp [zu]
          refine r_istore X (by decide) dX4_sumUp_90 ?_
          exact zW.loc6 (by rfl) (by rfl) (by rfl) (by rfl) (by rfl) (by rfl) (L92 11001 _ _ (by rw [hr6]; omega) (by rw [hr6]; omega) (by rw [hr6]; omega) (fun b g1 _ => by simp only [zu_r g1]) hr7 hr8)
        · refine r_aload_n X (by rfl) dX4_sumUp_29 ?_
          refine r_getI X dX4_sumUp_30 zF_X4_39 hq ?_
          refine r_aload X (by rfl) dX4_sumUp_33 ?_
          refine r_getI X dX4_sumUp_35 zF_X4_49 hp ?_
          refine r_icmp_ne X 42 dX4_sumUp_38 (by decide) (fun h38 => ?_) (fun h38 => ?_)
          · refine r_aload_n X (by rfl) dX4_sumUp_42 ?_
            refine r_iload_n X (by rfl) dX4_sumUp_43 ?_
            refine r_putI X dX4_sumUp_44 zF_X4_30 hq rfl rfl ?_
            refine r_aload_n X (by rfl) dX4_sumUp_47 ?_
            refine r_iload_n X (by rfl) dX4_sumUp_48 ?_
            refine r_putI X dX4_sumUp_49 zF_X4_33 hq rfl rfl ?_
            refine r_aload_n X (by rfl) dX4_sumUp_52 ?_
            refine r_iload_n X (by rfl) dX4_sumUp_53 ?_
            refine r_putI X dX4_sumUp_54 zF_X4_36 hq rfl rfl ?_
            refine r_aload_n X (by rfl) dX4_sumUp_57 ?_
            refine r_aload X (by rfl) dX4_sumUp_58 ?_
            refine r_getI X dX4_sumUp_60 zF_X4_49 hp ?_
            generalize zu (zu (zu ι q 6 x) q 7 y) q 8 u p 0 = w9
            refine r_putI X dX4_sumUp_63 zF_X4_39 hq rfl rfl ?_
            refine r_aload_n X (by rfl) dX4_sumUp_66 ?_
            refine r_iconst X (-1) (by decide) dX4_sumUp_67 ?_
            refine r_putI X dX4_sumUp_68 zF_X4_9 hq rfl rfl ?_
            refine r_aload_n X (by rfl) dX4_sumUp_71 ?_
            refine r_iconst X 0 (by decide) dX4_sumUp_72 ?_
            refine r_putI X dX4_sumUp_73 zF_X4_21 hq rfl rfl ?_
            refine r_aload_n X (by rfl) dX4_sumUp_76 ?_
            refine r_iconst X 0 (by decide) dX4_sumUp_77 ?_
            refine r_putI X dX4_sumUp_78 zF_X4_24 hq rfl rfl ?_
            refine r_aload_n X (by rfl) dX4_sumUp_81 ?_
            refine r_iconst X 0 (by decide) dX4_sumUp_82 ?_
            refine r_putI X dX4_sumUp_83 zF_X4_27 hq rfl rfl ?_
            refine r_aload_n X (by rfl) dX4_sumUp_86 ?_
            refine r_getI X dX4_sumUp_87 zF_X4_30 hq ?_
            have hr6 : zu (zu (zu (zu (zu (zu (zu (zu ι q 6 x) q 7 y) q 8 u) q 9 w9) q 0 (-1)) q 3 0) q 4 0) q 5 0 q 6 = x := by simp [zu]
            have hr7 : zu (zu (zu (zu (zu (zu (zu (zu ι q 6 x) q 7 y) q 8 u) q 9 w9) q 0 (-1)) q 3 0) q 4 0) q 5 0 q 7 = y := by simp [zu]
            have hr8 : zu (zu (zu (zu (zu (zu (zu (zu ι q 6 x) q 7 y) q 8 u) q 9 w9) q 0 (-1)) q 3 0) q 4 0) q 5 0 q 8 = u := by simp [zu]
            refine r_istore X (by decide) dX4_sumUp_90 ?_
            exact zW.loc6 (by rfl) (by rfl) (by rfl) (by rfl) (by rfl) (by rfl) (L92 11001 _ _ (by rw [hr6]; omega) (by rw [hr6]; omega) (by rw [hr6]; omega) (fun b g1 _ => by simp only [zu_r g1]) hr7 hr8)
          · refine r_return X hR dX4_sumUp_41 (Nat.zero_le _) (Nat.zero_le _) ?_
            exact ⟨rfl, _, rfl, fun _ _ _ => rfl⟩
