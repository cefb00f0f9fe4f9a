/-! the class's digest exactly (wip/genr/spec_kc.py) -/
noncomputable def zDc (B : Nat) (ι : Nat → Nat → Int32) (j : Nat) (h : Int64) : Int64 := zHh (zHh (zSd (ι (B + 63 + 7 * j) 0) (ι (B + 63 + 7 * j) 1) (ι (B + 63 + 7 * j) 2) (ι (B + 63 + 7 * j) 3) (ι (B + 63 + 7 * j) 5).toNatClampNeg (ι (B + 63 + 7 * j + 3)) (ι (B + 63 + 7 * j + 4)) (ι (B + 63 + 7 * j + 5)) h) (zPcv B ι j 200)) (zPcv B ι j 300)
def zDt (B : Nat) (ι : Nat → Nat → Int32) (j : Nat) (h : Int64) : Int64 := zHs (ι (B + 34 + 3 * j)) (ι (B + 33 + 3 * j) 1).toNatClampNeg h
noncomputable def zDf (B c : Nat) (ι : Nat → Nat → Int32) (K : Nat → Int32) : Int64 := zHs (ι (B + 13)) (ι (B + 12) 1).toNatClampNeg (zHS (zDc B ι) c (zHs K 7 349))
noncomputable def zG1 (B c : Nat) (ι : Nat → Nat → Int32) (K : Nat → Int32) : Int64 := zHS (zDt B ι) 2 (zDf B c ι K)

set_option maxHeartbeats 4000000 in
set_option maxRecDepth 100000 in
theorem e_X6_digestOnto (l : Launch) (G : zG) (z : Nat) (τ : Nat → Option (Nat × Nat)) (ρ : Nat → Nat → Option Nat) (ι : Nat → Nat → Int32) (κ : Nat → Nat → Int64) {a w M N : Nat} (hτ : τ a = some (6, M)) (hρ : ρ a 0 = some w) (hτv : τ w = some (13, N)) (x : Int64) (n0 : 0 ≤ (ι a 1).toInt) (n1 : (ι a 1).toInt ≤ N) (hN : N < 1000000) : zM l G yX6_digestOnto cX6_digestOnto 4 (some .long) ({ frames := 0, cells := 0, slots := 0, locals := 0 } : Room) [.ref a, .long x] (z, τ, ρ, ι, κ) (fun v s => v = some (.long (zHs (ι w) (ι a 1).toNatClampNeg x)) ∧ s = (z, τ, ρ, ι, κ)) 0 0 := by
  refine zM_of zCd_X6_digestOnto (Nat.le_of_ble_eq_true rfl) ?_
  intro E X hR hE
  subst hE
  show zW E G 4 (z, τ, ρ, ι, κ) 0 0 0 [(0, .ref a), (1, .long x)] []
  have L2 : ∀ (m : Nat) (i : Int32) (y : Int64), ((ι a 1).toInt - i.toInt).toNat < m → 0 ≤ i.toInt → i.toInt ≤ (ι a 1).toInt → y = zHs (ι w) i.toNatClampNeg x → zW E G 4 (z, τ, ρ, ι, κ) 0 0 2 [(0, .ref a), (1, .long y), (3, .int i)] [] := by
    intro m
    induction m with
    | zero => intro i y q; omega
    | succ m ih => ?_
    intro i y hm i0 i1 hy
    have hin := zclN i0
    refine r_iload_n X (by rfl) dX6_digestOnto_2 ?_
    refine r_aload_n X (by rfl) dX6_digestOnto_3 ?_
    refine r_getI X dX6_digestOnto_4 zF_X6_9 hτ ?_
    refine r_icmp_ge X 30 dX6_digestOnto_7 (by decide) (fun h7 => ?_) (fun h7 => ?_)
    · refine r_lload_n X (by rfl) dX6_digestOnto_30 ?_
      refine r_lreturn X hR dX6_digestOnto_31 (Nat.zero_le _) (Nat.zero_le _) ?_
      exact ⟨by rw [hy, show i.toNatClampNeg = (ι a 1).toNatClampNeg by have := zclN n0; omega], rfl⟩
    · refine r_ldc2 X zK_X6_29 dX6_digestOnto_10 ?_
      refine r_lload_n X (by rfl) dX6_digestOnto_13 ?_
      refine r_lmul X dX6_digestOnto_14 ?_
      refine r_aload_n X (by rfl) dX6_digestOnto_15 ?_
      refine r_getR X dX6_digestOnto_16 zF_X6_21 hτ hρ ?_
      refine r_iload_n X (by rfl) dX6_digestOnto_19 ?_
      refine r_iaload X dX6_digestOnto_20 hτv (vp_in_iff.mpr ⟨i0, by omega⟩) ?_
      refine r_i2l X dX6_digestOnto_21 ?_
      refine r_ladd X dX6_digestOnto_22 ?_
      refine r_lstore_n X (by decide) dX6_digestOnto_23 ?_
      refine r_iinc X 1 (by decide) (by rfl) (by decide) dX6_digestOnto_24 ?_
      refine r_goto X 2 dX6_digestOnto_27 (by decide) ?_
      exact zW.loc3 (by rfl) (by rfl) (by rfl) (ih _ _ (by have e := zinc (x := i) (by omega); omega) (by have e := zinc (x := i) (by omega); omega) (by have e := zinc (x := i) (by omega); omega) (zHs_s i0 (by omega) hy rfl))
  refine r_iconst X 0 (by decide) dX6_digestOnto_0 ?_
  refine r_istore_n X (by decide) dX6_digestOnto_1 ?_
  exact zW.loc3 (by rfl) (by rfl) (by rfl) (L2 ((ι a 1).toInt.toNat + 1) _ _ (by rw [show (0 : Int32).toInt = 0 from rfl]; omega) (by decide) (by rw [show (0 : Int32).toInt = 0 from rfl]; exact n0) (by rfl))
set_option maxHeartbeats 4000000 in
set_option maxRecDepth 100000 in
theorem e_X7_digestOnto (l : Launch) (G : zG) (z : Nat) (τ : Nat → Option (Nat × Nat)) (ρ : Nat → Nat → Option Nat) (ι : Nat → Nat → Int32) (κ : Nat → Nat → Int64) {a mk v fr ts ea pc M5 M6 : Nat} (ha : τ a = some (7, M5)) (g4 : ρ a 4 = some mk) (g6 : ρ a 6 = some fr) (g7 : ρ a 7 = some ts) (g8 : ρ a 8 = some ea) (g9 : ρ a 9 = some pc) (hmk : τ mk = some (6, M6)) (hv0 : ρ mk 0 = some v) (hv : τ v = some (13, 400)) (hfr : τ fr = some (13, 4)) (hto2 : τ ts = some (13, 4)) (hea : τ ea = some (13, 4)) (hpc : τ pc = some (13, 400)) (n0 : 0 ≤ (ι a 5).toInt) (n1 : (ι a 5).toInt ≤ 4) (x : Int64) : zM l G yX7_digestOnto cX7_digestOnto 4 (some .long) ({ frames := 0, cells := 0, slots := 0, locals := 0 } : Room) [.ref a, .long x] (z, τ, ρ, ι, κ) (fun v s => v = some (.long (zSd (ι a 0) (ι a 1) (ι a 2) (ι a 3) (ι a 5).toNatClampNeg (ι fr) (ι ts) (ι ea) x)) ∧ s = (z, τ, ρ, ι, κ)) 0 0 := by
  refine zM_of zCd_X7_digestOnto (Nat.le_of_ble_eq_true rfl) ?_
  intro E X hR hE
  subst hE
  show zW E G 4 (z, τ, ρ, ι, κ) 0 0 0 [(0, .ref a), (1, .long x)] []
  have L66 : ∀ (m : Nat) (i : Int32) (y : Int64), (4 - i.toInt).toNat < m → 0 ≤ i.toInt → i.toInt ≤ (ι a 5).toInt → y = zHp (ι fr) (ι ts) (ι ea) i.toNatClampNeg (zHh (zHh (zHh (zHh x (zB1 (ι a 0))) (ι a 1)) (ι a 2)) (zB1 (ι a 3))) → zW E G 4 (z, τ, ρ, ι, κ) 0 0 66 [(0, .ref a), (1, .long y), (3, .int i)] [] := by
    intro m
    induction m with
    | zero => intro i y q; omega
    | succ m ih => ?_
    intro i y hm i0 i1 hy
    have hin := zclN i0
    refine r_iload_n X (by rfl) dX7_digestOnto_66 ?_
    refine r_aload_n X (by rfl) dX7_digestOnto_67 ?_
    refine r_getI X dX7_digestOnto_68 zF_X7_20 ha ?_
    refine r_icmp_ge X 122 dX7_digestOnto_71 (by decide) (fun h71 => ?_) (fun h71 => ?_)
    · refine r_lload_n X (by rfl) dX7_digestOnto_122 ?_
      refine r_lreturn X hR dX7_digestOnto_123 (Nat.zero_le _) (Nat.zero_le _) ?_
      exact ⟨by unfold zSd; rw [hy, show i.toNatClampNeg = (ι a 5).toNatClampNeg by have := zclN n0; omega], rfl⟩
    · refine r_ldc2 X zK_X7_97 dX7_digestOnto_74 ?_
      refine r_lload_n X (by rfl) dX7_digestOnto_77 ?_
      refine r_lmul X dX7_digestOnto_78 ?_
      refine r_aload_n X (by rfl) dX7_digestOnto_79 ?_
      refine r_getR X dX7_digestOnto_80 zF_X7_24 ha g6 ?_
      refine r_iload_n X (by rfl) dX7_digestOnto_83 ?_
      refine r_iaload X dX7_digestOnto_84 hfr (vp_in_iff.mpr ⟨i0, by omega⟩) ?_
      refine r_i2l X dX7_digestOnto_85 ?_
      refine r_ladd X dX7_digestOnto_86 ?_
      refine r_lstore_n X (by decide) dX7_digestOnto_87 ?_
      refine r_ldc2 X zK_X7_97 dX7_digestOnto_88 ?_
      refine r_lload_n X (by rfl) dX7_digestOnto_91 ?_
      refine r_lmul X dX7_digestOnto_92 ?_
      refine r_aload_n X (by rfl) dX7_digestOnto_93 ?_
      refine r_getR X dX7_digestOnto_94 zF_X7_28 ha g7 ?_
      refine r_iload_n X (by rfl) dX7_digestOnto_97 ?_
      refine r_iaload X dX7_digestOnto_98 hto2 (vp_in_iff.mpr ⟨i0, by omega⟩) ?_
      refine r_i2l X dX7_digestOnto_99 ?_
      refine r_ladd X dX7_digestOnto_100 ?_
      refine r_lstore_n X (by decide) dX7_digestOnto_101 ?_
      refine r_ldc2 X zK_X7_97 dX7_digestOnto_102 ?_
      refine r_lload_n X (by rfl) dX7_digestOnto_105 ?_
      refine r_lmul X dX7_digestOnto_106 ?_
      refine r_aload_n X (by rfl) dX7_digestOnto_107 ?_
      refine r_getR X dX7_digestOnto_108 zF_X7_31 ha g8 ?_
      refine r_iload_n X (by rfl) dX7_digestOnto_111 ?_
      refine r_iaload X dX7_digestOnto_112 hea (vp_in_iff.mpr ⟨i0, by omega⟩) ?_
      refine r_i2l X dX7_digestOnto_113 ?_
      refine r_ladd X dX7_digestOnto_114 ?_
      refine r_lstore_n X (by decide) dX7_digestOnto_115 ?_
      refine r_iinc X 1 (by decide) (by rfl) (by decide) dX7_digestOnto_116 ?_
      refine r_goto X 66 dX7_digestOnto_119 (by decide) ?_
      exact zW.loc3 (by rfl) (by rfl) (by rfl) (ih _ _ (by have e := zinc (x := i) (by omega); omega) (by have e := zinc (x := i) (by omega); omega) (by have e := zinc (x := i) (by omega); omega) (by have e := zinc (x := i) (by omega); have e5 := zclN (i := i + 1) (by omega); rw [show (i + 1).toNatClampNeg = i.toNatClampNeg + 1 by omega]; exact zHp_s hy rfl rfl rfl))
  refine r_ldc2 X zK_X7_97 dX7_digestOnto_0 ?_
  refine r_lload_n X (by rfl) dX7_digestOnto_3 ?_
  refine r_lmul X dX7_digestOnto_4 ?_
  refine r_aload_n X (by rfl) dX7_digestOnto_5 ?_
  refine r_getI X dX7_digestOnto_6 zF_X7_43 ha ?_
  refine r_if_eq X 16 dX7_digestOnto_9 (by decide) (fun h9 => ?_) (fun h9 => ?_)
  · refine r_iconst X 0 (by decide) dX7_digestOnto_16 ?_
    refine r_i2l X dX7_digestOnto_17 ?_
    refine r_ladd X dX7_digestOnto_18 ?_
    refine r_lstore_n X (by decide) dX7_digestOnto_19 ?_
    refine r_ldc2 X zK_X7_97 dX7_digestOnto_20 ?_
    refine r_lload_n X (by rfl) dX7_digestOnto_23 ?_
    refine r_lmul X dX7_digestOnto_24 ?_
    refine r_aload_n X (by rfl) dX7_digestOnto_25 ?_
    refine r_getI X dX7_digestOnto_26 zF_X7_47 ha ?_
    refine r_i2l X dX7_digestOnto_29 ?_
    refine r_ladd X dX7_digestOnto_30 ?_
    refine r_lstore_n X (by decide) dX7_digestOnto_31 ?_
    refine r_ldc2 X zK_X7_97 dX7_digestOnto_32 ?_
    refine r_lload_n X (by rfl) dX7_digestOnto_35 ?_
    refine r_lmul X dX7_digestOnto_36 ?_
    refine r_aload_n X (by rfl) dX7_digestOnto_37 ?_
    refine r_getI X dX7_digestOnto_38 zF_X7_50 ha ?_
    refine r_i2l X dX7_digestOnto_41 ?_
    refine r_ladd X dX7_digestOnto_42 ?_
    refine r_lstore_n X (by decide) dX7_digestOnto_43 ?_
    refine r_ldc2 X zK_X7_97 dX7_digestOnto_44 ?_
    refine r_lload_n X (by rfl) dX7_digestOnto_47 ?_
    refine r_lmul X dX7_digestOnto_48 ?_
    refine r_aload_n X (by rfl) dX7_digestOnto_49 ?_
    refine r_getI X dX7_digestOnto_50 zF_X7_53 ha ?_
    refine r_if_eq X 60 dX7_digestOnto_53 (by decide) (fun h53 => ?_) (fun h53 => ?_)
    · refine r_iconst X 0 (by decide) dX7_digestOnto_60 ?_
      refine r_i2l X dX7_digestOnto_61 ?_
      refine r_ladd X dX7_digestOnto_62 ?_
      refine r_lstore_n X (by decide) dX7_digestOnto_63 ?_
      refine r_iconst X 0 (by decide) dX7_digestOnto_64 ?_
      refine r_istore_n X (by decide) dX7_digestOnto_65 ?_
      exact zW.loc3 (by rfl) (by rfl) (by rfl) (L66 5 _ _ (by decide) (by decide) (by rw [show (0 : Int32).toInt = 0 from rfl]; exact n0) (by show _ = (zHh (zHh (zHh (zHh x (zB1 (ι a 0))) (ι a 1)) (ι a 2)) (zB1 (ι a 3))); unfold zB1 zHh; first | rw [if_pos h9, if_pos h53] | rw [if_pos h9, if_neg h53] | rw [if_neg h9, if_pos h53] | rw [if_neg h9, if_neg h53]))
    · refine r_iconst X 1 (by decide) dX7_digestOnto_56 ?_
      refine r_goto X 61 dX7_digestOnto_57 (by decide) ?_
      refine r_i2l X dX7_digestOnto_61 ?_
      refine r_ladd X dX7_digestOnto_62 ?_
      refine r_lstore_n X (by decide) dX7_digestOnto_63 ?_
      refine r_iconst X 0 (by decide) dX7_digestOnto_64 ?_
      refine r_istore_n X (by decide) dX7_digestOnto_65 ?_
      exact zW.loc3 (by rfl) (by rfl) (by rfl) (L66 5 _ _ (by decide) (by decide) (by rw [show (0 : Int32).toInt = 0 from rfl]; exact n0) (by show _ = (zHh (zHh (zHh (zHh x (zB1 (ι a 0))) (ι a 1)) (ι a 2)) (zB1 (ι a 3))); unfold zB1 zHh; first | rw [if_pos h9, if_pos h53] | rw [if_pos h9, if_neg h53] | rw [if_neg h9, if_pos h53] | rw [if_neg h9, if_neg h53]))
  · refine r_iconst X 1 (by decide) dX7_digestOnto_12 ?_
    refine r_goto X 17 dX7_digestOnto_13 (by decide) ?_
    refine r_i2l X dX7_digestOnto_17 ?_
    refine r_ladd X dX7_digestOnto_18 ?_
    refine r_lstore_n X (by decide) dX7_digestOnto_19 ?_
    refine r_ldc2 X zK_X7_97 dX7_digestOnto_20 ?_
    refine r_lload_n X (by rfl) dX7_digestOnto_23 ?_
    refine r_lmul X dX7_digestOnto_24 ?_
    refine r_aload_n X (by rfl) dX7_digestOnto_25 ?_
    refine r_getI X dX7_digestOnto_26 zF_X7_47 ha ?_
    refine r_i2l X dX7_digestOnto_29 ?_
    refine r_ladd X dX7_digestOnto_30 ?_
    refine r_lstore_n X (by decide) dX7_digestOnto_31 ?_
    refine r_ldc2 X zK_X7_97 dX7_digestOnto_32 ?_
    refine r_lload_n X (by rfl) dX7_digestOnto_35 ?_
    refine r_lmul X dX7_digestOnto_36 ?_
    refine r_aload_n X (by rfl) dX7_digestOnto_37 ?_
    refine r_getI X dX7_digestOnto_38 zF_X7_50 ha ?_
    refine r_i2l X dX7_digestOnto_41 ?_
    refine r_ladd X dX7_digestOnto_42 ?_
    refine r_lstore_n X (by decide) dX7_digestOnto_43 ?_
    refine r_ldc2 X zK_X7_97 dX7_digestOnto_44 ?_
    refine r_lload_n X (by rfl) dX7_digestOnto_47 ?_
    refine r_lmul X dX7_digestOnto_48 ?_
    refine r_aload_n X (by rfl) dX7_digestOnto_49 ?_
    refine r_getI X dX7_digestOnto_50 zF_X7_53 ha ?_
    refine r_if_eq X 60 dX7_digestOnto_53 (by decide) (fun h53 => ?_) (fun h53 => ?_)
    · refine r_iconst X 0 (by decide) dX7_digestOnto_60 ?_
      refine r_i2l X dX7_digestOnto_61 ?_
      refine r_ladd X dX7_digestOnto_62 ?_
      refine r_lstore_n X (by decide) dX7_digestOnto_63 ?_
      refine r_iconst X 0 (by decide) dX7_digestOnto_64 ?_
      refine r_istore_n X (by decide) dX7_digestOnto_65 ?_
      exact zW.loc3 (by rfl) (by rfl) (by rfl) (L66 5 _ _ (by decide) (by decide) (by rw [show (0 : Int32).toInt = 0 from rfl]; exact n0) (by show _ = (zHh (zHh (zHh (zHh x (zB1 (ι a 0))) (ι a 1)) (ι a 2)) (zB1 (ι a 3))); unfold zB1 zHh; first | rw [if_pos h9, if_pos h53] | rw [if_pos h9, if_neg h53] | rw [if_neg h9, if_pos h53] | rw [if_neg h9, if_neg h53]))
    · refine r_iconst X 1 (by decide) dX7_digestOnto_56 ?_
      refine r_goto X 61 dX7_digestOnto_57 (by decide) ?_
      refine r_i2l X dX7_digestOnto_61 ?_
      refine r_ladd X dX7_digestOnto_62 ?_
      refine r_lstore_n X (by decide) dX7_digestOnto_63 ?_
      refine r_iconst X 0 (by decide) dX7_digestOnto_64 ?_
      refine r_istore_n X (by decide) dX7_digestOnto_65 ?_
      exact zW.loc3 (by rfl) (by rfl) (by rfl) (L66 5 _ _ (by decide) (by decide) (by rw [show (0 : Int32).toInt = 0 from rfl]; exact n0) (by show _ = (zHh (zHh (zHh (zHh x (zB1 (ι a 0))) (ι a 1)) (ι a 2)) (zB1 (ι a 3))); unfold zB1 zHh; first | rw [if_pos h9, if_pos h53] | rw [if_pos h9, if_neg h53] | rw [if_neg h9, if_pos h53] | rw [if_neg h9, if_neg h53]))
set_option maxHeartbeats 4000000 in
set_option maxRecDepth 100000 in
theorem e_X11_digest (l : Launch) (G : zG) (z : Nat) (τ : Nat → Option (Nat × Nat)) (ρ : Nat → Nat → Option Nat) (ι : Nat → Nat → Int32) (κ : Nat → Nat → Int64) {B c : Nat} (hL : zLay τ ρ B c) (hJ : zJ B c ι) (hPF : zPF B c ι) : zM l G yX11_digest cX11_digest 4 (some .long) ({ frames := 6, cells := 0, slots := 0, locals := 149 } : Room) [.ref B] (z, τ, ρ, ι, κ) (fun v s => ∃ K κ2, v = some (.long (zG1 B c ι K)) ∧ s = (z, τ, ρ, ι, κ2) ∧ zKs (zK1 B c ι) 7 K) 0 0 := by
  refine zM_of zCd_X11_digest (Nat.le_of_ble_eq_true rfl) ?_
  intro E X hR hE
  subst hE
  show zW E G 4 (z, τ, ρ, ι, κ) 0 0 0 [(0, .ref B)] []
  obtain ⟨h8, ⟨hc1, hc2, hc3, hc4, hc5⟩, hJm⟩ := id hJ
  have L104 : ∀ (κ1 : Nat → Nat → Int64) (m : Nat) (i : Int32) (h : Int64), (2 - i.toInt).toNat < m → 0 ≤ i.toInt → i.toInt ≤ 2 → (∃ K, zKs (zK1 B c ι) 7 K ∧ h = zHS (zDt B ι) i.toNatClampNeg (zDf B c ι K)) → zW E G 4 (z, τ, ρ, ι, κ1) 0 0 104 [(0, .ref B), (1, .long h), (3, .int i)] [] := by
    intro κ1 m
    induction m with
    | zero => intro i h q; omega
    | succ m ih => ?_
    intro i h hm i0 i1 ⟨K, hK, hh⟩
    have hin := zclN i0
    refine r_iload_n X (by rfl) dX11_digest_104 ?_
    refine r_iconst X 2 (by decide) dX11_digest_105 ?_
    refine r_icmp_ge X 129 dX11_digest_106 (by decide) (fun h106 => ?_) (fun h106 => ?_)
    · rw [show Int32.toInt 2 = 2 from rfl] at h106
      refine r_lload_n X (by rfl) dX11_digest_129 ?_
      refine r_lreturn X hR dX11_digest_130 (Nat.zero_le _) (Nat.zero_le _) ?_
      exact ⟨K, _, by unfold zG1; rw [hh, show i.toNatClampNeg = 2 by omega], rfl, hK⟩
    · rw [show Int32.toInt 2 = 2 from rfl] at h106
      refine r_aload_n X (by rfl) dX11_digest_109 ?_
      refine r_getR X dX11_digest_110 zF_X11_52 (zt hL 0 rfl) (zrf hL 6 rfl) ?_
      refine r_iload_n X (by rfl) dX11_digest_113 ?_
      refine r_aaload X dX11_digest_114 (zt hL 28 rfl) (by decide) (vp_in_iff.mpr ⟨by omega, by omega⟩) (zStr hL (j := i.toNatClampNeg) (by omega)).1 ?_
      refine r_getR X dX11_digest_115 zF_X11_218 (zStr hL (j := i.toNatClampNeg) (by omega)).2.1 (zStr hL (j := i.toNatClampNeg) (by omega)).2.2.1 ?_
      refine r_lload_n X (by rfl) dX11_digest_118 ?_
      refine r_callV X dX11_digest_119 zLV_X11_262 zCd_X6_digestOnto (e_X6_digestOnto _ G z τ ρ _ _ (zStr hL (j := i.toNatClampNeg) (by omega)).2.2.2.1 (zStr hL (j := i.toNatClampNeg) (by omega)).2.2.2.2.1 (zStr hL (j := i.toNatClampNeg) (by omega)).2.2.2.2.2 _ (by rcases (show i.toNatClampNeg = 0 ∨ i.toNatClampNeg = 1 by omega) with e | e <;> rw [e] <;> first | exact hc3.1 | exact hc4.1) (by rcases (show i.toNatClampNeg = 0 ∨ i.toNatClampNeg = 1 by omega) with e | e <;> rw [e] <;> first | exact hc3.2 | exact hc4.2) (by decide)) (zStr hL (j := i.toNatClampNeg) (by omega)).2.2.2.1 ⟨by decide, rfl, rfl⟩ rfl rfl ⟨⟨rfl, rfl⟩, ⟨by decide, by decide⟩, ⟨Nat.le_of_ble_eq_true rfl, Nat.le_of_ble_eq_true rfl⟩, Nat.le_of_ble_eq_true rfl⟩ ?_
      rintro _ _ ⟨rfl, rfl⟩
      refine r_lstore_n X (by decide) dX11_digest_122 ?_
      refine r_iinc X 1 (by decide) (by rfl) (by decide) dX11_digest_123 ?_
      refine r_goto X 104 dX11_digest_126 (by decide) ?_
      exact zW.loc3 (by rfl) (by rfl) (by rfl) (ih _ _ (by have e := zinc (x := i) (by omega); omega) (by have e := zinc (x := i) (by omega); omega) (by have e := zinc (x := i) (by omega); omega) ⟨K, hK, zHS_s i0 (by omega) hh rfl⟩)
  have L33 : ∀ (m : Nat) (i : Int32) (h : Int64) (κ1 : Nat → Nat → Int64), (8 - i.toInt).toNat < m → 0 ≤ i.toInt → i.toInt ≤ (c : Int) → (∃ K, zKs (zK1 B c ι) 7 K ∧ h = zHS (zDc B ι) i.toNatClampNeg (zHs K 7 349)) → zW E G 4 (z, τ, ρ, ι, κ1) 0 0 33 [(0, .ref B), (1, .long h), (3, .int i)] [] := by
    intro m
    induction m with
    | zero => intro i h κ1 q; omega
    | succ m ih => ?_
    intro i h κ1 hm i0 i1 ⟨K, hK, hh⟩
    have hin := zclN i0
    refine r_iload_n X (by rfl) dX11_digest_33 ?_
    refine r_aload_n X (by rfl) dX11_digest_34 ?_
    refine r_getI X dX11_digest_35 zF_X11_70 (zt hL 0 rfl) ?_
    refine r_icmp_ge X 90 dX11_digest_38 (by decide) (fun h38 => ?_) (fun h38 => ?_)
    · refine r_aload_n X (by rfl) dX11_digest_90 ?_
      refine r_getR X dX11_digest_91 zF_X11_32 (zt hL 0 rfl) (zrf hL 3 rfl) ?_
      refine r_getR X dX11_digest_94 zF_X11_150 (zt hL 11 rfl) (zrf hL 15 rfl) ?_
      refine r_lload_n X (by rfl) dX11_digest_97 ?_
      refine r_callV X dX11_digest_98 zLV_X11_262 zCd_X6_digestOnto (e_X6_digestOnto _ G z τ ρ _ _ (zt hL 12 rfl) (zrf hL 17 rfl) (zt hL 13 rfl) _ hc2.1 (by have := hc2.2; omega) (by decide)) (zt hL 12 rfl) ⟨by decide, rfl, rfl⟩ rfl rfl ⟨⟨rfl, rfl⟩, ⟨by decide, by decide⟩, ⟨Nat.le_of_ble_eq_true rfl, Nat.le_of_ble_eq_true rfl⟩, Nat.le_of_ble_eq_true rfl⟩ ?_
      rintro _ _ ⟨rfl, rfl⟩
      refine r_lstore_n X (by decide) dX11_digest_101 ?_
      refine r_iconst X 0 (by decide) dX11_digest_102 ?_
      refine r_istore_n X (by decide) dX11_digest_103 ?_
      exact zW.loc3 (by rfl) (by rfl) (by rfl) (L104 _ 3 _ _ (by decide) (by decide) (by decide) ⟨K, hK, by rw [zHS_0, zDf, hh, show i.toNatClampNeg = c by omega]⟩)
    · refine r_aload_n X (by rfl) dX11_digest_41 ?_
      refine r_getR X dX11_digest_42 zF_X11_25 (zt hL 0 rfl) (zrf hL 2 rfl) ?_
      refine r_iload_n X (by rfl) dX11_digest_45 ?_
      refine r_aaload X dX11_digest_46 (zt hL 10 rfl) (by decide) (vp_in_iff.mpr ⟨by omega, by omega⟩) (hL.2.2 i.toNatClampNeg (by omega)).1 ?_
      refine r_lload_n X (by rfl) dX11_digest_47 ?_
      refine r_callV X dX11_digest_48 zLV_X11_256 zCd_X7_digestOnto (e_X7_digestOnto _ G z τ ρ _ _ (hL.2.2 i.toNatClampNeg (by omega)).2.1 (hL.2.2 i.toNatClampNeg (by omega)).2.2.1 (hL.2.2 i.toNatClampNeg (by omega)).2.2.2.1 (hL.2.2 i.toNatClampNeg (by omega)).2.2.2.2.1 (hL.2.2 i.toNatClampNeg (by omega)).2.2.2.2.2.1 (hL.2.2 i.toNatClampNeg (by omega)).2.2.2.2.2.2.1 (hL.2.2 i.toNatClampNeg (by omega)).2.2.2.2.2.2.2.1 (hL.2.2 i.toNatClampNeg (by omega)).2.2.2.2.2.2.2.2.1 (hL.2.2 i.toNatClampNeg (by omega)).2.2.2.2.2.2.2.2.2.1 (hL.2.2 i.toNatClampNeg (by omega)).2.2.2.2.2.2.2.2.2.2.1 (hL.2.2 i.toNatClampNeg (by omega)).2.2.2.2.2.2.2.2.2.2.2.1 (hL.2.2 i.toNatClampNeg (by omega)).2.2.2.2.2.2.2.2.2.2.2.2.1 (hL.2.2 i.toNatClampNeg (by omega)).2.2.2.2.2.2.2.2.2.2.2.2.2 (hc5 i.toNatClampNeg (by omega)).2.1.1 (hc5 i.toNatClampNeg (by omega)).2.1.2 _) (hL.2.2 i.toNatClampNeg (by omega)).2.1 ⟨by decide, rfl, rfl⟩ rfl rfl ⟨⟨rfl, rfl⟩, ⟨by decide, by decide⟩, ⟨Nat.le_of_ble_eq_true rfl, Nat.le_of_ble_eq_true rfl⟩, Nat.le_of_ble_eq_true rfl⟩ ?_
      rintro _ _ ⟨rfl, rfl⟩
      refine r_lstore_n X (by decide) dX11_digest_51 ?_
      refine r_ldc2 X zK_X11_251 dX11_digest_52 ?_
      refine r_lload_n X (by rfl) dX11_digest_55 ?_
      refine r_lmul X dX11_digest_56 ?_
      refine r_aload_n X (by rfl) dX11_digest_57 ?_
      refine r_iload_n X (by rfl) dX11_digest_58 ?_
      refine r_sipush X 200 (by decide) dX11_digest_59 ?_
      refine r_callV X dX11_digest_62 zLV_X11_260 zCd_X11_place (e_X11_place _ G z τ ρ _ _ hL hJ hPF _ _) (zt hL 0 rfl) ⟨by decide, rfl, rfl⟩ rfl rfl ⟨⟨rfl, rfl⟩, ⟨by decide, by decide⟩, ⟨Nat.le_of_ble_eq_true rfl, Nat.le_of_ble_eq_true rfl⟩, Nat.le_of_ble_eq_true rfl⟩ ?_
      intro v3 s3 hp3
      obtain ⟨κ3, rfl, rfl⟩ : ∃ κ3, v3 = some (.int (zPcv B ι i.toNatClampNeg 200)) ∧ s3 = (z, τ, ρ, ι, κ3) := by
        rcases hp3 with ⟨g0, -, -⟩ | ⟨-, κ3, g1, g2⟩
        · exact absurd ⟨⟨i0, by omega⟩, by decide⟩ g0
        · exact ⟨κ3, g1, g2⟩
      refine r_i2l X dX11_digest_65 ?_
      refine r_ladd X dX11_digest_66 ?_
      refine r_lstore_n X (by decide) dX11_digest_67 ?_
      refine r_ldc2 X zK_X11_251 dX11_digest_68 ?_
      refine r_lload_n X (by rfl) dX11_digest_71 ?_
      refine r_lmul X dX11_digest_72 ?_
      refine r_aload_n X (by rfl) dX11_digest_73 ?_
      refine r_iload_n X (by rfl) dX11_digest_74 ?_
      refine r_sipush X 300 (by decide) dX11_digest_75 ?_
      refine r_callV X dX11_digest_78 zLV_X11_260 zCd_X11_place (e_X11_place _ G z τ ρ _ _ hL hJ hPF _ _) (zt hL 0 rfl) ⟨by decide, rfl, rfl⟩ rfl rfl ⟨⟨rfl, rfl⟩, ⟨by decide, by decide⟩, ⟨Nat.le_of_ble_eq_true rfl, Nat.le_of_ble_eq_true rfl⟩, Nat.le_of_ble_eq_true rfl⟩ ?_
      intro v4 s4 hp4
      obtain ⟨κ4, rfl, rfl⟩ : ∃ κ4, v4 = some (.int (zPcv B ι i.toNatClampNeg 300)) ∧ s4 = (z, τ, ρ, ι, κ4) := by
        rcases hp4 with ⟨g0, -, -⟩ | ⟨-, κ4, g1, g2⟩
        · exact absurd ⟨⟨i0, by omega⟩, by decide⟩ g0
        · exact ⟨κ4, g1, g2⟩
      refine r_i2l X dX11_digest_81 ?_
      refine r_ladd X dX11_digest_82 ?_
      refine r_lstore_n X (by decide) dX11_digest_83 ?_
      refine r_iinc X 1 (by decide) (by rfl) (by decide) dX11_digest_84 ?_
      refine r_goto X 33 dX11_digest_87 (by decide) ?_
      exact zW.loc3 (by rfl) (by rfl) (by rfl) (ih _ _ _ (by have e := zinc (x := i) (by omega); omega) (by have e := zinc (x := i) (by omega); omega) (by have e := zinc (x := i) (by omega); omega) ⟨K, hK, zHS_s i0 (by omega) hh rfl⟩)
  have L6 : ∀ (m : Nat) (i : Int32) (h : Int64), (7 - i.toInt).toNat < m → 0 ≤ i.toInt → i.toInt ≤ 7 → (∃ K, zKs (zK1 B c ι) i.toInt K ∧ h = zHs K i.toNatClampNeg 349) → zW E G 4 (z, τ, ρ, ι, κ) 0 0 6 [(0, .ref B), (1, .long h), (3, .int i)] [] := by
    intro m
    induction m with
    | zero => intro i h q; omega
    | succ m ih => ?_
    intro i h hm i0 i1 ⟨K, hK, hh⟩
    refine r_iload_n X (by rfl) dX11_digest_6 ?_
    refine r_bipush X 7 (by decide) dX11_digest_7 ?_
    refine r_icmp_ge X 31 dX11_digest_9 (by decide) (fun h9 => ?_) (fun h9 => ?_)
    · rw [show Int32.toInt 7 = 7 from rfl] at h9
      refine r_iconst X 0 (by decide) dX11_digest_31 ?_
      refine r_istore_n X (by decide) dX11_digest_32 ?_
      exact zW.loc3 (by rfl) (by rfl) (by rfl) (L33 9 _ _ _ (by decide) (by decide) (by rw [show Int32.toInt 0 = 0 from rfl]; omega) ⟨K, by rw [show i.toInt = 7 by omega] at hK; exact hK, by rw [zHS_0, hh, show i.toNatClampNeg = 7 by have := zclN i0; omega]⟩)
    · rw [show Int32.toInt 7 = 7 from rfl] at h9
      refine r_ldc2 X zK_X11_251 dX11_digest_12 ?_
      refine r_lload_n X (by rfl) dX11_digest_15 ?_
      refine r_lmul X dX11_digest_16 ?_
      refine r_aload_n X (by rfl) dX11_digest_17 ?_
      refine r_iload_n X (by rfl) dX11_digest_18 ?_
      refine r_callV X dX11_digest_19 zLV_X11_253 zCd_X11_count (e_X11_count _ G z τ ρ _ _ hL hJ _) (zt hL 0 rfl) ⟨by decide, rfl, rfl⟩ rfl rfl ⟨⟨rfl, rfl⟩, ⟨by decide, by decide⟩, ⟨Nat.le_of_ble_eq_true rfl, Nat.le_of_ble_eq_true rfl⟩, Nat.le_of_ble_eq_true rfl⟩ ?_
      rintro _ _ ⟨r1, rfl, rfl, hr1⟩
      refine r_i2l X dX11_digest_22 ?_
      refine r_ladd X dX11_digest_23 ?_
      refine r_lstore_n X (by decide) dX11_digest_24 ?_
      refine r_iinc X 1 (by decide) (by rfl) (by decide) dX11_digest_25 ?_
      refine r_goto X 6 dX11_digest_28 (by decide) ?_
      exact zW.loc3 (by rfl) (by rfl) (by rfl) (ih _ _ (by have e := zinc (x := i) (by omega); omega) (by have e := zinc (x := i) (by omega); omega) (by have e := zinc (x := i) (by omega); omega) (zKs_s i0 (by omega) hK hh hr1))
  refine r_ldc2 X zK_X11_249 dX11_digest_0 ?_
  refine r_lstore_n X (by decide) dX11_digest_3 ?_
  refine r_iconst X 0 (by decide) dX11_digest_4 ?_
  refine r_istore_n X (by decide) dX11_digest_5 ?_
  exact zW.loc3 (by rfl) (by rfl) (by rfl) (L6 8 _ _ (by decide) (by decide) (by decide) ⟨fun _ => 0, fun x x0 x1 => by rw [show Int32.toInt 0 = 0 from rfl] at x1; omega, by rfl⟩)
