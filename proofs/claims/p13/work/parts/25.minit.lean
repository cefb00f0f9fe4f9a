/-! the constructor of the model (wip/gen/spec_n.py) -/
def tX12 (τ : Nat → Option (Nat × Nat)) (a z : Nat) : Nat → Option (Nat × Nat) := zp (zp (zp (zp (zp (zp (zp (zp (zp (zp (zp (zp (zp (zp (zp (zp (zp (zp (zp (zp (zp (zp (zp (zp τ z (15, 8)) (z + 1) (13, 8)) (z + 2) (13, 8)) (z + 3) (15, 8)) (z + 4) (13, 8)) (z + 5) (13, 32)) (z + 6) (13, 32)) (z + 7) (13, 32)) (z + 8) (13, 12)) (z + 9) (13, 2)) (z + 10) (13, 120)) (z + 11) (14, 6)) (z + 12) (14, 6)) (z + 13) (14, 6)) (z + 14) (14, 6)) (z + 15) (14, 6)) (z + 16) (14, 6)) (z + 17) (14, 6)) (z + 18) (14, 6)) (z + 19) (13, 800008)) (z + 20) (13, 900)) (z + 21) (13, 12)) (z + 22) (13, 65)) (z + 23) (13, 61)
def rX12 (ρ : Nat → Nat → Option Nat) (a z : Nat) : Nat → Nat → Option Nat := zu (zu (zu (zu (zu (zu (zu (zu (zu (zu (zu (zu (zu (zu (zu (zu (zu (zu (zu (zu (zu (zu (zu (zu ρ a 2 (some z)) a 3 (some (z + 1))) a 4 (some (z + 2))) a 5 (some (z + 3))) a 6 (some (z + 4))) a 7 (some (z + 5))) a 8 (some (z + 6))) a 9 (some (z + 7))) a 12 (some (z + 8))) a 13 (some (z + 9))) a 14 (some (z + 10))) a 15 (some (z + 11))) a 16 (some (z + 12))) a 17 (some (z + 13))) a 18 (some (z + 14))) a 19 (some (z + 15))) a 20 (some (z + 16))) a 21 (some (z + 17))) a 22 (some (z + 18))) a 23 (some (z + 19))) a 25 (some (z + 20))) a 27 (some (z + 21))) a 28 (some (z + 22))) a 29 (some (z + 23))
set_option maxHeartbeats 4000000 in
set_option maxRecDepth 100000 in
theorem c_X12_init (l : Launch) (G : zG) (z : Nat) (τ : Nat → Option (Nat × Nat)) (ρ : Nat → Nat → Option Nat) (ι : Nat → Nat → Int32) (κ : Nat → Nat → Int64) {a : Nat} (ha : τ a = some (12, 0)) (haz : a < z) : zM l G yX12_init cX12_init 2 none ({ frames := 2, cells := 24, slots := 801364, locals := 60 } : Room) [.ref a] (z, τ, ρ, ι, κ) (fun v s => v = none ∧ ∃ κ2, s = (z + 24, tX12 τ a z, rX12 ρ a z, zu ι a 0 10000, κ2) ∧ (∀ k, k < 6 → κ2 (z + 11) k = zFz 2 k) ∧ ∀ k, k < 6 → κ2 (z + 12) k = zFz 3 k) 24 801364 := by
  refine zM_ofI zCd_X12_init (Nat.le_of_ble_eq_true rfl) rfl ?_
  intro E X hR hE hin
  subst hE
  show zW E G 2 (z, τ, ρ, ι, κ) 0 0 0 [(0, .ref a)] []
  have na : ∀ k, a ≠ z + k := fun k => by omega
  have na0 : a ≠ z := na 0
  refine r_aload_n X (by rfl) dX12_init_0 ?_
  refine r_objInit X dX12_init_1 zob_X12_1 (Nat.le_of_ble_eq_true rfl) (Nat.le_of_ble_eq_true rfl) ?_
  refine r_aload_n X (by rfl) dX12_init_4 ?_
  refine r_sipush X 10000 (by decide) dX12_init_5 ?_
  refine r_putI (N := 0) X dX12_init_8 zF_X12_7 (by simp [tX12, rX12, zp, zu, na, na0, ha, Nat.add_assoc]) rfl rfl ?_
  refine r_aload_n X (by rfl) dX12_init_11 ?_
  refine r_bipush X 8 (by decide) dX12_init_12 ?_
  refine r_newZ (N := 8) X dX12_init_14 (by decide) rfl (by decide) (Nat.le_of_ble_eq_true rfl) (Nat.le_of_ble_eq_true rfl) (fun hz14 => ?_)
  refine r_putFR (N := 0) X hin dX12_init_16 zF_X12_13 (by simp [tX12, rX12, zp, zu, na, na0, ha, Nat.add_assoc]) rfl rfl rfl rfl ?_
  refine r_aload_n X (by rfl) dX12_init_19 ?_
  refine r_bipush X 8 (by decide) dX12_init_20 ?_
  refine r_newI (N := 8) X dX12_init_22 (by decide) rfl (by decide) (Nat.le_of_ble_eq_true rfl) (Nat.le_of_ble_eq_true rfl) (fun hz22 => ?_)
  refine r_putFR (N := 0) X hin dX12_init_24 zF_X12_17 (by simp [tX12, rX12, zp, zu, na, na0, ha, Nat.add_assoc]) rfl rfl rfl rfl ?_
  refine r_aload_n X (by rfl) dX12_init_27 ?_
  refine r_bipush X 8 (by decide) dX12_init_28 ?_
  refine r_newI (N := 8) X dX12_init_30 (by decide) rfl (by decide) (Nat.le_of_ble_eq_true rfl) (Nat.le_of_ble_eq_true rfl) (fun hz30 => ?_)
  refine r_putFR (N := 0) X hin dX12_init_32 zF_X12_21 (by simp [tX12, rX12, zp, zu, na, na0, ha, Nat.add_assoc]) rfl rfl rfl rfl ?_
  refine r_aload_n X (by rfl) dX12_init_35 ?_
  refine r_bipush X 8 (by decide) dX12_init_36 ?_
  refine r_newZ (N := 8) X dX12_init_38 (by decide) rfl (by decide) (Nat.le_of_ble_eq_true rfl) (Nat.le_of_ble_eq_true rfl) (fun hz38 => ?_)
  refine r_putFR (N := 0) X hin dX12_init_40 zF_X12_24 (by simp [tX12, rX12, zp, zu, na, na0, ha, Nat.add_assoc]) rfl rfl rfl rfl ?_
  refine r_aload_n X (by rfl) dX12_init_43 ?_
  refine r_bipush X 8 (by decide) dX12_init_44 ?_
  refine r_newI (N := 8) X dX12_init_46 (by decide) rfl (by decide) (Nat.le_of_ble_eq_true rfl) (Nat.le_of_ble_eq_true rfl) (fun hz46 => ?_)
  refine r_putFR (N := 0) X hin dX12_init_48 zF_X12_27 (by simp [tX12, rX12, zp, zu, na, na0, ha, Nat.add_assoc]) rfl rfl rfl rfl ?_
  refine r_aload_n X (by rfl) dX12_init_51 ?_
  refine r_bipush X 32 (by decide) dX12_init_52 ?_
  refine r_newI (N := 32) X dX12_init_54 (by decide) rfl (by decide) (Nat.le_of_ble_eq_true rfl) (Nat.le_of_ble_eq_true rfl) (fun hz54 => ?_)
  refine r_putFR (N := 0) X hin dX12_init_56 zF_X12_30 (by simp [tX12, rX12, zp, zu, na, na0, ha, Nat.add_assoc]) rfl rfl rfl rfl ?_
  refine r_aload_n X (by rfl) dX12_init_59 ?_
  refine r_bipush X 32 (by decide) dX12_init_60 ?_
  refine r_newI (N := 32) X dX12_init_62 (by decide) rfl (by decide) (Nat.le_of_ble_eq_true rfl) (Nat.le_of_ble_eq_true rfl) (fun hz62 => ?_)
  refine r_putFR (N := 0) X hin dX12_init_64 zF_X12_33 (by simp [tX12, rX12, zp, zu, na, na0, ha, Nat.add_assoc]) rfl rfl rfl rfl ?_
  refine r_aload_n X (by rfl) dX12_init_67 ?_
  refine r_bipush X 32 (by decide) dX12_init_68 ?_
  refine r_newI (N := 32) X dX12_init_70 (by decide) rfl (by decide) (Nat.le_of_ble_eq_true rfl) (Nat.le_of_ble_eq_true rfl) (fun hz70 => ?_)
  refine r_putFR (N := 0) X hin dX12_init_72 zF_X12_36 (by simp [tX12, rX12, zp, zu, na, na0, ha, Nat.add_assoc]) rfl rfl rfl rfl ?_
  refine r_aload_n X (by rfl) dX12_init_75 ?_
  refine r_bipush X 12 (by decide) dX12_init_76 ?_
  refine r_newI (N := 12) X dX12_init_78 (by decide) rfl (by decide) (Nat.le_of_ble_eq_true rfl) (Nat.le_of_ble_eq_true rfl) (fun hz78 => ?_)
  refine r_putFR (N := 0) X hin dX12_init_80 zF_X12_39 (by simp [tX12, rX12, zp, zu, na, na0, ha, Nat.add_assoc]) rfl rfl rfl rfl ?_
  refine r_aload_n X (by rfl) dX12_init_83 ?_
  refine r_iconst X 2 (by decide) dX12_init_84 ?_
  refine r_newI (N := 2) X dX12_init_85 (by decide) rfl (by decide) (Nat.le_of_ble_eq_true rfl) (Nat.le_of_ble_eq_true rfl) (fun hz85 => ?_)
  refine r_putFR (N := 0) X hin dX12_init_87 zF_X12_42 (by simp [tX12, rX12, zp, zu, na, na0, ha, Nat.add_assoc]) rfl rfl rfl rfl ?_
  refine r_aload_n X (by rfl) dX12_init_90 ?_
  refine r_bipush X 120 (by decide) dX12_init_91 ?_
  refine r_newI (N := 120) X dX12_init_93 (by decide) rfl (by decide) (Nat.le_of_ble_eq_true rfl) (Nat.le_of_ble_eq_true rfl) (fun hz93 => ?_)
  refine r_putFR (N := 0) X hin dX12_init_95 zF_X12_45 (by simp [tX12, rX12, zp, zu, na, na0, ha, Nat.add_assoc]) rfl rfl rfl rfl ?_
  refine r_aload_n X (by rfl) dX12_init_98 ?_
  refine r_bipush X 6 (by decide) dX12_init_99 ?_
  refine r_newJ (N := 6) X dX12_init_101 (by decide) rfl (by decide) (Nat.le_of_ble_eq_true rfl) (Nat.le_of_ble_eq_true rfl) (fun hz101 => ?_)
  refine r_putFR (N := 0) X hin dX12_init_103 zF_X12_48 (by simp [tX12, rX12, zp, zu, na, na0, ha, Nat.add_assoc]) rfl rfl rfl rfl ?_
  refine r_aload_n X (by rfl) dX12_init_106 ?_
  refine r_bipush X 6 (by decide) dX12_init_107 ?_
  refine r_newJ (N := 6) X dX12_init_109 (by decide) rfl (by decide) (Nat.le_of_ble_eq_true rfl) (Nat.le_of_ble_eq_true rfl) (fun hz109 => ?_)
  refine r_putFR (N := 0) X hin dX12_init_111 zF_X12_52 (by simp [tX12, rX12, zp, zu, na, na0, ha, Nat.add_assoc]) rfl rfl rfl rfl ?_
  refine r_aload_n X (by rfl) dX12_init_114 ?_
  refine r_bipush X 6 (by decide) dX12_init_115 ?_
  refine r_newJ (N := 6) X dX12_init_117 (by decide) rfl (by decide) (Nat.le_of_ble_eq_true rfl) (Nat.le_of_ble_eq_true rfl) (fun hz117 => ?_)
  refine r_putFR (N := 0) X hin dX12_init_119 zF_X12_55 (by simp [tX12, rX12, zp, zu, na, na0, ha, Nat.add_assoc]) rfl rfl rfl rfl ?_
  refine r_aload_n X (by rfl) dX12_init_122 ?_
  refine r_bipush X 6 (by decide) dX12_init_123 ?_
  refine r_newJ (N := 6) X dX12_init_125 (by decide) rfl (by decide) (Nat.le_of_ble_eq_true rfl) (Nat.le_of_ble_eq_true rfl) (fun hz125 => ?_)
  refine r_putFR (N := 0) X hin dX12_init_127 zF_X12_58 (by simp [tX12, rX12, zp, zu, na, na0, ha, Nat.add_assoc]) rfl rfl rfl rfl ?_
  refine r_aload_n X (by rfl) dX12_init_130 ?_
  refine r_bipush X 6 (by decide) dX12_init_131 ?_
  refine r_newJ (N := 6) X dX12_init_133 (by decide) rfl (by decide) (Nat.le_of_ble_eq_true rfl) (Nat.le_of_ble_eq_true rfl) (fun hz133 => ?_)
  refine r_putFR (N := 0) X hin dX12_init_135 zF_X12_61 (by simp [tX12, rX12, zp, zu, na, na0, ha, Nat.add_assoc]) rfl rfl rfl rfl ?_
  refine r_aload_n X (by rfl) dX12_init_138 ?_
  refine r_bipush X 6 (by decide) dX12_init_139 ?_
  refine r_newJ (N := 6) X dX12_init_141 (by decide) rfl (by decide) (Nat.le_of_ble_eq_true rfl) (Nat.le_of_ble_eq_true rfl) (fun hz141 => ?_)
  refine r_putFR (N := 0) X hin dX12_init_143 zF_X12_64 (by simp [tX12, rX12, zp, zu, na, na0, ha, Nat.add_assoc]) rfl rfl rfl rfl ?_
  refine r_aload_n X (by rfl) dX12_init_146 ?_
  refine r_bipush X 6 (by decide) dX12_init_147 ?_
  refine r_newJ (N := 6) X dX12_init_149 (by decide) rfl (by decide) (Nat.le_of_ble_eq_true rfl) (Nat.le_of_ble_eq_true rfl) (fun hz149 => ?_)
  refine r_putFR (N := 0) X hin dX12_init_151 zF_X12_67 (by simp [tX12, rX12, zp, zu, na, na0, ha, Nat.add_assoc]) rfl rfl rfl rfl ?_
  refine r_aload_n X (by rfl) dX12_init_154 ?_
  refine r_bipush X 6 (by decide) dX12_init_155 ?_
  refine r_newJ (N := 6) X dX12_init_157 (by decide) rfl (by decide) (Nat.le_of_ble_eq_true rfl) (Nat.le_of_ble_eq_true rfl) (fun hz157 => ?_)
  refine r_putFR (N := 0) X hin dX12_init_159 zF_X12_70 (by simp [tX12, rX12, zp, zu, na, na0, ha, Nat.add_assoc]) rfl rfl rfl rfl ?_
  refine r_aload_n X (by rfl) dX12_init_162 ?_
  refine r_ldc X zK_X12_73 dX12_init_163 ?_
  refine r_newI (N := 800008) X dX12_init_165 (by decide) rfl (by decide) (Nat.le_of_ble_eq_true rfl) (Nat.le_of_ble_eq_true rfl) (fun hz165 => ?_)
  refine r_putFR (N := 0) X hin dX12_init_167 zF_X12_74 (by simp [tX12, rX12, zp, zu, na, na0, ha, Nat.add_assoc]) rfl rfl rfl rfl ?_
  refine r_aload_n X (by rfl) dX12_init_170 ?_
  refine r_sipush X 900 (by decide) dX12_init_171 ?_
  refine r_newI (N := 900) X dX12_init_174 (by decide) rfl (by decide) (Nat.le_of_ble_eq_true rfl) (Nat.le_of_ble_eq_true rfl) (fun hz174 => ?_)
  refine r_putFR (N := 0) X hin dX12_init_176 zF_X12_77 (by simp [tX12, rX12, zp, zu, na, na0, ha, Nat.add_assoc]) rfl rfl rfl rfl ?_
  refine r_aload_n X (by rfl) dX12_init_179 ?_
  refine r_bipush X 12 (by decide) dX12_init_180 ?_
  refine r_newI (N := 12) X dX12_init_182 (by decide) rfl (by decide) (Nat.le_of_ble_eq_true rfl) (Nat.le_of_ble_eq_true rfl) (fun hz182 => ?_)
  refine r_putFR (N := 0) X hin dX12_init_184 zF_X12_80 (by simp [tX12, rX12, zp, zu, na, na0, ha, Nat.add_assoc]) rfl rfl rfl rfl ?_
  refine r_aload_n X (by rfl) dX12_init_187 ?_
  refine r_bipush X 65 (by decide) dX12_init_188 ?_
  refine r_newI (N := 65) X dX12_init_190 (by decide) rfl (by decide) (Nat.le_of_ble_eq_true rfl) (Nat.le_of_ble_eq_true rfl) (fun hz190 => ?_)
  refine r_putFR (N := 0) X hin dX12_init_192 zF_X12_83 (by simp [tX12, rX12, zp, zu, na, na0, ha, Nat.add_assoc]) rfl rfl rfl rfl ?_
  refine r_aload_n X (by rfl) dX12_init_195 ?_
  refine r_bipush X 61 (by decide) dX12_init_196 ?_
  refine r_newI (N := 61) X dX12_init_198 (by decide) rfl (by decide) (Nat.le_of_ble_eq_true rfl) (Nat.le_of_ble_eq_true rfl) (fun hz198 => ?_)
  refine r_putFR (N := 0) X hin dX12_init_200 zF_X12_86 (by simp [tX12, rX12, zp, zu, na, na0, ha, Nat.add_assoc]) rfl rfl rfl rfl ?_
  have f0 : tX12 τ a z a = some (12, 0) := (by simp [tX12, rX12, zp, zu, na, na0, ha, Nat.add_assoc])
  have f1 : rX12 ρ a z a 17 = some (z + 13) := (by simp [tX12, rX12, zp, zu, na, na0, ha, Nat.add_assoc])
  have f2 : rX12 ρ a z a 18 = some (z + 14) := (by simp [tX12, rX12, zp, zu, na, na0, ha, Nat.add_assoc])
  have f3 : tX12 τ a z (z + 13) = some (14, 6) := (by simp [tX12, rX12, zp, zu, na, na0, ha, Nat.add_assoc])
  have f4 : tX12 τ a z (z + 14) = some (14, 6) := (by simp [tX12, rX12, zp, zu, na, na0, ha, Nat.add_assoc])
  have f5 : tX12 τ a z (z + 11) = some (14, 6) := (by simp [tX12, rX12, zp, zu, na, na0, ha, Nat.add_assoc])
  have f6 : tX12 τ a z (z + 12) = some (14, 6) := (by simp [tX12, rX12, zp, zu, na, na0, ha, Nat.add_assoc])
  refine r_aload_n X (by rfl) dX12_init_203 ?_
  refine r_ldc2 X zK_X12_89 dX12_init_204 ?_
  refine r_lconst X 1 (by decide) dX12_init_207 ?_
  refine r_aload_n X (by rfl) dX12_init_208 ?_
  refine r_getR (N := 0) (b := z + 11) X dX12_init_209 zF_X12_48 (by simp [tX12, rX12, zp, zu, na, na0, ha, Nat.add_assoc]) (by simp [tX12, rX12, zp, zu, na, na0, ha, Nat.add_assoc]) ?_
  refine r_callV (t := 12) (N := 0) X dX12_init_212 zLV_X12_91 zCd_X12_natural (e_X12_natural _ G _ _ _ _ _ f0 f1 f2 f3 f4 (by omega) f5 (by omega) (by omega) _ _ (by decide) (by decide) (by decide) (by decide +kernel)) (by simp [tX12, rX12, zp, zu, na, na0, ha, Nat.add_assoc]) ⟨by decide, rfl, rfl⟩ rfl rfl ⟨⟨rfl, rfl⟩, ⟨Nat.le_of_ble_eq_true rfl, Nat.le_of_ble_eq_true rfl⟩, ⟨Nat.le_of_ble_eq_true rfl, Nat.le_of_ble_eq_true rfl⟩, Nat.le_of_ble_eq_true rfl⟩ ?_
  rintro _ _ ⟨rfl, κ1, rfl, g1, p1, v1⟩
  have v1 : qR (κ1 (z + 11)) 6 = zTwoI := by rw [v1]; decide +kernel
  refine r_aload_n X (by rfl) dX12_init_215 ?_
  refine r_ldc2 X zK_X12_95 dX12_init_216 ?_
  refine r_ldc2 X zK_X12_97 dX12_init_219 ?_
  refine r_aload_n X (by rfl) dX12_init_222 ?_
  refine r_getR (N := 0) (b := z + 12) X dX12_init_223 zF_X12_52 (by simp [tX12, rX12, zp, zu, na, na0, ha, Nat.add_assoc]) (by simp [tX12, rX12, zp, zu, na, na0, ha, Nat.add_assoc]) ?_
  refine r_callV (t := 12) (N := 0) X dX12_init_226 zLV_X12_91 zCd_X12_natural (e_X12_natural _ G _ _ _ _ _ f0 f1 f2 f3 f4 (by omega) f6 (by omega) (by omega) _ _ (by decide) (by decide) (by decide) (by decide +kernel)) (by simp [tX12, rX12, zp, zu, na, na0, ha, Nat.add_assoc]) ⟨by decide, rfl, rfl⟩ rfl rfl ⟨⟨rfl, rfl⟩, ⟨Nat.le_of_ble_eq_true rfl, Nat.le_of_ble_eq_true rfl⟩, ⟨Nat.le_of_ble_eq_true rfl, Nat.le_of_ble_eq_true rfl⟩, Nat.le_of_ble_eq_true rfl⟩ ?_
  rintro _ _ ⟨rfl, κ2, rfl, g2, p2, v2⟩
  have v2 : qR (κ2 (z + 12)) 6 = zTenI - 3 * zTwoI := by rw [v2]; decide +kernel
  have p1 : zNo9 (κ2 (z + 11)) := by rw [g2 (z + 11) (by omega) (by omega) (by omega)]; exact p1
  have v1 : qR (κ2 (z + 11)) 6 = zTwoI := by rw [g2 (z + 11) (by omega) (by omega) (by omega)]; exact v1
  refine r_iconst X 0 (by decide) dX12_init_229 ?_
  refine r_istore_n X (by decide) dX12_init_230 ?_
  refine r_iload_n X (by rfl) dX12_init_231 ?_
  refine r_iconst X 3 (by decide) dX12_init_232 ?_
  refine r_icmp_ge X 253 dX12_init_233 (by decide) (fun h => absurd h (by decide)) (fun _ => ?_)
  refine r_aload_n X (by rfl) dX12_init_236 ?_
  refine r_getR (N := 0) (b := z + 12) X dX12_init_237 zF_X12_52 (by simp [tX12, rX12, zp, zu, na, na0, ha, Nat.add_assoc]) (by simp [tX12, rX12, zp, zu, na, na0, ha, Nat.add_assoc]) ?_
  refine r_aload_n X (by rfl) dX12_init_240 ?_
  refine r_getR (N := 0) (b := z + 11) X dX12_init_241 zF_X12_48 (by simp [tX12, rX12, zp, zu, na, na0, ha, Nat.add_assoc]) (by simp [tX12, rX12, zp, zu, na, na0, ha, Nat.add_assoc]) ?_
  refine r_callS X dX12_init_244 zLS_X12_99 zCd_X12_adds (e_X12_adds _ G _ _ _ _ _ f6 f5 (by omega) p2 p1 (zr0b p2 (by rw [v2]; decide)) (zr0b p1 (by rw [v1]; decide))) rfl rfl ⟨⟨rfl, rfl⟩, ⟨Nat.le_of_ble_eq_true rfl, Nat.le_of_ble_eq_true rfl⟩, ⟨Nat.le_of_ble_eq_true rfl, Nat.le_of_ble_eq_true rfl⟩, Nat.le_of_ble_eq_true rfl⟩ ?_
  rintro _ _ ⟨rfl, κ3, rfl, g3, p3, v3⟩
  rw [v2, v1] at v3
  have p1 : zNo9 (κ3 (z + 11)) := by rw [g3 (z + 11) (by omega)]; exact p1
  have v1 : qR (κ3 (z + 11)) 6 = zTwoI := by rw [g3 (z + 11) (by omega)]; exact v1
  have p2 := p3
  have v2 := v3
  refine r_iinc X 1 (by decide) (by rfl) (by decide) dX12_init_247 ?_
  refine r_goto X 231 dX12_init_250 (by decide) ?_
  refine r_iload_n X (by rfl) dX12_init_231 ?_
  refine r_iconst X 3 (by decide) dX12_init_232 ?_
  refine r_icmp_ge X 253 dX12_init_233 (by decide) (fun h => absurd h (by decide)) (fun _ => ?_)
  refine r_aload_n X (by rfl) dX12_init_236 ?_
  refine r_getR (N := 0) (b := z + 12) X dX12_init_237 zF_X12_52 (by simp [tX12, rX12, zp, zu, na, na0, ha, Nat.add_assoc]) (by simp [tX12, rX12, zp, zu, na, na0, ha, Nat.add_assoc]) ?_
  refine r_aload_n X (by rfl) dX12_init_240 ?_
  refine r_getR (N := 0) (b := z + 11) X dX12_init_241 zF_X12_48 (by simp [tX12, rX12, zp, zu, na, na0, ha, Nat.add_assoc]) (by simp [tX12, rX12, zp, zu, na, na0, ha, Nat.add_assoc]) ?_
  refine r_callS X dX12_init_244 zLS_X12_99 zCd_X12_adds (e_X12_adds _ G _ _ _ _ _ f6 f5 (by omega) p2 p1 (zr0b p2 (by rw [v2]; decide)) (zr0b p1 (by rw [v1]; decide))) rfl rfl ⟨⟨rfl, rfl⟩, ⟨Nat.le_of_ble_eq_true rfl, Nat.le_of_ble_eq_true rfl⟩, ⟨Nat.le_of_ble_eq_true rfl, Nat.le_of_ble_eq_true rfl⟩, Nat.le_of_ble_eq_true rfl⟩ ?_
  rintro _ _ ⟨rfl, κ3, rfl, g3, p3, v3⟩
  rw [v2, v1] at v3
  have p1 : zNo9 (κ3 (z + 11)) := by rw [g3 (z + 11) (by omega)]; exact p1
  have v1 : qR (κ3 (z + 11)) 6 = zTwoI := by rw [g3 (z + 11) (by omega)]; exact v1
  have p2 := p3
  have v2 := v3
  refine r_iinc X 1 (by decide) (by rfl) (by decide) dX12_init_247 ?_
  refine r_goto X 231 dX12_init_250 (by decide) ?_
  refine r_iload_n X (by rfl) dX12_init_231 ?_
  refine r_iconst X 3 (by decide) dX12_init_232 ?_
  refine r_icmp_ge X 253 dX12_init_233 (by decide) (fun h => absurd h (by decide)) (fun _ => ?_)
  refine r_aload_n X (by rfl) dX12_init_236 ?_
  refine r_getR (N := 0) (b := z + 12) X dX12_init_237 zF_X12_52 (by simp [tX12, rX12, zp, zu, na, na0, ha, Nat.add_assoc]) (by simp [tX12, rX12, zp, zu, na, na0, ha, Nat.add_assoc]) ?_
  refine r_aload_n X (by rfl) dX12_init_240 ?_
  refine r_getR (N := 0) (b := z + 11) X dX12_init_241 zF_X12_48 (by simp [tX12, rX12, zp, zu, na, na0, ha, Nat.add_assoc]) (by simp [tX12, rX12, zp, zu, na, na0, ha, Nat.add_assoc]) ?_
  refine r_callS X dX12_init_244 zLS_X12_99 zCd_X12_adds (e_X12_adds _ G _ _ _ _ _ f6 f5 (by omega) p2 p1 (zr0b p2 (by rw [v2]; decide)) (zr0b p1 (by rw [v1]; decide))) rfl rfl ⟨⟨rfl, rfl⟩, ⟨Nat.le_of_ble_eq_true rfl, Nat.le_of_ble_eq_true rfl⟩, ⟨Nat.le_of_ble_eq_true rfl, Nat.le_of_ble_eq_true rfl⟩, Nat.le_of_ble_eq_true rfl⟩ ?_
  rintro _ _ ⟨rfl, κ3, rfl, g3, p3, v3⟩
  rw [v2, v1] at v3
  have p1 : zNo9 (κ3 (z + 11)) := by rw [g3 (z + 11) (by omega)]; exact p1
  have v1 : qR (κ3 (z + 11)) 6 = zTwoI := by rw [g3 (z + 11) (by omega)]; exact v1
  have p2 := p3
  have v2 := v3
  refine r_iinc X 1 (by decide) (by rfl) (by decide) dX12_init_247 ?_
  refine r_goto X 231 dX12_init_250 (by decide) ?_
  refine r_iload_n X (by rfl) dX12_init_231 ?_
  refine r_iconst X 3 (by decide) dX12_init_232 ?_
  refine r_icmp_ge X 253 dX12_init_233 (by decide) (fun _ => ?_) (fun h => absurd h (by decide))
  refine r_return X hR dX12_init_253 (Nat.le_of_ble_eq_true rfl) (Nat.le_of_ble_eq_true rfl) ?_
  exact ⟨rfl, _, rfl, zlimb p1 zF2_9 (by rw [v1, zF2_v]), zlimb p2 zF3_9 (by rw [v2, zF3_v]; decide)⟩
