/-! the model's digest exactly (wip/genr/spec_kb.py) -/
noncomputable def zDm (B : Nat) (ι : Nat → Nat → Int32) (j : Nat) (h : Int64) : Int64 := zHh (zHh (zSd (ι (B + 39) j) (ι (B + 40) j) (ι (B + 41) j) (ι (B + 42) j) (ι (B + 43) j).toNatClampNeg (fun k => ι (B + 44) (4 * j + k)) (fun k => ι (B + 45) (4 * j + k)) (fun k => ι (B + 46) (4 * j + k)) h) (zPm B ι (Int32.ofNat j) 200)) (zPm B ι (Int32.ofNat j) 300)
def zDw (B : Nat) (ι : Nat → Nat → Int32) (j : Nat) (h : Int64) : Int64 := zHs (fun k => ι (B + 49) (60 * j + k)) (ι (B + 48) j).toNatClampNeg h
noncomputable def zDg (B c : Nat) (ι : Nat → Nat → Int32) (K : Nat → Int32) : Int64 := zHs (ι (B + 47)) (ι (B + 38) 11).toNatClampNeg (zHS (zDm B ι) c (zHs K 7 349))
noncomputable def zG2 (B c : Nat) (ι : Nat → Nat → Int32) (K : Nat → Int32) : Int64 := zHS (zDw B ι) 2 (zDg B c ι K)

set_option maxHeartbeats 4000000 in
set_option maxRecDepth 100000 in
theorem e3_X12_digest (l : Launch) (G : zG) (z : Nat) (τ : Nat → Option (Nat × Nat)) (ρ : Nat → Nat → Option Nat) (ι : Nat → Nat → Int32) (κ : Nat → Nat → Int64) {B c : Nat} (hL : zLay τ ρ B c) (hJ : zJ B c ι) (hst : 100 ≤ (ι (B + 38) 0).toInt ∧ (ι (B + 38) 0).toInt ≤ 50000) (hM : zPsM B c ι) : zM l G yX12_digest cX12_digest 5 (some .long) ({ frames := 5, cells := 0, slots := 0, locals := 143 } : Room) [.ref (B + 38)] (z, τ, ρ, ι, κ) (fun v s => ∃ K ι2 κ2, v = some (.long (zG2 B c ι K)) ∧ s = (z, τ, ρ, ι2, κ2) ∧ zFq B ι ι2 ∧ zPsM B c ι2 ∧ zKs (zK2 B c ι) 7 K) 0 0 := by
  refine zM_of zCd_X12_digest (Nat.le_of_ble_eq_true rfl) ?_
  intro E X hR hE
  subst hE
  show zW E G 5 (z, τ, ρ, ι, κ) 0 0 0 [(0, .ref (B + 38))] []
  obtain ⟨h8, hJc, hm1, hm2, hm3, hm4, hm5⟩ := id hJ
  have L254 : ∀ (ι1 : Nat → Nat → Int32) (κ1 : Nat → Nat → Int64), zFq B ι ι1 → zPsM B c ι1 → zJm B c ι1 → ∀ (m : Nat) (i : Int32) (h : Int64), (2 - i.toInt).toNat < m → 0 ≤ i.toInt → i.toInt ≤ 2 → (∃ K, zKs (zK2 B c ι) 7 K ∧ h = zHS (zDw B ι) i.toNatClampNeg (zDg B c ι K)) → zW E G 5 (z, τ, ρ, ι1, κ1) 0 0 254 [(0, .ref (B + 38)), (1, .long h), (3, .int i)] [] := by
    intro ι1 κ1 hf hM1 ⟨g1, g2, g3, g4, g5⟩ m
    have e48 : ι1 (B + 48) = ι (B + 48) := funext (fun k => hf _ _ (by unfold zCq; omega))
    have e49 : ι1 (B + 49) = ι (B + 49) := funext (fun k => hf _ _ (by unfold zCq; omega))
    induction m with
    | zero => intro i h q; omega
    | succ m ih => ?_
    intro i h hm i0 i1 ⟨K, hK, hh⟩
    have hin := zclN i0
    have L262 : ∀ (hi : i.toInt < 2) (m2 : Nat) (j : Int32) (y : Int64), (60 - j.toInt).toNat < m2 → 0 ≤ j.toInt → j.toInt ≤ (ι1 (B + 48) i.toNatClampNeg).toInt → y = zHs (fun k => ι (B + 49) (60 * i.toNatClampNeg + k)) j.toNatClampNeg h → zW E G 5 (z, τ, ρ, ι1, κ1) 0 0 262 [(0, .ref (B + 38)), (1, .long y), (3, .int i), (4, .int j)] [] := by
      intro hi m2
      have hs := g4 i.toNatClampNeg (by omega)
      have hsn := zclN hs.1
      induction m2 with
      | zero => intro j y q; omega
      | succ m2 ih2 => ?_
      intro j y hm2 hj0 hj1 hy
      have hjn := zclN hj0
      refine r_iload X (by rfl) dX12_digest_262 ?_
      refine r_aload_n X (by rfl) dX12_digest_264 ?_
      refine r_getR X dX12_digest_265 zF_X12_42 (zt hL 38 rfl) (zrf hL 45 rfl) ?_
      refine r_iload_n X (by rfl) dX12_digest_268 ?_
      refine r_iaload X dX12_digest_269 (zt hL 48 rfl) (vp_in_iff.mpr ⟨i0, by omega⟩) ?_
      refine r_icmp_ge X 299 dX12_digest_270 (by decide) (fun h270 => ?_) (fun h270 => ?_)
      · have hyn : y = zDw B ι i.toNatClampNeg h := by
          unfold zDw
          rw [hy, ← e48, show j.toNatClampNeg = (ι1 (B + 48) i.toNatClampNeg).toNatClampNeg by omega]
        refine r_iinc X 1 (by decide) (by rfl) (by decide) dX12_digest_299 ?_
        refine r_goto X 254 dX12_digest_302 (by decide) ?_
        exact zW.loc3 (by rfl) (by rfl) (by rfl) (ih _ _ (by have e := zinc (x := i) (by omega); omega) (by have e := zinc (x := i) (by omega); omega) (by have e := zinc (x := i) (by omega); omega) ⟨K, hK, zHS_s i0 (by omega) hh hyn⟩)
      · refine r_ldc2 X zK_X12_276 dX12_digest_273 ?_
        refine r_lload_n X (by rfl) dX12_digest_276 ?_
        refine r_lmul X dX12_digest_277 ?_
        refine r_aload_n X (by rfl) dX12_digest_278 ?_
        refine r_getR X dX12_digest_279 zF_X12_45 (zt hL 38 rfl) (zrf hL 46 rfl) ?_
        refine r_bipush X 60 (by decide) dX12_digest_282 ?_
        refine r_iload_n X (by rfl) dX12_digest_284 ?_
        refine r_imul X dX12_digest_285 ?_
        refine r_iload X (by rfl) dX12_digest_286 ?_
        refine r_iadd X dX12_digest_288 ?_
        refine r_iaload X dX12_digest_289 (zt hL 49 rfl) (by have e60 := zix60 (x := i) (q := j) i0 (by omega) hj0 (by omega); exact vp_in_iff.mpr ⟨by omega, by omega⟩) ?_
        refine r_i2l X dX12_digest_290 ?_
        refine r_ladd X dX12_digest_291 ?_
        refine r_lstore_n X (by decide) dX12_digest_292 ?_
        refine r_iinc X 1 (by decide) (by rfl) (by decide) dX12_digest_293 ?_
        refine r_goto X 262 dX12_digest_296 (by decide) ?_
        exact zW.loc4 (by rfl) (by rfl) (by rfl) (by rfl) (ih2 _ _ (by have e := zinc (x := j) (by omega); omega) (by have e := zinc (x := j) (by omega); omega) (by have e := zinc (x := j) (by omega); omega) (zHs_s hj0 (by omega) hy (by rw [(zix60 (x := i) (q := j) i0 (by omega) hj0 (by omega)).2, e49])))
    refine r_iload_n X (by rfl) dX12_digest_254 ?_
    refine r_iconst X 2 (by decide) dX12_digest_255 ?_
    refine r_icmp_ge X 305 dX12_digest_256 (by decide) (fun h256 => ?_) (fun h256 => ?_)
    · rw [show Int32.toInt 2 = 2 from rfl] at h256
      refine r_lload_n X (by rfl) dX12_digest_305 ?_
      refine r_lreturn X hR dX12_digest_306 (Nat.zero_le _) (Nat.zero_le _) ?_
      exact ⟨K, _, _, by unfold zG2; rw [hh, show i.toNatClampNeg = 2 by omega], rfl, hf, hM1, hK⟩
    · rw [show Int32.toInt 2 = 2 from rfl] at h256
      refine r_iconst X 0 (by decide) dX12_digest_259 ?_
      refine r_istore X (by decide) dX12_digest_260 ?_
      exact zW.loc4 (by rfl) (by rfl) (by rfl) (by rfl) (L262 h256 61 _ _ (by decide) (by decide) (by rw [show Int32.toInt 0 = 0 from rfl]; exact (g4 i.toNatClampNeg (by omega)).1) (by rfl))
  have L224 : ∀ (ι1 : Nat → Nat → Int32) (κ1 : Nat → Nat → Int64), zFq B ι ι1 → zPsM B c ι1 → zJm B c ι1 → ∀ (m : Nat) (i : Int32) (h : Int64), (12 - i.toInt).toNat < m → 0 ≤ i.toInt → i.toInt ≤ (ι (B + 38) 11).toInt → (∃ K, zKs (zK2 B c ι) 7 K ∧ h = zHs (ι (B + 47)) i.toNatClampNeg (zHS (zDm B ι) c (zHs K 7 349))) → zW E G 5 (z, τ, ρ, ι1, κ1) 0 0 224 [(0, .ref (B + 38)), (1, .long h), (3, .int i)] [] := by
    intro ι1 κ1 hf hM1 ⟨g1, g2, g3, g4, g5⟩ m
    have e47 : ι1 (B + 47) = ι (B + 47) := funext (fun k => hf _ _ (by unfold zCq; omega))
    have e11 : (ι1 (B + 38) 11).toInt = (ι (B + 38) 11).toInt := by rw [hf (B + 38) 11 (by unfold zCq; omega)]
    have g11 : 0 ≤ (ι (B + 38) 11).toInt := by omega
    induction m with
    | zero => intro i h q; omega
    | succ m ih => ?_
    intro i h hm i0 i1 ⟨K, hK, hh⟩
    have hin := zclN i0
    refine r_iload_n X (by rfl) dX12_digest_224 ?_
    refine r_aload_n X (by rfl) dX12_digest_225 ?_
    refine r_getI X dX12_digest_226 zF_X12_218 (zt hL 38 rfl) ?_
    refine r_icmp_ge X 252 dX12_digest_229 (by decide) (fun h229 => ?_) (fun h229 => ?_)
    · refine r_iconst X 0 (by decide) dX12_digest_252 ?_
      refine r_istore_n X (by decide) dX12_digest_253 ?_
      exact zW.loc3 (by rfl) (by rfl) (by rfl) (L254 _ _ hf hM1 ⟨g1, g2, g3, g4, g5⟩ 3 _ _ (by decide) (by decide) (by decide) ⟨K, hK, by rw [zHS_0, zDg, hh, show i.toNatClampNeg = (ι (B + 38) 11).toNatClampNeg by have := zclN g11; omega]⟩)
    · refine r_ldc2 X zK_X12_276 dX12_digest_232 ?_
      refine r_lload_n X (by rfl) dX12_digest_235 ?_
      refine r_lmul X dX12_digest_236 ?_
      refine r_aload_n X (by rfl) dX12_digest_237 ?_
      refine r_getR X dX12_digest_238 zF_X12_39 (zt hL 38 rfl) (zrf hL 44 rfl) ?_
      refine r_iload_n X (by rfl) dX12_digest_241 ?_
      refine r_iaload X dX12_digest_242 (zt hL 47 rfl) (vp_in_iff.mpr ⟨by omega, by omega⟩) ?_
      refine r_i2l X dX12_digest_243 ?_
      refine r_ladd X dX12_digest_244 ?_
      refine r_lstore_n X (by decide) dX12_digest_245 ?_
      refine r_iinc X 1 (by decide) (by rfl) (by decide) dX12_digest_246 ?_
      refine r_goto X 224 dX12_digest_249 (by decide) ?_
      exact zW.loc3 (by rfl) (by rfl) (by rfl) (ih _ _ (by have e := zinc (x := i) (by omega); omega) (by have e := zinc (x := i) (by omega); omega) (by have e := zinc (x := i) (by omega); omega) ⟨K, hK, zHs_s i0 (by omega) hh (by rw [e47])⟩)
  have L33 : ∀ (m : Nat) (i : Int32) (h : Int64) (ι1 : Nat → Nat → Int32) (κ1 : Nat → Nat → Int64), (8 - i.toInt).toNat < m → 0 ≤ i.toInt → i.toInt ≤ (c : Int) → zFq B ι ι1 → zPsM B c ι1 → (∃ K, zKs (zK2 B c ι) 7 K ∧ h = zHS (zDm B ι) i.toNatClampNeg (zHs K 7 349)) → zW E G 5 (z, τ, ρ, ι1, κ1) 0 0 33 [(0, .ref (B + 38)), (1, .long h), (3, .int i)] [] := by
    intro m
    induction m with
    | zero => intro i h ι1 κ1 q; omega
    | succ m ih => ?_
    intro i h ι1 κ1 hm i0 i1 hf hM1 ⟨K, hK, hh⟩
    have hin := zclN i0
    have hst1 : 100 ≤ (ι1 (B + 38) 0).toInt ∧ (ι1 (B + 38) 0).toInt ≤ 50000 := by rw [hf (B + 38) 0 (by unfold zCq; omega)]; exact hst
    have hJ1 := zJ_fq hJ hf
    obtain ⟨-, -, g1, g2, g3, g4, g5⟩ := id hJ1
    have e39 : ι1 (B + 39) = ι (B + 39) := funext (fun k => hf _ _ (by unfold zCq; omega))
    have e40 : ι1 (B + 40) = ι (B + 40) := funext (fun k => hf _ _ (by unfold zCq; omega))
    have e41 : ι1 (B + 41) = ι (B + 41) := funext (fun k => hf _ _ (by unfold zCq; omega))
    have e42 : ι1 (B + 42) = ι (B + 42) := funext (fun k => hf _ _ (by unfold zCq; omega))
    have e43 : ι1 (B + 43) = ι (B + 43) := funext (fun k => hf _ _ (by unfold zCq; omega))
    have e44 : ι1 (B + 44) = ι (B + 44) := funext (fun k => hf _ _ (by unfold zCq; omega))
    have e45 : ι1 (B + 45) = ι (B + 45) := funext (fun k => hf _ _ (by unfold zCq; omega))
    have e46 : ι1 (B + 46) = ι (B + 46) := funext (fun k => hf _ _ (by unfold zCq; omega))
    have L118 : ∀ (hi : i.toInt < (c : Int)) (m2 : Nat) (j : Int32) (y : Int64), (32 - j.toInt).toNat < m2 → 0 ≤ j.toInt → 4 * i.toInt ≤ j.toInt → j.toInt ≤ 4 * i.toInt + (ι1 (B + 43) i.toNatClampNeg).toInt → y = zHp (fun k => ι (B + 44) (4 * i.toNatClampNeg + k)) (fun k => ι (B + 45) (4 * i.toNatClampNeg + k)) (fun k => ι (B + 46) (4 * i.toNatClampNeg + k)) (j.toNatClampNeg - 4 * i.toNatClampNeg) (zHh (zHh (zHh (zHh h (zB1 (ι (B + 39) i.toNatClampNeg))) (ι (B + 40) i.toNatClampNeg)) (ι (B + 41) i.toNatClampNeg)) (zB1 (ι (B + 42) i.toNatClampNeg))) → zW E G 5 (z, τ, ρ, ι1, κ1) 0 0 118 [(0, .ref (B + 38)), (1, .long y), (3, .int i), (4, .int j)] [] := by
      intro hi m2
      obtain ⟨-, -, hsp, -⟩ := g5 i.toNatClampNeg (by omega)
      have hsn := zclN hsp.1
      have e0 := zix0 (x := i) i0 (by omega)
      have e4 := zix (x := i) (q := ι1 (B + 43) i.toNatClampNeg) i0 (by omega) hsp.1 hsp.2
      induction m2 with
      | zero => intro j y q; omega
      | succ m2 ih2 => ?_
      intro j y hm2 hj0 hj1 hj2 hy
      have hjn := zclN hj0
      refine r_iload X (by rfl) dX12_digest_118 ?_
      refine r_iconst X 4 (by decide) dX12_digest_120 ?_
      refine r_iload_n X (by rfl) dX12_digest_121 ?_
      refine r_imul X dX12_digest_122 ?_
      refine r_aload_n X (by rfl) dX12_digest_123 ?_
      refine r_getR X dX12_digest_124 zF_X12_27 (zt hL 38 rfl) (zrf hL 40 rfl) ?_
      refine r_iload_n X (by rfl) dX12_digest_127 ?_
      refine r_iaload X dX12_digest_128 (zt hL 43 rfl) (vp_in_iff.mpr ⟨i0, by omega⟩) ?_
      refine r_iadd X dX12_digest_129 ?_
      refine r_icmp_ge X 184 dX12_digest_130 (by decide) (fun h130 => ?_) (fun h130 => ?_)
      · have hyn : j.toNatClampNeg - 4 * i.toNatClampNeg = (ι1 (B + 43) i.toNatClampNeg).toNatClampNeg := by omega
        have hy2 : y = zSd (ι (B + 39) i.toNatClampNeg) (ι (B + 40) i.toNatClampNeg) (ι (B + 41) i.toNatClampNeg) (ι (B + 42) i.toNatClampNeg) (ι (B + 43) i.toNatClampNeg).toNatClampNeg (fun k => ι (B + 44) (4 * i.toNatClampNeg + k)) (fun k => ι (B + 45) (4 * i.toNatClampNeg + k)) (fun k => ι (B + 46) (4 * i.toNatClampNeg + k)) h := by
          unfold zSd
          rw [hy, hyn, e43]
        refine r_ldc2 X zK_X12_276 dX12_digest_184 ?_
        refine r_lload_n X (by rfl) dX12_digest_187 ?_
        refine r_lmul X dX12_digest_188 ?_
        refine r_aload_n X (by rfl) dX12_digest_189 ?_
        refine r_iload_n X (by rfl) dX12_digest_190 ?_
        refine r_sipush X 200 (by decide) dX12_digest_191 ?_
        refine r_callV X dX12_digest_194 zLV_X12_182 zCd_X12_placeOf (e2_X12_placeOf _ G z τ ρ _ _ hL hJ1 _ ⟨i0, hi⟩ _ (by decide) hst1 hM1) (zt hL 38 rfl) ⟨by decide, rfl, rfl⟩ rfl rfl ⟨⟨rfl, rfl⟩, ⟨by decide, by decide⟩, ⟨Nat.le_of_ble_eq_true rfl, Nat.le_of_ble_eq_true rfl⟩, Nat.le_of_ble_eq_true rfl⟩ ?_
        rintro _ _ ⟨ι2, κ2, rfl, rfl, hq2, hM2⟩
        rw [zPm_fq hf]
        refine r_i2l X dX12_digest_197 ?_
        refine r_ladd X dX12_digest_198 ?_
        refine r_lstore_n X (by decide) dX12_digest_199 ?_
        refine r_ldc2 X zK_X12_276 dX12_digest_200 ?_
        refine r_lload_n X (by rfl) dX12_digest_203 ?_
        refine r_lmul X dX12_digest_204 ?_
        refine r_aload_n X (by rfl) dX12_digest_205 ?_
        refine r_iload_n X (by rfl) dX12_digest_206 ?_
        refine r_sipush X 300 (by decide) dX12_digest_207 ?_
        refine r_callV X dX12_digest_210 zLV_X12_182 zCd_X12_placeOf (e2_X12_placeOf _ G z τ ρ _ _ hL (zJ_fq hJ1 hq2) _ ⟨i0, hi⟩ _ (by decide) (by rw [hq2 _ _ (by unfold zCq; omega)]; exact hst1) hM2) (zt hL 38 rfl) ⟨by decide, rfl, rfl⟩ rfl rfl ⟨⟨rfl, rfl⟩, ⟨by decide, by decide⟩, ⟨Nat.le_of_ble_eq_true rfl, Nat.le_of_ble_eq_true rfl⟩, Nat.le_of_ble_eq_true rfl⟩ ?_
        rintro _ _ ⟨ι3, κ3, rfl, rfl, hq3, hM3⟩
        rw [zPm_fq (hf.tr hq2)]
        refine r_i2l X dX12_digest_213 ?_
        refine r_ladd X dX12_digest_214 ?_
        refine r_lstore_n X (by decide) dX12_digest_215 ?_
        refine r_iinc X 1 (by decide) (by rfl) (by decide) dX12_digest_216 ?_
        refine r_goto X 33 dX12_digest_219 (by decide) ?_
        exact zW.loc3 (by rfl) (by rfl) (by rfl) (ih _ _ _ _ (by have e := zinc (x := i) (by omega); omega) (by have e := zinc (x := i) (by omega); omega) (by have e := zinc (x := i) (by omega); omega) ((hf.tr hq2).tr hq3) hM3 ⟨K, hK, zHS_s i0 (by omega) hh (by unfold zDm; rw [zofn i0, ← hy2]; rfl)⟩)
      · refine r_ldc2 X zK_X12_276 dX12_digest_133 ?_
        refine r_lload_n X (by rfl) dX12_digest_136 ?_
        refine r_lmul X dX12_digest_137 ?_
        refine r_aload_n X (by rfl) dX12_digest_138 ?_
        refine r_getR X dX12_digest_139 zF_X12_30 (zt hL 38 rfl) (zrf hL 41 rfl) ?_
        refine r_iload X (by rfl) dX12_digest_142 ?_
        refine r_iaload X dX12_digest_144 (zt hL 44 rfl) (vp_in_iff.mpr ⟨by omega, by omega⟩) ?_
        refine r_i2l X dX12_digest_145 ?_
        refine r_ladd X dX12_digest_146 ?_
        refine r_lstore_n X (by decide) dX12_digest_147 ?_
        refine r_ldc2 X zK_X12_276 dX12_digest_148 ?_
        refine r_lload_n X (by rfl) dX12_digest_151 ?_
        refine r_lmul X dX12_digest_152 ?_
        refine r_aload_n X (by rfl) dX12_digest_153 ?_
        refine r_getR X dX12_digest_154 zF_X12_33 (zt hL 38 rfl) (zrf hL 42 rfl) ?_
        refine r_iload X (by rfl) dX12_digest_157 ?_
        refine r_iaload X dX12_digest_159 (zt hL 45 rfl) (vp_in_iff.mpr ⟨by omega, by omega⟩) ?_
        refine r_i2l X dX12_digest_160 ?_
        refine r_ladd X dX12_digest_161 ?_
        refine r_lstore_n X (by decide) dX12_digest_162 ?_
        refine r_ldc2 X zK_X12_276 dX12_digest_163 ?_
        refine r_lload_n X (by rfl) dX12_digest_166 ?_
        refine r_lmul X dX12_digest_167 ?_
        refine r_aload_n X (by rfl) dX12_digest_168 ?_
        refine r_getR X dX12_digest_169 zF_X12_36 (zt hL 38 rfl) (zrf hL 43 rfl) ?_
        refine r_iload X (by rfl) dX12_digest_172 ?_
        refine r_iaload X dX12_digest_174 (zt hL 46 rfl) (vp_in_iff.mpr ⟨by omega, by omega⟩) ?_
        refine r_i2l X dX12_digest_175 ?_
        refine r_ladd X dX12_digest_176 ?_
        refine r_lstore_n X (by decide) dX12_digest_177 ?_
        refine r_iinc X 1 (by decide) (by rfl) (by decide) dX12_digest_178 ?_
        refine r_goto X 118 dX12_digest_181 (by decide) ?_
        exact zW.loc4 (by rfl) (by rfl) (by rfl) (by rfl) (ih2 _ _ (by have e := zinc (x := j) (by omega); omega) (by have e := zinc (x := j) (by omega); omega) (by have e := zinc (x := j) (by omega); omega) (by have e := zinc (x := j) (by omega); omega) (by have e := zinc (x := j) (by omega); have e5 := zclN (i := j + 1) (by omega); rw [show (j + 1).toNatClampNeg - 4 * i.toNatClampNeg = j.toNatClampNeg - 4 * i.toNatClampNeg + 1 by omega]; exact zHp_s hy (by rw [e44]; exact congrArg (ι (B + 44)) (show j.toNatClampNeg = 4 * i.toNatClampNeg + (j.toNatClampNeg - 4 * i.toNatClampNeg) by omega)) (by rw [e45]; exact congrArg (ι (B + 45)) (show j.toNatClampNeg = 4 * i.toNatClampNeg + (j.toNatClampNeg - 4 * i.toNatClampNeg) by omega)) (by rw [e46]; exact congrArg (ι (B + 46)) (show j.toNatClampNeg = 4 * i.toNatClampNeg + (j.toNatClampNeg - 4 * i.toNatClampNeg) by omega))))
    refine r_iload_n X (by rfl) dX12_digest_33 ?_
    refine r_aload_n X (by rfl) dX12_digest_34 ?_
    refine r_getI X dX12_digest_35 zF_X12_160 (zt hL 38 rfl) ?_
    refine r_icmp_ge X 222 dX12_digest_38 (by decide) (fun h38 => ?_) (fun h38 => ?_)
    · refine r_iconst X 0 (by decide) dX12_digest_222 ?_
      refine r_istore_n X (by decide) dX12_digest_223 ?_
      exact zW.loc3 (by rfl) (by rfl) (by rfl) (L224 _ _ hf hM1 ⟨g1, g2, g3, g4, g5⟩ 13 _ _ (by decide) (by decide) (by rw [show Int32.toInt 0 = 0 from rfl, ← hf (B + 38) 11 (by unfold zCq; omega)]; exact g2.1) ⟨K, hK, by rw [zHs_0, hh, show i.toNatClampNeg = c by omega]⟩)
    · refine r_ldc2 X zK_X12_276 dX12_digest_41 ?_
      refine r_lload_n X (by rfl) dX12_digest_44 ?_
      refine r_lmul X dX12_digest_45 ?_
      refine r_aload_n X (by rfl) dX12_digest_46 ?_
      refine r_getR X dX12_digest_47 zF_X12_13 (zt hL 38 rfl) (zrf hL 36 rfl) ?_
      refine r_iload_n X (by rfl) dX12_digest_50 ?_
      refine r_zaload X dX12_digest_51 (zt hL 39 rfl) (vp_in_iff.mpr ⟨by omega, by omega⟩) ?_
      refine r_if_eq X 59 dX12_digest_52 (by decide) (fun h52 => ?_) (fun h52 => ?_)
      · refine r_iconst X 0 (by decide) dX12_digest_59 ?_
        refine r_i2l X dX12_digest_60 ?_
        refine r_ladd X dX12_digest_61 ?_
        refine r_lstore_n X (by decide) dX12_digest_62 ?_
        refine r_ldc2 X zK_X12_276 dX12_digest_63 ?_
        refine r_lload_n X (by rfl) dX12_digest_66 ?_
        refine r_lmul X dX12_digest_67 ?_
        refine r_aload_n X (by rfl) dX12_digest_68 ?_
        refine r_getR X dX12_digest_69 zF_X12_17 (zt hL 38 rfl) (zrf hL 37 rfl) ?_
        refine r_iload_n X (by rfl) dX12_digest_72 ?_
        refine r_iaload X dX12_digest_73 (zt hL 40 rfl) (vp_in_iff.mpr ⟨by omega, by omega⟩) ?_
        refine r_i2l X dX12_digest_74 ?_
        refine r_ladd X dX12_digest_75 ?_
        refine r_lstore_n X (by decide) dX12_digest_76 ?_
        refine r_ldc2 X zK_X12_276 dX12_digest_77 ?_
        refine r_lload_n X (by rfl) dX12_digest_80 ?_
        refine r_lmul X dX12_digest_81 ?_
        refine r_aload_n X (by rfl) dX12_digest_82 ?_
        refine r_getR X dX12_digest_83 zF_X12_21 (zt hL 38 rfl) (zrf hL 38 rfl) ?_
        refine r_iload_n X (by rfl) dX12_digest_86 ?_
        refine r_iaload X dX12_digest_87 (zt hL 41 rfl) (vp_in_iff.mpr ⟨by omega, by omega⟩) ?_
        refine r_i2l X dX12_digest_88 ?_
        refine r_ladd X dX12_digest_89 ?_
        refine r_lstore_n X (by decide) dX12_digest_90 ?_
        refine r_ldc2 X zK_X12_276 dX12_digest_91 ?_
        refine r_lload_n X (by rfl) dX12_digest_94 ?_
        refine r_lmul X dX12_digest_95 ?_
        refine r_aload_n X (by rfl) dX12_digest_96 ?_
        refine r_getR X dX12_digest_97 zF_X12_24 (zt hL 38 rfl) (zrf hL 39 rfl) ?_
        refine r_iload_n X (by rfl) dX12_digest_100 ?_
        refine r_zaload X dX12_digest_101 (zt hL 42 rfl) (vp_in_iff.mpr ⟨by omega, by omega⟩) ?_
        refine r_if_eq X 109 dX12_digest_102 (by decide) (fun h102 => ?_) (fun h102 => ?_)
        · refine r_iconst X 0 (by decide) dX12_digest_109 ?_
          refine r_i2l X dX12_digest_110 ?_
          refine r_ladd X dX12_digest_111 ?_
          refine r_lstore_n X (by decide) dX12_digest_112 ?_
          refine r_iconst X 4 (by decide) dX12_digest_113 ?_
          refine r_iload_n X (by rfl) dX12_digest_114 ?_
          refine r_imul X dX12_digest_115 ?_
          refine r_istore X (by decide) dX12_digest_116 ?_
          exact zW.loc4 (by rfl) (by rfl) (by rfl) (by rfl) (L118 (by omega) 33 _ _ (by have e0 := zix0 (x := i) i0 (by omega); omega) (by have e0 := zix0 (x := i) i0 (by omega); omega) (by have e0 := zix0 (x := i) i0 (by omega); omega) (by have e0 := zix0 (x := i) i0 (by omega); have g := (g5 i.toNatClampNeg (by omega)).2.2.1; omega) (by have e0 := zix0 (x := i) i0 (by omega); rw [show (4 * i).toNatClampNeg - 4 * i.toNatClampNeg = 0 by omega]; show _ = (zHh (zHh (zHh (zHh h (zB1 (ι (B + 39) i.toNatClampNeg))) (ι (B + 40) i.toNatClampNeg)) (ι (B + 41) i.toNatClampNeg)) (zB1 (ι (B + 42) i.toNatClampNeg))); have a := h52; have b := h102; rw [e39] at a; rw [e42] at b; rw [e40, e41]; unfold zB1 zHh; first | rw [if_pos a, if_pos b] | rw [if_pos a, if_neg b] | rw [if_neg a, if_pos b] | rw [if_neg a, if_neg b]))
        · refine r_iconst X 1 (by decide) dX12_digest_105 ?_
          refine r_goto X 110 dX12_digest_106 (by decide) ?_
          refine r_i2l X dX12_digest_110 ?_
          refine r_ladd X dX12_digest_111 ?_
          refine r_lstore_n X (by decide) dX12_digest_112 ?_
          refine r_iconst X 4 (by decide) dX12_digest_113 ?_
          refine r_iload_n X (by rfl) dX12_digest_114 ?_
          refine r_imul X dX12_digest_115 ?_
          refine r_istore X (by decide) dX12_digest_116 ?_
          exact zW.loc4 (by rfl) (by rfl) (by rfl) (by rfl) (L118 (by omega) 33 _ _ (by have e0 := zix0 (x := i) i0 (by omega); omega) (by have e0 := zix0 (x := i) i0 (by omega); omega) (by have e0 := zix0 (x := i) i0 (by omega); omega) (by have e0 := zix0 (x := i) i0 (by omega); have g := (g5 i.toNatClampNeg (by omega)).2.2.1; omega) (by have e0 := zix0 (x := i) i0 (by omega); rw [show (4 * i).toNatClampNeg - 4 * i.toNatClampNeg = 0 by omega]; show _ = (zHh (zHh (zHh (zHh h (zB1 (ι (B + 39) i.toNatClampNeg))) (ι (B + 40) i.toNatClampNeg)) (ι (B + 41) i.toNatClampNeg)) (zB1 (ι (B + 42) i.toNatClampNeg))); have a := h52; have b := h102; rw [e39] at a; rw [e42] at b; rw [e40, e41]; unfold zB1 zHh; first | rw [if_pos a, if_pos b] | rw [if_pos a, if_neg b] | rw [if_neg a, if_pos b] | rw [if_neg a, if_neg b]))
      · refine r_iconst X 1 (by decide) dX12_digest_55 ?_
        refine r_goto X 60 dX12_digest_56 (by decide) ?_
        refine r_i2l X dX12_digest_60 ?_
        refine r_ladd X dX12_digest_61 ?_
        refine r_lstore_n X (by decide) dX12_digest_62 ?_
        refine r_ldc2 X zK_X12_276 dX12_digest_63 ?_
        refine r_lload_n X (by rfl) dX12_digest_66 ?_
        refine r_lmul X dX12_digest_67 ?_
        refine r_aload_n X (by rfl) dX12_digest_68 ?_
        refine r_getR X dX12_digest_69 zF_X12_17 (zt hL 38 rfl) (zrf hL 37 rfl) ?_
        refine r_iload_n X (by rfl) dX12_digest_72 ?_
        refine r_iaload X dX12_digest_73 (zt hL 40 rfl) (vp_in_iff.mpr ⟨by omega, by omega⟩) ?_
        refine r_i2l X dX12_digest_74 ?_
        refine r_ladd X dX12_digest_75 ?_
        refine r_lstore_n X (by decide) dX12_digest_76 ?_
        refine r_ldc2 X zK_X12_276 dX12_digest_77 ?_
        refine r_lload_n X (by rfl) dX12_digest_80 ?_
        refine r_lmul X dX12_digest_81 ?_
        refine r_aload_n X (by rfl) dX12_digest_82 ?_
        refine r_getR X dX12_digest_83 zF_X12_21 (zt hL 38 rfl) (zrf hL 38 rfl) ?_
        refine r_iload_n X (by rfl) dX12_digest_86 ?_
        refine r_iaload X dX12_digest_87 (zt hL 41 rfl) (vp_in_iff.mpr ⟨by omega, by omega⟩) ?_
        refine r_i2l X dX12_digest_88 ?_
        refine r_ladd X dX12_digest_89 ?_
        refine r_lstore_n X (by decide) dX12_digest_90 ?_
        refine r_ldc2 X zK_X12_276 dX12_digest_91 ?_
        refine r_lload_n X (by rfl) dX12_digest_94 ?_
        refine r_lmul X dX12_digest_95 ?_
        refine r_aload_n X (by rfl) dX12_digest_96 ?_
        refine r_getR X dX12_digest_97 zF_X12_24 (zt hL 38 rfl) (zrf hL 39 rfl) ?_
        refine r_iload_n X (by rfl) dX12_digest_100 ?_
        refine r_zaload X dX12_digest_101 (zt hL 42 rfl) (vp_in_iff.mpr ⟨by omega, by omega⟩) ?_
        refine r_if_eq X 109 dX12_digest_102 (by decide) (fun h102 => ?_) (fun h102 => ?_)
        · refine r_iconst X 0 (by decide) dX12_digest_109 ?_
          refine r_i2l X dX12_digest_110 ?_
          refine r_ladd X dX12_digest_111 ?_
          refine r_lstore_n X (by decide) dX12_digest_112 ?_
          refine r_iconst X 4 (by decide) dX12_digest_113 ?_
          refine r_iload_n X (by rfl) dX12_digest_114 ?_
          refine r_imul X dX12_digest_115 ?_
          refine r_istore X (by decide) dX12_digest_116 ?_
          exact zW.loc4 (by rfl) (by rfl) (by rfl) (by rfl) (L118 (by omega) 33 _ _ (by have e0 := zix0 (x := i) i0 (by omega); omega) (by have e0 := zix0 (x := i) i0 (by omega); omega) (by have e0 := zix0 (x := i) i0 (by omega); omega) (by have e0 := zix0 (x := i) i0 (by omega); have g := (g5 i.toNatClampNeg (by omega)).2.2.1; omega) (by have e0 := zix0 (x := i) i0 (by omega); rw [show (4 * i).toNatClampNeg - 4 * i.toNatClampNeg = 0 by omega]; show _ = (zHh (zHh (zHh (zHh h (zB1 (ι (B + 39) i.toNatClampNeg))) (ι (B + 40) i.toNatClampNeg)) (ι (B + 41) i.toNatClampNeg)) (zB1 (ι (B + 42) i.toNatClampNeg))); have a := h52; have b := h102; rw [e39] at a; rw [e42] at b; rw [e40, e41]; unfold zB1 zHh; first | rw [if_pos a, if_pos b] | rw [if_pos a, if_neg b] | rw [if_neg a, if_pos b] | rw [if_neg a, if_neg b]))
        · refine r_iconst X 1 (by decide) dX12_digest_105 ?_
          refine r_goto X 110 dX12_digest_106 (by decide) ?_
          refine r_i2l X dX12_digest_110 ?_
          refine r_ladd X dX12_digest_111 ?_
          refine r_lstore_n X (by decide) dX12_digest_112 ?_
          refine r_iconst X 4 (by decide) dX12_digest_113 ?_
          refine r_iload_n X (by rfl) dX12_digest_114 ?_
          refine r_imul X dX12_digest_115 ?_
          refine r_istore X (by decide) dX12_digest_116 ?_
          exact zW.loc4 (by rfl) (by rfl) (by rfl) (by rfl) (L118 (by omega) 33 _ _ (by have e0 := zix0 (x := i) i0 (by omega); omega) (by have e0 := zix0 (x := i) i0 (by omega); omega) (by have e0 := zix0 (x := i) i0 (by omega); omega) (by have e0 := zix0 (x := i) i0 (by omega); have g := (g5 i.toNatClampNeg (by omega)).2.2.1; omega) (by have e0 := zix0 (x := i) i0 (by omega); rw [show (4 * i).toNatClampNeg - 4 * i.toNatClampNeg = 0 by omega]; show _ = (zHh (zHh (zHh (zHh h (zB1 (ι (B + 39) i.toNatClampNeg))) (ι (B + 40) i.toNatClampNeg)) (ι (B + 41) i.toNatClampNeg)) (zB1 (ι (B + 42) i.toNatClampNeg))); have a := h52; have b := h102; rw [e39] at a; rw [e42] at b; rw [e40, e41]; unfold zB1 zHh; first | rw [if_pos a, if_pos b] | rw [if_pos a, if_neg b] | rw [if_neg a, if_pos b] | rw [if_neg a, if_neg b]))
  have L6 : ∀ (m : Nat) (i : Int32) (h : Int64), (7 - i.toInt).toNat < m → 0 ≤ i.toInt → i.toInt ≤ 7 → (∃ K, zKs (zK2 B c ι) i.toInt K ∧ h = zHs K i.toNatClampNeg 349) → zW E G 5 (z, τ, ρ, ι, κ) 0 0 6 [(0, .ref (B + 38)), (1, .long h), (3, .int i)] [] := by
    intro m
    induction m with
    | zero => intro i h q; omega
    | succ m ih => ?_
    intro i h hm i0 i1 ⟨K, hK, hh⟩
    refine r_iload_n X (by rfl) dX12_digest_6 ?_
    refine r_bipush X 7 (by decide) dX12_digest_7 ?_
    refine r_icmp_ge X 31 dX12_digest_9 (by decide) (fun h9 => ?_) (fun h9 => ?_)
    · rw [show Int32.toInt 7 = 7 from rfl] at h9
      refine r_iconst X 0 (by decide) dX12_digest_31 ?_
      refine r_istore_n X (by decide) dX12_digest_32 ?_
      exact zW.loc3 (by rfl) (by rfl) (by rfl) (L33 9 _ _ _ _ (by decide) (by decide) (by rw [show Int32.toInt 0 = 0 from rfl]; omega) zFq.rfl hM ⟨K, by rw [show i.toInt = 7 by omega] at hK; exact hK, by rw [zHS_0, hh, show i.toNatClampNeg = 7 by have := zclN i0; omega]⟩)
    · rw [show Int32.toInt 7 = 7 from rfl] at h9
      refine r_ldc2 X zK_X12_276 dX12_digest_12 ?_
      refine r_lload_n X (by rfl) dX12_digest_15 ?_
      refine r_lmul X dX12_digest_16 ?_
      refine r_aload_n X (by rfl) dX12_digest_17 ?_
      refine r_iload_n X (by rfl) dX12_digest_18 ?_
      refine r_callV X dX12_digest_19 zLV_X12_278 zCd_X12_count (e2_X12_count _ G z τ ρ _ _ hL hJ _) (zt hL 38 rfl) ⟨by decide, rfl, rfl⟩ rfl rfl ⟨⟨rfl, rfl⟩, ⟨by decide, by decide⟩, ⟨Nat.le_of_ble_eq_true rfl, Nat.le_of_ble_eq_true rfl⟩, Nat.le_of_ble_eq_true rfl⟩ ?_
      rintro _ _ ⟨r1, rfl, rfl, hr1⟩
      refine r_i2l X dX12_digest_22 ?_
      refine r_ladd X dX12_digest_23 ?_
      refine r_lstore_n X (by decide) dX12_digest_24 ?_
      refine r_iinc X 1 (by decide) (by rfl) (by decide) dX12_digest_25 ?_
      refine r_goto X 6 dX12_digest_28 (by decide) ?_
      exact zW.loc3 (by rfl) (by rfl) (by rfl) (ih _ _ (by have e := zinc (x := i) (by omega); omega) (by have e := zinc (x := i) (by omega); omega) (by have e := zinc (x := i) (by omega); omega) (zKs_s i0 (by omega) hK hh hr1))
  refine r_ldc2 X zK_X12_274 dX12_digest_0 ?_
  refine r_lstore_n X (by decide) dX12_digest_3 ?_
  refine r_iconst X 0 (by decide) dX12_digest_4 ?_
  refine r_istore_n X (by decide) dX12_digest_5 ?_
  exact zW.loc3 (by rfl) (by rfl) (by rfl) (L6 8 _ _ (by decide) (by decide) (by decide) ⟨fun _ => 0, fun x x0 x1 => by rw [show Int32.toInt 0 = 0 from rfl] at x1; omega, by rfl⟩)
