/-! the model: settings (wip/gen/spec_k.py) -/
set_option maxHeartbeats 4000000 in
set_option maxRecDepth 100000 in
theorem c_X12_setting (l : Launch) (G : zG) (z : Nat) (τ : Nat → Option (Nat × Nat)) (ρ : Nat → Nat → Option Nat) (ι : Nat → Nat → Int32) (κ : Nat → Nat → Int64) {B c : Nat} (hL : zLay τ ρ B c) (hJ : zJ B c ι) (x y u w : Int32) : zM l G yX12_setting cX12_setting 18 (some .int) ({ frames := 2, cells := 0, slots := 0, locals := 49 } : Room) [.ref (B + 38), .int x, .int y, .int u, .int w] (z, τ, ρ, ι, κ) (fun v s => ∃ r ι2 κ2, v = some (.int r) ∧ s = (z, τ, ρ, ι2, κ2) ∧ zFm B ι ι2) 0 0 := by
  refine zM_of zCd_X12_setting (Nat.le_of_ble_eq_true rfl) ?_
  intro E X hR hE
  subst hE
  show zW E G 18 (z, τ, ρ, ι, κ) 0 0 0 [(0, .ref (B + 38)), (1, .int x), (2, .int y), (3, .int u), (4, .int w)] []
  have hwl := w.toInt_lt
  have L66 : ∀ (L : Nat → Nat) (hb : ∀ k, L k ≤ 999) (hB : ∀ k, k < 65 → (k ≤ 32 + 3 * L k ∧ 32 ≤ k + 3 * L k) ∧ (24 ≤ k → k ≤ 40 → L k ≤ 10 ∨ L k = 999)) (ι1 : Nat → Nat → Int32) (hf : zFm B ι ι1) (hV : ∀ k, k < 65 → (ι1 (B + 61) k).toInt = ((L k : Nat) : Int)) (r0 : Int32) (hw : 0 ≤ w.toInt) (hwr : w.toInt < r0.toInt) (hr9 : r0.toInt ≤ 30) (m : Nat) (k p q v d r : Int32) (lp lq lv : Nat), (40 - k.toInt).toNat < m → 0 ≤ k.toInt → r.toInt = r0.toInt - k.toInt → (zLk L p lp ∧ lp ≤ 10 ∧ ((-8 ≤ p.toInt ∧ p.toInt ≤ 8) ∨ lp ≤ 9) ∧ -27 ≤ p.toInt ∧ p.toInt ≤ 27) → (zLk L q lq ∧ lq ≤ 10 ∧ ((-8 ≤ q.toInt ∧ q.toInt ≤ 8) ∨ lq ≤ 9) ∧ -27 ≤ q.toInt ∧ q.toInt ≤ 27) → (zLk L v lv ∧ lv ≤ 10 ∧ ((-8 ≤ v.toInt ∧ v.toInt ≤ 8) ∨ lv ≤ 9) ∧ -27 ≤ v.toInt ∧ v.toInt ≤ 27) → r.toInt ≤ ((lp + lq + lv : Nat) : Int) → zW E G 18 (z, τ, ρ, ι1, κ) 0 0 66 [(0, .ref (B + 38)), (1, .int x), (2, .int y), (3, .int u), (4, .int w), (5, .int r), (6, .int p), (7, .int q), (8, .int v), (9, .int d), (10, .int k)] [] := by
    intro L hb hB ι1 hf hV r0 hw hwr hr9 m
    induction m with
    | zero => intro k p q v d r lp lq lv h; omega
    | succ m ih => ?_
    intro k p q v d r lp lq lv hm hk0 hr i1 i2 i3 hs
    have L79 : ∀ (hkw : k.toInt ≤ w.toInt) (m2 : Nat) (n d p q v : Int32) (lp lq lv : Nat), (125 - n.toInt).toNat < m2 → 1 ≤ n.toInt → n.toInt ≤ 124 → (zLk L p lp ∧ lp ≤ 10 ∧ ((-8 ≤ p.toInt ∧ p.toInt ≤ 8) ∨ lp ≤ 9) ∧ -27 ≤ p.toInt ∧ p.toInt ≤ 27) → (zLk L q lq ∧ lq ≤ 10 ∧ ((-8 ≤ q.toInt ∧ q.toInt ≤ 8) ∨ lq ≤ 9) ∧ -27 ≤ q.toInt ∧ q.toInt ≤ 27) → (zLk L v lv ∧ lv ≤ 10 ∧ ((-8 ≤ v.toInt ∧ v.toInt ≤ 8) ∨ lv ≤ 9) ∧ -27 ≤ v.toInt ∧ v.toInt ≤ 27) → (d.toInt < 0 → r.toInt ≤ ((lp + lq + lv : Nat) : Int)) → r.toInt - 1 ≤ ((lp + lq + lv : Nat) : Int) → zW E G 18 (z, τ, ρ, ι1, κ) 0 0 79 [(0, .ref (B + 38)), (1, .int x), (2, .int y), (3, .int u), (4, .int w), (5, .int r), (6, .int p), (7, .int q), (8, .int v), (9, .int d), (10, .int k), (11, .int n)] [] := by
      intro hkw m2
      induction m2 with
      | zero => intro n d p q v lp lq lv h; omega
      | succ m2 ih2 => ?_
      intro n d p q v lp lq lv hm2 hn0 hn1 j1 j2 j3 hs1 hs2
      refine r_iload X (by rfl) dX12_setting_79 ?_
      refine r_bipush X 124 (by decide) dX12_setting_81 ?_
      refine r_icmp_ge X 250 dX12_setting_83 (by decide) (fun h83 => ?_) (fun h83 => ?_)
      · rw [show Int32.toInt 124 = 124 from rfl] at h83
        have ek := zinc (x := k) (by omega)
        obtain ⟨r9, hr9', er⟩ : ∃ r9, r + -1 = r9 ∧ r9.toInt = r.toInt - 1 := ⟨_, rfl, zdec1 (by omega)⟩
        refine r_iinc X (-1) (by decide) (by rfl) (by decide) dX12_setting_250 ?_
        rw [hr9']
        refine r_iinc X 1 (by decide) (by rfl) (by decide) dX12_setting_253 ?_
        refine r_goto X 66 dX12_setting_256 (by decide) ?_
        exact zW.loc11 (by rfl) (by rfl) (by rfl) (by rfl) (by rfl) (by rfl) (by rfl) (by rfl) (by rfl) (by rfl) (by rfl) (ih _ _ _ _ _ _ _ _ _ (by rw [ek]; omega) (by rw [ek]; omega) (by rw [er, ek, hr]; omega) j1 j2 j3 (by rw [er]; omega))
      · rw [show Int32.toInt 124 = 124 from rfl] at h83
        refine r_iload X (by rfl) dX12_setting_86 ?_
        refine r_if_ge X 250 dX12_setting_88 (by decide) (fun h88 => ?_) (fun h88 => ?_)
        · have ek := zinc (x := k) (by omega)
          obtain ⟨r9, hr9', er⟩ : ∃ r9, r + -1 = r9 ∧ r9.toInt = r.toInt - 1 := ⟨_, rfl, zdec1 (by omega)⟩
          refine r_iinc X (-1) (by decide) (by rfl) (by decide) dX12_setting_250 ?_
          rw [hr9']
          refine r_iinc X 1 (by decide) (by rfl) (by decide) dX12_setting_253 ?_
          refine r_goto X 66 dX12_setting_256 (by decide) ?_
          exact zW.loc11 (by rfl) (by rfl) (by rfl) (by rfl) (by rfl) (by rfl) (by rfl) (by rfl) (by rfl) (by rfl) (by rfl) (ih _ _ _ _ _ _ _ _ _ (by rw [ek]; omega) (by rw [ek]; omega) (by rw [er, ek, hr]; omega) j1 j2 j3 (by rw [er]; omega))
        · have ei := zinc (x := n) (by omega)
          have q1 : (125 - (n + 1).toInt).toNat < m2 := by rw [ei]; omega
          have q2 : 1 ≤ (n + 1).toInt := by rw [ei]; omega
          have q3 : (n + 1).toInt ≤ 124 := by rw [ei]; omega
          clear ei
          have er1 := zsub1 (x := r) (by omega)
          obtain ⟨s, hs_, s0, s1⟩ := zrm10 (x := n) (by omega)
          obtain ⟨t, ht_, t0⟩ := zrm100 (x := n) (by omega)
          refine r_iload X (by rfl) dX12_setting_91 ?_
          refine r_bipush X 10 (by decide) dX12_setting_93 ?_
          refine r_irem X (by decide) dX12_setting_95 ?_
          rw [hs_]
          refine r_istore X (by decide) dX12_setting_96 ?_
          refine r_iload X (by rfl) dX12_setting_98 ?_
          refine r_bipush X 10 (by decide) dX12_setting_100 ?_
          refine r_idiv X (by decide) dX12_setting_102 ?_
          refine r_bipush X 10 (by decide) dX12_setting_103 ?_
          refine r_irem X (by decide) dX12_setting_105 ?_
          rw [ht_]
          refine r_istore X (by decide) dX12_setting_106 ?_
          refine r_iload X (by rfl) dX12_setting_108 ?_
          refine r_bipush X 100 (by decide) dX12_setting_110 ?_
          refine r_icmp_ge X 119 dX12_setting_112 (by decide) (fun h112 => ?_) (fun h112 => ?_)
          · rw [show Int32.toInt 100 = 100 from rfl] at h112
            refine r_iconst X (-1) (by decide) dX12_setting_119 ?_
            refine r_istore X (by decide) dX12_setting_120 ?_
            refine r_iload X (by rfl) dX12_setting_122 ?_
            refine r_i2l X dX12_setting_124 ?_
            refine r_lconst X 1 (by decide) dX12_setting_125 ?_
            refine r_ldc2 X zK_X12_171 dX12_setting_126 ?_
            refine r_callS X dX12_setting_129 zLS_X12_163 zCd_X12_in (c_X12_in _ G z τ ρ _ _ _ _ _) rfl rfl ⟨⟨rfl, rfl⟩, ⟨by decide, by decide⟩, ⟨Nat.le_of_ble_eq_true rfl, Nat.le_of_ble_eq_true rfl⟩, Nat.le_of_ble_eq_true rfl⟩ ?_
            rintro _ _ ⟨rfl, rfl⟩
            rw [Int32.toInt_toInt64, show Int64.toInt 1 = 1 from rfl, show Int64.toInt 3 = 3 from rfl]
            refine r_if_eq X 244 dX12_setting_132 (by decide) (fun h132 => ?_) (fun h132 => ?_)
            · refine r_iinc X 1 (by decide) (by rfl) (by decide) dX12_setting_244 ?_
              refine r_goto X 79 dX12_setting_247 (by decide) ?_
              exact zW.loc12 (by rfl) (by rfl) (by rfl) (by rfl) (by rfl) (by rfl) (by rfl) (by rfl) (by rfl) (by rfl) (by rfl) (by rfl) (ih2 _ _ _ _ _ _ _ _ q1 q2 q3 (by first | exact n1 | exact j1) (by first | exact n2 | exact j2) (by first | exact n3 | exact j3) (by first | exact nd | exact hs1) (by first | exact ns | exact hs2))
            · refine r_iload X (by rfl) dX12_setting_135 ?_
              refine r_iconst X 3 (by decide) dX12_setting_137 ?_
              refine r_icmp_ge X 244 dX12_setting_138 (by decide) (fun h138 => ?_) (fun h138 => ?_)
              · rw [show Int32.toInt 3 = 3 from rfl] at h138
                refine r_iinc X 1 (by decide) (by rfl) (by decide) dX12_setting_244 ?_
                refine r_goto X 79 dX12_setting_247 (by decide) ?_
                exact zW.loc12 (by rfl) (by rfl) (by rfl) (by rfl) (by rfl) (by rfl) (by rfl) (by rfl) (by rfl) (by rfl) (by rfl) (by rfl) (ih2 _ _ _ _ _ _ _ _ q1 q2 q3 (by first | exact n1 | exact j1) (by first | exact n2 | exact j2) (by first | exact n3 | exact j3) (by first | exact nd | exact hs1) (by first | exact ns | exact hs2))
              · rw [show Int32.toInt 3 = 3 from rfl] at h138
                refine r_aload_n X (by rfl) dX12_setting_141 ?_
                refine r_iload X (by rfl) dX12_setting_142 ?_
                refine r_iload X (by rfl) dX12_setting_144 ?_
                refine r_callV X dX12_setting_146 zLV_X12_241 zCd_X12_lets (c_X12_lets _ G z τ ρ _ _ hL (zJ_fm hJ hf) _ _) (zt hL 38 rfl) ⟨by decide, rfl, rfl⟩ rfl rfl ⟨⟨rfl, rfl⟩, ⟨by decide, by decide⟩, ⟨Nat.le_of_ble_eq_true rfl, Nat.le_of_ble_eq_true rfl⟩, Nat.le_of_ble_eq_true rfl⟩ ?_
                rintro _ _ ⟨rfl, rfl⟩
                refine r_if_eq X 244 dX12_setting_149 (by decide) (fun h149 => ?_) (fun h149 => ?_)
                · refine r_iinc X 1 (by decide) (by rfl) (by decide) dX12_setting_244 ?_
                  refine r_goto X 79 dX12_setting_247 (by decide) ?_
                  exact zW.loc12 (by rfl) (by rfl) (by rfl) (by rfl) (by rfl) (by rfl) (by rfl) (by rfl) (by rfl) (by rfl) (by rfl) (by rfl) (ih2 _ _ _ _ _ _ _ _ q1 q2 q3 (by first | exact n1 | exact j1) (by first | exact n2 | exact j2) (by first | exact n3 | exact j3) (by first | exact nd | exact hs1) (by first | exact ns | exact hs2))
                · have hs3 := zif1 h132
                  refine r_iload X (by rfl) dX12_setting_152 ?_
                  refine r_iload X (by rfl) dX12_setting_154 ?_
                  refine r_if_ne X 167 dX12_setting_156 (by decide) (fun h156 => ?_) (fun h156 => ?_)
                  · refine r_iconst X 0 (by decide) dX12_setting_167 ?_
                    refine r_isub X dX12_setting_168 ?_
                    first | (obtain ⟨x5, hx5, ex5⟩ := zst_a (p := p) (s := s) (by omega) (by omega) (by omega); rw [hx5]) | (obtain ⟨x5, hx5, ex5⟩ := zst_b (p := p) (s := s) (by omega) (by omega) (by omega); rw [hx5]) | rw [Int32.sub_zero]
                    refine r_istore X (by decide) dX12_setting_169 ?_
                    refine r_iload X (by rfl) dX12_setting_171 ?_
                    refine r_iload X (by rfl) dX12_setting_173 ?_
                    refine r_iconst X 1 (by decide) dX12_setting_175 ?_
                    refine r_icmp_ne X 187 dX12_setting_176 (by decide) (fun h176 => ?_) (fun h176 => ?_)
                    · refine r_iconst X 0 (by decide) dX12_setting_187 ?_
                      refine r_isub X dX12_setting_188 ?_
                      first | (obtain ⟨x6, hx6, ex6⟩ := zst_a (p := q) (s := s) (by omega) (by omega) (by omega); rw [hx6]) | (obtain ⟨x6, hx6, ex6⟩ := zst_b (p := q) (s := s) (by omega) (by omega) (by omega); rw [hx6]) | rw [Int32.sub_zero]
                      refine r_istore X (by decide) dX12_setting_189 ?_
                      refine r_iload X (by rfl) dX12_setting_191 ?_
                      refine r_iload X (by rfl) dX12_setting_193 ?_
                      refine r_iconst X 2 (by decide) dX12_setting_195 ?_
                      refine r_icmp_ne X 207 dX12_setting_196 (by decide) (fun h196 => ?_) (fun h196 => ?_)
                      · exact (zt3 t0 (by omega) h156 h176 h196).elim
                      · refine r_iload X (by rfl) dX12_setting_199 ?_
                        refine r_iload X (by rfl) dX12_setting_201 ?_
                        refine r_imul X dX12_setting_203 ?_
                        refine r_goto X 208 dX12_setting_204 (by decide) ?_
                        refine r_isub X dX12_setting_208 ?_
                        first | (obtain ⟨x7, hx7, ex7⟩ := zst_a (p := v) (s := s) (by omega) (by omega) (by omega); rw [hx7]) | (obtain ⟨x7, hx7, ex7⟩ := zst_b (p := v) (s := s) (by omega) (by omega) (by omega); rw [hx7]) | rw [Int32.sub_zero]
                        refine r_istore X (by decide) dX12_setting_209 ?_
                        refine zW.loc18 (i0 := 0) (i1 := 1) (i2 := 2) (i3 := 3) (i4 := 4) (i5 := 5) (i6 := 6) (i7 := 7) (i8 := 8) (i9 := 9) (i10 := 10) (i11 := 11) (i12 := 12) (i13 := 13) (i14 := 14) (i15 := 15) (i16 := 16) (i17 := 17) (by rfl) (by rfl) (by rfl) (by rfl) (by rfl) (by rfl) (by rfl) (by rfl) (by rfl) (by rfl) (by rfl) (by rfl) (by rfl) (by rfl) (by rfl) (by rfl) (by rfl) (by rfl)  ?_
                        obtain ⟨l5, hl5⟩ : ∃ l5, zLk L x7 l5 := ⟨_, rfl⟩
                        refine r_aload_n X (by rfl) dX12_setting_211 ?_
                        refine r_iload X (by rfl) dX12_setting_212 ?_
                        refine r_iload X (by rfl) dX12_setting_214 ?_
                        refine r_iload X (by rfl) dX12_setting_216 ?_
                        refine r_callV X dX12_setting_218 zLV_X12_255 zCd_X12_leastTo (c_X12_leastTo _ G z τ ρ _ _ hL _ _ _ (by omega) (by omega) (by omega) _ hV hb _ _ _ (by first | exact hl5 | exact j1.1) (by first | exact hl5 | exact j2.1) (by first | exact hl5 | exact j3.1)) (zt hL 38 rfl) ⟨by decide, rfl, rfl⟩ rfl rfl ⟨⟨rfl, rfl⟩, ⟨by decide, by decide⟩, ⟨Nat.le_of_ble_eq_true rfl, Nat.le_of_ble_eq_true rfl⟩, Nat.le_of_ble_eq_true rfl⟩ ?_
                        rintro _ _ ⟨r3, rfl, hr31, hr32, rfl⟩
                        refine r_iload X (by rfl) dX12_setting_221 ?_
                        refine r_iconst X 1 (by decide) dX12_setting_223 ?_
                        refine r_isub X dX12_setting_224 ?_
                        refine r_icmp_ne X 244 dX12_setting_225 (by decide) (fun h225 => ?_) (fun h225 => ?_)
                        · refine r_iinc X 1 (by decide) (by rfl) (by decide) dX12_setting_244 ?_
                          refine r_goto X 79 dX12_setting_247 (by decide) ?_
                          exact zW.loc12 (by rfl) (by rfl) (by rfl) (by rfl) (by rfl) (by rfl) (by rfl) (by rfl) (by rfl) (by rfl) (by rfl) (by rfl) (ih2 _ _ _ _ _ _ _ _ q1 q2 q3 (by first | exact n1 | exact j1) (by first | exact n2 | exact j2) (by first | exact n3 | exact j3) (by first | exact nd | exact hs1) (by first | exact ns | exact hs2))
                        · have e225 := congrArg Int32.toInt h225
                          rw [er1] at e225
                          have hsm : lp + lq + l5 < 999 := Nat.lt_of_not_le (fun h => by have := hr32 h; omega)
                          have hsv := hr31 hsm
                          have hs1' := hs1 h88
                          have hB5 := (hB (32 + x7.toInt).toNat (by omega)).1
                          rw [show L (32 + x7.toInt).toNat = l5 from hl5] at hB5
                          have n3 : (zLk L x7 l5 ∧ l5 ≤ 10 ∧ ((-8 ≤ x7.toInt ∧ x7.toInt ≤ 8) ∨ l5 ≤ 9) ∧ -27 ≤ x7.toInt ∧ x7.toInt ≤ 27) := ⟨hl5, by omega, Or.inr (by omega), by omega, by omega⟩
                          have ns : r.toInt - 1 ≤ ((lp + lq + l5 : Nat) : Int) := by omega
                          have nd : n.toInt < 0 → r.toInt ≤ ((lp + lq + l5 : Nat) : Int) := fun h => by omega
                          refine r_iload X (by rfl) dX12_setting_228 ?_
                          refine r_istore X (by decide) dX12_setting_230 ?_
                          refine r_iload X (by rfl) dX12_setting_232 ?_
                          refine r_istore X (by decide) dX12_setting_234 ?_
                          refine r_iload X (by rfl) dX12_setting_236 ?_
                          refine r_istore X (by decide) dX12_setting_238 ?_
                          refine r_iload X (by rfl) dX12_setting_240 ?_
                          refine r_istore X (by decide) dX12_setting_242 ?_
                          refine r_iinc X 1 (by decide) (by rfl) (by decide) dX12_setting_244 ?_
                          refine r_goto X 79 dX12_setting_247 (by decide) ?_
                          exact zW.loc12 (by rfl) (by rfl) (by rfl) (by rfl) (by rfl) (by rfl) (by rfl) (by rfl) (by rfl) (by rfl) (by rfl) (by rfl) (ih2 _ _ _ _ _ _ _ _ q1 q2 q3 (by first | exact n1 | exact j1) (by first | exact n2 | exact j2) (by first | exact n3 | exact j3) (by first | exact nd | exact hs1) (by first | exact ns | exact hs2))
                    · refine r_iload X (by rfl) dX12_setting_179 ?_
                      refine r_iload X (by rfl) dX12_setting_181 ?_
                      refine r_imul X dX12_setting_183 ?_
                      refine r_goto X 188 dX12_setting_184 (by decide) ?_
                      refine r_isub X dX12_setting_188 ?_
                      first | (obtain ⟨x6, hx6, ex6⟩ := zst_a (p := q) (s := s) (by omega) (by omega) (by omega); rw [hx6]) | (obtain ⟨x6, hx6, ex6⟩ := zst_b (p := q) (s := s) (by omega) (by omega) (by omega); rw [hx6]) | rw [Int32.sub_zero]
                      refine r_istore X (by decide) dX12_setting_189 ?_
                      refine r_iload X (by rfl) dX12_setting_191 ?_
                      refine r_iload X (by rfl) dX12_setting_193 ?_
                      refine r_iconst X 2 (by decide) dX12_setting_195 ?_
                      refine r_icmp_ne X 207 dX12_setting_196 (by decide) (fun h196 => ?_) (fun h196 => ?_)
                      · refine r_iconst X 0 (by decide) dX12_setting_207 ?_
                        refine r_isub X dX12_setting_208 ?_
                        first | (obtain ⟨x7, hx7, ex7⟩ := zst_a (p := v) (s := s) (by omega) (by omega) (by omega); rw [hx7]) | (obtain ⟨x7, hx7, ex7⟩ := zst_b (p := v) (s := s) (by omega) (by omega) (by omega); rw [hx7]) | rw [Int32.sub_zero]
                        refine r_istore X (by decide) dX12_setting_209 ?_
                        refine zW.loc18 (i0 := 0) (i1 := 1) (i2 := 2) (i3 := 3) (i4 := 4) (i5 := 5) (i6 := 6) (i7 := 7) (i8 := 8) (i9 := 9) (i10 := 10) (i11 := 11) (i12 := 12) (i13 := 13) (i14 := 14) (i15 := 15) (i16 := 16) (i17 := 17) (by rfl) (by rfl) (by rfl) (by rfl) (by rfl) (by rfl) (by rfl) (by rfl) (by rfl) (by rfl) (by rfl) (by rfl) (by rfl) (by rfl) (by rfl) (by rfl) (by rfl) (by rfl)  ?_
                        obtain ⟨l5, hl5⟩ : ∃ l5, zLk L x6 l5 := ⟨_, rfl⟩
                        refine r_aload_n X (by rfl) dX12_setting_211 ?_
                        refine r_iload X (by rfl) dX12_setting_212 ?_
                        refine r_iload X (by rfl) dX12_setting_214 ?_
                        refine r_iload X (by rfl) dX12_setting_216 ?_
                        refine r_callV X dX12_setting_218 zLV_X12_255 zCd_X12_leastTo (c_X12_leastTo _ G z τ ρ _ _ hL _ _ _ (by omega) (by omega) (by omega) _ hV hb _ _ _ (by first | exact hl5 | exact j1.1) (by first | exact hl5 | exact j2.1) (by first | exact hl5 | exact j3.1)) (zt hL 38 rfl) ⟨by decide, rfl, rfl⟩ rfl rfl ⟨⟨rfl, rfl⟩, ⟨by decide, by decide⟩, ⟨Nat.le_of_ble_eq_true rfl, Nat.le_of_ble_eq_true rfl⟩, Nat.le_of_ble_eq_true rfl⟩ ?_
                        rintro _ _ ⟨r3, rfl, hr31, hr32, rfl⟩
                        refine r_iload X (by rfl) dX12_setting_221 ?_
                        refine r_iconst X 1 (by decide) dX12_setting_223 ?_
                        refine r_isub X dX12_setting_224 ?_
                        refine r_icmp_ne X 244 dX12_setting_225 (by decide) (fun h225 => ?_) (fun h225 => ?_)
                        · refine r_iinc X 1 (by decide) (by rfl) (by decide) dX12_setting_244 ?_
                          refine r_goto X 79 dX12_setting_247 (by decide) ?_
                          exact zW.loc12 (by rfl) (by rfl) (by rfl) (by rfl) (by rfl) (by rfl) (by rfl) (by rfl) (by rfl) (by rfl) (by rfl) (by rfl) (ih2 _ _ _ _ _ _ _ _ q1 q2 q3 (by first | exact n1 | exact j1) (by first | exact n2 | exact j2) (by first | exact n3 | exact j3) (by first | exact nd | exact hs1) (by first | exact ns | exact hs2))
                        · have e225 := congrArg Int32.toInt h225
                          rw [er1] at e225
                          have hsm : lp + l5 + lv < 999 := Nat.lt_of_not_le (fun h => by have := hr32 h; omega)
                          have hsv := hr31 hsm
                          have hs1' := hs1 h88
                          have hB5 := (hB (32 + x6.toInt).toNat (by omega)).1
                          rw [show L (32 + x6.toInt).toNat = l5 from hl5] at hB5
                          have n2 : (zLk L x6 l5 ∧ l5 ≤ 10 ∧ ((-8 ≤ x6.toInt ∧ x6.toInt ≤ 8) ∨ l5 ≤ 9) ∧ -27 ≤ x6.toInt ∧ x6.toInt ≤ 27) := ⟨hl5, by omega, Or.inr (by omega), by omega, by omega⟩
                          have ns : r.toInt - 1 ≤ ((lp + l5 + lv : Nat) : Int) := by omega
                          have nd : n.toInt < 0 → r.toInt ≤ ((lp + l5 + lv : Nat) : Int) := fun h => by omega
                          refine r_iload X (by rfl) dX12_setting_228 ?_
                          refine r_istore X (by decide) dX12_setting_230 ?_
                          refine r_iload X (by rfl) dX12_setting_232 ?_
                          refine r_istore X (by decide) dX12_setting_234 ?_
                          refine r_iload X (by rfl) dX12_setting_236 ?_
                          refine r_istore X (by decide) dX12_setting_238 ?_
                          refine r_iload X (by rfl) dX12_setting_240 ?_
                          refine r_istore X (by decide) dX12_setting_242 ?_
                          refine r_iinc X 1 (by decide) (by rfl) (by decide) dX12_setting_244 ?_
                          refine r_goto X 79 dX12_setting_247 (by decide) ?_
                          exact zW.loc12 (by rfl) (by rfl) (by rfl) (by rfl) (by rfl) (by rfl) (by rfl) (by rfl) (by rfl) (by rfl) (by rfl) (by rfl) (ih2 _ _ _ _ _ _ _ _ q1 q2 q3 (by first | exact n1 | exact j1) (by first | exact n2 | exact j2) (by first | exact n3 | exact j3) (by first | exact nd | exact hs1) (by first | exact ns | exact hs2))
                      · exact absurd (h176.symm.trans h196) (by decide)
                  · refine r_iload X (by rfl) dX12_setting_159 ?_
                    refine r_iload X (by rfl) dX12_setting_161 ?_
                    refine r_imul X dX12_setting_163 ?_
                    refine r_goto X 168 dX12_setting_164 (by decide) ?_
                    refine r_isub X dX12_setting_168 ?_
                    first | (obtain ⟨x5, hx5, ex5⟩ := zst_a (p := p) (s := s) (by omega) (by omega) (by omega); rw [hx5]) | (obtain ⟨x5, hx5, ex5⟩ := zst_b (p := p) (s := s) (by omega) (by omega) (by omega); rw [hx5]) | rw [Int32.sub_zero]
                    refine r_istore X (by decide) dX12_setting_169 ?_
                    refine r_iload X (by rfl) dX12_setting_171 ?_
                    refine r_iload X (by rfl) dX12_setting_173 ?_
                    refine r_iconst X 1 (by decide) dX12_setting_175 ?_
                    refine r_icmp_ne X 187 dX12_setting_176 (by decide) (fun h176 => ?_) (fun h176 => ?_)
                    · refine r_iconst X 0 (by decide) dX12_setting_187 ?_
                      refine r_isub X dX12_setting_188 ?_
                      first | (obtain ⟨x6, hx6, ex6⟩ := zst_a (p := q) (s := s) (by omega) (by omega) (by omega); rw [hx6]) | (obtain ⟨x6, hx6, ex6⟩ := zst_b (p := q) (s := s) (by omega) (by omega) (by omega); rw [hx6]) | rw [Int32.sub_zero]
                      refine r_istore X (by decide) dX12_setting_189 ?_
                      refine r_iload X (by rfl) dX12_setting_191 ?_
                      refine r_iload X (by rfl) dX12_setting_193 ?_
                      refine r_iconst X 2 (by decide) dX12_setting_195 ?_
                      refine r_icmp_ne X 207 dX12_setting_196 (by decide) (fun h196 => ?_) (fun h196 => ?_)
                      · refine r_iconst X 0 (by decide) dX12_setting_207 ?_
                        refine r_isub X dX12_setting_208 ?_
                        first | (obtain ⟨x7, hx7, ex7⟩ := zst_a (p := v) (s := s) (by omega) (by omega) (by omega); rw [hx7]) | (obtain ⟨x7, hx7, ex7⟩ := zst_b (p := v) (s := s) (by omega) (by omega) (by omega); rw [hx7]) | rw [Int32.sub_zero]
                        refine r_istore X (by decide) dX12_setting_209 ?_
                        refine zW.loc18 (i0 := 0) (i1 := 1) (i2 := 2) (i3 := 3) (i4 := 4) (i5 := 5) (i6 := 6) (i7 := 7) (i8 := 8) (i9 := 9) (i10 := 10) (i11 := 11) (i12 := 12) (i13 := 13) (i14 := 14) (i15 := 15) (i16 := 16) (i17 := 17) (by rfl) (by rfl) (by rfl) (by rfl) (by rfl) (by rfl) (by rfl) (by rfl) (by rfl) (by rfl) (by rfl) (by rfl) (by rfl) (by rfl) (by rfl) (by rfl) (by rfl) (by rfl)  ?_
                        obtain ⟨l5, hl5⟩ : ∃ l5, zLk L x5 l5 := ⟨_, rfl⟩
                        refine r_aload_n X (by rfl) dX12_setting_211 ?_
                        refine r_iload X (by rfl) dX12_setting_212 ?_
                        refine r_iload X (by rfl) dX12_setting_214 ?_
                        refine r_iload X (by rfl) dX12_setting_216 ?_
                        refine r_callV X dX12_setting_218 zLV_X12_255 zCd_X12_leastTo (c_X12_leastTo _ G z τ ρ _ _ hL _ _ _ (by omega) (by omega) (by omega) _ hV hb _ _ _ (by first | exact hl5 | exact j1.1) (by first | exact hl5 | exact j2.1) (by first | exact hl5 | exact j3.1)) (zt hL 38 rfl) ⟨by decide, rfl, rfl⟩ rfl rfl ⟨⟨rfl, rfl⟩, ⟨by decide, by decide⟩, ⟨Nat.le_of_ble_eq_true rfl, Nat.le_of_ble_eq_true rfl⟩, Nat.le_of_ble_eq_true rfl⟩ ?_
                        rintro _ _ ⟨r3, rfl, hr31, hr32, rfl⟩
                        refine r_iload X (by rfl) dX12_setting_221 ?_
                        refine r_iconst X 1 (by decide) dX12_setting_223 ?_
                        refine r_isub X dX12_setting_224 ?_
                        refine r_icmp_ne X 244 dX12_setting_225 (by decide) (fun h225 => ?_) (fun h225 => ?_)
                        · refine r_iinc X 1 (by decide) (by rfl) (by decide) dX12_setting_244 ?_
                          refine r_goto X 79 dX12_setting_247 (by decide) ?_
                          exact zW.loc12 (by rfl) (by rfl) (by rfl) (by rfl) (by rfl) (by rfl) (by rfl) (by rfl) (by rfl) (by rfl) (by rfl) (by rfl) (ih2 _ _ _ _ _ _ _ _ q1 q2 q3 (by first | exact n1 | exact j1) (by first | exact n2 | exact j2) (by first | exact n3 | exact j3) (by first | exact nd | exact hs1) (by first | exact ns | exact hs2))
                        · have e225 := congrArg Int32.toInt h225
                          rw [er1] at e225
                          have hsm : l5 + lq + lv < 999 := Nat.lt_of_not_le (fun h => by have := hr32 h; omega)
                          have hsv := hr31 hsm
                          have hs1' := hs1 h88
                          have hB5 := (hB (32 + x5.toInt).toNat (by omega)).1
                          rw [show L (32 + x5.toInt).toNat = l5 from hl5] at hB5
                          have n1 : (zLk L x5 l5 ∧ l5 ≤ 10 ∧ ((-8 ≤ x5.toInt ∧ x5.toInt ≤ 8) ∨ l5 ≤ 9) ∧ -27 ≤ x5.toInt ∧ x5.toInt ≤ 27) := ⟨hl5, by omega, Or.inr (by omega), by omega, by omega⟩
                          have ns : r.toInt - 1 ≤ ((l5 + lq + lv : Nat) : Int) := by omega
                          have nd : n.toInt < 0 → r.toInt ≤ ((l5 + lq + lv : Nat) : Int) := fun h => by omega
                          refine r_iload X (by rfl) dX12_setting_228 ?_
                          refine r_istore X (by decide) dX12_setting_230 ?_
                          refine r_iload X (by rfl) dX12_setting_232 ?_
                          refine r_istore X (by decide) dX12_setting_234 ?_
                          refine r_iload X (by rfl) dX12_setting_236 ?_
                          refine r_istore X (by decide) dX12_setting_238 ?_
                          refine r_iload X (by rfl) dX12_setting_240 ?_
                          refine r_istore X (by decide) dX12_setting_242 ?_
                          refine r_iinc X 1 (by decide) (by rfl) (by decide) dX12_setting_244 ?_
                          refine r_goto X 79 dX12_setting_247 (by decide) ?_
                          exact zW.loc12 (by rfl) (by rfl) (by rfl) (by rfl) (by rfl) (by rfl) (by rfl) (by rfl) (by rfl) (by rfl) (by rfl) (by rfl) (ih2 _ _ _ _ _ _ _ _ q1 q2 q3 (by first | exact n1 | exact j1) (by first | exact n2 | exact j2) (by first | exact n3 | exact j3) (by first | exact nd | exact hs1) (by first | exact ns | exact hs2))
                      · exact absurd (h156.symm.trans h196) (by decide)
                    · exact absurd (h156.symm.trans h176) (by decide)
          · rw [show Int32.toInt 100 = 100 from rfl] at h112
            refine r_iconst X 1 (by decide) dX12_setting_115 ?_
            refine r_goto X 120 dX12_setting_116 (by decide) ?_
            refine r_istore X (by decide) dX12_setting_120 ?_
            refine r_iload X (by rfl) dX12_setting_122 ?_
            refine r_i2l X dX12_setting_124 ?_
            refine r_lconst X 1 (by decide) dX12_setting_125 ?_
            refine r_ldc2 X zK_X12_171 dX12_setting_126 ?_
            refine r_callS X dX12_setting_129 zLS_X12_163 zCd_X12_in (c_X12_in _ G z τ ρ _ _ _ _ _) rfl rfl ⟨⟨rfl, rfl⟩, ⟨by decide, by decide⟩, ⟨Nat.le_of_ble_eq_true rfl, Nat.le_of_ble_eq_true rfl⟩, Nat.le_of_ble_eq_true rfl⟩ ?_
            rintro _ _ ⟨rfl, rfl⟩
            rw [Int32.toInt_toInt64, show Int64.toInt 1 = 1 from rfl, show Int64.toInt 3 = 3 from rfl]
            refine r_if_eq X 244 dX12_setting_132 (by decide) (fun h132 => ?_) (fun h132 => ?_)
            · refine r_iinc X 1 (by decide) (by rfl) (by decide) dX12_setting_244 ?_
              refine r_goto X 79 dX12_setting_247 (by decide) ?_
              exact zW.loc12 (by rfl) (by rfl) (by rfl) (by rfl) (by rfl) (by rfl) (by rfl) (by rfl) (by rfl) (by rfl) (by rfl) (by rfl) (ih2 _ _ _ _ _ _ _ _ q1 q2 q3 (by first | exact n1 | exact j1) (by first | exact n2 | exact j2) (by first | exact n3 | exact j3) (by first | exact nd | exact hs1) (by first | exact ns | exact hs2))
            · refine r_iload X (by rfl) dX12_setting_135 ?_
              refine r_iconst X 3 (by decide) dX12_setting_137 ?_
              refine r_icmp_ge X 244 dX12_setting_138 (by decide) (fun h138 => ?_) (fun h138 => ?_)
              · rw [show Int32.toInt 3 = 3 from rfl] at h138
                refine r_iinc X 1 (by decide) (by rfl) (by decide) dX12_setting_244 ?_
                refine r_goto X 79 dX12_setting_247 (by decide) ?_
                exact zW.loc12 (by rfl) (by rfl) (by rfl) (by rfl) (by rfl) (by rfl) (by rfl) (by rfl) (by rfl) (by rfl) (by rfl) (by rfl) (ih2 _ _ _ _ _ _ _ _ q1 q2 q3 (by first | exact n1 | exact j1) (by first | exact n2 | exact j2) (by first | exact n3 | exact j3) (by first | exact nd | exact hs1) (by first | exact ns | exact hs2))
              · rw [show Int32.toInt 3 = 3 from rfl] at h138
                refine r_aload_n X (by rfl) dX12_setting_141 ?_
                refine r_iload X (by rfl) dX12_setting_142 ?_
                refine r_iload X (by rfl) dX12_setting_144 ?_
                refine r_callV X dX12_setting_146 zLV_X12_241 zCd_X12_lets (c_X12_lets _ G z τ ρ _ _ hL (zJ_fm hJ hf) _ _) (zt hL 38 rfl) ⟨by decide, rfl, rfl⟩ rfl rfl ⟨⟨rfl, rfl⟩, ⟨by decide, by decide⟩, ⟨Nat.le_of_ble_eq_true rfl, Nat.le_of_ble_eq_true rfl⟩, Nat.le_of_ble_eq_true rfl⟩ ?_
                rintro _ _ ⟨rfl, rfl⟩
                refine r_if_eq X 244 dX12_setting_149 (by decide) (fun h149 => ?_) (fun h149 => ?_)
                · refine r_iinc X 1 (by decide) (by rfl) (by decide) dX12_setting_244 ?_
                  refine r_goto X 79 dX12_setting_247 (by decide) ?_
                  exact zW.loc12 (by rfl) (by rfl) (by rfl) (by rfl) (by rfl) (by rfl) (by rfl) (by rfl) (by rfl) (by rfl) (by rfl) (by rfl) (ih2 _ _ _ _ _ _ _ _ q1 q2 q3 (by first | exact n1 | exact j1) (by first | exact n2 | exact j2) (by first | exact n3 | exact j3) (by first | exact nd | exact hs1) (by first | exact ns | exact hs2))
                · have hs3 := zif1 h132
                  refine r_iload X (by rfl) dX12_setting_152 ?_
                  refine r_iload X (by rfl) dX12_setting_154 ?_
                  refine r_if_ne X 167 dX12_setting_156 (by decide) (fun h156 => ?_) (fun h156 => ?_)
                  · refine r_iconst X 0 (by decide) dX12_setting_167 ?_
                    refine r_isub X dX12_setting_168 ?_
                    first | (obtain ⟨x5, hx5, ex5⟩ := zst_a (p := p) (s := s) (by omega) (by omega) (by omega); rw [hx5]) | (obtain ⟨x5, hx5, ex5⟩ := zst_b (p := p) (s := s) (by omega) (by omega) (by omega); rw [hx5]) | rw [Int32.sub_zero]
                    refine r_istore X (by decide) dX12_setting_169 ?_
                    refine r_iload X (by rfl) dX12_setting_171 ?_
                    refine r_iload X (by rfl) dX12_setting_173 ?_
                    refine r_iconst X 1 (by decide) dX12_setting_175 ?_
                    refine r_icmp_ne X 187 dX12_setting_176 (by decide) (fun h176 => ?_) (fun h176 => ?_)
                    · refine r_iconst X 0 (by decide) dX12_setting_187 ?_
                      refine r_isub X dX12_setting_188 ?_
                      first | (obtain ⟨x6, hx6, ex6⟩ := zst_a (p := q) (s := s) (by omega) (by omega) (by omega); rw [hx6]) | (obtain ⟨x6, hx6, ex6⟩ := zst_b (p := q) (s := s) (by omega) (by omega) (by omega); rw [hx6]) | rw [Int32.sub_zero]
                      refine r_istore X (by decide) dX12_setting_189 ?_
                      refine r_iload X (by rfl) dX12_setting_191 ?_
                      refine r_iload X (by rfl) dX12_setting_193 ?_
                      refine r_iconst X 2 (by decide) dX12_setting_195 ?_
                      refine r_icmp_ne X 207 dX12_setting_196 (by decide) (fun h196 => ?_) (fun h196 => ?_)
                      · exact (zt3 t0 (by omega) h156 h176 h196).elim
                      · refine r_iload X (by rfl) dX12_setting_199 ?_
                        refine r_iload X (by rfl) dX12_setting_201 ?_
                        refine r_imul X dX12_setting_203 ?_
                        refine r_goto X 208 dX12_setting_204 (by decide) ?_
                        refine r_isub X dX12_setting_208 ?_
                        first | (obtain ⟨x7, hx7, ex7⟩ := zst_a (p := v) (s := s) (by omega) (by omega) (by omega); rw [hx7]) | (obtain ⟨x7, hx7, ex7⟩ := zst_b (p := v) (s := s) (by omega) (by omega) (by omega); rw [hx7]) | rw [Int32.sub_zero]
                        refine r_istore X (by decide) dX12_setting_209 ?_
                        refine zW.loc18 (i0 := 0) (i1 := 1) (i2 := 2) (i3 := 3) (i4 := 4) (i5 := 5) (i6 := 6) (i7 := 7) (i8 := 8) (i9 := 9) (i10 := 10) (i11 := 11) (i12 := 12) (i13 := 13) (i14 := 14) (i15 := 15) (i16 := 16) (i17 := 17) (by rfl) (by rfl) (by rfl) (by rfl) (by rfl) (by rfl) (by rfl) (by rfl) (by rfl) (by rfl) (by rfl) (by rfl) (by rfl) (by rfl) (by rfl) (by rfl) (by rfl) (by rfl)  ?_
                        obtain ⟨l5, hl5⟩ : ∃ l5, zLk L x7 l5 := ⟨_, rfl⟩
                        refine r_aload_n X (by rfl) dX12_setting_211 ?_
                        refine r_iload X (by rfl) dX12_setting_212 ?_
                        refine r_iload X (by rfl) dX12_setting_214 ?_
                        refine r_iload X (by rfl) dX12_setting_216 ?_
                        refine r_callV X dX12_setting_218 zLV_X12_255 zCd_X12_leastTo (c_X12_leastTo _ G z τ ρ _ _ hL _ _ _ (by omega) (by omega) (by omega) _ hV hb _ _ _ (by first | exact hl5 | exact j1.1) (by first | exact hl5 | exact j2.1) (by first | exact hl5 | exact j3.1)) (zt hL 38 rfl) ⟨by decide, rfl, rfl⟩ rfl rfl ⟨⟨rfl, rfl⟩, ⟨by decide, by decide⟩, ⟨Nat.le_of_ble_eq_true rfl, Nat.le_of_ble_eq_true rfl⟩, Nat.le_of_ble_eq_true rfl⟩ ?_
                        rintro _ _ ⟨r3, rfl, hr31, hr32, rfl⟩
                        refine r_iload X (by rfl) dX12_setting_221 ?_
                        refine r_iconst X 1 (by decide) dX12_setting_223 ?_
                        refine r_isub X dX12_setting_224 ?_
                        refine r_icmp_ne X 244 dX12_setting_225 (by decide) (fun h225 => ?_) (fun h225 => ?_)
                        · refine r_iinc X 1 (by decide) (by rfl) (by decide) dX12_setting_244 ?_
                          refine r_goto X 79 dX12_setting_247 (by decide) ?_
                          exact zW.loc12 (by rfl) (by rfl) (by rfl) (by rfl) (by rfl) (by rfl) (by rfl) (by rfl) (by rfl) (by rfl) (by rfl) (by rfl) (ih2 _ _ _ _ _ _ _ _ q1 q2 q3 (by first | exact n1 | exact j1) (by first | exact n2 | exact j2) (by first | exact n3 | exact j3) (by first | exact nd | exact hs1) (by first | exact ns | exact hs2))
                        · have e225 := congrArg Int32.toInt h225
                          rw [er1] at e225
                          have hsm : lp + lq + l5 < 999 := Nat.lt_of_not_le (fun h => by have := hr32 h; omega)
                          have hsv := hr31 hsm
                          have hs1' := hs1 h88
                          have hB5 := (hB (32 + x7.toInt).toNat (by omega)).1
                          rw [show L (32 + x7.toInt).toNat = l5 from hl5] at hB5
                          have n3 : (zLk L x7 l5 ∧ l5 ≤ 10 ∧ ((-8 ≤ x7.toInt ∧ x7.toInt ≤ 8) ∨ l5 ≤ 9) ∧ -27 ≤ x7.toInt ∧ x7.toInt ≤ 27) := ⟨hl5, by omega, Or.inr (by omega), by omega, by omega⟩
                          have ns : r.toInt - 1 ≤ ((lp + lq + l5 : Nat) : Int) := by omega
                          have nd : n.toInt < 0 → r.toInt ≤ ((lp + lq + l5 : Nat) : Int) := fun h => by omega
                          refine r_iload X (by rfl) dX12_setting_228 ?_
                          refine r_istore X (by decide) dX12_setting_230 ?_
                          refine r_iload X (by rfl) dX12_setting_232 ?_
                          refine r_istore X (by decide) dX12_setting_234 ?_
                          refine r_iload X (by rfl) dX12_setting_236 ?_
                          refine r_istore X (by decide) dX12_setting_238 ?_
                          refine r_iload X (by rfl) dX12_setting_240 ?_
                          refine r_istore X (by decide) dX12_setting_242 ?_
                          refine r_iinc X 1 (by decide) (by rfl) (by decide) dX12_setting_244 ?_
                          refine r_goto X 79 dX12_setting_247 (by decide) ?_
                          exact zW.loc12 (by rfl) (by rfl) (by rfl) (by rfl) (by rfl) (by rfl) (by rfl) (by rfl) (by rfl) (by rfl) (by rfl) (by rfl) (ih2 _ _ _ _ _ _ _ _ q1 q2 q3 (by first | exact n1 | exact j1) (by first | exact n2 | exact j2) (by first | exact n3 | exact j3) (by first | exact nd | exact hs1) (by first | exact ns | exact hs2))
                    · refine r_iload X (by rfl) dX12_setting_179 ?_
                      refine r_iload X (by rfl) dX12_setting_181 ?_
                      refine r_imul X dX12_setting_183 ?_
                      refine r_goto X 188 dX12_setting_184 (by decide) ?_
                      refine r_isub X dX12_setting_188 ?_
                      first | (obtain ⟨x6, hx6, ex6⟩ := zst_a (p := q) (s := s) (by omega) (by omega) (by omega); rw [hx6]) | (obtain ⟨x6, hx6, ex6⟩ := zst_b (p := q) (s := s) (by omega) (by omega) (by omega); rw [hx6]) | rw [Int32.sub_zero]
                      refine r_istore X (by decide) dX12_setting_189 ?_
                      refine r_iload X (by rfl) dX12_setting_191 ?_
                      refine r_iload X (by rfl) dX12_setting_193 ?_
                      refine r_iconst X 2 (by decide) dX12_setting_195 ?_
                      refine r_icmp_ne X 207 dX12_setting_196 (by decide) (fun h196 => ?_) (fun h196 => ?_)
                      · refine r_iconst X 0 (by decide) dX12_setting_207 ?_
                        refine r_isub X dX12_setting_208 ?_
                        first | (obtain ⟨x7, hx7, ex7⟩ := zst_a (p := v) (s := s) (by omega) (by omega) (by omega); rw [hx7]) | (obtain ⟨x7, hx7, ex7⟩ := zst_b (p := v) (s := s) (by omega) (by omega) (by omega); rw [hx7]) | rw [Int32.sub_zero]
                        refine r_istore X (by decide) dX12_setting_209 ?_
                        refine zW.loc18 (i0 := 0) (i1 := 1) (i2 := 2) (i3 := 3) (i4 := 4) (i5 := 5) (i6 := 6) (i7 := 7) (i8 := 8) (i9 := 9) (i10 := 10) (i11 := 11) (i12 := 12) (i13 := 13) (i14 := 14) (i15 := 15) (i16 := 16) (i17 := 17) (by rfl) (by rfl) (by rfl) (by rfl) (by rfl) (by rfl) (by rfl) (by rfl) (by rfl) (by rfl) (by rfl) (by rfl) (by rfl) (by rfl) (by rfl) (by rfl) (by rfl) (by rfl)  ?_
                        obtain ⟨l5, hl5⟩ : ∃ l5, zLk L x6 l5 := ⟨_, rfl⟩
                        refine r_aload_n X (by rfl) dX12_setting_211 ?_
                        refine r_iload X (by rfl) dX12_setting_212 ?_
                        refine r_iload X (by rfl) dX12_setting_214 ?_
                        refine r_iload X (by rfl) dX12_setting_216 ?_
                        refine r_callV X dX12_setting_218 zLV_X12_255 zCd_X12_leastTo (c_X12_leastTo _ G z τ ρ _ _ hL _ _ _ (by omega) (by omega) (by omega) _ hV hb _ _ _ (by first | exact hl5 | exact j1.1) (by first | exact hl5 | exact j2.1) (by first | exact hl5 | exact j3.1)) (zt hL 38 rfl) ⟨by decide, rfl, rfl⟩ rfl rfl ⟨⟨rfl, rfl⟩, ⟨by decide, by decide⟩, ⟨Nat.le_of_ble_eq_true rfl, Nat.le_of_ble_eq_true rfl⟩, Nat.le_of_ble_eq_true rfl⟩ ?_
                        rintro _ _ ⟨r3, rfl, hr31, hr32, rfl⟩
                        refine r_iload X (by rfl) dX12_setting_221 ?_
                        refine r_iconst X 1 (by decide) dX12_setting_223 ?_
                        refine r_isub X dX12_setting_224 ?_
                        refine r_icmp_ne X 244 dX12_setting_225 (by decide) (fun h225 => ?_) (fun h225 => ?_)
                        · refine r_iinc X 1 (by decide) (by rfl) (by decide) dX12_setting_244 ?_
                          refine r_goto X 79 dX12_setting_247 (by decide) ?_
                          exact zW.loc12 (by rfl) (by rfl) (by rfl) (by rfl) (by rfl) (by rfl) (by rfl) (by rfl) (by rfl) (by rfl) (by rfl) (by rfl) (ih2 _ _ _ _ _ _ _ _ q1 q2 q3 (by first | exact n1 | exact j1) (by first | exact n2 | exact j2) (by first | exact n3 | exact j3) (by first | exact nd | exact hs1) (by first | exact ns | exact hs2))
                        · have e225 := congrArg Int32.toInt h225
                          rw [er1] at e225
                          have hsm : lp + l5 + lv < 999 := Nat.lt_of_not_le (fun h => by have := hr32 h; omega)
                          have hsv := hr31 hsm
                          have hs1' := hs1 h88
                          have hB5 := (hB (32 + x6.toInt).toNat (by omega)).1
                          rw [show L (32 + x6.toInt).toNat = l5 from hl5] at hB5
                          have n2 : (zLk L x6 l5 ∧ l5 ≤ 10 ∧ ((-8 ≤ x6.toInt ∧ x6.toInt ≤ 8) ∨ l5 ≤ 9) ∧ -27 ≤ x6.toInt ∧ x6.toInt ≤ 27) := ⟨hl5, by omega, Or.inr (by omega), by omega, by omega⟩
                          have ns : r.toInt - 1 ≤ ((lp + l5 + lv : Nat) : Int) := by omega
                          have nd : n.toInt < 0 → r.toInt ≤ ((lp + l5 + lv : Nat) : Int) := fun h => by omega
                          refine r_iload X (by rfl) dX12_setting_228 ?_
                          refine r_istore X (by decide) dX12_setting_230 ?_
                          refine r_iload X (by rfl) dX12_setting_232 ?_
                          refine r_istore X (by decide) dX12_setting_234 ?_
                          refine r_iload X (by rfl) dX12_setting_236 ?_
                          refine r_istore X (by decide) dX12_setting_238 ?_
                          refine r_iload X (by rfl) dX12_setting_240 ?_
                          refine r_istore X (by decide) dX12_setting_242 ?_
                          refine r_iinc X 1 (by decide) (by rfl) (by decide) dX12_setting_244 ?_
                          refine r_goto X 79 dX12_setting_247 (by decide) ?_
                          exact zW.loc12 (by rfl) (by rfl) (by rfl) (by rfl) (by rfl) (by rfl) (by rfl) (by rfl) (by rfl) (by rfl) (by rfl) (by rfl) (ih2 _ _ _ _ _ _ _ _ q1 q2 q3 (by first | exact n1 | exact j1) (by first | exact n2 | exact j2) (by first | exact n3 | exact j3) (by first | exact nd | exact hs1) (by first | exact ns | exact hs2))
                      · exact absurd (h176.symm.trans h196) (by decide)
                  · refine r_iload X (by rfl) dX12_setting_159 ?_
                    refine r_iload X (by rfl) dX12_setting_161 ?_
                    refine r_imul X dX12_setting_163 ?_
                    refine r_goto X 168 dX12_setting_164 (by decide) ?_
                    refine r_isub X dX12_setting_168 ?_
                    first | (obtain ⟨x5, hx5, ex5⟩ := zst_a (p := p) (s := s) (by omega) (by omega) (by omega); rw [hx5]) | (obtain ⟨x5, hx5, ex5⟩ := zst_b (p := p) (s := s) (by omega) (by omega) (by omega); rw [hx5]) | rw [Int32.sub_zero]
                    refine r_istore X (by decide) dX12_setting_169 ?_
                    refine r_iload X (by rfl) dX12_setting_171 ?_
                    refine r_iload X (by rfl) dX12_setting_173 ?_
                    refine r_iconst X 1 (by decide) dX12_setting_175 ?_
                    refine r_icmp_ne X 187 dX12_setting_176 (by decide) (fun h176 => ?_) (fun h176 => ?_)
                    · refine r_iconst X 0 (by decide) dX12_setting_187 ?_
                      refine r_isub X dX12_setting_188 ?_
                      first | (obtain ⟨x6, hx6, ex6⟩ := zst_a (p := q) (s := s) (by omega) (by omega) (by omega); rw [hx6]) | (obtain ⟨x6, hx6, ex6⟩ := zst_b (p := q) (s := s) (by omega) (by omega) (by omega); rw [hx6]) | rw [Int32.sub_zero]
                      refine r_istore X (by decide) dX12_setting_189 ?_
                      refine r_iload X (by rfl) dX12_setting_191 ?_
                      refine r_iload X (by rfl) dX12_setting_193 ?_
                      refine r_iconst X 2 (by decide) dX12_setting_195 ?_
                      refine r_icmp_ne X 207 dX12_setting_196 (by decide) (fun h196 => ?_) (fun h196 => ?_)
                      · refine r_iconst X 0 (by decide) dX12_setting_207 ?_
                        refine r_isub X dX12_setting_208 ?_
                        first | (obtain ⟨x7, hx7, ex7⟩ := zst_a (p := v) (s := s) (by omega) (by omega) (by omega); rw [hx7]) | (obtain ⟨x7, hx7, ex7⟩ := zst_b (p := v) (s := s) (by omega) (by omega) (by omega); rw [hx7]) | rw [Int32.sub_zero]
                        refine r_istore X (by decide) dX12_setting_209 ?_
                        refine zW.loc18 (i0 := 0) (i1 := 1) (i2 := 2) (i3 := 3) (i4 := 4) (i5 := 5) (i6 := 6) (i7 := 7) (i8 := 8) (i9 := 9) (i10 := 10) (i11 := 11) (i12 := 12) (i13 := 13) (i14 := 14) (i15 := 15) (i16 := 16) (i17 := 17) (by rfl) (by rfl) (by rfl) (by rfl) (by rfl) (by rfl) (by rfl) (by rfl) (by rfl) (by rfl) (by rfl) (by rfl) (by rfl) (by rfl) (by rfl) (by rfl) (by rfl) (by rfl)  ?_
                        obtain ⟨l5, hl5⟩ : ∃ l5, zLk L x5 l5 := ⟨_, rfl⟩
                        refine r_aload_n X (by rfl) dX12_setting_211 ?_
                        refine r_iload X (by rfl) dX12_setting_212 ?_
                        refine r_iload X (by rfl) dX12_setting_214 ?_
                        refine r_iload X (by rfl) dX12_setting_216 ?_
                        refine r_callV X dX12_setting_218 zLV_X12_255 zCd_X12_leastTo (c_X12_leastTo _ G z τ ρ _ _ hL _ _ _ (by omega) (by omega) (by omega) _ hV hb _ _ _ (by first | exact hl5 | exact j1.1) (by first | exact hl5 | exact j2.1) (by first | exact hl5 | exact j3.1)) (zt hL 38 rfl) ⟨by decide, rfl, rfl⟩ rfl rfl ⟨⟨rfl, rfl⟩, ⟨by decide, by decide⟩, ⟨Nat.le_of_ble_eq_true rfl, Nat.le_of_ble_eq_true rfl⟩, Nat.le_of_ble_eq_true rfl⟩ ?_
                        rintro _ _ ⟨r3, rfl, hr31, hr32, rfl⟩
                        refine r_iload X (by rfl) dX12_setting_221 ?_
                        refine r_iconst X 1 (by decide) dX12_setting_223 ?_
                        refine r_isub X dX12_setting_224 ?_
                        refine r_icmp_ne X 244 dX12_setting_225 (by decide) (fun h225 => ?_) (fun h225 => ?_)
                        · refine r_iinc X 1 (by decide) (by rfl) (by decide) dX12_setting_244 ?_
                          refine r_goto X 79 dX12_setting_247 (by decide) ?_
                          exact zW.loc12 (by rfl) (by rfl) (by rfl) (by rfl) (by rfl) (by rfl) (by rfl) (by rfl) (by rfl) (by rfl) (by rfl) (by rfl) (ih2 _ _ _ _ _ _ _ _ q1 q2 q3 (by first | exact n1 | exact j1) (by first | exact n2 | exact j2) (by first | exact n3 | exact j3) (by first | exact nd | exact hs1) (by first | exact ns | exact hs2))
                        · have e225 := congrArg Int32.toInt h225
                          rw [er1] at e225
                          have hsm : l5 + lq + lv < 999 := Nat.lt_of_not_le (fun h => by have := hr32 h; omega)
                          have hsv := hr31 hsm
                          have hs1' := hs1 h88
                          have hB5 := (hB (32 + x5.toInt).toNat (by omega)).1
                          rw [show L (32 + x5.toInt).toNat = l5 from hl5] at hB5
                          have n1 : (zLk L x5 l5 ∧ l5 ≤ 10 ∧ ((-8 ≤ x5.toInt ∧ x5.toInt ≤ 8) ∨ l5 ≤ 9) ∧ -27 ≤ x5.toInt ∧ x5.toInt ≤ 27) := ⟨hl5, by omega, Or.inr (by omega), by omega, by omega⟩
                          have ns : r.toInt - 1 ≤ ((l5 + lq + lv : Nat) : Int) := by omega
                          have nd : n.toInt < 0 → r.toInt ≤ ((l5 + lq + lv : Nat) : Int) := fun h => by omega
                          refine r_iload X (by rfl) dX12_setting_228 ?_
                          refine r_istore X (by decide) dX12_setting_230 ?_
                          refine r_iload X (by rfl) dX12_setting_232 ?_
                          refine r_istore X (by decide) dX12_setting_234 ?_
                          refine r_iload X (by rfl) dX12_setting_236 ?_
                          refine r_istore X (by decide) dX12_setting_238 ?_
                          refine r_iload X (by rfl) dX12_setting_240 ?_
                          refine r_istore X (by decide) dX12_setting_242 ?_
                          refine r_iinc X 1 (by decide) (by rfl) (by decide) dX12_setting_244 ?_
                          refine r_goto X 79 dX12_setting_247 (by decide) ?_
                          exact zW.loc12 (by rfl) (by rfl) (by rfl) (by rfl) (by rfl) (by rfl) (by rfl) (by rfl) (by rfl) (by rfl) (by rfl) (by rfl) (ih2 _ _ _ _ _ _ _ _ q1 q2 q3 (by first | exact n1 | exact j1) (by first | exact n2 | exact j2) (by first | exact n3 | exact j3) (by first | exact nd | exact hs1) (by first | exact ns | exact hs2))
                      · exact absurd (h156.symm.trans h196) (by decide)
                    · exact absurd (h156.symm.trans h176) (by decide)
    refine r_iload X (by rfl) dX12_setting_66 ?_
    refine r_iload X (by rfl) dX12_setting_68 ?_
    refine r_icmp_gt X 259 dX12_setting_70 (by decide) (fun h70 => ?_) (fun h70 => ?_)
    · refine r_iload X (by rfl) dX12_setting_259 ?_
      refine r_ireturn X hR dX12_setting_261 rfl (Nat.zero_le _) (Nat.zero_le _) ?_
      exact ⟨_, _, _, rfl, rfl, hf⟩
    · refine r_iconst X (-1) (by decide) dX12_setting_73 ?_
      refine r_istore X (by decide) dX12_setting_74 ?_
      refine r_iconst X 1 (by decide) dX12_setting_76 ?_
      refine r_istore X (by decide) dX12_setting_77 ?_
      exact zW.loc12 (by rfl) (by rfl) (by rfl) (by rfl) (by rfl) (by rfl) (by rfl) (by rfl) (by rfl) (by rfl) (by rfl) (by rfl) (L79 h70 125 _ _ _ _ _ _ _ _ (by decide) (by decide) (by decide) i1 i2 i3 (fun _ => hs) (by omega))
  refine r_iload_n X (by rfl) dX12_setting_0 ?_
  refine r_callS X dX12_setting_1 zLS_X12_249 zCd_X12_isPower (c_X12_isPower _ G z τ ρ _ _ _) rfl rfl ⟨⟨rfl, rfl⟩, ⟨by decide, by decide⟩, ⟨Nat.le_of_ble_eq_true rfl, Nat.le_of_ble_eq_true rfl⟩, Nat.le_of_ble_eq_true rfl⟩ ?_
  rintro _ _ ⟨rfl, rfl⟩
  refine r_if_eq X 26 dX12_setting_4 (by decide) (fun h4 => ?_) (fun h4 => ?_)
  · refine r_bipush X (-2) (by decide) dX12_setting_26 ?_
    refine r_ireturn X hR dX12_setting_28 rfl (Nat.zero_le _) (Nat.zero_le _) ?_
    exact ⟨_, _, _, rfl, rfl, zFm.rfl⟩
  · refine r_iload_n X (by rfl) dX12_setting_7 ?_
    refine r_callS X dX12_setting_8 zLS_X12_249 zCd_X12_isPower (c_X12_isPower _ G z τ ρ _ _ _) rfl rfl ⟨⟨rfl, rfl⟩, ⟨by decide, by decide⟩, ⟨Nat.le_of_ble_eq_true rfl, Nat.le_of_ble_eq_true rfl⟩, Nat.le_of_ble_eq_true rfl⟩ ?_
    rintro _ _ ⟨rfl, rfl⟩
    refine r_if_eq X 26 dX12_setting_11 (by decide) (fun h11 => ?_) (fun h11 => ?_)
    · refine r_bipush X (-2) (by decide) dX12_setting_26 ?_
      refine r_ireturn X hR dX12_setting_28 rfl (Nat.zero_le _) (Nat.zero_le _) ?_
      exact ⟨_, _, _, rfl, rfl, zFm.rfl⟩
    · refine r_iload_n X (by rfl) dX12_setting_14 ?_
      refine r_callS X dX12_setting_15 zLS_X12_249 zCd_X12_isPower (c_X12_isPower _ G z τ ρ _ _ _) rfl rfl ⟨⟨rfl, rfl⟩, ⟨by decide, by decide⟩, ⟨Nat.le_of_ble_eq_true rfl, Nat.le_of_ble_eq_true rfl⟩, Nat.le_of_ble_eq_true rfl⟩ ?_
      rintro _ _ ⟨rfl, rfl⟩
      refine r_if_eq X 26 dX12_setting_18 (by decide) (fun h18 => ?_) (fun h18 => ?_)
      · refine r_bipush X (-2) (by decide) dX12_setting_26 ?_
        refine r_ireturn X hR dX12_setting_28 rfl (Nat.zero_le _) (Nat.zero_le _) ?_
        exact ⟨_, _, _, rfl, rfl, zFm.rfl⟩
      · refine r_iload X (by rfl) dX12_setting_21 ?_
        refine r_if_ge X 29 dX12_setting_23 (by decide) (fun h23 => ?_) (fun h23 => ?_)
        · refine r_aload_n X (by rfl) dX12_setting_29 ?_
          refine r_callV X dX12_setting_30 zLV_X12_252 zCd_X12_spreads (c_X12_spreads _ G z τ ρ _ _ hL hJ) (zt hL 38 rfl) ⟨by decide, rfl, rfl⟩ rfl rfl ⟨⟨rfl, rfl⟩, ⟨by decide, by decide⟩, ⟨Nat.le_of_ble_eq_true rfl, Nat.le_of_ble_eq_true rfl⟩, Nat.le_of_ble_eq_true rfl⟩ ?_
          rintro _ _ ⟨rfl, ι2, rfl, hf2, hV⟩
          obtain ⟨L, hLd⟩ : ∃ L, zSpr (zFs B ι c) 29575 = L := ⟨_, rfl⟩
          have hb : ∀ k, L k ≤ 999 := fun k => by rw [← hLd]; exact zSpr_999 _ _ k
          have hB := zSpr_ok B ι c
          rw [hLd] at hV hB
          clear hLd
          obtain ⟨l1, hl1⟩ : ∃ l, zLk L x l := ⟨_, rfl⟩
          obtain ⟨l2, hl2⟩ : ∃ l, zLk L y l := ⟨_, rfl⟩
          obtain ⟨l3, hl3⟩ : ∃ l, zLk L u l := ⟨_, rfl⟩
          refine r_aload_n X (by rfl) dX12_setting_33 ?_
          refine r_iload_n X (by rfl) dX12_setting_34 ?_
          refine r_iload_n X (by rfl) dX12_setting_35 ?_
          refine r_iload_n X (by rfl) dX12_setting_36 ?_
          refine r_callV X dX12_setting_37 zLV_X12_255 zCd_X12_leastTo (c_X12_leastTo _ G z τ ρ _ _ hL _ _ _ (by have := zif1 h4; omega) (by have := zif1 h11; omega) (by have := zif1 h18; omega) _ hV hb l1 l2 l3 hl1 hl2 hl3) (zt hL 38 rfl) ⟨by decide, rfl, rfl⟩ rfl rfl ⟨⟨rfl, rfl⟩, ⟨by decide, by decide⟩, ⟨Nat.le_of_ble_eq_true rfl, Nat.le_of_ble_eq_true rfl⟩, Nat.le_of_ble_eq_true rfl⟩ ?_
          rintro _ _ ⟨r0, rfl, hr1, hr2, rfl⟩
          refine r_istore X (by decide) dX12_setting_40 ?_
          refine r_iload X (by rfl) dX12_setting_42 ?_
          refine r_iload X (by rfl) dX12_setting_44 ?_
          refine r_icmp_lt X 51 dX12_setting_46 (by decide) (fun h46 => ?_) (fun h46 => ?_)
          · have g4 := zif1 h4
            have g11 := zif1 h11
            have g18 := zif1 h18
            have hsm : l1 + l2 + l3 < 999 := Nat.lt_of_not_le (fun h => by have := hr2 h; omega)
            have hsv := hr1 hsm
            have k1 := (hB (32 + x.toInt).toNat (by omega)).2 (by omega) (by omega)
            rw [show L (32 + x.toInt).toNat = l1 from hl1] at k1
            have k2 := (hB (32 + y.toInt).toNat (by omega)).2 (by omega) (by omega)
            rw [show L (32 + y.toInt).toNat = l2 from hl2] at k2
            have k3 := (hB (32 + u.toInt).toNat (by omega)).2 (by omega) (by omega)
            rw [show L (32 + u.toInt).toNat = l3 from hl3] at k3
            refine r_iload_n X (by rfl) dX12_setting_51 ?_
            refine r_istore X (by decide) dX12_setting_52 ?_
            refine r_iload_n X (by rfl) dX12_setting_54 ?_
            refine r_istore X (by decide) dX12_setting_55 ?_
            refine r_iload_n X (by rfl) dX12_setting_57 ?_
            refine r_istore X (by decide) dX12_setting_58 ?_
            refine r_iconst X (-1) (by decide) dX12_setting_60 ?_
            refine r_istore X (by decide) dX12_setting_61 ?_
            refine r_iconst X 0 (by decide) dX12_setting_63 ?_
            refine r_istore X (by decide) dX12_setting_64 ?_
            exact zW.loc11 (by rfl) (by rfl) (by rfl) (by rfl) (by rfl) (by rfl) (by rfl) (by rfl) (by rfl) (by rfl) (by rfl) (L66 _ hb hB _ hf2 hV _ (by omega) h46 (by omega) 41 _ _ _ _ _ _ _ _ _ (by decide) (by decide) (by rw [show Int32.toInt 0 = 0 from rfl]; omega) ⟨hl1, by omega, Or.inl g4, by omega, by omega⟩ ⟨hl2, by omega, Or.inl g11, by omega, by omega⟩ ⟨hl3, by omega, Or.inl g18, by omega, by omega⟩ (by omega))
          · refine r_iconst X (-1) (by decide) dX12_setting_49 ?_
            refine r_ireturn X hR dX12_setting_50 rfl (Nat.zero_le _) (Nat.zero_le _) ?_
            exact ⟨_, _, _, rfl, rfl, hf2⟩
        · refine r_bipush X (-2) (by decide) dX12_setting_26 ?_
          refine r_ireturn X hR dX12_setting_28 rfl (Nat.zero_le _) (Nat.zero_le _) ?_
          exact ⟨_, _, _, rfl, rfl, zFm.rfl⟩
