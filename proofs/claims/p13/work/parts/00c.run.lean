/-! Euclid in all lanes at once (wip/places) -/
/-- no multiple L X, L <= 50000, comes within 2^18 of a multiple of 2^69 -/
def sl_Gp (X : Nat) : Prop := ∀ L N : Int, 0 < L → L ≤ 50000 → 262144 ≤ L * X - N * 590295810358705651712 ∨ 262144 ≤ N * 590295810358705651712 - L * X
noncomputable def sl_run (G K TT : Nat) (l : List Nat) : Nat → Nat → Bool :=
  List.rec (motive := fun _ => Nat → Nat → Bool) (fun p q => Nat.beq (Nat.land (Nat.land (Nat.add p TT) (Nat.add q TT)) G) 0) (fun s _ ih p q => ih q (Nat.sub (sl_sweep G q s (Nat.add p K)) K)) l
noncomputable def sl_start (G K TT B2 X : Nat) (l : List Nat) : Bool :=
  and (Nat.beq (Nat.land (Nat.land (Nat.add X K) (Nat.add (Nat.sub B2 X) K)) G) G) (sl_run G K TT l (Nat.sub B2 X) X)
theorem sl_two {a b : Nat} (ha : a < 2 ^ 88) (hb : b < 2 ^ 88) (h : (a &&& b) &&& 2 ^ 87 = 0) : a < 2 ^ 87 ∨ b < 2 ^ 87 := by
  by_cases c1 : a < 2 ^ 87
  · exact Or.inl c1
  · by_cases c2 : b < 2 ^ 87
    · exact Or.inr c2
    · exfalso
      have h1 := sl_and 87 (a := a - 2 ^ 87) (b := b - 2 ^ 87) (A := 1) (B := 1) (by omega) (by omega)
      rw [show 2 ^ 87 * 1 + (a - 2 ^ 87) = a by omega, show 2 ^ 87 * 1 + (b - 2 ^ 87) = b by omega, Nat.and_self, Nat.mul_one] at h1
      have h2 : a &&& b < 2 ^ 88 := Nat.and_lt_two_pow a hb
      rw [sl_g h2] at h
      omega
theorem sl_two1 {a b : Nat} (hb : b < 2 ^ 88) (h : (a &&& b) &&& 2 ^ 87 = 2 ^ 87) : 2 ^ 87 ≤ a ∧ 2 ^ 87 ≤ b := by
  have h2 : a &&& b < 2 ^ 88 := Nat.and_lt_two_pow a hb
  rw [sl_g h2] at h
  have h3 : a &&& b ≤ a := Nat.and_le_left
  have h4 : a &&& b ≤ b := Nat.and_le_right
  omega
def sl_Ok (X p q : Nat) : Prop := 262144 ≤ p ∧ p ≤ 590295810358705651712 ∧ 262144 ≤ q ∧ q ≤ 590295810358705651712 ∧ sl_Iv (X : Int) (p : Int) (q : Int)
theorem sl_Ok_step {X p q s : Nat} (h : sl_Ok X p q) : sl_Ok X q (sl_lw q s (p + 154742504910672534362128384) - 154742504910672534362128384) := by
  obtain ⟨h1, h2, h3, h4, h5⟩ := h
  obtain ⟨b1, b2⟩ := sl_lw_b q s (p + 154742504910672534362128384) (by omega)
  have hv := sl_lw_Iv (X := (X : Int)) (q := q) s (p + 154742504910672534362128384) (by
    rw [show ((p + 154742504910672534362128384 : Nat) : Int) - 154742504910672534362128384 = (p : Int) by omega]
    exact h5)
  refine ⟨h3, h4, by omega, by omega, sl_Iv_swap ?_⟩
  rw [show (((sl_lw q s (p + 154742504910672534362128384) - 154742504910672534362128384 : Nat)) : Int) = (sl_lw q s (p + 154742504910672534362128384) : Nat) - (154742504910672534362128384 : Int) by omega]
  exact hv
theorem sl_run_ok (n : Nat) (X : Nat → Nat) : ∀ (l : List Nat) (p q : Nat → Nat), (∀ s, s ∈ l → s ≤ 17) → (∀ i, i < n → sl_Ok (X i) (p i) (q i)) →
    sl_run (sl_pk n (fun _ => 2 ^ 87)) (sl_pk n (fun _ => 154742504910672534362128384)) (sl_pk n (fun _ => 154742504898866618155478559)) l (sl_pk n p) (sl_pk n q) = true → ∀ i, i < n → sl_Gp (X i)
  | [], p, q, _, hO, h, i, hi => by
    have h0 : Nat.land (Nat.land (Nat.add (sl_pk n p) (sl_pk n (fun _ => 154742504898866618155478559))) (Nat.add (sl_pk n q) (sl_pk n (fun _ => 154742504898866618155478559)))) (sl_pk n (fun _ => 2 ^ 87)) = 0 := Nat.eq_of_beq_eq_true h
    have e1 : Nat.add (sl_pk n p) (sl_pk n (fun _ => 154742504898866618155478559)) = sl_pk n (fun i => p i + 154742504898866618155478559) := (sl_pk_add n p (fun _ => 154742504898866618155478559)).symm
    have e2 : Nat.add (sl_pk n q) (sl_pk n (fun _ => 154742504898866618155478559)) = sl_pk n (fun i => q i + 154742504898866618155478559) := (sl_pk_add n q (fun _ => 154742504898866618155478559)).symm
    have bp : ∀ i, i < n → p i + 154742504898866618155478559 < 2 ^ 88 := fun i hi => by have := (hO i hi).2.1; omega
    have bq : ∀ i, i < n → q i + 154742504898866618155478559 < 2 ^ 88 := fun i hi => by have := (hO i hi).2.2.2.1; omega
    have e3 : Nat.land (sl_pk n (fun i => p i + 154742504898866618155478559)) (sl_pk n (fun i => q i + 154742504898866618155478559)) = sl_pk n (fun i => (p i + 154742504898866618155478559) &&& (q i + 154742504898866618155478559)) := sl_pk_and n _ _ bp bq
    have e4 : Nat.land (sl_pk n (fun i => (p i + 154742504898866618155478559) &&& (q i + 154742504898866618155478559))) (sl_pk n (fun _ => 2 ^ 87)) = sl_pk n (fun i => ((p i + 154742504898866618155478559) &&& (q i + 154742504898866618155478559)) &&& 2 ^ 87) := sl_pk_and n _ _ (fun i hi => Nat.and_lt_two_pow _ (bq i hi)) (fun _ _ => by decide)
    rw [e1, e2, e3, e4] at h0
    have hz := sl_pk_z n _ h0 i hi
    obtain ⟨o1, o2, o3, o4, o5⟩ := hO i hi
    have hm := sl_two (bp i hi) (bq i hi) hz
    intro L N l0 l1
    exact sl_gap o5 (by decide) (by omega) (by omega) (by omega) L N l0 l1
  | s :: l, p, q, hs, hO, h, i, hi => by
    have e1 : Nat.add (sl_pk n p) (sl_pk n (fun _ => 154742504910672534362128384)) = sl_pk n (fun i => p i + 154742504910672534362128384) := (sl_pk_add n p (fun _ => 154742504910672534362128384)).symm
    have hs17 : 2 ^ s ≤ 2 ^ 17 := Nat.pow_le_pow_right (by decide) (hs s (List.mem_cons_self ..))
    have e2 := sl_sweep_pk n q s (fun i => p i + 154742504910672534362128384) (fun i hi => by
      have h4 := (hO i hi).2.2.2.1
      have := Nat.mul_le_mul h4 hs17
      omega) (fun i hi => by obtain ⟨o1, o2, -⟩ := hO i hi; omega)
    have e3 : Nat.sub (sl_pk n (fun i => sl_lw (q i) s (p i + 154742504910672534362128384))) (sl_pk n (fun _ => 154742504910672534362128384)) = sl_pk n (fun i => sl_lw (q i) s (p i + 154742504910672534362128384) - 154742504910672534362128384) :=
      sl_pk_sub n _ _ (fun i hi => by
        have := (sl_lw_b (q i) s (p i + 154742504910672534362128384) (by have := (hO i hi).1; omega)).1
        omega)
    have h2 : sl_run (sl_pk n (fun _ => 2 ^ 87)) (sl_pk n (fun _ => 154742504910672534362128384)) (sl_pk n (fun _ => 154742504898866618155478559)) l (sl_pk n q) (Nat.sub (sl_sweep (sl_pk n (fun _ => 2 ^ 87)) (sl_pk n q) s (Nat.add (sl_pk n p) (sl_pk n (fun _ => 154742504910672534362128384)))) (sl_pk n (fun _ => 154742504910672534362128384))) = true := h
    rw [e1, e2, e3] at h2
    exact sl_run_ok n X l q (fun i => sl_lw (q i) s (p i + 154742504910672534362128384) - 154742504910672534362128384) (fun s2 h => hs s2 (List.mem_cons_of_mem _ h)) (fun i hi => sl_Ok_step (hO i hi)) h2 i hi
theorem sl_start_ok (n : Nat) (X : Nat → Nat) (l : List Nat) (hl : ∀ s, s ∈ l → s ≤ 17) (hX : ∀ i, i < n → X i < 590295810358705651712)
    (h : sl_start (sl_pk n (fun _ => 2 ^ 87)) (sl_pk n (fun _ => 154742504910672534362128384)) (sl_pk n (fun _ => 154742504898866618155478559)) (sl_pk n (fun _ => 590295810358705651712)) (sl_pk n X) l = true) : ∀ i, i < n → sl_Gp (X i) := by
  unfold sl_start at h
  rw [Bool.and_eq_true] at h
  obtain ⟨ha, hb⟩ := h
  have h0 := Nat.eq_of_beq_eq_true ha
  have e0 : Nat.sub (sl_pk n (fun _ => 590295810358705651712)) (sl_pk n X) = sl_pk n (fun i => 590295810358705651712 - X i) := sl_pk_sub n _ _ (fun i hi => Nat.le_of_lt (hX i hi))
  have e1 : Nat.add (sl_pk n X) (sl_pk n (fun _ => 154742504910672534362128384)) = sl_pk n (fun i => X i + 154742504910672534362128384) := (sl_pk_add n X (fun _ => 154742504910672534362128384)).symm
  have e2 : Nat.add (sl_pk n (fun i => 590295810358705651712 - X i)) (sl_pk n (fun _ => 154742504910672534362128384)) = sl_pk n (fun i => 590295810358705651712 - X i + 154742504910672534362128384) := (sl_pk_add n (fun i => 590295810358705651712 - X i) (fun _ => 154742504910672534362128384)).symm
  have bp : ∀ i, i < n → X i + 154742504910672534362128384 < 2 ^ 88 := fun i hi => by have := hX i hi; omega
  have bq : ∀ i, i < n → 590295810358705651712 - X i + 154742504910672534362128384 < 2 ^ 88 := fun i hi => by omega
  have e3 : Nat.land (sl_pk n (fun i => X i + 154742504910672534362128384)) (sl_pk n (fun i => 590295810358705651712 - X i + 154742504910672534362128384)) = sl_pk n (fun i => (X i + 154742504910672534362128384) &&& (590295810358705651712 - X i + 154742504910672534362128384)) := sl_pk_and n _ _ bp bq
  have e4 : Nat.land (sl_pk n (fun i => (X i + 154742504910672534362128384) &&& (590295810358705651712 - X i + 154742504910672534362128384))) (sl_pk n (fun _ => 2 ^ 87)) = sl_pk n (fun i => ((X i + 154742504910672534362128384) &&& (590295810358705651712 - X i + 154742504910672534362128384)) &&& 2 ^ 87) := sl_pk_and n _ _ (fun i hi => Nat.and_lt_two_pow _ (bq i hi)) (fun _ _ => by decide)
  rw [e0, e1, e2, e3, e4] at h0
  rw [e0] at hb
  have hz := sl_pk_inj n _ _ (fun i hi => Nat.and_lt_two_pow _ (by decide)) (fun _ _ => by decide) h0
  refine sl_run_ok n X l _ _ hl (fun i hi => ?_) hb
  obtain ⟨g1, g2⟩ := sl_two1 (bq i hi) (hz i hi)
  have hXi := hX i hi
  refine ⟨by omega, by omega, by omega, by omega, ?_⟩
  rw [show ((590295810358705651712 - X i : Nat) : Int) = 590295810358705651712 - (X i : Int) by omega]
  exact sl_Iv_0 _
theorem sl_pk_00 (n : Nat) : sl_pk n (fun _ => 0) = 0 := by rw [← sl_pk_c n 0, Nat.mul_zero]
/-- one lane alone -/
theorem sl_pk_one : ∀ (n j d : Nat), j < n → sl_pk n (fun i => if i = j then d else 0) = d * 2 ^ (88 * j)
  | 0, j, _, h => absurd h (Nat.not_lt_zero j)
  | n + 1, 0, d, _ => by
    rw [sl_pk_s, sl_pk_congr n (fun i => if i + 1 = 0 then d else 0) (fun _ => 0) (fun i _ => if_neg (Nat.succ_ne_zero i)), sl_pk_00, if_pos rfl, Nat.mul_zero, Nat.zero_add, Nat.pow_zero, Nat.mul_one]
  | n + 1, j + 1, d, h => by
    rw [sl_pk_s, sl_pk_congr n (fun i => if i + 1 = j + 1 then d else 0) (fun i => if i = j then d else 0) (fun i _ => by simp only [Nat.add_right_cancel_iff]), sl_pk_one n j d (Nat.lt_of_succ_lt_succ h), if_neg (Ne.symm (Nat.succ_ne_zero j)), Nat.add_zero, Nat.mul_add, Nat.mul_one, Nat.pow_add, Nat.mul_left_comm, Nat.mul_comm (2 ^ 88)]
noncomputable def sl_tie (n d f k : Nat) : Nat := cond (Nat.beq (Nat.div (Nat.sub (Nat.mul 100 f) 10000) n) k) (Nat.shiftLeft d (Nat.mul 88 (Nat.mod (Nat.sub (Nat.mul 100 f) 10000) n))) 0
noncomputable def sl_X (one U c t : Nat) : Nat := Nat.land (Nat.add (Nat.add U (Nat.mul one c)) t) (Nat.mul one 590295810358705651711)
noncomputable def sl_chk (n d f k U c : Nat) (l : List Nat) : Bool :=
  sl_start (Nat.mul (sl_one n) 154742504910672534362390528) (Nat.mul (sl_one n) 154742504910672534362128384) (Nat.mul (sl_one n) 154742504898866618155478559) (Nat.mul (sl_one n) 590295810358705651712) (sl_X (sl_one n) U c (sl_tie n d f k)) l
theorem sl_tie_e (n d f k : Nat) (hn : 0 < n) : sl_tie n d f k = sl_pk n (fun i => if n * k + i = 100 * f - 10000 then d else 0) := by
  unfold sl_tie
  show (bif Nat.beq ((100 * f - 10000) / n) k then Nat.shiftLeft d (88 * ((100 * f - 10000) % n)) else 0) = _
  obtain ⟨m, hm⟩ : ∃ m, m = 100 * f - 10000 := ⟨_, rfl⟩
  rw [← hm]
  have h1 := Nat.div_add_mod m n
  have h2 := Nat.mod_lt m hn
  by_cases c : m / n = k
  · rw [show Nat.beq (m / n) k = true from (by rw [c]; exact Nat.beq_refl k), cond_true, show Nat.shiftLeft d (88 * (m % n)) = d * 2 ^ (88 * (m % n)) from Nat.shiftLeft_eq _ _, ← sl_pk_one n (m % n) d h2]
    refine sl_pk_congr n _ _ (fun i _ => ?_)
    rw [c] at h1
    by_cases q : i = m % n
    · rw [if_pos q, if_pos (by omega)]
    · rw [if_neg q, if_neg (by omega)]
  · rw [show Nat.beq (m / n) k = false from Bool.eq_false_iff.mpr (fun q => c (Nat.eq_of_beq_eq_true q)), cond_false]
    refine (sl_pk_00 n).symm.trans ?_
    refine sl_pk_congr n _ _ (fun i hi => ?_)
    rw [if_neg]
    intro q
    apply c
    rw [← q, Nat.mul_add_div hn, Nat.div_eq_of_lt hi, Nat.add_zero]
theorem sl_chk_ok {n d f k U c : Nat} {l : List Nat} (u : Nat → Nat) (hn : 0 < n) (hU : U = sl_pk n u) (hu : ∀ i, i < n → u i < 590295810358705651712) (hc : c ≤ 590295810358705651712) (hd : d < 590295810358705651712) (hl : ∀ s, s ∈ l → s ≤ 17)
    (h : sl_chk n d f k U c l = true) : ∀ i, i < n → n * k + i ≠ 100 * f - 10000 → sl_Gp ((u i + c) % 590295810358705651712) := by
  obtain ⟨t, ht⟩ : ∃ t : Nat → Nat, t = fun i => if n * k + i = 100 * f - 10000 then d else 0 := ⟨_, rfl⟩
  have htd : ∀ i, t i ≤ d := fun i => by rw [ht]; show (if _ then d else 0) ≤ d; by_cases q : n * k + i = 100 * f - 10000 <;> simp [q]
  have eX : sl_X (sl_one n) U c (sl_tie n d f k) = sl_pk n (fun i => (u i + c + t i) % 590295810358705651712) := by
    unfold sl_X
    rw [sl_one_e, sl_tie_e n d f k hn, hU, ← ht]
    show (sl_pk n u + sl_i n * c + sl_pk n t) &&& (sl_i n * 590295810358705651711) = _
    rw [sl_pk_c, sl_pk_c, ← sl_pk_add, ← sl_pk_add, sl_pk_and n _ _ (fun i hi => by have := hu i hi; have := htd i; omega) (fun _ _ => by decide)]
    exact sl_pk_congr n _ _ (fun i _ => Nat.and_two_pow_sub_one_eq_mod _ 69)
  unfold sl_chk at h
  rw [eX, sl_one_e] at h
  have h2 := sl_start_ok n (fun i => (u i + c + t i) % 590295810358705651712) l hl (fun i _ => Nat.mod_lt _ (by decide)) (by
    rw [← sl_pk_c n (2 ^ 87), ← sl_pk_c n 154742504910672534362128384, ← sl_pk_c n 154742504898866618155478559, ← sl_pk_c n 590295810358705651712]
    exact h)
  intro i hi hne
  have := h2 i hi
  rw [ht] at this
  simp only [if_neg hne, Nat.add_zero] at this
  exact this
