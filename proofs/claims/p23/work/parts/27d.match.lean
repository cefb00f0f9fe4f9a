/-! the best match of both strips (wip/gen/spec_z.py) -/
def zAe (x : Int) : Int := if x < 0 then -x else x
theorem zAe_of (x : Int) : (0 ≤ x ∧ zAe x = x) ∨ (x < 0 ∧ zAe x = -x) := by
  unfold zAe
  by_cases h : x < 0
  · rw [if_pos h]; exact Or.inr ⟨h, rfl⟩
  · rw [if_neg h]; exact Or.inl ⟨by omega, rfl⟩
theorem zabI {x : Int32} (h : -2147483648 < x.toInt) : (if x.toInt < 0 then -x else x).toInt = zAe x.toInt := by
  unfold zAe
  have h3 := x.toInt_lt
  by_cases e : x.toInt < 0
  · rw [if_pos e, if_pos e, Int32.toInt_neg, Int.bmod_eq_of_le (by omega) (by omega)]
  · rw [if_neg e, if_neg e]
def zSu (f : Nat → Nat) : Nat → Nat
  | 0 => 0
  | n + 1 => zSu f n + f n
theorem zSu_cong {f g : Nat → Nat} : ∀ n, (∀ k, k < n → f k = g k) → zSu f n = zSu g n := by
  intro n
  induction n with
  | zero => intro _; rfl
  | succ n ih => intro h; rw [zSu, zSu, ih (fun k hk => h k (by omega)), h n (by omega)]
theorem zSu_add (f g : Nat → Nat) (n : Nat) : zSu (fun k => f k + g k) n = zSu f n + zSu g n := by
  induction n with
  | zero => rfl
  | succ n ih => rw [zSu, zSu, zSu, ih]; omega
theorem zSu_zero {f : Nat → Nat} : ∀ n, (∀ k, k < n → f k = 0) → zSu f n = 0 := by
  intro n
  induction n with
  | zero => intro _; rfl
  | succ n ih => intro h; rw [zSu, ih (fun k hk => h k (by omega)), h n (by omega)]
theorem zSu_comm (g : Nat → Nat → Nat) (n m : Nat) : zSu (fun i => zSu (fun j => g i j) m) n = zSu (fun j => zSu (fun i => g i j) n) m := by
  induction n with
  | zero => rw [zSu]; exact (zSu_zero m (fun k _ => rfl)).symm
  | succ n ih =>
    rw [zSu, ih, ← zSu_add]
    exact zSu_cong m (fun k _ => rfl)
theorem zSu_tail {f : Nat → Nat} (h : ∀ k, f k ≤ 1) {a : Nat} : ∀ b, a ≤ b → zSu f b ≤ zSu f a + (b - a) := by
  intro b
  induction b with
  | zero => intro q; have : a = 0 := by omega
            subst this; omega
  | succ b ih =>
    intro q
    by_cases e : a = b + 1
    · subst e; omega
    · have h1 := ih (by omega)
      have h2 := h b
      rw [zSu]; omega
theorem zSu_mono {f : Nat → Nat} {a : Nat} : ∀ b, a ≤ b → zSu f a ≤ zSu f b := by
  intro b
  induction b with
  | zero => intro q; have : a = 0 := by omega
            subst this; omega
  | succ b ih =>
    intro q
    by_cases e : a = b + 1
    · subst e; omega
    · have h1 := ih (by omega)
      rw [zSu]; omega
def zHs (f : Nat → Int) : Nat → Int → Bool
  | 0, _ => false
  | n + 1, x => zHs f n x || decide (f n = x)
theorem zHs_iff {f : Nat → Int} {x : Int} : ∀ n, zHs f n x = true ↔ ∃ k, k < n ∧ f k = x := by
  intro n
  induction n with
  | zero => exact ⟨fun h => (by cases h), fun ⟨k, h, _⟩ => absurd h (Nat.not_lt_zero k)⟩
  | succ n ih =>
    rw [zHs, Bool.or_eq_true, ih, decide_eq_true_eq]
    constructor
    · rintro (⟨k, h1, h2⟩ | h)
      · exact ⟨k, by omega, h2⟩
      · exact ⟨n, by omega, h⟩
    · rintro ⟨k, h1, h2⟩
      by_cases e : k = n
      · subst e; exact Or.inr h2
      · exact Or.inl ⟨k, by omega, h2⟩
theorem zHs_no {f : Nat → Int} {x : Int} {n : Nat} (h : ∀ k, k < n → f k ≠ x) : zHs f n x = false := by
  cases e : zHs f n x with
  | false => rfl
  | true => obtain ⟨k, h1, h2⟩ := (zHs_iff n).mp e; exact absurd h2 (h k h1)
def zRi (f : Nat → Int) (n : Nat) : Prop := ∀ i, i + 1 < n → f i < f (i + 1)
theorem zRi_lt {f : Nat → Int} {n : Nat} (h : zRi f n) {i : Nat} : ∀ j, i < j → j < n → f i < f j := by
  intro j
  induction j with
  | zero => intro q; omega
  | succ j ih =>
    intro q1 q2
    have h1 := h j q2
    by_cases e : i = j
    · subst e; exact h1
    · have h2 := ih (by omega) (by omega)
      omega
theorem zHs_sum {f : Nat → Int} {x : Int} : ∀ n, zRi f n → zSu (fun j => if f j = x then 1 else 0) n = if zHs f n x = true then 1 else 0 := by
  intro n
  induction n with
  | zero => intro _; rfl
  | succ n ih =>
    intro h
    rw [zSu, ih (fun i hi => h i (by omega)), zHs]
    by_cases e : f n = x
    · have h0 : zHs f n x = false := zHs_no (fun k hk => by have := zRi_lt h n hk (by omega); omega)
      rw [h0, if_pos e]; simp [e]
    · rw [if_neg e]; simp [e]
/-- is place t of the first, moved, one of the second -/
def zHt (b : Nat → Int) (m : Nat) (a : Nat → Int) (d : Int) (t : Nat) : Nat := if zHs b m (a t - d) = true then 1 else 0
theorem zHt_1 {b a : Nat → Int} {m : Nat} {d : Int} : ∀ t, zHt b m a d t ≤ 1 := fun t => by unfold zHt; split <;> omega
def zTm (a : Nat → Int) (n : Nat) (b : Nat → Int) (m : Nat) (d : Int) : Nat := zSu (zHt b m a d) n
def zG2 (a : Nat → Int) (n : Nat) (b : Nat → Int) (d : Int) (j : Nat) : Nat := if zHs a n (b j + d) = true then 1 else 0
theorem zG2_1 {b a : Nat → Int} {n : Nat} {d : Int} : ∀ t, zG2 a n b d t ≤ 1 := fun t => by unfold zG2; split <;> omega
theorem zT_swap {a b : Nat → Int} {n m : Nat} (ha : zRi a n) (hb : zRi b m) (d : Int) : zTm a n b m d = zSu (zG2 a n b d) m := by
  have h1 : zTm a n b m d = zSu (fun i => zSu (fun j => if b j = a i - d then 1 else 0) m) n := zSu_cong n (fun k _ => (zHs_sum m hb).symm)
  rw [h1, zSu_comm]
  refine zSu_cong m (fun j _ => ?_)
  show zSu (fun i => if b j = a i - d then 1 else 0) n = if zHs a n (b j + d) = true then 1 else 0
  rw [← zHs_sum n ha]
  refine zSu_cong n (fun i _ => ?_)
  by_cases e : b j = a i - d
  · rw [if_pos e, if_pos (by omega)]
  · rw [if_neg e, if_neg (by omega)]
def zBt (m1 d1 m2 d2 : Int) : Prop := m2 < m1 ∨ (m1 = m2 ∧ (zAe d1 < zAe d2 ∨ (zAe d1 = zAe d2 ∧ d2 < d1)))
def zOpt (a : Nat → Int) (n : Nat) (b : Nat → Int) (m : Nat) (M S : Int) : Prop := (∀ i j, i < n → j < m → ¬ zBt (zTm a n b m (a i - b j) : Int) (a i - b j) M S) ∧ ∃ i j, i < n ∧ j < m ∧ S = a i - b j ∧ M ≤ (zTm a n b m S : Int)
theorem zOpt_uniq {a b : Nat → Int} {n m : Nat} {M1 S1 M2 S2 : Int} (h1 : zOpt a n b m M1 S1) (h2 : zOpt a n b m M2 S2) : M1 = M2 ∧ S1 = S2 := by
  obtain ⟨p1, i1, j1, a1, b1, e1, l1⟩ := h1
  obtain ⟨p2, i2, j2, a2, b2, e2, l2⟩ := h2
  have q1 := p1 i2 j2 a2 b2
  have q2 := p2 i1 j1 a1 b1
  have q3 := p1 i1 j1 a1 b1
  have q4 := p2 i2 j2 a2 b2
  rw [← e2] at q1 q4
  rw [← e1] at q2 q3
  generalize (zTm a n b m S1 : Int) = T1 at *
  generalize (zTm a n b m S2 : Int) = T2 at *
  have z1 := zAe_of S1
  have z2 := zAe_of S2
  unfold zBt at *
  omega
/-- what the class has when all pairs ahead of (i, j) are weighed -/
def zIv (a : Nat → Int) (n : Nat) (b : Nat → Int) (m : Nat) (i j : Nat) (M S : Int) : Prop := (∀ i' j', i' < n → j' < m → (i' < i ∨ (i' = i ∧ j' < j)) → ((n : Int) - i' < M ∨ (m : Int) - j' < M) ∨ ¬ zBt ((zTm a n b m (a i' - b j') : Int) - (zSu (zHt b m a (a i' - b j')) i' : Int)) (a i' - b j') M S) ∧ ((M = 0 ∧ S = 0) ∨ ∃ i' j', i' < n ∧ j' < m ∧ S = a i' - b j' ∧ M ≤ (zTm a n b m S : Int)) ∧ 0 ≤ M
theorem zIv_0 {a b : Nat → Int} {n m : Nat} : zIv a n b m 0 0 0 0 := ⟨fun i' j' _ _ h => by omega, Or.inl ⟨rfl, rfl⟩, by omega⟩
theorem zIv_row {a b : Nat → Int} {n m i : Nat} {M S : Int} (h : zIv a n b m i m M S) : zIv a n b m (i + 1) 0 M S := ⟨fun i' j' h1 h2 h3 => h.1 i' j' h1 h2 (by omega), h.2⟩
theorem zIv_skip {a b : Nat → Int} {n m i j : Nat} {M S : Int} (h : zIv a n b m i j M S) (hs : (n : Int) - i < M ∨ (m : Int) - j < M) : zIv a n b m i (j + 1) M S := ⟨fun i' j' h1 h2 h3 => by
  by_cases e : i' = i ∧ j' = j
  · obtain ⟨rfl, rfl⟩ := e; exact Or.inl hs
  · exact h.1 i' j' h1 h2 (by omega), h.2⟩
theorem zIv_no {a b : Nat → Int} {n m i j : Nat} {M S C : Int} (h : zIv a n b m i j M S) (hC : C = (zTm a n b m (a i - b j) : Int) - (zSu (zHt b m a (a i - b j)) i : Int)) (hn : ¬ zBt C (a i - b j) M S) : zIv a n b m i (j + 1) M S := ⟨fun i' j' h1 h2 h3 => by
  by_cases e : i' = i ∧ j' = j
  · obtain ⟨rfl, rfl⟩ := e; rw [← hC]; exact Or.inr hn
  · exact h.1 i' j' h1 h2 (by omega), h.2⟩
theorem zIv_yes {a b : Nat → Int} {n m i j : Nat} {M S C : Int} (h : zIv a n b m i j M S) (hi : i < n) (hj : j < m) (hC : C = (zTm a n b m (a i - b j) : Int) - (zSu (zHt b m a (a i - b j)) i : Int)) (hn : zBt C (a i - b j) M S) : zIv a n b m i (j + 1) C (a i - b j) := by
  have hM : M ≤ C := by unfold zBt at hn; omega
  refine ⟨fun i' j' h1 h2 h3 => ?_, Or.inr ⟨i, j, hi, hj, rfl, by omega⟩, by have := h.2.2; omega⟩
  by_cases e : i' = i ∧ j' = j
  · obtain ⟨rfl, rfl⟩ := e
    rw [← hC]
    exact Or.inr (by unfold zBt; omega)
  · rcases h.1 i' j' h1 h2 (by omega) with q | q
    · exact Or.inl (by omega)
    · refine Or.inr (fun q2 => q ?_)
      generalize (zTm a n b m (a i' - b j') : Int) - (zSu (zHt b m a (a i' - b j')) i' : Int) = C' at *
      generalize a i' - b j' = d' at *
      generalize a i - b j = d at *
      unfold zBt at *
      omega
theorem zmin_ex (p : Nat → Prop) : ∀ n, p n → ∃ k, k ≤ n ∧ p k ∧ ∀ q, q < k → ¬ p q := by
  intro n
  induction n using Nat.strongRecOn with
  | _ n ih =>
    intro h
    by_cases e : ∃ k, k < n ∧ p k
    · obtain ⟨k, h1, h2⟩ := e
      obtain ⟨k2, h3, h4, h5⟩ := ih k h1 h2
      exact ⟨k2, by omega, h4, h5⟩
    · exact ⟨n, Nat.le_refl n, h, fun q hq h2 => e ⟨q, hq, h2⟩⟩
theorem zT_pos {a b : Nat → Int} {n m i j : Nat} (hi : i < n) (hj : j < m) : 1 ≤ zTm a n b m (a i - b j) := by
  have h1 : zHt b m a (a i - b j) i = 1 := if_pos ((zHs_iff m).mpr ⟨j, hj, by omega⟩)
  have h2 := zSu_mono (f := zHt b m a (a i - b j)) n (show i + 1 ≤ n from hi)
  rw [zSu, h1] at h2
  unfold zTm
  omega
theorem zIv_end {a b : Nat → Int} {n m : Nat} {M S : Int} (h : zIv a n b m n 0 M S) (hn : 1 ≤ n) (hm : 1 ≤ m) (ha : zRi a n) (hb : zRi b m) : zOpt a n b m M S := by
  have h1 : ∀ i j, i < n → j < m → ¬ zBt (zTm a n b m (a i - b j) : Int) (a i - b j) M S := by
    intro i j hi hj
    obtain ⟨d, hd⟩ : ∃ d, a i - b j = d := ⟨_, rfl⟩
    rw [hd]
    obtain ⟨i0, k1, k2, k3⟩ := zmin_ex (fun t => zHs b m (a t - d) = true) i ((zHs_iff m).mpr ⟨j, hj, by omega⟩)
    obtain ⟨j0, k4, k5⟩ := (zHs_iff m).mp k2
    have hd0 : a i0 - b j0 = d := by omega
    have hz : zSu (zHt b m a d) i0 = 0 := zSu_zero i0 (fun t ht => if_neg (k3 t ht))
    have hc := h.1 i0 j0 (by omega) k4 (by omega)
    rw [hd0, hz] at hc
    rcases hc with (hc | hc) | hc
    · have h2 := zSu_tail (f := zHt b m a d) zHt_1 (a := i0) n (by omega)
      rw [hz] at h2
      unfold zBt zTm
      omega
    · have h3 : zSu (zG2 a n b d) j0 = 0 := zSu_zero j0 (fun t ht => if_neg (fun q => by
        obtain ⟨i2, g1, g2⟩ := (zHs_iff n).mp q
        have g3 := zRi_lt hb j0 ht k4
        have g4 : i2 < i0 := by
          rcases Nat.lt_or_ge i2 i0 with g | g
          · exact g
          · by_cases e : i0 = i2
            · subst e; omega
            · have := zRi_lt ha i2 (show i0 < i2 by omega) g1
              omega
        exact k3 i2 g4 ((zHs_iff m).mpr ⟨t, by omega, by omega⟩)))
      have h2 := zSu_tail (f := zG2 a n b d) zG2_1 (a := j0) m (by omega)
      rw [h3] at h2
      rw [zT_swap ha hb]
      unfold zBt
      omega
    · rw [show ((zTm a n b m d : Nat) : Int) - ((0 : Nat) : Int) = (zTm a n b m d : Int) by omega] at hc
      exact hc
  refine ⟨h1, ?_⟩
  rcases h.2.1 with ⟨e1, e2⟩ | h2
  · have h3 := h1 0 0 (by omega) (by omega)
    have h4 := zT_pos (a := a) (b := b) (n := n) (m := m) (i := 0) (j := 0) (by omega) (by omega)
    exact absurd (by unfold zBt; omega) h3
  · exact h2
/-- what the model has -/
def zIm (a : Nat → Int) (n : Nat) (b : Nat → Int) (m : Nat) (i j : Nat) (M S : Int) : Prop := (∀ i' j', i' < n → j' < m → (i' < i ∨ (i' = i ∧ j' < j)) → ¬ zBt (zTm a n b m (a i' - b j') : Int) (a i' - b j') M S) ∧ ((M = 0 ∧ S = 0) ∨ ∃ i' j', i' < n ∧ j' < m ∧ S = a i' - b j' ∧ M ≤ (zTm a n b m S : Int)) ∧ 0 ≤ M
theorem zIm_0 {a b : Nat → Int} {n m : Nat} : zIm a n b m 0 0 0 0 := ⟨fun i' j' _ _ h => by omega, Or.inl ⟨rfl, rfl⟩, by omega⟩
theorem zIm_row {a b : Nat → Int} {n m i : Nat} {M S : Int} (h : zIm a n b m i m M S) : zIm a n b m (i + 1) 0 M S := ⟨fun i' j' h1 h2 h3 => h.1 i' j' h1 h2 (by omega), h.2⟩
theorem zIm_no {a b : Nat → Int} {n m i j : Nat} {M S : Int} (h : zIm a n b m i j M S) (hn : ¬ zBt (zTm a n b m (a i - b j) : Int) (a i - b j) M S) : zIm a n b m i (j + 1) M S := ⟨fun i' j' h1 h2 h3 => by
  by_cases e : i' = i ∧ j' = j
  · obtain ⟨rfl, rfl⟩ := e; exact hn
  · exact h.1 i' j' h1 h2 (by omega), h.2⟩
theorem zIm_yes {a b : Nat → Int} {n m i j : Nat} {M S : Int} (h : zIm a n b m i j M S) (hi : i < n) (hj : j < m) (hn : zBt (zTm a n b m (a i - b j) : Int) (a i - b j) M S) : zIm a n b m i (j + 1) (zTm a n b m (a i - b j) : Int) (a i - b j) := by
  have hM : M ≤ (zTm a n b m (a i - b j) : Int) := by unfold zBt at hn; omega
  refine ⟨fun i' j' h1 h2 h3 => ?_, Or.inr ⟨i, j, hi, hj, rfl, Int.le_refl _⟩, by omega⟩
  by_cases e : i' = i ∧ j' = j
  · obtain ⟨rfl, rfl⟩ := e
    unfold zBt; omega
  · have q := h.1 i' j' h1 h2 (by omega)
    intro q2
    apply q
    generalize (zTm a n b m (a i' - b j') : Int) = C' at *
    generalize (zTm a n b m (a i - b j) : Int) = C at *
    generalize a i' - b j' = d' at *
    generalize a i - b j = d at *
    unfold zBt at *
    omega
theorem zIm_end {a b : Nat → Int} {n m : Nat} {M S : Int} (h : zIm a n b m n 0 M S) (hn : 1 ≤ n) (hm : 1 ≤ m) : zOpt a n b m M S := by
  refine ⟨fun i j hi hj => h.1 i j hi hj (by omega), ?_⟩
  rcases h.2.1 with ⟨e1, e2⟩ | h2
  · have h3 := h.1 0 0 (by omega) (by omega) (by omega)
    have h4 := zT_pos (a := a) (b := b) (n := n) (m := m) (i := 0) (j := 0) (by omega) (by omega)
    exact absurd (by unfold zBt; omega) h3
  · exact h2
theorem zIv_S {A : Nat → Int} {n : Int} {b : Nat → Int} {m : Int} {i j : Nat} {M S : Int} (ha : ∀ k : Nat, (k : Int) < n → 0 ≤ A k ∧ A k ≤ 1000000) (hb : ∀ k : Nat, (k : Int) < m → 0 ≤ b k ∧ b k ≤ 1000000) (h : zIv A n.toNat b m.toNat i j M S) : -1000000 ≤ S ∧ S ≤ 1000000 := by
  rcases h.2.1 with ⟨-, e⟩ | ⟨i', j', h1, h2, h3, -⟩
  · omega
  · have := ha i' (by omega)
    have := hb j' (by omega)
    omega
theorem zIm_S {A : Nat → Int} {n : Int} {b : Nat → Int} {m : Int} {i j : Nat} {M S : Int} (ha : ∀ k : Nat, (k : Int) < n → 0 ≤ A k ∧ A k ≤ 1000000) (hb : ∀ k : Nat, (k : Int) < m → 0 ≤ b k ∧ b k ≤ 1000000) (h : zIm A n.toNat b m.toNat i j M S) : -1000000 ≤ S ∧ S ≤ 1000000 := by
  rcases h.2.1 with ⟨-, e⟩ | ⟨i', j', h1, h2, h3, -⟩
  · omega
  · have := ha i' (by omega)
    have := hb j' (by omega)
    omega
theorem zIv_w {a b : Nat → Int} {n m i j : Nat} {M S C d M2 S2 : Int} (hI : zIv a n b m i j M S) (hi : i < n) (hj : j < m) (hd : d = a i - b j) (hC : C = (zTm a n b m (a i - b j) : Int) - (zSu (zHt b m a (a i - b j)) i : Int)) (hw : (zBt C d M S ∧ S2 = d ∧ M2 = C) ∨ (¬ zBt C d M S ∧ S2 = S ∧ M2 = M)) : zIv a n b m i (j + 1) M2 S2 := by
  rw [hd] at hw
  rcases hw with ⟨h1, e1, e2⟩ | ⟨h1, e1, e2⟩
  · rw [e1, e2]; exact zIv_yes hI hi hj hC h1
  · rw [e1, e2]; exact zIv_no hI hC h1
theorem zIm_w {a b : Nat → Int} {n m i j : Nat} {M S C d M2 S2 : Int} (hI : zIm a n b m i j M S) (hi : i < n) (hj : j < m) (hd : d = a i - b j) (hC : C = (zTm a n b m (a i - b j) : Int)) (hw : (zBt C d M S ∧ S2 = d ∧ M2 = C) ∨ (¬ zBt C d M S ∧ S2 = S ∧ M2 = M)) : zIm a n b m i (j + 1) M2 S2 := by
  rw [hd, hC] at hw
  rcases hw with ⟨h1, e1, e2⟩ | ⟨h1, e1, e2⟩
  · rw [e1, e2]; exact zIm_yes hI hi hj h1
  · rw [e1, e2]; exact zIm_no hI h1
theorem zRt_s {B c : Nat} {ι : Nat → Nat → Int32} (hR : zRel B c ι) {s x y : Nat} (hs : s < 2) (hx : B + 33 + 3 * s = x) (hy : B + 34 + 3 * s = y) : (∀ k : Nat, (k : Int) < (ι x 1).toInt → 0 ≤ (ι y k).toInt ∧ (ι y k).toInt ≤ 1000000) ∧ zRi (fun k => (ι y k).toInt) (ι x 1).toInt.toNat := by
  obtain ⟨h1, h2, h3⟩ := hR.2.2.2.1 s hs
  subst hx
  subst hy
  rw [h1]
  refine ⟨fun k hk => by rw [(h2 k hk).1]; exact (h2 k hk).2, fun k hk => ?_⟩
  show (ι (B + 34 + 3 * s) k).toInt < (ι (B + 34 + 3 * s) (k + 1)).toInt
  rw [(h2 k (by omega)).1, (h2 (k + 1) (by omega)).1]
  exact h3 k (by omega)
theorem zRt_s2 {B c : Nat} {ι : Nat → Nat → Int32} (hR : zRel B c ι) (s : Nat) (hs : s < 2) : (∀ k : Nat, (k : Int) < (ι (B + 48) s).toInt → 0 ≤ (ι (B + 49) (60 * s + k)).toInt ∧ (ι (B + 49) (60 * s + k)).toInt ≤ 1000000) ∧ zRi (fun k => (ι (B + 49) (60 * s + k)).toInt) (ι (B + 48) s).toInt.toNat := by
  obtain ⟨h1, h2, h3⟩ := hR.2.2.2.1 s hs
  exact ⟨fun k hk => (h2 k hk).2, fun k hk => h3 k (by omega)⟩
theorem zHs_cong {f g : Nat → Int} {x : Int} : ∀ n, (∀ k, k < n → f k = g k) → zHs f n x = zHs g n x := by
  intro n
  induction n with
  | zero => intro _; rfl
  | succ n ih => intro h; rw [zHs, zHs, ih (fun k hk => h k (by omega)), h n (by omega)]
theorem zT_cong {a a' b b' : Nat → Int} {n m : Nat} (ha : ∀ k, k < n → a k = a' k) (hb : ∀ k, k < m → b k = b' k) (d : Int) : zTm a n b m d = zTm a' n b' m d := zSu_cong n (fun t ht => by unfold zHt; rw [ha t ht, zHs_cong m hb])
theorem zOpt_cong {a a' b b' : Nat → Int} {n m : Nat} {M S : Int} (ha : ∀ k, k < n → a k = a' k) (hb : ∀ k, k < m → b k = b' k) (h : zOpt a n b m M S) : zOpt a' n b' m M S := by
  refine ⟨fun i j hi hj => ?_, ?_⟩
  · rw [← zT_cong ha hb, ← ha i hi, ← hb j hj]; exact h.1 i j hi hj
  · obtain ⟨i, j, h1, h2, h3, h4⟩ := h.2
    exact ⟨i, j, h1, h2, by rw [← ha i h1, ← hb j h2]; exact h3, by rw [← zT_cong ha hb]; exact h4⟩

set_option maxHeartbeats 4000000 in
set_option maxRecDepth 100000 in
theorem e_X3_alike (l : Launch) (G : zG) (z : Nat) (τ : Nat → Option (Nat × Nat)) (ρ : Nat → Nat → Option Nat) (ι : Nat → Nat → Int32) (κ : Nat → Nat → Int64) {f v g w M1 M2 : Nat} (hf6 : τ f = some (6, M1)) (hv0 : ρ f 0 = some v) (hv : τ v = some (13, 60)) (hg6 : τ g = some (6, M2)) (hw0 : ρ g 0 = some w) (hw : τ w = some (13, 60)) (n1 : (ι f 1).toInt ≤ 60) (n2 : (ι g 1).toInt ≤ 60) (x y : Int32) (x0 : 0 ≤ x.toInt) (x1 : x.toInt < (ι f 1).toInt) (y0 : 0 ≤ y.toInt) (y1 : y.toInt < (ι g 1).toInt) (hva : ∀ k : Nat, (k : Int) < (ι f 1).toInt → 0 ≤ (ι v k).toInt ∧ (ι v k).toInt ≤ 1000000) (hvb : ∀ k : Nat, (k : Int) < (ι g 1).toInt → 0 ≤ (ι w k).toInt ∧ (ι w k).toInt ≤ 1000000) (hra : zRi (fun k => (ι v k).toInt) (ι f 1).toInt.toNat) (hrb : zRi (fun k => (ι w k).toInt) (ι g 1).toInt.toNat) : zM l G yX3_alike cX3_alike 9 (some .int) ({ frames := 0, cells := 0, slots := 0, locals := 0 } : Room) [.ref f, .int x, .ref g, .int y] (z, τ, ρ, ι, κ) (fun v0 s => ∃ r, v0 = some (.int r) ∧ r.toInt = (zTm (fun k => (ι v k).toInt) (ι f 1).toInt.toNat (fun k => (ι w k).toInt) (ι g 1).toInt.toNat ((ι v x.toNatClampNeg).toInt - (ι w y.toNatClampNeg).toInt) : Int) - (zSu (zHt (fun k => (ι w k).toInt) (ι g 1).toInt.toNat (fun k => (ι v k).toInt) ((ι v x.toNatClampNeg).toInt - (ι w y.toNatClampNeg).toInt)) x.toNatClampNeg : Int) ∧ s = (z, τ, ρ, ι, κ)) 0 0 := by
  refine zM_of zCd_X3_alike (Nat.le_of_ble_eq_true rfl) ?_
  intro E X hR hE
  subst hE
  show zW E G 9 (z, τ, ρ, ι, κ) 0 0 0 [(0, .ref f), (1, .int x), (2, .ref g), (3, .int y)] []
  have hxn := zclN x0
  have hyn := zclN y0
  have hvx := hva x.toNatClampNeg (by omega)
  have hvy := hvb y.toNatClampNeg (by omega)
  have hu0 : (ι v x.toNatClampNeg - ι w y.toNatClampNeg).toInt = ((ι v x.toNatClampNeg).toInt - (ι w y.toNatClampNeg).toInt) := zsubI (by omega) (by omega)
  have L24 : ∀ (u : Int32) (hu : u.toInt = ((ι v x.toNatClampNeg).toInt - (ι w y.toNatClampNeg).toInt)) (m : Nat) (i j p : Int32), (60 - i.toInt).toNat < m → 0 ≤ i.toInt → x.toInt ≤ i.toInt → i.toInt ≤ (ι f 1).toInt → 0 ≤ j.toInt → j.toInt ≤ (ι g 1).toInt → (i.toInt < (ι f 1).toInt → ∀ k : Nat, (k : Int) < j.toInt → (ι w k).toInt < (ι v i.toNatClampNeg).toInt - u.toInt) → p.toInt + (zSu (zHt (fun k => (ι w k).toInt) (ι g 1).toInt.toNat (fun k => (ι v k).toInt) u.toInt) x.toNatClampNeg : Int) = (zSu (zHt (fun k => (ι w k).toInt) (ι g 1).toInt.toNat (fun k => (ι v k).toInt) u.toInt) i.toNatClampNeg : Int) → zW E G 9 (z, τ, ρ, ι, κ) 0 0 24 [(0, .ref f), (1, .int x), (2, .ref g), (3, .int y), (4, .int u), (5, .int p), (6, .int j), (7, .int i)] [] := by
    intro u hu m
    induction m with
    | zero => intro i j p h; omega
    | succ m ih => ?_
    intro i j p hm h0 hxi hin hj0 hjm hB hp
    have hic := zclN h0
    have L45 : i.toInt < (ι f 1).toInt → ∀ (m2 : Nat) (j wd : Int32), (60 - j.toInt).toNat < m2 → 0 ≤ j.toInt → j.toInt ≤ (ι g 1).toInt → wd.toInt = (ι v i.toNatClampNeg).toInt - u.toInt → (∀ k : Nat, (k : Int) < j.toInt → (ι w k).toInt < wd.toInt) → zW E G 9 (z, τ, ρ, ι, κ) 0 0 45 [(0, .ref f), (1, .int x), (2, .ref g), (3, .int y), (4, .int u), (5, .int p), (6, .int j), (7, .int i), (8, .int wd)] [] := by
      intro hi m2
      induction m2 with
      | zero => intro j wd h; omega
      | succ m2 ih2 => ?_
      intro j wd hm2 hj hjm hwd hBw
      have hjc := zclN hj
      refine r_iload X (by rfl) dX3_alike_45 ?_
      refine r_aload_n X (by rfl) dX3_alike_47 ?_
      refine r_getI X dX3_alike_48 zF_X3_16 hg6 ?_
      refine r_icmp_ge X 72 dX3_alike_51 (by decide) (fun h51 => ?_) (fun h51 => ?_)
      · refine r_iload X (by rfl) dX3_alike_72 ?_
        refine r_aload_n X (by rfl) dX3_alike_74 ?_
        refine r_getI X dX3_alike_75 zF_X3_16 hg6 ?_
        refine r_icmp_ge X 96 dX3_alike_78 (by decide) (fun h78 => ?_) (fun h78 => ?_)
        · have ei := zinc (x := i) (by omega)
          have ei2 : (i + 1).toNatClampNeg = i.toNatClampNeg + 1 := by have := zclN (i := i + 1) (by omega); omega
          have hle := zSu_tail (f := (zHt (fun k => (ι w k).toInt) (ι g 1).toInt.toNat (fun k => (ι v k).toInt) u.toInt)) zHt_1 (a := 0) i.toNatClampNeg (Nat.zero_le _)
          rw [zSu] at hle
          have ep := zinc (x := p) (by omega)
          have hB2 : (i + 1).toInt < (ι f 1).toInt → ∀ k : Nat, (k : Int) < j.toInt → (ι w k).toInt < (ι v (i.toNatClampNeg + 1)).toInt - u.toInt := fun q k hk => by
            have h8 := hra i.toNatClampNeg (by omega)
            change (ι v i.toNatClampNeg).toInt < (ι v (i.toNatClampNeg + 1)).toInt at h8
            have h9 := hBw k hk
            omega
          have hq0 : (zHt (fun k => (ι w k).toInt) (ι g 1).toInt.toNat (fun k => (ι v k).toInt) u.toInt) i.toNatClampNeg = 0 := if_neg (fun q => by
            obtain ⟨k, k1, k2⟩ := (zHs_iff _).mp q
            change (ι w k).toInt = (ι v i.toNatClampNeg).toInt - u.toInt at k2
            have h9 := hBw k (by omega)
            omega)
          refine r_iinc X 1 (by decide) (by rfl) (by decide) dX3_alike_96 ?_
          refine r_goto X 24 dX3_alike_99 (by decide) ?_
          exact zW.loc8 (by rfl) (by rfl) (by rfl) (by rfl) (by rfl) (by rfl) (by rfl) (by rfl) (ih _ _ _ (by omega) (by omega) (by omega) (by omega) (by omega) (by omega) (by rw [ei2]; exact hB2) (by rw [ei2, zSu]; first | (rw [hq1]; omega) | (rw [hq0]; omega)))
        · refine r_aload_n X (by rfl) dX3_alike_81 ?_
          refine r_getR X dX3_alike_82 zF_X3_27 hg6 hw0 ?_
          refine r_iload X (by rfl) dX3_alike_85 ?_
          refine r_iaload X dX3_alike_87 hw (vp_in_iff.mpr ⟨hj, by omega⟩) ?_
          refine r_iload X (by rfl) dX3_alike_88 ?_
          refine r_icmp_ne X 96 dX3_alike_90 (by decide) (fun h90 => ?_) (fun h90 => ?_)
          · have ei := zinc (x := i) (by omega)
            have ei2 : (i + 1).toNatClampNeg = i.toNatClampNeg + 1 := by have := zclN (i := i + 1) (by omega); omega
            have hle := zSu_tail (f := (zHt (fun k => (ι w k).toInt) (ι g 1).toInt.toNat (fun k => (ι v k).toInt) u.toInt)) zHt_1 (a := 0) i.toNatClampNeg (Nat.zero_le _)
            rw [zSu] at hle
            have ep := zinc (x := p) (by omega)
            have hB2 : (i + 1).toInt < (ι f 1).toInt → ∀ k : Nat, (k : Int) < j.toInt → (ι w k).toInt < (ι v (i.toNatClampNeg + 1)).toInt - u.toInt := fun q k hk => by
              have h8 := hra i.toNatClampNeg (by omega)
              change (ι v i.toNatClampNeg).toInt < (ι v (i.toNatClampNeg + 1)).toInt at h8
              have h9 := hBw k hk
              omega
            have hq0 : (zHt (fun k => (ι w k).toInt) (ι g 1).toInt.toNat (fun k => (ι v k).toInt) u.toInt) i.toNatClampNeg = 0 := if_neg (fun q => by
              obtain ⟨k, k1, k2⟩ := (zHs_iff _).mp q
              change (ι w k).toInt = (ι v i.toNatClampNeg).toInt - u.toInt at k2
              rcases Nat.lt_trichotomy k j.toNatClampNeg with g | g | g
              · have h9 := hBw k (by omega); omega
              · subst g; exact h90 (Int32.toInt_inj.mp (by omega))
              · have h9 := zRi_lt hrb k g (by omega)
                change (ι w j.toNatClampNeg).toInt < (ι w k).toInt at h9
                omega)
            refine r_iinc X 1 (by decide) (by rfl) (by decide) dX3_alike_96 ?_
            refine r_goto X 24 dX3_alike_99 (by decide) ?_
            exact zW.loc8 (by rfl) (by rfl) (by rfl) (by rfl) (by rfl) (by rfl) (by rfl) (by rfl) (ih _ _ _ (by omega) (by omega) (by omega) (by omega) (by omega) (by omega) (by rw [ei2]; exact hB2) (by rw [ei2, zSu]; first | (rw [hq1]; omega) | (rw [hq0]; omega)))
          · refine r_iinc X 1 (by decide) (by rfl) (by decide) dX3_alike_93 ?_
            have ei := zinc (x := i) (by omega)
            have ei2 : (i + 1).toNatClampNeg = i.toNatClampNeg + 1 := by have := zclN (i := i + 1) (by omega); omega
            have hle := zSu_tail (f := (zHt (fun k => (ι w k).toInt) (ι g 1).toInt.toNat (fun k => (ι v k).toInt) u.toInt)) zHt_1 (a := 0) i.toNatClampNeg (Nat.zero_le _)
            rw [zSu] at hle
            have ep := zinc (x := p) (by omega)
            have hB2 : (i + 1).toInt < (ι f 1).toInt → ∀ k : Nat, (k : Int) < j.toInt → (ι w k).toInt < (ι v (i.toNatClampNeg + 1)).toInt - u.toInt := fun q k hk => by
              have h8 := hra i.toNatClampNeg (by omega)
              change (ι v i.toNatClampNeg).toInt < (ι v (i.toNatClampNeg + 1)).toInt at h8
              have h9 := hBw k hk
              omega
            have hq1 : (zHt (fun k => (ι w k).toInt) (ι g 1).toInt.toNat (fun k => (ι v k).toInt) u.toInt) i.toNatClampNeg = 1 := if_pos ((zHs_iff _).mpr ⟨j.toNatClampNeg, by omega, by
              show (ι w j.toNatClampNeg).toInt = (ι v i.toNatClampNeg).toInt - u.toInt
              rw [h90, hwd]⟩)
            refine r_iinc X 1 (by decide) (by rfl) (by decide) dX3_alike_96 ?_
            refine r_goto X 24 dX3_alike_99 (by decide) ?_
            exact zW.loc8 (by rfl) (by rfl) (by rfl) (by rfl) (by rfl) (by rfl) (by rfl) (by rfl) (ih _ _ _ (by omega) (by omega) (by omega) (by omega) (by omega) (by omega) (by rw [ei2]; exact hB2) (by rw [ei2, zSu]; first | (rw [hq1]; omega) | (rw [hq0]; omega)))
      · refine r_aload_n X (by rfl) dX3_alike_54 ?_
        refine r_getR X dX3_alike_55 zF_X3_27 hg6 hw0 ?_
        refine r_iload X (by rfl) dX3_alike_58 ?_
        refine r_iaload X dX3_alike_60 hw (vp_in_iff.mpr ⟨hj, by omega⟩) ?_
        refine r_iload X (by rfl) dX3_alike_61 ?_
        refine r_icmp_ge X 72 dX3_alike_63 (by decide) (fun h63 => ?_) (fun h63 => ?_)
        · refine r_iload X (by rfl) dX3_alike_72 ?_
          refine r_aload_n X (by rfl) dX3_alike_74 ?_
          refine r_getI X dX3_alike_75 zF_X3_16 hg6 ?_
          refine r_icmp_ge X 96 dX3_alike_78 (by decide) (fun h78 => ?_) (fun h78 => ?_)
          · have ei := zinc (x := i) (by omega)
            have ei2 : (i + 1).toNatClampNeg = i.toNatClampNeg + 1 := by have := zclN (i := i + 1) (by omega); omega
            have hle := zSu_tail (f := (zHt (fun k => (ι w k).toInt) (ι g 1).toInt.toNat (fun k => (ι v k).toInt) u.toInt)) zHt_1 (a := 0) i.toNatClampNeg (Nat.zero_le _)
            rw [zSu] at hle
            have ep := zinc (x := p) (by omega)
            have hB2 : (i + 1).toInt < (ι f 1).toInt → ∀ k : Nat, (k : Int) < j.toInt → (ι w k).toInt < (ι v (i.toNatClampNeg + 1)).toInt - u.toInt := fun q k hk => by
              have h8 := hra i.toNatClampNeg (by omega)
              change (ι v i.toNatClampNeg).toInt < (ι v (i.toNatClampNeg + 1)).toInt at h8
              have h9 := hBw k hk
              omega
            have hq0 : (zHt (fun k => (ι w k).toInt) (ι g 1).toInt.toNat (fun k => (ι v k).toInt) u.toInt) i.toNatClampNeg = 0 := if_neg (fun q => by
              obtain ⟨k, k1, k2⟩ := (zHs_iff _).mp q
              change (ι w k).toInt = (ι v i.toNatClampNeg).toInt - u.toInt at k2
              have h9 := hBw k (by omega)
              omega)
            refine r_iinc X 1 (by decide) (by rfl) (by decide) dX3_alike_96 ?_
            refine r_goto X 24 dX3_alike_99 (by decide) ?_
            exact zW.loc8 (by rfl) (by rfl) (by rfl) (by rfl) (by rfl) (by rfl) (by rfl) (by rfl) (ih _ _ _ (by omega) (by omega) (by omega) (by omega) (by omega) (by omega) (by rw [ei2]; exact hB2) (by rw [ei2, zSu]; first | (rw [hq1]; omega) | (rw [hq0]; omega)))
          · refine r_aload_n X (by rfl) dX3_alike_81 ?_
            refine r_getR X dX3_alike_82 zF_X3_27 hg6 hw0 ?_
            refine r_iload X (by rfl) dX3_alike_85 ?_
            refine r_iaload X dX3_alike_87 hw (vp_in_iff.mpr ⟨hj, by omega⟩) ?_
            refine r_iload X (by rfl) dX3_alike_88 ?_
            refine r_icmp_ne X 96 dX3_alike_90 (by decide) (fun h90 => ?_) (fun h90 => ?_)
            · have ei := zinc (x := i) (by omega)
              have ei2 : (i + 1).toNatClampNeg = i.toNatClampNeg + 1 := by have := zclN (i := i + 1) (by omega); omega
              have hle := zSu_tail (f := (zHt (fun k => (ι w k).toInt) (ι g 1).toInt.toNat (fun k => (ι v k).toInt) u.toInt)) zHt_1 (a := 0) i.toNatClampNeg (Nat.zero_le _)
              rw [zSu] at hle
              have ep := zinc (x := p) (by omega)
              have hB2 : (i + 1).toInt < (ι f 1).toInt → ∀ k : Nat, (k : Int) < j.toInt → (ι w k).toInt < (ι v (i.toNatClampNeg + 1)).toInt - u.toInt := fun q k hk => by
                have h8 := hra i.toNatClampNeg (by omega)
                change (ι v i.toNatClampNeg).toInt < (ι v (i.toNatClampNeg + 1)).toInt at h8
                have h9 := hBw k hk
                omega
              have hq0 : (zHt (fun k => (ι w k).toInt) (ι g 1).toInt.toNat (fun k => (ι v k).toInt) u.toInt) i.toNatClampNeg = 0 := if_neg (fun q => by
                obtain ⟨k, k1, k2⟩ := (zHs_iff _).mp q
                change (ι w k).toInt = (ι v i.toNatClampNeg).toInt - u.toInt at k2
                rcases Nat.lt_trichotomy k j.toNatClampNeg with g | g | g
                · have h9 := hBw k (by omega); omega
                · subst g; exact h90 (Int32.toInt_inj.mp (by omega))
                · have h9 := zRi_lt hrb k g (by omega)
                  change (ι w j.toNatClampNeg).toInt < (ι w k).toInt at h9
                  omega)
              refine r_iinc X 1 (by decide) (by rfl) (by decide) dX3_alike_96 ?_
              refine r_goto X 24 dX3_alike_99 (by decide) ?_
              exact zW.loc8 (by rfl) (by rfl) (by rfl) (by rfl) (by rfl) (by rfl) (by rfl) (by rfl) (ih _ _ _ (by omega) (by omega) (by omega) (by omega) (by omega) (by omega) (by rw [ei2]; exact hB2) (by rw [ei2, zSu]; first | (rw [hq1]; omega) | (rw [hq0]; omega)))
            · refine r_iinc X 1 (by decide) (by rfl) (by decide) dX3_alike_93 ?_
              have ei := zinc (x := i) (by omega)
              have ei2 : (i + 1).toNatClampNeg = i.toNatClampNeg + 1 := by have := zclN (i := i + 1) (by omega); omega
              have hle := zSu_tail (f := (zHt (fun k => (ι w k).toInt) (ι g 1).toInt.toNat (fun k => (ι v k).toInt) u.toInt)) zHt_1 (a := 0) i.toNatClampNeg (Nat.zero_le _)
              rw [zSu] at hle
              have ep := zinc (x := p) (by omega)
              have hB2 : (i + 1).toInt < (ι f 1).toInt → ∀ k : Nat, (k : Int) < j.toInt → (ι w k).toInt < (ι v (i.toNatClampNeg + 1)).toInt - u.toInt := fun q k hk => by
                have h8 := hra i.toNatClampNeg (by omega)
                change (ι v i.toNatClampNeg).toInt < (ι v (i.toNatClampNeg + 1)).toInt at h8
                have h9 := hBw k hk
                omega
              have hq1 : (zHt (fun k => (ι w k).toInt) (ι g 1).toInt.toNat (fun k => (ι v k).toInt) u.toInt) i.toNatClampNeg = 1 := if_pos ((zHs_iff _).mpr ⟨j.toNatClampNeg, by omega, by
                show (ι w j.toNatClampNeg).toInt = (ι v i.toNatClampNeg).toInt - u.toInt
                rw [h90, hwd]⟩)
              refine r_iinc X 1 (by decide) (by rfl) (by decide) dX3_alike_96 ?_
              refine r_goto X 24 dX3_alike_99 (by decide) ?_
              exact zW.loc8 (by rfl) (by rfl) (by rfl) (by rfl) (by rfl) (by rfl) (by rfl) (by rfl) (ih _ _ _ (by omega) (by omega) (by omega) (by omega) (by omega) (by omega) (by rw [ei2]; exact hB2) (by rw [ei2, zSu]; first | (rw [hq1]; omega) | (rw [hq0]; omega)))
        · have ej := zinc (x := j) (by omega)
          refine r_iinc X 1 (by decide) (by rfl) (by decide) dX3_alike_66 ?_
          refine r_goto X 45 dX3_alike_69 (by decide) ?_
          exact zW.loc9 (by rfl) (by rfl) (by rfl) (by rfl) (by rfl) (by rfl) (by rfl) (by rfl) (by rfl) (ih2 _ _ (by omega) (by omega) (by omega) hwd (fun k hk => by
            by_cases e : k = j.toNatClampNeg
            · subst e; exact h63
            · exact hBw k (by omega)))
    refine r_iload X (by rfl) dX3_alike_24 ?_
    refine r_aload_n X (by rfl) dX3_alike_26 ?_
    refine r_getI X dX3_alike_27 zF_X3_16 hf6 ?_
    refine r_icmp_ge X 102 dX3_alike_30 (by decide) (fun h30 => ?_) (fun h30 => ?_)
    · have hie : i.toNatClampNeg = (ι f 1).toInt.toNat := by omega
      rw [hie] at hp
      refine r_iload X (by rfl) dX3_alike_102 ?_
      refine r_ireturn X hR dX3_alike_104 rfl (Nat.zero_le _) (Nat.zero_le _) ?_
      refine ⟨_, rfl, ?_, rfl⟩
      rw [← hu, zTm]
      omega
    · have hvi := hva i.toNatClampNeg (by omega)
      have ewd : (ι v i.toNatClampNeg - u).toInt = (ι v i.toNatClampNeg).toInt - u.toInt := zsubI (by omega) (by omega)
      refine r_aload_n X (by rfl) dX3_alike_33 ?_
      refine r_getR X dX3_alike_34 zF_X3_27 hf6 hv0 ?_
      refine r_iload X (by rfl) dX3_alike_37 ?_
      refine r_iaload X dX3_alike_39 hv (vp_in_iff.mpr ⟨h0, by omega⟩) ?_
      refine r_iload X (by rfl) dX3_alike_40 ?_
      refine r_isub X dX3_alike_42 ?_
      refine r_istore X (by decide) dX3_alike_43 ?_
      exact zW.loc9 (by rfl) (by rfl) (by rfl) (by rfl) (by rfl) (by rfl) (by rfl) (by rfl) (by rfl) (L45 h30 61 _ _ (by omega) hj0 hjm ewd (fun k hk => by rw [ewd]; exact hB h30 k hk))
  refine r_aload_n X (by rfl) dX3_alike_0 ?_
  refine r_getR X dX3_alike_1 zF_X3_27 hf6 hv0 ?_
  refine r_iload_n X (by rfl) dX3_alike_4 ?_
  refine r_iaload X dX3_alike_5 hv (vp_in_iff.mpr ⟨x0, by omega⟩) ?_
  refine r_aload_n X (by rfl) dX3_alike_6 ?_
  refine r_getR X dX3_alike_7 zF_X3_27 hg6 hw0 ?_
  refine r_iload_n X (by rfl) dX3_alike_10 ?_
  refine r_iaload X dX3_alike_11 hw (vp_in_iff.mpr ⟨y0, by omega⟩) ?_
  refine r_isub X dX3_alike_12 ?_
  refine r_istore X (by decide) dX3_alike_13 ?_
  refine r_iconst X 0 (by decide) dX3_alike_15 ?_
  refine r_istore X (by decide) dX3_alike_16 ?_
  refine r_iload_n X (by rfl) dX3_alike_18 ?_
  refine r_istore X (by decide) dX3_alike_19 ?_
  refine r_iload_n X (by rfl) dX3_alike_21 ?_
  refine r_istore X (by decide) dX3_alike_22 ?_
  exact zW.loc8 (by rfl) (by rfl) (by rfl) (by rfl) (by rfl) (by rfl) (by rfl) (by rfl) (L24 (ι v x.toNatClampNeg - ι w y.toNatClampNeg) hu0 61 _ _ _ (by omega) x0 (by omega) (by omega) y0 (by omega) (fun _ k hk => by have h9 := zRi_lt hrb y.toNatClampNeg (i := k) (by omega) (by omega); change (ι w k).toInt < (ι w y.toNatClampNeg).toInt at h9; omega) (by rw [show Int32.toInt 0 = 0 from rfl]; omega))
set_option maxHeartbeats 4000000 in
set_option maxRecDepth 100000 in
theorem e_X3_weigh (l : Launch) (G : zG) (z : Nat) (τ : Nat → Option (Nat × Nat)) (ρ : Nat → Nat → Option Nat) (ι : Nat → Nat → Int32) (κ : Nat → Nat → Int64) {a M3 : Nat} (ha : τ a = some (3, M3)) (x y : Int32) (hx : -1000000 ≤ x.toInt ∧ x.toInt ≤ 1000000) (ho : -1000000 ≤ (ι a 0).toInt ∧ (ι a 0).toInt ≤ 1000000) : zM l G yX3_weigh cX3_weigh 5 none ({ frames := 1, cells := 0, slots := 0, locals := 20 } : Room) [.ref a, .int x, .int y] (z, τ, ρ, ι, κ) (fun v s => v = none ∧ ∃ ι2, s = (z, τ, ρ, ι2, κ) ∧ (∀ b, b ≠ a → ι2 b = ι b) ∧ ((zBt y.toInt x.toInt (ι a 1).toInt (ι a 0).toInt ∧ ι2 a 0 = x ∧ ι2 a 1 = y) ∨ (¬ zBt y.toInt x.toInt (ι a 1).toInt (ι a 0).toInt ∧ ι2 = ι))) 0 0 := by
  refine zM_of zCd_X3_weigh (Nat.le_of_ble_eq_true rfl) ?_
  intro E X hR hE
  subst hE
  show zW E G 5 (z, τ, ρ, ι, κ) 0 0 0 [(0, .ref a), (1, .int x), (2, .int y)] []
  have z1 := zAe_of (ι a 0).toInt
  have z2 := zAe_of x.toInt
  have a1 := zabI (x := ι a 0) (by omega)
  have a2 := zabI (x := x) (by omega)
  have a3 : ((if (ι a 0).toInt < 0 then -(ι a 0) else (ι a 0)) - (if x.toInt < 0 then -x else x)).toInt = zAe (ι a 0).toInt - zAe x.toInt := by rw [zsubI (by rw [a1, a2]; omega) (by rw [a1, a2]; omega), a1, a2]
  refine r_aload_n X (by rfl) dX3_weigh_0 ?_
  refine r_getI X dX3_weigh_1 zF_X3_7 ha ?_
  refine r_callS X dX3_weigh_4 zLS_X3_39 zCd_J9_abs_0f7a4 (c_abs _ G z τ ρ _ _ _) rfl rfl ⟨⟨rfl, rfl⟩, ⟨by decide, by decide⟩, ⟨Nat.le_of_ble_eq_true rfl, Nat.le_of_ble_eq_true rfl⟩, Nat.le_of_ble_eq_true rfl⟩ ?_
  rintro _ _ ⟨rfl, rfl⟩
  refine r_iload_n X (by rfl) dX3_weigh_7 ?_
  refine r_callS X dX3_weigh_8 zLS_X3_39 zCd_J9_abs_0f7a4 (c_abs _ G z τ ρ _ _ _) rfl rfl ⟨⟨rfl, rfl⟩, ⟨by decide, by decide⟩, ⟨Nat.le_of_ble_eq_true rfl, Nat.le_of_ble_eq_true rfl⟩, Nat.le_of_ble_eq_true rfl⟩ ?_
  rintro _ _ ⟨rfl, rfl⟩
  refine r_isub X dX3_weigh_11 ?_
  generalize hsm : (if (ι a 0).toInt < 0 then -(ι a 0) else (ι a 0)) - (if x.toInt < 0 then -x else x) = sm at a3 ⊢
  refine r_istore_n X (by decide) dX3_weigh_12 ?_
  refine r_iload_n X (by rfl) dX3_weigh_13 ?_
  refine r_if_gt X 29 dX3_weigh_14 (by decide) (fun h14 => ?_) (fun h14 => ?_)
  · refine r_iconst X 1 (by decide) dX3_weigh_29 ?_
    refine r_goto X 34 dX3_weigh_30 (by decide) ?_
    refine r_istore X (by decide) dX3_weigh_34 ?_
    refine r_iload_n X (by rfl) dX3_weigh_36 ?_
    refine r_aload_n X (by rfl) dX3_weigh_37 ?_
    refine r_getI X dX3_weigh_38 zF_X3_13 ha ?_
    refine r_icmp_gt X 57 dX3_weigh_41 (by decide) (fun h41 => ?_) (fun h41 => ?_)
    · refine r_aload_n X (by rfl) dX3_weigh_57 ?_
      refine r_iload_n X (by rfl) dX3_weigh_58 ?_
      refine r_putI X dX3_weigh_59 zF_X3_7 ha rfl rfl ?_
      refine r_aload_n X (by rfl) dX3_weigh_62 ?_
      refine r_iload_n X (by rfl) dX3_weigh_63 ?_
      refine r_putI X dX3_weigh_64 zF_X3_13 ha rfl rfl ?_
      refine r_return X hR dX3_weigh_67 (Nat.zero_le _) (Nat.zero_le _) ?_
      first
        | exact absurd h54 (by decide)
        | exact absurd rfl h54
        | exact ⟨rfl, _, rfl, fun b hb => by rw [zu_r hb, zu_r hb], Or.inl ⟨by unfold zBt; omega, by rw [zu_k (show (0 : Nat) ≠ 1 by decide), zu_s], zu_s⟩⟩
        | exact ⟨rfl, _, rfl, fun b hb => rfl, Or.inr ⟨by unfold zBt; omega, rfl⟩⟩
    · refine r_iload_n X (by rfl) dX3_weigh_44 ?_
      refine r_aload_n X (by rfl) dX3_weigh_45 ?_
      refine r_getI X dX3_weigh_46 zF_X3_13 ha ?_
      refine r_icmp_ne X 67 dX3_weigh_49 (by decide) (fun h49 => ?_) (fun h49 => ?_)
      · have e49 : ¬ y.toInt = (ι a 1).toInt := fun e => h49 (Int32.toInt_inj.mp e)
        refine r_return X hR dX3_weigh_67 (Nat.zero_le _) (Nat.zero_le _) ?_
        first
          | exact absurd h54 (by decide)
          | exact absurd rfl h54
          | exact ⟨rfl, _, rfl, fun b hb => by rw [zu_r hb, zu_r hb], Or.inl ⟨by unfold zBt; omega, by rw [zu_k (show (0 : Nat) ≠ 1 by decide), zu_s], zu_s⟩⟩
          | exact ⟨rfl, _, rfl, fun b hb => rfl, Or.inr ⟨by unfold zBt; omega, rfl⟩⟩
      · have e49 : y.toInt = (ι a 1).toInt := by rw [h49]
        refine r_iload X (by rfl) dX3_weigh_52 ?_
        refine r_if_eq X 67 dX3_weigh_54 (by decide) (fun h54 => ?_) (fun h54 => ?_)
        · refine r_return X hR dX3_weigh_67 (Nat.zero_le _) (Nat.zero_le _) ?_
          first
            | exact absurd h54 (by decide)
            | exact absurd rfl h54
            | exact ⟨rfl, _, rfl, fun b hb => by rw [zu_r hb, zu_r hb], Or.inl ⟨by unfold zBt; omega, by rw [zu_k (show (0 : Nat) ≠ 1 by decide), zu_s], zu_s⟩⟩
            | exact ⟨rfl, _, rfl, fun b hb => rfl, Or.inr ⟨by unfold zBt; omega, rfl⟩⟩
        · refine r_aload_n X (by rfl) dX3_weigh_57 ?_
          refine r_iload_n X (by rfl) dX3_weigh_58 ?_
          refine r_putI X dX3_weigh_59 zF_X3_7 ha rfl rfl ?_
          refine r_aload_n X (by rfl) dX3_weigh_62 ?_
          refine r_iload_n X (by rfl) dX3_weigh_63 ?_
          refine r_putI X dX3_weigh_64 zF_X3_13 ha rfl rfl ?_
          refine r_return X hR dX3_weigh_67 (Nat.zero_le _) (Nat.zero_le _) ?_
          first
            | exact absurd h54 (by decide)
            | exact absurd rfl h54
            | exact ⟨rfl, _, rfl, fun b hb => by rw [zu_r hb, zu_r hb], Or.inl ⟨by unfold zBt; omega, by rw [zu_k (show (0 : Nat) ≠ 1 by decide), zu_s], zu_s⟩⟩
            | exact ⟨rfl, _, rfl, fun b hb => rfl, Or.inr ⟨by unfold zBt; omega, rfl⟩⟩
  · refine r_iload_n X (by rfl) dX3_weigh_17 ?_
    refine r_if_ne X 33 dX3_weigh_18 (by decide) (fun h18 => ?_) (fun h18 => ?_)
    · have e18 : ¬ sm.toInt = 0 := fun e => h18 (Int32.toInt_inj.mp e)
      refine r_iconst X 0 (by decide) dX3_weigh_33 ?_
      refine r_istore X (by decide) dX3_weigh_34 ?_
      refine r_iload_n X (by rfl) dX3_weigh_36 ?_
      refine r_aload_n X (by rfl) dX3_weigh_37 ?_
      refine r_getI X dX3_weigh_38 zF_X3_13 ha ?_
      refine r_icmp_gt X 57 dX3_weigh_41 (by decide) (fun h41 => ?_) (fun h41 => ?_)
      · refine r_aload_n X (by rfl) dX3_weigh_57 ?_
        refine r_iload_n X (by rfl) dX3_weigh_58 ?_
        refine r_putI X dX3_weigh_59 zF_X3_7 ha rfl rfl ?_
        refine r_aload_n X (by rfl) dX3_weigh_62 ?_
        refine r_iload_n X (by rfl) dX3_weigh_63 ?_
        refine r_putI X dX3_weigh_64 zF_X3_13 ha rfl rfl ?_
        refine r_return X hR dX3_weigh_67 (Nat.zero_le _) (Nat.zero_le _) ?_
        first
          | exact absurd h54 (by decide)
          | exact absurd rfl h54
          | exact ⟨rfl, _, rfl, fun b hb => by rw [zu_r hb, zu_r hb], Or.inl ⟨by unfold zBt; omega, by rw [zu_k (show (0 : Nat) ≠ 1 by decide), zu_s], zu_s⟩⟩
          | exact ⟨rfl, _, rfl, fun b hb => rfl, Or.inr ⟨by unfold zBt; omega, rfl⟩⟩
      · refine r_iload_n X (by rfl) dX3_weigh_44 ?_
        refine r_aload_n X (by rfl) dX3_weigh_45 ?_
        refine r_getI X dX3_weigh_46 zF_X3_13 ha ?_
        refine r_icmp_ne X 67 dX3_weigh_49 (by decide) (fun h49 => ?_) (fun h49 => ?_)
        · have e49 : ¬ y.toInt = (ι a 1).toInt := fun e => h49 (Int32.toInt_inj.mp e)
          refine r_return X hR dX3_weigh_67 (Nat.zero_le _) (Nat.zero_le _) ?_
          first
            | exact absurd h54 (by decide)
            | exact absurd rfl h54
            | exact ⟨rfl, _, rfl, fun b hb => by rw [zu_r hb, zu_r hb], Or.inl ⟨by unfold zBt; omega, by rw [zu_k (show (0 : Nat) ≠ 1 by decide), zu_s], zu_s⟩⟩
            | exact ⟨rfl, _, rfl, fun b hb => rfl, Or.inr ⟨by unfold zBt; omega, rfl⟩⟩
        · have e49 : y.toInt = (ι a 1).toInt := by rw [h49]
          refine r_iload X (by rfl) dX3_weigh_52 ?_
          refine r_if_eq X 67 dX3_weigh_54 (by decide) (fun h54 => ?_) (fun h54 => ?_)
          · refine r_return X hR dX3_weigh_67 (Nat.zero_le _) (Nat.zero_le _) ?_
            first
              | exact absurd h54 (by decide)
              | exact absurd rfl h54
              | exact ⟨rfl, _, rfl, fun b hb => by rw [zu_r hb, zu_r hb], Or.inl ⟨by unfold zBt; omega, by rw [zu_k (show (0 : Nat) ≠ 1 by decide), zu_s], zu_s⟩⟩
              | exact ⟨rfl, _, rfl, fun b hb => rfl, Or.inr ⟨by unfold zBt; omega, rfl⟩⟩
          · refine r_aload_n X (by rfl) dX3_weigh_57 ?_
            refine r_iload_n X (by rfl) dX3_weigh_58 ?_
            refine r_putI X dX3_weigh_59 zF_X3_7 ha rfl rfl ?_
            refine r_aload_n X (by rfl) dX3_weigh_62 ?_
            refine r_iload_n X (by rfl) dX3_weigh_63 ?_
            refine r_putI X dX3_weigh_64 zF_X3_13 ha rfl rfl ?_
            refine r_return X hR dX3_weigh_67 (Nat.zero_le _) (Nat.zero_le _) ?_
            first
              | exact absurd h54 (by decide)
              | exact absurd rfl h54
              | exact ⟨rfl, _, rfl, fun b hb => by rw [zu_r hb, zu_r hb], Or.inl ⟨by unfold zBt; omega, by rw [zu_k (show (0 : Nat) ≠ 1 by decide), zu_s], zu_s⟩⟩
              | exact ⟨rfl, _, rfl, fun b hb => rfl, Or.inr ⟨by unfold zBt; omega, rfl⟩⟩
    · have e18 : sm.toInt = 0 := by rw [h18]; rfl
      refine r_iload_n X (by rfl) dX3_weigh_21 ?_
      refine r_aload_n X (by rfl) dX3_weigh_22 ?_
      refine r_getI X dX3_weigh_23 zF_X3_7 ha ?_
      refine r_icmp_le X 33 dX3_weigh_26 (by decide) (fun h26 => ?_) (fun h26 => ?_)
      · refine r_iconst X 0 (by decide) dX3_weigh_33 ?_
        refine r_istore X (by decide) dX3_weigh_34 ?_
        refine r_iload_n X (by rfl) dX3_weigh_36 ?_
        refine r_aload_n X (by rfl) dX3_weigh_37 ?_
        refine r_getI X dX3_weigh_38 zF_X3_13 ha ?_
        refine r_icmp_gt X 57 dX3_weigh_41 (by decide) (fun h41 => ?_) (fun h41 => ?_)
        · refine r_aload_n X (by rfl) dX3_weigh_57 ?_
          refine r_iload_n X (by rfl) dX3_weigh_58 ?_
          refine r_putI X dX3_weigh_59 zF_X3_7 ha rfl rfl ?_
          refine r_aload_n X (by rfl) dX3_weigh_62 ?_
          refine r_iload_n X (by rfl) dX3_weigh_63 ?_
          refine r_putI X dX3_weigh_64 zF_X3_13 ha rfl rfl ?_
          refine r_return X hR dX3_weigh_67 (Nat.zero_le _) (Nat.zero_le _) ?_
          first
            | exact absurd h54 (by decide)
            | exact absurd rfl h54
            | exact ⟨rfl, _, rfl, fun b hb => by rw [zu_r hb, zu_r hb], Or.inl ⟨by unfold zBt; omega, by rw [zu_k (show (0 : Nat) ≠ 1 by decide), zu_s], zu_s⟩⟩
            | exact ⟨rfl, _, rfl, fun b hb => rfl, Or.inr ⟨by unfold zBt; omega, rfl⟩⟩
        · refine r_iload_n X (by rfl) dX3_weigh_44 ?_
          refine r_aload_n X (by rfl) dX3_weigh_45 ?_
          refine r_getI X dX3_weigh_46 zF_X3_13 ha ?_
          refine r_icmp_ne X 67 dX3_weigh_49 (by decide) (fun h49 => ?_) (fun h49 => ?_)
          · have e49 : ¬ y.toInt = (ι a 1).toInt := fun e => h49 (Int32.toInt_inj.mp e)
            refine r_return X hR dX3_weigh_67 (Nat.zero_le _) (Nat.zero_le _) ?_
            first
              | exact absurd h54 (by decide)
              | exact absurd rfl h54
              | exact ⟨rfl, _, rfl, fun b hb => by rw [zu_r hb, zu_r hb], Or.inl ⟨by unfold zBt; omega, by rw [zu_k (show (0 : Nat) ≠ 1 by decide), zu_s], zu_s⟩⟩
              | exact ⟨rfl, _, rfl, fun b hb => rfl, Or.inr ⟨by unfold zBt; omega, rfl⟩⟩
          · have e49 : y.toInt = (ι a 1).toInt := by rw [h49]
            refine r_iload X (by rfl) dX3_weigh_52 ?_
            refine r_if_eq X 67 dX3_weigh_54 (by decide) (fun h54 => ?_) (fun h54 => ?_)
            · refine r_return X hR dX3_weigh_67 (Nat.zero_le _) (Nat.zero_le _) ?_
              first
                | exact absurd h54 (by decide)
                | exact absurd rfl h54
                | exact ⟨rfl, _, rfl, fun b hb => by rw [zu_r hb, zu_r hb], Or.inl ⟨by unfold zBt; omega, by rw [zu_k (show (0 : Nat) ≠ 1 by decide), zu_s], zu_s⟩⟩
                | exact ⟨rfl, _, rfl, fun b hb => rfl, Or.inr ⟨by unfold zBt; omega, rfl⟩⟩
            · refine r_aload_n X (by rfl) dX3_weigh_57 ?_
              refine r_iload_n X (by rfl) dX3_weigh_58 ?_
              refine r_putI X dX3_weigh_59 zF_X3_7 ha rfl rfl ?_
              refine r_aload_n X (by rfl) dX3_weigh_62 ?_
              refine r_iload_n X (by rfl) dX3_weigh_63 ?_
              refine r_putI X dX3_weigh_64 zF_X3_13 ha rfl rfl ?_
              refine r_return X hR dX3_weigh_67 (Nat.zero_le _) (Nat.zero_le _) ?_
              first
                | exact absurd h54 (by decide)
                | exact absurd rfl h54
                | exact ⟨rfl, _, rfl, fun b hb => by rw [zu_r hb, zu_r hb], Or.inl ⟨by unfold zBt; omega, by rw [zu_k (show (0 : Nat) ≠ 1 by decide), zu_s], zu_s⟩⟩
                | exact ⟨rfl, _, rfl, fun b hb => rfl, Or.inr ⟨by unfold zBt; omega, rfl⟩⟩
      · refine r_iconst X 1 (by decide) dX3_weigh_29 ?_
        refine r_goto X 34 dX3_weigh_30 (by decide) ?_
        refine r_istore X (by decide) dX3_weigh_34 ?_
        refine r_iload_n X (by rfl) dX3_weigh_36 ?_
        refine r_aload_n X (by rfl) dX3_weigh_37 ?_
        refine r_getI X dX3_weigh_38 zF_X3_13 ha ?_
        refine r_icmp_gt X 57 dX3_weigh_41 (by decide) (fun h41 => ?_) (fun h41 => ?_)
        · refine r_aload_n X (by rfl) dX3_weigh_57 ?_
          refine r_iload_n X (by rfl) dX3_weigh_58 ?_
          refine r_putI X dX3_weigh_59 zF_X3_7 ha rfl rfl ?_
          refine r_aload_n X (by rfl) dX3_weigh_62 ?_
          refine r_iload_n X (by rfl) dX3_weigh_63 ?_
          refine r_putI X dX3_weigh_64 zF_X3_13 ha rfl rfl ?_
          refine r_return X hR dX3_weigh_67 (Nat.zero_le _) (Nat.zero_le _) ?_
          first
            | exact absurd h54 (by decide)
            | exact absurd rfl h54
            | exact ⟨rfl, _, rfl, fun b hb => by rw [zu_r hb, zu_r hb], Or.inl ⟨by unfold zBt; omega, by rw [zu_k (show (0 : Nat) ≠ 1 by decide), zu_s], zu_s⟩⟩
            | exact ⟨rfl, _, rfl, fun b hb => rfl, Or.inr ⟨by unfold zBt; omega, rfl⟩⟩
        · refine r_iload_n X (by rfl) dX3_weigh_44 ?_
          refine r_aload_n X (by rfl) dX3_weigh_45 ?_
          refine r_getI X dX3_weigh_46 zF_X3_13 ha ?_
          refine r_icmp_ne X 67 dX3_weigh_49 (by decide) (fun h49 => ?_) (fun h49 => ?_)
          · have e49 : ¬ y.toInt = (ι a 1).toInt := fun e => h49 (Int32.toInt_inj.mp e)
            refine r_return X hR dX3_weigh_67 (Nat.zero_le _) (Nat.zero_le _) ?_
            first
              | exact absurd h54 (by decide)
              | exact absurd rfl h54
              | exact ⟨rfl, _, rfl, fun b hb => by rw [zu_r hb, zu_r hb], Or.inl ⟨by unfold zBt; omega, by rw [zu_k (show (0 : Nat) ≠ 1 by decide), zu_s], zu_s⟩⟩
              | exact ⟨rfl, _, rfl, fun b hb => rfl, Or.inr ⟨by unfold zBt; omega, rfl⟩⟩
          · have e49 : y.toInt = (ι a 1).toInt := by rw [h49]
            refine r_iload X (by rfl) dX3_weigh_52 ?_
            refine r_if_eq X 67 dX3_weigh_54 (by decide) (fun h54 => ?_) (fun h54 => ?_)
            · refine r_return X hR dX3_weigh_67 (Nat.zero_le _) (Nat.zero_le _) ?_
              first
                | exact absurd h54 (by decide)
                | exact absurd rfl h54
                | exact ⟨rfl, _, rfl, fun b hb => by rw [zu_r hb, zu_r hb], Or.inl ⟨by unfold zBt; omega, by rw [zu_k (show (0 : Nat) ≠ 1 by decide), zu_s], zu_s⟩⟩
                | exact ⟨rfl, _, rfl, fun b hb => rfl, Or.inr ⟨by unfold zBt; omega, rfl⟩⟩
            · refine r_aload_n X (by rfl) dX3_weigh_57 ?_
              refine r_iload_n X (by rfl) dX3_weigh_58 ?_
              refine r_putI X dX3_weigh_59 zF_X3_7 ha rfl rfl ?_
              refine r_aload_n X (by rfl) dX3_weigh_62 ?_
              refine r_iload_n X (by rfl) dX3_weigh_63 ?_
              refine r_putI X dX3_weigh_64 zF_X3_13 ha rfl rfl ?_
              refine r_return X hR dX3_weigh_67 (Nat.zero_le _) (Nat.zero_le _) ?_
              first
                | exact absurd h54 (by decide)
                | exact absurd rfl h54
                | exact ⟨rfl, _, rfl, fun b hb => by rw [zu_r hb, zu_r hb], Or.inl ⟨by unfold zBt; omega, by rw [zu_k (show (0 : Nat) ≠ 1 by decide), zu_s], zu_s⟩⟩
                | exact ⟨rfl, _, rfl, fun b hb => rfl, Or.inr ⟨by unfold zBt; omega, rfl⟩⟩
set_option maxHeartbeats 4000000 in
set_option maxRecDepth 100000 in
theorem e_X3_find (l : Launch) (G : zG) (z : Nat) (τ : Nat → Option (Nat × Nat)) (ρ : Nat → Nat → Option Nat) (ι : Nat → Nat → Int32) (κ : Nat → Nat → Int64) {f v g w M1 M2 : Nat} (hf6 : τ f = some (6, M1)) (hv0 : ρ f 0 = some v) (hv : τ v = some (13, 60)) (hg6 : τ g = some (6, M2)) (hw0 : ρ g 0 = some w) (hw : τ w = some (13, 60)) (n1 : (ι f 1).toInt ≤ 60) (n2 : (ι g 1).toInt ≤ 60) {a M3 : Nat} (ha : τ a = some (3, M3)) (hfa : f ≠ a) (hga : g ≠ a) (hfva : v ≠ a) (hgwa : w ≠ a) (m1 : 1 ≤ (ι f 1).toInt) (m2 : 1 ≤ (ι g 1).toInt) (hva : ∀ k : Nat, (k : Int) < (ι f 1).toInt → 0 ≤ (ι v k).toInt ∧ (ι v k).toInt ≤ 1000000) (hvb : ∀ k : Nat, (k : Int) < (ι g 1).toInt → 0 ≤ (ι w k).toInt ∧ (ι w k).toInt ≤ 1000000) (hra : zRi (fun k => (ι v k).toInt) (ι f 1).toInt.toNat) (hrb : zRi (fun k => (ι w k).toInt) (ι g 1).toInt.toNat) : zM l G yX3_find cX3_find 5 none ({ frames := 2, cells := 0, slots := 0, locals := 44 } : Room) [.ref a, .ref f, .ref g] (z, τ, ρ, ι, κ) (fun v0 s => v0 = none ∧ ∃ ι2, s = (z, τ, ρ, ι2, κ) ∧ (∀ b, b ≠ a → ι2 b = ι b) ∧ zOpt (fun k => (ι v k).toInt) (ι f 1).toInt.toNat (fun k => (ι w k).toInt) (ι g 1).toInt.toNat (ι2 a 1).toInt (ι2 a 0).toInt) 0 0 := by
  refine zM_of zCd_X3_find (Nat.le_of_ble_eq_true rfl) ?_
  intro E X hR hE
  subst hE
  show zW E G 5 (z, τ, ρ, ι, κ) 0 0 0 [(0, .ref a), (1, .ref f), (2, .ref g)] []
  have L12 : ∀ (m : Nat) (i : Int32) (ι1 : Nat → Nat → Int32), (60 - i.toInt).toNat < m → 0 ≤ i.toInt → i.toInt ≤ (ι f 1).toInt → (∀ b, b ≠ a → ι1 b = ι b) → zIv (fun k => (ι v k).toInt) (ι f 1).toInt.toNat (fun k => (ι w k).toInt) (ι g 1).toInt.toNat i.toNatClampNeg 0 (ι1 a 1).toInt (ι1 a 0).toInt → zW E G 5 (z, τ, ρ, ι1, κ) 0 0 12 [(0, .ref a), (1, .ref f), (2, .ref g), (3, .int i)] [] := by
    intro m
    induction m with
    | zero => intro i ι1 h; omega
    | succ m ih => ?_
    intro i ι1 hm h0 hin hf hI0
    have hic := zclN h0
    have L23 : i.toInt < (ι f 1).toInt → ∀ (m2 : Nat) (j : Int32) (ι2 : Nat → Nat → Int32), (60 - j.toInt).toNat < m2 → 0 ≤ j.toInt → j.toInt ≤ (ι g 1).toInt → (∀ b, b ≠ a → ι2 b = ι b) → zIv (fun k => (ι v k).toInt) (ι f 1).toInt.toNat (fun k => (ι w k).toInt) (ι g 1).toInt.toNat i.toNatClampNeg j.toNatClampNeg (ι2 a 1).toInt (ι2 a 0).toInt → zW E G 5 (z, τ, ρ, ι2, κ) 0 0 23 [(0, .ref a), (1, .ref f), (2, .ref g), (3, .int i), (4, .int j)] [] := by
      intro hi m2
      induction m2 with
      | zero => intro j ι2 h; omega
      | succ m2 ih2 => ?_
      intro j ι2 hm2 hj hjm hf2 hI
      have h17 : i.toInt < (ι2 f 1).toInt := by rw [hf2 f hfa]; exact hi
      have hjc := zclN hj
      have ej0 : j.toInt < (ι g 1).toInt → (j + 1).toInt = j.toInt + 1 ∧ (j + 1).toNatClampNeg = j.toNatClampNeg + 1 := fun q => by
        have e := zinc (x := j) (by omega)
        have := zclN (i := j + 1) (by omega)
        omega
      refine r_iload X (by rfl) dX3_find_23 ?_
      refine r_aload_n X (by rfl) dX3_find_25 ?_
      refine r_getI X dX3_find_26 zF_X3_16 hg6 ?_
      refine r_icmp_ge X 87 dX3_find_29 (by decide) (fun h29 => ?_) (fun h29 => ?_)
      · have h29b := h29
        rw [hf2 g hga] at h29b
        have ei := zinc (x := i) (by omega)
        have ei2 : (i + 1).toNatClampNeg = i.toNatClampNeg + 1 := by have := zclN (i := i + 1) (by omega); omega
        have hjme : j.toNatClampNeg = (ι g 1).toInt.toNat := by omega
        refine r_iinc X 1 (by decide) (by rfl) (by decide) dX3_find_87 ?_
        refine r_goto X 12 dX3_find_90 (by decide) ?_
        exact zW.loc4 (by rfl) (by rfl) (by rfl) (by rfl) (ih _ _ (by omega) (by omega) (by omega) hf2 (by rw [ei2]; exact zIv_row (by rw [hjme] at hI; exact hI)))
      · have h29b := h29
        rw [hf2 g hga] at h29b
        have ej := ej0 h29b
        have hii : i.toNatClampNeg < (ι f 1).toInt.toNat := by omega
        have hjj : j.toNatClampNeg < (ι g 1).toInt.toNat := by omega
        have hvi := hva i.toNatClampNeg (by omega)
        have hvj := hvb j.toNatClampNeg (by omega)
        have edd : (ι v i.toNatClampNeg - ι w j.toNatClampNeg).toInt = (ι v i.toNatClampNeg).toInt - (ι w j.toNatClampNeg).toInt := zsubI (by omega) (by omega)
        have q1 : (ι f 1 - i).toInt = (ι f 1).toInt - i.toInt := zsubI (by omega) (by omega)
        have q2 : (ι g 1 - j).toInt = (ι g 1).toInt - j.toInt := zsubI (by omega) (by omega)
        refine r_aload_n X (by rfl) dX3_find_32 ?_
        refine r_getI X dX3_find_33 zF_X3_16 hf6 ?_
        refine r_iload_n X (by rfl) dX3_find_36 ?_
        refine r_isub X dX3_find_37 ?_
        refine r_aload_n X (by rfl) dX3_find_38 ?_
        refine r_getI X dX3_find_39 zF_X3_16 hg6 ?_
        refine r_iload X (by rfl) dX3_find_42 ?_
        refine r_isub X dX3_find_44 ?_
        refine r_callS X dX3_find_45 zLS_X3_21 zCd_J9_min_7cf53 (c_min _ G z τ ρ _ _ _ _) rfl rfl ⟨⟨rfl, rfl⟩, ⟨by decide, by decide⟩, ⟨Nat.le_of_ble_eq_true rfl, Nat.le_of_ble_eq_true rfl⟩, Nat.le_of_ble_eq_true rfl⟩ ?_
        rintro _ _ ⟨rfl, rfl⟩
        refine r_aload_n X (by rfl) dX3_find_48 ?_
        refine r_getI X dX3_find_49 zF_X3_13 ha ?_
        refine r_icmp_lt X 81 dX3_find_52 (by decide) (fun h52 => ?_) (fun h52 => ?_)
        · rw [hf2 f hfa, hf2 g hga] at h52
          have hI4 := zIv_skip hI (by
            by_cases e : (ι g 1 - j).toInt < (ι f 1 - i).toInt
            · rw [if_pos e] at h52; exact Or.inr (by omega)
            · rw [if_neg e] at h52; exact Or.inl (by omega))
          refine r_iinc X 1 (by decide) (by rfl) (by decide) dX3_find_81 ?_
          refine r_goto X 23 dX3_find_84 (by decide) ?_
          exact zW.loc5 (by rfl) (by rfl) (by rfl) (by rfl) (by rfl) (ih2 _ _ (by omega) (by omega) (by omega) hf2 (by rw [ej.2]; first | exact hI3 | exact hI4))
        · refine r_aload_n X (by rfl) dX3_find_55 ?_
          refine r_aload_n X (by rfl) dX3_find_56 ?_
          refine r_getR X dX3_find_57 zF_X3_27 hf6 hv0 ?_
          refine r_iload_n X (by rfl) dX3_find_60 ?_
          refine r_iaload X dX3_find_61 hv (vp_in_iff.mpr ⟨h0, by omega⟩) ?_
          refine r_aload_n X (by rfl) dX3_find_62 ?_
          refine r_getR X dX3_find_63 zF_X3_27 hg6 hw0 ?_
          refine r_iload X (by rfl) dX3_find_66 ?_
          refine r_iaload X dX3_find_68 hw (vp_in_iff.mpr ⟨hj, by omega⟩) ?_
          refine r_isub X dX3_find_69 ?_
          refine r_aload_n X (by rfl) dX3_find_70 ?_
          refine r_iload_n X (by rfl) dX3_find_71 ?_
          refine r_aload_n X (by rfl) dX3_find_72 ?_
          refine r_iload X (by rfl) dX3_find_73 ?_
          refine r_callS X dX3_find_75 zLS_X3_31 zCd_X3_alike (e_X3_alike _ G z τ ρ _ _ hf6 hv0 hv hg6 hw0 hw (by rw [hf2 f hfa]; exact n1) (by rw [hf2 g hga]; exact n2) _ _ h0 h17 hj h29 (by rw [hf2 f hfa, hf2 v hfva]; exact hva) (by rw [hf2 g hga, hf2 w hgwa]; exact hvb) (by rw [hf2 f hfa, hf2 v hfva]; exact hra) (by rw [hf2 g hga, hf2 w hgwa]; exact hrb)) rfl rfl ⟨⟨rfl, rfl⟩, ⟨by decide, by decide⟩, ⟨Nat.le_of_ble_eq_true rfl, Nat.le_of_ble_eq_true rfl⟩, Nat.le_of_ble_eq_true rfl⟩ ?_
          rintro _ _ ⟨r, rfl, hr, rfl⟩
          rw [hf2 f hfa, hf2 v hfva, hf2 g hga, hf2 w hgwa] at hr
          refine r_callV X dX3_find_78 zLV_X3_35 zCd_X3_weigh (e_X3_weigh _ G z τ ρ _ _ ha _ _ (by rw [hf2 v hfva, hf2 w hgwa, edd]; omega) (zIv_S hva hvb hI)) ha ⟨by decide, rfl, rfl⟩ rfl rfl ⟨⟨rfl, rfl⟩, ⟨by decide, by decide⟩, ⟨Nat.le_of_ble_eq_true rfl, Nat.le_of_ble_eq_true rfl⟩, Nat.le_of_ble_eq_true rfl⟩ ?_
          rintro _ _ ⟨rfl, ι3, rfl, hf3, hw3⟩
          rw [hf2 v hfva, hf2 w hgwa, edd] at hw3
          have hI3 := zIv_w (M2 := (ι3 a 1).toInt) (S2 := (ι3 a 0).toInt) hI hii hjj rfl hr (hw3.imp (fun q => ⟨q.1, by rw [q.2.1, edd], by rw [q.2.2]⟩) (fun q => ⟨q.1, by rw [q.2], by rw [q.2]⟩))
          have hf2 : ∀ b, b ≠ a → ι3 b = ι b := fun b hb => by rw [hf3 b hb]; exact hf2 b hb
          refine r_iinc X 1 (by decide) (by rfl) (by decide) dX3_find_81 ?_
          refine r_goto X 23 dX3_find_84 (by decide) ?_
          exact zW.loc5 (by rfl) (by rfl) (by rfl) (by rfl) (by rfl) (ih2 _ _ (by omega) (by omega) (by omega) hf2 (by rw [ej.2]; first | exact hI3 | exact hI4))
    refine r_iload_n X (by rfl) dX3_find_12 ?_
    refine r_aload_n X (by rfl) dX3_find_13 ?_
    refine r_getI X dX3_find_14 zF_X3_16 hf6 ?_
    refine r_icmp_ge X 93 dX3_find_17 (by decide) (fun h17 => ?_) (fun h17 => ?_)
    · rw [hf f hfa] at h17
      refine r_return X hR dX3_find_93 (Nat.zero_le _) (Nat.zero_le _) ?_
      have hie : i.toNatClampNeg = (ι f 1).toInt.toNat := by omega
      rw [hie] at hI0
      exact ⟨rfl, _, rfl, hf, zIv_end hI0 (by omega) (by omega) hra hrb⟩
    · have h17b := h17
      rw [hf f hfa] at h17b
      refine r_iconst X 0 (by decide) dX3_find_20 ?_
      refine r_istore X (by decide) dX3_find_21 ?_
      exact zW.loc5 (by rfl) (by rfl) (by rfl) (by rfl) (by rfl) (L23 (by rw [hf f hfa] at h17; exact h17) 61 0 _ (by decide) (by decide) (by rw [show Int32.toInt 0 = 0 from rfl]; omega) hf hI0)
  refine r_aload_n X (by rfl) dX3_find_0 ?_
  refine r_iconst X 0 (by decide) dX3_find_1 ?_
  refine r_putI X dX3_find_2 zF_X3_13 ha rfl rfl ?_
  refine r_aload_n X (by rfl) dX3_find_5 ?_
  refine r_iconst X 0 (by decide) dX3_find_6 ?_
  refine r_putI X dX3_find_7 zF_X3_7 ha rfl rfl ?_
  refine r_iconst X 0 (by decide) dX3_find_10 ?_
  refine r_istore_n X (by decide) dX3_find_11 ?_
  exact zW.loc4 (by rfl) (by rfl) (by rfl) (by rfl) (L12 61 _ _ (by decide) (by decide) (by rw [show Int32.toInt 0 = 0 from rfl]; omega) (fun b hb => by simp only [zu_r hb]) (by rw [zu_k (show (1 : Nat) ≠ 0 by decide), zu_s, zu_s]; exact zIv_0))
set_option maxHeartbeats 4000000 in
set_option maxRecDepth 100000 in
theorem e_X11_match (l : Launch) (G : zG) (z : Nat) (τ : Nat → Option (Nat × Nat)) (ρ : Nat → Nat → Option Nat) (ι : Nat → Nat → Int32) (κ : Nat → Nat → Int64) {B c : Nat} (hL : zLay τ ρ B c) (hJ : zJ B c ι) (hRl : zRel B c ι) (x : Int32) : zM l G yX11_match cX11_match 2 (some .int) ({ frames := 3, cells := 0, slots := 0, locals := 68 } : Room) [.ref B, .int x] (z, τ, ρ, ι, κ) (fun v s => ∃ r ι2 κ2, v = some (.int r) ∧ s = (z, τ, ρ, ι2, κ2) ∧ zFc B c ι ι2 ∧ ((¬ ((0 ≤ x.toInt ∧ x.toInt ≤ 1) ∧ 0 < (ι (B + 33) 1).toInt ∧ 0 < (ι (B + 36) 1).toInt) ∧ r = -2000000000) ∨ (((0 ≤ x.toInt ∧ x.toInt ≤ 1) ∧ 0 < (ι (B + 33) 1).toInt ∧ 0 < (ι (B + 36) 1).toInt) ∧ ∃ M S : Int, zOpt (fun k => (ι (B + 34) k).toInt) (ι (B + 33) 1).toInt.toNat (fun k => (ι (B + 37) k).toInt) (ι (B + 36) 1).toInt.toNat M S ∧ r.toInt = (if x = 0 then S else M)))) 0 0 := by
  refine zM_of zCd_X11_match (Nat.le_of_ble_eq_true rfl) ?_
  intro E X hR hE
  subst hE
  show zW E G 2 (z, τ, ρ, ι, κ) 0 0 0 [(0, .ref B), (1, .int x)] []
  obtain ⟨h8, ⟨hc1, hc2, hc3, hc4, hc5⟩, hJm⟩ := id hJ
  have hs0 := zRt_s hRl (s := 0) (x := B + 33) (y := B + 34) (by decide) (by omega) (by omega)
  have hs1 := zRt_s hRl (s := 1) (x := B + 36) (y := B + 37) (by decide) (by omega) (by omega)
  refine r_iload_n X (by rfl) dX11_match_0 ?_
  refine r_if_lt X 9 dX11_match_1 (by decide) (fun h1 => ?_) (fun h1 => ?_)
  · refine r_ldc X zK_X11_93 dX11_match_9 ?_
    refine r_ireturn X hR dX11_match_11 rfl (Nat.zero_le _) (Nat.zero_le _) ?_
    exact ⟨_, _, _, rfl, rfl, zFc.rfl hJ, Or.inl ⟨fun q => by omega, rfl⟩⟩
  · refine r_iload_n X (by rfl) dX11_match_4 ?_
    refine r_iconst X 1 (by decide) dX11_match_5 ?_
    refine r_icmp_le X 12 dX11_match_6 (by decide) (fun h6 => ?_) (fun h6 => ?_)
    · rw [show Int32.toInt 1 = 1 from rfl] at h6
      refine r_aload_n X (by rfl) dX11_match_12 ?_
      refine r_getR X dX11_match_13 zF_X11_52 (zt hL 0 rfl) (zrf hL 6 rfl) ?_
      refine r_iconst X 0 (by decide) dX11_match_16 ?_
      refine r_aaload X dX11_match_17 (zt hL 28 rfl) (by decide) (vp_in_iff.mpr ⟨by decide, by decide⟩) (zrf hL 29 rfl) ?_
      refine r_getR X dX11_match_18 zF_X11_218 (zt hL 32 rfl) (zrf hL 32 rfl) ?_
      refine r_getI X dX11_match_21 zF_X11_117 (zt hL 33 rfl) ?_
      refine r_if_eq X 42 dX11_match_24 (by decide) (fun h24 => ?_) (fun h24 => ?_)
      · have p24 : ¬ 0 < (ι (B + 33) 1).toInt := by rw [h24]; decide
        refine r_ldc X zK_X11_93 dX11_match_42 ?_
        refine r_ireturn X hR dX11_match_44 rfl (Nat.zero_le _) (Nat.zero_le _) ?_
        exact ⟨_, _, _, rfl, rfl, zFc.rfl hJ, Or.inl ⟨fun q => by omega, rfl⟩⟩
      · have p24 : 0 < (ι (B + 33) 1).toInt := by
          rcases Int.lt_or_eq_of_le hc3.1 with q | q
          · exact q
          · exact absurd (Int32.toInt_inj.mp (by rw [← q]; rfl)) h24
        refine r_aload_n X (by rfl) dX11_match_27 ?_
        refine r_getR X dX11_match_28 zF_X11_52 (zt hL 0 rfl) (zrf hL 6 rfl) ?_
        refine r_iconst X 1 (by decide) dX11_match_31 ?_
        refine r_aaload X dX11_match_32 (zt hL 28 rfl) (by decide) (vp_in_iff.mpr ⟨by decide, by decide⟩) (zrf hL 30 rfl) ?_
        refine r_getR X dX11_match_33 zF_X11_218 (zt hL 35 rfl) (zrf hL 34 rfl) ?_
        refine r_getI X dX11_match_36 zF_X11_117 (zt hL 36 rfl) ?_
        refine r_if_ne X 45 dX11_match_39 (by decide) (fun h39 => ?_) (fun h39 => ?_)
        · have p39 : 0 < (ι (B + 36) 1).toInt := by
            rcases Int.lt_or_eq_of_le hc4.1 with q | q
            · exact q
            · exact absurd (Int32.toInt_inj.mp (by rw [← q]; rfl)) h39
          refine r_aload_n X (by rfl) dX11_match_45 ?_
          refine r_getR X dX11_match_46 zF_X11_59 (zt hL 0 rfl) (zrf hL 7 rfl) ?_
          refine r_aload_n X (by rfl) dX11_match_49 ?_
          refine r_getR X dX11_match_50 zF_X11_52 (zt hL 0 rfl) (zrf hL 6 rfl) ?_
          refine r_iconst X 0 (by decide) dX11_match_53 ?_
          refine r_aaload X dX11_match_54 (zt hL 28 rfl) (by decide) (vp_in_iff.mpr ⟨by decide, by decide⟩) (zrf hL 29 rfl) ?_
          refine r_getR X dX11_match_55 zF_X11_218 (zt hL 32 rfl) (zrf hL 32 rfl) ?_
          refine r_aload_n X (by rfl) dX11_match_58 ?_
          refine r_getR X dX11_match_59 zF_X11_52 (zt hL 0 rfl) (zrf hL 6 rfl) ?_
          refine r_iconst X 1 (by decide) dX11_match_62 ?_
          refine r_aaload X dX11_match_63 (zt hL 28 rfl) (by decide) (vp_in_iff.mpr ⟨by decide, by decide⟩) (zrf hL 30 rfl) ?_
          refine r_getR X dX11_match_64 zF_X11_218 (zt hL 35 rfl) (zrf hL 34 rfl) ?_
          refine r_callV X dX11_match_67 zLV_X11_229 zCd_X3_find (e_X3_find _ G z τ ρ _ _ (zt hL 33 rfl) (zrf hL 33 rfl) (zt hL 34 rfl) (zt hL 36 rfl) (zrf hL 35 rfl) (zt hL 37 rfl) hc3.2 hc4.2 (zt hL 29 rfl) (by omega) (by omega) (by omega) (by omega) (by omega) (by omega) hs0.1 hs1.1 hs0.2 hs1.2) (zt hL 29 rfl) ⟨by decide, rfl, rfl⟩ rfl rfl ⟨⟨rfl, rfl⟩, ⟨by decide, by decide⟩, ⟨Nat.le_of_ble_eq_true rfl, Nat.le_of_ble_eq_true rfl⟩, Nat.le_of_ble_eq_true rfl⟩ ?_
          rintro _ _ ⟨rfl, ι2, rfl, hf2, hO⟩
          refine r_iload_n X (by rfl) dX11_match_70 ?_
          refine r_if_ne X 84 dX11_match_71 (by decide) (fun h71 => ?_) (fun h71 => ?_)
          · refine r_aload_n X (by rfl) dX11_match_84 ?_
            refine r_getR X dX11_match_85 zF_X11_59 (zt hL 0 rfl) (zrf hL 7 rfl) ?_
            refine r_getI X dX11_match_88 zF_X11_236 (zt hL 29 rfl) ?_
            refine r_ireturn X hR dX11_match_91 rfl (Nat.zero_le _) (Nat.zero_le _) ?_
            exact ⟨_, _, _, rfl, rfl, zFc_fr hJ (fun b q => hf2 b (by unfold zCx at q; omega)), Or.inr ⟨⟨by omega, p24, p39⟩, _, _, hO, by rw [if_neg h71]⟩⟩
          · refine r_aload_n X (by rfl) dX11_match_74 ?_
            refine r_getR X dX11_match_75 zF_X11_59 (zt hL 0 rfl) (zrf hL 7 rfl) ?_
            refine r_getI X dX11_match_78 zF_X11_233 (zt hL 29 rfl) ?_
            refine r_goto X 91 dX11_match_81 (by decide) ?_
            refine r_ireturn X hR dX11_match_91 rfl (Nat.zero_le _) (Nat.zero_le _) ?_
            exact ⟨_, _, _, rfl, rfl, zFc_fr hJ (fun b q => hf2 b (by unfold zCx at q; omega)), Or.inr ⟨⟨by omega, p24, p39⟩, _, _, hO, by rw [if_pos h71]⟩⟩
        · have p39 : ¬ 0 < (ι (B + 36) 1).toInt := by rw [h39]; decide
          refine r_ldc X zK_X11_93 dX11_match_42 ?_
          refine r_ireturn X hR dX11_match_44 rfl (Nat.zero_le _) (Nat.zero_le _) ?_
          exact ⟨_, _, _, rfl, rfl, zFc.rfl hJ, Or.inl ⟨fun q => by omega, rfl⟩⟩
    · rw [show Int32.toInt 1 = 1 from rfl] at h6
      refine r_ldc X zK_X11_93 dX11_match_9 ?_
      refine r_ireturn X hR dX11_match_11 rfl (Nat.zero_le _) (Nat.zero_le _) ?_
      exact ⟨_, _, _, rfl, rfl, zFc.rfl hJ, Or.inl ⟨fun q => by omega, rfl⟩⟩
set_option maxHeartbeats 4000000 in
set_option maxRecDepth 100000 in
theorem e_X12_has (l : Launch) (G : zG) (z : Nat) (τ : Nat → Option (Nat × Nat)) (ρ : Nat → Nat → Option Nat) (ι : Nat → Nat → Int32) (κ : Nat → Nat → Int64) {B c : Nat} (hL : zLay τ ρ B c) (hJ : zJ B c ι) (x y : Int32) (hx : (0 ≤ x.toInt ∧ x.toInt ≤ 1)) : zM l G yX12_has cX12_has 5 (some .boolean) ({ frames := 0, cells := 0, slots := 0, locals := 0 } : Room) [.ref (B + 38), .int x, .int y] (z, τ, ρ, ι, κ) (fun v s => v = some (.int (if zHs (fun k => (ι (B + 49) (60 * x.toNatClampNeg + k)).toInt) (ι (B + 48) x.toNatClampNeg).toInt.toNat y.toInt = true then (1 : Int32) else 0)) ∧ s = (z, τ, ρ, ι, κ)) 0 0 := by
  refine zM_of zCd_X12_has (Nat.le_of_ble_eq_true rfl) ?_
  intro E X hR hE
  subst hE
  show zW E G 5 (z, τ, ρ, ι, κ) 0 0 0 [(0, .ref (B + 38)), (1, .int x), (2, .int y)] []
  obtain ⟨h8, hJc, hm1, hm2, hm3, hm4, hm5⟩ := id hJ
  have hs := hm4 x.toNatClampNeg (by have := zclN hx.1; omega)
  have hxn := zclN hx.1
  have hsn := zclN hs.1
  have L5 : ∀ (m : Nat) (i p : Int32), (60 - i.toInt).toNat < m → 0 ≤ i.toInt → i.toInt ≤ (ι (B + 48) x.toNatClampNeg).toInt → p = (if zHs (fun k => (ι (B + 49) (60 * x.toNatClampNeg + k)).toInt) i.toNatClampNeg y.toInt = true then (1 : Int32) else 0) → zW E G 5 (z, τ, ρ, ι, κ) 0 0 5 [(0, .ref (B + 38)), (1, .int x), (2, .int y), (3, .int p), (4, .int i)] [] := by
    intro m
    induction m with
    | zero => intro i p h; omega
    | succ m ih => ?_
    intro i p hm h0 hi hp
    have hic := zclN h0
    refine r_iload X (by rfl) dX12_has_5 ?_
    refine r_aload_n X (by rfl) dX12_has_7 ?_
    refine r_getR X dX12_has_8 zF_X12_42 (zt hL 38 rfl) (zrf hL 45 rfl) ?_
    refine r_iload_n X (by rfl) dX12_has_11 ?_
    refine r_iaload X dX12_has_12 (zt hL 48 rfl) (vp_in_iff.mpr ⟨hx.1, by omega⟩) ?_
    refine r_icmp_ge X 48 dX12_has_13 (by decide) (fun h13 => ?_) (fun h13 => ?_)
    · have hie : i.toNatClampNeg = (ι (B + 48) x.toNatClampNeg).toInt.toNat := by omega
      rw [hie] at hp
      refine r_iload_n X (by rfl) dX12_has_48 ?_
      refine r_ireturn X hR dX12_has_49 (by rw [hp]; split <;> decide +kernel) (Nat.zero_le _) (Nat.zero_le _) ?_
      exact ⟨by rw [hp], rfl⟩
    · refine r_iload_n X (by rfl) dX12_has_16 ?_
      refine r_if_ne X 36 dX12_has_17 (by decide) (fun h17 => ?_) (fun h17 => ?_)
      · refine r_iconst X 1 (by decide) dX12_has_36 ?_
        refine r_goto X 41 dX12_has_37 (by decide) ?_
        have ei := zinc (x := i) (by omega)
        have ei2 : (i + 1).toNatClampNeg = i.toNatClampNeg + 1 := by have := zclN (i := i + 1) (by omega); omega
        have hq : (1 : Int32) = if (zHs (fun k => (ι (B + 49) (60 * x.toNatClampNeg + k)).toInt) i.toNatClampNeg y.toInt || decide ((fun k => (ι (B + 49) (60 * x.toNatClampNeg + k)).toInt) i.toNatClampNeg = y.toInt)) = true then 1 else 0 := by
          have h9 : zHs (fun k => (ι (B + 49) (60 * x.toNatClampNeg + k)).toInt) i.toNatClampNeg y.toInt = true := by
            cases e : zHs (fun k => (ι (B + 49) (60 * x.toNatClampNeg + k)).toInt) i.toNatClampNeg y.toInt with
            | true => rfl
            | false => rw [e] at hp; exact absurd hp h17
          rw [h9]; rfl
        refine r_istore_n X (by decide) dX12_has_41 ?_
        refine r_iinc X 1 (by decide) (by rfl) (by decide) dX12_has_42 ?_
        refine r_goto X 5 dX12_has_45 (by decide) ?_
        exact zW.loc5 (by rfl) (by rfl) (by rfl) (by rfl) (by rfl) (ih _ _ (by omega) (by omega) (by omega) (by rw [ei2, zHs]; exact hq))
      · have e4 := zix60 (x := x) (q := i) hx.1 (by omega) h0 (by omega)
        refine r_aload_n X (by rfl) dX12_has_20 ?_
        refine r_getR X dX12_has_21 zF_X12_45 (zt hL 38 rfl) (zrf hL 46 rfl) ?_
        refine r_bipush X 60 (by decide) dX12_has_24 ?_
        refine r_iload_n X (by rfl) dX12_has_26 ?_
        refine r_imul X dX12_has_27 ?_
        refine r_iload X (by rfl) dX12_has_28 ?_
        refine r_iadd X dX12_has_30 ?_
        refine r_iaload X dX12_has_31 (zt hL 49 rfl) (vp_in_iff.mpr ⟨by omega, by omega⟩) ?_
        refine r_iload_n X (by rfl) dX12_has_32 ?_
        refine r_icmp_ne X 40 dX12_has_33 (by decide) (fun h33 => ?_) (fun h33 => ?_)
        · refine r_iconst X 0 (by decide) dX12_has_40 ?_
          have ei := zinc (x := i) (by omega)
          have ei2 : (i + 1).toNatClampNeg = i.toNatClampNeg + 1 := by have := zclN (i := i + 1) (by omega); omega
          have hq : (0 : Int32) = if (zHs (fun k => (ι (B + 49) (60 * x.toNatClampNeg + k)).toInt) i.toNatClampNeg y.toInt || decide ((fun k => (ι (B + 49) (60 * x.toNatClampNeg + k)).toInt) i.toNatClampNeg = y.toInt)) = true then 1 else 0 := by
            rw [e4.2] at h33
            rw [decide_eq_false (show ¬ (ι (B + 49) (60 * x.toNatClampNeg + i.toNatClampNeg)).toInt = y.toInt from fun e => h33 (Int32.toInt_inj.mp e)), Bool.or_false, ← hp, h17]
          refine r_istore_n X (by decide) dX12_has_41 ?_
          refine r_iinc X 1 (by decide) (by rfl) (by decide) dX12_has_42 ?_
          refine r_goto X 5 dX12_has_45 (by decide) ?_
          exact zW.loc5 (by rfl) (by rfl) (by rfl) (by rfl) (by rfl) (ih _ _ (by omega) (by omega) (by omega) (by rw [ei2, zHs]; exact hq))
        · refine r_iconst X 1 (by decide) dX12_has_36 ?_
          refine r_goto X 41 dX12_has_37 (by decide) ?_
          have ei := zinc (x := i) (by omega)
          have ei2 : (i + 1).toNatClampNeg = i.toNatClampNeg + 1 := by have := zclN (i := i + 1) (by omega); omega
          have hq : (1 : Int32) = if (zHs (fun k => (ι (B + 49) (60 * x.toNatClampNeg + k)).toInt) i.toNatClampNeg y.toInt || decide ((fun k => (ι (B + 49) (60 * x.toNatClampNeg + k)).toInt) i.toNatClampNeg = y.toInt)) = true then 1 else 0 := by
            rw [e4.2] at h33
            rw [decide_eq_true (show (ι (B + 49) (60 * x.toNatClampNeg + i.toNatClampNeg)).toInt = y.toInt by rw [h33]), Bool.or_true]; rfl
          refine r_istore_n X (by decide) dX12_has_41 ?_
          refine r_iinc X 1 (by decide) (by rfl) (by decide) dX12_has_42 ?_
          refine r_goto X 5 dX12_has_45 (by decide) ?_
          exact zW.loc5 (by rfl) (by rfl) (by rfl) (by rfl) (by rfl) (ih _ _ (by omega) (by omega) (by omega) (by rw [ei2, zHs]; exact hq))
  refine r_iconst X 0 (by decide) dX12_has_0 ?_
  refine r_istore_n X (by decide) dX12_has_1 ?_
  refine r_iconst X 0 (by decide) dX12_has_2 ?_
  refine r_istore X (by decide) dX12_has_3 ?_
  exact zW.loc5 (by rfl) (by rfl) (by rfl) (by rfl) (by rfl) (L5 61 _ _ (by decide) (by decide) (by rw [show Int32.toInt 0 = 0 from rfl]; omega) (by rfl))
set_option maxHeartbeats 4000000 in
set_option maxRecDepth 100000 in
theorem e_X12_match (l : Launch) (G : zG) (z : Nat) (τ : Nat → Option (Nat × Nat)) (ρ : Nat → Nat → Option Nat) (ι : Nat → Nat → Int32) (κ : Nat → Nat → Int64) {B c : Nat} (hL : zLay τ ρ B c) (hJ : zJ B c ι) (hRl : zRel B c ι) (x : Int32) : zM l G yX12_match cX12_match 9 (some .int) ({ frames := 1, cells := 0, slots := 0, locals := 25 } : Room) [.ref (B + 38), .int x] (z, τ, ρ, ι, κ) (fun v s => ∃ r, v = some (.int r) ∧ s = (z, τ, ρ, ι, κ) ∧ ((¬ ((0 ≤ x.toInt ∧ x.toInt ≤ 1) ∧ 0 < (ι (B + 48) 0).toInt ∧ 0 < (ι (B + 48) 1).toInt) ∧ r = -2000000000) ∨ (((0 ≤ x.toInt ∧ x.toInt ≤ 1) ∧ 0 < (ι (B + 48) 0).toInt ∧ 0 < (ι (B + 48) 1).toInt) ∧ ∃ M S : Int, zOpt (fun k => (ι (B + 49) k).toInt) (ι (B + 48) 0).toInt.toNat (fun k => (ι (B + 49) (60 + k)).toInt) (ι (B + 48) 1).toInt.toNat M S ∧ r.toInt = (if x = 0 then S else M)))) 0 0 := by
  refine zM_of zCd_X12_match (Nat.le_of_ble_eq_true rfl) ?_
  intro E X hR hE
  subst hE
  show zW E G 9 (z, τ, ρ, ι, κ) 0 0 0 [(0, .ref (B + 38)), (1, .int x)] []
  obtain ⟨h8, hJc, hm1, hm2, hm3, hm4, hm5⟩ := id hJ
  have hs0 := hm4 0 (by decide)
  have hs1 := hm4 1 (by decide)
  have hr0 := zRt_s2 hRl 0 (by decide)
  have hr1 := zRt_s2 hRl 1 (by decide)
  simp only [Nat.mul_zero, Nat.zero_add, Nat.mul_one] at hr0 hr1
  obtain ⟨hva, hra⟩ := hr0
  obtain ⟨hvb, hrb⟩ := hr1
  have L38 : ∀ (hxx : 0 ≤ x.toInt ∧ x.toInt ≤ 1) (hp0 : 0 < (ι (B + 48) 0).toInt) (hp1 : 0 < (ι (B + 48) 1).toInt) (m : Nat) (i p q : Int32), (60 - i.toInt).toNat < m → 0 ≤ i.toInt → i.toInt ≤ (ι (B + 48) 0).toInt → zIm (fun k => (ι (B + 49) k).toInt) (ι (B + 48) 0).toInt.toNat (fun k => (ι (B + 49) (60 + k)).toInt) (ι (B + 48) 1).toInt.toNat i.toNatClampNeg 0 q.toInt p.toInt → zW E G 9 (z, τ, ρ, ι, κ) 0 0 38 [(0, .ref (B + 38)), (1, .int x), (2, .int p), (3, .int q), (4, .int i)] [] := by
    intro hxx hp0 hp1 m
    induction m with
    | zero => intro i p q h; omega
    | succ m ih => ?_
    intro i p q hm h0 hin hI0
    have hic := zclN h0
    have L52 : ∀ (hi : i.toInt < (ι (B + 48) 0).toInt) (m2 : Nat) (j p q : Int32), (60 - j.toInt).toNat < m2 → 0 ≤ j.toInt → j.toInt ≤ (ι (B + 48) 1).toInt → zIm (fun k => (ι (B + 49) k).toInt) (ι (B + 48) 0).toInt.toNat (fun k => (ι (B + 49) (60 + k)).toInt) (ι (B + 48) 1).toInt.toNat i.toNatClampNeg j.toNatClampNeg q.toInt p.toInt → zW E G 9 (z, τ, ρ, ι, κ) 0 0 52 [(0, .ref (B + 38)), (1, .int x), (2, .int p), (3, .int q), (4, .int i), (5, .int j)] [] := by
      intro hi m2
      induction m2 with
      | zero => intro j p q h; omega
      | succ m2 ih2 => ?_
      intro j p q hm2 hj0 hjm hI
      have hjc := zclN hj0
      have L89 : ∀ (hj : j.toInt < (ι (B + 48) 1).toInt) (b : Int32) (hbd : b.toInt = (ι (B + 49) i.toNatClampNeg).toInt - (ι (B + 49) (60 + j.toNatClampNeg)).toInt) (m3 : Nat) (k y : Int32), (60 - k.toInt).toNat < m3 → 0 ≤ k.toInt → k.toInt ≤ (ι (B + 48) 1).toInt → y.toInt = (zSu (zG2 (fun k => (ι (B + 49) k).toInt) (ι (B + 48) 0).toInt.toNat (fun k => (ι (B + 49) (60 + k)).toInt) b.toInt) k.toNatClampNeg : Int) → zW E G 9 (z, τ, ρ, ι, κ) 0 0 89 [(0, .ref (B + 38)), (1, .int x), (2, .int p), (3, .int q), (4, .int i), (5, .int j), (6, .int b), (7, .int y), (8, .int k)] [] := by
        intro hj b hbd m3
        induction m3 with
        | zero => intro k y h; omega
        | succ m3 ih3 => ?_
        intro k y hm3 hk0 hkm hy
        have hkc := zclN hk0
        have hvi := hva i.toNatClampNeg (by omega)
        have hvj := hvb j.toNatClampNeg (by omega)
        refine r_iload X (by rfl) dX12_match_89 ?_
        refine r_aload_n X (by rfl) dX12_match_91 ?_
        refine r_getR X dX12_match_92 zF_X12_42 (zt hL 38 rfl) (zrf hL 45 rfl) ?_
        refine r_iconst X 1 (by decide) dX12_match_95 ?_
        refine r_iaload X dX12_match_96 (zt hL 48 rfl) (vp_in_iff.mpr ⟨by decide, by decide⟩) ?_
        refine r_icmp_ge X 137 dX12_match_97 (by decide) (fun h97 => ?_) (fun h97 => ?_)
        · have h97 : ¬ k.toInt < (ι (B + 48) 1).toInt := by intro q; first | (change (ι (B + 48) 1).toInt ≤ k.toInt at h97; omega) | (change ¬ k.toInt < (ι (B + 48) 1).toInt at h97; omega)
          have hke : k.toNatClampNeg = (ι (B + 48) 1).toInt.toNat := by omega
          rw [hke, hbd, ← zT_swap (a := (fun k => (ι (B + 49) k).toInt)) (b := (fun k => (ι (B + 49) (60 + k)).toInt)) hra hrb] at hy
          have hSb := zIm_S hva hvb hI
          have z1 := zAe_of b.toInt
          have z2 := zAe_of p.toInt
          have a1 := zabI (x := b) (by omega)
          have a2 := zabI (x := p) (by omega)
          have ej := zinc (x := j) (by omega)
          have ej2 : (j + 1).toNatClampNeg = j.toNatClampNeg + 1 := by have := zclN (i := j + 1) (by omega); omega
          refine r_iload X (by rfl) dX12_match_137 ?_
          refine r_callS X dX12_match_139 zLS_X12_199 zCd_X12_size (c_X12_size _ G z τ ρ _ _ _) rfl rfl ⟨⟨rfl, rfl⟩, ⟨by decide, by decide⟩, ⟨Nat.le_of_ble_eq_true rfl, Nat.le_of_ble_eq_true rfl⟩, Nat.le_of_ble_eq_true rfl⟩ ?_
          rintro _ _ ⟨rfl, rfl⟩
          refine r_iload_n X (by rfl) dX12_match_142 ?_
          refine r_callS X dX12_match_143 zLS_X12_199 zCd_X12_size (c_X12_size _ G z τ ρ _ _ _) rfl rfl ⟨⟨rfl, rfl⟩, ⟨by decide, by decide⟩, ⟨Nat.le_of_ble_eq_true rfl, Nat.le_of_ble_eq_true rfl⟩, Nat.le_of_ble_eq_true rfl⟩ ?_
          rintro _ _ ⟨rfl, rfl⟩
          refine r_icmp_lt X 167 dX12_match_146 (by decide) (fun h146 => ?_) (fun h146 => ?_)
          · rw [a1, a2] at h146
            refine r_iconst X 1 (by decide) dX12_match_167 ?_
            refine r_goto X 172 dX12_match_168 (by decide) ?_
            refine r_istore X (by decide) dX12_match_172 ?_
            refine r_iload X (by rfl) dX12_match_174 ?_
            refine r_iload_n X (by rfl) dX12_match_176 ?_
            refine r_icmp_gt X 191 dX12_match_177 (by decide) (fun h177 => ?_) (fun h177 => ?_)
            · refine r_iload X (by rfl) dX12_match_191 ?_
              refine r_istore_n X (by decide) dX12_match_193 ?_
              refine r_iload X (by rfl) dX12_match_194 ?_
              refine r_istore_n X (by decide) dX12_match_196 ?_
              have hI3 := zIm_w (i := i.toNatClampNeg) (j := j.toNatClampNeg) hI (by omega) (by omega) hbd hy (Or.inl ⟨by unfold zBt; omega, rfl, rfl⟩)
              refine r_iinc X 1 (by decide) (by rfl) (by decide) dX12_match_197 ?_
              refine r_goto X 52 dX12_match_200 (by decide) ?_
              exact zW.loc6 (by rfl) (by rfl) (by rfl) (by rfl) (by rfl) (by rfl) (ih2 _ _ _ (by omega) (by omega) (by omega) (by rw [ej2]; exact hI3))
            · refine r_iload X (by rfl) dX12_match_180 ?_
              refine r_iload_n X (by rfl) dX12_match_182 ?_
              refine r_icmp_ne X 197 dX12_match_183 (by decide) (fun h183 => ?_) (fun h183 => ?_)
              · have e183 : ¬ y.toInt = q.toInt := fun e => h183 (Int32.toInt_inj.mp e)
                have hI3 := zIm_w (i := i.toNatClampNeg) (j := j.toNatClampNeg) hI (by omega) (by omega) hbd hy (Or.inr ⟨by unfold zBt; omega, rfl, rfl⟩)
                refine r_iinc X 1 (by decide) (by rfl) (by decide) dX12_match_197 ?_
                refine r_goto X 52 dX12_match_200 (by decide) ?_
                exact zW.loc6 (by rfl) (by rfl) (by rfl) (by rfl) (by rfl) (by rfl) (ih2 _ _ _ (by omega) (by omega) (by omega) (by rw [ej2]; exact hI3))
              · have e183 : y.toInt = q.toInt := by rw [h183]
                refine r_iload X (by rfl) dX12_match_186 ?_
                refine r_if_eq X 197 dX12_match_188 (by decide) (fun h188 => ?_) (fun h188 => ?_)
                · exact absurd h188 (by decide)
                · refine r_iload X (by rfl) dX12_match_191 ?_
                  refine r_istore_n X (by decide) dX12_match_193 ?_
                  refine r_iload X (by rfl) dX12_match_194 ?_
                  refine r_istore_n X (by decide) dX12_match_196 ?_
                  have hI3 := zIm_w (i := i.toNatClampNeg) (j := j.toNatClampNeg) hI (by omega) (by omega) hbd hy (Or.inl ⟨by unfold zBt; omega, rfl, rfl⟩)
                  refine r_iinc X 1 (by decide) (by rfl) (by decide) dX12_match_197 ?_
                  refine r_goto X 52 dX12_match_200 (by decide) ?_
                  exact zW.loc6 (by rfl) (by rfl) (by rfl) (by rfl) (by rfl) (by rfl) (ih2 _ _ _ (by omega) (by omega) (by omega) (by rw [ej2]; exact hI3))
          · rw [a1, a2] at h146
            refine r_iload X (by rfl) dX12_match_149 ?_
            refine r_callS X dX12_match_151 zLS_X12_199 zCd_X12_size (c_X12_size _ G z τ ρ _ _ _) rfl rfl ⟨⟨rfl, rfl⟩, ⟨by decide, by decide⟩, ⟨Nat.le_of_ble_eq_true rfl, Nat.le_of_ble_eq_true rfl⟩, Nat.le_of_ble_eq_true rfl⟩ ?_
            rintro _ _ ⟨rfl, rfl⟩
            refine r_iload_n X (by rfl) dX12_match_154 ?_
            refine r_callS X dX12_match_155 zLS_X12_199 zCd_X12_size (c_X12_size _ G z τ ρ _ _ _) rfl rfl ⟨⟨rfl, rfl⟩, ⟨by decide, by decide⟩, ⟨Nat.le_of_ble_eq_true rfl, Nat.le_of_ble_eq_true rfl⟩, Nat.le_of_ble_eq_true rfl⟩ ?_
            rintro _ _ ⟨rfl, rfl⟩
            refine r_icmp_ne X 171 dX12_match_158 (by decide) (fun h158 => ?_) (fun h158 => ?_)
            · have e158 : ¬ zAe b.toInt = zAe p.toInt := fun e => h158 (Int32.toInt_inj.mp (by rw [a1, a2, e]))
              refine r_iconst X 0 (by decide) dX12_match_171 ?_
              refine r_istore X (by decide) dX12_match_172 ?_
              refine r_iload X (by rfl) dX12_match_174 ?_
              refine r_iload_n X (by rfl) dX12_match_176 ?_
              refine r_icmp_gt X 191 dX12_match_177 (by decide) (fun h177 => ?_) (fun h177 => ?_)
              · refine r_iload X (by rfl) dX12_match_191 ?_
                refine r_istore_n X (by decide) dX12_match_193 ?_
                refine r_iload X (by rfl) dX12_match_194 ?_
                refine r_istore_n X (by decide) dX12_match_196 ?_
                have hI3 := zIm_w (i := i.toNatClampNeg) (j := j.toNatClampNeg) hI (by omega) (by omega) hbd hy (Or.inl ⟨by unfold zBt; omega, rfl, rfl⟩)
                refine r_iinc X 1 (by decide) (by rfl) (by decide) dX12_match_197 ?_
                refine r_goto X 52 dX12_match_200 (by decide) ?_
                exact zW.loc6 (by rfl) (by rfl) (by rfl) (by rfl) (by rfl) (by rfl) (ih2 _ _ _ (by omega) (by omega) (by omega) (by rw [ej2]; exact hI3))
              · refine r_iload X (by rfl) dX12_match_180 ?_
                refine r_iload_n X (by rfl) dX12_match_182 ?_
                refine r_icmp_ne X 197 dX12_match_183 (by decide) (fun h183 => ?_) (fun h183 => ?_)
                · have e183 : ¬ y.toInt = q.toInt := fun e => h183 (Int32.toInt_inj.mp e)
                  have hI3 := zIm_w (i := i.toNatClampNeg) (j := j.toNatClampNeg) hI (by omega) (by omega) hbd hy (Or.inr ⟨by unfold zBt; omega, rfl, rfl⟩)
                  refine r_iinc X 1 (by decide) (by rfl) (by decide) dX12_match_197 ?_
                  refine r_goto X 52 dX12_match_200 (by decide) ?_
                  exact zW.loc6 (by rfl) (by rfl) (by rfl) (by rfl) (by rfl) (by rfl) (ih2 _ _ _ (by omega) (by omega) (by omega) (by rw [ej2]; exact hI3))
                · have e183 : y.toInt = q.toInt := by rw [h183]
                  refine r_iload X (by rfl) dX12_match_186 ?_
                  refine r_if_eq X 197 dX12_match_188 (by decide) (fun h188 => ?_) (fun h188 => ?_)
                  · have h188 := h188
                    have hI3 := zIm_w (i := i.toNatClampNeg) (j := j.toNatClampNeg) hI (by omega) (by omega) hbd hy (Or.inr ⟨by unfold zBt; omega, rfl, rfl⟩)
                    refine r_iinc X 1 (by decide) (by rfl) (by decide) dX12_match_197 ?_
                    refine r_goto X 52 dX12_match_200 (by decide) ?_
                    exact zW.loc6 (by rfl) (by rfl) (by rfl) (by rfl) (by rfl) (by rfl) (ih2 _ _ _ (by omega) (by omega) (by omega) (by rw [ej2]; exact hI3))
                  · exact absurd rfl h188
            · have e158 : zAe b.toInt = zAe p.toInt := by rw [← a1, ← a2, h158]
              refine r_iload X (by rfl) dX12_match_161 ?_
              refine r_iload_n X (by rfl) dX12_match_163 ?_
              refine r_icmp_le X 171 dX12_match_164 (by decide) (fun h164 => ?_) (fun h164 => ?_)
              · refine r_iconst X 0 (by decide) dX12_match_171 ?_
                refine r_istore X (by decide) dX12_match_172 ?_
                refine r_iload X (by rfl) dX12_match_174 ?_
                refine r_iload_n X (by rfl) dX12_match_176 ?_
                refine r_icmp_gt X 191 dX12_match_177 (by decide) (fun h177 => ?_) (fun h177 => ?_)
                · refine r_iload X (by rfl) dX12_match_191 ?_
                  refine r_istore_n X (by decide) dX12_match_193 ?_
                  refine r_iload X (by rfl) dX12_match_194 ?_
                  refine r_istore_n X (by decide) dX12_match_196 ?_
                  have hI3 := zIm_w (i := i.toNatClampNeg) (j := j.toNatClampNeg) hI (by omega) (by omega) hbd hy (Or.inl ⟨by unfold zBt; omega, rfl, rfl⟩)
                  refine r_iinc X 1 (by decide) (by rfl) (by decide) dX12_match_197 ?_
                  refine r_goto X 52 dX12_match_200 (by decide) ?_
                  exact zW.loc6 (by rfl) (by rfl) (by rfl) (by rfl) (by rfl) (by rfl) (ih2 _ _ _ (by omega) (by omega) (by omega) (by rw [ej2]; exact hI3))
                · refine r_iload X (by rfl) dX12_match_180 ?_
                  refine r_iload_n X (by rfl) dX12_match_182 ?_
                  refine r_icmp_ne X 197 dX12_match_183 (by decide) (fun h183 => ?_) (fun h183 => ?_)
                  · have e183 : ¬ y.toInt = q.toInt := fun e => h183 (Int32.toInt_inj.mp e)
                    have hI3 := zIm_w (i := i.toNatClampNeg) (j := j.toNatClampNeg) hI (by omega) (by omega) hbd hy (Or.inr ⟨by unfold zBt; omega, rfl, rfl⟩)
                    refine r_iinc X 1 (by decide) (by rfl) (by decide) dX12_match_197 ?_
                    refine r_goto X 52 dX12_match_200 (by decide) ?_
                    exact zW.loc6 (by rfl) (by rfl) (by rfl) (by rfl) (by rfl) (by rfl) (ih2 _ _ _ (by omega) (by omega) (by omega) (by rw [ej2]; exact hI3))
                  · have e183 : y.toInt = q.toInt := by rw [h183]
                    refine r_iload X (by rfl) dX12_match_186 ?_
                    refine r_if_eq X 197 dX12_match_188 (by decide) (fun h188 => ?_) (fun h188 => ?_)
                    · have h188 := h188
                      have hI3 := zIm_w (i := i.toNatClampNeg) (j := j.toNatClampNeg) hI (by omega) (by omega) hbd hy (Or.inr ⟨by unfold zBt; omega, rfl, rfl⟩)
                      refine r_iinc X 1 (by decide) (by rfl) (by decide) dX12_match_197 ?_
                      refine r_goto X 52 dX12_match_200 (by decide) ?_
                      exact zW.loc6 (by rfl) (by rfl) (by rfl) (by rfl) (by rfl) (by rfl) (ih2 _ _ _ (by omega) (by omega) (by omega) (by rw [ej2]; exact hI3))
                    · exact absurd rfl h188
              · refine r_iconst X 1 (by decide) dX12_match_167 ?_
                refine r_goto X 172 dX12_match_168 (by decide) ?_
                refine r_istore X (by decide) dX12_match_172 ?_
                refine r_iload X (by rfl) dX12_match_174 ?_
                refine r_iload_n X (by rfl) dX12_match_176 ?_
                refine r_icmp_gt X 191 dX12_match_177 (by decide) (fun h177 => ?_) (fun h177 => ?_)
                · refine r_iload X (by rfl) dX12_match_191 ?_
                  refine r_istore_n X (by decide) dX12_match_193 ?_
                  refine r_iload X (by rfl) dX12_match_194 ?_
                  refine r_istore_n X (by decide) dX12_match_196 ?_
                  have hI3 := zIm_w (i := i.toNatClampNeg) (j := j.toNatClampNeg) hI (by omega) (by omega) hbd hy (Or.inl ⟨by unfold zBt; omega, rfl, rfl⟩)
                  refine r_iinc X 1 (by decide) (by rfl) (by decide) dX12_match_197 ?_
                  refine r_goto X 52 dX12_match_200 (by decide) ?_
                  exact zW.loc6 (by rfl) (by rfl) (by rfl) (by rfl) (by rfl) (by rfl) (ih2 _ _ _ (by omega) (by omega) (by omega) (by rw [ej2]; exact hI3))
                · refine r_iload X (by rfl) dX12_match_180 ?_
                  refine r_iload_n X (by rfl) dX12_match_182 ?_
                  refine r_icmp_ne X 197 dX12_match_183 (by decide) (fun h183 => ?_) (fun h183 => ?_)
                  · have e183 : ¬ y.toInt = q.toInt := fun e => h183 (Int32.toInt_inj.mp e)
                    have hI3 := zIm_w (i := i.toNatClampNeg) (j := j.toNatClampNeg) hI (by omega) (by omega) hbd hy (Or.inr ⟨by unfold zBt; omega, rfl, rfl⟩)
                    refine r_iinc X 1 (by decide) (by rfl) (by decide) dX12_match_197 ?_
                    refine r_goto X 52 dX12_match_200 (by decide) ?_
                    exact zW.loc6 (by rfl) (by rfl) (by rfl) (by rfl) (by rfl) (by rfl) (ih2 _ _ _ (by omega) (by omega) (by omega) (by rw [ej2]; exact hI3))
                  · have e183 : y.toInt = q.toInt := by rw [h183]
                    refine r_iload X (by rfl) dX12_match_186 ?_
                    refine r_if_eq X 197 dX12_match_188 (by decide) (fun h188 => ?_) (fun h188 => ?_)
                    · exact absurd h188 (by decide)
                    · refine r_iload X (by rfl) dX12_match_191 ?_
                      refine r_istore_n X (by decide) dX12_match_193 ?_
                      refine r_iload X (by rfl) dX12_match_194 ?_
                      refine r_istore_n X (by decide) dX12_match_196 ?_
                      have hI3 := zIm_w (i := i.toNatClampNeg) (j := j.toNatClampNeg) hI (by omega) (by omega) hbd hy (Or.inl ⟨by unfold zBt; omega, rfl, rfl⟩)
                      refine r_iinc X 1 (by decide) (by rfl) (by decide) dX12_match_197 ?_
                      refine r_goto X 52 dX12_match_200 (by decide) ?_
                      exact zW.loc6 (by rfl) (by rfl) (by rfl) (by rfl) (by rfl) (by rfl) (ih2 _ _ _ (by omega) (by omega) (by omega) (by rw [ej2]; exact hI3))
        · change k.toInt < (ι (B + 48) 1).toInt at h97
          have e61 := zaddI (x := 60) (y := k) (by rw [show Int32.toInt 60 = 60 from rfl]; omega) (by rw [show Int32.toInt 60 = 60 from rfl]; omega)
          rw [show Int32.toInt 60 = 60 from rfl] at e61
          have e61c : (60 + k).toNatClampNeg = 60 + k.toNatClampNeg := by have := zclN (i := 60 + k) (by omega); omega
          have hvk := hvb k.toNatClampNeg (by omega)
          have eb : (ι (B + 49) (60 + k.toNatClampNeg) + b).toInt = (ι (B + 49) (60 + k.toNatClampNeg)).toInt + b.toInt := zaddI (by omega) (by omega)
          have ek := zinc (x := k) (by omega)
          have ek2 : (k + 1).toNatClampNeg = k.toNatClampNeg + 1 := by have := zclN (i := k + 1) (by omega); omega
          have hle := zSu_tail (f := zG2 (fun k => (ι (B + 49) k).toInt) (ι (B + 48) 0).toInt.toNat (fun k => (ι (B + 49) (60 + k)).toInt) b.toInt) zG2_1 (a := 0) k.toNatClampNeg (Nat.zero_le _)
          rw [zSu] at hle
          have ey1 : (y + 1).toInt = y.toInt + 1 := zinc (by omega)
          have ey0 : (y + 0).toInt = y.toInt := by rw [zaddI (x := y) (y := 0) (by rw [show Int32.toInt 0 = 0 from rfl]; omega) (by rw [show Int32.toInt 0 = 0 from rfl]; omega), show Int32.toInt 0 = 0 from rfl, Int.add_zero]
          refine r_iload X (by rfl) dX12_match_100 ?_
          refine r_aload_n X (by rfl) dX12_match_102 ?_
          refine r_iconst X 0 (by decide) dX12_match_103 ?_
          refine r_aload_n X (by rfl) dX12_match_104 ?_
          refine r_getR X dX12_match_105 zF_X12_45 (zt hL 38 rfl) (zrf hL 46 rfl) ?_
          refine r_bipush X 60 (by decide) dX12_match_108 ?_
          refine r_iload X (by rfl) dX12_match_110 ?_
          refine r_iadd X dX12_match_112 ?_
          refine r_iaload X dX12_match_113 (zt hL 49 rfl) (vp_in_iff.mpr ⟨by omega, by omega⟩) ?_
          refine r_iload X (by rfl) dX12_match_114 ?_
          refine r_iadd X dX12_match_116 ?_
          refine r_callV X dX12_match_117 zLV_X12_262 zCd_X12_has (e_X12_has _ G z τ ρ _ _ hL hJ _ _ (by decide)) (zt hL 38 rfl) ⟨by decide, rfl, rfl⟩ rfl rfl ⟨⟨rfl, rfl⟩, ⟨by decide, by decide⟩, ⟨Nat.le_of_ble_eq_true rfl, Nat.le_of_ble_eq_true rfl⟩, Nat.le_of_ble_eq_true rfl⟩ ?_
          rintro _ _ ⟨rfl, rfl⟩
          simp only [show (0 : Int32).toNatClampNeg = 0 from rfl, Nat.mul_zero, Nat.zero_add]
          rw [e61c]
          refine r_if_eq X 127 dX12_match_120 (by decide) (fun h120 => ?_) (fun h120 => ?_)
          · have hg0 : zG2 (fun k => (ι (B + 49) k).toInt) (ι (B + 48) 0).toInt.toNat (fun k => (ι (B + 49) (60 + k)).toInt) b.toInt k.toNatClampNeg = 0 := by
              unfold zG2
              rw [← eb]
              cases e : zHs (fun k => (ι (B + 49) k).toInt) (ι (B + 48) 0).toInt.toNat (ι (B + 49) (60 + k.toNatClampNeg) + b).toInt with
              | false => rfl
              | true => rw [e] at h120; exact absurd h120 (by decide)
            refine r_iconst X 0 (by decide) dX12_match_127 ?_
            refine r_iadd X dX12_match_128 ?_
            refine r_istore X (by decide) dX12_match_129 ?_
            refine r_iinc X 1 (by decide) (by rfl) (by decide) dX12_match_131 ?_
            refine r_goto X 89 dX12_match_134 (by decide) ?_
            exact zW.loc9 (by rfl) (by rfl) (by rfl) (by rfl) (by rfl) (by rfl) (by rfl) (by rfl) (by rfl) (ih3 _ _ (by omega) (by omega) (by omega) (by rw [ek2, zSu]; first | (rw [ey1, hg1]; omega) | (rw [ey0, hg0]; omega)))
          · have hg1 : zG2 (fun k => (ι (B + 49) k).toInt) (ι (B + 48) 0).toInt.toNat (fun k => (ι (B + 49) (60 + k)).toInt) b.toInt k.toNatClampNeg = 1 := by
              unfold zG2
              rw [← eb]
              cases e : zHs (fun k => (ι (B + 49) k).toInt) (ι (B + 48) 0).toInt.toNat (ι (B + 49) (60 + k.toNatClampNeg) + b).toInt with
              | true => rfl
              | false => rw [e] at h120; exact absurd rfl h120
            refine r_iconst X 1 (by decide) dX12_match_123 ?_
            refine r_goto X 128 dX12_match_124 (by decide) ?_
            refine r_iadd X dX12_match_128 ?_
            refine r_istore X (by decide) dX12_match_129 ?_
            refine r_iinc X 1 (by decide) (by rfl) (by decide) dX12_match_131 ?_
            refine r_goto X 89 dX12_match_134 (by decide) ?_
            exact zW.loc9 (by rfl) (by rfl) (by rfl) (by rfl) (by rfl) (by rfl) (by rfl) (by rfl) (by rfl) (ih3 _ _ (by omega) (by omega) (by omega) (by rw [ek2, zSu]; first | (rw [ey1, hg1]; omega) | (rw [ey0, hg0]; omega)))
      refine r_iload X (by rfl) dX12_match_52 ?_
      refine r_aload_n X (by rfl) dX12_match_54 ?_
      refine r_getR X dX12_match_55 zF_X12_42 (zt hL 38 rfl) (zrf hL 45 rfl) ?_
      refine r_iconst X 1 (by decide) dX12_match_58 ?_
      refine r_iaload X dX12_match_59 (zt hL 48 rfl) (vp_in_iff.mpr ⟨by decide, by decide⟩) ?_
      refine r_icmp_ge X 203 dX12_match_60 (by decide) (fun h60 => ?_) (fun h60 => ?_)
      · have h60 : ¬ j.toInt < (ι (B + 48) 1).toInt := by intro q; first | (change (ι (B + 48) 1).toInt ≤ j.toInt at h60; omega) | (change ¬ j.toInt < (ι (B + 48) 1).toInt at h60; omega)
        have hjme : j.toNatClampNeg = (ι (B + 48) 1).toInt.toNat := by omega
        have ei := zinc (x := i) (by omega)
        have ei2 : (i + 1).toNatClampNeg = i.toNatClampNeg + 1 := by have := zclN (i := i + 1) (by omega); omega
        refine r_iinc X 1 (by decide) (by rfl) (by decide) dX12_match_203 ?_
        refine r_goto X 38 dX12_match_206 (by decide) ?_
        exact zW.loc5 (by rfl) (by rfl) (by rfl) (by rfl) (by rfl) (ih _ _ _ (by omega) (by omega) (by omega) (by rw [ei2]; exact zIm_row (by rw [hjme] at hI; exact hI)))
      · change j.toInt < (ι (B + 48) 1).toInt at h60
        have e60 := zaddI (x := 60) (y := j) (by rw [show Int32.toInt 60 = 60 from rfl]; omega) (by rw [show Int32.toInt 60 = 60 from rfl]; omega)
        rw [show Int32.toInt 60 = 60 from rfl] at e60
        have e60c : (60 + j).toNatClampNeg = 60 + j.toNatClampNeg := by have := zclN (i := 60 + j) (by omega); omega
        have hvi := hva i.toNatClampNeg (by omega)
        have hvj := hvb j.toNatClampNeg (by omega)
        have ebd : (ι (B + 49) i.toNatClampNeg - ι (B + 49) (60 + j).toNatClampNeg).toInt = (ι (B + 49) i.toNatClampNeg).toInt - (ι (B + 49) (60 + j.toNatClampNeg)).toInt := by rw [e60c]; exact zsubI (by omega) (by omega)
        refine r_aload_n X (by rfl) dX12_match_63 ?_
        refine r_getR X dX12_match_64 zF_X12_45 (zt hL 38 rfl) (zrf hL 46 rfl) ?_
        refine r_iload X (by rfl) dX12_match_67 ?_
        refine r_iaload X dX12_match_69 (zt hL 49 rfl) (vp_in_iff.mpr ⟨h0, by omega⟩) ?_
        refine r_aload_n X (by rfl) dX12_match_70 ?_
        refine r_getR X dX12_match_71 zF_X12_45 (zt hL 38 rfl) (zrf hL 46 rfl) ?_
        refine r_bipush X 60 (by decide) dX12_match_74 ?_
        refine r_iload X (by rfl) dX12_match_76 ?_
        refine r_iadd X dX12_match_78 ?_
        refine r_iaload X dX12_match_79 (zt hL 49 rfl) (vp_in_iff.mpr ⟨by omega, by omega⟩) ?_
        refine r_isub X dX12_match_80 ?_
        refine r_istore X (by decide) dX12_match_81 ?_
        refine r_iconst X 0 (by decide) dX12_match_83 ?_
        refine r_istore X (by decide) dX12_match_84 ?_
        refine r_iconst X 0 (by decide) dX12_match_86 ?_
        refine r_istore X (by decide) dX12_match_87 ?_
        exact zW.loc9 (by rfl) (by rfl) (by rfl) (by rfl) (by rfl) (by rfl) (by rfl) (by rfl) (by rfl) (L89 h60 _ ebd 61 _ _ (by decide) (by decide) (by rw [show Int32.toInt 0 = 0 from rfl]; omega) (by rfl))
    refine r_iload X (by rfl) dX12_match_38 ?_
    refine r_aload_n X (by rfl) dX12_match_40 ?_
    refine r_getR X dX12_match_41 zF_X12_42 (zt hL 38 rfl) (zrf hL 45 rfl) ?_
    refine r_iconst X 0 (by decide) dX12_match_44 ?_
    refine r_iaload X dX12_match_45 (zt hL 48 rfl) (vp_in_iff.mpr ⟨by decide, by decide⟩) ?_
    refine r_icmp_ge X 209 dX12_match_46 (by decide) (fun h46 => ?_) (fun h46 => ?_)
    · refine r_iload_n X (by rfl) dX12_match_209 ?_
      refine r_if_ne X 217 dX12_match_210 (by decide) (fun h210 => ?_) (fun h210 => ?_)
      · refine r_iload_n X (by rfl) dX12_match_217 ?_
        refine r_ireturn X hR dX12_match_218 rfl (Nat.zero_le _) (Nat.zero_le _) ?_
        have hie : i.toNatClampNeg = (ι (B + 48) 0).toInt.toNat := by
          have h46 : ¬ i.toInt < (ι (B + 48) 0).toInt := by intro q; first | (change (ι (B + 48) 0).toInt ≤ i.toInt at h46; omega) | (change ¬ i.toInt < (ι (B + 48) 0).toInt at h46; omega)
          omega
        rw [hie] at hI0
        exact ⟨_, rfl, rfl, Or.inr ⟨⟨hxx, hp0, hp1⟩, _, _, zIm_end hI0 (by omega) (by omega), by rw [if_neg h210]⟩⟩
      · refine r_iload_n X (by rfl) dX12_match_213 ?_
        refine r_goto X 218 dX12_match_214 (by decide) ?_
        refine r_ireturn X hR dX12_match_218 rfl (Nat.zero_le _) (Nat.zero_le _) ?_
        have hie : i.toNatClampNeg = (ι (B + 48) 0).toInt.toNat := by
          have h46 : ¬ i.toInt < (ι (B + 48) 0).toInt := by intro q; first | (change (ι (B + 48) 0).toInt ≤ i.toInt at h46; omega) | (change ¬ i.toInt < (ι (B + 48) 0).toInt at h46; omega)
          omega
        rw [hie] at hI0
        exact ⟨_, rfl, rfl, Or.inr ⟨⟨hxx, hp0, hp1⟩, _, _, zIm_end hI0 (by omega) (by omega), by rw [if_pos h210]⟩⟩
    · change i.toInt < (ι (B + 48) 0).toInt at h46
      refine r_iconst X 0 (by decide) dX12_match_49 ?_
      refine r_istore X (by decide) dX12_match_50 ?_
      exact zW.loc6 (by rfl) (by rfl) (by rfl) (by rfl) (by rfl) (by rfl) (L52 h46 61 0 _ _ (by decide) (by decide) (by rw [show Int32.toInt 0 = 0 from rfl]; omega) hI0)
  refine r_iload_n X (by rfl) dX12_match_0 ?_
  refine r_i2l X dX12_match_1 ?_
  refine r_lconst X 0 (by decide) dX12_match_2 ?_
  refine r_lconst X 1 (by decide) dX12_match_3 ?_
  refine r_callS X dX12_match_4 zLS_X12_163 zCd_X12_in (c_X12_in _ G z τ ρ _ _ _ _ _) rfl rfl ⟨⟨rfl, rfl⟩, ⟨by decide, by decide⟩, ⟨Nat.le_of_ble_eq_true rfl, Nat.le_of_ble_eq_true rfl⟩, Nat.le_of_ble_eq_true rfl⟩ ?_
  rintro _ _ ⟨rfl, rfl⟩
  rw [Int32.toInt_toInt64, show Int64.toInt 0 = 0 from rfl, show Int64.toInt 1 = 1 from rfl]
  refine r_if_eq X 28 dX12_match_7 (by decide) (fun h7 => ?_) (fun h7 => ?_)
  · refine r_ldc X zK_X12_186 dX12_match_28 ?_
    refine r_ireturn X hR dX12_match_30 rfl (Nat.zero_le _) (Nat.zero_le _) ?_
    exact ⟨_, rfl, rfl, Or.inl ⟨fun q => by first | exact zif0 h7 q.1 | exact p16 q.2.1 | exact p25 q.2.2, rfl⟩⟩
  · refine r_aload_n X (by rfl) dX12_match_10 ?_
    refine r_getR X dX12_match_11 zF_X12_42 (zt hL 38 rfl) (zrf hL 45 rfl) ?_
    refine r_iconst X 0 (by decide) dX12_match_14 ?_
    refine r_iaload X dX12_match_15 (zt hL 48 rfl) (vp_in_iff.mpr ⟨by decide, by decide⟩) ?_
    refine r_if_eq X 28 dX12_match_16 (by decide) (fun h16 => ?_) (fun h16 => ?_)
    · have p16 : ¬ 0 < (ι (B + 48) 0).toInt := by
        have h16 : ι (B + 48) 0 = 0 := h16
        rw [h16]; decide
      refine r_ldc X zK_X12_186 dX12_match_28 ?_
      refine r_ireturn X hR dX12_match_30 rfl (Nat.zero_le _) (Nat.zero_le _) ?_
      exact ⟨_, rfl, rfl, Or.inl ⟨fun q => by first | exact zif0 h7 q.1 | exact p16 q.2.1 | exact p25 q.2.2, rfl⟩⟩
    · have h16 : ¬ ι (B + 48) 0 = 0 := h16
      have p16 : 0 < (ι (B + 48) 0).toInt := by
        rcases Int.lt_or_eq_of_le hs0.1 with q | q
        · exact q
        · exact absurd (Int32.toInt_inj.mp (by rw [← q]; rfl)) h16
      refine r_aload_n X (by rfl) dX12_match_19 ?_
      refine r_getR X dX12_match_20 zF_X12_42 (zt hL 38 rfl) (zrf hL 45 rfl) ?_
      refine r_iconst X 1 (by decide) dX12_match_23 ?_
      refine r_iaload X dX12_match_24 (zt hL 48 rfl) (vp_in_iff.mpr ⟨by decide, by decide⟩) ?_
      refine r_if_ne X 31 dX12_match_25 (by decide) (fun h25 => ?_) (fun h25 => ?_)
      · have h25 : ¬ ι (B + 48) 1 = 0 := h25
        have p25 : 0 < (ι (B + 48) 1).toInt := by
          rcases Int.lt_or_eq_of_le hs1.1 with q | q
          · exact q
          · exact absurd (Int32.toInt_inj.mp (by rw [← q]; rfl)) h25
        refine r_iconst X 0 (by decide) dX12_match_31 ?_
        refine r_istore_n X (by decide) dX12_match_32 ?_
        refine r_iconst X 0 (by decide) dX12_match_33 ?_
        refine r_istore_n X (by decide) dX12_match_34 ?_
        refine r_iconst X 0 (by decide) dX12_match_35 ?_
        refine r_istore X (by decide) dX12_match_36 ?_
        exact zW.loc5 (by rfl) (by rfl) (by rfl) (by rfl) (by rfl) (L38 (zif1 h7) p16 p25 61 _ _ _ (by decide) (by decide) (by rw [show Int32.toInt 0 = 0 from rfl]; omega) zIm_0)
      · have p25 : ¬ 0 < (ι (B + 48) 1).toInt := by
          have h25 : ι (B + 48) 1 = 0 := h25
          rw [h25]; decide
        refine r_ldc X zK_X12_186 dX12_match_28 ?_
        refine r_ireturn X hR dX12_match_30 rfl (Nat.zero_le _) (Nat.zero_le _) ?_
        exact ⟨_, rfl, rfl, Or.inl ⟨fun q => by first | exact zif0 h7 q.1 | exact p16 q.2.1 | exact p25 q.2.2, rfl⟩⟩
def zD1_match (B : Nat) (ι : Nat → Nat → Int32) (x r : Int32) : Prop := (¬ ((0 ≤ x.toInt ∧ x.toInt ≤ 1) ∧ 0 < (ι (B + 33) 1).toInt ∧ 0 < (ι (B + 36) 1).toInt) ∧ r = -2000000000) ∨ (((0 ≤ x.toInt ∧ x.toInt ≤ 1) ∧ 0 < (ι (B + 33) 1).toInt ∧ 0 < (ι (B + 36) 1).toInt) ∧ ∃ M S : Int, zOpt (fun k => (ι (B + 34) k).toInt) (ι (B + 33) 1).toInt.toNat (fun k => (ι (B + 37) k).toInt) (ι (B + 36) 1).toInt.toNat M S ∧ r.toInt = (if x = 0 then S else M))
def zD2_match (B : Nat) (ι : Nat → Nat → Int32) (x r : Int32) : Prop := (¬ ((0 ≤ x.toInt ∧ x.toInt ≤ 1) ∧ 0 < (ι (B + 48) 0).toInt ∧ 0 < (ι (B + 48) 1).toInt) ∧ r = -2000000000) ∨ (((0 ≤ x.toInt ∧ x.toInt ≤ 1) ∧ 0 < (ι (B + 48) 0).toInt ∧ 0 < (ι (B + 48) 1).toInt) ∧ ∃ M S : Int, zOpt (fun k => (ι (B + 49) k).toInt) (ι (B + 48) 0).toInt.toNat (fun k => (ι (B + 49) (60 + k)).toInt) (ι (B + 48) 1).toInt.toNat M S ∧ r.toInt = (if x = 0 then S else M))
theorem zT_match {B c : Nat} {ι ι1 : Nat → Nat → Int32} (hR : zRel B c ι) (hE : zEc B ι ι1) {x r1 r2 : Int32} (h1 : zD1_match B ι x r1) (h2 : zD2_match B ι1 x r2) : r1 = r2 := by
  obtain ⟨a1, a2, -⟩ := hR.2.2.2.1 0 (by decide)
  obtain ⟨b1, b2, -⟩ := hR.2.2.2.1 1 (by decide)
  have e48 : ∀ s, ι1 (B + 48) s = ι (B + 48) s := fun s => hE _ _ (by unfold zCc; omega) (by omega)
  have e49 : ι1 (B + 49) = ι (B + 49) := funext (fun s => hE _ _ (by unfold zCc; omega) (by omega))
  have c1 : ι (B + 33) 1 = ι (B + 48) 0 := a1
  have c2 : ι (B + 36) 1 = ι (B + 48) 1 := b1
  have d1 : ∀ k : Nat, (k : Int) < (ι (B + 48) 0).toInt → ι (B + 34) k = ι (B + 49) k := fun k hk => by
    have h := (a2 k hk).1
    rw [show 60 * 0 + k = k by omega] at h
    exact h
  have d2 : ∀ k : Nat, (k : Int) < (ι (B + 48) 1).toInt → ι (B + 37) k = ι (B + 49) (60 + k) := fun k hk => by
    have h := (b2 k hk).1
    rw [show 60 * 1 + k = 60 + k by omega] at h
    exact h
  unfold zD1_match at h1
  unfold zD2_match at h2
  rw [e48, e48, e49] at h2
  rw [c1, c2] at h1
  rcases h1 with ⟨h0, rfl⟩ | ⟨h0, M1, S1, o1, q1⟩ <;> rcases h2 with ⟨g0, rfl⟩ | ⟨g0, M2, S2, o2, q2⟩
  · rfl
  · exact absurd g0 h0
  · exact absurd h0 g0
  · have h := zOpt_uniq (zOpt_cong (fun k hk => by show (ι (B + 34) k).toInt = (ι (B + 49) k).toInt; rw [d1 k (by omega)]) (fun k hk => by show (ι (B + 37) k).toInt = (ι (B + 49) (60 + k)).toInt; rw [d2 k (by omega)]) o1) o2
    rw [h.1, h.2] at q1
    exact Int32.toInt_inj.mp (by rw [q1, q2])
